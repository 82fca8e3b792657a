/-! the calls in pairs: death, feed, statute -/
theorem c_death {μ : j_M} (h : Inv μ) (a b : Int32) : I_pr yX9_death yX10_death [.int a, .int b] μ := by
  obtain ⟨np, nt, ng, nl, ns, nn, nq, L, hI⟩ := id h
  obtain ⟨hA, hP, hT, hG, hD, hS, hN, hQ, hV⟩ := id hI
  have n30 := hP.2.2.1
  have x1 := hP.1
  have x2 := hP.2.1
  obtain ⟨p1, p2, p3, p4, p5, p6⟩ := hP.2.2.2.1
  have key : (g_mast (nI np) (μ 5) (μ 4) a ∧ ¬ a = b ∧ (b = -1 ∨ g_mast (nI np) (μ 5) (μ 4) b)) ↔ (g_mast (nI np) (μ 5) (μ 4) a ∧ (b = -1 ∨ (g_mast (nI np) (μ 5) (μ 4) b ∧ ¬ b = a))) := by
    constructor
    · rintro ⟨x, y, z⟩
      exact ⟨x, z.imp id (fun w => ⟨w, fun e => y e.symm⟩)⟩
    · rintro ⟨x, z⟩
      refine ⟨x, ?_, z.imp id (fun w => w.1)⟩
      rcases z with e | e
      · intro w
        have := x.1
        rw [w, e] at this
        exact absurd this (by decide)
      · exact fun w => e.2 w.symm
  refine ⟨3, _, by decide, f_X9_death μ a b x1 n30, ?_⟩
  intro r1 m1 hx
  unfold g_death g_dc at hx
  rw [x1, hA.1] at hx
  rcases hx with ⟨c, rfl, hm⟩ | ⟨c, rfl, rfl⟩
  · by_cases e : b = -1
    · rw [if_pos e] at hm
      subst hm
      refine ⟨⟨_, rfl⟩, 3, _, by decide, f_X10_death _ a b (n := np) (by simp only [t_0, j_us, j_un, u_s, u_n, j_rs, j_rn', ne_eq, Nat.reduceEqDiff, not_false_eq_true]; exact x2) n30, ?_⟩
      intro r2 m2 hq
      unfold q_death q_dc at hq
      rw [if_pos e] at hq
      simp only [t_0, j_us, j_un, u_s, u_n, j_rs, j_rn', ne_eq, Nat.reduceEqDiff, not_false_eq_true, x2, p3, p4, p5] at hq
      rcases hq with ⟨c', rfl, rfl⟩ | ⟨c', rfl, rfl⟩
      · refine ⟨⟨1, rfl, rfl⟩, np, nt, ng, nl, ns, nn, nq, L, ?_⟩
        unfold I_all
        simp only [t_0, j_us, j_un, u_s, u_n, j_rs, j_rn', ne_eq, Nat.reduceEqDiff, not_false_eq_true, p4]
        refine ⟨hA, ?_, hT, hG, hD, hS, hN, hQ, hV⟩
        have := (hP.die a.toNatClampNeg (μ 42 1) c.1.2.2.2).shop (k_bury a b (upd (μ 6) a.toNatClampNeg (-1)) np)
        rw [p4] at this
        exact this
      · exact absurd (key.mp c) c'
    · rw [if_neg e] at hm
      subst hm
      refine ⟨⟨_, rfl⟩, 3, _, by decide, f_X10_death _ a b (n := np) (by simp only [t_0, j_us, j_un, u_s, u_n, j_rs, j_rn', ne_eq, Nat.reduceEqDiff, not_false_eq_true]; exact x2) n30, ?_⟩
      intro r2 m2 hq
      unfold q_death q_dc at hq
      rw [if_neg e] at hq
      simp only [t_0, j_us, j_un, u_s, u_n, j_rs, j_rn', ne_eq, Nat.reduceEqDiff, not_false_eq_true, x2, p3, p4, p5] at hq
      rcases hq with ⟨c', rfl, rfl⟩ | ⟨c', rfl, rfl⟩
      · refine ⟨⟨1, rfl, rfl⟩, np, nt, ng, nl, ns, nn, nq, L, ?_⟩
        unfold I_all
        simp only [t_0, j_us, j_un, u_s, u_n, j_rs, j_rn', ne_eq, Nat.reduceEqDiff, not_false_eq_true, p4, p6]
        refine ⟨hA, ?_, hT, hG, hD, hS, hN, hQ, hV⟩
        have := ((hP.die a.toNatClampNeg (μ 42 1) c.1.2.2.2).shop (k_bury a b (upd (μ 6) a.toNatClampNeg (-1)) np)).exc (upd (μ 7) b.toNatClampNeg (μ 42 1 + 100))
        rw [p4] at this
        exact this
      · exact absurd (key.mp c) c'
  · refine ⟨⟨_, rfl⟩, 3, _, by decide, f_X10_death _ a b (n := np) x2 n30, ?_⟩
    intro r2 m2 hq
    unfold q_death q_dc at hq
    rw [t_0s m1 (show (2 : Nat) ≠ 0 by decide), t_0o m1 (show (45 : Nat) ≠ 42 by decide), t_0o m1 (show (46 : Nat) ≠ 42 by decide), x2, p3, p4] at hq
    rcases hq with ⟨c', rfl, rfl⟩ | ⟨c', rfl, rfl⟩
    · exact absurd (key.mpr c') c
    · exact ⟨⟨0, rfl, rfl⟩, h.t0⟩
/-- a sign put behind a text -/
def d_put (b : Int32 → Int32) (s : Int32 × (Nat → Int32)) (c : Int32) : Int32 × (Nat → Int32) := if c = 0 then s else if s.1 < 120 then (s.1 + 1, upd s.2 s.1.toNatClampNeg (b c)) else s
theorem k_put_d (μ : j_M) (c : Int32) : (k_put μ c 21 1, k_put μ c 22) = d_put id (μ 21 1, μ 22) c ∧ ∀ b, b ≠ 21 → b ≠ 22 → k_put μ c b = μ b := by
  unfold k_put d_put
  by_cases e : c = 0
  · rw [if_pos e, if_pos e]
    exact ⟨rfl, fun _ _ _ => rfl⟩
  · rw [if_neg e, if_neg e]
    dsimp only
    by_cases e2 : μ 21 1 < 120
    · rw [if_pos e2, if_pos e2]
      refine ⟨?_, fun b h1 h2 => by rw [j_un _ _ _ h1, j_un _ _ _ h2]⟩
      simp only [t_0, j_us, j_un, u_s, u_n, j_rs, j_rn', ne_eq, Nat.reduceEqDiff, not_false_eq_true, id]
    · rw [if_neg e2, if_neg e2]
      exact ⟨rfl, fun _ _ _ => rfl⟩
theorem q_put_d (μ : j_M) (c : Int32) : (q_put μ c 42 8, q_put μ c 59) = d_put b_sg (μ 42 8, μ 59) c ∧ (∀ b, b ≠ 42 → b ≠ 59 → q_put μ c b = μ b) ∧ ∀ j, j ≠ 8 → q_put μ c 42 j = μ 42 j := by
  unfold q_put d_put
  by_cases e : c = 0
  · rw [if_pos e, if_pos e]
    exact ⟨rfl, fun _ _ _ => rfl, fun _ _ => rfl⟩
  · rw [if_neg e, if_neg e]
    dsimp only
    by_cases e2 : μ 42 8 < 120
    · rw [if_pos e2, if_pos e2]
      refine ⟨?_, fun b h1 h2 => by rw [j_un _ _ _ h1, j_un _ _ _ h2], fun j hj => by rw [j_us, u_n _ _ hj, j_un _ _ _ (by decide)]⟩
      simp only [t_0, j_us, j_un, u_s, u_n, j_rs, j_rn', ne_eq, Nat.reduceEqDiff, not_false_eq_true]
    · rw [if_neg e2, if_neg e2]
      exact ⟨rfl, fun _ _ _ => rfl, fun _ _ => rfl⟩
theorem I_D.step {s t : Int32 × (Nat → Int32)} {nl : Nat} (h : I_D s.1 t.1 s.2 t.2 nl) {c : Int32} (h0 : 0 ≤ c) (h1 : c ≤ 255) : ∃ n', I_D (d_put id s c).1 (d_put b_sg t c).1 (d_put id s c).2 (d_put b_sg t c).2 n' := by
  unfold d_put
  by_cases e : c = 0
  · rw [if_pos e, if_pos e]
    exact ⟨nl, h⟩
  · rw [if_neg e, if_neg e]
    obtain ⟨a1, a2, a3, a4⟩ := id h
    rw [a1, a2]
    by_cases e2 : nI nl < 120
    · rw [if_pos e2, if_pos e2]
      have l := (nI_lt' (a := nl) (b := 120) (by omega) (by omega)).mp e2
      refine ⟨nl + 1, ?_⟩
      dsimp only [id]
      rw [nI_1, nI_cl' (show nl < 1000000 by omega)]
      exact h.put l h0 h1
    · rw [if_neg e2, if_neg e2]
      exact ⟨nl, h⟩
theorem k_fed_d (μ : j_M) (b : Int32) : (k_fed μ b 21 1, k_fed μ b 22) = d_put id (d_put id (d_put id (d_put id (μ 21 1, μ 22) (k_by b 24)) (k_by b 16)) (k_by b 8)) (k_by b 0) ∧ ∀ c, c ≠ 21 → c ≠ 22 → k_fed μ b c = μ c := by
  unfold k_fed
  refine ⟨?_, fun c h1 h2 => ?_⟩
  · rw [(k_put_d _ (k_by b 0)).1, (k_put_d _ (k_by b 8)).1, (k_put_d _ (k_by b 16)).1, (k_put_d _ (k_by b 24)).1]
  · rw [(k_put_d _ (k_by b 0)).2 c h1 h2, (k_put_d _ (k_by b 8)).2 c h1 h2, (k_put_d _ (k_by b 16)).2 c h1 h2, (k_put_d _ (k_by b 24)).2 c h1 h2]
theorem q_fed_d (μ : j_M) (b : Int32) : (q_fed μ b 42 8, q_fed μ b 59) = d_put b_sg (d_put b_sg (d_put b_sg (d_put b_sg (μ 42 8, μ 59) (k_by b 24)) (k_by b 16)) (k_by b 8)) (k_by b 0) ∧ (∀ c, c ≠ 42 → c ≠ 59 → q_fed μ b c = μ c) ∧ ∀ j, j ≠ 8 → q_fed μ b 42 j = μ 42 j := by
  unfold q_fed
  refine ⟨?_, fun c h1 h2 => ?_, fun j hj => ?_⟩
  · rw [(q_put_d _ (k_by b 0)).1, (q_put_d _ (k_by b 8)).1, (q_put_d _ (k_by b 16)).1, (q_put_d _ (k_by b 24)).1]
  · rw [(q_put_d _ (k_by b 0)).2.1 c h1 h2, (q_put_d _ (k_by b 8)).2.1 c h1 h2, (q_put_d _ (k_by b 16)).2.1 c h1 h2, (q_put_d _ (k_by b 24)).2.1 c h1 h2]
  · rw [(q_put_d _ (k_by b 0)).2.2 j hj, (q_put_d _ (k_by b 8)).2.2 j hj, (q_put_d _ (k_by b 16)).2.2 j hj, (q_put_d _ (k_by b 24)).2.2 j hj]
theorem c_feed {μ : j_M} (h : Inv μ) (b : Int32) : I_pr yX9_feed yX10_feed [.int b] μ := by
  obtain ⟨np, nt, ng, nl, ns, nn, nq, L, hI⟩ := id h
  obtain ⟨hA, hP, hT, hG, hD, hS, hN, hQ, hV⟩ := id hI
  have n120 := hD.2.2.1
  have x1 := hD.1
  have x2 := hD.2.1
  refine ⟨2, _, by decide, f_X9_feed μ b (by rw [x1]; exact nI_ge0 (by omega)), ?_⟩
  intro r1 m1 hx
  unfold g_feed at hx
  rcases hx with ⟨c, rfl, rfl⟩ | ⟨c, rfl, rfl⟩
  · obtain ⟨k1, k2⟩ := k_fed_d μ b
    generalize k_fed μ b = m1 at k1 k2 ⊢
    refine ⟨⟨_, rfl⟩, 0, _, by decide, f_X10_feed m1 b (l := nl) (by rw [k2 42 (by decide) (by decide)]; exact x2) n120, ?_⟩
    intro r2 m2 hq
    unfold q_feed at hq
    rcases hq with ⟨c', rfl, rfl⟩ | ⟨c', rfl, rfl⟩
    · obtain ⟨q1, q2, q3⟩ := q_fed_d (t_0 m1) b
      generalize q_fed (t_0 m1) b = m2 at q1 q2 q3 ⊢
      rw [t_0s m1 (by decide), t_0o m1 (by decide), k2 42 (by decide) (by decide), k2 59 (by decide) (by decide)] at q1
      obtain ⟨n1, s1⟩ := I_D.step (s := (μ 21 1, μ 22)) (t := (μ 42 8, μ 59)) hD (k_by_in b 24).1 (k_by_in b 24).2
      obtain ⟨n2, s2⟩ := s1.step (k_by_in b 16).1 (k_by_in b 16).2
      obtain ⟨n3, s3⟩ := s2.step (k_by_in b 8).1 (k_by_in b 8).2
      obtain ⟨n4, s4⟩ := s3.step (k_by_in b 0).1 (k_by_in b 0).2
      rw [← k1, ← q1] at s4
      dsimp only at s4
      refine ⟨⟨nI n4, by rw [s4.1], by rw [s4.2.1]⟩, np, nt, ng, n4, ns, nn, nq, L, ?_⟩
      unfold I_all
      have r : ∀ c, c ≠ 42 → c ≠ 59 → c ≠ 21 → c ≠ 22 → m2 c = μ c := fun c a1 a2 a3 a4 => by rw [q2 c a1 a2, t_0o m1 a1, k2 c a3 a4]
      have r42 : ∀ j, j ≠ 8 → j ≠ 0 → m2 42 j = μ 42 j := fun j a1 a2 => by rw [q3 j a1, t_0s m1 a2, k2 42 (by decide) (by decide)]
      have r21 : m2 21 = m1 21 := by rw [q2 21 (by decide) (by decide), t_0o m1 (by decide)]
      have r22 : m2 22 = m1 22 := by rw [q2 22 (by decide) (by decide), t_0o m1 (by decide)]
      simp only [r, r42, r21, r22, ne_eq, Nat.reduceEqDiff, not_false_eq_true]
      exact ⟨hA, hP, hT, hG, s4, hS, hN, hQ, hV⟩
    · rw [t_0s m1 (by decide), k2 42 (by decide) (by decide), x2] at c'
      rw [x1] at c
      exact absurd c c'
  · refine ⟨⟨_, rfl⟩, 0, _, by decide, f_X10_feed m1 b (l := nl) x2 n120, ?_⟩
    intro r2 m2 hq
    unfold q_feed at hq
    rw [t_0s m1 (by decide), x2] at hq
    rw [x1] at c
    rcases hq with ⟨c', -⟩ | ⟨c', rfl, rfl⟩
    · exact absurd c' c
    · exact ⟨⟨-1, rfl, rfl⟩, h.t0⟩
theorem a_au_ext {t t' : Nat → Int32} : ∀ i, (∀ k, k < i → t k = t' k) → a_au t i = a_au t' i
  | 0, _ => rfl
  | i + 1, h => by
    unfold a_au
    rw [a_au_ext i (fun k hk => h k (by omega)), h i (by omega)]
theorem a_F_ext {t t' : Nat → Int32} {n : Nat} {v : Int32} (h : ∀ k, k < n → t k = t' k) (hF : a_F t n v) : a_F t' n v := by
  rcases hF with ⟨i, s, i1, i2, i3, i4⟩ | ⟨s, s1, s2⟩
  · exact Or.inl ⟨i, s, i1, by rw [← a_au_ext i (fun k hk => h k (by omega))]; exact i2, by rw [← h i i1]; exact i3, i4⟩
  · exact Or.inr ⟨s, by rw [← a_au_ext n h]; exact s1, s2⟩
theorem I_S.add {n1 n2 : Int32} {fr told fr' told' X ln X' ln' T T' : Nat → Int32} {ns n : Nat} {L : Nat → Nat} (h : I_S n1 n2 fr told fr' told' X ln X' ln' ns L) (hn : ns < 30) (hl : n ≤ 120) (hT : ∀ k, k < n → 0 ≤ T k ∧ T k ≤ 255 ∧ T' k = b_sg (T k)) (hF : a_F T n (-1)) (x t : Int32) : I_S (nI (ns + 1)) (nI (ns + 1)) (upd fr ns x) (upd told ns t) (upd fr' ns x) (upd told' ns t) (va_cpy T X 0 (120 * ns) n) (upd ln ns (nI n)) (va_cpy T' X' 0 (120 * ns) n) (upd ln' ns (nI n)) (ns + 1) (fun k => if k = ns then n else L k) := by
  obtain ⟨-, -, -, ⟨rfl, rfl⟩, h5⟩ := h
  refine ⟨rfl, rfl, by omega, ⟨rfl, rfl⟩, fun s hs => ?_⟩
  by_cases e : s = ns
  · subst e
    rw [u_s, u_s]
    dsimp only
    rw [if_pos rfl]
    have c1 : ∀ i, i < n → va_cpy T X 0 (120 * s) n (120 * s + i) = T i := fun i hi => by
      rw [pk_cpy_in (by omega) (by omega)]
      congr 1
      omega
    have c2 : ∀ i, i < n → va_cpy T' X' 0 (120 * s) n (120 * s + i) = T' i := fun i hi => by
      rw [pk_cpy_in (by omega) (by omega)]
      congr 1
      omega
    refine ⟨hl, rfl, rfl, fun i hi => ?_, a_F_ext (fun k hk => (c1 k hk).symm) hF⟩
    rw [c1 i hi, c2 i hi]
    exact hT i hi
  · rw [u_n _ _ e, u_n _ _ e]
    dsimp only
    rw [if_neg e]
    obtain ⟨a, b, c, d, f⟩ := h5 s (by omega)
    have c1 : ∀ i, i < L s → va_cpy T X 0 (120 * ns) n (120 * s + i) = X (120 * s + i) := fun i hi => pk_cpy_out (by omega)
    have c2 : ∀ i, i < L s → va_cpy T' X' 0 (120 * ns) n (120 * s + i) = X' (120 * s + i) := fun i hi => pk_cpy_out (by omega)
    refine ⟨a, b, c, fun i hi => ?_, a_F_ext (fun k hk => (c1 k hk).symm) f⟩
    rw [c1 i hi, c2 i hi]
    exact d i hi
theorem c_statute {μ : j_M} (h : Inv μ) (fr : Int32) : I_pr yX9_statute yX10_statute [.int fr] μ := by
  obtain ⟨np, nt, ng, nl, ns, nn, nq, L, hI⟩ := id h
  obtain ⟨hA, hP, hT, hG, hD, hS, hN, hQ, hV⟩ := id hI
  have n120 := hD.2.2.1
  refine ⟨5, _, by decide, f_X9_statute μ ns nl fr hS.1 hS.2.2.1 hD.1 n120 (fun i hi => ⟨(hD.2.2.2 i hi).1, (hD.2.2.2 i hi).2.1⟩), ?_⟩
  intro r1 m1 hx
  unfold g_statute at hx
  obtain ⟨f, hx⟩ := hx
  rcases hx with ⟨c, rfl, rfl⟩ | ⟨c, rfl, rfl⟩
  · have ge : ∀ b, 42 ≤ b → j_up (k_st (j_row μ 23 f) ns nl fr (μ 0 11)) 21 1 0 b = μ b := fun b hb => by
      unfold k_st
      rw [j_un _ _ _ (by omega), j_un _ _ _ (by omega), j_rn' _ _ (by omega), j_un _ _ _ (by omega), j_un _ _ _ (by omega), j_un _ _ _ (by omega), j_rn' _ _ (by omega)]
    refine ⟨⟨_, rfl⟩, 29, _, by decide, f_X10_statute (T := μ 22) (n := nl) (s := ns) fr (by unfold z_D; rw [ge 42 (by omega), ge 59 (by omega)]; exact ⟨n120, hD.2.1, hD.2.2.2⟩) (by rw [ge 76 (by omega)]; exact hV.1) (by rw [ge 42 (by omega)]; exact hS.2.1) hS.2.2.1, ?_⟩
    intro r2 m2 hq
    unfold q_statute at hq
    obtain ⟨m3, hf, hr, hq⟩ := hq
    rcases hq with ⟨c', rfl, rfl⟩ | ⟨c', rfl, rfl⟩
    · refine ⟨⟨nI ns, rfl, rfl⟩, np, nt, ng, 0, ns + 1, nn, nq, fun k => if k = ns then nl else L k, ?_⟩
      unfold I_all q_st
      unfold k_st at hf
      simp only [t_0, j_us, j_un, u_s, u_n, j_rs, j_rn', ne_eq, Nat.reduceEqDiff, not_false_eq_true, hf.1, hf.2, hr]
      rw [hA.1]
      refine ⟨⟨rfl, hA.2⟩, hP, hT, hG, ⟨rfl, rfl, by omega, fun k hk => by omega⟩, hS.add c.2.1 n120 hD.2.2.2 c.2.2 fr (μ 42 1), hN, hQ, hV.1, Or.inl rfl⟩
    · exact absurd c c'
  · have ge : ∀ b, 42 ≤ b → j_row μ 23 f b = μ b := fun b hb => by rw [j_rn' _ _ (by omega)]
    refine ⟨⟨_, rfl⟩, 29, _, by decide, f_X10_statute (T := μ 22) (n := nl) (s := ns) fr (by unfold z_D; rw [ge 42 (by omega), ge 59 (by omega)]; exact ⟨n120, hD.2.1, hD.2.2.2⟩) (by rw [ge 76 (by omega)]; exact hV.1) (by rw [ge 42 (by omega)]; exact hS.2.1) hS.2.2.1, ?_⟩
    intro r2 m2 hq
    unfold q_statute at hq
    obtain ⟨m3, hf, hr, hq⟩ := hq
    rcases hq with ⟨c', -⟩ | ⟨c', rfl, rfl⟩
    · exact absurd c' c
    · exact ⟨⟨-1, rfl, rfl⟩, np, nt, ng, nl, ns, nn, nq, L, p_fr_I (hI.sc (x_sc_row μ (a := 23) f (by decide))) hf (Or.inl hr)⟩
