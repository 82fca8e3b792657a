/-! piece, the pair itself -/
def I_pp (μ : j_M) (p : Int32) (x : Int64) : Prop := ∃ Px, j_R 6 yX9_piece [.ref 0, .int p, .long x] μ Px ∧ ∀ r1 m1, Px r1 m1 → (∃ v : Int32, r1 = some v) ∧ ∃ Pm : Option Int32 → j_M → Prop, j_Call 31 1 30 yX10_piece j_SH [.ref 42, .int p, .long x] m1 (fun r sh m => sh = j_SH ∧ Pm r m) ∧ ∀ r2 m2, Pm r2 m2 → (∃ v : Int32, r1 = some v ∧ r2 = some v) ∧ Inv m2
theorem e_78.I {m μ : j_M} {np nt ng nl ns nn nq : Nat} {L : Nat → Nat} (he : e_78 m μ) (h : I_all μ np nt ng nl ns nn nq L) : I_all m np nt ng nl ns nn nq L := by
  unfold I_all at h ⊢
  simp only [he _ (show (0 : Nat) < 78 by omega), he _ (show (1 : Nat) < 78 by omega), he _ (show (2 : Nat) < 78 by omega), he _ (show (3 : Nat) < 78 by omega), he _ (show (4 : Nat) < 78 by omega), he _ (show (5 : Nat) < 78 by omega), he _ (show (6 : Nat) < 78 by omega), he _ (show (7 : Nat) < 78 by omega), he _ (show (8 : Nat) < 78 by omega), he _ (show (9 : Nat) < 78 by omega), he _ (show (10 : Nat) < 78 by omega), he _ (show (11 : Nat) < 78 by omega), he _ (show (12 : Nat) < 78 by omega), he _ (show (13 : Nat) < 78 by omega), he _ (show (14 : Nat) < 78 by omega), he _ (show (16 : Nat) < 78 by omega), he _ (show (17 : Nat) < 78 by omega), he _ (show (18 : Nat) < 78 by omega), he _ (show (19 : Nat) < 78 by omega), he _ (show (20 : Nat) < 78 by omega), he _ (show (21 : Nat) < 78 by omega), he _ (show (22 : Nat) < 78 by omega), he _ (show (25 : Nat) < 78 by omega), he _ (show (26 : Nat) < 78 by omega), he _ (show (27 : Nat) < 78 by omega), he _ (show (28 : Nat) < 78 by omega), he _ (show (29 : Nat) < 78 by omega), he _ (show (32 : Nat) < 78 by omega), he _ (show (33 : Nat) < 78 by omega), he _ (show (34 : Nat) < 78 by omega), he _ (show (35 : Nat) < 78 by omega), he _ (show (36 : Nat) < 78 by omega), he _ (show (37 : Nat) < 78 by omega), he _ (show (38 : Nat) < 78 by omega), he _ (show (39 : Nat) < 78 by omega), he _ (show (40 : Nat) < 78 by omega), he _ (show (42 : Nat) < 78 by omega), he _ (show (76 : Nat) < 78 by omega), he _ (show (43 : Nat) < 78 by omega), he _ (show (44 : Nat) < 78 by omega), he _ (show (45 : Nat) < 78 by omega), he _ (show (46 : Nat) < 78 by omega), he _ (show (47 : Nat) < 78 by omega), he _ (show (48 : Nat) < 78 by omega), he _ (show (49 : Nat) < 78 by omega), he _ (show (50 : Nat) < 78 by omega), he _ (show (51 : Nat) < 78 by omega), he _ (show (52 : Nat) < 78 by omega), he _ (show (53 : Nat) < 78 by omega), he _ (show (54 : Nat) < 78 by omega), he _ (show (55 : Nat) < 78 by omega), he _ (show (56 : Nat) < 78 by omega), he _ (show (57 : Nat) < 78 by omega), he _ (show (58 : Nat) < 78 by omega), he _ (show (59 : Nat) < 78 by omega), he _ (show (60 : Nat) < 78 by omega), he _ (show (61 : Nat) < 78 by omega), he _ (show (62 : Nat) < 78 by omega), he _ (show (63 : Nat) < 78 by omega), he _ (show (64 : Nat) < 78 by omega), he _ (show (65 : Nat) < 78 by omega), he _ (show (66 : Nat) < 78 by omega), he _ (show (67 : Nat) < 78 by omega), he _ (show (68 : Nat) < 78 by omega), he _ (show (69 : Nat) < 78 by omega), he _ (show (70 : Nat) < 78 by omega), he _ (show (71 : Nat) < 78 by omega), he _ (show (72 : Nat) < 78 by omega)]
  exact h
/-- the class's memory with a new piece -/
theorem k_made {m : j_M} {nq f : Nat} {p : Int32} {x : Int64} {pl0 pl1 pl2 : Nat} (h0 : k_pl (k_rng x) f = pl0) (h1 : k_pl (k_rng (k_rng x)) (f - 1) = pl1) (h2 : k_pl (k_rng (k_rng (k_rng x))) (f - 2) = pl2) : ∃ B2, j_up (k_dr (k_dr (k_dr (k_np m nq p) nq 0 x f) nq 1 (k_rng x) (f - 1)) nq 2 (k_rng (k_rng x)) (f - 2)) 36 4 (nI (nq + 1)) = j_up (j_row (j_row (j_up (j_up m 37 nq p) 38 nq (-1)) 40 (k_cl (m 40) nq 12)) 41 B2 |> fun z => j_row z 39 (upd (upd (upd (m 39) (3 * nq) (m 41 pl0)) (3 * nq + 1) (k_mv (m 41) pl0 (f - 1) pl1)) (3 * nq + 2) (k_mv (k_mv (m 41) pl0 (f - 1)) pl1 (f - 1 - 1) pl2))) 36 4 (nI (nq + 1)) := by
  unfold k_dr k_np
  rw [h0, h1, h2]
  refine ⟨k_mv (k_mv (k_mv (m 41) pl0 (f - 1)) pl1 (f - 1 - 1)) pl2 (f - 2 - 1), ?_⟩
  congr 1
  funext b
  by_cases e1 : b = 41
  · subst e1
    simp only [t_0, j_us, j_un, u_s, u_n, j_rs, j_rn', ne_eq, Nat.reduceEqDiff, not_false_eq_true]
  · by_cases e2 : b = 39
    · subst e2
      simp only [t_0, j_us, j_un, u_s, u_n, j_rs, j_rn', ne_eq, Nat.reduceEqDiff, not_false_eq_true]
      rfl
    · simp only [j_rn' _ _ e1, j_un _ _ _ e2, j_rn' _ _ e2]
theorem c_piece {μ : j_M} (h : Inv μ) (p : Int32) (x : Int64) : I_pp μ p x := by
  obtain ⟨np, nt, ng, nl, ns, nn, nq, L, hI⟩ := id h
  obtain ⟨hA, hP, hT, hG, hD, hS, hN, hQ, hV⟩ := id hI
  have n30' := hP.2.2.1
  have n40' := hQ.2.2.1
  obtain ⟨q1, q2, q3, q4⟩ := hQ.2.2.2.1
  obtain ⟨p1, p2, p3, p4, p5, p6⟩ := hP.2.2.2.1
  refine ⟨_, f_X9_piece μ p x hP.1 n30' hT.1 hT.2.2.1 hG.1 hG.2.2.1 hQ.1 n40' hS.1 hS.2.2.1 hI.hT, ?_⟩
  intro r1 m1 hx
  -- what the reference wants, of any memory that has its cells as μ has
  have want : ∀ (m1 : j_M) (f f2 : Nat → Int32), (∀ b, 42 ≤ b → m1 b = μ b) → j_Call 31 1 30 yX10_piece j_SH [.ref 42, .int p, .long x] m1 (fun r sh m => sh = j_SH ∧ q_piece (t_0 m1) (μ 28) L (g_fit μ nt p) np nt ng nq ns f f2 p x r m) ∨ ¬ g_has (nI np) p := by
    intro m1 f f2 ge
    by_cases hp : g_has (nI np) p
    · refine Or.inl ?_
      have hz := z_eq.t0 ge
      obtain ⟨pn, pn1, rfl⟩ := z_has rfl (by omega) hp
      have hz1 : z_eq μ m1 := ⟨fun b hb => ge b (by omega), fun j _ => by rw [ge 42 (by omega)]⟩
      refine f_X10_piece (g_fit μ nt (nI pn)) f f2 (hI.zok hz1) (by rw [ge 42 (by omega)]; exact hS.2.1) hS.2.2.1 (hI.zT hz1) (by rw [ge 42 (by omega)]; exact hA.2) (by rw [ge 42 (by omega)]; exact hV.2) (nI pn) x (fun _ => ?_) (E_fit hI hz pn1)
      obtain ⟨dn, d1, d2⟩ := z_day (d := t_0 m1 42 1) (by rw [t_0s m1 (by decide), ge 42 (by omega)]; exact hA.2)
      rw [d2, nI_cl' (show dn < 1000000 by omega)]
      exact E_vnn hI hz d1 _ _
    · exact Or.inr hp
  have hpc : ∀ m1 : j_M, (∀ b, 42 ≤ b → m1 b = μ b) → (q_pc (t_0 m1) nq p ↔ nq < 40 ∧ g_alive (nI np) (μ 5) p ∧ μ 4 p.toNatClampNeg = -1) := by
    intro m1 ge
    unfold q_pc
    rw [t_0s m1 (by decide), t_0o m1 (by decide), t_0o m1 (by decide), ge 42 (by omega), ge 45 (by omega), ge 46 (by omega), p3, p4, hP.2.1]
  have hop : ∀ m1 : j_M, (∀ b, 42 ≤ b → m1 b = μ b) → q_open (t_0 m1) nq p = k_ex (fun k => decide (μ 37 k = p ∧ μ 38 k = -1)) nq := by
    intro m1 ge
    unfold q_open
    rw [t_0o m1 (by decide), t_0o m1 (by decide), ge 64 (by omega), ge 65 (by omega), q1, q2]
  by_cases hp : g_has (nI np) p
  · obtain ⟨pn, pn1, rfl⟩ := z_has rfl (by omega) hp
    have nnv : ∀ (m1 : j_M), (∀ b, 42 ≤ b → m1 b = μ b) → ∀ w, w < 6 → 0 ≤ y_v (t_0 m1) nt ng nq (t_0 m1 42 1).toNatClampNeg (nI pn) (t_0 m1 42 1) w := by
      intro m1 ge
      obtain ⟨dn, d1, d2⟩ := z_day (d := t_0 m1 42 1) (by rw [t_0s m1 (by decide), ge 42 (by omega)]; exact hA.2)
      rw [d2, nI_cl' (show dn < 1000000 by omega)]
      exact E_vnn hI (z_eq.t0 ge) d1 _ _
    unfold g_piece g_pc at hx
    rw [hP.1] at hx
    rcases hx with ⟨c, rfl, hs⟩ | ⟨c, cc, ⟨V, f, f2, hv, hr⟩, hx⟩
    · have ge := hs.ge
      refine ⟨⟨_, rfl⟩, _, (want m1 (fun _ => 0) (fun _ => 0) ge).resolve_right (fun z => z hp), ?_⟩
      rintro r2 m2 (⟨c', rfl, rfl⟩ | ⟨c', c2, m3, zm, zs, ⟨-, rfl, he⟩ | ⟨⟨-, w2, -⟩, -⟩⟩)
      · exact ⟨⟨-1, rfl, rfl⟩, np, nt, ng, nl, ns, nn, nq, L, (hI.sc hs).t0⟩
      · exact ⟨⟨-1, rfl, rfl⟩, np, nt, ng, nl, ns, nn, nq, L, he.I (z_sc_I (hI.sc hs) zs (fun w hw => by rw [zm.1 w (by omega)]; exact nnv m1 ge w hw))⟩
      · rw [hop m1 ge] at w2
        obtain ⟨x1, x2, x3⟩ := (hpc m1 ge).mp c'
        exact absurd ⟨⟨x2, x3⟩, x1, w2⟩ c
    · -- the reference's answer of mayCome is the class's
      have same : ∀ (m1 : j_M) (c2 : Int32) (m3 : j_M), (∀ b, 42 ≤ b → m1 b = μ b) → z_m (t_0 m1) (μ 28) L nt ng nq ns f f2 (nI pn) (t_0 m1 42 1) (t_0 m1 42 1) (some c2) m3 → cc = c2 := by
        intro m1 c2 m3 ge zm
        have e1 : t_0 m1 42 1 = μ 42 1 := by rw [t_0s m1 (by decide), ge 42 (by omega)]
        rw [e1] at zm
        obtain ⟨dn, d1, d2⟩ := z_day hA.2
        rw [hA.1, d2] at hv hr
        rw [d2] at zm
        have := E_may hI (z_eq.t0 ge) pn1 d1 hv hr zm
        injection this
      rcases hx with ⟨w, rfl, hs⟩ | ⟨⟨w1, w2⟩, rfl, m', hs, hb, hm⟩
      · have ge := hs.ge
        refine ⟨⟨_, rfl⟩, _, (want m1 f f2 ge).resolve_right (fun z => z hp), ?_⟩
        rintro r2 m2 (⟨c', rfl, rfl⟩ | ⟨c', c2, m3, zm, zs, ⟨-, rfl, he⟩ | ⟨⟨u1, -, u3⟩, -⟩⟩)
        · exact ⟨⟨-1, rfl, rfl⟩, np, nt, ng, nl, ns, nn, nq, L, (hI.sc hs).t0⟩
        · exact ⟨⟨-1, rfl, rfl⟩, np, nt, ng, nl, ns, nn, nq, L, he.I (z_sc_I (hI.sc hs) zs (fun w hw => by rw [zm.1 w (by omega)]; exact nnv m1 ge w hw))⟩
        · have e := same m1 c2 m3 ge zm
          rcases w with w | w
          · exact absurd (by rw [← e]; exact w) u1
          · omega
      · -- made
        have hrel := b_rel_row (g_fit μ nt (nI pn)) (m' 41) np
        rw [← hb] at hrel
        generalize hpl0 : k_pl (k_rng x) (cnt (g_fit μ nt (nI pn)) np) = pl0
        generalize hpl1 : k_pl (k_rng (k_rng x)) (cnt (g_fit μ nt (nI pn)) np - 1) = pl1
        generalize hpl2 : k_pl (k_rng (k_rng (k_rng x))) (cnt (g_fit μ nt (nI pn)) np - 2) = pl2
        obtain ⟨B2, hm2⟩ := k_made (m := m') (nq := nq) (p := nI pn) hpl0 hpl1 hpl2
        rw [hm2] at hm
        have ge' := hs.ge
        have ge : ∀ b, 42 ≤ b → m1 b = μ b := by
          intro b hb
          rw [hm]
          dsimp only
          rw [j_un _ _ _ (by omega), j_rn' _ _ (by omega), j_rn' _ _ (by omega), j_rn' _ _ (by omega), j_un _ _ _ (by omega), j_un _ _ _ (by omega)]
          exact ge' b hb
        have pc : q_pc (t_0 m1) nq (nI pn) := (hpc m1 ge).mpr ⟨c.2.1, c.1.1, c.1.2⟩
        refine ⟨⟨_, rfl⟩, _, (want m1 f f2 ge).resolve_right (fun z => z hp), ?_⟩
        rintro r2 m2 (⟨c', -, -⟩ | ⟨c', c2, m3, zm, zs, ⟨w, rfl, he⟩ | ⟨⟨u1, u2, u3⟩, rfl, a0, a1, a2, d0, d1, d2, he⟩⟩)
        · exact absurd pc c'
        · have e := same m1 c2 m3 ge zm
          rcases w with w | w | w
          · exact absurd (by rw [e]; exact w) w1
          · rw [hop m1 ge, c.2.2] at w
            cases w
          · omega
        · refine ⟨⟨nI nq, rfl, rfl⟩, np, nt, ng, nl, ns, nn, nq + 1, L, he.I ?_⟩
          have k1 := cnt_rm1 d0
          have k2 := cnt_rm1 d1
          unfold e_dr at d0 d1 d2
          rw [k1] at d1
          rw [k2, k1, show cnt (g_fit μ nt (nI pn)) np - 1 - 1 = cnt (g_fit μ nt (nI pn)) np - 2 by omega] at d2
          rw [hpl0] at d0
          rw [hpl1] at d1
          rw [hpl2] at d2
          have v0 : m' 41 pl0 = nI a0 := by rw [← d0.2.2]; exact hrel a0 d0.1 d0.2.1
          have hrel1 := b_rel_rm hrel d0.1 d0.2.1 d0.2.2
          have v1 : k_mv (m' 41) pl0 (cnt (g_fit μ nt (nI pn)) np - 1) pl1 = nI a1 := by rw [← d1.2.2]; exact hrel1 a1 d1.1 d1.2.1
          have hrel2 := b_rel_rm hrel1 d1.1 d1.2.1 d1.2.2
          rw [k1] at hrel2
          have v2 : k_mv (k_mv (m' 41) pl0 (cnt (g_fit μ nt (nI pn)) np - 1)) pl1 (cnt (g_fit μ nt (nI pn)) np - 1 - 1) pl2 = nI a2 := by rw [← d2.2.2]; exact hrel2 a2 d2.1 d2.2.1
          rw [v0, v1, v2] at hm
          dsimp only at hm
          have opn : ∀ k, k < nq → μ 37 k = nI pn → ¬ μ 38 k = -1 := by
            intro k hk e1 e2
            have := c.2.2
            rw [(k_ex_iff _ _).mpr ⟨k, hk, by simp only [decide_eq_true_eq]; exact ⟨e1, e2⟩⟩] at this
            cases this
          have hms : μ 4 pn = -1 := by have := c.1.2; rw [nI_cl' (by omega)] at this; exact this
          have o8 := hs.2 6 (by decide)
          have ox := hs.1
          have oz := zs.1
          have oz2 := zs.2.1
          unfold I_all q_np
          subst hm
          simp only [t_0, j_us, j_un, u_s, u_n, j_rs, j_rn', ne_eq, Nat.reduceEqDiff, not_false_eq_true, oz, oz2, ox, o8]
          have nq' := hQ.new (jd2 := upd (upd (upd (μ 39) (3 * nq) (nI a0)) (3 * nq + 1) (nI a1)) (3 * nq + 2) (nI a2)) c.2.1 pn1 n30' hms opn
          rw [q3]
          refine ⟨hA, hP, hT, hG, hD, hS, hN, nq', fun w hw => ?_, ?_⟩
          · rw [zm.1 w (by omega)]
            exact nnv _ ge w hw
          · rcases zs.2.2 with e | e
            · exact Or.inr e
            · rw [e, t_0s _ (by decide), ge 42 (by omega)]
              exact hV.2
  · unfold g_piece g_pc at hx
    rw [hP.1] at hx
    rcases hx with ⟨c, rfl, hs⟩ | ⟨c, -⟩
    · have ge := hs.ge
      have hz1 : z_eq μ m1 := ⟨fun b hb => ge b (by omega), fun j _ => by rw [ge 42 (by omega)]⟩
      refine ⟨⟨_, rfl⟩, _, f_X10_piece (fun k => @decide (q_fit (t_0 m1) np nt p (nI k)) (Classical.propDecidable _)) (fun _ => 0) (fun _ => 0) (hI.zok hz1) (by rw [ge 42 (by omega)]; exact hS.2.1) hS.2.2.1 (hI.zT hz1) (by rw [ge 42 (by omega)]; exact hA.2) (by rw [ge 42 (by omega)]; exact hV.2) p x (fun z => ?_) (fun k _ => @decide_eq_true_iff _ (Classical.propDecidable _)), ?_⟩
      · rw [t_0s m1 (by decide), ge 42 (by omega), hP.2.1] at z
        exact absurd z hp
      · rintro r2 m2 (⟨c', rfl, rfl⟩ | ⟨c', -⟩)
        · exact ⟨⟨-1, rfl, rfl⟩, np, nt, ng, nl, ns, nn, nq, L, (hI.sc hs).t0⟩
        · obtain ⟨x1, x2, x3⟩ := (hpc m1 ge).mp c'
          exact absurd ⟨x2.1, x2.2.1⟩ hp
    · exact absurd ⟨c.1.1.1, c.1.1.2.1⟩ hp
