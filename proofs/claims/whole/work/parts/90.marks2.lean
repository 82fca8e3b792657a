/-! the calls in pairs: mark -/
theorem k_sp_ext {G G' : Nat → Int32} {p : Nat} (h : ∀ k, k < 12 → G (12 * p + k) = G' (12 * p + k)) : k_mk G p = k_mk G' p ∧ k_rf G p = k_rf G' p := by
  have e : ∀ j, j < 4 → k_sp G p j = k_sp G' p j := by
    intro j hj
    unfold k_sp
    have a := h j (by omega)
    have b := h (4 + j) (by omega)
    have c := h (8 + j) (by omega)
    rw [← Nat.add_assoc] at b c
    rw [a, b, c]
  unfold k_mk k_rf
  rw [e 0 (by omega), e 1 (by omega), e 2 (by omega), e 3 (by omega)]
  exact ⟨rfl, rfl⟩
section MM
variable {n1 n2 : Int32} {ow dn jd G ow' dn' jd' G' mk rf ms : Nat → Int32} {np nq : Nat}
theorem up_pt {G : Nat → Int32} {p k i : Nat} {v : Int32} (hi : i < 12) (h : k ≠ p) : ∀ j, j < 12 → upd G (12 * p + i) v (12 * k + j) = G (12 * k + j) := fun j hj => u_n _ _ (by omega)
theorem I_Q.pts (h : I_Q n1 n2 ow dn jd G ow' dn' jd' G' mk rf ms np nq) {p i : Nat} {v : Int32} (hi : i < 12) (hd : dn p = -1) (hv : 0 ≤ v ∧ v ≤ 10) : I_Q n1 n2 ow dn jd (upd G (12 * p + i) v) ow' dn' jd' (upd G' (12 * p + i) v) mk rf ms np nq := by
  obtain ⟨h1, h2, h3, ⟨rfl, rfl, rfl, rfl⟩, h5, h6, h7, h8⟩ := h
  have ne : ∀ k, ¬ dn' k = -1 → k ≠ p := fun k hk e => by rw [e] at hk; exact hk hd
  refine ⟨h1, h2, h3, ⟨rfl, rfl, rfl, rfl⟩, fun k hk => ?_, fun a b hab hb e => ?_, fun k hk hdk hr => ?_, fun k hk => ⟨fun j hj => ?_, fun hdk j hj => ?_⟩⟩
  · obtain ⟨a, b, c⟩ := h5 k hk
    refine ⟨a, ?_, ?_⟩
    · by_cases z : dn' k = -1
      · rw [if_pos z] at b ⊢; exact b
      · rw [if_neg z] at b ⊢
        rw [b, (k_sp_ext (up_pt hi (ne k z))).1]
    · by_cases z : dn' k = -1
      · rw [if_pos z] at c ⊢; exact c
      · rw [if_neg z] at c ⊢
        rw [c, (k_sp_ext (up_pt hi (ne k z))).2]
  · obtain ⟨x, y⟩ := h6 a b hab hb e
    exact ⟨x, by rw [(k_sp_ext (up_pt hi (ne a x))).2]; exact y⟩
  · refine h7 k hk hdk ?_
    rw [← (k_sp_ext (up_pt hi (ne k hdk))).2]
    exact hr
  · by_cases z : 12 * k + j = 12 * p + i
    · rw [z, u_s]; exact Or.inr hv
    · rw [u_n _ _ z]; exact (h8 k hk).1 j hj
  · rw [up_pt hi (ne k hdk) j hj]
    exact (h8 k hk).2 hdk j hj
theorem I_Q.fin (h : I_Q n1 n2 ow dn jd G ow' dn' jd' G' mk rf ms np nq) {p : Nat} {t : Int32} (hp : p < nq) (ht : ¬ t = -1) (hd : dn p = -1) (hg : ∀ k, k < 12 → ¬ G (12 * p + k) = -1) (hm : k_rf G p = -1 → ¬ ms (ow p).toNatClampNeg = -1) : I_Q n1 n2 ow (upd dn p t) jd G ow' (upd dn' p t) jd' G' (upd mk p (k_mk G p)) (upd rf p (k_rf G p)) ms np nq := by
  obtain ⟨h1, h2, h3, ⟨rfl, rfl, rfl, rfl⟩, h5, h6, h7, h8⟩ := h
  refine ⟨h1, h2, h3, ⟨rfl, rfl, rfl, rfl⟩, fun k hk => ?_, fun a b hab hb e => ?_, fun k hk hdk hr => ?_, fun k hk => ⟨(h8 k hk).1, fun hdk j hj => ?_⟩⟩
  · by_cases z : k = p
    · subst z
      rw [u_s, u_s, u_s, if_neg ht, if_neg ht]
      exact ⟨(h5 k hk).1, rfl, rfl⟩
    · rw [u_n _ _ z, u_n _ _ z, u_n _ _ z]
      exact h5 k hk
  · obtain ⟨x, y⟩ := h6 a b hab hb e
    refine ⟨?_, y⟩
    have z : a ≠ p := fun e => by rw [e] at x; exact x hd
    rw [u_n _ _ z]
    exact x
  · by_cases z : k = p
    · subst z; exact hm hr
    · rw [u_n _ _ z] at hdk
      exact h7 k hk hdk hr
  · by_cases z : k = p
    · subst z; exact hg j hj
    · rw [u_n _ _ z] at hdk
      exact (h8 k hk).2 hdk j hj
end MM
theorem c_mark {μ : j_M} (h : Inv μ) (p i j v : Int32) : I_pr yX9_mark yX10_mark_ [.int p, .int i, .int j, .int v] μ := by
  obtain ⟨np, nt, ng, nl, ns, nn, nq, L, hI⟩ := id h
  obtain ⟨hA, hP, hT, hG, hD, hS, hN, hQ, hV⟩ := id hI
  have n40 := hQ.2.2.1
  have n30' := hP.2.2.1
  have k30 : nI np ≤ 30 := (nI_le' (b := 30) (by omega) (by omega)).mpr n30'
  have x1 := hQ.1
  have x2 := hQ.2.1
  have y2 := hP.2.1
  obtain ⟨q1, q2, q3, q4⟩ := hQ.2.2.2.1
  obtain ⟨p1, p2, p3, p4, p5, p6⟩ := hP.2.2.2.1
  have now : ¬ μ 42 1 = -1 := by have := hA.2.1; grind
  refine ⟨3, _, by decide, f_X9_mark μ p i j v x1 n40 (fun k hk => by
    obtain ⟨⟨o, o1, o2⟩, -⟩ := hQ.2.2.2.2.1 k hk
    rw [o2]
    exact n30 (by omega)), ?_⟩
  intro r1 m1 hx
  unfold g_mark g_mc at hx
  rw [x1, hA.1] at hx
  rcases hx with ⟨c, rfl, hm⟩ | ⟨c, rfl, rfl⟩
  · obtain ⟨pn, pn1, rfl⟩ := z_has rfl (by omega) c.1
    obtain ⟨i', i1, rfl⟩ := vp_in_of (x := i) (n := 3) ((j_inl (N := 3) (by decide)).mpr c.2.1) (by omega)
    obtain ⟨j', j1, rfl⟩ := vp_in_of (x := j) (n := 4) ((j_inl (N := 4) (by decide)).mpr c.2.2.1) (by omega)
    have ep := nI_cl' (show pn < 1000000 by omega)
    have ei := nI_cl' (show i' < 1000000 by omega)
    have ej := nI_cl' (show j' < 1000000 by omega)
    have hd : μ 38 pn = -1 := by have := c.2.2.2.2; rw [ep] at this; exact this
    have ix : 12 * pn + 4 * i' + j' = 12 * pn + (4 * i' + j') := by omega
    rw [ep, ei, ej] at hm
    unfold k_mar k_sps at hm
    rw [ix] at hm
    obtain ⟨⟨o, o1, o2⟩, -⟩ := hQ.2.2.2.2.1 pn pn1
    have hQ1 := hQ.pts (p := pn) (i := 4 * i' + j') (v := v) (by omega) hd c.2.2.2.1
    by_cases ex : k_ex (fun k => decide (upd (μ 40) (12 * pn + (4 * i' + j')) v (12 * pn + k) = -1)) 12 = true
    · rw [if_pos ex, if_neg (by simp only [t_0, j_us, j_un, u_s, u_n, j_rs, j_rn', ne_eq, Nat.reduceEqDiff, not_false_eq_true, hd]; exact fun z => z.1 trivial)] at hm
      subst hm
      refine ⟨⟨_, rfl⟩, 3, _, by decide, f_X10_mark_ _ (nI pn) (nI i') (nI j') v (n := nq) (by simp only [t_0, j_us, j_un, u_s, u_n, j_rs, j_rn', ne_eq, Nat.reduceEqDiff, not_false_eq_true]; exact x2) n40 (by simp only [t_0, j_us, j_un, u_s, u_n, j_rs, j_rn', ne_eq, Nat.reduceEqDiff, not_false_eq_true]; rw [y2]; exact k30), ?_⟩
      intro r2 m2 hq
      unfold q_mark q_mc q_mar at hq
      rw [ep, ei, ej, ix] at hq
      simp only [t_0, j_us, j_un, u_s, u_n, j_rs, j_rn', ne_eq, Nat.reduceEqDiff, not_false_eq_true, x2, q2, q4] at hq
      rcases hq with ⟨c', rfl, rfl⟩ | ⟨c', rfl, rfl⟩
      · refine ⟨⟨1, rfl, rfl⟩, np, nt, ng, nl, ns, nn, nq, L, ?_⟩
        rw [if_pos ex]
        unfold I_all
        simp only [t_0, j_us, j_un, u_s, u_n, j_rs, j_rn', ne_eq, Nat.reduceEqDiff, not_false_eq_true]
        exact ⟨hA, hP, hT, hG, hD, hS, hN, hQ1, hV⟩
      · exact absurd ⟨c.1, c.2.1, c.2.2.1, c.2.2.2.1, hd⟩ c'
    · have hg : ∀ k, k < 12 → ¬ upd (μ 40) (12 * pn + (4 * i' + j')) v (12 * pn + k) = -1 := by
        intro k hk z
        refine ex ((k_ex_iff _ _).mpr ⟨k, hk, ?_⟩)
        rw [decide_eq_true_eq]
        exact z
      rw [if_neg ex] at hm
      simp only [t_0, j_us, j_un, u_s, u_n, j_rs, j_rn', ne_eq, Nat.reduceEqDiff, not_false_eq_true, o2, nI_cl' (show o < 1000000 by omega), now, true_and] at hm
      by_cases ra : k_rf (upd (μ 40) (12 * pn + (4 * i' + j')) v) pn = -1 ∧ μ 4 o = -1
      · rw [if_pos ra] at hm
        subst hm
        refine ⟨⟨_, rfl⟩, 3, _, by decide, f_X10_mark_ _ (nI pn) (nI i') (nI j') v (n := nq) (by simp only [t_0, j_us, j_un, u_s, u_n, j_rs, j_rn', ne_eq, Nat.reduceEqDiff, not_false_eq_true]; exact x2) n40 (by simp only [t_0, j_us, j_un, u_s, u_n, j_rs, j_rn', ne_eq, Nat.reduceEqDiff, not_false_eq_true]; rw [y2]; exact k30), ?_⟩
        intro r2 m2 hq
        unfold q_mark q_mc q_mar q_dn at hq
        rw [ep, ei, ej, ix] at hq
        simp only [t_0, j_us, j_un, u_s, u_n, j_rs, j_rn', ne_eq, Nat.reduceEqDiff, not_false_eq_true, x2, y2, q1, q2, q4, p3, p4, o2, nI_cl' (show o < 1000000 by omega)] at hq
        rcases hq with ⟨c', rfl, rfl⟩ | ⟨c', rfl, rfl⟩
        · refine ⟨⟨1, rfl, rfl⟩, np, nt, ng, nl, ns, nn, nq, L, ?_⟩
          have al : μ 5 o = -1 := Classical.byContradiction (fun z => hP.2.2.2.2.2 o o1 z ra.2)
          rw [if_neg ex, if_pos ⟨ra.1, ⟨nI_ge0 (by omega), (nI_lt' (by omega) (by omega)).mpr o1, by rw [nI_cl' (by omega)]; exact al⟩, ra.2⟩]
          unfold I_all
          simp only [t_0, j_us, j_un, u_s, u_n, j_rs, j_rn', ne_eq, Nat.reduceEqDiff, not_false_eq_true]
          refine ⟨hA, hP.mas _ now, hT, hG, hD, hS, hN, ?_, hV⟩
          refine (hQ1.mas o now).fin pn1 now hd hg (fun _ => ?_)
          rw [o2, nI_cl' (by omega), u_s]
          exact now
        · exact absurd ⟨c.1, c.2.1, c.2.2.1, c.2.2.2.1, hd⟩ c'
      · rw [if_neg ra] at hm
        subst hm
        refine ⟨⟨_, rfl⟩, 3, _, by decide, f_X10_mark_ _ (nI pn) (nI i') (nI j') v (n := nq) (by simp only [t_0, j_us, j_un, u_s, u_n, j_rs, j_rn', ne_eq, Nat.reduceEqDiff, not_false_eq_true]; exact x2) n40 (by simp only [t_0, j_us, j_un, u_s, u_n, j_rs, j_rn', ne_eq, Nat.reduceEqDiff, not_false_eq_true]; rw [y2]; exact k30), ?_⟩
        intro r2 m2 hq
        unfold q_mark q_mc q_mar q_dn at hq
        rw [ep, ei, ej, ix] at hq
        simp only [t_0, j_us, j_un, u_s, u_n, j_rs, j_rn', ne_eq, Nat.reduceEqDiff, not_false_eq_true, x2, y2, q1, q2, q4, p3, p4, o2, nI_cl' (show o < 1000000 by omega)] at hq
        rcases hq with ⟨c', rfl, rfl⟩ | ⟨c', rfl, rfl⟩
        · refine ⟨⟨1, rfl, rfl⟩, np, nt, ng, nl, ns, nn, nq, L, ?_⟩
          rw [if_neg ex, if_neg (fun z => ra ⟨z.1, z.2.2⟩)]
          unfold I_all
          simp only [t_0, j_us, j_un, u_s, u_n, j_rs, j_rn', ne_eq, Nat.reduceEqDiff, not_false_eq_true]
          refine ⟨hA, hP, hT, hG, hD, hS, hN, ?_, hV⟩
          refine hQ1.fin pn1 now hd hg (fun z => ?_)
          rw [o2, nI_cl' (by omega)]
          exact fun w => ra ⟨z, w⟩
        · exact absurd ⟨c.1, c.2.1, c.2.2.1, c.2.2.2.1, hd⟩ c'
  · refine ⟨⟨_, rfl⟩, 3, _, by decide, f_X10_mark_ m1 p i j v (n := nq) x2 n40 (by rw [y2]; exact k30), ?_⟩
    intro r2 m2 hq
    unfold q_mark q_mc at hq
    rw [t_0s m1 (show (6 : Nat) ≠ 0 by decide), t_0o m1 (show (65 : Nat) ≠ 42 by decide), x2, q2] at hq
    rcases hq with ⟨c', -⟩ | ⟨c', rfl, rfl⟩
    · exact absurd c' c
    · exact ⟨⟨0, rfl, rfl⟩, h.t0⟩
