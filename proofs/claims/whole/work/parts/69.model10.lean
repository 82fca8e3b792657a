/-! the reference: marks given -/
/-- the part refused first, as the reference goes -/
def q_r1 (G : Nat → Int32) (p : Nat) : Nat → Int32
  | 0 => -1
  | k + 1 => if k_sp G p k < 15 ∧ q_r1 G p k = -1 then nI k else q_r1 G p k
def q_s1 (G : Nat → Int32) (p : Nat) : Nat → Int32
  | 0 => 0
  | k + 1 => q_s1 G p k + k_sp G p k
theorem q_r1_4 (G : Nat → Int32) (p : Nat) : q_r1 G p 4 = k_rf G p := by
  have e0 : nI 0 = 0 := by decide
  have e1 : nI 1 = 1 := by decide
  have e2 : nI 2 = 2 := by decide
  have e3 : nI 3 = 3 := by decide
  simp only [q_r1, k_rf, e0, e1, e2, e3]
  by_cases h0 : k_sp G p 0 < 15
  · simp [h0]
  · by_cases h1 : k_sp G p 1 < 15
    · simp [h0, h1]
    · by_cases h2 : k_sp G p 2 < 15
      · simp [h0, h1, h2]
      · by_cases h3 : k_sp G p 3 < 15 <;> simp [h0, h1, h2, h3]
theorem q_s1_4 (G : Nat → Int32) (p : Nat) : q_s1 G p 4 = k_sp G p 0 + k_sp G p 1 + k_sp G p 2 + k_sp G p 3 := by
  simp only [q_s1, Int32.zero_add]
theorem n_ne12 : ((12 : Int32) = 0) ↔ False := by decide
/-- the memory behind all points given -/
def q_dn (μ : j_M) (p : Nat) : j_M :=
  if k_rf (μ 69) p = -1 ∧ g_alive (μ 42 2) (μ 46) (μ 64 p) ∧ μ 45 (μ 64 p).toNatClampNeg = -1 then j_up (j_up (j_up (j_up μ 65 p (μ 42 1)) 66 p (k_mk (μ 69) p)) 67 p (k_rf (μ 69) p)) 45 (μ 64 p).toNatClampNeg (μ 42 1)
  else j_up (j_up (j_up μ 65 p (μ 42 1)) 66 p (k_mk (μ 69) p)) 67 p (k_rf (μ 69) p)
def q_col (μ : j_M) (p k : Nat) : Prop := μ 69 (12 * p + k) = -1 ∨ μ 69 (12 * p + 4 + k) = -1 ∨ μ 69 (12 * p + 8 + k) = -1
theorem n_c0 (p k : Nat) : 12 * nI p + 4 * 0 + nI k = nI (12 * p + k) := by
  have h := n_12i p 0 k
  rw [show nI 0 = 0 by decide] at h
  simpa using h
theorem n_c1 (p k : Nat) : 12 * nI p + 4 * 1 + nI k = nI (12 * p + 4 + k) := by
  have h := n_12i p 1 k
  rw [show nI 1 = 1 by decide] at h
  exact h
theorem n_c2 (p k : Nat) : 12 * nI p + 4 * 2 + nI k = nI (12 * p + 8 + k) := by
  have h := n_12i p 2 k
  rw [show nI 2 = 2 by decide] at h
  exact h
set_option maxRecDepth 100000 in
theorem l_X10_col {μ : j_M} {p k : Nat} {v2 v3 v8 v9 v10 : Option Value} {v4 : Int32} {Q : j_Q} (hp : p < 40) (hk : k < 4) (h1 : q_col μ p k → Q (some 1) j_SH μ) (h2 : ∀ v8 v9 v10, ¬ q_col μ p k → j_J cX10_mark_ 10 11 (some .boolean) false 3 none Q j_SH 0 0 80 [some (.ref 42), some (.int (nI p)), v2, v3, some (.int v4), some (.int (q_s1 (μ 69) p (k + 1))), some (.int (q_r1 (μ 69) p (k + 1))), some (.int (nI (k + 1))), v8, v9, v10] [] μ) : j_J cX10_mark_ 10 11 (some .boolean) false 3 none Q j_SH 0 0 80 [some (.ref 42), some (.int (nI p)), v2, v3, some (.int v4), some (.int (q_s1 (μ 69) p k)), some (.int (q_r1 (μ 69) p k)), some (.int (nI k)), v8, v9, v10] [] μ := by
  have k4 : nI k < 4 := (nI_lt' (b := 4) (by omega) (by omega)).mpr hk
  have i0 := nI_in' (show 12 * p + k < 480 by omega) (by omega)
  have i1 := nI_in' (show 12 * p + 4 + k < 480 by omega) (by omega)
  have i2 := nI_in' (show 12 * p + 8 + k < 480 by omega) (by omega)
  simp only [j_inb] at i0 i1 i2
  refine j_go (fun q => q == 80) 120 ?_
  simp only [qX10_mark_, j_f10, j_m10, j_ty, tyX10, ↓j_kt, ↓j_sel, ↓j_run_0, ↓j_run_s, ↓j_wp, ↓j_pi, ↓j_pii, ↓j_pl, ↓j_pll, ↓j_pli, ↓j_pr, ↓j_pri, ↓j_prii, ↓j_pvr, ↓j_pop, ↓j_gi, ↓j_gl, ↓j_ga, ↓j_ob, ↓j_ar, ↓j_fd, ↓j_fo, ↓j_mo, ↓j_br, ↓j_to, ↓j_lo, ↓j_scr, ↓j_co, ↓j_no, j_nf, j_rt, j_ld, j_st1, j_st2, j_k1, j_ci, j_fin, j_sh, j_shl, Option.map_some, Option.map_none, Option.toList_some, Option.toList_none, List.cons_append, List.nil_append, List.map_cons, List.map_nil, List.sum_cons, List.sum_nil, Value.category, List.getElem?_cons_zero, List.getElem?_cons_succ, List.length_cons, List.length_nil, true_and, and_true, if_true, if_false, ↓reduceIte, Bool.false_eq_true, Bool.true_eq_false, reduceCtorEq, Nat.reduceAdd, Nat.reduceLT, Nat.reduceLeDiff, Nat.reduceEqDiff, Nat.reduceBEq, Int.cast_ofNat_Int, Int.reduceAdd, Int.reduceNeg, Int.reduceSub, Int.reduceToNat, Int.reduceLE, Nat.zero_le, false_implies, implies_true, beq_self_eq_true, Bool.and_true, Bool.and_false, Bool.or_false, Bool.false_or, Bool.or_true, Bool.true_or, Bool.and_self, Bool.or_self, Nat.zero_add, Nat.add_zero, or_false, or_true, true_or, false_or, j_b0, ↓j_b1, j_b2, ↓j_b3, j_01, j_inb, and_self, Classical.not_not, Int32.reduceLE, Int32.reduceLT, Int32.reduceAdd, j_ne, eq_self, not_true_eq_false, not_false_eq_true, forall_const, and_false, false_and, j_sc, j_ent, Nat.reduceSub, List.replicate_zero, List.replicate_succ, n_c0, n_c1, n_c2, nI_cl' (show 12 * p + k < 1000000 by omega), nI_cl' (show 12 * p + 4 + k < 1000000 by omega), nI_cl' (show 12 * p + 8 + k < 1000000 by omega), i0, i1, i2, nI_1, Int32.zero_add]
  unfold q_s1 q_r1 k_sp at h2
  unfold q_col at h1 h2
  generalize μ 69 (12 * p + k) = g0 at h1 h2 ⊢
  generalize μ 69 (12 * p + 4 + k) = g1 at h1 h2 ⊢
  generalize μ 69 (12 * p + 8 + k) = g2 at h1 h2 ⊢
  refine ⟨fun z => by grind, fun _ => ⟨fun a0 => ?_, fun a0 => h1 (Or.inl a0)⟩⟩
  refine ⟨fun a1 => ?_, fun a1 => h1 (Or.inr (Or.inl a1))⟩
  refine ⟨fun a2 => ?_, fun a2 => h1 (Or.inr (Or.inr a2))⟩
  have hn : ¬ (g0 = -1 ∨ g1 = -1 ∨ g2 = -1) := by grind
  refine ⟨fun z => ?_, fun z => ⟨fun y => ?_, fun y => ?_⟩⟩
  · have h := h2 (some (.int (g0 + g1 + g2))) (some (.int 3)) (some (.int g2)) hn
    rw [if_neg (fun w => by grind)] at h
    exact h
  · have h := h2 (some (.int (g0 + g1 + g2))) (some (.int 3)) (some (.int g2)) hn
    rw [if_neg (fun w => y w.2)] at h
    exact h
  · have h := h2 (some (.int (g0 + g1 + g2))) (some (.int 3)) (some (.int g2)) hn
    rw [if_pos ⟨z, y⟩] at h
    exact h
abbrev q_mc (μ : j_M) (p i j v : Int32) : Prop := g_has (μ 42 6) p ∧ (0 ≤ i ∧ i < 3) ∧ (0 ≤ j ∧ j < 4) ∧ (0 ≤ v ∧ v ≤ 10) ∧ μ 65 p.toNatClampNeg = -1
/-- the memory behind points set, and all that follows if they were the last -/
def q_mar (μ : j_M) (p i j : Nat) (v : Int32) : j_M := if k_ex (fun k => decide (j_up μ 69 (12 * p + 4 * i + j) v 69 (12 * p + k) = -1)) 12 = true then j_up μ 69 (12 * p + 4 * i + j) v else q_dn (j_up μ 69 (12 * p + 4 * i + j) v) p
def q_mark (μ : j_M) (p i j v : Int32) (r : Option Int32) (m : j_M) : Prop := (q_mc μ p i j v ∧ r = some 1 ∧ m = q_mar μ p.toNatClampNeg i.toNatClampNeg j.toNatClampNeg v) ∨ (¬ q_mc μ p i j v ∧ r = some 0 ∧ m = μ)
theorem q_col_ex {μ : j_M} {p k : Nat} (hk : k < 4) (h : q_col μ p k) : k_ex (fun k => decide (μ 69 (12 * p + k) = -1)) 12 = true := by
  rw [k_ex_iff]
  rcases h with h | h | h
  · exact ⟨k, by omega, by simpa using h⟩
  · exact ⟨4 + k, by omega, by rw [← Nat.add_assoc]; simpa using h⟩
  · exact ⟨8 + k, by omega, by rw [← Nat.add_assoc]; simpa using h⟩
theorem q_col_no {μ : j_M} {p : Nat} (h : ∀ k, k < 4 → ¬ q_col μ p k) : ¬ k_ex (fun k => decide (μ 69 (12 * p + k) = -1)) 12 = true := by
  rw [k_ex_iff]
  rintro ⟨k, hk, e⟩
  simp only [decide_eq_true_eq] at e
  by_cases h4 : k < 4
  · exact h k h4 (Or.inl e)
  · by_cases h8 : k < 8
    · exact h (k - 4) (by omega) (Or.inr (Or.inl (by rw [show 12 * p + 4 + (k - 4) = 12 * p + k by omega]; exact e)))
    · exact h (k - 8) (by omega) (Or.inr (Or.inr (by rw [show 12 * p + 8 + (k - 8) = 12 * p + k by omega]; exact e)))
set_option maxRecDepth 100000 in
theorem l_X10_done {ν : j_M} {p : Nat} {v2 v3 v8 v9 v10 : Option Value} {v4 : Int32} {Q : j_Q} (hp : p < 40) (kn : ν 42 2 ≤ 30) (hQ : Q (some 1) j_SH (q_dn ν p)) : j_J cX10_mark_ 10 11 (some .boolean) false 3 none Q j_SH 0 0 80 [some (.ref 42), some (.int (nI p)), v2, v3, some (.int v4), some (.int (q_s1 (ν 69) p 4)), some (.int (q_r1 (ν 69) p 4)), some (.int (nI 4)), v8, v9, v10] [] ν := by
  have h40 := n40 (show p < 40 by omega)
  have e4 : nI 4 = 4 := by decide
  rw [q_r1_4, q_s1_4]
  unfold q_dn k_mk at hQ
  refine j_go (fun q => q == 86 || q == 168) 10 ?_
  simp only [qX10_mark_, j_f10, j_m10, j_ty, tyX10, ↓j_kt, ↓j_sel, ↓j_run_0, ↓j_run_s, ↓j_wp, ↓j_pi, ↓j_pii, ↓j_pl, ↓j_pll, ↓j_pli, ↓j_pr, ↓j_pri, ↓j_prii, ↓j_pvr, ↓j_pop, ↓j_gi, ↓j_gl, ↓j_ga, ↓j_ob, ↓j_ar, ↓j_fd, ↓j_fo, ↓j_mo, ↓j_br, ↓j_to, ↓j_lo, ↓j_scr, ↓j_co, ↓j_no, j_nf, j_rt, j_ld, j_st1, j_st2, j_k1, j_ci, j_fin, j_sh, j_shl, Option.map_some, Option.map_none, Option.toList_some, Option.toList_none, List.cons_append, List.nil_append, List.map_cons, List.map_nil, List.sum_cons, List.sum_nil, Value.category, List.getElem?_cons_zero, List.getElem?_cons_succ, List.length_cons, List.length_nil, true_and, and_true, if_true, if_false, ↓reduceIte, Bool.false_eq_true, Bool.true_eq_false, reduceCtorEq, Nat.reduceAdd, Nat.reduceLT, Nat.reduceLeDiff, Nat.reduceEqDiff, Nat.reduceBEq, Int.cast_ofNat_Int, Int.reduceAdd, Int.reduceNeg, Int.reduceSub, Int.reduceToNat, Int.reduceLE, Nat.zero_le, false_implies, implies_true, beq_self_eq_true, Bool.and_true, Bool.and_false, Bool.or_false, Bool.false_or, Bool.or_true, Bool.true_or, Bool.and_self, Bool.or_self, Nat.zero_add, Nat.add_zero, or_false, or_true, true_or, false_or, j_b0, ↓j_b1, j_b2, ↓j_b3, j_01, j_inb, and_self, Classical.not_not, Int32.reduceLE, Int32.reduceLT, Int32.reduceAdd, j_ne, eq_self, not_true_eq_false, not_false_eq_true, forall_const, and_false, false_and, j_sc, j_ent, Nat.reduceSub, List.replicate_zero, List.replicate_succ, e4]
  refine j_go (fun q => false) 60 ?_
  simp only [qX10_mark_, j_f10, j_m10, j_ty, tyX10, ↓j_kt, ↓j_sel, ↓j_run_0, ↓j_run_s, ↓j_wp, ↓j_pi, ↓j_pii, ↓j_pl, ↓j_pll, ↓j_pli, ↓j_pr, ↓j_pri, ↓j_prii, ↓j_pvr, ↓j_pop, ↓j_gi, ↓j_gl, ↓j_ga, ↓j_ob, ↓j_ar, ↓j_fd, ↓j_fo, ↓j_mo, ↓j_br, ↓j_to, ↓j_lo, ↓j_scr, ↓j_co, ↓j_no, j_nf, j_rt, j_ld, j_st1, j_st2, j_k1, j_ci, j_fin, j_sh, j_shl, Option.map_some, Option.map_none, Option.toList_some, Option.toList_none, List.cons_append, List.nil_append, List.map_cons, List.map_nil, List.sum_cons, List.sum_nil, Value.category, List.getElem?_cons_zero, List.getElem?_cons_succ, List.length_cons, List.length_nil, true_and, and_true, if_true, if_false, ↓reduceIte, Bool.false_eq_true, Bool.true_eq_false, reduceCtorEq, Nat.reduceAdd, Nat.reduceLT, Nat.reduceLeDiff, Nat.reduceEqDiff, Nat.reduceBEq, Int.cast_ofNat_Int, Int.reduceAdd, Int.reduceNeg, Int.reduceSub, Int.reduceToNat, Int.reduceLE, Nat.zero_le, false_implies, implies_true, beq_self_eq_true, Bool.and_true, Bool.and_false, Bool.or_false, Bool.false_or, Bool.or_true, Bool.true_or, Bool.and_self, Bool.or_self, Nat.zero_add, Nat.add_zero, or_false, or_true, true_or, false_or, j_b0, ↓j_b1, j_b2, ↓j_b3, j_01, j_inb, and_self, Classical.not_not, Int32.reduceLE, Int32.reduceLT, Int32.reduceAdd, j_ne, eq_self, not_true_eq_false, not_false_eq_true, forall_const, and_false, false_and, j_sc, j_ent, Nat.reduceSub, List.replicate_zero, List.replicate_succ, e4, h40, nI_cl' (show p < 1000000 by omega), j_un, ne_eq, n_ne12]
  refine ⟨fun k => ?_, fun k => ?_⟩
  · rw [if_neg (fun z => k z.1)] at hQ
    exact hQ
  · generalize hm : j_up (j_up (j_up ν 65 p (ν 42 1)) 66 p ((k_sp (ν 69) p 0 + k_sp (ν 69) p 1 + k_sp (ν 69) p 2 + k_sp (ν 69) p 3) / 12)) 67 p (k_rf (ν 69) p) = m at hQ ⊢
    have o42 : m 42 = ν 42 := by rw [← hm]; simp only [j_un, ne_eq, not_false_eq_true, Nat.reduceEqDiff]
    have o46 : m 46 = ν 46 := by rw [← hm]; simp only [j_un, ne_eq, not_false_eq_true, Nat.reduceEqDiff]
    have o45 : m 45 = ν 45 := by rw [← hm]; simp only [j_un, ne_eq, not_false_eq_true, Nat.reduceEqDiff]
    refine j_use1 (f_X10_isAlive m _ (by rw [o42]; exact kn)) (by decide) ?_
    simp only [qX10_mark_, j_f10, j_m10, j_ty, tyX10, ↓j_kt, ↓j_sel, ↓j_run_0, ↓j_run_s, ↓j_wp, ↓j_pi, ↓j_pii, ↓j_pl, ↓j_pll, ↓j_pli, ↓j_pr, ↓j_pri, ↓j_prii, ↓j_pvr, ↓j_pop, ↓j_gi, ↓j_gl, ↓j_ga, ↓j_ob, ↓j_ar, ↓j_fd, ↓j_fo, ↓j_mo, ↓j_br, ↓j_to, ↓j_lo, ↓j_scr, ↓j_co, ↓j_no, j_nf, j_rt, j_ld, j_st1, j_st2, j_k1, j_ci, j_fin, j_sh, j_shl, Option.map_some, Option.map_none, Option.toList_some, Option.toList_none, List.cons_append, List.nil_append, List.map_cons, List.map_nil, List.sum_cons, List.sum_nil, Value.category, List.getElem?_cons_zero, List.getElem?_cons_succ, List.length_cons, List.length_nil, true_and, and_true, if_true, if_false, ↓reduceIte, Bool.false_eq_true, Bool.true_eq_false, reduceCtorEq, Nat.reduceAdd, Nat.reduceLT, Nat.reduceLeDiff, Nat.reduceEqDiff, Nat.reduceBEq, Int.cast_ofNat_Int, Int.reduceAdd, Int.reduceNeg, Int.reduceSub, Int.reduceToNat, Int.reduceLE, Nat.zero_le, false_implies, implies_true, beq_self_eq_true, Bool.and_true, Bool.and_false, Bool.or_false, Bool.false_or, Bool.or_true, Bool.true_or, Bool.and_self, Bool.or_self, Nat.zero_add, Nat.add_zero, or_false, or_true, true_or, false_or, j_b0, ↓j_b1, j_b2, ↓j_b3, j_01, j_inb, and_self, Classical.not_not, Int32.reduceLE, Int32.reduceLT, Int32.reduceAdd, j_ne, eq_self, not_true_eq_false, not_false_eq_true, forall_const, and_false, false_and, j_sc, j_ent, Nat.reduceSub, List.replicate_zero, List.replicate_succ, o42, o46, o45]
    refine ⟨fun a => ?_, fun a => ?_⟩
    · rw [if_neg (fun z => a z.2.1)] at hQ
      exact hQ
    · refine j_use1 (f_X10_isMaster m _ (by rw [o42]; exact kn)) (by decide) ?_
      simp only [qX10_mark_, j_f10, j_m10, j_ty, tyX10, ↓j_kt, ↓j_sel, ↓j_run_0, ↓j_run_s, ↓j_wp, ↓j_pi, ↓j_pii, ↓j_pl, ↓j_pll, ↓j_pli, ↓j_pr, ↓j_pri, ↓j_prii, ↓j_pvr, ↓j_pop, ↓j_gi, ↓j_gl, ↓j_ga, ↓j_ob, ↓j_ar, ↓j_fd, ↓j_fo, ↓j_mo, ↓j_br, ↓j_to, ↓j_lo, ↓j_scr, ↓j_co, ↓j_no, j_nf, j_rt, j_ld, j_st1, j_st2, j_k1, j_ci, j_fin, j_sh, j_shl, Option.map_some, Option.map_none, Option.toList_some, Option.toList_none, List.cons_append, List.nil_append, List.map_cons, List.map_nil, List.sum_cons, List.sum_nil, Value.category, List.getElem?_cons_zero, List.getElem?_cons_succ, List.length_cons, List.length_nil, true_and, and_true, if_true, if_false, ↓reduceIte, Bool.false_eq_true, Bool.true_eq_false, reduceCtorEq, Nat.reduceAdd, Nat.reduceLT, Nat.reduceLeDiff, Nat.reduceEqDiff, Nat.reduceBEq, Int.cast_ofNat_Int, Int.reduceAdd, Int.reduceNeg, Int.reduceSub, Int.reduceToNat, Int.reduceLE, Nat.zero_le, false_implies, implies_true, beq_self_eq_true, Bool.and_true, Bool.and_false, Bool.or_false, Bool.false_or, Bool.or_true, Bool.true_or, Bool.and_self, Bool.or_self, Nat.zero_add, Nat.add_zero, or_false, or_true, true_or, false_or, j_b0, ↓j_b1, j_b2, ↓j_b3, j_01, j_inb, and_self, Classical.not_not, Int32.reduceLE, Int32.reduceLT, Int32.reduceAdd, j_ne, eq_self, not_true_eq_false, not_false_eq_true, forall_const, and_false, false_and, j_sc, j_ent, Nat.reduceSub, List.replicate_zero, List.replicate_succ, o42, o46, o45]
      refine ⟨fun b => ?_, fun b => ?_⟩
      · rw [if_neg (fun z => by grind)] at hQ
        exact hQ
      · rw [if_pos ⟨k, a, by grind⟩] at hQ
        exact ⟨⟨a.1, by grind⟩, hQ⟩
set_option maxRecDepth 100000 in
theorem f_X10_mark_ (μ : j_M) (p i j v : Int32) {n : Nat} (hs : μ 42 6 = nI n) (hn : n ≤ 40) (h30 : μ 42 2 ≤ 30) : j_R 3 yX10_mark_ [.ref 42, .int p, .int i, .int j, .int v] μ (q_mark (t_0 μ) p i j v) := by
  have ks : t_0 μ 42 6 = nI n := by rw [t_0s μ (by decide)]; exact hs
  have k30 : t_0 μ 42 2 ≤ 30 := by rw [t_0s μ (by decide)]; exact h30
  refine eX10_mark_ (Nat.le_of_ble_eq_true rfl) (j_go (fun q => q == 5) 60 ?_)
  simp only [qX10_mark_, j_f10, j_m10, j_ty, tyX10, ↓j_kt, ↓j_sel, ↓j_run_0, ↓j_run_s, ↓j_wp, ↓j_pi, ↓j_pii, ↓j_pl, ↓j_pll, ↓j_pli, ↓j_pr, ↓j_pri, ↓j_prii, ↓j_pvr, ↓j_pop, ↓j_gi, ↓j_gl, ↓j_ga, ↓j_ob, ↓j_ar, ↓j_fd, ↓j_fo, ↓j_mo, ↓j_br, ↓j_to, ↓j_lo, ↓j_scr, ↓j_co, ↓j_no, j_nf, j_rt, j_ld, j_st1, j_st2, j_k1, j_ci, j_fin, j_sh, j_shl, Option.map_some, Option.map_none, Option.toList_some, Option.toList_none, List.cons_append, List.nil_append, List.map_cons, List.map_nil, List.sum_cons, List.sum_nil, Value.category, List.getElem?_cons_zero, List.getElem?_cons_succ, List.length_cons, List.length_nil, true_and, and_true, if_true, if_false, ↓reduceIte, Bool.false_eq_true, Bool.true_eq_false, reduceCtorEq, Nat.reduceAdd, Nat.reduceLT, Nat.reduceLeDiff, Nat.reduceEqDiff, Nat.reduceBEq, Int.cast_ofNat_Int, Int.reduceAdd, Int.reduceNeg, Int.reduceSub, Int.reduceToNat, Int.reduceLE, Nat.zero_le, false_implies, implies_true, beq_self_eq_true, Bool.and_true, Bool.and_false, Bool.or_false, Bool.false_or, Bool.or_true, Bool.true_or, Bool.and_self, Bool.or_self, Nat.zero_add, Nat.add_zero, or_false, or_true, true_or, false_or, j_b0, ↓j_b1, j_b2, ↓j_b3, j_01, j_inb, and_self, Classical.not_not, Int32.reduceLE, Int32.reduceLT, Int32.reduceAdd, j_ne, eq_self, not_true_eq_false, not_false_eq_true, forall_const, and_false, false_and, j_sc, j_ent, Nat.reduceSub, List.replicate_zero, List.replicate_succ]
  show j_J _ _ _ _ _ _ _ _ _ _ _ _ _ _ (t_0 μ)
  generalize t_0 μ = ν at ks k30 ⊢
  refine j_go (fun q => q == 54) 90 ?_
  simp only [qX10_mark_, j_f10, j_m10, j_ty, tyX10, ↓j_kt, ↓j_sel, ↓j_run_0, ↓j_run_s, ↓j_wp, ↓j_pi, ↓j_pii, ↓j_pl, ↓j_pll, ↓j_pli, ↓j_pr, ↓j_pri, ↓j_prii, ↓j_pvr, ↓j_pop, ↓j_gi, ↓j_gl, ↓j_ga, ↓j_ob, ↓j_ar, ↓j_fd, ↓j_fo, ↓j_mo, ↓j_br, ↓j_to, ↓j_lo, ↓j_scr, ↓j_co, ↓j_no, j_nf, j_rt, j_ld, j_st1, j_st2, j_k1, j_ci, j_fin, j_sh, j_shl, Option.map_some, Option.map_none, Option.toList_some, Option.toList_none, List.cons_append, List.nil_append, List.map_cons, List.map_nil, List.sum_cons, List.sum_nil, Value.category, List.getElem?_cons_zero, List.getElem?_cons_succ, List.length_cons, List.length_nil, true_and, and_true, if_true, if_false, ↓reduceIte, Bool.false_eq_true, Bool.true_eq_false, reduceCtorEq, Nat.reduceAdd, Nat.reduceLT, Nat.reduceLeDiff, Nat.reduceEqDiff, Nat.reduceBEq, Int.cast_ofNat_Int, Int.reduceAdd, Int.reduceNeg, Int.reduceSub, Int.reduceToNat, Int.reduceLE, Nat.zero_le, false_implies, implies_true, beq_self_eq_true, Bool.and_true, Bool.and_false, Bool.or_false, Bool.false_or, Bool.or_true, Bool.true_or, Bool.and_self, Bool.or_self, Nat.zero_add, Nat.add_zero, or_false, or_true, true_or, false_or, j_b0, ↓j_b1, j_b2, ↓j_b3, j_01, j_inb, and_self, Classical.not_not, Int32.reduceLE, Int32.reduceLT, Int32.reduceAdd, j_ne, eq_self, not_true_eq_false, not_false_eq_true, forall_const, and_false, false_and, j_sc, j_ent, Nat.reduceSub, List.replicate_zero, List.replicate_succ]
  refine j_use1 (f_X10_isPiece ν p) (by decide) ?_
  simp only [qX10_mark_, j_f10, j_m10, j_ty, tyX10, ↓j_kt, ↓j_sel, ↓j_run_0, ↓j_run_s, ↓j_wp, ↓j_pi, ↓j_pii, ↓j_pl, ↓j_pll, ↓j_pli, ↓j_pr, ↓j_pri, ↓j_prii, ↓j_pvr, ↓j_pop, ↓j_gi, ↓j_gl, ↓j_ga, ↓j_ob, ↓j_ar, ↓j_fd, ↓j_fo, ↓j_mo, ↓j_br, ↓j_to, ↓j_lo, ↓j_scr, ↓j_co, ↓j_no, j_nf, j_rt, j_ld, j_st1, j_st2, j_k1, j_ci, j_fin, j_sh, j_shl, Option.map_some, Option.map_none, Option.toList_some, Option.toList_none, List.cons_append, List.nil_append, List.map_cons, List.map_nil, List.sum_cons, List.sum_nil, Value.category, List.getElem?_cons_zero, List.getElem?_cons_succ, List.length_cons, List.length_nil, true_and, and_true, if_true, if_false, ↓reduceIte, Bool.false_eq_true, Bool.true_eq_false, reduceCtorEq, Nat.reduceAdd, Nat.reduceLT, Nat.reduceLeDiff, Nat.reduceEqDiff, Nat.reduceBEq, Int.cast_ofNat_Int, Int.reduceAdd, Int.reduceNeg, Int.reduceSub, Int.reduceToNat, Int.reduceLE, Nat.zero_le, false_implies, implies_true, beq_self_eq_true, Bool.and_true, Bool.and_false, Bool.or_false, Bool.false_or, Bool.or_true, Bool.true_or, Bool.and_self, Bool.or_self, Nat.zero_add, Nat.add_zero, or_false, or_true, true_or, false_or, j_b0, ↓j_b1, j_b2, ↓j_b3, j_01, j_inb, and_self, Classical.not_not, Int32.reduceLE, Int32.reduceLT, Int32.reduceAdd, j_ne, eq_self, not_true_eq_false, not_false_eq_true, forall_const, and_false, false_and, j_sc, j_ent, Nat.reduceSub, List.replicate_zero, List.replicate_succ]
  refine ⟨fun h => Or.inr ⟨fun z => h z.1, rfl, rfl⟩, fun hp => ?_⟩
  refine j_use1 (f_X10_isIn ν i 0 2) (by decide) ?_
  simp only [qX10_mark_, j_f10, j_m10, j_ty, tyX10, ↓j_kt, ↓j_sel, ↓j_run_0, ↓j_run_s, ↓j_wp, ↓j_pi, ↓j_pii, ↓j_pl, ↓j_pll, ↓j_pli, ↓j_pr, ↓j_pri, ↓j_prii, ↓j_pvr, ↓j_pop, ↓j_gi, ↓j_gl, ↓j_ga, ↓j_ob, ↓j_ar, ↓j_fd, ↓j_fo, ↓j_mo, ↓j_br, ↓j_to, ↓j_lo, ↓j_scr, ↓j_co, ↓j_no, j_nf, j_rt, j_ld, j_st1, j_st2, j_k1, j_ci, j_fin, j_sh, j_shl, Option.map_some, Option.map_none, Option.toList_some, Option.toList_none, List.cons_append, List.nil_append, List.map_cons, List.map_nil, List.sum_cons, List.sum_nil, Value.category, List.getElem?_cons_zero, List.getElem?_cons_succ, List.length_cons, List.length_nil, true_and, and_true, if_true, if_false, ↓reduceIte, Bool.false_eq_true, Bool.true_eq_false, reduceCtorEq, Nat.reduceAdd, Nat.reduceLT, Nat.reduceLeDiff, Nat.reduceEqDiff, Nat.reduceBEq, Int.cast_ofNat_Int, Int.reduceAdd, Int.reduceNeg, Int.reduceSub, Int.reduceToNat, Int.reduceLE, Nat.zero_le, false_implies, implies_true, beq_self_eq_true, Bool.and_true, Bool.and_false, Bool.or_false, Bool.false_or, Bool.or_true, Bool.true_or, Bool.and_self, Bool.or_self, Nat.zero_add, Nat.add_zero, or_false, or_true, true_or, false_or, j_b0, ↓j_b1, j_b2, ↓j_b3, j_01, j_inb, and_self, Classical.not_not, Int32.reduceLE, Int32.reduceLT, Int32.reduceAdd, j_ne, eq_self, not_true_eq_false, not_false_eq_true, forall_const, and_false, false_and, j_sc, j_ent, Nat.reduceSub, List.replicate_zero, List.replicate_succ]
  refine ⟨fun h => Or.inr ⟨fun z => h (by grind), rfl, rfl⟩, fun hi => ?_⟩
  refine j_use1 (f_X10_isIn ν j 0 3) (by decide) ?_
  simp only [qX10_mark_, j_f10, j_m10, j_ty, tyX10, ↓j_kt, ↓j_sel, ↓j_run_0, ↓j_run_s, ↓j_wp, ↓j_pi, ↓j_pii, ↓j_pl, ↓j_pll, ↓j_pli, ↓j_pr, ↓j_pri, ↓j_prii, ↓j_pvr, ↓j_pop, ↓j_gi, ↓j_gl, ↓j_ga, ↓j_ob, ↓j_ar, ↓j_fd, ↓j_fo, ↓j_mo, ↓j_br, ↓j_to, ↓j_lo, ↓j_scr, ↓j_co, ↓j_no, j_nf, j_rt, j_ld, j_st1, j_st2, j_k1, j_ci, j_fin, j_sh, j_shl, Option.map_some, Option.map_none, Option.toList_some, Option.toList_none, List.cons_append, List.nil_append, List.map_cons, List.map_nil, List.sum_cons, List.sum_nil, Value.category, List.getElem?_cons_zero, List.getElem?_cons_succ, List.length_cons, List.length_nil, true_and, and_true, if_true, if_false, ↓reduceIte, Bool.false_eq_true, Bool.true_eq_false, reduceCtorEq, Nat.reduceAdd, Nat.reduceLT, Nat.reduceLeDiff, Nat.reduceEqDiff, Nat.reduceBEq, Int.cast_ofNat_Int, Int.reduceAdd, Int.reduceNeg, Int.reduceSub, Int.reduceToNat, Int.reduceLE, Nat.zero_le, false_implies, implies_true, beq_self_eq_true, Bool.and_true, Bool.and_false, Bool.or_false, Bool.false_or, Bool.or_true, Bool.true_or, Bool.and_self, Bool.or_self, Nat.zero_add, Nat.add_zero, or_false, or_true, true_or, false_or, j_b0, ↓j_b1, j_b2, ↓j_b3, j_01, j_inb, and_self, Classical.not_not, Int32.reduceLE, Int32.reduceLT, Int32.reduceAdd, j_ne, eq_self, not_true_eq_false, not_false_eq_true, forall_const, and_false, false_and, j_sc, j_ent, Nat.reduceSub, List.replicate_zero, List.replicate_succ]
  refine ⟨fun h => Or.inr ⟨fun z => h (by grind), rfl, rfl⟩, fun hj => ?_⟩
  refine j_use1 (f_X10_isIn ν v 0 10) (by decide) ?_
  simp only [qX10_mark_, j_f10, j_m10, j_ty, tyX10, ↓j_kt, ↓j_sel, ↓j_run_0, ↓j_run_s, ↓j_wp, ↓j_pi, ↓j_pii, ↓j_pl, ↓j_pll, ↓j_pli, ↓j_pr, ↓j_pri, ↓j_prii, ↓j_pvr, ↓j_pop, ↓j_gi, ↓j_gl, ↓j_ga, ↓j_ob, ↓j_ar, ↓j_fd, ↓j_fo, ↓j_mo, ↓j_br, ↓j_to, ↓j_lo, ↓j_scr, ↓j_co, ↓j_no, j_nf, j_rt, j_ld, j_st1, j_st2, j_k1, j_ci, j_fin, j_sh, j_shl, Option.map_some, Option.map_none, Option.toList_some, Option.toList_none, List.cons_append, List.nil_append, List.map_cons, List.map_nil, List.sum_cons, List.sum_nil, Value.category, List.getElem?_cons_zero, List.getElem?_cons_succ, List.length_cons, List.length_nil, true_and, and_true, if_true, if_false, ↓reduceIte, Bool.false_eq_true, Bool.true_eq_false, reduceCtorEq, Nat.reduceAdd, Nat.reduceLT, Nat.reduceLeDiff, Nat.reduceEqDiff, Nat.reduceBEq, Int.cast_ofNat_Int, Int.reduceAdd, Int.reduceNeg, Int.reduceSub, Int.reduceToNat, Int.reduceLE, Nat.zero_le, false_implies, implies_true, beq_self_eq_true, Bool.and_true, Bool.and_false, Bool.or_false, Bool.false_or, Bool.or_true, Bool.true_or, Bool.and_self, Bool.or_self, Nat.zero_add, Nat.add_zero, or_false, or_true, true_or, false_or, j_b0, ↓j_b1, j_b2, ↓j_b3, j_01, j_inb, and_self, Classical.not_not, Int32.reduceLE, Int32.reduceLT, Int32.reduceAdd, j_ne, eq_self, not_true_eq_false, not_false_eq_true, forall_const, and_false, false_and, j_sc, j_ent, Nat.reduceSub, List.replicate_zero, List.replicate_succ]
  refine ⟨fun h => Or.inr ⟨fun z => h z.2.2.2.1, rfl, rfl⟩, fun hv => ?_⟩
  have hi' : 0 ≤ i ∧ i < 3 := by grind
  have hj' : 0 ≤ j ∧ j < 4 := by grind
  obtain ⟨pn, hpn, rfl⟩ := vp_in_of (x := p) (n := n) ((j_inl (N := nI n) (nI_toInt (by omega))).mpr (by rw [← ks]; exact hp)) (by omega)
  obtain ⟨i', hi2, rfl⟩ := vp_in_of (x := i) (n := 3) ((j_inl (N := 3) (by decide)).mpr hi') (by omega)
  obtain ⟨j', hj2, rfl⟩ := vp_in_of (x := j) (n := 4) ((j_inl (N := 4) (by decide)).mpr hj') (by omega)
  have hcl := nI_cl' (show pn < 1000000 by omega)
  refine ⟨n40 (by omega), fun hd => ?_, fun hd => Or.inr ⟨fun z => hd z.2.2.2.2, rfl, rfl⟩⟩
  have goal1 : ∀ m, m = q_mar ν pn i' j' v → q_mark ν (nI pn) (nI i') (nI j') v (some 1) m := by
    intro m e
    refine Or.inl ⟨⟨hp, hi', hj', hv, hd⟩, rfl, ?_⟩
    rw [hcl, nI_cl' (show i' < 1000000 by omega), nI_cl' (show j' < 1000000 by omega)]
    exact e
  refine j_go (fun q => q == 80) 40 ?_
  simp only [qX10_mark_, j_f10, j_m10, j_ty, tyX10, ↓j_kt, ↓j_sel, ↓j_run_0, ↓j_run_s, ↓j_wp, ↓j_pi, ↓j_pii, ↓j_pl, ↓j_pll, ↓j_pli, ↓j_pr, ↓j_pri, ↓j_prii, ↓j_pvr, ↓j_pop, ↓j_gi, ↓j_gl, ↓j_ga, ↓j_ob, ↓j_ar, ↓j_fd, ↓j_fo, ↓j_mo, ↓j_br, ↓j_to, ↓j_lo, ↓j_scr, ↓j_co, ↓j_no, j_nf, j_rt, j_ld, j_st1, j_st2, j_k1, j_ci, j_fin, j_sh, j_shl, Option.map_some, Option.map_none, Option.toList_some, Option.toList_none, List.cons_append, List.nil_append, List.map_cons, List.map_nil, List.sum_cons, List.sum_nil, Value.category, List.getElem?_cons_zero, List.getElem?_cons_succ, List.length_cons, List.length_nil, true_and, and_true, if_true, if_false, ↓reduceIte, Bool.false_eq_true, Bool.true_eq_false, reduceCtorEq, Nat.reduceAdd, Nat.reduceLT, Nat.reduceLeDiff, Nat.reduceEqDiff, Nat.reduceBEq, Int.cast_ofNat_Int, Int.reduceAdd, Int.reduceNeg, Int.reduceSub, Int.reduceToNat, Int.reduceLE, Nat.zero_le, false_implies, implies_true, beq_self_eq_true, Bool.and_true, Bool.and_false, Bool.or_false, Bool.false_or, Bool.or_true, Bool.true_or, Bool.and_self, Bool.or_self, Nat.zero_add, Nat.add_zero, or_false, or_true, true_or, false_or, j_b0, ↓j_b1, j_b2, ↓j_b3, j_01, j_inb, and_self, Classical.not_not, Int32.reduceLE, Int32.reduceLT, Int32.reduceAdd, j_ne, eq_self, not_true_eq_false, not_false_eq_true, forall_const, and_false, false_and, j_sc, j_ent, Nat.reduceSub, List.replicate_zero, List.replicate_succ, n_12i, nI_cl' (show 12 * pn + 4 * i' + j' < 1000000 by omega)]
  refine ⟨n480 (by omega), ?_⟩
  unfold q_mar at goal1
  generalize hm : j_up ν 69 (12 * pn + 4 * i' + j') v = m at goal1 ⊢
  have o42 : m 42 = ν 42 := by rw [← hm, j_un _ _ _ (by decide)]
  have gex : ∀ k, k < 4 → q_col m pn k → q_mark ν (nI pn) (nI i') (nI j') v (some 1) m := fun k hk hc => goal1 m (by rw [if_pos (q_col_ex hk hc)])
  refine l_X10_col (k := 0) (by omega) (by omega) (fun h => ⟨rfl, gex 0 (by omega) h⟩) (fun _ _ _ h0 => ?_)
  refine l_X10_col (k := 1) (by omega) (by omega) (fun h => ⟨rfl, gex 1 (by omega) h⟩) (fun _ _ _ h1 => ?_)
  refine l_X10_col (k := 2) (by omega) (by omega) (fun h => ⟨rfl, gex 2 (by omega) h⟩) (fun _ _ _ h2 => ?_)
  refine l_X10_col (k := 3) (by omega) (by omega) (fun h => ⟨rfl, gex 3 (by omega) h⟩) (fun _ _ _ h3 => ?_)
  refine l_X10_done (by omega) (by rw [o42]; exact k30) ⟨rfl, goal1 _ ?_⟩
  rw [if_neg (q_col_no (fun k hk => ?_))]
  match k, hk with
  | 0, _ => exact h0
  | 1, _ => exact h1
  | 2, _ => exact h2
  | 3, _ => exact h3
