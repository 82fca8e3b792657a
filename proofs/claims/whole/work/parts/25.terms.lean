/-! Terms -/
set_option maxRecDepth 100000 in
theorem f_X7_isFull (μ : j_M) : j_R 0 yX7_isFull [.ref 8] μ (fun r m => r = some (if μ 8 6 < 100 then 0 else 1) ∧ m = μ) := by
  refine eX7_isFull (Nat.le_of_ble_eq_true rfl) (j_go (fun _ => false) 20 ?_)
  simp only [qX7_isFull, j_f7, j_m7, j_ty, tyX7, ↓j_kt, ↓j_sel, ↓j_run_0, ↓j_run_s, ↓j_wp, ↓j_pi, ↓j_pii, ↓j_pl, ↓j_pll, ↓j_pli, ↓j_pr, ↓j_pri, ↓j_prii, ↓j_pvr, ↓j_pop, ↓j_gi, ↓j_gl, ↓j_ga, ↓j_ob, ↓j_ar, ↓j_fd, ↓j_fo, ↓j_mo, ↓j_br, ↓j_to, ↓j_lo, ↓j_scr, ↓j_co, ↓j_no, j_nf, j_rt, j_ld, j_st1, j_st2, j_k1, j_ci, j_fin, j_sh, j_shl, Option.map_some, Option.map_none, Option.toList_some, Option.toList_none, List.cons_append, List.nil_append, List.map_cons, List.map_nil, List.sum_cons, List.sum_nil, Value.category, List.getElem?_cons_zero, List.getElem?_cons_succ, List.length_cons, List.length_nil, true_and, and_true, if_true, if_false, ↓reduceIte, Bool.false_eq_true, Bool.true_eq_false, reduceCtorEq, Nat.reduceAdd, Nat.reduceLT, Nat.reduceLeDiff, Nat.reduceEqDiff, Nat.reduceBEq, Int.cast_ofNat_Int, Int.reduceAdd, Int.reduceNeg, Int.reduceSub, Int.reduceToNat, Int.reduceLE, Nat.zero_le, false_implies, implies_true, beq_self_eq_true, Bool.and_true, Bool.and_false, Bool.or_false, Bool.false_or, Bool.or_true, Bool.true_or, Bool.and_self, Bool.or_self, Nat.zero_add, Nat.add_zero, or_false, or_true, true_or, false_or, j_b0, j_b1, j_b2, j_b3, j_01, j_inb, and_self, Classical.not_not, Int32.reduceLE, Int32.reduceLT, Int32.reduceAdd, j_ne, eq_self, not_true_eq_false, not_false_eq_true, forall_const, and_false, false_and, j_sc, j_ent, Nat.reduceSub, List.replicate_zero, List.replicate_succ]
  grind
set_option maxRecDepth 100000 in
theorem f_X7_has (μ : j_M) (p : Int32) : j_R 0 yX7_has [.ref 8, .int p] μ (fun r m => r = some (if 0 ≤ p ∧ p < μ 8 6 then 1 else 0) ∧ m = μ) := by
  refine eX7_has (Nat.le_of_ble_eq_true rfl) (j_go (fun _ => false) 20 ?_)
  simp only [qX7_has, j_f7, j_m7, j_ty, tyX7, ↓j_kt, ↓j_sel, ↓j_run_0, ↓j_run_s, ↓j_wp, ↓j_pi, ↓j_pii, ↓j_pl, ↓j_pll, ↓j_pli, ↓j_pr, ↓j_pri, ↓j_prii, ↓j_pvr, ↓j_pop, ↓j_gi, ↓j_gl, ↓j_ga, ↓j_ob, ↓j_ar, ↓j_fd, ↓j_fo, ↓j_mo, ↓j_br, ↓j_to, ↓j_lo, ↓j_scr, ↓j_co, ↓j_no, j_nf, j_rt, j_ld, j_st1, j_st2, j_k1, j_ci, j_fin, j_sh, j_shl, Option.map_some, Option.map_none, Option.toList_some, Option.toList_none, List.cons_append, List.nil_append, List.map_cons, List.map_nil, List.sum_cons, List.sum_nil, Value.category, List.getElem?_cons_zero, List.getElem?_cons_succ, List.length_cons, List.length_nil, true_and, and_true, if_true, if_false, ↓reduceIte, Bool.false_eq_true, Bool.true_eq_false, reduceCtorEq, Nat.reduceAdd, Nat.reduceLT, Nat.reduceLeDiff, Nat.reduceEqDiff, Nat.reduceBEq, Int.cast_ofNat_Int, Int.reduceAdd, Int.reduceNeg, Int.reduceSub, Int.reduceToNat, Int.reduceLE, Nat.zero_le, false_implies, implies_true, beq_self_eq_true, Bool.and_true, Bool.and_false, Bool.or_false, Bool.false_or, Bool.or_true, Bool.true_or, Bool.and_self, Bool.or_self, Nat.zero_add, Nat.add_zero, or_false, or_true, true_or, false_or, j_b0, j_b1, j_b2, j_b3, j_01, j_inb, and_self, Classical.not_not, Int32.reduceLE, Int32.reduceLT, Int32.reduceAdd, j_ne, eq_self, not_true_eq_false, not_false_eq_true, forall_const, and_false, false_and, j_sc, j_ent, Nat.reduceSub, List.replicate_zero, List.replicate_succ]
  grind
set_option maxRecDepth 100000 in
theorem f_X7_isTakenBack (μ : j_M) (p : Int32) (h0 : 0 ≤ p) (h1 : p < 100) : j_R 0 yX7_isTakenBack [.ref 8, .int p] μ (fun r m => r = some (if μ 14 p.toNatClampNeg = -1 then 0 else 1) ∧ m = μ) := by
  refine eX7_isTakenBack (Nat.le_of_ble_eq_true rfl) (j_go (fun _ => false) 20 ?_)
  simp only [qX7_isTakenBack, j_f7, j_m7, j_ty, tyX7, ↓j_kt, ↓j_sel, ↓j_run_0, ↓j_run_s, ↓j_wp, ↓j_pi, ↓j_pii, ↓j_pl, ↓j_pll, ↓j_pli, ↓j_pr, ↓j_pri, ↓j_prii, ↓j_pvr, ↓j_pop, ↓j_gi, ↓j_gl, ↓j_ga, ↓j_ob, ↓j_ar, ↓j_fd, ↓j_fo, ↓j_mo, ↓j_br, ↓j_to, ↓j_lo, ↓j_scr, ↓j_co, ↓j_no, j_nf, j_rt, j_ld, j_st1, j_st2, j_k1, j_ci, j_fin, j_sh, j_shl, Option.map_some, Option.map_none, Option.toList_some, Option.toList_none, List.cons_append, List.nil_append, List.map_cons, List.map_nil, List.sum_cons, List.sum_nil, Value.category, List.getElem?_cons_zero, List.getElem?_cons_succ, List.length_cons, List.length_nil, true_and, and_true, if_true, if_false, ↓reduceIte, Bool.false_eq_true, Bool.true_eq_false, reduceCtorEq, Nat.reduceAdd, Nat.reduceLT, Nat.reduceLeDiff, Nat.reduceEqDiff, Nat.reduceBEq, Int.cast_ofNat_Int, Int.reduceAdd, Int.reduceNeg, Int.reduceSub, Int.reduceToNat, Int.reduceLE, Nat.zero_le, false_implies, implies_true, beq_self_eq_true, Bool.and_true, Bool.and_false, Bool.or_false, Bool.false_or, Bool.or_true, Bool.true_or, Bool.and_self, Bool.or_self, Nat.zero_add, Nat.add_zero, or_false, or_true, true_or, false_or, j_b0, j_b1, j_b2, j_b3, j_01, j_inb, and_self, Classical.not_not, Int32.reduceLE, Int32.reduceLT, Int32.reduceAdd, j_ne, eq_self, not_true_eq_false, not_false_eq_true, forall_const, and_false, false_and, j_sc, j_ent, Nat.reduceSub, List.replicate_zero, List.replicate_succ]
  grind
set_option maxRecDepth 100000 in
theorem f_X7_add (μ : j_M) (a b c e f : Int32) (h0 : 0 ≤ μ 8 6) (hn : μ 8 6 < 100) : j_R 0 yX7_add [.ref 8, .int a, .int b, .int c, .int e, .int f] μ (fun r m => r = some (μ 8 6) ∧ m = j_up (j_up (j_up (j_up (j_up (j_up (j_up μ 9 (μ 8 6).toNatClampNeg a) 10 (μ 8 6).toNatClampNeg b) 11 (μ 8 6).toNatClampNeg c) 12 (μ 8 6).toNatClampNeg e) 13 (μ 8 6).toNatClampNeg f) 14 (μ 8 6).toNatClampNeg (-1)) 8 6 (μ 8 6 + 1)) := by
  refine eX7_add (Nat.le_of_ble_eq_true rfl) (j_go (fun _ => false) 60 ?_)
  simp only [qX7_add, j_f7, j_m7, j_ty, tyX7, ↓j_kt, ↓j_sel, ↓j_run_0, ↓j_run_s, ↓j_wp, ↓j_pi, ↓j_pii, ↓j_pl, ↓j_pll, ↓j_pli, ↓j_pr, ↓j_pri, ↓j_prii, ↓j_pvr, ↓j_pop, ↓j_gi, ↓j_gl, ↓j_ga, ↓j_ob, ↓j_ar, ↓j_fd, ↓j_fo, ↓j_mo, ↓j_br, ↓j_to, ↓j_lo, ↓j_scr, ↓j_co, ↓j_no, j_nf, j_rt, j_ld, j_st1, j_st2, j_k1, j_ci, j_fin, j_sh, j_shl, Option.map_some, Option.map_none, Option.toList_some, Option.toList_none, List.cons_append, List.nil_append, List.map_cons, List.map_nil, List.sum_cons, List.sum_nil, Value.category, List.getElem?_cons_zero, List.getElem?_cons_succ, List.length_cons, List.length_nil, true_and, and_true, if_true, if_false, ↓reduceIte, Bool.false_eq_true, Bool.true_eq_false, reduceCtorEq, Nat.reduceAdd, Nat.reduceLT, Nat.reduceLeDiff, Nat.reduceEqDiff, Nat.reduceBEq, Int.cast_ofNat_Int, Int.reduceAdd, Int.reduceNeg, Int.reduceSub, Int.reduceToNat, Int.reduceLE, Nat.zero_le, false_implies, implies_true, beq_self_eq_true, Bool.and_true, Bool.and_false, Bool.or_false, Bool.false_or, Bool.or_true, Bool.true_or, Bool.and_self, Bool.or_self, Nat.zero_add, Nat.add_zero, or_false, or_true, true_or, false_or, j_b0, j_b1, j_b2, j_b3, j_01, j_inb, and_self, Classical.not_not, Int32.reduceLE, Int32.reduceLT, Int32.reduceAdd, j_ne, eq_self, not_true_eq_false, not_false_eq_true, forall_const, and_false, false_and, j_sc, j_ent, Nat.reduceSub, List.replicate_zero, List.replicate_succ, j_un, ne_eq, not_false_eq_true]
  grind
set_option maxRecDepth 100000 in
theorem f_X7_takeBack (μ : j_M) (p t : Int32) (h0 : 0 ≤ p) (h1 : p < 100) : j_R 0 yX7_takeBack [.ref 8, .int p, .int t] μ (fun r m => r = none ∧ m = j_up μ 14 p.toNatClampNeg t) := by
  refine eX7_takeBack (Nat.le_of_ble_eq_true rfl) (j_go (fun _ => false) 20 ?_)
  simp only [qX7_takeBack, j_f7, j_m7, j_ty, tyX7, ↓j_kt, ↓j_sel, ↓j_run_0, ↓j_run_s, ↓j_wp, ↓j_pi, ↓j_pii, ↓j_pl, ↓j_pll, ↓j_pli, ↓j_pr, ↓j_pri, ↓j_prii, ↓j_pvr, ↓j_pop, ↓j_gi, ↓j_gl, ↓j_ga, ↓j_ob, ↓j_ar, ↓j_fd, ↓j_fo, ↓j_mo, ↓j_br, ↓j_to, ↓j_lo, ↓j_scr, ↓j_co, ↓j_no, j_nf, j_rt, j_ld, j_st1, j_st2, j_k1, j_ci, j_fin, j_sh, j_shl, Option.map_some, Option.map_none, Option.toList_some, Option.toList_none, List.cons_append, List.nil_append, List.map_cons, List.map_nil, List.sum_cons, List.sum_nil, Value.category, List.getElem?_cons_zero, List.getElem?_cons_succ, List.length_cons, List.length_nil, true_and, and_true, if_true, if_false, ↓reduceIte, Bool.false_eq_true, Bool.true_eq_false, reduceCtorEq, Nat.reduceAdd, Nat.reduceLT, Nat.reduceLeDiff, Nat.reduceEqDiff, Nat.reduceBEq, Int.cast_ofNat_Int, Int.reduceAdd, Int.reduceNeg, Int.reduceSub, Int.reduceToNat, Int.reduceLE, Nat.zero_le, false_implies, implies_true, beq_self_eq_true, Bool.and_true, Bool.and_false, Bool.or_false, Bool.false_or, Bool.or_true, Bool.true_or, Bool.and_self, Bool.or_self, Nat.zero_add, Nat.add_zero, or_false, or_true, true_or, false_or, j_b0, j_b1, j_b2, j_b3, j_01, j_inb, and_self, Classical.not_not, Int32.reduceLE, Int32.reduceLT, Int32.reduceAdd, j_ne, eq_self, not_true_eq_false, not_false_eq_true, forall_const, and_false, false_and, j_sc, j_ent, Nat.reduceSub, List.replicate_zero, List.replicate_succ]
  grind
/-- a term is known in q -/
def k_kn (told back : Nat → Int32) (q : Int32) (t : Nat) : Bool := decide (told t ≤ q ∧ (back t = -1 ∨ q < back t))
set_option maxRecDepth 100000 in
theorem f_X7_isKnown (μ : j_M) (t : Nat) (q : Int32) (ht : t < 100) : j_R 0 yX7_isKnown [.ref 8, .int (nI t), .int q] μ (fun r m => r = some (if k_kn (μ 13) (μ 14) q t = true then 1 else 0) ∧ m = μ) := by
  have hin : 0 ≤ nI t ∧ nI t < 100 := ⟨nI_ge0 (by omega), (nI_lt' (b := 100) (by omega) (by omega)).mpr (by omega)⟩
  refine eX7_isKnown (Nat.le_of_ble_eq_true rfl) (j_go (fun _ => false) 30 ?_)
  simp only [qX7_isKnown, j_f7, j_m7, j_ty, tyX7, ↓j_kt, ↓j_sel, ↓j_run_0, ↓j_run_s, ↓j_wp, ↓j_pi, ↓j_pii, ↓j_pl, ↓j_pll, ↓j_pli, ↓j_pr, ↓j_pri, ↓j_prii, ↓j_pvr, ↓j_pop, ↓j_gi, ↓j_gl, ↓j_ga, ↓j_ob, ↓j_ar, ↓j_fd, ↓j_fo, ↓j_mo, ↓j_br, ↓j_to, ↓j_lo, ↓j_scr, ↓j_co, ↓j_no, j_nf, j_rt, j_ld, j_st1, j_st2, j_k1, j_ci, j_fin, j_sh, j_shl, Option.map_some, Option.map_none, Option.toList_some, Option.toList_none, List.cons_append, List.nil_append, List.map_cons, List.map_nil, List.sum_cons, List.sum_nil, Value.category, List.getElem?_cons_zero, List.getElem?_cons_succ, List.length_cons, List.length_nil, true_and, and_true, if_true, if_false, ↓reduceIte, Bool.false_eq_true, Bool.true_eq_false, reduceCtorEq, Nat.reduceAdd, Nat.reduceLT, Nat.reduceLeDiff, Nat.reduceEqDiff, Nat.reduceBEq, Int.cast_ofNat_Int, Int.reduceAdd, Int.reduceNeg, Int.reduceSub, Int.reduceToNat, Int.reduceLE, Nat.zero_le, false_implies, implies_true, beq_self_eq_true, Bool.and_true, Bool.and_false, Bool.or_false, Bool.false_or, Bool.or_true, Bool.true_or, Bool.and_self, Bool.or_self, Nat.zero_add, Nat.add_zero, or_false, or_true, true_or, false_or, j_b0, j_b1, j_b2, j_b3, j_01, j_inb, and_self, Classical.not_not, Int32.reduceLE, Int32.reduceLT, Int32.reduceAdd, j_ne, eq_self, not_true_eq_false, not_false_eq_true, forall_const, and_false, false_and, j_sc, j_ent, Nat.reduceSub, List.replicate_zero, List.replicate_succ, nI_cl' (show t < 1000000 by omega)]
  unfold k_kn
  simp only [decide_eq_true_eq]
  grind
/-- some j < n has g -/
def k_ex (g : Nat → Bool) : Nat → Bool
  | 0 => false
  | n + 1 => k_ex g n || g n
theorem k_ex_iff (g : Nat → Bool) : ∀ n, k_ex g n = true ↔ ∃ j, j < n ∧ g j = true
  | 0 => by simp [k_ex]
  | n + 1 => by
    simp only [k_ex, Bool.or_eq_true, k_ex_iff g n]
    constructor
    · rintro (⟨j, h1, h2⟩ | h)
      · exact ⟨j, by omega, h2⟩
      · exact ⟨n, by omega, h⟩
    · rintro ⟨j, h1, h2⟩
      by_cases h : j = n
      · subst h; exact Or.inr h2
      · exact Or.inl ⟨j, by omega, h2⟩
set_option maxRecDepth 100000 in
theorem l_X7_hasServed {μ : j_M} {n : Nat} {p w q : Int32} {Q : j_Q} (hs : μ 8 6 = nI n) (hn : n ≤ 100) (hQ : ∀ b, b = k_ex (fun t => decide (μ 9 t = p ∧ μ 10 t = w) && k_kn (μ 13) (μ 14) q t) n → Q (some (if b = true then 1 else 0)) j_SH μ) : ∀ (k i : Nat), i + k = n → k_ex (fun t => decide (μ 9 t = p ∧ μ 10 t = w) && k_kn (μ 13) (μ 14) q t) i = false → j_J cX7_hasServed 7 5 (some .boolean) false 1 none Q j_SH 0 0 3 [some (.ref 8), some (.int p), some (.int w), some (.int q), some (.int (nI i))] [] μ := by
  intro k
  induction k with
  | zero =>
    intro i hi hf
    refine j_go (fun q => q == 3) 30 ?_
    simp only [qX7_hasServed, j_f7, j_m7, j_ty, tyX7, ↓j_kt, ↓j_sel, ↓j_run_0, ↓j_run_s, ↓j_wp, ↓j_pi, ↓j_pii, ↓j_pl, ↓j_pll, ↓j_pli, ↓j_pr, ↓j_pri, ↓j_prii, ↓j_pvr, ↓j_pop, ↓j_gi, ↓j_gl, ↓j_ga, ↓j_ob, ↓j_ar, ↓j_fd, ↓j_fo, ↓j_mo, ↓j_br, ↓j_to, ↓j_lo, ↓j_scr, ↓j_co, ↓j_no, j_nf, j_rt, j_ld, j_st1, j_st2, j_k1, j_ci, j_fin, j_sh, j_shl, Option.map_some, Option.map_none, Option.toList_some, Option.toList_none, List.cons_append, List.nil_append, List.map_cons, List.map_nil, List.sum_cons, List.sum_nil, Value.category, List.getElem?_cons_zero, List.getElem?_cons_succ, List.length_cons, List.length_nil, true_and, and_true, if_true, if_false, ↓reduceIte, Bool.false_eq_true, Bool.true_eq_false, reduceCtorEq, Nat.reduceAdd, Nat.reduceLT, Nat.reduceLeDiff, Nat.reduceEqDiff, Nat.reduceBEq, Int.cast_ofNat_Int, Int.reduceAdd, Int.reduceNeg, Int.reduceSub, Int.reduceToNat, Int.reduceLE, Nat.zero_le, false_implies, implies_true, beq_self_eq_true, Bool.and_true, Bool.and_false, Bool.or_false, Bool.false_or, Bool.or_true, Bool.true_or, Bool.and_self, Bool.or_self, Nat.zero_add, Nat.add_zero, or_false, or_true, true_or, false_or, j_b0, j_b1, j_b2, j_b3, j_01, j_inb, and_self, Classical.not_not, Int32.reduceLE, Int32.reduceLT, Int32.reduceAdd, j_ne, eq_self, not_true_eq_false, not_false_eq_true, forall_const, and_false, false_and, j_sc, j_ent, Nat.reduceSub, List.replicate_zero, List.replicate_succ, hs, nI_lt' (show i < 1000000 by omega) (show n < 1000000 by omega), nI_le' (show n < 1000000 by omega) (show i < 1000000 by omega)]
    refine ⟨fun _ => ?_, fun h => by omega⟩
    have := hQ false (by rw [← hf, show i = n by omega])
    simpa using this
  | succ k ih =>
    intro i hi hf
    refine j_go (fun q => q == 3) 60 ?_
    simp only [qX7_hasServed, j_f7, j_m7, j_ty, tyX7, ↓j_kt, ↓j_sel, ↓j_run_0, ↓j_run_s, ↓j_wp, ↓j_pi, ↓j_pii, ↓j_pl, ↓j_pll, ↓j_pli, ↓j_pr, ↓j_pri, ↓j_prii, ↓j_pvr, ↓j_pop, ↓j_gi, ↓j_gl, ↓j_ga, ↓j_ob, ↓j_ar, ↓j_fd, ↓j_fo, ↓j_mo, ↓j_br, ↓j_to, ↓j_lo, ↓j_scr, ↓j_co, ↓j_no, j_nf, j_rt, j_ld, j_st1, j_st2, j_k1, j_ci, j_fin, j_sh, j_shl, Option.map_some, Option.map_none, Option.toList_some, Option.toList_none, List.cons_append, List.nil_append, List.map_cons, List.map_nil, List.sum_cons, List.sum_nil, Value.category, List.getElem?_cons_zero, List.getElem?_cons_succ, List.length_cons, List.length_nil, true_and, and_true, if_true, if_false, ↓reduceIte, Bool.false_eq_true, Bool.true_eq_false, reduceCtorEq, Nat.reduceAdd, Nat.reduceLT, Nat.reduceLeDiff, Nat.reduceEqDiff, Nat.reduceBEq, Int.cast_ofNat_Int, Int.reduceAdd, Int.reduceNeg, Int.reduceSub, Int.reduceToNat, Int.reduceLE, Nat.zero_le, false_implies, implies_true, beq_self_eq_true, Bool.and_true, Bool.and_false, Bool.or_false, Bool.false_or, Bool.or_true, Bool.true_or, Bool.and_self, Bool.or_self, Nat.zero_add, Nat.add_zero, or_false, or_true, true_or, false_or, j_b0, j_b1, j_b2, j_b3, j_01, j_inb, and_self, Classical.not_not, Int32.reduceLE, Int32.reduceLT, Int32.reduceAdd, j_ne, eq_self, not_true_eq_false, not_false_eq_true, forall_const, and_false, false_and, j_sc, j_ent, Nat.reduceSub, List.replicate_zero, List.replicate_succ, hs, nI_lt' (show i < 1000000 by omega) (show n < 1000000 by omega), nI_le' (show n < 1000000 by omega) (show i < 1000000 by omega), nI_cl' (show i < 1000000 by omega), nI_1]
    refine ⟨fun h => by omega, fun h => ?_⟩
    have hin : 0 ≤ nI i ∧ nI i < 100 := ⟨nI_ge0 (by omega), (nI_lt' (b := 100) (by omega) (by omega)).mpr (by omega)⟩
    have h1 := ih (i + 1) (by omega)
    simp only [k_ex, hf, Bool.false_or] at h1
    refine ⟨hin, fun g => ?_, fun g => ⟨hin, fun g2 => ?_, fun g2 => ?_⟩⟩
    · exact h1 (by simp [g])
    · exact h1 (by simp [g2])
    · refine j_use1 (f_X7_isKnown μ i q (by omega)) (by decide) ?_
      simp only [qX7_hasServed, j_f7, j_m7, j_ty, tyX7, ↓j_kt, ↓j_sel, ↓j_run_0, ↓j_run_s, ↓j_wp, ↓j_pi, ↓j_pii, ↓j_pl, ↓j_pll, ↓j_pli, ↓j_pr, ↓j_pri, ↓j_prii, ↓j_pvr, ↓j_pop, ↓j_gi, ↓j_gl, ↓j_ga, ↓j_ob, ↓j_ar, ↓j_fd, ↓j_fo, ↓j_mo, ↓j_br, ↓j_to, ↓j_lo, ↓j_scr, ↓j_co, ↓j_no, j_nf, j_rt, j_ld, j_st1, j_st2, j_k1, j_ci, j_fin, j_sh, j_shl, Option.map_some, Option.map_none, Option.toList_some, Option.toList_none, List.cons_append, List.nil_append, List.map_cons, List.map_nil, List.sum_cons, List.sum_nil, Value.category, List.getElem?_cons_zero, List.getElem?_cons_succ, List.length_cons, List.length_nil, true_and, and_true, if_true, if_false, ↓reduceIte, Bool.false_eq_true, Bool.true_eq_false, reduceCtorEq, Nat.reduceAdd, Nat.reduceLT, Nat.reduceLeDiff, Nat.reduceEqDiff, Nat.reduceBEq, Int.cast_ofNat_Int, Int.reduceAdd, Int.reduceNeg, Int.reduceSub, Int.reduceToNat, Int.reduceLE, Nat.zero_le, false_implies, implies_true, beq_self_eq_true, Bool.and_true, Bool.and_false, Bool.or_false, Bool.false_or, Bool.or_true, Bool.true_or, Bool.and_self, Bool.or_self, Nat.zero_add, Nat.add_zero, or_false, or_true, true_or, false_or, j_b0, j_b1, j_b2, j_b3, j_01, j_inb, and_self, Classical.not_not, Int32.reduceLE, Int32.reduceLT, Int32.reduceAdd, j_ne, eq_self, not_true_eq_false, not_false_eq_true, forall_const, and_false, false_and, j_sc, j_ent, Nat.reduceSub, List.replicate_zero, List.replicate_succ, nI_1]
      refine ⟨fun g3 => ?_, fun g3 => ?_⟩
      · exact h1 (by simp [g3])
      · have := hQ true (by
          symm
          rw [k_ex_iff]
          exact ⟨i, h, by simp [g, g2, g3]⟩)
        simpa using this
set_option maxRecDepth 100000 in
theorem f_X7_hasServed (μ : j_M) (p w q : Int32) {n : Nat} (hs : μ 8 6 = nI n) (hn : n ≤ 100) : j_R 1 yX7_hasServed [.ref 8, .int p, .int w, .int q] μ (fun r m => r = some (if k_ex (fun t => decide (μ 9 t = p ∧ μ 10 t = w) && k_kn (μ 13) (μ 14) q t) n = true then 1 else 0) ∧ m = μ) := by
  refine eX7_hasServed (Nat.le_of_ble_eq_true rfl) (j_go (fun q => q == 3) 20 ?_)
  simp only [qX7_hasServed, j_f7, j_m7, j_ty, tyX7, ↓j_kt, ↓j_sel, ↓j_run_0, ↓j_run_s, ↓j_wp, ↓j_pi, ↓j_pii, ↓j_pl, ↓j_pll, ↓j_pli, ↓j_pr, ↓j_pri, ↓j_prii, ↓j_pvr, ↓j_pop, ↓j_gi, ↓j_gl, ↓j_ga, ↓j_ob, ↓j_ar, ↓j_fd, ↓j_fo, ↓j_mo, ↓j_br, ↓j_to, ↓j_lo, ↓j_scr, ↓j_co, ↓j_no, j_nf, j_rt, j_ld, j_st1, j_st2, j_k1, j_ci, j_fin, j_sh, j_shl, Option.map_some, Option.map_none, Option.toList_some, Option.toList_none, List.cons_append, List.nil_append, List.map_cons, List.map_nil, List.sum_cons, List.sum_nil, Value.category, List.getElem?_cons_zero, List.getElem?_cons_succ, List.length_cons, List.length_nil, true_and, and_true, if_true, if_false, ↓reduceIte, Bool.false_eq_true, Bool.true_eq_false, reduceCtorEq, Nat.reduceAdd, Nat.reduceLT, Nat.reduceLeDiff, Nat.reduceEqDiff, Nat.reduceBEq, Int.cast_ofNat_Int, Int.reduceAdd, Int.reduceNeg, Int.reduceSub, Int.reduceToNat, Int.reduceLE, Nat.zero_le, false_implies, implies_true, beq_self_eq_true, Bool.and_true, Bool.and_false, Bool.or_false, Bool.false_or, Bool.or_true, Bool.true_or, Bool.and_self, Bool.or_self, Nat.zero_add, Nat.add_zero, or_false, or_true, true_or, false_or, j_b0, j_b1, j_b2, j_b3, j_01, j_inb, and_self, Classical.not_not, Int32.reduceLE, Int32.reduceLT, Int32.reduceAdd, j_ne, eq_self, not_true_eq_false, not_false_eq_true, forall_const, and_false, false_and, j_sc, j_ent, Nat.reduceSub, List.replicate_zero, List.replicate_succ]
  exact l_X7_hasServed hs hn (fun b hb => ⟨rfl, by rw [hb], rfl⟩) n 0 (by omega) rfl
/-- the terms of a person that are known in q and begin by d -/
def k_pk (sv fr told back : Nat → Int32) (p d q : Int32) (t : Nat) : Bool := decide (sv t = p ∧ fr t ≤ d) && k_kn told back q t
/-- how many are picked among the first n, and the row that holds them -/
def k_row (g : Nat → Bool) (f : Nat → Int32) : Nat → Nat → Int32
  | 0 => f
  | n + 1 => if g n = true then upd (k_row g f n) (cnt g n) (nI n) else k_row g f n
set_option maxRecDepth 100000 in
theorem l_X7_pick {μ : j_M} {n : Nat} {p d q : Int32} {Q : j_Q} (hs : μ 8 6 = nI n) (hn : n ≤ 100) (g : Nat → Bool) (hg : g = k_pk (μ 9) (μ 11) (μ 13) (μ 14) p d q) (hQ : Q none j_SH (j_up (j_row μ 15 (k_row g (μ 15) n)) 8 8 (nI (cnt g n)))) : ∀ (k i : Nat), i + k = n → j_J cX7_pick 7 5 none false 1 none Q j_SH 0 0 8 [some (.ref 8), some (.int p), some (.int d), some (.int q), some (.int (nI i))] [] (j_up (j_row μ 15 (k_row g (μ 15) i)) 8 8 (nI (cnt g i))) := by
  intro k
  induction k with
  | zero =>
    intro i hi
    refine j_go (fun q => q == 8) 30 ?_
    simp only [qX7_pick, j_f7, j_m7, j_ty, tyX7, ↓j_kt, ↓j_sel, ↓j_run_0, ↓j_run_s, ↓j_wp, ↓j_pi, ↓j_pii, ↓j_pl, ↓j_pll, ↓j_pli, ↓j_pr, ↓j_pri, ↓j_prii, ↓j_pvr, ↓j_pop, ↓j_gi, ↓j_gl, ↓j_ga, ↓j_ob, ↓j_ar, ↓j_fd, ↓j_fo, ↓j_mo, ↓j_br, ↓j_to, ↓j_lo, ↓j_scr, ↓j_co, ↓j_no, j_nf, j_rt, j_ld, j_st1, j_st2, j_k1, j_ci, j_fin, j_sh, j_shl, Option.map_some, Option.map_none, Option.toList_some, Option.toList_none, List.cons_append, List.nil_append, List.map_cons, List.map_nil, List.sum_cons, List.sum_nil, Value.category, List.getElem?_cons_zero, List.getElem?_cons_succ, List.length_cons, List.length_nil, true_and, and_true, if_true, if_false, ↓reduceIte, Bool.false_eq_true, Bool.true_eq_false, reduceCtorEq, Nat.reduceAdd, Nat.reduceLT, Nat.reduceLeDiff, Nat.reduceEqDiff, Nat.reduceBEq, Int.cast_ofNat_Int, Int.reduceAdd, Int.reduceNeg, Int.reduceSub, Int.reduceToNat, Int.reduceLE, Nat.zero_le, false_implies, implies_true, beq_self_eq_true, Bool.and_true, Bool.and_false, Bool.or_false, Bool.false_or, Bool.or_true, Bool.true_or, Bool.and_self, Bool.or_self, Nat.zero_add, Nat.add_zero, or_false, or_true, true_or, false_or, j_b0, j_b1, j_b2, j_b3, j_01, j_inb, and_self, Classical.not_not, Int32.reduceLE, Int32.reduceLT, Int32.reduceAdd, j_ne, eq_self, not_true_eq_false, not_false_eq_true, forall_const, and_false, false_and, j_sc, j_ent, Nat.reduceSub, List.replicate_zero, List.replicate_succ, j_us, j_un, j_rn', u_n, ne_eq, hs, nI_lt' (show i < 1000000 by omega) (show n < 1000000 by omega), nI_le' (show n < 1000000 by omega) (show i < 1000000 by omega)]
    refine ⟨fun _ => ?_, fun h => by omega⟩
    rw [show i = n by omega]
    exact hQ
  | succ k ih =>
    intro i hi
    refine j_go (fun q => q == 8) 60 ?_
    simp only [qX7_pick, j_f7, j_m7, j_ty, tyX7, ↓j_kt, ↓j_sel, ↓j_run_0, ↓j_run_s, ↓j_wp, ↓j_pi, ↓j_pii, ↓j_pl, ↓j_pll, ↓j_pli, ↓j_pr, ↓j_pri, ↓j_prii, ↓j_pvr, ↓j_pop, ↓j_gi, ↓j_gl, ↓j_ga, ↓j_ob, ↓j_ar, ↓j_fd, ↓j_fo, ↓j_mo, ↓j_br, ↓j_to, ↓j_lo, ↓j_scr, ↓j_co, ↓j_no, j_nf, j_rt, j_ld, j_st1, j_st2, j_k1, j_ci, j_fin, j_sh, j_shl, Option.map_some, Option.map_none, Option.toList_some, Option.toList_none, List.cons_append, List.nil_append, List.map_cons, List.map_nil, List.sum_cons, List.sum_nil, Value.category, List.getElem?_cons_zero, List.getElem?_cons_succ, List.length_cons, List.length_nil, true_and, and_true, if_true, if_false, ↓reduceIte, Bool.false_eq_true, Bool.true_eq_false, reduceCtorEq, Nat.reduceAdd, Nat.reduceLT, Nat.reduceLeDiff, Nat.reduceEqDiff, Nat.reduceBEq, Int.cast_ofNat_Int, Int.reduceAdd, Int.reduceNeg, Int.reduceSub, Int.reduceToNat, Int.reduceLE, Nat.zero_le, false_implies, implies_true, beq_self_eq_true, Bool.and_true, Bool.and_false, Bool.or_false, Bool.false_or, Bool.or_true, Bool.true_or, Bool.and_self, Bool.or_self, Nat.zero_add, Nat.add_zero, or_false, or_true, true_or, false_or, j_b0, j_b1, j_b2, j_b3, j_01, j_inb, and_self, Classical.not_not, Int32.reduceLE, Int32.reduceLT, Int32.reduceAdd, j_ne, eq_self, not_true_eq_false, not_false_eq_true, forall_const, and_false, false_and, j_sc, j_ent, Nat.reduceSub, List.replicate_zero, List.replicate_succ, j_us, j_un, j_rn', j_rs, u_n, u_s, ne_eq, hs, nI_lt' (show i < 1000000 by omega) (show n < 1000000 by omega), nI_le' (show n < 1000000 by omega) (show i < 1000000 by omega), nI_cl' (show i < 1000000 by omega), nI_1]
    refine ⟨fun h => by omega, fun h => ?_⟩
    have hin : 0 ≤ nI i ∧ nI i < 100 := ⟨nI_ge0 (by omega), (nI_lt' (b := 100) (by omega) (by omega)).mpr (by omega)⟩
    have h1 := ih (i + 1) (by omega)
    simp only [k_row, cnt] at h1
    have hgi : g i = (decide (μ 9 i = p ∧ μ 11 i ≤ d) && k_kn (μ 13) (μ 14) q i) := by rw [hg]; rfl
    refine ⟨hin, fun g1 => ?_, fun g1 => ⟨hin, fun g2 => ?_, fun g2 => ?_⟩⟩
    · have hf : g i = false := by rw [hgi]; simp [g1]
      simpa only [hf, Bool.false_eq_true, if_false, Nat.add_zero] using h1
    · have hf : g i = false := by rw [hgi]; have : ¬ μ 11 i ≤ d := by grind
                                  simp [this]
      simpa only [hf, Bool.false_eq_true, if_false, Nat.add_zero] using h1
    · have hk := f_X7_isKnown (j_up (j_row μ 15 (k_row g (μ 15) i)) 8 8 (nI (cnt g i))) i q (by omega)
      simp only [j_un _ _ _ (show (13 : Nat) ≠ 8 by decide), j_un _ _ _ (show (14 : Nat) ≠ 8 by decide), j_rn' _ _ (show (13 : Nat) ≠ 15 by decide), j_rn' _ _ (show (14 : Nat) ≠ 15 by decide)] at hk
      refine j_use1 hk (by decide) ?_
      have hc := cnt_le g i
      simp only [qX7_pick, j_f7, j_m7, j_ty, tyX7, ↓j_kt, ↓j_sel, ↓j_run_0, ↓j_run_s, ↓j_wp, ↓j_pi, ↓j_pii, ↓j_pl, ↓j_pll, ↓j_pli, ↓j_pr, ↓j_pri, ↓j_prii, ↓j_pvr, ↓j_pop, ↓j_gi, ↓j_gl, ↓j_ga, ↓j_ob, ↓j_ar, ↓j_fd, ↓j_fo, ↓j_mo, ↓j_br, ↓j_to, ↓j_lo, ↓j_scr, ↓j_co, ↓j_no, j_nf, j_rt, j_ld, j_st1, j_st2, j_k1, j_ci, j_fin, j_sh, j_shl, Option.map_some, Option.map_none, Option.toList_some, Option.toList_none, List.cons_append, List.nil_append, List.map_cons, List.map_nil, List.sum_cons, List.sum_nil, Value.category, List.getElem?_cons_zero, List.getElem?_cons_succ, List.length_cons, List.length_nil, true_and, and_true, if_true, if_false, ↓reduceIte, Bool.false_eq_true, Bool.true_eq_false, reduceCtorEq, Nat.reduceAdd, Nat.reduceLT, Nat.reduceLeDiff, Nat.reduceEqDiff, Nat.reduceBEq, Int.cast_ofNat_Int, Int.reduceAdd, Int.reduceNeg, Int.reduceSub, Int.reduceToNat, Int.reduceLE, Nat.zero_le, false_implies, implies_true, beq_self_eq_true, Bool.and_true, Bool.and_false, Bool.or_false, Bool.false_or, Bool.or_true, Bool.true_or, Bool.and_self, Bool.or_self, Nat.zero_add, Nat.add_zero, or_false, or_true, true_or, false_or, j_b0, j_b1, j_b2, j_b3, j_01, j_inb, and_self, Classical.not_not, Int32.reduceLE, Int32.reduceLT, Int32.reduceAdd, j_ne, eq_self, not_true_eq_false, not_false_eq_true, forall_const, and_false, false_and, j_sc, j_ent, Nat.reduceSub, List.replicate_zero, List.replicate_succ, j_us, j_un, j_rn', j_rs, u_n, u_s, ne_eq, nI_1, nI_cl' (show cnt g i < 1000000 by omega)]
      refine ⟨fun g3 => ?_, fun g3 => ?_⟩
      · have hf : g i = false := by rw [hgi]; simp [g3]
        simpa only [hf, Bool.false_eq_true, if_false, Nat.add_zero] using h1
      · have hf : g i = true := by rw [hgi]; simp [g1, g2, g3]
        refine ⟨⟨nI_ge0 (by omega), (nI_lt' (b := 100) (by omega) (by omega)).mpr (by omega)⟩, ?_⟩
        simp only [hf, if_true] at h1
        have e : j_up (j_up (j_up (j_row μ 15 (k_row g (μ 15) i)) 8 8 (nI (cnt g i))) 15 (cnt g i) (nI i)) 8 8 (nI (cnt g i + 1)) = j_up (j_row μ 15 (upd (k_row g (μ 15) i) (cnt g i) (nI i))) 8 8 (nI (cnt g i + 1)) := by
          funext b
          by_cases h8 : b = 8
          · subst h8
            simp only [j_us, j_un _ _ _ (show (8 : Nat) ≠ 15 by decide), j_rn' _ _ (show (8 : Nat) ≠ 15 by decide)]
            funext j
            by_cases hj : j = 8 <;> simp [upd, hj]
          · by_cases h15 : b = 15
            · subst h15
              simp only [j_us, j_un _ _ _ (show (15 : Nat) ≠ 8 by decide), j_rs]
            · simp [j_un, j_rn', h8, h15]
        rw [e]
        exact h1
set_option maxRecDepth 100000 in
theorem f_X7_pick (μ : j_M) (p d q : Int32) {n : Nat} (hs : μ 8 6 = nI n) (hn : n ≤ 100) : j_R 1 yX7_pick [.ref 8, .int p, .int d, .int q] μ (fun r m => r = none ∧ m = j_up (j_row μ 15 (k_row (k_pk (μ 9) (μ 11) (μ 13) (μ 14) p d q) (μ 15) n)) 8 8 (nI (cnt (k_pk (μ 9) (μ 11) (μ 13) (μ 14) p d q) n))) := by
  refine eX7_pick (Nat.le_of_ble_eq_true rfl) (j_go (fun q => q == 8) 20 ?_)
  simp only [qX7_pick, j_f7, j_m7, j_ty, tyX7, ↓j_kt, ↓j_sel, ↓j_run_0, ↓j_run_s, ↓j_wp, ↓j_pi, ↓j_pii, ↓j_pl, ↓j_pll, ↓j_pli, ↓j_pr, ↓j_pri, ↓j_prii, ↓j_pvr, ↓j_pop, ↓j_gi, ↓j_gl, ↓j_ga, ↓j_ob, ↓j_ar, ↓j_fd, ↓j_fo, ↓j_mo, ↓j_br, ↓j_to, ↓j_lo, ↓j_scr, ↓j_co, ↓j_no, j_nf, j_rt, j_ld, j_st1, j_st2, j_k1, j_ci, j_fin, j_sh, j_shl, Option.map_some, Option.map_none, Option.toList_some, Option.toList_none, List.cons_append, List.nil_append, List.map_cons, List.map_nil, List.sum_cons, List.sum_nil, Value.category, List.getElem?_cons_zero, List.getElem?_cons_succ, List.length_cons, List.length_nil, true_and, and_true, if_true, if_false, ↓reduceIte, Bool.false_eq_true, Bool.true_eq_false, reduceCtorEq, Nat.reduceAdd, Nat.reduceLT, Nat.reduceLeDiff, Nat.reduceEqDiff, Nat.reduceBEq, Int.cast_ofNat_Int, Int.reduceAdd, Int.reduceNeg, Int.reduceSub, Int.reduceToNat, Int.reduceLE, Nat.zero_le, false_implies, implies_true, beq_self_eq_true, Bool.and_true, Bool.and_false, Bool.or_false, Bool.false_or, Bool.or_true, Bool.true_or, Bool.and_self, Bool.or_self, Nat.zero_add, Nat.add_zero, or_false, or_true, true_or, false_or, j_b0, j_b1, j_b2, j_b3, j_01, j_inb, and_self, Classical.not_not, Int32.reduceLE, Int32.reduceLT, Int32.reduceAdd, j_ne, eq_self, not_true_eq_false, not_false_eq_true, forall_const, and_false, false_and, j_sc, j_ent, Nat.reduceSub, List.replicate_zero, List.replicate_succ]
  have h := l_X7_pick (p := p) (d := d) (q := q) (Q := fun r sh m => sh = j_SH ∧ r = none ∧ m = j_up (j_row μ 15 (k_row (k_pk (μ 9) (μ 11) (μ 13) (μ 14) p d q) (μ 15) n)) 8 8 (nI (cnt (k_pk (μ 9) (μ 11) (μ 13) (μ 14) p d q) n))) hs hn _ rfl ⟨rfl, rfl, rfl⟩ n 0 (by omega)
  simp only [k_row, cnt, j_row_self, nI_0] at h
  exact h
