/-! Edicts: the statutes' (25, rows 26, 27) and the numbers' (32, rows 33, 34) -/
/-- the edict in force -/
def k_inf (fr told : Nat → Int32) (d q : Int32) : Nat → Int32
  | 0 => -1
  | n + 1 => if told n ≤ q ∧ fr n ≤ d ∧ (k_inf fr told d q n = -1 ∨ fr (k_inf fr told d q n).toNatClampNeg ≤ fr n) then nI n else k_inf fr told d q n
theorem k_inf_in (fr told : Nat → Int32) (d q : Int32) : ∀ n, n ≤ 1000000 → k_inf fr told d q n = -1 ∨ ∃ j, j < n ∧ k_inf fr told d q n = nI j
  | 0, _ => Or.inl rfl
  | n + 1, hn => by
    unfold k_inf
    split
    · exact Or.inr ⟨n, by omega, rfl⟩
    · rcases k_inf_in fr told d q n (by omega) with h | ⟨j, h1, h2⟩
      · exact Or.inl h
      · exact Or.inr ⟨j, by omega, h2⟩
set_option maxRecDepth 100000 in
theorem f_X1_isFull_25 (μ : j_M) : j_R 0 yX1_isFull [.ref 25] μ (fun r m => r = some (if μ 25 2 < 30 then 0 else 1) ∧ m = μ) := by
  refine eX1_isFull (Nat.le_of_ble_eq_true rfl) (j_go (fun _ => false) 20 ?_)
  simp only [qX1_isFull, j_f1, j_ty, tyX1, ↓j_kt, ↓j_sel, ↓j_run_0, ↓j_run_s, ↓j_wp, ↓j_pi, ↓j_pii, ↓j_pl, ↓j_pll, ↓j_pli, ↓j_pr, ↓j_pri, ↓j_prii, ↓j_pvr, ↓j_pop, ↓j_gi, ↓j_gl, ↓j_ga, ↓j_ob, ↓j_ar, ↓j_fd, ↓j_fo, ↓j_mo, ↓j_br, ↓j_to, ↓j_lo, ↓j_scr, ↓j_co, ↓j_no, j_nf, j_rt, j_ld, j_st1, j_st2, j_k1, j_ci, j_fin, j_sh, j_shl, Option.map_some, Option.map_none, Option.toList_some, Option.toList_none, List.cons_append, List.nil_append, List.map_cons, List.map_nil, List.sum_cons, List.sum_nil, Value.category, List.getElem?_cons_zero, List.getElem?_cons_succ, List.length_cons, List.length_nil, true_and, and_true, if_true, if_false, ↓reduceIte, Bool.false_eq_true, Bool.true_eq_false, reduceCtorEq, Nat.reduceAdd, Nat.reduceLT, Nat.reduceLeDiff, Nat.reduceEqDiff, Nat.reduceBEq, Int.cast_ofNat_Int, Int.reduceAdd, Int.reduceNeg, Int.reduceSub, Int.reduceToNat, Int.reduceLE, Nat.zero_le, false_implies, implies_true, beq_self_eq_true, Bool.and_true, Bool.and_false, Bool.or_false, Bool.false_or, Bool.or_true, Bool.true_or, Bool.and_self, Bool.or_self, Nat.zero_add, Nat.add_zero, or_false, or_true, true_or, false_or, j_b0, j_b1, j_b2, j_b3, j_01, j_inb, and_self, Classical.not_not, Int32.reduceLE, Int32.reduceLT, Int32.reduceAdd, j_ne, eq_self, not_true_eq_false, not_false_eq_true, forall_const, and_false, false_and, j_sc, j_ent, Nat.reduceSub, List.replicate_zero, List.replicate_succ]
  grind
set_option maxRecDepth 100000 in
theorem f_X1_add_25 (μ : j_M) (a b : Int32) (h0 : 0 ≤ μ 25 2) (hn : μ 25 2 < 30) : j_R 0 yX1_add [.ref 25, .int a, .int b] μ (fun r m => r = some (μ 25 2) ∧ m = j_up (j_up (j_up μ 26 (μ 25 2).toNatClampNeg a) 27 (μ 25 2).toNatClampNeg b) 25 2 (μ 25 2 + 1)) := by
  refine eX1_add (Nat.le_of_ble_eq_true rfl) (j_go (fun _ => false) 60 ?_)
  simp only [qX1_add, j_f1, j_ty, tyX1, ↓j_kt, ↓j_sel, ↓j_run_0, ↓j_run_s, ↓j_wp, ↓j_pi, ↓j_pii, ↓j_pl, ↓j_pll, ↓j_pli, ↓j_pr, ↓j_pri, ↓j_prii, ↓j_pvr, ↓j_pop, ↓j_gi, ↓j_gl, ↓j_ga, ↓j_ob, ↓j_ar, ↓j_fd, ↓j_fo, ↓j_mo, ↓j_br, ↓j_to, ↓j_lo, ↓j_scr, ↓j_co, ↓j_no, j_nf, j_rt, j_ld, j_st1, j_st2, j_k1, j_ci, j_fin, j_sh, j_shl, Option.map_some, Option.map_none, Option.toList_some, Option.toList_none, List.cons_append, List.nil_append, List.map_cons, List.map_nil, List.sum_cons, List.sum_nil, Value.category, List.getElem?_cons_zero, List.getElem?_cons_succ, List.length_cons, List.length_nil, true_and, and_true, if_true, if_false, ↓reduceIte, Bool.false_eq_true, Bool.true_eq_false, reduceCtorEq, Nat.reduceAdd, Nat.reduceLT, Nat.reduceLeDiff, Nat.reduceEqDiff, Nat.reduceBEq, Int.cast_ofNat_Int, Int.reduceAdd, Int.reduceNeg, Int.reduceSub, Int.reduceToNat, Int.reduceLE, Nat.zero_le, false_implies, implies_true, beq_self_eq_true, Bool.and_true, Bool.and_false, Bool.or_false, Bool.false_or, Bool.or_true, Bool.true_or, Bool.and_self, Bool.or_self, Nat.zero_add, Nat.add_zero, or_false, or_true, true_or, false_or, j_b0, j_b1, j_b2, j_b3, j_01, j_inb, and_self, Classical.not_not, Int32.reduceLE, Int32.reduceLT, Int32.reduceAdd, j_ne, eq_self, not_true_eq_false, not_false_eq_true, forall_const, and_false, false_and, j_sc, j_ent, Nat.reduceSub, List.replicate_zero, List.replicate_succ, j_un, ne_eq, not_false_eq_true]
  grind
set_option maxRecDepth 100000 in
theorem l_X1_inForce_25 {μ : j_M} {n : Nat} {d q : Int32} {Q : j_Q} (hs : μ 25 2 = nI n) (hn : n ≤ 30) (hQ : Q (some (k_inf (μ 26) (μ 27) d q n)) j_SH μ) : ∀ (k i : Nat) (g5 : Option Value), i + k = n → j_J cX1_inForce 1 6 (some .int) false 0 none Q j_SH 0 0 5 [some (.ref 25), some (.int d), some (.int q), some (.int (k_inf (μ 26) (μ 27) d q i)), some (.int (nI i)), g5] [] μ := by
  intro k
  induction k with
  | zero =>
    intro i g5 hi
    refine j_go (fun q => q == 5) 30 ?_
    simp only [qX1_inForce, j_f1, j_ty, tyX1, ↓j_kt, ↓j_sel, ↓j_run_0, ↓j_run_s, ↓j_wp, ↓j_pi, ↓j_pii, ↓j_pl, ↓j_pll, ↓j_pli, ↓j_pr, ↓j_pri, ↓j_prii, ↓j_pvr, ↓j_pop, ↓j_gi, ↓j_gl, ↓j_ga, ↓j_ob, ↓j_ar, ↓j_fd, ↓j_fo, ↓j_mo, ↓j_br, ↓j_to, ↓j_lo, ↓j_scr, ↓j_co, ↓j_no, j_nf, j_rt, j_ld, j_st1, j_st2, j_k1, j_ci, j_fin, j_sh, j_shl, Option.map_some, Option.map_none, Option.toList_some, Option.toList_none, List.cons_append, List.nil_append, List.map_cons, List.map_nil, List.sum_cons, List.sum_nil, Value.category, List.getElem?_cons_zero, List.getElem?_cons_succ, List.length_cons, List.length_nil, true_and, and_true, if_true, if_false, ↓reduceIte, Bool.false_eq_true, Bool.true_eq_false, reduceCtorEq, Nat.reduceAdd, Nat.reduceLT, Nat.reduceLeDiff, Nat.reduceEqDiff, Nat.reduceBEq, Int.cast_ofNat_Int, Int.reduceAdd, Int.reduceNeg, Int.reduceSub, Int.reduceToNat, Int.reduceLE, Nat.zero_le, false_implies, implies_true, beq_self_eq_true, Bool.and_true, Bool.and_false, Bool.or_false, Bool.false_or, Bool.or_true, Bool.true_or, Bool.and_self, Bool.or_self, Nat.zero_add, Nat.add_zero, or_false, or_true, true_or, false_or, j_b0, j_b1, j_b2, j_b3, j_01, j_inb, and_self, Classical.not_not, Int32.reduceLE, Int32.reduceLT, Int32.reduceAdd, j_ne, eq_self, not_true_eq_false, not_false_eq_true, forall_const, and_false, false_and, j_sc, j_ent, Nat.reduceSub, List.replicate_zero, List.replicate_succ, hs, nI_lt' (show i < 1000000 by omega) (show n < 1000000 by omega), nI_le' (show n < 1000000 by omega) (show i < 1000000 by omega)]
    refine ⟨fun _ => ?_, fun h => by omega⟩
    rw [show i = n by omega]
    exact hQ
  | succ k ih =>
    intro i g5 hi
    refine j_go (fun q => q == 5) 60 ?_
    simp only [qX1_inForce, j_f1, j_ty, tyX1, ↓j_kt, ↓j_sel, ↓j_run_0, ↓j_run_s, ↓j_wp, ↓j_pi, ↓j_pii, ↓j_pl, ↓j_pll, ↓j_pli, ↓j_pr, ↓j_pri, ↓j_prii, ↓j_pvr, ↓j_pop, ↓j_gi, ↓j_gl, ↓j_ga, ↓j_ob, ↓j_ar, ↓j_fd, ↓j_fo, ↓j_mo, ↓j_br, ↓j_to, ↓j_lo, ↓j_scr, ↓j_co, ↓j_no, j_nf, j_rt, j_ld, j_st1, j_st2, j_k1, j_ci, j_fin, j_sh, j_shl, Option.map_some, Option.map_none, Option.toList_some, Option.toList_none, List.cons_append, List.nil_append, List.map_cons, List.map_nil, List.sum_cons, List.sum_nil, Value.category, List.getElem?_cons_zero, List.getElem?_cons_succ, List.length_cons, List.length_nil, true_and, and_true, if_true, if_false, ↓reduceIte, Bool.false_eq_true, Bool.true_eq_false, reduceCtorEq, Nat.reduceAdd, Nat.reduceLT, Nat.reduceLeDiff, Nat.reduceEqDiff, Nat.reduceBEq, Int.cast_ofNat_Int, Int.reduceAdd, Int.reduceNeg, Int.reduceSub, Int.reduceToNat, Int.reduceLE, Nat.zero_le, false_implies, implies_true, beq_self_eq_true, Bool.and_true, Bool.and_false, Bool.or_false, Bool.false_or, Bool.or_true, Bool.true_or, Bool.and_self, Bool.or_self, Nat.zero_add, Nat.add_zero, or_false, or_true, true_or, false_or, j_b0, j_b1, j_b2, j_b3, j_01, j_inb, and_self, Classical.not_not, Int32.reduceLE, Int32.reduceLT, Int32.reduceAdd, j_ne, eq_self, not_true_eq_false, not_false_eq_true, forall_const, and_false, false_and, j_sc, j_ent, Nat.reduceSub, List.replicate_zero, List.replicate_succ, hs, nI_lt' (show i < 1000000 by omega) (show n < 1000000 by omega), nI_le' (show n < 1000000 by omega) (show i < 1000000 by omega)]
    refine ⟨fun h => by omega, fun h => ?_⟩
    rw [nI_cl' (show i < 1000000 by omega), nI_1]
    have h1 := fun g => ih (i + 1) g (by omega)
    unfold k_inf at h1
    have hin : 0 ≤ nI i ∧ nI i < 30 := ⟨nI_ge0 (by omega), (nI_lt' (b := 30) (by omega) (by omega)).mpr (by omega)⟩
    have hb : k_inf (μ 26) (μ 27) d q i = -1 ∨ (0 ≤ k_inf (μ 26) (μ 27) d q i ∧ k_inf (μ 26) (μ 27) d q i < 30) := by
      rcases k_inf_in (μ 26) (μ 27) d q i (by omega) with h | ⟨j, h1, h2⟩
      · exact Or.inl h
      · rw [h2]
        exact Or.inr ⟨nI_ge0 (by omega), (nI_lt' (b := 30) (by omega) (by omega)).mpr (by omega)⟩
    generalize k_inf (μ 26) (μ 27) d q i = b at hb h1 ⊢
    generalize hv : (if μ 27 i ≤ q ∧ μ 26 i ≤ d ∧ (b = -1 ∨ μ 26 b.toNatClampNeg ≤ μ 26 i) then nI i else b) = v at h1
    clear ih hQ
    grind
set_option maxRecDepth 100000 in
theorem f_X1_inForce_25 (μ : j_M) (d q : Int32) {n : Nat} (hs : μ 25 2 = nI n) (hn : n ≤ 30) : j_R 0 yX1_inForce [.ref 25, .int d, .int q] μ (fun r m => r = some (k_inf (μ 26) (μ 27) d q n) ∧ m = μ) := by
  refine eX1_inForce (Nat.le_of_ble_eq_true rfl) (j_go (fun q => q == 5) 20 ?_)
  simp only [qX1_inForce, j_f1, j_ty, tyX1, ↓j_kt, ↓j_sel, ↓j_run_0, ↓j_run_s, ↓j_wp, ↓j_pi, ↓j_pii, ↓j_pl, ↓j_pll, ↓j_pli, ↓j_pr, ↓j_pri, ↓j_prii, ↓j_pvr, ↓j_pop, ↓j_gi, ↓j_gl, ↓j_ga, ↓j_ob, ↓j_ar, ↓j_fd, ↓j_fo, ↓j_mo, ↓j_br, ↓j_to, ↓j_lo, ↓j_scr, ↓j_co, ↓j_no, j_nf, j_rt, j_ld, j_st1, j_st2, j_k1, j_ci, j_fin, j_sh, j_shl, Option.map_some, Option.map_none, Option.toList_some, Option.toList_none, List.cons_append, List.nil_append, List.map_cons, List.map_nil, List.sum_cons, List.sum_nil, Value.category, List.getElem?_cons_zero, List.getElem?_cons_succ, List.length_cons, List.length_nil, true_and, and_true, if_true, if_false, ↓reduceIte, Bool.false_eq_true, Bool.true_eq_false, reduceCtorEq, Nat.reduceAdd, Nat.reduceLT, Nat.reduceLeDiff, Nat.reduceEqDiff, Nat.reduceBEq, Int.cast_ofNat_Int, Int.reduceAdd, Int.reduceNeg, Int.reduceSub, Int.reduceToNat, Int.reduceLE, Nat.zero_le, false_implies, implies_true, beq_self_eq_true, Bool.and_true, Bool.and_false, Bool.or_false, Bool.false_or, Bool.or_true, Bool.true_or, Bool.and_self, Bool.or_self, Nat.zero_add, Nat.add_zero, or_false, or_true, true_or, false_or, j_b0, j_b1, j_b2, j_b3, j_01, j_inb, and_self, Classical.not_not, Int32.reduceLE, Int32.reduceLT, Int32.reduceAdd, j_ne, eq_self, not_true_eq_false, not_false_eq_true, forall_const, and_false, false_and, j_sc, j_ent, Nat.reduceSub, List.replicate_zero, List.replicate_succ]
  exact l_X1_inForce_25 hs hn ⟨rfl, rfl, rfl⟩ n 0 none (by omega)
set_option maxRecDepth 100000 in
theorem f_X1_isFull_32 (μ : j_M) : j_R 0 yX1_isFull [.ref 32] μ (fun r m => r = some (if μ 32 2 < 30 then 0 else 1) ∧ m = μ) := by
  refine eX1_isFull (Nat.le_of_ble_eq_true rfl) (j_go (fun _ => false) 20 ?_)
  simp only [qX1_isFull, j_f1, j_ty, tyX1, ↓j_kt, ↓j_sel, ↓j_run_0, ↓j_run_s, ↓j_wp, ↓j_pi, ↓j_pii, ↓j_pl, ↓j_pll, ↓j_pli, ↓j_pr, ↓j_pri, ↓j_prii, ↓j_pvr, ↓j_pop, ↓j_gi, ↓j_gl, ↓j_ga, ↓j_ob, ↓j_ar, ↓j_fd, ↓j_fo, ↓j_mo, ↓j_br, ↓j_to, ↓j_lo, ↓j_scr, ↓j_co, ↓j_no, j_nf, j_rt, j_ld, j_st1, j_st2, j_k1, j_ci, j_fin, j_sh, j_shl, Option.map_some, Option.map_none, Option.toList_some, Option.toList_none, List.cons_append, List.nil_append, List.map_cons, List.map_nil, List.sum_cons, List.sum_nil, Value.category, List.getElem?_cons_zero, List.getElem?_cons_succ, List.length_cons, List.length_nil, true_and, and_true, if_true, if_false, ↓reduceIte, Bool.false_eq_true, Bool.true_eq_false, reduceCtorEq, Nat.reduceAdd, Nat.reduceLT, Nat.reduceLeDiff, Nat.reduceEqDiff, Nat.reduceBEq, Int.cast_ofNat_Int, Int.reduceAdd, Int.reduceNeg, Int.reduceSub, Int.reduceToNat, Int.reduceLE, Nat.zero_le, false_implies, implies_true, beq_self_eq_true, Bool.and_true, Bool.and_false, Bool.or_false, Bool.false_or, Bool.or_true, Bool.true_or, Bool.and_self, Bool.or_self, Nat.zero_add, Nat.add_zero, or_false, or_true, true_or, false_or, j_b0, j_b1, j_b2, j_b3, j_01, j_inb, and_self, Classical.not_not, Int32.reduceLE, Int32.reduceLT, Int32.reduceAdd, j_ne, eq_self, not_true_eq_false, not_false_eq_true, forall_const, and_false, false_and, j_sc, j_ent, Nat.reduceSub, List.replicate_zero, List.replicate_succ]
  grind
set_option maxRecDepth 100000 in
theorem f_X1_add_32 (μ : j_M) (a b : Int32) (h0 : 0 ≤ μ 32 2) (hn : μ 32 2 < 30) : j_R 0 yX1_add [.ref 32, .int a, .int b] μ (fun r m => r = some (μ 32 2) ∧ m = j_up (j_up (j_up μ 33 (μ 32 2).toNatClampNeg a) 34 (μ 32 2).toNatClampNeg b) 32 2 (μ 32 2 + 1)) := by
  refine eX1_add (Nat.le_of_ble_eq_true rfl) (j_go (fun _ => false) 60 ?_)
  simp only [qX1_add, j_f1, j_ty, tyX1, ↓j_kt, ↓j_sel, ↓j_run_0, ↓j_run_s, ↓j_wp, ↓j_pi, ↓j_pii, ↓j_pl, ↓j_pll, ↓j_pli, ↓j_pr, ↓j_pri, ↓j_prii, ↓j_pvr, ↓j_pop, ↓j_gi, ↓j_gl, ↓j_ga, ↓j_ob, ↓j_ar, ↓j_fd, ↓j_fo, ↓j_mo, ↓j_br, ↓j_to, ↓j_lo, ↓j_scr, ↓j_co, ↓j_no, j_nf, j_rt, j_ld, j_st1, j_st2, j_k1, j_ci, j_fin, j_sh, j_shl, Option.map_some, Option.map_none, Option.toList_some, Option.toList_none, List.cons_append, List.nil_append, List.map_cons, List.map_nil, List.sum_cons, List.sum_nil, Value.category, List.getElem?_cons_zero, List.getElem?_cons_succ, List.length_cons, List.length_nil, true_and, and_true, if_true, if_false, ↓reduceIte, Bool.false_eq_true, Bool.true_eq_false, reduceCtorEq, Nat.reduceAdd, Nat.reduceLT, Nat.reduceLeDiff, Nat.reduceEqDiff, Nat.reduceBEq, Int.cast_ofNat_Int, Int.reduceAdd, Int.reduceNeg, Int.reduceSub, Int.reduceToNat, Int.reduceLE, Nat.zero_le, false_implies, implies_true, beq_self_eq_true, Bool.and_true, Bool.and_false, Bool.or_false, Bool.false_or, Bool.or_true, Bool.true_or, Bool.and_self, Bool.or_self, Nat.zero_add, Nat.add_zero, or_false, or_true, true_or, false_or, j_b0, j_b1, j_b2, j_b3, j_01, j_inb, and_self, Classical.not_not, Int32.reduceLE, Int32.reduceLT, Int32.reduceAdd, j_ne, eq_self, not_true_eq_false, not_false_eq_true, forall_const, and_false, false_and, j_sc, j_ent, Nat.reduceSub, List.replicate_zero, List.replicate_succ, j_un, ne_eq, not_false_eq_true]
  grind
set_option maxRecDepth 100000 in
theorem l_X1_inForce_32 {μ : j_M} {n : Nat} {d q : Int32} {Q : j_Q} (hs : μ 32 2 = nI n) (hn : n ≤ 30) (hQ : Q (some (k_inf (μ 33) (μ 34) d q n)) j_SH μ) : ∀ (k i : Nat) (g5 : Option Value), i + k = n → j_J cX1_inForce 1 6 (some .int) false 0 none Q j_SH 0 0 5 [some (.ref 32), some (.int d), some (.int q), some (.int (k_inf (μ 33) (μ 34) d q i)), some (.int (nI i)), g5] [] μ := by
  intro k
  induction k with
  | zero =>
    intro i g5 hi
    refine j_go (fun q => q == 5) 30 ?_
    simp only [qX1_inForce, j_f1, j_ty, tyX1, ↓j_kt, ↓j_sel, ↓j_run_0, ↓j_run_s, ↓j_wp, ↓j_pi, ↓j_pii, ↓j_pl, ↓j_pll, ↓j_pli, ↓j_pr, ↓j_pri, ↓j_prii, ↓j_pvr, ↓j_pop, ↓j_gi, ↓j_gl, ↓j_ga, ↓j_ob, ↓j_ar, ↓j_fd, ↓j_fo, ↓j_mo, ↓j_br, ↓j_to, ↓j_lo, ↓j_scr, ↓j_co, ↓j_no, j_nf, j_rt, j_ld, j_st1, j_st2, j_k1, j_ci, j_fin, j_sh, j_shl, Option.map_some, Option.map_none, Option.toList_some, Option.toList_none, List.cons_append, List.nil_append, List.map_cons, List.map_nil, List.sum_cons, List.sum_nil, Value.category, List.getElem?_cons_zero, List.getElem?_cons_succ, List.length_cons, List.length_nil, true_and, and_true, if_true, if_false, ↓reduceIte, Bool.false_eq_true, Bool.true_eq_false, reduceCtorEq, Nat.reduceAdd, Nat.reduceLT, Nat.reduceLeDiff, Nat.reduceEqDiff, Nat.reduceBEq, Int.cast_ofNat_Int, Int.reduceAdd, Int.reduceNeg, Int.reduceSub, Int.reduceToNat, Int.reduceLE, Nat.zero_le, false_implies, implies_true, beq_self_eq_true, Bool.and_true, Bool.and_false, Bool.or_false, Bool.false_or, Bool.or_true, Bool.true_or, Bool.and_self, Bool.or_self, Nat.zero_add, Nat.add_zero, or_false, or_true, true_or, false_or, j_b0, j_b1, j_b2, j_b3, j_01, j_inb, and_self, Classical.not_not, Int32.reduceLE, Int32.reduceLT, Int32.reduceAdd, j_ne, eq_self, not_true_eq_false, not_false_eq_true, forall_const, and_false, false_and, j_sc, j_ent, Nat.reduceSub, List.replicate_zero, List.replicate_succ, hs, nI_lt' (show i < 1000000 by omega) (show n < 1000000 by omega), nI_le' (show n < 1000000 by omega) (show i < 1000000 by omega)]
    refine ⟨fun _ => ?_, fun h => by omega⟩
    rw [show i = n by omega]
    exact hQ
  | succ k ih =>
    intro i g5 hi
    refine j_go (fun q => q == 5) 60 ?_
    simp only [qX1_inForce, j_f1, j_ty, tyX1, ↓j_kt, ↓j_sel, ↓j_run_0, ↓j_run_s, ↓j_wp, ↓j_pi, ↓j_pii, ↓j_pl, ↓j_pll, ↓j_pli, ↓j_pr, ↓j_pri, ↓j_prii, ↓j_pvr, ↓j_pop, ↓j_gi, ↓j_gl, ↓j_ga, ↓j_ob, ↓j_ar, ↓j_fd, ↓j_fo, ↓j_mo, ↓j_br, ↓j_to, ↓j_lo, ↓j_scr, ↓j_co, ↓j_no, j_nf, j_rt, j_ld, j_st1, j_st2, j_k1, j_ci, j_fin, j_sh, j_shl, Option.map_some, Option.map_none, Option.toList_some, Option.toList_none, List.cons_append, List.nil_append, List.map_cons, List.map_nil, List.sum_cons, List.sum_nil, Value.category, List.getElem?_cons_zero, List.getElem?_cons_succ, List.length_cons, List.length_nil, true_and, and_true, if_true, if_false, ↓reduceIte, Bool.false_eq_true, Bool.true_eq_false, reduceCtorEq, Nat.reduceAdd, Nat.reduceLT, Nat.reduceLeDiff, Nat.reduceEqDiff, Nat.reduceBEq, Int.cast_ofNat_Int, Int.reduceAdd, Int.reduceNeg, Int.reduceSub, Int.reduceToNat, Int.reduceLE, Nat.zero_le, false_implies, implies_true, beq_self_eq_true, Bool.and_true, Bool.and_false, Bool.or_false, Bool.false_or, Bool.or_true, Bool.true_or, Bool.and_self, Bool.or_self, Nat.zero_add, Nat.add_zero, or_false, or_true, true_or, false_or, j_b0, j_b1, j_b2, j_b3, j_01, j_inb, and_self, Classical.not_not, Int32.reduceLE, Int32.reduceLT, Int32.reduceAdd, j_ne, eq_self, not_true_eq_false, not_false_eq_true, forall_const, and_false, false_and, j_sc, j_ent, Nat.reduceSub, List.replicate_zero, List.replicate_succ, hs, nI_lt' (show i < 1000000 by omega) (show n < 1000000 by omega), nI_le' (show n < 1000000 by omega) (show i < 1000000 by omega)]
    refine ⟨fun h => by omega, fun h => ?_⟩
    rw [nI_cl' (show i < 1000000 by omega), nI_1]
    have h1 := fun g => ih (i + 1) g (by omega)
    unfold k_inf at h1
    have hin : 0 ≤ nI i ∧ nI i < 30 := ⟨nI_ge0 (by omega), (nI_lt' (b := 30) (by omega) (by omega)).mpr (by omega)⟩
    have hb : k_inf (μ 33) (μ 34) d q i = -1 ∨ (0 ≤ k_inf (μ 33) (μ 34) d q i ∧ k_inf (μ 33) (μ 34) d q i < 30) := by
      rcases k_inf_in (μ 33) (μ 34) d q i (by omega) with h | ⟨j, h1, h2⟩
      · exact Or.inl h
      · rw [h2]
        exact Or.inr ⟨nI_ge0 (by omega), (nI_lt' (b := 30) (by omega) (by omega)).mpr (by omega)⟩
    generalize k_inf (μ 33) (μ 34) d q i = b at hb h1 ⊢
    generalize hv : (if μ 34 i ≤ q ∧ μ 33 i ≤ d ∧ (b = -1 ∨ μ 33 b.toNatClampNeg ≤ μ 33 i) then nI i else b) = v at h1
    clear ih hQ
    grind
set_option maxRecDepth 100000 in
theorem f_X1_inForce_32 (μ : j_M) (d q : Int32) {n : Nat} (hs : μ 32 2 = nI n) (hn : n ≤ 30) : j_R 0 yX1_inForce [.ref 32, .int d, .int q] μ (fun r m => r = some (k_inf (μ 33) (μ 34) d q n) ∧ m = μ) := by
  refine eX1_inForce (Nat.le_of_ble_eq_true rfl) (j_go (fun q => q == 5) 20 ?_)
  simp only [qX1_inForce, j_f1, j_ty, tyX1, ↓j_kt, ↓j_sel, ↓j_run_0, ↓j_run_s, ↓j_wp, ↓j_pi, ↓j_pii, ↓j_pl, ↓j_pll, ↓j_pli, ↓j_pr, ↓j_pri, ↓j_prii, ↓j_pvr, ↓j_pop, ↓j_gi, ↓j_gl, ↓j_ga, ↓j_ob, ↓j_ar, ↓j_fd, ↓j_fo, ↓j_mo, ↓j_br, ↓j_to, ↓j_lo, ↓j_scr, ↓j_co, ↓j_no, j_nf, j_rt, j_ld, j_st1, j_st2, j_k1, j_ci, j_fin, j_sh, j_shl, Option.map_some, Option.map_none, Option.toList_some, Option.toList_none, List.cons_append, List.nil_append, List.map_cons, List.map_nil, List.sum_cons, List.sum_nil, Value.category, List.getElem?_cons_zero, List.getElem?_cons_succ, List.length_cons, List.length_nil, true_and, and_true, if_true, if_false, ↓reduceIte, Bool.false_eq_true, Bool.true_eq_false, reduceCtorEq, Nat.reduceAdd, Nat.reduceLT, Nat.reduceLeDiff, Nat.reduceEqDiff, Nat.reduceBEq, Int.cast_ofNat_Int, Int.reduceAdd, Int.reduceNeg, Int.reduceSub, Int.reduceToNat, Int.reduceLE, Nat.zero_le, false_implies, implies_true, beq_self_eq_true, Bool.and_true, Bool.and_false, Bool.or_false, Bool.false_or, Bool.or_true, Bool.true_or, Bool.and_self, Bool.or_self, Nat.zero_add, Nat.add_zero, or_false, or_true, true_or, false_or, j_b0, j_b1, j_b2, j_b3, j_01, j_inb, and_self, Classical.not_not, Int32.reduceLE, Int32.reduceLT, Int32.reduceAdd, j_ne, eq_self, not_true_eq_false, not_false_eq_true, forall_const, and_false, false_and, j_sc, j_ent, Nat.reduceSub, List.replicate_zero, List.replicate_succ]
  exact l_X1_inForce_32 hs hn ⟨rfl, rfl, rfl⟩ n 0 none (by omega)
