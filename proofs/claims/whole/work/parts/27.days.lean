/-! Terms: days counted by stretches -/
/-- the day on which stretch s begins -/
def k_dy (P fr to : Nat → Int32) (d : Int32) (c : Nat) : Nat → Int32
  | 0 => 0
  | s + 1 => if k_dy P fr to d c s ≤ d then k_nc P fr to (k_dy P fr to d c s) d c else k_dy P fr to d c s
def k_fd (P ms fr to : Nat → Int32) (kind d : Int32) (c : Nat) : Nat → Int32
  | 0 => 0
  | s + 1 => if k_dy P fr to d c s ≤ d then (if k_kd P ms fr to kind (k_dy P fr to d c s) c = 0 then k_fd P ms fr to kind d c s else k_fd P ms fr to kind d c s + (k_nc P fr to (k_dy P fr to d c s) d c - k_dy P fr to d c s)) else k_fd P ms fr to kind d c s
theorem k_fd_stay {P ms fr to : Nat → Int32} {kind d : Int32} {c s : Nat} (h : ¬ k_dy P fr to d c s ≤ d) : ∀ k, k_dy P fr to d c (s + k) = k_dy P fr to d c s ∧ k_fd P ms fr to kind d c (s + k) = k_fd P ms fr to kind d c s
  | 0 => ⟨rfl, rfl⟩
  | k + 1 => by
    obtain ⟨h1, h2⟩ := k_fd_stay (P := P) (ms := ms) (fr := fr) (to := to) (kind := kind) h k
    rw [← Nat.add_assoc]
    constructor
    · show (if k_dy P fr to d c (s + k) ≤ d then _ else _) = _
      rw [if_neg (by rw [h1]; exact h), h1]
    · show (if k_dy P fr to d c (s + k) ≤ d then _ else _) = _
      rw [if_neg (by rw [h1]; exact h), h2]
set_option maxRecDepth 100000 in
theorem l_X7_daysOf {μ : j_M} {c : Nat} {kind p d q : Int32} {Q : j_Q} (hs : μ 8 8 = nI c) (hn : c ≤ 100) (hP : ∀ j, j < c → 0 ≤ μ 15 j ∧ μ 15 j < 100) (hQ : Q (some (k_fd (μ 15) (μ 10) (μ 11) (μ 12) kind d c 201)) j_SH μ) : ∀ (k i : Nat) (g8 : Option Value), i + k = 201 → j_J cX7_daysOf 7 9 (some .int) false 2 none Q j_SH 0 0 17 [some (.ref 8), some (.int kind), some (.int p), some (.int d), some (.int q), some (.int (k_fd (μ 15) (μ 10) (μ 11) (μ 12) kind d c i)), some (.int (k_dy (μ 15) (μ 11) (μ 12) d c i)), some (.int (nI i)), g8] [] μ := by
  intro k
  induction k with
  | zero =>
    intro i g8 hi
    have e : i = 201 := by omega
    subst e
    refine j_go (fun q => q == 17) 30 ?_
    simp only [qX7_daysOf, j_f7, j_m7, j_ty, tyX7, ↓j_kt, ↓j_sel, ↓j_run_0, ↓j_run_s, ↓j_wp, ↓j_pi, ↓j_pii, ↓j_pl, ↓j_pll, ↓j_pli, ↓j_pr, ↓j_pri, ↓j_prii, ↓j_pvr, ↓j_pop, ↓j_gi, ↓j_gl, ↓j_ga, ↓j_ob, ↓j_ar, ↓j_fd, ↓j_fo, ↓j_mo, ↓j_br, ↓j_to, ↓j_lo, ↓j_scr, ↓j_co, ↓j_no, j_nf, j_rt, j_ld, j_st1, j_st2, j_k1, j_ci, j_fin, j_sh, j_shl, Option.map_some, Option.map_none, Option.toList_some, Option.toList_none, List.cons_append, List.nil_append, List.map_cons, List.map_nil, List.sum_cons, List.sum_nil, Value.category, List.getElem?_cons_zero, List.getElem?_cons_succ, List.length_cons, List.length_nil, true_and, and_true, if_true, if_false, ↓reduceIte, Bool.false_eq_true, Bool.true_eq_false, reduceCtorEq, Nat.reduceAdd, Nat.reduceLT, Nat.reduceLeDiff, Nat.reduceEqDiff, Nat.reduceBEq, Int.cast_ofNat_Int, Int.reduceAdd, Int.reduceNeg, Int.reduceSub, Int.reduceToNat, Int.reduceLE, Nat.zero_le, false_implies, implies_true, beq_self_eq_true, Bool.and_true, Bool.and_false, Bool.or_false, Bool.false_or, Bool.or_true, Bool.true_or, Bool.and_self, Bool.or_self, Nat.zero_add, Nat.add_zero, or_false, or_true, true_or, false_or, j_b0, j_b1, j_b2, j_b3, j_01, j_inb, and_self, Classical.not_not, Int32.reduceLE, Int32.reduceLT, Int32.reduceAdd, j_ne, eq_self, not_true_eq_false, not_false_eq_true, forall_const, and_false, false_and, j_sc, j_ent, Nat.reduceSub, List.replicate_zero, List.replicate_succ]
    refine ⟨fun _ => hQ, fun h => absurd h (by decide)⟩
  | succ k ih =>
    intro i g8 hi
    refine j_go (fun q => q == 17) 60 ?_
    simp only [qX7_daysOf, j_f7, j_m7, j_ty, tyX7, ↓j_kt, ↓j_sel, ↓j_run_0, ↓j_run_s, ↓j_wp, ↓j_pi, ↓j_pii, ↓j_pl, ↓j_pll, ↓j_pli, ↓j_pr, ↓j_pri, ↓j_prii, ↓j_pvr, ↓j_pop, ↓j_gi, ↓j_gl, ↓j_ga, ↓j_ob, ↓j_ar, ↓j_fd, ↓j_fo, ↓j_mo, ↓j_br, ↓j_to, ↓j_lo, ↓j_scr, ↓j_co, ↓j_no, j_nf, j_rt, j_ld, j_st1, j_st2, j_k1, j_ci, j_fin, j_sh, j_shl, Option.map_some, Option.map_none, Option.toList_some, Option.toList_none, List.cons_append, List.nil_append, List.map_cons, List.map_nil, List.sum_cons, List.sum_nil, Value.category, List.getElem?_cons_zero, List.getElem?_cons_succ, List.length_cons, List.length_nil, true_and, and_true, if_true, if_false, ↓reduceIte, Bool.false_eq_true, Bool.true_eq_false, reduceCtorEq, Nat.reduceAdd, Nat.reduceLT, Nat.reduceLeDiff, Nat.reduceEqDiff, Nat.reduceBEq, Int.cast_ofNat_Int, Int.reduceAdd, Int.reduceNeg, Int.reduceSub, Int.reduceToNat, Int.reduceLE, Nat.zero_le, false_implies, implies_true, beq_self_eq_true, Bool.and_true, Bool.and_false, Bool.or_false, Bool.false_or, Bool.or_true, Bool.true_or, Bool.and_self, Bool.or_self, Nat.zero_add, Nat.add_zero, or_false, or_true, true_or, false_or, j_b0, j_b1, j_b2, j_b3, j_01, j_inb, and_self, Classical.not_not, Int32.reduceLE, Int32.reduceLT, Int32.reduceAdd, j_ne, eq_self, not_true_eq_false, not_false_eq_true, forall_const, and_false, false_and, j_sc, j_ent, Nat.reduceSub, List.replicate_zero, List.replicate_succ]
    have h201 : nI i < 201 := (nI_lt' (b := 201) (by omega) (by omega)).mpr (by omega)
    refine ⟨fun h => by grind, fun _ => ⟨fun h => ?_, fun h => ?_⟩⟩
    · have h2 := (k_fd_stay (P := μ 15) (ms := μ 10) (fr := μ 11) (to := μ 12) (kind := kind) (d := d) (c := c) (s := i) (by grind) (201 - i)).2
      rw [show i + (201 - i) = 201 by omega] at h2
      rw [h2] at hQ
      exact hQ
    · have h1 := fun g => ih (i + 1) g (by omega)
      have e1 : k_dy (μ 15) (μ 11) (μ 12) d c (i + 1) = k_nc (μ 15) (μ 11) (μ 12) (k_dy (μ 15) (μ 11) (μ 12) d c i) d c := by
        show (if k_dy (μ 15) (μ 11) (μ 12) d c i ≤ d then _ else _) = _
        rw [if_pos h]
      have e2 : k_fd (μ 15) (μ 10) (μ 11) (μ 12) kind d c (i + 1) = (if k_kd (μ 15) (μ 10) (μ 11) (μ 12) kind (k_dy (μ 15) (μ 11) (μ 12) d c i) c = 0 then k_fd (μ 15) (μ 10) (μ 11) (μ 12) kind d c i else k_fd (μ 15) (μ 10) (μ 11) (μ 12) kind d c i + (k_nc (μ 15) (μ 11) (μ 12) (k_dy (μ 15) (μ 11) (μ 12) d c i) d c - k_dy (μ 15) (μ 11) (μ 12) d c i)) := by
        show (if k_dy (μ 15) (μ 11) (μ 12) d c i ≤ d then _ else _) = _
        rw [if_pos h]
      simp only [e1, e2] at h1
      refine j_use1 (f_X7_nextChange μ _ d hs hn hP) (by decide) ?_
      simp only [qX7_daysOf, j_f7, j_m7, j_ty, tyX7, ↓j_kt, ↓j_sel, ↓j_run_0, ↓j_run_s, ↓j_wp, ↓j_pi, ↓j_pii, ↓j_pl, ↓j_pll, ↓j_pli, ↓j_pr, ↓j_pri, ↓j_prii, ↓j_pvr, ↓j_pop, ↓j_gi, ↓j_gl, ↓j_ga, ↓j_ob, ↓j_ar, ↓j_fd, ↓j_fo, ↓j_mo, ↓j_br, ↓j_to, ↓j_lo, ↓j_scr, ↓j_co, ↓j_no, j_nf, j_rt, j_ld, j_st1, j_st2, j_k1, j_ci, j_fin, j_sh, j_shl, Option.map_some, Option.map_none, Option.toList_some, Option.toList_none, List.cons_append, List.nil_append, List.map_cons, List.map_nil, List.sum_cons, List.sum_nil, Value.category, List.getElem?_cons_zero, List.getElem?_cons_succ, List.length_cons, List.length_nil, true_and, and_true, if_true, if_false, ↓reduceIte, Bool.false_eq_true, Bool.true_eq_false, reduceCtorEq, Nat.reduceAdd, Nat.reduceLT, Nat.reduceLeDiff, Nat.reduceEqDiff, Nat.reduceBEq, Int.cast_ofNat_Int, Int.reduceAdd, Int.reduceNeg, Int.reduceSub, Int.reduceToNat, Int.reduceLE, Nat.zero_le, false_implies, implies_true, beq_self_eq_true, Bool.and_true, Bool.and_false, Bool.or_false, Bool.false_or, Bool.or_true, Bool.true_or, Bool.and_self, Bool.or_self, Nat.zero_add, Nat.add_zero, or_false, or_true, true_or, false_or, j_b0, j_b1, j_b2, j_b3, j_01, j_inb, and_self, Classical.not_not, Int32.reduceLE, Int32.reduceLT, Int32.reduceAdd, j_ne, eq_self, not_true_eq_false, not_false_eq_true, forall_const, and_false, false_and, j_sc, j_ent, Nat.reduceSub, List.replicate_zero, List.replicate_succ]
      refine j_use1 (f_X7_isOfKind μ kind _ hs hn hP) (by decide) ?_
      simp only [qX7_daysOf, j_f7, j_m7, j_ty, tyX7, ↓j_kt, ↓j_sel, ↓j_run_0, ↓j_run_s, ↓j_wp, ↓j_pi, ↓j_pii, ↓j_pl, ↓j_pll, ↓j_pli, ↓j_pr, ↓j_pri, ↓j_prii, ↓j_pvr, ↓j_pop, ↓j_gi, ↓j_gl, ↓j_ga, ↓j_ob, ↓j_ar, ↓j_fd, ↓j_fo, ↓j_mo, ↓j_br, ↓j_to, ↓j_lo, ↓j_scr, ↓j_co, ↓j_no, j_nf, j_rt, j_ld, j_st1, j_st2, j_k1, j_ci, j_fin, j_sh, j_shl, Option.map_some, Option.map_none, Option.toList_some, Option.toList_none, List.cons_append, List.nil_append, List.map_cons, List.map_nil, List.sum_cons, List.sum_nil, Value.category, List.getElem?_cons_zero, List.getElem?_cons_succ, List.length_cons, List.length_nil, true_and, and_true, if_true, if_false, ↓reduceIte, Bool.false_eq_true, Bool.true_eq_false, reduceCtorEq, Nat.reduceAdd, Nat.reduceLT, Nat.reduceLeDiff, Nat.reduceEqDiff, Nat.reduceBEq, Int.cast_ofNat_Int, Int.reduceAdd, Int.reduceNeg, Int.reduceSub, Int.reduceToNat, Int.reduceLE, Nat.zero_le, false_implies, implies_true, beq_self_eq_true, Bool.and_true, Bool.and_false, Bool.or_false, Bool.false_or, Bool.or_true, Bool.true_or, Bool.and_self, Bool.or_self, Nat.zero_add, Nat.add_zero, or_false, or_true, true_or, false_or, j_b0, j_b1, j_b2, j_b3, j_01, j_inb, and_self, Classical.not_not, Int32.reduceLE, Int32.reduceLT, Int32.reduceAdd, j_ne, eq_self, not_true_eq_false, not_false_eq_true, forall_const, and_false, false_and, j_sc, j_ent, Nat.reduceSub, List.replicate_zero, List.replicate_succ, nI_1]
      refine ⟨fun g => ?_, fun g => ?_⟩
      · simp only [if_pos g] at h1
        exact h1 _
      · simp only [if_neg g] at h1
        exact h1 _
set_option maxRecDepth 100000 in
theorem f_X7_daysOf (μ : j_M) (kind p d q : Int32) {n : Nat} (hs : μ 8 6 = nI n) (hn : n ≤ 100) : j_R 2 yX7_daysOf [.ref 8, .int kind, .int p, .int d, .int q] μ (fun r m => r = some (k_fd (k_row (k_pk (μ 9) (μ 11) (μ 13) (μ 14) p d q) (μ 15) n) (μ 10) (μ 11) (μ 12) kind d (cnt (k_pk (μ 9) (μ 11) (μ 13) (μ 14) p d q) n) 201) ∧ m = k_pm μ p d q n) := by
  refine eX7_daysOf (Nat.le_of_ble_eq_true rfl) (j_go (fun q => q == 17) 20 ?_)
  simp only [qX7_daysOf, j_f7, j_m7, j_ty, tyX7, ↓j_kt, ↓j_sel, ↓j_run_0, ↓j_run_s, ↓j_wp, ↓j_pi, ↓j_pii, ↓j_pl, ↓j_pll, ↓j_pli, ↓j_pr, ↓j_pri, ↓j_prii, ↓j_pvr, ↓j_pop, ↓j_gi, ↓j_gl, ↓j_ga, ↓j_ob, ↓j_ar, ↓j_fd, ↓j_fo, ↓j_mo, ↓j_br, ↓j_to, ↓j_lo, ↓j_scr, ↓j_co, ↓j_no, j_nf, j_rt, j_ld, j_st1, j_st2, j_k1, j_ci, j_fin, j_sh, j_shl, Option.map_some, Option.map_none, Option.toList_some, Option.toList_none, List.cons_append, List.nil_append, List.map_cons, List.map_nil, List.sum_cons, List.sum_nil, Value.category, List.getElem?_cons_zero, List.getElem?_cons_succ, List.length_cons, List.length_nil, true_and, and_true, if_true, if_false, ↓reduceIte, Bool.false_eq_true, Bool.true_eq_false, reduceCtorEq, Nat.reduceAdd, Nat.reduceLT, Nat.reduceLeDiff, Nat.reduceEqDiff, Nat.reduceBEq, Int.cast_ofNat_Int, Int.reduceAdd, Int.reduceNeg, Int.reduceSub, Int.reduceToNat, Int.reduceLE, Nat.zero_le, false_implies, implies_true, beq_self_eq_true, Bool.and_true, Bool.and_false, Bool.or_false, Bool.false_or, Bool.or_true, Bool.true_or, Bool.and_self, Bool.or_self, Nat.zero_add, Nat.add_zero, or_false, or_true, true_or, false_or, j_b0, j_b1, j_b2, j_b3, j_01, j_inb, and_self, Classical.not_not, Int32.reduceLE, Int32.reduceLT, Int32.reduceAdd, j_ne, eq_self, not_true_eq_false, not_false_eq_true, forall_const, and_false, false_and, j_sc, j_ent, Nat.reduceSub, List.replicate_zero, List.replicate_succ]
  refine j_use1 (f_X7_pick μ p d q hs hn) (by decide) ?_
  simp only [qX7_daysOf, j_f7, j_m7, j_ty, tyX7, ↓j_kt, ↓j_sel, ↓j_run_0, ↓j_run_s, ↓j_wp, ↓j_pi, ↓j_pii, ↓j_pl, ↓j_pll, ↓j_pli, ↓j_pr, ↓j_pri, ↓j_prii, ↓j_pvr, ↓j_pop, ↓j_gi, ↓j_gl, ↓j_ga, ↓j_ob, ↓j_ar, ↓j_fd, ↓j_fo, ↓j_mo, ↓j_br, ↓j_to, ↓j_lo, ↓j_scr, ↓j_co, ↓j_no, j_nf, j_rt, j_ld, j_st1, j_st2, j_k1, j_ci, j_fin, j_sh, j_shl, Option.map_some, Option.map_none, Option.toList_some, Option.toList_none, List.cons_append, List.nil_append, List.map_cons, List.map_nil, List.sum_cons, List.sum_nil, Value.category, List.getElem?_cons_zero, List.getElem?_cons_succ, List.length_cons, List.length_nil, true_and, and_true, if_true, if_false, ↓reduceIte, Bool.false_eq_true, Bool.true_eq_false, reduceCtorEq, Nat.reduceAdd, Nat.reduceLT, Nat.reduceLeDiff, Nat.reduceEqDiff, Nat.reduceBEq, Int.cast_ofNat_Int, Int.reduceAdd, Int.reduceNeg, Int.reduceSub, Int.reduceToNat, Int.reduceLE, Nat.zero_le, false_implies, implies_true, beq_self_eq_true, Bool.and_true, Bool.and_false, Bool.or_false, Bool.false_or, Bool.or_true, Bool.true_or, Bool.and_self, Bool.or_self, Nat.zero_add, Nat.add_zero, or_false, or_true, true_or, false_or, j_b0, j_b1, j_b2, j_b3, j_01, j_inb, and_self, Classical.not_not, Int32.reduceLE, Int32.reduceLT, Int32.reduceAdd, j_ne, eq_self, not_true_eq_false, not_false_eq_true, forall_const, and_false, false_and, j_sc, j_ent, Nat.reduceSub, List.replicate_zero, List.replicate_succ]
  have hc := cnt_le (k_pk (μ 9) (μ 11) (μ 13) (μ 14) p d q) n
  refine l_X7_daysOf (μ := k_pm μ p d q n) (k_pm_88 μ p d q n) (by omega) ?_ ?_ 201 0 none (by omega)
  · rw [k_pm_15]
    exact k_row_bd hn
  · refine ⟨rfl, ?_, rfl⟩
    rw [k_pm_15, k_pm_o μ p d q n (by decide) (by decide), k_pm_o μ p d q n (by decide) (by decide), k_pm_o μ p d q n (by decide) (by decide)]
