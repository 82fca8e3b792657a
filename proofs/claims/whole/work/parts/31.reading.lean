/-! Reading -/
abbrev a_dig (c : Int32) : Prop := 48 ≤ c ∧ c ≤ 57
abbrev a_word (c : Int32) : Prop := c = 121 ∨ c = 100 ∨ c = 119 ∨ c = 108 ∨ c = 102 ∨ c = 109 ∨ c = 107
set_option maxRecDepth 100000 in
theorem f_X5_isDigit (μ : j_M) (c : Int32) : j_R 0 yX5_isDigit [.int c] μ (fun r m => r = some (if a_dig c then 1 else 0) ∧ m = μ) := by
  refine eX5_isDigit (Nat.le_of_ble_eq_true rfl) (j_go (fun _ => false) 20 ?_)
  simp only [qX5_isDigit, j_f5, j_m5, j_ty, tyX5, ↓j_kt, ↓j_sel, ↓j_run_0, ↓j_run_s, ↓j_wp, ↓j_pi, ↓j_pii, ↓j_pl, ↓j_pll, ↓j_pli, ↓j_pr, ↓j_pri, ↓j_prii, ↓j_pvr, ↓j_pop, ↓j_gi, ↓j_gl, ↓j_ga, ↓j_ob, ↓j_ar, ↓j_fd, ↓j_fo, ↓j_mo, ↓j_br, ↓j_to, ↓j_lo, ↓j_scr, ↓j_co, ↓j_no, j_nf, j_rt, j_ld, j_st1, j_st2, j_k1, j_ci, j_fin, j_sh, j_shl, Option.map_some, Option.map_none, Option.toList_some, Option.toList_none, List.cons_append, List.nil_append, List.map_cons, List.map_nil, List.sum_cons, List.sum_nil, Value.category, List.getElem?_cons_zero, List.getElem?_cons_succ, List.length_cons, List.length_nil, true_and, and_true, if_true, if_false, ↓reduceIte, Bool.false_eq_true, Bool.true_eq_false, reduceCtorEq, Nat.reduceAdd, Nat.reduceLT, Nat.reduceLeDiff, Nat.reduceEqDiff, Nat.reduceBEq, Int.cast_ofNat_Int, Int.reduceAdd, Int.reduceNeg, Int.reduceSub, Int.reduceToNat, Int.reduceLE, Nat.zero_le, false_implies, implies_true, beq_self_eq_true, Bool.and_true, Bool.and_false, Bool.or_false, Bool.false_or, Bool.or_true, Bool.true_or, Bool.and_self, Bool.or_self, Nat.zero_add, Nat.add_zero, or_false, or_true, true_or, false_or, j_b0, ↓j_b1, j_b2, ↓j_b3, j_01, j_inb, and_self, Classical.not_not, Int32.reduceLE, Int32.reduceLT, Int32.reduceAdd, j_ne, eq_self, not_true_eq_false, not_false_eq_true, forall_const, and_false, false_and, j_sc, j_ent, Nat.reduceSub, List.replicate_zero, List.replicate_succ]
  grind
set_option maxRecDepth 100000 in
theorem f_X5_isWord (μ : j_M) (c : Int32) : j_R 0 yX5_isWord [.int c] μ (fun r m => r = some (if a_word c then 1 else 0) ∧ m = μ) := by
  refine eX5_isWord (Nat.le_of_ble_eq_true rfl) (j_go (fun _ => false) 40 ?_)
  simp only [qX5_isWord, j_f5, j_m5, j_ty, tyX5, ↓j_kt, ↓j_sel, ↓j_run_0, ↓j_run_s, ↓j_wp, ↓j_pi, ↓j_pii, ↓j_pl, ↓j_pll, ↓j_pli, ↓j_pr, ↓j_pri, ↓j_prii, ↓j_pvr, ↓j_pop, ↓j_gi, ↓j_gl, ↓j_ga, ↓j_ob, ↓j_ar, ↓j_fd, ↓j_fo, ↓j_mo, ↓j_br, ↓j_to, ↓j_lo, ↓j_scr, ↓j_co, ↓j_no, j_nf, j_rt, j_ld, j_st1, j_st2, j_k1, j_ci, j_fin, j_sh, j_shl, Option.map_some, Option.map_none, Option.toList_some, Option.toList_none, List.cons_append, List.nil_append, List.map_cons, List.map_nil, List.sum_cons, List.sum_nil, Value.category, List.getElem?_cons_zero, List.getElem?_cons_succ, List.length_cons, List.length_nil, true_and, and_true, if_true, if_false, ↓reduceIte, Bool.false_eq_true, Bool.true_eq_false, reduceCtorEq, Nat.reduceAdd, Nat.reduceLT, Nat.reduceLeDiff, Nat.reduceEqDiff, Nat.reduceBEq, Int.cast_ofNat_Int, Int.reduceAdd, Int.reduceNeg, Int.reduceSub, Int.reduceToNat, Int.reduceLE, Nat.zero_le, false_implies, implies_true, beq_self_eq_true, Bool.and_true, Bool.and_false, Bool.or_false, Bool.false_or, Bool.or_true, Bool.true_or, Bool.and_self, Bool.or_self, Nat.zero_add, Nat.add_zero, or_false, or_true, true_or, false_or, j_b0, ↓j_b1, j_b2, ↓j_b3, j_01, j_inb, and_self, Classical.not_not, Int32.reduceLE, Int32.reduceLT, Int32.reduceAdd, j_ne, eq_self, not_true_eq_false, not_false_eq_true, forall_const, and_false, false_and, j_sc, j_ent, Nat.reduceSub, List.replicate_zero, List.replicate_succ]
  grind
set_option maxRecDepth 100000 in
theorem f_X5_isWhole (μ : j_M) : j_R 0 yX5_isWhole [.ref 23] μ (fun r m => r = some (if μ 23 1 = 0 ∧ (μ 23 0 = 3 ∨ μ 23 0 = 4) then 1 else 0) ∧ m = μ) := by
  refine eX5_isWhole (Nat.le_of_ble_eq_true rfl) (j_go (fun _ => false) 40 ?_)
  simp only [qX5_isWhole, j_f5, j_m5, j_ty, tyX5, ↓j_kt, ↓j_sel, ↓j_run_0, ↓j_run_s, ↓j_wp, ↓j_pi, ↓j_pii, ↓j_pl, ↓j_pll, ↓j_pli, ↓j_pr, ↓j_pri, ↓j_prii, ↓j_pvr, ↓j_pop, ↓j_gi, ↓j_gl, ↓j_ga, ↓j_ob, ↓j_ar, ↓j_fd, ↓j_fo, ↓j_mo, ↓j_br, ↓j_to, ↓j_lo, ↓j_scr, ↓j_co, ↓j_no, j_nf, j_rt, j_ld, j_st1, j_st2, j_k1, j_ci, j_fin, j_sh, j_shl, Option.map_some, Option.map_none, Option.toList_some, Option.toList_none, List.cons_append, List.nil_append, List.map_cons, List.map_nil, List.sum_cons, List.sum_nil, Value.category, List.getElem?_cons_zero, List.getElem?_cons_succ, List.length_cons, List.length_nil, true_and, and_true, if_true, if_false, ↓reduceIte, Bool.false_eq_true, Bool.true_eq_false, reduceCtorEq, Nat.reduceAdd, Nat.reduceLT, Nat.reduceLeDiff, Nat.reduceEqDiff, Nat.reduceBEq, Int.cast_ofNat_Int, Int.reduceAdd, Int.reduceNeg, Int.reduceSub, Int.reduceToNat, Int.reduceLE, Nat.zero_le, false_implies, implies_true, beq_self_eq_true, Bool.and_true, Bool.and_false, Bool.or_false, Bool.false_or, Bool.or_true, Bool.true_or, Bool.and_self, Bool.or_self, Nat.zero_add, Nat.add_zero, or_false, or_true, true_or, false_or, j_b0, ↓j_b1, j_b2, ↓j_b3, j_01, j_inb, and_self, Classical.not_not, Int32.reduceLE, Int32.reduceLT, Int32.reduceAdd, j_ne, eq_self, not_true_eq_false, not_false_eq_true, forall_const, and_false, false_and, j_sc, j_ent, Nat.reduceSub, List.replicate_zero, List.replicate_succ]
  grind
abbrev a_St : Type := Int32 × Int32 × Int32
/-- a unit begins -/
def a_beg (s : a_St) (c : Int32) : Option a_St := if c = 40 then (if s.2.1 + 1 ≤ 8 then some (s.1, s.2.1 + 1, s.2.2) else none) else if a_word c then some (1, s.2.1, s.2.2) else none
/-- behind a unit -/
def a_fol (s : a_St) (c : Int32) : Option a_St := if c = 41 then (if 0 ≤ s.2.1 - 1 then some (4, s.2.1 - 1, s.2.2) else none) else if c = 38 ∨ c = 124 then some (0, s.2.1, s.2.2) else none
def a_go (s : a_St) (c : Int32) : Option a_St :=
  if c = 32 then some (if s.1 = 3 then 4 else s.1, s.2.1, s.2.2)
  else if s.1 = 0 then a_beg s c
  else if s.1 = 1 then (if c = 60 ∨ c = 62 ∨ c = 61 then some (2, s.2.1, s.2.2) else none)
  else if s.1 = 2 then (if a_dig c then some (3, s.2.1, 1) else none)
  else if s.1 = 3 then (if a_dig c then (if s.2.2 + 1 ≤ 5 then some (3, s.2.1, s.2.2 + 1) else none) else a_fol (3, s.2.1, s.2.2 + 1) c)
  else a_fol s c
/-- what a step of the reading leaves -/
def a_P (μ : j_M) (o : Option a_St) (r : Option Int32) (m : j_M) : Prop := ∃ f, m = j_row μ 23 f ∧ match o with
  | some s => r = some 1 ∧ f 0 = s.1 ∧ f 1 = s.2.1 ∧ f 2 = s.2.2
  | none => r = some 0
theorem j_row_row (μ : j_M) (a : Nat) (f g : Nat → Int32) : j_row (j_row μ a f) a g = j_row μ a g := by
  funext b
  by_cases h : b = a
  · subst h; simp [j_row]
  · simp [j_row, h]
theorem a_Ps {μ m : j_M} {s : a_St} (f : Nat → Int32) (hm : m = j_row μ 23 f) (h0 : f 0 = s.1) (h1 : f 1 = s.2.1) (h2 : f 2 = s.2.2) : a_P μ (some s) (some 1) m := ⟨f, hm, rfl, h0, h1, h2⟩
theorem a_Pn {μ m : j_M} (f : Nat → Int32) (hm : m = j_row μ 23 f) : a_P μ none (some 0) m := ⟨f, hm, rfl⟩
set_option maxRecDepth 100000 in
theorem f_X5_beginsUnit (μ : j_M) (c : Int32) : j_R 1 yX5_beginsUnit [.ref 23, .int c] μ (a_P μ (a_beg (μ 23 0, μ 23 1, μ 23 2) c)) := by
  refine eX5_beginsUnit (Nat.le_of_ble_eq_true rfl) (j_go (fun _ => false) 40 ?_)
  have e : (j_up μ 23 1 (μ 23 1 + 1)) 23 1 = μ 23 1 + 1 := by rw [j_us, u_s]
  simp only [qX5_beginsUnit, j_f5, j_m5, j_ty, tyX5, ↓j_kt, ↓j_sel, ↓j_run_0, ↓j_run_s, ↓j_wp, ↓j_pi, ↓j_pii, ↓j_pl, ↓j_pll, ↓j_pli, ↓j_pr, ↓j_pri, ↓j_prii, ↓j_pvr, ↓j_pop, ↓j_gi, ↓j_gl, ↓j_ga, ↓j_ob, ↓j_ar, ↓j_fd, ↓j_fo, ↓j_mo, ↓j_br, ↓j_to, ↓j_lo, ↓j_scr, ↓j_co, ↓j_no, j_nf, j_rt, j_ld, j_st1, j_st2, j_k1, j_ci, j_fin, j_sh, j_shl, Option.map_some, Option.map_none, Option.toList_some, Option.toList_none, List.cons_append, List.nil_append, List.map_cons, List.map_nil, List.sum_cons, List.sum_nil, Value.category, List.getElem?_cons_zero, List.getElem?_cons_succ, List.length_cons, List.length_nil, true_and, and_true, if_true, if_false, ↓reduceIte, Bool.false_eq_true, Bool.true_eq_false, reduceCtorEq, Nat.reduceAdd, Nat.reduceLT, Nat.reduceLeDiff, Nat.reduceEqDiff, Nat.reduceBEq, Int.cast_ofNat_Int, Int.reduceAdd, Int.reduceNeg, Int.reduceSub, Int.reduceToNat, Int.reduceLE, Nat.zero_le, false_implies, implies_true, beq_self_eq_true, Bool.and_true, Bool.and_false, Bool.or_false, Bool.false_or, Bool.or_true, Bool.true_or, Bool.and_self, Bool.or_self, Nat.zero_add, Nat.add_zero, or_false, or_true, true_or, false_or, j_b0, ↓j_b1, j_b2, ↓j_b3, j_01, j_inb, and_self, Classical.not_not, Int32.reduceLE, Int32.reduceLT, Int32.reduceAdd, j_ne, eq_self, not_true_eq_false, not_false_eq_true, forall_const, and_false, false_and, j_sc, j_ent, Nat.reduceSub, List.replicate_zero, List.replicate_succ, e]
  unfold a_beg
  refine ⟨fun h => ?_, fun h => ?_⟩
  · refine j_use1 (f_X5_isWord _ c) (by decide) ?_
    rw [if_neg h]
    simp only [qX5_beginsUnit, j_f5, j_m5, j_ty, tyX5, ↓j_kt, ↓j_sel, ↓j_run_0, ↓j_run_s, ↓j_wp, ↓j_pi, ↓j_pii, ↓j_pl, ↓j_pll, ↓j_pli, ↓j_pr, ↓j_pri, ↓j_prii, ↓j_pvr, ↓j_pop, ↓j_gi, ↓j_gl, ↓j_ga, ↓j_ob, ↓j_ar, ↓j_fd, ↓j_fo, ↓j_mo, ↓j_br, ↓j_to, ↓j_lo, ↓j_scr, ↓j_co, ↓j_no, j_nf, j_rt, j_ld, j_st1, j_st2, j_k1, j_ci, j_fin, j_sh, j_shl, Option.map_some, Option.map_none, Option.toList_some, Option.toList_none, List.cons_append, List.nil_append, List.map_cons, List.map_nil, List.sum_cons, List.sum_nil, Value.category, List.getElem?_cons_zero, List.getElem?_cons_succ, List.length_cons, List.length_nil, true_and, and_true, if_true, if_false, ↓reduceIte, Bool.false_eq_true, Bool.true_eq_false, reduceCtorEq, Nat.reduceAdd, Nat.reduceLT, Nat.reduceLeDiff, Nat.reduceEqDiff, Nat.reduceBEq, Int.cast_ofNat_Int, Int.reduceAdd, Int.reduceNeg, Int.reduceSub, Int.reduceToNat, Int.reduceLE, Nat.zero_le, false_implies, implies_true, beq_self_eq_true, Bool.and_true, Bool.and_false, Bool.or_false, Bool.false_or, Bool.or_true, Bool.true_or, Bool.and_self, Bool.or_self, Nat.zero_add, Nat.add_zero, or_false, or_true, true_or, false_or, j_b0, ↓j_b1, j_b2, ↓j_b3, j_01, j_inb, and_self, Classical.not_not, Int32.reduceLE, Int32.reduceLT, Int32.reduceAdd, j_ne, eq_self, not_true_eq_false, not_false_eq_true, forall_const, and_false, false_and, j_sc, j_ent, Nat.reduceSub, List.replicate_zero, List.replicate_succ]
    by_cases g : a_word c
    · rw [if_pos g, if_pos g]
      exact a_Ps _ rfl (by simp [upd]) (by simp [upd]) (by simp [upd])
    · rw [if_neg g, if_neg g]
      exact a_Pn _ rfl
  · rw [if_pos h]
    refine ⟨fun g => ?_, fun g => ?_⟩
    · rw [if_neg (by grind)]
      exact a_Pn _ rfl
    · rw [if_pos (by grind)]
      exact a_Ps _ rfl (by simp [upd]) (by simp [upd]) (by simp [upd])
set_option maxRecDepth 100000 in
theorem f_X5_followsUnit (μ : j_M) (c : Int32) : j_R 0 yX5_followsUnit [.ref 23, .int c] μ (a_P μ (a_fol (μ 23 0, μ 23 1, μ 23 2) c)) := by
  refine eX5_followsUnit (Nat.le_of_ble_eq_true rfl) (j_go (fun _ => false) 40 ?_)
  have e0 : (j_up μ 23 0 4) 23 1 = μ 23 1 := by rw [j_us, u_n _ _ (by decide)]
  have e : (j_up (j_up μ 23 0 4) 23 1 (μ 23 1 - 1)) 23 1 = μ 23 1 - 1 := by rw [j_us, u_s]
  have e2 : j_up (j_up μ 23 0 4) 23 1 (μ 23 1 - 1) = j_row μ 23 (upd (upd (μ 23) 0 4) 1 (μ 23 1 - 1)) := by
    show j_row _ 23 (upd ((j_up μ 23 0 4) 23) 1 _) = _
    rw [j_us]
    show j_row (j_row μ 23 _) 23 _ = _
    rw [j_row_row]
  simp only [qX5_followsUnit, j_f5, j_m5, j_ty, tyX5, ↓j_kt, ↓j_sel, ↓j_run_0, ↓j_run_s, ↓j_wp, ↓j_pi, ↓j_pii, ↓j_pl, ↓j_pll, ↓j_pli, ↓j_pr, ↓j_pri, ↓j_prii, ↓j_pvr, ↓j_pop, ↓j_gi, ↓j_gl, ↓j_ga, ↓j_ob, ↓j_ar, ↓j_fd, ↓j_fo, ↓j_mo, ↓j_br, ↓j_to, ↓j_lo, ↓j_scr, ↓j_co, ↓j_no, j_nf, j_rt, j_ld, j_st1, j_st2, j_k1, j_ci, j_fin, j_sh, j_shl, Option.map_some, Option.map_none, Option.toList_some, Option.toList_none, List.cons_append, List.nil_append, List.map_cons, List.map_nil, List.sum_cons, List.sum_nil, Value.category, List.getElem?_cons_zero, List.getElem?_cons_succ, List.length_cons, List.length_nil, true_and, and_true, if_true, if_false, ↓reduceIte, Bool.false_eq_true, Bool.true_eq_false, reduceCtorEq, Nat.reduceAdd, Nat.reduceLT, Nat.reduceLeDiff, Nat.reduceEqDiff, Nat.reduceBEq, Int.cast_ofNat_Int, Int.reduceAdd, Int.reduceNeg, Int.reduceSub, Int.reduceToNat, Int.reduceLE, Nat.zero_le, false_implies, implies_true, beq_self_eq_true, Bool.and_true, Bool.and_false, Bool.or_false, Bool.false_or, Bool.or_true, Bool.true_or, Bool.and_self, Bool.or_self, Nat.zero_add, Nat.add_zero, or_false, or_true, true_or, false_or, j_b0, ↓j_b1, j_b2, ↓j_b3, j_01, j_inb, and_self, Classical.not_not, Int32.reduceLE, Int32.reduceLT, Int32.reduceAdd, j_ne, eq_self, not_true_eq_false, not_false_eq_true, forall_const, and_false, false_and, j_sc, j_ent, Nat.reduceSub, List.replicate_zero, List.replicate_succ, e0, e]
  unfold a_fol
  refine ⟨fun h => ?_, fun h => ?_⟩
  · rw [if_neg h]
    refine ⟨fun g => ?_, fun g => ⟨fun g2 => ?_, fun g2 => ?_⟩⟩
    · rw [if_pos (Or.inl g)]
      exact a_Ps _ rfl (by simp [upd]) (by simp [upd]) (by simp [upd])
    · rw [if_neg (by grind)]
      exact a_Pn _ rfl
    · rw [if_pos (Or.inr g2)]
      exact a_Ps _ rfl (by simp [upd]) (by simp [upd]) (by simp [upd])
  · rw [if_pos h]
    refine ⟨fun g => ?_, fun g => ?_⟩
    · rw [if_neg (by grind)]
      exact a_Pn _ e2
    · rw [if_pos (by grind)]
      exact a_Ps _ e2 (by simp [upd]) (by simp [upd]) (by simp [upd])
theorem a_P_mv {μ μ' m : j_M} {o : Option a_St} {r : Option Int32} {g : Nat → Int32} (h : a_P μ' o r m) (e : μ' = j_row μ 23 g) : a_P μ o r m := by
  obtain ⟨f, hm, h2⟩ := h
  refine ⟨f, ?_, h2⟩
  rw [hm, e, j_row_row]
theorem a_P_r {μ m : j_M} {o : Option a_St} {r : Option Int32} (h : a_P μ o r m) : ∃ v : Int32, r = some v ∧ (v = 0 ∨ v = 1) := by
  obtain ⟨f, -, h2⟩ := h
  cases o with
  | none => exact ⟨0, h2, Or.inl rfl⟩
  | some s => exact ⟨1, h2.1, Or.inr rfl⟩
theorem j_te {x y : Int32} {n : Int} (h : y.toInt = n) : x.toInt = n ↔ x = y := by
  rw [← h]
  exact ⟨fun e => Int32.toInt_inj.mp e, fun e => by rw [e]⟩
theorem j_tl {x y : Int32} {n : Int} (h : y.toInt = n) : x.toInt < n ↔ x < y := by rw [← h, Int32.lt_iff_toInt_lt]
theorem j_tg {x y : Int32} {n : Int} (h : y.toInt = n) : n < x.toInt ↔ y < x := by rw [← h, Int32.lt_iff_toInt_lt]
theorem j_ti : (∀ x : Int32, x.toInt = 0 ↔ x = 0) ∧ (∀ x : Int32, x.toInt = 1 ↔ x = 1) ∧ (∀ x : Int32, x.toInt = 2 ↔ x = 2) ∧ (∀ x : Int32, x.toInt = 3 ↔ x = 3) ∧ (∀ x : Int32, x.toInt = 4 ↔ x = 4) ∧ (∀ x : Int32, x.toInt = 5 ↔ x = 5) ∧ (∀ x : Int32, x.toInt = 6 ↔ x = 6) ∧ (∀ x : Int32, x.toInt = 7 ↔ x = 7) ∧ (∀ x : Int32, x.toInt < 0 ↔ x < 0) ∧ (∀ x : Int32, 3 < x.toInt ↔ 3 < x) ∧ (∀ x : Int32, 4 < x.toInt ↔ 4 < x) ∧ (∀ x : Int32, 5 < x.toInt ↔ 5 < x) ∧ (∀ x : Int32, 6 < x.toInt ↔ 6 < x) ∧ (∀ x : Int32, 7 < x.toInt ↔ 7 < x) := ⟨fun _ => j_te (by decide), fun _ => j_te (by decide), fun _ => j_te (by decide), fun _ => j_te (by decide), fun _ => j_te (by decide), fun _ => j_te (by decide), fun _ => j_te (by decide), fun _ => j_te (by decide), fun _ => j_tl (by decide), fun _ => j_tg (by decide), fun _ => j_tg (by decide), fun _ => j_tg (by decide), fun _ => j_tg (by decide), fun _ => j_tg (by decide)⟩
set_option maxRecDepth 100000 in
theorem f_X5_goesOnWith (μ : j_M) (c : Int32) (h0 : 0 ≤ μ 23 0) (h4 : μ 23 0 ≤ 4) : j_R 2 yX5_goesOnWith [.ref 23, .int c] μ (a_P μ (a_go (μ 23 0, μ 23 1, μ 23 2) c)) := by
  refine eX5_goesOnWith (Nat.le_of_ble_eq_true rfl) (j_go (fun _ => false) 40 ?_)
  have e1 : (j_up μ 23 2 (μ 23 2 + 1)) 23 2 = μ 23 2 + 1 := by rw [j_us, u_s]
  simp only [qX5_goesOnWith, j_f5, j_m5, j_ty, tyX5, ↓j_kt, ↓j_sel, ↓j_run_0, ↓j_run_s, ↓j_wp, ↓j_pi, ↓j_pii, ↓j_pl, ↓j_pll, ↓j_pli, ↓j_pr, ↓j_pri, ↓j_prii, ↓j_pvr, ↓j_pop, ↓j_gi, ↓j_gl, ↓j_ga, ↓j_ob, ↓j_ar, ↓j_fd, ↓j_fo, ↓j_mo, ↓j_br, ↓j_to, ↓j_lo, ↓j_scr, ↓j_co, ↓j_no, j_nf, j_rt, j_ld, j_st1, j_st2, j_k1, j_ci, j_fin, j_sh, j_shl, Option.map_some, Option.map_none, Option.toList_some, Option.toList_none, List.cons_append, List.nil_append, List.map_cons, List.map_nil, List.sum_cons, List.sum_nil, Value.category, List.getElem?_cons_zero, List.getElem?_cons_succ, List.length_cons, List.length_nil, true_and, and_true, if_true, if_false, ↓reduceIte, Bool.false_eq_true, Bool.true_eq_false, reduceCtorEq, Nat.reduceAdd, Nat.reduceLT, Nat.reduceLeDiff, Nat.reduceEqDiff, Nat.reduceBEq, Int.cast_ofNat_Int, Int.reduceAdd, Int.reduceNeg, Int.reduceSub, Int.reduceToNat, Int.reduceLE, Nat.zero_le, false_implies, implies_true, beq_self_eq_true, Bool.and_true, Bool.and_false, Bool.or_false, Bool.false_or, Bool.or_true, Bool.true_or, Bool.and_self, Bool.or_self, Nat.zero_add, Nat.add_zero, or_false, or_true, true_or, false_or, j_b0, ↓j_b1, j_b2, ↓j_b3, j_01, j_inb, and_self, Classical.not_not, Int32.reduceLE, Int32.reduceLT, Int32.reduceAdd, j_ne, eq_self, not_true_eq_false, not_false_eq_true, forall_const, and_false, false_and, j_sc, j_ent, Nat.reduceSub, List.replicate_zero, List.replicate_succ, e1, j_tab, Int.reduceSub, j_ti, Array.toList, List.length]
  refine ⟨fun h => ⟨fun g => ?_, fun g => ?_, fun g => ?_, fun g => ?_, fun g => ?_⟩, fun h => ⟨fun g => ?_, fun g => ?_⟩⟩
  · have e : a_go (μ 23 0, μ 23 1, μ 23 2) c = a_fol (μ 23 0, μ 23 1, μ 23 2) c := by
      unfold a_go
      rw [if_neg h, if_neg (by grind), if_neg (by grind), if_neg (by grind), if_neg (by grind)]
    rw [e]
    refine j_use (f_X5_followsUnit μ c) (by decide) (fun r m hp => ?_)
    obtain ⟨v, rfl, hv⟩ := a_P_r hp
    simp only [qX5_goesOnWith, j_f5, j_m5, j_ty, tyX5, ↓j_kt, ↓j_sel, ↓j_run_0, ↓j_run_s, ↓j_wp, ↓j_pi, ↓j_pii, ↓j_pl, ↓j_pll, ↓j_pli, ↓j_pr, ↓j_pri, ↓j_prii, ↓j_pvr, ↓j_pop, ↓j_gi, ↓j_gl, ↓j_ga, ↓j_ob, ↓j_ar, ↓j_fd, ↓j_fo, ↓j_mo, ↓j_br, ↓j_to, ↓j_lo, ↓j_scr, ↓j_co, ↓j_no, j_nf, j_rt, j_ld, j_st1, j_st2, j_k1, j_ci, j_fin, j_sh, j_shl, Option.map_some, Option.map_none, Option.toList_some, Option.toList_none, List.cons_append, List.nil_append, List.map_cons, List.map_nil, List.sum_cons, List.sum_nil, Value.category, List.getElem?_cons_zero, List.getElem?_cons_succ, List.length_cons, List.length_nil, true_and, and_true, if_true, if_false, ↓reduceIte, Bool.false_eq_true, Bool.true_eq_false, reduceCtorEq, Nat.reduceAdd, Nat.reduceLT, Nat.reduceLeDiff, Nat.reduceEqDiff, Nat.reduceBEq, Int.cast_ofNat_Int, Int.reduceAdd, Int.reduceNeg, Int.reduceSub, Int.reduceToNat, Int.reduceLE, Nat.zero_le, false_implies, implies_true, beq_self_eq_true, Bool.and_true, Bool.and_false, Bool.or_false, Bool.false_or, Bool.or_true, Bool.true_or, Bool.and_self, Bool.or_self, Nat.zero_add, Nat.add_zero, or_false, or_true, true_or, false_or, j_b0, ↓j_b1, j_b2, ↓j_b3, j_01, j_inb, and_self, Classical.not_not, Int32.reduceLE, Int32.reduceLT, Int32.reduceAdd, j_ne, eq_self, not_true_eq_false, not_false_eq_true, forall_const, and_false, false_and, j_sc, j_ent, Nat.reduceSub, List.replicate_zero, List.replicate_succ]
    exact ⟨hv, hp⟩
  · have e : a_go (μ 23 0, μ 23 1, μ 23 2) c = a_beg (μ 23 0, μ 23 1, μ 23 2) c := by
      unfold a_go
      rw [if_neg h, if_pos g]
    rw [e]
    refine j_use (f_X5_beginsUnit μ c) (by decide) (fun r m hp => ?_)
    obtain ⟨v, rfl, hv⟩ := a_P_r hp
    simp only [qX5_goesOnWith, j_f5, j_m5, j_ty, tyX5, ↓j_kt, ↓j_sel, ↓j_run_0, ↓j_run_s, ↓j_wp, ↓j_pi, ↓j_pii, ↓j_pl, ↓j_pll, ↓j_pli, ↓j_pr, ↓j_pri, ↓j_prii, ↓j_pvr, ↓j_pop, ↓j_gi, ↓j_gl, ↓j_ga, ↓j_ob, ↓j_ar, ↓j_fd, ↓j_fo, ↓j_mo, ↓j_br, ↓j_to, ↓j_lo, ↓j_scr, ↓j_co, ↓j_no, j_nf, j_rt, j_ld, j_st1, j_st2, j_k1, j_ci, j_fin, j_sh, j_shl, Option.map_some, Option.map_none, Option.toList_some, Option.toList_none, List.cons_append, List.nil_append, List.map_cons, List.map_nil, List.sum_cons, List.sum_nil, Value.category, List.getElem?_cons_zero, List.getElem?_cons_succ, List.length_cons, List.length_nil, true_and, and_true, if_true, if_false, ↓reduceIte, Bool.false_eq_true, Bool.true_eq_false, reduceCtorEq, Nat.reduceAdd, Nat.reduceLT, Nat.reduceLeDiff, Nat.reduceEqDiff, Nat.reduceBEq, Int.cast_ofNat_Int, Int.reduceAdd, Int.reduceNeg, Int.reduceSub, Int.reduceToNat, Int.reduceLE, Nat.zero_le, false_implies, implies_true, beq_self_eq_true, Bool.and_true, Bool.and_false, Bool.or_false, Bool.false_or, Bool.or_true, Bool.true_or, Bool.and_self, Bool.or_self, Nat.zero_add, Nat.add_zero, or_false, or_true, true_or, false_or, j_b0, ↓j_b1, j_b2, ↓j_b3, j_01, j_inb, and_self, Classical.not_not, Int32.reduceLE, Int32.reduceLT, Int32.reduceAdd, j_ne, eq_self, not_true_eq_false, not_false_eq_true, forall_const, and_false, false_and, j_sc, j_ent, Nat.reduceSub, List.replicate_zero, List.replicate_succ]
    exact ⟨hv, hp⟩
  · have e : a_go (μ 23 0, μ 23 1, μ 23 2) c = (if c = 60 ∨ c = 62 ∨ c = 61 then some (2, μ 23 1, μ 23 2) else none) := by
      unfold a_go
      rw [if_neg h, if_neg (by grind), if_pos g]
    rw [e]
    by_cases k : c = 60 ∨ c = 62 ∨ c = 61
    · rw [if_pos k]
      have hp : a_P μ (some (2, μ 23 1, μ 23 2)) (some 1) (j_up μ 23 0 2) := a_Ps _ rfl (by simp [upd]) (by simp [upd]) (by simp [upd])
      grind
    · rw [if_neg k]
      have hp : a_P μ none (some 0) (j_up μ 23 0 2) := a_Pn _ rfl
      grind
  · have e : a_go (μ 23 0, μ 23 1, μ 23 2) c = (if a_dig c then some (3, μ 23 1, 1) else none) := by
      unfold a_go
      rw [if_neg h, if_neg (by grind), if_neg (by grind), if_pos g]
    rw [e]
    refine j_use1 (f_X5_isDigit _ c) (by decide) ?_
    simp only [qX5_goesOnWith, j_f5, j_m5, j_ty, tyX5, ↓j_kt, ↓j_sel, ↓j_run_0, ↓j_run_s, ↓j_wp, ↓j_pi, ↓j_pii, ↓j_pl, ↓j_pll, ↓j_pli, ↓j_pr, ↓j_pri, ↓j_prii, ↓j_pvr, ↓j_pop, ↓j_gi, ↓j_gl, ↓j_ga, ↓j_ob, ↓j_ar, ↓j_fd, ↓j_fo, ↓j_mo, ↓j_br, ↓j_to, ↓j_lo, ↓j_scr, ↓j_co, ↓j_no, j_nf, j_rt, j_ld, j_st1, j_st2, j_k1, j_ci, j_fin, j_sh, j_shl, Option.map_some, Option.map_none, Option.toList_some, Option.toList_none, List.cons_append, List.nil_append, List.map_cons, List.map_nil, List.sum_cons, List.sum_nil, Value.category, List.getElem?_cons_zero, List.getElem?_cons_succ, List.length_cons, List.length_nil, true_and, and_true, if_true, if_false, ↓reduceIte, Bool.false_eq_true, Bool.true_eq_false, reduceCtorEq, Nat.reduceAdd, Nat.reduceLT, Nat.reduceLeDiff, Nat.reduceEqDiff, Nat.reduceBEq, Int.cast_ofNat_Int, Int.reduceAdd, Int.reduceNeg, Int.reduceSub, Int.reduceToNat, Int.reduceLE, Nat.zero_le, false_implies, implies_true, beq_self_eq_true, Bool.and_true, Bool.and_false, Bool.or_false, Bool.false_or, Bool.or_true, Bool.true_or, Bool.and_self, Bool.or_self, Nat.zero_add, Nat.add_zero, or_false, or_true, true_or, false_or, j_b0, ↓j_b1, j_b2, ↓j_b3, j_01, j_inb, and_self, Classical.not_not, Int32.reduceLE, Int32.reduceLT, Int32.reduceAdd, j_ne, eq_self, not_true_eq_false, not_false_eq_true, forall_const, and_false, false_and, j_sc, j_ent, Nat.reduceSub, List.replicate_zero, List.replicate_succ]
    have e2 : j_up (j_up μ 23 0 3) 23 2 1 = j_row μ 23 (upd (upd (μ 23) 0 3) 2 1) := by
      show j_row _ 23 (upd ((j_up μ 23 0 3) 23) 2 _) = _
      rw [j_us]
      show j_row (j_row μ 23 _) 23 _ = _
      rw [j_row_row]
    by_cases k : a_dig c
    · rw [if_pos k, if_pos k]
      exact a_Ps _ e2 (by simp [upd]) (by simp [upd]) (by simp [upd])
    · rw [if_neg k, if_neg k]
      exact a_Pn _ e2
  · have e : a_go (μ 23 0, μ 23 1, μ 23 2) c = (if a_dig c then (if μ 23 2 + 1 ≤ 5 then some (3, μ 23 1, μ 23 2 + 1) else none) else a_fol (3, μ 23 1, μ 23 2 + 1) c) := by
      unfold a_go
      rw [if_neg h, if_neg (by grind), if_neg (by grind), if_neg (by grind), if_pos g]
    rw [e]
    refine j_use1 (f_X5_isDigit _ c) (by decide) ?_
    simp only [qX5_goesOnWith, j_f5, j_m5, j_ty, tyX5, ↓j_kt, ↓j_sel, ↓j_run_0, ↓j_run_s, ↓j_wp, ↓j_pi, ↓j_pii, ↓j_pl, ↓j_pll, ↓j_pli, ↓j_pr, ↓j_pri, ↓j_prii, ↓j_pvr, ↓j_pop, ↓j_gi, ↓j_gl, ↓j_ga, ↓j_ob, ↓j_ar, ↓j_fd, ↓j_fo, ↓j_mo, ↓j_br, ↓j_to, ↓j_lo, ↓j_scr, ↓j_co, ↓j_no, j_nf, j_rt, j_ld, j_st1, j_st2, j_k1, j_ci, j_fin, j_sh, j_shl, Option.map_some, Option.map_none, Option.toList_some, Option.toList_none, List.cons_append, List.nil_append, List.map_cons, List.map_nil, List.sum_cons, List.sum_nil, Value.category, List.getElem?_cons_zero, List.getElem?_cons_succ, List.length_cons, List.length_nil, true_and, and_true, if_true, if_false, ↓reduceIte, Bool.false_eq_true, Bool.true_eq_false, reduceCtorEq, Nat.reduceAdd, Nat.reduceLT, Nat.reduceLeDiff, Nat.reduceEqDiff, Nat.reduceBEq, Int.cast_ofNat_Int, Int.reduceAdd, Int.reduceNeg, Int.reduceSub, Int.reduceToNat, Int.reduceLE, Nat.zero_le, false_implies, implies_true, beq_self_eq_true, Bool.and_true, Bool.and_false, Bool.or_false, Bool.false_or, Bool.or_true, Bool.true_or, Bool.and_self, Bool.or_self, Nat.zero_add, Nat.add_zero, or_false, or_true, true_or, false_or, j_b0, ↓j_b1, j_b2, ↓j_b3, j_01, j_inb, and_self, Classical.not_not, Int32.reduceLE, Int32.reduceLT, Int32.reduceAdd, j_ne, eq_self, not_true_eq_false, not_false_eq_true, forall_const, and_false, false_and, j_sc, j_ent, Nat.reduceSub, List.replicate_zero, List.replicate_succ, e1]
    refine ⟨fun k => ?_, fun k => ?_⟩
    · rw [if_neg k]
      refine j_use (f_X5_followsUnit _ c) (by decide) (fun r m hp => ?_)
      obtain ⟨v, rfl, hv⟩ := a_P_r hp
      simp only [qX5_goesOnWith, j_f5, j_m5, j_ty, tyX5, ↓j_kt, ↓j_sel, ↓j_run_0, ↓j_run_s, ↓j_wp, ↓j_pi, ↓j_pii, ↓j_pl, ↓j_pll, ↓j_pli, ↓j_pr, ↓j_pri, ↓j_prii, ↓j_pvr, ↓j_pop, ↓j_gi, ↓j_gl, ↓j_ga, ↓j_ob, ↓j_ar, ↓j_fd, ↓j_fo, ↓j_mo, ↓j_br, ↓j_to, ↓j_lo, ↓j_scr, ↓j_co, ↓j_no, j_nf, j_rt, j_ld, j_st1, j_st2, j_k1, j_ci, j_fin, j_sh, j_shl, Option.map_some, Option.map_none, Option.toList_some, Option.toList_none, List.cons_append, List.nil_append, List.map_cons, List.map_nil, List.sum_cons, List.sum_nil, Value.category, List.getElem?_cons_zero, List.getElem?_cons_succ, List.length_cons, List.length_nil, true_and, and_true, if_true, if_false, ↓reduceIte, Bool.false_eq_true, Bool.true_eq_false, reduceCtorEq, Nat.reduceAdd, Nat.reduceLT, Nat.reduceLeDiff, Nat.reduceEqDiff, Nat.reduceBEq, Int.cast_ofNat_Int, Int.reduceAdd, Int.reduceNeg, Int.reduceSub, Int.reduceToNat, Int.reduceLE, Nat.zero_le, false_implies, implies_true, beq_self_eq_true, Bool.and_true, Bool.and_false, Bool.or_false, Bool.false_or, Bool.or_true, Bool.true_or, Bool.and_self, Bool.or_self, Nat.zero_add, Nat.add_zero, or_false, or_true, true_or, false_or, j_b0, ↓j_b1, j_b2, ↓j_b3, j_01, j_inb, and_self, Classical.not_not, Int32.reduceLE, Int32.reduceLT, Int32.reduceAdd, j_ne, eq_self, not_true_eq_false, not_false_eq_true, forall_const, and_false, false_and, j_sc, j_ent, Nat.reduceSub, List.replicate_zero, List.replicate_succ]
      refine ⟨hv, ?_⟩
      have e3 : ((j_up μ 23 2 (μ 23 2 + 1)) 23 0, (j_up μ 23 2 (μ 23 2 + 1)) 23 1, (j_up μ 23 2 (μ 23 2 + 1)) 23 2) = ((3 : Int32), μ 23 1, μ 23 2 + 1) := by
        rw [j_us, u_s, u_n _ _ (by decide), u_n _ _ (by decide), g]
      rw [e3] at hp
      exact a_P_mv hp rfl
    · rw [if_pos k]
      refine ⟨fun k2 => ?_, fun k2 => ?_⟩
      · rw [if_neg (by grind)]
        exact a_Pn _ rfl
      · rw [if_pos k2]
        exact a_Ps _ rfl (by simp [upd]; exact g) (by simp [upd]) (by simp [upd])
  · have e : a_go (μ 23 0, μ 23 1, μ 23 2) c = some (μ 23 0, μ 23 1, μ 23 2) := by
      unfold a_go
      rw [if_pos h, if_neg g]
    rw [e]
    exact a_Ps _ rfl (by simp [upd]) (by simp [upd]) (by simp [upd])
  · have e : a_go (μ 23 0, μ 23 1, μ 23 2) c = some (4, μ 23 1, μ 23 2) := by
      unfold a_go
      rw [if_pos h, if_pos g]
    rw [e]
    exact a_Ps _ rfl (by simp [upd]) (by simp [upd]) (by simp [upd])
/-- the reading behind i signs -/
def a_au (t : Nat → Int32) : Nat → Option a_St
  | 0 => some (0, 0, 0)
  | i + 1 => match a_au t i with
    | some s => a_go s (t i)
    | none => none
/-- v is the fault of the first n signs of t -/
def a_F (t : Nat → Int32) (n : Nat) (v : Int32) : Prop := (∃ i s, i < n ∧ a_au t i = some s ∧ a_go s (t i) = none ∧ v = nI i) ∨ (∃ s, a_au t n = some s ∧ v = if s.2.1 = 0 ∧ (s.1 = 3 ∨ s.1 = 4) then -1 else nI n)
theorem a_go_in {s s' : a_St} {c : Int32} (h : a_go s c = some s') (h0 : 0 ≤ s.1) (h4 : s.1 ≤ 4) : 0 ≤ s'.1 ∧ s'.1 ≤ 4 := by
  unfold a_go a_beg a_fol at h
  grind
theorem a_au_in {t : Nat → Int32} : ∀ {i : Nat} {s : a_St}, a_au t i = some s → 0 ≤ s.1 ∧ s.1 ≤ 4
  | 0, s, h => by
    cases h
    decide
  | i + 1, s, h => by
    unfold a_au at h
    cases h1 : a_au t i with
    | none => rw [h1] at h; cases h
    | some s1 =>
      rw [h1] at h
      have := a_au_in h1
      exact a_go_in h this.1 this.2
set_option maxRecDepth 100000 in
theorem l_X5_firstFault {μ : j_M} {n : Nat} {Q : j_Q} (hn : n ≤ 120) (hQ : ∀ v f, a_F (μ 22) n v → Q (some v) j_SH (j_row μ 23 f)) : ∀ (k i : Nat) (f : Nat → Int32), i + k = n → a_au (μ 22) i = some (f 0, f 1, f 2) → j_J cX5_firstFault 5 4 (some .int) false 3 none Q j_SH 0 0 17 [some (.ref 23), some (.ref 22), some (.int (nI n)), some (.int (nI i))] [] (j_row μ 23 f) := by
  intro k
  induction k with
  | zero =>
    intro i f hi hf
    refine j_go (fun q => q == 17) 30 ?_
    simp only [qX5_firstFault, j_f5, j_m5, j_ty, tyX5, ↓j_kt, ↓j_sel, ↓j_run_0, ↓j_run_s, ↓j_wp, ↓j_pi, ↓j_pii, ↓j_pl, ↓j_pll, ↓j_pli, ↓j_pr, ↓j_pri, ↓j_prii, ↓j_pvr, ↓j_pop, ↓j_gi, ↓j_gl, ↓j_ga, ↓j_ob, ↓j_ar, ↓j_fd, ↓j_fo, ↓j_mo, ↓j_br, ↓j_to, ↓j_lo, ↓j_scr, ↓j_co, ↓j_no, j_nf, j_rt, j_ld, j_st1, j_st2, j_k1, j_ci, j_fin, j_sh, j_shl, Option.map_some, Option.map_none, Option.toList_some, Option.toList_none, List.cons_append, List.nil_append, List.map_cons, List.map_nil, List.sum_cons, List.sum_nil, Value.category, List.getElem?_cons_zero, List.getElem?_cons_succ, List.length_cons, List.length_nil, true_and, and_true, if_true, if_false, ↓reduceIte, Bool.false_eq_true, Bool.true_eq_false, reduceCtorEq, Nat.reduceAdd, Nat.reduceLT, Nat.reduceLeDiff, Nat.reduceEqDiff, Nat.reduceBEq, Int.cast_ofNat_Int, Int.reduceAdd, Int.reduceNeg, Int.reduceSub, Int.reduceToNat, Int.reduceLE, Nat.zero_le, false_implies, implies_true, beq_self_eq_true, Bool.and_true, Bool.and_false, Bool.or_false, Bool.false_or, Bool.or_true, Bool.true_or, Bool.and_self, Bool.or_self, Nat.zero_add, Nat.add_zero, or_false, or_true, true_or, false_or, j_b0, ↓j_b1, j_b2, ↓j_b3, j_01, j_inb, and_self, Classical.not_not, Int32.reduceLE, Int32.reduceLT, Int32.reduceAdd, j_ne, eq_self, not_true_eq_false, not_false_eq_true, forall_const, and_false, false_and, j_sc, j_ent, Nat.reduceSub, List.replicate_zero, List.replicate_succ, nI_lt' (show i < 1000000 by omega) (show n < 1000000 by omega), nI_le' (show n < 1000000 by omega) (show i < 1000000 by omega)]
    refine ⟨fun _ => ?_, fun h => by omega⟩
    have hw := f_X5_isWhole (j_row μ 23 f)
    rw [j_rs] at hw
    refine j_use1 hw (by decide) ?_
    simp only [qX5_firstFault, j_f5, j_m5, j_ty, tyX5, ↓j_kt, ↓j_sel, ↓j_run_0, ↓j_run_s, ↓j_wp, ↓j_pi, ↓j_pii, ↓j_pl, ↓j_pll, ↓j_pli, ↓j_pr, ↓j_pri, ↓j_prii, ↓j_pvr, ↓j_pop, ↓j_gi, ↓j_gl, ↓j_ga, ↓j_ob, ↓j_ar, ↓j_fd, ↓j_fo, ↓j_mo, ↓j_br, ↓j_to, ↓j_lo, ↓j_scr, ↓j_co, ↓j_no, j_nf, j_rt, j_ld, j_st1, j_st2, j_k1, j_ci, j_fin, j_sh, j_shl, Option.map_some, Option.map_none, Option.toList_some, Option.toList_none, List.cons_append, List.nil_append, List.map_cons, List.map_nil, List.sum_cons, List.sum_nil, Value.category, List.getElem?_cons_zero, List.getElem?_cons_succ, List.length_cons, List.length_nil, true_and, and_true, if_true, if_false, ↓reduceIte, Bool.false_eq_true, Bool.true_eq_false, reduceCtorEq, Nat.reduceAdd, Nat.reduceLT, Nat.reduceLeDiff, Nat.reduceEqDiff, Nat.reduceBEq, Int.cast_ofNat_Int, Int.reduceAdd, Int.reduceNeg, Int.reduceSub, Int.reduceToNat, Int.reduceLE, Nat.zero_le, false_implies, implies_true, beq_self_eq_true, Bool.and_true, Bool.and_false, Bool.or_false, Bool.false_or, Bool.or_true, Bool.true_or, Bool.and_self, Bool.or_self, Nat.zero_add, Nat.add_zero, or_false, or_true, true_or, false_or, j_b0, ↓j_b1, j_b2, ↓j_b3, j_01, j_inb, and_self, Classical.not_not, Int32.reduceLE, Int32.reduceLT, Int32.reduceAdd, j_ne, eq_self, not_true_eq_false, not_false_eq_true, forall_const, and_false, false_and, j_sc, j_ent, Nat.reduceSub, List.replicate_zero, List.replicate_succ]
    have e : i = n := by omega
    rw [e] at hf
    refine ⟨fun g => ?_, fun g => ?_⟩
    · exact hQ _ _ (Or.inr ⟨_, hf, by rw [if_neg g]⟩)
    · exact hQ _ _ (Or.inr ⟨_, hf, by rw [if_pos g]⟩)
  | succ k ih =>
    intro i f hi hf
    refine j_go (fun q => q == 17) 30 ?_
    have h120 : nI i < nI 120 := (nI_lt' (by omega) (by omega)).mpr (by omega)
    simp only [qX5_firstFault, j_f5, j_m5, j_ty, tyX5, ↓j_kt, ↓j_sel, ↓j_run_0, ↓j_run_s, ↓j_wp, ↓j_pi, ↓j_pii, ↓j_pl, ↓j_pll, ↓j_pli, ↓j_pr, ↓j_pri, ↓j_prii, ↓j_pvr, ↓j_pop, ↓j_gi, ↓j_gl, ↓j_ga, ↓j_ob, ↓j_ar, ↓j_fd, ↓j_fo, ↓j_mo, ↓j_br, ↓j_to, ↓j_lo, ↓j_scr, ↓j_co, ↓j_no, j_nf, j_rt, j_ld, j_st1, j_st2, j_k1, j_ci, j_fin, j_sh, j_shl, Option.map_some, Option.map_none, Option.toList_some, Option.toList_none, List.cons_append, List.nil_append, List.map_cons, List.map_nil, List.sum_cons, List.sum_nil, Value.category, List.getElem?_cons_zero, List.getElem?_cons_succ, List.length_cons, List.length_nil, true_and, and_true, if_true, if_false, ↓reduceIte, Bool.false_eq_true, Bool.true_eq_false, reduceCtorEq, Nat.reduceAdd, Nat.reduceLT, Nat.reduceLeDiff, Nat.reduceEqDiff, Nat.reduceBEq, Int.cast_ofNat_Int, Int.reduceAdd, Int.reduceNeg, Int.reduceSub, Int.reduceToNat, Int.reduceLE, Nat.zero_le, false_implies, implies_true, beq_self_eq_true, Bool.and_true, Bool.and_false, Bool.or_false, Bool.false_or, Bool.or_true, Bool.true_or, Bool.and_self, Bool.or_self, Nat.zero_add, Nat.add_zero, or_false, or_true, true_or, false_or, j_b0, ↓j_b1, j_b2, ↓j_b3, j_01, j_inb, and_self, Classical.not_not, Int32.reduceLE, Int32.reduceLT, Int32.reduceAdd, j_ne, eq_self, not_true_eq_false, not_false_eq_true, forall_const, and_false, false_and, j_sc, j_ent, Nat.reduceSub, List.replicate_zero, List.replicate_succ, nI_lt' (show i < 1000000 by omega) (show n < 1000000 by omega), nI_le' (show n < 1000000 by omega) (show i < 1000000 by omega), nI_cl' (show i < 1000000 by omega), j_rn', ne_eq]
    refine ⟨fun h => by omega, fun h => ⟨fun g => by grind, fun _ => ⟨n120 (by omega), ?_⟩⟩⟩
    have hin := a_au_in hf
    have hgo := f_X5_goesOnWith (j_row μ 23 f) (μ 22 i) (by rw [j_rs]; exact hin.1) (by rw [j_rs]; exact hin.2)
    refine j_use hgo (by decide) (fun r m hp => ?_)
    rw [j_rs] at hp
    obtain ⟨f2, rfl, h2⟩ := hp
    rw [j_row_row]
    cases hs : a_go (f 0, f 1, f 2) (μ 22 i) with
    | none =>
      rw [hs] at h2
      dsimp only at h2
      subst h2
      simp only [qX5_firstFault, j_f5, j_m5, j_ty, tyX5, ↓j_kt, ↓j_sel, ↓j_run_0, ↓j_run_s, ↓j_wp, ↓j_pi, ↓j_pii, ↓j_pl, ↓j_pll, ↓j_pli, ↓j_pr, ↓j_pri, ↓j_prii, ↓j_pvr, ↓j_pop, ↓j_gi, ↓j_gl, ↓j_ga, ↓j_ob, ↓j_ar, ↓j_fd, ↓j_fo, ↓j_mo, ↓j_br, ↓j_to, ↓j_lo, ↓j_scr, ↓j_co, ↓j_no, j_nf, j_rt, j_ld, j_st1, j_st2, j_k1, j_ci, j_fin, j_sh, j_shl, Option.map_some, Option.map_none, Option.toList_some, Option.toList_none, List.cons_append, List.nil_append, List.map_cons, List.map_nil, List.sum_cons, List.sum_nil, Value.category, List.getElem?_cons_zero, List.getElem?_cons_succ, List.length_cons, List.length_nil, true_and, and_true, if_true, if_false, ↓reduceIte, Bool.false_eq_true, Bool.true_eq_false, reduceCtorEq, Nat.reduceAdd, Nat.reduceLT, Nat.reduceLeDiff, Nat.reduceEqDiff, Nat.reduceBEq, Int.cast_ofNat_Int, Int.reduceAdd, Int.reduceNeg, Int.reduceSub, Int.reduceToNat, Int.reduceLE, Nat.zero_le, false_implies, implies_true, beq_self_eq_true, Bool.and_true, Bool.and_false, Bool.or_false, Bool.false_or, Bool.or_true, Bool.true_or, Bool.and_self, Bool.or_self, Nat.zero_add, Nat.add_zero, or_false, or_true, true_or, false_or, j_b0, ↓j_b1, j_b2, ↓j_b3, j_01, j_inb, and_self, Classical.not_not, Int32.reduceLE, Int32.reduceLT, Int32.reduceAdd, j_ne, eq_self, not_true_eq_false, not_false_eq_true, forall_const, and_false, false_and, j_sc, j_ent, Nat.reduceSub, List.replicate_zero, List.replicate_succ, nI_1]
      exact hQ _ _ (Or.inl ⟨i, _, h, hf, hs, rfl⟩)
    | some s =>
      rw [hs] at h2
      obtain ⟨rfl, e0, e1, e2⟩ := h2
      simp only [qX5_firstFault, j_f5, j_m5, j_ty, tyX5, ↓j_kt, ↓j_sel, ↓j_run_0, ↓j_run_s, ↓j_wp, ↓j_pi, ↓j_pii, ↓j_pl, ↓j_pll, ↓j_pli, ↓j_pr, ↓j_pri, ↓j_prii, ↓j_pvr, ↓j_pop, ↓j_gi, ↓j_gl, ↓j_ga, ↓j_ob, ↓j_ar, ↓j_fd, ↓j_fo, ↓j_mo, ↓j_br, ↓j_to, ↓j_lo, ↓j_scr, ↓j_co, ↓j_no, j_nf, j_rt, j_ld, j_st1, j_st2, j_k1, j_ci, j_fin, j_sh, j_shl, Option.map_some, Option.map_none, Option.toList_some, Option.toList_none, List.cons_append, List.nil_append, List.map_cons, List.map_nil, List.sum_cons, List.sum_nil, Value.category, List.getElem?_cons_zero, List.getElem?_cons_succ, List.length_cons, List.length_nil, true_and, and_true, if_true, if_false, ↓reduceIte, Bool.false_eq_true, Bool.true_eq_false, reduceCtorEq, Nat.reduceAdd, Nat.reduceLT, Nat.reduceLeDiff, Nat.reduceEqDiff, Nat.reduceBEq, Int.cast_ofNat_Int, Int.reduceAdd, Int.reduceNeg, Int.reduceSub, Int.reduceToNat, Int.reduceLE, Nat.zero_le, false_implies, implies_true, beq_self_eq_true, Bool.and_true, Bool.and_false, Bool.or_false, Bool.false_or, Bool.or_true, Bool.true_or, Bool.and_self, Bool.or_self, Nat.zero_add, Nat.add_zero, or_false, or_true, true_or, false_or, j_b0, ↓j_b1, j_b2, ↓j_b3, j_01, j_inb, and_self, Classical.not_not, Int32.reduceLE, Int32.reduceLT, Int32.reduceAdd, j_ne, eq_self, not_true_eq_false, not_false_eq_true, forall_const, and_false, false_and, j_sc, j_ent, Nat.reduceSub, List.replicate_zero, List.replicate_succ, nI_1]
      refine ih (i + 1) f2 (by omega) ?_
      unfold a_au
      rw [hf]
      dsimp only
      rw [hs, e0, e1, e2]
set_option maxRecDepth 100000 in
theorem f_X5_firstFault (μ : j_M) {n : Nat} (hn : n ≤ 120) : j_R 3 yX5_firstFault [.ref 23, .ref 22, .int (nI n)] μ (fun r m => ∃ v f, r = some v ∧ a_F (μ 22) n v ∧ m = j_row μ 23 f) := by
  refine eX5_firstFault (Nat.le_of_ble_eq_true rfl) (j_go (fun q => q == 17) 30 ?_)
  simp only [qX5_firstFault, j_f5, j_m5, j_ty, tyX5, ↓j_kt, ↓j_sel, ↓j_run_0, ↓j_run_s, ↓j_wp, ↓j_pi, ↓j_pii, ↓j_pl, ↓j_pll, ↓j_pli, ↓j_pr, ↓j_pri, ↓j_prii, ↓j_pvr, ↓j_pop, ↓j_gi, ↓j_gl, ↓j_ga, ↓j_ob, ↓j_ar, ↓j_fd, ↓j_fo, ↓j_mo, ↓j_br, ↓j_to, ↓j_lo, ↓j_scr, ↓j_co, ↓j_no, j_nf, j_rt, j_ld, j_st1, j_st2, j_k1, j_ci, j_fin, j_sh, j_shl, Option.map_some, Option.map_none, Option.toList_some, Option.toList_none, List.cons_append, List.nil_append, List.map_cons, List.map_nil, List.sum_cons, List.sum_nil, Value.category, List.getElem?_cons_zero, List.getElem?_cons_succ, List.length_cons, List.length_nil, true_and, and_true, if_true, if_false, ↓reduceIte, Bool.false_eq_true, Bool.true_eq_false, reduceCtorEq, Nat.reduceAdd, Nat.reduceLT, Nat.reduceLeDiff, Nat.reduceEqDiff, Nat.reduceBEq, Int.cast_ofNat_Int, Int.reduceAdd, Int.reduceNeg, Int.reduceSub, Int.reduceToNat, Int.reduceLE, Nat.zero_le, false_implies, implies_true, beq_self_eq_true, Bool.and_true, Bool.and_false, Bool.or_false, Bool.false_or, Bool.or_true, Bool.true_or, Bool.and_self, Bool.or_self, Nat.zero_add, Nat.add_zero, or_false, or_true, true_or, false_or, j_b0, ↓j_b1, j_b2, ↓j_b3, j_01, j_inb, and_self, Classical.not_not, Int32.reduceLE, Int32.reduceLT, Int32.reduceAdd, j_ne, eq_self, not_true_eq_false, not_false_eq_true, forall_const, and_false, false_and, j_sc, j_ent, Nat.reduceSub, List.replicate_zero, List.replicate_succ]
  have e : j_up (j_up (j_up μ 23 0 0) 23 1 0) 23 2 0 = j_row μ 23 (upd (upd (upd (μ 23) 0 0) 1 0) 2 0) := by
    funext b
    by_cases h : b = 23
    · subst h; simp [j_up, j_row]
    · simp [j_up, j_row, h]
  rw [e]
  refine l_X5_firstFault hn (fun v f hv => ⟨rfl, v, f, rfl, hv, rfl⟩) n 0 _ (by omega) ?_
  simp [a_au, upd]
