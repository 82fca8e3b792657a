/-! Draft -/
/-- a byte of an int -/
def k_by (b s : Int32) : Int32 := (b.toUInt32 >>> (s.toUInt32 &&& Int32.toUInt32 31)).toInt32 &&& 255
theorem k_by_in (b s : Int32) : 0 ≤ k_by b s ∧ k_by b s ≤ 255 := by
  obtain ⟨j, hj, e⟩ := pk_andE ((b.toUInt32 >>> (s.toUInt32 &&& Int32.toUInt32 31)).toInt32) (m := 255) 8 (by decide)
  have hj' : j < 256 := by simpa using hj
  unfold k_by
  rw [e]
  refine ⟨nI_ge0 (by omega), ?_⟩
  exact (nI_le' (b := 255) (by omega) (by omega)).mpr (by omega)
set_option maxRecDepth 100000 in
theorem f_X0_byteOf (μ : j_M) (b s : Int32) : j_R 0 yX0_byteOf [.int b, .int s] μ (fun r m => r = some (k_by b s) ∧ m = μ) := by
  refine eX0_byteOf (Nat.le_of_ble_eq_true rfl) (j_go (fun _ => false) 20 ?_)
  simp only [qX0_byteOf, j_f0, j_m0, j_ty, tyX0, ↓j_kt, ↓j_sel, ↓j_run_0, ↓j_run_s, ↓j_wp, ↓j_pi, ↓j_pii, ↓j_pl, ↓j_pll, ↓j_pli, ↓j_pr, ↓j_pri, ↓j_prii, ↓j_pvr, ↓j_pop, ↓j_gi, ↓j_gl, ↓j_ga, ↓j_ob, ↓j_ar, ↓j_fd, ↓j_fo, ↓j_mo, ↓j_br, ↓j_to, ↓j_lo, ↓j_scr, ↓j_co, ↓j_no, j_nf, j_rt, j_ld, j_st1, j_st2, j_k1, j_ci, j_fin, j_sh, j_shl, Option.map_some, Option.map_none, Option.toList_some, Option.toList_none, List.cons_append, List.nil_append, List.map_cons, List.map_nil, List.sum_cons, List.sum_nil, Value.category, List.getElem?_cons_zero, List.getElem?_cons_succ, List.length_cons, List.length_nil, true_and, and_true, if_true, if_false, ↓reduceIte, Bool.false_eq_true, Bool.true_eq_false, reduceCtorEq, Nat.reduceAdd, Nat.reduceLT, Nat.reduceLeDiff, Nat.reduceEqDiff, Nat.reduceBEq, Int.cast_ofNat_Int, Int.reduceAdd, Int.reduceNeg, Int.reduceSub, Int.reduceToNat, Int.reduceLE, Nat.zero_le, false_implies, implies_true, beq_self_eq_true, Bool.and_true, Bool.and_false, Bool.or_false, Bool.false_or, Bool.or_true, Bool.true_or, Bool.and_self, Bool.or_self, Nat.zero_add, Nat.add_zero, or_false, or_true, true_or, false_or, j_b0, j_b1, j_b2, j_b3, j_01, j_inb, and_self, Classical.not_not, Int32.reduceLE, Int32.reduceLT, Int32.reduceAdd, j_ne, eq_self, not_true_eq_false, not_false_eq_true, forall_const, and_false, false_and, j_sc, j_ent, Nat.reduceSub, List.replicate_zero, List.replicate_succ]
  exact rfl
set_option maxRecDepth 100000 in
theorem l_X0_hasRoomFor {μ : j_M} {b c s s' : Int32} {Q : j_Q} (hs : 0 ≤ s) (e : s + -8 = s') (h : j_J cX0_hasRoomFor 0 4 (some .boolean) false 1 none Q j_SH 0 0 5 [some (.ref 21), some (.int b), some (.int (if k_by b s = 0 then c else c + 1)), some (.int s')] [] μ) : j_J cX0_hasRoomFor 0 4 (some .boolean) false 1 none Q j_SH 0 0 5 [some (.ref 21), some (.int b), some (.int c), some (.int s)] [] μ := by
  refine j_go (fun q => q == 5) 30 ?_
  simp only [qX0_hasRoomFor, j_f0, j_m0, j_ty, tyX0, ↓j_kt, ↓j_sel, ↓j_run_0, ↓j_run_s, ↓j_wp, ↓j_pi, ↓j_pii, ↓j_pl, ↓j_pll, ↓j_pli, ↓j_pr, ↓j_pri, ↓j_prii, ↓j_pvr, ↓j_pop, ↓j_gi, ↓j_gl, ↓j_ga, ↓j_ob, ↓j_ar, ↓j_fd, ↓j_fo, ↓j_mo, ↓j_br, ↓j_to, ↓j_lo, ↓j_scr, ↓j_co, ↓j_no, j_nf, j_rt, j_ld, j_st1, j_st2, j_k1, j_ci, j_fin, j_sh, j_shl, Option.map_some, Option.map_none, Option.toList_some, Option.toList_none, List.cons_append, List.nil_append, List.map_cons, List.map_nil, List.sum_cons, List.sum_nil, Value.category, List.getElem?_cons_zero, List.getElem?_cons_succ, List.length_cons, List.length_nil, true_and, and_true, if_true, if_false, ↓reduceIte, Bool.false_eq_true, Bool.true_eq_false, reduceCtorEq, Nat.reduceAdd, Nat.reduceLT, Nat.reduceLeDiff, Nat.reduceEqDiff, Nat.reduceBEq, Int.cast_ofNat_Int, Int.reduceAdd, Int.reduceNeg, Int.reduceSub, Int.reduceToNat, Int.reduceLE, Nat.zero_le, false_implies, implies_true, beq_self_eq_true, Bool.and_true, Bool.and_false, Bool.or_false, Bool.false_or, Bool.or_true, Bool.true_or, Bool.and_self, Bool.or_self, Nat.zero_add, Nat.add_zero, or_false, or_true, true_or, false_or, j_b0, j_b1, j_b2, j_b3, j_01, j_inb, and_self, Classical.not_not, Int32.reduceLE, Int32.reduceLT, Int32.reduceAdd, j_ne, eq_self, not_true_eq_false, not_false_eq_true, forall_const, and_false, false_and, j_sc, j_ent, Nat.reduceSub, List.replicate_zero, List.replicate_succ]
  refine ⟨fun g => by grind, fun g => ?_⟩
  refine j_use1 (f_X0_byteOf μ b s) (by decide) ?_
  simp only [qX0_hasRoomFor, j_f0, j_m0, j_ty, tyX0, ↓j_kt, ↓j_sel, ↓j_run_0, ↓j_run_s, ↓j_wp, ↓j_pi, ↓j_pii, ↓j_pl, ↓j_pll, ↓j_pli, ↓j_pr, ↓j_pri, ↓j_prii, ↓j_pvr, ↓j_pop, ↓j_gi, ↓j_gl, ↓j_ga, ↓j_ob, ↓j_ar, ↓j_fd, ↓j_fo, ↓j_mo, ↓j_br, ↓j_to, ↓j_lo, ↓j_scr, ↓j_co, ↓j_no, j_nf, j_rt, j_ld, j_st1, j_st2, j_k1, j_ci, j_fin, j_sh, j_shl, Option.map_some, Option.map_none, Option.toList_some, Option.toList_none, List.cons_append, List.nil_append, List.map_cons, List.map_nil, List.sum_cons, List.sum_nil, Value.category, List.getElem?_cons_zero, List.getElem?_cons_succ, List.length_cons, List.length_nil, true_and, and_true, if_true, if_false, ↓reduceIte, Bool.false_eq_true, Bool.true_eq_false, reduceCtorEq, Nat.reduceAdd, Nat.reduceLT, Nat.reduceLeDiff, Nat.reduceEqDiff, Nat.reduceBEq, Int.cast_ofNat_Int, Int.reduceAdd, Int.reduceNeg, Int.reduceSub, Int.reduceToNat, Int.reduceLE, Nat.zero_le, false_implies, implies_true, beq_self_eq_true, Bool.and_true, Bool.and_false, Bool.or_false, Bool.false_or, Bool.or_true, Bool.true_or, Bool.and_self, Bool.or_self, Nat.zero_add, Nat.add_zero, or_false, or_true, true_or, false_or, j_b0, j_b1, j_b2, j_b3, j_01, j_inb, and_self, Classical.not_not, Int32.reduceLE, Int32.reduceLT, Int32.reduceAdd, j_ne, eq_self, not_true_eq_false, not_false_eq_true, forall_const, and_false, false_and, j_sc, j_ent, Nat.reduceSub, List.replicate_zero, List.replicate_succ, e]
  refine ⟨fun g => ?_, fun g => ?_⟩
  · rw [if_pos g] at h
    exact h
  · rw [if_neg g] at h
    exact h
/-- how many bytes of b aren't 0 -/
def k_nz (b : Int32) : Int32 :=
  let c1 : Int32 := if k_by b 24 = 0 then 0 else 1
  let c2 : Int32 := if k_by b 16 = 0 then c1 else c1 + 1
  let c3 : Int32 := if k_by b 8 = 0 then c2 else c2 + 1
  if k_by b 0 = 0 then c3 else c3 + 1
set_option maxRecDepth 100000 in
theorem f_X0_hasRoomFor (μ : j_M) (b : Int32) : j_R 1 yX0_hasRoomFor [.ref 21, .int b] μ (fun r m => r = some (if μ 21 1 + k_nz b ≤ 120 then 1 else 0) ∧ m = μ) := by
  refine eX0_hasRoomFor (Nat.le_of_ble_eq_true rfl) (j_go (fun q => q == 5) 20 ?_)
  simp only [qX0_hasRoomFor, j_f0, j_m0, j_ty, tyX0, ↓j_kt, ↓j_sel, ↓j_run_0, ↓j_run_s, ↓j_wp, ↓j_pi, ↓j_pii, ↓j_pl, ↓j_pll, ↓j_pli, ↓j_pr, ↓j_pri, ↓j_prii, ↓j_pvr, ↓j_pop, ↓j_gi, ↓j_gl, ↓j_ga, ↓j_ob, ↓j_ar, ↓j_fd, ↓j_fo, ↓j_mo, ↓j_br, ↓j_to, ↓j_lo, ↓j_scr, ↓j_co, ↓j_no, j_nf, j_rt, j_ld, j_st1, j_st2, j_k1, j_ci, j_fin, j_sh, j_shl, Option.map_some, Option.map_none, Option.toList_some, Option.toList_none, List.cons_append, List.nil_append, List.map_cons, List.map_nil, List.sum_cons, List.sum_nil, Value.category, List.getElem?_cons_zero, List.getElem?_cons_succ, List.length_cons, List.length_nil, true_and, and_true, if_true, if_false, ↓reduceIte, Bool.false_eq_true, Bool.true_eq_false, reduceCtorEq, Nat.reduceAdd, Nat.reduceLT, Nat.reduceLeDiff, Nat.reduceEqDiff, Nat.reduceBEq, Int.cast_ofNat_Int, Int.reduceAdd, Int.reduceNeg, Int.reduceSub, Int.reduceToNat, Int.reduceLE, Nat.zero_le, false_implies, implies_true, beq_self_eq_true, Bool.and_true, Bool.and_false, Bool.or_false, Bool.false_or, Bool.or_true, Bool.true_or, Bool.and_self, Bool.or_self, Nat.zero_add, Nat.add_zero, or_false, or_true, true_or, false_or, j_b0, j_b1, j_b2, j_b3, j_01, j_inb, and_self, Classical.not_not, Int32.reduceLE, Int32.reduceLT, Int32.reduceAdd, j_ne, eq_self, not_true_eq_false, not_false_eq_true, forall_const, and_false, false_and, j_sc, j_ent, Nat.reduceSub, List.replicate_zero, List.replicate_succ]
  refine l_X0_hasRoomFor (s' := 16) (by decide) (by decide) ?_
  refine l_X0_hasRoomFor (s' := 8) (by decide) (by decide) ?_
  refine l_X0_hasRoomFor (s' := 0) (by decide) (by decide) ?_
  refine l_X0_hasRoomFor (s' := -8) (by decide) (by decide) ?_
  refine j_go (fun q => q == 5) 30 ?_
  simp only [qX0_hasRoomFor, j_f0, j_m0, j_ty, tyX0, ↓j_kt, ↓j_sel, ↓j_run_0, ↓j_run_s, ↓j_wp, ↓j_pi, ↓j_pii, ↓j_pl, ↓j_pll, ↓j_pli, ↓j_pr, ↓j_pri, ↓j_prii, ↓j_pvr, ↓j_pop, ↓j_gi, ↓j_gl, ↓j_ga, ↓j_ob, ↓j_ar, ↓j_fd, ↓j_fo, ↓j_mo, ↓j_br, ↓j_to, ↓j_lo, ↓j_scr, ↓j_co, ↓j_no, j_nf, j_rt, j_ld, j_st1, j_st2, j_k1, j_ci, j_fin, j_sh, j_shl, Option.map_some, Option.map_none, Option.toList_some, Option.toList_none, List.cons_append, List.nil_append, List.map_cons, List.map_nil, List.sum_cons, List.sum_nil, Value.category, List.getElem?_cons_zero, List.getElem?_cons_succ, List.length_cons, List.length_nil, true_and, and_true, if_true, if_false, ↓reduceIte, Bool.false_eq_true, Bool.true_eq_false, reduceCtorEq, Nat.reduceAdd, Nat.reduceLT, Nat.reduceLeDiff, Nat.reduceEqDiff, Nat.reduceBEq, Int.cast_ofNat_Int, Int.reduceAdd, Int.reduceNeg, Int.reduceSub, Int.reduceToNat, Int.reduceLE, Nat.zero_le, false_implies, implies_true, beq_self_eq_true, Bool.and_true, Bool.and_false, Bool.or_false, Bool.false_or, Bool.or_true, Bool.true_or, Bool.and_self, Bool.or_self, Nat.zero_add, Nat.add_zero, or_false, or_true, true_or, false_or, j_b0, j_b1, j_b2, j_b3, j_01, j_inb, and_self, Classical.not_not, Int32.reduceLE, Int32.reduceLT, Int32.reduceAdd, j_ne, eq_self, not_true_eq_false, not_false_eq_true, forall_const, and_false, false_and, j_sc, j_ent, Nat.reduceSub, List.replicate_zero, List.replicate_succ]
  show (120 < μ 21 1 + k_nz b → _) ∧ (μ 21 1 + k_nz b ≤ 120 → _)
  grind
/-- one sign put behind the text -/
def k_put (μ : j_M) (c : Int32) : j_M := if c = 0 then μ else if μ 21 1 < 120 then j_up (j_up μ 22 (μ 21 1).toNatClampNeg c) 21 1 (μ 21 1 + 1) else μ
theorem k_char {x : Int32} (h0 : 0 ≤ x) (h1 : x ≤ 255) : vp_nar .char (x.toUInt32 % 65536).toInt32 = x := by
  obtain ⟨k, hk, rfl⟩ := nI_of (x := x) (by rw [Int32.lt_iff_toInt_lt]; rw [Int32.le_iff_toInt_le] at h0; simpa using h0)
  have hk2 : k ≤ 255 := by
    rw [Int32.le_iff_toInt_le, nI_toInt hk] at h1
    have h2 : (255 : Int32).toInt = 255 := by decide
    omega
  rw [pk_vc, pk_char, pk_tn (by omega)]
  rw [Nat.mod_eq_of_lt (by omega)]
set_option maxRecDepth 100000 in
theorem l_X0_add {μ : j_M} {b s s' : Int32} {g3 : Option Value} {Q : j_Q} (hs : 0 ≤ s) (e : s + -8 = s') (hl : 0 ≤ μ 21 1) (h : ∀ g, j_J cX0_add 0 4 none false 1 none Q j_SH 0 0 3 [some (.ref 21), some (.int b), some (.int s'), g] [] (k_put μ (k_by b s))) : j_J cX0_add 0 4 none false 1 none Q j_SH 0 0 3 [some (.ref 21), some (.int b), some (.int s), g3] [] μ := by
  refine j_go (fun q => q == 3) 30 ?_
  simp only [qX0_add, j_f0, j_m0, j_ty, tyX0, ↓j_kt, ↓j_sel, ↓j_run_0, ↓j_run_s, ↓j_wp, ↓j_pi, ↓j_pii, ↓j_pl, ↓j_pll, ↓j_pli, ↓j_pr, ↓j_pri, ↓j_prii, ↓j_pvr, ↓j_pop, ↓j_gi, ↓j_gl, ↓j_ga, ↓j_ob, ↓j_ar, ↓j_fd, ↓j_fo, ↓j_mo, ↓j_br, ↓j_to, ↓j_lo, ↓j_scr, ↓j_co, ↓j_no, j_nf, j_rt, j_ld, j_st1, j_st2, j_k1, j_ci, j_fin, j_sh, j_shl, Option.map_some, Option.map_none, Option.toList_some, Option.toList_none, List.cons_append, List.nil_append, List.map_cons, List.map_nil, List.sum_cons, List.sum_nil, Value.category, List.getElem?_cons_zero, List.getElem?_cons_succ, List.length_cons, List.length_nil, true_and, and_true, if_true, if_false, ↓reduceIte, Bool.false_eq_true, Bool.true_eq_false, reduceCtorEq, Nat.reduceAdd, Nat.reduceLT, Nat.reduceLeDiff, Nat.reduceEqDiff, Nat.reduceBEq, Int.cast_ofNat_Int, Int.reduceAdd, Int.reduceNeg, Int.reduceSub, Int.reduceToNat, Int.reduceLE, Nat.zero_le, false_implies, implies_true, beq_self_eq_true, Bool.and_true, Bool.and_false, Bool.or_false, Bool.false_or, Bool.or_true, Bool.true_or, Bool.and_self, Bool.or_self, Nat.zero_add, Nat.add_zero, or_false, or_true, true_or, false_or, j_b0, j_b1, j_b2, j_b3, j_01, j_inb, and_self, Classical.not_not, Int32.reduceLE, Int32.reduceLT, Int32.reduceAdd, j_ne, eq_self, not_true_eq_false, not_false_eq_true, forall_const, and_false, false_and, j_sc, j_ent, Nat.reduceSub, List.replicate_zero, List.replicate_succ]
  refine ⟨fun g => by grind, fun g => ?_⟩
  refine j_use1 (f_X0_byteOf μ b s) (by decide) ?_
  simp only [qX0_add, j_f0, j_m0, j_ty, tyX0, ↓j_kt, ↓j_sel, ↓j_run_0, ↓j_run_s, ↓j_wp, ↓j_pi, ↓j_pii, ↓j_pl, ↓j_pll, ↓j_pli, ↓j_pr, ↓j_pri, ↓j_prii, ↓j_pvr, ↓j_pop, ↓j_gi, ↓j_gl, ↓j_ga, ↓j_ob, ↓j_ar, ↓j_fd, ↓j_fo, ↓j_mo, ↓j_br, ↓j_to, ↓j_lo, ↓j_scr, ↓j_co, ↓j_no, j_nf, j_rt, j_ld, j_st1, j_st2, j_k1, j_ci, j_fin, j_sh, j_shl, Option.map_some, Option.map_none, Option.toList_some, Option.toList_none, List.cons_append, List.nil_append, List.map_cons, List.map_nil, List.sum_cons, List.sum_nil, Value.category, List.getElem?_cons_zero, List.getElem?_cons_succ, List.length_cons, List.length_nil, true_and, and_true, if_true, if_false, ↓reduceIte, Bool.false_eq_true, Bool.true_eq_false, reduceCtorEq, Nat.reduceAdd, Nat.reduceLT, Nat.reduceLeDiff, Nat.reduceEqDiff, Nat.reduceBEq, Int.cast_ofNat_Int, Int.reduceAdd, Int.reduceNeg, Int.reduceSub, Int.reduceToNat, Int.reduceLE, Nat.zero_le, false_implies, implies_true, beq_self_eq_true, Bool.and_true, Bool.and_false, Bool.or_false, Bool.false_or, Bool.or_true, Bool.true_or, Bool.and_self, Bool.or_self, Nat.zero_add, Nat.add_zero, or_false, or_true, true_or, false_or, j_b0, j_b1, j_b2, j_b3, j_01, j_inb, and_self, Classical.not_not, Int32.reduceLE, Int32.reduceLT, Int32.reduceAdd, j_ne, eq_self, not_true_eq_false, not_false_eq_true, forall_const, and_false, false_and, j_sc, j_ent, Nat.reduceSub, List.replicate_zero, List.replicate_succ, e, j_un, ne_eq, not_false_eq_true]
  obtain ⟨c0, c1⟩ := k_by_in b s
  rw [k_char c0 c1]
  generalize k_by b s = c at h c0 c1 ⊢
  unfold k_put at h
  refine ⟨fun g => ?_, fun g => ⟨fun g2 => ?_, fun g2 => ⟨⟨hl, g2⟩, ?_⟩⟩⟩
  · rw [if_pos g] at h; exact h _
  · rw [if_neg g, if_neg (by grind)] at h; exact h _
  · rw [if_neg g, if_pos g2] at h; exact h _
theorem k_put_len {μ : j_M} {c : Int32} (h : 0 ≤ μ 21 1) : 0 ≤ k_put μ c 21 1 := by
  unfold k_put
  split
  · exact h
  · split
    · rw [j_us, u_s]; grind
    · exact h
set_option maxRecDepth 100000 in
theorem f_X0_add (μ : j_M) (b : Int32) (hl : 0 ≤ μ 21 1) : j_R 1 yX0_add [.ref 21, .int b] μ (fun r m => r = none ∧ m = k_put (k_put (k_put (k_put μ (k_by b 24)) (k_by b 16)) (k_by b 8)) (k_by b 0)) := by
  refine eX0_add (Nat.le_of_ble_eq_true rfl) (j_go (fun q => q == 3) 20 ?_)
  simp only [qX0_add, j_f0, j_m0, j_ty, tyX0, ↓j_kt, ↓j_sel, ↓j_run_0, ↓j_run_s, ↓j_wp, ↓j_pi, ↓j_pii, ↓j_pl, ↓j_pll, ↓j_pli, ↓j_pr, ↓j_pri, ↓j_prii, ↓j_pvr, ↓j_pop, ↓j_gi, ↓j_gl, ↓j_ga, ↓j_ob, ↓j_ar, ↓j_fd, ↓j_fo, ↓j_mo, ↓j_br, ↓j_to, ↓j_lo, ↓j_scr, ↓j_co, ↓j_no, j_nf, j_rt, j_ld, j_st1, j_st2, j_k1, j_ci, j_fin, j_sh, j_shl, Option.map_some, Option.map_none, Option.toList_some, Option.toList_none, List.cons_append, List.nil_append, List.map_cons, List.map_nil, List.sum_cons, List.sum_nil, Value.category, List.getElem?_cons_zero, List.getElem?_cons_succ, List.length_cons, List.length_nil, true_and, and_true, if_true, if_false, ↓reduceIte, Bool.false_eq_true, Bool.true_eq_false, reduceCtorEq, Nat.reduceAdd, Nat.reduceLT, Nat.reduceLeDiff, Nat.reduceEqDiff, Nat.reduceBEq, Int.cast_ofNat_Int, Int.reduceAdd, Int.reduceNeg, Int.reduceSub, Int.reduceToNat, Int.reduceLE, Nat.zero_le, false_implies, implies_true, beq_self_eq_true, Bool.and_true, Bool.and_false, Bool.or_false, Bool.false_or, Bool.or_true, Bool.true_or, Bool.and_self, Bool.or_self, Nat.zero_add, Nat.add_zero, or_false, or_true, true_or, false_or, j_b0, j_b1, j_b2, j_b3, j_01, j_inb, and_self, Classical.not_not, Int32.reduceLE, Int32.reduceLT, Int32.reduceAdd, j_ne, eq_self, not_true_eq_false, not_false_eq_true, forall_const, and_false, false_and, j_sc, j_ent, Nat.reduceSub, List.replicate_zero, List.replicate_succ]
  refine l_X0_add (s' := 16) (by decide) (by decide) hl (fun _ => ?_)
  refine l_X0_add (s' := 8) (by decide) (by decide) (k_put_len hl) (fun _ => ?_)
  refine l_X0_add (s' := 0) (by decide) (by decide) (k_put_len (k_put_len hl)) (fun _ => ?_)
  refine l_X0_add (s' := -8) (by decide) (by decide) (k_put_len (k_put_len (k_put_len hl))) (fun _ => ?_)
  refine j_go (fun q => q == 3) 30 ?_
  simp only [qX0_add, j_f0, j_m0, j_ty, tyX0, ↓j_kt, ↓j_sel, ↓j_run_0, ↓j_run_s, ↓j_wp, ↓j_pi, ↓j_pii, ↓j_pl, ↓j_pll, ↓j_pli, ↓j_pr, ↓j_pri, ↓j_prii, ↓j_pvr, ↓j_pop, ↓j_gi, ↓j_gl, ↓j_ga, ↓j_ob, ↓j_ar, ↓j_fd, ↓j_fo, ↓j_mo, ↓j_br, ↓j_to, ↓j_lo, ↓j_scr, ↓j_co, ↓j_no, j_nf, j_rt, j_ld, j_st1, j_st2, j_k1, j_ci, j_fin, j_sh, j_shl, Option.map_some, Option.map_none, Option.toList_some, Option.toList_none, List.cons_append, List.nil_append, List.map_cons, List.map_nil, List.sum_cons, List.sum_nil, Value.category, List.getElem?_cons_zero, List.getElem?_cons_succ, List.length_cons, List.length_nil, true_and, and_true, if_true, if_false, ↓reduceIte, Bool.false_eq_true, Bool.true_eq_false, reduceCtorEq, Nat.reduceAdd, Nat.reduceLT, Nat.reduceLeDiff, Nat.reduceEqDiff, Nat.reduceBEq, Int.cast_ofNat_Int, Int.reduceAdd, Int.reduceNeg, Int.reduceSub, Int.reduceToNat, Int.reduceLE, Nat.zero_le, false_implies, implies_true, beq_self_eq_true, Bool.and_true, Bool.and_false, Bool.or_false, Bool.false_or, Bool.or_true, Bool.true_or, Bool.and_self, Bool.or_self, Nat.zero_add, Nat.add_zero, or_false, or_true, true_or, false_or, j_b0, j_b1, j_b2, j_b3, j_01, j_inb, and_self, Classical.not_not, Int32.reduceLE, Int32.reduceLT, Int32.reduceAdd, j_ne, eq_self, not_true_eq_false, not_false_eq_true, forall_const, and_false, false_and, j_sc, j_ent, Nat.reduceSub, List.replicate_zero, List.replicate_succ]
