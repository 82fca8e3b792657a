/-! the reference: feed, fault, statute -/
theorem by_mod (x : Int32) : (x.toBitVec.toNat : Int) % 256 = x.toInt % 256 := by
  have h : x.toInt = x.toBitVec.toInt := rfl
  have h2 := BitVec.toInt_eq_toNat_cond x.toBitVec
  have h3 := x.toBitVec.isLt
  rw [h, h2]
  split <;> omega
theorem by_sh24 (b : Int32) : (b >>> ((24 : Int32) &&& 31)) &&& 255 = k_by b 24 := by
  unfold k_by
  have a1 := pk_and (b >>> ((24 : Int32) &&& 31)) (m := 255) 8 (by decide)
  have a2 := pk_and (b.toUInt32 >>> ((24 : Int32).toUInt32 &&& Int32.toUInt32 31)).toInt32 (m := 255) 8 (by decide)
  rw [a1, a2, pk_ushr b 24 24 (by decide)]
  have h1 := pk_shr b ((24 : Int32) &&& 31) 24 (by decide)
  have h2 := by_mod (b >>> ((24 : Int32) &&& 31))
  have h3 : b.toInt = b.toBitVec.toInt := rfl
  have h4 := BitVec.toInt_eq_toNat_cond b.toBitVec
  have h5 := b.toBitVec.isLt
  rw [h1, h3, h4, Int.shiftRight_eq_div_pow] at h2
  have e : (b >>> ((24 : Int32) &&& 31)).toBitVec.toNat % 2 ^ 8 = b.toBitVec.toNat / 2 ^ 24 % 2 ^ 8 := by
    simp only [Nat.reducePow] at h2 h5 ⊢
    have p : ((16777216 : Nat) : Int) = 16777216 := rfl
    rw [p] at h2
    split at h2 <;> omega
  rw [e]
theorem by_sh16 (b : Int32) : (b >>> ((16 : Int32) &&& 31)) &&& 255 = k_by b 16 := by
  unfold k_by
  have a1 := pk_and (b >>> ((16 : Int32) &&& 31)) (m := 255) 8 (by decide)
  have a2 := pk_and (b.toUInt32 >>> ((16 : Int32).toUInt32 &&& Int32.toUInt32 31)).toInt32 (m := 255) 8 (by decide)
  rw [a1, a2, pk_ushr b 16 16 (by decide)]
  have h1 := pk_shr b ((16 : Int32) &&& 31) 16 (by decide)
  have h2 := by_mod (b >>> ((16 : Int32) &&& 31))
  have h3 : b.toInt = b.toBitVec.toInt := rfl
  have h4 := BitVec.toInt_eq_toNat_cond b.toBitVec
  have h5 := b.toBitVec.isLt
  rw [h1, h3, h4, Int.shiftRight_eq_div_pow] at h2
  have e : (b >>> ((16 : Int32) &&& 31)).toBitVec.toNat % 2 ^ 8 = b.toBitVec.toNat / 2 ^ 16 % 2 ^ 8 := by
    simp only [Nat.reducePow] at h2 h5 ⊢
    have p : ((65536 : Nat) : Int) = 65536 := rfl
    rw [p] at h2
    split at h2 <;> omega
  rw [e]
theorem by_sh8 (b : Int32) : (b >>> ((8 : Int32) &&& 31)) &&& 255 = k_by b 8 := by
  unfold k_by
  have a1 := pk_and (b >>> ((8 : Int32) &&& 31)) (m := 255) 8 (by decide)
  have a2 := pk_and (b.toUInt32 >>> ((8 : Int32).toUInt32 &&& Int32.toUInt32 31)).toInt32 (m := 255) 8 (by decide)
  rw [a1, a2, pk_ushr b 8 8 (by decide)]
  have h1 := pk_shr b ((8 : Int32) &&& 31) 8 (by decide)
  have h2 := by_mod (b >>> ((8 : Int32) &&& 31))
  have h3 : b.toInt = b.toBitVec.toInt := rfl
  have h4 := BitVec.toInt_eq_toNat_cond b.toBitVec
  have h5 := b.toBitVec.isLt
  rw [h1, h3, h4, Int.shiftRight_eq_div_pow] at h2
  have e : (b >>> ((8 : Int32) &&& 31)).toBitVec.toNat % 2 ^ 8 = b.toBitVec.toNat / 2 ^ 8 % 2 ^ 8 := by
    simp only [Nat.reducePow] at h2 h5 ⊢
    have p : ((256 : Nat) : Int) = 256 := rfl
    rw [p] at h2
    split at h2 <;> omega
  rw [e]
theorem by_sh0 (b : Int32) : (b >>> ((0 : Int32) &&& 31)) &&& 255 = k_by b 0 := by
  unfold k_by
  have a1 := pk_and (b >>> ((0 : Int32) &&& 31)) (m := 255) 8 (by decide)
  have a2 := pk_and (b.toUInt32 >>> ((0 : Int32).toUInt32 &&& Int32.toUInt32 31)).toInt32 (m := 255) 8 (by decide)
  rw [a1, a2, pk_ushr b 0 0 (by decide)]
  have h1 := pk_shr b ((0 : Int32) &&& 31) 0 (by decide)
  have h2 := by_mod (b >>> ((0 : Int32) &&& 31))
  have h3 : b.toInt = b.toBitVec.toInt := rfl
  have h4 := BitVec.toInt_eq_toNat_cond b.toBitVec
  have h5 := b.toBitVec.isLt
  rw [h1, h3, h4, Int.shiftRight_eq_div_pow] at h2
  have e : (b >>> ((0 : Int32) &&& 31)).toBitVec.toNat % 2 ^ 8 = b.toBitVec.toNat / 2 ^ 0 % 2 ^ 8 := by
    simp only [Nat.reducePow] at h2 h5 ⊢
    have p : ((1 : Nat) : Int) = 1 := rfl
    rw [p] at h2
    split at h2 <;> omega
  rw [e]
theorem by_i8 (x : Int32) : x.toInt8.toInt32 = b_sg (x &&& 255) := by
  rw [pk_and x 8 (by decide)]
  have hr : x.toBitVec.toNat % 2 ^ 8 < 256 := Nat.mod_lt _ (by decide)
  have h2 := by_mod x
  have h3 : x.toInt8.toInt32.toInt = x.toInt.bmod (2 ^ 8) := by
    rw [Int8.toInt_toInt32, Int32.toInt_toInt8]
  have h4 : ((x.toBitVec.toNat % 2 ^ 8 : Nat) : Int) = x.toInt % 256 := by
    rw [← h2]
    simp
  generalize x.toBitVec.toNat % 2 ^ 8 = r at hr h4 ⊢
  apply Int32.toInt_inj.mp
  rw [h3]
  unfold b_sg
  by_cases h : r < 128
  · rw [if_pos (show nI r < 128 from (nI_lt' (a := r) (b := 128) (by omega) (by omega)).mpr h), nI_toInt (by omega)]
    unfold Int.bmod
    simp only [Nat.reducePow]
    split <;> omega
  · rw [if_neg (show ¬ nI r < 128 from fun z => h ((nI_lt' (a := r) (b := 128) (by omega) (by omega)).mp z)), show (256 : Int32) = nI 256 from rfl, pk_sub_toInt (by omega) (by omega)]
    unfold Int.bmod
    simp only [Nat.reducePow]
    split <;> omega
/-- one sign put behind the reference's text -/
def q_put (μ : j_M) (c : Int32) : j_M := if c = 0 then μ else if μ 42 8 < 120 then j_up (j_up μ 59 (μ 42 8).toNatClampNeg (b_sg c)) 42 8 (μ 42 8 + 1) else μ
def q_fed (μ : j_M) (b : Int32) : j_M := q_put (q_put (q_put (q_put μ (k_by b 24)) (k_by b 16)) (k_by b 8)) (k_by b 0)
def z_z (c : Int32) : Nat := if c = 0 then 0 else 1
theorem q_put_len {μ : j_M} {c : Int32} {l : Nat} (h : μ 42 8 = nI l) (hl : l + z_z c ≤ 120) : q_put μ c 42 8 = nI (l + z_z c) := by
  unfold q_put
  unfold z_z at hl ⊢
  split
  · exact h
  · next hc =>
    rw [if_neg hc] at hl
    have : μ 42 8 < 120 := by rw [h]; exact (nI_lt' (a := l) (b := 120) (by omega) (by omega)).mpr (by omega)
    rw [if_pos this, j_us, u_s, h, nI_1]
theorem k_nz_n (b : Int32) : k_nz b = nI (z_z (k_by b 24) + z_z (k_by b 16) + z_z (k_by b 8) + z_z (k_by b 0)) := by
  unfold k_nz z_z
  by_cases h1 : k_by b 24 = 0 <;> by_cases h2 : k_by b 16 = 0 <;> by_cases h3 : k_by b 8 = 0 <;> by_cases h4 : k_by b 0 = 0 <;> simp only [h1, h2, h3, h4, if_true, if_false] <;> rfl
set_option maxRecDepth 100000 in
theorem l_X10_feed1 {μ : j_M} {b c s s' : Int32} {Q : j_Q} (hs : 0 ≤ s) (e : s + -8 = s') (hb : (b >>> (s &&& 31)) &&& 255 = k_by b s) (h : j_J cX10_feed 10 4 (some .int) false 0 none Q j_SH 0 0 10 [some (.ref 42), some (.int b), some (.int (if k_by b s = 0 then c else c + 1)), some (.int s')] [] μ) : j_J cX10_feed 10 4 (some .int) false 0 none Q j_SH 0 0 10 [some (.ref 42), some (.int b), some (.int c), some (.int s)] [] μ := by
  refine j_go (fun q => q == 10) 30 ?_
  simp only [qX10_feed, j_f10, j_m10, j_ty, tyX10, ↓j_kt, ↓j_sel, ↓j_run_0, ↓j_run_s, ↓j_wp, ↓j_pi, ↓j_pii, ↓j_pl, ↓j_pll, ↓j_pli, ↓j_pr, ↓j_pri, ↓j_prii, ↓j_pvr, ↓j_pop, ↓j_gi, ↓j_gl, ↓j_ga, ↓j_ob, ↓j_ar, ↓j_fd, ↓j_fo, ↓j_mo, ↓j_br, ↓j_to, ↓j_lo, ↓j_scr, ↓j_co, ↓j_no, j_nf, j_rt, j_ld, j_st1, j_st2, j_k1, j_ci, j_fin, j_sh, j_shl, Option.map_some, Option.map_none, Option.toList_some, Option.toList_none, List.cons_append, List.nil_append, List.map_cons, List.map_nil, List.sum_cons, List.sum_nil, Value.category, List.getElem?_cons_zero, List.getElem?_cons_succ, List.length_cons, List.length_nil, true_and, and_true, if_true, if_false, ↓reduceIte, Bool.false_eq_true, Bool.true_eq_false, reduceCtorEq, Nat.reduceAdd, Nat.reduceLT, Nat.reduceLeDiff, Nat.reduceEqDiff, Nat.reduceBEq, Int.cast_ofNat_Int, Int.reduceAdd, Int.reduceNeg, Int.reduceSub, Int.reduceToNat, Int.reduceLE, Nat.zero_le, false_implies, implies_true, beq_self_eq_true, Bool.and_true, Bool.and_false, Bool.or_false, Bool.false_or, Bool.or_true, Bool.true_or, Bool.and_self, Bool.or_self, Nat.zero_add, Nat.add_zero, or_false, or_true, true_or, false_or, j_b0, ↓j_b1, j_b2, ↓j_b3, j_01, j_inb, and_self, Classical.not_not, Int32.reduceLE, Int32.reduceLT, Int32.reduceAdd, j_ne, eq_self, not_true_eq_false, not_false_eq_true, forall_const, and_false, false_and, j_sc, j_ent, Nat.reduceSub, List.replicate_zero, List.replicate_succ, hb, e, Int32.add_zero]
  refine ⟨fun g => by grind, fun g => ⟨fun g => ?_, fun g => ?_⟩⟩
  · rw [if_pos g] at h
    exact h
  · rw [if_neg g] at h
    exact h
set_option maxRecDepth 100000 in
theorem l_X10_feed2 {μ : j_M} {b c s s' : Int32} {l : Nat} {Q : j_Q} (hs : 0 ≤ s) (e : s + -8 = s') (hb : (b >>> (s &&& 31)) &&& 255 = k_by b s) (hl : μ 42 8 = nI l) (hl2 : l + z_z (k_by b s) ≤ 120) (h : j_J cX10_feed 10 4 (some .int) false 0 none Q j_SH 0 0 54 [some (.ref 42), some (.int b), some (.int c), some (.int s')] [] (q_put μ (k_by b s))) : j_J cX10_feed 10 4 (some .int) false 0 none Q j_SH 0 0 54 [some (.ref 42), some (.int b), some (.int c), some (.int s)] [] μ := by
  have h8 := by_i8 (b >>> (s &&& 31))
  rw [hb] at h8
  have hv : vp_nar .byte (b_sg (k_by b s)) = b_sg (k_by b s) := by
    rw [← h8]
    exact pk_vb _
  refine j_go (fun q => q == 54) 30 ?_
  simp only [qX10_feed, j_f10, j_m10, j_ty, tyX10, ↓j_kt, ↓j_sel, ↓j_run_0, ↓j_run_s, ↓j_wp, ↓j_pi, ↓j_pii, ↓j_pl, ↓j_pll, ↓j_pli, ↓j_pr, ↓j_pri, ↓j_prii, ↓j_pvr, ↓j_pop, ↓j_gi, ↓j_gl, ↓j_ga, ↓j_ob, ↓j_ar, ↓j_fd, ↓j_fo, ↓j_mo, ↓j_br, ↓j_to, ↓j_lo, ↓j_scr, ↓j_co, ↓j_no, j_nf, j_rt, j_ld, j_st1, j_st2, j_k1, j_ci, j_fin, j_sh, j_shl, Option.map_some, Option.map_none, Option.toList_some, Option.toList_none, List.cons_append, List.nil_append, List.map_cons, List.map_nil, List.sum_cons, List.sum_nil, Value.category, List.getElem?_cons_zero, List.getElem?_cons_succ, List.length_cons, List.length_nil, true_and, and_true, if_true, if_false, ↓reduceIte, Bool.false_eq_true, Bool.true_eq_false, reduceCtorEq, Nat.reduceAdd, Nat.reduceLT, Nat.reduceLeDiff, Nat.reduceEqDiff, Nat.reduceBEq, Int.cast_ofNat_Int, Int.reduceAdd, Int.reduceNeg, Int.reduceSub, Int.reduceToNat, Int.reduceLE, Nat.zero_le, false_implies, implies_true, beq_self_eq_true, Bool.and_true, Bool.and_false, Bool.or_false, Bool.false_or, Bool.or_true, Bool.true_or, Bool.and_self, Bool.or_self, Nat.zero_add, Nat.add_zero, or_false, or_true, true_or, false_or, j_b0, ↓j_b1, j_b2, ↓j_b3, j_01, j_inb, and_self, Classical.not_not, Int32.reduceLE, Int32.reduceLT, Int32.reduceAdd, j_ne, eq_self, not_true_eq_false, not_false_eq_true, forall_const, and_false, false_and, j_sc, j_ent, Nat.reduceSub, List.replicate_zero, List.replicate_succ, hb, e, h8, hv, j_un, ne_eq]
  unfold q_put at h
  unfold z_z at hl2
  refine ⟨fun g => by grind, fun g => ⟨fun g => ?_, fun g => ?_⟩⟩
  · rw [if_neg g] at hl2
    have h120 : μ 42 8 < 120 := by rw [hl]; exact (nI_lt' (a := l) (b := 120) (by omega) (by omega)).mpr (by omega)
    have h0 : 0 ≤ μ 42 8 := by rw [hl]; exact nI_ge0 (by omega)
    rw [if_neg g, if_pos h120] at h
    refine ⟨⟨h0, h120⟩, ?_⟩
    with_reducible exact h
  · rw [if_pos g] at h
    exact h
def q_feed (μ : j_M) (b : Int32) (r : Option Int32) (m : j_M) : Prop := (μ 42 8 + k_nz b ≤ 120 ∧ r = some (q_fed μ b 42 8) ∧ m = q_fed μ b) ∨ (¬ μ 42 8 + k_nz b ≤ 120 ∧ r = some (-1) ∧ m = μ)
set_option maxRecDepth 100000 in
theorem f_X10_feed (μ : j_M) (b : Int32) {l : Nat} (hl : μ 42 8 = nI l) (hl2 : l ≤ 120) : j_R 0 yX10_feed [.ref 42, .int b] μ (q_feed (t_0 μ) b) := by
  have kl : t_0 μ 42 8 = nI l := by rw [t_0s μ (by decide)]; exact hl
  refine eX10_feed (Nat.le_of_ble_eq_true rfl) (j_go (fun q => q == 5) 60 ?_)
  simp only [qX10_feed, j_f10, j_m10, j_ty, tyX10, ↓j_kt, ↓j_sel, ↓j_run_0, ↓j_run_s, ↓j_wp, ↓j_pi, ↓j_pii, ↓j_pl, ↓j_pll, ↓j_pli, ↓j_pr, ↓j_pri, ↓j_prii, ↓j_pvr, ↓j_pop, ↓j_gi, ↓j_gl, ↓j_ga, ↓j_ob, ↓j_ar, ↓j_fd, ↓j_fo, ↓j_mo, ↓j_br, ↓j_to, ↓j_lo, ↓j_scr, ↓j_co, ↓j_no, j_nf, j_rt, j_ld, j_st1, j_st2, j_k1, j_ci, j_fin, j_sh, j_shl, Option.map_some, Option.map_none, Option.toList_some, Option.toList_none, List.cons_append, List.nil_append, List.map_cons, List.map_nil, List.sum_cons, List.sum_nil, Value.category, List.getElem?_cons_zero, List.getElem?_cons_succ, List.length_cons, List.length_nil, true_and, and_true, if_true, if_false, ↓reduceIte, Bool.false_eq_true, Bool.true_eq_false, reduceCtorEq, Nat.reduceAdd, Nat.reduceLT, Nat.reduceLeDiff, Nat.reduceEqDiff, Nat.reduceBEq, Int.cast_ofNat_Int, Int.reduceAdd, Int.reduceNeg, Int.reduceSub, Int.reduceToNat, Int.reduceLE, Nat.zero_le, false_implies, implies_true, beq_self_eq_true, Bool.and_true, Bool.and_false, Bool.or_false, Bool.false_or, Bool.or_true, Bool.true_or, Bool.and_self, Bool.or_self, Nat.zero_add, Nat.add_zero, or_false, or_true, true_or, false_or, j_b0, ↓j_b1, j_b2, ↓j_b3, j_01, j_inb, and_self, Classical.not_not, Int32.reduceLE, Int32.reduceLT, Int32.reduceAdd, j_ne, eq_self, not_true_eq_false, not_false_eq_true, forall_const, and_false, false_and, j_sc, j_ent, Nat.reduceSub, List.replicate_zero, List.replicate_succ]
  show j_J _ _ _ _ _ _ _ _ _ _ _ _ _ _ (t_0 μ)
  generalize t_0 μ = ν at kl ⊢
  refine j_go (fun q => q == 10) 60 ?_
  simp only [qX10_feed, j_f10, j_m10, j_ty, tyX10, ↓j_kt, ↓j_sel, ↓j_run_0, ↓j_run_s, ↓j_wp, ↓j_pi, ↓j_pii, ↓j_pl, ↓j_pll, ↓j_pli, ↓j_pr, ↓j_pri, ↓j_prii, ↓j_pvr, ↓j_pop, ↓j_gi, ↓j_gl, ↓j_ga, ↓j_ob, ↓j_ar, ↓j_fd, ↓j_fo, ↓j_mo, ↓j_br, ↓j_to, ↓j_lo, ↓j_scr, ↓j_co, ↓j_no, j_nf, j_rt, j_ld, j_st1, j_st2, j_k1, j_ci, j_fin, j_sh, j_shl, Option.map_some, Option.map_none, Option.toList_some, Option.toList_none, List.cons_append, List.nil_append, List.map_cons, List.map_nil, List.sum_cons, List.sum_nil, Value.category, List.getElem?_cons_zero, List.getElem?_cons_succ, List.length_cons, List.length_nil, true_and, and_true, if_true, if_false, ↓reduceIte, Bool.false_eq_true, Bool.true_eq_false, reduceCtorEq, Nat.reduceAdd, Nat.reduceLT, Nat.reduceLeDiff, Nat.reduceEqDiff, Nat.reduceBEq, Int.cast_ofNat_Int, Int.reduceAdd, Int.reduceNeg, Int.reduceSub, Int.reduceToNat, Int.reduceLE, Nat.zero_le, false_implies, implies_true, beq_self_eq_true, Bool.and_true, Bool.and_false, Bool.or_false, Bool.false_or, Bool.or_true, Bool.true_or, Bool.and_self, Bool.or_self, Nat.zero_add, Nat.add_zero, or_false, or_true, true_or, false_or, j_b0, ↓j_b1, j_b2, ↓j_b3, j_01, j_inb, and_self, Classical.not_not, Int32.reduceLE, Int32.reduceLT, Int32.reduceAdd, j_ne, eq_self, not_true_eq_false, not_false_eq_true, forall_const, and_false, false_and, j_sc, j_ent, Nat.reduceSub, List.replicate_zero, List.replicate_succ]
  refine l_X10_feed1 (s' := 16) (by decide) (by decide) (by_sh24 b) ?_
  refine l_X10_feed1 (s' := 8) (by decide) (by decide) (by_sh16 b) ?_
  refine l_X10_feed1 (s' := 0) (by decide) (by decide) (by_sh8 b) ?_
  refine l_X10_feed1 (s' := -8) (by decide) (by decide) (by_sh0 b) ?_
  refine j_go (fun q => q == 14 || q == 54) 30 ?_
  simp only [qX10_feed, j_f10, j_m10, j_ty, tyX10, ↓j_kt, ↓j_sel, ↓j_run_0, ↓j_run_s, ↓j_wp, ↓j_pi, ↓j_pii, ↓j_pl, ↓j_pll, ↓j_pli, ↓j_pr, ↓j_pri, ↓j_prii, ↓j_pvr, ↓j_pop, ↓j_gi, ↓j_gl, ↓j_ga, ↓j_ob, ↓j_ar, ↓j_fd, ↓j_fo, ↓j_mo, ↓j_br, ↓j_to, ↓j_lo, ↓j_scr, ↓j_co, ↓j_no, j_nf, j_rt, j_ld, j_st1, j_st2, j_k1, j_ci, j_fin, j_sh, j_shl, Option.map_some, Option.map_none, Option.toList_some, Option.toList_none, List.cons_append, List.nil_append, List.map_cons, List.map_nil, List.sum_cons, List.sum_nil, Value.category, List.getElem?_cons_zero, List.getElem?_cons_succ, List.length_cons, List.length_nil, true_and, and_true, if_true, if_false, ↓reduceIte, Bool.false_eq_true, Bool.true_eq_false, reduceCtorEq, Nat.reduceAdd, Nat.reduceLT, Nat.reduceLeDiff, Nat.reduceEqDiff, Nat.reduceBEq, Int.cast_ofNat_Int, Int.reduceAdd, Int.reduceNeg, Int.reduceSub, Int.reduceToNat, Int.reduceLE, Nat.zero_le, false_implies, implies_true, beq_self_eq_true, Bool.and_true, Bool.and_false, Bool.or_false, Bool.false_or, Bool.or_true, Bool.true_or, Bool.and_self, Bool.or_self, Nat.zero_add, Nat.add_zero, or_false, or_true, true_or, false_or, j_b0, ↓j_b1, j_b2, ↓j_b3, j_01, j_inb, and_self, Classical.not_not, Int32.reduceLE, Int32.reduceLT, Int32.reduceAdd, j_ne, eq_self, not_true_eq_false, not_false_eq_true, forall_const, and_false, false_and, j_sc, j_ent, Nat.reduceSub, List.replicate_zero, List.replicate_succ]
  show (ν 42 8 + k_nz b ≤ 120 → _) ∧ (120 < ν 42 8 + k_nz b → _)
  refine ⟨fun g => ?_, fun g => Or.inr ⟨by grind, rfl, rfl⟩⟩
  have g2 := g
  rw [k_nz_n, kl, nI_add] at g2
  have hz : ∀ c, z_z c ≤ 1 := fun c => by unfold z_z; split <;> omega
  have h1 := hz (k_by b 24)
  have h2 := hz (k_by b 16)
  have h3 := hz (k_by b 8)
  have h4 := hz (k_by b 0)
  have g3 := (nI_le' (b := 120) (by omega) (by omega)).mp g2
  have l1 := q_put_len (c := k_by b 24) kl (by omega)
  have l2 := q_put_len (c := k_by b 16) l1 (by omega)
  have l3 := q_put_len (c := k_by b 8) l2 (by omega)
  refine l_X10_feed2 (s' := 16) (by decide) (by decide) (by_sh24 b) kl (by omega) ?_
  refine l_X10_feed2 (s' := 8) (by decide) (by decide) (by_sh16 b) l1 (by omega) ?_
  refine l_X10_feed2 (s' := 0) (by decide) (by decide) (by_sh8 b) l2 (by omega) ?_
  refine l_X10_feed2 (s' := -8) (by decide) (by decide) (by_sh0 b) l3 (by omega) ?_
  refine j_go (fun q => q == 58) 30 ?_
  simp only [qX10_feed, j_f10, j_m10, j_ty, tyX10, ↓j_kt, ↓j_sel, ↓j_run_0, ↓j_run_s, ↓j_wp, ↓j_pi, ↓j_pii, ↓j_pl, ↓j_pll, ↓j_pli, ↓j_pr, ↓j_pri, ↓j_prii, ↓j_pvr, ↓j_pop, ↓j_gi, ↓j_gl, ↓j_ga, ↓j_ob, ↓j_ar, ↓j_fd, ↓j_fo, ↓j_mo, ↓j_br, ↓j_to, ↓j_lo, ↓j_scr, ↓j_co, ↓j_no, j_nf, j_rt, j_ld, j_st1, j_st2, j_k1, j_ci, j_fin, j_sh, j_shl, Option.map_some, Option.map_none, Option.toList_some, Option.toList_none, List.cons_append, List.nil_append, List.map_cons, List.map_nil, List.sum_cons, List.sum_nil, Value.category, List.getElem?_cons_zero, List.getElem?_cons_succ, List.length_cons, List.length_nil, true_and, and_true, if_true, if_false, ↓reduceIte, Bool.false_eq_true, Bool.true_eq_false, reduceCtorEq, Nat.reduceAdd, Nat.reduceLT, Nat.reduceLeDiff, Nat.reduceEqDiff, Nat.reduceBEq, Int.cast_ofNat_Int, Int.reduceAdd, Int.reduceNeg, Int.reduceSub, Int.reduceToNat, Int.reduceLE, Nat.zero_le, false_implies, implies_true, beq_self_eq_true, Bool.and_true, Bool.and_false, Bool.or_false, Bool.false_or, Bool.or_true, Bool.true_or, Bool.and_self, Bool.or_self, Nat.zero_add, Nat.add_zero, or_false, or_true, true_or, false_or, j_b0, ↓j_b1, j_b2, ↓j_b3, j_01, j_inb, and_self, Classical.not_not, Int32.reduceLE, Int32.reduceLT, Int32.reduceAdd, j_ne, eq_self, not_true_eq_false, not_false_eq_true, forall_const, and_false, false_and, j_sc, j_ent, Nat.reduceSub, List.replicate_zero, List.replicate_succ]
  exact Or.inl ⟨g, rfl, rfl⟩
