/-! Pieces: judges drawn -/
def k_rng (x : Int64) : Int64 := x * 6364136223846793005 + 1442695040888963407
/-- the place drawn among f -/
def k_pl (x : Int64) (f : Nat) : Nat := x.toUInt64.toNat / 8589934592 % f
theorem k_sh33 (x : Int64) : (x.toUInt64 >>> ((33 : Int32).toInt64.toUInt64 &&& Int64.toUInt64 63)).toInt64 = lN (x.toUInt64.toNat / 8589934592) := by
  have e : ((33 : Int32).toInt64.toUInt64 &&& Int64.toUInt64 63) = 33 := by decide
  rw [e]
  have h : (x.toUInt64 >>> 33).toNat = x.toUInt64.toNat / 8589934592 := by
    rw [UInt64.toNat_shiftRight]
    simp [Nat.shiftRight_eq_div_pow]
  rw [← h]
  unfold lN
  rw [← UInt64.toInt64_ofNat', UInt64.ofNat_toNat]
theorem k_pl_eq (x : Int64) {f : Nat} (h0 : 0 < f) (h1 : f ≤ 30) : ((x.toUInt64 >>> ((33 : Int32).toInt64.toUInt64 &&& Int64.toUInt64 63)).toInt64 - (x.toUInt64 >>> ((33 : Int32).toInt64.toUInt64 &&& Int64.toUInt64 63)).toInt64 / (nI f).toInt64 * (nI f).toInt64).toInt32 = nI (k_pl x f) := by
  have hx : x.toUInt64.toNat < 18446744073709551616 := by
    have := x.toUInt64.toNat_lt
    simpa using this
  rw [k_sh33, nI_l (by omega), pk_lRem (by omega) h0 (by omega), lN_i]
  rfl
theorem k_pl_lt (x : Int64) {f : Nat} (h0 : 0 < f) : k_pl x f < f := Nat.mod_lt _ h0
theorem lN_ne0 {f : Nat} (h0 : 0 < f) (h1 : f ≤ 30) : ¬ (nI f).toInt64 = 0 := by
  rw [nI_l (by omega)]
  have := lN_eq (a := f) (b := 0) (by omega) (by omega)
  intro h
  have h2 := this.mp h
  omega
/-- the bench without the one at pl, when f are left; a: moved so far -/
def k_mv (B : Nat → Int32) (pl a : Nat) : Nat → Int32 := fun j => if pl ≤ j ∧ j < a then B (j + 1) else B j
theorem k_mv_s (B : Nat → Int32) {pl a : Nat} (h : pl ≤ a) : upd (k_mv B pl a) a (k_mv B pl a (a + 1)) = k_mv B pl (a + 1) := by
  funext j
  unfold upd k_mv
  by_cases h1 : j = a
  · subst h1
    rw [if_pos rfl, if_neg (by omega), if_pos (by omega)]
  · rw [if_neg h1]
    by_cases h2 : pl ≤ j ∧ j < a
    · rw [if_pos h2, if_pos (by omega)]
    · rw [if_neg h2, if_neg (by omega)]
theorem n30 {p : Nat} (hp : p < 30) : 0 ≤ nI p ∧ nI p < 30 := ⟨nI_ge0 (by omega), (nI_lt' (b := 30) (by omega) (by omega)).mpr hp⟩
set_option maxRecDepth 100000 in
theorem l_X4_draw2 {μ : j_M} {B : Nat → Int32} {pl f : Nat} {v1 v3 v4 v6 v9 : Option Value} {v10 : Int32} {Q : j_Q} (hf : f < 30) (hQ : j_J cX4_drawJudges 4 12 none false 0 none Q j_SH 0 0 90 [some (.ref 36), v1, some (.ref 41), v3, v4, none, v6, none, some (.int (nI f)), v9, some (.int v10), none] [] (j_row μ 41 (k_mv B pl f))) : ∀ (k a : Nat), a + k = f → pl ≤ a → j_J cX4_drawJudges 4 12 none false 0 none Q j_SH 0 0 67 [some (.ref 36), v1, some (.ref 41), v3, v4, none, v6, none, some (.int (nI f)), v9, some (.int v10), some (.int (nI a))] [] (j_row μ 41 (k_mv B pl a)) := by
  intro k
  induction k with
  | zero =>
    intro a ha hp
    refine j_go (fun q => q == 67 || q == 90) 30 ?_
    simp only [qX4_drawJudges, j_f4, j_m4, j_ty, tyX4, ↓j_kt, ↓j_sel, ↓j_run_0, ↓j_run_s, ↓j_wp, ↓j_pi, ↓j_pii, ↓j_pl, ↓j_pll, ↓j_pli, ↓j_pr, ↓j_pri, ↓j_prii, ↓j_pvr, ↓j_pop, ↓j_gi, ↓j_gl, ↓j_ga, ↓j_ob, ↓j_ar, ↓j_fd, ↓j_fo, ↓j_mo, ↓j_br, ↓j_to, ↓j_lo, ↓j_scr, ↓j_co, ↓j_no, j_nf, j_rt, j_ld, j_st1, j_st2, j_k1, j_ci, j_fin, j_sh, j_shl, Option.map_some, Option.map_none, Option.toList_some, Option.toList_none, List.cons_append, List.nil_append, List.map_cons, List.map_nil, List.sum_cons, List.sum_nil, Value.category, List.getElem?_cons_zero, List.getElem?_cons_succ, List.length_cons, List.length_nil, true_and, and_true, if_true, if_false, ↓reduceIte, Bool.false_eq_true, Bool.true_eq_false, reduceCtorEq, Nat.reduceAdd, Nat.reduceLT, Nat.reduceLeDiff, Nat.reduceEqDiff, Nat.reduceBEq, Int.cast_ofNat_Int, Int.reduceAdd, Int.reduceNeg, Int.reduceSub, Int.reduceToNat, Int.reduceLE, Nat.zero_le, false_implies, implies_true, beq_self_eq_true, Bool.and_true, Bool.and_false, Bool.or_false, Bool.false_or, Bool.or_true, Bool.true_or, Bool.and_self, Bool.or_self, Nat.zero_add, Nat.add_zero, or_false, or_true, true_or, false_or, j_b0, j_b1, j_b2, j_b3, j_01, j_inb, and_self, Classical.not_not, Int32.reduceLE, Int32.reduceLT, Int32.reduceAdd, j_ne, eq_self, not_true_eq_false, not_false_eq_true, forall_const, and_false, false_and, j_sc, j_ent, Nat.reduceSub, List.replicate_zero, List.replicate_succ, nI_lt' (show a < 1000000 by omega) (show f < 1000000 by omega), nI_le' (show f < 1000000 by omega) (show a < 1000000 by omega)]
    refine ⟨fun _ => ?_, fun h => by omega⟩
    rw [show a = f by omega]
    exact hQ.le ⟨Or.inr rfl, Or.inr rfl, Or.inr rfl, Or.inr rfl, Or.inr rfl, Or.inr rfl, Or.inr rfl, Or.inr rfl, Or.inr rfl, Or.inr rfl, Or.inr rfl, Or.inl rfl, trivial⟩
  | succ k ih =>
    intro a ha hp
    refine j_go (fun q => q == 67 || q == 90) 30 ?_
    simp only [qX4_drawJudges, j_f4, j_m4, j_ty, tyX4, ↓j_kt, ↓j_sel, ↓j_run_0, ↓j_run_s, ↓j_wp, ↓j_pi, ↓j_pii, ↓j_pl, ↓j_pll, ↓j_pli, ↓j_pr, ↓j_pri, ↓j_prii, ↓j_pvr, ↓j_pop, ↓j_gi, ↓j_gl, ↓j_ga, ↓j_ob, ↓j_ar, ↓j_fd, ↓j_fo, ↓j_mo, ↓j_br, ↓j_to, ↓j_lo, ↓j_scr, ↓j_co, ↓j_no, j_nf, j_rt, j_ld, j_st1, j_st2, j_k1, j_ci, j_fin, j_sh, j_shl, Option.map_some, Option.map_none, Option.toList_some, Option.toList_none, List.cons_append, List.nil_append, List.map_cons, List.map_nil, List.sum_cons, List.sum_nil, Value.category, List.getElem?_cons_zero, List.getElem?_cons_succ, List.length_cons, List.length_nil, true_and, and_true, if_true, if_false, ↓reduceIte, Bool.false_eq_true, Bool.true_eq_false, reduceCtorEq, Nat.reduceAdd, Nat.reduceLT, Nat.reduceLeDiff, Nat.reduceEqDiff, Nat.reduceBEq, Int.cast_ofNat_Int, Int.reduceAdd, Int.reduceNeg, Int.reduceSub, Int.reduceToNat, Int.reduceLE, Nat.zero_le, false_implies, implies_true, beq_self_eq_true, Bool.and_true, Bool.and_false, Bool.or_false, Bool.false_or, Bool.or_true, Bool.true_or, Bool.and_self, Bool.or_self, Nat.zero_add, Nat.add_zero, or_false, or_true, true_or, false_or, j_b0, j_b1, j_b2, j_b3, j_01, j_inb, and_self, Classical.not_not, Int32.reduceLE, Int32.reduceLT, Int32.reduceAdd, j_ne, eq_self, not_true_eq_false, not_false_eq_true, forall_const, and_false, false_and, j_sc, j_ent, Nat.reduceSub, List.replicate_zero, List.replicate_succ, nI_lt' (show a < 1000000 by omega) (show f < 1000000 by omega), nI_le' (show f < 1000000 by omega) (show a < 1000000 by omega), nI_1, nI_cl' (show a < 1000000 by omega), nI_cl' (show a + 1 < 1000000 by omega), j_rs, j_up_up, k_mv_s B hp]
    refine ⟨fun h => by omega, fun h => ⟨n30 (by omega), n30 (by omega), ih (a + 1) (by omega) (by omega)⟩⟩
/-- one judge drawn: the memory behind it -/
def k_dr (μ : j_M) (p i : Nat) (x : Int64) (f : Nat) : j_M := j_row (j_up μ 39 (3 * p + i) (μ 41 (k_pl (k_rng x) f))) 41 (k_mv (μ 41) (k_pl (k_rng x) f) (f - 1))
theorem nI_dec {f : Nat} (h : 0 < f) : nI f + -1 = nI (f - 1) := by
  have := pk_m1 (f - 1)
  rw [show f - 1 + 1 = f by omega] at this
  exact this
set_option maxRecDepth 100000 in
theorem l_X4_draw1 {μ : j_M} {p i f : Nat} {x y : Int64} {v3 g10 g11 : Option Value} {Q : j_Q} (hp : p < 40) (hi : i < 3) (h0 : 0 < f) (h1 : f ≤ 30) (hQ : ∀ g10 g11, j_J cX4_drawJudges 4 12 none false 0 none Q j_SH 0 0 10 [some (.ref 36), some (.int (nI p)), some (.ref 41), v3, some (.long y), none, some (.long (k_rng x)), none, some (.int (nI (f - 1))), some (.int (nI (i + 1))), g10, g11] [] (k_dr μ p i x f)) : j_J cX4_drawJudges 4 12 none false 0 none Q j_SH 0 0 10 [some (.ref 36), some (.int (nI p)), some (.ref 41), v3, some (.long y), none, some (.long x), none, some (.int (nI f)), some (.int (nI i)), g10, g11] [] μ := by
  refine j_go (fun q => q == 10 || q == 67) 60 ?_
  have hpl := k_pl_lt (k_rng x) h0
  have e := k_pl_eq (k_rng x) h0 h1
  unfold k_rng at e
  simp only [qX4_drawJudges, j_f4, j_m4, j_ty, tyX4, ↓j_kt, ↓j_sel, ↓j_run_0, ↓j_run_s, ↓j_wp, ↓j_pi, ↓j_pii, ↓j_pl, ↓j_pll, ↓j_pli, ↓j_pr, ↓j_pri, ↓j_prii, ↓j_pvr, ↓j_pop, ↓j_gi, ↓j_gl, ↓j_ga, ↓j_ob, ↓j_ar, ↓j_fd, ↓j_fo, ↓j_mo, ↓j_br, ↓j_to, ↓j_lo, ↓j_scr, ↓j_co, ↓j_no, j_nf, j_rt, j_ld, j_st1, j_st2, j_k1, j_ci, j_fin, j_sh, j_shl, Option.map_some, Option.map_none, Option.toList_some, Option.toList_none, List.cons_append, List.nil_append, List.map_cons, List.map_nil, List.sum_cons, List.sum_nil, Value.category, List.getElem?_cons_zero, List.getElem?_cons_succ, List.length_cons, List.length_nil, true_and, and_true, if_true, if_false, ↓reduceIte, Bool.false_eq_true, Bool.true_eq_false, reduceCtorEq, Nat.reduceAdd, Nat.reduceLT, Nat.reduceLeDiff, Nat.reduceEqDiff, Nat.reduceBEq, Int.cast_ofNat_Int, Int.reduceAdd, Int.reduceNeg, Int.reduceSub, Int.reduceToNat, Int.reduceLE, Nat.zero_le, false_implies, implies_true, beq_self_eq_true, Bool.and_true, Bool.and_false, Bool.or_false, Bool.false_or, Bool.or_true, Bool.true_or, Bool.and_self, Bool.or_self, Nat.zero_add, Nat.add_zero, or_false, or_true, true_or, false_or, j_b0, j_b1, j_b2, j_b3, j_01, j_inb, and_self, Classical.not_not, Int32.reduceLE, Int32.reduceLT, Int32.reduceAdd, j_ne, eq_self, not_true_eq_false, not_false_eq_true, forall_const, and_false, false_and, j_sc, j_ent, Nat.reduceSub, List.replicate_zero, List.replicate_succ, j_longs, e, n_i3, nI_cl' (show 3 * p + i < 1000000 by omega), nI_cl' (show k_pl (x * 6364136223846793005 + 1442695040888963407) f < 1000000 by unfold k_rng at hpl; omega), nI_dec h0]
  have a1 : nI i < 3 := (nI_lt' (b := 3) (by omega) (by omega)).mpr hi
  have a2 : 0 < nI f := (nI_lt' (a := 0) (by omega) (by omega)).mpr h0
  refine ⟨fun h => by grind, fun _ => ⟨fun h => by grind, fun _ => ⟨lN_ne0 h0 h1, n30 (by unfold k_rng at hpl; omega), n120 (by omega), ?_⟩⟩⟩
  have hm : j_up μ 39 (3 * p + i) (μ 41 (k_pl (x * 6364136223846793005 + 1442695040888963407) f)) = j_row (j_up μ 39 (3 * p + i) (μ 41 (k_pl (k_rng x) f))) 41 (k_mv (μ 41) (k_pl (k_rng x) f) (k_pl (k_rng x) f)) := by
    have e2 : k_mv (μ 41) (k_pl (k_rng x) f) (k_pl (k_rng x) f) = (j_up μ 39 (3 * p + i) (μ 41 (k_pl (k_rng x) f))) 41 := by
      rw [j_un _ _ _ (by decide)]
      funext j
      unfold k_mv
      rw [if_neg (by omega)]
    rw [e2, j_row_self]
    rfl
  rw [hm]
  refine l_X4_draw2 (f := f - 1) (by omega) ?_ (f - 1 - k_pl (k_rng x) f) (k_pl (k_rng x) f) (by omega) (Nat.le_refl _)
  refine j_go (fun q => q == 10 || q == 67) 60 ?_
  simp only [qX4_drawJudges, j_f4, j_m4, j_ty, tyX4, ↓j_kt, ↓j_sel, ↓j_run_0, ↓j_run_s, ↓j_wp, ↓j_pi, ↓j_pii, ↓j_pl, ↓j_pll, ↓j_pli, ↓j_pr, ↓j_pri, ↓j_prii, ↓j_pvr, ↓j_pop, ↓j_gi, ↓j_gl, ↓j_ga, ↓j_ob, ↓j_ar, ↓j_fd, ↓j_fo, ↓j_mo, ↓j_br, ↓j_to, ↓j_lo, ↓j_scr, ↓j_co, ↓j_no, j_nf, j_rt, j_ld, j_st1, j_st2, j_k1, j_ci, j_fin, j_sh, j_shl, Option.map_some, Option.map_none, Option.toList_some, Option.toList_none, List.cons_append, List.nil_append, List.map_cons, List.map_nil, List.sum_cons, List.sum_nil, Value.category, List.getElem?_cons_zero, List.getElem?_cons_succ, List.length_cons, List.length_nil, true_and, and_true, if_true, if_false, ↓reduceIte, Bool.false_eq_true, Bool.true_eq_false, reduceCtorEq, Nat.reduceAdd, Nat.reduceLT, Nat.reduceLeDiff, Nat.reduceEqDiff, Nat.reduceBEq, Int.cast_ofNat_Int, Int.reduceAdd, Int.reduceNeg, Int.reduceSub, Int.reduceToNat, Int.reduceLE, Nat.zero_le, false_implies, implies_true, beq_self_eq_true, Bool.and_true, Bool.and_false, Bool.or_false, Bool.false_or, Bool.or_true, Bool.true_or, Bool.and_self, Bool.or_self, Nat.zero_add, Nat.add_zero, or_false, or_true, true_or, false_or, j_b0, j_b1, j_b2, j_b3, j_01, j_inb, and_self, Classical.not_not, Int32.reduceLE, Int32.reduceLT, Int32.reduceAdd, j_ne, eq_self, not_true_eq_false, not_false_eq_true, forall_const, and_false, false_and, j_sc, j_ent, Nat.reduceSub, List.replicate_zero, List.replicate_succ, nI_1]
  exact hQ _ _
set_option maxRecDepth 100000 in
theorem f_X4_drawJudges (μ : j_M) (p f : Nat) (x : Int64) (hp : p < 40) (h0 : 3 ≤ f) (h1 : f ≤ 30) : j_R 0 yX4_drawJudges [.ref 36, .int (nI p), .ref 41, .int (nI f), .long x] μ (fun r m => r = none ∧ m = k_dr (k_dr (k_dr μ p 0 x f) p 1 (k_rng x) (f - 1)) p 2 (k_rng (k_rng x)) (f - 2)) := by
  refine eX4_drawJudges (Nat.le_of_ble_eq_true rfl) (j_go (fun q => q == 10) 20 ?_)
  simp only [qX4_drawJudges, j_f4, j_m4, j_ty, tyX4, ↓j_kt, ↓j_sel, ↓j_run_0, ↓j_run_s, ↓j_wp, ↓j_pi, ↓j_pii, ↓j_pl, ↓j_pll, ↓j_pli, ↓j_pr, ↓j_pri, ↓j_prii, ↓j_pvr, ↓j_pop, ↓j_gi, ↓j_gl, ↓j_ga, ↓j_ob, ↓j_ar, ↓j_fd, ↓j_fo, ↓j_mo, ↓j_br, ↓j_to, ↓j_lo, ↓j_scr, ↓j_co, ↓j_no, j_nf, j_rt, j_ld, j_st1, j_st2, j_k1, j_ci, j_fin, j_sh, j_shl, Option.map_some, Option.map_none, Option.toList_some, Option.toList_none, List.cons_append, List.nil_append, List.map_cons, List.map_nil, List.sum_cons, List.sum_nil, Value.category, List.getElem?_cons_zero, List.getElem?_cons_succ, List.length_cons, List.length_nil, true_and, and_true, if_true, if_false, ↓reduceIte, Bool.false_eq_true, Bool.true_eq_false, reduceCtorEq, Nat.reduceAdd, Nat.reduceLT, Nat.reduceLeDiff, Nat.reduceEqDiff, Nat.reduceBEq, Int.cast_ofNat_Int, Int.reduceAdd, Int.reduceNeg, Int.reduceSub, Int.reduceToNat, Int.reduceLE, Nat.zero_le, false_implies, implies_true, beq_self_eq_true, Bool.and_true, Bool.and_false, Bool.or_false, Bool.false_or, Bool.or_true, Bool.true_or, Bool.and_self, Bool.or_self, Nat.zero_add, Nat.add_zero, or_false, or_true, true_or, false_or, j_b0, j_b1, j_b2, j_b3, j_01, j_inb, and_self, Classical.not_not, Int32.reduceLE, Int32.reduceLT, Int32.reduceAdd, j_ne, eq_self, not_true_eq_false, not_false_eq_true, forall_const, and_false, false_and, j_sc, j_ent, Nat.reduceSub, List.replicate_zero, List.replicate_succ]
  refine l_X4_draw1 (i := 0) hp (by decide) (by omega) (by omega) (fun _ _ => ?_)
  refine l_X4_draw1 (i := 1) (f := f - 1) hp (by decide) (by omega) (by omega) (fun _ _ => ?_)
  refine l_X4_draw1 (i := 2) (f := f - 1 - 1) hp (by decide) (by omega) (by omega) (fun _ _ => ?_)
  refine j_go (fun q => false) 20 ?_
  simp only [qX4_drawJudges, j_f4, j_m4, j_ty, tyX4, ↓j_kt, ↓j_sel, ↓j_run_0, ↓j_run_s, ↓j_wp, ↓j_pi, ↓j_pii, ↓j_pl, ↓j_pll, ↓j_pli, ↓j_pr, ↓j_pri, ↓j_prii, ↓j_pvr, ↓j_pop, ↓j_gi, ↓j_gl, ↓j_ga, ↓j_ob, ↓j_ar, ↓j_fd, ↓j_fo, ↓j_mo, ↓j_br, ↓j_to, ↓j_lo, ↓j_scr, ↓j_co, ↓j_no, j_nf, j_rt, j_ld, j_st1, j_st2, j_k1, j_ci, j_fin, j_sh, j_shl, Option.map_some, Option.map_none, Option.toList_some, Option.toList_none, List.cons_append, List.nil_append, List.map_cons, List.map_nil, List.sum_cons, List.sum_nil, Value.category, List.getElem?_cons_zero, List.getElem?_cons_succ, List.length_cons, List.length_nil, true_and, and_true, if_true, if_false, ↓reduceIte, Bool.false_eq_true, Bool.true_eq_false, reduceCtorEq, Nat.reduceAdd, Nat.reduceLT, Nat.reduceLeDiff, Nat.reduceEqDiff, Nat.reduceBEq, Int.cast_ofNat_Int, Int.reduceAdd, Int.reduceNeg, Int.reduceSub, Int.reduceToNat, Int.reduceLE, Nat.zero_le, false_implies, implies_true, beq_self_eq_true, Bool.and_true, Bool.and_false, Bool.or_false, Bool.false_or, Bool.or_true, Bool.true_or, Bool.and_self, Bool.or_self, Nat.zero_add, Nat.add_zero, or_false, or_true, true_or, false_or, j_b0, j_b1, j_b2, j_b3, j_01, j_inb, and_self, Classical.not_not, Int32.reduceLE, Int32.reduceLT, Int32.reduceAdd, j_ne, eq_self, not_true_eq_false, not_false_eq_true, forall_const, and_false, false_and, j_sc, j_ent, Nat.reduceSub, List.replicate_zero, List.replicate_succ]
  refine ⟨fun _ => rfl, fun h => absurd h (by decide)⟩
/-- the points of a new piece -/
def k_cl (G : Nat → Int32) (p n : Nat) : Nat → Int32 := fun j => if 12 * p ≤ j ∧ j < 12 * p + n then -1 else G j
theorem k_cl_s (G : Nat → Int32) (p n : Nat) : upd (k_cl G p n) (12 * p + n) (-1) = k_cl G p (n + 1) := by
  funext j
  unfold upd k_cl
  by_cases h1 : j = 12 * p + n
  · subst h1
    rw [if_pos rfl, if_pos (by omega)]
  · rw [if_neg h1]
    by_cases h2 : 12 * p ≤ j ∧ j < 12 * p + n
    · rw [if_pos h2, if_pos (by omega)]
    · rw [if_neg h2, if_neg (by omega)]
set_option maxRecDepth 100000 in
theorem l_X4_add {μ : j_M} {p : Nat} {G : Nat → Int32} {v1 v2 v3 v4 : Option Value} {Q : j_Q} (hp : p < 40) (hQ : j_J cX4_add 4 8 (some .int) false 1 none Q j_SH 0 0 52 [some (.ref 36), v1, v2, v3, v4, none, some (.int (nI p)), none] [] (j_row μ 40 (k_cl G p 12))) : ∀ (k i : Nat), i + k = 12 → j_J cX4_add 4 8 (some .int) false 1 none Q j_SH 0 0 25 [some (.ref 36), v1, v2, v3, v4, none, some (.int (nI p)), some (.int (nI i))] [] (j_row μ 40 (k_cl G p i)) := by
  intro k
  induction k with
  | zero =>
    intro i hi
    have e : i = 12 := by omega
    subst e
    refine j_go (fun q => q == 25 || q == 52) 30 ?_
    simp only [qX4_add, j_f4, j_m4, j_ty, tyX4, ↓j_kt, ↓j_sel, ↓j_run_0, ↓j_run_s, ↓j_wp, ↓j_pi, ↓j_pii, ↓j_pl, ↓j_pll, ↓j_pli, ↓j_pr, ↓j_pri, ↓j_prii, ↓j_pvr, ↓j_pop, ↓j_gi, ↓j_gl, ↓j_ga, ↓j_ob, ↓j_ar, ↓j_fd, ↓j_fo, ↓j_mo, ↓j_br, ↓j_to, ↓j_lo, ↓j_scr, ↓j_co, ↓j_no, j_nf, j_rt, j_ld, j_st1, j_st2, j_k1, j_ci, j_fin, j_sh, j_shl, Option.map_some, Option.map_none, Option.toList_some, Option.toList_none, List.cons_append, List.nil_append, List.map_cons, List.map_nil, List.sum_cons, List.sum_nil, Value.category, List.getElem?_cons_zero, List.getElem?_cons_succ, List.length_cons, List.length_nil, true_and, and_true, if_true, if_false, ↓reduceIte, Bool.false_eq_true, Bool.true_eq_false, reduceCtorEq, Nat.reduceAdd, Nat.reduceLT, Nat.reduceLeDiff, Nat.reduceEqDiff, Nat.reduceBEq, Int.cast_ofNat_Int, Int.reduceAdd, Int.reduceNeg, Int.reduceSub, Int.reduceToNat, Int.reduceLE, Nat.zero_le, false_implies, implies_true, beq_self_eq_true, Bool.and_true, Bool.and_false, Bool.or_false, Bool.false_or, Bool.or_true, Bool.true_or, Bool.and_self, Bool.or_self, Nat.zero_add, Nat.add_zero, or_false, or_true, true_or, false_or, j_b0, j_b1, j_b2, j_b3, j_01, j_inb, and_self, Classical.not_not, Int32.reduceLE, Int32.reduceLT, Int32.reduceAdd, j_ne, eq_self, not_true_eq_false, not_false_eq_true, forall_const, and_false, false_and, j_sc, j_ent, Nat.reduceSub, List.replicate_zero, List.replicate_succ]
    refine ⟨fun _ => ?_, fun h => absurd h (by decide)⟩
    exact hQ.le ⟨Or.inr rfl, Or.inr rfl, Or.inr rfl, Or.inr rfl, Or.inr rfl, Or.inr rfl, Or.inr rfl, Or.inl rfl, trivial⟩
  | succ k ih =>
    intro i hi
    refine j_go (fun q => q == 25 || q == 52) 30 ?_
    simp only [qX4_add, j_f4, j_m4, j_ty, tyX4, ↓j_kt, ↓j_sel, ↓j_run_0, ↓j_run_s, ↓j_wp, ↓j_pi, ↓j_pii, ↓j_pl, ↓j_pll, ↓j_pli, ↓j_pr, ↓j_pri, ↓j_prii, ↓j_pvr, ↓j_pop, ↓j_gi, ↓j_gl, ↓j_ga, ↓j_ob, ↓j_ar, ↓j_fd, ↓j_fo, ↓j_mo, ↓j_br, ↓j_to, ↓j_lo, ↓j_scr, ↓j_co, ↓j_no, j_nf, j_rt, j_ld, j_st1, j_st2, j_k1, j_ci, j_fin, j_sh, j_shl, Option.map_some, Option.map_none, Option.toList_some, Option.toList_none, List.cons_append, List.nil_append, List.map_cons, List.map_nil, List.sum_cons, List.sum_nil, Value.category, List.getElem?_cons_zero, List.getElem?_cons_succ, List.length_cons, List.length_nil, true_and, and_true, if_true, if_false, ↓reduceIte, Bool.false_eq_true, Bool.true_eq_false, reduceCtorEq, Nat.reduceAdd, Nat.reduceLT, Nat.reduceLeDiff, Nat.reduceEqDiff, Nat.reduceBEq, Int.cast_ofNat_Int, Int.reduceAdd, Int.reduceNeg, Int.reduceSub, Int.reduceToNat, Int.reduceLE, Nat.zero_le, false_implies, implies_true, beq_self_eq_true, Bool.and_true, Bool.and_false, Bool.or_false, Bool.false_or, Bool.or_true, Bool.true_or, Bool.and_self, Bool.or_self, Nat.zero_add, Nat.add_zero, or_false, or_true, true_or, false_or, j_b0, j_b1, j_b2, j_b3, j_01, j_inb, and_self, Classical.not_not, Int32.reduceLE, Int32.reduceLT, Int32.reduceAdd, j_ne, eq_self, not_true_eq_false, not_false_eq_true, forall_const, and_false, false_and, j_sc, j_ent, Nat.reduceSub, List.replicate_zero, List.replicate_succ, n_i12, nI_cl' (show 12 * p + i < 1000000 by omega), nI_1, j_up_up, k_cl_s]
    have h12 : nI i < 12 := (nI_lt' (b := 12) (by omega) (by omega)).mpr (by omega)
    exact ⟨fun h => by grind, fun _ => ⟨n480 (by omega), ih (i + 1) (by omega)⟩⟩
/-- the memory with a new piece, before its judges are drawn -/
def k_np (μ : j_M) (p : Nat) (w : Int32) : j_M := j_row (j_up (j_up μ 37 p w) 38 p (-1)) 40 (k_cl (μ 40) p 12)
set_option maxRecDepth 100000 in
theorem f_X4_add (μ : j_M) (p f : Nat) (w : Int32) (x : Int64) (hs : μ 36 4 = nI p) (hp : p < 40) (h0 : 3 ≤ f) (h1 : f ≤ 30) : j_R 1 yX4_add [.ref 36, .int w, .ref 41, .int (nI f), .long x] μ (fun r m => r = some (nI p) ∧ m = j_up (k_dr (k_dr (k_dr (k_np μ p w) p 0 x f) p 1 (k_rng x) (f - 1)) p 2 (k_rng (k_rng x)) (f - 2)) 36 4 (nI (p + 1))) := by
  refine eX4_add (Nat.le_of_ble_eq_true rfl) (j_go (fun q => q == 25) 40 ?_)
  simp only [qX4_add, j_f4, j_m4, j_ty, tyX4, ↓j_kt, ↓j_sel, ↓j_run_0, ↓j_run_s, ↓j_wp, ↓j_pi, ↓j_pii, ↓j_pl, ↓j_pll, ↓j_pli, ↓j_pr, ↓j_pri, ↓j_prii, ↓j_pvr, ↓j_pop, ↓j_gi, ↓j_gl, ↓j_ga, ↓j_ob, ↓j_ar, ↓j_fd, ↓j_fo, ↓j_mo, ↓j_br, ↓j_to, ↓j_lo, ↓j_scr, ↓j_co, ↓j_no, j_nf, j_rt, j_ld, j_st1, j_st2, j_k1, j_ci, j_fin, j_sh, j_shl, Option.map_some, Option.map_none, Option.toList_some, Option.toList_none, List.cons_append, List.nil_append, List.map_cons, List.map_nil, List.sum_cons, List.sum_nil, Value.category, List.getElem?_cons_zero, List.getElem?_cons_succ, List.length_cons, List.length_nil, true_and, and_true, if_true, if_false, ↓reduceIte, Bool.false_eq_true, Bool.true_eq_false, reduceCtorEq, Nat.reduceAdd, Nat.reduceLT, Nat.reduceLeDiff, Nat.reduceEqDiff, Nat.reduceBEq, Int.cast_ofNat_Int, Int.reduceAdd, Int.reduceNeg, Int.reduceSub, Int.reduceToNat, Int.reduceLE, Nat.zero_le, false_implies, implies_true, beq_self_eq_true, Bool.and_true, Bool.and_false, Bool.or_false, Bool.false_or, Bool.or_true, Bool.true_or, Bool.and_self, Bool.or_self, Nat.zero_add, Nat.add_zero, or_false, or_true, true_or, false_or, j_b0, j_b1, j_b2, j_b3, j_01, j_inb, and_self, Classical.not_not, Int32.reduceLE, Int32.reduceLT, Int32.reduceAdd, j_ne, eq_self, not_true_eq_false, not_false_eq_true, forall_const, and_false, false_and, j_sc, j_ent, Nat.reduceSub, List.replicate_zero, List.replicate_succ, hs, nI_cl' (show p < 1000000 by omega)]
  refine ⟨n40 hp, n40 hp, ?_⟩
  have e : j_up (j_up μ 37 p w) 38 p (-1) = j_row (j_up (j_up μ 37 p w) 38 p (-1)) 40 (k_cl (μ 40) p 0) := by
    have e2 : k_cl (μ 40) p 0 = (j_up (j_up μ 37 p w) 38 p (-1)) 40 := by
      rw [j_un _ _ _ (by decide), j_un _ _ _ (by decide)]
      funext j
      unfold k_cl
      rw [if_neg (by omega)]
    rw [e2, j_row_self]
  rw [e]
  refine l_X4_add hp ?_ 12 0 (by omega)
  refine j_go (fun q => false) 40 ?_
  simp only [qX4_add, j_f4, j_m4, j_ty, tyX4, ↓j_kt, ↓j_sel, ↓j_run_0, ↓j_run_s, ↓j_wp, ↓j_pi, ↓j_pii, ↓j_pl, ↓j_pll, ↓j_pli, ↓j_pr, ↓j_pri, ↓j_prii, ↓j_pvr, ↓j_pop, ↓j_gi, ↓j_gl, ↓j_ga, ↓j_ob, ↓j_ar, ↓j_fd, ↓j_fo, ↓j_mo, ↓j_br, ↓j_to, ↓j_lo, ↓j_scr, ↓j_co, ↓j_no, j_nf, j_rt, j_ld, j_st1, j_st2, j_k1, j_ci, j_fin, j_sh, j_shl, Option.map_some, Option.map_none, Option.toList_some, Option.toList_none, List.cons_append, List.nil_append, List.map_cons, List.map_nil, List.sum_cons, List.sum_nil, Value.category, List.getElem?_cons_zero, List.getElem?_cons_succ, List.length_cons, List.length_nil, true_and, and_true, if_true, if_false, ↓reduceIte, Bool.false_eq_true, Bool.true_eq_false, reduceCtorEq, Nat.reduceAdd, Nat.reduceLT, Nat.reduceLeDiff, Nat.reduceEqDiff, Nat.reduceBEq, Int.cast_ofNat_Int, Int.reduceAdd, Int.reduceNeg, Int.reduceSub, Int.reduceToNat, Int.reduceLE, Nat.zero_le, false_implies, implies_true, beq_self_eq_true, Bool.and_true, Bool.and_false, Bool.or_false, Bool.false_or, Bool.or_true, Bool.true_or, Bool.and_self, Bool.or_self, Nat.zero_add, Nat.add_zero, or_false, or_true, true_or, false_or, j_b0, j_b1, j_b2, j_b3, j_01, j_inb, and_self, Classical.not_not, Int32.reduceLE, Int32.reduceLT, Int32.reduceAdd, j_ne, eq_self, not_true_eq_false, not_false_eq_true, forall_const, and_false, false_and, j_sc, j_ent, Nat.reduceSub, List.replicate_zero, List.replicate_succ]
  refine j_use1 (f_X4_drawJudges _ p f x hp h0 h1) (by decide) ?_
  have hk : ∀ (m : j_M) (p i : Nat) (x : Int64) (f : Nat), k_dr m p i x f 36 = m 36 := by
    intro m p i x f
    unfold k_dr
    rw [j_rn' _ _ (by decide), j_un _ _ _ (by decide)]
  have hm : k_dr (k_dr (k_dr (j_row (j_up (j_up μ 37 p w) 38 p (-1)) 40 (k_cl (μ 40) p 12)) p 0 x f) p 1 (k_rng x) (f - 1)) p 2 (k_rng (k_rng x)) (f - 2) 36 4 = nI p := by
    rw [hk, hk, hk, j_rn' _ _ (by decide), j_un _ _ _ (by decide), j_un _ _ _ (by decide)]
    exact hs
  simp only [qX4_add, j_f4, j_m4, j_ty, tyX4, ↓j_kt, ↓j_sel, ↓j_run_0, ↓j_run_s, ↓j_wp, ↓j_pi, ↓j_pii, ↓j_pl, ↓j_pll, ↓j_pli, ↓j_pr, ↓j_pri, ↓j_prii, ↓j_pvr, ↓j_pop, ↓j_gi, ↓j_gl, ↓j_ga, ↓j_ob, ↓j_ar, ↓j_fd, ↓j_fo, ↓j_mo, ↓j_br, ↓j_to, ↓j_lo, ↓j_scr, ↓j_co, ↓j_no, j_nf, j_rt, j_ld, j_st1, j_st2, j_k1, j_ci, j_fin, j_sh, j_shl, Option.map_some, Option.map_none, Option.toList_some, Option.toList_none, List.cons_append, List.nil_append, List.map_cons, List.map_nil, List.sum_cons, List.sum_nil, Value.category, List.getElem?_cons_zero, List.getElem?_cons_succ, List.length_cons, List.length_nil, true_and, and_true, if_true, if_false, ↓reduceIte, Bool.false_eq_true, Bool.true_eq_false, reduceCtorEq, Nat.reduceAdd, Nat.reduceLT, Nat.reduceLeDiff, Nat.reduceEqDiff, Nat.reduceBEq, Int.cast_ofNat_Int, Int.reduceAdd, Int.reduceNeg, Int.reduceSub, Int.reduceToNat, Int.reduceLE, Nat.zero_le, false_implies, implies_true, beq_self_eq_true, Bool.and_true, Bool.and_false, Bool.or_false, Bool.false_or, Bool.or_true, Bool.true_or, Bool.and_self, Bool.or_self, Nat.zero_add, Nat.add_zero, or_false, or_true, true_or, false_or, j_b0, j_b1, j_b2, j_b3, j_01, j_inb, and_self, Classical.not_not, Int32.reduceLE, Int32.reduceLT, Int32.reduceAdd, j_ne, eq_self, not_true_eq_false, not_false_eq_true, forall_const, and_false, false_and, j_sc, j_ent, Nat.reduceSub, List.replicate_zero, List.replicate_succ, hm, nI_1]
  exact rfl
