/-! GuildHouse: mark, piece -/
/-- the memory behind points set -/
def k_sps (μ : j_M) (p i j : Nat) (v t : Int32) : j_M := if k_ex (fun k => decide (upd (μ 40) (12 * p + 4 * i + j) v (12 * p + k) = -1)) 12 = true then j_up μ 40 (12 * p + 4 * i + j) v else j_up (j_up μ 40 (12 * p + 4 * i + j) v) 38 p t
/-- and the owner raised, if it is passed -/
def k_mar (μ : j_M) (p i j : Nat) (v t : Int32) : j_M := if ¬ k_sps μ p i j v t 38 p = -1 ∧ k_rf (k_sps μ p i j v t 40) p = -1 ∧ μ 4 (μ 37 p).toNatClampNeg = -1 then j_up (k_sps μ p i j v t) 4 (μ 37 p).toNatClampNeg t else k_sps μ p i j v t
abbrev g_mc (μ : j_M) (p i j v : Int32) : Prop := g_has (μ 36 4) p ∧ (0 ≤ i ∧ i < 3) ∧ (0 ≤ j ∧ j < 4) ∧ (0 ≤ v ∧ v ≤ 10) ∧ μ 38 p.toNatClampNeg = -1
def g_mark (μ : j_M) (p i j v : Int32) (r : Option Int32) (m : j_M) : Prop := (g_mc μ p i j v ∧ r = some 1 ∧ m = k_mar μ p.toNatClampNeg i.toNatClampNeg j.toNatClampNeg v (μ 0 11)) ∨ (¬ g_mc μ p i j v ∧ r = some 0 ∧ m = μ)
theorem k_sps_o (μ : j_M) (p i j : Nat) (v t : Int32) {b : Nat} (h1 : b ≠ 40) (h2 : b ≠ 38) : k_sps μ p i j v t b = μ b := by
  unfold k_sps
  split
  · rw [j_un _ _ _ h1]
  · rw [j_un _ _ _ h2, j_un _ _ _ h1]
set_option maxRecDepth 100000 in
theorem f_X9_mark (μ : j_M) (p i j v : Int32) {n : Nat} (hs : μ 36 4 = nI n) (hn : n ≤ 40) (ho : ∀ k, k < n → 0 ≤ μ 37 k ∧ μ 37 k < 30) : j_R 3 yX9_mark [.ref 0, .int p, .int i, .int j, .int v] μ (g_mark μ p i j v) := by
  have fin : g_has (μ 36 4) p → ∃ pn : Nat, pn < n ∧ p = nI pn := fun h => vp_in_of (x := p) (n := n) ((j_inl (N := nI n) (nI_toInt (by omega))).mpr (by rw [← hs]; exact h)) (by omega)
  refine eX9_mark (Nat.le_of_ble_eq_true rfl) (j_go (fun _ => false) 80 ?_)
  simp only [qX9_mark, j_f9, j_m9, j_ty, tyX9, ↓j_kt, ↓j_sel, ↓j_run_0, ↓j_run_s, ↓j_wp, ↓j_pi, ↓j_pii, ↓j_pl, ↓j_pll, ↓j_pli, ↓j_pr, ↓j_pri, ↓j_prii, ↓j_pvr, ↓j_pop, ↓j_gi, ↓j_gl, ↓j_ga, ↓j_ob, ↓j_ar, ↓j_fd, ↓j_fo, ↓j_mo, ↓j_br, ↓j_to, ↓j_lo, ↓j_scr, ↓j_co, ↓j_no, j_nf, j_rt, j_ld, j_st1, j_st2, j_k1, j_ci, j_fin, j_sh, j_shl, Option.map_some, Option.map_none, Option.toList_some, Option.toList_none, List.cons_append, List.nil_append, List.map_cons, List.map_nil, List.sum_cons, List.sum_nil, Value.category, List.getElem?_cons_zero, List.getElem?_cons_succ, List.length_cons, List.length_nil, true_and, and_true, if_true, if_false, ↓reduceIte, Bool.false_eq_true, Bool.true_eq_false, reduceCtorEq, Nat.reduceAdd, Nat.reduceLT, Nat.reduceLeDiff, Nat.reduceEqDiff, Nat.reduceBEq, Int.cast_ofNat_Int, Int.reduceAdd, Int.reduceNeg, Int.reduceSub, Int.reduceToNat, Int.reduceLE, Nat.zero_le, false_implies, implies_true, beq_self_eq_true, Bool.and_true, Bool.and_false, Bool.or_false, Bool.false_or, Bool.or_true, Bool.true_or, Bool.and_self, Bool.or_self, Nat.zero_add, Nat.add_zero, or_false, or_true, true_or, false_or, j_b0, ↓j_b1, j_b2, ↓j_b3, j_01, j_inb, and_self, Classical.not_not, Int32.reduceLE, Int32.reduceLT, Int32.reduceAdd, j_ne, eq_self, not_true_eq_false, not_false_eq_true, forall_const, and_false, false_and, j_sc, j_ent, Nat.reduceSub, List.replicate_zero, List.replicate_succ]
  refine j_use1 (f_X4_has μ p) (by decide) ?_
  simp only [qX9_mark, j_f9, j_m9, j_ty, tyX9, ↓j_kt, ↓j_sel, ↓j_run_0, ↓j_run_s, ↓j_wp, ↓j_pi, ↓j_pii, ↓j_pl, ↓j_pll, ↓j_pli, ↓j_pr, ↓j_pri, ↓j_prii, ↓j_pvr, ↓j_pop, ↓j_gi, ↓j_gl, ↓j_ga, ↓j_ob, ↓j_ar, ↓j_fd, ↓j_fo, ↓j_mo, ↓j_br, ↓j_to, ↓j_lo, ↓j_scr, ↓j_co, ↓j_no, j_nf, j_rt, j_ld, j_st1, j_st2, j_k1, j_ci, j_fin, j_sh, j_shl, Option.map_some, Option.map_none, Option.toList_some, Option.toList_none, List.cons_append, List.nil_append, List.map_cons, List.map_nil, List.sum_cons, List.sum_nil, Value.category, List.getElem?_cons_zero, List.getElem?_cons_succ, List.length_cons, List.length_nil, true_and, and_true, if_true, if_false, ↓reduceIte, Bool.false_eq_true, Bool.true_eq_false, reduceCtorEq, Nat.reduceAdd, Nat.reduceLT, Nat.reduceLeDiff, Nat.reduceEqDiff, Nat.reduceBEq, Int.cast_ofNat_Int, Int.reduceAdd, Int.reduceNeg, Int.reduceSub, Int.reduceToNat, Int.reduceLE, Nat.zero_le, false_implies, implies_true, beq_self_eq_true, Bool.and_true, Bool.and_false, Bool.or_false, Bool.false_or, Bool.or_true, Bool.true_or, Bool.and_self, Bool.or_self, Nat.zero_add, Nat.add_zero, or_false, or_true, true_or, false_or, j_b0, ↓j_b1, j_b2, ↓j_b3, j_01, j_inb, and_self, Classical.not_not, Int32.reduceLE, Int32.reduceLT, Int32.reduceAdd, j_ne, eq_self, not_true_eq_false, not_false_eq_true, forall_const, and_false, false_and, j_sc, j_ent, Nat.reduceSub, List.replicate_zero, List.replicate_succ]
  (repeat' (first | refine And.intro ?_ ?_ | intro _)) <;> (first | exact Or.inr ⟨by grind, rfl, rfl⟩ | exact Or.inl ⟨by grind, rfl, rfl⟩ | skip)
  refine j_use1 (f_X4_isJudge μ i) (by decide) ?_
  simp only [qX9_mark, j_f9, j_m9, j_ty, tyX9, ↓j_kt, ↓j_sel, ↓j_run_0, ↓j_run_s, ↓j_wp, ↓j_pi, ↓j_pii, ↓j_pl, ↓j_pll, ↓j_pli, ↓j_pr, ↓j_pri, ↓j_prii, ↓j_pvr, ↓j_pop, ↓j_gi, ↓j_gl, ↓j_ga, ↓j_ob, ↓j_ar, ↓j_fd, ↓j_fo, ↓j_mo, ↓j_br, ↓j_to, ↓j_lo, ↓j_scr, ↓j_co, ↓j_no, j_nf, j_rt, j_ld, j_st1, j_st2, j_k1, j_ci, j_fin, j_sh, j_shl, Option.map_some, Option.map_none, Option.toList_some, Option.toList_none, List.cons_append, List.nil_append, List.map_cons, List.map_nil, List.sum_cons, List.sum_nil, Value.category, List.getElem?_cons_zero, List.getElem?_cons_succ, List.length_cons, List.length_nil, true_and, and_true, if_true, if_false, ↓reduceIte, Bool.false_eq_true, Bool.true_eq_false, reduceCtorEq, Nat.reduceAdd, Nat.reduceLT, Nat.reduceLeDiff, Nat.reduceEqDiff, Nat.reduceBEq, Int.cast_ofNat_Int, Int.reduceAdd, Int.reduceNeg, Int.reduceSub, Int.reduceToNat, Int.reduceLE, Nat.zero_le, false_implies, implies_true, beq_self_eq_true, Bool.and_true, Bool.and_false, Bool.or_false, Bool.false_or, Bool.or_true, Bool.true_or, Bool.and_self, Bool.or_self, Nat.zero_add, Nat.add_zero, or_false, or_true, true_or, false_or, j_b0, ↓j_b1, j_b2, ↓j_b3, j_01, j_inb, and_self, Classical.not_not, Int32.reduceLE, Int32.reduceLT, Int32.reduceAdd, j_ne, eq_self, not_true_eq_false, not_false_eq_true, forall_const, and_false, false_and, j_sc, j_ent, Nat.reduceSub, List.replicate_zero, List.replicate_succ]
  (repeat' (first | refine And.intro ?_ ?_ | intro _)) <;> (first | exact Or.inr ⟨by grind, rfl, rfl⟩ | exact Or.inl ⟨by grind, rfl, rfl⟩ | skip)
  refine j_use1 (f_X4_isPart μ j) (by decide) ?_
  simp only [qX9_mark, j_f9, j_m9, j_ty, tyX9, ↓j_kt, ↓j_sel, ↓j_run_0, ↓j_run_s, ↓j_wp, ↓j_pi, ↓j_pii, ↓j_pl, ↓j_pll, ↓j_pli, ↓j_pr, ↓j_pri, ↓j_prii, ↓j_pvr, ↓j_pop, ↓j_gi, ↓j_gl, ↓j_ga, ↓j_ob, ↓j_ar, ↓j_fd, ↓j_fo, ↓j_mo, ↓j_br, ↓j_to, ↓j_lo, ↓j_scr, ↓j_co, ↓j_no, j_nf, j_rt, j_ld, j_st1, j_st2, j_k1, j_ci, j_fin, j_sh, j_shl, Option.map_some, Option.map_none, Option.toList_some, Option.toList_none, List.cons_append, List.nil_append, List.map_cons, List.map_nil, List.sum_cons, List.sum_nil, Value.category, List.getElem?_cons_zero, List.getElem?_cons_succ, List.length_cons, List.length_nil, true_and, and_true, if_true, if_false, ↓reduceIte, Bool.false_eq_true, Bool.true_eq_false, reduceCtorEq, Nat.reduceAdd, Nat.reduceLT, Nat.reduceLeDiff, Nat.reduceEqDiff, Nat.reduceBEq, Int.cast_ofNat_Int, Int.reduceAdd, Int.reduceNeg, Int.reduceSub, Int.reduceToNat, Int.reduceLE, Nat.zero_le, false_implies, implies_true, beq_self_eq_true, Bool.and_true, Bool.and_false, Bool.or_false, Bool.false_or, Bool.or_true, Bool.true_or, Bool.and_self, Bool.or_self, Nat.zero_add, Nat.add_zero, or_false, or_true, true_or, false_or, j_b0, ↓j_b1, j_b2, ↓j_b3, j_01, j_inb, and_self, Classical.not_not, Int32.reduceLE, Int32.reduceLT, Int32.reduceAdd, j_ne, eq_self, not_true_eq_false, not_false_eq_true, forall_const, and_false, false_and, j_sc, j_ent, Nat.reduceSub, List.replicate_zero, List.replicate_succ]
  (repeat' (first | refine And.intro ?_ ?_ | intro _)) <;> (first | exact Or.inr ⟨by grind, rfl, rfl⟩ | exact Or.inl ⟨by grind, rfl, rfl⟩ | skip)
  rename_i hp hi hj hv0 hv1
  obtain ⟨pn, hpn, rfl⟩ := fin hp
  obtain ⟨i', hi', rfl⟩ := vp_in_of (x := i) (n := 3) ((j_inl (N := 3) (by decide)).mpr hi) (by omega)
  obtain ⟨j', hj', rfl⟩ := vp_in_of (x := j) (n := 4) ((j_inl (N := 4) (by decide)).mpr hj) (by omega)
  refine j_use1 (f_X4_isDone μ pn (by omega)) (by decide) ?_
  simp only [qX9_mark, j_f9, j_m9, j_ty, tyX9, ↓j_kt, ↓j_sel, ↓j_run_0, ↓j_run_s, ↓j_wp, ↓j_pi, ↓j_pii, ↓j_pl, ↓j_pll, ↓j_pli, ↓j_pr, ↓j_pri, ↓j_prii, ↓j_pvr, ↓j_pop, ↓j_gi, ↓j_gl, ↓j_ga, ↓j_ob, ↓j_ar, ↓j_fd, ↓j_fo, ↓j_mo, ↓j_br, ↓j_to, ↓j_lo, ↓j_scr, ↓j_co, ↓j_no, j_nf, j_rt, j_ld, j_st1, j_st2, j_k1, j_ci, j_fin, j_sh, j_shl, Option.map_some, Option.map_none, Option.toList_some, Option.toList_none, List.cons_append, List.nil_append, List.map_cons, List.map_nil, List.sum_cons, List.sum_nil, Value.category, List.getElem?_cons_zero, List.getElem?_cons_succ, List.length_cons, List.length_nil, true_and, and_true, if_true, if_false, ↓reduceIte, Bool.false_eq_true, Bool.true_eq_false, reduceCtorEq, Nat.reduceAdd, Nat.reduceLT, Nat.reduceLeDiff, Nat.reduceEqDiff, Nat.reduceBEq, Int.cast_ofNat_Int, Int.reduceAdd, Int.reduceNeg, Int.reduceSub, Int.reduceToNat, Int.reduceLE, Nat.zero_le, false_implies, implies_true, beq_self_eq_true, Bool.and_true, Bool.and_false, Bool.or_false, Bool.false_or, Bool.or_true, Bool.true_or, Bool.and_self, Bool.or_self, Nat.zero_add, Nat.add_zero, or_false, or_true, true_or, false_or, j_b0, ↓j_b1, j_b2, ↓j_b3, j_01, j_inb, and_self, Classical.not_not, Int32.reduceLE, Int32.reduceLT, Int32.reduceAdd, j_ne, eq_self, not_true_eq_false, not_false_eq_true, forall_const, and_false, false_and, j_sc, j_ent, Nat.reduceSub, List.replicate_zero, List.replicate_succ]
  have hcl := nI_cl' (show pn < 1000000 by omega)
  refine ⟨fun hd => ?_, fun hd => ?_⟩ <;> first
    | exact Or.inr ⟨fun z => hd (by have z5 := z.2.2.2.2; rw [hcl] at z5; exact z5), rfl, rfl⟩
    | skip
  refine j_use1 (f_X4_setPoints μ pn i' j' v (μ 0 11) (by omega) hi' hj') (by decide) ?_
  have hk : (if k_ex (fun k => decide (upd (μ 40) (12 * pn + 4 * i' + j') v (12 * pn + k) = -1)) 12 = true then j_up μ 40 (12 * pn + 4 * i' + j') v else j_up (j_up μ 40 (12 * pn + 4 * i' + j') v) 38 pn (μ 0 11)) = k_sps μ pn i' j' v (μ 0 11) := rfl
  rw [hk]
  have o37 := k_sps_o μ pn i' j' v (μ 0 11) (show (37 : Nat) ≠ 40 by decide) (by decide)
  have o4 := k_sps_o μ pn i' j' v (μ 0 11) (show (4 : Nat) ≠ 40 by decide) (by decide)
  have o0 := k_sps_o μ pn i' j' v (μ 0 11) (show (0 : Nat) ≠ 40 by decide) (by decide)
  have goal1 : ∀ m, m = k_mar μ pn i' j' v (μ 0 11) → g_mark μ (nI pn) (nI i') (nI j') v (some 1) m := by
    intro m e
    refine Or.inl ⟨⟨hp, hi, hj, ⟨hv0, hv1⟩, by rw [hcl]; exact hd⟩, rfl, ?_⟩
    rw [hcl, nI_cl' (show i' < 1000000 by omega), nI_cl' (show j' < 1000000 by omega)]
    exact e
  unfold k_mar at goal1
  generalize k_sps μ pn i' j' v (μ 0 11) = m1 at o37 o4 o0 goal1 ⊢
  simp only [qX9_mark, j_f9, j_m9, j_ty, tyX9, ↓j_kt, ↓j_sel, ↓j_run_0, ↓j_run_s, ↓j_wp, ↓j_pi, ↓j_pii, ↓j_pl, ↓j_pll, ↓j_pli, ↓j_pr, ↓j_pri, ↓j_prii, ↓j_pvr, ↓j_pop, ↓j_gi, ↓j_gl, ↓j_ga, ↓j_ob, ↓j_ar, ↓j_fd, ↓j_fo, ↓j_mo, ↓j_br, ↓j_to, ↓j_lo, ↓j_scr, ↓j_co, ↓j_no, j_nf, j_rt, j_ld, j_st1, j_st2, j_k1, j_ci, j_fin, j_sh, j_shl, Option.map_some, Option.map_none, Option.toList_some, Option.toList_none, List.cons_append, List.nil_append, List.map_cons, List.map_nil, List.sum_cons, List.sum_nil, Value.category, List.getElem?_cons_zero, List.getElem?_cons_succ, List.length_cons, List.length_nil, true_and, and_true, if_true, if_false, ↓reduceIte, Bool.false_eq_true, Bool.true_eq_false, reduceCtorEq, Nat.reduceAdd, Nat.reduceLT, Nat.reduceLeDiff, Nat.reduceEqDiff, Nat.reduceBEq, Int.cast_ofNat_Int, Int.reduceAdd, Int.reduceNeg, Int.reduceSub, Int.reduceToNat, Int.reduceLE, Nat.zero_le, false_implies, implies_true, beq_self_eq_true, Bool.and_true, Bool.and_false, Bool.or_false, Bool.false_or, Bool.or_true, Bool.true_or, Bool.and_self, Bool.or_self, Nat.zero_add, Nat.add_zero, or_false, or_true, true_or, false_or, j_b0, ↓j_b1, j_b2, ↓j_b3, j_01, j_inb, and_self, Classical.not_not, Int32.reduceLE, Int32.reduceLT, Int32.reduceAdd, j_ne, eq_self, not_true_eq_false, not_false_eq_true, forall_const, and_false, false_and, j_sc, j_ent, Nat.reduceSub, List.replicate_zero, List.replicate_succ]
  refine j_use1 (f_X4_isPassed m1 pn (by omega)) (by decide) ?_
  simp only [qX9_mark, j_f9, j_m9, j_ty, tyX9, ↓j_kt, ↓j_sel, ↓j_run_0, ↓j_run_s, ↓j_wp, ↓j_pi, ↓j_pii, ↓j_pl, ↓j_pll, ↓j_pli, ↓j_pr, ↓j_pri, ↓j_prii, ↓j_pvr, ↓j_pop, ↓j_gi, ↓j_gl, ↓j_ga, ↓j_ob, ↓j_ar, ↓j_fd, ↓j_fo, ↓j_mo, ↓j_br, ↓j_to, ↓j_lo, ↓j_scr, ↓j_co, ↓j_no, j_nf, j_rt, j_ld, j_st1, j_st2, j_k1, j_ci, j_fin, j_sh, j_shl, Option.map_some, Option.map_none, Option.toList_some, Option.toList_none, List.cons_append, List.nil_append, List.map_cons, List.map_nil, List.sum_cons, List.sum_nil, Value.category, List.getElem?_cons_zero, List.getElem?_cons_succ, List.length_cons, List.length_nil, true_and, and_true, if_true, if_false, ↓reduceIte, Bool.false_eq_true, Bool.true_eq_false, reduceCtorEq, Nat.reduceAdd, Nat.reduceLT, Nat.reduceLeDiff, Nat.reduceEqDiff, Nat.reduceBEq, Int.cast_ofNat_Int, Int.reduceAdd, Int.reduceNeg, Int.reduceSub, Int.reduceToNat, Int.reduceLE, Nat.zero_le, false_implies, implies_true, beq_self_eq_true, Bool.and_true, Bool.and_false, Bool.or_false, Bool.false_or, Bool.or_true, Bool.true_or, Bool.and_self, Bool.or_self, Nat.zero_add, Nat.add_zero, or_false, or_true, true_or, false_or, j_b0, ↓j_b1, j_b2, ↓j_b3, j_01, j_inb, and_self, Classical.not_not, Int32.reduceLE, Int32.reduceLT, Int32.reduceAdd, j_ne, eq_self, not_true_eq_false, not_false_eq_true, forall_const, and_false, false_and, j_sc, j_ent, Nat.reduceSub, List.replicate_zero, List.replicate_succ, o37, o0, hcl]
  have hop := ho pn hpn
  refine ⟨fun k => ?_, fun k => ⟨n40 (by omega), ?_⟩⟩
  · refine goal1 m1 ?_
    rw [if_neg (fun z => k ⟨z.1, z.2.1⟩)]
  · refine j_use1 (f_X3_raise m1 (μ 37 pn) (μ 0 11) hop.1 hop.2) (by decide) ?_
    simp only [qX9_mark, j_f9, j_m9, j_ty, tyX9, ↓j_kt, ↓j_sel, ↓j_run_0, ↓j_run_s, ↓j_wp, ↓j_pi, ↓j_pii, ↓j_pl, ↓j_pll, ↓j_pli, ↓j_pr, ↓j_pri, ↓j_prii, ↓j_pvr, ↓j_pop, ↓j_gi, ↓j_gl, ↓j_ga, ↓j_ob, ↓j_ar, ↓j_fd, ↓j_fo, ↓j_mo, ↓j_br, ↓j_to, ↓j_lo, ↓j_scr, ↓j_co, ↓j_no, j_nf, j_rt, j_ld, j_st1, j_st2, j_k1, j_ci, j_fin, j_sh, j_shl, Option.map_some, Option.map_none, Option.toList_some, Option.toList_none, List.cons_append, List.nil_append, List.map_cons, List.map_nil, List.sum_cons, List.sum_nil, Value.category, List.getElem?_cons_zero, List.getElem?_cons_succ, List.length_cons, List.length_nil, true_and, and_true, if_true, if_false, ↓reduceIte, Bool.false_eq_true, Bool.true_eq_false, reduceCtorEq, Nat.reduceAdd, Nat.reduceLT, Nat.reduceLeDiff, Nat.reduceEqDiff, Nat.reduceBEq, Int.cast_ofNat_Int, Int.reduceAdd, Int.reduceNeg, Int.reduceSub, Int.reduceToNat, Int.reduceLE, Nat.zero_le, false_implies, implies_true, beq_self_eq_true, Bool.and_true, Bool.and_false, Bool.or_false, Bool.false_or, Bool.or_true, Bool.true_or, Bool.and_self, Bool.or_self, Nat.zero_add, Nat.add_zero, or_false, or_true, true_or, false_or, j_b0, ↓j_b1, j_b2, ↓j_b3, j_01, j_inb, and_self, Classical.not_not, Int32.reduceLE, Int32.reduceLT, Int32.reduceAdd, j_ne, eq_self, not_true_eq_false, not_false_eq_true, forall_const, and_false, false_and, j_sc, j_ent, Nat.reduceSub, List.replicate_zero, List.replicate_succ]
    refine goal1 _ ?_
    rw [o4]
    by_cases k2 : μ 4 (μ 37 pn).toNatClampNeg = -1
    · rw [if_pos k2, if_pos ⟨k.1, k.2, k2⟩]
    · rw [if_neg k2, if_neg (fun z => k2 z.2.2)]
/-- a piece may be made: p's, with f judges fit -/
def g_pc (μ : j_M) (nt ng nq ns : Nat) (L : Nat → Nat) (p : Int32) : Prop := (g_alive (μ 1 6) (μ 5) p ∧ μ 4 p.toNatClampNeg = -1) ∧ nq < 40 ∧ k_ex (fun k => decide (μ 37 k = p ∧ μ 38 k = -1)) nq = false
/-- what piece does: refused at one of its tests, or made -/
def g_piece (μ : j_M) (np nt ng nq ns : Nat) (L : Nat → Nat) (p : Int32) (x : Int64) (r : Option Int32) (m : j_M) : Prop :=
  (¬ g_pc μ nt ng nq ns L p ∧ r = some (-1) ∧ x_sc μ m) ∨
  (g_pc μ nt ng nq ns L p ∧ ∃ c, m_x μ nt ng nq ns L p (μ 0 11) (μ 0 11) (some c) ∧ ((c = 0 ∨ cnt (g_fit μ nt p) np < 3) ∧ r = some (-1) ∧ x_sc μ m ∨ (¬ c = 0 ∧ 3 ≤ cnt (g_fit μ nt p) np) ∧ r = some (nI nq) ∧ ∃ m1, x_sc μ m1 ∧ m1 41 = k_row (g_fit μ nt p) (m1 41) np ∧ m = j_up (k_dr (k_dr (k_dr (k_np m1 nq p) nq 0 x (cnt (g_fit μ nt p) np)) nq 1 (k_rng x) (cnt (g_fit μ nt p) np - 1)) nq 2 (k_rng (k_rng x)) (cnt (g_fit μ nt p) np - 2)) 36 4 (nI (nq + 1))))
theorem k_row_idem (g : Nat → Bool) (f : Nat → Int32) (n : Nat) : k_row g (k_row g f n) n = k_row g f n := by
  have out : ∀ (n : Nat) (f : Nat → Int32) (j : Nat), cnt g n ≤ j → k_row g f n j = f j := by
    intro n
    induction n with
    | zero => intro f j _; rfl
    | succ n ih =>
      intro f j h
      unfold cnt at h
      unfold k_row
      by_cases hg : g n = true
      · rw [if_pos hg] at h
        rw [if_pos hg, u_n _ _ (by omega)]
        exact ih f j (by omega)
      · rw [if_neg hg] at h
        rw [if_neg hg]
        exact ih f j (by omega)
  funext j
  by_cases h : j < cnt g n
  · exact k_row_f g _ _ n j h
  · exact out n _ j (by omega)
