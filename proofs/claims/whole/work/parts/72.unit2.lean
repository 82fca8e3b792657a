/-! the reference's unit, part, tests, holds -/
theorem c_cl : (0 : Int32).toNatClampNeg = 0 ∧ (1 : Int32).toNatClampNeg = 1 ∧ (2 : Int32).toNatClampNeg = 2 ∧ (3 : Int32).toNatClampNeg = 3 ∧ (4 : Int32).toNatClampNeg = 4 ∧ (5 : Int32).toNatClampNeg = 5 ∧ (6 : Int32).toNatClampNeg = 6 ∧ (7 : Int32).toNatClampNeg = 7 := by decide
theorem n_ne360 : ((360 : Int32) = 0) ↔ False := by decide
theorem d_360 {x : Int32} (h : 0 ≤ x) : 0 ≤ x / 360 := by
  obtain ⟨k, hk, rfl⟩ := nI_of (x := x) (by grind)
  have e := pk_div (a := k) (d := 360) hk (by omega) (by omega)
  rw [show (360 : Int32) = nI 360 from rfl, e]
  exact nI_pos' (Nat.lt_of_le_of_lt (Nat.div_le_self _ _) hk)
theorem w_val_ok {μ0 : j_M} {c : Int32} (h : ∀ w, w < 6 → 0 ≤ μ0 76 w) : ¬ w_val (μ0 76) c = -1 := by
  have h0 := h 0 (by omega)
  have h1 := h 1 (by omega)
  have h2 := h 2 (by omega)
  have h3 := h 3 (by omega)
  have h4 := h 4 (by omega)
  have h5 := h 5 (by omega)
  have h6 := d_360 h0
  unfold w_val
  grind
set_option maxRecDepth 100000 in
theorem l_X10_unit {μ0 m : j_M} {ρ fr n o x y i D D' : Nat} {T f : Nat → Int32} {Q : j_Q} (hK : p_K μ0 ρ fr n T) (ho : o ≤ 8) (hD : 1 ≤ D) (hD' : D' + 1 ≤ D) (hT : o ≤ 7 → p_Ts μ0 T (μ0 76) f n (o + 1) D') (hA : p_A μ0 T (μ0 76) f n o x y i m)
    (hQ1 : ∀ (b : Bool) (k : Nat) (m : j_M), i ≤ k → p_B μ0 T (μ0 76) f n o x (if b = true then y else y / 2 * 2) (fun _ => True) k m → Q (some (if b = true then 1 else 0)) j_SH m) (hQ2 : ∀ m, p_F μ0 T n m → Q (some 0) j_SH m) :
    j_J cX10_unit 10 7 (some .boolean) false D none Q j_SH 0 0 0 [some (.ref 42), none, none, none, none, none, none] [] m := by
  have n120 := hK.2.2.2.2.1
  refine j_go (fun q => q == 209 || q == 26) 60 ?_
  simp only [qX10_unit, j_f10, j_m10, j_ty, tyX10, ↓j_kt, ↓j_sel, ↓j_run_0, ↓j_run_s, ↓j_wp, ↓j_pi, ↓j_pii, ↓j_pl, ↓j_pll, ↓j_pli, ↓j_pr, ↓j_pri, ↓j_prii, ↓j_pvr, ↓j_pop, ↓j_gi, ↓j_gl, ↓j_ga, ↓j_ob, ↓j_ar, ↓j_fd, ↓j_fo, ↓j_mo, ↓j_br, ↓j_to, ↓j_lo, ↓j_scr, ↓j_co, ↓j_no, j_nf, j_rt, j_ld, j_st1, j_st2, j_k1, j_ci, j_fin, j_sh, j_shl, Option.map_some, Option.map_none, Option.toList_some, Option.toList_none, List.cons_append, List.nil_append, List.map_cons, List.map_nil, List.sum_cons, List.sum_nil, Value.category, List.getElem?_cons_zero, List.getElem?_cons_succ, List.length_cons, List.length_nil, true_and, and_true, if_true, if_false, ↓reduceIte, Bool.false_eq_true, Bool.true_eq_false, reduceCtorEq, Nat.reduceAdd, Nat.reduceLT, Nat.reduceLeDiff, Nat.reduceEqDiff, Nat.reduceBEq, Int.cast_ofNat_Int, Int.reduceAdd, Int.reduceNeg, Int.reduceSub, Int.reduceToNat, Int.reduceLE, Nat.zero_le, false_implies, implies_true, beq_self_eq_true, Bool.and_true, Bool.and_false, Bool.or_false, Bool.false_or, Bool.or_true, Bool.true_or, Bool.and_self, Bool.or_self, Nat.zero_add, Nat.add_zero, or_false, or_true, true_or, false_or, j_b0, ↓j_b1, j_b2, ↓j_b3, j_01, j_inb, and_self, Classical.not_not, Int32.reduceLE, Int32.reduceLT, Int32.reduceAdd, j_ne, eq_self, not_true_eq_false, not_false_eq_true, forall_const, and_false, false_and, j_sc, j_ent, Nat.reduceSub, List.replicate_zero, List.replicate_succ]
  refine j_use (f_X10_look hK hA.2.1 hA.1) (by omega) (fun r m1 hp => ?_)
  obtain ⟨j0, a1, a2, a3, a4, hS, rfl⟩ := hp
  have hA1 := hA.lk a1 a2 a3 hS
  obtain ⟨g1, g2, g3, g4, g5, g6, g7, g8, g9, g10, N, g11, g12, g13⟩ := p_get hK hS
  have hV := hK.2.2.2.2.2.2
  have e8 : nI o = 8 ↔ o = 8 := nI_eq' (b := 8) (by omega) (by omega)
  have word : ∀ v : Int32, (j0 < n → ¬ T j0 = 40) → ((j0 < n ∧ a_word (T j0) ∧ v = w_val (μ0 76) (T j0) ∧ ¬ v = -1) ∨ (¬ (j0 < n ∧ a_word (T j0)) ∧ v = -1)) → j_J cX10_unit 10 7 (some .boolean) false D none Q j_SH 0 0 209 [some (.ref 42), some (.int (if j0 < n then T j0 else -1)), some (.int v), none, none, none, none] [] m1 := by
    intro v h40 hv
    exact l_X10_word hK ho hD hA1 a1 a4 h40 hv hQ1 hQ2
  generalize hb : (if j0 < n then T j0 else -1) = b1 at word ⊢
  have lt : ¬ b1 = -1 → j0 < n ∧ T j0 = b1 := by
    intro z
    by_cases y : j0 < n
    · rw [if_pos y] at hb; exact ⟨y, hb⟩
    · rw [if_neg y] at hb; exact absurd hb.symm z
  simp only [qX10_unit, j_f10, j_m10, j_ty, tyX10, ↓j_kt, ↓j_sel, ↓j_run_0, ↓j_run_s, ↓j_wp, ↓j_pi, ↓j_pii, ↓j_pl, ↓j_pll, ↓j_pli, ↓j_pr, ↓j_pri, ↓j_prii, ↓j_pvr, ↓j_pop, ↓j_gi, ↓j_gl, ↓j_ga, ↓j_ob, ↓j_ar, ↓j_fd, ↓j_fo, ↓j_mo, ↓j_br, ↓j_to, ↓j_lo, ↓j_scr, ↓j_co, ↓j_no, j_nf, j_rt, j_ld, j_st1, j_st2, j_k1, j_ci, j_fin, j_sh, j_shl, Option.map_some, Option.map_none, Option.toList_some, Option.toList_none, List.cons_append, List.nil_append, List.map_cons, List.map_nil, List.sum_cons, List.sum_nil, Value.category, List.getElem?_cons_zero, List.getElem?_cons_succ, List.length_cons, List.length_nil, true_and, and_true, if_true, if_false, ↓reduceIte, Bool.false_eq_true, Bool.true_eq_false, reduceCtorEq, Nat.reduceAdd, Nat.reduceLT, Nat.reduceLeDiff, Nat.reduceEqDiff, Nat.reduceBEq, Int.cast_ofNat_Int, Int.reduceAdd, Int.reduceNeg, Int.reduceSub, Int.reduceToNat, Int.reduceLE, Nat.zero_le, false_implies, implies_true, beq_self_eq_true, Bool.and_true, Bool.and_false, Bool.or_false, Bool.false_or, Bool.or_true, Bool.true_or, Bool.and_self, Bool.or_self, Nat.zero_add, Nat.add_zero, or_false, or_true, true_or, false_or, j_b0, ↓j_b1, j_b2, ↓j_b3, j_01, j_inb, and_self, Classical.not_not, Int32.reduceLE, Int32.reduceLT, Int32.reduceAdd, j_ne, eq_self, not_true_eq_false, not_false_eq_true, forall_const, and_false, false_and, j_sc, j_ent, Nat.reduceSub, List.replicate_zero, List.replicate_succ, g6, g8, c_cl, n_ne360]
  refine ⟨fun h40 => ?_, fun h40 => ?_⟩
  · have h40' : j0 < n → ¬ T j0 = 40 := by
      intro y z
      rw [if_pos y, z] at hb
      exact h40 hb.symm
    have wd : ∀ v, a_word b1 → v = w_val (μ0 76) b1 → j_J cX10_unit 10 7 (some .boolean) false D none Q j_SH 0 0 209 [some (.ref 42), some (.int b1), some (.int v), none, none, none, none] [] m1 := by
      intro v hw hv
      have hne : ¬ b1 = -1 := fun z => by rw [z] at hw; exact absurd hw (by decide)
      obtain ⟨l1, l2⟩ := lt hne
      exact word v h40' (Or.inl ⟨l1, by rw [l2]; exact hw, by rw [l2]; exact hv, by rw [hv]; exact w_val_ok hV⟩)
    refine ⟨fun k1 => ⟨fun k2 => ⟨fun k3 => ⟨fun k4 => ⟨fun k5 => ⟨fun k6 => ⟨fun k7 => ?_, fun e => ?_⟩, fun e => ?_⟩, fun e => ?_⟩, fun e => ?_⟩, fun e => ?_⟩, fun e => ?_⟩, fun e => ?_⟩
    · refine word (-1) h40' (Or.inr ⟨?_, rfl⟩)
      rintro ⟨z1, z2⟩
      rw [if_pos z1] at hb
      rw [hb] at z2
      rcases z2 with e | e | e | e | e | e | e <;> contradiction
    all_goals exact wd _ (by rw [e]; decide) (by rw [e]; simp [w_val])
  · have hne : ¬ b1 = -1 := fun z => by rw [z] at h40; exact absurd h40 (by decide)
    obtain ⟨l1, l2⟩ := lt hne
    rw [h40] at l2
    refine ⟨fun k8 => ?_, fun k8 => ?_⟩
    · have ho7 : o ≤ 7 := by
        have : ¬ o = 8 := fun z => k8 (e8.mpr z)
        omega
      refine j_go (fun q => q == 61) 60 ?_
      simp only [qX10_unit, j_f10, j_m10, j_ty, tyX10, ↓j_kt, ↓j_sel, ↓j_run_0, ↓j_run_s, ↓j_wp, ↓j_pi, ↓j_pii, ↓j_pl, ↓j_pll, ↓j_pli, ↓j_pr, ↓j_pri, ↓j_prii, ↓j_pvr, ↓j_pop, ↓j_gi, ↓j_gl, ↓j_ga, ↓j_ob, ↓j_ar, ↓j_fd, ↓j_fo, ↓j_mo, ↓j_br, ↓j_to, ↓j_lo, ↓j_scr, ↓j_co, ↓j_no, j_nf, j_rt, j_ld, j_st1, j_st2, j_k1, j_ci, j_fin, j_sh, j_shl, Option.map_some, Option.map_none, Option.toList_some, Option.toList_none, List.cons_append, List.nil_append, List.map_cons, List.map_nil, List.sum_cons, List.sum_nil, Value.category, List.getElem?_cons_zero, List.getElem?_cons_succ, List.length_cons, List.length_nil, true_and, and_true, if_true, if_false, ↓reduceIte, Bool.false_eq_true, Bool.true_eq_false, reduceCtorEq, Nat.reduceAdd, Nat.reduceLT, Nat.reduceLeDiff, Nat.reduceEqDiff, Nat.reduceBEq, Int.cast_ofNat_Int, Int.reduceAdd, Int.reduceNeg, Int.reduceSub, Int.reduceToNat, Int.reduceLE, Nat.zero_le, false_implies, implies_true, beq_self_eq_true, Bool.and_true, Bool.and_false, Bool.or_false, Bool.false_or, Bool.or_true, Bool.true_or, Bool.and_self, Bool.or_self, Nat.zero_add, Nat.add_zero, or_false, or_true, true_or, false_or, j_b0, ↓j_b1, j_b2, ↓j_b3, j_01, j_inb, and_self, Classical.not_not, Int32.reduceLE, Int32.reduceLT, Int32.reduceAdd, j_ne, eq_self, not_true_eq_false, not_false_eq_true, forall_const, and_false, false_and, j_sc, j_ent, Nat.reduceSub, List.replicate_zero, List.replicate_succ, g6, g4, nI_1, j_us, u_n, u_s, ne_eq]
      refine j_use (hT ho7 _ _ _ _ (hA1.brk ho7 l1 l2 ((hS.op (o + 1)).mv (j0 + 1))) (by omega) (by omega)) hD' (fun r m3 hp => ?_)
      obtain ⟨b, rfl, hp⟩ := hp
      rcases hp with ⟨i3, v3, o3, s3, f3, n3⟩ | ⟨j, x', y', c1, hB, ex, ey, hbb⟩
      · have q5 := s3.2.2.2.1
        simp only [qX10_unit, j_f10, j_m10, j_ty, tyX10, ↓j_kt, ↓j_sel, ↓j_run_0, ↓j_run_s, ↓j_wp, ↓j_pi, ↓j_pii, ↓j_pl, ↓j_pll, ↓j_pli, ↓j_pr, ↓j_pri, ↓j_prii, ↓j_pvr, ↓j_pop, ↓j_gi, ↓j_gl, ↓j_ga, ↓j_ob, ↓j_ar, ↓j_fd, ↓j_fo, ↓j_mo, ↓j_br, ↓j_to, ↓j_lo, ↓j_scr, ↓j_co, ↓j_no, j_nf, j_rt, j_ld, j_st1, j_st2, j_k1, j_ci, j_fin, j_sh, j_shl, Option.map_some, Option.map_none, Option.toList_some, Option.toList_none, List.cons_append, List.nil_append, List.map_cons, List.map_nil, List.sum_cons, List.sum_nil, Value.category, List.getElem?_cons_zero, List.getElem?_cons_succ, List.length_cons, List.length_nil, true_and, and_true, if_true, if_false, ↓reduceIte, Bool.false_eq_true, Bool.true_eq_false, reduceCtorEq, Nat.reduceAdd, Nat.reduceLT, Nat.reduceLeDiff, Nat.reduceEqDiff, Nat.reduceBEq, Int.cast_ofNat_Int, Int.reduceAdd, Int.reduceNeg, Int.reduceSub, Int.reduceToNat, Int.reduceLE, Nat.zero_le, false_implies, implies_true, beq_self_eq_true, Bool.and_true, Bool.and_false, Bool.or_false, Bool.false_or, Bool.or_true, Bool.true_or, Bool.and_self, Bool.or_self, Nat.zero_add, Nat.add_zero, or_false, or_true, true_or, false_or, j_b0, ↓j_b1, j_b2, ↓j_b3, j_01, j_inb, and_self, Classical.not_not, Int32.reduceLE, Int32.reduceLT, Int32.reduceAdd, j_ne, eq_self, not_true_eq_false, not_false_eq_true, forall_const, and_false, false_and, j_sc, j_ent, Nat.reduceSub, List.replicate_zero, List.replicate_succ, q5]
        exact ⟨fun z => absurd z n3, fun _ => hQ2 _ ⟨i3, v3, o3, s3, f3, n3⟩⟩
      · have q5 := hB.2.1.2.2.2.1
        simp only [qX10_unit, j_f10, j_m10, j_ty, tyX10, ↓j_kt, ↓j_sel, ↓j_run_0, ↓j_run_s, ↓j_wp, ↓j_pi, ↓j_pii, ↓j_pl, ↓j_pll, ↓j_pli, ↓j_pr, ↓j_pri, ↓j_prii, ↓j_pvr, ↓j_pop, ↓j_gi, ↓j_gl, ↓j_ga, ↓j_ob, ↓j_ar, ↓j_fd, ↓j_fo, ↓j_mo, ↓j_br, ↓j_to, ↓j_lo, ↓j_scr, ↓j_co, ↓j_no, j_nf, j_rt, j_ld, j_st1, j_st2, j_k1, j_ci, j_fin, j_sh, j_shl, Option.map_some, Option.map_none, Option.toList_some, Option.toList_none, List.cons_append, List.nil_append, List.map_cons, List.map_nil, List.sum_cons, List.sum_nil, Value.category, List.getElem?_cons_zero, List.getElem?_cons_succ, List.length_cons, List.length_nil, true_and, and_true, if_true, if_false, ↓reduceIte, Bool.false_eq_true, Bool.true_eq_false, reduceCtorEq, Nat.reduceAdd, Nat.reduceLT, Nat.reduceLeDiff, Nat.reduceEqDiff, Nat.reduceBEq, Int.cast_ofNat_Int, Int.reduceAdd, Int.reduceNeg, Int.reduceSub, Int.reduceToNat, Int.reduceLE, Nat.zero_le, false_implies, implies_true, beq_self_eq_true, Bool.and_true, Bool.and_false, Bool.or_false, Bool.false_or, Bool.or_true, Bool.true_or, Bool.and_self, Bool.or_self, Nat.zero_add, Nat.add_zero, or_false, or_true, true_or, false_or, j_b0, ↓j_b1, j_b2, ↓j_b3, j_01, j_inb, and_self, Classical.not_not, Int32.reduceLE, Int32.reduceLT, Int32.reduceAdd, j_ne, eq_self, not_true_eq_false, not_false_eq_true, forall_const, and_false, false_and, j_sc, j_ent, Nat.reduceSub, List.replicate_zero, List.replicate_succ, q5]
        refine j_go (fun q => false) 60 ?_
        simp only [qX10_unit, j_f10, j_m10, j_ty, tyX10, ↓j_kt, ↓j_sel, ↓j_run_0, ↓j_run_s, ↓j_wp, ↓j_pi, ↓j_pii, ↓j_pl, ↓j_pll, ↓j_pli, ↓j_pr, ↓j_pri, ↓j_prii, ↓j_pvr, ↓j_pop, ↓j_gi, ↓j_gl, ↓j_ga, ↓j_ob, ↓j_ar, ↓j_fd, ↓j_fo, ↓j_mo, ↓j_br, ↓j_to, ↓j_lo, ↓j_scr, ↓j_co, ↓j_no, j_nf, j_rt, j_ld, j_st1, j_st2, j_k1, j_ci, j_fin, j_sh, j_shl, Option.map_some, Option.map_none, Option.toList_some, Option.toList_none, List.cons_append, List.nil_append, List.map_cons, List.map_nil, List.sum_cons, List.sum_nil, Value.category, List.getElem?_cons_zero, List.getElem?_cons_succ, List.length_cons, List.length_nil, true_and, and_true, if_true, if_false, ↓reduceIte, Bool.false_eq_true, Bool.true_eq_false, reduceCtorEq, Nat.reduceAdd, Nat.reduceLT, Nat.reduceLeDiff, Nat.reduceEqDiff, Nat.reduceBEq, Int.cast_ofNat_Int, Int.reduceAdd, Int.reduceNeg, Int.reduceSub, Int.reduceToNat, Int.reduceLE, Nat.zero_le, false_implies, implies_true, beq_self_eq_true, Bool.and_true, Bool.and_false, Bool.or_false, Bool.false_or, Bool.or_true, Bool.true_or, Bool.and_self, Bool.or_self, Nat.zero_add, Nat.add_zero, or_false, or_true, true_or, false_or, j_b0, ↓j_b1, j_b2, ↓j_b3, j_01, j_inb, and_self, Classical.not_not, Int32.reduceLE, Int32.reduceLT, Int32.reduceAdd, j_ne, eq_self, not_true_eq_false, not_false_eq_true, forall_const, and_false, false_and, j_sc, j_ent, Nat.reduceSub, List.replicate_zero, List.replicate_succ]
        refine j_use (f_X10_look hK hB.2.1 hB.1) (by omega) (fun r m4 hp => ?_)
        obtain ⟨j1, d1, d2, d3, d4, hS4, rfl⟩ := hp
        have hB1 : p_B μ0 T (μ0 76) f n (o + 1) x' y' (fun _ => True) j1 m4 := hB.lk d1 d2 d3 hS4 (fun _ => trivial)
        have q6 := hS4.2.2.1
        have q7 := hS4.2.2.2.2
        generalize hc : (if j1 < n then T j1 else -1) = c
        simp only [qX10_unit, j_f10, j_m10, j_ty, tyX10, ↓j_kt, ↓j_sel, ↓j_run_0, ↓j_run_s, ↓j_wp, ↓j_pi, ↓j_pii, ↓j_pl, ↓j_pll, ↓j_pli, ↓j_pr, ↓j_pri, ↓j_prii, ↓j_pvr, ↓j_pop, ↓j_gi, ↓j_gl, ↓j_ga, ↓j_ob, ↓j_ar, ↓j_fd, ↓j_fo, ↓j_mo, ↓j_br, ↓j_to, ↓j_lo, ↓j_scr, ↓j_co, ↓j_no, j_nf, j_rt, j_ld, j_st1, j_st2, j_k1, j_ci, j_fin, j_sh, j_shl, Option.map_some, Option.map_none, Option.toList_some, Option.toList_none, List.cons_append, List.nil_append, List.map_cons, List.map_nil, List.sum_cons, List.sum_nil, Value.category, List.getElem?_cons_zero, List.getElem?_cons_succ, List.length_cons, List.length_nil, true_and, and_true, if_true, if_false, ↓reduceIte, Bool.false_eq_true, Bool.true_eq_false, reduceCtorEq, Nat.reduceAdd, Nat.reduceLT, Nat.reduceLeDiff, Nat.reduceEqDiff, Nat.reduceBEq, Int.cast_ofNat_Int, Int.reduceAdd, Int.reduceNeg, Int.reduceSub, Int.reduceToNat, Int.reduceLE, Nat.zero_le, false_implies, implies_true, beq_self_eq_true, Bool.and_true, Bool.and_false, Bool.or_false, Bool.false_or, Bool.or_true, Bool.true_or, Bool.and_self, Bool.or_self, Nat.zero_add, Nat.add_zero, or_false, or_true, true_or, false_or, j_b0, ↓j_b1, j_b2, ↓j_b3, j_01, j_inb, and_self, Classical.not_not, Int32.reduceLE, Int32.reduceLT, Int32.reduceAdd, j_ne, eq_self, not_true_eq_false, not_false_eq_true, forall_const, and_false, false_and, j_sc, j_ent, Nat.reduceSub, List.replicate_zero, List.replicate_succ, q6, q7, nI_1, nI_pred, j_us, u_n, u_s, ne_eq]
        refine ⟨fun k9 => ?_, fun k9 => ?_⟩
        · have hj1 : j1 < n ∧ T j1 = 41 := by
            by_cases z : j1 < n
            · rw [if_pos z] at hc; exact ⟨z, by rw [hc]; exact k9⟩
            · rw [if_neg z] at hc; rw [← hc] at k9; exact absurd k9 (by decide)
          exact hQ1 b (j1 + 1) _ (by omega) (hB1.shut ho7 hj1.1 hj1.2 ((hS4.mv (j1 + 1)).op o) (by omega) (by omega) hbb (fun _ => trivial))
        · refine j_use1 (p_wr hS4) (by omega) ?_
          simp only [qX10_unit, j_f10, j_m10, j_ty, tyX10, ↓j_kt, ↓j_sel, ↓j_run_0, ↓j_run_s, ↓j_wp, ↓j_pi, ↓j_pii, ↓j_pl, ↓j_pll, ↓j_pli, ↓j_pr, ↓j_pri, ↓j_prii, ↓j_pvr, ↓j_pop, ↓j_gi, ↓j_gl, ↓j_ga, ↓j_ob, ↓j_ar, ↓j_fd, ↓j_fo, ↓j_mo, ↓j_br, ↓j_to, ↓j_lo, ↓j_scr, ↓j_co, ↓j_no, j_nf, j_rt, j_ld, j_st1, j_st2, j_k1, j_ci, j_fin, j_sh, j_shl, Option.map_some, Option.map_none, Option.toList_some, Option.toList_none, List.cons_append, List.nil_append, List.map_cons, List.map_nil, List.sum_cons, List.sum_nil, Value.category, List.getElem?_cons_zero, List.getElem?_cons_succ, List.length_cons, List.length_nil, true_and, and_true, if_true, if_false, ↓reduceIte, Bool.false_eq_true, Bool.true_eq_false, reduceCtorEq, Nat.reduceAdd, Nat.reduceLT, Nat.reduceLeDiff, Nat.reduceEqDiff, Nat.reduceBEq, Int.cast_ofNat_Int, Int.reduceAdd, Int.reduceNeg, Int.reduceSub, Int.reduceToNat, Int.reduceLE, Nat.zero_le, false_implies, implies_true, beq_self_eq_true, Bool.and_true, Bool.and_false, Bool.or_false, Bool.false_or, Bool.or_true, Bool.true_or, Bool.and_self, Bool.or_self, Nat.zero_add, Nat.add_zero, or_false, or_true, true_or, false_or, j_b0, ↓j_b1, j_b2, ↓j_b3, j_01, j_inb, and_self, Classical.not_not, Int32.reduceLE, Int32.reduceLT, Int32.reduceAdd, j_ne, eq_self, not_true_eq_false, not_false_eq_true, forall_const, and_false, false_and, j_sc, j_ent, Nat.reduceSub, List.replicate_zero, List.replicate_succ]
          refine hQ2 _ (p_wF hS4 ?_ (by omega))
          by_cases z : j1 < n
          · rw [if_pos z] at hc
            have hP : ¬ T j1 = 38 ∧ ¬ T j1 = 124 := by
              by_cases e : j1 = j
              · rw [e]
                have := hB.2.2.2.1 (by omega)
                exact ⟨this.2.1, this.2.2⟩
              · have hjn : j < n := by omega
                have := d3 j (Nat.le_refl _) (by omega)
                exact absurd this (hB.2.2.2.1 hjn).1
            exact hB1.no z (d4 z) (fun w => absurd (by rw [← hc]; exact w) k9) hP.1 hP.2
          · have e : j1 = n := by omega
            obtain ⟨pl, dg, p1, p2, p3⟩ := hB1.2.2.1
            rw [e] at p2 ⊢
            refine a_F2 p2 (fun w => ?_)
            have w1 := w.1
            exact absurd w1 (nI_ne0 (by omega) (by omega))
    · refine j_use1 (p_wr hS) (by omega) ?_
      simp only [qX10_unit, j_f10, j_m10, j_ty, tyX10, ↓j_kt, ↓j_sel, ↓j_run_0, ↓j_run_s, ↓j_wp, ↓j_pi, ↓j_pii, ↓j_pl, ↓j_pll, ↓j_pli, ↓j_pr, ↓j_pri, ↓j_prii, ↓j_pvr, ↓j_pop, ↓j_gi, ↓j_gl, ↓j_ga, ↓j_ob, ↓j_ar, ↓j_fd, ↓j_fo, ↓j_mo, ↓j_br, ↓j_to, ↓j_lo, ↓j_scr, ↓j_co, ↓j_no, j_nf, j_rt, j_ld, j_st1, j_st2, j_k1, j_ci, j_fin, j_sh, j_shl, Option.map_some, Option.map_none, Option.toList_some, Option.toList_none, List.cons_append, List.nil_append, List.map_cons, List.map_nil, List.sum_cons, List.sum_nil, Value.category, List.getElem?_cons_zero, List.getElem?_cons_succ, List.length_cons, List.length_nil, true_and, and_true, if_true, if_false, ↓reduceIte, Bool.false_eq_true, Bool.true_eq_false, reduceCtorEq, Nat.reduceAdd, Nat.reduceLT, Nat.reduceLeDiff, Nat.reduceEqDiff, Nat.reduceBEq, Int.cast_ofNat_Int, Int.reduceAdd, Int.reduceNeg, Int.reduceSub, Int.reduceToNat, Int.reduceLE, Nat.zero_le, false_implies, implies_true, beq_self_eq_true, Bool.and_true, Bool.and_false, Bool.or_false, Bool.false_or, Bool.or_true, Bool.true_or, Bool.and_self, Bool.or_self, Nat.zero_add, Nat.add_zero, or_false, or_true, true_or, false_or, j_b0, ↓j_b1, j_b2, ↓j_b3, j_01, j_inb, and_self, Classical.not_not, Int32.reduceLE, Int32.reduceLT, Int32.reduceAdd, j_ne, eq_self, not_true_eq_false, not_false_eq_true, forall_const, and_false, false_and, j_sc, j_ent, Nat.reduceSub, List.replicate_zero, List.replicate_succ]
      refine hQ2 _ (p_wF hS ?_ (by omega))
      obtain ⟨dg, p2⟩ := hA1.2.2.1
      refine a_F1 p2 l1 ?_
      have o8 := e8.mp k8
      unfold a_go a_beg
      dsimp only
      rw [l2, if_neg (by decide), if_pos rfl, if_pos rfl, o8, if_neg (by decide)]
set_option maxRecDepth 100000 in
theorem f_X10_unit {μ0 : j_M} {ρ fr n o D D' : Nat} {T f : Nat → Int32} (hK : p_K μ0 ρ fr n T) (ho : o ≤ 8) (hD : 1 ≤ D) (hD' : D' + 1 ≤ D) (hT : o ≤ 7 → p_Ts μ0 T (μ0 76) f n (o + 1) D') : p_U μ0 T (μ0 76) f n o D := by
  intro m i x y hA
  refine eX10_unit (Nat.le_of_ble_eq_true rfl) ?_
  exact l_X10_unit hK ho hD hD' hT hA (fun b k m hk hB => ⟨rfl, b, rfl, Or.inr ⟨k, hk, hB⟩⟩) (fun m hF => ⟨rfl, false, rfl, Or.inl hF⟩)
set_option maxRecDepth 100000 in
theorem l_X10_part {μ0 : j_M} {ρ fr n o x y i D D' : Nat} {T V f : Nat → Int32} {Q : j_Q} (hK : p_K μ0 ρ fr n T) (hD : 1 ≤ D) (hD' : D' + 1 ≤ D) (hU : p_U μ0 T V f n o D')
    (hQ1 : ∀ (b : Bool) (k : Nat) (m : j_M), i ≤ k → p_B μ0 T V f n o x (if b = true then y else y / 2 * 2) (fun c => ¬ c = 32 ∧ ¬ c = 38) k m → Q (some (if b = true then 1 else 0)) j_SH m) (hQ2 : ∀ (b : Bool) m, p_F μ0 T n m → Q (some (if b = true then 1 else 0)) j_SH m) :
    ∀ (k j : Nat) (m : j_M) (b : Bool) (v2 : Option Value), n + 1 ≤ j + k → i ≤ j → p_B μ0 T V f n o x (if b = true then y else y / 2 * 2) (fun _ => True) j m → j_J cX10_part 10 3 (some .boolean) false D none Q j_SH 0 0 5 [some (.ref 42), some (.int (if b = true then 1 else 0)), v2] [] m := by
  have n120 := hK.2.2.2.2.1
  have flt : ∀ (b : Bool) (m : j_M) (v2 : Option Value), p_F μ0 T n m → j_J cX10_part 10 3 (some .boolean) false D none Q j_SH 0 0 5 [some (.ref 42), some (.int (if b = true then 1 else 0)), v2] [] m := by
    intro b m v2 hF
    have h := hQ2 b m hF
    obtain ⟨i3, v3, o3, s3, f3, n3⟩ := hF
    have q5 := s3.2.2.2.1
    refine j_go (fun q => q == 13) 20 ?_
    simp only [qX10_part, j_f10, j_m10, j_ty, tyX10, ↓j_kt, ↓j_sel, ↓j_run_0, ↓j_run_s, ↓j_wp, ↓j_pi, ↓j_pii, ↓j_pl, ↓j_pll, ↓j_pli, ↓j_pr, ↓j_pri, ↓j_prii, ↓j_pvr, ↓j_pop, ↓j_gi, ↓j_gl, ↓j_ga, ↓j_ob, ↓j_ar, ↓j_fd, ↓j_fo, ↓j_mo, ↓j_br, ↓j_to, ↓j_lo, ↓j_scr, ↓j_co, ↓j_no, j_nf, j_rt, j_ld, j_st1, j_st2, j_k1, j_ci, j_fin, j_sh, j_shl, Option.map_some, Option.map_none, Option.toList_some, Option.toList_none, List.cons_append, List.nil_append, List.map_cons, List.map_nil, List.sum_cons, List.sum_nil, Value.category, List.getElem?_cons_zero, List.getElem?_cons_succ, List.length_cons, List.length_nil, true_and, and_true, if_true, if_false, ↓reduceIte, Bool.false_eq_true, Bool.true_eq_false, reduceCtorEq, Nat.reduceAdd, Nat.reduceLT, Nat.reduceLeDiff, Nat.reduceEqDiff, Nat.reduceBEq, Int.cast_ofNat_Int, Int.reduceAdd, Int.reduceNeg, Int.reduceSub, Int.reduceToNat, Int.reduceLE, Nat.zero_le, false_implies, implies_true, beq_self_eq_true, Bool.and_true, Bool.and_false, Bool.or_false, Bool.false_or, Bool.or_true, Bool.true_or, Bool.and_self, Bool.or_self, Nat.zero_add, Nat.add_zero, or_false, or_true, true_or, false_or, j_b0, ↓j_b1, j_b2, ↓j_b3, j_01, j_inb, and_self, Classical.not_not, Int32.reduceLE, Int32.reduceLT, Int32.reduceAdd, j_ne, eq_self, not_true_eq_false, not_false_eq_true, forall_const, and_false, false_and, j_sc, j_ent, Nat.reduceSub, List.replicate_zero, List.replicate_succ, q5]
    exact ⟨fun _ => h, fun z => absurd z n3⟩
  intro k
  induction k with
  | zero =>
    intro j m b v2 hk hj hB
    have := hB.1
    omega
  | succ k ih =>
    intro j m b v2 hk hj hB
    have q5 := hB.2.1.2.2.2.1
    refine j_go (fun q => q == 5) 40 ?_
    simp only [qX10_part, j_f10, j_m10, j_ty, tyX10, ↓j_kt, ↓j_sel, ↓j_run_0, ↓j_run_s, ↓j_wp, ↓j_pi, ↓j_pii, ↓j_pl, ↓j_pll, ↓j_pli, ↓j_pr, ↓j_pri, ↓j_prii, ↓j_pvr, ↓j_pop, ↓j_gi, ↓j_gl, ↓j_ga, ↓j_ob, ↓j_ar, ↓j_fd, ↓j_fo, ↓j_mo, ↓j_br, ↓j_to, ↓j_lo, ↓j_scr, ↓j_co, ↓j_no, j_nf, j_rt, j_ld, j_st1, j_st2, j_k1, j_ci, j_fin, j_sh, j_shl, Option.map_some, Option.map_none, Option.toList_some, Option.toList_none, List.cons_append, List.nil_append, List.map_cons, List.map_nil, List.sum_cons, List.sum_nil, Value.category, List.getElem?_cons_zero, List.getElem?_cons_succ, List.length_cons, List.length_nil, true_and, and_true, if_true, if_false, ↓reduceIte, Bool.false_eq_true, Bool.true_eq_false, reduceCtorEq, Nat.reduceAdd, Nat.reduceLT, Nat.reduceLeDiff, Nat.reduceEqDiff, Nat.reduceBEq, Int.cast_ofNat_Int, Int.reduceAdd, Int.reduceNeg, Int.reduceSub, Int.reduceToNat, Int.reduceLE, Nat.zero_le, false_implies, implies_true, beq_self_eq_true, Bool.and_true, Bool.and_false, Bool.or_false, Bool.false_or, Bool.or_true, Bool.true_or, Bool.and_self, Bool.or_self, Nat.zero_add, Nat.add_zero, or_false, or_true, true_or, false_or, j_b0, ↓j_b1, j_b2, ↓j_b3, j_01, j_inb, and_self, Classical.not_not, Int32.reduceLE, Int32.reduceLT, Int32.reduceAdd, j_ne, eq_self, not_true_eq_false, not_false_eq_true, forall_const, and_false, false_and, j_sc, j_ent, Nat.reduceSub, List.replicate_zero, List.replicate_succ, q5]
    refine j_use (f_X10_look hK hB.2.1 hB.1) (by omega) (fun r m1 hp => ?_)
    obtain ⟨j1, d1, d2, d3, d4, hS1, rfl⟩ := hp
    have q6 := hS1.2.2.1
    generalize hc : (if j1 < n then T j1 else -1) = c
    simp only [qX10_part, j_f10, j_m10, j_ty, tyX10, ↓j_kt, ↓j_sel, ↓j_run_0, ↓j_run_s, ↓j_wp, ↓j_pi, ↓j_pii, ↓j_pl, ↓j_pll, ↓j_pli, ↓j_pr, ↓j_pri, ↓j_prii, ↓j_pvr, ↓j_pop, ↓j_gi, ↓j_gl, ↓j_ga, ↓j_ob, ↓j_ar, ↓j_fd, ↓j_fo, ↓j_mo, ↓j_br, ↓j_to, ↓j_lo, ↓j_scr, ↓j_co, ↓j_no, j_nf, j_rt, j_ld, j_st1, j_st2, j_k1, j_ci, j_fin, j_sh, j_shl, Option.map_some, Option.map_none, Option.toList_some, Option.toList_none, List.cons_append, List.nil_append, List.map_cons, List.map_nil, List.sum_cons, List.sum_nil, Value.category, List.getElem?_cons_zero, List.getElem?_cons_succ, List.length_cons, List.length_nil, true_and, and_true, if_true, if_false, ↓reduceIte, Bool.false_eq_true, Bool.true_eq_false, reduceCtorEq, Nat.reduceAdd, Nat.reduceLT, Nat.reduceLeDiff, Nat.reduceEqDiff, Nat.reduceBEq, Int.cast_ofNat_Int, Int.reduceAdd, Int.reduceNeg, Int.reduceSub, Int.reduceToNat, Int.reduceLE, Nat.zero_le, false_implies, implies_true, beq_self_eq_true, Bool.and_true, Bool.and_false, Bool.or_false, Bool.false_or, Bool.or_true, Bool.true_or, Bool.and_self, Bool.or_self, Nat.zero_add, Nat.add_zero, or_false, or_true, true_or, false_or, j_b0, ↓j_b1, j_b2, ↓j_b3, j_01, j_inb, and_self, Classical.not_not, Int32.reduceLE, Int32.reduceLT, Int32.reduceAdd, j_ne, eq_self, not_true_eq_false, not_false_eq_true, forall_const, and_false, false_and, j_sc, j_ent, Nat.reduceSub, List.replicate_zero, List.replicate_succ, q6, nI_1]
    refine ⟨fun z => ?_, fun z => ?_⟩
    · refine hQ1 b j1 m1 (by omega) (hB.lk d1 d2 d3 hS1 (fun w => ⟨d4 w, ?_⟩))
      rw [if_pos w] at hc
      rw [hc]
      exact z
    · have hj1 : j1 < n ∧ T j1 = 38 := by
        by_cases w : j1 < n
        · rw [if_pos w] at hc; exact ⟨w, by rw [hc]; exact z⟩
        · rw [if_neg w] at hc; rw [← hc] at z; exact absurd z (by decide)
      have hB1 : p_B μ0 T V f n o x (if b = true then y else y / 2 * 2) (fun _ => True) j1 m1 := hB.lk d1 d2 d3 hS1 (fun _ => trivial)
      refine j_use (hU _ _ _ _ (hB1.and hj1.1 hj1.2 (hS1.mv (j1 + 1)))) hD' (fun r m2 hp => ?_)
      obtain ⟨b2, rfl, hp⟩ := hp
      have nx : ∀ v2, j_J cX10_part 10 3 (some .boolean) false D none Q j_SH 0 0 5 [some (.ref 42), some (.int (if (b && b2) = true then 1 else 0)), v2] [] m2 := by
        intro v2
        rcases hp with hF | ⟨j2, e1, hB2⟩
        · exact flt _ _ _ hF
        · refine ih j2 m2 (b && b2) v2 (by omega) (by omega) ?_
          have e : (if b2 = true then (if b = true then y else y / 2 * 2) else (if b = true then y else y / 2 * 2) / 2 * 2) = (if (b && b2) = true then y else y / 2 * 2) := by
            cases b <;> cases b2 <;> simp
          rw [e] at hB2
          exact hB2
      cases b <;> cases b2
      all_goals
        simp only [qX10_part, j_f10, j_m10, j_ty, tyX10, ↓j_kt, ↓j_sel, ↓j_run_0, ↓j_run_s, ↓j_wp, ↓j_pi, ↓j_pii, ↓j_pl, ↓j_pll, ↓j_pli, ↓j_pr, ↓j_pri, ↓j_prii, ↓j_pvr, ↓j_pop, ↓j_gi, ↓j_gl, ↓j_ga, ↓j_ob, ↓j_ar, ↓j_fd, ↓j_fo, ↓j_mo, ↓j_br, ↓j_to, ↓j_lo, ↓j_scr, ↓j_co, ↓j_no, j_nf, j_rt, j_ld, j_st1, j_st2, j_k1, j_ci, j_fin, j_sh, j_shl, Option.map_some, Option.map_none, Option.toList_some, Option.toList_none, List.cons_append, List.nil_append, List.map_cons, List.map_nil, List.sum_cons, List.sum_nil, Value.category, List.getElem?_cons_zero, List.getElem?_cons_succ, List.length_cons, List.length_nil, true_and, and_true, if_true, if_false, ↓reduceIte, Bool.false_eq_true, Bool.true_eq_false, reduceCtorEq, Nat.reduceAdd, Nat.reduceLT, Nat.reduceLeDiff, Nat.reduceEqDiff, Nat.reduceBEq, Int.cast_ofNat_Int, Int.reduceAdd, Int.reduceNeg, Int.reduceSub, Int.reduceToNat, Int.reduceLE, Nat.zero_le, false_implies, implies_true, beq_self_eq_true, Bool.and_true, Bool.and_false, Bool.or_false, Bool.false_or, Bool.or_true, Bool.true_or, Bool.and_self, Bool.or_self, Nat.zero_add, Nat.add_zero, or_false, or_true, true_or, false_or, j_b0, ↓j_b1, j_b2, ↓j_b3, j_01, j_inb, and_self, Classical.not_not, Int32.reduceLE, Int32.reduceLT, Int32.reduceAdd, j_ne, eq_self, not_true_eq_false, not_false_eq_true, forall_const, and_false, false_and, j_sc, j_ent, Nat.reduceSub, List.replicate_zero, List.replicate_succ]
        exact nx _
set_option maxRecDepth 100000 in
theorem f_X10_part {μ0 : j_M} {ρ fr n o D D' : Nat} {T V f : Nat → Int32} (hK : p_K μ0 ρ fr n T) (hD : 1 ≤ D) (hD' : D' + 1 ≤ D) (hU : p_U μ0 T V f n o D') : p_Pt μ0 T V f n o D := by
  intro m i x y hA
  refine eX10_part (Nat.le_of_ble_eq_true rfl) (j_go (fun q => q == 5) 30 ?_)
  simp only [qX10_part, j_f10, j_m10, j_ty, tyX10, ↓j_kt, ↓j_sel, ↓j_run_0, ↓j_run_s, ↓j_wp, ↓j_pi, ↓j_pii, ↓j_pl, ↓j_pll, ↓j_pli, ↓j_pr, ↓j_pri, ↓j_prii, ↓j_pvr, ↓j_pop, ↓j_gi, ↓j_gl, ↓j_ga, ↓j_ob, ↓j_ar, ↓j_fd, ↓j_fo, ↓j_mo, ↓j_br, ↓j_to, ↓j_lo, ↓j_scr, ↓j_co, ↓j_no, j_nf, j_rt, j_ld, j_st1, j_st2, j_k1, j_ci, j_fin, j_sh, j_shl, Option.map_some, Option.map_none, Option.toList_some, Option.toList_none, List.cons_append, List.nil_append, List.map_cons, List.map_nil, List.sum_cons, List.sum_nil, Value.category, List.getElem?_cons_zero, List.getElem?_cons_succ, List.length_cons, List.length_nil, true_and, and_true, if_true, if_false, ↓reduceIte, Bool.false_eq_true, Bool.true_eq_false, reduceCtorEq, Nat.reduceAdd, Nat.reduceLT, Nat.reduceLeDiff, Nat.reduceEqDiff, Nat.reduceBEq, Int.cast_ofNat_Int, Int.reduceAdd, Int.reduceNeg, Int.reduceSub, Int.reduceToNat, Int.reduceLE, Nat.zero_le, false_implies, implies_true, beq_self_eq_true, Bool.and_true, Bool.and_false, Bool.or_false, Bool.false_or, Bool.or_true, Bool.true_or, Bool.and_self, Bool.or_self, Nat.zero_add, Nat.add_zero, or_false, or_true, true_or, false_or, j_b0, ↓j_b1, j_b2, ↓j_b3, j_01, j_inb, and_self, Classical.not_not, Int32.reduceLE, Int32.reduceLT, Int32.reduceAdd, j_ne, eq_self, not_true_eq_false, not_false_eq_true, forall_const, and_false, false_and, j_sc, j_ent, Nat.reduceSub, List.replicate_zero, List.replicate_succ]
  refine j_use (hU _ _ _ _ hA) hD' (fun r m2 hp => ?_)
  obtain ⟨b2, rfl, hp⟩ := hp
  simp only [qX10_part, j_f10, j_m10, j_ty, tyX10, ↓j_kt, ↓j_sel, ↓j_run_0, ↓j_run_s, ↓j_wp, ↓j_pi, ↓j_pii, ↓j_pl, ↓j_pll, ↓j_pli, ↓j_pr, ↓j_pri, ↓j_prii, ↓j_pvr, ↓j_pop, ↓j_gi, ↓j_gl, ↓j_ga, ↓j_ob, ↓j_ar, ↓j_fd, ↓j_fo, ↓j_mo, ↓j_br, ↓j_to, ↓j_lo, ↓j_scr, ↓j_co, ↓j_no, j_nf, j_rt, j_ld, j_st1, j_st2, j_k1, j_ci, j_fin, j_sh, j_shl, Option.map_some, Option.map_none, Option.toList_some, Option.toList_none, List.cons_append, List.nil_append, List.map_cons, List.map_nil, List.sum_cons, List.sum_nil, Value.category, List.getElem?_cons_zero, List.getElem?_cons_succ, List.length_cons, List.length_nil, true_and, and_true, if_true, if_false, ↓reduceIte, Bool.false_eq_true, Bool.true_eq_false, reduceCtorEq, Nat.reduceAdd, Nat.reduceLT, Nat.reduceLeDiff, Nat.reduceEqDiff, Nat.reduceBEq, Int.cast_ofNat_Int, Int.reduceAdd, Int.reduceNeg, Int.reduceSub, Int.reduceToNat, Int.reduceLE, Nat.zero_le, false_implies, implies_true, beq_self_eq_true, Bool.and_true, Bool.and_false, Bool.or_false, Bool.false_or, Bool.or_true, Bool.true_or, Bool.and_self, Bool.or_self, Nat.zero_add, Nat.add_zero, or_false, or_true, true_or, false_or, j_b0, ↓j_b1, j_b2, ↓j_b3, j_01, j_inb, and_self, Classical.not_not, Int32.reduceLE, Int32.reduceLT, Int32.reduceAdd, j_ne, eq_self, not_true_eq_false, not_false_eq_true, forall_const, and_false, false_and, j_sc, j_ent, Nat.reduceSub, List.replicate_zero, List.replicate_succ]
  rcases hp with hF | ⟨j2, e1, hB2⟩
  · obtain ⟨i3, v3, o3, s3, f3, n3⟩ := id hF
    have q5 := s3.2.2.2.1
    refine j_go (fun q => q == 13) 20 ?_
    simp only [qX10_part, j_f10, j_m10, j_ty, tyX10, ↓j_kt, ↓j_sel, ↓j_run_0, ↓j_run_s, ↓j_wp, ↓j_pi, ↓j_pii, ↓j_pl, ↓j_pll, ↓j_pli, ↓j_pr, ↓j_pri, ↓j_prii, ↓j_pvr, ↓j_pop, ↓j_gi, ↓j_gl, ↓j_ga, ↓j_ob, ↓j_ar, ↓j_fd, ↓j_fo, ↓j_mo, ↓j_br, ↓j_to, ↓j_lo, ↓j_scr, ↓j_co, ↓j_no, j_nf, j_rt, j_ld, j_st1, j_st2, j_k1, j_ci, j_fin, j_sh, j_shl, Option.map_some, Option.map_none, Option.toList_some, Option.toList_none, List.cons_append, List.nil_append, List.map_cons, List.map_nil, List.sum_cons, List.sum_nil, Value.category, List.getElem?_cons_zero, List.getElem?_cons_succ, List.length_cons, List.length_nil, true_and, and_true, if_true, if_false, ↓reduceIte, Bool.false_eq_true, Bool.true_eq_false, reduceCtorEq, Nat.reduceAdd, Nat.reduceLT, Nat.reduceLeDiff, Nat.reduceEqDiff, Nat.reduceBEq, Int.cast_ofNat_Int, Int.reduceAdd, Int.reduceNeg, Int.reduceSub, Int.reduceToNat, Int.reduceLE, Nat.zero_le, false_implies, implies_true, beq_self_eq_true, Bool.and_true, Bool.and_false, Bool.or_false, Bool.false_or, Bool.or_true, Bool.true_or, Bool.and_self, Bool.or_self, Nat.zero_add, Nat.add_zero, or_false, or_true, true_or, false_or, j_b0, ↓j_b1, j_b2, ↓j_b3, j_01, j_inb, and_self, Classical.not_not, Int32.reduceLE, Int32.reduceLT, Int32.reduceAdd, j_ne, eq_self, not_true_eq_false, not_false_eq_true, forall_const, and_false, false_and, j_sc, j_ent, Nat.reduceSub, List.replicate_zero, List.replicate_succ, q5]
    refine ⟨fun _ => ?_, fun z => absurd z n3⟩
    exact ⟨b2, rfl, Or.inl hF⟩
  · exact l_X10_part hK hD hD' hU (fun b k m hk hB => ⟨rfl, b, rfl, Or.inr ⟨k, hk, hB⟩⟩) (fun b m hF => ⟨rfl, b, rfl, Or.inl hF⟩) (n + 1) j2 m2 b2 none (by omega) e1 hB2
