/-! the reference: fault, statute, mayJudge -/
theorem p_fr.rf (μ : j_M) : p_fr μ μ := ⟨fun _ _ => rfl, fun _ _ _ _ _ _ _ => rfl⟩
/-- the text being written, as both sides have it -/
def z_D (μ : j_M) (T : Nat → Int32) (n : Nat) : Prop := n ≤ 120 ∧ μ 42 8 = nI n ∧ ∀ k, k < n → 0 ≤ T k ∧ T k ≤ 255 ∧ μ 59 k = b_sg (T k)
theorem z_D.X {μ : j_M} {T : Nat → Int32} {n : Nat} (h : z_D μ T n) (hv : ∀ w, w < 6 → 0 ≤ μ 76 w) : p_X μ 59 0 n T := ⟨Or.inl ⟨rfl, by have := h.1; omega⟩, h.1, fun k hk => by rw [Nat.zero_add]; exact h.2.2 k hk, hv⟩
theorem z_D.t0 {μ : j_M} {T : Nat → Int32} {n : Nat} (h : z_D μ T n) : z_D (t_0 μ) T n := by
  unfold z_D at h ⊢
  rw [t_0s μ (show (8 : Nat) ≠ 0 by decide), t_0o μ (show (59 : Nat) ≠ 42 by decide)]
  exact h
set_option maxRecDepth 100000 in
theorem f_X10_fault {μ : j_M} {T : Nat → Int32} {n : Nat} (h : z_D μ T n) (hv : ∀ w, w < 6 → 0 ≤ μ 76 w) : j_R 29 yX10_fault [.ref 42] μ (fun r m => ∃ v, r = some v ∧ a_F T n v ∧ p_fr (t_0 μ) m ∧ m 42 43 = nI 59) := by
  have h0 := h.t0
  have hv0 : ∀ w, w < 6 → 0 ≤ t_0 μ 76 w := by rw [t_0o μ (by decide)]; exact hv
  refine eX10_fault (Nat.le_of_ble_eq_true rfl) (j_go (fun q => q == 5) 60 ?_)
  simp only [qX10_fault, j_f10, j_m10, j_ty, tyX10, ↓j_kt, ↓j_sel, ↓j_run_0, ↓j_run_s, ↓j_wp, ↓j_pi, ↓j_pii, ↓j_pl, ↓j_pll, ↓j_pli, ↓j_pr, ↓j_pri, ↓j_prii, ↓j_pvr, ↓j_pop, ↓j_gi, ↓j_gl, ↓j_ga, ↓j_ob, ↓j_ar, ↓j_fd, ↓j_fo, ↓j_mo, ↓j_br, ↓j_to, ↓j_lo, ↓j_scr, ↓j_co, ↓j_no, j_nf, j_rt, j_ld, j_st1, j_st2, j_k1, j_ci, j_fin, j_sh, j_shl, Option.map_some, Option.map_none, Option.toList_some, Option.toList_none, List.cons_append, List.nil_append, List.map_cons, List.map_nil, List.sum_cons, List.sum_nil, Value.category, List.getElem?_cons_zero, List.getElem?_cons_succ, List.length_cons, List.length_nil, true_and, and_true, if_true, if_false, ↓reduceIte, Bool.false_eq_true, Bool.true_eq_false, reduceCtorEq, Nat.reduceAdd, Nat.reduceLT, Nat.reduceLeDiff, Nat.reduceEqDiff, Nat.reduceBEq, Int.cast_ofNat_Int, Int.reduceAdd, Int.reduceNeg, Int.reduceSub, Int.reduceToNat, Int.reduceLE, Nat.zero_le, false_implies, implies_true, beq_self_eq_true, Bool.and_true, Bool.and_false, Bool.or_false, Bool.false_or, Bool.or_true, Bool.true_or, Bool.and_self, Bool.or_self, Nat.zero_add, Nat.add_zero, or_false, or_true, true_or, false_or, j_b0, ↓j_b1, j_b2, ↓j_b3, j_01, j_inb, and_self, Classical.not_not, Int32.reduceLE, Int32.reduceLT, Int32.reduceAdd, j_ne, eq_self, not_true_eq_false, not_false_eq_true, forall_const, and_false, false_and, j_sc, j_ent, Nat.reduceSub, List.replicate_zero, List.replicate_succ]
  show j_J _ _ _ _ _ _ _ _ _ _ _ _ _ _ (t_0 μ)
  generalize t_0 μ = ν at h0 hv0 ⊢
  refine j_go (fun _ => false) 60 ?_
  have e8 := h0.2.1
  simp only [qX10_fault, j_f10, j_m10, j_ty, tyX10, ↓j_kt, ↓j_sel, ↓j_run_0, ↓j_run_s, ↓j_wp, ↓j_pi, ↓j_pii, ↓j_pl, ↓j_pll, ↓j_pli, ↓j_pr, ↓j_pri, ↓j_prii, ↓j_pvr, ↓j_pop, ↓j_gi, ↓j_gl, ↓j_ga, ↓j_ob, ↓j_ar, ↓j_fd, ↓j_fo, ↓j_mo, ↓j_br, ↓j_to, ↓j_lo, ↓j_scr, ↓j_co, ↓j_no, j_nf, j_rt, j_ld, j_st1, j_st2, j_k1, j_ci, j_fin, j_sh, j_shl, Option.map_some, Option.map_none, Option.toList_some, Option.toList_none, List.cons_append, List.nil_append, List.map_cons, List.map_nil, List.sum_cons, List.sum_nil, Value.category, List.getElem?_cons_zero, List.getElem?_cons_succ, List.length_cons, List.length_nil, true_and, and_true, if_true, if_false, ↓reduceIte, Bool.false_eq_true, Bool.true_eq_false, reduceCtorEq, Nat.reduceAdd, Nat.reduceLT, Nat.reduceLeDiff, Nat.reduceEqDiff, Nat.reduceBEq, Int.cast_ofNat_Int, Int.reduceAdd, Int.reduceNeg, Int.reduceSub, Int.reduceToNat, Int.reduceLE, Nat.zero_le, false_implies, implies_true, beq_self_eq_true, Bool.and_true, Bool.and_false, Bool.or_false, Bool.false_or, Bool.or_true, Bool.true_or, Bool.and_self, Bool.or_self, Nat.zero_add, Nat.add_zero, or_false, or_true, true_or, false_or, j_b0, ↓j_b1, j_b2, ↓j_b3, j_01, j_inb, and_self, Classical.not_not, Int32.reduceLE, Int32.reduceLT, Int32.reduceAdd, j_ne, eq_self, not_true_eq_false, not_false_eq_true, forall_const, and_false, false_and, j_sc, j_ent, Nat.reduceSub, List.replicate_zero, List.replicate_succ, e8]
  refine j_use (f_X10_holds (fun _ => 0) (h0.X hv0)) (by decide) (fun r m hq => ?_)
  obtain ⟨q1, q2, q3, q4⟩ := hq
  obtain ⟨x, rfl⟩ : ∃ x, r = some x := by
    rcases q4 with ⟨-, rfl⟩ | ⟨-, rfl⟩
    · exact ⟨_, rfl⟩
    · exact ⟨_, rfl⟩
  simp only [qX10_fault, j_f10, j_m10, j_ty, tyX10, ↓j_kt, ↓j_sel, ↓j_run_0, ↓j_run_s, ↓j_wp, ↓j_pi, ↓j_pii, ↓j_pl, ↓j_pll, ↓j_pli, ↓j_pr, ↓j_pri, ↓j_prii, ↓j_pvr, ↓j_pop, ↓j_gi, ↓j_gl, ↓j_ga, ↓j_ob, ↓j_ar, ↓j_fd, ↓j_fo, ↓j_mo, ↓j_br, ↓j_to, ↓j_lo, ↓j_scr, ↓j_co, ↓j_no, j_nf, j_rt, j_ld, j_st1, j_st2, j_k1, j_ci, j_fin, j_sh, j_shl, Option.map_some, Option.map_none, Option.toList_some, Option.toList_none, List.cons_append, List.nil_append, List.map_cons, List.map_nil, List.sum_cons, List.sum_nil, Value.category, List.getElem?_cons_zero, List.getElem?_cons_succ, List.length_cons, List.length_nil, true_and, and_true, if_true, if_false, ↓reduceIte, Bool.false_eq_true, Bool.true_eq_false, reduceCtorEq, Nat.reduceAdd, Nat.reduceLT, Nat.reduceLeDiff, Nat.reduceEqDiff, Nat.reduceBEq, Int.cast_ofNat_Int, Int.reduceAdd, Int.reduceNeg, Int.reduceSub, Int.reduceToNat, Int.reduceLE, Nat.zero_le, false_implies, implies_true, beq_self_eq_true, Bool.and_true, Bool.and_false, Bool.or_false, Bool.false_or, Bool.or_true, Bool.true_or, Bool.and_self, Bool.or_self, Nat.zero_add, Nat.add_zero, or_false, or_true, true_or, false_or, j_b0, ↓j_b1, j_b2, ↓j_b3, j_01, j_inb, and_self, Classical.not_not, Int32.reduceLE, Int32.reduceLT, Int32.reduceAdd, j_ne, eq_self, not_true_eq_false, not_false_eq_true, forall_const, and_false, false_and, j_sc, j_ent, Nat.reduceSub, List.replicate_zero, List.replicate_succ]
  exact ⟨_, rfl, q3, q1, q2⟩
set_option maxRecDepth 100000 in
theorem b_nars : ∀ k : Fin 256, vp_nar .byte (b_sg (nI k.val)) = b_sg (nI k.val) := by decide +kernel
theorem b_nar {c : Int32} (h0 : 0 ≤ c) (h1 : c ≤ 255) : vp_nar .byte (b_sg c) = b_sg c := by
  obtain ⟨k, hk, rfl⟩ := vp_in_of (x := c) (n := 256) ((j_inl (N := 256) (by decide)).mpr ⟨h0, by grind⟩) (by omega)
  exact b_nars ⟨k, hk⟩
theorem cpy_s {f g : Nat → Int32} {dp k : Nat} : upd (va_cpy f g 0 dp k) (dp + k) (f k) = va_cpy f g 0 dp (k + 1) := by
  funext j
  by_cases h : j = dp + k
  · subst h
    rw [u_s, pk_cpy_in (by omega) (by omega)]
    congr 1
    omega
  · rw [u_n _ _ h]
    by_cases h2 : dp ≤ j ∧ j < dp + k
    · rw [pk_cpy_in h2.1 h2.2, pk_cpy_in h2.1 (by omega)]
    · rw [pk_cpy_out (by omega), pk_cpy_out (by omega)]
theorem cpy_0 {f g : Nat → Int32} {dp : Nat} : va_cpy f g 0 dp 0 = g := by
  funext j
  rw [pk_cpy_out (by omega)]
/-- the memory with the reference's statute s added -/
def q_st (μ : j_M) (s n : Nat) (fr : Int32) : j_M := j_up (j_up (j_up (j_up (j_up (j_row μ 60 (va_cpy (μ 59) (μ 60) 0 (120 * s) n)) 61 s (nI n)) 62 s fr) 63 s (μ 42 1)) 42 5 (nI (s + 1))) 42 8 0
def q_statute (μ : j_M) (T : Nat → Int32) (s n : Nat) (fr : Int32) (r : Option Int32) (m : j_M) : Prop := ∃ m1, p_fr μ m1 ∧ m1 42 43 = nI 59 ∧ ((((0 ≤ fr ∧ fr ≤ 20000) ∧ s < 30 ∧ a_F T n (-1)) ∧ r = some (nI s) ∧ m = q_st m1 s n fr) ∨ (¬ ((0 ≤ fr ∧ fr ≤ 20000) ∧ s < 30 ∧ a_F T n (-1)) ∧ r = some (-1) ∧ m = m1))
set_option maxRecDepth 100000 in
theorem l_X10_statute {μ : j_M} {T : Nat → Int32} {s n : Nat} {fr : Int32} {v2 : Int32} {Q : j_Q} (h : z_D μ T n) (hs : μ 42 5 = nI s) (hs2 : s < 30) (hQ : Q (some (nI s)) j_SH (q_st μ s n fr)) : ∀ (k i : Nat), i + k = n → j_J cX10_statute 10 4 (some .int) false 29 none Q j_SH 0 0 51 [some (.ref 42), some (.int fr), some (.int v2), some (.int (nI i))] [] (j_row μ 60 (va_cpy (μ 59) (μ 60) 0 (120 * s) i)) := by
  obtain ⟨n12, hl, hT⟩ := h
  intro k
  induction k with
  | zero =>
    intro i hi
    have e : i = n := by omega
    subst e
    refine j_go (fun q => q == 51) 60 ?_
    unfold q_st at hQ
    simp only [qX10_statute, j_f10, j_m10, j_ty, tyX10, ↓j_kt, ↓j_sel, ↓j_run_0, ↓j_run_s, ↓j_wp, ↓j_pi, ↓j_pii, ↓j_pl, ↓j_pll, ↓j_pli, ↓j_pr, ↓j_pri, ↓j_prii, ↓j_pvr, ↓j_pop, ↓j_gi, ↓j_gl, ↓j_ga, ↓j_ob, ↓j_ar, ↓j_fd, ↓j_fo, ↓j_mo, ↓j_br, ↓j_to, ↓j_lo, ↓j_scr, ↓j_co, ↓j_no, j_nf, j_rt, j_ld, j_st1, j_st2, j_k1, j_ci, j_fin, j_sh, j_shl, Option.map_some, Option.map_none, Option.toList_some, Option.toList_none, List.cons_append, List.nil_append, List.map_cons, List.map_nil, List.sum_cons, List.sum_nil, Value.category, List.getElem?_cons_zero, List.getElem?_cons_succ, List.length_cons, List.length_nil, true_and, and_true, if_true, if_false, ↓reduceIte, Bool.false_eq_true, Bool.true_eq_false, reduceCtorEq, Nat.reduceAdd, Nat.reduceLT, Nat.reduceLeDiff, Nat.reduceEqDiff, Nat.reduceBEq, Int.cast_ofNat_Int, Int.reduceAdd, Int.reduceNeg, Int.reduceSub, Int.reduceToNat, Int.reduceLE, Nat.zero_le, false_implies, implies_true, beq_self_eq_true, Bool.and_true, Bool.and_false, Bool.or_false, Bool.false_or, Bool.or_true, Bool.true_or, Bool.and_self, Bool.or_self, Nat.zero_add, Nat.add_zero, or_false, or_true, true_or, false_or, j_b0, ↓j_b1, j_b2, ↓j_b3, j_01, j_inb, and_self, Classical.not_not, Int32.reduceLE, Int32.reduceLT, Int32.reduceAdd, j_ne, eq_self, not_true_eq_false, not_false_eq_true, forall_const, and_false, false_and, j_sc, j_ent, Nat.reduceSub, List.replicate_zero, List.replicate_succ, j_rn', ne_eq, hl, hs, nI_1, nI_pred, j_us, j_un, u_n, u_s, nI_cl' (show s < 1000000 by omega)]
    have h30 := n30 hs2
    refine ⟨fun _ => ⟨h30, h30, h30, hQ⟩, fun z => by grind⟩
  | succ k ih =>
    intro i hi
    obtain ⟨t1, t2, t3⟩ := hT i (by omega)
    refine j_go (fun q => q == 51) 60 ?_
    simp only [qX10_statute, j_f10, j_m10, j_ty, tyX10, ↓j_kt, ↓j_sel, ↓j_run_0, ↓j_run_s, ↓j_wp, ↓j_pi, ↓j_pii, ↓j_pl, ↓j_pll, ↓j_pli, ↓j_pr, ↓j_pri, ↓j_prii, ↓j_pvr, ↓j_pop, ↓j_gi, ↓j_gl, ↓j_ga, ↓j_ob, ↓j_ar, ↓j_fd, ↓j_fo, ↓j_mo, ↓j_br, ↓j_to, ↓j_lo, ↓j_scr, ↓j_co, ↓j_no, j_nf, j_rt, j_ld, j_st1, j_st2, j_k1, j_ci, j_fin, j_sh, j_shl, Option.map_some, Option.map_none, Option.toList_some, Option.toList_none, List.cons_append, List.nil_append, List.map_cons, List.map_nil, List.sum_cons, List.sum_nil, Value.category, List.getElem?_cons_zero, List.getElem?_cons_succ, List.length_cons, List.length_nil, true_and, and_true, if_true, if_false, ↓reduceIte, Bool.false_eq_true, Bool.true_eq_false, reduceCtorEq, Nat.reduceAdd, Nat.reduceLT, Nat.reduceLeDiff, Nat.reduceEqDiff, Nat.reduceBEq, Int.cast_ofNat_Int, Int.reduceAdd, Int.reduceNeg, Int.reduceSub, Int.reduceToNat, Int.reduceLE, Nat.zero_le, false_implies, implies_true, beq_self_eq_true, Bool.and_true, Bool.and_false, Bool.or_false, Bool.false_or, Bool.or_true, Bool.true_or, Bool.and_self, Bool.or_self, Nat.zero_add, Nat.add_zero, or_false, or_true, true_or, false_or, j_b0, ↓j_b1, j_b2, ↓j_b3, j_01, j_inb, and_self, Classical.not_not, Int32.reduceLE, Int32.reduceLT, Int32.reduceAdd, j_ne, eq_self, not_true_eq_false, not_false_eq_true, forall_const, and_false, false_and, j_sc, j_ent, Nat.reduceSub, List.replicate_zero, List.replicate_succ, j_rn', j_rs, ne_eq, hl, hs, nI_1, n_120i, nI_add, t3, b_nar t1 t2, j_up_up, nI_cl' (show i < 1000000 by omega), nI_cl' (show 120 * s + i < 1000000 by omega), nI_lt' (show i < 1000000 by omega) (show n < 1000000 by omega), nI_le' (show n < 1000000 by omega) (show i < 1000000 by omega)]
    refine ⟨fun z => by omega, fun _ => ⟨n120 (by omega), n3600 (by omega), ?_⟩⟩
    have nx := ih (i + 1) (by omega)
    rw [← cpy_s, t3] at nx
    exact nx
set_option maxRecDepth 100000 in
theorem f_X10_statute {μ : j_M} {T : Nat → Int32} {n s : Nat} (fr : Int32) (h : z_D μ T n) (hv : ∀ w, w < 6 → 0 ≤ μ 76 w) (hs : μ 42 5 = nI s) (hs2 : s ≤ 30) : j_R 29 yX10_statute [.ref 42, .int fr] μ (q_statute (t_0 μ) T s n fr) := by
  have h0 := h.t0
  have hv0 : ∀ w, w < 6 → 0 ≤ t_0 μ 76 w := by rw [t_0o μ (by decide)]; exact hv
  have k5 : t_0 μ 42 5 = nI s := by rw [t_0s μ (by decide)]; exact hs
  refine eX10_statute (Nat.le_of_ble_eq_true rfl) (j_go (fun q => q == 5) 60 ?_)
  simp only [qX10_statute, j_f10, j_m10, j_ty, tyX10, ↓j_kt, ↓j_sel, ↓j_run_0, ↓j_run_s, ↓j_wp, ↓j_pi, ↓j_pii, ↓j_pl, ↓j_pll, ↓j_pli, ↓j_pr, ↓j_pri, ↓j_prii, ↓j_pvr, ↓j_pop, ↓j_gi, ↓j_gl, ↓j_ga, ↓j_ob, ↓j_ar, ↓j_fd, ↓j_fo, ↓j_mo, ↓j_br, ↓j_to, ↓j_lo, ↓j_scr, ↓j_co, ↓j_no, j_nf, j_rt, j_ld, j_st1, j_st2, j_k1, j_ci, j_fin, j_sh, j_shl, Option.map_some, Option.map_none, Option.toList_some, Option.toList_none, List.cons_append, List.nil_append, List.map_cons, List.map_nil, List.sum_cons, List.sum_nil, Value.category, List.getElem?_cons_zero, List.getElem?_cons_succ, List.length_cons, List.length_nil, true_and, and_true, if_true, if_false, ↓reduceIte, Bool.false_eq_true, Bool.true_eq_false, reduceCtorEq, Nat.reduceAdd, Nat.reduceLT, Nat.reduceLeDiff, Nat.reduceEqDiff, Nat.reduceBEq, Int.cast_ofNat_Int, Int.reduceAdd, Int.reduceNeg, Int.reduceSub, Int.reduceToNat, Int.reduceLE, Nat.zero_le, false_implies, implies_true, beq_self_eq_true, Bool.and_true, Bool.and_false, Bool.or_false, Bool.false_or, Bool.or_true, Bool.true_or, Bool.and_self, Bool.or_self, Nat.zero_add, Nat.add_zero, or_false, or_true, true_or, false_or, j_b0, ↓j_b1, j_b2, ↓j_b3, j_01, j_inb, and_self, Classical.not_not, Int32.reduceLE, Int32.reduceLT, Int32.reduceAdd, j_ne, eq_self, not_true_eq_false, not_false_eq_true, forall_const, and_false, false_and, j_sc, j_ent, Nat.reduceSub, List.replicate_zero, List.replicate_succ]
  show j_J _ _ _ _ _ _ _ _ _ _ _ _ _ _ (t_0 μ)
  generalize t_0 μ = ν at h0 hv0 k5 ⊢
  refine j_go (fun q => q == 51) 60 ?_
  have e8 := h0.2.1
  simp only [qX10_statute, j_f10, j_m10, j_ty, tyX10, ↓j_kt, ↓j_sel, ↓j_run_0, ↓j_run_s, ↓j_wp, ↓j_pi, ↓j_pii, ↓j_pl, ↓j_pll, ↓j_pli, ↓j_pr, ↓j_pri, ↓j_prii, ↓j_pvr, ↓j_pop, ↓j_gi, ↓j_gl, ↓j_ga, ↓j_ob, ↓j_ar, ↓j_fd, ↓j_fo, ↓j_mo, ↓j_br, ↓j_to, ↓j_lo, ↓j_scr, ↓j_co, ↓j_no, j_nf, j_rt, j_ld, j_st1, j_st2, j_k1, j_ci, j_fin, j_sh, j_shl, Option.map_some, Option.map_none, Option.toList_some, Option.toList_none, List.cons_append, List.nil_append, List.map_cons, List.map_nil, List.sum_cons, List.sum_nil, Value.category, List.getElem?_cons_zero, List.getElem?_cons_succ, List.length_cons, List.length_nil, true_and, and_true, if_true, if_false, ↓reduceIte, Bool.false_eq_true, Bool.true_eq_false, reduceCtorEq, Nat.reduceAdd, Nat.reduceLT, Nat.reduceLeDiff, Nat.reduceEqDiff, Nat.reduceBEq, Int.cast_ofNat_Int, Int.reduceAdd, Int.reduceNeg, Int.reduceSub, Int.reduceToNat, Int.reduceLE, Nat.zero_le, false_implies, implies_true, beq_self_eq_true, Bool.and_true, Bool.and_false, Bool.or_false, Bool.false_or, Bool.or_true, Bool.true_or, Bool.and_self, Bool.or_self, Nat.zero_add, Nat.add_zero, or_false, or_true, true_or, false_or, j_b0, ↓j_b1, j_b2, ↓j_b3, j_01, j_inb, and_self, Classical.not_not, Int32.reduceLE, Int32.reduceLT, Int32.reduceAdd, j_ne, eq_self, not_true_eq_false, not_false_eq_true, forall_const, and_false, false_and, j_sc, j_ent, Nat.reduceSub, List.replicate_zero, List.replicate_succ, e8]
  refine j_use (f_X10_holds (fun _ => 0) (h0.X hv0)) (by decide) (fun r m hq => ?_)
  obtain ⟨q1, q2, q3, q4⟩ := hq
  obtain ⟨x, rfl⟩ : ∃ x, r = some x := by
    rcases q4 with ⟨-, rfl⟩ | ⟨-, rfl⟩
    · exact ⟨_, rfl⟩
    · exact ⟨_, rfl⟩
  have m5 : m 42 5 = nI s := by rw [q1.2 5 (by decide) (by decide) (by decide) (by decide) (by decide) (by decide)]; exact k5
  have e30 : nI s = 30 ↔ s = 30 := nI_eq' (b := 30) (by omega) (by omega)
  simp only [qX10_statute, j_f10, j_m10, j_ty, tyX10, ↓j_kt, ↓j_sel, ↓j_run_0, ↓j_run_s, ↓j_wp, ↓j_pi, ↓j_pii, ↓j_pl, ↓j_pll, ↓j_pli, ↓j_pr, ↓j_pri, ↓j_prii, ↓j_pvr, ↓j_pop, ↓j_gi, ↓j_gl, ↓j_ga, ↓j_ob, ↓j_ar, ↓j_fd, ↓j_fo, ↓j_mo, ↓j_br, ↓j_to, ↓j_lo, ↓j_scr, ↓j_co, ↓j_no, j_nf, j_rt, j_ld, j_st1, j_st2, j_k1, j_ci, j_fin, j_sh, j_shl, Option.map_some, Option.map_none, Option.toList_some, Option.toList_none, List.cons_append, List.nil_append, List.map_cons, List.map_nil, List.sum_cons, List.sum_nil, Value.category, List.getElem?_cons_zero, List.getElem?_cons_succ, List.length_cons, List.length_nil, true_and, and_true, if_true, if_false, ↓reduceIte, Bool.false_eq_true, Bool.true_eq_false, reduceCtorEq, Nat.reduceAdd, Nat.reduceLT, Nat.reduceLeDiff, Nat.reduceEqDiff, Nat.reduceBEq, Int.cast_ofNat_Int, Int.reduceAdd, Int.reduceNeg, Int.reduceSub, Int.reduceToNat, Int.reduceLE, Nat.zero_le, false_implies, implies_true, beq_self_eq_true, Bool.and_true, Bool.and_false, Bool.or_false, Bool.false_or, Bool.or_true, Bool.true_or, Bool.and_self, Bool.or_self, Nat.zero_add, Nat.add_zero, or_false, or_true, true_or, false_or, j_b0, ↓j_b1, j_b2, ↓j_b3, j_01, j_inb, and_self, Classical.not_not, Int32.reduceLE, Int32.reduceLT, Int32.reduceAdd, j_ne, eq_self, not_true_eq_false, not_false_eq_true, forall_const, and_false, false_and, j_sc, j_ent, Nat.reduceSub, List.replicate_zero, List.replicate_succ, m5]
  refine ⟨fun k => ⟨m, q1, q2, Or.inr ⟨fun z => k (a_F_det q3 z.2.2), rfl, rfl⟩⟩, fun k => ?_⟩
  refine j_use1 (f_X10_isIn m fr 0 20000) (by decide) ?_
  simp only [qX10_statute, j_f10, j_m10, j_ty, tyX10, ↓j_kt, ↓j_sel, ↓j_run_0, ↓j_run_s, ↓j_wp, ↓j_pi, ↓j_pii, ↓j_pl, ↓j_pll, ↓j_pli, ↓j_pr, ↓j_pri, ↓j_prii, ↓j_pvr, ↓j_pop, ↓j_gi, ↓j_gl, ↓j_ga, ↓j_ob, ↓j_ar, ↓j_fd, ↓j_fo, ↓j_mo, ↓j_br, ↓j_to, ↓j_lo, ↓j_scr, ↓j_co, ↓j_no, j_nf, j_rt, j_ld, j_st1, j_st2, j_k1, j_ci, j_fin, j_sh, j_shl, Option.map_some, Option.map_none, Option.toList_some, Option.toList_none, List.cons_append, List.nil_append, List.map_cons, List.map_nil, List.sum_cons, List.sum_nil, Value.category, List.getElem?_cons_zero, List.getElem?_cons_succ, List.length_cons, List.length_nil, true_and, and_true, if_true, if_false, ↓reduceIte, Bool.false_eq_true, Bool.true_eq_false, reduceCtorEq, Nat.reduceAdd, Nat.reduceLT, Nat.reduceLeDiff, Nat.reduceEqDiff, Nat.reduceBEq, Int.cast_ofNat_Int, Int.reduceAdd, Int.reduceNeg, Int.reduceSub, Int.reduceToNat, Int.reduceLE, Nat.zero_le, false_implies, implies_true, beq_self_eq_true, Bool.and_true, Bool.and_false, Bool.or_false, Bool.false_or, Bool.or_true, Bool.true_or, Bool.and_self, Bool.or_self, Nat.zero_add, Nat.add_zero, or_false, or_true, true_or, false_or, j_b0, ↓j_b1, j_b2, ↓j_b3, j_01, j_inb, and_self, Classical.not_not, Int32.reduceLE, Int32.reduceLT, Int32.reduceAdd, j_ne, eq_self, not_true_eq_false, not_false_eq_true, forall_const, and_false, false_and, j_sc, j_ent, Nat.reduceSub, List.replicate_zero, List.replicate_succ, m5]
  refine ⟨fun k2 => ⟨m, q1, q2, Or.inr ⟨fun z => k2 z.1, rfl, rfl⟩⟩, fun k2 => ⟨fun k3 => ?_, fun k3 => ⟨m, q1, q2, Or.inr ⟨fun z => by have := e30.mp k3; omega, rfl, rfl⟩⟩⟩⟩
  have hs3 : s < 30 := by
    have : ¬ s = 30 := fun z => k3 (e30.mpr z)
    omega
  have hD : z_D m T n := by
    refine ⟨h0.1, ?_, ?_⟩
    · rw [q1.2 8 (by decide) (by decide) (by decide) (by decide) (by decide) (by decide)]; exact e8
    · rw [q1.1 59 (by decide)]; exact h0.2.2
  have e : m = j_row m 60 (va_cpy (m 59) (m 60) 0 (120 * s) 0) := by rw [cpy_0, j_row_self]
  have fin := l_X10_statute (fr := fr) (v2 := x) (Q := fun r sh m => sh = j_SH ∧ q_statute ν T s n fr r m) hD m5 hs3 ⟨rfl, m, q1, q2, Or.inl ⟨⟨k2, hs3, by rw [← k]; exact q3⟩, rfl, rfl⟩⟩ n 0 (by omega)
  rw [← e] at fin
  exact fin
