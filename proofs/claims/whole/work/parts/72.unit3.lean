/-! the reference's tests, holds -/
set_option maxRecDepth 100000 in
theorem l_X10_tests {μ0 : j_M} {ρ fr n o x y i D D' : Nat} {T V f : Nat → Int32} {Q : j_Q} (hK : p_K μ0 ρ fr n T) (ho : o ≤ 8) (hD : 1 ≤ D) (hD' : D' + 1 ≤ D) (hU : p_Pt μ0 T V f n o D')
    (hQ1 : ∀ (b : Bool) (k x' y' : Nat) (m : j_M), i ≤ k → p_B μ0 T V f n o x' y' (fun c => ¬ c = 32 ∧ ¬ c = 38 ∧ ¬ c = 124) k m → x' / 2 = x / 2 → y' / 2 = y / 2 → (b = true ↔ (x' % 2 = 1 ∨ y' % 2 = 1)) → Q (some (if b = true then 1 else 0)) j_SH m) (hQ2 : ∀ (b : Bool) m, p_F μ0 T n m → Q (some (if b = true then 1 else 0)) j_SH m) :
    ∀ (k j x' y' : Nat) (m : j_M) (b : Bool) (v2 : Option Value), n + 1 ≤ j + k → i ≤ j → p_B μ0 T V f n o x' y' (fun c => ¬ c = 32 ∧ ¬ c = 38) j m → x' / 2 = x / 2 → y' / 2 = y / 2 → (b = true ↔ (x' % 2 = 1 ∨ y' % 2 = 1)) → j_J cX10_tests 10 3 (some .boolean) false D none Q j_SH 0 0 5 [some (.ref 42), some (.int (if b = true then 1 else 0)), v2] [] m := by
  have n120 := hK.2.2.2.2.1
  have flt : ∀ (b : Bool) (m : j_M) (v2 : Option Value), p_F μ0 T n m → j_J cX10_tests 10 3 (some .boolean) false D none Q j_SH 0 0 5 [some (.ref 42), some (.int (if b = true then 1 else 0)), v2] [] m := by
    intro b m v2 hF
    have h := hQ2 b m hF
    obtain ⟨i3, v3, o3, s3, f3, n3⟩ := hF
    have q5 := s3.2.2.2.1
    refine j_go (fun q => q == 13) 20 ?_
    simp only [qX10_tests, j_f10, j_m10, j_ty, tyX10, ↓j_kt, ↓j_sel, ↓j_run_0, ↓j_run_s, ↓j_wp, ↓j_pi, ↓j_pii, ↓j_pl, ↓j_pll, ↓j_pli, ↓j_pr, ↓j_pri, ↓j_prii, ↓j_pvr, ↓j_pop, ↓j_gi, ↓j_gl, ↓j_ga, ↓j_ob, ↓j_ar, ↓j_fd, ↓j_fo, ↓j_mo, ↓j_br, ↓j_to, ↓j_lo, ↓j_scr, ↓j_co, ↓j_no, j_nf, j_rt, j_ld, j_st1, j_st2, j_k1, j_ci, j_fin, j_sh, j_shl, Option.map_some, Option.map_none, Option.toList_some, Option.toList_none, List.cons_append, List.nil_append, List.map_cons, List.map_nil, List.sum_cons, List.sum_nil, Value.category, List.getElem?_cons_zero, List.getElem?_cons_succ, List.length_cons, List.length_nil, true_and, and_true, if_true, if_false, ↓reduceIte, Bool.false_eq_true, Bool.true_eq_false, reduceCtorEq, Nat.reduceAdd, Nat.reduceLT, Nat.reduceLeDiff, Nat.reduceEqDiff, Nat.reduceBEq, Int.cast_ofNat_Int, Int.reduceAdd, Int.reduceNeg, Int.reduceSub, Int.reduceToNat, Int.reduceLE, Nat.zero_le, false_implies, implies_true, beq_self_eq_true, Bool.and_true, Bool.and_false, Bool.or_false, Bool.false_or, Bool.or_true, Bool.true_or, Bool.and_self, Bool.or_self, Nat.zero_add, Nat.add_zero, or_false, or_true, true_or, false_or, j_b0, ↓j_b1, j_b2, ↓j_b3, j_01, j_inb, and_self, Classical.not_not, Int32.reduceLE, Int32.reduceLT, Int32.reduceAdd, j_ne, eq_self, not_true_eq_false, not_false_eq_true, forall_const, and_false, false_and, j_sc, j_ent, Nat.reduceSub, List.replicate_zero, List.replicate_succ, q5]
    exact ⟨fun _ => h, fun z => absurd z n3⟩
  intro k
  induction k with
  | zero =>
    intro j x' y' m b v2 hk hj hB
    have := hB.1
    omega
  | succ k ih =>
    intro j x' y' m b v2 hk hj hB ex ey hb
    have q5 := hB.2.1.2.2.2.1
    refine j_go (fun q => q == 5) 40 ?_
    simp only [qX10_tests, j_f10, j_m10, j_ty, tyX10, ↓j_kt, ↓j_sel, ↓j_run_0, ↓j_run_s, ↓j_wp, ↓j_pi, ↓j_pii, ↓j_pl, ↓j_pll, ↓j_pli, ↓j_pr, ↓j_pri, ↓j_prii, ↓j_pvr, ↓j_pop, ↓j_gi, ↓j_gl, ↓j_ga, ↓j_ob, ↓j_ar, ↓j_fd, ↓j_fo, ↓j_mo, ↓j_br, ↓j_to, ↓j_lo, ↓j_scr, ↓j_co, ↓j_no, j_nf, j_rt, j_ld, j_st1, j_st2, j_k1, j_ci, j_fin, j_sh, j_shl, Option.map_some, Option.map_none, Option.toList_some, Option.toList_none, List.cons_append, List.nil_append, List.map_cons, List.map_nil, List.sum_cons, List.sum_nil, Value.category, List.getElem?_cons_zero, List.getElem?_cons_succ, List.length_cons, List.length_nil, true_and, and_true, if_true, if_false, ↓reduceIte, Bool.false_eq_true, Bool.true_eq_false, reduceCtorEq, Nat.reduceAdd, Nat.reduceLT, Nat.reduceLeDiff, Nat.reduceEqDiff, Nat.reduceBEq, Int.cast_ofNat_Int, Int.reduceAdd, Int.reduceNeg, Int.reduceSub, Int.reduceToNat, Int.reduceLE, Nat.zero_le, false_implies, implies_true, beq_self_eq_true, Bool.and_true, Bool.and_false, Bool.or_false, Bool.false_or, Bool.or_true, Bool.true_or, Bool.and_self, Bool.or_self, Nat.zero_add, Nat.add_zero, or_false, or_true, true_or, false_or, j_b0, ↓j_b1, j_b2, ↓j_b3, j_01, j_inb, and_self, Classical.not_not, Int32.reduceLE, Int32.reduceLT, Int32.reduceAdd, j_ne, eq_self, not_true_eq_false, not_false_eq_true, forall_const, and_false, false_and, j_sc, j_ent, Nat.reduceSub, List.replicate_zero, List.replicate_succ, q5]
    refine j_use (f_X10_look hK hB.2.1 hB.1) (by omega) (fun r m1 hp => ?_)
    obtain ⟨j1, d1, d2, d3, d4, hS1, rfl⟩ := hp
    have ej : j1 = j := by
      by_cases e : j1 = j
      · exact e
      · exact absurd (d3 j (Nat.le_refl _) (by omega)) (hB.2.2.2.1 (by omega)).1
    subst ej
    have q6 := hS1.2.2.1
    generalize hc : (if j1 < n then T j1 else -1) = c
    simp only [qX10_tests, j_f10, j_m10, j_ty, tyX10, ↓j_kt, ↓j_sel, ↓j_run_0, ↓j_run_s, ↓j_wp, ↓j_pi, ↓j_pii, ↓j_pl, ↓j_pll, ↓j_pli, ↓j_pr, ↓j_pri, ↓j_prii, ↓j_pvr, ↓j_pop, ↓j_gi, ↓j_gl, ↓j_ga, ↓j_ob, ↓j_ar, ↓j_fd, ↓j_fo, ↓j_mo, ↓j_br, ↓j_to, ↓j_lo, ↓j_scr, ↓j_co, ↓j_no, j_nf, j_rt, j_ld, j_st1, j_st2, j_k1, j_ci, j_fin, j_sh, j_shl, Option.map_some, Option.map_none, Option.toList_some, Option.toList_none, List.cons_append, List.nil_append, List.map_cons, List.map_nil, List.sum_cons, List.sum_nil, Value.category, List.getElem?_cons_zero, List.getElem?_cons_succ, List.length_cons, List.length_nil, true_and, and_true, if_true, if_false, ↓reduceIte, Bool.false_eq_true, Bool.true_eq_false, reduceCtorEq, Nat.reduceAdd, Nat.reduceLT, Nat.reduceLeDiff, Nat.reduceEqDiff, Nat.reduceBEq, Int.cast_ofNat_Int, Int.reduceAdd, Int.reduceNeg, Int.reduceSub, Int.reduceToNat, Int.reduceLE, Nat.zero_le, false_implies, implies_true, beq_self_eq_true, Bool.and_true, Bool.and_false, Bool.or_false, Bool.false_or, Bool.or_true, Bool.true_or, Bool.and_self, Bool.or_self, Nat.zero_add, Nat.add_zero, or_false, or_true, true_or, false_or, j_b0, ↓j_b1, j_b2, ↓j_b3, j_01, j_inb, and_self, Classical.not_not, Int32.reduceLE, Int32.reduceLT, Int32.reduceAdd, j_ne, eq_self, not_true_eq_false, not_false_eq_true, forall_const, and_false, false_and, j_sc, j_ent, Nat.reduceSub, List.replicate_zero, List.replicate_succ, q6, nI_1]
    refine ⟨fun z => ?_, fun z => ?_⟩
    · refine hQ1 b j1 x' y' m1 (by omega) (hB.lk d1 d2 d3 hS1 (fun w => ⟨d4 w, (hB.2.2.2.1 w).2, ?_⟩)) ex ey hb
      rw [if_pos w] at hc
      rw [hc]
      exact z
    · have hj1 : j1 < n ∧ T j1 = 124 := by
        by_cases w : j1 < n
        · rw [if_pos w] at hc; exact ⟨w, by rw [hc]; exact z⟩
        · rw [if_neg w] at hc; rw [← hc] at z; exact absurd z (by decide)
      refine j_use (hU _ _ _ _ (hB.or ho hj1.1 hj1.2 (hS1.mv (j1 + 1)))) hD' (fun r m2 hp => ?_)
      obtain ⟨b2, rfl, hp⟩ := hp
      have nx : ∀ v2, j_J cX10_tests 10 3 (some .boolean) false D none Q j_SH 0 0 5 [some (.ref 42), some (.int (if (b || b2) = true then 1 else 0)), v2] [] m2 := by
        intro v2
        rcases hp with hF | ⟨j2, e1, hB2⟩
        · exact flt _ _ _ hF
        · refine ih j2 _ _ m2 (b || b2) v2 (by omega) (by omega) hB2 ?_ ?_ ?_
          · split <;> omega
          · split <;> omega
          · cases b2 with
            | true => simp
            | false =>
              simp only [Bool.or_false, hb, Bool.false_eq_true, if_false]
              split <;> omega
      cases b <;> cases b2
      all_goals
        simp only [qX10_tests, j_f10, j_m10, j_ty, tyX10, ↓j_kt, ↓j_sel, ↓j_run_0, ↓j_run_s, ↓j_wp, ↓j_pi, ↓j_pii, ↓j_pl, ↓j_pll, ↓j_pli, ↓j_pr, ↓j_pri, ↓j_prii, ↓j_pvr, ↓j_pop, ↓j_gi, ↓j_gl, ↓j_ga, ↓j_ob, ↓j_ar, ↓j_fd, ↓j_fo, ↓j_mo, ↓j_br, ↓j_to, ↓j_lo, ↓j_scr, ↓j_co, ↓j_no, j_nf, j_rt, j_ld, j_st1, j_st2, j_k1, j_ci, j_fin, j_sh, j_shl, Option.map_some, Option.map_none, Option.toList_some, Option.toList_none, List.cons_append, List.nil_append, List.map_cons, List.map_nil, List.sum_cons, List.sum_nil, Value.category, List.getElem?_cons_zero, List.getElem?_cons_succ, List.length_cons, List.length_nil, true_and, and_true, if_true, if_false, ↓reduceIte, Bool.false_eq_true, Bool.true_eq_false, reduceCtorEq, Nat.reduceAdd, Nat.reduceLT, Nat.reduceLeDiff, Nat.reduceEqDiff, Nat.reduceBEq, Int.cast_ofNat_Int, Int.reduceAdd, Int.reduceNeg, Int.reduceSub, Int.reduceToNat, Int.reduceLE, Nat.zero_le, false_implies, implies_true, beq_self_eq_true, Bool.and_true, Bool.and_false, Bool.or_false, Bool.false_or, Bool.or_true, Bool.true_or, Bool.and_self, Bool.or_self, Nat.zero_add, Nat.add_zero, or_false, or_true, true_or, false_or, j_b0, ↓j_b1, j_b2, ↓j_b3, j_01, j_inb, and_self, Classical.not_not, Int32.reduceLE, Int32.reduceLT, Int32.reduceAdd, j_ne, eq_self, not_true_eq_false, not_false_eq_true, forall_const, and_false, false_and, j_sc, j_ent, Nat.reduceSub, List.replicate_zero, List.replicate_succ]
        exact nx _
set_option maxRecDepth 100000 in
theorem f_X10_tests {μ0 : j_M} {ρ fr n o D D' : Nat} {T V f : Nat → Int32} (hK : p_K μ0 ρ fr n T) (ho : o ≤ 8) (hD : 1 ≤ D) (hD' : D' + 1 ≤ D) (hU : p_Pt μ0 T V f n o D') : p_Ts μ0 T V f n o D := by
  intro m i x y hA hx hy
  refine eX10_tests (Nat.le_of_ble_eq_true rfl) (j_go (fun q => q == 5) 30 ?_)
  simp only [qX10_tests, j_f10, j_m10, j_ty, tyX10, ↓j_kt, ↓j_sel, ↓j_run_0, ↓j_run_s, ↓j_wp, ↓j_pi, ↓j_pii, ↓j_pl, ↓j_pll, ↓j_pli, ↓j_pr, ↓j_pri, ↓j_prii, ↓j_pvr, ↓j_pop, ↓j_gi, ↓j_gl, ↓j_ga, ↓j_ob, ↓j_ar, ↓j_fd, ↓j_fo, ↓j_mo, ↓j_br, ↓j_to, ↓j_lo, ↓j_scr, ↓j_co, ↓j_no, j_nf, j_rt, j_ld, j_st1, j_st2, j_k1, j_ci, j_fin, j_sh, j_shl, Option.map_some, Option.map_none, Option.toList_some, Option.toList_none, List.cons_append, List.nil_append, List.map_cons, List.map_nil, List.sum_cons, List.sum_nil, Value.category, List.getElem?_cons_zero, List.getElem?_cons_succ, List.length_cons, List.length_nil, true_and, and_true, if_true, if_false, ↓reduceIte, Bool.false_eq_true, Bool.true_eq_false, reduceCtorEq, Nat.reduceAdd, Nat.reduceLT, Nat.reduceLeDiff, Nat.reduceEqDiff, Nat.reduceBEq, Int.cast_ofNat_Int, Int.reduceAdd, Int.reduceNeg, Int.reduceSub, Int.reduceToNat, Int.reduceLE, Nat.zero_le, false_implies, implies_true, beq_self_eq_true, Bool.and_true, Bool.and_false, Bool.or_false, Bool.false_or, Bool.or_true, Bool.true_or, Bool.and_self, Bool.or_self, Nat.zero_add, Nat.add_zero, or_false, or_true, true_or, false_or, j_b0, ↓j_b1, j_b2, ↓j_b3, j_01, j_inb, and_self, Classical.not_not, Int32.reduceLE, Int32.reduceLT, Int32.reduceAdd, j_ne, eq_self, not_true_eq_false, not_false_eq_true, forall_const, and_false, false_and, j_sc, j_ent, Nat.reduceSub, List.replicate_zero, List.replicate_succ]
  refine j_use (hU _ _ _ _ hA) hD' (fun r m2 hp => ?_)
  obtain ⟨b2, rfl, hp⟩ := hp
  simp only [qX10_tests, j_f10, j_m10, j_ty, tyX10, ↓j_kt, ↓j_sel, ↓j_run_0, ↓j_run_s, ↓j_wp, ↓j_pi, ↓j_pii, ↓j_pl, ↓j_pll, ↓j_pli, ↓j_pr, ↓j_pri, ↓j_prii, ↓j_pvr, ↓j_pop, ↓j_gi, ↓j_gl, ↓j_ga, ↓j_ob, ↓j_ar, ↓j_fd, ↓j_fo, ↓j_mo, ↓j_br, ↓j_to, ↓j_lo, ↓j_scr, ↓j_co, ↓j_no, j_nf, j_rt, j_ld, j_st1, j_st2, j_k1, j_ci, j_fin, j_sh, j_shl, Option.map_some, Option.map_none, Option.toList_some, Option.toList_none, List.cons_append, List.nil_append, List.map_cons, List.map_nil, List.sum_cons, List.sum_nil, Value.category, List.getElem?_cons_zero, List.getElem?_cons_succ, List.length_cons, List.length_nil, true_and, and_true, if_true, if_false, ↓reduceIte, Bool.false_eq_true, Bool.true_eq_false, reduceCtorEq, Nat.reduceAdd, Nat.reduceLT, Nat.reduceLeDiff, Nat.reduceEqDiff, Nat.reduceBEq, Int.cast_ofNat_Int, Int.reduceAdd, Int.reduceNeg, Int.reduceSub, Int.reduceToNat, Int.reduceLE, Nat.zero_le, false_implies, implies_true, beq_self_eq_true, Bool.and_true, Bool.and_false, Bool.or_false, Bool.false_or, Bool.or_true, Bool.true_or, Bool.and_self, Bool.or_self, Nat.zero_add, Nat.add_zero, or_false, or_true, true_or, false_or, j_b0, ↓j_b1, j_b2, ↓j_b3, j_01, j_inb, and_self, Classical.not_not, Int32.reduceLE, Int32.reduceLT, Int32.reduceAdd, j_ne, eq_self, not_true_eq_false, not_false_eq_true, forall_const, and_false, false_and, j_sc, j_ent, Nat.reduceSub, List.replicate_zero, List.replicate_succ]
  rcases hp with hF | ⟨j2, e1, hB2⟩
  · obtain ⟨i3, v3, o3, s3, f3, n3⟩ := id hF
    have q5 := s3.2.2.2.1
    refine j_go (fun q => q == 13) 20 ?_
    simp only [qX10_tests, j_f10, j_m10, j_ty, tyX10, ↓j_kt, ↓j_sel, ↓j_run_0, ↓j_run_s, ↓j_wp, ↓j_pi, ↓j_pii, ↓j_pl, ↓j_pll, ↓j_pli, ↓j_pr, ↓j_pri, ↓j_prii, ↓j_pvr, ↓j_pop, ↓j_gi, ↓j_gl, ↓j_ga, ↓j_ob, ↓j_ar, ↓j_fd, ↓j_fo, ↓j_mo, ↓j_br, ↓j_to, ↓j_lo, ↓j_scr, ↓j_co, ↓j_no, j_nf, j_rt, j_ld, j_st1, j_st2, j_k1, j_ci, j_fin, j_sh, j_shl, Option.map_some, Option.map_none, Option.toList_some, Option.toList_none, List.cons_append, List.nil_append, List.map_cons, List.map_nil, List.sum_cons, List.sum_nil, Value.category, List.getElem?_cons_zero, List.getElem?_cons_succ, List.length_cons, List.length_nil, true_and, and_true, if_true, if_false, ↓reduceIte, Bool.false_eq_true, Bool.true_eq_false, reduceCtorEq, Nat.reduceAdd, Nat.reduceLT, Nat.reduceLeDiff, Nat.reduceEqDiff, Nat.reduceBEq, Int.cast_ofNat_Int, Int.reduceAdd, Int.reduceNeg, Int.reduceSub, Int.reduceToNat, Int.reduceLE, Nat.zero_le, false_implies, implies_true, beq_self_eq_true, Bool.and_true, Bool.and_false, Bool.or_false, Bool.false_or, Bool.or_true, Bool.true_or, Bool.and_self, Bool.or_self, Nat.zero_add, Nat.add_zero, or_false, or_true, true_or, false_or, j_b0, ↓j_b1, j_b2, ↓j_b3, j_01, j_inb, and_self, Classical.not_not, Int32.reduceLE, Int32.reduceLT, Int32.reduceAdd, j_ne, eq_self, not_true_eq_false, not_false_eq_true, forall_const, and_false, false_and, j_sc, j_ent, Nat.reduceSub, List.replicate_zero, List.replicate_succ, q5]
    refine ⟨fun _ => ?_, fun z => absurd z n3⟩
    exact ⟨b2, rfl, Or.inl hF⟩
  · refine l_X10_tests (x := x) (y := y) hK ho hD hD' hU (fun b k x' y' m hk hB ex ey hb => ⟨rfl, b, rfl, Or.inr ⟨k, x', y', hk, hB, ex, ey, hb⟩⟩) (fun b m hF => ⟨rfl, b, rfl, Or.inl hF⟩) (n + 1) j2 _ _ m2 b2 none (by omega) e1 hB2 rfl ?_ ?_
    · split <;> omega
    · cases b2 with
      | true => simp; omega
      | false => simp; omega
/-- all three, by the brackets that may yet be opened -/
theorem p_all {μ0 : j_M} {ρ fr n : Nat} {T f : Nat → Int32} (hK : p_K μ0 ρ fr n T) : ∀ δ o, o + δ = 8 → p_Ts μ0 T (μ0 76) f n o (3 * δ + 3)
  | 0, o, h => f_X10_tests hK (by omega) (by omega) (D' := 2) (by omega) (f_X10_part hK (by omega) (D' := 1) (by omega) (f_X10_unit hK (by omega) (by omega) (D' := 0) (by omega) (fun z => by omega)))
  | δ + 1, o, h => f_X10_tests hK (by omega) (by omega) (D' := 3 * δ + 5) (by omega) (f_X10_part hK (by omega) (D' := 3 * δ + 4) (by omega) (f_X10_unit hK (by omega) (by omega) (D' := 3 * δ + 3) (by omega) (fun _ => p_all hK δ (o + 1) (by omega))))
/-- the memory at the begin of a reading -/
def p_0 (μ : j_M) (ρ fr n : Nat) : j_M := j_up (j_up (j_up (j_up (j_up (j_up μ 42 43 (nI ρ)) 42 44 (nI fr)) 42 45 (nI n)) 42 46 0) 42 48 0) 42 47 (-1)
/-- what a text is, where the reference reads it -/
def p_X (μ : j_M) (ρ fr n : Nat) (T : Nat → Int32) : Prop := (ρ = 59 ∧ fr + n ≤ 120 ∨ ρ = 60 ∧ fr + n ≤ 3600) ∧ n ≤ 120 ∧ (∀ k, k < n → 0 ≤ T k ∧ T k ≤ 255 ∧ μ ρ (fr + k) = b_sg (T k)) ∧ ∀ w, w < 6 → 0 ≤ μ 76 w
/-- all but the reading's own slots -/
def p_fr (μ m : j_M) : Prop := (∀ b, b ≠ 42 → m b = μ b) ∧ (∀ j, j ≠ 43 → j ≠ 44 → j ≠ 45 → j ≠ 46 → j ≠ 47 → j ≠ 48 → m 42 j = μ 42 j)
theorem p_0_K {μ : j_M} {ρ fr n : Nat} {T : Nat → Int32} (h : p_X μ ρ fr n T) : p_K (p_0 μ ρ fr n) ρ fr n T := by
  obtain ⟨h1, h2, h3, h4⟩ := h
  have hρ : ρ ≠ 42 ∧ ρ < 1000000 := by rcases h1 with ⟨e, -⟩ | ⟨e, -⟩ <;> subst e <;> decide
  unfold p_0
  refine ⟨?_, h1, ?_, ?_, h2, fun k hk => ?_, fun w hw => ?_⟩
  · simp only [j_us, u_n, u_s, ne_eq, Nat.reduceEqDiff, not_false_eq_true]
    exact nI_cl' hρ.2
  · simp only [j_us, u_n, u_s, ne_eq, Nat.reduceEqDiff, not_false_eq_true]
  · simp only [j_us, u_n, u_s, ne_eq, Nat.reduceEqDiff, not_false_eq_true]
  · simp only [j_un _ _ _ hρ.1]
    exact h3 k hk
  · simp only [j_un _ _ _ (show (76 : Nat) ≠ 42 by decide)]
    exact h4 w hw
theorem p_0_S {μ : j_M} {ρ fr n : Nat} : p_S (p_0 μ ρ fr n) (p_0 μ ρ fr n) 0 (-1) 0 := by
  refine ⟨fun _ _ => rfl, fun _ _ _ _ => rfl, ?_, ?_, ?_⟩
  · unfold p_0
    simp only [j_us, u_n, u_s, ne_eq, Nat.reduceEqDiff, not_false_eq_true]
    rfl
  · unfold p_0
    simp only [j_us, u_n, u_s, ne_eq, Nat.reduceEqDiff, not_false_eq_true]
  · unfold p_0
    simp only [j_us, u_n, u_s, ne_eq, Nat.reduceEqDiff, not_false_eq_true]
    rfl
theorem p_0_fr {μ m : j_M} {ρ fr n i o : Nat} {e : Int32} (h : p_S (p_0 μ ρ fr n) m i e o) : p_fr μ m ∧ m 42 43 = nI ρ := by
  obtain ⟨h1, h2, -⟩ := h
  refine ⟨⟨fun b hb => ?_, fun j a b c d e f => ?_⟩, ?_⟩
  · rw [h1 b hb]
    unfold p_0
    simp only [j_un _ _ _ hb]
  · rw [h2 j d e f]
    unfold p_0
    simp only [j_us]
    rw [u_n _ _ e, u_n _ _ f, u_n _ _ d, u_n _ _ c, u_n _ _ b, u_n _ _ a]
  · rw [h2 43 (by decide) (by decide) (by decide)]
    unfold p_0
    simp only [j_us, u_n, u_s, ne_eq, Nat.reduceEqDiff, not_false_eq_true]
/-- what holds leaves: the fault, and, without one, whether the text holds as the class weighs it -/
def p_H (μ : j_M) (ρ n : Nat) (T f : Nat → Int32) (r : Option Int32) (m : j_M) : Prop := p_fr μ m ∧ m 42 43 = nI ρ ∧ a_F T n (m 42 47) ∧ ((m 42 47 = -1 ∧ r = some (if h_x (μ 76) T f n = true then 1 else 0)) ∨ (¬ m 42 47 = -1 ∧ r = some 0))
theorem w_0_A {μ0 m : j_M} {T V f : Nat → Int32} {n : Nat} (hS : p_S μ0 m 0 (-1) 0) : p_A μ0 T V (w_0 f) n 0 0 1 0 m := by
  refine ⟨by omega, hS, ⟨0, rfl⟩, ?_, ?_, ?_, by decide, by decide⟩
  · show w_0 f 6 = 0
    unfold w_0
    rw [u_s]
  · show w_0 f 1 = nI 0
    unfold w_0
    rw [u_n _ _ (by decide), u_n _ _ (by decide), u_s]
    rfl
  · show w_0 f 2 = nI 1
    unfold w_0
    rw [u_n _ _ (by decide), u_s]
    rfl
set_option maxRecDepth 100000 in
theorem l_X10_holds {μ : j_M} {ρ fr n : Nat} {T f : Nat → Int32} {Q : j_Q} (hX : p_X μ ρ fr n T) (hQ : ∀ r m, p_fr μ m → m 42 43 = nI ρ → a_F T n (m 42 47) → ((m 42 47 = -1 ∧ r = some (if h_x (μ 76) T f n = true then 1 else 0)) ∨ (¬ m 42 47 = -1 ∧ r = some 0)) → Q r j_SH m) : j_J cX10_holds 10 5 (some .boolean) false 28 none Q j_SH 0 0 30 [some (.ref 42), none, none, none, none] [] (p_0 μ ρ fr n) := by
  have hK := p_0_K hX
  have n120 := hK.2.2.2.2.1
  have hV : (p_0 μ ρ fr n) 76 = μ 76 := by
    unfold p_0
    simp only [j_un, ne_eq, Nat.reduceEqDiff, not_false_eq_true]
  have hA := w_0_A (T := T) (V := p_0 μ ρ fr n 76) (f := f) (n := n) (p_0_S (μ := μ) (ρ := ρ) (fr := fr) (n := n))
  have hT := p_all (f := w_0 f) hK 8 0 (by omega)
  have h0 : ∀ (m : j_M) (i o : Nat) (e : Int32), p_S (p_0 μ ρ fr n) m i e o → p_fr μ m ∧ m 42 43 = nI ρ := fun m i o e h => p_0_fr h
  generalize p_0 μ ρ fr n = ν at hK hV hA hT h0 ⊢
  refine j_go (fun q => false) 60 ?_
  simp only [qX10_holds, j_f10, j_m10, j_ty, tyX10, ↓j_kt, ↓j_sel, ↓j_run_0, ↓j_run_s, ↓j_wp, ↓j_pi, ↓j_pii, ↓j_pl, ↓j_pll, ↓j_pli, ↓j_pr, ↓j_pri, ↓j_prii, ↓j_pvr, ↓j_pop, ↓j_gi, ↓j_gl, ↓j_ga, ↓j_ob, ↓j_ar, ↓j_fd, ↓j_fo, ↓j_mo, ↓j_br, ↓j_to, ↓j_lo, ↓j_scr, ↓j_co, ↓j_no, j_nf, j_rt, j_ld, j_st1, j_st2, j_k1, j_ci, j_fin, j_sh, j_shl, Option.map_some, Option.map_none, Option.toList_some, Option.toList_none, List.cons_append, List.nil_append, List.map_cons, List.map_nil, List.sum_cons, List.sum_nil, Value.category, List.getElem?_cons_zero, List.getElem?_cons_succ, List.length_cons, List.length_nil, true_and, and_true, if_true, if_false, ↓reduceIte, Bool.false_eq_true, Bool.true_eq_false, reduceCtorEq, Nat.reduceAdd, Nat.reduceLT, Nat.reduceLeDiff, Nat.reduceEqDiff, Nat.reduceBEq, Int.cast_ofNat_Int, Int.reduceAdd, Int.reduceNeg, Int.reduceSub, Int.reduceToNat, Int.reduceLE, Nat.zero_le, false_implies, implies_true, beq_self_eq_true, Bool.and_true, Bool.and_false, Bool.or_false, Bool.false_or, Bool.or_true, Bool.true_or, Bool.and_self, Bool.or_self, Nat.zero_add, Nat.add_zero, or_false, or_true, true_or, false_or, j_b0, ↓j_b1, j_b2, ↓j_b3, j_01, j_inb, and_self, Classical.not_not, Int32.reduceLE, Int32.reduceLT, Int32.reduceAdd, j_ne, eq_self, not_true_eq_false, not_false_eq_true, forall_const, and_false, false_and, j_sc, j_ent, Nat.reduceSub, List.replicate_zero, List.replicate_succ]
  refine j_use (hT _ _ _ _ hA (by omega) (by omega)) (by omega) (fun r m1 hp => ?_)
  obtain ⟨b, rfl, hp⟩ := hp
  rcases hp with ⟨i3, v3, o3, s3, f3, n3⟩ | ⟨j, x', y', c1, hB, ex, ey, hbb⟩
  · have q5 := s3.2.2.2.1
    obtain ⟨z1, z2⟩ := h0 _ _ _ _ s3
    have hq : Q (some 0) j_SH m1 := hQ _ _ z1 z2 (by rw [q5]; exact f3) (Or.inr ⟨by rw [q5]; exact n3, rfl⟩)
    cases b
    all_goals
      simp only [qX10_holds, j_f10, j_m10, j_ty, tyX10, ↓j_kt, ↓j_sel, ↓j_run_0, ↓j_run_s, ↓j_wp, ↓j_pi, ↓j_pii, ↓j_pl, ↓j_pll, ↓j_pli, ↓j_pr, ↓j_pri, ↓j_prii, ↓j_pvr, ↓j_pop, ↓j_gi, ↓j_gl, ↓j_ga, ↓j_ob, ↓j_ar, ↓j_fd, ↓j_fo, ↓j_mo, ↓j_br, ↓j_to, ↓j_lo, ↓j_scr, ↓j_co, ↓j_no, j_nf, j_rt, j_ld, j_st1, j_st2, j_k1, j_ci, j_fin, j_sh, j_shl, Option.map_some, Option.map_none, Option.toList_some, Option.toList_none, List.cons_append, List.nil_append, List.map_cons, List.map_nil, List.sum_cons, List.sum_nil, Value.category, List.getElem?_cons_zero, List.getElem?_cons_succ, List.length_cons, List.length_nil, true_and, and_true, if_true, if_false, ↓reduceIte, Bool.false_eq_true, Bool.true_eq_false, reduceCtorEq, Nat.reduceAdd, Nat.reduceLT, Nat.reduceLeDiff, Nat.reduceEqDiff, Nat.reduceBEq, Int.cast_ofNat_Int, Int.reduceAdd, Int.reduceNeg, Int.reduceSub, Int.reduceToNat, Int.reduceLE, Nat.zero_le, false_implies, implies_true, beq_self_eq_true, Bool.and_true, Bool.and_false, Bool.or_false, Bool.false_or, Bool.or_true, Bool.true_or, Bool.and_self, Bool.or_self, Nat.zero_add, Nat.add_zero, or_false, or_true, true_or, false_or, j_b0, ↓j_b1, j_b2, ↓j_b3, j_01, j_inb, and_self, Classical.not_not, Int32.reduceLE, Int32.reduceLT, Int32.reduceAdd, j_ne, eq_self, not_true_eq_false, not_false_eq_true, forall_const, and_false, false_and, j_sc, j_ent, Nat.reduceSub, List.replicate_zero, List.replicate_succ, q5, n3]
      exact hq
  · have q5 := hB.2.1.2.2.2.1
    simp only [qX10_holds, j_f10, j_m10, j_ty, tyX10, ↓j_kt, ↓j_sel, ↓j_run_0, ↓j_run_s, ↓j_wp, ↓j_pi, ↓j_pii, ↓j_pl, ↓j_pll, ↓j_pli, ↓j_pr, ↓j_pri, ↓j_prii, ↓j_pvr, ↓j_pop, ↓j_gi, ↓j_gl, ↓j_ga, ↓j_ob, ↓j_ar, ↓j_fd, ↓j_fo, ↓j_mo, ↓j_br, ↓j_to, ↓j_lo, ↓j_scr, ↓j_co, ↓j_no, j_nf, j_rt, j_ld, j_st1, j_st2, j_k1, j_ci, j_fin, j_sh, j_shl, Option.map_some, Option.map_none, Option.toList_some, Option.toList_none, List.cons_append, List.nil_append, List.map_cons, List.map_nil, List.sum_cons, List.sum_nil, Value.category, List.getElem?_cons_zero, List.getElem?_cons_succ, List.length_cons, List.length_nil, true_and, and_true, if_true, if_false, ↓reduceIte, Bool.false_eq_true, Bool.true_eq_false, reduceCtorEq, Nat.reduceAdd, Nat.reduceLT, Nat.reduceLeDiff, Nat.reduceEqDiff, Nat.reduceBEq, Int.cast_ofNat_Int, Int.reduceAdd, Int.reduceNeg, Int.reduceSub, Int.reduceToNat, Int.reduceLE, Nat.zero_le, false_implies, implies_true, beq_self_eq_true, Bool.and_true, Bool.and_false, Bool.or_false, Bool.false_or, Bool.or_true, Bool.true_or, Bool.and_self, Bool.or_self, Nat.zero_add, Nat.add_zero, or_false, or_true, true_or, false_or, j_b0, ↓j_b1, j_b2, ↓j_b3, j_01, j_inb, and_self, Classical.not_not, Int32.reduceLE, Int32.reduceLT, Int32.reduceAdd, j_ne, eq_self, not_true_eq_false, not_false_eq_true, forall_const, and_false, false_and, j_sc, j_ent, Nat.reduceSub, List.replicate_zero, List.replicate_succ, q5]
    refine j_use (f_X10_look hK hB.2.1 hB.1) (by omega) (fun r m4 hp => ?_)
    obtain ⟨j1, d1, d2, d3, d4, hS4, rfl⟩ := hp
    have ej : j1 = j := by
      by_cases e : j1 = j
      · exact e
      · exact absurd (d3 j (Nat.le_refl _) (by omega)) (hB.2.2.2.1 (by omega)).1
    subst ej
    have q6 := hS4.2.2.2.1
    obtain ⟨z1, z2⟩ := h0 _ _ _ _ hS4
    obtain ⟨pl, dg, p1, p2, p3⟩ := hB.2.2.1
    by_cases z : j1 < n
    · rw [if_pos z]
      have hP := hB.2.2.2.1 z
      have hF : a_F T n (nI j1) := hB.no z hP.1 (fun _ => rfl) hP.2.1 hP.2.2
      have ne : ¬ T j1 = -1 := by
        intro w
        have := (hK.2.2.2.2.2.1 j1 z).1
        rw [w] at this
        exact absurd this (by decide)
      have nm : ¬ nI j1 = -1 := nI_m1 (by omega)
      obtain ⟨y1, y2⟩ := h0 _ _ _ _ (hS4.ft (nI j1))
      have hq : Q (some 0) j_SH (j_up m4 42 47 (nI j1)) := hQ _ _ y1 y2 (by rw [j_us, u_s]; exact hF) (Or.inr ⟨by rw [j_us, u_s]; exact nm, rfl⟩)
      simp only [qX10_holds, j_f10, j_m10, j_ty, tyX10, ↓j_kt, ↓j_sel, ↓j_run_0, ↓j_run_s, ↓j_wp, ↓j_pi, ↓j_pii, ↓j_pl, ↓j_pll, ↓j_pli, ↓j_pr, ↓j_pri, ↓j_prii, ↓j_pvr, ↓j_pop, ↓j_gi, ↓j_gl, ↓j_ga, ↓j_ob, ↓j_ar, ↓j_fd, ↓j_fo, ↓j_mo, ↓j_br, ↓j_to, ↓j_lo, ↓j_scr, ↓j_co, ↓j_no, j_nf, j_rt, j_ld, j_st1, j_st2, j_k1, j_ci, j_fin, j_sh, j_shl, Option.map_some, Option.map_none, Option.toList_some, Option.toList_none, List.cons_append, List.nil_append, List.map_cons, List.map_nil, List.sum_cons, List.sum_nil, Value.category, List.getElem?_cons_zero, List.getElem?_cons_succ, List.length_cons, List.length_nil, true_and, and_true, if_true, if_false, ↓reduceIte, Bool.false_eq_true, Bool.true_eq_false, reduceCtorEq, Nat.reduceAdd, Nat.reduceLT, Nat.reduceLeDiff, Nat.reduceEqDiff, Nat.reduceBEq, Int.cast_ofNat_Int, Int.reduceAdd, Int.reduceNeg, Int.reduceSub, Int.reduceToNat, Int.reduceLE, Nat.zero_le, false_implies, implies_true, beq_self_eq_true, Bool.and_true, Bool.and_false, Bool.or_false, Bool.false_or, Bool.or_true, Bool.true_or, Bool.and_self, Bool.or_self, Nat.zero_add, Nat.add_zero, or_false, or_true, true_or, false_or, j_b0, ↓j_b1, j_b2, ↓j_b3, j_01, j_inb, and_self, Classical.not_not, Int32.reduceLE, Int32.reduceLT, Int32.reduceAdd, j_ne, eq_self, not_true_eq_false, not_false_eq_true, forall_const, and_false, false_and, j_sc, j_ent, Nat.reduceSub, List.replicate_zero, List.replicate_succ, ne]
      refine j_use1 (p_wr hS4) (by omega) ?_
      cases b
      all_goals
        simp only [qX10_holds, j_f10, j_m10, j_ty, tyX10, ↓j_kt, ↓j_sel, ↓j_run_0, ↓j_run_s, ↓j_wp, ↓j_pi, ↓j_pii, ↓j_pl, ↓j_pll, ↓j_pli, ↓j_pr, ↓j_pri, ↓j_prii, ↓j_pvr, ↓j_pop, ↓j_gi, ↓j_gl, ↓j_ga, ↓j_ob, ↓j_ar, ↓j_fd, ↓j_fo, ↓j_mo, ↓j_br, ↓j_to, ↓j_lo, ↓j_scr, ↓j_co, ↓j_no, j_nf, j_rt, j_ld, j_st1, j_st2, j_k1, j_ci, j_fin, j_sh, j_shl, Option.map_some, Option.map_none, Option.toList_some, Option.toList_none, List.cons_append, List.nil_append, List.map_cons, List.map_nil, List.sum_cons, List.sum_nil, Value.category, List.getElem?_cons_zero, List.getElem?_cons_succ, List.length_cons, List.length_nil, true_and, and_true, if_true, if_false, ↓reduceIte, Bool.false_eq_true, Bool.true_eq_false, reduceCtorEq, Nat.reduceAdd, Nat.reduceLT, Nat.reduceLeDiff, Nat.reduceEqDiff, Nat.reduceBEq, Int.cast_ofNat_Int, Int.reduceAdd, Int.reduceNeg, Int.reduceSub, Int.reduceToNat, Int.reduceLE, Nat.zero_le, false_implies, implies_true, beq_self_eq_true, Bool.and_true, Bool.and_false, Bool.or_false, Bool.false_or, Bool.or_true, Bool.true_or, Bool.and_self, Bool.or_self, Nat.zero_add, Nat.add_zero, or_false, or_true, true_or, false_or, j_b0, ↓j_b1, j_b2, ↓j_b3, j_01, j_inb, and_self, Classical.not_not, Int32.reduceLE, Int32.reduceLT, Int32.reduceAdd, j_ne, eq_self, not_true_eq_false, not_false_eq_true, forall_const, and_false, false_and, j_sc, j_ent, Nat.reduceSub, List.replicate_zero, List.replicate_succ, j_us, u_s, nm]
        exact hq
    · have ejn : j1 = n := by omega
      rw [if_neg z]
      subst ejn
      have x9 := p_p9 hB.2.2.2.2.2.2.1 (by omega)
      have y9 := p_p9 hB.2.2.2.2.2.2.2 (by omega)
      have hh := w_hh_iff (show x' < 1024 by omega) (show y' < 1024 by omega) hB.2.2.2.2.1 hB.2.2.2.2.2.1
      have bb : h_x (μ 76) T f j1 = b := by
        unfold h_x
        rw [← hV, Bool.eq_iff_iff]
        exact hh.trans hbb.symm
      have hq : Q (some (if b = true then 1 else 0)) j_SH m4 := hQ _ _ z1 z2 (by rw [q6]; exact a_F3 p2 ⟨rfl, p1⟩) (Or.inl ⟨q6, by rw [bb]⟩)
      cases b
      all_goals
        simp only [qX10_holds, j_f10, j_m10, j_ty, tyX10, ↓j_kt, ↓j_sel, ↓j_run_0, ↓j_run_s, ↓j_wp, ↓j_pi, ↓j_pii, ↓j_pl, ↓j_pll, ↓j_pli, ↓j_pr, ↓j_pri, ↓j_prii, ↓j_pvr, ↓j_pop, ↓j_gi, ↓j_gl, ↓j_ga, ↓j_ob, ↓j_ar, ↓j_fd, ↓j_fo, ↓j_mo, ↓j_br, ↓j_to, ↓j_lo, ↓j_scr, ↓j_co, ↓j_no, j_nf, j_rt, j_ld, j_st1, j_st2, j_k1, j_ci, j_fin, j_sh, j_shl, Option.map_some, Option.map_none, Option.toList_some, Option.toList_none, List.cons_append, List.nil_append, List.map_cons, List.map_nil, List.sum_cons, List.sum_nil, Value.category, List.getElem?_cons_zero, List.getElem?_cons_succ, List.length_cons, List.length_nil, true_and, and_true, if_true, if_false, ↓reduceIte, Bool.false_eq_true, Bool.true_eq_false, reduceCtorEq, Nat.reduceAdd, Nat.reduceLT, Nat.reduceLeDiff, Nat.reduceEqDiff, Nat.reduceBEq, Int.cast_ofNat_Int, Int.reduceAdd, Int.reduceNeg, Int.reduceSub, Int.reduceToNat, Int.reduceLE, Nat.zero_le, false_implies, implies_true, beq_self_eq_true, Bool.and_true, Bool.and_false, Bool.or_false, Bool.false_or, Bool.or_true, Bool.true_or, Bool.and_self, Bool.or_self, Nat.zero_add, Nat.add_zero, or_false, or_true, true_or, false_or, j_b0, ↓j_b1, j_b2, ↓j_b3, j_01, j_inb, and_self, Classical.not_not, Int32.reduceLE, Int32.reduceLT, Int32.reduceAdd, j_ne, eq_self, not_true_eq_false, not_false_eq_true, forall_const, and_false, false_and, j_sc, j_ent, Nat.reduceSub, List.replicate_zero, List.replicate_succ, q6]
        exact hq
set_option maxRecDepth 100000 in
theorem f_X10_holds {μ : j_M} {ρ fr n : Nat} {T : Nat → Int32} (f : Nat → Int32) (hX : p_X μ ρ fr n T) : j_R 28 yX10_holds [.ref 42, .ref ρ, .int (nI fr), .int (nI n)] μ (p_H μ ρ n T f) := by
  have hρ : ρ < 78 := by rcases hX.1 with ⟨e, -⟩ | ⟨e, -⟩ <;> subst e <;> decide
  refine eX10_holds (Nat.le_of_ble_eq_true rfl) (j_go (fun q => q == 30) 30 ?_)
  simp only [qX10_holds, j_f10, j_m10, j_ty, tyX10, ↓j_kt, ↓j_sel, ↓j_run_0, ↓j_run_s, ↓j_wp, ↓j_pi, ↓j_pii, ↓j_pl, ↓j_pll, ↓j_pli, ↓j_pr, ↓j_pri, ↓j_prii, ↓j_pvr, ↓j_pop, ↓j_gi, ↓j_gl, ↓j_ga, ↓j_ob, ↓j_ar, ↓j_fd, ↓j_fo, ↓j_mo, ↓j_br, ↓j_to, ↓j_lo, ↓j_scr, ↓j_co, ↓j_no, j_nf, j_rt, j_ld, j_st1, j_st2, j_k1, j_ci, j_fin, j_sh, j_shl, Option.map_some, Option.map_none, Option.toList_some, Option.toList_none, List.cons_append, List.nil_append, List.map_cons, List.map_nil, List.sum_cons, List.sum_nil, Value.category, List.getElem?_cons_zero, List.getElem?_cons_succ, List.length_cons, List.length_nil, true_and, and_true, if_true, if_false, ↓reduceIte, Bool.false_eq_true, Bool.true_eq_false, reduceCtorEq, Nat.reduceAdd, Nat.reduceLT, Nat.reduceLeDiff, Nat.reduceEqDiff, Nat.reduceBEq, Int.cast_ofNat_Int, Int.reduceAdd, Int.reduceNeg, Int.reduceSub, Int.reduceToNat, Int.reduceLE, Nat.zero_le, false_implies, implies_true, beq_self_eq_true, Bool.and_true, Bool.and_false, Bool.or_false, Bool.false_or, Bool.or_true, Bool.true_or, Bool.and_self, Bool.or_self, Nat.zero_add, Nat.add_zero, or_false, or_true, true_or, false_or, j_b0, ↓j_b1, j_b2, ↓j_b3, j_01, j_inb, and_self, Classical.not_not, Int32.reduceLE, Int32.reduceLT, Int32.reduceAdd, j_ne, eq_self, not_true_eq_false, not_false_eq_true, forall_const, and_false, false_and, j_sc, j_ent, Nat.reduceSub, List.replicate_zero, List.replicate_succ]
  refine ⟨hρ, rfl, by omega, ?_⟩
  exact (l_X10_holds hX (fun r m a b c d => ⟨rfl, a, b, c, d⟩)).le ⟨Or.inr rfl, Or.inl rfl, Or.inl rfl, Or.inl rfl, Or.inr rfl, trivial⟩
