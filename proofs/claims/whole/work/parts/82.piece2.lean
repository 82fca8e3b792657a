/-! the reference: piece, assembled -/
theorem q_fit_e {m μ : j_M} (h : e_78 m μ) (np nt : Nat) (p k : Int32) : q_fit m np nt p k ↔ q_fit μ np nt p k := by
  unfold q_fit q_kin q_ip q_sd
  rw [h 42 (by omega), h 43 (by omega), h 44 (by omega), h 45 (by omega), h 46 (by omega), h 49 (by omega), h 50 (by omega), h 53 (by omega), h 54 (by omega)]
set_option maxRecDepth 100000 in
theorem l_X10_flags {μ : j_M} {G : Nat → Bool} {np nt : Nat} {p : Int32} {x : Int64} {Q : j_Q} (hs : μ 42 2 = nI np) (hn : np ≤ 30) (hs2 : μ 42 3 = nI nt) (hn2 : nt ≤ 100) (hp0 : 0 ≤ p) (hp1 : p < 30) (hrow : (μ 42 43).toNatClampNeg < 78) (hG : ∀ k, k < np → (G k = true ↔ q_fit μ np nt p (nI k)))
    (hQ : ∀ m, e_78 m μ → e_fl m G np → j_J cX10_piece 10 11 (some .int) false 31 none Q j_SH2 0 0 147 [some (.ref 42), some (.int p), some (.long x), none, some (.ref 78), some (.int (nI (cnt G np))), none, none, none, none, none] [] m) :
    ∀ (n i : Nat) (m : j_M), i + n = np → e_78 m μ → e_fl m G i → j_J cX10_piece 10 11 (some .int) false 31 none Q j_SH2 0 0 102 [some (.ref 42), some (.int p), some (.long x), none, some (.ref 78), some (.int (nI (cnt G i))), some (.int (nI i)), none, none, none, none] [] m := by
  intro n
  induction n with
  | zero =>
    intro i m hi he hf
    have e : i = np := by omega
    subst e
    have m42 : m 42 = μ 42 := he 42 (by omega)
    refine j_go (fun q => q == 102 || q == 147) 30 ?_
    simp only [qX10_piece, j_f10, j_m10, j_ty, tyX10, ↓j_kt, ↓j_sel, ↓j_run_0, ↓j_run_s, ↓j_wp, ↓j_pi, ↓j_pii, ↓j_pl, ↓j_pll, ↓j_pli, ↓j_pr, ↓j_pri, ↓j_prii, ↓j_pvr, ↓j_pop, ↓j_gi, ↓j_gl, ↓j_ga, ↓j_ob, ↓j_ar, ↓j_fd, ↓j_fo, ↓j_mo, ↓j_br, ↓j_to, ↓j_lo, ↓j_scr, ↓j_co, ↓j_no, j_nf, j_rt, j_ld, j_st1, j_st2, j_k1, j_ci, j_fin, j_sh, j_shl, Option.map_some, Option.map_none, Option.toList_some, Option.toList_none, List.cons_append, List.nil_append, List.map_cons, List.map_nil, List.sum_cons, List.sum_nil, Value.category, List.getElem?_cons_zero, List.getElem?_cons_succ, List.length_cons, List.length_nil, true_and, and_true, if_true, if_false, ↓reduceIte, Bool.false_eq_true, Bool.true_eq_false, reduceCtorEq, Nat.reduceAdd, Nat.reduceLT, Nat.reduceLeDiff, Nat.reduceEqDiff, Nat.reduceBEq, Int.cast_ofNat_Int, Int.reduceAdd, Int.reduceNeg, Int.reduceSub, Int.reduceToNat, Int.reduceLE, Nat.zero_le, false_implies, implies_true, beq_self_eq_true, Bool.and_true, Bool.and_false, Bool.or_false, Bool.false_or, Bool.or_true, Bool.true_or, Bool.and_self, Bool.or_self, Nat.zero_add, Nat.add_zero, or_false, or_true, true_or, false_or, j_b0, ↓j_b1, j_b2, ↓j_b3, j_01, j_inb, and_self, Classical.not_not, Int32.reduceLE, Int32.reduceLT, Int32.reduceAdd, j_ne, eq_self, not_true_eq_false, not_false_eq_true, forall_const, and_false, false_and, j_sc, j_ent, Nat.reduceSub, List.replicate_zero, List.replicate_succ, j_s2, j_sl2, m42, hs]
    exact ⟨fun _ => (hQ m he hf).le ⟨Or.inr rfl, Or.inr rfl, Or.inr rfl, Or.inr rfl, Or.inr rfl, Or.inr rfl, Or.inl rfl, Or.inr rfl, Or.inr rfl, Or.inr rfl, Or.inr rfl, trivial⟩, fun z => by grind⟩
  | succ n ih =>
    intro i m hi he hf
    have m42 : m 42 = μ 42 := he 42 (by omega)
    have h30 := n30 (show i < 30 by omega)
    refine j_go (fun q => q == 102 || q == 147) 40 ?_
    simp only [qX10_piece, j_f10, j_m10, j_ty, tyX10, ↓j_kt, ↓j_sel, ↓j_run_0, ↓j_run_s, ↓j_wp, ↓j_pi, ↓j_pii, ↓j_pl, ↓j_pll, ↓j_pli, ↓j_pr, ↓j_pri, ↓j_prii, ↓j_pvr, ↓j_pop, ↓j_gi, ↓j_gl, ↓j_ga, ↓j_ob, ↓j_ar, ↓j_fd, ↓j_fo, ↓j_mo, ↓j_br, ↓j_to, ↓j_lo, ↓j_scr, ↓j_co, ↓j_no, j_nf, j_rt, j_ld, j_st1, j_st2, j_k1, j_ci, j_fin, j_sh, j_shl, Option.map_some, Option.map_none, Option.toList_some, Option.toList_none, List.cons_append, List.nil_append, List.map_cons, List.map_nil, List.sum_cons, List.sum_nil, Value.category, List.getElem?_cons_zero, List.getElem?_cons_succ, List.length_cons, List.length_nil, true_and, and_true, if_true, if_false, ↓reduceIte, Bool.false_eq_true, Bool.true_eq_false, reduceCtorEq, Nat.reduceAdd, Nat.reduceLT, Nat.reduceLeDiff, Nat.reduceEqDiff, Nat.reduceBEq, Int.cast_ofNat_Int, Int.reduceAdd, Int.reduceNeg, Int.reduceSub, Int.reduceToNat, Int.reduceLE, Nat.zero_le, false_implies, implies_true, beq_self_eq_true, Bool.and_true, Bool.and_false, Bool.or_false, Bool.false_or, Bool.or_true, Bool.true_or, Bool.and_self, Bool.or_self, Nat.zero_add, Nat.add_zero, or_false, or_true, true_or, false_or, j_b0, ↓j_b1, j_b2, ↓j_b3, j_01, j_inb, and_self, Classical.not_not, Int32.reduceLE, Int32.reduceLT, Int32.reduceAdd, j_ne, eq_self, not_true_eq_false, not_false_eq_true, forall_const, and_false, false_and, j_sc, j_ent, Nat.reduceSub, List.replicate_zero, List.replicate_succ, j_s2, j_sl2, m42, hs, nI_lt' (show i < 1000000 by omega) (show np < 1000000 by omega), nI_le' (show np < 1000000 by omega) (show i < 1000000 by omega)]
    refine ⟨fun z => by omega, fun _ => ?_⟩
    refine ⟨3, 0, 0, _, by decide, Nat.le_refl _, Nat.le_refl _, j_lift [.inl (.boolean, 30)] (f_X10_mayJudge m (nI i) p (by rw [m42]; exact hs) hn (by rw [m42]; exact hs2) hn2 hp0 hp1) ?_ ?_, fun r sh' m' hq => ?_⟩
    · intro v hv
      simp only [List.mem_cons, List.not_mem_nil, or_false] at hv
      rcases hv with rfl | rfl | rfl
      · intro k e; cases e; exact Or.inl (by decide)
      · intro k e; cases e
      · intro k e; cases e
    · rintro r m0 ⟨-, rfl⟩
      rw [m42]
      exact hrow
    · obtain ⟨rfl, m0, ⟨hp, rfl⟩, rfl⟩ := hq
      have em : (fun b => if b < 78 then m0 b else m0 b) = m0 := by
        funext b
        split <;> rfl
      rw [em]
      have step : ∀ v : Int32, v = (if G i = true then 1 else 0) → j_J cX10_piece 10 11 (some .int) false 31 none Q j_SH2 0 0 102 [some (.ref 42), some (.int p), some (.long x), none, some (.ref 78), some (.int (nI (cnt G (i + 1)))), some (.int (nI (i + 1))), none, none, none, none] [] (j_up m0 78 i v) := by
        intro v hv
        refine ih (i + 1) _ (by omega) (he.new i v) (fun j hj => ?_)
        rw [j_us]
        by_cases e : j = i
        · subst e; rw [u_s]; exact hv
        · rw [u_n _ _ e]; exact hf j (by omega)
      rw [cnt_s] at step
      rcases hp with ⟨rfl, hk⟩ | ⟨rfl, hk⟩
      · have hg : G i = true := (hG i (by omega)).mpr ((q_fit_e he np nt p (nI i)).mp hk)
        simp only [hg, if_true] at step
        show j_kt _ _ _ _ _ _ _ j_SH2 _
        simp only [qX10_piece, j_f10, j_m10, j_ty, tyX10, ↓j_kt, ↓j_sel, ↓j_run_0, ↓j_run_s, ↓j_wp, ↓j_pi, ↓j_pii, ↓j_pl, ↓j_pll, ↓j_pli, ↓j_pr, ↓j_pri, ↓j_prii, ↓j_pvr, ↓j_pop, ↓j_gi, ↓j_gl, ↓j_ga, ↓j_ob, ↓j_ar, ↓j_fd, ↓j_fo, ↓j_mo, ↓j_br, ↓j_to, ↓j_lo, ↓j_scr, ↓j_co, ↓j_no, j_nf, j_rt, j_ld, j_st1, j_st2, j_k1, j_ci, j_fin, j_sh, j_shl, Option.map_some, Option.map_none, Option.toList_some, Option.toList_none, List.cons_append, List.nil_append, List.map_cons, List.map_nil, List.sum_cons, List.sum_nil, Value.category, List.getElem?_cons_zero, List.getElem?_cons_succ, List.length_cons, List.length_nil, true_and, and_true, if_true, if_false, ↓reduceIte, Bool.false_eq_true, Bool.true_eq_false, reduceCtorEq, Nat.reduceAdd, Nat.reduceLT, Nat.reduceLeDiff, Nat.reduceEqDiff, Nat.reduceBEq, Int.cast_ofNat_Int, Int.reduceAdd, Int.reduceNeg, Int.reduceSub, Int.reduceToNat, Int.reduceLE, Nat.zero_le, false_implies, implies_true, beq_self_eq_true, Bool.and_true, Bool.and_false, Bool.or_false, Bool.false_or, Bool.or_true, Bool.true_or, Bool.and_self, Bool.or_self, Nat.zero_add, Nat.add_zero, or_false, or_true, true_or, false_or, j_b0, ↓j_b1, j_b2, ↓j_b3, j_01, j_inb, and_self, Classical.not_not, Int32.reduceLE, Int32.reduceLT, Int32.reduceAdd, j_ne, eq_self, not_true_eq_false, not_false_eq_true, forall_const, and_false, false_and, j_sc, j_ent, Nat.reduceSub, List.replicate_zero, List.replicate_succ, j_s2, j_sl2, v_nar, j_us, u_s, nI_1, nI_cl' (show i < 1000000 by omega)]
        exact ⟨h30, h30, step 1 rfl⟩
      · have hg : G i = false := by
          cases z : G i with
          | false => rfl
          | true => exact absurd ((q_fit_e he np nt p (nI i)).mpr ((hG i (by omega)).mp z)) hk
        simp only [hg, Bool.false_eq_true, if_false, Nat.add_zero] at step
        show j_kt _ _ _ _ _ _ _ j_SH2 _
        simp only [qX10_piece, j_f10, j_m10, j_ty, tyX10, ↓j_kt, ↓j_sel, ↓j_run_0, ↓j_run_s, ↓j_wp, ↓j_pi, ↓j_pii, ↓j_pl, ↓j_pll, ↓j_pli, ↓j_pr, ↓j_pri, ↓j_prii, ↓j_pvr, ↓j_pop, ↓j_gi, ↓j_gl, ↓j_ga, ↓j_ob, ↓j_ar, ↓j_fd, ↓j_fo, ↓j_mo, ↓j_br, ↓j_to, ↓j_lo, ↓j_scr, ↓j_co, ↓j_no, j_nf, j_rt, j_ld, j_st1, j_st2, j_k1, j_ci, j_fin, j_sh, j_shl, Option.map_some, Option.map_none, Option.toList_some, Option.toList_none, List.cons_append, List.nil_append, List.map_cons, List.map_nil, List.sum_cons, List.sum_nil, Value.category, List.getElem?_cons_zero, List.getElem?_cons_succ, List.length_cons, List.length_nil, true_and, and_true, if_true, if_false, ↓reduceIte, Bool.false_eq_true, Bool.true_eq_false, reduceCtorEq, Nat.reduceAdd, Nat.reduceLT, Nat.reduceLeDiff, Nat.reduceEqDiff, Nat.reduceBEq, Int.cast_ofNat_Int, Int.reduceAdd, Int.reduceNeg, Int.reduceSub, Int.reduceToNat, Int.reduceLE, Nat.zero_le, false_implies, implies_true, beq_self_eq_true, Bool.and_true, Bool.and_false, Bool.or_false, Bool.false_or, Bool.or_true, Bool.true_or, Bool.and_self, Bool.or_self, Nat.zero_add, Nat.add_zero, or_false, or_true, true_or, false_or, j_b0, ↓j_b1, j_b2, ↓j_b3, j_01, j_inb, and_self, Classical.not_not, Int32.reduceLE, Int32.reduceLT, Int32.reduceAdd, j_ne, eq_self, not_true_eq_false, not_false_eq_true, forall_const, and_false, false_and, j_sc, j_ent, Nat.reduceSub, List.replicate_zero, List.replicate_succ, j_s2, j_sl2, v_nar, j_us, u_s, nI_1, Int32.add_zero, nI_cl' (show i < 1000000 by omega)]
        exact ⟨h30, h30, step 0 rfl⟩
set_option maxRecDepth 100000 in
theorem l_X10_clear {m : j_M} {nq : Nat} {v1 v4 v5 v6 v9 v10 : Option Value} {Q : j_Q} (hs : m 42 6 = nI nq) (hq : nq < 40) (hQ : Q (some (nI nq)) j_SH2 (j_up (j_row m 69 (k_cl (m 69) nq 12)) 42 6 (nI (nq + 1)))) :
    ∀ (n i : Nat), i + n = 12 → j_J cX10_piece 10 11 (some .int) false 31 none Q j_SH2 0 0 298 [some (.ref 42), v1, none, none, v4, v5, v6, none, some (.int (nI i)), v9, v10] [] (j_row m 69 (k_cl (m 69) nq i)) := by
  intro n
  induction n with
  | zero =>
    intro i hi
    have e : i = 12 := by omega
    subst e
    have e12 : nI 12 = 12 := by decide
    refine j_go (fun q => q == 298) 30 ?_
    simp only [qX10_piece, j_f10, j_m10, j_ty, tyX10, ↓j_kt, ↓j_sel, ↓j_run_0, ↓j_run_s, ↓j_wp, ↓j_pi, ↓j_pii, ↓j_pl, ↓j_pll, ↓j_pli, ↓j_pr, ↓j_pri, ↓j_prii, ↓j_pvr, ↓j_pop, ↓j_gi, ↓j_gl, ↓j_ga, ↓j_ob, ↓j_ar, ↓j_fd, ↓j_fo, ↓j_mo, ↓j_br, ↓j_to, ↓j_lo, ↓j_scr, ↓j_co, ↓j_no, j_nf, j_rt, j_ld, j_st1, j_st2, j_k1, j_ci, j_fin, j_sh, j_shl, Option.map_some, Option.map_none, Option.toList_some, Option.toList_none, List.cons_append, List.nil_append, List.map_cons, List.map_nil, List.sum_cons, List.sum_nil, Value.category, List.getElem?_cons_zero, List.getElem?_cons_succ, List.length_cons, List.length_nil, true_and, and_true, if_true, if_false, ↓reduceIte, Bool.false_eq_true, Bool.true_eq_false, reduceCtorEq, Nat.reduceAdd, Nat.reduceLT, Nat.reduceLeDiff, Nat.reduceEqDiff, Nat.reduceBEq, Int.cast_ofNat_Int, Int.reduceAdd, Int.reduceNeg, Int.reduceSub, Int.reduceToNat, Int.reduceLE, Nat.zero_le, false_implies, implies_true, beq_self_eq_true, Bool.and_true, Bool.and_false, Bool.or_false, Bool.false_or, Bool.or_true, Bool.true_or, Bool.and_self, Bool.or_self, Nat.zero_add, Nat.add_zero, or_false, or_true, true_or, false_or, j_b0, ↓j_b1, j_b2, ↓j_b3, j_01, j_inb, and_self, Classical.not_not, Int32.reduceLE, Int32.reduceLT, Int32.reduceAdd, j_ne, eq_self, not_true_eq_false, not_false_eq_true, forall_const, and_false, false_and, j_sc, j_ent, Nat.reduceSub, List.replicate_zero, List.replicate_succ, j_s2, j_sl2, e12, j_rn', ne_eq, hs, nI_1, nI_pred, j_us, u_s]
    exact hQ
  | succ n ih =>
    intro i hi
    have l12 : nI i < 12 := (nI_lt' (a := i) (b := 12) (by omega) (by omega)).mpr (by omega)
    have h12 : 12 * nI nq = nI (12 * nq) := by rw [show (12 : Int32) = nI 12 from rfl, n_m]
    refine j_go (fun q => q == 298) 30 ?_
    simp only [qX10_piece, j_f10, j_m10, j_ty, tyX10, ↓j_kt, ↓j_sel, ↓j_run_0, ↓j_run_s, ↓j_wp, ↓j_pi, ↓j_pii, ↓j_pl, ↓j_pll, ↓j_pli, ↓j_pr, ↓j_pri, ↓j_prii, ↓j_pvr, ↓j_pop, ↓j_gi, ↓j_gl, ↓j_ga, ↓j_ob, ↓j_ar, ↓j_fd, ↓j_fo, ↓j_mo, ↓j_br, ↓j_to, ↓j_lo, ↓j_scr, ↓j_co, ↓j_no, j_nf, j_rt, j_ld, j_st1, j_st2, j_k1, j_ci, j_fin, j_sh, j_shl, Option.map_some, Option.map_none, Option.toList_some, Option.toList_none, List.cons_append, List.nil_append, List.map_cons, List.map_nil, List.sum_cons, List.sum_nil, Value.category, List.getElem?_cons_zero, List.getElem?_cons_succ, List.length_cons, List.length_nil, true_and, and_true, if_true, if_false, ↓reduceIte, Bool.false_eq_true, Bool.true_eq_false, reduceCtorEq, Nat.reduceAdd, Nat.reduceLT, Nat.reduceLeDiff, Nat.reduceEqDiff, Nat.reduceBEq, Int.cast_ofNat_Int, Int.reduceAdd, Int.reduceNeg, Int.reduceSub, Int.reduceToNat, Int.reduceLE, Nat.zero_le, false_implies, implies_true, beq_self_eq_true, Bool.and_true, Bool.and_false, Bool.or_false, Bool.false_or, Bool.or_true, Bool.true_or, Bool.and_self, Bool.or_self, Nat.zero_add, Nat.add_zero, or_false, or_true, true_or, false_or, j_b0, ↓j_b1, j_b2, ↓j_b3, j_01, j_inb, and_self, Classical.not_not, Int32.reduceLE, Int32.reduceLT, Int32.reduceAdd, j_ne, eq_self, not_true_eq_false, not_false_eq_true, forall_const, and_false, false_and, j_sc, j_ent, Nat.reduceSub, List.replicate_zero, List.replicate_succ, j_s2, j_sl2, j_rn', ne_eq, hs, h12, nI_add, nI_1, nI_cl' (show 12 * nq + i < 1000000 by omega), j_up_up]
    refine ⟨fun z => by grind, fun _ => ⟨n480 (by omega), ?_⟩⟩
    have nx := ih (i + 1) (by omega)
    rw [← k_cl_s] at nx
    exact nx
set_option maxRecDepth 100000 in
theorem l_X10_opened {μ : j_M} {nq : Nat} {p : Int32} {x : Int64} {Q : j_Q} (hs : μ 42 6 = nI nq) (hn : nq ≤ 40) (hQ1 : k_ex (fun k => decide (μ 64 k = p ∧ μ 65 k = -1)) nq = true → Q (some (-1)) j_SH μ) (hQ2 : k_ex (fun k => decide (μ 64 k = p ∧ μ 65 k = -1)) nq = false → j_J cX10_piece 10 11 (some .int) false 31 none Q j_SH 1 30 90 [some (.ref 42), some (.int p), some (.long x), none, none, none, none, none, none, none, none] [] μ) :
    ∀ (n i : Nat), i + n = nq → k_ex (fun k => decide (μ 64 k = p ∧ μ 65 k = -1)) i = false → j_J cX10_piece 10 11 (some .int) false 31 none Q j_SH 1 30 51 [some (.ref 42), some (.int p), some (.long x), none, some (.int (nI i)), none, none, none, none, none, none] [] μ := by
  intro n
  induction n with
  | zero =>
    intro i hi hx
    have e : i = nq := by omega
    subst e
    refine j_go (fun q => q == 51 || q == 90) 30 ?_
    simp only [qX10_piece, j_f10, j_m10, j_ty, tyX10, ↓j_kt, ↓j_sel, ↓j_run_0, ↓j_run_s, ↓j_wp, ↓j_pi, ↓j_pii, ↓j_pl, ↓j_pll, ↓j_pli, ↓j_pr, ↓j_pri, ↓j_prii, ↓j_pvr, ↓j_pop, ↓j_gi, ↓j_gl, ↓j_ga, ↓j_ob, ↓j_ar, ↓j_fd, ↓j_fo, ↓j_mo, ↓j_br, ↓j_to, ↓j_lo, ↓j_scr, ↓j_co, ↓j_no, j_nf, j_rt, j_ld, j_st1, j_st2, j_k1, j_ci, j_fin, j_sh, j_shl, Option.map_some, Option.map_none, Option.toList_some, Option.toList_none, List.cons_append, List.nil_append, List.map_cons, List.map_nil, List.sum_cons, List.sum_nil, Value.category, List.getElem?_cons_zero, List.getElem?_cons_succ, List.length_cons, List.length_nil, true_and, and_true, if_true, if_false, ↓reduceIte, Bool.false_eq_true, Bool.true_eq_false, reduceCtorEq, Nat.reduceAdd, Nat.reduceLT, Nat.reduceLeDiff, Nat.reduceEqDiff, Nat.reduceBEq, Int.cast_ofNat_Int, Int.reduceAdd, Int.reduceNeg, Int.reduceSub, Int.reduceToNat, Int.reduceLE, Nat.zero_le, false_implies, implies_true, beq_self_eq_true, Bool.and_true, Bool.and_false, Bool.or_false, Bool.false_or, Bool.or_true, Bool.true_or, Bool.and_self, Bool.or_self, Nat.zero_add, Nat.add_zero, or_false, or_true, true_or, false_or, j_b0, ↓j_b1, j_b2, ↓j_b3, j_01, j_inb, and_self, Classical.not_not, Int32.reduceLE, Int32.reduceLT, Int32.reduceAdd, j_ne, eq_self, not_true_eq_false, not_false_eq_true, forall_const, and_false, false_and, j_sc, j_ent, Nat.reduceSub, List.replicate_zero, List.replicate_succ, hs]
    exact ⟨fun _ => (hQ2 hx).le ⟨Or.inr rfl, Or.inr rfl, Or.inr rfl, Or.inr rfl, Or.inl rfl, Or.inr rfl, Or.inr rfl, Or.inr rfl, Or.inr rfl, Or.inr rfl, Or.inr rfl, trivial⟩, fun z => by grind⟩
  | succ n ih =>
    intro i hi hx
    have h40 := n40 (show i < 40 by omega)
    have ke : k_ex (fun k => decide (μ 64 k = p ∧ μ 65 k = -1)) (i + 1) = (k_ex (fun k => decide (μ 64 k = p ∧ μ 65 k = -1)) i || decide (μ 64 i = p ∧ μ 65 i = -1)) := rfl
    have go : ¬ (μ 64 i = p ∧ μ 65 i = -1) → j_J cX10_piece 10 11 (some .int) false 31 none Q j_SH 1 30 51 [some (.ref 42), some (.int p), some (.long x), none, some (.int (nI (i + 1))), none, none, none, none, none, none] [] μ := by
      intro z
      refine ih (i + 1) (by omega) ?_
      rw [ke, hx, decide_eq_false z]
      rfl
    refine j_go (fun q => q == 51 || q == 90) 30 ?_
    simp only [qX10_piece, j_f10, j_m10, j_ty, tyX10, ↓j_kt, ↓j_sel, ↓j_run_0, ↓j_run_s, ↓j_wp, ↓j_pi, ↓j_pii, ↓j_pl, ↓j_pll, ↓j_pli, ↓j_pr, ↓j_pri, ↓j_prii, ↓j_pvr, ↓j_pop, ↓j_gi, ↓j_gl, ↓j_ga, ↓j_ob, ↓j_ar, ↓j_fd, ↓j_fo, ↓j_mo, ↓j_br, ↓j_to, ↓j_lo, ↓j_scr, ↓j_co, ↓j_no, j_nf, j_rt, j_ld, j_st1, j_st2, j_k1, j_ci, j_fin, j_sh, j_shl, Option.map_some, Option.map_none, Option.toList_some, Option.toList_none, List.cons_append, List.nil_append, List.map_cons, List.map_nil, List.sum_cons, List.sum_nil, Value.category, List.getElem?_cons_zero, List.getElem?_cons_succ, List.length_cons, List.length_nil, true_and, and_true, if_true, if_false, ↓reduceIte, Bool.false_eq_true, Bool.true_eq_false, reduceCtorEq, Nat.reduceAdd, Nat.reduceLT, Nat.reduceLeDiff, Nat.reduceEqDiff, Nat.reduceBEq, Int.cast_ofNat_Int, Int.reduceAdd, Int.reduceNeg, Int.reduceSub, Int.reduceToNat, Int.reduceLE, Nat.zero_le, false_implies, implies_true, beq_self_eq_true, Bool.and_true, Bool.and_false, Bool.or_false, Bool.false_or, Bool.or_true, Bool.true_or, Bool.and_self, Bool.or_self, Nat.zero_add, Nat.add_zero, or_false, or_true, true_or, false_or, j_b0, ↓j_b1, j_b2, ↓j_b3, j_01, j_inb, and_self, Classical.not_not, Int32.reduceLE, Int32.reduceLT, Int32.reduceAdd, j_ne, eq_self, not_true_eq_false, not_false_eq_true, forall_const, and_false, false_and, j_sc, j_ent, Nat.reduceSub, List.replicate_zero, List.replicate_succ, hs, nI_1, nI_cl' (show i < 1000000 by omega), nI_lt' (show i < 1000000 by omega) (show nq < 1000000 by omega), nI_le' (show nq < 1000000 by omega) (show i < 1000000 by omega)]
    refine ⟨fun z => by omega, fun _ => ⟨h40, fun c1 => go (fun z => c1 z.1), fun c1 => ⟨h40, fun c2 => go (fun z => c2 z.2), fun c2 => ?_⟩⟩⟩
    refine hQ1 ?_
    rw [k_ex_iff]
    exact ⟨i, by omega, by simp only [decide_eq_true_eq]; exact ⟨c1, c2⟩⟩
/-- the memory with the reference's new piece -/
def q_np (μ : j_M) (nq : Nat) (p : Int32) (a0 a1 a2 : Nat) : j_M := j_up (j_row (j_up (j_up (j_up (j_up (j_up (j_up (j_up μ 68 (3 * nq) (nI a0)) 68 (3 * nq + 1) (nI a1)) 68 (3 * nq + 2) (nI a2)) 64 nq p) 65 nq (-1)) 66 nq (-1)) 67 nq (-1)) 69 (k_cl (μ 69) nq 12)) 42 6 (nI (nq + 1))
abbrev q_pc (μ : j_M) (nq : Nat) (p : Int32) : Prop := nq < 40 ∧ g_alive (μ 42 2) (μ 46) p ∧ μ 45 p.toNatClampNeg = -1
abbrev q_open (μ : j_M) (nq : Nat) (p : Int32) : Bool := k_ex (fun k => decide (μ 64 k = p ∧ μ 65 k = -1)) nq
def q_piece (μ : j_M) (X : Nat → Int32) (L : Nat → Nat) (G : Nat → Bool) (np nt ng nq ns : Nat) (f f2 : Nat → Int32) (p : Int32) (x : Int64) (r : Option Int32) (m : j_M) : Prop :=
  (¬ q_pc μ nq p ∧ r = some (-1) ∧ m = μ) ∨
  (q_pc μ nq p ∧ ∃ c m1, z_m μ X L nt ng nq ns f f2 p (μ 42 1) (μ 42 1) (some c) m1 ∧ z_sc μ m1 ∧
    ((c = 0 ∨ q_open μ nq p = true ∨ cnt G np < 3) ∧ r = some (-1) ∧ e_78 m m1 ∨
     (¬ c = 0 ∧ q_open μ nq p = false ∧ 3 ≤ cnt G np) ∧ r = some (nI nq) ∧ ∃ a0 a1 a2, e_dr G np x a0 ∧ e_dr (e_rm G a0) np (k_rng x) a1 ∧ e_dr (e_rm (e_rm G a0) a1) np (k_rng (k_rng x)) a2 ∧ e_78 m (q_np m1 nq p a0 a1 a2)))
theorem cnt_rm1 {H : Nat → Bool} {np : Nat} {x : Int64} {k : Nat} (h : e_dr H np x k) : cnt (e_rm H k) np = cnt H np - 1 := by
  rw [cnt_rm h.2.1, if_pos h.1]
set_option maxRecDepth 100000 in
theorem l_X10_made {m1 : j_M} {G : Nat → Bool} {np nt nq : Nat} {p : Int32} {x : Int64} {Q : j_Q} (hs : m1 42 2 = nI np) (hn : np ≤ 30) (hs2 : m1 42 3 = nI nt) (hn2 : nt ≤ 100) (hs3 : m1 42 6 = nI nq) (hq : nq < 40) (hp0 : 0 ≤ p) (hp1 : p < 30) (hrow : (m1 42 43).toNatClampNeg < 78) (hG : ∀ k, k < np → (G k = true ↔ q_fit m1 np nt p (nI k)))
    (hQ1 : ∀ m, cnt G np < 3 → e_78 m m1 → Q (some (-1)) j_SH2 m) (hQ2 : ∀ m a0 a1 a2, 3 ≤ cnt G np → e_dr G np x a0 → e_dr (e_rm G a0) np (k_rng x) a1 → e_dr (e_rm (e_rm G a0) a1) np (k_rng (k_rng x)) a2 → e_78 m (q_np m1 nq p a0 a1 a2) → Q (some (nI nq)) j_SH2 m) :
    j_J cX10_piece 10 11 (some .int) false 31 none Q j_SH 1 30 90 [some (.ref 42), some (.int p), some (.long x), none, none, none, none, none, none, none, none] [] m1 := by
  have c30 : (30 : Int32).toNatClampNeg = 30 := by decide
  have n30' : ¬ (30 : Int32) < 0 := by decide
  refine j_go (fun q => q == 102) 30 ?_
  simp only [qX10_piece, j_f10, j_m10, j_ty, tyX10, ↓j_kt, ↓j_sel, ↓j_run_0, ↓j_run_s, ↓j_wp, ↓j_pi, ↓j_pii, ↓j_pl, ↓j_pll, ↓j_pli, ↓j_pr, ↓j_pri, ↓j_prii, ↓j_pvr, ↓j_pop, ↓j_gi, ↓j_gl, ↓j_ga, ↓j_ob, ↓j_ar, ↓j_fd, ↓j_fo, ↓j_mo, ↓j_br, ↓j_to, ↓j_lo, ↓j_scr, ↓j_co, ↓j_no, j_nf, j_rt, j_ld, j_st1, j_st2, j_k1, j_ci, j_fin, j_sh, j_shl, Option.map_some, Option.map_none, Option.toList_some, Option.toList_none, List.cons_append, List.nil_append, List.map_cons, List.map_nil, List.sum_cons, List.sum_nil, Value.category, List.getElem?_cons_zero, List.getElem?_cons_succ, List.length_cons, List.length_nil, true_and, and_true, if_true, if_false, ↓reduceIte, Bool.false_eq_true, Bool.true_eq_false, reduceCtorEq, Nat.reduceAdd, Nat.reduceLT, Nat.reduceLeDiff, Nat.reduceEqDiff, Nat.reduceBEq, Int.cast_ofNat_Int, Int.reduceAdd, Int.reduceNeg, Int.reduceSub, Int.reduceToNat, Int.reduceLE, Nat.zero_le, false_implies, implies_true, beq_self_eq_true, Bool.and_true, Bool.and_false, Bool.or_false, Bool.false_or, Bool.or_true, Bool.true_or, Bool.and_self, Bool.or_self, Nat.zero_add, Nat.add_zero, or_false, or_true, true_or, false_or, j_b0, ↓j_b1, j_b2, ↓j_b3, j_01, j_inb, and_self, Classical.not_not, Int32.reduceLE, Int32.reduceLT, Int32.reduceAdd, j_ne, eq_self, not_true_eq_false, not_false_eq_true, forall_const, and_false, false_and, j_sc, j_ent, Nat.reduceSub, List.replicate_zero, List.replicate_succ, c30, n30', j_at]
  refine ⟨j_okr_SH hrow, ?_⟩
  show j_J cX10_piece 10 11 (some .int) false 31 none Q j_SH2 0 0 102 _ _ _
  have e0 : e_78 (j_row m1 78 (fun _ => 0)) m1 := fun b hb => by rw [j_rn' _ _ (by omega)]
  refine l_X10_flags hs hn hs2 hn2 hp0 hp1 hrow hG (fun m2 he hf => ?_) np 0 _ (by omega) e0 (fun j hj => by omega)
  refine j_go (fun q => q == 161) 30 ?_
  have c3 : (nI (cnt G np) < 3) ↔ cnt G np < 3 := nI_lt' (b := 3) (by have := cnt_le G np; omega) (by omega)
  simp only [qX10_piece, j_f10, j_m10, j_ty, tyX10, ↓j_kt, ↓j_sel, ↓j_run_0, ↓j_run_s, ↓j_wp, ↓j_pi, ↓j_pii, ↓j_pl, ↓j_pll, ↓j_pli, ↓j_pr, ↓j_pri, ↓j_prii, ↓j_pvr, ↓j_pop, ↓j_gi, ↓j_gl, ↓j_ga, ↓j_ob, ↓j_ar, ↓j_fd, ↓j_fo, ↓j_mo, ↓j_br, ↓j_to, ↓j_lo, ↓j_scr, ↓j_co, ↓j_no, j_nf, j_rt, j_ld, j_st1, j_st2, j_k1, j_ci, j_fin, j_sh, j_shl, Option.map_some, Option.map_none, Option.toList_some, Option.toList_none, List.cons_append, List.nil_append, List.map_cons, List.map_nil, List.sum_cons, List.sum_nil, Value.category, List.getElem?_cons_zero, List.getElem?_cons_succ, List.length_cons, List.length_nil, true_and, and_true, if_true, if_false, ↓reduceIte, Bool.false_eq_true, Bool.true_eq_false, reduceCtorEq, Nat.reduceAdd, Nat.reduceLT, Nat.reduceLeDiff, Nat.reduceEqDiff, Nat.reduceBEq, Int.cast_ofNat_Int, Int.reduceAdd, Int.reduceNeg, Int.reduceSub, Int.reduceToNat, Int.reduceLE, Nat.zero_le, false_implies, implies_true, beq_self_eq_true, Bool.and_true, Bool.and_false, Bool.or_false, Bool.false_or, Bool.or_true, Bool.true_or, Bool.and_self, Bool.or_self, Nat.zero_add, Nat.add_zero, or_false, or_true, true_or, false_or, j_b0, ↓j_b1, j_b2, ↓j_b3, j_01, j_inb, and_self, Classical.not_not, Int32.reduceLE, Int32.reduceLT, Int32.reduceAdd, j_ne, eq_self, not_true_eq_false, not_false_eq_true, forall_const, and_false, false_and, j_sc, j_ent, Nat.reduceSub, List.replicate_zero, List.replicate_succ, j_s2, j_sl2]
  refine ⟨fun z => ?_, fun z => hQ1 m2 (c3.mp z) he⟩
  have h3 : 3 ≤ cnt G np := by
    have : ¬ cnt G np < 3 := fun w => by have := c3.mpr w; grind
    omega
  have hcn := cnt_le G np
  refine j_J.le (ls := [some (.ref 42), some (.int p), none, none, some (.ref 78), some (.int (nI (cnt G np))), some (.long x), none, some (.int (nI 0)), none, none]) ?_ ⟨Or.inr rfl, Or.inr rfl, Or.inl rfl, Or.inr rfl, Or.inr rfl, Or.inr rfl, Or.inr rfl, Or.inr rfl, Or.inr rfl, Or.inr rfl, Or.inr rfl, trivial⟩
  refine l_X10_draw (i := 0) hn he hf (by omega) hs3 hq (by omega) (fun a0 m3 v9 v10 d0 he3 hf3 => ?_)
  have k1 := cnt_rm1 d0
  rw [← k1]
  refine l_X10_draw (i := 1) hn he3 hf3 (by omega) (by rw [j_un _ _ _ (by decide)]; exact hs3) hq (by omega) (fun a1 m4 v9 v10 d1 he4 hf4 => ?_)
  have k2 := cnt_rm1 d1
  rw [← k2]
  refine l_X10_draw (i := 2) hn he4 hf4 (by omega) (by rw [j_un _ _ _ (by decide), j_un _ _ _ (by decide)]; exact hs3) hq (by omega) (fun a2 m5 v9 v10 d2 he5 hf5 => ?_)
  have m42 : m5 42 6 = nI nq := by
    rw [he5 42 (by omega), j_un _ _ _ (by decide), j_un _ _ _ (by decide), j_un _ _ _ (by decide)]
    exact hs3
  have e3 : nI (2 + 1) = 3 := by decide
  refine j_go (fun q => q == 167 || q == 255) 10 ?_
  simp only [qX10_piece, j_f10, j_m10, j_ty, tyX10, ↓j_kt, ↓j_sel, ↓j_run_0, ↓j_run_s, ↓j_wp, ↓j_pi, ↓j_pii, ↓j_pl, ↓j_pll, ↓j_pli, ↓j_pr, ↓j_pri, ↓j_prii, ↓j_pvr, ↓j_pop, ↓j_gi, ↓j_gl, ↓j_ga, ↓j_ob, ↓j_ar, ↓j_fd, ↓j_fo, ↓j_mo, ↓j_br, ↓j_to, ↓j_lo, ↓j_scr, ↓j_co, ↓j_no, j_nf, j_rt, j_ld, j_st1, j_st2, j_k1, j_ci, j_fin, j_sh, j_shl, Option.map_some, Option.map_none, Option.toList_some, Option.toList_none, List.cons_append, List.nil_append, List.map_cons, List.map_nil, List.sum_cons, List.sum_nil, Value.category, List.getElem?_cons_zero, List.getElem?_cons_succ, List.length_cons, List.length_nil, true_and, and_true, if_true, if_false, ↓reduceIte, Bool.false_eq_true, Bool.true_eq_false, reduceCtorEq, Nat.reduceAdd, Nat.reduceLT, Nat.reduceLeDiff, Nat.reduceEqDiff, Nat.reduceBEq, Int.cast_ofNat_Int, Int.reduceAdd, Int.reduceNeg, Int.reduceSub, Int.reduceToNat, Int.reduceLE, Nat.zero_le, false_implies, implies_true, beq_self_eq_true, Bool.and_true, Bool.and_false, Bool.or_false, Bool.false_or, Bool.or_true, Bool.true_or, Bool.and_self, Bool.or_self, Nat.zero_add, Nat.add_zero, or_false, or_true, true_or, false_or, j_b0, ↓j_b1, j_b2, ↓j_b3, j_01, j_inb, and_self, Classical.not_not, Int32.reduceLE, Int32.reduceLT, Int32.reduceAdd, j_ne, eq_self, not_true_eq_false, not_false_eq_true, forall_const, and_false, false_and, j_sc, j_ent, Nat.reduceSub, List.replicate_zero, List.replicate_succ, e3]
  refine j_go (fun q => q == 298) 40 ?_
  simp only [qX10_piece, j_f10, j_m10, j_ty, tyX10, ↓j_kt, ↓j_sel, ↓j_run_0, ↓j_run_s, ↓j_wp, ↓j_pi, ↓j_pii, ↓j_pl, ↓j_pll, ↓j_pli, ↓j_pr, ↓j_pri, ↓j_prii, ↓j_pvr, ↓j_pop, ↓j_gi, ↓j_gl, ↓j_ga, ↓j_ob, ↓j_ar, ↓j_fd, ↓j_fo, ↓j_mo, ↓j_br, ↓j_to, ↓j_lo, ↓j_scr, ↓j_co, ↓j_no, j_nf, j_rt, j_ld, j_st1, j_st2, j_k1, j_ci, j_fin, j_sh, j_shl, Option.map_some, Option.map_none, Option.toList_some, Option.toList_none, List.cons_append, List.nil_append, List.map_cons, List.map_nil, List.sum_cons, List.sum_nil, Value.category, List.getElem?_cons_zero, List.getElem?_cons_succ, List.length_cons, List.length_nil, true_and, and_true, if_true, if_false, ↓reduceIte, Bool.false_eq_true, Bool.true_eq_false, reduceCtorEq, Nat.reduceAdd, Nat.reduceLT, Nat.reduceLeDiff, Nat.reduceEqDiff, Nat.reduceBEq, Int.cast_ofNat_Int, Int.reduceAdd, Int.reduceNeg, Int.reduceSub, Int.reduceToNat, Int.reduceLE, Nat.zero_le, false_implies, implies_true, beq_self_eq_true, Bool.and_true, Bool.and_false, Bool.or_false, Bool.false_or, Bool.or_true, Bool.true_or, Bool.and_self, Bool.or_self, Nat.zero_add, Nat.add_zero, or_false, or_true, true_or, false_or, j_b0, ↓j_b1, j_b2, ↓j_b3, j_01, j_inb, and_self, Classical.not_not, Int32.reduceLE, Int32.reduceLT, Int32.reduceAdd, j_ne, eq_self, not_true_eq_false, not_false_eq_true, forall_const, and_false, false_and, j_sc, j_ent, Nat.reduceSub, List.replicate_zero, List.replicate_succ, j_s2, j_sl2, m42, j_un, ne_eq, nI_cl' (show nq < 1000000 by omega)]
  have h40 := n40 hq
  refine ⟨h40, h40, h40, h40, ?_⟩
  have fin : ∀ m6, e_78 m6 (j_up (j_up (j_up (j_up (j_up (j_up (j_up m1 68 (3 * nq) (nI a0)) 68 (3 * nq + 1) (nI a1)) 68 (3 * nq + 2) (nI a2)) 64 nq p) 65 nq (-1)) 66 nq (-1)) 67 nq (-1)) → m6 42 6 = nI nq → ∀ v4 v5 v6 v9 v10, j_J cX10_piece 10 11 (some .int) false 31 none Q j_SH2 0 0 298 [some (.ref 42), some (.int p), none, none, v4, v5, v6, none, some (.int 0), v9, v10] [] m6 := by
    intro m6 h6 h42 v4 v5 v6 v9 v10
    have e69 : m6 69 = m1 69 := by
      rw [h6 69 (by omega)]
      simp only [j_un, ne_eq, Nat.reduceEqDiff, not_false_eq_true]
    have er : m6 = j_row m6 69 (k_cl (m6 69) nq 0) := by
      have : k_cl (m6 69) nq 0 = m6 69 := by
        funext j
        unfold k_cl
        rw [if_neg (by omega)]
      rw [this, j_row_self]
    have hc := l_X10_clear (v1 := some (.int p)) (v4 := v4) (v5 := v5) (v6 := v6) (v9 := v9) (v10 := v10) (Q := Q) h42 hq (hQ2 _ a0 a1 a2 h3 d0 d1 d2 (by
      unfold q_np
      rw [e69]
      exact (h6.row 69 _).up 42 6 _)) 12 0 (by omega)
    rw [← er, nI_0] at hc
    exact hc
  refine fin _ ?_ ?_ _ _ _ _ _
  · exact (((he5.up 64 nq p).up 65 nq (-1)).up 66 nq (-1)).up 67 nq (-1)
  · simp only [j_un, ne_eq, Nat.reduceEqDiff, not_false_eq_true]
    exact m42
