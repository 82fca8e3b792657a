/-! the reference: mayJudge; a contract in a larger world; cells forgotten -/
abbrev q_sd (μ : j_M) (p k : Int32) (t : Nat) : Bool := decide (μ 49 t = p ∧ μ 50 t = k) && k_kn (μ 53) (μ 54) (μ 42 1) t
abbrev q_fit (μ : j_M) (np nt : Nat) (p k : Int32) : Prop := g_mast (μ 42 2) (μ 46) (μ 45) k ∧ ¬ q_kin μ np k p ∧ ¬ k_ex (q_sd μ p k) nt = true
set_option maxRecDepth 100000 in
theorem l_X10_mayJudge {μ : j_M} {p k : Int32} {nt : Nat} {Q : j_Q} (hs : μ 42 3 = nI nt) (hn : nt ≤ 100) (hQ : Q (some (if k_ex (q_sd μ p k) nt = true then 0 else 1)) j_SH μ) : ∀ (n i : Nat), i + n = nt → j_J cX10_mayJudge 10 5 (some .boolean) false 3 none Q j_SH 0 0 24 [some (.ref 42), some (.int k), some (.int p), some (.int (if k_ex (q_sd μ p k) i = true then 1 else 0)), some (.int (nI i))] [] μ := by
  intro n
  induction n with
  | zero =>
    intro i hi
    have e : i = nt := by omega
    subst e
    refine j_go (fun q => q == 24) 30 ?_
    simp only [qX10_mayJudge, j_f10, j_m10, j_ty, tyX10, ↓j_kt, ↓j_sel, ↓j_run_0, ↓j_run_s, ↓j_wp, ↓j_pi, ↓j_pii, ↓j_pl, ↓j_pll, ↓j_pli, ↓j_pr, ↓j_pri, ↓j_prii, ↓j_pvr, ↓j_pop, ↓j_gi, ↓j_gl, ↓j_ga, ↓j_ob, ↓j_ar, ↓j_fd, ↓j_fo, ↓j_mo, ↓j_br, ↓j_to, ↓j_lo, ↓j_scr, ↓j_co, ↓j_no, j_nf, j_rt, j_ld, j_st1, j_st2, j_k1, j_ci, j_fin, j_sh, j_shl, Option.map_some, Option.map_none, Option.toList_some, Option.toList_none, List.cons_append, List.nil_append, List.map_cons, List.map_nil, List.sum_cons, List.sum_nil, Value.category, List.getElem?_cons_zero, List.getElem?_cons_succ, List.length_cons, List.length_nil, true_and, and_true, if_true, if_false, ↓reduceIte, Bool.false_eq_true, Bool.true_eq_false, reduceCtorEq, Nat.reduceAdd, Nat.reduceLT, Nat.reduceLeDiff, Nat.reduceEqDiff, Nat.reduceBEq, Int.cast_ofNat_Int, Int.reduceAdd, Int.reduceNeg, Int.reduceSub, Int.reduceToNat, Int.reduceLE, Nat.zero_le, false_implies, implies_true, beq_self_eq_true, Bool.and_true, Bool.and_false, Bool.or_false, Bool.false_or, Bool.or_true, Bool.true_or, Bool.and_self, Bool.or_self, Nat.zero_add, Nat.add_zero, or_false, or_true, true_or, false_or, j_b0, ↓j_b1, j_b2, ↓j_b3, j_01, j_inb, and_self, Classical.not_not, Int32.reduceLE, Int32.reduceLT, Int32.reduceAdd, j_ne, eq_self, not_true_eq_false, not_false_eq_true, forall_const, and_false, false_and, j_sc, j_ent, Nat.reduceSub, List.replicate_zero, List.replicate_succ, hs]
    refine ⟨fun _ => ⟨fun z => ?_, fun z => ?_⟩, fun z => by grind⟩
    · rw [if_pos z] at hQ
      exact hQ
    · rw [if_neg z] at hQ
      exact hQ
  | succ n ih =>
    intro i hi
    have nx := ih (i + 1) (by omega)
    have ke : k_ex (q_sd μ p k) (i + 1) = (k_ex (q_sd μ p k) i || q_sd μ p k i) := rfl
    rw [ke] at nx
    have hin := n_100 (show i < 100 by omega)
    have yes : (k_ex (q_sd μ p k) i || q_sd μ p k i) = true → j_J cX10_mayJudge 10 5 (some .boolean) false 3 none Q j_SH 0 0 24 [some (.ref 42), some (.int k), some (.int p), some (.int 1), some (.int (nI (i + 1)))] [] μ := by
      intro z
      rw [if_pos z] at nx
      exact nx
    have no : ¬ k_ex (q_sd μ p k) i = true → ¬ q_sd μ p k i = true → j_J cX10_mayJudge 10 5 (some .boolean) false 3 none Q j_SH 0 0 24 [some (.ref 42), some (.int k), some (.int p), some (.int 0), some (.int (nI (i + 1)))] [] μ := by
      intro z1 z2
      rw [if_neg (fun y => ((Bool.or_eq_true _ _).mp y).elim z1 z2)] at nx
      exact nx
    have hsd : q_sd μ p k i = true ↔ (μ 49 i = p ∧ μ 50 i = k) ∧ k_kn (μ 53) (μ 54) (μ 42 1) i = true := by
      show (decide _ && _) = true ↔ _
      rw [Bool.and_eq_true, decide_eq_true_eq]
    refine j_go (fun q => q == 24) 40 ?_
    simp only [qX10_mayJudge, j_f10, j_m10, j_ty, tyX10, ↓j_kt, ↓j_sel, ↓j_run_0, ↓j_run_s, ↓j_wp, ↓j_pi, ↓j_pii, ↓j_pl, ↓j_pll, ↓j_pli, ↓j_pr, ↓j_pri, ↓j_prii, ↓j_pvr, ↓j_pop, ↓j_gi, ↓j_gl, ↓j_ga, ↓j_ob, ↓j_ar, ↓j_fd, ↓j_fo, ↓j_mo, ↓j_br, ↓j_to, ↓j_lo, ↓j_scr, ↓j_co, ↓j_no, j_nf, j_rt, j_ld, j_st1, j_st2, j_k1, j_ci, j_fin, j_sh, j_shl, Option.map_some, Option.map_none, Option.toList_some, Option.toList_none, List.cons_append, List.nil_append, List.map_cons, List.map_nil, List.sum_cons, List.sum_nil, Value.category, List.getElem?_cons_zero, List.getElem?_cons_succ, List.length_cons, List.length_nil, true_and, and_true, if_true, if_false, ↓reduceIte, Bool.false_eq_true, Bool.true_eq_false, reduceCtorEq, Nat.reduceAdd, Nat.reduceLT, Nat.reduceLeDiff, Nat.reduceEqDiff, Nat.reduceBEq, Int.cast_ofNat_Int, Int.reduceAdd, Int.reduceNeg, Int.reduceSub, Int.reduceToNat, Int.reduceLE, Nat.zero_le, false_implies, implies_true, beq_self_eq_true, Bool.and_true, Bool.and_false, Bool.or_false, Bool.false_or, Bool.or_true, Bool.true_or, Bool.and_self, Bool.or_self, Nat.zero_add, Nat.add_zero, or_false, or_true, true_or, false_or, j_b0, ↓j_b1, j_b2, ↓j_b3, j_01, j_inb, and_self, Classical.not_not, Int32.reduceLE, Int32.reduceLT, Int32.reduceAdd, j_ne, eq_self, not_true_eq_false, not_false_eq_true, forall_const, and_false, false_and, j_sc, j_ent, Nat.reduceSub, List.replicate_zero, List.replicate_succ, hs, nI_1, nI_cl' (show i < 1000000 by omega), nI_lt' (show i < 1000000 by omega) (show nt < 1000000 by omega), nI_le' (show nt < 1000000 by omega) (show i < 1000000 by omega)]
    refine ⟨fun z => by omega, fun _ => ⟨fun z => yes (by rw [z]; rfl), fun z => ⟨hin, fun c1 => no z (fun y => c1 (hsd.mp y).1.1), fun c1 => ⟨hin, fun c2 => no z (fun y => c2 (hsd.mp y).1.2), fun c2 => ?_⟩⟩⟩⟩
    refine j_use1 (f_X10_isKnown μ i (μ 42 1) (by omega)) (by decide) ?_
    simp only [qX10_mayJudge, j_f10, j_m10, j_ty, tyX10, ↓j_kt, ↓j_sel, ↓j_run_0, ↓j_run_s, ↓j_wp, ↓j_pi, ↓j_pii, ↓j_pl, ↓j_pll, ↓j_pli, ↓j_pr, ↓j_pri, ↓j_prii, ↓j_pvr, ↓j_pop, ↓j_gi, ↓j_gl, ↓j_ga, ↓j_ob, ↓j_ar, ↓j_fd, ↓j_fo, ↓j_mo, ↓j_br, ↓j_to, ↓j_lo, ↓j_scr, ↓j_co, ↓j_no, j_nf, j_rt, j_ld, j_st1, j_st2, j_k1, j_ci, j_fin, j_sh, j_shl, Option.map_some, Option.map_none, Option.toList_some, Option.toList_none, List.cons_append, List.nil_append, List.map_cons, List.map_nil, List.sum_cons, List.sum_nil, Value.category, List.getElem?_cons_zero, List.getElem?_cons_succ, List.length_cons, List.length_nil, true_and, and_true, if_true, if_false, ↓reduceIte, Bool.false_eq_true, Bool.true_eq_false, reduceCtorEq, Nat.reduceAdd, Nat.reduceLT, Nat.reduceLeDiff, Nat.reduceEqDiff, Nat.reduceBEq, Int.cast_ofNat_Int, Int.reduceAdd, Int.reduceNeg, Int.reduceSub, Int.reduceToNat, Int.reduceLE, Nat.zero_le, false_implies, implies_true, beq_self_eq_true, Bool.and_true, Bool.and_false, Bool.or_false, Bool.false_or, Bool.or_true, Bool.true_or, Bool.and_self, Bool.or_self, Nat.zero_add, Nat.add_zero, or_false, or_true, true_or, false_or, j_b0, ↓j_b1, j_b2, ↓j_b3, j_01, j_inb, and_self, Classical.not_not, Int32.reduceLE, Int32.reduceLT, Int32.reduceAdd, j_ne, eq_self, not_true_eq_false, not_false_eq_true, forall_const, and_false, false_and, j_sc, j_ent, Nat.reduceSub, List.replicate_zero, List.replicate_succ, nI_1]
    exact ⟨fun c3 => no z (fun y => c3 (hsd.mp y).2), fun c3 => yes (by rw [hsd.mpr ⟨⟨c1, c2⟩, c3⟩, Bool.or_true])⟩
set_option maxRecDepth 100000 in
theorem f_X10_mayJudge (μ : j_M) (k p : Int32) {np nt : Nat} (hs : μ 42 2 = nI np) (hn : np ≤ 30) (hs2 : μ 42 3 = nI nt) (hn2 : nt ≤ 100) (hp0 : 0 ≤ p) (hp1 : p < 30) : j_R 3 yX10_mayJudge [.ref 42, .int k, .int p] μ (fun r m => (r = some 1 ∧ q_fit μ np nt p k ∨ r = some 0 ∧ ¬ q_fit μ np nt p k) ∧ m = μ) := by
  have k30 : μ 42 2 ≤ 30 := by rw [hs]; exact (nI_le' (b := 30) (by omega) (by omega)).mpr hn
  refine eX10_mayJudge (Nat.le_of_ble_eq_true rfl) (j_go (fun q => q == 24) 40 ?_)
  simp only [qX10_mayJudge, j_f10, j_m10, j_ty, tyX10, ↓j_kt, ↓j_sel, ↓j_run_0, ↓j_run_s, ↓j_wp, ↓j_pi, ↓j_pii, ↓j_pl, ↓j_pll, ↓j_pli, ↓j_pr, ↓j_pri, ↓j_prii, ↓j_pvr, ↓j_pop, ↓j_gi, ↓j_gl, ↓j_ga, ↓j_ob, ↓j_ar, ↓j_fd, ↓j_fo, ↓j_mo, ↓j_br, ↓j_to, ↓j_lo, ↓j_scr, ↓j_co, ↓j_no, j_nf, j_rt, j_ld, j_st1, j_st2, j_k1, j_ci, j_fin, j_sh, j_shl, Option.map_some, Option.map_none, Option.toList_some, Option.toList_none, List.cons_append, List.nil_append, List.map_cons, List.map_nil, List.sum_cons, List.sum_nil, Value.category, List.getElem?_cons_zero, List.getElem?_cons_succ, List.length_cons, List.length_nil, true_and, and_true, if_true, if_false, ↓reduceIte, Bool.false_eq_true, Bool.true_eq_false, reduceCtorEq, Nat.reduceAdd, Nat.reduceLT, Nat.reduceLeDiff, Nat.reduceEqDiff, Nat.reduceBEq, Int.cast_ofNat_Int, Int.reduceAdd, Int.reduceNeg, Int.reduceSub, Int.reduceToNat, Int.reduceLE, Nat.zero_le, false_implies, implies_true, beq_self_eq_true, Bool.and_true, Bool.and_false, Bool.or_false, Bool.false_or, Bool.or_true, Bool.true_or, Bool.and_self, Bool.or_self, Nat.zero_add, Nat.add_zero, or_false, or_true, true_or, false_or, j_b0, ↓j_b1, j_b2, ↓j_b3, j_01, j_inb, and_self, Classical.not_not, Int32.reduceLE, Int32.reduceLT, Int32.reduceAdd, j_ne, eq_self, not_true_eq_false, not_false_eq_true, forall_const, and_false, false_and, j_sc, j_ent, Nat.reduceSub, List.replicate_zero, List.replicate_succ]
  refine j_use1 (f_X10_isMaster μ k k30) (by decide) ?_
  simp only [qX10_mayJudge, j_f10, j_m10, j_ty, tyX10, ↓j_kt, ↓j_sel, ↓j_run_0, ↓j_run_s, ↓j_wp, ↓j_pi, ↓j_pii, ↓j_pl, ↓j_pll, ↓j_pli, ↓j_pr, ↓j_pri, ↓j_prii, ↓j_pvr, ↓j_pop, ↓j_gi, ↓j_gl, ↓j_ga, ↓j_ob, ↓j_ar, ↓j_fd, ↓j_fo, ↓j_mo, ↓j_br, ↓j_to, ↓j_lo, ↓j_scr, ↓j_co, ↓j_no, j_nf, j_rt, j_ld, j_st1, j_st2, j_k1, j_ci, j_fin, j_sh, j_shl, Option.map_some, Option.map_none, Option.toList_some, Option.toList_none, List.cons_append, List.nil_append, List.map_cons, List.map_nil, List.sum_cons, List.sum_nil, Value.category, List.getElem?_cons_zero, List.getElem?_cons_succ, List.length_cons, List.length_nil, true_and, and_true, if_true, if_false, ↓reduceIte, Bool.false_eq_true, Bool.true_eq_false, reduceCtorEq, Nat.reduceAdd, Nat.reduceLT, Nat.reduceLeDiff, Nat.reduceEqDiff, Nat.reduceBEq, Int.cast_ofNat_Int, Int.reduceAdd, Int.reduceNeg, Int.reduceSub, Int.reduceToNat, Int.reduceLE, Nat.zero_le, false_implies, implies_true, beq_self_eq_true, Bool.and_true, Bool.and_false, Bool.or_false, Bool.false_or, Bool.or_true, Bool.true_or, Bool.and_self, Bool.or_self, Nat.zero_add, Nat.add_zero, or_false, or_true, true_or, false_or, j_b0, ↓j_b1, j_b2, ↓j_b3, j_01, j_inb, and_self, Classical.not_not, Int32.reduceLE, Int32.reduceLT, Int32.reduceAdd, j_ne, eq_self, not_true_eq_false, not_false_eq_true, forall_const, and_false, false_and, j_sc, j_ent, Nat.reduceSub, List.replicate_zero, List.replicate_succ]
  refine ⟨fun z => Or.inr (fun y => z y.1), fun z => ?_⟩
  refine j_use (f_X10_areKin μ k p hs hn z.1 (by grind) hp0 hp1) (by decide) (fun r m hp => ?_)
  obtain ⟨hp, rfl⟩ := hp
  rcases hp with ⟨rfl, hk⟩ | ⟨rfl, hk⟩
  · simp only [qX10_mayJudge, j_f10, j_m10, j_ty, tyX10, ↓j_kt, ↓j_sel, ↓j_run_0, ↓j_run_s, ↓j_wp, ↓j_pi, ↓j_pii, ↓j_pl, ↓j_pll, ↓j_pli, ↓j_pr, ↓j_pri, ↓j_prii, ↓j_pvr, ↓j_pop, ↓j_gi, ↓j_gl, ↓j_ga, ↓j_ob, ↓j_ar, ↓j_fd, ↓j_fo, ↓j_mo, ↓j_br, ↓j_to, ↓j_lo, ↓j_scr, ↓j_co, ↓j_no, j_nf, j_rt, j_ld, j_st1, j_st2, j_k1, j_ci, j_fin, j_sh, j_shl, Option.map_some, Option.map_none, Option.toList_some, Option.toList_none, List.cons_append, List.nil_append, List.map_cons, List.map_nil, List.sum_cons, List.sum_nil, Value.category, List.getElem?_cons_zero, List.getElem?_cons_succ, List.length_cons, List.length_nil, true_and, and_true, if_true, if_false, ↓reduceIte, Bool.false_eq_true, Bool.true_eq_false, reduceCtorEq, Nat.reduceAdd, Nat.reduceLT, Nat.reduceLeDiff, Nat.reduceEqDiff, Nat.reduceBEq, Int.cast_ofNat_Int, Int.reduceAdd, Int.reduceNeg, Int.reduceSub, Int.reduceToNat, Int.reduceLE, Nat.zero_le, false_implies, implies_true, beq_self_eq_true, Bool.and_true, Bool.and_false, Bool.or_false, Bool.false_or, Bool.or_true, Bool.true_or, Bool.and_self, Bool.or_self, Nat.zero_add, Nat.add_zero, or_false, or_true, true_or, false_or, j_b0, ↓j_b1, j_b2, ↓j_b3, j_01, j_inb, and_self, Classical.not_not, Int32.reduceLE, Int32.reduceLT, Int32.reduceAdd, j_ne, eq_self, not_true_eq_false, not_false_eq_true, forall_const, and_false, false_and, j_sc, j_ent, Nat.reduceSub, List.replicate_zero, List.replicate_succ]
    exact Or.inr (fun y => y.2.1 hk)
  · simp only [qX10_mayJudge, j_f10, j_m10, j_ty, tyX10, ↓j_kt, ↓j_sel, ↓j_run_0, ↓j_run_s, ↓j_wp, ↓j_pi, ↓j_pii, ↓j_pl, ↓j_pll, ↓j_pli, ↓j_pr, ↓j_pri, ↓j_prii, ↓j_pvr, ↓j_pop, ↓j_gi, ↓j_gl, ↓j_ga, ↓j_ob, ↓j_ar, ↓j_fd, ↓j_fo, ↓j_mo, ↓j_br, ↓j_to, ↓j_lo, ↓j_scr, ↓j_co, ↓j_no, j_nf, j_rt, j_ld, j_st1, j_st2, j_k1, j_ci, j_fin, j_sh, j_shl, Option.map_some, Option.map_none, Option.toList_some, Option.toList_none, List.cons_append, List.nil_append, List.map_cons, List.map_nil, List.sum_cons, List.sum_nil, Value.category, List.getElem?_cons_zero, List.getElem?_cons_succ, List.length_cons, List.length_nil, true_and, and_true, if_true, if_false, ↓reduceIte, Bool.false_eq_true, Bool.true_eq_false, reduceCtorEq, Nat.reduceAdd, Nat.reduceLT, Nat.reduceLeDiff, Nat.reduceEqDiff, Nat.reduceBEq, Int.cast_ofNat_Int, Int.reduceAdd, Int.reduceNeg, Int.reduceSub, Int.reduceToNat, Int.reduceLE, Nat.zero_le, false_implies, implies_true, beq_self_eq_true, Bool.and_true, Bool.and_false, Bool.or_false, Bool.false_or, Bool.or_true, Bool.true_or, Bool.and_self, Bool.or_self, Nat.zero_add, Nat.add_zero, or_false, or_true, true_or, false_or, j_b0, ↓j_b1, j_b2, ↓j_b3, j_01, j_inb, and_self, Classical.not_not, Int32.reduceLE, Int32.reduceLT, Int32.reduceAdd, j_ne, eq_self, not_true_eq_false, not_false_eq_true, forall_const, and_false, false_and, j_sc, j_ent, Nat.reduceSub, List.replicate_zero, List.replicate_succ]
    refine l_X10_mayJudge hs2 hn2 ?_ nt 0 (by omega)
    by_cases c : k_ex (q_sd m p k) nt = true
    · rw [if_pos c]
      exact ⟨rfl, Or.inr ⟨rfl, fun y => y.2.2 c⟩, rfl⟩
    · rw [if_neg c]
      exact ⟨rfl, Or.inl ⟨rfl, z, hk, c⟩, rfl⟩
theorem j_w_ap {cA : FieldType → ClassId} {α : Nat → Nat} {sh ext : List j_S} {μ : j_M} : j_w cA α (sh ++ ext) μ = j_w cA α sh μ ++ ext.mapIdx (fun k s => (α (k + sh.length), j_ce cA α (μ (k + sh.length)) s)) := by
  unfold j_w
  rw [List.mapIdx_append]
theorem j_w_ad {cA : FieldType → ClassId} {α : Nat → Nat} {sh : List j_S} {μ : j_M} {k : Nat} {q : Nat × va_E} (h : (j_w cA α sh μ)[k]? = some q) : q.1 = α k ∧ k < sh.length := by
  have hl := (List.getElem?_eq_some_iff.mp h).1
  rw [j_w_len] at hl
  unfold j_w at h
  rw [List.getElem?_mapIdx] at h
  obtain ⟨s, -, e⟩ := Option.map_eq_some_iff.mp h
  rw [← e]
  exact ⟨rfl, hl⟩
theorem j_w_D {cA : FieldType → ClassId} {α : Nat → Nat} {sh : List j_S} {μ μ' : j_M} {A B : Nat → Prop} (h : va_D A (j_w cA α sh μ)) (hB : ∀ k, k < sh.length → B (α k)) : va_D B (j_w cA α sh μ') := by
  have get : ∀ k, k < sh.length → ∃ q, (j_w cA α sh μ)[k]? = some q ∧ q.1 = α k := by
    intro k hk
    have hk2 : k < (j_w cA α sh μ).length := by rw [j_w_len]; exact hk
    exact ⟨_, List.getElem?_eq_getElem hk2, (j_w_ad (List.getElem?_eq_getElem hk2)).1⟩
  refine ⟨fun i j p q hi hj e => ?_, fun k q hk => ?_⟩
  · obtain ⟨i1, i2⟩ := j_w_ad hi
    obtain ⟨j1, j2⟩ := j_w_ad hj
    obtain ⟨p', p1, p2⟩ := get i i2
    obtain ⟨q', q1, q2⟩ := get j j2
    exact h.1 i j p' q' p1 q1 (by rw [p2, q2, ← i1, ← j1, e])
  · obtain ⟨k1, k2⟩ := j_w_ad hk
    rw [k1]
    exact hB k k2
/-- all references of j_SH lie in it, but for the reference's row, which the memory holds -/
theorem j_chk : (List.range 78).all (fun a => match j_SH[a]? with
  | some (.inr (_, ks)) => (List.range ks.length).all (fun j => match ks[j]? with
    | some (some none) => a == 42 && j == 43
    | some (some (some (some r))) => decide (r < 78)
    | _ => true)
  | _ => true) = true := by decide +kernel
theorem j_okr_SH {μ : j_M} (h : (μ 42 43).toNatClampNeg < 78) : j_okr 78 j_SH μ := by
  intro a ci ks ha j x hj
  have hal : a < 78 := (List.getElem?_eq_some_iff.mp ha).1
  have hjl : j < ks.length := (List.getElem?_eq_some_iff.mp hj).1
  have h1 := List.all_eq_true.mp j_chk a (List.mem_range.mpr hal)
  rw [ha] at h1
  have h2 := List.all_eq_true.mp h1 j (List.mem_range.mpr hjl)
  rw [hj] at h2
  refine ⟨fun e => ?_, fun r e => ?_⟩
  · subst e
    simp only [Bool.and_eq_true, beq_iff_eq] at h2
    rw [h2.1, h2.2]
    exact h
  · subst e
    simpa using h2
/-- the same world by other names -/
theorem j_w_nm {cA : FieldType → ClassId} {α α' : Nat → Nat} {sh : List j_S} {μ μ' : j_M} {n : Nat} (hn : sh.length ≤ n) (hr : j_okr n sh μ') (hα : ∀ k, k < n → α' k = α k) (hμ : ∀ k, k < sh.length → μ k = μ' k) : j_w cA α sh μ = j_w cA α' sh μ' := by
  apply List.ext_getElem?
  intro k
  unfold j_w
  rw [List.getElem?_mapIdx, List.getElem?_mapIdx]
  cases hs : sh[k]? with
  | none => rfl
  | some s =>
    have hk : k < sh.length := (List.getElem?_eq_some_iff.mp hs).1
    simp only [Option.map_some]
    rw [hα k (by omega), hμ k hk]
    congr 2
    rcases s with ⟨ty, m⟩ | ⟨ci, ks⟩
    · rfl
    · simp only [j_ce]
      congr 2
      apply List.ext_getElem?
      intro j
      rw [List.getElem?_mapIdx, List.getElem?_mapIdx]
      cases hj : ks[j]? with
      | none => rfl
      | some x =>
        rcases x with _ | _ | _ | r
        · rfl
        · have h1 := (hr k ci ks hs j _ hj).1 rfl
          simp only [Option.map_some, j_fv, hα _ h1]
        · rfl
        · have h1 := (hr k ci ks hs j _ hj).2 r rfl
          simp only [Option.map_some, j_fv, hα _ h1]
theorem j_lift {d : Nat} {y : MethodName} {as : List Value} {μ : j_M} {P : Option Int32 → j_M → Prop} (ext : List j_S) (h : j_R d y as μ P) (hok : ∀ v ∈ as, j_okv 78 v) (hrow : ∀ r m, P r m → (m 42 43).toNatClampNeg < 78) : j_Call d 0 0 y (j_SH ++ ext) as μ (fun r sh m => sh = j_SH ++ ext ∧ ∃ m0, P r m0 ∧ m = fun b => if b < 78 then m0 b else μ b) := by
  obtain ⟨cc, maxL, ret, c1, c2, c3⟩ := h
  refine ⟨cc, maxL, ret, c1, c2, fun _ l D cA α sz => ?_⟩
  have hL : (j_SH ++ ext).length = 78 + ext.length := by rw [List.length_append, j_shl]
  have hsub : ∀ q, va_A (j_w cA α j_SH μ) sz q → va_A (j_w cA α (j_SH ++ ext) μ) sz q := by
    intro q hq
    rcases hq with ⟨k, e, hk⟩ | hq
    · refine Or.inl ⟨k, e, ?_⟩
      rw [j_w_ap, List.getElem?_append_left (List.getElem?_eq_some_iff.mp hk).1]
      exact hk
    · exact Or.inr hq
  refine MetFree.mono (c3 hok l D cA α sz) (fun a s hp => ?_) (fun _ _ _ _ _ z => z) (fun a st o t hp z => ?_)
  · obtain ⟨p0, p1, pP, pK, pD, pN⟩ := hp
    refine ⟨p0, p1, fun k q hk => pP k q ?_, pK, j_w_D (α := α) (sh := j_SH) (μ := μ) (A := fun _ => True) ⟨fun i j p q hi hj e => pD.1 i j p q ?_ ?_ e, fun _ _ _ => trivial⟩ (fun _ _ => trivial), pN⟩
    · rw [j_w_ap, List.getElem?_append_left (List.getElem?_eq_some_iff.mp hk).1]; exact hk
    · rw [j_w_ap, List.getElem?_append_left (List.getElem?_eq_some_iff.mp hi).1]; exact hi
    · rw [j_w_ap, List.getElem?_append_left (List.getElem?_eq_some_iff.mp hj).1]; exact hj
  · obtain ⟨⟨⟨r, sh', μ', α', e1, ⟨rfl, e2⟩, e3, e4, e5, e6, e7⟩, e8⟩, L, f1, f2⟩ := z
    obtain ⟨p0, p1, pP, pK, pD, pN⟩ := hp
    have hmid : j_w cA α j_SH (fun b => if b < 78 then μ' b else μ b) = j_w cA α' j_SH μ' := j_w_nm (n := 78) (Nat.le_refl _) (j_okr_SH (hrow _ _ e2)) (fun k hk => e4 k (Or.inl hk)) (fun k hk => if_pos hk)
    have hend : ext.mapIdx (fun k s => (α (k + j_SH.length), j_ce cA α ((fun b => if b < 78 then μ' b else μ b) (k + j_SH.length)) s)) = ext.mapIdx (fun k s => (α (k + j_SH.length), j_ce cA α (μ (k + j_SH.length)) s)) := by
      congr 1
    refine ⟨⟨⟨r, j_SH ++ ext, fun b => if b < 78 then μ' b else μ b, α, e1, ⟨rfl, μ', e2, rfl⟩, Nat.le_refl _, fun _ _ => rfl, ?_, e6, ?_⟩, e8.1, fun q hq hn => e8.2 q hq (fun w => hn (hsub q w))⟩, L, f1, fun q hq => hsub _ (f2 q hq)⟩
    · rw [j_w_ap, hmid, hend]
      refine e5.app (va_P.kept (H := st.heap) (fun k q hk => ?_) (fun k q hk => ?_))
      · refine pP (j_SH.length + k) q ?_
        rw [j_w_ap, List.getElem?_append_right (by rw [j_w_len]; omega), j_w_len]
        rw [show j_SH.length + k - j_SH.length = k by omega]
        exact hk
      · have hq : (j_w cA α (j_SH ++ ext) μ)[j_SH.length + k]? = some q := by
          rw [j_w_ap, List.getElem?_append_right (by rw [j_w_len]; omega), j_w_len, show j_SH.length + k - j_SH.length = k by omega]
          exact hk
        refine e8.2 q.1 (pP _ q hq).lt (fun w => ?_)
        rcases w with ⟨i, e, hi⟩ | w
        · have hi2 : (j_w cA α (j_SH ++ ext) μ)[i]? = some (q.1, e) := by
            rw [j_w_ap, List.getElem?_append_left (List.getElem?_eq_some_iff.mp hi).1]
            exact hi
          have := pD.1 i (j_SH.length + k) _ _ hi2 hq rfl
          have := (j_w_ad hi).2
          omega
        · have := (pP _ q hq).lt
          rw [p1] at this
          omega
    · exact j_w_D pD (fun k hk => by
        have hk2 : k < (j_w cA α (j_SH ++ ext) μ).length := by rw [j_w_len]; exact hk
        obtain ⟨z1, -⟩ := j_w_ad (List.getElem?_eq_getElem hk2)
        rw [← z1]
        exact va_A.in (List.getElem?_eq_getElem hk2))
/-- cells that were made and are wanted no more -/
theorem j_forget {d mc ms : Nat} {y : MethodName} {as : List Value} {μ : j_M} {Q : j_Q} {P : Option Int32 → j_M → Prop} (h : j_Call d mc ms y j_SH as μ Q) (hQ : ∀ r sh m, Q r sh m → (∃ ext, sh = j_SH ++ ext) ∧ P r m) : j_Call d mc ms y j_SH as μ (fun r sh m => sh = j_SH ∧ P r m) := by
  obtain ⟨cc, maxL, ret, c1, c2, c3⟩ := h
  refine ⟨cc, maxL, ret, c1, c2, fun hok l D cA α sz => ?_⟩
  refine MetFree.mono (c3 hok l D cA α sz) (fun _ _ z => z) (fun _ _ _ _ _ z => z) (fun a st o t _ z => ?_)
  obtain ⟨⟨⟨r, sh', μ', α', e1, e2, e3, e4, e5, e6, e7⟩, e8⟩, e9⟩ := z
  obtain ⟨⟨ext, rfl⟩, hp⟩ := hQ _ _ _ e2
  refine ⟨⟨⟨r, j_SH, μ', α', e1, ⟨rfl, hp⟩, Nat.le_refl _, e4, fun k q hk => e5 k q ?_, e6, ⟨fun i j p q hi hj e => e7.1 i j p q ?_ ?_ e, fun k q hk => e7.2 k q ?_⟩⟩, e8⟩, e9⟩
  · rw [j_w_ap, List.getElem?_append_left (List.getElem?_eq_some_iff.mp hk).1]; exact hk
  · rw [j_w_ap, List.getElem?_append_left (List.getElem?_eq_some_iff.mp hi).1]; exact hi
  · rw [j_w_ap, List.getElem?_append_left (List.getElem?_eq_some_iff.mp hj).1]; exact hj
  · rw [j_w_ap, List.getElem?_append_left (List.getElem?_eq_some_iff.mp hk).1]; exact hk
