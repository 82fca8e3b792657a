/-! the reference: piece, its contract -/
theorem q_fit_z {m μ : j_M} (h : z_sc μ m) (np nt : Nat) (p k : Int32) : q_fit m np nt p k ↔ q_fit μ np nt p k := by
  have o := h.1
  have e1 := h.2.1 1 (by decide) (by decide) (by decide) (by decide) (by decide) (by decide)
  have e2 := h.2.1 2 (by decide) (by decide) (by decide) (by decide) (by decide) (by decide)
  unfold q_fit q_kin q_ip q_sd
  rw [e1, e2, o 43 (by decide) (by decide) (by decide) (by decide) (by decide), o 44 (by decide) (by decide) (by decide) (by decide) (by decide), o 45 (by decide) (by decide) (by decide) (by decide) (by decide), o 46 (by decide) (by decide) (by decide) (by decide) (by decide), o 49 (by decide) (by decide) (by decide) (by decide) (by decide), o 50 (by decide) (by decide) (by decide) (by decide) (by decide), o 53 (by decide) (by decide) (by decide) (by decide) (by decide), o 54 (by decide) (by decide) (by decide) (by decide) (by decide)]
theorem j_entry2 {cc : ByteArray} {o nL : Nat} {ret : Option FieldType} {d mc ms : Nat} {y : MethodName} {as : List Value} {μ : j_M} {Q : j_Q} (hcode : Cond.code y cc nL ret ∈ lw_tbl) (hn : nL ≤ 45 ∧ plainName y.cls = true ∧ j_cn o = y.cls) (hlen : (lg_sl as).length ≤ nL)
    (h : j_J cc o nL ret false d none Q j_SH mc ms 0 (j_ent as nL) [] μ) : j_Call d mc ms y j_SH as μ Q :=
  j_call (j_ent as nL) hcode hn.1 hn.2.1 hn.2.2 (by intro h; cases h) hlen (by
    obtain ⟨h1, h2⟩ := j_ent_mem as nL 0 hlen
    exact ⟨h1, fun i v hv => by have := h2 i v hv; rwa [Nat.zero_add] at this⟩) h
theorem z_row {x : Int32} (h : x = nI 59 ∨ x = nI 60) : x.toNatClampNeg < 78 := by
  rcases h with h | h <;> rw [h] <;> decide
set_option maxRecDepth 100000 in
theorem f_X10_piece {μ : j_M} {X : Nat → Int32} {np nt ng nq ns : Nat} {L : Nat → Nat} (G : Nat → Bool) (f f2 : Nat → Int32) (h : z_ok μ np nt ng nq) (h5 : μ 42 5 = nI ns) (hn : ns ≤ 30) (hT : z_T μ X ns L) (hnow : 0 ≤ μ 42 1 ∧ μ 42 1 ≤ 20000) (hrow : μ 42 43 = nI 59 ∨ μ 42 43 = nI 60) (p : Int32) (x : Int64) (hv : g_has (t_0 μ 42 2) p → ∀ w, w < 6 → 0 ≤ y_v (t_0 μ) nt ng nq (t_0 μ 42 1).toNatClampNeg p (t_0 μ 42 1) w) (hG : ∀ k, k < np → (G k = true ↔ q_fit (t_0 μ) np nt p (nI k))) :
    j_Call 31 1 30 yX10_piece j_SH [.ref 42, .int p, .long x] μ (fun r sh m => sh = j_SH ∧ q_piece (t_0 μ) X L G np nt ng nq ns f f2 p x r m) := by
  have h0 := h.t0
  have k5 : t_0 μ 42 5 = nI ns := by rw [t_0s μ (by decide)]; exact h5
  have hT0 : z_T (t_0 μ) X ns L := hT.mv (t_0o μ (by decide)) (t_0o μ (by decide))
  have hnow0 : 0 ≤ t_0 μ 42 1 ∧ t_0 μ 42 1 ≤ 20000 := by rw [t_0s μ (by decide)]; exact hnow
  have hrow0 : t_0 μ 42 43 = nI 59 ∨ t_0 μ 42 43 = nI 60 := by rw [t_0s μ (by decide)]; exact hrow
  refine j_forget (Q := fun r sh m => (sh = j_SH ∨ sh = j_SH2) ∧ q_piece (t_0 μ) X L G np nt ng nq ns f f2 p x r m) ?_ (fun r sh m hq => ⟨?_, hq.2⟩)
  · refine j_entry2 (o := 10) hX10_piece ⟨by decide, by decide +kernel, rfl⟩ (Nat.le_of_ble_eq_true rfl) ?_
    refine j_go (fun q => q == 5) 60 ?_
    simp only [qX10_piece, j_f10, j_m10, j_ty, tyX10, ↓j_kt, ↓j_sel, ↓j_run_0, ↓j_run_s, ↓j_wp, ↓j_pi, ↓j_pii, ↓j_pl, ↓j_pll, ↓j_pli, ↓j_pr, ↓j_pri, ↓j_prii, ↓j_pvr, ↓j_pop, ↓j_gi, ↓j_gl, ↓j_ga, ↓j_ob, ↓j_ar, ↓j_fd, ↓j_fo, ↓j_mo, ↓j_br, ↓j_to, ↓j_lo, ↓j_scr, ↓j_co, ↓j_no, j_nf, j_rt, j_ld, j_st1, j_st2, j_k1, j_ci, j_fin, j_sh, j_shl, Option.map_some, Option.map_none, Option.toList_some, Option.toList_none, List.cons_append, List.nil_append, List.map_cons, List.map_nil, List.sum_cons, List.sum_nil, Value.category, List.getElem?_cons_zero, List.getElem?_cons_succ, List.length_cons, List.length_nil, true_and, and_true, if_true, if_false, ↓reduceIte, Bool.false_eq_true, Bool.true_eq_false, reduceCtorEq, Nat.reduceAdd, Nat.reduceLT, Nat.reduceLeDiff, Nat.reduceEqDiff, Nat.reduceBEq, Int.cast_ofNat_Int, Int.reduceAdd, Int.reduceNeg, Int.reduceSub, Int.reduceToNat, Int.reduceLE, Nat.zero_le, false_implies, implies_true, beq_self_eq_true, Bool.and_true, Bool.and_false, Bool.or_false, Bool.false_or, Bool.or_true, Bool.true_or, Bool.and_self, Bool.or_self, Nat.zero_add, Nat.add_zero, or_false, or_true, true_or, false_or, j_b0, ↓j_b1, j_b2, ↓j_b3, j_01, j_inb, and_self, Classical.not_not, Int32.reduceLE, Int32.reduceLT, Int32.reduceAdd, j_ne, eq_self, not_true_eq_false, not_false_eq_true, forall_const, and_false, false_and, j_sc, j_ent, Nat.reduceSub, List.replicate_zero, List.replicate_succ]
    show j_J _ _ _ _ _ _ _ _ _ _ _ _ _ _ (t_0 μ)
    generalize t_0 μ = ν at h0 k5 hT0 hnow0 hrow0 hv hG ⊢
    obtain ⟨⟨a1, a2⟩, ⟨a3, a4⟩, ⟨a5, a6⟩, ⟨a7, a8⟩, a9, a10⟩ := id h0
    have kn : ν 42 2 ≤ 30 := by rw [a1]; exact (nI_le' (b := 30) (by omega) (by omega)).mpr a2
    have e40 : nI nq = 40 ↔ nq = 40 := nI_eq' (b := 40) (by omega) (by omega)
    refine j_go (fun q => q == 48) 60 ?_
    simp only [qX10_piece, j_f10, j_m10, j_ty, tyX10, ↓j_kt, ↓j_sel, ↓j_run_0, ↓j_run_s, ↓j_wp, ↓j_pi, ↓j_pii, ↓j_pl, ↓j_pll, ↓j_pli, ↓j_pr, ↓j_pri, ↓j_prii, ↓j_pvr, ↓j_pop, ↓j_gi, ↓j_gl, ↓j_ga, ↓j_ob, ↓j_ar, ↓j_fd, ↓j_fo, ↓j_mo, ↓j_br, ↓j_to, ↓j_lo, ↓j_scr, ↓j_co, ↓j_no, j_nf, j_rt, j_ld, j_st1, j_st2, j_k1, j_ci, j_fin, j_sh, j_shl, Option.map_some, Option.map_none, Option.toList_some, Option.toList_none, List.cons_append, List.nil_append, List.map_cons, List.map_nil, List.sum_cons, List.sum_nil, Value.category, List.getElem?_cons_zero, List.getElem?_cons_succ, List.length_cons, List.length_nil, true_and, and_true, if_true, if_false, ↓reduceIte, Bool.false_eq_true, Bool.true_eq_false, reduceCtorEq, Nat.reduceAdd, Nat.reduceLT, Nat.reduceLeDiff, Nat.reduceEqDiff, Nat.reduceBEq, Int.cast_ofNat_Int, Int.reduceAdd, Int.reduceNeg, Int.reduceSub, Int.reduceToNat, Int.reduceLE, Nat.zero_le, false_implies, implies_true, beq_self_eq_true, Bool.and_true, Bool.and_false, Bool.or_false, Bool.false_or, Bool.or_true, Bool.true_or, Bool.and_self, Bool.or_self, Nat.zero_add, Nat.add_zero, or_false, or_true, true_or, false_or, j_b0, ↓j_b1, j_b2, ↓j_b3, j_01, j_inb, and_self, Classical.not_not, Int32.reduceLE, Int32.reduceLT, Int32.reduceAdd, j_ne, eq_self, not_true_eq_false, not_false_eq_true, forall_const, and_false, false_and, j_sc, j_ent, Nat.reduceSub, List.replicate_zero, List.replicate_succ, a7]
    refine ⟨fun z => Or.inl ⟨fun w => by have := e40.mp z; omega, rfl, rfl⟩, fun z => ?_⟩
    have hq : nq < 40 := by
      have : ¬ nq = 40 := fun w => z (e40.mpr w)
      omega
    refine j_use1 (f_X10_isAlive ν p kn) (by decide) ?_
    simp only [qX10_piece, j_f10, j_m10, j_ty, tyX10, ↓j_kt, ↓j_sel, ↓j_run_0, ↓j_run_s, ↓j_wp, ↓j_pi, ↓j_pii, ↓j_pl, ↓j_pll, ↓j_pli, ↓j_pr, ↓j_pri, ↓j_prii, ↓j_pvr, ↓j_pop, ↓j_gi, ↓j_gl, ↓j_ga, ↓j_ob, ↓j_ar, ↓j_fd, ↓j_fo, ↓j_mo, ↓j_br, ↓j_to, ↓j_lo, ↓j_scr, ↓j_co, ↓j_no, j_nf, j_rt, j_ld, j_st1, j_st2, j_k1, j_ci, j_fin, j_sh, j_shl, Option.map_some, Option.map_none, Option.toList_some, Option.toList_none, List.cons_append, List.nil_append, List.map_cons, List.map_nil, List.sum_cons, List.sum_nil, Value.category, List.getElem?_cons_zero, List.getElem?_cons_succ, List.length_cons, List.length_nil, true_and, and_true, if_true, if_false, ↓reduceIte, Bool.false_eq_true, Bool.true_eq_false, reduceCtorEq, Nat.reduceAdd, Nat.reduceLT, Nat.reduceLeDiff, Nat.reduceEqDiff, Nat.reduceBEq, Int.cast_ofNat_Int, Int.reduceAdd, Int.reduceNeg, Int.reduceSub, Int.reduceToNat, Int.reduceLE, Nat.zero_le, false_implies, implies_true, beq_self_eq_true, Bool.and_true, Bool.and_false, Bool.or_false, Bool.false_or, Bool.or_true, Bool.true_or, Bool.and_self, Bool.or_self, Nat.zero_add, Nat.add_zero, or_false, or_true, true_or, false_or, j_b0, ↓j_b1, j_b2, ↓j_b3, j_01, j_inb, and_self, Classical.not_not, Int32.reduceLE, Int32.reduceLT, Int32.reduceAdd, j_ne, eq_self, not_true_eq_false, not_false_eq_true, forall_const, and_false, false_and, j_sc, j_ent, Nat.reduceSub, List.replicate_zero, List.replicate_succ]
    refine ⟨fun z => Or.inl ⟨fun w => z w.2.1, rfl, rfl⟩, fun ha => ?_⟩
    refine j_use1 (f_X10_isMaster ν p kn) (by decide) ?_
    simp only [qX10_piece, j_f10, j_m10, j_ty, tyX10, ↓j_kt, ↓j_sel, ↓j_run_0, ↓j_run_s, ↓j_wp, ↓j_pi, ↓j_pii, ↓j_pl, ↓j_pll, ↓j_pli, ↓j_pr, ↓j_pri, ↓j_prii, ↓j_pvr, ↓j_pop, ↓j_gi, ↓j_gl, ↓j_ga, ↓j_ob, ↓j_ar, ↓j_fd, ↓j_fo, ↓j_mo, ↓j_br, ↓j_to, ↓j_lo, ↓j_scr, ↓j_co, ↓j_no, j_nf, j_rt, j_ld, j_st1, j_st2, j_k1, j_ci, j_fin, j_sh, j_shl, Option.map_some, Option.map_none, Option.toList_some, Option.toList_none, List.cons_append, List.nil_append, List.map_cons, List.map_nil, List.sum_cons, List.sum_nil, Value.category, List.getElem?_cons_zero, List.getElem?_cons_succ, List.length_cons, List.length_nil, true_and, and_true, if_true, if_false, ↓reduceIte, Bool.false_eq_true, Bool.true_eq_false, reduceCtorEq, Nat.reduceAdd, Nat.reduceLT, Nat.reduceLeDiff, Nat.reduceEqDiff, Nat.reduceBEq, Int.cast_ofNat_Int, Int.reduceAdd, Int.reduceNeg, Int.reduceSub, Int.reduceToNat, Int.reduceLE, Nat.zero_le, false_implies, implies_true, beq_self_eq_true, Bool.and_true, Bool.and_false, Bool.or_false, Bool.false_or, Bool.or_true, Bool.true_or, Bool.and_self, Bool.or_self, Nat.zero_add, Nat.add_zero, or_false, or_true, true_or, false_or, j_b0, ↓j_b1, j_b2, ↓j_b3, j_01, j_inb, and_self, Classical.not_not, Int32.reduceLE, Int32.reduceLT, Int32.reduceAdd, j_ne, eq_self, not_true_eq_false, not_false_eq_true, forall_const, and_false, false_and, j_sc, j_ent, Nat.reduceSub, List.replicate_zero, List.replicate_succ]
    refine ⟨fun z => Or.inl ⟨fun w => z.2.2.2 w.2.2, rfl, rfl⟩, fun hm => ?_⟩
    have hp : g_has (ν 42 2) p := ⟨ha.1, ha.2.1⟩
    have pc : q_pc ν nq p := ⟨hq, ha, Classical.byContradiction (fun w => hm ⟨ha.1, ha.2.1, ha.2.2, w⟩)⟩
    refine j_use (f_X10_mayCome f f2 h0 k5 hn hT0 hp hnow0 (hv hp)) (by decide) (fun r m1 hq2 => ?_)
    obtain ⟨⟨q1, c1, c2, q2, q3, rfl⟩, q4⟩ := hq2
    have zm : z_m ν X L nt ng nq ns f f2 p (ν 42 1) (ν 42 1) (some (if c1 = true then 1 else if c2 = true then 2 else 0)) m1 := ⟨q1, c1, c2, q2, q3, rfl⟩
    generalize (if c1 = true then (1 : Int32) else if c2 = true then 2 else 0) = c at zm
    simp only [qX10_piece, j_f10, j_m10, j_ty, tyX10, ↓j_kt, ↓j_sel, ↓j_run_0, ↓j_run_s, ↓j_wp, ↓j_pi, ↓j_pii, ↓j_pl, ↓j_pll, ↓j_pli, ↓j_pr, ↓j_pri, ↓j_prii, ↓j_pvr, ↓j_pop, ↓j_gi, ↓j_gl, ↓j_ga, ↓j_ob, ↓j_ar, ↓j_fd, ↓j_fo, ↓j_mo, ↓j_br, ↓j_to, ↓j_lo, ↓j_scr, ↓j_co, ↓j_no, j_nf, j_rt, j_ld, j_st1, j_st2, j_k1, j_ci, j_fin, j_sh, j_shl, Option.map_some, Option.map_none, Option.toList_some, Option.toList_none, List.cons_append, List.nil_append, List.map_cons, List.map_nil, List.sum_cons, List.sum_nil, Value.category, List.getElem?_cons_zero, List.getElem?_cons_succ, List.length_cons, List.length_nil, true_and, and_true, if_true, if_false, ↓reduceIte, Bool.false_eq_true, Bool.true_eq_false, reduceCtorEq, Nat.reduceAdd, Nat.reduceLT, Nat.reduceLeDiff, Nat.reduceEqDiff, Nat.reduceBEq, Int.cast_ofNat_Int, Int.reduceAdd, Int.reduceNeg, Int.reduceSub, Int.reduceToNat, Int.reduceLE, Nat.zero_le, false_implies, implies_true, beq_self_eq_true, Bool.and_true, Bool.and_false, Bool.or_false, Bool.false_or, Bool.or_true, Bool.true_or, Bool.and_self, Bool.or_self, Nat.zero_add, Nat.add_zero, or_false, or_true, true_or, false_or, j_b0, ↓j_b1, j_b2, ↓j_b3, j_01, j_inb, and_self, Classical.not_not, Int32.reduceLE, Int32.reduceLT, Int32.reduceAdd, j_ne, eq_self, not_true_eq_false, not_false_eq_true, forall_const, and_false, false_and, j_sc, j_ent, Nat.reduceSub, List.replicate_zero, List.replicate_succ]
    have fr := q4.2.1
    have m2 := fr 2 (by decide) (by decide) (by decide) (by decide) (by decide) (by decide)
    have m3 := fr 3 (by decide) (by decide) (by decide) (by decide) (by decide) (by decide)
    have m6 := fr 6 (by decide) (by decide) (by decide) (by decide) (by decide) (by decide)
    have m64 := q4.1 64 (by decide) (by decide) (by decide) (by decide) (by decide)
    have m65 := q4.1 65 (by decide) (by decide) (by decide) (by decide) (by decide)
    have hrow1 : (m1 42 43).toNatClampNeg < 78 := by
      rcases q4.2.2 with w | w
      · rw [w]; decide
      · rw [w]; exact z_row hrow0
    refine ⟨fun z => ?_, fun z => ?_⟩
    · have hx : q_open m1 nq p = q_open ν nq p := by
        unfold q_open
        rw [m64, m65]
      refine j_go (fun q => q == 51) 10 ?_
      simp only [qX10_piece, j_f10, j_m10, j_ty, tyX10, ↓j_kt, ↓j_sel, ↓j_run_0, ↓j_run_s, ↓j_wp, ↓j_pi, ↓j_pii, ↓j_pl, ↓j_pll, ↓j_pli, ↓j_pr, ↓j_pri, ↓j_prii, ↓j_pvr, ↓j_pop, ↓j_gi, ↓j_gl, ↓j_ga, ↓j_ob, ↓j_ar, ↓j_fd, ↓j_fo, ↓j_mo, ↓j_br, ↓j_to, ↓j_lo, ↓j_scr, ↓j_co, ↓j_no, j_nf, j_rt, j_ld, j_st1, j_st2, j_k1, j_ci, j_fin, j_sh, j_shl, Option.map_some, Option.map_none, Option.toList_some, Option.toList_none, List.cons_append, List.nil_append, List.map_cons, List.map_nil, List.sum_cons, List.sum_nil, Value.category, List.getElem?_cons_zero, List.getElem?_cons_succ, List.length_cons, List.length_nil, true_and, and_true, if_true, if_false, ↓reduceIte, Bool.false_eq_true, Bool.true_eq_false, reduceCtorEq, Nat.reduceAdd, Nat.reduceLT, Nat.reduceLeDiff, Nat.reduceEqDiff, Nat.reduceBEq, Int.cast_ofNat_Int, Int.reduceAdd, Int.reduceNeg, Int.reduceSub, Int.reduceToNat, Int.reduceLE, Nat.zero_le, false_implies, implies_true, beq_self_eq_true, Bool.and_true, Bool.and_false, Bool.or_false, Bool.false_or, Bool.or_true, Bool.true_or, Bool.and_self, Bool.or_self, Nat.zero_add, Nat.add_zero, or_false, or_true, true_or, false_or, j_b0, ↓j_b1, j_b2, ↓j_b3, j_01, j_inb, and_self, Classical.not_not, Int32.reduceLE, Int32.reduceLT, Int32.reduceAdd, j_ne, eq_self, not_true_eq_false, not_false_eq_true, forall_const, and_false, false_and, j_sc, j_ent, Nat.reduceSub, List.replicate_zero, List.replicate_succ]
      refine l_X10_opened (by rw [m6]; exact a7) (by omega) (fun w => ⟨Or.inl rfl, Or.inr ⟨pc, c, m1, zm, q4, Or.inl ⟨Or.inr (Or.inl (by rw [← hx]; exact w)), rfl, e_78.rf _⟩⟩⟩) (fun w => ?_) nq 0 (by omega) rfl
      exact l_X10_made (by rw [m2]; exact a1) a2 (by rw [m3]; exact a3) a4 (by rw [m6]; exact a7) hq ha.1 (by grind) hrow1 (fun k hk => (hG k hk).trans (q_fit_z q4 np nt p (nI k)).symm)
        (fun m w1 w2 => ⟨Or.inr rfl, Or.inr ⟨pc, c, m1, zm, q4, Or.inl ⟨Or.inr (Or.inr w1), rfl, w2⟩⟩⟩)
        (fun m b0 b1 b2 w3 d0 d1 d2 w4 => ⟨Or.inr rfl, Or.inr ⟨pc, c, m1, zm, q4, Or.inr ⟨⟨z, by rw [← hx]; exact w, w3⟩, rfl, b0, b1, b2, d0, d1, d2, w4⟩⟩⟩)
    · exact Or.inr ⟨pc, c, m1, zm, q4, Or.inl ⟨Or.inl z, rfl, e_78.rf _⟩⟩
  · rcases hq.1 with rfl | rfl
    · exact ⟨[], by simp⟩
    · exact ⟨_, rfl⟩
