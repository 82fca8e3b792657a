/-! GuildHouse.look -/
set_option maxRecDepth 100000 in
set_option maxHeartbeats 4000000 in
theorem v_good (μ : j_M) (i k : Int32) (hn : μ 8 6 ≤ 100) (hok : v_ok μ i k) : j_J cX9_look 9 3 (some .int) false 10 none (fun r sh m => sh = j_SH ∧ m = μ ∧ v_ok μ i k ∧ r = some (v_at μ i k)) j_SH 0 0 0 [some (.ref 0), some (.int i), some (.int k)] [] μ := by
  obtain ⟨⟨h0, h1⟩, h2, h3⟩ := id hok
  refine j_go (fun q => q == 11 || q == 120) 40 ?_
  simp only [qX9_look, j_f9, j_m9, j_ty, tyX9, ↓j_kt, ↓j_sel, ↓j_run_0, ↓j_run_s, ↓j_wp, ↓j_pi, ↓j_pii, ↓j_pl, ↓j_pll, ↓j_pli, ↓j_pr, ↓j_pri, ↓j_prii, ↓j_pvr, ↓j_pop, ↓j_gi, ↓j_gl, ↓j_ga, ↓j_ob, ↓j_ar, ↓j_fd, ↓j_fo, ↓j_mo, ↓j_br, ↓j_to, ↓j_lo, ↓j_scr, ↓j_co, ↓j_no, j_nf, j_rt, j_ld, j_st1, j_st2, j_k1, j_ci, j_fin, j_sh, j_shl, Option.map_some, Option.map_none, Option.toList_some, Option.toList_none, List.cons_append, List.nil_append, List.map_cons, List.map_nil, List.sum_cons, List.sum_nil, Value.category, List.getElem?_cons_zero, List.getElem?_cons_succ, List.length_cons, List.length_nil, true_and, and_true, if_true, if_false, ↓reduceIte, Bool.false_eq_true, Bool.true_eq_false, reduceCtorEq, Nat.reduceAdd, Nat.reduceLT, Nat.reduceLeDiff, Nat.reduceEqDiff, Nat.reduceBEq, Int.cast_ofNat_Int, Int.reduceAdd, Int.reduceNeg, Int.reduceSub, Int.reduceToNat, Int.reduceLE, Nat.zero_le, false_implies, implies_true, beq_self_eq_true, Bool.and_true, Bool.and_false, Bool.or_false, Bool.false_or, Bool.or_true, Bool.true_or, Bool.and_self, Bool.or_self, Nat.zero_add, Nat.add_zero, or_false, or_true, true_or, false_or, j_b0, ↓j_b1, j_b2, ↓j_b3, j_01, j_inb, and_self, Classical.not_not, Int32.reduceLE, Int32.reduceLT, Int32.reduceAdd, j_ne, eq_self, not_true_eq_false, not_false_eq_true, forall_const, and_false, false_and, j_sc, j_ent, Nat.reduceSub, List.replicate_zero, List.replicate_succ]
  refine j_use1 (f_X7_has μ i) (by decide) ?_
  rw [if_pos ⟨h0, h1⟩]
  simp only [qX9_look, j_f9, j_m9, j_ty, tyX9, ↓j_kt, ↓j_sel, ↓j_run_0, ↓j_run_s, ↓j_wp, ↓j_pi, ↓j_pii, ↓j_pl, ↓j_pll, ↓j_pli, ↓j_pr, ↓j_pri, ↓j_prii, ↓j_pvr, ↓j_pop, ↓j_gi, ↓j_gl, ↓j_ga, ↓j_ob, ↓j_ar, ↓j_fd, ↓j_fo, ↓j_mo, ↓j_br, ↓j_to, ↓j_lo, ↓j_scr, ↓j_co, ↓j_no, j_nf, j_rt, j_ld, j_st1, j_st2, j_k1, j_ci, j_fin, j_sh, j_shl, Option.map_some, Option.map_none, Option.toList_some, Option.toList_none, List.cons_append, List.nil_append, List.map_cons, List.map_nil, List.sum_cons, List.sum_nil, Value.category, List.getElem?_cons_zero, List.getElem?_cons_succ, List.length_cons, List.length_nil, true_and, and_true, if_true, if_false, ↓reduceIte, Bool.false_eq_true, Bool.true_eq_false, reduceCtorEq, Nat.reduceAdd, Nat.reduceLT, Nat.reduceLeDiff, Nat.reduceEqDiff, Nat.reduceBEq, Int.cast_ofNat_Int, Int.reduceAdd, Int.reduceNeg, Int.reduceSub, Int.reduceToNat, Int.reduceLE, Nat.zero_le, false_implies, implies_true, beq_self_eq_true, Bool.and_true, Bool.and_false, Bool.or_false, Bool.false_or, Bool.or_true, Bool.true_or, Bool.and_self, Bool.or_self, Nat.zero_add, Nat.add_zero, or_false, or_true, true_or, false_or, j_b0, ↓j_b1, j_b2, ↓j_b3, j_01, j_inb, and_self, Classical.not_not, Int32.reduceLE, Int32.reduceLT, Int32.reduceAdd, j_ne, eq_self, not_true_eq_false, not_false_eq_true, forall_const, and_false, false_and, j_sc, j_ent, Nat.reduceSub, List.replicate_zero, List.replicate_succ, j_tab, j_ti, Int.reduceSub, Array.toList, List.length]
  have hi : i < 100 := by grind
  unfold v_at
  grind
/-- behind a call, by hand -/
theorem v_after {sh : List j_S} {mc1 ms1 pc : Nat} {rest : List Value} {st0 : List Value} {μ : j_M} {a : Array Value} {Q1 : j_Q}
    {p : Program} {l : Launch} {e : Env} {R : Room} {s : State} {m : MethodId} {args : Array Value} {below : List Frame} {meth : Method} {c : Code} {D : va_G} {cA : FieldType → ClassId} {A : Nat → Prop} {α : Nat → Nat} {H : Heap} {locs : List Loc} {cells slots : Nat} {lr : Array Slot} {QF : State → Prop}
    (h2 : j_Wd D cA A α sh μ s H locs)
    (hK : ∀ (r : Option Int32) (sh' : List j_S) (μ' : j_M) (α' : Nat → Nat) (H' : Heap) (locs' : List Loc), Q1 r sh' μ' → sh.length ≤ sh'.length → (∀ k, k < sh.length ∨ k = j_sc → α' k = α k) → j_Wd D cA A α' sh' μ' s H' locs' → W p l e R s m args below meth c H' locs' (cells + mc1) (slots + ms1) QF (F0 m (pc + 3) lr ((r.map Value.int).toList ++ rest)))
    (hr : va_Run p l e R s m args below meth c H locs cells slots mc1 ms1 (F0 m pc lr st0) rest (j_Qe D cA α sh.length (va_A (j_w cA α sh μ) H.size) Q1 a) (va_A (j_w cA α sh μ) H.size)) :
    W p l e R s m args below meth c H locs cells slots QF (F0 m pc lr st0) := by
  obtain ⟨wK, wP, wD, wS, wA, wN⟩ := h2
  have hF : ∀ q, va_A (j_w cA α sh μ) H.size q → A q := by
    intro q hq
    rcases hq with ⟨k, x, hq⟩ | hq
    · exact wD.2 k (q, x) hq
    · exact wA q (Nat.le_trans wS.1 hq)
  intro T hT X
  obtain ⟨v, st₀, t, T', L, h0, X', hL, e1, e2, ⟨⟨r, sh', μ', α', hv, hq, hle, hα, hP1, hK1, hD1⟩, hz, hk⟩, st⟩ := hr T hT X
  rw [h0] at hz hk
  have hv' : v = r.map Value.int := by cases hv; rfl
  subst hv'
  have hAl : s.vm.Alike t.vm := by rw [← e2]; exact X'.warmed.alike
  obtain ⟨t2, a1, b1⟩ := hK r sh' μ' α' T'.heap (locs ++ L) hq hle hα
    ⟨va_K.moved hAl.symm hK1, by rw [e1]; exact hP1, hD1.weaken (fun k q _ h => hF q.1 h), ⟨Nat.le_trans wS.1 (by rw [e1]; exact hz), fun q g1 g2 => by
        rw [e1, hk q (Nat.lt_of_lt_of_le g1 wS.1) (fun z => g2 (hF q z))]
        exact wS.2.1 q g1 g2, fun q hq' => by
        rcases List.mem_append.mp hq' with h | h
        · exact wS.2.2 q h
        · exact hF _ (hL q h)⟩, wA, wN⟩ T' rfl X'
  exact ⟨t2, st t2 a1, b1⟩
theorem v_hat {args : Array Value} {s : State} (hts : ∀ w ∈ j_G, w.before args s = true) (hN : ∀ w ∈ v_Nl, va_Nw w s) : ∀ w ∈ vx_atS RX9 236 v_E v_nm, w.before args s = true :=
  vx_hat (fun w hw => hts w (j_in (of_decide_eq_true (List.all_eq_true.mp v_gd_in w hw)) (List.mem_filter.mp hw).2)) (fun w hw => hw) (fun w hw => (hN w hw).use (v_Nl_tab hw))
set_option maxRecDepth 100000 in
set_option maxHeartbeats 4000000 in
/-- it throws -/
theorem v_bad {μ : j_M} {i k : Int32} (hno : ¬ v_ok μ i k) {p : Program} {l : Launch} {e : Env} {s : State} {m : MethodId} {args : Array Value} {below : List Frame} {meth : Method} {c : Code} {D : va_G} {cA : FieldType → ClassId} {α : Nat → Nat} {lr : Array Slot} {Qc : Array Value → State → Outcome → State → Prop}
    (hl : l.stackTraces = false) (hout : ∀ x ∈ c.exceptionTable.toList, False)
    (h1 : j_Ctx cX9_look 9 3 (some .int) false 10 p (j_rm 10 1 6) s m args meth c) (h2 : j_Wd D cA (va_A (j_w cA α j_SH μ) s.heap.size) α j_SH μ s s.heap []) (h5 : j_Lr α j_SH.length 3 [some (.ref 0), some (.int i), some (.int k)] lr)
    (hF : v_F (va_A (j_w cA α j_SH μ) s.heap.size) s s.heap) :
    W p l e (j_rm 10 1 6) s m args below meth c s.heap [] 0 0 (vx_MQ below Qc (v_XC D cA α μ s.heap.size (¬ v_ok μ i k)) args s 1 6 (va_A (j_w cA α j_SH μ) s.heap.size)) (F0 m 0 lr []) := by
  have hts := h1.2.2.2.2.2.2.2.1
  have hown : s.vm.findClass RX9 = some m.cls := h1.2.2.2.2.2.2.1
  have l0 := (h5.get (i := 0) (v := .ref 0) rfl).1
  have l1 := (h5.get (i := 1) (v := .int i) rfl).1
  have l2 := (h5.get (i := 2) (v := .int k) rfl).1
  have hsize : lr.size = c.maxLocals := h5.1.trans h1.2.2.1.symm
  obtain ⟨wK, wP, wD, wS, wA, wN⟩ := id h2
  refine lv_aload_n h1.1 h1.2.1 dX9_look_0 rfl l0 ?_
  obtain ⟨C, T, N, g1, g2, g3, g4, g5⟩ := j_fl_ok (show j_fl 9 19 = some (9, 1, true) by decide +kernel)
  have he := j_w_get (cA := cA) (α := α) (μ := μ) (sh := j_SH) (k := 0) rfl
  refine va_get (v := .ref (α 8)) h1.1 h1.2.1 hts (j_inF (j_cf 9 C T N g1).1) hown wK wP 0 he g1 1 g2 (hts _ (j_in g5 rfl)) (fun x hx => by rw [g3] at hx; exact hx) (by rw [List.getElem?_mapIdx]; rfl) dX9_look_1 ?_
  refine lv_iload_n h1.1 h1.2.1 dX9_look_4 rfl l1 ?_
  obtain ⟨cc1, maxL, ret1, hcode, hmax, hMet⟩ := f_X7_has μ i
  obtain ⟨m1, m2, m3, m4, m5, m6, m7, m8⟩ := j_ml_ok (show j_ml 9 119 = some (yX7_has, 1, false, 7) by decide +kernel)
  have hM := hMet (by
    intro v hv q hq
    simp only [List.mem_cons, List.not_mem_nil, or_false] at hv
    rcases hv with rfl | rfl
    · cases hq; exact Or.inl (by decide)
    · cases hq) l D cA α s.heap.size
  have hr := va_runV (p := p) (l := l) (e := e) (R := j_rm 10 1 6) (s := s) (m := m) (args := args) (below := below) (meth := meth) (c := c) (H := s.heap) (locs := []) (cells := 0) (slots := 0) (C := yX7_has.cls) (As := [.int i]) (rest := []) (b := α 8) (g := F0 m 5 lr [.int i, .ref (α 8)])
    ⟨h1.1, h1.2.1, h1.2.2.1, hown, hts⟩ hM ⟨j_callB hts hcode hmax m1 m4 ⟨m5, m6, m8⟩ (by decide) (by decide), hts _ (j_in m2 rfl), hts _ (j_in m3 rfl)⟩
    ⟨j_blind, by rw [← m7]; exact j_recv wK wP (show j_SH[8]? = some (.inr (7, _)) from rfl), (j_pre (y := yX7_has) (as := [.ref 8, .int i]) h2).2⟩ rfl rfl h5.1 rfl (by show 2 * 0 + _ ≤ 8; simp) dX9_look_5 ⟨by decide, by decide⟩
  refine v_after (sh := j_SH) (rest := []) h2 ?_ hr
  intro r sh' μ' α' H' locs' hq hle hα hW'
  obtain ⟨rfl, rfl, e3⟩ := hq
  rw [e3] at hW'
  obtain ⟨wK', wP', wD', wS', wA', wN'⟩ := hW'
  have hx : ∀ t : State, s.vm.Alike t.vm → H'.size ≤ t.heap.size → (∀ q : Nat, q < H'.size → t.heap[q]? = H'[q]?) → v_XC D cA α μ s.heap.size (¬ v_ok μ i k) v_E s t := fun t hal g1 g2 =>
    ⟨rfl, hno, ⟨none, j_SH, μ, α', rfl, ⟨rfl, rfl, rfl⟩, Nat.le_refl _, hα, wP'.kept (fun z q hk => g2 q.1 (vx_lt wP' hk)), va_K.moved hal wK', wD'⟩, ⟨Nat.le_trans wS'.1 g1, fun q hq hA => by rw [g2 q (Nat.lt_of_lt_of_le hq wS'.1)]; exact wS'.2.1 q hq hA⟩⟩
  have hat := v_hat hts hF.2.2.2.2
  have hgood := fun w hw => List.all_eq_true.mp v_ot_in w hw
  have hck : (Cond.classLink RX9 232 v_E).before args s = true := hts _ (j_in (by decide +kernel) rfl)
  have hci : (Cond.initialized v_E).before args s = true := hts _ (j_in (by decide +kernel) rfl)
  refine lv_if_ne (tgt := 21) h1.1 h1.2.1 dX9_look_8 rfl (fun hne => ?_) (fun he => ?_)
  · have hh : 0 ≤ i ∧ i < μ 8 6 := Classical.byContradiction fun hc => hne (if_neg hc)
    have hk : ¬ (0 ≤ k ∧ k ≤ 5) := fun z => hno ⟨hh, z⟩
    rw [Int32.le_iff_toInt_le, Int32.le_iff_toInt_le] at hk
    have k0 : (0 : Int32).toInt = 0 := rfl
    have k5 : (5 : Int32).toInt = 5 := rfl
    refine lv_iload_n h1.1 h1.2.1 dX9_look_21 rfl l2 ?_
    refine lv_tableOut (tgt := 120) h1.1 h1.2.1 dX9_look_22 (by omega) rfl ?_
    obtain ⟨sa, hsa⟩ := hF.2.2.2.1
    exact vx_throwSW (own := RX9) (cls := v_E) (names := v_nm) (ik := 232) (is := 257) (ic := 236) (sa := sa) (A := va_A (j_w cA α j_SH μ) s.heap.size) h1.1 h1.2.1 hl hown (by decide +kernel) (by decide +kernel) hck hci hsa hat hgood hF.1 hF.2.1 wS' hsize dX9_look_120 dX9_look_123 dX9_look_124 dX9_look_127 dX9_look_130 (fun x hx => (hout x hx).elim) (by decide) (by decide) (by decide) (by decide) h1.2.2.2.2.1 hx wS'.2.2 (by decide) (by decide)
  · obtain ⟨sa, hsa⟩ := hF.2.2.1
    exact vx_throwS (own := RX9) (cls := v_E) (names := v_nm) (ik := 232) (is := 234) (ic := 236) (sa := sa) (A := va_A (j_w cA α j_SH μ) s.heap.size) h1.1 h1.2.1 hl hown (by decide +kernel) (by decide +kernel) hck hci hsa hat hgood hF.1 hF.2.1 wS' hsize dX9_look_11 dX9_look_14 dX9_look_15 dX9_look_17 dX9_look_20 (fun x hx => (hout x hx).elim) (by decide) (by decide) (by decide) (by decide) h1.2.2.2.2.1 hx wS'.2.2 (by decide) (by decide)
set_option maxRecDepth 100000 in
set_option maxHeartbeats 4000000 in
theorem v_X9 {l : Launch} (hl : l.stackTraces = false) (D : va_G) (cA : FieldType → ClassId) (α : Nat → Nat) (sz : Nat) (μ : j_M) (i k : Int32) (hn : μ 8 6 ≤ 100) :
    vx_Met l yX9_look (.code yX9_look cX9_look 3 (some .int) :: j_G) (j_rm 10 1 6) (v_Pc D cA α μ [.ref 0, .int i, .int k] sz) (j_Qe D cA α j_SH.length (va_A (j_w cA α j_SH μ) sz) (fun r sh m => sh = j_SH ∧ m = μ ∧ v_ok μ i k ∧ r = some (v_at μ i k))) (v_XC D cA α μ sz (¬ v_ok μ i k)) 1 6 (va_A (j_w cA α j_SH μ) sz) := by
  refine vx_ofW (cc := cX9_look) (maxL := 3) (ret := some .int) (by decide +kernel) rfl ?_
  intro p e s m args below meth c s₁ B hml hout hv
  obtain ⟨⟨rfl, hsz, hP, hK, hD0, hN0⟩, hF⟩ := hv
  have hts := atoms_spec (ws := .code yX9_look cX9_look 3 (some .int) :: j_G) B.pre
  have hown : s.vm.findClass yX9_look.cls = some m.cls := findClass_of_methodNamed B.named
  subst hsz
  have h1 : j_Ctx cX9_look 9 3 (some .int) false 10 p (j_rm 10 1 6) s m (([.ref 0, .int i, .int k] : List Value).map (j_rn α)).toArray meth c := ⟨B.exec, B.bytes, hml, B.returns, B.notSynchronized, (fun h => by cases h), hown, fun w hw => hts w (List.mem_cons_of_mem _ hw), Nat.le_refl _, Nat.le_refl _⟩
  have h2 : j_Wd D cA (va_A (j_w cA α j_SH μ) s.heap.size) α j_SH μ s s.heap [] := ⟨hK, hP, hD0.self, va_S.rf, fun q hq => Or.inr hq, hN0⟩
  have hl' := lv_entry (([.ref 0, .int i, .int k] : List Value).map (j_rn α)) (n := 3) (Nat.le_of_ble_eq_true rfl)
  rw [lg_entry_eq]
  generalize (lg_sl (([.ref 0, .int i, .int k] : List Value).map (j_rn α)) ++ List.replicate (3 - (lg_sl (([.ref 0, .int i, .int k] : List Value).map (j_rn α))).length) Slot.unset).toArray = lr at hl' ⊢
  have hls : lv_has lr 3 [(0, .ref (α 0)), (1, .int i), (2, .int k)] := hl'
  have h5 : j_Lr α j_SH.length 3 [some (.ref 0), some (.int i), some (.int k)] lr := by
    refine ⟨hls.1, hls.2.1, rfl, fun j v hv => ?_⟩
    match j, hv with
    | 0, hv => cases hv; exact ⟨hls.2.2 (0, .ref (α 0)) (by simp), fun q hq => by cases hq; exact Or.inl (by decide)⟩
    | 1, hv => cases hv; exact ⟨hls.2.2 (1, .int i) (by simp), fun q hq => by cases hq⟩
    | 2, hv => cases hv; exact ⟨hls.2.2 (2, .int k) (by simp), fun q hq => by cases hq⟩
    | j + 3, hv => simp at hv
  by_cases hok : v_ok μ i k
  · refine vx_ret ?_
    refine ((v_good μ i k hn hok).room (Nat.zero_le 1) (Nat.zero_le 6)) p l e (j_rm 10 1 6) s m _ below meth c D cA _ α s.heap [] 0 0 lr _ h1 h2 (by decide) (by decide) h5 (fun v hv => by cases hv) trivial ?_
    intro r sh' μ' α' H' locs' cells' slots' lr' pc' hq hle hα hW hc1 hc2 hr0 hr1
    obtain ⟨wK, wP, wD, wS, wA, wN⟩ := hW
    have hfin : ∀ t : State, t.heap = H' → s.WarmedH t.vm → j_Qe D cA α j_SH.length (va_A (j_w cA α j_SH μ) s.heap.size) (fun r sh m => sh = j_SH ∧ m = μ ∧ v_ok μ i k ∧ r = some (v_at μ i k)) (([.ref 0, .int i, .int k] : List Value).map (j_rn α)).toArray s (.returned (r.map Value.int)) t := by
      intro t ht hw
      exact ⟨⟨r, sh', μ', α', rfl, hq, hle, hα, by rw [ht]; exact wP, va_K.moved hw.alike wK, wD⟩, wS.F ht⟩
    refine W.widen (k := 1) (n := 6) hc1 hc2 ?_
    cases r with
    | none => obtain ⟨-, -, -, h⟩ := hq; cases h
    | some v =>
      obtain ⟨e1, ty, e2, e3⟩ := hr1 v rfl
      exact W.zret B.exec B.bytes (by rw [B.returns]; exact e2) e3 hfin wS.2.2 e1
  · exact v_bad hok hl hout h1 h2 h5 hF
