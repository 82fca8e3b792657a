/-! the law's own look, which catches -/
def v_LQ (μ : j_M) (i k : Int32) : j_Q := fun r sh m => sh = j_SH ∧ ((v_ok μ i k ∧ r = some 0 ∧ m = j_up μ 77 0 (v_at μ i k)) ∨ (¬ v_ok μ i k ∧ r = some 1 ∧ m = μ))
theorem v_lst {cA : FieldType → ClassId} {α : Nat → Nat} {sh : List j_S} {μ : j_M} {a n : Nat} (ha : sh[a]? = some (.inl (.long, n))) (i : Nat) (x : Int32) : (j_w cA α sh μ).set a (α a, .inl (cA .long, n, .inr (.inl (vp_updL (fun j => (μ a j).toInt64) i x.toInt64)))) = j_w cA α sh (j_up μ a i x) := by
  have e : vp_updL (fun j => (μ a j).toInt64) i x.toInt64 = fun j => (upd (μ a) i x j).toInt64 := by
    funext j
    unfold vp_updL upd
    split <;> rfl
  rw [e]
  exact (j_w_row ha _).symm
theorem v_LG : GoodIn j_G (va_wsS RL 126 yL_look (.codeWith yL_look cL_look 5 (some .int) [(0, 10, 13, 13)] :: j_G)) := by
  intro w hw
  unfold va_wsS at hw
  rcases List.mem_append.mp hw with hw | hw
  · refine j_goodIn w ?_
    simp only [List.mem_cons, List.not_mem_nil, or_false] at hw
    rcases hw with rfl | rfl | rfl <;> exact j_in (by decide +kernel) rfl
  · rcases List.mem_cons.mp hw with rfl | hw
    · exact j_goodIn _ (j_in (by decide +kernel) rfl)
    · exact j_goodIn w hw
set_option maxRecDepth 100000 in
set_option maxHeartbeats 4000000 in
theorem v_L {l : Launch} (hl : l.stackTraces = false) (D : va_G) (cA : FieldType → ClassId) (α : Nat → Nat) (sz : Nat) (μ : j_M) (i k : Int32) (hn : μ 8 6 ≤ 100) :
    vx_Met l yL_look (.codeWith yL_look cL_look 5 (some .int) [(0, 10, 13, 13)] :: j_G) (j_rm 12 1 6) (v_Pc D cA α μ [.ref 0, .int i, .int k, .ref 77] sz) (j_Qe D cA α j_SH.length (va_A (j_w cA α j_SH μ) sz) (v_LQ μ i k)) (fun _ _ _ => False) 1 6 (va_A (j_w cA α j_SH μ) sz) := by
  refine vx_ofWH (cc := cL_look) (maxL := 5) (ret := some .int) (hh := [(0, 10, 13, 13)]) (by decide +kernel) rfl ?_
  intro p e s m args below meth c s₁ B hml hv
  obtain ⟨⟨rfl, hsz, hP, hK, hD0, hN0⟩, hF⟩ := hv
  have hts0 := atoms_spec (ws := .codeWith yL_look cL_look 5 (some .int) [(0, 10, 13, 13)] :: j_G) B.pre
  have htab : c.exceptionTable.toList = tableOf [(0, 10, 13, 13)] := vx_table (x := yL_look) B (hts0 _ List.mem_cons_self)
  have hts : ∀ w ∈ j_G, w.before (([.ref 0, .int i, .int k, .ref 77] : List Value).map (j_rn α)).toArray s = true := fun w hw => hts0 w (List.mem_cons_of_mem _ hw)
  have hown : s.vm.findClass RL = some m.cls := findClass_of_methodNamed B.named
  subst hsz
  have h2 : j_Wd D cA (va_A (j_w cA α j_SH μ) s.heap.size) α j_SH μ s s.heap [] := ⟨hK, hP, hD0.self, va_S.rf, fun q hq => Or.inr hq, hN0⟩
  have hl' := lv_entry (([.ref 0, .int i, .int k, .ref 77] : List Value).map (j_rn α)) (n := 5) (Nat.le_of_ble_eq_true rfl)
  rw [lg_entry_eq]
  generalize (lg_sl (([.ref 0, .int i, .int k, .ref 77] : List Value).map (j_rn α)) ++ List.replicate (5 - (lg_sl (([.ref 0, .int i, .int k, .ref 77] : List Value).map (j_rn α))).length) Slot.unset).toArray = lr at hl' ⊢
  have hls : lv_has lr 5 [(0, .ref (α 0)), (1, .int i), (2, .int k), (3, .ref (α 77))] := hl'
  refine lv_aload_n B.exec B.bytes dL_look_0 rfl (hls.2.2 (3, .ref (α 77)) (by simp)) ?_
  refine lv_iconst (v := 0) B.exec B.bytes dL_look_1 (by decide) ?_
  refine lv_aload_n B.exec B.bytes dL_look_2 rfl (hls.2.2 (0, .ref (α 0)) (by simp)) ?_
  refine lv_iload_n B.exec B.bytes dL_look_3 rfl (hls.2.2 (1, .int i) (by simp)) ?_
  refine lv_iload_n B.exec B.bytes dL_look_4 rfl (hls.2.2 (2, .int k) (by simp)) ?_
  have hM := v_X9 hl D cA α s.heap.size μ i k hn
  have hr := vx_runV (p := p) (l := l) (e := e) (R := j_rm 12 1 6) (s := s) (m := m) (args := (([.ref 0, .int i, .int k, .ref 77] : List Value).map (j_rn α)).toArray) (below := below) (meth := meth) (c := c) (H := s.heap) (locs := []) (cells := 0) (slots := 0) (own := RL) (C := RX9) (index := 7) (n := 2) (As := [.int i, .int k]) (rest := [.int 0, .ref (α 77)]) (b := α 0) (g := F0 m 5 lr [.int k, .int i, .ref (α 0), .int 0, .ref (α 77)])
    ⟨B.exec, B.bytes, hml, hown, hts⟩ hM ⟨j_callB (o := 11) hts (j_in hX9_look rfl) (by decide) (by decide +kernel) (by decide +kernel) ⟨by decide +kernel, by decide +kernel, by decide +kernel⟩ (by decide) (by decide), hts _ (j_in (by decide +kernel) rfl), hts _ (j_in (by decide +kernel) rfl)⟩
    ⟨v_blind, j_recv (ci := 9) hK hP (show j_SH[0]? = some (.inr (9, _)) from rfl), fun U hU hW => ⟨(j_pre (y := yX9_look) (as := [.ref 0, .int i, .int k]) h2).2 U hU hW, by rw [hU]; exact v_F.moved hW hF⟩⟩ rfl rfl hls.1 rfl (by show 2 * 0 + _ ≤ 8; simp [Value.category]) dL_look_5 ⟨by decide, by decide⟩
  have hfin : ∀ (v : Int32) (μ' : j_M) (α' : Nat → Nat) (H' : Heap) (locs' : List Loc), v_LQ μ i k (some v) j_SH μ' → (∀ z, z < j_SH.length ∨ z = j_sc → α' z = α z) → va_P D j_cls (j_w cA α' j_SH μ') H' → va_K D j_cls (j_tys cA) s → va_D (va_A (j_w cA α j_SH μ) s.heap.size) (j_w cA α' j_SH μ') → va_S (va_A (j_w cA α j_SH μ) s.heap.size) s.heap H' locs' → ∀ t : State, t.heap = H' → s.WarmedH t.vm → j_Qe D cA α j_SH.length (va_A (j_w cA α j_SH μ) s.heap.size) (v_LQ μ i k) (([.ref 0, .int i, .int k, .ref 77] : List Value).map (j_rn α)).toArray s (.returned (some (.int v))) t := by
    intro v μ' α' H' locs' hq hα wP wK wD wS t ht hw
    exact ⟨⟨some v, j_SH, μ', α', rfl, hq, Nat.le_refl _, hα, by rw [ht]; exact wP, va_K.moved hw.alike wK, wD⟩, wS.F ht⟩
  intro T hT X
  rcases hr T hT X with ⟨v, st₀, t, T', L, q0, X', hL, e1, e2, ⟨⟨r, sh', μ', α', hv, hq, hle, hα, hP1, hK1, hD1⟩, hz, hk⟩, st⟩ | ⟨q, st₀, t, T', L, E, ce, q0, X', hL, e1, e2, ⟨rfl, hno, ⟨r, sh', μ', α', hv, hq, hle, hα, hP1, hK1, hD1⟩, hz, hk⟩, hce, hcv, hcl, st⟩
  · obtain ⟨rfl, e3, hok, rfl⟩ := hq
    cases hv
    rw [e3] at hP1 hD1
    rw [q0] at hz hk
    have wS1 : va_S (va_A (j_w cA α j_SH μ) s.heap.size) s.heap T'.heap ([] ++ L) := ⟨by rw [e1]; exact hz, fun q g1 g2 => by rw [e1]; exact hk q g1 g2, fun q hq' => hL q (by simpa using hq')⟩
    have wP1 : va_P D j_cls (j_w cA α' j_SH μ) T'.heap := by rw [e1]; exact hP1
    have e77 : α' 77 = α 77 := hα 77 (Or.inl (by decide))
    have hJ : j_SH[77]? = some (.inl (.long, 1)) := rfl
    have ha : (j_w cA α' j_SH μ)[77]? = some (α' 77, .inl (cA .long, 1, .inr (.inl fun j => (μ 77 j).toInt64))) := j_w_get hJ
    have K : W p l e (j_rm 12 1 6) s m (([.ref 0, .int i, .int k, .ref 77] : List Value).map (j_rn α)).toArray below meth c T'.heap ([] ++ L) (0 + 1) (0 + 6) (vx_MQ below (j_Qe D cA α j_SH.length (va_A (j_w cA α j_SH μ) s.heap.size) (v_LQ μ i k)) (fun _ _ _ => False) (([.ref 0, .int i, .int k, .ref 77] : List Value).map (j_rn α)).toArray s 1 6 (va_A (j_w cA α j_SH μ) s.heap.size)) (F0 m 8 lr [.int (v_at μ i k), .int 0, .ref (α 77)]) := by
      refine lv_i2l B.exec B.bytes dL_look_8 rfl ?_
      rw [← e77]
      refine va_last B.exec B.bytes hK wP1 hD1 wS1 77 4 ha (j_tt cA).2.2.2.2 ((j_inl (N := 1) (n := 1) rfl).mpr ⟨by decide, by decide⟩) dL_look_9 (fun H1 locs1 wP2 wD2 wS2 => ?_)
      have hw := v_lst (cA := cA) (α := α') (μ := μ) hJ 0 (v_at μ i k)
      rw [show Int32.toNatClampNeg 0 = 0 from rfl, hw] at wP2 wD2
      refine lv_goto (tgt := 17) B.exec B.bytes dL_look_10 rfl ?_
      refine lv_iconst (v := 0) B.exec B.bytes dL_look_17 (by decide) ?_
      refine vx_ret ?_
      exact W.zret B.exec B.bytes B.returns rfl (hfin 0 _ α' H1 locs1 ⟨rfl, Or.inl ⟨hok, rfl, rfl⟩⟩ hα wP2 hK wD2 wS2) wS2.2.2 dL_look_18
    obtain ⟨t2, a1, b1⟩ := K T' rfl X'
    exact ⟨t2, st t2 a1, b1⟩
  · obtain ⟨rfl, rfl, e3⟩ := hq
    rw [e3] at hP1 hD1
    rw [q0] at hz hk
    have wS1 : va_S (va_A (j_w cA α j_SH μ) s.heap.size) s.heap T'.heap ([] ++ L) := ⟨by rw [e1]; exact hz, fun q g1 g2 => by rw [e1]; exact hk q g1 g2, fun q hq' => hL q (by simpa using hq')⟩
    have wP1 : va_P D j_cls (j_w cA α' j_SH μ) T'.heap := by rw [e1]; exact hP1
    have hcast : (Cond.castable v_E v_E).before (([.ref 0, .int i, .int k, .ref 77] : List Value).map (j_rn α)).toArray s = true := (hF.2.2.2.2 (.castable v_E v_E) (by decide +kernel)).use rfl
    have K : vx_W p l e (j_rm 12 1 6) s m (([.ref 0, .int i, .int k, .ref 77] : List Value).map (j_rn α)).toArray below meth c T'.heap ([] ++ L) (0 + 1) (0 + 6) (vx_MQ below (j_Qe D cA α j_SH.length (va_A (j_w cA α j_SH μ) s.heap.size) (v_LQ μ i k)) (fun _ _ _ => False) (([.ref 0, .int i, .int k, .ref 77] : List Value).map (j_rn α)).toArray s 1 6 (va_A (j_w cA α j_SH μ) s.heap.size)) (F0 m 5 lr [.int 0, .ref (α 77)]) q := by
      refine vx_catch (own := RL) (name := v_E) (E := v_E) hown ⟨0, 10, 13, 13⟩ htab rfl (by decide) (hts _ (j_in (by decide +kernel) rfl)) hcast (by rw [e1]; exact hce) hcv hcl ?_
      refine lv_astore B.exec B.bytes dL_look_13 hls (by decide) rfl (fun ls' hl2 => ?_)
      refine lv_iconst (v := 1) B.exec B.bytes dL_look_15 (by decide) ?_
      refine vx_ret ?_
      exact W.zret B.exec B.bytes B.returns rfl (hfin 1 _ α' _ _ ⟨rfl, Or.inr ⟨hno, rfl, rfl⟩⟩ hα wP1 hK hD1 wS1) wS1.2.2 dL_look_16
    obtain ⟨t2, a1, b1⟩ := K T' rfl X'
    exact ⟨t2, st.trans a1, b1⟩
theorem v_run {p : Program} {l : Launch} {e : Env} {R : Room} {s : State} {m : MethodId} {args : Array Value} {below : List Frame} {meth : Method} {c : Code} {H : Heap} {locs : List Loc} {cells slots mc ms : Nat} {g : JFrame} {rest : List Value} {Qa : State → Outcome → State → Prop} {free : Addr → Prop} (h : vx_Run p l e R s m args below meth c H locs cells slots mc ms g rest Qa (fun _ _ _ => False) free) : va_Run p l e R s m args below meth c H locs cells slots mc ms g rest Qa free := by
  intro T hT X
  rcases h T hT X with h | ⟨q, st₀, t, T', L, E, ce, a1, a2, a3, a4, a5, a6, -⟩
  · exact h
  · exact a6.elim
set_option maxRecDepth 100000 in
set_option maxHeartbeats 4000000 in
/-- the law's call of it -/
theorem v_law {L mc ms : Nat} {xs : Nat → Int32} {Q : j_Q} {ls : j_L} {μ : j_M} {i k : Int32} (hn : μ 8 6 ≤ 100) (hmc : 1 ≤ mc) (hms : 6 ≤ ms)
    (hK : ∀ r μ', ((v_ok μ i k ∧ r = 0 ∧ μ' = j_up μ 77 0 (v_at μ i k)) ∨ (¬ v_ok μ i k ∧ r = 1 ∧ μ' = μ)) → j_J cL_law 11 7 (some .boolean) false 40 (some (L, xs)) Q j_SH (mc - 1) (ms - 6) 1057 ls [.int r] μ') :
    j_J cL_law 11 7 (some .boolean) false 40 (some (L, xs)) Q j_SH mc ms 1054 ls [.ref 77, .int k, .int i, .ref 0] μ := by
  intro p l e R s m args below meth c D cA A α H locs cells slots lr QF h1 h2 h3 h4 h5 h6 h7 h8
  have hFx : j_Fx l A s := h7.2.2.2
  have hts := h1.2.2.2.2.2.2.2.1
  obtain ⟨wK, wP, wD, wS, wA, wN⟩ := id h2
  have hF : ∀ q, va_A (j_w cA α j_SH μ) H.size q → A q := by
    intro q hq
    rcases hq with ⟨z, x, hq⟩ | hq
    · exact wD.2 z (q, x) hq
    · exact wA q (Nat.le_trans wS.1 hq)
  have hv : v_F (va_A (j_w cA α j_SH μ) H.size) s H := ((v_F.of hFx).kept wS.2.1).narrow hF
  have hM := v_L hFx.1 D cA α H.size μ i k hn
  have hr := vx_runSX (hh := [(0, 10, 13, 13)]) (p := p) (l := l) (e := e) (R := R) (s := s) (m := m) (args := args) (below := below) (meth := meth) (c := c) (H := H) (locs := locs) (cells := cells) (slots := slots) (own := RL) (index := 126) (n := 4) (bytes := cL_look) (maxL := 5) (ret := some .int) (As := [.ref (α 0), .int i, .int k, .ref (α 77)]) (rest := []) (g := F0 m 1054 lr [.ref (α 77), .int k, .int i, .ref (α 0)])
    ⟨h1.1, h1.2.1, h1.2.2.1, h1.2.2.2.2.2.2.1, hts⟩ hM (vx_cwSW 4 hts v_LG rfl rfl rfl ⟨by decide +kernel, by decide +kernel, by decide +kernel⟩ ⟨Nat.le_trans (by decide) h1.2.2.2.2.2.2.2.2.1, Nat.le_trans (by decide) h1.2.2.2.2.2.2.2.2.2⟩)
    ⟨v_blind, fun U hU hW => ⟨(j_pre (y := yL_look) (as := [.ref 0, .int i, .int k, .ref 77]) h2).2 U hU hW, by rw [hU]; exact v_F.moved hW hv⟩⟩ rfl rfl h5.1 rfl (by show 2 * 0 + _ ≤ 8; simp) dL_law_1054 ⟨by omega, by omega⟩
  refine j_after (rest := []) (Q1 := v_LQ μ i k) (mc1 := 1) (ms1 := 6) hmc hms (fun r sh' μ' hq => ?_) h1 h2 h3 h4 h5 (fun v hv => by cases hv) h7 h8 (v_run hr)
  obtain ⟨rfl, hq⟩ := hq
  rcases hq with ⟨a1, rfl, a3⟩ | ⟨a1, rfl, a3⟩
  · exact hK 0 μ' (Or.inl ⟨a1, rfl, a3⟩)
  · exact hK 1 μ' (Or.inr ⟨a1, rfl, a3⟩)
