/-! calls -/
theorem j_cls_nm : ∀ (i : Nat) (q : vw_C), j_cls[i]? = some q → q.1 = j_cn i := by
  intro i q h
  match i, h with
  | 0, h => cases h; rfl
  | 1, h => cases h; rfl
  | 2, h => cases h; rfl
  | 3, h => cases h; rfl
  | 4, h => cases h; rfl
  | 5, h => cases h; rfl
  | 6, h => cases h; rfl
  | 7, h => cases h; rfl
  | 8, h => cases h; rfl
  | 9, h => cases h; rfl
  | 10, h => cases h; rfl
  | n + 11, h => simp [j_cls] at h
theorem j_recv {D : va_G} {cA : FieldType → ClassId} {α : Nat → Nat} {sh : List j_S} {μ : j_M} {s : State} {H : Heap} {a ci : Nat} {ks : List j_K} (hK : va_K D j_cls (j_tys cA) s) (hP : va_P D j_cls (j_w cA α sh μ) H) (ha : sh[a]? = some (.inr (ci, ks))) : ∃ cell : Cell, H[α a]? = some cell ∧ cell.vm.isStatics = false ∧ s.vm.findClass (j_cn ci) = some cell.cls := by
  have he := j_w_get (cA := cA) (α := α) (μ := μ) ha
  obtain ⟨q, h1, -⟩ := hP a _ he
  have h2 := va_recv hK hP h1 he
  rw [j_cls_nm _ _ h1] at h2
  exact h2
theorem j_blind {D : va_G} {cA : FieldType → ClassId} {α : Nat → Nat} {sh : List j_S} {μ : j_M} {as : List Value} {sz : Nat} : FrameBlind (j_Pc D cA α sh μ as sz) := by
  intro a U g mk q
  obtain ⟨q0, q1, qP, qK, qD, qN⟩ := q
  exact ⟨q0, q1, qP, va_K.moved (u := U) (U := U.calling g mk a) (Vm.Alike.refl U.vm) qK, qD, fun w hw => j_NW_same (s := U) (U := U.calling g mk a) hw rfl (qN w hw)⟩
theorem j_wsG {y : MethodName} {cc : ByteArray} {maxL : Nat} {ret : Option FieldType} (h : Cond.code y cc maxL ret ∈ j_G) : GoodIn j_G (.code y cc maxL ret :: j_G) := by
  intro w hw
  rcases List.mem_cons.mp hw with rfl | hw
  · exact j_goodIn _ h
  · exact j_goodIn w hw
/-- behind a call -/
theorem j_after {cc : ByteArray} {o nL : Nat} {ret : Option FieldType} {ini : Bool} {d : Nat} {xs : Option (Nat × (Nat → Int32))} {Q Q1 : j_Q} {sh : List j_S} {mc ms mc1 ms1 pc : Nat} {ls : j_L} {rest st0 : List Value} {μ : j_M} {a : Array Value}
    {p : Program} {l : Launch} {e : Env} {R : Room} {s : State} {m : MethodId} {args : Array Value} {below : List Frame} {meth : Method} {c : Code} {D : va_G} {cA : FieldType → ClassId} {A : Nat → Prop} {α : Nat → Nat} {H : Heap} {locs : List Loc} {cells slots : Nat} {lr : Array Slot} {QF : State → Prop}
    (hmc : mc1 ≤ mc) (hms : ms1 ≤ ms) (hK : ∀ r sh' μ', Q1 r sh' μ' → j_J cc o nL ret ini d xs Q sh' (mc - mc1) (ms - ms1) (pc + 3) ls ((r.map Value.int).toList ++ rest) μ')
    (h1 : j_Ctx cc o nL ret ini d p R s m args meth c) (h2 : j_Wd D cA A α sh μ s H locs) (h3 : cells + mc ≤ R.cells) (h4 : slots + ms ≤ R.slots) (h5 : j_Lr α sh.length nL ls lr) (h6 : ∀ v ∈ rest, j_okv sh.length v) (h7 : j_Xs l xs α A s)
    (h8 : ∀ (r : Option Int32) (sh' : List j_S) (μ' : j_M) (α' : Nat → Nat) (H' : Heap) (locs' : List Loc) (cells' slots' : Nat) (lr' : Array Slot) (pc' : Nat), Q r sh' μ' → sh.length ≤ sh'.length → (∀ k, k < sh.length ∨ k = j_sc → α' k = α k) → j_Wd D cA A α' sh' μ' s H' locs' → cells' ≤ R.cells → slots' ≤ R.slots →
      (r = none → decode cc pc' = .ok (.return_, 1) ∧ ret = none) → (∀ v, r = some v → decode cc pc' = .ok (.ireturn, 1) ∧ ∃ ty, ret = some ty ∧ narrow ty (.int v) = .int v) →
      W p l e R s m args below meth c H' locs' cells' slots' QF (F0 m pc' lr' (r.map Value.int).toList))
    (hr : va_Run p l e R s m args below meth c H locs cells slots mc1 ms1 (F0 m pc lr st0) (rest.map (j_rn α)) (j_Qe D cA α sh.length (va_A (j_w cA α sh μ) H.size) Q1 a) (va_A (j_w cA α sh μ) H.size)) :
    W p l e R s m args below meth c H locs cells slots QF (F0 m pc lr st0) := by
  obtain ⟨wK, wP, wD, wS, wA, wN⟩ := h2
  have hF : ∀ q, va_A (j_w cA α sh μ) H.size q → A q := by
    intro q hq
    rcases hq with ⟨k, x, hq⟩ | hq
    · exact wD.2 k (q, x) hq
    · exact wA q (Nat.le_trans wS.1 hq)
  intro T hT X
  obtain ⟨v, st₀, t, T', L, h0, X', hL, e1, e2, ⟨⟨r, sh', μ', α', hv, hq, hle, hα, hP1, hK1, hD1⟩, hz, hk⟩, st⟩ := hr T hT X
  rw [h0] at hz hk
  have hv' : v = r.map Value.int := by cases hv; rfl
  subst hv'
  have hrest : ((r.map Value.int).toList ++ rest).map (j_rn α') = (r.map Value.int).toList ++ rest.map (j_rn α) := by
    rw [List.map_append, j_map_ext h6 hα]
    cases r <;> rfl
  have hAl : s.vm.Alike t.vm := by rw [← e2]; exact X'.warmed.alike
  obtain ⟨t2, a1, b1⟩ := hK r sh' μ' hq p l e R s m args below meth c D cA A α' T'.heap (locs ++ L) (cells + mc1) (slots + ms1) lr QF h1
    ⟨va_K.moved hAl.symm hK1, by rw [e1]; exact hP1, hD1.weaken (fun k q _ h => hF q.1 h), ⟨Nat.le_trans wS.1 (by rw [e1]; exact hz), fun q g1 g2 => by
        rw [e1, hk q (Nat.lt_of_lt_of_le g1 wS.1) (fun z => g2 (hF q z))]
        exact wS.2.1 q g1 g2, fun q hq' => by
        rcases List.mem_append.mp hq' with h | h
        · exact wS.2.2 q h
        · exact hF _ (hL q h)⟩, wA, wN⟩
    (by omega) (by omega) (h5.ext hle hα)
    (by
      intro w hw
      rcases List.mem_append.mp hw with h | h
      · cases r with
        | none => cases h
        | some x =>
          rw [List.mem_singleton.mp h]
          intro k hk'
          cases hk'
      · exact j_okv_ext (h6 w h) hle)
    (by
      unfold j_Xs at h7 ⊢
      cases xs with
      | none => trivial
      | some q =>
        dsimp only at h7 ⊢
        rw [hα j_sc (Or.inr rfl)]
        exact h7)
    (by
      intro r2 sh2 μ2 α2 H2 locs2 cells2 slots2 lr2 pc2 g1 g2 g3
      exact h8 r2 sh2 μ2 α2 H2 locs2 cells2 slots2 lr2 pc2 g1 (Nat.le_trans hle g2) (fun k hk' => by
        rw [g3 k (hk'.elim (fun z => Or.inl (Nat.lt_of_lt_of_le z hle)) Or.inr)]
        exact hα k hk'))
    T' rfl X'
  refine ⟨t2, st t2 ?_, b1⟩
  rw [hrest] at a1
  exact a1
theorem j_pre {y : MethodName} {D : va_G} {cA : FieldType → ClassId} {A : Nat → Prop} {α : Nat → Nat} {sh : List j_S} {μ : j_M} {s : State} {H : Heap} {locs : List Loc} {as : List Value} (h2 : j_Wd D cA A α sh μ s H locs) : PreS s H (j_Pc D cA α sh μ as H.size) (as.map (j_rn α)) := by
  obtain ⟨wK, wP, wD, wS, wA, wN⟩ := h2
  refine ⟨j_blind, fun U hU hW => ⟨rfl, by rw [hU], by rw [hU]; exact wP, va_K.moved hW.alike wK, wD.weaken (fun _ _ _ _ => trivial), fun w hw => j_NW_warm hw hW (wN w hw)⟩⟩
theorem j_callB {R : Room} {s : State} {args : Array Value} {o idx n d mc ms : Nat} {y : MethodName} {cc : ByteArray} {maxL : Nat} {ret : Option FieldType} (hts : ∀ w ∈ j_G, w.before args s = true) (hc : Cond.code y cc maxL ret ∈ j_G) (hm : maxL ≤ 45) (hl : (Cond.methodLink (j_cn o) idx y) ∈ lw_tbl) (hi : Cond.initialized y.cls ∈ lw_tbl)
    (hd : y.cls ≠ "java/lang/invoke/MethodHandle" ∧ y.cls ≠ "java/lang/invoke/VarHandle" ∧ (parseMethodDescriptor y.desc).map (fun d => d.parameters.length) = some n) (hf : d + 1 ≤ R.frames) (hlo : 64 * (d + 1) + 16 ≤ R.locals) : CallB R s args (j_cn o) idx y cc maxL ret (.code y cc maxL ret :: j_G) (j_rm d mc ms) mc ms n :=
  callB_of n hts (j_wsG hc) rfl rfl rfl (hts _ (j_in hi rfl)) (hts _ (j_in hl rfl)) hd ⟨hf, by show 8 + (maxL + 11) + (64 * d + 16) ≤ _; omega⟩
/-- invokevirtual -/
theorem j_virtual {cc : ByteArray} {o nL : Nat} {ret : Option FieldType} {ini : Bool} {d : Nat} {xs : Option (Nat × (Nat → Int32))} {Q : j_Q} {sh : List j_S} {mc ms pc : Nat} {ls : j_L} {rest as : List Value} {μ : j_M} {y : MethodName} {n ci a idx : Nat} {ks : List j_K}
    (hd : decode cc pc = .ok (.invokevirtual idx, 3)) (hm : j_ml o idx = some (y, n, false, ci)) (ha : sh[a]? = some (.inr (ci, ks))) (hn : as.length = n) (hst : (rest.map fun v => v.category).sum ≤ 8)
    (hX : j_X d mc ms y sh (.ref a :: as) μ (fun mc ms r sh' μ' => j_J cc o nL ret ini d xs Q sh' mc ms (pc + 3) ls ((r.map Value.int).toList ++ rest) μ')) : j_J cc o nL ret ini d xs Q sh mc ms pc ls (as.reverse ++ .ref a :: rest) μ := by
  intro p l e R s m args below meth c D cA A α H locs cells slots lr QF h1 h2 h3 h4 h5 h6 h7 h8
  obtain ⟨d1, mc1, ms1, Q1, hd1, hmc, hms, ⟨cc1, maxL, ret1, hcode, hmax, hMet⟩, hK⟩ := hX
  obtain ⟨m1, m2, m3, m4, m5, m6, m7, m8⟩ := j_ml_ok hm
  have hok : ∀ v ∈ (Value.ref a :: as), j_okv sh.length v := by
    intro v hv
    refine h6 v ?_
    rcases List.mem_cons.mp hv with rfl | hv
    · exact List.mem_append_right _ List.mem_cons_self
    · exact List.mem_append_left _ (List.mem_reverse.mpr hv)
  have hM := hMet hok l D cA α H.size
  have hts := h1.2.2.2.2.2.2.2.1
  have hcl : j_cn ci = y.cls := m7
  have hr := va_runV (p := p) (l := l) (e := e) (R := R) (s := s) (m := m) (args := args) (below := below) (meth := meth) (c := c) (H := H) (locs := locs) (cells := cells) (slots := slots) (C := y.cls) (As := as.map (j_rn α)) (rest := rest.map (j_rn α)) (b := α a) (g := F0 m pc lr ((as.reverse ++ .ref a :: rest).map (j_rn α)))
    ⟨h1.1, h1.2.1, h1.2.2.1, h1.2.2.2.2.2.2.1, hts⟩ hM ⟨j_callB hts hcode hmax m1 m4 ⟨m5, m6, m8⟩ (Nat.le_trans hd1 h1.2.2.2.2.2.2.2.2.1) (Nat.le_trans (by omega) h1.2.2.2.2.2.2.2.2.2), hts _ (j_in m2 rfl), hts _ (j_in m3 rfl)⟩
    ⟨j_blind, by rw [← hcl]; exact j_recv h2.1 h2.2.1 ha, (j_pre (y := y) (as := .ref a :: as) h2).2⟩ rfl (by rw [List.length_map]; exact hn) h5.1 (by simp [List.map_append, List.map_reverse, j_rn]) (by
      show 2 * 0 + _ ≤ 8
      rw [List.map_map]
      have he : (rest.map ((fun v => v.category) ∘ j_rn α)) = rest.map fun v => v.category := List.map_congr_left fun v _ => j_rn_cat α v
      rw [he]
      omega) hd ⟨by omega, by omega⟩
  exact j_after hmc hms hK h1 h2 h3 h4 h5 (fun v hv => h6 v (List.mem_append_right _ (List.mem_cons_of_mem _ hv))) h7 h8 hr
/-- invokestatic -/
theorem j_static {cc : ByteArray} {o nL : Nat} {ret : Option FieldType} {ini : Bool} {d : Nat} {xs : Option (Nat × (Nat → Int32))} {Q : j_Q} {sh : List j_S} {mc ms pc : Nat} {ls : j_L} {rest as : List Value} {μ : j_M} {y : MethodName} {n ci idx : Nat}
    (hd : decode cc pc = .ok (.invokestatic idx, 3)) (hm : j_ml o idx = some (y, n, true, ci)) (hn : as.length = n) (hst : (rest.map fun v => v.category).sum ≤ 8)
    (hX : j_X d mc ms y sh as μ (fun mc ms r sh' μ' => j_J cc o nL ret ini d xs Q sh' mc ms (pc + 3) ls ((r.map Value.int).toList ++ rest) μ')) : j_J cc o nL ret ini d xs Q sh mc ms pc ls (as.reverse ++ rest) μ := by
  intro p l e R s m args below meth c D cA A α H locs cells slots lr QF h1 h2 h3 h4 h5 h6 h7 h8
  obtain ⟨d1, mc1, ms1, Q1, hd1, hmc, hms, ⟨cc1, maxL, ret1, hcode, hmax, hMet⟩, hK⟩ := hX
  obtain ⟨m1, m2, m3, m4, m5, m6, m7, m8⟩ := j_ml_ok hm
  have hok : ∀ v ∈ as, j_okv sh.length v := fun v hv => h6 v (List.mem_append_left _ (List.mem_reverse.mpr hv))
  have hM := hMet hok l D cA α H.size
  have hts := h1.2.2.2.2.2.2.2.1
  have hr := va_runS (p := p) (l := l) (e := e) (R := R) (s := s) (m := m) (args := args) (below := below) (meth := meth) (c := c) (H := H) (locs := locs) (cells := cells) (slots := slots) (As := as.map (j_rn α)) (rest := rest.map (j_rn α)) (g := F0 m pc lr ((as.reverse ++ rest).map (j_rn α)))
    ⟨h1.1, h1.2.1, h1.2.2.1, h1.2.2.2.2.2.2.1, hts⟩ hM ⟨j_callB hts hcode hmax m1 m4 ⟨m5, m6, m8⟩ (Nat.le_trans hd1 h1.2.2.2.2.2.2.2.2.1) (Nat.le_trans (by omega) h1.2.2.2.2.2.2.2.2.2), hts _ (j_in m2 rfl)⟩
    (j_pre (y := y) (as := as) h2) rfl (by rw [List.length_map]; exact hn) h5.1 (by simp [List.map_append, List.map_reverse]) (by
      show 2 * 0 + _ ≤ 8
      rw [List.map_map]
      have he : (rest.map ((fun v => v.category) ∘ j_rn α)) = rest.map fun v => v.category := List.map_congr_left fun v _ => j_rn_cat α v
      rw [he]
      omega) hd ⟨by omega, by omega⟩
  exact j_after hmc hms hK h1 h2 h3 h4 h5 (fun v hv => h6 v (List.mem_append_right _ hv)) h7 h8 hr
