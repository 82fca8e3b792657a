/-! look throws: what its callers carry, and its contract -/
abbrev v_E : String := "java/util/NoSuchElementException"
abbrev v_nm : List String := ["java/lang/RuntimeException", "java/lang/Exception"]
def v_Nl : List Cond := (vx_atS RX9 236 v_E v_nm).filter (fun w => !goodWord w)
theorem v_Nl_k : v_Nl.all (fun w => match w with
  | .castable .. => true
  | .declares _ => true
  | _ => false) = true := by decide +kernel
theorem v_Nl_warm {w : Cond} (hw : w ∈ v_Nl) {s U : State} (hW : s.WarmedH U.vm) (h : va_Nw w s) : va_Nw w U := by
  have h1 := List.all_eq_true.mp v_Nl_k w hw
  cases w <;> first | exact va_Nw.warmC hW h | exact va_Nw.warmD hW h | cases h1
theorem v_Nl_tab {w : Cond} (hw : w ∈ v_Nl) : w.onTables = true := by
  have h1 := List.all_eq_true.mp v_Nl_k w hw
  cases w <;> first | rfl | cases h1
theorem v_Nl_in : v_Nl.all (fun w => decide (w ∈ lw_tbl)) = true := by decide +kernel
theorem v_gd_in : ((vx_atS RX9 236 v_E v_nm).filter goodWord).all (fun w => decide (w ∈ lw_tbl)) = true := by decide +kernel
theorem v_ot_in : (Cond.classLink RX9 232 v_E :: Cond.initialized v_E :: vx_atS RX9 236 v_E v_nm).all vx_ot = true := by decide +kernel
/-- what a throw reads of the start -/
def v_F (A : Nat → Prop) (U : State) (H : Heap) : Prop := vx_Zq Bundle.tN "UNASSIGNED_STACK" Bundle.steD A U H ∧ vx_Zq Bundle.tN "SUPPRESSED_SENTINEL" Bundle.listD A U H ∧ (∃ a : Nat, vk_R RX9 234 "no such term" a U) ∧ (∃ a : Nat, vk_R RX9 257 "nothing such is known of a term" a U) ∧ ∀ w ∈ v_Nl, va_Nw w U
theorem v_F.moved {A : Nat → Prop} {u U : State} {H : Heap} (hW : u.WarmedH U.vm) (h : v_F A u H) : v_F A U H :=
  ⟨vx_Zq.moved hW.alike h.1, vx_Zq.moved hW.alike h.2.1, h.2.2.1.imp fun _ g => vk_R.warm hW g, h.2.2.2.1.imp fun _ g => vk_R.warm hW g, fun w hw => v_Nl_warm hw hW (h.2.2.2.2 w hw)⟩
theorem v_F.kept {A : Nat → Prop} {U : State} {H H1 : Heap} (h : v_F A U H) (hq : ∀ a : Nat, a < H.size → ¬ A a → H1[a]? = H[a]?) : v_F A U H1 :=
  ⟨h.1.kept hq, h.2.1.kept hq, h.2.2⟩
theorem v_F.narrow {A B : Nat → Prop} {U : State} {H : Heap} (h : v_F A U H) (hAB : ∀ q, B q → A q) : v_F B U H :=
  ⟨h.1.narrow hAB, h.2.1.narrow hAB, h.2.2⟩
theorem v_str {own tx : String} {k : Nat} {A : Array Value} {U : State} (h1 : (Cond.stringRef own k tx).before A U = true) (h2 : (Cond.exactly (.string own k) "java/lang/String").before A U = true) : ∃ a : Nat, vk_R own k tx a U := by
  obtain ⟨b', cB, cellB, kB, hb, -⟩ := Cond.exactly_spec h2
  exact ⟨b', vk_R.of h1 hb⟩
/-- the law's start has it -/
theorem v_F.of {l : Launch} {A : Nat → Prop} {s : State} (h : j_Fx l A s) : v_F A s s.heap := by
  obtain ⟨-, hA, a0, hts, hgv⟩ := h
  have hs := flat_of_before _ hgv
  refine ⟨vx_Zqof (hts _ (by decide +kernel)) (hts _ (by decide +kernel)) (hs _ (by decide +kernel)) hA, vx_Zqof (hts _ (by decide +kernel)) (hts _ (by decide +kernel)) (hs _ (by decide +kernel)) hA, v_str (hts _ (by decide +kernel)) (hs _ (by decide +kernel)), v_str (hts _ (by decide +kernel)) (hs _ (by decide +kernel)), fun w hw => va_Nw.of (v_Nl_tab hw) (hts w (of_decide_eq_true (List.all_eq_true.mp v_Nl_in w hw)))⟩
def v_Pc (D : va_G) (cA : FieldType → ClassId) (α : Nat → Nat) (μ : j_M) (as : List Value) (sz : Nat) : Array Value → State → Prop := fun a U =>
  j_Pc D cA α j_SH μ as sz a U ∧ v_F (va_A (j_w cA α j_SH μ) sz) U U.heap
theorem v_blind {D : va_G} {cA : FieldType → ClassId} {α : Nat → Nat} {μ : j_M} {as : List Value} {sz : Nat} : FrameBlind (v_Pc D cA α μ as sz) := by
  intro a U g mk q
  exact ⟨j_blind a U g mk q.1, v_F.moved (u := U) (U := U.calling g mk a) (State.WarmedH.refl U) q.2⟩
/-- row i of the terms, column k -/
def v_ok (μ : j_M) (i k : Int32) : Prop := (0 ≤ i ∧ i < μ 8 6) ∧ 0 ≤ k ∧ k ≤ 5
def v_at (μ : j_M) (i k : Int32) : Int32 := if k = 0 then μ 9 i.toNatClampNeg else if k = 1 then μ 10 i.toNatClampNeg else if k = 2 then μ 11 i.toNatClampNeg else if k = 3 then μ 12 i.toNatClampNeg else if k = 4 then μ 13 i.toNatClampNeg else μ 14 i.toNatClampNeg
def v_XC (D : va_G) (cA : FieldType → ClassId) (α : Nat → Nat) (μ : j_M) (sz : Nat) (bad : Prop) : String → State → State → Prop := fun E st t =>
  E = v_E ∧ bad ∧ j_Qe D cA α j_SH.length (va_A (j_w cA α j_SH μ) sz) (fun r sh m => r = none ∧ sh = j_SH ∧ m = μ) #[] st (.returned none) t
