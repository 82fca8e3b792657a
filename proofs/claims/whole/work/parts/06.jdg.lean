/-! the judgement -/
def j_G : List Cond := lw_tbl.filter goodWord
theorem j_in {w : Cond} (h : w ∈ lw_tbl) (hg : goodWord w = true) : w ∈ j_G := List.mem_filter.mpr ⟨h, hg⟩
theorem j_goodG : ∀ w ∈ j_G, goodWord w = true := fun _ h => (List.mem_filter.mp h).2
theorem j_goodIn : GoodIn j_G j_G := fun w hw => ⟨hw, good_of_word (j_goodG w hw)⟩
theorem j_inF {C : String} {T : u_T} {N : Nat} (h : ∀ w ∈ u_ws C T N, w ∈ lw_tbl) : ∀ w ∈ u_ws C T N, w ∈ j_G := by
  intro w hw
  refine j_in (h w hw) ?_
  unfold u_ws at hw
  obtain ⟨k, -, rfl⟩ := List.mem_map.mp hw
  unfold u_lay
  split <;> rfl
/-- the words that link private members of nest mates -/
def j_NW : List Cond := lw_tbl.filter (fun w => match w with
  | .methodLinkNest .. => true
  | _ => false)
theorem j_NW_warm {w : Cond} (hw : w ∈ j_NW) {s U : State} (hW : s.WarmedH U.vm) (h : va_Nw w s) : va_Nw w U := by
  have h1 := (List.mem_filter.mp hw).2
  cases w <;> first | exact va_Nw.warmM hW h | cases h1
theorem j_NW_same {w : Cond} (hw : w ∈ j_NW) {s U : State} (hW : s.vm = U.vm) (h : va_Nw w s) : va_Nw w U := by
  have h1 := (List.mem_filter.mp hw).2
  cases w <;> first | exact va_Nw.same rfl hW h | cases h1
def j_tys (cA : FieldType → ClassId) : List (ClassId × FieldType) := [(cA .int, .int), (cA .byte, .byte), (cA .char, .char), (cA .boolean, .boolean), (cA .long, .long)]
def j_rm (d mc ms : Nat) : Room := { frames := d, cells := mc, slots := ms, locals := 64 * d + 16 }
def j_Ctx (cc : ByteArray) (o nL : Nat) (ret : Option FieldType) (ini : Bool) (d : Nat) (p : Program) (R : Room) (s : State) (m : MethodId) (args : Array Value) (meth : Method) (c : Code) : Prop :=
  p.tables.exec = Jvm.exec ∧ c.code = cc ∧ c.maxLocals = nL ∧ meth.sig.returnType = ret ∧ meth.locks = false ∧ (ini = true → meth.name = "<init>") ∧ s.vm.findClass (j_cn o) = some m.cls ∧ (∀ w ∈ j_G, w.before args s = true) ∧ d ≤ R.frames ∧ 64 * d + 16 ≤ R.locals
def j_Wd (D : va_G) (cA : FieldType → ClassId) (A : Nat → Prop) (α : Nat → Nat) (sh : List j_S) (μ : j_M) (s : State) (H : Heap) (locs : List Loc) : Prop :=
  va_K D j_cls (j_tys cA) s ∧ va_P D j_cls (j_w cA α sh μ) H ∧ va_D A (j_w cA α sh μ) ∧ va_S A s.heap H locs ∧ (∀ q, s.heap.size ≤ q → A q) ∧ (∀ w ∈ j_NW, va_Nw w s)
/-- what the law's start has beside its tables: the launch keeps no stack traces, nothing that was there is written, the words at the start -/
def j_Fx (l : Launch) (A : Nat → Prop) (s : State) : Prop := l.stackTraces = false ∧ (∀ a : Nat, a < s.heap.size → ¬ A a) ∧ ∃ a0 : Array Value, (∀ w ∈ lw_tbl, w.before a0 s = true) ∧ (Jvm.Cond.and given_1 narrow_1).before a0 s = true
def j_Xs (l : Launch) (xs : Option (Nat × (Nat → Int32))) (α : Nat → Nat) (A : Nat → Prop) (s : State) : Prop := match xs with
  | none => True
  | some (L, f) => va_X (α j_sc) L f s s.heap ∧ α j_sc < s.heap.size ∧ ¬ A (α j_sc) ∧ j_Fx l A s
/-- a method's post-condition, of the plain world -/
abbrev j_Q : Type := Option Int32 → List j_S → j_M → Prop
def j_J (cc : ByteArray) (o nL : Nat) (ret : Option FieldType) (ini : Bool) (d : Nat) (xs : Option (Nat × (Nat → Int32))) (Q : j_Q) (sh : List j_S) (mc ms pc : Nat) (ls : j_L) (st : List Value) (μ : j_M) : Prop :=
  ∀ (p : Program) (l : Launch) (e : Env) (R : Room) (s : State) (m : MethodId) (args : Array Value) (below : List Frame) (meth : Method) (c : Code) (D : va_G) (cA : FieldType → ClassId) (A : Nat → Prop) (α : Nat → Nat) (H : Heap) (locs : List Loc) (cells slots : Nat) (lr : Array Slot) (QF : State → Prop),
    j_Ctx cc o nL ret ini d p R s m args meth c → j_Wd D cA A α sh μ s H locs → cells + mc ≤ R.cells → slots + ms ≤ R.slots → j_Lr α sh.length nL ls lr → (∀ v ∈ st, j_okv sh.length v) → j_Xs l xs α A s →
    (∀ (r : Option Int32) (sh' : List j_S) (μ' : j_M) (α' : Nat → Nat) (H' : Heap) (locs' : List Loc) (cells' slots' : Nat) (lr' : Array Slot) (pc' : Nat), Q r sh' μ' → sh.length ≤ sh'.length → (∀ k, k < sh.length ∨ k = j_sc → α' k = α k) → j_Wd D cA A α' sh' μ' s H' locs' → cells' ≤ R.cells → slots' ≤ R.slots →
      (r = none → decode cc pc' = .ok (.return_, 1) ∧ ret = none) → (∀ v, r = some v → decode cc pc' = .ok (.ireturn, 1) ∧ ∃ ty, ret = some ty ∧ narrow ty (.int v) = .int v) →
      W p l e R s m args below meth c H' locs' cells' slots' QF (F0 m pc' lr' (r.map Value.int).toList)) →
    W p l e R s m args below meth c H locs cells slots QF (F0 m pc lr (st.map (j_rn α)))
def j_Pc (D : va_G) (cA : FieldType → ClassId) (α : Nat → Nat) (sh : List j_S) (μ : j_M) (as : List Value) (sz : Nat) : Array Value → State → Prop :=
  va_Pc (as.map (j_rn α)) (fun U => U.heap.size = sz ∧ va_P D j_cls (j_w cA α sh μ) U.heap ∧ va_K D j_cls (j_tys cA) U ∧ va_D (fun _ => True) (j_w cA α sh μ) ∧ ∀ w ∈ j_NW, va_Nw w U)
def j_Qe (D : va_G) (cA : FieldType → ClassId) (α : Nat → Nat) (n : Nat) (A : Nat → Prop) (Q : j_Q) : Array Value → State → Outcome → State → Prop := fun _ st oc t =>
  (∃ (r : Option Int32) (sh' : List j_S) (μ' : j_M) (α' : Nat → Nat), oc = .returned (r.map Value.int) ∧ Q r sh' μ' ∧ n ≤ sh'.length ∧ (∀ k, k < n ∨ k = j_sc → α' k = α k) ∧ va_P D j_cls (j_w cA α' sh' μ') t.heap ∧ va_K D j_cls (j_tys cA) t ∧ va_D A (j_w cA α' sh' μ')) ∧ va_F A st t
/-- the contract of y, at these arguments, in this world -/
def j_Call (d mc ms : Nat) (y : MethodName) (sh : List j_S) (as : List Value) (μ : j_M) (Q : j_Q) : Prop :=
  ∃ (cc : ByteArray) (maxL : Nat) (ret : Option FieldType), Cond.code y cc maxL ret ∈ j_G ∧ maxL ≤ 45 ∧ ((∀ v ∈ as, j_okv sh.length v) → ∀ (l : Launch) (D : va_G) (cA : FieldType → ClassId) (α : Nat → Nat) (sz : Nat),
    Met l y (.code y cc maxL ret :: j_G) (j_rm d mc ms) (j_Pc D cA α sh μ as sz) (j_Qe D cA α sh.length (va_A (j_w cA α sh μ) sz) Q) mc ms (va_A (j_w cA α sh μ) sz))
def j_X (d mc ms : Nat) (y : MethodName) (sh : List j_S) (as : List Value) (μ : j_M) (K : Nat → Nat → Option Int32 → List j_S → j_M → Prop) : Prop :=
  ∃ (d1 mc1 ms1 : Nat) (Q1 : j_Q), d1 + 1 ≤ d ∧ mc1 ≤ mc ∧ ms1 ≤ ms ∧ j_Call d1 mc1 ms1 y sh as μ Q1 ∧ ∀ r sh' μ', Q1 r sh' μ' → K (mc - mc1) (ms - ms1) r sh' μ'
/-- fewer known locals suffice -/
theorem j_J.le {cc : ByteArray} {o nL : Nat} {ret : Option FieldType} {ini : Bool} {d : Nat} {xs : Option (Nat × (Nat → Int32))} {Q : j_Q} {sh : List j_S} {mc ms pc : Nat} {ls k : j_L} {st : List Value} {μ : j_M} (h : j_J cc o nL ret ini d xs Q sh mc ms pc ls st μ) (hl : j_le ls k) : j_J cc o nL ret ini d xs Q sh mc ms pc k st μ := by
  intro p l e R s m args below meth c D cA A α H locs cells slots lr QF h1 h2 h3 h4 h5 h6 h7 h8
  exact h p l e R s m args below meth c D cA A α H locs cells slots lr QF h1 h2 h3 h4 (h5.le hl) h6 h7 h8
/-- less room suffices -/
theorem j_J.room {cc : ByteArray} {o nL : Nat} {ret : Option FieldType} {ini : Bool} {d : Nat} {xs : Option (Nat × (Nat → Int32))} {Q : j_Q} {sh : List j_S} {mc ms mc' ms' pc : Nat} {ls : j_L} {st : List Value} {μ : j_M} (h : j_J cc o nL ret ini d xs Q sh mc ms pc ls st μ) (h1 : mc ≤ mc') (h2 : ms ≤ ms') : j_J cc o nL ret ini d xs Q sh mc' ms' pc ls st μ := by
  intro p l e R s m args below meth c D cA A α H locs cells slots lr QF a1 a2 a3 a4
  exact h p l e R s m args below meth c D cA A α H locs cells slots lr QF a1 a2 (by omega) (by omega)
/-- a weaker end -/
theorem j_J.post {cc : ByteArray} {o nL : Nat} {ret : Option FieldType} {ini : Bool} {d : Nat} {xs : Option (Nat × (Nat → Int32))} {Q Q' : j_Q} {sh : List j_S} {mc ms pc : Nat} {ls : j_L} {st : List Value} {μ : j_M} (h : j_J cc o nL ret ini d xs Q sh mc ms pc ls st μ) (hQ : ∀ r sh' μ', Q r sh' μ' → Q' r sh' μ') : j_J cc o nL ret ini d xs Q' sh mc ms pc ls st μ := by
  intro p l e R s m args below meth c D cA A α H locs cells slots lr QF a1 a2 a3 a4 a5 a6 a7 a8
  exact h p l e R s m args below meth c D cA A α H locs cells slots lr QF a1 a2 a3 a4 a5 a6 a7 (fun r sh' μ' α' H' locs' cells' slots' lr' pc' hq => a8 r sh' μ' α' H' locs' cells' slots' lr' pc' (hQ r sh' μ' hq))
/-- THE METHOD: from its first instruction on -/
theorem j_call {cc : ByteArray} {o nL : Nat} {ret : Option FieldType} {ini : Bool} {d mc ms : Nat} {y : MethodName} {sh : List j_S} {as : List Value} {μ : j_M} {Q : j_Q} (ls : j_L)
    (hcode : Cond.code y cc nL ret ∈ lw_tbl) (hn : nL ≤ 45) (hy : plainName y.cls = true) (ho : j_cn o = y.cls) (hini : ini = true → y.name = "<init>") (hlen : (lg_sl as).length ≤ nL)
    (hls : ls.length = nL ∧ ∀ (i : Nat) (v : Value), ls[i]? = some (some v) → (i, v) ∈ lv_args 0 as)
    (h : j_J cc o nL ret ini d none Q sh mc ms 0 ls [] μ) : j_Call d mc ms y sh as μ Q := by
  refine ⟨cc, nL, ret, j_in hcode rfl, hn, fun hok l D cA α sz => ?_⟩
  refine Met.ofW (cc := cc) (maxL := nL) (ret := ret) hy rfl ?_
  intro p e s m args below meth c s₁ B hml hv
  obtain ⟨rfl, hsz, hP, hK, hD0, hN0⟩ := hv
  have hts := atoms_spec (ws := .code y cc nL ret :: j_G) B.pre
  have hown : s.vm.findClass y.cls = some m.cls := findClass_of_methodNamed B.named
  subst hsz
  have hlk := B.notSynchronized
  have hsl : lg_sl (as.map (j_rn α)) = (lg_sl as).map (fun x => match x with | .val v => .val (j_rn α v) | z => z) := by
    clear hok hls hlen hP hK hD0 B hts hN0
    unfold lg_sl
    induction as with
    | nil => rfl
    | cons v t ih =>
      simp only [List.map_cons, List.flatMap_cons, List.map_append, ih, j_rn_cat]
      congr 1
      by_cases hc : v.category = 2
      · simp [hc]
      · simp [hc]
  have hlen' : (lg_sl (as.map (j_rn α))).length ≤ nL := by rw [hsl, List.length_map]; exact hlen
  have hl := lv_entry (as.map (j_rn α)) (n := nL) hlen'
  rw [lg_entry_eq]
  generalize (lg_sl (as.map (j_rn α)) ++ List.replicate (nL - (lg_sl (as.map (j_rn α))).length) Slot.unset).toArray = lr at hl ⊢
  have hav : ∀ (n : Nat) (vs : List Value), lv_args n (vs.map (j_rn α)) = (lv_args n vs).map (fun q => (q.1, j_rn α q.2)) := by
    intro n vs
    induction vs generalizing n with
    | nil => rfl
    | cons v t ih => simp only [List.map_cons, lv_args, j_rn_cat, ih]
  have hmem : ∀ (n : Nat) (vs : List Value) (q : Nat × Value), q ∈ lv_args n vs → q.2 ∈ vs := by
    intro n vs
    induction vs generalizing n with
    | nil => intro q hq; cases hq
    | cons v t ih =>
      intro q hq
      simp only [lv_args] at hq
      rcases List.mem_cons.mp hq with rfl | hq
      · exact List.mem_cons_self
      · exact List.mem_cons_of_mem _ (ih _ q hq)
  refine h p l e (j_rm d mc ms) s m (as.map (j_rn α)).toArray below meth c D cA (va_A (j_w cA α sh μ) s.heap.size) α s.heap [] 0 0 lr _ ?_ ?_ ?_ ?_ ?_ ?_ ?_ ?_
  · refine ⟨B.exec, B.bytes, hml, B.returns, hlk, fun hi => ?_, ?_, fun w hw => hts w (List.mem_cons_of_mem _ hw), Nat.le_refl _, Nat.le_refl _⟩
    · rw [(name_of_methodNamed B.named B.method).1]; exact hini hi
    · rw [ho]; exact hown
  · exact ⟨hK, hP, hD0.self, va_S.rf, fun q hq => Or.inr hq, hN0⟩
  · show 0 + mc ≤ mc
    omega
  · show 0 + ms ≤ ms
    omega
  · refine ⟨hl.1, hl.2.1, hls.1, fun i v hv => ?_⟩
    have h1 := hls.2 i v hv
    refine ⟨hl.2.2 (i, j_rn α v) ?_, hok v (hmem 0 as _ h1)⟩
    rw [hav]
    exact List.mem_map.mpr ⟨(i, v), h1, rfl⟩
  · intro v hv; cases hv
  · trivial
  · intro r sh' μ' α' H' locs' cells' slots' lr' pc' hq hle hα hW hc1 hc2 hr0 hr1
    obtain ⟨wK, wP, wD, wS, wA, wN⟩ := hW
    have hfin : ∀ t : State, t.heap = H' → s.WarmedH t.vm → j_Qe D cA α sh.length (va_A (j_w cA α sh μ) s.heap.size) Q (as.map (j_rn α)).toArray s (.returned (r.map Value.int)) t := by
      intro t ht hw
      exact ⟨⟨r, sh', μ', α', rfl, hq, hle, hα, by rw [ht]; exact wP, va_K.moved hw.alike wK, wD⟩, wS.F ht⟩
    refine W.widen (k := mc) (n := ms) hc1 hc2 ?_
    cases r with
    | none =>
      obtain ⟨e1, e2⟩ := hr0 rfl
      exact W.vret B.exec B.bytes (by rw [B.returns]; exact e2) hfin wS.2.2 e1
    | some v =>
      obtain ⟨e1, ty, e2, e3⟩ := hr1 v rfl
      exact W.zret B.exec B.bytes (by rw [B.returns]; exact e2) e3 hfin wS.2.2 e1
