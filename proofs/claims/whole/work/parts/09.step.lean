/-! one instruction, soundly -/
theorem j_nf_ok {ty : FieldType} {x : Int32} (h : j_nf ty x) : narrow ty (.int x) = .int x ∧ fits ty (.int x) = true := by
  unfold j_nf at h
  split at h
  · exact ⟨rfl, rfl⟩
  · rcases h with rfl | rfl
    · decide
    · decide
  · obtain ⟨a, b⟩ := h
    have h0 : 0 ≤ x.toInt := by simpa [Int32.le_iff_toInt_le] using a
    have h1 : x.toInt ≤ 65535 := by simpa [Int32.le_iff_toInt_le] using b
    obtain ⟨k, hk, rfl⟩ := nI_of (x := x) (by rw [Int32.lt_iff_toInt_lt]; simpa using h0)
    rw [nI_toInt hk] at h1
    exact pk_charN (by omega)
  · exact h.elim
theorem j_ok_i {n : Nat} {x : Int32} {st : List Value} (h : ∀ v ∈ st, j_okv n v) : ∀ v ∈ (Value.int x :: st), j_okv n v := fun v hv => (List.mem_cons.mp hv).elim (fun e => by subst e; intro k hk; cases hk) (h v)
theorem j_ok_l {n : Nat} {x : Int64} {st : List Value} (h : ∀ v ∈ st, j_okv n v) : ∀ v ∈ (Value.long x :: st), j_okv n v := fun v hv => (List.mem_cons.mp hv).elim (fun e => by subst e; intro k hk; cases hk) (h v)
theorem j_ok_r {n a : Nat} {st : List Value} (ha : a < n ∨ a = j_sc) (h : ∀ v ∈ st, j_okv n v) : ∀ v ∈ (Value.ref a :: st), j_okv n v := fun v hv => (List.mem_cons.mp hv).elim (fun e => by subst e; intro k hk; cases hk; exact ha) (h v)
theorem j_ok_t {n : Nat} {x : Value} {st : List Value} (h : ∀ v ∈ (x :: st), j_okv n v) : ∀ v ∈ st, j_okv n v := fun v hv => h v (List.mem_cons_of_mem _ hv)
theorem j_ok_h {n a : Nat} {st : List Value} (h : ∀ v ∈ (Value.ref a :: st), j_okv n v) : a < n ∨ a = j_sc := h _ List.mem_cons_self a rfl
theorem j_iok {n : Nat} (x : Int32) : j_okv n (.int x) := fun _ h => by cases h
theorem j_lok {n : Nat} (x : Int64) : j_okv n (.long x) := fun _ h => by cases h
theorem j_tab_get {x : Int32} {k : Int → Prop} : ∀ (os : List Int) (lo : Int), j_tab x k os lo → ∀ (j : Nat) (off : Int), os[j]? = some off → x.toInt = lo + j → k off
  | [], _, _, j, off, h, _ => by simp at h
  | o :: os, lo, h, j, off, hj, e => by
    cases j with
    | zero =>
      simp only [List.getElem?_cons_zero, Option.some.injEq] at hj
      subst hj
      exact h.1 (by omega)
    | succ j =>
      simp only [List.getElem?_cons_succ] at hj
      exact j_tab_get os (lo + 1) h.2 j off hj (by omega)
theorem j_lku_get {x : Int32} {dflt : Int} {k : Int → Prop} : ∀ (ps : List (Int × Int)), j_lku x dflt k ps → k (Op.lookupswitch.offset ps dflt x.toInt)
  | [], h => h
  | (a, o) :: r, h => by
    rw [Op.lookupswitch.offset_cons]
    by_cases e : x.toInt = a
    · have e' : a = x.toInt := e.symm
      first
        | (rw [if_pos e]; exact h.1 e)
        | (rw [if_pos e']; exact h.1 e)
        | (simp only [e, if_true, beq_self_eq_true]; exact h.1 e)
    · have e' : ¬ a = x.toInt := fun z => e z.symm
      first
        | (rw [if_neg e]; exact j_lku_get r (h.2 e))
        | (rw [if_neg e']; exact j_lku_get r (h.2 e))
        | (simp only [e, e', if_false, beq_iff_eq]; exact j_lku_get r (h.2 e))
section JS
variable {cc : ByteArray} {o nL : Nat} {ret : Option FieldType} {ini : Bool} {d : Nat} {xs : Option (Nat × (Nat → Int32))} {Q : j_Q} {sh : List j_S} {mc ms pc : Nat} {ls : j_L} {st : List Value} {μ : j_M}
/-- a step that moves neither the heap nor the world -/
def j_Go (cc : ByteArray) (o nL : Nat) (ret : Option FieldType) (ini : Bool) (d : Nat) (xs : Option (Nat × (Nat → Int32))) (Q : j_Q) (sh : List j_S) (mc ms : Nat) (μ : j_M) (pc : Nat) (ls : j_L) (st : List Value) : Prop :=
  ∀ (p : Program) (l : Launch) (e : Env) (R : Room) (s : State) (m : MethodId) (args : Array Value) (below : List Frame) (meth : Method) (c : Code) (α : Nat → Nat) (A : Nat → Prop) (H : Heap) (locs : List Loc) (cells slots : Nat) (lr : Array Slot) (QF : State → Prop),
    j_Ctx cc o nL ret ini d p R s m args meth c → cells + mc ≤ R.cells → slots + ms ≤ R.slots → j_Lr α sh.length nL ls lr → (∀ v ∈ st, j_okv sh.length v) → j_Xs l xs α A s → va_S A s.heap H locs →
    (∀ (pc' : Nat) (ls' : j_L) (st' : List Value) (lr' : Array Slot), j_J cc o nL ret ini d xs Q sh mc ms pc' ls' st' μ → j_Lr α sh.length nL ls' lr' → (∀ v ∈ st', j_okv sh.length v) → W p l e R s m args below meth c H locs cells slots QF (F0 m pc' lr' (st'.map (j_rn α)))) →
    W p l e R s m args below meth c H locs cells slots QF (F0 m pc lr (st.map (j_rn α)))
theorem j_Go.use (h : j_Go cc o nL ret ini d xs Q sh mc ms μ pc ls st) : j_J cc o nL ret ini d xs Q sh mc ms pc ls st μ := by
  intro p l e R s m args below meth c D cA A α H locs cells slots lr QF h1 h2 h3 h4 h5 h6 h7 h8
  exact h p l e R s m args below meth c α A H locs cells slots lr QF h1 h3 h4 h5 h6 h7 h2.2.2.2.1 (fun pc' ls' st' lr' hj a5 a6 => hj p l e R s m args below meth c D cA A α H locs cells slots lr' QF h1 h2 h3 h4 a5 a6 h7 h8)
theorem js_iconst {n : Int} (hd : decode cc pc = .ok (.iconst n, 1)) (h : j_J cc o nL ret ini d xs Q sh mc ms (pc + 1) ls (.int (Int32.ofInt n) :: st) μ) : j_J cc o nL ret ini d xs Q sh mc ms pc ls st μ := by
  refine j_Go.use ?_
  intro p l e R s m args below meth c α A H locs cells slots lr QF h1 h3 h4 h5 h6 h7 hS kk
  exact lv_iconst h1.1 h1.2.1 hd rfl (kk _ ls (.int (Int32.ofInt n) :: st) lr h h5 (j_ok_i h6))
theorem js_bipush {n : Int} (hd : decode cc pc = .ok (.bipush n, 2)) (h : j_J cc o nL ret ini d xs Q sh mc ms (pc + 2) ls (.int ((Int8.ofInt n).toInt32) :: st) μ) : j_J cc o nL ret ini d xs Q sh mc ms pc ls st μ := by
  refine j_Go.use ?_
  intro p l e R s m args below meth c α A H locs cells slots lr QF h1 h3 h4 h5 h6 h7 hS kk
  exact lv_bipush h1.1 h1.2.1 hd rfl (kk _ ls (.int ((Int8.ofInt n).toInt32) :: st) lr h h5 (j_ok_i h6))
theorem js_sipush {n : Int} (hd : decode cc pc = .ok (.sipush n, 3)) (h : j_J cc o nL ret ini d xs Q sh mc ms (pc + 3) ls (.int ((Int16.ofInt n).toInt32) :: st) μ) : j_J cc o nL ret ini d xs Q sh mc ms pc ls st μ := by
  refine j_Go.use ?_
  intro p l e R s m args below meth c α A H locs cells slots lr QF h1 h3 h4 h5 h6 h7 hS kk
  exact lv_sipush h1.1 h1.2.1 hd rfl (kk _ ls (.int ((Int16.ofInt n).toInt32) :: st) lr h h5 (j_ok_i h6))
theorem js_ldc2 {n : Nat} {x : Int64} (hx : j_long o n = some x) (hd : decode cc pc = .ok (.ldc2_w n, 3)) (h : j_J cc o nL ret ini d xs Q sh mc ms (pc + 3) ls (.long x :: st) μ) : j_J cc o nL ret ini d xs Q sh mc ms pc ls st μ := by
  refine j_Go.use ?_
  intro p l e R s m args below meth c α A H locs cells slots lr QF h1 h3 h4 h5 h6 h7 hS kk
  exact lv_ldc2 h1.1 h1.2.1 h1.2.2.2.2.2.2.1 (h1.2.2.2.2.2.2.2.1 _ (j_in (j_long_ok hx) rfl)) hd (kk _ ls (.long x :: st) lr h h5 (j_ok_l h6))
theorem js_iload {n : Nat} {x : Int32} (hx : j_ld ls n = some (.int x)) (hd : decode cc pc = .ok (.iload n, 2)) (h : j_J cc o nL ret ini d xs Q sh mc ms (pc + 2) ls (.int x :: st) μ) : j_J cc o nL ret ini d xs Q sh mc ms pc ls st μ := by
  refine j_Go.use ?_
  intro p l e R s m args below meth c α A H locs cells slots lr QF h1 h3 h4 h5 h6 h7 hS kk
  obtain ⟨hv, ho⟩ := h5.get hx
  exact lv_iload h1.1 h1.2.1 hd hv (kk _ ls (.int x :: st) lr h h5 (j_ok_i h6))
theorem js_iload_n {n : Fin 4} {x : Int32} (hx : j_ld ls n.val = some (.int x)) (hd : decode cc pc = .ok (.iload_n n, 1)) (h : j_J cc o nL ret ini d xs Q sh mc ms (pc + 1) ls (.int x :: st) μ) : j_J cc o nL ret ini d xs Q sh mc ms pc ls st μ := by
  refine j_Go.use ?_
  intro p l e R s m args below meth c α A H locs cells slots lr QF h1 h3 h4 h5 h6 h7 hS kk
  obtain ⟨hv, ho⟩ := h5.get hx
  exact lv_iload_n h1.1 h1.2.1 hd rfl hv (kk _ ls (.int x :: st) lr h h5 (j_ok_i h6))
theorem js_lload {n : Nat} {x : Int64} (hx : j_ld ls n = some (.long x)) (hd : decode cc pc = .ok (.lload n, 2)) (h : j_J cc o nL ret ini d xs Q sh mc ms (pc + 2) ls (.long x :: st) μ) : j_J cc o nL ret ini d xs Q sh mc ms pc ls st μ := by
  refine j_Go.use ?_
  intro p l e R s m args below meth c α A H locs cells slots lr QF h1 h3 h4 h5 h6 h7 hS kk
  obtain ⟨hv, ho⟩ := h5.get hx
  exact lv_lload h1.1 h1.2.1 hd hv (kk _ ls (.long x :: st) lr h h5 (j_ok_l h6))
theorem js_lload_n {n : Fin 4} {x : Int64} (hx : j_ld ls n.val = some (.long x)) (hd : decode cc pc = .ok (.lload_n n, 1)) (h : j_J cc o nL ret ini d xs Q sh mc ms (pc + 1) ls (.long x :: st) μ) : j_J cc o nL ret ini d xs Q sh mc ms pc ls st μ := by
  refine j_Go.use ?_
  intro p l e R s m args below meth c α A H locs cells slots lr QF h1 h3 h4 h5 h6 h7 hS kk
  obtain ⟨hv, ho⟩ := h5.get hx
  exact lv_lload_n h1.1 h1.2.1 hd rfl hv (kk _ ls (.long x :: st) lr h h5 (j_ok_l h6))
theorem js_aload {n : Nat} {x : Nat} (hx : j_ld ls n = some (.ref x)) (hd : decode cc pc = .ok (.aload n, 2)) (h : j_J cc o nL ret ini d xs Q sh mc ms (pc + 2) ls (.ref x :: st) μ) : j_J cc o nL ret ini d xs Q sh mc ms pc ls st μ := by
  refine j_Go.use ?_
  intro p l e R s m args below meth c α A H locs cells slots lr QF h1 h3 h4 h5 h6 h7 hS kk
  obtain ⟨hv, ho⟩ := h5.get hx
  exact lv_aload h1.1 h1.2.1 hd hv (kk _ ls (.ref x :: st) lr h h5 (j_ok_r (ho _ rfl) h6))
theorem js_aload_n {n : Fin 4} {x : Nat} (hx : j_ld ls n.val = some (.ref x)) (hd : decode cc pc = .ok (.aload_n n, 1)) (h : j_J cc o nL ret ini d xs Q sh mc ms (pc + 1) ls (.ref x :: st) μ) : j_J cc o nL ret ini d xs Q sh mc ms pc ls st μ := by
  refine j_Go.use ?_
  intro p l e R s m args below meth c α A H locs cells slots lr QF h1 h3 h4 h5 h6 h7 hS kk
  obtain ⟨hv, ho⟩ := h5.get hx
  exact lv_aload_n h1.1 h1.2.1 hd rfl hv (kk _ ls (.ref x :: st) lr h h5 (j_ok_r (ho _ rfl) h6))
theorem js_istore {n : Nat} {x : Int32} (hn : n < ls.length) (hd : decode cc pc = .ok (.istore n, 2)) (h : j_J cc o nL ret ini d xs Q sh mc ms (pc + 2) (j_st1 ls n (.int x)) st μ) : j_J cc o nL ret ini d xs Q sh mc ms pc ls (.int x :: st) μ := by
  refine j_Go.use ?_
  intro p l e R s m args below meth c α A H locs cells slots lr QF h1 h3 h4 h5 h6 h7 hS kk
  exact lv_istore h1.1 h1.2.1 hd h5.has (by rw [← h5.2.2.1]; exact hn) rfl (fun lr2 hl2 => kk _ (j_st1 ls n (.int x)) st lr2 h (h5.set1 (v := .int x) (j_iok x) hl2) (j_ok_t h6))
theorem js_istore_n {n : Fin 4} {x : Int32} (hn : n.val < ls.length) (hd : decode cc pc = .ok (.istore_n n, 1)) (h : j_J cc o nL ret ini d xs Q sh mc ms (pc + 1) (j_st1 ls n.val (.int x)) st μ) : j_J cc o nL ret ini d xs Q sh mc ms pc ls (.int x :: st) μ := by
  refine j_Go.use ?_
  intro p l e R s m args below meth c α A H locs cells slots lr QF h1 h3 h4 h5 h6 h7 hS kk
  exact lv_istore_n h1.1 h1.2.1 hd rfl h5.has (by rw [← h5.2.2.1]; exact hn) rfl (fun lr2 hl2 => kk _ (j_st1 ls n.val (.int x)) st lr2 h (h5.set1 (v := .int x) (j_iok x) hl2) (j_ok_t h6))
theorem js_astore {n : Nat} {x : Nat} (hn : n < ls.length) (hd : decode cc pc = .ok (.astore n, 2)) (h : j_J cc o nL ret ini d xs Q sh mc ms (pc + 2) (j_st1 ls n (.ref x)) st μ) : j_J cc o nL ret ini d xs Q sh mc ms pc ls (.ref x :: st) μ := by
  refine j_Go.use ?_
  intro p l e R s m args below meth c α A H locs cells slots lr QF h1 h3 h4 h5 h6 h7 hS kk
  exact lv_astore h1.1 h1.2.1 hd h5.has (by rw [← h5.2.2.1]; exact hn) rfl (fun lr2 hl2 => kk _ (j_st1 ls n (.ref x)) st lr2 h (h5.set1 (v := .ref x) (fun _ hk => by cases hk; exact j_ok_h h6) hl2) (j_ok_t h6))
theorem js_astore_n {n : Fin 4} {x : Nat} (hn : n.val < ls.length) (hd : decode cc pc = .ok (.astore_n n, 1)) (h : j_J cc o nL ret ini d xs Q sh mc ms (pc + 1) (j_st1 ls n.val (.ref x)) st μ) : j_J cc o nL ret ini d xs Q sh mc ms pc ls (.ref x :: st) μ := by
  refine j_Go.use ?_
  intro p l e R s m args below meth c α A H locs cells slots lr QF h1 h3 h4 h5 h6 h7 hS kk
  exact lv_astore_n h1.1 h1.2.1 hd rfl h5.has (by rw [← h5.2.2.1]; exact hn) rfl (fun lr2 hl2 => kk _ (j_st1 ls n.val (.ref x)) st lr2 h (h5.set1 (v := .ref x) (fun _ hk => by cases hk; exact j_ok_h h6) hl2) (j_ok_t h6))
theorem js_lstore {n : Nat} {x : Int64} (hn : n + 1 < ls.length) (hd : decode cc pc = .ok (.lstore n, 2)) (h : j_J cc o nL ret ini d xs Q sh mc ms (pc + 2) (j_st2 ls n (.long x)) st μ) : j_J cc o nL ret ini d xs Q sh mc ms pc ls (.long x :: st) μ := by
  refine j_Go.use ?_
  intro p l e R s m args below meth c α A H locs cells slots lr QF h1 h3 h4 h5 h6 h7 hS kk
  exact lv_lstore h1.1 h1.2.1 hd h5.has (by rw [← h5.2.2.1]; exact hn) rfl (fun lr2 hl2 => kk _ (j_st2 ls n (.long x)) st lr2 h (h5.set2 (v := .long x) (j_lok x) hl2) (j_ok_t h6))
theorem js_iinc {n : Nat} {k : Int} {x : Int32} (hx : j_ld ls n = some (.int x)) (hd : decode cc pc = .ok (.iinc n k, 3)) (h : j_J cc o nL ret ini d xs Q sh mc ms (pc + 3) (j_st1 ls n (.int (x + Int32.ofInt k))) st μ) : j_J cc o nL ret ini d xs Q sh mc ms pc ls st μ := by
  refine j_Go.use ?_
  intro p l e R s m args below meth c α A H locs cells slots lr QF h1 h3 h4 h5 h6 h7 hS kk
  have hm : (n, Value.int x) ∈ j_as α ls := by
    have hx' : ls[n]? = some (some (.int x)) := by
      rw [j_ld_get] at hx
      cases h9 : ls[n]? with
      | none => rw [h9] at hx; cases hx
      | some z => rw [h9] at hx; exact congrArg some hx
    exact j_as_mem (α := α) hx'
  obtain ⟨j, hj⟩ := List.getElem?_of_mem hm
  exact lv_iinc h1.1 h1.2.1 hd h5.has (k := j) hj rfl (h5.lt hx) rfl (fun lr2 hl2 => kk _ (j_st1 ls n (.int (x + Int32.ofInt k))) st lr2 h (h5.set1 (v := .int (x + Int32.ofInt k)) (j_iok _) hl2) h6)
theorem js_iadd {x y : Int32} (hd : decode cc pc = .ok (.iadd, 1)) (h : j_J cc o nL ret ini d xs Q sh mc ms (pc + 1) ls (.int (x + y) :: st) μ) : j_J cc o nL ret ini d xs Q sh mc ms pc ls (.int y :: .int x :: st) μ := by
  refine j_Go.use ?_
  intro p l e R s m args below meth c α A H locs cells slots lr QF h1 h3 h4 h5 h6 h7 hS kk
  exact lv_iadd h1.1 h1.2.1 hd (kk _ ls (.int (x + y) :: st) lr h h5 (j_ok_i (j_ok_t (j_ok_t h6))))
theorem js_isub {x y : Int32} (hd : decode cc pc = .ok (.isub, 1)) (h : j_J cc o nL ret ini d xs Q sh mc ms (pc + 1) ls (.int (x - y) :: st) μ) : j_J cc o nL ret ini d xs Q sh mc ms pc ls (.int y :: .int x :: st) μ := by
  refine j_Go.use ?_
  intro p l e R s m args below meth c α A H locs cells slots lr QF h1 h3 h4 h5 h6 h7 hS kk
  exact lv_isub h1.1 h1.2.1 hd (kk _ ls (.int (x - y) :: st) lr h h5 (j_ok_i (j_ok_t (j_ok_t h6))))
theorem js_imul {x y : Int32} (hd : decode cc pc = .ok (.imul, 1)) (h : j_J cc o nL ret ini d xs Q sh mc ms (pc + 1) ls (.int (x * y) :: st) μ) : j_J cc o nL ret ini d xs Q sh mc ms pc ls (.int y :: .int x :: st) μ := by
  refine j_Go.use ?_
  intro p l e R s m args below meth c α A H locs cells slots lr QF h1 h3 h4 h5 h6 h7 hS kk
  exact lv_imul h1.1 h1.2.1 hd (kk _ ls (.int (x * y) :: st) lr h h5 (j_ok_i (j_ok_t (j_ok_t h6))))
theorem js_iand {x y : Int32} (hd : decode cc pc = .ok (.iand, 1)) (h : j_J cc o nL ret ini d xs Q sh mc ms (pc + 1) ls (.int (x &&& y) :: st) μ) : j_J cc o nL ret ini d xs Q sh mc ms pc ls (.int y :: .int x :: st) μ := by
  refine j_Go.use ?_
  intro p l e R s m args below meth c α A H locs cells slots lr QF h1 h3 h4 h5 h6 h7 hS kk
  exact lv_iand h1.1 h1.2.1 hd (kk _ ls (.int (x &&& y) :: st) lr h h5 (j_ok_i (j_ok_t (j_ok_t h6))))
theorem js_ior {x y : Int32} (hd : decode cc pc = .ok (.ior, 1)) (h : j_J cc o nL ret ini d xs Q sh mc ms (pc + 1) ls (.int (x ||| y) :: st) μ) : j_J cc o nL ret ini d xs Q sh mc ms pc ls (.int y :: .int x :: st) μ := by
  refine j_Go.use ?_
  intro p l e R s m args below meth c α A H locs cells slots lr QF h1 h3 h4 h5 h6 h7 hS kk
  exact lv_ior h1.1 h1.2.1 hd (kk _ ls (.int (x ||| y) :: st) lr h h5 (j_ok_i (j_ok_t (j_ok_t h6))))
theorem js_ishl {x y : Int32} (hd : decode cc pc = .ok (.ishl, 1)) (h : j_J cc o nL ret ini d xs Q sh mc ms (pc + 1) ls (.int (x <<< (y &&& 31)) :: st) μ) : j_J cc o nL ret ini d xs Q sh mc ms pc ls (.int y :: .int x :: st) μ := by
  refine j_Go.use ?_
  intro p l e R s m args below meth c α A H locs cells slots lr QF h1 h3 h4 h5 h6 h7 hS kk
  exact lv_ishl h1.1 h1.2.1 hd (kk _ ls (.int (x <<< (y &&& 31)) :: st) lr h h5 (j_ok_i (j_ok_t (j_ok_t h6))))
theorem js_ishr {x y : Int32} (hd : decode cc pc = .ok (.ishr, 1)) (h : j_J cc o nL ret ini d xs Q sh mc ms (pc + 1) ls (.int (x >>> (y &&& 31)) :: st) μ) : j_J cc o nL ret ini d xs Q sh mc ms pc ls (.int y :: .int x :: st) μ := by
  refine j_Go.use ?_
  intro p l e R s m args below meth c α A H locs cells slots lr QF h1 h3 h4 h5 h6 h7 hS kk
  exact lv_ishr h1.1 h1.2.1 hd (kk _ ls (.int (x >>> (y &&& 31)) :: st) lr h h5 (j_ok_i (j_ok_t (j_ok_t h6))))
theorem js_idiv {x y : Int32} (hz : ¬ y = 0) (hd : decode cc pc = .ok (.idiv, 1)) (h : j_J cc o nL ret ini d xs Q sh mc ms (pc + 1) ls (.int (x / y) :: st) μ) : j_J cc o nL ret ini d xs Q sh mc ms pc ls (.int y :: .int x :: st) μ := by
  refine j_Go.use ?_
  intro p l e R s m args below meth c α A H locs cells slots lr QF h1 h3 h4 h5 h6 h7 hS kk
  exact lv_idiv h1.1 h1.2.1 hd hz (kk _ ls (.int (x / y) :: st) lr h h5 (j_ok_i (j_ok_t (j_ok_t h6))))
theorem js_iushr {x y : Int32} (hd : decode cc pc = .ok (.iushr, 1)) (h : j_J cc o nL ret ini d xs Q sh mc ms (pc + 1) ls (.int (x.toUInt32 >>> (y.toUInt32 &&& Int32.toUInt32 31)).toInt32 :: st) μ) : j_J cc o nL ret ini d xs Q sh mc ms pc ls (.int y :: .int x :: st) μ := by
  refine j_Go.use ?_
  intro p l e R s m args below meth c α A H locs cells slots lr QF h1 h3 h4 h5 h6 h7 hS kk
  exact lv_iushr h1.1 h1.2.1 hd rfl (kk _ ls (.int (x.toUInt32 >>> (y.toUInt32 &&& Int32.toUInt32 31)).toInt32 :: st) lr h h5 (j_ok_i (j_ok_t (j_ok_t h6))))
theorem js_ladd {x y : Int64} (hd : decode cc pc = .ok (.ladd, 1)) (h : j_J cc o nL ret ini d xs Q sh mc ms (pc + 1) ls (.long (x + y) :: st) μ) : j_J cc o nL ret ini d xs Q sh mc ms pc ls (.long y :: .long x :: st) μ := by
  refine j_Go.use ?_
  intro p l e R s m args below meth c α A H locs cells slots lr QF h1 h3 h4 h5 h6 h7 hS kk
  exact lv_ladd h1.1 h1.2.1 hd (kk _ ls (.long (x + y) :: st) lr h h5 (j_ok_l (j_ok_t (j_ok_t h6))))
theorem js_lmul {x y : Int64} (hd : decode cc pc = .ok (.lmul, 1)) (h : j_J cc o nL ret ini d xs Q sh mc ms (pc + 1) ls (.long (x * y) :: st) μ) : j_J cc o nL ret ini d xs Q sh mc ms pc ls (.long y :: .long x :: st) μ := by
  refine j_Go.use ?_
  intro p l e R s m args below meth c α A H locs cells slots lr QF h1 h3 h4 h5 h6 h7 hS kk
  exact lv_lmul h1.1 h1.2.1 hd (kk _ ls (.long (x * y) :: st) lr h h5 (j_ok_l (j_ok_t (j_ok_t h6))))
theorem js_land {x y : Int64} (hd : decode cc pc = .ok (.land, 1)) (h : j_J cc o nL ret ini d xs Q sh mc ms (pc + 1) ls (.long (x &&& y) :: st) μ) : j_J cc o nL ret ini d xs Q sh mc ms pc ls (.long y :: .long x :: st) μ := by
  refine j_Go.use ?_
  intro p l e R s m args below meth c α A H locs cells slots lr QF h1 h3 h4 h5 h6 h7 hS kk
  exact lv_land h1.1 h1.2.1 hd (kk _ ls (.long (x &&& y) :: st) lr h h5 (j_ok_l (j_ok_t (j_ok_t h6))))
theorem js_lor {x y : Int64} (hd : decode cc pc = .ok (.lor, 1)) (h : j_J cc o nL ret ini d xs Q sh mc ms (pc + 1) ls (.long (x ||| y) :: st) μ) : j_J cc o nL ret ini d xs Q sh mc ms pc ls (.long y :: .long x :: st) μ := by
  refine j_Go.use ?_
  intro p l e R s m args below meth c α A H locs cells slots lr QF h1 h3 h4 h5 h6 h7 hS kk
  exact lv_lor h1.1 h1.2.1 hd (kk _ ls (.long (x ||| y) :: st) lr h h5 (j_ok_l (j_ok_t (j_ok_t h6))))
theorem js_lrem {x y : Int64} (hz : ¬ y = 0) (hd : decode cc pc = .ok (.lrem, 1)) (h : j_J cc o nL ret ini d xs Q sh mc ms (pc + 1) ls (.long (x - x / y * y) :: st) μ) : j_J cc o nL ret ini d xs Q sh mc ms pc ls (.long y :: .long x :: st) μ := by
  refine j_Go.use ?_
  intro p l e R s m args below meth c α A H locs cells slots lr QF h1 h3 h4 h5 h6 h7 hS kk
  exact lv_lrem h1.1 h1.2.1 hd hz (kk _ ls (.long (x - x / y * y) :: st) lr h h5 (j_ok_l (j_ok_t (j_ok_t h6))))
theorem js_lcmp {x y : Int64} (hd : decode cc pc = .ok (.lcmp, 1)) (h : j_J cc o nL ret ini d xs Q sh mc ms (pc + 1) ls (.int (lg_cmp x y) :: st) μ) : j_J cc o nL ret ini d xs Q sh mc ms pc ls (.long y :: .long x :: st) μ := by
  refine j_Go.use ?_
  intro p l e R s m args below meth c α A H locs cells slots lr QF h1 h3 h4 h5 h6 h7 hS kk
  exact W.lcmp h1.1 h1.2.1 hd (kk _ ls (.int (lg_cmp x y) :: st) lr h h5 (j_ok_i (j_ok_t (j_ok_t h6))))
theorem js_lushr {x : Int64} {y : Int32} (hd : decode cc pc = .ok (.lushr, 1)) (h : j_J cc o nL ret ini d xs Q sh mc ms (pc + 1) ls (.long (x.toUInt64 >>> (y.toInt64.toUInt64 &&& Int64.toUInt64 63)).toInt64 :: st) μ) : j_J cc o nL ret ini d xs Q sh mc ms pc ls (.int y :: .long x :: st) μ := by
  refine j_Go.use ?_
  intro p l e R s m args below meth c α A H locs cells slots lr QF h1 h3 h4 h5 h6 h7 hS kk
  exact lv_lushr h1.1 h1.2.1 hd rfl (kk _ ls (.long (x.toUInt64 >>> (y.toInt64.toUInt64 &&& Int64.toUInt64 63)).toInt64 :: st) lr h h5 (j_ok_l (j_ok_t (j_ok_t h6))))
theorem js_lshl {x : Int64} {y : Int32} (hd : decode cc pc = .ok (.lshl, 1)) (h : j_J cc o nL ret ini d xs Q sh mc ms (pc + 1) ls (.long (x <<< (y.toInt64 &&& 63)) :: st) μ) : j_J cc o nL ret ini d xs Q sh mc ms pc ls (.int y :: .long x :: st) μ := by
  refine j_Go.use ?_
  intro p l e R s m args below meth c α A H locs cells slots lr QF h1 h3 h4 h5 h6 h7 hS kk
  exact lv_lshl h1.1 h1.2.1 hd rfl (kk _ ls (.long (x <<< (y.toInt64 &&& 63)) :: st) lr h h5 (j_ok_l (j_ok_t (j_ok_t h6))))
theorem js_i2l {x : Int32} (hd : decode cc pc = .ok (.i2l, 1)) (h : j_J cc o nL ret ini d xs Q sh mc ms (pc + 1) ls (.long x.toInt64 :: st) μ) : j_J cc o nL ret ini d xs Q sh mc ms pc ls (.int x :: st) μ := by
  refine j_Go.use ?_
  intro p l e R s m args below meth c α A H locs cells slots lr QF h1 h3 h4 h5 h6 h7 hS kk
  exact lv_i2l h1.1 h1.2.1 hd rfl (kk _ ls (.long x.toInt64 :: st) lr h h5 (j_ok_l (j_ok_t h6)))
theorem js_l2i {x : Int64} (hd : decode cc pc = .ok (.l2i, 1)) (h : j_J cc o nL ret ini d xs Q sh mc ms (pc + 1) ls (.int x.toInt32 :: st) μ) : j_J cc o nL ret ini d xs Q sh mc ms pc ls (.long x :: st) μ := by
  refine j_Go.use ?_
  intro p l e R s m args below meth c α A H locs cells slots lr QF h1 h3 h4 h5 h6 h7 hS kk
  exact lv_l2i h1.1 h1.2.1 hd rfl (kk _ ls (.int x.toInt32 :: st) lr h h5 (j_ok_i (j_ok_t h6)))
theorem js_i2b {x : Int32} (hd : decode cc pc = .ok (.i2b, 1)) (h : j_J cc o nL ret ini d xs Q sh mc ms (pc + 1) ls (.int x.toInt8.toInt32 :: st) μ) : j_J cc o nL ret ini d xs Q sh mc ms pc ls (.int x :: st) μ := by
  refine j_Go.use ?_
  intro p l e R s m args below meth c α A H locs cells slots lr QF h1 h3 h4 h5 h6 h7 hS kk
  exact lv_i2b h1.1 h1.2.1 hd rfl (kk _ ls (.int x.toInt8.toInt32 :: st) lr h h5 (j_ok_i (j_ok_t h6)))
theorem js_i2c {x : Int32} (hd : decode cc pc = .ok (.i2c, 1)) (h : j_J cc o nL ret ini d xs Q sh mc ms (pc + 1) ls (.int (x.toUInt32 % 65536).toInt32 :: st) μ) : j_J cc o nL ret ini d xs Q sh mc ms pc ls (.int x :: st) μ := by
  refine j_Go.use ?_
  intro p l e R s m args below meth c α A H locs cells slots lr QF h1 h3 h4 h5 h6 h7 hS kk
  exact lv_i2c h1.1 h1.2.1 hd rfl (kk _ ls (.int (x.toUInt32 % 65536).toInt32 :: st) lr h h5 (j_ok_i (j_ok_t h6)))
theorem js_dupi {x : Int32} (hd : decode cc pc = .ok (.dup, 1)) (h : j_J cc o nL ret ini d xs Q sh mc ms (pc + 1) ls (.int x :: .int x :: st) μ) : j_J cc o nL ret ini d xs Q sh mc ms pc ls (.int x :: st) μ := by
  refine j_Go.use ?_
  intro p l e R s m args below meth c α A H locs cells slots lr QF h1 h3 h4 h5 h6 h7 hS kk
  exact lv_dup h1.1 h1.2.1 hd rfl (kk _ ls (.int x :: .int x :: st) lr h h5 (j_ok_i h6))
theorem js_dupr {x : Nat} (hd : decode cc pc = .ok (.dup, 1)) (h : j_J cc o nL ret ini d xs Q sh mc ms (pc + 1) ls (.ref x :: .ref x :: st) μ) : j_J cc o nL ret ini d xs Q sh mc ms pc ls (.ref x :: st) μ := by
  refine j_Go.use ?_
  intro p l e R s m args below meth c α A H locs cells slots lr QF h1 h3 h4 h5 h6 h7 hS kk
  exact lv_dup h1.1 h1.2.1 hd rfl (kk _ ls (.ref x :: .ref x :: st) lr h h5 (j_ok_r (j_ok_h h6) h6))
theorem js_dup2 {i : Int32} {a : Nat} (hd : decode cc pc = .ok (.dup2, 1)) (h : j_J cc o nL ret ini d xs Q sh mc ms (pc + 1) ls (.int i :: .ref a :: .int i :: .ref a :: st) μ) : j_J cc o nL ret ini d xs Q sh mc ms pc ls (.int i :: .ref a :: st) μ := by
  refine j_Go.use ?_
  intro p l e R s m args below meth c α A H locs cells slots lr QF h1 h3 h4 h5 h6 h7 hS kk
  exact lv_dup2_11 h1.1 h1.2.1 hd rfl rfl (kk _ ls (.int i :: .ref a :: .int i :: .ref a :: st) lr h h5 (j_ok_i (j_ok_r (j_ok_h (j_ok_t h6)) h6)))
theorem j_to_eq {pc : Nat} {off : Int} (h : 0 ≤ (pc : Int) + off) : (pc : Int) + off = ((((pc : Int) + off).toNat : Nat) : Int) := (Int.toNat_of_nonneg h).symm
theorem js_goto {off : Int} (ht : 0 ≤ (pc : Int) + off) (hd : decode cc pc = .ok (.goto off, 3)) (h : j_J cc o nL ret ini d xs Q sh mc ms ((pc : Int) + off).toNat ls st μ) : j_J cc o nL ret ini d xs Q sh mc ms pc ls st μ := by
  refine j_Go.use ?_
  intro p l e R s m args below meth c α A H locs cells slots lr QF h1 h3 h4 h5 h6 h7 hS kk
  exact lv_goto h1.1 h1.2.1 hd (j_to_eq ht) (kk _ ls st lr h h5 h6)
theorem js_if {cnd : ClassFile.Cond} {x : Int32} {off : Int} (ht : 0 ≤ (pc : Int) + off) (hd : decode cc pc = .ok (.ifCond cnd off, 3)) (h : j_br cnd x 0 (j_J cc o nL ret ini d xs Q sh mc ms ((pc : Int) + off).toNat ls st μ) (j_J cc o nL ret ini d xs Q sh mc ms (pc + 3) ls st μ)) : j_J cc o nL ret ini d xs Q sh mc ms pc ls (.int x :: st) μ := by
  refine j_Go.use ?_
  intro p l e R s m args below meth c α A H locs cells slots lr QF h1 h3 h4 h5 h6 h7 hS kk
  cases cnd with
  | eq =>
    obtain ⟨kt, kf⟩ := h
    exact lv_if_eq h1.1 h1.2.1 hd (j_to_eq ht) (fun z => kk _ ls st lr (kt z) h5 (j_ok_t h6)) (fun z => kk _ ls st lr ((fun z => kf z) z) h5 (j_ok_t h6))
  | ne =>
    obtain ⟨kt, kf⟩ := h
    exact lv_if_ne h1.1 h1.2.1 hd (j_to_eq ht) (fun z => kk _ ls st lr (kt z) h5 (j_ok_t h6)) (fun z => kk _ ls st lr ((fun z => kf z) z) h5 (j_ok_t h6))
  | lt =>
    obtain ⟨kt, kf⟩ := h
    exact lv_if_lt h1.1 h1.2.1 hd (j_to_eq ht) (fun z => kk _ ls st lr (kt z) h5 (j_ok_t h6)) (fun z => kk _ ls st lr ((fun z => kf (Int32.not_lt.mp z)) z) h5 (j_ok_t h6))
  | ge =>
    obtain ⟨kt, kf⟩ := h
    exact lv_if_ge h1.1 h1.2.1 hd (j_to_eq ht) (fun z => kk _ ls st lr (kt z) h5 (j_ok_t h6)) (fun z => kk _ ls st lr ((fun z => kf (Int32.not_le.mp z)) z) h5 (j_ok_t h6))
  | gt =>
    obtain ⟨kt, kf⟩ := h
    exact lv_if_gt h1.1 h1.2.1 hd (j_to_eq ht) (fun z => kk _ ls st lr (kt z) h5 (j_ok_t h6)) (fun z => kk _ ls st lr ((fun z => kf (Int32.not_lt.mp z)) z) h5 (j_ok_t h6))
  | le =>
    obtain ⟨kt, kf⟩ := h
    exact lv_if_le h1.1 h1.2.1 hd (j_to_eq ht) (fun z => kk _ ls st lr (kt z) h5 (j_ok_t h6)) (fun z => kk _ ls st lr ((fun z => kf (Int32.not_le.mp z)) z) h5 (j_ok_t h6))
theorem js_icmp {cnd : ClassFile.Cond} {x y : Int32} {off : Int} (ht : 0 ≤ (pc : Int) + off) (hd : decode cc pc = .ok (.if_icmp cnd off, 3)) (h : j_br cnd x y (j_J cc o nL ret ini d xs Q sh mc ms ((pc : Int) + off).toNat ls st μ) (j_J cc o nL ret ini d xs Q sh mc ms (pc + 3) ls st μ)) : j_J cc o nL ret ini d xs Q sh mc ms pc ls (.int y :: .int x :: st) μ := by
  refine j_Go.use ?_
  intro p l e R s m args below meth c α A H locs cells slots lr QF h1 h3 h4 h5 h6 h7 hS kk
  cases cnd with
  | eq =>
    obtain ⟨kt, kf⟩ := h
    exact lv_icmp_eq h1.1 h1.2.1 hd (j_to_eq ht) (fun z => kk _ ls st lr (kt z) h5 (j_ok_t (j_ok_t h6))) (fun z => kk _ ls st lr ((fun z => kf z) z) h5 (j_ok_t (j_ok_t h6)))
  | ne =>
    obtain ⟨kt, kf⟩ := h
    exact lv_icmp_ne h1.1 h1.2.1 hd (j_to_eq ht) (fun z => kk _ ls st lr (kt z) h5 (j_ok_t (j_ok_t h6))) (fun z => kk _ ls st lr ((fun z => kf z) z) h5 (j_ok_t (j_ok_t h6)))
  | lt =>
    obtain ⟨kt, kf⟩ := h
    exact lv_icmp_lt h1.1 h1.2.1 hd (j_to_eq ht) (fun z => kk _ ls st lr (kt z) h5 (j_ok_t (j_ok_t h6))) (fun z => kk _ ls st lr ((fun z => kf (Int32.not_lt.mp z)) z) h5 (j_ok_t (j_ok_t h6)))
  | ge =>
    obtain ⟨kt, kf⟩ := h
    exact lv_icmp_ge h1.1 h1.2.1 hd (j_to_eq ht) (fun z => kk _ ls st lr (kt z) h5 (j_ok_t (j_ok_t h6))) (fun z => kk _ ls st lr ((fun z => kf (Int32.not_le.mp z)) z) h5 (j_ok_t (j_ok_t h6)))
  | gt =>
    obtain ⟨kt, kf⟩ := h
    exact lv_icmp_gt h1.1 h1.2.1 hd (j_to_eq ht) (fun z => kk _ ls st lr (kt z) h5 (j_ok_t (j_ok_t h6))) (fun z => kk _ ls st lr ((fun z => kf (Int32.not_lt.mp z)) z) h5 (j_ok_t (j_ok_t h6)))
  | le =>
    obtain ⟨kt, kf⟩ := h
    exact lv_icmp_le h1.1 h1.2.1 hd (j_to_eq ht) (fun z => kk _ ls st lr (kt z) h5 (j_ok_t (j_ok_t h6))) (fun z => kk _ ls st lr ((fun z => kf (Int32.not_le.mp z)) z) h5 (j_ok_t (j_ok_t h6)))
theorem js_table {dflt lo hi : Int} {offs : Array Int} {len : Nat} {x : Int32} (hz : offs.toList.length = (hi - lo + 1).toNat) (hd : decode cc pc = .ok (.tableswitch dflt lo hi offs, len)) (ho : x.toInt < lo ∨ hi < x.toInt → j_to pc dflt fun t => j_J cc o nL ret ini d xs Q sh mc ms t ls st μ) (hi2 : j_tab x (fun off => j_to pc off fun t => j_J cc o nL ret ini d xs Q sh mc ms t ls st μ) offs.toList lo) : j_J cc o nL ret ini d xs Q sh mc ms pc ls (.int x :: st) μ := by
  refine j_Go.use ?_
  intro p l e R s m args below meth c α A H locs cells slots lr QF h1 h3 h4 h5 h6 h7 hS kk
  by_cases hx : x.toInt < lo ∨ hi < x.toInt
  · obtain ⟨g1, g2⟩ := ho hx
    exact lv_tableOut h1.1 h1.2.1 hd hx (j_to_eq g1) (kk _ ls st lr g2 h5 (j_ok_t h6))
  · have hlt : (x.toInt - lo).toNat < offs.toList.length := by omega
    obtain ⟨off, hoff⟩ : ∃ off, offs.toList[(x.toInt - lo).toNat]? = some off := ⟨_, List.getElem?_eq_getElem hlt⟩
    obtain ⟨g1, g2⟩ := j_tab_get offs.toList lo hi2 (x.toInt - lo).toNat off hoff (by omega)
    exact lv_tableIn h1.1 h1.2.1 hd (by omega) (by omega) (by rw [← Array.getElem?_toList]; exact hoff) (j_to_eq g1) (kk _ ls st lr g2 h5 (j_ok_t h6))
theorem js_lookup {dflt : Int} {ps : Array (Int × Int)} {len : Nat} {x : Int32} (hp : (ps.toList.zip (ps.toList.drop 1)).all (fun (a, next) => a.1 < next.1) = true) (hd : decode cc pc = .ok (.lookupswitch dflt ps, len)) (h : j_lku x dflt (fun off => j_to pc off fun t => j_J cc o nL ret ini d xs Q sh mc ms t ls st μ) ps.toList) : j_J cc o nL ret ini d xs Q sh mc ms pc ls (.int x :: st) μ := by
  refine j_Go.use ?_
  intro p l e R s m args below meth c α A H locs cells slots lr QF h1 h3 h4 h5 h6 h7 hS kk
  obtain ⟨g1, g2⟩ := j_lku_get ps.toList h
  exact lv_lookup h1.1 h1.2.1 hd hp rfl (j_to_eq g1) (kk _ ls st lr g2 h5 (j_ok_t h6))
theorem js_min {n : Nat} {x y : Int32} (hm : j_min o n = true) (hd1 : 1 ≤ d) (hst : (st.map fun v => v.category).sum ≤ 8) (hd : decode cc pc = .ok (.invokestatic n, 3)) (h : j_J cc o nL ret ini d xs Q sh mc ms (pc + 3) ls (.int (if y < x then y else x) :: st) μ) : j_J cc o nL ret ini d xs Q sh mc ms pc ls (.int y :: .int x :: st) μ := by
  refine j_Go.use ?_
  intro p l e R s m args below meth c α A H locs cells slots lr QF h1 h3 h4 h5 h6 h7 hS kk
  have hts := h1.2.2.2.2.2.2.2.1
  have hl : (Cond.methodLink (j_cn o) n Lib.Math.min.name).before args s = true := by
    unfold j_min at hm
    simp only [Bool.or_eq_true, Bool.and_eq_true, beq_iff_eq] at hm
    rcases hm with ⟨rfl, rfl⟩ | ⟨rfl, rfl⟩
    · exact hts _ (j_in j_min1.1 rfl)
    · exact hts _ (j_in j_min1.2.1 rfl)
  have hfr := h1.2.2.2.2.2.2.2.2.1
  have hlo := h1.2.2.2.2.2.2.2.2.2
  refine va_mmin h1.1 h1.2.1 (by rw [h1.2.2.1]; exact h5.1.symm) h1.2.2.2.2.2.2.1 hl (hts _ (j_in j_min1.2.2.1 rfl)) (hts _ (j_in j_min1.2.2.2.1 rfl)) (hts _ (j_in j_min1.2.2.2.2 rfl)) (by omega) ?_ (by omega) (by omega) hd (kk _ ls (.int (if y < x then y else x) :: st) lr h h5 (j_ok_i (j_ok_t (j_ok_t h6))))
  have he : ((st.map (j_rn α)).map fun v => v.category) = st.map fun v => v.category := by
    rw [List.map_map]
    exact List.map_congr_left fun v _ => j_rn_cat α v
  rw [he]
  omega
theorem js_sld {i : Int32} {L : Nat} {f : Nat → Int32} (hxs : xs = some (L, f)) (hin : vp_in i L) (hd : decode cc pc = .ok (.iaload, 1)) (h : j_J cc o nL ret ini d xs Q sh mc ms (pc + 1) ls (.int (f i.toNatClampNeg) :: st) μ) : j_J cc o nL ret ini d xs Q sh mc ms pc ls (.int i :: .ref j_sc :: st) μ := by
  refine j_Go.use ?_
  intro p l e R s m args below meth c α A H locs cells slots lr QF h1 h3 h4 h5 h6 h7 hS kk
  subst hxs
  obtain ⟨x1, x2, x3, -⟩ := h7
  exact va_sld h1.1 h1.2.1 x1 x2 x3 hS hin hd (kk _ ls (.int (f i.toNatClampNeg) :: st) lr h h5 (j_ok_i (j_ok_t (j_ok_t h6))))
theorem js_slen {L : Nat} {f : Nat → Int32} (hxs : xs = some (L, f)) (hd : decode cc pc = .ok (.arraylength, 1)) (h : j_J cc o nL ret ini d xs Q sh mc ms (pc + 1) ls (.int (nI L) :: st) μ) : j_J cc o nL ret ini d xs Q sh mc ms pc ls (.ref j_sc :: st) μ := by
  refine j_Go.use ?_
  intro p l e R s m args below meth c α A H locs cells slots lr QF h1 h3 h4 h5 h6 h7 hS kk
  subst hxs
  obtain ⟨x1, x2, x3, -⟩ := h7
  exact va_slen h1.1 h1.2.1 x1 x2 x3 hS hd (kk _ ls (.int (nI L) :: st) lr h h5 (j_ok_i (j_ok_t h6)))
end JS
