/-! THE PLAIN MACHINE. A world is a list of shapes (an array's type and length; an object's number among j_cls and its fields' kinds) and a memory of ints; a reference is a place in the list. j_J: the real machine, at a frame that stands for the plain one, comes to the method's end with Q. j_wp: what one instruction asks. -/
abbrev j_M : Type := Nat → Nat → Int32
/-- a field: none: an int; some none: a reference whose place the memory holds; some (some none): null; some (some (some r)): the reference r -/
abbrev j_K : Type := Option (Option (Option Nat))
abbrev j_S : Type := (FieldType × Nat) ⊕ (Nat × List j_K)
abbrev j_L : Type := List (Option Value)
/-- the place that stands for the law's script -/
abbrev j_sc : Nat := 1000000
def j_rn (α : Nat → Nat) : Value → Value
  | .ref k => .ref (α k)
  | .int v => .int v
  | .long v => .long v
  | .float v => .float v
  | .double v => .double v
  | .null => .null
  | .retAddr v => .retAddr v
def j_fv (α : Nat → Nat) (f : Nat → Int32) (j : Nat) : j_K → Value
  | none => .int (f j)
  | some none => .ref (α (f j).toNatClampNeg)
  | some (some none) => .null
  | some (some (some r)) => .ref (α r)
def j_ce (cA : FieldType → ClassId) (α : Nat → Nat) (f : Nat → Int32) : j_S → va_E
  | .inl (ty, n) => .inl (cA ty, n, if ty = .long then .inr (.inl fun j => (f j).toInt64) else .inl f)
  | .inr (ci, ks) => .inr (ci, ks.mapIdx (fun j k => j_fv α f j k))
def j_w (cA : FieldType → ClassId) (α : Nat → Nat) (sh : List j_S) (μ : j_M) : va_W := sh.mapIdx (fun k s => (α k, j_ce cA α (μ k) s))
def j_row (μ : j_M) (a : Nat) (f : Nat → Int32) : j_M := fun b => if b = a then f else μ b
def j_up (μ : j_M) (a i : Nat) (v : Int32) : j_M := j_row μ a (upd (μ a) i v)
theorem j_w_get {cA : FieldType → ClassId} {α : Nat → Nat} {sh : List j_S} {μ : j_M} {k : Nat} {s : j_S} (h : sh[k]? = some s) : (j_w cA α sh μ)[k]? = some (α k, j_ce cA α (μ k) s) := by
  unfold j_w
  rw [List.getElem?_mapIdx, h]
  rfl
theorem j_w_len {cA : FieldType → ClassId} {α : Nat → Nat} {sh : List j_S} {μ : j_M} : (j_w cA α sh μ).length = sh.length := by
  unfold j_w
  exact List.length_mapIdx
theorem j_w_row {cA : FieldType → ClassId} {α : Nat → Nat} {sh : List j_S} {μ : j_M} {a : Nat} {s : j_S} (h : sh[a]? = some s) (f : Nat → Int32) : j_w cA α sh (j_row μ a f) = (j_w cA α sh μ).set a (α a, j_ce cA α f s) := by
  apply List.ext_getElem?
  intro k
  rw [List.getElem?_set, j_w_len]
  unfold j_w
  rw [List.getElem?_mapIdx, List.getElem?_mapIdx]
  by_cases hk : a = k
  · subst hk
    have hl : a < sh.length := (List.getElem?_eq_some_iff.mp h).1
    rw [h, if_pos rfl, if_pos hl]
    simp [j_row]
  · rw [if_neg hk]
    simp [j_row, Ne.symm hk]
theorem j_w_shape {cA : FieldType → ClassId} {α : Nat → Nat} {sh : List j_S} {μ : j_M} {a : Nat} {s' : j_S} : j_w cA α (sh.set a s') μ = (j_w cA α sh μ).set a (α a, j_ce cA α (μ a) s') := by
  apply List.ext_getElem?
  intro k
  rw [List.getElem?_set, j_w_len]
  unfold j_w
  rw [List.getElem?_mapIdx, List.getElem?_mapIdx, List.getElem?_set]
  by_cases hk : a = k
  · subst hk
    by_cases hl : a < sh.length <;> simp [hl]
  · rw [if_neg hk, if_neg hk]
theorem j_ob_put {α : Nat → Nat} {f : Nat → Int32} {ks : List j_K} {k : Nat} (v : Int32) (h : ks[k]? = some none) : (ks.mapIdx (fun j x => j_fv α f j x)).set k (.int v) = ks.mapIdx (fun j x => j_fv α (upd f k v) j x) := by
  apply List.ext_getElem?
  intro i
  rw [List.getElem?_set, List.getElem?_mapIdx, List.getElem?_mapIdx, List.length_mapIdx]
  have hl : k < ks.length := (List.getElem?_eq_some_iff.mp h).1
  by_cases hi : k = i
  · subst hi
    rw [h, if_pos rfl, if_pos hl]
    simp [j_fv, upd]
  · rw [if_neg hi]
    cases ks[i]? with
    | none => rfl
    | some x => rcases x with _ | _ | _ | r <;> simp [j_fv, upd, Ne.symm hi]
theorem j_ob_putv {α : Nat → Nat} {f : Nat → Int32} {ks : List j_K} {k r : Nat} (hr : r < 2147483648) (h : ks[k]? = some (some none)) : (ks.mapIdx (fun j x => j_fv α f j x)).set k (.ref (α r)) = ks.mapIdx (fun j x => j_fv α (upd f k (nI r)) j x) := by
  apply List.ext_getElem?
  intro i
  rw [List.getElem?_set, List.getElem?_mapIdx, List.getElem?_mapIdx, List.length_mapIdx]
  have hl : k < ks.length := (List.getElem?_eq_some_iff.mp h).1
  by_cases hi : k = i
  · subst hi
    rw [h, if_pos rfl, if_pos hl]
    simp [j_fv, upd, nI_clamp (show r < 2 ^ 31 by omega)]
  · rw [if_neg hi]
    cases ks[i]? with
    | none => rfl
    | some x => rcases x with _ | _ | _ | r <;> simp [j_fv, upd, Ne.symm hi]
theorem j_ob_putw {α : Nat → Nat} {f : Nat → Int32} {ks : List j_K} {k r : Nat} (hr : r < 2147483648) (hl : k < ks.length) : (ks.mapIdx (fun j x => j_fv α f j x)).set k (.ref (α r)) = (ks.set k (some none)).mapIdx (fun j x => j_fv α (upd f k (nI r)) j x) := by
  apply List.ext_getElem?
  intro i
  rw [List.getElem?_set, List.getElem?_mapIdx, List.getElem?_mapIdx, List.length_mapIdx, List.getElem?_set]
  by_cases hi : k = i
  · subst hi
    simp [j_fv, hl, upd, nI_clamp (show r < 2 ^ 31 by omega)]
  · rw [if_neg hi, if_neg hi]
    cases ks[i]? with
    | none => rfl
    | some x => rcases x with _ | _ | _ | r <;> simp [j_fv, upd, Ne.symm hi]
theorem j_ob_putr {α : Nat → Nat} {f : Nat → Int32} {ks : List j_K} {k r : Nat} : (ks.mapIdx (fun j x => j_fv α f j x)).set k (.ref (α r)) = (ks.set k (some (some (some r)))).mapIdx (fun j x => j_fv α f j x) := by
  apply List.ext_getElem?
  intro i
  rw [List.getElem?_set, List.getElem?_mapIdx, List.getElem?_mapIdx, List.length_mapIdx, List.getElem?_set]
  by_cases hi : k = i
  · subst hi
    by_cases hl : k < ks.length <;> simp [j_fv, hl]
  · rw [if_neg hi, if_neg hi]
/-- all references of the world lie in it -/
def j_okr (n : Nat) (sh : List j_S) (μ : j_M) : Prop := ∀ (a ci : Nat) (ks : List j_K), sh[a]? = some (.inr (ci, ks)) → ∀ (j : Nat) (x : Option (Option Nat)), ks[j]? = some (some x) → (x = none → (μ a j).toNatClampNeg < n) ∧ ∀ r, x = some (some r) → r < n
theorem j_w_grow {cA : FieldType → ClassId} {α : Nat → Nat} {sh : List j_S} {μ : j_M} {q : Nat} {s : j_S} {f : Nat → Int32} (h : j_okr sh.length sh μ) : j_w cA (fun k => if k = sh.length then q else α k) (sh ++ [s]) (j_row μ sh.length f) = j_w cA α sh μ ++ [(q, j_ce cA (fun k => if k = sh.length then q else α k) f s)] := by
  apply List.ext_getElem?
  intro k
  by_cases hk : k < sh.length
  · rw [List.getElem?_append_left (by rw [j_w_len]; exact hk)]
    unfold j_w
    rw [List.getElem?_mapIdx, List.getElem?_mapIdx, List.getElem?_append_left hk]
    cases hs : sh[k]? with
    | none => rfl
    | some x =>
      have hne : k ≠ sh.length := Nat.ne_of_lt hk
      simp only [Option.map_some, if_neg hne, j_row]
      rcases x with ⟨ty, n⟩ | ⟨ci, ks⟩
      · rfl
      · simp only [j_ce]
        congr 4
        apply List.ext_getElem?
        intro j
        rw [List.getElem?_mapIdx, List.getElem?_mapIdx]
        cases hj : ks[j]? with
        | none => rfl
        | some x =>
          rcases x with _ | _ | _ | r
          · rfl
          · have h1 := (h k ci ks hs j _ hj).1 rfl
            simp only [Option.map_some, j_fv, if_neg (Nat.ne_of_lt h1)]
          · rfl
          · have h1 := (h k ci ks hs j _ hj).2 r rfl
            simp only [Option.map_some, j_fv, if_neg (Nat.ne_of_lt h1)]
  · rw [List.getElem?_append_right (by rw [j_w_len]; omega), j_w_len]
    unfold j_w
    rw [List.getElem?_mapIdx, List.getElem?_append_right (by omega)]
    by_cases hk2 : k = sh.length
    · subst hk2
      simp [j_row]
    · have h0 : k - sh.length = (k - sh.length - 1) + 1 := by omega
      rw [h0]
      simp
/-- the locals -/
def j_okv (n : Nat) (v : Value) : Prop := ∀ k, v = .ref k → k < n ∨ k = j_sc
def j_Lr (α : Nat → Nat) (n nL : Nat) (ls : j_L) (lr : Array Slot) : Prop := lr.size = nL ∧ lv_wf lr ∧ ls.length = nL ∧ ∀ (i : Nat) (v : Value), ls[i]? = some (some v) → lr[i]? = some (.val (j_rn α v)) ∧ j_okv n v
def j_k1 : Option Value → Option Value
  | some (.long _) => none
  | some (.double _) => none
  | some (.int v) => some (.int v)
  | some (.ref v) => some (.ref v)
  | some (.float v) => some (.float v)
  | some .null => some .null
  | some (.retAddr v) => some (.retAddr v)
  | none => none
def j_ld : j_L → Nat → Option Value
  | [], _ => none
  | x :: _, 0 => x
  | _ :: l, n + 1 => j_ld l n
def j_st1 : j_L → Nat → Value → j_L
  | [], _, _ => []
  | _ :: l, 0, v => some v :: l
  | x :: l, 1, v => j_k1 x :: j_st1 l 0 v
  | x :: l, n + 2, v => x :: j_st1 l (n + 1) v
def j_st2 : j_L → Nat → Value → j_L
  | [], _, _ => []
  | [_], 0, v => [some v]
  | _ :: _ :: l, 0, v => some v :: none :: l
  | x :: l, 1, v => j_k1 x :: j_st2 l 0 v
  | x :: l, n + 2, v => x :: j_st2 l (n + 1) v
theorem j_ld_get : ∀ (l : j_L) (n : Nat), j_ld l n = (l[n]?).join
  | [], n => by simp [j_ld]
  | x :: l, 0 => by simp [j_ld]
  | x :: l, n + 1 => by simp [j_ld, j_ld_get l n]
theorem j_k1_some {x : Option Value} {v : Value} (h : j_k1 x = some v) : x = some v ∧ v.category = 1 := by
  rcases x with _ | x
  · cases h
  · cases x <;> cases h <;> exact ⟨rfl, rfl⟩
theorem j_st1_len : ∀ (l : j_L) (n : Nat) (v : Value), (j_st1 l n v).length = l.length
  | [], _, _ => rfl
  | _ :: _, 0, _ => rfl
  | x :: l, 1, v => by simp [j_st1, j_st1_len l 0 v]
  | x :: l, n + 2, v => by simp [j_st1, j_st1_len l (n + 1) v]
theorem j_st2_len : ∀ (l : j_L) (n : Nat) (v : Value), (j_st2 l n v).length = l.length
  | [], _, _ => rfl
  | [_], 0, _ => rfl
  | _ :: _ :: _, 0, _ => rfl
  | x :: l, 1, v => by simp [j_st2, j_st2_len l 0 v]
  | x :: l, n + 2, v => by simp [j_st2, j_st2_len l (n + 1) v]
theorem j_st1_get : ∀ (l : j_L) (n : Nat) (v : Value) (j : Nat) (w : Value), (j_st1 l n v)[j]? = some (some w) → (j = n ∧ w = v) ∨ (j ≠ n ∧ l[j]? = some (some w) ∧ (j + 1 = n → w.category = 1))
  | [], _, _, j, w, h => by simp [j_st1] at h
  | x :: l, 0, v, j, w, h => by
    cases j with
    | zero => simp [j_st1] at h; exact Or.inl ⟨rfl, h.symm⟩
    | succ j => simp [j_st1] at h; exact Or.inr ⟨by omega, by simpa using h, by omega⟩
  | x :: l, 1, v, j, w, h => by
    cases j with
    | zero =>
      simp [j_st1] at h
      obtain ⟨h1, h2⟩ := j_k1_some h
      exact Or.inr ⟨by omega, by simp [h1], fun _ => h2⟩
    | succ j =>
      simp only [j_st1, List.getElem?_cons_succ] at h
      rcases j_st1_get l 0 v j w h with ⟨h1, h2⟩ | ⟨h1, h2, h3⟩
      · exact Or.inl ⟨by omega, h2⟩
      · exact Or.inr ⟨by omega, by simpa using h2, by omega⟩
  | x :: l, n + 2, v, j, w, h => by
    cases j with
    | zero => simp [j_st1] at h; exact Or.inr ⟨by omega, by simp [h], by omega⟩
    | succ j =>
      simp only [j_st1, List.getElem?_cons_succ] at h
      rcases j_st1_get l (n + 1) v j w h with ⟨h1, h2⟩ | ⟨h1, h2, h3⟩
      · exact Or.inl ⟨by omega, h2⟩
      · exact Or.inr ⟨by omega, by simpa using h2, fun e => h3 (by omega)⟩
theorem j_st2_get : ∀ (l : j_L) (n : Nat) (v : Value) (j : Nat) (w : Value), (j_st2 l n v)[j]? = some (some w) → (j = n ∧ w = v) ∨ (j ≠ n ∧ j ≠ n + 1 ∧ l[j]? = some (some w) ∧ (j + 1 = n → w.category = 1))
  | [], _, _, j, w, h => by simp [j_st2] at h
  | [x], 0, v, j, w, h => by
    cases j with
    | zero => simp [j_st2] at h; exact Or.inl ⟨rfl, h.symm⟩
    | succ j => simp [j_st2] at h
  | x :: y :: l, 0, v, j, w, h => by
    match j, h with
    | 0, h => simp [j_st2] at h; exact Or.inl ⟨rfl, h.symm⟩
    | 1, h => simp [j_st2] at h
    | j + 2, h => simp [j_st2] at h; exact Or.inr ⟨by omega, by omega, by simpa using h, by omega⟩
  | x :: l, 1, v, j, w, h => by
    cases j with
    | zero =>
      simp [j_st2] at h
      obtain ⟨h1, h2⟩ := j_k1_some h
      exact Or.inr ⟨by omega, by omega, by simp [h1], fun _ => h2⟩
    | succ j =>
      simp only [j_st2, List.getElem?_cons_succ] at h
      rcases j_st2_get l 0 v j w h with ⟨h1, h2⟩ | ⟨h1, h1', h2, h3⟩
      · exact Or.inl ⟨by omega, h2⟩
      · exact Or.inr ⟨by omega, by omega, by simpa using h2, by omega⟩
  | x :: l, n + 2, v, j, w, h => by
    cases j with
    | zero => simp [j_st2] at h; exact Or.inr ⟨by omega, by omega, by simp [h], by omega⟩
    | succ j =>
      simp only [j_st2, List.getElem?_cons_succ] at h
      rcases j_st2_get l (n + 1) v j w h with ⟨h1, h2⟩ | ⟨h1, h1', h2, h3⟩
      · exact Or.inl ⟨by omega, h2⟩
      · exact Or.inr ⟨by omega, by omega, by simpa using h2, fun e => h3 (by omega)⟩
/-- the known locals as the kit lists them -/
def j_as (α : Nat → Nat) (ls : j_L) : List (Nat × Value) := (List.range ls.length).filterMap (fun i => (j_ld ls i).map (fun v => (i, j_rn α v)))
theorem j_as_mem {α : Nat → Nat} {ls : j_L} {i : Nat} {v : Value} (h : ls[i]? = some (some v)) : (i, j_rn α v) ∈ j_as α ls := by
  unfold j_as
  refine List.mem_filterMap.mpr ⟨i, List.mem_range.mpr (List.getElem?_eq_some_iff.mp h).1, ?_⟩
  rw [j_ld_get, h]
  rfl
theorem j_as_of {α : Nat → Nat} {ls : j_L} {q : Nat × Value} (h : q ∈ j_as α ls) : ∃ v, ls[q.1]? = some (some v) ∧ q.2 = j_rn α v := by
  unfold j_as at h
  obtain ⟨i, -, h2⟩ := List.mem_filterMap.mp h
  obtain ⟨v, h3, h4⟩ := Option.map_eq_some_iff.mp h2
  subst h4
  rw [j_ld_get] at h3
  refine ⟨v, ?_, rfl⟩
  cases h5 : ls[i]? with
  | none => rw [h5] at h3; cases h3
  | some x => rw [h5] at h3; exact congrArg some h3
theorem j_rn_cat (α : Nat → Nat) (v : Value) : (j_rn α v).category = v.category := by cases v <;> rfl
theorem j_Lr.has {α : Nat → Nat} {n nL : Nat} {ls : j_L} {lr : Array Slot} (h : j_Lr α n nL ls lr) : lv_has lr nL (j_as α ls) := by
  refine ⟨h.1, h.2.1, fun q hq => ?_⟩
  obtain ⟨v, h1, h2⟩ := j_as_of hq
  rw [h2]
  exact (h.2.2.2 q.1 v h1).1
theorem j_Lr.get {α : Nat → Nat} {n nL : Nat} {ls : j_L} {lr : Array Slot} (h : j_Lr α n nL ls lr) {i : Nat} {v : Value} (hv : j_ld ls i = some v) : lr[i]? = some (.val (j_rn α v)) ∧ j_okv n v := by
  refine h.2.2.2 i v ?_
  rw [j_ld_get] at hv
  cases h5 : ls[i]? with
  | none => rw [h5] at hv; cases hv
  | some x => rw [h5] at hv; exact congrArg some hv
theorem j_Lr.lt {α : Nat → Nat} {n nL : Nat} {ls : j_L} {lr : Array Slot} (h : j_Lr α n nL ls lr) {i : Nat} {v : Value} (hv : j_ld ls i = some v) : i < nL := by
  have h1 := (h.get hv).1
  rw [← h.1]
  exact (Array.getElem?_eq_some_iff.mp h1).1
theorem j_Lr.set1 {α : Nat → Nat} {n nL : Nat} {ls : j_L} {lr lr' : Array Slot} (h : j_Lr α n nL ls lr) {i : Nat} {v : Value} (hv : j_okv n v) (h' : lv_has lr' nL ((i, j_rn α v) :: (j_as α ls).filter (fun q => !(q.1 == i) && !(q.1 + 1 == i && q.2.category == 2)))) : j_Lr α n nL (j_st1 ls i v) lr' := by
  refine ⟨h'.1, h'.2.1, (j_st1_len ls i v).trans h.2.2.1, fun j w hj => ?_⟩
  rcases j_st1_get ls i v j w hj with ⟨h1, h2⟩ | ⟨h1, h2, h3⟩
  · subst h1; subst h2
    exact ⟨h'.2.2 (j, j_rn α w) List.mem_cons_self, hv⟩
  · refine ⟨h'.2.2 (j, j_rn α w) (List.mem_cons_of_mem _ (List.mem_filter.mpr ⟨j_as_mem h2, ?_⟩)), (h.2.2.2 j w h2).2⟩
    simp only [Bool.and_eq_true, Bool.not_eq_true', beq_eq_false_iff_ne, ne_eq, Bool.and_eq_false_iff, j_rn_cat]
    refine ⟨h1, ?_⟩
    by_cases e : j + 1 = i
    · exact Or.inr (by rw [h3 e]; decide)
    · exact Or.inl e
theorem j_Lr.set2 {α : Nat → Nat} {n nL : Nat} {ls : j_L} {lr lr' : Array Slot} (h : j_Lr α n nL ls lr) {i : Nat} {v : Value} (hv : j_okv n v) (h' : lv_has lr' nL ((i, j_rn α v) :: (j_as α ls).filter (fun q => !(q.1 == i) && (!(q.1 == i + 1) && !(q.1 + 1 == i && q.2.category == 2))))) : j_Lr α n nL (j_st2 ls i v) lr' := by
  refine ⟨h'.1, h'.2.1, (j_st2_len ls i v).trans h.2.2.1, fun j w hj => ?_⟩
  rcases j_st2_get ls i v j w hj with ⟨h1, h2⟩ | ⟨h1, h1', h2, h3⟩
  · subst h1; subst h2
    exact ⟨h'.2.2 (j, j_rn α w) List.mem_cons_self, hv⟩
  · refine ⟨h'.2.2 (j, j_rn α w) (List.mem_cons_of_mem _ (List.mem_filter.mpr ⟨j_as_mem h2, ?_⟩)), (h.2.2.2 j w h2).2⟩
    simp only [Bool.and_eq_true, Bool.not_eq_true', beq_eq_false_iff_ne, ne_eq, Bool.and_eq_false_iff, j_rn_cat]
    refine ⟨h1, h1', ?_⟩
    by_cases e : j + 1 = i
    · exact Or.inr (by rw [h3 e]; decide)
    · exact Or.inl e
theorem j_okv_ext {n n' : Nat} {v : Value} (h : j_okv n v) (hn : n ≤ n') : j_okv n' v := fun k hk => (h k hk).elim (fun z => Or.inl (Nat.lt_of_lt_of_le z hn)) Or.inr
theorem j_rn_ext {α α' : Nat → Nat} {n : Nat} {v : Value} (h : j_okv n v) (ha : ∀ k, k < n ∨ k = j_sc → α' k = α k) : j_rn α' v = j_rn α v := by
  cases v with
  | ref k => simp only [j_rn]; rw [ha k (h k rfl)]
  | _ => rfl
theorem j_Lr.ext {α α' : Nat → Nat} {n n' nL : Nat} {ls : j_L} {lr : Array Slot} (h : j_Lr α n nL ls lr) (hn : n ≤ n') (ha : ∀ k, k < n ∨ k = j_sc → α' k = α k) : j_Lr α' n' nL ls lr := by
  refine ⟨h.1, h.2.1, h.2.2.1, fun i v hv => ?_⟩
  obtain ⟨h1, h2⟩ := h.2.2.2 i v hv
  rw [j_rn_ext h2 ha]
  exact ⟨h1, j_okv_ext h2 hn⟩
theorem j_map_ext {α α' : Nat → Nat} {n : Nat} {st : List Value} (h : ∀ v ∈ st, j_okv n v) (ha : ∀ k, k < n ∨ k = j_sc → α' k = α k) : st.map (j_rn α') = st.map (j_rn α) := List.map_congr_left fun v hv => j_rn_ext (h v hv) ha
/-- fewer known locals -/
def j_le : j_L → j_L → Prop
  | [], [] => True
  | x :: l, y :: k => (x = none ∨ x = y) ∧ j_le l k
  | _, _ => False
theorem j_le_get : ∀ (l k : j_L), j_le l k → l.length = k.length ∧ ∀ (i : Nat) (v : Value), l[i]? = some (some v) → k[i]? = some (some v)
  | [], [], _ => ⟨rfl, fun _ _ h => h⟩
  | x :: l, y :: k, h => by
    obtain ⟨h1, h2⟩ := j_le_get l k h.2
    refine ⟨by simp [h1], fun i v hv => ?_⟩
    cases i with
    | zero =>
      simp only [List.getElem?_cons_zero, Option.some.injEq] at hv ⊢
      rcases h.1 with e | e
      · rw [e] at hv; cases hv
      · rw [← e]; exact hv
    | succ i =>
      simp only [List.getElem?_cons_succ] at hv ⊢
      exact h2 i v hv
  | [], _ :: _, h => h.elim
  | _ :: _, [], h => h.elim
theorem j_Lr.le {α : Nat → Nat} {n nL : Nat} {ls k : j_L} {lr : Array Slot} (h : j_Lr α n nL k lr) (hl : j_le ls k) : j_Lr α n nL ls lr := by
  obtain ⟨h1, h2⟩ := j_le_get ls k hl
  exact ⟨h.1, h.2.1, h1.trans h.2.2.1, fun i v hv => h.2.2.2 i v (h2 i v hv)⟩
