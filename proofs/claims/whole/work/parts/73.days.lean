/-! days counted by stretches are days counted one by one: plain numbers -/
def n_nc (F E : Nat → Nat) (day d : Nat) : Nat → Nat
  | 0 => d + 1
  | j + 1 => if day < F j then min (n_nc F E day d j) (F j) else if day ≤ E j then min (n_nc F E day d j) (E j + 1) else n_nc F E day d j
def n_dy (F E : Nat → Nat) (d c : Nat) : Nat → Nat
  | 0 => 0
  | s + 1 => if n_dy F E d c s ≤ d then n_nc F E (n_dy F E d c s) d c else n_dy F E d c s
def n_fd (F E : Nat → Nat) (K : Nat → Bool) (d c : Nat) : Nat → Nat
  | 0 => 0
  | s + 1 => if n_dy F E d c s ≤ d then (if K (n_dy F E d c s) = true then n_fd F E K d c s + (n_nc F E (n_dy F E d c s) d c - n_dy F E d c s) else n_fd F E K d c s) else n_fd F E K d c s
theorem n_nc_lo {F E : Nat → Nat} {day d : Nat} (h : day ≤ d) : ∀ c, day < n_nc F E day d c ∧ n_nc F E day d c ≤ d + 1
  | 0 => by unfold n_nc; omega
  | c + 1 => by
    have := n_nc_lo (F := F) (E := E) h c
    unfold n_nc
    split
    · omega
    · split <;> omega
theorem n_nc_le {F E : Nat → Nat} {day d : Nat} : ∀ c j, j < c → (day < F j → n_nc F E day d c ≤ F j) ∧ (F j ≤ day → day ≤ E j → n_nc F E day d c ≤ E j + 1)
  | 0, j, h => by omega
  | c + 1, j, h => by
    unfold n_nc
    by_cases e : j = c
    · subst e
      constructor
      · intro z
        rw [if_pos z]
        omega
      · intro z1 z2
        rw [if_neg (by omega), if_pos z2]
        omega
    · have := n_nc_le (F := F) (E := E) (day := day) (d := d) c j (by omega)
      constructor
      · intro z
        have h1 := this.1 z
        split
        · omega
        · split <;> omega
      · intro z1 z2
        have h1 := this.2 z1 z2
        split
        · omega
        · split <;> omega
theorem n_nc_at {F E : Nat → Nat} {day d : Nat} : ∀ c, n_nc F E day d c = d + 1 ∨ ∃ j, j < c ∧ (day < F j ∧ n_nc F E day d c = F j ∨ day ≤ E j ∧ n_nc F E day d c = E j + 1)
  | 0 => Or.inl rfl
  | c + 1 => by
    have ih := n_nc_at (F := F) (E := E) (day := day) (d := d) c
    unfold n_nc
    by_cases h1 : day < F c
    · rw [if_pos h1]
      by_cases h2 : n_nc F E day d c ≤ F c
      · rw [Nat.min_eq_left h2]
        rcases ih with h | ⟨j, hj, h⟩
        · exact Or.inl h
        · exact Or.inr ⟨j, by omega, h⟩
      · rw [Nat.min_eq_right (by omega)]
        exact Or.inr ⟨c, by omega, Or.inl ⟨h1, rfl⟩⟩
    · rw [if_neg h1]
      by_cases h3 : day ≤ E c
      · rw [if_pos h3]
        by_cases h2 : n_nc F E day d c ≤ E c + 1
        · rw [Nat.min_eq_left h2]
          rcases ih with h | ⟨j, hj, h⟩
          · exact Or.inl h
          · exact Or.inr ⟨j, by omega, h⟩
        · rw [Nat.min_eq_right (by omega)]
          exact Or.inr ⟨c, by omega, Or.inr ⟨h3, rfl⟩⟩
      · rw [if_neg h3]
        rcases ih with h | ⟨j, hj, h⟩
        · exact Or.inl h
        · exact Or.inr ⟨j, by omega, h⟩
theorem cnt_mono {g h : Nat → Bool} : ∀ c, (∀ j, j < c → g j = true → h j = true) → cnt g c ≤ cnt h c
  | 0, _ => Nat.le_refl _
  | c + 1, H => by
    have := cnt_mono c (fun j hj => H j (by omega))
    have h2 := H c (by omega)
    unfold cnt
    by_cases e : g c = true
    · rw [if_pos e, if_pos (h2 e)]; omega
    · rw [if_neg e]; omega
theorem cnt_lt {g h : Nat → Bool} : ∀ c, (∀ j, j < c → g j = true → h j = true) → (∃ j, j < c ∧ h j = true ∧ ¬ g j = true) → cnt g c < cnt h c
  | 0, _, ⟨j, hj, _⟩ => by omega
  | c + 1, H, ⟨j, hj, h1, h2⟩ => by
    have hm := cnt_mono c (fun j hj => H j (by omega))
    unfold cnt
    by_cases e : j = c
    · subst e
      rw [if_neg h2, if_pos h1]
      omega
    · have := cnt_lt c (fun j hj => H j (by omega)) ⟨j, by omega, h1, h2⟩
      have h3 := H c (by omega)
      by_cases e2 : g c = true
      · rw [if_pos e2, if_pos (h3 e2)]; omega
      · rw [if_neg e2]; omega
theorem cnt_ext {g h : Nat → Bool} : ∀ c, (∀ j, j < c → g j = h j) → cnt g c = cnt h c
  | 0, _ => rfl
  | c + 1, H => by
    unfold cnt
    rw [cnt_ext c (fun j hj => H j (by omega)), H c (by omega)]
/-- how many changes lie ahead of a day -/
def n_M (F E : Nat → Nat) (d c day : Nat) : Nat := cnt (fun j => decide (day < F j)) c + cnt (fun j => decide (day < E j + 1)) c + (if day < d + 1 then 1 else 0)
theorem n_M_lt {F E : Nat → Nat} {d c day : Nat} (h : day ≤ d) : n_M F E d c (n_nc F E day d c) < n_M F E d c day := by
  have lo := n_nc_lo (F := F) (E := E) h c
  have at' := n_nc_at (F := F) (E := E) (day := day) (d := d) c
  unfold n_M
  generalize n_nc F E day d c = x at lo at'
  have m1 : cnt (fun j => decide (x < F j)) c ≤ cnt (fun j => decide (day < F j)) c := cnt_mono c (fun j _ z => by simp at z ⊢; omega)
  have m2 : cnt (fun j => decide (x < E j + 1)) c ≤ cnt (fun j => decide (day < E j + 1)) c := cnt_mono c (fun j _ z => by simp at z ⊢; omega)
  rw [if_pos (show day < d + 1 by omega)]
  rcases at' with e | ⟨j, hj, ⟨h1, e⟩ | ⟨h1, e⟩⟩
  · rw [if_neg (by omega)]; omega
  · have := cnt_lt (g := fun j => decide (x < F j)) (h := fun j => decide (day < F j)) c (fun j _ z => by simp at z ⊢; omega) ⟨j, hj, by simp; exact h1, by simp; omega⟩
    split <;> omega
  · have := cnt_lt (g := fun j => decide (x < E j + 1)) (h := fun j => decide (day < E j + 1)) c (fun j _ z => by simp at z ⊢; omega) ⟨j, hj, by simp; omega, by simp; omega⟩
    split <;> omega
theorem n_dy_le {F E : Nat → Nat} {d c : Nat} : ∀ s, n_dy F E d c s ≤ d + 1
  | 0 => by unfold n_dy; omega
  | s + 1 => by
    unfold n_dy
    split
    · next h => exact (n_nc_lo h c).2
    · exact n_dy_le s
theorem n_dy_M {F E : Nat → Nat} {d c : Nat} : ∀ s, n_dy F E d c s ≤ d → n_M F E d c (n_dy F E d c s) + s ≤ 2 * c + 1
  | 0, _ => by
    have h1 := cnt_le (fun j => decide (n_dy F E d c 0 < F j)) c
    have h2 := cnt_le (fun j => decide (n_dy F E d c 0 < E j + 1)) c
    unfold n_M
    split <;> omega
  | s + 1, h => by
    by_cases e : n_dy F E d c s ≤ d
    · have h1 := n_dy_M s e
      have h2 : n_dy F E d c (s + 1) = n_nc F E (n_dy F E d c s) d c := by
        show (if n_dy F E d c s ≤ d then _ else _) = _
        rw [if_pos e]
      have h3 := n_M_lt (F := F) (E := E) (c := c) e
      rw [h2]
      omega
    · have h2 : n_dy F E d c (s + 1) = n_dy F E d c s := by
        show (if n_dy F E d c s ≤ d then _ else _) = _
        rw [if_neg e]
      omega
theorem n_dy_end {F E : Nat → Nat} {d c : Nat} (hc : c ≤ 100) : n_dy F E d c 201 = d + 1 := by
  have h1 := n_dy_le (F := F) (E := E) (d := d) (c := c) 201
  by_cases e : n_dy F E d c 201 ≤ d
  · have h2 := n_dy_M (F := F) (E := E) 201 e
    have h3 : 1 ≤ n_M F E d c (n_dy F E d c 201) := by
      unfold n_M
      rw [if_pos (show n_dy F E d c 201 < d + 1 by omega)]
      omega
    omega
  · omega
theorem cnt_seg {K : Nat → Bool} {a : Nat} : ∀ k, (∀ t, a ≤ t → t < a + k → K t = K a) → cnt K (a + k) = cnt K a + (if K a = true then k else 0)
  | 0, _ => by split <;> rfl
  | k + 1, H => by
    have h1 := cnt_seg k (fun t a b => H t a (by omega))
    show cnt K (a + k) + (if K (a + k) = true then 1 else 0) = _
    rw [h1, H (a + k) (by omega) (by omega)]
    split <;> omega
theorem n_dy_s (F E : Nat → Nat) (d c s : Nat) : n_dy F E d c (s + 1) = if n_dy F E d c s ≤ d then n_nc F E (n_dy F E d c s) d c else n_dy F E d c s := rfl
theorem n_fd_s (F E : Nat → Nat) (K : Nat → Bool) (d c s : Nat) : n_fd F E K d c (s + 1) = if n_dy F E d c s ≤ d then (if K (n_dy F E d c s) = true then n_fd F E K d c s + (n_nc F E (n_dy F E d c s) d c - n_dy F E d c s) else n_fd F E K d c s) else n_fd F E K d c s := rfl
theorem n_fd_eq {F E : Nat → Nat} {K : Nat → Bool} {d c : Nat} (hK : ∀ day t, day ≤ d → day ≤ t → t < n_nc F E day d c → K t = K day) : ∀ s, n_fd F E K d c s = cnt K (n_dy F E d c s)
  | 0 => rfl
  | s + 1 => by
    have ih := n_fd_eq hK s
    rw [n_fd_s, n_dy_s]
    by_cases e : n_dy F E d c s ≤ d
    · rw [if_pos e, if_pos e]
      have lo := n_nc_lo (F := F) (E := E) e c
      have hs := cnt_seg (K := K) (a := n_dy F E d c s) (n_nc F E (n_dy F E d c s) d c - n_dy F E d c s) (fun t a b => hK _ t e a (by omega))
      rw [show n_dy F E d c s + (n_nc F E (n_dy F E d c s) d c - n_dy F E d c s) = n_nc F E (n_dy F E d c s) d c by omega] at hs
      rw [hs, ih]
      split <;> omega
    · rw [if_neg e, if_neg e]
      exact ih
/-! the same of the class's words -/
theorem k_nc_n {P fr to : Nat → Int32} {F E : Nat → Nat} {day d : Nat} (hd : d ≤ 20000) (hday : day ≤ 20000) : ∀ c, (∀ j, j < c → fr (P j).toNatClampNeg = nI (F j) ∧ to (P j).toNatClampNeg = nI (E j) ∧ F j ≤ 20000 ∧ E j ≤ 20000) → k_nc P fr to (nI day) (nI d) c = nI (n_nc F E day d c)
  | 0, _ => by
    show nI d + 1 = nI (d + 1)
    exact nI_1 d
  | c + 1, H => by
    have ih := k_nc_n hd hday c (fun j hj => H j (by omega))
    obtain ⟨h1, h2, h3, h4⟩ := H c (by omega)
    have hb : n_nc F E day d c ≤ 20001 := by
      have : ∀ c, n_nc F E day d c ≤ d + 1 := by
        intro c
        induction c with
        | zero => exact Nat.le_refl _
        | succ c ih =>
          unfold n_nc
          split
          · omega
          · split <;> omega
      have := this c
      omega
    unfold k_nc n_nc k_min
    rw [ih, h1, h2, nI_1]
    by_cases e1 : day < F c
    · rw [if_pos ((nI_lt' (by omega) (by omega)).mpr e1), if_pos e1]
      by_cases e2 : F c < n_nc F E day d c
      · rw [if_pos ((nI_lt' (by omega) (by omega)).mpr e2), Nat.min_eq_right (by omega)]
      · rw [if_neg (fun z => e2 ((nI_lt' (by omega) (by omega)).mp z)), Nat.min_eq_left (by omega)]
    · rw [if_neg (fun z => e1 ((nI_lt' (by omega) (by omega)).mp z)), if_neg e1]
      by_cases e3 : day ≤ E c
      · rw [if_pos ((nI_le' (by omega) (by omega)).mpr e3), if_pos e3]
        by_cases e2 : E c + 1 < n_nc F E day d c
        · rw [if_pos ((nI_lt' (by omega) (by omega)).mpr e2), Nat.min_eq_right (by omega)]
        · rw [if_neg (fun z => e2 ((nI_lt' (by omega) (by omega)).mp z)), Nat.min_eq_left (by omega)]
      · rw [if_neg (fun z => e3 ((nI_le' (by omega) (by omega)).mp z)), if_neg e3]
theorem k_dy_n {P fr to : Nat → Int32} {F E : Nat → Nat} {d c : Nat} (hd : d ≤ 20000) (H : ∀ j, j < c → fr (P j).toNatClampNeg = nI (F j) ∧ to (P j).toNatClampNeg = nI (E j) ∧ F j ≤ 20000 ∧ E j ≤ 20000) : ∀ s, k_dy P fr to (nI d) c s = nI (n_dy F E d c s)
  | 0 => rfl
  | s + 1 => by
    have ih := k_dy_n hd H s
    have hle := n_dy_le (F := F) (E := E) (d := d) (c := c) s
    unfold k_dy n_dy
    rw [ih]
    by_cases e : n_dy F E d c s ≤ d
    · rw [if_pos ((nI_le' (by omega) (by omega)).mpr e), if_pos e]
      exact k_nc_n hd (by omega) c H
    · rw [if_neg (fun z => e ((nI_le' (by omega) (by omega)).mp z)), if_neg e]
theorem k_fd_n {P ms fr to : Nat → Int32} {F E : Nat → Nat} {kind : Int32} {d c : Nat} (hd : d ≤ 20000) (H : ∀ j, j < c → fr (P j).toNatClampNeg = nI (F j) ∧ to (P j).toNatClampNeg = nI (E j) ∧ F j ≤ 20000 ∧ E j ≤ 20000) : ∀ s, k_fd P ms fr to kind (nI d) c s = nI (n_fd F E (fun k => decide (¬ k_kd P ms fr to kind (nI k) c = 0)) d c s)
  | 0 => rfl
  | s + 1 => by
    have ih := k_fd_n (ms := ms) (kind := kind) hd H s
    have hy := k_dy_n hd H s
    have hle := n_dy_le (F := F) (E := E) (d := d) (c := c) s
    unfold k_fd n_fd
    rw [ih, hy]
    by_cases e : n_dy F E d c s ≤ d
    · rw [if_pos ((nI_le' (by omega) (by omega)).mpr e), if_pos e, k_nc_n hd (by omega) c H]
      have lo := n_nc_lo (F := F) (E := E) e c
      by_cases e2 : k_kd P ms fr to kind (nI (n_dy F E d c s)) c = 0
      · rw [if_pos e2, if_neg (by simp [e2])]
      · rw [if_neg e2, if_pos (by simp [e2]), pk_sub (by omega), nI_add]
    · rw [if_neg (fun z => e ((nI_le' (by omega) (by omega)).mp z)), if_neg e]
/-- coverage decides the kind -/
theorem k_kd_cv {P ms fr to : Nat → Int32} {kind a b : Int32} : ∀ c, (∀ j, j < c → ((fr (P j).toNatClampNeg ≤ a ∧ a ≤ to (P j).toNatClampNeg) ↔ (fr (P j).toNatClampNeg ≤ b ∧ b ≤ to (P j).toNatClampNeg))) → k_sv P ms fr to a c = k_sv P ms fr to b c ∧ k_qu P ms fr to a c = k_qu P ms fr to b c ∧ k_rd P ms fr to a c = k_rd P ms fr to b c
  | 0, _ => ⟨rfl, rfl, rfl⟩
  | c + 1, H => by
    obtain ⟨i1, i2, i3⟩ := k_kd_cv (ms := ms) (kind := kind) c (fun j hj => H j (by omega))
    have h := H c (by omega)
    have h2 : ∀ X : Prop, (fr (P c).toNatClampNeg ≤ a ∧ a ≤ to (P c).toNatClampNeg ∧ X) ↔ (fr (P c).toNatClampNeg ≤ b ∧ b ≤ to (P c).toNatClampNeg ∧ X) := by
      intro X
      rw [← and_assoc, ← and_assoc, h]
    unfold k_sv k_qu k_rd
    rw [i1, i2, i3]
    simp only [h2]
    refine ⟨?_, ?_, ?_⟩ <;> first | trivial | rfl
