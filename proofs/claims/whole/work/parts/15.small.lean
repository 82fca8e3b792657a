/-! small things for the runs -/
theorem j_b0 (P : Prop) [Decidable P] : ((if P then (1 : Int32) else 0) = 0) ↔ ¬ P := by
  by_cases h : P <;> simp [h]
theorem j_b1 (P : Prop) [Decidable P] : ((if P then (1 : Int32) else 0) = 0 ∨ (if P then (1 : Int32) else 0) = 1) ↔ True := by
  by_cases h : P <;> simp [h]
theorem j_b2 (P : Prop) [Decidable P] : ((if P then (0 : Int32) else 1) = 0) ↔ P := by
  by_cases h : P <;> simp [h]
theorem j_b3 (P : Prop) [Decidable P] : ((if P then (0 : Int32) else 1) = 0 ∨ (if P then (0 : Int32) else 1) = 1) ↔ True := by
  by_cases h : P <;> simp [h]
theorem j_01 : ((0 : Int32) = 0 ∨ (0 : Int32) = 1) ∧ ((1 : Int32) = 0 ∨ (1 : Int32) = 1) := by decide
theorem j_inl {x N : Int32} {n : Nat} (hN : N.toInt = n) : vp_in x n ↔ 0 ≤ x ∧ x < N := by
  rw [vp_in_iff, Int32.le_iff_toInt_le, Int32.lt_iff_toInt_lt, hN]
  simp
theorem j_inb : (∀ x : Int32, vp_in x 6 ↔ 0 ≤ x ∧ x < 6) ∧ (∀ x : Int32, vp_in x 8 ↔ 0 ≤ x ∧ x < 8) ∧ (∀ x : Int32, vp_in x 30 ↔ 0 ≤ x ∧ x < 30) ∧ (∀ x : Int32, vp_in x 40 ↔ 0 ≤ x ∧ x < 40) ∧ (∀ x : Int32, vp_in x 100 ↔ 0 ≤ x ∧ x < 100) ∧ (∀ x : Int32, vp_in x 120 ↔ 0 ≤ x ∧ x < 120) ∧ (∀ x : Int32, vp_in x 480 ↔ 0 ≤ x ∧ x < 480) ∧ (∀ x : Int32, vp_in x 3600 ↔ 0 ≤ x ∧ x < 3600) ∧ (∀ x : Int32, vp_in x 20001 ↔ 0 ≤ x ∧ x < 20001) := ⟨fun _ => j_inl (by decide), fun _ => j_inl (by decide), fun _ => j_inl (by decide), fun _ => j_inl (by decide), fun _ => j_inl (by decide), fun _ => j_inl (by decide), fun _ => j_inl (by decide), fun _ => j_inl (by decide), fun _ => j_inl (by decide)⟩
theorem j_rs (μ : j_M) (a : Nat) (f : Nat → Int32) : j_row μ a f a = f := by simp [j_row]
theorem j_rn' (μ : j_M) {a b : Nat} (f : Nat → Int32) (h : b ≠ a) : j_row μ a f b = μ b := by simp [j_row, h]
theorem j_us (μ : j_M) (a i : Nat) (v : Int32) : j_up μ a i v a = upd (μ a) i v := by simp [j_up, j_row]
theorem j_un (μ : j_M) {a b : Nat} (i : Nat) (v : Int32) (h : b ≠ a) : j_up μ a i v b = μ b := by simp [j_up, j_row, h]
theorem u_s (f : Nat → Int32) (k : Nat) (x : Int32) : upd f k x k = x := by simp [upd]
theorem u_n (f : Nat → Int32) {k j : Nat} (x : Int32) (h : j ≠ k) : upd f k x j = f j := by simp [upd, h]
theorem nI_lt' {a b : Nat} (ha : a < 1000000) (hb : b < 1000000) : (nI a < nI b) ↔ a < b := nI_ltI (by omega) (by omega)
theorem nI_le' {a b : Nat} (ha : a < 1000000) (hb : b < 1000000) : (nI a ≤ nI b) ↔ a ≤ b := nI_leI (by omega) (by omega)
theorem nI_eq' {a b : Nat} (ha : a < 1000000) (hb : b < 1000000) : (nI a = nI b) ↔ a = b := nI_eq (by omega) (by omega)
theorem nI_cl' {a : Nat} (ha : a < 1000000) : (nI a).toNatClampNeg = a := nI_clamp (by omega)
theorem nI_in' {a n : Nat} (h : a < n) (hn : n ≤ 1000000) : vp_in (nI a) n := vp_in_nI h (by omega)
theorem nI_m1 {a : Nat} (ha : a < 1000000) : ¬ nI a = -1 := by
  intro h
  have h1 := congrArg Int32.toInt h
  rw [nI_toInt (by omega)] at h1
  have h2 : (-1 : Int32).toInt = -1 := by decide
  omega
theorem nI_ge0 {a : Nat} (ha : a < 1000000) : 0 ≤ nI a := nI_pos' (by omega)
theorem j_run_0 (cc : ByteArray) (o nL : Nat) (ret : Option FieldType) (ini : Bool) (d : Nat) (xs : Option (Nat × (Nat → Int32))) (Q : j_Q) (stop : Nat → Bool) (sh : List j_S) (mc ms pc : Nat) (ls : j_L) (st : List Value) (μ : j_M) : j_run cc o nL ret ini d xs Q stop 0 sh mc ms pc ls st μ = j_J cc o nL ret ini d xs Q sh mc ms pc ls st μ := rfl
theorem j_run_s (cc : ByteArray) (o nL : Nat) (ret : Option FieldType) (ini : Bool) (d : Nat) (xs : Option (Nat × (Nat → Int32))) (Q : j_Q) (stop : Nat → Bool) (n : Nat) (sh : List j_S) (mc ms pc : Nat) (ls : j_L) (st : List Value) (μ : j_M) : j_run cc o nL ret ini d xs Q stop (n + 1) sh mc ms pc ls st μ = (match decode cc pc with
    | .ok (i, len) => j_wp o ret ini d xs Q i len sh mc ms pc ls st μ (j_sel stop (j_J cc o nL ret ini d xs Q) (j_run cc o nL ret ini d xs Q stop n))
    | .error _ => False) := rfl
theorem j_ne : (((0 : Int32) = 1) ↔ False) ∧ (((0 : Int32) = 2) ↔ False) ∧ (((0 : Int32) = 3) ↔ False) ∧ (((0 : Int32) = 4) ↔ False) ∧ (((0 : Int32) = -1) ↔ False) ∧ (((1 : Int32) = 0) ↔ False) ∧ (((1 : Int32) = 2) ↔ False) ∧ (((1 : Int32) = 3) ↔ False) ∧ (((1 : Int32) = 4) ↔ False) ∧ (((1 : Int32) = -1) ↔ False) ∧ (((2 : Int32) = 0) ↔ False) ∧ (((2 : Int32) = 1) ↔ False) ∧ (((2 : Int32) = 3) ↔ False) ∧ (((2 : Int32) = 4) ↔ False) ∧ (((2 : Int32) = -1) ↔ False) ∧ (((3 : Int32) = 0) ↔ False) ∧ (((3 : Int32) = 1) ↔ False) ∧ (((3 : Int32) = 2) ↔ False) ∧ (((3 : Int32) = 4) ↔ False) ∧ (((3 : Int32) = -1) ↔ False) ∧ (((4 : Int32) = 0) ↔ False) ∧ (((4 : Int32) = 1) ↔ False) ∧ (((4 : Int32) = 2) ↔ False) ∧ (((4 : Int32) = 3) ↔ False) ∧ (((4 : Int32) = -1) ↔ False) ∧ (((-1 : Int32) = 0) ↔ False) ∧ (((-1 : Int32) = 1) ↔ False) ∧ (((-1 : Int32) = 2) ↔ False) ∧ (((-1 : Int32) = 3) ↔ False) ∧ (((-1 : Int32) = 4) ↔ False) := by decide
