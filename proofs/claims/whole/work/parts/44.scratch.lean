/-! what is read off the picked terms doesn't depend on what the row held before; the class's scratch cells -/
theorem k_row_f (g : Nat → Bool) (f f' : Nat → Int32) : ∀ n j, j < cnt g n → k_row g f n j = k_row g f' n j
  | 0, j, h => by simp [cnt] at h
  | n + 1, j, h => by
    unfold cnt at h
    unfold k_row
    by_cases hg : g n = true
    · rw [if_pos hg] at h
      rw [if_pos hg, if_pos hg]
      by_cases hj : j = cnt g n
      · subst hj
        rw [u_s, u_s]
      · rw [u_n _ _ hj, u_n _ _ hj]
        exact k_row_f g f f' n j (by omega)
    · rw [if_neg hg] at h
      rw [if_neg hg, if_neg hg]
      exact k_row_f g f f' n j (by omega)
theorem k_fs_c {P P' : Nat → Int32} (ms fr : Nat → Int32) : ∀ c, (∀ j, j < c → P j = P' j) → k_fs P ms fr c = k_fs P' ms fr c
  | 0, _ => rfl
  | c + 1, h => by
    unfold k_fs
    rw [k_fs_c ms fr c (fun j hj => h j (by omega)), h c (by omega)]
theorem k_nc_c {P P' : Nat → Int32} (fr to : Nat → Int32) (day d : Int32) : ∀ c, (∀ j, j < c → P j = P' j) → k_nc P fr to day d c = k_nc P' fr to day d c
  | 0, _ => rfl
  | c + 1, h => by
    unfold k_nc
    rw [k_nc_c fr to day d c (fun j hj => h j (by omega)), h c (by omega)]
theorem k_sv_c {P P' : Nat → Int32} (ms fr to : Nat → Int32) (day : Int32) : ∀ c, (∀ j, j < c → P j = P' j) → k_sv P ms fr to day c = k_sv P' ms fr to day c
  | 0, _ => rfl
  | c + 1, h => by
    unfold k_sv
    rw [k_sv_c ms fr to day c (fun j hj => h j (by omega)), h c (by omega)]
theorem k_qu_c {P P' : Nat → Int32} (ms fr to : Nat → Int32) (day : Int32) : ∀ c, (∀ j, j < c → P j = P' j) → k_qu P ms fr to day c = k_qu P' ms fr to day c
  | 0, _ => rfl
  | c + 1, h => by
    unfold k_qu
    rw [k_qu_c ms fr to day c (fun j hj => h j (by omega)), k_sv_c ms fr to day c (fun j hj => h j (by omega)), h c (by omega)]
theorem k_rd_c {P P' : Nat → Int32} (ms fr to : Nat → Int32) (day : Int32) : ∀ c, (∀ j, j < c → P j = P' j) → k_rd P ms fr to day c = k_rd P' ms fr to day c
  | 0, _ => rfl
  | c + 1, h => by
    unfold k_rd
    rw [k_rd_c ms fr to day c (fun j hj => h j (by omega)), h c (by omega)]
theorem k_kd_c {P P' : Nat → Int32} (ms fr to : Nat → Int32) (kind day : Int32) {c : Nat} (h : ∀ j, j < c → P j = P' j) : k_kd P ms fr to kind day c = k_kd P' ms fr to kind day c := by
  unfold k_kd
  rw [k_sv_c ms fr to day c h, k_qu_c ms fr to day c h, k_rd_c ms fr to day c h]
theorem k_dy_c {P P' : Nat → Int32} (fr to : Nat → Int32) (d : Int32) {c : Nat} (h : ∀ j, j < c → P j = P' j) : ∀ s, k_dy P fr to d c s = k_dy P' fr to d c s
  | 0 => rfl
  | s + 1 => by
    unfold k_dy
    rw [k_dy_c fr to d h s, k_nc_c fr to _ d c h]
theorem k_fd_c {P P' : Nat → Int32} (ms fr to : Nat → Int32) (kind d : Int32) {c : Nat} (h : ∀ j, j < c → P j = P' j) : ∀ s, k_fd P ms fr to kind d c s = k_fd P' ms fr to kind d c s
  | 0 => rfl
  | s + 1 => by
    unfold k_fd
    rw [k_fd_c ms fr to kind d h s, k_dy_c fr to d h s, k_nc_c fr to _ d c h, k_kd_c ms fr to kind _ h]
/-- days of a kind, and the first served day, off the terms alone -/
def d_days (sv ms fr to told back : Nat → Int32) (n : Nat) (kind p d q : Int32) : Int32 := k_fd (k_row (k_pk sv fr told back p d q) (fun _ => 0) n) ms fr to kind d (cnt (k_pk sv fr told back p d q) n) 201
def d_first (sv ms fr told back : Nat → Int32) (n : Nat) (p d q : Int32) : Int32 := k_fs (k_row (k_pk sv fr told back p d q) (fun _ => 0) n) ms fr (cnt (k_pk sv fr told back p d q) n)
/-- the class's memory but its scratch -/
def x_sc (μ m : j_M) : Prop := (∀ b, b ≠ 8 → b ≠ 15 → b ≠ 23 → b ≠ 30 → b ≠ 31 → b ≠ 41 → m b = μ b) ∧ ∀ j, j ≠ 8 → m 8 j = μ 8 j
theorem x_sc.rf (μ : j_M) : x_sc μ μ := ⟨fun _ _ _ _ _ _ _ => rfl, fun _ _ => rfl⟩
theorem x_sc.tr {a b c : j_M} (h : x_sc a b) (g : x_sc b c) : x_sc a c := ⟨fun k h1 h2 h3 h4 h5 h6 => (g.1 k h1 h2 h3 h4 h5 h6).trans (h.1 k h1 h2 h3 h4 h5 h6), fun j hj => (g.2 j hj).trans (h.2 j hj)⟩
theorem x_sc_pm (μ : j_M) (p d q : Int32) (n : Nat) : x_sc μ (k_pm μ p d q n) := by
  refine ⟨fun b h1 h2 _ _ _ _ => k_pm_o μ p d q n h1 h2, fun j hj => ?_⟩
  unfold k_pm
  rw [j_us, u_n _ _ hj, j_rn' _ _ (by decide)]
theorem x_sc_row (μ : j_M) {a : Nat} (f : Nat → Int32) (ha : a = 15 ∨ a = 23 ∨ a = 30 ∨ a = 31 ∨ a = 41) : x_sc μ (j_row μ a f) := by
  refine ⟨fun b h1 h2 h3 h4 h5 h6 => ?_, fun j _ => ?_⟩
  · rw [j_rn' _ _ (by rcases ha with e | e | e | e | e <;> subst e <;> assumption)]
  · rw [j_rn' _ _ (by rcases ha with e | e | e | e | e <;> subst e <;> decide)]
set_option maxRecDepth 100000 in
theorem f_X7_daysOf' (μ : j_M) (kind p d q : Int32) {n : Nat} (hs : μ 8 6 = nI n) (hn : n ≤ 100) : j_R 2 yX7_daysOf [.ref 8, .int kind, .int p, .int d, .int q] μ (fun r m => r = some (d_days (μ 9) (μ 10) (μ 11) (μ 12) (μ 13) (μ 14) n kind p d q) ∧ m = k_pm μ p d q n) := by
  have h := f_X7_daysOf μ kind p d q hs hn
  rw [k_fd_c (μ 10) (μ 11) (μ 12) kind d (k_row_f _ (μ 15) (fun _ => 0) n)] at h
  exact h
set_option maxRecDepth 100000 in
theorem f_X7_firstServedDay' (μ : j_M) (p d q : Int32) {n : Nat} (hs : μ 8 6 = nI n) (hn : n ≤ 100) : j_R 2 yX7_firstServedDay [.ref 8, .int p, .int d, .int q] μ (fun r m => r = some (d_first (μ 9) (μ 10) (μ 11) (μ 13) (μ 14) n p d q) ∧ m = k_pm μ p d q n) := by
  have h := f_X7_firstServedDay μ p d q hs hn
  rw [k_fs_c (μ 10) (μ 11) _ (k_row_f _ (μ 15) (fun _ => 0) n)] at h
  exact h
/-- the memory but what pick writes -/
def x_p (μ m : j_M) : Prop := (∀ b, b ≠ 8 → b ≠ 15 → m b = μ b) ∧ ∀ j, j ≠ 8 → m 8 j = μ 8 j
theorem x_p.rf (μ : j_M) : x_p μ μ := ⟨fun _ _ _ => rfl, fun _ _ => rfl⟩
theorem x_p.sc {μ m : j_M} (h : x_p μ m) : x_sc μ m := ⟨fun b h1 h2 _ _ _ _ => h.1 b h1 h2, h.2⟩
theorem x_p_pm (μ : j_M) (p d q : Int32) (n : Nat) : x_p μ (k_pm μ p d q n) := by
  refine ⟨fun b h1 h2 => k_pm_o μ p d q n h1 h2, fun j hj => ?_⟩
  unfold k_pm
  rw [j_us, u_n _ _ hj, j_rn' _ _ (by decide)]
