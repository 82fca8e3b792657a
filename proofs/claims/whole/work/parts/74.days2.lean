/-! days: the class's folds over the picked terms, the reference's over all -/
theorem d_days_n {sv ms fr to told back : Nat → Int32} {n dn : Nat} {kind p q : Int32} (hn : n ≤ 100) (hd : dn ≤ 20000) (H : ∀ t, t < n → ∃ F E : Nat, fr t = nI F ∧ to t = nI E ∧ F ≤ 20000 ∧ E ≤ 20000) : d_days sv ms fr to told back n kind p (nI dn) q = nI (cnt (fun k => decide (¬ k_kd (k_row (k_pk sv fr told back p (nI dn) q) (fun _ => 0) n) ms fr to kind (nI k) (cnt (k_pk sv fr told back p (nI dn) q) n) = 0)) (dn + 1)) := by
  unfold d_days
  have hP := k_row_in (k_pk sv fr told back p (nI dn) q) (fun _ => 0) n hn
  have hc : cnt (k_pk sv fr told back p (nI dn) q) n ≤ 100 := Nat.le_trans (cnt_le _ n) hn
  generalize k_row (k_pk sv fr told back p (nI dn) q) (fun _ => 0) n = P at hP ⊢
  generalize cnt (k_pk sv fr told back p (nI dn) q) n = c at hP hc ⊢
  have H' : ∀ j, j < c → fr (P j).toNatClampNeg = nI (fr (P j).toNatClampNeg).toNatClampNeg ∧ to (P j).toNatClampNeg = nI (to (P j).toNatClampNeg).toNatClampNeg ∧ (fr (P j).toNatClampNeg).toNatClampNeg ≤ 20000 ∧ (to (P j).toNatClampNeg).toNatClampNeg ≤ 20000 := by
    intro j hj
    obtain ⟨t, h1, -, h3⟩ := hP j hj
    obtain ⟨F, E, f1, f2, f3, f4⟩ := H t h1
    rw [h3, nI_cl' (show t < 1000000 by omega), f1, f2, nI_cl' (show F < 1000000 by omega), nI_cl' (show E < 1000000 by omega)]
    exact ⟨rfl, rfl, f3, f4⟩
  rw [k_fd_n (F := fun j => (fr (P j).toNatClampNeg).toNatClampNeg) (E := fun j => (to (P j).toNatClampNeg).toNatClampNeg) hd H', n_fd_eq, n_dy_end hc]
  intro day t h1 h2 h3
  have lo := n_nc_lo (F := fun j => (fr (P j).toNatClampNeg).toNatClampNeg) (E := fun j => (to (P j).toNatClampNeg).toNatClampNeg) h1 c
  have hcv := k_kd_cv (P := P) (ms := ms) (fr := fr) (to := to) (kind := kind) (a := nI t) (b := nI day) c (fun j hj => by
    obtain ⟨e1, e2, e3, e4⟩ := H' j hj
    have hle := n_nc_le (F := fun j => (fr (P j).toNatClampNeg).toNatClampNeg) (E := fun j => (to (P j).toNatClampNeg).toNatClampNeg) (day := day) (d := dn) c j hj
    rw [e1, e2]
    generalize (fr (P j).toNatClampNeg).toNatClampNeg = Fj at hle e3 ⊢
    generalize (to (P j).toNatClampNeg).toNatClampNeg = Ej at hle e4 ⊢
    rw [nI_le' (show Fj < 1000000 by omega) (show t < 1000000 by omega), nI_le' (show t < 1000000 by omega) (show Ej < 1000000 by omega), nI_le' (show Fj < 1000000 by omega) (show day < 1000000 by omega), nI_le' (show day < 1000000 by omega) (show Ej < 1000000 by omega)]
    constructor
    · rintro ⟨z1, z2⟩
      have : ¬ day < Fj := fun w => by have := hle.1 w; omega
      omega
    · rintro ⟨z1, z2⟩
      have := hle.2 z1 z2
      omega)
  show decide _ = decide _
  congr 1
  unfold k_kd
  rw [hcv.1, hcv.2.1, hcv.2.2]
/-- a person's known term -/
def y_g (sv told back : Nat → Int32) (p q : Int32) (t : Nat) : Bool := decide (sv t = p) && k_kn told back q t
def y_c (g : Nat → Bool) (fr to : Nat → Int32) (day : Int32) (t : Nat) : Bool := g t && decide (fr t ≤ day ∧ day ≤ to t)
/-- masters of a day, and the first of them -/
def y_ms (g : Nat → Bool) (ms fr to : Nat → Int32) (day : Int32) : Nat → Int32 × Int32
  | 0 => (0, -1)
  | t + 1 => if y_c g fr to day t = true ∧ ¬ ms t = -1 then (if (y_ms g ms fr to day t).1 = 0 then (1, ms t) else if (y_ms g ms fr to day t).2 = ms t then y_ms g ms fr to day t else (2, (y_ms g ms fr to day t).2)) else y_ms g ms fr to day t
def y_rd (g : Nat → Bool) (ms fr to : Nat → Int32) (day : Int32) : Nat → Int32
  | 0 => 0
  | t + 1 => if y_c g fr to day t = true ∧ ms t = -1 then 1 else y_rd g ms fr to day t
/-- how a day's two accounts hang together -/
def y_eq (S U R M F R' : Int32) : Prop := (M = 0 ∧ S = -1 ∧ U = 0 ∨ M = 1 ∧ S = F ∧ ¬ S = -1 ∧ U = 0 ∨ M = 2 ∧ ¬ S = -1 ∧ U = 1) ∧ R = R'
theorem y_step {S U R R' w : Int32} {MF : Int32 × Int32} {a b : Prop} [Decidable a] [Decidable b] {y : Bool} (hy : y = true ↔ a ∧ b) (ih : y_eq S U R MF.1 MF.2 R') : y_eq (if a ∧ b ∧ ¬ w = -1 then w else S) (if a ∧ b ∧ ¬ w = -1 then (if ¬ U = 0 ∨ (¬ S = -1 ∧ ¬ S = w) then 1 else 0) else U) (if a ∧ b ∧ w = -1 then 1 else R) (if y = true ∧ ¬ w = -1 then (if MF.1 = 0 then (1, w) else if MF.2 = w then MF else (2, MF.2)) else MF).1 (if y = true ∧ ¬ w = -1 then (if MF.1 = 0 then (1, w) else if MF.2 = w then MF else (2, MF.2)) else MF).2 (if y = true ∧ w = -1 then 1 else R') := by
  obtain ⟨M, F⟩ := MF
  unfold y_eq at ih ⊢
  dsimp only at ih ⊢
  by_cases c1 : a ∧ b
  · have hy' := hy.mpr c1
    by_cases c2 : w = -1
    · simp only [c1.1, c1.2, hy', c2, true_and, and_true, not_true_eq_false, and_false, if_false, if_true]
      exact ih.1
    · simp only [c1.1, c1.2, hy', c2, true_and, and_true, not_false_eq_true, and_false, if_false, if_true]
      refine ⟨?_, ih.2⟩
      rcases ih.1 with ⟨a1, a2, a3⟩ | ⟨a1, a2, a3, a4⟩ | ⟨a1, a2, a3⟩
      · subst a1; subst a2; subst a3
        simp
      · subst a1; subst a4
        by_cases c3 : F = w
        · subst c3
          subst a2
          simp [a3]
        · have : ¬ S = w := by rw [a2]; exact c3
          simp [c3, a3, this]
      · subst a1; subst a3
        by_cases c3 : F = w
        · simp [c3]
        · simp [c3]
  · have hy' : ¬ y = true := fun z => c1 (hy.mp z)
    have c2 : ∀ X : Prop, ¬ (a ∧ b ∧ X) := fun X z => c1 ⟨z.1, z.2.1⟩
    simp only [c2, hy', false_and, if_false]
    exact ih
theorem y_rel {sv ms fr to told back : Nat → Int32} {p d q day : Int32} (hday : day ≤ d) : ∀ n, n ≤ 100 → y_eq (k_sv (k_row (k_pk sv fr told back p d q) (fun _ => 0) n) ms fr to day (cnt (k_pk sv fr told back p d q) n)) (k_qu (k_row (k_pk sv fr told back p d q) (fun _ => 0) n) ms fr to day (cnt (k_pk sv fr told back p d q) n)) (k_rd (k_row (k_pk sv fr told back p d q) (fun _ => 0) n) ms fr to day (cnt (k_pk sv fr told back p d q) n)) (y_ms (y_g sv told back p q) ms fr to day n).1 (y_ms (y_g sv told back p q) ms fr to day n).2 (y_rd (y_g sv told back p q) ms fr to day n)
  | 0, _ => ⟨Or.inl ⟨rfl, rfl, rfl⟩, rfl⟩
  | n + 1, hn => by
    have ih := y_rel (sv := sv) (ms := ms) (fr := fr) (to := to) (told := told) (back := back) (p := p) (q := q) hday n (by omega)
    by_cases hg : k_pk sv fr told back p d q n = true
    · have hc : cnt (k_pk sv fr told back p d q) (n + 1) = cnt (k_pk sv fr told back p d q) n + 1 := by
        show _ + _ = _
        rw [if_pos hg]
      have hr : k_row (k_pk sv fr told back p d q) (fun _ => 0) (n + 1) = upd (k_row (k_pk sv fr told back p d q) (fun _ => 0) n) (cnt (k_pk sv fr told back p d q) n) (nI n) := by
        show (if _ then _ else _) = _
        rw [if_pos hg]
      have hy : y_g sv told back p q n = true := by
        unfold k_pk at hg
        unfold y_g
        simp only [Bool.and_eq_true, decide_eq_true_eq] at hg ⊢
        exact ⟨hg.1.1, hg.2⟩
      rw [hc, hr]
      generalize k_row (k_pk sv fr told back p d q) (fun _ => 0) n = P at ih ⊢
      generalize cnt (k_pk sv fr told back p d q) n = c at ih ⊢
      have hP : ∀ j, j < c → upd P c (nI n) j = P j := fun j hj => u_n _ _ (by omega)
      unfold k_sv k_qu k_rd y_ms y_rd
      rw [u_s, nI_cl' (show n < 1000000 by omega), k_sv_c ms fr to day c hP, k_qu_c ms fr to day c hP, k_rd_c ms fr to day c hP]
      have hcv : y_c (y_g sv told back p q) fr to day n = true ↔ fr n ≤ day ∧ day ≤ to n := by
        unfold y_c
        rw [hy]
        simp
      exact y_step hcv ih
    · have hc : cnt (k_pk sv fr told back p d q) (n + 1) = cnt (k_pk sv fr told back p d q) n := by
        show _ + _ = _
        rw [if_neg hg]
        rfl
      have hr : k_row (k_pk sv fr told back p d q) (fun _ => 0) (n + 1) = k_row (k_pk sv fr told back p d q) (fun _ => 0) n := by
        show (if _ then _ else _) = _
        rw [if_neg hg]
      have hy : ¬ y_c (y_g sv told back p q) fr to day n = true := by
        unfold k_pk at hg
        unfold y_c y_g
        simp only [Bool.and_eq_true, decide_eq_true_eq] at hg ⊢
        intro z
        exact hg ⟨⟨z.1.1, by have := z.2.1; grind⟩, z.1.2⟩
      rw [hc, hr]
      unfold y_ms y_rd
      rw [if_neg (fun z => hy z.1), if_neg (fun z => hy z.1)]
      exact ih
section DD
variable {sv ms fr to told back : Nat → Int32} {n dn : Nat} {p q : Int32}
theorem d_served (hn : n ≤ 100) (hd : dn ≤ 20000) (H : ∀ t, t < n → ∃ F E : Nat, fr t = nI F ∧ to t = nI E ∧ F ≤ 20000 ∧ E ≤ 20000) : d_days sv ms fr to told back n 0 p (nI dn) q = nI (cnt (fun k => decide (0 < (y_ms (y_g sv told back p q) ms fr to (nI k) n).1)) (dn + 1)) := by
  rw [d_days_n hn hd H]
  congr 1
  refine cnt_ext _ (fun j hj => ?_)
  have h := y_rel (sv := sv) (ms := ms) (fr := fr) (to := to) (told := told) (back := back) (p := p) (q := q) (d := nI dn) (day := nI j) ((nI_le' (by omega) (by omega)).mpr (by omega)) n hn
  unfold k_kd
  rw [if_pos rfl, decide_eq_decide]
  rcases h.1 with ⟨a1, a2, a3⟩ | ⟨a1, a2, a3, a4⟩ | ⟨a1, a2, a3⟩
  · rw [a1, a2]; decide
  · rw [a1, if_neg a3]; decide
  · rw [a1, if_neg a2]; decide
theorem d_road (hn : n ≤ 100) (hd : dn ≤ 20000) (H : ∀ t, t < n → ∃ F E : Nat, fr t = nI F ∧ to t = nI E ∧ F ≤ 20000 ∧ E ≤ 20000) : d_days sv ms fr to told back n 1 p (nI dn) q = nI (cnt (fun k => decide (¬ 0 < (y_ms (y_g sv told back p q) ms fr to (nI k) n).1 ∧ ¬ y_rd (y_g sv told back p q) ms fr to (nI k) n = 0)) (dn + 1)) := by
  rw [d_days_n hn hd H]
  congr 1
  refine cnt_ext _ (fun j hj => ?_)
  have h := y_rel (sv := sv) (ms := ms) (fr := fr) (to := to) (told := told) (back := back) (p := p) (q := q) (d := nI dn) (day := nI j) ((nI_le' (by omega) (by omega)).mpr (by omega)) n hn
  unfold k_kd
  rw [if_neg (by decide), if_pos rfl, decide_eq_decide, h.2]
  rcases h.1 with ⟨a1, a2, a3⟩ | ⟨a1, a2, a3, a4⟩ | ⟨a1, a2, a3⟩
  · rw [a1, a2]
    by_cases z : y_rd (y_g sv told back p q) ms fr to (nI j) n = 0
    · rw [z]; decide
    · simp [z]
  · rw [a1, if_neg (fun z => a3 z.2)]; simp
  · rw [a1, if_neg (fun z => a2 z.2)]; simp
theorem d_quar (hn : n ≤ 100) (hd : dn ≤ 20000) (H : ∀ t, t < n → ∃ F E : Nat, fr t = nI F ∧ to t = nI E ∧ F ≤ 20000 ∧ E ≤ 20000) : d_days sv ms fr to told back n 2 p (nI dn) q = nI (cnt (fun k => decide (1 < (y_ms (y_g sv told back p q) ms fr to (nI k) n).1)) (dn + 1)) := by
  rw [d_days_n hn hd H]
  congr 1
  refine cnt_ext _ (fun j hj => ?_)
  have h := y_rel (sv := sv) (ms := ms) (fr := fr) (to := to) (told := told) (back := back) (p := p) (q := q) (d := nI dn) (day := nI j) ((nI_le' (by omega) (by omega)).mpr (by omega)) n hn
  unfold k_kd
  rw [if_neg (by decide), if_neg (by decide), decide_eq_decide]
  rcases h.1 with ⟨a1, a2, a3⟩ | ⟨a1, a2, a3, a4⟩ | ⟨a1, a2, a3⟩
  · rw [a1, a3]; decide
  · rw [a1, a4]; decide
  · rw [a1, a3]; decide
end DD
/-- the first place at which g holds -/
def y_fs (g : Nat → Bool) : Nat → Int32
  | 0 => -1
  | n + 1 => if y_fs g n = -1 ∧ g n = true then nI n else y_fs g n
theorem y_fs_none {g : Nat → Bool} : ∀ n, (∀ j, j < n → ¬ g j = true) → y_fs g n = -1
  | 0, _ => rfl
  | n + 1, h => by
    unfold y_fs
    rw [if_neg (fun z => h n (by omega) z.2)]
    exact y_fs_none n (fun j hj => h j (by omega))
theorem y_fs_at {g : Nat → Bool} : ∀ n k, n < 1000000 → k < n → g k = true → (∀ j, j < k → ¬ g j = true) → y_fs g n = nI k
  | 0, k, _, h, _, _ => by omega
  | n + 1, k, hn, hk, hg, hl => by
    unfold y_fs
    by_cases e : k = n
    · subst e
      rw [if_pos ⟨y_fs_none k hl, hg⟩]
    · have ih := y_fs_at n k (by omega) (by omega) hg hl
      rw [ih, if_neg (fun z => nI_m1 (by omega) z.1)]
theorem y_ms_pos {g : Nat → Bool} {ms fr to : Nat → Int32} {day : Int32} : ∀ n, (0 < (y_ms g ms fr to day n).1 ↔ ∃ t, t < n ∧ y_c g fr to day t = true ∧ ¬ ms t = -1) ∧ ((y_ms g ms fr to day n).1 = 0 ∨ (y_ms g ms fr to day n).1 = 1 ∨ (y_ms g ms fr to day n).1 = 2)
  | 0 => ⟨⟨fun z => absurd (show (0 : Int32) < 0 from z) (by decide), fun ⟨t, h, _⟩ => by omega⟩, Or.inl rfl⟩
  | n + 1 => by
    obtain ⟨ih, i2⟩ := y_ms_pos (g := g) (ms := ms) (fr := fr) (to := to) (day := day) n
    unfold y_ms
    by_cases h : y_c g fr to day n = true ∧ ¬ ms n = -1
    · rw [if_pos h]
      refine ⟨⟨fun _ => ⟨n, by omega, h⟩, fun _ => ?_⟩, ?_⟩
      · split
        · show (0 : Int32) < 1
          decide
        · split
          · rcases i2 with e | e | e
            · contradiction
            · rw [e]; decide
            · rw [e]; decide
          · show (0 : Int32) < 2
            decide
      · split
        · exact Or.inr (Or.inl rfl)
        · split
          · exact i2
          · exact Or.inr (Or.inr rfl)
    · rw [if_neg h]
      refine ⟨ih.trans ⟨fun ⟨t, a, b⟩ => ⟨t, by omega, b⟩, fun ⟨t, a, b⟩ => ⟨t, ?_, b⟩⟩, i2⟩
      by_cases e : t = n
      · subst e; exact absurd b h
      · omega
/-- the class's first served day -/
theorem k_fs_spec {P ms fr : Nat → Int32} : ∀ c, (∀ j, j < c → ¬ fr (P j).toNatClampNeg = -1) → (k_fs P ms fr c = -1 ∧ ∀ j, j < c → ms (P j).toNatClampNeg = -1) ∨ (∃ j, j < c ∧ ¬ ms (P j).toNatClampNeg = -1 ∧ k_fs P ms fr c = fr (P j).toNatClampNeg ∧ ∀ i, i < c → ¬ ms (P i).toNatClampNeg = -1 → fr (P j).toNatClampNeg ≤ fr (P i).toNatClampNeg)
  | 0, _ => Or.inl ⟨rfl, fun j h => by omega⟩
  | c + 1, H => by
    have ih := k_fs_spec (P := P) (ms := ms) (fr := fr) c (fun j hj => H j (by omega))
    have hc := H c (by omega)
    unfold k_fs
    rcases ih with ⟨e, h⟩ | ⟨j, hj, h1, h2, h3⟩
    · by_cases m : ms (P c).toNatClampNeg = -1
      · rw [if_neg (fun z => z.1 m)]
        refine Or.inl ⟨e, fun j hj => ?_⟩
        by_cases q : j = c
        · subst q; exact m
        · exact h j (by omega)
      · rw [if_pos ⟨m, Or.inl e⟩]
        refine Or.inr ⟨c, by omega, m, rfl, fun i hi hm => ?_⟩
        by_cases q : i = c
        · subst q; exact Int32.le_refl _
        · exact absurd (h i (by omega)) hm
    · have hne : ¬ k_fs P ms fr c = -1 := by rw [h2]; exact H j (by omega)
      by_cases m : ¬ ms (P c).toNatClampNeg = -1 ∧ (k_fs P ms fr c = -1 ∨ fr (P c).toNatClampNeg < k_fs P ms fr c)
      · rw [if_pos m]
        have lt : fr (P c).toNatClampNeg < fr (P j).toNatClampNeg := by
          rcases m.2 with z | z
          · exact absurd z hne
          · rw [h2] at z; exact z
        refine Or.inr ⟨c, by omega, m.1, rfl, fun i hi hm => ?_⟩
        by_cases q : i = c
        · subst q; exact Int32.le_refl _
        · have := h3 i (by omega) hm
          grind
      · rw [if_neg m]
        refine Or.inr ⟨j, by omega, h1, h2, fun i hi hm => ?_⟩
        by_cases q : i = c
        · subst q
          have : ¬ fr (P i).toNatClampNeg < k_fs P ms fr i := fun z => m ⟨hm, Or.inr z⟩
          rw [h2] at this
          grind
        · exact h3 i (by omega) hm
theorem d_first_n {sv ms fr to told back : Nat → Int32} {n dn : Nat} {p q : Int32} (hn : n ≤ 100) (hd : dn ≤ 20000) (H : ∀ t, t < n → ∃ F E : Nat, fr t = nI F ∧ to t = nI E ∧ F ≤ E ∧ E ≤ 20000) : d_first sv ms fr told back n p (nI dn) q = y_fs (fun k => decide (0 < (y_ms (y_g sv told back p q) ms fr to (nI k) n).1)) (dn + 1) := by
  unfold d_first
  have hP := k_row_in (k_pk sv fr told back p (nI dn) q) (fun _ => 0) n hn
  have hall : ∀ t, t < n → k_pk sv fr told back p (nI dn) q t = true → ∃ j, j < cnt (k_pk sv fr told back p (nI dn) q) n ∧ k_row (k_pk sv fr told back p (nI dn) q) (fun _ => 0) n j = nI t := by
    intro t ht hg
    clear hP
    induction n with
    | zero => omega
    | succ n ih =>
      unfold cnt k_row
      by_cases e : t = n
      · subst e
        rw [if_pos hg, if_pos hg]
        exact ⟨_, Nat.lt_succ_self _, u_s _ _ _⟩
      · obtain ⟨j, h1, h2⟩ := ih (by omega) (fun t ht => H t (by omega)) (by omega)
        by_cases e2 : k_pk sv fr told back p (nI dn) q n = true
        · rw [if_pos e2, if_pos e2]
          exact ⟨j, by omega, by rw [u_n _ _ (by omega)]; exact h2⟩
        · rw [if_neg e2, if_neg e2]
          exact ⟨j, by omega, h2⟩
  generalize k_row (k_pk sv fr told back p (nI dn) q) (fun _ => 0) n = P at hP hall ⊢
  generalize cnt (k_pk sv fr told back p (nI dn) q) n = c at hP hall ⊢
  have hpk : ∀ t, k_pk sv fr told back p (nI dn) q t = true ↔ y_g sv told back p q t = true ∧ fr t ≤ nI dn := by
    intro t
    unfold k_pk y_g
    simp only [Bool.and_eq_true, decide_eq_true_eq]
    exact ⟨fun z => ⟨⟨z.1.1, z.2⟩, z.1.2⟩, fun z => ⟨⟨z.1.1, z.2⟩, z.1.2⟩⟩
  have hcl : ∀ j, j < c → ∃ t F E, t < n ∧ (P j).toNatClampNeg = t ∧ k_pk sv fr told back p (nI dn) q t = true ∧ fr t = nI F ∧ to t = nI E ∧ F ≤ E ∧ E ≤ 20000 := by
    intro j hj
    obtain ⟨t, h1, h2, h3⟩ := hP j hj
    obtain ⟨F, E, f1, f2, f3, f4⟩ := H t h1
    exact ⟨t, F, E, h1, by rw [h3, nI_cl' (by omega)], h2, f1, f2, f3, f4⟩
  rcases k_fs_spec (P := P) (ms := ms) (fr := fr) c (fun j hj => by
      obtain ⟨t, F, E, h1, h2, h3, h4, h5, h6, h7⟩ := hcl j hj
      rw [h2, h4]
      exact nI_m1 (by omega)) with ⟨e, h⟩ | ⟨j, hj, h1, h2, h3⟩
  · rw [e, y_fs_none]
    intro k hk z
    simp only [decide_eq_true_eq] at z
    obtain ⟨t, z1, z2, z3⟩ := ((y_ms_pos n).1).mp z
    unfold y_c at z2
    simp only [Bool.and_eq_true, decide_eq_true_eq] at z2
    obtain ⟨j, j1, j2⟩ := hall t z1 ((hpk t).mpr ⟨z2.1, by
      have a := z2.2.1
      have b : nI k ≤ nI dn := (nI_le' (by omega) (by omega)).mpr (by omega)
      grind⟩)
    have := h j j1
    rw [j2, nI_cl' (by omega)] at this
    exact z3 this
  · obtain ⟨t, F, E, t1, t2, t3, t4, t5, t6, t7⟩ := hcl j hj
    rw [h2, t2, t4]
    rw [t2] at h1
    have hFd : F ≤ dn := by
      have := ((hpk t).mp t3).2
      rw [t4] at this
      exact (nI_le' (by omega) (by omega)).mp this
    symm
    refine y_fs_at (dn + 1) F (by omega) (by omega) ?_ ?_
    · simp only [decide_eq_true_eq]
      refine ((y_ms_pos n).1).mpr ⟨t, t1, ?_, h1⟩
      unfold y_c
      rw [((hpk t).mp t3).1, t4, t5, Bool.true_and, decide_eq_true_eq]
      exact ⟨Int32.le_refl _, (nI_le' (by omega) (by omega)).mpr t6⟩
    · intro k hk z
      simp only [decide_eq_true_eq] at z
      obtain ⟨t', z1, z2, z3⟩ := ((y_ms_pos n).1).mp z
      unfold y_c at z2
      simp only [Bool.and_eq_true, decide_eq_true_eq] at z2
      obtain ⟨j', j1, j2⟩ := hall t' z1 ((hpk t').mpr ⟨z2.1, by
        have a := z2.2.1
        have b : nI k ≤ nI dn := (nI_le' (by omega) (by omega)).mpr (by omega)
        grind⟩)
      have hh := h3 j' j1
      rw [j2, nI_cl' (by omega), t2, t4] at hh
      have h5 := hh z3
      have h6 := z2.2.1
      have h7 : nI F ≤ nI k := by grind
      have := (nI_le' (by omega) (by omega)).mp h7
      omega
