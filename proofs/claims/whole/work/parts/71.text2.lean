/-! the reference's reading against the class's: before a unit, behind one, a fault -/
def p_A (μ0 : j_M) (T V f : Nat → Int32) (n o x y i : Nat) (m : j_M) : Prop := i ≤ n ∧ p_S μ0 m i (-1) o ∧ (∃ dg, a_au T i = some (0, nI o, dg)) ∧ w_run V T f i 6 = 0 ∧ w_run V T f i 1 = nI x ∧ w_run V T f i 2 = nI y ∧ x < 2 ^ (o + 1) ∧ y < 2 ^ (o + 1)
def p_B (μ0 : j_M) (T V f : Nat → Int32) (n o x y : Nat) (P : Int32 → Prop) (j : Nat) (m : j_M) : Prop := j ≤ n ∧ p_S μ0 m j (-1) o ∧ (∃ pl dg, (pl = 3 ∨ pl = 4) ∧ a_au T j = some (pl, nI o, dg) ∧ (pl = 3 → j < n → ¬ a_dig (T j))) ∧ (j < n → P (T j)) ∧ w_set (w_run V T f j) 1 = nI x ∧ w_set (w_run V T f j) 2 = nI y ∧ x < 2 ^ (o + 1) ∧ y < 2 ^ (o + 1)
def p_F (μ0 : j_M) (T : Nat → Int32) (n : Nat) (m : j_M) : Prop := ∃ i v o, p_S μ0 m i v o ∧ a_F T n v ∧ ¬ v = -1
theorem p_p9 {x o : Nat} (h : x < 2 ^ (o + 1)) (ho : o ≤ 8) : x < 512 := Nat.lt_of_lt_of_le h (Nat.pow_le_pow_right (by omega) (show o + 1 ≤ 9 by omega))
theorem p_A.lk {μ0 m m' : j_M} {T V f : Nat → Int32} {n o x y i j : Nat} (h : p_A μ0 T V f n o x y i m) (hij : i ≤ j) (hj : j ≤ n) (hs : p_sp T i j) (hS : p_S μ0 m' j (-1) o) : p_A μ0 T V f n o x y j m' := by
  obtain ⟨h1, h2, ⟨dg, h3⟩, h4, h5, h6, h7, h8⟩ := h
  obtain ⟨k, rfl⟩ : ∃ k, j = i + k := ⟨j - i, by omega⟩
  have e := w_sp0 h4 k hs
  have a := au_sp h3 k hs
  rw [if_neg (fun z => absurd z.1 (by decide))] at a
  exact ⟨hj, hS, ⟨dg, a⟩, by rw [e]; exact h4, by rw [e]; exact h5, by rw [e]; exact h6, h7, h8⟩
theorem p_B.lk {μ0 m m' : j_M} {T V f : Nat → Int32} {n o x y i j : Nat} {P P' : Int32 → Prop} (h : p_B μ0 T V f n o x y P i m) (hij : i ≤ j) (hj : j ≤ n) (hs : p_sp T i j) (hS : p_S μ0 m' j (-1) o) (hP : j < n → P' (T j)) : p_B μ0 T V f n o x y P' j m' := by
  obtain ⟨h1, h2, ⟨pl, dg, h3, h4, h5⟩, h6, h7, h8, h9, h10⟩ := h
  obtain ⟨k, rfl⟩ : ∃ k, j = i + k := ⟨j - i, by omega⟩
  have e := w_sp (V := V) (f := f) k hs
  have a := au_sp h4 k hs
  refine ⟨hj, hS, ⟨_, dg, ?_, a, ?_⟩, hP, by rw [e]; exact h7, by rw [e]; exact h8, h9, h10⟩
  · by_cases z : pl = 3 ∧ 0 < k
    · rw [if_pos z]; exact Or.inr rfl
    · rw [if_neg z]; exact h3
  · by_cases z : pl = 3 ∧ 0 < k
    · rw [if_pos z]; intro q; exact absurd q (by decide)
    · rw [if_neg z]
      intro q
      have k0 : k = 0 := by
        have : ¬ 0 < k := fun y => z ⟨q, y⟩
        omega
      subst k0
      exact h5 q
/-- behind a unit nothing goes on but a joint -/
theorem p_B.no {μ0 m : j_M} {T V f : Nat → Int32} {n o x y j : Nat} {P : Int32 → Prop} (h : p_B μ0 T V f n o x y P j m) (hj : j < n) (h32 : ¬ T j = 32) (hc : T j = 41 → o = 0) (ha : ¬ T j = 38) (ho : ¬ T j = 124) : a_F T n (nI j) := by
  obtain ⟨h1, h2, ⟨pl, dg, h3, h4, h5⟩, h6, h7, h8⟩ := h
  refine a_F1 h4 hj ?_
  have hf : ∀ s : a_St, s.2.1 = nI o → a_fol s (T j) = none := by
    intro s hs
    unfold a_fol
    by_cases c : T j = 41
    · rw [if_pos c, hs, hc c, if_neg (by decide)]
    · rw [if_neg c, if_neg (fun z => z.elim ha ho)]
  unfold a_go
  dsimp only
  rw [if_neg h32]
  rcases h3 with rfl | rfl
  · rw [if_neg (by decide), if_neg (by decide), if_neg (by decide), if_pos rfl, if_neg (h5 rfl hj)]
    exact hf _ rfl
  · rw [if_neg (by decide), if_neg (by decide), if_neg (by decide), if_neg (by decide)]
    exact hf _ rfl
/-- a joint behind a unit: the reading goes on -/
theorem p_B.go {μ0 m : j_M} {T V f : Nat → Int32} {n o x y j : Nat} {P : Int32 → Prop} (h : p_B μ0 T V f n o x y P j m) {c : Int32} (ht : T j = c) (hc : c = 38 ∨ c = 124) : ∃ dg, a_au T (j + 1) = some (0, nI o, dg) := by
  obtain ⟨h1, h2, ⟨pl, dg, h3, h4, h5⟩, h6, h7, h8⟩ := h
  have e := a_au_s h4
  rw [ht] at e
  have n32 : ¬ c = 32 := by rcases hc with rfl | rfl <;> decide
  have ndig : ¬ a_dig c := by rcases hc with rfl | rfl <;> decide
  have n41 : ¬ c = 41 := by rcases hc with rfl | rfl <;> decide
  unfold a_go a_fol at e
  dsimp only at e
  rw [if_neg n32] at e
  rcases h3 with rfl | rfl
  · rw [if_neg (by decide), if_neg (by decide), if_neg (by decide), if_pos rfl, if_neg ndig, if_neg n41, if_pos hc] at e
    exact ⟨_, e⟩
  · rw [if_neg (by decide), if_neg (by decide), if_neg (by decide), if_neg (by decide), if_neg n41, if_pos hc] at e
    exact ⟨_, e⟩
theorem p_B.close {μ0 m : j_M} {T V f : Nat → Int32} {n o x y j : Nat} {P : Int32 → Prop} (h : p_B μ0 T V f n (o + 1) x y P j m) (ho : o ≤ 7) (ht : T j = 41) : ∃ dg, a_au T (j + 1) = some (4, nI o, dg) := by
  obtain ⟨h1, h2, ⟨pl, dg, h3, h4, h5⟩, h6, h7, h8⟩ := h
  have e := a_au_s h4
  rw [ht] at e
  have e1 : nI (o + 1) - 1 = nI o := nI_pred o
  have e2 : 0 ≤ nI o := nI_ge0 (by omega)
  unfold a_go a_fol at e
  dsimp only at e
  rw [if_neg (by decide), e1] at e
  rcases h3 with rfl | rfl
  · rw [if_neg (by decide), if_neg (by decide), if_neg (by decide), if_pos rfl, if_neg (by decide), if_pos rfl, if_pos e2] at e
    exact ⟨_, e⟩
  · rw [if_neg (by decide), if_neg (by decide), if_neg (by decide), if_neg (by decide), if_pos rfl, if_pos e2] at e
    exact ⟨_, e⟩
theorem w_take_38 (V f : Nat → Int32) : w_take V f 38 = w_set f := by
  unfold w_take w_jt
  rw [if_neg (by decide), if_neg (by decide), if_neg (by decide), if_neg (by decide), if_neg (by decide), if_neg (by decide)]
theorem w_take_124 (V f : Nat → Int32) : w_take V f 124 = upd (upd (w_set f) 1 (w_set f 1 ||| w_set f 2 &&& 1)) 2 (w_set f 2 ||| 1) := by
  unfold w_take w_jt
  rw [if_neg (by decide), if_neg (by decide), if_neg (by decide), if_neg (by decide), if_neg (by decide), if_pos rfl]
theorem w_take_40 (V f : Nat → Int32) : w_take V f 40 = upd (upd (w_set f) 1 (w_shl (w_set f 1))) 2 (w_shl (w_set f 2) ||| 1) := by
  unfold w_take w_jt
  rw [if_neg (by decide), if_neg (by decide), if_neg (by decide), if_pos rfl]
theorem w_take_41 (V f : Nat → Int32) : w_take V f 41 = w_cu (upd (upd (w_set f) 1 (w_shr (w_set f 1))) 2 (w_shr (w_set f 2))) (w_hh (w_set f)) := by
  unfold w_take w_jt
  rw [if_neg (by decide), if_neg (by decide), if_neg (by decide), if_neg (by decide), if_pos rfl]
/-- an & behind a unit -/
theorem p_B.and {μ0 m m' : j_M} {T V f : Nat → Int32} {n o x y j : Nat} {P : Int32 → Prop} (h : p_B μ0 T V f n o x y P j m) (hj : j < n) (ht : T j = 38) (hS : p_S μ0 m' (j + 1) (-1) o) : p_A μ0 T V f n o x y (j + 1) m' := by
  have hg := h.go ht (Or.inl rfl)
  obtain ⟨h1, h2, h3, h6, h7, h8, h9, h10⟩ := h
  have e : w_run V T f (j + 1) = w_set (w_run V T f j) := by
    show w_take V _ (T j) = _
    rw [ht, w_take_38]
  exact ⟨by omega, hS, hg, by rw [e]; exact w_set_6 _, by rw [e]; exact h7, by rw [e]; exact h8, h9, h10⟩
/-- an | behind a part -/
theorem p_B.or {μ0 m m' : j_M} {T V f : Nat → Int32} {n o x y j : Nat} {P : Int32 → Prop} (h : p_B μ0 T V f n o x y P j m) (ho : o ≤ 8) (hj : j < n) (ht : T j = 124) (hS : p_S μ0 m' (j + 1) (-1) o) : p_A μ0 T V f n o (if y % 2 = 1 then x / 2 * 2 + 1 else x) (y / 2 * 2 + 1) (j + 1) m' := by
  have hg := h.go ht (Or.inr rfl)
  obtain ⟨h1, h2, h3, h6, h7, h8, h9, h10⟩ := h
  have x9 := p_p9 h9 ho
  have y9 := p_p9 h10 ho
  have e : w_run V T f (j + 1) = upd (upd (w_set (w_run V T f j)) 1 (w_set (w_run V T f j) 1 ||| w_set (w_run V T f j) 2 &&& 1)) 2 (w_set (w_run V T f j) 2 ||| 1) := by
    show w_take V _ (T j) = _
    rw [ht, w_take_124]
  have hx := w_bit (show x < 1024 by omega)
  have hy := w_bit (show y < 1024 by omega)
  have e1 : nI x ||| nI y &&& 1 = nI (if y % 2 = 1 then x / 2 * 2 + 1 else x) := by
    rw [hy.2.2.2.1]
    by_cases z : y % 2 = 1
    · rw [if_pos z, z]
      exact hx.2.2.1
    · rw [if_neg z, show y % 2 = 0 by omega]
      exact hx.2.2.2.2.2
  have pe : 2 ^ (o + 1) = 2 * 2 ^ o := by rw [Nat.pow_succ]; omega
  refine ⟨by omega, hS, hg, ?_, ?_, ?_, ?_, ?_⟩
  · rw [e, u_n _ _ (by decide), u_n _ _ (by decide)]; exact w_set_6 _
  · rw [e, u_n _ _ (by decide), u_s, h7, h8]; exact e1
  · rw [e, u_s, h8]; exact hy.2.2.1
  · split <;> omega
  · omega
/-- a bracket opened -/
theorem p_A.brk {μ0 m m' : j_M} {T V f : Nat → Int32} {n o x y j : Nat} (h : p_A μ0 T V f n o x y j m) (ho : o ≤ 7) (hj : j < n) (ht : T j = 40) (hS : p_S μ0 m' (j + 1) (-1) (o + 1)) : p_A μ0 T V f n (o + 1) (2 * x) (2 * y + 1) (j + 1) m' := by
  obtain ⟨h1, h2, ⟨dg, h3⟩, h4, h5, h6, h7, h8⟩ := h
  have x9 : x < 256 := Nat.lt_of_lt_of_le h7 (Nat.pow_le_pow_right (by omega) (show o + 1 ≤ 8 by omega))
  have y9 : y < 256 := Nat.lt_of_lt_of_le h8 (Nat.pow_le_pow_right (by omega) (show o + 1 ≤ 8 by omega))
  have hx := w_bit (show x < 1024 by omega)
  have hy := w_bit (show y < 1024 by omega)
  have hy2 := w_bit (show 2 * y < 1024 by omega)
  have e := a_au_s h3
  rw [ht] at e
  have e8 : nI o + 1 ≤ 8 := by rw [nI_1]; exact (nI_le' (b := 8) (by omega) (by omega)).mpr (by omega)
  unfold a_go a_beg at e
  dsimp only at e
  rw [if_neg (by decide), if_pos rfl, if_pos rfl, if_pos e8, nI_1] at e
  have w : w_run V T f (j + 1) = upd (upd (w_set (w_run V T f j)) 1 (w_shl (w_set (w_run V T f j) 1))) 2 (w_shl (w_set (w_run V T f j) 2) ||| 1) := by
    show w_take V _ (T j) = _
    rw [ht, w_take_40]
  rw [w_set_0 h4] at w
  have pe : 2 ^ (o + 1 + 1) = 2 * 2 ^ (o + 1) := by rw [Nat.pow_succ]; omega
  refine ⟨by omega, hS, ⟨dg, e⟩, ?_, ?_, ?_, by omega, by omega⟩
  · rw [w, u_n _ _ (by decide), u_n _ _ (by decide)]; exact h4
  · rw [w, u_n _ _ (by decide), u_s, h5]; exact hx.1
  · rw [w, u_s, h6, hy.1, hy2.2.2.1]
    congr 1
    omega
/-- a bracket closed -/
theorem p_B.shut {μ0 m m' : j_M} {T V f : Nat → Int32} {n o x y x' y' j : Nat} {P P' : Int32 → Prop} {b : Bool} (h : p_B μ0 T V f n (o + 1) x' y' P j m) (ho : o ≤ 7) (hj : j < n) (ht : T j = 41) (hS : p_S μ0 m' (j + 1) (-1) o) (ex : x' / 2 = x) (ey : y' / 2 = y) (hb : b = true ↔ (x' % 2 = 1 ∨ y' % 2 = 1)) (hP : ∀ c, P' c) : p_B μ0 T V f n o x (if b = true then y else y / 2 * 2) P' (j + 1) m' := by
  obtain ⟨dg, hg⟩ := h.close ho ht
  obtain ⟨h1, h2, h3, h6, h7, h8, h9, h10⟩ := h
  have x9 := p_p9 h9 (by omega)
  have y9 := p_p9 h10 (by omega)
  have hx := w_bit (show x' < 1024 by omega)
  have hy := w_bit (show y' < 1024 by omega)
  have hy2 := w_bit (show y < 1024 by omega)
  have hh := w_hh_iff (show x' < 1024 by omega) (show y' < 1024 by omega) h7 h8
  have bb : w_hh (w_set (w_run V T f j)) = b := by
    rw [Bool.eq_iff_iff]
    exact hh.trans hb.symm
  have w : w_run V T f (j + 1) = w_cu (upd (upd (w_set (w_run V T f j)) 1 (w_shr (w_set (w_run V T f j) 1))) 2 (w_shr (w_set (w_run V T f j) 2))) b := by
    show w_take V _ (T j) = _
    rw [ht, w_take_41, bb]
  have q6 : w_run V T f (j + 1) 6 = 0 := by
    rw [w]
    unfold w_cu
    split
    · rw [u_n _ _ (by decide), u_n _ _ (by decide)]; exact w_set_6 _
    · rw [u_n _ _ (by decide), u_n _ _ (by decide), u_n _ _ (by decide)]; exact w_set_6 _
  have pe : 2 ^ (o + 1 + 1) = 2 * 2 ^ (o + 1) := by rw [Nat.pow_succ]; omega
  refine ⟨by omega, hS, ⟨4, dg, Or.inr rfl, hg, fun z => absurd z (by decide)⟩, fun _ => hP _, ?_, ?_, by omega, ?_⟩
  · rw [w_set_0 q6, w]
    unfold w_cu
    split
    · rw [u_n _ _ (by decide), u_s, h7, hx.2.1, ex]
    · rw [u_n _ _ (by decide), u_n _ _ (by decide), u_s, h7, hx.2.1, ex]
  · rw [w_set_0 q6, w]
    unfold w_cu
    cases b with
    | true => rw [if_pos rfl, if_pos rfl, u_s, h8, hy.2.1, ey]
    | false => rw [if_neg (by decide), if_neg (by decide), u_s, u_s, h8, hy.2.1, ey, hy2.2.2.2.2.1]
  · split <;> omega
