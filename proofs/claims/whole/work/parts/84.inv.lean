/-! the invariant between class and reference -/
def I_A (a b : Int32) : Prop := a = b ∧ 0 ≤ b ∧ b ≤ 20000
def I_P (n1 n2 : Int32) (par oth ms dd sh ex par' oth' ms' dd' sh' ex' : Nat → Int32) (np : Nat) : Prop := n1 = nI np ∧ n2 = nI np ∧ np ≤ 30 ∧ (par' = par ∧ oth' = oth ∧ ms' = ms ∧ dd' = dd ∧ sh' = sh ∧ ex' = ex) ∧ (∀ k, k < np → (par k = -1 ∨ ∃ j, j < np ∧ par k = nI j) ∧ (oth k = -1 ∨ ∃ j, j < np ∧ oth k = nI j)) ∧ ∀ k, k < np → ¬ dd k = -1 → ¬ ms k = -1
def I_T (n1 n2 : Int32) (sv ms fr to told back sv' ms' fr' to' told' back' : Nat → Int32) (nt : Nat) : Prop := n1 = nI nt ∧ n2 = nI nt ∧ nt ≤ 100 ∧ (sv' = sv ∧ ms' = ms ∧ fr' = fr ∧ to' = to ∧ told' = told ∧ back' = back) ∧ ∀ t, t < nt → ∃ F E : Nat, fr t = nI F ∧ to t = nI E ∧ F ≤ E ∧ E ≤ 20000
def I_G (n1 n2 : Int32) (gv le co told gv' le' co' told' : Nat → Int32) (ng : Nat) : Prop := n1 = nI ng ∧ n2 = nI ng ∧ ng ≤ 100 ∧ (gv' = gv ∧ le' = le ∧ co' = co ∧ told' = told) ∧ ∀ g, g < ng → (0 ≤ le g ∧ le g ≤ 9) ∧ 0 ≤ co g ∧ co g ≤ 9999
def I_D (n1 n2 : Int32) (sg sg' : Nat → Int32) (nl : Nat) : Prop := n1 = nI nl ∧ n2 = nI nl ∧ nl ≤ 120 ∧ ∀ k, k < nl → 0 ≤ sg k ∧ sg k ≤ 255 ∧ sg' k = b_sg (sg k)
def I_S (n1 n2 : Int32) (fr told fr' told' X ln X' ln' : Nat → Int32) (ns : Nat) (L : Nat → Nat) : Prop := n1 = nI ns ∧ n2 = nI ns ∧ ns ≤ 30 ∧ (fr' = fr ∧ told' = told) ∧ ∀ s, s < ns → L s ≤ 120 ∧ ln s = nI (L s) ∧ ln' s = nI (L s) ∧ (∀ i, i < L s → 0 ≤ X (120 * s + i) ∧ X (120 * s + i) ≤ 255 ∧ X' (120 * s + i) = b_sg (X (120 * s + i))) ∧ a_F (fun i => X (120 * s + i)) (L s) (-1)
def I_N (n1 n2 now : Int32) (fr told of fr' told' of' : Nat → Int32) (nn : Nat) : Prop := n1 = nI nn ∧ n2 = nI nn ∧ nn ≤ 30 ∧ (fr' = fr ∧ told' = told ∧ of' = of) ∧ ∀ k, k < nn → 0 ≤ fr k ∧ told k ≤ now
def I_Q (n1 n2 : Int32) (ow dn jd G ow' dn' jd' G' mk rf ms : Nat → Int32) (np nq : Nat) : Prop := n1 = nI nq ∧ n2 = nI nq ∧ nq ≤ 40 ∧ (ow' = ow ∧ dn' = dn ∧ jd' = jd ∧ G' = G) ∧ (∀ k, k < nq → (∃ j, j < np ∧ ow k = nI j) ∧ mk k = (if dn k = -1 then -1 else k_mk G k) ∧ rf k = (if dn k = -1 then -1 else k_rf G k)) ∧ (∀ i j, i < j → j < nq → ow i = ow j → ¬ dn i = -1 ∧ ¬ k_rf G i = -1) ∧ (∀ i, i < nq → ¬ dn i = -1 → k_rf G i = -1 → ¬ ms (ow i).toNatClampNeg = -1) ∧ ∀ i, i < nq → (∀ k, k < 12 → G (12 * i + k) = -1 ∨ (0 ≤ G (12 * i + k) ∧ G (12 * i + k) ≤ 10)) ∧ (¬ dn i = -1 → ∀ k, k < 12 → ¬ G (12 * i + k) = -1)
def I_V (v : Nat → Int32) (row : Int32) : Prop := (∀ w, w < 6 → 0 ≤ v w) ∧ (row = nI 59 ∨ row = nI 60)
def I_all (μ : j_M) (np nt ng nl ns nn nq : Nat) (L : Nat → Nat) : Prop :=
  I_A (μ 0 11) (μ 42 1) ∧ I_P (μ 1 6) (μ 42 2) (μ 2) (μ 3) (μ 4) (μ 5) (μ 6) (μ 7) (μ 43) (μ 44) (μ 45) (μ 46) (μ 47) (μ 48) np ∧ I_T (μ 8 6) (μ 42 3) (μ 9) (μ 10) (μ 11) (μ 12) (μ 13) (μ 14) (μ 49) (μ 50) (μ 51) (μ 52) (μ 53) (μ 54) nt ∧ I_G (μ 16 4) (μ 42 4) (μ 17) (μ 18) (μ 19) (μ 20) (μ 55) (μ 56) (μ 57) (μ 58) ng ∧ I_D (μ 21 1) (μ 42 8) (μ 22) (μ 59) nl ∧ I_S (μ 25 2) (μ 42 5) (μ 26) (μ 27) (μ 62) (μ 63) (μ 28) (μ 29) (μ 60) (μ 61) ns L ∧ I_N (μ 32 2) (μ 42 7) (μ 42 1) (μ 33) (μ 34) (μ 35) (μ 71) (μ 72) (μ 70) nn ∧ I_Q (μ 36 4) (μ 42 6) (μ 37) (μ 38) (μ 39) (μ 40) (μ 64) (μ 65) (μ 68) (μ 69) (μ 66) (μ 67) (μ 4) np nq ∧ I_V (μ 76) (μ 42 43)
def Inv (μ : j_M) : Prop := ∃ np nt ng nl ns nn nq L, I_all μ np nt ng nl ns nn nq L
/-! what the two sides compute alike -/
theorem E_kin {par oth : Nat → Int32} {np : Nat} (hn : np ≤ 30) (h : ∀ k, k < np → (par k = -1 ∨ ∃ j, j < np ∧ par k = nI j) ∧ (oth k = -1 ∨ ∃ j, j < np ∧ oth k = nI j)) {ν : j_M} (h3 : ν 43 = par) (h4 : ν 44 = oth) {i j : Nat} (hi : i < np) : k_kin par oth (nI i) (nI j) ↔ q_kin ν np (nI i) (nI j) := by
  obtain ⟨hp, ho⟩ := h i hi
  unfold k_kin q_kin q_ip
  rw [h3, h4, nI_cl' (show i < 1000000 by omega), k_ex_iff]
  generalize (nI j).toNatClampNeg = j'
  have key : ((¬ par i = -1 ∧ (par j' = par i ∨ oth j' = par i)) ∨ (¬ oth i = -1 ∧ (par j' = oth i ∨ oth j' = oth i))) ↔ ∃ k, k < np ∧ decide ((par i = nI k ∨ oth i = nI k) ∧ (par j' = nI k ∨ oth j' = nI k)) = true := by
    constructor
    · rintro (⟨a, b⟩ | ⟨a, b⟩)
      · rcases hp with e | ⟨k, k1, k2⟩
        · exact absurd e a
        · exact ⟨k, k1, by rw [decide_eq_true_eq]; exact ⟨Or.inl k2, by rw [← k2]; exact b⟩⟩
      · rcases ho with e | ⟨k, k1, k2⟩
        · exact absurd e a
        · exact ⟨k, k1, by rw [decide_eq_true_eq]; exact ⟨Or.inr k2, by rw [← k2]; exact b⟩⟩
    · rintro ⟨k, k1, k2⟩
      rw [decide_eq_true_eq] at k2
      have nm := nI_m1 (a := k) (by omega)
      rcases k2.1 with e | e
      · exact Or.inl ⟨by rw [e]; exact nm, by rw [e]; exact k2.2⟩
      · exact Or.inr ⟨by rw [e]; exact nm, by rw [e]; exact k2.2⟩
  rw [← key]
theorem E_nn {fr told of : Nat → Int32} {t : Int32} : ∀ n, n ≤ 30 → (∀ k, k < n → 0 ≤ fr k ∧ told k ≤ t) → (k_inf fr told t t n = -1 ∧ q_nn fr of t n = (3, -1)) ∨ ∃ j, j < n ∧ k_inf fr told t t n = nI j ∧ q_nn fr of t n = (of j, fr j)
  | 0, _, _ => Or.inl ⟨rfl, rfl⟩
  | n + 1, hn, h => by
    have ih := E_nn n (by omega) (fun k hk => h k (by omega)) (of := of)
    obtain ⟨h1, h2⟩ := h n (by omega)
    unfold k_inf q_nn
    rcases ih with ⟨a, b⟩ | ⟨j, j1, a, b⟩
    · rw [a, b]
      by_cases c : fr n ≤ t
      · rw [if_pos ⟨h2, c, Or.inl rfl⟩, if_neg (fun z => by grind)]
        exact Or.inr ⟨n, by omega, rfl, rfl⟩
      · rw [if_neg (fun z => c z.2.1), if_pos (Or.inl (by grind))]
        exact Or.inl ⟨rfl, rfl⟩
    · rw [a, b, nI_cl' (show j < 1000000 by omega)]
      by_cases c : fr n ≤ t ∧ fr j ≤ fr n
      · rw [if_pos ⟨h2, c.1, Or.inr c.2⟩, if_neg (fun z => by grind)]
        exact Or.inr ⟨n, by omega, rfl, rfl⟩
      · rw [if_neg (fun z => z.2.2.elim (fun w => nI_m1 (by omega) w) (fun w => c ⟨z.2.1, w⟩)), if_pos (by grind)]
        exact Or.inr ⟨j, by omega, rfl, rfl⟩
theorem E_nn' {fr told of : Nat → Int32} {t : Int32} {n : Nat} (hn : n ≤ 30) (h : ∀ k, k < n → 0 ≤ fr k ∧ told k ≤ t) : k_nn fr told of t n = (q_nn fr of t n).1 := by
  unfold k_nn
  rcases E_nn n hn h (of := of) with ⟨a, b⟩ | ⟨j, j1, a, b⟩
  · rw [a, b, if_pos rfl]
  · rw [a, b, if_neg (nI_m1 (by omega)), nI_cl' (by omega)]
theorem E_hands {sh : Nat → Int32} : ∀ n, n - p_cnt sh (-1) n = cnt (fun k => decide (¬ sh k = -1)) n
  | 0 => rfl
  | n + 1 => by
    have ih := E_hands (sh := sh) n
    have hl := p_cnt_le sh (-1) n
    rw [cnt_s]
    unfold p_cnt
    by_cases c : sh n = -1
    · rw [if_pos c, if_neg (by simp [c])]
      omega
    · rw [if_neg c, if_pos (by simp [c])]
      omega
theorem E_min {d q x : Int32} : x ≤ k_min d q ↔ x ≤ d ∧ x ≤ q := by
  unfold k_min
  split <;> constructor <;> intro z <;> grind
theorem E_lm {ow dn G rf : Nat → Int32} {p d q : Int32} : ∀ n, n ≤ 40 → (∀ k, k < n → rf k = (if dn k = -1 then -1 else k_rf G k)) → (∀ i j, i < j → j < n → ow i = ow j → ¬ dn i = -1 ∧ ¬ k_rf G i = -1) → k_lm ow dn G p (k_min d q) n = y_lt ow dn rf p d q n ∧ (k_lm ow dn G p (k_min d q) n = -1 ∨ ∃ j, j < n ∧ ow j = p ∧ ¬ dn j = -1 ∧ k_rf G j = -1 ∧ k_lm ow dn G p (k_min d q) n = nI j)
  | 0, _, _, _ => ⟨rfl, Or.inl rfl⟩
  | n + 1, hn, h1, h2 => by
    obtain ⟨ih, i2⟩ := E_lm (p := p) (d := d) (q := q) n (by omega) (fun k hk => h1 k (by omega)) (fun i j a b => h2 i j a (by omega))
    have r := h1 n (by omega)
    unfold k_lm y_lt
    by_cases c : ow n = p ∧ (¬ dn n = -1 ∧ k_rf G n = -1) ∧ dn n ≤ k_min d q
    · have none' : k_lm ow dn G p (k_min d q) n = -1 := by
        rcases i2 with e | ⟨j, j1, j2, j3, j4, j5⟩
        · exact e
        · exact absurd j4 (h2 j n j1 (by omega) (by rw [j2, c.1])).2
      rw [if_pos ⟨c, Or.inl none'⟩]
      have c3 := E_min.mp c.2.2
      rw [if_neg c.2.1.1] at r
      rw [if_pos ⟨c.1, c.2.1.1, by rw [r]; exact c.2.1.2, c3.1, c3.2⟩]
      exact ⟨rfl, Or.inr ⟨n, by omega, c.1, c.2.1.1, c.2.1.2, rfl⟩⟩
    · rw [if_neg (fun z => c z.1), if_neg (fun z => c ⟨z.1, ⟨z.2.1, by rw [if_neg z.2.1] at r; rw [← r]; exact z.2.2.1⟩, E_min.mpr ⟨z.2.2.2.1, z.2.2.2.2⟩⟩)]
      refine ⟨ih, ?_⟩
      rcases i2 with e | ⟨j, j1, j2⟩
      · exact Or.inl e
      · exact Or.inr ⟨j, by omega, j2⟩
theorem E_sum {gv told row : Nat → Int32} {p t : Int32} : ∀ n, n ≤ 100 → (∀ k, k < n → 0 ≤ row k ∧ row k ≤ 9999) → ∃ s, s ≤ 9999 * n ∧ k_sum gv told row p t n = nI s
  | 0, _, _ => ⟨0, by omega, rfl⟩
  | n + 1, hn, h => by
    obtain ⟨s, s1, s2⟩ := E_sum (gv := gv) (told := told) (p := p) (t := t) n (by omega) (fun k hk => h k (by omega))
    obtain ⟨r0, r1⟩ := h n (by omega)
    obtain ⟨v, v1, v2⟩ := nI_of2 (x := row n) (M := 9999) (n := 9999) (by decide) (by grind) r1
    unfold k_sum
    split
    · exact ⟨s + v, by omega, by rw [s2, v2, nI_add]⟩
    · exact ⟨s, by omega, s2⟩
theorem E_mk {G : Nat → Int32} {p : Nat} (h : ∀ k, k < 12 → 0 ≤ G (12 * p + k) ∧ G (12 * p + k) ≤ 10) : 0 ≤ k_mk G p := by
  have g : ∀ k, k < 12 → ∃ v : Nat, v ≤ 10 ∧ G (12 * p + k) = nI v := fun k hk => by
    obtain ⟨v, v1, v2⟩ := nI_of2 (x := G (12 * p + k)) (M := 10) (n := 10) (by decide) (by have := (h k hk).1; grind) (h k hk).2
    exact ⟨v, v1, v2⟩
  have sp : ∀ j, j < 4 → ∃ v : Nat, v ≤ 30 ∧ k_sp G p j = nI v := by
    intro j hj
    obtain ⟨a, a1, a2⟩ := g j (by omega)
    obtain ⟨b, b1, b2⟩ := g (4 + j) (by omega)
    obtain ⟨c, c1, c2⟩ := g (8 + j) (by omega)
    rw [← Nat.add_assoc] at b2 c2
    refine ⟨a + b + c, by omega, ?_⟩
    unfold k_sp
    rw [a2, b2, c2, nI_add, nI_add]
  obtain ⟨a, a1, a2⟩ := sp 0 (by omega)
  obtain ⟨b, b1, b2⟩ := sp 1 (by omega)
  obtain ⟨c, c1, c2⟩ := sp 2 (by omega)
  obtain ⟨d, d1, d2⟩ := sp 3 (by omega)
  unfold k_mk
  rw [a2, b2, c2, d2, nI_add, nI_add, nI_add, show (12 : Int32) = nI 12 from rfl, pk_div (by omega) (by omega) (by omega)]
  exact nI_pos' (by omega)
