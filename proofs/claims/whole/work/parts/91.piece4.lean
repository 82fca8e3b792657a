/-! the calls in pairs: piece -/
def b_rel (B : Nat → Int32) (H : Nat → Bool) (np : Nat) : Prop := ∀ k, k < np → H k = true → B (cnt H k) = nI k
theorem cnt_lt_of {H : Nat → Bool} {k n : Nat} (hk : k < n) (h : H k = true) : cnt H k < cnt H n := by
  induction n with
  | zero => omega
  | succ n ih =>
    rw [cnt_s]
    by_cases e : k = n
    · subst e
      rw [if_pos h]
      omega
    · have := ih (by omega)
      split <;> omega
theorem b_rel_row (G : Nat → Bool) (f : Nat → Int32) : ∀ n, b_rel (k_row G f n) G n
  | 0 => fun k hk => by omega
  | n + 1 => by
    have ih := b_rel_row G f n
    intro k hk hg
    unfold k_row
    by_cases e : k = n
    · subst e
      rw [if_pos hg, u_s]
    · by_cases g : G n = true
      · rw [if_pos g, u_n _ _ (by have := cnt_lt_of (show k < n by omega) hg; omega)]
        exact ih k (by omega) hg
      · rw [if_neg g]
        exact ih k (by omega) hg
theorem b_rel_rm {B : Nat → Int32} {H : Nat → Bool} {np a pl : Nat} (h : b_rel B H np) (ha : a < np) (hH : H a = true) (hp : cnt H a = pl) : b_rel (k_mv B pl (cnt H np - 1)) (e_rm H a) np := by
  intro k hk hr
  have hk2 : H k = true ∧ k ≠ a := by
    unfold e_rm at hr
    simp only [Bool.and_eq_true, Bool.not_eq_true', beq_eq_false_iff_ne, ne_eq] at hr
    exact hr
  rw [cnt_rm hH]
  have b1 := cnt_lt_of hk hk2.1
  have b2 := h k hk hk2.1
  unfold k_mv
  by_cases l : a < k
  · rw [if_pos l]
    have b3 := cnt_lt_of l hH
    rw [if_pos (by omega), show cnt H k - 1 + 1 = cnt H k by omega]
    exact b2
  · rw [if_neg l]
    have b3 := cnt_lt_of (show k < a by omega) hk2.1
    rw [if_neg (by omega)]
    exact b2
theorem I_Q.new {n1 n2 : Int32} {ow dn jd G ow' dn' jd' G' mk rf ms jd2 : Nat → Int32} {np nq : Nat} (h : I_Q n1 n2 ow dn jd G ow' dn' jd' G' mk rf ms np nq) (hn : nq < 40) {p : Nat} (hp : p < np) (h30 : np ≤ 30) (hms : ms p = -1) (hop : ∀ k, k < nq → ow k = nI p → ¬ dn k = -1) : I_Q (nI (nq + 1)) (nI (nq + 1)) (upd ow nq (nI p)) (upd dn nq (-1)) jd2 (k_cl G nq 12) (upd ow' nq (nI p)) (upd dn' nq (-1)) jd2 (k_cl G' nq 12) (upd mk nq (-1)) (upd rf nq (-1)) ms np (nq + 1) := by
  obtain ⟨h1, h2, h3, ⟨e1, e2, e3, e4⟩, h5, h6, h7, h8⟩ := h
  subst e1 e2 e4
  have cl : ∀ k, k < nq → ∀ j, j < 12 → k_cl G' nq 12 (12 * k + j) = G' (12 * k + j) := fun k hk j hj => by
    unfold k_cl
    rw [if_neg (by omega)]
  refine ⟨rfl, rfl, by omega, ⟨rfl, rfl, rfl, rfl⟩, fun k hk => ?_, fun a b hab hb e => ?_, fun k hk hdk hr => ?_, fun k hk => ⟨fun j hj => ?_, fun hdk j hj => ?_⟩⟩
  · by_cases z : k = nq
    · subst z
      rw [u_s, u_s, u_s, u_s, if_pos rfl, if_pos rfl]
      exact ⟨⟨p, hp, rfl⟩, rfl, rfl⟩
    · rw [u_n _ _ z, u_n _ _ z, u_n _ _ z, u_n _ _ z, (k_sp_ext (cl k (by omega))).1, (k_sp_ext (cl k (by omega))).2]
      exact h5 k (by omega)
  · have za : a ≠ nq := by omega
    rw [u_n _ _ za] at e ⊢
    rw [(k_sp_ext (cl a (by omega))).2]
    by_cases z : b = nq
    · subst z
      rw [u_s] at e
      have d1 := hop a (by omega) e
      refine ⟨d1, fun w => ?_⟩
      have := h7 a (by omega) d1 w
      rw [e, nI_cl' (by omega)] at this
      exact this hms
    · rw [u_n _ _ z] at e
      exact h6 a b hab (by omega) e
  · by_cases z : k = nq
    · subst z
      rw [u_s] at hdk
      exact absurd rfl hdk
    · rw [u_n _ _ z] at hdk ⊢
      rw [(k_sp_ext (cl k (by omega))).2] at hr
      exact h7 k (by omega) hdk hr
  · by_cases z : k = nq
    · subst z
      refine Or.inl ?_
      unfold k_cl
      rw [if_pos (by omega)]
    · rw [cl k (by omega) j hj]
      exact (h8 k (by omega)).1 j hj
  · by_cases z : k = nq
    · subst z
      rw [u_s] at hdk
      exact absurd rfl hdk
    · rw [u_n _ _ z] at hdk
      rw [cl k (by omega) j hj]
      exact (h8 k (by omega)).2 hdk j hj
theorem E_fit {μ ν : j_M} {np nt ng nl ns nn nq : Nat} {L : Nat → Nat} (h : I_all μ np nt ng nl ns nn nq L) (hz : z_eq μ ν) {p : Nat} (hp : p < np) : ∀ k, k < np → (g_fit μ nt (nI p) k = true ↔ q_fit ν np nt (nI p) (nI k)) := by
  obtain ⟨hA, hP, hT, -⟩ := h
  obtain ⟨t1, t2, t3, t4, t5, t6⟩ := hT.2.2.2.1
  obtain ⟨p1, p2, p3, p4, p5, p6⟩ := hP.2.2.2.1
  have n30' := hP.2.2.1
  intro k hk
  have ek := E_kin n30' hP.2.2.2.2.1 (ν := ν) (by rw [hz.1 43 (by omega)]; exact p1) (by rw [hz.1 44 (by omega)]; exact p2) (i := k) (j := p) hk
  have lt : nI k < nI np := (nI_lt' (by omega) (by omega)).mpr hk
  have ge : 0 ≤ nI k := nI_ge0 (by omega)
  unfold g_fit q_fit q_sd g_mast
  rw [← ek, hz.2 2 (by decide), hz.2 1 (by decide), hz.1 45 (by omega), hz.1 46 (by omega), hz.1 49 (by omega), hz.1 50 (by omega), hz.1 53 (by omega), hz.1 54 (by omega), p3, p4, t1, t2, t5, t6, hA.1, hP.2.1, nI_cl' (show k < 1000000 by omega)]
  simp only [Bool.and_eq_true, Bool.not_eq_true', decide_eq_true_eq]
  constructor
  · rintro ⟨⟨a, b⟩, c⟩
    refine ⟨⟨ge, lt, a⟩, fun z => ?_, fun z => ?_⟩
    · rw [b_kin_t.mpr z] at b; cases b
    · rw [z] at c; cases c
  · rintro ⟨a, b, c⟩
    refine ⟨⟨a.2.2, ?_⟩, ?_⟩
    · cases z : b_kin (μ 2) (μ 3) (nI k) (nI p) with
      | false => rfl
      | true => exact absurd (b_kin_t.mp z) b
    · cases z : k_ex (fun t => decide (μ 9 t = nI p ∧ μ 10 t = nI k) && k_kn (μ 13) (μ 14) (μ 42 1) t) nt with
      | false => rfl
      | true => exact absurd z c
