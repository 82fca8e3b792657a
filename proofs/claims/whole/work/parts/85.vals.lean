/-! values, frames -/
/-- the reference's cells but 'thrown' -/
def z_eq (μ ν : j_M) : Prop := (∀ b, 43 ≤ b → ν b = μ b) ∧ ∀ j, j ≠ 0 → ν 42 j = μ 42 j
theorem z_eq.t0 {μ m : j_M} (h : ∀ b, 42 ≤ b → m b = μ b) : z_eq μ (t_0 m) := ⟨fun b hb => by rw [t_0o m (by omega)]; exact h b (by omega), fun j hj => by rw [t_0s m hj, h 42 (by omega)]⟩
theorem I_all.mv {μ m : j_M} {np nt ng nl ns nn nq : Nat} {L : Nat → Nat} (h : I_all μ np nt ng nl ns nn nq L) (hm : ∀ b, b ≠ 8 → b ≠ 15 → b ≠ 23 → b ≠ 30 → b ≠ 31 → b ≠ 41 → b ≠ 42 → b ≠ 73 → b ≠ 74 → b ≠ 75 → b ≠ 76 → m b = μ b) (h8 : m 8 6 = μ 8 6) (h42 : ∀ j, j ≠ 0 → j < 9 → m 42 j = μ 42 j) (hV : I_V (m 76) (m 42 43)) : I_all m np nt ng nl ns nn nq L := by
  obtain ⟨a, b, c, d, e, f, g, i, -⟩ := h
  unfold I_all
  rw [h8, h42 1 (by decide) (by decide), h42 2 (by decide) (by decide), h42 3 (by decide) (by decide), h42 4 (by decide) (by decide), h42 5 (by decide) (by decide), h42 6 (by decide) (by decide), h42 7 (by decide) (by decide), h42 8 (by decide) (by decide), hm 0 (by decide) (by decide) (by decide) (by decide) (by decide) (by decide) (by decide) (by decide) (by decide) (by decide) (by decide), hm 1 (by decide) (by decide) (by decide) (by decide) (by decide) (by decide) (by decide) (by decide) (by decide) (by decide) (by decide), hm 2 (by decide) (by decide) (by decide) (by decide) (by decide) (by decide) (by decide) (by decide) (by decide) (by decide) (by decide), hm 3 (by decide) (by decide) (by decide) (by decide) (by decide) (by decide) (by decide) (by decide) (by decide) (by decide) (by decide), hm 4 (by decide) (by decide) (by decide) (by decide) (by decide) (by decide) (by decide) (by decide) (by decide) (by decide) (by decide), hm 5 (by decide) (by decide) (by decide) (by decide) (by decide) (by decide) (by decide) (by decide) (by decide) (by decide) (by decide), hm 6 (by decide) (by decide) (by decide) (by decide) (by decide) (by decide) (by decide) (by decide) (by decide) (by decide) (by decide), hm 7 (by decide) (by decide) (by decide) (by decide) (by decide) (by decide) (by decide) (by decide) (by decide) (by decide) (by decide), hm 9 (by decide) (by decide) (by decide) (by decide) (by decide) (by decide) (by decide) (by decide) (by decide) (by decide) (by decide), hm 10 (by decide) (by decide) (by decide) (by decide) (by decide) (by decide) (by decide) (by decide) (by decide) (by decide) (by decide), hm 11 (by decide) (by decide) (by decide) (by decide) (by decide) (by decide) (by decide) (by decide) (by decide) (by decide) (by decide), hm 12 (by decide) (by decide) (by decide) (by decide) (by decide) (by decide) (by decide) (by decide) (by decide) (by decide) (by decide), hm 13 (by decide) (by decide) (by decide) (by decide) (by decide) (by decide) (by decide) (by decide) (by decide) (by decide) (by decide), hm 14 (by decide) (by decide) (by decide) (by decide) (by decide) (by decide) (by decide) (by decide) (by decide) (by decide) (by decide), hm 16 (by decide) (by decide) (by decide) (by decide) (by decide) (by decide) (by decide) (by decide) (by decide) (by decide) (by decide), hm 17 (by decide) (by decide) (by decide) (by decide) (by decide) (by decide) (by decide) (by decide) (by decide) (by decide) (by decide), hm 18 (by decide) (by decide) (by decide) (by decide) (by decide) (by decide) (by decide) (by decide) (by decide) (by decide) (by decide), hm 19 (by decide) (by decide) (by decide) (by decide) (by decide) (by decide) (by decide) (by decide) (by decide) (by decide) (by decide), hm 20 (by decide) (by decide) (by decide) (by decide) (by decide) (by decide) (by decide) (by decide) (by decide) (by decide) (by decide), hm 21 (by decide) (by decide) (by decide) (by decide) (by decide) (by decide) (by decide) (by decide) (by decide) (by decide) (by decide), hm 22 (by decide) (by decide) (by decide) (by decide) (by decide) (by decide) (by decide) (by decide) (by decide) (by decide) (by decide), hm 25 (by decide) (by decide) (by decide) (by decide) (by decide) (by decide) (by decide) (by decide) (by decide) (by decide) (by decide), hm 26 (by decide) (by decide) (by decide) (by decide) (by decide) (by decide) (by decide) (by decide) (by decide) (by decide) (by decide), hm 27 (by decide) (by decide) (by decide) (by decide) (by decide) (by decide) (by decide) (by decide) (by decide) (by decide) (by decide), hm 28 (by decide) (by decide) (by decide) (by decide) (by decide) (by decide) (by decide) (by decide) (by decide) (by decide) (by decide), hm 29 (by decide) (by decide) (by decide) (by decide) (by decide) (by decide) (by decide) (by decide) (by decide) (by decide) (by decide), hm 32 (by decide) (by decide) (by decide) (by decide) (by decide) (by decide) (by decide) (by decide) (by decide) (by decide) (by decide), hm 33 (by decide) (by decide) (by decide) (by decide) (by decide) (by decide) (by decide) (by decide) (by decide) (by decide) (by decide), hm 34 (by decide) (by decide) (by decide) (by decide) (by decide) (by decide) (by decide) (by decide) (by decide) (by decide) (by decide), hm 35 (by decide) (by decide) (by decide) (by decide) (by decide) (by decide) (by decide) (by decide) (by decide) (by decide) (by decide), hm 36 (by decide) (by decide) (by decide) (by decide) (by decide) (by decide) (by decide) (by decide) (by decide) (by decide) (by decide), hm 37 (by decide) (by decide) (by decide) (by decide) (by decide) (by decide) (by decide) (by decide) (by decide) (by decide) (by decide), hm 38 (by decide) (by decide) (by decide) (by decide) (by decide) (by decide) (by decide) (by decide) (by decide) (by decide) (by decide), hm 39 (by decide) (by decide) (by decide) (by decide) (by decide) (by decide) (by decide) (by decide) (by decide) (by decide) (by decide), hm 40 (by decide) (by decide) (by decide) (by decide) (by decide) (by decide) (by decide) (by decide) (by decide) (by decide) (by decide), hm 43 (by decide) (by decide) (by decide) (by decide) (by decide) (by decide) (by decide) (by decide) (by decide) (by decide) (by decide), hm 44 (by decide) (by decide) (by decide) (by decide) (by decide) (by decide) (by decide) (by decide) (by decide) (by decide) (by decide), hm 45 (by decide) (by decide) (by decide) (by decide) (by decide) (by decide) (by decide) (by decide) (by decide) (by decide) (by decide), hm 46 (by decide) (by decide) (by decide) (by decide) (by decide) (by decide) (by decide) (by decide) (by decide) (by decide) (by decide), hm 47 (by decide) (by decide) (by decide) (by decide) (by decide) (by decide) (by decide) (by decide) (by decide) (by decide) (by decide), hm 48 (by decide) (by decide) (by decide) (by decide) (by decide) (by decide) (by decide) (by decide) (by decide) (by decide) (by decide), hm 49 (by decide) (by decide) (by decide) (by decide) (by decide) (by decide) (by decide) (by decide) (by decide) (by decide) (by decide), hm 50 (by decide) (by decide) (by decide) (by decide) (by decide) (by decide) (by decide) (by decide) (by decide) (by decide) (by decide), hm 51 (by decide) (by decide) (by decide) (by decide) (by decide) (by decide) (by decide) (by decide) (by decide) (by decide) (by decide), hm 52 (by decide) (by decide) (by decide) (by decide) (by decide) (by decide) (by decide) (by decide) (by decide) (by decide) (by decide), hm 53 (by decide) (by decide) (by decide) (by decide) (by decide) (by decide) (by decide) (by decide) (by decide) (by decide) (by decide), hm 54 (by decide) (by decide) (by decide) (by decide) (by decide) (by decide) (by decide) (by decide) (by decide) (by decide) (by decide), hm 55 (by decide) (by decide) (by decide) (by decide) (by decide) (by decide) (by decide) (by decide) (by decide) (by decide) (by decide), hm 56 (by decide) (by decide) (by decide) (by decide) (by decide) (by decide) (by decide) (by decide) (by decide) (by decide) (by decide), hm 57 (by decide) (by decide) (by decide) (by decide) (by decide) (by decide) (by decide) (by decide) (by decide) (by decide) (by decide), hm 58 (by decide) (by decide) (by decide) (by decide) (by decide) (by decide) (by decide) (by decide) (by decide) (by decide) (by decide), hm 59 (by decide) (by decide) (by decide) (by decide) (by decide) (by decide) (by decide) (by decide) (by decide) (by decide) (by decide), hm 60 (by decide) (by decide) (by decide) (by decide) (by decide) (by decide) (by decide) (by decide) (by decide) (by decide) (by decide), hm 61 (by decide) (by decide) (by decide) (by decide) (by decide) (by decide) (by decide) (by decide) (by decide) (by decide) (by decide), hm 62 (by decide) (by decide) (by decide) (by decide) (by decide) (by decide) (by decide) (by decide) (by decide) (by decide) (by decide), hm 63 (by decide) (by decide) (by decide) (by decide) (by decide) (by decide) (by decide) (by decide) (by decide) (by decide) (by decide), hm 64 (by decide) (by decide) (by decide) (by decide) (by decide) (by decide) (by decide) (by decide) (by decide) (by decide) (by decide), hm 65 (by decide) (by decide) (by decide) (by decide) (by decide) (by decide) (by decide) (by decide) (by decide) (by decide) (by decide), hm 66 (by decide) (by decide) (by decide) (by decide) (by decide) (by decide) (by decide) (by decide) (by decide) (by decide) (by decide), hm 67 (by decide) (by decide) (by decide) (by decide) (by decide) (by decide) (by decide) (by decide) (by decide) (by decide) (by decide), hm 68 (by decide) (by decide) (by decide) (by decide) (by decide) (by decide) (by decide) (by decide) (by decide) (by decide) (by decide), hm 69 (by decide) (by decide) (by decide) (by decide) (by decide) (by decide) (by decide) (by decide) (by decide) (by decide) (by decide), hm 70 (by decide) (by decide) (by decide) (by decide) (by decide) (by decide) (by decide) (by decide) (by decide) (by decide) (by decide), hm 71 (by decide) (by decide) (by decide) (by decide) (by decide) (by decide) (by decide) (by decide) (by decide) (by decide) (by decide), hm 72 (by decide) (by decide) (by decide) (by decide) (by decide) (by decide) (by decide) (by decide) (by decide) (by decide) (by decide)]
  exact ⟨a, b, c, d, e, f, g, i, hV⟩
theorem I_all.sc {μ m : j_M} {np nt ng nl ns nn nq : Nat} {L : Nat → Nat} (h : I_all μ np nt ng nl ns nn nq L) (hx : x_sc μ m) : I_all m np nt ng nl ns nn nq L :=
  h.mv (fun b h1 h2 h3 h4 h5 h6 _ _ _ _ _ => hx.1 b h1 h2 h3 h4 h5 h6) (hx.2 6 (by decide)) (fun j _ _ => by rw [hx.1 42 (by decide) (by decide) (by decide) (by decide) (by decide) (by decide)]) (by rw [hx.1 42 (by decide) (by decide) (by decide) (by decide) (by decide) (by decide), hx.1 76 (by decide) (by decide) (by decide) (by decide) (by decide) (by decide)]; exact h.2.2.2.2.2.2.2.2)
theorem I_all.t0 {μ : j_M} {np nt ng nl ns nn nq : Nat} {L : Nat → Nat} (h : I_all μ np nt ng nl ns nn nq L) : I_all (t_0 μ) np nt ng nl ns nn nq L :=
  h.mv (fun b _ _ _ _ _ _ h7 _ _ _ _ => t_0o μ h7) (by rw [t_0o μ (by decide)]) (fun j hj _ => t_0s μ hj) (by rw [t_0s μ (by decide), t_0o μ (by decide)]; exact h.2.2.2.2.2.2.2.2)
section EV
variable {μ : j_M} {np nt ng nl ns nn nq : Nat} {L : Nat → Nat}
theorem I_all.zok (h : I_all μ np nt ng nl ns nn nq L) {ν : j_M} (hz : z_eq μ ν) : z_ok ν np nt ng nq := by
  obtain ⟨-, hP, hT, hG, -, -, -, hQ, -⟩ := h
  unfold z_ok
  rw [hz.2 2 (by decide), hz.2 3 (by decide), hz.2 4 (by decide), hz.2 6 (by decide), hz.1 51 (by omega), hz.1 52 (by omega), hz.1 43 (by omega), hz.1 44 (by omega)]
  refine ⟨⟨hP.2.1, hP.2.2.1⟩, ⟨hT.2.1, hT.2.2.1⟩, ⟨hG.2.1, hG.2.2.1⟩, ⟨hQ.2.1, hQ.2.2.1⟩, ?_, ?_⟩
  · rw [hT.2.2.2.1.2.2.1, hT.2.2.2.1.2.2.2.1]
    exact hT.2.2.2.2
  · rw [hP.2.2.2.1.1, hP.2.2.2.1.2.1]
    have n := hP.2.2.1
    intro k hk
    obtain ⟨a, b⟩ := hP.2.2.2.2.1 k hk
    refine ⟨a.imp id (fun ⟨j, j1, j2⟩ => ?_), b.imp id (fun ⟨j, j1, j2⟩ => ?_)⟩
    · rw [j2]; exact n30 (by omega)
    · rw [j2]; exact n30 (by omega)
theorem I_all.zT (h : I_all μ np nt ng nl ns nn nq L) {ν : j_M} (hz : z_eq μ ν) : z_T ν (μ 28) ns L := by
  obtain ⟨-, -, -, -, -, hS, -⟩ := h
  unfold z_T
  rw [hz.1 60 (by omega), hz.1 61 (by omega)]
  intro s hs
  obtain ⟨a, b, c, d, e⟩ := hS.2.2.2.2 s hs
  exact ⟨a, c, d, e⟩
theorem I_all.hT (h : I_all μ np nt ng nl ns nn nq L) : h_T μ ns L := by
  obtain ⟨-, -, -, -, -, hS, -⟩ := h
  intro s hs
  obtain ⟨a, b, c, d, e⟩ := hS.2.2.2.2 s hs
  exact ⟨a, b, fun i hi => ⟨(d i hi).1, (d i hi).2.1⟩⟩
theorem I_all.zD (h : I_all μ np nt ng nl ns nn nq L) {ν : j_M} (hz : z_eq μ ν) : z_D ν (μ 22) nl := by
  obtain ⟨-, -, -, -, hD, -⟩ := h
  unfold z_D
  rw [hz.2 8 (by decide), hz.1 59 (by omega)]
  exact ⟨hD.2.2.1, hD.2.1, hD.2.2.2⟩
/-- a value, both ways -/
theorem E_val (h : I_all μ np nt ng nl ns nn nq L) {ν : j_M} (hz : z_eq μ ν) {k dn : Nat} (hk : k < np) (hd : dn ≤ 20000) (q : Int32) : ∀ w, w < 7 → v_of μ nt ng nq (nI k) (nI w) (nI dn) q = y_v ν nt ng nq dn (nI k) q w := by
  obtain ⟨-, hP, hT, hG, -, -, -, hQ, -⟩ := h
  have n100 := hT.2.2.1
  have hF : ∀ t, t < nt → ∃ F E : Nat, μ 11 t = nI F ∧ μ 12 t = nI E ∧ F ≤ 20000 ∧ E ≤ 20000 := fun t ht => by
    obtain ⟨F, E, a, b, c, d⟩ := hT.2.2.2.2 t ht
    exact ⟨F, E, a, b, by omega, d⟩
  obtain ⟨t1, t2, t3, t4, t5, t6⟩ := hT.2.2.2.1
  obtain ⟨g1, g2, g3, g4⟩ := hG.2.2.2.1
  obtain ⟨q1, q2, q3, q4⟩ := hQ.2.2.2.1
  obtain ⟨p1, p2, p3, p4, p5, p6⟩ := hP.2.2.2.1
  have np30 := hP.2.2.1
  intro w hw
  match w, hw with
  | 0, _ =>
    unfold v_of y_v
    rw [if_pos (by decide), if_pos rfl, hz.1 49 (by omega), hz.1 50 (by omega), hz.1 51 (by omega), hz.1 52 (by omega), hz.1 53 (by omega), hz.1 54 (by omega), t1, t2, t3, t4, t5, t6]
    exact d_served n100 hd hF
  | 1, _ =>
    unfold v_of y_v
    rw [if_neg (by decide), if_pos (by decide), if_neg (by decide), if_pos rfl, hz.1 49 (by omega), hz.1 50 (by omega), hz.1 51 (by omega), hz.1 52 (by omega), hz.1 53 (by omega), hz.1 54 (by omega), t1, t2, t3, t4, t5, t6]
    exact d_road n100 hd hF
  | 2, _ =>
    unfold v_of y_v
    rw [if_neg (by decide), if_neg (by decide), if_pos (by decide), if_neg (by decide), if_neg (by decide), if_pos rfl, hz.1 55 (by omega), hz.1 56 (by omega), hz.1 58 (by omega), g1, g2, g4]
  | 3, _ =>
    unfold v_of y_v
    rw [if_neg (by decide), if_neg (by decide), if_neg (by decide), if_pos (by decide), if_neg (by decide), if_neg (by decide), if_neg (by decide), if_pos rfl, hz.1 55 (by omega), hz.1 57 (by omega), hz.1 58 (by omega), g1, g3, g4]
  | 4, _ =>
    have n40 := hQ.2.2.1
    obtain ⟨e1, e2⟩ := E_lm (ow := μ 37) (dn := μ 38) (G := μ 40) (rf := μ 67) (p := nI k) (d := nI dn) (q := q) nq n40 (fun k hk => (hQ.2.2.2.2.1 k hk).2.2) hQ.2.2.2.2.2.1
    have hv4 : v_of μ nt ng nq (nI k) (nI 4) (nI dn) q = (if k_lm (μ 37) (μ 38) (μ 40) (nI k) (k_min (nI dn) q) nq = -1 then 0 else k_mk (μ 40) (k_lm (μ 37) (μ 38) (μ 40) (nI k) (k_min (nI dn) q) nq).toNatClampNeg) := by
      unfold v_of
      rw [if_neg (by decide), if_neg (by decide), if_neg (by decide), if_neg (by decide), if_pos (by decide)]
    have hy4 : y_v ν nt ng nq dn (nI k) q 4 = (if y_lt (ν 64) (ν 65) (ν 67) (nI k) (nI dn) q nq = -1 then 0 else ν 66 (y_lt (ν 64) (ν 65) (ν 67) (nI k) (nI dn) q nq).toNatClampNeg) := rfl
    rw [hv4, hy4, hz.1 64 (by omega), hz.1 65 (by omega), hz.1 66 (by omega), hz.1 67 (by omega), q1, q2, ← e1]
    rcases e2 with e | ⟨j, j1, j2, j3, j4, j5⟩
    · rw [if_pos e, if_pos e]
    · rw [j5, if_neg (nI_m1 (by omega)), if_neg (nI_m1 (by omega)), nI_cl' (by omega)]
      have := (hQ.2.2.2.2.1 j j1).2.1
      rw [if_neg j3] at this
      exact this.symm
  | 5, _ =>
    obtain ⟨a, b⟩ := hP.2.2.2.2.1 k hk
    have key : ∀ x : Int32, (x = -1 ∨ ∃ j, j < np ∧ x = nI j) → ((0 ≤ x ∧ x < μ 1 6 ∧ ¬ μ 4 x.toNatClampNeg = -1 ∧ μ 4 x.toNatClampNeg ≤ k_min (nI dn) q) ↔ (¬ x = -1 ∧ ¬ μ 4 x.toNatClampNeg = -1 ∧ μ 4 x.toNatClampNeg ≤ nI dn ∧ μ 4 x.toNatClampNeg ≤ q)) := by
      intro x hx
      rw [E_min, hP.1]
      rcases hx with e | ⟨j, j1, j2⟩
      · constructor
        · intro z
          rw [e] at z
          exact absurd z.1 (by decide)
        · intro z
          exact absurd e z.1
      · have nm : ¬ x = -1 := by rw [j2]; exact nI_m1 (by omega)
        have ge : 0 ≤ x := by rw [j2]; exact nI_ge0 (by omega)
        have lt : x < nI np := by rw [j2]; exact (nI_lt' (by omega) (by omega)).mpr j1
        exact ⟨fun z => ⟨nm, z.2.2⟩, fun z => ⟨ge, lt, z.2⟩⟩
    have hv5 : v_of μ nt ng nq (nI k) (nI 5) (nI dn) q = (if v_chi μ (nI k) (k_min (nI dn) q) then 1 else 0) := by
      unfold v_of
      rw [if_neg (by decide), if_neg (by decide), if_neg (by decide), if_neg (by decide), if_neg (by decide), if_pos (by decide)]
    have hy5 : y_v ν nt ng nq dn (nI k) q 5 = (if y_wm ν (ν 43 (nI k).toNatClampNeg) (nI dn) q ∨ y_wm ν (ν 44 (nI k).toNatClampNeg) (nI dn) q then 1 else 0) := rfl
    rw [hv5, hy5]
    unfold v_chi y_wm
    rw [hz.1 43 (by omega), hz.1 44 (by omega), hz.1 45 (by omega), p1, p2, p3, nI_cl' (show k < 1000000 by omega)]
    simp only [key _ a, key _ b]
  | 6, _ =>
    unfold v_of y_v
    rw [if_neg (by decide), if_neg (by decide), if_neg (by decide), if_neg (by decide), if_neg (by decide), if_neg (by decide), if_pos (by decide), if_neg (by decide), if_neg (by decide), if_neg (by decide), if_neg (by decide), if_neg (by decide), if_neg (by decide), if_pos rfl, hz.1 49 (by omega), hz.1 50 (by omega), hz.1 51 (by omega), hz.1 52 (by omega), hz.1 53 (by omega), hz.1 54 (by omega), t1, t2, t3, t4, t5, t6]
    exact d_quar n100 hd hF
theorem E_fst (h : I_all μ np nt ng nl ns nn nq L) {ν : j_M} (hz : z_eq μ ν) {k dn : Nat} (hd : dn ≤ 20000) (q : Int32) : d_first (μ 9) (μ 10) (μ 11) (μ 13) (μ 14) nt (nI k) (nI dn) q = y_v ν nt ng nq dn (nI k) q 7 := by
  obtain ⟨-, hP, hT, hG, -, -, -, hQ, -⟩ := h
  obtain ⟨t1, t2, t3, t4, t5, t6⟩ := hT.2.2.2.1
  unfold y_v
  rw [if_neg (by decide), if_neg (by decide), if_neg (by decide), if_neg (by decide), if_neg (by decide), if_neg (by decide), if_neg (by decide), hz.1 49 (by omega), hz.1 50 (by omega), hz.1 51 (by omega), hz.1 52 (by omega), hz.1 53 (by omega), hz.1 54 (by omega), t1, t2, t3, t4, t5, t6]
  exact d_first_n hT.2.2.1 hd hT.2.2.2.2
theorem E_vnn (h : I_all μ np nt ng nl ns nn nq L) {ν : j_M} (hz : z_eq μ ν) {dn : Nat} (hd : dn ≤ 20000) (p q : Int32) : ∀ w, w < 6 → 0 ≤ y_v ν nt ng nq dn p q w := by
  obtain ⟨-, hP, hT, hG, -, -, -, hQ, -⟩ := h
  obtain ⟨g1, g2, g3, g4⟩ := hG.2.2.2.1
  obtain ⟨q1, q2, q3, q4⟩ := hQ.2.2.2.1
  intro w hw
  match w, hw with
  | 0, _ => exact nI_ge0 (by have := cnt_le (fun k => decide (0 < (y_ms (y_g (ν 49) (ν 53) (ν 54) p q) (ν 50) (ν 51) (ν 52) (nI k) nt).1)) (dn + 1); omega)
  | 1, _ => exact nI_ge0 (by have := cnt_le (fun k => decide (¬ 0 < (y_ms (y_g (ν 49) (ν 53) (ν 54) p q) (ν 50) (ν 51) (ν 52) (nI k) nt).1 ∧ ¬ y_rd (y_g (ν 49) (ν 53) (ν 54) p q) (ν 50) (ν 51) (ν 52) (nI k) nt = 0)) (dn + 1); omega)
  | 2, _ =>
    show 0 ≤ k_sum (ν 55) (ν 58) (ν 56) p (k_min (nI dn) q) ng
    have n100 := hG.2.2.1
    rw [hz.1 56 (by omega), g2]
    obtain ⟨s, s1, s2⟩ := E_sum (gv := ν 55) (told := ν 58) (row := μ 18) (p := p) (t := k_min (nI dn) q) ng n100 (fun g hg => ⟨(hG.2.2.2.2 g hg).1.1, by have := (hG.2.2.2.2 g hg).1.2; grind⟩)
    rw [s2]
    exact nI_pos' (by omega)
  | 3, _ =>
    show 0 ≤ k_sum (ν 55) (ν 58) (ν 57) p (k_min (nI dn) q) ng
    have n100 := hG.2.2.1
    rw [hz.1 57 (by omega), g3]
    obtain ⟨s, s1, s2⟩ := E_sum (gv := ν 55) (told := ν 58) (row := μ 19) (p := p) (t := k_min (nI dn) q) ng n100 (fun g hg => (hG.2.2.2.2 g hg).2)
    rw [s2]
    exact nI_pos' (by omega)
  | 4, _ =>
    show 0 ≤ if y_lt (ν 64) (ν 65) (ν 67) p (nI dn) q nq = -1 then 0 else ν 66 (y_lt (ν 64) (ν 65) (ν 67) p (nI dn) q nq).toNatClampNeg
    have n40 := hQ.2.2.1
    obtain ⟨e1, e2⟩ := E_lm (ow := μ 37) (dn := μ 38) (G := μ 40) (rf := μ 67) (p := p) (d := nI dn) (q := q) nq n40 (fun k hk => (hQ.2.2.2.2.1 k hk).2.2) hQ.2.2.2.2.2.1
    rw [hz.1 64 (by omega), hz.1 65 (by omega), hz.1 66 (by omega), hz.1 67 (by omega), q1, q2, ← e1]
    rcases e2 with e | ⟨j, j1, j2, j3, j4, j5⟩
    · rw [if_pos e]; decide
    · rw [j5, if_neg (nI_m1 (by omega)), nI_cl' (by omega)]
      have := (hQ.2.2.2.2.1 j j1).2.1
      rw [if_neg j3] at this
      rw [this]
      obtain ⟨z1, z2⟩ := hQ.2.2.2.2.2.2.2 j j1
      exact E_mk (fun k hk => (z1 k hk).resolve_left (z2 j3 k hk))
  | 5, _ =>
    show 0 ≤ if _ then (1 : Int32) else 0
    split <;> decide
end EV
