/-! the calls in pairs: those that only read -/
/-- the class's call, then the reference's: the same answer, and the invariant stands -/
def I_pr (yx ym : MethodName) (as : List Value) (μ : j_M) : Prop := ∃ dx Px, dx ≤ 31 ∧ j_R dx yx (.ref 0 :: as) μ Px ∧ ∀ r1 m1, Px r1 m1 → (∃ v : Int32, r1 = some v) ∧ ∃ dm Pm, dm ≤ 31 ∧ j_R dm ym (.ref 42 :: as) m1 Pm ∧ ∀ r2 m2, Pm r2 m2 → (∃ v : Int32, r1 = some v ∧ r2 = some v) ∧ Inv m2
theorem Inv.t0 {μ : j_M} (h : Inv μ) : Inv (t_0 μ) := by
  obtain ⟨np, nt, ng, nl, ns, nn, nq, L, h⟩ := h
  exact ⟨np, nt, ng, nl, ns, nn, nq, L, h.t0⟩
theorem pr_read {yx ym : MethodName} {as : List Value} {μ : j_M} {dx dm : Nat} {a b : Int32} (h : Inv μ) (hx : j_R dx yx (.ref 0 :: as) μ (fun r m => r = some a ∧ m = μ)) (hm : j_R dm ym (.ref 42 :: as) μ (fun r m => r = some b ∧ m = t_0 μ)) (hdx : dx ≤ 31) (hdm : dm ≤ 31) (e : a = b) : I_pr yx ym as μ := by
  refine ⟨dx, _, hdx, hx, ?_⟩
  rintro r1 m1 ⟨rfl, rfl⟩
  refine ⟨⟨_, rfl⟩, dm, _, hdm, hm, ?_⟩
  rintro r2 m2 ⟨rfl, rfl⟩
  exact ⟨⟨a, rfl, by rw [e]⟩, h.t0⟩
theorem c_force {μ : j_M} (h : Inv μ) (d q : Int32) : I_pr yX9_force yX10_force [.int d, .int q] μ := by
  obtain ⟨np, nt, ng, nl, ns, nn, nq, L, hI⟩ := id h
  obtain ⟨hA, -, -, -, -, hS, -⟩ := hI
  refine pr_read h (f_X9_force μ d q hS.1 hS.2.2.1) (f_X10_force μ d q hS.2.1 hS.2.2.1) (by decide) (by decide) ?_
  rw [t_0s μ (by decide), t_0o μ (by decide), t_0o μ (by decide), hS.2.2.2.1.1, hS.2.2.2.1.2, ← hA.1]
theorem c_hands {μ : j_M} (h : Inv μ) (a : Int32) : I_pr yX9_hands yX10_hands [.int a] μ := by
  obtain ⟨np, nt, ng, nl, ns, nn, nq, L, hI⟩ := id h
  obtain ⟨hA, hP, -⟩ := hI
  obtain ⟨p1, p2, p3, p4, p5, p6⟩ := hP.2.2.2.1
  refine pr_read h (f_X9_hands μ a hP.1 hP.2.2.1) (f_X10_hands μ a hP.2.1 hP.2.2.1) (by decide) (by decide) ?_
  rw [t_0s μ (by decide), t_0o μ (by decide), t_0o μ (by decide), t_0o μ (by decide), p3, p4, p5, hP.1, hP.2.1]
theorem c_lawful {μ : j_M} (h : Inv μ) (a : Int32) : I_pr yX9_lawful yX10_lawful [.int a] μ := by
  obtain ⟨np, nt, ng, nl, ns, nn, nq, L, hI⟩ := id h
  obtain ⟨hA, hP, -, -, -, -, hN, -⟩ := hI
  obtain ⟨p1, p2, p3, p4, p5, p6⟩ := hP.2.2.2.1
  obtain ⟨n1, n2, n3⟩ := hN.2.2.2.1
  refine pr_read h (f_X9_lawful μ a hP.1 hP.2.2.1 hN.1 hN.2.2.1) (f_X10_lawful μ a hP.2.1 hP.2.2.1 hN.2.1 hN.2.2.1) (by decide) (by decide) ?_
  rw [t_0s μ (show (2 : Nat) ≠ 0 by decide), t_0s μ (show (1 : Nat) ≠ 0 by decide), t_0o μ (show (46 : Nat) ≠ 42 by decide), t_0o μ (show (45 : Nat) ≠ 42 by decide), t_0o μ (show (47 : Nat) ≠ 42 by decide), t_0o μ (show (71 : Nat) ≠ 42 by decide), t_0o μ (show (70 : Nat) ≠ 42 by decide), t_0o μ (show (48 : Nat) ≠ 42 by decide), p3, p4, p5, p6, n1, n3, hP.1, hP.2.1, hA.1, E_nn' hN.2.2.1 hN.2.2.2.2]
  have key : (μ 42 1 ≤ μ 7 a.toNatClampNeg) ↔ (¬ μ 7 a.toNatClampNeg = -1 ∧ μ 42 1 ≤ μ 7 a.toNatClampNeg) := by
    have := hA.2.1
    constructor
    · intro z
      exact ⟨fun w => by grind, z⟩
    · exact fun z => z.2
  simp only [← key]
theorem c_kin {μ : j_M} (h : Inv μ) (a b : Int32) : I_pr yX9_kin yX10_kin [.int a, .int b] μ := by
  obtain ⟨np, nt, ng, nl, ns, nn, nq, L, hI⟩ := id h
  obtain ⟨hA, hP, -⟩ := hI
  obtain ⟨p1, p2, p3, p4, p5, p6⟩ := hP.2.2.2.1
  have n30 := hP.2.2.1
  have kn : μ 1 6 ≤ 30 := by rw [hP.1]; exact (nI_le' (b := 30) (by omega) (by omega)).mpr n30
  refine ⟨3, _, by decide, f_X9_kin μ a b kn, ?_⟩
  rintro r1 m1 ⟨hr, rfl⟩
  refine ⟨hr.elim (fun z => ⟨1, z.1⟩) (fun z => ⟨0, z.1⟩), 2, _, by decide, f_X10_kin m1 a b hP.2.1 n30, ?_⟩
  rintro r2 m2 ⟨hr2, rfl⟩
  refine ⟨?_, h.t0⟩
  rw [t_0s m1 (by decide), hP.2.1] at hr2
  rw [hP.1] at hr
  have key : (g_has (nI np) a ∧ g_has (nI np) b ∧ k_kin (m1 2) (m1 3) a b) ↔ (g_has (nI np) a ∧ g_has (nI np) b ∧ q_kin (t_0 m1) np a b) := by
    constructor
    · rintro ⟨x, y, z⟩
      obtain ⟨i, i1, rfl⟩ := z_has rfl (by omega) x
      obtain ⟨j, j1, rfl⟩ := z_has rfl (by omega) y
      exact ⟨x, y, (E_kin n30 hP.2.2.2.2.1 (by rw [t_0o m1 (by decide)]; exact p1) (by rw [t_0o m1 (by decide)]; exact p2) i1).mp z⟩
    · rintro ⟨x, y, z⟩
      obtain ⟨i, i1, rfl⟩ := z_has rfl (by omega) x
      obtain ⟨j, j1, rfl⟩ := z_has rfl (by omega) y
      exact ⟨x, y, (E_kin n30 hP.2.2.2.2.1 (by rw [t_0o m1 (by decide)]; exact p1) (by rw [t_0o m1 (by decide)]; exact p2) i1).mpr z⟩
  rcases hr with ⟨rfl, w⟩ | ⟨rfl, w⟩
  · rcases hr2 with ⟨rfl, w2⟩ | ⟨rfl, w2⟩
    · exact ⟨1, rfl, rfl⟩
    · exact absurd (key.mp w) w2
  · rcases hr2 with ⟨rfl, w2⟩ | ⟨rfl, w2⟩
    · exact absurd (key.mpr w2) w
    · exact ⟨0, rfl, rfl⟩
theorem c_judge {μ : j_M} (h : Inv μ) (p i : Int32) : I_pr yX9_judge yX10_judge [.int p, .int i] μ := by
  obtain ⟨np, nt, ng, nl, ns, nn, nq, L, hI⟩ := id h
  obtain ⟨-, -, -, -, -, -, -, hQ, -⟩ := hI
  refine pr_read h (f_X9_judge μ p i hQ.1 hQ.2.2.1) (f_X10_judge μ p i hQ.2.1 hQ.2.2.1) (by decide) (by decide) ?_
  rw [t_0s μ (by decide), t_0o μ (by decide), hQ.2.2.2.1.2.2.1, hQ.1, hQ.2.1]
theorem c_told {μ : j_M} (h : Inv μ) (p w : Int32) : I_pr yX9_told yX10_told [.int p, .int w] μ := by
  obtain ⟨np, nt, ng, nl, ns, nn, nq, L, hI⟩ := id h
  obtain ⟨-, -, -, -, -, -, -, hQ, -⟩ := hI
  obtain ⟨q1, q2, q3, q4⟩ := hQ.2.2.2.1
  have n40 := hQ.2.2.1
  refine pr_read h (f_X9_told μ p w hQ.1 hQ.2.2.1) (f_X10_told μ p w hQ.2.1 hQ.2.2.1) (by decide) (by decide) ?_
  rw [t_0s μ (by decide), t_0o μ (show (64 : Nat) ≠ 42 by decide), t_0o μ (show (65 : Nat) ≠ 42 by decide), t_0o μ (show (66 : Nat) ≠ 42 by decide), t_0o μ (show (67 : Nat) ≠ 42 by decide), q1, q2, hQ.1, hQ.2.1]
  by_cases c : g_has (nI nq) p
  · rw [if_pos c, if_pos c]
    obtain ⟨k, k1, rfl⟩ := z_has rfl (by omega) c
    rw [nI_cl' (show k < 1000000 by omega)]
    obtain ⟨-, z1, z2⟩ := hQ.2.2.2.2.1 k k1
    rw [z1, z2]
    by_cases e : μ 38 k = -1
    · simp only [e, if_true, not_true_eq_false, false_and]
    · simp only [e, if_false, not_false_eq_true, true_and]
  · rw [if_neg c, if_neg c]
theorem c_count {μ : j_M} (h : Inv μ) (w : Int32) : I_pr yX9_count yX10_count [.int w] μ := by
  obtain ⟨np, nt, ng, nl, ns, nn, nq, L, hI⟩ := id h
  obtain ⟨hA, hP, hT, hG, hD, hS, hN, hQ, -⟩ := hI
  obtain ⟨p1, p2, p3, p4, p5, p6⟩ := hP.2.2.2.1
  refine pr_read h (f_X9_count μ w hP.1 hP.2.2.1) (f_X10_count μ w hP.2.1 hP.2.2.1) (by decide) (by decide) ?_
  rw [t_0s μ (show (1 : Nat) ≠ 0 by decide), t_0s μ (show (2 : Nat) ≠ 0 by decide), t_0s μ (show (3 : Nat) ≠ 0 by decide), t_0s μ (show (5 : Nat) ≠ 0 by decide), t_0s μ (show (6 : Nat) ≠ 0 by decide), t_0s μ (show (8 : Nat) ≠ 0 by decide), t_0o μ (show (46 : Nat) ≠ 42 by decide), t_0o μ (show (45 : Nat) ≠ 42 by decide), t_0o μ (show (47 : Nat) ≠ 42 by decide), p3, p4, p5, E_hands, hA.1, hP.1, hP.2.1, hT.1, hT.2.1, hS.1, hS.2.1, hQ.1, hQ.2.1, hD.1, hD.2.1]
theorem p_fr_I {μ m : j_M} {np nt ng nl ns nn nq : Nat} {L : Nat → Nat} (h : I_all μ np nt ng nl ns nn nq L) (hf : p_fr (t_0 μ) m) (hr : m 42 43 = nI 59 ∨ m 42 43 = nI 60) : I_all m np nt ng nl ns nn nq L :=
  h.mv (fun b _ _ _ _ _ _ h7 _ _ _ _ => by rw [hf.1 b h7, t_0o μ h7]) (by rw [hf.1 8 (by decide), t_0o μ (by decide)]) (fun j hj hj2 => by rw [hf.2 j (by omega) (by omega) (by omega) (by omega) (by omega) (by omega), t_0s μ hj]) ⟨by rw [hf.1 76 (by decide), t_0o μ (by decide)]; exact h.2.2.2.2.2.2.2.2.1, hr⟩
theorem c_fault {μ : j_M} (h : Inv μ) : I_pr yX9_fault yX10_fault [] μ := by
  obtain ⟨np, nt, ng, nl, ns, nn, nq, L, hI⟩ := id h
  have hD := hI.2.2.2.2.1
  have hV := hI.2.2.2.2.2.2.2.2
  refine ⟨4, _, by decide, f_X9_fault μ hD.1 hD.2.2.1, ?_⟩
  rintro r1 m1 ⟨v, f, rfl, hv, rfl⟩
  have hI1 := hI.sc (x_sc_row μ (a := 23) f (by decide))
  have hz : z_D (j_row μ 23 f) (μ 22) nl := by
    unfold z_D
    rw [j_rn' _ _ (show (42 : Nat) ≠ 23 by decide), j_rn' _ _ (show (59 : Nat) ≠ 23 by decide)]
    exact ⟨hD.2.2.1, hD.2.1, hD.2.2.2⟩
  refine ⟨⟨_, rfl⟩, 29, _, by decide, f_X10_fault hz (by rw [j_rn' _ _ (by decide)]; exact hV.1), ?_⟩
  rintro r2 m2 ⟨v2, rfl, hv2, hf, hr⟩
  exact ⟨⟨v, rfl, by rw [a_F_det hv hv2]⟩, np, nt, ng, nl, ns, nn, nq, L, p_fr_I hI1 hf (Or.inl hr)⟩
theorem x_sc.ge {μ m : j_M} (h : x_sc μ m) : ∀ b, 42 ≤ b → m b = μ b := fun b hb => h.1 b (by omega) (by omega) (by omega) (by omega) (by omega) (by omega)
theorem z_eq.rf (μ : j_M) : z_eq μ μ := ⟨fun _ _ => rfl, fun _ _ => rfl⟩
/-- the same question -/
theorem E_ask {μ m1 : j_M} {np nt ng nl ns nn nq : Nat} {L : Nat → Nat} (h : I_all μ np nt ng nl ns nn nq L) (hx : ∀ b, 42 ≤ b → m1 b = μ b) (p d q : Int32) : z_ask (t_0 m1) p d q ↔ (g_has (μ 1 6) p ∧ (0 ≤ d ∧ d ≤ 20000) ∧ 0 ≤ q ∧ q ≤ μ 0 11) := by
  unfold z_ask
  rw [t_0s m1 (by decide), t_0s m1 (by decide), hx 42 (by omega), h.2.1.1, h.2.1.2.1, h.1.1]
theorem c_value {μ : j_M} (h : Inv μ) (p w d q : Int32) : I_pr yX9_value yX10_value [.int p, .int w, .int d, .int q] μ := by
  obtain ⟨np, nt, ng, nl, ns, nn, nq, L, hI⟩ := id h
  obtain ⟨hA, hP, hT, hG, hD, hS, hN, hQ, hV⟩ := id hI
  have n30 := hP.2.2.1
  have kn : μ 1 6 ≤ 30 := by rw [hP.1]; exact (nI_le' (b := 30) (by omega) (by omega)).mpr n30
  refine ⟨5, _, by decide, f_X9_value μ p w d q hT.1 hT.2.2.1 hG.1 hG.2.2.1 hQ.1 hQ.2.2.1 kn, ?_⟩
  rintro r1 m1 ⟨rfl, hx⟩
  have hI1 := hI.sc hx
  have hz := z_eq.t0 hx.ge
  refine ⟨⟨_, rfl⟩, 3, _, by decide, f_X10_value m1 p w d q (hI1.zok (z_eq.rf m1)), ?_⟩
  rintro r2 m2 ⟨rfl, hf, h76⟩
  have ask := E_ask hI hx.ge p d q
  refine ⟨⟨_, rfl, ?_⟩, np, nt, ng, nl, ns, nn, nq, L, ?_⟩
  · by_cases c : g_has (μ 1 6) p ∧ (0 ≤ d ∧ d ≤ 20000) ∧ 0 ≤ q ∧ q ≤ μ 0 11
    · rw [if_pos c]
      obtain ⟨dn, d1, rfl⟩ := z_day c.2.1
      obtain ⟨k, k1, rfl⟩ := z_has hP.1 (by omega) c.1
      by_cases c2 : 0 ≤ w ∧ w ≤ 6
      · rw [if_pos ⟨ask.mpr c, c2⟩]
        obtain ⟨w', w1, rfl⟩ := nI_of2 (x := w) (M := 6) (n := 6) (by decide) (by grind) c2.2
        rw [nI_cl' (show dn < 1000000 by omega), nI_cl' (show w' < 1000000 by omega), E_val hI hz k1 d1 q w' (by omega)]
      · rw [if_neg (fun z => c2 z.2)]
        unfold v_of
        rw [if_neg (fun z => c2 (by rw [z]; decide)), if_neg (fun z => c2 (by rw [z]; decide)), if_neg (fun z => c2 (by rw [z]; decide)), if_neg (fun z => c2 (by rw [z]; decide)), if_neg (fun z => c2 (by rw [z]; decide)), if_neg (fun z => c2 (by rw [z]; decide)), if_neg (fun z => c2 (by rw [z]; decide))]
    · rw [if_neg c, if_neg (fun z => c (ask.mp z.1))]
  · refine hI1.mv (fun b _ _ _ _ _ _ h7 h8 h9 h10 h11 => by rw [hf b h8 h9 h10 h11, t_0o m1 h7]) (by rw [hf 8 (by decide) (by decide) (by decide) (by decide), t_0o m1 (by decide)]) (fun j hj _ => by rw [hf 42 (by decide) (by decide) (by decide) (by decide), t_0s m1 hj]) ⟨?_, ?_⟩
    · rcases h76 with e | ⟨e1, e2⟩
      · rw [e, t_0o m1 (by decide), hx.ge 76 (by omega)]
        exact hV.1
      · intro k hk
        rw [e2 k (by omega)]
        obtain ⟨dn, d1, rfl⟩ := z_day e1.2.1
        rw [nI_cl' (show dn < 1000000 by omega)]
        exact E_vnn hI hz d1 p q k hk
    · rw [hf 42 (by decide) (by decide) (by decide) (by decide), t_0s m1 (by decide), hx.ge 42 (by omega)]
      exact hV.2
theorem w_run_V {V V' T f : Nat → Int32} (h : ∀ w, w < 6 → V w = V' w) : ∀ n, w_run V T f n = w_run V' T f n
  | 0 => rfl
  | n + 1 => by
    show w_take V _ _ = w_take V' _ _
    rw [w_run_V h n]
    unfold w_take w_val
    rw [h 0 (by omega), h 1 (by omega), h 2 (by omega), h 3 (by omega), h 4 (by omega), h 5 (by omega)]
theorem h_x_V {V V' T f : Nat → Int32} {n : Nat} (h : ∀ w, w < 6 → V w = V' w) : h_x V T f n = h_x V' T f n := by
  unfold h_x
  rw [w_run_V h]
/-- who may come, both ways -/
theorem E_may {μ m1 m : j_M} {np nt ng nl ns nn nq : Nat} {L : Nat → Nat} (h : I_all μ np nt ng nl ns nn nq L) (hz : z_eq μ m1) {k dn : Nat} (hk : k < np) (hd : dn ≤ 20000) {q c : Int32} {V f f2 : Nat → Int32} {r : Option Int32} (hV : ∀ w : Nat, w < 6 → V w = v_of μ nt ng nq (nI k) (nI w) (nI dn) q)
    (hr : r = some (if k_inf (μ 26) (μ 27) (nI dn) q ns = -1 then 1
      else if h_x V (fun i => μ 28 (120 * (k_inf (μ 26) (μ 27) (nI dn) q ns).toNatClampNeg + i)) f (L (k_inf (μ 26) (μ 27) (nI dn) q ns).toNatClampNeg) = true then 1
      else if d_first (μ 9) (μ 10) (μ 11) (μ 13) (μ 14) nt (nI k) (nI dn) q = -1 then 0
      else if k_inf (μ 26) (μ 27) (d_first (μ 9) (μ 10) (μ 11) (μ 13) (μ 14) nt (nI k) (nI dn) q) q ns = -1 ∨ h_x V (fun i => μ 28 (120 * (k_inf (μ 26) (μ 27) (d_first (μ 9) (μ 10) (μ 11) (μ 13) (μ 14) nt (nI k) (nI dn) q) q ns).toNatClampNeg + i)) f2 (L (k_inf (μ 26) (μ 27) (d_first (μ 9) (μ 10) (μ 11) (μ 13) (μ 14) nt (nI k) (nI dn) q) q ns).toNatClampNeg) = true then 2 else 0))
    (hm : z_m m1 (μ 28) L nt ng nq ns f f2 (nI k) (nI dn) q (some c) m) : r = some c := by
  obtain ⟨v, c1, c2, e1, e2, e3⟩ := hm
  have hS := h.2.2.2.2.2.1
  rw [nI_cl' (show dn < 1000000 by omega)] at v
  have v7 : m 76 7 = d_first (μ 9) (μ 10) (μ 11) (μ 13) (μ 14) nt (nI k) (nI dn) q := by rw [v 7 (by omega), E_fst h hz hd q]
  have vv : ∀ w, w < 6 → m 76 w = V w := fun w hw => by rw [v w (by omega), hV w hw, E_val h hz hk hd q w (by omega)]
  rw [hz.1 62 (by omega), hz.1 63 (by omega), hS.2.2.2.1.1, hS.2.2.2.1.2] at e1 e2
  rw [v7] at e2
  unfold z_lets at e1 e2
  rw [h_x_V vv] at e1 e2
  rw [hr]
  have e4 : c = (if c1 = true then 1 else if c2 = true then 2 else 0) := by injection e3
  rw [e4]
  congr 1
  clear hr e3 e4 v vv v7
  generalize k_inf (μ 26) (μ 27) (nI dn) q ns = s1 at e1 ⊢
  generalize d_first (μ 9) (μ 10) (μ 11) (μ 13) (μ 14) nt (nI k) (nI dn) q = fs at e2 ⊢
  generalize k_inf (μ 26) (μ 27) fs q ns = s2 at e2 ⊢
  by_cases a1 : s1 = -1
  · rw [if_pos a1, if_pos (e1.mpr (Or.inl a1))]
  · rw [if_neg a1]
    by_cases a2 : h_x V (fun i => μ 28 (120 * s1.toNatClampNeg + i)) f (L s1.toNatClampNeg) = true
    · rw [if_pos a2, if_pos (e1.mpr (Or.inr a2))]
    · rw [if_neg a2, if_neg (fun z => (e1.mp z).elim a1 a2)]
      by_cases a3 : fs = -1
      · rw [if_pos a3, if_neg (fun z => (e2.mp z).1 a3)]
      · rw [if_neg a3]
        by_cases a4 : s2 = -1 ∨ h_x V (fun i => μ 28 (120 * s2.toNatClampNeg + i)) f2 (L s2.toNatClampNeg) = true
        · rw [if_pos a4, if_pos (e2.mpr ⟨a3, a4⟩)]
        · rw [if_neg a4, if_neg (fun z => a4 (e2.mp z).2)]
theorem z_sc_I {μ m : j_M} {np nt ng nl ns nn nq : Nat} {L : Nat → Nat} (h : I_all μ np nt ng nl ns nn nq L) (hf : z_sc (t_0 μ) m) (hv : ∀ w, w < 6 → 0 ≤ m 76 w) : I_all m np nt ng nl ns nn nq L :=
  h.mv (fun b _ _ _ _ _ _ h7 h8 h9 h10 h11 => by rw [hf.1 b h7 h8 h9 h10 h11, t_0o μ h7]) (by rw [hf.1 8 (by decide) (by decide) (by decide) (by decide) (by decide), t_0o μ (by decide)]) (fun j hj hj2 => by rw [hf.2.1 j (by omega) (by omega) (by omega) (by omega) (by omega) (by omega), t_0s μ hj]) ⟨hv, by
    rcases hf.2.2 with e | e
    · exact Or.inr e
    · rw [e, t_0s μ (by decide)]
      exact h.2.2.2.2.2.2.2.2.2⟩
theorem c_may {μ : j_M} (h : Inv μ) (p d q : Int32) : I_pr yX9_may yX10_may [.int p, .int d, .int q] μ := by
  obtain ⟨np, nt, ng, nl, ns, nn, nq, L, hI⟩ := id h
  obtain ⟨hA, hP, hT, hG, hD, hS, hN, hQ, hV⟩ := id hI
  have n30 := hP.2.2.1
  have kn : μ 1 6 ≤ 30 := by rw [hP.1]; exact (nI_le' (b := 30) (by omega) (by omega)).mpr n30
  refine ⟨6, _, by decide, f_X9_may μ p d q hT.1 hT.2.2.1 hG.1 hG.2.2.1 hQ.1 hQ.2.2.1 hS.1 hS.2.2.1 hI.hT kn, ?_⟩
  rintro r1 m1 ⟨hr, hx⟩
  have hI1 := hI.sc hx
  have hz := z_eq.t0 hx.ge
  have ask := E_ask hI hx.ge p d q
  have e28 : m1 28 = μ 28 := hx.1 28 (by decide) (by decide) (by decide) (by decide) (by decide) (by decide)
  have zT : z_T m1 (μ 28) ns L := by rw [← e28]; exact hI1.zT (z_eq.rf m1)
  have nn' : z_ask (t_0 m1) p d q → ∀ w, w < 6 → 0 ≤ y_v (t_0 m1) nt ng nq d.toNatClampNeg p q w := by
    intro z
    obtain ⟨dn, d1, rfl⟩ := z_day z.2.1
    rw [nI_cl' (show dn < 1000000 by omega)]
    exact E_vnn hI hz d1 p q
  have m5 : m1 42 5 = nI ns := by rw [hx.ge 42 (by omega)]; exact hS.2.1
  rcases hr with ⟨a, V, f, f2, hv, hr⟩ | ⟨a, hr⟩
  · refine ⟨⟨_, hr⟩, 31, _, by decide, f_X10_may f f2 (hI1.zok (z_eq.rf m1)) m5 hS.2.2.1 zT p d q nn', ?_⟩
    rintro r2 m2 (⟨b1, b2, b3⟩ | ⟨b1, -⟩)
    · obtain ⟨dn, d1, rfl⟩ := z_day a.2.1
      obtain ⟨k, k1, rfl⟩ := z_has hP.1 (by omega) a.1
      obtain ⟨c, rfl⟩ : ∃ c, r2 = some c := by
        obtain ⟨-, c1, c2, -, -, e⟩ := b2
        exact ⟨_, e⟩
      refine ⟨⟨c, E_may hI hz k1 d1 hv hr b2, rfl⟩, np, nt, ng, nl, ns, nn, nq, L, z_sc_I hI1 b3 (fun w hw => ?_)⟩
      rw [b2.1 w (by omega)]
      exact nn' b1 w hw
    · exact absurd (ask.mpr a) b1
  · refine ⟨⟨_, hr⟩, 31, _, by decide, f_X10_may (fun _ => 0) (fun _ => 0) (hI1.zok (z_eq.rf m1)) m5 hS.2.2.1 zT p d q nn', ?_⟩
    rintro r2 m2 (⟨b1, -⟩ | ⟨b1, rfl, rfl⟩)
    · exact absurd (ask.mp b1) a
    · exact ⟨⟨-1, hr, rfl⟩, np, nt, ng, nl, ns, nn, nq, L, hI1.t0⟩
