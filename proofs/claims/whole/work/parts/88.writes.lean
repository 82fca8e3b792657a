/-! the calls in pairs: those that write -/
theorem c_person {μ : j_M} (h : Inv μ) (a b : Int32) : I_pr yX9_person yX10_person [.int a, .int b] μ := by
  obtain ⟨np, nt, ng, nl, ns, nn, nq, L, hI⟩ := id h
  obtain ⟨hA, hP, hT, hG, hD, hS, hN, hQ, hV⟩ := id hI
  have n30 := hP.2.2.1
  have u1 := n_up (show np < 1000000 by omega)
  have e30 : nI np = 30 ↔ np = 30 := nI_eq' (b := 30) (by omega) (by omega)
  have l30 : nI np < 30 ↔ np < 30 := nI_lt' (b := 30) (by omega) (by omega)
  have k30 : nI np ≤ 30 := (nI_le' (b := 30) (by omega) (by omega)).mpr n30
  have k0 : 0 ≤ nI np := nI_ge0 (by omega)
  have x1 := hP.1
  have x2 := hP.2.1
  refine ⟨2, _, by decide, f_X9_person μ a b (by rw [x1]; exact k0), ?_⟩
  intro r1 m1 hx
  unfold g_person at hx
  rw [x1, u1.1, u1.2] at hx
  rcases hx with ⟨⟨c1, c2, c3⟩, rfl, rfl⟩ | ⟨c, rfl, rfl⟩
  · refine ⟨⟨_, rfl⟩, 1, _, by decide, f_X10_person _ a b (by simp only [t_0, j_us, j_un, u_s, u_n, j_rs, j_rn', ne_eq, Nat.reduceEqDiff, not_false_eq_true]; rw [x2]; exact k0) (by simp only [t_0, j_us, j_un, u_s, u_n, j_rs, j_rn', ne_eq, Nat.reduceEqDiff, not_false_eq_true]; rw [x2]; exact k30), ?_⟩
    intro r2 m2 hq
    unfold q_person at hq
    simp only [t_0, j_us, j_un, u_s, u_n, j_rs, j_rn', ne_eq, Nat.reduceEqDiff, not_false_eq_true, x2, u1.1, u1.2] at hq
    rcases hq with ⟨c', rfl, rfl⟩ | ⟨c', rfl, rfl⟩
    · refine ⟨⟨nI np, rfl, rfl⟩, np + 1, nt, ng, nl, ns, nn, nq, L, ?_⟩
      unfold I_all
      simp only [t_0, j_us, j_un, u_s, u_n, j_rs, j_rn', ne_eq, Nat.reduceEqDiff, not_false_eq_true]
      exact ⟨hA, hP.add (l30.mp c1) c2 c3, hT, hG, hD, hS, hN, hQ.add (l30.mp c1), hV⟩
    · exact absurd ⟨fun z => by have := e30.mp z; have := l30.mp c1; omega, c2, c3⟩ c'
  · refine ⟨⟨_, rfl⟩, 1, _, by decide, f_X10_person _ a b (by rw [x2]; exact k0) (by rw [x2]; exact k30), ?_⟩
    intro r2 m2 hq
    unfold q_person at hq
    rw [t_0s m1 (by decide), x2] at hq
    rcases hq with ⟨c', rfl, rfl⟩ | ⟨c', rfl, rfl⟩
    · exact absurd ⟨l30.mpr (by have : ¬ np = 30 := fun z => c'.1 (e30.mpr z); omega), c'.2⟩ c
    · exact ⟨⟨-1, rfl, rfl⟩, h.t0⟩
theorem c_master {μ : j_M} (h : Inv μ) (p : Int32) : I_pr yX9_master yX10_master [.int p] μ := by
  obtain ⟨np, nt, ng, nl, ns, nn, nq, L, hI⟩ := id h
  obtain ⟨hA, hP, hT, hG, hD, hS, hN, hQ, hV⟩ := id hI
  have n30 := hP.2.2.1
  have k30 : nI np ≤ 30 := (nI_le' (b := 30) (by omega) (by omega)).mpr n30
  have x1 := hP.1
  have x2 := hP.2.1
  obtain ⟨p1, p2, p3, p4, p5, p6⟩ := hP.2.2.2.1
  have now : ¬ μ 42 1 = -1 := by have := hA.2.1; grind
  refine ⟨3, _, by decide, f_X9_master μ p (by rw [x1]; exact k30), ?_⟩
  intro r1 m1 hx
  unfold g_master at hx
  rw [x1, hA.1] at hx
  rcases hx with ⟨c, rfl, rfl⟩ | ⟨c, rfl, rfl⟩
  · refine ⟨⟨_, rfl⟩, 3, _, by decide, f_X10_master _ p (by simp only [t_0, j_us, j_un, u_s, u_n, j_rs, j_rn', ne_eq, Nat.reduceEqDiff, not_false_eq_true]; rw [x2]; exact k30), ?_⟩
    intro r2 m2 hq
    unfold q_master at hq
    simp only [t_0, j_us, j_un, u_s, u_n, j_rs, j_rn', ne_eq, Nat.reduceEqDiff, not_false_eq_true, x2, p3, p4] at hq
    rcases hq with ⟨c', rfl, rfl⟩ | ⟨c', rfl, rfl⟩
    · refine ⟨⟨1, rfl, rfl⟩, np, nt, ng, nl, ns, nn, nq, L, ?_⟩
      unfold I_all
      simp only [t_0, j_us, j_un, u_s, u_n, j_rs, j_rn', ne_eq, Nat.reduceEqDiff, not_false_eq_true]
      exact ⟨hA, hP.mas _ now, hT, hG, hD, hS, hN, hQ.mas _ now, hV⟩
    · exact absurd c c'
  · refine ⟨⟨_, rfl⟩, 3, _, by decide, f_X10_master _ p (by rw [x2]; exact k30), ?_⟩
    intro r2 m2 hq
    unfold q_master at hq
    rw [t_0s m1 (by decide), t_0o m1 (by decide), t_0o m1 (by decide), x2, p3, p4] at hq
    rcases hq with ⟨c', rfl, rfl⟩ | ⟨c', rfl, rfl⟩
    · exact absurd c' c
    · exact ⟨⟨0, rfl, rfl⟩, h.t0⟩
theorem c_days {μ : j_M} (h : Inv μ) (n : Int32) : I_pr yX9_days yX10_days [.int n] μ := by
  obtain ⟨np, nt, ng, nl, ns, nn, nq, L, hI⟩ := id h
  obtain ⟨hA, hP, hT, hG, hD, hS, hN, hQ, hV⟩ := id hI
  refine ⟨1, _, by decide, f_X9_days μ n, ?_⟩
  intro r1 m1 hx
  unfold g_days at hx
  rw [hA.1] at hx
  rcases hx with ⟨c, rfl, rfl⟩ | ⟨c, rfl, rfl⟩
  · refine ⟨⟨_, rfl⟩, 1, _, by decide, f_X10_days _ n, ?_⟩
    intro r2 m2 hq
    unfold q_days at hq
    simp only [t_0, j_us, j_un, u_s, u_n, j_rs, j_rn', ne_eq, Nat.reduceEqDiff, not_false_eq_true] at hq
    rcases hq with ⟨c', rfl, rfl⟩ | ⟨c', rfl, rfl⟩
    · refine ⟨⟨_, rfl, rfl⟩, np, nt, ng, nl, ns, nn, nq, L, ?_⟩
      have ge : μ 42 1 ≤ μ 42 1 + n := by
        obtain ⟨x, x1, x2⟩ := z_day hA.2
        obtain ⟨y, y1, y2⟩ := z_day c.1
        rw [x2, y2, nI_add]
        exact (nI_le' (by omega) (by omega)).mpr (by omega)
      unfold I_all
      simp only [t_0, j_us, j_un, u_s, u_n, j_rs, j_rn', ne_eq, Nat.reduceEqDiff, not_false_eq_true]
      exact ⟨⟨rfl, by have := hA.2.1; grind, c.2⟩, hP, hT, hG, hD, hS, hN.day ge, hQ, hV⟩
    · exact absurd c c'
  · refine ⟨⟨_, rfl⟩, 1, _, by decide, f_X10_days _ n, ?_⟩
    intro r2 m2 hq
    unfold q_days at hq
    rw [t_0s m1 (by decide)] at hq
    rcases hq with ⟨c', rfl, rfl⟩ | ⟨c', rfl, rfl⟩
    · exact absurd c' c
    · exact ⟨⟨-1, rfl, rfl⟩, h.t0⟩
theorem c_term {μ : j_M} (h : Inv μ) (p w fr to : Int32) : I_pr yX9_term yX10_term [.int p, .int w, .int fr, .int to] μ := by
  obtain ⟨np, nt, ng, nl, ns, nn, nq, L, hI⟩ := id h
  obtain ⟨hA, hP, hT, hG, hD, hS, hN, hQ, hV⟩ := id hI
  have n100 := hT.2.2.1
  have u1 := n_up (show nt < 1000000 by omega)
  have e1 : nI nt = 100 ↔ nt = 100 := nI_eq' (b := 100) (by omega) (by omega)
  have l1 : nI nt < 100 ↔ nt < 100 := nI_lt' (b := 100) (by omega) (by omega)
  have k1 : nI nt ≤ 100 := (nI_le' (b := 100) (by omega) (by omega)).mpr n100
  have k0 : 0 ≤ nI nt := nI_ge0 (by omega)
  have x1 := hT.1
  have x2 := hT.2.1
  have y1 := hP.1
  have y2 := hP.2.1
  have np30 := hP.2.2.1
  refine ⟨1, _, by decide, f_X9_term μ p w fr to (by rw [x1]; exact k0), ?_⟩
  intro r1 m1 hx
  unfold g_term g_tc at hx
  rw [x1, y1, u1.1, u1.2, hA.1] at hx
  have key : (g_has (nI np) p ∧ ¬ p = w ∧ nI nt < 100 ∧ (w = -1 ∨ g_has (nI np) w) ∧ 0 ≤ fr ∧ fr ≤ to ∧ to ≤ μ 42 1) ↔ (¬ nI nt = 100 ∧ g_has (nI np) p ∧ (w = -1 ∨ (g_has (nI np) w ∧ ¬ w = p)) ∧ 0 ≤ fr ∧ fr ≤ to ∧ to ≤ μ 42 1) := by
    rw [l1, e1]
    constructor
    · rintro ⟨a, b, c, d, e⟩
      exact ⟨by omega, a, d.imp id (fun z => ⟨z, fun y => b y.symm⟩), e⟩
    · rintro ⟨a, b, c, d⟩
      refine ⟨b, ?_, by omega, c.imp id (fun z => z.1), d⟩
      rcases c with c | c
      · intro z
        have := b.1
        rw [z, c] at this
        exact absurd this (by decide)
      · exact fun z => c.2 z.symm
  rcases hx with ⟨c, rfl, rfl⟩ | ⟨c, rfl, rfl⟩
  · refine ⟨⟨_, rfl⟩, 1, _, by decide, f_X10_term _ p w fr to (by simp only [t_0, j_us, j_un, u_s, u_n, j_rs, j_rn', ne_eq, Nat.reduceEqDiff, not_false_eq_true]; rw [x2]; exact k0) (by simp only [t_0, j_us, j_un, u_s, u_n, j_rs, j_rn', ne_eq, Nat.reduceEqDiff, not_false_eq_true]; rw [x2]; exact k1), ?_⟩
    intro r2 m2 hq
    unfold q_term q_tc at hq
    simp only [t_0, j_us, j_un, u_s, u_n, j_rs, j_rn', ne_eq, Nat.reduceEqDiff, not_false_eq_true, x2, y2, u1.1, u1.2] at hq
    rcases hq with ⟨c', rfl, rfl⟩ | ⟨c', rfl, rfl⟩
    · refine ⟨⟨nI nt, rfl, rfl⟩, np, nt + 1, ng, nl, ns, nn, nq, L, ?_⟩
      unfold I_all
      simp only [t_0, j_us, j_un, u_s, u_n, j_rs, j_rn', ne_eq, Nat.reduceEqDiff, not_false_eq_true]
      refine ⟨hA, hP, hT.add (l1.mp c.2.2.1) ⟨c.2.2.2.2.1, c.2.2.2.2.2.1, ?_⟩, hG, hD, hS, hN, hQ, hV⟩
      have a1 := c.2.2.2.2.2.2
      have a2 := hA.2.2
      grind
    · exact absurd (key.mp c) c'
  · refine ⟨⟨_, rfl⟩, 1, _, by decide, f_X10_term _ p w fr to (by rw [x2]; exact k0) (by rw [x2]; exact k1), ?_⟩
    intro r2 m2 hq
    unfold q_term q_tc at hq
    rw [t_0s m1 (show (3 : Nat) ≠ 0 by decide), t_0s m1 (show (2 : Nat) ≠ 0 by decide), t_0s m1 (show (1 : Nat) ≠ 0 by decide), x2, y2] at hq
    rcases hq with ⟨c', rfl, rfl⟩ | ⟨c', rfl, rfl⟩
    · exact absurd (key.mpr c') c
    · exact ⟨⟨-1, rfl, rfl⟩, h.t0⟩
theorem c_back {μ : j_M} (h : Inv μ) (t : Int32) : I_pr yX9_back yX10_back [.int t] μ := by
  obtain ⟨np, nt, ng, nl, ns, nn, nq, L, hI⟩ := id h
  obtain ⟨hA, hP, hT, hG, hD, hS, hN, hQ, hV⟩ := id hI
  have n100 := hT.2.2.1
  have k1 : nI nt ≤ 100 := (nI_le' (b := 100) (by omega) (by omega)).mpr n100
  have x1 := hT.1
  have x2 := hT.2.1
  obtain ⟨t1, t2, t3, t4, t5, t6⟩ := hT.2.2.2.1
  refine ⟨1, _, by decide, f_X9_back μ t (by rw [x1]; exact k1), ?_⟩
  intro r1 m1 hx
  unfold g_back g_bc at hx
  rw [x1, hA.1] at hx
  rcases hx with ⟨c, rfl, rfl⟩ | ⟨c, rfl, rfl⟩
  · refine ⟨⟨_, rfl⟩, 0, _, by decide, f_X10_back _ t (by simp only [t_0, j_us, j_un, u_s, u_n, j_rs, j_rn', ne_eq, Nat.reduceEqDiff, not_false_eq_true]; rw [x2]; exact k1), ?_⟩
    intro r2 m2 hq
    unfold q_back at hq
    simp only [t_0, j_us, j_un, u_s, u_n, j_rs, j_rn', ne_eq, Nat.reduceEqDiff, not_false_eq_true, x2, t6] at hq
    rcases hq with ⟨c', rfl, rfl⟩ | ⟨c', rfl, rfl⟩
    · refine ⟨⟨1, rfl, rfl⟩, np, nt, ng, nl, ns, nn, nq, L, ?_⟩
      unfold I_all
      simp only [t_0, j_us, j_un, u_s, u_n, j_rs, j_rn', ne_eq, Nat.reduceEqDiff, not_false_eq_true, t6]
      exact ⟨hA, hP, hT.bk _, hG, hD, hS, hN, hQ, hV⟩
    · exact absurd c c'
  · refine ⟨⟨_, rfl⟩, 0, _, by decide, f_X10_back _ t (by rw [x2]; exact k1), ?_⟩
    intro r2 m2 hq
    unfold q_back at hq
    rw [t_0s m1 (show (3 : Nat) ≠ 0 by decide), t_0o m1 (by decide), x2, t6] at hq
    rcases hq with ⟨c', rfl, rfl⟩ | ⟨c', rfl, rfl⟩
    · exact absurd c' c
    · exact ⟨⟨0, rfl, rfl⟩, h.t0⟩
theorem c_give {μ : j_M} (h : Inv μ) (p l c : Int32) : I_pr yX9_give yX10_give [.int p, .int l, .int c] μ := by
  obtain ⟨np, nt, ng, nl, ns, nn, nq, L, hI⟩ := id h
  obtain ⟨hA, hP, hT, hG, hD, hS, hN, hQ, hV⟩ := id hI
  have n100 := hG.2.2.1
  have u1 := n_up (show ng < 1000000 by omega)
  have e1 : nI ng = 100 ↔ ng = 100 := nI_eq' (b := 100) (by omega) (by omega)
  have l1 : nI ng < 100 ↔ ng < 100 := nI_lt' (b := 100) (by omega) (by omega)
  have k1 : nI ng ≤ 100 := (nI_le' (b := 100) (by omega) (by omega)).mpr n100
  have k0 : 0 ≤ nI ng := nI_ge0 (by omega)
  have n30 := hP.2.2.1
  have k30 : nI np ≤ 30 := (nI_le' (b := 30) (by omega) (by omega)).mpr n30
  have x1 := hG.1
  have x2 := hG.2.1
  have y1 := hP.1
  have y2 := hP.2.1
  obtain ⟨p1, p2, p3, p4, p5, p6⟩ := hP.2.2.2.1
  refine ⟨2, _, by decide, f_X9_give μ p l c (by rw [y1]; exact k30) (by rw [x1]; exact k0), ?_⟩
  intro r1 m1 hx
  unfold g_give g_gc at hx
  rw [x1, y1, u1.1, u1.2, hA.1] at hx
  have key : (g_alive (nI np) (μ 5) p ∧ nI ng < 100 ∧ (0 ≤ l ∧ l ≤ 9) ∧ 0 ≤ c ∧ c ≤ 9999) ↔ (¬ nI ng = 100 ∧ g_alive (nI np) (μ 5) p ∧ (0 ≤ l ∧ l ≤ 9) ∧ 0 ≤ c ∧ c ≤ 9999) := by
    rw [l1, e1]
    exact ⟨fun z => ⟨by omega, z.1, z.2.2⟩, fun z => ⟨z.2.1, by omega, z.2.2⟩⟩
  rcases hx with ⟨c1, rfl, rfl⟩ | ⟨c1, rfl, rfl⟩
  · refine ⟨⟨_, rfl⟩, 2, _, by decide, f_X10_give _ p l c (by simp only [t_0, j_us, j_un, u_s, u_n, j_rs, j_rn', ne_eq, Nat.reduceEqDiff, not_false_eq_true]; rw [x2]; exact k0) (by simp only [t_0, j_us, j_un, u_s, u_n, j_rs, j_rn', ne_eq, Nat.reduceEqDiff, not_false_eq_true]; rw [x2]; exact k1) (by simp only [t_0, j_us, j_un, u_s, u_n, j_rs, j_rn', ne_eq, Nat.reduceEqDiff, not_false_eq_true]; rw [y2]; exact k30), ?_⟩
    intro r2 m2 hq
    unfold q_give at hq
    simp only [t_0, j_us, j_un, u_s, u_n, j_rs, j_rn', ne_eq, Nat.reduceEqDiff, not_false_eq_true, x2, y2, p4, u1.1, u1.2] at hq
    rcases hq with ⟨c', rfl, rfl⟩ | ⟨c', rfl, rfl⟩
    · refine ⟨⟨1, rfl, rfl⟩, np, nt, ng + 1, nl, ns, nn, nq, L, ?_⟩
      unfold I_all
      simp only [t_0, j_us, j_un, u_s, u_n, j_rs, j_rn', ne_eq, Nat.reduceEqDiff, not_false_eq_true]
      exact ⟨hA, hP, hT, hG.add (l1.mp c1.2.1) c1.2.2, hD, hS, hN, hQ, hV⟩
    · exact absurd (key.mp c1) c'
  · refine ⟨⟨_, rfl⟩, 2, _, by decide, f_X10_give _ p l c (by rw [x2]; exact k0) (by rw [x2]; exact k1) (by rw [y2]; exact k30), ?_⟩
    intro r2 m2 hq
    unfold q_give at hq
    rw [t_0s m1 (show (4 : Nat) ≠ 0 by decide), t_0s m1 (show (2 : Nat) ≠ 0 by decide), t_0o m1 (show (46 : Nat) ≠ 42 by decide), x2, y2, p4] at hq
    rcases hq with ⟨c', rfl, rfl⟩ | ⟨c', rfl, rfl⟩
    · exact absurd (key.mpr c') c1
    · exact ⟨⟨0, rfl, rfl⟩, h.t0⟩
theorem c_hire {μ : j_M} (h : Inv μ) (a p : Int32) : I_pr yX9_hire yX10_hire [.int a, .int p] μ := by
  obtain ⟨np, nt, ng, nl, ns, nn, nq, L, hI⟩ := id h
  obtain ⟨hA, hP, hT, hG, hD, hS, hN, hQ, hV⟩ := id hI
  have n30 := hP.2.2.1
  have k30 : nI np ≤ 30 := (nI_le' (b := 30) (by omega) (by omega)).mpr n30
  have x1 := hP.1
  have x2 := hP.2.1
  obtain ⟨p1, p2, p3, p4, p5, p6⟩ := hP.2.2.2.1
  refine ⟨3, _, by decide, f_X9_hire μ a p (by rw [x1]; exact k30), ?_⟩
  intro r1 m1 hx
  unfold g_hire g_hc at hx
  rw [x1] at hx
  rcases hx with ⟨c, rfl, rfl⟩ | ⟨c, rfl, rfl⟩
  · refine ⟨⟨_, rfl⟩, 3, _, by decide, f_X10_hire _ a p (by simp only [t_0, j_us, j_un, u_s, u_n, j_rs, j_rn', ne_eq, Nat.reduceEqDiff, not_false_eq_true]; rw [x2]; exact k30), ?_⟩
    intro r2 m2 hq
    unfold q_hire at hq
    simp only [t_0, j_us, j_un, u_s, u_n, j_rs, j_rn', ne_eq, Nat.reduceEqDiff, not_false_eq_true, x2, p3, p4, p5] at hq
    rcases hq with ⟨c', rfl, rfl⟩ | ⟨c', rfl, rfl⟩
    · refine ⟨⟨1, rfl, rfl⟩, np, nt, ng, nl, ns, nn, nq, L, ?_⟩
      unfold I_all
      simp only [t_0, j_us, j_un, u_s, u_n, j_rs, j_rn', ne_eq, Nat.reduceEqDiff, not_false_eq_true, p5]
      exact ⟨hA, hP.shop _, hT, hG, hD, hS, hN, hQ, hV⟩
    · exact absurd c c'
  · refine ⟨⟨_, rfl⟩, 3, _, by decide, f_X10_hire _ a p (by rw [x2]; exact k30), ?_⟩
    intro r2 m2 hq
    unfold q_hire at hq
    rw [t_0s m1 (by decide), t_0o m1 (show (45 : Nat) ≠ 42 by decide), t_0o m1 (show (46 : Nat) ≠ 42 by decide), t_0o m1 (show (47 : Nat) ≠ 42 by decide), x2, p3, p4, p5] at hq
    rcases hq with ⟨c', rfl, rfl⟩ | ⟨c', rfl, rfl⟩
    · exact absurd c' c
    · exact ⟨⟨0, rfl, rfl⟩, h.t0⟩
theorem c_leave {μ : j_M} (h : Inv μ) (p : Int32) : I_pr yX9_leave yX10_leave [.int p] μ := by
  obtain ⟨np, nt, ng, nl, ns, nn, nq, L, hI⟩ := id h
  obtain ⟨hA, hP, hT, hG, hD, hS, hN, hQ, hV⟩ := id hI
  have n30 := hP.2.2.1
  have k30 : nI np ≤ 30 := (nI_le' (b := 30) (by omega) (by omega)).mpr n30
  have x1 := hP.1
  have x2 := hP.2.1
  obtain ⟨p1, p2, p3, p4, p5, p6⟩ := hP.2.2.2.1
  refine ⟨1, _, by decide, f_X9_leave μ p (by rw [x1]; exact k30), ?_⟩
  intro r1 m1 hx
  unfold g_leave at hx
  rw [x1] at hx
  rcases hx with ⟨c, rfl, rfl⟩ | ⟨c, rfl, rfl⟩
  · refine ⟨⟨_, rfl⟩, 1, _, by decide, f_X10_leave _ p (by simp only [t_0, j_us, j_un, u_s, u_n, j_rs, j_rn', ne_eq, Nat.reduceEqDiff, not_false_eq_true]; rw [x2]; exact k30), ?_⟩
    intro r2 m2 hq
    unfold q_leave at hq
    simp only [t_0, j_us, j_un, u_s, u_n, j_rs, j_rn', ne_eq, Nat.reduceEqDiff, not_false_eq_true, x2, p5] at hq
    rcases hq with ⟨c', rfl, rfl⟩ | ⟨c', rfl, rfl⟩
    · refine ⟨⟨1, rfl, rfl⟩, np, nt, ng, nl, ns, nn, nq, L, ?_⟩
      unfold I_all
      simp only [t_0, j_us, j_un, u_s, u_n, j_rs, j_rn', ne_eq, Nat.reduceEqDiff, not_false_eq_true, p5]
      exact ⟨hA, hP.shop _, hT, hG, hD, hS, hN, hQ, hV⟩
    · exact absurd c c'
  · refine ⟨⟨_, rfl⟩, 1, _, by decide, f_X10_leave _ p (by rw [x2]; exact k30), ?_⟩
    intro r2 m2 hq
    unfold q_leave at hq
    rw [t_0s m1 (by decide), t_0o m1 (show (47 : Nat) ≠ 42 by decide), x2, p5] at hq
    rcases hq with ⟨c', rfl, rfl⟩ | ⟨c', rfl, rfl⟩
    · exact absurd c' c
    · exact ⟨⟨0, rfl, rfl⟩, h.t0⟩
theorem c_number {μ : j_M} (h : Inv μ) (k fr : Int32) : I_pr yX9_number yX10_number [.int k, .int fr] μ := by
  obtain ⟨np, nt, ng, nl, ns, nn, nq, L, hI⟩ := id h
  obtain ⟨hA, hP, hT, hG, hD, hS, hN, hQ, hV⟩ := id hI
  have n30 := hN.2.2.1
  have u1 := n_up (show nn < 1000000 by omega)
  have e1 : nI nn = 30 ↔ nn = 30 := nI_eq' (b := 30) (by omega) (by omega)
  have l1 : nI nn < 30 ↔ nn < 30 := nI_lt' (b := 30) (by omega) (by omega)
  have k1 : nI nn ≤ 30 := (nI_le' (b := 30) (by omega) (by omega)).mpr n30
  have k0 : 0 ≤ nI nn := nI_ge0 (by omega)
  have x1 := hN.1
  have x2 := hN.2.1
  refine ⟨1, _, by decide, f_X9_number μ k fr (by rw [x1]; exact k0), ?_⟩
  intro r1 m1 hx
  unfold g_number at hx
  rw [x1, u1.1, u1.2, hA.1] at hx
  rcases hx with ⟨c, rfl, rfl⟩ | ⟨c, rfl, rfl⟩
  · refine ⟨⟨_, rfl⟩, 1, _, by decide, f_X10_number _ k fr (by simp only [t_0, j_us, j_un, u_s, u_n, j_rs, j_rn', ne_eq, Nat.reduceEqDiff, not_false_eq_true]; rw [x2]; exact k0) (by simp only [t_0, j_us, j_un, u_s, u_n, j_rs, j_rn', ne_eq, Nat.reduceEqDiff, not_false_eq_true]; rw [x2]; exact k1), ?_⟩
    intro r2 m2 hq
    unfold q_number at hq
    simp only [t_0, j_us, j_un, u_s, u_n, j_rs, j_rn', ne_eq, Nat.reduceEqDiff, not_false_eq_true, x2, u1.1, u1.2] at hq
    rcases hq with ⟨c', rfl, rfl⟩ | ⟨c', rfl, rfl⟩
    · refine ⟨⟨1, rfl, rfl⟩, np, nt, ng, nl, ns, nn + 1, nq, L, ?_⟩
      unfold I_all
      simp only [t_0, j_us, j_un, u_s, u_n, j_rs, j_rn', ne_eq, Nat.reduceEqDiff, not_false_eq_true]
      exact ⟨hA, hP, hT, hG, hD, hS, hN.add (l1.mp c.2.2) c.2.1.1, hQ, hV⟩
    · exact absurd ⟨fun z => by have := e1.mp z; have := l1.mp c.2.2; omega, c.1, c.2.1⟩ c'
  · refine ⟨⟨_, rfl⟩, 1, _, by decide, f_X10_number _ k fr (by rw [x2]; exact k0) (by rw [x2]; exact k1), ?_⟩
    intro r2 m2 hq
    unfold q_number at hq
    rw [t_0s m1 (show (7 : Nat) ≠ 0 by decide), x2] at hq
    rcases hq with ⟨c', rfl, rfl⟩ | ⟨c', rfl, rfl⟩
    · exact absurd ⟨c'.2.1, c'.2.2, l1.mpr (by have : ¬ nn = 30 := fun z => c'.1 (e1.mpr z); omega)⟩ c
    · exact ⟨⟨0, rfl, rfl⟩, h.t0⟩
theorem c_end {μ : j_M} (h : Inv μ) (n : Int32) : I_pr yX9_end yX10_end [.int n] μ := by
  obtain ⟨np, nt, ng, nl, ns, nn, nq, L, hI⟩ := id h
  obtain ⟨hA, hP, hT, hG, hD, hS, hN, hQ, hV⟩ := id hI
  have n120 := hD.2.2.1
  have x1 := hD.1
  have x2 := hD.2.1
  refine ⟨0, _, by decide, f_X9_end μ n, ?_⟩
  intro r1 m1 hx
  unfold g_end at hx
  rw [x1] at hx
  rcases hx with ⟨c, rfl, rfl⟩ | ⟨c, rfl, rfl⟩
  · refine ⟨⟨_, rfl⟩, 0, _, by decide, f_X10_end _ n, ?_⟩
    intro r2 m2 hq
    unfold q_end at hq
    simp only [t_0, j_us, j_un, u_s, u_n, j_rs, j_rn', ne_eq, Nat.reduceEqDiff, not_false_eq_true, x2] at hq
    rcases hq with ⟨c', rfl, rfl⟩ | ⟨c', rfl, rfl⟩
    · obtain ⟨k, k1, rfl⟩ := nI_of2 (x := n) (M := nI nl) (n := nl) (nI_toInt (by omega)) (by have := c.1; grind) c.2
      refine ⟨⟨1, rfl, rfl⟩, np, nt, ng, k, ns, nn, nq, L, ?_⟩
      unfold I_all
      simp only [t_0, j_us, j_un, u_s, u_n, j_rs, j_rn', ne_eq, Nat.reduceEqDiff, not_false_eq_true]
      exact ⟨hA, hP, hT, hG, hD.cut k1, hS, hN, hQ, hV⟩
    · exact absurd c c'
  · refine ⟨⟨_, rfl⟩, 0, _, by decide, f_X10_end _ n, ?_⟩
    intro r2 m2 hq
    unfold q_end at hq
    rw [t_0s m1 (show (8 : Nat) ≠ 0 by decide), x2] at hq
    rcases hq with ⟨c', rfl, rfl⟩ | ⟨c', rfl, rfl⟩
    · exact absurd c' c
    · exact ⟨⟨0, rfl, rfl⟩, h.t0⟩
