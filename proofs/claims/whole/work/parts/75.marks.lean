/-! the reference: days marked -/
theorem v_nar : vp_nar .byte 0 = 0 ∧ vp_nar .byte 1 = 1 ∧ vp_nar .byte 2 = 2 ∧ vp_nar .boolean 0 = 0 ∧ vp_nar .boolean 1 = 1 := by decide
theorem n_20k {p : Nat} (hp : p < 20001) : 0 ≤ nI p ∧ nI p < 20001 := ⟨nI_ge0 (by omega), (nI_lt' (b := 20001) (by omega) (by omega)).mpr hp⟩
theorem n_100 {p : Nat} (hp : p < 100) : 0 ≤ nI p ∧ nI p < 100 := ⟨nI_ge0 (by omega), (nI_lt' (b := 100) (by omega) (by omega)).mpr hp⟩
/-- all but the rows of days -/
def y_fr (μ m : j_M) : Prop := ∀ b, b ≠ 73 → b ≠ 74 → b ≠ 75 → m b = μ b
theorem y_fr.up {μ m : j_M} (h : y_fr μ m) {a i : Nat} {v : Int32} (ha : a = 73 ∨ a = 74 ∨ a = 75) : y_fr μ (j_up m a i v) := by
  intro b h1 h2 h3
  rw [j_un _ _ _ (by rcases ha with e | e | e <;> subst e <;> assumption)]
  exact h b h1 h2 h3
def y_I (μ m : j_M) (g : Nat → Bool) (j t : Nat) : Prop := m 73 j = (y_ms g (μ 50) (μ 51) (μ 52) (nI j) t).1 ∧ m 75 j = y_rd g (μ 50) (μ 51) (μ 52) (nI j) t ∧ (¬ (y_ms g (μ 50) (μ 51) (μ 52) (nI j) t).1 = 0 → m 74 j = (y_ms g (μ 50) (μ 51) (μ 52) (nI j) t).2)
theorem y_I.ext {μ m m' : j_M} {g : Nat → Bool} {j t : Nat} (h : y_I μ m g j t) (h3 : m' 73 j = m 73 j) (h4 : m' 74 j = m 74 j) (h5 : m' 75 j = m 75 j) : y_I μ m' g j t := by
  unfold y_I at h ⊢
  rw [h3, h4, h5]
  exact h
theorem y_I.skip {μ m : j_M} {g : Nat → Bool} {j t : Nat} (h : y_I μ m g j t) (hc : ¬ y_c g (μ 51) (μ 52) (nI j) t = true) : y_I μ m g j (t + 1) := by
  unfold y_I y_ms y_rd
  rw [if_neg (fun z => hc z.1), if_neg (fun z => hc z.1)]
  exact h
set_option maxRecDepth 100000 in
theorem l_X10_mark0 {μ : j_M} {p q : Int32} {dn : Nat} {Q : j_Q} (hd : dn ≤ 20000) (hQ : ∀ m, y_fr μ m → (∀ j, j ≤ dn → m 73 j = 0 ∧ m 75 j = 0) → j_J cX10_mark 10 6 none false 1 none Q j_SH 0 0 34 [some (.ref 42), some (.int p), some (.int (nI dn)), some (.int q), some (.int 0), none] [] m) : ∀ (k i : Nat) (m : j_M), i + k = dn + 1 → y_fr μ m → (∀ j, j < i → m 73 j = 0 ∧ m 75 j = 0) → j_J cX10_mark 10 6 none false 1 none Q j_SH 0 0 3 [some (.ref 42), some (.int p), some (.int (nI dn)), some (.int q), some (.int (nI i)), none] [] m := by
  intro k
  induction k with
  | zero =>
    intro i m hi hf hz
    refine j_go (fun q => q == 3 || q == 34) 30 ?_
    simp only [qX10_mark, j_f10, j_m10, j_ty, tyX10, ↓j_kt, ↓j_sel, ↓j_run_0, ↓j_run_s, ↓j_wp, ↓j_pi, ↓j_pii, ↓j_pl, ↓j_pll, ↓j_pli, ↓j_pr, ↓j_pri, ↓j_prii, ↓j_pvr, ↓j_pop, ↓j_gi, ↓j_gl, ↓j_ga, ↓j_ob, ↓j_ar, ↓j_fd, ↓j_fo, ↓j_mo, ↓j_br, ↓j_to, ↓j_lo, ↓j_scr, ↓j_co, ↓j_no, j_nf, j_rt, j_ld, j_st1, j_st2, j_k1, j_ci, j_fin, j_sh, j_shl, Option.map_some, Option.map_none, Option.toList_some, Option.toList_none, List.cons_append, List.nil_append, List.map_cons, List.map_nil, List.sum_cons, List.sum_nil, Value.category, List.getElem?_cons_zero, List.getElem?_cons_succ, List.length_cons, List.length_nil, true_and, and_true, if_true, if_false, ↓reduceIte, Bool.false_eq_true, Bool.true_eq_false, reduceCtorEq, Nat.reduceAdd, Nat.reduceLT, Nat.reduceLeDiff, Nat.reduceEqDiff, Nat.reduceBEq, Int.cast_ofNat_Int, Int.reduceAdd, Int.reduceNeg, Int.reduceSub, Int.reduceToNat, Int.reduceLE, Nat.zero_le, false_implies, implies_true, beq_self_eq_true, Bool.and_true, Bool.and_false, Bool.or_false, Bool.false_or, Bool.or_true, Bool.true_or, Bool.and_self, Bool.or_self, Nat.zero_add, Nat.add_zero, or_false, or_true, true_or, false_or, j_b0, ↓j_b1, j_b2, ↓j_b3, j_01, j_inb, and_self, Classical.not_not, Int32.reduceLE, Int32.reduceLT, Int32.reduceAdd, j_ne, eq_self, not_true_eq_false, not_false_eq_true, forall_const, and_false, false_and, j_sc, j_ent, Nat.reduceSub, List.replicate_zero, List.replicate_succ, nI_lt' (show dn < 1000000 by omega) (show i < 1000000 by omega), nI_le' (show i < 1000000 by omega) (show dn < 1000000 by omega)]
    exact ⟨fun _ => hQ m hf (fun j hj => hz j (by omega)), fun h => by omega⟩
  | succ k ih =>
    intro i m hi hf hz
    refine j_go (fun q => q == 3 || q == 34) 30 ?_
    simp only [qX10_mark, j_f10, j_m10, j_ty, tyX10, ↓j_kt, ↓j_sel, ↓j_run_0, ↓j_run_s, ↓j_wp, ↓j_pi, ↓j_pii, ↓j_pl, ↓j_pll, ↓j_pli, ↓j_pr, ↓j_pri, ↓j_prii, ↓j_pvr, ↓j_pop, ↓j_gi, ↓j_gl, ↓j_ga, ↓j_ob, ↓j_ar, ↓j_fd, ↓j_fo, ↓j_mo, ↓j_br, ↓j_to, ↓j_lo, ↓j_scr, ↓j_co, ↓j_no, j_nf, j_rt, j_ld, j_st1, j_st2, j_k1, j_ci, j_fin, j_sh, j_shl, Option.map_some, Option.map_none, Option.toList_some, Option.toList_none, List.cons_append, List.nil_append, List.map_cons, List.map_nil, List.sum_cons, List.sum_nil, Value.category, List.getElem?_cons_zero, List.getElem?_cons_succ, List.length_cons, List.length_nil, true_and, and_true, if_true, if_false, ↓reduceIte, Bool.false_eq_true, Bool.true_eq_false, reduceCtorEq, Nat.reduceAdd, Nat.reduceLT, Nat.reduceLeDiff, Nat.reduceEqDiff, Nat.reduceBEq, Int.cast_ofNat_Int, Int.reduceAdd, Int.reduceNeg, Int.reduceSub, Int.reduceToNat, Int.reduceLE, Nat.zero_le, false_implies, implies_true, beq_self_eq_true, Bool.and_true, Bool.and_false, Bool.or_false, Bool.false_or, Bool.or_true, Bool.true_or, Bool.and_self, Bool.or_self, Nat.zero_add, Nat.add_zero, or_false, or_true, true_or, false_or, j_b0, ↓j_b1, j_b2, ↓j_b3, j_01, j_inb, and_self, Classical.not_not, Int32.reduceLE, Int32.reduceLT, Int32.reduceAdd, j_ne, eq_self, not_true_eq_false, not_false_eq_true, forall_const, and_false, false_and, j_sc, j_ent, Nat.reduceSub, List.replicate_zero, List.replicate_succ, nI_lt' (show dn < 1000000 by omega) (show i < 1000000 by omega), nI_le' (show i < 1000000 by omega) (show dn < 1000000 by omega), nI_1, nI_cl' (show i < 1000000 by omega), v_nar]
    have hin := n_20k (show i < 20001 by omega)
    refine ⟨fun h => by omega, fun h => ⟨hin, hin, ?_⟩⟩
    refine ih (i + 1) _ (by omega) ((hf.up (by decide)).up (by decide)) (fun j hj => ?_)
    rw [j_un _ _ _ (by decide), j_us, j_us, j_un _ _ _ (by decide)]
    by_cases e : j = i
    · subst e
      rw [u_s, u_s]
      exact ⟨rfl, rfl⟩
    · rw [u_n _ _ e, u_n _ _ e]
      exact hz j (by omega)
set_option maxRecDepth 100000 in
theorem l_X10_mark2 {μ : j_M} {p q : Int32} {dn t F E : Nat} {g : Nat → Bool} {Q : j_Q} (hd : dn ≤ 20000) (ht : t < 100) (hF : μ 51 t = nI F) (hE : μ 52 t = nI E) (hE2 : E ≤ 20000) (hg : g t = true) (hQ : ∀ m, y_fr μ m → (∀ j, j ≤ dn → y_I μ m g j (t + 1)) → j_J cX10_mark 10 6 none false 1 none Q j_SH 0 0 182 [some (.ref 42), some (.int p), some (.int (nI dn)), some (.int q), some (.int (nI t)), none] [] m) : ∀ (w k : Nat) (m : j_M), dn + 1 ≤ k + w → F ≤ k → k ≤ 20001 → y_fr μ m → (∀ j, j ≤ dn → if F ≤ j ∧ j < k then y_I μ m g j (t + 1) else y_I μ m g j t) → j_J cX10_mark 10 6 none false 1 none Q j_SH 0 0 76 [some (.ref 42), some (.int p), some (.int (nI dn)), some (.int q), some (.int (nI t)), some (.int (nI k))] [] m := by
  have hcv : ∀ j, j ≤ dn → F ≤ 20001 → (y_c g (μ 51) (μ 52) (nI j) t = true ↔ F ≤ j ∧ j ≤ E) := by
    intro j hj hF2
    unfold y_c
    rw [hg, hF, hE, Bool.true_and, decide_eq_true_eq, nI_le' (show F < 1000000 by omega) (show j < 1000000 by omega), nI_le' (show j < 1000000 by omega) (show E < 1000000 by omega)]
  have fin : ∀ (k : Nat) (m : j_M), F ≤ k → k ≤ 20001 → (E < k ∨ dn < k) → y_fr μ m → (∀ j, j ≤ dn → if F ≤ j ∧ j < k then y_I μ m g j (t + 1) else y_I μ m g j t) → j_J cX10_mark 10 6 none false 1 none Q j_SH 0 0 182 [some (.ref 42), some (.int p), some (.int (nI dn)), some (.int q), some (.int (nI t)), some (.int (nI k))] [] m := by
    intro k m hk hk2 he hf hI
    refine (hQ m hf (fun j hj => ?_)).le ⟨Or.inr rfl, Or.inr rfl, Or.inr rfl, Or.inr rfl, Or.inr rfl, Or.inl rfl, trivial⟩
    have h := hI j hj
    by_cases c : F ≤ j ∧ j < k
    · rw [if_pos c] at h
      exact h
    · rw [if_neg c] at h
      exact h.skip (fun z => by have := (hcv j hj (by omega)).mp z; omega)
  intro w
  induction w with
  | zero =>
    intro k m hw hk hk2 hf hI
    have hx := fin k m hk hk2 (Or.inr (by omega)) hf hI
    have f52 := hf 52 (by decide) (by decide) (by decide)
    refine j_go (fun q => q == 76 || q == 182) 40 ?_
    simp only [qX10_mark, j_f10, j_m10, j_ty, tyX10, ↓j_kt, ↓j_sel, ↓j_run_0, ↓j_run_s, ↓j_wp, ↓j_pi, ↓j_pii, ↓j_pl, ↓j_pll, ↓j_pli, ↓j_pr, ↓j_pri, ↓j_prii, ↓j_pvr, ↓j_pop, ↓j_gi, ↓j_gl, ↓j_ga, ↓j_ob, ↓j_ar, ↓j_fd, ↓j_fo, ↓j_mo, ↓j_br, ↓j_to, ↓j_lo, ↓j_scr, ↓j_co, ↓j_no, j_nf, j_rt, j_ld, j_st1, j_st2, j_k1, j_ci, j_fin, j_sh, j_shl, Option.map_some, Option.map_none, Option.toList_some, Option.toList_none, List.cons_append, List.nil_append, List.map_cons, List.map_nil, List.sum_cons, List.sum_nil, Value.category, List.getElem?_cons_zero, List.getElem?_cons_succ, List.length_cons, List.length_nil, true_and, and_true, if_true, if_false, ↓reduceIte, Bool.false_eq_true, Bool.true_eq_false, reduceCtorEq, Nat.reduceAdd, Nat.reduceLT, Nat.reduceLeDiff, Nat.reduceEqDiff, Nat.reduceBEq, Int.cast_ofNat_Int, Int.reduceAdd, Int.reduceNeg, Int.reduceSub, Int.reduceToNat, Int.reduceLE, Nat.zero_le, false_implies, implies_true, beq_self_eq_true, Bool.and_true, Bool.and_false, Bool.or_false, Bool.false_or, Bool.or_true, Bool.true_or, Bool.and_self, Bool.or_self, Nat.zero_add, Nat.add_zero, or_false, or_true, true_or, false_or, j_b0, ↓j_b1, j_b2, ↓j_b3, j_01, j_inb, and_self, Classical.not_not, Int32.reduceLE, Int32.reduceLT, Int32.reduceAdd, j_ne, eq_self, not_true_eq_false, not_false_eq_true, forall_const, and_false, false_and, j_sc, j_ent, Nat.reduceSub, List.replicate_zero, List.replicate_succ, f52, hE, nI_cl' (show t < 1000000 by omega), nI_lt' (show E < 1000000 by omega) (show k < 1000000 by omega), nI_le' (show k < 1000000 by omega) (show E < 1000000 by omega), nI_lt' (show dn < 1000000 by omega) (show k < 1000000 by omega), nI_le' (show k < 1000000 by omega) (show dn < 1000000 by omega)]
    exact ⟨n_100 ht, fun _ => hx, fun _ => ⟨fun _ => hx, fun z => by omega⟩⟩
  | succ w ih =>
    intro k m hw hk hk2 hf hI
    have hx := fin k m hk hk2
    have f52 := hf 52 (by decide) (by decide) (by decide)
    have f50 := hf 50 (by decide) (by decide) (by decide)
    refine j_go (fun q => q == 76 || q == 182) 60 ?_
    simp only [qX10_mark, j_f10, j_m10, j_ty, tyX10, ↓j_kt, ↓j_sel, ↓j_run_0, ↓j_run_s, ↓j_wp, ↓j_pi, ↓j_pii, ↓j_pl, ↓j_pll, ↓j_pli, ↓j_pr, ↓j_pri, ↓j_prii, ↓j_pvr, ↓j_pop, ↓j_gi, ↓j_gl, ↓j_ga, ↓j_ob, ↓j_ar, ↓j_fd, ↓j_fo, ↓j_mo, ↓j_br, ↓j_to, ↓j_lo, ↓j_scr, ↓j_co, ↓j_no, j_nf, j_rt, j_ld, j_st1, j_st2, j_k1, j_ci, j_fin, j_sh, j_shl, Option.map_some, Option.map_none, Option.toList_some, Option.toList_none, List.cons_append, List.nil_append, List.map_cons, List.map_nil, List.sum_cons, List.sum_nil, Value.category, List.getElem?_cons_zero, List.getElem?_cons_succ, List.length_cons, List.length_nil, true_and, and_true, if_true, if_false, ↓reduceIte, Bool.false_eq_true, Bool.true_eq_false, reduceCtorEq, Nat.reduceAdd, Nat.reduceLT, Nat.reduceLeDiff, Nat.reduceEqDiff, Nat.reduceBEq, Int.cast_ofNat_Int, Int.reduceAdd, Int.reduceNeg, Int.reduceSub, Int.reduceToNat, Int.reduceLE, Nat.zero_le, false_implies, implies_true, beq_self_eq_true, Bool.and_true, Bool.and_false, Bool.or_false, Bool.false_or, Bool.or_true, Bool.true_or, Bool.and_self, Bool.or_self, Nat.zero_add, Nat.add_zero, or_false, or_true, true_or, false_or, j_b0, ↓j_b1, j_b2, ↓j_b3, j_01, j_inb, and_self, Classical.not_not, Int32.reduceLE, Int32.reduceLT, Int32.reduceAdd, j_ne, eq_self, not_true_eq_false, not_false_eq_true, forall_const, and_false, false_and, j_sc, j_ent, Nat.reduceSub, List.replicate_zero, List.replicate_succ, f50, f52, hE, v_nar, j_un, ne_eq, nI_1, nI_cl' (show t < 1000000 by omega), nI_cl' (show k < 1000000 by omega), nI_lt' (show E < 1000000 by omega) (show k < 1000000 by omega), nI_le' (show k < 1000000 by omega) (show E < 1000000 by omega), nI_lt' (show dn < 1000000 by omega) (show k < 1000000 by omega), nI_le' (show k < 1000000 by omega) (show dn < 1000000 by omega)]
    have ht2 := n_100 ht
    refine ⟨ht2, fun z => hx (Or.inl z) hf hI, fun z1 => ⟨fun z => hx (Or.inr z) hf hI, fun z2 => ⟨ht2, ?_⟩⟩⟩
    have hin := n_20k (show k < 20001 by omega)
    have hk0 := hI k z2
    rw [if_neg (fun z => by omega)] at hk0
    have hck : y_c g (μ 51) (μ 52) (nI k) t = true := (hcv k z2 (by omega)).mpr ⟨hk, z1⟩
    have oth : ∀ m', (∀ j, j ≠ k → m' 73 j = m 73 j ∧ m' 74 j = m 74 j ∧ m' 75 j = m 75 j) → y_I μ m' g k (t + 1) → ∀ j, j ≤ dn → if F ≤ j ∧ j < k + 1 then y_I μ m' g j (t + 1) else y_I μ m' g j t := by
      intro m' ho hk1 j hj
      by_cases e : j = k
      · subst e
        rw [if_pos ⟨hk, by omega⟩]
        exact hk1
      · obtain ⟨o1, o2, o3⟩ := ho j e
        have h := hI j hj
        by_cases c : F ≤ j ∧ j < k
        · rw [if_pos c] at h
          rw [if_pos ⟨c.1, by omega⟩]
          exact h.ext o1 o2 o3
        · rw [if_neg c] at h
          rw [if_neg (fun z => c ⟨z.1, by omega⟩)]
          exact h.ext o1 o2 o3
    obtain ⟨k1, k2, k3⟩ := hk0
    refine ⟨fun c1 => ⟨hin, ⟨fun c2 => ?_, fun c2 => ?_⟩⟩, fun c1 => ⟨hin, ?_⟩⟩
    · have e1 : y_ms g (μ 50) (μ 51) (μ 52) (nI k) (t + 1) = if (y_ms g (μ 50) (μ 51) (μ 52) (nI k) t).1 = 0 then (1, μ 50 t) else if (y_ms g (μ 50) (μ 51) (μ 52) (nI k) t).2 = μ 50 t then y_ms g (μ 50) (μ 51) (μ 52) (nI k) t else (2, (y_ms g (μ 50) (μ 51) (μ 52) (nI k) t).2) := by
        show (if _ then _ else _) = _
        rw [if_pos ⟨hck, c1⟩]
      have e2 : y_rd g (μ 50) (μ 51) (μ 52) (nI k) (t + 1) = y_rd g (μ 50) (μ 51) (μ 52) (nI k) t := by
        show (if _ then _ else _) = _
        rw [if_neg (fun z => c1 z.2)]
      have n0 : ¬ (y_ms g (μ 50) (μ 51) (μ 52) (nI k) t).1 = 0 := by rw [← k1]; exact c2
      have k4 := k3 n0
      rw [if_neg n0] at e1
      refine ⟨hin, ht2, fun c3 => ?_, fun c3 => ⟨hin, ?_⟩⟩
      · rw [if_pos (by rw [← k4]; exact c3)] at e1
        refine ih (k + 1) m (by omega) (by omega) (by omega) hf (oth m (fun j _ => ⟨rfl, rfl, rfl⟩) ?_)
        unfold y_I
        rw [e1, e2]
        exact ⟨k1, k2, k3⟩
      · rw [if_neg (by rw [← k4]; exact c3)] at e1
        refine ih (k + 1) _ (by omega) (by omega) (by omega) (hf.up (by decide)) (oth _ (fun j hj => ?_) ?_)
        · rw [j_us, u_n _ _ hj, j_un _ _ _ (by decide), j_un _ _ _ (by decide)]
          exact ⟨rfl, rfl, rfl⟩
        · unfold y_I
          rw [e1, e2, j_us, u_s, j_un _ _ _ (by decide), j_un _ _ _ (by decide)]
          exact ⟨rfl, k2, fun _ => k4⟩
    · have n0 : (y_ms g (μ 50) (μ 51) (μ 52) (nI k) t).1 = 0 := by rw [← k1]; exact c2
      have e1 : y_ms g (μ 50) (μ 51) (μ 52) (nI k) (t + 1) = (1, μ 50 t) := by
        show (if _ then _ else _) = _
        rw [if_pos ⟨hck, c1⟩, if_pos n0]
      have e2 : y_rd g (μ 50) (μ 51) (μ 52) (nI k) (t + 1) = y_rd g (μ 50) (μ 51) (μ 52) (nI k) t := by
        show (if _ then _ else _) = _
        rw [if_neg (fun z => c1 z.2)]
      refine ⟨hin, ht2, hin, ?_⟩
      refine ih (k + 1) _ (by omega) (by omega) (by omega) ((hf.up (by decide)).up (by decide)) (oth _ (fun j hj => ?_) ?_)
      · rw [j_un _ _ _ (show (73 : Nat) ≠ 74 by decide), j_us, u_n _ _ hj, j_us, u_n _ _ hj, j_un _ _ _ (by decide), j_un _ _ _ (by decide), j_un _ _ _ (by decide)]
        exact ⟨rfl, rfl, rfl⟩
      · unfold y_I
        rw [e1, e2, j_un _ _ _ (show (73 : Nat) ≠ 74 by decide), j_us, u_s, j_us, u_s, j_un _ _ _ (by decide), j_un _ _ _ (by decide)]
        exact ⟨rfl, k2, fun _ => rfl⟩
    · have e1 : y_ms g (μ 50) (μ 51) (μ 52) (nI k) (t + 1) = y_ms g (μ 50) (μ 51) (μ 52) (nI k) t := by
        show (if _ then _ else _) = _
        rw [if_neg (fun z => z.2 c1)]
      have e2 : y_rd g (μ 50) (μ 51) (μ 52) (nI k) (t + 1) = 1 := by
        show (if _ then _ else _) = _
        rw [if_pos ⟨hck, c1⟩]
      refine ih (k + 1) _ (by omega) (by omega) (by omega) (hf.up (by decide)) (oth _ (fun j hj => ?_) ?_)
      · rw [j_us, u_n _ _ hj, j_un _ _ _ (by decide), j_un _ _ _ (by decide)]
        exact ⟨rfl, rfl, rfl⟩
      · unfold y_I
        rw [e1, e2, j_us, u_s, j_un _ _ _ (by decide), j_un _ _ _ (by decide)]
        exact ⟨k1, rfl, k3⟩
set_option maxRecDepth 100000 in
theorem l_X10_mark1 {μ : j_M} {p q : Int32} {dn nt : Nat} {g : Nat → Bool} {Q : j_Q} (hd : dn ≤ 20000) (hs : μ 42 3 = nI nt) (hn : nt ≤ 100) (hT : ∀ t, t < nt → ∃ F E : Nat, μ 51 t = nI F ∧ μ 52 t = nI E ∧ F ≤ E ∧ E ≤ 20000) (hg : g = y_g (μ 49) (μ 53) (μ 54) p q) (hQ : ∀ m, y_fr μ m → (∀ j, j ≤ dn → y_I μ m g j nt) → Q none j_SH m) : ∀ (k t : Nat) (m : j_M), t + k = nt → y_fr μ m → (∀ j, j ≤ dn → y_I μ m g j t) → j_J cX10_mark 10 6 none false 1 none Q j_SH 0 0 34 [some (.ref 42), some (.int p), some (.int (nI dn)), some (.int q), some (.int (nI t)), none] [] m := by
  intro k
  induction k with
  | zero =>
    intro t m ht hf hI
    have f42 := hf 42 (by decide) (by decide) (by decide)
    refine j_go (fun q => q == 34) 30 ?_
    simp only [qX10_mark, j_f10, j_m10, j_ty, tyX10, ↓j_kt, ↓j_sel, ↓j_run_0, ↓j_run_s, ↓j_wp, ↓j_pi, ↓j_pii, ↓j_pl, ↓j_pll, ↓j_pli, ↓j_pr, ↓j_pri, ↓j_prii, ↓j_pvr, ↓j_pop, ↓j_gi, ↓j_gl, ↓j_ga, ↓j_ob, ↓j_ar, ↓j_fd, ↓j_fo, ↓j_mo, ↓j_br, ↓j_to, ↓j_lo, ↓j_scr, ↓j_co, ↓j_no, j_nf, j_rt, j_ld, j_st1, j_st2, j_k1, j_ci, j_fin, j_sh, j_shl, Option.map_some, Option.map_none, Option.toList_some, Option.toList_none, List.cons_append, List.nil_append, List.map_cons, List.map_nil, List.sum_cons, List.sum_nil, Value.category, List.getElem?_cons_zero, List.getElem?_cons_succ, List.length_cons, List.length_nil, true_and, and_true, if_true, if_false, ↓reduceIte, Bool.false_eq_true, Bool.true_eq_false, reduceCtorEq, Nat.reduceAdd, Nat.reduceLT, Nat.reduceLeDiff, Nat.reduceEqDiff, Nat.reduceBEq, Int.cast_ofNat_Int, Int.reduceAdd, Int.reduceNeg, Int.reduceSub, Int.reduceToNat, Int.reduceLE, Nat.zero_le, false_implies, implies_true, beq_self_eq_true, Bool.and_true, Bool.and_false, Bool.or_false, Bool.false_or, Bool.or_true, Bool.true_or, Bool.and_self, Bool.or_self, Nat.zero_add, Nat.add_zero, or_false, or_true, true_or, false_or, j_b0, ↓j_b1, j_b2, ↓j_b3, j_01, j_inb, and_self, Classical.not_not, Int32.reduceLE, Int32.reduceLT, Int32.reduceAdd, j_ne, eq_self, not_true_eq_false, not_false_eq_true, forall_const, and_false, false_and, j_sc, j_ent, Nat.reduceSub, List.replicate_zero, List.replicate_succ, f42, hs, nI_lt' (show t < 1000000 by omega) (show nt < 1000000 by omega), nI_le' (show nt < 1000000 by omega) (show t < 1000000 by omega)]
    have e : t = nt := by omega
    subst e
    exact ⟨fun _ => hQ m hf hI, fun h => by omega⟩
  | succ k ih =>
    intro t m ht hf hI
    have f42 := hf 42 (by decide) (by decide) (by decide)
    have f49 := hf 49 (by decide) (by decide) (by decide)
    have f51 := hf 51 (by decide) (by decide) (by decide)
    have f53 := hf 53 (by decide) (by decide) (by decide)
    have f54 := hf 54 (by decide) (by decide) (by decide)
    obtain ⟨F, E, hF, hE, hFE, hE2⟩ := hT t (by omega)
    have skip : (¬ g t = true) → ∀ v5, j_J cX10_mark 10 6 none false 1 none Q j_SH 0 0 182 [some (.ref 42), some (.int p), some (.int (nI dn)), some (.int q), some (.int (nI t)), v5] [] m := by
      intro hgt v5
      refine j_J.le (ls := [some (.ref 42), some (.int p), some (.int (nI dn)), some (.int q), some (.int (nI t)), none]) ?_ ⟨Or.inr rfl, Or.inr rfl, Or.inr rfl, Or.inr rfl, Or.inr rfl, Or.inl rfl, trivial⟩
      refine j_go (fun q => q == 34) 30 ?_
      simp only [qX10_mark, j_f10, j_m10, j_ty, tyX10, ↓j_kt, ↓j_sel, ↓j_run_0, ↓j_run_s, ↓j_wp, ↓j_pi, ↓j_pii, ↓j_pl, ↓j_pll, ↓j_pli, ↓j_pr, ↓j_pri, ↓j_prii, ↓j_pvr, ↓j_pop, ↓j_gi, ↓j_gl, ↓j_ga, ↓j_ob, ↓j_ar, ↓j_fd, ↓j_fo, ↓j_mo, ↓j_br, ↓j_to, ↓j_lo, ↓j_scr, ↓j_co, ↓j_no, j_nf, j_rt, j_ld, j_st1, j_st2, j_k1, j_ci, j_fin, j_sh, j_shl, Option.map_some, Option.map_none, Option.toList_some, Option.toList_none, List.cons_append, List.nil_append, List.map_cons, List.map_nil, List.sum_cons, List.sum_nil, Value.category, List.getElem?_cons_zero, List.getElem?_cons_succ, List.length_cons, List.length_nil, true_and, and_true, if_true, if_false, ↓reduceIte, Bool.false_eq_true, Bool.true_eq_false, reduceCtorEq, Nat.reduceAdd, Nat.reduceLT, Nat.reduceLeDiff, Nat.reduceEqDiff, Nat.reduceBEq, Int.cast_ofNat_Int, Int.reduceAdd, Int.reduceNeg, Int.reduceSub, Int.reduceToNat, Int.reduceLE, Nat.zero_le, false_implies, implies_true, beq_self_eq_true, Bool.and_true, Bool.and_false, Bool.or_false, Bool.false_or, Bool.or_true, Bool.true_or, Bool.and_self, Bool.or_self, Nat.zero_add, Nat.add_zero, or_false, or_true, true_or, false_or, j_b0, ↓j_b1, j_b2, ↓j_b3, j_01, j_inb, and_self, Classical.not_not, Int32.reduceLE, Int32.reduceLT, Int32.reduceAdd, j_ne, eq_self, not_true_eq_false, not_false_eq_true, forall_const, and_false, false_and, j_sc, j_ent, Nat.reduceSub, List.replicate_zero, List.replicate_succ, nI_1]
      refine ih (t + 1) m (by omega) hf (fun j hj => (hI j hj).skip (fun z => hgt ?_))
      unfold y_c at z
      rw [Bool.and_eq_true] at z
      exact z.1
    refine j_go (fun q => q == 34 || q == 76 || q == 182) 60 ?_
    simp only [qX10_mark, j_f10, j_m10, j_ty, tyX10, ↓j_kt, ↓j_sel, ↓j_run_0, ↓j_run_s, ↓j_wp, ↓j_pi, ↓j_pii, ↓j_pl, ↓j_pll, ↓j_pli, ↓j_pr, ↓j_pri, ↓j_prii, ↓j_pvr, ↓j_pop, ↓j_gi, ↓j_gl, ↓j_ga, ↓j_ob, ↓j_ar, ↓j_fd, ↓j_fo, ↓j_mo, ↓j_br, ↓j_to, ↓j_lo, ↓j_scr, ↓j_co, ↓j_no, j_nf, j_rt, j_ld, j_st1, j_st2, j_k1, j_ci, j_fin, j_sh, j_shl, Option.map_some, Option.map_none, Option.toList_some, Option.toList_none, List.cons_append, List.nil_append, List.map_cons, List.map_nil, List.sum_cons, List.sum_nil, Value.category, List.getElem?_cons_zero, List.getElem?_cons_succ, List.length_cons, List.length_nil, true_and, and_true, if_true, if_false, ↓reduceIte, Bool.false_eq_true, Bool.true_eq_false, reduceCtorEq, Nat.reduceAdd, Nat.reduceLT, Nat.reduceLeDiff, Nat.reduceEqDiff, Nat.reduceBEq, Int.cast_ofNat_Int, Int.reduceAdd, Int.reduceNeg, Int.reduceSub, Int.reduceToNat, Int.reduceLE, Nat.zero_le, false_implies, implies_true, beq_self_eq_true, Bool.and_true, Bool.and_false, Bool.or_false, Bool.false_or, Bool.or_true, Bool.true_or, Bool.and_self, Bool.or_self, Nat.zero_add, Nat.add_zero, or_false, or_true, true_or, false_or, j_b0, ↓j_b1, j_b2, ↓j_b3, j_01, j_inb, and_self, Classical.not_not, Int32.reduceLE, Int32.reduceLT, Int32.reduceAdd, j_ne, eq_self, not_true_eq_false, not_false_eq_true, forall_const, and_false, false_and, j_sc, j_ent, Nat.reduceSub, List.replicate_zero, List.replicate_succ, f42, f49, hs, nI_1, nI_cl' (show t < 1000000 by omega), nI_lt' (show t < 1000000 by omega) (show nt < 1000000 by omega), nI_le' (show nt < 1000000 by omega) (show t < 1000000 by omega)]
    have ht2 := n_100 (show t < 100 by omega)
    refine ⟨fun h => by omega, fun _ => ⟨ht2, fun c1 => ?_, fun c1 => ?_⟩⟩
    · refine skip ?_ _
      rw [hg]
      unfold y_g
      rw [Bool.and_eq_true, decide_eq_true_eq]
      exact fun z => c1 z.1
    · have hk := f_X10_isKnown m t q (by omega)
      rw [f53, f54] at hk
      refine j_use1 hk (by decide) ?_
      simp only [qX10_mark, j_f10, j_m10, j_ty, tyX10, ↓j_kt, ↓j_sel, ↓j_run_0, ↓j_run_s, ↓j_wp, ↓j_pi, ↓j_pii, ↓j_pl, ↓j_pll, ↓j_pli, ↓j_pr, ↓j_pri, ↓j_prii, ↓j_pvr, ↓j_pop, ↓j_gi, ↓j_gl, ↓j_ga, ↓j_ob, ↓j_ar, ↓j_fd, ↓j_fo, ↓j_mo, ↓j_br, ↓j_to, ↓j_lo, ↓j_scr, ↓j_co, ↓j_no, j_nf, j_rt, j_ld, j_st1, j_st2, j_k1, j_ci, j_fin, j_sh, j_shl, Option.map_some, Option.map_none, Option.toList_some, Option.toList_none, List.cons_append, List.nil_append, List.map_cons, List.map_nil, List.sum_cons, List.sum_nil, Value.category, List.getElem?_cons_zero, List.getElem?_cons_succ, List.length_cons, List.length_nil, true_and, and_true, if_true, if_false, ↓reduceIte, Bool.false_eq_true, Bool.true_eq_false, reduceCtorEq, Nat.reduceAdd, Nat.reduceLT, Nat.reduceLeDiff, Nat.reduceEqDiff, Nat.reduceBEq, Int.cast_ofNat_Int, Int.reduceAdd, Int.reduceNeg, Int.reduceSub, Int.reduceToNat, Int.reduceLE, Nat.zero_le, false_implies, implies_true, beq_self_eq_true, Bool.and_true, Bool.and_false, Bool.or_false, Bool.false_or, Bool.or_true, Bool.true_or, Bool.and_self, Bool.or_self, Nat.zero_add, Nat.add_zero, or_false, or_true, true_or, false_or, j_b0, ↓j_b1, j_b2, ↓j_b3, j_01, j_inb, and_self, Classical.not_not, Int32.reduceLE, Int32.reduceLT, Int32.reduceAdd, j_ne, eq_self, not_true_eq_false, not_false_eq_true, forall_const, and_false, false_and, j_sc, j_ent, Nat.reduceSub, List.replicate_zero, List.replicate_succ, f51, hF, nI_cl' (show t < 1000000 by omega)]
      refine ⟨fun c2 => ⟨ht2, ?_⟩, fun c2 => ?_⟩
      · have hgt : g t = true := by
          rw [hg]
          unfold y_g
          rw [Bool.and_eq_true, decide_eq_true_eq]
          exact ⟨c1, c2⟩
        refine l_X10_mark2 hd (by omega) hF hE hE2 hgt (fun m1 h1 h2 => ?_) (dn + 1) F m (by omega) (by omega) (by omega) hf (fun j hj => by rw [if_neg (fun z => by omega)]; exact hI j hj)
        refine j_go (fun q => q == 34) 30 ?_
        simp only [qX10_mark, j_f10, j_m10, j_ty, tyX10, ↓j_kt, ↓j_sel, ↓j_run_0, ↓j_run_s, ↓j_wp, ↓j_pi, ↓j_pii, ↓j_pl, ↓j_pll, ↓j_pli, ↓j_pr, ↓j_pri, ↓j_prii, ↓j_pvr, ↓j_pop, ↓j_gi, ↓j_gl, ↓j_ga, ↓j_ob, ↓j_ar, ↓j_fd, ↓j_fo, ↓j_mo, ↓j_br, ↓j_to, ↓j_lo, ↓j_scr, ↓j_co, ↓j_no, j_nf, j_rt, j_ld, j_st1, j_st2, j_k1, j_ci, j_fin, j_sh, j_shl, Option.map_some, Option.map_none, Option.toList_some, Option.toList_none, List.cons_append, List.nil_append, List.map_cons, List.map_nil, List.sum_cons, List.sum_nil, Value.category, List.getElem?_cons_zero, List.getElem?_cons_succ, List.length_cons, List.length_nil, true_and, and_true, if_true, if_false, ↓reduceIte, Bool.false_eq_true, Bool.true_eq_false, reduceCtorEq, Nat.reduceAdd, Nat.reduceLT, Nat.reduceLeDiff, Nat.reduceEqDiff, Nat.reduceBEq, Int.cast_ofNat_Int, Int.reduceAdd, Int.reduceNeg, Int.reduceSub, Int.reduceToNat, Int.reduceLE, Nat.zero_le, false_implies, implies_true, beq_self_eq_true, Bool.and_true, Bool.and_false, Bool.or_false, Bool.false_or, Bool.or_true, Bool.true_or, Bool.and_self, Bool.or_self, Nat.zero_add, Nat.add_zero, or_false, or_true, true_or, false_or, j_b0, ↓j_b1, j_b2, ↓j_b3, j_01, j_inb, and_self, Classical.not_not, Int32.reduceLE, Int32.reduceLT, Int32.reduceAdd, j_ne, eq_self, not_true_eq_false, not_false_eq_true, forall_const, and_false, false_and, j_sc, j_ent, Nat.reduceSub, List.replicate_zero, List.replicate_succ, nI_1]
        exact ih (t + 1) m1 (by omega) h1 h2
      · refine skip ?_ _
        rw [hg]
        unfold y_g
        rw [Bool.and_eq_true, decide_eq_true_eq]
        exact fun z => c2 z.2
set_option maxRecDepth 100000 in
theorem f_X10_mark (μ : j_M) (p q : Int32) {dn nt : Nat} (hd : dn ≤ 20000) (hs : μ 42 3 = nI nt) (hn : nt ≤ 100) (hT : ∀ t, t < nt → ∃ F E : Nat, μ 51 t = nI F ∧ μ 52 t = nI E ∧ F ≤ E ∧ E ≤ 20000) : j_R 1 yX10_mark [.ref 42, .int p, .int (nI dn), .int q] μ (fun r m => r = none ∧ y_fr μ m ∧ ∀ j, j ≤ dn → m 73 j = (y_ms (y_g (μ 49) (μ 53) (μ 54) p q) (μ 50) (μ 51) (μ 52) (nI j) nt).1 ∧ m 75 j = y_rd (y_g (μ 49) (μ 53) (μ 54) p q) (μ 50) (μ 51) (μ 52) (nI j) nt) := by
  refine eX10_mark (Nat.le_of_ble_eq_true rfl) (j_go (fun q => q == 3) 30 ?_)
  simp only [qX10_mark, j_f10, j_m10, j_ty, tyX10, ↓j_kt, ↓j_sel, ↓j_run_0, ↓j_run_s, ↓j_wp, ↓j_pi, ↓j_pii, ↓j_pl, ↓j_pll, ↓j_pli, ↓j_pr, ↓j_pri, ↓j_prii, ↓j_pvr, ↓j_pop, ↓j_gi, ↓j_gl, ↓j_ga, ↓j_ob, ↓j_ar, ↓j_fd, ↓j_fo, ↓j_mo, ↓j_br, ↓j_to, ↓j_lo, ↓j_scr, ↓j_co, ↓j_no, j_nf, j_rt, j_ld, j_st1, j_st2, j_k1, j_ci, j_fin, j_sh, j_shl, Option.map_some, Option.map_none, Option.toList_some, Option.toList_none, List.cons_append, List.nil_append, List.map_cons, List.map_nil, List.sum_cons, List.sum_nil, Value.category, List.getElem?_cons_zero, List.getElem?_cons_succ, List.length_cons, List.length_nil, true_and, and_true, if_true, if_false, ↓reduceIte, Bool.false_eq_true, Bool.true_eq_false, reduceCtorEq, Nat.reduceAdd, Nat.reduceLT, Nat.reduceLeDiff, Nat.reduceEqDiff, Nat.reduceBEq, Int.cast_ofNat_Int, Int.reduceAdd, Int.reduceNeg, Int.reduceSub, Int.reduceToNat, Int.reduceLE, Nat.zero_le, false_implies, implies_true, beq_self_eq_true, Bool.and_true, Bool.and_false, Bool.or_false, Bool.false_or, Bool.or_true, Bool.true_or, Bool.and_self, Bool.or_self, Nat.zero_add, Nat.add_zero, or_false, or_true, true_or, false_or, j_b0, ↓j_b1, j_b2, ↓j_b3, j_01, j_inb, and_self, Classical.not_not, Int32.reduceLE, Int32.reduceLT, Int32.reduceAdd, j_ne, eq_self, not_true_eq_false, not_false_eq_true, forall_const, and_false, false_and, j_sc, j_ent, Nat.reduceSub, List.replicate_zero, List.replicate_succ]
  refine l_X10_mark0 hd (fun m h1 h2 => ?_) (dn + 1) 0 μ (by omega) (fun _ _ _ _ => rfl) (fun j hj => by omega)
  refine l_X10_mark1 hd hs hn hT rfl (fun m h1 h2 => ⟨rfl, rfl, h1, fun j hj => ⟨(h2 j hj).1, (h2 j hj).2.1⟩⟩) nt 0 m (by omega) h1 (fun j hj => ?_)
  obtain ⟨z1, z2⟩ := h2 j hj
  exact ⟨z1, z2, fun z => absurd rfl z⟩
