/-! the reference: piece -/
def j_SH2 : List j_S := j_SH ++ [.inl (.boolean, 30)]
theorem j_sl2 : j_SH2.length = 79 := rfl
theorem j_s2 : j_SH2[42]? = j_SH[42]? ∧ j_SH2[64]? = some (.inl (.int, 40)) ∧ j_SH2[65]? = some (.inl (.int, 40)) ∧ j_SH2[66]? = some (.inl (.int, 40)) ∧ j_SH2[67]? = some (.inl (.int, 40)) ∧ j_SH2[68]? = some (.inl (.int, 120)) ∧ j_SH2[69]? = some (.inl (.int, 480)) ∧ j_SH2[78]? = some (.inl (.boolean, 30)) := ⟨rfl, rfl, rfl, rfl, rfl, rfl, rfl, rfl⟩
/-- the same below the new cell -/
def e_78 (m m' : j_M) : Prop := ∀ b, b < 78 → m b = m' b
theorem e_78.rf (m : j_M) : e_78 m m := fun _ _ => rfl
theorem e_78.up {m m' : j_M} (h : e_78 m m') (a i : Nat) (v : Int32) : e_78 (j_up m a i v) (j_up m' a i v) := by
  intro b hb
  by_cases e : b = a
  · subst e
    rw [j_us, j_us, h b hb]
  · rw [j_un _ _ _ e, j_un _ _ _ e]
    exact h b hb
theorem e_78.new {m m' : j_M} (h : e_78 m m') (i : Nat) (v : Int32) : e_78 (j_up m 78 i v) m' := by
  intro b hb
  rw [j_un _ _ _ (by omega)]
  exact h b hb
theorem e_78.row {m m' : j_M} (h : e_78 m m') (a : Nat) (f : Nat → Int32) : e_78 (j_row m a f) (j_row m' a f) := by
  intro b hb
  by_cases e : b = a
  · subst e
    rw [j_rs, j_rs]
  · rw [j_rn' _ _ e, j_rn' _ _ e]
    exact h b hb
/-- the flags, as the new row holds them -/
def e_fl (m : j_M) (H : Nat → Bool) (n : Nat) : Prop := ∀ j, j < n → m 78 j = if H j = true then 1 else 0
theorem e_fl.up {m : j_M} {H : Nat → Bool} {n : Nat} (h : e_fl m H n) {a : Nat} (i : Nat) (v : Int32) (ha : a ≠ 78) : e_fl (j_up m a i v) H n := by
  intro j hj
  rw [j_un _ _ _ (Ne.symm ha)]
  exact h j hj
def e_rm (H : Nat → Bool) (k : Nat) : Nat → Bool := fun j => H j && !(j == k)
theorem cnt_rm {H : Nat → Bool} {k : Nat} (hk : H k = true) : ∀ n, cnt (e_rm H k) n = if k < n then cnt H n - 1 else cnt H n
  | 0 => rfl
  | n + 1 => by
    have ih := cnt_rm hk n
    rw [cnt_s, cnt_s, ih]
    by_cases e : k = n
    · subst e
      have he : e_rm H k k = false := by unfold e_rm; simp
      rw [if_neg (show ¬ k < k by omega), if_pos (show k < k + 1 by omega), hk, he]
      simp
    · have he : e_rm H k n = H n := by
        unfold e_rm
        have : (n == k) = false := by simp; omega
        rw [this]; simp
      rw [he]
      by_cases l : k < n
      · rw [if_pos l, if_pos (show k < n + 1 by omega)]
        have h1 : 1 ≤ cnt H n := by
          have := cnt_lt (g := fun _ => false) (h := H) n (fun j _ z => by cases z) ⟨k, l, hk, by simp⟩
          omega
        split <;> omega
      · rw [if_neg l, if_neg (show ¬ k < n + 1 by omega)]
theorem n_pred {n : Nat} (h : 0 < n) : nI n + -1 = nI (n - 1) := nI_dec h
set_option maxRecDepth 100000 in
/-- the place-th of the flags that stand is found -/
theorem l_X10_find {μ : j_M} {H : Nat → Bool} {np pl : Nat} {v1 : Option Value} {x : Int64} {c v8 : Int32} {Q : j_Q} (hn : np ≤ 30) (hfl : e_fl μ H np) (hpl : pl < cnt H np)
    (hQ : ∀ k, k < np → H k = true → cnt H k = pl → j_J cX10_piece 10 11 (some .int) false 31 none Q j_SH2 0 0 224 [some (.ref 42), v1, none, none, some (.ref 78), some (.int c), some (.long x), none, some (.int v8), some (.int 0), some (.int (nI k))] [] μ) :
    ∀ (n k : Nat), k + n = np → cnt H k ≤ pl → j_J cX10_piece 10 11 (some .int) false 31 none Q j_SH2 0 0 194 [some (.ref 42), v1, none, none, some (.ref 78), some (.int c), some (.long x), none, some (.int v8), some (.int (nI (pl - cnt H k))), some (.int (nI k))] [] μ := by
  intro n
  induction n with
  | zero =>
    intro k hk hc
    have e : k = np := by omega
    subst e
    omega
  | succ n ih =>
    intro k hk hc
    have hf := hfl k (by omega)
    have h30 := n30 (show k < 30 by omega)
    have nx := ih (k + 1) (by omega)
    have hcl := cnt_le H k
    rw [cnt_s] at nx
    refine j_go (fun q => q == 194 || q == 224) 30 ?_
    cases hH : H k with
    | false =>
      rw [hH] at hf nx
      rw [if_neg (by decide)] at hf nx
      simp only [qX10_piece, j_f10, j_m10, j_ty, tyX10, ↓j_kt, ↓j_sel, ↓j_run_0, ↓j_run_s, ↓j_wp, ↓j_pi, ↓j_pii, ↓j_pl, ↓j_pll, ↓j_pli, ↓j_pr, ↓j_pri, ↓j_prii, ↓j_pvr, ↓j_pop, ↓j_gi, ↓j_gl, ↓j_ga, ↓j_ob, ↓j_ar, ↓j_fd, ↓j_fo, ↓j_mo, ↓j_br, ↓j_to, ↓j_lo, ↓j_scr, ↓j_co, ↓j_no, j_nf, j_rt, j_ld, j_st1, j_st2, j_k1, j_ci, j_fin, j_sh, j_shl, Option.map_some, Option.map_none, Option.toList_some, Option.toList_none, List.cons_append, List.nil_append, List.map_cons, List.map_nil, List.sum_cons, List.sum_nil, Value.category, List.getElem?_cons_zero, List.getElem?_cons_succ, List.length_cons, List.length_nil, true_and, and_true, if_true, if_false, ↓reduceIte, Bool.false_eq_true, Bool.true_eq_false, reduceCtorEq, Nat.reduceAdd, Nat.reduceLT, Nat.reduceLeDiff, Nat.reduceEqDiff, Nat.reduceBEq, Int.cast_ofNat_Int, Int.reduceAdd, Int.reduceNeg, Int.reduceSub, Int.reduceToNat, Int.reduceLE, Nat.zero_le, false_implies, implies_true, beq_self_eq_true, Bool.and_true, Bool.and_false, Bool.or_false, Bool.false_or, Bool.or_true, Bool.true_or, Bool.and_self, Bool.or_self, Nat.zero_add, Nat.add_zero, or_false, or_true, true_or, false_or, j_b0, ↓j_b1, j_b2, ↓j_b3, j_01, j_inb, and_self, Classical.not_not, Int32.reduceLE, Int32.reduceLT, Int32.reduceAdd, j_ne, eq_self, not_true_eq_false, not_false_eq_true, forall_const, and_false, false_and, j_sc, j_ent, Nat.reduceSub, List.replicate_zero, List.replicate_succ, j_s2, j_sl2, hf, h30, nI_1, nI_cl' (show k < 1000000 by omega)]
      exact nx hc
    | true =>
      rw [hH] at hf nx
      rw [if_pos rfl] at hf nx
      have pl30 : pl < 30 := by
        have := cnt_le H np
        omega
      simp only [qX10_piece, j_f10, j_m10, j_ty, tyX10, ↓j_kt, ↓j_sel, ↓j_run_0, ↓j_run_s, ↓j_wp, ↓j_pi, ↓j_pii, ↓j_pl, ↓j_pll, ↓j_pli, ↓j_pr, ↓j_pri, ↓j_prii, ↓j_pvr, ↓j_pop, ↓j_gi, ↓j_gl, ↓j_ga, ↓j_ob, ↓j_ar, ↓j_fd, ↓j_fo, ↓j_mo, ↓j_br, ↓j_to, ↓j_lo, ↓j_scr, ↓j_co, ↓j_no, j_nf, j_rt, j_ld, j_st1, j_st2, j_k1, j_ci, j_fin, j_sh, j_shl, Option.map_some, Option.map_none, Option.toList_some, Option.toList_none, List.cons_append, List.nil_append, List.map_cons, List.map_nil, List.sum_cons, List.sum_nil, Value.category, List.getElem?_cons_zero, List.getElem?_cons_succ, List.length_cons, List.length_nil, true_and, and_true, if_true, if_false, ↓reduceIte, Bool.false_eq_true, Bool.true_eq_false, reduceCtorEq, Nat.reduceAdd, Nat.reduceLT, Nat.reduceLeDiff, Nat.reduceEqDiff, Nat.reduceBEq, Int.cast_ofNat_Int, Int.reduceAdd, Int.reduceNeg, Int.reduceSub, Int.reduceToNat, Int.reduceLE, Nat.zero_le, false_implies, implies_true, beq_self_eq_true, Bool.and_true, Bool.and_false, Bool.or_false, Bool.false_or, Bool.or_true, Bool.true_or, Bool.and_self, Bool.or_self, Nat.zero_add, Nat.add_zero, or_false, or_true, true_or, false_or, j_b0, ↓j_b1, j_b2, ↓j_b3, j_01, j_inb, and_self, Classical.not_not, Int32.reduceLE, Int32.reduceLT, Int32.reduceAdd, j_ne, eq_self, not_true_eq_false, not_false_eq_true, forall_const, and_false, false_and, j_sc, j_ent, Nat.reduceSub, List.replicate_zero, List.replicate_succ, j_s2, j_sl2, hf, h30, nI_1, nI_cl' (show k < 1000000 by omega)]
      have e0 : nI (pl - cnt H k) ≤ 0 ↔ pl - cnt H k ≤ 0 := nI_le' (b := 0) (by omega) (by omega)
      refine ⟨fun z => ?_, fun z => ?_⟩
      · have e1 := e0.mp z
        have h := hQ k (by omega) hH (by omega)
        rw [show pl - cnt H k = 0 by omega]
        exact h
      · have e1 : ¬ pl - cnt H k ≤ 0 := fun w => by have := e0.mpr w; grind
        rw [nI_dec (by omega), show pl - cnt H k - 1 = pl - (cnt H k + 1) by omega]
        exact nx (by omega)
/-- one judge drawn -/
def e_dr (H : Nat → Bool) (np : Nat) (x : Int64) (k : Nat) : Prop := k < np ∧ H k = true ∧ cnt H k = k_pl (k_rng x) (cnt H np)
theorem e_rm_fl {m : j_M} {H : Nat → Bool} {n k : Nat} (h : e_fl m H n) : e_fl (j_up m 78 k 0) (e_rm H k) n := by
  intro j hj
  rw [j_us]
  by_cases e : j = k
  · subst e
    rw [u_s, if_neg (by unfold e_rm; simp)]
  · rw [u_n _ _ e, h j hj]
    have : e_rm H k j = H j := by
      unfold e_rm
      have : (j == k) = false := by simp; exact e
      rw [this]; simp
    rw [this]
set_option maxRecDepth 100000 in
theorem l_X10_draw {m μ : j_M} {H : Nat → Bool} {np nq i : Nat} {v1 v9 v10 : Option Value} {x : Int64} {Q : j_Q} (hn : np ≤ 30) (he : e_78 m μ) (hfl : e_fl m H np) (h3 : 0 < cnt H np) (hs : μ 42 6 = nI nq) (hq : nq < 40) (hi : i < 3)
    (hQ : ∀ k m' v9 v10, e_dr H np x k → e_78 m' (j_up μ 68 (3 * nq + i) (nI k)) → e_fl m' (e_rm H k) np → j_J cX10_piece 10 11 (some .int) false 31 none Q j_SH2 0 0 161 [some (.ref 42), v1, none, none, some (.ref 78), some (.int (nI (cnt H np - 1))), some (.long (k_rng x)), none, some (.int (nI (i + 1))), v9, v10] [] m') :
    j_J cX10_piece 10 11 (some .int) false 31 none Q j_SH2 0 0 161 [some (.ref 42), v1, none, none, some (.ref 78), some (.int (nI (cnt H np))), some (.long x), none, some (.int (nI i)), v9, v10] [] m := by
  have hc30 : cnt H np ≤ 30 := Nat.le_trans (cnt_le H np) hn
  have li : nI i < 3 := (nI_lt' (a := i) (b := 3) (by omega) (by omega)).mpr hi
  have ne0 := lN_ne0 h3 hc30
  have hpl := k_pl_eq (k_rng x) h3 hc30
  have hlt := k_pl_lt (k_rng x) h3
  have m42 : m 42 6 = nI nq := by rw [he 42 (by omega)]; exact hs
  have hy : x * 6364136223846793005 + 1442695040888963407 = k_rng x := by unfold k_rng; rfl
  unfold e_dr at hQ
  generalize k_rng x = y at hy hpl hlt hQ
  generalize k_pl y (cnt H np) = pl at hpl hlt hQ
  refine j_go (fun q => q == 161 || q == 194) 40 ?_
  simp only [qX10_piece, j_f10, j_m10, j_ty, tyX10, ↓j_kt, ↓j_sel, ↓j_run_0, ↓j_run_s, ↓j_wp, ↓j_pi, ↓j_pii, ↓j_pl, ↓j_pll, ↓j_pli, ↓j_pr, ↓j_pri, ↓j_prii, ↓j_pvr, ↓j_pop, ↓j_gi, ↓j_gl, ↓j_ga, ↓j_ob, ↓j_ar, ↓j_fd, ↓j_fo, ↓j_mo, ↓j_br, ↓j_to, ↓j_lo, ↓j_scr, ↓j_co, ↓j_no, j_nf, j_rt, j_ld, j_st1, j_st2, j_k1, j_ci, j_fin, j_sh, j_shl, Option.map_some, Option.map_none, Option.toList_some, Option.toList_none, List.cons_append, List.nil_append, List.map_cons, List.map_nil, List.sum_cons, List.sum_nil, Value.category, List.getElem?_cons_zero, List.getElem?_cons_succ, List.length_cons, List.length_nil, true_and, and_true, if_true, if_false, ↓reduceIte, Bool.false_eq_true, Bool.true_eq_false, reduceCtorEq, Nat.reduceAdd, Nat.reduceLT, Nat.reduceLeDiff, Nat.reduceEqDiff, Nat.reduceBEq, Int.cast_ofNat_Int, Int.reduceAdd, Int.reduceNeg, Int.reduceSub, Int.reduceToNat, Int.reduceLE, Nat.zero_le, false_implies, implies_true, beq_self_eq_true, Bool.and_true, Bool.and_false, Bool.or_false, Bool.false_or, Bool.or_true, Bool.true_or, Bool.and_self, Bool.or_self, Nat.zero_add, Nat.add_zero, or_false, or_true, true_or, false_or, j_b0, ↓j_b1, j_b2, ↓j_b3, j_01, j_inb, and_self, Classical.not_not, Int32.reduceLE, Int32.reduceLT, Int32.reduceAdd, j_ne, eq_self, not_true_eq_false, not_false_eq_true, forall_const, and_false, false_and, j_sc, j_ent, Nat.reduceSub, List.replicate_zero, List.replicate_succ, j_s2, j_sl2, ne0, j_longs, hy, hpl]
  refine ⟨fun z => by grind, fun _ => ?_⟩
  have fin : (∀ k, k < np → H k = true → cnt H k = pl → j_J cX10_piece 10 11 (some .int) false 31 none Q j_SH2 0 0 224 [some (.ref 42), v1, none, none, some (.ref 78), some (.int (nI (cnt H np))), some (.long y), none, some (.int (nI i)), some (.int 0), some (.int (nI k))] [] m) → j_J cX10_piece 10 11 (some .int) false 31 none Q j_SH2 0 0 194 [some (.ref 42), v1, none, none, some (.ref 78), some (.int (nI (cnt H np))), some (.long y), none, some (.int (nI i)), some (.int (nI pl)), some (.int 0)] [] m := by
    intro hk
    have h0 := l_X10_find hn hfl hlt hk np 0 (by omega) (Nat.zero_le _)
    rw [show cnt H 0 = 0 from rfl, Nat.sub_zero, nI_0] at h0
    exact h0
  refine fin (fun k k1 k2 k3 => ?_)
  · refine j_go (fun q => q == 161) 40 ?_
    have c0 : vp_nar .boolean 0 = 0 := v_nar.2.2.2.1
    simp only [qX10_piece, j_f10, j_m10, j_ty, tyX10, ↓j_kt, ↓j_sel, ↓j_run_0, ↓j_run_s, ↓j_wp, ↓j_pi, ↓j_pii, ↓j_pl, ↓j_pll, ↓j_pli, ↓j_pr, ↓j_pri, ↓j_prii, ↓j_pvr, ↓j_pop, ↓j_gi, ↓j_gl, ↓j_ga, ↓j_ob, ↓j_ar, ↓j_fd, ↓j_fo, ↓j_mo, ↓j_br, ↓j_to, ↓j_lo, ↓j_scr, ↓j_co, ↓j_no, j_nf, j_rt, j_ld, j_st1, j_st2, j_k1, j_ci, j_fin, j_sh, j_shl, Option.map_some, Option.map_none, Option.toList_some, Option.toList_none, List.cons_append, List.nil_append, List.map_cons, List.map_nil, List.sum_cons, List.sum_nil, Value.category, List.getElem?_cons_zero, List.getElem?_cons_succ, List.length_cons, List.length_nil, true_and, and_true, if_true, if_false, ↓reduceIte, Bool.false_eq_true, Bool.true_eq_false, reduceCtorEq, Nat.reduceAdd, Nat.reduceLT, Nat.reduceLeDiff, Nat.reduceEqDiff, Nat.reduceBEq, Int.cast_ofNat_Int, Int.reduceAdd, Int.reduceNeg, Int.reduceSub, Int.reduceToNat, Int.reduceLE, Nat.zero_le, false_implies, implies_true, beq_self_eq_true, Bool.and_true, Bool.and_false, Bool.or_false, Bool.false_or, Bool.or_true, Bool.true_or, Bool.and_self, Bool.or_self, Nat.zero_add, Nat.add_zero, or_false, or_true, true_or, false_or, j_b0, ↓j_b1, j_b2, ↓j_b3, j_01, j_inb, and_self, Classical.not_not, Int32.reduceLE, Int32.reduceLT, Int32.reduceAdd, j_ne, eq_self, not_true_eq_false, not_false_eq_true, forall_const, and_false, false_and, j_sc, j_ent, Nat.reduceSub, List.replicate_zero, List.replicate_succ, j_s2, j_sl2, c0, j_un, ne_eq, m42, n_3i, nI_1, nI_dec h3, nI_cl' (show k < 1000000 by omega), nI_cl' (show 3 * nq + i < 1000000 by omega)]
    refine ⟨n30 (by omega), n120 (by omega), ?_⟩
    exact hQ k _ _ _ ⟨k1, k2, k3⟩ ((he.new k 0).up 68 _ _) ((e_rm_fl hfl).up _ _ (by decide))
