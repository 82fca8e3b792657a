/-! the reference: values -/
def y_lt (pp pd pr : Nat → Int32) (p d q : Int32) : Nat → Int32
  | 0 => -1
  | n + 1 => if pp n = p ∧ ¬ pd n = -1 ∧ pr n = -1 ∧ pd n ≤ d ∧ pd n ≤ q then nI n else y_lt pp pd pr p d q n
theorem y_lt_in (pp pd pr : Nat → Int32) (p d q : Int32) : ∀ n, n ≤ 1000000 → y_lt pp pd pr p d q n = -1 ∨ ∃ j, j < n ∧ y_lt pp pd pr p d q n = nI j
  | 0, _ => Or.inl rfl
  | n + 1, hn => by
    unfold y_lt
    split
    · exact Or.inr ⟨n, by omega, rfl⟩
    · rcases y_lt_in pp pd pr p d q n (by omega) with h | ⟨j, h1, h2⟩
      · exact Or.inl h
      · exact Or.inr ⟨j, by omega, h2⟩
abbrev y_wm (μ : j_M) (p d q : Int32) : Prop := ¬ p = -1 ∧ ¬ μ 45 p.toNatClampNeg = -1 ∧ μ 45 p.toNatClampNeg ≤ d ∧ μ 45 p.toNatClampNeg ≤ q
/-- a value of a person, as the reference has it -/
def y_v (μ : j_M) (nt ng nq dn : Nat) (p q : Int32) (w : Nat) : Int32 :=
  if w = 0 then nI (cnt (fun k => decide (0 < (y_ms (y_g (μ 49) (μ 53) (μ 54) p q) (μ 50) (μ 51) (μ 52) (nI k) nt).1)) (dn + 1))
  else if w = 1 then nI (cnt (fun k => decide (¬ 0 < (y_ms (y_g (μ 49) (μ 53) (μ 54) p q) (μ 50) (μ 51) (μ 52) (nI k) nt).1 ∧ ¬ y_rd (y_g (μ 49) (μ 53) (μ 54) p q) (μ 50) (μ 51) (μ 52) (nI k) nt = 0)) (dn + 1))
  else if w = 2 then k_sum (μ 55) (μ 58) (μ 56) p (k_min (nI dn) q) ng
  else if w = 3 then k_sum (μ 55) (μ 58) (μ 57) p (k_min (nI dn) q) ng
  else if w = 4 then (if y_lt (μ 64) (μ 65) (μ 67) p (nI dn) q nq = -1 then 0 else μ 66 (y_lt (μ 64) (μ 65) (μ 67) p (nI dn) q nq).toNatClampNeg)
  else if w = 5 then (if y_wm μ (μ 43 p.toNatClampNeg) (nI dn) q ∨ y_wm μ (μ 44 p.toNatClampNeg) (nI dn) q then 1 else 0)
  else if w = 6 then nI (cnt (fun k => decide (1 < (y_ms (y_g (μ 49) (μ 53) (μ 54) p q) (μ 50) (μ 51) (μ 52) (nI k) nt).1)) (dn + 1))
  else y_fs (fun k => decide (0 < (y_ms (y_g (μ 49) (μ 53) (μ 54) p q) (μ 50) (μ 51) (μ 52) (nI k) nt).1)) (dn + 1)
theorem cnt_s (g : Nat → Bool) (n : Nat) : cnt g (n + 1) = cnt g n + (if g n = true then 1 else 0) := rfl
theorem y_fs_s (g : Nat → Bool) (n : Nat) : y_fs g (n + 1) = if y_fs g n = -1 ∧ g n = true then nI n else y_fs g n := rfl
theorem y_fs_ext {g h : Nat → Bool} : ∀ n, (∀ j, j < n → g j = h j) → y_fs g n = y_fs h n
  | 0, _ => rfl
  | n + 1, H => by
    unfold y_fs
    rw [y_fs_ext n (fun j hj => H j (by omega)), H n (by omega)]
set_option maxRecDepth 100000 in
theorem l_X10_val0 {μ : j_M} {p d q : Int32} {Q : j_Q} (hQ : ∀ m, (∀ b, b ≠ 76 → m b = μ b) → (∀ w, w < 7 → m 76 w = 0) → j_J cX10_values 10 6 none false 2 none Q j_SH 0 0 24 [some (.ref 42), some (.int p), some (.int d), some (.int q), none, none] [] m) : ∀ (k i : Nat) (m : j_M), i + k = 7 → (∀ b, b ≠ 76 → m b = μ b) → (∀ w, w < i → m 76 w = 0) → j_J cX10_values 10 6 none false 2 none Q j_SH 0 0 3 [some (.ref 42), some (.int p), some (.int d), some (.int q), some (.int (nI i)), none] [] m := by
  intro k
  induction k with
  | zero =>
    intro i m hi hf hz
    have e : i = 7 := by omega
    subst e
    have e7 : nI 7 = 7 := by decide
    refine j_go (fun q => q == 3 || q == 24) 30 ?_
    simp only [qX10_values, j_f10, j_m10, j_ty, tyX10, ↓j_kt, ↓j_sel, ↓j_run_0, ↓j_run_s, ↓j_wp, ↓j_pi, ↓j_pii, ↓j_pl, ↓j_pll, ↓j_pli, ↓j_pr, ↓j_pri, ↓j_prii, ↓j_pvr, ↓j_pop, ↓j_gi, ↓j_gl, ↓j_ga, ↓j_ob, ↓j_ar, ↓j_fd, ↓j_fo, ↓j_mo, ↓j_br, ↓j_to, ↓j_lo, ↓j_scr, ↓j_co, ↓j_no, j_nf, j_rt, j_ld, j_st1, j_st2, j_k1, j_ci, j_fin, j_sh, j_shl, Option.map_some, Option.map_none, Option.toList_some, Option.toList_none, List.cons_append, List.nil_append, List.map_cons, List.map_nil, List.sum_cons, List.sum_nil, Value.category, List.getElem?_cons_zero, List.getElem?_cons_succ, List.length_cons, List.length_nil, true_and, and_true, if_true, if_false, ↓reduceIte, Bool.false_eq_true, Bool.true_eq_false, reduceCtorEq, Nat.reduceAdd, Nat.reduceLT, Nat.reduceLeDiff, Nat.reduceEqDiff, Nat.reduceBEq, Int.cast_ofNat_Int, Int.reduceAdd, Int.reduceNeg, Int.reduceSub, Int.reduceToNat, Int.reduceLE, Nat.zero_le, false_implies, implies_true, beq_self_eq_true, Bool.and_true, Bool.and_false, Bool.or_false, Bool.false_or, Bool.or_true, Bool.true_or, Bool.and_self, Bool.or_self, Nat.zero_add, Nat.add_zero, or_false, or_true, true_or, false_or, j_b0, ↓j_b1, j_b2, ↓j_b3, j_01, j_inb, and_self, Classical.not_not, Int32.reduceLE, Int32.reduceLT, Int32.reduceAdd, j_ne, eq_self, not_true_eq_false, not_false_eq_true, forall_const, and_false, false_and, j_sc, j_ent, Nat.reduceSub, List.replicate_zero, List.replicate_succ, e7]
    exact (hQ m hf hz).le ⟨Or.inr rfl, Or.inr rfl, Or.inr rfl, Or.inr rfl, Or.inl rfl, Or.inr rfl, trivial⟩
  | succ k ih =>
    intro i m hi hf hz
    have l7 : nI i < 7 := (nI_lt' (a := i) (b := 7) (by omega) (by omega)).mpr (by omega)
    have l8 : 0 ≤ nI i ∧ nI i < 8 := ⟨nI_ge0 (by omega), (nI_lt' (a := i) (b := 8) (by omega) (by omega)).mpr (by omega)⟩
    refine j_go (fun q => q == 3 || q == 24) 30 ?_
    simp only [qX10_values, j_f10, j_m10, j_ty, tyX10, ↓j_kt, ↓j_sel, ↓j_run_0, ↓j_run_s, ↓j_wp, ↓j_pi, ↓j_pii, ↓j_pl, ↓j_pll, ↓j_pli, ↓j_pr, ↓j_pri, ↓j_prii, ↓j_pvr, ↓j_pop, ↓j_gi, ↓j_gl, ↓j_ga, ↓j_ob, ↓j_ar, ↓j_fd, ↓j_fo, ↓j_mo, ↓j_br, ↓j_to, ↓j_lo, ↓j_scr, ↓j_co, ↓j_no, j_nf, j_rt, j_ld, j_st1, j_st2, j_k1, j_ci, j_fin, j_sh, j_shl, Option.map_some, Option.map_none, Option.toList_some, Option.toList_none, List.cons_append, List.nil_append, List.map_cons, List.map_nil, List.sum_cons, List.sum_nil, Value.category, List.getElem?_cons_zero, List.getElem?_cons_succ, List.length_cons, List.length_nil, true_and, and_true, if_true, if_false, ↓reduceIte, Bool.false_eq_true, Bool.true_eq_false, reduceCtorEq, Nat.reduceAdd, Nat.reduceLT, Nat.reduceLeDiff, Nat.reduceEqDiff, Nat.reduceBEq, Int.cast_ofNat_Int, Int.reduceAdd, Int.reduceNeg, Int.reduceSub, Int.reduceToNat, Int.reduceLE, Nat.zero_le, false_implies, implies_true, beq_self_eq_true, Bool.and_true, Bool.and_false, Bool.or_false, Bool.false_or, Bool.or_true, Bool.true_or, Bool.and_self, Bool.or_self, Nat.zero_add, Nat.add_zero, or_false, or_true, true_or, false_or, j_b0, ↓j_b1, j_b2, ↓j_b3, j_01, j_inb, and_self, Classical.not_not, Int32.reduceLE, Int32.reduceLT, Int32.reduceAdd, j_ne, eq_self, not_true_eq_false, not_false_eq_true, forall_const, and_false, false_and, j_sc, j_ent, Nat.reduceSub, List.replicate_zero, List.replicate_succ, nI_1, nI_cl' (show i < 1000000 by omega)]
    refine ⟨fun z => by grind, fun _ => ⟨l8, ?_⟩⟩
    refine ih (i + 1) _ (by omega) (fun b hb => by rw [j_un _ _ _ hb]; exact hf b hb) (fun w hw => ?_)
    rw [j_us]
    by_cases e : w = i
    · subst e; rw [u_s]
    · rw [u_n _ _ e]; exact hz w (by omega)
set_option maxRecDepth 100000 in
theorem l_X10_val1 {μ : j_M} {p q : Int32} {dn : Nat} {Q : j_Q} (hd : dn ≤ 20000)
    (hQ : ∀ m, (∀ b, b ≠ 76 → m b = μ b) → m 76 0 = nI (cnt (fun k => decide (0 < μ 73 k)) (dn + 1)) → m 76 1 = nI (cnt (fun k => decide (¬ 0 < μ 73 k ∧ ¬ μ 75 k = 0)) (dn + 1)) → m 76 6 = nI (cnt (fun k => decide (1 < μ 73 k)) (dn + 1)) → m 76 7 = y_fs (fun k => decide (0 < μ 73 k)) (dn + 1) → m 76 2 = 0 → m 76 3 = 0 → j_J cX10_values 10 6 none false 2 none Q j_SH 0 0 139 [some (.ref 42), some (.int p), some (.int (nI dn)), some (.int q), none, none] [] m) :
    ∀ (k i : Nat) (m : j_M), i + k = dn + 1 → (∀ b, b ≠ 76 → m b = μ b) → m 76 0 = nI (cnt (fun k => decide (0 < μ 73 k)) i) → m 76 1 = nI (cnt (fun k => decide (¬ 0 < μ 73 k ∧ ¬ μ 75 k = 0)) i) → m 76 6 = nI (cnt (fun k => decide (1 < μ 73 k)) i) → m 76 7 = y_fs (fun k => decide (0 < μ 73 k)) i → m 76 2 = 0 → m 76 3 = 0 → j_J cX10_values 10 6 none false 2 none Q j_SH 0 0 42 [some (.ref 42), some (.int p), some (.int (nI dn)), some (.int q), some (.int (nI i)), none] [] m := by
  intro k
  induction k with
  | zero =>
    intro i m hi hf v0 v1 v6 v7 v2 v3
    have e : i = dn + 1 := by omega
    subst e
    refine j_go (fun q => q == 42 || q == 139) 30 ?_
    simp only [qX10_values, j_f10, j_m10, j_ty, tyX10, ↓j_kt, ↓j_sel, ↓j_run_0, ↓j_run_s, ↓j_wp, ↓j_pi, ↓j_pii, ↓j_pl, ↓j_pll, ↓j_pli, ↓j_pr, ↓j_pri, ↓j_prii, ↓j_pvr, ↓j_pop, ↓j_gi, ↓j_gl, ↓j_ga, ↓j_ob, ↓j_ar, ↓j_fd, ↓j_fo, ↓j_mo, ↓j_br, ↓j_to, ↓j_lo, ↓j_scr, ↓j_co, ↓j_no, j_nf, j_rt, j_ld, j_st1, j_st2, j_k1, j_ci, j_fin, j_sh, j_shl, Option.map_some, Option.map_none, Option.toList_some, Option.toList_none, List.cons_append, List.nil_append, List.map_cons, List.map_nil, List.sum_cons, List.sum_nil, Value.category, List.getElem?_cons_zero, List.getElem?_cons_succ, List.length_cons, List.length_nil, true_and, and_true, if_true, if_false, ↓reduceIte, Bool.false_eq_true, Bool.true_eq_false, reduceCtorEq, Nat.reduceAdd, Nat.reduceLT, Nat.reduceLeDiff, Nat.reduceEqDiff, Nat.reduceBEq, Int.cast_ofNat_Int, Int.reduceAdd, Int.reduceNeg, Int.reduceSub, Int.reduceToNat, Int.reduceLE, Nat.zero_le, false_implies, implies_true, beq_self_eq_true, Bool.and_true, Bool.and_false, Bool.or_false, Bool.false_or, Bool.or_true, Bool.true_or, Bool.and_self, Bool.or_self, Nat.zero_add, Nat.add_zero, or_false, or_true, true_or, false_or, j_b0, ↓j_b1, j_b2, ↓j_b3, j_01, j_inb, and_self, Classical.not_not, Int32.reduceLE, Int32.reduceLT, Int32.reduceAdd, j_ne, eq_self, not_true_eq_false, not_false_eq_true, forall_const, and_false, false_and, j_sc, j_ent, Nat.reduceSub, List.replicate_zero, List.replicate_succ, nI_lt' (show dn < 1000000 by omega) (show dn + 1 < 1000000 by omega), nI_le' (show dn + 1 < 1000000 by omega) (show dn < 1000000 by omega)]
    exact ⟨fun _ => (hQ m hf v0 v1 v6 v7 v2 v3).le ⟨Or.inr rfl, Or.inr rfl, Or.inr rfl, Or.inr rfl, Or.inl rfl, Or.inr rfl, trivial⟩, fun z => by omega⟩
  | succ k ih =>
    intro i m hi hf v0 v1 v6 v7 v2 v3
    have f73 := hf 73 (by decide)
    have f75 := hf 75 (by decide)
    have hin := n_20k (show i < 20001 by omega)
    have nx := ih (i + 1)
    refine j_go (fun q => q == 42 || q == 139) 60 ?_
    simp only [qX10_values, j_f10, j_m10, j_ty, tyX10, ↓j_kt, ↓j_sel, ↓j_run_0, ↓j_run_s, ↓j_wp, ↓j_pi, ↓j_pii, ↓j_pl, ↓j_pll, ↓j_pli, ↓j_pr, ↓j_pri, ↓j_prii, ↓j_pvr, ↓j_pop, ↓j_gi, ↓j_gl, ↓j_ga, ↓j_ob, ↓j_ar, ↓j_fd, ↓j_fo, ↓j_mo, ↓j_br, ↓j_to, ↓j_lo, ↓j_scr, ↓j_co, ↓j_no, j_nf, j_rt, j_ld, j_st1, j_st2, j_k1, j_ci, j_fin, j_sh, j_shl, Option.map_some, Option.map_none, Option.toList_some, Option.toList_none, List.cons_append, List.nil_append, List.map_cons, List.map_nil, List.sum_cons, List.sum_nil, Value.category, List.getElem?_cons_zero, List.getElem?_cons_succ, List.length_cons, List.length_nil, true_and, and_true, if_true, if_false, ↓reduceIte, Bool.false_eq_true, Bool.true_eq_false, reduceCtorEq, Nat.reduceAdd, Nat.reduceLT, Nat.reduceLeDiff, Nat.reduceEqDiff, Nat.reduceBEq, Int.cast_ofNat_Int, Int.reduceAdd, Int.reduceNeg, Int.reduceSub, Int.reduceToNat, Int.reduceLE, Nat.zero_le, false_implies, implies_true, beq_self_eq_true, Bool.and_true, Bool.and_false, Bool.or_false, Bool.false_or, Bool.or_true, Bool.true_or, Bool.and_self, Bool.or_self, Nat.zero_add, Nat.add_zero, or_false, or_true, true_or, false_or, j_b0, ↓j_b1, j_b2, ↓j_b3, j_01, j_inb, and_self, Classical.not_not, Int32.reduceLE, Int32.reduceLT, Int32.reduceAdd, j_ne, eq_self, not_true_eq_false, not_false_eq_true, forall_const, and_false, false_and, j_sc, j_ent, Nat.reduceSub, List.replicate_zero, List.replicate_succ, f73, f75, j_us, u_s, u_n, j_un, ne_eq, c_cl, nI_1, nI_cl' (show i < 1000000 by omega), nI_lt' (show dn < 1000000 by omega) (show i < 1000000 by omega), nI_le' (show i < 1000000 by omega) (show dn < 1000000 by omega)]
    refine ⟨fun z => by omega, fun _ => ⟨hin, fun c1 => ?_, fun c1 => ?_⟩⟩
    · have d1 : ¬ 0 < μ 73 i := by grind
      have d3 : ¬ 1 < μ 73 i := by grind
      refine ⟨hin, fun c2 => ⟨hin, fun _ => ?_, fun c3 => absurd c3 d3⟩, fun c2 => ⟨hin, fun _ => ?_, fun c3 => absurd c3 d3⟩⟩
      all_goals
        (refine nx _ (by omega) (fun b hb => by first | exact hf b hb | (simp only [j_un _ _ _ hb]; exact hf b hb)) ?_ ?_ ?_ ?_ ?_ ?_ <;> simp only [j_us, u_s, u_n, ne_eq, Nat.reduceEqDiff, not_false_eq_true, cnt_s, y_fs_s, decide_eq_true_eq, v0, v1, v2, v3, v6, v7, d1, c2, d3, nI_1, if_true, if_false, not_true_eq_false, true_and, and_true, and_false, false_and, Nat.add_zero])
    · rw [v7]
      refine ⟨fun c2 => ⟨hin, fun c3 => ?_, fun c3 => ?_⟩, fun c2 => ⟨hin, fun c3 => ?_, fun c3 => ?_⟩⟩
      · have d3 : ¬ 1 < μ 73 i := by grind
        (refine nx _ (by omega) (fun b hb => by first | exact hf b hb | (simp only [j_un _ _ _ hb]; exact hf b hb)) ?_ ?_ ?_ ?_ ?_ ?_ <;> simp only [j_us, u_s, u_n, ne_eq, Nat.reduceEqDiff, not_false_eq_true, cnt_s, y_fs_s, decide_eq_true_eq, v0, v1, v2, v3, v6, v7, c1, c2, d3, nI_1, if_true, if_false, not_true_eq_false, true_and, and_true, and_false, false_and, Nat.add_zero])
      · (refine nx _ (by omega) (fun b hb => by first | exact hf b hb | (simp only [j_un _ _ _ hb]; exact hf b hb)) ?_ ?_ ?_ ?_ ?_ ?_ <;> simp only [j_us, u_s, u_n, ne_eq, Nat.reduceEqDiff, not_false_eq_true, cnt_s, y_fs_s, decide_eq_true_eq, v0, v1, v2, v3, v6, v7, c1, c2, c3, nI_1, if_true, if_false, not_true_eq_false, true_and, and_true, and_false, false_and, Nat.add_zero])
      · have d3 : ¬ 1 < μ 73 i := by grind
        (refine nx _ (by omega) (fun b hb => by first | exact hf b hb | (simp only [j_un _ _ _ hb]; exact hf b hb)) ?_ ?_ ?_ ?_ ?_ ?_ <;> simp only [j_us, u_s, u_n, ne_eq, Nat.reduceEqDiff, not_false_eq_true, cnt_s, y_fs_s, decide_eq_true_eq, v0, v1, v2, v3, v6, v7, c1, c2, d3, nI_1, if_true, if_false, not_true_eq_false, true_and, and_true, and_false, false_and, Nat.add_zero])
      · (refine nx _ (by omega) (fun b hb => by first | exact hf b hb | (simp only [j_un _ _ _ hb]; exact hf b hb)) ?_ ?_ ?_ ?_ ?_ ?_ <;> simp only [j_us, u_s, u_n, ne_eq, Nat.reduceEqDiff, not_false_eq_true, cnt_s, y_fs_s, decide_eq_true_eq, v0, v1, v2, v3, v6, v7, c1, c2, c3, nI_1, if_true, if_false, not_true_eq_false, true_and, and_true, and_false, false_and, Nat.add_zero])
set_option maxRecDepth 100000 in
theorem l_X10_val2 {μ : j_M} {p q : Int32} {dn ng : Nat} {Q : j_Q} (hs : μ 42 4 = nI ng) (hn : ng ≤ 100)
    (hQ : ∀ m, (∀ b, b ≠ 76 → m b = μ b) → (∀ w, w ≠ 2 → w ≠ 3 → m 76 w = μ 76 w) → m 76 2 = k_sum (μ 55) (μ 58) (μ 56) p (k_min (nI dn) q) ng → m 76 3 = k_sum (μ 55) (μ 58) (μ 57) p (k_min (nI dn) q) ng → j_J cX10_values 10 6 none false 2 none Q j_SH 0 0 225 [some (.ref 42), some (.int p), some (.int (nI dn)), some (.int q), none, none] [] m) :
    ∀ (k i : Nat) (m : j_M), i + k = ng → (∀ b, b ≠ 76 → m b = μ b) → (∀ w, w ≠ 2 → w ≠ 3 → m 76 w = μ 76 w) → m 76 2 = k_sum (μ 55) (μ 58) (μ 56) p (k_min (nI dn) q) i → m 76 3 = k_sum (μ 55) (μ 58) (μ 57) p (k_min (nI dn) q) i → j_J cX10_values 10 6 none false 2 none Q j_SH 0 0 142 [some (.ref 42), some (.int p), some (.int (nI dn)), some (.int q), some (.int (nI i)), none] [] m := by
  intro k
  induction k with
  | zero =>
    intro i m hi hf hw v2 v3
    have e : i = ng := by omega
    subst e
    have f42 := hf 42 (by decide)
    refine j_go (fun q => q == 142 || q == 225) 30 ?_
    simp only [qX10_values, j_f10, j_m10, j_ty, tyX10, ↓j_kt, ↓j_sel, ↓j_run_0, ↓j_run_s, ↓j_wp, ↓j_pi, ↓j_pii, ↓j_pl, ↓j_pll, ↓j_pli, ↓j_pr, ↓j_pri, ↓j_prii, ↓j_pvr, ↓j_pop, ↓j_gi, ↓j_gl, ↓j_ga, ↓j_ob, ↓j_ar, ↓j_fd, ↓j_fo, ↓j_mo, ↓j_br, ↓j_to, ↓j_lo, ↓j_scr, ↓j_co, ↓j_no, j_nf, j_rt, j_ld, j_st1, j_st2, j_k1, j_ci, j_fin, j_sh, j_shl, Option.map_some, Option.map_none, Option.toList_some, Option.toList_none, List.cons_append, List.nil_append, List.map_cons, List.map_nil, List.sum_cons, List.sum_nil, Value.category, List.getElem?_cons_zero, List.getElem?_cons_succ, List.length_cons, List.length_nil, true_and, and_true, if_true, if_false, ↓reduceIte, Bool.false_eq_true, Bool.true_eq_false, reduceCtorEq, Nat.reduceAdd, Nat.reduceLT, Nat.reduceLeDiff, Nat.reduceEqDiff, Nat.reduceBEq, Int.cast_ofNat_Int, Int.reduceAdd, Int.reduceNeg, Int.reduceSub, Int.reduceToNat, Int.reduceLE, Nat.zero_le, false_implies, implies_true, beq_self_eq_true, Bool.and_true, Bool.and_false, Bool.or_false, Bool.false_or, Bool.or_true, Bool.true_or, Bool.and_self, Bool.or_self, Nat.zero_add, Nat.add_zero, or_false, or_true, true_or, false_or, j_b0, ↓j_b1, j_b2, ↓j_b3, j_01, j_inb, and_self, Classical.not_not, Int32.reduceLE, Int32.reduceLT, Int32.reduceAdd, j_ne, eq_self, not_true_eq_false, not_false_eq_true, forall_const, and_false, false_and, j_sc, j_ent, Nat.reduceSub, List.replicate_zero, List.replicate_succ, f42, hs]
    exact ⟨fun _ => (hQ m hf hw v2 v3).le ⟨Or.inr rfl, Or.inr rfl, Or.inr rfl, Or.inr rfl, Or.inl rfl, Or.inr rfl, trivial⟩, fun z => by grind⟩
  | succ k ih =>
    intro i m hi hf hw v2 v3
    have f42 := hf 42 (by decide)
    have f55 := hf 55 (by decide)
    have f56 := hf 56 (by decide)
    have f57 := hf 57 (by decide)
    have f58 := hf 58 (by decide)
    have hin := n_100 (show i < 100 by omega)
    have nx := ih (i + 1)
    have hmin : μ 58 i ≤ k_min (nI dn) q ↔ μ 58 i ≤ nI dn ∧ μ 58 i ≤ q := by
      unfold k_min
      split <;> constructor <;> intro z <;> grind
    have k_sum_s : ∀ r : Nat → Int32, k_sum (μ 55) (μ 58) r p (k_min (nI dn) q) (i + 1) = if μ 55 i = p ∧ μ 58 i ≤ nI dn ∧ μ 58 i ≤ q then k_sum (μ 55) (μ 58) r p (k_min (nI dn) q) i + r i else k_sum (μ 55) (μ 58) r p (k_min (nI dn) q) i := by
      intro r
      show (if μ 55 i = p ∧ μ 58 i ≤ k_min (nI dn) q then _ else _) = _
      simp only [hmin]
    rw [k_sum_s, k_sum_s] at nx
    refine j_go (fun q => q == 142 || q == 225) 60 ?_
    simp only [qX10_values, j_f10, j_m10, j_ty, tyX10, ↓j_kt, ↓j_sel, ↓j_run_0, ↓j_run_s, ↓j_wp, ↓j_pi, ↓j_pii, ↓j_pl, ↓j_pll, ↓j_pli, ↓j_pr, ↓j_pri, ↓j_prii, ↓j_pvr, ↓j_pop, ↓j_gi, ↓j_gl, ↓j_ga, ↓j_ob, ↓j_ar, ↓j_fd, ↓j_fo, ↓j_mo, ↓j_br, ↓j_to, ↓j_lo, ↓j_scr, ↓j_co, ↓j_no, j_nf, j_rt, j_ld, j_st1, j_st2, j_k1, j_ci, j_fin, j_sh, j_shl, Option.map_some, Option.map_none, Option.toList_some, Option.toList_none, List.cons_append, List.nil_append, List.map_cons, List.map_nil, List.sum_cons, List.sum_nil, Value.category, List.getElem?_cons_zero, List.getElem?_cons_succ, List.length_cons, List.length_nil, true_and, and_true, if_true, if_false, ↓reduceIte, Bool.false_eq_true, Bool.true_eq_false, reduceCtorEq, Nat.reduceAdd, Nat.reduceLT, Nat.reduceLeDiff, Nat.reduceEqDiff, Nat.reduceBEq, Int.cast_ofNat_Int, Int.reduceAdd, Int.reduceNeg, Int.reduceSub, Int.reduceToNat, Int.reduceLE, Nat.zero_le, false_implies, implies_true, beq_self_eq_true, Bool.and_true, Bool.and_false, Bool.or_false, Bool.false_or, Bool.or_true, Bool.true_or, Bool.and_self, Bool.or_self, Nat.zero_add, Nat.add_zero, or_false, or_true, true_or, false_or, j_b0, ↓j_b1, j_b2, ↓j_b3, j_01, j_inb, and_self, Classical.not_not, Int32.reduceLE, Int32.reduceLT, Int32.reduceAdd, j_ne, eq_self, not_true_eq_false, not_false_eq_true, forall_const, and_false, false_and, j_sc, j_ent, Nat.reduceSub, List.replicate_zero, List.replicate_succ, f42, hs, f55, f56, f57, f58, j_us, u_s, u_n, j_un, ne_eq, c_cl, nI_1, nI_cl' (show i < 1000000 by omega), nI_lt' (show i < 1000000 by omega) (show ng < 1000000 by omega), nI_le' (show ng < 1000000 by omega) (show i < 1000000 by omega)]
    have skip : ¬ (μ 55 i = p ∧ μ 58 i ≤ nI dn ∧ μ 58 i ≤ q) → j_J cX10_values 10 6 none false 2 none Q j_SH 0 0 142 [some (.ref 42), some (.int p), some (.int (nI dn)), some (.int q), some (.int (nI (i + 1))), none] [] m := by
      intro z
      rw [if_neg z, if_neg z] at nx
      exact nx m (by omega) hf hw v2 v3
    refine ⟨fun z => by omega, fun _ => ⟨hin, fun c1 => skip (fun z => c1 z.1), fun c1 => ⟨hin, fun c2 => skip (fun z => by grind), fun c2 => ⟨hin, fun c3 => ⟨hin, hin, ?_⟩, fun c3 => skip (fun z => by grind)⟩⟩⟩⟩
    rw [if_pos ⟨c1, c2, c3⟩, if_pos ⟨c1, c2, c3⟩] at nx
    refine nx _ (by omega) (fun b hb => by simp only [j_un _ _ _ hb]; exact hf b hb) (fun w h2 h3 => ?_) ?_ ?_
    · rw [j_us, u_n _ _ h3, j_us, u_n _ _ h2]
      exact hw w h2 h3
    · rw [j_us, u_n _ _ (by decide), j_us, u_s, v2]
    · rw [j_us, u_s, v3]
set_option maxRecDepth 100000 in
theorem l_X10_val3 {μ : j_M} {p q : Int32} {dn nq : Nat} {Q : j_Q} (hs : μ 42 6 = nI nq) (hn : nq ≤ 40) (hQ : j_J cX10_values 10 6 none false 2 none Q j_SH 0 0 308 [some (.ref 42), some (.int p), some (.int (nI dn)), some (.int q), some (.int (y_lt (μ 64) (μ 65) (μ 67) p (nI dn) q nq)), none] [] μ) :
    ∀ (k i : Nat), i + k = nq → j_J cX10_values 10 6 none false 2 none Q j_SH 0 0 231 [some (.ref 42), some (.int p), some (.int (nI dn)), some (.int q), some (.int (y_lt (μ 64) (μ 65) (μ 67) p (nI dn) q i)), some (.int (nI i))] [] μ := by
  intro k
  induction k with
  | zero =>
    intro i hi
    have e : i = nq := by omega
    subst e
    refine j_go (fun q => q == 231 || q == 308) 30 ?_
    simp only [qX10_values, j_f10, j_m10, j_ty, tyX10, ↓j_kt, ↓j_sel, ↓j_run_0, ↓j_run_s, ↓j_wp, ↓j_pi, ↓j_pii, ↓j_pl, ↓j_pll, ↓j_pli, ↓j_pr, ↓j_pri, ↓j_prii, ↓j_pvr, ↓j_pop, ↓j_gi, ↓j_gl, ↓j_ga, ↓j_ob, ↓j_ar, ↓j_fd, ↓j_fo, ↓j_mo, ↓j_br, ↓j_to, ↓j_lo, ↓j_scr, ↓j_co, ↓j_no, j_nf, j_rt, j_ld, j_st1, j_st2, j_k1, j_ci, j_fin, j_sh, j_shl, Option.map_some, Option.map_none, Option.toList_some, Option.toList_none, List.cons_append, List.nil_append, List.map_cons, List.map_nil, List.sum_cons, List.sum_nil, Value.category, List.getElem?_cons_zero, List.getElem?_cons_succ, List.length_cons, List.length_nil, true_and, and_true, if_true, if_false, ↓reduceIte, Bool.false_eq_true, Bool.true_eq_false, reduceCtorEq, Nat.reduceAdd, Nat.reduceLT, Nat.reduceLeDiff, Nat.reduceEqDiff, Nat.reduceBEq, Int.cast_ofNat_Int, Int.reduceAdd, Int.reduceNeg, Int.reduceSub, Int.reduceToNat, Int.reduceLE, Nat.zero_le, false_implies, implies_true, beq_self_eq_true, Bool.and_true, Bool.and_false, Bool.or_false, Bool.false_or, Bool.or_true, Bool.true_or, Bool.and_self, Bool.or_self, Nat.zero_add, Nat.add_zero, or_false, or_true, true_or, false_or, j_b0, ↓j_b1, j_b2, ↓j_b3, j_01, j_inb, and_self, Classical.not_not, Int32.reduceLE, Int32.reduceLT, Int32.reduceAdd, j_ne, eq_self, not_true_eq_false, not_false_eq_true, forall_const, and_false, false_and, j_sc, j_ent, Nat.reduceSub, List.replicate_zero, List.replicate_succ, hs]
    exact ⟨fun _ => hQ.le ⟨Or.inr rfl, Or.inr rfl, Or.inr rfl, Or.inr rfl, Or.inr rfl, Or.inl rfl, trivial⟩, fun z => by grind⟩
  | succ k ih =>
    intro i hi
    have hin := n40 (show i < 40 by omega)
    have nx := ih (i + 1) (by omega)
    unfold y_lt at nx
    have skip : ¬ (μ 64 i = p ∧ ¬ μ 65 i = -1 ∧ μ 67 i = -1 ∧ μ 65 i ≤ nI dn ∧ μ 65 i ≤ q) → j_J cX10_values 10 6 none false 2 none Q j_SH 0 0 231 [some (.ref 42), some (.int p), some (.int (nI dn)), some (.int q), some (.int (y_lt (μ 64) (μ 65) (μ 67) p (nI dn) q i)), some (.int (nI (i + 1)))] [] μ := by
      intro z
      rw [if_neg z] at nx
      exact nx
    refine j_go (fun q => q == 231 || q == 308) 60 ?_
    simp only [qX10_values, j_f10, j_m10, j_ty, tyX10, ↓j_kt, ↓j_sel, ↓j_run_0, ↓j_run_s, ↓j_wp, ↓j_pi, ↓j_pii, ↓j_pl, ↓j_pll, ↓j_pli, ↓j_pr, ↓j_pri, ↓j_prii, ↓j_pvr, ↓j_pop, ↓j_gi, ↓j_gl, ↓j_ga, ↓j_ob, ↓j_ar, ↓j_fd, ↓j_fo, ↓j_mo, ↓j_br, ↓j_to, ↓j_lo, ↓j_scr, ↓j_co, ↓j_no, j_nf, j_rt, j_ld, j_st1, j_st2, j_k1, j_ci, j_fin, j_sh, j_shl, Option.map_some, Option.map_none, Option.toList_some, Option.toList_none, List.cons_append, List.nil_append, List.map_cons, List.map_nil, List.sum_cons, List.sum_nil, Value.category, List.getElem?_cons_zero, List.getElem?_cons_succ, List.length_cons, List.length_nil, true_and, and_true, if_true, if_false, ↓reduceIte, Bool.false_eq_true, Bool.true_eq_false, reduceCtorEq, Nat.reduceAdd, Nat.reduceLT, Nat.reduceLeDiff, Nat.reduceEqDiff, Nat.reduceBEq, Int.cast_ofNat_Int, Int.reduceAdd, Int.reduceNeg, Int.reduceSub, Int.reduceToNat, Int.reduceLE, Nat.zero_le, false_implies, implies_true, beq_self_eq_true, Bool.and_true, Bool.and_false, Bool.or_false, Bool.false_or, Bool.or_true, Bool.true_or, Bool.and_self, Bool.or_self, Nat.zero_add, Nat.add_zero, or_false, or_true, true_or, false_or, j_b0, ↓j_b1, j_b2, ↓j_b3, j_01, j_inb, and_self, Classical.not_not, Int32.reduceLE, Int32.reduceLT, Int32.reduceAdd, j_ne, eq_self, not_true_eq_false, not_false_eq_true, forall_const, and_false, false_and, j_sc, j_ent, Nat.reduceSub, List.replicate_zero, List.replicate_succ, hs, nI_1, nI_cl' (show i < 1000000 by omega), nI_lt' (show i < 1000000 by omega) (show nq < 1000000 by omega), nI_le' (show nq < 1000000 by omega) (show i < 1000000 by omega)]
    refine ⟨fun z => by omega, fun _ => ⟨hin, fun c1 => skip (fun z => c1 z.1), fun c1 => ⟨hin, fun c2 => skip (fun z => z.2.1 c2), fun c2 => ⟨hin, fun c3 => skip (fun z => c3 z.2.2.1), fun c3 => ⟨hin, fun c4 => skip (fun z => by grind), fun c4 => ⟨hin, fun c5 => ?_, fun c5 => skip (fun z => by grind)⟩⟩⟩⟩⟩⟩
    rw [if_pos ⟨c1, c2, c3, c4, c5⟩] at nx
    exact nx
set_option maxRecDepth 100000 in
theorem f_X10_values (μ : j_M) (p q : Int32) {dn nt ng nq : Nat} (hd : dn ≤ 20000) (hs : μ 42 3 = nI nt) (hn : nt ≤ 100) (hs2 : μ 42 4 = nI ng) (hn2 : ng ≤ 100) (hs3 : μ 42 6 = nI nq) (hn3 : nq ≤ 40) (hT : ∀ t, t < nt → ∃ F E : Nat, μ 51 t = nI F ∧ μ 52 t = nI E ∧ F ≤ E ∧ E ≤ 20000) (hp0 : 0 ≤ p) (hp1 : p < 30) (ha : μ 43 p.toNatClampNeg = -1 ∨ (0 ≤ μ 43 p.toNatClampNeg ∧ μ 43 p.toNatClampNeg < 30)) (hb : μ 44 p.toNatClampNeg = -1 ∨ (0 ≤ μ 44 p.toNatClampNeg ∧ μ 44 p.toNatClampNeg < 30)) :
    j_R 2 yX10_values [.ref 42, .int p, .int (nI dn), .int q] μ (fun r m => r = none ∧ (∀ b, b ≠ 73 → b ≠ 74 → b ≠ 75 → b ≠ 76 → m b = μ b) ∧ ∀ w, w < 8 → m 76 w = y_v μ nt ng nq dn p q w) := by
  refine eX10_values (Nat.le_of_ble_eq_true rfl) (j_go (fun q => q == 3) 30 ?_)
  simp only [qX10_values, j_f10, j_m10, j_ty, tyX10, ↓j_kt, ↓j_sel, ↓j_run_0, ↓j_run_s, ↓j_wp, ↓j_pi, ↓j_pii, ↓j_pl, ↓j_pll, ↓j_pli, ↓j_pr, ↓j_pri, ↓j_prii, ↓j_pvr, ↓j_pop, ↓j_gi, ↓j_gl, ↓j_ga, ↓j_ob, ↓j_ar, ↓j_fd, ↓j_fo, ↓j_mo, ↓j_br, ↓j_to, ↓j_lo, ↓j_scr, ↓j_co, ↓j_no, j_nf, j_rt, j_ld, j_st1, j_st2, j_k1, j_ci, j_fin, j_sh, j_shl, Option.map_some, Option.map_none, Option.toList_some, Option.toList_none, List.cons_append, List.nil_append, List.map_cons, List.map_nil, List.sum_cons, List.sum_nil, Value.category, List.getElem?_cons_zero, List.getElem?_cons_succ, List.length_cons, List.length_nil, true_and, and_true, if_true, if_false, ↓reduceIte, Bool.false_eq_true, Bool.true_eq_false, reduceCtorEq, Nat.reduceAdd, Nat.reduceLT, Nat.reduceLeDiff, Nat.reduceEqDiff, Nat.reduceBEq, Int.cast_ofNat_Int, Int.reduceAdd, Int.reduceNeg, Int.reduceSub, Int.reduceToNat, Int.reduceLE, Nat.zero_le, false_implies, implies_true, beq_self_eq_true, Bool.and_true, Bool.and_false, Bool.or_false, Bool.false_or, Bool.or_true, Bool.true_or, Bool.and_self, Bool.or_self, Nat.zero_add, Nat.add_zero, or_false, or_true, true_or, false_or, j_b0, ↓j_b1, j_b2, ↓j_b3, j_01, j_inb, and_self, Classical.not_not, Int32.reduceLE, Int32.reduceLT, Int32.reduceAdd, j_ne, eq_self, not_true_eq_false, not_false_eq_true, forall_const, and_false, false_and, j_sc, j_ent, Nat.reduceSub, List.replicate_zero, List.replicate_succ]
  refine l_X10_val0 (fun m0 f0 z0 => ?_) 7 0 μ (by omega) (fun _ _ => rfl) (fun w hw => by omega)
  refine j_go (fun q => q == 42) 30 ?_
  simp only [qX10_values, j_f10, j_m10, j_ty, tyX10, ↓j_kt, ↓j_sel, ↓j_run_0, ↓j_run_s, ↓j_wp, ↓j_pi, ↓j_pii, ↓j_pl, ↓j_pll, ↓j_pli, ↓j_pr, ↓j_pri, ↓j_prii, ↓j_pvr, ↓j_pop, ↓j_gi, ↓j_gl, ↓j_ga, ↓j_ob, ↓j_ar, ↓j_fd, ↓j_fo, ↓j_mo, ↓j_br, ↓j_to, ↓j_lo, ↓j_scr, ↓j_co, ↓j_no, j_nf, j_rt, j_ld, j_st1, j_st2, j_k1, j_ci, j_fin, j_sh, j_shl, Option.map_some, Option.map_none, Option.toList_some, Option.toList_none, List.cons_append, List.nil_append, List.map_cons, List.map_nil, List.sum_cons, List.sum_nil, Value.category, List.getElem?_cons_zero, List.getElem?_cons_succ, List.length_cons, List.length_nil, true_and, and_true, if_true, if_false, ↓reduceIte, Bool.false_eq_true, Bool.true_eq_false, reduceCtorEq, Nat.reduceAdd, Nat.reduceLT, Nat.reduceLeDiff, Nat.reduceEqDiff, Nat.reduceBEq, Int.cast_ofNat_Int, Int.reduceAdd, Int.reduceNeg, Int.reduceSub, Int.reduceToNat, Int.reduceLE, Nat.zero_le, false_implies, implies_true, beq_self_eq_true, Bool.and_true, Bool.and_false, Bool.or_false, Bool.false_or, Bool.or_true, Bool.true_or, Bool.and_self, Bool.or_self, Nat.zero_add, Nat.add_zero, or_false, or_true, true_or, false_or, j_b0, ↓j_b1, j_b2, ↓j_b3, j_01, j_inb, and_self, Classical.not_not, Int32.reduceLE, Int32.reduceLT, Int32.reduceAdd, j_ne, eq_self, not_true_eq_false, not_false_eq_true, forall_const, and_false, false_and, j_sc, j_ent, Nat.reduceSub, List.replicate_zero, List.replicate_succ, c_cl]
  have e : ∀ b, b ≠ 76 → j_up m0 76 7 (-1) b = μ b := fun b hb => by rw [j_un _ _ _ hb]; exact f0 b hb
  have hm := f_X10_mark (j_up m0 76 7 (-1)) p q hd (nt := nt) (by rw [e 42 (by decide)]; exact hs) hn (by rw [e 51 (by decide), e 52 (by decide)]; exact hT)
  rw [e 49 (by decide), e 50 (by decide), e 51 (by decide), e 52 (by decide), e 53 (by decide), e 54 (by decide)] at hm
  refine j_use hm (by decide) (fun r m1 hq => ?_)
  obtain ⟨rfl, f1, h1⟩ := hq
  simp only [qX10_values, j_f10, j_m10, j_ty, tyX10, ↓j_kt, ↓j_sel, ↓j_run_0, ↓j_run_s, ↓j_wp, ↓j_pi, ↓j_pii, ↓j_pl, ↓j_pll, ↓j_pli, ↓j_pr, ↓j_pri, ↓j_prii, ↓j_pvr, ↓j_pop, ↓j_gi, ↓j_gl, ↓j_ga, ↓j_ob, ↓j_ar, ↓j_fd, ↓j_fo, ↓j_mo, ↓j_br, ↓j_to, ↓j_lo, ↓j_scr, ↓j_co, ↓j_no, j_nf, j_rt, j_ld, j_st1, j_st2, j_k1, j_ci, j_fin, j_sh, j_shl, Option.map_some, Option.map_none, Option.toList_some, Option.toList_none, List.cons_append, List.nil_append, List.map_cons, List.map_nil, List.sum_cons, List.sum_nil, Value.category, List.getElem?_cons_zero, List.getElem?_cons_succ, List.length_cons, List.length_nil, true_and, and_true, if_true, if_false, ↓reduceIte, Bool.false_eq_true, Bool.true_eq_false, reduceCtorEq, Nat.reduceAdd, Nat.reduceLT, Nat.reduceLeDiff, Nat.reduceEqDiff, Nat.reduceBEq, Int.cast_ofNat_Int, Int.reduceAdd, Int.reduceNeg, Int.reduceSub, Int.reduceToNat, Int.reduceLE, Nat.zero_le, false_implies, implies_true, beq_self_eq_true, Bool.and_true, Bool.and_false, Bool.or_false, Bool.false_or, Bool.or_true, Bool.true_or, Bool.and_self, Bool.or_self, Nat.zero_add, Nat.add_zero, or_false, or_true, true_or, false_or, j_b0, ↓j_b1, j_b2, ↓j_b3, j_01, j_inb, and_self, Classical.not_not, Int32.reduceLE, Int32.reduceLT, Int32.reduceAdd, j_ne, eq_self, not_true_eq_false, not_false_eq_true, forall_const, and_false, false_and, j_sc, j_ent, Nat.reduceSub, List.replicate_zero, List.replicate_succ]
  have m76 : m1 76 = upd (m0 76) 7 (-1) := by rw [f1 76 (by decide) (by decide) (by decide), j_us]
  have z1 : ∀ w, w < 7 → m1 76 w = 0 := fun w hw => by rw [m76, u_n _ _ (by omega)]; exact z0 w hw
  have o1 : ∀ b, b ≠ 73 → b ≠ 74 → b ≠ 75 → b ≠ 76 → m1 b = μ b := fun b a1 a2 a3 a4 => by rw [f1 b a1 a2 a3]; exact e b a4
  refine l_X10_val1 hd (fun m2 f2 a0 a1 a6 a7 a2 a3 => ?_) (dn + 1) 0 m1 (by omega) (fun _ _ => rfl) (z1 0 (by omega)) (z1 1 (by omega)) (z1 6 (by omega)) (by rw [m76, u_s]; rfl) (z1 2 (by omega)) (z1 3 (by omega))
  have o2 : ∀ b, b ≠ 73 → b ≠ 74 → b ≠ 75 → b ≠ 76 → m2 b = μ b := fun b a1 a2 a3 a4 => by rw [f2 b a4]; exact o1 b a1 a2 a3 a4
  refine j_go (fun q => q == 142) 30 ?_
  simp only [qX10_values, j_f10, j_m10, j_ty, tyX10, ↓j_kt, ↓j_sel, ↓j_run_0, ↓j_run_s, ↓j_wp, ↓j_pi, ↓j_pii, ↓j_pl, ↓j_pll, ↓j_pli, ↓j_pr, ↓j_pri, ↓j_prii, ↓j_pvr, ↓j_pop, ↓j_gi, ↓j_gl, ↓j_ga, ↓j_ob, ↓j_ar, ↓j_fd, ↓j_fo, ↓j_mo, ↓j_br, ↓j_to, ↓j_lo, ↓j_scr, ↓j_co, ↓j_no, j_nf, j_rt, j_ld, j_st1, j_st2, j_k1, j_ci, j_fin, j_sh, j_shl, Option.map_some, Option.map_none, Option.toList_some, Option.toList_none, List.cons_append, List.nil_append, List.map_cons, List.map_nil, List.sum_cons, List.sum_nil, Value.category, List.getElem?_cons_zero, List.getElem?_cons_succ, List.length_cons, List.length_nil, true_and, and_true, if_true, if_false, ↓reduceIte, Bool.false_eq_true, Bool.true_eq_false, reduceCtorEq, Nat.reduceAdd, Nat.reduceLT, Nat.reduceLeDiff, Nat.reduceEqDiff, Nat.reduceBEq, Int.cast_ofNat_Int, Int.reduceAdd, Int.reduceNeg, Int.reduceSub, Int.reduceToNat, Int.reduceLE, Nat.zero_le, false_implies, implies_true, beq_self_eq_true, Bool.and_true, Bool.and_false, Bool.or_false, Bool.false_or, Bool.or_true, Bool.true_or, Bool.and_self, Bool.or_self, Nat.zero_add, Nat.add_zero, or_false, or_true, true_or, false_or, j_b0, ↓j_b1, j_b2, ↓j_b3, j_01, j_inb, and_self, Classical.not_not, Int32.reduceLE, Int32.reduceLT, Int32.reduceAdd, j_ne, eq_self, not_true_eq_false, not_false_eq_true, forall_const, and_false, false_and, j_sc, j_ent, Nat.reduceSub, List.replicate_zero, List.replicate_succ]
  have g42 := o2 42 (by decide) (by decide) (by decide) (by decide)
  refine l_X10_val2 (by rw [g42]; exact hs2) hn2 (fun m3 f3 w3 b2 b3 => ?_) ng 0 m2 (by omega) (fun _ _ => rfl) (fun _ _ _ => rfl) a2 a3
  rw [o2 55 (by decide) (by decide) (by decide) (by decide), o2 56 (by decide) (by decide) (by decide) (by decide), o2 58 (by decide) (by decide) (by decide) (by decide)] at b2
  rw [o2 55 (by decide) (by decide) (by decide) (by decide), o2 57 (by decide) (by decide) (by decide) (by decide), o2 58 (by decide) (by decide) (by decide) (by decide)] at b3
  have o3 : ∀ b, b ≠ 73 → b ≠ 74 → b ≠ 75 → b ≠ 76 → m3 b = μ b := fun b a1 a2 a3 a4 => by rw [f3 b a4]; exact o2 b a1 a2 a3 a4
  refine j_go (fun q => q == 231) 30 ?_
  simp only [qX10_values, j_f10, j_m10, j_ty, tyX10, ↓j_kt, ↓j_sel, ↓j_run_0, ↓j_run_s, ↓j_wp, ↓j_pi, ↓j_pii, ↓j_pl, ↓j_pll, ↓j_pli, ↓j_pr, ↓j_pri, ↓j_prii, ↓j_pvr, ↓j_pop, ↓j_gi, ↓j_gl, ↓j_ga, ↓j_ob, ↓j_ar, ↓j_fd, ↓j_fo, ↓j_mo, ↓j_br, ↓j_to, ↓j_lo, ↓j_scr, ↓j_co, ↓j_no, j_nf, j_rt, j_ld, j_st1, j_st2, j_k1, j_ci, j_fin, j_sh, j_shl, Option.map_some, Option.map_none, Option.toList_some, Option.toList_none, List.cons_append, List.nil_append, List.map_cons, List.map_nil, List.sum_cons, List.sum_nil, Value.category, List.getElem?_cons_zero, List.getElem?_cons_succ, List.length_cons, List.length_nil, true_and, and_true, if_true, if_false, ↓reduceIte, Bool.false_eq_true, Bool.true_eq_false, reduceCtorEq, Nat.reduceAdd, Nat.reduceLT, Nat.reduceLeDiff, Nat.reduceEqDiff, Nat.reduceBEq, Int.cast_ofNat_Int, Int.reduceAdd, Int.reduceNeg, Int.reduceSub, Int.reduceToNat, Int.reduceLE, Nat.zero_le, false_implies, implies_true, beq_self_eq_true, Bool.and_true, Bool.and_false, Bool.or_false, Bool.false_or, Bool.or_true, Bool.true_or, Bool.and_self, Bool.or_self, Nat.zero_add, Nat.add_zero, or_false, or_true, true_or, false_or, j_b0, ↓j_b1, j_b2, ↓j_b3, j_01, j_inb, and_self, Classical.not_not, Int32.reduceLE, Int32.reduceLT, Int32.reduceAdd, j_ne, eq_self, not_true_eq_false, not_false_eq_true, forall_const, and_false, false_and, j_sc, j_ent, Nat.reduceSub, List.replicate_zero, List.replicate_succ]
  refine l_X10_val3 (by rw [o3 42 (by decide) (by decide) (by decide) (by decide)]; exact hs3) hn3 ?_ nq 0 (by omega)
  rw [o3 64 (by decide) (by decide) (by decide) (by decide), o3 65 (by decide) (by decide) (by decide) (by decide), o3 67 (by decide) (by decide) (by decide) (by decide)]
  have hlt := y_lt_in (μ 64) (μ 65) (μ 67) p (nI dn) q nq (by omega)
  have q66 := o3 66 (by decide) (by decide) (by decide) (by decide)
  have q43 := o3 43 (by decide) (by decide) (by decide) (by decide)
  have q44 := o3 44 (by decide) (by decide) (by decide) (by decide)
  have q45 := o3 45 (by decide) (by decide) (by decide) (by decide)
  have c0 : m3 76 0 = y_v μ nt ng nq dn p q 0 := by
    rw [w3 0 (by decide) (by decide), a0]
    unfold y_v
    rw [if_pos rfl]
    congr 1
    exact cnt_ext _ (fun j hj => by rw [(h1 j (by omega)).1])
  have c1 : m3 76 1 = y_v μ nt ng nq dn p q 1 := by
    rw [w3 1 (by decide) (by decide), a1]
    unfold y_v
    rw [if_neg (by decide), if_pos rfl]
    congr 1
    exact cnt_ext _ (fun j hj => by rw [(h1 j (by omega)).1, (h1 j (by omega)).2])
  have c6 : m3 76 6 = y_v μ nt ng nq dn p q 6 := by
    rw [w3 6 (by decide) (by decide), a6]
    unfold y_v
    rw [if_neg (by decide), if_neg (by decide), if_neg (by decide), if_neg (by decide), if_neg (by decide), if_neg (by decide), if_pos rfl]
    congr 1
    exact cnt_ext _ (fun j hj => by rw [(h1 j (by omega)).1])
  have c7 : m3 76 7 = y_v μ nt ng nq dn p q 7 := by
    rw [w3 7 (by decide) (by decide), a7]
    unfold y_v
    rw [if_neg (by decide), if_neg (by decide), if_neg (by decide), if_neg (by decide), if_neg (by decide), if_neg (by decide), if_neg (by decide)]
    exact y_fs_ext _ (fun j hj => by rw [(h1 j (by omega)).1])
  have c2 : m3 76 2 = y_v μ nt ng nq dn p q 2 := by
    rw [b2]
    rfl
  have c3 : m3 76 3 = y_v μ nt ng nq dn p q 3 := by
    rw [b3]
    rfl
  have fin : ∀ v4 v5, v4 = y_v μ nt ng nq dn p q 4 → v5 = y_v μ nt ng nq dn p q 5 → (∀ b, b ≠ 73 → b ≠ 74 → b ≠ 75 → b ≠ 76 → j_up (j_up m3 76 4 v4) 76 5 v5 b = μ b) ∧ ∀ w, w < 8 → j_up (j_up m3 76 4 v4) 76 5 v5 76 w = y_v μ nt ng nq dn p q w := by
    intro v4 v5 e4 e5
    refine ⟨fun b a1 a2 a3 a4 => by rw [j_un _ _ _ a4, j_un _ _ _ a4]; exact o3 b a1 a2 a3 a4, fun w hw => ?_⟩
    rw [j_us, j_us]
    match w, hw with
    | 0, _ => rw [u_n _ _ (by decide), u_n _ _ (by decide)]; exact c0
    | 1, _ => rw [u_n _ _ (by decide), u_n _ _ (by decide)]; exact c1
    | 2, _ => rw [u_n _ _ (by decide), u_n _ _ (by decide)]; exact c2
    | 3, _ => rw [u_n _ _ (by decide), u_n _ _ (by decide)]; exact c3
    | 4, _ => rw [u_n _ _ (by decide), u_s]; exact e4
    | 5, _ => rw [u_s]; exact e5
    | 6, _ => rw [u_n _ _ (by decide), u_n _ _ (by decide)]; exact c6
    | 7, _ => rw [u_n _ _ (by decide), u_n _ _ (by decide)]; exact c7
  have v4e : y_v μ nt ng nq dn p q 4 = if y_lt (μ 64) (μ 65) (μ 67) p (nI dn) q nq = -1 then 0 else μ 66 (y_lt (μ 64) (μ 65) (μ 67) p (nI dn) q nq).toNatClampNeg := rfl
  have v5e : y_v μ nt ng nq dn p q 5 = if y_wm μ (μ 43 p.toNatClampNeg) (nI dn) q ∨ y_wm μ (μ 44 p.toNatClampNeg) (nI dn) q then 1 else 0 := rfl
  generalize y_lt (μ 64) (μ 65) (μ 67) p (nI dn) q nq = lt at hlt v4e ⊢
  refine j_go (fun q => q == 331) 30 ?_
  have tail : ∀ v4, v4 = y_v μ nt ng nq dn p q 4 → j_J cX10_values 10 6 none false 2 none (fun r sh m => sh = j_SH ∧ r = none ∧ (∀ b, b ≠ 73 → b ≠ 74 → b ≠ 75 → b ≠ 76 → m b = μ b) ∧ ∀ w, w < 8 → m 76 w = y_v μ nt ng nq dn p q w) j_SH 0 0 331 [some (.ref 42), some (.int p), some (.int (nI dn)), some (.int q), some (.int lt), none] [] (j_up m3 76 4 v4) := by
    intro v4 e4
    refine j_go (fun q => false) 60 ?_
    simp only [qX10_values, j_f10, j_m10, j_ty, tyX10, ↓j_kt, ↓j_sel, ↓j_run_0, ↓j_run_s, ↓j_wp, ↓j_pi, ↓j_pii, ↓j_pl, ↓j_pll, ↓j_pli, ↓j_pr, ↓j_pri, ↓j_prii, ↓j_pvr, ↓j_pop, ↓j_gi, ↓j_gl, ↓j_ga, ↓j_ob, ↓j_ar, ↓j_fd, ↓j_fo, ↓j_mo, ↓j_br, ↓j_to, ↓j_lo, ↓j_scr, ↓j_co, ↓j_no, j_nf, j_rt, j_ld, j_st1, j_st2, j_k1, j_ci, j_fin, j_sh, j_shl, Option.map_some, Option.map_none, Option.toList_some, Option.toList_none, List.cons_append, List.nil_append, List.map_cons, List.map_nil, List.sum_cons, List.sum_nil, Value.category, List.getElem?_cons_zero, List.getElem?_cons_succ, List.length_cons, List.length_nil, true_and, and_true, if_true, if_false, ↓reduceIte, Bool.false_eq_true, Bool.true_eq_false, reduceCtorEq, Nat.reduceAdd, Nat.reduceLT, Nat.reduceLeDiff, Nat.reduceEqDiff, Nat.reduceBEq, Int.cast_ofNat_Int, Int.reduceAdd, Int.reduceNeg, Int.reduceSub, Int.reduceToNat, Int.reduceLE, Nat.zero_le, false_implies, implies_true, beq_self_eq_true, Bool.and_true, Bool.and_false, Bool.or_false, Bool.false_or, Bool.or_true, Bool.true_or, Bool.and_self, Bool.or_self, Nat.zero_add, Nat.add_zero, or_false, or_true, true_or, false_or, j_b0, ↓j_b1, j_b2, ↓j_b3, j_01, j_inb, and_self, Classical.not_not, Int32.reduceLE, Int32.reduceLT, Int32.reduceAdd, j_ne, eq_self, not_true_eq_false, not_false_eq_true, forall_const, and_false, false_and, j_sc, j_ent, Nat.reduceSub, List.replicate_zero, List.replicate_succ, j_un, ne_eq, q43, q44]
    refine ⟨⟨hp0, hp1⟩, ?_⟩
    have k45 : j_up m3 76 4 v4 45 = μ 45 := by rw [j_un _ _ _ (by decide)]; exact q45
    have w1 := f_X10_wasMaster (j_up m3 76 4 v4) (μ 43 p.toNatClampNeg) (nI dn) q ha
    have w2 := f_X10_wasMaster (j_up m3 76 4 v4) (μ 44 p.toNatClampNeg) (nI dn) q hb
    rw [k45] at w1 w2
    refine j_use1 w1 (by decide) ?_
    simp only [qX10_values, j_f10, j_m10, j_ty, tyX10, ↓j_kt, ↓j_sel, ↓j_run_0, ↓j_run_s, ↓j_wp, ↓j_pi, ↓j_pii, ↓j_pl, ↓j_pll, ↓j_pli, ↓j_pr, ↓j_pri, ↓j_prii, ↓j_pvr, ↓j_pop, ↓j_gi, ↓j_gl, ↓j_ga, ↓j_ob, ↓j_ar, ↓j_fd, ↓j_fo, ↓j_mo, ↓j_br, ↓j_to, ↓j_lo, ↓j_scr, ↓j_co, ↓j_no, j_nf, j_rt, j_ld, j_st1, j_st2, j_k1, j_ci, j_fin, j_sh, j_shl, Option.map_some, Option.map_none, Option.toList_some, Option.toList_none, List.cons_append, List.nil_append, List.map_cons, List.map_nil, List.sum_cons, List.sum_nil, Value.category, List.getElem?_cons_zero, List.getElem?_cons_succ, List.length_cons, List.length_nil, true_and, and_true, if_true, if_false, ↓reduceIte, Bool.false_eq_true, Bool.true_eq_false, reduceCtorEq, Nat.reduceAdd, Nat.reduceLT, Nat.reduceLeDiff, Nat.reduceEqDiff, Nat.reduceBEq, Int.cast_ofNat_Int, Int.reduceAdd, Int.reduceNeg, Int.reduceSub, Int.reduceToNat, Int.reduceLE, Nat.zero_le, false_implies, implies_true, beq_self_eq_true, Bool.and_true, Bool.and_false, Bool.or_false, Bool.false_or, Bool.or_true, Bool.true_or, Bool.and_self, Bool.or_self, Nat.zero_add, Nat.add_zero, or_false, or_true, true_or, false_or, j_b0, ↓j_b1, j_b2, ↓j_b3, j_01, j_inb, and_self, Classical.not_not, Int32.reduceLE, Int32.reduceLT, Int32.reduceAdd, j_ne, eq_self, not_true_eq_false, not_false_eq_true, forall_const, and_false, false_and, j_sc, j_ent, Nat.reduceSub, List.replicate_zero, List.replicate_succ, j_un, ne_eq, q43, q44, c_cl]
    refine ⟨fun k => fin v4 1 e4 (by rw [v5e, if_pos (Or.inl k)]), fun k => ⟨⟨hp0, hp1⟩, ?_⟩⟩
    refine j_use1 w2 (by decide) ?_
    simp only [qX10_values, j_f10, j_m10, j_ty, tyX10, ↓j_kt, ↓j_sel, ↓j_run_0, ↓j_run_s, ↓j_wp, ↓j_pi, ↓j_pii, ↓j_pl, ↓j_pll, ↓j_pli, ↓j_pr, ↓j_pri, ↓j_prii, ↓j_pvr, ↓j_pop, ↓j_gi, ↓j_gl, ↓j_ga, ↓j_ob, ↓j_ar, ↓j_fd, ↓j_fo, ↓j_mo, ↓j_br, ↓j_to, ↓j_lo, ↓j_scr, ↓j_co, ↓j_no, j_nf, j_rt, j_ld, j_st1, j_st2, j_k1, j_ci, j_fin, j_sh, j_shl, Option.map_some, Option.map_none, Option.toList_some, Option.toList_none, List.cons_append, List.nil_append, List.map_cons, List.map_nil, List.sum_cons, List.sum_nil, Value.category, List.getElem?_cons_zero, List.getElem?_cons_succ, List.length_cons, List.length_nil, true_and, and_true, if_true, if_false, ↓reduceIte, Bool.false_eq_true, Bool.true_eq_false, reduceCtorEq, Nat.reduceAdd, Nat.reduceLT, Nat.reduceLeDiff, Nat.reduceEqDiff, Nat.reduceBEq, Int.cast_ofNat_Int, Int.reduceAdd, Int.reduceNeg, Int.reduceSub, Int.reduceToNat, Int.reduceLE, Nat.zero_le, false_implies, implies_true, beq_self_eq_true, Bool.and_true, Bool.and_false, Bool.or_false, Bool.false_or, Bool.or_true, Bool.true_or, Bool.and_self, Bool.or_self, Nat.zero_add, Nat.add_zero, or_false, or_true, true_or, false_or, j_b0, ↓j_b1, j_b2, ↓j_b3, j_01, j_inb, and_self, Classical.not_not, Int32.reduceLE, Int32.reduceLT, Int32.reduceAdd, j_ne, eq_self, not_true_eq_false, not_false_eq_true, forall_const, and_false, false_and, j_sc, j_ent, Nat.reduceSub, List.replicate_zero, List.replicate_succ, j_un, ne_eq, q43, q44, c_cl]
    exact ⟨fun k2 => fin v4 0 e4 (by rw [v5e, if_neg (fun z => z.elim k k2)]), fun k2 => fin v4 1 e4 (by rw [v5e, if_pos (Or.inr k2)])⟩
  simp only [qX10_values, j_f10, j_m10, j_ty, tyX10, ↓j_kt, ↓j_sel, ↓j_run_0, ↓j_run_s, ↓j_wp, ↓j_pi, ↓j_pii, ↓j_pl, ↓j_pll, ↓j_pli, ↓j_pr, ↓j_pri, ↓j_prii, ↓j_pvr, ↓j_pop, ↓j_gi, ↓j_gl, ↓j_ga, ↓j_ob, ↓j_ar, ↓j_fd, ↓j_fo, ↓j_mo, ↓j_br, ↓j_to, ↓j_lo, ↓j_scr, ↓j_co, ↓j_no, j_nf, j_rt, j_ld, j_st1, j_st2, j_k1, j_ci, j_fin, j_sh, j_shl, Option.map_some, Option.map_none, Option.toList_some, Option.toList_none, List.cons_append, List.nil_append, List.map_cons, List.map_nil, List.sum_cons, List.sum_nil, Value.category, List.getElem?_cons_zero, List.getElem?_cons_succ, List.length_cons, List.length_nil, true_and, and_true, if_true, if_false, ↓reduceIte, Bool.false_eq_true, Bool.true_eq_false, reduceCtorEq, Nat.reduceAdd, Nat.reduceLT, Nat.reduceLeDiff, Nat.reduceEqDiff, Nat.reduceBEq, Int.cast_ofNat_Int, Int.reduceAdd, Int.reduceNeg, Int.reduceSub, Int.reduceToNat, Int.reduceLE, Nat.zero_le, false_implies, implies_true, beq_self_eq_true, Bool.and_true, Bool.and_false, Bool.or_false, Bool.false_or, Bool.or_true, Bool.true_or, Bool.and_self, Bool.or_self, Nat.zero_add, Nat.add_zero, or_false, or_true, true_or, false_or, j_b0, ↓j_b1, j_b2, ↓j_b3, j_01, j_inb, and_self, Classical.not_not, Int32.reduceLE, Int32.reduceLT, Int32.reduceAdd, j_ne, eq_self, not_true_eq_false, not_false_eq_true, forall_const, and_false, false_and, j_sc, j_ent, Nat.reduceSub, List.replicate_zero, List.replicate_succ, q66, c_cl]
  refine ⟨fun k => ⟨?_, tail _ (by rw [v4e, if_neg k])⟩, fun k => tail _ (by rw [v4e, if_pos k])⟩
  rcases hlt with h | ⟨j, h1, h2⟩
  · exact absurd h k
  · rw [h2]
    exact n40 (by omega)
