/-! Terms: what is read off the picked ones -/
def k_fs (P ms fr : Nat → Int32) : Nat → Int32
  | 0 => -1
  | j + 1 => if ¬ ms (P j).toNatClampNeg = -1 ∧ (k_fs P ms fr j = -1 ∨ fr (P j).toNatClampNeg < k_fs P ms fr j) then fr (P j).toNatClampNeg else k_fs P ms fr j
def k_min (x y : Int32) : Int32 := if y < x then y else x
def k_nc (P fr to : Nat → Int32) (day d : Int32) : Nat → Int32
  | 0 => d + 1
  | j + 1 => if day < fr (P j).toNatClampNeg then k_min (k_nc P fr to day d j) (fr (P j).toNatClampNeg) else if day ≤ to (P j).toNatClampNeg then k_min (k_nc P fr to day d j) (to (P j).toNatClampNeg + 1) else k_nc P fr to day d j
/-- does the term cover the day -/
def k_cv (fr to : Nat → Int32) (day : Int32) (t : Nat) : Prop := fr t ≤ day ∧ day ≤ to t
def k_sv (P ms fr to : Nat → Int32) (day : Int32) : Nat → Int32
  | 0 => -1
  | j + 1 => if fr (P j).toNatClampNeg ≤ day ∧ day ≤ to (P j).toNatClampNeg ∧ ¬ ms (P j).toNatClampNeg = -1 then ms (P j).toNatClampNeg else k_sv P ms fr to day j
def k_qu (P ms fr to : Nat → Int32) (day : Int32) : Nat → Int32
  | 0 => 0
  | j + 1 => if fr (P j).toNatClampNeg ≤ day ∧ day ≤ to (P j).toNatClampNeg ∧ ¬ ms (P j).toNatClampNeg = -1 then (if ¬ k_qu P ms fr to day j = 0 ∨ (¬ k_sv P ms fr to day j = -1 ∧ ¬ k_sv P ms fr to day j = ms (P j).toNatClampNeg) then 1 else 0) else k_qu P ms fr to day j
def k_rd (P ms fr to : Nat → Int32) (day : Int32) : Nat → Int32
  | 0 => 0
  | j + 1 => if fr (P j).toNatClampNeg ≤ day ∧ day ≤ to (P j).toNatClampNeg ∧ ms (P j).toNatClampNeg = -1 then 1 else k_rd P ms fr to day j
theorem k_qu01 (P ms fr to : Nat → Int32) (day : Int32) : ∀ j, k_qu P ms fr to day j = 0 ∨ k_qu P ms fr to day j = 1
  | 0 => Or.inl rfl
  | j + 1 => by
    unfold k_qu
    split
    · split
      · exact Or.inr rfl
      · exact Or.inl rfl
    · exact k_qu01 P ms fr to day j
def k_kd (P ms fr to : Nat → Int32) (kind day : Int32) (c : Nat) : Int32 := if kind = 0 then (if k_sv P ms fr to day c = -1 then 0 else 1) else if kind = 1 then (if ¬ k_rd P ms fr to day c = 0 ∧ k_sv P ms fr to day c = -1 then 1 else 0) else k_qu P ms fr to day c
set_option maxRecDepth 100000 in
theorem l_X7_firstServedDay {μ : j_M} {c : Nat} {p d q : Int32} {Q : j_Q} (hs : μ 8 8 = nI c) (hn : c ≤ 100) (hP : ∀ j, j < c → 0 ≤ μ 15 j ∧ μ 15 j < 100) (hQ : Q (some (k_fs (μ 15) (μ 10) (μ 11) c)) j_SH μ) : ∀ (k i : Nat) (g6 : Option Value), i + k = c → j_J cX7_firstServedDay 7 7 (some .int) false 2 none Q j_SH 0 0 13 [some (.ref 8), some (.int p), some (.int d), some (.int q), some (.int (k_fs (μ 15) (μ 10) (μ 11) i)), some (.int (nI i)), g6] [] μ := by
  intro k
  induction k with
  | zero =>
    intro i g6 hi
    refine j_go (fun q => q == 13) 30 ?_
    simp only [qX7_firstServedDay, j_f7, j_m7, j_ty, tyX7, ↓j_kt, ↓j_sel, ↓j_run_0, ↓j_run_s, ↓j_wp, ↓j_pi, ↓j_pii, ↓j_pl, ↓j_pll, ↓j_pli, ↓j_pr, ↓j_pri, ↓j_prii, ↓j_pvr, ↓j_pop, ↓j_gi, ↓j_gl, ↓j_ga, ↓j_ob, ↓j_ar, ↓j_fd, ↓j_fo, ↓j_mo, ↓j_br, ↓j_to, ↓j_lo, ↓j_scr, ↓j_co, ↓j_no, j_nf, j_rt, j_ld, j_st1, j_st2, j_k1, j_ci, j_fin, j_sh, j_shl, Option.map_some, Option.map_none, Option.toList_some, Option.toList_none, List.cons_append, List.nil_append, List.map_cons, List.map_nil, List.sum_cons, List.sum_nil, Value.category, List.getElem?_cons_zero, List.getElem?_cons_succ, List.length_cons, List.length_nil, true_and, and_true, if_true, if_false, ↓reduceIte, Bool.false_eq_true, Bool.true_eq_false, reduceCtorEq, Nat.reduceAdd, Nat.reduceLT, Nat.reduceLeDiff, Nat.reduceEqDiff, Nat.reduceBEq, Int.cast_ofNat_Int, Int.reduceAdd, Int.reduceNeg, Int.reduceSub, Int.reduceToNat, Int.reduceLE, Nat.zero_le, false_implies, implies_true, beq_self_eq_true, Bool.and_true, Bool.and_false, Bool.or_false, Bool.false_or, Bool.or_true, Bool.true_or, Bool.and_self, Bool.or_self, Nat.zero_add, Nat.add_zero, or_false, or_true, true_or, false_or, j_b0, j_b1, j_b2, j_b3, j_01, j_inb, and_self, Classical.not_not, Int32.reduceLE, Int32.reduceLT, Int32.reduceAdd, j_ne, eq_self, not_true_eq_false, not_false_eq_true, forall_const, and_false, false_and, j_sc, j_ent, Nat.reduceSub, List.replicate_zero, List.replicate_succ, hs, nI_lt' (show i < 1000000 by omega) (show c < 1000000 by omega), nI_le' (show c < 1000000 by omega) (show i < 1000000 by omega)]
    refine ⟨fun _ => ?_, fun h => by omega⟩
    rw [show i = c by omega]
    exact hQ
  | succ k ih =>
    intro i g6 hi
    refine j_go (fun q => q == 13) 60 ?_
    simp only [qX7_firstServedDay, j_f7, j_m7, j_ty, tyX7, ↓j_kt, ↓j_sel, ↓j_run_0, ↓j_run_s, ↓j_wp, ↓j_pi, ↓j_pii, ↓j_pl, ↓j_pll, ↓j_pli, ↓j_pr, ↓j_pri, ↓j_prii, ↓j_pvr, ↓j_pop, ↓j_gi, ↓j_gl, ↓j_ga, ↓j_ob, ↓j_ar, ↓j_fd, ↓j_fo, ↓j_mo, ↓j_br, ↓j_to, ↓j_lo, ↓j_scr, ↓j_co, ↓j_no, j_nf, j_rt, j_ld, j_st1, j_st2, j_k1, j_ci, j_fin, j_sh, j_shl, Option.map_some, Option.map_none, Option.toList_some, Option.toList_none, List.cons_append, List.nil_append, List.map_cons, List.map_nil, List.sum_cons, List.sum_nil, Value.category, List.getElem?_cons_zero, List.getElem?_cons_succ, List.length_cons, List.length_nil, true_and, and_true, if_true, if_false, ↓reduceIte, Bool.false_eq_true, Bool.true_eq_false, reduceCtorEq, Nat.reduceAdd, Nat.reduceLT, Nat.reduceLeDiff, Nat.reduceEqDiff, Nat.reduceBEq, Int.cast_ofNat_Int, Int.reduceAdd, Int.reduceNeg, Int.reduceSub, Int.reduceToNat, Int.reduceLE, Nat.zero_le, false_implies, implies_true, beq_self_eq_true, Bool.and_true, Bool.and_false, Bool.or_false, Bool.false_or, Bool.or_true, Bool.true_or, Bool.and_self, Bool.or_self, Nat.zero_add, Nat.add_zero, or_false, or_true, true_or, false_or, j_b0, j_b1, j_b2, j_b3, j_01, j_inb, and_self, Classical.not_not, Int32.reduceLE, Int32.reduceLT, Int32.reduceAdd, j_ne, eq_self, not_true_eq_false, not_false_eq_true, forall_const, and_false, false_and, j_sc, j_ent, Nat.reduceSub, List.replicate_zero, List.replicate_succ, hs, nI_lt' (show i < 1000000 by omega) (show c < 1000000 by omega), nI_le' (show c < 1000000 by omega) (show i < 1000000 by omega), nI_cl' (show i < 1000000 by omega), nI_1]
    refine ⟨fun h => by omega, fun h => ?_⟩
    have h1 := fun g => ih (i + 1) g (by omega)
    unfold k_fs at h1
    have hin : 0 ≤ nI i ∧ nI i < 100 := ⟨nI_ge0 (by omega), (nI_lt' (b := 100) (by omega) (by omega)).mpr (by omega)⟩
    have hp := hP i h
    generalize k_fs (μ 15) (μ 10) (μ 11) i = b at h1 ⊢
    generalize hv : (if ¬ μ 10 (μ 15 i).toNatClampNeg = -1 ∧ (b = -1 ∨ μ 11 (μ 15 i).toNatClampNeg < b) then μ 11 (μ 15 i).toNatClampNeg else b) = v at h1
    clear ih hQ hP
    grind
theorem k_row_in (g : Nat → Bool) (f : Nat → Int32) : ∀ n, n ≤ 100 → ∀ j, j < cnt g n → ∃ t, t < n ∧ g t = true ∧ k_row g f n j = nI t
  | 0, _, j, h => by simp [cnt] at h
  | n + 1, hn, j, h => by
    unfold cnt at h
    unfold k_row
    by_cases hg : g n = true
    · rw [if_pos hg] at h
      rw [if_pos hg]
      by_cases hj : j = cnt g n
      · subst hj
        exact ⟨n, by omega, hg, u_s _ _ _⟩
      · obtain ⟨t, h1, h2, h3⟩ := k_row_in g f n (by omega) j (by omega)
        exact ⟨t, by omega, h2, by rw [u_n _ _ hj]; exact h3⟩
    · rw [if_neg hg] at h
      rw [if_neg hg]
      obtain ⟨t, h1, h2, h3⟩ := k_row_in g f n (by omega) j (by omega)
      exact ⟨t, by omega, h2, h3⟩
theorem k_row_bd {g : Nat → Bool} {f : Nat → Int32} {n : Nat} (hn : n ≤ 100) : ∀ j, j < cnt g n → 0 ≤ k_row g f n j ∧ k_row g f n j < 100 := by
  intro j hj
  obtain ⟨t, h1, -, h3⟩ := k_row_in g f n hn j hj
  rw [h3]
  exact ⟨nI_ge0 (by omega), (nI_lt' (b := 100) (by omega) (by omega)).mpr (by omega)⟩
/-- the memory behind pick -/
def k_pm (μ : j_M) (p d q : Int32) (n : Nat) : j_M := j_up (j_row μ 15 (k_row (k_pk (μ 9) (μ 11) (μ 13) (μ 14) p d q) (μ 15) n)) 8 8 (nI (cnt (k_pk (μ 9) (μ 11) (μ 13) (μ 14) p d q) n))
theorem k_pm_o (μ : j_M) (p d q : Int32) (n : Nat) {b : Nat} (h1 : b ≠ 8) (h2 : b ≠ 15) : k_pm μ p d q n b = μ b := by
  unfold k_pm
  rw [j_un _ _ _ h1, j_rn' _ _ h2]
theorem k_pm_15 (μ : j_M) (p d q : Int32) (n : Nat) : k_pm μ p d q n 15 = k_row (k_pk (μ 9) (μ 11) (μ 13) (μ 14) p d q) (μ 15) n := by
  unfold k_pm
  rw [j_un _ _ _ (by decide), j_rs]
theorem k_pm_88 (μ : j_M) (p d q : Int32) (n : Nat) : k_pm μ p d q n 8 8 = nI (cnt (k_pk (μ 9) (μ 11) (μ 13) (μ 14) p d q) n) := by
  unfold k_pm
  rw [j_us, u_s]
set_option maxRecDepth 100000 in
theorem f_X7_firstServedDay (μ : j_M) (p d q : Int32) {n : Nat} (hs : μ 8 6 = nI n) (hn : n ≤ 100) : j_R 2 yX7_firstServedDay [.ref 8, .int p, .int d, .int q] μ (fun r m => r = some (k_fs (k_row (k_pk (μ 9) (μ 11) (μ 13) (μ 14) p d q) (μ 15) n) (μ 10) (μ 11) (cnt (k_pk (μ 9) (μ 11) (μ 13) (μ 14) p d q) n)) ∧ m = k_pm μ p d q n) := by
  refine eX7_firstServedDay (Nat.le_of_ble_eq_true rfl) (j_go (fun q => q == 13) 20 ?_)
  simp only [qX7_firstServedDay, j_f7, j_m7, j_ty, tyX7, ↓j_kt, ↓j_sel, ↓j_run_0, ↓j_run_s, ↓j_wp, ↓j_pi, ↓j_pii, ↓j_pl, ↓j_pll, ↓j_pli, ↓j_pr, ↓j_pri, ↓j_prii, ↓j_pvr, ↓j_pop, ↓j_gi, ↓j_gl, ↓j_ga, ↓j_ob, ↓j_ar, ↓j_fd, ↓j_fo, ↓j_mo, ↓j_br, ↓j_to, ↓j_lo, ↓j_scr, ↓j_co, ↓j_no, j_nf, j_rt, j_ld, j_st1, j_st2, j_k1, j_ci, j_fin, j_sh, j_shl, Option.map_some, Option.map_none, Option.toList_some, Option.toList_none, List.cons_append, List.nil_append, List.map_cons, List.map_nil, List.sum_cons, List.sum_nil, Value.category, List.getElem?_cons_zero, List.getElem?_cons_succ, List.length_cons, List.length_nil, true_and, and_true, if_true, if_false, ↓reduceIte, Bool.false_eq_true, Bool.true_eq_false, reduceCtorEq, Nat.reduceAdd, Nat.reduceLT, Nat.reduceLeDiff, Nat.reduceEqDiff, Nat.reduceBEq, Int.cast_ofNat_Int, Int.reduceAdd, Int.reduceNeg, Int.reduceSub, Int.reduceToNat, Int.reduceLE, Nat.zero_le, false_implies, implies_true, beq_self_eq_true, Bool.and_true, Bool.and_false, Bool.or_false, Bool.false_or, Bool.or_true, Bool.true_or, Bool.and_self, Bool.or_self, Nat.zero_add, Nat.add_zero, or_false, or_true, true_or, false_or, j_b0, j_b1, j_b2, j_b3, j_01, j_inb, and_self, Classical.not_not, Int32.reduceLE, Int32.reduceLT, Int32.reduceAdd, j_ne, eq_self, not_true_eq_false, not_false_eq_true, forall_const, and_false, false_and, j_sc, j_ent, Nat.reduceSub, List.replicate_zero, List.replicate_succ]
  refine j_use1 (f_X7_pick μ p d q hs hn) (by decide) ?_
  simp only [qX7_firstServedDay, j_f7, j_m7, j_ty, tyX7, ↓j_kt, ↓j_sel, ↓j_run_0, ↓j_run_s, ↓j_wp, ↓j_pi, ↓j_pii, ↓j_pl, ↓j_pll, ↓j_pli, ↓j_pr, ↓j_pri, ↓j_prii, ↓j_pvr, ↓j_pop, ↓j_gi, ↓j_gl, ↓j_ga, ↓j_ob, ↓j_ar, ↓j_fd, ↓j_fo, ↓j_mo, ↓j_br, ↓j_to, ↓j_lo, ↓j_scr, ↓j_co, ↓j_no, j_nf, j_rt, j_ld, j_st1, j_st2, j_k1, j_ci, j_fin, j_sh, j_shl, Option.map_some, Option.map_none, Option.toList_some, Option.toList_none, List.cons_append, List.nil_append, List.map_cons, List.map_nil, List.sum_cons, List.sum_nil, Value.category, List.getElem?_cons_zero, List.getElem?_cons_succ, List.length_cons, List.length_nil, true_and, and_true, if_true, if_false, ↓reduceIte, Bool.false_eq_true, Bool.true_eq_false, reduceCtorEq, Nat.reduceAdd, Nat.reduceLT, Nat.reduceLeDiff, Nat.reduceEqDiff, Nat.reduceBEq, Int.cast_ofNat_Int, Int.reduceAdd, Int.reduceNeg, Int.reduceSub, Int.reduceToNat, Int.reduceLE, Nat.zero_le, false_implies, implies_true, beq_self_eq_true, Bool.and_true, Bool.and_false, Bool.or_false, Bool.false_or, Bool.or_true, Bool.true_or, Bool.and_self, Bool.or_self, Nat.zero_add, Nat.add_zero, or_false, or_true, true_or, false_or, j_b0, j_b1, j_b2, j_b3, j_01, j_inb, and_self, Classical.not_not, Int32.reduceLE, Int32.reduceLT, Int32.reduceAdd, j_ne, eq_self, not_true_eq_false, not_false_eq_true, forall_const, and_false, false_and, j_sc, j_ent, Nat.reduceSub, List.replicate_zero, List.replicate_succ]
  have hc := cnt_le (k_pk (μ 9) (μ 11) (μ 13) (μ 14) p d q) n
  refine l_X7_firstServedDay (μ := k_pm μ p d q n) (k_pm_88 μ p d q n) (by omega) ?_ ?_ (cnt (k_pk (μ 9) (μ 11) (μ 13) (μ 14) p d q) n) 0 none (by omega)
  · rw [k_pm_15]
    exact k_row_bd hn
  · refine ⟨rfl, ?_, rfl⟩
    rw [k_pm_15, k_pm_o μ p d q n (by decide) (by decide), k_pm_o μ p d q n (by decide) (by decide)]
set_option maxRecDepth 100000 in
theorem l_X7_nextChange {μ : j_M} {c : Nat} {day d : Int32} {Q : j_Q} (hs : μ 8 8 = nI c) (hn : c ≤ 100) (hP : ∀ j, j < c → 0 ≤ μ 15 j ∧ μ 15 j < 100) (hQ : Q (some (k_nc (μ 15) (μ 11) (μ 12) day d c)) j_SH μ) : ∀ (k i : Nat) (g5 : Option Value), i + k = c → j_J cX7_nextChange 7 6 (some .int) false 1 none Q j_SH 0 0 7 [some (.ref 8), some (.int day), some (.int d), some (.int (k_nc (μ 15) (μ 11) (μ 12) day d i)), some (.int (nI i)), g5] [] μ := by
  intro k
  induction k with
  | zero =>
    intro i g5 hi
    refine j_go (fun q => q == 7) 30 ?_
    simp only [qX7_nextChange, j_f7, j_m7, j_ty, tyX7, ↓j_kt, ↓j_sel, ↓j_run_0, ↓j_run_s, ↓j_wp, ↓j_pi, ↓j_pii, ↓j_pl, ↓j_pll, ↓j_pli, ↓j_pr, ↓j_pri, ↓j_prii, ↓j_pvr, ↓j_pop, ↓j_gi, ↓j_gl, ↓j_ga, ↓j_ob, ↓j_ar, ↓j_fd, ↓j_fo, ↓j_mo, ↓j_br, ↓j_to, ↓j_lo, ↓j_scr, ↓j_co, ↓j_no, j_nf, j_rt, j_ld, j_st1, j_st2, j_k1, j_ci, j_fin, j_sh, j_shl, Option.map_some, Option.map_none, Option.toList_some, Option.toList_none, List.cons_append, List.nil_append, List.map_cons, List.map_nil, List.sum_cons, List.sum_nil, Value.category, List.getElem?_cons_zero, List.getElem?_cons_succ, List.length_cons, List.length_nil, true_and, and_true, if_true, if_false, ↓reduceIte, Bool.false_eq_true, Bool.true_eq_false, reduceCtorEq, Nat.reduceAdd, Nat.reduceLT, Nat.reduceLeDiff, Nat.reduceEqDiff, Nat.reduceBEq, Int.cast_ofNat_Int, Int.reduceAdd, Int.reduceNeg, Int.reduceSub, Int.reduceToNat, Int.reduceLE, Nat.zero_le, false_implies, implies_true, beq_self_eq_true, Bool.and_true, Bool.and_false, Bool.or_false, Bool.false_or, Bool.or_true, Bool.true_or, Bool.and_self, Bool.or_self, Nat.zero_add, Nat.add_zero, or_false, or_true, true_or, false_or, j_b0, j_b1, j_b2, j_b3, j_01, j_inb, and_self, Classical.not_not, Int32.reduceLE, Int32.reduceLT, Int32.reduceAdd, j_ne, eq_self, not_true_eq_false, not_false_eq_true, forall_const, and_false, false_and, j_sc, j_ent, Nat.reduceSub, List.replicate_zero, List.replicate_succ, hs, nI_lt' (show i < 1000000 by omega) (show c < 1000000 by omega), nI_le' (show c < 1000000 by omega) (show i < 1000000 by omega)]
    refine ⟨fun _ => ?_, fun h => by omega⟩
    rw [show i = c by omega]
    exact hQ
  | succ k ih =>
    intro i g5 hi
    refine j_go (fun q => q == 7) 60 ?_
    simp only [qX7_nextChange, j_f7, j_m7, j_ty, tyX7, ↓j_kt, ↓j_sel, ↓j_run_0, ↓j_run_s, ↓j_wp, ↓j_pi, ↓j_pii, ↓j_pl, ↓j_pll, ↓j_pli, ↓j_pr, ↓j_pri, ↓j_prii, ↓j_pvr, ↓j_pop, ↓j_gi, ↓j_gl, ↓j_ga, ↓j_ob, ↓j_ar, ↓j_fd, ↓j_fo, ↓j_mo, ↓j_br, ↓j_to, ↓j_lo, ↓j_scr, ↓j_co, ↓j_no, j_nf, j_rt, j_ld, j_st1, j_st2, j_k1, j_ci, j_fin, j_sh, j_shl, Option.map_some, Option.map_none, Option.toList_some, Option.toList_none, List.cons_append, List.nil_append, List.map_cons, List.map_nil, List.sum_cons, List.sum_nil, Value.category, List.getElem?_cons_zero, List.getElem?_cons_succ, List.length_cons, List.length_nil, true_and, and_true, if_true, if_false, ↓reduceIte, Bool.false_eq_true, Bool.true_eq_false, reduceCtorEq, Nat.reduceAdd, Nat.reduceLT, Nat.reduceLeDiff, Nat.reduceEqDiff, Nat.reduceBEq, Int.cast_ofNat_Int, Int.reduceAdd, Int.reduceNeg, Int.reduceSub, Int.reduceToNat, Int.reduceLE, Nat.zero_le, false_implies, implies_true, beq_self_eq_true, Bool.and_true, Bool.and_false, Bool.or_false, Bool.false_or, Bool.or_true, Bool.true_or, Bool.and_self, Bool.or_self, Nat.zero_add, Nat.add_zero, or_false, or_true, true_or, false_or, j_b0, j_b1, j_b2, j_b3, j_01, j_inb, and_self, Classical.not_not, Int32.reduceLE, Int32.reduceLT, Int32.reduceAdd, j_ne, eq_self, not_true_eq_false, not_false_eq_true, forall_const, and_false, false_and, j_sc, j_ent, Nat.reduceSub, List.replicate_zero, List.replicate_succ, j_min, hs, nI_lt' (show i < 1000000 by omega) (show c < 1000000 by omega), nI_le' (show c < 1000000 by omega) (show i < 1000000 by omega), nI_cl' (show i < 1000000 by omega), nI_1]
    refine ⟨fun h => by omega, fun h => ?_⟩
    have h1 := fun g => ih (i + 1) g (by omega)
    unfold k_nc at h1
    have hin : 0 ≤ nI i ∧ nI i < 100 := ⟨nI_ge0 (by omega), (nI_lt' (b := 100) (by omega) (by omega)).mpr (by omega)⟩
    have hp := hP i h
    generalize k_nc (μ 15) (μ 11) (μ 12) day d i = b at h1 ⊢
    refine ⟨hin, hp, fun g => ⟨hp, fun g2 => ?_, fun g2 => ⟨hp, ?_⟩⟩, fun g => ⟨hp, ?_⟩⟩
    · rw [if_neg (by grind), if_neg (by grind)] at h1
      exact h1 _
    · rw [if_neg (by grind), if_pos (by grind)] at h1
      exact h1 _
    · rw [if_pos (by grind)] at h1
      exact h1 _
set_option maxRecDepth 100000 in
theorem f_X7_nextChange (μ : j_M) (day d : Int32) {c : Nat} (hs : μ 8 8 = nI c) (hn : c ≤ 100) (hP : ∀ j, j < c → 0 ≤ μ 15 j ∧ μ 15 j < 100) : j_R 1 yX7_nextChange [.ref 8, .int day, .int d] μ (fun r m => r = some (k_nc (μ 15) (μ 11) (μ 12) day d c) ∧ m = μ) := by
  refine eX7_nextChange (Nat.le_of_ble_eq_true rfl) (j_go (fun q => q == 7) 20 ?_)
  simp only [qX7_nextChange, j_f7, j_m7, j_ty, tyX7, ↓j_kt, ↓j_sel, ↓j_run_0, ↓j_run_s, ↓j_wp, ↓j_pi, ↓j_pii, ↓j_pl, ↓j_pll, ↓j_pli, ↓j_pr, ↓j_pri, ↓j_prii, ↓j_pvr, ↓j_pop, ↓j_gi, ↓j_gl, ↓j_ga, ↓j_ob, ↓j_ar, ↓j_fd, ↓j_fo, ↓j_mo, ↓j_br, ↓j_to, ↓j_lo, ↓j_scr, ↓j_co, ↓j_no, j_nf, j_rt, j_ld, j_st1, j_st2, j_k1, j_ci, j_fin, j_sh, j_shl, Option.map_some, Option.map_none, Option.toList_some, Option.toList_none, List.cons_append, List.nil_append, List.map_cons, List.map_nil, List.sum_cons, List.sum_nil, Value.category, List.getElem?_cons_zero, List.getElem?_cons_succ, List.length_cons, List.length_nil, true_and, and_true, if_true, if_false, ↓reduceIte, Bool.false_eq_true, Bool.true_eq_false, reduceCtorEq, Nat.reduceAdd, Nat.reduceLT, Nat.reduceLeDiff, Nat.reduceEqDiff, Nat.reduceBEq, Int.cast_ofNat_Int, Int.reduceAdd, Int.reduceNeg, Int.reduceSub, Int.reduceToNat, Int.reduceLE, Nat.zero_le, false_implies, implies_true, beq_self_eq_true, Bool.and_true, Bool.and_false, Bool.or_false, Bool.false_or, Bool.or_true, Bool.true_or, Bool.and_self, Bool.or_self, Nat.zero_add, Nat.add_zero, or_false, or_true, true_or, false_or, j_b0, j_b1, j_b2, j_b3, j_01, j_inb, and_self, Classical.not_not, Int32.reduceLE, Int32.reduceLT, Int32.reduceAdd, j_ne, eq_self, not_true_eq_false, not_false_eq_true, forall_const, and_false, false_and, j_sc, j_ent, Nat.reduceSub, List.replicate_zero, List.replicate_succ]
  exact l_X7_nextChange hs hn hP ⟨rfl, rfl, rfl⟩ c 0 none (by omega)
set_option maxRecDepth 100000 in
theorem l_X7_isOfKind {μ : j_M} {c : Nat} {kind day : Int32} {Q : j_Q} (hs : μ 8 8 = nI c) (hn : c ≤ 100) (hP : ∀ j, j < c → 0 ≤ μ 15 j ∧ μ 15 j < 100) (hQ : Q (some (k_kd (μ 15) (μ 10) (μ 11) (μ 12) kind day c)) j_SH μ) : ∀ (k i : Nat) (g7 : Option Value), i + k = c → j_J cX7_isOfKind 7 8 (some .boolean) false 0 none Q j_SH 0 0 11 [some (.ref 8), some (.int kind), some (.int day), some (.int (k_sv (μ 15) (μ 10) (μ 11) (μ 12) day i)), some (.int (k_qu (μ 15) (μ 10) (μ 11) (μ 12) day i)), some (.int (k_rd (μ 15) (μ 10) (μ 11) (μ 12) day i)), some (.int (nI i)), g7] [] μ := by
  intro k
  induction k with
  | zero =>
    intro i g7 hi
    refine j_go (fun q => q == 11) 60 ?_
    simp only [qX7_isOfKind, j_f7, j_m7, j_ty, tyX7, ↓j_kt, ↓j_sel, ↓j_run_0, ↓j_run_s, ↓j_wp, ↓j_pi, ↓j_pii, ↓j_pl, ↓j_pll, ↓j_pli, ↓j_pr, ↓j_pri, ↓j_prii, ↓j_pvr, ↓j_pop, ↓j_gi, ↓j_gl, ↓j_ga, ↓j_ob, ↓j_ar, ↓j_fd, ↓j_fo, ↓j_mo, ↓j_br, ↓j_to, ↓j_lo, ↓j_scr, ↓j_co, ↓j_no, j_nf, j_rt, j_ld, j_st1, j_st2, j_k1, j_ci, j_fin, j_sh, j_shl, Option.map_some, Option.map_none, Option.toList_some, Option.toList_none, List.cons_append, List.nil_append, List.map_cons, List.map_nil, List.sum_cons, List.sum_nil, Value.category, List.getElem?_cons_zero, List.getElem?_cons_succ, List.length_cons, List.length_nil, true_and, and_true, if_true, if_false, ↓reduceIte, Bool.false_eq_true, Bool.true_eq_false, reduceCtorEq, Nat.reduceAdd, Nat.reduceLT, Nat.reduceLeDiff, Nat.reduceEqDiff, Nat.reduceBEq, Int.cast_ofNat_Int, Int.reduceAdd, Int.reduceNeg, Int.reduceSub, Int.reduceToNat, Int.reduceLE, Nat.zero_le, false_implies, implies_true, beq_self_eq_true, Bool.and_true, Bool.and_false, Bool.or_false, Bool.false_or, Bool.or_true, Bool.true_or, Bool.and_self, Bool.or_self, Nat.zero_add, Nat.add_zero, or_false, or_true, true_or, false_or, j_b0, j_b1, j_b2, j_b3, j_01, j_inb, and_self, Classical.not_not, Int32.reduceLE, Int32.reduceLT, Int32.reduceAdd, j_ne, eq_self, not_true_eq_false, not_false_eq_true, forall_const, and_false, false_and, j_sc, j_ent, Nat.reduceSub, List.replicate_zero, List.replicate_succ, hs, nI_lt' (show i < 1000000 by omega) (show c < 1000000 by omega), nI_le' (show c < 1000000 by omega) (show i < 1000000 by omega)]
    refine ⟨fun _ => ?_, fun h => by omega⟩
    have e : i = c := by omega
    subst e
    have hq := k_qu01 (μ 15) (μ 10) (μ 11) (μ 12) day i
    unfold k_kd at hQ
    clear hP
    generalize k_sv (μ 15) (μ 10) (μ 11) (μ 12) day i = a1 at *
    generalize k_qu (μ 15) (μ 10) (μ 11) (μ 12) day i = a2 at *
    generalize k_rd (μ 15) (μ 10) (μ 11) (μ 12) day i = a3 at *
    grind
  | succ k ih =>
    intro i g7 hi
    refine j_go (fun q => q == 11) 80 ?_
    simp only [qX7_isOfKind, j_f7, j_m7, j_ty, tyX7, ↓j_kt, ↓j_sel, ↓j_run_0, ↓j_run_s, ↓j_wp, ↓j_pi, ↓j_pii, ↓j_pl, ↓j_pll, ↓j_pli, ↓j_pr, ↓j_pri, ↓j_prii, ↓j_pvr, ↓j_pop, ↓j_gi, ↓j_gl, ↓j_ga, ↓j_ob, ↓j_ar, ↓j_fd, ↓j_fo, ↓j_mo, ↓j_br, ↓j_to, ↓j_lo, ↓j_scr, ↓j_co, ↓j_no, j_nf, j_rt, j_ld, j_st1, j_st2, j_k1, j_ci, j_fin, j_sh, j_shl, Option.map_some, Option.map_none, Option.toList_some, Option.toList_none, List.cons_append, List.nil_append, List.map_cons, List.map_nil, List.sum_cons, List.sum_nil, Value.category, List.getElem?_cons_zero, List.getElem?_cons_succ, List.length_cons, List.length_nil, true_and, and_true, if_true, if_false, ↓reduceIte, Bool.false_eq_true, Bool.true_eq_false, reduceCtorEq, Nat.reduceAdd, Nat.reduceLT, Nat.reduceLeDiff, Nat.reduceEqDiff, Nat.reduceBEq, Int.cast_ofNat_Int, Int.reduceAdd, Int.reduceNeg, Int.reduceSub, Int.reduceToNat, Int.reduceLE, Nat.zero_le, false_implies, implies_true, beq_self_eq_true, Bool.and_true, Bool.and_false, Bool.or_false, Bool.false_or, Bool.or_true, Bool.true_or, Bool.and_self, Bool.or_self, Nat.zero_add, Nat.add_zero, or_false, or_true, true_or, false_or, j_b0, j_b1, j_b2, j_b3, j_01, j_inb, and_self, Classical.not_not, Int32.reduceLE, Int32.reduceLT, Int32.reduceAdd, j_ne, eq_self, not_true_eq_false, not_false_eq_true, forall_const, and_false, false_and, j_sc, j_ent, Nat.reduceSub, List.replicate_zero, List.replicate_succ, hs, nI_lt' (show i < 1000000 by omega) (show c < 1000000 by omega), nI_le' (show c < 1000000 by omega) (show i < 1000000 by omega), nI_cl' (show i < 1000000 by omega), nI_1]
    refine ⟨fun h => by omega, fun h => ?_⟩
    have h1 := fun g => ih (i + 1) g (by omega)
    unfold k_sv k_qu k_rd at h1
    have hin : 0 ≤ nI i ∧ nI i < 100 := ⟨nI_ge0 (by omega), (nI_lt' (b := 100) (by omega) (by omega)).mpr (by omega)⟩
    have hp := hP i h
    clear ih hQ hP
    generalize k_sv (μ 15) (μ 10) (μ 11) (μ 12) day i = a1 at *
    generalize k_qu (μ 15) (μ 10) (μ 11) (μ 12) day i = a2 at *
    generalize k_rd (μ 15) (μ 10) (μ 11) (μ 12) day i = a3 at *
    generalize (μ 15 i).toNatClampNeg = t at *
    by_cases c1 : μ 11 t ≤ day ∧ day ≤ μ 12 t
    · by_cases c2 : μ 10 t = -1
      · rw [if_neg (by grind), if_neg (by grind), if_pos (by grind)] at h1
        grind
      · have k1 : μ 11 t ≤ day ∧ day ≤ μ 12 t ∧ ¬ μ 10 t = -1 := ⟨c1.1, c1.2, c2⟩
        have k2 : ¬ (μ 11 t ≤ day ∧ day ≤ μ 12 t ∧ μ 10 t = -1) := fun z => c2 z.2.2
        simp only [if_pos k1, if_neg k2] at h1
        by_cases c3 : ¬ a2 = 0 ∨ (¬ a1 = -1 ∧ ¬ a1 = μ 10 t)
        · rw [if_pos c3] at h1
          grind
        · rw [if_neg c3] at h1
          grind
    · rw [if_neg (by grind), if_neg (by grind), if_neg (by grind)] at h1
      grind
set_option maxRecDepth 100000 in
theorem f_X7_isOfKind (μ : j_M) (kind day : Int32) {c : Nat} (hs : μ 8 8 = nI c) (hn : c ≤ 100) (hP : ∀ j, j < c → 0 ≤ μ 15 j ∧ μ 15 j < 100) : j_R 0 yX7_isOfKind [.ref 8, .int kind, .int day] μ (fun r m => r = some (k_kd (μ 15) (μ 10) (μ 11) (μ 12) kind day c) ∧ m = μ) := by
  refine eX7_isOfKind (Nat.le_of_ble_eq_true rfl) (j_go (fun q => q == 11) 20 ?_)
  simp only [qX7_isOfKind, j_f7, j_m7, j_ty, tyX7, ↓j_kt, ↓j_sel, ↓j_run_0, ↓j_run_s, ↓j_wp, ↓j_pi, ↓j_pii, ↓j_pl, ↓j_pll, ↓j_pli, ↓j_pr, ↓j_pri, ↓j_prii, ↓j_pvr, ↓j_pop, ↓j_gi, ↓j_gl, ↓j_ga, ↓j_ob, ↓j_ar, ↓j_fd, ↓j_fo, ↓j_mo, ↓j_br, ↓j_to, ↓j_lo, ↓j_scr, ↓j_co, ↓j_no, j_nf, j_rt, j_ld, j_st1, j_st2, j_k1, j_ci, j_fin, j_sh, j_shl, Option.map_some, Option.map_none, Option.toList_some, Option.toList_none, List.cons_append, List.nil_append, List.map_cons, List.map_nil, List.sum_cons, List.sum_nil, Value.category, List.getElem?_cons_zero, List.getElem?_cons_succ, List.length_cons, List.length_nil, true_and, and_true, if_true, if_false, ↓reduceIte, Bool.false_eq_true, Bool.true_eq_false, reduceCtorEq, Nat.reduceAdd, Nat.reduceLT, Nat.reduceLeDiff, Nat.reduceEqDiff, Nat.reduceBEq, Int.cast_ofNat_Int, Int.reduceAdd, Int.reduceNeg, Int.reduceSub, Int.reduceToNat, Int.reduceLE, Nat.zero_le, false_implies, implies_true, beq_self_eq_true, Bool.and_true, Bool.and_false, Bool.or_false, Bool.false_or, Bool.or_true, Bool.true_or, Bool.and_self, Bool.or_self, Nat.zero_add, Nat.add_zero, or_false, or_true, true_or, false_or, j_b0, j_b1, j_b2, j_b3, j_01, j_inb, and_self, Classical.not_not, Int32.reduceLE, Int32.reduceLT, Int32.reduceAdd, j_ne, eq_self, not_true_eq_false, not_false_eq_true, forall_const, and_false, false_and, j_sc, j_ent, Nat.reduceSub, List.replicate_zero, List.replicate_succ]
  exact l_X7_isOfKind hs hn hP ⟨rfl, rfl, rfl⟩ c 0 none (by omega)
