/-! texts: a byte and its sign, bits of the weighing, spaces, faults -/
def b_sg (c : Int32) : Int32 := if c < 128 then c else c - 256
set_option maxRecDepth 100000 in
theorem b_all : ∀ k : Fin 256, (b_sg (nI k.val) &&& 255 = nI k.val) ∧ (b_sg (nI k.val) = 32 ↔ nI k.val = 32) ∧ ((48 ≤ b_sg (nI k.val) ∧ b_sg (nI k.val) ≤ 57) ↔ (48 ≤ nI k.val ∧ nI k.val ≤ 57)) ∧ ((48 ≤ nI k.val ∧ nI k.val ≤ 57) → b_sg (nI k.val) = nI k.val) := by decide +kernel
theorem b_at {c : Int32} (h0 : 0 ≤ c) (h1 : c ≤ 255) : (b_sg c &&& 255 = c) ∧ (b_sg c = 32 ↔ c = 32) ∧ ((48 ≤ b_sg c ∧ b_sg c ≤ 57) ↔ a_dig c) ∧ (a_dig c → b_sg c = c) := by
  obtain ⟨k, hk, rfl⟩ := vp_in_of (x := c) (n := 256) ((j_inl (N := 256) (by decide)).mpr ⟨h0, by grind⟩) (by omega)
  exact b_all ⟨k, hk⟩
set_option maxRecDepth 100000 in
theorem w_bits : ∀ x : Fin 1024, w_shl (nI x.val) = nI (2 * x.val) ∧ w_shr (nI x.val) = nI (x.val / 2) ∧ (nI x.val ||| 1) = nI (x.val / 2 * 2 + 1) ∧ (nI x.val &&& 1) = nI (x.val % 2) ∧ (nI x.val &&& -2) = nI (x.val / 2 * 2) ∧ (nI x.val ||| 0) = nI x.val := by decide +kernel
theorem w_bit {x : Nat} (h : x < 1024) : w_shl (nI x) = nI (2 * x) ∧ w_shr (nI x) = nI (x / 2) ∧ (nI x ||| 1) = nI (x / 2 * 2 + 1) ∧ (nI x &&& 1) = nI (x % 2) ∧ (nI x &&& -2) = nI (x / 2 * 2) ∧ (nI x ||| 0) = nI x := w_bits ⟨x, h⟩
theorem w_or1 (a b : Int32) : (a ||| b) &&& 1 = (a &&& 1) ||| (b &&& 1) := by
  apply Int32.toBitVec_inj.mp
  simp only [Int32.toBitVec_and, Int32.toBitVec_or]
  ext i
  simp only [BitVec.getElem_and, BitVec.getElem_or]
  cases (a.toBitVec)[i] <;> cases (b.toBitVec)[i] <;> simp
theorem w_hh_iff {f : Nat → Int32} {x y : Nat} (hx : x < 1024) (hy : y < 1024) (h1 : f 1 = nI x) (h2 : f 2 = nI y) : w_hh f = true ↔ (x % 2 = 1 ∨ y % 2 = 1) := by
  unfold w_hh
  rw [h1, h2, w_or1, (w_bit hx).2.2.2.1, (w_bit hy).2.2.2.1, decide_eq_true_eq]
  rcases Nat.mod_two_eq_zero_or_one x with e | e <;> rcases Nat.mod_two_eq_zero_or_one y with g | g <;> rw [e, g] <;> decide
theorem w_set_6 (f : Nat → Int32) : w_set f 6 = 0 := by
  unfold w_set w_cu
  by_cases h : f 6 = 0
  · rw [if_pos h, h]
  · rw [if_neg h]
    split <;> simp [upd]
theorem w_set_0 {f : Nat → Int32} (h : f 6 = 0) : w_set f = f := by
  unfold w_set
  rw [if_pos h]
theorem w_set_set (f : Nat → Int32) : w_set (w_set f) = w_set f := w_set_0 (w_set_6 f)
theorem w_take_32 (V f : Nat → Int32) : w_take V f 32 = w_set f := by
  unfold w_take w_jt
  rw [if_neg (by decide), if_neg (by decide), if_neg (by decide), if_neg (by decide), if_neg (by decide), if_neg (by decide)]
/-- spaces from i to j -/
def p_sp (T : Nat → Int32) (i j : Nat) : Prop := ∀ t, i ≤ t → t < j → T t = 32
theorem a_au_s {T : Nat → Int32} {i : Nat} {s : a_St} (h : a_au T i = some s) : a_au T (i + 1) = a_go s (T i) := by
  show (match a_au T i with | some s => a_go s (T i) | none => none) = _
  rw [h]
theorem au_sp {T : Nat → Int32} {i : Nat} {pl o dg : Int32} (h : a_au T i = some (pl, o, dg)) : ∀ k, p_sp T i (i + k) → a_au T (i + k) = some (if pl = 3 ∧ 0 < k then 4 else pl, o, dg)
  | 0, _ => by rw [if_neg (fun z => by omega)]; exact h
  | k + 1, hs => by
    have h1 := au_sp h k (fun t a b => hs t a (by omega))
    have h2 := a_au_s h1
    rw [hs (i + k) (by omega) (by omega)] at h2
    rw [show i + (k + 1) = i + k + 1 by omega, h2]
    unfold a_go
    rw [if_pos rfl]
    dsimp only
    by_cases e : pl = 3
    · by_cases e2 : 0 < k
      · simp [e, e2]
      · simp [e, e2]
    · simp [e]
theorem w_sp {V T f : Nat → Int32} {i : Nat} : ∀ k, p_sp T i (i + k) → w_set (w_run V T f (i + k)) = w_set (w_run V T f i)
  | 0, _ => rfl
  | k + 1, hs => by
    show w_set (w_take V (w_run V T f (i + k)) (T (i + k))) = _
    rw [hs (i + k) (by omega) (by omega), w_take_32, w_set_set]
    exact w_sp k (fun t a b => hs t a (by omega))
theorem w_sp0 {V T f : Nat → Int32} {i : Nat} (h : w_run V T f i 6 = 0) : ∀ k, p_sp T i (i + k) → w_run V T f (i + k) = w_run V T f i
  | 0, _ => rfl
  | k + 1, hs => by
    have h1 := w_sp0 h k (fun t a b => hs t a (by omega))
    show w_take V (w_run V T f (i + k)) (T (i + k)) = _
    rw [hs (i + k) (by omega) (by omega), w_take_32, h1, w_set_0 h]
theorem a_F1 {T : Nat → Int32} {n j : Nat} {s : a_St} (h : a_au T j = some s) (hj : j < n) (hg : a_go s (T j) = none) : a_F T n (nI j) := Or.inl ⟨j, s, hj, h, hg, rfl⟩
theorem a_F2 {T : Nat → Int32} {n : Nat} {s : a_St} (h : a_au T n = some s) (hg : ¬ (s.2.1 = 0 ∧ (s.1 = 3 ∨ s.1 = 4))) : a_F T n (nI n) := Or.inr ⟨s, h, by rw [if_neg hg]⟩
theorem a_F3 {T : Nat → Int32} {n : Nat} {s : a_St} (h : a_au T n = some s) (hg : s.2.1 = 0 ∧ (s.1 = 3 ∨ s.1 = 4)) : a_F T n (-1) := Or.inr ⟨s, h, by rw [if_pos hg]⟩
/-- a fault at j, where a sign doesn't fit or the text ends -/
theorem a_Fj {T : Nat → Int32} {n j : Nat} {s : a_St} (h : a_au T j = some s) (hj : j ≤ n) (hg : j < n → a_go s (T j) = none) (hw : j = n → ¬ (s.2.1 = 0 ∧ (s.1 = 3 ∨ s.1 = 4))) : a_F T n (nI j) := by
  by_cases e : j < n
  · exact a_F1 h e (hg e)
  · have e2 : j = n := by omega
    subst e2
    exact a_F2 h (hw rfl)
/-- the reference's reading: where it is, its fault, its brackets; all else as in μ0 -/
def p_S (μ0 m : j_M) (i : Nat) (e : Int32) (o : Nat) : Prop := (∀ b, b ≠ 42 → m b = μ0 b) ∧ (∀ j, j ≠ 46 → j ≠ 47 → j ≠ 48 → m 42 j = μ0 42 j) ∧ m 42 46 = nI i ∧ m 42 47 = e ∧ m 42 48 = nI o
/-- its text -/
def p_K (μ0 : j_M) (ρ fr n : Nat) (T : Nat → Int32) : Prop := (μ0 42 43).toNatClampNeg = ρ ∧ (ρ = 59 ∧ fr + n ≤ 120 ∨ ρ = 60 ∧ fr + n ≤ 3600) ∧ μ0 42 44 = nI fr ∧ μ0 42 45 = nI n ∧ n ≤ 120 ∧ (∀ k, k < n → 0 ≤ T k ∧ T k ≤ 255 ∧ μ0 ρ (fr + k) = b_sg (T k)) ∧ ∀ w, w < 6 → 0 ≤ μ0 76 w
theorem p_S.mv {μ0 m : j_M} {i : Nat} {e : Int32} {o : Nat} (h : p_S μ0 m i e o) (j : Nat) : p_S μ0 (j_up m 42 46 (nI j)) j e o := by
  obtain ⟨h1, h2, h3, h4, h5⟩ := h
  refine ⟨fun b hb => by rw [j_un _ _ _ hb]; exact h1 b hb, fun k a b c => by rw [j_us, u_n _ _ a]; exact h2 k a b c, by rw [j_us, u_s], by rw [j_us, u_n _ _ (by decide)]; exact h4, by rw [j_us, u_n _ _ (by decide)]; exact h5⟩
theorem p_S.op {μ0 m : j_M} {i : Nat} {e : Int32} {o : Nat} (h : p_S μ0 m i e o) (o' : Nat) : p_S μ0 (j_up m 42 48 (nI o')) i e o' := by
  obtain ⟨h1, h2, h3, h4, h5⟩ := h
  refine ⟨fun b hb => by rw [j_un _ _ _ hb]; exact h1 b hb, fun k a b c => by rw [j_us, u_n _ _ c]; exact h2 k a b c, by rw [j_us, u_n _ _ (by decide)]; exact h3, by rw [j_us, u_n _ _ (by decide)]; exact h4, by rw [j_us, u_s]⟩
theorem p_S.ft {μ0 m : j_M} {i : Nat} {e : Int32} {o : Nat} (h : p_S μ0 m i e o) (e' : Int32) : p_S μ0 (j_up m 42 47 e') i e' o := by
  obtain ⟨h1, h2, h3, h4, h5⟩ := h
  refine ⟨fun b hb => by rw [j_un _ _ _ hb]; exact h1 b hb, fun k a b c => by rw [j_us, u_n _ _ b]; exact h2 k a b c, by rw [j_us, u_n _ _ (by decide)]; exact h3, by rw [j_us, u_s], by rw [j_us, u_n _ _ (by decide)]; exact h5⟩
/-- what the runs want of a reading -/
theorem p_get {μ0 m : j_M} {i o ρ fr n : Nat} {e : Int32} {T : Nat → Int32} (hK : p_K μ0 ρ fr n T) (h : p_S μ0 m i e o) : (m 42 43).toNatClampNeg = ρ ∧ m 42 44 = nI fr ∧ m 42 45 = nI n ∧ m 42 46 = nI i ∧ m 42 47 = e ∧ m 42 48 = nI o ∧ m ρ = μ0 ρ ∧ m 76 = μ0 76 ∧ n ≤ 120 ∧ ρ < 78 ∧ ∃ N, j_SH[ρ]? = some (.inl (.byte, N)) ∧ fr + n ≤ N ∧ N ≤ 3600 := by
  obtain ⟨a1, a2, a3, a4, a5, a6, a7⟩ := hK
  obtain ⟨b1, b2, b3, b4, b5⟩ := h
  refine ⟨by rw [b2 43 (by decide) (by decide) (by decide)]; exact a1, by rw [b2 44 (by decide) (by decide) (by decide)]; exact a3, by rw [b2 45 (by decide) (by decide) (by decide)]; exact a4, b3, b4, b5, ?_, b1 76 (by decide), a5, ?_, ?_⟩
  · rcases a2 with ⟨rfl, -⟩ | ⟨rfl, -⟩ <;> exact b1 _ (by decide)
  · rcases a2 with ⟨rfl, -⟩ | ⟨rfl, -⟩ <;> decide
  · rcases a2 with ⟨rfl, z⟩ | ⟨rfl, z⟩
    · exact ⟨120, rfl, z, by omega⟩
    · exact ⟨3600, rfl, z, by omega⟩
set_option maxRecDepth 100000 in
theorem l_X10_look {μ0 : j_M} {ρ fr n o : Nat} {e : Int32} {T : Nat → Int32} {Q : j_Q} (hK : p_K μ0 ρ fr n T) : ∀ (k i : Nat) (m : j_M), i + k = n → p_S μ0 m i e o → (∀ j m', i ≤ j → j ≤ n → p_sp T i j → (j < n → ¬ T j = 32) → p_S μ0 m' j e o → Q (some (if j < n then T j else -1)) j_SH m') → j_J cX10_look 10 1 (some .int) false 0 none Q j_SH 0 0 0 [some (.ref 42)] [] m := by
  intro k
  induction k with
  | zero =>
    intro i m hi hS hQ
    obtain ⟨g1, g2, g3, g4, g5, g6, g7, g8, g9, g10, N, g11, g12, g13⟩ := p_get hK hS
    refine j_go (fun q => q == 0) 30 ?_
    simp only [qX10_look, j_f10, j_m10, j_ty, tyX10, ↓j_kt, ↓j_sel, ↓j_run_0, ↓j_run_s, ↓j_wp, ↓j_pi, ↓j_pii, ↓j_pl, ↓j_pll, ↓j_pli, ↓j_pr, ↓j_pri, ↓j_prii, ↓j_pvr, ↓j_pop, ↓j_gi, ↓j_gl, ↓j_ga, ↓j_ob, ↓j_ar, ↓j_fd, ↓j_fo, ↓j_mo, ↓j_br, ↓j_to, ↓j_lo, ↓j_scr, ↓j_co, ↓j_no, j_nf, j_rt, j_ld, j_st1, j_st2, j_k1, j_ci, j_fin, j_sh, j_shl, Option.map_some, Option.map_none, Option.toList_some, Option.toList_none, List.cons_append, List.nil_append, List.map_cons, List.map_nil, List.sum_cons, List.sum_nil, Value.category, List.getElem?_cons_zero, List.getElem?_cons_succ, List.length_cons, List.length_nil, true_and, and_true, if_true, if_false, ↓reduceIte, Bool.false_eq_true, Bool.true_eq_false, reduceCtorEq, Nat.reduceAdd, Nat.reduceLT, Nat.reduceLeDiff, Nat.reduceEqDiff, Nat.reduceBEq, Int.cast_ofNat_Int, Int.reduceAdd, Int.reduceNeg, Int.reduceSub, Int.reduceToNat, Int.reduceLE, Nat.zero_le, false_implies, implies_true, beq_self_eq_true, Bool.and_true, Bool.and_false, Bool.or_false, Bool.false_or, Bool.or_true, Bool.true_or, Bool.and_self, Bool.or_self, Nat.zero_add, Nat.add_zero, or_false, or_true, true_or, false_or, j_b0, ↓j_b1, j_b2, ↓j_b3, j_01, j_inb, and_self, Classical.not_not, Int32.reduceLE, Int32.reduceLT, Int32.reduceAdd, j_ne, eq_self, not_true_eq_false, not_false_eq_true, forall_const, and_false, false_and, j_sc, j_ent, Nat.reduceSub, List.replicate_zero, List.replicate_succ, g3, g4, nI_lt' (show i < 1000000 by omega) (show n < 1000000 by omega), nI_le' (show n < 1000000 by omega) (show i < 1000000 by omega)]
    have h := hQ i m (by omega) (by omega) (fun t a b => by omega) (fun z => by omega) hS
    rw [if_neg (by omega)] at h
    refine ⟨fun _ => ⟨fun _ => h, fun z => by omega⟩, fun z => by omega⟩
  | succ k ih =>
    intro i m hi hS hQ
    obtain ⟨g1, g2, g3, g4, g5, g6, g7, g8, g9, g10, N, g11, g12, g13⟩ := p_get hK hS
    obtain ⟨c1, c2, c3⟩ := hK.2.2.2.2.2.1 i (by omega)
    obtain ⟨d1, d2, d3, d4⟩ := b_at c1 c2
    have hin : vp_in (nI (fr + i)) N := nI_in' (by omega) (by omega)
    refine j_go (fun q => q == 0) 40 ?_
    simp only [qX10_look, j_f10, j_m10, j_ty, tyX10, ↓j_kt, ↓j_sel, ↓j_run_0, ↓j_run_s, ↓j_wp, ↓j_pi, ↓j_pii, ↓j_pl, ↓j_pll, ↓j_pli, ↓j_pr, ↓j_pri, ↓j_prii, ↓j_pvr, ↓j_pop, ↓j_gi, ↓j_gl, ↓j_ga, ↓j_ob, ↓j_ar, ↓j_fd, ↓j_fo, ↓j_mo, ↓j_br, ↓j_to, ↓j_lo, ↓j_scr, ↓j_co, ↓j_no, j_nf, j_rt, j_ld, j_st1, j_st2, j_k1, j_ci, j_fin, j_sh, j_shl, Option.map_some, Option.map_none, Option.toList_some, Option.toList_none, List.cons_append, List.nil_append, List.map_cons, List.map_nil, List.sum_cons, List.sum_nil, Value.category, List.getElem?_cons_zero, List.getElem?_cons_succ, List.length_cons, List.length_nil, true_and, and_true, if_true, if_false, ↓reduceIte, Bool.false_eq_true, Bool.true_eq_false, reduceCtorEq, Nat.reduceAdd, Nat.reduceLT, Nat.reduceLeDiff, Nat.reduceEqDiff, Nat.reduceBEq, Int.cast_ofNat_Int, Int.reduceAdd, Int.reduceNeg, Int.reduceSub, Int.reduceToNat, Int.reduceLE, Nat.zero_le, false_implies, implies_true, beq_self_eq_true, Bool.and_true, Bool.and_false, Bool.or_false, Bool.false_or, Bool.or_true, Bool.true_or, Bool.and_self, Bool.or_self, Nat.zero_add, Nat.add_zero, or_false, or_true, true_or, false_or, j_b0, ↓j_b1, j_b2, ↓j_b3, j_01, j_inb, and_self, Classical.not_not, Int32.reduceLE, Int32.reduceLT, Int32.reduceAdd, j_ne, eq_self, not_true_eq_false, not_false_eq_true, forall_const, and_false, false_and, j_sc, j_ent, Nat.reduceSub, List.replicate_zero, List.replicate_succ, g1, g2, g3, g4, g7, g10, g11, nI_add, hin, c3, d1, d2, nI_1, nI_cl' (show fr + i < 1000000 by omega), nI_lt' (show i < 1000000 by omega) (show n < 1000000 by omega), nI_le' (show n < 1000000 by omega) (show i < 1000000 by omega)]
    refine ⟨fun z => by omega, fun _ => ⟨fun z => ⟨fun y => by omega, fun _ => ?_⟩, fun z => ?_⟩⟩
    · have h := hQ i m (by omega) (by omega) (fun t a b => by omega) (fun _ => z) hS
      rw [if_pos (by omega)] at h
      exact h
    · refine ih (i + 1) _ (by omega) (hS.mv (i + 1)) (fun j m' a b c => hQ j m' (by omega) b (fun t t1 t2 => ?_))
      by_cases e : t = i
      · rw [e]; exact z
      · exact c t (by omega) t2
set_option maxRecDepth 100000 in
theorem f_X10_look {μ0 m : j_M} {ρ fr n o i : Nat} {e : Int32} {T : Nat → Int32} (hK : p_K μ0 ρ fr n T) (hS : p_S μ0 m i e o) (hi : i ≤ n) : j_R 0 yX10_look [.ref 42] m (fun r m' => ∃ j, i ≤ j ∧ j ≤ n ∧ p_sp T i j ∧ (j < n → ¬ T j = 32) ∧ p_S μ0 m' j e o ∧ r = some (if j < n then T j else -1)) := by
  refine eX10_look (Nat.le_of_ble_eq_true rfl) ?_
  exact l_X10_look hK (n - i) i m (by omega) hS (fun j m' a b c d s => ⟨rfl, j, a, b, c, d, s, rfl⟩)
