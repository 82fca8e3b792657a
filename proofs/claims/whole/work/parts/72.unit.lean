/-! the reference's unit, part, tests: walked -/
theorem j_R.mono {d : Nat} {y : MethodName} {as : List Value} {μ : j_M} {P P' : Option Int32 → j_M → Prop} (h : j_R d y as μ P) (hp : ∀ r m, P r m → P' r m) : j_R d y as μ P' := by
  obtain ⟨cc, maxL, ret, c1, c2, c3⟩ := h
  refine ⟨cc, maxL, ret, c1, c2, fun hok l D cA α sz => ?_⟩
  refine MetFree.mono (c3 hok l D cA α sz) (fun _ _ z => z) (fun _ _ _ _ _ z => z) (fun a st o t _ z => ?_)
  obtain ⟨⟨⟨r, sh', μ', α', e1, e2, e3⟩, e4⟩, e5⟩ := z
  exact ⟨⟨⟨r, sh', μ', α', e1, ⟨e2.1, hp _ _ e2.2⟩, e3⟩, e4⟩, e5⟩
theorem p_wr {μ0 m : j_M} {j o : Nat} (hS : p_S μ0 m j (-1) o) : j_R 0 yX10_wrong [.ref 42] m (fun r m' => r = none ∧ m' = j_up m 42 47 (nI j)) := by
  have h := f_X10_wrong m
  rw [hS.2.2.2.1, if_pos rfl, hS.2.2.1] at h
  exact h
theorem p_wF {μ0 m : j_M} {T : Nat → Int32} {n j o : Nat} (hS : p_S μ0 m j (-1) o) (hF : a_F T n (nI j)) (hj : j < 1000000) : p_F μ0 T n (j_up m 42 47 (nI j)) := ⟨j, nI j, o, hS.ft (nI j), hF, nI_m1 hj⟩
theorem p_dend {μ0 m : j_M} {T V f : Nat → Int32} {n o x y k d : Nat} {b : Bool} (hk : k ≤ n) (hS : p_S μ0 m k (-1) o) (hau : a_au T k = some (3, nI o, nI d)) (hnd : k < n → ¬ a_dig (T k)) (w1 : w_run V T f k 1 = nI x) (w2 : w_run V T f k 2 = nI y) (w6 : w_run V T f k 6 = 1) (hb : w_cmp (upd (w_run V T f k) 6 0) = b) (hx : x < 2 ^ (o + 1)) (hy : y < 2 ^ (o + 1)) (ho : o ≤ 8) : p_B μ0 T V f n o x (if b = true then y else y / 2 * 2) (fun _ => True) k m := by
  have y9 := p_p9 hy ho
  have e : w_set (w_run V T f k) = w_cu (upd (w_run V T f k) 6 0) b := by
    unfold w_set
    rw [if_neg (by rw [w6]; decide), hb]
  refine ⟨hk, hS, ⟨3, nI d, Or.inl rfl, hau, fun _ => hnd⟩, fun _ => trivial, ?_, ?_, hx, ?_⟩
  · rw [e]
    unfold w_cu
    split
    · rw [u_n _ _ (by decide)]; exact w1
    · rw [u_n _ _ (by decide), u_n _ _ (by decide)]; exact w1
  · rw [e]
    unfold w_cu
    cases b with
    | true => rw [if_pos rfl, if_pos rfl, u_n _ _ (by decide)]; exact w2
    | false => rw [if_neg (by decide), if_neg (by decide), u_s, u_n _ _ (by decide), w2]; exact (w_bit (show y < 1024 by omega)).2.2.2.2.1
  · split <;> omega
set_option maxRecDepth 100000 in
theorem l_X10_dig {μ0 : j_M} {ρ fr n o x y i D : Nat} {T V f : Nat → Int32} {b1 v sg c0 dg : Int32} {Q : j_Q} (hK : p_K μ0 ρ fr n T) (ho : o ≤ 8) (hD : 1 ≤ D) (hx : x < 2 ^ (o + 1)) (hy : y < 2 ^ (o + 1))
    (hQ1 : ∀ (b : Bool) (k : Nat) (m : j_M), i ≤ k → p_B μ0 T V f n o x (if b = true then y else y / 2 * 2) (fun _ => True) k m → Q (some (if b = true then 1 else 0)) j_SH m) (hQ2 : ∀ m, p_F μ0 T n m → Q (some 0) j_SH m) :
    ∀ (q k d : Nat) (m : j_M) (acc : Int32), k + q = n → i ≤ k → p_S μ0 m k (-1) o → d ≤ 5 → (d = 0 → k < n ∧ a_dig (T k)) → a_au T k = some (if d = 0 then 2 else 3, nI o, if d = 0 then dg else nI d) → w_run V T f k 1 = nI x → w_run V T f k 2 = nI y → w_run V T f k 3 = v → w_run V T f k 4 = sg → w_run V T f k 5 = acc → w_run V T f k 6 = (if d = 0 then 0 else 1) →
    j_J cX10_unit 10 7 (some .boolean) false D none Q j_SH 0 0 301 [some (.ref 42), some (.int b1), some (.int v), some (.int sg), some (.int c0), some (.int acc), some (.int (nI d))] [] m := by
  intro q
  have fin : ∀ (k d : Nat) (m : j_M) (acc : Int32), k ≤ n → i ≤ k → p_S μ0 m k (-1) o → ¬ d = 0 → (k < n → ¬ a_dig (T k)) → a_au T k = some (if d = 0 then 2 else 3, nI o, if d = 0 then dg else nI d) → w_run V T f k 1 = nI x → w_run V T f k 2 = nI y → w_run V T f k 3 = v → w_run V T f k 4 = sg → w_run V T f k 5 = acc → w_run V T f k 6 = (if d = 0 then 0 else 1) → ((if sg = 60 then decide (v < acc) else if sg = 62 then decide (acc < v) else decide (v = acc)) = true → Q (some 1) j_SH m) ∧ ((if sg = 60 then decide (v < acc) else if sg = 62 then decide (acc < v) else decide (v = acc)) = false → Q (some 0) j_SH m) := by
    intro k d m acc hk hi hS hd hnd hau w1 w2 w3 w4 w5 w6
    rw [if_neg hd, if_neg hd] at hau
    rw [if_neg hd] at w6
    have hc : w_cmp (upd (w_run V T f k) 6 0) = (if sg = 60 then decide (v < acc) else if sg = 62 then decide (acc < v) else decide (v = acc)) := by
      unfold w_cmp
      rw [u_n _ _ (show (4 : Nat) ≠ 6 by decide), u_n _ _ (show (3 : Nat) ≠ 6 by decide), u_n _ _ (show (5 : Nat) ≠ 6 by decide), w3, w4, w5]
    rw [← hc]
    exact ⟨fun e => hQ1 true k m hi (p_dend hk hS hau hnd w1 w2 w6 e hx hy ho), fun e => hQ1 false k m hi (p_dend hk hS hau hnd w1 w2 w6 e hx hy ho)⟩
  induction q with
  | zero =>
    intro k d m acc hk hi hS hd hd0 hau w1 w2 w3 w4 w5 w6
    obtain ⟨g1, g2, g3, g4, g5, g6, g7, g8, g9, g10, N, g11, g12, g13⟩ := p_get hK hS
    have hd' : ¬ d = 0 := fun z => by have := (hd0 z).1; omega
    obtain ⟨f1, f0⟩ := fin k d m acc (by omega) hi hS hd' (fun z => by omega) hau w1 w2 w3 w4 w5 w6
    refine j_go (fun q => q == 301) 60 ?_
    simp only [qX10_unit, j_f10, j_m10, j_ty, tyX10, ↓j_kt, ↓j_sel, ↓j_run_0, ↓j_run_s, ↓j_wp, ↓j_pi, ↓j_pii, ↓j_pl, ↓j_pll, ↓j_pli, ↓j_pr, ↓j_pri, ↓j_prii, ↓j_pvr, ↓j_pop, ↓j_gi, ↓j_gl, ↓j_ga, ↓j_ob, ↓j_ar, ↓j_fd, ↓j_fo, ↓j_mo, ↓j_br, ↓j_to, ↓j_lo, ↓j_scr, ↓j_co, ↓j_no, j_nf, j_rt, j_ld, j_st1, j_st2, j_k1, j_ci, j_fin, j_sh, j_shl, Option.map_some, Option.map_none, Option.toList_some, Option.toList_none, List.cons_append, List.nil_append, List.map_cons, List.map_nil, List.sum_cons, List.sum_nil, Value.category, List.getElem?_cons_zero, List.getElem?_cons_succ, List.length_cons, List.length_nil, true_and, and_true, if_true, if_false, ↓reduceIte, Bool.false_eq_true, Bool.true_eq_false, reduceCtorEq, Nat.reduceAdd, Nat.reduceLT, Nat.reduceLeDiff, Nat.reduceEqDiff, Nat.reduceBEq, Int.cast_ofNat_Int, Int.reduceAdd, Int.reduceNeg, Int.reduceSub, Int.reduceToNat, Int.reduceLE, Nat.zero_le, false_implies, implies_true, beq_self_eq_true, Bool.and_true, Bool.and_false, Bool.or_false, Bool.false_or, Bool.or_true, Bool.true_or, Bool.and_self, Bool.or_self, Nat.zero_add, Nat.add_zero, or_false, or_true, true_or, false_or, j_b0, ↓j_b1, j_b2, ↓j_b3, j_01, j_inb, and_self, Classical.not_not, Int32.reduceLE, Int32.reduceLT, Int32.reduceAdd, j_ne, eq_self, not_true_eq_false, not_false_eq_true, forall_const, and_false, false_and, j_sc, j_ent, Nat.reduceSub, List.replicate_zero, List.replicate_succ, g3, g4, nI_lt' (show k < 1000000 by omega) (show n < 1000000 by omega), nI_le' (show n < 1000000 by omega) (show k < 1000000 by omega)]
    clear hQ1 hQ2 fin
    generalize Q (some 1) j_SH m = A1 at f1 ⊢
    generalize Q (some 0) j_SH m = A0 at f0 ⊢
    grind
  | succ q ih =>
    intro k d m acc hk hi hS hd hd0 hau w1 w2 w3 w4 w5 w6
    obtain ⟨g1, g2, g3, g4, g5, g6, g7, g8, g9, g10, N, g11, g12, g13⟩ := p_get hK hS
    obtain ⟨c1, c2, c3⟩ := hK.2.2.2.2.2.1 k (by omega)
    obtain ⟨d1, d2, d3, d4⟩ := b_at c1 c2
    have hin : vp_in (nI (fr + k)) N := nI_in' (by omega) (by omega)
    refine j_go (fun q => q == 301) 60 ?_
    simp only [qX10_unit, j_f10, j_m10, j_ty, tyX10, ↓j_kt, ↓j_sel, ↓j_run_0, ↓j_run_s, ↓j_wp, ↓j_pi, ↓j_pii, ↓j_pl, ↓j_pll, ↓j_pli, ↓j_pr, ↓j_pri, ↓j_prii, ↓j_pvr, ↓j_pop, ↓j_gi, ↓j_gl, ↓j_ga, ↓j_ob, ↓j_ar, ↓j_fd, ↓j_fo, ↓j_mo, ↓j_br, ↓j_to, ↓j_lo, ↓j_scr, ↓j_co, ↓j_no, j_nf, j_rt, j_ld, j_st1, j_st2, j_k1, j_ci, j_fin, j_sh, j_shl, Option.map_some, Option.map_none, Option.toList_some, Option.toList_none, List.cons_append, List.nil_append, List.map_cons, List.map_nil, List.sum_cons, List.sum_nil, Value.category, List.getElem?_cons_zero, List.getElem?_cons_succ, List.length_cons, List.length_nil, true_and, and_true, if_true, if_false, ↓reduceIte, Bool.false_eq_true, Bool.true_eq_false, reduceCtorEq, Nat.reduceAdd, Nat.reduceLT, Nat.reduceLeDiff, Nat.reduceEqDiff, Nat.reduceBEq, Int.cast_ofNat_Int, Int.reduceAdd, Int.reduceNeg, Int.reduceSub, Int.reduceToNat, Int.reduceLE, Nat.zero_le, false_implies, implies_true, beq_self_eq_true, Bool.and_true, Bool.and_false, Bool.or_false, Bool.false_or, Bool.or_true, Bool.true_or, Bool.and_self, Bool.or_self, Nat.zero_add, Nat.add_zero, or_false, or_true, true_or, false_or, j_b0, ↓j_b1, j_b2, ↓j_b3, j_01, j_inb, and_self, Classical.not_not, Int32.reduceLE, Int32.reduceLT, Int32.reduceAdd, j_ne, eq_self, not_true_eq_false, not_false_eq_true, forall_const, and_false, false_and, j_sc, j_ent, Nat.reduceSub, List.replicate_zero, List.replicate_succ, g1, g2, g3, g4, g7, g10, g11, nI_add, hin, c3, nI_1, nI_cl' (show fr + k < 1000000 by omega), nI_lt' (show k < 1000000 by omega) (show n < 1000000 by omega), nI_le' (show n < 1000000 by omega) (show k < 1000000 by omega)]
    by_cases dg' : a_dig (T k)
    · have hr := d3.mpr dg'
      have hg : a_go (if d = 0 then 2 else 3, nI o, if d = 0 then dg else nI d) (T k) = if d = 5 then none else some (3, nI o, nI (d + 1)) := by
        have n32 : ¬ T k = 32 := fun z => by rw [z] at dg'; exact absurd dg' (by decide)
        unfold a_go
        dsimp only
        rw [if_neg n32]
        by_cases z : d = 0
        · subst z
          simp only [if_true]
          rw [if_neg (by decide), if_neg (by decide), if_pos dg', if_neg (by decide)]
          rfl
        · simp only [if_neg z]
          rw [if_neg (by decide), if_neg (by decide), if_neg (by decide), if_pos trivial, if_pos dg', nI_1]
          by_cases y5 : d = 5
          · rw [if_pos y5, y5, if_neg (by decide)]
          · rw [if_neg y5, if_pos (show nI (d + 1) ≤ 5 from (nI_le' (a := d + 1) (b := 5) (by omega) (by omega)).mpr (by omega))]
      have e5 : nI d = 5 ↔ d = 5 := nI_eq' (b := 5) (by omega) (by omega)
      refine ⟨fun z => by omega, fun _ => ⟨fun z => by grind, fun _ => ⟨fun z => by grind, fun _ => ⟨fun z => ?_, fun z => ?_⟩⟩⟩⟩
      · have d5 : ¬ d = 5 := fun y => z (e5.mpr y)
        have hw : w_run V T f (k + 1) = upd (upd (w_run V T f k) 5 (w_run V T f k 5 * 10 + (T k - 48))) 6 1 := by
          show w_take V _ (T k) = _
          unfold w_take
          rw [if_pos dg']
        refine ih (k + 1) (d + 1) _ _ (by omega) (by omega) (hS.mv (k + 1)) (by omega) (fun y => by omega) ?_ ?_ ?_ ?_ ?_ ?_ ?_
        · rw [a_au_s hau, hg, if_neg d5, if_neg (by omega), if_neg (by omega)]
        · rw [hw, u_n _ _ (by decide), u_n _ _ (by decide)]; exact w1
        · rw [hw, u_n _ _ (by decide), u_n _ _ (by decide)]; exact w2
        · rw [hw, u_n _ _ (by decide), u_n _ _ (by decide)]; exact w3
        · rw [hw, u_n _ _ (by decide), u_n _ _ (by decide)]; exact w4
        · rw [hw, u_n _ _ (by decide), u_s, w5, d4 dg']
          grind
        · rw [hw, u_s, if_neg (by omega)]
      · refine j_use1 (p_wr hS) (by omega) ?_
        simp only [qX10_unit, j_f10, j_m10, j_ty, tyX10, ↓j_kt, ↓j_sel, ↓j_run_0, ↓j_run_s, ↓j_wp, ↓j_pi, ↓j_pii, ↓j_pl, ↓j_pll, ↓j_pli, ↓j_pr, ↓j_pri, ↓j_prii, ↓j_pvr, ↓j_pop, ↓j_gi, ↓j_gl, ↓j_ga, ↓j_ob, ↓j_ar, ↓j_fd, ↓j_fo, ↓j_mo, ↓j_br, ↓j_to, ↓j_lo, ↓j_scr, ↓j_co, ↓j_no, j_nf, j_rt, j_ld, j_st1, j_st2, j_k1, j_ci, j_fin, j_sh, j_shl, Option.map_some, Option.map_none, Option.toList_some, Option.toList_none, List.cons_append, List.nil_append, List.map_cons, List.map_nil, List.sum_cons, List.sum_nil, Value.category, List.getElem?_cons_zero, List.getElem?_cons_succ, List.length_cons, List.length_nil, true_and, and_true, if_true, if_false, ↓reduceIte, Bool.false_eq_true, Bool.true_eq_false, reduceCtorEq, Nat.reduceAdd, Nat.reduceLT, Nat.reduceLeDiff, Nat.reduceEqDiff, Nat.reduceBEq, Int.cast_ofNat_Int, Int.reduceAdd, Int.reduceNeg, Int.reduceSub, Int.reduceToNat, Int.reduceLE, Nat.zero_le, false_implies, implies_true, beq_self_eq_true, Bool.and_true, Bool.and_false, Bool.or_false, Bool.false_or, Bool.or_true, Bool.true_or, Bool.and_self, Bool.or_self, Nat.zero_add, Nat.add_zero, or_false, or_true, true_or, false_or, j_b0, ↓j_b1, j_b2, ↓j_b3, j_01, j_inb, and_self, Classical.not_not, Int32.reduceLE, Int32.reduceLT, Int32.reduceAdd, j_ne, eq_self, not_true_eq_false, not_false_eq_true, forall_const, and_false, false_and, j_sc, j_ent, Nat.reduceSub, List.replicate_zero, List.replicate_succ]
        exact hQ2 _ (p_wF hS (a_F1 hau (by omega) (by rw [hg, if_pos (e5.mp z)])) (by omega))
    · have hd' : ¬ d = 0 := fun z => dg' (hd0 z).2
      obtain ⟨f1, f0⟩ := fin k d m acc (by omega) hi hS hd' (fun _ => dg') hau w1 w2 w3 w4 w5 w6
      have hr : ¬ (48 ≤ b_sg (T k) ∧ b_sg (T k) ≤ 57) := fun z => dg' (d3.mp z)
      clear hQ1 hQ2 fin ih
      generalize Q (some 1) j_SH m = A1 at f1 ⊢
      generalize Q (some 0) j_SH m = A0 at f0 ⊢
      generalize b_sg (T k) = c at hr ⊢
      refine ⟨fun z => by omega, fun _ => ⟨fun _ => ?_, fun a => ⟨fun _ => ?_, fun b => absurd ⟨a, b⟩ hr⟩⟩⟩ <;> grind
def p_U (μ0 : j_M) (T V f : Nat → Int32) (n o d : Nat) : Prop := ∀ m i x y, p_A μ0 T V f n o x y i m → j_R d yX10_unit [.ref 42] m (fun r m' => ∃ b : Bool, r = some (if b = true then 1 else 0) ∧ (p_F μ0 T n m' ∨ ∃ j, i ≤ j ∧ p_B μ0 T V f n o x (if b = true then y else y / 2 * 2) (fun _ => True) j m'))
def p_Pt (μ0 : j_M) (T V f : Nat → Int32) (n o d : Nat) : Prop := ∀ m i x y, p_A μ0 T V f n o x y i m → j_R d yX10_part [.ref 42] m (fun r m' => ∃ b : Bool, r = some (if b = true then 1 else 0) ∧ (p_F μ0 T n m' ∨ ∃ j, i ≤ j ∧ p_B μ0 T V f n o x (if b = true then y else y / 2 * 2) (fun c => ¬ c = 32 ∧ ¬ c = 38) j m'))
def p_Ts (μ0 : j_M) (T V f : Nat → Int32) (n o d : Nat) : Prop := ∀ m i x y, p_A μ0 T V f n o x y i m → x % 2 = 0 → y % 2 = 1 → j_R d yX10_tests [.ref 42] m (fun r m' => ∃ b : Bool, r = some (if b = true then 1 else 0) ∧ (p_F μ0 T n m' ∨ ∃ j x' y', i ≤ j ∧ p_B μ0 T V f n o x' y' (fun c => ¬ c = 32 ∧ ¬ c = 38 ∧ ¬ c = 124) j m' ∧ x' / 2 = x / 2 ∧ y' / 2 = y / 2 ∧ (b = true ↔ (x' % 2 = 1 ∨ y' % 2 = 1))))
set_option maxRecDepth 100000 in
theorem l_X10_word {μ0 m : j_M} {ρ fr n o x y i j0 D : Nat} {T V f : Nat → Int32} {v : Int32} {Q : j_Q} (hK : p_K μ0 ρ fr n T) (ho : o ≤ 8) (hD : 1 ≤ D) (hA : p_A μ0 T V f n o x y j0 m) (hi : i ≤ j0) (h32 : j0 < n → ¬ T j0 = 32) (h40 : j0 < n → ¬ T j0 = 40) (hv : (j0 < n ∧ a_word (T j0) ∧ v = w_val V (T j0) ∧ ¬ v = -1) ∨ (¬ (j0 < n ∧ a_word (T j0)) ∧ v = -1))
    (hQ1 : ∀ (b : Bool) (k : Nat) (m : j_M), i ≤ k → p_B μ0 T V f n o x (if b = true then y else y / 2 * 2) (fun _ => True) k m → Q (some (if b = true then 1 else 0)) j_SH m) (hQ2 : ∀ m, p_F μ0 T n m → Q (some 0) j_SH m) :
    j_J cX10_unit 10 7 (some .boolean) false D none Q j_SH 0 0 209 [some (.ref 42), some (.int (if j0 < n then T j0 else -1)), some (.int v), none, none, none, none] [] m := by
  obtain ⟨a1, hS, ⟨dg, a3⟩, a4, a5, a6, a7, a8⟩ := hA
  have n120 := hK.2.2.2.2.1
  obtain ⟨g1, g2, g3, g4, g5, g6, g7, g8, g9, g10, N, g11, g12, g13⟩ := p_get hK hS
  refine j_go (fun q => q == 259 || q == 301) 60 ?_
  simp only [qX10_unit, j_f10, j_m10, j_ty, tyX10, ↓j_kt, ↓j_sel, ↓j_run_0, ↓j_run_s, ↓j_wp, ↓j_pi, ↓j_pii, ↓j_pl, ↓j_pll, ↓j_pli, ↓j_pr, ↓j_pri, ↓j_prii, ↓j_pvr, ↓j_pop, ↓j_gi, ↓j_gl, ↓j_ga, ↓j_ob, ↓j_ar, ↓j_fd, ↓j_fo, ↓j_mo, ↓j_br, ↓j_to, ↓j_lo, ↓j_scr, ↓j_co, ↓j_no, j_nf, j_rt, j_ld, j_st1, j_st2, j_k1, j_ci, j_fin, j_sh, j_shl, Option.map_some, Option.map_none, Option.toList_some, Option.toList_none, List.cons_append, List.nil_append, List.map_cons, List.map_nil, List.sum_cons, List.sum_nil, Value.category, List.getElem?_cons_zero, List.getElem?_cons_succ, List.length_cons, List.length_nil, true_and, and_true, if_true, if_false, ↓reduceIte, Bool.false_eq_true, Bool.true_eq_false, reduceCtorEq, Nat.reduceAdd, Nat.reduceLT, Nat.reduceLeDiff, Nat.reduceEqDiff, Nat.reduceBEq, Int.cast_ofNat_Int, Int.reduceAdd, Int.reduceNeg, Int.reduceSub, Int.reduceToNat, Int.reduceLE, Nat.zero_le, false_implies, implies_true, beq_self_eq_true, Bool.and_true, Bool.and_false, Bool.or_false, Bool.false_or, Bool.or_true, Bool.true_or, Bool.and_self, Bool.or_self, Nat.zero_add, Nat.add_zero, or_false, or_true, true_or, false_or, j_b0, ↓j_b1, j_b2, ↓j_b3, j_01, j_inb, and_self, Classical.not_not, Int32.reduceLE, Int32.reduceLT, Int32.reduceAdd, j_ne, eq_self, not_true_eq_false, not_false_eq_true, forall_const, and_false, false_and, j_sc, j_ent, Nat.reduceSub, List.replicate_zero, List.replicate_succ, g4, nI_1]
  rcases hv with ⟨b1, b2, b3, b4⟩ | ⟨b1, b2⟩
  · refine ⟨fun _ => ?_, fun z => absurd z b4⟩
    have u1 : a_au T (j0 + 1) = some (1, nI o, dg) := by
      rw [a_au_s a3]
      unfold a_go a_beg
      dsimp only
      rw [if_neg (h32 b1), if_pos rfl, if_neg (h40 b1), if_pos b2]
    have nd : ¬ a_dig (T j0) := by
      rcases b2 with e | e | e | e | e | e | e <;> rw [e] <;> decide
    have w1 : w_run V T f (j0 + 1) = upd (w_run V T f j0) 3 v := by
      show w_take V _ (T j0) = _
      unfold w_take
      rw [if_neg nd, if_pos b2, w_set_0 a4, b3]
    have w16 : w_run V T f (j0 + 1) 6 = 0 := by rw [w1, u_n _ _ (by decide)]; exact a4
    refine j_use (f_X10_look hK (hS.mv (j0 + 1)) (by omega)) (by omega) (fun r m1 hp => ?_)
    obtain ⟨j1, c1, c2, c3, c4, hS1, rfl⟩ := hp
    obtain ⟨k1, rfl⟩ : ∃ k, j1 = j0 + 1 + k := ⟨j1 - (j0 + 1), by omega⟩
    have u2 := au_sp u1 k1 c3
    rw [if_neg (fun z => absurd z.1 (by decide))] at u2
    have w2 := w_sp0 w16 k1 c3
    generalize j0 + 1 + k1 = j1 at c1 c2 c3 c4 hS1 u2 w2 ⊢
    generalize hsg : (if j1 < n then T j1 else -1) = sg
    have q4 := hS1.2.2.1
    simp only [qX10_unit, j_f10, j_m10, j_ty, tyX10, ↓j_kt, ↓j_sel, ↓j_run_0, ↓j_run_s, ↓j_wp, ↓j_pi, ↓j_pii, ↓j_pl, ↓j_pll, ↓j_pli, ↓j_pr, ↓j_pri, ↓j_prii, ↓j_pvr, ↓j_pop, ↓j_gi, ↓j_gl, ↓j_ga, ↓j_ob, ↓j_ar, ↓j_fd, ↓j_fo, ↓j_mo, ↓j_br, ↓j_to, ↓j_lo, ↓j_scr, ↓j_co, ↓j_no, j_nf, j_rt, j_ld, j_st1, j_st2, j_k1, j_ci, j_fin, j_sh, j_shl, Option.map_some, Option.map_none, Option.toList_some, Option.toList_none, List.cons_append, List.nil_append, List.map_cons, List.map_nil, List.sum_cons, List.sum_nil, Value.category, List.getElem?_cons_zero, List.getElem?_cons_succ, List.length_cons, List.length_nil, true_and, and_true, if_true, if_false, ↓reduceIte, Bool.false_eq_true, Bool.true_eq_false, reduceCtorEq, Nat.reduceAdd, Nat.reduceLT, Nat.reduceLeDiff, Nat.reduceEqDiff, Nat.reduceBEq, Int.cast_ofNat_Int, Int.reduceAdd, Int.reduceNeg, Int.reduceSub, Int.reduceToNat, Int.reduceLE, Nat.zero_le, false_implies, implies_true, beq_self_eq_true, Bool.and_true, Bool.and_false, Bool.or_false, Bool.false_or, Bool.or_true, Bool.true_or, Bool.and_self, Bool.or_self, Nat.zero_add, Nat.add_zero, or_false, or_true, true_or, false_or, j_b0, ↓j_b1, j_b2, ↓j_b3, j_01, j_inb, and_self, Classical.not_not, Int32.reduceLE, Int32.reduceLT, Int32.reduceAdd, j_ne, eq_self, not_true_eq_false, not_false_eq_true, forall_const, and_false, false_and, j_sc, j_ent, Nat.reduceSub, List.replicate_zero, List.replicate_succ, q4, nI_1]
    have bad : (¬ sg = 60 ∧ ¬ sg = 62 ∧ ¬ sg = 61) → Q (some 0) j_SH (j_up m1 42 47 (nI j1)) := by
      rintro ⟨e1, e2, e3⟩
      refine hQ2 _ (p_wF hS1 (a_Fj u2 c2 (fun z => ?_) (fun _ => by dsimp only; intro z; rcases z.2 with q | q <;> exact absurd q (by decide))) (by omega))
      rw [if_pos z] at hsg
      unfold a_go
      dsimp only
      rw [if_neg (c4 z), if_neg (by decide), if_pos rfl, if_neg (by rw [hsg]; exact fun q => q.elim e1 (fun q => q.elim e2 e3))]
    have good : (sg = 60 ∨ sg = 62 ∨ sg = 61) → j_J cX10_unit 10 7 (some .boolean) false D none Q j_SH 0 0 259 [some (.ref 42), some (.int (if j0 < n then T j0 else -1)), some (.int v), some (.int sg), none, none, none] [] m1 := by
      intro hs
      have hj1 : j1 < n := by
        by_cases z : j1 < n
        · exact z
        · rw [if_neg z] at hsg
          rw [← hsg] at hs
          exact absurd hs (by decide)
      rw [if_pos hj1] at hsg
      have u3 : a_au T (j1 + 1) = some (2, nI o, dg) := by
        rw [a_au_s u2]
        unfold a_go
        dsimp only
        rw [if_neg (c4 hj1), if_neg (by decide), if_pos rfl, hsg, if_pos hs]
      have w3 : w_run V T f (j1 + 1) = upd (upd (upd (w_run V T f j0) 3 v) 4 sg) 5 0 := by
        show w_take V _ (T j1) = _
        have nd1 : ¬ a_dig sg := by rcases hs with e | e | e <;> rw [e] <;> decide
        have nw1 : ¬ a_word sg := by rcases hs with e | e | e <;> rw [e] <;> decide
        unfold w_take
        rw [hsg, if_neg nd1, if_neg nw1, if_pos hs, w2, w_set_0 w16, w1]
      have w36 : w_run V T f (j1 + 1) 6 = 0 := by rw [w3, u_n _ _ (by decide), u_n _ _ (by decide), u_n _ _ (by decide)]; exact a4
      refine j_go (fun q => q == 289 || q == 301) 60 ?_
      simp only [qX10_unit, j_f10, j_m10, j_ty, tyX10, ↓j_kt, ↓j_sel, ↓j_run_0, ↓j_run_s, ↓j_wp, ↓j_pi, ↓j_pii, ↓j_pl, ↓j_pll, ↓j_pli, ↓j_pr, ↓j_pri, ↓j_prii, ↓j_pvr, ↓j_pop, ↓j_gi, ↓j_gl, ↓j_ga, ↓j_ob, ↓j_ar, ↓j_fd, ↓j_fo, ↓j_mo, ↓j_br, ↓j_to, ↓j_lo, ↓j_scr, ↓j_co, ↓j_no, j_nf, j_rt, j_ld, j_st1, j_st2, j_k1, j_ci, j_fin, j_sh, j_shl, Option.map_some, Option.map_none, Option.toList_some, Option.toList_none, List.cons_append, List.nil_append, List.map_cons, List.map_nil, List.sum_cons, List.sum_nil, Value.category, List.getElem?_cons_zero, List.getElem?_cons_succ, List.length_cons, List.length_nil, true_and, and_true, if_true, if_false, ↓reduceIte, Bool.false_eq_true, Bool.true_eq_false, reduceCtorEq, Nat.reduceAdd, Nat.reduceLT, Nat.reduceLeDiff, Nat.reduceEqDiff, Nat.reduceBEq, Int.cast_ofNat_Int, Int.reduceAdd, Int.reduceNeg, Int.reduceSub, Int.reduceToNat, Int.reduceLE, Nat.zero_le, false_implies, implies_true, beq_self_eq_true, Bool.and_true, Bool.and_false, Bool.or_false, Bool.false_or, Bool.or_true, Bool.true_or, Bool.and_self, Bool.or_self, Nat.zero_add, Nat.add_zero, or_false, or_true, true_or, false_or, j_b0, ↓j_b1, j_b2, ↓j_b3, j_01, j_inb, and_self, Classical.not_not, Int32.reduceLE, Int32.reduceLT, Int32.reduceAdd, j_ne, eq_self, not_true_eq_false, not_false_eq_true, forall_const, and_false, false_and, j_sc, j_ent, Nat.reduceSub, List.replicate_zero, List.replicate_succ, q4, nI_1]
      refine j_use (f_X10_look hK (hS1.mv (j1 + 1)) (by omega)) (by omega) (fun r m2 hp => ?_)
      obtain ⟨j2, e1, e2, e3, e4, hS2, rfl⟩ := hp
      obtain ⟨k2, rfl⟩ : ∃ k, j2 = j1 + 1 + k := ⟨j2 - (j1 + 1), by omega⟩
      have u4 := au_sp u3 k2 e3
      rw [if_neg (fun z => absurd z.1 (by decide))] at u4
      have w4 := w_sp0 w36 k2 e3
      rw [w3] at w4
      generalize j1 + 1 + k2 = j2 at e1 e2 e3 e4 hS2 u4 w4 ⊢
      generalize hc : (if j2 < n then T j2 else -1) = c
      simp only [qX10_unit, j_f10, j_m10, j_ty, tyX10, ↓j_kt, ↓j_sel, ↓j_run_0, ↓j_run_s, ↓j_wp, ↓j_pi, ↓j_pii, ↓j_pl, ↓j_pll, ↓j_pli, ↓j_pr, ↓j_pri, ↓j_prii, ↓j_pvr, ↓j_pop, ↓j_gi, ↓j_gl, ↓j_ga, ↓j_ob, ↓j_ar, ↓j_fd, ↓j_fo, ↓j_mo, ↓j_br, ↓j_to, ↓j_lo, ↓j_scr, ↓j_co, ↓j_no, j_nf, j_rt, j_ld, j_st1, j_st2, j_k1, j_ci, j_fin, j_sh, j_shl, Option.map_some, Option.map_none, Option.toList_some, Option.toList_none, List.cons_append, List.nil_append, List.map_cons, List.map_nil, List.sum_cons, List.sum_nil, Value.category, List.getElem?_cons_zero, List.getElem?_cons_succ, List.length_cons, List.length_nil, true_and, and_true, if_true, if_false, ↓reduceIte, Bool.false_eq_true, Bool.true_eq_false, reduceCtorEq, Nat.reduceAdd, Nat.reduceLT, Nat.reduceLeDiff, Nat.reduceEqDiff, Nat.reduceBEq, Int.cast_ofNat_Int, Int.reduceAdd, Int.reduceNeg, Int.reduceSub, Int.reduceToNat, Int.reduceLE, Nat.zero_le, false_implies, implies_true, beq_self_eq_true, Bool.and_true, Bool.and_false, Bool.or_false, Bool.false_or, Bool.or_true, Bool.true_or, Bool.and_self, Bool.or_self, Nat.zero_add, Nat.add_zero, or_false, or_true, true_or, false_or, j_b0, ↓j_b1, j_b2, ↓j_b3, j_01, j_inb, and_self, Classical.not_not, Int32.reduceLE, Int32.reduceLT, Int32.reduceAdd, j_ne, eq_self, not_true_eq_false, not_false_eq_true, forall_const, and_false, false_and, j_sc, j_ent, Nat.reduceSub, List.replicate_zero, List.replicate_succ]
      have bad2 : ¬ a_dig c → j_J cX10_unit 10 7 (some .boolean) false D none Q j_SH 0 0 289 [some (.ref 42), some (.int (if j0 < n then T j0 else -1)), some (.int v), some (.int sg), some (.int c), none, none] [] m2 := by
        intro hc2
        refine j_go (fun q => false) 10 ?_
        simp only [qX10_unit, j_f10, j_m10, j_ty, tyX10, ↓j_kt, ↓j_sel, ↓j_run_0, ↓j_run_s, ↓j_wp, ↓j_pi, ↓j_pii, ↓j_pl, ↓j_pll, ↓j_pli, ↓j_pr, ↓j_pri, ↓j_prii, ↓j_pvr, ↓j_pop, ↓j_gi, ↓j_gl, ↓j_ga, ↓j_ob, ↓j_ar, ↓j_fd, ↓j_fo, ↓j_mo, ↓j_br, ↓j_to, ↓j_lo, ↓j_scr, ↓j_co, ↓j_no, j_nf, j_rt, j_ld, j_st1, j_st2, j_k1, j_ci, j_fin, j_sh, j_shl, Option.map_some, Option.map_none, Option.toList_some, Option.toList_none, List.cons_append, List.nil_append, List.map_cons, List.map_nil, List.sum_cons, List.sum_nil, Value.category, List.getElem?_cons_zero, List.getElem?_cons_succ, List.length_cons, List.length_nil, true_and, and_true, if_true, if_false, ↓reduceIte, Bool.false_eq_true, Bool.true_eq_false, reduceCtorEq, Nat.reduceAdd, Nat.reduceLT, Nat.reduceLeDiff, Nat.reduceEqDiff, Nat.reduceBEq, Int.cast_ofNat_Int, Int.reduceAdd, Int.reduceNeg, Int.reduceSub, Int.reduceToNat, Int.reduceLE, Nat.zero_le, false_implies, implies_true, beq_self_eq_true, Bool.and_true, Bool.and_false, Bool.or_false, Bool.false_or, Bool.or_true, Bool.true_or, Bool.and_self, Bool.or_self, Nat.zero_add, Nat.add_zero, or_false, or_true, true_or, false_or, j_b0, ↓j_b1, j_b2, ↓j_b3, j_01, j_inb, and_self, Classical.not_not, Int32.reduceLE, Int32.reduceLT, Int32.reduceAdd, j_ne, eq_self, not_true_eq_false, not_false_eq_true, forall_const, and_false, false_and, j_sc, j_ent, Nat.reduceSub, List.replicate_zero, List.replicate_succ]
        refine j_use1 (p_wr hS2) (by omega) ?_
        simp only [qX10_unit, j_f10, j_m10, j_ty, tyX10, ↓j_kt, ↓j_sel, ↓j_run_0, ↓j_run_s, ↓j_wp, ↓j_pi, ↓j_pii, ↓j_pl, ↓j_pll, ↓j_pli, ↓j_pr, ↓j_pri, ↓j_prii, ↓j_pvr, ↓j_pop, ↓j_gi, ↓j_gl, ↓j_ga, ↓j_ob, ↓j_ar, ↓j_fd, ↓j_fo, ↓j_mo, ↓j_br, ↓j_to, ↓j_lo, ↓j_scr, ↓j_co, ↓j_no, j_nf, j_rt, j_ld, j_st1, j_st2, j_k1, j_ci, j_fin, j_sh, j_shl, Option.map_some, Option.map_none, Option.toList_some, Option.toList_none, List.cons_append, List.nil_append, List.map_cons, List.map_nil, List.sum_cons, List.sum_nil, Value.category, List.getElem?_cons_zero, List.getElem?_cons_succ, List.length_cons, List.length_nil, true_and, and_true, if_true, if_false, ↓reduceIte, Bool.false_eq_true, Bool.true_eq_false, reduceCtorEq, Nat.reduceAdd, Nat.reduceLT, Nat.reduceLeDiff, Nat.reduceEqDiff, Nat.reduceBEq, Int.cast_ofNat_Int, Int.reduceAdd, Int.reduceNeg, Int.reduceSub, Int.reduceToNat, Int.reduceLE, Nat.zero_le, false_implies, implies_true, beq_self_eq_true, Bool.and_true, Bool.and_false, Bool.or_false, Bool.false_or, Bool.or_true, Bool.true_or, Bool.and_self, Bool.or_self, Nat.zero_add, Nat.add_zero, or_false, or_true, true_or, false_or, j_b0, ↓j_b1, j_b2, ↓j_b3, j_01, j_inb, and_self, Classical.not_not, Int32.reduceLE, Int32.reduceLT, Int32.reduceAdd, j_ne, eq_self, not_true_eq_false, not_false_eq_true, forall_const, and_false, false_and, j_sc, j_ent, Nat.reduceSub, List.replicate_zero, List.replicate_succ]
        refine hQ2 _ (p_wF hS2 (a_Fj u4 e2 (fun z => ?_) (fun _ => by dsimp only; intro z; rcases z.2 with q | q <;> exact absurd q (by decide))) (by omega))
        rw [if_pos z] at hc
        unfold a_go
        dsimp only
        rw [if_neg (e4 z), if_neg (by decide), if_neg (by decide), if_pos rfl, hc, if_neg hc2]
      have good2 : a_dig c → j_J cX10_unit 10 7 (some .boolean) false D none Q j_SH 0 0 301 [some (.ref 42), some (.int (if j0 < n then T j0 else -1)), some (.int v), some (.int sg), some (.int c), some (.int 0), some (.int 0)] [] m2 := by
        intro hc2
        have hj2 : j2 < n := by
          by_cases z : j2 < n
          · exact z
          · rw [if_neg z] at hc
            rw [← hc] at hc2
            exact absurd hc2 (by decide)
        rw [if_pos hj2] at hc
        refine l_X10_dig (i := i) (dg := dg) hK ho hD a7 a8 hQ1 hQ2 (n - j2) j2 0 m2 0 (by omega) (by omega) hS2 (by omega) (fun _ => ⟨hj2, by rw [hc]; exact hc2⟩) (by rw [if_pos rfl, if_pos rfl]; exact u4) ?_ ?_ ?_ ?_ ?_ ?_
        · rw [w4, u_n _ _ (by decide), u_n _ _ (by decide), u_n _ _ (by decide)]; exact a5
        · rw [w4, u_n _ _ (by decide), u_n _ _ (by decide), u_n _ _ (by decide)]; exact a6
        · rw [w4, u_n _ _ (by decide), u_n _ _ (by decide), u_s]
        · rw [w4, u_n _ _ (by decide), u_s]
        · rw [w4, u_s]
        · rw [w4, u_n _ _ (by decide), u_n _ _ (by decide), u_n _ _ (by decide), if_pos rfl]; exact a4
      exact ⟨fun z => bad2 (fun q => by grind), fun z => ⟨fun z2 => good2 ⟨z, z2⟩, fun z2 => bad2 (fun q => by grind)⟩⟩
    refine ⟨fun z => good (Or.inl z), fun z1 => ⟨fun z => good (Or.inr (Or.inl z)), fun z2 => ⟨fun z => good (Or.inr (Or.inr z)), fun z3 => ?_⟩⟩⟩
    refine j_use1 (p_wr hS1) (by omega) ?_
    simp only [qX10_unit, j_f10, j_m10, j_ty, tyX10, ↓j_kt, ↓j_sel, ↓j_run_0, ↓j_run_s, ↓j_wp, ↓j_pi, ↓j_pii, ↓j_pl, ↓j_pll, ↓j_pli, ↓j_pr, ↓j_pri, ↓j_prii, ↓j_pvr, ↓j_pop, ↓j_gi, ↓j_gl, ↓j_ga, ↓j_ob, ↓j_ar, ↓j_fd, ↓j_fo, ↓j_mo, ↓j_br, ↓j_to, ↓j_lo, ↓j_scr, ↓j_co, ↓j_no, j_nf, j_rt, j_ld, j_st1, j_st2, j_k1, j_ci, j_fin, j_sh, j_shl, Option.map_some, Option.map_none, Option.toList_some, Option.toList_none, List.cons_append, List.nil_append, List.map_cons, List.map_nil, List.sum_cons, List.sum_nil, Value.category, List.getElem?_cons_zero, List.getElem?_cons_succ, List.length_cons, List.length_nil, true_and, and_true, if_true, if_false, ↓reduceIte, Bool.false_eq_true, Bool.true_eq_false, reduceCtorEq, Nat.reduceAdd, Nat.reduceLT, Nat.reduceLeDiff, Nat.reduceEqDiff, Nat.reduceBEq, Int.cast_ofNat_Int, Int.reduceAdd, Int.reduceNeg, Int.reduceSub, Int.reduceToNat, Int.reduceLE, Nat.zero_le, false_implies, implies_true, beq_self_eq_true, Bool.and_true, Bool.and_false, Bool.or_false, Bool.false_or, Bool.or_true, Bool.true_or, Bool.and_self, Bool.or_self, Nat.zero_add, Nat.add_zero, or_false, or_true, true_or, false_or, j_b0, ↓j_b1, j_b2, ↓j_b3, j_01, j_inb, and_self, Classical.not_not, Int32.reduceLE, Int32.reduceLT, Int32.reduceAdd, j_ne, eq_self, not_true_eq_false, not_false_eq_true, forall_const, and_false, false_and, j_sc, j_ent, Nat.reduceSub, List.replicate_zero, List.replicate_succ]
    exact bad ⟨z1, z2, z3⟩
  · refine ⟨fun z => absurd b2 z, fun _ => ?_⟩
    refine j_use1 (p_wr hS) (by omega) ?_
    simp only [qX10_unit, j_f10, j_m10, j_ty, tyX10, ↓j_kt, ↓j_sel, ↓j_run_0, ↓j_run_s, ↓j_wp, ↓j_pi, ↓j_pii, ↓j_pl, ↓j_pll, ↓j_pli, ↓j_pr, ↓j_pri, ↓j_prii, ↓j_pvr, ↓j_pop, ↓j_gi, ↓j_gl, ↓j_ga, ↓j_ob, ↓j_ar, ↓j_fd, ↓j_fo, ↓j_mo, ↓j_br, ↓j_to, ↓j_lo, ↓j_scr, ↓j_co, ↓j_no, j_nf, j_rt, j_ld, j_st1, j_st2, j_k1, j_ci, j_fin, j_sh, j_shl, Option.map_some, Option.map_none, Option.toList_some, Option.toList_none, List.cons_append, List.nil_append, List.map_cons, List.map_nil, List.sum_cons, List.sum_nil, Value.category, List.getElem?_cons_zero, List.getElem?_cons_succ, List.length_cons, List.length_nil, true_and, and_true, if_true, if_false, ↓reduceIte, Bool.false_eq_true, Bool.true_eq_false, reduceCtorEq, Nat.reduceAdd, Nat.reduceLT, Nat.reduceLeDiff, Nat.reduceEqDiff, Nat.reduceBEq, Int.cast_ofNat_Int, Int.reduceAdd, Int.reduceNeg, Int.reduceSub, Int.reduceToNat, Int.reduceLE, Nat.zero_le, false_implies, implies_true, beq_self_eq_true, Bool.and_true, Bool.and_false, Bool.or_false, Bool.false_or, Bool.or_true, Bool.true_or, Bool.and_self, Bool.or_self, Nat.zero_add, Nat.add_zero, or_false, or_true, true_or, false_or, j_b0, ↓j_b1, j_b2, ↓j_b3, j_01, j_inb, and_self, Classical.not_not, Int32.reduceLE, Int32.reduceLT, Int32.reduceAdd, j_ne, eq_self, not_true_eq_false, not_false_eq_true, forall_const, and_false, false_and, j_sc, j_ent, Nat.reduceSub, List.replicate_zero, List.replicate_succ]
    refine hQ2 _ (p_wF hS (a_Fj a3 a1 (fun z => ?_) (fun _ => by dsimp only; intro z; rcases z.2 with q | q <;> exact absurd q (by decide))) (by omega))
    unfold a_go a_beg
    dsimp only
    rw [if_neg (h32 z), if_pos rfl, if_neg (h40 z), if_neg (fun q => b1 ⟨z, q⟩)]
