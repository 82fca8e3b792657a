/-! constructors: Terms, Statutes, the reference -/
section CJ
variable {P : List j_S} {n : Nat}
set_option maxRecDepth 100000 in
theorem i_X7 (hn : P.length = n) (hP : j_okP n P) (h9 : n < 900000) (μ : j_M) : j_Call 1 7 700 yX7_init (P ++ [.inr (7, j_k0 7 9)]) [.ref n] μ (fun r sh m => r = none ∧ sh = P ++ [.inr (7, [some (some (some (n + 1))), some (some (some (n + 2))), some (some (some (n + 3))), some (some (some (n + 4))), some (some (some (n + 5))), some (some (some (n + 6))), none, some (some (some (n + 7))), none]), .inl (.int, 100), .inl (.int, 100), .inl (.int, 100), .inl (.int, 100), .inl (.int, 100), .inl (.int, 100), .inl (.int, 100)] ∧ (∀ b, b < n → m b = μ b) ∧ m n 6 = 0 ∧ ∀ b, n < b → b ≤ n + 7 → m b = fun _ => 0) := by
  refine j_entryI (o := 7) hX7_init ⟨by decide, by decide +kernel, rfl, rfl⟩ (Nat.le_of_ble_eq_true rfl) (j_go (fun _ => false) 60 ?_)
  have k0 : j_k0 7 9 = [some (some none), some (some none), some (some none), some (some none), some (some none), some (some none), none, some (some none), none] := rfl
  rw [k0]
  simp only [qX7_init, j_f7, j_m7, j_ty, tyX7, ↓j_kt, ↓j_sel, ↓j_run_0, ↓j_run_s, ↓j_wp, ↓j_pi, ↓j_pii, ↓j_pl, ↓j_pll, ↓j_pli, ↓j_pr, ↓j_pri, ↓j_prii, ↓j_pvr, ↓j_pop, ↓j_gi, ↓j_gl, ↓j_ga, ↓j_ob, ↓j_ar, ↓j_fd, ↓j_fo, ↓j_mo, ↓j_br, ↓j_to, ↓j_lo, ↓j_scr, ↓j_co, ↓j_no, j_nf, j_rt, j_ld, j_st1, j_st2, j_k1, j_ci, j_fin, j_sh, j_shl, Option.map_some, Option.map_none, Option.toList_some, Option.toList_none, List.cons_append, List.nil_append, List.map_cons, List.map_nil, List.sum_cons, List.sum_nil, Value.category, List.getElem?_cons_zero, List.getElem?_cons_succ, List.length_cons, List.length_nil, true_and, and_true, if_true, if_false, ↓reduceIte, Bool.false_eq_true, Bool.true_eq_false, reduceCtorEq, Nat.reduceAdd, Nat.reduceLT, Nat.reduceLeDiff, Nat.reduceEqDiff, Nat.reduceBEq, Int.cast_ofNat_Int, Int.reduceAdd, Int.reduceNeg, Int.reduceSub, Int.reduceToNat, Int.reduceLE, Nat.zero_le, false_implies, implies_true, beq_self_eq_true, Bool.and_true, Bool.and_false, Bool.or_false, Bool.false_or, Bool.or_true, Bool.true_or, Bool.and_self, Bool.or_self, Nat.zero_add, Nat.add_zero, or_false, or_true, true_or, false_or, j_b0, ↓j_b1, j_b2, ↓j_b3, j_01, j_inb, and_self, Classical.not_not, Int32.reduceLE, Int32.reduceLT, Int32.reduceAdd, j_ne, eq_self, not_true_eq_false, not_false_eq_true, forall_const, and_false, false_and, j_sc, j_ent, Nat.reduceSub, List.replicate_zero, List.replicate_succ, j_ois, p_at hn, p_len hn, p_set hn, List.append_assoc, List.set_cons_zero, List.set_cons_succ, j_fita, j_fito, c_num, j_at]
  (repeat' (refine And.intro ?_ ?_)) <;> first
    | omega
    | exact rfl
    | exact (j_okP.ap (hP.le (by omega)) (by simp only [j_okP, j_okE, j_okK, List.forall_mem_cons, List.not_mem_nil, false_implies, implies_true, and_true, true_and] <;> omega)).r _
    | (intro b hb; simp only [j_up, j_row]; (repeat rw [if_neg (by omega)]); done)
    | (intro b h1 h2; simp only [j_up, j_row]; (repeat' split) <;> first | rfl | omega)
    | (have e1 : ¬ n = n + 7 := by omega
       simp only [j_up, j_row, e1, if_true, if_false, upd]
       simp)
set_option maxRecDepth 100000 in
theorem i_X6 (hn : P.length = n) (hP : j_okP n P) (h9 : n < 800000) (μ : j_M) : j_Call 2 5 3693 yX6_init (P ++ [.inr (6, j_k0 6 3)]) [.ref n] μ (fun r sh m => r = none ∧ sh = P ++ [.inr (6, [some (some (some (n + 1))), some (some (some (n + 4))), some (some (some (n + 5)))]), .inr (1, [some (some (some (n + 2))), some (some (some (n + 3))), none]), .inl (.int, 30), .inl (.int, 30), .inl (.char, 3600), .inl (.int, 30)] ∧ (∀ b, b < n → m b = μ b) ∧ m (n + 1) 2 = 0 ∧ ∀ b, n + 1 < b → b ≤ n + 5 → m b = fun _ => 0) := by
  refine j_entryI (o := 6) hX6_init ⟨by decide, by decide +kernel, rfl, rfl⟩ (Nat.le_of_ble_eq_true rfl) (j_go (fun _ => false) 60 ?_)
  have k0 : j_k0 6 3 = [some (some none), some (some none), some (some none)] := rfl
  rw [k0]
  simp only [qX6_init, j_f6, j_m6, j_ty, tyX6, ↓j_kt, ↓j_sel, ↓j_run_0, ↓j_run_s, ↓j_wp, ↓j_pi, ↓j_pii, ↓j_pl, ↓j_pll, ↓j_pli, ↓j_pr, ↓j_pri, ↓j_prii, ↓j_pvr, ↓j_pop, ↓j_gi, ↓j_gl, ↓j_ga, ↓j_ob, ↓j_ar, ↓j_fd, ↓j_fo, ↓j_mo, ↓j_br, ↓j_to, ↓j_lo, ↓j_scr, ↓j_co, ↓j_no, j_nf, j_rt, j_ld, j_st1, j_st2, j_k1, j_ci, j_fin, j_sh, j_shl, Option.map_some, Option.map_none, Option.toList_some, Option.toList_none, List.cons_append, List.nil_append, List.map_cons, List.map_nil, List.sum_cons, List.sum_nil, Value.category, List.getElem?_cons_zero, List.getElem?_cons_succ, List.length_cons, List.length_nil, true_and, and_true, if_true, if_false, ↓reduceIte, Bool.false_eq_true, Bool.true_eq_false, reduceCtorEq, Nat.reduceAdd, Nat.reduceLT, Nat.reduceLeDiff, Nat.reduceEqDiff, Nat.reduceBEq, Int.cast_ofNat_Int, Int.reduceAdd, Int.reduceNeg, Int.reduceSub, Int.reduceToNat, Int.reduceLE, Nat.zero_le, false_implies, implies_true, beq_self_eq_true, Bool.and_true, Bool.and_false, Bool.or_false, Bool.false_or, Bool.or_true, Bool.true_or, Bool.and_self, Bool.or_self, Nat.zero_add, Nat.add_zero, or_false, or_true, true_or, false_or, j_b0, ↓j_b1, j_b2, ↓j_b3, j_01, j_inb, and_self, Classical.not_not, Int32.reduceLE, Int32.reduceLT, Int32.reduceAdd, j_ne, eq_self, not_true_eq_false, not_false_eq_true, forall_const, and_false, false_and, j_sc, j_ent, Nat.reduceSub, List.replicate_zero, List.replicate_succ, j_ois, j_oin, j_nls, j_news, p_at hn, p_len hn, p_set hn, List.append_assoc, List.set_cons_zero, List.set_cons_succ, j_fita, j_fito, c_num, j_at]
  have hP1 : j_okP (n + 1) (P ++ [.inr (6, [some (some none), some (some none), some (some none)])]) := j_okP.ap (hP.le (by omega)) (by simp only [j_okP, j_okE, j_okK, List.forall_mem_cons, List.not_mem_nil, false_implies, implies_true, and_true, true_and])
  have h := i_X1 (P := P ++ [.inr (6, [some (some none), some (some none), some (some none)])]) (n := n + 1) (by rw [p_len hn]; rfl) hP1 (by omega) (j_row μ (n + 1) (fun _ => 0))
  rw [List.append_assoc] at h
  refine ⟨by omega, hP1.r _, 1, 2, 60, _, by decide, by decide, by decide, h, fun r sh' m hq => ?_⟩
  · obtain ⟨rfl, rfl, f1, f2, f3⟩ := hq
    rw [List.append_assoc]
    simp only [qX6_init, j_f6, j_m6, j_ty, tyX6, ↓j_kt, ↓j_sel, ↓j_run_0, ↓j_run_s, ↓j_wp, ↓j_pi, ↓j_pii, ↓j_pl, ↓j_pll, ↓j_pli, ↓j_pr, ↓j_pri, ↓j_prii, ↓j_pvr, ↓j_pop, ↓j_gi, ↓j_gl, ↓j_ga, ↓j_ob, ↓j_ar, ↓j_fd, ↓j_fo, ↓j_mo, ↓j_br, ↓j_to, ↓j_lo, ↓j_scr, ↓j_co, ↓j_no, j_nf, j_rt, j_ld, j_st1, j_st2, j_k1, j_ci, j_fin, j_sh, j_shl, Option.map_some, Option.map_none, Option.toList_some, Option.toList_none, List.cons_append, List.nil_append, List.map_cons, List.map_nil, List.sum_cons, List.sum_nil, Value.category, List.getElem?_cons_zero, List.getElem?_cons_succ, List.length_cons, List.length_nil, true_and, and_true, if_true, if_false, ↓reduceIte, Bool.false_eq_true, Bool.true_eq_false, reduceCtorEq, Nat.reduceAdd, Nat.reduceLT, Nat.reduceLeDiff, Nat.reduceEqDiff, Nat.reduceBEq, Int.cast_ofNat_Int, Int.reduceAdd, Int.reduceNeg, Int.reduceSub, Int.reduceToNat, Int.reduceLE, Nat.zero_le, false_implies, implies_true, beq_self_eq_true, Bool.and_true, Bool.and_false, Bool.or_false, Bool.false_or, Bool.or_true, Bool.true_or, Bool.and_self, Bool.or_self, Nat.zero_add, Nat.add_zero, or_false, or_true, true_or, false_or, j_b0, ↓j_b1, j_b2, ↓j_b3, j_01, j_inb, and_self, Classical.not_not, Int32.reduceLE, Int32.reduceLT, Int32.reduceAdd, j_ne, eq_self, not_true_eq_false, not_false_eq_true, forall_const, and_false, false_and, j_sc, j_ent, Nat.reduceSub, List.replicate_zero, List.replicate_succ, j_ois, p_at hn, p_len hn, p_set hn, List.append_assoc, List.set_cons_zero, List.set_cons_succ, j_fita, j_fito, c_num, j_at]
    (repeat' (refine And.intro ?_ ?_)) <;> first
      | omega
      | exact rfl
      | exact (j_okP.ap (hP.le (by omega)) (by simp only [j_okP, j_okE, j_okK, List.forall_mem_cons, List.not_mem_nil, false_implies, implies_true, and_true, true_and] <;> omega)).r _
      | (intro b hb; simp only [j_up, j_row]; (repeat rw [if_neg (by omega)]); rw [f1 b (by omega)]; simp only [j_row]; rw [if_neg (by omega)])
      | (simp only [j_row]; (repeat rw [if_neg (by omega)]); exact f2)
      | (intro b h1 h2
         simp only [j_row]
         by_cases e5 : b = n + 5
         · rw [if_pos e5]
         · rw [if_neg e5]
           by_cases e4 : b = n + 4
           · rw [if_pos e4]
           · rw [if_neg e4]
             exact f3 b (by omega) (by omega))
end CJ
