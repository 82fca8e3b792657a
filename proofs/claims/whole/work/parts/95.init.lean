/-! constructors -/
def j_okK (n : Nat) (k : j_K) : Prop := match k with
  | none => True
  | some none => False
  | some (some none) => True
  | some (some (some r)) => r < n
def j_okE (n : Nat) (s : j_S) : Prop := match s with
  | .inl _ => True
  | .inr (_, ks) => ∀ k ∈ ks, j_okK n k
def j_okP (n : Nat) (sh : List j_S) : Prop := ∀ s ∈ sh, j_okE n s
theorem j_okP.r {n : Nat} {sh : List j_S} (h : j_okP n sh) (μ : j_M) : j_okr n sh μ := by
  intro a ci ks ha j x hj
  have h1 := h _ (List.mem_of_getElem? ha) _ (List.mem_of_getElem? hj)
  refine ⟨fun e => ?_, fun r e => ?_⟩
  · subst e; exact h1.elim
  · subst e; exact h1
theorem j_okP.le {n m : Nat} {sh : List j_S} (h : j_okP n sh) (hm : n ≤ m) : j_okP m sh := by
  intro s hs
  have h1 := h s hs
  rcases s with s | ⟨ci, ks⟩
  · trivial
  · intro k hk
    have h2 := h1 k hk
    rcases k with _ | _ | _ | r
    · trivial
    · exact h2
    · trivial
    · exact Nat.lt_of_lt_of_le h2 hm
theorem j_okP.ap {n : Nat} {a b : List j_S} (h1 : j_okP n a) (h2 : j_okP n b) : j_okP n (a ++ b) := by
  intro s hs
  rcases List.mem_append.mp hs with h | h
  · exact h1 s h
  · exact h2 s h
theorem j_entryI {cc : ByteArray} {o nL : Nat} {ret : Option FieldType} {d mc ms : Nat} {y : MethodName} {sh : List j_S} {as : List Value} {μ : j_M} {Q : j_Q} (hcode : Cond.code y cc nL ret ∈ lw_tbl) (hn : nL ≤ 45 ∧ plainName y.cls = true ∧ j_cn o = y.cls ∧ y.name = "<init>") (hlen : (lg_sl as).length ≤ nL)
    (h : j_J cc o nL ret true d none Q sh mc ms 0 (j_ent as nL) [] μ) : j_Call d mc ms y sh as μ Q :=
  j_call (j_ent as nL) hcode hn.1 hn.2.1 hn.2.2.1 (fun _ => hn.2.2.2) hlen (by
    obtain ⟨h1, h2⟩ := j_ent_mem as nL 0 hlen
    exact ⟨h1, fun i v hv => by have := h2 i v hv; rwa [Nat.zero_add] at this⟩) h
theorem j_fita (t : FieldType) (r : Nat) : fits (.array t) (.ref r) = true := rfl
theorem j_fito (s : String) (r : Nat) : fits (.object s) (.ref r) = true := rfl
theorem c_num : (30 : Int32).toNatClampNeg = 30 ∧ (100 : Int32).toNatClampNeg = 100 ∧ (40 : Int32).toNatClampNeg = 40 ∧ (120 : Int32).toNatClampNeg = 120 ∧ (480 : Int32).toNatClampNeg = 480 ∧ (3600 : Int32).toNatClampNeg = 3600 ∧ (8 : Int32).toNatClampNeg = 8 ∧ (6 : Int32).toNatClampNeg = 6 ∧ (20001 : Int32).toNatClampNeg = 20001 := by decide
section CI
variable {P : List j_S} {n : Nat}
theorem p_at (hn : P.length = n) (l : List j_S) : (P ++ l)[n]? = l[0]? := by
  subst hn
  rw [List.getElem?_append_right (Nat.le_refl _), Nat.sub_self]
theorem p_len (hn : P.length = n) (l : List j_S) : (P ++ l).length = n + l.length := by
  rw [List.length_append, hn]
theorem p_set (hn : P.length = n) (l : List j_S) (x : j_S) : (P ++ l).set n x = P ++ l.set 0 x := by
  subst hn
  rw [List.set_append_right _ _ (Nat.le_refl _), Nat.sub_self]
set_option maxRecDepth 100000 in
theorem i_X3 (hn : P.length = n) (hP : j_okP n P) (h9 : n < 900000) (μ : j_M) : j_Call 1 6 180 yX3_init (P ++ [.inr (3, j_k0 3 7)]) [.ref n] μ (fun r sh m => r = none ∧ sh = P ++ [.inr (3, [some (some (some (n + 1))), some (some (some (n + 2))), some (some (some (n + 3))), some (some (some (n + 4))), some (some (some (n + 5))), some (some (some (n + 6))), none]), .inl (.int, 30), .inl (.int, 30), .inl (.int, 30), .inl (.int, 30), .inl (.int, 30), .inl (.int, 30)] ∧ (∀ b, b < n → m b = μ b) ∧ m n 6 = 0 ∧ ∀ b, n < b → b ≤ n + 6 → m b = fun _ => 0) := by
  refine j_entryI (o := 3) hX3_init ⟨by decide, by decide +kernel, rfl, rfl⟩ (Nat.le_of_ble_eq_true rfl) (j_go (fun _ => false) 60 ?_)
  have k0 : j_k0 3 7 = [some (some none), some (some none), some (some none), some (some none), some (some none), some (some none), none] := rfl
  rw [k0]
  simp only [qX3_init, j_f3, j_m3, j_ty, tyX3, ↓j_kt, ↓j_sel, ↓j_run_0, ↓j_run_s, ↓j_wp, ↓j_pi, ↓j_pii, ↓j_pl, ↓j_pll, ↓j_pli, ↓j_pr, ↓j_pri, ↓j_prii, ↓j_pvr, ↓j_pop, ↓j_gi, ↓j_gl, ↓j_ga, ↓j_ob, ↓j_ar, ↓j_fd, ↓j_fo, ↓j_mo, ↓j_br, ↓j_to, ↓j_lo, ↓j_scr, ↓j_co, ↓j_no, j_nf, j_rt, j_ld, j_st1, j_st2, j_k1, j_ci, j_fin, j_sh, j_shl, Option.map_some, Option.map_none, Option.toList_some, Option.toList_none, List.cons_append, List.nil_append, List.map_cons, List.map_nil, List.sum_cons, List.sum_nil, Value.category, List.getElem?_cons_zero, List.getElem?_cons_succ, List.length_cons, List.length_nil, true_and, and_true, if_true, if_false, ↓reduceIte, Bool.false_eq_true, Bool.true_eq_false, reduceCtorEq, Nat.reduceAdd, Nat.reduceLT, Nat.reduceLeDiff, Nat.reduceEqDiff, Nat.reduceBEq, Int.cast_ofNat_Int, Int.reduceAdd, Int.reduceNeg, Int.reduceSub, Int.reduceToNat, Int.reduceLE, Nat.zero_le, false_implies, implies_true, beq_self_eq_true, Bool.and_true, Bool.and_false, Bool.or_false, Bool.false_or, Bool.or_true, Bool.true_or, Bool.and_self, Bool.or_self, Nat.zero_add, Nat.add_zero, or_false, or_true, true_or, false_or, j_b0, ↓j_b1, j_b2, ↓j_b3, j_01, j_inb, and_self, Classical.not_not, Int32.reduceLE, Int32.reduceLT, Int32.reduceAdd, j_ne, eq_self, not_true_eq_false, not_false_eq_true, forall_const, and_false, false_and, j_sc, j_ent, Nat.reduceSub, List.replicate_zero, List.replicate_succ, j_ois, p_at hn, p_len hn, p_set hn, List.append_assoc, List.set_cons_zero, List.set_cons_succ, j_fita, j_fito, c_num, j_at]
  (repeat' (refine And.intro ?_ ?_)) <;> first
    | omega
    | exact rfl
    | exact (j_okP.ap (hP.le (by omega)) (by simp only [j_okP, j_okE, j_okK, List.forall_mem_cons, List.not_mem_nil, false_implies, implies_true, and_true, true_and] <;> omega)).r _
    | (simp only [j_us, j_un, u_s, u_n, j_rn', ne_eq, Nat.reduceEqDiff, not_false_eq_true]; done)
    | (intro b hb; simp only [j_up, j_row]; (repeat rw [if_neg (by omega)]); done)
    | (intro b h1 h2; simp only [j_up, j_row]; (repeat' split) <;> first | rfl | omega)
set_option maxRecDepth 100000 in
theorem i_X0 (hn : P.length = n) (hP : j_okP n P) (h9 : n < 900000) (μ : j_M) : j_Call 1 1 120 yX0_init (P ++ [.inr (0, j_k0 0 2)]) [.ref n] μ (fun r sh m => r = none ∧ sh = P ++ [.inr (0, [some (some (some (n + 1))), none]), .inl (.char, 120)] ∧ (∀ b, b < n → m b = μ b) ∧ m n 1 = 0 ∧ ∀ b, n < b → b ≤ n + 1 → m b = fun _ => 0) := by
  refine j_entryI (o := 0) hX0_init ⟨by decide, by decide +kernel, rfl, rfl⟩ (Nat.le_of_ble_eq_true rfl) (j_go (fun _ => false) 60 ?_)
  have k0 : j_k0 0 2 = [some (some none), none] := rfl
  rw [k0]
  simp only [qX0_init, j_f0, j_m0, j_ty, tyX0, ↓j_kt, ↓j_sel, ↓j_run_0, ↓j_run_s, ↓j_wp, ↓j_pi, ↓j_pii, ↓j_pl, ↓j_pll, ↓j_pli, ↓j_pr, ↓j_pri, ↓j_prii, ↓j_pvr, ↓j_pop, ↓j_gi, ↓j_gl, ↓j_ga, ↓j_ob, ↓j_ar, ↓j_fd, ↓j_fo, ↓j_mo, ↓j_br, ↓j_to, ↓j_lo, ↓j_scr, ↓j_co, ↓j_no, j_nf, j_rt, j_ld, j_st1, j_st2, j_k1, j_ci, j_fin, j_sh, j_shl, Option.map_some, Option.map_none, Option.toList_some, Option.toList_none, List.cons_append, List.nil_append, List.map_cons, List.map_nil, List.sum_cons, List.sum_nil, Value.category, List.getElem?_cons_zero, List.getElem?_cons_succ, List.length_cons, List.length_nil, true_and, and_true, if_true, if_false, ↓reduceIte, Bool.false_eq_true, Bool.true_eq_false, reduceCtorEq, Nat.reduceAdd, Nat.reduceLT, Nat.reduceLeDiff, Nat.reduceEqDiff, Nat.reduceBEq, Int.cast_ofNat_Int, Int.reduceAdd, Int.reduceNeg, Int.reduceSub, Int.reduceToNat, Int.reduceLE, Nat.zero_le, false_implies, implies_true, beq_self_eq_true, Bool.and_true, Bool.and_false, Bool.or_false, Bool.false_or, Bool.or_true, Bool.true_or, Bool.and_self, Bool.or_self, Nat.zero_add, Nat.add_zero, or_false, or_true, true_or, false_or, j_b0, ↓j_b1, j_b2, ↓j_b3, j_01, j_inb, and_self, Classical.not_not, Int32.reduceLE, Int32.reduceLT, Int32.reduceAdd, j_ne, eq_self, not_true_eq_false, not_false_eq_true, forall_const, and_false, false_and, j_sc, j_ent, Nat.reduceSub, List.replicate_zero, List.replicate_succ, j_ois, p_at hn, p_len hn, p_set hn, List.append_assoc, List.set_cons_zero, List.set_cons_succ, j_fita, j_fito, c_num, j_at]
  (repeat' (refine And.intro ?_ ?_)) <;> first
    | omega
    | exact rfl
    | exact (j_okP.ap (hP.le (by omega)) (by simp only [j_okP, j_okE, j_okK, List.forall_mem_cons, List.not_mem_nil, false_implies, implies_true, and_true, true_and] <;> omega)).r _
    | (simp only [j_us, j_un, u_s, u_n, j_rn', ne_eq, Nat.reduceEqDiff, not_false_eq_true]; done)
    | (intro b hb; simp only [j_up, j_row]; (repeat rw [if_neg (by omega)]); done)
    | (intro b h1 h2; simp only [j_up, j_row]; (repeat' split) <;> first | rfl | omega)
set_option maxRecDepth 100000 in
theorem i_X1 (hn : P.length = n) (hP : j_okP n P) (h9 : n < 900000) (μ : j_M) : j_Call 1 2 60 yX1_init (P ++ [.inr (1, j_k0 1 3)]) [.ref n] μ (fun r sh m => r = none ∧ sh = P ++ [.inr (1, [some (some (some (n + 1))), some (some (some (n + 2))), none]), .inl (.int, 30), .inl (.int, 30)] ∧ (∀ b, b < n → m b = μ b) ∧ m n 2 = 0 ∧ ∀ b, n < b → b ≤ n + 2 → m b = fun _ => 0) := by
  refine j_entryI (o := 1) hX1_init ⟨by decide, by decide +kernel, rfl, rfl⟩ (Nat.le_of_ble_eq_true rfl) (j_go (fun _ => false) 60 ?_)
  have k0 : j_k0 1 3 = [some (some none), some (some none), none] := rfl
  rw [k0]
  simp only [qX1_init, j_f1, j_ty, tyX1, ↓j_kt, ↓j_sel, ↓j_run_0, ↓j_run_s, ↓j_wp, ↓j_pi, ↓j_pii, ↓j_pl, ↓j_pll, ↓j_pli, ↓j_pr, ↓j_pri, ↓j_prii, ↓j_pvr, ↓j_pop, ↓j_gi, ↓j_gl, ↓j_ga, ↓j_ob, ↓j_ar, ↓j_fd, ↓j_fo, ↓j_mo, ↓j_br, ↓j_to, ↓j_lo, ↓j_scr, ↓j_co, ↓j_no, j_nf, j_rt, j_ld, j_st1, j_st2, j_k1, j_ci, j_fin, j_sh, j_shl, Option.map_some, Option.map_none, Option.toList_some, Option.toList_none, List.cons_append, List.nil_append, List.map_cons, List.map_nil, List.sum_cons, List.sum_nil, Value.category, List.getElem?_cons_zero, List.getElem?_cons_succ, List.length_cons, List.length_nil, true_and, and_true, if_true, if_false, ↓reduceIte, Bool.false_eq_true, Bool.true_eq_false, reduceCtorEq, Nat.reduceAdd, Nat.reduceLT, Nat.reduceLeDiff, Nat.reduceEqDiff, Nat.reduceBEq, Int.cast_ofNat_Int, Int.reduceAdd, Int.reduceNeg, Int.reduceSub, Int.reduceToNat, Int.reduceLE, Nat.zero_le, false_implies, implies_true, beq_self_eq_true, Bool.and_true, Bool.and_false, Bool.or_false, Bool.false_or, Bool.or_true, Bool.true_or, Bool.and_self, Bool.or_self, Nat.zero_add, Nat.add_zero, or_false, or_true, true_or, false_or, j_b0, ↓j_b1, j_b2, ↓j_b3, j_01, j_inb, and_self, Classical.not_not, Int32.reduceLE, Int32.reduceLT, Int32.reduceAdd, j_ne, eq_self, not_true_eq_false, not_false_eq_true, forall_const, and_false, false_and, j_sc, j_ent, Nat.reduceSub, List.replicate_zero, List.replicate_succ, j_ois, p_at hn, p_len hn, p_set hn, List.append_assoc, List.set_cons_zero, List.set_cons_succ, j_fita, j_fito, c_num, j_at]
  (repeat' (refine And.intro ?_ ?_)) <;> first
    | omega
    | exact rfl
    | exact (j_okP.ap (hP.le (by omega)) (by simp only [j_okP, j_okE, j_okK, List.forall_mem_cons, List.not_mem_nil, false_implies, implies_true, and_true, true_and] <;> omega)).r _
    | (simp only [j_us, j_un, u_s, u_n, j_rn', ne_eq, Nat.reduceEqDiff, not_false_eq_true]; done)
    | (intro b hb; simp only [j_up, j_row]; (repeat rw [if_neg (by omega)]); done)
    | (intro b h1 h2; simp only [j_up, j_row]; (repeat' split) <;> first | rfl | omega)
set_option maxRecDepth 100000 in
theorem i_X2 (hn : P.length = n) (hP : j_okP n P) (h9 : n < 900000) (μ : j_M) : j_Call 1 4 400 yX2_init (P ++ [.inr (2, j_k0 2 5)]) [.ref n] μ (fun r sh m => r = none ∧ sh = P ++ [.inr (2, [some (some (some (n + 1))), some (some (some (n + 2))), some (some (some (n + 3))), some (some (some (n + 4))), none]), .inl (.int, 100), .inl (.int, 100), .inl (.int, 100), .inl (.int, 100)] ∧ (∀ b, b < n → m b = μ b) ∧ m n 4 = 0 ∧ ∀ b, n < b → b ≤ n + 4 → m b = fun _ => 0) := by
  refine j_entryI (o := 2) hX2_init ⟨by decide, by decide +kernel, rfl, rfl⟩ (Nat.le_of_ble_eq_true rfl) (j_go (fun _ => false) 60 ?_)
  have k0 : j_k0 2 5 = [some (some none), some (some none), some (some none), some (some none), none] := rfl
  rw [k0]
  simp only [qX2_init, j_f2, j_ty, tyX2, ↓j_kt, ↓j_sel, ↓j_run_0, ↓j_run_s, ↓j_wp, ↓j_pi, ↓j_pii, ↓j_pl, ↓j_pll, ↓j_pli, ↓j_pr, ↓j_pri, ↓j_prii, ↓j_pvr, ↓j_pop, ↓j_gi, ↓j_gl, ↓j_ga, ↓j_ob, ↓j_ar, ↓j_fd, ↓j_fo, ↓j_mo, ↓j_br, ↓j_to, ↓j_lo, ↓j_scr, ↓j_co, ↓j_no, j_nf, j_rt, j_ld, j_st1, j_st2, j_k1, j_ci, j_fin, j_sh, j_shl, Option.map_some, Option.map_none, Option.toList_some, Option.toList_none, List.cons_append, List.nil_append, List.map_cons, List.map_nil, List.sum_cons, List.sum_nil, Value.category, List.getElem?_cons_zero, List.getElem?_cons_succ, List.length_cons, List.length_nil, true_and, and_true, if_true, if_false, ↓reduceIte, Bool.false_eq_true, Bool.true_eq_false, reduceCtorEq, Nat.reduceAdd, Nat.reduceLT, Nat.reduceLeDiff, Nat.reduceEqDiff, Nat.reduceBEq, Int.cast_ofNat_Int, Int.reduceAdd, Int.reduceNeg, Int.reduceSub, Int.reduceToNat, Int.reduceLE, Nat.zero_le, false_implies, implies_true, beq_self_eq_true, Bool.and_true, Bool.and_false, Bool.or_false, Bool.false_or, Bool.or_true, Bool.true_or, Bool.and_self, Bool.or_self, Nat.zero_add, Nat.add_zero, or_false, or_true, true_or, false_or, j_b0, ↓j_b1, j_b2, ↓j_b3, j_01, j_inb, and_self, Classical.not_not, Int32.reduceLE, Int32.reduceLT, Int32.reduceAdd, j_ne, eq_self, not_true_eq_false, not_false_eq_true, forall_const, and_false, false_and, j_sc, j_ent, Nat.reduceSub, List.replicate_zero, List.replicate_succ, j_ois, p_at hn, p_len hn, p_set hn, List.append_assoc, List.set_cons_zero, List.set_cons_succ, j_fita, j_fito, c_num, j_at]
  (repeat' (refine And.intro ?_ ?_)) <;> first
    | omega
    | exact rfl
    | exact (j_okP.ap (hP.le (by omega)) (by simp only [j_okP, j_okE, j_okK, List.forall_mem_cons, List.not_mem_nil, false_implies, implies_true, and_true, true_and] <;> omega)).r _
    | (simp only [j_us, j_un, u_s, u_n, j_rn', ne_eq, Nat.reduceEqDiff, not_false_eq_true]; done)
    | (intro b hb; simp only [j_up, j_row]; (repeat rw [if_neg (by omega)]); done)
    | (intro b h1 h2; simp only [j_up, j_row]; (repeat' split) <;> first | rfl | omega)
set_option maxRecDepth 100000 in
theorem i_X4 (hn : P.length = n) (hP : j_okP n P) (h9 : n < 900000) (μ : j_M) : j_Call 1 4 680 yX4_init (P ++ [.inr (4, j_k0 4 5)]) [.ref n] μ (fun r sh m => r = none ∧ sh = P ++ [.inr (4, [some (some (some (n + 1))), some (some (some (n + 2))), some (some (some (n + 3))), some (some (some (n + 4))), none]), .inl (.int, 40), .inl (.int, 40), .inl (.int, 120), .inl (.int, 480)] ∧ (∀ b, b < n → m b = μ b) ∧ m n 4 = 0 ∧ ∀ b, n < b → b ≤ n + 4 → m b = fun _ => 0) := by
  refine j_entryI (o := 4) hX4_init ⟨by decide, by decide +kernel, rfl, rfl⟩ (Nat.le_of_ble_eq_true rfl) (j_go (fun _ => false) 60 ?_)
  have k0 : j_k0 4 5 = [some (some none), some (some none), some (some none), some (some none), none] := rfl
  rw [k0]
  simp only [qX4_init, j_f4, j_m4, j_ty, tyX4, ↓j_kt, ↓j_sel, ↓j_run_0, ↓j_run_s, ↓j_wp, ↓j_pi, ↓j_pii, ↓j_pl, ↓j_pll, ↓j_pli, ↓j_pr, ↓j_pri, ↓j_prii, ↓j_pvr, ↓j_pop, ↓j_gi, ↓j_gl, ↓j_ga, ↓j_ob, ↓j_ar, ↓j_fd, ↓j_fo, ↓j_mo, ↓j_br, ↓j_to, ↓j_lo, ↓j_scr, ↓j_co, ↓j_no, j_nf, j_rt, j_ld, j_st1, j_st2, j_k1, j_ci, j_fin, j_sh, j_shl, Option.map_some, Option.map_none, Option.toList_some, Option.toList_none, List.cons_append, List.nil_append, List.map_cons, List.map_nil, List.sum_cons, List.sum_nil, Value.category, List.getElem?_cons_zero, List.getElem?_cons_succ, List.length_cons, List.length_nil, true_and, and_true, if_true, if_false, ↓reduceIte, Bool.false_eq_true, Bool.true_eq_false, reduceCtorEq, Nat.reduceAdd, Nat.reduceLT, Nat.reduceLeDiff, Nat.reduceEqDiff, Nat.reduceBEq, Int.cast_ofNat_Int, Int.reduceAdd, Int.reduceNeg, Int.reduceSub, Int.reduceToNat, Int.reduceLE, Nat.zero_le, false_implies, implies_true, beq_self_eq_true, Bool.and_true, Bool.and_false, Bool.or_false, Bool.false_or, Bool.or_true, Bool.true_or, Bool.and_self, Bool.or_self, Nat.zero_add, Nat.add_zero, or_false, or_true, true_or, false_or, j_b0, ↓j_b1, j_b2, ↓j_b3, j_01, j_inb, and_self, Classical.not_not, Int32.reduceLE, Int32.reduceLT, Int32.reduceAdd, j_ne, eq_self, not_true_eq_false, not_false_eq_true, forall_const, and_false, false_and, j_sc, j_ent, Nat.reduceSub, List.replicate_zero, List.replicate_succ, j_ois, p_at hn, p_len hn, p_set hn, List.append_assoc, List.set_cons_zero, List.set_cons_succ, j_fita, j_fito, c_num, j_at]
  (repeat' (refine And.intro ?_ ?_)) <;> first
    | omega
    | exact rfl
    | exact (j_okP.ap (hP.le (by omega)) (by simp only [j_okP, j_okE, j_okK, List.forall_mem_cons, List.not_mem_nil, false_implies, implies_true, and_true, true_and] <;> omega)).r _
    | (simp only [j_us, j_un, u_s, u_n, j_rn', ne_eq, Nat.reduceEqDiff, not_false_eq_true]; done)
    | (intro b hb; simp only [j_up, j_row]; (repeat rw [if_neg (by omega)]); done)
    | (intro b h1 h2; simp only [j_up, j_row]; (repeat' split) <;> first | rfl | omega)
set_option maxRecDepth 100000 in
theorem i_X5 (hn : P.length = n) (hP : j_okP n P) (h9 : n < 900000) (μ : j_M) : j_Call 1 0 0 yX5_init (P ++ [.inr (5, j_k0 5 3)]) [.ref n] μ (fun r sh m => r = none ∧ sh = P ++ [.inr (5, [none, none, none])] ∧ (∀ b, b < n → m b = μ b) ∧ m n 0 = 0 ∧ m n 1 = 0 ∧ m n 2 = 0) := by
  refine j_entryI (o := 5) hX5_init ⟨by decide, by decide +kernel, rfl, rfl⟩ (Nat.le_of_ble_eq_true rfl) (j_go (fun _ => false) 60 ?_)
  have k0 : j_k0 5 3 = [none, none, none] := rfl
  rw [k0]
  simp only [qX5_init, j_f5, j_m5, j_ty, tyX5, ↓j_kt, ↓j_sel, ↓j_run_0, ↓j_run_s, ↓j_wp, ↓j_pi, ↓j_pii, ↓j_pl, ↓j_pll, ↓j_pli, ↓j_pr, ↓j_pri, ↓j_prii, ↓j_pvr, ↓j_pop, ↓j_gi, ↓j_gl, ↓j_ga, ↓j_ob, ↓j_ar, ↓j_fd, ↓j_fo, ↓j_mo, ↓j_br, ↓j_to, ↓j_lo, ↓j_scr, ↓j_co, ↓j_no, j_nf, j_rt, j_ld, j_st1, j_st2, j_k1, j_ci, j_fin, j_sh, j_shl, Option.map_some, Option.map_none, Option.toList_some, Option.toList_none, List.cons_append, List.nil_append, List.map_cons, List.map_nil, List.sum_cons, List.sum_nil, Value.category, List.getElem?_cons_zero, List.getElem?_cons_succ, List.length_cons, List.length_nil, true_and, and_true, if_true, if_false, ↓reduceIte, Bool.false_eq_true, Bool.true_eq_false, reduceCtorEq, Nat.reduceAdd, Nat.reduceLT, Nat.reduceLeDiff, Nat.reduceEqDiff, Nat.reduceBEq, Int.cast_ofNat_Int, Int.reduceAdd, Int.reduceNeg, Int.reduceSub, Int.reduceToNat, Int.reduceLE, Nat.zero_le, false_implies, implies_true, beq_self_eq_true, Bool.and_true, Bool.and_false, Bool.or_false, Bool.false_or, Bool.or_true, Bool.true_or, Bool.and_self, Bool.or_self, Nat.zero_add, Nat.add_zero, or_false, or_true, true_or, false_or, j_b0, ↓j_b1, j_b2, ↓j_b3, j_01, j_inb, and_self, Classical.not_not, Int32.reduceLE, Int32.reduceLT, Int32.reduceAdd, j_ne, eq_self, not_true_eq_false, not_false_eq_true, forall_const, and_false, false_and, j_sc, j_ent, Nat.reduceSub, List.replicate_zero, List.replicate_succ, j_ois, p_at hn, p_len hn, p_set hn, List.append_assoc, List.set_cons_zero, List.set_cons_succ, j_fita, j_fito, c_num, j_at]
  (repeat' (refine And.intro ?_ ?_)) <;> first
    | omega
    | exact rfl
    | exact (j_okP.ap (hP.le (by omega)) (by simp only [j_okP, j_okE, j_okK, List.forall_mem_cons, List.not_mem_nil, false_implies, implies_true, and_true, true_and] <;> omega)).r _
    | (simp only [j_us, j_un, u_s, u_n, j_rn', ne_eq, Nat.reduceEqDiff, not_false_eq_true]; done)
    | (intro b hb; simp only [j_up, j_row]; (repeat rw [if_neg (by omega)]); done)
    | (intro b h1 h2; simp only [j_up, j_row]; (repeat' split) <;> first | rfl | omega)
set_option maxRecDepth 100000 in
theorem i_X8 (hn : P.length = n) (hP : j_okP n P) (h9 : n < 900000) (μ : j_M) : j_Call 1 1 6 yX8_init (P ++ [.inr (8, j_k0 8 7)]) [.ref n] μ (fun r sh m => r = none ∧ sh = P ++ [.inr (8, [some (some (some (n + 1))), none, none, none, none, none, none]), .inl (.int, 6)] ∧ (∀ b, b < n → m b = μ b) ∧ m n 1 = 0 ∧ m n 2 = 1 ∧ m n 6 = 0 ∧ ∀ b, n < b → b ≤ n + 1 → m b = fun _ => 0) := by
  refine j_entryI (o := 8) hX8_init ⟨by decide, by decide +kernel, rfl, rfl⟩ (Nat.le_of_ble_eq_true rfl) (j_go (fun _ => false) 60 ?_)
  have k0 : j_k0 8 7 = [some (some none), none, none, none, none, none, none] := rfl
  rw [k0]
  simp only [qX8_init, j_f8, j_m8, j_ty, tyX8, ↓j_kt, ↓j_sel, ↓j_run_0, ↓j_run_s, ↓j_wp, ↓j_pi, ↓j_pii, ↓j_pl, ↓j_pll, ↓j_pli, ↓j_pr, ↓j_pri, ↓j_prii, ↓j_pvr, ↓j_pop, ↓j_gi, ↓j_gl, ↓j_ga, ↓j_ob, ↓j_ar, ↓j_fd, ↓j_fo, ↓j_mo, ↓j_br, ↓j_to, ↓j_lo, ↓j_scr, ↓j_co, ↓j_no, j_nf, j_rt, j_ld, j_st1, j_st2, j_k1, j_ci, j_fin, j_sh, j_shl, Option.map_some, Option.map_none, Option.toList_some, Option.toList_none, List.cons_append, List.nil_append, List.map_cons, List.map_nil, List.sum_cons, List.sum_nil, Value.category, List.getElem?_cons_zero, List.getElem?_cons_succ, List.length_cons, List.length_nil, true_and, and_true, if_true, if_false, ↓reduceIte, Bool.false_eq_true, Bool.true_eq_false, reduceCtorEq, Nat.reduceAdd, Nat.reduceLT, Nat.reduceLeDiff, Nat.reduceEqDiff, Nat.reduceBEq, Int.cast_ofNat_Int, Int.reduceAdd, Int.reduceNeg, Int.reduceSub, Int.reduceToNat, Int.reduceLE, Nat.zero_le, false_implies, implies_true, beq_self_eq_true, Bool.and_true, Bool.and_false, Bool.or_false, Bool.false_or, Bool.or_true, Bool.true_or, Bool.and_self, Bool.or_self, Nat.zero_add, Nat.add_zero, or_false, or_true, true_or, false_or, j_b0, ↓j_b1, j_b2, ↓j_b3, j_01, j_inb, and_self, Classical.not_not, Int32.reduceLE, Int32.reduceLT, Int32.reduceAdd, j_ne, eq_self, not_true_eq_false, not_false_eq_true, forall_const, and_false, false_and, j_sc, j_ent, Nat.reduceSub, List.replicate_zero, List.replicate_succ, j_ois, p_at hn, p_len hn, p_set hn, List.append_assoc, List.set_cons_zero, List.set_cons_succ, j_fita, j_fito, c_num, j_at]
  (repeat' (refine And.intro ?_ ?_)) <;> first
    | omega
    | exact rfl
    | exact (j_okP.ap (hP.le (by omega)) (by simp only [j_okP, j_okE, j_okK, List.forall_mem_cons, List.not_mem_nil, false_implies, implies_true, and_true, true_and] <;> omega)).r _
    | (simp only [j_us, j_un, u_s, u_n, j_rn', ne_eq, Nat.reduceEqDiff, not_false_eq_true]; done)
    | (intro b hb; simp only [j_up, j_row]; (repeat rw [if_neg (by omega)]); done)
    | (intro b h1 h2; simp only [j_up, j_row]; (repeat' split) <;> first | rfl | omega)
end CI
