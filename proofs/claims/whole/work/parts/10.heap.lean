/-! the heap -/
theorem j_init_ret : lw_tbl.all (fun w => match w with
  | .code y _ _ r => decide (y.name ≠ "<init>") || r.isNone
  | _ => true) = true := by decide +kernel
theorem ret_of_init {y : MethodName} {cc : ByteArray} {n : Nat} {ret : Option FieldType} (h : Cond.code y cc n ret ∈ j_G) (hy : y.name = "<init>") : ret = none := by
  have h1 := List.all_eq_true.mp j_init_ret _ (List.mem_filter.mp h).1
  simp only [hy, ne_eq, not_true_eq_false, decide_false, Bool.false_or, Option.isNone_iff_eq_none] at h1
  exact h1
theorem j_nw {a : String} {i : Nat} {y : MethodName} {hst : String} (h : (if true then Cond.methodLinkNest a i y hst else .methodLink a i y) ∈ lw_tbl) : Cond.methodLinkNest a i y hst ∈ j_NW := List.mem_filter.mpr ⟨h, rfl⟩
theorem j_tt (cA : FieldType → ClassId) : (j_tys cA)[0]? = some (cA .int, .int) ∧ (j_tys cA)[1]? = some (cA .byte, .byte) ∧ (j_tys cA)[2]? = some (cA .char, .char) ∧ (j_tys cA)[3]? = some (cA .boolean, .boolean) ∧ (j_tys cA)[4]? = some (cA .long, .long) := ⟨rfl, rfl, rfl, rfl, rfl⟩
section JH
variable {cc : ByteArray} {o nL : Nat} {ret : Option FieldType} {ini : Bool} {d : Nat} {xs : Option (Nat × (Nat → Int32))} {Q : j_Q} {sh : List j_S} {mc ms pc : Nat} {ls : j_L} {st : List Value} {μ : j_M}
theorem js_get {n ci f a : Nat} {b : Bool} {ks : List j_K} {kd : j_K} {v : Value} (hf : j_fl o n = some (ci, f, b)) (ha : sh[a]? = some (.inr (ci, ks))) (hk : ks[f]? = some kd) (hv : ∀ α : Nat → Nat, j_fv α (μ a) f kd = j_rn α v) (hok : j_okv sh.length v) (hd : decode cc pc = .ok (.getfield n, 3)) (h : j_J cc o nL ret ini d xs Q sh mc ms (pc + 3) ls (v :: st) μ) : j_J cc o nL ret ini d xs Q sh mc ms pc ls (.ref a :: st) μ := by
  intro p l e R s m args below meth c D cA A α H locs cells slots lr QF h1 h2 h3 h4 h5 h6 h7 h8
  have hts := h1.2.2.2.2.2.2.2.1
  obtain ⟨wK, wP, wD, wS, wA, wN⟩ := id h2
  obtain ⟨C, T, N, g1, g2, g3, g4, g5⟩ := j_fl_ok hf
  have he := j_w_get (cA := cA) (α := α) (μ := μ) ha
  refine va_get (v := j_rn α v) h1.1 h1.2.1 hts (j_inF (j_cf ci C T N g1).1) h1.2.2.2.2.2.2.1 wK wP a he g1 f g2 (hts _ (j_in g5 rfl)) (fun x hx => by rw [g3] at hx; exact hx) (by rw [List.getElem?_mapIdx, hk, ← hv α]; rfl) hd ?_
  exact h p l e R s m args below meth c D cA A α H locs cells slots lr QF h1 h2 h3 h4 h5 (fun z hz => (List.mem_cons.mp hz).elim (fun e => by subst e; exact hok) (fun e => h6 z (List.mem_cons_of_mem _ e))) h7 h8
theorem js_put {n ci f a : Nat} {ks : List j_K} {x : Int32} (hf : j_fl o n = some (ci, f, false)) (ha : sh[a]? = some (.inr (ci, ks))) (hk : ks[f]? = some none) (hx : j_nf (j_ty ci f) x) (hd : decode cc pc = .ok (.putfield n, 3)) (h : j_J cc o nL ret ini d xs Q sh mc ms (pc + 3) ls st (j_up μ a f x)) : j_J cc o nL ret ini d xs Q sh mc ms pc ls (.int x :: .ref a :: st) μ := by
  intro p l e R s m args below meth c D cA A α H locs cells slots lr QF h1 h2 h3 h4 h5 h6 h7 h8
  have hts := h1.2.2.2.2.2.2.2.1
  obtain ⟨wK, wP, wD, wS, wA, wN⟩ := id h2
  obtain ⟨C, T, N, g1, g2, g3, g4, g5⟩ := j_fl_ok hf
  obtain ⟨c1, c2, c3⟩ := j_cf ci C T N g1
  obtain ⟨n1, n2⟩ := j_nf_ok hx
  have he := j_w_get (cA := cA) (α := α) (μ := μ) ha
  have hfl : f < ks.length := (List.getElem?_eq_some_iff.mp hk).1
  refine va_put (v := .int x) h1.1 h1.2.1 hts (j_inF c1) (j_ty ci) c2 c3 h1.2.2.2.2.2.2.1 wK wP wD wS a he g1 f g2 (hts _ (j_in g5 rfl)) (fun x hx => by rw [g3] at hx; exact hx) g4 (c2 f g2) n1 n2 (by rw [List.length_mapIdx]; exact hfl) hd (fun H1 locs1 wP1 wD1 wS1 => ?_)
  rw [j_ob_put x hk] at wP1 wD1
  have hw : (j_w cA α sh μ).set a (α a, .inr (ci, ks.mapIdx (fun j k => j_fv α (upd (μ a) f x) j k))) = j_w cA α sh (j_up μ a f x) := (j_w_row ha _).symm
  rw [hw] at wP1 wD1
  exact h p l e R s m args below meth c D cA A α H1 locs1 cells slots lr QF h1 ⟨wK, wP1, wD1, wS1, wA, wN⟩ h3 h4 h5 (j_ok_t (j_ok_t h6)) h7 h8
theorem js_putv {n ci f a r : Nat} {ks : List j_K} (hf : j_fl o n = some (ci, f, false)) (ha : sh[a]? = some (.inr (ci, ks))) (hk : ks[f]? = some (some none)) (hr : r < 2147483648) (hx : fits (j_ty ci f) (.ref r) = true) (hd : decode cc pc = .ok (.putfield n, 3)) (h : j_J cc o nL ret ini d xs Q sh mc ms (pc + 3) ls st (j_up μ a f (nI r))) : j_J cc o nL ret ini d xs Q sh mc ms pc ls (.ref r :: .ref a :: st) μ := by
  intro p l e R s m args below meth c D cA A α H locs cells slots lr QF h1 h2 h3 h4 h5 h6 h7 h8
  have hts := h1.2.2.2.2.2.2.2.1
  obtain ⟨wK, wP, wD, wS, wA, wN⟩ := id h2
  obtain ⟨C, T, N, g1, g2, g3, g4, g5⟩ := j_fl_ok hf
  obtain ⟨c1, c2, c3⟩ := j_cf ci C T N g1
  have he := j_w_get (cA := cA) (α := α) (μ := μ) ha
  have hfl : f < ks.length := (List.getElem?_eq_some_iff.mp hk).1
  refine va_put (v := .ref (α r)) h1.1 h1.2.1 hts (j_inF c1) (j_ty ci) c2 c3 h1.2.2.2.2.2.2.1 wK wP wD wS a he g1 f g2 (hts _ (j_in g5 rfl)) (fun x hx => by rw [g3] at hx; exact hx) g4 (c2 f g2) (by cases j_ty ci f <;> rfl) (by revert hx; cases j_ty ci f <;> intro hx <;> first | rfl | cases hx) (by rw [List.length_mapIdx]; exact hfl) hd (fun H1 locs1 wP1 wD1 wS1 => ?_)
  rw [j_ob_putv hr hk] at wP1 wD1
  have hw : (j_w cA α sh μ).set a (α a, .inr (ci, ks.mapIdx (fun j k => j_fv α (upd (μ a) f (nI r)) j k))) = j_w cA α sh (j_up μ a f (nI r)) := (j_w_row ha _).symm
  rw [hw] at wP1 wD1
  exact h p l e R s m args below meth c D cA A α H1 locs1 cells slots lr QF h1 ⟨wK, wP1, wD1, wS1, wA, wN⟩ h3 h4 h5 (j_ok_t (j_ok_t h6)) h7 h8
theorem js_putw {n ci f a r : Nat} {ks : List j_K} {kd : j_K} (hf : j_fl o n = some (ci, f, false)) (ha : sh[a]? = some (.inr (ci, ks))) (hk : ks[f]? = some kd) (hr : r < 2147483648) (hx : fits (j_ty ci f) (.ref r) = true) (hd : decode cc pc = .ok (.putfield n, 3)) (h : j_J cc o nL ret ini d xs Q (sh.set a (.inr (ci, ks.set f (some none)))) mc ms (pc + 3) ls st (j_up μ a f (nI r))) : j_J cc o nL ret ini d xs Q sh mc ms pc ls (.ref r :: .ref a :: st) μ := by
  intro p l e R s m args below meth c D cA A α H locs cells slots lr QF h1 h2 h3 h4 h5 h6 h7 h8
  have hts := h1.2.2.2.2.2.2.2.1
  obtain ⟨wK, wP, wD, wS, wA, wN⟩ := id h2
  obtain ⟨C, T, N, g1, g2, g3, g4, g5⟩ := j_fl_ok hf
  obtain ⟨c1, c2, c3⟩ := j_cf ci C T N g1
  have he := j_w_get (cA := cA) (α := α) (μ := μ) ha
  have hfl : f < ks.length := (List.getElem?_eq_some_iff.mp hk).1
  refine va_put (v := .ref (α r)) h1.1 h1.2.1 hts (j_inF c1) (j_ty ci) c2 c3 h1.2.2.2.2.2.2.1 wK wP wD wS a he g1 f g2 (hts _ (j_in g5 rfl)) (fun x hx => by rw [g3] at hx; exact hx) g4 (c2 f g2) (by cases j_ty ci f <;> rfl) (by revert hx; cases j_ty ci f <;> intro hx <;> first | rfl | cases hx) (by rw [List.length_mapIdx]; exact hfl) hd (fun H1 locs1 wP1 wD1 wS1 => ?_)
  rw [j_ob_putw hr hfl] at wP1 wD1
  have hal : a < sh.length := (List.getElem?_eq_some_iff.mp ha).1
  have hw : (j_w cA α sh μ).set a (α a, .inr (ci, (ks.set f (some none)).mapIdx (fun j k => j_fv α (upd (μ a) f (nI r)) j k))) = j_w cA α (sh.set a (.inr (ci, ks.set f (some none)))) (j_up μ a f (nI r)) := by
    rw [show j_up μ a f (nI r) = j_row μ a (upd (μ a) f (nI r)) from rfl, j_w_row (s := .inr (ci, ks.set f (some none))) (by rw [List.getElem?_set, if_pos rfl, if_pos hal]), j_w_shape, List.set_set]
    rfl
  rw [hw] at wP1 wD1
  exact h p l e R s m args below meth c D cA A α H1 locs1 cells slots lr QF h1 ⟨wK, wP1, wD1, wS1, wA, wN⟩ h3 h4 (by rw [List.length_set]; exact h5) (by rw [List.length_set]; exact j_ok_t (j_ok_t h6)) h7 (by rw [List.length_set]; exact h8)
theorem js_putr {n ci f a r : Nat} {ks : List j_K} {kd : j_K} (hf : j_fl o n = some (ci, f, true)) (hi : ini = true) (hco : ci = o) (ha : sh[a]? = some (.inr (ci, ks))) (hk : ks[f]? = some kd) (hx : fits (j_ty ci f) (.ref r) = true) (hd : decode cc pc = .ok (.putfield n, 3)) (h : j_J cc o nL ret ini d xs Q (sh.set a (.inr (ci, ks.set f (some (some (some r)))))) mc ms (pc + 3) ls st μ) : j_J cc o nL ret ini d xs Q sh mc ms pc ls (.ref r :: .ref a :: st) μ := by
  intro p l e R s m args below meth c D cA A α H locs cells slots lr QF h1 h2 h3 h4 h5 h6 h7 h8
  have hts := h1.2.2.2.2.2.2.2.1
  obtain ⟨wK, wP, wD, wS, wA, wN⟩ := id h2
  obtain ⟨C, T, N, g1, g2, g3, g4, g5⟩ := j_fl_ok hf
  obtain ⟨c1, c2, c3⟩ := j_cf ci C T N g1
  have he := j_w_get (cA := cA) (α := α) (μ := μ) ha
  have hfl : f < ks.length := (List.getElem?_eq_some_iff.mp hk).1
  have hnm : C = j_cn o := by rw [← hco]; exact j_cls_nm ci _ g1
  refine va_putF (v := .ref (α r)) h1.1 h1.2.1 hts (j_inF c1) (j_ty ci) c2 c3 h1.2.2.2.2.2.2.1 wK wP wD wS a he g1 f g2 (hts _ (j_in g5 rfl)) (fun x hx => by rw [g3] at hx; exact hx) g4 (h1.2.2.2.2.2.1 hi) (by rw [g3]; exact hnm) (c2 f g2) (by cases j_ty ci f <;> rfl) (by revert hx; cases j_ty ci f <;> intro hx <;> first | rfl | cases hx) (by rw [List.length_mapIdx]; exact hfl) hd (fun H1 locs1 wP1 wD1 wS1 => ?_)
  rw [j_ob_putr] at wP1 wD1
  have hw : (j_w cA α sh μ).set a (α a, .inr (ci, (ks.set f (some (some (some r)))).mapIdx (fun j k => j_fv α (μ a) j k))) = j_w cA α (sh.set a (.inr (ci, ks.set f (some (some (some r)))))) μ := by
    rw [j_w_shape]
    rfl
  rw [hw] at wP1 wD1
  exact h p l e R s m args below meth c D cA A α H1 locs1 cells slots lr QF h1 ⟨wK, wP1, wD1, wS1, wA, wN⟩ h3 h4 (by rw [List.length_set]; exact h5) (by rw [List.length_set]; exact j_ok_t (j_ok_t h6)) h7 (by rw [List.length_set]; exact h8)
theorem js_iald {i : Int32} {a n : Nat} (ha : sh[a]? = some (.inl (.int, n))) (hin : vp_in i n) (hd : decode cc pc = .ok (.iaload, 1)) (h : j_J cc o nL ret ini d xs Q sh mc ms (pc + 1) ls (.int (μ a i.toNatClampNeg) :: st) μ) : j_J cc o nL ret ini d xs Q sh mc ms pc ls (.int i :: .ref a :: st) μ := by
  intro p l e R s m args below meth c D cA A α H locs cells slots lr QF h1 h2 h3 h4 h5 h6 h7 h8
  have hts := h1.2.2.2.2.2.2.2.1
  obtain ⟨wK, wP, wD, wS, wA, wN⟩ := id h2
  exact va_iald h1.1 h1.2.1 wK wP a 0 (j_w_get ha) (j_tt cA).1 hin hd (h p l e R s m args below meth c D cA A α H locs cells slots lr QF h1 h2 h3 h4 h5 (j_ok_i (j_ok_t (j_ok_t h6))) h7 h8)
theorem js_bald {i : Int32} {a n : Nat} (ha : sh[a]? = some (.inl (.byte, n))) (hin : vp_in i n) (hd : decode cc pc = .ok (.baload, 1)) (h : j_J cc o nL ret ini d xs Q sh mc ms (pc + 1) ls (.int (μ a i.toNatClampNeg) :: st) μ) : j_J cc o nL ret ini d xs Q sh mc ms pc ls (.int i :: .ref a :: st) μ := by
  intro p l e R s m args below meth c D cA A α H locs cells slots lr QF h1 h2 h3 h4 h5 h6 h7 h8
  have hts := h1.2.2.2.2.2.2.2.1
  obtain ⟨wK, wP, wD, wS, wA, wN⟩ := id h2
  exact va_bald h1.1 h1.2.1 wK wP a 1 (j_w_get ha) (j_tt cA).2.1 hin hd (h p l e R s m args below meth c D cA A α H locs cells slots lr QF h1 h2 h3 h4 h5 (j_ok_i (j_ok_t (j_ok_t h6))) h7 h8)
theorem js_cald {i : Int32} {a n : Nat} (ha : sh[a]? = some (.inl (.char, n))) (hin : vp_in i n) (hd : decode cc pc = .ok (.caload, 1)) (h : j_J cc o nL ret ini d xs Q sh mc ms (pc + 1) ls (.int (μ a i.toNatClampNeg) :: st) μ) : j_J cc o nL ret ini d xs Q sh mc ms pc ls (.int i :: .ref a :: st) μ := by
  intro p l e R s m args below meth c D cA A α H locs cells slots lr QF h1 h2 h3 h4 h5 h6 h7 h8
  have hts := h1.2.2.2.2.2.2.2.1
  obtain ⟨wK, wP, wD, wS, wA, wN⟩ := id h2
  exact va_cald h1.1 h1.2.1 wK wP a 2 (j_w_get ha) (j_tt cA).2.2.1 hin hd (h p l e R s m args below meth c D cA A α H locs cells slots lr QF h1 h2 h3 h4 h5 (j_ok_i (j_ok_t (j_ok_t h6))) h7 h8)
theorem js_zald {i : Int32} {a n : Nat} (ha : sh[a]? = some (.inl (.boolean, n))) (hin : vp_in i n) (hd : decode cc pc = .ok (.baload, 1)) (h : j_J cc o nL ret ini d xs Q sh mc ms (pc + 1) ls (.int (μ a i.toNatClampNeg) :: st) μ) : j_J cc o nL ret ini d xs Q sh mc ms pc ls (.int i :: .ref a :: st) μ := by
  intro p l e R s m args below meth c D cA A α H locs cells slots lr QF h1 h2 h3 h4 h5 h6 h7 h8
  have hts := h1.2.2.2.2.2.2.2.1
  obtain ⟨wK, wP, wD, wS, wA, wN⟩ := id h2
  exact va_zald h1.1 h1.2.1 wK wP a 3 (j_w_get ha) (j_tt cA).2.2.2.1 hin hd (h p l e R s m args below meth c D cA A α H locs cells slots lr QF h1 h2 h3 h4 h5 (j_ok_i (j_ok_t (j_ok_t h6))) h7 h8)
theorem js_lald {i : Int32} {a n : Nat} (ha : sh[a]? = some (.inl (.long, n))) (hin : vp_in i n) (hd : decode cc pc = .ok (.laload, 1)) (h : j_J cc o nL ret ini d xs Q sh mc ms (pc + 1) ls (.long (μ a i.toNatClampNeg).toInt64 :: st) μ) : j_J cc o nL ret ini d xs Q sh mc ms pc ls (.int i :: .ref a :: st) μ := by
  intro p l e R s m args below meth c D cA A α H locs cells slots lr QF h1 h2 h3 h4 h5 h6 h7 h8
  have hts := h1.2.2.2.2.2.2.2.1
  obtain ⟨wK, wP, wD, wS, wA, wN⟩ := id h2
  exact va_lald (f := fun j => (μ a j).toInt64) h1.1 h1.2.1 wK wP a 4 (j_w_get ha) (j_tt cA).2.2.2.2 hin hd (h p l e R s m args below meth c D cA A α H locs cells slots lr QF h1 h2 h3 h4 h5 (j_ok_l (j_ok_t (j_ok_t h6))) h7 h8)
theorem js_iast {i x : Int32} {a n : Nat} (ha : sh[a]? = some (.inl (.int, n))) (hin : vp_in i n) (hd : decode cc pc = .ok (.iastore, 1)) (h : j_J cc o nL ret ini d xs Q sh mc ms (pc + 1) ls st (j_up μ a i.toNatClampNeg x)) : j_J cc o nL ret ini d xs Q sh mc ms pc ls (.int x :: .int i :: .ref a :: st) μ := by
  intro p l e R s m args below meth c D cA A α H locs cells slots lr QF h1 h2 h3 h4 h5 h6 h7 h8
  have hts := h1.2.2.2.2.2.2.2.1
  obtain ⟨wK, wP, wD, wS, wA, wN⟩ := id h2
  refine va_iast h1.1 h1.2.1 wK wP wD wS a 0 (j_w_get ha) (j_tt cA).1 hin hd (fun H1 locs1 wP1 wD1 wS1 => ?_)
  have hw : (j_w cA α sh μ).set a (α a, .inl (cA .int, n, .inl (upd (μ a) i.toNatClampNeg x))) = j_w cA α sh (j_up μ a i.toNatClampNeg x) := (j_w_row ha _).symm
  rw [hw] at wP1 wD1
  exact h p l e R s m args below meth c D cA A α H1 locs1 cells slots lr QF h1 ⟨wK, wP1, wD1, wS1, wA, wN⟩ h3 h4 h5 (j_ok_t (j_ok_t (j_ok_t h6))) h7 h8
theorem js_bast {i x : Int32} {a n : Nat} (ha : sh[a]? = some (.inl (.byte, n))) (hin : vp_in i n) (hd : decode cc pc = .ok (.bastore, 1)) (h : j_J cc o nL ret ini d xs Q sh mc ms (pc + 1) ls st (j_up μ a i.toNatClampNeg (vp_nar .byte x))) : j_J cc o nL ret ini d xs Q sh mc ms pc ls (.int x :: .int i :: .ref a :: st) μ := by
  intro p l e R s m args below meth c D cA A α H locs cells slots lr QF h1 h2 h3 h4 h5 h6 h7 h8
  have hts := h1.2.2.2.2.2.2.2.1
  obtain ⟨wK, wP, wD, wS, wA, wN⟩ := id h2
  refine va_bast h1.1 h1.2.1 wK wP wD wS a 1 (j_w_get ha) (j_tt cA).2.1 hin hd (fun H1 locs1 wP1 wD1 wS1 => ?_)
  have hw : (j_w cA α sh μ).set a (α a, .inl (cA .byte, n, .inl (upd (μ a) i.toNatClampNeg (vp_nar .byte x)))) = j_w cA α sh (j_up μ a i.toNatClampNeg (vp_nar .byte x)) := (j_w_row ha _).symm
  rw [hw] at wP1 wD1
  exact h p l e R s m args below meth c D cA A α H1 locs1 cells slots lr QF h1 ⟨wK, wP1, wD1, wS1, wA, wN⟩ h3 h4 h5 (j_ok_t (j_ok_t (j_ok_t h6))) h7 h8
theorem js_cast {i x : Int32} {a n : Nat} (ha : sh[a]? = some (.inl (.char, n))) (hin : vp_in i n) (hd : decode cc pc = .ok (.castore, 1)) (h : j_J cc o nL ret ini d xs Q sh mc ms (pc + 1) ls st (j_up μ a i.toNatClampNeg (vp_nar .char x))) : j_J cc o nL ret ini d xs Q sh mc ms pc ls (.int x :: .int i :: .ref a :: st) μ := by
  intro p l e R s m args below meth c D cA A α H locs cells slots lr QF h1 h2 h3 h4 h5 h6 h7 h8
  have hts := h1.2.2.2.2.2.2.2.1
  obtain ⟨wK, wP, wD, wS, wA, wN⟩ := id h2
  refine va_cast h1.1 h1.2.1 wK wP wD wS a 2 (j_w_get ha) (j_tt cA).2.2.1 hin hd (fun H1 locs1 wP1 wD1 wS1 => ?_)
  have hw : (j_w cA α sh μ).set a (α a, .inl (cA .char, n, .inl (upd (μ a) i.toNatClampNeg (vp_nar .char x)))) = j_w cA α sh (j_up μ a i.toNatClampNeg (vp_nar .char x)) := (j_w_row ha _).symm
  rw [hw] at wP1 wD1
  exact h p l e R s m args below meth c D cA A α H1 locs1 cells slots lr QF h1 ⟨wK, wP1, wD1, wS1, wA, wN⟩ h3 h4 h5 (j_ok_t (j_ok_t (j_ok_t h6))) h7 h8
theorem js_zast {i x : Int32} {a n : Nat} (ha : sh[a]? = some (.inl (.boolean, n))) (hin : vp_in i n) (hd : decode cc pc = .ok (.bastore, 1)) (h : j_J cc o nL ret ini d xs Q sh mc ms (pc + 1) ls st (j_up μ a i.toNatClampNeg (vp_nar .boolean x))) : j_J cc o nL ret ini d xs Q sh mc ms pc ls (.int x :: .int i :: .ref a :: st) μ := by
  intro p l e R s m args below meth c D cA A α H locs cells slots lr QF h1 h2 h3 h4 h5 h6 h7 h8
  have hts := h1.2.2.2.2.2.2.2.1
  obtain ⟨wK, wP, wD, wS, wA, wN⟩ := id h2
  refine va_zast h1.1 h1.2.1 wK wP wD wS a 3 (j_w_get ha) (j_tt cA).2.2.2.1 hin hd (fun H1 locs1 wP1 wD1 wS1 => ?_)
  have hw : (j_w cA α sh μ).set a (α a, .inl (cA .boolean, n, .inl (upd (μ a) i.toNatClampNeg (vp_nar .boolean x)))) = j_w cA α sh (j_up μ a i.toNatClampNeg (vp_nar .boolean x)) := (j_w_row ha _).symm
  rw [hw] at wP1 wD1
  exact h p l e R s m args below meth c D cA A α H1 locs1 cells slots lr QF h1 ⟨wK, wP1, wD1, wS1, wA, wN⟩ h3 h4 h5 (j_ok_t (j_ok_t (j_ok_t h6))) h7 h8
theorem js_alen_int {a n : Nat} (ha : sh[a]? = some (.inl (.int, n))) (hd : decode cc pc = .ok (.arraylength, 1)) (h : j_J cc o nL ret ini d xs Q sh mc ms (pc + 1) ls (.int (nI n) :: st) μ) : j_J cc o nL ret ini d xs Q sh mc ms pc ls (.ref a :: st) μ := by
  intro p l e R s m args below meth c D cA A α H locs cells slots lr QF h1 h2 h3 h4 h5 h6 h7 h8
  have hts := h1.2.2.2.2.2.2.2.1
  obtain ⟨wK, wP, wD, wS, wA, wN⟩ := id h2
  exact va_alen h1.1 h1.2.1 wK wP a 0 (j_w_get ha) (j_tt cA).1 rfl hd (h p l e R s m args below meth c D cA A α H locs cells slots lr QF h1 h2 h3 h4 h5 (j_ok_i (j_ok_t h6)) h7 h8)
theorem js_alen_byte {a n : Nat} (ha : sh[a]? = some (.inl (.byte, n))) (hd : decode cc pc = .ok (.arraylength, 1)) (h : j_J cc o nL ret ini d xs Q sh mc ms (pc + 1) ls (.int (nI n) :: st) μ) : j_J cc o nL ret ini d xs Q sh mc ms pc ls (.ref a :: st) μ := by
  intro p l e R s m args below meth c D cA A α H locs cells slots lr QF h1 h2 h3 h4 h5 h6 h7 h8
  have hts := h1.2.2.2.2.2.2.2.1
  obtain ⟨wK, wP, wD, wS, wA, wN⟩ := id h2
  exact va_alen h1.1 h1.2.1 wK wP a 1 (j_w_get ha) (j_tt cA).2.1 rfl hd (h p l e R s m args below meth c D cA A α H locs cells slots lr QF h1 h2 h3 h4 h5 (j_ok_i (j_ok_t h6)) h7 h8)
theorem js_alen_char {a n : Nat} (ha : sh[a]? = some (.inl (.char, n))) (hd : decode cc pc = .ok (.arraylength, 1)) (h : j_J cc o nL ret ini d xs Q sh mc ms (pc + 1) ls (.int (nI n) :: st) μ) : j_J cc o nL ret ini d xs Q sh mc ms pc ls (.ref a :: st) μ := by
  intro p l e R s m args below meth c D cA A α H locs cells slots lr QF h1 h2 h3 h4 h5 h6 h7 h8
  have hts := h1.2.2.2.2.2.2.2.1
  obtain ⟨wK, wP, wD, wS, wA, wN⟩ := id h2
  exact va_alen h1.1 h1.2.1 wK wP a 2 (j_w_get ha) (j_tt cA).2.2.1 rfl hd (h p l e R s m args below meth c D cA A α H locs cells slots lr QF h1 h2 h3 h4 h5 (j_ok_i (j_ok_t h6)) h7 h8)
theorem js_alen_boolean {a n : Nat} (ha : sh[a]? = some (.inl (.boolean, n))) (hd : decode cc pc = .ok (.arraylength, 1)) (h : j_J cc o nL ret ini d xs Q sh mc ms (pc + 1) ls (.int (nI n) :: st) μ) : j_J cc o nL ret ini d xs Q sh mc ms pc ls (.ref a :: st) μ := by
  intro p l e R s m args below meth c D cA A α H locs cells slots lr QF h1 h2 h3 h4 h5 h6 h7 h8
  have hts := h1.2.2.2.2.2.2.2.1
  obtain ⟨wK, wP, wD, wS, wA, wN⟩ := id h2
  exact va_alen h1.1 h1.2.1 wK wP a 3 (j_w_get ha) (j_tt cA).2.2.2.1 rfl hd (h p l e R s m args below meth c D cA A α H locs cells slots lr QF h1 h2 h3 h4 h5 (j_ok_i (j_ok_t h6)) h7 h8)
theorem js_acp {n : Nat} {k dp sp : Int32} {a a0 n0 n1 : Nat} (hm : j_acp o n = true) (hd1 : 1 ≤ d) (e1 : ¬ sp < 0) (e2 : ¬ dp < 0) (e3 : ¬ k < 0) (ha0 : sh[a0]? = some (.inl (.char, n0))) (e4 : sp.toNatClampNeg + k.toNatClampNeg ≤ n0) (ha : sh[a]? = some (.inl (.char, n1))) (e5 : dp.toNatClampNeg + k.toNatClampNeg ≤ n1) (hfit : ∀ i, i < k.toNatClampNeg → fits .char (.int (μ a0 (sp.toNatClampNeg + i))) = true) (hd : decode cc pc = .ok (.invokestatic n, 3)) (h : j_J cc o nL ret ini d xs Q sh mc ms (pc + 3) ls [] (j_row μ a (va_cpy (μ a0) (μ a) sp.toNatClampNeg dp.toNatClampNeg k.toNatClampNeg))) : j_J cc o nL ret ini d xs Q sh mc ms pc ls (.int k :: .int dp :: .ref a :: .int sp :: .ref a0 :: []) μ := by
  intro p l e R s m args below meth c D cA A α H locs cells slots lr QF h1 h2 h3 h4 h5 h6 h7 h8
  have hts := h1.2.2.2.2.2.2.2.1
  obtain ⟨wK, wP, wD, wS, wA, wN⟩ := id h2
  unfold j_acp at hm
  simp only [Bool.and_eq_true, beq_iff_eq] at hm
  obtain ⟨rfl, rfl⟩ := hm
  have hfr := h1.2.2.2.2.2.2.2.2.1
  have hlo := h1.2.2.2.2.2.2.2.2.2
  refine va_copyi (rest := []) h1.1 h1.2.1 (by rw [h1.2.2.1]; exact h5.1.symm) h1.2.2.2.2.2.2.1 (hts _ (j_in j_acp1.1 rfl)) (hts _ (j_in j_acp1.2.1 rfl)) (hts _ (j_in j_acp1.2.2.1 rfl)) (hts _ (j_in j_acp1.2.2.2 rfl)) wK wP wD wS a0 a 2 2 (j_w_get ha0) (j_w_get ha) (j_tt cA).2.2.1 (j_tt cA).2.2.1 rfl e1 e2 e3 e4 e5 hfit (by omega) (Nat.le_trans (show _ ≤ 64 by decide) (by omega)) hd (fun H1 locs1 wP1 wD1 wS1 => ?_)
  have hw : (j_w cA α sh μ).set a (α a, .inl (cA .char, n1, .inl (va_cpy (μ a0) (μ a) sp.toNatClampNeg dp.toNatClampNeg k.toNatClampNeg))) = j_w cA α sh (j_row μ a (va_cpy (μ a0) (μ a) sp.toNatClampNeg dp.toNatClampNeg k.toNatClampNeg)) := (j_w_row ha _).symm
  rw [hw] at wP1 wD1
  exact h p l e R s m args below meth c D cA A α H1 locs1 cells slots lr QF h1 ⟨wK, wP1, wD1, wS1, wA, wN⟩ h3 h4 h5 (fun v hv => by cases hv) h7 h8
theorem js_ret (hd : decode cc pc = .ok (.return_, 1)) (hr : ret = none) (h : Q none sh μ) : j_J cc o nL ret ini d xs Q sh mc ms pc ls [] μ := by
  intro p l e R s m args below meth c D cA A α H locs cells slots lr QF h1 h2 h3 h4 h5 h6 h7 h8
  exact h8 none sh μ α H locs cells slots lr pc h (Nat.le_refl _) (fun _ _ => rfl) h2 (by omega) (by omega) (fun _ => ⟨hd, hr⟩) (fun v hv => by cases hv)
theorem js_iret {v : Int32} (hd : decode cc pc = .ok (.ireturn, 1)) (hr : j_rt ret v) (h : Q (some v) sh μ) : j_J cc o nL ret ini d xs Q sh mc ms pc ls [.int v] μ := by
  intro p l e R s m args below meth c D cA A α H locs cells slots lr QF h1 h2 h3 h4 h5 h6 h7 h8
  refine h8 (some v) sh μ α H locs cells slots lr pc h (Nat.le_refl _) (fun _ _ => rfl) h2 (by omega) (by omega) (fun hv => by cases hv) (fun x hx => ?_)
  cases hx
  cases ret with
  | none => exact hr.elim
  | some ty => exact ⟨hd, ty, rfl, (j_nf_ok hr).1⟩
theorem j_Xs_grow {l : Launch} {α : Nat → Nat} {A : Nat → Prop} {s : State} {n q : Nat} (h : j_Xs l xs α A s) (hn : n < j_sc) : j_Xs l xs (fun k => if k = n then q else α k) A s := by
  unfold j_Xs at h ⊢
  cases xs with
  | none => trivial
  | some z =>
    dsimp only at h ⊢
    rw [if_neg (by omega : ¬ j_sc = n)]
    exact h
theorem j_al_ext {α : Nat → Nat} {n q : Nat} (hn : n < j_sc) : ∀ k, k < n ∨ k = j_sc → (fun k => if k = n then q else α k) k = α k := by
  intro k hk
  show (if k = n then q else α k) = α k
  rw [if_neg]
  rcases hk with hk | hk <;> omega
theorem js_newarray {t : ArrayType} {n : Int32} (hn : ¬ n < 0) (hN : n.toNatClampNeg ≤ 1000000) (hmc : 1 ≤ mc) (hms : n.toNatClampNeg ≤ ms) (hsh : sh.length < j_sc) (hok : j_okr sh.length sh μ) (ht : t = .int ∨ t = .char ∨ t = .byte ∨ t = .boolean ∨ t = .long) (hd : decode cc pc = .ok (.newarray t, 2)) (h : j_J cc o nL ret ini d xs Q (sh ++ [.inl (j_at t, n.toNatClampNeg)]) (mc - 1) (ms - n.toNatClampNeg) (pc + 2) ls (.ref sh.length :: st) (j_row μ sh.length (fun _ => 0))) : j_J cc o nL ret ini d xs Q sh mc ms pc ls (.int n :: st) μ := by
  intro p l e R s m args below meth c D cA A α H locs cells slots lr QF h1 h2 h3 h4 h5 h6 h7 h8
  have hts := h1.2.2.2.2.2.2.2.1
  obtain ⟨wK, wP, wD, wS, wA, wN⟩ := id h2
  have key : ∀ (ty : FieldType) (a0 : vp_A) (k0 : Nat), newarray.typeOf t = ty → j_at t = ty → Cond.arrayClass ty ∈ lw_tbl → (j_tys cA)[k0]? = some (cA ty, ty) → (∀ cB : ClassId, vp_cell cB a0 = arrV cB n.toNatClampNeg (fun _ => defaultValue ty)) → (∀ β : Nat → Nat, j_ce cA β (fun _ => 0) (.inl (ty, n.toNatClampNeg)) = .inl (cA ty, a0)) → n.toNatClampNeg * componentBytes ty ≤ 536870912 → (∀ cB : ClassId, va_RA s cB ty → va_RA s (cA ty) ty → cB = cA ty) → W p l e R s m args below meth c H locs cells slots QF (F0 m pc lr ((Value.int n :: st).map (j_rn α))) := by
    intro ty a0 k0 e0 e0' e1 e2 e3 e4 e5 e6
    refine va_newa h1.1 h1.2.1 (by rw [e0]; exact hts _ (j_in e1 rfl)) e0 wK wP wD wS wA (a0 := a0) e3 hn rfl e5 (by omega) (by omega) hd (fun q cB H1 wK1 wP1 wD1 wS1 => ?_)
    have hcB : cB = cA ty := by
      refine e6 cB ?_ ((wK.2 k0 _ e2).2)
      have hl : (j_tys cA ++ [(cB, ty)])[(j_tys cA).length]? = some (cB, ty) := by
        rw [List.getElem?_append_right (Nat.le_refl _), Nat.sub_self]; rfl
      exact (wK1.2 _ _ hl).2
    subst hcB
    have hw : j_w cA α sh μ ++ [(q, .inl (cA ty, a0))] = j_w cA (fun k => if k = sh.length then q else α k) (sh ++ [.inl (ty, n.toNatClampNeg)]) (j_row μ sh.length (fun _ => 0)) := by
      rw [j_w_grow hok, e4]
    rw [hw] at wP1 wD1
    have hx := j_al_ext (α := α) (q := q) hsh
    have hlen : (sh ++ [(.inl (ty, n.toNatClampNeg) : j_S)]).length = sh.length + 1 := by simp
    rw [e0'] at h
    have hst : (Value.ref sh.length :: st).map (j_rn (fun k => if k = sh.length then q else α k)) = .ref q :: st.map (j_rn α) := by
      rw [List.map_cons, j_map_ext (j_ok_t h6) hx]
      simp [j_rn]
    have := h p l e R s m args below meth c D cA A (fun k => if k = sh.length then q else α k) H1 locs (cells + 1) (slots + n.toNatClampNeg) lr QF h1 ⟨wK, wP1, wD1, wS1, wA, wN⟩ (by omega) (by omega) (by rw [hlen]; exact h5.ext (by omega) hx) (by rw [hlen]; exact j_ok_r (Or.inl (by omega)) (fun v hv => j_okv_ext (j_ok_t h6 v hv) (by omega))) (j_Xs_grow h7 hsh)
      (fun r sh' μ' α' H' locs' cells' slots' lr' pc' b1 b2 b3 => h8 r sh' μ' α' H' locs' cells' slots' lr' pc' b1 (by omega) (fun k hk => by
        rw [b3 k (hk.elim (fun z => Or.inl (by omega)) Or.inr)]
        exact hx k hk))
    rw [hst] at this
    exact this
  rcases ht with rfl | rfl | rfl | rfl | rfl
  · exact key .int (n.toNatClampNeg, .inl fun _ => 0) 0 rfl rfl j_arr.1 (j_tt cA).1 (fun _ => rfl) (fun _ => rfl) (by simp [componentBytes]; omega) (fun cB a b => Option.some.inj (a.symm.trans b))
  · exact key .char (n.toNatClampNeg, .inl fun _ => 0) 2 rfl rfl j_arr.2.2.1 (j_tt cA).2.2.1 (fun _ => rfl) (fun _ => rfl) (by simp [componentBytes]; omega) (fun cB a b => Option.some.inj (a.symm.trans b))
  · exact key .byte (n.toNatClampNeg, .inl fun _ => 0) 1 rfl rfl j_arr.2.1 (j_tt cA).2.1 (fun _ => rfl) (fun _ => rfl) (by simp [componentBytes]; omega) (fun cB a b => Option.some.inj (a.symm.trans b))
  · exact key .boolean (n.toNatClampNeg, .inl fun _ => 0) 3 rfl rfl j_arr.2.2.2.1 (j_tt cA).2.2.2.1 (fun _ => rfl) (fun _ => rfl) (by simp [componentBytes]; omega) (fun cB a b => Option.some.inj (a.symm.trans b))
  · exact key .long (n.toNatClampNeg, .inr (.inl fun _ => (0 : Int32).toInt64)) 4 rfl rfl j_arr.2.2.2.2 (j_tt cA).2.2.2.2 (fun _ => rfl) (fun _ => rfl) (by simp [componentBytes]; omega) (fun cB a b => Option.some.inj (a.symm.trans b))
theorem j_ty_kinds : ∀ (i j : Nat), j_ty i j = .int ∨ j_ty i j = .boolean ∨ j_ty i j = .char ∨ (∃ C, j_ty i j = .object C) ∨ ∃ t, j_ty i j = .array t := by
  intro i j
  unfold j_ty
  split
  · unfold tyX0; split <;> simp
  · unfold tyX1; split <;> simp
  · unfold tyX2; split <;> simp
  · unfold tyX3; split <;> simp
  · unfold tyX4; split <;> simp
  · unfold tyX5; split <;> simp
  · unfold tyX6; split <;> simp
  · unfold tyX7; split <;> simp
  · unfold tyX8; split <;> simp
  · unfold tyX9; split <;> simp
  · unfold tyX10; split <;> simp
  · simp
theorem js_new {n ci N : Nat} (hc : j_cl o n = some (ci, N)) (hmc : 1 ≤ mc) (hms : N ≤ ms) (hsh : sh.length < j_sc) (hok : j_okr sh.length sh μ) (hd : decode cc pc = .ok (.new n, 3)) (h : j_J cc o nL ret ini d xs Q (sh ++ [.inr (ci, j_k0 ci N)]) (mc - 1) (ms - N) (pc + 3) ls (.ref sh.length :: st) (j_row μ sh.length (fun _ => 0))) : j_J cc o nL ret ini d xs Q sh mc ms pc ls st μ := by
  intro p l e R s m args below meth c D cA A α H locs cells slots lr QF h1 h2 h3 h4 h5 h6 h7 h8
  have hts := h1.2.2.2.2.2.2.2.1
  obtain ⟨wK, wP, wD, wS, wA, wN⟩ := id h2
  obtain ⟨C, T, g1, g2, g3, g4⟩ := j_cl_ok hc
  obtain ⟨c1, c2, c3⟩ := j_cf ci C T N g1
  refine va_new (fs := (j_k0 ci N).mapIdx (fun j k => j_fv α (fun _ => 0) j k)) h1.1 h1.2.1 hts (j_inF c1) (j_ty ci) c2 h1.2.2.2.2.2.2.1 (hts _ (j_in g2 rfl)) (hts _ (j_in g3 rfl)) (hts _ (j_in g4 rfl)) wK wP wD wS wA g1 (fun j hj => ?_) (by omega) (by omega) hd (fun q H1 wP1 wD1 wS1 => ?_)
  · unfold vp_V j_k0
    rw [List.getD_eq_getElem?_getD, List.getElem?_mapIdx, List.getElem?_map, List.getElem?_range hj]
    have h9 : parseFieldDescriptor (T j).2.2.1 = some (j_ty ci j) := c2 j hj
    have hint : j_ty ci j = .int ∨ j_ty ci j = .boolean ∨ j_ty ci j = .char ∨ (∃ C, j_ty ci j = .object C) ∨ ∃ t, j_ty ci j = .array t := j_ty_kinds ci j
    rcases hint with e | e | e | ⟨C, e⟩ | ⟨t, e⟩ <;> simp [e, j_k00, j_fv, defaultValue]
  · have hsame : ∀ β : Nat → Nat, (j_k0 ci N).mapIdx (fun j k => j_fv β (fun _ => 0) j k) = (j_k0 ci N).mapIdx (fun j k => j_fv α (fun _ => 0) j k) := by
      intro β
      apply List.ext_getElem?
      intro j
      rw [List.getElem?_mapIdx, List.getElem?_mapIdx]
      unfold j_k0
      rw [List.getElem?_map]
      cases (List.range N)[j]? with
      | none => rfl
      | some z =>
        simp only [Option.map_some, Option.some.injEq]
        unfold j_k00
        split <;> rfl
    have hw : j_w cA α sh μ ++ [(q, .inr (ci, (j_k0 ci N).mapIdx (fun j k => j_fv α (fun _ => 0) j k)))] = j_w cA (fun k => if k = sh.length then q else α k) (sh ++ [.inr (ci, j_k0 ci N)]) (j_row μ sh.length (fun _ => 0)) := by
      rw [j_w_grow hok]
      simp only [j_ce]
      rw [hsame (fun k => if k = sh.length then q else α k)]
    rw [hw] at wP1 wD1
    have hx := j_al_ext (α := α) (q := q) hsh
    have hlen : (sh ++ [(.inr (ci, j_k0 ci N) : j_S)]).length = sh.length + 1 := by simp
    have hst : (Value.ref sh.length :: st).map (j_rn (fun k => if k = sh.length then q else α k)) = .ref q :: st.map (j_rn α) := by
      rw [List.map_cons, j_map_ext h6 hx]
      simp [j_rn]
    have := h p l e R s m args below meth c D cA A (fun k => if k = sh.length then q else α k) H1 locs (cells + 1) (slots + N) lr QF h1 ⟨wK, wP1, wD1, wS1, wA, wN⟩ (by omega) (by omega) (by rw [hlen]; exact h5.ext (by omega) hx) (by rw [hlen]; exact j_ok_r (Or.inl (by omega)) (fun v hv => j_okv_ext (h6 v hv) (by omega))) (j_Xs_grow h7 hsh)
      (fun r sh' μ' α' H' locs' cells' slots' lr' pc' b1 b2 b3 => h8 r sh' μ' α' H' locs' cells' slots' lr' pc' b1 (by omega) (fun k hk => by
        rw [b3 k (hk.elim (fun z => Or.inl (by omega)) Or.inr)]
        exact hx k hk))
    rw [hst] at this
    exact this
theorem js_oinit {n a : Nat} (hm : j_oi o n = true) (hd1 : 1 ≤ d) (hst : (st.map fun v => v.category).sum ≤ 8) (hd : decode cc pc = .ok (.invokespecial n, 3)) (h : j_J cc o nL ret ini d xs Q sh mc ms (pc + 3) ls st μ) : j_J cc o nL ret ini d xs Q sh mc ms pc ls (.ref a :: st) μ := by
  intro p l e R s m args below meth c D cA A α H locs cells slots lr QF h1 h2 h3 h4 h5 h6 h7 h8
  have hts := h1.2.2.2.2.2.2.2.1
  obtain ⟨wK, wP, wD, wS, wA, wN⟩ := id h2
  have hfr := h1.2.2.2.2.2.2.2.2.1
  have hlo := h1.2.2.2.2.2.2.2.2.2
  refine W.objInit h1.1 h1.2.1 h1.2.2.2.2.2.2.1 (hts _ (j_in (j_oi_ok hm) rfl)) (hts _ (j_in j_obj1 rfl)) (hts _ (j_in j_obj2 rfl)) rfl (by rw [h1.2.2.1]; exact h5.1) (a := α a) (rest := st.map (j_rn α)) rfl hd (by omega) ?_ (h p l e R s m args below meth c D cA A α H locs cells slots lr QF h1 h2 h3 h4 h5 (j_ok_t h6) h7 h8)
  have he : ((st.map (j_rn α)).map fun v => v.category) = st.map fun v => v.category := by
    rw [List.map_map]
    exact List.map_congr_left fun v _ => j_rn_cat α v
  rw [he]
  show 2 * 0 + _ + 12 ≤ _
  omega
theorem js_init {n a : Nat} {y : MethodName} {b : Bool} (hm : j_nl o n = some (y, b)) (hst : (st.map fun v => v.category).sum ≤ 8) (hd : decode cc pc = .ok (.invokespecial n, 3))
    (hX : j_X d mc ms y sh [.ref a] μ (fun mc ms r sh' μ' => j_J cc o nL ret ini d xs Q sh' mc ms (pc + 3) ls ((r.map Value.int).toList ++ st) μ')) : j_J cc o nL ret ini d xs Q sh mc ms pc ls (.ref a :: st) μ := by
  intro p l e R s m args below meth c D cA A α H locs cells slots lr QF h1 h2 h3 h4 h5 h6 h7 h8
  have hts := h1.2.2.2.2.2.2.2.1
  obtain ⟨wK, wP, wD, wS, wA, wN⟩ := id h2
  obtain ⟨d1, mc1, ms1, Q1, hd1, hmc, hms, ⟨cc1, maxL, ret1, hcode, hmax, hMet⟩, hK⟩ := hX
  obtain ⟨m1, m2, m3, m4, m5, m6, m7⟩ := j_nl_ok hm
  have hok : ∀ v ∈ [Value.ref a], j_okv sh.length v := by
    intro v hv
    rw [List.mem_singleton.mp hv]
    exact h6 _ List.mem_cons_self
  have hM := hMet hok l D cA α H.size
  have hfr := h1.2.2.2.2.2.2.2.2.1
  have hlo := h1.2.2.2.2.2.2.2.2.2
  have hrm : (j_rm d1 mc1 ms1).frames + 1 ≤ R.frames ∧ 8 + (maxL + 11) + (j_rm d1 mc1 ms1).locals ≤ R.locals := ⟨by show d1 + 1 ≤ _; omega, by show 8 + (maxL + 11) + (64 * d1 + 16) ≤ _; omega⟩
  have hcat : 2 * (F0 m pc lr ((Value.ref a :: st).map (j_rn α))).monitorRoom + ((st.map (j_rn α)).map fun v => v.category).sum ≤ 8 := by
    show 2 * 0 + _ ≤ 8
    rw [List.map_map]
    have he : (st.map ((fun v => v.category) ∘ j_rn α)) = st.map fun v => v.category := List.map_congr_left fun v _ => j_rn_cat α v
    rw [he]
    omega
  have hr1 : ret1 = none := ret_of_init hcode m4
  subst hr1
  cases b with
  | true =>
    have hr := va_runIN (p := p) (l := l) (e := e) (R := R) (s := s) (m := m) (args := args) (below := below) (meth := meth) (c := c) (H := H) (locs := locs) (cells := cells) (slots := slots) (As := []) (rest := st.map (j_rn α)) (b := α a) (g := F0 m pc lr ((Value.ref a :: st).map (j_rn α)))
      ⟨h1.1, h1.2.1, h1.2.2.1, h1.2.2.2.2.2.2.1, hts⟩ hM ⟨va_cnB 0 hts (j_wsG hcode) rfl rfl rfl (h2.2.2.2.2.2 _ (j_nw m1)) (hts _ (j_in m3 rfl)) ⟨m5, m6, m7⟩ hrm, m4, hts _ (j_in m2 rfl)⟩
      (j_pre (y := y) (as := [.ref a]) h2) rfl rfl h5.1 rfl hcat hd ⟨by omega, by omega⟩
    exact j_after hmc hms hK h1 h2 h3 h4 h5 (j_ok_t h6) h7 h8 hr
  | false =>
    have hr := va_runI (p := p) (l := l) (e := e) (R := R) (s := s) (m := m) (args := args) (below := below) (meth := meth) (c := c) (H := H) (locs := locs) (cells := cells) (slots := slots) (As := []) (rest := st.map (j_rn α)) (b := α a) (g := F0 m pc lr ((Value.ref a :: st).map (j_rn α)))
      ⟨h1.1, h1.2.1, h1.2.2.1, h1.2.2.2.2.2.2.1, hts⟩ hM (cwI 0 hts (j_wsG hcode) rfl rfl rfl (hts _ (j_in m3 rfl)) (hts _ (j_in m1 rfl)) (hts _ (j_in m2 rfl)) m4 ⟨m5, m6, m7⟩ hrm)
      (j_pre (y := y) (as := [.ref a]) h2) rfl rfl h5.1 rfl hcat hd ⟨by omega, by omega⟩
    exact j_after hmc hms hK h1 h2 h3 h4 h5 (j_ok_t h6) h7 h8 hr
end JH
