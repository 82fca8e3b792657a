/-! the steps together, and runs of them -/
theorem j_pop_ok : ∀ (n : Nat) (as st : List Value) (k : List Value → List Value → Prop), j_pop n as st k → ∃ bs rest, st = bs.reverse ++ rest ∧ bs.length = n ∧ k (bs ++ as) rest
  | 0, as, st, k, h => ⟨[], st, rfl, rfl, h⟩
  | n + 1, as, [], k, h => h.elim
  | n + 1, as, v :: st, k, h => by
    obtain ⟨bs, rest, h1, h2, h3⟩ := j_pop_ok n (v :: as) st k h
    exact ⟨bs ++ [v], rest, by rw [h1]; simp, by simp [h2], by simpa using h3⟩
theorem j_ob_ok {s : Option j_S} {k : Nat → List j_K → Prop} (h : j_ob s k) : ∃ ci ks, s = some (.inr (ci, ks)) ∧ k ci ks := by
  unfold j_ob at h
  split at h
  next ci ks => exact ⟨ci, ks, rfl, h⟩
  next => exact h.elim
theorem j_ar_ok {s : Option j_S} {k : FieldType → Nat → Prop} (h : j_ar s k) : ∃ ty n, s = some (.inl (ty, n)) ∧ k ty n := by
  unfold j_ar at h
  split at h
  next ty n => exact ⟨ty, n, rfl, h⟩
  next => exact h.elim
theorem j_fo_ok {s : Option (Nat × Nat × Bool)} {k : Nat → Nat → Bool → Prop} (h : j_fo s k) : ∃ ci f b, s = some (ci, f, b) ∧ k ci f b := by
  unfold j_fo at h
  split at h
  next ci f b => exact ⟨ci, f, b, rfl, h⟩
  next => exact h.elim
theorem j_mo_ok {s : Option (MethodName × Nat × Bool × Nat)} {k : MethodName → Nat → Bool → Nat → Prop} (h : j_mo s k) : ∃ y n b ci, s = some (y, n, b, ci) ∧ k y n b ci := by
  unfold j_mo at h
  split at h
  next y n b ci => exact ⟨y, n, b, ci, rfl, h⟩
  next => exact h.elim
theorem j_pi_ok {st : List Value} {k : Int32 → List Value → Prop} (h : j_pi st k) : ∃ x r, st = .int x :: r ∧ k x r := by
  unfold j_pi at h
  split at h
  next x r => exact ⟨x, r, rfl, h⟩
  next => exact h.elim
theorem j_pii_ok {st : List Value} {k : Int32 → Int32 → List Value → Prop} (h : j_pii st k) : ∃ x y r, st = .int y :: .int x :: r ∧ k x y r := by
  unfold j_pii at h
  split at h
  next y x r => exact ⟨x, y, r, rfl, h⟩
  next => exact h.elim
theorem j_pl_ok {st : List Value} {k : Int64 → List Value → Prop} (h : j_pl st k) : ∃ x r, st = .long x :: r ∧ k x r := by
  unfold j_pl at h
  split at h
  next x r => exact ⟨x, r, rfl, h⟩
  next => exact h.elim
theorem j_pll_ok {st : List Value} {k : Int64 → Int64 → List Value → Prop} (h : j_pll st k) : ∃ x y r, st = .long y :: .long x :: r ∧ k x y r := by
  unfold j_pll at h
  split at h
  next y x r => exact ⟨x, y, r, rfl, h⟩
  next => exact h.elim
theorem j_pli_ok {st : List Value} {k : Int64 → Int32 → List Value → Prop} (h : j_pli st k) : ∃ x y r, st = .int y :: .long x :: r ∧ k x y r := by
  unfold j_pli at h
  split at h
  next y x r => exact ⟨x, y, r, rfl, h⟩
  next => exact h.elim
theorem j_pr_ok {st : List Value} {k : Nat → List Value → Prop} (h : j_pr st k) : ∃ x r, st = .ref x :: r ∧ k x r := by
  unfold j_pr at h
  split at h
  next x r => exact ⟨x, r, rfl, h⟩
  next => exact h.elim
theorem j_pri_ok {st : List Value} {k : Nat → Int32 → List Value → Prop} (h : j_pri st k) : ∃ a i r, st = .int i :: .ref a :: r ∧ k a i r := by
  unfold j_pri at h
  split at h
  next i a r => exact ⟨a, i, r, rfl, h⟩
  next => exact h.elim
theorem j_prii_ok {st : List Value} {k : Nat → Int32 → Int32 → List Value → Prop} (h : j_prii st k) : ∃ a i x r, st = .int x :: .int i :: .ref a :: r ∧ k a i x r := by
  unfold j_prii at h
  split at h
  next x i a r => exact ⟨a, i, x, r, rfl, h⟩
  next => exact h.elim
theorem j_gi_ok {x : Option Value} {k : Int32 → Prop} (h : j_gi x k) : ∃ v, x = some (.int v) ∧ k v := by
  unfold j_gi at h
  split at h
  next v => exact ⟨v, rfl, h⟩
  next => exact h.elim
theorem j_gl_ok {x : Option Value} {k : Int64 → Prop} (h : j_gl x k) : ∃ v, x = some (.long v) ∧ k v := by
  unfold j_gl at h
  split at h
  next v => exact ⟨v, rfl, h⟩
  next => exact h.elim
theorem j_ga_ok {x : Option Value} {k : Nat → Prop} (h : j_ga x k) : ∃ v, x = some (.ref v) ∧ k v := by
  unfold j_ga at h
  split at h
  next v => exact ⟨v, rfl, h⟩
  next => exact h.elim
theorem j_lo_ok {s : Option Int64} {k : Int64 → Prop} (h : j_lo s k) : ∃ x, s = some x ∧ k x := by
  unfold j_lo at h
  split at h
  next x => exact ⟨x, rfl, h⟩
  next => exact h.elim
theorem j_co_ok {s : Option (Nat × Nat)} {k : Nat → Nat → Prop} (h : j_co s k) : ∃ x y, s = some (x, y) ∧ k x y := by
  unfold j_co at h
  split at h
  next x y => exact ⟨x, y, rfl, h⟩
  next => exact h.elim
theorem j_no_ok {s : Option (MethodName × Bool)} {k : MethodName → Prop} (h : j_no s k) : ∃ y b, s = some (y, b) ∧ k y := by
  unfold j_no at h
  split at h
  next y b => exact ⟨y, b, rfl, h⟩
  next => exact h.elim
theorem j_scr_ok {s : Option (Nat × (Nat → Int32))} {k : Nat → (Nat → Int32) → Prop} (h : j_scr s k) : ∃ L f, s = some (L, f) ∧ k L f := by
  unfold j_scr at h
  split at h
  next L f => exact ⟨L, f, rfl, h⟩
  next => exact h.elim
theorem j_br_mono {c : ClassFile.Cond} {x y : Int32} {A B A' B' : Prop} (ha : A → A') (hb : B → B') (h : j_br c x y A B) : j_br c x y A' B' := by
  cases c <;> exact ⟨fun z => ha (h.1 z), fun z => hb (h.2 z)⟩
theorem j_tab_mono {x : Int32} {k k' : Int → Prop} (hk : ∀ o, k o → k' o) : ∀ (os : List Int) (lo : Int), j_tab x k os lo → j_tab x k' os lo
  | [], _, _ => trivial
  | _ :: os, lo, h => ⟨fun z => hk _ (h.1 z), j_tab_mono hk os (lo + 1) h.2⟩
theorem j_lku_mono {x : Int32} {dflt : Int} {k k' : Int → Prop} (hk : ∀ o, k o → k' o) : ∀ (ps : List (Int × Int)), j_lku x dflt k ps → j_lku x dflt k' ps
  | [], h => hk _ h
  | (_, _) :: r, h => ⟨fun z => hk _ (h.1 z), fun z => j_lku_mono hk r (h.2 z)⟩
theorem j_X_mono {d mc ms : Nat} {y : MethodName} {sh : List j_S} {as : List Value} {μ : j_M} {K K' : Nat → Nat → Option Int32 → List j_S → j_M → Prop} (hk : ∀ a b r sh' μ', K a b r sh' μ' → K' a b r sh' μ') (h : j_X d mc ms y sh as μ K) : j_X d mc ms y sh as μ K' := by
  obtain ⟨d1, mc1, ms1, Q1, g1, g2, g3, g4, g5⟩ := h
  exact ⟨d1, mc1, ms1, Q1, g1, g2, g3, g4, fun r sh' μ' z => hk _ _ _ _ _ (g5 r sh' μ' z)⟩
set_option maxHeartbeats 4000000 in
theorem j_step {cc : ByteArray} {o nL : Nat} {ret : Option FieldType} {ini : Bool} {d : Nat} {xs : Option (Nat × (Nat → Int32))} {Q : j_Q} {sh : List j_S} {mc ms pc : Nat} {ls : j_L} {st : List Value} {μ : j_M} {i : Instr} {len : Nat}
    {K : List j_S → Nat → Nat → Nat → j_L → List Value → j_M → Prop} (hK : ∀ sh mc ms pc ls st μ, K sh mc ms pc ls st μ → j_J cc o nL ret ini d xs Q sh mc ms pc ls st μ) (hd : decode cc pc = .ok (i, len)) (h : j_wp o ret ini d xs Q i len sh mc ms pc ls st μ K) : j_J cc o nL ret ini d xs Q sh mc ms pc ls st μ := by
  unfold j_wp at h
  split at h
  next => obtain ⟨rfl, h⟩ := h; exact js_iconst hd (hK _ _ _ _ _ _ _ h)
  next => obtain ⟨rfl, h⟩ := h; exact js_bipush hd (hK _ _ _ _ _ _ _ h)
  next => obtain ⟨rfl, h⟩ := h; exact js_sipush hd (hK _ _ _ _ _ _ _ h)
  next => obtain ⟨rfl, h⟩ := h; obtain ⟨x, e, h⟩ := j_lo_ok h; exact js_ldc2 e hd (hK _ _ _ _ _ _ _ h)
  next => obtain ⟨rfl, h⟩ := h; obtain ⟨x, e, h⟩ := j_gi_ok h; exact js_iload e hd (hK _ _ _ _ _ _ _ h)
  next => obtain ⟨rfl, h⟩ := h; obtain ⟨x, e, h⟩ := j_gi_ok h; exact js_iload_n e hd (hK _ _ _ _ _ _ _ h)
  next => obtain ⟨rfl, h⟩ := h; obtain ⟨x, e, h⟩ := j_gl_ok h; exact js_lload e hd (hK _ _ _ _ _ _ _ h)
  next => obtain ⟨rfl, h⟩ := h; obtain ⟨x, e, h⟩ := j_gl_ok h; exact js_lload_n e hd (hK _ _ _ _ _ _ _ h)
  next => obtain ⟨rfl, h⟩ := h; obtain ⟨x, e, h⟩ := j_ga_ok h; exact js_aload e hd (hK _ _ _ _ _ _ _ h)
  next => obtain ⟨rfl, h⟩ := h; obtain ⟨x, e, h⟩ := j_ga_ok h; exact js_aload_n e hd (hK _ _ _ _ _ _ _ h)
  next => obtain ⟨rfl, g, h⟩ := h; obtain ⟨x, r, rfl, h⟩ := j_pi_ok h; exact js_istore g hd (hK _ _ _ _ _ _ _ h)
  next => obtain ⟨rfl, g, h⟩ := h; obtain ⟨x, r, rfl, h⟩ := j_pi_ok h; exact js_istore_n g hd (hK _ _ _ _ _ _ _ h)
  next => obtain ⟨rfl, g, h⟩ := h; obtain ⟨x, r, rfl, h⟩ := j_pr_ok h; exact js_astore g hd (hK _ _ _ _ _ _ _ h)
  next => obtain ⟨rfl, g, h⟩ := h; obtain ⟨x, r, rfl, h⟩ := j_pr_ok h; exact js_astore_n g hd (hK _ _ _ _ _ _ _ h)
  next => obtain ⟨rfl, g, h⟩ := h; obtain ⟨x, r, rfl, h⟩ := j_pl_ok h; exact js_lstore g hd (hK _ _ _ _ _ _ _ h)
  next => obtain ⟨rfl, h⟩ := h; obtain ⟨x, e, h⟩ := j_gi_ok h; exact js_iinc e hd (hK _ _ _ _ _ _ _ h)
  next => obtain ⟨rfl, h⟩ := h; obtain ⟨x, y, r, rfl, h⟩ := j_pii_ok h; exact js_iadd hd (hK _ _ _ _ _ _ _ h)
  next => obtain ⟨rfl, h⟩ := h; obtain ⟨x, y, r, rfl, h⟩ := j_pii_ok h; exact js_isub hd (hK _ _ _ _ _ _ _ h)
  next => obtain ⟨rfl, h⟩ := h; obtain ⟨x, y, r, rfl, h⟩ := j_pii_ok h; exact js_imul hd (hK _ _ _ _ _ _ _ h)
  next => obtain ⟨rfl, h⟩ := h; obtain ⟨x, y, r, rfl, g, h⟩ := j_pii_ok h; exact js_idiv g hd (hK _ _ _ _ _ _ _ h)
  next => obtain ⟨rfl, h⟩ := h; obtain ⟨x, y, r, rfl, h⟩ := j_pii_ok h; exact js_iand hd (hK _ _ _ _ _ _ _ h)
  next => obtain ⟨rfl, h⟩ := h; obtain ⟨x, y, r, rfl, h⟩ := j_pii_ok h; exact js_ior hd (hK _ _ _ _ _ _ _ h)
  next => obtain ⟨rfl, h⟩ := h; obtain ⟨x, y, r, rfl, h⟩ := j_pii_ok h; exact js_ishl hd (hK _ _ _ _ _ _ _ h)
  next => obtain ⟨rfl, h⟩ := h; obtain ⟨x, y, r, rfl, h⟩ := j_pii_ok h; exact js_ishr hd (hK _ _ _ _ _ _ _ h)
  next => obtain ⟨rfl, h⟩ := h; obtain ⟨x, y, r, rfl, h⟩ := j_pii_ok h; exact js_iushr hd (hK _ _ _ _ _ _ _ h)
  next => obtain ⟨rfl, h⟩ := h; obtain ⟨x, y, r, rfl, h⟩ := j_pll_ok h; exact js_ladd hd (hK _ _ _ _ _ _ _ h)
  next => obtain ⟨rfl, h⟩ := h; obtain ⟨x, y, r, rfl, h⟩ := j_pll_ok h; exact js_lmul hd (hK _ _ _ _ _ _ _ h)
  next => obtain ⟨rfl, h⟩ := h; obtain ⟨x, y, r, rfl, g, h⟩ := j_pll_ok h; exact js_lrem g hd (hK _ _ _ _ _ _ _ h)
  next => obtain ⟨rfl, h⟩ := h; obtain ⟨x, y, r, rfl, h⟩ := j_pll_ok h; exact js_land hd (hK _ _ _ _ _ _ _ h)
  next => obtain ⟨rfl, h⟩ := h; obtain ⟨x, y, r, rfl, h⟩ := j_pll_ok h; exact js_lor hd (hK _ _ _ _ _ _ _ h)
  next => obtain ⟨rfl, h⟩ := h; obtain ⟨x, y, r, rfl, h⟩ := j_pli_ok h; exact js_lushr hd (hK _ _ _ _ _ _ _ h)
  next => obtain ⟨rfl, h⟩ := h; obtain ⟨x, y, r, rfl, h⟩ := j_pli_ok h; exact js_lshl hd (hK _ _ _ _ _ _ _ h)
  next => obtain ⟨rfl, h⟩ := h; obtain ⟨x, y, r, rfl, h⟩ := j_pll_ok h; exact js_lcmp hd (hK _ _ _ _ _ _ _ h)
  next => obtain ⟨rfl, h⟩ := h; obtain ⟨x, r, rfl, h⟩ := j_pi_ok h; exact js_i2l hd (hK _ _ _ _ _ _ _ h)
  next => obtain ⟨rfl, h⟩ := h; obtain ⟨x, r, rfl, h⟩ := j_pl_ok h; exact js_l2i hd (hK _ _ _ _ _ _ _ h)
  next => obtain ⟨rfl, h⟩ := h; obtain ⟨x, r, rfl, h⟩ := j_pi_ok h; exact js_i2b hd (hK _ _ _ _ _ _ _ h)
  next => obtain ⟨rfl, h⟩ := h; obtain ⟨x, r, rfl, h⟩ := j_pi_ok h; exact js_i2c hd (hK _ _ _ _ _ _ _ h)
  next =>
    obtain ⟨rfl, h⟩ := h
    split at h
    next => exact js_dupi hd (hK _ _ _ _ _ _ _ h)
    next => exact js_dupr hd (hK _ _ _ _ _ _ _ h)
    next => exact h.elim
  next => obtain ⟨rfl, h⟩ := h; obtain ⟨a, x, r, rfl, h⟩ := j_pri_ok h; exact js_dup2 hd (hK _ _ _ _ _ _ _ h)
  next => obtain ⟨rfl, g, h⟩ := h; exact js_goto g hd (hK _ _ _ _ _ _ _ h)
  next => obtain ⟨rfl, h⟩ := h; obtain ⟨x, r, rfl, g, h⟩ := j_pi_ok h; exact js_if g hd (j_br_mono (hK _ _ _ _ _ _ _) (hK _ _ _ _ _ _ _) h)
  next => obtain ⟨rfl, h⟩ := h; obtain ⟨x, y, r, rfl, g, h⟩ := j_pii_ok h; exact js_icmp g hd (j_br_mono (hK _ _ _ _ _ _ _) (hK _ _ _ _ _ _ _) h)
  next => obtain ⟨g, h⟩ := h; obtain ⟨x, r, rfl, h, h'⟩ := j_pi_ok h; exact js_table g hd (fun z => ⟨(h z).1, hK _ _ _ _ _ _ _ (h z).2⟩) (j_tab_mono (fun off z => ⟨z.1, hK _ _ _ _ _ _ _ z.2⟩) _ _ h')
  next => obtain ⟨g, h⟩ := h; obtain ⟨x, r, rfl, h⟩ := j_pi_ok h; exact js_lookup g hd (j_lku_mono (fun off z => ⟨z.1, hK _ _ _ _ _ _ _ z.2⟩) _ h)
  next =>
    obtain ⟨rfl, h⟩ := h
    obtain ⟨ci, f, b, e, k1⟩ := j_fo_ok h
    obtain ⟨a, r, e0, k2⟩ := j_pr_ok k1
    obtain ⟨ci', ks, e2, e1, k3⟩ := j_ob_ok k2
    clear h k1 k2
    subst e0
    subst e1
    unfold j_fd at k3
    split at k3
    next e3 => exact js_get e e2 e3 (v := .int (μ a f)) (fun _ => rfl) (j_iok _) hd (hK _ _ _ _ _ _ _ k3)
    next e3 => exact js_get e e2 e3 (v := .ref (μ a f).toNatClampNeg) (fun _ => rfl) (fun k hk => by cases hk; exact Or.inl k3.1) hd (hK _ _ _ _ _ _ _ k3.2)
    next => exact k3.elim
    next r e3 => exact js_get e e2 e3 (v := .ref r) (fun _ => rfl) (fun k hk => by cases hk; exact Or.inl k3.1) hd (hK _ _ _ _ _ _ _ k3.2)
    next => exact k3.elim
  next =>
    obtain ⟨rfl, h⟩ := h
    obtain ⟨ci, f, b, e, k1⟩ := j_fo_ok h
    clear h
    unfold j_pvr at k1
    split at k1
    next x a r =>
      obtain ⟨ci', ks, e2, e1, e4, g, k2⟩ := j_ob_ok k1
      clear k1
      subst e1
      subst e4
      unfold j_fd at k2
      split at k2
      next e3 => exact js_put e e2 e3 g hd (hK _ _ _ _ _ _ _ k2)
      next => exact k2.elim
      next => exact k2.elim
      next => exact k2.elim
      next => exact k2.elim
    next q a r =>
      obtain ⟨ci', ks, e2, e1, g0, g, k2⟩ := j_ob_ok k1
      clear k1
      subst e1
      split at k2
      next hb =>
        subst hb
        obtain ⟨g1, g2, k3⟩ := k2
        unfold j_fd at k3
        split at k3
        next => exact k3.elim
        next => exact k3.elim
        next e3 => exact js_putr e g1 g2 e2 e3 g hd (hK _ _ _ _ _ _ _ k3)
        next => exact k3.elim
        next => exact k3.elim
      next hb =>
        have hb' : b = false := by simpa using hb
        subst hb'
        obtain ⟨g1, k3⟩ := k2
        unfold j_fd at k3
        split at k3
        next => exact k3.elim
        next e3 => exact js_putv e e2 e3 g1 g hd (hK _ _ _ _ _ _ _ k3)
        next e3 => exact js_putw e e2 e3 g1 g hd (hK _ _ _ _ _ _ _ k3)
        next => exact k3.elim
        next => exact k3.elim
    next => exact k1.elim
  next =>
    obtain ⟨rfl, h⟩ := h
    obtain ⟨a, x, r, e0, k1⟩ := j_pri_ok h
    clear h
    subst e0
    split at k1
    next e => subst e; obtain ⟨L, f, e2, g, k2⟩ := j_scr_ok k1; exact js_sld e2 g hd (hK _ _ _ _ _ _ _ k2)
    next => obtain ⟨ty, n, e2, e3, g, k2⟩ := j_ar_ok k1; subst e3; exact js_iald e2 g hd (hK _ _ _ _ _ _ _ k2)
  next =>
    obtain ⟨rfl, h⟩ := h
    obtain ⟨a, x, r, rfl, h⟩ := j_pri_ok h
    obtain ⟨ty, n, e2, e3, g, h⟩ := j_ar_ok h
    rcases e3 with rfl | rfl
    · exact js_bald e2 g hd (hK _ _ _ _ _ _ _ h)
    · exact js_zald e2 g hd (hK _ _ _ _ _ _ _ h)
  next => obtain ⟨rfl, h⟩ := h; obtain ⟨a, x, r, rfl, h⟩ := j_pri_ok h; obtain ⟨ty, n, e2, rfl, g, h⟩ := j_ar_ok h; exact js_cald e2 g hd (hK _ _ _ _ _ _ _ h)
  next => obtain ⟨rfl, h⟩ := h; obtain ⟨a, x, r, rfl, h⟩ := j_pri_ok h; obtain ⟨ty, n, e2, rfl, g, h⟩ := j_ar_ok h; exact js_lald e2 g hd (hK _ _ _ _ _ _ _ h)
  next => obtain ⟨rfl, h⟩ := h; obtain ⟨a, i, x, r, rfl, h⟩ := j_prii_ok h; obtain ⟨ty, n, e2, rfl, g, h⟩ := j_ar_ok h; exact js_iast e2 g hd (hK _ _ _ _ _ _ _ h)
  next =>
    obtain ⟨rfl, h⟩ := h
    obtain ⟨a, i, x, r, rfl, h⟩ := j_prii_ok h
    obtain ⟨ty, n, e2, g, k1, k2, e3⟩ := j_ar_ok h
    rcases e3 with rfl | rfl
    · exact js_bast e2 g hd (hK _ _ _ _ _ _ _ (k1 rfl))
    · exact js_zast e2 g hd (hK _ _ _ _ _ _ _ (k2 rfl))
  next => obtain ⟨rfl, h⟩ := h; obtain ⟨a, i, x, r, rfl, h⟩ := j_prii_ok h; obtain ⟨ty, n, e2, rfl, g, h⟩ := j_ar_ok h; exact js_cast e2 g hd (hK _ _ _ _ _ _ _ h)
  next =>
    obtain ⟨rfl, h⟩ := h
    obtain ⟨a, r, e0, k1⟩ := j_pr_ok h
    clear h
    subst e0
    split at k1
    next e => subst e; obtain ⟨L, f, e2, k2⟩ := j_scr_ok k1; exact js_slen e2 hd (hK _ _ _ _ _ _ _ k2)
    next =>
      obtain ⟨ty, n, e2, e3, h⟩ := j_ar_ok k1
      rcases e3 with rfl | rfl | rfl | rfl
      · exact js_alen_int e2 hd (hK _ _ _ _ _ _ _ h)
      · exact js_alen_char e2 hd (hK _ _ _ _ _ _ _ h)
      · exact js_alen_byte e2 hd (hK _ _ _ _ _ _ _ h)
      · exact js_alen_boolean e2 hd (hK _ _ _ _ _ _ _ h)
  next => obtain ⟨rfl, h⟩ := h; obtain ⟨n, r, rfl, g1, g2, g3, g4, g5, g6, g7, h⟩ := j_pi_ok h; exact js_newarray g1 g2 g3 g4 g5 g6 g7 hd (hK _ _ _ _ _ _ _ h)
  next =>
    obtain ⟨rfl, h⟩ := h
    obtain ⟨y, n, b, ci, e, rfl, h⟩ := j_mo_ok h
    obtain ⟨bs, rest, rfl, e1, h⟩ := j_pop_ok _ _ _ _ h
    obtain ⟨a, r, rfl, h⟩ := j_pr_ok h
    obtain ⟨ci', ks, e2, rfl, g, h⟩ := j_ob_ok h
    rw [List.append_nil] at h
    exact j_virtual hd e e2 e1 g (j_X_mono (fun _ _ _ _ _ => hK _ _ _ _ _ _ _) h)
  next =>
    obtain ⟨rfl, h⟩ := h
    split at h
    next hm => obtain ⟨g, h⟩ := h; obtain ⟨x, y, r, rfl, g2, h⟩ := j_pii_ok h; exact js_min hm g g2 hd (hK _ _ _ _ _ _ _ h)
    next =>
      split at h
      next hm =>
        obtain ⟨g, h⟩ := h
        split at h
        next k dp a sp a0 r =>
          obtain ⟨rfl, e1, e2, e3, e4, e5, e6, h⟩ := h
          obtain ⟨ty, n0, f1, rfl, f2⟩ := j_ar_ok e4
          obtain ⟨ty, n1, f3, rfl, f4⟩ := j_ar_ok e5
          exact js_acp hm g e1 e2 e3 f1 f2 f3 f4 e6 hd (hK _ _ _ _ _ _ _ h)
        next => exact h.elim
      next =>
        obtain ⟨y, n, b, ci, e, rfl, h⟩ := j_mo_ok h
        obtain ⟨bs, rest, rfl, e1, g, h⟩ := j_pop_ok _ _ _ _ h
        rw [List.append_nil] at h
        exact j_static hd e e1 g (j_X_mono (fun _ _ _ _ _ => hK _ _ _ _ _ _ _) h)
  next => obtain ⟨rfl, h⟩ := h; obtain ⟨ci, N, e, g1, g2, g3, g4, h⟩ := j_co_ok h; exact js_new e g1 g2 g3 g4 hd (hK _ _ _ _ _ _ _ h)
  next =>
    obtain ⟨rfl, h⟩ := h
    obtain ⟨a, r, e0, g, k1⟩ := j_pr_ok h
    clear h
    subst e0
    split at k1
    next e => exact js_oinit e k1.1 g hd (hK _ _ _ _ _ _ _ k1.2)
    next => obtain ⟨y, b, e, k2⟩ := j_no_ok k1; exact js_init e g hd (j_X_mono (fun _ _ _ _ _ => hK _ _ _ _ _ _ _) k2)
  next =>
    obtain ⟨rfl, h⟩ := h
    split at h
    next => exact js_iret hd h.1 h.2
    next => exact h.elim
  next => obtain ⟨rfl, g, rfl, h⟩ := h; exact js_ret hd g h
  next => exact h.elim
/-- at a stop the one, else the other -/
def j_sel (stop : Nat → Bool) (A B : List j_S → Nat → Nat → Nat → j_L → List Value → j_M → Prop) (sh : List j_S) (mc ms pc : Nat) (ls : j_L) (st : List Value) (μ : j_M) : Prop := if stop pc = true then A sh mc ms pc ls st μ else B sh mc ms pc ls st μ
/-- n instructions at the most, up to a stop (a loop's head) -/
def j_run (cc : ByteArray) (o nL : Nat) (ret : Option FieldType) (ini : Bool) (d : Nat) (xs : Option (Nat × (Nat → Int32))) (Q : j_Q) (stop : Nat → Bool) : Nat → List j_S → Nat → Nat → Nat → j_L → List Value → j_M → Prop
  | 0, sh, mc, ms, pc, ls, st, μ => j_J cc o nL ret ini d xs Q sh mc ms pc ls st μ
  | n + 1, sh, mc, ms, pc, ls, st, μ => match decode cc pc with
    | .ok (i, len) => j_wp o ret ini d xs Q i len sh mc ms pc ls st μ (j_sel stop (j_J cc o nL ret ini d xs Q) (j_run cc o nL ret ini d xs Q stop n))
    | .error _ => False
theorem j_go {cc : ByteArray} {o nL : Nat} {ret : Option FieldType} {ini : Bool} {d : Nat} {xs : Option (Nat × (Nat → Int32))} {Q : j_Q} (stop : Nat → Bool) : ∀ (n : Nat) {sh : List j_S} {mc ms pc : Nat} {ls : j_L} {st : List Value} {μ : j_M}, j_run cc o nL ret ini d xs Q stop n sh mc ms pc ls st μ → j_J cc o nL ret ini d xs Q sh mc ms pc ls st μ
  | 0, _, _, _, _, _, _, _, h => h
  | n + 1, sh, mc, ms, pc, ls, st, μ, h => by
    unfold j_run at h
    split at h
    next i len hd =>
      refine j_step (fun sh mc ms pc ls st μ hk => ?_) hd h
      unfold j_sel at hk
      split at hk
      · exact hk
      · exact j_go stop n hk
    next => exact h.elim
