/-! the invariant's parts, as calls change them -/
theorem n_up {n : Nat} (h : n < 1000000) : (nI n).toNatClampNeg = n ∧ nI n + 1 = nI (n + 1) := ⟨nI_cl' h, nI_1 n⟩
section PP
variable {n1 n2 : Int32} {par oth ms dd sh ex par' oth' ms' dd' sh' ex' : Nat → Int32} {np : Nat}
theorem g_par_n {a : Int32} (hn : np ≤ 30) (h : g_par (nI np) a) : a = -1 ∨ ∃ j, j < np ∧ a = nI j := h.imp id (fun z => z_has rfl (by omega) z)
theorem I_P.add (h : I_P n1 n2 par oth ms dd sh ex par' oth' ms' dd' sh' ex' np) (hn : np < 30) {a b : Int32} (ha : g_par (nI np) a) (hb : g_par (nI np) b) : I_P (nI (np + 1)) (nI (np + 1)) (upd par np a) (upd oth np b) (upd ms np (-1)) (upd dd np (-1)) (upd sh np (-1)) (upd ex np (-1)) (upd par' np a) (upd oth' np b) (upd ms' np (-1)) (upd dd' np (-1)) (upd sh' np (-1)) (upd ex' np (-1)) (np + 1) := by
  obtain ⟨-, -, -, ⟨rfl, rfl, rfl, rfl, rfl, rfl⟩, h5, h6⟩ := h
  have ga := g_par_n (by omega) ha
  have gb := g_par_n (by omega) hb
  have w : ∀ x : Int32, (x = -1 ∨ ∃ j, j < np ∧ x = nI j) → (x = -1 ∨ ∃ j, j < np + 1 ∧ x = nI j) := fun x hx => hx.imp id (fun ⟨j, j1, j2⟩ => ⟨j, by omega, j2⟩)
  refine ⟨rfl, rfl, by omega, ⟨rfl, rfl, rfl, rfl, rfl, rfl⟩, fun k hk => ?_, fun k hk => ?_⟩
  · by_cases e : k = np
    · subst e
      rw [u_s, u_s]
      exact ⟨w _ ga, w _ gb⟩
    · rw [u_n _ _ e, u_n _ _ e]
      obtain ⟨x, y⟩ := h5 k (by omega)
      exact ⟨w _ x, w _ y⟩
  · by_cases e : k = np
    · subst e
      rw [u_s]
      exact fun z => absurd rfl z
    · rw [u_n _ _ e, u_n _ _ e]
      exact h6 k (by omega)
theorem I_P.mas (h : I_P n1 n2 par oth ms dd sh ex par' oth' ms' dd' sh' ex' np) (k : Nat) {t : Int32} (ht : ¬ t = -1) : I_P n1 n2 par oth (upd ms k t) dd sh ex par' oth' (upd ms' k t) dd' sh' ex' np := by
  obtain ⟨h1, h2, h3, ⟨rfl, rfl, rfl, rfl, rfl, rfl⟩, h5, h6⟩ := h
  refine ⟨h1, h2, h3, ⟨rfl, rfl, rfl, rfl, rfl, rfl⟩, h5, fun j hj hd => ?_⟩
  by_cases e : j = k
  · subst e; rw [u_s]; exact ht
  · rw [u_n _ _ e]; exact h6 j hj hd
theorem I_P.shop (h : I_P n1 n2 par oth ms dd sh ex par' oth' ms' dd' sh' ex' np) (f : Nat → Int32) : I_P n1 n2 par oth ms dd f ex par' oth' ms' dd' f ex' np := by
  obtain ⟨h1, h2, h3, ⟨rfl, rfl, rfl, rfl, rfl, rfl⟩, h5, h6⟩ := h
  exact ⟨h1, h2, h3, ⟨rfl, rfl, rfl, rfl, rfl, rfl⟩, h5, h6⟩
theorem I_P.exc (h : I_P n1 n2 par oth ms dd sh ex par' oth' ms' dd' sh' ex' np) (f : Nat → Int32) : I_P n1 n2 par oth ms dd sh f par' oth' ms' dd' sh' f np := by
  obtain ⟨h1, h2, h3, ⟨rfl, rfl, rfl, rfl, rfl, rfl⟩, h5, h6⟩ := h
  exact ⟨h1, h2, h3, ⟨rfl, rfl, rfl, rfl, rfl, rfl⟩, h5, h6⟩
theorem I_P.die (h : I_P n1 n2 par oth ms dd sh ex par' oth' ms' dd' sh' ex' np) (k : Nat) (t : Int32) (hk : ¬ ms k = -1) : I_P n1 n2 par oth ms (upd dd k t) sh ex par' oth' ms' (upd dd' k t) sh' ex' np := by
  obtain ⟨h1, h2, h3, ⟨rfl, rfl, rfl, rfl, rfl, rfl⟩, h5, h6⟩ := h
  refine ⟨h1, h2, h3, ⟨rfl, rfl, rfl, rfl, rfl, rfl⟩, h5, fun j hj hd => ?_⟩
  by_cases e : j = k
  · subst e; exact hk
  · rw [u_n _ _ e] at hd; exact h6 j hj hd
end PP
section QQ
variable {n1 n2 : Int32} {ow dn jd G ow' dn' jd' G' mk rf ms : Nat → Int32} {np nq : Nat}
theorem I_Q.add (h : I_Q n1 n2 ow dn jd G ow' dn' jd' G' mk rf ms np nq) (hn : np < 30) : I_Q n1 n2 ow dn jd G ow' dn' jd' G' mk rf (upd ms np (-1)) (np + 1) nq := by
  obtain ⟨h1, h2, h3, h4, h5, h6, h7, h8⟩ := h
  refine ⟨h1, h2, h3, h4, fun k hk => ?_, h6, fun i hi a b => ?_, h8⟩
  · obtain ⟨⟨j, j1, j2⟩, z⟩ := h5 k hk
    exact ⟨⟨j, by omega, j2⟩, z⟩
  · obtain ⟨⟨j, j1, j2⟩, z⟩ := h5 i hi
    have h9 := h7 i hi a b
    rw [j2, nI_cl' (by omega)] at h9 ⊢
    rw [u_n _ _ (by omega)]
    exact h9
theorem I_Q.mas (h : I_Q n1 n2 ow dn jd G ow' dn' jd' G' mk rf ms np nq) (k : Nat) {t : Int32} (ht : ¬ t = -1) : I_Q n1 n2 ow dn jd G ow' dn' jd' G' mk rf (upd ms k t) np nq := by
  obtain ⟨h1, h2, h3, h4, h5, h6, h7, h8⟩ := h
  refine ⟨h1, h2, h3, h4, h5, h6, fun i hi a b => ?_, h8⟩
  by_cases e : (ow i).toNatClampNeg = k
  · rw [e, u_s]; exact ht
  · rw [u_n _ _ e]; exact h7 i hi a b
end QQ
theorem I_T.add {n1 n2 : Int32} {sv ms fr to told back sv' ms' fr' to' told' back' : Nat → Int32} {nt : Nat} (h : I_T n1 n2 sv ms fr to told back sv' ms' fr' to' told' back' nt) (hn : nt < 100) {a b x y t : Int32} (hx : 0 ≤ x ∧ x ≤ y ∧ y ≤ 20000) : I_T (nI (nt + 1)) (nI (nt + 1)) (upd sv nt a) (upd ms nt b) (upd fr nt x) (upd to nt y) (upd told nt t) (upd back nt (-1)) (upd sv' nt a) (upd ms' nt b) (upd fr' nt x) (upd to' nt y) (upd told' nt t) (upd back' nt (-1)) (nt + 1) := by
  obtain ⟨-, -, -, ⟨rfl, rfl, rfl, rfl, rfl, rfl⟩, h5⟩ := h
  refine ⟨rfl, rfl, by omega, ⟨rfl, rfl, rfl, rfl, rfl, rfl⟩, fun k hk => ?_⟩
  by_cases e : k = nt
  · subst e
    rw [u_s, u_s]
    obtain ⟨E, e1, e2⟩ := z_day (d := y) ⟨by grind, hx.2.2⟩
    obtain ⟨F, f1, f2⟩ := z_day (d := x) ⟨hx.1, by grind⟩
    refine ⟨F, E, f2, e2, ?_, e1⟩
    have := hx.2.1
    rw [e2, f2] at this
    exact (nI_le' (by omega) (by omega)).mp this
  · rw [u_n _ _ e, u_n _ _ e]
    exact h5 k (by omega)
theorem I_T.bk {n1 n2 : Int32} {sv ms fr to told back sv' ms' fr' to' told' back' : Nat → Int32} {nt : Nat} (h : I_T n1 n2 sv ms fr to told back sv' ms' fr' to' told' back' nt) (f : Nat → Int32) : I_T n1 n2 sv ms fr to told f sv' ms' fr' to' told' f nt := by
  obtain ⟨h1, h2, h3, ⟨rfl, rfl, rfl, rfl, rfl, rfl⟩, h5⟩ := h
  exact ⟨h1, h2, h3, ⟨rfl, rfl, rfl, rfl, rfl, rfl⟩, h5⟩
theorem I_G.add {n1 n2 : Int32} {gv le co told gv' le' co' told' : Nat → Int32} {ng : Nat} (h : I_G n1 n2 gv le co told gv' le' co' told' ng) (hn : ng < 100) {a x y t : Int32} (hx : (0 ≤ x ∧ x ≤ 9) ∧ 0 ≤ y ∧ y ≤ 9999) : I_G (nI (ng + 1)) (nI (ng + 1)) (upd gv ng a) (upd le ng x) (upd co ng y) (upd told ng t) (upd gv' ng a) (upd le' ng x) (upd co' ng y) (upd told' ng t) (ng + 1) := by
  obtain ⟨-, -, -, ⟨rfl, rfl, rfl, rfl⟩, h5⟩ := h
  refine ⟨rfl, rfl, by omega, ⟨rfl, rfl, rfl, rfl⟩, fun k hk => ?_⟩
  by_cases e : k = ng
  · subst e
    rw [u_s, u_s]
    exact hx
  · rw [u_n _ _ e, u_n _ _ e]
    exact h5 k (by omega)
theorem I_N.add {n1 n2 now : Int32} {fr told of fr' told' of' : Nat → Int32} {nn : Nat} (h : I_N n1 n2 now fr told of fr' told' of' nn) (hn : nn < 30) {x v : Int32} (hx : 0 ≤ x) : I_N (nI (nn + 1)) (nI (nn + 1)) now (upd fr nn x) (upd told nn now) (upd of nn v) (upd fr' nn x) (upd told' nn now) (upd of' nn v) (nn + 1) := by
  obtain ⟨-, -, -, ⟨rfl, rfl, rfl⟩, h5⟩ := h
  refine ⟨rfl, rfl, by omega, ⟨rfl, rfl, rfl⟩, fun k hk => ?_⟩
  by_cases e : k = nn
  · subst e
    rw [u_s, u_s]
    exact ⟨hx, Int32.le_refl _⟩
  · rw [u_n _ _ e, u_n _ _ e]
    exact h5 k (by omega)
theorem I_N.day {n1 n2 now now' : Int32} {fr told of fr' told' of' : Nat → Int32} {nn : Nat} (h : I_N n1 n2 now fr told of fr' told' of' nn) (hx : now ≤ now') : I_N n1 n2 now' fr told of fr' told' of' nn := by
  obtain ⟨h1, h2, h3, h4, h5⟩ := h
  exact ⟨h1, h2, h3, h4, fun k hk => ⟨(h5 k hk).1, by have := (h5 k hk).2; grind⟩⟩
theorem I_D.cut {n1 n2 : Int32} {sg sg' : Nat → Int32} {nl k : Nat} (h : I_D n1 n2 sg sg' nl) (hk : k ≤ nl) : I_D (nI k) (nI k) sg sg' k := by
  obtain ⟨h1, h2, h3, h4⟩ := h
  exact ⟨rfl, rfl, by omega, fun j hj => h4 j (by omega)⟩
theorem I_D.put {n1 n2 : Int32} {sg sg' : Nat → Int32} {nl : Nat} (h : I_D n1 n2 sg sg' nl) (hn : nl < 120) {c : Int32} (h0 : 0 ≤ c) (h1 : c ≤ 255) : I_D (nI (nl + 1)) (nI (nl + 1)) (upd sg nl c) (upd sg' nl (b_sg c)) (nl + 1) := by
  obtain ⟨-, -, -, h4⟩ := h
  refine ⟨rfl, rfl, by omega, fun k hk => ?_⟩
  by_cases e : k = nl
  · subst e
    rw [u_s, u_s]
    exact ⟨h0, h1, rfl⟩
  · rw [u_n _ _ e, u_n _ _ e]
    exact h4 k (by omega)
