/-! the start, look left as a hypothesis -/
theorem j_inst : ∀ (k : Nat) (q : vw_C), j_cls[k]? = some q → Cond.instantiable q.1 q.2.2 ∈ lw_tbl := by
  intro k q h
  match k, h with
  | 0, h => cases h; decide +kernel
  | 1, h => cases h; decide +kernel
  | 2, h => cases h; decide +kernel
  | 3, h => cases h; decide +kernel
  | 4, h => cases h; decide +kernel
  | 5, h => cases h; decide +kernel
  | 6, h => cases h; decide +kernel
  | 7, h => cases h; decide +kernel
  | 8, h => cases h; decide +kernel
  | 9, h => cases h; decide +kernel
  | 10, h => cases h; decide +kernel
  | n + 11, h => simp [j_cls] at h
theorem j_arrK {s : State} {args : Array Value} {ty : FieldType} (h : (Cond.arrayClass ty).before args s = true) : ∃ c : ClassId, ArrOfT s c ty ∧ s.vm.findClass ("[" ++ ty.toString) = some c := by
  obtain ⟨c, k, comp, h1, h2, h3⟩ := Cond.arrayClass_spec h
  exact ⟨c, fun n z => ⟨fun k h => (by cases h), k, h2, comp, h3⟩, h1⟩
theorem whole_open {p : Program} {e : Env} {s : State} {m : MethodId} {below : List Frame} {meth : Method} {c : Code} (l : Launch) {b L : Nat} {xs : Nat → Int32} (hl0 : l.stackTraces = false) (hL : L ≤ 2560) (hlook : w_look L xs (fun r _ _ => r = some 1)) (C0 : lw_At p s m meth c b L xs) : W p l e room_1 s m #[Value.ref b] below meth c s.heap [] 0 0 (lw_Z below #[Value.ref b] s) (entryFrame m ([Value.ref b] : List Value).toArray 7) := by
  obtain ⟨hx, hb, hr, hml, hown, hts, hX, hbl, hlocks, hgv⟩ := id C0
  have hD : ∀ k : Nat, ∃ (c : ClassId) (i : Nat → Nat), ∀ q : vw_C, j_cls[k]? = some q → u_Kn s q.1 q.2.1 q.2.2 c i := by
    intro k
    cases hq : j_cls[k]? with
    | none => exact ⟨m.cls, fun _ => 0, fun q h => by cases h⟩
    | some q =>
      obtain ⟨c, i, h⟩ := u_known (C := q.1) (T := q.2.1) (N := q.2.2) (n := q.2.2) hts (j_cf k q.1 q.2.1 q.2.2 hq).1 (hts _ (j_inst k q hq))
      exact ⟨c, i, fun q' h' => by cases h'; exact h⟩
  obtain ⟨a1, b1, d1⟩ := j_arrK (hts _ j_arr.1)
  obtain ⟨a2, b2, d2⟩ := j_arrK (hts _ j_arr.2.1)
  obtain ⟨a3, b3, d3⟩ := j_arrK (hts _ j_arr.2.2.1)
  obtain ⟨a4, b4, d4⟩ := j_arrK (hts _ j_arr.2.2.2.1)
  obtain ⟨a5, b5, d5⟩ := j_arrK (hts _ j_arr.2.2.2.2)
  have hl := lv_entry ([.ref b]) (n := 7) (Nat.le_of_ble_eq_true rfl)
  rw [lg_entry_eq]
  generalize (lg_sl ([.ref b]) ++ List.replicate (7 - (lg_sl ([.ref b])).length) Slot.unset).toArray = ls at hl ⊢
  have hl : lv_has ls 7 [(0, .ref b)] := hl
  have J := w_start (Q := fun r _ _ => r = some 1) hL (fun _ => rfl) hlook (fun _ _ => 0)
  let cA : FieldType → ClassId := fun ty => match ty with
    | .int => a1
    | .byte => a2
    | .char => a3
    | .boolean => a4
    | _ => a5
  refine J p l e room_1 s m #[Value.ref b] below meth c (fun k => (hD k).choose, fun k => (hD k).choose_spec.choose) cA (fun q => s.heap.size ≤ q) (fun _ => b) s.heap [] 0 0 ls _ ?_ ?_ (by decide) (by decide) ?_ (fun v hv => by cases hv) ⟨hX, hbl, Nat.not_le.mpr hbl, hl0, fun _ ha => Nat.not_le.mpr ha, _, hts, hgv⟩ ?_
  · exact ⟨hx, hb, hml, hr, hlocks, (fun h => by cases h), hown, fun w hw => hts w (List.mem_filter.mp hw).1, by decide, by decide⟩
  · refine ⟨⟨fun k q hq => (hD k).choose_spec.choose_spec q hq, fun k q hq => ?_⟩, fun k q h => by simp [j_w] at h, ⟨fun i j p q h => by simp [j_w] at h, fun k q h => by simp [j_w] at h⟩, va_S.rf, fun _ h => h, fun w hw => ?_⟩
    · match k, hq with
      | 0, hq => cases hq; exact ⟨b1, d1⟩
      | 1, hq => cases hq; exact ⟨b2, d2⟩
      | 2, hq => cases hq; exact ⟨b3, d3⟩
      | 3, hq => cases hq; exact ⟨b4, d4⟩
      | 4, hq => cases hq; exact ⟨b5, d5⟩
      | k + 5, hq => simp [j_tys] at hq
    · obtain ⟨w1, w2⟩ := List.mem_filter.mp hw
      cases w <;> first | exact va_Nw.of rfl (hts _ w1) | cases w2
  · refine ⟨hl.1, hl.2.1, rfl, fun i v hv => ?_⟩
    match i, hv with
    | 0, hv => cases hv; exact ⟨hl.2.2 (0, .ref b) List.mem_cons_self, fun k hk => by cases hk; exact Or.inr rfl⟩
    | 1, hv => cases hv
    | 2, hv => cases hv
    | 3, hv => cases hv
    | 4, hv => cases hv
    | 5, hv => cases hv
    | 6, hv => cases hv
    | i + 7, hv => simp at hv
  · intro r sh' μ' α' H' locs' cells' slots' lr' pc' hq _ _ hW hc1 hc2 hr0 hr1
    subst hq
    obtain ⟨e1, ty, e2, e3⟩ := hr1 1 rfl
    refine va_forget hW.2.2.2.1.2.2 ?_
    refine W.widen (k := 601024) (n := 7293033) hc1 hc2 ?_
    exact lw_ret hx hb hr hlocks e1
