/-! what the tables give at the law's entry -/
theorem w_arr {s : State} {args : Array Value} {ty : FieldType} (ht : ty = .int ∨ ty = .long ∨ ty = .boolean) (h : (Cond.arrayClass ty).before args s = true) : ∃ cA, ArrOfT s cA ty ∧ va_RA s cA ty := by
  obtain ⟨cA, kA, comp, h1, h2, h3⟩ := Cond.arrayClass_spec h
  refine ⟨cA, fun n z => ⟨fun k h => (by cases h), kA, h2, comp, h3⟩, ?_⟩
  rcases ht with rfl | rfl | rfl <;> exact h1
theorem w_arO {s : State} {args : Array Value} {C : String} (h : (Cond.arrayOver (.object C)).before args s = true) : ∃ cA, ArrOfT s cA (.object C) ∧ va_RA s cA (.object C) := by
  obtain ⟨comp, cA, kA, h1, _, h3, h4, h5⟩ := Cond.arrayOver_spec h
  exact ⟨cA, fun n z => ⟨fun k h => (by cases h), kA, h3, comp, h4⟩, kA, comp, h3, h4, h1, h5⟩
theorem w_ins : ∀ ci, ci < 13 → Cond.instantiable (zR ci) (zN ci) ∈ lw_tbl := by
  intro ci h
  match ci, h with
  | 0, _ => decide +kernel
  | 1, _ => decide +kernel
  | 2, _ => decide +kernel
  | 3, _ => decide +kernel
  | 4, _ => decide +kernel
  | 5, _ => decide +kernel
  | 6, _ => decide +kernel
  | 7, _ => decide +kernel
  | 8, _ => decide +kernel
  | 9, _ => decide +kernel
  | 10, _ => decide +kernel
  | 11, _ => decide +kernel
  | 12, _ => decide +kernel
theorem w_K {s : State} {args : Array Value} (hts : ∀ w ∈ lw_tbl, w.before args s = true) : ∃ (D : va_G) (gA : FieldType → Nat), va_K D zcl (ztys gA) s := by
  have hg : ∀ w ∈ z_good, w.before args s = true := fun w hw => hts w (List.mem_filter.mp hw).1
  have hc : ∀ ci, ∃ p : ClassId × (Nat → Nat), ci < 13 → u_Kn s (zR ci) (zT ci) (zN ci) p.1 p.2 := fun ci => by
    by_cases hci : ci < 13
    · obtain ⟨cC, iS, h⟩ := u_known hg (z_uws ci hci) (hts _ (w_ins ci hci))
      exact ⟨(cC, iS), fun _ => h⟩
    · exact ⟨(0, fun _ => 0), fun h => absurd h hci⟩
  have hf := fun ci => Classical.choose_spec (hc ci)
  obtain ⟨a1, b1⟩ := w_arr (Or.inl rfl) (hts (.arrayClass .int) (by decide +kernel))
  obtain ⟨a2, b2⟩ := w_arr (Or.inr (Or.inl rfl)) (hts (.arrayClass .long) (by decide +kernel))
  obtain ⟨a3, b3⟩ := w_arr (Or.inr (Or.inr rfl)) (hts (.arrayClass .boolean) (by decide +kernel))
  obtain ⟨a4, b4⟩ := w_arO (hts (.arrayOver (.object "StepsShared$Standing")) (by decide +kernel))
  refine ⟨(fun ci => (Classical.choose (hc ci)).1, fun ci => (Classical.choose (hc ci)).2), (fun ty => match ty with | .int => a1 | .long => a2 | .boolean => a3 | _ => a4), fun ci q hq => ?_, fun k q hq => ?_⟩
  · have hlt : ci < 13 := (List.getElem?_eq_some_iff.mp hq).1
    rw [zcl_at ci hlt] at hq
    cases hq
    exact hf ci hlt
  · have hlt : k < 4 := (List.getElem?_eq_some_iff.mp hq).1
    match k, hlt, hq with
    | 0, _, hq => cases hq; exact b1
    | 1, _, hq => cases hq; exact b2
    | 2, _, hq => cases hq; exact b3
    | 3, _, hq => cases hq; exact b4
theorem w_nest {s : State} {args : Array Value} (hts : ∀ w ∈ lw_tbl, w.before args s = true) : ∀ w ∈ z_nest, va_Nw w s := by
  intro w hw
  have h1 := hts w (List.mem_filter.mp hw).1
  have h2 := (List.mem_filter.mp hw).2
  cases w <;> first | exact va_Nw.of rfl h1 | (simp [z_isNest] at h2; done)
