/-! ===== the law: what the start gives of the tables ===== -/
theorem uX0 : ∀ w ∈ u_ws RX0 TX0 12, w ∈ lw_tbl := by decide +kernel
theorem uX1 : ∀ w ∈ u_ws RX1 TX1 2, w ∈ lw_tbl := by decide +kernel
theorem uX2 : ∀ w ∈ u_ws RX2 TX2 3, w ∈ lw_tbl := by decide +kernel
theorem uX3 : ∀ w ∈ u_ws RX3 TX3 2, w ∈ lw_tbl := by decide +kernel
theorem uX4 : ∀ w ∈ u_ws RX4 TX4 5, w ∈ lw_tbl := by decide +kernel
theorem uX5 : ∀ w ∈ u_ws RX5 TX5 3, w ∈ lw_tbl := by decide +kernel
theorem uX6 : ∀ w ∈ u_ws RX6 TX6 6, w ∈ lw_tbl := by decide +kernel
theorem uX8 : ∀ w ∈ u_ws RX8 TX8 6, w ∈ lw_tbl := by decide +kernel
theorem uX9 : ∀ w ∈ u_ws RX9 TX9 6, w ∈ lw_tbl := by decide +kernel
theorem uX10 : ∀ w ∈ u_ws RX10 TX10 9, w ∈ lw_tbl := by decide +kernel
theorem uX11 : ∀ w ∈ u_ws RX11 TX11 54, w ∈ lw_tbl := by decide +kernel
theorem uAr : (∀ w ∈ [Cond.arrayClass .int, Cond.arrayClass .long, Cond.arrayClass .boolean, Cond.instantiable RX0 12, Cond.instantiable RX1 2, Cond.instantiable RX2 3, Cond.instantiable RX3 2, Cond.instantiable RX4 5, Cond.instantiable RX5 3, Cond.instantiable RX6 6, Cond.instantiable RX8 6, Cond.instantiable RX9 6, Cond.instantiable RX10 9, Cond.instantiable RX11 54, Cond.arrayOver (.object "TownKnows$Row"), Cond.arrayOver (.object "TownKnows$Pact"), Cond.arrayOver (.object "TownKnows$Picture"), Cond.arrayOver (.object "TownKnows$Town"), Cond.arrayOver (.object "TownKnows$Sheet")], w ∈ lw_tbl) := by decide +kernel
theorem tk_arP {s : State} {A : Array Value} {ty : FieldType} (hty : ty = .int ∨ ty = .long ∨ ty = .boolean) (h : (Cond.arrayClass ty).before A s = true) : ∃ cA, ArrOfT s cA ty ∧ va_RA s cA ty := by
  obtain ⟨cA, kA, comp, h1, h2, h3⟩ := Cond.arrayClass_spec h
  refine ⟨cA, fun n z => ⟨fun k h => (by cases h), kA, h2, comp, h3⟩, ?_⟩
  rcases hty with rfl | rfl | rfl <;> exact h1
theorem tk_arO {s : State} {A : Array Value} {C : String} (h : (Cond.arrayOver (.object C)).before A s = true) : ∃ cA, ArrOfT s cA (.object C) ∧ va_RA s cA (.object C) := by
  obtain ⟨comp, c, k, h1, h2, h3, h4, h5⟩ := Cond.arrayOver_spec h
  exact ⟨c, fun n z => ⟨fun k h => (by cases h), k, h3, comp, h4⟩, k, comp, h3, h4, h1, h5⟩
theorem tkK_start {s : State} {A : Array Value} (hts : ∀ w ∈ lw_tbl, w.before A s = true) : ∃ (D : va_G) (aC : Nat → ClassId), ∀ (B b L : Nat) (xs : Nat → Int32), tkK (B, b, D, aC, L, xs) s := by
  have hw : ∀ w ∈ [Cond.arrayClass .int, Cond.arrayClass .long, Cond.arrayClass .boolean, Cond.instantiable RX0 12, Cond.instantiable RX1 2, Cond.instantiable RX2 3, Cond.instantiable RX3 2, Cond.instantiable RX4 5, Cond.instantiable RX5 3, Cond.instantiable RX6 6, Cond.instantiable RX8 6, Cond.instantiable RX9 6, Cond.instantiable RX10 9, Cond.instantiable RX11 54, Cond.arrayOver (.object "TownKnows$Row"), Cond.arrayOver (.object "TownKnows$Pact"), Cond.arrayOver (.object "TownKnows$Picture"), Cond.arrayOver (.object "TownKnows$Town"), Cond.arrayOver (.object "TownKnows$Sheet")], w.before A s = true := fun w hw => hts w (uAr w hw)
  simp only [List.mem_cons, List.not_mem_nil, or_false, forall_eq_or_imp, forall_eq] at hw
  obtain ⟨a0, a1, a2, x0, x1, x2, x3, x4, x5, x6, x8, x9, x10, x11, a3, a4, a5, a6, a7⟩ := hw
  obtain ⟨c0, i0, k0⟩ := u_known hts uX0 x0
  obtain ⟨c1, i1, k1⟩ := u_known hts uX1 x1
  obtain ⟨c2, i2, k2⟩ := u_known hts uX2 x2
  obtain ⟨c3, i3, k3⟩ := u_known hts uX3 x3
  obtain ⟨c4, i4, k4⟩ := u_known hts uX4 x4
  obtain ⟨c5, i5, k5⟩ := u_known hts uX5 x5
  obtain ⟨c6, i6, k6⟩ := u_known hts uX6 x6
  obtain ⟨c7, i7, k7⟩ := u_known hts uX8 x8
  obtain ⟨c8, i8, k8⟩ := u_known hts uX9 x9
  obtain ⟨c9, i9, k9⟩ := u_known hts uX10 x10
  obtain ⟨c10, i10, k10⟩ := u_known hts uX11 x11
  obtain ⟨r0, e0⟩ := tk_arP (Or.inl rfl) a0
  obtain ⟨r1, e1⟩ := tk_arP (Or.inr (Or.inl rfl)) a1
  obtain ⟨r2, e2⟩ := tk_arP (Or.inr (Or.inr rfl)) a2
  obtain ⟨r3, e3⟩ := tk_arO a3
  obtain ⟨r4, e4⟩ := tk_arO a4
  obtain ⟨r5, e5⟩ := tk_arO a5
  obtain ⟨r6, e6⟩ := tk_arO a6
  obtain ⟨r7, e7⟩ := tk_arO a7
  refine ⟨(fun k => match k with
    | 0 => c0
    | 1 => c1
    | 2 => c2
    | 3 => c3
    | 4 => c4
    | 5 => c5
    | 6 => c6
    | 7 => c7
    | 8 => c8
    | 9 => c9
    | _ => c10, fun k => match k with
    | 0 => i0
    | 1 => i1
    | 2 => i2
    | 3 => i3
    | 4 => i4
    | 5 => i5
    | 6 => i6
    | 7 => i7
    | 8 => i8
    | 9 => i9
    | _ => i10), fun t => match t with
    | 20 => r0
    | 21 => r1
    | 22 => r2
    | 23 => r3
    | 24 => r4
    | 25 => r5
    | 26 => r6
    | _ => r7, fun B b L xs => ⟨⟨fun c q hq => ?_, fun k q hk => ?_⟩, fun w hw => ?_⟩⟩
  · match c, hq with
    | 0, hq => cases hq; exact k0
    | 1, hq => cases hq; exact k1
    | 2, hq => cases hq; exact k2
    | 3, hq => cases hq; exact k3
    | 4, hq => cases hq; exact k4
    | 5, hq => cases hq; exact k5
    | 6, hq => cases hq; exact k6
    | 7, hq => cases hq; exact k7
    | 8, hq => cases hq; exact k8
    | 9, hq => cases hq; exact k9
    | 10, hq => cases hq; exact k10
    | c + 11, hq => simp at hq
  · have hl : k < 8 := by
      have := (List.getElem?_eq_some_iff.mp hk).1
      simpa [tkTys] using this
    unfold tkTys at hk
    rw [List.getElem?_map, List.getElem?_range hl] at hk
    cases hk
    match k, hl with
    | 0, _ => exact e0
    | 1, _ => exact e1
    | 2, _ => exact e2
    | 3, _ => exact e3
    | 4, _ => exact e4
    | 5, _ => exact e5
    | 6, _ => exact e6
    | 7, _ => exact e7
  · have h1 := hts w (tkNst_in w hw)
    rcases tkNst_kind w hw with ⟨a, i, x, y, rfl⟩ | ⟨a, b, rfl⟩ | ⟨D, rfl⟩
    · exact va_Nw.of rfl h1
    · exact va_Nw.of rfl h1
    · exact h1
