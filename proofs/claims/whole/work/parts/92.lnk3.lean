/-! ===== a telling of the class is the reference's ===== -/
theorem TWO.all {W : Nat} {kw xx : Nat → Bool} {co wa : Nat → Nat} (h : TWO W kw xx co wa) : ∀ m, m ≤ W → ∀ j, j < m + cntR kw m → co j < W ∧ wa j ≤ 2 := by
  intro m
  induction m with
  | zero => intro _ j hj; exact (Nat.not_lt_zero j hj).elim
  | succ m ih =>
    intro hm j hj
    obtain ⟨t1, t2, t3⟩ := h m (by omega)
    by_cases e : j < m + cntR kw m
    · exact ih (by omega) j e
    · cases ek : kw m with
      | false =>
        rw [cntR_f ek] at hj
        obtain rfl : j = m + cntR kw m := by omega
        rw [t1, t2]; omega
      | true =>
        rw [cntR_t ek] at hj
        obtain ⟨s1, s2⟩ := t3 ek
        by_cases e2 : j = m + cntR kw m
        · subst e2; rw [t1, t2]; omega
        · obtain rfl : j = m + cntR kw m + 1 := by omega
          rw [s1, s2]
          refine ⟨by omega, ?_⟩
          split <;> omega
section LNK3
variable {ce : Nat → Int32} {co wa : Nat → Nat} {p hw W : Nat}
theorem tSm_iff {i j : Nat} : tSm ce co wa p hw i j = true ↔ ce (64 * p + co j) = ce (64 * p + co i) ∧ (hw = 0 ∨ (0 < wa j ↔ 0 < wa i)) ∧ (hw < 2 ∨ wa j = wa i) := by
  unfold tSm
  rw [Bool.and_eq_true, Bool.and_eq_true, Bool.or_eq_true, Bool.or_eq_true, decide_eq_true_eq, decide_eq_true_eq, decide_eq_true_eq, decide_eq_true_eq, beq_iff_eq, decide_eq_decide, and_assoc]
theorem Vt_sm {i j : Nat} : Vt (tSm ce co wa p hw i) i 0 = Vt (tSm ce co wa p hw j) j 0 ↔ tSm ce co wa p hw i j = true := by
  have sf : ∀ i, tSm ce co wa p hw i i = true := fun i => tSm_iff.mpr ⟨rfl, Or.inr Iff.rfl, Or.inr rfl⟩
  have e : ∀ i, Vt (tSm ce co wa p hw i) i 0 = lst (tSm ce co wa p hw i) i 0 := fun i => if_pos (Nat.zero_le i)
  rw [e, e]
  obtain ⟨a1, a2, a3⟩ := lst_least (sf i)
  obtain ⟨b1, b2, b3⟩ := lst_least (sf j)
  constructor
  · intro h
    rw [h] at a1
    obtain ⟨x1, x2, x3⟩ := tSm_iff.mp a1
    obtain ⟨y1, y2, y3⟩ := tSm_iff.mp b1
    exact tSm_iff.mpr ⟨y1.symm.trans x1, by rcases x2 with x2 | x2
                                            · exact Or.inl x2
                                            · rcases y2 with y2 | y2
                                              · exact Or.inl y2
                                              · exact Or.inr (y2.symm.trans x2), by omega⟩
  · intro h
    obtain ⟨x1, x2, x3⟩ := tSm_iff.mp h
    have es : ∀ y, tSm ce co wa p hw i y = tSm ce co wa p hw j y := by
      intro y
      rw [Bool.eq_iff_iff, tSm_iff, tSm_iff, x1]
      refine and_congr_right (fun _ => and_congr ?_ ?_)
      · rcases x2 with x2 | x2
        · exact ⟨fun _ => Or.inl x2, fun _ => Or.inl x2⟩
        · rw [x2]
      · rcases x3 with x3 | x3
        · exact ⟨fun _ => Or.inl x3, fun _ => Or.inl x3⟩
        · rw [x3]
    refine lst_eq (sf i) ?_ (fun k hk => ?_)
    · rw [es]; exact b1
    · rw [es]; exact b3 k hk
end LNK3
