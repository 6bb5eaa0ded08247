/-! ===== a parting of the class is the reference's ===== -/
noncomputable def pLb (ce : Nat → Int32) (W : Nat) (M : Int64) (q : Nat) (S : Int64) (p i : Nat) : Nat := 4 * cLs ce W p (selM M W i) + if p = q ∧ tb S (selM M W i) = true then 1 else 0
theorem cLs_eq {ce : Nat → Int32} {W p u w : Nat} (hu : u < W) (hw : w < W) (hW : W ≤ 64) : cLs ce W p u = cLs ce W p w ↔ ce (64 * p + u) = ce (64 * p + w) := by
  obtain ⟨a1, a2, a3⟩ := cLs_of (ce := ce) (p := p) hu hW
  obtain ⟨b1, b2, b3⟩ := cLs_of (ce := ce) (p := p) hw hW
  constructor
  · intro e
    rw [← a2, ← b2, e]
  · intro e
    apply Nat.le_antisymm
    · apply Nat.le_of_not_lt
      intro q
      exact a3 _ q (b2.trans e.symm)
    · apply Nat.le_of_not_lt
      intro q
      exact b3 _ q (a2.trans e)
theorem four_eq {a b x y : Nat} (hx : x < 4) (hy : y < 4) : 4 * a + x = 4 * b + y ↔ a = b ∧ x = y := by omega
theorem ite_eq1 {a b : Prop} [Decidable a] [Decidable b] : ((if a then 1 else 0 : Nat) = if b then 1 else 0) ↔ (a ↔ b) := by
  by_cases ha : a
  · by_cases hb : b
    · rw [if_pos ha, if_pos hb]; exact ⟨fun _ => ⟨fun _ => hb, fun _ => ha⟩, fun _ => rfl⟩
    · rw [if_pos ha, if_neg hb]; exact ⟨fun q => by omega, fun q => absurd (q.mp ha) hb⟩
  · by_cases hb : b
    · rw [if_neg ha, if_pos hb]; exact ⟨fun q => by omega, fun q => absurd (q.mpr hb) ha⟩
    · rw [if_neg ha, if_neg hb]; exact ⟨fun _ => ⟨fun z => absurd z ha, fun z => absurd z hb⟩, fun _ => rfl⟩
theorem ite_lt4 {a : Prop} [Decidable a] : (if a then 1 else 0 : Nat) < 4 := by split <;> omega
section LNK2
variable {np W q : Nat} {vf ff ce : Nat → Int32} {M Sr Sc : Int64} {a : Int32} {cc : Nat → Nat → Nat}
theorem part_cc (hW : W ≤ 64) (hM : MADE np W vf (pB ce W) M a Sr cc ff) (hs : ∀ p, p < np → ∀ u, u < W → ∀ w, w < W → tb M u = true → tb M w = true → ((nI p = a → (tb Sr u = true ↔ tb Sr w = true)) ↔ (p = q → (tb Sc u = true ↔ tb Sc w = true)))) : ∀ p, p < np → ∀ i, i < cnt M W → ∀ j, j < cnt M W → (cc p i = cc p j ↔ pLb ce W M q Sc p i = pLb ce W M q Sc p j) := by
  intro p hp i hi j hj
  obtain ⟨u, u1, u2, rfl⟩ := cnt_surj hi
  obtain ⟨w, w1, w2, rfl⟩ := cnt_surj hj
  have fu := mFs_of (B := pB ce W) (a := a) (S := Sr) (p := p) (show u < 64 by omega) ((tb_pB hW (by omega)).mpr ⟨u1, rfl⟩) u2
  have fw := mFs_of (B := pB ce W) (a := a) (S := Sr) (p := p) (show w < 64 by omega) ((tb_pB hW (by omega)).mpr ⟨w1, rfl⟩) w2
  unfold pLb
  rw [(hM u u1 u2).2 p hp, (hM w w1 w2).2 p hp, selM_cnt u1 u2, selM_cnt w1 w2, four_eq ite_lt4 ite_lt4, cLs_eq u1 w1 hW, ite_eq1]
  have e1 : cnt M (mFs (pB ce W) M a Sr p u) = cnt M (mFs (pB ce W) M a Sr p w) ↔ mFs (pB ce W) M a Sr p u = mFs (pB ce W) M a Sr p w := ⟨fun z => cnt_inj fu.2.1 fw.2.1 z, fun z => by rw [z]⟩
  rw [e1, mFs_eq hW u1 w1 u2 w2, hs p hp u u1 w w1 u2 w2]
  constructor
  · rintro ⟨x, y⟩
    exact ⟨x.symm, ⟨fun z => ⟨z.1, (y z.1).mp z.2⟩, fun z => ⟨z.1, (y z.1).mpr z.2⟩⟩⟩
  · rintro ⟨x, y⟩
    exact ⟨x.symm, fun z => ⟨fun k => (y.mp ⟨z, k⟩).2, fun k => (y.mpr ⟨z, k⟩).2⟩⟩
theorem pLb_lt (hW : W ≤ 64) {p i : Nat} (hi : i < cnt M W) : pLb ce W M q Sc p i < 256 := by
  have h1 := (cLs_of (ce := ce) (p := p) (selM_of hi).1 hW).1
  unfold pLb
  split <;> omega
theorem DPT.fin {I I' : Nat → Nat → Int32} {nf r : Nat} {F : Nat → Int32} (h : DPT I I' np nf W r F ce M q Sc W) : (∀ i, i < cnt M W → I' 29 i = F (selM M W i)) ∧ ∀ p, p < np → ∀ i, i < cnt M W → I' 30 (128 * p + i) = nI (pLb ce W M q Sc p i) := by
  obtain ⟨h1, h2, h3, h4, h5, h6⟩ := h
  refine ⟨fun i hi => ?_, fun p hp i hi => ?_⟩
  · obtain ⟨a1, a2, a3⟩ := selM_of hi
    have := (h6 _ a1 a2).1
    rw [a3] at this; exact this
  · obtain ⟨a1, a2, a3⟩ := selM_of hi
    have := (h6 _ a1 a2).2 p hp
    rw [a3] at this; exact this
theorem MADE.fcs (hM : MADE np W vf (pB ce W) M a Sr cc ff) : ∀ i, i < cnt M W → ff i = vf (selM M W i) := by
  intro i hi
  obtain ⟨a1, a2, a3⟩ := selM_of hi
  have := (hM _ a1 a2).1
  rw [a3] at this; exact this
end LNK2
