/-! ===== the class: school, the view behind a lesson ===== -/
section SCHOOL4
variable {n : Nat} {T : Nat → Nat × Nat} {I : Nat → Nat → Int32} {L : Nat → Nat → Int64} {P : Nat → Nat → Option Nat}
variable {wa c g np nf W r cn : Nat} {F ce gr cs : Nat → Int32} {cl : Nat → Nat}
/-- the school's sight, other lessons being heard -/
theorem sVw.ta {ta : Nat → Int32} (hv : sVw n T I L P 37 wa c g np nf W r cn F ce gr cs cl) (ht : tauN ta) : sVw n T (va_up I 38 ta) L P 37 wa c g np nf W r cn F ce gr cs cl := by
  obtain ⟨hz, hs, hpw, hw, hW1, hW, hnp, hnf, hta, hpc, hc, hcn, hpg, hg, hgr, hcl⟩ := hv
  have hE : cEx n T I L P n T (va_up I 38 ta) L P := ⟨Nat.le_refl _, fun b hb => ⟨rfl, by have := hb.1; rw [va_up_ne _ _ (by omega)], rfl, rfl⟩⟩
  have hg38 : ¬ g = 38 := by
    intro e
    have h4 : T 38 = (20, 4) := hs.2.2.2.1
    rw [e, h4] at hg
    exact absurd (congrArg Prod.snd hg) (by decide)
  refine ⟨hz, hs, hpw, hw.ex hE, hW1, hW, hnp, hnf, by rw [va_up_self]; exact ht, hpc, hc, hcn, hpg, hg, fun i hi => by rw [va_up_ne _ _ hg38]; exact hgr i hi, fun i hi => ?_⟩
  obtain ⟨ra, r1, r2, r3⟩ := hcl i hi
  exact ⟨ra, r1, r2.ex hE, r3⟩
/-- the school's sight, its own fields being written -/
theorem sVw.sc {x : Nat → Int32} (hv : sVw n T I L P 37 wa c g np nf W r cn F ce gr cs cl) (h36 : (T 36).1 = 5) : sVw n T (va_up I 36 x) L P 37 wa c g np nf W r cn F ce gr cs cl := by
  obtain ⟨hz, hs, hpw, hw, hW1, hW, hnp, hnf, hta, hpc, hc, hcn, hpg, hg, hgr, hcl⟩ := hv
  have hE : cEx n T I L P n T (va_up I 36 x) L P := ⟨Nat.le_refl _, fun b hb => ⟨rfl, by have := hb.1; rw [va_up_ne _ _ (by omega)], rfl, rfl⟩⟩
  have hg36 : ¬ g = 36 := by
    intro e
    rw [← e, hg] at h36
    exact absurd h36 (by decide)
  refine ⟨hz, hs, hpw, hw.ex hE, hW1, hW, hnp, hnf, by rw [va_up_ne _ _ (by omega)]; exact hta, hpc, hc, hcn, hpg, hg, fun i hi => by rw [va_up_ne _ _ hg36]; exact hgr i hi, fun i hi => ?_⟩
  obtain ⟨ra, r1, r2, r3⟩ := hcl i hi
  exact ⟨ra, r1, r2.ex hE, r3⟩
end SCHOOL4
section SHORT
variable {np nf : Nat} {st : Nat → Int32} {fa : Nat → Nat → Prop} {r : Nat} {Gs : (Nat → Prop) → (Nat → Nat → Nat → Prop) → Prop} {S : Nat → Prop} {tie : Nat → Nat → Nat → Prop}
/-- one lesson of the number l leads to it -/
def L1 (np nf : Nat) (st : Nat → Int32) (fa : Nat → Nat → Prop) (r : Nat) (Gs : (Nat → Prop) → (Nat → Nat → Nat → Prop) → Prop) (k : Nat) (S : Nat → Prop) (tie : Nat → Nat → Nat → Prop) (l : Nat) : Prop := ∃ S' tie', NXT np nf st fa r l S tie S' tie' ∧ LOK np nf st fa r Gs k S' tie'
theorem LOK_L1 {k : Nat} : LOK np nf st fa r Gs (k + 1) S tie ↔ ∃ l, l < 4 * np ∧ L1 np nf st fa r Gs k S tie l := by
  constructor
  · rintro ⟨l, S', tie', h1, h2, h3⟩
    exact ⟨l, h1, S', tie', h2, h3⟩
  · rintro ⟨l, h1, S', tie', h2, h3⟩
    exact ⟨l, S', tie', h1, h2, h3⟩
theorem LOK_no {k : Nat} (hnp : np ≤ 4) (h : ∀ l, l < 16 → l < 4 * np → ¬ L1 np nf st fa r Gs k S tie l) : ¬ LOK np nf st fa r Gs (k + 1) S tie := by
  rw [LOK_L1]
  rintro ⟨l, h1, h2⟩
  exact h l (by omega) h1 h2
theorem LSR_1 {l : Nat} {S' : Nat → Prop} {tie' : Nat → Nat → Nat → Prop} (hl : l < 4 * np) (hN : NXT np nf st fa r l S tie S' tie') (hG : Gs S' tie') (hmin : ∀ j, j < l → ¬ L1 np nf st fa r Gs 0 S tie j) : LSR np nf st fa r Gs 1 S tie (fun _ => l) := ⟨S', tie', hl, hN, hG, fun j hj => hmin j hj, trivial⟩
theorem LSR_2 {l m : Nat} {S' S2 : Nat → Prop} {tie' tie2 : Nat → Nat → Nat → Prop} (hl : l < 4 * np) (hm : m < 4 * np) (hN : NXT np nf st fa r l S tie S' tie') (hN2 : NXT np nf st fa r m S' tie' S2 tie2) (hG : Gs S2 tie2) (hmin : ∀ j, j < l → ¬ L1 np nf st fa r Gs 1 S tie j) (hmin2 : ∀ j, j < m → ¬ L1 np nf st fa r Gs 0 S' tie' j) : LSR np nf st fa r Gs 2 S tie (fun i => if i = 0 then l else m) := by
  refine ⟨S', tie', hl, hN, ⟨m, S2, tie2, hm, hN2, hG⟩, fun j hj => hmin j hj, ⟨S2, tie2, hm, hN2, hG, fun j hj => hmin2 j hj, trivial⟩⟩
end SHORT
