/-! ===== the worlds made are the reference's: the new cells ===== -/
section MDW2
variable {n : Nat} {T : Nat → Nat × Nat} {I : Nat → Nat → Int32} {L : Nat → Nat → Int64} {P : Nat → Nat → Option Nat}
variable {N np nf W r : Nat} {c : Nat → Nat → Nat} {f : Nat → Int32} {kd fx : Nat → Nat} {f2 c2 : Nat → Int32} {rv : Option tkV} {h : tkH}
/-- what a made town keeps of the heap -/
def mKp (n : Nat) (T : Nat → Nat × Nat) (I : Nat → Nat → Int32) (L : Nat → Nat → Int64) (P : Nat → Nat → Option Nat) (T' : Nat → Nat × Nat) (I' : Nat → Nat → Int32) (L' : Nat → Nat → Int64) (P' : Nat → Nat → Option Nat) : Prop := ∀ a, a < n → T' a = T a ∧ I' a = I a ∧ P' a = P a ∧ (¬ a = 34 → ¬ a = 35 → L' a = L a)
theorem md_wld (hn : 87 ≤ n) (hK : KND N np c f RT kd) (hN : N ≤ 128) (hW : W = cntR (reps RT kd) N) (hW64 : W ≤ 64) (hf : ∀ v, v < N → kd v = v → f2 (cntR (reps RT kd) v) = nI (fx v)) (hc : ∀ v, v < N → kd v = v → ∀ p, p < np → c2 (64 * p + cntR (reps RT kd) v) = nI (fpl c kd N p v)) (hM : MDQ n T I L P np nf W r N c kd fx rv h) : ∃ T' I' L' P', rv = some (vR (n + 1 + 1)) ∧ h = (n + 1 + 1 + 1, T', I', L', P') ∧ mKp n T I L P T' I' L' P' ∧ cWld (n + 1 + 1 + 1) T' I' L' P' (n + 1 + 1) np nf W r f2 c2 := by
  obtain ⟨T', I', L', P', e1, e2, e3, e4, e5, e6, e7, e8, e9, e10, e11, e12, e13, e14⟩ := hM
  refine ⟨T', I', L', P', e1, e2, e3, ⟨Or.inr (by omega), by omega⟩, e4, e5, e6, e7, e8, n, n + 1, ⟨Or.inr (by omega), by omega⟩, ⟨Or.inr (by omega), by omega⟩, e9, e10, e11, e12, fun g hg => ?_, fun p hp w hw => ?_⟩
  · apply tb_ext
    intro i hi
    rw [Bool.eq_iff_iff, e13 g hg i, rSF_T hW64]
    constructor
    · rintro ⟨v, v1, v2, v3, rfl⟩
      refine ⟨by rw [hW]; exact cntR_lt_of v1 (repsT.mpr v2), ?_⟩
      unfold faF
      rw [hf v v1 v2]; exact v3
    · rintro ⟨a1, a2⟩
      rw [hW] at a1
      obtain ⟨v, v1, v2, rfl⟩ := cntR_surj a1
      unfold faF at a2
      rw [hf v v1 (repsT.mp v2)] at a2
      exact ⟨v, v1, repsT.mp v2, a2, rfl⟩
  · have hw' := hw
    rw [hW] at hw'
    obtain ⟨v, v1, v2, rfl⟩ := cntR_surj hw'
    have v3 := repsT.mp v2
    have hlt : ∀ z, z < N → fpl c kd N p z < 2147483648 := fun z hz => by
      have := cntR_lt_of (fp_rep hK hp (p := p) hz).1 (repsT.mpr (fp_rep hK hp (p := p) hz).2.1)
      unfold fpl
      omega
    apply tb_ext
    intro i hi
    rw [Bool.eq_iff_iff, e14 p hp v v1 v3 i, tb_pB hW64 (by omega), hc v v1 v3 p hp]
    constructor
    · rintro ⟨u, u1, u2, u3, rfl⟩
      exact ⟨by rw [hW]; exact cntR_lt_of u1 (repsT.mpr u2), by rw [hc u u1 u2 p hp, u3]⟩
    · rintro ⟨a1, a2⟩
      rw [hW] at a1
      obtain ⟨u, u1, u2, rfl⟩ := cntR_surj a1
      rw [hc u u1 (repsT.mp u2) p hp] at a2
      exact ⟨u, u1, repsT.mp u2, (nI_eq (hlt u u1) (hlt v v1)).mp a2, rfl⟩
end MDW2
