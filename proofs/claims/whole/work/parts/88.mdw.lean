/-! ===== the worlds made are the reference's ===== -/
section FPL
variable {N np : Nat} {c : Nat → Nat → Nat} {f : Nat → Int32} {kd : Nat → Nat}
theorem KND.lt (hK : KND N np c f RT kd) : ∀ u, u < N → kd u < N := fun u hu => by have := (hK.1.1 u hu rfl).2.1; omega
theorem fp_le (hK : KND N np c f RT kd) {p v : Nat} (hv : v < N) (hr : kd v = v) : mnK c RT kd N p v ≤ v := by
  obtain ⟨n1, n2, n3⟩ := mnK_KS (c := c) (kd := kd) (p := p) hv hK.lt
  apply Nat.le_of_not_lt
  intro q
  have := n2 v q
  rw [KS_iff.mpr ⟨v, hv, rfl, rfl, hr⟩] at this
  cases this
theorem fp_rep (hK : KND N np c f RT kd) {p v : Nat} (hp : p < np) (hv : v < N) : mnK c RT kd N p v < N ∧ kd (mnK c RT kd N p v) = mnK c RT kd N p v ∧ mnK c RT kd N p (mnK c RT kd N p v) = mnK c RT kd N p v := by
  obtain ⟨n1, n2, n3⟩ := mnK_KS (c := c) (kd := kd) (p := p) hv hK.lt
  obtain ⟨u, u1, u2, u3, u4⟩ := KS_iff.mp n1
  have hm : kd (mnK c RT kd N p v) = mnK c RT kd N p v := by rw [← u4]; exact (hK.1.1 u u1 rfl).2.2.1
  obtain ⟨m1, m2, m3⟩ := mnK_KS (c := c) (kd := kd) (p := p) n3 hK.lt
  have e : ∀ k, KS c RT kd N p (c p v) k = KS c RT kd N p (c p (mnK c RT kd N p v)) k := by
    intro k
    rw [← u3]
    exact hK.2 u u1 _ n3 rfl rfl (by rw [hm, u4]) p hp k
  refine ⟨n3, hm, ?_⟩
  apply Nat.le_antisymm
  · apply Nat.le_of_not_lt
    intro q
    have := m2 _ q
    rw [← e, n1] at this
    cases this
  · apply Nat.le_of_not_lt
    intro q
    have := n2 _ q
    rw [e, m1] at this
    cases this
end FPL
/-- each cell is named by its least world -/
def CAN (np W : Nat) (ce : Nat → Int32) : Prop := ∀ p, p < np → ∀ w, w < W → ce (64 * p + w) = nI (cLs ce W p w)
section MDW
variable {n : Nat} {T : Nat → Nat × Nat} {I : Nat → Nat → Int32} {L : Nat → Nat → Int64} {P : Nat → Nat → Option Nat}
variable {N np nf W r : Nat} {c : Nat → Nat → Nat} {f : Nat → Int32} {kd fx : Nat → Nat} {f2 c2 : Nat → Int32}
theorem md_can (hK : KND N np c f RT kd) (hN : N ≤ 128) (hW : W = cntR (reps RT kd) N) (hW64 : W ≤ 64) (hc : ∀ v, v < N → kd v = v → ∀ p, p < np → c2 (64 * p + cntR (reps RT kd) v) = nI (fpl c kd N p v)) : CAN np W c2 := by
  intro p hp w hw
  rw [hW] at hw
  obtain ⟨v, v1, v2, rfl⟩ := cntR_surj hw
  have v3 := repsT.mp v2
  obtain ⟨m1, m2, m3⟩ := fp_rep hK hp (p := p) v1
  rw [← hW] at hw
  obtain ⟨l1, l2, l3⟩ := cLs_of (ce := c2) (p := p) hw hW64
  have em := hc _ m1 m2 p hp
  rw [show fpl c kd N p (mnK c RT kd N p v) = fpl c kd N p v by unfold fpl; rw [m3]] at em
  have ev := hc v v1 v3 p hp
  rw [ev] at l2 l3 ⊢
  congr 1
  apply Nat.le_antisymm
  · have hle : cntR (reps RT kd) v ≤ N := by have := cntR_le (reps RT kd) v; omega
    obtain ⟨z, z1, z2, z3⟩ := cntR_surj (R := reps RT kd) (W := N) (i := cLs c2 W p (cntR (reps RT kd) v)) (by omega)
    have z4 := repsT.mp z2
    have ez := hc z z1 z4 p hp
    rw [z3, l2] at ez
    obtain ⟨y1, y2, y3⟩ := fp_rep hK hp (p := p) z1
    have b1 := cntR_lt_of m1 (repsT.mpr m2)
    have b2 := cntR_lt_of y1 (repsT.mpr y2)
    have e := (nI_eq (show fpl c kd N p v < 2147483648 by unfold fpl; omega) (show fpl c kd N p z < 2147483648 by unfold fpl; omega)).mp ez
    rw [e, ← z3]
    exact cntR_idx _ (fp_le hK z1 z4)
  · apply Nat.le_of_not_lt
    intro q
    exact l3 _ q em
end MDW
