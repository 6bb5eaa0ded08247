/-! ===== a telling of the class is the reference's, the labels ===== -/
def wLb (hw x : Nat) : Nat := if x = 0 ∨ hw = 0 then 0 else 2 + if hw = 2 then x - 1 else 0
theorem wLb_eq {hw x y : Nat} (h : hw ≤ 2) (hx : x ≤ 2) (hy : y ≤ 2) : (wLb hw x = wLb hw y ↔ (hw = 0 ∨ (0 < y ↔ 0 < x)) ∧ (hw < 2 ∨ y = x)) ∧ wLb hw x < 4 := by
  unfold wLb
  have h3 : hw = 0 ∨ hw = 1 ∨ hw = 2 := by omega
  have x3 : x = 0 ∨ x = 1 ∨ x = 2 := by omega
  have y3 : y = 0 ∨ y = 1 ∨ y = 2 := by omega
  rcases h3 with rfl | rfl | rfl <;> rcases x3 with rfl | rfl | rfl <;> rcases y3 with rfl | rfl | rfl <;> decide
section LNK4
variable {W np N : Nat} {ce st : Nat → Int32} {co wa : Nat → Nat} {pr mt : Int32} {a b : Nat} {cc : Nat → Nat → Nat}
theorem tNr_le2 {p : Nat} : tNr st a b p ≤ 2 := by
  unfold tNr
  split
  · omega
  · split <;> omega
theorem tLb_w (hab : st a = st b) {p j : Nat} (hpr : tb pr.toInt64 p = true ↔ (p = a ∨ p = b)) (hmt : tb mt.toInt64 p = true ↔ st p = st a) : tLb ce W co wa pr mt p j = 4 * cLs ce W p (co j) + wLb (tNr st a b p) (wa j) := by
  unfold tLb
  congr 1
  unfold wLb tNr tAd
  by_cases h0 : wa j = 0
  · rw [if_pos h0, if_pos (Or.inl h0)]
  · rw [if_neg h0]
    by_cases h1 : p = a ∨ p = b
    · have hs : st p = st a := by rcases h1 with rfl | rfl
                                  · rfl
                                  · exact hab.symm
      rw [if_pos h1, if_pos (hmt.mpr hs), if_pos (hpr.mpr h1), if_neg (by omega), if_pos rfl]
    · rw [if_neg h1, if_neg (fun z => h1 (hpr.mp z))]
      by_cases h2 : st p = st a
      · rw [if_pos h2, if_pos (hmt.mpr h2), if_neg (by omega), if_neg (by omega)]
      · rw [if_neg h2, if_neg (fun z => h2 (hmt.mp z)), if_pos (Or.inr rfl)]
theorem tell_cc (hW : W ≤ 64) (hco : ∀ j, j < N → co j < W ∧ wa j ≤ 2) (hab : st a = st b) (hpr : ∀ p, p < np → (tb pr.toInt64 p = true ↔ (p = a ∨ p = b))) (hmt : ∀ p, p < np → (tb mt.toInt64 p = true ↔ st p = st a)) (hcc : ∀ p, p < np → ∀ i, i < N → cc p i = Vt (tSm ce co wa p (tNr st a b p) i) i 0) : ∀ p, p < np → ∀ i, i < N → ∀ j, j < N → (cc p i = cc p j ↔ tLb ce W co wa pr mt p i = tLb ce W co wa pr mt p j) := by
  intro p hp i hi j hj
  obtain ⟨c1, c2⟩ := hco i hi
  obtain ⟨d1, d2⟩ := hco j hj
  have w1 := wLb_eq (tNr_le2 (st := st) (a := a) (b := b) (p := p)) c2 d2
  have w2 := wLb_eq (tNr_le2 (st := st) (a := a) (b := b) (p := p)) d2 c2
  rw [hcc p hp i hi, hcc p hp j hj, Vt_sm, tSm_iff, tLb_w hab (hpr p hp) (hmt p hp), tLb_w hab (hpr p hp) (hmt p hp), four_eq w1.2 w2.2, cLs_eq c1 d1 hW, w1.1]
  exact ⟨fun z => ⟨z.1.symm, z.2⟩, fun z => ⟨z.1.symm, z.2⟩⟩
theorem tLb_lt (hW : W ≤ 64) (hab : st a = st b) {p j : Nat} (hj : co j < W ∧ wa j ≤ 2) (hpr : tb pr.toInt64 p = true ↔ (p = a ∨ p = b)) (hmt : tb mt.toInt64 p = true ↔ st p = st a) : tLb ce W co wa pr mt p j < 256 := by
  have h1 := (cLs_of (ce := ce) (p := p) hj.1 hW).1
  have h2 := (wLb_eq (tNr_le2 (st := st) (a := a) (b := b) (p := p)) hj.2 hj.2).2
  rw [tLb_w hab hpr hmt]
  omega
end LNK4
theorem pair_d : ∀ a, a < 4 → ∀ b, b < 4 → ∀ p, p < 4 → (tb (kshl (nI 1) (nI a) ||| kshl (nI 1) (nI b)).toInt64 p = true ↔ (p = a ∨ p = b)) := by decide +kernel
