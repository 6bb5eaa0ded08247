/-! ===== sentences: fuel, places, and what is right ===== -/
theorem WF_mono {np nf : Nat} {bl : Bool} {row : Nat → Int32} : ∀ (k a k' : Nat), k ≤ k' → WF np nf bl row k a → WF np nf bl row k' a ∧ SZ row k' a = SZ row k a := by
  intro k
  induction k with
  | zero => intro a k' _ h; exact h.elim
  | succ k ih =>
    intro a k' hk h
    obtain ⟨k2, rfl⟩ : ∃ k2, k' = k2 + 1 := ⟨k' - 1, by omega⟩
    obtain ⟨v, hv, hv40, hc⟩ := h
    have hix : ix (row a) = v := by rw [hv]; exact ix_nI (by omega)
    rcases hc with h | ⟨h0, h1, h2⟩ | ⟨h0, h3, h1, h2, h4, h5⟩ | ⟨h0, h3, h4, h5, h1, h2⟩ | ⟨h0, h1, h2⟩
    · refine ⟨⟨v, hv, hv40, Or.inl h⟩, ?_⟩
      rw [SZ_0 (by rw [hix]; unfold rTkN; rw [if_pos (by omega)]), SZ_0 (by rw [hix]; unfold rTkN; rw [if_pos (by omega)])]
    · obtain ⟨i1, i2⟩ := ih (a - 1) k2 (by omega) h2
      have ht : rTkN (ix (row a)) = 1 := by rw [hix]; unfold rTkN; rw [if_neg (by omega), if_neg (by omega)]
      refine ⟨⟨v, hv, hv40, Or.inr (Or.inl ⟨h0, h1, i1⟩)⟩, ?_⟩
      rw [SZ_1 ht, SZ_1 ht, i2]
    · obtain ⟨i1, i2⟩ := ih (a - 1) k2 (by omega) h2
      obtain ⟨j1, j2⟩ := ih (a - 1 - SZ row k (a - 1)) k2 (by omega) h5
      have ht : rTkN (ix (row a)) = 2 := by rw [hix]; unfold rTkN; rw [if_neg (by omega), if_pos ⟨h0, h3⟩]
      refine ⟨⟨v, hv, hv40, Or.inr (Or.inr (Or.inl ⟨h0, h3, h1, i1, by rw [i2]; exact h4, by rw [i2]; exact j1⟩))⟩, ?_⟩
      rw [SZ_2 ht, SZ_2 ht, i2, j2]
    · obtain ⟨i1, i2⟩ := ih (a - 1) k2 (by omega) h2
      have ht : rTkN (ix (row a)) = 1 := by rw [hix]; unfold rTkN; rw [if_neg (by omega), if_neg (by omega)]
      refine ⟨⟨v, hv, hv40, Or.inr (Or.inr (Or.inr (Or.inl ⟨h0, h3, h4, h5, h1, i1⟩)))⟩, ?_⟩
      rw [SZ_1 ht, SZ_1 ht, i2]
    · obtain ⟨i1, i2⟩ := ih (a - 1) k2 (by omega) h2
      have ht : rTkN (ix (row a)) = 1 := by rw [hix]; unfold rTkN; rw [if_neg (by omega), if_neg (by omega)]
      refine ⟨⟨v, hv, hv40, Or.inr (Or.inr (Or.inr (Or.inr ⟨h0, h1, i1⟩)))⟩, ?_⟩
      rw [SZ_1 ht, SZ_1 ht, i2]
theorem SZ_congr {row row' : Nat → Int32} : ∀ (k a : Nat), (∀ i, i ≤ a → row i = row' i) → SZ row k a = SZ row' k a := by
  intro k
  induction k with
  | zero => intro a _; rfl
  | succ k ih =>
    intro a h
    have e1 := ih (a - 1) (fun i hi => h i (by omega))
    have e2 := ih (a - 1 - SZ row' k (a - 1)) (fun i hi => h i (by omega))
    rw [SZ, SZ, h a (Nat.le_refl a), e1, e2]
theorem WF_congr {np nf : Nat} {bl : Bool} {row row' : Nat → Int32} : ∀ (k a : Nat), (∀ i, i ≤ a → row i = row' i) → WF np nf bl row k a → WF np nf bl row' k a := by
  intro k
  induction k with
  | zero => intro a _ h; exact h
  | succ k ih =>
    intro a h hw
    obtain ⟨v, hv, hv40, hc⟩ := hw
    have g1 := ih (a - 1) (fun i hi => h i (by omega))
    have e1 := SZ_congr k (a - 1) (fun i hi => h i (show i ≤ a by omega))
    refine ⟨v, by rw [← h a (Nat.le_refl a)]; exact hv, hv40, ?_⟩
    rcases hc with h' | ⟨h0, h1, h2⟩ | ⟨h0, h3, h1, h2, h4, h5⟩ | ⟨h0, h3, h4, h5, h1, h2⟩ | ⟨h0, h1, h2⟩
    · exact Or.inl h'
    · exact Or.inr (Or.inl ⟨h0, h1, g1 h2⟩)
    · exact Or.inr (Or.inr (Or.inl ⟨h0, h3, h1, g1 h2, by rw [← e1]; exact h4, by rw [← e1]; exact ih _ (fun i hi => h i (by omega)) h5⟩))
    · exact Or.inr (Or.inr (Or.inr (Or.inl ⟨h0, h3, h4, h5, h1, g1 h2⟩)))
    · exact Or.inr (Or.inr (Or.inr (Or.inr ⟨h0, h1, g1 h2⟩)))
/-- the sentences that stand, by their ends, the latest first; i: the next place -/
def STK (np nf : Nat) (row : Nat → Int32) : List Nat → Nat → Prop
  | [], i => i = 0
  | e :: t, i => e + 1 = i ∧ WF np nf true row (e + 1) e ∧ SZ row (e + 1) e ≤ e + 1 ∧ STK np nf row t (e + 1 - SZ row (e + 1) e)
theorem rSign_of {v : Int32} (h : rSign v = true) : ∃ k, v = nI k ∧ (k ≤ 3 ∨ (10 ≤ k ∧ k ≤ 14) ∨ (20 ≤ k ∧ k ≤ 40)) := by
  unfold rSign at h
  rw [Bool.or_eq_true, Bool.or_eq_true] at h
  rcases h with h | h | h
  · obtain ⟨k, h1, h2⟩ := rIn_of h (by omega)
    exact ⟨k, h2, Or.inl h1⟩
  · obtain ⟨k, h1, h2, h3⟩ := rIn_of1 h (by omega) (by omega)
    exact ⟨k, h3, Or.inr (Or.inl ⟨h1, h2⟩)⟩
  · obtain ⟨k, h1, h2, h3⟩ := rIn_of1 h (by omega) (by omega)
    exact ⟨k, h3, Or.inr (Or.inr ⟨h1, h2⟩)⟩
theorem rPer_nI {a b : Nat} (ha : a < 2 ^ 31) (hb : b < 2 ^ 31) : rPer (nI b) (nI a) = decide (a < b) := by
  unfold rPer
  rw [decide_eq_true (nI_pos' ha), Bool.true_and]
  by_cases h : a < b
  · rw [decide_eq_true h, decide_eq_true ((nI_ltI ha hb).mpr h)]
  · rw [decide_eq_false h, decide_eq_false (fun q => h ((nI_ltI ha hb).mp q))]
theorem STK_step {np nf : Nat} {row : Nat → Int32} {st : List Nat} {i v : Nat} (hs : STK np nf row st i) (hv : row i = nI v) (hv40 : v ≤ 3 ∨ (10 ≤ v ∧ v ≤ 14) ∨ (20 ≤ v ∧ v ≤ 40)) (hnf : v < 10 → v < nf) (hnp : 20 ≤ v → v < 32 → v % 4 < np) (ht : rTkN v ≤ st.length) : ∃ st', STK np nf row st' (i + 1) ∧ st'.length + rTkN v = st.length + 1 := by
  have hix : ix (row i) = v := by rw [hv]; exact ix_nI (by omega)
  by_cases h0 : v < 10
  · have htv : rTkN v = 0 := by unfold rTkN; rw [if_pos h0]
    have e : SZ row (i + 1) i = 1 := SZ_0 (by rw [hix]; exact htv)
    refine ⟨i :: st, ⟨rfl, ⟨v, hv, by omega, Or.inl ⟨by omega, hnf h0⟩⟩, by rw [e]; omega, by rw [e, Nat.add_sub_cancel]; exact hs⟩, by rw [htv]; rfl⟩
  · by_cases h2 : 11 ≤ v ∧ v ≤ 14
    · have htv : rTkN v = 2 := by unfold rTkN; rw [if_neg h0, if_pos h2]
      rw [htv] at ht
      match st, hs, ht with
      | e2 :: e1 :: t, hs, _ =>
        obtain ⟨a1, a2, a3, b1, b2, b3, b4⟩ := hs
        obtain rfl : i = e2 + 1 := a1.symm
        have he : e1 = e2 + 1 - 1 - SZ row (e2 + 1) e2 := by omega
        obtain ⟨m1, m2⟩ := WF_mono (e1 + 1) e1 (e2 + 1) (by omega) b2
        have hz : SZ row (e2 + 1 + 1) (e2 + 1) = 1 + SZ row (e2 + 1) e2 + SZ row (e1 + 1) e1 := by
          rw [SZ_2 (by rw [hix]; exact htv)]
          show 1 + SZ row (e2 + 1) e2 + SZ row (e2 + 1) (e2 - SZ row (e2 + 1) e2) = _
          rw [show e2 - SZ row (e2 + 1) e2 = e1 by omega, m2]
        refine ⟨(e2 + 1) :: t, ⟨rfl, ⟨v, hv, by omega, Or.inr (Or.inr (Or.inl ⟨h2.1, h2.2, by omega, a2, ?_, ?_⟩))⟩, ?_, ?_⟩, by rw [htv]; rfl⟩
        · show SZ row (e2 + 1) e2 + 1 ≤ e2 + 1; omega
        · show WF np nf true row (e2 + 1) (e2 - SZ row (e2 + 1) e2)
          rw [show e2 - SZ row (e2 + 1) e2 = e1 by omega]; exact m1
        · rw [hz]; omega
        · rw [hz, show e2 + 1 + 1 - (1 + SZ row (e2 + 1) e2 + SZ row (e1 + 1) e1) = e1 + 1 - SZ row (e1 + 1) e1 by omega]; exact b4
    · have htv : rTkN v = 1 := by unfold rTkN; rw [if_neg h0, if_neg h2]
      rw [htv] at ht
      match st, hs, ht with
      | e2 :: t, hs, _ =>
        obtain ⟨a1, a2, a3, a4⟩ := hs
        obtain rfl : i = e2 + 1 := a1.symm
        have hz : SZ row (e2 + 1 + 1) (e2 + 1) = 1 + SZ row (e2 + 1) e2 := SZ_1 (by rw [hix]; exact htv)
        refine ⟨(e2 + 1) :: t, ⟨rfl, ⟨v, hv, by omega, ?_⟩, by rw [hz]; omega, by rw [hz, show e2 + 1 + 1 - (1 + SZ row (e2 + 1) e2) = e2 + 1 - SZ row (e2 + 1) e2 by omega]; exact a4⟩, by rw [htv]; rfl⟩
        by_cases h10 : v = 10
        · exact Or.inr (Or.inl ⟨h10, by omega, a2⟩)
        · by_cases h32 : v < 32
          · exact Or.inr (Or.inr (Or.inr (Or.inl ⟨by omega, h32, hnp (by omega) h32, fun _ => rfl, by omega, a2⟩)))
          · exact Or.inr (Or.inr (Or.inr (Or.inr ⟨by omega, by omega, a2⟩)))
theorem rTh_of {v np nf : Nat} (hv : v ≤ 40) (hnp : np ≤ 4) (hnf : nf ≤ 4) (h : rTh (nI v) (nI np) (nI nf) = true) : (v < 10 → v < nf) ∧ (20 ≤ v → v < 32 → v % 4 < np) := by
  unfold rTh at h
  constructor
  · intro h1
    rw [if_pos ((nI_ltI (by omega) (by omega)).mpr h1), rPer_nI (by omega) (by omega)] at h
    exact of_decide_eq_true h
  · intro h1 h2
    rw [if_neg (fun q => by have := (nI_ltI (by omega) (by omega)).mp q; omega), if_neg (fun q => by
      rcases q with q | q
      · have := (nI_ltI (by omega) (by omega)).mp q; omega
      · have := (nI_leI (by omega) (by omega)).mp q; omega), pk_rem (by omega) (by omega) (by omega), rPer_nI (by omega) (by omega)] at h
    exact of_decide_eq_true h
theorem rW_WF {np nf : Nat} {row : Nat → Int32} (hnp : np ≤ 4) (hnf : nf ≤ 4) : ∀ (k i : Nat) (st : List Nat), STK np nf row st i → st.length ≤ i → i + k ≤ 14 → (∀ j, j < i + k → rSign (row j) = true) → rW row (nI np) (nI nf) k i (nI st.length) < 0 → 1 ≤ i + k ∧ WF np nf true row (i + k) (i + k - 1) ∧ SZ row (i + k) (i + k - 1) = i + k := by
  intro k
  induction k with
  | zero =>
    intro i st hs hl hi hsg h
    rw [rW] at h
    by_cases h1 : nI st.length = nI 1
    · have hl1 : st.length = 1 := (nI_eq (by omega) (by omega)).mp h1
      match st, hs, hl1 with
      | [e], hs, _ =>
        obtain ⟨a1, a2, a3, a4⟩ := hs
        obtain rfl : i = e + 1 := a1.symm
        have a4 : e + 1 - SZ row (e + 1) e = 0 := a4
        refine ⟨by omega, a2, ?_⟩
        show SZ row (e + 1) e = e + 1
        omega
    · rw [if_neg h1] at h
      exact absurd h (nI_pos (by omega))
  | succ k ih =>
    intro i st hs hl hi hsg h
    rw [rW] at h
    obtain ⟨v, hv, hvr⟩ := rSign_of (hsg i (by omega))
    have htk := rTkN_le v
    by_cases hc : rTh (row i) (nI np) (nI nf) = true ∧ rTk (row i) ≤ nI st.length
    · rw [if_pos hc] at h
      obtain ⟨c1, c2⟩ := hc
      rw [hv] at c1 c2 h
      rw [rTk_nI (by omega)] at c2 h
      have c2 : rTkN v ≤ st.length := (nI_leI (by omega) (by omega)).mp c2
      obtain ⟨d1, d2⟩ := rTh_of (by omega) hnp hnf c1
      obtain ⟨st', s1, s2⟩ := STK_step hs hv hvr d1 d2 c2
      have e : nI st.length + (nI 1 - nI (rTkN v)) = nI st'.length := by
        have hcase : rTkN v = 0 ∨ rTkN v = 1 ∨ rTkN v = 2 := by omega
        rcases hcase with e0 | e0 | e0
        · rw [e0, pk_sub (by omega), nI_add]; congr 1; omega
        · rw [e0, pk_sub (by omega), nI_add]; congr 1; omega
        · rw [e0]
          have : st.length = st'.length + 1 := by omega
          rw [this, ← nI_add, Int32.add_assoc, show nI 1 + (nI 1 - nI 2) = nI 0 by decide +kernel, nI_add, Nat.add_zero]
      rw [e] at h
      have := ih (i + 1) st' s1 (by omega) (by omega) (fun j hj => hsg j (by omega)) h
      rw [show i + (k + 1) = i + 1 + k by omega]
      exact this
    · rw [if_neg hc] at h
      exact absurd h (nI_pos (by omega))
/-- a sentence that is right is one that ends at its last sign -/
theorem right_WF {np nf l : Nat} {row : Nat → Int32} (hnp : np ≤ 4) (hnf : nf ≤ 4) (hl : l ≤ 14) (hsg : ∀ j, j < l → rSign (row j) = true) (h : rW row (nI np) (nI nf) l 0 (nI 0) < 0) : 1 ≤ l ∧ WF np nf true row 14 (l - 1) ∧ SZ row 14 (l - 1) = l := by
  have h1 := rW_WF hnp hnf l 0 [] rfl (Nat.le_refl _) (by omega) (fun j hj => hsg j (by omega)) h
  rw [Nat.zero_add] at h1
  obtain ⟨g1, g2, g3⟩ := h1
  obtain ⟨m1, m2⟩ := WF_mono l (l - 1) 14 hl g2
  exact ⟨g1, m1, m2.trans g3⟩
