/-! ===== who is in a street; how many stay ===== -/
theorem shl_d : ∀ i, i < 4 → ∀ p, p < 4 → (tb (kshl (nI 1) (nI i)).toInt64 p = true ↔ p = i) := by decide +kernel
theorem tb_or32 {g h : Int32} {p : Nat} : tb (g ||| h).toInt64 p = true ↔ tb g.toInt64 p = true ∨ tb h.toInt64 p = true := by
  rw [Int32.toInt64_or, tb_orT]
theorem rPin_tb {st : Nat → Int32} {x : Int32} {p : Nat} (hp : p < 4) : ∀ np, np ≤ 4 → (tb (rPin st x np).toInt64 p = true ↔ p < np ∧ st p = x) := by
  intro np
  induction np with
  | zero =>
    intro _
    have z : ∀ p, p < 4 → tb (nI 0).toInt64 p = false := by decide +kernel
    rw [show rPin st x 0 = nI 0 from rfl, z p hp]
    exact ⟨fun q => (by cases q), fun q => absurd q.1 (Nat.not_lt_zero _)⟩
  | succ np ih =>
    intro h4
    have z : ∀ p, p < 4 → tb (nI 0).toInt64 p = false := by decide +kernel
    rw [show rPin st x (np + 1) = rPin st x np ||| (if st np = x then kshl (nI 1) (nI np) else nI 0) from rfl, tb_or32, ih (by omega)]
    by_cases e : st np = x
    · rw [if_pos e, shl_d np (by omega) p hp]
      constructor
      · rintro (q | rfl)
        · exact ⟨by omega, q.2⟩
        · exact ⟨by omega, e⟩
      · rintro ⟨q1, q2⟩
        by_cases e2 : p = np
        · exact Or.inr e2
        · exact Or.inl ⟨by omega, q2⟩
    · rw [if_neg e, z p hp]
      constructor
      · rintro (q | q)
        · exact ⟨by omega, q.2⟩
        · cases q
      · rintro ⟨q1, q2⟩
        refine Or.inl ⟨?_, q2⟩
        have : ¬ p = np := fun k => e (by rw [← k]; exact q2)
        omega
theorem CNT_link {N r0 np : Nat} {c c' cc : Nat → Nat → Nat} {ff fC ff2 : Nat → Int32} {R R2 : Nat → Bool} {kd kd2 : Nat → Nat} (hcp : ∀ u, u < N → R u = true → ff u = fC (cntR R u) ∧ ∀ p, p < np → c' p (cntR R u) = c p u) (hR : RCH N r0 np c R) (hK : KND (cntR R N) np c' fC RT kd) (hcc : ∀ p, p < np → ∀ u, u < N → ∀ w, w < N → (cc p u = cc p w ↔ c p u = c p w)) (hff : ∀ w, w < N → ff2 w = ff w) (l1 : RCH N r0 np cc R2) (l2 : KND N np cc ff2 R2 kd2) : cntR (reps R2 kd2) N = cntR (reps RT kd) (cntR R N) := by
  have hR2 : ∀ w, w < N → R2 w = R w := RCH.uniq l1 hR hcc
  have hKu := KND_u hcp hK
  have hk2 : ∀ w, w < N → R2 w = true → kd2 w = kdu R N kd w := KND.uniq hcc hff hR2 l2 hKu
  have hrp : ∀ u, u < N → reps R2 kd2 u = (R u && decide (kd (cntR R u) = cntR R u)) := by
    intro u hu
    unfold reps
    rw [hR2 u hu]
    cases e : R u with
    | false => rfl
    | true =>
      rw [Bool.true_and, Bool.true_and, hk2 u hu (by rw [hR2 u hu]; exact e)]
      obtain ⟨a1, a2, a3⟩ := kdu_of hK hu e
      congr 1
      apply propext
      constructor
      · intro q; rw [← a3, q]
      · intro q; unfold kdu; rw [q, selR_cnt hu e]
  have hcnt : ∀ u, u ≤ N → cntR (reps R2 kd2) u = cntR (reps RT kd) (cntR R u) := by
    intro u
    induction u with
    | zero => intro _; rfl
    | succ u ih =>
      intro hu
      have i := ih (by omega)
      rw [cntR, i, hrp u (by omega)]
      cases e : R u with
      | false => rw [cntR_f e]; rfl
      | true =>
        rw [cntR_t e, cntR.eq_2 (reps RT kd) (cntR R u), Bool.true_and]
        by_cases e2 : kd (cntR R u) = cntR R u
        · rw [decide_eq_true e2, if_pos rfl, if_pos (repsT.mpr e2)]
        · rw [decide_eq_false e2, if_neg (by decide), if_neg (fun q => e2 (repsT.mp q))]
  exact hcnt N (Nat.le_refl _)
