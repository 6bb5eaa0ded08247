/-! ===== what the class's draft and the reference lay is one ===== -/
noncomputable def selR (R : Nat → Bool) (N j : Nat) : Nat := if h : j < cntR R N then Classical.choose (cntR_surj h) else 0
theorem selR_of {R : Nat → Bool} {N j : Nat} (h : j < cntR R N) : selR R N j < N ∧ R (selR R N j) = true ∧ cntR R (selR R N j) = j := by
  unfold selR
  rw [dif_pos h]
  exact Classical.choose_spec (cntR_surj h)
theorem selR_cnt {R : Nat → Bool} {N w : Nat} (hw : w < N) (h : R w = true) : selR R N (cntR R w) = w := by
  have h1 := selR_of (cntR_lt_of hw h)
  exact cntR_inj h1.2.1 h h1.2.2
theorem cntR_le_iff {R : Nat → Bool} {u w : Nat} (hw : R w = true) (h : cntR R u ≤ cntR R w) : u ≤ w := by
  apply Nat.le_of_not_lt
  intro q
  have := cntR_lt_of q hw
  omega
theorem mnK_KSg {c : Nat → Nat → Nat} {R : Nat → Bool} {kd : Nat → Nat} {N p w : Nat} (hw : w < N) (hr : R w = true) (hk : ∀ u, u < N → R u = true → kd u < N) : KS c R kd N p (c p w) (mnK c R kd N p w) = true ∧ (∀ k, k < mnK c R kd N p w → KS c R kd N p (c p w) k = false) ∧ mnK c R kd N p w < N := by
  obtain ⟨a1, a2, a3⟩ := mnD_spec (fun u => R u && decide (c p u = c p w)) kd N N
  have hw2 := a2 w hw (by show (R w && decide (c p w = c p w)) = true; rw [hr, decide_eq_true rfl]; rfl)
  have hkw := hk w hw hr
  have hlt : mnK c R kd N p w < N := Nat.lt_of_le_of_lt hw2 hkw
  refine ⟨?_, fun k hk2 => ?_, hlt⟩
  · rcases a3 with h | ⟨u, u1, u2, u3⟩
    · exfalso
      have : mnK c R kd N p w = N := h
      omega
    · have u2 : (R u && decide (c p u = c p w)) = true := u2
      rw [Bool.and_eq_true, decide_eq_true_eq] at u2
      exact KS_iff.mpr ⟨u, u1, u2.1, u2.2, u3.symm⟩
  · cases e : KS c R kd N p (c p w) k with
    | false => rfl
    | true =>
      obtain ⟨u, u1, u2, u3, u4⟩ := KS_iff.mp e
      have := a2 u u1 (by show (R u && decide (c p u = c p w)) = true; rw [u2, decide_eq_true u3]; rfl)
      have h9 : mnK c R kd N p w ≤ kd u := this
      omega
section LINK
variable {N r0 np : Nat} {c c' : Nat → Nat → Nat} {ff fC : Nat → Int32} {R : Nat → Bool} {kd : Nat → Nat}
noncomputable def kdu (R : Nat → Bool) (N : Nat) (kd : Nat → Nat) (w : Nat) : Nat := selR R N (kd (cntR R w))
theorem kdu_of (hK : KND (cntR R N) np c' fC RT kd) {w : Nat} (hw : w < N) (hr : R w = true) : kdu R N kd w < N ∧ R (kdu R N kd w) = true ∧ cntR R (kdu R N kd w) = kd (cntR R w) := by
  have hj := cntR_lt_of hw hr
  have := (hK.1.1 _ hj rfl).2.1
  exact selR_of (by omega)
theorem KS_u (hcp : ∀ u, u < N → R u = true → ff u = fC (cntR R u) ∧ ∀ p, p < np → c' p (cntR R u) = c p u) (hK : KND (cntR R N) np c' fC RT kd) {p : Nat} (hp : p < np) {u x : Nat} (hu : u < N) (hr : R u = true) : KS c R (kdu R N kd) N p (c p u) x = true ↔ ∃ k, k < cntR R N ∧ selR R N k = x ∧ KS c' RT kd (cntR R N) p (c' p (cntR R u)) k = true := by
  rw [KS_iff]
  constructor
  · rintro ⟨v, v1, v2, v3, v4⟩
    have hj := cntR_lt_of v1 v2
    have hkl := (hK.1.1 _ hj rfl).2.1
    refine ⟨kd (cntR R v), by omega, v4, KS_iff.mpr ⟨cntR R v, hj, rfl, ?_, rfl⟩⟩
    rw [(hcp v v1 v2).2 p hp, (hcp u hu hr).2 p hp, v3]
  · rintro ⟨k, k1, k2, k3⟩
    obtain ⟨j, j1, j2, j3, j4⟩ := KS_iff.mp k3
    obtain ⟨s1, s2, s3⟩ := selR_of j1
    refine ⟨selR R N j, s1, s2, ?_, ?_⟩
    · have e1 := (hcp _ s1 s2).2 p hp
      have e2 := (hcp u hu hr).2 p hp
      rw [s3] at e1
      rw [← e1, ← e2, j3]
    · unfold kdu
      rw [s3, j4, k2]
theorem KND_u (hcp : ∀ u, u < N → R u = true → ff u = fC (cntR R u) ∧ ∀ p, p < np → c' p (cntR R u) = c p u) (hK : KND (cntR R N) np c' fC RT kd) : KND N np c ff R (kdu R N kd) := by
  have hlt : ∀ w, w < N → R w = true → cntR R w < cntR R N := fun w hw hr => cntR_lt_of hw hr
  refine ⟨⟨fun w hw hr => ?_, fun E hE u w e => ?_⟩, fun u hu w hw ru rw_ e p hp x => ?_⟩
  · obtain ⟨a1, a2, a3⟩ := kdu_of hK hw hr
    obtain ⟨k1, k2, k3, k4⟩ := hK.1.1 _ (hlt w hw hr) rfl
    refine ⟨a2, cntR_le_iff hr (by rw [a3]; exact k2), ?_, ?_⟩
    · show selR R N (kd (cntR R (kdu R N kd w))) = kdu R N kd w
      rw [a3, k3]; rfl
    · rw [(hcp _ a1 a2).1, (hcp w hw hr).1, a3, k4]
  · obtain ⟨b1, b2, b3, b4, -⟩ := hE u w e
    have := hK.1.2 (fun j k => ∃ u w, E u w ∧ cntR R u = j ∧ cntR R w = k) (by
      rintro j k ⟨u, w, e, rfl, rfl⟩
      obtain ⟨b1, b2, b3, b4, b5, b6⟩ := hE u w e
      refine ⟨hlt u b1 b3, hlt w b2 b4, rfl, rfl, by rw [← (hcp u b1 b3).1, ← (hcp w b2 b4).1, b5], fun p hp => ⟨fun j' hj' _ ec => ?_, fun k' hk' _ ec => ?_⟩⟩
      · obtain ⟨s1, s2, s3⟩ := selR_of hj'
        have e1 := (hcp _ s1 s2).2 p hp
        have e2 := (hcp u b1 b3).2 p hp
        rw [s3] at e1
        obtain ⟨w', w1, w2, w3, w4⟩ := (b6 p hp).1 _ s1 s2 (by rw [← e1, ← e2, ec])
        exact ⟨cntR R w', hlt w' w1 w2, rfl, by rw [(hcp w' w1 w2).2 p hp, (hcp w b2 b4).2 p hp, w3], _, w', w4, s3, rfl⟩
      · obtain ⟨s1, s2, s3⟩ := selR_of hk'
        have e1 := (hcp _ s1 s2).2 p hp
        have e2 := (hcp w b2 b4).2 p hp
        rw [s3] at e1
        obtain ⟨u', w1, w2, w3, w4⟩ := (b6 p hp).2 _ s1 s2 (by rw [← e1, ← e2, ec])
        exact ⟨cntR R u', hlt u' w1 w2, rfl, by rw [(hcp u' w1 w2).2 p hp, (hcp u b1 b3).2 p hp, w3], u', _, w4, rfl, s3⟩) (cntR R u) (cntR R w) ⟨u, w, e, rfl, rfl⟩
    unfold kdu
    rw [this]
  · obtain ⟨a1, a2, a3⟩ := kdu_of hK hu ru
    obtain ⟨b1, b2, b3⟩ := kdu_of hK hw rw_
    have ek : kd (cntR R u) = kd (cntR R w) := by rw [← a3, ← b3, e]
    have hl := hK.2 _ (hlt u hu ru) _ (hlt w hw rw_) rfl rfl ek p hp
    rw [Bool.eq_iff_iff, KS_u hcp hK hp hu ru, KS_u hcp hK hp hw rw_]
    exact exists_congr (fun k => and_congr_right (fun _ => and_congr_right (fun _ => by rw [hl k])))
/-- what is laid, by the draft's own numbers -/
theorem LAID_link {cc : Nat → Nat → Nat} {ff2 f2 c2 : Nat → Int32} {W2 r2 : Nat} (hcp : ∀ u, u < N → R u = true → ff u = fC (cntR R u) ∧ ∀ p, p < np → c' p (cntR R u) = c p u) (hR : RCH N r0 np c R) (hr0 : r0 < N) (hK : KND (cntR R N) np c' fC RT kd) (hcc : ∀ p, p < np → ∀ u, u < N → ∀ w, w < N → (cc p u = cc p w ↔ c p u = c p w)) (hff : ∀ w, w < N → ff2 w = ff w) (hL : LAID N r0 np cc ff2 W2 r2 f2 c2) : W2 = cntR (reps RT kd) (cntR R N) ∧ W2 ≤ 64 ∧ r2 = cntR (reps RT kd) (kd (cntR R r0)) ∧ ∀ v, v < cntR R N → kd v = v → f2 (cntR (reps RT kd) v) = fC v ∧ ∀ p, p < np → c2 (64 * p + cntR (reps RT kd) v) = nI (fpl c' kd (cntR R N) p v) := by
  obtain ⟨R2, kd2, l1, l2, l3, l4, l5, l6, l7⟩ := hL
  have hR2 : ∀ w, w < N → R2 w = R w := RCH.uniq l1 hR hcc
  have hKu := KND_u hcp hK
  have hk2 : ∀ w, w < N → R2 w = true → kd2 w = kdu R N kd w := KND.uniq hcc hff hR2 l2 hKu
  have hrp : ∀ u, u < N → reps R2 kd2 u = (R u && decide (kd (cntR R u) = cntR R u)) := by
    intro u hu
    unfold reps
    rw [hR2 u hu]
    cases e : R u with
    | false => rfl
    | true =>
      rw [Bool.true_and, Bool.true_and, hk2 u hu (by rw [hR2 u hu]; exact e)]
      obtain ⟨a1, a2, a3⟩ := kdu_of hK hu e
      congr 1
      apply propext
      constructor
      · intro q; rw [← a3, q]
      · intro q; unfold kdu; rw [q, selR_cnt hu e]
  have hcnt : ∀ u, u ≤ N → cntR (reps R2 kd2) u = cntR (reps RT kd) (cntR R u) := by
    intro u
    induction u with
    | zero => intro _; rfl
    | succ u ih =>
      intro hu
      have i := ih (by omega)
      rw [cntR, i, hrp u (by omega)]
      cases e : R u with
      | false => rw [cntR_f e]; rfl
      | true =>
        rw [cntR_t e, cntR.eq_2 (reps RT kd) (cntR R u), Bool.true_and]
        by_cases e2 : kd (cntR R u) = cntR R u
        · rw [decide_eq_true e2, if_pos rfl, if_pos (repsT.mpr e2)]
        · rw [decide_eq_false e2, if_neg (by decide), if_neg (fun q => e2 (repsT.mp q))]
  have hRr : R r0 = true := hR.1
  refine ⟨by rw [l3, hcnt N (Nat.le_refl _)], l4, ?_, fun v hv hvr => ?_⟩
  · obtain ⟨a1, a2, a3⟩ := kdu_of hK hr0 hRr
    rw [l5, hk2 r0 hr0 l1.1, hcnt _ (by omega), a3]
  · obtain ⟨s1, s2, s3⟩ := selR_of hv
    have hrep : reps R2 kd2 (selR R N v) = true := by rw [hrp _ s1, s2, s3, decide_eq_true hvr]; rfl
    have hcs : cntR (reps R2 kd2) (selR R N v) = cntR (reps RT kd) v := by rw [hcnt _ (by omega), s3]
    refine ⟨?_, fun p hp => ?_⟩
    · have := l6 _ s1 hrep
      rw [hcs] at this
      rw [this, hff _ s1, (hcp _ s1 s2).1, s3]
    · have := l7 p hp _ s1 hrep
      rw [hcs] at this
      rw [this]
      have hkl : ∀ u, u < N → R2 u = true → kd2 u < N := fun u hu ru => by have := (l2.1.1 u hu ru).2.1; omega
      obtain ⟨m1, m2, m3⟩ := mnK_KSg (c := cc) (R := R2) (kd := kd2) (p := p) s1 (by rw [hR2 _ s1]; exact s2) hkl
      have hkl' : ∀ u, u < cntR R N → kd u < cntR R N := fun u hu => by have := (hK.1.1 u hu rfl).2.1; omega
      obtain ⟨n1, n2, n3⟩ := mnK_KS (c := c') (kd := kd) (p := p) hv hkl'
      have hKK : ∀ x, KS cc R2 kd2 N p (cc p (selR R N v)) x = true ↔ ∃ k, k < cntR R N ∧ selR R N k = x ∧ KS c' RT kd (cntR R N) p (c' p v) k = true := by
        intro x
        have q := KS_u hcp hK hp (x := x) s1 s2
        rw [s3] at q
        rw [← q, KS_iff, KS_iff]
        constructor
        · rintro ⟨u, u1, u2, u3, u4⟩
          have ru : R u = true := by rw [← hR2 u u1]; exact u2
          exact ⟨u, u1, ru, (hcc p hp u u1 _ s1).mp u3, by rw [← hk2 u u1 u2]; exact u4⟩
        · rintro ⟨u, u1, u2, u3, u4⟩
          have ru : R2 u = true := by rw [hR2 u u1]; exact u2
          exact ⟨u, u1, ru, (hcc p hp u u1 _ s1).mpr u3, by rw [hk2 u u1 ru]; exact u4⟩
      rw [hcnt _ (by omega)]
      unfold fpl
      congr 2
      obtain ⟨k, k1, k2, k3⟩ := (hKK _).mp m1
      obtain ⟨z1, z2, z3⟩ := selR_of k1
      rw [k2] at z3
      have g1 : mnK c' RT kd (cntR R N) p v ≤ k := by
        apply Nat.le_of_not_lt
        intro q
        rw [n2 k q] at k3; cases k3
      have g2 : mnK cc R2 kd2 N p (selR R N v) ≤ selR R N (mnK c' RT kd (cntR R N) p v) := by
        apply Nat.le_of_not_lt
        intro q
        have := m2 _ q
        rw [(hKK _).mpr ⟨_, n3, rfl, n1⟩] at this
        cases this
      have g3 := cntR_idx R g2
      rw [(selR_of n3).2.2] at g3
      omega
end LINK
