/-! ===== ALIKE: the largest likeness, by kinds ===== -/
def lst (q : Nat → Bool) : Nat → Nat → Nat
  | 0, i => i
  | k + 1, i => if q i then i else lst q k (i + 1)
theorem lst_spec (q : Nat → Bool) : ∀ k i, i ≤ lst q k i ∧ lst q k i ≤ i + k ∧ (∀ j, i ≤ j → j < lst q k i → q j = false) ∧ (lst q k i < i + k → q (lst q k i) = true) := by
  intro k
  induction k with
  | zero => intro i; exact ⟨Nat.le_refl _, Nat.le_refl _, fun j h1 h2 => by rw [lst] at h2; omega, fun h => by rw [lst] at h; omega⟩
  | succ k ih =>
    intro i
    rw [lst]
    cases e : q i with
    | true => rw [if_pos rfl]; exact ⟨Nat.le_refl _, by omega, fun j h1 h2 => by omega, fun _ => e⟩
    | false =>
      rw [if_neg (by decide)]
      obtain ⟨h1, h2, h3, h4⟩ := ih (i + 1)
      refine ⟨by omega, by omega, fun j a1 a2 => ?_, fun h => h4 (by omega)⟩
      by_cases e2 : j = i
      · subst e2; exact e
      · exact h3 j (by omega) a2
/-- the least of those that q tells, if q tells w -/
theorem lst_least {q : Nat → Bool} {w : Nat} (hw : q w = true) : q (lst q w 0) = true ∧ lst q w 0 ≤ w ∧ ∀ j, j < lst q w 0 → q j = false := by
  obtain ⟨h1, h2, h3, h4⟩ := lst_spec q w 0
  refine ⟨?_, by omega, fun j hj => h3 j (by omega) hj⟩
  by_cases e : lst q w 0 < 0 + w
  · exact h4 e
  · rw [show lst q w 0 = w by omega]; exact hw
theorem lst_eq {q : Nat → Bool} {w m : Nat} (hw : q w = true) (h1 : q m = true) (h2 : ∀ j, j < m → q j = false) : lst q w 0 = m := by
  obtain ⟨g1, g2, g3⟩ := lst_least hw
  rcases Nat.lt_trichotomy (lst q w 0) m with h | h | h
  · rw [h2 _ h] at g1; cases g1
  · exact h
  · rw [g3 _ h] at h1; cases h1
/-- which kinds are in a cell -/
def KS (c : Nat → Nat → Nat) (R : Nat → Bool) (kd : Nat → Nat) (N p x k : Nat) : Bool := anyB (fun u => R u && (decide (c p u = x) && decide (kd u = k))) N
theorem KS_iff {c : Nat → Nat → Nat} {R : Nat → Bool} {kd : Nat → Nat} {N p x k : Nat} : KS c R kd N p x k = true ↔ ∃ u, u < N ∧ R u = true ∧ c p u = x ∧ kd u = k := by
  unfold KS
  rw [anyB_iff]
  constructor
  · rintro ⟨u, h1, h2⟩
    rw [Bool.and_eq_true, Bool.and_eq_true, decide_eq_true_eq, decide_eq_true_eq] at h2
    exact ⟨u, h1, h2⟩
  · rintro ⟨u, h1, h2⟩
    exact ⟨u, h1, by rw [Bool.and_eq_true, Bool.and_eq_true, decide_eq_true_eq, decide_eq_true_eq]; exact h2⟩
/-- the same kinds in the cells of two worlds, for the persons below np -/
def LKp (c : Nat → Nat → Nat) (R : Nat → Bool) (kd : Nat → Nat) (N np u w : Nat) : Prop := ∀ p, p < np → ∀ k, KS c R kd N p (c p u) k = KS c R kd N p (c p w) k
/-- a likeness: the same facts, and for each person each world in the cell of the one is like some in the cell of the other -/
def BSM (N np : Nat) (c : Nat → Nat → Nat) (f : Nat → Int32) (R : Nat → Bool) (E : Nat → Nat → Prop) : Prop := ∀ u w, E u w → u < N ∧ w < N ∧ R u = true ∧ R w = true ∧ f u = f w ∧ ∀ p, p < np → (∀ u', u' < N → R u' = true → c p u' = c p u → ∃ w', w' < N ∧ R w' = true ∧ c p w' = c p w ∧ E u' w') ∧ (∀ w', w' < N → R w' = true → c p w' = c p w → ∃ u', u' < N ∧ R u' = true ∧ c p u' = c p u ∧ E u' w')
/-- kinds as far as they are told apart: each the least of its kind, of the same facts, and nothing that is alike is told apart -/
def KI (N np : Nat) (c : Nat → Nat → Nat) (f : Nat → Int32) (R : Nat → Bool) (kd : Nat → Nat) : Prop := (∀ w, w < N → R w = true → R (kd w) = true ∧ kd w ≤ w ∧ kd (kd w) = kd w ∧ f (kd w) = f w) ∧ ∀ E, BSM N np c f R E → ∀ u w, E u w → kd u = kd w
/-- the kinds: told apart as far as cells tell -/
def KND (N np : Nat) (c : Nat → Nat → Nat) (f : Nat → Int32) (R : Nat → Bool) (kd : Nat → Nat) : Prop := KI N np c f R kd ∧ ∀ u, u < N → ∀ w, w < N → R u = true → R w = true → kd u = kd w → LKp c R kd N np u w
theorem KI.facts {N np : Nat} {c : Nat → Nat → Nat} {f : Nat → Int32} {R : Nat → Bool} {kd : Nat → Nat} (h : KI N np c f R kd) {u w : Nat} (hu : u < N) (hw : w < N) (ru : R u = true) (rw_ : R w = true) (e : kd u = kd w) : f u = f w := by
  rw [← (h.1 u hu ru).2.2.2, ← (h.1 w hw rw_).2.2.2, e]
/-- kinds that are told by cells are a likeness -/
theorem KND.bsm {N np : Nat} {c : Nat → Nat → Nat} {f : Nat → Int32} {R : Nat → Bool} {kd : Nat → Nat} (h : KND N np c f R kd) : BSM N np c f R (fun u w => u < N ∧ w < N ∧ R u = true ∧ R w = true ∧ kd u = kd w) := by
  rintro u w ⟨hu, hw, ru, rw_, e⟩
  have hl := h.2 u hu w hw ru rw_ e
  refine ⟨hu, hw, ru, rw_, h.1.facts hu hw ru rw_ e, fun p hp => ⟨fun u' a1 a2 a3 => ?_, fun w' a1 a2 a3 => ?_⟩⟩
  · have : KS c R kd N p (c p u) (kd u') = true := KS_iff.mpr ⟨u', a1, a2, a3, rfl⟩
    rw [hl p hp] at this
    obtain ⟨w', b1, b2, b3, b4⟩ := KS_iff.mp this
    exact ⟨w', b1, b2, b3, a1, b1, a2, b2, b4.symm⟩
  · have : KS c R kd N p (c p w) (kd w') = true := KS_iff.mpr ⟨w', a1, a2, a3, rfl⟩
    rw [← hl p hp] at this
    obtain ⟨u', b1, b2, b3, b4⟩ := KS_iff.mp this
    exact ⟨u', b1, b2, b3, b1, a1, b2, a2, b4⟩
theorem BSM.congr {N np : Nat} {c c' : Nat → Nat → Nat} {f f' : Nat → Int32} {R R' : Nat → Bool} {E : Nat → Nat → Prop} (hc : ∀ p, p < np → ∀ u, u < N → ∀ w, w < N → (c p u = c p w ↔ c' p u = c' p w)) (hf : ∀ w, w < N → f w = f' w) (hR : ∀ w, w < N → R w = R' w) (h : BSM N np c f R E) : BSM N np c' f' R' E := by
  intro u w e
  obtain ⟨hu, hw, ru, rw_, fe, hp⟩ := h u w e
  refine ⟨hu, hw, by rw [← hR u hu]; exact ru, by rw [← hR w hw]; exact rw_, by rw [← hf u hu, ← hf w hw]; exact fe, fun p hpp => ⟨fun u' a1 a2 a3 => ?_, fun w' a1 a2 a3 => ?_⟩⟩
  · obtain ⟨w', b1, b2, b3, b4⟩ := (hp p hpp).1 u' a1 (by rw [hR u' a1]; exact a2) ((hc p hpp u' a1 u hu).mpr a3)
    exact ⟨w', b1, by rw [← hR w' b1]; exact b2, (hc p hpp w' b1 w hw).mp b3, b4⟩
  · obtain ⟨u', b1, b2, b3, b4⟩ := (hp p hpp).2 w' a1 (by rw [hR w' a1]; exact a2) ((hc p hpp w' a1 w hw).mpr a3)
    exact ⟨u', b1, by rw [← hR u' b1]; exact b2, (hc p hpp u' b1 u hu).mp b3, b4⟩
/-- there is one way of telling kinds -/
theorem KND.uniq {N np : Nat} {c c' : Nat → Nat → Nat} {f f' : Nat → Int32} {R R' : Nat → Bool} {kd kd' : Nat → Nat} (hc : ∀ p, p < np → ∀ u, u < N → ∀ w, w < N → (c p u = c p w ↔ c' p u = c' p w)) (hf : ∀ w, w < N → f w = f' w) (hR : ∀ w, w < N → R w = R' w) (h : KND N np c f R kd) (h' : KND N np c' f' R' kd') : ∀ w, w < N → R w = true → kd w = kd' w := by
  have a1 : ∀ u w, u < N → w < N → R u = true → R w = true → kd u = kd w → kd' u = kd' w := fun u w hu hw ru rw_ e => h'.1.2 _ (h.bsm.congr hc hf hR) u w ⟨hu, hw, ru, rw_, e⟩
  have a2 : ∀ u w, u < N → w < N → R u = true → R w = true → kd' u = kd' w → kd u = kd w := fun u w hu hw ru rw_ e => h.1.2 _ (h'.bsm.congr (fun p hp u hu w hw => (hc p hp u hu w hw).symm) (fun w hw => (hf w hw).symm) (fun w hw => (hR w hw).symm)) u w ⟨hu, hw, by rw [← hR u hu]; exact ru, by rw [← hR w hw]; exact rw_, e⟩
  intro w hw rw_
  obtain ⟨b1, b2, b3, b4⟩ := h.1.1 w hw rw_
  obtain ⟨d1, d2, d3, d4⟩ := h'.1.1 w hw (by rw [← hR w hw]; exact rw_)
  have e1 := a1 (kd w) w (by omega) hw b1 rw_ b3
  have e2 := a2 (kd' w) w (by omega) hw (by rw [hR _ (by omega)]; exact d1) rw_ d3
  obtain ⟨-, g2, -, -⟩ := h.1.1 (kd' w) (by omega) (by rw [hR _ (by omega)]; exact d1)
  obtain ⟨-, g4, -, -⟩ := h'.1.1 (kd w) (by omega) (by rw [← hR _ (by omega)]; exact b1)
  omega
/-- telling apart once more: by a likeness lk of worlds that no true likeness crosses -/
def kdS (R : Nat → Bool) (kd : Nat → Nat) (lk : Nat → Nat → Bool) (w : Nat) : Nat := lst (fun u => R u && (decide (kd u = kd w) && lk u w)) w 0
def LKE (N : Nat) (R : Nat → Bool) (lk : Nat → Nat → Bool) : Prop := (∀ w, w < N → R w = true → lk w w = true) ∧ (∀ u w, lk u w = true → lk w u = true) ∧ ∀ u v w, lk u v = true → lk v w = true → lk u w = true
section KDS
variable {N np : Nat} {c : Nat → Nat → Nat} {f : Nat → Int32} {R : Nat → Bool} {kd : Nat → Nat} {lk : Nat → Nat → Bool}
theorem kdS_q {w : Nat} (hl : LKE N R lk) (hw : w < N) (hr : R w = true) : (fun u => R u && (decide (kd u = kd w) && lk u w)) w = true := by
  show (R w && (decide (kd w = kd w) && lk w w)) = true
  rw [hr, decide_eq_true rfl, hl.1 w hw hr]; rfl
theorem kdS_of {w : Nat} (hl : LKE N R lk) (hw : w < N) (hr : R w = true) : R (kdS R kd lk w) = true ∧ kd (kdS R kd lk w) = kd w ∧ lk (kdS R kd lk w) w = true ∧ kdS R kd lk w ≤ w := by
  obtain ⟨h1, h2, -⟩ := lst_least (q := fun u => R u && (decide (kd u = kd w) && lk u w)) (w := w) (kdS_q (kd := kd) hl hw hr)
  have h1 : (R (kdS R kd lk w) && (decide (kd (kdS R kd lk w) = kd w) && lk (kdS R kd lk w) w)) = true := h1
  rw [Bool.and_eq_true, Bool.and_eq_true, decide_eq_true_eq] at h1
  exact ⟨h1.1, h1.2.1, h1.2.2, h2⟩
theorem kdS_eq {u w : Nat} (hl : LKE N R lk) (hu : u < N) (hw : w < N) (ru : R u = true) (rw_ : R w = true) : kdS R kd lk u = kdS R kd lk w ↔ kd u = kd w ∧ lk u w = true := by
  obtain ⟨a1, a2, a3, a4⟩ := kdS_of (kd := kd) hl hu ru
  obtain ⟨b1, b2, b3, b4⟩ := kdS_of (kd := kd) hl hw rw_
  constructor
  · intro e
    rw [← e] at b2 b3
    exact ⟨a2.symm.trans b2, hl.2.2 u _ w (hl.2.1 _ _ a3) b3⟩
  · rintro ⟨e1, e2⟩
    obtain ⟨-, -, d3⟩ := lst_least (q := fun u => R u && (decide (kd u = kd w) && lk u w)) (w := w) (kdS_q (kd := kd) hl hw rw_)
    refine lst_eq (q := fun v => R v && (decide (kd v = kd u) && lk v u)) (w := u) (kdS_q (kd := kd) hl hu ru) ?_ (fun j hj => ?_)
    · show (R (kdS R kd lk w) && (decide (kd (kdS R kd lk w) = kd u) && lk (kdS R kd lk w) u)) = true
      rw [b1, b2, e1, decide_eq_true rfl, hl.2.2 _ w u b3 (hl.2.1 _ _ e2)]; rfl
    · have h := d3 j hj
      have h : (R j && (decide (kd j = kd w) && lk j w)) = false := h
      show (R j && (decide (kd j = kd u) && lk j u)) = false
      rw [e1]
      cases x1 : R j with
      | false => rfl
      | true =>
        cases x2 : decide (kd j = kd w) with
        | false => rfl
        | true =>
          cases x3 : lk j u with
          | false => rfl
          | true =>
            rw [x1, x2, hl.2.2 j u w x3 e2] at h
            cases h
theorem kdS_KI (hl : LKE N R lk) (hk : KI N np c f R kd) (hE : ∀ E, BSM N np c f R E → (∀ u w, E u w → kd u = kd w) → ∀ u w, E u w → lk u w = true) : KI N np c f R (kdS R kd lk) := by
  refine ⟨fun w hw hr => ?_, fun E hB u w e => ?_⟩
  · obtain ⟨b1, b2, b3, b4⟩ := kdS_of (kd := kd) hl hw hr
    have hlt : kdS R kd lk w < N := by omega
    refine ⟨b1, b4, (kdS_eq hl hlt hw b1 hr).mpr ⟨b2, b3⟩, ?_⟩
    exact hk.facts hlt hw b1 hr b2
  · obtain ⟨hu, hw, ru, rw_, -⟩ := hB u w e
    exact (kdS_eq hl hu hw ru rw_).mpr ⟨hk.2 E hB u w e, hE E hB (hk.2 E hB) u w e⟩
/-- how many kinds -/
def reps (R : Nat → Bool) (kd : Nat → Nat) : Nat → Bool := fun w => R w && decide (kd w = w)
theorem kdS_grow (hl : LKE N R lk) (hk : KI N np c f R kd) {w : Nat} (hw : w < N) (hr : R w = true) (hne : ¬ kdS R kd lk w = kd w) : cntR (reps R kd) N < cntR (reps R (kdS R kd lk)) N := by
  obtain ⟨b1, b2, b3, b4⟩ := kdS_of (kd := kd) hl hw hr
  have hlt : kdS R kd lk w < N := by omega
  refine cntR_lt (j := kdS R kd lk w) (fun i hi h => ?_) hlt ?_ ?_
  · unfold reps at h ⊢
    rw [Bool.and_eq_true, decide_eq_true_eq] at h ⊢
    obtain ⟨d1, d2, d3, d4⟩ := kdS_of (kd := kd) hl hi h.1
    refine ⟨h.1, ?_⟩
    have := (hk.1 (kdS R kd lk i) (by omega) d1).2.1
    rw [d2, h.2] at this
    omega
  · unfold reps
    rw [b1, decide_eq_false (by rw [b2]; exact fun e => hne e.symm)]; rfl
  · unfold reps
    rw [b1, Bool.true_and, decide_eq_true_eq]
    exact (kdS_eq hl hlt hw b1 hr).mpr ⟨b2, b3⟩
end KDS
/-- the first kinds: by facts -/
def kd0 (R : Nat → Bool) (f : Nat → Int32) (w : Nat) : Nat := lst (fun v => R v && decide (f v = f w)) w 0
theorem kd0_KI {N np : Nat} {c : Nat → Nat → Nat} {f : Nat → Int32} {R : Nat → Bool} : KI N np c f R (kd0 R f) := by
  have q : ∀ w, R w = true → (fun v => R v && decide (f v = f w)) w = true := fun w hr => by show (R w && decide (f w = f w)) = true; rw [hr, decide_eq_true rfl]; rfl
  have key : ∀ u w, R u = true → R w = true → f u = f w → kd0 R f u = kd0 R f w := by
    intro u w ru rw_ e
    obtain ⟨d1, d2, d3⟩ := lst_least (q := fun v => R v && decide (f v = f w)) (w := w) (q w rw_)
    refine lst_eq (q := fun v => R v && decide (f v = f u)) (w := u) (q u ru) ?_ (fun j hj => ?_)
    · rw [e]; exact d1
    · rw [e]; exact d3 j hj
  refine ⟨fun w hw hr => ?_, fun E hB u w e => ?_⟩
  · obtain ⟨d1, d2, d3⟩ := lst_least (q := fun v => R v && decide (f v = f w)) (w := w) (q w hr)
    have d1 : (R (kd0 R f w) && decide (f (kd0 R f w) = f w)) = true := d1
    rw [Bool.and_eq_true, decide_eq_true_eq] at d1
    exact ⟨d1.1, d2, key _ _ d1.1 hr d1.2, d1.2⟩
  · obtain ⟨hu, hw, ru, rw_, fe, -⟩ := hB u w e
    exact key u w ru rw_ fe
/-- two worlds that a likeness joins have the same kinds in their cells, if it joins no two kinds -/
theorem BSM.lkp {N np : Nat} {c : Nat → Nat → Nat} {f : Nat → Int32} {R : Nat → Bool} {kd : Nat → Nat} {E : Nat → Nat → Prop} (hB : BSM N np c f R E) (hk : ∀ u w, E u w → kd u = kd w) {u w : Nat} (e : E u w) : LKp c R kd N np u w := by
  intro p hp k
  obtain ⟨hu, hw, ru, rw_, fe, h⟩ := hB u w e
  rw [Bool.eq_iff_iff, KS_iff, KS_iff]
  constructor
  · rintro ⟨u', a1, a2, a3, a4⟩
    obtain ⟨w', b1, b2, b3, b4⟩ := (h p hp).1 u' a1 a2 a3
    exact ⟨w', b1, b2, b3, by rw [← hk _ _ b4]; exact a4⟩
  · rintro ⟨w', a1, a2, a3, a4⟩
    obtain ⟨u', b1, b2, b3, b4⟩ := (h p hp).2 w' a1 a2 a3
    exact ⟨u', b1, b2, b3, by rw [hk _ _ b4]; exact a4⟩
