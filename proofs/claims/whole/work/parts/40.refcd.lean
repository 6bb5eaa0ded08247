/-! ===== what make and cut leave ===== -/
theorem cnt_surj {M : Int64} {W i : Nat} (h : i < cnt M W) : ∃ w, w < W ∧ tb M w = true ∧ cnt M w = i := by
  induction W with
  | zero => exact absurd h (Nat.not_lt_zero _)
  | succ W ih =>
    rw [cnt] at h
    by_cases e : i < cnt M W
    · obtain ⟨w, h1, h2, h3⟩ := ih e
      exact ⟨w, by omega, h2, h3⟩
    · cases e2 : tb M W with
      | false => rw [e2] at h; simp at h; omega
      | true => rw [e2] at h; simp at h; exact ⟨W, by omega, e2, by omega⟩
theorem cnt_inj {M : Int64} {u w : Nat} (hu : tb M u = true) (hw : tb M w = true) (e : cnt M u = cnt M w) : u = w := by
  rcases Nat.lt_trichotomy u w with h | h | h
  · have := cnt_lt_of h hu; omega
  · exact h
  · have := cnt_lt_of h hw; omega
theorem cntR_inj {R : Nat → Bool} {u w : Nat} (hu : R u = true) (hw : R w = true) (e : cntR R u = cntR R w) : u = w := by
  rcases Nat.lt_trichotomy u w with h | h | h
  · have := cntR_lt_of h hu; omega
  · exact h
  · have := cntR_lt_of h hw; omega
theorem cntR_surj {R : Nat → Bool} {W i : Nat} (h : i < cntR R W) : ∃ w, w < W ∧ R w = true ∧ cntR R w = i := by
  induction W with
  | zero => exact absurd h (Nat.not_lt_zero _)
  | succ W ih =>
    rw [cntR] at h
    by_cases e : i < cntR R W
    · obtain ⟨w, h1, h2, h3⟩ := ih e
      exact ⟨w, by omega, h2, h3⟩
    · cases e2 : R W with
      | false => rw [e2] at h; simp at h; omega
      | true => rw [e2] at h; simp at h; exact ⟨W, by omega, e2, by omega⟩
theorem rMf_at {M : Int64} {f g : Nat → Int32} {W w : Nat} (hw : w < W) (h : tb M w = true) : rMf M f g W (cnt M w) = f w := by
  induction W with
  | zero => omega
  | succ W ih =>
    rw [rMf]
    by_cases e : w = W
    · subst e; rw [if_pos h]; exact if_pos rfl
    · have i2 := ih (by omega)
      split
      · have := cnt_lt_of (show w < W by omega) h
        rw [va_up_ne _ _ (by omega)]; exact i2
      · exact i2
theorem rMr_at {M : Int64} {r : Nat} {x : Int32} {W : Nat} (hr : r < W) (h : tb M r = true) : rMr M r x W = nI (cnt M r) := by
  induction W with
  | zero => omega
  | succ W ih =>
    rw [rMr]
    by_cases e : r = W
    · subst e; rw [if_pos (by rw [h, decide_eq_true rfl]; rfl)]
    · rw [if_neg (by rw [decide_eq_false (fun q => e q.symm), Bool.and_false]; decide)]
      exact ih (by omega)
theorem rMw_at {M : Int64} {x : Nat → Nat} {p : Nat} {g : Nat → Int32} {W w : Nat} (hw : w < W) (h : tb M w = true) : rMw M x p g W (128 * p + cnt M w) = nI (cnt M (x w)) := by
  induction W with
  | zero => omega
  | succ W ih =>
    rw [rMw]
    by_cases e : w = W
    · subst e; rw [if_pos h]; exact if_pos rfl
    · have i2 := ih (by omega)
      split
      · have := cnt_lt_of (show w < W by omega) h
        rw [va_up_ne _ _ (by omega)]; exact i2
      · exact i2
theorem rMw_off {M : Int64} {x : Nat → Nat} {p q j : Nat} {g : Nat → Int32} {W : Nat} (hW : W ≤ 64) (hj : j < 128) (hq : ¬ q = p) : rMw M x p g W (128 * q + j) = g (128 * q + j) := by
  induction W with
  | zero => rfl
  | succ W ih =>
    rw [rMw]
    have := cnt_le M W
    split
    · rw [va_up_ne _ _ (by omega)]; exact ih (by omega)
    · exact ih (by omega)
theorem rMp_at {M : Int64} {x : Nat → Nat → Nat} {W : Nat} {g : Nat → Int32} {np p w : Nat} (hW : W ≤ 64) (hp : p < np) (hw : w < W) (h : tb M w = true) : rMp M x W g np (128 * p + cnt M w) = nI (cnt M (x p w)) := by
  have hc := cnt_le M w
  induction np with
  | zero => omega
  | succ k ih =>
    rw [rMp]
    by_cases e : p = k
    · subst e; exact rMw_at hw h
    · rw [rMw_off hW (by omega) e]; exact ih (by omega)
theorem rCf_at {g : Nat → Int32} {rp : Nat → Bool} {f : Nat → Int32} {N w : Nat} (hw : w < N) (h : rp w = true) : rCf g (cntR rp) rp f N (cntR rp w) = f w := by
  induction N with
  | zero => omega
  | succ N ih =>
    rw [rCf]
    by_cases e : w = N
    · subst e; rw [if_pos h]; exact if_pos rfl
    · have i2 := ih (by omega)
      split
      · have := cntR_lt_of (show w < N by omega) h
        rw [va_up_ne _ _ (by omega)]; exact i2
      · exact i2
theorem rCz_at {g : Nat → Int32} {u x : Nat → Nat} {w np p : Nat} (hp : p < np) (hu : u w < 64) : rCz g u x w np (64 * p + u w) = nI (u (x p)) := by
  induction np with
  | zero => omega
  | succ k ih =>
    rw [rCz]
    by_cases e : p = k
    · subst e; exact if_pos rfl
    · rw [va_up_ne _ _ (by omega)]; exact ih (by omega)
theorem rCz_off {g : Nat → Int32} {u x : Nat → Nat} {w np p j : Nat} (hu : u w < 64) (hj : j < 64) (hne : ¬ j = u w) : rCz g u x w np (64 * p + j) = g (64 * p + j) := by
  induction np with
  | zero => rfl
  | succ k ih =>
    rw [rCz, va_up_ne _ _ (by omega)]; exact ih
theorem rCc_at {g : Nat → Int32} {rp : Nat → Bool} {x : Nat → Nat → Nat} {np N w p : Nat} (hp : p < np) (hN : cntR rp N ≤ 64) (hw : w < N) (h : rp w = true) : rCc g (cntR rp) rp x np N (64 * p + cntR rp w) = nI (cntR rp (x p w)) := by
  induction N with
  | zero => omega
  | succ N ih =>
    have hle : cntR rp N ≤ cntR rp (N + 1) := by rw [cntR]; omega
    have hlt := cntR_lt_of hw h
    rw [rCc]
    by_cases e : w = N
    · subst e; rw [if_pos h]; exact rCz_at hp (by omega)
    · have i2 := ih (by omega) (by omega)
      split
      · rename_i hr
        have l1 := cntR_lt_of (show w < N by omega) h
        have l2 := cntR_lt_of (show N < N + 1 by omega) hr
        rw [rCz_off (by omega) (by omega) (by omega)]; exact i2
      · exact i2
/-- worlds, newly numbered: those to be come to, one of a kind -/
def LAID (N r0 np : Nat) (cc : Nat → Nat → Nat) (ff : Nat → Int32) (W r : Nat) (f c : Nat → Int32) : Prop := ∃ (R : Nat → Bool) (kd : Nat → Nat), RCH N r0 np cc R ∧ KND N np cc ff R kd ∧ W = cntR (reps R kd) N ∧ W ≤ 64 ∧ r = cntR (reps R kd) (kd r0) ∧ (∀ w, w < N → reps R kd w = true → f (cntR (reps R kd) w) = ff w) ∧ ∀ p, p < np → ∀ w, w < N → reps R kd w = true → c (64 * p + cntR (reps R kd) w) = nI (cntR (reps R kd) (mnK cc R kd N p w))
/-- the worlds of M, the cells of a cut by S -/
def MADE (np W : Nat) (vf : Nat → Int32) (B : Nat → Int64) (M : Int64) (a : Int32) (S : Int64) (cc : Nat → Nat → Nat) (ff : Nat → Int32) : Prop := ∀ w, w < W → tb M w = true → ff (cnt M w) = vf w ∧ ∀ p, p < np → cc p (cnt M w) = cnt M (mFs B M a S p w)
