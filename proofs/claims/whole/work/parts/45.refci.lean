/-! ===== the reference: tell, cells ===== -/
theorem tbb_0 {p : Prop} [Decidable p] (h : p) (a b : Bool) : (decide p || (a == b)) = true := by rw [decide_eq_true h]; rfl
theorem tbb_t {p : Prop} [Decidable p] {a b c : Bool} (h1 : a = c) (h2 : b = c) : (decide p || (a == b)) = true := by subst h1; subst h2; simp
theorem tbb_f {p : Prop} [Decidable p] (h : ¬ p) {a b : Bool} (h1 : ¬ a = b) : (decide p || (a == b)) = false := by rw [decide_eq_false h]; simpa using h1
theorem nI_le0 : ∀ k, k < 3 → (nI k ≤ 0 ↔ k = 0) := by decide +kernel
/-- the least that q tells, from j on up to i; i if there is none -/
def Vt (q : Nat → Bool) (i j : Nat) : Nat := if j ≤ i then lst q (i - j) j else i
theorem Vt_s {q : Nat → Bool} {i j : Nat} (h : j ≤ i) : Vt q i j = if q j then j else Vt q i (j + 1) := by
  unfold Vt
  rw [if_pos h]
  by_cases e : j = i
  · subst e
    rw [Nat.sub_self, lst, if_neg (by omega)]
    split <;> rfl
  · rw [if_pos (by omega), show i - j = (i - (j + 1)) + 1 by omega, lst]
theorem Vt_le {q : Nat → Bool} {i j : Nat} : Vt q i j ≤ i := by
  unfold Vt
  split
  · have := (lst_spec q (i - j) j).2.1; omega
  · exact Nat.le_refl _
/-- whether two of the new worlds are one to p: hw is how near p stands -/
def tSm (ce : Nat → Int32) (co wa : Nat → Nat) (p hw i j : Nat) : Bool := decide (ce (64 * p + co j) = ce (64 * p + co i)) && (decide (hw = 0) || (decide (0 < wa j) == decide (0 < wa i))) && (decide (hw < 2) || decide (wa j = wa i))
section REFCI
variable {G : tkG} {n : Nat} {T : Nat → Nat × Nat} {I : Nat → Nat → Int32} {L : Nat → Nat → Int64} {P : Nat → Nat → Option Nat}
theorem r_tellCell (hR : tkRef T P) {N p hw i : Nat} {a b s a4 a7 : Int32} {x : Int64} {co wa : Nat → Nat} (hN : N ≤ 128) (hp : p < 4) (hh : hw ≤ 2) (hi : i < N) (hco : ∀ i, i < N → I 79 i = nI (co i) ∧ co i < 64) (hwa : ∀ i, i < N → I 80 i = nI (wa i) ∧ wa i ≤ 2) {Q : Option tkV → tkH → Prop} (fin : ∀ l, tkle [some (vR 40), some (vI a), some (vI b), some (vI s), some (vI a4), some (vL x), none, some (vI a7), some (vI (nI p)), some (vI (nI hw)), some (vI (nI i)), some (vI (nI (Vt (tSm (I 65) co wa p hw i) i 0))), none, none] l → tkX G mX11_tell 36 0 0 452 l [] (n, T, I, L, P) Q) : ∀ j, j ≤ i + 1 → tkX G mX11_tell 36 0 0 300 [some (vR 40), some (vI a), some (vI b), some (vI s), some (vI a4), some (vL x), none, some (vI a7), some (vI (nI p)), some (vI (nI hw)), some (vI (nI i)), some (vI (nI (Vt (tSm (I 65) co wa p hw i) i j))), some (vI (ixm j)), none] [] (n, T, I, L, P) Q := by
  intro j
  induction j with
  | zero =>
    intro _
    refine tk_iload12 dX11_tell_300 ?_
    refine tk_jf_lt dX11_tell_302 (fun h20 => ?_) (fun h20 => absurd ixm_0 (Int32.not_lt.mpr h20))
    exact fin _ (by repeat' (first | exact trivial | refine ⟨Or.inl rfl, ?_⟩ | refine ⟨Or.inr rfl, ?_⟩))
  | succ j ih =>
    intro hj
    have ih := ih (by omega)
    rw [ixm_s]
    obtain ⟨c1, c2⟩ := hco j (by omega)
    obtain ⟨c3, c4⟩ := hco i hi
    obtain ⟨w1, w3⟩ := hwa j (by omega)
    obtain ⟨w2, w4⟩ := hwa i hi
    have hvl := Vt_le (q := tSm (I 65) co wa p hw i) (i := i) (j := j + 1)
    have k444 : ∀ v, v = Vt (tSm (I 65) co wa p hw i) i j → tkX G mX11_tell 36 0 0 444 [some (vR 40), some (vI a), some (vI b), some (vI s), some (vI a4), some (vL x), none, some (vI a7), some (vI (nI p)), some (vI (nI hw)), some (vI (nI i)), none, some (vI (nI j)), none] [vI (nI v)] (n, T, I, L, P) Q := by
      intro v hv
      subst hv
      refine tk_istore11 dX11_tell_444 rfl ?_
      refine tk_iinc12 dX11_tell_446 (v := ixm j) (ixm_dec' j) rfl ?_
      refine tk_goto dX11_tell_449 ?_
      exact tk_wk (by repeat' (first | exact trivial | refine ⟨Or.inl rfl, ?_⟩ | refine ⟨Or.inr rfl, ?_⟩)) ih
    have k429 : ∀ b1 b2 : Bool, (b1 && b2) = tSm (I 65) co wa p hw i j → tkX G mX11_tell 36 0 0 429 [some (vR 40), some (vI a), some (vI b), some (vI s), some (vI a4), some (vL x), none, some (vI a7), some (vI (nI p)), some (vI (nI hw)), some (vI (nI i)), some (vI (nI (Vt (tSm (I 65) co wa p hw i) i (j + 1)))), some (vI (nI j)), none] [vI (tkb b2), vI (tkb b1)] (n, T, I, L, P) Q := by
      intro b1 b2 hb
      have hv := Vt_s (q := tSm (I 65) co wa p hw i) (i := i) (j := j) (by omega)
      rw [← hb] at hv
      refine tk_iand dX11_tell_429 ?_
      rw [tkb_and]
      refine tk_istore13 dX11_tell_430 rfl ?_
      refine tk_iload13 dX11_tell_432 ?_
      first | refine tk_jf_eqB dX11_tell_434 (fun h434 => ?_) (fun h434 => ?_) | refine tk_if_eq dX11_tell_434 (fun h434 => ?_) (fun h434 => ?_)
      · refine tk_iload11 dX11_tell_442 ?_
        first | exact tk_wk (by repeat' (first | exact trivial | refine ⟨Or.inl rfl, ?_⟩ | refine ⟨Or.inr rfl, ?_⟩)) (k444 _ (hv.trans (if_pos h434)).symm) | exact tk_wk (by repeat' (first | exact trivial | refine ⟨Or.inl rfl, ?_⟩ | refine ⟨Or.inr rfl, ?_⟩)) (k444 _ (hv.trans (if_neg (fun e => Bool.noConfusion (h434.symm.trans e)))).symm)
      · refine tk_iload12 dX11_tell_437 ?_
        refine tk_goto dX11_tell_439 ?_
        first | exact tk_wk (by repeat' (first | exact trivial | refine ⟨Or.inl rfl, ?_⟩ | refine ⟨Or.inr rfl, ?_⟩)) (k444 _ (hv.trans (if_pos h434)).symm) | exact tk_wk (by repeat' (first | exact trivial | refine ⟨Or.inl rfl, ?_⟩ | refine ⟨Or.inr rfl, ?_⟩)) (k444 _ (hv.trans (if_neg (fun e => Bool.noConfusion (h434.symm.trans e)))).symm)
    sorry
end REFCI
