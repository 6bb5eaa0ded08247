/-! ===== the reference: tell, cells ===== -/
theorem tbb_0 {p : Prop} [Decidable p] (h : p) (a b : Bool) : (decide p || (a == b)) = true := by rw [decide_eq_true h]; rfl
theorem tbb_t {p : Prop} [Decidable p] {a b c : Bool} (h1 : a = c) (h2 : b = c) : (decide p || (a == b)) = true := by subst h1; subst h2; simp
theorem tbb_f {p : Prop} [Decidable p] (h : ¬ p) {a b : Bool} (h1 : ¬ a = b) : (decide p || (a == b)) = false := by rw [decide_eq_false h]; simpa using h1
theorem nI_p3 : ∀ k, k < 3 → (0 < nI k ↔ 0 < k) := by decide +kernel
theorem nI_z3 : ∀ k, k < 3 → (nI k = 0 ↔ k = 0) := by decide +kernel
theorem nI_le0 : ∀ k, k < 3 → (nI k ≤ 0 ↔ k = 0) := by decide +kernel
/-- the least that q tells, from j on up to i; i if there is none -/
def Vt (q : Nat → Bool) (i j : Nat) : Nat := if j ≤ i then lst q (i - j) j else i
theorem Vt_s {q : Nat → Bool} {i j : Nat} (h : j ≤ i) : Vt q i j = if q j then j else Vt q i (j + 1) := by
  unfold Vt
  rw [if_pos h]
  by_cases e : j = i
  · subst e
    rw [Nat.sub_self, lst, if_neg (show ¬ j + 1 ≤ j by omega)]
    split <;> rfl
  · rw [if_pos (show j + 1 ≤ i by omega), show i - j = (i - (j + 1)) + 1 by omega, lst]
theorem Vt_le {q : Nat → Bool} {i j : Nat} : Vt q i j ≤ i := by
  unfold Vt
  split
  · have := (lst_spec q (i - j) j).2.1; omega
  · exact Nat.le_refl _
/-- whether two of the new worlds are one to p: hw is how near p stands -/
def tSm (ce : Nat → Int32) (co wa : Nat → Nat) (p hw i j : Nat) : Bool := decide (ce (64 * p + co j) = ce (64 * p + co i)) && (decide (hw = 0) || (decide (0 < wa j) == decide (0 < wa i))) && (decide (hw < 2) || decide (wa j = wa i))
section REFCI
variable {G : tkG} {n : Nat} {T : Nat → Nat × Nat} {I : Nat → Nat → Int32} {L : Nat → Nat → Int64} {P : Nat → Nat → Option Nat}
theorem r_tellCell (hR : tkRef T P) {N p hw i : Nat} {a b s a4 a7 : Int32} {x : Int64} {co wa : Nat → Nat} (hN : N ≤ 128) (hp : p < 4) (hh : hw ≤ 2) (hi : i < N) (hco : ∀ i, i < N → I 79 i = nI (co i) ∧ co i < 64) (hwa : ∀ i, i < N → I 80 i = nI (wa i) ∧ wa i ≤ 2) {Q : Option tkV → tkH → Prop} (fin : ∀ l, tkle [some (vR 40), some (vI a), some (vI b), some (vI s), some (vI a4), some (vL x), none, some (vI a7), some (vI (nI p)), some (vI (nI hw)), some (vI (nI i)), some (vI (nI (Vt (tSm (I 65) co wa p hw i) i 0))), none, none] l → tkX G mX11_tell 36 0 0 452 l [] (n, T, I, L, P) Q) : ∀ j, j ≤ i + 1 → tkX G mX11_tell 36 0 0 300 [some (vR 40), some (vI a), some (vI b), some (vI s), some (vI a4), some (vL x), none, some (vI a7), some (vI (nI p)), some (vI (nI hw)), some (vI (nI i)), some (vI (nI (Vt (tSm (I 65) co wa p hw i) i j))), some (vI (ixm j)), none] [] (n, T, I, L, P) Q := by
  intro j
  induction j with
  | zero =>
    intro _
    refine tk_iload12 dX11_tell_300 ?_
    refine tk_jf_lt dX11_tell_302 (fun h20 => ?_) (fun h20 => absurd ixm_0 (Int32.not_lt.mpr h20))
    exact fin _ (by repeat' (first | exact trivial | refine ⟨Or.inl rfl, ?_⟩ | refine ⟨Or.inr rfl, ?_⟩))
  | succ j ih =>
    intro hj
    have ih := ih (by omega)
    rw [ixm_s]
    obtain ⟨c1, c2⟩ := hco j (by omega)
    obtain ⟨c3, c4⟩ := hco i hi
    obtain ⟨w1, w3⟩ := hwa j (by omega)
    obtain ⟨w2, w4⟩ := hwa i hi
    have hvl := Vt_le (q := tSm (I 65) co wa p hw i) (i := i) (j := j + 1)
    have k444 : ∀ v, v = Vt (tSm (I 65) co wa p hw i) i j → tkX G mX11_tell 36 0 0 444 [some (vR 40), some (vI a), some (vI b), some (vI s), some (vI a4), some (vL x), none, some (vI a7), some (vI (nI p)), some (vI (nI hw)), some (vI (nI i)), none, some (vI (nI j)), none] [vI (nI v)] (n, T, I, L, P) Q := by
      intro v hv
      subst hv
      refine tk_istore11 dX11_tell_444 rfl ?_
      refine tk_iinc12 dX11_tell_446 (v := ixm j) (ixm_dec' j) rfl ?_
      refine tk_goto dX11_tell_449 ?_
      exact tk_wk (by repeat' (first | exact trivial | refine ⟨Or.inl rfl, ?_⟩ | refine ⟨Or.inr rfl, ?_⟩)) ih
    have k429 : ∀ b1 b2 : Bool, (b1 && b2) = tSm (I 65) co wa p hw i j → tkX G mX11_tell 36 0 0 429 [some (vR 40), some (vI a), some (vI b), some (vI s), some (vI a4), some (vL x), none, some (vI a7), some (vI (nI p)), some (vI (nI hw)), some (vI (nI i)), some (vI (nI (Vt (tSm (I 65) co wa p hw i) i (j + 1)))), some (vI (nI j)), none] [vI (tkb b2), vI (tkb b1)] (n, T, I, L, P) Q := by
      intro b1 b2 hb
      have hv := Vt_s (q := tSm (I 65) co wa p hw i) (i := i) (j := j) (by omega)
      rw [← hb] at hv
      refine tk_iand dX11_tell_429 ?_
      rw [tkb_and]
      refine tk_istore13 dX11_tell_430 rfl ?_
      refine tk_iload13 dX11_tell_432 ?_
      first | refine tk_jf_eqB dX11_tell_434 (fun h434 => ?_) (fun h434 => ?_) | refine tk_if_eq dX11_tell_434 (fun h434 => ?_) (fun h434 => ?_)
      · refine tk_iload11 dX11_tell_442 ?_
        first | exact tk_wk (by repeat' (first | exact trivial | refine ⟨Or.inl rfl, ?_⟩ | refine ⟨Or.inr rfl, ?_⟩)) (k444 _ (hv.trans (if_pos h434)).symm) | exact tk_wk (by repeat' (first | exact trivial | refine ⟨Or.inl rfl, ?_⟩ | refine ⟨Or.inr rfl, ?_⟩)) (k444 _ (hv.trans (if_neg (fun e => Bool.noConfusion (h434.symm.trans e)))).symm)
      · refine tk_iload12 dX11_tell_437 ?_
        refine tk_goto dX11_tell_439 ?_
        first | exact tk_wk (by repeat' (first | exact trivial | refine ⟨Or.inl rfl, ?_⟩ | refine ⟨Or.inr rfl, ?_⟩)) (k444 _ (hv.trans (if_pos h434)).symm) | exact tk_wk (by repeat' (first | exact trivial | refine ⟨Or.inl rfl, ?_⟩ | refine ⟨Or.inr rfl, ?_⟩)) (k444 _ (hv.trans (if_neg (fun e => Bool.noConfusion (h434.symm.trans e)))).symm)
    have k396 : ∀ b0 b1 : Bool, (∀ b2, b2 = (decide (hw < 2) || decide (wa j = wa i)) → (b0 && b1 && b2) = tSm (I 65) co wa p hw i j) → tkX G mX11_tell 36 0 0 396 [some (vR 40), some (vI a), some (vI b), some (vI s), some (vI a4), some (vL x), none, some (vI a7), some (vI (nI p)), some (vI (nI hw)), some (vI (nI i)), some (vI (nI (Vt (tSm (I 65) co wa p hw i) i (j + 1)))), some (vI (nI j)), none] [vI (tkb b1), vI (tkb b0)] (n, T, I, L, P) Q := by
      intro b0 b1 hb
      refine tk_iand dX11_tell_396 ?_
      rw [tkb_and]
      refine tk_istore13 dX11_tell_397 rfl ?_
      refine tk_iload13 dX11_tell_399 ?_
      refine tk_iload9 dX11_tell_401 ?_
      refine tk_iconst dX11_tell_403 kc_iconst_2 ?_
      first | refine tk_icmp_ltN dX11_tell_404 (by omega) (by omega) (fun h404 => ?_) (fun h404 => ?_) | refine tk_jcmp_lt dX11_tell_404 (fun h404 => ?_) (fun h404 => ?_)
      · refine tk_iconst dX11_tell_424 kc_iconst_1 ?_
        refine tk_goto dX11_tell_425 ?_
        first | exact tk_wk (by repeat' (first | exact trivial | refine ⟨Or.inl rfl, ?_⟩ | refine ⟨Or.inr rfl, ?_⟩)) (k429 (b0 && b1) true (hb true (by rw [decide_eq_true h404]; rfl))) | exact tk_wk (by repeat' (first | exact trivial | refine ⟨Or.inl rfl, ?_⟩ | refine ⟨Or.inr rfl, ?_⟩)) (k429 (b0 && b1) true (hb true (by rw [decide_eq_true h421, Bool.or_true]))) | exact tk_wk (by repeat' (first | exact trivial | refine ⟨Or.inl rfl, ?_⟩ | refine ⟨Or.inr rfl, ?_⟩)) (k429 (b0 && b1) false (hb false (by rw [decide_eq_false (by omega), decide_eq_false h421]; rfl)))
      · refine tk_aload0 dX11_tell_407 ?_
        refine tk_getP dX11_tell_408 fX11_130 rfl hR.o (hR.p 47 rfl) ?_
        refine tk_iload12 dX11_tell_411 ?_
        refine tk_iald dX11_tell_413 (hR.t 80 rfl) (by omega) (by omega) ?_
        rw [w1]
        refine tk_aload0 dX11_tell_414 ?_
        refine tk_getP dX11_tell_415 fX11_130 rfl hR.o (hR.p 47 rfl) ?_
        refine tk_iload10 dX11_tell_418 ?_
        refine tk_iald dX11_tell_420 (hR.t 80 rfl) (by omega) (by omega) ?_
        rw [w2]
        first | refine tk_icmp_neN dX11_tell_421 (by omega) (by omega) (fun h421 => ?_) (fun h421 => ?_) | refine tk_icmp_ne dX11_tell_421 (fun h421 => ?_) (fun h421 => ?_)
        · refine tk_iconst dX11_tell_428 kc_iconst_0 ?_
          first | exact tk_wk (by repeat' (first | exact trivial | refine ⟨Or.inl rfl, ?_⟩ | refine ⟨Or.inr rfl, ?_⟩)) (k429 (b0 && b1) true (hb true (by rw [decide_eq_true h404]; rfl))) | exact tk_wk (by repeat' (first | exact trivial | refine ⟨Or.inl rfl, ?_⟩ | refine ⟨Or.inr rfl, ?_⟩)) (k429 (b0 && b1) true (hb true (by rw [decide_eq_true h421, Bool.or_true]))) | exact tk_wk (by repeat' (first | exact trivial | refine ⟨Or.inl rfl, ?_⟩ | refine ⟨Or.inr rfl, ?_⟩)) (k429 (b0 && b1) false (hb false (by rw [decide_eq_false (by omega), decide_eq_false h421]; rfl)))
        · refine tk_iconst dX11_tell_424 kc_iconst_1 ?_
          refine tk_goto dX11_tell_425 ?_
          first | exact tk_wk (by repeat' (first | exact trivial | refine ⟨Or.inl rfl, ?_⟩ | refine ⟨Or.inr rfl, ?_⟩)) (k429 (b0 && b1) true (hb true (by rw [decide_eq_true h404]; rfl))) | exact tk_wk (by repeat' (first | exact trivial | refine ⟨Or.inl rfl, ?_⟩ | refine ⟨Or.inr rfl, ?_⟩)) (k429 (b0 && b1) true (hb true (by rw [decide_eq_true h421, Bool.or_true]))) | exact tk_wk (by repeat' (first | exact trivial | refine ⟨Or.inl rfl, ?_⟩ | refine ⟨Or.inr rfl, ?_⟩)) (k429 (b0 && b1) false (hb false (by rw [decide_eq_false (by omega), decide_eq_false h421]; rfl)))
    have k349 : ∀ b0 : Bool, b0 = decide (I 65 (64 * p + co j) = I 65 (64 * p + co i)) → tkX G mX11_tell 36 0 0 349 [some (vR 40), some (vI a), some (vI b), some (vI s), some (vI a4), some (vL x), none, some (vI a7), some (vI (nI p)), some (vI (nI hw)), some (vI (nI i)), some (vI (nI (Vt (tSm (I 65) co wa p hw i) i (j + 1)))), some (vI (nI j)), none] [vI (tkb b0)] (n, T, I, L, P) Q := by
      intro b0 hb0
      have z0 := nI_z3 hw (by omega)
      have p1 := nI_p3 (wa j) (by omega)
      have p2 := nI_p3 (wa i) (by omega)
      have l1 := nI_le0 (wa j) (by omega)
      have l2 := nI_le0 (wa i) (by omega)
      have mid : ∀ b1, (decide (hw = 0) || (decide (0 < wa j) == decide (0 < wa i))) = b1 → ∀ b2, b2 = (decide (hw < 2) || decide (wa j = wa i)) → (b0 && b1 && b2) = tSm (I 65) co wa p hw i j := fun b1 e1 b2 e2 => by unfold tSm; rw [e1, ← e2, ← hb0]
      refine tk_istore13 dX11_tell_349 rfl ?_
      refine tk_iload13 dX11_tell_351 ?_
      refine tk_iload9 dX11_tell_353 ?_
      first | refine tk_jf_eqB dX11_tell_355 (fun h355 => ?_) (fun h355 => ?_) | refine tk_if_eq dX11_tell_355 (fun h355 => ?_) (fun h355 => ?_)
      · refine tk_iconst dX11_tell_391 kc_iconst_1 ?_
        refine tk_goto dX11_tell_392 ?_
        first | exact tk_wk (by repeat' (first | exact trivial | refine ⟨Or.inl rfl, ?_⟩ | refine ⟨Or.inr rfl, ?_⟩)) (k396 b0 true (mid true (tbb_0 (z0.mp h355) _ _))) | exact tk_wk (by repeat' (first | exact trivial | refine ⟨Or.inl rfl, ?_⟩ | refine ⟨Or.inr rfl, ?_⟩)) (k396 b0 true (mid true (tbb_t (c := true) (decide_eq_true (p1.mp h365)) (decide_eq_true (p2.mp h380))))) | exact tk_wk (by repeat' (first | exact trivial | refine ⟨Or.inl rfl, ?_⟩ | refine ⟨Or.inr rfl, ?_⟩)) (k396 b0 true (mid true (tbb_t (c := false) (decide_eq_false (by have := l1.mp h365; omega)) (decide_eq_false (by have := l2.mp h380; omega))))) | exact tk_wk (by repeat' (first | exact trivial | refine ⟨Or.inl rfl, ?_⟩ | refine ⟨Or.inr rfl, ?_⟩)) (k396 b0 false (mid false (tbb_f (fun e => h355 (z0.mpr e)) (by rw [decide_eq_true (p1.mp h365), decide_eq_false (by have := l2.mp h380; omega)]; decide)))) | exact tk_wk (by repeat' (first | exact trivial | refine ⟨Or.inl rfl, ?_⟩ | refine ⟨Or.inr rfl, ?_⟩)) (k396 b0 false (mid false (tbb_f (fun e => h355 (z0.mpr e)) (by rw [decide_eq_false (by have := l1.mp h365; omega), decide_eq_true (p2.mp h380)]; decide)))) | (exfalso; omega)
      · refine tk_aload0 dX11_tell_358 ?_
        refine tk_getP dX11_tell_359 fX11_130 rfl hR.o (hR.p 47 rfl) ?_
        refine tk_iload12 dX11_tell_362 ?_
        refine tk_iald dX11_tell_364 (hR.t 80 rfl) (by omega) (by omega) ?_
        rw [w1]
        refine tk_jf_le dX11_tell_365 (fun h365 => ?_) (fun h365 => ?_)
        · refine tk_iconst dX11_tell_372 kc_iconst_0 ?_
          refine tk_aload0 dX11_tell_373 ?_
          refine tk_getP dX11_tell_374 fX11_130 rfl hR.o (hR.p 47 rfl) ?_
          refine tk_iload10 dX11_tell_377 ?_
          refine tk_iald dX11_tell_379 (hR.t 80 rfl) (by omega) (by omega) ?_
          rw [w2]
          refine tk_jf_le dX11_tell_380 (fun h380 => ?_) (fun h380 => ?_)
          · refine tk_iconst dX11_tell_387 kc_iconst_0 ?_
            first | refine tk_icmp_neN dX11_tell_388 (by omega) (by omega) (fun h388 => ?_) (fun h388 => ?_) | refine tk_icmp_ne dX11_tell_388 (fun h388 => ?_) (fun h388 => ?_)
            · refine tk_iconst dX11_tell_395 kc_iconst_0 ?_
              first | exact tk_wk (by repeat' (first | exact trivial | refine ⟨Or.inl rfl, ?_⟩ | refine ⟨Or.inr rfl, ?_⟩)) (k396 b0 true (mid true (tbb_0 (z0.mp h355) _ _))) | exact tk_wk (by repeat' (first | exact trivial | refine ⟨Or.inl rfl, ?_⟩ | refine ⟨Or.inr rfl, ?_⟩)) (k396 b0 true (mid true (tbb_t (c := true) (decide_eq_true (p1.mp h365)) (decide_eq_true (p2.mp h380))))) | exact tk_wk (by repeat' (first | exact trivial | refine ⟨Or.inl rfl, ?_⟩ | refine ⟨Or.inr rfl, ?_⟩)) (k396 b0 true (mid true (tbb_t (c := false) (decide_eq_false (by have := l1.mp h365; omega)) (decide_eq_false (by have := l2.mp h380; omega))))) | exact tk_wk (by repeat' (first | exact trivial | refine ⟨Or.inl rfl, ?_⟩ | refine ⟨Or.inr rfl, ?_⟩)) (k396 b0 false (mid false (tbb_f (fun e => h355 (z0.mpr e)) (by rw [decide_eq_true (p1.mp h365), decide_eq_false (by have := l2.mp h380; omega)]; decide)))) | exact tk_wk (by repeat' (first | exact trivial | refine ⟨Or.inl rfl, ?_⟩ | refine ⟨Or.inr rfl, ?_⟩)) (k396 b0 false (mid false (tbb_f (fun e => h355 (z0.mpr e)) (by rw [decide_eq_false (by have := l1.mp h365; omega), decide_eq_true (p2.mp h380)]; decide)))) | (exfalso; omega)
            · refine tk_iconst dX11_tell_391 kc_iconst_1 ?_
              refine tk_goto dX11_tell_392 ?_
              first | exact tk_wk (by repeat' (first | exact trivial | refine ⟨Or.inl rfl, ?_⟩ | refine ⟨Or.inr rfl, ?_⟩)) (k396 b0 true (mid true (tbb_0 (z0.mp h355) _ _))) | exact tk_wk (by repeat' (first | exact trivial | refine ⟨Or.inl rfl, ?_⟩ | refine ⟨Or.inr rfl, ?_⟩)) (k396 b0 true (mid true (tbb_t (c := true) (decide_eq_true (p1.mp h365)) (decide_eq_true (p2.mp h380))))) | exact tk_wk (by repeat' (first | exact trivial | refine ⟨Or.inl rfl, ?_⟩ | refine ⟨Or.inr rfl, ?_⟩)) (k396 b0 true (mid true (tbb_t (c := false) (decide_eq_false (by have := l1.mp h365; omega)) (decide_eq_false (by have := l2.mp h380; omega))))) | exact tk_wk (by repeat' (first | exact trivial | refine ⟨Or.inl rfl, ?_⟩ | refine ⟨Or.inr rfl, ?_⟩)) (k396 b0 false (mid false (tbb_f (fun e => h355 (z0.mpr e)) (by rw [decide_eq_true (p1.mp h365), decide_eq_false (by have := l2.mp h380; omega)]; decide)))) | exact tk_wk (by repeat' (first | exact trivial | refine ⟨Or.inl rfl, ?_⟩ | refine ⟨Or.inr rfl, ?_⟩)) (k396 b0 false (mid false (tbb_f (fun e => h355 (z0.mpr e)) (by rw [decide_eq_false (by have := l1.mp h365; omega), decide_eq_true (p2.mp h380)]; decide)))) | (exfalso; omega)
          · refine tk_iconst dX11_tell_383 kc_iconst_1 ?_
            refine tk_goto dX11_tell_384 ?_
            first | refine tk_icmp_neN dX11_tell_388 (by omega) (by omega) (fun h388 => ?_) (fun h388 => ?_) | refine tk_icmp_ne dX11_tell_388 (fun h388 => ?_) (fun h388 => ?_)
            · refine tk_iconst dX11_tell_395 kc_iconst_0 ?_
              first | exact tk_wk (by repeat' (first | exact trivial | refine ⟨Or.inl rfl, ?_⟩ | refine ⟨Or.inr rfl, ?_⟩)) (k396 b0 true (mid true (tbb_0 (z0.mp h355) _ _))) | exact tk_wk (by repeat' (first | exact trivial | refine ⟨Or.inl rfl, ?_⟩ | refine ⟨Or.inr rfl, ?_⟩)) (k396 b0 true (mid true (tbb_t (c := true) (decide_eq_true (p1.mp h365)) (decide_eq_true (p2.mp h380))))) | exact tk_wk (by repeat' (first | exact trivial | refine ⟨Or.inl rfl, ?_⟩ | refine ⟨Or.inr rfl, ?_⟩)) (k396 b0 true (mid true (tbb_t (c := false) (decide_eq_false (by have := l1.mp h365; omega)) (decide_eq_false (by have := l2.mp h380; omega))))) | exact tk_wk (by repeat' (first | exact trivial | refine ⟨Or.inl rfl, ?_⟩ | refine ⟨Or.inr rfl, ?_⟩)) (k396 b0 false (mid false (tbb_f (fun e => h355 (z0.mpr e)) (by rw [decide_eq_true (p1.mp h365), decide_eq_false (by have := l2.mp h380; omega)]; decide)))) | exact tk_wk (by repeat' (first | exact trivial | refine ⟨Or.inl rfl, ?_⟩ | refine ⟨Or.inr rfl, ?_⟩)) (k396 b0 false (mid false (tbb_f (fun e => h355 (z0.mpr e)) (by rw [decide_eq_false (by have := l1.mp h365; omega), decide_eq_true (p2.mp h380)]; decide)))) | (exfalso; omega)
            · refine tk_iconst dX11_tell_391 kc_iconst_1 ?_
              refine tk_goto dX11_tell_392 ?_
              first | exact tk_wk (by repeat' (first | exact trivial | refine ⟨Or.inl rfl, ?_⟩ | refine ⟨Or.inr rfl, ?_⟩)) (k396 b0 true (mid true (tbb_0 (z0.mp h355) _ _))) | exact tk_wk (by repeat' (first | exact trivial | refine ⟨Or.inl rfl, ?_⟩ | refine ⟨Or.inr rfl, ?_⟩)) (k396 b0 true (mid true (tbb_t (c := true) (decide_eq_true (p1.mp h365)) (decide_eq_true (p2.mp h380))))) | exact tk_wk (by repeat' (first | exact trivial | refine ⟨Or.inl rfl, ?_⟩ | refine ⟨Or.inr rfl, ?_⟩)) (k396 b0 true (mid true (tbb_t (c := false) (decide_eq_false (by have := l1.mp h365; omega)) (decide_eq_false (by have := l2.mp h380; omega))))) | exact tk_wk (by repeat' (first | exact trivial | refine ⟨Or.inl rfl, ?_⟩ | refine ⟨Or.inr rfl, ?_⟩)) (k396 b0 false (mid false (tbb_f (fun e => h355 (z0.mpr e)) (by rw [decide_eq_true (p1.mp h365), decide_eq_false (by have := l2.mp h380; omega)]; decide)))) | exact tk_wk (by repeat' (first | exact trivial | refine ⟨Or.inl rfl, ?_⟩ | refine ⟨Or.inr rfl, ?_⟩)) (k396 b0 false (mid false (tbb_f (fun e => h355 (z0.mpr e)) (by rw [decide_eq_false (by have := l1.mp h365; omega), decide_eq_true (p2.mp h380)]; decide)))) | (exfalso; omega)
        · refine tk_iconst dX11_tell_368 kc_iconst_1 ?_
          refine tk_goto dX11_tell_369 ?_
          refine tk_aload0 dX11_tell_373 ?_
          refine tk_getP dX11_tell_374 fX11_130 rfl hR.o (hR.p 47 rfl) ?_
          refine tk_iload10 dX11_tell_377 ?_
          refine tk_iald dX11_tell_379 (hR.t 80 rfl) (by omega) (by omega) ?_
          rw [w2]
          refine tk_jf_le dX11_tell_380 (fun h380 => ?_) (fun h380 => ?_)
          · refine tk_iconst dX11_tell_387 kc_iconst_0 ?_
            first | refine tk_icmp_neN dX11_tell_388 (by omega) (by omega) (fun h388 => ?_) (fun h388 => ?_) | refine tk_icmp_ne dX11_tell_388 (fun h388 => ?_) (fun h388 => ?_)
            · refine tk_iconst dX11_tell_395 kc_iconst_0 ?_
              first | exact tk_wk (by repeat' (first | exact trivial | refine ⟨Or.inl rfl, ?_⟩ | refine ⟨Or.inr rfl, ?_⟩)) (k396 b0 true (mid true (tbb_0 (z0.mp h355) _ _))) | exact tk_wk (by repeat' (first | exact trivial | refine ⟨Or.inl rfl, ?_⟩ | refine ⟨Or.inr rfl, ?_⟩)) (k396 b0 true (mid true (tbb_t (c := true) (decide_eq_true (p1.mp h365)) (decide_eq_true (p2.mp h380))))) | exact tk_wk (by repeat' (first | exact trivial | refine ⟨Or.inl rfl, ?_⟩ | refine ⟨Or.inr rfl, ?_⟩)) (k396 b0 true (mid true (tbb_t (c := false) (decide_eq_false (by have := l1.mp h365; omega)) (decide_eq_false (by have := l2.mp h380; omega))))) | exact tk_wk (by repeat' (first | exact trivial | refine ⟨Or.inl rfl, ?_⟩ | refine ⟨Or.inr rfl, ?_⟩)) (k396 b0 false (mid false (tbb_f (fun e => h355 (z0.mpr e)) (by rw [decide_eq_true (p1.mp h365), decide_eq_false (by have := l2.mp h380; omega)]; decide)))) | exact tk_wk (by repeat' (first | exact trivial | refine ⟨Or.inl rfl, ?_⟩ | refine ⟨Or.inr rfl, ?_⟩)) (k396 b0 false (mid false (tbb_f (fun e => h355 (z0.mpr e)) (by rw [decide_eq_false (by have := l1.mp h365; omega), decide_eq_true (p2.mp h380)]; decide)))) | (exfalso; omega)
            · refine tk_iconst dX11_tell_391 kc_iconst_1 ?_
              refine tk_goto dX11_tell_392 ?_
              first | exact tk_wk (by repeat' (first | exact trivial | refine ⟨Or.inl rfl, ?_⟩ | refine ⟨Or.inr rfl, ?_⟩)) (k396 b0 true (mid true (tbb_0 (z0.mp h355) _ _))) | exact tk_wk (by repeat' (first | exact trivial | refine ⟨Or.inl rfl, ?_⟩ | refine ⟨Or.inr rfl, ?_⟩)) (k396 b0 true (mid true (tbb_t (c := true) (decide_eq_true (p1.mp h365)) (decide_eq_true (p2.mp h380))))) | exact tk_wk (by repeat' (first | exact trivial | refine ⟨Or.inl rfl, ?_⟩ | refine ⟨Or.inr rfl, ?_⟩)) (k396 b0 true (mid true (tbb_t (c := false) (decide_eq_false (by have := l1.mp h365; omega)) (decide_eq_false (by have := l2.mp h380; omega))))) | exact tk_wk (by repeat' (first | exact trivial | refine ⟨Or.inl rfl, ?_⟩ | refine ⟨Or.inr rfl, ?_⟩)) (k396 b0 false (mid false (tbb_f (fun e => h355 (z0.mpr e)) (by rw [decide_eq_true (p1.mp h365), decide_eq_false (by have := l2.mp h380; omega)]; decide)))) | exact tk_wk (by repeat' (first | exact trivial | refine ⟨Or.inl rfl, ?_⟩ | refine ⟨Or.inr rfl, ?_⟩)) (k396 b0 false (mid false (tbb_f (fun e => h355 (z0.mpr e)) (by rw [decide_eq_false (by have := l1.mp h365; omega), decide_eq_true (p2.mp h380)]; decide)))) | (exfalso; omega)
          · refine tk_iconst dX11_tell_383 kc_iconst_1 ?_
            refine tk_goto dX11_tell_384 ?_
            first | refine tk_icmp_neN dX11_tell_388 (by omega) (by omega) (fun h388 => ?_) (fun h388 => ?_) | refine tk_icmp_ne dX11_tell_388 (fun h388 => ?_) (fun h388 => ?_)
            · refine tk_iconst dX11_tell_395 kc_iconst_0 ?_
              first | exact tk_wk (by repeat' (first | exact trivial | refine ⟨Or.inl rfl, ?_⟩ | refine ⟨Or.inr rfl, ?_⟩)) (k396 b0 true (mid true (tbb_0 (z0.mp h355) _ _))) | exact tk_wk (by repeat' (first | exact trivial | refine ⟨Or.inl rfl, ?_⟩ | refine ⟨Or.inr rfl, ?_⟩)) (k396 b0 true (mid true (tbb_t (c := true) (decide_eq_true (p1.mp h365)) (decide_eq_true (p2.mp h380))))) | exact tk_wk (by repeat' (first | exact trivial | refine ⟨Or.inl rfl, ?_⟩ | refine ⟨Or.inr rfl, ?_⟩)) (k396 b0 true (mid true (tbb_t (c := false) (decide_eq_false (by have := l1.mp h365; omega)) (decide_eq_false (by have := l2.mp h380; omega))))) | exact tk_wk (by repeat' (first | exact trivial | refine ⟨Or.inl rfl, ?_⟩ | refine ⟨Or.inr rfl, ?_⟩)) (k396 b0 false (mid false (tbb_f (fun e => h355 (z0.mpr e)) (by rw [decide_eq_true (p1.mp h365), decide_eq_false (by have := l2.mp h380; omega)]; decide)))) | exact tk_wk (by repeat' (first | exact trivial | refine ⟨Or.inl rfl, ?_⟩ | refine ⟨Or.inr rfl, ?_⟩)) (k396 b0 false (mid false (tbb_f (fun e => h355 (z0.mpr e)) (by rw [decide_eq_false (by have := l1.mp h365; omega), decide_eq_true (p2.mp h380)]; decide)))) | (exfalso; omega)
            · refine tk_iconst dX11_tell_391 kc_iconst_1 ?_
              refine tk_goto dX11_tell_392 ?_
              first | exact tk_wk (by repeat' (first | exact trivial | refine ⟨Or.inl rfl, ?_⟩ | refine ⟨Or.inr rfl, ?_⟩)) (k396 b0 true (mid true (tbb_0 (z0.mp h355) _ _))) | exact tk_wk (by repeat' (first | exact trivial | refine ⟨Or.inl rfl, ?_⟩ | refine ⟨Or.inr rfl, ?_⟩)) (k396 b0 true (mid true (tbb_t (c := true) (decide_eq_true (p1.mp h365)) (decide_eq_true (p2.mp h380))))) | exact tk_wk (by repeat' (first | exact trivial | refine ⟨Or.inl rfl, ?_⟩ | refine ⟨Or.inr rfl, ?_⟩)) (k396 b0 true (mid true (tbb_t (c := false) (decide_eq_false (by have := l1.mp h365; omega)) (decide_eq_false (by have := l2.mp h380; omega))))) | exact tk_wk (by repeat' (first | exact trivial | refine ⟨Or.inl rfl, ?_⟩ | refine ⟨Or.inr rfl, ?_⟩)) (k396 b0 false (mid false (tbb_f (fun e => h355 (z0.mpr e)) (by rw [decide_eq_true (p1.mp h365), decide_eq_false (by have := l2.mp h380; omega)]; decide)))) | exact tk_wk (by repeat' (first | exact trivial | refine ⟨Or.inl rfl, ?_⟩ | refine ⟨Or.inr rfl, ?_⟩)) (k396 b0 false (mid false (tbb_f (fun e => h355 (z0.mpr e)) (by rw [decide_eq_false (by have := l1.mp h365; omega), decide_eq_true (p2.mp h380)]; decide)))) | (exfalso; omega)
    refine tk_iload12 dX11_tell_300 ?_
    refine tk_jf_lt dX11_tell_302 (fun h302 => ?_) (fun h302 => ?_)
    · exact absurd h302 (nI_pos (by omega))
    · refine tk_aload0 dX11_tell_305 ?_
      refine tk_getP dX11_tell_306 fX11_83 rfl hR.o (hR.p 29 rfl) ?_
      refine tk_bipush dX11_tell_309 kc_bipush_64 ?_
      refine tk_iload8 dX11_tell_311 ?_
      first | refine tk_imulN dX11_tell_313 ?_ | refine tk_imul dX11_tell_313 ?_
      refine tk_aload0 dX11_tell_314 ?_
      refine tk_getP dX11_tell_315 fX11_127 rfl hR.o (hR.p 46 rfl) ?_
      refine tk_iload12 dX11_tell_318 ?_
      refine tk_iald dX11_tell_320 (hR.t 79 rfl) (by omega) (by omega) ?_
      rw [c1]
      first | refine tk_iaddN dX11_tell_321 ?_ | refine tk_iadd dX11_tell_321 ?_
      refine tk_iald dX11_tell_322 (hR.t 65 rfl) (by omega) (by omega) ?_
      refine tk_aload0 dX11_tell_323 ?_
      refine tk_getP dX11_tell_324 fX11_83 rfl hR.o (hR.p 29 rfl) ?_
      refine tk_bipush dX11_tell_327 kc_bipush_64 ?_
      refine tk_iload8 dX11_tell_329 ?_
      first | refine tk_imulN dX11_tell_331 ?_ | refine tk_imul dX11_tell_331 ?_
      refine tk_aload0 dX11_tell_332 ?_
      refine tk_getP dX11_tell_333 fX11_127 rfl hR.o (hR.p 46 rfl) ?_
      refine tk_iload10 dX11_tell_336 ?_
      refine tk_iald dX11_tell_338 (hR.t 79 rfl) (by omega) (by omega) ?_
      rw [c3]
      first | refine tk_iaddN dX11_tell_339 ?_ | refine tk_iadd dX11_tell_339 ?_
      refine tk_iald dX11_tell_340 (hR.t 65 rfl) (by omega) (by omega) ?_
      first | refine tk_icmp_neN dX11_tell_341 (by omega) (by omega) (fun h341 => ?_) (fun h341 => ?_) | refine tk_icmp_ne dX11_tell_341 (fun h341 => ?_) (fun h341 => ?_)
      · refine tk_iconst dX11_tell_348 kc_iconst_0 ?_
        first | exact tk_wk (by repeat' (first | exact trivial | refine ⟨Or.inl rfl, ?_⟩ | refine ⟨Or.inr rfl, ?_⟩)) (k349 true (decide_eq_true h341).symm) | exact tk_wk (by repeat' (first | exact trivial | refine ⟨Or.inl rfl, ?_⟩ | refine ⟨Or.inr rfl, ?_⟩)) (k349 false (decide_eq_false h341).symm)
      · refine tk_iconst dX11_tell_344 kc_iconst_1 ?_
        refine tk_goto dX11_tell_345 ?_
        first | exact tk_wk (by repeat' (first | exact trivial | refine ⟨Or.inl rfl, ?_⟩ | refine ⟨Or.inr rfl, ?_⟩)) (k349 true (decide_eq_true h341).symm) | exact tk_wk (by repeat' (first | exact trivial | refine ⟨Or.inl rfl, ?_⟩ | refine ⟨Or.inr rfl, ?_⟩)) (k349 false (decide_eq_false h341).symm)
end REFCI
