/-! ===== the reference: where its cells lie ===== -/
def tkRtab (a : Nat) : Nat × Nat := match a with
  | 40 => (11, 54)
  | 41 => (20, 7)
  | 42 => (20, 64)
  | 43 => (20, 256)
  | 44 => (20, 4)
  | 45 => (20, 3)
  | 46 => (20, 4)
  | 47 => (20, 84)
  | 48 => (20, 6)
  | 49 => (20, 70)
  | 50 => (20, 5)
  | 51 => (20, 56)
  | 52 => (20, 4)
  | 53 => (20, 4)
  | 54 => (20, 18)
  | 55 => (20, 384)
  | 56 => (20, 1536)
  | 57 => (20, 420)
  | 58 => (20, 30)
  | 59 => (20, 18)
  | 60 => (20, 36000)
  | 61 => (20, 4)
  | 62 => (20, 4)
  | 63 => (20, 56)
  | 64 => (20, 64)
  | 65 => (20, 256)
  | 66 => (21, 256)
  | 67 => (20, 70)
  | 68 => (20, 5)
  | 69 => (20, 3)
  | 70 => (20, 128)
  | 71 => (20, 512)
  | 72 => (20, 128)
  | 73 => (20, 128)
  | 74 => (20, 128)
  | 75 => (22, 128)
  | 76 => (22, 128)
  | 77 => (21, 512)
  | 78 => (21, 512)
  | 79 => (20, 128)
  | 80 => (20, 128)
  | 81 => (20, 4)
  | 82 => (20, 4)
  | 83 => (20, 256)
  | 84 => (20, 1024)
  | 85 => (20, 3)
  | _ => (20, 14)
def tkRfp (k : Nat) : Option Nat := match k with
  | 20 => none
  | 21 => some 61
  | 22 => some 62
  | 23 => some 63
  | 24 => none
  | 25 => none
  | 26 => none
  | 27 => none
  | 28 => some 64
  | 29 => some 65
  | 30 => some 66
  | 31 => none
  | 32 => some 67
  | 33 => some 68
  | 34 => some 69
  | 35 => none
  | 36 => none
  | 37 => some 70
  | 38 => some 71
  | 39 => some 72
  | 40 => some 73
  | 41 => some 74
  | 42 => some 75
  | 43 => some 76
  | 44 => some 77
  | 45 => some 78
  | 46 => some 79
  | 47 => some 80
  | 48 => some 81
  | 49 => some 82
  | 50 => some 83
  | 51 => some 84
  | 52 => some 85
  | 53 => some 86
  | k => some (41 + k)
def tkRef (T : Nat → Nat × Nat) (P : Nat → Nat → Option Nat) : Prop := (∀ a, 40 ≤ a → a < 87 → T a = tkRtab a) ∧ ∀ k b, k < 54 → tkRfp k = some b → P 40 k = some b
theorem tkRef.o {T : Nat → Nat × Nat} {P : Nat → Nat → Option Nat} (h : tkRef T P) : (T 40).1 = 11 := by rw [h.1 40 (by omega) (by omega)]; rfl
theorem tkRef.t {T : Nat → Nat × Nat} {P : Nat → Nat → Option Nat} (h : tkRef T P) (a : Nat) (hd : (Nat.ble 40 a && Nat.ble a 86) = true) : T a = tkRtab a := by
  rw [Bool.and_eq_true] at hd
  exact h.1 a (Nat.le_of_ble_eq_true hd.1) (Nat.lt_succ_of_le (Nat.le_of_ble_eq_true hd.2))
theorem tkRef.p {T : Nat → Nat × Nat} {P : Nat → Nat → Option Nat} (h : tkRef T P) (k : Nat) {b : Nat} (hd : tkRfp k = some b) (hk : Nat.ble k 53 = true := by rfl) : P 40 k = some b := h.2 k b (Nat.lt_succ_of_le (Nat.le_of_ble_eq_true hk)) hd
section FOR
variable {G : tkG} {C : tkC} {d mc ms head : Nat} {ls0 : List (Option tkV)} {st : List tkV} {h0 : tkH} {Q : Option tkV → tkH → Prop}
/-- a counting loop whose state at each turn is known -/
theorem tk_for (a N : Nat) (ls : Nat → List (Option tkV)) (h : Nat → tkH) (haN : a ≤ N) (el : ls0 = ls a) (eh : h0 = h a) (fin : tkX G C d mc ms head (ls N) st (h N) Q) (step : ∀ i, a ≤ i → i < N → tkX G C d mc ms head (ls (i + 1)) st (h (i + 1)) Q → tkX G C d mc ms head (ls i) st (h i) Q) : tkX G C d mc ms head ls0 st h0 Q := by
  subst el; subst eh
  have key : ∀ k i, a ≤ i → i + k = N → tkX G C d mc ms head (ls i) st (h i) Q := by
    intro k
    induction k with
    | zero => intro i _ e; obtain rfl : i = N := by omega
              exact fin
    | succ k ih => intro i hi e; exact step i hi (by omega) (ih (i + 1) (by omega) (by omega))
  exact key (N - a) a (Nat.le_refl _) (by omega)
/-- a counting loop with an invariant -/
theorem tk_forR {σ : Type} (a N : Nat) (ls : Nat → σ → List (Option tkV)) (h : Nat → σ → tkH) (Inv : Nat → σ → Prop) (s0 : σ) (haN : a ≤ N) (el : ls0 = ls a s0) (eh : h0 = h a s0) (hi : Inv a s0) (fin : ∀ s, Inv N s → tkX G C d mc ms head (ls N s) st (h N s) Q) (step : ∀ i s, a ≤ i → i < N → Inv i s → (∀ s', Inv (i + 1) s' → tkX G C d mc ms head (ls (i + 1) s') st (h (i + 1) s') Q) → tkX G C d mc ms head (ls i s) st (h i s) Q) : tkX G C d mc ms head ls0 st h0 Q := by
  subst el; subst eh
  have key : ∀ k i s, a ≤ i → i + k = N → Inv i s → tkX G C d mc ms head (ls i s) st (h i s) Q := by
    intro k
    induction k with
    | zero => intro i s _ e hI; obtain rfl : i = N := by omega
              exact fin s hI
    | succ k ih => intro i s hi e hI; exact step i s hi (by omega) hI (fun s' h' => ih (i + 1) s' (by omega) (by omega) h')
  exact key (N - a) a s0 (Nat.le_refl _) (by omega) hi
end FOR
def tkcp {α : Type} (f g : Nat → α) (i : Nat) : Nat → α := fun j => if j < i then g j else f j
theorem tkcp_0 {α : Type} (f g : Nat → α) : tkcp f g 0 = f := by funext j; simp [tkcp]
theorem tkcp_s {α : Type} (f g : Nat → α) (i : Nat) : va_up (tkcp f g i) i (g i) = tkcp f g (i + 1) := by
  funext j
  unfold va_up tkcp
  by_cases h : j = i
  · subst h; simp
  · simp only [if_neg h]
    by_cases h2 : j < i
    · rw [if_pos h2, if_pos (by omega)]
    · rw [if_neg h2, if_neg (by omega)]
def tkco {α : Type} (f g : Nat → α) (b i : Nat) : Nat → α := fun j => if b ≤ j ∧ j < b + i then g (j - b) else f j
theorem tkco_0 {α : Type} (f g : Nat → α) (b : Nat) : tkco f g b 0 = f := by
  funext j
  unfold tkco
  rw [if_neg (by omega)]
theorem tkco_s {α : Type} (f g : Nat → α) (b i : Nat) : va_up (tkco f g b i) (b + i) (g i) = tkco f g b (i + 1) := by
  funext j
  unfold va_up tkco
  by_cases h : j = b + i
  · subst h; rw [if_pos rfl, if_pos (by omega)]; congr 1; omega
  · rw [if_neg h]
    by_cases h2 : b ≤ j ∧ j < b + i
    · rw [if_pos h2, if_pos (by omega)]
    · rw [if_neg h2, if_neg (by omega)]
theorem tk_zret0 {G : tkG} {C : tkC} {d mc ms pc pc' : Nat} {ls : List (Option tkV)} {Q : Option tkV → tkH → Prop} {h : tkH} (hd : tkD C pc .ireturn 1 pc') (hn : C.2.2.2 = some .boolean) (hq : Q (some (vI (tkb false))) h) : tkX G C d mc ms pc ls [vI (nI 0)] h Q := tk_zreturn (b := false) hd hn hq
theorem tk_zret1 {G : tkG} {C : tkC} {d mc ms pc pc' : Nat} {ls : List (Option tkV)} {Q : Option tkV → tkH → Prop} {h : tkH} (hd : tkD C pc .ireturn 1 pc') (hn : C.2.2.2 = some .boolean) (hq : Q (some (vI (tkb true))) h) : tkX G C d mc ms pc ls [vI (nI 1)] h Q := tk_zreturn (b := true) hd hn hq
theorem tkz {b b' : Bool} {h : tkH} (e : b = b') : tkF (some (vI (tkb b'))) h (some (vI (tkb b))) h := by subst e; exact ⟨rfl, rfl⟩
theorem tki {b b' : Int32} {h : tkH} (e : b = b') : tkF (some (vI b')) h (some (vI b)) h := by subst e; exact ⟨rfl, rfl⟩
theorem tkl {b b' : Int64} {h : tkH} (e : b = b') : tkF (some (vL b')) h (some (vL b)) h := by subst e; exact ⟨rfl, rfl⟩
def rIn (v lo hi : Int32) : Bool := decide (lo ≤ v) && decide (v ≤ hi)
section REFA
variable {G : tkG} {n : Nat} {T : Nat → Nat × Nat} {I : Nat → Nat → Int32} {L : Nat → Nat → Int64} {P : Nat → Nat → Option Nat}
theorem r_finding (hR : tkRef T P) (f : Int32) : tkM G mX11_finding 0 0 0 [vR 40, vI f] (n, T, I, L, P) (tkF (some (vI f)) (n, T, va_up I 40 (va_up (I 40) 24 (I 40 24 + 1)), L, P)) := by
  refine tkM.of (by decide +kernel) (by decide +kernel) (Nat.le_of_ble_eq_true rfl) rfl ?_
  refine tk_aload0 dX11_finding_0 ?_
  refine tk_dup dX11_finding_1 rfl ?_
  refine tk_getI dX11_finding_2 fX11_155 rfl hR.o ?_
  refine tk_iconst dX11_finding_5 kc_iconst_1 ?_
  first | refine tk_iaddN dX11_finding_6 ?_ | refine tk_iadd dX11_finding_6 ?_
  refine tk_putI dX11_finding_7 fX11_155 wX11_finding_X11_24 rfl hR.o ?_
  refine tk_iload1 dX11_finding_10 ?_
  refine tk_ireturn dX11_finding_11 rfl ?_
  exact ⟨rfl, rfl⟩
theorem r_isIn (v lo hi : Int32) {h : tkH} : tkM G mX11_isIn 0 0 0 [vI v, vI lo, vI hi] h (tkF (some (vI (tkb (rIn v lo hi)))) h) := by
  refine tkM.of (by decide +kernel) (by decide +kernel) (Nat.le_of_ble_eq_true rfl) rfl ?_
  refine tk_iload0 dX11_isIn_0 ?_
  refine tk_iload1 dX11_isIn_1 ?_
  first | refine tk_icmp_ltN dX11_isIn_2 (by omega) (by omega) (fun h2 => ?_) (fun h2 => ?_) | refine tk_icmp_lt dX11_isIn_2 (fun h2 => ?_) (fun h2 => ?_)
  · refine tk_iconst dX11_isIn_14 kc_iconst_0 ?_
    first | refine tk_zreturn dX11_isIn_15 rfl ?_ | refine tk_zret0 dX11_isIn_15 rfl ?_ | refine tk_zret1 dX11_isIn_15 rfl ?_
    exact tkz (by simp_all [rIn, Int32.not_le, Int32.not_lt])
  · refine tk_iload0 dX11_isIn_5 ?_
    refine tk_iload2 dX11_isIn_6 ?_
    first | refine tk_icmp_gtN dX11_isIn_7 (by omega) (by omega) (fun h7 => ?_) (fun h7 => ?_) | refine tk_icmp_gt dX11_isIn_7 (fun h7 => ?_) (fun h7 => ?_)
    · refine tk_iconst dX11_isIn_14 kc_iconst_0 ?_
      first | refine tk_zreturn dX11_isIn_15 rfl ?_ | refine tk_zret0 dX11_isIn_15 rfl ?_ | refine tk_zret1 dX11_isIn_15 rfl ?_
      exact tkz (by simp_all [rIn, Int32.not_le, Int32.not_lt])
    · refine tk_iconst dX11_isIn_10 kc_iconst_1 ?_
      refine tk_goto dX11_isIn_11 ?_
      first | refine tk_zreturn dX11_isIn_15 rfl ?_ | refine tk_zret0 dX11_isIn_15 rfl ?_ | refine tk_zret1 dX11_isIn_15 rfl ?_
      exact tkz (by simp_all [rIn, Int32.not_le, Int32.not_lt])
theorem r_isPerson (hR : tkRef T P) (p : Int32) : tkM G mX11_isPerson 0 0 0 [vR 40, vI p] (n, T, I, L, P) (tkF (some (vI (tkb (decide (0 ≤ p) && decide (p < I 41 0))))) (n, T, I, L, P)) := by
  refine tkM.of (by decide +kernel) (by decide +kernel) (Nat.le_of_ble_eq_true rfl) rfl ?_
  refine tk_iload1 dX11_isPerson_0 ?_
  refine tk_if_lt dX11_isPerson_1 (fun h1 => ?_) (fun h1 => ?_)
  · refine tk_iconst dX11_isPerson_18 kc_iconst_0 ?_
    first | refine tk_zreturn dX11_isPerson_19 rfl ?_ | refine tk_zret0 dX11_isPerson_19 rfl ?_ | refine tk_zret1 dX11_isPerson_19 rfl ?_
    exact tkz (by simp_all [Int32.not_le, Int32.not_lt])
  · refine tk_iload1 dX11_isPerson_4 ?_
    refine tk_aload0 dX11_isPerson_5 ?_
    refine tk_getP dX11_isPerson_6 fX11_7 rfl hR.o (hR.p 0 rfl) ?_
    refine tk_iconst dX11_isPerson_9 kc_iconst_0 ?_
    refine tk_iald dX11_isPerson_10 (hR.t 41 rfl) (by omega) (by omega) ?_
    first | refine tk_icmp_geN dX11_isPerson_11 (by omega) (by omega) (fun h11 => ?_) (fun h11 => ?_) | refine tk_icmp_ge dX11_isPerson_11 (fun h11 => ?_) (fun h11 => ?_)
    · refine tk_iconst dX11_isPerson_18 kc_iconst_0 ?_
      first | refine tk_zreturn dX11_isPerson_19 rfl ?_ | refine tk_zret0 dX11_isPerson_19 rfl ?_ | refine tk_zret1 dX11_isPerson_19 rfl ?_
      exact tkz (by simp_all [Int32.not_le, Int32.not_lt])
    · refine tk_iconst dX11_isPerson_14 kc_iconst_1 ?_
      refine tk_goto dX11_isPerson_15 ?_
      first | refine tk_zreturn dX11_isPerson_19 rfl ?_ | refine tk_zret0 dX11_isPerson_19 rfl ?_ | refine tk_zret1 dX11_isPerson_19 rfl ?_
      exact tkz (by simp_all [Int32.not_le, Int32.not_lt])
end REFA
