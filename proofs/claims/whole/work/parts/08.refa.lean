/-! ===== the reference: where its cells lie ===== -/
def tkRtab (a : Nat) : Nat × Nat := match a with
  | 40 => (11, 54)
  | 41 => (20, 7)
  | 42 => (20, 64)
  | 43 => (20, 256)
  | 44 => (20, 4)
  | 45 => (20, 3)
  | 46 => (20, 4)
  | 47 => (20, 84)
  | 48 => (20, 6)
  | 49 => (20, 70)
  | 50 => (20, 5)
  | 51 => (20, 56)
  | 52 => (20, 4)
  | 53 => (20, 4)
  | 54 => (20, 18)
  | 55 => (20, 384)
  | 56 => (20, 1536)
  | 57 => (20, 420)
  | 58 => (20, 30)
  | 59 => (20, 18)
  | 60 => (20, 36000)
  | 61 => (20, 4)
  | 62 => (20, 4)
  | 63 => (20, 56)
  | 64 => (20, 64)
  | 65 => (20, 256)
  | 66 => (21, 256)
  | 67 => (20, 70)
  | 68 => (20, 5)
  | 69 => (20, 3)
  | 70 => (20, 128)
  | 71 => (20, 512)
  | 72 => (20, 128)
  | 73 => (20, 128)
  | 74 => (20, 128)
  | 75 => (22, 128)
  | 76 => (22, 128)
  | 77 => (21, 512)
  | 78 => (21, 512)
  | 79 => (20, 128)
  | 80 => (20, 128)
  | 81 => (20, 4)
  | 82 => (20, 4)
  | 83 => (20, 256)
  | 84 => (20, 1024)
  | 85 => (20, 3)
  | _ => (20, 14)
def tkRfp (k : Nat) : Option Nat := match k with
  | 0 => some 41
  | 1 => some 42
  | 2 => some 43
  | 3 => some 44
  | 4 => some 45
  | 5 => some 46
  | 6 => some 47
  | 7 => some 48
  | 8 => some 49
  | 9 => some 50
  | 10 => some 51
  | 11 => some 52
  | 12 => some 53
  | 13 => some 54
  | 14 => some 55
  | 15 => some 56
  | 16 => some 57
  | 17 => some 58
  | 18 => some 59
  | 19 => some 60
  | 20 => none
  | 21 => some 61
  | 22 => some 62
  | 23 => some 63
  | 24 => none
  | 25 => none
  | 26 => none
  | 27 => none
  | 28 => some 64
  | 29 => some 65
  | 30 => some 66
  | 31 => none
  | 32 => some 67
  | 33 => some 68
  | 34 => some 69
  | 35 => none
  | 36 => none
  | 37 => some 70
  | 38 => some 71
  | 39 => some 72
  | 40 => some 73
  | 41 => some 74
  | 42 => some 75
  | 43 => some 76
  | 44 => some 77
  | 45 => some 78
  | 46 => some 79
  | 47 => some 80
  | 48 => some 81
  | 49 => some 82
  | 50 => some 83
  | 51 => some 84
  | 52 => some 85
  | 53 => some 86
  | _ => none
def tkRef (T : Nat → Nat × Nat) (P : Nat → Nat → Option Nat) : Prop := (∀ a, 40 ≤ a → a < 87 → T a = tkRtab a) ∧ ∀ k b, k < 54 → tkRfp k = some b → P 40 k = some b
theorem tkRef.o {T : Nat → Nat × Nat} {P : Nat → Nat → Option Nat} (h : tkRef T P) : (T 40).1 = 11 := by rw [h.1 40 (by omega) (by omega)]; rfl
theorem tkRef.t {T : Nat → Nat × Nat} {P : Nat → Nat → Option Nat} (h : tkRef T P) (a : Nat) (hd : (Nat.ble 40 a && Nat.ble a 86) = true) : T a = tkRtab a := by
  rw [Bool.and_eq_true] at hd
  exact h.1 a (Nat.le_of_ble_eq_true hd.1) (Nat.lt_succ_of_le (Nat.le_of_ble_eq_true hd.2))
theorem tkRef.p {T : Nat → Nat × Nat} {P : Nat → Nat → Option Nat} (h : tkRef T P) (k : Nat) {b : Nat} (hd : tkRfp k = some b) (hk : Nat.ble k 53 = true := by rfl) : P 40 k = some b := h.2 k b (Nat.lt_succ_of_le (Nat.le_of_ble_eq_true hk)) hd
theorem tk_une {α : Type} {f : Nat → α} {k j : Nat} {v : α} (h : ¬ j = k) : va_up f k v j = f j := va_up_ne f v h
theorem tk_uid {α : Type} {F : Nat → α} {k : Nat} {v : α} (h : F k = v) : va_up F k v = F := by subst h; exact tk_up_id F k
theorem tk_usrt {α : Type} {f : Nat → α} {a b : Nat} {x y : α} (h : b < a) : va_up (va_up f a x) b y = va_up (va_up f b y) a x := by
  funext j
  unfold va_up
  by_cases h1 : j = b
  · subst h1; rw [if_pos rfl, if_neg (by omega), if_pos rfl]
  · rw [if_neg h1, if_neg h1]
theorem tk_hI {G : tkG} {C : tkC} {d mc ms pc : Nat} {ls : List (Option tkV)} {st : List tkV} {Q : Option tkV → tkH → Prop} {n : Nat} {T : Nat → Nat × Nat} {I I' : Nat → Nat → Int32} {L L' : Nat → Nat → Int64} {P : Nat → Nat → Option Nat} (e : I = I') (e2 : L = L') (k : tkX G C d mc ms pc ls st (n, T, I', L', P) Q) : tkX G C d mc ms pc ls st (n, T, I, L, P) Q := by subst e; subst e2; exact k
section JC
variable {G : tkG} {C : tkC} {d mc ms pc pc' tgt : Nat} {ls : List (Option tkV)} {st : List tkV} {h : tkH} {Q : Option tkV → tkH → Prop}
theorem tk_jcmp_lt {x y : Int32} (hd : tkJ C pc (.if_icmp .lt) tgt pc') (kt : x < y → tkX G C d mc ms tgt ls st h Q) (kf : y ≤ x → tkX G C d mc ms pc' ls st h Q) : tkX G C d mc ms pc ls (vI y :: vI x :: st) h Q := tk_icmp_lt hd (fun q => kt (q)) (fun q => kf (Int32.not_lt.mp q))
theorem tk_jf_lt {x : Int32} (hd : tkJ C pc (.ifCond .lt) tgt pc') (kt : x < 0 → tkX G C d mc ms tgt ls st h Q) (kf : 0 ≤ x → tkX G C d mc ms pc' ls st h Q) : tkX G C d mc ms pc ls (vI x :: st) h Q := tk_if_lt hd (fun q => kt (q)) (fun q => kf (Int32.not_lt.mp q))
theorem tk_jcmp_ge {x y : Int32} (hd : tkJ C pc (.if_icmp .ge) tgt pc') (kt : y ≤ x → tkX G C d mc ms tgt ls st h Q) (kf : x < y → tkX G C d mc ms pc' ls st h Q) : tkX G C d mc ms pc ls (vI y :: vI x :: st) h Q := tk_icmp_ge hd (fun q => kt (q)) (fun q => kf (Int32.not_le.mp q))
theorem tk_jf_ge {x : Int32} (hd : tkJ C pc (.ifCond .ge) tgt pc') (kt : 0 ≤ x → tkX G C d mc ms tgt ls st h Q) (kf : x < 0 → tkX G C d mc ms pc' ls st h Q) : tkX G C d mc ms pc ls (vI x :: st) h Q := tk_if_ge hd (fun q => kt (q)) (fun q => kf (Int32.not_le.mp q))
theorem tk_jcmp_gt {x y : Int32} (hd : tkJ C pc (.if_icmp .gt) tgt pc') (kt : y < x → tkX G C d mc ms tgt ls st h Q) (kf : x ≤ y → tkX G C d mc ms pc' ls st h Q) : tkX G C d mc ms pc ls (vI y :: vI x :: st) h Q := tk_icmp_gt hd (fun q => kt (q)) (fun q => kf (Int32.not_lt.mp q))
theorem tk_jf_gt {x : Int32} (hd : tkJ C pc (.ifCond .gt) tgt pc') (kt : 0 < x → tkX G C d mc ms tgt ls st h Q) (kf : x ≤ 0 → tkX G C d mc ms pc' ls st h Q) : tkX G C d mc ms pc ls (vI x :: st) h Q := tk_if_gt hd (fun q => kt (q)) (fun q => kf (Int32.not_lt.mp q))
theorem tk_jcmp_le {x y : Int32} (hd : tkJ C pc (.if_icmp .le) tgt pc') (kt : x ≤ y → tkX G C d mc ms tgt ls st h Q) (kf : y < x → tkX G C d mc ms pc' ls st h Q) : tkX G C d mc ms pc ls (vI y :: vI x :: st) h Q := tk_icmp_le hd (fun q => kt (q)) (fun q => kf (Int32.not_le.mp q))
theorem tk_jf_le {x : Int32} (hd : tkJ C pc (.ifCond .le) tgt pc') (kt : x ≤ 0 → tkX G C d mc ms tgt ls st h Q) (kf : 0 < x → tkX G C d mc ms pc' ls st h Q) : tkX G C d mc ms pc ls (vI x :: st) h Q := tk_if_le hd (fun q => kt (q)) (fun q => kf (Int32.not_le.mp q))
theorem tk_jf_eqB {b : Bool} (hd : tkJ C pc (.ifCond .eq) tgt pc') (kt : b = false → tkX G C d mc ms tgt ls st h Q) (kf : b = true → tkX G C d mc ms pc' ls st h Q) : tkX G C d mc ms pc ls (vI (tkb b) :: st) h Q := tk_if_eq hd (fun q => kt ((tkb_eq0 b).mp q)) (fun q => kf (Bool.not_eq_false b ▸ fun e => q ((tkb_eq0 b).mpr e)))
theorem tk_jf_neB {b : Bool} (hd : tkJ C pc (.ifCond .ne) tgt pc') (kt : b = true → tkX G C d mc ms tgt ls st h Q) (kf : b = false → tkX G C d mc ms pc' ls st h Q) : tkX G C d mc ms pc ls (vI (tkb b) :: st) h Q := tk_if_ne hd (fun q => kt (Bool.not_eq_false b ▸ fun e => q ((tkb_eq0 b).mpr e))) (fun q => kf ((tkb_eq0 b).mp q))
end JC
/-- of some locals nothing is said any more -/
def tkle : List (Option tkV) → List (Option tkV) → Prop
  | [], [] => True
  | a :: t, b :: u => (a = b ∨ a = none) ∧ tkle t u
  | _, _ => False
theorem tkle_at {l m : List (Option tkV)} (h : tkle l m) : l.length = m.length ∧ ∀ (j : Nat) (v : tkV), l[j]? = some (some v) → m[j]? = some (some v) := by
  induction l generalizing m with
  | nil =>
    cases m with
    | nil => exact ⟨rfl, fun j v q => q⟩
    | cons b u => exact h.elim
  | cons a t ih =>
    cases m with
    | nil => exact h.elim
    | cons b u =>
      obtain ⟨h1, h2⟩ := h
      obtain ⟨i1, i2⟩ := ih h2
      refine ⟨by simp [i1], fun j v q => ?_⟩
      cases j with
      | zero =>
        simp only [List.getElem?_cons_zero, Option.some.injEq] at q ⊢
        rcases h1 with rfl | rfl
        · exact q
        · cases q
      | succ j =>
        simp only [List.getElem?_cons_succ] at q ⊢
        exact i2 j v q
theorem tk_wk {G : tkG} {C : tkC} {d mc ms pc : Nat} {ls ls' : List (Option tkV)} {st : List tkV} {h : tkH} {Q : Option tkV → tkH → Prop} (hw : tkle ls' ls) (k : tkX G C d mc ms pc ls' st h Q) : tkX G C d mc ms pc ls st h Q := by
  obtain ⟨w1, w2⟩ := tkle_at hw
  refine tk_store (fun E L w => w _ ⟨by rw [w1]; exact L.1, L.2.1, L.2.2.1, fun q hq => ?_⟩) k
  obtain ⟨j, v, hj, rfl⟩ := tkll_inv hq
  exact L.2.2.2 _ (tkll_mem (w2 j v hj))
section FOR
variable {G : tkG} {C : tkC} {d mc ms head : Nat} {ls0 : List (Option tkV)} {st : List tkV} {h0 : tkH} {Q : Option tkV → tkH → Prop}
/-- a counting loop whose state at each turn is known -/
theorem tk_for (a N : Nat) (ls : Nat → List (Option tkV)) (h : Nat → tkH) (haN : a ≤ N) (el : ls0 = ls a) (eh : h0 = h a) (fin : tkX G C d mc ms head (ls N) st (h N) Q) (step : ∀ i, a ≤ i → i < N → tkX G C d mc ms head (ls (i + 1)) st (h (i + 1)) Q → tkX G C d mc ms head (ls i) st (h i) Q) : tkX G C d mc ms head ls0 st h0 Q := by
  subst el; subst eh
  have key : ∀ k i, a ≤ i → i + k = N → tkX G C d mc ms head (ls i) st (h i) Q := by
    intro k
    induction k with
    | zero => intro i _ e; obtain rfl : i = N := by omega
              exact fin
    | succ k ih => intro i hi e; exact step i hi (by omega) (ih (i + 1) (by omega) (by omega))
  exact key (N - a) a (Nat.le_refl _) (by omega)
/-- a counting loop with an invariant -/
theorem tk_forR {σ : Type} (a N : Nat) (ls : Nat → σ → List (Option tkV)) (h : Nat → σ → tkH) (Inv : Nat → σ → Prop) (s0 : σ) (haN : a ≤ N) (el : ls0 = ls a s0) (eh : h0 = h a s0) (hi : Inv a s0) (fin : ∀ s, Inv N s → tkX G C d mc ms head (ls N s) st (h N s) Q) (step : ∀ i s, a ≤ i → i < N → Inv i s → (∀ s', Inv (i + 1) s' → tkX G C d mc ms head (ls (i + 1) s') st (h (i + 1) s') Q) → tkX G C d mc ms head (ls i s) st (h i s) Q) : tkX G C d mc ms head ls0 st h0 Q := by
  subst el; subst eh
  have key : ∀ k i s, a ≤ i → i + k = N → Inv i s → tkX G C d mc ms head (ls i s) st (h i s) Q := by
    intro k
    induction k with
    | zero => intro i s _ e hI; obtain rfl : i = N := by omega
              exact fin s hI
    | succ k ih => intro i s hi e hI; exact step i s hi (by omega) hI (fun s' h' => ih (i + 1) s' (by omega) (by omega) h')
  exact key (N - a) a s0 (Nat.le_refl _) (by omega) hi
/-- the same, with locals that may be forgotten -/
theorem tk_fr (a N : Nat) (ls : Nat → List (Option tkV)) (h : Nat → tkH) (haN : a ≤ N) (el : tkle (ls a) ls0) (eh : h0 = h a) (fin : tkX G C d mc ms head (ls N) st (h N) Q) (step : ∀ i, a ≤ i → i < N → (∀ l, tkle (ls (i + 1)) l → tkX G C d mc ms head l st (h (i + 1)) Q) → tkX G C d mc ms head (ls i) st (h i) Q) : tkX G C d mc ms head ls0 st h0 Q :=
  tk_wk el (tk_for a N ls h haN rfl eh fin (fun i h1 h2 k => step i h1 h2 (fun l hl => tk_wk hl k)))
end FOR
def tkcp {α : Type} (f g : Nat → α) (i : Nat) : Nat → α := fun j => if j < i then g j else f j
theorem tkcp_0 {α : Type} (f g : Nat → α) : tkcp f g 0 = f := by funext j; simp [tkcp]
theorem tkcp_s {α : Type} (f g : Nat → α) (i : Nat) : va_up (tkcp f g i) i (g i) = tkcp f g (i + 1) := by
  funext j
  unfold va_up tkcp
  by_cases h : j = i
  · subst h; simp
  · simp only [if_neg h]
    by_cases h2 : j < i
    · rw [if_pos h2, if_pos (by omega)]
    · rw [if_neg h2, if_neg (by omega)]
def tkco {α : Type} (f g : Nat → α) (b i : Nat) : Nat → α := fun j => if b ≤ j ∧ j < b + i then g (j - b) else f j
theorem tkco_0 {α : Type} (f g : Nat → α) (b : Nat) : tkco f g b 0 = f := by
  funext j
  unfold tkco
  rw [if_neg (by omega)]
theorem tkco_s {α : Type} (f g : Nat → α) (b i : Nat) : va_up (tkco f g b i) (b + i) (g i) = tkco f g b (i + 1) := by
  funext j
  unfold va_up tkco
  by_cases h : j = b + i
  · subst h; rw [if_pos rfl, if_pos (by omega)]; congr 1; omega
  · rw [if_neg h]
    by_cases h2 : b ≤ j ∧ j < b + i
    · rw [if_pos h2, if_pos (by omega)]
    · rw [if_neg h2, if_neg (by omega)]
theorem tk_zret0 {G : tkG} {C : tkC} {d mc ms pc pc' : Nat} {ls : List (Option tkV)} {Q : Option tkV → tkH → Prop} {h : tkH} (hd : tkD C pc .ireturn 1 pc') (hn : C.2.2.2 = some .boolean) (hq : Q (some (vI (tkb false))) h) : tkX G C d mc ms pc ls [vI (nI 0)] h Q := tk_zreturn (b := false) hd hn hq
theorem tk_zret1 {G : tkG} {C : tkC} {d mc ms pc pc' : Nat} {ls : List (Option tkV)} {Q : Option tkV → tkH → Prop} {h : tkH} (hd : tkD C pc .ireturn 1 pc') (hn : C.2.2.2 = some .boolean) (hq : Q (some (vI (tkb true))) h) : tkX G C d mc ms pc ls [vI (nI 1)] h Q := tk_zreturn (b := true) hd hn hq
theorem tkz {b b' : Bool} {h : tkH} (e : b = b') : tkF (some (vI (tkb b'))) h (some (vI (tkb b))) h := by subst e; exact ⟨rfl, rfl⟩
theorem tki {b b' : Int32} {h : tkH} (e : b = b') : tkF (some (vI b')) h (some (vI b)) h := by subst e; exact ⟨rfl, rfl⟩
theorem tkl {b b' : Int64} {h : tkH} (e : b = b') : tkF (some (vL b')) h (some (vL b)) h := by subst e; exact ⟨rfl, rfl⟩
def rPer (N p : Int32) : Bool := decide (0 ≤ p) && decide (p < N)
def rIn (v lo hi : Int32) : Bool := decide (lo ≤ v) && decide (v ≤ hi)
section REFA
variable {G : tkG} {n : Nat} {T : Nat → Nat × Nat} {I : Nat → Nat → Int32} {L : Nat → Nat → Int64} {P : Nat → Nat → Option Nat}
theorem r_finding (hR : tkRef T P) (f : Int32) : tkM G mX11_finding 0 0 0 [vR 40, vI f] (n, T, I, L, P) (tkF (some (vI f)) (n, T, va_up I 40 (va_up (I 40) 24 (I 40 24 + 1)), L, P)) := by
  refine tkM.of (ls := [some _, some _]) (by decide +kernel) (by decide +kernel) (Nat.le_of_ble_eq_true rfl) rfl ?_
  refine tk_aload0 dX11_finding_0 ?_
  refine tk_dup dX11_finding_1 rfl ?_
  refine tk_getI dX11_finding_2 fX11_155 rfl hR.o ?_
  refine tk_iconst dX11_finding_5 kc_iconst_1 ?_
  first | refine tk_iaddN dX11_finding_6 ?_ | refine tk_iadd dX11_finding_6 ?_
  refine tk_putI dX11_finding_7 fX11_155 wX11_finding_X11_24 rfl hR.o ?_
  refine tk_iload1 dX11_finding_10 ?_
  refine tk_ireturn dX11_finding_11 rfl ?_
  exact ⟨rfl, rfl⟩
theorem r_isIn (v lo hi : Int32) {h : tkH} : tkM G mX11_isIn 0 0 0 [vI v, vI lo, vI hi] h (tkF (some (vI (tkb (rIn v lo hi)))) h) := by
  refine tkM.of (ls := [some _, some _, some _]) (by decide +kernel) (by decide +kernel) (Nat.le_of_ble_eq_true rfl) rfl ?_
  refine tk_iload0 dX11_isIn_0 ?_
  refine tk_iload1 dX11_isIn_1 ?_
  first | refine tk_icmp_ltN dX11_isIn_2 (by omega) (by omega) (fun h2 => ?_) (fun h2 => ?_) | refine tk_jcmp_lt dX11_isIn_2 (fun h2 => ?_) (fun h2 => ?_)
  · refine tk_iconst dX11_isIn_14 kc_iconst_0 ?_
    first | refine tk_zreturn dX11_isIn_15 rfl ?_ | refine tk_zret0 dX11_isIn_15 rfl ?_ | refine tk_zret1 dX11_isIn_15 rfl ?_
    exact tkz (by rw [Bool.eq_iff_iff]; simp only [rIn, rPer, Bool.and_eq_true, Bool.or_eq_true, Bool.not_eq_true', decide_eq_true_eq, Int32.lt_iff_toInt_lt, Int32.le_iff_toInt_le, ← Int32.toInt_inj, nI_toInt, Bool.false_eq_true, true_iff, false_iff, iff_true, iff_false] at *; omega)
  · refine tk_iload0 dX11_isIn_5 ?_
    refine tk_iload2 dX11_isIn_6 ?_
    first | refine tk_icmp_gtN dX11_isIn_7 (by omega) (by omega) (fun h7 => ?_) (fun h7 => ?_) | refine tk_jcmp_gt dX11_isIn_7 (fun h7 => ?_) (fun h7 => ?_)
    · refine tk_iconst dX11_isIn_14 kc_iconst_0 ?_
      first | refine tk_zreturn dX11_isIn_15 rfl ?_ | refine tk_zret0 dX11_isIn_15 rfl ?_ | refine tk_zret1 dX11_isIn_15 rfl ?_
      exact tkz (by rw [Bool.eq_iff_iff]; simp only [rIn, rPer, Bool.and_eq_true, Bool.or_eq_true, Bool.not_eq_true', decide_eq_true_eq, Int32.lt_iff_toInt_lt, Int32.le_iff_toInt_le, ← Int32.toInt_inj, nI_toInt, Bool.false_eq_true, true_iff, false_iff, iff_true, iff_false] at *; omega)
    · refine tk_iconst dX11_isIn_10 kc_iconst_1 ?_
      refine tk_goto dX11_isIn_11 ?_
      first | refine tk_zreturn dX11_isIn_15 rfl ?_ | refine tk_zret0 dX11_isIn_15 rfl ?_ | refine tk_zret1 dX11_isIn_15 rfl ?_
      exact tkz (by rw [Bool.eq_iff_iff]; simp only [rIn, rPer, Bool.and_eq_true, Bool.or_eq_true, Bool.not_eq_true', decide_eq_true_eq, Int32.lt_iff_toInt_lt, Int32.le_iff_toInt_le, ← Int32.toInt_inj, nI_toInt, Bool.false_eq_true, true_iff, false_iff, iff_true, iff_false] at *; omega)
theorem r_isPerson (hR : tkRef T P) (p : Int32) : tkM G mX11_isPerson 0 0 0 [vR 40, vI p] (n, T, I, L, P) (tkF (some (vI (tkb (rPer (I 41 0) p)))) (n, T, I, L, P)) := by
  refine tkM.of (ls := [some _, some _]) (by decide +kernel) (by decide +kernel) (Nat.le_of_ble_eq_true rfl) rfl ?_
  refine tk_iload1 dX11_isPerson_0 ?_
  refine tk_jf_lt dX11_isPerson_1 (fun h1 => ?_) (fun h1 => ?_)
  · refine tk_iconst dX11_isPerson_18 kc_iconst_0 ?_
    first | refine tk_zreturn dX11_isPerson_19 rfl ?_ | refine tk_zret0 dX11_isPerson_19 rfl ?_ | refine tk_zret1 dX11_isPerson_19 rfl ?_
    exact tkz (by rw [Bool.eq_iff_iff]; simp only [rIn, rPer, Bool.and_eq_true, Bool.or_eq_true, Bool.not_eq_true', decide_eq_true_eq, Int32.lt_iff_toInt_lt, Int32.le_iff_toInt_le, ← Int32.toInt_inj, nI_toInt, Bool.false_eq_true, true_iff, false_iff, iff_true, iff_false] at *; omega)
  · refine tk_iload1 dX11_isPerson_4 ?_
    refine tk_aload0 dX11_isPerson_5 ?_
    refine tk_getP dX11_isPerson_6 fX11_7 rfl hR.o (hR.p 0 rfl) ?_
    refine tk_iconst dX11_isPerson_9 kc_iconst_0 ?_
    refine tk_iald dX11_isPerson_10 (hR.t 41 rfl) (by omega) (by omega) ?_
    first | refine tk_icmp_geN dX11_isPerson_11 (by omega) (by omega) (fun h11 => ?_) (fun h11 => ?_) | refine tk_jcmp_ge dX11_isPerson_11 (fun h11 => ?_) (fun h11 => ?_)
    · refine tk_iconst dX11_isPerson_18 kc_iconst_0 ?_
      first | refine tk_zreturn dX11_isPerson_19 rfl ?_ | refine tk_zret0 dX11_isPerson_19 rfl ?_ | refine tk_zret1 dX11_isPerson_19 rfl ?_
      exact tkz (by rw [Bool.eq_iff_iff]; simp only [rIn, rPer, Bool.and_eq_true, Bool.or_eq_true, Bool.not_eq_true', decide_eq_true_eq, Int32.lt_iff_toInt_lt, Int32.le_iff_toInt_le, ← Int32.toInt_inj, nI_toInt, Bool.false_eq_true, true_iff, false_iff, iff_true, iff_false] at *; omega)
    · refine tk_iconst dX11_isPerson_14 kc_iconst_1 ?_
      refine tk_goto dX11_isPerson_15 ?_
      first | refine tk_zreturn dX11_isPerson_19 rfl ?_ | refine tk_zret0 dX11_isPerson_19 rfl ?_ | refine tk_zret1 dX11_isPerson_19 rfl ?_
      exact tkz (by rw [Bool.eq_iff_iff]; simp only [rIn, rPer, Bool.and_eq_true, Bool.or_eq_true, Bool.not_eq_true', decide_eq_true_eq, Int32.lt_iff_toInt_lt, Int32.le_iff_toInt_le, ← Int32.toInt_inj, nI_toInt, Bool.false_eq_true, true_iff, false_iff, iff_true, iff_false] at *; omega)
theorem r_isFact (hR : tkRef T P) (p : Int32) : tkM G mX11_isFact 0 0 0 [vR 40, vI p] (n, T, I, L, P) (tkF (some (vI (tkb (rPer (I 41 1) p)))) (n, T, I, L, P)) := by
  refine tkM.of (ls := [some _, some _]) (by decide +kernel) (by decide +kernel) (Nat.le_of_ble_eq_true rfl) rfl ?_
  refine tk_iload1 dX11_isFact_0 ?_
  refine tk_jf_lt dX11_isFact_1 (fun h1 => ?_) (fun h1 => ?_)
  · refine tk_iconst dX11_isFact_18 kc_iconst_0 ?_
    first | refine tk_zreturn dX11_isFact_19 rfl ?_ | refine tk_zret0 dX11_isFact_19 rfl ?_ | refine tk_zret1 dX11_isFact_19 rfl ?_
    exact tkz (by rw [Bool.eq_iff_iff]; simp only [rIn, rPer, Bool.and_eq_true, Bool.or_eq_true, Bool.not_eq_true', decide_eq_true_eq, Int32.lt_iff_toInt_lt, Int32.le_iff_toInt_le, ← Int32.toInt_inj, nI_toInt, Bool.false_eq_true, true_iff, false_iff, iff_true, iff_false] at *; omega)
  · refine tk_iload1 dX11_isFact_4 ?_
    refine tk_aload0 dX11_isFact_5 ?_
    refine tk_getP dX11_isFact_6 fX11_7 rfl hR.o (hR.p 0 rfl) ?_
    refine tk_iconst dX11_isFact_9 kc_iconst_1 ?_
    refine tk_iald dX11_isFact_10 (hR.t 41 rfl) (by omega) (by omega) ?_
    first | refine tk_icmp_geN dX11_isFact_11 (by omega) (by omega) (fun h11 => ?_) (fun h11 => ?_) | refine tk_jcmp_ge dX11_isFact_11 (fun h11 => ?_) (fun h11 => ?_)
    · refine tk_iconst dX11_isFact_18 kc_iconst_0 ?_
      first | refine tk_zreturn dX11_isFact_19 rfl ?_ | refine tk_zret0 dX11_isFact_19 rfl ?_ | refine tk_zret1 dX11_isFact_19 rfl ?_
      exact tkz (by rw [Bool.eq_iff_iff]; simp only [rIn, rPer, Bool.and_eq_true, Bool.or_eq_true, Bool.not_eq_true', decide_eq_true_eq, Int32.lt_iff_toInt_lt, Int32.le_iff_toInt_le, ← Int32.toInt_inj, nI_toInt, Bool.false_eq_true, true_iff, false_iff, iff_true, iff_false] at *; omega)
    · refine tk_iconst dX11_isFact_14 kc_iconst_1 ?_
      refine tk_goto dX11_isFact_15 ?_
      first | refine tk_zreturn dX11_isFact_19 rfl ?_ | refine tk_zret0 dX11_isFact_19 rfl ?_ | refine tk_zret1 dX11_isFact_19 rfl ?_
      exact tkz (by rw [Bool.eq_iff_iff]; simp only [rIn, rPer, Bool.and_eq_true, Bool.or_eq_true, Bool.not_eq_true', decide_eq_true_eq, Int32.lt_iff_toInt_lt, Int32.le_iff_toInt_le, ← Int32.toInt_inj, nI_toInt, Bool.false_eq_true, true_iff, false_iff, iff_true, iff_false] at *; omega)
theorem r_isSentence (s : Int32) {h : tkH} : tkM G mX11_isSentence 1 0 0 [vI s] h (tkF (some (vI (tkb (rIn s (nI 0) (nI 5))))) h) := by
  refine tkM.of (ls := [some _]) (by decide +kernel) (by decide +kernel) (Nat.le_of_ble_eq_true rfl) rfl ?_
  refine tk_iload0 dX11_isSentence_0 ?_
  refine tk_iconst dX11_isSentence_1 kc_iconst_0 ?_
  refine tk_iconst dX11_isSentence_2 kc_iconst_5 ?_
  refine tk_callS3z dX11_isSentence_3 kX11_159 (r_isIn _ _ _) (Nat.le_of_ble_eq_true rfl) (by omega) ?_
  first | refine tk_zreturn dX11_isSentence_6 rfl ?_ | refine tk_zret0 dX11_isSentence_6 rfl ?_ | refine tk_zret1 dX11_isSentence_6 rfl ?_
  exact ⟨rfl, rfl⟩
theorem r_isGroup (s : Int32) {h : tkH} : tkM G mX11_isGroup 1 0 0 [vI s] h (tkF (some (vI (tkb (rIn s (nI 0) (nI 2))))) h) := by
  refine tkM.of (ls := [some _]) (by decide +kernel) (by decide +kernel) (Nat.le_of_ble_eq_true rfl) rfl ?_
  refine tk_iload0 dX11_isGroup_0 ?_
  refine tk_iconst dX11_isGroup_1 kc_iconst_0 ?_
  refine tk_iconst dX11_isGroup_2 kc_iconst_2 ?_
  refine tk_callS3z dX11_isGroup_3 kX11_159 (r_isIn _ _ _) (Nat.le_of_ble_eq_true rfl) (by omega) ?_
  first | refine tk_zreturn dX11_isGroup_6 rfl ?_ | refine tk_zret0 dX11_isGroup_6 rfl ?_ | refine tk_zret1 dX11_isGroup_6 rfl ?_
  exact ⟨rfl, rfl⟩
theorem r_isSheet (s : Int32) {h : tkH} : tkM G mX11_isSheet 1 0 0 [vI s] h (tkF (some (vI (tkb (rIn s (nI 0) (nI 3))))) h) := by
  refine tkM.of (ls := [some _]) (by decide +kernel) (by decide +kernel) (Nat.le_of_ble_eq_true rfl) rfl ?_
  refine tk_iload0 dX11_isSheet_0 ?_
  refine tk_iconst dX11_isSheet_1 kc_iconst_0 ?_
  refine tk_iconst dX11_isSheet_2 kc_iconst_3 ?_
  refine tk_callS3z dX11_isSheet_3 kX11_159 (r_isIn _ _ _) (Nat.le_of_ble_eq_true rfl) (by omega) ?_
  first | refine tk_zreturn dX11_isSheet_6 rfl ?_ | refine tk_zret0 dX11_isSheet_6 rfl ?_ | refine tk_zret1 dX11_isSheet_6 rfl ?_
  exact ⟨rfl, rfl⟩
def rSign (v : Int32) : Bool := rIn v (nI 0) (nI 3) || (rIn v (nI 10) (nI 14) || rIn v (nI 20) (nI 40))
theorem r_isSign (v : Int32) {h : tkH} : tkM G mX11_isSign 1 0 0 [vI v] h (tkF (some (vI (tkb (rSign v)))) h) := by
  refine tkM.of (ls := [some _]) (by decide +kernel) (by decide +kernel) (Nat.le_of_ble_eq_true rfl) rfl ?_
  refine tk_iload0 dX11_isSign_0 ?_
  refine tk_iconst dX11_isSign_1 kc_iconst_0 ?_
  refine tk_iconst dX11_isSign_2 kc_iconst_3 ?_
  refine tk_callS3z dX11_isSign_3 kX11_159 (r_isIn _ _ _) (Nat.le_of_ble_eq_true rfl) (by omega) ?_
  first | refine tk_jf_neB dX11_isSign_6 (fun h6 => ?_) (fun h6 => ?_) | refine tk_if_ne dX11_isSign_6 (fun h6 => ?_) (fun h6 => ?_)
  · refine tk_iconst dX11_isSign_31 kc_iconst_1 ?_
    refine tk_goto dX11_isSign_32 ?_
    first | refine tk_zreturn dX11_isSign_36 rfl ?_ | refine tk_zret0 dX11_isSign_36 rfl ?_ | refine tk_zret1 dX11_isSign_36 rfl ?_
    exact tkz (by simp_all [rSign])
  · refine tk_iload0 dX11_isSign_9 ?_
    refine tk_bipush dX11_isSign_10 kc_bipush_10 ?_
    refine tk_bipush dX11_isSign_12 kc_bipush_14 ?_
    refine tk_callS3z dX11_isSign_14 kX11_159 (r_isIn _ _ _) (Nat.le_of_ble_eq_true rfl) (by omega) ?_
    first | refine tk_jf_neB dX11_isSign_17 (fun h17 => ?_) (fun h17 => ?_) | refine tk_if_ne dX11_isSign_17 (fun h17 => ?_) (fun h17 => ?_)
    · refine tk_iconst dX11_isSign_31 kc_iconst_1 ?_
      refine tk_goto dX11_isSign_32 ?_
      first | refine tk_zreturn dX11_isSign_36 rfl ?_ | refine tk_zret0 dX11_isSign_36 rfl ?_ | refine tk_zret1 dX11_isSign_36 rfl ?_
      exact tkz (by simp_all [rSign])
    · refine tk_iload0 dX11_isSign_20 ?_
      refine tk_bipush dX11_isSign_21 kc_bipush_20 ?_
      refine tk_bipush dX11_isSign_23 kc_bipush_40 ?_
      refine tk_callS3z dX11_isSign_25 kX11_159 (r_isIn _ _ _) (Nat.le_of_ble_eq_true rfl) (by omega) ?_
      first | refine tk_jf_eqB dX11_isSign_28 (fun h28 => ?_) (fun h28 => ?_) | refine tk_if_eq dX11_isSign_28 (fun h28 => ?_) (fun h28 => ?_)
      · refine tk_iconst dX11_isSign_35 kc_iconst_0 ?_
        first | refine tk_zreturn dX11_isSign_36 rfl ?_ | refine tk_zret0 dX11_isSign_36 rfl ?_ | refine tk_zret1 dX11_isSign_36 rfl ?_
        exact tkz (by simp_all [rSign])
      · refine tk_iconst dX11_isSign_31 kc_iconst_1 ?_
        refine tk_goto dX11_isSign_32 ?_
        first | refine tk_zreturn dX11_isSign_36 rfl ?_ | refine tk_zret0 dX11_isSign_36 rfl ?_ | refine tk_zret1 dX11_isSign_36 rfl ?_
        exact tkz (by simp_all [rSign])
def rTk (v : Int32) : Int32 := if v < nI 10 then nI 0 else if nI 11 ≤ v ∧ v ≤ nI 14 then nI 2 else nI 1
theorem r_takes (v : Int32) {h : tkH} : tkM G mX11_takes 0 0 0 [vI v] h (tkF (some (vI (rTk v))) h) := by
  refine tkM.of (ls := [some _]) (by decide +kernel) (by decide +kernel) (Nat.le_of_ble_eq_true rfl) rfl ?_
  refine tk_iload0 dX11_takes_0 ?_
  refine tk_bipush dX11_takes_1 kc_bipush_10 ?_
  first | refine tk_icmp_geN dX11_takes_3 (by omega) (by omega) (fun h3 => ?_) (fun h3 => ?_) | refine tk_jcmp_ge dX11_takes_3 (fun h3 => ?_) (fun h3 => ?_)
  · refine tk_iload0 dX11_takes_10 ?_
    refine tk_bipush dX11_takes_11 kc_bipush_11 ?_
    first | refine tk_icmp_ltN dX11_takes_13 (by omega) (by omega) (fun h13 => ?_) (fun h13 => ?_) | refine tk_jcmp_lt dX11_takes_13 (fun h13 => ?_) (fun h13 => ?_)
    · refine tk_iconst dX11_takes_26 kc_iconst_1 ?_
      refine tk_ireturn dX11_takes_27 rfl ?_
      exact tki (by unfold rTk; simp only [Int32.lt_iff_toInt_lt, Int32.le_iff_toInt_le, ← Int32.toInt_inj, nI_toInt] at *; split <;> first | rfl | (split <;> first | rfl | (exfalso; omega)) | (exfalso; omega))
    · refine tk_iload0 dX11_takes_16 ?_
      refine tk_bipush dX11_takes_17 kc_bipush_14 ?_
      first | refine tk_icmp_gtN dX11_takes_19 (by omega) (by omega) (fun h19 => ?_) (fun h19 => ?_) | refine tk_jcmp_gt dX11_takes_19 (fun h19 => ?_) (fun h19 => ?_)
      · refine tk_iconst dX11_takes_26 kc_iconst_1 ?_
        refine tk_ireturn dX11_takes_27 rfl ?_
        exact tki (by unfold rTk; simp only [Int32.lt_iff_toInt_lt, Int32.le_iff_toInt_le, ← Int32.toInt_inj, nI_toInt] at *; split <;> first | rfl | (split <;> first | rfl | (exfalso; omega)) | (exfalso; omega))
      · refine tk_iconst dX11_takes_22 kc_iconst_2 ?_
        refine tk_goto dX11_takes_23 ?_
        refine tk_ireturn dX11_takes_27 rfl ?_
        exact tki (by unfold rTk; simp only [Int32.lt_iff_toInt_lt, Int32.le_iff_toInt_le, ← Int32.toInt_inj, nI_toInt] at *; split <;> first | rfl | (split <;> first | rfl | (exfalso; omega)) | (exfalso; omega))
  · refine tk_iconst dX11_takes_6 kc_iconst_0 ?_
    refine tk_goto dX11_takes_7 ?_
    refine tk_ireturn dX11_takes_27 rfl ?_
    exact tki (by unfold rTk; simp only [Int32.lt_iff_toInt_lt, Int32.le_iff_toInt_le, ← Int32.toInt_inj, nI_toInt] at *; split <;> first | rfl | (split <;> first | rfl | (exfalso; omega)) | (exfalso; omega))
def evr (W : Nat) : Int64 := if W = 64 then -1 else jshl 1 (nI W) - 1
theorem r_every (hR : tkRef T P) {W : Nat} (hW : I 40 26 = nI W) (hW2 : W ≤ 64) : tkM G mX11_every 0 0 0 [vR 40] (n, T, I, L, P) (tkF (some (vL (evr W))) (n, T, I, L, P)) := by
  refine tkM.of (ls := [some _]) (by decide +kernel) (by decide +kernel) (Nat.le_of_ble_eq_true rfl) rfl ?_
  refine tk_aload0 dX11_every_0 ?_
  refine tk_getI dX11_every_1 fX11_215 rfl hR.o ?_
  rw [hW]
  refine tk_bipush dX11_every_4 kc_bipush_64 ?_
  first | refine tk_icmp_neN dX11_every_6 (by omega) (by omega) (fun h6 => ?_) (fun h6 => ?_) | refine tk_icmp_ne dX11_every_6 (fun h6 => ?_) (fun h6 => ?_)
  · refine tk_lconst dX11_every_15 (v := 1) (by decide) ?_
    refine tk_aload0 dX11_every_16 ?_
    refine tk_getI dX11_every_17 fX11_215 rfl hR.o ?_
    rw [hW]
    refine tk_lshl dX11_every_20 ?_
    refine tk_lconst dX11_every_21 (v := 1) (by decide) ?_
    refine tk_lsub dX11_every_22 ?_
    refine tk_lreturn dX11_every_23 rfl ?_
    exact tkl (by unfold evr; first | rw [if_pos (by omega)] | rw [if_neg (by omega)])
  · refine tk_ldc2 dX11_every_9 klX11_218 ?_
    refine tk_goto dX11_every_12 ?_
    refine tk_lreturn dX11_every_23 rfl ?_
    exact tkl (by unfold evr; first | rw [if_pos (by omega)] | rw [if_neg (by omega)])
end REFA
