/-! ===== the class stands for the reference ===== -/
/-- what has a tag lies in the heap -/
theorem tk_bnd {G : tkG} {C : tkC} {d mc ms pc : Nat} {ls : List (Option tkV)} {st : List tkV} {h : tkH} {Q : Option tkV → tkH → Prop} (k : (∀ a, (h.2.1 a).1 ≠ 0 → a < h.1) → tkX G C d mc ms pc ls st h Q) : tkX G C d mc ms pc ls st h Q :=
  tkX_i (fun p l e R s m args below meth c H locs cells slots Z LS hA hL hR => tkX_e (k (fun a ha => (hR.2 a ha).1)) p l e R s m args below meth c H locs cells slots Z LS hA hL hR)
def c4 (n : Nat) (T : Nat → Nat × Nat) (I : Nat → Nat → Int32) (a : Nat) (x : Nat → Int32) : Prop := fz n a ∧ T a = (20, 4) ∧ ∀ i, i < 4 → I a i = x i
def cSen (n : Nat) (T : Nat → Nat × Nat) (I : Nat → Nat → Int32) (P : Nat → Nat → Option Nat) (a : Nat) (x y : Nat → Int32) : Prop := fz n a ∧ T a = (23, 6) ∧ ∀ s, s < 6 → ∃ ra l, P a s = some ra ∧ y s = nI l ∧ cRow n T I P ra l (fun i => x (14 * s + i))
def cPac (n : Nat) (T : Nat → Nat × Nat) (I : Nat → Nat → Int32) (P : Nat → Nat → Option Nat) (a pn : Nat) (pl pg : Nat → Nat) (x : Nat → Int32) : Prop := fz n a ∧ T a = (24, pn) ∧ ∀ k, k < pn → ∃ po ra, P a k = some po ∧ fz n po ∧ (T po).1 = 2 ∧ P po 0 = some ra ∧ I po 1 = nI (pg k) ∧ cRow n T I P ra (pl k) (fun i => x (14 * k + i))
def cMar (n : Nat) (T : Nat → Nat × Nat) (I : Nat → Nat → Int32) (L : Nat → Nat → Int64) (P : Nat → Nat → Option Nat) (a np nf mn : Nat) (mW mr mc : Nat → Nat) (ml : Nat → Nat → Nat) (F ce cs gr : Nat → Int32) : Prop := fz n a ∧ T a = (25, mn) ∧ ∀ m, m < mn → ∃ po, P a m = some po ∧ cPic n T I L P po np nf (mW m) (mr m) (mc m) (fun j => F (64 * m + j)) (fun j => ce (256 * m + j)) (fun j => gr (3 * m + j)) (fun j => cs (70 * m + j)) (ml m) ∧ GW np nf (mW m) (mr m) (fun j => F (64 * m + j)) (fun j => ce (256 * m + j))
/-- a town's cells -/
def cTc (n : Nat) (T : Nat → Nat × Nat) (I : Nat → Nat → Int32) (L : Nat → Nat → Int64) (P : Nat → Nat → Option Nat) (tw : Nat) (A : Nat → Nat → Int32) (np nf W r cn : Nat) (cl : Nat → Nat) (pn : Nat) (pl pg : Nat → Nat) (mn : Nat) (mW mr mc : Nat → Nat) (ml : Nat → Nat → Nat) : Prop := fz n tw ∧ ∃ pic st oa se pa ma, tObj T P tw pic st oa se pa ma ∧ cPic n T I L P pic np nf W r cn (A 42) (A 43) (A 45) (A 49) cl ∧ c4 n T I st (A 44) ∧ c4 n T I oa (A 46) ∧ cSen n T I P se (A 47) (A 48) ∧ cPac n T I P pa pn pl pg (A 51) ∧ cMar n T I L P ma np nf mn mW mr mc ml (A 55) (A 56) (A 57) (A 59)
/-- what holds of a town's ints -/
def cTi' (A : Nat → Nat → Int32) (np nf W r cn : Nat) (cl : Nat → Nat) (pn : Nat) (pl pg : Nat → Nat) (mn : Nat) (mW mr mc : Nat → Nat) (ml : Nat → Nat → Nat) : Prop := TH A np nf W r cn cl ∧ PH A np nf pn pl pg ∧ MH A np nf mn mW mr mc ml ∧ GW np nf W r (A 42) (A 43) ∧ ∀ i, i < 4 → ∃ x, A 46 i = nI x ∧ x < 16
def cTown (n : Nat) (T : Nat → Nat × Nat) (I : Nat → Nat → Int32) (L : Nat → Nat → Int64) (P : Nat → Nat → Option Nat) (tw : Nat) (A : Nat → Nat → Int32) : Prop := ∃ np nf W r cn cl pn pl pg mn mW mr mc ml, cTi' A np nf W r cn cl pn pl pg mn mW mr mc ml ∧ cTc n T I L P tw A np nf W r cn cl pn pl pg mn mW mr mc ml
def kOf (a : Nat) : Nat := match a with
  | 41 => 0
  | 42 => 7
  | 43 => 71
  | 44 => 327
  | 45 => 331
  | 46 => 334
  | 47 => 338
  | 48 => 422
  | 49 => 428
  | 50 => 498
  | 51 => 503
  | 52 => 559
  | 53 => 563
  | 54 => 567
  | 55 => 585
  | 56 => 969
  | 57 => 2505
  | 58 => 2925
  | 59 => 2955
  | _ => 0
def kSz (a : Nat) : Nat := match a with
  | 41 => 7
  | 42 => 64
  | 43 => 256
  | 44 => 4
  | 45 => 3
  | 46 => 4
  | 47 => 84
  | 48 => 6
  | 49 => 70
  | 50 => 5
  | 51 => 56
  | 52 => 4
  | 53 => 4
  | 54 => 18
  | 55 => 384
  | 56 => 1536
  | 57 => 420
  | 58 => 30
  | 59 => 18
  | _ => 0
/-- a town as it is kept -/
def kTw (f : Nat → Int32) (b : Nat) : Nat → Nat → Int32 := fun a j => f (b + kOf a + j)
def kSm (A A' : Nat → Nat → Int32) : Prop := ∀ a, 41 ≤ a → a ≤ 59 → ∀ j, j < kSz a → A a j = A' a j
section REL1
variable {n n' : Nat} {T T' : Nat → Nat × Nat} {I I' : Nat → Nat → Int32} {L L' : Nat → Nat → Int64} {P P' : Nat → Nat → Option Nat}
theorem c4.ex {a : Nat} {x : Nat → Int32} (h : c4 n T I a x) (e : cEx n T I L P n' T' I' L' P') : c4 n' T' I' a x := by
  obtain ⟨h1, h2, h3⟩ := h
  obtain ⟨e1, e2, e3, e4⟩ := e.2 a h1
  exact ⟨h1.mono e.1, by rw [e1]; exact h2, fun i hi => by rw [e2]; exact h3 i hi⟩
theorem cSen.ex {a : Nat} {x y : Nat → Int32} (h : cSen n T I P a x y) (e : cEx n T I L P n' T' I' L' P') : cSen n' T' I' P' a x y := by
  obtain ⟨h1, h2, h3⟩ := h
  obtain ⟨e1, e2, e3, e4⟩ := e.2 a h1
  refine ⟨h1.mono e.1, by rw [e1]; exact h2, fun s hs => ?_⟩
  obtain ⟨ra, l, q1, q2, q3⟩ := h3 s hs
  exact ⟨ra, l, by rw [e4]; exact q1, q2, q3.ex e⟩
theorem cPac.ex {a pn : Nat} {pl pg : Nat → Nat} {x : Nat → Int32} (h : cPac n T I P a pn pl pg x) (e : cEx n T I L P n' T' I' L' P') : cPac n' T' I' P' a pn pl pg x := by
  obtain ⟨h1, h2, h3⟩ := h
  obtain ⟨e1, e2, e3, e4⟩ := e.2 a h1
  refine ⟨h1.mono e.1, by rw [e1]; exact h2, fun s hs => ?_⟩
  obtain ⟨po, ra, q1, q2, q3, q4, q5, q6⟩ := h3 s hs
  obtain ⟨f1, f2, f3, f4⟩ := e.2 po q2
  exact ⟨po, ra, by rw [e4]; exact q1, q2.mono e.1, by rw [f1]; exact q3, by rw [f4]; exact q4, by rw [f2]; exact q5, q6.ex e⟩
theorem cMar.ex {a np nf mn : Nat} {mW mr mc : Nat → Nat} {ml : Nat → Nat → Nat} {F ce cs gr : Nat → Int32} (h : cMar n T I L P a np nf mn mW mr mc ml F ce cs gr) (e : cEx n T I L P n' T' I' L' P') : cMar n' T' I' L' P' a np nf mn mW mr mc ml F ce cs gr := by
  obtain ⟨h1, h2, h3⟩ := h
  obtain ⟨e1, e2, e3, e4⟩ := e.2 a h1
  refine ⟨h1.mono e.1, by rw [e1]; exact h2, fun s hs => ?_⟩
  obtain ⟨po, q1, q2, q3⟩ := h3 s hs
  exact ⟨po, by rw [e4]; exact q1, q2.ex e, q3⟩
theorem tObj.ex {a x0 x1 x2 x3 x4 x5 : Nat} (h : tObj T P a x0 x1 x2 x3 x4 x5) (ha : fz n a) (e : cEx n T I L P n' T' I' L' P') : tObj T' P' a x0 x1 x2 x3 x4 x5 := by
  obtain ⟨e1, e2, e3, e4⟩ := e.2 a ha
  unfold tObj
  rw [e1, e4]
  exact h
theorem cTc.ex {tw : Nat} {A : Nat → Nat → Int32} {np nf W r cn : Nat} {cl : Nat → Nat} {pn : Nat} {pl pg : Nat → Nat} {mn : Nat} {mW mr mc : Nat → Nat} {ml : Nat → Nat → Nat} (h : cTc n T I L P tw A np nf W r cn cl pn pl pg mn mW mr mc ml) (e : cEx n T I L P n' T' I' L' P') : cTc n' T' I' L' P' tw A np nf W r cn cl pn pl pg mn mW mr mc ml := by
  obtain ⟨h1, pic, st, oa, se, pa, ma, h2, h3, h4, h5, h6, h7, h8⟩ := h
  exact ⟨h1.mono e.1, pic, st, oa, se, pa, ma, h2.ex h1 e, h3.ex e, h4.ex e, h5.ex e, h6.ex e, h7.ex e, h8.ex e⟩
theorem cTown.ex {tw : Nat} {A : Nat → Nat → Int32} (h : cTown n T I L P tw A) (e : cEx n T I L P n' T' I' L' P') : cTown n' T' I' L' P' tw A := by
  obtain ⟨np, nf, W, r, cn, cl, pn, pl, pg, mn, mW, mr, mc, ml, h1, h2⟩ := h
  exact ⟨np, nf, W, r, cn, cl, pn, pl, pg, mn, mW, mr, mc, ml, h1, h2.ex e⟩
end REL1
