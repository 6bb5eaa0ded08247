/-! ===== the class stands for the reference: the whole ===== -/
def cScr (T : Nat → Nat × Nat) (I : Nat → Nat → Int32) (P : Nat → Nat → Option Nat) : Prop := sObj T P 25 ∧ sObj T P 37 ∧ dObj T P ∧ (T 36).1 = 5 ∧ P 36 0 = some 37 ∧ (∀ q, 4 ≤ q → I 26 q = nI 0) ∧ ∀ q, 4 ≤ q → I 38 q = nI 0
def cShe (T : Nat → Nat × Nat) (I : Nat → Nat → Int32) (P : Nat → Nat → Option Nat) (J : Nat → Nat → Int32) : Prop := T 16 = (27, 4) ∧ ∀ s, s < 4 → P 16 s = some (17 + 2 * s) ∧ hObj T P (17 + 2 * s) (18 + 2 * s) ∧ I (17 + 2 * s) 0 = J 61 s ∧ I (17 + 2 * s) 1 = J 62 s ∧ (∀ j, j < 14 → I (18 + 2 * s) j = hMsk (J 61 s) (J 63 (14 * s + j)) ∧ rNar (J 61 s) (J 63 (14 * s + j)) = J 63 (14 * s + j)) ∧ (J 61 s = nI 0 ∨ J 61 s = nI 8 ∨ J 61 s = nI 16 ∨ J 61 s = nI 32) ∧ ∃ l, l ≤ 14 ∧ J 62 s = nI l
def cOwn (n : Nat) (T : Nat → Nat × Nat) (I : Nat → Nat → Int32) (L : Nat → Nat → Int64) (P : Nat → Nat → Option Nat) (J : Nat → Nat → Int32) (tw kc kn : Nat) : Prop := kObj T P tw ∧ I 0 2 = nI kc ∧ I 0 3 = nI kn ∧ kn < 12 ∧ kc ≤ 12 ∧ I 0 4 = J 40 24 ∧ J 40 20 = nI kc ∧ cTown n T I L P tw J ∧ ∀ i, i < kc → ∃ t, P 15 ((kn + 12 - kc + i) % 12) = some t ∧ cTown n T I L P t (kTw (J 60) (3000 * i))
def cRel (n : Nat) (T : Nat → Nat × Nat) (I : Nat → Nat → Int32) (L : Nat → Nat → Int64) (P : Nat → Nat → Option Nat) (J : Nat → Nat → Int32) : Prop := 87 ≤ n ∧ cScr T I P ∧ cShe T I P J ∧ T 15 = (26, 12) ∧ ∃ tw kc kn, cOwn n T I L P J tw kc kn
def cSt (n : Nat) (T : Nat → Nat × Nat) (I : Nat → Nat → Int32) (L : Nat → Nat → Int64) (P : Nat → Nat → Option Nat) (n' : Nat) (T' : Nat → Nat × Nat) (I' : Nat → Nat → Int32) (L' : Nat → Nat → Int64) (P' : Nat → Nat → Option Nat) : Prop := n ≤ n' ∧ (∀ a, a < n → (a < 25 ∨ 40 ≤ a) → T' a = T a ∧ I' a = I a ∧ L' a = L a ∧ P' a = P a) ∧ cScr T' I' P'
def cKp (n : Nat) (T : Nat → Nat × Nat) (I : Nat → Nat → Int32) (L : Nat → Nat → Int64) (P : Nat → Nat → Option Nat) (n' : Nat) (T' : Nat → Nat × Nat) (I' : Nat → Nat → Int32) (L' : Nat → Nat → Int64) (P' : Nat → Nat → Option Nat) : Prop := n ≤ n' ∧ ∀ a, 40 ≤ a → a < 87 → T' a = T a ∧ I' a = I a ∧ L' a = L a ∧ P' a = P a
def jSm (J J' : Nat → Nat → Int32) : Prop := (∀ a, 41 ≤ a → a ≤ 63 → J a = J' a) ∧ J 40 20 = J' 40 20 ∧ J 40 24 = J' 40 24
theorem jSm.rf {J : Nat → Nat → Int32} : jSm J J := ⟨fun _ _ _ => rfl, rfl, rfl⟩
section REL3
variable {n n' : Nat} {T T' : Nat → Nat × Nat} {I I' J J' : Nat → Nat → Int32} {L L' : Nat → Nat → Int64} {P P' : Nat → Nat → Option Nat}
theorem cSt.ex (h : cSt n T I L P n' T' I' L' P') : cEx n T I L P n' T' I' L' P' := ⟨h.1, fun a ha => h.2.1 a ha.2 (by have := ha.1; omega)⟩
theorem cSt.kp (h : cSt n T I L P n' T' I' L' P') (hn : 87 ≤ n) : cKp n T I L P n' T' I' L' P' := ⟨h.1, fun a h1 h2 => h.2.1 a (by omega) (Or.inr h1)⟩
theorem cKp.rf : cKp n T I L P n T I L P := ⟨Nat.le_refl _, fun _ _ _ => ⟨rfl, rfl, rfl, rfl⟩⟩
theorem cKp.tr {n2 : Nat} {T2 : Nat → Nat × Nat} {I2 : Nat → Nat → Int32} {L2 : Nat → Nat → Int64} {P2 : Nat → Nat → Option Nat} (h : cKp n T I L P n' T' I' L' P') (g : cKp n' T' I' L' P' n2 T2 I2 L2 P2) : cKp n T I L P n2 T2 I2 L2 P2 := by
  refine ⟨Nat.le_trans h.1 g.1, fun a h1 h2 => ?_⟩
  obtain ⟨x1, x2, x3, x4⟩ := h.2 a h1 h2
  obtain ⟨g1, g2, g3, g4⟩ := g.2 a h1 h2
  exact ⟨g1.trans x1, g2.trans x2, g3.trans x3, g4.trans x4⟩
theorem cSt.tr {n2 : Nat} {T2 : Nat → Nat × Nat} {I2 : Nat → Nat → Int32} {L2 : Nat → Nat → Int64} {P2 : Nat → Nat → Option Nat} (h : cSt n T I L P n' T' I' L' P') (g : cSt n' T' I' L' P' n2 T2 I2 L2 P2) : cSt n T I L P n2 T2 I2 L2 P2 := by
  refine ⟨Nat.le_trans h.1 g.1, fun a h1 h2 => ?_, g.2.2⟩
  obtain ⟨x1, x2, x3, x4⟩ := h.2.1 a h1 h2
  obtain ⟨g1, g2, g3, g4⟩ := g.2.1 a (Nat.lt_of_lt_of_le h1 h.1) h2
  exact ⟨g1.trans x1, g2.trans x2, g3.trans x3, g4.trans x4⟩
theorem cScr.nw (h : cScr T I P) (hn : 87 ≤ n) (e : cNw n T I L P n' T' I' L' P') : cScr T' I' P' := by
  have q : ∀ a, 25 ≤ a → a < 40 → T' a = T a ∧ I' a = I a ∧ P' a = P a := fun a h1 h2 => by
    obtain ⟨x1, x2, x3, x4⟩ := e.2 a (by omega)
    exact ⟨x1, x2, x4⟩
  unfold cScr sObj dObj
  simp only [Nat.reduceAdd]
  rw [(q 25 (by omega) (by omega)).1, (q 26 (by omega) (by omega)).1, (q 27 (by omega) (by omega)).1, (q 28 (by omega) (by omega)).1, (q 29 (by omega) (by omega)).1, (q 30 (by omega) (by omega)).1, (q 31 (by omega) (by omega)).1, (q 32 (by omega) (by omega)).1, (q 33 (by omega) (by omega)).1, (q 34 (by omega) (by omega)).1, (q 35 (by omega) (by omega)).1, (q 36 (by omega) (by omega)).1, (q 37 (by omega) (by omega)).1, (q 38 (by omega) (by omega)).1, (q 39 (by omega) (by omega)).1, (q 26 (by omega) (by omega)).2.1, (q 38 (by omega) (by omega)).2.1, (q 25 (by omega) (by omega)).2.2, (q 28 (by omega) (by omega)).2.2, (q 36 (by omega) (by omega)).2.2, (q 37 (by omega) (by omega)).2.2]
  exact h
theorem cScr.st (h : cScr T I P) (hn : 87 ≤ n) (e : cNw n T I L P n' T' I' L' P') : cSt n T I L P n' T' I' L' P' := ⟨e.1, fun a h1 _ => e.2 a h1, h.nw hn e⟩
theorem cShe.st (h : cShe T I P J) (hn : 87 ≤ n) (e : ∀ a, a < 25 → T' a = T a ∧ I' a = I a ∧ P' a = P a) : cShe T' I' P' J := by
  obtain ⟨h1, h2⟩ := h
  refine ⟨by rw [(e 16 (by omega)).1]; exact h1, fun s hs => ?_⟩
  have q := h2 s hs
  have q1 := e (17 + 2 * s) (by omega)
  have q2 := e (18 + 2 * s) (by omega)
  unfold hObj at q ⊢
  rw [(e 16 (by omega)).2.2, q1.1, q1.2.1, q1.2.2, q2.1, q2.2.1]
  exact q
theorem cOwn.st {tw kc kn : Nat} (h : cOwn n T I L P J tw kc kn) (hn : 87 ≤ n) (e : cSt n T I L P n' T' I' L' P') : cOwn n' T' I' L' P' J tw kc kn := by
  obtain ⟨h1, h2, h3, h4, h5, h6, h7, h8, h9⟩ := h
  obtain ⟨a1, a2, a3, a4⟩ := e.2.1 0 (by omega) (Or.inl (by omega))
  obtain ⟨b1, b2, b3, b4⟩ := e.2.1 15 (by omega) (Or.inl (by omega))
  refine ⟨by unfold kObj; rw [a1, a4]; exact h1, by rw [a2]; exact h2, by rw [a2]; exact h3, h4, h5, by rw [a2]; exact h6, h7, h8.ex e.ex, fun i hi => ?_⟩
  obtain ⟨t, t1, t2⟩ := h9 i hi
  exact ⟨t, by rw [b4]; exact t1, t2.ex e.ex⟩
theorem cRel.st (h : cRel n T I L P J) (e : cSt n T I L P n' T' I' L' P') : cRel n' T' I' L' P' J := by
  obtain ⟨h1, h2, h3, h4, tw, kc, kn, h5⟩ := h
  refine ⟨Nat.le_trans h1 e.1, e.2.2, h3.st h1 (fun a ha => ?_), ?_, tw, kc, kn, h5.st h1 e⟩
  · obtain ⟨a1, a2, a3, a4⟩ := e.2.1 a (by omega) (Or.inl ha)
    exact ⟨a1, a2, a4⟩
  · rw [(e.2.1 15 (by omega) (Or.inl (by omega))).1]; exact h4
theorem kSm_of {A A' : Nat → Nat → Int32} (h : ∀ a, 41 ≤ a → a ≤ 59 → A a = A' a) : kSm A A' := fun a h1 h2 j _ => by rw [h a h1 h2]
theorem cOwn.js {tw kc kn : Nat} (h : cOwn n T I L P J tw kc kn) (e : jSm J J') : cOwn n T I L P J' tw kc kn := by
  obtain ⟨h1, h2, h3, h4, h5, h6, h7, h8, h9⟩ := h
  refine ⟨h1, h2, h3, h4, h5, by rw [← e.2.2]; exact h6, by rw [← e.2.1]; exact h7, h8.kc (kSm_of fun a a1 a2 => e.1 a a1 (by omega)), fun i hi => ?_⟩
  rw [← e.1 60 (by omega) (by omega)]
  exact h9 i hi
theorem cShe.js (h : cShe T I P J) (e : jSm J J') : cShe T I P J' := by
  unfold cShe
  rw [← e.1 61 (by omega) (by omega), ← e.1 62 (by omega) (by omega), ← e.1 63 (by omega) (by omega)]
  exact h
theorem cRel.js (h : cRel n T I L P J) (e : jSm J J') : cRel n T I L P J' := by
  obtain ⟨h1, h2, h3, h4, tw, kc, kn, h5⟩ := h
  exact ⟨h1, h2, h3.js e, h4, tw, kc, kn, h5.js e⟩
end REL3
