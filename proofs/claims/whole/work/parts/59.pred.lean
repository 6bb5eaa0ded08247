/-! ===== the class: what its cells stand for ===== -/
/-- cells that are never written once made -/
def fz (n a : Nat) : Prop := ((1 ≤ a ∧ a ≤ 14) ∨ 87 ≤ a) ∧ a < n
def cNw (n : Nat) (T : Nat → Nat × Nat) (I : Nat → Nat → Int32) (L : Nat → Nat → Int64) (P : Nat → Nat → Option Nat) (n' : Nat) (T' : Nat → Nat × Nat) (I' : Nat → Nat → Int32) (L' : Nat → Nat → Int64) (P' : Nat → Nat → Option Nat) : Prop := n ≤ n' ∧ ∀ a, a < n → T' a = T a ∧ I' a = I a ∧ L' a = L a ∧ P' a = P a
def cEx (n : Nat) (T : Nat → Nat × Nat) (I : Nat → Nat → Int32) (L : Nat → Nat → Int64) (P : Nat → Nat → Option Nat) (n' : Nat) (T' : Nat → Nat × Nat) (I' : Nat → Nat → Int32) (L' : Nat → Nat → Int64) (P' : Nat → Nat → Option Nat) : Prop := n ≤ n' ∧ ∀ a, fz n a → T' a = T a ∧ I' a = I a ∧ L' a = L a ∧ P' a = P a
def cRow (n : Nat) (T : Nat → Nat × Nat) (I : Nat → Nat → Int32) (P : Nat → Nat → Option Nat) (a l : Nat) (row : Nat → Int32) : Prop := fz n a ∧ (T a).1 = 4 ∧ ∃ b, fz n b ∧ P a 0 = some b ∧ T b = (20, l) ∧ I a 1 = nI l ∧ l ≤ 14 ∧ ∀ i, i < l → I b i = row i ∧ rSign (row i) = true
def cWld (n : Nat) (T : Nat → Nat × Nat) (I : Nat → Nat → Int32) (L : Nat → Nat → Int64) (P : Nat → Nat → Option Nat) (a np nf W r : Nat) (F ce : Nat → Int32) : Prop := fz n a ∧ (T a).1 = 9 ∧ I a 0 = nI np ∧ I a 1 = nI nf ∧ I a 2 = nI W ∧ I a 3 = nI r ∧ ∃ b c, fz n b ∧ fz n c ∧ P a 4 = some b ∧ P a 5 = some c ∧ T b = (21, nf) ∧ T c = (21, np * W) ∧ (∀ f, f < nf → L b f = rSF F W f) ∧ ∀ p, p < np → ∀ w, w < W → L c (p * W + w) = pB ce W (64 * p + w)
def cPic (n : Nat) (T : Nat → Nat × Nat) (I : Nat → Nat → Int32) (L : Nat → Nat → Int64) (P : Nat → Nat → Option Nat) (a np nf W r cn : Nat) (F ce gr cs : Nat → Int32) (cl : Nat → Nat) : Prop := fz n a ∧ (T a).1 = 3 ∧ ∃ w c g, P a 0 = some w ∧ P a 1 = some c ∧ P a 2 = some g ∧ cWld n T I L P w np nf W r F ce ∧ fz n c ∧ T c = (23, cn) ∧ (∀ i, i < cn → ∃ ra, P c i = some ra ∧ cRow n T I P ra (cl i) (fun j => cs (14 * i + j))) ∧ fz n g ∧ T g = (20, 3) ∧ ∀ i, i < 3 → I g i = gr i
section PRED
variable {n n' : Nat} {T T' : Nat → Nat × Nat} {I I' : Nat → Nat → Int32} {L L' : Nat → Nat → Int64} {P P' : Nat → Nat → Option Nat}
theorem fz.mono {a : Nat} (h : fz n a) (q : n ≤ n') : fz n' a := ⟨h.1, Nat.lt_of_lt_of_le h.2 q⟩
theorem cNw.ex (h : cNw n T I L P n' T' I' L' P') : cEx n T I L P n' T' I' L' P' := ⟨h.1, fun a ha => h.2 a ha.2⟩
theorem cNw.rf : cNw n T I L P n T I L P := ⟨Nat.le_refl _, fun _ _ => ⟨rfl, rfl, rfl, rfl⟩⟩
theorem cEx.rf : cEx n T I L P n T I L P := ⟨Nat.le_refl _, fun _ _ => ⟨rfl, rfl, rfl, rfl⟩⟩
theorem cNw.tr {n2 : Nat} {T2 : Nat → Nat × Nat} {I2 : Nat → Nat → Int32} {L2 : Nat → Nat → Int64} {P2 : Nat → Nat → Option Nat} (h : cNw n T I L P n' T' I' L' P') (g : cNw n' T' I' L' P' n2 T2 I2 L2 P2) : cNw n T I L P n2 T2 I2 L2 P2 := by
  refine ⟨Nat.le_trans h.1 g.1, fun a ha => ?_⟩
  obtain ⟨h1, h2, h3, h4⟩ := h.2 a ha
  obtain ⟨g1, g2, g3, g4⟩ := g.2 a (Nat.lt_of_lt_of_le ha h.1)
  exact ⟨g1.trans h1, g2.trans h2, g3.trans h3, g4.trans h4⟩
theorem cEx.tr {n2 : Nat} {T2 : Nat → Nat × Nat} {I2 : Nat → Nat → Int32} {L2 : Nat → Nat → Int64} {P2 : Nat → Nat → Option Nat} (h : cEx n T I L P n' T' I' L' P') (g : cEx n' T' I' L' P' n2 T2 I2 L2 P2) : cEx n T I L P n2 T2 I2 L2 P2 := by
  refine ⟨Nat.le_trans h.1 g.1, fun a ha => ?_⟩
  obtain ⟨h1, h2, h3, h4⟩ := h.2 a ha
  obtain ⟨g1, g2, g3, g4⟩ := g.2 a (ha.mono h.1)
  exact ⟨g1.trans h1, g2.trans h2, g3.trans h3, g4.trans h4⟩
theorem cNw.up {t : Nat × Nat} {f : Nat → Int32} {g : Nat → Int64} {q : Nat → Option Nat} : cNw n T I L P (n + 1) (va_up T n t) (va_up I n f) (va_up L n g) (va_up P n q) := ⟨Nat.le_succ _, fun a ha => ⟨va_up_ne _ _ (by omega), va_up_ne _ _ (by omega), va_up_ne _ _ (by omega), va_up_ne _ _ (by omega)⟩⟩
theorem cRow.ex {a l : Nat} {row : Nat → Int32} (h : cRow n T I P a l row) (e : cEx n T I L P n' T' I' L' P') : cRow n' T' I' P' a l row := by
  obtain ⟨h1, h2, b, h3, h4, h5, h6, h7, h8⟩ := h
  obtain ⟨e1, e2, e3, e4⟩ := e.2 a h1
  obtain ⟨f1, f2, f3, f4⟩ := e.2 b h3
  refine ⟨h1.mono e.1, by rw [e1]; exact h2, b, h3.mono e.1, by rw [e4]; exact h4, by rw [f1]; exact h5, by rw [e2]; exact h6, h7, fun i hi => ?_⟩
  rw [f2]; exact h8 i hi
theorem cRow.congr {a l : Nat} {row row' : Nat → Int32} (h : cRow n T I P a l row) (e : ∀ i, i < l → row i = row' i) : cRow n T I P a l row' := by
  obtain ⟨h1, h2, b, h3, h4, h5, h6, h7, h8⟩ := h
  exact ⟨h1, h2, b, h3, h4, h5, h6, h7, fun i hi => by rw [← e i hi]; exact h8 i hi⟩
theorem cWld.ex {a np nf W r : Nat} {F ce : Nat → Int32} (h : cWld n T I L P a np nf W r F ce) (e : cEx n T I L P n' T' I' L' P') : cWld n' T' I' L' P' a np nf W r F ce := by
  obtain ⟨h1, h2, h3, h4, h5, h6, b, c, h7, h8, h9, h10, h11, h12, h13, h14⟩ := h
  obtain ⟨e1, e2, e3, e4⟩ := e.2 a h1
  obtain ⟨f1, f2, f3, f4⟩ := e.2 b h7
  obtain ⟨g1, g2, g3, g4⟩ := e.2 c h8
  refine ⟨h1.mono e.1, by rw [e1]; exact h2, by rw [e2]; exact h3, by rw [e2]; exact h4, by rw [e2]; exact h5, by rw [e2]; exact h6, b, c, h7.mono e.1, h8.mono e.1, by rw [e4]; exact h9, by rw [e4]; exact h10, by rw [f1]; exact h11, by rw [g1]; exact h12, fun f hf => ?_, fun p hp w hw => ?_⟩
  · rw [f3]; exact h13 f hf
  · rw [g3]; exact h14 p hp w hw
theorem rSF_congr {F F' : Nat → Int32} {W f : Nat} (h : ∀ w, w < W → F w = F' w) : rSF F W f = rSF F' W f := mk_congr (fun w hw => by rw [h w hw])
theorem pB_congr {ce ce' : Nat → Int32} {W p w : Nat} (hw : w < W) (hW : W ≤ 64) (h : ∀ w, w < W → ce (64 * p + w) = ce' (64 * p + w)) : pB ce W (64 * p + w) = pB ce' W (64 * p + w) := by
  unfold pB
  rw [show (64 * p + w) / 64 = p by omega, show (64 * p + w) % 64 = w by omega, rSt_mk, rSt_mk]
  exact mk_congr (fun v hv => by rw [h v hv, h w hw])
theorem cWld.congr {a np nf W r : Nat} {F F' ce ce' : Nat → Int32} (h : cWld n T I L P a np nf W r F ce) (hW : W ≤ 64) (h1 : ∀ w, w < W → F w = F' w) (h2 : ∀ p, p < np → ∀ w, w < W → ce (64 * p + w) = ce' (64 * p + w)) : cWld n T I L P a np nf W r F' ce' := by
  obtain ⟨q1, q2, q3, q4, q5, q6, b, c, q7, q8, q9, q10, q11, q12, q13, q14⟩ := h
  exact ⟨q1, q2, q3, q4, q5, q6, b, c, q7, q8, q9, q10, q11, q12, fun f hf => (q13 f hf).trans (rSF_congr h1), fun p hp w hw => (q14 p hp w hw).trans (pB_congr hw hW (h2 p hp))⟩
theorem cPic.ex {a np nf W r cn : Nat} {F ce gr cs : Nat → Int32} {cl : Nat → Nat} (h : cPic n T I L P a np nf W r cn F ce gr cs cl) (e : cEx n T I L P n' T' I' L' P') : cPic n' T' I' L' P' a np nf W r cn F ce gr cs cl := by
  obtain ⟨h1, h2, w, c, g, h3, h4, h5, h6, h7, h8, h9, h10, h11, h12⟩ := h
  obtain ⟨e1, e2, e3, e4⟩ := e.2 a h1
  obtain ⟨f1, f2, f3, f4⟩ := e.2 c h7
  obtain ⟨g1, g2, g3, g4⟩ := e.2 g h10
  refine ⟨h1.mono e.1, by rw [e1]; exact h2, w, c, g, by rw [e4]; exact h3, by rw [e4]; exact h4, by rw [e4]; exact h5, h6.ex e, h7.mono e.1, by rw [f1]; exact h8, fun i hi => ?_, h10.mono e.1, by rw [g1]; exact h11, fun i hi => by rw [g2]; exact h12 i hi⟩
  obtain ⟨ra, r1, r2⟩ := h9 i hi
  exact ⟨ra, by rw [f4]; exact r1, r2.ex e⟩
end PRED
