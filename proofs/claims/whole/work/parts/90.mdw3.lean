/-! ===== cut and made, against what the reference lays ===== -/
def cF (I : Nat → Nat → Int32) (p j : Nat) : Nat := ix (I 30 (128 * p + j))
def fF (I : Nat → Nat → Int32) (j : Nat) : Nat := ix (I 29 j)
/-- a town's worlds are in order -/
def GW (np nf W r : Nat) (F ce : Nat → Int32) : Prop := W ≤ 64 ∧ r < W ∧ (∀ w, w < W → ∃ x, F w = nI x ∧ x < 2 ^ nf) ∧ CAN np W ce
theorem p16 {nf x : Nat} (h : nf ≤ 4) (hx : x < 2 ^ nf) : x < 16 := Nat.lt_of_lt_of_le hx (Nat.pow_le_pow_right (by omega) h)
section MDW3
variable {n : Nat} {T : Nat → Nat × Nat} {I0 I1 : Nat → Nat → Int32} {L : Nat → Nat → Int64} {P : Nat → Nat → Option Nat}
variable {N np nf r0 : Nat} {c : Nat → Nat → Nat} {R : Nat → Bool} {kd : Nat → Nat} {f2 c2 : Nat → Int32} {rv : Option tkV} {h : tkH}
theorem cut_pre (hcu : CUP I0 I1 N r0 np c R kd) (hnf4 : nf ≤ 4) (hc : ∀ p, p < np → ∀ w, w < N → c p w < 256) (hx : ∀ w, w < N → ∃ x, I0 29 w = nI x ∧ x < 2 ^ nf) : (∀ p, p < np → ∀ w, w < cntR R N → I1 30 (128 * p + w) = nI (cF I1 p w) ∧ cF I1 p w < 256) ∧ (∀ w, w < cntR R N → I1 29 w = nI (fF I1 w) ∧ fF I1 w < 2 ^ nf ∧ fF I1 w < 16) ∧ ∀ u, u < N → R u = true → I0 29 u = I1 29 (cntR R u) ∧ ∀ p, p < np → cF I1 p (cntR R u) = c p u := by
  obtain ⟨h1, h2, h3, h4, h5, h6, h7, h8, h9, h10⟩ := hcu
  refine ⟨fun p hp w hw => ?_, fun w hw => ?_, fun u hu ru => ⟨(h7 u hu ru).1.symm, fun p hp => ?_⟩⟩
  · obtain ⟨u, u1, u2, rfl⟩ := cntR_surj hw
    have e := (h7 u u1 u2).2 p hp
    have b := hc p hp u u1
    unfold cF
    rw [e, ix_nI (by omega)]
    exact ⟨rfl, b⟩
  · obtain ⟨u, u1, u2, rfl⟩ := cntR_surj hw
    obtain ⟨x, x1, x2⟩ := hx u u1
    have b := p16 hnf4 x2
    unfold fF
    rw [(h7 u u1 u2).1, x1, ix_nI (by omega)]
    exact ⟨rfl, x2, b⟩
  · have b := hc p hp u hu
    unfold cF
    rw [(h7 u hu ru).2 p hp, ix_nI (by omega)]
theorem CUP.knd (hcu : CUP I0 I1 N r0 np c R kd) : KND (cntR R N) np (cF I1) (I1 29) RT kd := hcu.2.2.2.2.2.2.2.2.1
theorem cut_post {cc : Nat → Nat → Nat} {ff2 : Nat → Int32} {W2 r2 : Nat} (hn : 87 ≤ n) (hcu : CUP I0 I1 N r0 np c R kd) (hnf4 : nf ≤ 4) (hN : N ≤ 128) (hr0 : r0 < N) (hc : ∀ p, p < np → ∀ w, w < N → c p w < 256) (hx : ∀ w, w < N → ∃ x, I0 29 w = nI x ∧ x < 2 ^ nf) (hcc : ∀ p, p < np → ∀ u, u < N → ∀ w, w < N → (cc p u = cc p w ↔ c p u = c p w)) (hff : ∀ w, w < N → ff2 w = I0 29 w) (hL : LAID N r0 np cc ff2 W2 r2 f2 c2) : W2 = cntR (reps RT kd) (cntR R N) ∧ GW np nf W2 r2 f2 c2 ∧ ∀ rv h, MDQ n T I1 L P np nf (cntR (reps RT kd) (cntR R N)) (cntR (reps RT kd) (kd (cntR R r0))) (cntR R N) (cF I1) kd (fF I1) rv h → ∃ T' I' L' P', rv = some (vR (n + 1 + 1)) ∧ h = (n + 1 + 1 + 1, T', I', L', P') ∧ mKp n T I1 L P T' I' L' P' ∧ cWld (n + 1 + 1 + 1) T' I' L' P' (n + 1 + 1) np nf W2 r2 f2 c2 := by
  obtain ⟨p1, p2, p3⟩ := cut_pre hcu hnf4 hc hx
  have hK := hcu.knd
  obtain ⟨l1, l2, l3, l4⟩ := LAID_link p3 hcu.1 hr0 hK hcc hff hL
  have hNN := cntR_le R N
  have hRr : R r0 = true := hcu.1.1
  have hk := hK.1.1 _ (cntR_lt_of hr0 hRr) rfl
  have hk0 := hK.lt _ (cntR_lt_of hr0 hRr)
  have hf : ∀ v, v < cntR R N → kd v = v → f2 (cntR (reps RT kd) v) = nI (fF I1 v) := fun v hv hr => (l4 v hv hr).1.trans (p2 v hv).1
  refine ⟨l1, ⟨l2, ?_, fun w hw => ?_, md_can hK (by omega) l1 l2 (fun v hv hr => (l4 v hv hr).2)⟩, fun rv h hM => ?_⟩
  · rw [l1, l3]; exact cntR_lt_of hk0 (repsT.mpr hk.2.2.1)
  · rw [l1] at hw
    obtain ⟨v, v1, v2, rfl⟩ := cntR_surj hw
    exact ⟨_, hf v v1 (repsT.mp v2), (p2 v v1).2.1⟩
  · rw [l1] at l2 ⊢
    rw [l3]
    exact md_wld hn hK (by omega) rfl l2 hf (fun v hv hr => (l4 v hv hr).2) hM
end MDW3
