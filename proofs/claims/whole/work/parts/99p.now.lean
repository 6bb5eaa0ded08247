/-! ===== the class: its helpers, as the reference has them ===== -/
def cNow (n : Nat) (T : Nat → Nat × Nat) (I : Nat → Nat → Int32) (L : Nat → Nat → Int64) (P : Nat → Nat → Option Nat) (J : Nat → Nat → Int32) (tw np nf W r cn : Nat) (cl : Nat → Nat) (pn : Nat) (pl pg : Nat → Nat) (mn : Nat) (mW mr mc : Nat → Nat) (ml : Nat → Nat → Nat) : Prop := cRel n T I L P J ∧ kObj T P tw ∧ cTi' J np nf W r cn cl pn pl pg mn mW mr mc ml ∧ cTc n T I L P tw J np nf W r cn cl pn pl pg mn mW mr mc ml
def cPst (n : Nat) (T : Nat → Nat × Nat) (I : Nat → Nat → Int32) (L : Nat → Nat → Int64) (P : Nat → Nat → Option Nat) (J : Nat → Nat → Int32) (c : Option Int32) (v : Int32) (J' : Nat → Nat → Int32) : Option tkV → tkH → Prop := fun rv h => ∃ n' T' I' L' P', rv = some (vI (c.getD v)) ∧ h = (n', T', I', L', P') ∧ cKp n T I L P n' T' I' L' P' ∧ cRel n' T' I' L' P' (match c with
  | none => J'
  | some _ => rFnd J)
section NOW
variable {G : tkG} {n : Nat} {T : Nat → Nat × Nat} {I J : Nat → Nat → Int32} {L : Nat → Nat → Int64} {P : Nat → Nat → Option Nat} {tw np nf W r cn : Nat} {cl : Nat → Nat} {pn : Nat} {pl pg : Nat → Nat} {mn : Nat} {mW mr mc : Nat → Nat} {ml : Nat → Nat → Nat}
variable {n' : Nat} {T' : Nat → Nat × Nat} {I' J' : Nat → Nat → Int32} {L' : Nat → Nat → Int64} {P' : Nat → Nat → Option Nat}
theorem cRel.now (h : cRel n T I L P J) : ∃ tw np nf W r cn cl pn pl pg mn mW mr mc ml, cNow n T I L P J tw np nf W r cn cl pn pl pg mn mW mr mc ml := by
  have h' := h
  obtain ⟨h1, h2, h3, h4, tw, kc, kn, o1, o2, o3, o4, o5, o6, o7, ⟨np, nf, W, r, cn, cl, pn, pl, pg, mn, mW, mr, mc, ml, t1, t2⟩, o9⟩ := h'
  exact ⟨tw, np, nf, W, r, cn, cl, pn, pl, pg, mn, mW, mr, mc, ml, h, o1, t1, t2⟩
theorem cRel.kc (h : cRel n T I L P J) : ∃ kc, kc ≤ 12 ∧ J 40 20 = nI kc := by
  obtain ⟨h1, h2, h3, h4, tw, kc, kn, o1, o2, o3, o4, o5, o6, o7, -⟩ := h
  exact ⟨kc, o5, o7⟩
theorem cNow.st (h : cNow n T I L P J tw np nf W r cn cl pn pl pg mn mW mr mc ml) (e : cSt n T I L P n' T' I' L' P') : cNow n' T' I' L' P' J tw np nf W r cn cl pn pl pg mn mW mr mc ml := by
  obtain ⟨h1, h2, h3, h4⟩ := h
  refine ⟨h1.st e, ?_, h3, h4.ex e.ex⟩
  obtain ⟨a1, a2, a3, a4⟩ := e.2.1 0 (by have := h1.1; omega) (Or.inl (by omega))
  unfold kObj; rw [a1, a4]; exact h2
theorem cRel.fnd (h : cRel n T I L P J) : cRel n T (va_up I 0 (va_up (I 0) 4 (I 0 4 + nI 1))) L P (rFnd J) := by
  obtain ⟨h1, h2, h3, h4, tw, kc, kn, o1, o2, o3, o4, o5, o6, o7, o8, o9⟩ := h
  have ex : cEx n T I L P n T (va_up I 0 (va_up (I 0) 4 (I 0 4 + nI 1))) L P := ⟨Nat.le_refl _, fun a ha => ⟨rfl, va_up_ne _ _ (by have := ha.1; omega), rfl, rfl⟩⟩
  refine ⟨h1, h2, ?_, h4, tw, kc, kn, o1, o2, o3, o4, o5, ?_, ?_, ?_, fun i hi => ?_⟩
  · refine ⟨h3.1, fun s hs => ?_⟩
    have q := h3.2 s hs
    rw [va_up_ne _ _ (show ¬ 17 + 2 * s = 0 by omega), va_up_ne _ _ (show ¬ 18 + 2 * s = 0 by omega)]
    exact q
  · show I 0 4 + nI 1 = J 40 24 + 1
    rw [o6]; rfl
  · exact o7
  · exact (o8.ex ex).kc (kSm_of fun a a1 a2 => by unfold rFnd; rw [va_up_ne _ _ (by omega)])
  · obtain ⟨t, t1, t2⟩ := o9 i hi
    exact ⟨t, t1, t2.ex ex⟩
theorem cKp.z {f : Nat → Int32} : cKp n T I L P n T (va_up I 0 f) L P := ⟨Nat.le_refl _, fun a h1 h2 => ⟨rfl, va_up_ne _ _ (by omega), rfl, rfl⟩⟩
theorem cPst_f {c : Option Int32} {f v : Int32} (h : c = some f) (hR : cRel n' T' I' L' P' J) (hk : cKp n T I L P n' T' I' L' P') : cPst n T I L P J c v J' (some (vI f)) (n', T', va_up I' 0 (va_up (I' 0) 4 (I' 0 4 + nI 1)), L', P') := by
  subst h
  exact ⟨n', T', _, L', P', rfl, rfl, hk.tr cKp.z, hR.fnd⟩
theorem cPst_g {c : Option Int32} {v v' : Int32} {J1 : Nat → Nat → Int32} (h : c = none) (hv : v' = v) (hR : cRel n' T' I' L' P' J1) (hk : cKp n T I L P n' T' I' L' P') (hJ : jSm J1 J') : cPst n T I L P J c v J' (some (vI v')) (n', T', I', L', P') := by
  subst h; subst hv
  exact ⟨n', T', I', L', P', rfl, rfl, hk, hR.js hJ⟩
theorem rIn_per {k : Nat} (h1 : 1 ≤ k) (h2 : k ≤ 1000) (x : Int32) : rIn x (nI 0) (nI k - nI 1) = rPer (nI k) x := by
  have e : nI k - nI 1 = nI (k - 1) := pk_sub h1
  rw [e]
  unfold rIn rPer
  rw [nI_0]
  congr 1
  by_cases h0 : x < 0
  · rw [decide_eq_true (show x ≤ nI (k - 1) from ?_), decide_eq_true (show x < nI k from ?_)]
    · exact Int32.lt_of_lt_of_le h0 (nI_pos' (by omega))
    · exact Int32.le_of_lt (Int32.lt_of_lt_of_le h0 (nI_pos' (by omega)))
  · obtain ⟨j, hj, rfl⟩ := nI_of (x := x) h0
    congr 1
    apply propext
    rw [nI_leI hj (by omega), nI_ltI hj (by omega)]
    omega
theorem cTc.pic {A : Nat → Nat → Int32} {pic : Nat} {F ce gr cs : Nat → Int32} (h : cPic n T I L P pic np nf W r cn F ce gr cs cl) : ∃ wa ca ga, pObj T P pic wa ca ga ∧ cWld n T I L P wa np nf W r F ce := by
  obtain ⟨q1, q2, w, c, g, q3, q4, q5, q6, -⟩ := h
  exact ⟨w, c, g, ⟨q2, q3, q4, q5⟩, q6⟩
end NOW
