/-! ===== the class: draft, cells laid ===== -/
theorem repsT {kd : Nat → Nat} {w : Nat} : reps RT kd w = true ↔ kd w = w := by
  unfold reps RT
  rw [Bool.true_and, decide_eq_true_eq]
/-- where the first of w's cell comes to stand -/
def fpl (c : Nat → Nat → Nat) (kd : Nat → Nat) (N p w : Nat) : Nat := cntR (reps RT kd) (mnK c RT kd N p w)
def lcA (c : Nat → Nat → Nat) (kd : Nat → Nat) (N p m j i : Nat) : Prop := ∃ v, v < m ∧ kd v = v ∧ fpl c kd N p v = j ∧ cntR (reps RT kd) v = i
section DRAFT9
variable {G : tkG} {n : Nat} {T : Nat → Nat × Nat} {I : Nat → Nat → Int32} {L : Nat → Nat → Int64} {P : Nat → Nat → Option Nat}
def LCQ (n : Nat) (T : Nat → Nat × Nat) (I : Nat → Nat → Int32) (L : Nat → Nat → Int64) (P : Nat → Nat → Option Nat) (c : Nat → Nat → Nat) (kd : Nat → Nat) (N W p b : Nat) : Option tkV → tkH → Prop := fun r h => ∃ g4 g5 X, r = none ∧ h = (n, T, I, va_up (va_up (va_up L 34 g4) 35 g5) b X, P) ∧ (∀ w, w < N → kd w = w → ∀ i, tb (X (p * W + cntR (reps RT kd) w)) i = true ↔ lcA c kd N p N (fpl c kd N p w) i) ∧ ∀ j, j < p * W ∨ p * W + W ≤ j → X j = L b j
theorem lcA_no {c : Nat → Nat → Nat} {kd : Nat → Nat} {N p w j i : Nat} (h : ¬ kd w = w) : lcA c kd N p w j i ↔ lcA c kd N p (w + 1) j i := by
  constructor
  · rintro ⟨v, a, b⟩
    exact ⟨v, by omega, b⟩
  · rintro ⟨v, a, b, d⟩
    refine ⟨v, ?_, b, d⟩
    by_cases e : v = w
    · subst e; exact absurd b h
    · omega
theorem lcA_up {c : Nat → Nat → Nat} {kd : Nat → Nat} {N W p w j i : Nat} {X : Nat → Int64} (i1 : ∀ j, j < W → ∀ i, tb (X (p * W + j)) i = true ↔ lcA c kd N p w j i) (hr : kd w = w) (hp : cntR (reps RT kd) w < 64) (hj : j < W) : tb (va_up X (p * W + fpl c kd N p w) (X (p * W + fpl c kd N p w) ||| jshl 1 (nI (cntR (reps RT kd) w))) (p * W + j)) i = true ↔ lcA c kd N p (w + 1) j i := by
  by_cases e : j = fpl c kd N p w
  · subst e
    rw [va_up_self, tb_orT, i1 _ hj i, tb_one hp]
    constructor
    · rintro (⟨v, a, b⟩ | h)
      · exact ⟨v, by omega, b⟩
      · exact ⟨w, by omega, hr, rfl, h.symm⟩
    · rintro ⟨v, a, b, d, f⟩
      by_cases e2 : v = w
      · subst e2; exact Or.inr f.symm
      · exact Or.inl ⟨v, by omega, b, d, f⟩
  · rw [va_up_ne _ _ (by omega), i1 j hj i]
    constructor
    · rintro ⟨v, a, b⟩
      exact ⟨v, by omega, b⟩
    · rintro ⟨v, a, b, d, f⟩
      refine ⟨v, ?_, b, d, f⟩
      by_cases e2 : v = w
      · subst e2; exact absurd d.symm e
      · omega
theorem c_layCells {p N np W b : Nat} {c : Nat → Nat → Nat} {f : Nat → Int32} {kd : Nat → Nat} (hD : dObj T P) (hpn : p < np) (hnp4 : np ≤ 4) (hN : I 28 2 = nI N) (hN2 : N ≤ 128) (hW : I 28 4 = nI W) (hWc : W = cntR (reps RT kd) N) (hW2 : W ≤ 64) (hc : ∀ w, w < N → I 30 (128 * p + w) = nI (c p w) ∧ c p w < 256) (hki : ∀ w, w < N → I 31 w = nI (kd w) ∧ I 32 w = nI (cntR (reps RT kd) w)) (hK : KND N np c f RT kd) (hb : 87 ≤ b) (hTb : T b = (21, np * W)) (hz : ∀ j, j < W → L b (p * W + j) = 0) : tkM G mX0_layCells 3 0 0 [vR 28, vI (nI p), vR b] (n, T, I, L, P) (LCQ n T I L P c kd N W p b) := by
  have hD' := hD
  obtain ⟨d1, d2, d3, d4, d5, d6, d7, d8, d9, d10, d11, d12, d13, d14, d15⟩ := hD'
  have hk : ∀ u, u < N → kd u < N := fun u hu => by have := (hK.1.1 u hu rfl).2.1; omega
  have hbl : p * W + W ≤ np * W := by
    have : (p + 1) * W ≤ np * W := Nat.mul_le_mul_right W hpn
    rw [Nat.succ_mul] at this
    exact this
  have hle : np * W ≤ 4 * W := Nat.mul_le_mul_right W hnp4
  have hpl : ∀ w, w < N → kd w = w → cntR (reps RT kd) w < W := fun w hw hr => by rw [hWc]; exact cntR_lt_of hw (repsT.mpr hr)
  have hfp : ∀ w, w < N → fpl c kd N p w < W := fun w hw => hpl _ (mnK_KS (c := c) (p := p) hw hk).2.2 (mnK_rep hK hpn hw).1
  have hl4 : ∀ {X : Nat → Int64} (x : Nat), x < 256 → va_up (va_up (va_up L 34 (tkcp (L 34) (fun x => cOr kLo c RT kd p x N) 256)) 35 (tkcp (L 35) (fun x => cOr kHi c RT kd p x N) 256)) b X 34 x = cOr kLo c RT kd p x N := fun x hx => by rw [va_up_ne _ _ (by omega), va_up_ne _ _ (by omega), va_up_self, tkcp_lt hx]
  have hl5 : ∀ {X : Nat → Int64} (x : Nat), x < 256 → va_up (va_up (va_up L 34 (tkcp (L 34) (fun x => cOr kLo c RT kd p x N) 256)) 35 (tkcp (L 35) (fun x => cOr kHi c RT kd p x N) 256)) b X 35 x = cOr kHi c RT kd p x N := fun x hx => by rw [va_up_ne _ _ (by omega), va_up_self, tkcp_lt hx]
  have stepB : ∀ (w : Nat) (X : Nat → Int64), w < N → (∀ v, v < w → kd v = v → ∀ i, tb (X (p * W + cntR (reps RT kd) v)) i = true ↔ lcA c kd N p N (fpl c kd N p v) i) → (∀ j, j < W → (∀ v, v < w → kd v = v → ¬ cntR (reps RT kd) v = j) → ∀ i, tb (X (p * W + j)) i = true ↔ lcA c kd N p N j i) → ∀ i, tb (X (p * W + cntR (reps RT kd) (mnK c RT kd N p w))) i = true ↔ lcA c kd N p N (fpl c kd N p w) i := by
    intro w X hw i1 i2 i
    obtain ⟨r1, r2⟩ := mnK_rep hK hpn hw
    by_cases e : mnK c RT kd N p w < w
    · have q := i1 _ e r1 i
      rw [show fpl c kd N p (mnK c RT kd N p w) = fpl c kd N p w by unfold fpl; rw [r2]] at q
      exact q
    · refine i2 _ (hfp w hw) (fun v hv hr q => e ?_) i
      rw [← cntR_inj (repsT.mpr hr) (repsT.mpr r1) q]; exact hv
  have loopB : ∀ (k w : Nat) (X : Nat → Int64), w + k = N → (∀ v, v < w → kd v = v → ∀ i, tb (X (p * W + cntR (reps RT kd) v)) i = true ↔ lcA c kd N p N (fpl c kd N p v) i) → (∀ j, j < W → (∀ v, v < w → kd v = v → ¬ cntR (reps RT kd) v = j) → ∀ i, tb (X (p * W + j)) i = true ↔ lcA c kd N p N j i) → (∀ j, j < p * W ∨ p * W + W ≤ j → X j = L b j) → tkX G mX0_layCells 3 0 0 68 [some (vR 28), some (vI (nI p)), some (vR b), some (vI (nI (p * W))), some (vI (nI w))] [] (n, T, I, va_up (va_up (va_up L 34 (tkcp (L 34) (fun x => cOr kLo c RT kd p x N) 256)) 35 (tkcp (L 35) (fun x => cOr kHi c RT kd p x N) 256)) b X, P) (LCQ n T I L P c kd N W p b) := by
    intro k
    induction k with
    | zero =>
      intro w X hw i1 i2 i3
      refine tk_iload4 dX0_layCells_68 ?_
      refine tk_aload0 dX0_layCells_70 ?_
      refine tk_getI dX0_layCells_71 fX0_52 rfl (by first | assumption | exact va_up_self _ _ _ | exact (va_up_ne _ _ (by omega)).trans (by assumption) | exact congrArg Prod.fst (va_up_self _ _ _) | exact (congrArg Prod.fst (va_up_ne _ _ (by omega))).trans (by assumption) | exact (congrFun (va_up_ne _ _ (by omega)) _).trans (by assumption) | exact (va_up_ne _ _ (by omega)).trans (va_up_self _ _ _) | exact (va_up_ne _ _ (by omega)).trans ((va_up_ne _ _ (by omega)).trans (by assumption)) | exact (congrArg Prod.fst ((va_up_ne _ _ (by omega)).trans (va_up_ne _ _ (by omega)))).trans (by assumption) | exact (congrFun ((va_up_ne _ _ (by omega)).trans (va_up_ne _ _ (by omega))) _).trans (by assumption) | (rw [va_up_self, va_up_ne _ _ (by omega)]; assumption)) ?_
      rw [hN]
      first | refine tk_icmp_geN dX0_layCells_74 (by omega) (by omega) (fun h74 => ?_) (fun h74 => ?_) | refine tk_jcmp_ge dX0_layCells_74 (fun h74 => ?_) (fun h74 => ?_)
      · refine tk_return dX0_layCells_117 rfl ?_
        exact ⟨_, _, X, rfl, rfl, fun v hv hr i => i1 v (by omega) hr i, i3⟩
      · exfalso; omega
    | succ k ihB =>
      intro w X hw i1 i2 i3
      have hwN : w < N := by omega
      have hkw := hk w hwN
      have hfw := hfp w hwN
      have hfw2 : cntR (reps RT kd) (mnK c RT kd N p w) < W := hfw
      have hplw : kd w = w → cntR (reps RT kd) w < W := fun hr => hpl w hwN hr
      have hcl := cntR_le (reps RT kd) w
      by_cases hrw : kd w = w
      · have hplw2 := hplw hrw
        refine tk_iload4 dX0_layCells_68 ?_
        refine tk_aload0 dX0_layCells_70 ?_
        refine tk_getI dX0_layCells_71 fX0_52 rfl (by first | assumption | exact va_up_self _ _ _ | exact (va_up_ne _ _ (by omega)).trans (by assumption) | exact congrArg Prod.fst (va_up_self _ _ _) | exact (congrArg Prod.fst (va_up_ne _ _ (by omega))).trans (by assumption) | exact (congrFun (va_up_ne _ _ (by omega)) _).trans (by assumption) | exact (va_up_ne _ _ (by omega)).trans (va_up_self _ _ _) | exact (va_up_ne _ _ (by omega)).trans ((va_up_ne _ _ (by omega)).trans (by assumption)) | exact (congrArg Prod.fst ((va_up_ne _ _ (by omega)).trans (va_up_ne _ _ (by omega)))).trans (by assumption) | exact (congrFun ((va_up_ne _ _ (by omega)).trans (va_up_ne _ _ (by omega))) _).trans (by assumption) | (rw [va_up_self, va_up_ne _ _ (by omega)]; assumption)) ?_
        rw [hN]
        first | refine tk_icmp_geN dX0_layCells_74 (by omega) (by omega) (fun h74 => ?_) (fun h74 => ?_) | refine tk_jcmp_ge dX0_layCells_74 (fun h74 => ?_) (fun h74 => ?_)
        · exfalso; omega
        · refine tk_aload0 dX0_layCells_77 ?_
          refine tk_getP dX0_layCells_78 fX0_18 rfl (by first | assumption | exact va_up_self _ _ _ | exact (va_up_ne _ _ (by omega)).trans (by assumption) | exact congrArg Prod.fst (va_up_self _ _ _) | exact (congrArg Prod.fst (va_up_ne _ _ (by omega))).trans (by assumption) | exact (congrFun (va_up_ne _ _ (by omega)) _).trans (by assumption) | exact (va_up_ne _ _ (by omega)).trans (va_up_self _ _ _) | exact (va_up_ne _ _ (by omega)).trans ((va_up_ne _ _ (by omega)).trans (by assumption)) | exact (congrArg Prod.fst ((va_up_ne _ _ (by omega)).trans (va_up_ne _ _ (by omega)))).trans (by assumption) | exact (congrFun ((va_up_ne _ _ (by omega)).trans (va_up_ne _ _ (by omega))) _).trans (by assumption) | (rw [va_up_self, va_up_ne _ _ (by omega)]; assumption)) (by first | assumption | exact va_up_self _ _ _ | exact (va_up_ne _ _ (by omega)).trans (by assumption) | exact congrArg Prod.fst (va_up_self _ _ _) | exact (congrArg Prod.fst (va_up_ne _ _ (by omega))).trans (by assumption) | exact (congrFun (va_up_ne _ _ (by omega)) _).trans (by assumption) | exact (va_up_ne _ _ (by omega)).trans (va_up_self _ _ _) | exact (va_up_ne _ _ (by omega)).trans ((va_up_ne _ _ (by omega)).trans (by assumption)) | exact (congrArg Prod.fst ((va_up_ne _ _ (by omega)).trans (va_up_ne _ _ (by omega)))).trans (by assumption) | exact (congrFun ((va_up_ne _ _ (by omega)).trans (va_up_ne _ _ (by omega))) _).trans (by assumption) | (rw [va_up_self, va_up_ne _ _ (by omega)]; assumption)) ?_
          refine tk_iload4 dX0_layCells_81 ?_
          refine tk_iald dX0_layCells_83 (by first | assumption | exact va_up_self _ _ _ | exact (va_up_ne _ _ (by omega)).trans (by assumption) | exact congrArg Prod.fst (va_up_self _ _ _) | exact (congrArg Prod.fst (va_up_ne _ _ (by omega))).trans (by assumption) | exact (congrFun (va_up_ne _ _ (by omega)) _).trans (by assumption) | exact (va_up_ne _ _ (by omega)).trans (va_up_self _ _ _) | exact (va_up_ne _ _ (by omega)).trans ((va_up_ne _ _ (by omega)).trans (by assumption)) | exact (congrArg Prod.fst ((va_up_ne _ _ (by omega)).trans (va_up_ne _ _ (by omega)))).trans (by assumption) | exact (congrFun ((va_up_ne _ _ (by omega)).trans (va_up_ne _ _ (by omega))) _).trans (by assumption) | (rw [va_up_self, va_up_ne _ _ (by omega)]; assumption)) (by omega) (by omega) ?_
          rw [(hki w (by omega)).1]
          refine tk_iload4 dX0_layCells_84 ?_
          first | refine tk_icmp_neN dX0_layCells_86 (by omega) (by omega) (fun h86 => ?_) (fun h86 => ?_) | refine tk_icmp_ne dX0_layCells_86 (fun h86 => ?_) (fun h86 => ?_)
          · first | refine tk_iinc4 dX0_layCells_111 (kc_inc _) rfl ?_ | refine tk_iinc4 dX0_layCells_111 rfl rfl ?_
            refine tk_goto dX0_layCells_114 ?_
            first
              | exact absurd hrw h86
              | (have hval : ∀ i, tb (X (p * W + cntR (reps RT kd) (mnK c RT kd N p w))) i = true ↔ lcA c kd N p N (fpl c kd N p w) i := stepB w X hwN i1 i2
                 refine tk_wk (by repeat' (first | exact trivial | refine ⟨Or.inl rfl, ?_⟩ | refine ⟨Or.inr rfl, ?_⟩)) (ihB (w + 1) _ (by omega) (fun v hv hr i => ?_) (fun j hj hno i => ?_) (fun j hj => ?_))
                 · by_cases e : v = w
                   · subst e; rw [va_up_self]; exact hval i
                   · rw [va_up_ne _ _ (fun q => e (cntR_inj (repsT.mpr hr) (repsT.mpr h86) (by omega)))]; exact i1 v (by omega) hr i
                 · have := hno w (by omega) h86
                   rw [va_up_ne _ _ (by omega)]; exact i2 j hj (fun v hv hr => hno v (by omega) hr) i
                 · rw [va_up_ne _ _ (by omega)]; exact i3 j hj)
          · refine tk_aload2 dX0_layCells_89 ?_
            refine tk_iload3 dX0_layCells_90 ?_
            refine tk_aload0 dX0_layCells_91 ?_
            refine tk_getP dX0_layCells_92 fX0_21 rfl (by first | assumption | exact va_up_self _ _ _ | exact (va_up_ne _ _ (by omega)).trans (by assumption) | exact congrArg Prod.fst (va_up_self _ _ _) | exact (congrArg Prod.fst (va_up_ne _ _ (by omega))).trans (by assumption) | exact (congrFun (va_up_ne _ _ (by omega)) _).trans (by assumption) | exact (va_up_ne _ _ (by omega)).trans (va_up_self _ _ _) | exact (va_up_ne _ _ (by omega)).trans ((va_up_ne _ _ (by omega)).trans (by assumption)) | exact (congrArg Prod.fst ((va_up_ne _ _ (by omega)).trans (va_up_ne _ _ (by omega)))).trans (by assumption) | exact (congrFun ((va_up_ne _ _ (by omega)).trans (va_up_ne _ _ (by omega))) _).trans (by assumption) | (rw [va_up_self, va_up_ne _ _ (by omega)]; assumption)) (by first | assumption | exact va_up_self _ _ _ | exact (va_up_ne _ _ (by omega)).trans (by assumption) | exact congrArg Prod.fst (va_up_self _ _ _) | exact (congrArg Prod.fst (va_up_ne _ _ (by omega))).trans (by assumption) | exact (congrFun (va_up_ne _ _ (by omega)) _).trans (by assumption) | exact (va_up_ne _ _ (by omega)).trans (va_up_self _ _ _) | exact (va_up_ne _ _ (by omega)).trans ((va_up_ne _ _ (by omega)).trans (by assumption)) | exact (congrArg Prod.fst ((va_up_ne _ _ (by omega)).trans (va_up_ne _ _ (by omega)))).trans (by assumption) | exact (congrFun ((va_up_ne _ _ (by omega)).trans (va_up_ne _ _ (by omega))) _).trans (by assumption) | (rw [va_up_self, va_up_ne _ _ (by omega)]; assumption)) ?_
            refine tk_iload4 dX0_layCells_95 ?_
            refine tk_iald dX0_layCells_97 (by first | assumption | exact va_up_self _ _ _ | exact (va_up_ne _ _ (by omega)).trans (by assumption) | exact congrArg Prod.fst (va_up_self _ _ _) | exact (congrArg Prod.fst (va_up_ne _ _ (by omega))).trans (by assumption) | exact (congrFun (va_up_ne _ _ (by omega)) _).trans (by assumption) | exact (va_up_ne _ _ (by omega)).trans (va_up_self _ _ _) | exact (va_up_ne _ _ (by omega)).trans ((va_up_ne _ _ (by omega)).trans (by assumption)) | exact (congrArg Prod.fst ((va_up_ne _ _ (by omega)).trans (va_up_ne _ _ (by omega)))).trans (by assumption) | exact (congrFun ((va_up_ne _ _ (by omega)).trans (va_up_ne _ _ (by omega))) _).trans (by assumption) | (rw [va_up_self, va_up_ne _ _ (by omega)]; assumption)) (by omega) (by omega) ?_
            rw [(hki w (by omega)).2]
            first | refine tk_iaddN dX0_layCells_98 ?_ | refine tk_iadd dX0_layCells_98 ?_
            refine tk_aload2 dX0_layCells_99 ?_
            refine tk_iload3 dX0_layCells_100 ?_
            refine tk_aload0 dX0_layCells_101 ?_
            refine tk_iload1 dX0_layCells_102 ?_
            refine tk_iload4 dX0_layCells_103 ?_
            refine tk_callV2z dX0_layCells_105 kX0_131 (by first | assumption | exact va_up_self _ _ _ | exact (va_up_ne _ _ (by omega)).trans (by assumption) | exact congrArg Prod.fst (va_up_self _ _ _) | exact (congrArg Prod.fst (va_up_ne _ _ (by omega))).trans (by assumption) | exact (congrFun (va_up_ne _ _ (by omega)) _).trans (by assumption) | exact (va_up_ne _ _ (by omega)).trans (va_up_self _ _ _) | exact (va_up_ne _ _ (by omega)).trans ((va_up_ne _ _ (by omega)).trans (by assumption)) | exact (congrArg Prod.fst ((va_up_ne _ _ (by omega)).trans (va_up_ne _ _ (by omega)))).trans (by assumption) | exact (congrFun ((va_up_ne _ _ (by omega)).trans (va_up_ne _ _ (by omega))) _).trans (by assumption) | (rw [va_up_self, va_up_ne _ _ (by omega)]; assumption)) (c_firstPlace (pl := cntR (reps RT kd)) hD (by omega) hN2 (show w < N by omega) (fun w hw => hc w hw) hk (fun w hw => (hki w hw).2) hl4 hl5) (Nat.le_of_ble_eq_true rfl) (by omega) ?_
            first | refine tk_iaddN dX0_layCells_108 ?_ | refine tk_iadd dX0_layCells_108 ?_
            refine tk_lald dX0_layCells_109 (by first | assumption | exact va_up_self _ _ _ | exact (va_up_ne _ _ (by omega)).trans (by assumption) | exact congrArg Prod.fst (va_up_self _ _ _) | exact (congrArg Prod.fst (va_up_ne _ _ (by omega))).trans (by assumption) | exact (congrFun (va_up_ne _ _ (by omega)) _).trans (by assumption) | exact (va_up_ne _ _ (by omega)).trans (va_up_self _ _ _) | exact (va_up_ne _ _ (by omega)).trans ((va_up_ne _ _ (by omega)).trans (by assumption)) | exact (congrArg Prod.fst ((va_up_ne _ _ (by omega)).trans (va_up_ne _ _ (by omega)))).trans (by assumption) | exact (congrFun ((va_up_ne _ _ (by omega)).trans (va_up_ne _ _ (by omega))) _).trans (by assumption) | (rw [va_up_self, va_up_ne _ _ (by omega)]; assumption)) (by omega) (by omega) ?_
            rw [va_up_self]
            refine tk_last dX0_layCells_110 (by first | assumption | exact va_up_self _ _ _ | exact (va_up_ne _ _ (by omega)).trans (by assumption) | exact congrArg Prod.fst (va_up_self _ _ _) | exact (congrArg Prod.fst (va_up_ne _ _ (by omega))).trans (by assumption) | exact (congrFun (va_up_ne _ _ (by omega)) _).trans (by assumption) | exact (va_up_ne _ _ (by omega)).trans (va_up_self _ _ _) | exact (va_up_ne _ _ (by omega)).trans ((va_up_ne _ _ (by omega)).trans (by assumption)) | exact (congrArg Prod.fst ((va_up_ne _ _ (by omega)).trans (va_up_ne _ _ (by omega)))).trans (by assumption) | exact (congrFun ((va_up_ne _ _ (by omega)).trans (va_up_ne _ _ (by omega))) _).trans (by assumption) | (rw [va_up_self, va_up_ne _ _ (by omega)]; assumption)) (by omega) (by omega) ?_
            rw [bx_uu, va_up_self]
            first | refine tk_iinc4 dX0_layCells_111 (kc_inc _) rfl ?_ | refine tk_iinc4 dX0_layCells_111 rfl rfl ?_
            refine tk_goto dX0_layCells_114 ?_
            first
              | exact absurd hrw h86
              | (have hval : ∀ i, tb (X (p * W + cntR (reps RT kd) (mnK c RT kd N p w))) i = true ↔ lcA c kd N p N (fpl c kd N p w) i := stepB w X hwN i1 i2
                 refine tk_wk (by repeat' (first | exact trivial | refine ⟨Or.inl rfl, ?_⟩ | refine ⟨Or.inr rfl, ?_⟩)) (ihB (w + 1) _ (by omega) (fun v hv hr i => ?_) (fun j hj hno i => ?_) (fun j hj => ?_))
                 · by_cases e : v = w
                   · subst e; rw [va_up_self]; exact hval i
                   · rw [va_up_ne _ _ (fun q => e (cntR_inj (repsT.mpr hr) (repsT.mpr h86) (by omega)))]; exact i1 v (by omega) hr i
                 · have := hno w (by omega) h86
                   rw [va_up_ne _ _ (by omega)]; exact i2 j hj (fun v hv hr => hno v (by omega) hr) i
                 · rw [va_up_ne _ _ (by omega)]; exact i3 j hj)
      · refine tk_iload4 dX0_layCells_68 ?_
        refine tk_aload0 dX0_layCells_70 ?_
        refine tk_getI dX0_layCells_71 fX0_52 rfl (by first | assumption | exact va_up_self _ _ _ | exact (va_up_ne _ _ (by omega)).trans (by assumption) | exact congrArg Prod.fst (va_up_self _ _ _) | exact (congrArg Prod.fst (va_up_ne _ _ (by omega))).trans (by assumption) | exact (congrFun (va_up_ne _ _ (by omega)) _).trans (by assumption) | exact (va_up_ne _ _ (by omega)).trans (va_up_self _ _ _) | exact (va_up_ne _ _ (by omega)).trans ((va_up_ne _ _ (by omega)).trans (by assumption)) | exact (congrArg Prod.fst ((va_up_ne _ _ (by omega)).trans (va_up_ne _ _ (by omega)))).trans (by assumption) | exact (congrFun ((va_up_ne _ _ (by omega)).trans (va_up_ne _ _ (by omega))) _).trans (by assumption) | (rw [va_up_self, va_up_ne _ _ (by omega)]; assumption)) ?_
        rw [hN]
        first | refine tk_icmp_geN dX0_layCells_74 (by omega) (by omega) (fun h74 => ?_) (fun h74 => ?_) | refine tk_jcmp_ge dX0_layCells_74 (fun h74 => ?_) (fun h74 => ?_)
        · exfalso; omega
        · refine tk_aload0 dX0_layCells_77 ?_
          refine tk_getP dX0_layCells_78 fX0_18 rfl (by first | assumption | exact va_up_self _ _ _ | exact (va_up_ne _ _ (by omega)).trans (by assumption) | exact congrArg Prod.fst (va_up_self _ _ _) | exact (congrArg Prod.fst (va_up_ne _ _ (by omega))).trans (by assumption) | exact (congrFun (va_up_ne _ _ (by omega)) _).trans (by assumption) | exact (va_up_ne _ _ (by omega)).trans (va_up_self _ _ _) | exact (va_up_ne _ _ (by omega)).trans ((va_up_ne _ _ (by omega)).trans (by assumption)) | exact (congrArg Prod.fst ((va_up_ne _ _ (by omega)).trans (va_up_ne _ _ (by omega)))).trans (by assumption) | exact (congrFun ((va_up_ne _ _ (by omega)).trans (va_up_ne _ _ (by omega))) _).trans (by assumption) | (rw [va_up_self, va_up_ne _ _ (by omega)]; assumption)) (by first | assumption | exact va_up_self _ _ _ | exact (va_up_ne _ _ (by omega)).trans (by assumption) | exact congrArg Prod.fst (va_up_self _ _ _) | exact (congrArg Prod.fst (va_up_ne _ _ (by omega))).trans (by assumption) | exact (congrFun (va_up_ne _ _ (by omega)) _).trans (by assumption) | exact (va_up_ne _ _ (by omega)).trans (va_up_self _ _ _) | exact (va_up_ne _ _ (by omega)).trans ((va_up_ne _ _ (by omega)).trans (by assumption)) | exact (congrArg Prod.fst ((va_up_ne _ _ (by omega)).trans (va_up_ne _ _ (by omega)))).trans (by assumption) | exact (congrFun ((va_up_ne _ _ (by omega)).trans (va_up_ne _ _ (by omega))) _).trans (by assumption) | (rw [va_up_self, va_up_ne _ _ (by omega)]; assumption)) ?_
          refine tk_iload4 dX0_layCells_81 ?_
          refine tk_iald dX0_layCells_83 (by first | assumption | exact va_up_self _ _ _ | exact (va_up_ne _ _ (by omega)).trans (by assumption) | exact congrArg Prod.fst (va_up_self _ _ _) | exact (congrArg Prod.fst (va_up_ne _ _ (by omega))).trans (by assumption) | exact (congrFun (va_up_ne _ _ (by omega)) _).trans (by assumption) | exact (va_up_ne _ _ (by omega)).trans (va_up_self _ _ _) | exact (va_up_ne _ _ (by omega)).trans ((va_up_ne _ _ (by omega)).trans (by assumption)) | exact (congrArg Prod.fst ((va_up_ne _ _ (by omega)).trans (va_up_ne _ _ (by omega)))).trans (by assumption) | exact (congrFun ((va_up_ne _ _ (by omega)).trans (va_up_ne _ _ (by omega))) _).trans (by assumption) | (rw [va_up_self, va_up_ne _ _ (by omega)]; assumption)) (by omega) (by omega) ?_
          rw [(hki w (by omega)).1]
          refine tk_iload4 dX0_layCells_84 ?_
          first | refine tk_icmp_neN dX0_layCells_86 (by omega) (by omega) (fun h86 => ?_) (fun h86 => ?_) | refine tk_icmp_ne dX0_layCells_86 (fun h86 => ?_) (fun h86 => ?_)
          · first | refine tk_iinc4 dX0_layCells_111 (kc_inc _) rfl ?_ | refine tk_iinc4 dX0_layCells_111 rfl rfl ?_
            refine tk_goto dX0_layCells_114 ?_
            refine tk_wk (by repeat' (first | exact trivial | refine ⟨Or.inl rfl, ?_⟩ | refine ⟨Or.inr rfl, ?_⟩)) (ihB (w + 1) X (by omega) (fun v hv hr => i1 v (by by_cases e : v = w; (subst e; exact absurd hr hrw); omega) hr) (fun j hj hno => i2 j hj (fun v hv hr => hno v (by omega) hr)) i3)
          · exact absurd h86 hrw
  have loopA : ∀ (k w : Nat) (X : Nat → Int64), w + k = N → (∀ j, j < W → ∀ i, tb (X (p * W + j)) i = true ↔ lcA c kd N p w j i) → (∀ j, j < p * W ∨ p * W + W ≤ j → X j = L b j) → tkX G mX0_layCells 3 0 0 15 [some (vR 28), some (vI (nI p)), some (vR b), some (vI (nI (p * W))), some (vI (nI w))] [] (n, T, I, va_up (va_up (va_up L 34 (tkcp (L 34) (fun x => cOr kLo c RT kd p x N) 256)) 35 (tkcp (L 35) (fun x => cOr kHi c RT kd p x N) 256)) b X, P) (LCQ n T I L P c kd N W p b) := by
    intro k
    induction k with
    | zero =>
      intro w X hw i1 i2
      refine tk_iload4 dX0_layCells_15 ?_
      refine tk_aload0 dX0_layCells_17 ?_
      refine tk_getI dX0_layCells_18 fX0_52 rfl (by first | assumption | exact va_up_self _ _ _ | exact (va_up_ne _ _ (by omega)).trans (by assumption) | exact congrArg Prod.fst (va_up_self _ _ _) | exact (congrArg Prod.fst (va_up_ne _ _ (by omega))).trans (by assumption) | exact (congrFun (va_up_ne _ _ (by omega)) _).trans (by assumption) | exact (va_up_ne _ _ (by omega)).trans (va_up_self _ _ _) | exact (va_up_ne _ _ (by omega)).trans ((va_up_ne _ _ (by omega)).trans (by assumption)) | exact (congrArg Prod.fst ((va_up_ne _ _ (by omega)).trans (va_up_ne _ _ (by omega)))).trans (by assumption) | exact (congrFun ((va_up_ne _ _ (by omega)).trans (va_up_ne _ _ (by omega))) _).trans (by assumption) | (rw [va_up_self, va_up_ne _ _ (by omega)]; assumption)) ?_
      rw [hN]
      first | refine tk_icmp_geN dX0_layCells_21 (by omega) (by omega) (fun h21 => ?_) (fun h21 => ?_) | refine tk_jcmp_ge dX0_layCells_21 (fun h21 => ?_) (fun h21 => ?_)
      · refine tk_iconst dX0_layCells_65 kc_iconst_0 ?_
        refine tk_istore4 dX0_layCells_66 rfl ?_
        refine tk_wk (by repeat' (first | exact trivial | refine ⟨Or.inl rfl, ?_⟩ | refine ⟨Or.inr rfl, ?_⟩)) (loopB N 0 X (by omega) (fun v hv => by omega) (fun j hj _ i => ?_) i2)
        rw [i1 j hj i, show w = N by omega]
      · exfalso; omega
    | succ k ih =>
      intro w X hw i1 i2
      have hwN : w < N := by omega
      have hkw := hk w hwN
      have hfw := hfp w hwN
      have hfw2 : cntR (reps RT kd) (mnK c RT kd N p w) < W := hfw
      have hcl := cntR_le (reps RT kd) w
      by_cases hrw : kd w = w
      · have hplw : cntR (reps RT kd) w < 64 := by have := hpl w hwN hrw; omega
        refine tk_iload4 dX0_layCells_15 ?_
        refine tk_aload0 dX0_layCells_17 ?_
        refine tk_getI dX0_layCells_18 fX0_52 rfl (by first | assumption | exact va_up_self _ _ _ | exact (va_up_ne _ _ (by omega)).trans (by assumption) | exact congrArg Prod.fst (va_up_self _ _ _) | exact (congrArg Prod.fst (va_up_ne _ _ (by omega))).trans (by assumption) | exact (congrFun (va_up_ne _ _ (by omega)) _).trans (by assumption) | exact (va_up_ne _ _ (by omega)).trans (va_up_self _ _ _) | exact (va_up_ne _ _ (by omega)).trans ((va_up_ne _ _ (by omega)).trans (by assumption)) | exact (congrArg Prod.fst ((va_up_ne _ _ (by omega)).trans (va_up_ne _ _ (by omega)))).trans (by assumption) | exact (congrFun ((va_up_ne _ _ (by omega)).trans (va_up_ne _ _ (by omega))) _).trans (by assumption) | (rw [va_up_self, va_up_ne _ _ (by omega)]; assumption)) ?_
        rw [hN]
        first | refine tk_icmp_geN dX0_layCells_21 (by omega) (by omega) (fun h21 => ?_) (fun h21 => ?_) | refine tk_jcmp_ge dX0_layCells_21 (fun h21 => ?_) (fun h21 => ?_)
        · exfalso; omega
        · refine tk_aload0 dX0_layCells_24 ?_
          refine tk_getP dX0_layCells_25 fX0_18 rfl (by first | assumption | exact va_up_self _ _ _ | exact (va_up_ne _ _ (by omega)).trans (by assumption) | exact congrArg Prod.fst (va_up_self _ _ _) | exact (congrArg Prod.fst (va_up_ne _ _ (by omega))).trans (by assumption) | exact (congrFun (va_up_ne _ _ (by omega)) _).trans (by assumption) | exact (va_up_ne _ _ (by omega)).trans (va_up_self _ _ _) | exact (va_up_ne _ _ (by omega)).trans ((va_up_ne _ _ (by omega)).trans (by assumption)) | exact (congrArg Prod.fst ((va_up_ne _ _ (by omega)).trans (va_up_ne _ _ (by omega)))).trans (by assumption) | exact (congrFun ((va_up_ne _ _ (by omega)).trans (va_up_ne _ _ (by omega))) _).trans (by assumption) | (rw [va_up_self, va_up_ne _ _ (by omega)]; assumption)) (by first | assumption | exact va_up_self _ _ _ | exact (va_up_ne _ _ (by omega)).trans (by assumption) | exact congrArg Prod.fst (va_up_self _ _ _) | exact (congrArg Prod.fst (va_up_ne _ _ (by omega))).trans (by assumption) | exact (congrFun (va_up_ne _ _ (by omega)) _).trans (by assumption) | exact (va_up_ne _ _ (by omega)).trans (va_up_self _ _ _) | exact (va_up_ne _ _ (by omega)).trans ((va_up_ne _ _ (by omega)).trans (by assumption)) | exact (congrArg Prod.fst ((va_up_ne _ _ (by omega)).trans (va_up_ne _ _ (by omega)))).trans (by assumption) | exact (congrFun ((va_up_ne _ _ (by omega)).trans (va_up_ne _ _ (by omega))) _).trans (by assumption) | (rw [va_up_self, va_up_ne _ _ (by omega)]; assumption)) ?_
          refine tk_iload4 dX0_layCells_28 ?_
          refine tk_iald dX0_layCells_30 (by first | assumption | exact va_up_self _ _ _ | exact (va_up_ne _ _ (by omega)).trans (by assumption) | exact congrArg Prod.fst (va_up_self _ _ _) | exact (congrArg Prod.fst (va_up_ne _ _ (by omega))).trans (by assumption) | exact (congrFun (va_up_ne _ _ (by omega)) _).trans (by assumption) | exact (va_up_ne _ _ (by omega)).trans (va_up_self _ _ _) | exact (va_up_ne _ _ (by omega)).trans ((va_up_ne _ _ (by omega)).trans (by assumption)) | exact (congrArg Prod.fst ((va_up_ne _ _ (by omega)).trans (va_up_ne _ _ (by omega)))).trans (by assumption) | exact (congrFun ((va_up_ne _ _ (by omega)).trans (va_up_ne _ _ (by omega))) _).trans (by assumption) | (rw [va_up_self, va_up_ne _ _ (by omega)]; assumption)) (by omega) (by omega) ?_
          rw [(hki w (by omega)).1]
          refine tk_iload4 dX0_layCells_31 ?_
          first | refine tk_icmp_neN dX0_layCells_33 (by omega) (by omega) (fun h33 => ?_) (fun h33 => ?_) | refine tk_icmp_ne dX0_layCells_33 (fun h33 => ?_) (fun h33 => ?_)
          · first | refine tk_iinc4 dX0_layCells_59 (kc_inc _) rfl ?_ | refine tk_iinc4 dX0_layCells_59 rfl rfl ?_
            refine tk_goto dX0_layCells_62 ?_
            first
              | exact absurd hrw h33
              | (refine tk_wk (by repeat' (first | exact trivial | refine ⟨Or.inl rfl, ?_⟩ | refine ⟨Or.inr rfl, ?_⟩)) (ih (w + 1) _ (by omega) (fun j hj i => ?_) (fun j hj => ?_))
                 · show tb (va_up X (p * W + fpl c kd N p w) (X (p * W + fpl c kd N p w) ||| jshl 1 (nI (cntR (reps RT kd) w))) (p * W + j)) i = true ↔ _
                   exact lcA_up i1 (h33 : kd w = w) hplw hj
                 · rw [va_up_ne _ _ (show ¬ j = p * W + cntR (reps RT kd) (mnK c RT kd N p w) by omega)]; exact i2 j hj)
          · refine tk_aload2 dX0_layCells_36 ?_
            refine tk_iload3 dX0_layCells_37 ?_
            refine tk_aload0 dX0_layCells_38 ?_
            refine tk_iload1 dX0_layCells_39 ?_
            refine tk_iload4 dX0_layCells_40 ?_
            refine tk_callV2z dX0_layCells_42 kX0_131 (by first | assumption | exact va_up_self _ _ _ | exact (va_up_ne _ _ (by omega)).trans (by assumption) | exact congrArg Prod.fst (va_up_self _ _ _) | exact (congrArg Prod.fst (va_up_ne _ _ (by omega))).trans (by assumption) | exact (congrFun (va_up_ne _ _ (by omega)) _).trans (by assumption) | exact (va_up_ne _ _ (by omega)).trans (va_up_self _ _ _) | exact (va_up_ne _ _ (by omega)).trans ((va_up_ne _ _ (by omega)).trans (by assumption)) | exact (congrArg Prod.fst ((va_up_ne _ _ (by omega)).trans (va_up_ne _ _ (by omega)))).trans (by assumption) | exact (congrFun ((va_up_ne _ _ (by omega)).trans (va_up_ne _ _ (by omega))) _).trans (by assumption) | (rw [va_up_self, va_up_ne _ _ (by omega)]; assumption)) (c_firstPlace (pl := cntR (reps RT kd)) hD (by omega) hN2 (show w < N by omega) (fun w hw => hc w hw) hk (fun w hw => (hki w hw).2) hl4 hl5) (Nat.le_of_ble_eq_true rfl) (by omega) ?_
            first | refine tk_iaddN dX0_layCells_45 ?_ | refine tk_iadd dX0_layCells_45 ?_
            first | refine tk_dup2 dX0_layCells_46 rfl rfl ?_ | refine tk_dup2L dX0_layCells_46 ?_
            refine tk_lald dX0_layCells_47 (by first | assumption | exact va_up_self _ _ _ | exact (va_up_ne _ _ (by omega)).trans (by assumption) | exact congrArg Prod.fst (va_up_self _ _ _) | exact (congrArg Prod.fst (va_up_ne _ _ (by omega))).trans (by assumption) | exact (congrFun (va_up_ne _ _ (by omega)) _).trans (by assumption) | exact (va_up_ne _ _ (by omega)).trans (va_up_self _ _ _) | exact (va_up_ne _ _ (by omega)).trans ((va_up_ne _ _ (by omega)).trans (by assumption)) | exact (congrArg Prod.fst ((va_up_ne _ _ (by omega)).trans (va_up_ne _ _ (by omega)))).trans (by assumption) | exact (congrFun ((va_up_ne _ _ (by omega)).trans (va_up_ne _ _ (by omega))) _).trans (by assumption) | (rw [va_up_self, va_up_ne _ _ (by omega)]; assumption)) (by omega) (by omega) ?_
            rw [va_up_self]
            refine tk_lconst dX0_layCells_48 (v := 1) (by decide) ?_
            refine tk_aload0 dX0_layCells_49 ?_
            refine tk_getP dX0_layCells_50 fX0_21 rfl (by first | assumption | exact va_up_self _ _ _ | exact (va_up_ne _ _ (by omega)).trans (by assumption) | exact congrArg Prod.fst (va_up_self _ _ _) | exact (congrArg Prod.fst (va_up_ne _ _ (by omega))).trans (by assumption) | exact (congrFun (va_up_ne _ _ (by omega)) _).trans (by assumption) | exact (va_up_ne _ _ (by omega)).trans (va_up_self _ _ _) | exact (va_up_ne _ _ (by omega)).trans ((va_up_ne _ _ (by omega)).trans (by assumption)) | exact (congrArg Prod.fst ((va_up_ne _ _ (by omega)).trans (va_up_ne _ _ (by omega)))).trans (by assumption) | exact (congrFun ((va_up_ne _ _ (by omega)).trans (va_up_ne _ _ (by omega))) _).trans (by assumption) | (rw [va_up_self, va_up_ne _ _ (by omega)]; assumption)) (by first | assumption | exact va_up_self _ _ _ | exact (va_up_ne _ _ (by omega)).trans (by assumption) | exact congrArg Prod.fst (va_up_self _ _ _) | exact (congrArg Prod.fst (va_up_ne _ _ (by omega))).trans (by assumption) | exact (congrFun (va_up_ne _ _ (by omega)) _).trans (by assumption) | exact (va_up_ne _ _ (by omega)).trans (va_up_self _ _ _) | exact (va_up_ne _ _ (by omega)).trans ((va_up_ne _ _ (by omega)).trans (by assumption)) | exact (congrArg Prod.fst ((va_up_ne _ _ (by omega)).trans (va_up_ne _ _ (by omega)))).trans (by assumption) | exact (congrFun ((va_up_ne _ _ (by omega)).trans (va_up_ne _ _ (by omega))) _).trans (by assumption) | (rw [va_up_self, va_up_ne _ _ (by omega)]; assumption)) ?_
            refine tk_iload4 dX0_layCells_53 ?_
            refine tk_iald dX0_layCells_55 (by first | assumption | exact va_up_self _ _ _ | exact (va_up_ne _ _ (by omega)).trans (by assumption) | exact congrArg Prod.fst (va_up_self _ _ _) | exact (congrArg Prod.fst (va_up_ne _ _ (by omega))).trans (by assumption) | exact (congrFun (va_up_ne _ _ (by omega)) _).trans (by assumption) | exact (va_up_ne _ _ (by omega)).trans (va_up_self _ _ _) | exact (va_up_ne _ _ (by omega)).trans ((va_up_ne _ _ (by omega)).trans (by assumption)) | exact (congrArg Prod.fst ((va_up_ne _ _ (by omega)).trans (va_up_ne _ _ (by omega)))).trans (by assumption) | exact (congrFun ((va_up_ne _ _ (by omega)).trans (va_up_ne _ _ (by omega))) _).trans (by assumption) | (rw [va_up_self, va_up_ne _ _ (by omega)]; assumption)) (by omega) (by omega) ?_
            rw [(hki w (by omega)).2]
            refine tk_lshl dX0_layCells_56 ?_
            refine tk_lor dX0_layCells_57 ?_
            refine tk_last dX0_layCells_58 (by first | assumption | exact va_up_self _ _ _ | exact (va_up_ne _ _ (by omega)).trans (by assumption) | exact congrArg Prod.fst (va_up_self _ _ _) | exact (congrArg Prod.fst (va_up_ne _ _ (by omega))).trans (by assumption) | exact (congrFun (va_up_ne _ _ (by omega)) _).trans (by assumption) | exact (va_up_ne _ _ (by omega)).trans (va_up_self _ _ _) | exact (va_up_ne _ _ (by omega)).trans ((va_up_ne _ _ (by omega)).trans (by assumption)) | exact (congrArg Prod.fst ((va_up_ne _ _ (by omega)).trans (va_up_ne _ _ (by omega)))).trans (by assumption) | exact (congrFun ((va_up_ne _ _ (by omega)).trans (va_up_ne _ _ (by omega))) _).trans (by assumption) | (rw [va_up_self, va_up_ne _ _ (by omega)]; assumption)) (by omega) (by omega) ?_
            rw [bx_uu, va_up_self]
            first | refine tk_iinc4 dX0_layCells_59 (kc_inc _) rfl ?_ | refine tk_iinc4 dX0_layCells_59 rfl rfl ?_
            refine tk_goto dX0_layCells_62 ?_
            first
              | exact absurd hrw h33
              | (refine tk_wk (by repeat' (first | exact trivial | refine ⟨Or.inl rfl, ?_⟩ | refine ⟨Or.inr rfl, ?_⟩)) (ih (w + 1) _ (by omega) (fun j hj i => ?_) (fun j hj => ?_))
                 · show tb (va_up X (p * W + fpl c kd N p w) (X (p * W + fpl c kd N p w) ||| jshl 1 (nI (cntR (reps RT kd) w))) (p * W + j)) i = true ↔ _
                   exact lcA_up i1 (h33 : kd w = w) hplw hj
                 · rw [va_up_ne _ _ (show ¬ j = p * W + cntR (reps RT kd) (mnK c RT kd N p w) by omega)]; exact i2 j hj)
      · refine tk_iload4 dX0_layCells_15 ?_
        refine tk_aload0 dX0_layCells_17 ?_
        refine tk_getI dX0_layCells_18 fX0_52 rfl (by first | assumption | exact va_up_self _ _ _ | exact (va_up_ne _ _ (by omega)).trans (by assumption) | exact congrArg Prod.fst (va_up_self _ _ _) | exact (congrArg Prod.fst (va_up_ne _ _ (by omega))).trans (by assumption) | exact (congrFun (va_up_ne _ _ (by omega)) _).trans (by assumption) | exact (va_up_ne _ _ (by omega)).trans (va_up_self _ _ _) | exact (va_up_ne _ _ (by omega)).trans ((va_up_ne _ _ (by omega)).trans (by assumption)) | exact (congrArg Prod.fst ((va_up_ne _ _ (by omega)).trans (va_up_ne _ _ (by omega)))).trans (by assumption) | exact (congrFun ((va_up_ne _ _ (by omega)).trans (va_up_ne _ _ (by omega))) _).trans (by assumption) | (rw [va_up_self, va_up_ne _ _ (by omega)]; assumption)) ?_
        rw [hN]
        first | refine tk_icmp_geN dX0_layCells_21 (by omega) (by omega) (fun h21 => ?_) (fun h21 => ?_) | refine tk_jcmp_ge dX0_layCells_21 (fun h21 => ?_) (fun h21 => ?_)
        · exfalso; omega
        · refine tk_aload0 dX0_layCells_24 ?_
          refine tk_getP dX0_layCells_25 fX0_18 rfl (by first | assumption | exact va_up_self _ _ _ | exact (va_up_ne _ _ (by omega)).trans (by assumption) | exact congrArg Prod.fst (va_up_self _ _ _) | exact (congrArg Prod.fst (va_up_ne _ _ (by omega))).trans (by assumption) | exact (congrFun (va_up_ne _ _ (by omega)) _).trans (by assumption) | exact (va_up_ne _ _ (by omega)).trans (va_up_self _ _ _) | exact (va_up_ne _ _ (by omega)).trans ((va_up_ne _ _ (by omega)).trans (by assumption)) | exact (congrArg Prod.fst ((va_up_ne _ _ (by omega)).trans (va_up_ne _ _ (by omega)))).trans (by assumption) | exact (congrFun ((va_up_ne _ _ (by omega)).trans (va_up_ne _ _ (by omega))) _).trans (by assumption) | (rw [va_up_self, va_up_ne _ _ (by omega)]; assumption)) (by first | assumption | exact va_up_self _ _ _ | exact (va_up_ne _ _ (by omega)).trans (by assumption) | exact congrArg Prod.fst (va_up_self _ _ _) | exact (congrArg Prod.fst (va_up_ne _ _ (by omega))).trans (by assumption) | exact (congrFun (va_up_ne _ _ (by omega)) _).trans (by assumption) | exact (va_up_ne _ _ (by omega)).trans (va_up_self _ _ _) | exact (va_up_ne _ _ (by omega)).trans ((va_up_ne _ _ (by omega)).trans (by assumption)) | exact (congrArg Prod.fst ((va_up_ne _ _ (by omega)).trans (va_up_ne _ _ (by omega)))).trans (by assumption) | exact (congrFun ((va_up_ne _ _ (by omega)).trans (va_up_ne _ _ (by omega))) _).trans (by assumption) | (rw [va_up_self, va_up_ne _ _ (by omega)]; assumption)) ?_
          refine tk_iload4 dX0_layCells_28 ?_
          refine tk_iald dX0_layCells_30 (by first | assumption | exact va_up_self _ _ _ | exact (va_up_ne _ _ (by omega)).trans (by assumption) | exact congrArg Prod.fst (va_up_self _ _ _) | exact (congrArg Prod.fst (va_up_ne _ _ (by omega))).trans (by assumption) | exact (congrFun (va_up_ne _ _ (by omega)) _).trans (by assumption) | exact (va_up_ne _ _ (by omega)).trans (va_up_self _ _ _) | exact (va_up_ne _ _ (by omega)).trans ((va_up_ne _ _ (by omega)).trans (by assumption)) | exact (congrArg Prod.fst ((va_up_ne _ _ (by omega)).trans (va_up_ne _ _ (by omega)))).trans (by assumption) | exact (congrFun ((va_up_ne _ _ (by omega)).trans (va_up_ne _ _ (by omega))) _).trans (by assumption) | (rw [va_up_self, va_up_ne _ _ (by omega)]; assumption)) (by omega) (by omega) ?_
          rw [(hki w (by omega)).1]
          refine tk_iload4 dX0_layCells_31 ?_
          first | refine tk_icmp_neN dX0_layCells_33 (by omega) (by omega) (fun h33 => ?_) (fun h33 => ?_) | refine tk_icmp_ne dX0_layCells_33 (fun h33 => ?_) (fun h33 => ?_)
          · first | refine tk_iinc4 dX0_layCells_59 (kc_inc _) rfl ?_ | refine tk_iinc4 dX0_layCells_59 rfl rfl ?_
            refine tk_goto dX0_layCells_62 ?_
            refine tk_wk (by repeat' (first | exact trivial | refine ⟨Or.inl rfl, ?_⟩ | refine ⟨Or.inr rfl, ?_⟩)) (ih (w + 1) X (by omega) (fun j hj i => ?_) i2)
            rw [i1 j hj i]
            exact lcA_no hrw
          · exact absurd h33 hrw
  refine tkM.of (ls := [some _, some _, some _, none, none]) (by decide +kernel) (by decide +kernel) (Nat.le_of_ble_eq_true rfl) rfl ?_
  refine tk_aload0 dX0_layCells_0 ?_
  refine tk_iload1 dX0_layCells_1 ?_
  refine tk_callV1y dX0_layCells_2 kX0_111 (by first | assumption | exact va_up_self _ _ _ | exact (va_up_ne _ _ (by omega)).trans (by assumption) | exact congrArg Prod.fst (va_up_self _ _ _) | exact (congrArg Prod.fst (va_up_ne _ _ (by omega))).trans (by assumption) | exact (congrFun (va_up_ne _ _ (by omega)) _).trans (by assumption) | exact (va_up_ne _ _ (by omega)).trans (va_up_self _ _ _) | exact (va_up_ne _ _ (by omega)).trans ((va_up_ne _ _ (by omega)).trans (by assumption)) | exact (congrArg Prod.fst ((va_up_ne _ _ (by omega)).trans (va_up_ne _ _ (by omega)))).trans (by assumption) | exact (congrFun ((va_up_ne _ _ (by omega)).trans (va_up_ne _ _ (by omega))) _).trans (by assumption) | (rw [va_up_self, va_up_ne _ _ (by omega)]; assumption)) (c_gather hD (by omega) hN hN2 hc (fun w hw => ⟨(hki w hw).1, by have := hk w hw; omega⟩)) (Nat.le_of_ble_eq_true rfl) (by omega) ?_
  refine tk_iload1 dX0_layCells_5 ?_
  refine tk_aload0 dX0_layCells_6 ?_
  refine tk_getI dX0_layCells_7 fX0_91 rfl (by first | assumption | exact va_up_self _ _ _ | exact (va_up_ne _ _ (by omega)).trans (by assumption) | exact congrArg Prod.fst (va_up_self _ _ _) | exact (congrArg Prod.fst (va_up_ne _ _ (by omega))).trans (by assumption) | exact (congrFun (va_up_ne _ _ (by omega)) _).trans (by assumption) | exact (va_up_ne _ _ (by omega)).trans (va_up_self _ _ _) | exact (va_up_ne _ _ (by omega)).trans ((va_up_ne _ _ (by omega)).trans (by assumption)) | exact (congrArg Prod.fst ((va_up_ne _ _ (by omega)).trans (va_up_ne _ _ (by omega)))).trans (by assumption) | exact (congrFun ((va_up_ne _ _ (by omega)).trans (va_up_ne _ _ (by omega))) _).trans (by assumption) | (rw [va_up_self, va_up_ne _ _ (by omega)]; assumption)) ?_
  rw [hW]
  first | refine tk_imulN dX0_layCells_10 ?_ | refine tk_imul dX0_layCells_10 ?_
  refine tk_istore3 dX0_layCells_11 rfl ?_
  refine tk_iconst dX0_layCells_12 kc_iconst_0 ?_
  refine tk_istore4 dX0_layCells_13 rfl ?_
  have q := loopA N 0 (L b) (by omega) (fun j hj i => ?_) (fun _ _ => rfl)
  · rw [tk_uid (k := b) (by rw [va_up_ne _ _ (by omega), va_up_ne _ _ (by omega)])] at q
    exact tk_wk (by repeat' (first | exact trivial | refine ⟨Or.inl rfl, ?_⟩ | refine ⟨Or.inr rfl, ?_⟩)) q
  · rw [hz j hj, tb_0]
    exact ⟨fun h => (by cases h), fun ⟨v, a, _⟩ => (by omega)⟩
end DRAFT9
