/-! ===== the class: draft, worlds laid into it ===== -/
/-- what laying one world does to the draft -/
def DAD (I I' : Nat → Nat → Int32) (np N x : Nat) (v : Nat → Nat) : Prop := (∀ a, ¬ a = 28 → ¬ a = 29 → ¬ a = 30 → I' a = I a) ∧ I' 28 2 = nI (N + 1) ∧ (∀ j, ¬ j = 2 → I' 28 j = I 28 j) ∧ I' 29 N = nI x ∧ (∀ j, ¬ j = N → I' 29 j = I 29 j) ∧ (∀ p, p < np → I' 30 (128 * p + N) = nI (v p)) ∧ ∀ p w, w < 128 → ¬ w = N → I' 30 (128 * p + w) = I 30 (128 * p + w)
noncomputable def cLs (ce : Nat → Int32) (W p w : Nat) : Nat := lsb (pB ce W (64 * p + w))
theorem pB_ne {ce : Nat → Int32} {W p w : Nat} (hw : w < W) (hW : W ≤ 64) : ¬ pB ce W (64 * p + w) = 0 := by
  intro e
  have := (tb_pB (ce := ce) (p := p) (i := w) (j := w) hW (by omega)).mpr ⟨hw, rfl⟩
  rw [e, tb_0] at this
  cases this
theorem cLs_of {ce : Nat → Int32} {W p w : Nat} (hw : w < W) (hW : W ≤ 64) : cLs ce W p w < W ∧ ce (64 * p + cLs ce W p w) = ce (64 * p + w) ∧ ∀ j, j < cLs ce W p w → ¬ ce (64 * p + j) = ce (64 * p + w) := by
  obtain ⟨a1, a2, a3⟩ := lsb_of (pB_ne (ce := ce) (p := p) hw hW)
  obtain ⟨b1, b2⟩ := (tb_pB hW (by omega)).mp a1
  refine ⟨b1, b2, fun j hj e => ?_⟩
  have b1 : cLs ce W p w < W := b1
  have := a3 j hj
  rw [(tb_pB hW (by omega)).mpr ⟨by omega, e⟩] at this
  cases this
section LAY_
variable {G : tkG} {n : Nat} {T : Nat → Nat × Nat} {I : Nat → Nat → Int32} {L : Nat → Nat → Int64} {P : Nat → Nat → Option Nat}
theorem c_layNone {a np nf W r : Nat} {F ce : Nat → Int32} (hD : dObj T P) (hw : cWld n T I L P a np nf W r F ce) : tkM G mX0_layNone 0 0 0 [vR 28, vR a] (n, T, I, L, P) (fun rv h => ∃ I', rv = none ∧ h = (n, T, I', L, P) ∧ (∀ a, ¬ a = 28 → I' a = I a) ∧ I' 28 0 = nI np ∧ I' 28 1 = nI nf ∧ I' 28 2 = nI 0 ∧ I' 28 3 = nI 0) := by
  obtain ⟨d1, d2, d3, d4, d5, d6, d7, d8, d9, d10, d11, d12, d13, d14, d15⟩ := hD
  obtain ⟨q1, q2, q3, q4, q5, q6, b, c, q7, q8, q9, q10, q11, q12, q13, q14⟩ := hw
  have ha : ¬ a = 28 := by have := q1.1; omega
  refine tkM.of (ls := [some _, some _]) (by decide +kernel) (by decide +kernel) (Nat.le_of_ble_eq_true rfl) rfl ?_
  refine tk_aload0 dX0_layNone_0 ?_
  refine tk_aload1 dX0_layNone_1 ?_
  refine tk_getI dX0_layNone_2 fX0_64 rfl (by first | assumption | exact va_up_self _ _ _ | exact (va_up_ne _ _ (by omega)).trans (by assumption) | exact congrArg Prod.fst (va_up_self _ _ _) | exact (congrArg Prod.fst (va_up_ne _ _ (by omega))).trans (by assumption) | exact (congrFun (va_up_ne _ _ (by omega)) _).trans (by assumption) | exact (va_up_ne _ _ (by omega)).trans (va_up_self _ _ _) | exact (va_up_ne _ _ (by omega)).trans ((va_up_ne _ _ (by omega)).trans (by assumption)) | exact (congrArg Prod.fst ((va_up_ne _ _ (by omega)).trans (va_up_ne _ _ (by omega)))).trans (by assumption) | exact (congrFun ((va_up_ne _ _ (by omega)).trans (va_up_ne _ _ (by omega))) _).trans (by assumption) | (rw [va_up_self, va_up_ne _ _ (by omega)]; assumption)) ?_
  rw [q3]
  refine tk_putI dX0_layNone_5 fX0_61 wX0_layNone_X0_0 rfl (by first | assumption | exact va_up_self _ _ _ | exact (va_up_ne _ _ (by omega)).trans (by assumption) | exact congrArg Prod.fst (va_up_self _ _ _) | exact (congrArg Prod.fst (va_up_ne _ _ (by omega))).trans (by assumption) | exact (congrFun (va_up_ne _ _ (by omega)) _).trans (by assumption) | exact (va_up_ne _ _ (by omega)).trans (va_up_self _ _ _) | exact (va_up_ne _ _ (by omega)).trans ((va_up_ne _ _ (by omega)).trans (by assumption)) | exact (congrArg Prod.fst ((va_up_ne _ _ (by omega)).trans (va_up_ne _ _ (by omega)))).trans (by assumption) | exact (congrFun ((va_up_ne _ _ (by omega)).trans (va_up_ne _ _ (by omega))) _).trans (by assumption) | (rw [va_up_self, va_up_ne _ _ (by omega)]; assumption)) ?_
  refine tk_aload0 dX0_layNone_8 ?_
  refine tk_aload1 dX0_layNone_9 ?_
  refine tk_getI dX0_layNone_10 fX0_65 rfl (by first | assumption | exact va_up_self _ _ _ | exact (va_up_ne _ _ (by omega)).trans (by assumption) | exact congrArg Prod.fst (va_up_self _ _ _) | exact (congrArg Prod.fst (va_up_ne _ _ (by omega))).trans (by assumption) | exact (congrFun (va_up_ne _ _ (by omega)) _).trans (by assumption) | exact (va_up_ne _ _ (by omega)).trans (va_up_self _ _ _) | exact (va_up_ne _ _ (by omega)).trans ((va_up_ne _ _ (by omega)).trans (by assumption)) | exact (congrArg Prod.fst ((va_up_ne _ _ (by omega)).trans (va_up_ne _ _ (by omega)))).trans (by assumption) | exact (congrFun ((va_up_ne _ _ (by omega)).trans (va_up_ne _ _ (by omega))) _).trans (by assumption) | (rw [va_up_self, va_up_ne _ _ (by omega)]; assumption)) ?_
  rw [va_up_ne _ _ ha, q4]
  refine tk_putI dX0_layNone_13 fX0_67 wX0_layNone_X0_1 rfl (by first | assumption | exact va_up_self _ _ _ | exact (va_up_ne _ _ (by omega)).trans (by assumption) | exact congrArg Prod.fst (va_up_self _ _ _) | exact (congrArg Prod.fst (va_up_ne _ _ (by omega))).trans (by assumption) | exact (congrFun (va_up_ne _ _ (by omega)) _).trans (by assumption) | exact (va_up_ne _ _ (by omega)).trans (va_up_self _ _ _) | exact (va_up_ne _ _ (by omega)).trans ((va_up_ne _ _ (by omega)).trans (by assumption)) | exact (congrArg Prod.fst ((va_up_ne _ _ (by omega)).trans (va_up_ne _ _ (by omega)))).trans (by assumption) | exact (congrFun ((va_up_ne _ _ (by omega)).trans (va_up_ne _ _ (by omega))) _).trans (by assumption) | (rw [va_up_self, va_up_ne _ _ (by omega)]; assumption)) ?_
  refine tk_aload0 dX0_layNone_16 ?_
  refine tk_iconst dX0_layNone_17 kc_iconst_0 ?_
  refine tk_putI dX0_layNone_18 fX0_52 wX0_layNone_X0_2 rfl (by first | assumption | exact va_up_self _ _ _ | exact (va_up_ne _ _ (by omega)).trans (by assumption) | exact congrArg Prod.fst (va_up_self _ _ _) | exact (congrArg Prod.fst (va_up_ne _ _ (by omega))).trans (by assumption) | exact (congrFun (va_up_ne _ _ (by omega)) _).trans (by assumption) | exact (va_up_ne _ _ (by omega)).trans (va_up_self _ _ _) | exact (va_up_ne _ _ (by omega)).trans ((va_up_ne _ _ (by omega)).trans (by assumption)) | exact (congrArg Prod.fst ((va_up_ne _ _ (by omega)).trans (va_up_ne _ _ (by omega)))).trans (by assumption) | exact (congrFun ((va_up_ne _ _ (by omega)).trans (va_up_ne _ _ (by omega))) _).trans (by assumption) | (rw [va_up_self, va_up_ne _ _ (by omega)]; assumption)) ?_
  refine tk_aload0 dX0_layNone_21 ?_
  refine tk_iconst dX0_layNone_22 kc_iconst_0 ?_
  refine tk_putI dX0_layNone_23 fX0_56 wX0_layNone_X0_3 rfl (by first | assumption | exact va_up_self _ _ _ | exact (va_up_ne _ _ (by omega)).trans (by assumption) | exact congrArg Prod.fst (va_up_self _ _ _) | exact (congrArg Prod.fst (va_up_ne _ _ (by omega))).trans (by assumption) | exact (congrFun (va_up_ne _ _ (by omega)) _).trans (by assumption) | exact (va_up_ne _ _ (by omega)).trans (va_up_self _ _ _) | exact (va_up_ne _ _ (by omega)).trans ((va_up_ne _ _ (by omega)).trans (by assumption)) | exact (congrArg Prod.fst ((va_up_ne _ _ (by omega)).trans (va_up_ne _ _ (by omega)))).trans (by assumption) | exact (congrFun ((va_up_ne _ _ (by omega)).trans (va_up_ne _ _ (by omega))) _).trans (by assumption) | (rw [va_up_self, va_up_ne _ _ (by omega)]; assumption)) ?_
  refine tk_return dX0_layNone_26 rfl ?_
  refine ⟨_, rfl, rfl, fun a ha => ?_, ?_, ?_, ?_, ?_⟩
  · rw [va_up_ne _ _ ha, va_up_ne _ _ ha, va_up_ne _ _ ha, va_up_ne _ _ ha]
  · simp only [va_up_self, bx_uu, tk_une, tk_usrt, not_false_eq_true, Nat.reduceEqDiff, Nat.reduceLT, Nat.reduceAdd, Nat.reduceMul, Nat.reduceLeDiff, reduceCtorEq]
  · simp only [va_up_self, bx_uu, tk_une, tk_usrt, not_false_eq_true, Nat.reduceEqDiff, Nat.reduceLT, Nat.reduceAdd, Nat.reduceMul, Nat.reduceLeDiff, reduceCtorEq]
  · simp only [va_up_self, bx_uu, tk_une, tk_usrt, not_false_eq_true, Nat.reduceEqDiff, Nat.reduceLT, Nat.reduceAdd, Nat.reduceMul, Nat.reduceLeDiff, reduceCtorEq]
  · simp only [va_up_self, bx_uu, tk_une, tk_usrt, not_false_eq_true, Nat.reduceEqDiff, Nat.reduceLT, Nat.reduceAdd, Nat.reduceMul, Nat.reduceLeDiff, reduceCtorEq]
theorem c_add {a np nf W r w x N : Nat} {F ce : Nat → Int32} (hD : dObj T P) (hw : cWld n T I L P a np nf W r F ce) (hW64 : W ≤ 64) (hnp4 : np ≤ 4) (hnf4 : nf ≤ 4) (hw2 : w < W) (hF : F w = nI x) (hx : x < 2 ^ nf) (hnp : I 28 0 = nI np) (hN : I 28 2 = nI N) (hN2 : N < 128) : tkM G mX0_add 2 0 0 [vR 28, vR a, vI (nI w)] (n, T, I, L, P) (fun rv h => ∃ I', rv = none ∧ h = (n, T, I', L, P) ∧ DAD I I' np N x (fun p => 4 * cLs ce W p w)) := by
  have hD' := hD
  obtain ⟨d1, d2, d3, d4, d5, d6, d7, d8, d9, d10, d11, d12, d13, d14, d15⟩ := hD'
  have hta : (T a).1 = 9 := hw.2.1
  have loop : ∀ (k p : Nat) (I3 : Nat → Nat → Int32), p + k = np → (∀ a, ¬ a = 30 → I3 a = va_up I 29 (va_up (I 29) N (nI x)) a) → (∀ q, q < p → I3 30 (128 * q + N) = nI (4 * cLs ce W q w)) → (∀ q w, w < 128 → ¬ w = N → I3 30 (128 * q + w) = va_up I 29 (va_up (I 29) N (nI x)) 30 (128 * q + w)) → tkX G mX0_add 2 0 0 16 [some (vR 28), some (vR a), some (vI (nI w)), some (vI (nI p))] [] (n, T, I3, L, P) (fun rv h => ∃ I', rv = none ∧ h = (n, T, I', L, P) ∧ DAD I I' np N x (fun p => 4 * cLs ce W p w)) := by
    intro k
    have h28 : va_up I 29 (va_up (I 29) N (nI x)) 28 = I 28 := va_up_ne _ _ (by omega)
    induction k with
    | zero =>
      intro p I3 hp g1 g2 g3
      refine tk_iload3 dX0_add_16 ?_
      refine tk_aload0 dX0_add_17 ?_
      refine tk_getI dX0_add_18 fX0_61 rfl (by first | assumption | exact va_up_self _ _ _ | exact (va_up_ne _ _ (by omega)).trans (by assumption) | exact congrArg Prod.fst (va_up_self _ _ _) | exact (congrArg Prod.fst (va_up_ne _ _ (by omega))).trans (by assumption) | exact (congrFun (va_up_ne _ _ (by omega)) _).trans (by assumption) | exact (va_up_ne _ _ (by omega)).trans (va_up_self _ _ _) | exact (va_up_ne _ _ (by omega)).trans ((va_up_ne _ _ (by omega)).trans (by assumption)) | exact (congrArg Prod.fst ((va_up_ne _ _ (by omega)).trans (va_up_ne _ _ (by omega)))).trans (by assumption) | exact (congrFun ((va_up_ne _ _ (by omega)).trans (va_up_ne _ _ (by omega))) _).trans (by assumption) | (rw [va_up_self, va_up_ne _ _ (by omega)]; assumption)) ?_
      rw [g1 28 (by omega), h28, hnp]
      first | refine tk_icmp_geN dX0_add_21 (by omega) (by omega) (fun h21 => ?_) (fun h21 => ?_) | refine tk_jcmp_ge dX0_add_21 (fun h21 => ?_) (fun h21 => ?_)
      · refine tk_aload0 dX0_add_56 ?_
        refine tk_dup dX0_add_57 rfl ?_
        refine tk_getI dX0_add_58 fX0_52 rfl (by first | assumption | exact va_up_self _ _ _ | exact (va_up_ne _ _ (by omega)).trans (by assumption) | exact congrArg Prod.fst (va_up_self _ _ _) | exact (congrArg Prod.fst (va_up_ne _ _ (by omega))).trans (by assumption) | exact (congrFun (va_up_ne _ _ (by omega)) _).trans (by assumption) | exact (va_up_ne _ _ (by omega)).trans (va_up_self _ _ _) | exact (va_up_ne _ _ (by omega)).trans ((va_up_ne _ _ (by omega)).trans (by assumption)) | exact (congrArg Prod.fst ((va_up_ne _ _ (by omega)).trans (va_up_ne _ _ (by omega)))).trans (by assumption) | exact (congrFun ((va_up_ne _ _ (by omega)).trans (va_up_ne _ _ (by omega))) _).trans (by assumption) | (rw [va_up_self, va_up_ne _ _ (by omega)]; assumption)) ?_
        rw [g1 28 (by omega), h28, hN]
        refine tk_iconst dX0_add_61 kc_iconst_1 ?_
        first | refine tk_iaddN dX0_add_62 ?_ | refine tk_iadd dX0_add_62 ?_
        refine tk_putI dX0_add_63 fX0_52 wX0_add_X0_2 rfl (by first | assumption | exact va_up_self _ _ _ | exact (va_up_ne _ _ (by omega)).trans (by assumption) | exact congrArg Prod.fst (va_up_self _ _ _) | exact (congrArg Prod.fst (va_up_ne _ _ (by omega))).trans (by assumption) | exact (congrFun (va_up_ne _ _ (by omega)) _).trans (by assumption) | exact (va_up_ne _ _ (by omega)).trans (va_up_self _ _ _) | exact (va_up_ne _ _ (by omega)).trans ((va_up_ne _ _ (by omega)).trans (by assumption)) | exact (congrArg Prod.fst ((va_up_ne _ _ (by omega)).trans (va_up_ne _ _ (by omega)))).trans (by assumption) | exact (congrFun ((va_up_ne _ _ (by omega)).trans (va_up_ne _ _ (by omega))) _).trans (by assumption) | (rw [va_up_self, va_up_ne _ _ (by omega)]; assumption)) ?_
        refine tk_return dX0_add_66 rfl ?_
        refine ⟨_, rfl, rfl, fun a a1 a2 a3 => ?_, ?_, fun j hj => ?_, ?_, fun j hj => ?_, fun p hp => ?_, fun p w w1 w2 => ?_⟩
        · rw [va_up_ne _ _ a1, g1 a a3, va_up_ne _ _ a2]
        · simp only [va_up_self, bx_uu, tk_une, tk_usrt, not_false_eq_true, Nat.reduceEqDiff, Nat.reduceLT, Nat.reduceAdd, Nat.reduceMul, Nat.reduceLeDiff, reduceCtorEq]
        · rw [va_up_self, va_up_ne _ _ hj, g1 28 (by omega), h28]
        · rw [va_up_ne _ _ (by omega), g1 29 (by omega), va_up_self, va_up_self]
        · rw [va_up_ne _ _ (by omega), g1 29 (by omega), va_up_self, va_up_ne _ _ hj]
        · rw [va_up_ne _ _ (by omega)]; exact g2 p (by omega)
        · rw [va_up_ne _ _ (by omega), g3 p w w1 w2, va_up_ne _ _ (by omega)]
      · exfalso; omega
    | succ k ih =>
      intro p I3 hp g1 g2 g3
      have hw3 : cWld n T I3 L P a np nf W r F ce := hw.ex ⟨Nat.le_refl _, fun b hb => ⟨rfl, by have := hb.1; rw [g1 b (by omega), va_up_ne _ _ (by omega)], rfl, rfl⟩⟩
      refine tk_iload3 dX0_add_16 ?_
      refine tk_aload0 dX0_add_17 ?_
      refine tk_getI dX0_add_18 fX0_61 rfl (by first | assumption | exact va_up_self _ _ _ | exact (va_up_ne _ _ (by omega)).trans (by assumption) | exact congrArg Prod.fst (va_up_self _ _ _) | exact (congrArg Prod.fst (va_up_ne _ _ (by omega))).trans (by assumption) | exact (congrFun (va_up_ne _ _ (by omega)) _).trans (by assumption) | exact (va_up_ne _ _ (by omega)).trans (va_up_self _ _ _) | exact (va_up_ne _ _ (by omega)).trans ((va_up_ne _ _ (by omega)).trans (by assumption)) | exact (congrArg Prod.fst ((va_up_ne _ _ (by omega)).trans (va_up_ne _ _ (by omega)))).trans (by assumption) | exact (congrFun ((va_up_ne _ _ (by omega)).trans (va_up_ne _ _ (by omega))) _).trans (by assumption) | (rw [va_up_self, va_up_ne _ _ (by omega)]; assumption)) ?_
      rw [g1 28 (by omega), h28, hnp]
      first | refine tk_icmp_geN dX0_add_21 (by omega) (by omega) (fun h21 => ?_) (fun h21 => ?_) | refine tk_jcmp_ge dX0_add_21 (fun h21 => ?_) (fun h21 => ?_)
      · exfalso; omega
      · refine tk_aload0 dX0_add_24 ?_
        refine tk_getP dX0_add_25 fX0_15 rfl (by first | assumption | exact va_up_self _ _ _ | exact (va_up_ne _ _ (by omega)).trans (by assumption) | exact congrArg Prod.fst (va_up_self _ _ _) | exact (congrArg Prod.fst (va_up_ne _ _ (by omega))).trans (by assumption) | exact (congrFun (va_up_ne _ _ (by omega)) _).trans (by assumption) | exact (va_up_ne _ _ (by omega)).trans (va_up_self _ _ _) | exact (va_up_ne _ _ (by omega)).trans ((va_up_ne _ _ (by omega)).trans (by assumption)) | exact (congrArg Prod.fst ((va_up_ne _ _ (by omega)).trans (va_up_ne _ _ (by omega)))).trans (by assumption) | exact (congrFun ((va_up_ne _ _ (by omega)).trans (va_up_ne _ _ (by omega))) _).trans (by assumption) | (rw [va_up_self, va_up_ne _ _ (by omega)]; assumption)) (by first | assumption | exact va_up_self _ _ _ | exact (va_up_ne _ _ (by omega)).trans (by assumption) | exact congrArg Prod.fst (va_up_self _ _ _) | exact (congrArg Prod.fst (va_up_ne _ _ (by omega))).trans (by assumption) | exact (congrFun (va_up_ne _ _ (by omega)) _).trans (by assumption) | exact (va_up_ne _ _ (by omega)).trans (va_up_self _ _ _) | exact (va_up_ne _ _ (by omega)).trans ((va_up_ne _ _ (by omega)).trans (by assumption)) | exact (congrArg Prod.fst ((va_up_ne _ _ (by omega)).trans (va_up_ne _ _ (by omega)))).trans (by assumption) | exact (congrFun ((va_up_ne _ _ (by omega)).trans (va_up_ne _ _ (by omega))) _).trans (by assumption) | (rw [va_up_self, va_up_ne _ _ (by omega)]; assumption)) ?_
        refine tk_iload3 dX0_add_28 ?_
        refine tk_sipush dX0_add_29 kc_sipush_128 ?_
        first | refine tk_imulN dX0_add_32 ?_ | refine tk_imul dX0_add_32 ?_
        refine tk_aload0 dX0_add_33 ?_
        refine tk_getI dX0_add_34 fX0_52 rfl (by first | assumption | exact va_up_self _ _ _ | exact (va_up_ne _ _ (by omega)).trans (by assumption) | exact congrArg Prod.fst (va_up_self _ _ _) | exact (congrArg Prod.fst (va_up_ne _ _ (by omega))).trans (by assumption) | exact (congrFun (va_up_ne _ _ (by omega)) _).trans (by assumption) | exact (va_up_ne _ _ (by omega)).trans (va_up_self _ _ _) | exact (va_up_ne _ _ (by omega)).trans ((va_up_ne _ _ (by omega)).trans (by assumption)) | exact (congrArg Prod.fst ((va_up_ne _ _ (by omega)).trans (va_up_ne _ _ (by omega)))).trans (by assumption) | exact (congrFun ((va_up_ne _ _ (by omega)).trans (va_up_ne _ _ (by omega))) _).trans (by assumption) | (rw [va_up_self, va_up_ne _ _ (by omega)]; assumption)) ?_
        rw [g1 28 (by omega), h28, hN]
        first | refine tk_iaddN dX0_add_37 ?_ | refine tk_iadd dX0_add_37 ?_
        refine tk_iconst dX0_add_38 kc_iconst_4 ?_
        refine tk_aload1 dX0_add_39 ?_
        refine tk_iload3 dX0_add_40 ?_
        refine tk_iload2 dX0_add_41 ?_
        refine tk_callV2z dX0_add_42 kX0_74 (by first | assumption | exact va_up_self _ _ _ | exact (va_up_ne _ _ (by omega)).trans (by assumption) | exact congrArg Prod.fst (va_up_self _ _ _) | exact (congrArg Prod.fst (va_up_ne _ _ (by omega))).trans (by assumption) | exact (congrFun (va_up_ne _ _ (by omega)) _).trans (by assumption) | exact (va_up_ne _ _ (by omega)).trans (va_up_self _ _ _) | exact (va_up_ne _ _ (by omega)).trans ((va_up_ne _ _ (by omega)).trans (by assumption)) | exact (congrArg Prod.fst ((va_up_ne _ _ (by omega)).trans (va_up_ne _ _ (by omega)))).trans (by assumption) | exact (congrFun ((va_up_ne _ _ (by omega)).trans (va_up_ne _ _ (by omega))) _).trans (by assumption) | (rw [va_up_self, va_up_ne _ _ (by omega)]; assumption)) (c_cell hw3 hW64 hnp4 (show p < np by omega) hw2) (Nat.le_of_ble_eq_true rfl) (by omega) ?_
        refine tk_callSN1z dX0_add_45 kX0_78 (c_least (pB_ne hw2 hW64)) (Nat.le_of_ble_eq_true rfl) (by omega) ?_
        first | refine tk_imulN dX0_add_48 ?_ | refine tk_imul dX0_add_48 ?_
        rw [Nat.mul_comm p 128]
        refine tk_iast dX0_add_49 (by first | assumption | exact va_up_self _ _ _ | exact (va_up_ne _ _ (by omega)).trans (by assumption) | exact congrArg Prod.fst (va_up_self _ _ _) | exact (congrArg Prod.fst (va_up_ne _ _ (by omega))).trans (by assumption) | exact (congrFun (va_up_ne _ _ (by omega)) _).trans (by assumption) | exact (va_up_ne _ _ (by omega)).trans (va_up_self _ _ _) | exact (va_up_ne _ _ (by omega)).trans ((va_up_ne _ _ (by omega)).trans (by assumption)) | exact (congrArg Prod.fst ((va_up_ne _ _ (by omega)).trans (va_up_ne _ _ (by omega)))).trans (by assumption) | exact (congrFun ((va_up_ne _ _ (by omega)).trans (va_up_ne _ _ (by omega))) _).trans (by assumption) | (rw [va_up_self, va_up_ne _ _ (by omega)]; assumption)) (by omega) (by omega) ?_
        first | refine tk_iinc3 dX0_add_50 (kc_inc _) rfl ?_ | refine tk_iinc3 dX0_add_50 rfl rfl ?_
        refine tk_goto dX0_add_53 ?_
        refine tk_wk (by repeat' (first | exact trivial | refine ⟨Or.inl rfl, ?_⟩ | refine ⟨Or.inr rfl, ?_⟩)) (ih (p + 1) _ (by omega) (fun a ha => ?_) (fun q hq => ?_) (fun q w w1 w2 => ?_))
        · rw [va_up_ne _ _ ha]; exact g1 a ha
        · rw [va_up_self]
          by_cases e : q = p
          · subst e; rw [va_up_self]; rfl
          · rw [va_up_ne _ _ (by omega)]; exact g2 q (by omega)
        · rw [va_up_self, va_up_ne _ _ (by omega)]; exact g3 q w w1 w2
  refine tkM.of (ls := [some _, some _, some _, none]) (by decide +kernel) (by decide +kernel) (Nat.le_of_ble_eq_true rfl) rfl ?_
  refine tk_aload0 dX0_add_0 ?_
  refine tk_getP dX0_add_1 fX0_11 rfl (by first | assumption | exact va_up_self _ _ _ | exact (va_up_ne _ _ (by omega)).trans (by assumption) | exact congrArg Prod.fst (va_up_self _ _ _) | exact (congrArg Prod.fst (va_up_ne _ _ (by omega))).trans (by assumption) | exact (congrFun (va_up_ne _ _ (by omega)) _).trans (by assumption) | exact (va_up_ne _ _ (by omega)).trans (va_up_self _ _ _) | exact (va_up_ne _ _ (by omega)).trans ((va_up_ne _ _ (by omega)).trans (by assumption)) | exact (congrArg Prod.fst ((va_up_ne _ _ (by omega)).trans (va_up_ne _ _ (by omega)))).trans (by assumption) | exact (congrFun ((va_up_ne _ _ (by omega)).trans (va_up_ne _ _ (by omega))) _).trans (by assumption) | (rw [va_up_self, va_up_ne _ _ (by omega)]; assumption)) (by first | assumption | exact va_up_self _ _ _ | exact (va_up_ne _ _ (by omega)).trans (by assumption) | exact congrArg Prod.fst (va_up_self _ _ _) | exact (congrArg Prod.fst (va_up_ne _ _ (by omega))).trans (by assumption) | exact (congrFun (va_up_ne _ _ (by omega)) _).trans (by assumption) | exact (va_up_ne _ _ (by omega)).trans (va_up_self _ _ _) | exact (va_up_ne _ _ (by omega)).trans ((va_up_ne _ _ (by omega)).trans (by assumption)) | exact (congrArg Prod.fst ((va_up_ne _ _ (by omega)).trans (va_up_ne _ _ (by omega)))).trans (by assumption) | exact (congrFun ((va_up_ne _ _ (by omega)).trans (va_up_ne _ _ (by omega))) _).trans (by assumption) | (rw [va_up_self, va_up_ne _ _ (by omega)]; assumption)) ?_
  refine tk_aload0 dX0_add_4 ?_
  refine tk_getI dX0_add_5 fX0_52 rfl (by first | assumption | exact va_up_self _ _ _ | exact (va_up_ne _ _ (by omega)).trans (by assumption) | exact congrArg Prod.fst (va_up_self _ _ _) | exact (congrArg Prod.fst (va_up_ne _ _ (by omega))).trans (by assumption) | exact (congrFun (va_up_ne _ _ (by omega)) _).trans (by assumption) | exact (va_up_ne _ _ (by omega)).trans (va_up_self _ _ _) | exact (va_up_ne _ _ (by omega)).trans ((va_up_ne _ _ (by omega)).trans (by assumption)) | exact (congrArg Prod.fst ((va_up_ne _ _ (by omega)).trans (va_up_ne _ _ (by omega)))).trans (by assumption) | exact (congrFun ((va_up_ne _ _ (by omega)).trans (va_up_ne _ _ (by omega))) _).trans (by assumption) | (rw [va_up_self, va_up_ne _ _ (by omega)]; assumption)) ?_
  rw [hN]
  refine tk_aload1 dX0_add_8 ?_
  refine tk_iload2 dX0_add_9 ?_
  refine tk_callV1z dX0_add_10 kX0_70 (by first | assumption | exact va_up_self _ _ _ | exact (va_up_ne _ _ (by omega)).trans (by assumption) | exact congrArg Prod.fst (va_up_self _ _ _) | exact (congrArg Prod.fst (va_up_ne _ _ (by omega))).trans (by assumption) | exact (congrFun (va_up_ne _ _ (by omega)) _).trans (by assumption) | exact (va_up_ne _ _ (by omega)).trans (va_up_self _ _ _) | exact (va_up_ne _ _ (by omega)).trans ((va_up_ne _ _ (by omega)).trans (by assumption)) | exact (congrArg Prod.fst ((va_up_ne _ _ (by omega)).trans (va_up_ne _ _ (by omega)))).trans (by assumption) | exact (congrFun ((va_up_ne _ _ (by omega)).trans (va_up_ne _ _ (by omega))) _).trans (by assumption) | (rw [va_up_self, va_up_ne _ _ (by omega)]; assumption)) (c_factsOf hw hW64 hnf4 hw2 hF hx) (Nat.le_of_ble_eq_true rfl) (by omega) ?_
  refine tk_iast dX0_add_13 (by first | assumption | exact va_up_self _ _ _ | exact (va_up_ne _ _ (by omega)).trans (by assumption) | exact congrArg Prod.fst (va_up_self _ _ _) | exact (congrArg Prod.fst (va_up_ne _ _ (by omega))).trans (by assumption) | exact (congrFun (va_up_ne _ _ (by omega)) _).trans (by assumption) | exact (va_up_ne _ _ (by omega)).trans (va_up_self _ _ _) | exact (va_up_ne _ _ (by omega)).trans ((va_up_ne _ _ (by omega)).trans (by assumption)) | exact (congrArg Prod.fst ((va_up_ne _ _ (by omega)).trans (va_up_ne _ _ (by omega)))).trans (by assumption) | exact (congrFun ((va_up_ne _ _ (by omega)).trans (va_up_ne _ _ (by omega))) _).trans (by assumption) | (rw [va_up_self, va_up_ne _ _ (by omega)]; assumption)) (by omega) (by omega) ?_
  refine tk_iconst dX0_add_14 kc_iconst_0 ?_
  refine tk_istore3 dX0_add_15 rfl ?_
  exact loop np 0 _ (by omega) (fun _ _ => rfl) (fun q hq => by omega) (fun _ _ _ _ => rfl)
end LAY_
