/-! ===== the class: draft, a telling laid ===== -/
def tAd (pr mt : Int32) (y p : Nat) : Nat := (if tb mt.toInt64 p = true then 2 else 0) + if tb pr.toInt64 p = true then y else 0
section LAY4
variable {G : tkG} {n : Nat} {T : Nat → Nat × Nat} {I : Nat → Nat → Int32} {L : Nat → Nat → Int64} {P : Nat → Nat → Option Nat}
def DTL (I I' : Nat → Nat → Int32) (np N : Nat) (v : Nat → Nat) : Prop := (∀ a, ¬ a = 30 → I' a = I a) ∧ (∀ p, p < np → I' 30 (128 * p + N) = nI (v p)) ∧ ∀ p w, w < 128 → (¬ w = N ∨ np ≤ p) → I' 30 (128 * p + w) = I 30 (128 * p + w)
theorem c_labelTold {np N y : Nat} {v : Nat → Nat} {pr mt : Int32} (hD : dObj T P) (hnp : I 28 0 = nI np) (hnp4 : np ≤ 4) (hN : I 28 2 = nI (N + 1)) (hN2 : N < 128) (hv : ∀ p, p < np → I 30 (128 * p + N) = nI (v p)) : tkM G mX0_labelTold 1 0 0 [vR 28, vI pr, vI mt, vI (nI y)] (n, T, I, L, P) (fun rv h => ∃ I', rv = none ∧ h = (n, T, I', L, P) ∧ DTL I I' np N (fun p => v p + tAd pr mt y p)) := by
  have hD' := hD
  obtain ⟨d1, d2, d3, d4, d5, d6, d7, d8, d9, d10, d11, d12, d13, d14, d15⟩ := hD'
  have loop : ∀ (k p : Nat) (I3 : Nat → Nat → Int32) (o : Option tkV), p + k = np → (∀ a, ¬ a = 30 → I3 a = I a) → (∀ q, q < p → I3 30 (128 * q + N) = nI (v q + tAd pr mt y q)) → (∀ q w, w < 128 → (¬ w = N ∨ p ≤ q) → I3 30 (128 * q + w) = I 30 (128 * q + w)) → tkX G mX0_labelTold 1 0 0 3 [some (vR 28), some (vI pr), some (vI mt), some (vI (nI y)), some (vI (nI p)), o] [] (n, T, I3, L, P) (fun rv h => ∃ I', rv = none ∧ h = (n, T, I', L, P) ∧ DTL I I' np N (fun p => v p + tAd pr mt y p)) := by
    intro k
    induction k with
    | zero =>
      intro p I3 o hp g1 g2 g3
      refine tk_iload4 dX0_labelTold_3 ?_
      refine tk_aload0 dX0_labelTold_5 ?_
      refine tk_getI dX0_labelTold_6 fX0_61 rfl (by first | assumption | exact va_up_self _ _ _ | exact (va_up_ne _ _ (by omega)).trans (by assumption) | exact congrArg Prod.fst (va_up_self _ _ _) | exact (congrArg Prod.fst (va_up_ne _ _ (by omega))).trans (by assumption) | exact (congrFun (va_up_ne _ _ (by omega)) _).trans (by assumption) | exact (va_up_ne _ _ (by omega)).trans (va_up_self _ _ _) | exact (va_up_ne _ _ (by omega)).trans ((va_up_ne _ _ (by omega)).trans (by assumption)) | exact (congrArg Prod.fst ((va_up_ne _ _ (by omega)).trans (va_up_ne _ _ (by omega)))).trans (by assumption) | exact (congrFun ((va_up_ne _ _ (by omega)).trans (va_up_ne _ _ (by omega))) _).trans (by assumption) | (rw [va_up_self, va_up_ne _ _ (by omega)]; assumption)) ?_
      rw [g1 28 (by omega), hnp]
      first | refine tk_icmp_geN dX0_labelTold_9 (by omega) (by omega) (fun h9 => ?_) (fun h9 => ?_) | refine tk_jcmp_ge dX0_labelTold_9 (fun h9 => ?_) (fun h9 => ?_)
      · refine tk_return dX0_labelTold_78 rfl ?_
        refine ⟨_, rfl, rfl, g1, fun q hq => g2 q (by omega), fun q w w1 w2 => g3 q w w1 (by omega)⟩
      · exfalso; omega
    | succ k ih =>
      intro p I3 o hp g1 g2 g3
      refine tk_iload4 dX0_labelTold_3 ?_
      refine tk_aload0 dX0_labelTold_5 ?_
      refine tk_getI dX0_labelTold_6 fX0_61 rfl (by first | assumption | exact va_up_self _ _ _ | exact (va_up_ne _ _ (by omega)).trans (by assumption) | exact congrArg Prod.fst (va_up_self _ _ _) | exact (congrArg Prod.fst (va_up_ne _ _ (by omega))).trans (by assumption) | exact (congrFun (va_up_ne _ _ (by omega)) _).trans (by assumption) | exact (va_up_ne _ _ (by omega)).trans (va_up_self _ _ _) | exact (va_up_ne _ _ (by omega)).trans ((va_up_ne _ _ (by omega)).trans (by assumption)) | exact (congrArg Prod.fst ((va_up_ne _ _ (by omega)).trans (va_up_ne _ _ (by omega)))).trans (by assumption) | exact (congrFun ((va_up_ne _ _ (by omega)).trans (va_up_ne _ _ (by omega))) _).trans (by assumption) | (rw [va_up_self, va_up_ne _ _ (by omega)]; assumption)) ?_
      rw [g1 28 (by omega), hnp]
      first | refine tk_icmp_geN dX0_labelTold_9 (by omega) (by omega) (fun h9 => ?_) (fun h9 => ?_) | refine tk_jcmp_ge dX0_labelTold_9 (fun h9 => ?_) (fun h9 => ?_)
      · exfalso; omega
      · refine tk_iload4 dX0_labelTold_12 ?_
        refine tk_iload2 dX0_labelTold_14 ?_
        refine tk_i2l dX0_labelTold_15 ?_
        refine tk_callSN2z dX0_labelTold_16 kX0_44 (c_isIn (k := p) (by omega) mt.toInt64) (Nat.le_of_ble_eq_true rfl) (by omega) ?_
        first | refine tk_jf_eqB dX0_labelTold_19 (fun h19 => ?_) (fun h19 => ?_) | refine tk_if_eq dX0_labelTold_19 (fun h19 => ?_) (fun h19 => ?_)
        · refine tk_iconst dX0_labelTold_26 kc_iconst_0 ?_
          refine tk_istore5 dX0_labelTold_27 rfl ?_
          refine tk_iload5 dX0_labelTold_29 ?_
          refine tk_iload4 dX0_labelTold_31 ?_
          refine tk_iload1 dX0_labelTold_33 ?_
          refine tk_i2l dX0_labelTold_34 ?_
          refine tk_callSN2z dX0_labelTold_35 kX0_44 (c_isIn (k := p) (by omega) pr.toInt64) (Nat.le_of_ble_eq_true rfl) (by omega) ?_
          first | refine tk_jf_eqB dX0_labelTold_38 (fun h38 => ?_) (fun h38 => ?_) | refine tk_if_eq dX0_labelTold_38 (fun h38 => ?_) (fun h38 => ?_)
          · refine tk_iconst dX0_labelTold_45 kc_iconst_0 ?_
            first | refine tk_iaddN dX0_labelTold_46 ?_ | refine tk_iadd dX0_labelTold_46 ?_
            refine tk_istore5 dX0_labelTold_47 rfl ?_
            refine tk_aload0 dX0_labelTold_49 ?_
            refine tk_getP dX0_labelTold_50 fX0_15 rfl (by first | assumption | exact va_up_self _ _ _ | exact (va_up_ne _ _ (by omega)).trans (by assumption) | exact congrArg Prod.fst (va_up_self _ _ _) | exact (congrArg Prod.fst (va_up_ne _ _ (by omega))).trans (by assumption) | exact (congrFun (va_up_ne _ _ (by omega)) _).trans (by assumption) | exact (va_up_ne _ _ (by omega)).trans (va_up_self _ _ _) | exact (va_up_ne _ _ (by omega)).trans ((va_up_ne _ _ (by omega)).trans (by assumption)) | exact (congrArg Prod.fst ((va_up_ne _ _ (by omega)).trans (va_up_ne _ _ (by omega)))).trans (by assumption) | exact (congrFun ((va_up_ne _ _ (by omega)).trans (va_up_ne _ _ (by omega))) _).trans (by assumption) | (rw [va_up_self, va_up_ne _ _ (by omega)]; assumption)) (by first | assumption | exact va_up_self _ _ _ | exact (va_up_ne _ _ (by omega)).trans (by assumption) | exact congrArg Prod.fst (va_up_self _ _ _) | exact (congrArg Prod.fst (va_up_ne _ _ (by omega))).trans (by assumption) | exact (congrFun (va_up_ne _ _ (by omega)) _).trans (by assumption) | exact (va_up_ne _ _ (by omega)).trans (va_up_self _ _ _) | exact (va_up_ne _ _ (by omega)).trans ((va_up_ne _ _ (by omega)).trans (by assumption)) | exact (congrArg Prod.fst ((va_up_ne _ _ (by omega)).trans (va_up_ne _ _ (by omega)))).trans (by assumption) | exact (congrFun ((va_up_ne _ _ (by omega)).trans (va_up_ne _ _ (by omega))) _).trans (by assumption) | (rw [va_up_self, va_up_ne _ _ (by omega)]; assumption)) ?_
            refine tk_iload4 dX0_labelTold_53 ?_
            refine tk_sipush dX0_labelTold_55 kc_sipush_128 ?_
            first | refine tk_imulN dX0_labelTold_58 ?_ | refine tk_imul dX0_labelTold_58 ?_
            refine tk_aload0 dX0_labelTold_59 ?_
            refine tk_getI dX0_labelTold_60 fX0_52 rfl (by first | assumption | exact va_up_self _ _ _ | exact (va_up_ne _ _ (by omega)).trans (by assumption) | exact congrArg Prod.fst (va_up_self _ _ _) | exact (congrArg Prod.fst (va_up_ne _ _ (by omega))).trans (by assumption) | exact (congrFun (va_up_ne _ _ (by omega)) _).trans (by assumption) | exact (va_up_ne _ _ (by omega)).trans (va_up_self _ _ _) | exact (va_up_ne _ _ (by omega)).trans ((va_up_ne _ _ (by omega)).trans (by assumption)) | exact (congrArg Prod.fst ((va_up_ne _ _ (by omega)).trans (va_up_ne _ _ (by omega)))).trans (by assumption) | exact (congrFun ((va_up_ne _ _ (by omega)).trans (va_up_ne _ _ (by omega))) _).trans (by assumption) | (rw [va_up_self, va_up_ne _ _ (by omega)]; assumption)) ?_
            rw [g1 28 (by omega), hN]
            first | refine tk_iaddN dX0_labelTold_63 ?_ | refine tk_iadd dX0_labelTold_63 ?_
            refine tk_iconst dX0_labelTold_64 kc_iconst_1 ?_
            first | refine tk_isubN dX0_labelTold_65 (by omega) ?_ | refine tk_isub dX0_labelTold_65 ?_
            first | refine tk_dup2 dX0_labelTold_66 rfl rfl ?_ | refine tk_dup2L dX0_labelTold_66 ?_
            refine tk_iald dX0_labelTold_67 (by first | assumption | exact va_up_self _ _ _ | exact (va_up_ne _ _ (by omega)).trans (by assumption) | exact congrArg Prod.fst (va_up_self _ _ _) | exact (congrArg Prod.fst (va_up_ne _ _ (by omega))).trans (by assumption) | exact (congrFun (va_up_ne _ _ (by omega)) _).trans (by assumption) | exact (va_up_ne _ _ (by omega)).trans (va_up_self _ _ _) | exact (va_up_ne _ _ (by omega)).trans ((va_up_ne _ _ (by omega)).trans (by assumption)) | exact (congrArg Prod.fst ((va_up_ne _ _ (by omega)).trans (va_up_ne _ _ (by omega)))).trans (by assumption) | exact (congrFun ((va_up_ne _ _ (by omega)).trans (va_up_ne _ _ (by omega))) _).trans (by assumption) | (rw [va_up_self, va_up_ne _ _ (by omega)]; assumption)) (by omega) (by omega) ?_
            rw [show p * 128 + (N + 1) - 1 = 128 * p + N by omega, g3 p N hN2 (by omega), hv p (by omega)]
            refine tk_iload5 dX0_labelTold_68 ?_
            first | refine tk_iaddN dX0_labelTold_70 ?_ | refine tk_iadd dX0_labelTold_70 ?_
            refine tk_iast dX0_labelTold_71 (by first | assumption | exact va_up_self _ _ _ | exact (va_up_ne _ _ (by omega)).trans (by assumption) | exact congrArg Prod.fst (va_up_self _ _ _) | exact (congrArg Prod.fst (va_up_ne _ _ (by omega))).trans (by assumption) | exact (congrFun (va_up_ne _ _ (by omega)) _).trans (by assumption) | exact (va_up_ne _ _ (by omega)).trans (va_up_self _ _ _) | exact (va_up_ne _ _ (by omega)).trans ((va_up_ne _ _ (by omega)).trans (by assumption)) | exact (congrArg Prod.fst ((va_up_ne _ _ (by omega)).trans (va_up_ne _ _ (by omega)))).trans (by assumption) | exact (congrFun ((va_up_ne _ _ (by omega)).trans (va_up_ne _ _ (by omega))) _).trans (by assumption) | (rw [va_up_self, va_up_ne _ _ (by omega)]; assumption)) (by omega) (by omega) ?_
            first | refine tk_iinc4 dX0_labelTold_72 (kc_inc _) rfl ?_ | refine tk_iinc4 dX0_labelTold_72 rfl rfl ?_
            refine tk_goto dX0_labelTold_75 ?_
            refine ih (p + 1) _ _ (by omega) (fun a ha => ?_) (fun q hq => ?_) (fun q w w1 w2 => ?_)
            · rw [va_up_ne _ _ ha]; exact g1 a ha
            · rw [va_up_self]
              by_cases e : q = p
              · subst e; rw [va_up_self]; unfold tAd; rw [h19, h38]; rfl
              · rw [va_up_ne _ _ (by omega)]; exact g2 q (by omega)
            · rw [va_up_self, va_up_ne _ _ (by omega)]; exact g3 q w w1 (by omega)
          · refine tk_iload3 dX0_labelTold_41 ?_
            refine tk_goto dX0_labelTold_42 ?_
            first | refine tk_iaddN dX0_labelTold_46 ?_ | refine tk_iadd dX0_labelTold_46 ?_
            refine tk_istore5 dX0_labelTold_47 rfl ?_
            refine tk_aload0 dX0_labelTold_49 ?_
            refine tk_getP dX0_labelTold_50 fX0_15 rfl (by first | assumption | exact va_up_self _ _ _ | exact (va_up_ne _ _ (by omega)).trans (by assumption) | exact congrArg Prod.fst (va_up_self _ _ _) | exact (congrArg Prod.fst (va_up_ne _ _ (by omega))).trans (by assumption) | exact (congrFun (va_up_ne _ _ (by omega)) _).trans (by assumption) | exact (va_up_ne _ _ (by omega)).trans (va_up_self _ _ _) | exact (va_up_ne _ _ (by omega)).trans ((va_up_ne _ _ (by omega)).trans (by assumption)) | exact (congrArg Prod.fst ((va_up_ne _ _ (by omega)).trans (va_up_ne _ _ (by omega)))).trans (by assumption) | exact (congrFun ((va_up_ne _ _ (by omega)).trans (va_up_ne _ _ (by omega))) _).trans (by assumption) | (rw [va_up_self, va_up_ne _ _ (by omega)]; assumption)) (by first | assumption | exact va_up_self _ _ _ | exact (va_up_ne _ _ (by omega)).trans (by assumption) | exact congrArg Prod.fst (va_up_self _ _ _) | exact (congrArg Prod.fst (va_up_ne _ _ (by omega))).trans (by assumption) | exact (congrFun (va_up_ne _ _ (by omega)) _).trans (by assumption) | exact (va_up_ne _ _ (by omega)).trans (va_up_self _ _ _) | exact (va_up_ne _ _ (by omega)).trans ((va_up_ne _ _ (by omega)).trans (by assumption)) | exact (congrArg Prod.fst ((va_up_ne _ _ (by omega)).trans (va_up_ne _ _ (by omega)))).trans (by assumption) | exact (congrFun ((va_up_ne _ _ (by omega)).trans (va_up_ne _ _ (by omega))) _).trans (by assumption) | (rw [va_up_self, va_up_ne _ _ (by omega)]; assumption)) ?_
            refine tk_iload4 dX0_labelTold_53 ?_
            refine tk_sipush dX0_labelTold_55 kc_sipush_128 ?_
            first | refine tk_imulN dX0_labelTold_58 ?_ | refine tk_imul dX0_labelTold_58 ?_
            refine tk_aload0 dX0_labelTold_59 ?_
            refine tk_getI dX0_labelTold_60 fX0_52 rfl (by first | assumption | exact va_up_self _ _ _ | exact (va_up_ne _ _ (by omega)).trans (by assumption) | exact congrArg Prod.fst (va_up_self _ _ _) | exact (congrArg Prod.fst (va_up_ne _ _ (by omega))).trans (by assumption) | exact (congrFun (va_up_ne _ _ (by omega)) _).trans (by assumption) | exact (va_up_ne _ _ (by omega)).trans (va_up_self _ _ _) | exact (va_up_ne _ _ (by omega)).trans ((va_up_ne _ _ (by omega)).trans (by assumption)) | exact (congrArg Prod.fst ((va_up_ne _ _ (by omega)).trans (va_up_ne _ _ (by omega)))).trans (by assumption) | exact (congrFun ((va_up_ne _ _ (by omega)).trans (va_up_ne _ _ (by omega))) _).trans (by assumption) | (rw [va_up_self, va_up_ne _ _ (by omega)]; assumption)) ?_
            rw [g1 28 (by omega), hN]
            first | refine tk_iaddN dX0_labelTold_63 ?_ | refine tk_iadd dX0_labelTold_63 ?_
            refine tk_iconst dX0_labelTold_64 kc_iconst_1 ?_
            first | refine tk_isubN dX0_labelTold_65 (by omega) ?_ | refine tk_isub dX0_labelTold_65 ?_
            first | refine tk_dup2 dX0_labelTold_66 rfl rfl ?_ | refine tk_dup2L dX0_labelTold_66 ?_
            refine tk_iald dX0_labelTold_67 (by first | assumption | exact va_up_self _ _ _ | exact (va_up_ne _ _ (by omega)).trans (by assumption) | exact congrArg Prod.fst (va_up_self _ _ _) | exact (congrArg Prod.fst (va_up_ne _ _ (by omega))).trans (by assumption) | exact (congrFun (va_up_ne _ _ (by omega)) _).trans (by assumption) | exact (va_up_ne _ _ (by omega)).trans (va_up_self _ _ _) | exact (va_up_ne _ _ (by omega)).trans ((va_up_ne _ _ (by omega)).trans (by assumption)) | exact (congrArg Prod.fst ((va_up_ne _ _ (by omega)).trans (va_up_ne _ _ (by omega)))).trans (by assumption) | exact (congrFun ((va_up_ne _ _ (by omega)).trans (va_up_ne _ _ (by omega))) _).trans (by assumption) | (rw [va_up_self, va_up_ne _ _ (by omega)]; assumption)) (by omega) (by omega) ?_
            rw [show p * 128 + (N + 1) - 1 = 128 * p + N by omega, g3 p N hN2 (by omega), hv p (by omega)]
            refine tk_iload5 dX0_labelTold_68 ?_
            first | refine tk_iaddN dX0_labelTold_70 ?_ | refine tk_iadd dX0_labelTold_70 ?_
            refine tk_iast dX0_labelTold_71 (by first | assumption | exact va_up_self _ _ _ | exact (va_up_ne _ _ (by omega)).trans (by assumption) | exact congrArg Prod.fst (va_up_self _ _ _) | exact (congrArg Prod.fst (va_up_ne _ _ (by omega))).trans (by assumption) | exact (congrFun (va_up_ne _ _ (by omega)) _).trans (by assumption) | exact (va_up_ne _ _ (by omega)).trans (va_up_self _ _ _) | exact (va_up_ne _ _ (by omega)).trans ((va_up_ne _ _ (by omega)).trans (by assumption)) | exact (congrArg Prod.fst ((va_up_ne _ _ (by omega)).trans (va_up_ne _ _ (by omega)))).trans (by assumption) | exact (congrFun ((va_up_ne _ _ (by omega)).trans (va_up_ne _ _ (by omega))) _).trans (by assumption) | (rw [va_up_self, va_up_ne _ _ (by omega)]; assumption)) (by omega) (by omega) ?_
            first | refine tk_iinc4 dX0_labelTold_72 (kc_inc _) rfl ?_ | refine tk_iinc4 dX0_labelTold_72 rfl rfl ?_
            refine tk_goto dX0_labelTold_75 ?_
            refine ih (p + 1) _ _ (by omega) (fun a ha => ?_) (fun q hq => ?_) (fun q w w1 w2 => ?_)
            · rw [va_up_ne _ _ ha]; exact g1 a ha
            · rw [va_up_self]
              by_cases e : q = p
              · subst e; rw [va_up_self]; unfold tAd; rw [h19, h38]; rfl
              · rw [va_up_ne _ _ (by omega)]; exact g2 q (by omega)
            · rw [va_up_self, va_up_ne _ _ (by omega)]; exact g3 q w w1 (by omega)
        · refine tk_iconst dX0_labelTold_22 kc_iconst_2 ?_
          refine tk_goto dX0_labelTold_23 ?_
          refine tk_istore5 dX0_labelTold_27 rfl ?_
          refine tk_iload5 dX0_labelTold_29 ?_
          refine tk_iload4 dX0_labelTold_31 ?_
          refine tk_iload1 dX0_labelTold_33 ?_
          refine tk_i2l dX0_labelTold_34 ?_
          refine tk_callSN2z dX0_labelTold_35 kX0_44 (c_isIn (k := p) (by omega) pr.toInt64) (Nat.le_of_ble_eq_true rfl) (by omega) ?_
          first | refine tk_jf_eqB dX0_labelTold_38 (fun h38 => ?_) (fun h38 => ?_) | refine tk_if_eq dX0_labelTold_38 (fun h38 => ?_) (fun h38 => ?_)
          · refine tk_iconst dX0_labelTold_45 kc_iconst_0 ?_
            first | refine tk_iaddN dX0_labelTold_46 ?_ | refine tk_iadd dX0_labelTold_46 ?_
            refine tk_istore5 dX0_labelTold_47 rfl ?_
            refine tk_aload0 dX0_labelTold_49 ?_
            refine tk_getP dX0_labelTold_50 fX0_15 rfl (by first | assumption | exact va_up_self _ _ _ | exact (va_up_ne _ _ (by omega)).trans (by assumption) | exact congrArg Prod.fst (va_up_self _ _ _) | exact (congrArg Prod.fst (va_up_ne _ _ (by omega))).trans (by assumption) | exact (congrFun (va_up_ne _ _ (by omega)) _).trans (by assumption) | exact (va_up_ne _ _ (by omega)).trans (va_up_self _ _ _) | exact (va_up_ne _ _ (by omega)).trans ((va_up_ne _ _ (by omega)).trans (by assumption)) | exact (congrArg Prod.fst ((va_up_ne _ _ (by omega)).trans (va_up_ne _ _ (by omega)))).trans (by assumption) | exact (congrFun ((va_up_ne _ _ (by omega)).trans (va_up_ne _ _ (by omega))) _).trans (by assumption) | (rw [va_up_self, va_up_ne _ _ (by omega)]; assumption)) (by first | assumption | exact va_up_self _ _ _ | exact (va_up_ne _ _ (by omega)).trans (by assumption) | exact congrArg Prod.fst (va_up_self _ _ _) | exact (congrArg Prod.fst (va_up_ne _ _ (by omega))).trans (by assumption) | exact (congrFun (va_up_ne _ _ (by omega)) _).trans (by assumption) | exact (va_up_ne _ _ (by omega)).trans (va_up_self _ _ _) | exact (va_up_ne _ _ (by omega)).trans ((va_up_ne _ _ (by omega)).trans (by assumption)) | exact (congrArg Prod.fst ((va_up_ne _ _ (by omega)).trans (va_up_ne _ _ (by omega)))).trans (by assumption) | exact (congrFun ((va_up_ne _ _ (by omega)).trans (va_up_ne _ _ (by omega))) _).trans (by assumption) | (rw [va_up_self, va_up_ne _ _ (by omega)]; assumption)) ?_
            refine tk_iload4 dX0_labelTold_53 ?_
            refine tk_sipush dX0_labelTold_55 kc_sipush_128 ?_
            first | refine tk_imulN dX0_labelTold_58 ?_ | refine tk_imul dX0_labelTold_58 ?_
            refine tk_aload0 dX0_labelTold_59 ?_
            refine tk_getI dX0_labelTold_60 fX0_52 rfl (by first | assumption | exact va_up_self _ _ _ | exact (va_up_ne _ _ (by omega)).trans (by assumption) | exact congrArg Prod.fst (va_up_self _ _ _) | exact (congrArg Prod.fst (va_up_ne _ _ (by omega))).trans (by assumption) | exact (congrFun (va_up_ne _ _ (by omega)) _).trans (by assumption) | exact (va_up_ne _ _ (by omega)).trans (va_up_self _ _ _) | exact (va_up_ne _ _ (by omega)).trans ((va_up_ne _ _ (by omega)).trans (by assumption)) | exact (congrArg Prod.fst ((va_up_ne _ _ (by omega)).trans (va_up_ne _ _ (by omega)))).trans (by assumption) | exact (congrFun ((va_up_ne _ _ (by omega)).trans (va_up_ne _ _ (by omega))) _).trans (by assumption) | (rw [va_up_self, va_up_ne _ _ (by omega)]; assumption)) ?_
            rw [g1 28 (by omega), hN]
            first | refine tk_iaddN dX0_labelTold_63 ?_ | refine tk_iadd dX0_labelTold_63 ?_
            refine tk_iconst dX0_labelTold_64 kc_iconst_1 ?_
            first | refine tk_isubN dX0_labelTold_65 (by omega) ?_ | refine tk_isub dX0_labelTold_65 ?_
            first | refine tk_dup2 dX0_labelTold_66 rfl rfl ?_ | refine tk_dup2L dX0_labelTold_66 ?_
            refine tk_iald dX0_labelTold_67 (by first | assumption | exact va_up_self _ _ _ | exact (va_up_ne _ _ (by omega)).trans (by assumption) | exact congrArg Prod.fst (va_up_self _ _ _) | exact (congrArg Prod.fst (va_up_ne _ _ (by omega))).trans (by assumption) | exact (congrFun (va_up_ne _ _ (by omega)) _).trans (by assumption) | exact (va_up_ne _ _ (by omega)).trans (va_up_self _ _ _) | exact (va_up_ne _ _ (by omega)).trans ((va_up_ne _ _ (by omega)).trans (by assumption)) | exact (congrArg Prod.fst ((va_up_ne _ _ (by omega)).trans (va_up_ne _ _ (by omega)))).trans (by assumption) | exact (congrFun ((va_up_ne _ _ (by omega)).trans (va_up_ne _ _ (by omega))) _).trans (by assumption) | (rw [va_up_self, va_up_ne _ _ (by omega)]; assumption)) (by omega) (by omega) ?_
            rw [show p * 128 + (N + 1) - 1 = 128 * p + N by omega, g3 p N hN2 (by omega), hv p (by omega)]
            refine tk_iload5 dX0_labelTold_68 ?_
            first | refine tk_iaddN dX0_labelTold_70 ?_ | refine tk_iadd dX0_labelTold_70 ?_
            refine tk_iast dX0_labelTold_71 (by first | assumption | exact va_up_self _ _ _ | exact (va_up_ne _ _ (by omega)).trans (by assumption) | exact congrArg Prod.fst (va_up_self _ _ _) | exact (congrArg Prod.fst (va_up_ne _ _ (by omega))).trans (by assumption) | exact (congrFun (va_up_ne _ _ (by omega)) _).trans (by assumption) | exact (va_up_ne _ _ (by omega)).trans (va_up_self _ _ _) | exact (va_up_ne _ _ (by omega)).trans ((va_up_ne _ _ (by omega)).trans (by assumption)) | exact (congrArg Prod.fst ((va_up_ne _ _ (by omega)).trans (va_up_ne _ _ (by omega)))).trans (by assumption) | exact (congrFun ((va_up_ne _ _ (by omega)).trans (va_up_ne _ _ (by omega))) _).trans (by assumption) | (rw [va_up_self, va_up_ne _ _ (by omega)]; assumption)) (by omega) (by omega) ?_
            first | refine tk_iinc4 dX0_labelTold_72 (kc_inc _) rfl ?_ | refine tk_iinc4 dX0_labelTold_72 rfl rfl ?_
            refine tk_goto dX0_labelTold_75 ?_
            refine ih (p + 1) _ _ (by omega) (fun a ha => ?_) (fun q hq => ?_) (fun q w w1 w2 => ?_)
            · rw [va_up_ne _ _ ha]; exact g1 a ha
            · rw [va_up_self]
              by_cases e : q = p
              · subst e; rw [va_up_self]; unfold tAd; rw [h19, h38]; rfl
              · rw [va_up_ne _ _ (by omega)]; exact g2 q (by omega)
            · rw [va_up_self, va_up_ne _ _ (by omega)]; exact g3 q w w1 (by omega)
          · refine tk_iload3 dX0_labelTold_41 ?_
            refine tk_goto dX0_labelTold_42 ?_
            first | refine tk_iaddN dX0_labelTold_46 ?_ | refine tk_iadd dX0_labelTold_46 ?_
            refine tk_istore5 dX0_labelTold_47 rfl ?_
            refine tk_aload0 dX0_labelTold_49 ?_
            refine tk_getP dX0_labelTold_50 fX0_15 rfl (by first | assumption | exact va_up_self _ _ _ | exact (va_up_ne _ _ (by omega)).trans (by assumption) | exact congrArg Prod.fst (va_up_self _ _ _) | exact (congrArg Prod.fst (va_up_ne _ _ (by omega))).trans (by assumption) | exact (congrFun (va_up_ne _ _ (by omega)) _).trans (by assumption) | exact (va_up_ne _ _ (by omega)).trans (va_up_self _ _ _) | exact (va_up_ne _ _ (by omega)).trans ((va_up_ne _ _ (by omega)).trans (by assumption)) | exact (congrArg Prod.fst ((va_up_ne _ _ (by omega)).trans (va_up_ne _ _ (by omega)))).trans (by assumption) | exact (congrFun ((va_up_ne _ _ (by omega)).trans (va_up_ne _ _ (by omega))) _).trans (by assumption) | (rw [va_up_self, va_up_ne _ _ (by omega)]; assumption)) (by first | assumption | exact va_up_self _ _ _ | exact (va_up_ne _ _ (by omega)).trans (by assumption) | exact congrArg Prod.fst (va_up_self _ _ _) | exact (congrArg Prod.fst (va_up_ne _ _ (by omega))).trans (by assumption) | exact (congrFun (va_up_ne _ _ (by omega)) _).trans (by assumption) | exact (va_up_ne _ _ (by omega)).trans (va_up_self _ _ _) | exact (va_up_ne _ _ (by omega)).trans ((va_up_ne _ _ (by omega)).trans (by assumption)) | exact (congrArg Prod.fst ((va_up_ne _ _ (by omega)).trans (va_up_ne _ _ (by omega)))).trans (by assumption) | exact (congrFun ((va_up_ne _ _ (by omega)).trans (va_up_ne _ _ (by omega))) _).trans (by assumption) | (rw [va_up_self, va_up_ne _ _ (by omega)]; assumption)) ?_
            refine tk_iload4 dX0_labelTold_53 ?_
            refine tk_sipush dX0_labelTold_55 kc_sipush_128 ?_
            first | refine tk_imulN dX0_labelTold_58 ?_ | refine tk_imul dX0_labelTold_58 ?_
            refine tk_aload0 dX0_labelTold_59 ?_
            refine tk_getI dX0_labelTold_60 fX0_52 rfl (by first | assumption | exact va_up_self _ _ _ | exact (va_up_ne _ _ (by omega)).trans (by assumption) | exact congrArg Prod.fst (va_up_self _ _ _) | exact (congrArg Prod.fst (va_up_ne _ _ (by omega))).trans (by assumption) | exact (congrFun (va_up_ne _ _ (by omega)) _).trans (by assumption) | exact (va_up_ne _ _ (by omega)).trans (va_up_self _ _ _) | exact (va_up_ne _ _ (by omega)).trans ((va_up_ne _ _ (by omega)).trans (by assumption)) | exact (congrArg Prod.fst ((va_up_ne _ _ (by omega)).trans (va_up_ne _ _ (by omega)))).trans (by assumption) | exact (congrFun ((va_up_ne _ _ (by omega)).trans (va_up_ne _ _ (by omega))) _).trans (by assumption) | (rw [va_up_self, va_up_ne _ _ (by omega)]; assumption)) ?_
            rw [g1 28 (by omega), hN]
            first | refine tk_iaddN dX0_labelTold_63 ?_ | refine tk_iadd dX0_labelTold_63 ?_
            refine tk_iconst dX0_labelTold_64 kc_iconst_1 ?_
            first | refine tk_isubN dX0_labelTold_65 (by omega) ?_ | refine tk_isub dX0_labelTold_65 ?_
            first | refine tk_dup2 dX0_labelTold_66 rfl rfl ?_ | refine tk_dup2L dX0_labelTold_66 ?_
            refine tk_iald dX0_labelTold_67 (by first | assumption | exact va_up_self _ _ _ | exact (va_up_ne _ _ (by omega)).trans (by assumption) | exact congrArg Prod.fst (va_up_self _ _ _) | exact (congrArg Prod.fst (va_up_ne _ _ (by omega))).trans (by assumption) | exact (congrFun (va_up_ne _ _ (by omega)) _).trans (by assumption) | exact (va_up_ne _ _ (by omega)).trans (va_up_self _ _ _) | exact (va_up_ne _ _ (by omega)).trans ((va_up_ne _ _ (by omega)).trans (by assumption)) | exact (congrArg Prod.fst ((va_up_ne _ _ (by omega)).trans (va_up_ne _ _ (by omega)))).trans (by assumption) | exact (congrFun ((va_up_ne _ _ (by omega)).trans (va_up_ne _ _ (by omega))) _).trans (by assumption) | (rw [va_up_self, va_up_ne _ _ (by omega)]; assumption)) (by omega) (by omega) ?_
            rw [show p * 128 + (N + 1) - 1 = 128 * p + N by omega, g3 p N hN2 (by omega), hv p (by omega)]
            refine tk_iload5 dX0_labelTold_68 ?_
            first | refine tk_iaddN dX0_labelTold_70 ?_ | refine tk_iadd dX0_labelTold_70 ?_
            refine tk_iast dX0_labelTold_71 (by first | assumption | exact va_up_self _ _ _ | exact (va_up_ne _ _ (by omega)).trans (by assumption) | exact congrArg Prod.fst (va_up_self _ _ _) | exact (congrArg Prod.fst (va_up_ne _ _ (by omega))).trans (by assumption) | exact (congrFun (va_up_ne _ _ (by omega)) _).trans (by assumption) | exact (va_up_ne _ _ (by omega)).trans (va_up_self _ _ _) | exact (va_up_ne _ _ (by omega)).trans ((va_up_ne _ _ (by omega)).trans (by assumption)) | exact (congrArg Prod.fst ((va_up_ne _ _ (by omega)).trans (va_up_ne _ _ (by omega)))).trans (by assumption) | exact (congrFun ((va_up_ne _ _ (by omega)).trans (va_up_ne _ _ (by omega))) _).trans (by assumption) | (rw [va_up_self, va_up_ne _ _ (by omega)]; assumption)) (by omega) (by omega) ?_
            first | refine tk_iinc4 dX0_labelTold_72 (kc_inc _) rfl ?_ | refine tk_iinc4 dX0_labelTold_72 rfl rfl ?_
            refine tk_goto dX0_labelTold_75 ?_
            refine ih (p + 1) _ _ (by omega) (fun a ha => ?_) (fun q hq => ?_) (fun q w w1 w2 => ?_)
            · rw [va_up_ne _ _ ha]; exact g1 a ha
            · rw [va_up_self]
              by_cases e : q = p
              · subst e; rw [va_up_self]; unfold tAd; rw [h19, h38]; rfl
              · rw [va_up_ne _ _ (by omega)]; exact g2 q (by omega)
            · rw [va_up_self, va_up_ne _ _ (by omega)]; exact g3 q w w1 (by omega)
  refine tkM.of (ls := [some _, some _, some _, some _, none, none]) (by decide +kernel) (by decide +kernel) (Nat.le_of_ble_eq_true rfl) rfl ?_
  refine tk_iconst dX0_labelTold_0 kc_iconst_0 ?_
  refine tk_istore4 dX0_labelTold_1 rfl ?_
  exact loop np 0 _ _ (by omega) (fun _ _ => rfl) (fun q hq => by omega) (fun _ _ _ _ => rfl)
end LAY4
