/-! ===== the class: draft, a parting laid, the walk ===== -/
section LAY3
variable {G : tkG} {n : Nat} {T : Nat → Nat × Nat} {I : Nat → Nat → Int32} {L : Nat → Nat → Int64} {P : Nat → Nat → Option Nat}
def DPQ (n : Nat) (T : Nat → Nat × Nat) (I : Nat → Nat → Int32) (L : Nat → Nat → Int64) (P : Nat → Nat → Option Nat) (np nf W r : Nat) (F ce : Nat → Int32) (M : Int64) (q : Nat) (S : Int64) : Option tkV → tkH → Prop := fun rv h => ∃ I', rv = none ∧ h = (n, T, I', L, P) ∧ DPT I I' np nf W r F ce M q S W
theorem c_layParting {a np nf W r q : Nat} {F ce : Nat → Int32} {M S : Int64} (hD : dObj T P) (hw : cWld n T I L P a np nf W r F ce) (hW64 : W ≤ 64) (hnp4 : np ≤ 4) (hnf4 : nf ≤ 4) (hq : q < np) (hr : r < W) (hF : ∀ w, w < W → ∃ x, F w = nI x ∧ x < 2 ^ nf) : tkM G mX0_layParting 3 0 0 [vR 28, vR a, vL M, vI (nI q), vL S] (n, T, I, L, P) (DPQ n T I L P np nf W r F ce M q S) := by
  have hD' := hD
  obtain ⟨d1, d2, d3, d4, d5, d6, d7, d8, d9, d10, d11, d12, d13, d14, d15⟩ := hD'
  have hta : (T a).1 = 9 := hw.2.1
  have hfa : fz n a := hw.1
  have ha28 : ¬ a = 28 ∧ ¬ a = 29 ∧ ¬ a = 30 := by have := hfa.1; omega
  have loop : ∀ (k w : Nat) (I3 : Nat → Nat → Int32), w + k = W → DPT I I3 np nf W r F ce M q S w → tkX G mX0_layParting 3 0 0 8 [some (vR 28), some (vR a), some (vL M), none, some (vI (nI q)), some (vL S), none, some (vI (nI w))] [] (n, T, I3, L, P) (DPQ n T I L P np nf W r F ce M q S) := by
    intro k
    induction k with
    | zero =>
      intro w I3 hp hI
      have hWw : I3 a 2 = nI W := by rw [hI.1 a ha28.1 ha28.2.1 ha28.2.2]; exact hw.2.2.2.2.1
      refine tk_iload7 dX0_layParting_8 ?_
      refine tk_aload1 dX0_layParting_10 ?_
      refine tk_getI dX0_layParting_11 fX0_38 rfl (by first | assumption | exact va_up_self _ _ _ | exact (va_up_ne _ _ (by omega)).trans (by assumption) | exact congrArg Prod.fst (va_up_self _ _ _) | exact (congrArg Prod.fst (va_up_ne _ _ (by omega))).trans (by assumption) | exact (congrFun (va_up_ne _ _ (by omega)) _).trans (by assumption) | exact (va_up_ne _ _ (by omega)).trans (va_up_self _ _ _) | exact (va_up_ne _ _ (by omega)).trans ((va_up_ne _ _ (by omega)).trans (by assumption)) | exact (congrArg Prod.fst ((va_up_ne _ _ (by omega)).trans (va_up_ne _ _ (by omega)))).trans (by assumption) | exact (congrFun ((va_up_ne _ _ (by omega)).trans (va_up_ne _ _ (by omega))) _).trans (by assumption) | (rw [va_up_self, va_up_ne _ _ (by omega)]; assumption)) ?_
      rw [hWw]
      first | refine tk_icmp_geN dX0_layParting_14 (by omega) (by omega) (fun h14 => ?_) (fun h14 => ?_) | refine tk_jcmp_ge dX0_layParting_14 (fun h14 => ?_) (fun h14 => ?_)
      · refine tk_return dX0_layParting_101 rfl ?_
        exact ⟨_, rfl, rfl, (show w = W by omega) ▸ hI⟩
      · exfalso; omega
    | succ k ih =>
      intro w I3 hp hI
      have hWw : I3 a 2 = nI W := by rw [hI.1 a ha28.1 ha28.2.1 ha28.2.2]; exact hw.2.2.2.2.1
      obtain ⟨x, hx1, hx2⟩ := hF w (by omega)
      have hcw := cnt_le M w
      have hw3 : cWld n T I3 L P a np nf W r F ce := hw.ex ⟨Nat.le_refl _, fun b hb => ⟨rfl, by have := hb.1; exact hI.1 b (by omega) (by omega) (by omega), rfl, rfl⟩⟩
      have hWr : I3 a 3 = nI r := by rw [hI.1 a ha28.1 ha28.2.1 ha28.2.2]; exact hw.2.2.2.2.2.1
      refine tk_iload7 dX0_layParting_8 ?_
      refine tk_aload1 dX0_layParting_10 ?_
      refine tk_getI dX0_layParting_11 fX0_38 rfl (by first | assumption | exact va_up_self _ _ _ | exact (va_up_ne _ _ (by omega)).trans (by assumption) | exact congrArg Prod.fst (va_up_self _ _ _) | exact (congrArg Prod.fst (va_up_ne _ _ (by omega))).trans (by assumption) | exact (congrFun (va_up_ne _ _ (by omega)) _).trans (by assumption) | exact (va_up_ne _ _ (by omega)).trans (va_up_self _ _ _) | exact (va_up_ne _ _ (by omega)).trans ((va_up_ne _ _ (by omega)).trans (by assumption)) | exact (congrArg Prod.fst ((va_up_ne _ _ (by omega)).trans (va_up_ne _ _ (by omega)))).trans (by assumption) | exact (congrFun ((va_up_ne _ _ (by omega)).trans (va_up_ne _ _ (by omega))) _).trans (by assumption) | (rw [va_up_self, va_up_ne _ _ (by omega)]; assumption)) ?_
      rw [hWw]
      first | refine tk_icmp_geN dX0_layParting_14 (by omega) (by omega) (fun h14 => ?_) (fun h14 => ?_) | refine tk_jcmp_ge dX0_layParting_14 (fun h14 => ?_) (fun h14 => ?_)
      · exfalso; omega
      · refine tk_iload7 dX0_layParting_17 ?_
        refine tk_lload2 dX0_layParting_19 ?_
        refine tk_callSN2z dX0_layParting_20 kX0_44 (c_isIn (k := w) (by omega) M) (Nat.le_of_ble_eq_true rfl) (by omega) ?_
        first | refine tk_jf_eqB dX0_layParting_23 (fun h23 => ?_) (fun h23 => ?_) | refine tk_if_eq dX0_layParting_23 (fun h23 => ?_) (fun h23 => ?_)
        · first | refine tk_iinc7 dX0_layParting_95 (kc_inc _) rfl ?_ | refine tk_iinc7 dX0_layParting_95 rfl rfl ?_
          refine tk_goto dX0_layParting_98 ?_
          first
            | exact ih (w + 1) _ (by omega) (hI.no h23)
            | (rw [va_up_ne (I4) _ (show ¬ 28 = 30 by omega)]; refine ih (w + 1) _ (by omega) (hI.up h23 (by omega) hq hnp4 hA hx1 (by rw [h59]; rfl) ?_); first | exact (if_pos h76).symm | exact (if_neg h76).symm)
        · refine tk_aload0 dX0_layParting_26 ?_
          refine tk_aload1 dX0_layParting_27 ?_
          refine tk_iload7 dX0_layParting_28 ?_
          refine tk_callV2q dX0_layParting_30 kX0_48 (by first | assumption | exact va_up_self _ _ _ | exact (va_up_ne _ _ (by omega)).trans (by assumption) | exact congrArg Prod.fst (va_up_self _ _ _) | exact (congrArg Prod.fst (va_up_ne _ _ (by omega))).trans (by assumption) | exact (congrFun (va_up_ne _ _ (by omega)) _).trans (by assumption) | exact (va_up_ne _ _ (by omega)).trans (va_up_self _ _ _) | exact (va_up_ne _ _ (by omega)).trans ((va_up_ne _ _ (by omega)).trans (by assumption)) | exact (congrArg Prod.fst ((va_up_ne _ _ (by omega)).trans (va_up_ne _ _ (by omega)))).trans (by assumption) | exact (congrFun ((va_up_ne _ _ (by omega)).trans (va_up_ne _ _ (by omega))) _).trans (by assumption) | (rw [va_up_self, va_up_ne _ _ (by omega)]; assumption)) (c_add hD hw3 hW64 hnp4 hnf4 (show w < W by omega) hx1 hx2 hI.2.1 hI.2.2.2.1 (by omega)) (Nat.le_of_ble_eq_true rfl) (by omega) ?_
          rintro rr h1 ⟨I4, rfl, rfl, hA⟩
          dsimp only [Option.toList, List.nil_append]
          refine tk_aload0 dX0_layParting_33 ?_
          refine tk_getP dX0_layParting_34 fX0_15 rfl (by first | assumption | exact va_up_self _ _ _ | exact (va_up_ne _ _ (by omega)).trans (by assumption) | exact congrArg Prod.fst (va_up_self _ _ _) | exact (congrArg Prod.fst (va_up_ne _ _ (by omega))).trans (by assumption) | exact (congrFun (va_up_ne _ _ (by omega)) _).trans (by assumption) | exact (va_up_ne _ _ (by omega)).trans (va_up_self _ _ _) | exact (va_up_ne _ _ (by omega)).trans ((va_up_ne _ _ (by omega)).trans (by assumption)) | exact (congrArg Prod.fst ((va_up_ne _ _ (by omega)).trans (va_up_ne _ _ (by omega)))).trans (by assumption) | exact (congrFun ((va_up_ne _ _ (by omega)).trans (va_up_ne _ _ (by omega))) _).trans (by assumption) | (rw [va_up_self, va_up_ne _ _ (by omega)]; assumption)) (by first | assumption | exact va_up_self _ _ _ | exact (va_up_ne _ _ (by omega)).trans (by assumption) | exact congrArg Prod.fst (va_up_self _ _ _) | exact (congrArg Prod.fst (va_up_ne _ _ (by omega))).trans (by assumption) | exact (congrFun (va_up_ne _ _ (by omega)) _).trans (by assumption) | exact (va_up_ne _ _ (by omega)).trans (va_up_self _ _ _) | exact (va_up_ne _ _ (by omega)).trans ((va_up_ne _ _ (by omega)).trans (by assumption)) | exact (congrArg Prod.fst ((va_up_ne _ _ (by omega)).trans (va_up_ne _ _ (by omega)))).trans (by assumption) | exact (congrFun ((va_up_ne _ _ (by omega)).trans (va_up_ne _ _ (by omega))) _).trans (by assumption) | (rw [va_up_self, va_up_ne _ _ (by omega)]; assumption)) ?_
          refine tk_iload4 dX0_layParting_37 ?_
          refine tk_sipush dX0_layParting_39 kc_sipush_128 ?_
          first | refine tk_imulN dX0_layParting_42 ?_ | refine tk_imul dX0_layParting_42 ?_
          refine tk_aload0 dX0_layParting_43 ?_
          refine tk_getI dX0_layParting_44 fX0_52 rfl (by first | assumption | exact va_up_self _ _ _ | exact (va_up_ne _ _ (by omega)).trans (by assumption) | exact congrArg Prod.fst (va_up_self _ _ _) | exact (congrArg Prod.fst (va_up_ne _ _ (by omega))).trans (by assumption) | exact (congrFun (va_up_ne _ _ (by omega)) _).trans (by assumption) | exact (va_up_ne _ _ (by omega)).trans (va_up_self _ _ _) | exact (va_up_ne _ _ (by omega)).trans ((va_up_ne _ _ (by omega)).trans (by assumption)) | exact (congrArg Prod.fst ((va_up_ne _ _ (by omega)).trans (va_up_ne _ _ (by omega)))).trans (by assumption) | exact (congrFun ((va_up_ne _ _ (by omega)).trans (va_up_ne _ _ (by omega))) _).trans (by assumption) | (rw [va_up_self, va_up_ne _ _ (by omega)]; assumption)) ?_
          rw [hA.2.1]
          first | refine tk_iaddN dX0_layParting_47 ?_ | refine tk_iadd dX0_layParting_47 ?_
          refine tk_iconst dX0_layParting_48 kc_iconst_1 ?_
          first | refine tk_isubN dX0_layParting_49 (by omega) ?_ | refine tk_isub dX0_layParting_49 ?_
          first | refine tk_dup2 dX0_layParting_50 rfl rfl ?_ | refine tk_dup2L dX0_layParting_50 ?_
          refine tk_iald dX0_layParting_51 (by first | assumption | exact va_up_self _ _ _ | exact (va_up_ne _ _ (by omega)).trans (by assumption) | exact congrArg Prod.fst (va_up_self _ _ _) | exact (congrArg Prod.fst (va_up_ne _ _ (by omega))).trans (by assumption) | exact (congrFun (va_up_ne _ _ (by omega)) _).trans (by assumption) | exact (va_up_ne _ _ (by omega)).trans (va_up_self _ _ _) | exact (va_up_ne _ _ (by omega)).trans ((va_up_ne _ _ (by omega)).trans (by assumption)) | exact (congrArg Prod.fst ((va_up_ne _ _ (by omega)).trans (va_up_ne _ _ (by omega)))).trans (by assumption) | exact (congrFun ((va_up_ne _ _ (by omega)).trans (va_up_ne _ _ (by omega))) _).trans (by assumption) | (rw [va_up_self, va_up_ne _ _ (by omega)]; assumption)) (by omega) (by omega) ?_
          rw [show q * 128 + (cnt M w + 1) - 1 = 128 * q + cnt M w by omega, hA.2.2.2.2.2.1 q hq]
          refine tk_iload7 dX0_layParting_52 ?_
          refine tk_lload5 dX0_layParting_54 ?_
          refine tk_callSN2z dX0_layParting_56 kX0_44 (c_isIn (k := w) (by omega) S) (Nat.le_of_ble_eq_true rfl) (by omega) ?_
          first | refine tk_jf_eqB dX0_layParting_59 (fun h59 => ?_) (fun h59 => ?_) | refine tk_if_eq dX0_layParting_59 (fun h59 => ?_) (fun h59 => ?_)
          · refine tk_iconst dX0_layParting_66 kc_iconst_0 ?_
            first | refine tk_iaddN dX0_layParting_67 ?_ | refine tk_iadd dX0_layParting_67 ?_
            refine tk_iast dX0_layParting_68 (by first | assumption | exact va_up_self _ _ _ | exact (va_up_ne _ _ (by omega)).trans (by assumption) | exact congrArg Prod.fst (va_up_self _ _ _) | exact (congrArg Prod.fst (va_up_ne _ _ (by omega))).trans (by assumption) | exact (congrFun (va_up_ne _ _ (by omega)) _).trans (by assumption) | exact (va_up_ne _ _ (by omega)).trans (va_up_self _ _ _) | exact (va_up_ne _ _ (by omega)).trans ((va_up_ne _ _ (by omega)).trans (by assumption)) | exact (congrArg Prod.fst ((va_up_ne _ _ (by omega)).trans (va_up_ne _ _ (by omega)))).trans (by assumption) | exact (congrFun ((va_up_ne _ _ (by omega)).trans (va_up_ne _ _ (by omega))) _).trans (by assumption) | (rw [va_up_self, va_up_ne _ _ (by omega)]; assumption)) (by omega) (by omega) ?_
            refine tk_aload0 dX0_layParting_69 ?_
            refine tk_iload7 dX0_layParting_70 ?_
            refine tk_aload1 dX0_layParting_72 ?_
            refine tk_getI dX0_layParting_73 fX0_53 rfl (by first | assumption | exact va_up_self _ _ _ | exact (va_up_ne _ _ (by omega)).trans (by assumption) | exact congrArg Prod.fst (va_up_self _ _ _) | exact (congrArg Prod.fst (va_up_ne _ _ (by omega))).trans (by assumption) | exact (congrFun (va_up_ne _ _ (by omega)) _).trans (by assumption) | exact (va_up_ne _ _ (by omega)).trans (va_up_self _ _ _) | exact (va_up_ne _ _ (by omega)).trans ((va_up_ne _ _ (by omega)).trans (by assumption)) | exact (congrArg Prod.fst ((va_up_ne _ _ (by omega)).trans (va_up_ne _ _ (by omega)))).trans (by assumption) | exact (congrFun ((va_up_ne _ _ (by omega)).trans (va_up_ne _ _ (by omega))) _).trans (by assumption) | (rw [va_up_self, va_up_ne _ _ (by omega)]; assumption)) ?_
            rw [va_up_ne _ _ ha28.2.2, hA.1 a ha28.1 ha28.2.1 ha28.2.2, hWr]
            first | refine tk_icmp_neN dX0_layParting_76 (by omega) (by omega) (fun h76 => ?_) (fun h76 => ?_) | refine tk_icmp_ne dX0_layParting_76 (fun h76 => ?_) (fun h76 => ?_)
            · refine tk_aload0 dX0_layParting_88 ?_
              refine tk_getI dX0_layParting_89 fX0_56 rfl (by first | assumption | exact va_up_self _ _ _ | exact (va_up_ne _ _ (by omega)).trans (by assumption) | exact congrArg Prod.fst (va_up_self _ _ _) | exact (congrArg Prod.fst (va_up_ne _ _ (by omega))).trans (by assumption) | exact (congrFun (va_up_ne _ _ (by omega)) _).trans (by assumption) | exact (va_up_ne _ _ (by omega)).trans (va_up_self _ _ _) | exact (va_up_ne _ _ (by omega)).trans ((va_up_ne _ _ (by omega)).trans (by assumption)) | exact (congrArg Prod.fst ((va_up_ne _ _ (by omega)).trans (va_up_ne _ _ (by omega)))).trans (by assumption) | exact (congrFun ((va_up_ne _ _ (by omega)).trans (va_up_ne _ _ (by omega))) _).trans (by assumption) | (rw [va_up_self, va_up_ne _ _ (by omega)]; assumption)) ?_
              refine tk_putI dX0_layParting_92 fX0_56 wX0_layParting_X0_3 rfl (by first | assumption | exact va_up_self _ _ _ | exact (va_up_ne _ _ (by omega)).trans (by assumption) | exact congrArg Prod.fst (va_up_self _ _ _) | exact (congrArg Prod.fst (va_up_ne _ _ (by omega))).trans (by assumption) | exact (congrFun (va_up_ne _ _ (by omega)) _).trans (by assumption) | exact (va_up_ne _ _ (by omega)).trans (va_up_self _ _ _) | exact (va_up_ne _ _ (by omega)).trans ((va_up_ne _ _ (by omega)).trans (by assumption)) | exact (congrArg Prod.fst ((va_up_ne _ _ (by omega)).trans (va_up_ne _ _ (by omega)))).trans (by assumption) | exact (congrFun ((va_up_ne _ _ (by omega)).trans (va_up_ne _ _ (by omega))) _).trans (by assumption) | (rw [va_up_self, va_up_ne _ _ (by omega)]; assumption)) ?_
              first | refine tk_iinc7 dX0_layParting_95 (kc_inc _) rfl ?_ | refine tk_iinc7 dX0_layParting_95 rfl rfl ?_
              refine tk_goto dX0_layParting_98 ?_
              first
                | exact ih (w + 1) _ (by omega) (hI.no h23)
                | (rw [va_up_ne (I4) _ (show ¬ 28 = 30 by omega)]; refine ih (w + 1) _ (by omega) (hI.up h23 (by omega) hq hnp4 hA hx1 (by rw [h59]; rfl) ?_); first | exact (if_pos h76).symm | exact (if_neg h76).symm)
            · refine tk_aload0 dX0_layParting_79 ?_
              refine tk_getI dX0_layParting_80 fX0_52 rfl (by first | assumption | exact va_up_self _ _ _ | exact (va_up_ne _ _ (by omega)).trans (by assumption) | exact congrArg Prod.fst (va_up_self _ _ _) | exact (congrArg Prod.fst (va_up_ne _ _ (by omega))).trans (by assumption) | exact (congrFun (va_up_ne _ _ (by omega)) _).trans (by assumption) | exact (va_up_ne _ _ (by omega)).trans (va_up_self _ _ _) | exact (va_up_ne _ _ (by omega)).trans ((va_up_ne _ _ (by omega)).trans (by assumption)) | exact (congrArg Prod.fst ((va_up_ne _ _ (by omega)).trans (va_up_ne _ _ (by omega)))).trans (by assumption) | exact (congrFun ((va_up_ne _ _ (by omega)).trans (va_up_ne _ _ (by omega))) _).trans (by assumption) | (rw [va_up_self, va_up_ne _ _ (by omega)]; assumption)) ?_
              rw [va_up_ne _ _ (by omega), hA.2.1]
              refine tk_iconst dX0_layParting_83 kc_iconst_1 ?_
              first | refine tk_isubN dX0_layParting_84 (by omega) ?_ | refine tk_isub dX0_layParting_84 ?_
              refine tk_goto dX0_layParting_85 ?_
              refine tk_putI dX0_layParting_92 fX0_56 wX0_layParting_X0_3 rfl (by first | assumption | exact va_up_self _ _ _ | exact (va_up_ne _ _ (by omega)).trans (by assumption) | exact congrArg Prod.fst (va_up_self _ _ _) | exact (congrArg Prod.fst (va_up_ne _ _ (by omega))).trans (by assumption) | exact (congrFun (va_up_ne _ _ (by omega)) _).trans (by assumption) | exact (va_up_ne _ _ (by omega)).trans (va_up_self _ _ _) | exact (va_up_ne _ _ (by omega)).trans ((va_up_ne _ _ (by omega)).trans (by assumption)) | exact (congrArg Prod.fst ((va_up_ne _ _ (by omega)).trans (va_up_ne _ _ (by omega)))).trans (by assumption) | exact (congrFun ((va_up_ne _ _ (by omega)).trans (va_up_ne _ _ (by omega))) _).trans (by assumption) | (rw [va_up_self, va_up_ne _ _ (by omega)]; assumption)) ?_
              first | refine tk_iinc7 dX0_layParting_95 (kc_inc _) rfl ?_ | refine tk_iinc7 dX0_layParting_95 rfl rfl ?_
              refine tk_goto dX0_layParting_98 ?_
              first
                | exact ih (w + 1) _ (by omega) (hI.no h23)
                | (rw [va_up_ne (I4) _ (show ¬ 28 = 30 by omega)]; refine ih (w + 1) _ (by omega) (hI.up h23 (by omega) hq hnp4 hA hx1 (by rw [h59]; rfl) ?_); first | exact (if_pos h76).symm | exact (if_neg h76).symm)
          · refine tk_iconst dX0_layParting_62 kc_iconst_1 ?_
            refine tk_goto dX0_layParting_63 ?_
            first | refine tk_iaddN dX0_layParting_67 ?_ | refine tk_iadd dX0_layParting_67 ?_
            refine tk_iast dX0_layParting_68 (by first | assumption | exact va_up_self _ _ _ | exact (va_up_ne _ _ (by omega)).trans (by assumption) | exact congrArg Prod.fst (va_up_self _ _ _) | exact (congrArg Prod.fst (va_up_ne _ _ (by omega))).trans (by assumption) | exact (congrFun (va_up_ne _ _ (by omega)) _).trans (by assumption) | exact (va_up_ne _ _ (by omega)).trans (va_up_self _ _ _) | exact (va_up_ne _ _ (by omega)).trans ((va_up_ne _ _ (by omega)).trans (by assumption)) | exact (congrArg Prod.fst ((va_up_ne _ _ (by omega)).trans (va_up_ne _ _ (by omega)))).trans (by assumption) | exact (congrFun ((va_up_ne _ _ (by omega)).trans (va_up_ne _ _ (by omega))) _).trans (by assumption) | (rw [va_up_self, va_up_ne _ _ (by omega)]; assumption)) (by omega) (by omega) ?_
            refine tk_aload0 dX0_layParting_69 ?_
            refine tk_iload7 dX0_layParting_70 ?_
            refine tk_aload1 dX0_layParting_72 ?_
            refine tk_getI dX0_layParting_73 fX0_53 rfl (by first | assumption | exact va_up_self _ _ _ | exact (va_up_ne _ _ (by omega)).trans (by assumption) | exact congrArg Prod.fst (va_up_self _ _ _) | exact (congrArg Prod.fst (va_up_ne _ _ (by omega))).trans (by assumption) | exact (congrFun (va_up_ne _ _ (by omega)) _).trans (by assumption) | exact (va_up_ne _ _ (by omega)).trans (va_up_self _ _ _) | exact (va_up_ne _ _ (by omega)).trans ((va_up_ne _ _ (by omega)).trans (by assumption)) | exact (congrArg Prod.fst ((va_up_ne _ _ (by omega)).trans (va_up_ne _ _ (by omega)))).trans (by assumption) | exact (congrFun ((va_up_ne _ _ (by omega)).trans (va_up_ne _ _ (by omega))) _).trans (by assumption) | (rw [va_up_self, va_up_ne _ _ (by omega)]; assumption)) ?_
            rw [va_up_ne _ _ ha28.2.2, hA.1 a ha28.1 ha28.2.1 ha28.2.2, hWr]
            first | refine tk_icmp_neN dX0_layParting_76 (by omega) (by omega) (fun h76 => ?_) (fun h76 => ?_) | refine tk_icmp_ne dX0_layParting_76 (fun h76 => ?_) (fun h76 => ?_)
            · refine tk_aload0 dX0_layParting_88 ?_
              refine tk_getI dX0_layParting_89 fX0_56 rfl (by first | assumption | exact va_up_self _ _ _ | exact (va_up_ne _ _ (by omega)).trans (by assumption) | exact congrArg Prod.fst (va_up_self _ _ _) | exact (congrArg Prod.fst (va_up_ne _ _ (by omega))).trans (by assumption) | exact (congrFun (va_up_ne _ _ (by omega)) _).trans (by assumption) | exact (va_up_ne _ _ (by omega)).trans (va_up_self _ _ _) | exact (va_up_ne _ _ (by omega)).trans ((va_up_ne _ _ (by omega)).trans (by assumption)) | exact (congrArg Prod.fst ((va_up_ne _ _ (by omega)).trans (va_up_ne _ _ (by omega)))).trans (by assumption) | exact (congrFun ((va_up_ne _ _ (by omega)).trans (va_up_ne _ _ (by omega))) _).trans (by assumption) | (rw [va_up_self, va_up_ne _ _ (by omega)]; assumption)) ?_
              refine tk_putI dX0_layParting_92 fX0_56 wX0_layParting_X0_3 rfl (by first | assumption | exact va_up_self _ _ _ | exact (va_up_ne _ _ (by omega)).trans (by assumption) | exact congrArg Prod.fst (va_up_self _ _ _) | exact (congrArg Prod.fst (va_up_ne _ _ (by omega))).trans (by assumption) | exact (congrFun (va_up_ne _ _ (by omega)) _).trans (by assumption) | exact (va_up_ne _ _ (by omega)).trans (va_up_self _ _ _) | exact (va_up_ne _ _ (by omega)).trans ((va_up_ne _ _ (by omega)).trans (by assumption)) | exact (congrArg Prod.fst ((va_up_ne _ _ (by omega)).trans (va_up_ne _ _ (by omega)))).trans (by assumption) | exact (congrFun ((va_up_ne _ _ (by omega)).trans (va_up_ne _ _ (by omega))) _).trans (by assumption) | (rw [va_up_self, va_up_ne _ _ (by omega)]; assumption)) ?_
              first | refine tk_iinc7 dX0_layParting_95 (kc_inc _) rfl ?_ | refine tk_iinc7 dX0_layParting_95 rfl rfl ?_
              refine tk_goto dX0_layParting_98 ?_
              first
                | exact ih (w + 1) _ (by omega) (hI.no h23)
                | (rw [va_up_ne (I4) _ (show ¬ 28 = 30 by omega)]; refine ih (w + 1) _ (by omega) (hI.up h23 (by omega) hq hnp4 hA hx1 (by rw [h59]; rfl) ?_); first | exact (if_pos h76).symm | exact (if_neg h76).symm)
            · refine tk_aload0 dX0_layParting_79 ?_
              refine tk_getI dX0_layParting_80 fX0_52 rfl (by first | assumption | exact va_up_self _ _ _ | exact (va_up_ne _ _ (by omega)).trans (by assumption) | exact congrArg Prod.fst (va_up_self _ _ _) | exact (congrArg Prod.fst (va_up_ne _ _ (by omega))).trans (by assumption) | exact (congrFun (va_up_ne _ _ (by omega)) _).trans (by assumption) | exact (va_up_ne _ _ (by omega)).trans (va_up_self _ _ _) | exact (va_up_ne _ _ (by omega)).trans ((va_up_ne _ _ (by omega)).trans (by assumption)) | exact (congrArg Prod.fst ((va_up_ne _ _ (by omega)).trans (va_up_ne _ _ (by omega)))).trans (by assumption) | exact (congrFun ((va_up_ne _ _ (by omega)).trans (va_up_ne _ _ (by omega))) _).trans (by assumption) | (rw [va_up_self, va_up_ne _ _ (by omega)]; assumption)) ?_
              rw [va_up_ne _ _ (by omega), hA.2.1]
              refine tk_iconst dX0_layParting_83 kc_iconst_1 ?_
              first | refine tk_isubN dX0_layParting_84 (by omega) ?_ | refine tk_isub dX0_layParting_84 ?_
              refine tk_goto dX0_layParting_85 ?_
              refine tk_putI dX0_layParting_92 fX0_56 wX0_layParting_X0_3 rfl (by first | assumption | exact va_up_self _ _ _ | exact (va_up_ne _ _ (by omega)).trans (by assumption) | exact congrArg Prod.fst (va_up_self _ _ _) | exact (congrArg Prod.fst (va_up_ne _ _ (by omega))).trans (by assumption) | exact (congrFun (va_up_ne _ _ (by omega)) _).trans (by assumption) | exact (va_up_ne _ _ (by omega)).trans (va_up_self _ _ _) | exact (va_up_ne _ _ (by omega)).trans ((va_up_ne _ _ (by omega)).trans (by assumption)) | exact (congrArg Prod.fst ((va_up_ne _ _ (by omega)).trans (va_up_ne _ _ (by omega)))).trans (by assumption) | exact (congrFun ((va_up_ne _ _ (by omega)).trans (va_up_ne _ _ (by omega))) _).trans (by assumption) | (rw [va_up_self, va_up_ne _ _ (by omega)]; assumption)) ?_
              first | refine tk_iinc7 dX0_layParting_95 (kc_inc _) rfl ?_ | refine tk_iinc7 dX0_layParting_95 rfl rfl ?_
              refine tk_goto dX0_layParting_98 ?_
              first
                | exact ih (w + 1) _ (by omega) (hI.no h23)
                | (rw [va_up_ne (I4) _ (show ¬ 28 = 30 by omega)]; refine ih (w + 1) _ (by omega) (hI.up h23 (by omega) hq hnp4 hA hx1 (by rw [h59]; rfl) ?_); first | exact (if_pos h76).symm | exact (if_neg h76).symm)
  refine tkM.of (ls := [some _, some _, some _, none, some _, some _, none, none]) (by decide +kernel) (by decide +kernel) (Nat.le_of_ble_eq_true rfl) rfl ?_
  refine tk_aload0 dX0_layParting_0 ?_
  refine tk_aload1 dX0_layParting_1 ?_
  refine tk_callV1q dX0_layParting_2 kX0_34 (by first | assumption | exact va_up_self _ _ _ | exact (va_up_ne _ _ (by omega)).trans (by assumption) | exact congrArg Prod.fst (va_up_self _ _ _) | exact (congrArg Prod.fst (va_up_ne _ _ (by omega))).trans (by assumption) | exact (congrFun (va_up_ne _ _ (by omega)) _).trans (by assumption) | exact (va_up_ne _ _ (by omega)).trans (va_up_self _ _ _) | exact (va_up_ne _ _ (by omega)).trans ((va_up_ne _ _ (by omega)).trans (by assumption)) | exact (congrArg Prod.fst ((va_up_ne _ _ (by omega)).trans (va_up_ne _ _ (by omega)))).trans (by assumption) | exact (congrFun ((va_up_ne _ _ (by omega)).trans (va_up_ne _ _ (by omega))) _).trans (by assumption) | (rw [va_up_self, va_up_ne _ _ (by omega)]; assumption)) (c_layNone hD hw) (Nat.le_of_ble_eq_true rfl) (by omega) ?_
  rintro rr h1 ⟨I1, rfl, rfl, x1, x2, x3, x4, x5⟩
  dsimp only [Option.toList, List.nil_append]
  refine tk_iconst dX0_layParting_5 kc_iconst_0 ?_
  refine tk_istore7 dX0_layParting_6 rfl ?_
  exact loop W 0 I1 (by omega) ⟨fun a b _ _ => x1 a b, x2, x3, x4, fun h => by omega, fun u hu => by omega⟩
end LAY3
