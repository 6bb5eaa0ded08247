/-! ===== the class: as, wrong, world, all ===== -/
theorem rIn_pe0 {k : Nat} (h : k ≤ 1000) (x : Int32) : rIn x (nI 0) (nI k - nI 1) = rPer (nI k) x := by
  by_cases h1 : 1 ≤ k
  · exact rIn_per h1 h x
  · obtain rfl : k = 0 := by omega
    have c1 : (nI 0 - nI 1 : Int32).toInt = -1 := by decide
    have c0 : (nI 0 : Int32).toInt = 0 := by decide
    have c2 : (0 : Int32).toInt = 0 := by decide
    rw [Bool.eq_iff_iff]
    unfold rIn rPer
    rw [Bool.and_eq_true, Bool.and_eq_true, decide_eq_true_eq, decide_eq_true_eq, decide_eq_true_eq, decide_eq_true_eq, Int32.le_iff_toInt_le, Int32.le_iff_toInt_le, Int32.le_iff_toInt_le, Int32.lt_iff_toInt_lt, c0, c1, c2]
    omega
section ASKS
variable {G : tkG} {n : Nat} {T : Nat → Nat × Nat} {I J : Nat → Nat → Int32} {L : Nat → Nat → Int64} {P : Nat → Nat → Option Nat} {tw np nf W r cn : Nat} {cl : Nat → Nat} {pn : Nat} {pl pg : Nat → Nat} {mn : Nat} {mW mr mc : Nat → Nat} {ml : Nat → Nat → Nat}
theorem c_isOfKind {v : Int32} {k : Nat} (hv : rSign v = true) (hk : k ≤ 3) {h : tkH} : tkM G mX7_isOfKind 1 0 0 [vI v, vI (nI k)] h (tkF (some (vI (tkb (rIs v (nI k))))) h) := by
  have hc : k = 0 ∨ k = 1 ∨ k = 2 ∨ k = 3 := by omega
  refine tkM.of (ls := [some _, some _]) (by decide +kernel) (by decide +kernel) (Nat.le_of_ble_eq_true rfl) rfl ?_
  refine tk_iload1 dX7_isOfKind_0 ?_
  rcases hc with rfl | rfl | rfl | rfl
  · refine tk_tabIn (tgt := 28) dX7_isOfKind_1 (by decide) (by decide) rfl rfl ?_
    refine tk_iconst dX7_isOfKind_28 kc_iconst_1 ?_
    first | refine tk_zreturn dX7_isOfKind_29 rfl ?_ | refine tk_zret0 dX7_isOfKind_29 rfl ?_ | refine tk_zret1 dX7_isOfKind_29 rfl ?_
    exact tkz (b := true) rfl
  · rw [show rIs v (nI 1) = decide (rTk v = nI 1) from if_neg (by decide)]
    refine tk_tabIn (tgt := 30) dX7_isOfKind_1 (by decide) (by decide) rfl rfl ?_
    refine tk_iload0 dX7_isOfKind_30 ?_
    refine tk_callS1z dX7_isOfKind_31 kX7_19 (c_takes hv) (Nat.le_of_ble_eq_true rfl) (by omega) ?_
    refine tk_iconst dX7_isOfKind_34 kc_iconst_1 ?_
    first | refine tk_icmp_neN dX7_isOfKind_35 (by omega) (by omega) (fun h35 => ?_) (fun h35 => ?_) | refine tk_icmp_ne dX7_isOfKind_35 (fun h35 => ?_) (fun h35 => ?_)
    · refine tk_iconst dX7_isOfKind_42 kc_iconst_0 ?_
      first | refine tk_zreturn dX7_isOfKind_43 rfl ?_ | refine tk_zret0 dX7_isOfKind_43 rfl ?_ | refine tk_zret1 dX7_isOfKind_43 rfl ?_
      exact tkz (by first | exact (decide_eq_true h35).symm | exact (decide_eq_false h35).symm)
    · refine tk_iconst dX7_isOfKind_38 kc_iconst_1 ?_
      refine tk_goto dX7_isOfKind_39 ?_
      first | refine tk_zreturn dX7_isOfKind_43 rfl ?_ | refine tk_zret0 dX7_isOfKind_43 rfl ?_ | refine tk_zret1 dX7_isOfKind_43 rfl ?_
      exact tkz (by first | exact (decide_eq_true h35).symm | exact (decide_eq_false h35).symm)
  · rw [show rIs v (nI 2) = decide (rTk v = nI 2) from if_neg (by decide)]
    refine tk_tabIn (tgt := 44) dX7_isOfKind_1 (by decide) (by decide) rfl rfl ?_
    refine tk_iload0 dX7_isOfKind_44 ?_
    refine tk_callS1z dX7_isOfKind_45 kX7_19 (c_takes hv) (Nat.le_of_ble_eq_true rfl) (by omega) ?_
    refine tk_iconst dX7_isOfKind_48 kc_iconst_2 ?_
    first | refine tk_icmp_neN dX7_isOfKind_49 (by omega) (by omega) (fun h49 => ?_) (fun h49 => ?_) | refine tk_icmp_ne dX7_isOfKind_49 (fun h49 => ?_) (fun h49 => ?_)
    · refine tk_iconst dX7_isOfKind_56 kc_iconst_0 ?_
      first | refine tk_zreturn dX7_isOfKind_57 rfl ?_ | refine tk_zret0 dX7_isOfKind_57 rfl ?_ | refine tk_zret1 dX7_isOfKind_57 rfl ?_
      exact tkz (by first | exact (decide_eq_true h49).symm | exact (decide_eq_false h49).symm)
    · refine tk_iconst dX7_isOfKind_52 kc_iconst_1 ?_
      refine tk_goto dX7_isOfKind_53 ?_
      first | refine tk_zreturn dX7_isOfKind_57 rfl ?_ | refine tk_zret0 dX7_isOfKind_57 rfl ?_ | refine tk_zret1 dX7_isOfKind_57 rfl ?_
      exact tkz (by first | exact (decide_eq_true h49).symm | exact (decide_eq_false h49).symm)
  · rw [show rIs v (nI 3) = decide (nI 32 ≤ v) from (if_pos (by decide)).trans (by rw [show decide (nI 3 = 0) = false by decide]; rfl)]
    refine tk_tabOut (tgt := 58) dX7_isOfKind_1 (by decide) rfl ?_
    refine tk_iload0 dX7_isOfKind_58 ?_
    refine tk_bipush dX7_isOfKind_59 kc_bipush_32 ?_
    first | refine tk_icmp_ltN dX7_isOfKind_61 (by omega) (by omega) (fun h61 => ?_) (fun h61 => ?_) | refine tk_jcmp_lt dX7_isOfKind_61 (fun h61 => ?_) (fun h61 => ?_)
    · refine tk_iconst dX7_isOfKind_68 kc_iconst_0 ?_
      first | refine tk_zreturn dX7_isOfKind_69 rfl ?_ | refine tk_zret0 dX7_isOfKind_69 rfl ?_ | refine tk_zret1 dX7_isOfKind_69 rfl ?_
      exact tkz (by first | exact (decide_eq_true h61).symm | exact (decide_eq_false (Int32.not_le.mpr h61)).symm)
    · refine tk_iconst dX7_isOfKind_64 kc_iconst_1 ?_
      refine tk_goto dX7_isOfKind_65 ?_
      first | refine tk_zreturn dX7_isOfKind_69 rfl ?_ | refine tk_zret0 dX7_isOfKind_69 rfl ?_ | refine tk_zret1 dX7_isOfKind_69 rfl ?_
      exact tkz (by first | exact (decide_eq_true h61).symm | exact (decide_eq_false (Int32.not_le.mpr h61)).symm)
theorem k_wrong (hN : cNow n T I L P J tw np nf W r cn cl pn pl pg mn mW mr mc ml) (s : Int32) : tkM G mX10_wrong 3 0 0 [vR 0, vI s] (n, T, I, L, P) (cPst n T I L P J (rBlC s) (rW (fun i => J 47 (14 * ix s + i)) (J 41 0) (J 41 1) (ix (J 48 (ix s))) 0 (nI 0)) J) := by
  have hN' := hN
  obtain ⟨hR, hk, ⟨hTH, hPH, hMH, hGW, hob⟩, ftw, pic, sta, oa, se, pa, ma, ht, hpc, hst, hoa, hse, hpa, hma⟩ := hN
  have hn := hR.1
  have hsc := hR.2.1
  have hk' := hk
  obtain ⟨k0, k1, k2, k3, k4, k5, k6⟩ := hk'
  have ht' := ht
  obtain ⟨u0, u1, u2, u3, u4, u5, u6⟩ := ht'
  have hpc' := hpc
  obtain ⟨fpi, tpi, wa, ca, ga, p1, p2, p3, hw, fca, hca, hcl, fga, hga, hgr⟩ := hpc'
  have hp : pObj T P pic wa ca ga := ⟨tpi, p1, p2, p3⟩
  have hTH' := hTH
  obtain ⟨h41, np1, np4, h411, nf1, nf4, h412, W1, W64, h413, rW, h414, cn5, hcW, hsW⟩ := hTH'
  have se6 := hse.2.1
  have hw' := hw
  obtain ⟨w1, w2, w3, w4, -⟩ := hw'
  refine tkM.of (ls := [some _, some _]) (by decide +kernel) (by decide +kernel) (Nat.le_of_ble_eq_true rfl) rfl ?_
  refine tk_iload1 dX10_wrong_0 ?_
  refine tk_callS1z dX10_wrong_1 kX10_123 (c_isSentence s) (Nat.le_of_ble_eq_true rfl) (by omega) ?_
  first | refine tk_jf_neB dX10_wrong_4 (fun h4 => ?_) (fun h4 => ?_) | refine tk_if_ne dX10_wrong_4 (fun h4 => ?_) (fun h4 => ?_)
  · refine tk_aload0 dX10_wrong_14 ?_
    obtain ⟨s', hs', rfl⟩ := rIn_of h4 (by omega)
    have hix : ix (nI s') = s' := ix_nI (by omega)
    obtain ⟨ra, l, q1, q2, q3, q4, q5, q6, q7, q8⟩ := sen_row hse (show s' < 6 by omega)
    refine tk_getP dX10_wrong_15 fX10_13 rfl (by first | assumption | exact va_up_self _ _ _ | exact (va_up_ne _ _ (by omega)).trans (by assumption) | exact congrArg Prod.fst (va_up_self _ _ _) | exact (congrArg Prod.fst (va_up_ne _ _ (by omega))).trans (by assumption) | exact (congrFun (va_up_ne _ _ (by omega)) _).trans (by assumption) | exact (va_up_ne _ _ (by omega)).trans (va_up_self _ _ _) | exact (va_up_ne _ _ (by omega)).trans ((va_up_ne _ _ (by omega)).trans (by assumption)) | exact (congrArg Prod.fst ((va_up_ne _ _ (by omega)).trans (va_up_ne _ _ (by omega)))).trans (by assumption) | exact (congrFun ((va_up_ne _ _ (by omega)).trans (va_up_ne _ _ (by omega))) _).trans (by assumption) | (rw [va_up_self, va_up_ne _ _ (by omega)]; assumption)) (by first | assumption | exact va_up_self _ _ _ | exact (va_up_ne _ _ (by omega)).trans (by assumption) | exact congrArg Prod.fst (va_up_self _ _ _) | exact (congrArg Prod.fst (va_up_ne _ _ (by omega))).trans (by assumption) | exact (congrFun (va_up_ne _ _ (by omega)) _).trans (by assumption) | exact (va_up_ne _ _ (by omega)).trans (va_up_self _ _ _) | exact (va_up_ne _ _ (by omega)).trans ((va_up_ne _ _ (by omega)).trans (by assumption)) | exact (congrArg Prod.fst ((va_up_ne _ _ (by omega)).trans (va_up_ne _ _ (by omega)))).trans (by assumption) | exact (congrFun ((va_up_ne _ _ (by omega)).trans (va_up_ne _ _ (by omega))) _).trans (by assumption) | (rw [va_up_self, va_up_ne _ _ (by omega)]; assumption)) ?_
    refine tk_getP dX10_wrong_18 fX10_131 rfl (by first | assumption | exact va_up_self _ _ _ | exact (va_up_ne _ _ (by omega)).trans (by assumption) | exact congrArg Prod.fst (va_up_self _ _ _) | exact (congrArg Prod.fst (va_up_ne _ _ (by omega))).trans (by assumption) | exact (congrFun (va_up_ne _ _ (by omega)) _).trans (by assumption) | exact (va_up_ne _ _ (by omega)).trans (va_up_self _ _ _) | exact (va_up_ne _ _ (by omega)).trans ((va_up_ne _ _ (by omega)).trans (by assumption)) | exact (congrArg Prod.fst ((va_up_ne _ _ (by omega)).trans (va_up_ne _ _ (by omega)))).trans (by assumption) | exact (congrFun ((va_up_ne _ _ (by omega)).trans (va_up_ne _ _ (by omega))) _).trans (by assumption) | (rw [va_up_self, va_up_ne _ _ (by omega)]; assumption)) (by first | assumption | exact va_up_self _ _ _ | exact (va_up_ne _ _ (by omega)).trans (by assumption) | exact congrArg Prod.fst (va_up_self _ _ _) | exact (congrArg Prod.fst (va_up_ne _ _ (by omega))).trans (by assumption) | exact (congrFun (va_up_ne _ _ (by omega)) _).trans (by assumption) | exact (va_up_ne _ _ (by omega)).trans (va_up_self _ _ _) | exact (va_up_ne _ _ (by omega)).trans ((va_up_ne _ _ (by omega)).trans (by assumption)) | exact (congrArg Prod.fst ((va_up_ne _ _ (by omega)).trans (va_up_ne _ _ (by omega)))).trans (by assumption) | exact (congrFun ((va_up_ne _ _ (by omega)).trans (va_up_ne _ _ (by omega))) _).trans (by assumption) | (rw [va_up_self, va_up_ne _ _ (by omega)]; assumption)) ?_
    refine tk_iload1 dX10_wrong_21 ?_
    refine tk_aald dX10_wrong_22 (by first | assumption | exact va_up_self _ _ _ | exact (va_up_ne _ _ (by omega)).trans (by assumption) | exact congrArg Prod.fst (va_up_self _ _ _) | exact (congrArg Prod.fst (va_up_ne _ _ (by omega))).trans (by assumption) | exact (congrFun (va_up_ne _ _ (by omega)) _).trans (by assumption) | exact (va_up_ne _ _ (by omega)).trans (va_up_self _ _ _) | exact (va_up_ne _ _ (by omega)).trans ((va_up_ne _ _ (by omega)).trans (by assumption)) | exact (congrArg Prod.fst ((va_up_ne _ _ (by omega)).trans (va_up_ne _ _ (by omega)))).trans (by assumption) | exact (congrFun ((va_up_ne _ _ (by omega)).trans (va_up_ne _ _ (by omega))) _).trans (by assumption) | (rw [va_up_self, va_up_ne _ _ (by omega)]; assumption)) (by omega) (by omega) (by omega) (by first | assumption | exact va_up_self _ _ _ | exact (va_up_ne _ _ (by omega)).trans (by assumption) | exact congrArg Prod.fst (va_up_self _ _ _) | exact (congrArg Prod.fst (va_up_ne _ _ (by omega))).trans (by assumption) | exact (congrFun (va_up_ne _ _ (by omega)) _).trans (by assumption) | exact (va_up_ne _ _ (by omega)).trans (va_up_self _ _ _) | exact (va_up_ne _ _ (by omega)).trans ((va_up_ne _ _ (by omega)).trans (by assumption)) | exact (congrArg Prod.fst ((va_up_ne _ _ (by omega)).trans (va_up_ne _ _ (by omega)))).trans (by assumption) | exact (congrFun ((va_up_ne _ _ (by omega)).trans (va_up_ne _ _ (by omega))) _).trans (by assumption) | (rw [va_up_self, va_up_ne _ _ (by omega)]; assumption)) ?_
    refine tk_aload0 dX10_wrong_23 ?_
    refine tk_callV0z dX10_wrong_24 kX10_84 (by first | assumption | exact va_up_self _ _ _ | exact (va_up_ne _ _ (by omega)).trans (by assumption) | exact congrArg Prod.fst (va_up_self _ _ _) | exact (congrArg Prod.fst (va_up_ne _ _ (by omega))).trans (by assumption) | exact (congrFun (va_up_ne _ _ (by omega)) _).trans (by assumption) | exact (va_up_ne _ _ (by omega)).trans (va_up_self _ _ _) | exact (va_up_ne _ _ (by omega)).trans ((va_up_ne _ _ (by omega)).trans (by assumption)) | exact (congrArg Prod.fst ((va_up_ne _ _ (by omega)).trans (va_up_ne _ _ (by omega)))).trans (by assumption) | exact (congrFun ((va_up_ne _ _ (by omega)).trans (va_up_ne _ _ (by omega))) _).trans (by assumption) | (rw [va_up_self, va_up_ne _ _ (by omega)]; assumption)) (c_worlds hk ht hp) (Nat.le_of_ble_eq_true rfl) (by omega) ?_
    refine tk_getI dX10_wrong_27 fX10_176 rfl (by first | assumption | exact va_up_self _ _ _ | exact (va_up_ne _ _ (by omega)).trans (by assumption) | exact congrArg Prod.fst (va_up_self _ _ _) | exact (congrArg Prod.fst (va_up_ne _ _ (by omega))).trans (by assumption) | exact (congrFun (va_up_ne _ _ (by omega)) _).trans (by assumption) | exact (va_up_ne _ _ (by omega)).trans (va_up_self _ _ _) | exact (va_up_ne _ _ (by omega)).trans ((va_up_ne _ _ (by omega)).trans (by assumption)) | exact (congrArg Prod.fst ((va_up_ne _ _ (by omega)).trans (va_up_ne _ _ (by omega)))).trans (by assumption) | exact (congrFun ((va_up_ne _ _ (by omega)).trans (va_up_ne _ _ (by omega))) _).trans (by assumption) | (rw [va_up_self, va_up_ne _ _ (by omega)]; assumption)) ?_
    rw [w3]
    refine tk_aload0 dX10_wrong_30 ?_
    refine tk_callV0z dX10_wrong_31 kX10_84 (by first | assumption | exact va_up_self _ _ _ | exact (va_up_ne _ _ (by omega)).trans (by assumption) | exact congrArg Prod.fst (va_up_self _ _ _) | exact (congrArg Prod.fst (va_up_ne _ _ (by omega))).trans (by assumption) | exact (congrFun (va_up_ne _ _ (by omega)) _).trans (by assumption) | exact (va_up_ne _ _ (by omega)).trans (va_up_self _ _ _) | exact (va_up_ne _ _ (by omega)).trans ((va_up_ne _ _ (by omega)).trans (by assumption)) | exact (congrArg Prod.fst ((va_up_ne _ _ (by omega)).trans (va_up_ne _ _ (by omega)))).trans (by assumption) | exact (congrFun ((va_up_ne _ _ (by omega)).trans (va_up_ne _ _ (by omega))) _).trans (by assumption) | (rw [va_up_self, va_up_ne _ _ (by omega)]; assumption)) (c_worlds hk ht hp) (Nat.le_of_ble_eq_true rfl) (by omega) ?_
    refine tk_getI dX10_wrong_34 fX10_179 rfl (by first | assumption | exact va_up_self _ _ _ | exact (va_up_ne _ _ (by omega)).trans (by assumption) | exact congrArg Prod.fst (va_up_self _ _ _) | exact (congrArg Prod.fst (va_up_ne _ _ (by omega))).trans (by assumption) | exact (congrFun (va_up_ne _ _ (by omega)) _).trans (by assumption) | exact (va_up_ne _ _ (by omega)).trans (va_up_self _ _ _) | exact (va_up_ne _ _ (by omega)).trans ((va_up_ne _ _ (by omega)).trans (by assumption)) | exact (congrArg Prod.fst ((va_up_ne _ _ (by omega)).trans (va_up_ne _ _ (by omega)))).trans (by assumption) | exact (congrFun ((va_up_ne _ _ (by omega)).trans (va_up_ne _ _ (by omega))) _).trans (by assumption) | (rw [va_up_self, va_up_ne _ _ (by omega)]; assumption)) ?_
    rw [w4]
    refine tk_callV2z dX10_wrong_37 kX10_182 (by first | assumption | exact va_up_self _ _ _ | exact (va_up_ne _ _ (by omega)).trans (by assumption) | exact congrArg Prod.fst (va_up_self _ _ _) | exact (congrArg Prod.fst (va_up_ne _ _ (by omega))).trans (by assumption) | exact (congrFun (va_up_ne _ _ (by omega)) _).trans (by assumption) | exact (va_up_ne _ _ (by omega)).trans (va_up_self _ _ _) | exact (va_up_ne _ _ (by omega)).trans ((va_up_ne _ _ (by omega)).trans (by assumption)) | exact (congrArg Prod.fst ((va_up_ne _ _ (by omega)).trans (va_up_ne _ _ (by omega)))).trans (by assumption) | exact (congrFun ((va_up_ne _ _ (by omega)).trans (va_up_ne _ _ (by omega))) _).trans (by assumption) | (rw [va_up_self, va_up_ne _ _ (by omega)]; assumption)) (c_fault q8 np4 nf4) (Nat.le_of_ble_eq_true rfl) (by omega) ?_
    refine tk_ireturn dX10_wrong_40 rfl ?_
    exact cPst_g (by simp [rBlC, *]) (by rw [hix, q6, h41, h411]) hR cKp.rf jSm.rf
  · refine tk_aload0 dX10_wrong_7 ?_
    refine tk_ldc dX10_wrong_8 klX10_65 ?_
    refine tk_callV1z dX10_wrong_10 kX10_66 (by first | assumption | exact va_up_self _ _ _ | exact (va_up_ne _ _ (by omega)).trans (by assumption) | exact congrArg Prod.fst (va_up_self _ _ _) | exact (congrArg Prod.fst (va_up_ne _ _ (by omega))).trans (by assumption) | exact (congrFun (va_up_ne _ _ (by omega)) _).trans (by assumption) | exact (va_up_ne _ _ (by omega)).trans (va_up_self _ _ _) | exact (va_up_ne _ _ (by omega)).trans ((va_up_ne _ _ (by omega)).trans (by assumption)) | exact (congrArg Prod.fst ((va_up_ne _ _ (by omega)).trans (va_up_ne _ _ (by omega)))).trans (by assumption) | exact (congrFun ((va_up_ne _ _ (by omega)).trans (va_up_ne _ _ (by omega))) _).trans (by assumption) | (rw [va_up_self, va_up_ne _ _ (by omega)]; assumption)) (c_finding hk _) (Nat.le_of_ble_eq_true rfl) (by omega) ?_
    refine tk_ireturn dX10_wrong_13 rfl ?_
    exact cPst_f (by simp [rBlC, *]) hR cKp.rf
theorem k_as (hN : cNow n T I L P J tw np nf W r cn cl pn pl pg mn mW mr mc ml) (s i kd : Int32) : tkM G mX10_as 2 0 0 [vR 0, vI s, vI i, vI kd] (n, T, I, L, P) (cPst n T I L P J (rAsC J s i kd) (J 47 (14 * ix s + ix i)) J) := by
  have hN' := hN
  obtain ⟨hR, hk, ⟨hTH, hPH, hMH, hGW, hob⟩, ftw, pic, sta, oa, se, pa, ma, ht, hpc, hst, hoa, hse, hpa, hma⟩ := hN
  have hn := hR.1
  have hsc := hR.2.1
  have hk' := hk
  obtain ⟨k0, k1, k2, k3, k4, k5, k6⟩ := hk'
  have ht' := ht
  obtain ⟨u0, u1, u2, u3, u4, u5, u6⟩ := ht'
  have hpc' := hpc
  obtain ⟨fpi, tpi, wa, ca, ga, p1, p2, p3, hw, fca, hca, hcl, fga, hga, hgr⟩ := hpc'
  have hp : pObj T P pic wa ca ga := ⟨tpi, p1, p2, p3⟩
  have hTH' := hTH
  obtain ⟨h41, np1, np4, h411, nf1, nf4, h412, W1, W64, h413, rW, h414, cn5, hcW, hsW⟩ := hTH'
  have se6 := hse.2.1
  refine tkM.of (ls := [some _, some _, some _, some _, none]) (by decide +kernel) (by decide +kernel) (Nat.le_of_ble_eq_true rfl) rfl ?_
  refine tk_iload1 dX10_as_0 ?_
  refine tk_callS1z dX10_as_1 kX10_123 (c_isSentence s) (Nat.le_of_ble_eq_true rfl) (by omega) ?_
  first | refine tk_jf_eqB dX10_as_4 (fun h4 => ?_) (fun h4 => ?_) | refine tk_if_eq dX10_as_4 (fun h4 => ?_) (fun h4 => ?_)
  · refine tk_aload0 dX10_as_38 ?_
    refine tk_ldc dX10_as_39 klX10_65 ?_
    refine tk_callV1z dX10_as_41 kX10_66 (by first | assumption | exact va_up_self _ _ _ | exact (va_up_ne _ _ (by omega)).trans (by assumption) | exact congrArg Prod.fst (va_up_self _ _ _) | exact (congrArg Prod.fst (va_up_ne _ _ (by omega))).trans (by assumption) | exact (congrFun (va_up_ne _ _ (by omega)) _).trans (by assumption) | exact (va_up_ne _ _ (by omega)).trans (va_up_self _ _ _) | exact (va_up_ne _ _ (by omega)).trans ((va_up_ne _ _ (by omega)).trans (by assumption)) | exact (congrArg Prod.fst ((va_up_ne _ _ (by omega)).trans (va_up_ne _ _ (by omega)))).trans (by assumption) | exact (congrFun ((va_up_ne _ _ (by omega)).trans (va_up_ne _ _ (by omega))) _).trans (by assumption) | (rw [va_up_self, va_up_ne _ _ (by omega)]; assumption)) (c_finding hk _) (Nat.le_of_ble_eq_true rfl) (by omega) ?_
    refine tk_ireturn dX10_as_44 rfl ?_
    exact cPst_f (by simp [rAsC, *]) hR cKp.rf
  · refine tk_iload2 dX10_as_7 ?_
    obtain ⟨s', hs', rfl⟩ := rIn_of h4 (by omega)
    have hix : ix (nI s') = s' := ix_nI (by omega)
    obtain ⟨ra, l, q1, q2, q3, q4, q5, q6, q7, q8⟩ := sen_row hse (show s' < 6 by omega)
    refine tk_iconst dX10_as_8 kc_iconst_0 ?_
    refine tk_aload0 dX10_as_9 ?_
    refine tk_getP dX10_as_10 fX10_13 rfl (by first | assumption | exact va_up_self _ _ _ | exact (va_up_ne _ _ (by omega)).trans (by assumption) | exact congrArg Prod.fst (va_up_self _ _ _) | exact (congrArg Prod.fst (va_up_ne _ _ (by omega))).trans (by assumption) | exact (congrFun (va_up_ne _ _ (by omega)) _).trans (by assumption) | exact (va_up_ne _ _ (by omega)).trans (va_up_self _ _ _) | exact (va_up_ne _ _ (by omega)).trans ((va_up_ne _ _ (by omega)).trans (by assumption)) | exact (congrArg Prod.fst ((va_up_ne _ _ (by omega)).trans (va_up_ne _ _ (by omega)))).trans (by assumption) | exact (congrFun ((va_up_ne _ _ (by omega)).trans (va_up_ne _ _ (by omega))) _).trans (by assumption) | (rw [va_up_self, va_up_ne _ _ (by omega)]; assumption)) (by first | assumption | exact va_up_self _ _ _ | exact (va_up_ne _ _ (by omega)).trans (by assumption) | exact congrArg Prod.fst (va_up_self _ _ _) | exact (congrArg Prod.fst (va_up_ne _ _ (by omega))).trans (by assumption) | exact (congrFun (va_up_ne _ _ (by omega)) _).trans (by assumption) | exact (va_up_ne _ _ (by omega)).trans (va_up_self _ _ _) | exact (va_up_ne _ _ (by omega)).trans ((va_up_ne _ _ (by omega)).trans (by assumption)) | exact (congrArg Prod.fst ((va_up_ne _ _ (by omega)).trans (va_up_ne _ _ (by omega)))).trans (by assumption) | exact (congrFun ((va_up_ne _ _ (by omega)).trans (va_up_ne _ _ (by omega))) _).trans (by assumption) | (rw [va_up_self, va_up_ne _ _ (by omega)]; assumption)) ?_
    refine tk_getP dX10_as_13 fX10_131 rfl (by first | assumption | exact va_up_self _ _ _ | exact (va_up_ne _ _ (by omega)).trans (by assumption) | exact congrArg Prod.fst (va_up_self _ _ _) | exact (congrArg Prod.fst (va_up_ne _ _ (by omega))).trans (by assumption) | exact (congrFun (va_up_ne _ _ (by omega)) _).trans (by assumption) | exact (va_up_ne _ _ (by omega)).trans (va_up_self _ _ _) | exact (va_up_ne _ _ (by omega)).trans ((va_up_ne _ _ (by omega)).trans (by assumption)) | exact (congrArg Prod.fst ((va_up_ne _ _ (by omega)).trans (va_up_ne _ _ (by omega)))).trans (by assumption) | exact (congrFun ((va_up_ne _ _ (by omega)).trans (va_up_ne _ _ (by omega))) _).trans (by assumption) | (rw [va_up_self, va_up_ne _ _ (by omega)]; assumption)) (by first | assumption | exact va_up_self _ _ _ | exact (va_up_ne _ _ (by omega)).trans (by assumption) | exact congrArg Prod.fst (va_up_self _ _ _) | exact (congrArg Prod.fst (va_up_ne _ _ (by omega))).trans (by assumption) | exact (congrFun (va_up_ne _ _ (by omega)) _).trans (by assumption) | exact (va_up_ne _ _ (by omega)).trans (va_up_self _ _ _) | exact (va_up_ne _ _ (by omega)).trans ((va_up_ne _ _ (by omega)).trans (by assumption)) | exact (congrArg Prod.fst ((va_up_ne _ _ (by omega)).trans (va_up_ne _ _ (by omega)))).trans (by assumption) | exact (congrFun ((va_up_ne _ _ (by omega)).trans (va_up_ne _ _ (by omega))) _).trans (by assumption) | (rw [va_up_self, va_up_ne _ _ (by omega)]; assumption)) ?_
    refine tk_iload1 dX10_as_16 ?_
    refine tk_aald dX10_as_17 (by first | assumption | exact va_up_self _ _ _ | exact (va_up_ne _ _ (by omega)).trans (by assumption) | exact congrArg Prod.fst (va_up_self _ _ _) | exact (congrArg Prod.fst (va_up_ne _ _ (by omega))).trans (by assumption) | exact (congrFun (va_up_ne _ _ (by omega)) _).trans (by assumption) | exact (va_up_ne _ _ (by omega)).trans (va_up_self _ _ _) | exact (va_up_ne _ _ (by omega)).trans ((va_up_ne _ _ (by omega)).trans (by assumption)) | exact (congrArg Prod.fst ((va_up_ne _ _ (by omega)).trans (va_up_ne _ _ (by omega)))).trans (by assumption) | exact (congrFun ((va_up_ne _ _ (by omega)).trans (va_up_ne _ _ (by omega))) _).trans (by assumption) | (rw [va_up_self, va_up_ne _ _ (by omega)]; assumption)) (by omega) (by omega) (by omega) (by first | assumption | exact va_up_self _ _ _ | exact (va_up_ne _ _ (by omega)).trans (by assumption) | exact congrArg Prod.fst (va_up_self _ _ _) | exact (congrArg Prod.fst (va_up_ne _ _ (by omega))).trans (by assumption) | exact (congrFun (va_up_ne _ _ (by omega)) _).trans (by assumption) | exact (va_up_ne _ _ (by omega)).trans (va_up_self _ _ _) | exact (va_up_ne _ _ (by omega)).trans ((va_up_ne _ _ (by omega)).trans (by assumption)) | exact (congrArg Prod.fst ((va_up_ne _ _ (by omega)).trans (va_up_ne _ _ (by omega)))).trans (by assumption) | exact (congrFun ((va_up_ne _ _ (by omega)).trans (va_up_ne _ _ (by omega))) _).trans (by assumption) | (rw [va_up_self, va_up_ne _ _ (by omega)]; assumption)) ?_
    refine tk_getI dX10_as_18 fX10_135 rfl (by first | assumption | exact va_up_self _ _ _ | exact (va_up_ne _ _ (by omega)).trans (by assumption) | exact congrArg Prod.fst (va_up_self _ _ _) | exact (congrArg Prod.fst (va_up_ne _ _ (by omega))).trans (by assumption) | exact (congrFun (va_up_ne _ _ (by omega)) _).trans (by assumption) | exact (va_up_ne _ _ (by omega)).trans (va_up_self _ _ _) | exact (va_up_ne _ _ (by omega)).trans ((va_up_ne _ _ (by omega)).trans (by assumption)) | exact (congrArg Prod.fst ((va_up_ne _ _ (by omega)).trans (va_up_ne _ _ (by omega)))).trans (by assumption) | exact (congrFun ((va_up_ne _ _ (by omega)).trans (va_up_ne _ _ (by omega))) _).trans (by assumption) | (rw [va_up_self, va_up_ne _ _ (by omega)]; assumption)) ?_
    rw [q7]
    refine tk_iconst dX10_as_21 kc_iconst_1 ?_
    refine tk_isub dX10_as_22 ?_
    refine tk_callS3z dX10_as_23 kX10_61 (c_within _ _ _) (Nat.le_of_ble_eq_true rfl) (by omega) ?_
    rw [rIn_pe0 (by omega)]
    first | refine tk_jf_eqB dX10_as_26 (fun h26 => ?_) (fun h26 => ?_) | refine tk_if_eq dX10_as_26 (fun h26 => ?_) (fun h26 => ?_)
    · refine tk_aload0 dX10_as_38 ?_
      refine tk_ldc dX10_as_39 klX10_65 ?_
      refine tk_callV1z dX10_as_41 kX10_66 (by first | assumption | exact va_up_self _ _ _ | exact (va_up_ne _ _ (by omega)).trans (by assumption) | exact congrArg Prod.fst (va_up_self _ _ _) | exact (congrArg Prod.fst (va_up_ne _ _ (by omega))).trans (by assumption) | exact (congrFun (va_up_ne _ _ (by omega)) _).trans (by assumption) | exact (va_up_ne _ _ (by omega)).trans (va_up_self _ _ _) | exact (va_up_ne _ _ (by omega)).trans ((va_up_ne _ _ (by omega)).trans (by assumption)) | exact (congrArg Prod.fst ((va_up_ne _ _ (by omega)).trans (va_up_ne _ _ (by omega)))).trans (by assumption) | exact (congrFun ((va_up_ne _ _ (by omega)).trans (va_up_ne _ _ (by omega))) _).trans (by assumption) | (rw [va_up_self, va_up_ne _ _ (by omega)]; assumption)) (c_finding hk _) (Nat.le_of_ble_eq_true rfl) (by omega) ?_
      refine tk_ireturn dX10_as_44 rfl ?_
      exact cPst_f (by simp [rAsC, *]) hR cKp.rf
    · refine tk_iload3 dX10_as_29 ?_
      refine tk_iconst dX10_as_30 kc_iconst_0 ?_
      refine tk_iconst dX10_as_31 kc_iconst_3 ?_
      refine tk_callS3z dX10_as_32 kX10_61 (c_within _ _ _) (Nat.le_of_ble_eq_true rfl) (by omega) ?_
      first | refine tk_jf_neB dX10_as_35 (fun h35 => ?_) (fun h35 => ?_) | refine tk_if_ne dX10_as_35 (fun h35 => ?_) (fun h35 => ?_)
      · refine tk_aload0 dX10_as_45 ?_
        obtain ⟨i', hi', rfl⟩ := rPe_of h26 rfl (by omega)
        obtain ⟨kd', hkd, rfl⟩ := rIn_of h35 (by omega)
        have hiy : ix (nI i') = i' := ix_nI (by omega)
        have q9 := q8
        obtain ⟨-, -, b, r3, r4, r5, r6, r7, r8⟩ := q9
        obtain ⟨r9, r10⟩ := r8 i' hi'
        refine tk_getP dX10_as_46 fX10_13 rfl (by first | assumption | exact va_up_self _ _ _ | exact (va_up_ne _ _ (by omega)).trans (by assumption) | exact congrArg Prod.fst (va_up_self _ _ _) | exact (congrArg Prod.fst (va_up_ne _ _ (by omega))).trans (by assumption) | exact (congrFun (va_up_ne _ _ (by omega)) _).trans (by assumption) | exact (va_up_ne _ _ (by omega)).trans (va_up_self _ _ _) | exact (va_up_ne _ _ (by omega)).trans ((va_up_ne _ _ (by omega)).trans (by assumption)) | exact (congrArg Prod.fst ((va_up_ne _ _ (by omega)).trans (va_up_ne _ _ (by omega)))).trans (by assumption) | exact (congrFun ((va_up_ne _ _ (by omega)).trans (va_up_ne _ _ (by omega))) _).trans (by assumption) | (rw [va_up_self, va_up_ne _ _ (by omega)]; assumption)) (by first | assumption | exact va_up_self _ _ _ | exact (va_up_ne _ _ (by omega)).trans (by assumption) | exact congrArg Prod.fst (va_up_self _ _ _) | exact (congrArg Prod.fst (va_up_ne _ _ (by omega))).trans (by assumption) | exact (congrFun (va_up_ne _ _ (by omega)) _).trans (by assumption) | exact (va_up_ne _ _ (by omega)).trans (va_up_self _ _ _) | exact (va_up_ne _ _ (by omega)).trans ((va_up_ne _ _ (by omega)).trans (by assumption)) | exact (congrArg Prod.fst ((va_up_ne _ _ (by omega)).trans (va_up_ne _ _ (by omega)))).trans (by assumption) | exact (congrFun ((va_up_ne _ _ (by omega)).trans (va_up_ne _ _ (by omega))) _).trans (by assumption) | (rw [va_up_self, va_up_ne _ _ (by omega)]; assumption)) ?_
        refine tk_getP dX10_as_49 fX10_131 rfl (by first | assumption | exact va_up_self _ _ _ | exact (va_up_ne _ _ (by omega)).trans (by assumption) | exact congrArg Prod.fst (va_up_self _ _ _) | exact (congrArg Prod.fst (va_up_ne _ _ (by omega))).trans (by assumption) | exact (congrFun (va_up_ne _ _ (by omega)) _).trans (by assumption) | exact (va_up_ne _ _ (by omega)).trans (va_up_self _ _ _) | exact (va_up_ne _ _ (by omega)).trans ((va_up_ne _ _ (by omega)).trans (by assumption)) | exact (congrArg Prod.fst ((va_up_ne _ _ (by omega)).trans (va_up_ne _ _ (by omega)))).trans (by assumption) | exact (congrFun ((va_up_ne _ _ (by omega)).trans (va_up_ne _ _ (by omega))) _).trans (by assumption) | (rw [va_up_self, va_up_ne _ _ (by omega)]; assumption)) (by first | assumption | exact va_up_self _ _ _ | exact (va_up_ne _ _ (by omega)).trans (by assumption) | exact congrArg Prod.fst (va_up_self _ _ _) | exact (congrArg Prod.fst (va_up_ne _ _ (by omega))).trans (by assumption) | exact (congrFun (va_up_ne _ _ (by omega)) _).trans (by assumption) | exact (va_up_ne _ _ (by omega)).trans (va_up_self _ _ _) | exact (va_up_ne _ _ (by omega)).trans ((va_up_ne _ _ (by omega)).trans (by assumption)) | exact (congrArg Prod.fst ((va_up_ne _ _ (by omega)).trans (va_up_ne _ _ (by omega)))).trans (by assumption) | exact (congrFun ((va_up_ne _ _ (by omega)).trans (va_up_ne _ _ (by omega))) _).trans (by assumption) | (rw [va_up_self, va_up_ne _ _ (by omega)]; assumption)) ?_
        refine tk_iload1 dX10_as_52 ?_
        refine tk_aald dX10_as_53 (by first | assumption | exact va_up_self _ _ _ | exact (va_up_ne _ _ (by omega)).trans (by assumption) | exact congrArg Prod.fst (va_up_self _ _ _) | exact (congrArg Prod.fst (va_up_ne _ _ (by omega))).trans (by assumption) | exact (congrFun (va_up_ne _ _ (by omega)) _).trans (by assumption) | exact (va_up_ne _ _ (by omega)).trans (va_up_self _ _ _) | exact (va_up_ne _ _ (by omega)).trans ((va_up_ne _ _ (by omega)).trans (by assumption)) | exact (congrArg Prod.fst ((va_up_ne _ _ (by omega)).trans (va_up_ne _ _ (by omega)))).trans (by assumption) | exact (congrFun ((va_up_ne _ _ (by omega)).trans (va_up_ne _ _ (by omega))) _).trans (by assumption) | (rw [va_up_self, va_up_ne _ _ (by omega)]; assumption)) (by omega) (by omega) (by omega) (by first | assumption | exact va_up_self _ _ _ | exact (va_up_ne _ _ (by omega)).trans (by assumption) | exact congrArg Prod.fst (va_up_self _ _ _) | exact (congrArg Prod.fst (va_up_ne _ _ (by omega))).trans (by assumption) | exact (congrFun (va_up_ne _ _ (by omega)) _).trans (by assumption) | exact (va_up_ne _ _ (by omega)).trans (va_up_self _ _ _) | exact (va_up_ne _ _ (by omega)).trans ((va_up_ne _ _ (by omega)).trans (by assumption)) | exact (congrArg Prod.fst ((va_up_ne _ _ (by omega)).trans (va_up_ne _ _ (by omega)))).trans (by assumption) | exact (congrFun ((va_up_ne _ _ (by omega)).trans (va_up_ne _ _ (by omega))) _).trans (by assumption) | (rw [va_up_self, va_up_ne _ _ (by omega)]; assumption)) ?_
        refine tk_getP dX10_as_54 fX10_168 rfl (by first | assumption | exact va_up_self _ _ _ | exact (va_up_ne _ _ (by omega)).trans (by assumption) | exact congrArg Prod.fst (va_up_self _ _ _) | exact (congrArg Prod.fst (va_up_ne _ _ (by omega))).trans (by assumption) | exact (congrFun (va_up_ne _ _ (by omega)) _).trans (by assumption) | exact (va_up_ne _ _ (by omega)).trans (va_up_self _ _ _) | exact (va_up_ne _ _ (by omega)).trans ((va_up_ne _ _ (by omega)).trans (by assumption)) | exact (congrArg Prod.fst ((va_up_ne _ _ (by omega)).trans (va_up_ne _ _ (by omega)))).trans (by assumption) | exact (congrFun ((va_up_ne _ _ (by omega)).trans (va_up_ne _ _ (by omega))) _).trans (by assumption) | (rw [va_up_self, va_up_ne _ _ (by omega)]; assumption)) (by first | assumption | exact va_up_self _ _ _ | exact (va_up_ne _ _ (by omega)).trans (by assumption) | exact congrArg Prod.fst (va_up_self _ _ _) | exact (congrArg Prod.fst (va_up_ne _ _ (by omega))).trans (by assumption) | exact (congrFun (va_up_ne _ _ (by omega)) _).trans (by assumption) | exact (va_up_ne _ _ (by omega)).trans (va_up_self _ _ _) | exact (va_up_ne _ _ (by omega)).trans ((va_up_ne _ _ (by omega)).trans (by assumption)) | exact (congrArg Prod.fst ((va_up_ne _ _ (by omega)).trans (va_up_ne _ _ (by omega)))).trans (by assumption) | exact (congrFun ((va_up_ne _ _ (by omega)).trans (va_up_ne _ _ (by omega))) _).trans (by assumption) | (rw [va_up_self, va_up_ne _ _ (by omega)]; assumption)) ?_
        refine tk_iload2 dX10_as_57 ?_
        refine tk_iald dX10_as_58 (by first | assumption | exact va_up_self _ _ _ | exact (va_up_ne _ _ (by omega)).trans (by assumption) | exact congrArg Prod.fst (va_up_self _ _ _) | exact (congrArg Prod.fst (va_up_ne _ _ (by omega))).trans (by assumption) | exact (congrFun (va_up_ne _ _ (by omega)) _).trans (by assumption) | exact (va_up_ne _ _ (by omega)).trans (va_up_self _ _ _) | exact (va_up_ne _ _ (by omega)).trans ((va_up_ne _ _ (by omega)).trans (by assumption)) | exact (congrArg Prod.fst ((va_up_ne _ _ (by omega)).trans (va_up_ne _ _ (by omega)))).trans (by assumption) | exact (congrFun ((va_up_ne _ _ (by omega)).trans (va_up_ne _ _ (by omega))) _).trans (by assumption) | (rw [va_up_self, va_up_ne _ _ (by omega)]; assumption)) (by omega) (by omega) ?_
        rw [r9]
        refine tk_istore4 dX10_as_59 rfl ?_
        refine tk_iload4 dX10_as_61 ?_
        refine tk_iload3 dX10_as_63 ?_
        refine tk_callS2z dX10_as_64 kX10_171 (c_isOfKind r10 hkd) (Nat.le_of_ble_eq_true rfl) (by omega) ?_
        first | refine tk_jf_neB dX10_as_67 (fun h67 => ?_) (fun h67 => ?_) | refine tk_if_ne dX10_as_67 (fun h67 => ?_) (fun h67 => ?_)
        · refine tk_iload4 dX10_as_77 ?_
          refine tk_ireturn dX10_as_79 rfl ?_
          exact cPst_g (by simp [rAsC, *]) (by rw [hix, hiy]) hR cKp.rf jSm.rf
        · refine tk_aload0 dX10_as_70 ?_
          refine tk_ldc dX10_as_71 klX10_175 ?_
          refine tk_callV1z dX10_as_73 kX10_66 (by first | assumption | exact va_up_self _ _ _ | exact (va_up_ne _ _ (by omega)).trans (by assumption) | exact congrArg Prod.fst (va_up_self _ _ _) | exact (congrArg Prod.fst (va_up_ne _ _ (by omega))).trans (by assumption) | exact (congrFun (va_up_ne _ _ (by omega)) _).trans (by assumption) | exact (va_up_ne _ _ (by omega)).trans (va_up_self _ _ _) | exact (va_up_ne _ _ (by omega)).trans ((va_up_ne _ _ (by omega)).trans (by assumption)) | exact (congrArg Prod.fst ((va_up_ne _ _ (by omega)).trans (va_up_ne _ _ (by omega)))).trans (by assumption) | exact (congrFun ((va_up_ne _ _ (by omega)).trans (va_up_ne _ _ (by omega))) _).trans (by assumption) | (rw [va_up_self, va_up_ne _ _ (by omega)]; assumption)) (c_finding hk _) (Nat.le_of_ble_eq_true rfl) (by omega) ?_
          refine tk_ireturn dX10_as_76 rfl ?_
          exact cPst_f (by simp [rAsC, *]) hR cKp.rf
      · refine tk_aload0 dX10_as_38 ?_
        refine tk_ldc dX10_as_39 klX10_65 ?_
        refine tk_callV1z dX10_as_41 kX10_66 (by first | assumption | exact va_up_self _ _ _ | exact (va_up_ne _ _ (by omega)).trans (by assumption) | exact congrArg Prod.fst (va_up_self _ _ _) | exact (congrArg Prod.fst (va_up_ne _ _ (by omega))).trans (by assumption) | exact (congrFun (va_up_ne _ _ (by omega)) _).trans (by assumption) | exact (va_up_ne _ _ (by omega)).trans (va_up_self _ _ _) | exact (va_up_ne _ _ (by omega)).trans ((va_up_ne _ _ (by omega)).trans (by assumption)) | exact (congrArg Prod.fst ((va_up_ne _ _ (by omega)).trans (va_up_ne _ _ (by omega)))).trans (by assumption) | exact (congrFun ((va_up_ne _ _ (by omega)).trans (va_up_ne _ _ (by omega))) _).trans (by assumption) | (rw [va_up_self, va_up_ne _ _ (by omega)]; assumption)) (c_finding hk _) (Nat.le_of_ble_eq_true rfl) (by omega) ?_
        refine tk_ireturn dX10_as_44 rfl ?_
        exact cPst_f (by simp [rAsC, *]) hR cKp.rf
theorem k_world (hN : cNow n T I L P J tw np nf W r cn cl pn pl pg mn mW mr mc ml) (w p : Int32) : tkM G mX10_world 3 0 0 [vR 0, vI w, vI p] (n, T, I, L, P) (cPst n T I L P J (rWoC J w p) (if p < 0 then J 42 (ix w) else J 43 (64 * ix p + ix w)) J) := by
  have hN' := hN
  obtain ⟨hR, hk, ⟨hTH, hPH, hMH, hGW, hob⟩, ftw, pic, sta, oa, se, pa, ma, ht, hpc, hst, hoa, hse, hpa, hma⟩ := hN
  have hn := hR.1
  have hsc := hR.2.1
  have hk' := hk
  obtain ⟨k0, k1, k2, k3, k4, k5, k6⟩ := hk'
  have ht' := ht
  obtain ⟨u0, u1, u2, u3, u4, u5, u6⟩ := ht'
  have hpc' := hpc
  obtain ⟨fpi, tpi, wa, ca, ga, p1, p2, p3, hw, fca, hca, hcl, fga, hga, hgr⟩ := hpc'
  have hp : pObj T P pic wa ca ga := ⟨tpi, p1, p2, p3⟩
  have hTH' := hTH
  obtain ⟨h41, np1, np4, h411, nf1, nf4, h412, W1, W64, h413, rW, h414, cn5, hcW, hsW⟩ := hTH'
  have hw' := hw
  obtain ⟨w1, w2, w3, w4, w5, -⟩ := hw'
  have go : ∀ w', w' < W → w = nI w' → (p = -1 ∨ ∃ p', p' < np ∧ p = nI p') → rWoC J w p = none → tkX G mX10_world 3 0 0 37 [some (vR 0), some (vI w), some (vI p)] [] (n, T, I, L, P) (cPst n T I L P J (rWoC J w p) (if p < 0 then J 42 (ix w) else J 43 (64 * ix p + ix w)) J) := by
    rintro w' hw' rfl hpp hc
    have hix : ix (nI w') = w' := ix_nI (by omega)
    rcases hpp with rfl | ⟨p', hp', rfl⟩
    · obtain ⟨x, x1, x2⟩ := hGW.2.2.1 w' hw'
      refine tk_iload2 dX10_world_37 ?_
      refine tk_iconst dX10_world_38 kc_iconst_m1 ?_
      first | refine tk_icmp_neN dX10_world_39 (by omega) (by omega) (fun h39 => ?_) (fun h39 => ?_) | refine tk_icmp_ne dX10_world_39 (fun h39 => ?_) (fun h39 => ?_)
      · exact absurd rfl h39
      · refine tk_aload0 dX10_world_42 ?_
        refine tk_callV0z dX10_world_43 kX10_84 (by first | assumption | exact va_up_self _ _ _ | exact (va_up_ne _ _ (by omega)).trans (by assumption) | exact congrArg Prod.fst (va_up_self _ _ _) | exact (congrArg Prod.fst (va_up_ne _ _ (by omega))).trans (by assumption) | exact (congrFun (va_up_ne _ _ (by omega)) _).trans (by assumption) | exact (va_up_ne _ _ (by omega)).trans (va_up_self _ _ _) | exact (va_up_ne _ _ (by omega)).trans ((va_up_ne _ _ (by omega)).trans (by assumption)) | exact (congrArg Prod.fst ((va_up_ne _ _ (by omega)).trans (va_up_ne _ _ (by omega)))).trans (by assumption) | exact (congrFun ((va_up_ne _ _ (by omega)).trans (va_up_ne _ _ (by omega))) _).trans (by assumption) | (rw [va_up_self, va_up_ne _ _ (by omega)]; assumption)) (c_worlds hk ht hp) (Nat.le_of_ble_eq_true rfl) (by omega) ?_
        refine tk_iload1 dX10_world_46 ?_
        refine tk_callV1z dX10_world_47 kX10_320 (by first | assumption | exact va_up_self _ _ _ | exact (va_up_ne _ _ (by omega)).trans (by assumption) | exact congrArg Prod.fst (va_up_self _ _ _) | exact (congrArg Prod.fst (va_up_ne _ _ (by omega))).trans (by assumption) | exact (congrFun (va_up_ne _ _ (by omega)) _).trans (by assumption) | exact (va_up_ne _ _ (by omega)).trans (va_up_self _ _ _) | exact (va_up_ne _ _ (by omega)).trans ((va_up_ne _ _ (by omega)).trans (by assumption)) | exact (congrArg Prod.fst ((va_up_ne _ _ (by omega)).trans (va_up_ne _ _ (by omega)))).trans (by assumption) | exact (congrFun ((va_up_ne _ _ (by omega)).trans (va_up_ne _ _ (by omega))) _).trans (by assumption) | (rw [va_up_self, va_up_ne _ _ (by omega)]; assumption)) (c_factsOf hw W64 nf4 hw' x1 x2) (Nat.le_of_ble_eq_true rfl) (by omega) ?_
        refine tk_goto dX10_world_50 ?_
        refine tk_ireturn dX10_world_65 rfl ?_
        exact cPst_g hc (by rw [if_pos (by decide), hix]; exact x1.symm) hR cKp.rf jSm.rf
    · have hiy : ix (nI p') = p' := ix_nI (by omega)
      have hne : ¬ nI p' = -1 := by
        have z : ∀ j, j < 4 → ¬ nI j = -1 := by decide +kernel
        exact z p' (by omega)
      have hnz : ¬ pB (J 43) W (64 * p' + w') = 0 := tb_nz.mpr ⟨w', by omega, (tb_pB W64 (by omega)).mpr ⟨hw', rfl⟩⟩
      refine tk_iload2 dX10_world_37 ?_
      refine tk_iconst dX10_world_38 kc_iconst_m1 ?_
      first | refine tk_icmp_neN dX10_world_39 (by omega) (by omega) (fun h39 => ?_) (fun h39 => ?_) | refine tk_icmp_ne dX10_world_39 (fun h39 => ?_) (fun h39 => ?_)
      · refine tk_aload0 dX10_world_53 ?_
        refine tk_callV0z dX10_world_54 kX10_84 (by first | assumption | exact va_up_self _ _ _ | exact (va_up_ne _ _ (by omega)).trans (by assumption) | exact congrArg Prod.fst (va_up_self _ _ _) | exact (congrArg Prod.fst (va_up_ne _ _ (by omega))).trans (by assumption) | exact (congrFun (va_up_ne _ _ (by omega)) _).trans (by assumption) | exact (va_up_ne _ _ (by omega)).trans (va_up_self _ _ _) | exact (va_up_ne _ _ (by omega)).trans ((va_up_ne _ _ (by omega)).trans (by assumption)) | exact (congrArg Prod.fst ((va_up_ne _ _ (by omega)).trans (va_up_ne _ _ (by omega)))).trans (by assumption) | exact (congrFun ((va_up_ne _ _ (by omega)).trans (va_up_ne _ _ (by omega))) _).trans (by assumption) | (rw [va_up_self, va_up_ne _ _ (by omega)]; assumption)) (c_worlds hk ht hp) (Nat.le_of_ble_eq_true rfl) (by omega) ?_
        refine tk_iload2 dX10_world_57 ?_
        refine tk_iload1 dX10_world_58 ?_
        refine tk_callV2z dX10_world_59 kX10_323 (by first | assumption | exact va_up_self _ _ _ | exact (va_up_ne _ _ (by omega)).trans (by assumption) | exact congrArg Prod.fst (va_up_self _ _ _) | exact (congrArg Prod.fst (va_up_ne _ _ (by omega))).trans (by assumption) | exact (congrFun (va_up_ne _ _ (by omega)) _).trans (by assumption) | exact (va_up_ne _ _ (by omega)).trans (va_up_self _ _ _) | exact (va_up_ne _ _ (by omega)).trans ((va_up_ne _ _ (by omega)).trans (by assumption)) | exact (congrArg Prod.fst ((va_up_ne _ _ (by omega)).trans (va_up_ne _ _ (by omega)))).trans (by assumption) | exact (congrFun ((va_up_ne _ _ (by omega)).trans (va_up_ne _ _ (by omega))) _).trans (by assumption) | (rw [va_up_self, va_up_ne _ _ (by omega)]; assumption)) (c_cell hw W64 np4 hp' hw') (Nat.le_of_ble_eq_true rfl) (by omega) ?_
        refine tk_callS1z dX10_world_62 kX10_317 (c_least hnz) (Nat.le_of_ble_eq_true rfl) (by omega) ?_
        refine tk_ireturn dX10_world_65 rfl ?_
        refine cPst_g hc ?_ hR cKp.rf jSm.rf
        rw [if_neg (Int32.not_lt.mpr (nI_pos' (by omega))), hix, hiy]
        exact (hGW.2.2.2 p' hp' w' hw').symm
      · exact absurd h39 hne
  refine tkM.of (ls := [some _, some _, some _]) (by decide +kernel) (by decide +kernel) (Nat.le_of_ble_eq_true rfl) rfl ?_
  refine tk_iload1 dX10_world_0 ?_
  refine tk_iconst dX10_world_1 kc_iconst_0 ?_
  refine tk_aload0 dX10_world_2 ?_
  refine tk_callV0z dX10_world_3 kX10_84 (by first | assumption | exact va_up_self _ _ _ | exact (va_up_ne _ _ (by omega)).trans (by assumption) | exact congrArg Prod.fst (va_up_self _ _ _) | exact (congrArg Prod.fst (va_up_ne _ _ (by omega))).trans (by assumption) | exact (congrFun (va_up_ne _ _ (by omega)) _).trans (by assumption) | exact (va_up_ne _ _ (by omega)).trans (va_up_self _ _ _) | exact (va_up_ne _ _ (by omega)).trans ((va_up_ne _ _ (by omega)).trans (by assumption)) | exact (congrArg Prod.fst ((va_up_ne _ _ (by omega)).trans (va_up_ne _ _ (by omega)))).trans (by assumption) | exact (congrFun ((va_up_ne _ _ (by omega)).trans (va_up_ne _ _ (by omega))) _).trans (by assumption) | (rw [va_up_self, va_up_ne _ _ (by omega)]; assumption)) (c_worlds hk ht hp) (Nat.le_of_ble_eq_true rfl) (by omega) ?_
  refine tk_getI dX10_world_6 fX10_88 rfl (by first | assumption | exact va_up_self _ _ _ | exact (va_up_ne _ _ (by omega)).trans (by assumption) | exact congrArg Prod.fst (va_up_self _ _ _) | exact (congrArg Prod.fst (va_up_ne _ _ (by omega))).trans (by assumption) | exact (congrFun (va_up_ne _ _ (by omega)) _).trans (by assumption) | exact (va_up_ne _ _ (by omega)).trans (va_up_self _ _ _) | exact (va_up_ne _ _ (by omega)).trans ((va_up_ne _ _ (by omega)).trans (by assumption)) | exact (congrArg Prod.fst ((va_up_ne _ _ (by omega)).trans (va_up_ne _ _ (by omega)))).trans (by assumption) | exact (congrFun ((va_up_ne _ _ (by omega)).trans (va_up_ne _ _ (by omega))) _).trans (by assumption) | (rw [va_up_self, va_up_ne _ _ (by omega)]; assumption)) ?_
  rw [w5]
  refine tk_iconst dX10_world_9 kc_iconst_1 ?_
  refine tk_isub dX10_world_10 ?_
  refine tk_callS3z dX10_world_11 kX10_61 (c_within _ _ _) (Nat.le_of_ble_eq_true rfl) (by omega) ?_
  rw [rIn_pe0 (by omega), ← h412]
  first | refine tk_jf_eqB dX10_world_14 (fun h14 => ?_) (fun h14 => ?_) | refine tk_if_eq dX10_world_14 (fun h14 => ?_) (fun h14 => ?_)
  · refine tk_aload0 dX10_world_30 ?_
    refine tk_ldc dX10_world_31 klX10_65 ?_
    refine tk_callV1z dX10_world_33 kX10_66 (by first | assumption | exact va_up_self _ _ _ | exact (va_up_ne _ _ (by omega)).trans (by assumption) | exact congrArg Prod.fst (va_up_self _ _ _) | exact (congrArg Prod.fst (va_up_ne _ _ (by omega))).trans (by assumption) | exact (congrFun (va_up_ne _ _ (by omega)) _).trans (by assumption) | exact (va_up_ne _ _ (by omega)).trans (va_up_self _ _ _) | exact (va_up_ne _ _ (by omega)).trans ((va_up_ne _ _ (by omega)).trans (by assumption)) | exact (congrArg Prod.fst ((va_up_ne _ _ (by omega)).trans (va_up_ne _ _ (by omega)))).trans (by assumption) | exact (congrFun ((va_up_ne _ _ (by omega)).trans (va_up_ne _ _ (by omega))) _).trans (by assumption) | (rw [va_up_self, va_up_ne _ _ (by omega)]; assumption)) (c_finding hk _) (Nat.le_of_ble_eq_true rfl) (by omega) ?_
    refine tk_ireturn dX10_world_36 rfl ?_
    exact cPst_f (by clear h41 h411 h412 h413 h414; simp [rWoC, *]) hR cKp.rf
  · refine tk_iload2 dX10_world_17 ?_
    refine tk_iconst dX10_world_18 kc_iconst_m1 ?_
    first | refine tk_icmp_eqN dX10_world_19 (by omega) (by omega) (fun h19 => ?_) (fun h19 => ?_) | refine tk_icmp_eq dX10_world_19 (fun h19 => ?_) (fun h19 => ?_)
    · have hc : rWoC J w p = none := (by clear h41 h411 h412 h413 h414; simp [rWoC, *])
      obtain ⟨w', hw', ew⟩ := rPe_of h14 h412 (by omega)
      refine tk_wk (by repeat' (first | exact trivial | refine ⟨Or.inl rfl, ?_⟩ | refine ⟨Or.inr rfl, ?_⟩)) (go w' hw' ew (by first | exact Or.inl h19 | exact Or.inr (rPe_of h27 h41 (by omega))) hc)
    · refine tk_aload0 dX10_world_22 ?_
      refine tk_iload2 dX10_world_23 ?_
      refine tk_callV1z dX10_world_24 kX10_91 (by first | assumption | exact va_up_self _ _ _ | exact (va_up_ne _ _ (by omega)).trans (by assumption) | exact congrArg Prod.fst (va_up_self _ _ _) | exact (congrArg Prod.fst (va_up_ne _ _ (by omega))).trans (by assumption) | exact (congrFun (va_up_ne _ _ (by omega)) _).trans (by assumption) | exact (va_up_ne _ _ (by omega)).trans (va_up_self _ _ _) | exact (va_up_ne _ _ (by omega)).trans ((va_up_ne _ _ (by omega)).trans (by assumption)) | exact (congrArg Prod.fst ((va_up_ne _ _ (by omega)).trans (va_up_ne _ _ (by omega)))).trans (by assumption) | exact (congrFun ((va_up_ne _ _ (by omega)).trans (va_up_ne _ _ (by omega))) _).trans (by assumption) | (rw [va_up_self, va_up_ne _ _ (by omega)]; assumption)) (k_isPerson hN' p) (Nat.le_of_ble_eq_true rfl) (by omega) ?_
      first | refine tk_jf_neB dX10_world_27 (fun h27 => ?_) (fun h27 => ?_) | refine tk_if_ne dX10_world_27 (fun h27 => ?_) (fun h27 => ?_)
      · have hc : rWoC J w p = none := (by clear h41 h411 h412 h413 h414; simp [rWoC, *])
        obtain ⟨w', hw', ew⟩ := rPe_of h14 h412 (by omega)
        refine tk_wk (by repeat' (first | exact trivial | refine ⟨Or.inl rfl, ?_⟩ | refine ⟨Or.inr rfl, ?_⟩)) (go w' hw' ew (by first | exact Or.inl h19 | exact Or.inr (rPe_of h27 h41 (by omega))) hc)
      · refine tk_aload0 dX10_world_30 ?_
        refine tk_ldc dX10_world_31 klX10_65 ?_
        refine tk_callV1z dX10_world_33 kX10_66 (by first | assumption | exact va_up_self _ _ _ | exact (va_up_ne _ _ (by omega)).trans (by assumption) | exact congrArg Prod.fst (va_up_self _ _ _) | exact (congrArg Prod.fst (va_up_ne _ _ (by omega))).trans (by assumption) | exact (congrFun (va_up_ne _ _ (by omega)) _).trans (by assumption) | exact (va_up_ne _ _ (by omega)).trans (va_up_self _ _ _) | exact (va_up_ne _ _ (by omega)).trans ((va_up_ne _ _ (by omega)).trans (by assumption)) | exact (congrArg Prod.fst ((va_up_ne _ _ (by omega)).trans (va_up_ne _ _ (by omega)))).trans (by assumption) | exact (congrFun ((va_up_ne _ _ (by omega)).trans (va_up_ne _ _ (by omega))) _).trans (by assumption) | (rw [va_up_self, va_up_ne _ _ (by omega)]; assumption)) (c_finding hk _) (Nat.le_of_ble_eq_true rfl) (by omega) ?_
        refine tk_ireturn dX10_world_36 rfl ?_
        exact cPst_f (by clear h41 h411 h412 h413 h414; simp [rWoC, *]) hR cKp.rf
theorem k_all (hN : cNow n T I L P J tw np nf W r cn cl pn pl pg mn mW mr mc ml) (w : Int32) : tkM G mX10_all 1 0 0 [vR 0, vI w] (n, T, I, L, P) (cPst n T I L P J (rAlC w) (if rIn w (nI 0) (nI 6) then J 41 (ix w) else J 40 24) J) := by
  have hN' := hN
  obtain ⟨hR, hk, ⟨hTH, hPH, hMH, hGW, hob⟩, ftw, pic, sta, oa, se, pa, ma, ht, hpc, hst, hoa, hse, hpa, hma⟩ := hN
  have hn := hR.1
  have hsc := hR.2.1
  have hk' := hk
  obtain ⟨k0, k1, k2, k3, k4, k5, k6⟩ := hk'
  have ht' := ht
  obtain ⟨u0, u1, u2, u3, u4, u5, u6⟩ := ht'
  have hpc' := hpc
  obtain ⟨fpi, tpi, wa, ca, ga, p1, p2, p3, hw, fca, hca, hcl, fga, hga, hgr⟩ := hpc'
  have hp : pObj T P pic wa ca ga := ⟨tpi, p1, p2, p3⟩
  have hTH' := hTH
  obtain ⟨h41, np1, np4, h411, nf1, nf4, h412, W1, W64, h413, rW, h414, cn5, hcW, hsW⟩ := hTH'
  have hw' := hw
  obtain ⟨w1, w2, w3, w4, w5, w6, -⟩ := hw'
  have hf : I 0 4 = J 40 24 := by
    obtain ⟨-, -, -, -, tw2, kc, kn, o1, o2, o3, o4, o5, o6, -⟩ := hR
    exact o6
  have z6 : ∀ k, k < 7 → rIn (nI k) (nI 0) (nI 6) = true := by decide +kernel
  have zn : ∀ k, k < 8 → rAlC (nI k) = none := by decide +kernel
  have e : ∀ k, k < 7 → J 41 k = (if rIn (nI k) (nI 0) (nI 6) = true then J 41 (ix (nI k)) else J 40 24) := fun k hk => by rw [if_pos (z6 k hk), ix_nI (by omega)]
  have pa2 := hpa.2.1
  have ma2 := hma.2.1
  refine tkM.of (ls := [some _, some _]) (by decide +kernel) (by decide +kernel) (Nat.le_of_ble_eq_true rfl) rfl ?_
  refine tk_iload1 dX10_all_0 ?_
  by_cases hin : rIn w (nI 0) (nI 7) = true
  · obtain ⟨k, hk7, rfl⟩ := rIn_of hin (by omega)
    have hc : k = 0 ∨ k = 1 ∨ k = 2 ∨ k = 3 ∨ k = 4 ∨ k = 5 ∨ k = 6 ∨ k = 7 := by omega
    rcases hc with rfl | rfl | rfl | rfl | rfl | rfl | rfl | rfl
    · refine tk_tabIn (tgt := 48) dX10_all_1 (by decide) (by decide) rfl rfl ?_
      refine tk_aload0 dX10_all_48 ?_
      refine tk_callV0z dX10_all_49 kX10_84 (by first | assumption | exact va_up_self _ _ _ | exact (va_up_ne _ _ (by omega)).trans (by assumption) | exact congrArg Prod.fst (va_up_self _ _ _) | exact (congrArg Prod.fst (va_up_ne _ _ (by omega))).trans (by assumption) | exact (congrFun (va_up_ne _ _ (by omega)) _).trans (by assumption) | exact (va_up_ne _ _ (by omega)).trans (va_up_self _ _ _) | exact (va_up_ne _ _ (by omega)).trans ((va_up_ne _ _ (by omega)).trans (by assumption)) | exact (congrArg Prod.fst ((va_up_ne _ _ (by omega)).trans (va_up_ne _ _ (by omega)))).trans (by assumption) | exact (congrFun ((va_up_ne _ _ (by omega)).trans (va_up_ne _ _ (by omega))) _).trans (by assumption) | (rw [va_up_self, va_up_ne _ _ (by omega)]; assumption)) (c_worlds hk ht hp) (Nat.le_of_ble_eq_true rfl) (by omega) ?_
      refine tk_getI dX10_all_52 fX10_176 rfl (by first | assumption | exact va_up_self _ _ _ | exact (va_up_ne _ _ (by omega)).trans (by assumption) | exact congrArg Prod.fst (va_up_self _ _ _) | exact (congrArg Prod.fst (va_up_ne _ _ (by omega))).trans (by assumption) | exact (congrFun (va_up_ne _ _ (by omega)) _).trans (by assumption) | exact (va_up_ne _ _ (by omega)).trans (va_up_self _ _ _) | exact (va_up_ne _ _ (by omega)).trans ((va_up_ne _ _ (by omega)).trans (by assumption)) | exact (congrArg Prod.fst ((va_up_ne _ _ (by omega)).trans (va_up_ne _ _ (by omega)))).trans (by assumption) | exact (congrFun ((va_up_ne _ _ (by omega)).trans (va_up_ne _ _ (by omega))) _).trans (by assumption) | (rw [va_up_self, va_up_ne _ _ (by omega)]; assumption)) ?_
      rw [w3]
      refine tk_ireturn dX10_all_55 rfl ?_
      exact cPst_g (zn 0 (by omega)) (h41.symm.trans (e 0 (by omega))) hR cKp.rf jSm.rf
    · refine tk_tabIn (tgt := 56) dX10_all_1 (by decide) (by decide) rfl rfl ?_
      refine tk_aload0 dX10_all_56 ?_
      refine tk_callV0z dX10_all_57 kX10_84 (by first | assumption | exact va_up_self _ _ _ | exact (va_up_ne _ _ (by omega)).trans (by assumption) | exact congrArg Prod.fst (va_up_self _ _ _) | exact (congrArg Prod.fst (va_up_ne _ _ (by omega))).trans (by assumption) | exact (congrFun (va_up_ne _ _ (by omega)) _).trans (by assumption) | exact (va_up_ne _ _ (by omega)).trans (va_up_self _ _ _) | exact (va_up_ne _ _ (by omega)).trans ((va_up_ne _ _ (by omega)).trans (by assumption)) | exact (congrArg Prod.fst ((va_up_ne _ _ (by omega)).trans (va_up_ne _ _ (by omega)))).trans (by assumption) | exact (congrFun ((va_up_ne _ _ (by omega)).trans (va_up_ne _ _ (by omega))) _).trans (by assumption) | (rw [va_up_self, va_up_ne _ _ (by omega)]; assumption)) (c_worlds hk ht hp) (Nat.le_of_ble_eq_true rfl) (by omega) ?_
      refine tk_getI dX10_all_60 fX10_179 rfl (by first | assumption | exact va_up_self _ _ _ | exact (va_up_ne _ _ (by omega)).trans (by assumption) | exact congrArg Prod.fst (va_up_self _ _ _) | exact (congrArg Prod.fst (va_up_ne _ _ (by omega))).trans (by assumption) | exact (congrFun (va_up_ne _ _ (by omega)) _).trans (by assumption) | exact (va_up_ne _ _ (by omega)).trans (va_up_self _ _ _) | exact (va_up_ne _ _ (by omega)).trans ((va_up_ne _ _ (by omega)).trans (by assumption)) | exact (congrArg Prod.fst ((va_up_ne _ _ (by omega)).trans (va_up_ne _ _ (by omega)))).trans (by assumption) | exact (congrFun ((va_up_ne _ _ (by omega)).trans (va_up_ne _ _ (by omega))) _).trans (by assumption) | (rw [va_up_self, va_up_ne _ _ (by omega)]; assumption)) ?_
      rw [w4]
      refine tk_ireturn dX10_all_63 rfl ?_
      exact cPst_g (zn 1 (by omega)) (h411.symm.trans (e 1 (by omega))) hR cKp.rf jSm.rf
    · refine tk_tabIn (tgt := 64) dX10_all_1 (by decide) (by decide) rfl rfl ?_
      refine tk_aload0 dX10_all_64 ?_
      refine tk_callV0z dX10_all_65 kX10_84 (by first | assumption | exact va_up_self _ _ _ | exact (va_up_ne _ _ (by omega)).trans (by assumption) | exact congrArg Prod.fst (va_up_self _ _ _) | exact (congrArg Prod.fst (va_up_ne _ _ (by omega))).trans (by assumption) | exact (congrFun (va_up_ne _ _ (by omega)) _).trans (by assumption) | exact (va_up_ne _ _ (by omega)).trans (va_up_self _ _ _) | exact (va_up_ne _ _ (by omega)).trans ((va_up_ne _ _ (by omega)).trans (by assumption)) | exact (congrArg Prod.fst ((va_up_ne _ _ (by omega)).trans (va_up_ne _ _ (by omega)))).trans (by assumption) | exact (congrFun ((va_up_ne _ _ (by omega)).trans (va_up_ne _ _ (by omega))) _).trans (by assumption) | (rw [va_up_self, va_up_ne _ _ (by omega)]; assumption)) (c_worlds hk ht hp) (Nat.le_of_ble_eq_true rfl) (by omega) ?_
      refine tk_getI dX10_all_68 fX10_88 rfl (by first | assumption | exact va_up_self _ _ _ | exact (va_up_ne _ _ (by omega)).trans (by assumption) | exact congrArg Prod.fst (va_up_self _ _ _) | exact (congrArg Prod.fst (va_up_ne _ _ (by omega))).trans (by assumption) | exact (congrFun (va_up_ne _ _ (by omega)) _).trans (by assumption) | exact (va_up_ne _ _ (by omega)).trans (va_up_self _ _ _) | exact (va_up_ne _ _ (by omega)).trans ((va_up_ne _ _ (by omega)).trans (by assumption)) | exact (congrArg Prod.fst ((va_up_ne _ _ (by omega)).trans (va_up_ne _ _ (by omega)))).trans (by assumption) | exact (congrFun ((va_up_ne _ _ (by omega)).trans (va_up_ne _ _ (by omega))) _).trans (by assumption) | (rw [va_up_self, va_up_ne _ _ (by omega)]; assumption)) ?_
      rw [w5]
      refine tk_ireturn dX10_all_71 rfl ?_
      exact cPst_g (zn 2 (by omega)) (h412.symm.trans (e 2 (by omega))) hR cKp.rf jSm.rf
    · refine tk_tabIn (tgt := 72) dX10_all_1 (by decide) (by decide) rfl rfl ?_
      refine tk_aload0 dX10_all_72 ?_
      refine tk_callV0z dX10_all_73 kX10_84 (by first | assumption | exact va_up_self _ _ _ | exact (va_up_ne _ _ (by omega)).trans (by assumption) | exact congrArg Prod.fst (va_up_self _ _ _) | exact (congrArg Prod.fst (va_up_ne _ _ (by omega))).trans (by assumption) | exact (congrFun (va_up_ne _ _ (by omega)) _).trans (by assumption) | exact (va_up_ne _ _ (by omega)).trans (va_up_self _ _ _) | exact (va_up_ne _ _ (by omega)).trans ((va_up_ne _ _ (by omega)).trans (by assumption)) | exact (congrArg Prod.fst ((va_up_ne _ _ (by omega)).trans (va_up_ne _ _ (by omega)))).trans (by assumption) | exact (congrFun ((va_up_ne _ _ (by omega)).trans (va_up_ne _ _ (by omega))) _).trans (by assumption) | (rw [va_up_self, va_up_ne _ _ (by omega)]; assumption)) (c_worlds hk ht hp) (Nat.le_of_ble_eq_true rfl) (by omega) ?_
      refine tk_getI dX10_all_76 fX10_327 rfl (by first | assumption | exact va_up_self _ _ _ | exact (va_up_ne _ _ (by omega)).trans (by assumption) | exact congrArg Prod.fst (va_up_self _ _ _) | exact (congrArg Prod.fst (va_up_ne _ _ (by omega))).trans (by assumption) | exact (congrFun (va_up_ne _ _ (by omega)) _).trans (by assumption) | exact (va_up_ne _ _ (by omega)).trans (va_up_self _ _ _) | exact (va_up_ne _ _ (by omega)).trans ((va_up_ne _ _ (by omega)).trans (by assumption)) | exact (congrArg Prod.fst ((va_up_ne _ _ (by omega)).trans (va_up_ne _ _ (by omega)))).trans (by assumption) | exact (congrFun ((va_up_ne _ _ (by omega)).trans (va_up_ne _ _ (by omega))) _).trans (by assumption) | (rw [va_up_self, va_up_ne _ _ (by omega)]; assumption)) ?_
      rw [w6]
      refine tk_ireturn dX10_all_79 rfl ?_
      exact cPst_g (zn 3 (by omega)) (h413.symm.trans (e 3 (by omega))) hR cKp.rf jSm.rf
    · refine tk_tabIn (tgt := 80) dX10_all_1 (by decide) (by decide) rfl rfl ?_
      refine tk_aload0 dX10_all_80 ?_
      refine tk_getP dX10_all_81 fX10_13 rfl (by first | assumption | exact va_up_self _ _ _ | exact (va_up_ne _ _ (by omega)).trans (by assumption) | exact congrArg Prod.fst (va_up_self _ _ _) | exact (congrArg Prod.fst (va_up_ne _ _ (by omega))).trans (by assumption) | exact (congrFun (va_up_ne _ _ (by omega)) _).trans (by assumption) | exact (va_up_ne _ _ (by omega)).trans (va_up_self _ _ _) | exact (va_up_ne _ _ (by omega)).trans ((va_up_ne _ _ (by omega)).trans (by assumption)) | exact (congrArg Prod.fst ((va_up_ne _ _ (by omega)).trans (va_up_ne _ _ (by omega)))).trans (by assumption) | exact (congrFun ((va_up_ne _ _ (by omega)).trans (va_up_ne _ _ (by omega))) _).trans (by assumption) | (rw [va_up_self, va_up_ne _ _ (by omega)]; assumption)) (by first | assumption | exact va_up_self _ _ _ | exact (va_up_ne _ _ (by omega)).trans (by assumption) | exact congrArg Prod.fst (va_up_self _ _ _) | exact (congrArg Prod.fst (va_up_ne _ _ (by omega))).trans (by assumption) | exact (congrFun (va_up_ne _ _ (by omega)) _).trans (by assumption) | exact (va_up_ne _ _ (by omega)).trans (va_up_self _ _ _) | exact (va_up_ne _ _ (by omega)).trans ((va_up_ne _ _ (by omega)).trans (by assumption)) | exact (congrArg Prod.fst ((va_up_ne _ _ (by omega)).trans (va_up_ne _ _ (by omega)))).trans (by assumption) | exact (congrFun ((va_up_ne _ _ (by omega)).trans (va_up_ne _ _ (by omega))) _).trans (by assumption) | (rw [va_up_self, va_up_ne _ _ (by omega)]; assumption)) ?_
      refine tk_getP dX10_all_84 fX10_106 rfl (by first | assumption | exact va_up_self _ _ _ | exact (va_up_ne _ _ (by omega)).trans (by assumption) | exact congrArg Prod.fst (va_up_self _ _ _) | exact (congrArg Prod.fst (va_up_ne _ _ (by omega))).trans (by assumption) | exact (congrFun (va_up_ne _ _ (by omega)) _).trans (by assumption) | exact (va_up_ne _ _ (by omega)).trans (va_up_self _ _ _) | exact (va_up_ne _ _ (by omega)).trans ((va_up_ne _ _ (by omega)).trans (by assumption)) | exact (congrArg Prod.fst ((va_up_ne _ _ (by omega)).trans (va_up_ne _ _ (by omega)))).trans (by assumption) | exact (congrFun ((va_up_ne _ _ (by omega)).trans (va_up_ne _ _ (by omega))) _).trans (by assumption) | (rw [va_up_self, va_up_ne _ _ (by omega)]; assumption)) (by first | assumption | exact va_up_self _ _ _ | exact (va_up_ne _ _ (by omega)).trans (by assumption) | exact congrArg Prod.fst (va_up_self _ _ _) | exact (congrArg Prod.fst (va_up_ne _ _ (by omega))).trans (by assumption) | exact (congrFun (va_up_ne _ _ (by omega)) _).trans (by assumption) | exact (va_up_ne _ _ (by omega)).trans (va_up_self _ _ _) | exact (va_up_ne _ _ (by omega)).trans ((va_up_ne _ _ (by omega)).trans (by assumption)) | exact (congrArg Prod.fst ((va_up_ne _ _ (by omega)).trans (va_up_ne _ _ (by omega)))).trans (by assumption) | exact (congrFun ((va_up_ne _ _ (by omega)).trans (va_up_ne _ _ (by omega))) _).trans (by assumption) | (rw [va_up_self, va_up_ne _ _ (by omega)]; assumption)) ?_
      refine tk_getP dX10_all_87 fX10_247 rfl (by first | assumption | exact va_up_self _ _ _ | exact (va_up_ne _ _ (by omega)).trans (by assumption) | exact congrArg Prod.fst (va_up_self _ _ _) | exact (congrArg Prod.fst (va_up_ne _ _ (by omega))).trans (by assumption) | exact (congrFun (va_up_ne _ _ (by omega)) _).trans (by assumption) | exact (va_up_ne _ _ (by omega)).trans (va_up_self _ _ _) | exact (va_up_ne _ _ (by omega)).trans ((va_up_ne _ _ (by omega)).trans (by assumption)) | exact (congrArg Prod.fst ((va_up_ne _ _ (by omega)).trans (va_up_ne _ _ (by omega)))).trans (by assumption) | exact (congrFun ((va_up_ne _ _ (by omega)).trans (va_up_ne _ _ (by omega))) _).trans (by assumption) | (rw [va_up_self, va_up_ne _ _ (by omega)]; assumption)) (by first | assumption | exact va_up_self _ _ _ | exact (va_up_ne _ _ (by omega)).trans (by assumption) | exact congrArg Prod.fst (va_up_self _ _ _) | exact (congrArg Prod.fst (va_up_ne _ _ (by omega))).trans (by assumption) | exact (congrFun (va_up_ne _ _ (by omega)) _).trans (by assumption) | exact (va_up_ne _ _ (by omega)).trans (va_up_self _ _ _) | exact (va_up_ne _ _ (by omega)).trans ((va_up_ne _ _ (by omega)).trans (by assumption)) | exact (congrArg Prod.fst ((va_up_ne _ _ (by omega)).trans (va_up_ne _ _ (by omega)))).trans (by assumption) | exact (congrFun ((va_up_ne _ _ (by omega)).trans (va_up_ne _ _ (by omega))) _).trans (by assumption) | (rw [va_up_self, va_up_ne _ _ (by omega)]; assumption)) ?_
      refine tk_alen dX10_all_90 (by first | assumption | exact va_up_self _ _ _ | exact (va_up_ne _ _ (by omega)).trans (by assumption) | exact congrArg Prod.fst (va_up_self _ _ _) | exact (congrArg Prod.fst (va_up_ne _ _ (by omega))).trans (by assumption) | exact (congrFun (va_up_ne _ _ (by omega)) _).trans (by assumption) | exact (va_up_ne _ _ (by omega)).trans (va_up_self _ _ _) | exact (va_up_ne _ _ (by omega)).trans ((va_up_ne _ _ (by omega)).trans (by assumption)) | exact (congrArg Prod.fst ((va_up_ne _ _ (by omega)).trans (va_up_ne _ _ (by omega)))).trans (by assumption) | exact (congrFun ((va_up_ne _ _ (by omega)).trans (va_up_ne _ _ (by omega))) _).trans (by assumption) | (rw [va_up_self, va_up_ne _ _ (by omega)]; assumption)) (by omega) ?_
      refine tk_ireturn dX10_all_91 rfl ?_
      exact cPst_g (zn 4 (by omega)) (h414.symm.trans (e 4 (by omega))) hR cKp.rf jSm.rf
    · refine tk_tabIn (tgt := 92) dX10_all_1 (by decide) (by decide) rfl rfl ?_
      refine tk_aload0 dX10_all_92 ?_
      refine tk_getP dX10_all_93 fX10_13 rfl (by first | assumption | exact va_up_self _ _ _ | exact (va_up_ne _ _ (by omega)).trans (by assumption) | exact congrArg Prod.fst (va_up_self _ _ _) | exact (congrArg Prod.fst (va_up_ne _ _ (by omega))).trans (by assumption) | exact (congrFun (va_up_ne _ _ (by omega)) _).trans (by assumption) | exact (va_up_ne _ _ (by omega)).trans (va_up_self _ _ _) | exact (va_up_ne _ _ (by omega)).trans ((va_up_ne _ _ (by omega)).trans (by assumption)) | exact (congrArg Prod.fst ((va_up_ne _ _ (by omega)).trans (va_up_ne _ _ (by omega)))).trans (by assumption) | exact (congrFun ((va_up_ne _ _ (by omega)).trans (va_up_ne _ _ (by omega))) _).trans (by assumption) | (rw [va_up_self, va_up_ne _ _ (by omega)]; assumption)) (by first | assumption | exact va_up_self _ _ _ | exact (va_up_ne _ _ (by omega)).trans (by assumption) | exact congrArg Prod.fst (va_up_self _ _ _) | exact (congrArg Prod.fst (va_up_ne _ _ (by omega))).trans (by assumption) | exact (congrFun (va_up_ne _ _ (by omega)) _).trans (by assumption) | exact (va_up_ne _ _ (by omega)).trans (va_up_self _ _ _) | exact (va_up_ne _ _ (by omega)).trans ((va_up_ne _ _ (by omega)).trans (by assumption)) | exact (congrArg Prod.fst ((va_up_ne _ _ (by omega)).trans (va_up_ne _ _ (by omega)))).trans (by assumption) | exact (congrFun ((va_up_ne _ _ (by omega)).trans (va_up_ne _ _ (by omega))) _).trans (by assumption) | (rw [va_up_self, va_up_ne _ _ (by omega)]; assumption)) ?_
      refine tk_getP dX10_all_96 fX10_279 rfl (by first | assumption | exact va_up_self _ _ _ | exact (va_up_ne _ _ (by omega)).trans (by assumption) | exact congrArg Prod.fst (va_up_self _ _ _) | exact (congrArg Prod.fst (va_up_ne _ _ (by omega))).trans (by assumption) | exact (congrFun (va_up_ne _ _ (by omega)) _).trans (by assumption) | exact (va_up_ne _ _ (by omega)).trans (va_up_self _ _ _) | exact (va_up_ne _ _ (by omega)).trans ((va_up_ne _ _ (by omega)).trans (by assumption)) | exact (congrArg Prod.fst ((va_up_ne _ _ (by omega)).trans (va_up_ne _ _ (by omega)))).trans (by assumption) | exact (congrFun ((va_up_ne _ _ (by omega)).trans (va_up_ne _ _ (by omega))) _).trans (by assumption) | (rw [va_up_self, va_up_ne _ _ (by omega)]; assumption)) (by first | assumption | exact va_up_self _ _ _ | exact (va_up_ne _ _ (by omega)).trans (by assumption) | exact congrArg Prod.fst (va_up_self _ _ _) | exact (congrArg Prod.fst (va_up_ne _ _ (by omega))).trans (by assumption) | exact (congrFun (va_up_ne _ _ (by omega)) _).trans (by assumption) | exact (va_up_ne _ _ (by omega)).trans (va_up_self _ _ _) | exact (va_up_ne _ _ (by omega)).trans ((va_up_ne _ _ (by omega)).trans (by assumption)) | exact (congrArg Prod.fst ((va_up_ne _ _ (by omega)).trans (va_up_ne _ _ (by omega)))).trans (by assumption) | exact (congrFun ((va_up_ne _ _ (by omega)).trans (va_up_ne _ _ (by omega))) _).trans (by assumption) | (rw [va_up_self, va_up_ne _ _ (by omega)]; assumption)) ?_
      refine tk_alen dX10_all_99 (by first | assumption | exact va_up_self _ _ _ | exact (va_up_ne _ _ (by omega)).trans (by assumption) | exact congrArg Prod.fst (va_up_self _ _ _) | exact (congrArg Prod.fst (va_up_ne _ _ (by omega))).trans (by assumption) | exact (congrFun (va_up_ne _ _ (by omega)) _).trans (by assumption) | exact (va_up_ne _ _ (by omega)).trans (va_up_self _ _ _) | exact (va_up_ne _ _ (by omega)).trans ((va_up_ne _ _ (by omega)).trans (by assumption)) | exact (congrArg Prod.fst ((va_up_ne _ _ (by omega)).trans (va_up_ne _ _ (by omega)))).trans (by assumption) | exact (congrFun ((va_up_ne _ _ (by omega)).trans (va_up_ne _ _ (by omega))) _).trans (by assumption) | (rw [va_up_self, va_up_ne _ _ (by omega)]; assumption)) (by omega) ?_
      refine tk_ireturn dX10_all_100 rfl ?_
      exact cPst_g (zn 5 (by omega)) (hPH.1.symm.trans (e 5 (by omega))) hR cKp.rf jSm.rf
    · refine tk_tabIn (tgt := 101) dX10_all_1 (by decide) (by decide) rfl rfl ?_
      refine tk_aload0 dX10_all_101 ?_
      refine tk_getP dX10_all_102 fX10_13 rfl (by first | assumption | exact va_up_self _ _ _ | exact (va_up_ne _ _ (by omega)).trans (by assumption) | exact congrArg Prod.fst (va_up_self _ _ _) | exact (congrArg Prod.fst (va_up_ne _ _ (by omega))).trans (by assumption) | exact (congrFun (va_up_ne _ _ (by omega)) _).trans (by assumption) | exact (va_up_ne _ _ (by omega)).trans (va_up_self _ _ _) | exact (va_up_ne _ _ (by omega)).trans ((va_up_ne _ _ (by omega)).trans (by assumption)) | exact (congrArg Prod.fst ((va_up_ne _ _ (by omega)).trans (va_up_ne _ _ (by omega)))).trans (by assumption) | exact (congrFun ((va_up_ne _ _ (by omega)).trans (va_up_ne _ _ (by omega))) _).trans (by assumption) | (rw [va_up_self, va_up_ne _ _ (by omega)]; assumption)) (by first | assumption | exact va_up_self _ _ _ | exact (va_up_ne _ _ (by omega)).trans (by assumption) | exact congrArg Prod.fst (va_up_self _ _ _) | exact (congrArg Prod.fst (va_up_ne _ _ (by omega))).trans (by assumption) | exact (congrFun (va_up_ne _ _ (by omega)) _).trans (by assumption) | exact (va_up_ne _ _ (by omega)).trans (va_up_self _ _ _) | exact (va_up_ne _ _ (by omega)).trans ((va_up_ne _ _ (by omega)).trans (by assumption)) | exact (congrArg Prod.fst ((va_up_ne _ _ (by omega)).trans (va_up_ne _ _ (by omega)))).trans (by assumption) | exact (congrFun ((va_up_ne _ _ (by omega)).trans (va_up_ne _ _ (by omega))) _).trans (by assumption) | (rw [va_up_self, va_up_ne _ _ (by omega)]; assumption)) ?_
      refine tk_getP dX10_all_105 fX10_339 rfl (by first | assumption | exact va_up_self _ _ _ | exact (va_up_ne _ _ (by omega)).trans (by assumption) | exact congrArg Prod.fst (va_up_self _ _ _) | exact (congrArg Prod.fst (va_up_ne _ _ (by omega))).trans (by assumption) | exact (congrFun (va_up_ne _ _ (by omega)) _).trans (by assumption) | exact (va_up_ne _ _ (by omega)).trans (va_up_self _ _ _) | exact (va_up_ne _ _ (by omega)).trans ((va_up_ne _ _ (by omega)).trans (by assumption)) | exact (congrArg Prod.fst ((va_up_ne _ _ (by omega)).trans (va_up_ne _ _ (by omega)))).trans (by assumption) | exact (congrFun ((va_up_ne _ _ (by omega)).trans (va_up_ne _ _ (by omega))) _).trans (by assumption) | (rw [va_up_self, va_up_ne _ _ (by omega)]; assumption)) (by first | assumption | exact va_up_self _ _ _ | exact (va_up_ne _ _ (by omega)).trans (by assumption) | exact congrArg Prod.fst (va_up_self _ _ _) | exact (congrArg Prod.fst (va_up_ne _ _ (by omega))).trans (by assumption) | exact (congrFun (va_up_ne _ _ (by omega)) _).trans (by assumption) | exact (va_up_ne _ _ (by omega)).trans (va_up_self _ _ _) | exact (va_up_ne _ _ (by omega)).trans ((va_up_ne _ _ (by omega)).trans (by assumption)) | exact (congrArg Prod.fst ((va_up_ne _ _ (by omega)).trans (va_up_ne _ _ (by omega)))).trans (by assumption) | exact (congrFun ((va_up_ne _ _ (by omega)).trans (va_up_ne _ _ (by omega))) _).trans (by assumption) | (rw [va_up_self, va_up_ne _ _ (by omega)]; assumption)) ?_
      refine tk_alen dX10_all_108 (by first | assumption | exact va_up_self _ _ _ | exact (va_up_ne _ _ (by omega)).trans (by assumption) | exact congrArg Prod.fst (va_up_self _ _ _) | exact (congrArg Prod.fst (va_up_ne _ _ (by omega))).trans (by assumption) | exact (congrFun (va_up_ne _ _ (by omega)) _).trans (by assumption) | exact (va_up_ne _ _ (by omega)).trans (va_up_self _ _ _) | exact (va_up_ne _ _ (by omega)).trans ((va_up_ne _ _ (by omega)).trans (by assumption)) | exact (congrArg Prod.fst ((va_up_ne _ _ (by omega)).trans (va_up_ne _ _ (by omega)))).trans (by assumption) | exact (congrFun ((va_up_ne _ _ (by omega)).trans (va_up_ne _ _ (by omega))) _).trans (by assumption) | (rw [va_up_self, va_up_ne _ _ (by omega)]; assumption)) (by omega) ?_
      refine tk_ireturn dX10_all_109 rfl ?_
      exact cPst_g (zn 6 (by omega)) (hMH.1.symm.trans (e 6 (by omega))) hR cKp.rf jSm.rf
    · refine tk_tabIn (tgt := 110) dX10_all_1 (by decide) (by decide) rfl rfl ?_
      refine tk_aload0 dX10_all_110 ?_
      refine tk_getI dX10_all_111 fX10_30 rfl (by first | assumption | exact va_up_self _ _ _ | exact (va_up_ne _ _ (by omega)).trans (by assumption) | exact congrArg Prod.fst (va_up_self _ _ _) | exact (congrArg Prod.fst (va_up_ne _ _ (by omega))).trans (by assumption) | exact (congrFun (va_up_ne _ _ (by omega)) _).trans (by assumption) | exact (va_up_ne _ _ (by omega)).trans (va_up_self _ _ _) | exact (va_up_ne _ _ (by omega)).trans ((va_up_ne _ _ (by omega)).trans (by assumption)) | exact (congrArg Prod.fst ((va_up_ne _ _ (by omega)).trans (va_up_ne _ _ (by omega)))).trans (by assumption) | exact (congrFun ((va_up_ne _ _ (by omega)).trans (va_up_ne _ _ (by omega))) _).trans (by assumption) | (rw [va_up_self, va_up_ne _ _ (by omega)]; assumption)) ?_
      refine tk_ireturn dX10_all_114 rfl ?_
      exact cPst_g (zn 7 (by omega)) (by rw [if_neg (by decide)]; exact hf) hR cKp.rf jSm.rf
  · have c0 : (nI 0 : Int32).toInt = 0 := by decide
    have c6 : (nI 6 : Int32).toInt = 6 := by decide
    have c7 : (nI 7 : Int32).toInt = 7 := by decide
    have hx : w.toInt < 0 ∨ 7 < w.toInt := Classical.byContradiction fun q => hin (by
      unfold rIn
      rw [Bool.and_eq_true, decide_eq_true_eq, decide_eq_true_eq, Int32.le_iff_toInt_le, Int32.le_iff_toInt_le, c0, c7]
      omega)
    have hc : rAlC w = some (-100001) := by
      unfold rAlC
      rw [if_neg, if_neg]
      · intro q
        rw [q, c7] at hx
        omega
      · intro q
        unfold rIn at q
        rw [Bool.and_eq_true, decide_eq_true_eq, decide_eq_true_eq, Int32.le_iff_toInt_le, Int32.le_iff_toInt_le, c0, c6] at q
        omega
    refine tk_tabOut (tgt := 115) dX10_all_1 hx rfl ?_
    refine tk_aload0 dX10_all_115 ?_
    refine tk_ldc dX10_all_116 klX10_65 ?_
    refine tk_callV1z dX10_all_118 kX10_66 (by first | assumption | exact va_up_self _ _ _ | exact (va_up_ne _ _ (by omega)).trans (by assumption) | exact congrArg Prod.fst (va_up_self _ _ _) | exact (congrArg Prod.fst (va_up_ne _ _ (by omega))).trans (by assumption) | exact (congrFun (va_up_ne _ _ (by omega)) _).trans (by assumption) | exact (va_up_ne _ _ (by omega)).trans (va_up_self _ _ _) | exact (va_up_ne _ _ (by omega)).trans ((va_up_ne _ _ (by omega)).trans (by assumption)) | exact (congrArg Prod.fst ((va_up_ne _ _ (by omega)).trans (va_up_ne _ _ (by omega)))).trans (by assumption) | exact (congrFun ((va_up_ne _ _ (by omega)).trans (va_up_ne _ _ (by omega))) _).trans (by assumption) | (rw [va_up_self, va_up_ne _ _ (by omega)]; assumption)) (c_finding hk _) (Nat.le_of_ble_eq_true rfl) (by omega) ?_
    refine tk_ireturn dX10_all_121 rfl ?_
    exact cPst_f hc hR cKp.rf
end ASKS
