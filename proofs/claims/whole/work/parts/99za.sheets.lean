/-! ===== the class: sheets laid, put, copied ===== -/
theorem hMsk_0 (b : Int32) : hMsk b 0 = 0 := by
  unfold hMsk
  split
  · rfl
  · exact Int32.zero_and
theorem rNar_0 (b : Int32) : rNar b 0 = 0 := by
  unfold rNar
  split
  · decide
  · split
    · decide
    · rfl
theorem rNar_idem (b v : Int32) : rNar b (rNar b v) = rNar b v := by
  unfold rNar
  by_cases h8 : b = nI 8
  · rw [if_pos h8, if_pos h8, Int8.toInt8_toInt32]
  · rw [if_neg h8, if_neg h8]
    by_cases h16 : b = nI 16
    · rw [if_pos h16, if_pos h16, Int16.toInt16_toInt32]
    · rw [if_neg h16, if_neg h16]
theorem hMsk_8 (v : Int32) : hMsk (nI 8) v = nI v.toInt8.toBitVec.toNat := by
  rw [hMsk_n (Or.inl rfl)]
  congr 1
  rw [Int32.toBitVec_toInt8, BitVec.signExtend_eq_setWidth_of_le _ (by omega), BitVec.toNat_setWidth]
theorem hMsk_16 (v : Int32) : hMsk (nI 16) v = nI v.toInt16.toBitVec.toNat := by
  rw [hMsk_n (Or.inr rfl)]
  congr 1
  rw [Int32.toBitVec_toInt16, BitVec.signExtend_eq_setWidth_of_le _ (by omega), BitVec.toNat_setWidth]
theorem hMsk_nar {b : Int32} (v : Int32) (hb : b = nI 8 ∨ b = nI 16 ∨ b = nI 32) : hMsk b (rNar b v) = hMsk b v := by
  rcases hb with rfl | rfl | rfl
  · rw [hMsk_8, hMsk_8]
    unfold rNar
    rw [if_pos rfl, Int8.toInt8_toInt32]
  · rw [hMsk_16, hMsk_16]
    unfold rNar
    rw [if_neg (by decide), if_pos rfl, Int16.toInt16_toInt32]
  · unfold rNar
    rw [if_neg (by decide), if_neg (by decide)]
theorem hPt_rHp {l : Nat} (hl : l ≤ 14) (x y : Int32) : hPt (nI l) x y = rHp (nI l) x y := by
  unfold hPt rHp
  by_cases hx : x < 0
  · rw [decide_eq_false (Int32.not_le.mpr hx)]; rfl
  · by_cases hy : y < 0
    · rw [decide_eq_false (Int32.not_le.mpr hy)]; simp
    · obtain ⟨a, ha, rfl⟩ := nI_of (x := x) hx
      obtain ⟨b, hb, rfl⟩ := nI_of (x := y) hy
      have e0 : ∀ k, k < 2 ^ 31 → decide ((0 : Int32) ≤ nI k) = true := fun k hk => decide_eq_true (nI_pos' hk)
      rw [e0 a ha, e0 b hb]
      simp only [Bool.true_and]
      rw [Bool.eq_iff_iff, Bool.and_eq_true]
      simp only [decide_eq_true_eq]
      have key : ∀ c d : Nat, c < 2 ^ 31 → d < 2 ^ 31 → (nI d ≤ nI l - nI c ↔ c + d ≤ l) := by
        intro c d hc hd
        rw [Int32.le_iff_toInt_le, Int32.toInt_sub, nI_toInt hd, nI_toInt (by omega), nI_toInt hc, Int.bmod_def]
        split <;> omega
      rw [key a b ha hb, key b a hb ha, nI_leI hb (by omega)]
      omega
section SHEETS2
variable {G : tkG} {n : Nat} {T : Nat → Nat × Nat} {I J : Nat → Nat → Int32} {L : Nat → Nat → Int64} {P : Nat → Nat → Option Nat} {tw np nf W r cn : Nat} {cl : Nat → Nat} {pn : Nat} {pl pg : Nat → Nat} {mn : Nat} {mW mr mc : Nat → Nat} {ml : Nat → Nat → Nat}
theorem cRel.she {I' J' : Nat → Nat → Int32} (h : cRel n T I L P J) (hI : ∀ a, ¬ (17 ≤ a ∧ a ≤ 24) → I' a = I a) (hs : cShe T I' P J') (h1 : ∀ a, 41 ≤ a → a ≤ 60 → J' a = J a) (h2 : J' 40 = J 40) : cRel n T I' L P J' := by
  obtain ⟨hn, hsc, hsh, h15, tw, kc, kn, hk, o2, o3, o4, o5, o6, o7, o8, o9⟩ := h
  have ex : cEx n T I L P n T I' L P := ⟨Nat.le_refl _, fun a ha => ⟨rfl, hI a (by have := ha.1; omega), rfl, rfl⟩⟩
  have e0 := hI 0 (by omega)
  refine ⟨hn, ?_, hs, h15, tw, kc, kn, hk, by rw [e0]; exact o2, by rw [e0]; exact o3, o4, o5, by rw [e0, h2]; exact o6, by rw [h2]; exact o7, ?_, ?_⟩
  · unfold cScr at hsc ⊢
    rw [hI 26 (by omega), hI 38 (by omega)]
    exact hsc
  · exact (o8.ex ex).kc (kSm_of fun a a1 a2 => (h1 a a1 (by omega)).symm)
  · intro i hi
    obtain ⟨t, q1, q2⟩ := o9 i hi
    rw [h1 60 (by omega) (by omega)]
    exact ⟨t, q1, q2.ex ex⟩
/-- one sheet changed -/
theorem cShe.set {I' J' : Nat → Nat → Int32} {s : Nat} (h : cShe T I P J) (hs : s < 4) (hI : ∀ a, ¬ a = 17 + 2 * s → ¬ a = 18 + 2 * s → I' a = I a) (e1 : ∀ t, t < 4 → ¬ t = s → J' 61 t = J 61 t ∧ J' 62 t = J 62 t ∧ ∀ j, j < 14 → J' 63 (14 * t + j) = J 63 (14 * t + j)) (a1 : I' (17 + 2 * s) 0 = J' 61 s) (a2 : I' (17 + 2 * s) 1 = J' 62 s) (a3 : ∀ j, j < 14 → I' (18 + 2 * s) j = hMsk (J' 61 s) (J' 63 (14 * s + j)) ∧ rNar (J' 61 s) (J' 63 (14 * s + j)) = J' 63 (14 * s + j)) (a4 : J' 61 s = nI 0 ∨ J' 61 s = nI 8 ∨ J' 61 s = nI 16 ∨ J' 61 s = nI 32) (a5 : ∃ l, l ≤ 14 ∧ J' 62 s = nI l) : cShe T I' P J' := by
  refine ⟨h.1, fun t ht => ?_⟩
  obtain ⟨q1, q2, q3, q4, q5, q6, q7⟩ := h.2 t ht
  by_cases e : t = s
  · subst e
    exact ⟨q1, q2, a1, a2, a3, a4, a5⟩
  · obtain ⟨x1, x2, x3⟩ := e1 t ht e
    rw [hI (17 + 2 * t) (by omega) (by omega), hI (18 + 2 * t) (by omega) (by omega), x1, x2]
    exact ⟨q1, q2, q3, q4, fun j hj => by rw [x3 j hj]; exact q5 j hj, q6, q7⟩
theorem sheet_rel {s' : Nat} {b mm : Int32} (hR : cRel n T I L P J) (hs : s' < 4) (hb : b = nI 0 ∨ b = nI 8 ∨ b = nI 16 ∨ b = nI 32) (hl : ∃ l, l ≤ 14 ∧ mm = nI l) : cRel n T (va_up (va_up I (17 + 2 * s') (va_up (va_up (I (17 + 2 * s')) 0 b) 1 mm)) (18 + 2 * s') (tkcp (I (18 + 2 * s')) (fun _ => 0) 14)) L P (va_up (va_up (va_up J 61 (va_up (J 61) s' b)) 62 (va_up (J 62) s' mm)) 63 (tkco (J 63) (fun _ => nI 0) (14 * s') 14)) := by
  refine hR.she (fun a ha => ?_) (hR.2.2.1.set hs (fun a h1 h2 => ?_) (fun t ht e => ⟨?_, ?_, fun j hj => ?_⟩) ?_ ?_ (fun j hj => ?_) ?_ ?_) (fun a a1 a2 => ?_) rfl
  · rw [va_up_ne _ _ (by omega), va_up_ne _ _ (by omega)]
  · rw [va_up_ne _ _ h2, va_up_ne _ _ h1]
  · show va_up (J 61) s' b t = _; rw [va_up_ne _ _ e]
  · show va_up (J 62) s' mm t = _; rw [va_up_ne _ _ e]
  · show tkco (J 63) (fun _ => nI 0) (14 * s') 14 (14 * t + j) = _
    by_cases e2 : t < s'
    · exact tkco_lo (by omega)
    · exact tkco_hi (by omega)
  · show _ = va_up (J 61) s' b s'
    rw [va_up_ne _ _ (by omega), va_up_self, va_up_self]
    rfl
  · show _ = va_up (J 62) s' mm s'
    rw [va_up_ne _ _ (by omega), va_up_self, va_up_self, va_up_self]
  · show _ = hMsk (va_up (J 61) s' b s') (tkco (J 63) (fun _ => nI 0) (14 * s') 14 (14 * s' + j)) ∧ rNar _ (tkco (J 63) (fun _ => nI 0) (14 * s') 14 (14 * s' + j)) = tkco (J 63) (fun _ => nI 0) (14 * s') 14 (14 * s' + j)
    rw [tkco_in rfl hj, va_up_self, tkcp_lt hj]
    rw [nI_0]
    exact ⟨(hMsk_0 _).symm, rNar_0 _⟩
  · show va_up (J 61) s' b s' = _ ∨ _
    rw [show va_up (va_up (va_up J 61 (va_up (J 61) s' b)) 62 (va_up (J 62) s' mm)) 63 (tkco (J 63) (fun _ => nI 0) (14 * s') 14) 61 s' = b from va_up_self _ _ _, va_up_self]
    exact hb
  · obtain ⟨l, l1, l2⟩ := hl
    exact ⟨l, l1, (va_up_self (J 62) s' mm).trans l2⟩
  · rw [va_up_ne _ _ (by omega), va_up_ne _ _ (by omega), va_up_ne _ _ (by omega)]
theorem k_sheet (hN : cNow n T I L P J tw np nf W r cn cl pn pl pg mn mW mr mc ml) (s b x : Int32) : tkM G mX10_sheet 2 0 0 [vR 0, vI s, vI b, vI x] (n, T, I, L, P) (cPst n T I L P J (rShC s b x) (if b = 0 then nI 0 else x) (va_up (va_up (va_up J 61 (va_up (J 61) (ix s) b)) 62 (va_up (J 62) (ix s) (if b = 0 then nI 0 else x))) 63 (tkco (J 63) (fun _ => nI 0) (14 * ix s) 14))) := by
  have hN' := hN
  obtain ⟨hR, hk, ⟨hTH, hPH, hMH, hGW, hob⟩, ftw, pic, sta, oa, se, pa, ma, ht, hpc, hst, hoa, hse, hpa, hma⟩ := hN
  have hn := hR.1
  have hsc := hR.2.1
  have hk' := hk
  obtain ⟨k0, k1, k2, k3, k4, k5, k6⟩ := hk'
  have ht' := ht
  obtain ⟨u0, u1, u2, u3, u4, u5, u6⟩ := ht'
  have hpc' := hpc
  obtain ⟨fpi, tpi, wa, ca, ga, p1, p2, p3, hw, fca, hca, hcl, fga, hga, hgr⟩ := hpc'
  have hp : pObj T P pic wa ca ga := ⟨tpi, p1, p2, p3⟩
  have hTH' := hTH
  obtain ⟨h41, np1, np4, h411, nf1, nf4, h412, W1, W64, h413, rW, h414, cn5, hcW, hsW⟩ := hTH'
  obtain ⟨h16, hsh⟩ := hR.2.2.1
  have go : ∀ s', s' ≤ 3 → s = nI s' → (b = nI 0 ∨ b = nI 8 ∨ b = nI 16 ∨ b = nI 32) → (∃ l, l ≤ 14 ∧ x = nI l) → rShC s b x = none → tkX G mX10_sheet 2 0 0 61 [some (vR 0), some (vI s), some (vI b), some (vI x)] [] (n, T, I, L, P) (cPst n T I L P J (rShC s b x) (if b = 0 then nI 0 else x) (va_up (va_up (va_up J 61 (va_up (J 61) (ix s) b)) 62 (va_up (J 62) (ix s) (if b = 0 then nI 0 else x))) 63 (tkco (J 63) (fun _ => nI 0) (14 * ix s) 14))) := by
    intro s' hs' es hb hx hc
    have hix : ix (nI s') = s' := ix_nI (by omega)
    subst es
    obtain ⟨o1, o2, o4, -⟩ := hsh s' (by omega)
    have o6 := o2.1
    have hl : ∃ l, l ≤ 14 ∧ (if b = 0 then nI 0 else x) = nI l := by
      split
      · exact ⟨0, by omega, rfl⟩
      · exact hx
    refine tk_aload0 dX10_sheet_61 ?_
    refine tk_getP dX10_sheet_62 fX10_35 rfl (by first | assumption | exact va_up_self _ _ _ | exact (va_up_ne _ _ (by omega)).trans (by assumption) | exact congrArg Prod.fst (va_up_self _ _ _) | exact (congrArg Prod.fst (va_up_ne _ _ (by omega))).trans (by assumption) | exact (congrFun (va_up_ne _ _ (by omega)) _).trans (by assumption) | exact (va_up_ne _ _ (by omega)).trans (va_up_self _ _ _) | exact (va_up_ne _ _ (by omega)).trans ((va_up_ne _ _ (by omega)).trans (by assumption)) | exact (congrArg Prod.fst ((va_up_ne _ _ (by omega)).trans (va_up_ne _ _ (by omega)))).trans (by assumption) | exact (congrFun ((va_up_ne _ _ (by omega)).trans (va_up_ne _ _ (by omega))) _).trans (by assumption) | (rw [va_up_self, va_up_ne _ _ (by omega)]; assumption)) (by first | assumption | exact va_up_self _ _ _ | exact (va_up_ne _ _ (by omega)).trans (by assumption) | exact congrArg Prod.fst (va_up_self _ _ _) | exact (congrArg Prod.fst (va_up_ne _ _ (by omega))).trans (by assumption) | exact (congrFun (va_up_ne _ _ (by omega)) _).trans (by assumption) | exact (va_up_ne _ _ (by omega)).trans (va_up_self _ _ _) | exact (va_up_ne _ _ (by omega)).trans ((va_up_ne _ _ (by omega)).trans (by assumption)) | exact (congrArg Prod.fst ((va_up_ne _ _ (by omega)).trans (va_up_ne _ _ (by omega)))).trans (by assumption) | exact (congrFun ((va_up_ne _ _ (by omega)).trans (va_up_ne _ _ (by omega))) _).trans (by assumption) | (rw [va_up_self, va_up_ne _ _ (by omega)]; assumption)) ?_
    refine tk_iload1 dX10_sheet_65 ?_
    refine tk_aald dX10_sheet_66 (by first | assumption | exact va_up_self _ _ _ | exact (va_up_ne _ _ (by omega)).trans (by assumption) | exact congrArg Prod.fst (va_up_self _ _ _) | exact (congrArg Prod.fst (va_up_ne _ _ (by omega))).trans (by assumption) | exact (congrFun (va_up_ne _ _ (by omega)) _).trans (by assumption) | exact (va_up_ne _ _ (by omega)).trans (va_up_self _ _ _) | exact (va_up_ne _ _ (by omega)).trans ((va_up_ne _ _ (by omega)).trans (by assumption)) | exact (congrArg Prod.fst ((va_up_ne _ _ (by omega)).trans (va_up_ne _ _ (by omega)))).trans (by assumption) | exact (congrFun ((va_up_ne _ _ (by omega)).trans (va_up_ne _ _ (by omega))) _).trans (by assumption) | (rw [va_up_self, va_up_ne _ _ (by omega)]; assumption)) (by omega) (by omega) (by omega) (by first | assumption | exact va_up_self _ _ _ | exact (va_up_ne _ _ (by omega)).trans (by assumption) | exact congrArg Prod.fst (va_up_self _ _ _) | exact (congrArg Prod.fst (va_up_ne _ _ (by omega))).trans (by assumption) | exact (congrFun (va_up_ne _ _ (by omega)) _).trans (by assumption) | exact (va_up_ne _ _ (by omega)).trans (va_up_self _ _ _) | exact (va_up_ne _ _ (by omega)).trans ((va_up_ne _ _ (by omega)).trans (by assumption)) | exact (congrArg Prod.fst ((va_up_ne _ _ (by omega)).trans (va_up_ne _ _ (by omega)))).trans (by assumption) | exact (congrFun ((va_up_ne _ _ (by omega)).trans (va_up_ne _ _ (by omega))) _).trans (by assumption) | (rw [va_up_self, va_up_ne _ _ (by omega)]; assumption)) ?_
    refine tk_iload2 dX10_sheet_67 ?_
    refine tk_iload3 dX10_sheet_68 ?_
    refine tk_callV2y dX10_sheet_69 kX10_351 (by first | assumption | exact va_up_self _ _ _ | exact (va_up_ne _ _ (by omega)).trans (by assumption) | exact congrArg Prod.fst (va_up_self _ _ _) | exact (congrArg Prod.fst (va_up_ne _ _ (by omega))).trans (by assumption) | exact (congrFun (va_up_ne _ _ (by omega)) _).trans (by assumption) | exact (va_up_ne _ _ (by omega)).trans (va_up_self _ _ _) | exact (va_up_ne _ _ (by omega)).trans ((va_up_ne _ _ (by omega)).trans (by assumption)) | exact (congrArg Prod.fst ((va_up_ne _ _ (by omega)).trans (va_up_ne _ _ (by omega)))).trans (by assumption) | exact (congrFun ((va_up_ne _ _ (by omega)).trans (va_up_ne _ _ (by omega))) _).trans (by assumption) | (rw [va_up_self, va_up_ne _ _ (by omega)]; assumption)) (c_hlay o2 b x) (Nat.le_of_ble_eq_true rfl) (by omega) ?_
    refine tk_aload0 dX10_sheet_72 ?_
    refine tk_getP dX10_sheet_73 fX10_35 rfl (by first | assumption | exact va_up_self _ _ _ | exact (va_up_ne _ _ (by omega)).trans (by assumption) | exact congrArg Prod.fst (va_up_self _ _ _) | exact (congrArg Prod.fst (va_up_ne _ _ (by omega))).trans (by assumption) | exact (congrFun (va_up_ne _ _ (by omega)) _).trans (by assumption) | exact (va_up_ne _ _ (by omega)).trans (va_up_self _ _ _) | exact (va_up_ne _ _ (by omega)).trans ((va_up_ne _ _ (by omega)).trans (by assumption)) | exact (congrArg Prod.fst ((va_up_ne _ _ (by omega)).trans (va_up_ne _ _ (by omega)))).trans (by assumption) | exact (congrFun ((va_up_ne _ _ (by omega)).trans (va_up_ne _ _ (by omega))) _).trans (by assumption) | (rw [va_up_self, va_up_ne _ _ (by omega)]; assumption)) (by first | assumption | exact va_up_self _ _ _ | exact (va_up_ne _ _ (by omega)).trans (by assumption) | exact congrArg Prod.fst (va_up_self _ _ _) | exact (congrArg Prod.fst (va_up_ne _ _ (by omega))).trans (by assumption) | exact (congrFun (va_up_ne _ _ (by omega)) _).trans (by assumption) | exact (va_up_ne _ _ (by omega)).trans (va_up_self _ _ _) | exact (va_up_ne _ _ (by omega)).trans ((va_up_ne _ _ (by omega)).trans (by assumption)) | exact (congrArg Prod.fst ((va_up_ne _ _ (by omega)).trans (va_up_ne _ _ (by omega)))).trans (by assumption) | exact (congrFun ((va_up_ne _ _ (by omega)).trans (va_up_ne _ _ (by omega))) _).trans (by assumption) | (rw [va_up_self, va_up_ne _ _ (by omega)]; assumption)) ?_
    refine tk_iload1 dX10_sheet_76 ?_
    refine tk_aald dX10_sheet_77 (by first | assumption | exact va_up_self _ _ _ | exact (va_up_ne _ _ (by omega)).trans (by assumption) | exact congrArg Prod.fst (va_up_self _ _ _) | exact (congrArg Prod.fst (va_up_ne _ _ (by omega))).trans (by assumption) | exact (congrFun (va_up_ne _ _ (by omega)) _).trans (by assumption) | exact (va_up_ne _ _ (by omega)).trans (va_up_self _ _ _) | exact (va_up_ne _ _ (by omega)).trans ((va_up_ne _ _ (by omega)).trans (by assumption)) | exact (congrArg Prod.fst ((va_up_ne _ _ (by omega)).trans (va_up_ne _ _ (by omega)))).trans (by assumption) | exact (congrFun ((va_up_ne _ _ (by omega)).trans (va_up_ne _ _ (by omega))) _).trans (by assumption) | (rw [va_up_self, va_up_ne _ _ (by omega)]; assumption)) (by omega) (by omega) (by omega) (by first | assumption | exact va_up_self _ _ _ | exact (va_up_ne _ _ (by omega)).trans (by assumption) | exact congrArg Prod.fst (va_up_self _ _ _) | exact (congrArg Prod.fst (va_up_ne _ _ (by omega))).trans (by assumption) | exact (congrFun (va_up_ne _ _ (by omega)) _).trans (by assumption) | exact (va_up_ne _ _ (by omega)).trans (va_up_self _ _ _) | exact (va_up_ne _ _ (by omega)).trans ((va_up_ne _ _ (by omega)).trans (by assumption)) | exact (congrArg Prod.fst ((va_up_ne _ _ (by omega)).trans (va_up_ne _ _ (by omega)))).trans (by assumption) | exact (congrFun ((va_up_ne _ _ (by omega)).trans (va_up_ne _ _ (by omega))) _).trans (by assumption) | (rw [va_up_self, va_up_ne _ _ (by omega)]; assumption)) ?_
    refine tk_getI dX10_sheet_78 fX10_158 rfl (by first | assumption | exact va_up_self _ _ _ | exact (va_up_ne _ _ (by omega)).trans (by assumption) | exact congrArg Prod.fst (va_up_self _ _ _) | exact (congrArg Prod.fst (va_up_ne _ _ (by omega))).trans (by assumption) | exact (congrFun (va_up_ne _ _ (by omega)) _).trans (by assumption) | exact (va_up_ne _ _ (by omega)).trans (va_up_self _ _ _) | exact (va_up_ne _ _ (by omega)).trans ((va_up_ne _ _ (by omega)).trans (by assumption)) | exact (congrArg Prod.fst ((va_up_ne _ _ (by omega)).trans (va_up_ne _ _ (by omega)))).trans (by assumption) | exact (congrFun ((va_up_ne _ _ (by omega)).trans (va_up_ne _ _ (by omega))) _).trans (by assumption) | (rw [va_up_self, va_up_ne _ _ (by omega)]; assumption)) ?_
    rw [va_up_ne _ _ (show ¬ 17 + 2 * s' = 18 + 2 * s' by omega), va_up_self, va_up_self]
    refine tk_ireturn dX10_sheet_81 rfl ?_
    refine cPst_g hc rfl (sheet_rel hR (show s' < 4 by omega) hb hl) ⟨Nat.le_refl _, fun a h1 h2 => ⟨rfl, ?_, rfl, rfl⟩⟩ ?_
    · rw [va_up_ne _ _ (by omega), va_up_ne _ _ (by omega)]
    · rw [hix]; exact jSm.rf
  refine tkM.of (ls := [some _, some _, some _, some _]) (by decide +kernel) (by decide +kernel) (Nat.le_of_ble_eq_true rfl) rfl ?_
  refine tk_iload1 dX10_sheet_0 ?_
  refine tk_callS1z dX10_sheet_1 kX10_150 (c_isSheet s) (Nat.le_of_ble_eq_true rfl) (by omega) ?_
  first | refine tk_jf_eqB dX10_sheet_4 (fun h4 => ?_) (fun h4 => ?_) | refine tk_if_eq dX10_sheet_4 (fun h4 => ?_) (fun h4 => ?_)
  · refine tk_aload0 dX10_sheet_29 ?_
    refine tk_ldc dX10_sheet_30 klX10_65 ?_
    refine tk_callV1z dX10_sheet_32 kX10_66 (by first | assumption | exact va_up_self _ _ _ | exact (va_up_ne _ _ (by omega)).trans (by assumption) | exact congrArg Prod.fst (va_up_self _ _ _) | exact (congrArg Prod.fst (va_up_ne _ _ (by omega))).trans (by assumption) | exact (congrFun (va_up_ne _ _ (by omega)) _).trans (by assumption) | exact (va_up_ne _ _ (by omega)).trans (va_up_self _ _ _) | exact (va_up_ne _ _ (by omega)).trans ((va_up_ne _ _ (by omega)).trans (by assumption)) | exact (congrArg Prod.fst ((va_up_ne _ _ (by omega)).trans (va_up_ne _ _ (by omega)))).trans (by assumption) | exact (congrFun ((va_up_ne _ _ (by omega)).trans (va_up_ne _ _ (by omega))) _).trans (by assumption) | (rw [va_up_self, va_up_ne _ _ (by omega)]; assumption)) (c_finding hk _) (Nat.le_of_ble_eq_true rfl) (by omega) ?_
    refine tk_ireturn dX10_sheet_35 rfl ?_
    exact cPst_f (by simp [rShC, *]) hR cKp.rf
  · refine tk_iload2 dX10_sheet_7 ?_
    first | refine tk_jf_eqB dX10_sheet_8 (fun h8 => ?_) (fun h8 => ?_) | refine tk_if_eq dX10_sheet_8 (fun h8 => ?_) (fun h8 => ?_)
    · refine tk_iload3 dX10_sheet_36 ?_
      refine tk_jf_ge dX10_sheet_37 (fun h37 => ?_) (fun h37 => ?_)
      · refine tk_iload3 dX10_sheet_48 ?_
        refine tk_bipush dX10_sheet_49 kc_bipush_14 ?_
        first | refine tk_icmp_leN dX10_sheet_51 (by omega) (by omega) (fun h51 => ?_) (fun h51 => ?_) | refine tk_jcmp_le dX10_sheet_51 (fun h51 => ?_) (fun h51 => ?_)
        · obtain ⟨s', hs', rfl⟩ := rIn_of h4 (by omega)
          refine tk_wk (by repeat' (first | exact trivial | refine ⟨Or.inl rfl, ?_⟩ | refine ⟨Or.inr rfl, ?_⟩)) (go s' hs' rfl (by first | exact Or.inl (h8.trans nI_0.symm) | exact Or.inr (Or.inl h14) | exact Or.inr (Or.inr (Or.inl h20)) | exact Or.inr (Or.inr (Or.inr h26))) ?_ ?_)
          · obtain ⟨l, hl, rfl⟩ := nI_of (x := x) (Int32.not_lt.mpr h37)
            exact ⟨l, (nI_leI hl (by omega)).mp h51, rfl⟩
          · have n1 : ¬ x < 0 := Int32.not_lt.mpr h37
            have n2 : ¬ nI 14 < x := Int32.not_lt.mpr h51
            simp [rShC, *]
        · refine tk_aload0 dX10_sheet_54 ?_
          refine tk_ldc dX10_sheet_55 klX10_65 ?_
          refine tk_callV1z dX10_sheet_57 kX10_66 (by first | assumption | exact va_up_self _ _ _ | exact (va_up_ne _ _ (by omega)).trans (by assumption) | exact congrArg Prod.fst (va_up_self _ _ _) | exact (congrArg Prod.fst (va_up_ne _ _ (by omega))).trans (by assumption) | exact (congrFun (va_up_ne _ _ (by omega)) _).trans (by assumption) | exact (va_up_ne _ _ (by omega)).trans (va_up_self _ _ _) | exact (va_up_ne _ _ (by omega)).trans ((va_up_ne _ _ (by omega)).trans (by assumption)) | exact (congrArg Prod.fst ((va_up_ne _ _ (by omega)).trans (va_up_ne _ _ (by omega)))).trans (by assumption) | exact (congrFun ((va_up_ne _ _ (by omega)).trans (va_up_ne _ _ (by omega))) _).trans (by assumption) | (rw [va_up_self, va_up_ne _ _ (by omega)]; assumption)) (c_finding hk _) (Nat.le_of_ble_eq_true rfl) (by omega) ?_
          refine tk_ireturn dX10_sheet_60 rfl ?_
          exact cPst_f (by simp [rShC, *]) hR cKp.rf
      · refine tk_aload0 dX10_sheet_40 ?_
        refine tk_ldcw dX10_sheet_41 klX10_350 ?_
        refine tk_callV1z dX10_sheet_44 kX10_66 (by first | assumption | exact va_up_self _ _ _ | exact (va_up_ne _ _ (by omega)).trans (by assumption) | exact congrArg Prod.fst (va_up_self _ _ _) | exact (congrArg Prod.fst (va_up_ne _ _ (by omega))).trans (by assumption) | exact (congrFun (va_up_ne _ _ (by omega)) _).trans (by assumption) | exact (va_up_ne _ _ (by omega)).trans (va_up_self _ _ _) | exact (va_up_ne _ _ (by omega)).trans ((va_up_ne _ _ (by omega)).trans (by assumption)) | exact (congrArg Prod.fst ((va_up_ne _ _ (by omega)).trans (va_up_ne _ _ (by omega)))).trans (by assumption) | exact (congrFun ((va_up_ne _ _ (by omega)).trans (va_up_ne _ _ (by omega))) _).trans (by assumption) | (rw [va_up_self, va_up_ne _ _ (by omega)]; assumption)) (c_finding hk _) (Nat.le_of_ble_eq_true rfl) (by omega) ?_
        refine tk_ireturn dX10_sheet_47 rfl ?_
        exact cPst_f (by simp [rShC, *]) hR cKp.rf
    · refine tk_iload2 dX10_sheet_11 ?_
      refine tk_bipush dX10_sheet_12 kc_bipush_8 ?_
      first | refine tk_icmp_eqN dX10_sheet_14 (by omega) (by omega) (fun h14 => ?_) (fun h14 => ?_) | refine tk_icmp_eq dX10_sheet_14 (fun h14 => ?_) (fun h14 => ?_)
      · refine tk_iload3 dX10_sheet_36 ?_
        refine tk_jf_ge dX10_sheet_37 (fun h37 => ?_) (fun h37 => ?_)
        · refine tk_iload3 dX10_sheet_48 ?_
          refine tk_bipush dX10_sheet_49 kc_bipush_14 ?_
          first | refine tk_icmp_leN dX10_sheet_51 (by omega) (by omega) (fun h51 => ?_) (fun h51 => ?_) | refine tk_jcmp_le dX10_sheet_51 (fun h51 => ?_) (fun h51 => ?_)
          · obtain ⟨s', hs', rfl⟩ := rIn_of h4 (by omega)
            refine tk_wk (by repeat' (first | exact trivial | refine ⟨Or.inl rfl, ?_⟩ | refine ⟨Or.inr rfl, ?_⟩)) (go s' hs' rfl (by first | exact Or.inl (h8.trans nI_0.symm) | exact Or.inr (Or.inl h14) | exact Or.inr (Or.inr (Or.inl h20)) | exact Or.inr (Or.inr (Or.inr h26))) ?_ ?_)
            · obtain ⟨l, hl, rfl⟩ := nI_of (x := x) (Int32.not_lt.mpr h37)
              exact ⟨l, (nI_leI hl (by omega)).mp h51, rfl⟩
            · have n1 : ¬ x < 0 := Int32.not_lt.mpr h37
              have n2 : ¬ nI 14 < x := Int32.not_lt.mpr h51
              simp [rShC, *]
          · refine tk_aload0 dX10_sheet_54 ?_
            refine tk_ldc dX10_sheet_55 klX10_65 ?_
            refine tk_callV1z dX10_sheet_57 kX10_66 (by first | assumption | exact va_up_self _ _ _ | exact (va_up_ne _ _ (by omega)).trans (by assumption) | exact congrArg Prod.fst (va_up_self _ _ _) | exact (congrArg Prod.fst (va_up_ne _ _ (by omega))).trans (by assumption) | exact (congrFun (va_up_ne _ _ (by omega)) _).trans (by assumption) | exact (va_up_ne _ _ (by omega)).trans (va_up_self _ _ _) | exact (va_up_ne _ _ (by omega)).trans ((va_up_ne _ _ (by omega)).trans (by assumption)) | exact (congrArg Prod.fst ((va_up_ne _ _ (by omega)).trans (va_up_ne _ _ (by omega)))).trans (by assumption) | exact (congrFun ((va_up_ne _ _ (by omega)).trans (va_up_ne _ _ (by omega))) _).trans (by assumption) | (rw [va_up_self, va_up_ne _ _ (by omega)]; assumption)) (c_finding hk _) (Nat.le_of_ble_eq_true rfl) (by omega) ?_
            refine tk_ireturn dX10_sheet_60 rfl ?_
            exact cPst_f (by simp [rShC, *]) hR cKp.rf
        · refine tk_aload0 dX10_sheet_40 ?_
          refine tk_ldcw dX10_sheet_41 klX10_350 ?_
          refine tk_callV1z dX10_sheet_44 kX10_66 (by first | assumption | exact va_up_self _ _ _ | exact (va_up_ne _ _ (by omega)).trans (by assumption) | exact congrArg Prod.fst (va_up_self _ _ _) | exact (congrArg Prod.fst (va_up_ne _ _ (by omega))).trans (by assumption) | exact (congrFun (va_up_ne _ _ (by omega)) _).trans (by assumption) | exact (va_up_ne _ _ (by omega)).trans (va_up_self _ _ _) | exact (va_up_ne _ _ (by omega)).trans ((va_up_ne _ _ (by omega)).trans (by assumption)) | exact (congrArg Prod.fst ((va_up_ne _ _ (by omega)).trans (va_up_ne _ _ (by omega)))).trans (by assumption) | exact (congrFun ((va_up_ne _ _ (by omega)).trans (va_up_ne _ _ (by omega))) _).trans (by assumption) | (rw [va_up_self, va_up_ne _ _ (by omega)]; assumption)) (c_finding hk _) (Nat.le_of_ble_eq_true rfl) (by omega) ?_
          refine tk_ireturn dX10_sheet_47 rfl ?_
          exact cPst_f (by simp [rShC, *]) hR cKp.rf
      · refine tk_iload2 dX10_sheet_17 ?_
        refine tk_bipush dX10_sheet_18 kc_bipush_16 ?_
        first | refine tk_icmp_eqN dX10_sheet_20 (by omega) (by omega) (fun h20 => ?_) (fun h20 => ?_) | refine tk_icmp_eq dX10_sheet_20 (fun h20 => ?_) (fun h20 => ?_)
        · refine tk_iload3 dX10_sheet_36 ?_
          refine tk_jf_ge dX10_sheet_37 (fun h37 => ?_) (fun h37 => ?_)
          · refine tk_iload3 dX10_sheet_48 ?_
            refine tk_bipush dX10_sheet_49 kc_bipush_14 ?_
            first | refine tk_icmp_leN dX10_sheet_51 (by omega) (by omega) (fun h51 => ?_) (fun h51 => ?_) | refine tk_jcmp_le dX10_sheet_51 (fun h51 => ?_) (fun h51 => ?_)
            · obtain ⟨s', hs', rfl⟩ := rIn_of h4 (by omega)
              refine tk_wk (by repeat' (first | exact trivial | refine ⟨Or.inl rfl, ?_⟩ | refine ⟨Or.inr rfl, ?_⟩)) (go s' hs' rfl (by first | exact Or.inl (h8.trans nI_0.symm) | exact Or.inr (Or.inl h14) | exact Or.inr (Or.inr (Or.inl h20)) | exact Or.inr (Or.inr (Or.inr h26))) ?_ ?_)
              · obtain ⟨l, hl, rfl⟩ := nI_of (x := x) (Int32.not_lt.mpr h37)
                exact ⟨l, (nI_leI hl (by omega)).mp h51, rfl⟩
              · have n1 : ¬ x < 0 := Int32.not_lt.mpr h37
                have n2 : ¬ nI 14 < x := Int32.not_lt.mpr h51
                simp [rShC, *]
            · refine tk_aload0 dX10_sheet_54 ?_
              refine tk_ldc dX10_sheet_55 klX10_65 ?_
              refine tk_callV1z dX10_sheet_57 kX10_66 (by first | assumption | exact va_up_self _ _ _ | exact (va_up_ne _ _ (by omega)).trans (by assumption) | exact congrArg Prod.fst (va_up_self _ _ _) | exact (congrArg Prod.fst (va_up_ne _ _ (by omega))).trans (by assumption) | exact (congrFun (va_up_ne _ _ (by omega)) _).trans (by assumption) | exact (va_up_ne _ _ (by omega)).trans (va_up_self _ _ _) | exact (va_up_ne _ _ (by omega)).trans ((va_up_ne _ _ (by omega)).trans (by assumption)) | exact (congrArg Prod.fst ((va_up_ne _ _ (by omega)).trans (va_up_ne _ _ (by omega)))).trans (by assumption) | exact (congrFun ((va_up_ne _ _ (by omega)).trans (va_up_ne _ _ (by omega))) _).trans (by assumption) | (rw [va_up_self, va_up_ne _ _ (by omega)]; assumption)) (c_finding hk _) (Nat.le_of_ble_eq_true rfl) (by omega) ?_
              refine tk_ireturn dX10_sheet_60 rfl ?_
              exact cPst_f (by simp [rShC, *]) hR cKp.rf
          · refine tk_aload0 dX10_sheet_40 ?_
            refine tk_ldcw dX10_sheet_41 klX10_350 ?_
            refine tk_callV1z dX10_sheet_44 kX10_66 (by first | assumption | exact va_up_self _ _ _ | exact (va_up_ne _ _ (by omega)).trans (by assumption) | exact congrArg Prod.fst (va_up_self _ _ _) | exact (congrArg Prod.fst (va_up_ne _ _ (by omega))).trans (by assumption) | exact (congrFun (va_up_ne _ _ (by omega)) _).trans (by assumption) | exact (va_up_ne _ _ (by omega)).trans (va_up_self _ _ _) | exact (va_up_ne _ _ (by omega)).trans ((va_up_ne _ _ (by omega)).trans (by assumption)) | exact (congrArg Prod.fst ((va_up_ne _ _ (by omega)).trans (va_up_ne _ _ (by omega)))).trans (by assumption) | exact (congrFun ((va_up_ne _ _ (by omega)).trans (va_up_ne _ _ (by omega))) _).trans (by assumption) | (rw [va_up_self, va_up_ne _ _ (by omega)]; assumption)) (c_finding hk _) (Nat.le_of_ble_eq_true rfl) (by omega) ?_
            refine tk_ireturn dX10_sheet_47 rfl ?_
            exact cPst_f (by simp [rShC, *]) hR cKp.rf
        · refine tk_iload2 dX10_sheet_23 ?_
          refine tk_bipush dX10_sheet_24 kc_bipush_32 ?_
          first | refine tk_icmp_eqN dX10_sheet_26 (by omega) (by omega) (fun h26 => ?_) (fun h26 => ?_) | refine tk_icmp_eq dX10_sheet_26 (fun h26 => ?_) (fun h26 => ?_)
          · refine tk_iload3 dX10_sheet_36 ?_
            refine tk_jf_ge dX10_sheet_37 (fun h37 => ?_) (fun h37 => ?_)
            · refine tk_iload3 dX10_sheet_48 ?_
              refine tk_bipush dX10_sheet_49 kc_bipush_14 ?_
              first | refine tk_icmp_leN dX10_sheet_51 (by omega) (by omega) (fun h51 => ?_) (fun h51 => ?_) | refine tk_jcmp_le dX10_sheet_51 (fun h51 => ?_) (fun h51 => ?_)
              · obtain ⟨s', hs', rfl⟩ := rIn_of h4 (by omega)
                refine tk_wk (by repeat' (first | exact trivial | refine ⟨Or.inl rfl, ?_⟩ | refine ⟨Or.inr rfl, ?_⟩)) (go s' hs' rfl (by first | exact Or.inl (h8.trans nI_0.symm) | exact Or.inr (Or.inl h14) | exact Or.inr (Or.inr (Or.inl h20)) | exact Or.inr (Or.inr (Or.inr h26))) ?_ ?_)
                · obtain ⟨l, hl, rfl⟩ := nI_of (x := x) (Int32.not_lt.mpr h37)
                  exact ⟨l, (nI_leI hl (by omega)).mp h51, rfl⟩
                · have n1 : ¬ x < 0 := Int32.not_lt.mpr h37
                  have n2 : ¬ nI 14 < x := Int32.not_lt.mpr h51
                  simp [rShC, *]
              · refine tk_aload0 dX10_sheet_54 ?_
                refine tk_ldc dX10_sheet_55 klX10_65 ?_
                refine tk_callV1z dX10_sheet_57 kX10_66 (by first | assumption | exact va_up_self _ _ _ | exact (va_up_ne _ _ (by omega)).trans (by assumption) | exact congrArg Prod.fst (va_up_self _ _ _) | exact (congrArg Prod.fst (va_up_ne _ _ (by omega))).trans (by assumption) | exact (congrFun (va_up_ne _ _ (by omega)) _).trans (by assumption) | exact (va_up_ne _ _ (by omega)).trans (va_up_self _ _ _) | exact (va_up_ne _ _ (by omega)).trans ((va_up_ne _ _ (by omega)).trans (by assumption)) | exact (congrArg Prod.fst ((va_up_ne _ _ (by omega)).trans (va_up_ne _ _ (by omega)))).trans (by assumption) | exact (congrFun ((va_up_ne _ _ (by omega)).trans (va_up_ne _ _ (by omega))) _).trans (by assumption) | (rw [va_up_self, va_up_ne _ _ (by omega)]; assumption)) (c_finding hk _) (Nat.le_of_ble_eq_true rfl) (by omega) ?_
                refine tk_ireturn dX10_sheet_60 rfl ?_
                exact cPst_f (by simp [rShC, *]) hR cKp.rf
            · refine tk_aload0 dX10_sheet_40 ?_
              refine tk_ldcw dX10_sheet_41 klX10_350 ?_
              refine tk_callV1z dX10_sheet_44 kX10_66 (by first | assumption | exact va_up_self _ _ _ | exact (va_up_ne _ _ (by omega)).trans (by assumption) | exact congrArg Prod.fst (va_up_self _ _ _) | exact (congrArg Prod.fst (va_up_ne _ _ (by omega))).trans (by assumption) | exact (congrFun (va_up_ne _ _ (by omega)) _).trans (by assumption) | exact (va_up_ne _ _ (by omega)).trans (va_up_self _ _ _) | exact (va_up_ne _ _ (by omega)).trans ((va_up_ne _ _ (by omega)).trans (by assumption)) | exact (congrArg Prod.fst ((va_up_ne _ _ (by omega)).trans (va_up_ne _ _ (by omega)))).trans (by assumption) | exact (congrFun ((va_up_ne _ _ (by omega)).trans (va_up_ne _ _ (by omega))) _).trans (by assumption) | (rw [va_up_self, va_up_ne _ _ (by omega)]; assumption)) (c_finding hk _) (Nat.le_of_ble_eq_true rfl) (by omega) ?_
              refine tk_ireturn dX10_sheet_47 rfl ?_
              exact cPst_f (by simp [rShC, *]) hR cKp.rf
          · refine tk_aload0 dX10_sheet_29 ?_
            refine tk_ldc dX10_sheet_30 klX10_65 ?_
            refine tk_callV1z dX10_sheet_32 kX10_66 (by first | assumption | exact va_up_self _ _ _ | exact (va_up_ne _ _ (by omega)).trans (by assumption) | exact congrArg Prod.fst (va_up_self _ _ _) | exact (congrArg Prod.fst (va_up_ne _ _ (by omega))).trans (by assumption) | exact (congrFun (va_up_ne _ _ (by omega)) _).trans (by assumption) | exact (va_up_ne _ _ (by omega)).trans (va_up_self _ _ _) | exact (va_up_ne _ _ (by omega)).trans ((va_up_ne _ _ (by omega)).trans (by assumption)) | exact (congrArg Prod.fst ((va_up_ne _ _ (by omega)).trans (va_up_ne _ _ (by omega)))).trans (by assumption) | exact (congrFun ((va_up_ne _ _ (by omega)).trans (va_up_ne _ _ (by omega))) _).trans (by assumption) | (rw [va_up_self, va_up_ne _ _ (by omega)]; assumption)) (c_finding hk _) (Nat.le_of_ble_eq_true rfl) (by omega) ?_
            refine tk_ireturn dX10_sheet_35 rfl ?_
            exact cPst_f (by simp [rShC, *]) hR cKp.rf
end SHEETS2
