/-! ===== the class: see, openly, cry ===== -/
/-- what the reference may lay where worlds go and a person's cells are parted -/
def mR (J : Nat → Nat → Int32) (np W r : Nat) (M : Int64) (a : Int32) (S : Int64) (W' r' : Nat) (f' c' : Nat → Int32) : Prop := ∃ (ff : Nat → Int32) (cc : Nat → Nat → Nat), MADE np W (J 42) (pB (J 43) W) M a S cc ff ∧ LAID (cnt M W) (cnt M r) np cc ff W' r' f' c'
def lPst (n : Nat) (T : Nat → Nat × Nat) (I : Nat → Nat → Int32) (L : Nat → Nat → Int64) (P : Nat → Nat → Option Nat) (J : Nat → Nat → Int32) (m : Nat) (c : Option Int32) (R : Nat → Nat → (Nat → Int32) → (Nat → Int32) → Prop) : Option tkV → tkH → Prop := fun rv h => ∃ n' T' I' L' P' x, rv = some (vI x) ∧ h = (n', T', I', L', P') ∧ cKp n T I L P n' T' I' L' P' ∧ (match c with
  | some f => x = f ∧ cRel n' T' I' L' P' (rFnd J)
  | none => ∀ W' r' f' c', R W' r' f' c' → x = nI W' ∧ ∀ J', bJ J (rLay J (nI W') (nI r') f' c') J' m → cRel n' T' I' L' P' J')
section OPEN
variable {G : tkG} {n : Nat} {T : Nat → Nat × Nat} {I J : Nat → Nat → Int32} {L : Nat → Nat → Int64} {P : Nat → Nat → Option Nat} {tw np nf W r cn : Nat} {cl : Nat → Nat} {pn : Nat} {pl pg : Nat → Nat} {mn : Nat} {mW mr mc : Nat → Nat} {ml : Nat → Nat → Nat}
theorem lPst_f {n' : Nat} {T' : Nat → Nat × Nat} {I' : Nat → Nat → Int32} {L' : Nat → Nat → Int64} {P' : Nat → Nat → Option Nat} {c : Option Int32} {f : Int32} {m : Nat} {R : Nat → Nat → (Nat → Int32) → (Nat → Int32) → Prop} (h : c = some f) (hR : cRel n' T' I' L' P' J) (hk : cKp n T I L P n' T' I' L' P') : lPst n T I L P J m c R (some (vI f)) (n', T', va_up I' 0 (va_up (I' 0) 4 (I' 0 4 + nI 1)), L', P') := by
  subst h
  exact ⟨n', T', _, L', P', f, rfl, rfl, hk.tr cKp.z, rfl, hR.fnd⟩
theorem lPst_g {n1 : Nat} {T1 : Nat → Nat × Nat} {I1 : Nat → Nat → Int32} {L1 : Nat → Nat → Int64} {P1 : Nat → Nat → Option Nat} {c : Option Int32} {m : Nat} {R : Nat → Nat → (Nat → Int32) → (Nat → Int32) → Prop} {rv : Option tkV} {h : tkH} (hc : c = none) (hk : cKp n T I L P n1 T1 I1 L1 P1) (hq : lPst n1 T1 I1 L1 P1 J m none R rv h) : lPst n T I L P J m c R rv h := by
  subst hc
  obtain ⟨n', T', I', L', P', x, h0, h1, h2, h3⟩ := hq
  exact ⟨n', T', I', L', P', x, h0, h1, hk.tr h2, h3⟩
theorem lPst_r {c : Option Int32} {m : Nat} {R R2 : Nat → Nat → (Nat → Int32) → (Nat → Int32) → Prop} {rv : Option tkV} {h : tkH} (hr : ∀ W' r' f' c', R2 W' r' f' c' → R W' r' f' c') (hq : lPst n T I L P J m c R rv h) : lPst n T I L P J m c R2 rv h := by
  obtain ⟨n', T', I', L', P', x, h0, h1, h2, h3⟩ := hq
  refine ⟨n', T', I', L', P', x, h0, h1, h2, ?_⟩
  cases c with
  | some f => exact h3
  | none => exact fun W' r' f' c' h4 => h3 W' r' f' c' (hr W' r' f' c' h4)
/-- the class's parting is the reference's -/
def mS (np W : Nat) (M : Int64) (a : Int32) (Sr : Int64) (q : Nat) (Sc : Int64) : Prop := ∀ p, p < np → ∀ u, u < W → ∀ w, w < W → tb M u = true → tb M w = true → ((nI p = a → (tb Sr u = true ↔ tb Sr w = true)) ↔ (p = q → (tb Sc u = true ↔ tb Sc w = true)))
theorem mS_same {M S : Int64} {q : Nat} (hnp : np ≤ 4) (hq : q < np) : mS np W M (nI q) S q S := by
  intro p hp u hu w hw _ _
  rw [nI_eq (by omega) (by omega)]
theorem k_cutTo (hN : cNow n T I L P J tw np nf W r cn cl pn pl pg mn mW mr mc ml) {m : Nat} (hm : m ≤ 12) (hm0 : J 40 20 = nI m) {M S Sr : Int64} {q : Nat} {a : Int32} (hq : q < np) (hMr : tb M r = true) (hs : mS np W M a Sr q S) : tkM G mX10_cutTo 6 5 275 [vR 0, vL M, vI (nI q), vL S] (n, T, I, L, P) (lPst n T I L P J m none (mR J np W r M a Sr)) := by
  have hN' := hN
  obtain ⟨hR, hk, ⟨hTH, hPH, hMH, hGW, hob⟩, ftw, pic, sta, oa, se, pa, ma, ht, hpc, hst, hoa, hse, hpa, hma⟩ := hN
  have hn := hR.1
  have hsc := hR.2.1
  have hk' := hk
  obtain ⟨k0, k1, k2, k3, k4, k5, k6⟩ := hk'
  have ht' := ht
  obtain ⟨u0, u1, u2, u3, u4, u5, u6⟩ := ht'
  have hpc' := hpc
  obtain ⟨fpi, tpi, wa, ca, ga, p1, p2, p3, hw, fca, hca, hcl, fga, hga, hgr⟩ := hpc'
  have hp : pObj T P pic wa ca ga := ⟨tpi, p1, p2, p3⟩
  have hTH' := hTH
  obtain ⟨h41, np1, np4, h411, nf1, nf4, h412, W1, W64, h413, rW, h414, cn5, hcW, hsW⟩ := hTH'
  have hcW := cnt_le M W
  have hcr := cnt_lt_of rW hMr
  have d1 := hsc.2.2.1.1
  refine tkM.of (ls := [some _, some _, none, some _, some _, none]) (by decide +kernel) (by decide +kernel) (Nat.le_of_ble_eq_true rfl) rfl ?_
  refine tk_aload0 dX10_cutTo_0 ?_
  refine tk_getP dX10_cutTo_1 fX10_50 rfl (by first | assumption | exact va_up_self _ _ _ | exact (va_up_ne _ _ (by omega)).trans (by assumption) | exact congrArg Prod.fst (va_up_self _ _ _) | exact (congrArg Prod.fst (va_up_ne _ _ (by omega))).trans (by assumption) | exact (congrFun (va_up_ne _ _ (by omega)) _).trans (by assumption) | exact (va_up_ne _ _ (by omega)).trans (va_up_self _ _ _) | exact (va_up_ne _ _ (by omega)).trans ((va_up_ne _ _ (by omega)).trans (by assumption)) | exact (congrArg Prod.fst ((va_up_ne _ _ (by omega)).trans (va_up_ne _ _ (by omega)))).trans (by assumption) | exact (congrFun ((va_up_ne _ _ (by omega)).trans (va_up_ne _ _ (by omega))) _).trans (by assumption) | (rw [va_up_self, va_up_ne _ _ (by omega)]; assumption)) (by first | assumption | exact va_up_self _ _ _ | exact (va_up_ne _ _ (by omega)).trans (by assumption) | exact congrArg Prod.fst (va_up_self _ _ _) | exact (congrArg Prod.fst (va_up_ne _ _ (by omega))).trans (by assumption) | exact (congrFun (va_up_ne _ _ (by omega)) _).trans (by assumption) | exact (va_up_ne _ _ (by omega)).trans (va_up_self _ _ _) | exact (va_up_ne _ _ (by omega)).trans ((va_up_ne _ _ (by omega)).trans (by assumption)) | exact (congrArg Prod.fst ((va_up_ne _ _ (by omega)).trans (va_up_ne _ _ (by omega)))).trans (by assumption) | exact (congrFun ((va_up_ne _ _ (by omega)).trans (va_up_ne _ _ (by omega))) _).trans (by assumption) | (rw [va_up_self, va_up_ne _ _ (by omega)]; assumption)) ?_
  refine tk_aload0 dX10_cutTo_4 ?_
  refine tk_callV0z dX10_cutTo_5 kX10_84 (by first | assumption | exact va_up_self _ _ _ | exact (va_up_ne _ _ (by omega)).trans (by assumption) | exact congrArg Prod.fst (va_up_self _ _ _) | exact (congrArg Prod.fst (va_up_ne _ _ (by omega))).trans (by assumption) | exact (congrFun (va_up_ne _ _ (by omega)) _).trans (by assumption) | exact (va_up_ne _ _ (by omega)).trans (va_up_self _ _ _) | exact (va_up_ne _ _ (by omega)).trans ((va_up_ne _ _ (by omega)).trans (by assumption)) | exact (congrArg Prod.fst ((va_up_ne _ _ (by omega)).trans (va_up_ne _ _ (by omega)))).trans (by assumption) | exact (congrFun ((va_up_ne _ _ (by omega)).trans (va_up_ne _ _ (by omega))) _).trans (by assumption) | (rw [va_up_self, va_up_ne _ _ (by omega)]; assumption)) (c_worlds hk ht hp) (Nat.le_of_ble_eq_true rfl) (by omega) ?_
  refine tk_lload1 dX10_cutTo_8 ?_
  refine tk_iload3 dX10_cutTo_9 ?_
  refine tk_lload4 dX10_cutTo_10 ?_
  refine tk_callV4q dX10_cutTo_12 kX10_382 (by first | assumption | exact va_up_self _ _ _ | exact (va_up_ne _ _ (by omega)).trans (by assumption) | exact congrArg Prod.fst (va_up_self _ _ _) | exact (congrArg Prod.fst (va_up_ne _ _ (by omega))).trans (by assumption) | exact (congrFun (va_up_ne _ _ (by omega)) _).trans (by assumption) | exact (va_up_ne _ _ (by omega)).trans (va_up_self _ _ _) | exact (va_up_ne _ _ (by omega)).trans ((va_up_ne _ _ (by omega)).trans (by assumption)) | exact (congrArg Prod.fst ((va_up_ne _ _ (by omega)).trans (va_up_ne _ _ (by omega)))).trans (by assumption) | exact (congrFun ((va_up_ne _ _ (by omega)).trans (va_up_ne _ _ (by omega))) _).trans (by assumption) | (rw [va_up_self, va_up_ne _ _ (by omega)]; assumption)) (c_layParting (M := M) (S := S) hsc.2.2.1 hw W64 np4 nf4 hq rW hGW.2.2.1) (Nat.le_of_ble_eq_true rfl) (by omega) ?_
  rintro rr hh1 ⟨I1, rfl, rfl, dp⟩
  dsimp only [Option.toList, List.nil_append]
  have dp' := dp
  obtain ⟨d2, d3, d4, d5, d6, -⟩ := dp'
  obtain ⟨d7, d8⟩ := dp.fin
  refine tk_aload0 dX10_cutTo_15 ?_
  refine tk_getP dX10_cutTo_16 fX10_50 rfl (by first | assumption | exact va_up_self _ _ _ | exact (va_up_ne _ _ (by omega)).trans (by assumption) | exact congrArg Prod.fst (va_up_self _ _ _) | exact (congrArg Prod.fst (va_up_ne _ _ (by omega))).trans (by assumption) | exact (congrFun (va_up_ne _ _ (by omega)) _).trans (by assumption) | exact (va_up_ne _ _ (by omega)).trans (va_up_self _ _ _) | exact (va_up_ne _ _ (by omega)).trans ((va_up_ne _ _ (by omega)).trans (by assumption)) | exact (congrArg Prod.fst ((va_up_ne _ _ (by omega)).trans (va_up_ne _ _ (by omega)))).trans (by assumption) | exact (congrFun ((va_up_ne _ _ (by omega)).trans (va_up_ne _ _ (by omega))) _).trans (by assumption) | (rw [va_up_self, va_up_ne _ _ (by omega)]; assumption)) (by first | assumption | exact va_up_self _ _ _ | exact (va_up_ne _ _ (by omega)).trans (by assumption) | exact congrArg Prod.fst (va_up_self _ _ _) | exact (congrArg Prod.fst (va_up_ne _ _ (by omega))).trans (by assumption) | exact (congrFun (va_up_ne _ _ (by omega)) _).trans (by assumption) | exact (va_up_ne _ _ (by omega)).trans (va_up_self _ _ _) | exact (va_up_ne _ _ (by omega)).trans ((va_up_ne _ _ (by omega)).trans (by assumption)) | exact (congrArg Prod.fst ((va_up_ne _ _ (by omega)).trans (va_up_ne _ _ (by omega)))).trans (by assumption) | exact (congrFun ((va_up_ne _ _ (by omega)).trans (va_up_ne _ _ (by omega))) _).trans (by assumption) | (rw [va_up_self, va_up_ne _ _ (by omega)]; assumption)) ?_
  refine tk_callV0q dX10_cutTo_19 kX10_231 (by first | assumption | exact va_up_self _ _ _ | exact (va_up_ne _ _ (by omega)).trans (by assumption) | exact congrArg Prod.fst (va_up_self _ _ _) | exact (congrArg Prod.fst (va_up_ne _ _ (by omega))).trans (by assumption) | exact (congrFun (va_up_ne _ _ (by omega)) _).trans (by assumption) | exact (va_up_ne _ _ (by omega)).trans (va_up_self _ _ _) | exact (va_up_ne _ _ (by omega)).trans ((va_up_ne _ _ (by omega)).trans (by assumption)) | exact (congrArg Prod.fst ((va_up_ne _ _ (by omega)).trans (va_up_ne _ _ (by omega)))).trans (by assumption) | exact (congrFun ((va_up_ne _ _ (by omega)).trans (va_up_ne _ _ (by omega))) _).trans (by assumption) | (rw [va_up_self, va_up_ne _ _ (by omega)]; assumption)) (c_cut (N := cnt M W) (r0 := cnt M r) (c := pLb (J 43) W M q S) hsc.2.2.1 d3 np4 d5 (by omega) (d6 rW hMr) hcr (fun p hp w hw => ⟨d8 p hp w hw, pLb_lt W64 hw⟩)) (Nat.le_of_ble_eq_true rfl) (by omega) ?_
  rintro rr hh1 ⟨I2, L2, R, kd, rfl, rfl, cu, ld⟩
  dsimp only [Option.toList, List.singleton_append]
  have cu10 := cu.2.2.2.2.2.2.2.2.2
  have e12 : ∀ a, a < 28 ∨ 34 ≤ a → I2 a = I a := fun a ha => (cu10 a ha).trans (d2 a (by omega) (by omega) (by omega))
  have st2 : cSt n T I L P n T I2 L2 P := ⟨Nat.le_refl _, fun a h1 h2 => ⟨rfl, e12 a (by omega), ld a (by omega) (by omega), rfl⟩, by
    obtain ⟨s1, s2, s3, s4, s5, s6, s7⟩ := hsc
    exact ⟨s1, s2, s3, s4, s5, fun q hq => by rw [e12 26 (by omega)]; exact s6 q hq, fun q hq => by rw [e12 38 (by omega)]; exact s7 q hq⟩⟩
  have hle1 := cntR_le (reps RT kd) (cntR R (cnt M W))
  have hle2 := cntR_le R (cnt M W)
  refine tk_pop dX10_cutTo_22 rfl ?_
  refine tk_aload0 dX10_cutTo_23 ?_
  refine tk_callV0s dX10_cutTo_24 kX10_235 (by first | assumption | exact va_up_self _ _ _ | exact (va_up_ne _ _ (by omega)).trans (by assumption) | exact congrArg Prod.fst (va_up_self _ _ _) | exact (congrArg Prod.fst (va_up_ne _ _ (by omega))).trans (by assumption) | exact (congrFun (va_up_ne _ _ (by omega)) _).trans (by assumption) | exact (va_up_ne _ _ (by omega)).trans (va_up_self _ _ _) | exact (va_up_ne _ _ (by omega)).trans ((va_up_ne _ _ (by omega)).trans (by assumption)) | exact (congrArg Prod.fst ((va_up_ne _ _ (by omega)).trans (va_up_ne _ _ (by omega)))).trans (by assumption) | exact (congrFun ((va_up_ne _ _ (by omega)).trans (va_up_ne _ _ (by omega))) _).trans (by assumption) | (rw [va_up_self, va_up_ne _ _ (by omega)]; assumption)) (k_becomeDraft (hN'.st st2) hm hm0 cu (cu.2.2.1.trans d4) (by omega) hcr (fun p hp w hw => pLb_lt W64 hw) (fun w hw => by rw [d7 w hw]; exact hGW.2.2.1 _ (selM_of hw).1) (by omega)) (Nat.le_of_ble_eq_true rfl) (by omega) (by omega) (by omega) ?_
  rintro rr hh1 ⟨n3, T3, I3, L3, P3, x3, rfl, rfl, kp3, all3⟩
  dsimp only [Option.toList, List.singleton_append]
  refine tk_ireturn dX10_cutTo_27 rfl ?_
  refine ⟨n3, T3, I3, L3, P3, x3, rfl, rfl, (st2.kp hn).tr kp3, ?_⟩
  rintro W' r' f' c' ⟨ff, cc, hM, hL⟩
  exact all3 cc ff W' r' f' c' (part_cc W64 hM hs) (fun w hw => (MADE.fcs hM w hw).trans (d7 w hw).symm) hL
theorem k_see (hN : cNow n T I L P J tw np nf W r cn cl pn pl pg mn mW mr mc ml) {m : Nat} (hm : m ≤ 12) (hm0 : J 40 20 = nI m) (p f : Int32) : tkM G mX10_see 7 5 275 [vR 0, vI p, vI f] (n, T, I, L, P) (lPst n T I L P J m (rSeC J p f) (mR J np W r (evr W) p (rSF (J 42) W (ix f)))) := by
  have hN' := hN
  obtain ⟨hR, hk, ⟨hTH, hPH, hMH, hGW, hob⟩, ftw, pic, sta, oa, se, pa, ma, ht, hpc, hst, hoa, hse, hpa, hma⟩ := hN
  have hn := hR.1
  have hsc := hR.2.1
  have hk' := hk
  obtain ⟨k0, k1, k2, k3, k4, k5, k6⟩ := hk'
  have ht' := ht
  obtain ⟨u0, u1, u2, u3, u4, u5, u6⟩ := ht'
  have hpc' := hpc
  obtain ⟨fpi, tpi, wa, ca, ga, p1, p2, p3, hw, fca, hca, hcl, fga, hga, hgr⟩ := hpc'
  have hp : pObj T P pic wa ca ga := ⟨tpi, p1, p2, p3⟩
  have hTH' := hTH
  obtain ⟨h41, np1, np4, h411, nf1, nf4, h412, W1, W64, h413, rW, h414, cn5, hcW, hsW⟩ := hTH'
  have hw' := hw
  obtain ⟨w1, w2, w3, w4, w5, w6, wb, wc, fwb, fwc, pwb, pwc, twb, twc, hso, hce⟩ := hw'
  refine tkM.of (ls := [some _, some _, some _]) (by decide +kernel) (by decide +kernel) (Nat.le_of_ble_eq_true rfl) rfl ?_
  refine tk_aload0 dX10_see_0 ?_
  refine tk_iload1 dX10_see_1 ?_
  refine tk_callV1z dX10_see_2 kX10_91 (by first | assumption | exact va_up_self _ _ _ | exact (va_up_ne _ _ (by omega)).trans (by assumption) | exact congrArg Prod.fst (va_up_self _ _ _) | exact (congrArg Prod.fst (va_up_ne _ _ (by omega))).trans (by assumption) | exact (congrFun (va_up_ne _ _ (by omega)) _).trans (by assumption) | exact (va_up_ne _ _ (by omega)).trans (va_up_self _ _ _) | exact (va_up_ne _ _ (by omega)).trans ((va_up_ne _ _ (by omega)).trans (by assumption)) | exact (congrArg Prod.fst ((va_up_ne _ _ (by omega)).trans (va_up_ne _ _ (by omega)))).trans (by assumption) | exact (congrFun ((va_up_ne _ _ (by omega)).trans (va_up_ne _ _ (by omega))) _).trans (by assumption) | (rw [va_up_self, va_up_ne _ _ (by omega)]; assumption)) (k_isPerson hN' p) (Nat.le_of_ble_eq_true rfl) (by omega) ?_
  first | refine tk_jf_eqB dX10_see_5 (fun h5 => ?_) (fun h5 => ?_) | refine tk_if_eq dX10_see_5 (fun h5 => ?_) (fun h5 => ?_)
  · refine tk_aload0 dX10_see_16 ?_
    refine tk_ldc dX10_see_17 klX10_65 ?_
    refine tk_callV1z dX10_see_19 kX10_66 (by first | assumption | exact va_up_self _ _ _ | exact (va_up_ne _ _ (by omega)).trans (by assumption) | exact congrArg Prod.fst (va_up_self _ _ _) | exact (congrArg Prod.fst (va_up_ne _ _ (by omega))).trans (by assumption) | exact (congrFun (va_up_ne _ _ (by omega)) _).trans (by assumption) | exact (va_up_ne _ _ (by omega)).trans (va_up_self _ _ _) | exact (va_up_ne _ _ (by omega)).trans ((va_up_ne _ _ (by omega)).trans (by assumption)) | exact (congrArg Prod.fst ((va_up_ne _ _ (by omega)).trans (va_up_ne _ _ (by omega)))).trans (by assumption) | exact (congrFun ((va_up_ne _ _ (by omega)).trans (va_up_ne _ _ (by omega))) _).trans (by assumption) | (rw [va_up_self, va_up_ne _ _ (by omega)]; assumption)) (c_finding hk _) (Nat.le_of_ble_eq_true rfl) (by omega) ?_
    refine tk_ireturn dX10_see_22 rfl ?_
    exact lPst_f (by clear h41 h411 h412 h413 h414; simp [rSeC, *]) hR cKp.rf
  · refine tk_aload0 dX10_see_8 ?_
    refine tk_iload2 dX10_see_9 ?_
    refine tk_callV1z dX10_see_10 kX10_186 (by first | assumption | exact va_up_self _ _ _ | exact (va_up_ne _ _ (by omega)).trans (by assumption) | exact congrArg Prod.fst (va_up_self _ _ _) | exact (congrArg Prod.fst (va_up_ne _ _ (by omega))).trans (by assumption) | exact (congrFun (va_up_ne _ _ (by omega)) _).trans (by assumption) | exact (va_up_ne _ _ (by omega)).trans (va_up_self _ _ _) | exact (va_up_ne _ _ (by omega)).trans ((va_up_ne _ _ (by omega)).trans (by assumption)) | exact (congrArg Prod.fst ((va_up_ne _ _ (by omega)).trans (va_up_ne _ _ (by omega)))).trans (by assumption) | exact (congrFun ((va_up_ne _ _ (by omega)).trans (va_up_ne _ _ (by omega))) _).trans (by assumption) | (rw [va_up_self, va_up_ne _ _ (by omega)]; assumption)) (k_isFact hN' f) (Nat.le_of_ble_eq_true rfl) (by omega) ?_
    first | refine tk_jf_neB dX10_see_13 (fun h13 => ?_) (fun h13 => ?_) | refine tk_if_ne dX10_see_13 (fun h13 => ?_) (fun h13 => ?_)
    · refine tk_aload0 dX10_see_23 ?_
      obtain ⟨p', hp', rfl⟩ := rPe_of h5 h41 (by omega)
      obtain ⟨f', hf', rfl⟩ := rPe_of h13 h411 (by omega)
      have hix : ix (nI f') = f' := ix_nI (by omega)
      refine tk_aload0 dX10_see_24 ?_
      refine tk_callV0z dX10_see_25 kX10_84 (by first | assumption | exact va_up_self _ _ _ | exact (va_up_ne _ _ (by omega)).trans (by assumption) | exact congrArg Prod.fst (va_up_self _ _ _) | exact (congrArg Prod.fst (va_up_ne _ _ (by omega))).trans (by assumption) | exact (congrFun (va_up_ne _ _ (by omega)) _).trans (by assumption) | exact (va_up_ne _ _ (by omega)).trans (va_up_self _ _ _) | exact (va_up_ne _ _ (by omega)).trans ((va_up_ne _ _ (by omega)).trans (by assumption)) | exact (congrArg Prod.fst ((va_up_ne _ _ (by omega)).trans (va_up_ne _ _ (by omega)))).trans (by assumption) | exact (congrFun ((va_up_ne _ _ (by omega)).trans (va_up_ne _ _ (by omega))) _).trans (by assumption) | (rw [va_up_self, va_up_ne _ _ (by omega)]; assumption)) (c_worlds hk ht hp) (Nat.le_of_ble_eq_true rfl) (by omega) ?_
      refine tk_callV0z dX10_see_28 kX10_189 (by first | assumption | exact va_up_self _ _ _ | exact (va_up_ne _ _ (by omega)).trans (by assumption) | exact congrArg Prod.fst (va_up_self _ _ _) | exact (congrArg Prod.fst (va_up_ne _ _ (by omega))).trans (by assumption) | exact (congrFun (va_up_ne _ _ (by omega)) _).trans (by assumption) | exact (va_up_ne _ _ (by omega)).trans (va_up_self _ _ _) | exact (va_up_ne _ _ (by omega)).trans ((va_up_ne _ _ (by omega)).trans (by assumption)) | exact (congrArg Prod.fst ((va_up_ne _ _ (by omega)).trans (va_up_ne _ _ (by omega)))).trans (by assumption) | exact (congrFun ((va_up_ne _ _ (by omega)).trans (va_up_ne _ _ (by omega))) _).trans (by assumption) | (rw [va_up_self, va_up_ne _ _ (by omega)]; assumption)) (c_every hw W1 W64) (Nat.le_of_ble_eq_true rfl) (by omega) ?_
      refine tk_iload1 dX10_see_31 ?_
      refine tk_aload0 dX10_see_32 ?_
      refine tk_callV0z dX10_see_33 kX10_84 (by first | assumption | exact va_up_self _ _ _ | exact (va_up_ne _ _ (by omega)).trans (by assumption) | exact congrArg Prod.fst (va_up_self _ _ _) | exact (congrArg Prod.fst (va_up_ne _ _ (by omega))).trans (by assumption) | exact (congrFun (va_up_ne _ _ (by omega)) _).trans (by assumption) | exact (va_up_ne _ _ (by omega)).trans (va_up_self _ _ _) | exact (va_up_ne _ _ (by omega)).trans ((va_up_ne _ _ (by omega)).trans (by assumption)) | exact (congrArg Prod.fst ((va_up_ne _ _ (by omega)).trans (va_up_ne _ _ (by omega)))).trans (by assumption) | exact (congrFun ((va_up_ne _ _ (by omega)).trans (va_up_ne _ _ (by omega))) _).trans (by assumption) | (rw [va_up_self, va_up_ne _ _ (by omega)]; assumption)) (c_worlds hk ht hp) (Nat.le_of_ble_eq_true rfl) (by omega) ?_
      refine tk_getP dX10_see_36 fX10_193 rfl (by first | assumption | exact va_up_self _ _ _ | exact (va_up_ne _ _ (by omega)).trans (by assumption) | exact congrArg Prod.fst (va_up_self _ _ _) | exact (congrArg Prod.fst (va_up_ne _ _ (by omega))).trans (by assumption) | exact (congrFun (va_up_ne _ _ (by omega)) _).trans (by assumption) | exact (va_up_ne _ _ (by omega)).trans (va_up_self _ _ _) | exact (va_up_ne _ _ (by omega)).trans ((va_up_ne _ _ (by omega)).trans (by assumption)) | exact (congrArg Prod.fst ((va_up_ne _ _ (by omega)).trans (va_up_ne _ _ (by omega)))).trans (by assumption) | exact (congrFun ((va_up_ne _ _ (by omega)).trans (va_up_ne _ _ (by omega))) _).trans (by assumption) | (rw [va_up_self, va_up_ne _ _ (by omega)]; assumption)) (by first | assumption | exact va_up_self _ _ _ | exact (va_up_ne _ _ (by omega)).trans (by assumption) | exact congrArg Prod.fst (va_up_self _ _ _) | exact (congrArg Prod.fst (va_up_ne _ _ (by omega))).trans (by assumption) | exact (congrFun (va_up_ne _ _ (by omega)) _).trans (by assumption) | exact (va_up_ne _ _ (by omega)).trans (va_up_self _ _ _) | exact (va_up_ne _ _ (by omega)).trans ((va_up_ne _ _ (by omega)).trans (by assumption)) | exact (congrArg Prod.fst ((va_up_ne _ _ (by omega)).trans (va_up_ne _ _ (by omega)))).trans (by assumption) | exact (congrFun ((va_up_ne _ _ (by omega)).trans (va_up_ne _ _ (by omega))) _).trans (by assumption) | (rw [va_up_self, va_up_ne _ _ (by omega)]; assumption)) ?_
      refine tk_iload2 dX10_see_39 ?_
      refine tk_lald dX10_see_40 (by first | assumption | exact va_up_self _ _ _ | exact (va_up_ne _ _ (by omega)).trans (by assumption) | exact congrArg Prod.fst (va_up_self _ _ _) | exact (congrArg Prod.fst (va_up_ne _ _ (by omega))).trans (by assumption) | exact (congrFun (va_up_ne _ _ (by omega)) _).trans (by assumption) | exact (va_up_ne _ _ (by omega)).trans (va_up_self _ _ _) | exact (va_up_ne _ _ (by omega)).trans ((va_up_ne _ _ (by omega)).trans (by assumption)) | exact (congrArg Prod.fst ((va_up_ne _ _ (by omega)).trans (va_up_ne _ _ (by omega)))).trans (by assumption) | exact (congrFun ((va_up_ne _ _ (by omega)).trans (va_up_ne _ _ (by omega))) _).trans (by assumption) | (rw [va_up_self, va_up_ne _ _ (by omega)]; assumption)) (by omega) (by omega) ?_
      rw [hso f' hf']
      refine tk_callV3s dX10_see_41 kX10_197 (by first | assumption | exact va_up_self _ _ _ | exact (va_up_ne _ _ (by omega)).trans (by assumption) | exact congrArg Prod.fst (va_up_self _ _ _) | exact (congrArg Prod.fst (va_up_ne _ _ (by omega))).trans (by assumption) | exact (congrFun (va_up_ne _ _ (by omega)) _).trans (by assumption) | exact (va_up_ne _ _ (by omega)).trans (va_up_self _ _ _) | exact (va_up_ne _ _ (by omega)).trans ((va_up_ne _ _ (by omega)).trans (by assumption)) | exact (congrArg Prod.fst ((va_up_ne _ _ (by omega)).trans (va_up_ne _ _ (by omega)))).trans (by assumption) | exact (congrFun ((va_up_ne _ _ (by omega)).trans (va_up_ne _ _ (by omega))) _).trans (by assumption) | (rw [va_up_self, va_up_ne _ _ (by omega)]; assumption)) (k_cutTo hN' hm hm0 hp' ((tb_evrT W64).mpr rW) (mS_same np4 hp')) (Nat.le_of_ble_eq_true rfl) (by omega) (by omega) (by omega) ?_
      rintro rr hh1 hq
      have hq' := hq
      obtain ⟨n3, T3, I3, L3, P3, x3, rfl, rfl, -⟩ := hq'
      dsimp only [Option.toList, List.singleton_append]
      refine tk_ireturn dX10_see_44 rfl ?_
      rw [hix]
      exact lPst_g (by clear h41 h411 h412 h413 h414; simp [rSeC, *]) cKp.rf hq
    · refine tk_aload0 dX10_see_16 ?_
      refine tk_ldc dX10_see_17 klX10_65 ?_
      refine tk_callV1z dX10_see_19 kX10_66 (by first | assumption | exact va_up_self _ _ _ | exact (va_up_ne _ _ (by omega)).trans (by assumption) | exact congrArg Prod.fst (va_up_self _ _ _) | exact (congrArg Prod.fst (va_up_ne _ _ (by omega))).trans (by assumption) | exact (congrFun (va_up_ne _ _ (by omega)) _).trans (by assumption) | exact (va_up_ne _ _ (by omega)).trans (va_up_self _ _ _) | exact (va_up_ne _ _ (by omega)).trans ((va_up_ne _ _ (by omega)).trans (by assumption)) | exact (congrArg Prod.fst ((va_up_ne _ _ (by omega)).trans (va_up_ne _ _ (by omega)))).trans (by assumption) | exact (congrFun ((va_up_ne _ _ (by omega)).trans (va_up_ne _ _ (by omega))) _).trans (by assumption) | (rw [va_up_self, va_up_ne _ _ (by omega)]; assumption)) (c_finding hk _) (Nat.le_of_ble_eq_true rfl) (by omega) ?_
      refine tk_ireturn dX10_see_22 rfl ?_
      exact lPst_f (by clear h41 h411 h412 h413 h414; simp [rSeC, *]) hR cKp.rf
end OPEN
