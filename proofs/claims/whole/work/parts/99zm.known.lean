/-! ===== the class: known, binding ===== -/
theorem rSF_VT {J : Nat → Nat → Int32} {W f : Nat} (hW : W ≤ 64) : rSF (rVT J 64) W f = rSF (J 42) W f := by
  unfold rSF
  refine mk_congr (fun w hw => ?_)
  rw [rVT_64, tkcp_lt (by omega)]
theorem sub0 {x y : Int64} : x &&& (y ^^^ (-1)) = 0 ↔ ∀ u, tb x u = true → tb y u = true := by
  constructor
  · intro h u hu
    cases e : tb y u with
    | true => rfl
    | false =>
      have : tb (x &&& (y ^^^ (-1))) u = true := tb_dif.mpr ⟨hu, tbF e⟩
      rw [h, tb_0] at this
      cases this
  · intro h
    apply tb_extT
    intro u
    rw [tb_dif, tb_0]
    exact ⟨fun q => absurd (h u q.1) q.2, fun q => by cases q⟩
theorem dis0 {x y : Int64} : x &&& y = 0 ↔ ∀ u, tb x u = true → ¬ tb y u = true := by
  constructor
  · intro h u hu hy
    have : tb (x &&& y) u = true := tb_andT.mpr ⟨hu, hy⟩
    rw [h, tb_0] at this
    cases this
  · intro h
    apply tb_extT
    intro u
    rw [tb_andT, tb_0]
    exact ⟨fun q => absurd q.2 (h u q.1), fun q => by cases q⟩
theorem kf_eq {J : Nat → Nat → Int32} {LL : Nat → Nat → Int64} {np W r p f : Nat} {wh : Bool} (hnp : np ≤ 4) (hW : W ≤ 64) (hr : r < W) (hp : p < np) : rKf J LL np W r p wh f = (decide (pB (J 43) W (64 * p + r) &&& (rSF (J 42) W f ^^^ (-1)) = 0) || (wh && decide (pB (J 43) W (64 * p + r) &&& rSF (J 42) W f = 0))) := by
  have hc : ∀ u, tb (pB (J 43) W (64 * p + r)) u = true → tb (evr W) u = true := fun u hu => (tb_evrT hW).mpr ((tb_pB hW (by omega)).mp hu).1
  have e1 : rKn (vwB J LL np W) p r (rSF (rVT J 64) W f) (evr W) = decide (pB (J 43) W (64 * p + r) &&& (rSF (J 42) W f ^^^ (-1)) = 0) := by
    rw [Bool.eq_iff_iff, decide_eq_true_eq, rKn_T, sub0, vwB_eq hnp hW p hp r hr, rSF_VT hW]
    exact ⟨fun z u hu => z u (hc u hu) hu, fun z u _ hu => z u hu⟩
  have e2 : rKn (vwB J LL np W) p r (evr W &&& (rSF (rVT J 64) W f ^^^ (-1))) (evr W) = decide (pB (J 43) W (64 * p + r) &&& rSF (J 42) W f = 0) := by
    rw [Bool.eq_iff_iff, decide_eq_true_eq, rKn_T, dis0, vwB_eq hnp hW p hp r hr, rSF_VT hW]
    exact ⟨fun z u hu => (tb_dif.mp (z u (hc u hu) hu)).2, fun z u h1 hu => tb_dif.mpr ⟨h1, z u hu⟩⟩
  unfold rKf
  cases wh with
  | false => rw [if_neg (by decide), e1, Bool.false_and, Bool.or_false]
  | true => rw [if_pos rfl, rKw, e1, e2, Bool.true_and]
theorem or_n0 (x : Int32) : x ||| nI 0 = x := by rw [nI_0]; exact Int32.or_zero
theorem pa_eq {J : Nat → Nat → Int32} {LL : Nat → Nat → Int64} {np nf W r cn pn : Nat} {cl pl pg : Nat → Nat} (hT : TH J np nf W r cn cl) (hP : PH J np nf pn pl pg) {k : Nat} (hk : k < pn) {so : Int64} (hso : so = SOP np W cn (J 42) (J 43) (J 45) (J 49) cl (fun i => J 51 (14 * k + i)) (pl k) (evr W)) : paT J LL np W r cn cl pl pg k = true ↔ ∀ v, sCom np (memG (J 45) (pg k)) (tieB (pB (J 43) W)) (fun v => tb (evr W) v = true) r v → tb so v = true := by
  have h3 := hT.2.2.1
  have h9 := hT.2.2.2.2.2.2.2.2.1
  have h11 := hT.2.2.2.2.2.2.2.2.2.2.1
  obtain ⟨g1, g2, g3, g4, g5, g6⟩ := hP.2.2 k hk
  unfold paT
  rw [decide_eq_true_eq, sub0, soV_eq hT g4, ← hso, rCl_congr (B' := pB (J 43) W) (vwB_eq h3 h9), show rVT J 69 (pg k) = J 45 (pg k) by rw [rVT_69, tkcp_lt g6]]
  refine forall_congr' (fun v => ?_)
  rw [rCl_T (fun u hu => (tb_evrT h9).mp hu) h11 h9 v]
  rfl
section KNOWN
variable {G : tkG} {n : Nat} {T : Nat → Nat × Nat} {I J : Nat → Nat → Int32} {L : Nat → Nat → Int64} {P : Nat → Nat → Option Nat} {tw np nf W r cn : Nat} {cl : Nat → Nat} {pn : Nat} {pl pg : Nat → Nat} {mn : Nat} {mW mr mc : Nat → Nat} {ml : Nat → Nat → Nat}
theorem k_known (hN : cNow n T I L P J tw np nf W r cn cl pn pl pg mn mW mr mc ml) (LL : Nat → Nat → Int64) (p : Int32) (wh : Bool) : tkM G mX10_known 2 0 0 [vR 0, vI p, vI (tkb wh)] (n, T, I, L, P) (cPst n T I L P J (rKnC J p) (rKb J LL np W r (ix p) wh nf) J) := by
  have hN' := hN
  obtain ⟨hR, hk, ⟨hTH, hPH, hMH, hGW, hob⟩, ftw, pic, sta, oa, se, pa, ma, ht, hpc, hst, hoa, hse, hpa, hma⟩ := hN
  have hn := hR.1
  have hsc := hR.2.1
  have hk' := hk
  obtain ⟨k0, k1, k2, k3, k4, k5, k6⟩ := hk'
  have ht' := ht
  obtain ⟨u0, u1, u2, u3, u4, u5, u6⟩ := ht'
  have hpc' := hpc
  obtain ⟨fpi, tpi, wa, ca, ga, p1, p2, p3, hw, fca, hca, hcl, fga, hga, hgr⟩ := hpc'
  have hp : pObj T P pic wa ca ga := ⟨tpi, p1, p2, p3⟩
  have hTH' := hTH
  obtain ⟨h41, np1, np4, h411, nf1, nf4, h412, W1, W64, h413, rW, h414, cn5, hcW, hsW⟩ := hTH'
  have w9 : (T wa).1 = 9 := hw.2.1
  have hw' := hw
  obtain ⟨w1, w2, w3, w4, w5, w6, wb, wc, fwb, fwc, pwb, pwc, twb, twc, hso, hce⟩ := hw'
  have go : ∀ p', p' < np → p = nI p' → rKnC J p = none → ∀ k f, f + k = nf → tkX G mX10_known 2 0 0 37 [some (vR 0), some (vI p), some (vI (tkb wh)), some (vL (pB (J 43) W (64 * p' + r))), none, some (vI (rKb J LL np W r p' wh f)), some (vI (nI f)), none, none] [] (n, T, I, L, P) (cPst n T I L P J (rKnC J p) (rKb J LL np W r (ix p) wh nf) J) := by
    rintro p' hp' rfl hc k
    have hix : ix (nI p') = p' := ix_nI (by omega)
    induction k with
    | zero =>
      intro f hf
      refine tk_iload6 dX10_known_37 ?_
      refine tk_aload0 dX10_known_39 ?_
      refine tk_callV0z dX10_known_40 kX10_84 (by first | assumption | exact va_up_self _ _ _ | exact (va_up_ne _ _ (by omega)).trans (by assumption) | exact congrArg Prod.fst (va_up_self _ _ _) | exact (congrArg Prod.fst (va_up_ne _ _ (by omega))).trans (by assumption) | exact (congrFun (va_up_ne _ _ (by omega)) _).trans (by assumption) | exact (va_up_ne _ _ (by omega)).trans (va_up_self _ _ _) | exact (va_up_ne _ _ (by omega)).trans ((va_up_ne _ _ (by omega)).trans (by assumption)) | exact (congrArg Prod.fst ((va_up_ne _ _ (by omega)).trans (va_up_ne _ _ (by omega)))).trans (by assumption) | exact (congrFun ((va_up_ne _ _ (by omega)).trans (va_up_ne _ _ (by omega))) _).trans (by assumption) | (rw [va_up_self, va_up_ne _ _ (by omega)]; assumption)) (c_worlds hk ht hp) (Nat.le_of_ble_eq_true rfl) (by omega) ?_
      refine tk_getI dX10_known_43 fX10_179 rfl (by first | assumption | exact va_up_self _ _ _ | exact (va_up_ne _ _ (by omega)).trans (by assumption) | exact congrArg Prod.fst (va_up_self _ _ _) | exact (congrArg Prod.fst (va_up_ne _ _ (by omega))).trans (by assumption) | exact (congrFun (va_up_ne _ _ (by omega)) _).trans (by assumption) | exact (va_up_ne _ _ (by omega)).trans (va_up_self _ _ _) | exact (va_up_ne _ _ (by omega)).trans ((va_up_ne _ _ (by omega)).trans (by assumption)) | exact (congrArg Prod.fst ((va_up_ne _ _ (by omega)).trans (va_up_ne _ _ (by omega)))).trans (by assumption) | exact (congrFun ((va_up_ne _ _ (by omega)).trans (va_up_ne _ _ (by omega))) _).trans (by assumption) | (rw [va_up_self, va_up_ne _ _ (by omega)]; assumption)) ?_
      rw [w4]
      first | refine tk_icmp_geN dX10_known_46 (by omega) (by omega) (fun h46 => ?_) (fun h46 => ?_) | refine tk_jcmp_ge dX10_known_46 (fun h46 => ?_) (fun h46 => ?_)
      · refine tk_iload5 dX10_known_102 ?_
        refine tk_ireturn dX10_known_104 rfl ?_
        obtain rfl : f = nf := by omega
        exact cPst_g hc (by rw [hix]) hR cKp.rf jSm.rf
      · exfalso; omega
    | succ k ih =>
      intro f hf
      have eA : rKf J LL np W r p' wh f = true → rKb J LL np W r p' wh (f + 1) = rKb J LL np W r p' wh f ||| kshl (nI 1) (nI f) := fun h => by rw [rKb, h]; rfl
      have eB : rKf J LL np W r p' wh f = false → rKb J LL np W r p' wh (f + 1) = rKb J LL np W r p' wh f := fun h => by rw [rKb, h]; exact or_n0 _
      refine tk_iload6 dX10_known_37 ?_
      refine tk_aload0 dX10_known_39 ?_
      refine tk_callV0z dX10_known_40 kX10_84 (by first | assumption | exact va_up_self _ _ _ | exact (va_up_ne _ _ (by omega)).trans (by assumption) | exact congrArg Prod.fst (va_up_self _ _ _) | exact (congrArg Prod.fst (va_up_ne _ _ (by omega))).trans (by assumption) | exact (congrFun (va_up_ne _ _ (by omega)) _).trans (by assumption) | exact (va_up_ne _ _ (by omega)).trans (va_up_self _ _ _) | exact (va_up_ne _ _ (by omega)).trans ((va_up_ne _ _ (by omega)).trans (by assumption)) | exact (congrArg Prod.fst ((va_up_ne _ _ (by omega)).trans (va_up_ne _ _ (by omega)))).trans (by assumption) | exact (congrFun ((va_up_ne _ _ (by omega)).trans (va_up_ne _ _ (by omega))) _).trans (by assumption) | (rw [va_up_self, va_up_ne _ _ (by omega)]; assumption)) (c_worlds hk ht hp) (Nat.le_of_ble_eq_true rfl) (by omega) ?_
      refine tk_getI dX10_known_43 fX10_179 rfl (by first | assumption | exact va_up_self _ _ _ | exact (va_up_ne _ _ (by omega)).trans (by assumption) | exact congrArg Prod.fst (va_up_self _ _ _) | exact (congrArg Prod.fst (va_up_ne _ _ (by omega))).trans (by assumption) | exact (congrFun (va_up_ne _ _ (by omega)) _).trans (by assumption) | exact (va_up_ne _ _ (by omega)).trans (va_up_self _ _ _) | exact (va_up_ne _ _ (by omega)).trans ((va_up_ne _ _ (by omega)).trans (by assumption)) | exact (congrArg Prod.fst ((va_up_ne _ _ (by omega)).trans (va_up_ne _ _ (by omega)))).trans (by assumption) | exact (congrFun ((va_up_ne _ _ (by omega)).trans (va_up_ne _ _ (by omega))) _).trans (by assumption) | (rw [va_up_self, va_up_ne _ _ (by omega)]; assumption)) ?_
      rw [w4]
      first | refine tk_icmp_geN dX10_known_46 (by omega) (by omega) (fun h46 => ?_) (fun h46 => ?_) | refine tk_jcmp_ge dX10_known_46 (fun h46 => ?_) (fun h46 => ?_)
      · exfalso; omega
      · refine tk_aload0 dX10_known_49 ?_
        refine tk_callV0z dX10_known_50 kX10_84 (by first | assumption | exact va_up_self _ _ _ | exact (va_up_ne _ _ (by omega)).trans (by assumption) | exact congrArg Prod.fst (va_up_self _ _ _) | exact (congrArg Prod.fst (va_up_ne _ _ (by omega))).trans (by assumption) | exact (congrFun (va_up_ne _ _ (by omega)) _).trans (by assumption) | exact (va_up_ne _ _ (by omega)).trans (va_up_self _ _ _) | exact (va_up_ne _ _ (by omega)).trans ((va_up_ne _ _ (by omega)).trans (by assumption)) | exact (congrArg Prod.fst ((va_up_ne _ _ (by omega)).trans (va_up_ne _ _ (by omega)))).trans (by assumption) | exact (congrFun ((va_up_ne _ _ (by omega)).trans (va_up_ne _ _ (by omega))) _).trans (by assumption) | (rw [va_up_self, va_up_ne _ _ (by omega)]; assumption)) (c_worlds hk ht hp) (Nat.le_of_ble_eq_true rfl) (by omega) ?_
        refine tk_getP dX10_known_53 fX10_193 rfl (by first | assumption | exact va_up_self _ _ _ | exact (va_up_ne _ _ (by omega)).trans (by assumption) | exact congrArg Prod.fst (va_up_self _ _ _) | exact (congrArg Prod.fst (va_up_ne _ _ (by omega))).trans (by assumption) | exact (congrFun (va_up_ne _ _ (by omega)) _).trans (by assumption) | exact (va_up_ne _ _ (by omega)).trans (va_up_self _ _ _) | exact (va_up_ne _ _ (by omega)).trans ((va_up_ne _ _ (by omega)).trans (by assumption)) | exact (congrArg Prod.fst ((va_up_ne _ _ (by omega)).trans (va_up_ne _ _ (by omega)))).trans (by assumption) | exact (congrFun ((va_up_ne _ _ (by omega)).trans (va_up_ne _ _ (by omega))) _).trans (by assumption) | (rw [va_up_self, va_up_ne _ _ (by omega)]; assumption)) (by first | assumption | exact va_up_self _ _ _ | exact (va_up_ne _ _ (by omega)).trans (by assumption) | exact congrArg Prod.fst (va_up_self _ _ _) | exact (congrArg Prod.fst (va_up_ne _ _ (by omega))).trans (by assumption) | exact (congrFun (va_up_ne _ _ (by omega)) _).trans (by assumption) | exact (va_up_ne _ _ (by omega)).trans (va_up_self _ _ _) | exact (va_up_ne _ _ (by omega)).trans ((va_up_ne _ _ (by omega)).trans (by assumption)) | exact (congrArg Prod.fst ((va_up_ne _ _ (by omega)).trans (va_up_ne _ _ (by omega)))).trans (by assumption) | exact (congrFun ((va_up_ne _ _ (by omega)).trans (va_up_ne _ _ (by omega))) _).trans (by assumption) | (rw [va_up_self, va_up_ne _ _ (by omega)]; assumption)) ?_
        refine tk_iload6 dX10_known_56 ?_
        refine tk_lald dX10_known_58 (by first | assumption | exact va_up_self _ _ _ | exact (va_up_ne _ _ (by omega)).trans (by assumption) | exact congrArg Prod.fst (va_up_self _ _ _) | exact (congrArg Prod.fst (va_up_ne _ _ (by omega))).trans (by assumption) | exact (congrFun (va_up_ne _ _ (by omega)) _).trans (by assumption) | exact (va_up_ne _ _ (by omega)).trans (va_up_self _ _ _) | exact (va_up_ne _ _ (by omega)).trans ((va_up_ne _ _ (by omega)).trans (by assumption)) | exact (congrArg Prod.fst ((va_up_ne _ _ (by omega)).trans (va_up_ne _ _ (by omega)))).trans (by assumption) | exact (congrFun ((va_up_ne _ _ (by omega)).trans (va_up_ne _ _ (by omega))) _).trans (by assumption) | (rw [va_up_self, va_up_ne _ _ (by omega)]; assumption)) (by omega) (by omega) ?_
        rw [hso f (by omega)]
        refine tk_lstore7 dX10_known_59 rfl ?_
        refine tk_lload3 dX10_known_61 ?_
        refine tk_lload7 dX10_known_62 ?_
        refine tk_ldc2 dX10_known_64 klX10_314 ?_
        refine tk_lxor dX10_known_67 ?_
        refine tk_land dX10_known_68 ?_
        refine tk_lconst dX10_known_69 (v := 0) (by decide) ?_
        refine tk_lcmp dX10_known_70 ?_
        first | refine tk_jf_eqB dX10_known_71 (fun h71 => ?_) (fun h71 => ?_) | refine tk_if_eq dX10_known_71 (fun h71 => ?_) (fun h71 => ?_)
        · refine tk_iload5 dX10_known_87 ?_
          refine tk_iconst dX10_known_89 kc_iconst_1 ?_
          refine tk_iload6 dX10_known_90 ?_
          refine tk_ishl dX10_known_92 ?_
          refine tk_ior dX10_known_93 ?_
          refine tk_istore5 dX10_known_94 rfl ?_
          first | refine tk_iinc6 dX10_known_96 (kc_inc _) rfl ?_ | refine tk_iinc6 dX10_known_96 rfl rfl ?_
          refine tk_goto dX10_known_99 ?_
          first
            | rw [← eA (by rw [kf_eq np4 W64 rW hp', decide_eq_true ((lgc0 _ _).mp h71)]; rfl)]; exact tk_wk (by repeat' (first | exact trivial | refine ⟨Or.inl rfl, ?_⟩ | refine ⟨Or.inr rfl, ?_⟩)) (ih (f + 1) (by omega))
            | rw [← eA (by rw [kf_eq np4 W64 rW hp', h75, decide_eq_true ((lgc0 _ _).mp h84)]; exact Bool.or_true _)]; exact tk_wk (by repeat' (first | exact trivial | refine ⟨Or.inl rfl, ?_⟩ | refine ⟨Or.inr rfl, ?_⟩)) (ih (f + 1) (by omega))
            | rw [← eB (by rw [kf_eq np4 W64 rW hp', decide_eq_false (fun z => h71 ((lgc0 _ _).mpr z)), h75]; rfl)]; exact tk_wk (by repeat' (first | exact trivial | refine ⟨Or.inl rfl, ?_⟩ | refine ⟨Or.inr rfl, ?_⟩)) (ih (f + 1) (by omega))
            | rw [← eB (by rw [kf_eq np4 W64 rW hp', decide_eq_false (fun z => h71 ((lgc0 _ _).mpr z)), h75, decide_eq_false (fun z => h84 ((lgc0 _ _).mpr z))]; rfl)]; exact tk_wk (by repeat' (first | exact trivial | refine ⟨Or.inl rfl, ?_⟩ | refine ⟨Or.inr rfl, ?_⟩)) (ih (f + 1) (by omega))
        · refine tk_iload2 dX10_known_74 ?_
          first | refine tk_jf_eqB dX10_known_75 (fun h75 => ?_) (fun h75 => ?_) | refine tk_if_eq dX10_known_75 (fun h75 => ?_) (fun h75 => ?_)
          · first | refine tk_iinc6 dX10_known_96 (kc_inc _) rfl ?_ | refine tk_iinc6 dX10_known_96 rfl rfl ?_
            refine tk_goto dX10_known_99 ?_
            first
              | rw [← eA (by rw [kf_eq np4 W64 rW hp', decide_eq_true ((lgc0 _ _).mp h71)]; rfl)]; exact tk_wk (by repeat' (first | exact trivial | refine ⟨Or.inl rfl, ?_⟩ | refine ⟨Or.inr rfl, ?_⟩)) (ih (f + 1) (by omega))
              | rw [← eA (by rw [kf_eq np4 W64 rW hp', h75, decide_eq_true ((lgc0 _ _).mp h84)]; exact Bool.or_true _)]; exact tk_wk (by repeat' (first | exact trivial | refine ⟨Or.inl rfl, ?_⟩ | refine ⟨Or.inr rfl, ?_⟩)) (ih (f + 1) (by omega))
              | rw [← eB (by rw [kf_eq np4 W64 rW hp', decide_eq_false (fun z => h71 ((lgc0 _ _).mpr z)), h75]; rfl)]; exact tk_wk (by repeat' (first | exact trivial | refine ⟨Or.inl rfl, ?_⟩ | refine ⟨Or.inr rfl, ?_⟩)) (ih (f + 1) (by omega))
              | rw [← eB (by rw [kf_eq np4 W64 rW hp', decide_eq_false (fun z => h71 ((lgc0 _ _).mpr z)), h75, decide_eq_false (fun z => h84 ((lgc0 _ _).mpr z))]; rfl)]; exact tk_wk (by repeat' (first | exact trivial | refine ⟨Or.inl rfl, ?_⟩ | refine ⟨Or.inr rfl, ?_⟩)) (ih (f + 1) (by omega))
          · refine tk_lload3 dX10_known_78 ?_
            refine tk_lload7 dX10_known_79 ?_
            refine tk_land dX10_known_81 ?_
            refine tk_lconst dX10_known_82 (v := 0) (by decide) ?_
            refine tk_lcmp dX10_known_83 ?_
            first | refine tk_jf_neB dX10_known_84 (fun h84 => ?_) (fun h84 => ?_) | refine tk_if_ne dX10_known_84 (fun h84 => ?_) (fun h84 => ?_)
            · first | refine tk_iinc6 dX10_known_96 (kc_inc _) rfl ?_ | refine tk_iinc6 dX10_known_96 rfl rfl ?_
              refine tk_goto dX10_known_99 ?_
              first
                | rw [← eA (by rw [kf_eq np4 W64 rW hp', decide_eq_true ((lgc0 _ _).mp h71)]; rfl)]; exact tk_wk (by repeat' (first | exact trivial | refine ⟨Or.inl rfl, ?_⟩ | refine ⟨Or.inr rfl, ?_⟩)) (ih (f + 1) (by omega))
                | rw [← eA (by rw [kf_eq np4 W64 rW hp', h75, decide_eq_true ((lgc0 _ _).mp h84)]; exact Bool.or_true _)]; exact tk_wk (by repeat' (first | exact trivial | refine ⟨Or.inl rfl, ?_⟩ | refine ⟨Or.inr rfl, ?_⟩)) (ih (f + 1) (by omega))
                | rw [← eB (by rw [kf_eq np4 W64 rW hp', decide_eq_false (fun z => h71 ((lgc0 _ _).mpr z)), h75]; rfl)]; exact tk_wk (by repeat' (first | exact trivial | refine ⟨Or.inl rfl, ?_⟩ | refine ⟨Or.inr rfl, ?_⟩)) (ih (f + 1) (by omega))
                | rw [← eB (by rw [kf_eq np4 W64 rW hp', decide_eq_false (fun z => h71 ((lgc0 _ _).mpr z)), h75, decide_eq_false (fun z => h84 ((lgc0 _ _).mpr z))]; rfl)]; exact tk_wk (by repeat' (first | exact trivial | refine ⟨Or.inl rfl, ?_⟩ | refine ⟨Or.inr rfl, ?_⟩)) (ih (f + 1) (by omega))
            · refine tk_iload5 dX10_known_87 ?_
              refine tk_iconst dX10_known_89 kc_iconst_1 ?_
              refine tk_iload6 dX10_known_90 ?_
              refine tk_ishl dX10_known_92 ?_
              refine tk_ior dX10_known_93 ?_
              refine tk_istore5 dX10_known_94 rfl ?_
              first | refine tk_iinc6 dX10_known_96 (kc_inc _) rfl ?_ | refine tk_iinc6 dX10_known_96 rfl rfl ?_
              refine tk_goto dX10_known_99 ?_
              first
                | rw [← eA (by rw [kf_eq np4 W64 rW hp', decide_eq_true ((lgc0 _ _).mp h71)]; rfl)]; exact tk_wk (by repeat' (first | exact trivial | refine ⟨Or.inl rfl, ?_⟩ | refine ⟨Or.inr rfl, ?_⟩)) (ih (f + 1) (by omega))
                | rw [← eA (by rw [kf_eq np4 W64 rW hp', h75, decide_eq_true ((lgc0 _ _).mp h84)]; exact Bool.or_true _)]; exact tk_wk (by repeat' (first | exact trivial | refine ⟨Or.inl rfl, ?_⟩ | refine ⟨Or.inr rfl, ?_⟩)) (ih (f + 1) (by omega))
                | rw [← eB (by rw [kf_eq np4 W64 rW hp', decide_eq_false (fun z => h71 ((lgc0 _ _).mpr z)), h75]; rfl)]; exact tk_wk (by repeat' (first | exact trivial | refine ⟨Or.inl rfl, ?_⟩ | refine ⟨Or.inr rfl, ?_⟩)) (ih (f + 1) (by omega))
                | rw [← eB (by rw [kf_eq np4 W64 rW hp', decide_eq_false (fun z => h71 ((lgc0 _ _).mpr z)), h75, decide_eq_false (fun z => h84 ((lgc0 _ _).mpr z))]; rfl)]; exact tk_wk (by repeat' (first | exact trivial | refine ⟨Or.inl rfl, ?_⟩ | refine ⟨Or.inr rfl, ?_⟩)) (ih (f + 1) (by omega))
  refine tkM.of (ls := [some _, some _, some _, none, none, none, none, none, none]) (by decide +kernel) (by decide +kernel) (Nat.le_of_ble_eq_true rfl) rfl ?_
  refine tk_aload0 dX10_known_0 ?_
  refine tk_iload1 dX10_known_1 ?_
  refine tk_callV1z dX10_known_2 kX10_91 (by first | assumption | exact va_up_self _ _ _ | exact (va_up_ne _ _ (by omega)).trans (by assumption) | exact congrArg Prod.fst (va_up_self _ _ _) | exact (congrArg Prod.fst (va_up_ne _ _ (by omega))).trans (by assumption) | exact (congrFun (va_up_ne _ _ (by omega)) _).trans (by assumption) | exact (va_up_ne _ _ (by omega)).trans (va_up_self _ _ _) | exact (va_up_ne _ _ (by omega)).trans ((va_up_ne _ _ (by omega)).trans (by assumption)) | exact (congrArg Prod.fst ((va_up_ne _ _ (by omega)).trans (va_up_ne _ _ (by omega)))).trans (by assumption) | exact (congrFun ((va_up_ne _ _ (by omega)).trans (va_up_ne _ _ (by omega))) _).trans (by assumption) | (rw [va_up_self, va_up_ne _ _ (by omega)]; assumption)) (k_isPerson hN' p) (Nat.le_of_ble_eq_true rfl) (by omega) ?_
  first | refine tk_jf_neB dX10_known_5 (fun h5 => ?_) (fun h5 => ?_) | refine tk_if_ne dX10_known_5 (fun h5 => ?_) (fun h5 => ?_)
  · refine tk_aload0 dX10_known_15 ?_
    obtain ⟨p', hp', ep⟩ := rPe_of h5 h41 (by omega)
    have hc : rKnC J p = none := if_pos h5
    refine tk_callV0z dX10_known_16 kX10_84 (by first | assumption | exact va_up_self _ _ _ | exact (va_up_ne _ _ (by omega)).trans (by assumption) | exact congrArg Prod.fst (va_up_self _ _ _) | exact (congrArg Prod.fst (va_up_ne _ _ (by omega))).trans (by assumption) | exact (congrFun (va_up_ne _ _ (by omega)) _).trans (by assumption) | exact (va_up_ne _ _ (by omega)).trans (va_up_self _ _ _) | exact (va_up_ne _ _ (by omega)).trans ((va_up_ne _ _ (by omega)).trans (by assumption)) | exact (congrArg Prod.fst ((va_up_ne _ _ (by omega)).trans (va_up_ne _ _ (by omega)))).trans (by assumption) | exact (congrFun ((va_up_ne _ _ (by omega)).trans (va_up_ne _ _ (by omega))) _).trans (by assumption) | (rw [va_up_self, va_up_ne _ _ (by omega)]; assumption)) (c_worlds hk ht hp) (Nat.le_of_ble_eq_true rfl) (by omega) ?_
    refine tk_iload1 dX10_known_19 ?_
    refine tk_aload0 dX10_known_20 ?_
    refine tk_callV0z dX10_known_21 kX10_84 (by first | assumption | exact va_up_self _ _ _ | exact (va_up_ne _ _ (by omega)).trans (by assumption) | exact congrArg Prod.fst (va_up_self _ _ _) | exact (congrArg Prod.fst (va_up_ne _ _ (by omega))).trans (by assumption) | exact (congrFun (va_up_ne _ _ (by omega)) _).trans (by assumption) | exact (va_up_ne _ _ (by omega)).trans (va_up_self _ _ _) | exact (va_up_ne _ _ (by omega)).trans ((va_up_ne _ _ (by omega)).trans (by assumption)) | exact (congrArg Prod.fst ((va_up_ne _ _ (by omega)).trans (va_up_ne _ _ (by omega)))).trans (by assumption) | exact (congrFun ((va_up_ne _ _ (by omega)).trans (va_up_ne _ _ (by omega))) _).trans (by assumption) | (rw [va_up_self, va_up_ne _ _ (by omega)]; assumption)) (c_worlds hk ht hp) (Nat.le_of_ble_eq_true rfl) (by omega) ?_
    refine tk_getI dX10_known_24 fX10_327 rfl (by first | assumption | exact va_up_self _ _ _ | exact (va_up_ne _ _ (by omega)).trans (by assumption) | exact congrArg Prod.fst (va_up_self _ _ _) | exact (congrArg Prod.fst (va_up_ne _ _ (by omega))).trans (by assumption) | exact (congrFun (va_up_ne _ _ (by omega)) _).trans (by assumption) | exact (va_up_ne _ _ (by omega)).trans (va_up_self _ _ _) | exact (va_up_ne _ _ (by omega)).trans ((va_up_ne _ _ (by omega)).trans (by assumption)) | exact (congrArg Prod.fst ((va_up_ne _ _ (by omega)).trans (va_up_ne _ _ (by omega)))).trans (by assumption) | exact (congrFun ((va_up_ne _ _ (by omega)).trans (va_up_ne _ _ (by omega))) _).trans (by assumption) | (rw [va_up_self, va_up_ne _ _ (by omega)]; assumption)) ?_
    rw [w6, ep]
    refine tk_callV2z dX10_known_27 kX10_323 (by first | assumption | exact va_up_self _ _ _ | exact (va_up_ne _ _ (by omega)).trans (by assumption) | exact congrArg Prod.fst (va_up_self _ _ _) | exact (congrArg Prod.fst (va_up_ne _ _ (by omega))).trans (by assumption) | exact (congrFun (va_up_ne _ _ (by omega)) _).trans (by assumption) | exact (va_up_ne _ _ (by omega)).trans (va_up_self _ _ _) | exact (va_up_ne _ _ (by omega)).trans ((va_up_ne _ _ (by omega)).trans (by assumption)) | exact (congrArg Prod.fst ((va_up_ne _ _ (by omega)).trans (va_up_ne _ _ (by omega)))).trans (by assumption) | exact (congrFun ((va_up_ne _ _ (by omega)).trans (va_up_ne _ _ (by omega))) _).trans (by assumption) | (rw [va_up_self, va_up_ne _ _ (by omega)]; assumption)) (c_cell hw W64 np4 hp' rW) (Nat.le_of_ble_eq_true rfl) (by omega) ?_
    refine tk_lstore3 dX10_known_30 rfl ?_
    refine tk_iconst dX10_known_31 kc_iconst_0 ?_
    refine tk_istore5 dX10_known_32 rfl ?_
    refine tk_iconst dX10_known_34 kc_iconst_0 ?_
    refine tk_istore6 dX10_known_35 rfl ?_
    refine tk_wk (by repeat' (first | exact trivial | refine ⟨Or.inl rfl, ?_⟩ | refine ⟨Or.inr rfl, ?_⟩)) (ep ▸ go p' hp' ep hc nf 0 (by omega))
  · refine tk_aload0 dX10_known_8 ?_
    refine tk_ldc dX10_known_9 klX10_65 ?_
    refine tk_callV1z dX10_known_11 kX10_66 (by first | assumption | exact va_up_self _ _ _ | exact (va_up_ne _ _ (by omega)).trans (by assumption) | exact congrArg Prod.fst (va_up_self _ _ _) | exact (congrArg Prod.fst (va_up_ne _ _ (by omega))).trans (by assumption) | exact (congrFun (va_up_ne _ _ (by omega)) _).trans (by assumption) | exact (va_up_ne _ _ (by omega)).trans (va_up_self _ _ _) | exact (va_up_ne _ _ (by omega)).trans ((va_up_ne _ _ (by omega)).trans (by assumption)) | exact (congrArg Prod.fst ((va_up_ne _ _ (by omega)).trans (va_up_ne _ _ (by omega)))).trans (by assumption) | exact (congrFun ((va_up_ne _ _ (by omega)).trans (va_up_ne _ _ (by omega))) _).trans (by assumption) | (rw [va_up_self, va_up_ne _ _ (by omega)]; assumption)) (c_finding hk _) (Nat.le_of_ble_eq_true rfl) (by omega) ?_
    refine tk_ireturn dX10_known_14 rfl ?_
    exact cPst_f (by clear h41 h411 h412 h413 h414; simp [rKnC, *]) hR cKp.rf
theorem k_binding (hN : cNow n T I L P J tw np nf W r cn cl pn pl pg mn mW mr mc ml) (LL : Nat → Nat → Int64) : tkM G mX10_binding 95 0 0 [vR 0] (n, T, I, L, P) (cPst n T I L P J none (rBi (paT J LL np W r cn cl pl pg) pn) J) := by
  have hN' := hN
  obtain ⟨hR, hk, ⟨hTH, hPH, hMH, hGW, hob⟩, ftw, pic, sta, oa, se, pa, ma, ht, hpc, hst, hoa, hse, hpa, hma⟩ := hN
  have hn := hR.1
  have hsc := hR.2.1
  have hk' := hk
  obtain ⟨k0, k1, k2, k3, k4, k5, k6⟩ := hk'
  have ht' := ht
  obtain ⟨u0, u1, u2, u3, u4, u5, u6⟩ := ht'
  have hpc' := hpc
  obtain ⟨fpi, tpi, wa, ca, ga, p1, p2, p3, hw, fca, hca, hcl, fga, hga, hgr⟩ := hpc'
  have hp : pObj T P pic wa ca ga := ⟨tpi, p1, p2, p3⟩
  have hTH' := hTH
  obtain ⟨h41, np1, np4, h411, nf1, nf4, h412, W1, W64, h413, rW, h414, cn5, hcW, hsW⟩ := hTH'
  have w9 : (T wa).1 = 9 := hw.2.1
  obtain ⟨v1, v2⟩ := now_sVw hN' hpc hp
  have pa2 := hpa.2.1
  have pn4 := hPH.2.1
  have ta0 : lkIi I 25 (25 + 1) = fun _ => nI 0 := look_ta hsc
  have s25 : (T 25).1 = 7 := hsc.1.1
  have go : ∀ d k, k + d = pn → ∀ L', lSm 25 L L' → tkX G mX10_binding 95 0 0 18 [some (vR 0), some (vI (rBi (paT J LL np W r cn cl pl pg) k)), some (vI (nI k)), none, none, none] [] (n, T, lkIi I 25, L', lkPp P 25 wa ca ga) (cPst n T I L P J none (rBi (paT J LL np W r cn cl pl pg) pn) J) := by
    intro d
    induction d with
    | zero =>
      intro k hkd L' m1
      have st := look_st (n := n) (wa := wa) (ca := ca) (ga := ga) hsc m1
      have hk2 := (hN'.st st).2.1
      have k02 := hk2.1
      have k12 := hk2.2.1
      have ht2 := ht.ex ftw st.ex
      have t82 := ht2.1
      have t52 := ht2.2.2.2.2.2.1
      refine tk_iload2 dX10_binding_18 ?_
      refine tk_aload0 dX10_binding_19 ?_
      refine tk_getP dX10_binding_20 fX10_13 rfl (by first | assumption | exact va_up_self _ _ _ | exact (va_up_ne _ _ (by omega)).trans (by assumption) | exact congrArg Prod.fst (va_up_self _ _ _) | exact (congrArg Prod.fst (va_up_ne _ _ (by omega))).trans (by assumption) | exact (congrFun (va_up_ne _ _ (by omega)) _).trans (by assumption) | exact (va_up_ne _ _ (by omega)).trans (va_up_self _ _ _) | exact (va_up_ne _ _ (by omega)).trans ((va_up_ne _ _ (by omega)).trans (by assumption)) | exact (congrArg Prod.fst ((va_up_ne _ _ (by omega)).trans (va_up_ne _ _ (by omega)))).trans (by assumption) | exact (congrFun ((va_up_ne _ _ (by omega)).trans (va_up_ne _ _ (by omega))) _).trans (by assumption) | (rw [va_up_self, va_up_ne _ _ (by omega)]; assumption)) (by first | assumption | exact va_up_self _ _ _ | exact (va_up_ne _ _ (by omega)).trans (by assumption) | exact congrArg Prod.fst (va_up_self _ _ _) | exact (congrArg Prod.fst (va_up_ne _ _ (by omega))).trans (by assumption) | exact (congrFun (va_up_ne _ _ (by omega)) _).trans (by assumption) | exact (va_up_ne _ _ (by omega)).trans (va_up_self _ _ _) | exact (va_up_ne _ _ (by omega)).trans ((va_up_ne _ _ (by omega)).trans (by assumption)) | exact (congrArg Prod.fst ((va_up_ne _ _ (by omega)).trans (va_up_ne _ _ (by omega)))).trans (by assumption) | exact (congrFun ((va_up_ne _ _ (by omega)).trans (va_up_ne _ _ (by omega))) _).trans (by assumption) | (rw [va_up_self, va_up_ne _ _ (by omega)]; assumption)) ?_
      refine tk_getP dX10_binding_23 fX10_279 rfl (by first | assumption | exact va_up_self _ _ _ | exact (va_up_ne _ _ (by omega)).trans (by assumption) | exact congrArg Prod.fst (va_up_self _ _ _) | exact (congrArg Prod.fst (va_up_ne _ _ (by omega))).trans (by assumption) | exact (congrFun (va_up_ne _ _ (by omega)) _).trans (by assumption) | exact (va_up_ne _ _ (by omega)).trans (va_up_self _ _ _) | exact (va_up_ne _ _ (by omega)).trans ((va_up_ne _ _ (by omega)).trans (by assumption)) | exact (congrArg Prod.fst ((va_up_ne _ _ (by omega)).trans (va_up_ne _ _ (by omega)))).trans (by assumption) | exact (congrFun ((va_up_ne _ _ (by omega)).trans (va_up_ne _ _ (by omega))) _).trans (by assumption) | (rw [va_up_self, va_up_ne _ _ (by omega)]; assumption)) (by first | assumption | exact va_up_self _ _ _ | exact (va_up_ne _ _ (by omega)).trans (by assumption) | exact congrArg Prod.fst (va_up_self _ _ _) | exact (congrArg Prod.fst (va_up_ne _ _ (by omega))).trans (by assumption) | exact (congrFun (va_up_ne _ _ (by omega)) _).trans (by assumption) | exact (va_up_ne _ _ (by omega)).trans (va_up_self _ _ _) | exact (va_up_ne _ _ (by omega)).trans ((va_up_ne _ _ (by omega)).trans (by assumption)) | exact (congrArg Prod.fst ((va_up_ne _ _ (by omega)).trans (va_up_ne _ _ (by omega)))).trans (by assumption) | exact (congrFun ((va_up_ne _ _ (by omega)).trans (va_up_ne _ _ (by omega))) _).trans (by assumption) | (rw [va_up_self, va_up_ne _ _ (by omega)]; assumption)) ?_
      refine tk_alen dX10_binding_26 (by first | assumption | exact va_up_self _ _ _ | exact (va_up_ne _ _ (by omega)).trans (by assumption) | exact congrArg Prod.fst (va_up_self _ _ _) | exact (congrArg Prod.fst (va_up_ne _ _ (by omega))).trans (by assumption) | exact (congrFun (va_up_ne _ _ (by omega)) _).trans (by assumption) | exact (va_up_ne _ _ (by omega)).trans (va_up_self _ _ _) | exact (va_up_ne _ _ (by omega)).trans ((va_up_ne _ _ (by omega)).trans (by assumption)) | exact (congrArg Prod.fst ((va_up_ne _ _ (by omega)).trans (va_up_ne _ _ (by omega)))).trans (by assumption) | exact (congrFun ((va_up_ne _ _ (by omega)).trans (va_up_ne _ _ (by omega))) _).trans (by assumption) | (rw [va_up_self, va_up_ne _ _ (by omega)]; assumption)) (by omega) ?_
      first | refine tk_icmp_geN dX10_binding_27 (by omega) (by omega) (fun h27 => ?_) (fun h27 => ?_) | refine tk_jcmp_ge dX10_binding_27 (fun h27 => ?_) (fun h27 => ?_)
      · refine tk_iload1 dX10_binding_102 ?_
        refine tk_ireturn dX10_binding_103 rfl ?_
        obtain rfl : k = pn := by omega
        exact cPst_g rfl rfl (hR.st st) (st.kp hn) jSm.rf
      · exfalso; omega
    | succ d ih =>
      intro k hkd L' m1
      have st := look_st (n := n) (wa := wa) (ca := ca) (ga := ga) hsc m1
      have hk2 := (hN'.st st).2.1
      have k02 := hk2.1
      have k12 := hk2.2.1
      have k62 := hk2.2.2.2.2.1
      have ht2 := ht.ex ftw st.ex
      have t82 := ht2.1
      have t52 := ht2.2.2.2.2.2.1
      have hp2 : pObj T (lkPp P 25 wa ca ga) pic wa ca ga := by have := (st.ex.2 pic fpi).2.2.2; unfold pObj; rw [this]; exact hp
      have v3 := v2.L m1
      have hw2 := v3.2.2.2.1
      obtain ⟨po, rb, z1, z2, z3, z4, z5, z6⟩ := hpa.2.2 k (by omega)
      have z1' : lkPp P 25 wa ca ga pa k = some po := by rw [(st.ex.2 pa hpa.1).2.2.2]; exact z1
      have z4' : lkPp P 25 wa ca ga po 0 = some rb := by rw [(st.ex.2 po z2).2.2.2]; exact z4
      have z7 : (T rb).1 = 4 := z6.2.1
      obtain ⟨y1, y2, y3, y4, y5, y6⟩ := hPH.2.2 k (by omega)
      have eA : paT J LL np W r cn cl pl pg k = true → rBi (paT J LL np W r cn cl pl pg) (k + 1) = rBi (paT J LL np W r cn cl pl pg) k ||| kshl (nI 1) (nI k) := fun h => by rw [rBi, h]; rfl
      have eB : paT J LL np W r cn cl pl pg k = false → rBi (paT J LL np W r cn cl pl pg) (k + 1) = rBi (paT J LL np W r cn cl pl pg) k := fun h => by rw [rBi, h]; exact or_n0 _
      refine tk_iload2 dX10_binding_18 ?_
      refine tk_aload0 dX10_binding_19 ?_
      refine tk_getP dX10_binding_20 fX10_13 rfl (by first | assumption | exact va_up_self _ _ _ | exact (va_up_ne _ _ (by omega)).trans (by assumption) | exact congrArg Prod.fst (va_up_self _ _ _) | exact (congrArg Prod.fst (va_up_ne _ _ (by omega))).trans (by assumption) | exact (congrFun (va_up_ne _ _ (by omega)) _).trans (by assumption) | exact (va_up_ne _ _ (by omega)).trans (va_up_self _ _ _) | exact (va_up_ne _ _ (by omega)).trans ((va_up_ne _ _ (by omega)).trans (by assumption)) | exact (congrArg Prod.fst ((va_up_ne _ _ (by omega)).trans (va_up_ne _ _ (by omega)))).trans (by assumption) | exact (congrFun ((va_up_ne _ _ (by omega)).trans (va_up_ne _ _ (by omega))) _).trans (by assumption) | (rw [va_up_self, va_up_ne _ _ (by omega)]; assumption)) (by first | assumption | exact va_up_self _ _ _ | exact (va_up_ne _ _ (by omega)).trans (by assumption) | exact congrArg Prod.fst (va_up_self _ _ _) | exact (congrArg Prod.fst (va_up_ne _ _ (by omega))).trans (by assumption) | exact (congrFun (va_up_ne _ _ (by omega)) _).trans (by assumption) | exact (va_up_ne _ _ (by omega)).trans (va_up_self _ _ _) | exact (va_up_ne _ _ (by omega)).trans ((va_up_ne _ _ (by omega)).trans (by assumption)) | exact (congrArg Prod.fst ((va_up_ne _ _ (by omega)).trans (va_up_ne _ _ (by omega)))).trans (by assumption) | exact (congrFun ((va_up_ne _ _ (by omega)).trans (va_up_ne _ _ (by omega))) _).trans (by assumption) | (rw [va_up_self, va_up_ne _ _ (by omega)]; assumption)) ?_
      refine tk_getP dX10_binding_23 fX10_279 rfl (by first | assumption | exact va_up_self _ _ _ | exact (va_up_ne _ _ (by omega)).trans (by assumption) | exact congrArg Prod.fst (va_up_self _ _ _) | exact (congrArg Prod.fst (va_up_ne _ _ (by omega))).trans (by assumption) | exact (congrFun (va_up_ne _ _ (by omega)) _).trans (by assumption) | exact (va_up_ne _ _ (by omega)).trans (va_up_self _ _ _) | exact (va_up_ne _ _ (by omega)).trans ((va_up_ne _ _ (by omega)).trans (by assumption)) | exact (congrArg Prod.fst ((va_up_ne _ _ (by omega)).trans (va_up_ne _ _ (by omega)))).trans (by assumption) | exact (congrFun ((va_up_ne _ _ (by omega)).trans (va_up_ne _ _ (by omega))) _).trans (by assumption) | (rw [va_up_self, va_up_ne _ _ (by omega)]; assumption)) (by first | assumption | exact va_up_self _ _ _ | exact (va_up_ne _ _ (by omega)).trans (by assumption) | exact congrArg Prod.fst (va_up_self _ _ _) | exact (congrArg Prod.fst (va_up_ne _ _ (by omega))).trans (by assumption) | exact (congrFun (va_up_ne _ _ (by omega)) _).trans (by assumption) | exact (va_up_ne _ _ (by omega)).trans (va_up_self _ _ _) | exact (va_up_ne _ _ (by omega)).trans ((va_up_ne _ _ (by omega)).trans (by assumption)) | exact (congrArg Prod.fst ((va_up_ne _ _ (by omega)).trans (va_up_ne _ _ (by omega)))).trans (by assumption) | exact (congrFun ((va_up_ne _ _ (by omega)).trans (va_up_ne _ _ (by omega))) _).trans (by assumption) | (rw [va_up_self, va_up_ne _ _ (by omega)]; assumption)) ?_
      refine tk_alen dX10_binding_26 (by first | assumption | exact va_up_self _ _ _ | exact (va_up_ne _ _ (by omega)).trans (by assumption) | exact congrArg Prod.fst (va_up_self _ _ _) | exact (congrArg Prod.fst (va_up_ne _ _ (by omega))).trans (by assumption) | exact (congrFun (va_up_ne _ _ (by omega)) _).trans (by assumption) | exact (va_up_ne _ _ (by omega)).trans (va_up_self _ _ _) | exact (va_up_ne _ _ (by omega)).trans ((va_up_ne _ _ (by omega)).trans (by assumption)) | exact (congrArg Prod.fst ((va_up_ne _ _ (by omega)).trans (va_up_ne _ _ (by omega)))).trans (by assumption) | exact (congrFun ((va_up_ne _ _ (by omega)).trans (va_up_ne _ _ (by omega))) _).trans (by assumption) | (rw [va_up_self, va_up_ne _ _ (by omega)]; assumption)) (by omega) ?_
      first | refine tk_icmp_geN dX10_binding_27 (by omega) (by omega) (fun h27 => ?_) (fun h27 => ?_) | refine tk_jcmp_ge dX10_binding_27 (fun h27 => ?_) (fun h27 => ?_)
      · exfalso; omega
      · refine tk_aload0 dX10_binding_30 ?_
        refine tk_getP dX10_binding_31 fX10_13 rfl (by first | assumption | exact va_up_self _ _ _ | exact (va_up_ne _ _ (by omega)).trans (by assumption) | exact congrArg Prod.fst (va_up_self _ _ _) | exact (congrArg Prod.fst (va_up_ne _ _ (by omega))).trans (by assumption) | exact (congrFun (va_up_ne _ _ (by omega)) _).trans (by assumption) | exact (va_up_ne _ _ (by omega)).trans (va_up_self _ _ _) | exact (va_up_ne _ _ (by omega)).trans ((va_up_ne _ _ (by omega)).trans (by assumption)) | exact (congrArg Prod.fst ((va_up_ne _ _ (by omega)).trans (va_up_ne _ _ (by omega)))).trans (by assumption) | exact (congrFun ((va_up_ne _ _ (by omega)).trans (va_up_ne _ _ (by omega))) _).trans (by assumption) | (rw [va_up_self, va_up_ne _ _ (by omega)]; assumption)) (by first | assumption | exact va_up_self _ _ _ | exact (va_up_ne _ _ (by omega)).trans (by assumption) | exact congrArg Prod.fst (va_up_self _ _ _) | exact (congrArg Prod.fst (va_up_ne _ _ (by omega))).trans (by assumption) | exact (congrFun (va_up_ne _ _ (by omega)) _).trans (by assumption) | exact (va_up_ne _ _ (by omega)).trans (va_up_self _ _ _) | exact (va_up_ne _ _ (by omega)).trans ((va_up_ne _ _ (by omega)).trans (by assumption)) | exact (congrArg Prod.fst ((va_up_ne _ _ (by omega)).trans (va_up_ne _ _ (by omega)))).trans (by assumption) | exact (congrFun ((va_up_ne _ _ (by omega)).trans (va_up_ne _ _ (by omega))) _).trans (by assumption) | (rw [va_up_self, va_up_ne _ _ (by omega)]; assumption)) ?_
        refine tk_getP dX10_binding_34 fX10_279 rfl (by first | assumption | exact va_up_self _ _ _ | exact (va_up_ne _ _ (by omega)).trans (by assumption) | exact congrArg Prod.fst (va_up_self _ _ _) | exact (congrArg Prod.fst (va_up_ne _ _ (by omega))).trans (by assumption) | exact (congrFun (va_up_ne _ _ (by omega)) _).trans (by assumption) | exact (va_up_ne _ _ (by omega)).trans (va_up_self _ _ _) | exact (va_up_ne _ _ (by omega)).trans ((va_up_ne _ _ (by omega)).trans (by assumption)) | exact (congrArg Prod.fst ((va_up_ne _ _ (by omega)).trans (va_up_ne _ _ (by omega)))).trans (by assumption) | exact (congrFun ((va_up_ne _ _ (by omega)).trans (va_up_ne _ _ (by omega))) _).trans (by assumption) | (rw [va_up_self, va_up_ne _ _ (by omega)]; assumption)) (by first | assumption | exact va_up_self _ _ _ | exact (va_up_ne _ _ (by omega)).trans (by assumption) | exact congrArg Prod.fst (va_up_self _ _ _) | exact (congrArg Prod.fst (va_up_ne _ _ (by omega))).trans (by assumption) | exact (congrFun (va_up_ne _ _ (by omega)) _).trans (by assumption) | exact (va_up_ne _ _ (by omega)).trans (va_up_self _ _ _) | exact (va_up_ne _ _ (by omega)).trans ((va_up_ne _ _ (by omega)).trans (by assumption)) | exact (congrArg Prod.fst ((va_up_ne _ _ (by omega)).trans (va_up_ne _ _ (by omega)))).trans (by assumption) | exact (congrFun ((va_up_ne _ _ (by omega)).trans (va_up_ne _ _ (by omega))) _).trans (by assumption) | (rw [va_up_self, va_up_ne _ _ (by omega)]; assumption)) ?_
        refine tk_iload2 dX10_binding_37 ?_
        refine tk_aald dX10_binding_38 (by first | assumption | exact va_up_self _ _ _ | exact (va_up_ne _ _ (by omega)).trans (by assumption) | exact congrArg Prod.fst (va_up_self _ _ _) | exact (congrArg Prod.fst (va_up_ne _ _ (by omega))).trans (by assumption) | exact (congrFun (va_up_ne _ _ (by omega)) _).trans (by assumption) | exact (va_up_ne _ _ (by omega)).trans (va_up_self _ _ _) | exact (va_up_ne _ _ (by omega)).trans ((va_up_ne _ _ (by omega)).trans (by assumption)) | exact (congrArg Prod.fst ((va_up_ne _ _ (by omega)).trans (va_up_ne _ _ (by omega)))).trans (by assumption) | exact (congrFun ((va_up_ne _ _ (by omega)).trans (va_up_ne _ _ (by omega))) _).trans (by assumption) | (rw [va_up_self, va_up_ne _ _ (by omega)]; assumption)) (by omega) (by omega) (by omega) (by first | assumption | exact va_up_self _ _ _ | exact (va_up_ne _ _ (by omega)).trans (by assumption) | exact congrArg Prod.fst (va_up_self _ _ _) | exact (congrArg Prod.fst (va_up_ne _ _ (by omega))).trans (by assumption) | exact (congrFun (va_up_ne _ _ (by omega)) _).trans (by assumption) | exact (va_up_ne _ _ (by omega)).trans (va_up_self _ _ _) | exact (va_up_ne _ _ (by omega)).trans ((va_up_ne _ _ (by omega)).trans (by assumption)) | exact (congrArg Prod.fst ((va_up_ne _ _ (by omega)).trans (va_up_ne _ _ (by omega)))).trans (by assumption) | exact (congrFun ((va_up_ne _ _ (by omega)).trans (va_up_ne _ _ (by omega))) _).trans (by assumption) | (rw [va_up_self, va_up_ne _ _ (by omega)]; assumption)) ?_
        refine tk_astore3 dX10_binding_39 rfl ?_
        refine tk_aload0 dX10_binding_40 ?_
        refine tk_getP dX10_binding_41 fX10_43 rfl (by first | assumption | exact va_up_self _ _ _ | exact (va_up_ne _ _ (by omega)).trans (by assumption) | exact congrArg Prod.fst (va_up_self _ _ _) | exact (congrArg Prod.fst (va_up_ne _ _ (by omega))).trans (by assumption) | exact (congrFun (va_up_ne _ _ (by omega)) _).trans (by assumption) | exact (va_up_ne _ _ (by omega)).trans (va_up_self _ _ _) | exact (va_up_ne _ _ (by omega)).trans ((va_up_ne _ _ (by omega)).trans (by assumption)) | exact (congrArg Prod.fst ((va_up_ne _ _ (by omega)).trans (va_up_ne _ _ (by omega)))).trans (by assumption) | exact (congrFun ((va_up_ne _ _ (by omega)).trans (va_up_ne _ _ (by omega))) _).trans (by assumption) | (rw [va_up_self, va_up_ne _ _ (by omega)]; assumption)) (by first | assumption | exact va_up_self _ _ _ | exact (va_up_ne _ _ (by omega)).trans (by assumption) | exact congrArg Prod.fst (va_up_self _ _ _) | exact (congrArg Prod.fst (va_up_ne _ _ (by omega))).trans (by assumption) | exact (congrFun (va_up_ne _ _ (by omega)) _).trans (by assumption) | exact (va_up_ne _ _ (by omega)).trans (va_up_self _ _ _) | exact (va_up_ne _ _ (by omega)).trans ((va_up_ne _ _ (by omega)).trans (by assumption)) | exact (congrArg Prod.fst ((va_up_ne _ _ (by omega)).trans (va_up_ne _ _ (by omega)))).trans (by assumption) | exact (congrFun ((va_up_ne _ _ (by omega)).trans (va_up_ne _ _ (by omega))) _).trans (by assumption) | (rw [va_up_self, va_up_ne _ _ (by omega)]; assumption)) ?_
        refine tk_aload3 dX10_binding_44 ?_
        refine tk_getP dX10_binding_45 fX10_292 rfl (by first | assumption | exact va_up_self _ _ _ | exact (va_up_ne _ _ (by omega)).trans (by assumption) | exact congrArg Prod.fst (va_up_self _ _ _) | exact (congrArg Prod.fst (va_up_ne _ _ (by omega))).trans (by assumption) | exact (congrFun (va_up_ne _ _ (by omega)) _).trans (by assumption) | exact (va_up_ne _ _ (by omega)).trans (va_up_self _ _ _) | exact (va_up_ne _ _ (by omega)).trans ((va_up_ne _ _ (by omega)).trans (by assumption)) | exact (congrArg Prod.fst ((va_up_ne _ _ (by omega)).trans (va_up_ne _ _ (by omega)))).trans (by assumption) | exact (congrFun ((va_up_ne _ _ (by omega)).trans (va_up_ne _ _ (by omega))) _).trans (by assumption) | (rw [va_up_self, va_up_ne _ _ (by omega)]; assumption)) (by first | assumption | exact va_up_self _ _ _ | exact (va_up_ne _ _ (by omega)).trans (by assumption) | exact congrArg Prod.fst (va_up_self _ _ _) | exact (congrArg Prod.fst (va_up_ne _ _ (by omega))).trans (by assumption) | exact (congrFun (va_up_ne _ _ (by omega)) _).trans (by assumption) | exact (va_up_ne _ _ (by omega)).trans (va_up_self _ _ _) | exact (va_up_ne _ _ (by omega)).trans ((va_up_ne _ _ (by omega)).trans (by assumption)) | exact (congrArg Prod.fst ((va_up_ne _ _ (by omega)).trans (va_up_ne _ _ (by omega)))).trans (by assumption) | exact (congrFun ((va_up_ne _ _ (by omega)).trans (va_up_ne _ _ (by omega))) _).trans (by assumption) | (rw [va_up_self, va_up_ne _ _ (by omega)]; assumption)) ?_
        refine tk_aload0 dX10_binding_48 ?_
        refine tk_callV0z dX10_binding_49 kX10_84 (by first | assumption | exact va_up_self _ _ _ | exact (va_up_ne _ _ (by omega)).trans (by assumption) | exact congrArg Prod.fst (va_up_self _ _ _) | exact (congrArg Prod.fst (va_up_ne _ _ (by omega))).trans (by assumption) | exact (congrFun (va_up_ne _ _ (by omega)) _).trans (by assumption) | exact (va_up_ne _ _ (by omega)).trans (va_up_self _ _ _) | exact (va_up_ne _ _ (by omega)).trans ((va_up_ne _ _ (by omega)).trans (by assumption)) | exact (congrArg Prod.fst ((va_up_ne _ _ (by omega)).trans (va_up_ne _ _ (by omega)))).trans (by assumption) | exact (congrFun ((va_up_ne _ _ (by omega)).trans (va_up_ne _ _ (by omega))) _).trans (by assumption) | (rw [va_up_self, va_up_ne _ _ (by omega)]; assumption)) (c_worlds hk2 ht2 hp2) (Nat.le_of_ble_eq_true rfl) (by omega) ?_
        refine tk_callV0z dX10_binding_52 kX10_189 (by first | assumption | exact va_up_self _ _ _ | exact (va_up_ne _ _ (by omega)).trans (by assumption) | exact congrArg Prod.fst (va_up_self _ _ _) | exact (congrArg Prod.fst (va_up_ne _ _ (by omega))).trans (by assumption) | exact (congrFun (va_up_ne _ _ (by omega)) _).trans (by assumption) | exact (va_up_ne _ _ (by omega)).trans (va_up_self _ _ _) | exact (va_up_ne _ _ (by omega)).trans ((va_up_ne _ _ (by omega)).trans (by assumption)) | exact (congrArg Prod.fst ((va_up_ne _ _ (by omega)).trans (va_up_ne _ _ (by omega)))).trans (by assumption) | exact (congrFun ((va_up_ne _ _ (by omega)).trans (va_up_ne _ _ (by omega))) _).trans (by assumption) | (rw [va_up_self, va_up_ne _ _ (by omega)]; assumption)) (c_every hw2 W1 W64) (Nat.le_of_ble_eq_true rfl) (by omega) ?_
        refine tk_callV2q dX10_binding_55 kX10_296 (by first | assumption | exact va_up_self _ _ _ | exact (va_up_ne _ _ (by omega)).trans (by assumption) | exact congrArg Prod.fst (va_up_self _ _ _) | exact (congrArg Prod.fst (va_up_ne _ _ (by omega))).trans (by assumption) | exact (congrFun (va_up_ne _ _ (by omega)) _).trans (by assumption) | exact (va_up_ne _ _ (by omega)).trans (va_up_self _ _ _) | exact (va_up_ne _ _ (by omega)).trans ((va_up_ne _ _ (by omega)).trans (by assumption)) | exact (congrArg Prod.fst ((va_up_ne _ _ (by omega)).trans (va_up_ne _ _ (by omega)))).trans (by assumption) | exact (congrFun ((va_up_ne _ _ (by omega)).trans (va_up_ne _ _ (by omega))) _).trans (by assumption) | (rw [va_up_self, va_up_ne _ _ (by omega)]; assumption)) (c_soIn v3 (z6.ex st.ex) y2 y4 (fun v hv => (tb_evrT W64).mp hv)) (Nat.le_of_ble_eq_true rfl) (by omega) ?_
        rintro rr hh1 ⟨x, L2, rfl, rfl, m2, m3⟩
        dsimp only [Option.toList, List.singleton_append]
        rw [evr_S W64, ta0, cTi_z nf4] at m3
        have m3' : ∀ u, tb x u = true ↔ sSO np cn (faF (J 42)) (cTi (J 43) (J 42) W nf (fun _ => nI 0)) (memG (J 45)) (J 49) cl (fun i => J 51 (14 * k + i)) (pl k) (fun u => u < W) u := by rw [cTi_z nf4]; exact m3
        have ex := so_SOP W64 nf4 (fun c hc => (hcW c hc).2.2.2) y4 m3'
        have m12 := m1.tr m2
        have st2 := look_st (n := n) (wa := wa) (ca := ca) (ga := ga) hsc m12
        have v4 := v2.L m12
        have hw3 := v4.2.2.2.1
        refine tk_lstore4 dX10_binding_58 rfl ?_
        refine tk_aload0 dX10_binding_60 ?_
        refine tk_callV0z dX10_binding_61 kX10_84 (by first | assumption | exact va_up_self _ _ _ | exact (va_up_ne _ _ (by omega)).trans (by assumption) | exact congrArg Prod.fst (va_up_self _ _ _) | exact (congrArg Prod.fst (va_up_ne _ _ (by omega))).trans (by assumption) | exact (congrFun (va_up_ne _ _ (by omega)) _).trans (by assumption) | exact (va_up_ne _ _ (by omega)).trans (va_up_self _ _ _) | exact (va_up_ne _ _ (by omega)).trans ((va_up_ne _ _ (by omega)).trans (by assumption)) | exact (congrArg Prod.fst ((va_up_ne _ _ (by omega)).trans (va_up_ne _ _ (by omega)))).trans (by assumption) | exact (congrFun ((va_up_ne _ _ (by omega)).trans (va_up_ne _ _ (by omega))) _).trans (by assumption) | (rw [va_up_self, va_up_ne _ _ (by omega)]; assumption)) (c_worlds hk2 ht2 hp2) (Nat.le_of_ble_eq_true rfl) (by omega) ?_
        refine tk_aload0 dX10_binding_64 ?_
        refine tk_getP dX10_binding_65 fX10_43 rfl (by first | assumption | exact va_up_self _ _ _ | exact (va_up_ne _ _ (by omega)).trans (by assumption) | exact congrArg Prod.fst (va_up_self _ _ _) | exact (congrArg Prod.fst (va_up_ne _ _ (by omega))).trans (by assumption) | exact (congrFun (va_up_ne _ _ (by omega)) _).trans (by assumption) | exact (va_up_ne _ _ (by omega)).trans (va_up_self _ _ _) | exact (va_up_ne _ _ (by omega)).trans ((va_up_ne _ _ (by omega)).trans (by assumption)) | exact (congrArg Prod.fst ((va_up_ne _ _ (by omega)).trans (va_up_ne _ _ (by omega)))).trans (by assumption) | exact (congrFun ((va_up_ne _ _ (by omega)).trans (va_up_ne _ _ (by omega))) _).trans (by assumption) | (rw [va_up_self, va_up_ne _ _ (by omega)]; assumption)) (by first | assumption | exact va_up_self _ _ _ | exact (va_up_ne _ _ (by omega)).trans (by assumption) | exact congrArg Prod.fst (va_up_self _ _ _) | exact (congrArg Prod.fst (va_up_ne _ _ (by omega))).trans (by assumption) | exact (congrFun (va_up_ne _ _ (by omega)) _).trans (by assumption) | exact (va_up_ne _ _ (by omega)).trans (va_up_self _ _ _) | exact (va_up_ne _ _ (by omega)).trans ((va_up_ne _ _ (by omega)).trans (by assumption)) | exact (congrArg Prod.fst ((va_up_ne _ _ (by omega)).trans (va_up_ne _ _ (by omega)))).trans (by assumption) | exact (congrFun ((va_up_ne _ _ (by omega)).trans (va_up_ne _ _ (by omega))) _).trans (by assumption) | (rw [va_up_self, va_up_ne _ _ (by omega)]; assumption)) ?_
        refine tk_aload3 dX10_binding_68 ?_
        refine tk_getI dX10_binding_69 fX10_300 rfl (by first | assumption | exact va_up_self _ _ _ | exact (va_up_ne _ _ (by omega)).trans (by assumption) | exact congrArg Prod.fst (va_up_self _ _ _) | exact (congrArg Prod.fst (va_up_ne _ _ (by omega))).trans (by assumption) | exact (congrFun (va_up_ne _ _ (by omega)) _).trans (by assumption) | exact (va_up_ne _ _ (by omega)).trans (va_up_self _ _ _) | exact (va_up_ne _ _ (by omega)).trans ((va_up_ne _ _ (by omega)).trans (by assumption)) | exact (congrArg Prod.fst ((va_up_ne _ _ (by omega)).trans (va_up_ne _ _ (by omega)))).trans (by assumption) | exact (congrFun ((va_up_ne _ _ (by omega)).trans (va_up_ne _ _ (by omega))) _).trans (by assumption) | (rw [va_up_self, va_up_ne _ _ (by omega)]; assumption)) ?_
        rw [(st.ex.2 po z2).2.1, z5]
        refine tk_lload4 dX10_binding_72 ?_
        refine tk_aload0 dX10_binding_74 ?_
        refine tk_callV0z dX10_binding_75 kX10_84 (by first | assumption | exact va_up_self _ _ _ | exact (va_up_ne _ _ (by omega)).trans (by assumption) | exact congrArg Prod.fst (va_up_self _ _ _) | exact (congrArg Prod.fst (va_up_ne _ _ (by omega))).trans (by assumption) | exact (congrFun (va_up_ne _ _ (by omega)) _).trans (by assumption) | exact (va_up_ne _ _ (by omega)).trans (va_up_self _ _ _) | exact (va_up_ne _ _ (by omega)).trans ((va_up_ne _ _ (by omega)).trans (by assumption)) | exact (congrArg Prod.fst ((va_up_ne _ _ (by omega)).trans (va_up_ne _ _ (by omega)))).trans (by assumption) | exact (congrFun ((va_up_ne _ _ (by omega)).trans (va_up_ne _ _ (by omega))) _).trans (by assumption) | (rw [va_up_self, va_up_ne _ _ (by omega)]; assumption)) (c_worlds hk2 ht2 hp2) (Nat.le_of_ble_eq_true rfl) (by omega) ?_
        refine tk_callV0z dX10_binding_78 kX10_189 (by first | assumption | exact va_up_self _ _ _ | exact (va_up_ne _ _ (by omega)).trans (by assumption) | exact congrArg Prod.fst (va_up_self _ _ _) | exact (congrArg Prod.fst (va_up_ne _ _ (by omega))).trans (by assumption) | exact (congrFun (va_up_ne _ _ (by omega)) _).trans (by assumption) | exact (va_up_ne _ _ (by omega)).trans (va_up_self _ _ _) | exact (va_up_ne _ _ (by omega)).trans ((va_up_ne _ _ (by omega)).trans (by assumption)) | exact (congrArg Prod.fst ((va_up_ne _ _ (by omega)).trans (va_up_ne _ _ (by omega)))).trans (by assumption) | exact (congrFun ((va_up_ne _ _ (by omega)).trans (va_up_ne _ _ (by omega))) _).trans (by assumption) | (rw [va_up_self, va_up_ne _ _ (by omega)]; assumption)) (c_every hw3 W1 W64) (Nat.le_of_ble_eq_true rfl) (by omega) ?_
        refine tk_callV3q dX10_binding_81 kX10_303 (by first | assumption | exact va_up_self _ _ _ | exact (va_up_ne _ _ (by omega)).trans (by assumption) | exact congrArg Prod.fst (va_up_self _ _ _) | exact (congrArg Prod.fst (va_up_ne _ _ (by omega))).trans (by assumption) | exact (congrFun (va_up_ne _ _ (by omega)) _).trans (by assumption) | exact (va_up_ne _ _ (by omega)).trans (va_up_self _ _ _) | exact (va_up_ne _ _ (by omega)).trans ((va_up_ne _ _ (by omega)).trans (by assumption)) | exact (congrArg Prod.fst ((va_up_ne _ _ (by omega)).trans (va_up_ne _ _ (by omega)))).trans (by assumption) | exact (congrFun ((va_up_ne _ _ (by omega)).trans (va_up_ne _ _ (by omega))) _).trans (by assumption) | (rw [va_up_self, va_up_ne _ _ (by omega)]; assumption)) (c_common v4 y6 _ (fun v hv => (tb_evrT W64).mp hv)) (Nat.le_of_ble_eq_true rfl) (by omega) ?_
        rintro rr hh1 ⟨y, rfl, rfl, hy⟩
        dsimp only [Option.toList, List.singleton_append]
        rw [ta0, cTi_z nf4] at hy
        have hpy : tb y r = paT J LL np W r cn cl pl pg k := by
          rw [Bool.eq_iff_iff, hy r, pa_eq hTH hPH (show k < pn by omega) ex]
          exact ⟨fun z => z.2, fun z => ⟨(tb_evrT W64).mpr rW, z⟩⟩
        refine tk_callV1z dX10_binding_84 kX10_219 (by first | assumption | exact va_up_self _ _ _ | exact (va_up_ne _ _ (by omega)).trans (by assumption) | exact congrArg Prod.fst (va_up_self _ _ _) | exact (congrArg Prod.fst (va_up_ne _ _ (by omega))).trans (by assumption) | exact (congrFun (va_up_ne _ _ (by omega)) _).trans (by assumption) | exact (va_up_ne _ _ (by omega)).trans (va_up_self _ _ _) | exact (va_up_ne _ _ (by omega)).trans ((va_up_ne _ _ (by omega)).trans (by assumption)) | exact (congrArg Prod.fst ((va_up_ne _ _ (by omega)).trans (va_up_ne _ _ (by omega)))).trans (by assumption) | exact (congrFun ((va_up_ne _ _ (by omega)).trans (va_up_ne _ _ (by omega))) _).trans (by assumption) | (rw [va_up_self, va_up_ne _ _ (by omega)]; assumption)) (c_hasReal hw3 (by omega) _) (Nat.le_of_ble_eq_true rfl) (by omega) ?_
        rw [hpy]
        first | refine tk_jf_eqB dX10_binding_87 (fun h87 => ?_) (fun h87 => ?_) | refine tk_if_eq dX10_binding_87 (fun h87 => ?_) (fun h87 => ?_)
        · first | refine tk_iinc2 dX10_binding_96 (kc_inc _) rfl ?_ | refine tk_iinc2 dX10_binding_96 rfl rfl ?_
          refine tk_goto dX10_binding_99 ?_
          first
            | rw [← eA h87]; exact tk_wk (by repeat' (first | exact trivial | refine ⟨Or.inl rfl, ?_⟩ | refine ⟨Or.inr rfl, ?_⟩)) (ih (k + 1) (by omega) _ m12)
            | rw [← eB h87]; exact tk_wk (by repeat' (first | exact trivial | refine ⟨Or.inl rfl, ?_⟩ | refine ⟨Or.inr rfl, ?_⟩)) (ih (k + 1) (by omega) _ m12)
        · refine tk_iload1 dX10_binding_90 ?_
          refine tk_iconst dX10_binding_91 kc_iconst_1 ?_
          refine tk_iload2 dX10_binding_92 ?_
          refine tk_ishl dX10_binding_93 ?_
          refine tk_ior dX10_binding_94 ?_
          refine tk_istore1 dX10_binding_95 rfl ?_
          first | refine tk_iinc2 dX10_binding_96 (kc_inc _) rfl ?_ | refine tk_iinc2 dX10_binding_96 rfl rfl ?_
          refine tk_goto dX10_binding_99 ?_
          first
            | rw [← eA h87]; exact tk_wk (by repeat' (first | exact trivial | refine ⟨Or.inl rfl, ?_⟩ | refine ⟨Or.inr rfl, ?_⟩)) (ih (k + 1) (by omega) _ m12)
            | rw [← eB h87]; exact tk_wk (by repeat' (first | exact trivial | refine ⟨Or.inl rfl, ?_⟩ | refine ⟨Or.inr rfl, ?_⟩)) (ih (k + 1) (by omega) _ m12)
  refine tkM.of (ls := [some _, none, none, none, none, none]) (by decide +kernel) (by decide +kernel) (Nat.le_of_ble_eq_true rfl) rfl ?_
  refine tk_iconst dX10_binding_0 kc_iconst_0 ?_
  refine tk_istore1 dX10_binding_1 rfl ?_
  refine tk_aload0 dX10_binding_2 ?_
  refine tk_getP dX10_binding_3 fX10_43 rfl (by first | assumption | exact va_up_self _ _ _ | exact (va_up_ne _ _ (by omega)).trans (by assumption) | exact congrArg Prod.fst (va_up_self _ _ _) | exact (congrArg Prod.fst (va_up_ne _ _ (by omega))).trans (by assumption) | exact (congrFun (va_up_ne _ _ (by omega)) _).trans (by assumption) | exact (va_up_ne _ _ (by omega)).trans (va_up_self _ _ _) | exact (va_up_ne _ _ (by omega)).trans ((va_up_ne _ _ (by omega)).trans (by assumption)) | exact (congrArg Prod.fst ((va_up_ne _ _ (by omega)).trans (va_up_ne _ _ (by omega)))).trans (by assumption) | exact (congrFun ((va_up_ne _ _ (by omega)).trans (va_up_ne _ _ (by omega))) _).trans (by assumption) | (rw [va_up_self, va_up_ne _ _ (by omega)]; assumption)) (by first | assumption | exact va_up_self _ _ _ | exact (va_up_ne _ _ (by omega)).trans (by assumption) | exact congrArg Prod.fst (va_up_self _ _ _) | exact (congrArg Prod.fst (va_up_ne _ _ (by omega))).trans (by assumption) | exact (congrFun (va_up_ne _ _ (by omega)) _).trans (by assumption) | exact (va_up_ne _ _ (by omega)).trans (va_up_self _ _ _) | exact (va_up_ne _ _ (by omega)).trans ((va_up_ne _ _ (by omega)).trans (by assumption)) | exact (congrArg Prod.fst ((va_up_ne _ _ (by omega)).trans (va_up_ne _ _ (by omega)))).trans (by assumption) | exact (congrFun ((va_up_ne _ _ (by omega)).trans (va_up_ne _ _ (by omega))) _).trans (by assumption) | (rw [va_up_self, va_up_ne _ _ (by omega)]; assumption)) ?_
  refine tk_aload0 dX10_binding_6 ?_
  refine tk_getP dX10_binding_7 fX10_13 rfl (by first | assumption | exact va_up_self _ _ _ | exact (va_up_ne _ _ (by omega)).trans (by assumption) | exact congrArg Prod.fst (va_up_self _ _ _) | exact (congrArg Prod.fst (va_up_ne _ _ (by omega))).trans (by assumption) | exact (congrFun (va_up_ne _ _ (by omega)) _).trans (by assumption) | exact (va_up_ne _ _ (by omega)).trans (va_up_self _ _ _) | exact (va_up_ne _ _ (by omega)).trans ((va_up_ne _ _ (by omega)).trans (by assumption)) | exact (congrArg Prod.fst ((va_up_ne _ _ (by omega)).trans (va_up_ne _ _ (by omega)))).trans (by assumption) | exact (congrFun ((va_up_ne _ _ (by omega)).trans (va_up_ne _ _ (by omega))) _).trans (by assumption) | (rw [va_up_self, va_up_ne _ _ (by omega)]; assumption)) (by first | assumption | exact va_up_self _ _ _ | exact (va_up_ne _ _ (by omega)).trans (by assumption) | exact congrArg Prod.fst (va_up_self _ _ _) | exact (congrArg Prod.fst (va_up_ne _ _ (by omega))).trans (by assumption) | exact (congrFun (va_up_ne _ _ (by omega)) _).trans (by assumption) | exact (va_up_ne _ _ (by omega)).trans (va_up_self _ _ _) | exact (va_up_ne _ _ (by omega)).trans ((va_up_ne _ _ (by omega)).trans (by assumption)) | exact (congrArg Prod.fst ((va_up_ne _ _ (by omega)).trans (va_up_ne _ _ (by omega)))).trans (by assumption) | exact (congrFun ((va_up_ne _ _ (by omega)).trans (va_up_ne _ _ (by omega))) _).trans (by assumption) | (rw [va_up_self, va_up_ne _ _ (by omega)]; assumption)) ?_
  refine tk_getP dX10_binding_10 fX10_106 rfl (by first | assumption | exact va_up_self _ _ _ | exact (va_up_ne _ _ (by omega)).trans (by assumption) | exact congrArg Prod.fst (va_up_self _ _ _) | exact (congrArg Prod.fst (va_up_ne _ _ (by omega))).trans (by assumption) | exact (congrFun (va_up_ne _ _ (by omega)) _).trans (by assumption) | exact (va_up_ne _ _ (by omega)).trans (va_up_self _ _ _) | exact (va_up_ne _ _ (by omega)).trans ((va_up_ne _ _ (by omega)).trans (by assumption)) | exact (congrArg Prod.fst ((va_up_ne _ _ (by omega)).trans (va_up_ne _ _ (by omega)))).trans (by assumption) | exact (congrFun ((va_up_ne _ _ (by omega)).trans (va_up_ne _ _ (by omega))) _).trans (by assumption) | (rw [va_up_self, va_up_ne _ _ (by omega)]; assumption)) (by first | assumption | exact va_up_self _ _ _ | exact (va_up_ne _ _ (by omega)).trans (by assumption) | exact congrArg Prod.fst (va_up_self _ _ _) | exact (congrArg Prod.fst (va_up_ne _ _ (by omega))).trans (by assumption) | exact (congrFun (va_up_ne _ _ (by omega)) _).trans (by assumption) | exact (va_up_ne _ _ (by omega)).trans (va_up_self _ _ _) | exact (va_up_ne _ _ (by omega)).trans ((va_up_ne _ _ (by omega)).trans (by assumption)) | exact (congrArg Prod.fst ((va_up_ne _ _ (by omega)).trans (va_up_ne _ _ (by omega)))).trans (by assumption) | exact (congrFun ((va_up_ne _ _ (by omega)).trans (va_up_ne _ _ (by omega))) _).trans (by assumption) | (rw [va_up_self, va_up_ne _ _ (by omega)]; assumption)) ?_
  refine tk_callV1y dX10_binding_13 kX10_254 (by first | assumption | exact va_up_self _ _ _ | exact (va_up_ne _ _ (by omega)).trans (by assumption) | exact congrArg Prod.fst (va_up_self _ _ _) | exact (congrArg Prod.fst (va_up_ne _ _ (by omega))).trans (by assumption) | exact (congrFun (va_up_ne _ _ (by omega)) _).trans (by assumption) | exact (va_up_ne _ _ (by omega)).trans (va_up_self _ _ _) | exact (va_up_ne _ _ (by omega)).trans ((va_up_ne _ _ (by omega)).trans (by assumption)) | exact (congrArg Prod.fst ((va_up_ne _ _ (by omega)).trans (va_up_ne _ _ (by omega)))).trans (by assumption) | exact (congrFun ((va_up_ne _ _ (by omega)).trans (va_up_ne _ _ (by omega))) _).trans (by assumption) | (rw [va_up_self, va_up_ne _ _ (by omega)]; assumption)) (c_look (z := 25) (by omega) v1 hsc.1 hp) (Nat.le_of_ble_eq_true rfl) (by omega) ?_
  refine tk_iconst dX10_binding_16 kc_iconst_0 ?_
  refine tk_istore2 dX10_binding_17 rfl ?_
  exact tk_wk (by repeat' (first | exact trivial | refine ⟨Or.inl rfl, ?_⟩ | refine ⟨Or.inr rfl, ?_⟩)) (go pn 0 (by omega) L (fun _ _ _ => rfl))
end KNOWN
