/-! ===== the class: pacts, marks ===== -/
section ACTS6
variable {G : tkG} {n : Nat} {T : Nat → Nat × Nat} {I J : Nat → Nat → Int32} {L : Nat → Nat → Int64} {P : Nat → Nat → Option Nat} {tw np nf W r cn : Nat} {cl : Nat → Nat} {pn : Nat} {pl pg : Nat → Nat} {mn : Nat} {mW mr mc : Nat → Nat} {ml : Nat → Nat → Nat}
theorem k_pact (hN : cNow n T I L P J tw np nf W r cn cl pn pl pg mn mW mr mc ml) {m : Nat} (hm : m ≤ 12) (hm0 : J 40 20 = nI m) (s g : Int32) : tkM G mX10_pact 4 3 22 [vR 0, vI s, vI g] (n, T, I, L, P) (cPst n T I L P J (rPaC J s g) (nI pn) (va_up (va_up (va_up (va_up (rKp J m) 41 (va_up (J 41) 5 (nI pn + 1))) 51 (tkco (J 51) (fun i => J 47 (14 * ix s + i)) (14 * pn) (ix (J 48 (ix s))))) 52 (va_up (J 52) pn (J 48 (ix s)))) 53 (va_up (J 53) pn g))) := by
  have hN' := hN
  obtain ⟨hR, hk, ⟨hTH, hPH, hMH, hGW, hob⟩, ftw, pic, sta, oa, se, pa, ma, ht, hpc, hst, hoa, hse, hpa, hma⟩ := hN
  have hn := hR.1
  have hsc := hR.2.1
  have hk' := hk
  obtain ⟨k0, k1, k2, k3, k4, k5, k6⟩ := hk'
  have ht' := ht
  obtain ⟨u0, u1, u2, u3, u4, u5, u6⟩ := ht'
  have hpc' := hpc
  obtain ⟨fpi, tpi, wa, ca, ga, p1, p2, p3, hw, fca, hca, hcl, fga, hga, hgr⟩ := hpc'
  have hp : pObj T P pic wa ca ga := ⟨tpi, p1, p2, p3⟩
  have hTH' := hTH
  obtain ⟨h41, np1, np4, h411, nf1, nf4, h412, W1, W64, h413, rW, h414, cn5, hcW, hsW⟩ := hTH'
  have se6 := hse.2.1
  have fse := hse.1
  have pa24 := hpa.2.1
  have fpa := hpa.1
  have f2 := ftw.2
  have f4 := fse.2
  obtain ⟨hp5, hp4, hpw⟩ := hPH
  refine tkM.of (ls := [some _, some _, some _, none]) (by decide +kernel) (by decide +kernel) (Nat.le_of_ble_eq_true rfl) rfl ?_
  refine tk_iload1 dX10_pact_0 ?_
  refine tk_callS1z dX10_pact_1 kX10_123 (c_isSentence s) (Nat.le_of_ble_eq_true rfl) (by omega) ?_
  first | refine tk_jf_eqB dX10_pact_4 (fun h4 => ?_) (fun h4 => ?_) | refine tk_if_eq dX10_pact_4 (fun h4 => ?_) (fun h4 => ?_)
  · refine tk_aload0 dX10_pact_14 ?_
    refine tk_ldc dX10_pact_15 klX10_65 ?_
    refine tk_callV1z dX10_pact_17 kX10_66 (by first | assumption | exact va_up_self _ _ _ | exact (va_up_ne _ _ (by omega)).trans (by assumption) | exact congrArg Prod.fst (va_up_self _ _ _) | exact (congrArg Prod.fst (va_up_ne _ _ (by omega))).trans (by assumption) | exact (congrFun (va_up_ne _ _ (by omega)) _).trans (by assumption) | exact (va_up_ne _ _ (by omega)).trans (va_up_self _ _ _) | exact (va_up_ne _ _ (by omega)).trans ((va_up_ne _ _ (by omega)).trans (by assumption)) | exact (congrArg Prod.fst ((va_up_ne _ _ (by omega)).trans (va_up_ne _ _ (by omega)))).trans (by assumption) | exact (congrFun ((va_up_ne _ _ (by omega)).trans (va_up_ne _ _ (by omega))) _).trans (by assumption) | (rw [va_up_self, va_up_ne _ _ (by omega)]; assumption)) (c_finding hk _) (Nat.le_of_ble_eq_true rfl) (by omega) ?_
    refine tk_ireturn dX10_pact_20 rfl ?_
    exact cPst_f (by simp [rPaC, *]) hR cKp.rf
  · refine tk_iload2 dX10_pact_7 ?_
    refine tk_callS1z dX10_pact_8 kX10_103 (c_isGroup g) (Nat.le_of_ble_eq_true rfl) (by omega) ?_
    first | refine tk_jf_neB dX10_pact_11 (fun h11 => ?_) (fun h11 => ?_) | refine tk_if_ne dX10_pact_11 (fun h11 => ?_) (fun h11 => ?_)
    · refine tk_aload0 dX10_pact_21 ?_
      obtain ⟨s', hs', rfl⟩ := rIn_of h4 (by omega)
      obtain ⟨g', hg', rfl⟩ := rIn_of h11 (by omega)
      have hix : ix (nI s') = s' := ix_nI (by omega)
      refine tk_iload1 dX10_pact_22 ?_
      refine tk_callV1z dX10_pact_23 kX10_276 (by first | assumption | exact va_up_self _ _ _ | exact (va_up_ne _ _ (by omega)).trans (by assumption) | exact congrArg Prod.fst (va_up_self _ _ _) | exact (congrArg Prod.fst (va_up_ne _ _ (by omega))).trans (by assumption) | exact (congrFun (va_up_ne _ _ (by omega)) _).trans (by assumption) | exact (va_up_ne _ _ (by omega)).trans (va_up_self _ _ _) | exact (va_up_ne _ _ (by omega)).trans ((va_up_ne _ _ (by omega)).trans (by assumption)) | exact (congrArg Prod.fst ((va_up_ne _ _ (by omega)).trans (va_up_ne _ _ (by omega)))).trans (by assumption) | exact (congrFun ((va_up_ne _ _ (by omega)).trans (va_up_ne _ _ (by omega))) _).trans (by assumption) | (rw [va_up_self, va_up_ne _ _ (by omega)]; assumption)) (k_isRight hN' (show s' < 6 by omega)) (Nat.le_of_ble_eq_true rfl) (by omega) ?_
      first | refine tk_jf_neB dX10_pact_26 (fun h26 => ?_) (fun h26 => ?_) | refine tk_if_ne dX10_pact_26 (fun h26 => ?_) (fun h26 => ?_)
      · refine tk_aload0 dX10_pact_36 ?_
        refine tk_getP dX10_pact_37 fX10_13 rfl (by first | assumption | exact va_up_self _ _ _ | exact (va_up_ne _ _ (by omega)).trans (by assumption) | exact congrArg Prod.fst (va_up_self _ _ _) | exact (congrArg Prod.fst (va_up_ne _ _ (by omega))).trans (by assumption) | exact (congrFun (va_up_ne _ _ (by omega)) _).trans (by assumption) | exact (va_up_ne _ _ (by omega)).trans (va_up_self _ _ _) | exact (va_up_ne _ _ (by omega)).trans ((va_up_ne _ _ (by omega)).trans (by assumption)) | exact (congrArg Prod.fst ((va_up_ne _ _ (by omega)).trans (va_up_ne _ _ (by omega)))).trans (by assumption) | exact (congrFun ((va_up_ne _ _ (by omega)).trans (va_up_ne _ _ (by omega))) _).trans (by assumption) | (rw [va_up_self, va_up_ne _ _ (by omega)]; assumption)) (by first | assumption | exact va_up_self _ _ _ | exact (va_up_ne _ _ (by omega)).trans (by assumption) | exact congrArg Prod.fst (va_up_self _ _ _) | exact (congrArg Prod.fst (va_up_ne _ _ (by omega))).trans (by assumption) | exact (congrFun (va_up_ne _ _ (by omega)) _).trans (by assumption) | exact (va_up_ne _ _ (by omega)).trans (va_up_self _ _ _) | exact (va_up_ne _ _ (by omega)).trans ((va_up_ne _ _ (by omega)).trans (by assumption)) | exact (congrArg Prod.fst ((va_up_ne _ _ (by omega)).trans (va_up_ne _ _ (by omega)))).trans (by assumption) | exact (congrFun ((va_up_ne _ _ (by omega)).trans (va_up_ne _ _ (by omega))) _).trans (by assumption) | (rw [va_up_self, va_up_ne _ _ (by omega)]; assumption)) ?_
        refine tk_getP dX10_pact_40 fX10_279 rfl (by first | assumption | exact va_up_self _ _ _ | exact (va_up_ne _ _ (by omega)).trans (by assumption) | exact congrArg Prod.fst (va_up_self _ _ _) | exact (congrArg Prod.fst (va_up_ne _ _ (by omega))).trans (by assumption) | exact (congrFun (va_up_ne _ _ (by omega)) _).trans (by assumption) | exact (va_up_ne _ _ (by omega)).trans (va_up_self _ _ _) | exact (va_up_ne _ _ (by omega)).trans ((va_up_ne _ _ (by omega)).trans (by assumption)) | exact (congrArg Prod.fst ((va_up_ne _ _ (by omega)).trans (va_up_ne _ _ (by omega)))).trans (by assumption) | exact (congrFun ((va_up_ne _ _ (by omega)).trans (va_up_ne _ _ (by omega))) _).trans (by assumption) | (rw [va_up_self, va_up_ne _ _ (by omega)]; assumption)) (by first | assumption | exact va_up_self _ _ _ | exact (va_up_ne _ _ (by omega)).trans (by assumption) | exact congrArg Prod.fst (va_up_self _ _ _) | exact (congrArg Prod.fst (va_up_ne _ _ (by omega))).trans (by assumption) | exact (congrFun (va_up_ne _ _ (by omega)) _).trans (by assumption) | exact (va_up_ne _ _ (by omega)).trans (va_up_self _ _ _) | exact (va_up_ne _ _ (by omega)).trans ((va_up_ne _ _ (by omega)).trans (by assumption)) | exact (congrArg Prod.fst ((va_up_ne _ _ (by omega)).trans (va_up_ne _ _ (by omega)))).trans (by assumption) | exact (congrFun ((va_up_ne _ _ (by omega)).trans (va_up_ne _ _ (by omega))) _).trans (by assumption) | (rw [va_up_self, va_up_ne _ _ (by omega)]; assumption)) ?_
        refine tk_alen dX10_pact_43 (by first | assumption | exact va_up_self _ _ _ | exact (va_up_ne _ _ (by omega)).trans (by assumption) | exact congrArg Prod.fst (va_up_self _ _ _) | exact (congrArg Prod.fst (va_up_ne _ _ (by omega))).trans (by assumption) | exact (congrFun (va_up_ne _ _ (by omega)) _).trans (by assumption) | exact (va_up_ne _ _ (by omega)).trans (va_up_self _ _ _) | exact (va_up_ne _ _ (by omega)).trans ((va_up_ne _ _ (by omega)).trans (by assumption)) | exact (congrArg Prod.fst ((va_up_ne _ _ (by omega)).trans (va_up_ne _ _ (by omega)))).trans (by assumption) | exact (congrFun ((va_up_ne _ _ (by omega)).trans (va_up_ne _ _ (by omega))) _).trans (by assumption) | (rw [va_up_self, va_up_ne _ _ (by omega)]; assumption)) (by omega) ?_
        refine tk_istore3 dX10_pact_44 rfl ?_
        refine tk_iload3 dX10_pact_45 ?_
        refine tk_iconst dX10_pact_46 kc_iconst_4 ?_
        first | refine tk_icmp_ltN dX10_pact_47 (by omega) (by omega) (fun h47 => ?_) (fun h47 => ?_) | refine tk_jcmp_lt dX10_pact_47 (fun h47 => ?_) (fun h47 => ?_)
        · refine tk_aload0 dX10_pact_57 ?_
          obtain ⟨ra, l, q1, q2, q3, q4, q5, q6, q7, q8⟩ := sen_row hse (show s' < 6 by omega)
          obtain ⟨l2, l21, l22, l23, l24, -⟩ := hTH.right (show s' < 6 by omega) h26
          obtain rfl : l = l2 := (nI_eq (by omega) (by omega)).mp (q4.symm.trans l21)
          refine tk_aload0 dX10_pact_58 ?_
          refine tk_getP dX10_pact_59 fX10_13 rfl (by first | assumption | exact va_up_self _ _ _ | exact (va_up_ne _ _ (by omega)).trans (by assumption) | exact congrArg Prod.fst (va_up_self _ _ _) | exact (congrArg Prod.fst (va_up_ne _ _ (by omega))).trans (by assumption) | exact (congrFun (va_up_ne _ _ (by omega)) _).trans (by assumption) | exact (va_up_ne _ _ (by omega)).trans (va_up_self _ _ _) | exact (va_up_ne _ _ (by omega)).trans ((va_up_ne _ _ (by omega)).trans (by assumption)) | exact (congrArg Prod.fst ((va_up_ne _ _ (by omega)).trans (va_up_ne _ _ (by omega)))).trans (by assumption) | exact (congrFun ((va_up_ne _ _ (by omega)).trans (va_up_ne _ _ (by omega))) _).trans (by assumption) | (rw [va_up_self, va_up_ne _ _ (by omega)]; assumption)) (by first | assumption | exact va_up_self _ _ _ | exact (va_up_ne _ _ (by omega)).trans (by assumption) | exact congrArg Prod.fst (va_up_self _ _ _) | exact (congrArg Prod.fst (va_up_ne _ _ (by omega))).trans (by assumption) | exact (congrFun (va_up_ne _ _ (by omega)) _).trans (by assumption) | exact (va_up_ne _ _ (by omega)).trans (va_up_self _ _ _) | exact (va_up_ne _ _ (by omega)).trans ((va_up_ne _ _ (by omega)).trans (by assumption)) | exact (congrArg Prod.fst ((va_up_ne _ _ (by omega)).trans (va_up_ne _ _ (by omega)))).trans (by assumption) | exact (congrFun ((va_up_ne _ _ (by omega)).trans (va_up_ne _ _ (by omega))) _).trans (by assumption) | (rw [va_up_self, va_up_ne _ _ (by omega)]; assumption)) ?_
          refine tk_newS dX10_pact_62 nX10_283 (by omega) (by omega) ?_
          refine tk_dup dX10_pact_65 rfl ?_
          refine tk_aload0 dX10_pact_66 ?_
          refine tk_getP dX10_pact_67 fX10_13 rfl (by first | assumption | exact va_up_self _ _ _ | exact (va_up_ne _ _ (by omega)).trans (by assumption) | exact congrArg Prod.fst (va_up_self _ _ _) | exact (congrArg Prod.fst (va_up_ne _ _ (by omega))).trans (by assumption) | exact (congrFun (va_up_ne _ _ (by omega)) _).trans (by assumption) | exact (va_up_ne _ _ (by omega)).trans (va_up_self _ _ _) | exact (va_up_ne _ _ (by omega)).trans ((va_up_ne _ _ (by omega)).trans (by assumption)) | exact (congrArg Prod.fst ((va_up_ne _ _ (by omega)).trans (va_up_ne _ _ (by omega)))).trans (by assumption) | exact (congrFun ((va_up_ne _ _ (by omega)).trans (va_up_ne _ _ (by omega))) _).trans (by assumption) | (rw [va_up_self, va_up_ne _ _ (by omega)]; assumption)) (by first | assumption | exact va_up_self _ _ _ | exact (va_up_ne _ _ (by omega)).trans (by assumption) | exact congrArg Prod.fst (va_up_self _ _ _) | exact (congrArg Prod.fst (va_up_ne _ _ (by omega))).trans (by assumption) | exact (congrFun (va_up_ne _ _ (by omega)) _).trans (by assumption) | exact (va_up_ne _ _ (by omega)).trans (va_up_self _ _ _) | exact (va_up_ne _ _ (by omega)).trans ((va_up_ne _ _ (by omega)).trans (by assumption)) | exact (congrArg Prod.fst ((va_up_ne _ _ (by omega)).trans (va_up_ne _ _ (by omega)))).trans (by assumption) | exact (congrFun ((va_up_ne _ _ (by omega)).trans (va_up_ne _ _ (by omega))) _).trans (by assumption) | (rw [va_up_self, va_up_ne _ _ (by omega)]; assumption)) ?_
          refine tk_getP dX10_pact_70 fX10_131 rfl (by first | assumption | exact va_up_self _ _ _ | exact (va_up_ne _ _ (by omega)).trans (by assumption) | exact congrArg Prod.fst (va_up_self _ _ _) | exact (congrArg Prod.fst (va_up_ne _ _ (by omega))).trans (by assumption) | exact (congrFun (va_up_ne _ _ (by omega)) _).trans (by assumption) | exact (va_up_ne _ _ (by omega)).trans (va_up_self _ _ _) | exact (va_up_ne _ _ (by omega)).trans ((va_up_ne _ _ (by omega)).trans (by assumption)) | exact (congrArg Prod.fst ((va_up_ne _ _ (by omega)).trans (va_up_ne _ _ (by omega)))).trans (by assumption) | exact (congrFun ((va_up_ne _ _ (by omega)).trans (va_up_ne _ _ (by omega))) _).trans (by assumption) | (rw [va_up_self, va_up_ne _ _ (by omega)]; assumption)) (by first | assumption | exact va_up_self _ _ _ | exact (va_up_ne _ _ (by omega)).trans (by assumption) | exact congrArg Prod.fst (va_up_self _ _ _) | exact (congrArg Prod.fst (va_up_ne _ _ (by omega))).trans (by assumption) | exact (congrFun (va_up_ne _ _ (by omega)) _).trans (by assumption) | exact (va_up_ne _ _ (by omega)).trans (va_up_self _ _ _) | exact (va_up_ne _ _ (by omega)).trans ((va_up_ne _ _ (by omega)).trans (by assumption)) | exact (congrArg Prod.fst ((va_up_ne _ _ (by omega)).trans (va_up_ne _ _ (by omega)))).trans (by assumption) | exact (congrFun ((va_up_ne _ _ (by omega)).trans (va_up_ne _ _ (by omega))) _).trans (by assumption) | (rw [va_up_self, va_up_ne _ _ (by omega)]; assumption)) ?_
          refine tk_iload1 dX10_pact_73 ?_
          refine tk_aald dX10_pact_74 (by first | assumption | exact va_up_self _ _ _ | exact (va_up_ne _ _ (by omega)).trans (by assumption) | exact congrArg Prod.fst (va_up_self _ _ _) | exact (congrArg Prod.fst (va_up_ne _ _ (by omega))).trans (by assumption) | exact (congrFun (va_up_ne _ _ (by omega)) _).trans (by assumption) | exact (va_up_ne _ _ (by omega)).trans (va_up_self _ _ _) | exact (va_up_ne _ _ (by omega)).trans ((va_up_ne _ _ (by omega)).trans (by assumption)) | exact (congrArg Prod.fst ((va_up_ne _ _ (by omega)).trans (va_up_ne _ _ (by omega)))).trans (by assumption) | exact (congrFun ((va_up_ne _ _ (by omega)).trans (va_up_ne _ _ (by omega))) _).trans (by assumption) | (rw [va_up_self, va_up_ne _ _ (by omega)]; assumption)) (by omega) (by omega) (by omega) (by first | assumption | exact va_up_self _ _ _ | exact (va_up_ne _ _ (by omega)).trans (by assumption) | exact congrArg Prod.fst (va_up_self _ _ _) | exact (congrArg Prod.fst (va_up_ne _ _ (by omega))).trans (by assumption) | exact (congrFun (va_up_ne _ _ (by omega)) _).trans (by assumption) | exact (va_up_ne _ _ (by omega)).trans (va_up_self _ _ _) | exact (va_up_ne _ _ (by omega)).trans ((va_up_ne _ _ (by omega)).trans (by assumption)) | exact (congrArg Prod.fst ((va_up_ne _ _ (by omega)).trans (va_up_ne _ _ (by omega)))).trans (by assumption) | exact (congrFun ((va_up_ne _ _ (by omega)).trans (va_up_ne _ _ (by omega))) _).trans (by assumption) | (rw [va_up_self, va_up_ne _ _ (by omega)]; assumption)) ?_
          refine tk_iload2 dX10_pact_75 ?_
          refine tk_callI2y dX10_pact_76 kX10_285 (c_pactInit (by rw [va_up_self])) (Nat.le_of_ble_eq_true rfl) (by omega) ?_
          refine tk_bnd (fun hb => ?_)
          dsimp only at hb
          have nw : cNw n T I L P (n + 1) (va_up T n (2, 2)) (va_up (va_up I n fun _ => 0) n (va_up (va_up I n (fun _ => 0) n) 1 (nI g'))) (va_up L n fun _ => 0) (va_up (va_up P n fun _ => none) n (va_up (va_up P n (fun _ => none) n) 0 (some ra))) := ⟨by omega, fun q hq => by (have z0 : ¬ q = n := (by omega); have z1 : ¬ q = n + 1 := (by omega); have z2 : ¬ q = n + 1 + 1 := (by omega); have z3 : ¬ q = n + 1 + 1 + 1 := (by omega); have z4 : ¬ q = n + 1 + 1 + 1 + 1 := (by omega); have z5 : ¬ q = n + 1 + 1 + 1 + 1 + 1 := (by omega); have z6 : ¬ q = n + 1 + 1 + 1 + 1 + 1 + 1 := (by omega); have z7 : ¬ q = n + 1 + 1 + 1 + 1 + 1 + 1 + 1 := (by omega); simp only [tk_une z0, tk_une z1, tk_une z2, tk_une z3, tk_une z4, tk_une z5, tk_une z6, tk_une z7, and_self])⟩
          have x1 : (va_up T n (2, 2) n).1 = 2 := by rw [va_up_self]
          have x2 : va_up (va_up I n fun _ => 0) n (va_up (va_up I n (fun _ => 0) n) 1 (nI g')) n 1 = nI g' := by rw [va_up_self, va_up_self]
          have x3 : va_up (va_up P n fun _ => none) n (va_up (va_up P n (fun _ => none) n) 0 (some ra)) n 0 = some ra := by rw [va_up_self, va_up_self]
          generalize hT2 : va_up T n (2, 2) = T2 at *
          generalize hI2 : va_up (va_up I n fun _ => 0) n (va_up (va_up I n (fun _ => 0) n) 1 (nI g')) = I2 at *
          generalize hL2 : va_up L n (fun _ => 0) = L2 at *
          generalize hP2 : va_up (va_up P n fun _ => none) n (va_up (va_up P n (fun _ => none) n) 0 (some ra)) = P2 at *
          have ex := nw.ex
          have to2 := ht.ex ftw ex
          have t8 := to2.1
          have pa2 := (nw.2 pa fpa.2)
          have f2 := ftw.2
          have f3 := fpa.2
          refine tk_callV1s dX10_pact_79 kX10_288 (by first | assumption | exact va_up_self _ _ _ | exact (va_up_ne _ _ (by omega)).trans (by assumption) | exact congrArg Prod.fst (va_up_self _ _ _) | exact (congrArg Prod.fst (va_up_ne _ _ (by omega))).trans (by assumption) | exact (congrFun (va_up_ne _ _ (by omega)) _).trans (by assumption) | exact (va_up_ne _ _ (by omega)).trans (va_up_self _ _ _) | exact (va_up_ne _ _ (by omega)).trans ((va_up_ne _ _ (by omega)).trans (by assumption)) | exact (congrArg Prod.fst ((va_up_ne _ _ (by omega)).trans (va_up_ne _ _ (by omega)))).trans (by assumption) | exact (congrFun ((va_up_ne _ _ (by omega)).trans (va_up_ne _ _ (by omega))) _).trans (by assumption) | (rw [va_up_self, va_up_ne _ _ (by omega)]; assumption)) (c_withPact (pn := pn) (ro := n) to2 (by omega) (by rw [pa2.1]; exact pa24) (by omega) (by omega) (fun i hi => by obtain ⟨po, ra, y1, y2, y3, -⟩ := hpa.2.2 i hi; exact ⟨po, by rw [pa2.2.2.2]; exact y1, by rw [(nw.2 po y2.2).1]; exact y3⟩) x1 (fun x hx => hb x (by rw [hx]; decide)) (by omega)) (Nat.le_of_ble_eq_true rfl) (by omega) (by omega) (by omega) ?_
          rintro rr h1 ⟨T3, I3, L3, P3, rfl, rfl, nw3, to3, s1, s2⟩
          dsimp only [Option.toList, List.singleton_append]
          have nw13 := nw.tr nw3
          have ex3 := nw13.ex
          have st3 := hsc.st hn nw13
          have y1 := nw3.2 n (by omega)
          have hpn : cPac (n + 1 + 1 + 1) T3 I3 P3 (n + 1) (pn + 1) (va_up pl pn l) (va_up pg pn g') (tkco (J 51) (fun i => J 47 (14 * s' + i)) (14 * pn) l) := by
            refine ⟨fz.new hn (by omega) (by omega), s1, fun k hk => ?_⟩
            by_cases e : k = pn
            · subst e
              rw [va_up_self, va_up_self]
              refine ⟨n, ra, by rw [s2, va_up_self], fz.new hn (by omega) (by omega), by rw [y1.1]; exact x1, by rw [y1.2.2.2]; exact x3, by rw [y1.2.1]; exact x2, (q8.ex ex3).congr (fun i hi => ?_)⟩
              exact (tkco_in (g := fun i => J 47 (14 * s' + i)) rfl hi).symm
            · obtain ⟨po, ra', z1, z2, z3, z4, z5, z6⟩ := hpa.2.2 k (by omega)
              have z7 := ex3.2 po z2
              rw [va_up_ne _ _ e, va_up_ne _ _ e]
              refine ⟨po, ra', by rw [s2, va_up_ne _ _ e, tkcp_lt (by omega), pa2.2.2.2]; exact z1, z2.mono ex3.1, by rw [z7.1]; exact z3, by rw [z7.2.2.2]; exact z4, by rw [z7.2.1]; exact z5, (z6.ex ex3).congr (fun i hi => ?_)⟩
              obtain ⟨-, -, b', -, -, -, -, z8, -⟩ := z6
              exact (tkco_lo (by omega)).symm
          have hPn : PH (va_up (va_up (va_up (va_up J 41 (va_up (J 41) 5 (nI pn + 1))) 51 (tkco (J 51) (fun i => J 47 (14 * s' + i)) (14 * pn) l)) 52 (va_up (J 52) pn (nI l))) 53 (va_up (J 53) pn (nI g'))) np nf (pn + 1) (va_up pl pn l) (va_up pg pn g') := by
            refine ⟨nI_1 pn, by omega, fun k hk => ?_⟩
            show va_up (J 52) pn (nI l) k = _ ∧ _ ∧ _ ∧ WF np nf true (fun i => tkco (J 51) (fun i => J 47 (14 * s' + i)) (14 * pn) l (14 * k + i)) 14 _ ∧ va_up (J 53) pn (nI g') k = _ ∧ _
            by_cases e : k = pn
            · subst e
              simp only [va_up_self]
              exact ⟨trivial, by omega, by omega, WF_congr 14 (l - 1) (fun i hi => (tkco_in (g := fun i => J 47 (14 * s' + i)) rfl (by omega)).symm) l24, trivial, by omega⟩
            · simp only [tk_une e]
              obtain ⟨z1, z2, z3, z4, z5, z6⟩ := hpw k (by omega)
              exact ⟨z1, z2, z3, WF_congr 14 (pl k - 1) (fun i hi => (tkco_lo (by omega)).symm) z4, z5, z6⟩
          have tn : cTown (n + 1 + 1 + 1) T3 I3 L3 P3 (n + 1 + 1) (va_up (va_up (va_up (va_up J 41 (va_up (J 41) 5 (nI pn + 1))) 51 (tkco (J 51) (fun i => J 47 (14 * s' + i)) (14 * pn) l)) 52 (va_up (J 52) pn (nI l))) 53 (va_up (J 53) pn (nI g'))) := ⟨np, nf, W, r, cn, cl, pn + 1, va_up pl pn l, va_up pg pn g', mn, mW, mr, mc, ml, ⟨hTH, hPn, hMH, hGW, hob⟩, fz.new hn (by omega) (by omega), pic, sta, oa, se, n + 1, ma, to3, hpc.ex ex3, hst.ex ex3, hoa.ex ex3, hse.ex ex3, hpn, hma.ex ex3⟩
          have t0 : (T3 0).1 = 10 := by rw [(nw13.2 0 (by omega)).1]; exact k0
          refine tk_callV1q dX10_pact_82 kX10_80 (by first | assumption | exact va_up_self _ _ _ | exact (va_up_ne _ _ (by omega)).trans (by assumption) | exact congrArg Prod.fst (va_up_self _ _ _) | exact (congrArg Prod.fst (va_up_ne _ _ (by omega))).trans (by assumption) | exact (congrFun (va_up_ne _ _ (by omega)) _).trans (by assumption) | exact (va_up_ne _ _ (by omega)).trans (va_up_self _ _ _) | exact (va_up_ne _ _ (by omega)).trans ((va_up_ne _ _ (by omega)).trans (by assumption)) | exact (congrArg Prod.fst ((va_up_ne _ _ (by omega)).trans (va_up_ne _ _ (by omega)))).trans (by assumption) | exact (congrFun ((va_up_ne _ _ (by omega)).trans (va_up_ne _ _ (by omega))) _).trans (by assumption) | (rw [va_up_self, va_up_ne _ _ (by omega)]; assumption)) (c_become (hR.st st3) hm0 hm tn) (Nat.le_of_ble_eq_true rfl) (by omega) ?_
          rintro rr h1 ⟨I4, P4, rfl, rfl, b1, b2, b3, b4⟩
          dsimp only [Option.toList, List.nil_append]
          refine tk_iload3 dX10_pact_85 ?_
          refine tk_ireturn dX10_pact_86 rfl ?_
          refine BC_pst (st3.kp hn) b1 b2 b4 ?_ rfl ?_
          · have hne : ¬ nI pn = nI 4 := fun q => by have := (nI_eq (by omega) (by omega)).mp q; omega
            simp [rPaC, *]
          · rw [hix, q6, q4]
            refine bJ_of (fun a a1 a2 => ?_) rfl ?_ ?_ ?_ rfl
            · by_cases e1 : a = 53
              · subst e1; simp only [va_up_self]
              rw [va_up_ne _ _ e1, va_up_ne _ _ e1]
              by_cases e2 : a = 52
              · subst e2; simp only [va_up_self]
              rw [va_up_ne _ _ e2, va_up_ne _ _ e2]
              by_cases e3 : a = 51
              · subst e3; simp only [va_up_self]
              rw [va_up_ne _ _ e3, va_up_ne _ _ e3]
              by_cases e4 : a = 41
              · subst e4; simp only [va_up_self]
              rw [va_up_ne _ _ e4, va_up_ne _ _ e4, rKp_an (by omega) (by omega)]
            · exact rKp_an (by omega) (by omega)
            · exact rKp_an (by omega) (by omega)
            · exact rKp_an (by omega) (by omega)
        · refine tk_aload0 dX10_pact_50 ?_
          refine tk_ldc dX10_pact_51 klX10_138 ?_
          refine tk_callV1z dX10_pact_53 kX10_66 (by first | assumption | exact va_up_self _ _ _ | exact (va_up_ne _ _ (by omega)).trans (by assumption) | exact congrArg Prod.fst (va_up_self _ _ _) | exact (congrArg Prod.fst (va_up_ne _ _ (by omega))).trans (by assumption) | exact (congrFun (va_up_ne _ _ (by omega)) _).trans (by assumption) | exact (va_up_ne _ _ (by omega)).trans (va_up_self _ _ _) | exact (va_up_ne _ _ (by omega)).trans ((va_up_ne _ _ (by omega)).trans (by assumption)) | exact (congrArg Prod.fst ((va_up_ne _ _ (by omega)).trans (va_up_ne _ _ (by omega)))).trans (by assumption) | exact (congrFun ((va_up_ne _ _ (by omega)).trans (va_up_ne _ _ (by omega))) _).trans (by assumption) | (rw [va_up_self, va_up_ne _ _ (by omega)]; assumption)) (c_finding hk _) (Nat.le_of_ble_eq_true rfl) (by omega) ?_
          refine tk_ireturn dX10_pact_56 rfl ?_
          obtain rfl : pn = 4 := by omega
          exact cPst_f (by simp [rPaC, *]) hR cKp.rf
      · refine tk_aload0 dX10_pact_29 ?_
        refine tk_ldc dX10_pact_30 klX10_175 ?_
        refine tk_callV1z dX10_pact_32 kX10_66 (by first | assumption | exact va_up_self _ _ _ | exact (va_up_ne _ _ (by omega)).trans (by assumption) | exact congrArg Prod.fst (va_up_self _ _ _) | exact (congrArg Prod.fst (va_up_ne _ _ (by omega))).trans (by assumption) | exact (congrFun (va_up_ne _ _ (by omega)) _).trans (by assumption) | exact (va_up_ne _ _ (by omega)).trans (va_up_self _ _ _) | exact (va_up_ne _ _ (by omega)).trans ((va_up_ne _ _ (by omega)).trans (by assumption)) | exact (congrArg Prod.fst ((va_up_ne _ _ (by omega)).trans (va_up_ne _ _ (by omega)))).trans (by assumption) | exact (congrFun ((va_up_ne _ _ (by omega)).trans (va_up_ne _ _ (by omega))) _).trans (by assumption) | (rw [va_up_self, va_up_ne _ _ (by omega)]; assumption)) (c_finding hk _) (Nat.le_of_ble_eq_true rfl) (by omega) ?_
        refine tk_ireturn dX10_pact_35 rfl ?_
        exact cPst_f (by simp [rPaC, *]) hR cKp.rf
    · refine tk_aload0 dX10_pact_14 ?_
      refine tk_ldc dX10_pact_15 klX10_65 ?_
      refine tk_callV1z dX10_pact_17 kX10_66 (by first | assumption | exact va_up_self _ _ _ | exact (va_up_ne _ _ (by omega)).trans (by assumption) | exact congrArg Prod.fst (va_up_self _ _ _) | exact (congrArg Prod.fst (va_up_ne _ _ (by omega))).trans (by assumption) | exact (congrFun (va_up_ne _ _ (by omega)) _).trans (by assumption) | exact (va_up_ne _ _ (by omega)).trans (va_up_self _ _ _) | exact (va_up_ne _ _ (by omega)).trans ((va_up_ne _ _ (by omega)).trans (by assumption)) | exact (congrArg Prod.fst ((va_up_ne _ _ (by omega)).trans (va_up_ne _ _ (by omega)))).trans (by assumption) | exact (congrFun ((va_up_ne _ _ (by omega)).trans (va_up_ne _ _ (by omega))) _).trans (by assumption) | (rw [va_up_self, va_up_ne _ _ (by omega)]; assumption)) (c_finding hk _) (Nat.le_of_ble_eq_true rfl) (by omega) ?_
      refine tk_ireturn dX10_pact_20 rfl ?_
      exact cPst_f (by simp [rPaC, *]) hR cKp.rf
end ACTS6
