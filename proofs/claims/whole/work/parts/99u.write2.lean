/-! ===== the class: a sentence written from a sheet ===== -/
section ACTS4
variable {G : tkG} {n : Nat} {T : Nat → Nat × Nat} {I J : Nat → Nat → Int32} {L : Nat → Nat → Int64} {P : Nat → Nat → Option Nat} {tw np nf W r cn : Nat} {cl : Nat → Nat} {pn : Nat} {pl pg : Nat → Nat} {mn : Nat} {mW mr mc : Nat → Nat} {ml : Nat → Nat → Nat}
theorem k_write (hN : cNow n T I L P J tw np nf W r cn cl pn pl pg mn mW mr mc ml) {m : Nat} (hm : m ≤ 12) (hm0 : J 40 20 = nI m) (s t : Int32) : tkM G mX10_write 3 4 28 [vR 0, vI s, vI t] (n, T, I, L, P) (cPst n T I L P J (rWrC J s t) (J 62 (ix t)) (va_up (va_up (rKp J m) 47 (tkco (J 47) (fun i => J 63 (14 * ix t + i)) (14 * ix s) (ix (J 62 (ix t))))) 48 (va_up (J 48) (ix s) (J 62 (ix t))))) := by
  have hN' := hN
  obtain ⟨hR, hk, ⟨hTH, hPH, hMH, hGW, hob⟩, ftw, pic, sta, oa, se, pa, ma, ht, hpc, hst, hoa, hse, hpa, hma⟩ := hN
  have hn := hR.1
  have hsc := hR.2.1
  have hk' := hk
  obtain ⟨k0, k1, k2, k3, k4, k5, k6⟩ := hk'
  have ht' := ht
  obtain ⟨u0, u1, u2, u3, u4, u5, u6⟩ := ht'
  have hpc' := hpc
  obtain ⟨fpi, tpi, wa, ca, ga, p1, p2, p3, hw, fca, hca, hcl, fga, hga, hgr⟩ := hpc'
  have hp : pObj T P pic wa ca ga := ⟨tpi, p1, p2, p3⟩
  have hTH' := hTH
  obtain ⟨h41, np1, np4, h411, nf1, nf4, h412, W1, W64, h413, rW, h414, cn5, hcW, hsW⟩ := hTH'
  have se6 := hse.2.1
  have fse := hse.1
  obtain ⟨h16, hsh⟩ := hR.2.2.1
  have go : ∀ s' t' : Nat, s' ≤ 5 → t' ≤ 3 → s = nI s' → t = nI t' → ¬ J 61 t' = 0 → tkX G mX10_write 3 4 28 45 [some (vR 0), some (vI (nI s')), some (vI (nI t')), some (vR (17 + 2 * t')), some (vI (nI 0))] [] (n, T, I, L, P) (cPst n T I L P J (rWrC J s t) (J 62 (ix t)) (va_up (va_up (rKp J m) 47 (tkco (J 47) (fun i => J 63 (14 * ix t + i)) (14 * ix s) (ix (J 62 (ix t))))) 48 (va_up (J 48) (ix s) (J 62 (ix t))))) := by
    intro s' t' hs' ht' es et h61
    have hix : ix (nI s') = s' := ix_nI (by omega)
    have hiy : ix (nI t') = t' := ix_nI (by omega)
    obtain ⟨o1, ⟨o6, o2, o3, o8⟩, o4, o5, o7, ob, l, hl14, hl62⟩ := hsh t' (by omega)
    rw [hl62] at o5
    have hb61 : J 61 t' = nI 8 ∨ J 61 t' = nI 16 ∨ J 61 t' = nI 32 := by
      rcases ob with ob | ob | ob | ob
      · exact absurd (ob.trans nI_0) h61
      · exact Or.inl ob
      · exact Or.inr (Or.inl ob)
      · exact Or.inr (Or.inr ob)
    subst es; subst et
    have r1 : rIn (nI s') (nI 0) (nI 5) = true := by unfold rIn; rw [decide_eq_true ((nI_leI (by omega) (by omega)).mpr (by omega)), decide_eq_true ((nI_leI (by omega) (by omega)).mpr (by omega))]; rfl
    have r2 : rIn (nI t') (nI 0) (nI 3) = true := by unfold rIn; rw [decide_eq_true ((nI_leI (by omega) (by omega)).mpr (by omega)), decide_eq_true ((nI_leI (by omega) (by omega)).mpr (by omega))]; rfl
    have endw : (∀ j, j < l → rSign (J 63 (14 * t' + j)) = true) → tkX G mX10_write 3 4 28 80 [some (vR 0), some (vI (nI s')), some (vI (nI t')), some (vR (17 + 2 * t')), some (vI (nI l))] [] (n, T, I, L, P) (cPst n T I L P J (rWrC J (nI s') (nI t')) (J 62 (ix (nI t'))) (va_up (va_up (rKp J m) 47 (tkco (J 47) (fun i => J 63 (14 * ix (nI t') + i)) (14 * ix (nI s')) (ix (J 62 (ix (nI t')))))) 48 (va_up (J 48) (ix (nI s')) (J 62 (ix (nI t')))))) := by
      intro all
      refine tk_aload0 dX10_write_80 ?_
      refine tk_aload0 dX10_write_81 ?_
      refine tk_getP dX10_write_82 fX10_13 rfl (by first | assumption | exact va_up_self _ _ _ | exact (va_up_ne _ _ (by omega)).trans (by assumption) | exact congrArg Prod.fst (va_up_self _ _ _) | exact (congrArg Prod.fst (va_up_ne _ _ (by omega))).trans (by assumption) | exact (congrFun (va_up_ne _ _ (by omega)) _).trans (by assumption) | exact (va_up_ne _ _ (by omega)).trans (va_up_self _ _ _) | exact (va_up_ne _ _ (by omega)).trans ((va_up_ne _ _ (by omega)).trans (by assumption)) | exact (congrArg Prod.fst ((va_up_ne _ _ (by omega)).trans (va_up_ne _ _ (by omega)))).trans (by assumption) | exact (congrFun ((va_up_ne _ _ (by omega)).trans (va_up_ne _ _ (by omega))) _).trans (by assumption) | (rw [va_up_self, va_up_ne _ _ (by omega)]; assumption)) (by first | assumption | exact va_up_self _ _ _ | exact (va_up_ne _ _ (by omega)).trans (by assumption) | exact congrArg Prod.fst (va_up_self _ _ _) | exact (congrArg Prod.fst (va_up_ne _ _ (by omega))).trans (by assumption) | exact (congrFun (va_up_ne _ _ (by omega)) _).trans (by assumption) | exact (va_up_ne _ _ (by omega)).trans (va_up_self _ _ _) | exact (va_up_ne _ _ (by omega)).trans ((va_up_ne _ _ (by omega)).trans (by assumption)) | exact (congrArg Prod.fst ((va_up_ne _ _ (by omega)).trans (va_up_ne _ _ (by omega)))).trans (by assumption) | exact (congrFun ((va_up_ne _ _ (by omega)).trans (va_up_ne _ _ (by omega))) _).trans (by assumption) | (rw [va_up_self, va_up_ne _ _ (by omega)]; assumption)) ?_
      refine tk_iload1 dX10_write_85 ?_
      refine tk_newS dX10_write_86 nX10_136 (by omega) (by omega) ?_
      refine tk_dup dX10_write_89 rfl ?_
      refine tk_aload3 dX10_write_90 ?_
      refine tk_getP dX10_write_91 fX10_159 rfl (by rw [va_up_ne _ _ (by omega)]; exact o6) (by rw [va_up_ne _ _ (by omega)]; exact o2) ?_
      refine tk_aload3 dX10_write_94 ?_
      refine tk_getI dX10_write_95 fX10_158 rfl (by rw [va_up_ne _ _ (by omega)]; exact o6) ?_
      rw [va_up_ne _ _ (show ¬ 17 + 2 * t' = n by omega), o5]
      refine tk_callS2s dX10_write_98 kX10_162 (j_copyOf (len := 14) (k := l) (by rw [va_up_ne _ _ (by omega)]; exact o3) (by omega) (by omega) (by omega)) (Nat.le_of_ble_eq_true rfl) (by omega) (by omega) (by omega) ?_
      rintro rr h1 ⟨g, fl, fp, rfl, rfl, hg⟩
      dsimp only [Option.toList, List.singleton_append]
      refine tk_callI1y dX10_write_101 kX10_147 (c_rowInit (l := l) (by rw [va_up_ne _ _ (by omega), va_up_self]) (by rw [va_up_self])) (Nat.le_of_ble_eq_true rfl) (by omega) ?_
      refine tk_bnd (fun hb => ?_)
      dsimp only at hb
      have nw : cNw n T I L P (n + 1 + 1) (va_up (va_up T n (4, 2)) (n + 1) (20, l)) (va_up (va_up (va_up I n fun _ => 0) (n + 1) g) n (va_up (va_up (va_up I n fun _ => 0) (n + 1) g n) 1 (nI l))) (va_up (va_up L n fun _ => 0) (n + 1) fl) (va_up (va_up (va_up P n fun _ => none) (n + 1) fp) n (va_up (va_up (va_up P n fun _ => none) (n + 1) fp n) 0 (some (n + 1)))) := ⟨by omega, fun q hq => by (have z0 : ¬ q = n := (by omega); have z1 : ¬ q = n + 1 := (by omega); have z2 : ¬ q = n + 1 + 1 := (by omega); have z3 : ¬ q = n + 1 + 1 + 1 := (by omega); have z4 : ¬ q = n + 1 + 1 + 1 + 1 := (by omega); have z5 : ¬ q = n + 1 + 1 + 1 + 1 + 1 := (by omega); have z6 : ¬ q = n + 1 + 1 + 1 + 1 + 1 + 1 := (by omega); have z7 : ¬ q = n + 1 + 1 + 1 + 1 + 1 + 1 + 1 := (by omega); simp only [tk_une z0, tk_une z1, tk_une z2, tk_une z3, tk_une z4, tk_une z5, tk_une z6, tk_une z7, and_self])⟩
      have rw2 : cRow (n + 1 + 1) (va_up (va_up T n (4, 2)) (n + 1) (20, l)) (va_up (va_up (va_up I n fun _ => 0) (n + 1) g) n (va_up (va_up (va_up I n fun _ => 0) (n + 1) g n) 1 (nI l))) (va_up (va_up (va_up P n fun _ => none) (n + 1) fp) n (va_up (va_up (va_up P n fun _ => none) (n + 1) fp n) 0 (some (n + 1)))) n l (fun i => tkco (J 47) (fun i => J 63 (14 * t' + i)) (14 * s') l (14 * s' + i)) := by
        refine ⟨fz.new hn (by omega) (by omega), by rw [va_up_ne _ _ (by omega), va_up_self], n + 1, fz.new hn (by omega) (by omega), by rw [va_up_self, va_up_self], by rw [va_up_self], by rw [va_up_self, va_up_self], by omega, fun i hi => ?_⟩
        rw [va_up_ne _ _ (by omega), va_up_self, hg i (by omega) hi, va_up_ne _ _ (by omega)]
        have et : tkco (J 47) (fun i => J 63 (14 * t' + i)) (14 * s') l (14 * s' + i) = J 63 (14 * t' + i) := tkco_in rfl hi
        dsimp only
        rw [et]
        have o7i := o7 i (by omega)
        have sg := all i hi
        exact ⟨by rw [o7i.1]; exact (sh_sign hb61 o7i.2).2 sg, sg⟩
      generalize hT2 : va_up (va_up T n (4, 2)) (n + 1) (20, l) = T2 at *
      generalize hI2 : va_up (va_up (va_up I n fun _ => 0) (n + 1) g) n (va_up (va_up (va_up I n fun _ => 0) (n + 1) g n) 1 (nI l)) = I2 at *
      generalize hL2 : va_up (va_up L n fun _ => 0) (n + 1) fl = L2 at *
      generalize hP2 : va_up (va_up (va_up P n fun _ => none) (n + 1) fp) n (va_up (va_up (va_up P n fun _ => none) (n + 1) fp n) 0 (some (n + 1))) = P2 at *
      have ex := nw.ex
      have to2 := ht.ex ftw ex
      have t8 := to2.1
      have se2 := (nw.2 se fse.2)
      have f2 := ftw.2
      have f3 := fse.2
      refine tk_callV2s dX10_write_104 kX10_143 (by first | assumption | exact va_up_self _ _ _ | exact (va_up_ne _ _ (by omega)).trans (by assumption) | exact congrArg Prod.fst (va_up_self _ _ _) | exact (congrArg Prod.fst (va_up_ne _ _ (by omega))).trans (by assumption) | exact (congrFun (va_up_ne _ _ (by omega)) _).trans (by assumption) | exact (va_up_ne _ _ (by omega)).trans (va_up_self _ _ _) | exact (va_up_ne _ _ (by omega)).trans ((va_up_ne _ _ (by omega)).trans (by assumption)) | exact (congrArg Prod.fst ((va_up_ne _ _ (by omega)).trans (va_up_ne _ _ (by omega)))).trans (by assumption) | exact (congrFun ((va_up_ne _ _ (by omega)).trans (va_up_ne _ _ (by omega))) _).trans (by assumption) | (rw [va_up_self, va_up_ne _ _ (by omega)]; assumption)) (c_withSentence (s := s') (ro := n) to2 (by omega) (by rw [se2.1]; exact se6) (by omega) (by omega) (fun i hi => by obtain ⟨ra, l, y1, y2, y3, -⟩ := sen_row hse hi; exact ⟨ra, by rw [se2.2.2.2]; exact y1, by rw [(nw.2 ra y3.2).1]; exact y2⟩) rw2.2.1 (fun x hx => hb x (by rw [hx]; decide)) (by omega)) (Nat.le_of_ble_eq_true rfl) (by omega) (by omega) (by omega) ?_
      rintro rr h1 ⟨T3, I3, L3, P3, rfl, rfl, nw3, to3, s1, s2⟩
      dsimp only [Option.toList, List.singleton_append]
      have nw13 := nw.tr nw3
      have st3 := hsc.st hn nw13
      have tn := tn_sen (x := tkco (J 47) (fun i => J 63 (14 * t' + i)) (14 * s') l) (y := va_up (J 48) s' (nI l)) hN' (show s' < 6 by omega) nw nw3 ht hpc hst hoa hse hpa hma rfl (by omega) to3 s1 s2 (l' := l) (rw2.ex nw3.ex) (va_up_self _ _ _) (fun i hi e => va_up_ne _ _ e) (fun i hi e j hj => by symm; by_cases e2 : i < s'; exact tkco_lo (by omega); exact tkco_hi (by omega))
      have t0 : (T3 0).1 = 10 := by rw [(nw13.2 0 (by omega)).1]; exact k0
      refine tk_callV1q dX10_write_107 kX10_80 (by first | assumption | exact va_up_self _ _ _ | exact (va_up_ne _ _ (by omega)).trans (by assumption) | exact congrArg Prod.fst (va_up_self _ _ _) | exact (congrArg Prod.fst (va_up_ne _ _ (by omega))).trans (by assumption) | exact (congrFun (va_up_ne _ _ (by omega)) _).trans (by assumption) | exact (va_up_ne _ _ (by omega)).trans (va_up_self _ _ _) | exact (va_up_ne _ _ (by omega)).trans ((va_up_ne _ _ (by omega)).trans (by assumption)) | exact (congrArg Prod.fst ((va_up_ne _ _ (by omega)).trans (va_up_ne _ _ (by omega)))).trans (by assumption) | exact (congrFun ((va_up_ne _ _ (by omega)).trans (va_up_ne _ _ (by omega))) _).trans (by assumption) | (rw [va_up_self, va_up_ne _ _ (by omega)]; assumption)) (c_become (hR.st st3) hm0 hm tn) (Nat.le_of_ble_eq_true rfl) (by omega) ?_
      rintro rr h1 ⟨I4, P4, rfl, rfl, b1, b2, b3, b4⟩
      dsimp only [Option.toList, List.nil_append]
      have x1 := nw13.2 (17 + 2 * t') (by omega)
      refine tk_aload3 dX10_write_110 ?_
      refine tk_getI dX10_write_111 fX10_158 rfl (by rw [x1.1]; exact o6) ?_
      rw [b1 _ (by omega), x1.2.1, o5]
      refine tk_ireturn dX10_write_114 rfl ?_
      refine BC_pst (st3.kp hn) b1 b2 b4 ?_ (by rw [hiy, hl62]) ?_
      · have ha : rAS (fun i => J 63 (14 * t' + i)) l 0 = true := (rAS_iff l 0).mpr (fun j j1 j2 => all j (by omega))
        have hlx : ix (nI l) = l := ix_nI (by omega)
        simp [rWrC, *]
      · rw [hix, hiy, hl62, ix_nI (by omega)]
        exact bJ_sen
    have loop : ∀ k i, i + k = l → (∀ j, j < i → rSign (J 63 (14 * t' + j)) = true) → tkX G mX10_write 3 4 28 45 [some (vR 0), some (vI (nI s')), some (vI (nI t')), some (vR (17 + 2 * t')), some (vI (nI i))] [] (n, T, I, L, P) (cPst n T I L P J (rWrC J (nI s') (nI t')) (J 62 (ix (nI t'))) (va_up (va_up (rKp J m) 47 (tkco (J 47) (fun i => J 63 (14 * ix (nI t') + i)) (14 * ix (nI s')) (ix (J 62 (ix (nI t')))))) 48 (va_up (J 48) (ix (nI s')) (J 62 (ix (nI t')))))) := by
      intro k
      induction k with
      | zero =>
        intro i hi all
        obtain rfl : i = l := by omega
        refine tk_iload4 dX10_write_45 ?_
        refine tk_aload3 dX10_write_47 ?_
        refine tk_getI dX10_write_48 fX10_158 rfl (by first | assumption | exact va_up_self _ _ _ | exact (va_up_ne _ _ (by omega)).trans (by assumption) | exact congrArg Prod.fst (va_up_self _ _ _) | exact (congrArg Prod.fst (va_up_ne _ _ (by omega))).trans (by assumption) | exact (congrFun (va_up_ne _ _ (by omega)) _).trans (by assumption) | exact (va_up_ne _ _ (by omega)).trans (va_up_self _ _ _) | exact (va_up_ne _ _ (by omega)).trans ((va_up_ne _ _ (by omega)).trans (by assumption)) | exact (congrArg Prod.fst ((va_up_ne _ _ (by omega)).trans (va_up_ne _ _ (by omega)))).trans (by assumption) | exact (congrFun ((va_up_ne _ _ (by omega)).trans (va_up_ne _ _ (by omega))) _).trans (by assumption) | (rw [va_up_self, va_up_ne _ _ (by omega)]; assumption)) ?_
        rw [o5]
        first | refine tk_icmp_geN dX10_write_51 (by omega) (by omega) (fun h51 => ?_) (fun h51 => ?_) | refine tk_jcmp_ge dX10_write_51 (fun h51 => ?_) (fun h51 => ?_)
        · exact endw all
        · exfalso; omega
      | succ k ih =>
        intro i hi all
        refine tk_iload4 dX10_write_45 ?_
        refine tk_aload3 dX10_write_47 ?_
        refine tk_getI dX10_write_48 fX10_158 rfl (by first | assumption | exact va_up_self _ _ _ | exact (va_up_ne _ _ (by omega)).trans (by assumption) | exact congrArg Prod.fst (va_up_self _ _ _) | exact (congrArg Prod.fst (va_up_ne _ _ (by omega))).trans (by assumption) | exact (congrFun (va_up_ne _ _ (by omega)) _).trans (by assumption) | exact (va_up_ne _ _ (by omega)).trans (va_up_self _ _ _) | exact (va_up_ne _ _ (by omega)).trans ((va_up_ne _ _ (by omega)).trans (by assumption)) | exact (congrArg Prod.fst ((va_up_ne _ _ (by omega)).trans (va_up_ne _ _ (by omega)))).trans (by assumption) | exact (congrFun ((va_up_ne _ _ (by omega)).trans (va_up_ne _ _ (by omega))) _).trans (by assumption) | (rw [va_up_self, va_up_ne _ _ (by omega)]; assumption)) ?_
        rw [o5]
        first | refine tk_icmp_geN dX10_write_51 (by omega) (by omega) (fun h51 => ?_) (fun h51 => ?_) | refine tk_jcmp_ge dX10_write_51 (fun h51 => ?_) (fun h51 => ?_)
        · exfalso; omega
        · refine tk_aload3 dX10_write_54 ?_
          refine tk_getP dX10_write_55 fX10_159 rfl (by first | assumption | exact va_up_self _ _ _ | exact (va_up_ne _ _ (by omega)).trans (by assumption) | exact congrArg Prod.fst (va_up_self _ _ _) | exact (congrArg Prod.fst (va_up_ne _ _ (by omega))).trans (by assumption) | exact (congrFun (va_up_ne _ _ (by omega)) _).trans (by assumption) | exact (va_up_ne _ _ (by omega)).trans (va_up_self _ _ _) | exact (va_up_ne _ _ (by omega)).trans ((va_up_ne _ _ (by omega)).trans (by assumption)) | exact (congrArg Prod.fst ((va_up_ne _ _ (by omega)).trans (va_up_ne _ _ (by omega)))).trans (by assumption) | exact (congrFun ((va_up_ne _ _ (by omega)).trans (va_up_ne _ _ (by omega))) _).trans (by assumption) | (rw [va_up_self, va_up_ne _ _ (by omega)]; assumption)) (by first | assumption | exact va_up_self _ _ _ | exact (va_up_ne _ _ (by omega)).trans (by assumption) | exact congrArg Prod.fst (va_up_self _ _ _) | exact (congrArg Prod.fst (va_up_ne _ _ (by omega))).trans (by assumption) | exact (congrFun (va_up_ne _ _ (by omega)) _).trans (by assumption) | exact (va_up_ne _ _ (by omega)).trans (va_up_self _ _ _) | exact (va_up_ne _ _ (by omega)).trans ((va_up_ne _ _ (by omega)).trans (by assumption)) | exact (congrArg Prod.fst ((va_up_ne _ _ (by omega)).trans (va_up_ne _ _ (by omega)))).trans (by assumption) | exact (congrFun ((va_up_ne _ _ (by omega)).trans (va_up_ne _ _ (by omega))) _).trans (by assumption) | (rw [va_up_self, va_up_ne _ _ (by omega)]; assumption)) ?_
          refine tk_iload4 dX10_write_58 ?_
          refine tk_iald dX10_write_60 (by first | assumption | exact va_up_self _ _ _ | exact (va_up_ne _ _ (by omega)).trans (by assumption) | exact congrArg Prod.fst (va_up_self _ _ _) | exact (congrArg Prod.fst (va_up_ne _ _ (by omega))).trans (by assumption) | exact (congrFun (va_up_ne _ _ (by omega)) _).trans (by assumption) | exact (va_up_ne _ _ (by omega)).trans (va_up_self _ _ _) | exact (va_up_ne _ _ (by omega)).trans ((va_up_ne _ _ (by omega)).trans (by assumption)) | exact (congrArg Prod.fst ((va_up_ne _ _ (by omega)).trans (va_up_ne _ _ (by omega)))).trans (by assumption) | exact (congrFun ((va_up_ne _ _ (by omega)).trans (va_up_ne _ _ (by omega))) _).trans (by assumption) | (rw [va_up_self, va_up_ne _ _ (by omega)]; assumption)) (by omega) (by omega) ?_
          refine tk_callS1z dX10_write_61 kX10_126 (c_isSign _) (Nat.le_of_ble_eq_true rfl) (by omega) ?_
          first | refine tk_jf_neB dX10_write_64 (fun h64 => ?_) (fun h64 => ?_) | refine tk_if_ne dX10_write_64 (fun h64 => ?_) (fun h64 => ?_)
          · first | refine tk_iinc4 dX10_write_74 (kc_inc _) rfl ?_ | refine tk_iinc4 dX10_write_74 rfl rfl ?_
            have o7i := o7 i (by omega)
            rw [o7i.1, (sh_sign hb61 o7i.2).1] at h64
            refine tk_goto dX10_write_77 ?_
            refine tk_wk (by repeat' (first | exact trivial | refine ⟨Or.inl rfl, ?_⟩ | refine ⟨Or.inr rfl, ?_⟩)) (ih (i + 1) (by omega) (fun j hj => ?_))
            by_cases e : j = i
            · rw [e]; exact h64
            · exact all j (by omega)
          · refine tk_aload0 dX10_write_67 ?_
            refine tk_ldc dX10_write_68 klX10_65 ?_
            refine tk_callV1z dX10_write_70 kX10_66 (by first | assumption | exact va_up_self _ _ _ | exact (va_up_ne _ _ (by omega)).trans (by assumption) | exact congrArg Prod.fst (va_up_self _ _ _) | exact (congrArg Prod.fst (va_up_ne _ _ (by omega))).trans (by assumption) | exact (congrFun (va_up_ne _ _ (by omega)) _).trans (by assumption) | exact (va_up_ne _ _ (by omega)).trans (va_up_self _ _ _) | exact (va_up_ne _ _ (by omega)).trans ((va_up_ne _ _ (by omega)).trans (by assumption)) | exact (congrArg Prod.fst ((va_up_ne _ _ (by omega)).trans (va_up_ne _ _ (by omega)))).trans (by assumption) | exact (congrFun ((va_up_ne _ _ (by omega)).trans (va_up_ne _ _ (by omega))) _).trans (by assumption) | (rw [va_up_self, va_up_ne _ _ (by omega)]; assumption)) (c_finding hk _) (Nat.le_of_ble_eq_true rfl) (by omega) ?_
            refine tk_ireturn dX10_write_73 rfl ?_
            refine cPst_f ?_ hR cKp.rf
            have o7i := o7 i (by omega)
            rw [o7i.1, (sh_sign hb61 o7i.2).1] at h64
            have hlx : ix (nI l) = l := ix_nI (by omega)
            have ha : ¬ rAS (fun i => J 63 (14 * t' + i)) l 0 = true := fun q => by have := (rAS_iff l 0).mp q i (by omega) (by omega); rw [h64] at this; cases this
            simp [rWrC, *]
    exact loop l 0 (by omega) (fun j hj => by omega)
  refine tkM.of (ls := [some _, some _, some _, none, none]) (by decide +kernel) (by decide +kernel) (Nat.le_of_ble_eq_true rfl) rfl ?_
  refine tk_iload1 dX10_write_0 ?_
  refine tk_callS1z dX10_write_1 kX10_123 (c_isSentence s) (Nat.le_of_ble_eq_true rfl) (by omega) ?_
  first | refine tk_jf_eqB dX10_write_4 (fun h4 => ?_) (fun h4 => ?_) | refine tk_if_eq dX10_write_4 (fun h4 => ?_) (fun h4 => ?_)
  · refine tk_aload0 dX10_write_14 ?_
    refine tk_ldc dX10_write_15 klX10_65 ?_
    refine tk_callV1z dX10_write_17 kX10_66 (by first | assumption | exact va_up_self _ _ _ | exact (va_up_ne _ _ (by omega)).trans (by assumption) | exact congrArg Prod.fst (va_up_self _ _ _) | exact (congrArg Prod.fst (va_up_ne _ _ (by omega))).trans (by assumption) | exact (congrFun (va_up_ne _ _ (by omega)) _).trans (by assumption) | exact (va_up_ne _ _ (by omega)).trans (va_up_self _ _ _) | exact (va_up_ne _ _ (by omega)).trans ((va_up_ne _ _ (by omega)).trans (by assumption)) | exact (congrArg Prod.fst ((va_up_ne _ _ (by omega)).trans (va_up_ne _ _ (by omega)))).trans (by assumption) | exact (congrFun ((va_up_ne _ _ (by omega)).trans (va_up_ne _ _ (by omega))) _).trans (by assumption) | (rw [va_up_self, va_up_ne _ _ (by omega)]; assumption)) (c_finding hk _) (Nat.le_of_ble_eq_true rfl) (by omega) ?_
    refine tk_ireturn dX10_write_20 rfl ?_
    exact cPst_f (by simp [rWrC, *]) hR cKp.rf
  · refine tk_iload2 dX10_write_7 ?_
    refine tk_callS1z dX10_write_8 kX10_150 (c_isSheet t) (Nat.le_of_ble_eq_true rfl) (by omega) ?_
    first | refine tk_jf_neB dX10_write_11 (fun h11 => ?_) (fun h11 => ?_) | refine tk_if_ne dX10_write_11 (fun h11 => ?_) (fun h11 => ?_)
    · refine tk_aload0 dX10_write_21 ?_
      obtain ⟨s', hs', rfl⟩ := rIn_of h4 (by omega)
      obtain ⟨t', ht', rfl⟩ := rIn_of h11 (by omega)
      have hiy : ix (nI t') = t' := ix_nI (by omega)
      obtain ⟨o1, o2, o4, -⟩ := hsh t' (by omega)
      have o6 := o2.1
      refine tk_getP dX10_write_22 fX10_35 rfl (by first | assumption | exact va_up_self _ _ _ | exact (va_up_ne _ _ (by omega)).trans (by assumption) | exact congrArg Prod.fst (va_up_self _ _ _) | exact (congrArg Prod.fst (va_up_ne _ _ (by omega))).trans (by assumption) | exact (congrFun (va_up_ne _ _ (by omega)) _).trans (by assumption) | exact (va_up_ne _ _ (by omega)).trans (va_up_self _ _ _) | exact (va_up_ne _ _ (by omega)).trans ((va_up_ne _ _ (by omega)).trans (by assumption)) | exact (congrArg Prod.fst ((va_up_ne _ _ (by omega)).trans (va_up_ne _ _ (by omega)))).trans (by assumption) | exact (congrFun ((va_up_ne _ _ (by omega)).trans (va_up_ne _ _ (by omega))) _).trans (by assumption) | (rw [va_up_self, va_up_ne _ _ (by omega)]; assumption)) (by first | assumption | exact va_up_self _ _ _ | exact (va_up_ne _ _ (by omega)).trans (by assumption) | exact congrArg Prod.fst (va_up_self _ _ _) | exact (congrArg Prod.fst (va_up_ne _ _ (by omega))).trans (by assumption) | exact (congrFun (va_up_ne _ _ (by omega)) _).trans (by assumption) | exact (va_up_ne _ _ (by omega)).trans (va_up_self _ _ _) | exact (va_up_ne _ _ (by omega)).trans ((va_up_ne _ _ (by omega)).trans (by assumption)) | exact (congrArg Prod.fst ((va_up_ne _ _ (by omega)).trans (va_up_ne _ _ (by omega)))).trans (by assumption) | exact (congrFun ((va_up_ne _ _ (by omega)).trans (va_up_ne _ _ (by omega))) _).trans (by assumption) | (rw [va_up_self, va_up_ne _ _ (by omega)]; assumption)) ?_
      refine tk_iload2 dX10_write_25 ?_
      refine tk_aald dX10_write_26 (by first | assumption | exact va_up_self _ _ _ | exact (va_up_ne _ _ (by omega)).trans (by assumption) | exact congrArg Prod.fst (va_up_self _ _ _) | exact (congrArg Prod.fst (va_up_ne _ _ (by omega))).trans (by assumption) | exact (congrFun (va_up_ne _ _ (by omega)) _).trans (by assumption) | exact (va_up_ne _ _ (by omega)).trans (va_up_self _ _ _) | exact (va_up_ne _ _ (by omega)).trans ((va_up_ne _ _ (by omega)).trans (by assumption)) | exact (congrArg Prod.fst ((va_up_ne _ _ (by omega)).trans (va_up_ne _ _ (by omega)))).trans (by assumption) | exact (congrFun ((va_up_ne _ _ (by omega)).trans (va_up_ne _ _ (by omega))) _).trans (by assumption) | (rw [va_up_self, va_up_ne _ _ (by omega)]; assumption)) (by omega) (by omega) (by omega) (by first | assumption | exact va_up_self _ _ _ | exact (va_up_ne _ _ (by omega)).trans (by assumption) | exact congrArg Prod.fst (va_up_self _ _ _) | exact (congrArg Prod.fst (va_up_ne _ _ (by omega))).trans (by assumption) | exact (congrFun (va_up_ne _ _ (by omega)) _).trans (by assumption) | exact (va_up_ne _ _ (by omega)).trans (va_up_self _ _ _) | exact (va_up_ne _ _ (by omega)).trans ((va_up_ne _ _ (by omega)).trans (by assumption)) | exact (congrArg Prod.fst ((va_up_ne _ _ (by omega)).trans (va_up_ne _ _ (by omega)))).trans (by assumption) | exact (congrFun ((va_up_ne _ _ (by omega)).trans (va_up_ne _ _ (by omega))) _).trans (by assumption) | (rw [va_up_self, va_up_ne _ _ (by omega)]; assumption)) ?_
      refine tk_astore3 dX10_write_27 rfl ?_
      refine tk_aload3 dX10_write_28 ?_
      refine tk_callV0z dX10_write_29 kX10_153 (by first | assumption | exact va_up_self _ _ _ | exact (va_up_ne _ _ (by omega)).trans (by assumption) | exact congrArg Prod.fst (va_up_self _ _ _) | exact (congrArg Prod.fst (va_up_ne _ _ (by omega))).trans (by assumption) | exact (congrFun (va_up_ne _ _ (by omega)) _).trans (by assumption) | exact (va_up_ne _ _ (by omega)).trans (va_up_self _ _ _) | exact (va_up_ne _ _ (by omega)).trans ((va_up_ne _ _ (by omega)).trans (by assumption)) | exact (congrArg Prod.fst ((va_up_ne _ _ (by omega)).trans (va_up_ne _ _ (by omega)))).trans (by assumption) | exact (congrFun ((va_up_ne _ _ (by omega)).trans (va_up_ne _ _ (by omega))) _).trans (by assumption) | (rw [va_up_self, va_up_ne _ _ (by omega)]; assumption)) (c_isMissing o2) (Nat.le_of_ble_eq_true rfl) (by omega) ?_
      first | refine tk_jf_eqB dX10_write_32 (fun h32 => ?_) (fun h32 => ?_) | refine tk_if_eq dX10_write_32 (fun h32 => ?_) (fun h32 => ?_)
      · refine tk_iconst dX10_write_42 kc_iconst_0 ?_
        refine tk_istore4 dX10_write_43 rfl ?_
        refine tk_wk (by repeat' (first | exact trivial | refine ⟨Or.inl rfl, ?_⟩ | refine ⟨Or.inr rfl, ?_⟩)) (go s' t' hs' ht' rfl rfl ?_)
        rw [decide_eq_false_iff_not, o4] at h32
        exact h32
      · refine tk_aload0 dX10_write_35 ?_
        refine tk_ldc dX10_write_36 klX10_157 ?_
        refine tk_callV1z dX10_write_38 kX10_66 (by first | assumption | exact va_up_self _ _ _ | exact (va_up_ne _ _ (by omega)).trans (by assumption) | exact congrArg Prod.fst (va_up_self _ _ _) | exact (congrArg Prod.fst (va_up_ne _ _ (by omega))).trans (by assumption) | exact (congrFun (va_up_ne _ _ (by omega)) _).trans (by assumption) | exact (va_up_ne _ _ (by omega)).trans (va_up_self _ _ _) | exact (va_up_ne _ _ (by omega)).trans ((va_up_ne _ _ (by omega)).trans (by assumption)) | exact (congrArg Prod.fst ((va_up_ne _ _ (by omega)).trans (va_up_ne _ _ (by omega)))).trans (by assumption) | exact (congrFun ((va_up_ne _ _ (by omega)).trans (va_up_ne _ _ (by omega))) _).trans (by assumption) | (rw [va_up_self, va_up_ne _ _ (by omega)]; assumption)) (c_finding hk _) (Nat.le_of_ble_eq_true rfl) (by omega) ?_
        refine tk_ireturn dX10_write_41 rfl ?_
        exact cPst_f (by rw [decide_eq_true_eq, o4] at h32; simp [rWrC, *]) hR cKp.rf
    · refine tk_aload0 dX10_write_14 ?_
      refine tk_ldc dX10_write_15 klX10_65 ?_
      refine tk_callV1z dX10_write_17 kX10_66 (by first | assumption | exact va_up_self _ _ _ | exact (va_up_ne _ _ (by omega)).trans (by assumption) | exact congrArg Prod.fst (va_up_self _ _ _) | exact (congrArg Prod.fst (va_up_ne _ _ (by omega))).trans (by assumption) | exact (congrFun (va_up_ne _ _ (by omega)) _).trans (by assumption) | exact (va_up_ne _ _ (by omega)).trans (va_up_self _ _ _) | exact (va_up_ne _ _ (by omega)).trans ((va_up_ne _ _ (by omega)).trans (by assumption)) | exact (congrArg Prod.fst ((va_up_ne _ _ (by omega)).trans (va_up_ne _ _ (by omega)))).trans (by assumption) | exact (congrFun ((va_up_ne _ _ (by omega)).trans (va_up_ne _ _ (by omega))) _).trans (by assumption) | (rw [va_up_self, va_up_ne _ _ (by omega)]; assumption)) (c_finding hk _) (Nat.le_of_ble_eq_true rfl) (by omega) ?_
      refine tk_ireturn dX10_write_20 rfl ?_
      exact cPst_f (by simp [rWrC, *]) hR cKp.rf
end ACTS4
