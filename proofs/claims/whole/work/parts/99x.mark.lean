/-! ===== the class: marks ===== -/
section ACTS7
variable {G : tkG} {n : Nat} {T : Nat → Nat × Nat} {I J : Nat → Nat → Int32} {L : Nat → Nat → Int64} {P : Nat → Nat → Option Nat} {tw np nf W r cn : Nat} {cl : Nat → Nat} {pn : Nat} {pl pg : Nat → Nat} {mn : Nat} {mW mr mc : Nat → Nat} {ml : Nat → Nat → Nat}
theorem rMk_kp {m mn : Nat} : ∀ a, 41 ≤ a → a ≤ 59 → rMk (rKp J m) mn a = rMk J mn a := by
  intro a a1 a2
  have e : ∀ a, ¬ a = 40 → ¬ a = 60 → rKp J m a = J a := fun a h1 h2 => rKp_an h1 h2
  unfold rMk
  rw [e 41 (by omega) (by omega), e 42 (by omega) (by omega), e 43 (by omega) (by omega), e 45 (by omega) (by omega), e 49 (by omega) (by omega), e 50 (by omega) (by omega), e 54 (by omega) (by omega), e 55 (by omega) (by omega), e 56 (by omega) (by omega), e 57 (by omega) (by omega), e 58 (by omega) (by omega), e 59 (by omega) (by omega)]
  by_cases e1 : a = 59
  · subst e1; simp only [va_up_self]
  rw [va_up_ne _ _ e1, va_up_ne _ _ e1]
  by_cases e2 : a = 58
  · subst e2; simp only [va_up_self]
  rw [va_up_ne _ _ e2, va_up_ne _ _ e2]
  by_cases e3 : a = 57
  · subst e3; simp only [va_up_self]
  rw [va_up_ne _ _ e3, va_up_ne _ _ e3]
  by_cases e4 : a = 56
  · subst e4; simp only [va_up_self]
  rw [va_up_ne _ _ e4, va_up_ne _ _ e4]
  by_cases e5 : a = 55
  · subst e5; simp only [va_up_self]
  rw [va_up_ne _ _ e5, va_up_ne _ _ e5]
  by_cases e6 : a = 54
  · subst e6; simp only [va_up_self]
  rw [va_up_ne _ _ e6, va_up_ne _ _ e6]
  by_cases e7 : a = 41
  · subst e7; simp only [va_up_self]
  rw [va_up_ne _ _ e7, va_up_ne _ _ e7]
  exact e a (by omega) (by omega)
theorem TH.mk (hTH : TH J np nf W r cn cl) (hMH : MH J np nf mn mW mr mc ml) (h6 : mn < 6) : MH (rMk J mn) np nf (mn + 1) (va_up mW mn W) (va_up mr mn r) (va_up mc mn cn) (va_up ml mn cl) := by
  obtain ⟨h41, np1, np4, h411, nf1, nf4, h412, W1, W64, h413, rW, h414, cn5, hcW, hsW⟩ := hTH
  obtain ⟨m1, m2, m3⟩ := hMH
  refine ⟨rfl, by omega, fun k hk => ?_⟩
  have e54 : rMk J mn 54 = va_up (va_up (va_up (J 54) (3 * mn) (J 41 2)) (3 * mn + 1) (J 41 3)) (3 * mn + 2) (J 41 4) := rfl
  have e57 : rMk J mn 57 = tkco (J 57) (J 49) (70 * mn) 70 := rfl
  have e58 : rMk J mn 58 = tkco (J 58) (J 50) (5 * mn) 5 := rfl
  rw [e54, e57, e58]
  by_cases e : k = mn
  · subst e
    simp only [va_up_self]
    refine ⟨?_, W1, W64, ?_, rW, h414, cn5, fun c hc => ?_⟩
    · rw [va_up_ne _ _ (by omega), va_up_ne _ _ (by omega), va_up_self]; exact h412
    · rw [va_up_ne _ _ (by omega), va_up_self]; exact h413
    · obtain ⟨z1, z2, z3, z4⟩ := hcW c hc
      refine ⟨(tkco_in rfl (by omega)).trans z1, z2, z3, WF_congr 14 (cl c - 1) (fun i hi => (tkco_in rfl (by omega)).symm) z4⟩
  · simp only [tk_une e]
    obtain ⟨q1, q2, q3, q4, q5, q6, q7, q8⟩ := m3 k (by omega)
    refine ⟨?_, q2, q3, ?_, q5, ?_, q7, fun c hc => ?_⟩
    · rw [va_up_ne _ _ (by omega), va_up_ne _ _ (by omega), va_up_ne _ _ (by omega)]; exact q1
    · rw [va_up_ne _ _ (by omega), va_up_ne _ _ (by omega), va_up_ne _ _ (by omega)]; exact q4
    · rw [va_up_ne _ _ (by omega), va_up_ne _ _ (by omega), va_up_ne _ _ (by omega)]; exact q6
    · obtain ⟨z1, z2, z3, z4⟩ := q8 c hc
      exact ⟨(tkco_lo (by omega)).trans z1, z2, z3, WF_congr 14 (ml k c - 1) (fun i hi => (tkco_lo (by omega)).symm) z4⟩
theorem k_mark (hN : cNow n T I L P J tw np nf W r cn cl pn pl pg mn mW mr mc ml) {m : Nat} (hm : m ≤ 12) (hm0 : J 40 20 = nI m) : tkM G mX10_mark 3 2 20 [vR 0] (n, T, I, L, P) (cPst n T I L P J (rMaC J) (nI mn) (rMk (rKp J m) mn)) := by
  have hN' := hN
  obtain ⟨hR, hk, ⟨hTH, hPH, hMH, hGW, hob⟩, ftw, pic, sta, oa, se, pa, ma, ht, hpc, hst, hoa, hse, hpa, hma⟩ := hN
  have hn := hR.1
  have hsc := hR.2.1
  have hk' := hk
  obtain ⟨k0, k1, k2, k3, k4, k5, k6⟩ := hk'
  have ht' := ht
  obtain ⟨u0, u1, u2, u3, u4, u5, u6⟩ := ht'
  have hpc' := hpc
  obtain ⟨fpi, tpi, wa, ca, ga, p1, p2, p3, hw, fca, hca, hcl, fga, hga, hgr⟩ := hpc'
  have hp : pObj T P pic wa ca ga := ⟨tpi, p1, p2, p3⟩
  have hTH' := hTH
  obtain ⟨h41, np1, np4, h411, nf1, nf4, h412, W1, W64, h413, rW, h414, cn5, hcW, hsW⟩ := hTH'
  have ma25 := hma.2.1
  have fma := hma.1
  have f2 := ftw.2
  have f4 := fma.2
  have hMH' := hMH
  obtain ⟨hm6, hm62, hmw⟩ := hMH'
  refine tkM.of (ls := [some _, none]) (by decide +kernel) (by decide +kernel) (Nat.le_of_ble_eq_true rfl) rfl ?_
  refine tk_bnd (fun hb => ?_)
  dsimp only at hb
  refine tk_aload0 dX10_mark_0 ?_
  refine tk_getP dX10_mark_1 fX10_13 rfl (by first | assumption | exact va_up_self _ _ _ | exact (va_up_ne _ _ (by omega)).trans (by assumption) | exact congrArg Prod.fst (va_up_self _ _ _) | exact (congrArg Prod.fst (va_up_ne _ _ (by omega))).trans (by assumption) | exact (congrFun (va_up_ne _ _ (by omega)) _).trans (by assumption) | exact (va_up_ne _ _ (by omega)).trans (va_up_self _ _ _) | exact (va_up_ne _ _ (by omega)).trans ((va_up_ne _ _ (by omega)).trans (by assumption)) | exact (congrArg Prod.fst ((va_up_ne _ _ (by omega)).trans (va_up_ne _ _ (by omega)))).trans (by assumption) | exact (congrFun ((va_up_ne _ _ (by omega)).trans (va_up_ne _ _ (by omega))) _).trans (by assumption) | (rw [va_up_self, va_up_ne _ _ (by omega)]; assumption)) (by first | assumption | exact va_up_self _ _ _ | exact (va_up_ne _ _ (by omega)).trans (by assumption) | exact congrArg Prod.fst (va_up_self _ _ _) | exact (congrArg Prod.fst (va_up_ne _ _ (by omega))).trans (by assumption) | exact (congrFun (va_up_ne _ _ (by omega)) _).trans (by assumption) | exact (va_up_ne _ _ (by omega)).trans (va_up_self _ _ _) | exact (va_up_ne _ _ (by omega)).trans ((va_up_ne _ _ (by omega)).trans (by assumption)) | exact (congrArg Prod.fst ((va_up_ne _ _ (by omega)).trans (va_up_ne _ _ (by omega)))).trans (by assumption) | exact (congrFun ((va_up_ne _ _ (by omega)).trans (va_up_ne _ _ (by omega))) _).trans (by assumption) | (rw [va_up_self, va_up_ne _ _ (by omega)]; assumption)) ?_
  refine tk_getP dX10_mark_4 fX10_339 rfl (by first | assumption | exact va_up_self _ _ _ | exact (va_up_ne _ _ (by omega)).trans (by assumption) | exact congrArg Prod.fst (va_up_self _ _ _) | exact (congrArg Prod.fst (va_up_ne _ _ (by omega))).trans (by assumption) | exact (congrFun (va_up_ne _ _ (by omega)) _).trans (by assumption) | exact (va_up_ne _ _ (by omega)).trans (va_up_self _ _ _) | exact (va_up_ne _ _ (by omega)).trans ((va_up_ne _ _ (by omega)).trans (by assumption)) | exact (congrArg Prod.fst ((va_up_ne _ _ (by omega)).trans (va_up_ne _ _ (by omega)))).trans (by assumption) | exact (congrFun ((va_up_ne _ _ (by omega)).trans (va_up_ne _ _ (by omega))) _).trans (by assumption) | (rw [va_up_self, va_up_ne _ _ (by omega)]; assumption)) (by first | assumption | exact va_up_self _ _ _ | exact (va_up_ne _ _ (by omega)).trans (by assumption) | exact congrArg Prod.fst (va_up_self _ _ _) | exact (congrArg Prod.fst (va_up_ne _ _ (by omega))).trans (by assumption) | exact (congrFun (va_up_ne _ _ (by omega)) _).trans (by assumption) | exact (va_up_ne _ _ (by omega)).trans (va_up_self _ _ _) | exact (va_up_ne _ _ (by omega)).trans ((va_up_ne _ _ (by omega)).trans (by assumption)) | exact (congrArg Prod.fst ((va_up_ne _ _ (by omega)).trans (va_up_ne _ _ (by omega)))).trans (by assumption) | exact (congrFun ((va_up_ne _ _ (by omega)).trans (va_up_ne _ _ (by omega))) _).trans (by assumption) | (rw [va_up_self, va_up_ne _ _ (by omega)]; assumption)) ?_
  refine tk_alen dX10_mark_7 (by first | assumption | exact va_up_self _ _ _ | exact (va_up_ne _ _ (by omega)).trans (by assumption) | exact congrArg Prod.fst (va_up_self _ _ _) | exact (congrArg Prod.fst (va_up_ne _ _ (by omega))).trans (by assumption) | exact (congrFun (va_up_ne _ _ (by omega)) _).trans (by assumption) | exact (va_up_ne _ _ (by omega)).trans (va_up_self _ _ _) | exact (va_up_ne _ _ (by omega)).trans ((va_up_ne _ _ (by omega)).trans (by assumption)) | exact (congrArg Prod.fst ((va_up_ne _ _ (by omega)).trans (va_up_ne _ _ (by omega)))).trans (by assumption) | exact (congrFun ((va_up_ne _ _ (by omega)).trans (va_up_ne _ _ (by omega))) _).trans (by assumption) | (rw [va_up_self, va_up_ne _ _ (by omega)]; assumption)) (by omega) ?_
  refine tk_istore1 dX10_mark_8 rfl ?_
  refine tk_iload1 dX10_mark_9 ?_
  refine tk_bipush dX10_mark_10 kc_bipush_6 ?_
  first | refine tk_icmp_ltN dX10_mark_12 (by omega) (by omega) (fun h12 => ?_) (fun h12 => ?_) | refine tk_jcmp_lt dX10_mark_12 (fun h12 => ?_) (fun h12 => ?_)
  · refine tk_aload0 dX10_mark_22 ?_
    refine tk_aload0 dX10_mark_23 ?_
    refine tk_getP dX10_mark_24 fX10_13 rfl (by first | assumption | exact va_up_self _ _ _ | exact (va_up_ne _ _ (by omega)).trans (by assumption) | exact congrArg Prod.fst (va_up_self _ _ _) | exact (congrArg Prod.fst (va_up_ne _ _ (by omega))).trans (by assumption) | exact (congrFun (va_up_ne _ _ (by omega)) _).trans (by assumption) | exact (va_up_ne _ _ (by omega)).trans (va_up_self _ _ _) | exact (va_up_ne _ _ (by omega)).trans ((va_up_ne _ _ (by omega)).trans (by assumption)) | exact (congrArg Prod.fst ((va_up_ne _ _ (by omega)).trans (va_up_ne _ _ (by omega)))).trans (by assumption) | exact (congrFun ((va_up_ne _ _ (by omega)).trans (va_up_ne _ _ (by omega))) _).trans (by assumption) | (rw [va_up_self, va_up_ne _ _ (by omega)]; assumption)) (by first | assumption | exact va_up_self _ _ _ | exact (va_up_ne _ _ (by omega)).trans (by assumption) | exact congrArg Prod.fst (va_up_self _ _ _) | exact (congrArg Prod.fst (va_up_ne _ _ (by omega))).trans (by assumption) | exact (congrFun (va_up_ne _ _ (by omega)) _).trans (by assumption) | exact (va_up_ne _ _ (by omega)).trans (va_up_self _ _ _) | exact (va_up_ne _ _ (by omega)).trans ((va_up_ne _ _ (by omega)).trans (by assumption)) | exact (congrArg Prod.fst ((va_up_ne _ _ (by omega)).trans (va_up_ne _ _ (by omega)))).trans (by assumption) | exact (congrFun ((va_up_ne _ _ (by omega)).trans (va_up_ne _ _ (by omega))) _).trans (by assumption) | (rw [va_up_self, va_up_ne _ _ (by omega)]; assumption)) ?_
    refine tk_callV0s dX10_mark_27 kX10_343 (by first | assumption | exact va_up_self _ _ _ | exact (va_up_ne _ _ (by omega)).trans (by assumption) | exact congrArg Prod.fst (va_up_self _ _ _) | exact (congrArg Prod.fst (va_up_ne _ _ (by omega))).trans (by assumption) | exact (congrFun (va_up_ne _ _ (by omega)) _).trans (by assumption) | exact (va_up_ne _ _ (by omega)).trans (va_up_self _ _ _) | exact (va_up_ne _ _ (by omega)).trans ((va_up_ne _ _ (by omega)).trans (by assumption)) | exact (congrArg Prod.fst ((va_up_ne _ _ (by omega)).trans (va_up_ne _ _ (by omega)))).trans (by assumption) | exact (congrFun ((va_up_ne _ _ (by omega)).trans (va_up_ne _ _ (by omega))) _).trans (by assumption) | (rw [va_up_self, va_up_ne _ _ (by omega)]; assumption)) (c_withMark (mn := mn) ht (by omega) ma25 (by omega) (by omega) (fun i hi => by obtain ⟨po, y1, y2, y3⟩ := hma.2.2 i hi; exact ⟨po, y1, y2.2.1⟩) tpi (fun x hx => hb x (by rw [hx]; decide)) hn) (Nat.le_of_ble_eq_true rfl) (by omega) (by omega) (by omega) ?_
    rintro rr h1 ⟨T3, I3, L3, P3, rfl, rfl, nw, to3, s1, s2⟩
    dsimp only [Option.toList, List.singleton_append]
    have ex3 := nw.ex
    have st3 := hsc.st hn nw
    have hmn : cMar (n + 1 + 1) T3 I3 L3 P3 n np nf (mn + 1) (va_up mW mn W) (va_up mr mn r) (va_up mc mn cn) (va_up ml mn cl) (tkco (J 55) (J 42) (64 * mn) 64) (tkco (J 56) (J 43) (256 * mn) 256) (tkco (J 57) (J 49) (70 * mn) 70) (tkco (J 59) (J 45) (3 * mn) 3) := by
      refine ⟨fz.new hn (by omega) (by omega), s1, fun k hk => ?_⟩
      by_cases e : k = mn
      · subst e
        simp only [va_up_self]
        refine ⟨pic, by rw [s2, va_up_self], (hpc.ex ex3).kc W64 np4 cn5 (fun w hw => (tkco_in rfl hw).symm) (fun w hw => (tkco_in rfl hw).symm) (fun w hw => (tkco_in rfl hw).symm) (fun w hw => (tkco_in rfl hw).symm), hGW.kc np4 (fun w hw => (tkco_in rfl hw).symm) (fun w hw => (tkco_in rfl hw).symm)⟩
      · obtain ⟨po, z1, z2, z3⟩ := hma.2.2 k (by omega)
        simp only [tk_une e]
        have hmc := (hmw k (by omega)).2.2.2.2.2.2.1
        refine ⟨po, by rw [s2, va_up_ne _ _ e, tkcp_lt (by omega)]; exact z1, (z2.ex ex3).kc z3.1 np4 hmc (fun w hw => (tkco_lo (by omega)).symm) (fun w hw => (tkco_lo (by omega)).symm) (fun w hw => (tkco_lo (by omega)).symm) (fun w hw => (tkco_lo (by omega)).symm), z3.kc np4 (fun w hw => (tkco_lo (by omega)).symm) (fun w hw => (tkco_lo (by omega)).symm)⟩
    have tn : cTown (n + 1 + 1) T3 I3 L3 P3 (n + 1) (rMk J mn) := ⟨np, nf, W, r, cn, cl, pn, pl, pg, mn + 1, va_up mW mn W, va_up mr mn r, va_up mc mn cn, va_up ml mn cl, ⟨hTH, hPH, hTH.mk hMH (by omega), hGW, hob⟩, fz.new hn (by omega) (by omega), pic, sta, oa, se, pa, n, to3, hpc.ex ex3, hst.ex ex3, hoa.ex ex3, hse.ex ex3, hpa.ex ex3, hmn⟩
    have t0 : (T3 0).1 = 10 := by rw [(nw.2 0 (by omega)).1]; exact k0
    refine tk_callV1q dX10_mark_30 kX10_80 (by first | assumption | exact va_up_self _ _ _ | exact (va_up_ne _ _ (by omega)).trans (by assumption) | exact congrArg Prod.fst (va_up_self _ _ _) | exact (congrArg Prod.fst (va_up_ne _ _ (by omega))).trans (by assumption) | exact (congrFun (va_up_ne _ _ (by omega)) _).trans (by assumption) | exact (va_up_ne _ _ (by omega)).trans (va_up_self _ _ _) | exact (va_up_ne _ _ (by omega)).trans ((va_up_ne _ _ (by omega)).trans (by assumption)) | exact (congrArg Prod.fst ((va_up_ne _ _ (by omega)).trans (va_up_ne _ _ (by omega)))).trans (by assumption) | exact (congrFun ((va_up_ne _ _ (by omega)).trans (va_up_ne _ _ (by omega))) _).trans (by assumption) | (rw [va_up_self, va_up_ne _ _ (by omega)]; assumption)) (c_become (hR.st st3) hm0 hm tn) (Nat.le_of_ble_eq_true rfl) (by omega) ?_
    rintro rr h1 ⟨I4, P4, rfl, rfl, b1, b2, b3, b4⟩
    dsimp only [Option.toList, List.nil_append]
    refine tk_iload1 dX10_mark_33 ?_
    refine tk_ireturn dX10_mark_34 rfl ?_
    refine BC_pst (st3.kp hn) b1 b2 b4 ?_ rfl ?_
    · have hne : ¬ nI mn = nI 6 := fun q => by have := (nI_eq (by omega) (by omega)).mp q; omega
      simp [rMaC, *]
    · refine bJ_of rMk_kp rfl ?_ ?_ ?_ rfl
      · exact rKp_an (by omega) (by omega)
      · exact rKp_an (by omega) (by omega)
      · exact rKp_an (by omega) (by omega)
  · refine tk_aload0 dX10_mark_15 ?_
    refine tk_ldc dX10_mark_16 klX10_138 ?_
    refine tk_callV1z dX10_mark_18 kX10_66 (by first | assumption | exact va_up_self _ _ _ | exact (va_up_ne _ _ (by omega)).trans (by assumption) | exact congrArg Prod.fst (va_up_self _ _ _) | exact (congrArg Prod.fst (va_up_ne _ _ (by omega))).trans (by assumption) | exact (congrFun (va_up_ne _ _ (by omega)) _).trans (by assumption) | exact (va_up_ne _ _ (by omega)).trans (va_up_self _ _ _) | exact (va_up_ne _ _ (by omega)).trans ((va_up_ne _ _ (by omega)).trans (by assumption)) | exact (congrArg Prod.fst ((va_up_ne _ _ (by omega)).trans (va_up_ne _ _ (by omega)))).trans (by assumption) | exact (congrFun ((va_up_ne _ _ (by omega)).trans (va_up_ne _ _ (by omega))) _).trans (by assumption) | (rw [va_up_self, va_up_ne _ _ (by omega)]; assumption)) (c_finding hk _) (Nat.le_of_ble_eq_true rfl) (by omega) ?_
    refine tk_ireturn dX10_mark_21 rfl ?_
    obtain rfl : mn = 6 := by omega
    exact cPst_f (by simp [rMaC, *]) hR cKp.rf
end ACTS7
