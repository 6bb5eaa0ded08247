/-! ===== the class: openly, cry, lie ===== -/
theorem kS_eq {J : Nat → Nat → Int32} {LL : Nat → Nat → Int64} {np W a : Nat} {x so : Int64} (hnp : np ≤ 4) (hW : W ≤ 64) (ha : a < np) (hx : ∀ u, tb x u = true ↔ tb (evr W) u = true ∧ ∀ v, tb (evr W) v = true → tieB (pB (J 43) W) a u v → tb so v = true) : x = rKs (vwB J LL np W) W a so := by
  apply tb_extT
  intro u
  rw [hx u, rKs, tb_mkT hW, tb_evrT hW]
  refine and_congr_right (fun hu => ?_)
  rw [rKn_T, vwB_eq hnp hW a ha u hu]
  rfl
theorem kW_eq {J : Nat → Nat → Int32} {LL : Nat → Nat → Int64} {np W a : Nat} {x so : Int64} (hnp : np ≤ 4) (hW : W ≤ 64) (ha : a < np) (hx : ∀ u, tb x u = true ↔ tb (evr W) u = true ∧ ((∀ v, tb (evr W) v = true → tieB (pB (J 43) W) a u v → tb so v = true) ∨ ∀ v, tb (evr W) v = true → tieB (pB (J 43) W) a u v → ¬ tb so v = true)) : x = rKa (vwB J LL np W) W a so := by
  apply tb_extT
  intro u
  rw [hx u, rKa, tb_mkT hW, tb_evrT hW]
  refine and_congr_right (fun hu => ?_)
  rw [rKw, Bool.or_eq_true, rKn_T, rKn_T, vwB_eq hnp hW a ha u hu]
  refine or_congr Iff.rfl ⟨fun z v h1 h2 => tb_dif.mpr ⟨h1, z v h1 h2⟩, fun z v h1 h2 => (tb_dif.mp (z v h1 h2)).2⟩
theorem kW_r {J : Nat → Nat → Int32} {LL : Nat → Nat → Int64} {np W a r : Nat} {so : Int64} (hW : W ≤ 64) (hr : r < W) : tb (rKa (vwB J LL np W) W a so) r = rKw (vwB J LL np W) W a r so := by
  rw [Bool.eq_iff_iff, rKa, tb_mkT hW]
  exact ⟨fun z => z.2, fun z => ⟨hr, z⟩⟩
theorem mt_f {J : Nat → Nat → Int32} {a b s : Int32} {near : Bool} (h : ¬ kMt J a b s = 0) : rRf J a b s near = some (kMt J a b s) := by
  unfold kMt at h ⊢
  unfold rRf
  split
  · rename_i h1
    rw [if_pos h1] at h
    split
    · rfl
    · rename_i h2
      rw [if_neg h2] at h
      split
      · rename_i h3
        rw [if_pos h3] at h
        exact absurd nI_0 h
      · rfl
  · rfl
theorem mt_0 {J : Nat → Nat → Int32} {a b s : Int32} {np : Nat} (hnp : J 41 0 = nI np) (hnp4 : np ≤ 4) (h : kMt J a b s = 0) : ∃ a' b' s', a' < np ∧ b' < np ∧ s' < 6 ∧ a = nI a' ∧ b = nI b' ∧ s = nI s' ∧ ¬ a' = b' ∧ rRt J (nI s') = true ∧ ∀ near, rRf J a b s near = if near = true ∧ ¬ J 44 a' = J 44 b' then some (-100007) else if rFs (fun i => J 47 (14 * s' + i)) (ix (J 48 s')) &&& J 46 a' = 0 then none else some (-100008) := by
  unfold kMt at h
  split at h
  · rename_i h1
    split at h
    · exact absurd h (by decide)
    · rename_i h2
      split at h
      · rename_i h3
        have h1' := h1
        rw [Bool.and_eq_true, Bool.and_eq_true] at h1'
        obtain ⟨a', ha, rfl⟩ := rPe_of h1'.1 hnp (by omega)
        obtain ⟨b', hb, rfl⟩ := rPe_of h1'.2.1 hnp (by omega)
        obtain ⟨s', hs, rfl⟩ := rIn_of h1'.2.2 (by omega)
        refine ⟨a', b', s', ha, hb, by omega, rfl, rfl, rfl, fun e => h2 (by rw [e]), h3, fun near => ?_⟩
        unfold rRf
        rw [if_pos h1, if_neg h2, if_pos h3, ix_nI (by omega), ix_nI (by omega), ix_nI (by omega)]
      · exact absurd h (by decide)
  · exact absurd h (by decide)
theorem sy_f {J : Nat → Nat → Int32} {p s : Int32} (h : ¬ kSy J p s = 0) : (rPer (J 41 0) p && rIn s (nI 0) (nI 5)) = false ∧ kSy J p s = (-100001) ∨ (rPer (J 41 0) p && rIn s (nI 0) (nI 5)) = true ∧ rRt J s = false ∧ kSy J p s = (-100004) := by
  unfold kSy rAsk at h ⊢
  cases h1 : rPer (J 41 0) p with
  | false => exact Or.inl ⟨rfl, rfl⟩
  | true =>
    cases h2 : rIn s (nI 0) (nI 5) with
    | false => exact Or.inl ⟨rfl, rfl⟩
    | true =>
      cases h3 : rRt J s with
      | false => exact Or.inr ⟨rfl, rfl, rfl⟩
      | true =>
        rw [h1, h2, h3] at h
        exact absurd rfl h
theorem sy_0 {J : Nat → Nat → Int32} {p s : Int32} {np : Nat} (hnp : J 41 0 = nI np) (hnp4 : np ≤ 4) (h : kSy J p s = 0) : ∃ p' s', p' < np ∧ s' < 6 ∧ p = nI p' ∧ s = nI s' ∧ rPer (J 41 0) p = true ∧ rIn s (nI 0) (nI 5) = true ∧ rRt J (nI s') = true := by
  unfold kSy at h
  split at h
  · rename_i h1
    obtain ⟨p', hp, rfl⟩ := rPe_of h1 hnp (by omega)
    unfold rAsk at h
    split at h
    · rename_i h2
      obtain ⟨s', hs, rfl⟩ := rIn_of h2 (by omega)
      split at h
      · rename_i h3
        exact ⟨p', s', hp, by omega, rfl, rfl, h1, h2, h3⟩
      · exact absurd h (by decide)
    · exact absurd h (by decide)
  · exact absurd h (by decide)
theorem sy_c {J : Nat → Nat → Int32} {LL : Nat → Nat → Int64} {np W r cn : Nat} {cl : Nat → Nat} {p s : Int32} (h : ¬ kSy J p s = 0) : rCrC J LL np W r cn cl p s = some (kSy J p s) := by
  unfold rCrC
  rcases sy_f h with ⟨z1, z2⟩ | ⟨z1, z2, z3⟩
  · rw [if_neg (by rw [z1]; decide), z2]
  · rw [if_pos z1, if_neg (by rw [z2]; decide), z3]
theorem sy_l {J : Nat → Nat → Int32} {kw : Bool} {p s : Int32} (h : ¬ kSy J p s = 0) : rLiC J kw p s = some (kSy J p s) := by
  unfold rLiC
  rcases sy_f h with ⟨z1, z2⟩ | ⟨z1, z2, z3⟩
  · rw [if_neg (by rw [z1]; decide), z2]
  · rw [if_pos z1, if_neg (by rw [z2, Bool.false_and]; decide), z3]
section CRY
variable {G : tkG} {n : Nat} {T : Nat → Nat × Nat} {I J : Nat → Nat → Int32} {L : Nat → Nat → Int64} {P : Nat → Nat → Option Nat} {tw np nf W r cn : Nat} {cl : Nat → Nat} {pn : Nat} {pl pg : Nat → Nat} {mn : Nat} {mW mr mc : Nat → Nat} {ml : Nat → Nat → Nat}
theorem k_openly (hN : cNow n T I L P J tw np nf W r cn cl pn pl pg mn mW mr mc ml) (LL : Nat → Nat → Int64) {m : Nat} (hm : m ≤ 12) (hm0 : J 40 20 = nI m) (a b s : Int32) : tkM G mX10_openly 96 5 275 [vR 0, vI a, vI b, vI s] (n, T, I, L, P) (lPst n T I L P J m (rOpC J LL np W r cn cl a b s false) (mR J np W r (rKa (vwB J LL np W) W (ix a) (soT J LL np W cn cl (ix s))) b (soT J LL np W cn cl (ix s)))) := by
  have hN' := hN
  obtain ⟨hR, hk, ⟨hTH, hPH, hMH, hGW, hob⟩, ftw, pic, sta, oa, se, pa, ma, ht, hpc, hst, hoa, hse, hpa, hma⟩ := hN
  have hn := hR.1
  have hsc := hR.2.1
  have hk' := hk
  obtain ⟨k0, k1, k2, k3, k4, k5, k6⟩ := hk'
  have ht' := ht
  obtain ⟨u0, u1, u2, u3, u4, u5, u6⟩ := ht'
  have hpc' := hpc
  obtain ⟨fpi, tpi, wa, ca, ga, p1, p2, p3, hw, fca, hca, hcl, fga, hga, hgr⟩ := hpc'
  have hp : pObj T P pic wa ca ga := ⟨tpi, p1, p2, p3⟩
  have hTH' := hTH
  obtain ⟨h41, np1, np4, h411, nf1, nf4, h412, W1, W64, h413, rW, h414, cn5, hcW, hsW⟩ := hTH'
  have w9 : (T wa).1 = 9 := hw.2.1
  have se6 := hse.2.1
  obtain ⟨v1, v2⟩ := now_sVw hN' hpc hp
  refine tkM.of (ls := [some _, some _, some _, some _, none, none, none, none, none, none]) (by decide +kernel) (by decide +kernel) (Nat.le_of_ble_eq_true rfl) rfl ?_
  refine tk_aload0 dX10_openly_0 ?_
  refine tk_iload1 dX10_openly_1 ?_
  refine tk_iload2 dX10_openly_2 ?_
  refine tk_iload3 dX10_openly_3 ?_
  refine tk_callV3z dX10_openly_4 kX10_201 (by first | assumption | exact va_up_self _ _ _ | exact (va_up_ne _ _ (by omega)).trans (by assumption) | exact congrArg Prod.fst (va_up_self _ _ _) | exact (congrArg Prod.fst (va_up_ne _ _ (by omega))).trans (by assumption) | exact (congrFun (va_up_ne _ _ (by omega)) _).trans (by assumption) | exact (va_up_ne _ _ (by omega)).trans (va_up_self _ _ _) | exact (va_up_ne _ _ (by omega)).trans ((va_up_ne _ _ (by omega)).trans (by assumption)) | exact (congrArg Prod.fst ((va_up_ne _ _ (by omega)).trans (va_up_ne _ _ (by omega)))).trans (by assumption) | exact (congrFun ((va_up_ne _ _ (by omega)).trans (va_up_ne _ _ (by omega))) _).trans (by assumption) | (rw [va_up_self, va_up_ne _ _ (by omega)]; assumption)) (k_meeting hN' a b s) (Nat.le_of_ble_eq_true rfl) (by omega) ?_
  refine tk_istore4 dX10_openly_7 rfl ?_
  refine tk_iload4 dX10_openly_9 ?_
  first | refine tk_jf_eqB dX10_openly_11 (fun h11 => ?_) (fun h11 => ?_) | refine tk_if_eq dX10_openly_11 (fun h11 => ?_) (fun h11 => ?_)
  · refine tk_aload0 dX10_openly_21 ?_
    obtain ⟨a', b', s', ha', hb', hs', rfl, rfl, rfl, hab, hrt, hrf⟩ := mt_0 h41 np4 h11
    have hix : ix (nI a') = a' := ix_nI (by omega)
    have hiz : ix (nI s') = s' := ix_nI (by omega)
    obtain ⟨ra, l, q1, q2, q3, q4, q5, q6, q7, q8⟩ := sen_row hse hs'
    have hso := soT_eq (L := LL) hTH hs' hrt
    refine tk_getP dX10_openly_22 fX10_13 rfl (by first | assumption | exact va_up_self _ _ _ | exact (va_up_ne _ _ (by omega)).trans (by assumption) | exact congrArg Prod.fst (va_up_self _ _ _) | exact (congrArg Prod.fst (va_up_ne _ _ (by omega))).trans (by assumption) | exact (congrFun (va_up_ne _ _ (by omega)) _).trans (by assumption) | exact (va_up_ne _ _ (by omega)).trans (va_up_self _ _ _) | exact (va_up_ne _ _ (by omega)).trans ((va_up_ne _ _ (by omega)).trans (by assumption)) | exact (congrArg Prod.fst ((va_up_ne _ _ (by omega)).trans (va_up_ne _ _ (by omega)))).trans (by assumption) | exact (congrFun ((va_up_ne _ _ (by omega)).trans (va_up_ne _ _ (by omega))) _).trans (by assumption) | (rw [va_up_self, va_up_ne _ _ (by omega)]; assumption)) (by first | assumption | exact va_up_self _ _ _ | exact (va_up_ne _ _ (by omega)).trans (by assumption) | exact congrArg Prod.fst (va_up_self _ _ _) | exact (congrArg Prod.fst (va_up_ne _ _ (by omega))).trans (by assumption) | exact (congrFun (va_up_ne _ _ (by omega)) _).trans (by assumption) | exact (va_up_ne _ _ (by omega)).trans (va_up_self _ _ _) | exact (va_up_ne _ _ (by omega)).trans ((va_up_ne _ _ (by omega)).trans (by assumption)) | exact (congrArg Prod.fst ((va_up_ne _ _ (by omega)).trans (va_up_ne _ _ (by omega)))).trans (by assumption) | exact (congrFun ((va_up_ne _ _ (by omega)).trans (va_up_ne _ _ (by omega))) _).trans (by assumption) | (rw [va_up_self, va_up_ne _ _ (by omega)]; assumption)) ?_
    refine tk_getP dX10_openly_25 fX10_131 rfl (by first | assumption | exact va_up_self _ _ _ | exact (va_up_ne _ _ (by omega)).trans (by assumption) | exact congrArg Prod.fst (va_up_self _ _ _) | exact (congrArg Prod.fst (va_up_ne _ _ (by omega))).trans (by assumption) | exact (congrFun (va_up_ne _ _ (by omega)) _).trans (by assumption) | exact (va_up_ne _ _ (by omega)).trans (va_up_self _ _ _) | exact (va_up_ne _ _ (by omega)).trans ((va_up_ne _ _ (by omega)).trans (by assumption)) | exact (congrArg Prod.fst ((va_up_ne _ _ (by omega)).trans (va_up_ne _ _ (by omega)))).trans (by assumption) | exact (congrFun ((va_up_ne _ _ (by omega)).trans (va_up_ne _ _ (by omega))) _).trans (by assumption) | (rw [va_up_self, va_up_ne _ _ (by omega)]; assumption)) (by first | assumption | exact va_up_self _ _ _ | exact (va_up_ne _ _ (by omega)).trans (by assumption) | exact congrArg Prod.fst (va_up_self _ _ _) | exact (congrArg Prod.fst (va_up_ne _ _ (by omega))).trans (by assumption) | exact (congrFun (va_up_ne _ _ (by omega)) _).trans (by assumption) | exact (va_up_ne _ _ (by omega)).trans (va_up_self _ _ _) | exact (va_up_ne _ _ (by omega)).trans ((va_up_ne _ _ (by omega)).trans (by assumption)) | exact (congrArg Prod.fst ((va_up_ne _ _ (by omega)).trans (va_up_ne _ _ (by omega)))).trans (by assumption) | exact (congrFun ((va_up_ne _ _ (by omega)).trans (va_up_ne _ _ (by omega))) _).trans (by assumption) | (rw [va_up_self, va_up_ne _ _ (by omega)]; assumption)) ?_
    refine tk_iload3 dX10_openly_28 ?_
    refine tk_aald dX10_openly_29 (by first | assumption | exact va_up_self _ _ _ | exact (va_up_ne _ _ (by omega)).trans (by assumption) | exact congrArg Prod.fst (va_up_self _ _ _) | exact (congrArg Prod.fst (va_up_ne _ _ (by omega))).trans (by assumption) | exact (congrFun (va_up_ne _ _ (by omega)) _).trans (by assumption) | exact (va_up_ne _ _ (by omega)).trans (va_up_self _ _ _) | exact (va_up_ne _ _ (by omega)).trans ((va_up_ne _ _ (by omega)).trans (by assumption)) | exact (congrArg Prod.fst ((va_up_ne _ _ (by omega)).trans (va_up_ne _ _ (by omega)))).trans (by assumption) | exact (congrFun ((va_up_ne _ _ (by omega)).trans (va_up_ne _ _ (by omega))) _).trans (by assumption) | (rw [va_up_self, va_up_ne _ _ (by omega)]; assumption)) (by omega) (by omega) (by omega) (by first | assumption | exact va_up_self _ _ _ | exact (va_up_ne _ _ (by omega)).trans (by assumption) | exact congrArg Prod.fst (va_up_self _ _ _) | exact (congrArg Prod.fst (va_up_ne _ _ (by omega))).trans (by assumption) | exact (congrFun (va_up_ne _ _ (by omega)) _).trans (by assumption) | exact (va_up_ne _ _ (by omega)).trans (va_up_self _ _ _) | exact (va_up_ne _ _ (by omega)).trans ((va_up_ne _ _ (by omega)).trans (by assumption)) | exact (congrArg Prod.fst ((va_up_ne _ _ (by omega)).trans (va_up_ne _ _ (by omega)))).trans (by assumption) | exact (congrFun ((va_up_ne _ _ (by omega)).trans (va_up_ne _ _ (by omega))) _).trans (by assumption) | (rw [va_up_self, va_up_ne _ _ (by omega)]; assumption)) ?_
    refine tk_astore5 dX10_openly_30 rfl ?_
    refine tk_aload0 dX10_openly_32 ?_
    refine tk_getP dX10_openly_33 fX10_13 rfl (by first | assumption | exact va_up_self _ _ _ | exact (va_up_ne _ _ (by omega)).trans (by assumption) | exact congrArg Prod.fst (va_up_self _ _ _) | exact (congrArg Prod.fst (va_up_ne _ _ (by omega))).trans (by assumption) | exact (congrFun (va_up_ne _ _ (by omega)) _).trans (by assumption) | exact (va_up_ne _ _ (by omega)).trans (va_up_self _ _ _) | exact (va_up_ne _ _ (by omega)).trans ((va_up_ne _ _ (by omega)).trans (by assumption)) | exact (congrArg Prod.fst ((va_up_ne _ _ (by omega)).trans (va_up_ne _ _ (by omega)))).trans (by assumption) | exact (congrFun ((va_up_ne _ _ (by omega)).trans (va_up_ne _ _ (by omega))) _).trans (by assumption) | (rw [va_up_self, va_up_ne _ _ (by omega)]; assumption)) (by first | assumption | exact va_up_self _ _ _ | exact (va_up_ne _ _ (by omega)).trans (by assumption) | exact congrArg Prod.fst (va_up_self _ _ _) | exact (congrArg Prod.fst (va_up_ne _ _ (by omega))).trans (by assumption) | exact (congrFun (va_up_ne _ _ (by omega)) _).trans (by assumption) | exact (va_up_ne _ _ (by omega)).trans (va_up_self _ _ _) | exact (va_up_ne _ _ (by omega)).trans ((va_up_ne _ _ (by omega)).trans (by assumption)) | exact (congrArg Prod.fst ((va_up_ne _ _ (by omega)).trans (va_up_ne _ _ (by omega)))).trans (by assumption) | exact (congrFun ((va_up_ne _ _ (by omega)).trans (va_up_ne _ _ (by omega))) _).trans (by assumption) | (rw [va_up_self, va_up_ne _ _ (by omega)]; assumption)) ?_
    refine tk_iload1 dX10_openly_36 ?_
    refine tk_aload5 dX10_openly_37 ?_
    refine tk_callV2z dX10_openly_39 kX10_206 (by first | assumption | exact va_up_self _ _ _ | exact (va_up_ne _ _ (by omega)).trans (by assumption) | exact congrArg Prod.fst (va_up_self _ _ _) | exact (congrArg Prod.fst (va_up_ne _ _ (by omega))).trans (by assumption) | exact (congrFun (va_up_ne _ _ (by omega)) _).trans (by assumption) | exact (va_up_ne _ _ (by omega)).trans (va_up_self _ _ _) | exact (va_up_ne _ _ (by omega)).trans ((va_up_ne _ _ (by omega)).trans (by assumption)) | exact (congrArg Prod.fst ((va_up_ne _ _ (by omega)).trans (va_up_ne _ _ (by omega)))).trans (by assumption) | exact (congrFun ((va_up_ne _ _ (by omega)).trans (va_up_ne _ _ (by omega))) _).trans (by assumption) | (rw [va_up_self, va_up_ne _ _ (by omega)]; assumption)) (c_hasSwornOn ht hoa.2.1 (show a' < 4 by omega) q8) (Nat.le_of_ble_eq_true rfl) (by omega) ?_
    rw [hoa.2.2 a' (by omega)]
    first | refine tk_jf_eqB dX10_openly_42 (fun h42 => ?_) (fun h42 => ?_) | refine tk_if_eq dX10_openly_42 (fun h42 => ?_) (fun h42 => ?_)
    · refine tk_aload0 dX10_openly_52 ?_
      refine tk_aload5 dX10_openly_53 ?_
      refine tk_callV1q dX10_openly_55 kX10_211 (by first | assumption | exact va_up_self _ _ _ | exact (va_up_ne _ _ (by omega)).trans (by assumption) | exact congrArg Prod.fst (va_up_self _ _ _) | exact (congrArg Prod.fst (va_up_ne _ _ (by omega))).trans (by assumption) | exact (congrFun (va_up_ne _ _ (by omega)) _).trans (by assumption) | exact (va_up_ne _ _ (by omega)).trans (va_up_self _ _ _) | exact (va_up_ne _ _ (by omega)).trans ((va_up_ne _ _ (by omega)).trans (by assumption)) | exact (congrArg Prod.fst ((va_up_ne _ _ (by omega)).trans (va_up_ne _ _ (by omega)))).trans (by assumption) | exact (congrFun ((va_up_ne _ _ (by omega)).trans (va_up_ne _ _ (by omega))) _).trans (by assumption) | (rw [va_up_self, va_up_ne _ _ (by omega)]; assumption)) (k_soAt hN' ht hpc hp hs' hrt q4 q5 q8) (Nat.le_of_ble_eq_true rfl) (by omega) ?_
      rintro rr hh1 hq
      obtain ⟨L', rfl, rfl, m1⟩ := soq_sa hN' hs' hrt q4 q5 hq
      dsimp only [Option.toList, List.singleton_append]
      have hsw : rFs (fun i => J 47 (14 * s' + i)) l &&& J 46 a' = 0 := Classical.not_not.mp (of_decide_eq_false h42)
      have st := look_st (n := n) (wa := wa) (ca := ca) (ga := ga) hsc m1
      have v3 := v2.L m1
      have hN2 := hN'.st st
      have hR2 := hN2.1
      have hk2 := hN2.2.1
      have k02 := hk2.1
      have k62 := hk2.2.2.2.2.1
      have ht2 := ht.ex ftw st.ex
      have hp2 : pObj T (lkPp P 25 wa ca ga) pic wa ca ga := by have := (st.ex.2 pic fpi).2.2.2; unfold pObj; rw [this]; exact hp
      have hw2 := v3.2.2.2.1
      have s25 := v3.2.1.1
      have ta0 : lkIi I 25 (25 + 1) = fun _ => nI 0 := look_ta hsc
      have es : soT J LL np W cn cl s' = soJ J np W cn cl s' := hso
      refine tk_lstore6 dX10_openly_58 rfl ?_
      refine tk_aload0 dX10_openly_60 ?_
      refine tk_getP dX10_openly_61 fX10_43 rfl (by first | assumption | exact va_up_self _ _ _ | exact (va_up_ne _ _ (by omega)).trans (by assumption) | exact congrArg Prod.fst (va_up_self _ _ _) | exact (congrArg Prod.fst (va_up_ne _ _ (by omega))).trans (by assumption) | exact (congrFun (va_up_ne _ _ (by omega)) _).trans (by assumption) | exact (va_up_ne _ _ (by omega)).trans (va_up_self _ _ _) | exact (va_up_ne _ _ (by omega)).trans ((va_up_ne _ _ (by omega)).trans (by assumption)) | exact (congrArg Prod.fst ((va_up_ne _ _ (by omega)).trans (va_up_ne _ _ (by omega)))).trans (by assumption) | exact (congrFun ((va_up_ne _ _ (by omega)).trans (va_up_ne _ _ (by omega))) _).trans (by assumption) | (rw [va_up_self, va_up_ne _ _ (by omega)]; assumption)) (by first | assumption | exact va_up_self _ _ _ | exact (va_up_ne _ _ (by omega)).trans (by assumption) | exact congrArg Prod.fst (va_up_self _ _ _) | exact (congrArg Prod.fst (va_up_ne _ _ (by omega))).trans (by assumption) | exact (congrFun (va_up_ne _ _ (by omega)) _).trans (by assumption) | exact (va_up_ne _ _ (by omega)).trans (va_up_self _ _ _) | exact (va_up_ne _ _ (by omega)).trans ((va_up_ne _ _ (by omega)).trans (by assumption)) | exact (congrArg Prod.fst ((va_up_ne _ _ (by omega)).trans (va_up_ne _ _ (by omega)))).trans (by assumption) | exact (congrFun ((va_up_ne _ _ (by omega)).trans (va_up_ne _ _ (by omega))) _).trans (by assumption) | (rw [va_up_self, va_up_ne _ _ (by omega)]; assumption)) ?_
      refine tk_iload1 dX10_openly_64 ?_
      refine tk_lload6 dX10_openly_65 ?_
      refine tk_aload0 dX10_openly_67 ?_
      refine tk_callV0z dX10_openly_68 kX10_84 (by first | assumption | exact va_up_self _ _ _ | exact (va_up_ne _ _ (by omega)).trans (by assumption) | exact congrArg Prod.fst (va_up_self _ _ _) | exact (congrArg Prod.fst (va_up_ne _ _ (by omega))).trans (by assumption) | exact (congrFun (va_up_ne _ _ (by omega)) _).trans (by assumption) | exact (va_up_ne _ _ (by omega)).trans (va_up_self _ _ _) | exact (va_up_ne _ _ (by omega)).trans ((va_up_ne _ _ (by omega)).trans (by assumption)) | exact (congrArg Prod.fst ((va_up_ne _ _ (by omega)).trans (va_up_ne _ _ (by omega)))).trans (by assumption) | exact (congrFun ((va_up_ne _ _ (by omega)).trans (va_up_ne _ _ (by omega))) _).trans (by assumption) | (rw [va_up_self, va_up_ne _ _ (by omega)]; assumption)) (c_worlds hk2 ht2 hp2) (Nat.le_of_ble_eq_true rfl) (by omega) ?_
      refine tk_callV0z dX10_openly_71 kX10_189 (by first | assumption | exact va_up_self _ _ _ | exact (va_up_ne _ _ (by omega)).trans (by assumption) | exact congrArg Prod.fst (va_up_self _ _ _) | exact (congrArg Prod.fst (va_up_ne _ _ (by omega))).trans (by assumption) | exact (congrFun (va_up_ne _ _ (by omega)) _).trans (by assumption) | exact (va_up_ne _ _ (by omega)).trans (va_up_self _ _ _) | exact (va_up_ne _ _ (by omega)).trans ((va_up_ne _ _ (by omega)).trans (by assumption)) | exact (congrArg Prod.fst ((va_up_ne _ _ (by omega)).trans (va_up_ne _ _ (by omega)))).trans (by assumption) | exact (congrFun ((va_up_ne _ _ (by omega)).trans (va_up_ne _ _ (by omega))) _).trans (by assumption) | (rw [va_up_self, va_up_ne _ _ (by omega)]; assumption)) (c_every hw2 W1 W64) (Nat.le_of_ble_eq_true rfl) (by omega) ?_
      refine tk_callV3q dX10_openly_74 kX10_215 (by first | assumption | exact va_up_self _ _ _ | exact (va_up_ne _ _ (by omega)).trans (by assumption) | exact congrArg Prod.fst (va_up_self _ _ _) | exact (congrArg Prod.fst (va_up_ne _ _ (by omega))).trans (by assumption) | exact (congrFun (va_up_ne _ _ (by omega)) _).trans (by assumption) | exact (va_up_ne _ _ (by omega)).trans (va_up_self _ _ _) | exact (va_up_ne _ _ (by omega)).trans ((va_up_ne _ _ (by omega)).trans (by assumption)) | exact (congrArg Prod.fst ((va_up_ne _ _ (by omega)).trans (va_up_ne _ _ (by omega)))).trans (by assumption) | exact (congrFun ((va_up_ne _ _ (by omega)).trans (va_up_ne _ _ (by omega))) _).trans (by assumption) | (rw [va_up_self, va_up_ne _ _ (by omega)]; assumption)) (c_knowsWhether (z := 25) v3.2.1 v3.2.2.1 hw2 W64 np4 nf4 v3.2.2.2.2.2.2.2.2.1 ha' (fun v hv => (tb_evrT W64).mp hv) (fun v hv => (tb_evrT W64).mpr (soJ_lt hTH hs' hrt v hv))) (Nat.le_of_ble_eq_true rfl) (by omega) ?_
      rintro rr hh1 ⟨x, rfl, rfl, hx⟩
      dsimp only [Option.toList, List.singleton_append]
      rw [ta0, cTi_z nf4] at hx
      obtain rfl := kW_eq (LL := LL) np4 W64 ha' hx
      refine tk_lstore8 dX10_openly_77 rfl ?_
      refine tk_aload0 dX10_openly_79 ?_
      refine tk_callV0z dX10_openly_80 kX10_84 (by first | assumption | exact va_up_self _ _ _ | exact (va_up_ne _ _ (by omega)).trans (by assumption) | exact congrArg Prod.fst (va_up_self _ _ _) | exact (congrArg Prod.fst (va_up_ne _ _ (by omega))).trans (by assumption) | exact (congrFun (va_up_ne _ _ (by omega)) _).trans (by assumption) | exact (va_up_ne _ _ (by omega)).trans (va_up_self _ _ _) | exact (va_up_ne _ _ (by omega)).trans ((va_up_ne _ _ (by omega)).trans (by assumption)) | exact (congrArg Prod.fst ((va_up_ne _ _ (by omega)).trans (va_up_ne _ _ (by omega)))).trans (by assumption) | exact (congrFun ((va_up_ne _ _ (by omega)).trans (va_up_ne _ _ (by omega))) _).trans (by assumption) | (rw [va_up_self, va_up_ne _ _ (by omega)]; assumption)) (c_worlds hk2 ht2 hp2) (Nat.le_of_ble_eq_true rfl) (by omega) ?_
      refine tk_lload8 dX10_openly_83 ?_
      refine tk_callV1z dX10_openly_85 kX10_219 (by first | assumption | exact va_up_self _ _ _ | exact (va_up_ne _ _ (by omega)).trans (by assumption) | exact congrArg Prod.fst (va_up_self _ _ _) | exact (congrArg Prod.fst (va_up_ne _ _ (by omega))).trans (by assumption) | exact (congrFun (va_up_ne _ _ (by omega)) _).trans (by assumption) | exact (va_up_ne _ _ (by omega)).trans (va_up_self _ _ _) | exact (va_up_ne _ _ (by omega)).trans ((va_up_ne _ _ (by omega)).trans (by assumption)) | exact (congrArg Prod.fst ((va_up_ne _ _ (by omega)).trans (va_up_ne _ _ (by omega)))).trans (by assumption) | exact (congrFun ((va_up_ne _ _ (by omega)).trans (va_up_ne _ _ (by omega))) _).trans (by assumption) | (rw [va_up_self, va_up_ne _ _ (by omega)]; assumption)) (c_hasReal hw2 (by omega) _) (Nat.le_of_ble_eq_true rfl) (by omega) ?_
      rw [kW_r W64 rW]
      first | refine tk_jf_neB dX10_openly_88 (fun h88 => ?_) (fun h88 => ?_) | refine tk_if_ne dX10_openly_88 (fun h88 => ?_) (fun h88 => ?_)
      · refine tk_aload0 dX10_openly_98 ?_
        refine tk_lload8 dX10_openly_99 ?_
        refine tk_iload2 dX10_openly_101 ?_
        refine tk_lload6 dX10_openly_102 ?_
        refine tk_callV3s dX10_openly_104 kX10_197 (by first | assumption | exact va_up_self _ _ _ | exact (va_up_ne _ _ (by omega)).trans (by assumption) | exact congrArg Prod.fst (va_up_self _ _ _) | exact (congrArg Prod.fst (va_up_ne _ _ (by omega))).trans (by assumption) | exact (congrFun (va_up_ne _ _ (by omega)) _).trans (by assumption) | exact (va_up_ne _ _ (by omega)).trans (va_up_self _ _ _) | exact (va_up_ne _ _ (by omega)).trans ((va_up_ne _ _ (by omega)).trans (by assumption)) | exact (congrArg Prod.fst ((va_up_ne _ _ (by omega)).trans (va_up_ne _ _ (by omega)))).trans (by assumption) | exact (congrFun ((va_up_ne _ _ (by omega)).trans (va_up_ne _ _ (by omega))) _).trans (by assumption) | (rw [va_up_self, va_up_ne _ _ (by omega)]; assumption)) (k_cutTo hN2 hm hm0 hb' ((kW_r W64 rW).trans h88) (mS_same np4 hb')) (Nat.le_of_ble_eq_true rfl) (by omega) (by omega) (by omega) ?_
        rintro rr hh1 hq
        have hq' := hq
        obtain ⟨n3, T3, I3, L3, P3, x3, rfl, rfl, -⟩ := hq'
        dsimp only [Option.toList, List.singleton_append]
        refine tk_ireturn dX10_openly_107 rfl ?_
        rw [hix, hiz, es]
        exact lPst_g (by rw [rOpC, hrf, if_neg (fun z => by cases z.1), q6, if_pos hsw, hix, hiz, es, h88]; rfl) (st.kp hn) hq
      · refine tk_aload0 dX10_openly_91 ?_
        refine tk_ldc dX10_openly_92 klX10_223 ?_
        refine tk_callV1z dX10_openly_94 kX10_66 (by first | assumption | exact va_up_self _ _ _ | exact (va_up_ne _ _ (by omega)).trans (by assumption) | exact congrArg Prod.fst (va_up_self _ _ _) | exact (congrArg Prod.fst (va_up_ne _ _ (by omega))).trans (by assumption) | exact (congrFun (va_up_ne _ _ (by omega)) _).trans (by assumption) | exact (va_up_ne _ _ (by omega)).trans (va_up_self _ _ _) | exact (va_up_ne _ _ (by omega)).trans ((va_up_ne _ _ (by omega)).trans (by assumption)) | exact (congrArg Prod.fst ((va_up_ne _ _ (by omega)).trans (va_up_ne _ _ (by omega)))).trans (by assumption) | exact (congrFun ((va_up_ne _ _ (by omega)).trans (va_up_ne _ _ (by omega))) _).trans (by assumption) | (rw [va_up_self, va_up_ne _ _ (by omega)]; assumption)) (c_finding hk2 _) (Nat.le_of_ble_eq_true rfl) (by omega) ?_
        refine tk_ireturn dX10_openly_97 rfl ?_
        exact lPst_f (by rw [rOpC, hrf, if_neg (fun z => by cases z.1), q6, if_pos hsw, hix, hiz, es, h88]; rfl) hR2 (st.kp hn)
    · refine tk_aload0 dX10_openly_45 ?_
      refine tk_ldc dX10_openly_46 klX10_210 ?_
      refine tk_callV1z dX10_openly_48 kX10_66 (by first | assumption | exact va_up_self _ _ _ | exact (va_up_ne _ _ (by omega)).trans (by assumption) | exact congrArg Prod.fst (va_up_self _ _ _) | exact (congrArg Prod.fst (va_up_ne _ _ (by omega))).trans (by assumption) | exact (congrFun (va_up_ne _ _ (by omega)) _).trans (by assumption) | exact (va_up_ne _ _ (by omega)).trans (va_up_self _ _ _) | exact (va_up_ne _ _ (by omega)).trans ((va_up_ne _ _ (by omega)).trans (by assumption)) | exact (congrArg Prod.fst ((va_up_ne _ _ (by omega)).trans (va_up_ne _ _ (by omega)))).trans (by assumption) | exact (congrFun ((va_up_ne _ _ (by omega)).trans (va_up_ne _ _ (by omega))) _).trans (by assumption) | (rw [va_up_self, va_up_ne _ _ (by omega)]; assumption)) (c_finding hk _) (Nat.le_of_ble_eq_true rfl) (by omega) ?_
      refine tk_ireturn dX10_openly_51 rfl ?_
      exact lPst_f (by rw [rOpC, hrf, if_neg (fun z => by cases z.1), q6, if_neg (of_decide_eq_true h42)]) hR cKp.rf
  · refine tk_aload0 dX10_openly_14 ?_
    refine tk_iload4 dX10_openly_15 ?_
    refine tk_callV1z dX10_openly_17 kX10_66 (by first | assumption | exact va_up_self _ _ _ | exact (va_up_ne _ _ (by omega)).trans (by assumption) | exact congrArg Prod.fst (va_up_self _ _ _) | exact (congrArg Prod.fst (va_up_ne _ _ (by omega))).trans (by assumption) | exact (congrFun (va_up_ne _ _ (by omega)) _).trans (by assumption) | exact (va_up_ne _ _ (by omega)).trans (va_up_self _ _ _) | exact (va_up_ne _ _ (by omega)).trans ((va_up_ne _ _ (by omega)).trans (by assumption)) | exact (congrArg Prod.fst ((va_up_ne _ _ (by omega)).trans (va_up_ne _ _ (by omega)))).trans (by assumption) | exact (congrFun ((va_up_ne _ _ (by omega)).trans (va_up_ne _ _ (by omega))) _).trans (by assumption) | (rw [va_up_self, va_up_ne _ _ (by omega)]; assumption)) (c_finding hk _) (Nat.le_of_ble_eq_true rfl) (by omega) ?_
    refine tk_ireturn dX10_openly_20 rfl ?_
    exact lPst_f (by rw [rOpC, mt_f h11]) hR cKp.rf
theorem k_cry (hN : cNow n T I L P J tw np nf W r cn cl pn pl pg mn mW mr mc ml) (LL : Nat → Nat → Int64) {m : Nat} (hm : m ≤ 12) (hm0 : J 40 20 = nI m) (a s : Int32) : tkM G mX10_cry 96 5 275 [vR 0, vI a, vI s] (n, T, I, L, P) (lPst n T I L P J m (rCrC J LL np W r cn cl a s) (mR J np W r (rKs (vwB J LL np W) W (ix a) (soT J LL np W cn cl (ix s))) (-1) 0)) := by
  have hN' := hN
  obtain ⟨hR, hk, ⟨hTH, hPH, hMH, hGW, hob⟩, ftw, pic, sta, oa, se, pa, ma, ht, hpc, hst, hoa, hse, hpa, hma⟩ := hN
  have hn := hR.1
  have hsc := hR.2.1
  have hk' := hk
  obtain ⟨k0, k1, k2, k3, k4, k5, k6⟩ := hk'
  have ht' := ht
  obtain ⟨u0, u1, u2, u3, u4, u5, u6⟩ := ht'
  have hpc' := hpc
  obtain ⟨fpi, tpi, wa, ca, ga, p1, p2, p3, hw, fca, hca, hcl, fga, hga, hgr⟩ := hpc'
  have hp : pObj T P pic wa ca ga := ⟨tpi, p1, p2, p3⟩
  have hTH' := hTH
  obtain ⟨h41, np1, np4, h411, nf1, nf4, h412, W1, W64, h413, rW, h414, cn5, hcW, hsW⟩ := hTH'
  have w9 : (T wa).1 = 9 := hw.2.1
  have se6 := hse.2.1
  obtain ⟨v1, v2⟩ := now_sVw hN' hpc hp
  refine tkM.of (ls := [some _, some _, some _, none, none, none, none, none]) (by decide +kernel) (by decide +kernel) (Nat.le_of_ble_eq_true rfl) rfl ?_
  refine tk_aload0 dX10_cry_0 ?_
  refine tk_iload1 dX10_cry_1 ?_
  refine tk_iload2 dX10_cry_2 ?_
  refine tk_callV2z dX10_cry_3 kX10_238 (by first | assumption | exact va_up_self _ _ _ | exact (va_up_ne _ _ (by omega)).trans (by assumption) | exact congrArg Prod.fst (va_up_self _ _ _) | exact (congrArg Prod.fst (va_up_ne _ _ (by omega))).trans (by assumption) | exact (congrFun (va_up_ne _ _ (by omega)) _).trans (by assumption) | exact (va_up_ne _ _ (by omega)).trans (va_up_self _ _ _) | exact (va_up_ne _ _ (by omega)).trans ((va_up_ne _ _ (by omega)).trans (by assumption)) | exact (congrArg Prod.fst ((va_up_ne _ _ (by omega)).trans (va_up_ne _ _ (by omega)))).trans (by assumption) | exact (congrFun ((va_up_ne _ _ (by omega)).trans (va_up_ne _ _ (by omega))) _).trans (by assumption) | (rw [va_up_self, va_up_ne _ _ (by omega)]; assumption)) (k_saying hN' a s) (Nat.le_of_ble_eq_true rfl) (by omega) ?_
  refine tk_istore3 dX10_cry_6 rfl ?_
  refine tk_iload3 dX10_cry_7 ?_
  first | refine tk_jf_eqB dX10_cry_8 (fun h8 => ?_) (fun h8 => ?_) | refine tk_if_eq dX10_cry_8 (fun h8 => ?_) (fun h8 => ?_)
  · refine tk_aload0 dX10_cry_17 ?_
    obtain ⟨a', s', ha', hs', rfl, rfl, hpe, hin, hrt⟩ := sy_0 h41 np4 h8
    have hix : ix (nI a') = a' := ix_nI (by omega)
    have hiz : ix (nI s') = s' := ix_nI (by omega)
    obtain ⟨ra, l, q1, q2, q3, q4, q5, q6, q7, q8⟩ := sen_row hse hs'
    have hso := soT_eq (L := LL) hTH hs' hrt
    have es : soT J LL np W cn cl s' = soJ J np W cn cl s' := hso
    have hcr : rCrC J LL np W r cn cl (nI a') (nI s') = if rFs (fun i => J 47 (14 * s' + i)) l &&& J 46 a' = 0 then (if tb (rKs (vwB J LL np W) W a' (soJ J np W cn cl s')) r = true then none else some (-100009)) else some (-100008) := by
      unfold rCrC
      rw [hpe, hin, Bool.and_self, if_pos rfl, if_pos hrt, hix, hiz, es, q6]
    refine tk_getP dX10_cry_18 fX10_13 rfl (by first | assumption | exact va_up_self _ _ _ | exact (va_up_ne _ _ (by omega)).trans (by assumption) | exact congrArg Prod.fst (va_up_self _ _ _) | exact (congrArg Prod.fst (va_up_ne _ _ (by omega))).trans (by assumption) | exact (congrFun (va_up_ne _ _ (by omega)) _).trans (by assumption) | exact (va_up_ne _ _ (by omega)).trans (va_up_self _ _ _) | exact (va_up_ne _ _ (by omega)).trans ((va_up_ne _ _ (by omega)).trans (by assumption)) | exact (congrArg Prod.fst ((va_up_ne _ _ (by omega)).trans (va_up_ne _ _ (by omega)))).trans (by assumption) | exact (congrFun ((va_up_ne _ _ (by omega)).trans (va_up_ne _ _ (by omega))) _).trans (by assumption) | (rw [va_up_self, va_up_ne _ _ (by omega)]; assumption)) (by first | assumption | exact va_up_self _ _ _ | exact (va_up_ne _ _ (by omega)).trans (by assumption) | exact congrArg Prod.fst (va_up_self _ _ _) | exact (congrArg Prod.fst (va_up_ne _ _ (by omega))).trans (by assumption) | exact (congrFun (va_up_ne _ _ (by omega)) _).trans (by assumption) | exact (va_up_ne _ _ (by omega)).trans (va_up_self _ _ _) | exact (va_up_ne _ _ (by omega)).trans ((va_up_ne _ _ (by omega)).trans (by assumption)) | exact (congrArg Prod.fst ((va_up_ne _ _ (by omega)).trans (va_up_ne _ _ (by omega)))).trans (by assumption) | exact (congrFun ((va_up_ne _ _ (by omega)).trans (va_up_ne _ _ (by omega))) _).trans (by assumption) | (rw [va_up_self, va_up_ne _ _ (by omega)]; assumption)) ?_
    refine tk_iload1 dX10_cry_21 ?_
    refine tk_aload0 dX10_cry_22 ?_
    refine tk_getP dX10_cry_23 fX10_13 rfl (by first | assumption | exact va_up_self _ _ _ | exact (va_up_ne _ _ (by omega)).trans (by assumption) | exact congrArg Prod.fst (va_up_self _ _ _) | exact (congrArg Prod.fst (va_up_ne _ _ (by omega))).trans (by assumption) | exact (congrFun (va_up_ne _ _ (by omega)) _).trans (by assumption) | exact (va_up_ne _ _ (by omega)).trans (va_up_self _ _ _) | exact (va_up_ne _ _ (by omega)).trans ((va_up_ne _ _ (by omega)).trans (by assumption)) | exact (congrArg Prod.fst ((va_up_ne _ _ (by omega)).trans (va_up_ne _ _ (by omega)))).trans (by assumption) | exact (congrFun ((va_up_ne _ _ (by omega)).trans (va_up_ne _ _ (by omega))) _).trans (by assumption) | (rw [va_up_self, va_up_ne _ _ (by omega)]; assumption)) (by first | assumption | exact va_up_self _ _ _ | exact (va_up_ne _ _ (by omega)).trans (by assumption) | exact congrArg Prod.fst (va_up_self _ _ _) | exact (congrArg Prod.fst (va_up_ne _ _ (by omega))).trans (by assumption) | exact (congrFun (va_up_ne _ _ (by omega)) _).trans (by assumption) | exact (va_up_ne _ _ (by omega)).trans (va_up_self _ _ _) | exact (va_up_ne _ _ (by omega)).trans ((va_up_ne _ _ (by omega)).trans (by assumption)) | exact (congrArg Prod.fst ((va_up_ne _ _ (by omega)).trans (va_up_ne _ _ (by omega)))).trans (by assumption) | exact (congrFun ((va_up_ne _ _ (by omega)).trans (va_up_ne _ _ (by omega))) _).trans (by assumption) | (rw [va_up_self, va_up_ne _ _ (by omega)]; assumption)) ?_
    refine tk_getP dX10_cry_26 fX10_131 rfl (by first | assumption | exact va_up_self _ _ _ | exact (va_up_ne _ _ (by omega)).trans (by assumption) | exact congrArg Prod.fst (va_up_self _ _ _) | exact (congrArg Prod.fst (va_up_ne _ _ (by omega))).trans (by assumption) | exact (congrFun (va_up_ne _ _ (by omega)) _).trans (by assumption) | exact (va_up_ne _ _ (by omega)).trans (va_up_self _ _ _) | exact (va_up_ne _ _ (by omega)).trans ((va_up_ne _ _ (by omega)).trans (by assumption)) | exact (congrArg Prod.fst ((va_up_ne _ _ (by omega)).trans (va_up_ne _ _ (by omega)))).trans (by assumption) | exact (congrFun ((va_up_ne _ _ (by omega)).trans (va_up_ne _ _ (by omega))) _).trans (by assumption) | (rw [va_up_self, va_up_ne _ _ (by omega)]; assumption)) (by first | assumption | exact va_up_self _ _ _ | exact (va_up_ne _ _ (by omega)).trans (by assumption) | exact congrArg Prod.fst (va_up_self _ _ _) | exact (congrArg Prod.fst (va_up_ne _ _ (by omega))).trans (by assumption) | exact (congrFun (va_up_ne _ _ (by omega)) _).trans (by assumption) | exact (va_up_ne _ _ (by omega)).trans (va_up_self _ _ _) | exact (va_up_ne _ _ (by omega)).trans ((va_up_ne _ _ (by omega)).trans (by assumption)) | exact (congrArg Prod.fst ((va_up_ne _ _ (by omega)).trans (va_up_ne _ _ (by omega)))).trans (by assumption) | exact (congrFun ((va_up_ne _ _ (by omega)).trans (va_up_ne _ _ (by omega))) _).trans (by assumption) | (rw [va_up_self, va_up_ne _ _ (by omega)]; assumption)) ?_
    refine tk_iload2 dX10_cry_29 ?_
    refine tk_aald dX10_cry_30 (by first | assumption | exact va_up_self _ _ _ | exact (va_up_ne _ _ (by omega)).trans (by assumption) | exact congrArg Prod.fst (va_up_self _ _ _) | exact (congrArg Prod.fst (va_up_ne _ _ (by omega))).trans (by assumption) | exact (congrFun (va_up_ne _ _ (by omega)) _).trans (by assumption) | exact (va_up_ne _ _ (by omega)).trans (va_up_self _ _ _) | exact (va_up_ne _ _ (by omega)).trans ((va_up_ne _ _ (by omega)).trans (by assumption)) | exact (congrArg Prod.fst ((va_up_ne _ _ (by omega)).trans (va_up_ne _ _ (by omega)))).trans (by assumption) | exact (congrFun ((va_up_ne _ _ (by omega)).trans (va_up_ne _ _ (by omega))) _).trans (by assumption) | (rw [va_up_self, va_up_ne _ _ (by omega)]; assumption)) (by omega) (by omega) (by omega) (by first | assumption | exact va_up_self _ _ _ | exact (va_up_ne _ _ (by omega)).trans (by assumption) | exact congrArg Prod.fst (va_up_self _ _ _) | exact (congrArg Prod.fst (va_up_ne _ _ (by omega))).trans (by assumption) | exact (congrFun (va_up_ne _ _ (by omega)) _).trans (by assumption) | exact (va_up_ne _ _ (by omega)).trans (va_up_self _ _ _) | exact (va_up_ne _ _ (by omega)).trans ((va_up_ne _ _ (by omega)).trans (by assumption)) | exact (congrArg Prod.fst ((va_up_ne _ _ (by omega)).trans (va_up_ne _ _ (by omega)))).trans (by assumption) | exact (congrFun ((va_up_ne _ _ (by omega)).trans (va_up_ne _ _ (by omega))) _).trans (by assumption) | (rw [va_up_self, va_up_ne _ _ (by omega)]; assumption)) ?_
    refine tk_callV2z dX10_cry_31 kX10_206 (by first | assumption | exact va_up_self _ _ _ | exact (va_up_ne _ _ (by omega)).trans (by assumption) | exact congrArg Prod.fst (va_up_self _ _ _) | exact (congrArg Prod.fst (va_up_ne _ _ (by omega))).trans (by assumption) | exact (congrFun (va_up_ne _ _ (by omega)) _).trans (by assumption) | exact (va_up_ne _ _ (by omega)).trans (va_up_self _ _ _) | exact (va_up_ne _ _ (by omega)).trans ((va_up_ne _ _ (by omega)).trans (by assumption)) | exact (congrArg Prod.fst ((va_up_ne _ _ (by omega)).trans (va_up_ne _ _ (by omega)))).trans (by assumption) | exact (congrFun ((va_up_ne _ _ (by omega)).trans (va_up_ne _ _ (by omega))) _).trans (by assumption) | (rw [va_up_self, va_up_ne _ _ (by omega)]; assumption)) (c_hasSwornOn ht hoa.2.1 (show a' < 4 by omega) q8) (Nat.le_of_ble_eq_true rfl) (by omega) ?_
    rw [hoa.2.2 a' (by omega)]
    first | refine tk_jf_eqB dX10_cry_34 (fun h34 => ?_) (fun h34 => ?_) | refine tk_if_eq dX10_cry_34 (fun h34 => ?_) (fun h34 => ?_)
    · refine tk_aload0 dX10_cry_44 ?_
      refine tk_aload0 dX10_cry_45 ?_
      refine tk_getP dX10_cry_46 fX10_13 rfl (by first | assumption | exact va_up_self _ _ _ | exact (va_up_ne _ _ (by omega)).trans (by assumption) | exact congrArg Prod.fst (va_up_self _ _ _) | exact (congrArg Prod.fst (va_up_ne _ _ (by omega))).trans (by assumption) | exact (congrFun (va_up_ne _ _ (by omega)) _).trans (by assumption) | exact (va_up_ne _ _ (by omega)).trans (va_up_self _ _ _) | exact (va_up_ne _ _ (by omega)).trans ((va_up_ne _ _ (by omega)).trans (by assumption)) | exact (congrArg Prod.fst ((va_up_ne _ _ (by omega)).trans (va_up_ne _ _ (by omega)))).trans (by assumption) | exact (congrFun ((va_up_ne _ _ (by omega)).trans (va_up_ne _ _ (by omega))) _).trans (by assumption) | (rw [va_up_self, va_up_ne _ _ (by omega)]; assumption)) (by first | assumption | exact va_up_self _ _ _ | exact (va_up_ne _ _ (by omega)).trans (by assumption) | exact congrArg Prod.fst (va_up_self _ _ _) | exact (congrArg Prod.fst (va_up_ne _ _ (by omega))).trans (by assumption) | exact (congrFun (va_up_ne _ _ (by omega)) _).trans (by assumption) | exact (va_up_ne _ _ (by omega)).trans (va_up_self _ _ _) | exact (va_up_ne _ _ (by omega)).trans ((va_up_ne _ _ (by omega)).trans (by assumption)) | exact (congrArg Prod.fst ((va_up_ne _ _ (by omega)).trans (va_up_ne _ _ (by omega)))).trans (by assumption) | exact (congrFun ((va_up_ne _ _ (by omega)).trans (va_up_ne _ _ (by omega))) _).trans (by assumption) | (rw [va_up_self, va_up_ne _ _ (by omega)]; assumption)) ?_
      refine tk_getP dX10_cry_49 fX10_131 rfl (by first | assumption | exact va_up_self _ _ _ | exact (va_up_ne _ _ (by omega)).trans (by assumption) | exact congrArg Prod.fst (va_up_self _ _ _) | exact (congrArg Prod.fst (va_up_ne _ _ (by omega))).trans (by assumption) | exact (congrFun (va_up_ne _ _ (by omega)) _).trans (by assumption) | exact (va_up_ne _ _ (by omega)).trans (va_up_self _ _ _) | exact (va_up_ne _ _ (by omega)).trans ((va_up_ne _ _ (by omega)).trans (by assumption)) | exact (congrArg Prod.fst ((va_up_ne _ _ (by omega)).trans (va_up_ne _ _ (by omega)))).trans (by assumption) | exact (congrFun ((va_up_ne _ _ (by omega)).trans (va_up_ne _ _ (by omega))) _).trans (by assumption) | (rw [va_up_self, va_up_ne _ _ (by omega)]; assumption)) (by first | assumption | exact va_up_self _ _ _ | exact (va_up_ne _ _ (by omega)).trans (by assumption) | exact congrArg Prod.fst (va_up_self _ _ _) | exact (congrArg Prod.fst (va_up_ne _ _ (by omega))).trans (by assumption) | exact (congrFun (va_up_ne _ _ (by omega)) _).trans (by assumption) | exact (va_up_ne _ _ (by omega)).trans (va_up_self _ _ _) | exact (va_up_ne _ _ (by omega)).trans ((va_up_ne _ _ (by omega)).trans (by assumption)) | exact (congrArg Prod.fst ((va_up_ne _ _ (by omega)).trans (va_up_ne _ _ (by omega)))).trans (by assumption) | exact (congrFun ((va_up_ne _ _ (by omega)).trans (va_up_ne _ _ (by omega))) _).trans (by assumption) | (rw [va_up_self, va_up_ne _ _ (by omega)]; assumption)) ?_
      refine tk_iload2 dX10_cry_52 ?_
      refine tk_aald dX10_cry_53 (by first | assumption | exact va_up_self _ _ _ | exact (va_up_ne _ _ (by omega)).trans (by assumption) | exact congrArg Prod.fst (va_up_self _ _ _) | exact (congrArg Prod.fst (va_up_ne _ _ (by omega))).trans (by assumption) | exact (congrFun (va_up_ne _ _ (by omega)) _).trans (by assumption) | exact (va_up_ne _ _ (by omega)).trans (va_up_self _ _ _) | exact (va_up_ne _ _ (by omega)).trans ((va_up_ne _ _ (by omega)).trans (by assumption)) | exact (congrArg Prod.fst ((va_up_ne _ _ (by omega)).trans (va_up_ne _ _ (by omega)))).trans (by assumption) | exact (congrFun ((va_up_ne _ _ (by omega)).trans (va_up_ne _ _ (by omega))) _).trans (by assumption) | (rw [va_up_self, va_up_ne _ _ (by omega)]; assumption)) (by omega) (by omega) (by omega) (by first | assumption | exact va_up_self _ _ _ | exact (va_up_ne _ _ (by omega)).trans (by assumption) | exact congrArg Prod.fst (va_up_self _ _ _) | exact (congrArg Prod.fst (va_up_ne _ _ (by omega))).trans (by assumption) | exact (congrFun (va_up_ne _ _ (by omega)) _).trans (by assumption) | exact (va_up_ne _ _ (by omega)).trans (va_up_self _ _ _) | exact (va_up_ne _ _ (by omega)).trans ((va_up_ne _ _ (by omega)).trans (by assumption)) | exact (congrArg Prod.fst ((va_up_ne _ _ (by omega)).trans (va_up_ne _ _ (by omega)))).trans (by assumption) | exact (congrFun ((va_up_ne _ _ (by omega)).trans (va_up_ne _ _ (by omega))) _).trans (by assumption) | (rw [va_up_self, va_up_ne _ _ (by omega)]; assumption)) ?_
      refine tk_callV1q dX10_cry_54 kX10_211 (by first | assumption | exact va_up_self _ _ _ | exact (va_up_ne _ _ (by omega)).trans (by assumption) | exact congrArg Prod.fst (va_up_self _ _ _) | exact (congrArg Prod.fst (va_up_ne _ _ (by omega))).trans (by assumption) | exact (congrFun (va_up_ne _ _ (by omega)) _).trans (by assumption) | exact (va_up_ne _ _ (by omega)).trans (va_up_self _ _ _) | exact (va_up_ne _ _ (by omega)).trans ((va_up_ne _ _ (by omega)).trans (by assumption)) | exact (congrArg Prod.fst ((va_up_ne _ _ (by omega)).trans (va_up_ne _ _ (by omega)))).trans (by assumption) | exact (congrFun ((va_up_ne _ _ (by omega)).trans (va_up_ne _ _ (by omega))) _).trans (by assumption) | (rw [va_up_self, va_up_ne _ _ (by omega)]; assumption)) (k_soAt hN' ht hpc hp hs' hrt q4 q5 q8) (Nat.le_of_ble_eq_true rfl) (by omega) ?_
      rintro rr hh1 hq
      obtain ⟨L', rfl, rfl, m1⟩ := soq_sa hN' hs' hrt q4 q5 hq
      dsimp only [Option.toList, List.singleton_append]
      have hsw : rFs (fun i => J 47 (14 * s' + i)) l &&& J 46 a' = 0 := Classical.not_not.mp (of_decide_eq_false h34)
      have st := look_st (n := n) (wa := wa) (ca := ca) (ga := ga) hsc m1
      have v3 := v2.L m1
      have hN2 := hN'.st st
      have hR2 := hN2.1
      have hk2 := hN2.2.1
      have k02 := hk2.1
      have k62 := hk2.2.2.2.2.1
      have ht2 := ht.ex ftw st.ex
      have hp2 : pObj T (lkPp P 25 wa ca ga) pic wa ca ga := by have := (st.ex.2 pic fpi).2.2.2; unfold pObj; rw [this]; exact hp
      have hw2 := v3.2.2.2.1
      have s25 := v3.2.1.1
      have ta0 : lkIi I 25 (25 + 1) = fun _ => nI 0 := look_ta hsc
      refine tk_lstore4 dX10_cry_57 rfl ?_
      refine tk_aload0 dX10_cry_59 ?_
      refine tk_getP dX10_cry_60 fX10_43 rfl (by first | assumption | exact va_up_self _ _ _ | exact (va_up_ne _ _ (by omega)).trans (by assumption) | exact congrArg Prod.fst (va_up_self _ _ _) | exact (congrArg Prod.fst (va_up_ne _ _ (by omega))).trans (by assumption) | exact (congrFun (va_up_ne _ _ (by omega)) _).trans (by assumption) | exact (va_up_ne _ _ (by omega)).trans (va_up_self _ _ _) | exact (va_up_ne _ _ (by omega)).trans ((va_up_ne _ _ (by omega)).trans (by assumption)) | exact (congrArg Prod.fst ((va_up_ne _ _ (by omega)).trans (va_up_ne _ _ (by omega)))).trans (by assumption) | exact (congrFun ((va_up_ne _ _ (by omega)).trans (va_up_ne _ _ (by omega))) _).trans (by assumption) | (rw [va_up_self, va_up_ne _ _ (by omega)]; assumption)) (by first | assumption | exact va_up_self _ _ _ | exact (va_up_ne _ _ (by omega)).trans (by assumption) | exact congrArg Prod.fst (va_up_self _ _ _) | exact (congrArg Prod.fst (va_up_ne _ _ (by omega))).trans (by assumption) | exact (congrFun (va_up_ne _ _ (by omega)) _).trans (by assumption) | exact (va_up_ne _ _ (by omega)).trans (va_up_self _ _ _) | exact (va_up_ne _ _ (by omega)).trans ((va_up_ne _ _ (by omega)).trans (by assumption)) | exact (congrArg Prod.fst ((va_up_ne _ _ (by omega)).trans (va_up_ne _ _ (by omega)))).trans (by assumption) | exact (congrFun ((va_up_ne _ _ (by omega)).trans (va_up_ne _ _ (by omega))) _).trans (by assumption) | (rw [va_up_self, va_up_ne _ _ (by omega)]; assumption)) ?_
      refine tk_iload1 dX10_cry_63 ?_
      refine tk_lload4 dX10_cry_64 ?_
      refine tk_aload0 dX10_cry_66 ?_
      refine tk_callV0z dX10_cry_67 kX10_84 (by first | assumption | exact va_up_self _ _ _ | exact (va_up_ne _ _ (by omega)).trans (by assumption) | exact congrArg Prod.fst (va_up_self _ _ _) | exact (congrArg Prod.fst (va_up_ne _ _ (by omega))).trans (by assumption) | exact (congrFun (va_up_ne _ _ (by omega)) _).trans (by assumption) | exact (va_up_ne _ _ (by omega)).trans (va_up_self _ _ _) | exact (va_up_ne _ _ (by omega)).trans ((va_up_ne _ _ (by omega)).trans (by assumption)) | exact (congrArg Prod.fst ((va_up_ne _ _ (by omega)).trans (va_up_ne _ _ (by omega)))).trans (by assumption) | exact (congrFun ((va_up_ne _ _ (by omega)).trans (va_up_ne _ _ (by omega))) _).trans (by assumption) | (rw [va_up_self, va_up_ne _ _ (by omega)]; assumption)) (c_worlds hk2 ht2 hp2) (Nat.le_of_ble_eq_true rfl) (by omega) ?_
      refine tk_callV0z dX10_cry_70 kX10_189 (by first | assumption | exact va_up_self _ _ _ | exact (va_up_ne _ _ (by omega)).trans (by assumption) | exact congrArg Prod.fst (va_up_self _ _ _) | exact (congrArg Prod.fst (va_up_ne _ _ (by omega))).trans (by assumption) | exact (congrFun (va_up_ne _ _ (by omega)) _).trans (by assumption) | exact (va_up_ne _ _ (by omega)).trans (va_up_self _ _ _) | exact (va_up_ne _ _ (by omega)).trans ((va_up_ne _ _ (by omega)).trans (by assumption)) | exact (congrArg Prod.fst ((va_up_ne _ _ (by omega)).trans (va_up_ne _ _ (by omega)))).trans (by assumption) | exact (congrFun ((va_up_ne _ _ (by omega)).trans (va_up_ne _ _ (by omega))) _).trans (by assumption) | (rw [va_up_self, va_up_ne _ _ (by omega)]; assumption)) (c_every hw2 W1 W64) (Nat.le_of_ble_eq_true rfl) (by omega) ?_
      refine tk_callV3q dX10_cry_73 kX10_241 (by first | assumption | exact va_up_self _ _ _ | exact (va_up_ne _ _ (by omega)).trans (by assumption) | exact congrArg Prod.fst (va_up_self _ _ _) | exact (congrArg Prod.fst (va_up_ne _ _ (by omega))).trans (by assumption) | exact (congrFun (va_up_ne _ _ (by omega)) _).trans (by assumption) | exact (va_up_ne _ _ (by omega)).trans (va_up_self _ _ _) | exact (va_up_ne _ _ (by omega)).trans ((va_up_ne _ _ (by omega)).trans (by assumption)) | exact (congrArg Prod.fst ((va_up_ne _ _ (by omega)).trans (va_up_ne _ _ (by omega)))).trans (by assumption) | exact (congrFun ((va_up_ne _ _ (by omega)).trans (va_up_ne _ _ (by omega))) _).trans (by assumption) | (rw [va_up_self, va_up_ne _ _ (by omega)]; assumption)) (c_knows (z := 25) v3.2.1 v3.2.2.1 hw2 W64 np4 nf4 v3.2.2.2.2.2.2.2.2.1 ha' _ (fun v hv => (tb_evrT W64).mp hv)) (Nat.le_of_ble_eq_true rfl) (by omega) ?_
      rintro rr hh1 ⟨x, rfl, rfl, hx⟩
      dsimp only [Option.toList, List.singleton_append]
      rw [ta0, cTi_z nf4] at hx
      obtain rfl := kS_eq (LL := LL) np4 W64 ha' hx
      refine tk_lstore6 dX10_cry_76 rfl ?_
      refine tk_aload0 dX10_cry_78 ?_
      refine tk_callV0z dX10_cry_79 kX10_84 (by first | assumption | exact va_up_self _ _ _ | exact (va_up_ne _ _ (by omega)).trans (by assumption) | exact congrArg Prod.fst (va_up_self _ _ _) | exact (congrArg Prod.fst (va_up_ne _ _ (by omega))).trans (by assumption) | exact (congrFun (va_up_ne _ _ (by omega)) _).trans (by assumption) | exact (va_up_ne _ _ (by omega)).trans (va_up_self _ _ _) | exact (va_up_ne _ _ (by omega)).trans ((va_up_ne _ _ (by omega)).trans (by assumption)) | exact (congrArg Prod.fst ((va_up_ne _ _ (by omega)).trans (va_up_ne _ _ (by omega)))).trans (by assumption) | exact (congrFun ((va_up_ne _ _ (by omega)).trans (va_up_ne _ _ (by omega))) _).trans (by assumption) | (rw [va_up_self, va_up_ne _ _ (by omega)]; assumption)) (c_worlds hk2 ht2 hp2) (Nat.le_of_ble_eq_true rfl) (by omega) ?_
      refine tk_lload6 dX10_cry_82 ?_
      refine tk_callV1z dX10_cry_84 kX10_219 (by first | assumption | exact va_up_self _ _ _ | exact (va_up_ne _ _ (by omega)).trans (by assumption) | exact congrArg Prod.fst (va_up_self _ _ _) | exact (congrArg Prod.fst (va_up_ne _ _ (by omega))).trans (by assumption) | exact (congrFun (va_up_ne _ _ (by omega)) _).trans (by assumption) | exact (va_up_ne _ _ (by omega)).trans (va_up_self _ _ _) | exact (va_up_ne _ _ (by omega)).trans ((va_up_ne _ _ (by omega)).trans (by assumption)) | exact (congrArg Prod.fst ((va_up_ne _ _ (by omega)).trans (va_up_ne _ _ (by omega)))).trans (by assumption) | exact (congrFun ((va_up_ne _ _ (by omega)).trans (va_up_ne _ _ (by omega))) _).trans (by assumption) | (rw [va_up_self, va_up_ne _ _ (by omega)]; assumption)) (c_hasReal hw2 (by omega) _) (Nat.le_of_ble_eq_true rfl) (by omega) ?_
      first | refine tk_jf_neB dX10_cry_87 (fun h87 => ?_) (fun h87 => ?_) | refine tk_if_ne dX10_cry_87 (fun h87 => ?_) (fun h87 => ?_)
      · refine tk_aload0 dX10_cry_97 ?_
        refine tk_lload6 dX10_cry_98 ?_
        refine tk_iload1 dX10_cry_100 ?_
        refine tk_lload6 dX10_cry_101 ?_
        refine tk_callV3s dX10_cry_103 kX10_197 (by first | assumption | exact va_up_self _ _ _ | exact (va_up_ne _ _ (by omega)).trans (by assumption) | exact congrArg Prod.fst (va_up_self _ _ _) | exact (congrArg Prod.fst (va_up_ne _ _ (by omega))).trans (by assumption) | exact (congrFun (va_up_ne _ _ (by omega)) _).trans (by assumption) | exact (va_up_ne _ _ (by omega)).trans (va_up_self _ _ _) | exact (va_up_ne _ _ (by omega)).trans ((va_up_ne _ _ (by omega)).trans (by assumption)) | exact (congrArg Prod.fst ((va_up_ne _ _ (by omega)).trans (va_up_ne _ _ (by omega)))).trans (by assumption) | exact (congrFun ((va_up_ne _ _ (by omega)).trans (va_up_ne _ _ (by omega))) _).trans (by assumption) | (rw [va_up_self, va_up_ne _ _ (by omega)]; assumption)) (k_cutTo (Sr := 0) (a := -1) hN2 hm hm0 ha' h87 (fun p hp u hu w hw hMu hMw => ⟨fun _ _ => ⟨fun _ => hMw, fun _ => hMu⟩, fun _ _ => by rw [tb_0, tb_0]⟩)) (Nat.le_of_ble_eq_true rfl) (by omega) (by omega) (by omega) ?_
        rintro rr hh1 hq
        have hq' := hq
        obtain ⟨n3, T3, I3, L3, P3, x3, rfl, rfl, -⟩ := hq'
        dsimp only [Option.toList, List.singleton_append]
        refine tk_ireturn dX10_cry_106 rfl ?_
        rw [hix, hiz, es]
        exact lPst_g (by rw [hcr, if_pos hsw, h87]; rfl) (st.kp hn) hq
      · refine tk_aload0 dX10_cry_90 ?_
        refine tk_ldc dX10_cry_91 klX10_223 ?_
        refine tk_callV1z dX10_cry_93 kX10_66 (by first | assumption | exact va_up_self _ _ _ | exact (va_up_ne _ _ (by omega)).trans (by assumption) | exact congrArg Prod.fst (va_up_self _ _ _) | exact (congrArg Prod.fst (va_up_ne _ _ (by omega))).trans (by assumption) | exact (congrFun (va_up_ne _ _ (by omega)) _).trans (by assumption) | exact (va_up_ne _ _ (by omega)).trans (va_up_self _ _ _) | exact (va_up_ne _ _ (by omega)).trans ((va_up_ne _ _ (by omega)).trans (by assumption)) | exact (congrArg Prod.fst ((va_up_ne _ _ (by omega)).trans (va_up_ne _ _ (by omega)))).trans (by assumption) | exact (congrFun ((va_up_ne _ _ (by omega)).trans (va_up_ne _ _ (by omega))) _).trans (by assumption) | (rw [va_up_self, va_up_ne _ _ (by omega)]; assumption)) (c_finding hk2 _) (Nat.le_of_ble_eq_true rfl) (by omega) ?_
        refine tk_ireturn dX10_cry_96 rfl ?_
        exact lPst_f (by rw [hcr, if_pos hsw, h87]; rfl) hR2 (st.kp hn)
    · refine tk_aload0 dX10_cry_37 ?_
      refine tk_ldc dX10_cry_38 klX10_210 ?_
      refine tk_callV1z dX10_cry_40 kX10_66 (by first | assumption | exact va_up_self _ _ _ | exact (va_up_ne _ _ (by omega)).trans (by assumption) | exact congrArg Prod.fst (va_up_self _ _ _) | exact (congrArg Prod.fst (va_up_ne _ _ (by omega))).trans (by assumption) | exact (congrFun (va_up_ne _ _ (by omega)) _).trans (by assumption) | exact (va_up_ne _ _ (by omega)).trans (va_up_self _ _ _) | exact (va_up_ne _ _ (by omega)).trans ((va_up_ne _ _ (by omega)).trans (by assumption)) | exact (congrArg Prod.fst ((va_up_ne _ _ (by omega)).trans (va_up_ne _ _ (by omega)))).trans (by assumption) | exact (congrFun ((va_up_ne _ _ (by omega)).trans (va_up_ne _ _ (by omega))) _).trans (by assumption) | (rw [va_up_self, va_up_ne _ _ (by omega)]; assumption)) (c_finding hk _) (Nat.le_of_ble_eq_true rfl) (by omega) ?_
      refine tk_ireturn dX10_cry_43 rfl ?_
      exact lPst_f (by rw [hcr, if_neg (of_decide_eq_true h34)]) hR cKp.rf
  · refine tk_aload0 dX10_cry_11 ?_
    refine tk_iload3 dX10_cry_12 ?_
    refine tk_callV1z dX10_cry_13 kX10_66 (by first | assumption | exact va_up_self _ _ _ | exact (va_up_ne _ _ (by omega)).trans (by assumption) | exact congrArg Prod.fst (va_up_self _ _ _) | exact (congrArg Prod.fst (va_up_ne _ _ (by omega))).trans (by assumption) | exact (congrFun (va_up_ne _ _ (by omega)) _).trans (by assumption) | exact (va_up_ne _ _ (by omega)).trans (va_up_self _ _ _) | exact (va_up_ne _ _ (by omega)).trans ((va_up_ne _ _ (by omega)).trans (by assumption)) | exact (congrArg Prod.fst ((va_up_ne _ _ (by omega)).trans (va_up_ne _ _ (by omega)))).trans (by assumption) | exact (congrFun ((va_up_ne _ _ (by omega)).trans (va_up_ne _ _ (by omega))) _).trans (by assumption) | (rw [va_up_self, va_up_ne _ _ (by omega)]; assumption)) (c_finding hk _) (Nat.le_of_ble_eq_true rfl) (by omega) ?_
    refine tk_ireturn dX10_cry_16 rfl ?_
    exact lPst_f (sy_c h8) hR cKp.rf
end CRY
