/-! ===== the reference: openly, cry ===== -/
theorem rRf_nz {I : Nat → Nat → Int32} {a b s : Int32} {near : Bool} {f : Int32} (h : rRf I a b s near = some f) : ¬ f = 0 := by
  unfold rRf at h
  intro e
  subst e
  repeat' split at h
  all_goals first | cases h | (injection h with h; exact absurd h (by decide))
theorem rRf_none {I : Nat → Nat → Int32} {a b s : Int32} {near : Bool} {np : Nat} (t1 : I 41 0 = nI np) (hnp : np ≤ 4) (h : rRf I a b s near = none) : (∃ a', a' < np ∧ a = nI a') ∧ (∃ b', b' < np ∧ b = nI b') ∧ (∃ s', s' < 6 ∧ s = nI s') ∧ rRt I s = true ∧ ¬ a = b := by
  unfold rRf at h
  split at h
  · rename_i hc
    rw [Bool.and_eq_true, Bool.and_eq_true] at hc
    split at h
    · cases h
    · rename_i hab
      split at h
      · rename_i hrt
        obtain ⟨s', hs, es⟩ := rIn_of hc.2.2 (by omega)
        exact ⟨rPe_of hc.1 t1 (by omega), rPe_of hc.2.1 t1 (by omega), ⟨s', by omega, es⟩, hrt, hab⟩
      · cases h
  · cases h
section REFCG
variable {G : tkG} {n : Nat} {T : Nat → Nat × Nat} {I : Nat → Nat → Int32} {L : Nat → Nat → Int64} {P : Nat → Nat → Option Nat}
def rOpC (I : Nat → Nat → Int32) (L : Nat → Nat → Int64) (np W r cn : Nat) (cl : Nat → Nat) (a b s : Int32) (near : Bool) : Option Int32 := match rRf I a b s near with
  | some f => some f
  | none => if rKw (vwB I L np W) W (ix a) r (soT I L np W cn cl (ix s)) then none else some (-100009)
theorem r_openly (hR : tkRef T P) {np nf W r cn m : Nat} {cl : Nat → Nat} (hT : TH I np nf W r cn cl) (hm : m ≤ 12) (hk : I 40 20 = nI m) (a b s : Int32) : tkM G mX11_openly 36 0 0 [vR 40, vI a, vI b, vI s] (n, T, I, L, P) (rLq n T P L I (rOpC I L np W r cn cl a b s false) (LQ n T P L I m np W r (I 42) (pB (I 43) W) (rKa (vwB I L np W) W (ix a) (soT I L np W cn cl (ix s))) b (soT I L np W cn cl (ix s)))) := by
  have hT' := hT
  obtain ⟨t1, t2, t3, t4, t5, t6, t7, t8, t9, t10, t11, t12, t13, t14, t15⟩ := hT'
  refine tkM.of (ls := [some _, some _, some _, some _, none, none]) (by decide +kernel) (by decide +kernel) (Nat.le_of_ble_eq_true rfl) rfl ?_
  refine tk_aload0 dX11_openly_0 ?_
  refine tk_iload1 dX11_openly_1 ?_
  refine tk_iload2 dX11_openly_2 ?_
  refine tk_iload3 dX11_openly_3 ?_
  refine tk_iconst dX11_openly_4 kc_iconst_0 ?_
  refine tk_callV4q dX11_openly_5 kX11_308 hR.o (r_refuses hR hT a b s false) (Nat.le_of_ble_eq_true rfl) (by omega) ?_
  intro rr h1 hq
  cases hc : rRf I a b s false with
  | some f =>
    rw [hc] at hq
    obtain ⟨rfl, rfl⟩ := hq
    dsimp only [Option.toList, List.cons_append, List.nil_append]
    refine tk_istore4 dX11_openly_8 rfl ?_
    refine tk_iload4 dX11_openly_10 ?_
    first | refine tk_jf_eqB dX11_openly_12 (fun h12 => ?_) (fun h12 => ?_) | refine tk_if_eq dX11_openly_12 (fun h12 => ?_) (fun h12 => ?_)
    · exact absurd h12 (rRf_nz hc)
    · refine tk_aload0 dX11_openly_15 ?_
      refine tk_iload4 dX11_openly_16 ?_
      refine tk_callV1z dX11_openly_18 kX11_179 hR.o (r_finding hR _) (Nat.le_of_ble_eq_true rfl) (by omega) ?_
      refine tk_ireturn dX11_openly_21 rfl ?_
      exact rLq_f (by unfold rOpC; rw [hc]) rSm.rf rLm.rf
  | none =>
    rw [hc] at hq
    obtain ⟨rfl, rfl⟩ := hq
    dsimp only [Option.toList, List.cons_append, List.nil_append]
    cases hkw : rKw (vwB I L np W) W (ix a) r (soT I L np W cn cl (ix s)) with
    | false =>
      rw [if_neg Bool.false_ne_true]
      refine tk_istore4 dX11_openly_8 rfl ?_
      refine tk_iload4 dX11_openly_10 ?_
      first | refine tk_jf_eqB dX11_openly_12 (fun h12 => ?_) (fun h12 => ?_) | refine tk_if_eq dX11_openly_12 (fun h12 => ?_) (fun h12 => ?_)
      · exact absurd h12 (by decide)
      · refine tk_aload0 dX11_openly_15 ?_
        refine tk_iload4 dX11_openly_16 ?_
        refine tk_callV1z dX11_openly_18 kX11_179 hR.o (r_finding hR _) (Nat.le_of_ble_eq_true rfl) (by omega) ?_
        refine tk_ireturn dX11_openly_21 rfl ?_
        exact rLq_f (by unfold rOpC; rw [hc]; exact if_neg (fun e => Bool.noConfusion (hkw.symm.trans e))) (rSm_VT I) (rLm.up (by omega))
    | true =>
      rw [if_pos rfl]
      obtain ⟨⟨a', ha1, rfl⟩, ⟨b', hb1, rfl⟩, ⟨s', hs1, rfl⟩, hrt, hab⟩ := rRf_none t1 t3 hc
      have hixs : ix (nI s') = s' := ix_nI (by omega)
      have hixa : ix (nI a') = a' := ix_nI (by omega)
      rw [hixa, hixs] at hkw
      have hMr : tb (rKa (vwB I L np W) W a' (soT I L np W cn cl s')) r = true := by unfold rKa; rw [tb_mk _ t9 (by omega), decide_eq_true t11, hkw]; rfl
      refine tk_istore4 dX11_openly_8 rfl ?_
      refine tk_iload4 dX11_openly_10 ?_
      first | refine tk_jf_eqB dX11_openly_12 (fun h12 => ?_) (fun h12 => ?_) | refine tk_if_eq dX11_openly_12 (fun h12 => ?_) (fun h12 => ?_)
      · refine tk_aload0 dX11_openly_22 ?_
        refine tk_iload1 dX11_openly_23 ?_
        refine tk_iload2 dX11_openly_24 ?_
        refine tk_aload0 dX11_openly_25 ?_
        refine tk_iload3 dX11_openly_26 ?_
        refine tk_callV1z dX11_openly_27 kX11_299 hR.o (r_soOfT hR hT hs1 hrt) (Nat.le_of_ble_eq_true rfl) (by omega) ?_
        refine tk_callV3y dX11_openly_30 kX11_312 hR.o (r_tellOpenlyT hR hT (by omega) (nI b') (soT I L np W cn cl s')) (Nat.le_of_ble_eq_true rfl) (by omega) ?_
        refine tk_aload0 dX11_openly_33 ?_
        refine tk_callV0q dX11_openly_34 kX11_282 hR.o (r_cutT hR hT hMr) (Nat.le_of_ble_eq_true rfl) (by omega) ?_
        intro rr h1 q
        obtain ⟨J, L', W', r', ff, cc, rfl, rfl, j1, j2, j3, j4, j5, j6, j7⟩ := CTQ_of hT hk q
        dsimp only [Option.toList, List.cons_append, List.nil_append]
        refine tk_istore5 dX11_openly_37 rfl ?_
        refine tk_aload0 dX11_openly_39 ?_
        refine tk_callV0z dX11_openly_40 kX11_286 hR.o (r_lay hR hm j1) (Nat.le_of_ble_eq_true rfl) (by omega) ?_
        refine tk_ireturn dX11_openly_43 rfl ?_
        refine rLq_g (by unfold rOpC; rw [hc]; exact if_pos (by rw [hixa, hixs]; exact hkw)) ?_
        rw [hixa, hixs]
        exact LQ_of j2 j3 j4 j5 j6 j7
      · exact absurd rfl h12
def rCrC (I : Nat → Nat → Int32) (L : Nat → Nat → Int64) (np W r cn : Nat) (cl : Nat → Nat) (a s : Int32) : Option Int32 := if (rPer (I 41 0) a && rIn s (nI 0) (nI 5)) = true then (if rRt I s = true then (if rFs (fun i => I 47 (14 * ix s + i)) (ix (I 48 (ix s))) &&& I 46 (ix a) = 0 then (if tb (rKs (vwB I L np W) W (ix a) (soT I L np W cn cl (ix s))) r = true then none else some (-100009)) else some (-100008)) else some (-100004)) else some (-100001)
theorem r_cry (hR : tkRef T P) {np nf W r cn m : Nat} {cl : Nat → Nat} (hT : TH I np nf W r cn cl) (hm : m ≤ 12) (hk : I 40 20 = nI m) (a s : Int32) : tkM G mX11_cry 36 0 0 [vR 40, vI a, vI s] (n, T, I, L, P) (rLq n T P L I (rCrC I L np W r cn cl a s) (LQ n T P L I m np W r (I 42) (pB (I 43) W) (rKs (vwB I L np W) W (ix a) (soT I L np W cn cl (ix s))) (-1) 0)) := by
  have hT' := hT
  obtain ⟨t1, t2, t3, t4, t5, t6, t7, t8, t9, t10, t11, t12, t13, t14, t15⟩ := hT'
  have hV27 : rVT I 40 27 = nI r := by rw [rVT_40]; simp only [va_up_self, bx_uu, tk_une, tk_usrt, not_false_eq_true, Nat.reduceEqDiff, Nat.reduceLT, Nat.reduceAdd, Nat.reduceMul, Nat.reduceLeDiff, reduceCtorEq]; exact t10
  unfold rCrC
  refine tkM.of (ls := [some _, some _, some _, none, none, none]) (by decide +kernel) (by decide +kernel) (Nat.le_of_ble_eq_true rfl) rfl ?_
  refine tk_aload0 dX11_cry_0 ?_
  refine tk_iload1 dX11_cry_1 ?_
  refine tk_callV1z dX11_cry_2 kX11_187 hR.o (r_isPerson hR _) (Nat.le_of_ble_eq_true rfl) (by omega) ?_
  first | refine tk_jf_eqB dX11_cry_5 (fun h5 => ?_) (fun h5 => ?_) | refine tk_if_eq dX11_cry_5 (fun h5 => ?_) (fun h5 => ?_)
  · refine tk_aload0 dX11_cry_15 ?_
    refine tk_ldc dX11_cry_16 klX11_183 ?_
    refine tk_callV1z dX11_cry_18 kX11_179 hR.o (r_finding hR _) (Nat.le_of_ble_eq_true rfl) (by omega) ?_
    refine tk_ireturn dX11_cry_21 rfl ?_
    refine rLq_f (if_neg (fun e => ?_)) rSm.rf rLm.rf
    rw [Bool.and_eq_true] at e
    first | exact absurd (h5.symm.trans e.1) Bool.false_ne_true | exact absurd (h12.symm.trans e.2) Bool.false_ne_true
  · refine tk_iload2 dX11_cry_8 ?_
    refine tk_callS1z dX11_cry_9 kX11_194 (r_isSentence _) (Nat.le_of_ble_eq_true rfl) (by omega) ?_
    first | refine tk_jf_neB dX11_cry_12 (fun h12 => ?_) (fun h12 => ?_) | refine tk_if_ne dX11_cry_12 (fun h12 => ?_) (fun h12 => ?_)
    · refine tk_aload0 dX11_cry_22 ?_
      rw [if_pos (show (rPer (I 41 0) a && rIn s (nI 0) (nI 5)) = true by rw [h5, h12]; rfl)]
      obtain ⟨a', ha1, rfl⟩ := rPe_of h5 t1 (by omega)
      obtain ⟨s', hs1, rfl⟩ := rIn_of h12 (by omega)
      have hixs : ix (nI s') = s' := ix_nI (by omega)
      have hixa : ix (nI a') = a' := ix_nI (by omega)
      obtain ⟨l, hl1, hl2⟩ := hT.ls s' (by omega)
      have hil : ix (nI l) = l := ix_nI (by omega)
      have es : rRt I (nI s') = decide (rW (fun i => I 47 (14 * s' + i)) (I 41 0) (I 41 1) l 0 (nI 0) < 0) := by unfold rRt; rw [hixs, hl2, ix_nI (by omega)]
      rw [hixs, hixa, hl2, hil]
      refine tk_iload2 dX11_cry_23 ?_
      refine tk_callV1z dX11_cry_24 kX11_291 hR.o (r_isRight hR (by omega) hl2 hl1) (Nat.le_of_ble_eq_true rfl) (by omega) ?_
      first | refine tk_jf_neB dX11_cry_27 (fun h27 => ?_) (fun h27 => ?_) | refine tk_if_ne dX11_cry_27 (fun h27 => ?_) (fun h27 => ?_)
      · refine tk_aload0 dX11_cry_37 ?_
        have hrt := es.trans h27
        rw [if_pos hrt]
        refine tk_iload2 dX11_cry_38 ?_
        refine tk_callV1z dX11_cry_39 kX11_295 hR.o (r_factsIn hR (by omega) hl2 hl1) (Nat.le_of_ble_eq_true rfl) (by omega) ?_
        refine tk_aload0 dX11_cry_42 ?_
        refine tk_getP dX11_cry_43 fX11_25 rfl hR.o (hR.p 5 rfl) ?_
        refine tk_iload1 dX11_cry_46 ?_
        refine tk_iald dX11_cry_47 (hR.t 46 rfl) (by omega) (by omega) ?_
        refine tk_iand dX11_cry_48 ?_
        first | refine tk_jf_eqB dX11_cry_49 (fun h49 => ?_) (fun h49 => ?_) | refine tk_if_eq dX11_cry_49 (fun h49 => ?_) (fun h49 => ?_)
        · refine tk_aload0 dX11_cry_60 ?_
          rw [if_pos h49]
          refine tk_callV0y dX11_cry_61 kX11_275 hR.o (r_viewTown hR t1 t3 t7 t9) (Nat.le_of_ble_eq_true rfl) (by omega) ?_
          refine tk_aload0 dX11_cry_64 ?_
          refine tk_iload1 dX11_cry_65 ?_
          refine tk_iload2 dX11_cry_66 ?_
          refine tk_callV2z dX11_cry_67 kX11_316 hR.o (r_knowingT hR hT (by omega) (by omega) hrt) (Nat.le_of_ble_eq_true rfl) (by omega) ?_
          refine tk_lstore3 dX11_cry_70 rfl ?_
          refine tk_lload3 dX11_cry_71 ?_
          refine tk_aload0 dX11_cry_72 ?_
          refine tk_getI dX11_cry_73 fX11_220 rfl hR.o ?_
          rw [hV27]
          refine tk_lshr dX11_cry_76 ?_
          refine tk_lconst dX11_cry_77 (v := 1) (by decide) ?_
          refine tk_land dX11_cry_78 ?_
          refine tk_lconst dX11_cry_79 (v := 0) (by decide) ?_
          refine tk_lcmp dX11_cry_80 ?_
          first | refine tk_jf_neB dX11_cry_81 (fun h81 => ?_) (fun h81 => ?_) | refine tk_if_ne dX11_cry_81 (fun h81 => ?_) (fun h81 => ?_)
          · refine tk_aload0 dX11_cry_92 ?_
            have hMr : tb (rKs (vwB I L np W) W a' (soT I L np W cn cl s')) r = true := by
              cases e9 : tb (rKs (vwB I L np W) W a' (soT I L np W cn cl s')) r with
              | true => rfl
              | false => exact absurd ((tb_t0 _ (by omega)).mpr e9) h81
            rw [if_pos hMr]
            refine tk_lload3 dX11_cry_93 ?_
            refine tk_iconst dX11_cry_94 kc_iconst_m1 ?_
            refine tk_lconst dX11_cry_95 (v := 0) (by decide) ?_
            refine tk_callV3y dX11_cry_96 kX11_278 hR.o (r_makeT hR hT (rKs (vwB I L np W) W a' (soT I L np W cn cl s')) 0 (-1)) (Nat.le_of_ble_eq_true rfl) (by omega) ?_
            refine tk_aload0 dX11_cry_99 ?_
            refine tk_callV0q dX11_cry_100 kX11_282 hR.o (r_cutT hR hT hMr) (Nat.le_of_ble_eq_true rfl) (by omega) ?_
            intro rr h1 q
            obtain ⟨J, L', W', r', ff, cc, rfl, rfl, j1, j2, j3, j4, j5, j6, j7⟩ := CTQ_of hT hk q
            dsimp only [Option.toList, List.cons_append, List.nil_append]
            refine tk_istore5 dX11_cry_103 rfl ?_
            refine tk_aload0 dX11_cry_105 ?_
            refine tk_callV0z dX11_cry_106 kX11_286 hR.o (r_lay hR hm j1) (Nat.le_of_ble_eq_true rfl) (by omega) ?_
            refine tk_ireturn dX11_cry_109 rfl ?_
            exact rLq_g rfl (LQ_of j2 j3 j4 j5 j6 j7)
          · refine tk_aload0 dX11_cry_84 ?_
            refine tk_ldcw dX11_cry_85 klX11_307 ?_
            refine tk_callV1z dX11_cry_88 kX11_179 hR.o (r_finding hR _) (Nat.le_of_ble_eq_true rfl) (by omega) ?_
            refine tk_ireturn dX11_cry_91 rfl ?_
            exact rLq_f (if_neg (by rw [(tb_t0 _ (by omega)).mp h81]; decide)) (rSm_VT I) (rLm.up (by omega))
        · refine tk_aload0 dX11_cry_52 ?_
          refine tk_ldcw dX11_cry_53 klX11_298 ?_
          refine tk_callV1z dX11_cry_56 kX11_179 hR.o (r_finding hR _) (Nat.le_of_ble_eq_true rfl) (by omega) ?_
          refine tk_ireturn dX11_cry_59 rfl ?_
          exact rLq_f (if_neg h49) rSm.rf rLm.rf
      · refine tk_aload0 dX11_cry_30 ?_
        refine tk_ldc dX11_cry_31 klX11_208 ?_
        refine tk_callV1z dX11_cry_33 kX11_179 hR.o (r_finding hR _) (Nat.le_of_ble_eq_true rfl) (by omega) ?_
        refine tk_ireturn dX11_cry_36 rfl ?_
        exact rLq_f (if_neg (by rw [es, h27]; decide)) rSm.rf rLm.rf
    · refine tk_aload0 dX11_cry_15 ?_
      refine tk_ldc dX11_cry_16 klX11_183 ?_
      refine tk_callV1z dX11_cry_18 kX11_179 hR.o (r_finding hR _) (Nat.le_of_ble_eq_true rfl) (by omega) ?_
      refine tk_ireturn dX11_cry_21 rfl ?_
      refine rLq_f (if_neg (fun e => ?_)) rSm.rf rLm.rf
      rw [Bool.and_eq_true] at e
      first | exact absurd (h5.symm.trans e.1) Bool.false_ne_true | exact absurd (h12.symm.trans e.2) Bool.false_ne_true
end REFCG
