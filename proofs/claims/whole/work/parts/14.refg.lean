/-! ===== the reference: sheets, oaths, pacts, marks ===== -/
def rSz (I : Nat → Nat → Int32) : Prop := ∀ t, t < 4 → ∃ l, l ≤ 14 ∧ I 62 t = nI l
def rNar (b v : Int32) : Int32 := if b = nI 8 then v.toInt8.toInt32 else if b = nI 16 then v.toInt16.toInt32 else v
def rPuC (I : Nat → Nat → Int32) (s i : Int32) : Option Int32 := if rIn s (nI 0) (nI 3) then (if I 61 (ix s) = 0 then some (-100002) else if rPer (I 62 (ix s)) i then none else some (-100001)) else some (-100001)
def rHp (z f m : Int32) : Bool := decide (0 ≤ f) && (decide (0 ≤ m) && (decide (m ≤ z) && decide (f ≤ z - m)))
def rCoC (I : Nat → Nat → Int32) (s f t o m : Int32) : Option Int32 := if rIn s (nI 0) (nI 3) && rIn t (nI 0) (nI 3) then (if I 61 (ix s) = 0 ∨ I 61 (ix t) = 0 then some (-100002) else if I 61 (ix s) = I 61 (ix t) then (if rHp (I 62 (ix s)) f m && rHp (I 62 (ix t)) o m then none else some (-100001)) else some (-100004)) else some (-100001)
def rWrC (I : Nat → Nat → Int32) (s t : Int32) : Option Int32 := if rIn s (nI 0) (nI 5) && rIn t (nI 0) (nI 3) then (if I 61 (ix t) = 0 then some (-100002) else if rAS (fun i => I 63 (14 * ix t + i)) (ix (I 62 (ix t))) 0 then none else some (-100001)) else some (-100001)
def rIs (v kd : Int32) : Bool := if kd = 0 ∨ kd = nI 3 then (decide (kd = 0) || decide (nI 32 ≤ v)) else decide (rTk v = kd)
def rAsC (I : Nat → Nat → Int32) (s i kd : Int32) : Option Int32 := if rIn s (nI 0) (nI 5) && (rPer (I 48 (ix s)) i && rIn kd (nI 0) (nI 3)) then (if rIs (I 47 (14 * ix s + ix i)) kd then none else some (-100004)) else some (-100001)
theorem rHp_of {z f m : Int32} {l : Nat} (h : rHp z f m = true) (hz : z = nI l) (hl : l ≤ 14) : ∃ f' m' : Nat, f = nI f' ∧ m = nI m' ∧ f' + m' ≤ l := by
  subst hz
  simp only [rHp, Bool.and_eq_true, decide_eq_true_eq] at h
  obtain ⟨h1, h2, h3, h4⟩ := h
  obtain ⟨f', hf, rfl⟩ := nI_of (x := f) (by rw [Int32.not_lt]; exact h1)
  obtain ⟨m', hm, rfl⟩ := nI_of (x := m) (by rw [Int32.not_lt]; exact h2)
  have h3 := (nI_leI hm (by omega)).mp h3
  rw [pk_sub h3] at h4
  have h4 := (nI_leI hf (by omega)).mp h4
  exact ⟨f', m', rfl, rfl, by omega⟩
section REFG
variable {G : tkG} {n : Nat} {T : Nat → Nat × Nat} {I : Nat → Nat → Int32} {L : Nat → Nat → Int64} {P : Nat → Nat → Option Nat}
theorem r_put (hR : tkRef T P) (hz : rSz I) (s i v : Int32) : tkM G mX11_put 2 0 0 [vR 40, vI s, vI i, vI v] (n, T, I, L, P) (rPst n T I L P (rPuC I s i) (nI 0) (va_up I 63 (va_up (I 63) (14 * ix s + ix i) (rNar (I 61 (ix s)) v)))) := by
  have k94 : ∀ (s' i' : Nat) (x : Int32), s' ≤ 3 → i' < 14 → rPuC I (nI s') (nI i') = none → x = rNar (I 61 s') v → tkX G mX11_put 2 0 0 94 [some (vR 40), some (vI (nI s')), some (vI (nI i')), some (vI v)] [vI x, vI (nI (14 * s' + i')), vR 63] (n, T, I, L, P) (rPst n T I L P (rPuC I (nI s') (nI i')) (nI 0) (va_up I 63 (va_up (I 63) (14 * ix (nI s') + ix (nI i')) (rNar (I 61 (ix (nI s'))) v)))) := by
    intro s' i' x h1 h2 hc hx
    subst hx
    rw [ix_nI (by omega), ix_nI (by omega)]
    refine tk_iast dX11_put_94 (hR.t 63 rfl) (by omega) (by omega) ?_
    refine tk_iconst dX11_put_95 kc_iconst_0 ?_
    refine tk_ireturn dX11_put_96 rfl ?_
    exact rPst_g hc rfl rfl
  refine tkM.of (ls := [some _, some _, some _, some _]) (by decide +kernel) (by decide +kernel) (Nat.le_of_ble_eq_true rfl) rfl ?_
  refine tk_iload1 dX11_put_0 ?_
  refine tk_callS1z dX11_put_1 kX11_201 (r_isSheet _) (Nat.le_of_ble_eq_true rfl) (by omega) ?_
  first | refine tk_jf_neB dX11_put_4 (fun h4 => ?_) (fun h4 => ?_) | refine tk_if_ne dX11_put_4 (fun h4 => ?_) (fun h4 => ?_)
  · refine tk_aload0 dX11_put_14 ?_
    obtain ⟨s', hs1, rfl⟩ := rIn_of h4 (by omega)
    have hix : ix (nI s') = s' := ix_nI (by omega)
    obtain ⟨l, hl1, hl2⟩ := hz s' (by omega)
    refine tk_getP dX11_put_15 fX11_71 rfl hR.o (hR.p 21 rfl) ?_
    refine tk_iload1 dX11_put_18 ?_
    refine tk_iald dX11_put_19 (hR.t 61 rfl) (by omega) (by omega) ?_
    first | refine tk_jf_neB dX11_put_20 (fun h20 => ?_) (fun h20 => ?_) | refine tk_if_ne dX11_put_20 (fun h20 => ?_) (fun h20 => ?_)
    · refine tk_iload2 dX11_put_30 ?_
      refine tk_jf_lt dX11_put_31 (fun h31 => ?_) (fun h31 => ?_)
      · refine tk_aload0 dX11_put_44 ?_
        refine tk_ldc dX11_put_45 klX11_183 ?_
        refine tk_callV1z dX11_put_47 kX11_179 hR.o (r_finding hR _) (Nat.le_of_ble_eq_true rfl) (by omega) ?_
        refine tk_ireturn dX11_put_50 rfl ?_
        first | exact rPst_f (by unfold rPuC; rw [if_neg (by rw [h4]; decide)]) | exact rPst_f (by unfold rPuC; rw [if_pos h4, hix, if_pos h20]) | exact rPst_f (by unfold rPuC; rw [if_pos h4, hix, if_neg h20, if_neg]; simp only [rPer, Bool.and_eq_true, decide_eq_true_eq]; intro q; first | exact Int32.not_le.mpr h31 q.1 | exact Int32.not_lt.mpr h41 q.2)
      · refine tk_iload2 dX11_put_34 ?_
        refine tk_aload0 dX11_put_35 ?_
        refine tk_getP dX11_put_36 fX11_74 rfl hR.o (hR.p 22 rfl) ?_
        refine tk_iload1 dX11_put_39 ?_
        refine tk_iald dX11_put_40 (hR.t 62 rfl) (by omega) (by omega) ?_
        first | refine tk_icmp_ltN dX11_put_41 (by omega) (by omega) (fun h41 => ?_) (fun h41 => ?_) | refine tk_jcmp_lt dX11_put_41 (fun h41 => ?_) (fun h41 => ?_)
        · refine tk_aload0 dX11_put_51 ?_
          have hpi : rPer (I 62 s') i = true := by simp only [rPer, Bool.and_eq_true, decide_eq_true_eq]; exact ⟨h31, h41⟩
          obtain ⟨i', hi1, rfl⟩ := rPe_of hpi hl2 (by omega)
          have hc : rPuC I (nI s') (nI i') = none := by unfold rPuC; rw [if_pos h4, hix, if_neg h20, if_pos hpi]
          refine tk_getP dX11_put_52 fX11_77 rfl hR.o (hR.p 23 rfl) ?_
          refine tk_bipush dX11_put_55 kc_bipush_14 ?_
          refine tk_iload1 dX11_put_57 ?_
          first | refine tk_imulN dX11_put_58 ?_ | refine tk_imul dX11_put_58 ?_
          refine tk_iload2 dX11_put_59 ?_
          first | refine tk_iaddN dX11_put_60 ?_ | refine tk_iadd dX11_put_60 ?_
          refine tk_aload0 dX11_put_61 ?_
          refine tk_getP dX11_put_62 fX11_71 rfl hR.o (hR.p 21 rfl) ?_
          refine tk_iload1 dX11_put_65 ?_
          refine tk_iald dX11_put_66 (hR.t 61 rfl) (by omega) (by omega) ?_
          refine tk_bipush dX11_put_67 kc_bipush_8 ?_
          first | refine tk_icmp_neN dX11_put_69 (by omega) (by omega) (fun h69 => ?_) (fun h69 => ?_) | refine tk_icmp_ne dX11_put_69 (fun h69 => ?_) (fun h69 => ?_)
          · refine tk_aload0 dX11_put_77 ?_
            refine tk_getP dX11_put_78 fX11_71 rfl hR.o (hR.p 21 rfl) ?_
            refine tk_iload1 dX11_put_81 ?_
            refine tk_iald dX11_put_82 (hR.t 61 rfl) (by omega) (by omega) ?_
            refine tk_bipush dX11_put_83 kc_bipush_16 ?_
            first | refine tk_icmp_neN dX11_put_85 (by omega) (by omega) (fun h85 => ?_) (fun h85 => ?_) | refine tk_icmp_ne dX11_put_85 (fun h85 => ?_) (fun h85 => ?_)
            · refine tk_iload3 dX11_put_93 ?_
              exact k94 s' i' _ hs1 (by omega) hc (by unfold rNar; first | rw [if_pos h69] | rw [if_neg h69, if_pos h85] | rw [if_neg h69, if_neg h85])
            · refine tk_iload3 dX11_put_88 ?_
              refine tk_i2s dX11_put_89 ?_
              refine tk_goto dX11_put_90 ?_
              exact k94 s' i' _ hs1 (by omega) hc (by unfold rNar; first | rw [if_pos h69] | rw [if_neg h69, if_pos h85] | rw [if_neg h69, if_neg h85])
          · refine tk_iload3 dX11_put_72 ?_
            refine tk_i2b dX11_put_73 ?_
            refine tk_goto dX11_put_74 ?_
            exact k94 s' i' _ hs1 (by omega) hc (by unfold rNar; first | rw [if_pos h69] | rw [if_neg h69, if_pos h85] | rw [if_neg h69, if_neg h85])
        · refine tk_aload0 dX11_put_44 ?_
          refine tk_ldc dX11_put_45 klX11_183 ?_
          refine tk_callV1z dX11_put_47 kX11_179 hR.o (r_finding hR _) (Nat.le_of_ble_eq_true rfl) (by omega) ?_
          refine tk_ireturn dX11_put_50 rfl ?_
          first | exact rPst_f (by unfold rPuC; rw [if_neg (by rw [h4]; decide)]) | exact rPst_f (by unfold rPuC; rw [if_pos h4, hix, if_pos h20]) | exact rPst_f (by unfold rPuC; rw [if_pos h4, hix, if_neg h20, if_neg]; simp only [rPer, Bool.and_eq_true, decide_eq_true_eq]; intro q; first | exact Int32.not_le.mpr h31 q.1 | exact Int32.not_lt.mpr h41 q.2)
    · refine tk_aload0 dX11_put_23 ?_
      refine tk_ldc dX11_put_24 klX11_204 ?_
      refine tk_callV1z dX11_put_26 kX11_179 hR.o (r_finding hR _) (Nat.le_of_ble_eq_true rfl) (by omega) ?_
      refine tk_ireturn dX11_put_29 rfl ?_
      first | exact rPst_f (by unfold rPuC; rw [if_neg (by rw [h4]; decide)]) | exact rPst_f (by unfold rPuC; rw [if_pos h4, hix, if_pos h20]) | exact rPst_f (by unfold rPuC; rw [if_pos h4, hix, if_neg h20, if_neg]; simp only [rPer, Bool.and_eq_true, decide_eq_true_eq]; intro q; first | exact Int32.not_le.mpr h31 q.1 | exact Int32.not_lt.mpr h41 q.2)
  · refine tk_aload0 dX11_put_7 ?_
    refine tk_ldc dX11_put_8 klX11_183 ?_
    refine tk_callV1z dX11_put_10 kX11_179 hR.o (r_finding hR _) (Nat.le_of_ble_eq_true rfl) (by omega) ?_
    refine tk_ireturn dX11_put_13 rfl ?_
    first | exact rPst_f (by unfold rPuC; rw [if_neg (by rw [h4]; decide)]) | exact rPst_f (by unfold rPuC; rw [if_pos h4, hix, if_pos h20]) | exact rPst_f (by unfold rPuC; rw [if_pos h4, hix, if_neg h20, if_neg]; simp only [rPer, Bool.and_eq_true, decide_eq_true_eq]; intro q; first | exact Int32.not_le.mpr h31 q.1 | exact Int32.not_lt.mpr h41 q.2)
theorem r_hasPart (hR : tkRef T P) {s : Nat} (hs : s < 4) (f m : Int32) : tkM G mX11_hasPart 0 0 0 [vR 40, vI (nI s), vI f, vI m] (n, T, I, L, P) (tkF (some (vI (tkb (rHp (I 62 s) f m)))) (n, T, I, L, P)) := by
  refine tkM.of (ls := [some _, some _, some _, some _]) (by decide +kernel) (by decide +kernel) (Nat.le_of_ble_eq_true rfl) rfl ?_
  refine tk_iload2 dX11_hasPart_0 ?_
  refine tk_jf_lt dX11_hasPart_1 (fun h1 => ?_) (fun h1 => ?_)
  · refine tk_iconst dX11_hasPart_34 kc_iconst_0 ?_
    first | refine tk_zreturn dX11_hasPart_35 rfl ?_ | refine tk_zret0 dX11_hasPart_35 rfl ?_ | refine tk_zret1 dX11_hasPart_35 rfl ?_
    exact tkz (by unfold rHp; first | (rw [decide_eq_false (Int32.not_le.mpr h1)]; rfl) | (rw [decide_eq_false (Int32.not_le.mpr h5), Bool.false_and, Bool.and_false]) | (rw [decide_eq_false (Int32.not_le.mpr h15), Bool.false_and, Bool.and_false, Bool.and_false]) | (rw [decide_eq_false (Int32.not_le.mpr h27), Bool.and_false, Bool.and_false, Bool.and_false]) | (rw [decide_eq_true h1, decide_eq_true h5, decide_eq_true h15, decide_eq_true h27]; rfl))
  · refine tk_iload3 dX11_hasPart_4 ?_
    refine tk_jf_lt dX11_hasPart_5 (fun h5 => ?_) (fun h5 => ?_)
    · refine tk_iconst dX11_hasPart_34 kc_iconst_0 ?_
      first | refine tk_zreturn dX11_hasPart_35 rfl ?_ | refine tk_zret0 dX11_hasPart_35 rfl ?_ | refine tk_zret1 dX11_hasPart_35 rfl ?_
      exact tkz (by unfold rHp; first | (rw [decide_eq_false (Int32.not_le.mpr h1)]; rfl) | (rw [decide_eq_false (Int32.not_le.mpr h5), Bool.false_and, Bool.and_false]) | (rw [decide_eq_false (Int32.not_le.mpr h15), Bool.false_and, Bool.and_false, Bool.and_false]) | (rw [decide_eq_false (Int32.not_le.mpr h27), Bool.and_false, Bool.and_false, Bool.and_false]) | (rw [decide_eq_true h1, decide_eq_true h5, decide_eq_true h15, decide_eq_true h27]; rfl))
    · refine tk_iload3 dX11_hasPart_8 ?_
      refine tk_aload0 dX11_hasPart_9 ?_
      refine tk_getP dX11_hasPart_10 fX11_74 rfl hR.o (hR.p 22 rfl) ?_
      refine tk_iload1 dX11_hasPart_13 ?_
      refine tk_iald dX11_hasPart_14 (hR.t 62 rfl) (by omega) (by omega) ?_
      first | refine tk_icmp_gtN dX11_hasPart_15 (by omega) (by omega) (fun h15 => ?_) (fun h15 => ?_) | refine tk_jcmp_gt dX11_hasPart_15 (fun h15 => ?_) (fun h15 => ?_)
      · refine tk_iconst dX11_hasPart_34 kc_iconst_0 ?_
        first | refine tk_zreturn dX11_hasPart_35 rfl ?_ | refine tk_zret0 dX11_hasPart_35 rfl ?_ | refine tk_zret1 dX11_hasPart_35 rfl ?_
        exact tkz (by unfold rHp; first | (rw [decide_eq_false (Int32.not_le.mpr h1)]; rfl) | (rw [decide_eq_false (Int32.not_le.mpr h5), Bool.false_and, Bool.and_false]) | (rw [decide_eq_false (Int32.not_le.mpr h15), Bool.false_and, Bool.and_false, Bool.and_false]) | (rw [decide_eq_false (Int32.not_le.mpr h27), Bool.and_false, Bool.and_false, Bool.and_false]) | (rw [decide_eq_true h1, decide_eq_true h5, decide_eq_true h15, decide_eq_true h27]; rfl))
      · refine tk_iload2 dX11_hasPart_18 ?_
        refine tk_aload0 dX11_hasPart_19 ?_
        refine tk_getP dX11_hasPart_20 fX11_74 rfl hR.o (hR.p 22 rfl) ?_
        refine tk_iload1 dX11_hasPart_23 ?_
        refine tk_iald dX11_hasPart_24 (hR.t 62 rfl) (by omega) (by omega) ?_
        refine tk_iload3 dX11_hasPart_25 ?_
        first | refine tk_isubN dX11_hasPart_26 (by omega) ?_ | refine tk_isub dX11_hasPart_26 ?_
        first | refine tk_icmp_gtN dX11_hasPart_27 (by omega) (by omega) (fun h27 => ?_) (fun h27 => ?_) | refine tk_jcmp_gt dX11_hasPart_27 (fun h27 => ?_) (fun h27 => ?_)
        · refine tk_iconst dX11_hasPart_34 kc_iconst_0 ?_
          first | refine tk_zreturn dX11_hasPart_35 rfl ?_ | refine tk_zret0 dX11_hasPart_35 rfl ?_ | refine tk_zret1 dX11_hasPart_35 rfl ?_
          exact tkz (by unfold rHp; first | (rw [decide_eq_false (Int32.not_le.mpr h1)]; rfl) | (rw [decide_eq_false (Int32.not_le.mpr h5), Bool.false_and, Bool.and_false]) | (rw [decide_eq_false (Int32.not_le.mpr h15), Bool.false_and, Bool.and_false, Bool.and_false]) | (rw [decide_eq_false (Int32.not_le.mpr h27), Bool.and_false, Bool.and_false, Bool.and_false]) | (rw [decide_eq_true h1, decide_eq_true h5, decide_eq_true h15, decide_eq_true h27]; rfl))
        · refine tk_iconst dX11_hasPart_30 kc_iconst_1 ?_
          refine tk_goto dX11_hasPart_31 ?_
          first | refine tk_zreturn dX11_hasPart_35 rfl ?_ | refine tk_zret0 dX11_hasPart_35 rfl ?_ | refine tk_zret1 dX11_hasPart_35 rfl ?_
          exact tkz (by unfold rHp; first | (rw [decide_eq_false (Int32.not_le.mpr h1)]; rfl) | (rw [decide_eq_false (Int32.not_le.mpr h5), Bool.false_and, Bool.and_false]) | (rw [decide_eq_false (Int32.not_le.mpr h15), Bool.false_and, Bool.and_false, Bool.and_false]) | (rw [decide_eq_false (Int32.not_le.mpr h27), Bool.and_false, Bool.and_false, Bool.and_false]) | (rw [decide_eq_true h1, decide_eq_true h5, decide_eq_true h15, decide_eq_true h27]; rfl))
theorem r_copyL (hR : tkRef T P) {s' f' t' o' m' : Nat} (h1 : s' ≤ 3) (h2 : t' ≤ 3) (h3 : f' + m' ≤ 14) (h4 : o' + m' ≤ 14) : tkX G mX11_copy 2 0 0 101 [some (vR 40), some (vI (nI s')), some (vI (nI f')), some (vI (nI t')), some (vI (nI o')), some (vI (nI m')), some (vI (nI 0))] [] (n, T, I, L, P) (tkF (some (vI (nI m'))) (n, T, va_up (va_up I 63 (tkco (I 63) (tkcp (I 86) (fun k => I 63 (14 * s' + f' + k)) m') (14 * t' + o') m')) 86 (tkcp (I 86) (fun k => I 63 (14 * s' + f' + k)) m'), L, P)) := by
  refine tk_fr 0 m' (fun i => [some (vR 40), some (vI (nI s')), some (vI (nI f')), some (vI (nI t')), some (vI (nI o')), some (vI (nI m')), some (vI (nI i))]) (fun i => (n, T, va_up I 86 (tkcp (I 86) (fun k => I 63 (14 * s' + f' + k)) i), L, P)) (by omega) (by repeat' (first | exact trivial | refine ⟨Or.inl rfl, ?_⟩ | refine ⟨Or.inr rfl, ?_⟩)) (by rw [tkcp_0, tk_up_id]) ?_ ?_
  · refine tk_iload6 dX11_copy_101 ?_
    refine tk_iload5 dX11_copy_103 ?_
    first | refine tk_icmp_geN dX11_copy_105 (by omega) (by omega) (fun h105 => ?_) (fun h105 => ?_) | refine tk_jcmp_ge dX11_copy_105 (fun h105 => ?_) (fun h105 => ?_)
    · refine tk_iconst dX11_copy_135 kc_iconst_0 ?_
      refine tk_istore6 dX11_copy_136 rfl ?_
      refine tk_fr 0 m' (fun i => [some (vR 40), some (vI (nI s')), some (vI (nI f')), some (vI (nI t')), some (vI (nI o')), some (vI (nI m')), some (vI (nI i))]) (fun i => (n, T, va_up (va_up I 63 (tkco (I 63) (tkcp (I 86) (fun k => I 63 (14 * s' + f' + k)) m') (14 * t' + o') i)) 86 (tkcp (I 86) (fun k => I 63 (14 * s' + f' + k)) m'), L, P)) (by omega) (by repeat' (first | exact trivial | refine ⟨Or.inl rfl, ?_⟩ | refine ⟨Or.inr rfl, ?_⟩)) (by rw [tkco_0, tk_up_id]) ?_ ?_
      · refine tk_iload6 dX11_copy_138 ?_
        refine tk_iload5 dX11_copy_140 ?_
        first | refine tk_icmp_geN dX11_copy_142 (by omega) (by omega) (fun h142 => ?_) (fun h142 => ?_) | refine tk_jcmp_ge dX11_copy_142 (fun h142 => ?_) (fun h142 => ?_)
        · refine tk_iload5 dX11_copy_173 ?_
          refine tk_ireturn dX11_copy_175 rfl ?_
          exact ⟨rfl, rfl⟩
        · exfalso; omega
      · intro i _ hi k
        refine tk_iload6 dX11_copy_138 ?_
        refine tk_iload5 dX11_copy_140 ?_
        first | refine tk_icmp_geN dX11_copy_142 (by omega) (by omega) (fun h142 => ?_) (fun h142 => ?_) | refine tk_jcmp_ge dX11_copy_142 (fun h142 => ?_) (fun h142 => ?_)
        · exfalso; omega
        · refine tk_aload0 dX11_copy_145 ?_
          refine tk_getP dX11_copy_146 fX11_77 rfl hR.o (hR.p 23 rfl) ?_
          refine tk_bipush dX11_copy_149 kc_bipush_14 ?_
          refine tk_iload3 dX11_copy_151 ?_
          first | refine tk_imulN dX11_copy_152 ?_ | refine tk_imul dX11_copy_152 ?_
          refine tk_iload4 dX11_copy_153 ?_
          first | refine tk_iaddN dX11_copy_155 ?_ | refine tk_iadd dX11_copy_155 ?_
          refine tk_iload6 dX11_copy_156 ?_
          first | refine tk_iaddN dX11_copy_158 ?_ | refine tk_iadd dX11_copy_158 ?_
          refine tk_aload0 dX11_copy_159 ?_
          refine tk_getP dX11_copy_160 fX11_148 rfl hR.o (hR.p 53 rfl) ?_
          refine tk_iload6 dX11_copy_163 ?_
          refine tk_iald dX11_copy_165 (hR.t 86 rfl) (by omega) (by omega) ?_
          refine tk_iast dX11_copy_166 (hR.t 63 rfl) (by omega) (by omega) ?_
          first | refine tk_iinc6 dX11_copy_167 (kc_inc _) rfl ?_ | refine tk_iinc6 dX11_copy_167 rfl rfl ?_
          refine tk_goto dX11_copy_170 ?_
          simp only [va_up_self, bx_uu, tk_une, tk_usrt, not_false_eq_true, Nat.reduceEqDiff, Nat.reduceLT, Nat.reduceAdd, Nat.reduceMul, Nat.reduceLeDiff, reduceCtorEq]
          rw [tkco_s (I 63) (tkcp (I 86) (fun k => I 63 (14 * s' + f' + k)) m')]
          exact k _ (by repeat' (first | exact trivial | refine ⟨Or.inl rfl, ?_⟩ | refine ⟨Or.inr rfl, ?_⟩))
    · exfalso; omega
  · intro i _ hi k
    refine tk_iload6 dX11_copy_101 ?_
    refine tk_iload5 dX11_copy_103 ?_
    first | refine tk_icmp_geN dX11_copy_105 (by omega) (by omega) (fun h105 => ?_) (fun h105 => ?_) | refine tk_jcmp_ge dX11_copy_105 (fun h105 => ?_) (fun h105 => ?_)
    · exfalso; omega
    · refine tk_aload0 dX11_copy_108 ?_
      refine tk_getP dX11_copy_109 fX11_148 rfl hR.o (hR.p 53 rfl) ?_
      refine tk_iload6 dX11_copy_112 ?_
      refine tk_aload0 dX11_copy_114 ?_
      refine tk_getP dX11_copy_115 fX11_77 rfl hR.o (hR.p 23 rfl) ?_
      refine tk_bipush dX11_copy_118 kc_bipush_14 ?_
      refine tk_iload1 dX11_copy_120 ?_
      first | refine tk_imulN dX11_copy_121 ?_ | refine tk_imul dX11_copy_121 ?_
      refine tk_iload2 dX11_copy_122 ?_
      first | refine tk_iaddN dX11_copy_123 ?_ | refine tk_iadd dX11_copy_123 ?_
      refine tk_iload6 dX11_copy_124 ?_
      first | refine tk_iaddN dX11_copy_126 ?_ | refine tk_iadd dX11_copy_126 ?_
      refine tk_iald dX11_copy_127 (hR.t 63 rfl) (by omega) (by omega) ?_
      refine tk_iast dX11_copy_128 (hR.t 86 rfl) (by omega) (by omega) ?_
      first | refine tk_iinc6 dX11_copy_129 (kc_inc _) rfl ?_ | refine tk_iinc6 dX11_copy_129 rfl rfl ?_
      refine tk_goto dX11_copy_132 ?_
      simp only [va_up_self, bx_uu, tk_une, tk_usrt, not_false_eq_true, Nat.reduceEqDiff, Nat.reduceLT, Nat.reduceAdd, Nat.reduceMul, Nat.reduceLeDiff, reduceCtorEq]
      rw [tkcp_s (I 86) (fun k => I 63 (14 * s' + f' + k))]
      exact k _ (by repeat' (first | exact trivial | refine ⟨Or.inl rfl, ?_⟩ | refine ⟨Or.inr rfl, ?_⟩))
theorem r_copy (hR : tkRef T P) (hz : rSz I) (s f t o m : Int32) : tkM G mX11_copy 2 0 0 [vR 40, vI s, vI f, vI t, vI o, vI m] (n, T, I, L, P) (rPst n T I L P (rCoC I s f t o m) m (va_up (va_up I 63 (tkco (I 63) (tkcp (I 86) (fun k => I 63 (14 * ix s + ix f + k)) (ix m)) (14 * ix t + ix o) (ix m))) 86 (tkcp (I 86) (fun k => I 63 (14 * ix s + ix f + k)) (ix m)))) := by
  refine tkM.of (ls := [some _, some _, some _, some _, some _, some _, none]) (by decide +kernel) (by decide +kernel) (Nat.le_of_ble_eq_true rfl) rfl ?_
  refine tk_iload1 dX11_copy_0 ?_
  refine tk_callS1z dX11_copy_1 kX11_201 (r_isSheet _) (Nat.le_of_ble_eq_true rfl) (by omega) ?_
  first | refine tk_jf_eqB dX11_copy_4 (fun h4 => ?_) (fun h4 => ?_) | refine tk_if_eq dX11_copy_4 (fun h4 => ?_) (fun h4 => ?_)
  · refine tk_aload0 dX11_copy_14 ?_
    refine tk_ldc dX11_copy_15 klX11_183 ?_
    refine tk_callV1z dX11_copy_17 kX11_179 hR.o (r_finding hR _) (Nat.le_of_ble_eq_true rfl) (by omega) ?_
    refine tk_ireturn dX11_copy_20 rfl ?_
    first | exact rPst_f (by unfold rCoC; rw [h4]; rfl) | exact rPst_f (by unfold rCoC; rw [h4, h11]; rfl) | exact rPst_f (by unfold rCoC; rw [h4, h11, if_pos (show (true && true) = true from rfl), hixs, hixt, if_pos (Or.inl h27)]) | exact rPst_f (by unfold rCoC; rw [h4, h11, if_pos (show (true && true) = true from rfl), hixs, hixt, if_pos (Or.inr h36)]) | exact rPst_f (by unfold rCoC; rw [h4, h11, if_pos (show (true && true) = true from rfl), hixs, hixt, if_neg (fun q => q.elim h27 h36), if_neg h58]) | exact rPst_f (by unfold rCoC; rw [h4, h11, if_pos (show (true && true) = true from rfl), hixs, hixt, if_neg (fun q => q.elim h27 h36), if_pos h58, h76]; rfl) | exact rPst_f (by unfold rCoC; rw [h4, h11, if_pos (show (true && true) = true from rfl), hixs, hixt, if_neg (fun q => q.elim h27 h36), if_pos h58, h76, h88]; rfl)
  · refine tk_iload3 dX11_copy_7 ?_
    refine tk_callS1z dX11_copy_8 kX11_201 (r_isSheet _) (Nat.le_of_ble_eq_true rfl) (by omega) ?_
    first | refine tk_jf_neB dX11_copy_11 (fun h11 => ?_) (fun h11 => ?_) | refine tk_if_ne dX11_copy_11 (fun h11 => ?_) (fun h11 => ?_)
    · refine tk_aload0 dX11_copy_21 ?_
      obtain ⟨s', hs1, rfl⟩ := rIn_of h4 (by omega)
      obtain ⟨t', ht1, rfl⟩ := rIn_of h11 (by omega)
      have hixs : ix (nI s') = s' := ix_nI (by omega)
      have hixt : ix (nI t') = t' := ix_nI (by omega)
      obtain ⟨l1, hl1, hl2⟩ := hz s' (by omega)
      obtain ⟨l3, hl3, hl4⟩ := hz t' (by omega)
      refine tk_getP dX11_copy_22 fX11_71 rfl hR.o (hR.p 21 rfl) ?_
      refine tk_iload1 dX11_copy_25 ?_
      refine tk_iald dX11_copy_26 (hR.t 61 rfl) (by omega) (by omega) ?_
      first | refine tk_jf_eqB dX11_copy_27 (fun h27 => ?_) (fun h27 => ?_) | refine tk_if_eq dX11_copy_27 (fun h27 => ?_) (fun h27 => ?_)
      · refine tk_aload0 dX11_copy_39 ?_
        refine tk_ldc dX11_copy_40 klX11_204 ?_
        refine tk_callV1z dX11_copy_42 kX11_179 hR.o (r_finding hR _) (Nat.le_of_ble_eq_true rfl) (by omega) ?_
        refine tk_ireturn dX11_copy_45 rfl ?_
        first | exact rPst_f (by unfold rCoC; rw [h4]; rfl) | exact rPst_f (by unfold rCoC; rw [h4, h11]; rfl) | exact rPst_f (by unfold rCoC; rw [h4, h11, if_pos (show (true && true) = true from rfl), hixs, hixt, if_pos (Or.inl h27)]) | exact rPst_f (by unfold rCoC; rw [h4, h11, if_pos (show (true && true) = true from rfl), hixs, hixt, if_pos (Or.inr h36)]) | exact rPst_f (by unfold rCoC; rw [h4, h11, if_pos (show (true && true) = true from rfl), hixs, hixt, if_neg (fun q => q.elim h27 h36), if_neg h58]) | exact rPst_f (by unfold rCoC; rw [h4, h11, if_pos (show (true && true) = true from rfl), hixs, hixt, if_neg (fun q => q.elim h27 h36), if_pos h58, h76]; rfl) | exact rPst_f (by unfold rCoC; rw [h4, h11, if_pos (show (true && true) = true from rfl), hixs, hixt, if_neg (fun q => q.elim h27 h36), if_pos h58, h76, h88]; rfl)
      · refine tk_aload0 dX11_copy_30 ?_
        refine tk_getP dX11_copy_31 fX11_71 rfl hR.o (hR.p 21 rfl) ?_
        refine tk_iload3 dX11_copy_34 ?_
        refine tk_iald dX11_copy_35 (hR.t 61 rfl) (by omega) (by omega) ?_
        first | refine tk_jf_neB dX11_copy_36 (fun h36 => ?_) (fun h36 => ?_) | refine tk_if_ne dX11_copy_36 (fun h36 => ?_) (fun h36 => ?_)
        · refine tk_aload0 dX11_copy_46 ?_
          refine tk_getP dX11_copy_47 fX11_71 rfl hR.o (hR.p 21 rfl) ?_
          refine tk_iload1 dX11_copy_50 ?_
          refine tk_iald dX11_copy_51 (hR.t 61 rfl) (by omega) (by omega) ?_
          refine tk_aload0 dX11_copy_52 ?_
          refine tk_getP dX11_copy_53 fX11_71 rfl hR.o (hR.p 21 rfl) ?_
          refine tk_iload3 dX11_copy_56 ?_
          refine tk_iald dX11_copy_57 (hR.t 61 rfl) (by omega) (by omega) ?_
          first | refine tk_icmp_eqN dX11_copy_58 (by omega) (by omega) (fun h58 => ?_) (fun h58 => ?_) | refine tk_icmp_eq dX11_copy_58 (fun h58 => ?_) (fun h58 => ?_)
          · refine tk_aload0 dX11_copy_68 ?_
            refine tk_iload1 dX11_copy_69 ?_
            refine tk_iload2 dX11_copy_70 ?_
            refine tk_iload5 dX11_copy_71 ?_
            refine tk_callV3z dX11_copy_73 kX11_355 hR.o (r_hasPart hR (by omega) _ _) (Nat.le_of_ble_eq_true rfl) (by omega) ?_
            first | refine tk_jf_eqB dX11_copy_76 (fun h76 => ?_) (fun h76 => ?_) | refine tk_if_eq dX11_copy_76 (fun h76 => ?_) (fun h76 => ?_)
            · refine tk_aload0 dX11_copy_91 ?_
              refine tk_ldc dX11_copy_92 klX11_183 ?_
              refine tk_callV1z dX11_copy_94 kX11_179 hR.o (r_finding hR _) (Nat.le_of_ble_eq_true rfl) (by omega) ?_
              refine tk_ireturn dX11_copy_97 rfl ?_
              first | exact rPst_f (by unfold rCoC; rw [h4]; rfl) | exact rPst_f (by unfold rCoC; rw [h4, h11]; rfl) | exact rPst_f (by unfold rCoC; rw [h4, h11, if_pos (show (true && true) = true from rfl), hixs, hixt, if_pos (Or.inl h27)]) | exact rPst_f (by unfold rCoC; rw [h4, h11, if_pos (show (true && true) = true from rfl), hixs, hixt, if_pos (Or.inr h36)]) | exact rPst_f (by unfold rCoC; rw [h4, h11, if_pos (show (true && true) = true from rfl), hixs, hixt, if_neg (fun q => q.elim h27 h36), if_neg h58]) | exact rPst_f (by unfold rCoC; rw [h4, h11, if_pos (show (true && true) = true from rfl), hixs, hixt, if_neg (fun q => q.elim h27 h36), if_pos h58, h76]; rfl) | exact rPst_f (by unfold rCoC; rw [h4, h11, if_pos (show (true && true) = true from rfl), hixs, hixt, if_neg (fun q => q.elim h27 h36), if_pos h58, h76, h88]; rfl)
            · refine tk_aload0 dX11_copy_79 ?_
              refine tk_iload3 dX11_copy_80 ?_
              refine tk_iload4 dX11_copy_81 ?_
              refine tk_iload5 dX11_copy_83 ?_
              refine tk_callV3z dX11_copy_85 kX11_355 hR.o (r_hasPart hR (by omega) _ _) (Nat.le_of_ble_eq_true rfl) (by omega) ?_
              first | refine tk_jf_neB dX11_copy_88 (fun h88 => ?_) (fun h88 => ?_) | refine tk_if_ne dX11_copy_88 (fun h88 => ?_) (fun h88 => ?_)
              · refine tk_iconst dX11_copy_98 kc_iconst_0 ?_
                obtain ⟨f', m', rfl, rfl, hb1⟩ := rHp_of h76 hl2 hl1
                obtain ⟨o', m2, rfl, hm2, hb2⟩ := rHp_of h88 hl4 hl3
                obtain rfl : m' = m2 := (nI_eq (by omega) (by omega)).mp hm2
                have hc : rCoC I (nI s') (nI f') (nI t') (nI o') (nI m') = none := by unfold rCoC; rw [h4, h11, if_pos (show (true && true) = true from rfl), hixs, hixt, if_neg (fun q => q.elim h27 h36), if_pos h58, h76, h88]; rfl
                rw [hc, hixs, hixt, ix_nI (k := f') (by omega), ix_nI (k := o') (by omega), ix_nI (k := m') (by omega)]
                refine tk_istore6 dX11_copy_99 rfl ?_
                exact r_copyL hR hs1 ht1 (by omega) (by omega)
              · refine tk_aload0 dX11_copy_91 ?_
                refine tk_ldc dX11_copy_92 klX11_183 ?_
                refine tk_callV1z dX11_copy_94 kX11_179 hR.o (r_finding hR _) (Nat.le_of_ble_eq_true rfl) (by omega) ?_
                refine tk_ireturn dX11_copy_97 rfl ?_
                first | exact rPst_f (by unfold rCoC; rw [h4]; rfl) | exact rPst_f (by unfold rCoC; rw [h4, h11]; rfl) | exact rPst_f (by unfold rCoC; rw [h4, h11, if_pos (show (true && true) = true from rfl), hixs, hixt, if_pos (Or.inl h27)]) | exact rPst_f (by unfold rCoC; rw [h4, h11, if_pos (show (true && true) = true from rfl), hixs, hixt, if_pos (Or.inr h36)]) | exact rPst_f (by unfold rCoC; rw [h4, h11, if_pos (show (true && true) = true from rfl), hixs, hixt, if_neg (fun q => q.elim h27 h36), if_neg h58]) | exact rPst_f (by unfold rCoC; rw [h4, h11, if_pos (show (true && true) = true from rfl), hixs, hixt, if_neg (fun q => q.elim h27 h36), if_pos h58, h76]; rfl) | exact rPst_f (by unfold rCoC; rw [h4, h11, if_pos (show (true && true) = true from rfl), hixs, hixt, if_neg (fun q => q.elim h27 h36), if_pos h58, h76, h88]; rfl)
          · refine tk_aload0 dX11_copy_61 ?_
            refine tk_ldc dX11_copy_62 klX11_208 ?_
            refine tk_callV1z dX11_copy_64 kX11_179 hR.o (r_finding hR _) (Nat.le_of_ble_eq_true rfl) (by omega) ?_
            refine tk_ireturn dX11_copy_67 rfl ?_
            first | exact rPst_f (by unfold rCoC; rw [h4]; rfl) | exact rPst_f (by unfold rCoC; rw [h4, h11]; rfl) | exact rPst_f (by unfold rCoC; rw [h4, h11, if_pos (show (true && true) = true from rfl), hixs, hixt, if_pos (Or.inl h27)]) | exact rPst_f (by unfold rCoC; rw [h4, h11, if_pos (show (true && true) = true from rfl), hixs, hixt, if_pos (Or.inr h36)]) | exact rPst_f (by unfold rCoC; rw [h4, h11, if_pos (show (true && true) = true from rfl), hixs, hixt, if_neg (fun q => q.elim h27 h36), if_neg h58]) | exact rPst_f (by unfold rCoC; rw [h4, h11, if_pos (show (true && true) = true from rfl), hixs, hixt, if_neg (fun q => q.elim h27 h36), if_pos h58, h76]; rfl) | exact rPst_f (by unfold rCoC; rw [h4, h11, if_pos (show (true && true) = true from rfl), hixs, hixt, if_neg (fun q => q.elim h27 h36), if_pos h58, h76, h88]; rfl)
        · refine tk_aload0 dX11_copy_39 ?_
          refine tk_ldc dX11_copy_40 klX11_204 ?_
          refine tk_callV1z dX11_copy_42 kX11_179 hR.o (r_finding hR _) (Nat.le_of_ble_eq_true rfl) (by omega) ?_
          refine tk_ireturn dX11_copy_45 rfl ?_
          first | exact rPst_f (by unfold rCoC; rw [h4]; rfl) | exact rPst_f (by unfold rCoC; rw [h4, h11]; rfl) | exact rPst_f (by unfold rCoC; rw [h4, h11, if_pos (show (true && true) = true from rfl), hixs, hixt, if_pos (Or.inl h27)]) | exact rPst_f (by unfold rCoC; rw [h4, h11, if_pos (show (true && true) = true from rfl), hixs, hixt, if_pos (Or.inr h36)]) | exact rPst_f (by unfold rCoC; rw [h4, h11, if_pos (show (true && true) = true from rfl), hixs, hixt, if_neg (fun q => q.elim h27 h36), if_neg h58]) | exact rPst_f (by unfold rCoC; rw [h4, h11, if_pos (show (true && true) = true from rfl), hixs, hixt, if_neg (fun q => q.elim h27 h36), if_pos h58, h76]; rfl) | exact rPst_f (by unfold rCoC; rw [h4, h11, if_pos (show (true && true) = true from rfl), hixs, hixt, if_neg (fun q => q.elim h27 h36), if_pos h58, h76, h88]; rfl)
    · refine tk_aload0 dX11_copy_14 ?_
      refine tk_ldc dX11_copy_15 klX11_183 ?_
      refine tk_callV1z dX11_copy_17 kX11_179 hR.o (r_finding hR _) (Nat.le_of_ble_eq_true rfl) (by omega) ?_
      refine tk_ireturn dX11_copy_20 rfl ?_
      first | exact rPst_f (by unfold rCoC; rw [h4]; rfl) | exact rPst_f (by unfold rCoC; rw [h4, h11]; rfl) | exact rPst_f (by unfold rCoC; rw [h4, h11, if_pos (show (true && true) = true from rfl), hixs, hixt, if_pos (Or.inl h27)]) | exact rPst_f (by unfold rCoC; rw [h4, h11, if_pos (show (true && true) = true from rfl), hixs, hixt, if_pos (Or.inr h36)]) | exact rPst_f (by unfold rCoC; rw [h4, h11, if_pos (show (true && true) = true from rfl), hixs, hixt, if_neg (fun q => q.elim h27 h36), if_neg h58]) | exact rPst_f (by unfold rCoC; rw [h4, h11, if_pos (show (true && true) = true from rfl), hixs, hixt, if_neg (fun q => q.elim h27 h36), if_pos h58, h76]; rfl) | exact rPst_f (by unfold rCoC; rw [h4, h11, if_pos (show (true && true) = true from rfl), hixs, hixt, if_neg (fun q => q.elim h27 h36), if_pos h58, h76, h88]; rfl)
end REFG
