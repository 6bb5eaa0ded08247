/-! ===== the reference: writing, oaths, pacts, marks, views ===== -/
def rSwC (I : Nat → Nat → Int32) (p f : Int32) : Option Int32 := if rPer (I 41 0) p && rPer (I 41 1) f then (if kshr (I 46 (ix p)) f &&& nI 1 = nI 1 then some (-100004) else none) else some (-100001)
def rPaC (I : Nat → Nat → Int32) (s g : Int32) : Option Int32 := if rIn s (nI 0) (nI 5) && rIn g (nI 0) (nI 2) then (if rRt I s then (if I 41 5 = nI 4 then some (-100005) else none) else some (-100004)) else some (-100001)
def rMaC (I : Nat → Nat → Int32) : Option Int32 := if I 41 6 = nI 6 then some (-100005) else none
theorem tkco_re {α : Type} (f g : Nat → α) (b : Nat) {c i : Nat} (h : i < c) : va_up (tkco f g b c) (b + i) (g i) = tkco f g b c := tk_uid (by unfold tkco; rw [if_pos (by omega)]; congr 1; omega)
theorem tkcp_re {α : Type} (f g : Nat → α) {c i : Nat} (h : i < c) : va_up (tkcp f g c) i (g i) = tkcp f g c := tk_uid (by unfold tkcp; rw [if_pos h])
theorem tkco_14 {α : Type} (f g : Nat → α) (b k : Nat) : va_up (tkco f g b ((k + 13) / 14)) (b + k / 14) (g (k / 14)) = tkco f g b ((k + 1 + 13) / 14) := by
  by_cases h : k % 14 = 0
  · rw [show (k + 13) / 14 = k / 14 by omega, tkco_s, show (k + 1 + 13) / 14 = k / 14 + 1 by omega]
  · rw [tkco_re _ _ _ (by omega), show (k + 1 + 13) / 14 = (k + 13) / 14 by omega]
theorem tkcp_14 {α : Type} (f g : Nat → α) (k : Nat) : va_up (tkcp f g ((k + 13) / 14)) (k / 14) (g (k / 14)) = tkcp f g ((k + 1 + 13) / 14) := by
  by_cases h : k % 14 = 0
  · rw [show (k + 13) / 14 = k / 14 by omega, tkcp_s, show (k + 1 + 13) / 14 = k / 14 + 1 by omega]
  · rw [tkcp_re _ _ (by omega), show (k + 1 + 13) / 14 = (k + 13) / 14 by omega]
theorem rAS_s (f : Nat → Int32) (k i : Nat) : rAS f (k + 1) i = (rSign (f i) && rAS f k (i + 1)) := rfl
section REFH
variable {G : tkG} {n : Nat} {T : Nat → Nat × Nat} {I : Nat → Nat → Int32} {L : Nat → Nat → Int64} {P : Nat → Nat → Option Nat}
theorem r_as (hR : tkRef T P) (hl : rLs I) (s i kd : Int32) : tkM G mX11_as 2 0 0 [vR 40, vI s, vI i, vI kd] (n, T, I, L, P) (rPst n T I L P (rAsC I s i kd) (I 47 (14 * ix s + ix i)) I) := by
  have k92 : ∀ (s' i' : Nat) (b : Bool) (c : Int32), s' ≤ 5 → i' < 14 → c = tkb b → rAsC I (nI s') (nI i') kd = (if b then none else some (-100004)) → tkX G mX11_as 2 0 0 92 [some (vR 40), some (vI (nI s')), some (vI (nI i')), some (vI kd), some (vI (I 47 (14 * s' + i'))), none] [vI c] (n, T, I, L, P) (rPst n T I L P (rAsC I (nI s') (nI i') kd) (I 47 (14 * ix (nI s') + ix (nI i'))) I) := by
    intro s' i' b c h1 h2 hcb hc
    subst hcb
    rw [ix_nI (k := s') (by omega), ix_nI (k := i') (by omega)]
    refine tk_istore5 dX11_as_92 rfl ?_
    refine tk_iload5 dX11_as_94 ?_
    first | refine tk_jf_eqB dX11_as_96 (fun h96 => ?_) (fun h96 => ?_) | refine tk_if_eq dX11_as_96 (fun h96 => ?_) (fun h96 => ?_)
    · refine tk_aload0 dX11_as_104 ?_
      refine tk_ldc dX11_as_105 klX11_208 ?_
      refine tk_callV1z dX11_as_107 kX11_179 hR.o (r_finding hR _) (Nat.le_of_ble_eq_true rfl) (by omega) ?_
      refine tk_ireturn dX11_as_110 rfl ?_
      first | exact rPst_g (by rw [hc, h96]; rfl) rfl rfl | exact rPst_f (by rw [hc, h96]; rfl)
    · refine tk_iload4 dX11_as_99 ?_
      refine tk_goto dX11_as_101 ?_
      refine tk_ireturn dX11_as_110 rfl ?_
      first | exact rPst_g (by rw [hc, h96]; rfl) rfl rfl | exact rPst_f (by rw [hc, h96]; rfl)
  refine tkM.of (ls := [some _, some _, some _, some _, none, none]) (by decide +kernel) (by decide +kernel) (Nat.le_of_ble_eq_true rfl) rfl ?_
  refine tk_iload1 dX11_as_0 ?_
  refine tk_callS1z dX11_as_1 kX11_194 (r_isSentence _) (Nat.le_of_ble_eq_true rfl) (by omega) ?_
  first | refine tk_jf_eqB dX11_as_4 (fun h4 => ?_) (fun h4 => ?_) | refine tk_if_eq dX11_as_4 (fun h4 => ?_) (fun h4 => ?_)
  · refine tk_aload0 dX11_as_30 ?_
    refine tk_ldc dX11_as_31 klX11_183 ?_
    refine tk_callV1z dX11_as_33 kX11_179 hR.o (r_finding hR _) (Nat.le_of_ble_eq_true rfl) (by omega) ?_
    refine tk_ireturn dX11_as_36 rfl ?_
    first | exact rPst_f (by unfold rAsC; rw [h4]; rfl) | exact rPst_f (by unfold rAsC; rw [if_neg]; rw [hixs]; intro q; simp only [rPer, Bool.and_eq_true, decide_eq_true_eq] at q; first | exact Int32.not_le.mpr h8 q.2.1.1 | exact Int32.not_lt.mpr h18 q.2.1.2 | (rw [h27] at q; exact absurd q.2.2 (by decide)))
  · refine tk_iload2 dX11_as_7 ?_
    obtain ⟨s', hs1, rfl⟩ := rIn_of h4 (by omega)
    have hixs : ix (nI s') = s' := ix_nI (by omega)
    obtain ⟨l, hl1, hl2⟩ := hl s' (by omega)
    refine tk_jf_lt dX11_as_8 (fun h8 => ?_) (fun h8 => ?_)
    · refine tk_aload0 dX11_as_30 ?_
      refine tk_ldc dX11_as_31 klX11_183 ?_
      refine tk_callV1z dX11_as_33 kX11_179 hR.o (r_finding hR _) (Nat.le_of_ble_eq_true rfl) (by omega) ?_
      refine tk_ireturn dX11_as_36 rfl ?_
      first | exact rPst_f (by unfold rAsC; rw [h4]; rfl) | exact rPst_f (by unfold rAsC; rw [if_neg]; rw [hixs]; intro q; simp only [rPer, Bool.and_eq_true, decide_eq_true_eq] at q; first | exact Int32.not_le.mpr h8 q.2.1.1 | exact Int32.not_lt.mpr h18 q.2.1.2 | (rw [h27] at q; exact absurd q.2.2 (by decide)))
    · refine tk_iload2 dX11_as_11 ?_
      refine tk_aload0 dX11_as_12 ?_
      refine tk_getP dX11_as_13 fX11_31 rfl hR.o (hR.p 7 rfl) ?_
      refine tk_iload1 dX11_as_16 ?_
      refine tk_iald dX11_as_17 (hR.t 48 rfl) (by omega) (by omega) ?_
      first | refine tk_icmp_geN dX11_as_18 (by omega) (by omega) (fun h18 => ?_) (fun h18 => ?_) | refine tk_jcmp_ge dX11_as_18 (fun h18 => ?_) (fun h18 => ?_)
      · refine tk_aload0 dX11_as_30 ?_
        refine tk_ldc dX11_as_31 klX11_183 ?_
        refine tk_callV1z dX11_as_33 kX11_179 hR.o (r_finding hR _) (Nat.le_of_ble_eq_true rfl) (by omega) ?_
        refine tk_ireturn dX11_as_36 rfl ?_
        first | exact rPst_f (by unfold rAsC; rw [h4]; rfl) | exact rPst_f (by unfold rAsC; rw [if_neg]; rw [hixs]; intro q; simp only [rPer, Bool.and_eq_true, decide_eq_true_eq] at q; first | exact Int32.not_le.mpr h8 q.2.1.1 | exact Int32.not_lt.mpr h18 q.2.1.2 | (rw [h27] at q; exact absurd q.2.2 (by decide)))
      · refine tk_iload3 dX11_as_21 ?_
        refine tk_iconst dX11_as_22 kc_iconst_0 ?_
        refine tk_iconst dX11_as_23 kc_iconst_3 ?_
        refine tk_callS3z dX11_as_24 kX11_159 (r_isIn _ _ _) (Nat.le_of_ble_eq_true rfl) (by omega) ?_
        first | refine tk_jf_neB dX11_as_27 (fun h27 => ?_) (fun h27 => ?_) | refine tk_if_ne dX11_as_27 (fun h27 => ?_) (fun h27 => ?_)
        · refine tk_aload0 dX11_as_37 ?_
          have hpi : rPer (I 48 s') i = true := by simp only [rPer, Bool.and_eq_true, decide_eq_true_eq]; exact ⟨h8, h18⟩
          obtain ⟨i', hi1, rfl⟩ := rPe_of hpi hl2 (by omega)
          have hixi : ix (nI i') = i' := ix_nI (by omega)
          have hc : rAsC I (nI s') (nI i') kd = (if rIs (I 47 (14 * s' + i')) kd then none else some (-100004)) := by unfold rAsC; rw [hixs, hixi, if_pos (by rw [h4, hpi, h27]; rfl)]
          refine tk_getP dX11_as_38 fX11_28 rfl hR.o (hR.p 6 rfl) ?_
          refine tk_bipush dX11_as_41 kc_bipush_14 ?_
          refine tk_iload1 dX11_as_43 ?_
          first | refine tk_imulN dX11_as_44 ?_ | refine tk_imul dX11_as_44 ?_
          refine tk_iload2 dX11_as_45 ?_
          first | refine tk_iaddN dX11_as_46 ?_ | refine tk_iadd dX11_as_46 ?_
          refine tk_iald dX11_as_47 (hR.t 47 rfl) (by omega) (by omega) ?_
          refine tk_istore4 dX11_as_48 rfl ?_
          refine tk_iload3 dX11_as_50 ?_
          first | refine tk_jf_eqB dX11_as_51 (fun h51 => ?_) (fun h51 => ?_) | refine tk_if_eq dX11_as_51 (fun h51 => ?_) (fun h51 => ?_)
          · refine tk_iload3 dX11_as_59 ?_
            first | refine tk_jf_eqB dX11_as_60 (fun h60 => ?_) (fun h60 => ?_) | refine tk_if_eq dX11_as_60 (fun h60 => ?_) (fun h60 => ?_)
            · refine tk_iconst dX11_as_70 kc_iconst_1 ?_
              refine tk_goto dX11_as_71 ?_
              refine k92 s' i' (rIs (I 47 (14 * s' + i')) kd) _ (by omega) (by omega) ?_ hc
              unfold rIs
              first | (rw [if_pos (Or.inl h51), decide_eq_true h51]; rfl) | (rw [if_pos (Or.inr h56), decide_eq_true h60]; rfl) | (rw [if_pos (Or.inr h56), decide_eq_true h67, Bool.or_true]; rfl) | (rw [if_pos (Or.inr h56), decide_eq_false h60, decide_eq_false (Int32.not_le.mpr h67)]; rfl) | (rw [if_neg (fun q => q.elim h51 h56), decide_eq_true h84]; rfl) | (rw [if_neg (fun q => q.elim h51 h56), decide_eq_false h84]; rfl) | exact absurd h51 h60
            · refine tk_iload4 dX11_as_63 ?_
              refine tk_bipush dX11_as_65 kc_bipush_32 ?_
              first | refine tk_icmp_ltN dX11_as_67 (by omega) (by omega) (fun h67 => ?_) (fun h67 => ?_) | refine tk_jcmp_lt dX11_as_67 (fun h67 => ?_) (fun h67 => ?_)
              · refine tk_iconst dX11_as_74 kc_iconst_0 ?_
                refine tk_goto dX11_as_75 ?_
                refine k92 s' i' (rIs (I 47 (14 * s' + i')) kd) _ (by omega) (by omega) ?_ hc
                unfold rIs
                first | (rw [if_pos (Or.inl h51), decide_eq_true h51]; rfl) | (rw [if_pos (Or.inr h56), decide_eq_true h60]; rfl) | (rw [if_pos (Or.inr h56), decide_eq_true h67, Bool.or_true]; rfl) | (rw [if_pos (Or.inr h56), decide_eq_false h60, decide_eq_false (Int32.not_le.mpr h67)]; rfl) | (rw [if_neg (fun q => q.elim h51 h56), decide_eq_true h84]; rfl) | (rw [if_neg (fun q => q.elim h51 h56), decide_eq_false h84]; rfl) | exact absurd h51 h60
              · refine tk_iconst dX11_as_70 kc_iconst_1 ?_
                refine tk_goto dX11_as_71 ?_
                refine k92 s' i' (rIs (I 47 (14 * s' + i')) kd) _ (by omega) (by omega) ?_ hc
                unfold rIs
                first | (rw [if_pos (Or.inl h51), decide_eq_true h51]; rfl) | (rw [if_pos (Or.inr h56), decide_eq_true h60]; rfl) | (rw [if_pos (Or.inr h56), decide_eq_true h67, Bool.or_true]; rfl) | (rw [if_pos (Or.inr h56), decide_eq_false h60, decide_eq_false (Int32.not_le.mpr h67)]; rfl) | (rw [if_neg (fun q => q.elim h51 h56), decide_eq_true h84]; rfl) | (rw [if_neg (fun q => q.elim h51 h56), decide_eq_false h84]; rfl) | exact absurd h51 h60
          · refine tk_iload3 dX11_as_54 ?_
            refine tk_iconst dX11_as_55 kc_iconst_3 ?_
            first | refine tk_icmp_neN dX11_as_56 (by omega) (by omega) (fun h56 => ?_) (fun h56 => ?_) | refine tk_icmp_ne dX11_as_56 (fun h56 => ?_) (fun h56 => ?_)
            · refine tk_iload4 dX11_as_78 ?_
              refine tk_callS1z dX11_as_80 kX11_205 (r_takes _) (Nat.le_of_ble_eq_true rfl) (by omega) ?_
              refine tk_iload3 dX11_as_83 ?_
              first | refine tk_icmp_neN dX11_as_84 (by omega) (by omega) (fun h84 => ?_) (fun h84 => ?_) | refine tk_icmp_ne dX11_as_84 (fun h84 => ?_) (fun h84 => ?_)
              · refine tk_iconst dX11_as_91 kc_iconst_0 ?_
                refine k92 s' i' (rIs (I 47 (14 * s' + i')) kd) _ (by omega) (by omega) ?_ hc
                unfold rIs
                first | (rw [if_pos (Or.inl h51), decide_eq_true h51]; rfl) | (rw [if_pos (Or.inr h56), decide_eq_true h60]; rfl) | (rw [if_pos (Or.inr h56), decide_eq_true h67, Bool.or_true]; rfl) | (rw [if_pos (Or.inr h56), decide_eq_false h60, decide_eq_false (Int32.not_le.mpr h67)]; rfl) | (rw [if_neg (fun q => q.elim h51 h56), decide_eq_true h84]; rfl) | (rw [if_neg (fun q => q.elim h51 h56), decide_eq_false h84]; rfl) | exact absurd h51 h60
              · refine tk_iconst dX11_as_87 kc_iconst_1 ?_
                refine tk_goto dX11_as_88 ?_
                refine k92 s' i' (rIs (I 47 (14 * s' + i')) kd) _ (by omega) (by omega) ?_ hc
                unfold rIs
                first | (rw [if_pos (Or.inl h51), decide_eq_true h51]; rfl) | (rw [if_pos (Or.inr h56), decide_eq_true h60]; rfl) | (rw [if_pos (Or.inr h56), decide_eq_true h67, Bool.or_true]; rfl) | (rw [if_pos (Or.inr h56), decide_eq_false h60, decide_eq_false (Int32.not_le.mpr h67)]; rfl) | (rw [if_neg (fun q => q.elim h51 h56), decide_eq_true h84]; rfl) | (rw [if_neg (fun q => q.elim h51 h56), decide_eq_false h84]; rfl) | exact absurd h51 h60
            · refine tk_iload3 dX11_as_59 ?_
              first | refine tk_jf_eqB dX11_as_60 (fun h60 => ?_) (fun h60 => ?_) | refine tk_if_eq dX11_as_60 (fun h60 => ?_) (fun h60 => ?_)
              · refine tk_iconst dX11_as_70 kc_iconst_1 ?_
                refine tk_goto dX11_as_71 ?_
                refine k92 s' i' (rIs (I 47 (14 * s' + i')) kd) _ (by omega) (by omega) ?_ hc
                unfold rIs
                first | (rw [if_pos (Or.inl h51), decide_eq_true h51]; rfl) | (rw [if_pos (Or.inr h56), decide_eq_true h60]; rfl) | (rw [if_pos (Or.inr h56), decide_eq_true h67, Bool.or_true]; rfl) | (rw [if_pos (Or.inr h56), decide_eq_false h60, decide_eq_false (Int32.not_le.mpr h67)]; rfl) | (rw [if_neg (fun q => q.elim h51 h56), decide_eq_true h84]; rfl) | (rw [if_neg (fun q => q.elim h51 h56), decide_eq_false h84]; rfl) | exact absurd h51 h60
              · refine tk_iload4 dX11_as_63 ?_
                refine tk_bipush dX11_as_65 kc_bipush_32 ?_
                first | refine tk_icmp_ltN dX11_as_67 (by omega) (by omega) (fun h67 => ?_) (fun h67 => ?_) | refine tk_jcmp_lt dX11_as_67 (fun h67 => ?_) (fun h67 => ?_)
                · refine tk_iconst dX11_as_74 kc_iconst_0 ?_
                  refine tk_goto dX11_as_75 ?_
                  refine k92 s' i' (rIs (I 47 (14 * s' + i')) kd) _ (by omega) (by omega) ?_ hc
                  unfold rIs
                  first | (rw [if_pos (Or.inl h51), decide_eq_true h51]; rfl) | (rw [if_pos (Or.inr h56), decide_eq_true h60]; rfl) | (rw [if_pos (Or.inr h56), decide_eq_true h67, Bool.or_true]; rfl) | (rw [if_pos (Or.inr h56), decide_eq_false h60, decide_eq_false (Int32.not_le.mpr h67)]; rfl) | (rw [if_neg (fun q => q.elim h51 h56), decide_eq_true h84]; rfl) | (rw [if_neg (fun q => q.elim h51 h56), decide_eq_false h84]; rfl) | exact absurd h51 h60
                · refine tk_iconst dX11_as_70 kc_iconst_1 ?_
                  refine tk_goto dX11_as_71 ?_
                  refine k92 s' i' (rIs (I 47 (14 * s' + i')) kd) _ (by omega) (by omega) ?_ hc
                  unfold rIs
                  first | (rw [if_pos (Or.inl h51), decide_eq_true h51]; rfl) | (rw [if_pos (Or.inr h56), decide_eq_true h60]; rfl) | (rw [if_pos (Or.inr h56), decide_eq_true h67, Bool.or_true]; rfl) | (rw [if_pos (Or.inr h56), decide_eq_false h60, decide_eq_false (Int32.not_le.mpr h67)]; rfl) | (rw [if_neg (fun q => q.elim h51 h56), decide_eq_true h84]; rfl) | (rw [if_neg (fun q => q.elim h51 h56), decide_eq_false h84]; rfl) | exact absurd h51 h60
        · refine tk_aload0 dX11_as_30 ?_
          refine tk_ldc dX11_as_31 klX11_183 ?_
          refine tk_callV1z dX11_as_33 kX11_179 hR.o (r_finding hR _) (Nat.le_of_ble_eq_true rfl) (by omega) ?_
          refine tk_ireturn dX11_as_36 rfl ?_
          first | exact rPst_f (by unfold rAsC; rw [h4]; rfl) | exact rPst_f (by unfold rAsC; rw [if_neg]; rw [hixs]; intro q; simp only [rPer, Bool.and_eq_true, decide_eq_true_eq] at q; first | exact Int32.not_le.mpr h8 q.2.1.1 | exact Int32.not_lt.mpr h18 q.2.1.2 | (rw [h27] at q; exact absurd q.2.2 (by decide)))
theorem r_swear (hR : tkRef T P) {m np : Nat} (hm : m ≤ 12) (hk : I 40 20 = nI m) (hnp : I 41 0 = nI np) (hnp4 : np ≤ 4) (p f : Int32) : tkM G mX11_swear 3 0 0 [vR 40, vI p, vI f] (n, T, I, L, P) (rPst n T I L P (rSwC I p f) (rSum (I 46 (ix p) ||| kshl (nI 1) f) 4) (va_up (rKp I m) 46 (va_up (I 46) (ix p) (I 46 (ix p) ||| kshl (nI 1) f)))) := by
  refine tkM.of (ls := [some _, some _, some _, none, none]) (by decide +kernel) (by decide +kernel) (Nat.le_of_ble_eq_true rfl) rfl ?_
  refine tk_aload0 dX11_swear_0 ?_
  refine tk_iload1 dX11_swear_1 ?_
  refine tk_callV1z dX11_swear_2 kX11_187 hR.o (r_isPerson hR _) (Nat.le_of_ble_eq_true rfl) (by omega) ?_
  first | refine tk_jf_eqB dX11_swear_5 (fun h5 => ?_) (fun h5 => ?_) | refine tk_if_eq dX11_swear_5 (fun h5 => ?_) (fun h5 => ?_)
  · refine tk_aload0 dX11_swear_16 ?_
    refine tk_ldc dX11_swear_17 klX11_183 ?_
    refine tk_callV1z dX11_swear_19 kX11_179 hR.o (r_finding hR _) (Nat.le_of_ble_eq_true rfl) (by omega) ?_
    refine tk_ireturn dX11_swear_22 rfl ?_
    first | exact rPst_f (by unfold rSwC; rw [h5]; rfl) | exact rPst_f (by unfold rSwC; rw [h5, h13]; rfl) | exact rPst_f (by unfold rSwC; rw [h5, h13, if_pos (show (true && true) = true from rfl), hix, if_pos h34])
  · refine tk_aload0 dX11_swear_8 ?_
    refine tk_iload2 dX11_swear_9 ?_
    refine tk_callV1z dX11_swear_10 kX11_209 hR.o (r_isFact hR _) (Nat.le_of_ble_eq_true rfl) (by omega) ?_
    first | refine tk_jf_neB dX11_swear_13 (fun h13 => ?_) (fun h13 => ?_) | refine tk_if_ne dX11_swear_13 (fun h13 => ?_) (fun h13 => ?_)
    · refine tk_aload0 dX11_swear_23 ?_
      obtain ⟨p', hp1, rfl⟩ := rPe_of h5 hnp (by omega)
      have hix : ix (nI p') = p' := ix_nI (by omega)
      refine tk_getP dX11_swear_24 fX11_25 rfl hR.o (hR.p 5 rfl) ?_
      refine tk_iload1 dX11_swear_27 ?_
      refine tk_iald dX11_swear_28 (hR.t 46 rfl) (by omega) (by omega) ?_
      refine tk_iload2 dX11_swear_29 ?_
      refine tk_ishr dX11_swear_30 ?_
      refine tk_iconst dX11_swear_31 kc_iconst_1 ?_
      refine tk_iand dX11_swear_32 ?_
      refine tk_iconst dX11_swear_33 kc_iconst_1 ?_
      first | refine tk_icmp_neN dX11_swear_34 (by omega) (by omega) (fun h34 => ?_) (fun h34 => ?_) | refine tk_icmp_ne dX11_swear_34 (fun h34 => ?_) (fun h34 => ?_)
      · refine tk_aload0 dX11_swear_44 ?_
        refine tk_callV0y dX11_swear_45 kX11_184 hR.o (r_keep hR hm hk) (Nat.le_of_ble_eq_true rfl) (by omega) ?_
        refine tk_aload0 dX11_swear_48 ?_
        refine tk_getP dX11_swear_49 fX11_25 rfl hR.o (hR.p 5 rfl) ?_
        refine tk_iload1 dX11_swear_52 ?_
        first | refine tk_dup2 dX11_swear_53 rfl rfl ?_ | refine tk_dup2L dX11_swear_53 ?_
        refine tk_iald dX11_swear_54 (hR.t 46 rfl) (by omega) (by omega) ?_
        refine tk_iconst dX11_swear_55 kc_iconst_1 ?_
        refine tk_iload2 dX11_swear_56 ?_
        refine tk_ishl dX11_swear_57 ?_
        refine tk_ior dX11_swear_58 ?_
        refine tk_iast dX11_swear_59 (hR.t 46 rfl) (by omega) (by omega) ?_
        refine tk_iconst dX11_swear_60 kc_iconst_0 ?_
        refine tk_istore3 dX11_swear_61 rfl ?_
        refine tk_iconst dX11_swear_62 kc_iconst_0 ?_
        refine tk_istore4 dX11_swear_63 rfl ?_
        have hc : rSwC I (nI p') f = none := by unfold rSwC; rw [h5, h13, if_pos (show (true && true) = true from rfl), hix, if_neg h34]
        rw [hc, hix]
        refine tk_fr 0 4 (fun i => [some (vR 40), some (vI (nI p')), some (vI f), some (vI (rSum (I 46 p' ||| kshl (nI 1) f) i)), some (vI (nI i))]) (fun i => (n, T, va_up (rKp I m) 46 (va_up (I 46) p' (I 46 p' ||| kshl (nI 1) f)), L, P)) (by omega) (by repeat' (first | exact trivial | refine ⟨Or.inl rfl, ?_⟩ | refine ⟨Or.inr rfl, ?_⟩)) (by simp only [rKp_at, va_up_self, bx_uu, tk_une, tk_usrt, not_false_eq_true, Nat.reduceEqDiff, Nat.reduceLT, Nat.reduceAdd, Nat.reduceMul, Nat.reduceLeDiff, reduceCtorEq]) ?_ ?_
        · refine tk_iload4 dX11_swear_65 ?_
          refine tk_iconst dX11_swear_67 kc_iconst_4 ?_
          first | refine tk_icmp_geN dX11_swear_68 (by omega) (by omega) (fun h68 => ?_) (fun h68 => ?_) | refine tk_jcmp_ge dX11_swear_68 (fun h68 => ?_) (fun h68 => ?_)
          · refine tk_iload3 dX11_swear_91 ?_
            refine tk_ireturn dX11_swear_92 rfl ?_
            exact ⟨rfl, rfl⟩
          · exfalso; omega
        · intro i _ hi k
          refine tk_iload4 dX11_swear_65 ?_
          refine tk_iconst dX11_swear_67 kc_iconst_4 ?_
          first | refine tk_icmp_geN dX11_swear_68 (by omega) (by omega) (fun h68 => ?_) (fun h68 => ?_) | refine tk_jcmp_ge dX11_swear_68 (fun h68 => ?_) (fun h68 => ?_)
          · exfalso; omega
          · refine tk_iload3 dX11_swear_71 ?_
            refine tk_aload0 dX11_swear_72 ?_
            refine tk_getP dX11_swear_73 fX11_25 rfl hR.o (hR.p 5 rfl) ?_
            refine tk_iload1 dX11_swear_76 ?_
            refine tk_iald dX11_swear_77 (hR.t 46 rfl) (by omega) (by omega) ?_
            simp only [va_up_self, bx_uu, tk_une, tk_usrt, not_false_eq_true, Nat.reduceEqDiff, Nat.reduceLT, Nat.reduceAdd, Nat.reduceMul, Nat.reduceLeDiff, reduceCtorEq]
            refine tk_iload4 dX11_swear_78 ?_
            refine tk_ishr dX11_swear_80 ?_
            refine tk_iconst dX11_swear_81 kc_iconst_1 ?_
            refine tk_iand dX11_swear_82 ?_
            first | refine tk_iaddN dX11_swear_83 ?_ | refine tk_iadd dX11_swear_83 ?_
            refine tk_istore3 dX11_swear_84 rfl ?_
            first | refine tk_iinc4 dX11_swear_85 (kc_inc _) rfl ?_ | refine tk_iinc4 dX11_swear_85 rfl rfl ?_
            refine tk_goto dX11_swear_88 ?_
            exact k _ (by repeat' (first | exact trivial | refine ⟨Or.inl rfl, ?_⟩ | refine ⟨Or.inr rfl, ?_⟩))
      · refine tk_aload0 dX11_swear_37 ?_
        refine tk_ldc dX11_swear_38 klX11_208 ?_
        refine tk_callV1z dX11_swear_40 kX11_179 hR.o (r_finding hR _) (Nat.le_of_ble_eq_true rfl) (by omega) ?_
        refine tk_ireturn dX11_swear_43 rfl ?_
        first | exact rPst_f (by unfold rSwC; rw [h5]; rfl) | exact rPst_f (by unfold rSwC; rw [h5, h13]; rfl) | exact rPst_f (by unfold rSwC; rw [h5, h13, if_pos (show (true && true) = true from rfl), hix, if_pos h34])
    · refine tk_aload0 dX11_swear_16 ?_
      refine tk_ldc dX11_swear_17 klX11_183 ?_
      refine tk_callV1z dX11_swear_19 kX11_179 hR.o (r_finding hR _) (Nat.le_of_ble_eq_true rfl) (by omega) ?_
      refine tk_ireturn dX11_swear_22 rfl ?_
      first | exact rPst_f (by unfold rSwC; rw [h5]; rfl) | exact rPst_f (by unfold rSwC; rw [h5, h13]; rfl) | exact rPst_f (by unfold rSwC; rw [h5, h13, if_pos (show (true && true) = true from rfl), hix, if_pos h34])
theorem r_pact (hR : tkRef T P) {m kp : Nat} (hm : m ≤ 12) (hk : I 40 20 = nI m) (hl : rLs I) (hkk : I 41 5 = nI kp) (hkp : kp ≤ 4) (s g : Int32) : tkM G mX11_pact 3 0 0 [vR 40, vI s, vI g] (n, T, I, L, P) (rPst n T I L P (rPaC I s g) (nI kp) (va_up (va_up (va_up (va_up (rKp I m) 41 (va_up (I 41) 5 (nI kp + 1))) 51 (tkco (I 51) (fun i => I 47 (14 * ix s + i)) (14 * kp) (ix (I 48 (ix s))))) 52 (va_up (I 52) kp (I 48 (ix s)))) 53 (va_up (I 53) kp g))) := by
  refine tkM.of (ls := [some _, some _, some _, none, none]) (by decide +kernel) (by decide +kernel) (Nat.le_of_ble_eq_true rfl) rfl ?_
  refine tk_iload1 dX11_pact_0 ?_
  refine tk_callS1z dX11_pact_1 kX11_194 (r_isSentence _) (Nat.le_of_ble_eq_true rfl) (by omega) ?_
  first | refine tk_jf_eqB dX11_pact_4 (fun h4 => ?_) (fun h4 => ?_) | refine tk_if_eq dX11_pact_4 (fun h4 => ?_) (fun h4 => ?_)
  · refine tk_aload0 dX11_pact_14 ?_
    refine tk_ldc dX11_pact_15 klX11_183 ?_
    refine tk_callV1z dX11_pact_17 kX11_179 hR.o (r_finding hR _) (Nat.le_of_ble_eq_true rfl) (by omega) ?_
    refine tk_ireturn dX11_pact_20 rfl ?_
    first | exact rPst_f (by unfold rPaC; rw [h4]; rfl) | exact rPst_f (by unfold rPaC; rw [h4, h11]; rfl) | exact rPst_f (by unfold rPaC; rw [h4, h11, if_pos (show (true && true) = true from rfl), if_neg]; unfold rRt; rw [hixs, hl2, hil, h26]; decide) | exact rPst_f (by unfold rPaC; rw [h4, h11, if_pos (show (true && true) = true from rfl), if_pos (by unfold rRt; rw [hixs, hl2, hil]; exact h26), hkk, if_pos (by rw [h43])])
  · refine tk_iload2 dX11_pact_7 ?_
    refine tk_callS1z dX11_pact_8 kX11_191 (r_isGroup _) (Nat.le_of_ble_eq_true rfl) (by omega) ?_
    first | refine tk_jf_neB dX11_pact_11 (fun h11 => ?_) (fun h11 => ?_) | refine tk_if_ne dX11_pact_11 (fun h11 => ?_) (fun h11 => ?_)
    · refine tk_aload0 dX11_pact_21 ?_
      obtain ⟨s', hs1, rfl⟩ := rIn_of h4 (by omega)
      have hixs : ix (nI s') = s' := ix_nI (by omega)
      obtain ⟨l, hl1, hl2⟩ := hl s' (by omega)
      have hil : ix (nI l) = l := ix_nI (by omega)
      refine tk_iload1 dX11_pact_22 ?_
      refine tk_callV1z dX11_pact_23 kX11_291 hR.o (r_isRight hR (by omega) hl2 hl1) (Nat.le_of_ble_eq_true rfl) (by omega) ?_
      first | refine tk_jf_neB dX11_pact_26 (fun h26 => ?_) (fun h26 => ?_) | refine tk_if_ne dX11_pact_26 (fun h26 => ?_) (fun h26 => ?_)
      · refine tk_aload0 dX11_pact_36 ?_
        refine tk_getP dX11_pact_37 fX11_7 rfl hR.o (hR.p 0 rfl) ?_
        refine tk_iconst dX11_pact_40 kc_iconst_5 ?_
        refine tk_iald dX11_pact_41 (hR.t 41 rfl) (by omega) (by omega) ?_
        rw [hkk]
        refine tk_iconst dX11_pact_42 kc_iconst_4 ?_
        first | refine tk_icmp_neN dX11_pact_43 (by omega) (by omega) (fun h43 => ?_) (fun h43 => ?_) | refine tk_icmp_ne dX11_pact_43 (fun h43 => ?_) (fun h43 => ?_)
        · refine tk_aload0 dX11_pact_53 ?_
          have hrt : rRt I (nI s') = true := by unfold rRt; rw [hixs, hl2, hil]; exact h26
          have hc : rPaC I (nI s') g = none := by unfold rPaC; rw [h4, h11, if_pos (show (true && true) = true from rfl), hrt, if_pos rfl, hkk, if_neg (fun e => h43 ((nI_eq (by omega) (by omega)).mp e))]
          rw [hc, hixs, hl2, hil]
          refine tk_callV0y dX11_pact_54 kX11_184 hR.o (r_keep hR hm hk) (Nat.le_of_ble_eq_true rfl) (by omega) ?_
          refine tk_aload0 dX11_pact_57 ?_
          refine tk_getP dX11_pact_58 fX11_7 rfl hR.o (hR.p 0 rfl) ?_
          refine tk_iconst dX11_pact_61 kc_iconst_5 ?_
          refine tk_iald dX11_pact_62 (hR.t 41 rfl) (by omega) (by omega) ?_
          simp only [rKp_at, va_up_self, bx_uu, tk_une, tk_usrt, not_false_eq_true, Nat.reduceEqDiff, Nat.reduceLT, Nat.reduceAdd, Nat.reduceMul, Nat.reduceLeDiff, reduceCtorEq, hkk]
          refine tk_istore3 dX11_pact_63 rfl ?_
          refine tk_iconst dX11_pact_64 kc_iconst_0 ?_
          refine tk_istore4 dX11_pact_65 rfl ?_
          refine tk_fr 0 l (fun i => [some (vR 40), some (vI (nI s')), some (vI g), some (vI (nI kp)), some (vI (nI i))]) (fun i => (n, T, va_up (rKp I m) 51 (tkco (I 51) (fun i => I 47 (14 * s' + i)) (14 * kp) i), L, P)) (by omega) (by repeat' (first | exact trivial | refine ⟨Or.inl rfl, ?_⟩ | refine ⟨Or.inr rfl, ?_⟩)) (by rw [tkco_0, tk_uid]; simp only [rKp_at, va_up_self, bx_uu, tk_une, tk_usrt, not_false_eq_true, Nat.reduceEqDiff, Nat.reduceLT, Nat.reduceAdd, Nat.reduceMul, Nat.reduceLeDiff, reduceCtorEq]) ?_ ?_
          · refine tk_iload4 dX11_pact_67 ?_
            refine tk_aload0 dX11_pact_69 ?_
            refine tk_getP dX11_pact_70 fX11_31 rfl hR.o (hR.p 7 rfl) ?_
            refine tk_iload1 dX11_pact_73 ?_
            refine tk_iald dX11_pact_74 (hR.t 48 rfl) (by omega) (by omega) ?_
            simp only [rKp_at, va_up_self, bx_uu, tk_une, tk_usrt, not_false_eq_true, Nat.reduceEqDiff, Nat.reduceLT, Nat.reduceAdd, Nat.reduceMul, Nat.reduceLeDiff, reduceCtorEq, hl2]
            first | refine tk_icmp_geN dX11_pact_75 (by omega) (by omega) (fun h75 => ?_) (fun h75 => ?_) | refine tk_jcmp_ge dX11_pact_75 (fun h75 => ?_) (fun h75 => ?_)
            · refine tk_aload0 dX11_pact_108 ?_
              refine tk_getP dX11_pact_109 fX11_43 rfl hR.o (hR.p 11 rfl) ?_
              refine tk_iload3 dX11_pact_112 ?_
              refine tk_aload0 dX11_pact_113 ?_
              refine tk_getP dX11_pact_114 fX11_31 rfl hR.o (hR.p 7 rfl) ?_
              refine tk_iload1 dX11_pact_117 ?_
              refine tk_iald dX11_pact_118 (hR.t 48 rfl) (by omega) (by omega) ?_
              simp only [rKp_at, va_up_self, bx_uu, tk_une, tk_usrt, not_false_eq_true, Nat.reduceEqDiff, Nat.reduceLT, Nat.reduceAdd, Nat.reduceMul, Nat.reduceLeDiff, reduceCtorEq, hl2]
              refine tk_iast dX11_pact_119 (hR.t 52 rfl) (by omega) (by omega) ?_
              refine tk_aload0 dX11_pact_120 ?_
              refine tk_getP dX11_pact_121 fX11_46 rfl hR.o (hR.p 12 rfl) ?_
              refine tk_iload3 dX11_pact_124 ?_
              refine tk_iload2 dX11_pact_125 ?_
              refine tk_iast dX11_pact_126 (hR.t 53 rfl) (by omega) (by omega) ?_
              refine tk_aload0 dX11_pact_127 ?_
              refine tk_getP dX11_pact_128 fX11_7 rfl hR.o (hR.p 0 rfl) ?_
              refine tk_iconst dX11_pact_131 kc_iconst_5 ?_
              first | refine tk_dup2 dX11_pact_132 rfl rfl ?_ | refine tk_dup2L dX11_pact_132 ?_
              refine tk_iald dX11_pact_133 (hR.t 41 rfl) (by omega) (by omega) ?_
              refine tk_iconst dX11_pact_134 kc_iconst_1 ?_
              first | refine tk_iaddN dX11_pact_135 ?_ | refine tk_iadd dX11_pact_135 ?_
              refine tk_iast dX11_pact_136 (hR.t 41 rfl) (by omega) (by omega) ?_
              refine tk_iload3 dX11_pact_137 ?_
              refine tk_ireturn dX11_pact_138 rfl ?_
              simp only [rKp_at, va_up_self, bx_uu, tk_une, tk_usrt, not_false_eq_true, Nat.reduceEqDiff, Nat.reduceLT, Nat.reduceAdd, Nat.reduceMul, Nat.reduceLeDiff, reduceCtorEq, hl2, hkk]
              exact ⟨rfl, rfl⟩
            · exfalso; omega
          · intro i _ hi k
            refine tk_iload4 dX11_pact_67 ?_
            refine tk_aload0 dX11_pact_69 ?_
            refine tk_getP dX11_pact_70 fX11_31 rfl hR.o (hR.p 7 rfl) ?_
            refine tk_iload1 dX11_pact_73 ?_
            refine tk_iald dX11_pact_74 (hR.t 48 rfl) (by omega) (by omega) ?_
            simp only [rKp_at, va_up_self, bx_uu, tk_une, tk_usrt, not_false_eq_true, Nat.reduceEqDiff, Nat.reduceLT, Nat.reduceAdd, Nat.reduceMul, Nat.reduceLeDiff, reduceCtorEq, hl2]
            first | refine tk_icmp_geN dX11_pact_75 (by omega) (by omega) (fun h75 => ?_) (fun h75 => ?_) | refine tk_jcmp_ge dX11_pact_75 (fun h75 => ?_) (fun h75 => ?_)
            · exfalso; omega
            · refine tk_aload0 dX11_pact_78 ?_
              refine tk_getP dX11_pact_79 fX11_40 rfl hR.o (hR.p 10 rfl) ?_
              refine tk_bipush dX11_pact_82 kc_bipush_14 ?_
              refine tk_iload3 dX11_pact_84 ?_
              first | refine tk_imulN dX11_pact_85 ?_ | refine tk_imul dX11_pact_85 ?_
              refine tk_iload4 dX11_pact_86 ?_
              first | refine tk_iaddN dX11_pact_88 ?_ | refine tk_iadd dX11_pact_88 ?_
              refine tk_aload0 dX11_pact_89 ?_
              refine tk_getP dX11_pact_90 fX11_28 rfl hR.o (hR.p 6 rfl) ?_
              refine tk_bipush dX11_pact_93 kc_bipush_14 ?_
              refine tk_iload1 dX11_pact_95 ?_
              first | refine tk_imulN dX11_pact_96 ?_ | refine tk_imul dX11_pact_96 ?_
              refine tk_iload4 dX11_pact_97 ?_
              first | refine tk_iaddN dX11_pact_99 ?_ | refine tk_iadd dX11_pact_99 ?_
              refine tk_iald dX11_pact_100 (hR.t 47 rfl) (by omega) (by omega) ?_
              refine tk_iast dX11_pact_101 (hR.t 51 rfl) (by omega) (by omega) ?_
              first | refine tk_iinc4 dX11_pact_102 (kc_inc _) rfl ?_ | refine tk_iinc4 dX11_pact_102 rfl rfl ?_
              refine tk_goto dX11_pact_105 ?_
              simp only [rKp_at, va_up_self, bx_uu, tk_une, tk_usrt, not_false_eq_true, Nat.reduceEqDiff, Nat.reduceLT, Nat.reduceAdd, Nat.reduceMul, Nat.reduceLeDiff, reduceCtorEq]
              rw [tkco_s (I 51) (fun i => I 47 (14 * s' + i))]
              exact k _ (by repeat' (first | exact trivial | refine ⟨Or.inl rfl, ?_⟩ | refine ⟨Or.inr rfl, ?_⟩))
        · refine tk_aload0 dX11_pact_46 ?_
          refine tk_ldc dX11_pact_47 klX11_200 ?_
          refine tk_callV1z dX11_pact_49 kX11_179 hR.o (r_finding hR _) (Nat.le_of_ble_eq_true rfl) (by omega) ?_
          refine tk_ireturn dX11_pact_52 rfl ?_
          first | exact rPst_f (by unfold rPaC; rw [h4]; rfl) | exact rPst_f (by unfold rPaC; rw [h4, h11]; rfl) | exact rPst_f (by unfold rPaC; rw [h4, h11, if_pos (show (true && true) = true from rfl), if_neg]; unfold rRt; rw [hixs, hl2, hil, h26]; decide) | exact rPst_f (by unfold rPaC; rw [h4, h11, if_pos (show (true && true) = true from rfl), if_pos (by unfold rRt; rw [hixs, hl2, hil]; exact h26), hkk, if_pos (by rw [h43])])
      · refine tk_aload0 dX11_pact_29 ?_
        refine tk_ldc dX11_pact_30 klX11_208 ?_
        refine tk_callV1z dX11_pact_32 kX11_179 hR.o (r_finding hR _) (Nat.le_of_ble_eq_true rfl) (by omega) ?_
        refine tk_ireturn dX11_pact_35 rfl ?_
        first | exact rPst_f (by unfold rPaC; rw [h4]; rfl) | exact rPst_f (by unfold rPaC; rw [h4, h11]; rfl) | exact rPst_f (by unfold rPaC; rw [h4, h11, if_pos (show (true && true) = true from rfl), if_neg]; unfold rRt; rw [hixs, hl2, hil, h26]; decide) | exact rPst_f (by unfold rPaC; rw [h4, h11, if_pos (show (true && true) = true from rfl), if_pos (by unfold rRt; rw [hixs, hl2, hil]; exact h26), hkk, if_pos (by rw [h43])])
    · refine tk_aload0 dX11_pact_14 ?_
      refine tk_ldc dX11_pact_15 klX11_183 ?_
      refine tk_callV1z dX11_pact_17 kX11_179 hR.o (r_finding hR _) (Nat.le_of_ble_eq_true rfl) (by omega) ?_
      refine tk_ireturn dX11_pact_20 rfl ?_
      first | exact rPst_f (by unfold rPaC; rw [h4]; rfl) | exact rPst_f (by unfold rPaC; rw [h4, h11]; rfl) | exact rPst_f (by unfold rPaC; rw [h4, h11, if_pos (show (true && true) = true from rfl), if_neg]; unfold rRt; rw [hixs, hl2, hil, h26]; decide) | exact rPst_f (by unfold rPaC; rw [h4, h11, if_pos (show (true && true) = true from rfl), if_pos (by unfold rRt; rw [hixs, hl2, hil]; exact h26), hkk, if_pos (by rw [h43])])
end REFH
