/-! ===== the reference: known, clashed, binding, then, since ===== -/
def PH (I : Nat → Nat → Int32) (np nf pn : Nat) (pl pg : Nat → Nat) : Prop := I 41 5 = nI pn ∧ pn ≤ 4 ∧ ∀ k, k < pn → I 52 k = nI (pl k) ∧ 1 ≤ pl k ∧ pl k ≤ 14 ∧ WF np nf true (fun i => I 51 (14 * k + i)) 14 (pl k - 1) ∧ I 53 k = nI (pg k) ∧ pg k < 3
def MH (I : Nat → Nat → Int32) (np nf mn : Nat) (mW mr mc : Nat → Nat) (ml : Nat → Nat → Nat) : Prop := I 41 6 = nI mn ∧ mn ≤ 6 ∧ ∀ m, m < mn → I 54 (3 * m) = nI (mW m) ∧ 1 ≤ mW m ∧ mW m ≤ 64 ∧ I 54 (3 * m + 1) = nI (mr m) ∧ mr m < mW m ∧ I 54 (3 * m + 2) = nI (mc m) ∧ mc m ≤ 5 ∧ ∀ c, c < mc m → I 58 (5 * m + c) = nI (ml m c) ∧ 1 ≤ ml m c ∧ ml m c ≤ 14 ∧ WF np nf false (fun i => I 57 (70 * m + (14 * c + i))) 14 (ml m c - 1)
theorem rVM_67 (I : Nat → Nat → Int32) (m : Nat) : rVM I m 67 = tkcp (I 67) (fun k => I 57 (70 * m + k)) 70 := by simp only [rVM, rVw, va_up_self, bx_uu, tk_une, tk_usrt, not_false_eq_true, Nat.reduceEqDiff, Nat.reduceLT, Nat.reduceAdd, Nat.reduceMul, Nat.reduceLeDiff, reduceCtorEq]
theorem rVM_68 (I : Nat → Nat → Int32) (m : Nat) : rVM I m 68 = tkcp (I 68) (fun k => I 58 (5 * m + k)) 5 := by simp only [rVM, rVw, va_up_self, bx_uu, tk_une, tk_usrt, not_false_eq_true, Nat.reduceEqDiff, Nat.reduceLT, Nat.reduceAdd, Nat.reduceMul, Nat.reduceLeDiff, reduceCtorEq]
theorem MH.vh {I : Nat → Nat → Int32} {np nf mn : Nat} {mW mr mc : Nat → Nat} {ml : Nat → Nat → Nat} (h : MH I np nf mn mW mr mc ml) (hnp : I 41 0 = nI np) (hnp4 : np ≤ 4) {m : Nat} (hm : m < mn) : VH (rVM I m) np nf (mW m) (mc m) (ml m) := by
  obtain ⟨h1, h2, h3⟩ := h
  obtain ⟨g1, g2, g3, g4, g5, g6, g7, g8⟩ := h3 m hm
  refine ⟨by rw [rVM_at (by omega)]; exact hnp, hnp4, by rw [rVM_40]; simp only [va_up_self, bx_uu, tk_une, tk_usrt, not_false_eq_true, Nat.reduceEqDiff, Nat.reduceLT, Nat.reduceAdd, Nat.reduceMul, Nat.reduceLeDiff, reduceCtorEq]; exact g1, g3, by rw [rVM_40]; simp only [va_up_self, bx_uu, tk_une, tk_usrt, not_false_eq_true, Nat.reduceEqDiff, Nat.reduceLT, Nat.reduceAdd, Nat.reduceMul, Nat.reduceLeDiff, reduceCtorEq]; exact g6, g7, fun c hc => ?_⟩
  obtain ⟨k1, k2, k3, k4⟩ := g8 c hc
  refine ⟨by rw [rVM_68, tkcp_lt (by omega)]; exact k1, k2, k3, WF_congr 14 (ml m c - 1) (fun i hi => ?_) k4⟩
  show I 57 (70 * m + (14 * c + i)) = rVM I m 67 (14 * c + i)
  rw [rVM_67, tkcp_lt (by omega)]
def mwB (I : Nat → Nat → Int32) (L : Nat → Nat → Int64) (np W m : Nat) : Nat → Int64 := rTB (L 66) (rVM I m 65) W np 0
def soM (I : Nat → Nat → Int32) (L : Nat → Nat → Int64) (np W cn : Nat) (cl : Nat → Nat) (m s : Nat) : Int64 := SOV np W cn (rVM I m 64) (mwB I L np W m) (rVM I m 69) (rVM I m 67) cl (fun i => I 47 (14 * s + i)) (ix (I 48 s)) (evr W)
def rKnC (I : Nat → Nat → Int32) (p : Int32) : Option Int32 := if rPer (I 41 0) p then none else some (-100001)
def rKf (I : Nat → Nat → Int32) (L : Nat → Nat → Int64) (np W r p : Nat) (wh : Bool) (f : Nat) : Bool := if wh then rKw (vwB I L np W) W p r (rSF (rVT I 64) W f) else rKn (vwB I L np W) p r (rSF (rVT I 64) W f) (evr W)
def rKb (I : Nat → Nat → Int32) (L : Nat → Nat → Int64) (np W r p : Nat) (wh : Bool) : Nat → Int32
  | 0 => nI 0
  | f + 1 => rKb I L np W r p wh f ||| (if rKf I L np W r p wh f then kshl (nI 1) (nI f) else nI 0)
def rBi (c : Nat → Bool) : Nat → Int32
  | 0 => nI 0
  | k + 1 => rBi c k ||| (if c k then kshl (nI 1) (nI k) else nI 0)
def paT (I : Nat → Nat → Int32) (L : Nat → Nat → Int64) (np W r cn : Nat) (cl pl pg : Nat → Nat) (k : Nat) : Bool := decide (rCl (vwB I L np W) (evr W) (rVT I 69 (pg k)) W np 64 (jshl 1 (nI r)) &&& (SOV np W cn (rVT I 64) (vwB I L np W) (rVT I 69) (rVT I 67) cl (fun i => I 51 (14 * k + i)) (pl k) (evr W) ^^^ (-1)) = 0)
theorem jshl1_ne {w : Nat} (hw : w < 64) : ¬ jshl 1 (nI w) = 0 := fun e => by
  have := tb_b (k := w) (i := w) hw hw
  rw [e, tb_0] at this
  simp at this
section REFP
variable {G : tkG} {n : Nat} {T : Nat → Nat × Nat} {I : Nat → Nat → Int32} {L : Nat → Nat → Int64} {P : Nat → Nat → Option Nat}
theorem r_known (hR : tkRef T P) {np nf W r cn : Nat} {cl : Nat → Nat} (hT : TH I np nf W r cn cl) (p : Int32) (wh : Bool) : tkM G mX11_known 2 0 0 [vR 40, vI p, vI (tkb wh)] (n, T, I, L, P) (rPm n T P L I (rKnC I p) (rKb I L np W r (ix p) wh nf) I) := by
  have hT' := hT
  obtain ⟨t1, t2, t3, t4, t5, t6, t7, t8, t9, t10, t11, t12, t13, t14, t15⟩ := hT'
  have hvw : rVT I 40 26 = nI W := hT.vh.2.2.1
  have hvr : rVT I 40 27 = nI r := by rw [rVT_40]; simp only [va_up_self, bx_uu, tk_une, tk_usrt, not_false_eq_true, Nat.reduceEqDiff, Nat.reduceLT, Nat.reduceAdd, Nat.reduceMul, Nat.reduceLeDiff, reduceCtorEq]; exact t10
  refine tkM.of (ls := [some _, some _, some _, none, none, none]) (by decide +kernel) (by decide +kernel) (Nat.le_of_ble_eq_true rfl) rfl ?_
  refine tk_aload0 dX11_known_0 ?_
  refine tk_iload1 dX11_known_1 ?_
  refine tk_callV1z dX11_known_2 kX11_187 hR.o (r_isPerson hR _) (Nat.le_of_ble_eq_true rfl) (by omega) ?_
  first | refine tk_jf_neB dX11_known_5 (fun h5 => ?_) (fun h5 => ?_) | refine tk_if_ne dX11_known_5 (fun h5 => ?_) (fun h5 => ?_)
  · refine tk_aload0 dX11_known_15 ?_
    obtain ⟨p', hp1, rfl⟩ := rPe_of h5 t1 (by omega)
    rw [ix_nI (k := p') (by omega), show rKnC I (nI p') = none from if_pos h5]
    refine tk_callV0y dX11_known_16 kX11_275 hR.o (r_viewTown hR t1 t3 t7 t9) (Nat.le_of_ble_eq_true rfl) (by omega) ?_
    refine tk_iconst dX11_known_19 kc_iconst_0 ?_
    refine tk_istore3 dX11_known_20 rfl ?_
    refine tk_iconst dX11_known_21 kc_iconst_0 ?_
    refine tk_istore4 dX11_known_22 rfl ?_
    show tkX G mX11_known 2 0 0 24 _ _ _ (rPt n T P L (rKb I L np W r p' wh nf) I)
    refine tk_fr 0 nf (fun f => [some (vR 40), some (vI (nI p')), some (vI (tkb wh)), some (vI (rKb I L np W r p' wh f)), some (vI (nI f)), none]) (fun f => (n, T, rVT I, va_up L 66 (vwB I L np W), P)) (by omega) (by repeat' (first | exact trivial | refine ⟨Or.inl rfl, ?_⟩ | refine ⟨Or.inr rfl, ?_⟩)) rfl ?_ ?_
    · refine tk_iload4 dX11_known_24 ?_
      refine tk_aload0 dX11_known_26 ?_
      refine tk_getP dX11_known_27 fX11_7 rfl hR.o (hR.p 0 rfl) ?_
      refine tk_iconst dX11_known_30 kc_iconst_1 ?_
      refine tk_iald dX11_known_31 (hR.t 41 rfl) (by omega) (by omega) ?_
      rw [rVT_at (by omega), t4]
      first | refine tk_icmp_geN dX11_known_32 (by omega) (by omega) (fun h32 => ?_) (fun h32 => ?_) | refine tk_jcmp_ge dX11_known_32 (fun h32 => ?_) (fun h32 => ?_)
      · refine tk_iload3 dX11_known_100 ?_
        refine tk_ireturn dX11_known_101 rfl ?_
        exact rPt_i rfl (rSm_VT I) (rLm.up (by omega))
      · exfalso; omega
    · intro f _ hf kk
      have k76 : ∀ (b : Bool), rKf I L np W r p' wh f = b → tkX G mX11_known 2 0 0 76 [some (vR 40), some (vI (nI p')), some (vI (tkb wh)), some (vI (rKb I L np W r p' wh f)), some (vI (nI f)), none] [vI (tkb b)] (n, T, rVT I, va_up L 66 (vwB I L np W), P) (rPt n T P L (rKb I L np W r p' wh nf) I) := by
        intro b hb
        refine tk_istore5 dX11_known_76 rfl ?_
        refine tk_iload3 dX11_known_78 ?_
        refine tk_iload5 dX11_known_79 ?_
        first | refine tk_jf_eqB dX11_known_81 (fun h81 => ?_) (fun h81 => ?_) | refine tk_if_eq dX11_known_81 (fun h81 => ?_) (fun h81 => ?_)
        · refine tk_iconst dX11_known_91 kc_iconst_0 ?_
          refine tk_ior dX11_known_92 ?_
          refine tk_istore3 dX11_known_93 rfl ?_
          first | refine tk_iinc4 dX11_known_94 (kc_inc _) rfl ?_ | refine tk_iinc4 dX11_known_94 rfl rfl ?_
          refine tk_goto dX11_known_97 ?_
          refine kk _ ?_
          first | rw [show rKb I L np W r p' wh (f + 1) = rKb I L np W r p' wh f ||| kshl (nI 1) (nI f) from congrArg _ (if_pos (hb.trans h81))] | rw [show rKb I L np W r p' wh (f + 1) = rKb I L np W r p' wh f ||| nI 0 from congrArg _ (if_neg (by rw [hb, h81]; decide))]
          exact (by repeat' (first | exact trivial | refine ⟨Or.inl rfl, ?_⟩ | refine ⟨Or.inr rfl, ?_⟩))
        · refine tk_iconst dX11_known_84 kc_iconst_1 ?_
          refine tk_iload4 dX11_known_85 ?_
          refine tk_ishl dX11_known_87 ?_
          refine tk_goto dX11_known_88 ?_
          refine tk_ior dX11_known_92 ?_
          refine tk_istore3 dX11_known_93 rfl ?_
          first | refine tk_iinc4 dX11_known_94 (kc_inc _) rfl ?_ | refine tk_iinc4 dX11_known_94 rfl rfl ?_
          refine tk_goto dX11_known_97 ?_
          refine kk _ ?_
          first | rw [show rKb I L np W r p' wh (f + 1) = rKb I L np W r p' wh f ||| kshl (nI 1) (nI f) from congrArg _ (if_pos (hb.trans h81))] | rw [show rKb I L np W r p' wh (f + 1) = rKb I L np W r p' wh f ||| nI 0 from congrArg _ (if_neg (by rw [hb, h81]; decide))]
          exact (by repeat' (first | exact trivial | refine ⟨Or.inl rfl, ?_⟩ | refine ⟨Or.inr rfl, ?_⟩))
      refine tk_iload4 dX11_known_24 ?_
      refine tk_aload0 dX11_known_26 ?_
      refine tk_getP dX11_known_27 fX11_7 rfl hR.o (hR.p 0 rfl) ?_
      refine tk_iconst dX11_known_30 kc_iconst_1 ?_
      refine tk_iald dX11_known_31 (hR.t 41 rfl) (by omega) (by omega) ?_
      rw [rVT_at (by omega), t4]
      first | refine tk_icmp_geN dX11_known_32 (by omega) (by omega) (fun h32 => ?_) (fun h32 => ?_) | refine tk_jcmp_ge dX11_known_32 (fun h32 => ?_) (fun h32 => ?_)
      · exfalso; omega
      · refine tk_iload2 dX11_known_35 ?_
        first | refine tk_jf_eqB dX11_known_36 (fun h36 => ?_) (fun h36 => ?_) | refine tk_if_eq dX11_known_36 (fun h36 => ?_) (fun h36 => ?_)
        · refine tk_aload0 dX11_known_57 ?_
          refine tk_iload1 dX11_known_58 ?_
          refine tk_aload0 dX11_known_59 ?_
          refine tk_getI dX11_known_60 fX11_220 rfl hR.o ?_
          rw [hvr]
          refine tk_aload0 dX11_known_63 ?_
          refine tk_iload4 dX11_known_64 ?_
          refine tk_callV1z dX11_known_66 kX11_326 hR.o (r_soFact hR hvw t9) (Nat.le_of_ble_eq_true rfl) (by omega) ?_
          refine tk_aload0 dX11_known_69 ?_
          refine tk_callV0z dX11_known_70 kX11_252 hR.o (r_every hR hvw t9) (Nat.le_of_ble_eq_true rfl) (by omega) ?_
          refine tk_callV4z dX11_known_73 kX11_241 hR.o (r_knows hR (by omega) (by omega) _ _) (Nat.le_of_ble_eq_true rfl) (by omega) ?_
          simp only [va_up_self]
          exact k76 _ (by unfold rKf; rw [h36]; rfl)
        · refine tk_aload0 dX11_known_39 ?_
          refine tk_iload1 dX11_known_40 ?_
          refine tk_aload0 dX11_known_41 ?_
          refine tk_getI dX11_known_42 fX11_220 rfl hR.o ?_
          rw [hvr]
          refine tk_aload0 dX11_known_45 ?_
          refine tk_iload4 dX11_known_46 ?_
          refine tk_callV1z dX11_known_48 kX11_326 hR.o (r_soFact hR hvw t9) (Nat.le_of_ble_eq_true rfl) (by omega) ?_
          refine tk_callV3z dX11_known_51 kX11_303 hR.o (r_knowsWhether hR hvw t9 (by omega) (by omega) _) (Nat.le_of_ble_eq_true rfl) (by omega) ?_
          refine tk_goto dX11_known_54 ?_
          simp only [va_up_self]
          exact k76 _ (by unfold rKf; rw [h36]; rfl)
  · refine tk_aload0 dX11_known_8 ?_
    refine tk_ldc dX11_known_9 klX11_183 ?_
    refine tk_callV1z dX11_known_11 kX11_179 hR.o (r_finding hR _) (Nat.le_of_ble_eq_true rfl) (by omega) ?_
    refine tk_ireturn dX11_known_14 rfl ?_
    exact rPm_f (by unfold rKnC; rw [h5]; rfl) rSm.rf rLm.rf
def rClC (I : Nat → Nat → Int32) (c p : Int32) : Option Int32 := if rPer (I 41 4) c && rPer (I 41 0) p then none else some (-100001)
def rClV (I : Nat → Nat → Int32) (L : Nat → Nat → Int64) (np W r cn : Nat) (cl : Nat → Nat) (c p : Nat) : Bool := decide (rRe (fun c => CV np W cn (rVT I 64) (vwB I L np W) (rVT I 69) (rVT I 67) cl c (evr W)) (c + 1) cn (vwB I L np W (64 * p + r) &&& evr W) &&& CV np W cn (rVT I 64) (vwB I L np W) (rVT I 69) (rVT I 67) cl c (evr W) = 0)
theorem r_clashed (hR : tkRef T P) {np nf W r cn : Nat} {cl : Nat → Nat} (hT : TH I np nf W r cn cl) (c p : Int32) : tkM G mX11_clashed 18 0 0 [vR 40, vI c, vI p] (n, T, I, L, P) (rPm n T P L I (rClC I c p) (tkb (rClV I L np W r cn cl (ix c) (ix p))) I) := by
  have hT' := hT
  obtain ⟨t1, t2, t3, t4, t5, t6, t7, t8, t9, t10, t11, t12, t13, t14, t15⟩ := hT'
  have hv := hT.vh
  have hvw : rVT I 40 26 = nI W := hv.2.2.1
  have hvr : rVT I 40 27 = nI r := by rw [rVT_40]; simp only [va_up_self, bx_uu, tk_une, tk_usrt, not_false_eq_true, Nat.reduceEqDiff, Nat.reduceLT, Nat.reduceAdd, Nat.reduceMul, Nat.reduceLeDiff, reduceCtorEq]; exact t10
  refine tkM.of (ls := [some _, some _, some _, none, none]) (by decide +kernel) (by decide +kernel) (Nat.le_of_ble_eq_true rfl) rfl ?_
  refine tk_iload1 dX11_clashed_0 ?_
  refine tk_jf_lt dX11_clashed_1 (fun h1 => ?_) (fun h1 => ?_)
  · refine tk_aload0 dX11_clashed_22 ?_
    refine tk_ldc dX11_clashed_23 klX11_183 ?_
    refine tk_callV1z dX11_clashed_25 kX11_179 hR.o (r_finding hR _) (Nat.le_of_ble_eq_true rfl) (by omega) ?_
    refine tk_ireturn dX11_clashed_28 rfl ?_
    refine rPm_f (if_neg ?_) rSm.rf rLm.rf
    intro q
    simp only [Bool.and_eq_true] at q
    have q1 := q.1
    simp only [rPer, Bool.and_eq_true, decide_eq_true_eq] at q1
    first | exact Int32.not_le.mpr h1 q1.1 | exact Int32.not_lt.mpr h11 q1.2 | (rw [h19] at q; exact absurd q.2 (by decide))
  · refine tk_iload1 dX11_clashed_4 ?_
    refine tk_aload0 dX11_clashed_5 ?_
    refine tk_getP dX11_clashed_6 fX11_7 rfl hR.o (hR.p 0 rfl) ?_
    refine tk_iconst dX11_clashed_9 kc_iconst_4 ?_
    refine tk_iald dX11_clashed_10 (hR.t 41 rfl) (by omega) (by omega) ?_
    first | refine tk_icmp_geN dX11_clashed_11 (by omega) (by omega) (fun h11 => ?_) (fun h11 => ?_) | refine tk_jcmp_ge dX11_clashed_11 (fun h11 => ?_) (fun h11 => ?_)
    · refine tk_aload0 dX11_clashed_22 ?_
      refine tk_ldc dX11_clashed_23 klX11_183 ?_
      refine tk_callV1z dX11_clashed_25 kX11_179 hR.o (r_finding hR _) (Nat.le_of_ble_eq_true rfl) (by omega) ?_
      refine tk_ireturn dX11_clashed_28 rfl ?_
      refine rPm_f (if_neg ?_) rSm.rf rLm.rf
      intro q
      simp only [Bool.and_eq_true] at q
      have q1 := q.1
      simp only [rPer, Bool.and_eq_true, decide_eq_true_eq] at q1
      first | exact Int32.not_le.mpr h1 q1.1 | exact Int32.not_lt.mpr h11 q1.2 | (rw [h19] at q; exact absurd q.2 (by decide))
    · refine tk_aload0 dX11_clashed_14 ?_
      refine tk_iload2 dX11_clashed_15 ?_
      refine tk_callV1z dX11_clashed_16 kX11_187 hR.o (r_isPerson hR _) (Nat.le_of_ble_eq_true rfl) (by omega) ?_
      first | refine tk_jf_neB dX11_clashed_19 (fun h19 => ?_) (fun h19 => ?_) | refine tk_if_ne dX11_clashed_19 (fun h19 => ?_) (fun h19 => ?_)
      · refine tk_aload0 dX11_clashed_29 ?_
        have hc0 : rPer (I 41 4) c = true := by simp only [rPer, Bool.and_eq_true, decide_eq_true_eq]; exact ⟨h1, h11⟩
        obtain ⟨c', hc1, rfl⟩ := rPe_of hc0 t12 (by omega)
        obtain ⟨p', hp1, rfl⟩ := rPe_of h19 t1 (by omega)
        rw [ix_nI (k := p') (by omega), ix_nI (k := c') (by omega), show rClC I (nI c') (nI p') = none from if_pos (by rw [hc0, h19]; rfl)]
        obtain ⟨g1, g2, g3, g4⟩ := hv.2.2.2.2.2.2 c' hc1
        refine tk_callV0y dX11_clashed_30 kX11_275 hR.o (r_viewTown hR t1 t3 t7 t9) (Nat.le_of_ble_eq_true rfl) (by omega) ?_
        refine tk_aload0 dX11_clashed_33 ?_
        refine tk_iload2 dX11_clashed_34 ?_
        refine tk_aload0 dX11_clashed_35 ?_
        refine tk_getI dX11_clashed_36 fX11_220 rfl hR.o ?_
        rw [hvr]
        refine tk_aload0 dX11_clashed_39 ?_
        refine tk_callV0z dX11_clashed_40 kX11_252 hR.o (r_every hR hvw t9) (Nat.le_of_ble_eq_true rfl) (by omega) ?_
        refine tk_iload1 dX11_clashed_43 ?_
        refine tk_iconst dX11_clashed_44 kc_iconst_1 ?_
        first | refine tk_iaddN dX11_clashed_45 ?_ | refine tk_iadd dX11_clashed_45 ?_
        refine tk_callV4z dX11_clashed_46 kX11_244 hR.o (r_rem hR hv (by omega) (by omega) (by omega) _) (Nat.le_of_ble_eq_true rfl) (by omega) ?_
        refine tk_lstore3 dX11_clashed_49 rfl ?_
        refine tk_lload3 dX11_clashed_50 ?_
        refine tk_aload0 dX11_clashed_51 ?_
        refine tk_aload0 dX11_clashed_52 ?_
        refine tk_getP dX11_clashed_53 fX11_90 rfl hR.o (hR.p 32 rfl) ?_
        refine tk_bipush dX11_clashed_56 kc_bipush_14 ?_
        refine tk_iload1 dX11_clashed_58 ?_
        first | refine tk_imulN dX11_clashed_59 ?_ | refine tk_imul dX11_clashed_59 ?_
        refine tk_aload0 dX11_clashed_60 ?_
        refine tk_getP dX11_clashed_61 fX11_93 rfl hR.o (hR.p 33 rfl) ?_
        refine tk_iload1 dX11_clashed_64 ?_
        refine tk_iald dX11_clashed_65 (hR.t 68 rfl) (by omega) (by omega) ?_
        rw [g1]
        first | refine tk_iaddN dX11_clashed_66 ?_ | refine tk_iadd dX11_clashed_66 ?_
        refine tk_iconst dX11_clashed_67 kc_iconst_1 ?_
        first | refine tk_isubN dX11_clashed_68 (by omega) ?_ | refine tk_isub dX11_clashed_68 ?_
        rw [show 14 * c' + cl c' - 1 = 14 * c' + (cl c' - 1) by omega]
        refine tk_aload0 dX11_clashed_69 ?_
        refine tk_callV0z dX11_clashed_70 kX11_252 hR.o (r_every hR hvw t9) (Nat.le_of_ble_eq_true rfl) (by omega) ?_
        refine tk_callV3z dX11_clashed_73 kX11_233 hR.o (r_so0 hR hv c' hc1 _) (Nat.le_of_ble_eq_true rfl) (by omega) ?_
        refine tk_land dX11_clashed_76 ?_
        refine tk_lconst dX11_clashed_77 (v := 0) (by decide) ?_
        refine tk_lcmp dX11_clashed_78 ?_
        first | refine tk_jf_neB dX11_clashed_79 (fun h79 => ?_) (fun h79 => ?_) | refine tk_if_ne dX11_clashed_79 (fun h79 => ?_) (fun h79 => ?_)
        · refine tk_iconst dX11_clashed_86 kc_iconst_0 ?_
          refine tk_ireturn dX11_clashed_87 rfl ?_
          refine rPt_i ?_ (rSm_VT I) (rLm.up (by omega))
          unfold rClV
          simp only [va_up_self] at h79
          first | (rw [lgc0] at h79; rw [show (vwB I L np W) = rTB (L 66) (rVT I 65) W np 0 from rfl]; first | (rw [decide_eq_true h79]; rfl) | (rw [decide_eq_false h79]; rfl))
        · refine tk_iconst dX11_clashed_82 kc_iconst_1 ?_
          refine tk_goto dX11_clashed_83 ?_
          refine tk_ireturn dX11_clashed_87 rfl ?_
          refine rPt_i ?_ (rSm_VT I) (rLm.up (by omega))
          unfold rClV
          simp only [va_up_self] at h79
          first | (rw [lgc0] at h79; rw [show (vwB I L np W) = rTB (L 66) (rVT I 65) W np 0 from rfl]; first | (rw [decide_eq_true h79]; rfl) | (rw [decide_eq_false h79]; rfl))
      · refine tk_aload0 dX11_clashed_22 ?_
        refine tk_ldc dX11_clashed_23 klX11_183 ?_
        refine tk_callV1z dX11_clashed_25 kX11_179 hR.o (r_finding hR _) (Nat.le_of_ble_eq_true rfl) (by omega) ?_
        refine tk_ireturn dX11_clashed_28 rfl ?_
        refine rPm_f (if_neg ?_) rSm.rf rLm.rf
        intro q
        simp only [Bool.and_eq_true] at q
        have q1 := q.1
        simp only [rPer, Bool.and_eq_true, decide_eq_true_eq] at q1
        first | exact Int32.not_le.mpr h1 q1.1 | exact Int32.not_lt.mpr h11 q1.2 | (rw [h19] at q; exact absurd q.2 (by decide))
end REFP
