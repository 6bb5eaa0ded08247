/-! ===== the reference: lessons, lesson, and how it begins ===== -/
def LSO (A : Nat → Prop) (o : Option Nat) : Prop := match o with
  | some k => k ≤ 2 ∧ A k ∧ ∀ j, j < k → ¬ A j
  | none => ∀ j, j ≤ 2 → ¬ A j
def tGs (I : Nat → Nat → Int32) (np r cn : Nat) (cl : Nat → Nat) (s : Nat) : (Nat → Prop) → (Nat → Nat → Nat → Prop) → Prop := fun S tie => sSO np cn (faF (I 42)) tie (memG (I 45)) (I 49) cl (fun i => I 47 (14 * s + i)) (ix (I 48 s)) S r
def tA (I : Nat → Nat → Int32) (np nf W r cn : Nat) (cl : Nat → Nat) (s k : Nat) : Prop := LOK np nf (I 44) (faF (I 42)) r (tGs I np r cn cl s) k (fun w => w < W) (tieB (pB (I 43) W))
def tLs (I : Nat → Nat → Int32) (np nf W r cn : Nat) (cl : Nat → Nat) (s k : Nat) (f : Nat → Nat) : Prop := LSR np nf (I 44) (faF (I 42)) r (tGs I np r cn cl s) k (fun w => w < W) (tieB (pB (I 43) W)) f
def LSQ (n : Nat) (T : Nat → Nat × Nat) (P : Nat → Nat → Option Nat) (I : Nat → Nat → Int32) (L : Nat → Nat → Int64) (A : Nat → Prop) (B : Nat → (Nat → Nat) → Prop) : Option tkV → tkH → Prop := fun rv h => ∃ (o : Option Nat) (I' : Nat → Nat → Int32) (L' : Nat → Nat → Int64), rv = some (vI (telV o)) ∧ h = (n, T, I', L', P) ∧ rSm I' I ∧ rLm L L' ∧ LSO A o ∧ ∀ k, o = some k → ∃ f, B k f ∧ ∀ j, j < k → I' 85 j = nI (f j)
theorem ISO_id {S : Nat → Prop} : ISO (fun i => i) S S := ⟨fun _ h => h, fun w h => ⟨w, h, rfl⟩, fun _ _ _ _ h => h⟩
theorem tGs_view {I J : Nat → Nat → Int32} {np nf W r cn : Nat} {cl : Nat → Nat} (hT : TH I np nf W r cn cl) {s l : Nat} (hl : I 48 s = nI l) (hl2 : l ≤ 14) (hw : WF np nf true (fun i => I 47 (14 * s + i)) 14 (l - 1)) (h9 : ∀ g, g < 3 → J 69 g = I 45 g) (h7 : ∀ k, k < 70 → J 67 k = I 49 k) (S : Nat → Prop) (tie : Nat → Nat → Nat → Prop) : tGs I np r cn cl s S tie ↔ sSO np cn (faF (I 42)) tie (memG (J 69)) (J 67) cl (fun i => I 47 (14 * s + i)) l S r := by
  unfold tGs
  rw [hl, ix_nI (by omega)]
  by_cases hr : S r
  · refine (sSO_iso (e := fun i => i) (cs := I 49) (mem := memG (I 45)) (fa := faF (I 42)) (tie := tie) (S := S) (row := fun i => I 47 (14 * s + i)) (fun g hg p _ => ?_) ISO_id (fun _ _ _ _ => Iff.rfl) (fun _ _ _ _ _ _ => Iff.rfl) (fun c hc => ⟨fun i hi => ?_, (hT.2.2.2.2.2.2.2.2.2.2.2.2.2.1 c hc).2.2.2⟩) (fun _ _ => rfl) hw r hr).symm
    · unfold memG; rw [h9 g hg]
    · have := hT.2.2.2.2.2.2.2.2.2.2.2.2.2.1 c hc
      have h5 := hT.2.2.2.2.2.2.2.2.2.2.2.2.1
      exact h7 _ (by omega)
  · exact ⟨fun q => absurd (sSO_sub q) hr, fun q => absurd (sSO_sub q) hr⟩
theorem tkRfp_ge {j b : Nat} (h : tkRfp j = some b) : 41 ≤ b := by
  unfold tkRfp at h
  split at h <;> cases h <;> omega
theorem tkRfp_le {j b : Nat} (h : tkRfp j = some b) : b ≤ 86 := by
  unfold tkRfp at h
  split at h <;> cases h <;> omega
theorem tkRfp_54 {j b : Nat} (h : tkRfp j = some b) : j < 54 := by
  unfold tkRfp at h
  split at h <;> cases h <;> omega
theorem tkRfp_dec : ∀ j, j < 54 → ∀ i, i < 54 → tkRfp i = tkRfp j → (tkRfp i).isSome = true → i = j := by decide +kernel
theorem tkRfp_inj {i j b : Nat} (h : tkRfp i = tkRfp j) (hb : tkRfp i = some b) : i = j := tkRfp_dec j (tkRfp_54 (h.symm.trans hb)) i (tkRfp_54 hb) h (by rw [hb]; rfl)
section REFCO
variable {G : tkG} {n : Nat} {T : Nat → Nat × Nat} {I : Nat → Nat → Int32} {L : Nat → Nat → Int64} {P : Nat → Nat → Option Nat}
theorem VWS_town {np nf W r cn : Nat} {cl : Nat → Nat} (hT : TH I np nf W r cn cl) : VWS (rVT I) (va_up L 66 (vwB I L np W)) np (faF (I 42)) (tieB (pB (I 43) W)) (fun w => w < W) r (fun i => i) W r := by
  obtain ⟨t1, t2, t3, t4, t5, t6, t7, t8, t9, t10, t11, t12, t13, t14, t15⟩ := hT
  refine ⟨by rw [rVT_40]; simp only [va_up_self, bx_uu, tk_une, tk_usrt, not_false_eq_true, Nat.reduceEqDiff, Nat.reduceLT, Nat.reduceAdd, Nat.reduceMul, Nat.reduceLeDiff, reduceCtorEq]; exact t7, t9, by rw [rVT_40]; simp only [va_up_self, bx_uu, tk_une, tk_usrt, not_false_eq_true, Nat.reduceEqDiff, Nat.reduceLT, Nat.reduceAdd, Nat.reduceMul, Nat.reduceLeDiff, reduceCtorEq]; exact t10, t11, rfl, ISO_id, fun f hf i hi => ?_, fun p hp i hi j hj => ?_, fun p hp i hi => ?_⟩
  · unfold faF
    rw [rVT_64, tkcp_lt (by omega)]
  · rw [rVT_65, tkcp_lt (by omega), tkcp_lt (by omega)]
    show _ ↔ tb (pB (I 43) W (64 * p + i)) j = true
    rw [tb_pB t9 (by omega)]
    exact ⟨fun q => ⟨hj, q⟩, fun q => q.2⟩
  · rw [va_up_self]
    unfold vwB
    exact rTB_pB t3 t9 (fun _ _ _ _ => rfl) p hp i hi
theorem r_lessonsOf (hR : tkRef T P) {np nf W r cn : Nat} {cl : Nat → Nat} (hT : TH I np nf W r cn cl) {s : Nat} (hs : s < 6) (hrt : rRt I (nI s) = true) : tkM G mX11_lessonsOf 38 0 0 [vR 40, vI (nI s)] (n, T, I, L, P) (LSQ n T P I L (tA I np nf W r cn cl s) (tLs I np nf W r cn cl s)) := by
  obtain ⟨l, l1, l2, l3, l4, l5, l6⟩ := hT.right hs hrt
  have loop : ∀ (k i : Nat) (I1 : Nat → Nat → Int32) (L1 : Nat → Nat → Int64), i + k = 3 → rSm I1 I → rLm L L1 → (∀ q, q < i → ¬ tA I np nf W r cn cl s q) → tkX G mX11_lessonsOf 38 0 0 2 [some (vR 40), some (vI (nI s)), some (vI (nI i))] [] (n, T, I1, L1, P) (LSQ n T P I L (tA I np nf W r cn cl s) (tLs I np nf W r cn cl s)) := by
    intro k
    induction k with
    | zero =>
      intro i I1 L1 hi i1 i2 i3
      refine tk_iload2 dX11_lessonsOf_2 ?_
      refine tk_iconst dX11_lessonsOf_3 kc_iconst_2 ?_
      first | refine tk_icmp_gtN dX11_lessonsOf_4 (by omega) (by omega) (fun h4 => ?_) (fun h4 => ?_) | refine tk_jcmp_gt dX11_lessonsOf_4 (fun h4 => ?_) (fun h4 => ?_)
      · refine tk_iconst dX11_lessonsOf_29 kc_iconst_m1 ?_
        refine tk_ireturn dX11_lessonsOf_30 rfl ?_
        exact ⟨none, I1, L1, rfl, rfl, i1, i2, fun q hq => i3 q (by omega), fun k q => (by cases q)⟩
      · exfalso; omega
    | succ k ih =>
      intro i I1 L1 hi i1 i2 i3
      have hJ : ∀ a, 41 ≤ a → a ≤ 63 → I1 a = I a := fun a h1 h2 => i1.1 a (by omega)
      have hT1 := TH.congr hJ hT
      have hT' := hT
      obtain ⟨t1, t2, t3, t4, t5, t6, t7, t8, t9, t10, t11, t12, t13, t14, t15⟩ := hT'
      have t1' : I1 41 0 = nI np := by rw [hJ 41 (by omega) (by omega)]; exact t1
      have t7' : I1 41 2 = nI W := by rw [hJ 41 (by omega) (by omega)]; exact t7
      have e69 : ∀ g, g < 3 → rVT I1 69 g = I 45 g := fun g hg => by rw [rVT_69, tkcp_lt hg, hJ 45 (by omega) (by omega)]
      have e67 : ∀ q, q < 70 → rVT I1 67 q = I 49 q := fun q hq => by rw [rVT_67, tkcp_lt hq, hJ 49 (by omega) (by omega)]
      have hGs := tGs_view (J := rVT I1) (r := r) hT l1 l3 l4 e69 e67
      have eF : faF (I1 42) = faF (I 42) := by rw [hJ 42 (by omega) (by omega)]
      have eC : I1 43 = I 43 := hJ 43 (by omega) (by omega)
      have hLCT : LCT (rVT I1) np nf cn cl s l (rVT I1 69) (rVT I1 67) (fun i => I 47 (14 * s + i)) (I 44) := by
        refine ⟨by rw [rVT_at (by omega)]; exact t1', t3, by rw [rVT_at (by omega), hJ 41 (by omega) (by omega)]; exact t4, t6, by rw [rVT_40]; simp only [va_up_self, bx_uu, tk_une, tk_usrt, not_false_eq_true, Nat.reduceEqDiff, Nat.reduceLT, Nat.reduceAdd, Nat.reduceMul, Nat.reduceLeDiff, reduceCtorEq]; rw [hJ 41 (by omega) (by omega)]; exact t12, t13, fun c hc => ?_, hs, by rw [rVT_at (by omega), hJ 48 (by omega) (by omega)]; exact l1, l2, l3, l4, rfl, rfl, by rw [rVT_at (by omega), hJ 47 (by omega) (by omega)], by rw [rVT_at (by omega), hJ 44 (by omega) (by omega)]⟩
        obtain ⟨q1, q2, q3, q4⟩ := t14 c hc
        refine ⟨by rw [rVT_68, tkcp_lt (by omega), hJ 50 (by omega) (by omega)]; exact q1, q2, q3, WF_congr 14 (cl c - 1) (fun i hi => ?_) q4⟩
        exact (e67 _ (by omega)).symm
      have eA : tA I np nf W r cn cl s i = LOK np nf (I 44) (faF (I1 42)) r (tGs I np r cn cl s) i (fun w => w < W) (tieB (pB (I1 43) W)) := by unfold tA; rw [eF, eC]
      have eB : ∀ f, LSR np nf (I 44) (faF (I1 42)) r (tGs I np r cn cl s) i (fun w => w < W) (tieB (pB (I1 43) W)) f = tLs I np nf W r cn cl s i f := fun f => by unfold tLs; rw [eF, eC]
      rw [← eF] at hGs
      refine tk_iload2 dX11_lessonsOf_2 ?_
      refine tk_iconst dX11_lessonsOf_3 kc_iconst_2 ?_
      first | refine tk_icmp_gtN dX11_lessonsOf_4 (by omega) (by omega) (fun h4 => ?_) (fun h4 => ?_) | refine tk_jcmp_gt dX11_lessonsOf_4 (fun h4 => ?_) (fun h4 => ?_)
      · exfalso; omega
      · refine tk_aload0 dX11_lessonsOf_7 ?_
        refine tk_callV0y dX11_lessonsOf_8 kX11_275 hR.o (r_viewTown hR t1' t3 t7' t9) (Nat.le_of_ble_eq_true rfl) (by omega) ?_
        refine tk_aload0 dX11_lessonsOf_11 ?_
        refine tk_iload1 dX11_lessonsOf_12 ?_
        refine tk_iconst dX11_lessonsOf_13 kc_iconst_0 ?_
        refine tk_iload2 dX11_lessonsOf_14 ?_
        refine tk_callV3q dX11_lessonsOf_15 kX11_340 hR.o (r_makes hR (n := n) (G := G) (hGs) i 0 _ _ _ _ _ _ _ (by omega) (by omega) hLCT (VWS_town (L := L1) hT1)) (Nat.le_of_ble_eq_true rfl) (by omega) ?_
        rintro rr h1 ⟨b, I2, L2, rfl, rfl, j1, j2, j3, j4⟩
        dsimp only [Option.toList, List.cons_append, List.nil_append]
        rw [← eA] at j3
        first | refine tk_jf_eqB dX11_lessonsOf_18 (fun h18 => ?_) (fun h18 => ?_) | refine tk_if_eq dX11_lessonsOf_18 (fun h18 => ?_) (fun h18 => ?_)
        · first | refine tk_iinc2 dX11_lessonsOf_23 (kc_inc _) rfl ?_ | refine tk_iinc2 dX11_lessonsOf_23 rfl rfl ?_
          refine tk_goto dX11_lessonsOf_26 ?_
          refine tk_wk (by repeat' (first | exact trivial | refine ⟨Or.inl rfl, ?_⟩ | refine ⟨Or.inr rfl, ?_⟩)) (ih (i + 1) I2 L2 (by omega) ((j1.1.tr (rSm_VT I1)).tr i1) (i2.tr ((rLm.up (by omega)).tr j2)) (fun q hq => ?_))
          by_cases e : q = i
          · subst e; exact fun z => Bool.noConfusion (h18.symm.trans (j3.mpr z))
          · exact i3 q (by omega)
        · refine tk_iload2 dX11_lessonsOf_21 ?_
          refine tk_ireturn dX11_lessonsOf_22 rfl ?_
          refine ⟨some i, I2, L2, rfl, rfl, (j1.1.tr (rSm_VT I1)).tr i1, i2.tr ((rLm.up (by omega)).tr j2), ⟨by omega, j3.mp h18, i3⟩, fun k q => ?_⟩
          obtain rfl := Option.some.inj q
          obtain ⟨f, f1, f2⟩ := j4 h18
          exact ⟨f, eB f ▸ f1, fun j hj => by have := f2 j hj; rw [Nat.zero_add] at this; exact this⟩
  refine tkM.of (ls := [some _, some _, none]) (by decide +kernel) (by decide +kernel) (Nat.le_of_ble_eq_true rfl) rfl ?_
  refine tk_iconst dX11_lessonsOf_0 kc_iconst_0 ?_
  refine tk_istore2 dX11_lessonsOf_1 rfl ?_
  exact loop 3 0 I L (by omega) rSm.rf rLm.rf (fun q hq => by omega)
def LEQ (n : Nat) (T : Nat → Nat × Nat) (P : Nat → Nat → Option Nat) (I : Nat → Nat → Int32) (L : Nat → Nat → Int64) (A : Nat → Prop) : Option tkV → tkH → Prop := fun rv h => ∃ o, LSO A o ∧ (match o with
  | none => rPt n T P L (-100006) (rFnd I) rv h
  | some k => rPt n T P L (nI k) I rv h)
theorem r_lessons (hR : tkRef T P) {np nf W r cn : Nat} {cl : Nat → Nat} (hT : TH I np nf W r cn cl) (s : Int32) : tkM G mX11_lessons 39 0 0 [vR 40, vI s] (n, T, I, L, P) (rLq n T P L I (rAkC I s) (LEQ n T P I L (tA I np nf W r cn cl (ix s)))) := by
  refine tkM.of (ls := [some _, some _, none, none]) (by decide +kernel) (by decide +kernel) (Nat.le_of_ble_eq_true rfl) rfl ?_
  refine tk_aload0 dX11_lessons_0 ?_
  refine tk_iload1 dX11_lessons_1 ?_
  refine tk_callV1z dX11_lessons_2 kX11_323 hR.o (r_asked hR hT.ls s) (Nat.le_of_ble_eq_true rfl) (by omega) ?_
  refine tk_istore2 dX11_lessons_5 rfl ?_
  refine tk_iload2 dX11_lessons_6 ?_
  first | refine tk_jf_eqB dX11_lessons_7 (fun h7 => ?_) (fun h7 => ?_) | refine tk_if_eq dX11_lessons_7 (fun h7 => ?_) (fun h7 => ?_)
  · refine tk_aload0 dX11_lessons_16 ?_
    obtain ⟨⟨k, hk, rfl⟩, hrt⟩ := rAsk_ok h7
    refine tk_post (fun _ _ q => rLq_g (if_pos h7) q) ?_
    rw [ix_nI (by omega)]
    refine tk_iload1 dX11_lessons_17 ?_
    refine tk_callV1q dX11_lessons_18 kX11_346 hR.o (r_lessonsOf hR hT (by omega) hrt) (Nat.le_of_ble_eq_true rfl) (by omega) ?_
    rintro rr h1 ⟨o, I', L', rfl, rfl, j1, j2, j3, j4⟩
    dsimp only [Option.toList, List.cons_append, List.nil_append]
    cases o with
    | none =>
      refine tk_istore3 dX11_lessons_21 rfl ?_
      refine tk_iload3 dX11_lessons_22 ?_
      refine tk_jf_ge dX11_lessons_23 (fun h23 => ?_) (fun h23 => ?_)
      · exact absurd (show (-1 : Int32) < 0 by decide) (Int32.not_lt.mpr h23)
      · refine tk_aload0 dX11_lessons_26 ?_
        refine tk_ldc dX11_lessons_27 klX11_178 ?_
        refine tk_callV1z dX11_lessons_29 kX11_179 hR.o (r_finding hR _) (Nat.le_of_ble_eq_true rfl) (by omega) ?_
        refine tk_goto dX11_lessons_32 ?_
        refine tk_ireturn dX11_lessons_36 rfl ?_
        exact ⟨none, j3, rPt_i rfl (rSm_Fnd j1) j2⟩
    | some k =>
      have hk2 := j3.1
      refine tk_istore3 dX11_lessons_21 rfl ?_
      refine tk_iload3 dX11_lessons_22 ?_
      refine tk_jf_ge dX11_lessons_23 (fun h23 => ?_) (fun h23 => ?_)
      · refine tk_iload3 dX11_lessons_35 ?_
        refine tk_ireturn dX11_lessons_36 rfl ?_
        exact ⟨some k, j3, rPt_i rfl j1 j2⟩
      · exact absurd h23 (nI_pos (by omega))
  · refine tk_aload0 dX11_lessons_10 ?_
    refine tk_iload2 dX11_lessons_11 ?_
    refine tk_callV1z dX11_lessons_12 kX11_179 hR.o (r_finding hR _) (Nat.le_of_ble_eq_true rfl) (by omega) ?_
    refine tk_ireturn dX11_lessons_15 rfl ?_
    exact rLq_f (if_neg h7) rSm.rf rLm.rf
def rLsC (I : Nat → Nat → Int32) (s i : Int32) : Option Int32 := if (rIn s (nI 0) (nI 5) && decide (0 ≤ i)) = true then (if rRt I s = true then none else some (-100004)) else some (-100001)
def LFQ (n : Nat) (T : Nat → Nat × Nat) (P : Nat → Nat → Option Nat) (I : Nat → Nat → Int32) (L : Nat → Nat → Int64) (A : Nat → Prop) (B : Nat → (Nat → Nat) → Prop) (i : Int32) : Option tkV → tkH → Prop := fun rv h => ∃ o, LSO A o ∧ ((¬ i < telV o ∧ rPt n T P L (-100006) (rFnd I) rv h) ∨ (∃ k f, o = some k ∧ i < nI k ∧ B k f ∧ rPt n T P L (nI (f (ix i))) I rv h))
theorem r_lesson (hR : tkRef T P) {np nf W r cn : Nat} {cl : Nat → Nat} (hT : TH I np nf W r cn cl) (s i : Int32) : tkM G mX11_lesson 39 0 0 [vR 40, vI s, vI i] (n, T, I, L, P) (rLq n T P L I (rLsC I s i) (LFQ n T P I L (tA I np nf W r cn cl (ix s)) (tLs I np nf W r cn cl (ix s)) i)) := by
  unfold rLsC
  refine tkM.of (ls := [some _, some _, some _, none]) (by decide +kernel) (by decide +kernel) (Nat.le_of_ble_eq_true rfl) rfl ?_
  refine tk_iload1 dX11_lesson_0 ?_
  refine tk_callS1z dX11_lesson_1 kX11_194 (r_isSentence _) (Nat.le_of_ble_eq_true rfl) (by omega) ?_
  first | refine tk_jf_eqB dX11_lesson_4 (fun h4 => ?_) (fun h4 => ?_) | refine tk_if_eq dX11_lesson_4 (fun h4 => ?_) (fun h4 => ?_)
  · refine tk_aload0 dX11_lesson_11 ?_
    refine tk_ldc dX11_lesson_12 klX11_183 ?_
    refine tk_callV1z dX11_lesson_14 kX11_179 hR.o (r_finding hR _) (Nat.le_of_ble_eq_true rfl) (by omega) ?_
    refine tk_ireturn dX11_lesson_17 rfl ?_
    refine rLq_f (if_neg (fun e => ?_)) rSm.rf rLm.rf
    rw [Bool.and_eq_true, decide_eq_true_eq] at e
    first | exact absurd (h4.symm.trans e.1) Bool.false_ne_true | exact absurd e.2 (Int32.not_le.mpr h8)
  · refine tk_iload2 dX11_lesson_7 ?_
    refine tk_jf_ge dX11_lesson_8 (fun h8 => ?_) (fun h8 => ?_)
    · refine tk_aload0 dX11_lesson_18 ?_
      rw [if_pos (show (rIn s (nI 0) (nI 5) && decide (0 ≤ i)) = true by rw [h4, decide_eq_true h8]; rfl)]
      obtain ⟨s', hs1, rfl⟩ := rIn_of h4 (by omega)
      have hixs : ix (nI s') = s' := ix_nI (by omega)
      obtain ⟨l, hl1, hl2⟩ := hT.ls s' (by omega)
      have es : rRt I (nI s') = decide (rW (fun i => I 47 (14 * s' + i)) (I 41 0) (I 41 1) l 0 (nI 0) < 0) := by unfold rRt; rw [hixs, hl2, ix_nI (by omega)]
      rw [hixs]
      refine tk_iload1 dX11_lesson_19 ?_
      refine tk_callV1z dX11_lesson_20 kX11_291 hR.o (r_isRight hR (by omega) hl2 hl1) (Nat.le_of_ble_eq_true rfl) (by omega) ?_
      first | refine tk_jf_neB dX11_lesson_23 (fun h23 => ?_) (fun h23 => ?_) | refine tk_if_ne dX11_lesson_23 (fun h23 => ?_) (fun h23 => ?_)
      · refine tk_aload0 dX11_lesson_33 ?_
        have hrt := es.trans h23
        refine tk_post (fun _ _ q => rLq_g (if_pos hrt) q) ?_
        refine tk_iload1 dX11_lesson_34 ?_
        refine tk_callV1q dX11_lesson_35 kX11_346 hR.o (r_lessonsOf hR hT (by omega) hrt) (Nat.le_of_ble_eq_true rfl) (by omega) ?_
        rintro rr h1 ⟨o, I', L', rfl, rfl, j1, j2, j3, j4⟩
        dsimp only [Option.toList, List.cons_append, List.nil_append]
        refine tk_istore3 dX11_lesson_38 rfl ?_
        refine tk_iload2 dX11_lesson_39 ?_
        refine tk_iload3 dX11_lesson_40 ?_
        first | refine tk_icmp_geN dX11_lesson_41 (by omega) (by omega) (fun h41 => ?_) (fun h41 => ?_) | refine tk_jcmp_ge dX11_lesson_41 (fun h41 => ?_) (fun h41 => ?_)
        · refine tk_aload0 dX11_lesson_53 ?_
          refine tk_ldc dX11_lesson_54 klX11_178 ?_
          refine tk_callV1z dX11_lesson_56 kX11_179 hR.o (r_finding hR _) (Nat.le_of_ble_eq_true rfl) (by omega) ?_
          refine tk_ireturn dX11_lesson_59 rfl ?_
          first
            | exact ⟨o, j3, Or.inl ⟨Int32.not_lt.mpr h41, rPt_i rfl (rSm_Fnd j1) j2⟩⟩
            | exact ⟨some k, j3, Or.inr ⟨k, f, rfl, h41, f1, rPt_i (by rw [ix_nI (by omega)]) j1 j2⟩⟩
        · refine tk_aload0 dX11_lesson_44 ?_
          obtain ⟨k, rfl, i', hi', rfl⟩ : ∃ k, o = some k ∧ ∃ i', i' < k ∧ i = nI i' := by
            cases o with
            | none => exact absurd (Int32.lt_of_le_of_lt h8 h41) (by decide)
            | some k =>
              have hk2 : k ≤ 2 := j3.1
              refine ⟨k, rfl, rPe_of (N := nI k) ?_ rfl (by omega)⟩
              unfold rPer
              rw [decide_eq_true h8, Bool.true_and]
              exact decide_eq_true h41
          have hk2 : k ≤ 2 := j3.1
          obtain ⟨f, f1, f2⟩ := j4 k rfl
          refine tk_getP dX11_lesson_45 fX11_145 rfl hR.o (hR.p 52 rfl) ?_
          refine tk_iload2 dX11_lesson_48 ?_
          refine tk_iald dX11_lesson_49 (hR.t 85 rfl) (by omega) (by omega) ?_
          rw [f2 i' hi']
          refine tk_goto dX11_lesson_50 ?_
          refine tk_ireturn dX11_lesson_59 rfl ?_
          first
            | exact ⟨o, j3, Or.inl ⟨Int32.not_lt.mpr h41, rPt_i rfl (rSm_Fnd j1) j2⟩⟩
            | exact ⟨some k, j3, Or.inr ⟨k, f, rfl, h41, f1, rPt_i (by rw [ix_nI (by omega)]) j1 j2⟩⟩
      · refine tk_aload0 dX11_lesson_26 ?_
        refine tk_ldc dX11_lesson_27 klX11_208 ?_
        refine tk_callV1z dX11_lesson_29 kX11_179 hR.o (r_finding hR _) (Nat.le_of_ble_eq_true rfl) (by omega) ?_
        refine tk_ireturn dX11_lesson_32 rfl ?_
        exact rLq_f (if_neg (by rw [es, h23]; decide)) rSm.rf rLm.rf
    · refine tk_aload0 dX11_lesson_11 ?_
      refine tk_ldc dX11_lesson_12 klX11_183 ?_
      refine tk_callV1z dX11_lesson_14 kX11_179 hR.o (r_finding hR _) (Nat.le_of_ble_eq_true rfl) (by omega) ?_
      refine tk_ireturn dX11_lesson_17 rfl ?_
      refine rLq_f (if_neg (fun e => ?_)) rSm.rf rLm.rf
      rw [Bool.and_eq_true, decide_eq_true_eq] at e
      first | exact absurd (h4.symm.trans e.1) Bool.false_ne_true | exact absurd e.2 (Int32.not_le.mpr h8)
/-- the reference while its rows are made -/
def ICON (k : Nat) (T0 : Nat → Nat × Nat) (I0 : Nat → Nat → Int32) (L0 : Nat → Nat → Int64) (P0 : Nat → Nat → Option Nat) (T : Nat → Nat × Nat) (I : Nat → Nat → Int32) (L : Nat → Nat → Int64) (P : Nat → Nat → Option Nat) : Prop := (∀ a, 40 ≤ a → a < 41 + k → T a = tkRtab a ∧ I a = fun _ => 0) ∧ (∀ j b, tkRfp j = some b → b < 41 + k → P 40 j = some b) ∧ ∀ a, a < 40 → T a = T0 a ∧ I a = I0 a ∧ L a = L0 a ∧ P a = P0 a
theorem ICON.o {k : Nat} {T0 T : Nat → Nat × Nat} {I0 I : Nat → Nat → Int32} {L0 L : Nat → Nat → Int64} {P0 P : Nat → Nat → Option Nat} (h : ICON k T0 I0 L0 P0 T I L P) : (T 40).1 = 11 := by rw [(h.1 40 (by omega) (by omega)).1]; rfl
theorem icon_s {C : tkC} {d mc ms pc : Nat} {ls : List (Option tkV)} {st : List tkV} {Q : Option tkV → tkH → Prop} {k j t len : Nat} {T0 T : Nat → Nat × Nat} {I0 I : Nat → Nat → Int32} {L0 L : Nat → Nat → Int64} {P0 P : Nat → Nat → Option Nat} (h : ICON k T0 I0 L0 P0 T I L P) (h1 : tkRtab (41 + k) = (t, len)) (h2 : tkRfp j = some (41 + k)) (kk : ∀ T I L P, ICON (k + 1) T0 I0 L0 P0 T I L P → tkX G C d mc ms pc ls st (41 + k + 1, T, I, L, P) Q) : tkX G C d mc ms pc ls st (41 + k + 1, va_up T (41 + k) (t, len), va_up I (41 + k) (fun _ => 0), va_up L (41 + k) (fun _ => 0), va_up (va_up P (41 + k) (fun _ => none)) 40 (va_up (va_up P (41 + k) (fun _ => none) 40) j (some (41 + k)))) Q := by
  refine kk _ _ _ _ ⟨fun a a1 a2 => ?_, fun i b b1 b2 => ?_, fun a a1 => ?_⟩
  · by_cases e : a = 41 + k
    · subst e
      rw [va_up_self, va_up_self]
      exact ⟨h1.symm, rfl⟩
    · rw [va_up_ne _ _ e, va_up_ne _ _ e]
      exact h.1 a a1 (by omega)
  · rw [va_up_self]
    by_cases e : i = j
    · subst e
      rw [va_up_self, ← b1, h2]
    · rw [va_up_ne _ _ e, va_up_ne _ _ (show ¬ 40 = 41 + k by omega)]
      refine h.2.1 i b b1 ?_
      by_cases e2 : b = 41 + k
      · subst e2
        exfalso
        exact e (tkRfp_inj (b1.trans h2.symm) b1)
      · omega
  · rw [va_up_ne _ _ (show ¬ a = 41 + k by omega), va_up_ne _ _ (show ¬ a = 41 + k by omega), va_up_ne _ _ (show ¬ a = 41 + k by omega), va_up_ne _ _ (show ¬ a = 40 by omega), va_up_ne _ _ (show ¬ a = 41 + k by omega)]
    exact h.2.2 a a1
def r0I (I : Nat → Nat → Int32) : Nat → Nat → Int32 := rBeg I (nI 2) (nI 2) (nI 0) 4
set_option maxRecDepth 4000 in
theorem r_init {T0 : Nat → Nat × Nat} {I0 : Nat → Nat → Int32} {L0 : Nat → Nat → Int64} {P0 : Nat → Nat → Option Nat} (h40 : T0 40 = (11, 54)) (hz : I0 40 = fun _ => 0) : tkM G mX11_init 2 46 43556 [vR 40] (41, T0, I0, L0, P0) (fun r h => ∃ T I L P, r = none ∧ h = (87, T, r0I I, L, P) ∧ tkRef T P ∧ (∀ a, 40 ≤ a → a < 87 → I a = fun _ => 0) ∧ ∀ a, a < 40 → T a = T0 a ∧ I a = I0 a ∧ L a = L0 a ∧ P a = P0 a) := by
  have hI : ICON 0 T0 I0 L0 P0 T0 I0 L0 P0 := ⟨fun a a1 a2 => by obtain rfl : a = 40 := by omega
                                                                 exact ⟨h40, hz⟩, fun j b b1 b2 => by have := tkRfp_ge b1; omega, fun a _ => ⟨rfl, rfl, rfl, rfl⟩⟩
  have hX := hI.o
  refine tkM.of (ls := [some _]) (by decide +kernel) (by decide +kernel) (Nat.le_of_ble_eq_true rfl) rfl ?_
  refine tk_aload0 dX11_init_0 ?_
  refine tk_objInit dX11_init_1 oiX11_1 (Nat.le_of_ble_eq_true rfl) (by omega) ?_
  refine tk_aload0 dX11_init_4 ?_
  refine tk_bipush dX11_init_5 kc_bipush_7 ?_
  refine tk_newaS (t := 20) dX11_init_7 rfl (by omega) (by omega) tk_ac20 (by first | exact Or.inl rfl | exact Or.inr (Or.inl rfl) | exact Or.inr (Or.inr rfl)) (by omega) (by omega) (by omega) ?_
  refine tk_putP dX11_init_9 fX11_7 wX11_init_X11_0 rfl (by rw [va_up_ne _ _ (by omega)]; exact hX) ?_
  refine icon_s (k := 0) (j := 0) hI rfl rfl (fun T I L P hI => ?_)
  have hX := hI.o
  refine tk_aload0 dX11_init_12 ?_
  refine tk_bipush dX11_init_13 kc_bipush_64 ?_
  refine tk_newaS (t := 20) dX11_init_15 rfl (by omega) (by omega) tk_ac20 (by first | exact Or.inl rfl | exact Or.inr (Or.inl rfl) | exact Or.inr (Or.inr rfl)) (by omega) (by omega) (by omega) ?_
  refine tk_putP dX11_init_17 fX11_13 wX11_init_X11_1 rfl (by rw [va_up_ne _ _ (by omega)]; exact hX) ?_
  refine icon_s (k := 1) (j := 1) hI rfl rfl (fun T I L P hI => ?_)
  have hX := hI.o
  refine tk_aload0 dX11_init_20 ?_
  refine tk_sipush dX11_init_21 kc_sipush_256 ?_
  refine tk_newaS (t := 20) dX11_init_24 rfl (by omega) (by omega) tk_ac20 (by first | exact Or.inl rfl | exact Or.inr (Or.inl rfl) | exact Or.inr (Or.inr rfl)) (by omega) (by omega) (by omega) ?_
  refine tk_putP dX11_init_26 fX11_16 wX11_init_X11_2 rfl (by rw [va_up_ne _ _ (by omega)]; exact hX) ?_
  refine icon_s (k := 2) (j := 2) hI rfl rfl (fun T I L P hI => ?_)
  have hX := hI.o
  refine tk_aload0 dX11_init_29 ?_
  refine tk_iconst dX11_init_30 kc_iconst_4 ?_
  refine tk_newaS (t := 20) dX11_init_31 rfl (by omega) (by omega) tk_ac20 (by first | exact Or.inl rfl | exact Or.inr (Or.inl rfl) | exact Or.inr (Or.inr rfl)) (by omega) (by omega) (by omega) ?_
  refine tk_putP dX11_init_33 fX11_19 wX11_init_X11_3 rfl (by rw [va_up_ne _ _ (by omega)]; exact hX) ?_
  refine icon_s (k := 3) (j := 3) hI rfl rfl (fun T I L P hI => ?_)
  have hX := hI.o
  refine tk_aload0 dX11_init_36 ?_
  refine tk_iconst dX11_init_37 kc_iconst_3 ?_
  refine tk_newaS (t := 20) dX11_init_38 rfl (by omega) (by omega) tk_ac20 (by first | exact Or.inl rfl | exact Or.inr (Or.inl rfl) | exact Or.inr (Or.inr rfl)) (by omega) (by omega) (by omega) ?_
  refine tk_putP dX11_init_40 fX11_22 wX11_init_X11_4 rfl (by rw [va_up_ne _ _ (by omega)]; exact hX) ?_
  refine icon_s (k := 4) (j := 4) hI rfl rfl (fun T I L P hI => ?_)
  have hX := hI.o
  refine tk_aload0 dX11_init_43 ?_
  refine tk_iconst dX11_init_44 kc_iconst_4 ?_
  refine tk_newaS (t := 20) dX11_init_45 rfl (by omega) (by omega) tk_ac20 (by first | exact Or.inl rfl | exact Or.inr (Or.inl rfl) | exact Or.inr (Or.inr rfl)) (by omega) (by omega) (by omega) ?_
  refine tk_putP dX11_init_47 fX11_25 wX11_init_X11_5 rfl (by rw [va_up_ne _ _ (by omega)]; exact hX) ?_
  refine icon_s (k := 5) (j := 5) hI rfl rfl (fun T I L P hI => ?_)
  have hX := hI.o
  refine tk_aload0 dX11_init_50 ?_
  refine tk_bipush dX11_init_51 kc_bipush_84 ?_
  refine tk_newaS (t := 20) dX11_init_53 rfl (by omega) (by omega) tk_ac20 (by first | exact Or.inl rfl | exact Or.inr (Or.inl rfl) | exact Or.inr (Or.inr rfl)) (by omega) (by omega) (by omega) ?_
  refine tk_putP dX11_init_55 fX11_28 wX11_init_X11_6 rfl (by rw [va_up_ne _ _ (by omega)]; exact hX) ?_
  refine icon_s (k := 6) (j := 6) hI rfl rfl (fun T I L P hI => ?_)
  have hX := hI.o
  refine tk_aload0 dX11_init_58 ?_
  refine tk_bipush dX11_init_59 kc_bipush_6 ?_
  refine tk_newaS (t := 20) dX11_init_61 rfl (by omega) (by omega) tk_ac20 (by first | exact Or.inl rfl | exact Or.inr (Or.inl rfl) | exact Or.inr (Or.inr rfl)) (by omega) (by omega) (by omega) ?_
  refine tk_putP dX11_init_63 fX11_31 wX11_init_X11_7 rfl (by rw [va_up_ne _ _ (by omega)]; exact hX) ?_
  refine icon_s (k := 7) (j := 7) hI rfl rfl (fun T I L P hI => ?_)
  have hX := hI.o
  refine tk_aload0 dX11_init_66 ?_
  refine tk_bipush dX11_init_67 kc_bipush_70 ?_
  refine tk_newaS (t := 20) dX11_init_69 rfl (by omega) (by omega) tk_ac20 (by first | exact Or.inl rfl | exact Or.inr (Or.inl rfl) | exact Or.inr (Or.inr rfl)) (by omega) (by omega) (by omega) ?_
  refine tk_putP dX11_init_71 fX11_34 wX11_init_X11_8 rfl (by rw [va_up_ne _ _ (by omega)]; exact hX) ?_
  refine icon_s (k := 8) (j := 8) hI rfl rfl (fun T I L P hI => ?_)
  have hX := hI.o
  refine tk_aload0 dX11_init_74 ?_
  refine tk_iconst dX11_init_75 kc_iconst_5 ?_
  refine tk_newaS (t := 20) dX11_init_76 rfl (by omega) (by omega) tk_ac20 (by first | exact Or.inl rfl | exact Or.inr (Or.inl rfl) | exact Or.inr (Or.inr rfl)) (by omega) (by omega) (by omega) ?_
  refine tk_putP dX11_init_78 fX11_37 wX11_init_X11_9 rfl (by rw [va_up_ne _ _ (by omega)]; exact hX) ?_
  refine icon_s (k := 9) (j := 9) hI rfl rfl (fun T I L P hI => ?_)
  have hX := hI.o
  refine tk_aload0 dX11_init_81 ?_
  refine tk_bipush dX11_init_82 kc_bipush_56 ?_
  refine tk_newaS (t := 20) dX11_init_84 rfl (by omega) (by omega) tk_ac20 (by first | exact Or.inl rfl | exact Or.inr (Or.inl rfl) | exact Or.inr (Or.inr rfl)) (by omega) (by omega) (by omega) ?_
  refine tk_putP dX11_init_86 fX11_40 wX11_init_X11_10 rfl (by rw [va_up_ne _ _ (by omega)]; exact hX) ?_
  refine icon_s (k := 10) (j := 10) hI rfl rfl (fun T I L P hI => ?_)
  have hX := hI.o
  refine tk_aload0 dX11_init_89 ?_
  refine tk_iconst dX11_init_90 kc_iconst_4 ?_
  refine tk_newaS (t := 20) dX11_init_91 rfl (by omega) (by omega) tk_ac20 (by first | exact Or.inl rfl | exact Or.inr (Or.inl rfl) | exact Or.inr (Or.inr rfl)) (by omega) (by omega) (by omega) ?_
  refine tk_putP dX11_init_93 fX11_43 wX11_init_X11_11 rfl (by rw [va_up_ne _ _ (by omega)]; exact hX) ?_
  refine icon_s (k := 11) (j := 11) hI rfl rfl (fun T I L P hI => ?_)
  have hX := hI.o
  refine tk_aload0 dX11_init_96 ?_
  refine tk_iconst dX11_init_97 kc_iconst_4 ?_
  refine tk_newaS (t := 20) dX11_init_98 rfl (by omega) (by omega) tk_ac20 (by first | exact Or.inl rfl | exact Or.inr (Or.inl rfl) | exact Or.inr (Or.inr rfl)) (by omega) (by omega) (by omega) ?_
  refine tk_putP dX11_init_100 fX11_46 wX11_init_X11_12 rfl (by rw [va_up_ne _ _ (by omega)]; exact hX) ?_
  refine icon_s (k := 12) (j := 12) hI rfl rfl (fun T I L P hI => ?_)
  have hX := hI.o
  refine tk_aload0 dX11_init_103 ?_
  refine tk_bipush dX11_init_104 kc_bipush_18 ?_
  refine tk_newaS (t := 20) dX11_init_106 rfl (by omega) (by omega) tk_ac20 (by first | exact Or.inl rfl | exact Or.inr (Or.inl rfl) | exact Or.inr (Or.inr rfl)) (by omega) (by omega) (by omega) ?_
  refine tk_putP dX11_init_108 fX11_49 wX11_init_X11_13 rfl (by rw [va_up_ne _ _ (by omega)]; exact hX) ?_
  refine icon_s (k := 13) (j := 13) hI rfl rfl (fun T I L P hI => ?_)
  have hX := hI.o
  refine tk_aload0 dX11_init_111 ?_
  refine tk_sipush dX11_init_112 kc_sipush_384 ?_
  refine tk_newaS (t := 20) dX11_init_115 rfl (by omega) (by omega) tk_ac20 (by first | exact Or.inl rfl | exact Or.inr (Or.inl rfl) | exact Or.inr (Or.inr rfl)) (by omega) (by omega) (by omega) ?_
  refine tk_putP dX11_init_117 fX11_52 wX11_init_X11_14 rfl (by rw [va_up_ne _ _ (by omega)]; exact hX) ?_
  refine icon_s (k := 14) (j := 14) hI rfl rfl (fun T I L P hI => ?_)
  have hX := hI.o
  refine tk_aload0 dX11_init_120 ?_
  refine tk_sipush dX11_init_121 kc_sipush_1536 ?_
  refine tk_newaS (t := 20) dX11_init_124 rfl (by omega) (by omega) tk_ac20 (by first | exact Or.inl rfl | exact Or.inr (Or.inl rfl) | exact Or.inr (Or.inr rfl)) (by omega) (by omega) (by omega) ?_
  refine tk_putP dX11_init_126 fX11_55 wX11_init_X11_15 rfl (by rw [va_up_ne _ _ (by omega)]; exact hX) ?_
  refine icon_s (k := 15) (j := 15) hI rfl rfl (fun T I L P hI => ?_)
  have hX := hI.o
  refine tk_aload0 dX11_init_129 ?_
  refine tk_sipush dX11_init_130 kc_sipush_420 ?_
  refine tk_newaS (t := 20) dX11_init_133 rfl (by omega) (by omega) tk_ac20 (by first | exact Or.inl rfl | exact Or.inr (Or.inl rfl) | exact Or.inr (Or.inr rfl)) (by omega) (by omega) (by omega) ?_
  refine tk_putP dX11_init_135 fX11_58 wX11_init_X11_16 rfl (by rw [va_up_ne _ _ (by omega)]; exact hX) ?_
  refine icon_s (k := 16) (j := 16) hI rfl rfl (fun T I L P hI => ?_)
  have hX := hI.o
  refine tk_aload0 dX11_init_138 ?_
  refine tk_bipush dX11_init_139 kc_bipush_30 ?_
  refine tk_newaS (t := 20) dX11_init_141 rfl (by omega) (by omega) tk_ac20 (by first | exact Or.inl rfl | exact Or.inr (Or.inl rfl) | exact Or.inr (Or.inr rfl)) (by omega) (by omega) (by omega) ?_
  refine tk_putP dX11_init_143 fX11_61 wX11_init_X11_17 rfl (by rw [va_up_ne _ _ (by omega)]; exact hX) ?_
  refine icon_s (k := 17) (j := 17) hI rfl rfl (fun T I L P hI => ?_)
  have hX := hI.o
  refine tk_aload0 dX11_init_146 ?_
  refine tk_bipush dX11_init_147 kc_bipush_18 ?_
  refine tk_newaS (t := 20) dX11_init_149 rfl (by omega) (by omega) tk_ac20 (by first | exact Or.inl rfl | exact Or.inr (Or.inl rfl) | exact Or.inr (Or.inr rfl)) (by omega) (by omega) (by omega) ?_
  refine tk_putP dX11_init_151 fX11_64 wX11_init_X11_18 rfl (by rw [va_up_ne _ _ (by omega)]; exact hX) ?_
  refine icon_s (k := 18) (j := 18) hI rfl rfl (fun T I L P hI => ?_)
  have hX := hI.o
  refine tk_aload0 dX11_init_154 ?_
  refine tk_ldc dX11_init_155 klX11_67 ?_
  refine tk_newaS (t := 20) dX11_init_157 rfl (by omega) (by omega) tk_ac20 (by first | exact Or.inl rfl | exact Or.inr (Or.inl rfl) | exact Or.inr (Or.inr rfl)) (by omega) (by omega) (by omega) ?_
  refine tk_putP dX11_init_159 fX11_68 wX11_init_X11_19 rfl (by rw [va_up_ne _ _ (by omega)]; exact hX) ?_
  refine icon_s (k := 19) (j := 19) hI rfl rfl (fun T I L P hI => ?_)
  have hX := hI.o
  refine tk_aload0 dX11_init_162 ?_
  refine tk_iconst dX11_init_163 kc_iconst_4 ?_
  refine tk_newaS (t := 20) dX11_init_164 rfl (by omega) (by omega) tk_ac20 (by first | exact Or.inl rfl | exact Or.inr (Or.inl rfl) | exact Or.inr (Or.inr rfl)) (by omega) (by omega) (by omega) ?_
  refine tk_putP dX11_init_166 fX11_71 wX11_init_X11_21 rfl (by rw [va_up_ne _ _ (by omega)]; exact hX) ?_
  refine icon_s (k := 20) (j := 21) hI rfl rfl (fun T I L P hI => ?_)
  have hX := hI.o
  refine tk_aload0 dX11_init_169 ?_
  refine tk_iconst dX11_init_170 kc_iconst_4 ?_
  refine tk_newaS (t := 20) dX11_init_171 rfl (by omega) (by omega) tk_ac20 (by first | exact Or.inl rfl | exact Or.inr (Or.inl rfl) | exact Or.inr (Or.inr rfl)) (by omega) (by omega) (by omega) ?_
  refine tk_putP dX11_init_173 fX11_74 wX11_init_X11_22 rfl (by rw [va_up_ne _ _ (by omega)]; exact hX) ?_
  refine icon_s (k := 21) (j := 22) hI rfl rfl (fun T I L P hI => ?_)
  have hX := hI.o
  refine tk_aload0 dX11_init_176 ?_
  refine tk_bipush dX11_init_177 kc_bipush_56 ?_
  refine tk_newaS (t := 20) dX11_init_179 rfl (by omega) (by omega) tk_ac20 (by first | exact Or.inl rfl | exact Or.inr (Or.inl rfl) | exact Or.inr (Or.inr rfl)) (by omega) (by omega) (by omega) ?_
  refine tk_putP dX11_init_181 fX11_77 wX11_init_X11_23 rfl (by rw [va_up_ne _ _ (by omega)]; exact hX) ?_
  refine icon_s (k := 22) (j := 23) hI rfl rfl (fun T I L P hI => ?_)
  have hX := hI.o
  refine tk_aload0 dX11_init_184 ?_
  refine tk_bipush dX11_init_185 kc_bipush_64 ?_
  refine tk_newaS (t := 20) dX11_init_187 rfl (by omega) (by omega) tk_ac20 (by first | exact Or.inl rfl | exact Or.inr (Or.inl rfl) | exact Or.inr (Or.inr rfl)) (by omega) (by omega) (by omega) ?_
  refine tk_putP dX11_init_189 fX11_80 wX11_init_X11_28 rfl (by rw [va_up_ne _ _ (by omega)]; exact hX) ?_
  refine icon_s (k := 23) (j := 28) hI rfl rfl (fun T I L P hI => ?_)
  have hX := hI.o
  refine tk_aload0 dX11_init_192 ?_
  refine tk_sipush dX11_init_193 kc_sipush_256 ?_
  refine tk_newaS (t := 20) dX11_init_196 rfl (by omega) (by omega) tk_ac20 (by first | exact Or.inl rfl | exact Or.inr (Or.inl rfl) | exact Or.inr (Or.inr rfl)) (by omega) (by omega) (by omega) ?_
  refine tk_putP dX11_init_198 fX11_83 wX11_init_X11_29 rfl (by rw [va_up_ne _ _ (by omega)]; exact hX) ?_
  refine icon_s (k := 24) (j := 29) hI rfl rfl (fun T I L P hI => ?_)
  have hX := hI.o
  refine tk_aload0 dX11_init_201 ?_
  refine tk_sipush dX11_init_202 kc_sipush_256 ?_
  refine tk_newaS (t := 21) dX11_init_205 rfl (by omega) (by omega) tk_ac21 (by first | exact Or.inl rfl | exact Or.inr (Or.inl rfl) | exact Or.inr (Or.inr rfl)) (by omega) (by omega) (by omega) ?_
  refine tk_putP dX11_init_207 fX11_86 wX11_init_X11_30 rfl (by rw [va_up_ne _ _ (by omega)]; exact hX) ?_
  refine icon_s (k := 25) (j := 30) hI rfl rfl (fun T I L P hI => ?_)
  have hX := hI.o
  refine tk_aload0 dX11_init_210 ?_
  refine tk_bipush dX11_init_211 kc_bipush_70 ?_
  refine tk_newaS (t := 20) dX11_init_213 rfl (by omega) (by omega) tk_ac20 (by first | exact Or.inl rfl | exact Or.inr (Or.inl rfl) | exact Or.inr (Or.inr rfl)) (by omega) (by omega) (by omega) ?_
  refine tk_putP dX11_init_215 fX11_90 wX11_init_X11_32 rfl (by rw [va_up_ne _ _ (by omega)]; exact hX) ?_
  refine icon_s (k := 26) (j := 32) hI rfl rfl (fun T I L P hI => ?_)
  have hX := hI.o
  refine tk_aload0 dX11_init_218 ?_
  refine tk_iconst dX11_init_219 kc_iconst_5 ?_
  refine tk_newaS (t := 20) dX11_init_220 rfl (by omega) (by omega) tk_ac20 (by first | exact Or.inl rfl | exact Or.inr (Or.inl rfl) | exact Or.inr (Or.inr rfl)) (by omega) (by omega) (by omega) ?_
  refine tk_putP dX11_init_222 fX11_93 wX11_init_X11_33 rfl (by rw [va_up_ne _ _ (by omega)]; exact hX) ?_
  refine icon_s (k := 27) (j := 33) hI rfl rfl (fun T I L P hI => ?_)
  have hX := hI.o
  refine tk_aload0 dX11_init_225 ?_
  refine tk_iconst dX11_init_226 kc_iconst_3 ?_
  refine tk_newaS (t := 20) dX11_init_227 rfl (by omega) (by omega) tk_ac20 (by first | exact Or.inl rfl | exact Or.inr (Or.inl rfl) | exact Or.inr (Or.inr rfl)) (by omega) (by omega) (by omega) ?_
  refine tk_putP dX11_init_229 fX11_96 wX11_init_X11_34 rfl (by rw [va_up_ne _ _ (by omega)]; exact hX) ?_
  refine icon_s (k := 28) (j := 34) hI rfl rfl (fun T I L P hI => ?_)
  have hX := hI.o
  refine tk_aload0 dX11_init_232 ?_
  refine tk_sipush dX11_init_233 kc_sipush_128 ?_
  refine tk_newaS (t := 20) dX11_init_236 rfl (by omega) (by omega) tk_ac20 (by first | exact Or.inl rfl | exact Or.inr (Or.inl rfl) | exact Or.inr (Or.inr rfl)) (by omega) (by omega) (by omega) ?_
  refine tk_putP dX11_init_238 fX11_99 wX11_init_X11_37 rfl (by rw [va_up_ne _ _ (by omega)]; exact hX) ?_
  refine icon_s (k := 29) (j := 37) hI rfl rfl (fun T I L P hI => ?_)
  have hX := hI.o
  refine tk_aload0 dX11_init_241 ?_
  refine tk_sipush dX11_init_242 kc_sipush_512 ?_
  refine tk_newaS (t := 20) dX11_init_245 rfl (by omega) (by omega) tk_ac20 (by first | exact Or.inl rfl | exact Or.inr (Or.inl rfl) | exact Or.inr (Or.inr rfl)) (by omega) (by omega) (by omega) ?_
  refine tk_putP dX11_init_247 fX11_102 wX11_init_X11_38 rfl (by rw [va_up_ne _ _ (by omega)]; exact hX) ?_
  refine icon_s (k := 30) (j := 38) hI rfl rfl (fun T I L P hI => ?_)
  have hX := hI.o
  refine tk_aload0 dX11_init_250 ?_
  refine tk_sipush dX11_init_251 kc_sipush_128 ?_
  refine tk_newaS (t := 20) dX11_init_254 rfl (by omega) (by omega) tk_ac20 (by first | exact Or.inl rfl | exact Or.inr (Or.inl rfl) | exact Or.inr (Or.inr rfl)) (by omega) (by omega) (by omega) ?_
  refine tk_putP dX11_init_256 fX11_105 wX11_init_X11_39 rfl (by rw [va_up_ne _ _ (by omega)]; exact hX) ?_
  refine icon_s (k := 31) (j := 39) hI rfl rfl (fun T I L P hI => ?_)
  have hX := hI.o
  refine tk_aload0 dX11_init_259 ?_
  refine tk_sipush dX11_init_260 kc_sipush_128 ?_
  refine tk_newaS (t := 20) dX11_init_263 rfl (by omega) (by omega) tk_ac20 (by first | exact Or.inl rfl | exact Or.inr (Or.inl rfl) | exact Or.inr (Or.inr rfl)) (by omega) (by omega) (by omega) ?_
  refine tk_putP dX11_init_265 fX11_108 wX11_init_X11_40 rfl (by rw [va_up_ne _ _ (by omega)]; exact hX) ?_
  refine icon_s (k := 32) (j := 40) hI rfl rfl (fun T I L P hI => ?_)
  have hX := hI.o
  refine tk_aload0 dX11_init_268 ?_
  refine tk_sipush dX11_init_269 kc_sipush_128 ?_
  refine tk_newaS (t := 20) dX11_init_272 rfl (by omega) (by omega) tk_ac20 (by first | exact Or.inl rfl | exact Or.inr (Or.inl rfl) | exact Or.inr (Or.inr rfl)) (by omega) (by omega) (by omega) ?_
  refine tk_putP dX11_init_274 fX11_111 wX11_init_X11_41 rfl (by rw [va_up_ne _ _ (by omega)]; exact hX) ?_
  refine icon_s (k := 33) (j := 41) hI rfl rfl (fun T I L P hI => ?_)
  have hX := hI.o
  refine tk_aload0 dX11_init_277 ?_
  refine tk_sipush dX11_init_278 kc_sipush_128 ?_
  refine tk_newaS (t := 22) dX11_init_281 rfl (by omega) (by omega) tk_ac22 (by first | exact Or.inl rfl | exact Or.inr (Or.inl rfl) | exact Or.inr (Or.inr rfl)) (by omega) (by omega) (by omega) ?_
  refine tk_putP dX11_init_283 fX11_114 wX11_init_X11_42 rfl (by rw [va_up_ne _ _ (by omega)]; exact hX) ?_
  refine icon_s (k := 34) (j := 42) hI rfl rfl (fun T I L P hI => ?_)
  have hX := hI.o
  refine tk_aload0 dX11_init_286 ?_
  refine tk_sipush dX11_init_287 kc_sipush_128 ?_
  refine tk_newaS (t := 22) dX11_init_290 rfl (by omega) (by omega) tk_ac22 (by first | exact Or.inl rfl | exact Or.inr (Or.inl rfl) | exact Or.inr (Or.inr rfl)) (by omega) (by omega) (by omega) ?_
  refine tk_putP dX11_init_292 fX11_118 wX11_init_X11_43 rfl (by rw [va_up_ne _ _ (by omega)]; exact hX) ?_
  refine icon_s (k := 35) (j := 43) hI rfl rfl (fun T I L P hI => ?_)
  have hX := hI.o
  refine tk_aload0 dX11_init_295 ?_
  refine tk_sipush dX11_init_296 kc_sipush_512 ?_
  refine tk_newaS (t := 21) dX11_init_299 rfl (by omega) (by omega) tk_ac21 (by first | exact Or.inl rfl | exact Or.inr (Or.inl rfl) | exact Or.inr (Or.inr rfl)) (by omega) (by omega) (by omega) ?_
  refine tk_putP dX11_init_301 fX11_121 wX11_init_X11_44 rfl (by rw [va_up_ne _ _ (by omega)]; exact hX) ?_
  refine icon_s (k := 36) (j := 44) hI rfl rfl (fun T I L P hI => ?_)
  have hX := hI.o
  refine tk_aload0 dX11_init_304 ?_
  refine tk_sipush dX11_init_305 kc_sipush_512 ?_
  refine tk_newaS (t := 21) dX11_init_308 rfl (by omega) (by omega) tk_ac21 (by first | exact Or.inl rfl | exact Or.inr (Or.inl rfl) | exact Or.inr (Or.inr rfl)) (by omega) (by omega) (by omega) ?_
  refine tk_putP dX11_init_310 fX11_124 wX11_init_X11_45 rfl (by rw [va_up_ne _ _ (by omega)]; exact hX) ?_
  refine icon_s (k := 37) (j := 45) hI rfl rfl (fun T I L P hI => ?_)
  have hX := hI.o
  refine tk_aload0 dX11_init_313 ?_
  refine tk_sipush dX11_init_314 kc_sipush_128 ?_
  refine tk_newaS (t := 20) dX11_init_317 rfl (by omega) (by omega) tk_ac20 (by first | exact Or.inl rfl | exact Or.inr (Or.inl rfl) | exact Or.inr (Or.inr rfl)) (by omega) (by omega) (by omega) ?_
  refine tk_putP dX11_init_319 fX11_127 wX11_init_X11_46 rfl (by rw [va_up_ne _ _ (by omega)]; exact hX) ?_
  refine icon_s (k := 38) (j := 46) hI rfl rfl (fun T I L P hI => ?_)
  have hX := hI.o
  refine tk_aload0 dX11_init_322 ?_
  refine tk_sipush dX11_init_323 kc_sipush_128 ?_
  refine tk_newaS (t := 20) dX11_init_326 rfl (by omega) (by omega) tk_ac20 (by first | exact Or.inl rfl | exact Or.inr (Or.inl rfl) | exact Or.inr (Or.inr rfl)) (by omega) (by omega) (by omega) ?_
  refine tk_putP dX11_init_328 fX11_130 wX11_init_X11_47 rfl (by rw [va_up_ne _ _ (by omega)]; exact hX) ?_
  refine icon_s (k := 39) (j := 47) hI rfl rfl (fun T I L P hI => ?_)
  have hX := hI.o
  refine tk_aload0 dX11_init_331 ?_
  refine tk_iconst dX11_init_332 kc_iconst_4 ?_
  refine tk_newaS (t := 20) dX11_init_333 rfl (by omega) (by omega) tk_ac20 (by first | exact Or.inl rfl | exact Or.inr (Or.inl rfl) | exact Or.inr (Or.inr rfl)) (by omega) (by omega) (by omega) ?_
  refine tk_putP dX11_init_335 fX11_133 wX11_init_X11_48 rfl (by rw [va_up_ne _ _ (by omega)]; exact hX) ?_
  refine icon_s (k := 40) (j := 48) hI rfl rfl (fun T I L P hI => ?_)
  have hX := hI.o
  refine tk_aload0 dX11_init_338 ?_
  refine tk_iconst dX11_init_339 kc_iconst_4 ?_
  refine tk_newaS (t := 20) dX11_init_340 rfl (by omega) (by omega) tk_ac20 (by first | exact Or.inl rfl | exact Or.inr (Or.inl rfl) | exact Or.inr (Or.inr rfl)) (by omega) (by omega) (by omega) ?_
  refine tk_putP dX11_init_342 fX11_136 wX11_init_X11_49 rfl (by rw [va_up_ne _ _ (by omega)]; exact hX) ?_
  refine icon_s (k := 41) (j := 49) hI rfl rfl (fun T I L P hI => ?_)
  have hX := hI.o
  refine tk_aload0 dX11_init_345 ?_
  refine tk_sipush dX11_init_346 kc_sipush_256 ?_
  refine tk_newaS (t := 20) dX11_init_349 rfl (by omega) (by omega) tk_ac20 (by first | exact Or.inl rfl | exact Or.inr (Or.inl rfl) | exact Or.inr (Or.inr rfl)) (by omega) (by omega) (by omega) ?_
  refine tk_putP dX11_init_351 fX11_139 wX11_init_X11_50 rfl (by rw [va_up_ne _ _ (by omega)]; exact hX) ?_
  refine icon_s (k := 42) (j := 50) hI rfl rfl (fun T I L P hI => ?_)
  have hX := hI.o
  refine tk_aload0 dX11_init_354 ?_
  refine tk_sipush dX11_init_355 kc_sipush_1024 ?_
  refine tk_newaS (t := 20) dX11_init_358 rfl (by omega) (by omega) tk_ac20 (by first | exact Or.inl rfl | exact Or.inr (Or.inl rfl) | exact Or.inr (Or.inr rfl)) (by omega) (by omega) (by omega) ?_
  refine tk_putP dX11_init_360 fX11_142 wX11_init_X11_51 rfl (by rw [va_up_ne _ _ (by omega)]; exact hX) ?_
  refine icon_s (k := 43) (j := 51) hI rfl rfl (fun T I L P hI => ?_)
  have hX := hI.o
  refine tk_aload0 dX11_init_363 ?_
  refine tk_iconst dX11_init_364 kc_iconst_3 ?_
  refine tk_newaS (t := 20) dX11_init_365 rfl (by omega) (by omega) tk_ac20 (by first | exact Or.inl rfl | exact Or.inr (Or.inl rfl) | exact Or.inr (Or.inr rfl)) (by omega) (by omega) (by omega) ?_
  refine tk_putP dX11_init_367 fX11_145 wX11_init_X11_52 rfl (by rw [va_up_ne _ _ (by omega)]; exact hX) ?_
  refine icon_s (k := 44) (j := 52) hI rfl rfl (fun T I L P hI => ?_)
  have hX := hI.o
  refine tk_aload0 dX11_init_370 ?_
  refine tk_bipush dX11_init_371 kc_bipush_14 ?_
  refine tk_newaS (t := 20) dX11_init_373 rfl (by omega) (by omega) tk_ac20 (by first | exact Or.inl rfl | exact Or.inr (Or.inl rfl) | exact Or.inr (Or.inr rfl)) (by omega) (by omega) (by omega) ?_
  refine tk_putP dX11_init_375 fX11_148 wX11_init_X11_53 rfl (by rw [va_up_ne _ _ (by omega)]; exact hX) ?_
  refine icon_s (k := 45) (j := 53) hI rfl rfl (fun T I L P hI => ?_)
  have hR : tkRef T P := ⟨fun a a1 a2 => (hI.1 a a1 (by omega)).1, fun k b _ b1 => hI.2.1 k b b1 (by have := tkRfp_le b1; omega)⟩
  refine tk_aload0 dX11_init_378 ?_
  refine tk_iconst dX11_init_379 kc_iconst_2 ?_
  refine tk_iconst dX11_init_380 kc_iconst_2 ?_
  refine tk_iconst dX11_init_381 kc_iconst_0 ?_
  refine tk_callV3y dX11_init_382 kX11_151 hR.o (r_begins hR (m := 2) (nI 2) (nI 0) (by omega)) (Nat.le_of_ble_eq_true rfl) (by omega) ?_
  refine tk_return dX11_init_385 rfl ?_
  exact ⟨T, I, L, P, rfl, rfl, hR, fun a a1 a2 => (hI.1 a a1 (by omega)).2, hI.2.2⟩
end REFCO
