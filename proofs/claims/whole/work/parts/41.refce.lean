/-! ===== the reference: see ===== -/
theorem mk_cut {I1 : Nat → Nat → Int32} {B : Nat → Int64} {M S : Int64} {a : Int32} {np W r : Nat} (hW : W ≤ 64) (hB : ∀ p, p < np → ∀ w, w < W → tb (B (64 * p + w)) w = true) : (∀ p, p < np → ∀ i, i < cnt M W → mkI I1 M r W (rMp M (mFs B M a S) W (I1 71) np) 71 (128 * p + i) = nI (ix (mkI I1 M r W (rMp M (mFs B M a S) W (I1 71) np) 71 (128 * p + i))) ∧ ix (mkI I1 M r W (rMp M (mFs B M a S) W (I1 71) np) 71 (128 * p + i)) < cnt M W) ∧ MADE np W (I1 64) B M a S (fun p i => ix (mkI I1 M r W (rMp M (mFs B M a S) W (I1 71) np) 71 (128 * p + i))) (mkI I1 M r W (rMp M (mFs B M a S) W (I1 71) np) 70) := by
  have e1 : mkI I1 M r W (rMp M (mFs B M a S) W (I1 71) np) 71 = rMp M (mFs B M a S) W (I1 71) np := by unfold mkI; simp only [va_up_self, bx_uu, tk_une, tk_usrt, not_false_eq_true, Nat.reduceEqDiff, Nat.reduceLT, Nat.reduceAdd, Nat.reduceMul, Nat.reduceLeDiff, reduceCtorEq]
  have e2 : mkI I1 M r W (rMp M (mFs B M a S) W (I1 71) np) 70 = rMf M (I1 64) (I1 70) W := by unfold mkI; simp only [va_up_self, bx_uu, tk_une, tk_usrt, not_false_eq_true, Nat.reduceEqDiff, Nat.reduceLT, Nat.reduceAdd, Nat.reduceMul, Nat.reduceLeDiff, reduceCtorEq]
  rw [e1, e2]
  have key : ∀ p, p < np → ∀ w, w < W → tb M w = true → rMp M (mFs B M a S) W (I1 71) np (128 * p + cnt M w) = nI (cnt M (mFs B M a S p w)) ∧ cnt M (mFs B M a S p w) < cnt M W := by
    intro p hp w hw hm
    obtain ⟨f1, f2, f3⟩ := mFs_of (a := a) (S := S) (show w < 64 by omega) (hB p hp w hw) hm
    exact ⟨rMp_at hW hp hw hm, cnt_lt_of (by omega) f2⟩
  have hle := cnt_le M W
  refine ⟨fun p hp i hi => ?_, fun w hw hm => ⟨rMf_at hw hm, fun p hp => ?_⟩⟩
  · obtain ⟨w, h1, h2, rfl⟩ := cnt_surj hi
    obtain ⟨k1, k2⟩ := key p hp w h1 h2
    rw [k1, ix_nI (by omega)]
    exact ⟨rfl, k2⟩
  · obtain ⟨k1, k2⟩ := key p hp w hw hm
    show ix (rMp M (mFs B M a S) W (I1 71) np (128 * p + cnt M w)) = _
    rw [k1, ix_nI (by omega)]
def LQ (n : Nat) (T : Nat → Nat × Nat) (P : Nat → Nat → Option Nat) (L : Nat → Nat → Int64) (I : Nat → Nat → Int32) (m np W r : Nat) (vf : Nat → Int32) (B : Nat → Int64) (M : Int64) (a : Int32) (S : Int64) : Option tkV → tkH → Prop := fun v h => ∃ (I' : Nat → Nat → Int32) (L' : Nat → Nat → Int64) (W' r' : Nat) (f' c' ff : Nat → Int32) (cc : Nat → Nat → Nat), v = some (vI (nI W')) ∧ h = (n, T, I', L', P) ∧ rSm I' (rLay (rKp I m) (nI W') (nI r') f' c') ∧ rLm L L' ∧ MADE np W vf B M a S cc ff ∧ LAID (cnt M W) (cnt M r) np cc ff W' r' f' c'
theorem rSm_mkI {I J : Nat → Nat → Int32} {M : Int64} {r w : Nat} {g : Nat → Int32} (h : rSm I J) : rSm (mkI I M r w g) J := by
  unfold mkI
  refine ⟨fun a ha => ?_, ?_, ?_⟩
  · rw [va_up_ne _ _ (by omega), va_up_ne _ _ (by omega), va_up_ne _ _ (by omega), va_up_ne _ _ (by omega)]; exact h.1 a ha
  · simp only [va_up_self, bx_uu, tk_une, tk_usrt, not_false_eq_true, Nat.reduceEqDiff, Nat.reduceLT, Nat.reduceAdd, Nat.reduceMul, Nat.reduceLeDiff, reduceCtorEq]; exact h.2.1
  · simp only [va_up_self, bx_uu, tk_une, tk_usrt, not_false_eq_true, Nat.reduceEqDiff, Nat.reduceLT, Nat.reduceAdd, Nat.reduceMul, Nat.reduceLeDiff, reduceCtorEq]; exact h.2.2
theorem rSm_cutB {I J : Nat → Nat → Int32} {f0 f4 f5 g2 g3 g4 g5 g6 : Nat → Int32} (h : rSm I J) (h1 : f0 20 = I 40 20) (h2 : f0 24 = I 40 24) : rSm (cutB I f0 f4 f5 g2 g3 g4 g5 g6) J := by
  unfold cutB
  refine ⟨fun a ha => ?_, ?_, ?_⟩
  · rw [va_up_ne _ _ (by omega), va_up_ne _ _ (by omega), va_up_ne _ _ (by omega), va_up_ne _ _ (by omega), va_up_ne _ _ (by omega), va_up_ne _ _ (by omega), va_up_ne _ _ (by omega), va_up_ne _ _ (by omega)]; exact h.1 a ha
  · simp only [va_up_self, bx_uu, tk_une, tk_usrt, not_false_eq_true, Nat.reduceEqDiff, Nat.reduceLT, Nat.reduceAdd, Nat.reduceMul, Nat.reduceLeDiff, reduceCtorEq]; rw [h1]; exact h.2.1
  · simp only [va_up_self, bx_uu, tk_une, tk_usrt, not_false_eq_true, Nat.reduceEqDiff, Nat.reduceLT, Nat.reduceAdd, Nat.reduceMul, Nat.reduceLeDiff, reduceCtorEq]; rw [h2]; exact h.2.2
/-- behind cut: what lay lays -/
theorem LQ_of {n : Nat} {T : Nat → Nat × Nat} {P : Nat → Nat → Option Nat} {L L' : Nat → Nat → Int64} {I J : Nat → Nat → Int32} {m np W r W' r' : Nat} {vf ff : Nat → Int32} {B : Nat → Int64} {M S : Int64} {a : Int32} {cc : Nat → Nat → Nat} (h1 : rSm J I) (h2 : rLm L L') (hW : J 40 26 = nI W') (hr : J 40 27 = nI r') (h3 : MADE np W vf B M a S cc ff) (h4 : LAID (cnt M W) (cnt M r) np cc ff W' r' (J 64) (J 65)) : LQ n T P L I m np W r vf B M a S (some (vI (J 40 26))) (n, T, rLay (rKp J m) (J 40 26) (J 40 27) (J 64) (J 65), L', P) := by
  rw [hW, hr]
  exact ⟨_, L', W', r', J 64, J 65, ff, cc, rfl, rfl, rSm_Lay (rSm_Kp h1), h2, h3, h4⟩
theorem MADE_congr {np W : Nat} {vf vf' ff : Nat → Int32} {B B' : Nat → Int64} {M S : Int64} {a : Int32} {cc : Nat → Nat → Nat} (hv : ∀ w, w < W → vf w = vf' w) (hB : ∀ p, p < np → ∀ w, w < W → B (64 * p + w) = B' (64 * p + w)) (h : MADE np W vf B M a S cc ff) : MADE np W vf' B' M a S cc ff := by
  intro w hw hm
  obtain ⟨h1, h2⟩ := h w hw hm
  refine ⟨h1.trans (hv w hw), fun p hp => ?_⟩
  rw [h2 p hp]
  unfold mFs mCl
  rw [hB p hp w hw]
theorem pB_w {ce : Nat → Int32} {W p w : Nat} (hw : w < W) (hW : W ≤ 64) : tb (pB ce W (64 * p + w)) w = true := by
  unfold pB
  rw [show (64 * p + w) / 64 = p by omega, show (64 * p + w) % 64 = w by omega, rSt_mk, tb_mk _ hW (by omega), decide_eq_true hw, decide_eq_true rfl]
  rfl
def rLq (n : Nat) (T : Nat → Nat × Nat) (P : Nat → Nat → Option Nat) (L : Nat → Nat → Int64) (I : Nat → Nat → Int32) (c : Option Int32) (Q : Option tkV → tkH → Prop) : Option tkV → tkH → Prop := match c with
  | some f => rPt n T P L f (rFnd I)
  | none => Q
theorem rLq_f {n : Nat} {T : Nat → Nat × Nat} {P : Nat → Nat → Option Nat} {L L' : Nat → Nat → Int64} {c : Option Int32} {Q : Option tkV → tkH → Prop} {f : Int32} {I I' : Nat → Nat → Int32} (e : c = some f) (h1 : rSm I' I) (h2 : rLm L L') : rLq n T P L I c Q (some (vI f)) (n, T, rFnd I', L', P) := by subst e; exact rPt_i rfl (rSm_Fnd h1) h2
theorem rLq_g {n : Nat} {T : Nat → Nat × Nat} {P : Nat → Nat → Option Nat} {L : Nat → Nat → Int64} {c : Option Int32} {Q : Option tkV → tkH → Prop} {I : Nat → Nat → Int32} {r : Option tkV} {h : tkH} (e : c = none) (hq : Q r h) : rLq n T P L I c Q r h := by subst e; exact hq
def rSeC (I : Nat → Nat → Int32) (p f : Int32) : Option Int32 := if (rPer (I 41 0) p && rPer (I 41 1) f) = true then none else some (-100001)
section REFCE
variable {G : tkG} {n : Nat} {T : Nat → Nat × Nat} {I : Nat → Nat → Int32} {L : Nat → Nat → Int64} {P : Nat → Nat → Option Nat}
theorem r_see (hR : tkRef T P) {np nf W r cn m : Nat} {cl : Nat → Nat} (hT : TH I np nf W r cn cl) (hm : m ≤ 12) (hk : I 40 20 = nI m) (p f : Int32) : tkM G mX11_see 4 0 0 [vR 40, vI p, vI f] (n, T, I, L, P) (rLq n T P L I (rSeC I p f) (LQ n T P L I m np W r (I 42) (pB (I 43) W) (evr W) p (rSF (I 42) W (ix f)))) := by
  have hT' := hT
  obtain ⟨t1, t2, t3, t4, t5, t6, t7, t8, t9, t10, t11, t12, t13, t14, t15⟩ := hT'
  have hV26 : rVT I 40 26 = nI W := by rw [rVT_40]; simp only [va_up_self, bx_uu, tk_une, tk_usrt, not_false_eq_true, Nat.reduceEqDiff, Nat.reduceLT, Nat.reduceAdd, Nat.reduceMul, Nat.reduceLeDiff, reduceCtorEq]; exact t7
  have hV27 : rVT I 40 27 = nI r := by rw [rVT_40]; simp only [va_up_self, bx_uu, tk_une, tk_usrt, not_false_eq_true, Nat.reduceEqDiff, Nat.reduceLT, Nat.reduceAdd, Nat.reduceMul, Nat.reduceLeDiff, reduceCtorEq]; exact t10
  have hB : ∀ p, p < np → ∀ w, w < W → tb (va_up L 66 (vwB I L np W) 66 (64 * p + w)) w = true := fun p hp w hw => by rw [va_up_self, vwB_eq t3 t9 p hp w hw]; exact pB_w hw t9
  have her : tb (evr W) r = true := by rw [tb_evr t9 (by omega), decide_eq_true t11]
  have hcw := cnt_le (evr W) W
  have hM41 : ∀ {g}, mkI (rVT I) (evr W) r W g 41 0 = nI np := by intro g; unfold mkI; simp only [va_up_self, bx_uu, tk_une, tk_usrt, not_false_eq_true, Nat.reduceEqDiff, Nat.reduceLT, Nat.reduceAdd, Nat.reduceMul, Nat.reduceLeDiff, reduceCtorEq]; rw [rVT_at (by omega)]; exact t1
  have hM35 : ∀ {g}, mkI (rVT I) (evr W) r W g 40 35 = nI (cnt (evr W) W) := by intro g; unfold mkI; simp only [va_up_self, bx_uu, tk_une, tk_usrt, not_false_eq_true, Nat.reduceEqDiff, Nat.reduceLT, Nat.reduceAdd, Nat.reduceMul, Nat.reduceLeDiff, reduceCtorEq]
  have hM36 : ∀ {g}, mkI (rVT I) (evr W) r W g 40 36 = nI (cnt (evr W) r) := by intro g; unfold mkI; simp only [va_up_self, bx_uu, tk_une, tk_usrt, not_false_eq_true, Nat.reduceEqDiff, Nat.reduceLT, Nat.reduceAdd, Nat.reduceMul, Nat.reduceLeDiff, reduceCtorEq]; exact rMr_at t11 her
  have hM20 : ∀ {g}, mkI (rVT I) (evr W) r W g 40 20 = nI m := by intro g; unfold mkI; simp only [va_up_self, bx_uu, tk_une, tk_usrt, not_false_eq_true, Nat.reduceEqDiff, Nat.reduceLT, Nat.reduceAdd, Nat.reduceMul, Nat.reduceLeDiff, reduceCtorEq]; rw [rVT_40]; simp only [va_up_self, bx_uu, tk_une, tk_usrt, not_false_eq_true, Nat.reduceEqDiff, Nat.reduceLT, Nat.reduceAdd, Nat.reduceMul, Nat.reduceLeDiff, reduceCtorEq]; exact hk
  have hJ20 : ∀ {g x y f4 f5 g2 g3 g4 g5 g6}, cutB (mkI (rVT I) (evr W) r W g) (va_up (va_up (mkI (rVT I) (evr W) r W g 40) 27 x) 26 y) f4 f5 g2 g3 g4 g5 g6 40 20 = nI m := by intro g x y f4 f5 g2 g3 g4 g5 g6; unfold cutB; simp only [va_up_self, bx_uu, tk_une, tk_usrt, not_false_eq_true, Nat.reduceEqDiff, Nat.reduceLT, Nat.reduceAdd, Nat.reduceMul, Nat.reduceLeDiff, reduceCtorEq]; exact hM20
  refine tkM.of (ls := [some _, some _, some _, none, none, none]) (by decide +kernel) (by decide +kernel) (Nat.le_of_ble_eq_true rfl) rfl ?_
  refine tk_aload0 dX11_see_0 ?_
  refine tk_iload1 dX11_see_1 ?_
  refine tk_callV1z dX11_see_2 kX11_187 hR.o (r_isPerson hR _) (Nat.le_of_ble_eq_true rfl) (by omega) ?_
  first | refine tk_jf_eqB dX11_see_5 (fun h5 => ?_) (fun h5 => ?_) | refine tk_if_eq dX11_see_5 (fun h5 => ?_) (fun h5 => ?_)
  · refine tk_aload0 dX11_see_16 ?_
    refine tk_ldc dX11_see_17 klX11_183 ?_
    refine tk_callV1z dX11_see_19 kX11_179 hR.o (r_finding hR _) (Nat.le_of_ble_eq_true rfl) (by omega) ?_
    refine tk_ireturn dX11_see_22 rfl ?_
    refine rLq_f (if_neg (fun e => ?_)) rSm.rf rLm.rf
    rw [Bool.and_eq_true] at e
    first | exact absurd (h5.symm.trans e.1) Bool.false_ne_true | exact absurd (h13.symm.trans e.2) Bool.false_ne_true
  · refine tk_aload0 dX11_see_8 ?_
    refine tk_iload2 dX11_see_9 ?_
    refine tk_callV1z dX11_see_10 kX11_209 hR.o (r_isFact hR _) (Nat.le_of_ble_eq_true rfl) (by omega) ?_
    first | refine tk_jf_neB dX11_see_13 (fun h13 => ?_) (fun h13 => ?_) | refine tk_if_ne dX11_see_13 (fun h13 => ?_) (fun h13 => ?_)
    · refine tk_aload0 dX11_see_23 ?_
      obtain ⟨p', hp1, rfl⟩ := rPe_of h5 t1 (by omega)
      obtain ⟨f', hf1, rfl⟩ := rPe_of h13 t4 (by omega)
      have hcode : (rPer (I 41 0) (nI p') && rPer (I 41 1) (nI f')) = true := by rw [h5, h13]; rfl
      have hv4 : ∀ w, w < W → rVT I 64 w = I 42 w := fun w hw => by rw [show rVT I 64 = tkcp (I 64) (I 42) 64 by simp only [rVT, rVw, va_up_self, bx_uu, tk_une, tk_usrt, not_false_eq_true, Nat.reduceEqDiff, Nat.reduceLT, Nat.reduceAdd, Nat.reduceMul, Nat.reduceLeDiff, reduceCtorEq]]; exact tkcp_lt (by omega)
      have hSF : rSF (I 42) W f' = mk (fun w => decide (kshr (rVT I 64 w) (nI f') &&& nI 1 = nI 1)) W := mk_congr (fun w hw => by rw [hv4 w hw])
      refine tk_callV0y dX11_see_24 kX11_275 hR.o (r_viewTown hR t1 t3 t7 t9) (Nat.le_of_ble_eq_true rfl) (by omega) ?_
      refine tk_lconst dX11_see_27 (v := 0) (by decide) ?_
      refine tk_lstore3 dX11_see_28 rfl ?_
      refine tk_iconst dX11_see_29 kc_iconst_0 ?_
      refine tk_istore5 dX11_see_30 rfl ?_
      refine tk_fr 0 W (fun w => [some (vR 40), some (vI (nI p')), some (vI (nI f')), some (vL (mk (fun w => decide (kshr (rVT I 64 w) (nI f') &&& nI 1 = nI 1)) w)), none, some (vI (nI w))]) (fun w => (n, T, rVT I, va_up L 66 (vwB I L np W), P)) (by omega) (by repeat' (first | exact trivial | refine ⟨Or.inl rfl, ?_⟩ | refine ⟨Or.inr rfl, ?_⟩)) rfl ?_ ?_
      · refine tk_iload5 dX11_see_32 ?_
        refine tk_aload0 dX11_see_34 ?_
        refine tk_getI dX11_see_35 fX11_215 rfl hR.o ?_
        rw [hV26]
        first | refine tk_icmp_geN dX11_see_38 (by omega) (by omega) (fun h38 => ?_) (fun h38 => ?_) | refine tk_jcmp_ge dX11_see_38 (fun h38 => ?_) (fun h38 => ?_)
        · refine tk_aload0 dX11_see_73 ?_
          refine tk_aload0 dX11_see_74 ?_
          refine tk_callV0z dX11_see_75 kX11_252 hR.o (r_every hR hV26 t9) (Nat.le_of_ble_eq_true rfl) (by omega) ?_
          refine tk_iload1 dX11_see_78 ?_
          refine tk_lload3 dX11_see_79 ?_
          refine tk_callV3y dX11_see_80 kX11_278 hR.o (r_make hR (np := np) (W := W) (r := r) (by rw [rVT_at (by omega)]; exact t1) t3 hV26 t9 hV27 t11 hB (evr W) (mk (fun w => decide (kshr (rVT I 64 w) (nI f') &&& nI 1 = nI 1)) W) (nI p')) (Nat.le_of_ble_eq_true rfl) (by omega) ?_
          refine tk_aload0 dX11_see_83 ?_
          refine tk_callV0q dX11_see_84 kX11_282 hR.o (r_cut (c := fun p i => ix (mkI (rVT I) (evr W) r W (rMp (evr W) (mFs (va_up L 66 (vwB I L np W) 66) (evr W) (nI p') (mk (fun w => decide (kshr (rVT I 64 w) (nI f') &&& nI 1 = nI 1)) W)) W (rVT I 71) np) 71 (128 * p + i))) (N := cnt (evr W) W) (r0 := cnt (evr W) r) (np := np) hR hM41 t3 hM35 (by omega) hM36 (cnt_lt_of t11 her) (mk_cut (r := r) t9 hB).1) (Nat.le_of_ble_eq_true rfl) (by omega) ?_
          rintro rr h1 ⟨R, kd, g2, g3, g4, g5, g6, l7, l8, q1, q2, q3⟩
          have hcl := cntR_le (reps R kd) (cnt (evr W) W)
          rcases q3 with ⟨q4, -, -⟩ | ⟨q4, rfl, rfl⟩
          · exfalso; omega
          dsimp only [Option.toList, List.cons_append, List.nil_append]
          refine tk_istore5 dX11_see_87 rfl ?_
          refine tk_aload0 dX11_see_89 ?_
          refine tk_callV0z dX11_see_90 kX11_286 hR.o (r_lay hR hm hJ20) (Nat.le_of_ble_eq_true rfl) (by omega) ?_
          refine tk_ireturn dX11_see_93 rfl ?_
          refine rLq_g (if_pos hcode) ?_
          have hix : ix (nI f') = f' := ix_nI (by omega)
          rw [hix, hSF]
          refine LQ_of (W' := cntR (reps R kd) (cnt (evr W) W)) (r' := cntR (reps R kd) (kd (cnt (evr W) r))) (rSm_cutB (rSm_mkI (rSm_VT I)) (by simp only [va_up_self, bx_uu, tk_une, tk_usrt, not_false_eq_true, Nat.reduceEqDiff, Nat.reduceLT, Nat.reduceAdd, Nat.reduceMul, Nat.reduceLeDiff, reduceCtorEq]) (by simp only [va_up_self, bx_uu, tk_une, tk_usrt, not_false_eq_true, Nat.reduceEqDiff, Nat.reduceLT, Nat.reduceAdd, Nat.reduceMul, Nat.reduceLeDiff, reduceCtorEq])) ?_ (by unfold cutB; simp only [va_up_self, bx_uu, tk_une, tk_usrt, not_false_eq_true, Nat.reduceEqDiff, Nat.reduceLT, Nat.reduceAdd, Nat.reduceMul, Nat.reduceLeDiff, reduceCtorEq]) (by unfold cutB; simp only [va_up_self, bx_uu, tk_une, tk_usrt, not_false_eq_true, Nat.reduceEqDiff, Nat.reduceLT, Nat.reduceAdd, Nat.reduceMul, Nat.reduceLeDiff, reduceCtorEq]) (MADE_congr hv4 (fun p hp w hw => by rw [va_up_self]; exact vwB_eq t3 t9 p hp w hw) (mk_cut (r := r) t9 hB).2) ?_
          · exact fun b hb => by rw [va_up_ne _ _ (by omega), va_up_ne _ _ (by omega), va_up_ne _ _ (by omega), va_up_ne _ _ (by omega)]
          · refine ⟨R, kd, q1, q2, rfl, q4, rfl, fun w hw hr => ?_, fun p hp w hw hr => ?_⟩
            · unfold cutB; simp only [va_up_self, bx_uu, tk_une, tk_usrt, not_false_eq_true, Nat.reduceEqDiff, Nat.reduceLT, Nat.reduceAdd, Nat.reduceMul, Nat.reduceLeDiff, reduceCtorEq]; exact rCf_at hw hr
            · unfold cutB; simp only [va_up_self, bx_uu, tk_une, tk_usrt, not_false_eq_true, Nat.reduceEqDiff, Nat.reduceLT, Nat.reduceAdd, Nat.reduceMul, Nat.reduceLeDiff, reduceCtorEq]; exact rCc_at hp q4 hw hr
        · exfalso; omega
      · intro w _ hw kk
        refine tk_iload5 dX11_see_32 ?_
        refine tk_aload0 dX11_see_34 ?_
        refine tk_getI dX11_see_35 fX11_215 rfl hR.o ?_
        rw [hV26]
        first | refine tk_icmp_geN dX11_see_38 (by omega) (by omega) (fun h38 => ?_) (fun h38 => ?_) | refine tk_jcmp_ge dX11_see_38 (fun h38 => ?_) (fun h38 => ?_)
        · exfalso; omega
        · refine tk_lload3 dX11_see_41 ?_
          refine tk_aload0 dX11_see_42 ?_
          refine tk_getP dX11_see_43 fX11_80 rfl hR.o (hR.p 28 rfl) ?_
          refine tk_iload5 dX11_see_46 ?_
          refine tk_iald dX11_see_48 (hR.t 64 rfl) (by omega) (by omega) ?_
          refine tk_iload2 dX11_see_49 ?_
          refine tk_ishr dX11_see_50 ?_
          refine tk_iconst dX11_see_51 kc_iconst_1 ?_
          refine tk_iand dX11_see_52 ?_
          refine tk_iconst dX11_see_53 kc_iconst_1 ?_
          first | refine tk_icmp_neN dX11_see_54 (by omega) (by omega) (fun h54 => ?_) (fun h54 => ?_) | refine tk_icmp_ne dX11_see_54 (fun h54 => ?_) (fun h54 => ?_)
          · refine tk_lconst dX11_see_64 (v := 0) (by decide) ?_
            refine tk_lor dX11_see_65 ?_
            refine tk_lstore3 dX11_see_66 rfl ?_
            first | refine tk_iinc5 dX11_see_67 (kc_inc _) rfl ?_ | refine tk_iinc5 dX11_see_67 rfl rfl ?_
            refine tk_goto dX11_see_70 ?_
            refine kk _ ?_
            first | rw [mk_t (f := fun w => decide (kshr (rVT I 64 w) (nI f') &&& nI 1 = nI 1)) (decide_eq_true h54)] | rw [mk_f (f := fun w => decide (kshr (rVT I 64 w) (nI f') &&& nI 1 = nI 1)) (decide_eq_false h54), or0]
            exact (by repeat' (first | exact trivial | refine ⟨Or.inl rfl, ?_⟩ | refine ⟨Or.inr rfl, ?_⟩))
          · refine tk_lconst dX11_see_57 (v := 1) (by decide) ?_
            refine tk_iload5 dX11_see_58 ?_
            refine tk_lshl dX11_see_60 ?_
            refine tk_goto dX11_see_61 ?_
            refine tk_lor dX11_see_65 ?_
            refine tk_lstore3 dX11_see_66 rfl ?_
            first | refine tk_iinc5 dX11_see_67 (kc_inc _) rfl ?_ | refine tk_iinc5 dX11_see_67 rfl rfl ?_
            refine tk_goto dX11_see_70 ?_
            refine kk _ ?_
            first | rw [mk_t (f := fun w => decide (kshr (rVT I 64 w) (nI f') &&& nI 1 = nI 1)) (decide_eq_true h54)] | rw [mk_f (f := fun w => decide (kshr (rVT I 64 w) (nI f') &&& nI 1 = nI 1)) (decide_eq_false h54), or0]
            exact (by repeat' (first | exact trivial | refine ⟨Or.inl rfl, ?_⟩ | refine ⟨Or.inr rfl, ?_⟩))
    · refine tk_aload0 dX11_see_16 ?_
      refine tk_ldc dX11_see_17 klX11_183 ?_
      refine tk_callV1z dX11_see_19 kX11_179 hR.o (r_finding hR _) (Nat.le_of_ble_eq_true rfl) (by omega) ?_
      refine tk_ireturn dX11_see_22 rfl ?_
      refine rLq_f (if_neg (fun e => ?_)) rSm.rf rLm.rf
      rw [Bool.and_eq_true] at e
      first | exact absurd (h5.symm.trans e.1) Bool.false_ne_true | exact absurd (h13.symm.trans e.2) Bool.false_ne_true
end REFCE
