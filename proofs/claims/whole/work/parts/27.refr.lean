/-! ===== the reference: what is so, without its scratch ===== -/
/-- cells as sets, out of the row of least worlds -/
def pB (ce : Nat → Int32) (W : Nat) : Nat → Int64 := fun j => rSt ce (j / 64) (j % 64) W
def SOP (np W cn : Nat) (F ce gr cs : Nat → Int32) (cl : Nat → Nat) (row : Nat → Int32) (l : Nat) (set : Int64) : Int64 := SOV np W cn F (pB ce W) gr cs cl row l set
theorem CV_congr {np nf W cn : Nat} {F F' : Nat → Int32} {B B' : Nat → Int64} {gr gr' cs cs' : Nat → Int32} {cl : Nat → Nat} (hF : ∀ w, w < W → F w = F' w) (hB : ∀ p, p < np → ∀ w, w < W → B (64 * p + w) = B' (64 * p + w)) (hg : ∀ g, g < 3 → gr g = gr' g) (hc : ∀ c, c < cn → (∀ i, i ≤ cl c - 1 → cs (14 * c + i) = cs' (14 * c + i)) ∧ WF np nf false (fun i => cs (14 * c + i)) 14 (cl c - 1)) (c : Nat) (h : c < cn) (set : Int64) : CV np W cn F B gr cs cl c set = CV np W cn F' B' gr' cs' cl c set :=
  SO_congr hF hB hg (fun _ _ _ => rfl) 14 (cl c - 1) set (hc c h).1 (hc c h).2
theorem SOV_congr {np nf W cn : Nat} {F F' : Nat → Int32} {B B' : Nat → Int64} {gr gr' cs cs' : Nat → Int32} {cl : Nat → Nat} (hF : ∀ w, w < W → F w = F' w) (hB : ∀ p, p < np → ∀ w, w < W → B (64 * p + w) = B' (64 * p + w)) (hg : ∀ g, g < 3 → gr g = gr' g) (hc : ∀ c, c < cn → (∀ i, i ≤ cl c - 1 → cs (14 * c + i) = cs' (14 * c + i)) ∧ WF np nf false (fun i => cs (14 * c + i)) 14 (cl c - 1)) {row row' : Nat → Int32} {l : Nat} (hr : ∀ i, i ≤ l - 1 → row i = row' i) (hw : WF np nf true row 14 (l - 1)) (set : Int64) : SOV np W cn F B gr cs cl row l set = SOV np W cn F' B' gr' cs' cl row' l set :=
  SO_congr hF hB hg (CV_congr hF hB hg hc) 14 (l - 1) set hr hw
theorem rTB_pB {f : Nat → Int64} {c c' : Nat → Int32} {W np : Nat} (hnp : np ≤ 4) (hW : W ≤ 64) (hc : ∀ p, p < np → ∀ w, w < W → c (64 * p + w) = c' (64 * p + w)) : ∀ p, p < np → ∀ w, w < W → rTB f c W np 0 (64 * p + w) = pB c' W (64 * p + w) := by
  intro p hp w hw
  unfold rTB pB
  rw [if_pos (by omega), show (64 * p + w) / 64 = p by omega, show (64 * p + w) % 64 = w by omega, rSt_mk, rSt_mk]
  refine mk_congr (fun u hu => ?_)
  rw [hc p hp u hu, hc p hp w hw]
theorem TH.congr {I J : Nat → Nat → Int32} {np nf W r cn : Nat} {cl : Nat → Nat} (hJ : ∀ a, 41 ≤ a → a ≤ 63 → J a = I a) (h : TH I np nf W r cn cl) : TH J np nf W r cn cl := by
  unfold TH at h ⊢
  rw [hJ 41 (by omega) (by omega), hJ 47 (by omega) (by omega), hJ 48 (by omega) (by omega), hJ 49 (by omega) (by omega), hJ 50 (by omega) (by omega)]
  exact h
theorem MH.congr {I J : Nat → Nat → Int32} {np nf mn : Nat} {mW mr mc : Nat → Nat} {ml : Nat → Nat → Nat} (hJ : ∀ a, 41 ≤ a → a ≤ 63 → J a = I a) (h : MH I np nf mn mW mr mc ml) : MH J np nf mn mW mr mc ml := by
  unfold MH at h ⊢
  rw [hJ 41 (by omega) (by omega), hJ 54 (by omega) (by omega), hJ 57 (by omega) (by omega), hJ 58 (by omega) (by omega)]
  exact h
theorem rVT_64 (I : Nat → Nat → Int32) : rVT I 64 = tkcp (I 64) (I 42) 64 := by simp only [rVT, rVw, va_up_self, bx_uu, tk_une, tk_usrt, not_false_eq_true, Nat.reduceEqDiff, Nat.reduceLT, Nat.reduceAdd, Nat.reduceMul, Nat.reduceLeDiff, reduceCtorEq]
theorem rVT_65 (I : Nat → Nat → Int32) : rVT I 65 = tkcp (I 65) (I 43) 256 := by simp only [rVT, rVw, va_up_self, bx_uu, tk_une, tk_usrt, not_false_eq_true, Nat.reduceEqDiff, Nat.reduceLT, Nat.reduceAdd, Nat.reduceMul, Nat.reduceLeDiff, reduceCtorEq]
theorem rVT_69 (I : Nat → Nat → Int32) : rVT I 69 = tkcp (I 69) (I 45) 3 := by simp only [rVT, rVw, va_up_self, bx_uu, tk_une, tk_usrt, not_false_eq_true, Nat.reduceEqDiff, Nat.reduceLT, Nat.reduceAdd, Nat.reduceMul, Nat.reduceLeDiff, reduceCtorEq]
theorem rVM_64 (I : Nat → Nat → Int32) (m : Nat) : rVM I m 64 = tkcp (I 64) (fun k => I 55 (64 * m + k)) 64 := by simp only [rVM, rVw, va_up_self, bx_uu, tk_une, tk_usrt, not_false_eq_true, Nat.reduceEqDiff, Nat.reduceLT, Nat.reduceAdd, Nat.reduceMul, Nat.reduceLeDiff, reduceCtorEq]
theorem rVM_65 (I : Nat → Nat → Int32) (m : Nat) : rVM I m 65 = tkcp (I 65) (fun k => I 56 (256 * m + k)) 256 := by simp only [rVM, rVw, va_up_self, bx_uu, tk_une, tk_usrt, not_false_eq_true, Nat.reduceEqDiff, Nat.reduceLT, Nat.reduceAdd, Nat.reduceMul, Nat.reduceLeDiff, reduceCtorEq]
theorem rVM_69 (I : Nat → Nat → Int32) (m : Nat) : rVM I m 69 = tkcp (I 69) (fun k => I 59 (3 * m + k)) 3 := by simp only [rVM, rVw, va_up_self, bx_uu, tk_une, tk_usrt, not_false_eq_true, Nat.reduceEqDiff, Nat.reduceLT, Nat.reduceAdd, Nat.reduceMul, Nat.reduceLeDiff, reduceCtorEq]
theorem vwB_eq {I : Nat → Nat → Int32} {L : Nat → Nat → Int64} {np W : Nat} (hnp : np ≤ 4) (hW : W ≤ 64) : ∀ p, p < np → ∀ w, w < W → vwB I L np W (64 * p + w) = pB (I 43) W (64 * p + w) := by
  refine rTB_pB hnp hW (fun p hp w hw => ?_)
  rw [rVT_65, tkcp_lt (by omega)]
theorem TH.claims {I : Nat → Nat → Int32} {np nf W r cn : Nat} {cl : Nat → Nat} (h : TH I np nf W r cn cl) : ∀ c, c < cn → (∀ i, i ≤ cl c - 1 → rVT I 67 (14 * c + i) = I 49 (14 * c + i)) ∧ WF np nf false (fun i => rVT I 67 (14 * c + i)) 14 (cl c - 1) := by
  intro c hc
  have h13 := h.2.2.2.2.2.2.2.2.2.2.2.2.1
  obtain ⟨g1, g2, g3, g4⟩ := h.vh.2.2.2.2.2.2 c hc
  refine ⟨fun i hi => ?_, g4⟩
  rw [rVT_67, tkcp_lt (by omega)]
/-- any sentence in the town's view -/
theorem soV_eq {I : Nat → Nat → Int32} {L : Nat → Nat → Int64} {np nf W r cn : Nat} {cl : Nat → Nat} (h : TH I np nf W r cn cl) {row : Nat → Int32} {l : Nat} (hw : WF np nf true row 14 (l - 1)) (set : Int64) : SOV np W cn (rVT I 64) (vwB I L np W) (rVT I 69) (rVT I 67) cl row l set = SOP np W cn (I 42) (I 43) (I 45) (I 49) cl row l set := by
  have h3 := h.2.2.1
  have h9 := h.2.2.2.2.2.2.2.2.1
  refine SOV_congr (nf := nf) (fun w hw => ?_) (vwB_eq h3 h9) (fun g hg => ?_) h.claims (fun _ _ => rfl) hw set
  · rw [rVT_64, tkcp_lt (by omega)]
  · rw [rVT_69, tkcp_lt hg]
theorem TH.right {I : Nat → Nat → Int32} {np nf W r cn : Nat} {cl : Nat → Nat} (hT : TH I np nf W r cn cl) {s : Nat} (hs : s < 6) (hrt : rRt I (nI s) = true) : ∃ l, I 48 s = nI l ∧ 1 ≤ l ∧ l ≤ 14 ∧ WF np nf true (fun i => I 47 (14 * s + i)) 14 (l - 1) ∧ SZ (fun i => I 47 (14 * s + i)) 14 (l - 1) = l ∧ ∀ i, i < l → rSign (I 47 (14 * s + i)) = true := by
  obtain ⟨t1, t2, t3, t4, t5, t6, t7, t8, t9, t10, t11, t12, t13, t14, t15⟩ := hT
  obtain ⟨l, l1, l2, l3⟩ := t15 s hs
  have hix : ix (nI s) = s := ix_nI (by omega)
  have hil : ix (nI l) = l := ix_nI (by omega)
  have hr : rW (fun i => I 47 (14 * s + i)) (nI np) (nI nf) l 0 (nI 0) < 0 := by
    have := of_decide_eq_true hrt
    rwa [hix, l2, hil, t1, t4] at this
  obtain ⟨w1, w2, w3⟩ := right_WF t3 t6 l1 l3 hr
  exact ⟨l, l2, w1, l1, w2, w3, l3⟩
theorem soT_eq {I : Nat → Nat → Int32} {L : Nat → Nat → Int64} {np nf W r cn : Nat} {cl : Nat → Nat} (h : TH I np nf W r cn cl) {s : Nat} (hs : s < 6) (hrt : rRt I (nI s) = true) : soT I L np W cn cl s = SOP np W cn (I 42) (I 43) (I 45) (I 49) cl (fun i => I 47 (14 * s + i)) (ix (I 48 s)) (evr W) := by
  obtain ⟨l, l1, l2, l3, l4, -⟩ := h.right hs hrt
  unfold soT
  rw [l1, ix_nI (by omega)]
  exact soV_eq h l4 _
def soMp (I : Nat → Nat → Int32) (np : Nat) (mW mc : Nat → Nat) (ml : Nat → Nat → Nat) (m s : Nat) : Int64 := SOP np (mW m) (mc m) (fun k => I 55 (64 * m + k)) (fun k => I 56 (256 * m + k)) (fun k => I 59 (3 * m + k)) (fun k => I 57 (70 * m + k)) (ml m) (fun i => I 47 (14 * s + i)) (ix (I 48 s)) (evr (mW m))
theorem soM_eq {I : Nat → Nat → Int32} {L : Nat → Nat → Int64} {np nf W r cn mn : Nat} {cl mW mr mc : Nat → Nat} {ml : Nat → Nat → Nat} (h : TH I np nf W r cn cl) (hM : MH I np nf mn mW mr mc ml) {m s : Nat} (hm : m < mn) (hs : s < 6) (hrt : rRt I (nI s) = true) : soM I L np (mW m) (mc m) (ml m) m s = soMp I np mW mc ml m s := by
  obtain ⟨l, l1, l2, l3, l4, -⟩ := h.right hs hrt
  have h3 := h.2.2.1
  have hM' := hM
  obtain ⟨q1, q2, q3⟩ := hM'
  obtain ⟨g1, g2, g3, g4, g5, g6, g7, g8⟩ := q3 m hm
  have hv := hM.vh h.1 h3 hm
  unfold soM soMp
  rw [l1, ix_nI (by omega)]
  refine SOV_congr (nf := nf) (fun w hw => ?_) (rTB_pB h3 g3 (fun p hp w hw => ?_)) (fun g hg => ?_) (fun c hc => ?_) (fun _ _ => rfl) l4 _
  · rw [rVM_64, tkcp_lt (by omega)]
  · rw [rVM_65, tkcp_lt (by omega)]
  · rw [rVM_69, tkcp_lt hg]
  · obtain ⟨k1, k2, k3, k4⟩ := hv.2.2.2.2.2.2 c hc
    refine ⟨fun i hi => ?_, k4⟩
    rw [rVM_67, tkcp_lt (by omega)]
section REFR
variable {G : tkG} {n : Nat} {T : Nat → Nat × Nat} {I : Nat → Nat → Int32} {L : Nat → Nat → Int64} {P : Nat → Nat → Option Nat}
theorem r_since (hR : tkRef T P) {np nf W r cn mn : Nat} {cl mW mr mc : Nat → Nat} {ml : Nat → Nat → Nat} (hT : TH I np nf W r cn cl) (hM : MH I np nf mn mW mr mc ml) (s : Int32) : tkM G mX11_since 36 0 0 [vR 40, vI s] (n, T, I, L, P) (rPm n T P L I (rSnC I s (rFm (fun m => tb (soMp I np mW mc ml m (ix s)) (mr m)) mn 0)) (nI ((rFm (fun m => tb (soMp I np mW mc ml m (ix s)) (mr m)) mn 0).getD 0)) I) := by
  have hM' := hM
  obtain ⟨q1, q2, q3⟩ := hM'
  refine tkM.of (ls := [some _, some _, none, none]) (by decide +kernel) (by decide +kernel) (Nat.le_of_ble_eq_true rfl) rfl ?_
  refine tk_aload0 dX11_since_0 ?_
  refine tk_iload1 dX11_since_1 ?_
  refine tk_callV1z dX11_since_2 kX11_323 hR.o (r_asked hR hT.ls s) (Nat.le_of_ble_eq_true rfl) (by omega) ?_
  refine tk_istore2 dX11_since_5 rfl ?_
  refine tk_iload2 dX11_since_6 ?_
  first | refine tk_jf_eqB dX11_since_7 (fun h7 => ?_) (fun h7 => ?_) | refine tk_if_eq dX11_since_7 (fun h7 => ?_) (fun h7 => ?_)
  · refine tk_iconst dX11_since_16 kc_iconst_0 ?_
    obtain ⟨⟨k, hk, rfl⟩, hrt⟩ := rAsk_ok h7
    have hix : ix (nI k) = k := ix_nI (by omega)
    rw [hix, show rSnC I (nI k) (rFm (fun m => tb (soMp I np mW mc ml m k) (mr m)) mn 0) = (if rFm (fun m => tb (soMp I np mW mc ml m k) (mr m)) mn 0 = none then some (-100006) else none) from if_pos h7]
    refine tk_istore3 dX11_since_17 rfl ?_
    have loop : ∀ (j m : Nat) (J : Nat → Nat → Int32) (L' : Nat → Nat → Int64), m + j = mn → (∀ a, 41 ≤ a → a ≤ 63 → J a = I a) → rSm J I → rLm L L' → rFm (fun m => tb (soMp I np mW mc ml m k) (mr m)) mn 0 = rFm (fun m => tb (soMp I np mW mc ml m k) (mr m)) j m → tkX G mX11_since 36 0 0 18 [some (vR 40), some (vI (nI k)), none, some (vI (nI m))] [] (n, T, J, L', P) (rPm n T P L I (if rFm (fun m => tb (soMp I np mW mc ml m k) (mr m)) mn 0 = none then some (-100006) else none) (nI ((rFm (fun m => tb (soMp I np mW mc ml m k) (mr m)) mn 0).getD 0)) I) := by
      intro j
      induction j with
      | zero =>
        intro m J L' e hJ hJI hL' hf
        refine tk_iload3 dX11_since_18 ?_
        refine tk_aload0 dX11_since_19 ?_
        refine tk_getP dX11_since_20 fX11_7 rfl hR.o (hR.p 0 rfl) ?_
        refine tk_bipush dX11_since_23 kc_bipush_6 ?_
        refine tk_iald dX11_since_25 (hR.t 41 rfl) (by omega) (by omega) ?_
        rw [hJ 41 (by omega) (by omega), q1]
        first | refine tk_icmp_geN dX11_since_26 (by omega) (by omega) (fun h26 => ?_) (fun h26 => ?_) | refine tk_jcmp_ge dX11_since_26 (fun h26 => ?_) (fun h26 => ?_)
        · refine tk_aload0 dX11_since_46 ?_
          refine tk_ldc dX11_since_47 klX11_178 ?_
          refine tk_callV1z dX11_since_49 kX11_179 hR.o (r_finding hR _) (Nat.le_of_ble_eq_true rfl) (by omega) ?_
          refine tk_ireturn dX11_since_52 rfl ?_
          exact rPm_f (if_pos hf) hJI hL'
        · exfalso; omega
      | succ j ih =>
        intro m J L' e hJ hJI hL' hf
        have hrJ : rRt J (nI k) = true := by unfold rRt at hrt ⊢; rw [hJ 47 (by omega) (by omega), hJ 41 (by omega) (by omega), hJ 48 (by omega) (by omega)]; exact hrt
        have hcm : tb (soM J L' np (mW m) (mc m) (ml m) m k) (mr m) = tb (soMp I np mW mc ml m k) (mr m) := by
          rw [soM_eq (hT.congr hJ) (hM.congr hJ) (by omega) (by omega) hrJ]
          unfold soMp
          rw [hJ 55 (by omega) (by omega), hJ 56 (by omega) (by omega), hJ 59 (by omega) (by omega), hJ 57 (by omega) (by omega), hJ 47 (by omega) (by omega), hJ 48 (by omega) (by omega)]
        refine tk_iload3 dX11_since_18 ?_
        refine tk_aload0 dX11_since_19 ?_
        refine tk_getP dX11_since_20 fX11_7 rfl hR.o (hR.p 0 rfl) ?_
        refine tk_bipush dX11_since_23 kc_bipush_6 ?_
        refine tk_iald dX11_since_25 (hR.t 41 rfl) (by omega) (by omega) ?_
        rw [hJ 41 (by omega) (by omega), q1]
        first | refine tk_icmp_geN dX11_since_26 (by omega) (by omega) (fun h26 => ?_) (fun h26 => ?_) | refine tk_jcmp_ge dX11_since_26 (fun h26 => ?_) (fun h26 => ?_)
        · exfalso; omega
        · refine tk_aload0 dX11_since_29 ?_
          refine tk_iload3 dX11_since_30 ?_
          refine tk_iload1 dX11_since_31 ?_
          refine tk_callV2z dX11_since_32 kX11_352 hR.o (r_wasSo hR (hT.congr hJ) (hM.congr hJ) (by omega) (by omega) hrJ) (Nat.le_of_ble_eq_true rfl) (by omega) ?_
          first | refine tk_jf_eqB dX11_since_35 (fun h35 => ?_) (fun h35 => ?_) | refine tk_if_eq dX11_since_35 (fun h35 => ?_) (fun h35 => ?_)
          · first | refine tk_iinc3 dX11_since_40 (kc_inc _) rfl ?_ | refine tk_iinc3 dX11_since_40 rfl rfl ?_
            refine tk_goto dX11_since_43 ?_
            exact tk_wk (by repeat' (first | exact trivial | refine ⟨Or.inl rfl, ?_⟩ | refine ⟨Or.inr rfl, ?_⟩)) (ih (m + 1) (rVM J m) (va_up L' 66 (mwB J L' np (mW m) m)) (by omega) (fun a h1 h2 => (rVM_at (by omega)).trans (hJ a h1 h2)) ((rSm_VM J m).tr hJI) (hL'.tr (rLm.up (by omega))) (hf.trans (if_neg (by show ¬ tb (soMp I np mW mc ml m k) (mr m) = true; rw [← hcm, h35]; decide))))
          · refine tk_iload3 dX11_since_38 ?_
            refine tk_ireturn dX11_since_39 rfl ?_
            have hsm : rFm (fun m => tb (soMp I np mW mc ml m k) (mr m)) mn 0 = some m := hf.trans (if_pos (by show tb (soMp I np mW mc ml m k) (mr m) = true; rw [← hcm, h35]))
            exact rPm_g (if_neg (by rw [hsm]; exact fun q => by cases q)) (by rw [hsm]; rfl) ((rSm_VM J m).tr hJI) (hL'.tr (rLm.up (by omega)))
    exact tk_wk (by repeat' (first | exact trivial | refine ⟨Or.inl rfl, ?_⟩ | refine ⟨Or.inr rfl, ?_⟩)) (loop mn 0 I L (by omega) (fun _ _ _ => rfl) rSm.rf rLm.rf rfl)
  · refine tk_aload0 dX11_since_10 ?_
    refine tk_iload2 dX11_since_11 ?_
    refine tk_callV1z dX11_since_12 kX11_179 hR.o (r_finding hR _) (Nat.le_of_ble_eq_true rfl) (by omega) ?_
    refine tk_ireturn dX11_since_15 rfl ?_
    exact rPm_f (if_neg h7) rSm.rf rLm.rf
end REFR
