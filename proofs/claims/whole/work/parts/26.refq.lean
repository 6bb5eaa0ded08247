/-! ===== the reference: binding, then, since, lie ===== -/
theorem mk_congr {f g : Nat → Bool} {W : Nat} (h : ∀ w, w < W → f w = g w) : mk f W = mk g W := by
  induction W with
  | zero => rfl
  | succ W ih => rw [mk, mk, ih (fun w hw => h w (by omega)), h W (by omega)]
section CONG
variable {np nf W cn : Nat} {F F' : Nat → Int32} {B B' : Nat → Int64} {gr gr' : Nat → Int32}
theorem rEa_congr (hB : ∀ p, p < np → ∀ w, w < W → B (64 * p + w) = B' (64 * p + w)) (g : Int32) {w : Nat} (hw : w < W) (x set : Int64) : ∀ p, p ≤ np → rEa B g w x set p = rEa B' g w x set p := by
  intro p
  induction p with
  | zero => intro _; rfl
  | succ p ih => intro hp; rw [rEa, rEa, ih (by omega), rKn, rKn, hB p (by omega) w hw]
theorem rTo_congr (hB : ∀ p, p < np → ∀ w, w < W → B (64 * p + w) = B' (64 * p + w)) (g : Int32) {w : Nat} (hw : w < W) (set : Int64) : ∀ p, p ≤ np → rTo B g w set p = rTo B' g w set p := by
  intro p
  induction p with
  | zero => intro _; rfl
  | succ p ih => intro hp; rw [rTo, rTo, ih (by omega), hB p (by omega) w hw]
theorem rCw_congr (hB : ∀ p, p < np → ∀ w, w < W → B (64 * p + w) = B' (64 * p + w)) (set : Int64) {p : Nat} (hp : p < np) (is : Int64) : ∀ w, w ≤ W → rCw B set p is w = rCw B' set p is w := by
  intro w
  induction w with
  | zero => intro _; rfl
  | succ w ih => intro hw; rw [rCw, rCw, ih (by omega), hB p hp w (by omega)]
theorem rCp_congr (hB : ∀ p, p < np → ∀ w, w < W → B (64 * p + w) = B' (64 * p + w)) (set : Int64) (g : Int32) (is : Int64) : ∀ p, p ≤ np → rCp B set g W is p = rCp B' set g W is p := by
  intro p
  induction p with
  | zero => intro _; rfl
  | succ p ih => intro hp; rw [rCp, rCp, ih (by omega), rCw_congr hB set (by omega) _ W (Nat.le_refl _)]
theorem rCl_congr (hB : ∀ p, p < np → ∀ w, w < W → B (64 * p + w) = B' (64 * p + w)) (set : Int64) (g : Int32) : ∀ k is, rCl B set g W np k is = rCl B' set g W np k is := by
  intro k
  induction k with
  | zero => intro is; rfl
  | succ k ih => intro is; rw [rCl, rCl, rCp_congr hB set g is np (Nat.le_refl _), ih]
theorem rRe_congr {cv cv' : Nat → Int64} (dn : Nat) : ∀ c, (∀ i, i < c → cv i = cv' i) → ∀ rest, rRe cv dn c rest = rRe cv' dn c rest := by
  intro c
  induction c with
  | zero => intro _ _; rfl
  | succ c ih => intro h rest; rw [rRe, rRe, h c (by omega), ih (fun i hi => h i (by omega))]
theorem rIsS_congr (hB : ∀ p, p < np → ∀ w, w < W → B (64 * p + w) = B' (64 * p + w)) (hg : ∀ g, g < 3 → gr g = gr' g) {cv cv' : Nat → Int64} (hcv : ∀ c, c < cn → cv c = cv' c) {v w : Nat} (hw : w < W) (h40 : v ≤ 40) (h20 : 20 ≤ v) (hp : v < 32 → v % 4 < np) (x set : Int64) : rIsS np W B gr cn cv v w x set = rIsS np W B' gr' cn cv' v w x set := by
  unfold rIsS
  by_cases h1 : v < 24
  · rw [if_pos h1, if_pos h1, rKn, rKn, hB (v - 20) (by have := hp (by omega); omega) w hw]
  · rw [if_neg h1, if_neg h1]
    by_cases h2 : v < 28
    · rw [if_pos h2, if_pos h2, hB (v - 24) (by have := hp (by omega); omega) w hw]
    · rw [if_neg h2, if_neg h2]
      by_cases h3 : v < 32
      · rw [if_pos h3, if_pos h3, hB (v - 28) (by have := hp (by omega); omega) w hw, rRe_congr 0 cn hcv]
      · rw [if_neg h3, if_neg h3, hg (rGi v) (by unfold rGi; split; omega; split <;> omega), rEa_congr hB _ hw x set np (Nat.le_refl _), rTo_congr hB _ hw set np (Nat.le_refl _), rCl_congr hB]
theorem SO_congr (hF : ∀ w, w < W → F w = F' w) (hB : ∀ p, p < np → ∀ w, w < W → B (64 * p + w) = B' (64 * p + w)) (hg : ∀ g, g < 3 → gr g = gr' g) {cv cv' : Nat → Int64 → Int64} (hcv : ∀ c, c < cn → ∀ set, cv c set = cv' c set) {bl : Bool} {row row' : Nat → Int32} : ∀ (k a : Nat) (set : Int64), (∀ i, i ≤ a → row i = row' i) → WF np nf bl row k a → SO np W cn F B gr cv row k a set = SO np W cn F' B' gr' cv' row' k a set := by
  intro k
  induction k with
  | zero => intro a set _ h; exact h.elim
  | succ k ih =>
    intro a set hr hw
    obtain ⟨v, hv, hv40, hc⟩ := hw
    have hix : ix (row a) = v := by rw [hv]; exact ix_nI (by omega)
    have hix' : ix (row' a) = v := by rw [← hr a (Nat.le_refl a)]; exact hix
    have g1 := fun s h => ih (a - 1) s (fun i hi => hr i (by omega)) h
    have e1 := SZ_congr k (a - 1) (fun i hi => hr i (show i ≤ a by omega))
    rcases hc with ⟨h0, h1⟩ | ⟨h0, h1, h2⟩ | ⟨h0, h3, h1, h2, h4, h5⟩ | ⟨h0, h3, h4, h5, h1, h2⟩ | ⟨h0, h1, h2⟩
    · rw [SO_f hix (by omega), SO_f hix' (by omega), rSF, rSF, mk_congr (fun w hw => by rw [hF w hw])]
    · rw [SO_1 hix (by omega) (by omega), SO_1 hix' (by omega) (by omega), g1 set h2, so1, so1, if_pos h0, if_pos h0]
    · have g2 := fun s => ih (a - 1 - SZ row k (a - 1)) s (fun i hi => hr i (by omega)) h5
      rw [SO_2 hix ⟨h0, h3⟩, SO_2 hix' ⟨h0, h3⟩, ← e1, g2 set, g1 _ h2]
    · rw [SO_1 hix (by omega) (by omega), SO_1 hix' (by omega) (by omega), g1 set h2, so1, so1, if_neg (by omega), if_neg (by omega)]
      exact mk_congr (fun w hw => by rw [rIsS_congr hB hg (fun c hc => hcv c hc set) hw hv40 h0 (fun _ => h4)])
    · rw [SO_1 hix (by omega) (by omega), SO_1 hix' (by omega) (by omega), g1 set h2, so1, so1, if_neg (by omega), if_neg (by omega)]
      exact mk_congr (fun w hw => by rw [rIsS_congr hB hg (fun c hc => hcv c hc set) hw hv40 (by omega) (by omega)])
end CONG
section REFQ
variable {G : tkG} {n : Nat} {T : Nat → Nat × Nat} {I : Nat → Nat → Int32} {L : Nat → Nat → Int64} {P : Nat → Nat → Option Nat}
theorem r_binding (hR : tkRef T P) {np nf W r cn pn : Nat} {cl pl pg : Nat → Nat} (hT : TH I np nf W r cn cl) (hP : PH I np nf pn pl pg) : tkM G mX11_binding 34 0 0 [vR 40] (n, T, I, L, P) (rPt n T P L (rBi (paT I L np W r cn cl pl pg) pn) I) := by
  have hT' := hT
  obtain ⟨t1, t2, t3, t4, t5, t6, t7, t8, t9, t10, t11, t12, t13, t14, t15⟩ := hT'
  have hv := hT.vh
  have hvw : rVT I 40 26 = nI W := hv.2.2.1
  have hvr : rVT I 40 27 = nI r := by rw [rVT_40]; simp only [va_up_self, bx_uu, tk_une, tk_usrt, not_false_eq_true, Nat.reduceEqDiff, Nat.reduceLT, Nat.reduceAdd, Nat.reduceMul, Nat.reduceLeDiff, reduceCtorEq]; exact t10
  obtain ⟨p1, p2, p3⟩ := hP
  refine tkM.of (ls := [some _, none, none, none, none]) (by decide +kernel) (by decide +kernel) (Nat.le_of_ble_eq_true rfl) rfl ?_
  refine tk_aload0 dX11_binding_0 ?_
  refine tk_callV0y dX11_binding_1 kX11_275 hR.o (r_viewTown hR t1 t3 t7 t9) (Nat.le_of_ble_eq_true rfl) (by omega) ?_
  refine tk_iconst dX11_binding_4 kc_iconst_0 ?_
  refine tk_istore1 dX11_binding_5 rfl ?_
  refine tk_iconst dX11_binding_6 kc_iconst_0 ?_
  refine tk_istore2 dX11_binding_7 rfl ?_
  refine tk_fr 0 pn (fun k => [some (vR 40), some (vI (rBi (paT I L np W r cn cl pl pg) k)), some (vI (nI k)), none, none]) (fun k => (n, T, rVT I, va_up L 66 (vwB I L np W), P)) (by omega) (by repeat' (first | exact trivial | refine ⟨Or.inl rfl, ?_⟩ | refine ⟨Or.inr rfl, ?_⟩)) rfl ?_ ?_
  · refine tk_iload2 dX11_binding_8 ?_
    refine tk_aload0 dX11_binding_9 ?_
    refine tk_getP dX11_binding_10 fX11_7 rfl hR.o (hR.p 0 rfl) ?_
    refine tk_iconst dX11_binding_13 kc_iconst_5 ?_
    refine tk_iald dX11_binding_14 (hR.t 41 rfl) (by omega) (by omega) ?_
    rw [rVT_at (a := 41) (by omega), p1]
    first | refine tk_icmp_geN dX11_binding_15 (by omega) (by omega) (fun h15 => ?_) (fun h15 => ?_) | refine tk_jcmp_ge dX11_binding_15 (fun h15 => ?_) (fun h15 => ?_)
    · refine tk_iload1 dX11_binding_96 ?_
      refine tk_ireturn dX11_binding_97 rfl ?_
      exact rPt_i rfl (rSm_VT I) (rLm.up (by omega))
    · exfalso; omega
  · intro k _ hk kk
    obtain ⟨g1, g2, g3, g4, g5, g6⟩ := p3 k hk
    refine tk_iload2 dX11_binding_8 ?_
    refine tk_aload0 dX11_binding_9 ?_
    refine tk_getP dX11_binding_10 fX11_7 rfl hR.o (hR.p 0 rfl) ?_
    refine tk_iconst dX11_binding_13 kc_iconst_5 ?_
    refine tk_iald dX11_binding_14 (hR.t 41 rfl) (by omega) (by omega) ?_
    rw [rVT_at (a := 41) (by omega), p1]
    first | refine tk_icmp_geN dX11_binding_15 (by omega) (by omega) (fun h15 => ?_) (fun h15 => ?_) | refine tk_jcmp_ge dX11_binding_15 (fun h15 => ?_) (fun h15 => ?_)
    · exfalso; omega
    · refine tk_aload0 dX11_binding_18 ?_
      refine tk_aload0 dX11_binding_19 ?_
      refine tk_getP dX11_binding_20 fX11_40 rfl hR.o (hR.p 10 rfl) ?_
      refine tk_bipush dX11_binding_23 kc_bipush_14 ?_
      refine tk_iload2 dX11_binding_25 ?_
      first | refine tk_imulN dX11_binding_26 ?_ | refine tk_imul dX11_binding_26 ?_
      refine tk_aload0 dX11_binding_27 ?_
      refine tk_getP dX11_binding_28 fX11_43 rfl hR.o (hR.p 11 rfl) ?_
      refine tk_iload2 dX11_binding_31 ?_
      refine tk_iald dX11_binding_32 (hR.t 52 rfl) (by omega) (by omega) ?_
      rw [rVT_at (a := 52) (by omega), g1]
      first | refine tk_iaddN dX11_binding_33 ?_ | refine tk_iadd dX11_binding_33 ?_
      refine tk_iconst dX11_binding_34 kc_iconst_1 ?_
      first | refine tk_isubN dX11_binding_35 (by omega) ?_ | refine tk_isub dX11_binding_35 ?_
      rw [show 14 * k + pl k - 1 = 14 * k + (pl k - 1) by omega]
      refine tk_aload0 dX11_binding_36 ?_
      refine tk_callV0z dX11_binding_37 kX11_252 hR.o (r_every hR hvw t9) (Nat.le_of_ble_eq_true rfl) (by omega) ?_
      refine tk_callV3z dX11_binding_40 kX11_233 hR.o (r_so1 hR hv (hR.t 51 rfl) (by omega) g2 (by omega) (by rw [rVT_at (by omega)]; exact g4) _) (Nat.le_of_ble_eq_true rfl) (by omega) ?_
      refine tk_lstore3 dX11_binding_43 rfl ?_
      refine tk_iload1 dX11_binding_44 ?_
      refine tk_aload0 dX11_binding_45 ?_
      refine tk_aload0 dX11_binding_46 ?_
      refine tk_getP dX11_binding_47 fX11_96 rfl hR.o (hR.p 34 rfl) ?_
      refine tk_aload0 dX11_binding_50 ?_
      refine tk_getP dX11_binding_51 fX11_46 rfl hR.o (hR.p 12 rfl) ?_
      refine tk_iload2 dX11_binding_54 ?_
      refine tk_iald dX11_binding_55 (hR.t 53 rfl) (by omega) (by omega) ?_
      rw [rVT_at (a := 53) (by omega), g5]
      refine tk_iald dX11_binding_56 (hR.t 69 rfl) (by omega) (by omega) ?_
      refine tk_lconst dX11_binding_57 (v := 1) (by decide) ?_
      refine tk_aload0 dX11_binding_58 ?_
      refine tk_getI dX11_binding_59 fX11_220 rfl hR.o ?_
      rw [hvr]
      refine tk_lshl dX11_binding_62 ?_
      refine tk_aload0 dX11_binding_63 ?_
      refine tk_callV0z dX11_binding_64 kX11_252 hR.o (r_every hR hvw t9) (Nat.le_of_ble_eq_true rfl) (by omega) ?_
      refine tk_callV3z dX11_binding_67 kX11_248 hR.o (r_comesTo hR hv.1 t3 hvw t9 _ _ _ (jshl1_ne (by omega))) (Nat.le_of_ble_eq_true rfl) (by omega) ?_
      refine tk_lload3 dX11_binding_70 ?_
      refine tk_ldc2 dX11_binding_71 klX11_218 ?_
      refine tk_lxor dX11_binding_74 ?_
      refine tk_land dX11_binding_75 ?_
      refine tk_lconst dX11_binding_76 (v := 0) (by decide) ?_
      refine tk_lcmp dX11_binding_77 ?_
      first | refine tk_jf_neB dX11_binding_78 (fun h78 => ?_) (fun h78 => ?_) | refine tk_if_ne dX11_binding_78 (fun h78 => ?_) (fun h78 => ?_)
      · refine tk_iconst dX11_binding_87 kc_iconst_0 ?_
        refine tk_ior dX11_binding_88 ?_
        refine tk_istore1 dX11_binding_89 rfl ?_
        first | refine tk_iinc2 dX11_binding_90 (kc_inc _) rfl ?_ | refine tk_iinc2 dX11_binding_90 rfl rfl ?_
        refine tk_goto dX11_binding_93 ?_
        refine kk _ ?_
        simp only [va_up_self] at h78
        rw [rVT_at (a := 51) (by omega)] at h78
        rw [lgc0] at h78
        first | rw [show rBi (paT I L np W r cn cl pl pg) (k + 1) = rBi (paT I L np W r cn cl pl pg) k ||| kshl (nI 1) (nI k) from congrArg _ (if_pos (decide_eq_true h78))] | rw [show rBi (paT I L np W r cn cl pl pg) (k + 1) = rBi (paT I L np W r cn cl pl pg) k ||| nI 0 from congrArg _ (if_neg (fun q => h78 (of_decide_eq_true q)))]
        exact (by repeat' (first | exact trivial | refine ⟨Or.inl rfl, ?_⟩ | refine ⟨Or.inr rfl, ?_⟩))
      · refine tk_iconst dX11_binding_81 kc_iconst_1 ?_
        refine tk_iload2 dX11_binding_82 ?_
        refine tk_ishl dX11_binding_83 ?_
        refine tk_goto dX11_binding_84 ?_
        refine tk_ior dX11_binding_88 ?_
        refine tk_istore1 dX11_binding_89 rfl ?_
        first | refine tk_iinc2 dX11_binding_90 (kc_inc _) rfl ?_ | refine tk_iinc2 dX11_binding_90 rfl rfl ?_
        refine tk_goto dX11_binding_93 ?_
        refine kk _ ?_
        simp only [va_up_self] at h78
        rw [rVT_at (a := 51) (by omega)] at h78
        rw [lgc0] at h78
        first | rw [show rBi (paT I L np W r cn cl pl pg) (k + 1) = rBi (paT I L np W r cn cl pl pg) k ||| kshl (nI 1) (nI k) from congrArg _ (if_pos (decide_eq_true h78))] | rw [show rBi (paT I L np W r cn cl pl pg) (k + 1) = rBi (paT I L np W r cn cl pl pg) k ||| nI 0 from congrArg _ (if_neg (fun q => h78 (of_decide_eq_true q)))]
        exact (by repeat' (first | exact trivial | refine ⟨Or.inl rfl, ?_⟩ | refine ⟨Or.inr rfl, ?_⟩))
theorem r_wasSo (hR : tkRef T P) {np nf W r cn mn : Nat} {cl mW mr mc : Nat → Nat} {ml : Nat → Nat → Nat} (hT : TH I np nf W r cn cl) (hM : MH I np nf mn mW mr mc ml) {m s : Nat} (hm : m < mn) (hs : s < 6) (hrt : rRt I (nI s) = true) : tkM G mX11_wasSo 35 0 0 [vR 40, vI (nI m), vI (nI s)] (n, T, I, L, P) (tkF (some (vI (tkb (tb (soM I L np (mW m) (mc m) (ml m) m s) (mr m))))) (n, T, rVM I m, va_up L 66 (mwB I L np (mW m) m), P)) := by
  obtain ⟨t1, t2, t3, t4, t5, t6, t7, t8, t9, t10, t11, t12, t13, t14, t15⟩ := hT
  have hv := hM.vh t1 t3 hm
  have hM' := hM
  obtain ⟨q1, q2, q3⟩ := hM'
  obtain ⟨g1, g2, g3, g4, g5, g6, g7, g8⟩ := q3 m hm
  obtain ⟨l, l1, l2, l3⟩ := t15 s hs
  have hix : ix (nI s) = s := ix_nI (by omega)
  have hil : ix (nI l) = l := ix_nI (by omega)
  have hr : rW (fun i => I 47 (14 * s + i)) (nI np) (nI nf) l 0 (nI 0) < 0 := by
    have := of_decide_eq_true hrt
    rwa [hix, l2, hil, t1, t4] at this
  obtain ⟨w1, w2, w3⟩ := right_WF t3 t6 l1 l3 hr
  have hso := r_soOf (G := G) (n := n) (L := va_up L 66 (mwB I L np (mW m) m)) hR hv hs (show rVM I m 48 s = nI l by rw [rVM_at (by omega)]; exact l2) w1 l1 (by rw [rVM_at (by omega)]; exact w2)
  simp only [va_up_self] at hso
  rw [rVM_at (a := 47) (by omega)] at hso
  unfold soM
  rw [l2, hil]
  generalize SOV np (mW m) (mc m) (rVM I m 64) (mwB I L np (mW m) m) (rVM I m 69) (rVM I m 67) (ml m) (fun i => I 47 (14 * s + i)) l (evr (mW m)) = x at hso ⊢
  refine tkM.of (ls := [some _, some _, some _]) (by decide +kernel) (by decide +kernel) (Nat.le_of_ble_eq_true rfl) rfl ?_
  refine tk_aload0 dX11_wasSo_0 ?_
  refine tk_iload1 dX11_wasSo_1 ?_
  refine tk_callV1y dX11_wasSo_2 kX11_349 hR.o (r_viewMark hR (by omega) t1 t3 g1 g3) (Nat.le_of_ble_eq_true rfl) (by omega) ?_
  refine tk_aload0 dX11_wasSo_5 ?_
  refine tk_iload2 dX11_wasSo_6 ?_
  refine tk_callV1z dX11_wasSo_7 kX11_299 hR.o (hso) (Nat.le_of_ble_eq_true rfl) (by omega) ?_
  refine tk_aload0 dX11_wasSo_10 ?_
  refine tk_getI dX11_wasSo_11 fX11_220 rfl hR.o ?_
  rw [rVM_40]
  simp only [va_up_self, bx_uu, tk_une, tk_usrt, not_false_eq_true, Nat.reduceEqDiff, Nat.reduceLT, Nat.reduceAdd, Nat.reduceMul, Nat.reduceLeDiff, reduceCtorEq, g4]
  refine tk_lshr dX11_wasSo_14 ?_
  refine tk_lconst dX11_wasSo_15 (v := 1) (by decide) ?_
  refine tk_land dX11_wasSo_16 ?_
  refine tk_lconst dX11_wasSo_17 (v := 1) (by decide) ?_
  refine tk_lcmp dX11_wasSo_18 ?_
  first | refine tk_jf_neB dX11_wasSo_19 (fun h19 => ?_) (fun h19 => ?_) | refine tk_if_ne dX11_wasSo_19 (fun h19 => ?_) (fun h19 => ?_)
  · refine tk_iconst dX11_wasSo_26 kc_iconst_0 ?_
    first | refine tk_zreturn dX11_wasSo_27 rfl ?_ | refine tk_zret0 dX11_wasSo_27 rfl ?_ | refine tk_zret1 dX11_wasSo_27 rfl ?_
    refine tkz ?_
    rw [tb_t1 _ (by omega)] at h19
    first | exact h19.symm | (cases e : tb x (mr m) with | true => exact absurd e h19 | false => rfl)
  · refine tk_iconst dX11_wasSo_22 kc_iconst_1 ?_
    refine tk_goto dX11_wasSo_23 ?_
    first | refine tk_zreturn dX11_wasSo_27 rfl ?_ | refine tk_zret0 dX11_wasSo_27 rfl ?_ | refine tk_zret1 dX11_wasSo_27 rfl ?_
    refine tkz ?_
    rw [tb_t1 _ (by omega)] at h19
    first | exact h19.symm | (cases e : tb x (mr m) with | true => exact absurd e h19 | false => rfl)
def rThC (I : Nat → Nat → Int32) (m s : Int32) : Option Int32 := if rPer (I 41 6) m && rIn s (nI 0) (nI 5) then (if rRt I s then none else some (-100004)) else some (-100001)
theorem r_then (hR : tkRef T P) {np nf W r cn mn : Nat} {cl mW mr mc : Nat → Nat} {ml : Nat → Nat → Nat} (hT : TH I np nf W r cn cl) (hM : MH I np nf mn mW mr mc ml) (m s : Int32) : tkM G mX11_then 36 0 0 [vR 40, vI m, vI s] (n, T, I, L, P) (rPm n T P L I (rThC I m s) (tkb (tb (soM I L np (mW (ix m)) (mc (ix m)) (ml (ix m)) (ix m) (ix s)) (mr (ix m)))) I) := by
  have hT' := hT
  obtain ⟨t1, t2, t3, t4, t5, t6, t7, t8, t9, t10, t11, t12, t13, t14, t15⟩ := hT'
  have hM' := hM
  obtain ⟨q1, q2, q3⟩ := hM'
  refine tkM.of (ls := [some _, some _, some _]) (by decide +kernel) (by decide +kernel) (Nat.le_of_ble_eq_true rfl) rfl ?_
  refine tk_iload1 dX11_then_0 ?_
  refine tk_jf_lt dX11_then_1 (fun h1 => ?_) (fun h1 => ?_)
  · refine tk_aload0 dX11_then_22 ?_
    refine tk_ldc dX11_then_23 klX11_183 ?_
    refine tk_callV1z dX11_then_25 kX11_179 hR.o (r_finding hR _) (Nat.le_of_ble_eq_true rfl) (by omega) ?_
    refine tk_ireturn dX11_then_28 rfl ?_
    refine rPm_f (if_neg ?_) rSm.rf rLm.rf
    intro q
    simp only [Bool.and_eq_true] at q
    have q1 := q.1
    simp only [rPer, Bool.and_eq_true, decide_eq_true_eq] at q1
    first | exact Int32.not_le.mpr h1 q1.1 | exact Int32.not_lt.mpr h12 q1.2 | (rw [h19] at q; exact absurd q.2 (by decide))
  · refine tk_iload1 dX11_then_4 ?_
    refine tk_aload0 dX11_then_5 ?_
    refine tk_getP dX11_then_6 fX11_7 rfl hR.o (hR.p 0 rfl) ?_
    refine tk_bipush dX11_then_9 kc_bipush_6 ?_
    refine tk_iald dX11_then_11 (hR.t 41 rfl) (by omega) (by omega) ?_
    first | refine tk_icmp_geN dX11_then_12 (by omega) (by omega) (fun h12 => ?_) (fun h12 => ?_) | refine tk_jcmp_ge dX11_then_12 (fun h12 => ?_) (fun h12 => ?_)
    · refine tk_aload0 dX11_then_22 ?_
      refine tk_ldc dX11_then_23 klX11_183 ?_
      refine tk_callV1z dX11_then_25 kX11_179 hR.o (r_finding hR _) (Nat.le_of_ble_eq_true rfl) (by omega) ?_
      refine tk_ireturn dX11_then_28 rfl ?_
      refine rPm_f (if_neg ?_) rSm.rf rLm.rf
      intro q
      simp only [Bool.and_eq_true] at q
      have q1 := q.1
      simp only [rPer, Bool.and_eq_true, decide_eq_true_eq] at q1
      first | exact Int32.not_le.mpr h1 q1.1 | exact Int32.not_lt.mpr h12 q1.2 | (rw [h19] at q; exact absurd q.2 (by decide))
    · refine tk_iload2 dX11_then_15 ?_
      refine tk_callS1z dX11_then_16 kX11_194 (r_isSentence _) (Nat.le_of_ble_eq_true rfl) (by omega) ?_
      first | refine tk_jf_neB dX11_then_19 (fun h19 => ?_) (fun h19 => ?_) | refine tk_if_ne dX11_then_19 (fun h19 => ?_) (fun h19 => ?_)
      · refine tk_aload0 dX11_then_29 ?_
        have hc0 : rPer (I 41 6) m = true := by simp only [rPer, Bool.and_eq_true, decide_eq_true_eq]; exact ⟨h1, h12⟩
        obtain ⟨m', hm1, rfl⟩ := rPe_of hc0 q1 (by omega)
        obtain ⟨s', hs1, rfl⟩ := rIn_of h19 (by omega)
        have hixs : ix (nI s') = s' := ix_nI (by omega)
        obtain ⟨l, hl1, hl2⟩ := hT.ls s' (by omega)
        have es : rRt I (nI s') = decide (rW (fun i => I 47 (14 * s' + i)) (I 41 0) (I 41 1) l 0 (nI 0) < 0) := by unfold rRt; rw [hixs, hl2, ix_nI (by omega)]
        have hc1 : rThC I (nI m') (nI s') = if rRt I (nI s') then none else some (-100004) := if_pos (by rw [hc0, h19]; rfl)
        rw [ix_nI (k := m') (by omega), hixs, hc1, es]
        refine tk_iload2 dX11_then_30 ?_
        refine tk_callV1z dX11_then_31 kX11_291 hR.o (r_isRight hR (by omega) hl2 hl1) (Nat.le_of_ble_eq_true rfl) (by omega) ?_
        first | refine tk_jf_neB dX11_then_34 (fun h34 => ?_) (fun h34 => ?_) | refine tk_if_ne dX11_then_34 (fun h34 => ?_) (fun h34 => ?_)
        · refine tk_aload0 dX11_then_44 ?_
          refine tk_iload1 dX11_then_45 ?_
          refine tk_iload2 dX11_then_46 ?_
          refine tk_callV2z dX11_then_47 kX11_352 hR.o (r_wasSo hR hT hM hm1 (by omega) (es.trans h34)) (Nat.le_of_ble_eq_true rfl) (by omega) ?_
          first | refine tk_jf_eqB dX11_then_50 (fun h50 => ?_) (fun h50 => ?_) | refine tk_if_eq dX11_then_50 (fun h50 => ?_) (fun h50 => ?_)
          · refine tk_iconst dX11_then_57 kc_iconst_0 ?_
            refine tk_ireturn dX11_then_58 rfl ?_
            refine rPm_g (by rw [h34]; rfl) ?_ (rSm_VM I m') (rLm.up (by omega))
            first | (rw [h50]; rfl)
          · refine tk_iconst dX11_then_53 kc_iconst_1 ?_
            refine tk_goto dX11_then_54 ?_
            refine tk_ireturn dX11_then_58 rfl ?_
            refine rPm_g (by rw [h34]; rfl) ?_ (rSm_VM I m') (rLm.up (by omega))
            first | (rw [h50]; rfl)
        · refine tk_aload0 dX11_then_37 ?_
          refine tk_ldc dX11_then_38 klX11_208 ?_
          refine tk_callV1z dX11_then_40 kX11_179 hR.o (r_finding hR _) (Nat.le_of_ble_eq_true rfl) (by omega) ?_
          refine tk_ireturn dX11_then_43 rfl ?_
          exact rPm_f (by rw [h34]; rfl) rSm.rf rLm.rf
      · refine tk_aload0 dX11_then_22 ?_
        refine tk_ldc dX11_then_23 klX11_183 ?_
        refine tk_callV1z dX11_then_25 kX11_179 hR.o (r_finding hR _) (Nat.le_of_ble_eq_true rfl) (by omega) ?_
        refine tk_ireturn dX11_then_28 rfl ?_
        refine rPm_f (if_neg ?_) rSm.rf rLm.rf
        intro q
        simp only [Bool.and_eq_true] at q
        have q1 := q.1
        simp only [rPer, Bool.and_eq_true, decide_eq_true_eq] at q1
        first | exact Int32.not_le.mpr h1 q1.1 | exact Int32.not_lt.mpr h12 q1.2 | (rw [h19] at q; exact absurd q.2 (by decide))
/-- the first mark from m on, k looked at, of which a truth is told -/
def rFm (c : Nat → Bool) : Nat → Nat → Option Nat
  | 0, _ => none
  | k + 1, m => if c m then some m else rFm c k (m + 1)
def rSnC (I : Nat → Nat → Int32) (s : Int32) (f : Option Nat) : Option Int32 := if rAsk I s = 0 then (if f = none then some (-100006) else none) else some (rAsk I s)
end REFQ
