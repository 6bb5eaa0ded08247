/-! ===== the class: tell ===== -/
theorem TWO_ex (kw xx : Nat → Bool) : ∀ W, ∃ co wa, TWO W kw xx co wa := by
  intro W
  induction W with
  | zero => exact ⟨fun _ => 0, fun _ => 0, fun w hw => absurd hw (Nat.not_lt_zero w)⟩
  | succ W ih =>
    obtain ⟨co, wa, h⟩ := ih
    refine ⟨va_up (va_up co (W + cntR kw W) W) (W + cntR kw W + 1) W, va_up (va_up wa (W + cntR kw W) 0) (W + cntR kw W + 1) (if xx W then 2 else 1), fun w hw => ?_⟩
    by_cases e : w = W
    · subst e
      refine ⟨?_, ?_, fun _ => ⟨va_up_self _ _ _, va_up_self _ _ _⟩⟩
      · rw [va_up_ne _ _ (by omega), va_up_self]
      · rw [va_up_ne _ _ (by omega), va_up_self]
    · obtain ⟨t1, t2, t3⟩ := h w (by omega)
      have i := cntR_idx kw (show w ≤ W by omega)
      refine ⟨by rw [va_up_ne _ _ (by omega), va_up_ne _ _ (by omega)]; exact t1, by rw [va_up_ne _ _ (by omega), va_up_ne _ _ (by omega)]; exact t2, fun ek => ?_⟩
      obtain ⟨s1, s2⟩ := t3 ek
      have i2 := cntR_idx kw (show w + 1 ≤ W by omega)
      rw [cntR_t ek] at i2
      exact ⟨by rw [va_up_ne _ _ (by omega), va_up_ne _ _ (by omega)]; exact s1, by rw [va_up_ne _ _ (by omega), va_up_ne _ _ (by omega)]; exact s2⟩
theorem TWO.uniq {W : Nat} {kw xx : Nat → Bool} {co wa co' wa' : Nat → Nat} (h : TWO W kw xx co wa) (h' : TWO W kw xx co' wa') : ∀ m, m ≤ W → ∀ j, j < m + cntR kw m → co j = co' j ∧ wa j = wa' j := by
  intro m
  induction m with
  | zero => intro _ j hj; exact (Nat.not_lt_zero j hj).elim
  | succ m ih =>
    intro hm j hj
    obtain ⟨t1, t2, t3⟩ := h m (by omega)
    obtain ⟨t1', t2', t3'⟩ := h' m (by omega)
    by_cases e : j < m + cntR kw m
    · exact ih (by omega) j e
    · cases ek : kw m with
      | false =>
        rw [cntR_f ek] at hj
        obtain rfl : j = m + cntR kw m := by omega
        rw [t1, t2, t1', t2']
        exact ⟨rfl, rfl⟩
      | true =>
        rw [cntR_t ek] at hj
        obtain ⟨s1, s2⟩ := t3 ek
        obtain ⟨s1', s2'⟩ := t3' ek
        by_cases e2 : j = m + cntR kw m
        · subst e2; rw [t1, t2, t1', t2']; exact ⟨rfl, rfl⟩
        · obtain rfl : j = m + cntR kw m + 1 := by omega
          rw [s1, s2, s1', s2']
          exact ⟨rfl, rfl⟩
theorem TWO.cg {W : Nat} {kw kw' xx : Nat → Bool} {co wa : Nat → Nat} (e : ∀ w, w < W → kw w = kw' w) (h : TWO W kw xx co wa) : TWO W kw' xx co wa := by
  intro w hw
  have := h w hw
  rw [cntR_cg (S := kw') (fun i hi => e i (by omega)), e w hw] at this
  exact this
/-- what the reference may answer to a telling, and what the class leaves -/
def tlR (J : Nat → Nat → Int32) (np W r : Nat) (kw xx : Nat → Bool) (a b : Nat) (X : Int32) (Y : (Nat → Nat → Int32) → Prop) (m : Nat) : Prop := ∀ (co wa : Nat → Nat) (ff : Nat → Int32) (cc : Nat → Nat → Nat), TWO W kw xx co wa → (∀ i, i < W + cntR kw W → ff i = rVT J 64 (co i)) → (∀ p, p < np → ∀ i, i < W + cntR kw W → cc p i = Vt (tSm (rVT J 65) co wa p (tNr (J 44) a b p) i) i 0) →
  (∀ (R : Nat → Bool) (kd : Nat → Nat), RCH (W + cntR kw W) (r + cntR kw r + 1) np cc R → KND (W + cntR kw W) np cc ff R kd → 64 < cntR (reps R kd) (W + cntR kw W) → X = (-100005) ∧ Y (rFnd J)) ∧
  (∀ (W' r' : Nat) (f' c' : Nat → Int32), LAID (W + cntR kw W) (r + cntR kw r + 1) np cc ff W' r' f' c' → X = nI W' ∧ ∀ J', bJ J (rLay J (nI W') (nI r') f' c') J' m → Y J')
def tPst (n : Nat) (T : Nat → Nat × Nat) (I : Nat → Nat → Int32) (L : Nat → Nat → Int64) (P : Nat → Nat → Option Nat) (J : Nat → Nat → Int32) (c : Option Int32) (R : Int32 → ((Nat → Nat → Int32) → Prop) → Prop) : Option tkV → tkH → Prop := fun rv h => ∃ n' T' I' L' P' x, rv = some (vI x) ∧ h = (n', T', I', L', P') ∧ cKp n T I L P n' T' I' L' P' ∧ (match c with
  | some f => x = f ∧ cRel n' T' I' L' P' (rFnd J)
  | none => R x (fun J' => cRel n' T' I' L' P' J'))
section TELL
variable {G : tkG} {n : Nat} {T : Nat → Nat × Nat} {I J : Nat → Nat → Int32} {L : Nat → Nat → Int64} {P : Nat → Nat → Option Nat} {tw np nf W r cn : Nat} {cl : Nat → Nat} {pn : Nat} {pl pg : Nat → Nat} {mn : Nat} {mW mr mc : Nat → Nat} {ml : Nat → Nat → Nat}
theorem tPst_f {n' : Nat} {T' : Nat → Nat × Nat} {I' : Nat → Nat → Int32} {L' : Nat → Nat → Int64} {P' : Nat → Nat → Option Nat} {c : Option Int32} {f : Int32} {R : Int32 → ((Nat → Nat → Int32) → Prop) → Prop} (h : c = some f) (hR : cRel n' T' I' L' P' J) (hk : cKp n T I L P n' T' I' L' P') : tPst n T I L P J c R (some (vI f)) (n', T', va_up I' 0 (va_up (I' 0) 4 (I' 0 4 + nI 1)), L', P') := by
  subst h
  exact ⟨n', T', _, L', P', f, rfl, rfl, hk.tr cKp.z, rfl, hR.fnd⟩
theorem tPst_g {n' : Nat} {T' : Nat → Nat × Nat} {I' : Nat → Nat → Int32} {L' : Nat → Nat → Int64} {P' : Nat → Nat → Option Nat} {c : Option Int32} {x : Int32} {R : Int32 → ((Nat → Nat → Int32) → Prop) → Prop} (h : c = none) (hk : cKp n T I L P n' T' I' L' P') (hr : R x (fun J' => cRel n' T' I' L' P' J')) : tPst n T I L P J c R (some (vI x)) (n', T', I', L', P') := by
  subst h
  exact ⟨n', T', _, L', P', x, rfl, rfl, hk, hr⟩
/-- the labels of the class for a telling, against the reference's sets -/
theorem tell_all {co0 wa0 co wa : Nat → Nat} {kw xx : Nat → Bool} {a b : Nat} {pr mt : Int32} {ff : Nat → Int32} {cc : Nat → Nat → Nat} (hnp : np ≤ 4) (hW : W ≤ 64) (h0 : TWO W kw xx co0 wa0) (h1 : TWO W kw xx co wa) (hab : J 44 a = J 44 b) (hpr : ∀ p, p < np → (tb pr.toInt64 p = true ↔ (p = a ∨ p = b))) (hmt : ∀ p, p < np → (tb mt.toInt64 p = true ↔ J 44 p = J 44 a)) (hff : ∀ i, i < W + cntR kw W → ff i = rVT J 64 (co i)) (hcc : ∀ p, p < np → ∀ i, i < W + cntR kw W → cc p i = Vt (tSm (rVT J 65) co wa p (tNr (J 44) a b p) i) i 0) : (∀ p, p < np → ∀ i, i < W + cntR kw W → ∀ j, j < W + cntR kw W → (cc p i = cc p j ↔ tLb (J 43) W co0 wa0 pr mt p i = tLb (J 43) W co0 wa0 pr mt p j)) ∧ ∀ i, i < W + cntR kw W → ff i = J 42 (co0 i) := by
  have hu := h1.uniq h0 W (Nat.le_refl W)
  have ha := h1.all W (Nat.le_refl W)
  have el : ∀ p, p < np → ∀ i, i < W + cntR kw W → tLb (rVT J 65) W co wa pr mt p i = tLb (J 43) W co0 wa0 pr mt p i := by
    intro p hp i hi
    unfold tLb
    rw [cLs_congr (ce' := J 43) (ha i hi).1 hW (fun w hw => by rw [rVT_65, tkcp_lt (by omega)]), (hu i hi).1, (hu i hi).2]
  refine ⟨fun p hp i hi j hj => ?_, fun i hi => ?_⟩
  · rw [tell_cc hW ha hab hpr hmt hcc p hp i hi j hj, el p hp i hi, el p hp j hj]
  · have := ha i hi
    rw [hff i hi, rVT_64, tkcp_lt (by omega), (hu i hi).1]
theorem tell_go (hN : cNow n T I L P J tw np nf W r cn cl pn pl pg mn mW mr mc ml) {m : Nat} (hm : m ≤ 12) (hm0 : J 40 20 = nI m) {pic sta oa se pa ma wa ca ga : Nat} (ht : tObj T P tw pic sta oa se pa ma) (hpc : cPic n T I L P pic np nf W r cn (J 42) (J 43) (J 45) (J 49) cl) (hp : pObj T P pic wa ca ga) (hw : cWld n T I L P wa np nf W r (J 42) (J 43)) (hst : c4 n T I sta (J 44)) {L' : Nat → Nat → Int64} (m1 : lSm 25 L L') {M S : Int64} {kw xx : Nat → Bool} {a' b' : Nat} (ha' : a' < np) (hb' : b' < np) (hab2 : J 44 a' = J 44 b') (hMr : tb M r = true) (hkw : ∀ w, w < W → kw w = tb M w) (hxx : tb S = xx) {c : Option Int32} (hnone : c = none) {l3 l4 l5 : Option tkV} : tkX G mX10_tell 96 5 275 126 [some (vR 0), some (vI (nI a')), some (vI (nI b')), l3, l4, l5, some (vL S), none, some (vL M), none] [] (n, T, lkIi I 25, L', lkPp P 25 wa ca ga) (tPst n T I L P J c (fun X Y => tlR J np W r kw xx a' b' X Y m)) := by
  subst hxx
  obtain ⟨hR, hk, ⟨hTH, hPH, hMH, hGW, hob⟩, ftw, -⟩ := id hN
  have hn := hR.1
  have hsc := hR.2.1
  obtain ⟨h41, np1, np4, h411, nf1, nf4, h412, W1, W64, h413, rW, h414, cn5, hcW, hsW⟩ := id hTH
  have st := look_st (n := n) (wa := wa) (ca := ca) (ga := ga) hsc m1
  have hN2 := hN.st st
  have hk2 := hN2.2.1
  have k02 := hk2.1
  have k12 := hk2.2.1
  have k72 := hk2.2.2.2.2.2.1
  have ht2 := ht.ex ftw st.ex
  have t82 := ht2.1
  have t22 := ht2.2.2.1
  have hp2 : pObj T (lkPp P 25 wa ca ga) pic wa ca ga := by have := (st.ex.2 pic hpc.1).2.2.2; unfold pObj; rw [this]; exact hp
  have hw2 := hw.ex st.ex
  have hst2 := hst.ex st.ex
  have w9 : (T wa).1 = 9 := hw.2.1
  have s24 := hst2.2.1
  have d0 : dObj T (lkPp P 25 wa ca ga) := st.2.2.2.2.1
  have d1 := d0.1
  obtain ⟨co0, wa0, hTWO⟩ := TWO_ex (tb M) (tb S) W
  have hal := hTWO.all W (Nat.le_refl W)
  have hkw2 : ∀ w, w < W → tb M w = kw w := fun w hw => (hkw w hw).symm
  have hcN : cntR kw W = cntR (tb M) W := cntR_cg hkw
  have hcr : cntR kw r = cntR (tb M) r := cntR_cg (fun i hi => hkw i (by omega))
  have hle := cntR_le (tb M) W
  have hr0 : r + cntR (tb M) r + 1 < W + cntR (tb M) W := by
    have := cntR_idx (tb M) (show r + 1 ≤ W by omega)
    rw [cntR_t hMr] at this
    omega
  have hpr : ∀ p, p < np → (tb (kshl (nI 1) (nI a') ||| kshl (nI 1) (nI b')).toInt64 p = true ↔ (p = a' ∨ p = b')) := fun p hp => pair_d a' (by omega) b' (by omega) p (by omega)
  refine tk_aload0 dX10_tell_126 ?_
  refine tk_getP dX10_tell_127 fX10_50 rfl (by first | assumption | exact va_up_self _ _ _ | exact (va_up_ne _ _ (by omega)).trans (by assumption) | exact congrArg Prod.fst (va_up_self _ _ _) | exact (congrArg Prod.fst (va_up_ne _ _ (by omega))).trans (by assumption) | exact (congrFun (va_up_ne _ _ (by omega)) _).trans (by assumption) | exact (va_up_ne _ _ (by omega)).trans (va_up_self _ _ _) | exact (va_up_ne _ _ (by omega)).trans ((va_up_ne _ _ (by omega)).trans (by assumption)) | exact (congrArg Prod.fst ((va_up_ne _ _ (by omega)).trans (va_up_ne _ _ (by omega)))).trans (by assumption) | exact (congrFun ((va_up_ne _ _ (by omega)).trans (va_up_ne _ _ (by omega))) _).trans (by assumption) | (rw [va_up_self, va_up_ne _ _ (by omega)]; assumption)) (by first | assumption | exact va_up_self _ _ _ | exact (va_up_ne _ _ (by omega)).trans (by assumption) | exact congrArg Prod.fst (va_up_self _ _ _) | exact (congrArg Prod.fst (va_up_ne _ _ (by omega))).trans (by assumption) | exact (congrFun (va_up_ne _ _ (by omega)) _).trans (by assumption) | exact (va_up_ne _ _ (by omega)).trans (va_up_self _ _ _) | exact (va_up_ne _ _ (by omega)).trans ((va_up_ne _ _ (by omega)).trans (by assumption)) | exact (congrArg Prod.fst ((va_up_ne _ _ (by omega)).trans (va_up_ne _ _ (by omega)))).trans (by assumption) | exact (congrFun ((va_up_ne _ _ (by omega)).trans (va_up_ne _ _ (by omega))) _).trans (by assumption) | (rw [va_up_self, va_up_ne _ _ (by omega)]; assumption)) ?_
  refine tk_aload0 dX10_tell_130 ?_
  refine tk_callV0z dX10_tell_131 kX10_84 (by first | assumption | exact va_up_self _ _ _ | exact (va_up_ne _ _ (by omega)).trans (by assumption) | exact congrArg Prod.fst (va_up_self _ _ _) | exact (congrArg Prod.fst (va_up_ne _ _ (by omega))).trans (by assumption) | exact (congrFun (va_up_ne _ _ (by omega)) _).trans (by assumption) | exact (va_up_ne _ _ (by omega)).trans (va_up_self _ _ _) | exact (va_up_ne _ _ (by omega)).trans ((va_up_ne _ _ (by omega)).trans (by assumption)) | exact (congrArg Prod.fst ((va_up_ne _ _ (by omega)).trans (va_up_ne _ _ (by omega)))).trans (by assumption) | exact (congrFun ((va_up_ne _ _ (by omega)).trans (va_up_ne _ _ (by omega))) _).trans (by assumption) | (rw [va_up_self, va_up_ne _ _ (by omega)]; assumption)) (c_worlds hk2 ht2 hp2) (Nat.le_of_ble_eq_true rfl) (by omega) ?_
  refine tk_iconst dX10_tell_134 kc_iconst_1 ?_
  refine tk_iload1 dX10_tell_135 ?_
  refine tk_ishl dX10_tell_136 ?_
  refine tk_iconst dX10_tell_137 kc_iconst_1 ?_
  refine tk_iload2 dX10_tell_138 ?_
  refine tk_ishl dX10_tell_139 ?_
  refine tk_ior dX10_tell_140 ?_
  refine tk_aload0 dX10_tell_141 ?_
  refine tk_getP dX10_tell_142 fX10_13 rfl (by first | assumption | exact va_up_self _ _ _ | exact (va_up_ne _ _ (by omega)).trans (by assumption) | exact congrArg Prod.fst (va_up_self _ _ _) | exact (congrArg Prod.fst (va_up_ne _ _ (by omega))).trans (by assumption) | exact (congrFun (va_up_ne _ _ (by omega)) _).trans (by assumption) | exact (va_up_ne _ _ (by omega)).trans (va_up_self _ _ _) | exact (va_up_ne _ _ (by omega)).trans ((va_up_ne _ _ (by omega)).trans (by assumption)) | exact (congrArg Prod.fst ((va_up_ne _ _ (by omega)).trans (va_up_ne _ _ (by omega)))).trans (by assumption) | exact (congrFun ((va_up_ne _ _ (by omega)).trans (va_up_ne _ _ (by omega))) _).trans (by assumption) | (rw [va_up_self, va_up_ne _ _ (by omega)]; assumption)) (by first | assumption | exact va_up_self _ _ _ | exact (va_up_ne _ _ (by omega)).trans (by assumption) | exact congrArg Prod.fst (va_up_self _ _ _) | exact (congrArg Prod.fst (va_up_ne _ _ (by omega))).trans (by assumption) | exact (congrFun (va_up_ne _ _ (by omega)) _).trans (by assumption) | exact (va_up_ne _ _ (by omega)).trans (va_up_self _ _ _) | exact (va_up_ne _ _ (by omega)).trans ((va_up_ne _ _ (by omega)).trans (by assumption)) | exact (congrArg Prod.fst ((va_up_ne _ _ (by omega)).trans (va_up_ne _ _ (by omega)))).trans (by assumption) | exact (congrFun ((va_up_ne _ _ (by omega)).trans (va_up_ne _ _ (by omega))) _).trans (by assumption) | (rw [va_up_self, va_up_ne _ _ (by omega)]; assumption)) ?_
  refine tk_aload0 dX10_tell_145 ?_
  refine tk_getP dX10_tell_146 fX10_13 rfl (by first | assumption | exact va_up_self _ _ _ | exact (va_up_ne _ _ (by omega)).trans (by assumption) | exact congrArg Prod.fst (va_up_self _ _ _) | exact (congrArg Prod.fst (va_up_ne _ _ (by omega))).trans (by assumption) | exact (congrFun (va_up_ne _ _ (by omega)) _).trans (by assumption) | exact (va_up_ne _ _ (by omega)).trans (va_up_self _ _ _) | exact (va_up_ne _ _ (by omega)).trans ((va_up_ne _ _ (by omega)).trans (by assumption)) | exact (congrArg Prod.fst ((va_up_ne _ _ (by omega)).trans (va_up_ne _ _ (by omega)))).trans (by assumption) | exact (congrFun ((va_up_ne _ _ (by omega)).trans (va_up_ne _ _ (by omega))) _).trans (by assumption) | (rw [va_up_self, va_up_ne _ _ (by omega)]; assumption)) (by first | assumption | exact va_up_self _ _ _ | exact (va_up_ne _ _ (by omega)).trans (by assumption) | exact congrArg Prod.fst (va_up_self _ _ _) | exact (congrArg Prod.fst (va_up_ne _ _ (by omega))).trans (by assumption) | exact (congrFun (va_up_ne _ _ (by omega)) _).trans (by assumption) | exact (va_up_ne _ _ (by omega)).trans (va_up_self _ _ _) | exact (va_up_ne _ _ (by omega)).trans ((va_up_ne _ _ (by omega)).trans (by assumption)) | exact (congrArg Prod.fst ((va_up_ne _ _ (by omega)).trans (va_up_ne _ _ (by omega)))).trans (by assumption) | exact (congrFun ((va_up_ne _ _ (by omega)).trans (va_up_ne _ _ (by omega))) _).trans (by assumption) | (rw [va_up_self, va_up_ne _ _ (by omega)]; assumption)) ?_
  refine tk_getP dX10_tell_149 fX10_95 rfl (by first | assumption | exact va_up_self _ _ _ | exact (va_up_ne _ _ (by omega)).trans (by assumption) | exact congrArg Prod.fst (va_up_self _ _ _) | exact (congrArg Prod.fst (va_up_ne _ _ (by omega))).trans (by assumption) | exact (congrFun (va_up_ne _ _ (by omega)) _).trans (by assumption) | exact (va_up_ne _ _ (by omega)).trans (va_up_self _ _ _) | exact (va_up_ne _ _ (by omega)).trans ((va_up_ne _ _ (by omega)).trans (by assumption)) | exact (congrArg Prod.fst ((va_up_ne _ _ (by omega)).trans (va_up_ne _ _ (by omega)))).trans (by assumption) | exact (congrFun ((va_up_ne _ _ (by omega)).trans (va_up_ne _ _ (by omega))) _).trans (by assumption) | (rw [va_up_self, va_up_ne _ _ (by omega)]; assumption)) (by first | assumption | exact va_up_self _ _ _ | exact (va_up_ne _ _ (by omega)).trans (by assumption) | exact congrArg Prod.fst (va_up_self _ _ _) | exact (congrArg Prod.fst (va_up_ne _ _ (by omega))).trans (by assumption) | exact (congrFun (va_up_ne _ _ (by omega)) _).trans (by assumption) | exact (va_up_ne _ _ (by omega)).trans (va_up_self _ _ _) | exact (va_up_ne _ _ (by omega)).trans ((va_up_ne _ _ (by omega)).trans (by assumption)) | exact (congrArg Prod.fst ((va_up_ne _ _ (by omega)).trans (va_up_ne _ _ (by omega)))).trans (by assumption) | exact (congrFun ((va_up_ne _ _ (by omega)).trans (va_up_ne _ _ (by omega))) _).trans (by assumption) | (rw [va_up_self, va_up_ne _ _ (by omega)]; assumption)) ?_
  refine tk_iload1 dX10_tell_152 ?_
  refine tk_iald dX10_tell_153 (by first | assumption | exact va_up_self _ _ _ | exact (va_up_ne _ _ (by omega)).trans (by assumption) | exact congrArg Prod.fst (va_up_self _ _ _) | exact (congrArg Prod.fst (va_up_ne _ _ (by omega))).trans (by assumption) | exact (congrFun (va_up_ne _ _ (by omega)) _).trans (by assumption) | exact (va_up_ne _ _ (by omega)).trans (va_up_self _ _ _) | exact (va_up_ne _ _ (by omega)).trans ((va_up_ne _ _ (by omega)).trans (by assumption)) | exact (congrArg Prod.fst ((va_up_ne _ _ (by omega)).trans (va_up_ne _ _ (by omega)))).trans (by assumption) | exact (congrFun ((va_up_ne _ _ (by omega)).trans (va_up_ne _ _ (by omega))) _).trans (by assumption) | (rw [va_up_self, va_up_ne _ _ (by omega)]; assumption)) (by omega) (by omega) ?_
  rw [hst2.2.2 a' (by omega)]
  refine tk_callV1z dX10_tell_154 kX10_224 (by first | assumption | exact va_up_self _ _ _ | exact (va_up_ne _ _ (by omega)).trans (by assumption) | exact congrArg Prod.fst (va_up_self _ _ _) | exact (congrArg Prod.fst (va_up_ne _ _ (by omega))).trans (by assumption) | exact (congrFun (va_up_ne _ _ (by omega)) _).trans (by assumption) | exact (va_up_ne _ _ (by omega)).trans (va_up_self _ _ _) | exact (va_up_ne _ _ (by omega)).trans ((va_up_ne _ _ (by omega)).trans (by assumption)) | exact (congrArg Prod.fst ((va_up_ne _ _ (by omega)).trans (va_up_ne _ _ (by omega)))).trans (by assumption) | exact (congrFun ((va_up_ne _ _ (by omega)).trans (va_up_ne _ _ (by omega))) _).trans (by assumption) | (rw [va_up_self, va_up_ne _ _ (by omega)]; assumption)) (c_personsIn ht2 hp2 hw2 np4 hst2.2.1) (Nat.le_of_ble_eq_true rfl) (by omega) ?_
  refine tk_lload6 dX10_tell_157 ?_
  refine tk_lload8 dX10_tell_159 ?_
  refine tk_callV5q dX10_tell_161 kX10_227 (by first | assumption | exact va_up_self _ _ _ | exact (va_up_ne _ _ (by omega)).trans (by assumption) | exact congrArg Prod.fst (va_up_self _ _ _) | exact (congrArg Prod.fst (va_up_ne _ _ (by omega))).trans (by assumption) | exact (congrFun (va_up_ne _ _ (by omega)) _).trans (by assumption) | exact (va_up_ne _ _ (by omega)).trans (va_up_self _ _ _) | exact (va_up_ne _ _ (by omega)).trans ((va_up_ne _ _ (by omega)).trans (by assumption)) | exact (congrArg Prod.fst ((va_up_ne _ _ (by omega)).trans (va_up_ne _ _ (by omega)))).trans (by assumption) | exact (congrFun ((va_up_ne _ _ (by omega)).trans (va_up_ne _ _ (by omega))) _).trans (by assumption) | (rw [va_up_self, va_up_ne _ _ (by omega)]; assumption)) (c_layTelling (co := co0) (wa := wa0) d0 hw2 W64 np4 nf4 rW hGW.2.2.1 hTWO) (Nat.le_of_ble_eq_true rfl) (by omega) ?_
  rintro rr hh1 ⟨I1, rfl, rfl, dE, d3⟩
  dsimp only [Option.toList, List.nil_append]
  obtain ⟨d2, d4, d5, d6, d7⟩ := dE
  have hmt : ∀ p, p < np → (tb (rPin (lkIi I 25 sta) (J 44 a') np).toInt64 p = true ↔ J 44 p = J 44 a') := fun p hp => by
    rw [rPin_tb (show p < 4 by omega) np np4, hst2.2.2 p (by omega)]
    exact ⟨fun z => z.2, fun z => ⟨hp, z⟩⟩
  have hlt : ∀ p, p < np → ∀ j, j < W + cntR (tb M) W → tLb (J 43) W co0 wa0 (kshl (nI 1) (nI a') ||| kshl (nI 1) (nI b')) (rPin (lkIi I 25 sta) (J 44 a') np) p j < 256 := fun p hp j hj => tLb_lt W64 hab2 (hal j hj) (hpr p hp) (hmt p hp)
  refine tk_aload0 dX10_tell_164 ?_
  refine tk_getP dX10_tell_165 fX10_50 rfl (by first | assumption | exact va_up_self _ _ _ | exact (va_up_ne _ _ (by omega)).trans (by assumption) | exact congrArg Prod.fst (va_up_self _ _ _) | exact (congrArg Prod.fst (va_up_ne _ _ (by omega))).trans (by assumption) | exact (congrFun (va_up_ne _ _ (by omega)) _).trans (by assumption) | exact (va_up_ne _ _ (by omega)).trans (va_up_self _ _ _) | exact (va_up_ne _ _ (by omega)).trans ((va_up_ne _ _ (by omega)).trans (by assumption)) | exact (congrArg Prod.fst ((va_up_ne _ _ (by omega)).trans (va_up_ne _ _ (by omega)))).trans (by assumption) | exact (congrFun ((va_up_ne _ _ (by omega)).trans (va_up_ne _ _ (by omega))) _).trans (by assumption) | (rw [va_up_self, va_up_ne _ _ (by omega)]; assumption)) (by first | assumption | exact va_up_self _ _ _ | exact (va_up_ne _ _ (by omega)).trans (by assumption) | exact congrArg Prod.fst (va_up_self _ _ _) | exact (congrArg Prod.fst (va_up_ne _ _ (by omega))).trans (by assumption) | exact (congrFun (va_up_ne _ _ (by omega)) _).trans (by assumption) | exact (va_up_ne _ _ (by omega)).trans (va_up_self _ _ _) | exact (va_up_ne _ _ (by omega)).trans ((va_up_ne _ _ (by omega)).trans (by assumption)) | exact (congrArg Prod.fst ((va_up_ne _ _ (by omega)).trans (va_up_ne _ _ (by omega)))).trans (by assumption) | exact (congrFun ((va_up_ne _ _ (by omega)).trans (va_up_ne _ _ (by omega))) _).trans (by assumption) | (rw [va_up_self, va_up_ne _ _ (by omega)]; assumption)) ?_
  refine tk_callV0q dX10_tell_168 kX10_231 (by first | assumption | exact va_up_self _ _ _ | exact (va_up_ne _ _ (by omega)).trans (by assumption) | exact congrArg Prod.fst (va_up_self _ _ _) | exact (congrArg Prod.fst (va_up_ne _ _ (by omega))).trans (by assumption) | exact (congrFun (va_up_ne _ _ (by omega)) _).trans (by assumption) | exact (va_up_ne _ _ (by omega)).trans (va_up_self _ _ _) | exact (va_up_ne _ _ (by omega)).trans ((va_up_ne _ _ (by omega)).trans (by assumption)) | exact (congrArg Prod.fst ((va_up_ne _ _ (by omega)).trans (va_up_ne _ _ (by omega)))).trans (by assumption) | exact (congrFun ((va_up_ne _ _ (by omega)).trans (va_up_ne _ _ (by omega))) _).trans (by assumption) | (rw [va_up_self, va_up_ne _ _ (by omega)]; assumption)) (c_cut (N := W + cntR (tb M) W) (r0 := r + cntR (tb M) r + 1) (c := tLb (J 43) W co0 wa0 (kshl (nI 1) (nI a') ||| kshl (nI 1) (nI b')) (rPin (lkIi I 25 sta) (J 44 a') np)) d0 d4 np4 d6 (by omega) (d3 hMr) hr0 (fun p hp w hw => ⟨(d7 w hw).2 p hp, hlt p hp w hw⟩)) (Nat.le_of_ble_eq_true rfl) (by omega) ?_
  rintro rr hh1 ⟨I2, L2, R, kd, rfl, rfl, cu, ld⟩
  dsimp only [Option.toList, List.singleton_append]
  have cu10 := cu.2.2.2.2.2.2.2.2.2
  have e12 : ∀ a, a < 28 ∨ 34 ≤ a → I2 a = lkIi I 25 a := fun a ha => (cu10 a ha).trans (d2 a (by omega) (by omega) (by omega))
  have st2 : cSt n T (lkIi I 25) L' (lkPp P 25 wa ca ga) n T I2 L2 (lkPp P 25 wa ca ga) := ⟨Nat.le_refl _, fun a h1 h2 => ⟨rfl, e12 a (by omega), ld a (by omega) (by omega), rfl⟩, by
    obtain ⟨s1, s2, s3, s4, s5, s6, s7⟩ := st.2.2
    exact ⟨s1, s2, s3, s4, s5, fun q hq => by rw [e12 26 (by omega)]; exact s6 q hq, fun q hq => by rw [e12 38 (by omega)]; exact s7 q hq⟩⟩
  have hle1 := cntR_le (reps RT kd) (cntR R (W + cntR (tb M) W))
  have hle2 := cntR_le R (W + cntR (tb M) W)
  have hx : ∀ w, w < W + cntR (tb M) W → ∃ x, I1 29 w = nI x ∧ x < 2 ^ nf := fun w hw => by rw [(d7 w hw).1]; exact hGW.2.2.1 _ (hal w hw).1
  have hN3 := hN2.st st2
  have hk3 := hN3.2.1
  have k03 := hk3.1
  obtain ⟨y1, y2, y3⟩ := cut_pre cu nf4 hlt hx
  refine tk_bipush dX10_tell_171 kc_bipush_64 ?_
  first | refine tk_icmp_leN dX10_tell_173 (by omega) (by omega) (fun h173 => ?_) (fun h173 => ?_) | refine tk_jcmp_le dX10_tell_173 (fun h173 => ?_) (fun h173 => ?_)
  · refine tk_aload0 dX10_tell_183 ?_
    refine tk_callV0s dX10_tell_184 kX10_235 (by first | assumption | exact va_up_self _ _ _ | exact (va_up_ne _ _ (by omega)).trans (by assumption) | exact congrArg Prod.fst (va_up_self _ _ _) | exact (congrArg Prod.fst (va_up_ne _ _ (by omega))).trans (by assumption) | exact (congrFun (va_up_ne _ _ (by omega)) _).trans (by assumption) | exact (va_up_ne _ _ (by omega)).trans (va_up_self _ _ _) | exact (va_up_ne _ _ (by omega)).trans ((va_up_ne _ _ (by omega)).trans (by assumption)) | exact (congrArg Prod.fst ((va_up_ne _ _ (by omega)).trans (va_up_ne _ _ (by omega)))).trans (by assumption) | exact (congrFun ((va_up_ne _ _ (by omega)).trans (va_up_ne _ _ (by omega))) _).trans (by assumption) | (rw [va_up_self, va_up_ne _ _ (by omega)]; assumption)) (k_becomeDraft hN3 hm hm0 cu (cu.2.2.1.trans d5) (by omega) hr0 hlt hx (by omega)) (Nat.le_of_ble_eq_true rfl) (by omega) (by omega) (by omega) ?_
    rintro rr hh1 ⟨n3, T3, I3, L3, P3, x3, rfl, rfl, kp3, all3⟩
    dsimp only [Option.toList, List.singleton_append]
    refine tk_ireturn dX10_tell_187 rfl ?_
    refine ⟨n3, T3, I3, L3, P3, x3, rfl, rfl, ((st.tr st2).kp hn).tr kp3, ?_⟩
    rw [hnone]
    intro co wa ff cc g1 g2 g3
    obtain ⟨g4, g5⟩ := tell_all np4 W64 (hTWO.cg hkw2) g1 hab2 hpr hmt g2 g3
    rw [hcN, hcr] at *
    refine ⟨fun R' kd' l1 l2 l3 => ?_, fun W' r' f' c' hL => all3 cc ff W' r' f' c' g4 (fun w hw => (g5 w hw).trans (d7 w hw).1.symm) hL⟩
    have := CNT_link y3 cu.1 cu.knd g4 (fun w hw => (g5 w hw).trans (d7 w hw).1.symm) l1 l2
    exfalso
    omega
  · refine tk_aload0 dX10_tell_176 ?_
    refine tk_ldc dX10_tell_177 klX10_138 ?_
    refine tk_callV1z dX10_tell_179 kX10_66 (by first | assumption | exact va_up_self _ _ _ | exact (va_up_ne _ _ (by omega)).trans (by assumption) | exact congrArg Prod.fst (va_up_self _ _ _) | exact (congrArg Prod.fst (va_up_ne _ _ (by omega))).trans (by assumption) | exact (congrFun (va_up_ne _ _ (by omega)) _).trans (by assumption) | exact (va_up_ne _ _ (by omega)).trans (va_up_self _ _ _) | exact (va_up_ne _ _ (by omega)).trans ((va_up_ne _ _ (by omega)).trans (by assumption)) | exact (congrArg Prod.fst ((va_up_ne _ _ (by omega)).trans (va_up_ne _ _ (by omega)))).trans (by assumption) | exact (congrFun ((va_up_ne _ _ (by omega)).trans (va_up_ne _ _ (by omega))) _).trans (by assumption) | (rw [va_up_self, va_up_ne _ _ (by omega)]; assumption)) (c_finding hk3 _) (Nat.le_of_ble_eq_true rfl) (by omega) ?_
    refine tk_ireturn dX10_tell_182 rfl ?_
    refine ⟨_, _, _, _, _, _, rfl, rfl, ((st.tr st2).kp hn).tr cKp.z, ?_⟩
    rw [hnone]
    intro co wa ff cc g1 g2 g3
    obtain ⟨g4, g5⟩ := tell_all np4 W64 (hTWO.cg hkw2) g1 hab2 hpr hmt g2 g3
    rw [hcN, hcr] at *
    refine ⟨fun R' kd' l1 l2 l3 => ⟨rfl, hN3.1.fnd⟩, fun W' r' f' c' hL => ?_⟩
    obtain ⟨e1, e2, -⟩ := cut_post (n := n) (T := T) (L := L2) (P := P) hn cu nf4 (by omega) hr0 hlt hx g4 (fun w hw => (g5 w hw).trans (d7 w hw).1.symm) hL
    have := e2.1
    exfalso
    omega
end TELL
