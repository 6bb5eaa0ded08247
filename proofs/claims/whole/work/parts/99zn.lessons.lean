/-! ===== the class: lessons, lesson ===== -/
theorem NXT_st {np nf : Nat} {st st' : Nat → Int32} {fa : Nat → Nat → Prop} {r l : Nat} (h : ∀ p, p < np → st p = st' p) (hl : l < 4 * np) {S : Nat → Prop} {tie : Nat → Nat → Nat → Prop} {S' : Nat → Prop} {tie' : Nat → Nat → Nat → Prop} : NXT np nf st fa r l S tie S' tie' ↔ NXT np nf st' fa r l S tie S' tie' := by
  have t : ∀ b, b < np → (tOK st fa tie S r (l / 4) (l % 4) b ↔ tOK st' fa tie S r (l / 4) (l % 4) b) := by
    intro b hb
    unfold tOK
    rw [h b hb, h (l / 4) (by omega)]
  have t2 : ∀ a, TELR np st fa tie S r (l / 4) (l % 4) a ↔ TELR np st' fa tie S r (l / 4) (l % 4) a := by
    intro a
    unfold TELR
    refine and_congr_right (fun ha => and_congr (t a ha) (forall_congr' fun b => ?_))
    exact ⟨fun z hb q => z hb ((t b (by omega)).mpr q), fun z hb q => z hb ((t b (by omega)).mp q)⟩
  unfold NXT
  refine and_congr_right (fun _ => exists_congr fun a => ?_)
  rw [t2 a]
theorem LOK_st {np nf : Nat} {st st' : Nat → Int32} {fa : Nat → Nat → Prop} {r : Nat} {Gs : (Nat → Prop) → (Nat → Nat → Nat → Prop) → Prop} (h : ∀ p, p < np → st p = st' p) : ∀ (k : Nat) (S : Nat → Prop) (tie : Nat → Nat → Nat → Prop), LOK np nf st fa r Gs k S tie ↔ LOK np nf st' fa r Gs k S tie := by
  intro k
  induction k with
  | zero => intro S tie; exact Iff.rfl
  | succ k ih =>
    intro S tie
    unfold LOK
    refine exists_congr fun l => exists_congr fun S' => exists_congr fun tie' => and_congr_right fun hl => ?_
    rw [NXT_st h hl, ih]
theorem LSR_st {np nf : Nat} {st st' : Nat → Int32} {fa : Nat → Nat → Prop} {r : Nat} {Gs : (Nat → Prop) → (Nat → Nat → Nat → Prop) → Prop} (h : ∀ p, p < np → st p = st' p) : ∀ (k : Nat) (S : Nat → Prop) (tie : Nat → Nat → Nat → Prop) (f : Nat → Nat), LSR np nf st fa r Gs k S tie f ↔ LSR np nf st' fa r Gs k S tie f := by
  intro k
  induction k with
  | zero => intro S tie f; exact Iff.rfl
  | succ k ih =>
    intro S tie f
    unfold LSR
    refine exists_congr fun S' => exists_congr fun tie' => and_congr_right fun hl => ?_
    rw [NXT_st h hl, LOK_st h, ih]
    refine and_congr_right fun _ => and_congr_right fun _ => and_congr ?_ Iff.rfl
    refine forall_congr' fun l => ?_
    constructor
    · rintro z hb ⟨S2, tie2, q1, q2⟩
      exact z hb ⟨S2, tie2, (NXT_st h (by omega)).mpr q1, (LOK_st h k S2 tie2).mpr q2⟩
    · rintro z hb ⟨S2, tie2, q1, q2⟩
      exact z hb ⟨S2, tie2, (NXT_st h (by omega)).mp q1, (LOK_st h k S2 tie2).mp q2⟩
theorem LSO_u {A : Nat → Prop} {o o' : Option Nat} (h : LSO A o) (h' : LSO A o') : o = o' := by
  cases o with
  | none =>
    cases o' with
    | none => rfl
    | some k => exact absurd h'.2.1 (h k h'.1)
  | some k =>
    cases o' with
    | none => exact absurd h.2.1 (h' k h.1)
    | some j =>
      have a : ¬ j < k := fun q => h.2.2 j q h'.2.1
      have b : ¬ k < j := fun q => h'.2.2 k q h.2.1
      congr 1
      omega
theorem telV_some {A : Nat → Prop} {o : Option Nat} (h : LSO A o) : (o = none ∧ telV o = -1) ∨ ∃ k, k ≤ 2 ∧ o = some k ∧ telV o = nI k := by
  cases o with
  | none => exact Or.inl ⟨rfl, rfl⟩
  | some k => exact Or.inr ⟨k, h.1, rfl, rfl⟩
def leR (J : Nat → Nat → Int32) (A : Nat → Prop) (X : Int32) (Y : (Nat → Nat → Int32) → Prop) : Prop := ∀ o, LSO A o → (o = none → X = (-100006) ∧ Y (rFnd J)) ∧ ∀ k, o = some k → X = nI k ∧ Y J
def lfR (J : Nat → Nat → Int32) (A : Nat → Prop) (B : Nat → (Nat → Nat) → Prop) (i : Int32) (X : Int32) (Y : (Nat → Nat → Int32) → Prop) : Prop := ∀ o, LSO A o → (¬ i < telV o → X = (-100006) ∧ Y (rFnd J)) ∧ ∀ k f, o = some k → i < nI k → B k f → X = nI (f (ix i)) ∧ Y J
section LESSONS
variable {G : tkG} {n : Nat} {T : Nat → Nat × Nat} {I J : Nat → Nat → Int32} {L : Nat → Nat → Int64} {P : Nat → Nat → Option Nat} {tw np nf W r cn : Nat} {cl : Nat → Nat} {pn : Nat} {pl pg : Nat → Nat} {mn : Nat} {mW mr mc : Nat → Nat} {ml : Nat → Nat → Nat}
/-- the school's answer, in the reference's words -/
theorem k_shortest (hN : cNow n T I L P J tw np nf W r cn cl pn pl pg mn mW mr mc ml) {pic sta oa se pa ma wa ca ga ra l s : Nat} (ht : tObj T P tw pic sta oa se pa ma) (hpc : cPic n T I L P pic np nf W r cn (J 42) (J 43) (J 45) (J 49) cl) (hp : pObj T P pic wa ca ga) (hst : c4 n T I sta (J 44)) (hs : s < 6) (hrt : rRt J (nI s) = true) (hl : J 48 s = nI l) (hrow : cRow n T I P ra l (fun i => J 47 (14 * s + i))) : ∃ Q, tkM G mX4_shortest 95 0 0 [vR 36, vR ra, vR tw] (n, T, I, L, P) Q ∧ ∀ rv h, Q rv h → ∃ o I' L' P', rv = some (vI (telV o)) ∧ h = (n, T, I', L', P') ∧ cSt n T I L P n T I' L' P' ∧ LSO (tA J np nf W r cn cl s) o ∧ ∀ k, o = some k → ∃ f, tLs J np nf W r cn cl s k f ∧ (1 ≤ k → I' 36 3 = nI (f 0)) ∧ (2 ≤ k → I' 36 4 = nI (f 1)) := by
  obtain ⟨hR, hk, ⟨hTH, hPH, hMH, hGW, hob⟩, ftw, -⟩ := hN
  obtain ⟨h41, np1, np4, h411, nf1, nf4, h412, W1, W64, h413, rW, h414, cn5, hcW, hsW⟩ := id hTH
  have hn := hR.1
  have hsc := hR.2.1
  obtain ⟨s1, s2, s3, s4, s5, s6, s7⟩ := id hsc
  obtain ⟨l2, l21, l22, l23, l24, -⟩ := hTH.right hs hrt
  have l14 : l ≤ 14 := by obtain ⟨-, -, b, -, -, -, -, r3, -⟩ := hrow; exact r3
  obtain rfl : l = l2 := (nI_eq (by omega) (by omega)).mp (hl.symm.trans l21)
  have f1 := ftw.1
  have f2 := hpc.1.1
  have f3 := hst.1.1
  have e1 : cEx n T I L P n T I L (scP P tw wa) := ⟨Nat.le_refl _, fun a ha => ⟨rfl, rfl, rfl, va_up_ne _ _ (by have := ha.1; omega)⟩⟩
  obtain ⟨w, c, g, v1, v2, v3, v4⟩ := sVw_look (z := 37) (P := scP P tw wa) (by omega) s2 (hpc.ex e1) W1 W64 np4 nf4 cn5 (fun i hi => ⟨(hcW i hi).2.1, (hcW i hi).2.2.2⟩)
  have ep : scP P tw wa pic = P pic := va_up_ne _ _ (by omega)
  unfold pObj at v1
  rw [ep] at v1
  obtain rfl := Option.some.inj (v1.2.1.symm.trans hp.2.1)
  obtain rfl := Option.some.inj (v1.2.2.1.symm.trans hp.2.2.1)
  obtain rfl := Option.some.inj (v1.2.2.2.symm.trans hp.2.2.2)
  have e2 : cEx n T I L P n T I L (lkPp (scP P tw w) 37 w c g) := ⟨Nat.le_refl _, fun a ha => ⟨rfl, rfl, rfl, (va_up_ne _ _ (by have := ha.1; omega)).trans (va_up_ne _ _ (by have := ha.1; omega))⟩⟩
  refine ⟨_, c_shortest (G := G) s4 s5 s2 ht ⟨by omega, by omega⟩ hp ⟨by omega, by omega⟩ hst.2.1 (by omega) (by omega) (hrow.ex e2) l22 l24 rW s7 v4, ?_⟩
  rintro rv h ⟨o, I', M, rfl, rfl, z1, z2, z3, z4, z5⟩
  have hs44 : ∀ p, p < np → I sta p = J 44 p := fun p hp => hst.2.2 p (by omega)
  have eG : sGs np cn r (J 42) (J 45) (J 49) cl (fun i => J 47 (14 * s + i)) l = tGs J np r cn cl s := by
    unfold sGs tGs
    rw [hl, ix_nI (by omega)]
  have eA : (fun k => LOK np nf (I sta) (faF (J 42)) r (sGs np cn r (J 42) (J 45) (J 49) cl (fun i => J 47 (14 * s + i)) l) k (fun w => w < W) (tieB (pB (J 43) W))) = tA J np nf W r cn cl s := by
    funext k
    unfold tA
    rw [eG]
    exact propext (LOK_st hs44 k _ _)
  rw [eA] at z4
  have eI : ∀ a, ¬ a = 36 → ¬ a = 38 → I' a = I a := fun a h1 h2 => (z2 a h1 h2).trans (va_up_ne _ _ h2)
  refine ⟨o, I', M, _, rfl, rfl, ⟨Nat.le_refl _, fun a h1 h2 => ⟨rfl, eI a (by omega) (by omega), z3 a (by omega) (by omega), (va_up_ne _ _ (by omega)).trans (va_up_ne _ _ (by omega))⟩, s1, s2, s3, s4, s5, fun q hq => by rw [eI 26 (by omega) (by omega)]; exact s6 q hq, z1⟩, z4, fun k hk => ?_⟩
  obtain ⟨f, y1, y2, y3⟩ := z5 k hk
  rw [eG] at y1
  exact ⟨f, (LSR_st hs44 k _ _ f).mp y1, y2, y3⟩
theorem k_lessons (hN : cNow n T I L P J tw np nf W r cn cl pn pl pg mn mW mr mc ml) (s : Int32) : tkM G mX10_lessons 96 0 0 [vR 0, vI s] (n, T, I, L, P) (tPst n T I L P J (rAkC J s) (leR J (tA J np nf W r cn cl (ix s)))) := by
  have hN' := hN
  obtain ⟨hR, hk, ⟨hTH, hPH, hMH, hGW, hob⟩, ftw, pic, sta, oa, se, pa, ma, ht, hpc, hst, hoa, hse, hpa, hma⟩ := hN
  have hn := hR.1
  have hsc := hR.2.1
  have hk' := hk
  obtain ⟨k0, k1, k2, k3, k4, k5, k6⟩ := hk'
  have ht' := ht
  obtain ⟨u0, u1, u2, u3, u4, u5, u6⟩ := ht'
  have hpc' := hpc
  obtain ⟨fpi, tpi, wa, ca, ga, p1, p2, p3, hw, fca, hca, hcl, fga, hga, hgr⟩ := hpc'
  have hp : pObj T P pic wa ca ga := ⟨tpi, p1, p2, p3⟩
  have hTH' := hTH
  obtain ⟨h41, np1, np4, h411, nf1, nf4, h412, W1, W64, h413, rW, h414, cn5, hcW, hsW⟩ := hTH'
  have se6 := hse.2.1
  have s36 : (T 36).1 = 5 := hsc.2.2.2.1
  refine tkM.of (ls := [some _, some _, none, none]) (by decide +kernel) (by decide +kernel) (Nat.le_of_ble_eq_true rfl) rfl ?_
  refine tk_aload0 dX10_lessons_0 ?_
  refine tk_iload1 dX10_lessons_1 ?_
  refine tk_callV1z dX10_lessons_2 kX10_306 (by first | assumption | exact va_up_self _ _ _ | exact (va_up_ne _ _ (by omega)).trans (by assumption) | exact congrArg Prod.fst (va_up_self _ _ _) | exact (congrArg Prod.fst (va_up_ne _ _ (by omega))).trans (by assumption) | exact (congrFun (va_up_ne _ _ (by omega)) _).trans (by assumption) | exact (va_up_ne _ _ (by omega)).trans (va_up_self _ _ _) | exact (va_up_ne _ _ (by omega)).trans ((va_up_ne _ _ (by omega)).trans (by assumption)) | exact (congrArg Prod.fst ((va_up_ne _ _ (by omega)).trans (va_up_ne _ _ (by omega)))).trans (by assumption) | exact (congrFun ((va_up_ne _ _ (by omega)).trans (va_up_ne _ _ (by omega))) _).trans (by assumption) | (rw [va_up_self, va_up_ne _ _ (by omega)]; assumption)) (k_asking hN' s) (Nat.le_of_ble_eq_true rfl) (by omega) ?_
  refine tk_istore2 dX10_lessons_5 rfl ?_
  refine tk_iload2 dX10_lessons_6 ?_
  first | refine tk_jf_eqB dX10_lessons_7 (fun h7 => ?_) (fun h7 => ?_) | refine tk_if_eq dX10_lessons_7 (fun h7 => ?_) (fun h7 => ?_)
  · refine tk_aload0 dX10_lessons_16 ?_
    obtain ⟨s', hs', rfl, hix, hrt⟩ := ask_0 h7
    obtain ⟨ra, l, q1, q2, q3, q4, q5, q6, q7, q8⟩ := sen_row hse hs'
    obtain ⟨Q, y1, y2⟩ := k_shortest (G := G) hN' ht hpc hp hst hs' hrt q4 q8
    have hc : rAkC J (nI s') = none := (by simp [rAkC, h7])
    refine tk_getP dX10_lessons_17 fX10_57 rfl (by first | assumption | exact va_up_self _ _ _ | exact (va_up_ne _ _ (by omega)).trans (by assumption) | exact congrArg Prod.fst (va_up_self _ _ _) | exact (congrArg Prod.fst (va_up_ne _ _ (by omega))).trans (by assumption) | exact (congrFun (va_up_ne _ _ (by omega)) _).trans (by assumption) | exact (va_up_ne _ _ (by omega)).trans (va_up_self _ _ _) | exact (va_up_ne _ _ (by omega)).trans ((va_up_ne _ _ (by omega)).trans (by assumption)) | exact (congrArg Prod.fst ((va_up_ne _ _ (by omega)).trans (va_up_ne _ _ (by omega)))).trans (by assumption) | exact (congrFun ((va_up_ne _ _ (by omega)).trans (va_up_ne _ _ (by omega))) _).trans (by assumption) | (rw [va_up_self, va_up_ne _ _ (by omega)]; assumption)) (by first | assumption | exact va_up_self _ _ _ | exact (va_up_ne _ _ (by omega)).trans (by assumption) | exact congrArg Prod.fst (va_up_self _ _ _) | exact (congrArg Prod.fst (va_up_ne _ _ (by omega))).trans (by assumption) | exact (congrFun (va_up_ne _ _ (by omega)) _).trans (by assumption) | exact (va_up_ne _ _ (by omega)).trans (va_up_self _ _ _) | exact (va_up_ne _ _ (by omega)).trans ((va_up_ne _ _ (by omega)).trans (by assumption)) | exact (congrArg Prod.fst ((va_up_ne _ _ (by omega)).trans (va_up_ne _ _ (by omega)))).trans (by assumption) | exact (congrFun ((va_up_ne _ _ (by omega)).trans (va_up_ne _ _ (by omega))) _).trans (by assumption) | (rw [va_up_self, va_up_ne _ _ (by omega)]; assumption)) ?_
    refine tk_aload0 dX10_lessons_20 ?_
    refine tk_getP dX10_lessons_21 fX10_13 rfl (by first | assumption | exact va_up_self _ _ _ | exact (va_up_ne _ _ (by omega)).trans (by assumption) | exact congrArg Prod.fst (va_up_self _ _ _) | exact (congrArg Prod.fst (va_up_ne _ _ (by omega))).trans (by assumption) | exact (congrFun (va_up_ne _ _ (by omega)) _).trans (by assumption) | exact (va_up_ne _ _ (by omega)).trans (va_up_self _ _ _) | exact (va_up_ne _ _ (by omega)).trans ((va_up_ne _ _ (by omega)).trans (by assumption)) | exact (congrArg Prod.fst ((va_up_ne _ _ (by omega)).trans (va_up_ne _ _ (by omega)))).trans (by assumption) | exact (congrFun ((va_up_ne _ _ (by omega)).trans (va_up_ne _ _ (by omega))) _).trans (by assumption) | (rw [va_up_self, va_up_ne _ _ (by omega)]; assumption)) (by first | assumption | exact va_up_self _ _ _ | exact (va_up_ne _ _ (by omega)).trans (by assumption) | exact congrArg Prod.fst (va_up_self _ _ _) | exact (congrArg Prod.fst (va_up_ne _ _ (by omega))).trans (by assumption) | exact (congrFun (va_up_ne _ _ (by omega)) _).trans (by assumption) | exact (va_up_ne _ _ (by omega)).trans (va_up_self _ _ _) | exact (va_up_ne _ _ (by omega)).trans ((va_up_ne _ _ (by omega)).trans (by assumption)) | exact (congrArg Prod.fst ((va_up_ne _ _ (by omega)).trans (va_up_ne _ _ (by omega)))).trans (by assumption) | exact (congrFun ((va_up_ne _ _ (by omega)).trans (va_up_ne _ _ (by omega))) _).trans (by assumption) | (rw [va_up_self, va_up_ne _ _ (by omega)]; assumption)) ?_
    refine tk_getP dX10_lessons_24 fX10_131 rfl (by first | assumption | exact va_up_self _ _ _ | exact (va_up_ne _ _ (by omega)).trans (by assumption) | exact congrArg Prod.fst (va_up_self _ _ _) | exact (congrArg Prod.fst (va_up_ne _ _ (by omega))).trans (by assumption) | exact (congrFun (va_up_ne _ _ (by omega)) _).trans (by assumption) | exact (va_up_ne _ _ (by omega)).trans (va_up_self _ _ _) | exact (va_up_ne _ _ (by omega)).trans ((va_up_ne _ _ (by omega)).trans (by assumption)) | exact (congrArg Prod.fst ((va_up_ne _ _ (by omega)).trans (va_up_ne _ _ (by omega)))).trans (by assumption) | exact (congrFun ((va_up_ne _ _ (by omega)).trans (va_up_ne _ _ (by omega))) _).trans (by assumption) | (rw [va_up_self, va_up_ne _ _ (by omega)]; assumption)) (by first | assumption | exact va_up_self _ _ _ | exact (va_up_ne _ _ (by omega)).trans (by assumption) | exact congrArg Prod.fst (va_up_self _ _ _) | exact (congrArg Prod.fst (va_up_ne _ _ (by omega))).trans (by assumption) | exact (congrFun (va_up_ne _ _ (by omega)) _).trans (by assumption) | exact (va_up_ne _ _ (by omega)).trans (va_up_self _ _ _) | exact (va_up_ne _ _ (by omega)).trans ((va_up_ne _ _ (by omega)).trans (by assumption)) | exact (congrArg Prod.fst ((va_up_ne _ _ (by omega)).trans (va_up_ne _ _ (by omega)))).trans (by assumption) | exact (congrFun ((va_up_ne _ _ (by omega)).trans (va_up_ne _ _ (by omega))) _).trans (by assumption) | (rw [va_up_self, va_up_ne _ _ (by omega)]; assumption)) ?_
    refine tk_iload1 dX10_lessons_27 ?_
    refine tk_aald dX10_lessons_28 (by first | assumption | exact va_up_self _ _ _ | exact (va_up_ne _ _ (by omega)).trans (by assumption) | exact congrArg Prod.fst (va_up_self _ _ _) | exact (congrArg Prod.fst (va_up_ne _ _ (by omega))).trans (by assumption) | exact (congrFun (va_up_ne _ _ (by omega)) _).trans (by assumption) | exact (va_up_ne _ _ (by omega)).trans (va_up_self _ _ _) | exact (va_up_ne _ _ (by omega)).trans ((va_up_ne _ _ (by omega)).trans (by assumption)) | exact (congrArg Prod.fst ((va_up_ne _ _ (by omega)).trans (va_up_ne _ _ (by omega)))).trans (by assumption) | exact (congrFun ((va_up_ne _ _ (by omega)).trans (va_up_ne _ _ (by omega))) _).trans (by assumption) | (rw [va_up_self, va_up_ne _ _ (by omega)]; assumption)) (by omega) (by omega) (by omega) (by first | assumption | exact va_up_self _ _ _ | exact (va_up_ne _ _ (by omega)).trans (by assumption) | exact congrArg Prod.fst (va_up_self _ _ _) | exact (congrArg Prod.fst (va_up_ne _ _ (by omega))).trans (by assumption) | exact (congrFun (va_up_ne _ _ (by omega)) _).trans (by assumption) | exact (va_up_ne _ _ (by omega)).trans (va_up_self _ _ _) | exact (va_up_ne _ _ (by omega)).trans ((va_up_ne _ _ (by omega)).trans (by assumption)) | exact (congrArg Prod.fst ((va_up_ne _ _ (by omega)).trans (va_up_ne _ _ (by omega)))).trans (by assumption) | exact (congrFun ((va_up_ne _ _ (by omega)).trans (va_up_ne _ _ (by omega))) _).trans (by assumption) | (rw [va_up_self, va_up_ne _ _ (by omega)]; assumption)) ?_
    refine tk_aload0 dX10_lessons_29 ?_
    refine tk_getP dX10_lessons_30 fX10_13 rfl (by first | assumption | exact va_up_self _ _ _ | exact (va_up_ne _ _ (by omega)).trans (by assumption) | exact congrArg Prod.fst (va_up_self _ _ _) | exact (congrArg Prod.fst (va_up_ne _ _ (by omega))).trans (by assumption) | exact (congrFun (va_up_ne _ _ (by omega)) _).trans (by assumption) | exact (va_up_ne _ _ (by omega)).trans (va_up_self _ _ _) | exact (va_up_ne _ _ (by omega)).trans ((va_up_ne _ _ (by omega)).trans (by assumption)) | exact (congrArg Prod.fst ((va_up_ne _ _ (by omega)).trans (va_up_ne _ _ (by omega)))).trans (by assumption) | exact (congrFun ((va_up_ne _ _ (by omega)).trans (va_up_ne _ _ (by omega))) _).trans (by assumption) | (rw [va_up_self, va_up_ne _ _ (by omega)]; assumption)) (by first | assumption | exact va_up_self _ _ _ | exact (va_up_ne _ _ (by omega)).trans (by assumption) | exact congrArg Prod.fst (va_up_self _ _ _) | exact (congrArg Prod.fst (va_up_ne _ _ (by omega))).trans (by assumption) | exact (congrFun (va_up_ne _ _ (by omega)) _).trans (by assumption) | exact (va_up_ne _ _ (by omega)).trans (va_up_self _ _ _) | exact (va_up_ne _ _ (by omega)).trans ((va_up_ne _ _ (by omega)).trans (by assumption)) | exact (congrArg Prod.fst ((va_up_ne _ _ (by omega)).trans (va_up_ne _ _ (by omega)))).trans (by assumption) | exact (congrFun ((va_up_ne _ _ (by omega)).trans (va_up_ne _ _ (by omega))) _).trans (by assumption) | (rw [va_up_self, va_up_ne _ _ (by omega)]; assumption)) ?_
    refine tk_callV2q dX10_lessons_33 kX10_330 (by first | assumption | exact va_up_self _ _ _ | exact (va_up_ne _ _ (by omega)).trans (by assumption) | exact congrArg Prod.fst (va_up_self _ _ _) | exact (congrArg Prod.fst (va_up_ne _ _ (by omega))).trans (by assumption) | exact (congrFun (va_up_ne _ _ (by omega)) _).trans (by assumption) | exact (va_up_ne _ _ (by omega)).trans (va_up_self _ _ _) | exact (va_up_ne _ _ (by omega)).trans ((va_up_ne _ _ (by omega)).trans (by assumption)) | exact (congrArg Prod.fst ((va_up_ne _ _ (by omega)).trans (va_up_ne _ _ (by omega)))).trans (by assumption) | exact (congrFun ((va_up_ne _ _ (by omega)).trans (va_up_ne _ _ (by omega))) _).trans (by assumption) | (rw [va_up_self, va_up_ne _ _ (by omega)]; assumption)) (y1) (Nat.le_of_ble_eq_true rfl) (by omega) ?_
    rintro rr hh1 hq
    obtain ⟨o, I2, L2, P2, rfl, rfl, st, z4, z5⟩ := y2 _ _ hq
    dsimp only [Option.toList, List.singleton_append]
    have hk2 := (hN'.st st).2.1
    have k02 := hk2.1
    refine tk_istore3 dX10_lessons_36 rfl ?_
    refine tk_iload3 dX10_lessons_37 ?_
    refine tk_jf_ge dX10_lessons_38 (fun h38 => ?_) (fun h38 => ?_)
    · refine tk_iload3 dX10_lessons_51 ?_
      refine tk_ireturn dX10_lessons_52 rfl ?_
      rw [hix]
      rcases telV_some z4 with ⟨e1, e2⟩ | ⟨k, e0, e1, e2⟩
      · first
          | (rw [e2] at h38; exact absurd h38 (by decide))
          | exact tPst_g hc ((st.kp hn).tr cKp.z) (fun o' ho => ⟨fun _ => ⟨rfl, (hR.st st).fnd⟩, fun k' hk' => by have := LSO_u ho z4; rw [hk', e1] at this; cases this⟩)
      · first
          | exact tPst_g hc (st.kp hn) (fun o' ho => ⟨fun q => (by have := LSO_u ho z4; rw [q, e1] at this; cases this), fun k' hk' => (by have := LSO_u ho z4; rw [hk', e1] at this; cases this; exact ⟨e2, hR.st st⟩)⟩)
          | (rw [e2] at h38; exact absurd h38 (Int32.not_lt.mpr (nI_pos' (by omega))))
    · refine tk_aload0 dX10_lessons_41 ?_
      refine tk_ldcw dX10_lessons_42 klX10_316 ?_
      refine tk_callV1z dX10_lessons_45 kX10_66 (by first | assumption | exact va_up_self _ _ _ | exact (va_up_ne _ _ (by omega)).trans (by assumption) | exact congrArg Prod.fst (va_up_self _ _ _) | exact (congrArg Prod.fst (va_up_ne _ _ (by omega))).trans (by assumption) | exact (congrFun (va_up_ne _ _ (by omega)) _).trans (by assumption) | exact (va_up_ne _ _ (by omega)).trans (va_up_self _ _ _) | exact (va_up_ne _ _ (by omega)).trans ((va_up_ne _ _ (by omega)).trans (by assumption)) | exact (congrArg Prod.fst ((va_up_ne _ _ (by omega)).trans (va_up_ne _ _ (by omega)))).trans (by assumption) | exact (congrFun ((va_up_ne _ _ (by omega)).trans (va_up_ne _ _ (by omega))) _).trans (by assumption) | (rw [va_up_self, va_up_ne _ _ (by omega)]; assumption)) (c_finding hk2 _) (Nat.le_of_ble_eq_true rfl) (by omega) ?_
      refine tk_goto dX10_lessons_48 ?_
      refine tk_ireturn dX10_lessons_52 rfl ?_
      rw [hix]
      rcases telV_some z4 with ⟨e1, e2⟩ | ⟨k, e0, e1, e2⟩
      · first
          | (rw [e2] at h38; exact absurd h38 (by decide))
          | exact tPst_g hc ((st.kp hn).tr cKp.z) (fun o' ho => ⟨fun _ => ⟨rfl, (hR.st st).fnd⟩, fun k' hk' => by have := LSO_u ho z4; rw [hk', e1] at this; cases this⟩)
      · first
          | exact tPst_g hc (st.kp hn) (fun o' ho => ⟨fun q => (by have := LSO_u ho z4; rw [q, e1] at this; cases this), fun k' hk' => (by have := LSO_u ho z4; rw [hk', e1] at this; cases this; exact ⟨e2, hR.st st⟩)⟩)
          | (rw [e2] at h38; exact absurd h38 (Int32.not_lt.mpr (nI_pos' (by omega))))
  · refine tk_aload0 dX10_lessons_10 ?_
    refine tk_iload2 dX10_lessons_11 ?_
    refine tk_callV1z dX10_lessons_12 kX10_66 (by first | assumption | exact va_up_self _ _ _ | exact (va_up_ne _ _ (by omega)).trans (by assumption) | exact congrArg Prod.fst (va_up_self _ _ _) | exact (congrArg Prod.fst (va_up_ne _ _ (by omega))).trans (by assumption) | exact (congrFun (va_up_ne _ _ (by omega)) _).trans (by assumption) | exact (va_up_ne _ _ (by omega)).trans (va_up_self _ _ _) | exact (va_up_ne _ _ (by omega)).trans ((va_up_ne _ _ (by omega)).trans (by assumption)) | exact (congrArg Prod.fst ((va_up_ne _ _ (by omega)).trans (va_up_ne _ _ (by omega)))).trans (by assumption) | exact (congrFun ((va_up_ne _ _ (by omega)).trans (va_up_ne _ _ (by omega))) _).trans (by assumption) | (rw [va_up_self, va_up_ne _ _ (by omega)]; assumption)) (c_finding hk _) (Nat.le_of_ble_eq_true rfl) (by omega) ?_
    refine tk_ireturn dX10_lessons_15 rfl ?_
    exact tPst_f (by simp [rAkC, h7]) hR cKp.rf
theorem k_lesson (hN : cNow n T I L P J tw np nf W r cn cl pn pl pg mn mW mr mc ml) (s i : Int32) : tkM G mX10_lesson 96 0 0 [vR 0, vI s, vI i] (n, T, I, L, P) (tPst n T I L P J (rLsC J s i) (lfR J (tA J np nf W r cn cl (ix s)) (tLs J np nf W r cn cl (ix s)) i)) := by
  have hN' := hN
  obtain ⟨hR, hk, ⟨hTH, hPH, hMH, hGW, hob⟩, ftw, pic, sta, oa, se, pa, ma, ht, hpc, hst, hoa, hse, hpa, hma⟩ := hN
  have hn := hR.1
  have hsc := hR.2.1
  have hk' := hk
  obtain ⟨k0, k1, k2, k3, k4, k5, k6⟩ := hk'
  have ht' := ht
  obtain ⟨u0, u1, u2, u3, u4, u5, u6⟩ := ht'
  have hpc' := hpc
  obtain ⟨fpi, tpi, wa, ca, ga, p1, p2, p3, hw, fca, hca, hcl, fga, hga, hgr⟩ := hpc'
  have hp : pObj T P pic wa ca ga := ⟨tpi, p1, p2, p3⟩
  have hTH' := hTH
  obtain ⟨h41, np1, np4, h411, nf1, nf4, h412, W1, W64, h413, rW, h414, cn5, hcW, hsW⟩ := hTH'
  have se6 := hse.2.1
  have s36 : (T 36).1 = 5 := hsc.2.2.2.1
  refine tkM.of (ls := [some _, some _, some _]) (by decide +kernel) (by decide +kernel) (Nat.le_of_ble_eq_true rfl) rfl ?_
  refine tk_iload1 dX10_lesson_0 ?_
  refine tk_callS1z dX10_lesson_1 kX10_123 (c_isSentence s) (Nat.le_of_ble_eq_true rfl) (by omega) ?_
  first | refine tk_jf_eqB dX10_lesson_4 (fun h4 => ?_) (fun h4 => ?_) | refine tk_if_eq dX10_lesson_4 (fun h4 => ?_) (fun h4 => ?_)
  · refine tk_aload0 dX10_lesson_11 ?_
    refine tk_ldc dX10_lesson_12 klX10_65 ?_
    refine tk_callV1z dX10_lesson_14 kX10_66 (by first | assumption | exact va_up_self _ _ _ | exact (va_up_ne _ _ (by omega)).trans (by assumption) | exact congrArg Prod.fst (va_up_self _ _ _) | exact (congrArg Prod.fst (va_up_ne _ _ (by omega))).trans (by assumption) | exact (congrFun (va_up_ne _ _ (by omega)) _).trans (by assumption) | exact (va_up_ne _ _ (by omega)).trans (va_up_self _ _ _) | exact (va_up_ne _ _ (by omega)).trans ((va_up_ne _ _ (by omega)).trans (by assumption)) | exact (congrArg Prod.fst ((va_up_ne _ _ (by omega)).trans (va_up_ne _ _ (by omega)))).trans (by assumption) | exact (congrFun ((va_up_ne _ _ (by omega)).trans (va_up_ne _ _ (by omega))) _).trans (by assumption) | (rw [va_up_self, va_up_ne _ _ (by omega)]; assumption)) (c_finding hk _) (Nat.le_of_ble_eq_true rfl) (by omega) ?_
    refine tk_ireturn dX10_lesson_17 rfl ?_
    exact tPst_f (by simp [rLsC, *]) hR cKp.rf
  · refine tk_iload2 dX10_lesson_7 ?_
    refine tk_jf_ge dX10_lesson_8 (fun h8 => ?_) (fun h8 => ?_)
    · refine tk_aload0 dX10_lesson_18 ?_
      have hin := h4
      obtain ⟨s', hs', rfl⟩ := rIn_of h4 (by omega)
      have hix : ix (nI s') = s' := ix_nI (by omega)
      obtain ⟨ra, l, q1, q2, q3, q4, q5, q6, q7, q8⟩ := sen_row hse (show s' < 6 by omega)
      refine tk_iload1 dX10_lesson_19 ?_
      refine tk_callV1z dX10_lesson_20 kX10_276 (by first | assumption | exact va_up_self _ _ _ | exact (va_up_ne _ _ (by omega)).trans (by assumption) | exact congrArg Prod.fst (va_up_self _ _ _) | exact (congrArg Prod.fst (va_up_ne _ _ (by omega))).trans (by assumption) | exact (congrFun (va_up_ne _ _ (by omega)) _).trans (by assumption) | exact (va_up_ne _ _ (by omega)).trans (va_up_self _ _ _) | exact (va_up_ne _ _ (by omega)).trans ((va_up_ne _ _ (by omega)).trans (by assumption)) | exact (congrArg Prod.fst ((va_up_ne _ _ (by omega)).trans (va_up_ne _ _ (by omega)))).trans (by assumption) | exact (congrFun ((va_up_ne _ _ (by omega)).trans (va_up_ne _ _ (by omega))) _).trans (by assumption) | (rw [va_up_self, va_up_ne _ _ (by omega)]; assumption)) (k_isRight hN' (show s' < 6 by omega)) (Nat.le_of_ble_eq_true rfl) (by omega) ?_
      first | refine tk_jf_neB dX10_lesson_23 (fun h23 => ?_) (fun h23 => ?_) | refine tk_if_ne dX10_lesson_23 (fun h23 => ?_) (fun h23 => ?_)
      · refine tk_iload2 dX10_lesson_33 ?_
        obtain ⟨Q, y1, y2⟩ := k_shortest (G := G) hN' ht hpc hp hst (show s' < 6 by omega) h23 q4 q8
        have hc : rLsC J (nI s') i = none := (by unfold rLsC; rw [hin, decide_eq_true h8, Bool.and_self, if_pos rfl, if_pos h23])
        refine tk_aload0 dX10_lesson_34 ?_
        refine tk_getP dX10_lesson_35 fX10_57 rfl (by first | assumption | exact va_up_self _ _ _ | exact (va_up_ne _ _ (by omega)).trans (by assumption) | exact congrArg Prod.fst (va_up_self _ _ _) | exact (congrArg Prod.fst (va_up_ne _ _ (by omega))).trans (by assumption) | exact (congrFun (va_up_ne _ _ (by omega)) _).trans (by assumption) | exact (va_up_ne _ _ (by omega)).trans (va_up_self _ _ _) | exact (va_up_ne _ _ (by omega)).trans ((va_up_ne _ _ (by omega)).trans (by assumption)) | exact (congrArg Prod.fst ((va_up_ne _ _ (by omega)).trans (va_up_ne _ _ (by omega)))).trans (by assumption) | exact (congrFun ((va_up_ne _ _ (by omega)).trans (va_up_ne _ _ (by omega))) _).trans (by assumption) | (rw [va_up_self, va_up_ne _ _ (by omega)]; assumption)) (by first | assumption | exact va_up_self _ _ _ | exact (va_up_ne _ _ (by omega)).trans (by assumption) | exact congrArg Prod.fst (va_up_self _ _ _) | exact (congrArg Prod.fst (va_up_ne _ _ (by omega))).trans (by assumption) | exact (congrFun (va_up_ne _ _ (by omega)) _).trans (by assumption) | exact (va_up_ne _ _ (by omega)).trans (va_up_self _ _ _) | exact (va_up_ne _ _ (by omega)).trans ((va_up_ne _ _ (by omega)).trans (by assumption)) | exact (congrArg Prod.fst ((va_up_ne _ _ (by omega)).trans (va_up_ne _ _ (by omega)))).trans (by assumption) | exact (congrFun ((va_up_ne _ _ (by omega)).trans (va_up_ne _ _ (by omega))) _).trans (by assumption) | (rw [va_up_self, va_up_ne _ _ (by omega)]; assumption)) ?_
        refine tk_aload0 dX10_lesson_38 ?_
        refine tk_getP dX10_lesson_39 fX10_13 rfl (by first | assumption | exact va_up_self _ _ _ | exact (va_up_ne _ _ (by omega)).trans (by assumption) | exact congrArg Prod.fst (va_up_self _ _ _) | exact (congrArg Prod.fst (va_up_ne _ _ (by omega))).trans (by assumption) | exact (congrFun (va_up_ne _ _ (by omega)) _).trans (by assumption) | exact (va_up_ne _ _ (by omega)).trans (va_up_self _ _ _) | exact (va_up_ne _ _ (by omega)).trans ((va_up_ne _ _ (by omega)).trans (by assumption)) | exact (congrArg Prod.fst ((va_up_ne _ _ (by omega)).trans (va_up_ne _ _ (by omega)))).trans (by assumption) | exact (congrFun ((va_up_ne _ _ (by omega)).trans (va_up_ne _ _ (by omega))) _).trans (by assumption) | (rw [va_up_self, va_up_ne _ _ (by omega)]; assumption)) (by first | assumption | exact va_up_self _ _ _ | exact (va_up_ne _ _ (by omega)).trans (by assumption) | exact congrArg Prod.fst (va_up_self _ _ _) | exact (congrArg Prod.fst (va_up_ne _ _ (by omega))).trans (by assumption) | exact (congrFun (va_up_ne _ _ (by omega)) _).trans (by assumption) | exact (va_up_ne _ _ (by omega)).trans (va_up_self _ _ _) | exact (va_up_ne _ _ (by omega)).trans ((va_up_ne _ _ (by omega)).trans (by assumption)) | exact (congrArg Prod.fst ((va_up_ne _ _ (by omega)).trans (va_up_ne _ _ (by omega)))).trans (by assumption) | exact (congrFun ((va_up_ne _ _ (by omega)).trans (va_up_ne _ _ (by omega))) _).trans (by assumption) | (rw [va_up_self, va_up_ne _ _ (by omega)]; assumption)) ?_
        refine tk_getP dX10_lesson_42 fX10_131 rfl (by first | assumption | exact va_up_self _ _ _ | exact (va_up_ne _ _ (by omega)).trans (by assumption) | exact congrArg Prod.fst (va_up_self _ _ _) | exact (congrArg Prod.fst (va_up_ne _ _ (by omega))).trans (by assumption) | exact (congrFun (va_up_ne _ _ (by omega)) _).trans (by assumption) | exact (va_up_ne _ _ (by omega)).trans (va_up_self _ _ _) | exact (va_up_ne _ _ (by omega)).trans ((va_up_ne _ _ (by omega)).trans (by assumption)) | exact (congrArg Prod.fst ((va_up_ne _ _ (by omega)).trans (va_up_ne _ _ (by omega)))).trans (by assumption) | exact (congrFun ((va_up_ne _ _ (by omega)).trans (va_up_ne _ _ (by omega))) _).trans (by assumption) | (rw [va_up_self, va_up_ne _ _ (by omega)]; assumption)) (by first | assumption | exact va_up_self _ _ _ | exact (va_up_ne _ _ (by omega)).trans (by assumption) | exact congrArg Prod.fst (va_up_self _ _ _) | exact (congrArg Prod.fst (va_up_ne _ _ (by omega))).trans (by assumption) | exact (congrFun (va_up_ne _ _ (by omega)) _).trans (by assumption) | exact (va_up_ne _ _ (by omega)).trans (va_up_self _ _ _) | exact (va_up_ne _ _ (by omega)).trans ((va_up_ne _ _ (by omega)).trans (by assumption)) | exact (congrArg Prod.fst ((va_up_ne _ _ (by omega)).trans (va_up_ne _ _ (by omega)))).trans (by assumption) | exact (congrFun ((va_up_ne _ _ (by omega)).trans (va_up_ne _ _ (by omega))) _).trans (by assumption) | (rw [va_up_self, va_up_ne _ _ (by omega)]; assumption)) ?_
        refine tk_iload1 dX10_lesson_45 ?_
        refine tk_aald dX10_lesson_46 (by first | assumption | exact va_up_self _ _ _ | exact (va_up_ne _ _ (by omega)).trans (by assumption) | exact congrArg Prod.fst (va_up_self _ _ _) | exact (congrArg Prod.fst (va_up_ne _ _ (by omega))).trans (by assumption) | exact (congrFun (va_up_ne _ _ (by omega)) _).trans (by assumption) | exact (va_up_ne _ _ (by omega)).trans (va_up_self _ _ _) | exact (va_up_ne _ _ (by omega)).trans ((va_up_ne _ _ (by omega)).trans (by assumption)) | exact (congrArg Prod.fst ((va_up_ne _ _ (by omega)).trans (va_up_ne _ _ (by omega)))).trans (by assumption) | exact (congrFun ((va_up_ne _ _ (by omega)).trans (va_up_ne _ _ (by omega))) _).trans (by assumption) | (rw [va_up_self, va_up_ne _ _ (by omega)]; assumption)) (by omega) (by omega) (by omega) (by first | assumption | exact va_up_self _ _ _ | exact (va_up_ne _ _ (by omega)).trans (by assumption) | exact congrArg Prod.fst (va_up_self _ _ _) | exact (congrArg Prod.fst (va_up_ne _ _ (by omega))).trans (by assumption) | exact (congrFun (va_up_ne _ _ (by omega)) _).trans (by assumption) | exact (va_up_ne _ _ (by omega)).trans (va_up_self _ _ _) | exact (va_up_ne _ _ (by omega)).trans ((va_up_ne _ _ (by omega)).trans (by assumption)) | exact (congrArg Prod.fst ((va_up_ne _ _ (by omega)).trans (va_up_ne _ _ (by omega)))).trans (by assumption) | exact (congrFun ((va_up_ne _ _ (by omega)).trans (va_up_ne _ _ (by omega))) _).trans (by assumption) | (rw [va_up_self, va_up_ne _ _ (by omega)]; assumption)) ?_
        refine tk_aload0 dX10_lesson_47 ?_
        refine tk_getP dX10_lesson_48 fX10_13 rfl (by first | assumption | exact va_up_self _ _ _ | exact (va_up_ne _ _ (by omega)).trans (by assumption) | exact congrArg Prod.fst (va_up_self _ _ _) | exact (congrArg Prod.fst (va_up_ne _ _ (by omega))).trans (by assumption) | exact (congrFun (va_up_ne _ _ (by omega)) _).trans (by assumption) | exact (va_up_ne _ _ (by omega)).trans (va_up_self _ _ _) | exact (va_up_ne _ _ (by omega)).trans ((va_up_ne _ _ (by omega)).trans (by assumption)) | exact (congrArg Prod.fst ((va_up_ne _ _ (by omega)).trans (va_up_ne _ _ (by omega)))).trans (by assumption) | exact (congrFun ((va_up_ne _ _ (by omega)).trans (va_up_ne _ _ (by omega))) _).trans (by assumption) | (rw [va_up_self, va_up_ne _ _ (by omega)]; assumption)) (by first | assumption | exact va_up_self _ _ _ | exact (va_up_ne _ _ (by omega)).trans (by assumption) | exact congrArg Prod.fst (va_up_self _ _ _) | exact (congrArg Prod.fst (va_up_ne _ _ (by omega))).trans (by assumption) | exact (congrFun (va_up_ne _ _ (by omega)) _).trans (by assumption) | exact (va_up_ne _ _ (by omega)).trans (va_up_self _ _ _) | exact (va_up_ne _ _ (by omega)).trans ((va_up_ne _ _ (by omega)).trans (by assumption)) | exact (congrArg Prod.fst ((va_up_ne _ _ (by omega)).trans (va_up_ne _ _ (by omega)))).trans (by assumption) | exact (congrFun ((va_up_ne _ _ (by omega)).trans (va_up_ne _ _ (by omega))) _).trans (by assumption) | (rw [va_up_self, va_up_ne _ _ (by omega)]; assumption)) ?_
        refine tk_callV2q dX10_lesson_51 kX10_330 (by first | assumption | exact va_up_self _ _ _ | exact (va_up_ne _ _ (by omega)).trans (by assumption) | exact congrArg Prod.fst (va_up_self _ _ _) | exact (congrArg Prod.fst (va_up_ne _ _ (by omega))).trans (by assumption) | exact (congrFun (va_up_ne _ _ (by omega)) _).trans (by assumption) | exact (va_up_ne _ _ (by omega)).trans (va_up_self _ _ _) | exact (va_up_ne _ _ (by omega)).trans ((va_up_ne _ _ (by omega)).trans (by assumption)) | exact (congrArg Prod.fst ((va_up_ne _ _ (by omega)).trans (va_up_ne _ _ (by omega)))).trans (by assumption) | exact (congrFun ((va_up_ne _ _ (by omega)).trans (va_up_ne _ _ (by omega))) _).trans (by assumption) | (rw [va_up_self, va_up_ne _ _ (by omega)]; assumption)) (y1) (Nat.le_of_ble_eq_true rfl) (by omega) ?_
        rintro rr hh1 hq
        obtain ⟨o, I2, L2, P2, rfl, rfl, st, z4, z5⟩ := y2 _ _ hq
        dsimp only [Option.toList, List.singleton_append]
        have hk2 := (hN'.st st).2.1
        have k02 := hk2.1
        have k82 := hk2.2.2.2.2.2.2
        first | refine tk_icmp_ltN dX10_lesson_54 (by omega) (by omega) (fun h54 => ?_) (fun h54 => ?_) | refine tk_jcmp_lt dX10_lesson_54 (fun h54 => ?_) (fun h54 => ?_)
        · refine tk_iload2 dX10_lesson_65 ?_
          obtain ⟨k, ek, k2⟩ : ∃ k, o = some k ∧ k ≤ 2 := (by
            rcases telV_some z4 with ⟨e1, e2⟩ | ⟨k, e0, e1, e2⟩
            · rw [e2] at h54
              exact absurd (Int32.lt_of_le_of_lt h8 h54) (by decide)
            · exact ⟨k, e1, e0⟩)
          obtain ⟨f, f1, f2, f3⟩ := z5 k ek
          have hik : i < nI k := (by rw [ek] at h54; exact h54)
          obtain ⟨i', hi', ei⟩ := nI_of (x := i) (Int32.not_lt.mpr h8)
          have hik' : i' < k := (nI_ltI hi' (by omega)).mp (ei ▸ hik)
          have fin : ∀ x, x = nI (f i') → tPst n T I L P J (rLsC J (nI s') i) (lfR J (tA J np nf W r cn cl s') (tLs J np nf W r cn cl s') i) (some (vI x)) (n, T, I2, L2, P2) := (by
            intro x hx
            refine tPst_g hc (st.kp hn) (fun o' ho => ⟨fun q => ?_, fun k' f' hk' hi'' hB => ?_⟩)
            · rw [LSO_u ho z4] at q
              exact absurd h54 q
            · have e := LSO_u ho z4
              rw [hk', ek] at e
              cases e
              refine ⟨?_, hR.st st⟩
              rw [hx, ei, ix_nI (by omega), LSR_uniq k _ _ f' f hB f1 i' hik'])
          first | refine tk_jf_neB dX10_lesson_66 (fun h66 => ?_) (fun h66 => ?_) | refine tk_if_ne dX10_lesson_66 (fun h66 => ?_) (fun h66 => ?_)
          · refine tk_aload0 dX10_lesson_79 ?_
            refine tk_getP dX10_lesson_80 fX10_57 rfl (by first | assumption | exact va_up_self _ _ _ | exact (va_up_ne _ _ (by omega)).trans (by assumption) | exact congrArg Prod.fst (va_up_self _ _ _) | exact (congrArg Prod.fst (va_up_ne _ _ (by omega))).trans (by assumption) | exact (congrFun (va_up_ne _ _ (by omega)) _).trans (by assumption) | exact (va_up_ne _ _ (by omega)).trans (va_up_self _ _ _) | exact (va_up_ne _ _ (by omega)).trans ((va_up_ne _ _ (by omega)).trans (by assumption)) | exact (congrArg Prod.fst ((va_up_ne _ _ (by omega)).trans (va_up_ne _ _ (by omega)))).trans (by assumption) | exact (congrFun ((va_up_ne _ _ (by omega)).trans (va_up_ne _ _ (by omega))) _).trans (by assumption) | (rw [va_up_self, va_up_ne _ _ (by omega)]; assumption)) (by first | assumption | exact va_up_self _ _ _ | exact (va_up_ne _ _ (by omega)).trans (by assumption) | exact congrArg Prod.fst (va_up_self _ _ _) | exact (congrArg Prod.fst (va_up_ne _ _ (by omega))).trans (by assumption) | exact (congrFun (va_up_ne _ _ (by omega)) _).trans (by assumption) | exact (va_up_ne _ _ (by omega)).trans (va_up_self _ _ _) | exact (va_up_ne _ _ (by omega)).trans ((va_up_ne _ _ (by omega)).trans (by assumption)) | exact (congrArg Prod.fst ((va_up_ne _ _ (by omega)).trans (va_up_ne _ _ (by omega)))).trans (by assumption) | exact (congrFun ((va_up_ne _ _ (by omega)).trans (va_up_ne _ _ (by omega))) _).trans (by assumption) | (rw [va_up_self, va_up_ne _ _ (by omega)]; assumption)) ?_
            refine tk_getI dX10_lesson_83 fX10_336 rfl (by first | assumption | exact va_up_self _ _ _ | exact (va_up_ne _ _ (by omega)).trans (by assumption) | exact congrArg Prod.fst (va_up_self _ _ _) | exact (congrArg Prod.fst (va_up_ne _ _ (by omega))).trans (by assumption) | exact (congrFun (va_up_ne _ _ (by omega)) _).trans (by assumption) | exact (va_up_ne _ _ (by omega)).trans (va_up_self _ _ _) | exact (va_up_ne _ _ (by omega)).trans ((va_up_ne _ _ (by omega)).trans (by assumption)) | exact (congrArg Prod.fst ((va_up_ne _ _ (by omega)).trans (va_up_ne _ _ (by omega)))).trans (by assumption) | exact (congrFun ((va_up_ne _ _ (by omega)).trans (va_up_ne _ _ (by omega))) _).trans (by assumption) | (rw [va_up_self, va_up_ne _ _ (by omega)]; assumption)) ?_
            refine tk_ireturn dX10_lesson_86 rfl ?_
            rw [hix]
            refine fin _ ?_
            first
              | (have e0 : i' = 0 := (nI_eq (by omega) (by omega)).mp (ei.symm.trans (h66.trans nI_0.symm)); subst e0; exact f2 (by omega))
              | (have e0 : ¬ i' = 0 := fun q => h66 (by rw [ei, q]; exact nI_0); obtain rfl : i' = 1 := (by omega); exact f3 (by omega))
          · refine tk_aload0 dX10_lesson_69 ?_
            refine tk_getP dX10_lesson_70 fX10_57 rfl (by first | assumption | exact va_up_self _ _ _ | exact (va_up_ne _ _ (by omega)).trans (by assumption) | exact congrArg Prod.fst (va_up_self _ _ _) | exact (congrArg Prod.fst (va_up_ne _ _ (by omega))).trans (by assumption) | exact (congrFun (va_up_ne _ _ (by omega)) _).trans (by assumption) | exact (va_up_ne _ _ (by omega)).trans (va_up_self _ _ _) | exact (va_up_ne _ _ (by omega)).trans ((va_up_ne _ _ (by omega)).trans (by assumption)) | exact (congrArg Prod.fst ((va_up_ne _ _ (by omega)).trans (va_up_ne _ _ (by omega)))).trans (by assumption) | exact (congrFun ((va_up_ne _ _ (by omega)).trans (va_up_ne _ _ (by omega))) _).trans (by assumption) | (rw [va_up_self, va_up_ne _ _ (by omega)]; assumption)) (by first | assumption | exact va_up_self _ _ _ | exact (va_up_ne _ _ (by omega)).trans (by assumption) | exact congrArg Prod.fst (va_up_self _ _ _) | exact (congrArg Prod.fst (va_up_ne _ _ (by omega))).trans (by assumption) | exact (congrFun (va_up_ne _ _ (by omega)) _).trans (by assumption) | exact (va_up_ne _ _ (by omega)).trans (va_up_self _ _ _) | exact (va_up_ne _ _ (by omega)).trans ((va_up_ne _ _ (by omega)).trans (by assumption)) | exact (congrArg Prod.fst ((va_up_ne _ _ (by omega)).trans (va_up_ne _ _ (by omega)))).trans (by assumption) | exact (congrFun ((va_up_ne _ _ (by omega)).trans (va_up_ne _ _ (by omega))) _).trans (by assumption) | (rw [va_up_self, va_up_ne _ _ (by omega)]; assumption)) ?_
            refine tk_getI dX10_lesson_73 fX10_334 rfl (by first | assumption | exact va_up_self _ _ _ | exact (va_up_ne _ _ (by omega)).trans (by assumption) | exact congrArg Prod.fst (va_up_self _ _ _) | exact (congrArg Prod.fst (va_up_ne _ _ (by omega))).trans (by assumption) | exact (congrFun (va_up_ne _ _ (by omega)) _).trans (by assumption) | exact (va_up_ne _ _ (by omega)).trans (va_up_self _ _ _) | exact (va_up_ne _ _ (by omega)).trans ((va_up_ne _ _ (by omega)).trans (by assumption)) | exact (congrArg Prod.fst ((va_up_ne _ _ (by omega)).trans (va_up_ne _ _ (by omega)))).trans (by assumption) | exact (congrFun ((va_up_ne _ _ (by omega)).trans (va_up_ne _ _ (by omega))) _).trans (by assumption) | (rw [va_up_self, va_up_ne _ _ (by omega)]; assumption)) ?_
            skip
            refine tk_goto dX10_lesson_76 ?_
            refine tk_ireturn dX10_lesson_86 rfl ?_
            rw [hix]
            refine fin _ ?_
            first
              | (have e0 : i' = 0 := (nI_eq (by omega) (by omega)).mp (ei.symm.trans (h66.trans nI_0.symm)); subst e0; exact f2 (by omega))
              | (have e0 : ¬ i' = 0 := fun q => h66 (by rw [ei, q]; exact nI_0); obtain rfl : i' = 1 := (by omega); exact f3 (by omega))
        · refine tk_aload0 dX10_lesson_57 ?_
          refine tk_ldcw dX10_lesson_58 klX10_316 ?_
          refine tk_callV1z dX10_lesson_61 kX10_66 (by first | assumption | exact va_up_self _ _ _ | exact (va_up_ne _ _ (by omega)).trans (by assumption) | exact congrArg Prod.fst (va_up_self _ _ _) | exact (congrArg Prod.fst (va_up_ne _ _ (by omega))).trans (by assumption) | exact (congrFun (va_up_ne _ _ (by omega)) _).trans (by assumption) | exact (va_up_ne _ _ (by omega)).trans (va_up_self _ _ _) | exact (va_up_ne _ _ (by omega)).trans ((va_up_ne _ _ (by omega)).trans (by assumption)) | exact (congrArg Prod.fst ((va_up_ne _ _ (by omega)).trans (va_up_ne _ _ (by omega)))).trans (by assumption) | exact (congrFun ((va_up_ne _ _ (by omega)).trans (va_up_ne _ _ (by omega))) _).trans (by assumption) | (rw [va_up_self, va_up_ne _ _ (by omega)]; assumption)) (c_finding hk2 _) (Nat.le_of_ble_eq_true rfl) (by omega) ?_
          refine tk_ireturn dX10_lesson_64 rfl ?_
          rw [hix]
          refine tPst_g hc ((st.kp hn).tr cKp.z) (fun o' ho => ⟨fun _ => ⟨rfl, (hR.st st).fnd⟩, fun k' f hk' hi _ => ?_⟩)
          have := LSO_u ho z4
          rw [← this, hk'] at h54
          exact absurd hi (Int32.not_lt.mpr h54)
      · refine tk_aload0 dX10_lesson_26 ?_
        refine tk_ldc dX10_lesson_27 klX10_175 ?_
        refine tk_callV1z dX10_lesson_29 kX10_66 (by first | assumption | exact va_up_self _ _ _ | exact (va_up_ne _ _ (by omega)).trans (by assumption) | exact congrArg Prod.fst (va_up_self _ _ _) | exact (congrArg Prod.fst (va_up_ne _ _ (by omega))).trans (by assumption) | exact (congrFun (va_up_ne _ _ (by omega)) _).trans (by assumption) | exact (va_up_ne _ _ (by omega)).trans (va_up_self _ _ _) | exact (va_up_ne _ _ (by omega)).trans ((va_up_ne _ _ (by omega)).trans (by assumption)) | exact (congrArg Prod.fst ((va_up_ne _ _ (by omega)).trans (va_up_ne _ _ (by omega)))).trans (by assumption) | exact (congrFun ((va_up_ne _ _ (by omega)).trans (va_up_ne _ _ (by omega))) _).trans (by assumption) | (rw [va_up_self, va_up_ne _ _ (by omega)]; assumption)) (c_finding hk _) (Nat.le_of_ble_eq_true rfl) (by omega) ?_
        refine tk_ireturn dX10_lesson_32 rfl ?_
        exact tPst_f (by unfold rLsC; rw [hin, decide_eq_true h8, Bool.and_self, if_pos rfl, h23]; rfl) hR cKp.rf
    · refine tk_aload0 dX10_lesson_11 ?_
      refine tk_ldc dX10_lesson_12 klX10_65 ?_
      refine tk_callV1z dX10_lesson_14 kX10_66 (by first | assumption | exact va_up_self _ _ _ | exact (va_up_ne _ _ (by omega)).trans (by assumption) | exact congrArg Prod.fst (va_up_self _ _ _) | exact (congrArg Prod.fst (va_up_ne _ _ (by omega))).trans (by assumption) | exact (congrFun (va_up_ne _ _ (by omega)) _).trans (by assumption) | exact (va_up_ne _ _ (by omega)).trans (va_up_self _ _ _) | exact (va_up_ne _ _ (by omega)).trans ((va_up_ne _ _ (by omega)).trans (by assumption)) | exact (congrArg Prod.fst ((va_up_ne _ _ (by omega)).trans (va_up_ne _ _ (by omega)))).trans (by assumption) | exact (congrFun ((va_up_ne _ _ (by omega)).trans (va_up_ne _ _ (by omega))) _).trans (by assumption) | (rw [va_up_self, va_up_ne _ _ (by omega)]; assumption)) (c_finding hk _) (Nat.le_of_ble_eq_true rfl) (by omega) ?_
      refine tk_ireturn dX10_lesson_17 rfl ?_
      exact tPst_f (by simp [rLsC, *]) hR cKp.rf
end LESSONS
