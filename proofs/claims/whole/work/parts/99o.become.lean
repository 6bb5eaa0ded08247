/-! ===== the class: a town becomes what is now ===== -/
section BECOME
variable {G : tkG} {n : Nat} {T : Nat → Nat × Nat} {I J : Nat → Nat → Int32} {L : Nat → Nat → Int64} {P : Nat → Nat → Option Nat}
theorem cTown.tg {a : Nat} {A : Nat → Nat → Int32} (h : cTown n T I L P a A) : fz n a ∧ (T a).1 = 8 := by
  obtain ⟨np, nf, W, r, cn, cl, pn, pl, pg, mn, mW, mr, mc, ml, h1, h2, pic, st, oa, se, pa, ma, h3, -⟩ := h
  exact ⟨h2, h3.1⟩
/-- what a town's becoming leaves: J' has the town's ints A, the rest as the reference keeps it -/
def bJ (J A J' : Nat → Nat → Int32) (m : Nat) : Prop := (∀ a, 41 ≤ a → a ≤ 59 → J' a = A a) ∧ (∀ a, 60 ≤ a → a ≤ 63 → J' a = rKp J m a) ∧ J' 40 20 = rKp J m 40 20 ∧ J' 40 24 = rKp J m 40 24
def BCQ (n : Nat) (T : Nat → Nat × Nat) (I : Nat → Nat → Int32) (L : Nat → Nat → Int64) (P : Nat → Nat → Option Nat) (J A : Nat → Nat → Int32) (m t : Nat) : Option tkV → tkH → Prop := fun rv h => ∃ I' P', rv = none ∧ h = (n, T, I', L, P') ∧ (∀ a, ¬ a = 0 → I' a = I a) ∧ (∀ a, ¬ a = 0 → ¬ a = 15 → P' a = P a) ∧ kObj T P' t ∧ ∀ J', bJ J A J' m → cRel n T I' L P' J'
theorem become_rel {I' : Nat → Nat → Int32} {P' : Nat → Nat → Option Nat} {A J' : Nat → Nat → Int32} {tw kc kn t : Nat} (hn : 87 ≤ n) (hsc : cScr T I P) (hsh : cShe T I P J) (h15 : T 15 = (26, 12)) (ho : cOwn n T I L P J tw kc kn) (ht : cTown n T I L P t A) (hI : ∀ a, ¬ a = 0 → I' a = I a) (hI2 : I' 0 2 = nI (min (kc + 1) 12)) (hI3 : I' 0 3 = nI ((kn + 1) % 12)) (hI4 : I' 0 4 = I 0 4) (hP : ∀ a, ¬ a = 0 → ¬ a = 15 → P' a = P a) (hP0 : kObj T P' t) (hP15 : P' 15 = va_up (P 15) kn (some tw)) (hJ : bJ J A J' kc) : cRel n T I' L P' J' := by
  obtain ⟨o1, o2, o3, o4, o5, o6, o7, o8, o9⟩ := ho
  obtain ⟨j1, j2, j3, j4⟩ := hJ
  have ex : cEx n T I L P n T I' L P' := ⟨Nat.le_refl _, fun a ha => ⟨rfl, hI a (by have := ha.1; omega), rfl, hP a (by have := ha.1; omega) (by have := ha.1; omega)⟩⟩
  have e61 : ∀ a, 61 ≤ a → a ≤ 63 → J' a = J a := fun a h1 h2 => by rw [j2 a (by omega) h2, rKp_an (by omega) (by omega)]
  refine ⟨hn, ?_, ?_, h15, t, min (kc + 1) 12, (kn + 1) % 12, hP0, hI2, hI3, Nat.mod_lt _ (by omega), Nat.min_le_right _ _, ?_, ?_, ?_, ?_⟩
  · unfold cScr sObj dObj at hsc ⊢
    rw [hI 26 (by omega), hI 38 (by omega), hP 25 (by omega) (by omega), hP 37 (by omega) (by omega), hP 28 (by omega) (by omega), hP 36 (by omega) (by omega)]
    exact hsc
  · refine ⟨hsh.1, fun s hs => ?_⟩
    have q := hsh.2 s hs
    unfold hObj at q ⊢
    rw [hP 16 (by omega) (by omega), hP (17 + 2 * s) (by omega) (by omega), hI (17 + 2 * s) (by omega), hI (18 + 2 * s) (by omega), e61 61 (by omega) (by omega), e61 62 (by omega) (by omega), e61 63 (by omega) (by omega)]
    exact q
  · rw [hI4, o6, j4, rKp_40 (by decide) (by decide)]
  · rw [j3, rKp_20 o5]
    congr 1
    split <;> omega
  · exact (ht.ex ex).kc (kSm_of fun a h1 h2 => (j1 a h1 h2).symm)
  · intro i hi
    rw [j2 60 (by omega) (by omega), hP15]
    by_cases h12 : kc = 12
    · subst h12
      have e60 : rKp J 12 60 = rSnap J (rShf (J 60)) 33000 := by unfold rKp; rw [if_pos rfl, va_up_self]
      rw [e60]
      by_cases hi2 : i = 11
      · subst hi2
        refine ⟨tw, ?_, (o8.ex ex).kc snap_in.sy⟩
        rw [show ((kn + 1) % 12 + 12 - min (12 + 1) 12 + 11) % 12 = kn by omega, va_up_self]
      · obtain ⟨t', q1, q2⟩ := o9 (i + 1) (by omega)
        refine ⟨t', ?_, (q2.ex ex).kc ?_⟩
        · rw [va_up_ne _ _ (by omega), ← q1]
          congr 1
          omega
        · intro a h1 h2 j hj
          unfold kTw
          have hb : kOf a + j < 2973 := by rcases k_cases h1 h2 with rfl | rfl | rfl | rfl | rfl | rfl | rfl | rfl | rfl | rfl | rfl | rfl | rfl | rfl | rfl | rfl | rfl | rfl | rfl <;> simp only [kOf, kSz] at hj ⊢ <;> omega
          rw [snap_out (by omega)]
          unfold rShf
          rw [tkcp_lt (by omega)]
          congr 1
          omega
    · have e60 : rKp J kc 60 = rSnap J (J 60) (3000 * kc) := by unfold rKp; rw [if_neg h12, va_up_self]
      rw [e60]
      by_cases hi2 : i = kc
      · subst hi2
        refine ⟨tw, ?_, (o8.ex ex).kc snap_in.sy⟩
        rw [show ((kn + 1) % 12 + 12 - min (i + 1) 12 + i) % 12 = kn by omega, va_up_self]
      · obtain ⟨t', q1, q2⟩ := o9 i (by omega)
        refine ⟨t', ?_, (q2.ex ex).kc ?_⟩
        · rw [va_up_ne _ _ (by omega), ← q1]
          congr 1
          omega
        · intro a h1 h2 j hj
          unfold kTw
          have hb : kOf a + j < 2973 := by rcases k_cases h1 h2 with rfl | rfl | rfl | rfl | rfl | rfl | rfl | rfl | rfl | rfl | rfl | rfl | rfl | rfl | rfl | rfl | rfl | rfl | rfl <;> simp only [kOf, kSz] at hj ⊢ <;> omega
          rw [snap_out (by omega)]
theorem c_become {t m : Nat} {A : Nat → Nat → Int32} (h : cRel n T I L P J) (hm : J 40 20 = nI m) (hm2 : m ≤ 12) (ht : cTown n T I L P t A) : tkM G mX10_become 1 0 0 [vR 0, vR t] (n, T, I, L, P) (BCQ n T I L P J A m t) := by
  obtain ⟨hn, hsc, hsh, h15, tw, kc, kn, ho⟩ := h
  have ho' := ho
  obtain ⟨hk, o2, o3, o4, o5, o6, o7, o8, o9⟩ := ho'
  obtain rfl : m = kc := (nI_eq (by omega) (by omega)).mp (hm.symm.trans o7)
  obtain ⟨k0, k1, k2, k3, k4, k5, k6⟩ := hk
  have t8 := o8.tg.2
  have ttw := o8.tg.1
  refine tkM.of (ls := [some _, some _]) (by decide +kernel) (by decide +kernel) (Nat.le_of_ble_eq_true rfl) rfl ?_
  refine tk_aload0 dX10_become_0 ?_
  refine tk_getP dX10_become_1 fX10_19 rfl (by first | assumption | exact va_up_self _ _ _ | exact (va_up_ne _ _ (by omega)).trans (by assumption) | exact congrArg Prod.fst (va_up_self _ _ _) | exact (congrArg Prod.fst (va_up_ne _ _ (by omega))).trans (by assumption) | exact (congrFun (va_up_ne _ _ (by omega)) _).trans (by assumption) | exact (va_up_ne _ _ (by omega)).trans (va_up_self _ _ _) | exact (va_up_ne _ _ (by omega)).trans ((va_up_ne _ _ (by omega)).trans (by assumption)) | exact (congrArg Prod.fst ((va_up_ne _ _ (by omega)).trans (va_up_ne _ _ (by omega)))).trans (by assumption) | exact (congrFun ((va_up_ne _ _ (by omega)).trans (va_up_ne _ _ (by omega))) _).trans (by assumption) | (rw [va_up_self, va_up_ne _ _ (by omega)]; assumption)) (by first | assumption | exact va_up_self _ _ _ | exact (va_up_ne _ _ (by omega)).trans (by assumption) | exact congrArg Prod.fst (va_up_self _ _ _) | exact (congrArg Prod.fst (va_up_ne _ _ (by omega))).trans (by assumption) | exact (congrFun (va_up_ne _ _ (by omega)) _).trans (by assumption) | exact (va_up_ne _ _ (by omega)).trans (va_up_self _ _ _) | exact (va_up_ne _ _ (by omega)).trans ((va_up_ne _ _ (by omega)).trans (by assumption)) | exact (congrArg Prod.fst ((va_up_ne _ _ (by omega)).trans (va_up_ne _ _ (by omega)))).trans (by assumption) | exact (congrFun ((va_up_ne _ _ (by omega)).trans (va_up_ne _ _ (by omega))) _).trans (by assumption) | (rw [va_up_self, va_up_ne _ _ (by omega)]; assumption)) ?_
  refine tk_aload0 dX10_become_4 ?_
  refine tk_getI dX10_become_5 fX10_27 rfl (by first | assumption | exact va_up_self _ _ _ | exact (va_up_ne _ _ (by omega)).trans (by assumption) | exact congrArg Prod.fst (va_up_self _ _ _) | exact (congrArg Prod.fst (va_up_ne _ _ (by omega))).trans (by assumption) | exact (congrFun (va_up_ne _ _ (by omega)) _).trans (by assumption) | exact (va_up_ne _ _ (by omega)).trans (va_up_self _ _ _) | exact (va_up_ne _ _ (by omega)).trans ((va_up_ne _ _ (by omega)).trans (by assumption)) | exact (congrArg Prod.fst ((va_up_ne _ _ (by omega)).trans (va_up_ne _ _ (by omega)))).trans (by assumption) | exact (congrFun ((va_up_ne _ _ (by omega)).trans (va_up_ne _ _ (by omega))) _).trans (by assumption) | (rw [va_up_self, va_up_ne _ _ (by omega)]; assumption)) ?_
  rw [o3]
  refine tk_aload0 dX10_become_8 ?_
  refine tk_getP dX10_become_9 fX10_13 rfl (by first | assumption | exact va_up_self _ _ _ | exact (va_up_ne _ _ (by omega)).trans (by assumption) | exact congrArg Prod.fst (va_up_self _ _ _) | exact (congrArg Prod.fst (va_up_ne _ _ (by omega))).trans (by assumption) | exact (congrFun (va_up_ne _ _ (by omega)) _).trans (by assumption) | exact (va_up_ne _ _ (by omega)).trans (va_up_self _ _ _) | exact (va_up_ne _ _ (by omega)).trans ((va_up_ne _ _ (by omega)).trans (by assumption)) | exact (congrArg Prod.fst ((va_up_ne _ _ (by omega)).trans (va_up_ne _ _ (by omega)))).trans (by assumption) | exact (congrFun ((va_up_ne _ _ (by omega)).trans (va_up_ne _ _ (by omega))) _).trans (by assumption) | (rw [va_up_self, va_up_ne _ _ (by omega)]; assumption)) (by first | assumption | exact va_up_self _ _ _ | exact (va_up_ne _ _ (by omega)).trans (by assumption) | exact congrArg Prod.fst (va_up_self _ _ _) | exact (congrArg Prod.fst (va_up_ne _ _ (by omega))).trans (by assumption) | exact (congrFun (va_up_ne _ _ (by omega)) _).trans (by assumption) | exact (va_up_ne _ _ (by omega)).trans (va_up_self _ _ _) | exact (va_up_ne _ _ (by omega)).trans ((va_up_ne _ _ (by omega)).trans (by assumption)) | exact (congrArg Prod.fst ((va_up_ne _ _ (by omega)).trans (va_up_ne _ _ (by omega)))).trans (by assumption) | exact (congrFun ((va_up_ne _ _ (by omega)).trans (va_up_ne _ _ (by omega))) _).trans (by assumption) | (rw [va_up_self, va_up_ne _ _ (by omega)]; assumption)) ?_
  refine tk_aast dX10_become_12 (by first | assumption | exact va_up_self _ _ _ | exact (va_up_ne _ _ (by omega)).trans (by assumption) | exact congrArg Prod.fst (va_up_self _ _ _) | exact (congrArg Prod.fst (va_up_ne _ _ (by omega))).trans (by assumption) | exact (congrFun (va_up_ne _ _ (by omega)) _).trans (by assumption) | exact (va_up_ne _ _ (by omega)).trans (va_up_self _ _ _) | exact (va_up_ne _ _ (by omega)).trans ((va_up_ne _ _ (by omega)).trans (by assumption)) | exact (congrArg Prod.fst ((va_up_ne _ _ (by omega)).trans (va_up_ne _ _ (by omega)))).trans (by assumption) | exact (congrFun ((va_up_ne _ _ (by omega)).trans (va_up_ne _ _ (by omega))) _).trans (by assumption) | (rw [va_up_self, va_up_ne _ _ (by omega)]; assumption)) (by omega) (by omega) (by omega) (by first | assumption | exact va_up_self _ _ _ | exact (va_up_ne _ _ (by omega)).trans (by assumption) | exact congrArg Prod.fst (va_up_self _ _ _) | exact (congrArg Prod.fst (va_up_ne _ _ (by omega))).trans (by assumption) | exact (congrFun (va_up_ne _ _ (by omega)) _).trans (by assumption) | exact (va_up_ne _ _ (by omega)).trans (va_up_self _ _ _) | exact (va_up_ne _ _ (by omega)).trans ((va_up_ne _ _ (by omega)).trans (by assumption)) | exact (congrArg Prod.fst ((va_up_ne _ _ (by omega)).trans (va_up_ne _ _ (by omega)))).trans (by assumption) | exact (congrFun ((va_up_ne _ _ (by omega)).trans (va_up_ne _ _ (by omega))) _).trans (by assumption) | (rw [va_up_self, va_up_ne _ _ (by omega)]; assumption)) ?_
  refine tk_aload0 dX10_become_13 ?_
  refine tk_aload0 dX10_become_14 ?_
  refine tk_getI dX10_become_15 fX10_27 rfl (by first | assumption | exact va_up_self _ _ _ | exact (va_up_ne _ _ (by omega)).trans (by assumption) | exact congrArg Prod.fst (va_up_self _ _ _) | exact (congrArg Prod.fst (va_up_ne _ _ (by omega))).trans (by assumption) | exact (congrFun (va_up_ne _ _ (by omega)) _).trans (by assumption) | exact (va_up_ne _ _ (by omega)).trans (va_up_self _ _ _) | exact (va_up_ne _ _ (by omega)).trans ((va_up_ne _ _ (by omega)).trans (by assumption)) | exact (congrArg Prod.fst ((va_up_ne _ _ (by omega)).trans (va_up_ne _ _ (by omega)))).trans (by assumption) | exact (congrFun ((va_up_ne _ _ (by omega)).trans (va_up_ne _ _ (by omega))) _).trans (by assumption) | (rw [va_up_self, va_up_ne _ _ (by omega)]; assumption)) ?_
  rw [o3]
  refine tk_iconst dX10_become_18 kc_iconst_1 ?_
  first | refine tk_iaddN dX10_become_19 ?_ | refine tk_iadd dX10_become_19 ?_
  refine tk_bipush dX10_become_20 kc_bipush_12 ?_
  first | refine tk_iremN dX10_become_22 (by omega) (by omega) (by omega) ?_ | refine tk_irem dX10_become_22 (by decide) ?_
  refine tk_putI dX10_become_23 fX10_27 wX10_become_X10_3 rfl (by first | assumption | exact va_up_self _ _ _ | exact (va_up_ne _ _ (by omega)).trans (by assumption) | exact congrArg Prod.fst (va_up_self _ _ _) | exact (congrArg Prod.fst (va_up_ne _ _ (by omega))).trans (by assumption) | exact (congrFun (va_up_ne _ _ (by omega)) _).trans (by assumption) | exact (va_up_ne _ _ (by omega)).trans (va_up_self _ _ _) | exact (va_up_ne _ _ (by omega)).trans ((va_up_ne _ _ (by omega)).trans (by assumption)) | exact (congrArg Prod.fst ((va_up_ne _ _ (by omega)).trans (va_up_ne _ _ (by omega)))).trans (by assumption) | exact (congrFun ((va_up_ne _ _ (by omega)).trans (va_up_ne _ _ (by omega))) _).trans (by assumption) | (rw [va_up_self, va_up_ne _ _ (by omega)]; assumption)) ?_
  refine tk_aload0 dX10_become_26 ?_
  refine tk_aload0 dX10_become_27 ?_
  refine tk_getI dX10_become_28 fX10_23 rfl (by first | assumption | exact va_up_self _ _ _ | exact (va_up_ne _ _ (by omega)).trans (by assumption) | exact congrArg Prod.fst (va_up_self _ _ _) | exact (congrArg Prod.fst (va_up_ne _ _ (by omega))).trans (by assumption) | exact (congrFun (va_up_ne _ _ (by omega)) _).trans (by assumption) | exact (va_up_ne _ _ (by omega)).trans (va_up_self _ _ _) | exact (va_up_ne _ _ (by omega)).trans ((va_up_ne _ _ (by omega)).trans (by assumption)) | exact (congrArg Prod.fst ((va_up_ne _ _ (by omega)).trans (va_up_ne _ _ (by omega)))).trans (by assumption) | exact (congrFun ((va_up_ne _ _ (by omega)).trans (va_up_ne _ _ (by omega))) _).trans (by assumption) | (rw [va_up_self, va_up_ne _ _ (by omega)]; assumption)) ?_
  rw [show va_up I 0 (va_up (I 0) 3 (nI ((kn + 1) % 12))) 0 2 = nI m by simp only [va_up_self, bx_uu, tk_une, tk_usrt, not_false_eq_true, Nat.reduceEqDiff, Nat.reduceLT, Nat.reduceAdd, Nat.reduceMul, Nat.reduceLeDiff, reduceCtorEq]; exact o2]
  refine tk_iconst dX10_become_31 kc_iconst_1 ?_
  first | refine tk_iaddN dX10_become_32 ?_ | refine tk_iadd dX10_become_32 ?_
  refine tk_bipush dX10_become_33 kc_bipush_12 ?_
  refine tk_min dX10_become_35 tk_mn370 tk_mnw (Nat.le_of_ble_eq_true rfl) (by omega) ?_
  rw [min_nI (by omega) (by omega)]
  refine tk_putI dX10_become_38 fX10_23 wX10_become_X10_2 rfl (by first | assumption | exact va_up_self _ _ _ | exact (va_up_ne _ _ (by omega)).trans (by assumption) | exact congrArg Prod.fst (va_up_self _ _ _) | exact (congrArg Prod.fst (va_up_ne _ _ (by omega))).trans (by assumption) | exact (congrFun (va_up_ne _ _ (by omega)) _).trans (by assumption) | exact (va_up_ne _ _ (by omega)).trans (va_up_self _ _ _) | exact (va_up_ne _ _ (by omega)).trans ((va_up_ne _ _ (by omega)).trans (by assumption)) | exact (congrArg Prod.fst ((va_up_ne _ _ (by omega)).trans (va_up_ne _ _ (by omega)))).trans (by assumption) | exact (congrFun ((va_up_ne _ _ (by omega)).trans (va_up_ne _ _ (by omega))) _).trans (by assumption) | (rw [va_up_self, va_up_ne _ _ (by omega)]; assumption)) ?_
  refine tk_aload0 dX10_become_41 ?_
  refine tk_aload1 dX10_become_42 ?_
  refine tk_putP dX10_become_43 fX10_13 wX10_become_X10_0 rfl (by first | assumption | exact va_up_self _ _ _ | exact (va_up_ne _ _ (by omega)).trans (by assumption) | exact congrArg Prod.fst (va_up_self _ _ _) | exact (congrArg Prod.fst (va_up_ne _ _ (by omega))).trans (by assumption) | exact (congrFun (va_up_ne _ _ (by omega)) _).trans (by assumption) | exact (va_up_ne _ _ (by omega)).trans (va_up_self _ _ _) | exact (va_up_ne _ _ (by omega)).trans ((va_up_ne _ _ (by omega)).trans (by assumption)) | exact (congrArg Prod.fst ((va_up_ne _ _ (by omega)).trans (va_up_ne _ _ (by omega)))).trans (by assumption) | exact (congrFun ((va_up_ne _ _ (by omega)).trans (va_up_ne _ _ (by omega))) _).trans (by assumption) | (rw [va_up_self, va_up_ne _ _ (by omega)]; assumption)) ?_
  refine tk_return dX10_become_46 rfl ?_
  refine ⟨_, _, rfl, rfl, fun a ha => ?_, fun a h1 h2 => ?_, ?_, fun J' hJ => become_rel hn hsc hsh h15 ho ht (fun a ha => ?_) ?_ ?_ ?_ (fun a h1 h2 => ?_) ?_ ?_ hJ⟩
  · simp only [va_up_self, bx_uu, tk_une, tk_usrt, not_false_eq_true, Nat.reduceEqDiff, Nat.reduceLT, Nat.reduceAdd, Nat.reduceMul, Nat.reduceLeDiff, reduceCtorEq, ha]
  · simp only [va_up_self, bx_uu, tk_une, tk_usrt, not_false_eq_true, Nat.reduceEqDiff, Nat.reduceLT, Nat.reduceAdd, Nat.reduceMul, Nat.reduceLeDiff, reduceCtorEq, h1, h2]
  · unfold kObj; simp only [va_up_self, bx_uu, tk_une, tk_usrt, not_false_eq_true, Nat.reduceEqDiff, Nat.reduceLT, Nat.reduceAdd, Nat.reduceMul, Nat.reduceLeDiff, reduceCtorEq]; exact ⟨k0, trivial, k2, k3, k4, k5, k6⟩
  · simp only [va_up_self, bx_uu, tk_une, tk_usrt, not_false_eq_true, Nat.reduceEqDiff, Nat.reduceLT, Nat.reduceAdd, Nat.reduceMul, Nat.reduceLeDiff, reduceCtorEq, ha]
  · simp only [va_up_self, bx_uu, tk_une, tk_usrt, not_false_eq_true, Nat.reduceEqDiff, Nat.reduceLT, Nat.reduceAdd, Nat.reduceMul, Nat.reduceLeDiff, reduceCtorEq]; congr 1; split <;> omega
  · simp only [va_up_self, bx_uu, tk_une, tk_usrt, not_false_eq_true, Nat.reduceEqDiff, Nat.reduceLT, Nat.reduceAdd, Nat.reduceMul, Nat.reduceLeDiff, reduceCtorEq]
  · simp only [va_up_self, bx_uu, tk_une, tk_usrt, not_false_eq_true, Nat.reduceEqDiff, Nat.reduceLT, Nat.reduceAdd, Nat.reduceMul, Nat.reduceLeDiff, reduceCtorEq]
  · simp only [va_up_self, bx_uu, tk_une, tk_usrt, not_false_eq_true, Nat.reduceEqDiff, Nat.reduceLT, Nat.reduceAdd, Nat.reduceMul, Nat.reduceLeDiff, reduceCtorEq, h1, h2]
  · unfold kObj; simp only [va_up_self, bx_uu, tk_une, tk_usrt, not_false_eq_true, Nat.reduceEqDiff, Nat.reduceLT, Nat.reduceAdd, Nat.reduceMul, Nat.reduceLeDiff, reduceCtorEq]; exact ⟨k0, trivial, k2, k3, k4, k5, k6⟩
  · simp only [va_up_self, bx_uu, tk_une, tk_usrt, not_false_eq_true, Nat.reduceEqDiff, Nat.reduceLT, Nat.reduceAdd, Nat.reduceMul, Nat.reduceLeDiff, reduceCtorEq]
end BECOME
