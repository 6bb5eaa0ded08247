/-! ===== the class: a town anew ===== -/
section ANEW
variable {G : tkG} {n : Nat} {T : Nat → Nat × Nat} {I : Nat → Nat → Int32} {L : Nat → Nat → Int64} {P : Nat → Nat → Option Nat}
/-- a town of worlds w, groups g and sentences se, at n + 2 -/
def ANQ (n : Nat) (T : Nat → Nat × Nat) (I : Nat → Nat → Int32) (L : Nat → Nat → Int64) (P : Nat → Nat → Option Nat) (w g se : Nat) : Option tkV → tkH → Prop := fun r h => ∃ T' I' L' P', r = some (vR (n + 1 + 1)) ∧ h = (n + 1 + 1 + 1 + 1 + 1 + 1 + 1, T', I', L', P') ∧ cNw n T I L P (n + 1 + 1 + 1 + 1 + 1 + 1 + 1) T' I' L' P' ∧ pObj T' P' n w (n + 1) g ∧ T' (n + 1) = (23, 0) ∧ tObj T' P' (n + 1 + 1) n (n + 1 + 1 + 1) (n + 1 + 1 + 1 + 1) se (n + 1 + 1 + 1 + 1 + 1) (n + 1 + 1 + 1 + 1 + 1 + 1) ∧ T' (n + 1 + 1 + 1) = (20, 4) ∧ (∀ i, I' (n + 1 + 1 + 1) i = 0) ∧ T' (n + 1 + 1 + 1 + 1) = (20, 4) ∧ (∀ i, I' (n + 1 + 1 + 1 + 1) i = 0) ∧ T' (n + 1 + 1 + 1 + 1 + 1) = (24, 0) ∧ T' (n + 1 + 1 + 1 + 1 + 1 + 1) = (25, 0)
theorem c_anew {w g se : Nat} : tkM G mX8_anew 2 7 17 [vR w, vR g, vR se] (n, T, I, L, P) (ANQ n T I L P w g se) := by
  refine tkM.of (ls := [some _, some _, some _, none]) (by decide +kernel) (by decide +kernel) (Nat.le_of_ble_eq_true rfl) rfl ?_
  refine tk_newS dX8_anew_0 nX8_50 (by omega) (by omega) ?_
  refine tk_dup dX8_anew_3 rfl ?_
  refine tk_aload0 dX8_anew_4 ?_
  refine tk_iconst dX8_anew_5 kc_iconst_0 ?_
  refine tk_anewS (t := 23) dX8_anew_6 (by omega) (by omega) rfl caX8_34 tk_ao23 (by omega) (by omega) (by omega) ?_
  refine tk_aload1 dX8_anew_9 ?_
  refine tk_callI3y dX8_anew_10 kX8_54 (c_picInit (by rw [va_up_ne _ _ (by omega), va_up_self])) (Nat.le_of_ble_eq_true rfl) (by omega) ?_
  refine tk_astore3 dX8_anew_13 rfl ?_
  refine tk_newS dX8_anew_14 nX8_10 (by omega) (by omega) ?_
  refine tk_dup dX8_anew_17 rfl ?_
  refine tk_aload3 dX8_anew_18 ?_
  refine tk_iconst dX8_anew_19 kc_iconst_4 ?_
  refine tk_newaS (t := 20) dX8_anew_20 rfl (by omega) (by omega) tk_ac20 (by first | exact Or.inl rfl | exact Or.inr (Or.inl rfl) | exact Or.inr (Or.inr rfl)) (by omega) (by omega) (by omega) ?_
  refine tk_iconst dX8_anew_22 kc_iconst_4 ?_
  refine tk_newaS (t := 20) dX8_anew_23 rfl (by omega) (by omega) tk_ac20 (by first | exact Or.inl rfl | exact Or.inr (Or.inl rfl) | exact Or.inr (Or.inr rfl)) (by omega) (by omega) (by omega) ?_
  refine tk_aload2 dX8_anew_25 ?_
  refine tk_iconst dX8_anew_26 kc_iconst_0 ?_
  refine tk_anewS (t := 24) dX8_anew_27 (by omega) (by omega) rfl caX8_57 tk_ao24 (by omega) (by omega) (by omega) ?_
  refine tk_iconst dX8_anew_30 kc_iconst_0 ?_
  refine tk_anewS (t := 25) dX8_anew_31 (by omega) (by omega) rfl caX8_50 tk_ao25 (by omega) (by omega) (by omega) ?_
  refine tk_callI6y dX8_anew_34 kX8_59 (c_townInit (by rw [va_up_ne _ _ (by omega), va_up_ne _ _ (by omega), va_up_ne _ _ (by omega), va_up_ne _ _ (by omega), va_up_self])) (Nat.le_of_ble_eq_true rfl) (by omega) ?_
  refine tk_areturn dX8_anew_37 rfl (by first | exact Or.inl ⟨_, rfl⟩ | exact Or.inr ⟨_, rfl⟩) ?_
  refine ⟨_, _, _, _, rfl, rfl, ⟨by omega, fun a ha => ⟨by repeat rw [va_up_ne _ _ (by omega)], by repeat rw [va_up_ne _ _ (by omega)], by repeat rw [va_up_ne _ _ (by omega)], by repeat rw [va_up_ne _ _ (by omega)]⟩⟩, ⟨?_, ?_, ?_, ?_⟩, ?_, ⟨?_, ?_, ?_, ?_, ?_, ?_, ?_⟩, ?_, fun i => ?_, ?_, fun i => ?_, ?_, ?_⟩
  · repeat rw [va_up_ne _ _ (by omega)]
    rw [va_up_self]
  · repeat rw [va_up_ne _ _ (by omega)]
    rw [va_up_self]; simp only [va_up_self, bx_uu, tk_une, tk_usrt, not_false_eq_true, Nat.reduceEqDiff, Nat.reduceLT, Nat.reduceAdd, Nat.reduceMul, Nat.reduceLeDiff, reduceCtorEq]
  · repeat rw [va_up_ne _ _ (by omega)]
    rw [va_up_self]; simp only [va_up_self, bx_uu, tk_une, tk_usrt, not_false_eq_true, Nat.reduceEqDiff, Nat.reduceLT, Nat.reduceAdd, Nat.reduceMul, Nat.reduceLeDiff, reduceCtorEq]
  · repeat rw [va_up_ne _ _ (by omega)]
    rw [va_up_self]; simp only [va_up_self, bx_uu, tk_une, tk_usrt, not_false_eq_true, Nat.reduceEqDiff, Nat.reduceLT, Nat.reduceAdd, Nat.reduceMul, Nat.reduceLeDiff, reduceCtorEq]
  · repeat rw [va_up_ne _ _ (by omega)]
    rw [va_up_self]
  · repeat rw [va_up_ne _ _ (by omega)]
    rw [va_up_self]
  · rw [va_up_self]; simp only [va_up_self, bx_uu, tk_une, tk_usrt, not_false_eq_true, Nat.reduceEqDiff, Nat.reduceLT, Nat.reduceAdd, Nat.reduceMul, Nat.reduceLeDiff, reduceCtorEq]
  · rw [va_up_self]; simp only [va_up_self, bx_uu, tk_une, tk_usrt, not_false_eq_true, Nat.reduceEqDiff, Nat.reduceLT, Nat.reduceAdd, Nat.reduceMul, Nat.reduceLeDiff, reduceCtorEq]
  · rw [va_up_self]; simp only [va_up_self, bx_uu, tk_une, tk_usrt, not_false_eq_true, Nat.reduceEqDiff, Nat.reduceLT, Nat.reduceAdd, Nat.reduceMul, Nat.reduceLeDiff, reduceCtorEq]
  · rw [va_up_self]; simp only [va_up_self, bx_uu, tk_une, tk_usrt, not_false_eq_true, Nat.reduceEqDiff, Nat.reduceLT, Nat.reduceAdd, Nat.reduceMul, Nat.reduceLeDiff, reduceCtorEq]
  · rw [va_up_self]; simp only [va_up_self, bx_uu, tk_une, tk_usrt, not_false_eq_true, Nat.reduceEqDiff, Nat.reduceLT, Nat.reduceAdd, Nat.reduceMul, Nat.reduceLeDiff, reduceCtorEq]
  · rw [va_up_self]; simp only [va_up_self, bx_uu, tk_une, tk_usrt, not_false_eq_true, Nat.reduceEqDiff, Nat.reduceLT, Nat.reduceAdd, Nat.reduceMul, Nat.reduceLeDiff, reduceCtorEq]
  · repeat rw [va_up_ne _ _ (by omega)]
    rw [va_up_self]
  · repeat rw [va_up_ne _ _ (by omega)]
    rw [va_up_self]
  · repeat rw [va_up_ne _ _ (by omega)]
    rw [va_up_self]
  · repeat rw [va_up_ne _ _ (by omega)]
    rw [va_up_self]
  · repeat rw [va_up_ne _ _ (by omega)]
    rw [va_up_self]
  · rw [va_up_self]
theorem c_begun {a pic st oa se pa ma w c g w2 : Nat} (ho : tObj T P a pic st oa se pa ma) (hp : pObj T P pic w c g) : tkM G mX8_begun 3 7 17 [vR a, vR w2] (n, T, I, L, P) (ANQ n T I L P w2 g se) := by
  obtain ⟨o0, o1, o2, o3, o4, o5, o6⟩ := ho
  obtain ⟨p0, p1, p2, p3⟩ := hp
  refine tkM.of (ls := [some _, some _]) (by decide +kernel) (by decide +kernel) (Nat.le_of_ble_eq_true rfl) rfl ?_
  refine tk_aload1 dX8_begun_0 ?_
  refine tk_aload0 dX8_begun_1 ?_
  refine tk_getP dX8_begun_2 fX8_9 rfl (by first | assumption | exact va_up_self _ _ _ | exact (va_up_ne _ _ (by omega)).trans (by assumption) | exact congrArg Prod.fst (va_up_self _ _ _) | exact (congrArg Prod.fst (va_up_ne _ _ (by omega))).trans (by assumption) | exact (congrFun (va_up_ne _ _ (by omega)) _).trans (by assumption) | exact (va_up_ne _ _ (by omega)).trans (va_up_self _ _ _) | exact (va_up_ne _ _ (by omega)).trans ((va_up_ne _ _ (by omega)).trans (by assumption)) | exact (congrArg Prod.fst ((va_up_ne _ _ (by omega)).trans (va_up_ne _ _ (by omega)))).trans (by assumption) | exact (congrFun ((va_up_ne _ _ (by omega)).trans (va_up_ne _ _ (by omega))) _).trans (by assumption) | (rw [va_up_self, va_up_ne _ _ (by omega)]; assumption)) (by first | assumption | exact va_up_self _ _ _ | exact (va_up_ne _ _ (by omega)).trans (by assumption) | exact congrArg Prod.fst (va_up_self _ _ _) | exact (congrArg Prod.fst (va_up_ne _ _ (by omega))).trans (by assumption) | exact (congrFun (va_up_ne _ _ (by omega)) _).trans (by assumption) | exact (va_up_ne _ _ (by omega)).trans (va_up_self _ _ _) | exact (va_up_ne _ _ (by omega)).trans ((va_up_ne _ _ (by omega)).trans (by assumption)) | exact (congrArg Prod.fst ((va_up_ne _ _ (by omega)).trans (va_up_ne _ _ (by omega)))).trans (by assumption) | exact (congrFun ((va_up_ne _ _ (by omega)).trans (va_up_ne _ _ (by omega))) _).trans (by assumption) | (rw [va_up_self, va_up_ne _ _ (by omega)]; assumption)) ?_
  refine tk_getP dX8_begun_5 fX8_49 rfl (by first | assumption | exact va_up_self _ _ _ | exact (va_up_ne _ _ (by omega)).trans (by assumption) | exact congrArg Prod.fst (va_up_self _ _ _) | exact (congrArg Prod.fst (va_up_ne _ _ (by omega))).trans (by assumption) | exact (congrFun (va_up_ne _ _ (by omega)) _).trans (by assumption) | exact (va_up_ne _ _ (by omega)).trans (va_up_self _ _ _) | exact (va_up_ne _ _ (by omega)).trans ((va_up_ne _ _ (by omega)).trans (by assumption)) | exact (congrArg Prod.fst ((va_up_ne _ _ (by omega)).trans (va_up_ne _ _ (by omega)))).trans (by assumption) | exact (congrFun ((va_up_ne _ _ (by omega)).trans (va_up_ne _ _ (by omega))) _).trans (by assumption) | (rw [va_up_self, va_up_ne _ _ (by omega)]; assumption)) (by first | assumption | exact va_up_self _ _ _ | exact (va_up_ne _ _ (by omega)).trans (by assumption) | exact congrArg Prod.fst (va_up_self _ _ _) | exact (congrArg Prod.fst (va_up_ne _ _ (by omega))).trans (by assumption) | exact (congrFun (va_up_ne _ _ (by omega)) _).trans (by assumption) | exact (va_up_ne _ _ (by omega)).trans (va_up_self _ _ _) | exact (va_up_ne _ _ (by omega)).trans ((va_up_ne _ _ (by omega)).trans (by assumption)) | exact (congrArg Prod.fst ((va_up_ne _ _ (by omega)).trans (va_up_ne _ _ (by omega)))).trans (by assumption) | exact (congrFun ((va_up_ne _ _ (by omega)).trans (va_up_ne _ _ (by omega))) _).trans (by assumption) | (rw [va_up_self, va_up_ne _ _ (by omega)]; assumption)) ?_
  refine tk_aload0 dX8_begun_8 ?_
  refine tk_getP dX8_begun_9 fX8_22 rfl (by first | assumption | exact va_up_self _ _ _ | exact (va_up_ne _ _ (by omega)).trans (by assumption) | exact congrArg Prod.fst (va_up_self _ _ _) | exact (congrArg Prod.fst (va_up_ne _ _ (by omega))).trans (by assumption) | exact (congrFun (va_up_ne _ _ (by omega)) _).trans (by assumption) | exact (va_up_ne _ _ (by omega)).trans (va_up_self _ _ _) | exact (va_up_ne _ _ (by omega)).trans ((va_up_ne _ _ (by omega)).trans (by assumption)) | exact (congrArg Prod.fst ((va_up_ne _ _ (by omega)).trans (va_up_ne _ _ (by omega)))).trans (by assumption) | exact (congrFun ((va_up_ne _ _ (by omega)).trans (va_up_ne _ _ (by omega))) _).trans (by assumption) | (rw [va_up_self, va_up_ne _ _ (by omega)]; assumption)) (by first | assumption | exact va_up_self _ _ _ | exact (va_up_ne _ _ (by omega)).trans (by assumption) | exact congrArg Prod.fst (va_up_self _ _ _) | exact (congrArg Prod.fst (va_up_ne _ _ (by omega))).trans (by assumption) | exact (congrFun (va_up_ne _ _ (by omega)) _).trans (by assumption) | exact (va_up_ne _ _ (by omega)).trans (va_up_self _ _ _) | exact (va_up_ne _ _ (by omega)).trans ((va_up_ne _ _ (by omega)).trans (by assumption)) | exact (congrArg Prod.fst ((va_up_ne _ _ (by omega)).trans (va_up_ne _ _ (by omega)))).trans (by assumption) | exact (congrFun ((va_up_ne _ _ (by omega)).trans (va_up_ne _ _ (by omega))) _).trans (by assumption) | (rw [va_up_self, va_up_ne _ _ (by omega)]; assumption)) ?_
  refine tk_callS3s dX8_begun_12 kX8_45 (c_anew) (Nat.le_of_ble_eq_true rfl) (by omega) (by omega) (by omega) ?_
  rintro rr h1 hq
  obtain ⟨T', I', L', P', rfl, rest⟩ := hq
  refine tk_areturn dX8_begun_15 rfl (by first | exact Or.inl ⟨_, rfl⟩ | exact Or.inr ⟨_, rfl⟩) ?_
  exact ⟨T', I', L', P', rfl, rest⟩
end ANEW
