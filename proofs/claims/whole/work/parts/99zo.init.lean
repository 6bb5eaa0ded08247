/-! ===== the class: what its constructor makes ===== -/
/-- the heap grown, one object a written -/
def oKp (n a : Nat) (T : Nat → Nat × Nat) (I : Nat → Nat → Int32) (L : Nat → Nat → Int64) (P : Nat → Nat → Option Nat) (T' : Nat → Nat × Nat) (I' : Nat → Nat → Int32) (L' : Nat → Nat → Int64) (P' : Nat → Nat → Option Nat) : Prop := ∀ b, b < n → T' b = T b ∧ L' b = L b ∧ (¬ b = a → I' b = I b ∧ P' b = P b)
section INIT
variable {G : tkG} {n : Nat} {T : Nat → Nat × Nat} {I : Nat → Nat → Int32} {L : Nat → Nat → Int64} {P : Nat → Nat → Option Nat}
theorem c_sheetInit {a : Nat} (h1 : (T a).1 = 6) (ha : a < n) : tkM G mX5_init 1 1 14 [vR a] (n, T, I, L, P) (fun rv h => ∃ T' I' L' P', rv = none ∧ h = (n + 1, T', I', L', P') ∧ oKp n a T I L P T' I' L' P' ∧ T' n = (20, 14) ∧ (∀ i, I' n i = 0) ∧ I' a 0 = nI 0 ∧ I' a 1 = nI 0 ∧ P' a 2 = some n) := by
  refine tkM.of (ls := [some _]) (by decide +kernel) (by decide +kernel) (Nat.le_of_ble_eq_true rfl) rfl ?_
  refine tk_aload0 dX5_init_0 ?_
  refine tk_objInit dX5_init_1 oiX5_3 (Nat.le_of_ble_eq_true rfl) (by omega) ?_
  refine tk_aload0 dX5_init_4 ?_
  refine tk_iconst dX5_init_5 kc_iconst_0 ?_
  refine tk_putI dX5_init_6 fX5_9 wX5_init_X5_0 rfl (by first | assumption | exact va_up_self _ _ _ | exact (va_up_ne _ _ (by omega)).trans (by assumption) | exact congrArg Prod.fst (va_up_self _ _ _) | exact (congrArg Prod.fst (va_up_ne _ _ (by omega))).trans (by assumption) | exact (congrFun (va_up_ne _ _ (by omega)) _).trans (by assumption) | exact (va_up_ne _ _ (by omega)).trans (va_up_self _ _ _) | exact (va_up_ne _ _ (by omega)).trans ((va_up_ne _ _ (by omega)).trans (by assumption)) | exact (congrArg Prod.fst ((va_up_ne _ _ (by omega)).trans (va_up_ne _ _ (by omega)))).trans (by assumption) | exact (congrFun ((va_up_ne _ _ (by omega)).trans (va_up_ne _ _ (by omega))) _).trans (by assumption) | (rw [va_up_self, va_up_ne _ _ (by omega)]; assumption)) ?_
  refine tk_aload0 dX5_init_9 ?_
  refine tk_iconst dX5_init_10 kc_iconst_0 ?_
  refine tk_putI dX5_init_11 fX5_15 wX5_init_X5_1 rfl (by first | assumption | exact va_up_self _ _ _ | exact (va_up_ne _ _ (by omega)).trans (by assumption) | exact congrArg Prod.fst (va_up_self _ _ _) | exact (congrArg Prod.fst (va_up_ne _ _ (by omega))).trans (by assumption) | exact (congrFun (va_up_ne _ _ (by omega)) _).trans (by assumption) | exact (va_up_ne _ _ (by omega)).trans (va_up_self _ _ _) | exact (va_up_ne _ _ (by omega)).trans ((va_up_ne _ _ (by omega)).trans (by assumption)) | exact (congrArg Prod.fst ((va_up_ne _ _ (by omega)).trans (va_up_ne _ _ (by omega)))).trans (by assumption) | exact (congrFun ((va_up_ne _ _ (by omega)).trans (va_up_ne _ _ (by omega))) _).trans (by assumption) | (rw [va_up_self, va_up_ne _ _ (by omega)]; assumption)) ?_
  refine tk_aload0 dX5_init_14 ?_
  refine tk_bipush dX5_init_15 kc_bipush_14 ?_
  refine tk_newaS (t := 20) dX5_init_17 rfl (by omega) (by omega) tk_ac20 (by first | exact Or.inl rfl | exact Or.inr (Or.inl rfl) | exact Or.inr (Or.inr rfl)) (by omega) (by omega) (by omega) ?_
  refine tk_putP dX5_init_19 fX5_18 wX5_init_X5_2 rfl (by first | assumption | exact va_up_self _ _ _ | exact (va_up_ne _ _ (by omega)).trans (by assumption) | exact congrArg Prod.fst (va_up_self _ _ _) | exact (congrArg Prod.fst (va_up_ne _ _ (by omega))).trans (by assumption) | exact (congrFun (va_up_ne _ _ (by omega)) _).trans (by assumption) | exact (va_up_ne _ _ (by omega)).trans (va_up_self _ _ _) | exact (va_up_ne _ _ (by omega)).trans ((va_up_ne _ _ (by omega)).trans (by assumption)) | exact (congrArg Prod.fst ((va_up_ne _ _ (by omega)).trans (va_up_ne _ _ (by omega)))).trans (by assumption) | exact (congrFun ((va_up_ne _ _ (by omega)).trans (va_up_ne _ _ (by omega))) _).trans (by assumption) | (rw [va_up_self, va_up_ne _ _ (by omega)]; assumption)) ?_
  refine tk_return dX5_init_22 rfl ?_
  refine ⟨_, _, _, _, rfl, rfl, fun b hb => ⟨?_, ?_, fun hba => ⟨?_, ?_⟩⟩, ?_, fun i => ?_, ?_, ?_, ?_⟩
  · rw [va_up_ne _ _ (by omega)]
  · rw [va_up_ne _ _ (by omega)]
  · repeat rw [va_up_ne _ _ (by omega)]
  · repeat rw [va_up_ne _ _ (by omega)]
  · rw [va_up_self]
  · rw [va_up_self]
  · rw [va_up_ne _ _ (by omega)]; simp only [va_up_self, bx_uu, tk_une, tk_usrt, not_false_eq_true, Nat.reduceEqDiff, Nat.reduceLT, Nat.reduceAdd, Nat.reduceMul, Nat.reduceLeDiff, reduceCtorEq]
  · rw [va_up_ne _ _ (by omega)]; simp only [va_up_self, bx_uu, tk_une, tk_usrt, not_false_eq_true, Nat.reduceEqDiff, Nat.reduceLT, Nat.reduceAdd, Nat.reduceMul, Nat.reduceLeDiff, reduceCtorEq]
  · rw [va_up_self, va_up_self]
theorem c_sightInit {a : Nat} (h1 : (T a).1 = 7) (ha : a < n) : tkM G mX6_init 1 2 9 [vR a] (n, T, I, L, P) (fun rv h => ∃ T' I' L' P', rv = none ∧ h = (n + 1 + 1, T', I', L', P') ∧ oKp n a T I L P T' I' L' P' ∧ T' n = (20, 4) ∧ T' (n + 1) = (21, 5) ∧ (∀ i, I' n i = 0) ∧ P' a 3 = some n ∧ P' a 4 = some (n + 1)) := by
  refine tkM.of (ls := [some _]) (by decide +kernel) (by decide +kernel) (Nat.le_of_ble_eq_true rfl) rfl ?_
  refine tk_aload0 dX6_init_0 ?_
  refine tk_objInit dX6_init_1 oiX6_3 (Nat.le_of_ble_eq_true rfl) (by omega) ?_
  refine tk_aload0 dX6_init_4 ?_
  refine tk_iconst dX6_init_5 kc_iconst_4 ?_
  refine tk_newaS (t := 20) dX6_init_6 rfl (by omega) (by omega) tk_ac20 (by first | exact Or.inl rfl | exact Or.inr (Or.inl rfl) | exact Or.inr (Or.inr rfl)) (by omega) (by omega) (by omega) ?_
  refine tk_putP dX6_init_8 fX6_9 wX6_init_X6_3 rfl (by first | assumption | exact va_up_self _ _ _ | exact (va_up_ne _ _ (by omega)).trans (by assumption) | exact congrArg Prod.fst (va_up_self _ _ _) | exact (congrArg Prod.fst (va_up_ne _ _ (by omega))).trans (by assumption) | exact (congrFun (va_up_ne _ _ (by omega)) _).trans (by assumption) | exact (va_up_ne _ _ (by omega)).trans (va_up_self _ _ _) | exact (va_up_ne _ _ (by omega)).trans ((va_up_ne _ _ (by omega)).trans (by assumption)) | exact (congrArg Prod.fst ((va_up_ne _ _ (by omega)).trans (va_up_ne _ _ (by omega)))).trans (by assumption) | exact (congrFun ((va_up_ne _ _ (by omega)).trans (va_up_ne _ _ (by omega))) _).trans (by assumption) | (rw [va_up_self, va_up_ne _ _ (by omega)]; assumption)) ?_
  refine tk_aload0 dX6_init_11 ?_
  refine tk_iconst dX6_init_12 kc_iconst_5 ?_
  refine tk_newaS (t := 21) dX6_init_13 rfl (by omega) (by omega) tk_ac21 (by first | exact Or.inl rfl | exact Or.inr (Or.inl rfl) | exact Or.inr (Or.inr rfl)) (by omega) (by omega) (by omega) ?_
  refine tk_putP dX6_init_15 fX6_15 wX6_init_X6_4 rfl (by first | assumption | exact va_up_self _ _ _ | exact (va_up_ne _ _ (by omega)).trans (by assumption) | exact congrArg Prod.fst (va_up_self _ _ _) | exact (congrArg Prod.fst (va_up_ne _ _ (by omega))).trans (by assumption) | exact (congrFun (va_up_ne _ _ (by omega)) _).trans (by assumption) | exact (va_up_ne _ _ (by omega)).trans (va_up_self _ _ _) | exact (va_up_ne _ _ (by omega)).trans ((va_up_ne _ _ (by omega)).trans (by assumption)) | exact (congrArg Prod.fst ((va_up_ne _ _ (by omega)).trans (va_up_ne _ _ (by omega)))).trans (by assumption) | exact (congrFun ((va_up_ne _ _ (by omega)).trans (va_up_ne _ _ (by omega))) _).trans (by assumption) | (rw [va_up_self, va_up_ne _ _ (by omega)]; assumption)) ?_
  refine tk_return dX6_init_18 rfl ?_
  refine ⟨_, _, _, _, rfl, rfl, fun b hb => ⟨?_, ?_, fun hba => ⟨?_, ?_⟩⟩, ?_, ?_, fun i => ?_, ?_, ?_⟩
  · repeat rw [va_up_ne _ _ (by omega)]
  · repeat rw [va_up_ne _ _ (by omega)]
  · repeat rw [va_up_ne _ _ (by omega)]
  · repeat rw [va_up_ne _ _ (by omega)]
  · rw [va_up_ne _ _ (by omega), va_up_self]
  · rw [va_up_self]
  · rw [va_up_ne _ _ (by omega), va_up_self]
  · rw [va_up_self, va_up_ne _ _ (by omega), va_up_ne _ _ (by omega), va_up_self, va_up_self]
  · rw [va_up_self, va_up_self]
theorem c_schoolInit {a : Nat} (h1 : (T a).1 = 5) (ha : a < n) : tkM G mX4_init 2 3 15 [vR a] (n, T, I, L, P) (fun rv h => ∃ T' I' L' P', rv = none ∧ h = (n + 1 + 1 + 1, T', I', L', P') ∧ oKp n a T I L P T' I' L' P' ∧ (T' n).1 = 7 ∧ T' (n + 1) = (20, 4) ∧ T' (n + 1 + 1) = (21, 5) ∧ (∀ i, I' (n + 1) i = 0) ∧ P' n 3 = some (n + 1) ∧ P' n 4 = some (n + 1 + 1) ∧ P' a 0 = some n) := by
  refine tkM.of (ls := [some _]) (by decide +kernel) (by decide +kernel) (Nat.le_of_ble_eq_true rfl) rfl ?_
  refine tk_aload0 dX4_init_0 ?_
  refine tk_objInit dX4_init_1 oiX4_3 (Nat.le_of_ble_eq_true rfl) (by omega) ?_
  refine tk_aload0 dX4_init_4 ?_
  refine tk_newS dX4_init_5 nX4_9 (by omega) (by omega) ?_
  refine tk_dup dX4_init_8 rfl ?_
  refine tk_callIN0s dX4_init_9 kX4_11 (c_sightInit (a := n) (by rw [va_up_self]) (by omega)) (Nat.le_of_ble_eq_true rfl) (by omega) (by omega) (by omega) ?_
  rintro rr hh1 ⟨T2, I2, L2, P2, rfl, rfl, kp, x1, x2, x3, x4, x5⟩
  dsimp only [Option.toList, List.nil_append]
  have ka := kp a (by omega)
  have kn := kp n (by omega)
  have ta : (T2 a).1 = 5 := by rw [ka.1, va_up_ne _ _ (by omega)]; exact h1
  refine tk_putP dX4_init_12 fX4_12 wX4_init_X4_0 rfl (by first | assumption | exact va_up_self _ _ _ | exact (va_up_ne _ _ (by omega)).trans (by assumption) | exact congrArg Prod.fst (va_up_self _ _ _) | exact (congrArg Prod.fst (va_up_ne _ _ (by omega))).trans (by assumption) | exact (congrFun (va_up_ne _ _ (by omega)) _).trans (by assumption) | exact (va_up_ne _ _ (by omega)).trans (va_up_self _ _ _) | exact (va_up_ne _ _ (by omega)).trans ((va_up_ne _ _ (by omega)).trans (by assumption)) | exact (congrArg Prod.fst ((va_up_ne _ _ (by omega)).trans (va_up_ne _ _ (by omega)))).trans (by assumption) | exact (congrFun ((va_up_ne _ _ (by omega)).trans (va_up_ne _ _ (by omega))) _).trans (by assumption) | (rw [va_up_self, va_up_ne _ _ (by omega)]; assumption)) ?_
  refine tk_return dX4_init_15 rfl ?_
  refine ⟨_, _, _, _, rfl, rfl, fun b hb => ⟨?_, ?_, fun hba => ⟨?_, ?_⟩⟩, ?_, ?_, ?_, fun i => ?_, ?_, ?_, ?_⟩
  · rw [(kp b (by omega)).1, va_up_ne _ _ (by omega)]
  · rw [(kp b (by omega)).2.1, va_up_ne _ _ (by omega)]
  · rw [((kp b (by omega)).2.2 (by omega)).1, va_up_ne _ _ (by omega)]
  · rw [va_up_ne _ _ hba, ((kp b (by omega)).2.2 (by omega)).2, va_up_ne _ _ (by omega)]
  · rw [kn.1, va_up_self]
  · exact x1
  · exact x2
  · exact x3 i
  · rw [va_up_ne _ _ (by omega)]; exact x4
  · rw [va_up_ne _ _ (by omega)]; exact x5
  · rw [va_up_self, va_up_self]
theorem c_draftInit {a : Nat} (h1 : (T a).1 = 1) (ha : a < n) : tkM G mX0_init 1 7 1536 [vR a] (n, T, I, L, P) (fun rv h => ∃ T' I' L' P', rv = none ∧ h = (n + 1 + 1 + 1 + 1 + 1 + 1 + 1, T', I', L', P') ∧ oKp n a T I L P T' I' L' P' ∧ T' n = (20, 128) ∧ T' (n + 1) = (20, 512) ∧ T' (n + 1 + 1) = (20, 128) ∧ T' (n + 1 + 1 + 1) = (20, 128) ∧ T' (n + 1 + 1 + 1 + 1) = (20, 128) ∧ T' (n + 1 + 1 + 1 + 1 + 1) = (21, 256) ∧ T' (n + 1 + 1 + 1 + 1 + 1 + 1) = (21, 256) ∧ P' a 5 = some n ∧ P' a 6 = some (n + 1) ∧ P' a 7 = some (n + 1 + 1) ∧ P' a 8 = some (n + 1 + 1 + 1) ∧ P' a 9 = some (n + 1 + 1 + 1 + 1) ∧ P' a 10 = some (n + 1 + 1 + 1 + 1 + 1) ∧ P' a 11 = some (n + 1 + 1 + 1 + 1 + 1 + 1)) := by
  have z0 : ¬ a = n := by omega
  have z1 : ¬ a = n + 1 := by omega
  have z2 : ¬ a = n + 1 + 1 := by omega
  have z3 : ¬ a = n + 1 + 1 + 1 := by omega
  have z4 : ¬ a = n + 1 + 1 + 1 + 1 := by omega
  have z5 : ¬ a = n + 1 + 1 + 1 + 1 + 1 := by omega
  have z6 : ¬ a = n + 1 + 1 + 1 + 1 + 1 + 1 := by omega
  refine tkM.of (ls := [some _]) (by decide +kernel) (by decide +kernel) (Nat.le_of_ble_eq_true rfl) rfl ?_
  refine tk_aload0 dX0_init_0 ?_
  refine tk_objInit dX0_init_1 oiX0_3 (Nat.le_of_ble_eq_true rfl) (by omega) ?_
  refine tk_aload0 dX0_init_4 ?_
  refine tk_sipush dX0_init_5 kc_sipush_128 ?_
  refine tk_newaS (t := 20) dX0_init_8 rfl (by omega) (by omega) tk_ac20 (by first | exact Or.inl rfl | exact Or.inr (Or.inl rfl) | exact Or.inr (Or.inr rfl)) (by omega) (by omega) (by omega) ?_
  refine tk_putP dX0_init_10 fX0_11 wX0_init_X0_5 rfl (by first | assumption | exact va_up_self _ _ _ | exact (va_up_ne _ _ (by omega)).trans (by assumption) | exact congrArg Prod.fst (va_up_self _ _ _) | exact (congrArg Prod.fst (va_up_ne _ _ (by omega))).trans (by assumption) | exact (congrFun (va_up_ne _ _ (by omega)) _).trans (by assumption) | exact (va_up_ne _ _ (by omega)).trans (va_up_self _ _ _) | exact (va_up_ne _ _ (by omega)).trans ((va_up_ne _ _ (by omega)).trans (by assumption)) | exact (congrArg Prod.fst ((va_up_ne _ _ (by omega)).trans (va_up_ne _ _ (by omega)))).trans (by assumption) | exact (congrFun ((va_up_ne _ _ (by omega)).trans (va_up_ne _ _ (by omega))) _).trans (by assumption) | (rw [va_up_self, va_up_ne _ _ (by omega)]; assumption)) ?_
  refine tk_aload0 dX0_init_13 ?_
  refine tk_sipush dX0_init_14 kc_sipush_512 ?_
  refine tk_newaS (t := 20) dX0_init_17 rfl (by omega) (by omega) tk_ac20 (by first | exact Or.inl rfl | exact Or.inr (Or.inl rfl) | exact Or.inr (Or.inr rfl)) (by omega) (by omega) (by omega) ?_
  refine tk_putP dX0_init_19 fX0_15 wX0_init_X0_6 rfl (by first | assumption | exact va_up_self _ _ _ | exact (va_up_ne _ _ (by omega)).trans (by assumption) | exact congrArg Prod.fst (va_up_self _ _ _) | exact (congrArg Prod.fst (va_up_ne _ _ (by omega))).trans (by assumption) | exact (congrFun (va_up_ne _ _ (by omega)) _).trans (by assumption) | exact (va_up_ne _ _ (by omega)).trans (va_up_self _ _ _) | exact (va_up_ne _ _ (by omega)).trans ((va_up_ne _ _ (by omega)).trans (by assumption)) | exact (congrArg Prod.fst ((va_up_ne _ _ (by omega)).trans (va_up_ne _ _ (by omega)))).trans (by assumption) | exact (congrFun ((va_up_ne _ _ (by omega)).trans (va_up_ne _ _ (by omega))) _).trans (by assumption) | (rw [va_up_self, va_up_ne _ _ (by omega)]; assumption)) ?_
  refine tk_aload0 dX0_init_22 ?_
  refine tk_sipush dX0_init_23 kc_sipush_128 ?_
  refine tk_newaS (t := 20) dX0_init_26 rfl (by omega) (by omega) tk_ac20 (by first | exact Or.inl rfl | exact Or.inr (Or.inl rfl) | exact Or.inr (Or.inr rfl)) (by omega) (by omega) (by omega) ?_
  refine tk_putP dX0_init_28 fX0_18 wX0_init_X0_7 rfl (by simp only [tk_une z0, tk_une z1, tk_une z2, tk_une z3, tk_une z4, tk_une z5, tk_une z6]; exact h1) ?_
  refine tk_aload0 dX0_init_31 ?_
  refine tk_sipush dX0_init_32 kc_sipush_128 ?_
  refine tk_newaS (t := 20) dX0_init_35 rfl (by omega) (by omega) tk_ac20 (by first | exact Or.inl rfl | exact Or.inr (Or.inl rfl) | exact Or.inr (Or.inr rfl)) (by omega) (by omega) (by omega) ?_
  refine tk_putP dX0_init_37 fX0_21 wX0_init_X0_8 rfl (by simp only [tk_une z0, tk_une z1, tk_une z2, tk_une z3, tk_une z4, tk_une z5, tk_une z6]; exact h1) ?_
  refine tk_aload0 dX0_init_40 ?_
  refine tk_sipush dX0_init_41 kc_sipush_128 ?_
  refine tk_newaS (t := 20) dX0_init_44 rfl (by omega) (by omega) tk_ac20 (by first | exact Or.inl rfl | exact Or.inr (Or.inl rfl) | exact Or.inr (Or.inr rfl)) (by omega) (by omega) (by omega) ?_
  refine tk_putP dX0_init_46 fX0_24 wX0_init_X0_9 rfl (by simp only [tk_une z0, tk_une z1, tk_une z2, tk_une z3, tk_une z4, tk_une z5, tk_une z6]; exact h1) ?_
  refine tk_aload0 dX0_init_49 ?_
  refine tk_sipush dX0_init_50 kc_sipush_256 ?_
  refine tk_newaS (t := 21) dX0_init_53 rfl (by omega) (by omega) tk_ac21 (by first | exact Or.inl rfl | exact Or.inr (Or.inl rfl) | exact Or.inr (Or.inr rfl)) (by omega) (by omega) (by omega) ?_
  refine tk_putP dX0_init_55 fX0_27 wX0_init_X0_10 rfl (by simp only [tk_une z0, tk_une z1, tk_une z2, tk_une z3, tk_une z4, tk_une z5, tk_une z6]; exact h1) ?_
  refine tk_aload0 dX0_init_58 ?_
  refine tk_sipush dX0_init_59 kc_sipush_256 ?_
  refine tk_newaS (t := 21) dX0_init_62 rfl (by omega) (by omega) tk_ac21 (by first | exact Or.inl rfl | exact Or.inr (Or.inl rfl) | exact Or.inr (Or.inr rfl)) (by omega) (by omega) (by omega) ?_
  refine tk_putP dX0_init_64 fX0_31 wX0_init_X0_11 rfl (by simp only [tk_une z0, tk_une z1, tk_une z2, tk_une z3, tk_une z4, tk_une z5, tk_une z6]; exact h1) ?_
  refine tk_return dX0_init_67 rfl ?_
  refine ⟨_, _, _, _, rfl, rfl, fun b hb => ⟨?_, ?_, fun hba => ⟨?_, ?_⟩⟩, ?_, ?_, ?_, ?_, ?_, ?_, ?_, ?_, ?_, ?_, ?_, ?_, ?_, ?_⟩
  · repeat rw [va_up_ne _ _ (by omega)]
  · repeat rw [va_up_ne _ _ (by omega)]
  · repeat rw [va_up_ne _ _ (by omega)]
  · repeat rw [va_up_ne _ _ (by omega)]
  · repeat rw [va_up_ne _ _ (by omega)]
    rw [va_up_self]
  · repeat rw [va_up_ne _ _ (by omega)]
    rw [va_up_self]
  · repeat rw [va_up_ne _ _ (by omega)]
    rw [va_up_self]
  · repeat rw [va_up_ne _ _ (by omega)]
    rw [va_up_self]
  · repeat rw [va_up_ne _ _ (by omega)]
    rw [va_up_self]
  · repeat rw [va_up_ne _ _ (by omega)]
    rw [va_up_self]
  · rw [va_up_self]
  · simp only [va_up_self, bx_uu, tk_une, tk_usrt, not_false_eq_true, Nat.reduceEqDiff, Nat.reduceLT, Nat.reduceAdd, Nat.reduceMul, Nat.reduceLeDiff, reduceCtorEq, tk_une z0, tk_une z1, tk_une z2, tk_une z3, tk_une z4, tk_une z5, tk_une z6]
  · simp only [va_up_self, bx_uu, tk_une, tk_usrt, not_false_eq_true, Nat.reduceEqDiff, Nat.reduceLT, Nat.reduceAdd, Nat.reduceMul, Nat.reduceLeDiff, reduceCtorEq, tk_une z0, tk_une z1, tk_une z2, tk_une z3, tk_une z4, tk_une z5, tk_une z6]
  · simp only [va_up_self, bx_uu, tk_une, tk_usrt, not_false_eq_true, Nat.reduceEqDiff, Nat.reduceLT, Nat.reduceAdd, Nat.reduceMul, Nat.reduceLeDiff, reduceCtorEq, tk_une z0, tk_une z1, tk_une z2, tk_une z3, tk_une z4, tk_une z5, tk_une z6]
  · simp only [va_up_self, bx_uu, tk_une, tk_usrt, not_false_eq_true, Nat.reduceEqDiff, Nat.reduceLT, Nat.reduceAdd, Nat.reduceMul, Nat.reduceLeDiff, reduceCtorEq, tk_une z0, tk_une z1, tk_une z2, tk_une z3, tk_une z4, tk_une z5, tk_une z6]
  · simp only [va_up_self, bx_uu, tk_une, tk_usrt, not_false_eq_true, Nat.reduceEqDiff, Nat.reduceLT, Nat.reduceAdd, Nat.reduceMul, Nat.reduceLeDiff, reduceCtorEq, tk_une z0, tk_une z1, tk_une z2, tk_une z3, tk_une z4, tk_une z5, tk_une z6]
  · simp only [va_up_self, bx_uu, tk_une, tk_usrt, not_false_eq_true, Nat.reduceEqDiff, Nat.reduceLT, Nat.reduceAdd, Nat.reduceMul, Nat.reduceLeDiff, reduceCtorEq, tk_une z0, tk_une z1, tk_une z2, tk_une z3, tk_une z4, tk_une z5, tk_une z6]
  · simp only [va_up_self, bx_uu, tk_une, tk_usrt, not_false_eq_true, Nat.reduceEqDiff, Nat.reduceLT, Nat.reduceAdd, Nat.reduceMul, Nat.reduceLeDiff, reduceCtorEq, tk_une z0, tk_une z1, tk_une z2, tk_une z3, tk_une z4, tk_une z5, tk_une z6]
end INIT
