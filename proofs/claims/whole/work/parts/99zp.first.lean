/-! ===== the class: the first town ===== -/
section FIRST
variable {G : tkG} {T : Nat → Nat × Nat} {I : Nat → Nat → Int32} {L : Nat → Nat → Int64} {P : Nat → Nat → Option Nat}
/-- a reference's ints before its begin: nothing -/
def j0 (J : Nat → Nat → Int32) : Prop := ∀ a, 40 ≤ a → a < 87 → J a = fun _ => 0
def FIQ (T : Nat → Nat × Nat) (I : Nat → Nat → Int32) (L : Nat → Nat → Int64) (P : Nat → Nat → Option Nat) : Option tkV → tkH → Prop := fun rv h => ∃ T' I' L' P', rv = some (vR 10) ∧ h = (15, T', I', L', P') ∧ cNw 1 T I L P 15 T' I' L' P' ∧ ∀ J, j0 J → cTown 15 T' I' L' P' 10 (rBeg J (nI 2) (nI 2) (nI 0) 4)
theorem fi_town {T1 T2 T3 : Nat → Nat × Nat} {I1 I2 I3 J : Nat → Nat → Int32} {L1 L2 L3 : Nat → Nat → Int64} {P1 P2 P3 : Nat → Nat → Option Nat} (hJ : j0 J) (hse : T1 1 = (23, 6) ∧ (∀ s, s < 6 → P1 1 s = some 2) ∧ (T1 2).1 = 4 ∧ P1 2 0 = some 3 ∧ T1 3 = (20, 0) ∧ I1 2 1 = nI 0) (nw2 : cNw 4 T1 I1 L1 P1 8 T2 I2 L2 P2) (hw : cWld 8 T2 I2 L2 P2 6 2 2 4 0 nI (fun _ => 0)) (hg : T2 7 = (20, 3) ∧ ∀ i, I2 7 i = 0) (hq : ANQ 8 T2 I2 L2 P2 6 7 1 (some (vR 10)) (15, T3, I3, L3, P3)) : cTown 15 T3 I3 L3 P3 10 (rBeg J (nI 2) (nI 2) (nI 0) 4) := by
  obtain ⟨T4, I4, L4, P4, -, e, nw3, po3, z1, to3, z2, z3, z4, z5, z6, z7⟩ := hq
  have e' : (15 = 15) ∧ T3 = T4 ∧ I3 = I4 ∧ L3 = L4 ∧ P3 = P4 := (by simpa only [Prod.mk.injEq] using e)
  obtain ⟨-, rfl, rfl, rfl, rfl⟩ := e'
  have k1 : ∀ a, a < 4 → T3 a = T1 a ∧ I3 a = I1 a ∧ L3 a = L1 a ∧ P3 a = P1 a := fun a ha => by
    obtain ⟨x1, x2, x3, x4⟩ := nw2.2 a ha
    obtain ⟨y1, y2, y3, y4⟩ := nw3.2 a (by omega)
    exact ⟨y1.trans x1, y2.trans x2, y3.trans x3, y4.trans x4⟩
  have k7 := nw3.2 7 (by omega)
  have fz' : ∀ a, 1 ≤ a → a ≤ 14 → fz 15 a := fun a h1 h2 => ⟨Or.inl ⟨h1, h2⟩, by omega⟩
  obtain ⟨s1, s2, s3, s4, s5, s6⟩ := hse
  have e45 : J 45 = fun _ => 0 := hJ 45 (by omega) (by omega)
  have e48 : J 48 = fun _ => 0 := hJ 48 (by omega) (by omega)
  have hw3 : cWld 15 T3 I3 L3 P3 6 2 2 4 0 nI (fun _ => 0) := hw.ex nw3.ex
  have hrow : cRow 15 T3 I3 P3 2 0 (fun _ => 0) := ⟨fz' 2 (by omega) (by omega), by rw [(k1 2 (by omega)).1]; exact s3, 3, fz' 3 (by omega) (by omega), by rw [(k1 2 (by omega)).2.2.2]; exact s4, by rw [(k1 3 (by omega)).1]; exact s5, by rw [(k1 2 (by omega)).2.1]; exact s6, by omega, fun i hi => absurd hi (by omega)⟩
  have hA42 : ∀ w, w < 4 → nI w = tkcp (J 42) nI 4 w := fun w hw => (tkcp_lt hw).symm
  have hA43 : ∀ p, p < 2 → ∀ w, w < 4 → (0 : Int32) = rC0 (J 43) 4 0 (64 * p + w) := fun p hp w hw => by unfold rC0; rw [if_pos ⟨by omega, Or.inl (by omega)⟩]; rfl
  have hA44 : ∀ i, i < 4 → rBeg J (nI 2) (nI 2) (nI 0) 4 44 i = nI 0 := fun i hi => show tkcp (J 44) (fun _ => nI 0) 4 i = nI 0 from tkcp_lt hi
  have hA46 : ∀ i, i < 4 → rBeg J (nI 2) (nI 2) (nI 0) 4 46 i = nI 0 := fun i hi => show tkcp (J 46) (fun _ => nI 0) 4 i = nI 0 from tkcp_lt hi
  have hG : GW 2 2 4 0 (tkcp (J 42) nI 4) (rC0 (J 43) 4 0) := GW_all (b := 2) (by omega) (by omega) (by decide)
  have hpc : cPic 15 T3 I3 L3 P3 8 2 2 4 0 0 (tkcp (J 42) nI 4) (rC0 (J 43) 4 0) (J 45) (J 49) (fun _ => 0) := ⟨fz' 8 (by omega) (by omega), po3.1, 6, 9, 7, po3.2.1, po3.2.2.1, po3.2.2.2, hw3.congr (by omega) hA42 hA43, fz' 9 (by omega) (by omega), z1, fun i hi => absurd hi (by omega), fz' 7 (by omega) (by omega), by rw [k7.1]; exact hg.1, fun i hi => by rw [k7.2.1, hg.2 i, e45]⟩
  refine ⟨2, 2, 4, 0, 0, fun _ => 0, 0, fun _ => 0, fun _ => 0, 0, fun _ => 0, fun _ => 0, fun _ => 0, fun _ _ => 0, ⟨⟨rfl, by omega, by omega, rfl, by omega, by omega, rfl, by omega, by omega, rfl, by omega, rfl, by omega, fun c hc => absurd hc (by omega), fun s hs => ⟨0, by omega, ?_, fun i hi => absurd hi (by omega)⟩⟩, ⟨rfl, by omega, fun c hc => absurd hc (by omega)⟩, ⟨rfl, by omega, fun c hc => absurd hc (by omega)⟩, hG, fun i hi => ⟨0, hA46 i hi, by omega⟩⟩, fz' 10 (by omega) (by omega), 8, 11, 12, 1, 13, 14, to3, hpc, ⟨fz' 11 (by omega) (by omega), z2, fun i hi => by rw [z3]; exact (hA44 i hi).symm⟩, ⟨fz' 12 (by omega) (by omega), z4, fun i hi => by rw [z5]; exact (hA46 i hi).symm⟩, ⟨fz' 1 (by omega) (by omega), by rw [(k1 1 (by omega)).1]; exact s1, fun s hs => ⟨2, 0, by rw [(k1 1 (by omega)).2.2.2]; exact s2 s hs, ?_, hrow.congr (fun i hi => absurd hi (by omega))⟩⟩, ⟨fz' 13 (by omega) (by omega), z6, fun k hk => absurd hk (by omega)⟩, ⟨fz' 14 (by omega) (by omega), z7, fun k hk => absurd hk (by omega)⟩⟩
  · show J 48 s = nI 0
    rw [e48]; rfl
  · show J 48 s = nI 0
    rw [e48]; rfl
theorem fi_loop {T0 : Nat → Nat × Nat} {I0 : Nat → Nat → Int32} {L0 : Nat → Nat → Int64} {P0 : Nat → Nat → Option Nat} (t1 : T 1 = (23, 6)) (t2 : (T 2).1 = 4) (t3 : T 3 = (20, 0)) (i2 : I 2 1 = nI 0) : ∀ (k i mc ms : Nat), i + k = 6 → 11 ≤ mc → 94 ≤ ms → ∀ P, (∀ j, j < i → P 1 j = some 2) → cNw 1 T0 I0 L0 P0 4 T I L P → P 2 0 = some 3 → tkX G mX8_first 3 mc ms 19 [some (vR 1), some (vR 2), some (vI (nI i))] [] (4, T, I, L, P) (FIQ T0 I0 L0 P0) := by
  intro k
  induction k with
  | zero =>
    intro i mc ms hi hmc hms P hs6 hnw p2
    obtain rfl : i = 6 := by omega
    refine tk_iload2 dX8_first_19 ?_
    refine tk_bipush dX8_first_20 kc_bipush_6 ?_
    first | refine tk_icmp_geN dX8_first_22 (by omega) (by omega) (fun h22 => ?_) (fun h22 => ?_) | refine tk_jcmp_ge dX8_first_22 (fun h22 => ?_) (fun h22 => ?_)
    · refine tk_iconst dX8_first_35 kc_iconst_2 ?_
      refine tk_iconst dX8_first_36 kc_iconst_2 ?_
      refine tk_iconst dX8_first_37 kc_iconst_0 ?_
      refine tk_callS3s dX8_first_38 kX8_39 (c_ofAllSets (n := 4) (np := 2) (nf := 2) (W := 4) (r := 0) ⟨⟨Or.inl (by omega), by omega⟩, ⟨Or.inl (by omega), by omega⟩, ⟨Or.inl (by omega), by omega⟩⟩ (by omega) (by omega) rfl) (Nat.le_of_ble_eq_true rfl) (by omega) (by omega) (by omega) ?_
      rintro rr h1 ⟨T2, I2, L2, P2, rfl, rfl, nw2, cw⟩
      dsimp only [Option.toList, List.singleton_append]
      refine tk_iconst dX8_first_41 kc_iconst_3 ?_
      refine tk_newaS (t := 20) dX8_first_42 rfl (by omega) (by omega) tk_ac20 (by first | exact Or.inl rfl | exact Or.inr (Or.inl rfl) | exact Or.inr (Or.inr rfl)) (by omega) (by omega) (by omega) ?_
      refine tk_aload0 dX8_first_44 ?_
      refine tk_callS3s dX8_first_45 kX8_45 (c_anew (n := 8)) (Nat.le_of_ble_eq_true rfl) (by omega) (by omega) (by omega) ?_
      rintro rr h1 hq
      have hq' := hq
      obtain ⟨T3, I3, L3, P3, rfl, rfl, nw3, -⟩ := hq'
      dsimp only [Option.toList, List.singleton_append]
      have nwg : cNw 7 T2 I2 L2 P2 8 (va_up T2 7 (20, 3)) (va_up I2 7 fun _ => 0) (va_up L2 7 fun _ => 0) (va_up P2 7 fun _ => none) := ⟨by omega, fun a ha => by have z : ¬ a = 7 := (by omega); simp only [tk_une z, and_self]⟩
      refine tk_areturn dX8_first_48 rfl (by first | exact Or.inl ⟨_, rfl⟩ | exact Or.inr ⟨_, rfl⟩) ?_
      refine ⟨T3, I3, L3, P3, rfl, rfl, (hnw.tr nw2).tr (nwg.tr nw3), fun J hJ => fi_town hJ ⟨t1, fun s hs => hs6 s (by omega), t2, p2, t3, i2⟩ (nw2.tr nwg) (cw.ex nwg.ex) ⟨va_up_self _ _ _, fun i => by rw [va_up_self]⟩ hq⟩
    · exfalso; omega
  | succ k ih =>
    intro i mc ms hi hmc hms P hs6 hnw p2
    refine tk_iload2 dX8_first_19 ?_
    refine tk_bipush dX8_first_20 kc_bipush_6 ?_
    first | refine tk_icmp_geN dX8_first_22 (by omega) (by omega) (fun h22 => ?_) (fun h22 => ?_) | refine tk_jcmp_ge dX8_first_22 (fun h22 => ?_) (fun h22 => ?_)
    · exfalso; omega
    · refine tk_aload0 dX8_first_25 ?_
      refine tk_iload2 dX8_first_26 ?_
      refine tk_aload1 dX8_first_27 ?_
      refine tk_aast dX8_first_28 (by first | assumption | exact va_up_self _ _ _ | exact (va_up_ne _ _ (by omega)).trans (by assumption) | exact congrArg Prod.fst (va_up_self _ _ _) | exact (congrArg Prod.fst (va_up_ne _ _ (by omega))).trans (by assumption) | exact (congrFun (va_up_ne _ _ (by omega)) _).trans (by assumption) | exact (va_up_ne _ _ (by omega)).trans (va_up_self _ _ _) | exact (va_up_ne _ _ (by omega)).trans ((va_up_ne _ _ (by omega)).trans (by assumption)) | exact (congrArg Prod.fst ((va_up_ne _ _ (by omega)).trans (va_up_ne _ _ (by omega)))).trans (by assumption) | exact (congrFun ((va_up_ne _ _ (by omega)).trans (va_up_ne _ _ (by omega))) _).trans (by assumption) | (rw [va_up_self, va_up_ne _ _ (by omega)]; assumption)) (by omega) (by omega) (by omega) (by first | assumption | exact va_up_self _ _ _ | exact (va_up_ne _ _ (by omega)).trans (by assumption) | exact congrArg Prod.fst (va_up_self _ _ _) | exact (congrArg Prod.fst (va_up_ne _ _ (by omega))).trans (by assumption) | exact (congrFun (va_up_ne _ _ (by omega)) _).trans (by assumption) | exact (va_up_ne _ _ (by omega)).trans (va_up_self _ _ _) | exact (va_up_ne _ _ (by omega)).trans ((va_up_ne _ _ (by omega)).trans (by assumption)) | exact (congrArg Prod.fst ((va_up_ne _ _ (by omega)).trans (va_up_ne _ _ (by omega)))).trans (by assumption) | exact (congrFun ((va_up_ne _ _ (by omega)).trans (va_up_ne _ _ (by omega))) _).trans (by assumption) | (rw [va_up_self, va_up_ne _ _ (by omega)]; assumption)) ?_
      first | refine tk_iinc2 dX8_first_29 (kc_inc _) rfl ?_ | refine tk_iinc2 dX8_first_29 rfl rfl ?_
      refine tk_goto dX8_first_32 ?_
      refine ih (i + 1) mc ms (by omega) hmc hms _ (fun j hj => ?_) ?_ ?_
      · rw [va_up_self]
        by_cases e : j = i
        · rw [e, va_up_self]
        · rw [va_up_ne _ _ e]; exact hs6 j (by omega)
      · refine ⟨hnw.1, fun a ha => ?_⟩
        obtain ⟨x1, x2, x3, x4⟩ := hnw.2 a ha
        exact ⟨x1, x2, x3, by rw [va_up_ne _ _ (by omega)]; exact x4⟩
      · rw [va_up_ne _ _ (by omega)]; exact p2
theorem c_first : tkM G mX8_first 3 14 102 [] (1, T, I, L, P) (FIQ T I L P) := by
  refine tkM.of (ls := [none, none, none]) (by decide +kernel) (by decide +kernel) (Nat.le_of_ble_eq_true rfl) rfl ?_
  refine tk_bipush dX8_first_0 kc_bipush_6 ?_
  refine tk_anewS (t := 23) dX8_first_2 (by omega) (by omega) rfl caX8_34 tk_ao23 (by omega) (by omega) (by omega) ?_
  refine tk_astore0 dX8_first_5 ?_
  refine tk_newS dX8_first_6 nX8_34 (by omega) (by omega) ?_
  refine tk_dup dX8_first_9 rfl ?_
  refine tk_iconst dX8_first_10 kc_iconst_0 ?_
  refine tk_newaS (t := 20) dX8_first_11 rfl (by omega) (by omega) tk_ac20 (by first | exact Or.inl rfl | exact Or.inr (Or.inl rfl) | exact Or.inr (Or.inr rfl)) (by omega) (by omega) (by omega) ?_
  refine tk_callI1y dX8_first_13 kX8_36 (c_rowInit (l := 0) (by rw [va_up_ne _ _ (by omega), va_up_self]) (by rw [va_up_self])) (Nat.le_of_ble_eq_true rfl) (by omega) ?_
  refine tk_astore1 dX8_first_16 rfl ?_
  refine tk_iconst dX8_first_17 kc_iconst_0 ?_
  refine tk_istore2 dX8_first_18 rfl ?_
  refine tk_wk (by repeat' (first | exact trivial | refine ⟨Or.inl rfl, ?_⟩ | refine ⟨Or.inr rfl, ?_⟩)) (fi_loop ?_ ?_ ?_ ?_ 6 0 _ _ (by omega) (by omega) (by omega) _ (fun j hj => absurd hj (by omega)) ⟨by omega, fun a ha => ?_⟩ ?_)
  · simp only [va_up_self, bx_uu, tk_une, tk_usrt, not_false_eq_true, Nat.reduceEqDiff, Nat.reduceLT, Nat.reduceAdd, Nat.reduceMul, Nat.reduceLeDiff, reduceCtorEq]
  · simp only [va_up_self, bx_uu, tk_une, tk_usrt, not_false_eq_true, Nat.reduceEqDiff, Nat.reduceLT, Nat.reduceAdd, Nat.reduceMul, Nat.reduceLeDiff, reduceCtorEq]
  · simp only [va_up_self, bx_uu, tk_une, tk_usrt, not_false_eq_true, Nat.reduceEqDiff, Nat.reduceLT, Nat.reduceAdd, Nat.reduceMul, Nat.reduceLeDiff, reduceCtorEq]
  · simp only [va_up_self, bx_uu, tk_une, tk_usrt, not_false_eq_true, Nat.reduceEqDiff, Nat.reduceLT, Nat.reduceAdd, Nat.reduceMul, Nat.reduceLeDiff, reduceCtorEq]
  · obtain rfl : a = 0 := (by omega)
    simp only [va_up_self, bx_uu, tk_une, tk_usrt, not_false_eq_true, Nat.reduceEqDiff, Nat.reduceLT, Nat.reduceAdd, Nat.reduceMul, Nat.reduceLeDiff, reduceCtorEq, and_self]
  · simp only [va_up_self, bx_uu, tk_une, tk_usrt, not_false_eq_true, Nat.reduceEqDiff, Nat.reduceLT, Nat.reduceAdd, Nat.reduceMul, Nat.reduceLeDiff, reduceCtorEq]
end FIRST
