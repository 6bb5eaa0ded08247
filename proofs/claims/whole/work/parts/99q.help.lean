/-! ===== the class: who is there, what is right ===== -/
section HELP
variable {G : tkG} {n : Nat} {T : Nat → Nat × Nat} {I J : Nat → Nat → Int32} {L : Nat → Nat → Int64} {P : Nat → Nat → Option Nat} {tw np nf W r cn : Nat} {cl : Nat → Nat} {pn : Nat} {pl pg : Nat → Nat} {mn : Nat} {mW mr mc : Nat → Nat} {ml : Nat → Nat → Nat}
theorem k_isPerson (hN : cNow n T I L P J tw np nf W r cn cl pn pl pg mn mW mr mc ml) (x : Int32) : tkM G mX10_isPerson 1 0 0 [vR 0, vI x] (n, T, I, L, P) (tkF (some (vI (tkb (rPer (J 41 0) x)))) (n, T, I, L, P)) := by
  obtain ⟨hR, hk, ⟨hTH, hPH, hMH, hGW, hob⟩, ftw, pic, sta, oa, se, pa, ma, ht, hpc, hst, hoa, hse, hpa, hma⟩ := hN
  obtain ⟨wa, ca, ga, hp, hw⟩ := cTc.pic (A := J) hpc
  have := c_isPerson (G := G) hk ht hp hw x
  rw [rIn_per hTH.2.1 (by have := hTH.2.2.1; omega), ← hTH.1] at this
  exact this
theorem k_isFact (hN : cNow n T I L P J tw np nf W r cn cl pn pl pg mn mW mr mc ml) (x : Int32) : tkM G mX10_isFact 1 0 0 [vR 0, vI x] (n, T, I, L, P) (tkF (some (vI (tkb (rPer (J 41 1) x)))) (n, T, I, L, P)) := by
  obtain ⟨hR, hk, ⟨hTH, hPH, hMH, hGW, hob⟩, ftw, pic, sta, oa, se, pa, ma, ht, hpc, hst, hoa, hse, hpa, hma⟩ := hN
  obtain ⟨wa, ca, ga, hp, hw⟩ := cTc.pic (A := J) hpc
  obtain ⟨t1, t2, t3, t4, t5, t6, -⟩ := hTH
  have := c_isFact (G := G) hk ht hp hw x
  rw [rIn_per t5 (by omega), ← t4] at this
  exact this
theorem rW_m1 {row : Nat → Int32} {a b : Int32} : ∀ (k i : Nat) (sd : Int32), i + k ≤ 14 → (rW row a b k i sd = -1 ∨ ∃ j, j ≤ 14 ∧ rW row a b k i sd = nI j) := by
  intro k
  induction k with
  | zero =>
    intro i sd hi
    unfold rW
    split
    · exact Or.inl rfl
    · exact Or.inr ⟨i, by omega, rfl⟩
  | succ k ih =>
    intro i sd hi
    unfold rW
    split
    · exact ih _ _ (by omega)
    · exact Or.inr ⟨i, by omega, rfl⟩
theorem rW_lt {row : Nat → Int32} {a b : Int32} {l : Nat} (hl : l ≤ 14) : rW row a b l 0 (nI 0) < 0 ↔ rW row a b l 0 (nI 0) = -1 := by
  rcases rW_m1 (row := row) (a := a) (b := b) l 0 (nI 0) (by omega) with h | ⟨j, hj, h⟩
  · rw [h]; decide
  · rw [h]
    have z : ∀ j, j < 15 → ((nI j < 0) ↔ nI j = -1) := by decide +kernel
    exact z j (by omega)
/-- a sentence's row, of now -/
theorem sen_row {a : Nat} {x y : Nat → Int32} (h : cSen n T I P a x y) {s : Nat} (hs : s < 6) : ∃ ra l, P a s = some ra ∧ (T ra).1 = 4 ∧ fz n ra ∧ y s = nI l ∧ l ≤ 14 ∧ ix (y s) = l ∧ I ra 1 = nI l ∧ cRow n T I P ra l (fun i => x (14 * s + i)) := by
  obtain ⟨ra, l, q1, q2, q3⟩ := h.2.2 s hs
  have q3' := q3
  obtain ⟨r1, r2, b, r3, r4, r5, r6, r7, r8⟩ := q3'
  exact ⟨ra, l, q1, r2, r1, q2, r7, by rw [q2]; exact ix_nI (by omega), r6, q3⟩
theorem k_isRight (hN : cNow n T I L P J tw np nf W r cn cl pn pl pg mn mW mr mc ml) {s : Nat} (hs : s < 6) : tkM G mX10_isRight 3 0 0 [vR 0, vI (nI s)] (n, T, I, L, P) (tkF (some (vI (tkb (rRt J (nI s))))) (n, T, I, L, P)) := by
  obtain ⟨hR, hk, ⟨hTH, hPH, hMH, hGW, hob⟩, ftw, pic, sta, oa, se, pa, ma, ht, hpc, hst, hoa, hse, hpa, hma⟩ := hN
  have hk' := hk
  obtain ⟨k0, k1, k2, k3, k4, k5, k6⟩ := hk'
  have ht' := ht
  obtain ⟨u0, u1, u2, u3, u4, u5, u6⟩ := ht'
  obtain ⟨wa, ca, ga, hp, hw⟩ := cTc.pic (A := J) hpc
  have hw' := hw
  obtain ⟨w1, w2, w3, w4, -⟩ := hw'
  obtain ⟨ra, l, q1, q2, q3, q4, q5, q6, q7, q8⟩ := sen_row hse hs
  have se6 := hse.2.1
  obtain ⟨t1, t2, t3, t4, t5, t6, -⟩ := hTH
  have hix : ix (nI s) = s := ix_nI (by omega)
  have hv : rRt J (nI s) = decide (rW (fun i => J 47 (14 * s + i)) (nI np) (nI nf) l 0 (nI 0) = -1) := by
    unfold rRt
    rw [hix, q6, t1, t4]
    congr 1
    exact propext (rW_lt q5)
  rw [hv]
  refine tkM.of (ls := [some _, some _]) (by decide +kernel) (by decide +kernel) (Nat.le_of_ble_eq_true rfl) rfl ?_
  refine tk_aload0 dX10_isRight_0 ?_
  refine tk_getP dX10_isRight_1 fX10_13 rfl (by first | assumption | exact va_up_self _ _ _ | exact (va_up_ne _ _ (by omega)).trans (by assumption) | exact congrArg Prod.fst (va_up_self _ _ _) | exact (congrArg Prod.fst (va_up_ne _ _ (by omega))).trans (by assumption) | exact (congrFun (va_up_ne _ _ (by omega)) _).trans (by assumption) | exact (va_up_ne _ _ (by omega)).trans (va_up_self _ _ _) | exact (va_up_ne _ _ (by omega)).trans ((va_up_ne _ _ (by omega)).trans (by assumption)) | exact (congrArg Prod.fst ((va_up_ne _ _ (by omega)).trans (va_up_ne _ _ (by omega)))).trans (by assumption) | exact (congrFun ((va_up_ne _ _ (by omega)).trans (va_up_ne _ _ (by omega))) _).trans (by assumption) | (rw [va_up_self, va_up_ne _ _ (by omega)]; assumption)) (by first | assumption | exact va_up_self _ _ _ | exact (va_up_ne _ _ (by omega)).trans (by assumption) | exact congrArg Prod.fst (va_up_self _ _ _) | exact (congrArg Prod.fst (va_up_ne _ _ (by omega))).trans (by assumption) | exact (congrFun (va_up_ne _ _ (by omega)) _).trans (by assumption) | exact (va_up_ne _ _ (by omega)).trans (va_up_self _ _ _) | exact (va_up_ne _ _ (by omega)).trans ((va_up_ne _ _ (by omega)).trans (by assumption)) | exact (congrArg Prod.fst ((va_up_ne _ _ (by omega)).trans (va_up_ne _ _ (by omega)))).trans (by assumption) | exact (congrFun ((va_up_ne _ _ (by omega)).trans (va_up_ne _ _ (by omega))) _).trans (by assumption) | (rw [va_up_self, va_up_ne _ _ (by omega)]; assumption)) ?_
  refine tk_getP dX10_isRight_4 fX10_131 rfl (by first | assumption | exact va_up_self _ _ _ | exact (va_up_ne _ _ (by omega)).trans (by assumption) | exact congrArg Prod.fst (va_up_self _ _ _) | exact (congrArg Prod.fst (va_up_ne _ _ (by omega))).trans (by assumption) | exact (congrFun (va_up_ne _ _ (by omega)) _).trans (by assumption) | exact (va_up_ne _ _ (by omega)).trans (va_up_self _ _ _) | exact (va_up_ne _ _ (by omega)).trans ((va_up_ne _ _ (by omega)).trans (by assumption)) | exact (congrArg Prod.fst ((va_up_ne _ _ (by omega)).trans (va_up_ne _ _ (by omega)))).trans (by assumption) | exact (congrFun ((va_up_ne _ _ (by omega)).trans (va_up_ne _ _ (by omega))) _).trans (by assumption) | (rw [va_up_self, va_up_ne _ _ (by omega)]; assumption)) (by first | assumption | exact va_up_self _ _ _ | exact (va_up_ne _ _ (by omega)).trans (by assumption) | exact congrArg Prod.fst (va_up_self _ _ _) | exact (congrArg Prod.fst (va_up_ne _ _ (by omega))).trans (by assumption) | exact (congrFun (va_up_ne _ _ (by omega)) _).trans (by assumption) | exact (va_up_ne _ _ (by omega)).trans (va_up_self _ _ _) | exact (va_up_ne _ _ (by omega)).trans ((va_up_ne _ _ (by omega)).trans (by assumption)) | exact (congrArg Prod.fst ((va_up_ne _ _ (by omega)).trans (va_up_ne _ _ (by omega)))).trans (by assumption) | exact (congrFun ((va_up_ne _ _ (by omega)).trans (va_up_ne _ _ (by omega))) _).trans (by assumption) | (rw [va_up_self, va_up_ne _ _ (by omega)]; assumption)) ?_
  refine tk_iload1 dX10_isRight_7 ?_
  refine tk_aald dX10_isRight_8 (by first | assumption | exact va_up_self _ _ _ | exact (va_up_ne _ _ (by omega)).trans (by assumption) | exact congrArg Prod.fst (va_up_self _ _ _) | exact (congrArg Prod.fst (va_up_ne _ _ (by omega))).trans (by assumption) | exact (congrFun (va_up_ne _ _ (by omega)) _).trans (by assumption) | exact (va_up_ne _ _ (by omega)).trans (va_up_self _ _ _) | exact (va_up_ne _ _ (by omega)).trans ((va_up_ne _ _ (by omega)).trans (by assumption)) | exact (congrArg Prod.fst ((va_up_ne _ _ (by omega)).trans (va_up_ne _ _ (by omega)))).trans (by assumption) | exact (congrFun ((va_up_ne _ _ (by omega)).trans (va_up_ne _ _ (by omega))) _).trans (by assumption) | (rw [va_up_self, va_up_ne _ _ (by omega)]; assumption)) (by omega) (by omega) (by omega) (by first | assumption | exact va_up_self _ _ _ | exact (va_up_ne _ _ (by omega)).trans (by assumption) | exact congrArg Prod.fst (va_up_self _ _ _) | exact (congrArg Prod.fst (va_up_ne _ _ (by omega))).trans (by assumption) | exact (congrFun (va_up_ne _ _ (by omega)) _).trans (by assumption) | exact (va_up_ne _ _ (by omega)).trans (va_up_self _ _ _) | exact (va_up_ne _ _ (by omega)).trans ((va_up_ne _ _ (by omega)).trans (by assumption)) | exact (congrArg Prod.fst ((va_up_ne _ _ (by omega)).trans (va_up_ne _ _ (by omega)))).trans (by assumption) | exact (congrFun ((va_up_ne _ _ (by omega)).trans (va_up_ne _ _ (by omega))) _).trans (by assumption) | (rw [va_up_self, va_up_ne _ _ (by omega)]; assumption)) ?_
  refine tk_aload0 dX10_isRight_9 ?_
  refine tk_callV0z dX10_isRight_10 kX10_84 (by first | assumption | exact va_up_self _ _ _ | exact (va_up_ne _ _ (by omega)).trans (by assumption) | exact congrArg Prod.fst (va_up_self _ _ _) | exact (congrArg Prod.fst (va_up_ne _ _ (by omega))).trans (by assumption) | exact (congrFun (va_up_ne _ _ (by omega)) _).trans (by assumption) | exact (va_up_ne _ _ (by omega)).trans (va_up_self _ _ _) | exact (va_up_ne _ _ (by omega)).trans ((va_up_ne _ _ (by omega)).trans (by assumption)) | exact (congrArg Prod.fst ((va_up_ne _ _ (by omega)).trans (va_up_ne _ _ (by omega)))).trans (by assumption) | exact (congrFun ((va_up_ne _ _ (by omega)).trans (va_up_ne _ _ (by omega))) _).trans (by assumption) | (rw [va_up_self, va_up_ne _ _ (by omega)]; assumption)) (c_worlds hk ht hp) (Nat.le_of_ble_eq_true rfl) (by omega) ?_
  refine tk_getI dX10_isRight_13 fX10_176 rfl (by first | assumption | exact va_up_self _ _ _ | exact (va_up_ne _ _ (by omega)).trans (by assumption) | exact congrArg Prod.fst (va_up_self _ _ _) | exact (congrArg Prod.fst (va_up_ne _ _ (by omega))).trans (by assumption) | exact (congrFun (va_up_ne _ _ (by omega)) _).trans (by assumption) | exact (va_up_ne _ _ (by omega)).trans (va_up_self _ _ _) | exact (va_up_ne _ _ (by omega)).trans ((va_up_ne _ _ (by omega)).trans (by assumption)) | exact (congrArg Prod.fst ((va_up_ne _ _ (by omega)).trans (va_up_ne _ _ (by omega)))).trans (by assumption) | exact (congrFun ((va_up_ne _ _ (by omega)).trans (va_up_ne _ _ (by omega))) _).trans (by assumption) | (rw [va_up_self, va_up_ne _ _ (by omega)]; assumption)) ?_
  rw [w3]
  refine tk_aload0 dX10_isRight_16 ?_
  refine tk_callV0z dX10_isRight_17 kX10_84 (by first | assumption | exact va_up_self _ _ _ | exact (va_up_ne _ _ (by omega)).trans (by assumption) | exact congrArg Prod.fst (va_up_self _ _ _) | exact (congrArg Prod.fst (va_up_ne _ _ (by omega))).trans (by assumption) | exact (congrFun (va_up_ne _ _ (by omega)) _).trans (by assumption) | exact (va_up_ne _ _ (by omega)).trans (va_up_self _ _ _) | exact (va_up_ne _ _ (by omega)).trans ((va_up_ne _ _ (by omega)).trans (by assumption)) | exact (congrArg Prod.fst ((va_up_ne _ _ (by omega)).trans (va_up_ne _ _ (by omega)))).trans (by assumption) | exact (congrFun ((va_up_ne _ _ (by omega)).trans (va_up_ne _ _ (by omega))) _).trans (by assumption) | (rw [va_up_self, va_up_ne _ _ (by omega)]; assumption)) (c_worlds hk ht hp) (Nat.le_of_ble_eq_true rfl) (by omega) ?_
  refine tk_getI dX10_isRight_20 fX10_179 rfl (by first | assumption | exact va_up_self _ _ _ | exact (va_up_ne _ _ (by omega)).trans (by assumption) | exact congrArg Prod.fst (va_up_self _ _ _) | exact (congrArg Prod.fst (va_up_ne _ _ (by omega))).trans (by assumption) | exact (congrFun (va_up_ne _ _ (by omega)) _).trans (by assumption) | exact (va_up_ne _ _ (by omega)).trans (va_up_self _ _ _) | exact (va_up_ne _ _ (by omega)).trans ((va_up_ne _ _ (by omega)).trans (by assumption)) | exact (congrArg Prod.fst ((va_up_ne _ _ (by omega)).trans (va_up_ne _ _ (by omega)))).trans (by assumption) | exact (congrFun ((va_up_ne _ _ (by omega)).trans (va_up_ne _ _ (by omega))) _).trans (by assumption) | (rw [va_up_self, va_up_ne _ _ (by omega)]; assumption)) ?_
  rw [w4]
  refine tk_callV2z dX10_isRight_23 kX10_182 (by first | assumption | exact va_up_self _ _ _ | exact (va_up_ne _ _ (by omega)).trans (by assumption) | exact congrArg Prod.fst (va_up_self _ _ _) | exact (congrArg Prod.fst (va_up_ne _ _ (by omega))).trans (by assumption) | exact (congrFun (va_up_ne _ _ (by omega)) _).trans (by assumption) | exact (va_up_ne _ _ (by omega)).trans (va_up_self _ _ _) | exact (va_up_ne _ _ (by omega)).trans ((va_up_ne _ _ (by omega)).trans (by assumption)) | exact (congrArg Prod.fst ((va_up_ne _ _ (by omega)).trans (va_up_ne _ _ (by omega)))).trans (by assumption) | exact (congrFun ((va_up_ne _ _ (by omega)).trans (va_up_ne _ _ (by omega))) _).trans (by assumption) | (rw [va_up_self, va_up_ne _ _ (by omega)]; assumption)) (c_fault q8 t3 t6) (Nat.le_of_ble_eq_true rfl) (by omega) ?_
  refine tk_iconst dX10_isRight_26 kc_iconst_m1 ?_
  first | refine tk_icmp_neN dX10_isRight_27 (by omega) (by omega) (fun h27 => ?_) (fun h27 => ?_) | refine tk_icmp_ne dX10_isRight_27 (fun h27 => ?_) (fun h27 => ?_)
  · refine tk_iconst dX10_isRight_34 kc_iconst_0 ?_
    first | refine tk_zreturn dX10_isRight_35 rfl ?_ | refine tk_zret0 dX10_isRight_35 rfl ?_ | refine tk_zret1 dX10_isRight_35 rfl ?_
    exact tkz (by first | exact (decide_eq_false h27).symm | exact (decide_eq_true h27).symm)
  · refine tk_iconst dX10_isRight_30 kc_iconst_1 ?_
    refine tk_goto dX10_isRight_31 ?_
    first | refine tk_zreturn dX10_isRight_35 rfl ?_ | refine tk_zret0 dX10_isRight_35 rfl ?_ | refine tk_zret1 dX10_isRight_35 rfl ?_
    exact tkz (by first | exact (decide_eq_false h27).symm | exact (decide_eq_true h27).symm)
theorem k_asking (hN : cNow n T I L P J tw np nf W r cn cl pn pl pg mn mW mr mc ml) (s : Int32) : tkM G mX10_asking 4 0 0 [vR 0, vI s] (n, T, I, L, P) (tkF (some (vI (rAsk J s))) (n, T, I, L, P)) := by
  have k0 : (T 0).1 = 10 := hN.2.1.1
  refine tkM.of (ls := [some _, some _]) (by decide +kernel) (by decide +kernel) (Nat.le_of_ble_eq_true rfl) rfl ?_
  refine tk_iload1 dX10_asking_0 ?_
  refine tk_callS1z dX10_asking_1 kX10_123 (c_isSentence s) (Nat.le_of_ble_eq_true rfl) (by omega) ?_
  first | refine tk_jf_neB dX10_asking_4 (fun h4 => ?_) (fun h4 => ?_) | refine tk_if_ne dX10_asking_4 (fun h4 => ?_) (fun h4 => ?_)
  · refine tk_aload0 dX10_asking_10 ?_
    refine tk_iload1 dX10_asking_11 ?_
    obtain ⟨s', hs, rfl⟩ := rIn_of h4 (by omega)
    refine tk_callV1z dX10_asking_12 kX10_276 (by first | assumption | exact va_up_self _ _ _ | exact (va_up_ne _ _ (by omega)).trans (by assumption) | exact congrArg Prod.fst (va_up_self _ _ _) | exact (congrArg Prod.fst (va_up_ne _ _ (by omega))).trans (by assumption) | exact (congrFun (va_up_ne _ _ (by omega)) _).trans (by assumption) | exact (va_up_ne _ _ (by omega)).trans (va_up_self _ _ _) | exact (va_up_ne _ _ (by omega)).trans ((va_up_ne _ _ (by omega)).trans (by assumption)) | exact (congrArg Prod.fst ((va_up_ne _ _ (by omega)).trans (va_up_ne _ _ (by omega)))).trans (by assumption) | exact (congrFun ((va_up_ne _ _ (by omega)).trans (va_up_ne _ _ (by omega))) _).trans (by assumption) | (rw [va_up_self, va_up_ne _ _ (by omega)]; assumption)) (k_isRight hN (show s' < 6 by omega)) (Nat.le_of_ble_eq_true rfl) (by omega) ?_
    first | refine tk_jf_eqB dX10_asking_15 (fun h15 => ?_) (fun h15 => ?_) | refine tk_if_eq dX10_asking_15 (fun h15 => ?_) (fun h15 => ?_)
    · refine tk_ldc dX10_asking_22 klX10_175 ?_
      refine tk_ireturn dX10_asking_24 rfl ?_
      refine ⟨?_, rfl⟩
      unfold rAsk
      simp [*]
    · refine tk_iconst dX10_asking_18 kc_iconst_0 ?_
      refine tk_goto dX10_asking_19 ?_
      refine tk_ireturn dX10_asking_24 rfl ?_
      refine ⟨?_, rfl⟩
      unfold rAsk
      simp [*]
  · refine tk_ldc dX10_asking_7 klX10_65 ?_
    refine tk_ireturn dX10_asking_9 rfl ?_
    refine ⟨?_, rfl⟩
    unfold rAsk
    simp [*]
def kSy (J : Nat → Nat → Int32) (p s : Int32) : Int32 := if rPer (J 41 0) p = true then rAsk J s else (-100001)
theorem k_saying (hN : cNow n T I L P J tw np nf W r cn cl pn pl pg mn mW mr mc ml) (p s : Int32) : tkM G mX10_saying 5 0 0 [vR 0, vI p, vI s] (n, T, I, L, P) (tkF (some (vI (kSy J p s))) (n, T, I, L, P)) := by
  have k0 : (T 0).1 = 10 := hN.2.1.1
  refine tkM.of (ls := [some _, some _, some _]) (by decide +kernel) (by decide +kernel) (Nat.le_of_ble_eq_true rfl) rfl ?_
  refine tk_aload0 dX10_saying_0 ?_
  refine tk_iload1 dX10_saying_1 ?_
  refine tk_callV1z dX10_saying_2 kX10_91 (by first | assumption | exact va_up_self _ _ _ | exact (va_up_ne _ _ (by omega)).trans (by assumption) | exact congrArg Prod.fst (va_up_self _ _ _) | exact (congrArg Prod.fst (va_up_ne _ _ (by omega))).trans (by assumption) | exact (congrFun (va_up_ne _ _ (by omega)) _).trans (by assumption) | exact (va_up_ne _ _ (by omega)).trans (va_up_self _ _ _) | exact (va_up_ne _ _ (by omega)).trans ((va_up_ne _ _ (by omega)).trans (by assumption)) | exact (congrArg Prod.fst ((va_up_ne _ _ (by omega)).trans (va_up_ne _ _ (by omega)))).trans (by assumption) | exact (congrFun ((va_up_ne _ _ (by omega)).trans (va_up_ne _ _ (by omega))) _).trans (by assumption) | (rw [va_up_self, va_up_ne _ _ (by omega)]; assumption)) (k_isPerson hN p) (Nat.le_of_ble_eq_true rfl) (by omega) ?_
  first | refine tk_jf_eqB dX10_saying_5 (fun h5 => ?_) (fun h5 => ?_) | refine tk_if_eq dX10_saying_5 (fun h5 => ?_) (fun h5 => ?_)
  · refine tk_ldc dX10_saying_16 klX10_65 ?_
    refine tk_ireturn dX10_saying_18 rfl ?_
    refine ⟨?_, rfl⟩
    unfold kSy
    simp [*]
  · refine tk_aload0 dX10_saying_8 ?_
    refine tk_iload2 dX10_saying_9 ?_
    refine tk_callV1z dX10_saying_10 kX10_306 (by first | assumption | exact va_up_self _ _ _ | exact (va_up_ne _ _ (by omega)).trans (by assumption) | exact congrArg Prod.fst (va_up_self _ _ _) | exact (congrArg Prod.fst (va_up_ne _ _ (by omega))).trans (by assumption) | exact (congrFun (va_up_ne _ _ (by omega)) _).trans (by assumption) | exact (va_up_ne _ _ (by omega)).trans (va_up_self _ _ _) | exact (va_up_ne _ _ (by omega)).trans ((va_up_ne _ _ (by omega)).trans (by assumption)) | exact (congrArg Prod.fst ((va_up_ne _ _ (by omega)).trans (va_up_ne _ _ (by omega)))).trans (by assumption) | exact (congrFun ((va_up_ne _ _ (by omega)).trans (va_up_ne _ _ (by omega))) _).trans (by assumption) | (rw [va_up_self, va_up_ne _ _ (by omega)]; assumption)) (k_asking hN s) (Nat.le_of_ble_eq_true rfl) (by omega) ?_
    refine tk_goto dX10_saying_13 ?_
    refine tk_ireturn dX10_saying_18 rfl ?_
    refine ⟨?_, rfl⟩
    unfold kSy
    simp [*]
def kMt (J : Nat → Nat → Int32) (a b s : Int32) : Int32 := if (rPer (J 41 0) a && (rPer (J 41 0) b && rIn s (nI 0) (nI 5))) = true then (if a = b then (-100003) else if rRt J s = true then nI 0 else (-100004)) else (-100001)
theorem k_meeting (hN : cNow n T I L P J tw np nf W r cn cl pn pl pg mn mW mr mc ml) (a b s : Int32) : tkM G mX10_meeting 4 0 0 [vR 0, vI a, vI b, vI s] (n, T, I, L, P) (tkF (some (vI (kMt J a b s))) (n, T, I, L, P)) := by
  have k0 : (T 0).1 = 10 := hN.2.1.1
  refine tkM.of (ls := [some _, some _, some _, some _]) (by decide +kernel) (by decide +kernel) (Nat.le_of_ble_eq_true rfl) rfl ?_
  refine tk_aload0 dX10_meeting_0 ?_
  refine tk_iload1 dX10_meeting_1 ?_
  refine tk_callV1z dX10_meeting_2 kX10_91 (by first | assumption | exact va_up_self _ _ _ | exact (va_up_ne _ _ (by omega)).trans (by assumption) | exact congrArg Prod.fst (va_up_self _ _ _) | exact (congrArg Prod.fst (va_up_ne _ _ (by omega))).trans (by assumption) | exact (congrFun (va_up_ne _ _ (by omega)) _).trans (by assumption) | exact (va_up_ne _ _ (by omega)).trans (va_up_self _ _ _) | exact (va_up_ne _ _ (by omega)).trans ((va_up_ne _ _ (by omega)).trans (by assumption)) | exact (congrArg Prod.fst ((va_up_ne _ _ (by omega)).trans (va_up_ne _ _ (by omega)))).trans (by assumption) | exact (congrFun ((va_up_ne _ _ (by omega)).trans (va_up_ne _ _ (by omega))) _).trans (by assumption) | (rw [va_up_self, va_up_ne _ _ (by omega)]; assumption)) (k_isPerson hN a) (Nat.le_of_ble_eq_true rfl) (by omega) ?_
  first | refine tk_jf_eqB dX10_meeting_5 (fun h5 => ?_) (fun h5 => ?_) | refine tk_if_eq dX10_meeting_5 (fun h5 => ?_) (fun h5 => ?_)
  · refine tk_ldc dX10_meeting_23 klX10_65 ?_
    refine tk_ireturn dX10_meeting_25 rfl ?_
    refine ⟨?_, rfl⟩
    unfold kMt
    simp [*]
  · refine tk_aload0 dX10_meeting_8 ?_
    refine tk_iload2 dX10_meeting_9 ?_
    refine tk_callV1z dX10_meeting_10 kX10_91 (by first | assumption | exact va_up_self _ _ _ | exact (va_up_ne _ _ (by omega)).trans (by assumption) | exact congrArg Prod.fst (va_up_self _ _ _) | exact (congrArg Prod.fst (va_up_ne _ _ (by omega))).trans (by assumption) | exact (congrFun (va_up_ne _ _ (by omega)) _).trans (by assumption) | exact (va_up_ne _ _ (by omega)).trans (va_up_self _ _ _) | exact (va_up_ne _ _ (by omega)).trans ((va_up_ne _ _ (by omega)).trans (by assumption)) | exact (congrArg Prod.fst ((va_up_ne _ _ (by omega)).trans (va_up_ne _ _ (by omega)))).trans (by assumption) | exact (congrFun ((va_up_ne _ _ (by omega)).trans (va_up_ne _ _ (by omega))) _).trans (by assumption) | (rw [va_up_self, va_up_ne _ _ (by omega)]; assumption)) (k_isPerson hN b) (Nat.le_of_ble_eq_true rfl) (by omega) ?_
    first | refine tk_jf_eqB dX10_meeting_13 (fun h13 => ?_) (fun h13 => ?_) | refine tk_if_eq dX10_meeting_13 (fun h13 => ?_) (fun h13 => ?_)
    · refine tk_ldc dX10_meeting_23 klX10_65 ?_
      refine tk_ireturn dX10_meeting_25 rfl ?_
      refine ⟨?_, rfl⟩
      unfold kMt
      simp [*]
    · refine tk_iload3 dX10_meeting_16 ?_
      refine tk_callS1z dX10_meeting_17 kX10_123 (c_isSentence s) (Nat.le_of_ble_eq_true rfl) (by omega) ?_
      first | refine tk_jf_neB dX10_meeting_20 (fun h20 => ?_) (fun h20 => ?_) | refine tk_if_ne dX10_meeting_20 (fun h20 => ?_) (fun h20 => ?_)
      · refine tk_iload1 dX10_meeting_26 ?_
        refine tk_iload2 dX10_meeting_27 ?_
        first | refine tk_icmp_neN dX10_meeting_28 (by omega) (by omega) (fun h28 => ?_) (fun h28 => ?_) | refine tk_icmp_ne dX10_meeting_28 (fun h28 => ?_) (fun h28 => ?_)
        · refine tk_aload0 dX10_meeting_35 ?_
          refine tk_iload3 dX10_meeting_36 ?_
          obtain ⟨s', hs, rfl⟩ := rIn_of h20 (by omega)
          refine tk_callV1z dX10_meeting_37 kX10_276 (by first | assumption | exact va_up_self _ _ _ | exact (va_up_ne _ _ (by omega)).trans (by assumption) | exact congrArg Prod.fst (va_up_self _ _ _) | exact (congrArg Prod.fst (va_up_ne _ _ (by omega))).trans (by assumption) | exact (congrFun (va_up_ne _ _ (by omega)) _).trans (by assumption) | exact (va_up_ne _ _ (by omega)).trans (va_up_self _ _ _) | exact (va_up_ne _ _ (by omega)).trans ((va_up_ne _ _ (by omega)).trans (by assumption)) | exact (congrArg Prod.fst ((va_up_ne _ _ (by omega)).trans (va_up_ne _ _ (by omega)))).trans (by assumption) | exact (congrFun ((va_up_ne _ _ (by omega)).trans (va_up_ne _ _ (by omega))) _).trans (by assumption) | (rw [va_up_self, va_up_ne _ _ (by omega)]; assumption)) (k_isRight hN (show s' < 6 by omega)) (Nat.le_of_ble_eq_true rfl) (by omega) ?_
          first | refine tk_jf_eqB dX10_meeting_40 (fun h40 => ?_) (fun h40 => ?_) | refine tk_if_eq dX10_meeting_40 (fun h40 => ?_) (fun h40 => ?_)
          · refine tk_ldc dX10_meeting_47 klX10_175 ?_
            refine tk_ireturn dX10_meeting_49 rfl ?_
            refine ⟨?_, rfl⟩
            unfold kMt
            simp [*]
          · refine tk_iconst dX10_meeting_43 kc_iconst_0 ?_
            refine tk_goto dX10_meeting_44 ?_
            refine tk_ireturn dX10_meeting_49 rfl ?_
            refine ⟨?_, rfl⟩
            unfold kMt
            simp [*]
        · refine tk_ldcw dX10_meeting_31 klX10_350 ?_
          refine tk_ireturn dX10_meeting_34 rfl ?_
          refine ⟨?_, rfl⟩
          unfold kMt
          simp [*]
      · refine tk_ldc dX10_meeting_23 klX10_65 ?_
        refine tk_ireturn dX10_meeting_25 rfl ?_
        refine ⟨?_, rfl⟩
        unfold kMt
        simp [*]
end HELP
