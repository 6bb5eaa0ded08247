/-! ===== the class: draft, cells laid ===== -/
theorem mnK_KS {c : Nat → Nat → Nat} {kd : Nat → Nat} {N p w : Nat} (hw : w < N) (hk : ∀ u, u < N → kd u < N) : KS c RT kd N p (c p w) (mnK c RT kd N p w) = true ∧ (∀ k, k < mnK c RT kd N p w → KS c RT kd N p (c p w) k = false) ∧ mnK c RT kd N p w < N := by
  obtain ⟨a1, a2, a3⟩ := mnD_spec (fun u => RT u && decide (c p u = c p w)) kd N N
  have hw2 := a2 w hw (by show (RT w && decide (c p w = c p w)) = true; rw [decide_eq_true rfl]; rfl)
  have hkw := hk w hw
  have hlt : mnK c RT kd N p w < N := Nat.lt_of_le_of_lt hw2 hkw
  refine ⟨?_, fun k hk2 => ?_, hlt⟩
  · rcases a3 with h | ⟨u, u1, u2, u3⟩
    · exfalso
      have : mnK c RT kd N p w = N := h
      omega
    · have u2 : (RT u && decide (c p u = c p w)) = true := u2
      rw [Bool.and_eq_true, decide_eq_true_eq] at u2
      exact KS_iff.mpr ⟨u, u1, rfl, u2.2, u3.symm⟩
  · cases e : KS c RT kd N p (c p w) k with
    | false => rfl
    | true =>
      obtain ⟨u, u1, u2, u3, u4⟩ := KS_iff.mp e
      have := a2 u u1 (by show (RT u && decide (c p u = c p w)) = true; rw [decide_eq_true u3]; rfl)
      have h9 : mnK c RT kd N p w ≤ kd u := this
      omega
theorem mnK_uniq {c : Nat → Nat → Nat} {kd : Nat → Nat} {N p u w : Nat} (hu : u < N) (hw : w < N) (hk : ∀ u, u < N → kd u < N) (h : ∀ k, KS c RT kd N p (c p u) k = KS c RT kd N p (c p w) k) : mnK c RT kd N p u = mnK c RT kd N p w := by
  obtain ⟨a1, a2, a3⟩ := mnK_KS (c := c) (p := p) hu hk
  obtain ⟨b1, b2, b3⟩ := mnK_KS (c := c) (p := p) hw hk
  rcases Nat.lt_trichotomy (mnK c RT kd N p u) (mnK c RT kd N p w) with q | q | q
  · have := b2 _ q; rw [← h, a1] at this; cases this
  · exact q
  · have := a2 _ q; rw [h, b1] at this; cases this
/-- the first of a cell is of that cell, and stands for itself -/
theorem mnK_rep {N np : Nat} {c : Nat → Nat → Nat} {f : Nat → Int32} {kd : Nat → Nat} (hK : KND N np c f RT kd) {p w : Nat} (hp : p < np) (hw : w < N) : kd (mnK c RT kd N p w) = mnK c RT kd N p w ∧ mnK c RT kd N p (mnK c RT kd N p w) = mnK c RT kd N p w := by
  have hk : ∀ u, u < N → kd u < N := fun u hu => by have := (hK.1.1 u hu rfl).2.1; omega
  obtain ⟨b1, b2, b3⟩ := mnK_KS (c := c) (p := p) hw hk
  obtain ⟨u, u1, u2, u3, u4⟩ := KS_iff.mp b1
  have hkk : kd (mnK c RT kd N p w) = mnK c RT kd N p w := by rw [← u4]; exact (hK.1.1 u u1 rfl).2.2.1
  refine ⟨hkk, mnK_uniq b3 hw hk (fun k => ?_)⟩
  have := hK.2 _ b3 u u1 rfl rfl (by rw [hkk, u4]) p hp k
  rw [this, u3]
section DRAFT8
variable {G : tkG} {n : Nat} {T : Nat → Nat × Nat} {I : Nat → Nat → Int32} {L : Nat → Nat → Int64} {P : Nat → Nat → Option Nat}
theorem c_firstPlace {p N w : Nat} {c : Nat → Nat → Nat} {kd pl : Nat → Nat} (hD : dObj T P) (hp : p < 4) (hN2 : N ≤ 128) (hw : w < N) (hc : ∀ w, w < N → I 30 (128 * p + w) = nI (c p w) ∧ c p w < 256) (hk : ∀ u, u < N → kd u < N) (hpl : ∀ w, w < N → I 32 w = nI (pl w)) (hlo : ∀ x, x < 256 → L 34 x = cOr kLo c RT kd p x N) (hhi : ∀ x, x < 256 → L 35 x = cOr kHi c RT kd p x N) : tkM G mX0_firstPlace 2 0 0 [vR 28, vI (nI p), vI (nI w)] (n, T, I, L, P) (tkF (some (vI (nI (pl (mnK c RT kd N p w))))) (n, T, I, L, P)) := by
  have hD' := hD
  obtain ⟨d1, d2, d3, d4, d5, d6, d7, d8, d9, d10, d11, d12, d13, d14, d15⟩ := hD'
  obtain ⟨c1, c2⟩ := hc w hw
  obtain ⟨m1, m2, m3⟩ := mnK_KS (c := c) (p := p) hw hk
  have hk8 : ∀ u, u < N → RT u = true → kd u < 128 := fun u hu _ => by have := hk u hu; omega
  have lo : ¬ cOr kLo c RT kd p (c p w) N = 0 → lsb (cOr kLo c RT kd p (c p w) N) = mnK c RT kd N p w := by
    intro h
    obtain ⟨i, hi, ht⟩ := tb_nz.mp h
    rw [tb_cLo hi] at ht
    have hm : mnK c RT kd N p w ≤ i := by
      apply Nat.le_of_not_lt
      intro q
      rw [m2 i q] at ht; cases ht
    exact lsb_eq (by rw [tb_cLo (by omega)]; exact m1) (fun j hj => by rw [tb_cLo (by omega)]; exact m2 j hj)
  have hi : cOr kLo c RT kd p (c p w) N = 0 → ¬ cOr kHi c RT kd p (c p w) N = 0 ∧ 64 + lsb (cOr kHi c RT kd p (c p w) N) = mnK c RT kd N p w := by
    intro h
    have hm : 64 ≤ mnK c RT kd N p w := by
      apply Nat.le_of_not_lt
      intro q
      have := tb_cLo (c := c) (R := RT) (kd := kd) (N := N) (p := p) (x := c p w) q
      rw [h, tb_0, m1] at this; cases this
    have t1 : tb (cOr kHi c RT kd p (c p w) N) (mnK c RT kd N p w - 64) = true := by rw [tb_cHi hk8 (by omega), show 64 + (mnK c RT kd N p w - 64) = mnK c RT kd N p w by omega]; exact m1
    refine ⟨tb_ne0 t1, ?_⟩
    rw [lsb_eq t1 (fun j hj => by rw [tb_cHi hk8 (by omega)]; exact m2 _ (by omega))]
    omega
  refine tkM.of (ls := [some _, some _, some _, none, none]) (by decide +kernel) (by decide +kernel) (Nat.le_of_ble_eq_true rfl) rfl ?_
  refine tk_aload0 dX0_firstPlace_0 ?_
  refine tk_iload1 dX0_firstPlace_1 ?_
  refine tk_iload2 dX0_firstPlace_2 ?_
  refine tk_callV2z dX0_firstPlace_3 kX0_104 (by first | assumption | exact va_up_self _ _ _ | exact (va_up_ne _ _ (by omega)).trans (by assumption) | exact congrArg Prod.fst (va_up_self _ _ _) | exact (congrArg Prod.fst (va_up_ne _ _ (by omega))).trans (by assumption) | exact (congrFun (va_up_ne _ _ (by omega)) _).trans (by assumption) | exact (va_up_ne _ _ (by omega)).trans (va_up_self _ _ _) | exact (va_up_ne _ _ (by omega)).trans ((va_up_ne _ _ (by omega)).trans (by assumption)) | exact (congrArg Prod.fst ((va_up_ne _ _ (by omega)).trans (va_up_ne _ _ (by omega)))).trans (by assumption) | exact (congrFun ((va_up_ne _ _ (by omega)).trans (va_up_ne _ _ (by omega))) _).trans (by assumption) | (rw [va_up_self, va_up_ne _ _ (by omega)]; assumption)) (c_label hD (by omega) (by omega)) (Nat.le_of_ble_eq_true rfl) (by omega) ?_
  rw [c1]
  refine tk_istore3 dX0_firstPlace_6 rfl ?_
  refine tk_aload0 dX0_firstPlace_7 ?_
  refine tk_getP dX0_firstPlace_8 fX0_27 rfl (by first | assumption | exact va_up_self _ _ _ | exact (va_up_ne _ _ (by omega)).trans (by assumption) | exact congrArg Prod.fst (va_up_self _ _ _) | exact (congrArg Prod.fst (va_up_ne _ _ (by omega))).trans (by assumption) | exact (congrFun (va_up_ne _ _ (by omega)) _).trans (by assumption) | exact (va_up_ne _ _ (by omega)).trans (va_up_self _ _ _) | exact (va_up_ne _ _ (by omega)).trans ((va_up_ne _ _ (by omega)).trans (by assumption)) | exact (congrArg Prod.fst ((va_up_ne _ _ (by omega)).trans (va_up_ne _ _ (by omega)))).trans (by assumption) | exact (congrFun ((va_up_ne _ _ (by omega)).trans (va_up_ne _ _ (by omega))) _).trans (by assumption) | (rw [va_up_self, va_up_ne _ _ (by omega)]; assumption)) (by first | assumption | exact va_up_self _ _ _ | exact (va_up_ne _ _ (by omega)).trans (by assumption) | exact congrArg Prod.fst (va_up_self _ _ _) | exact (congrArg Prod.fst (va_up_ne _ _ (by omega))).trans (by assumption) | exact (congrFun (va_up_ne _ _ (by omega)) _).trans (by assumption) | exact (va_up_ne _ _ (by omega)).trans (va_up_self _ _ _) | exact (va_up_ne _ _ (by omega)).trans ((va_up_ne _ _ (by omega)).trans (by assumption)) | exact (congrArg Prod.fst ((va_up_ne _ _ (by omega)).trans (va_up_ne _ _ (by omega)))).trans (by assumption) | exact (congrFun ((va_up_ne _ _ (by omega)).trans (va_up_ne _ _ (by omega))) _).trans (by assumption) | (rw [va_up_self, va_up_ne _ _ (by omega)]; assumption)) ?_
  refine tk_iload3 dX0_firstPlace_11 ?_
  refine tk_lald dX0_firstPlace_12 (by first | assumption | exact va_up_self _ _ _ | exact (va_up_ne _ _ (by omega)).trans (by assumption) | exact congrArg Prod.fst (va_up_self _ _ _) | exact (congrArg Prod.fst (va_up_ne _ _ (by omega))).trans (by assumption) | exact (congrFun (va_up_ne _ _ (by omega)) _).trans (by assumption) | exact (va_up_ne _ _ (by omega)).trans (va_up_self _ _ _) | exact (va_up_ne _ _ (by omega)).trans ((va_up_ne _ _ (by omega)).trans (by assumption)) | exact (congrArg Prod.fst ((va_up_ne _ _ (by omega)).trans (va_up_ne _ _ (by omega)))).trans (by assumption) | exact (congrFun ((va_up_ne _ _ (by omega)).trans (va_up_ne _ _ (by omega))) _).trans (by assumption) | (rw [va_up_self, va_up_ne _ _ (by omega)]; assumption)) (by omega) (by omega) ?_
  rw [hlo _ c2]
  refine tk_lconst dX0_firstPlace_13 (v := 0) (by decide) ?_
  refine tk_lcmp dX0_firstPlace_14 ?_
  first | refine tk_jf_eqB dX0_firstPlace_15 (fun h15 => ?_) (fun h15 => ?_) | refine tk_if_eq dX0_firstPlace_15 (fun h15 => ?_) (fun h15 => ?_)
  · refine tk_bipush dX0_firstPlace_30 kc_bipush_64 ?_
    refine tk_aload0 dX0_firstPlace_32 ?_
    refine tk_getP dX0_firstPlace_33 fX0_31 rfl (by first | assumption | exact va_up_self _ _ _ | exact (va_up_ne _ _ (by omega)).trans (by assumption) | exact congrArg Prod.fst (va_up_self _ _ _) | exact (congrArg Prod.fst (va_up_ne _ _ (by omega))).trans (by assumption) | exact (congrFun (va_up_ne _ _ (by omega)) _).trans (by assumption) | exact (va_up_ne _ _ (by omega)).trans (va_up_self _ _ _) | exact (va_up_ne _ _ (by omega)).trans ((va_up_ne _ _ (by omega)).trans (by assumption)) | exact (congrArg Prod.fst ((va_up_ne _ _ (by omega)).trans (va_up_ne _ _ (by omega)))).trans (by assumption) | exact (congrFun ((va_up_ne _ _ (by omega)).trans (va_up_ne _ _ (by omega))) _).trans (by assumption) | (rw [va_up_self, va_up_ne _ _ (by omega)]; assumption)) (by first | assumption | exact va_up_self _ _ _ | exact (va_up_ne _ _ (by omega)).trans (by assumption) | exact congrArg Prod.fst (va_up_self _ _ _) | exact (congrArg Prod.fst (va_up_ne _ _ (by omega))).trans (by assumption) | exact (congrFun (va_up_ne _ _ (by omega)) _).trans (by assumption) | exact (va_up_ne _ _ (by omega)).trans (va_up_self _ _ _) | exact (va_up_ne _ _ (by omega)).trans ((va_up_ne _ _ (by omega)).trans (by assumption)) | exact (congrArg Prod.fst ((va_up_ne _ _ (by omega)).trans (va_up_ne _ _ (by omega)))).trans (by assumption) | exact (congrFun ((va_up_ne _ _ (by omega)).trans (va_up_ne _ _ (by omega))) _).trans (by assumption) | (rw [va_up_self, va_up_ne _ _ (by omega)]; assumption)) ?_
    refine tk_iload3 dX0_firstPlace_36 ?_
    refine tk_lald dX0_firstPlace_37 (by first | assumption | exact va_up_self _ _ _ | exact (va_up_ne _ _ (by omega)).trans (by assumption) | exact congrArg Prod.fst (va_up_self _ _ _) | exact (congrArg Prod.fst (va_up_ne _ _ (by omega))).trans (by assumption) | exact (congrFun (va_up_ne _ _ (by omega)) _).trans (by assumption) | exact (va_up_ne _ _ (by omega)).trans (va_up_self _ _ _) | exact (va_up_ne _ _ (by omega)).trans ((va_up_ne _ _ (by omega)).trans (by assumption)) | exact (congrArg Prod.fst ((va_up_ne _ _ (by omega)).trans (va_up_ne _ _ (by omega)))).trans (by assumption) | exact (congrFun ((va_up_ne _ _ (by omega)).trans (va_up_ne _ _ (by omega))) _).trans (by assumption) | (rw [va_up_self, va_up_ne _ _ (by omega)]; assumption)) (by omega) (by omega) ?_
    rw [hhi _ c2]
    have hh := hi ((lgc0 _ _).mp h15)
    refine tk_callSN1z dX0_firstPlace_38 kX0_78 (c_least hh.1) (Nat.le_of_ble_eq_true rfl) (by omega) ?_
    first | refine tk_iaddN dX0_firstPlace_41 ?_ | refine tk_iadd dX0_firstPlace_41 ?_
    rw [hh.2]
    refine tk_istore4 dX0_firstPlace_42 rfl ?_
    refine tk_aload0 dX0_firstPlace_44 ?_
    refine tk_getP dX0_firstPlace_45 fX0_21 rfl (by first | assumption | exact va_up_self _ _ _ | exact (va_up_ne _ _ (by omega)).trans (by assumption) | exact congrArg Prod.fst (va_up_self _ _ _) | exact (congrArg Prod.fst (va_up_ne _ _ (by omega))).trans (by assumption) | exact (congrFun (va_up_ne _ _ (by omega)) _).trans (by assumption) | exact (va_up_ne _ _ (by omega)).trans (va_up_self _ _ _) | exact (va_up_ne _ _ (by omega)).trans ((va_up_ne _ _ (by omega)).trans (by assumption)) | exact (congrArg Prod.fst ((va_up_ne _ _ (by omega)).trans (va_up_ne _ _ (by omega)))).trans (by assumption) | exact (congrFun ((va_up_ne _ _ (by omega)).trans (va_up_ne _ _ (by omega))) _).trans (by assumption) | (rw [va_up_self, va_up_ne _ _ (by omega)]; assumption)) (by first | assumption | exact va_up_self _ _ _ | exact (va_up_ne _ _ (by omega)).trans (by assumption) | exact congrArg Prod.fst (va_up_self _ _ _) | exact (congrArg Prod.fst (va_up_ne _ _ (by omega))).trans (by assumption) | exact (congrFun (va_up_ne _ _ (by omega)) _).trans (by assumption) | exact (va_up_ne _ _ (by omega)).trans (va_up_self _ _ _) | exact (va_up_ne _ _ (by omega)).trans ((va_up_ne _ _ (by omega)).trans (by assumption)) | exact (congrArg Prod.fst ((va_up_ne _ _ (by omega)).trans (va_up_ne _ _ (by omega)))).trans (by assumption) | exact (congrFun ((va_up_ne _ _ (by omega)).trans (va_up_ne _ _ (by omega))) _).trans (by assumption) | (rw [va_up_self, va_up_ne _ _ (by omega)]; assumption)) ?_
    refine tk_iload4 dX0_firstPlace_48 ?_
    refine tk_iald dX0_firstPlace_50 (by first | assumption | exact va_up_self _ _ _ | exact (va_up_ne _ _ (by omega)).trans (by assumption) | exact congrArg Prod.fst (va_up_self _ _ _) | exact (congrArg Prod.fst (va_up_ne _ _ (by omega))).trans (by assumption) | exact (congrFun (va_up_ne _ _ (by omega)) _).trans (by assumption) | exact (va_up_ne _ _ (by omega)).trans (va_up_self _ _ _) | exact (va_up_ne _ _ (by omega)).trans ((va_up_ne _ _ (by omega)).trans (by assumption)) | exact (congrArg Prod.fst ((va_up_ne _ _ (by omega)).trans (va_up_ne _ _ (by omega)))).trans (by assumption) | exact (congrFun ((va_up_ne _ _ (by omega)).trans (va_up_ne _ _ (by omega))) _).trans (by assumption) | (rw [va_up_self, va_up_ne _ _ (by omega)]; assumption)) (by omega) (by omega) ?_
    rw [hpl _ m3]
    refine tk_ireturn dX0_firstPlace_51 rfl ?_
    exact ⟨rfl, rfl⟩
  · refine tk_aload0 dX0_firstPlace_18 ?_
    refine tk_getP dX0_firstPlace_19 fX0_27 rfl (by first | assumption | exact va_up_self _ _ _ | exact (va_up_ne _ _ (by omega)).trans (by assumption) | exact congrArg Prod.fst (va_up_self _ _ _) | exact (congrArg Prod.fst (va_up_ne _ _ (by omega))).trans (by assumption) | exact (congrFun (va_up_ne _ _ (by omega)) _).trans (by assumption) | exact (va_up_ne _ _ (by omega)).trans (va_up_self _ _ _) | exact (va_up_ne _ _ (by omega)).trans ((va_up_ne _ _ (by omega)).trans (by assumption)) | exact (congrArg Prod.fst ((va_up_ne _ _ (by omega)).trans (va_up_ne _ _ (by omega)))).trans (by assumption) | exact (congrFun ((va_up_ne _ _ (by omega)).trans (va_up_ne _ _ (by omega))) _).trans (by assumption) | (rw [va_up_self, va_up_ne _ _ (by omega)]; assumption)) (by first | assumption | exact va_up_self _ _ _ | exact (va_up_ne _ _ (by omega)).trans (by assumption) | exact congrArg Prod.fst (va_up_self _ _ _) | exact (congrArg Prod.fst (va_up_ne _ _ (by omega))).trans (by assumption) | exact (congrFun (va_up_ne _ _ (by omega)) _).trans (by assumption) | exact (va_up_ne _ _ (by omega)).trans (va_up_self _ _ _) | exact (va_up_ne _ _ (by omega)).trans ((va_up_ne _ _ (by omega)).trans (by assumption)) | exact (congrArg Prod.fst ((va_up_ne _ _ (by omega)).trans (va_up_ne _ _ (by omega)))).trans (by assumption) | exact (congrFun ((va_up_ne _ _ (by omega)).trans (va_up_ne _ _ (by omega))) _).trans (by assumption) | (rw [va_up_self, va_up_ne _ _ (by omega)]; assumption)) ?_
    refine tk_iload3 dX0_firstPlace_22 ?_
    refine tk_lald dX0_firstPlace_23 (by first | assumption | exact va_up_self _ _ _ | exact (va_up_ne _ _ (by omega)).trans (by assumption) | exact congrArg Prod.fst (va_up_self _ _ _) | exact (congrArg Prod.fst (va_up_ne _ _ (by omega))).trans (by assumption) | exact (congrFun (va_up_ne _ _ (by omega)) _).trans (by assumption) | exact (va_up_ne _ _ (by omega)).trans (va_up_self _ _ _) | exact (va_up_ne _ _ (by omega)).trans ((va_up_ne _ _ (by omega)).trans (by assumption)) | exact (congrArg Prod.fst ((va_up_ne _ _ (by omega)).trans (va_up_ne _ _ (by omega)))).trans (by assumption) | exact (congrFun ((va_up_ne _ _ (by omega)).trans (va_up_ne _ _ (by omega))) _).trans (by assumption) | (rw [va_up_self, va_up_ne _ _ (by omega)]; assumption)) (by omega) (by omega) ?_
    rw [hlo _ c2]
    refine tk_callSN1z dX0_firstPlace_24 kX0_78 (c_least (fun e => h15 ((lgc0 _ _).mpr e))) (Nat.le_of_ble_eq_true rfl) (by omega) ?_
    rw [lo (fun e => h15 ((lgc0 _ _).mpr e))]
    refine tk_goto dX0_firstPlace_27 ?_
    refine tk_istore4 dX0_firstPlace_42 rfl ?_
    refine tk_aload0 dX0_firstPlace_44 ?_
    refine tk_getP dX0_firstPlace_45 fX0_21 rfl (by first | assumption | exact va_up_self _ _ _ | exact (va_up_ne _ _ (by omega)).trans (by assumption) | exact congrArg Prod.fst (va_up_self _ _ _) | exact (congrArg Prod.fst (va_up_ne _ _ (by omega))).trans (by assumption) | exact (congrFun (va_up_ne _ _ (by omega)) _).trans (by assumption) | exact (va_up_ne _ _ (by omega)).trans (va_up_self _ _ _) | exact (va_up_ne _ _ (by omega)).trans ((va_up_ne _ _ (by omega)).trans (by assumption)) | exact (congrArg Prod.fst ((va_up_ne _ _ (by omega)).trans (va_up_ne _ _ (by omega)))).trans (by assumption) | exact (congrFun ((va_up_ne _ _ (by omega)).trans (va_up_ne _ _ (by omega))) _).trans (by assumption) | (rw [va_up_self, va_up_ne _ _ (by omega)]; assumption)) (by first | assumption | exact va_up_self _ _ _ | exact (va_up_ne _ _ (by omega)).trans (by assumption) | exact congrArg Prod.fst (va_up_self _ _ _) | exact (congrArg Prod.fst (va_up_ne _ _ (by omega))).trans (by assumption) | exact (congrFun (va_up_ne _ _ (by omega)) _).trans (by assumption) | exact (va_up_ne _ _ (by omega)).trans (va_up_self _ _ _) | exact (va_up_ne _ _ (by omega)).trans ((va_up_ne _ _ (by omega)).trans (by assumption)) | exact (congrArg Prod.fst ((va_up_ne _ _ (by omega)).trans (va_up_ne _ _ (by omega)))).trans (by assumption) | exact (congrFun ((va_up_ne _ _ (by omega)).trans (va_up_ne _ _ (by omega))) _).trans (by assumption) | (rw [va_up_self, va_up_ne _ _ (by omega)]; assumption)) ?_
    refine tk_iload4 dX0_firstPlace_48 ?_
    refine tk_iald dX0_firstPlace_50 (by first | assumption | exact va_up_self _ _ _ | exact (va_up_ne _ _ (by omega)).trans (by assumption) | exact congrArg Prod.fst (va_up_self _ _ _) | exact (congrArg Prod.fst (va_up_ne _ _ (by omega))).trans (by assumption) | exact (congrFun (va_up_ne _ _ (by omega)) _).trans (by assumption) | exact (va_up_ne _ _ (by omega)).trans (va_up_self _ _ _) | exact (va_up_ne _ _ (by omega)).trans ((va_up_ne _ _ (by omega)).trans (by assumption)) | exact (congrArg Prod.fst ((va_up_ne _ _ (by omega)).trans (va_up_ne _ _ (by omega)))).trans (by assumption) | exact (congrFun ((va_up_ne _ _ (by omega)).trans (va_up_ne _ _ (by omega))) _).trans (by assumption) | (rw [va_up_self, va_up_ne _ _ (by omega)]; assumption)) (by omega) (by omega) ?_
    rw [hpl _ m3]
    refine tk_ireturn dX0_firstPlace_51 rfl ?_
    exact ⟨rfl, rfl⟩
end DRAFT8
