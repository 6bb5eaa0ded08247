/-! ===== the class: draft, kin found; cut ===== -/
def kdP (c : Nat → Nat → Nat) (N : Nat) (kd : Nat → Nat) : Nat → Nat → Nat
  | 0 => kd
  | p + 1 => kdS RT (kdP c N kd p) (lkP c (kdP c N kd p) N p)
def ptd (c : Nat → Nat → Nat) (N : Nat) (kd : Nat → Nat) : Nat → Bool
  | 0 => false
  | p + 1 => anyB (fun w => !decide (kdP c N kd (p + 1) w = kdP c N kd p w)) N || ptd c N kd p
section KDP
variable {N np : Nat} {c : Nat → Nat → Nat} {f : Nat → Int32} {kd : Nat → Nat}
theorem KI_lt {kd : Nat → Nat} (h : KI N np c f RT kd) (hN : N ≤ 128) : ∀ u, u < N → kd u < 128 := fun u hu => by have := (h.1 u hu rfl).2.1; omega
theorem kdP_KI (hN : N ≤ 128) (h : KI N np c f RT kd) : ∀ p, p ≤ np → KI N np c f RT (kdP c N kd p) := by
  intro p
  induction p with
  | zero => intro _; exact h
  | succ p ih =>
    intro hp
    have i := ih (by omega)
    refine kdS_KI lkP_LKE i (fun E hE hk u w e => ?_)
    rw [lkP_iff (KI_lt i hN)]
    exact BSM.lkp hE hk e p (by omega)
theorem cntR_cg {R S : Nat → Bool} {k : Nat} (h : ∀ i, i < k → R i = S i) : cntR R k = cntR S k := Nat.le_antisymm (cntR_mono (fun i hi q => by rw [← h i hi]; exact q)) (cntR_mono (fun i hi q => by rw [h i hi]; exact q))
theorem kdP_step (hN : N ≤ 128) (h : KI N np c f RT kd) {p : Nat} (hp : p < np) : cntR (reps RT (kdP c N kd p)) N ≤ cntR (reps RT (kdP c N kd (p + 1))) N ∧ (anyB (fun w => !decide (kdP c N kd (p + 1) w = kdP c N kd p w)) N = true → cntR (reps RT (kdP c N kd p)) N < cntR (reps RT (kdP c N kd (p + 1))) N) := by
  have i := kdP_KI hN h p (by omega)
  have grow : anyB (fun w => !decide (kdP c N kd (p + 1) w = kdP c N kd p w)) N = true → cntR (reps RT (kdP c N kd p)) N < cntR (reps RT (kdP c N kd (p + 1))) N := by
    intro q
    obtain ⟨w, hw, hne⟩ := anyB_iff.mp q
    rw [Bool.not_eq_true', decide_eq_false_iff_not] at hne
    exact kdS_grow lkP_LKE i hw rfl hne
  refine ⟨?_, grow⟩
  cases e : anyB (fun w => !decide (kdP c N kd (p + 1) w = kdP c N kd p w)) N with
  | true => exact Nat.le_of_lt (grow e)
  | false =>
    refine Nat.le_of_eq (cntR_cg (fun w hw => ?_))
    have : kdP c N kd (p + 1) w = kdP c N kd p w := by
      apply Classical.byContradiction
      intro q
      have : anyB (fun w => !decide (kdP c N kd (p + 1) w = kdP c N kd p w)) N = true := anyB_iff.mpr ⟨w, hw, by rw [decide_eq_false q]; rfl⟩
      rw [e] at this; cases this
    unfold reps
    rw [this]
theorem kdP_grow (hN : N ≤ 128) (h : KI N np c f RT kd) : ∀ p, p ≤ np → cntR (reps RT kd) N ≤ cntR (reps RT (kdP c N kd p)) N ∧ (ptd c N kd p = true → cntR (reps RT kd) N < cntR (reps RT (kdP c N kd p)) N) := by
  intro p
  induction p with
  | zero => intro _; exact ⟨Nat.le_refl _, fun q => by cases q⟩
  | succ p ih =>
    intro hp
    obtain ⟨i1, i2⟩ := ih (by omega)
    obtain ⟨s1, s2⟩ := kdP_step hN h (show p < np by omega)
    refine ⟨by omega, fun q => ?_⟩
    rw [ptd, Bool.or_eq_true] at q
    rcases q with q | q
    · have := s2 q; omega
    · have := i2 q; omega
theorem ptd_f : ∀ p, ptd c N kd p = false → ∀ q, q ≤ p → ∀ w, w < N → kdP c N kd q w = kd w := by
  intro p
  induction p with
  | zero => intro _ q hq w _; obtain rfl : q = 0 := by omega
            rfl
  | succ p ih =>
    intro h q hq w hw
    rw [ptd, Bool.or_eq_false_iff] at h
    have i := ih h.2
    by_cases e : q = p + 1
    · subst e
      rw [← i p (Nat.le_refl _) w hw]
      apply Classical.byContradiction
      intro z
      have : anyB (fun w => !decide (kdP c N kd (p + 1) w = kdP c N kd p w)) N = true := anyB_iff.mpr ⟨w, hw, by rw [decide_eq_false z]; rfl⟩
      rw [h.1] at this; cases this
    · exact i q (by omega) w hw
theorem kdP_KND (hN : N ≤ 128) (h : KI N np c f RT kd) (hp : ptd c N kd np = false) : KND N np c f RT (kdP c N kd np) := by
  have hq := ptd_f np hp
  refine ⟨kdP_KI hN h np (Nat.le_refl _), fun u hu w hw _ _ e p hpn k => ?_⟩
  have e2 : kdP c N kd p u = kdP c N kd p w := by
    rw [hq p (by omega) u hu, hq p (by omega) w hw, ← hq np (Nat.le_refl _) u hu, ← hq np (Nat.le_refl _) w hw]; exact e
  have e3 : kdS RT (kdP c N kd p) (lkP c (kdP c N kd p) N p) u = kdS RT (kdP c N kd p) (lkP c (kdP c N kd p) N p) w := by
    show kdP c N kd (p + 1) u = kdP c N kd (p + 1) w
    rw [hq (p + 1) (by omega) u hu, hq (p + 1) (by omega) w hw, ← hq p (by omega) u hu, ← hq p (by omega) w hw]; exact e2
  have e4 := ((kdS_eq lkP_LKE hu hw rfl rfl).mp e3).2
  have e5 := (lkP_iff (KI_lt (kdP_KI hN h p (by omega)) hN)).mp e4 k
  have g1 : ∀ x, KS c RT (kdP c N kd p) N p x k = KS c RT (kdP c N kd np) N p x k := fun x => KS_congr (fun v hv _ => (hq p (by omega) v hv).trans (hq np (Nat.le_refl _) v hv).symm)
  rw [g1, g1] at e5
  exact e5
end KDP
theorem kd0_w {f : Nat → Int32} {w : Nat} (h : ∀ u, u < w → ¬ f u = f w) : kd0 RT f w = w := by
  refine lst_eq (m := w) ?_ ?_ (fun j hj => ?_)
  · show (RT w && decide (f w = f w)) = true; rw [decide_eq_true rfl]; rfl
  · show (RT w && decide (f w = f w)) = true; rw [decide_eq_true rfl]; rfl
  · show (RT j && decide (f j = f w)) = false; rw [decide_eq_false (h j hj), Bool.and_false]
theorem kd0_v {f : Nat → Int32} {v w : Nat} (h : f v = f w) : kd0 RT f w = kd0 RT f v := by
  have hq : (fun u => RT u && decide (f u = f w)) w = true := by show (RT w && decide (f w = f w)) = true; rw [decide_eq_true rfl]; rfl
  have hv : (fun u => RT u && decide (f u = f v)) v = true := by show (RT v && decide (f v = f v)) = true; rw [decide_eq_true rfl]; rfl
  obtain ⟨a1, a2, a3⟩ := lst_least (q := fun u => RT u && decide (f u = f v)) hv
  have es : (fun u => RT u && decide (f u = f v)) = fun u => RT u && decide (f u = f w) := by rw [h]
  rw [es] at a1 a3
  refine lst_eq hq ?_ ?_
  · show (fun u => RT u && decide (f u = f w)) (lst (fun u => RT u && decide (f u = f v)) v 0) = true
    rw [es]; rw [h] at a1; exact a1
  · intro j hj
    have hj : j < lst (fun u => RT u && decide (f u = f v)) v 0 := hj
    rw [es] at hj
    have := a3 j hj
    rw [h] at this
    exact this
section DRAFT5
variable {G : tkG} {n : Nat} {T : Nat → Nat × Nat} {I : Nat → Nat → Int32} {L : Nat → Nat → Int64} {P : Nat → Nat → Option Nat}
theorem c_fkIn {w : Nat} (hD : dObj T P) (hw : w < 128) {Q : Option tkV → tkH → Prop} (fin : ∀ l, tkle [some (vR 28), some (vI (nI w)), none, none] l → tkX G mX0_findKin 3 0 0 61 l [] (n, T, va_up I 31 (va_up (tkcp (I 31) (fun w => nI (kd0 RT (I 29) w)) w) w (nI (kd0 RT (I 29) w))), L, P) Q) : ∀ j, j ≤ w → (∀ u, j ≤ u → u < w → ¬ I 29 u = I 29 w) → tkX G mX0_findKin 3 0 0 21 [some (vR 28), some (vI (nI w)), some (vI (ixm j)), none] [] (n, T, va_up I 31 (va_up (tkcp (I 31) (fun w => nI (kd0 RT (I 29) w)) w) w (nI w)), L, P) Q := by
  obtain ⟨d1, d2, d3, d4, d5, d6, d7, d8, d9, d10, d11, d12, d13, d14, d15⟩ := hD
  intro j
  induction j with
  | zero =>
    intro _ ino
    refine tk_iload2 dX0_findKin_21 ?_
    refine tk_jf_lt dX0_findKin_22 (fun h22 => ?_) (fun h22 => ?_)
    · have q := fin
      rw [kd0_w (fun u hu => ino u (by omega) hu)] at q
      exact q _ (by repeat' (first | exact trivial | refine ⟨Or.inl rfl, ?_⟩ | refine ⟨Or.inr rfl, ?_⟩))
    · exact absurd ixm_0 (Int32.not_lt.mpr h22)
  | succ j ih =>
    intro hj ino
    rw [ixm_s]
    refine tk_iload2 dX0_findKin_21 ?_
    refine tk_jf_lt dX0_findKin_22 (fun h22 => ?_) (fun h22 => ?_)
    · first
        | exact absurd h22 (nI_pos (by omega))
        | skip
    · refine tk_aload0 dX0_findKin_25 ?_
      refine tk_getP dX0_findKin_26 fX0_11 rfl (by first | assumption | exact va_up_self _ _ _ | exact (va_up_ne _ _ (by omega)).trans (by assumption) | exact congrArg Prod.fst (va_up_self _ _ _) | exact (congrArg Prod.fst (va_up_ne _ _ (by omega))).trans (by assumption) | exact (congrFun (va_up_ne _ _ (by omega)) _).trans (by assumption) | exact (va_up_ne _ _ (by omega)).trans (va_up_self _ _ _) | exact (va_up_ne _ _ (by omega)).trans ((va_up_ne _ _ (by omega)).trans (by assumption)) | exact (congrArg Prod.fst ((va_up_ne _ _ (by omega)).trans (va_up_ne _ _ (by omega)))).trans (by assumption) | exact (congrFun ((va_up_ne _ _ (by omega)).trans (va_up_ne _ _ (by omega))) _).trans (by assumption) | (rw [va_up_self, va_up_ne _ _ (by omega)]; assumption)) (by first | assumption | exact va_up_self _ _ _ | exact (va_up_ne _ _ (by omega)).trans (by assumption) | exact congrArg Prod.fst (va_up_self _ _ _) | exact (congrArg Prod.fst (va_up_ne _ _ (by omega))).trans (by assumption) | exact (congrFun (va_up_ne _ _ (by omega)) _).trans (by assumption) | exact (va_up_ne _ _ (by omega)).trans (va_up_self _ _ _) | exact (va_up_ne _ _ (by omega)).trans ((va_up_ne _ _ (by omega)).trans (by assumption)) | exact (congrArg Prod.fst ((va_up_ne _ _ (by omega)).trans (va_up_ne _ _ (by omega)))).trans (by assumption) | exact (congrFun ((va_up_ne _ _ (by omega)).trans (va_up_ne _ _ (by omega))) _).trans (by assumption) | (rw [va_up_self, va_up_ne _ _ (by omega)]; assumption)) ?_
      refine tk_iload2 dX0_findKin_29 ?_
      refine tk_iald dX0_findKin_30 (by first | assumption | exact va_up_self _ _ _ | exact (va_up_ne _ _ (by omega)).trans (by assumption) | exact congrArg Prod.fst (va_up_self _ _ _) | exact (congrArg Prod.fst (va_up_ne _ _ (by omega))).trans (by assumption) | exact (congrFun (va_up_ne _ _ (by omega)) _).trans (by assumption) | exact (va_up_ne _ _ (by omega)).trans (va_up_self _ _ _) | exact (va_up_ne _ _ (by omega)).trans ((va_up_ne _ _ (by omega)).trans (by assumption)) | exact (congrArg Prod.fst ((va_up_ne _ _ (by omega)).trans (va_up_ne _ _ (by omega)))).trans (by assumption) | exact (congrFun ((va_up_ne _ _ (by omega)).trans (va_up_ne _ _ (by omega))) _).trans (by assumption) | (rw [va_up_self, va_up_ne _ _ (by omega)]; assumption)) (by omega) (by omega) ?_
      rw [va_up_ne _ _ (by omega)]
      refine tk_aload0 dX0_findKin_31 ?_
      refine tk_getP dX0_findKin_32 fX0_11 rfl (by first | assumption | exact va_up_self _ _ _ | exact (va_up_ne _ _ (by omega)).trans (by assumption) | exact congrArg Prod.fst (va_up_self _ _ _) | exact (congrArg Prod.fst (va_up_ne _ _ (by omega))).trans (by assumption) | exact (congrFun (va_up_ne _ _ (by omega)) _).trans (by assumption) | exact (va_up_ne _ _ (by omega)).trans (va_up_self _ _ _) | exact (va_up_ne _ _ (by omega)).trans ((va_up_ne _ _ (by omega)).trans (by assumption)) | exact (congrArg Prod.fst ((va_up_ne _ _ (by omega)).trans (va_up_ne _ _ (by omega)))).trans (by assumption) | exact (congrFun ((va_up_ne _ _ (by omega)).trans (va_up_ne _ _ (by omega))) _).trans (by assumption) | (rw [va_up_self, va_up_ne _ _ (by omega)]; assumption)) (by first | assumption | exact va_up_self _ _ _ | exact (va_up_ne _ _ (by omega)).trans (by assumption) | exact congrArg Prod.fst (va_up_self _ _ _) | exact (congrArg Prod.fst (va_up_ne _ _ (by omega))).trans (by assumption) | exact (congrFun (va_up_ne _ _ (by omega)) _).trans (by assumption) | exact (va_up_ne _ _ (by omega)).trans (va_up_self _ _ _) | exact (va_up_ne _ _ (by omega)).trans ((va_up_ne _ _ (by omega)).trans (by assumption)) | exact (congrArg Prod.fst ((va_up_ne _ _ (by omega)).trans (va_up_ne _ _ (by omega)))).trans (by assumption) | exact (congrFun ((va_up_ne _ _ (by omega)).trans (va_up_ne _ _ (by omega))) _).trans (by assumption) | (rw [va_up_self, va_up_ne _ _ (by omega)]; assumption)) ?_
      refine tk_iload1 dX0_findKin_35 ?_
      refine tk_iald dX0_findKin_36 (by first | assumption | exact va_up_self _ _ _ | exact (va_up_ne _ _ (by omega)).trans (by assumption) | exact congrArg Prod.fst (va_up_self _ _ _) | exact (congrArg Prod.fst (va_up_ne _ _ (by omega))).trans (by assumption) | exact (congrFun (va_up_ne _ _ (by omega)) _).trans (by assumption) | exact (va_up_ne _ _ (by omega)).trans (va_up_self _ _ _) | exact (va_up_ne _ _ (by omega)).trans ((va_up_ne _ _ (by omega)).trans (by assumption)) | exact (congrArg Prod.fst ((va_up_ne _ _ (by omega)).trans (va_up_ne _ _ (by omega)))).trans (by assumption) | exact (congrFun ((va_up_ne _ _ (by omega)).trans (va_up_ne _ _ (by omega))) _).trans (by assumption) | (rw [va_up_self, va_up_ne _ _ (by omega)]; assumption)) (by omega) (by omega) ?_
      rw [va_up_ne _ _ (by omega)]
      first | refine tk_icmp_neN dX0_findKin_37 (by omega) (by omega) (fun h37 => ?_) (fun h37 => ?_) | refine tk_icmp_ne dX0_findKin_37 (fun h37 => ?_) (fun h37 => ?_)
      · refine tk_iinc2 dX0_findKin_55 (v := ixm j) (ixm_dec' j) rfl ?_
        refine tk_goto dX0_findKin_58 ?_
        refine tk_wk (by repeat' (first | exact trivial | refine ⟨Or.inl rfl, ?_⟩ | refine ⟨Or.inr rfl, ?_⟩)) (ih (by omega) (fun u hu hu2 => ?_))
        by_cases e : u = j
        · subst e; exact h37
        · exact ino u (by omega) hu2
      · refine tk_aload0 dX0_findKin_40 ?_
        refine tk_getP dX0_findKin_41 fX0_18 rfl (by first | assumption | exact va_up_self _ _ _ | exact (va_up_ne _ _ (by omega)).trans (by assumption) | exact congrArg Prod.fst (va_up_self _ _ _) | exact (congrArg Prod.fst (va_up_ne _ _ (by omega))).trans (by assumption) | exact (congrFun (va_up_ne _ _ (by omega)) _).trans (by assumption) | exact (va_up_ne _ _ (by omega)).trans (va_up_self _ _ _) | exact (va_up_ne _ _ (by omega)).trans ((va_up_ne _ _ (by omega)).trans (by assumption)) | exact (congrArg Prod.fst ((va_up_ne _ _ (by omega)).trans (va_up_ne _ _ (by omega)))).trans (by assumption) | exact (congrFun ((va_up_ne _ _ (by omega)).trans (va_up_ne _ _ (by omega))) _).trans (by assumption) | (rw [va_up_self, va_up_ne _ _ (by omega)]; assumption)) (by first | assumption | exact va_up_self _ _ _ | exact (va_up_ne _ _ (by omega)).trans (by assumption) | exact congrArg Prod.fst (va_up_self _ _ _) | exact (congrArg Prod.fst (va_up_ne _ _ (by omega))).trans (by assumption) | exact (congrFun (va_up_ne _ _ (by omega)) _).trans (by assumption) | exact (va_up_ne _ _ (by omega)).trans (va_up_self _ _ _) | exact (va_up_ne _ _ (by omega)).trans ((va_up_ne _ _ (by omega)).trans (by assumption)) | exact (congrArg Prod.fst ((va_up_ne _ _ (by omega)).trans (va_up_ne _ _ (by omega)))).trans (by assumption) | exact (congrFun ((va_up_ne _ _ (by omega)).trans (va_up_ne _ _ (by omega))) _).trans (by assumption) | (rw [va_up_self, va_up_ne _ _ (by omega)]; assumption)) ?_
        refine tk_iload1 dX0_findKin_44 ?_
        refine tk_aload0 dX0_findKin_45 ?_
        refine tk_getP dX0_findKin_46 fX0_18 rfl (by first | assumption | exact va_up_self _ _ _ | exact (va_up_ne _ _ (by omega)).trans (by assumption) | exact congrArg Prod.fst (va_up_self _ _ _) | exact (congrArg Prod.fst (va_up_ne _ _ (by omega))).trans (by assumption) | exact (congrFun (va_up_ne _ _ (by omega)) _).trans (by assumption) | exact (va_up_ne _ _ (by omega)).trans (va_up_self _ _ _) | exact (va_up_ne _ _ (by omega)).trans ((va_up_ne _ _ (by omega)).trans (by assumption)) | exact (congrArg Prod.fst ((va_up_ne _ _ (by omega)).trans (va_up_ne _ _ (by omega)))).trans (by assumption) | exact (congrFun ((va_up_ne _ _ (by omega)).trans (va_up_ne _ _ (by omega))) _).trans (by assumption) | (rw [va_up_self, va_up_ne _ _ (by omega)]; assumption)) (by first | assumption | exact va_up_self _ _ _ | exact (va_up_ne _ _ (by omega)).trans (by assumption) | exact congrArg Prod.fst (va_up_self _ _ _) | exact (congrArg Prod.fst (va_up_ne _ _ (by omega))).trans (by assumption) | exact (congrFun (va_up_ne _ _ (by omega)) _).trans (by assumption) | exact (va_up_ne _ _ (by omega)).trans (va_up_self _ _ _) | exact (va_up_ne _ _ (by omega)).trans ((va_up_ne _ _ (by omega)).trans (by assumption)) | exact (congrArg Prod.fst ((va_up_ne _ _ (by omega)).trans (va_up_ne _ _ (by omega)))).trans (by assumption) | exact (congrFun ((va_up_ne _ _ (by omega)).trans (va_up_ne _ _ (by omega))) _).trans (by assumption) | (rw [va_up_self, va_up_ne _ _ (by omega)]; assumption)) ?_
        refine tk_iload2 dX0_findKin_49 ?_
        refine tk_iald dX0_findKin_50 (by first | assumption | exact va_up_self _ _ _ | exact (va_up_ne _ _ (by omega)).trans (by assumption) | exact congrArg Prod.fst (va_up_self _ _ _) | exact (congrArg Prod.fst (va_up_ne _ _ (by omega))).trans (by assumption) | exact (congrFun (va_up_ne _ _ (by omega)) _).trans (by assumption) | exact (va_up_ne _ _ (by omega)).trans (va_up_self _ _ _) | exact (va_up_ne _ _ (by omega)).trans ((va_up_ne _ _ (by omega)).trans (by assumption)) | exact (congrArg Prod.fst ((va_up_ne _ _ (by omega)).trans (va_up_ne _ _ (by omega)))).trans (by assumption) | exact (congrFun ((va_up_ne _ _ (by omega)).trans (va_up_ne _ _ (by omega))) _).trans (by assumption) | (rw [va_up_self, va_up_ne _ _ (by omega)]; assumption)) (by omega) (by omega) ?_
        rw [va_up_self, va_up_ne _ _ (show ¬ j = w by omega), tkcp_lt (show j < w by omega)]
        refine tk_iast dX0_findKin_51 (by first | assumption | exact va_up_self _ _ _ | exact (va_up_ne _ _ (by omega)).trans (by assumption) | exact congrArg Prod.fst (va_up_self _ _ _) | exact (congrArg Prod.fst (va_up_ne _ _ (by omega))).trans (by assumption) | exact (congrFun (va_up_ne _ _ (by omega)) _).trans (by assumption) | exact (va_up_ne _ _ (by omega)).trans (va_up_self _ _ _) | exact (va_up_ne _ _ (by omega)).trans ((va_up_ne _ _ (by omega)).trans (by assumption)) | exact (congrArg Prod.fst ((va_up_ne _ _ (by omega)).trans (va_up_ne _ _ (by omega)))).trans (by assumption) | exact (congrFun ((va_up_ne _ _ (by omega)).trans (va_up_ne _ _ (by omega))) _).trans (by assumption) | (rw [va_up_self, va_up_ne _ _ (by omega)]; assumption)) (by omega) (by omega) ?_
        rw [bx_uu, va_up_self, bx_uu]
        refine tk_goto dX0_findKin_52 ?_
        have q := fin
        rw [kd0_v (v := j) (w := w) h37] at q
        exact q _ (by repeat' (first | exact trivial | refine ⟨Or.inl rfl, ?_⟩ | refine ⟨Or.inr rfl, ?_⟩))
        first
          | exact absurd h22 (nI_pos (by omega))
          | skip
end DRAFT5
