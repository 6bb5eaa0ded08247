/-! ===== the class: draft, reach and drop ===== -/
section DRAFT2
variable {G : tkG} {n : Nat} {T : Nat → Nat × Nat} {I : Nat → Nat → Int32} {L : Nat → Nat → Int64} {P : Nat → Nat → Option Nat}
theorem c_rPass {N np rd : Nat} {c : Nat → Nat → Nat} {R : Nat → Bool} (hD : dObj T P) (hnp : I 28 0 = nI np) (hnp4 : np ≤ 4) (hN : I 28 2 = nI N) (hN2 : N ≤ 128) (hc : ∀ p, p < np → ∀ w, w < N → I 30 (128 * p + w) = nI (c p w) ∧ c p w < 256) {Q : Option tkV → tkH → Prop} (fin : ∀ g l, tkle [some (vR 28), some (vI (tkb (rMo c N R np))), some (vI (nI rd)), none] l → tkX G mX0_reach 2 0 0 87 l [] (n, T, va_up I 33 (tkcp (I 33) (fun w => tkb (rRp c N R np w)) N), va_up L 34 g, P) Q) : ∀ (k p : Nat) (g : Nat → Int64), p + k = np → tkX G mX0_reach 2 0 0 55 [some (vR 28), some (vI (tkb (rMo c N R p))), some (vI (nI rd)), some (vI (nI p))] [] (n, T, va_up I 33 (tkcp (I 33) (fun w => tkb (rRp c N R p w)) N), va_up L 34 g, P) Q := by
  have d1 := hD.1
  intro k
  induction k with
  | zero =>
    intro p g hp
    refine tk_iload3 dX0_reach_55 ?_
    refine tk_aload0 dX0_reach_56 ?_
    refine tk_getI dX0_reach_57 fX0_61 rfl (by first | assumption | exact va_up_self _ _ _ | exact (va_up_ne _ _ (by omega)).trans (by assumption) | exact congrArg Prod.fst (va_up_self _ _ _) | exact (congrArg Prod.fst (va_up_ne _ _ (by omega))).trans (by assumption) | exact (congrFun (va_up_ne _ _ (by omega)) _).trans (by assumption) | exact (va_up_ne _ _ (by omega)).trans (va_up_self _ _ _) | exact (va_up_ne _ _ (by omega)).trans ((va_up_ne _ _ (by omega)).trans (by assumption)) | exact (congrArg Prod.fst ((va_up_ne _ _ (by omega)).trans (va_up_ne _ _ (by omega)))).trans (by assumption) | exact (congrFun ((va_up_ne _ _ (by omega)).trans (va_up_ne _ _ (by omega))) _).trans (by assumption) | (rw [va_up_self, va_up_ne _ _ (by omega)]; assumption)) ?_
    rw [va_up_ne _ _ (by omega), hnp]
    first | refine tk_icmp_geN dX0_reach_60 (by omega) (by omega) (fun h60 => ?_) (fun h60 => ?_) | refine tk_jcmp_ge dX0_reach_60 (fun h60 => ?_) (fun h60 => ?_)
    · rw [show p = np by omega]
      exact fin g _ (by repeat' (first | exact trivial | refine ⟨Or.inl rfl, ?_⟩ | refine ⟨Or.inr rfl, ?_⟩))
    · exfalso; omega
  | succ k ih =>
    intro p g hp
    refine tk_iload3 dX0_reach_55 ?_
    refine tk_aload0 dX0_reach_56 ?_
    refine tk_getI dX0_reach_57 fX0_61 rfl (by first | assumption | exact va_up_self _ _ _ | exact (va_up_ne _ _ (by omega)).trans (by assumption) | exact congrArg Prod.fst (va_up_self _ _ _) | exact (congrArg Prod.fst (va_up_ne _ _ (by omega))).trans (by assumption) | exact (congrFun (va_up_ne _ _ (by omega)) _).trans (by assumption) | exact (va_up_ne _ _ (by omega)).trans (va_up_self _ _ _) | exact (va_up_ne _ _ (by omega)).trans ((va_up_ne _ _ (by omega)).trans (by assumption)) | exact (congrArg Prod.fst ((va_up_ne _ _ (by omega)).trans (va_up_ne _ _ (by omega)))).trans (by assumption) | exact (congrFun ((va_up_ne _ _ (by omega)).trans (va_up_ne _ _ (by omega))) _).trans (by assumption) | (rw [va_up_self, va_up_ne _ _ (by omega)]; assumption)) ?_
    rw [va_up_ne _ _ (by omega), hnp]
    first | refine tk_icmp_geN dX0_reach_60 (by omega) (by omega) (fun h60 => ?_) (fun h60 => ?_) | refine tk_jcmp_ge dX0_reach_60 (fun h60 => ?_) (fun h60 => ?_)
    · exfalso; omega
    · refine tk_aload0 dX0_reach_63 ?_
      refine tk_iload3 dX0_reach_64 ?_
      refine tk_callV1q dX0_reach_65 kX0_94 (by first | assumption | exact va_up_self _ _ _ | exact (va_up_ne _ _ (by omega)).trans (by assumption) | exact congrArg Prod.fst (va_up_self _ _ _) | exact (congrArg Prod.fst (va_up_ne _ _ (by omega))).trans (by assumption) | exact (congrFun (va_up_ne _ _ (by omega)) _).trans (by assumption) | exact (va_up_ne _ _ (by omega)).trans (va_up_self _ _ _) | exact (va_up_ne _ _ (by omega)).trans ((va_up_ne _ _ (by omega)).trans (by assumption)) | exact (congrArg Prod.fst ((va_up_ne _ _ (by omega)).trans (va_up_ne _ _ (by omega)))).trans (by assumption) | exact (congrFun ((va_up_ne _ _ (by omega)).trans (va_up_ne _ _ (by omega))) _).trans (by assumption) | (rw [va_up_self, va_up_ne _ _ (by omega)]; assumption)) (c_spread (R := rRp c N R p) hD (by omega) (by rw [va_up_ne _ _ (by omega)]; exact hN) hN2 (fun w hw => by rw [va_up_ne _ _ (by omega)]; exact hc p (by omega) w hw) (fun w hw => by rw [va_up_self, tkcp_lt hw])) (Nat.le_of_ble_eq_true rfl) (by omega) ?_
      rintro rr h1 ⟨g2, rfl, rfl⟩
      dsimp only [Option.toList, List.cons_append, List.nil_append]
      rw [bx_uu, bx_uu, va_up_self, tkcp_tkcp]
      have em : rMo c N R (p + 1) = (anyB (fun j => cellA c N p (rRp c N R p) (c p j) && !rRp c N R p j) N || rMo c N R p) := Bool.or_comm _ _
      first | refine tk_jf_neB dX0_reach_68 (fun h68 => ?_) (fun h68 => ?_) | refine tk_if_ne dX0_reach_68 (fun h68 => ?_) (fun h68 => ?_)
      · refine tk_iconst dX0_reach_75 kc_iconst_1 ?_
        refine tk_goto dX0_reach_76 ?_
        refine tk_istore1 dX0_reach_80 rfl ?_
        first | refine tk_iinc3 dX0_reach_81 (kc_inc _) rfl ?_ | refine tk_iinc3 dX0_reach_81 rfl rfl ?_
        refine tk_goto dX0_reach_84 ?_
        have q := ih (p + 1) g2 (by omega)
        rw [em] at q
        first
          | (rw [h68, Bool.true_or] at q; exact tk_wk (by repeat' (first | exact trivial | refine ⟨Or.inl rfl, ?_⟩ | refine ⟨Or.inr rfl, ?_⟩)) q)
          | (rw [h68, h72, Bool.false_or] at q; exact tk_wk (by repeat' (first | exact trivial | refine ⟨Or.inl rfl, ?_⟩ | refine ⟨Or.inr rfl, ?_⟩)) q)
      · refine tk_iload1 dX0_reach_71 ?_
        first | refine tk_jf_eqB dX0_reach_72 (fun h72 => ?_) (fun h72 => ?_) | refine tk_if_eq dX0_reach_72 (fun h72 => ?_) (fun h72 => ?_)
        · refine tk_iconst dX0_reach_79 kc_iconst_0 ?_
          refine tk_istore1 dX0_reach_80 rfl ?_
          first | refine tk_iinc3 dX0_reach_81 (kc_inc _) rfl ?_ | refine tk_iinc3 dX0_reach_81 rfl rfl ?_
          refine tk_goto dX0_reach_84 ?_
          have q := ih (p + 1) g2 (by omega)
          rw [em] at q
          first
            | (rw [h68, Bool.true_or] at q; exact tk_wk (by repeat' (first | exact trivial | refine ⟨Or.inl rfl, ?_⟩ | refine ⟨Or.inr rfl, ?_⟩)) q)
            | (rw [h68, h72, Bool.false_or] at q; exact tk_wk (by repeat' (first | exact trivial | refine ⟨Or.inl rfl, ?_⟩ | refine ⟨Or.inr rfl, ?_⟩)) q)
        · refine tk_iconst dX0_reach_75 kc_iconst_1 ?_
          refine tk_goto dX0_reach_76 ?_
          refine tk_istore1 dX0_reach_80 rfl ?_
          first | refine tk_iinc3 dX0_reach_81 (kc_inc _) rfl ?_ | refine tk_iinc3 dX0_reach_81 rfl rfl ?_
          refine tk_goto dX0_reach_84 ?_
          have q := ih (p + 1) g2 (by omega)
          rw [em] at q
          first
            | (rw [h68, Bool.true_or] at q; exact tk_wk (by repeat' (first | exact trivial | refine ⟨Or.inl rfl, ?_⟩ | refine ⟨Or.inr rfl, ?_⟩)) q)
            | (rw [h68, h72, Bool.false_or] at q; exact tk_wk (by repeat' (first | exact trivial | refine ⟨Or.inl rfl, ?_⟩ | refine ⟨Or.inr rfl, ?_⟩)) q)
theorem c_reach {N np r0 : Nat} {c : Nat → Nat → Nat} (hD : dObj T P) (hnp : I 28 0 = nI np) (hnp4 : np ≤ 4) (hN : I 28 2 = nI N) (hN2 : N ≤ 128) (hr : I 28 3 = nI r0) (hr0 : r0 < N) (hc : ∀ p, p < np → ∀ w, w < N → I 30 (128 * p + w) = nI (c p w) ∧ c p w < 256) : tkM G mX0_reach 2 0 0 [vR 28] (n, T, I, L, P) (fun r h => ∃ (R : Nat → Bool) (g : Nat → Int64), r = none ∧ h = (n, T, va_up I 33 (tkcp (I 33) (fun w => tkb (R w)) N), va_up L 34 g, P) ∧ RCH N r0 np c R) := by
  have hD' := hD
  obtain ⟨d1, d2, d3, d4, d5, d6, d7, d8, d9, d10, d11, d12, d13, d14, d15⟩ := hD'
  have ends : ∀ (R : Nat → Bool) (g : Nat → Int64), R r0 = true → (∀ S : Nat → Bool, S r0 = true → CLS N np c S → ∀ w, w < N → R w = true → S w = true) → CLS N np c R → tkX G mX0_reach 2 0 0 93 [none, none, none, none] [] (n, T, va_up I 33 (tkcp (I 33) (fun w => tkb (R w)) N), va_up L 34 g, P) (fun r h => ∃ (R : Nat → Bool) (g : Nat → Int64), r = none ∧ h = (n, T, va_up I 33 (tkcp (I 33) (fun w => tkb (R w)) N), va_up L 34 g, P) ∧ RCH N r0 np c R) := by
    intro R g i1 i2 i3
    refine tk_return dX0_reach_93 rfl ?_
    exact ⟨R, g, rfl, rfl, i1, i3, i2⟩
  have loop : ∀ (m rd : Nat) (R : Nat → Bool) (gw : Bool) (g : Nat → Int64), rd + m = N → R r0 = true → (∀ S : Nat → Bool, S r0 = true → CLS N np c S → ∀ w, w < N → R w = true → S w = true) → (gw = false → CLS N np c R) → (gw = true → rd + 1 ≤ cntR R N) → tkX G mX0_reach 2 0 0 39 [some (vR 28), some (vI (tkb gw)), some (vI (nI rd)), none] [] (n, T, va_up I 33 (tkcp (I 33) (fun w => tkb (R w)) N), va_up L 34 g, P) (fun r h => ∃ (R : Nat → Bool) (g : Nat → Int64), r = none ∧ h = (n, T, va_up I 33 (tkcp (I 33) (fun w => tkb (R w)) N), va_up L 34 g, P) ∧ RCH N r0 np c R) := by
    intro m
    induction m with
    | zero =>
      intro rd R gw g hm i1 i2 i3 i4
      refine tk_iload2 dX0_reach_39 ?_
      refine tk_aload0 dX0_reach_40 ?_
      refine tk_getI dX0_reach_41 fX0_52 rfl (by first | assumption | exact va_up_self _ _ _ | exact (va_up_ne _ _ (by omega)).trans (by assumption) | exact congrArg Prod.fst (va_up_self _ _ _) | exact (congrArg Prod.fst (va_up_ne _ _ (by omega))).trans (by assumption) | exact (congrFun (va_up_ne _ _ (by omega)) _).trans (by assumption) | exact (va_up_ne _ _ (by omega)).trans (va_up_self _ _ _) | exact (va_up_ne _ _ (by omega)).trans ((va_up_ne _ _ (by omega)).trans (by assumption)) | exact (congrArg Prod.fst ((va_up_ne _ _ (by omega)).trans (va_up_ne _ _ (by omega)))).trans (by assumption) | exact (congrFun ((va_up_ne _ _ (by omega)).trans (va_up_ne _ _ (by omega))) _).trans (by assumption) | (rw [va_up_self, va_up_ne _ _ (by omega)]; assumption)) ?_
      rw [va_up_ne _ _ (by omega), hN]
      first | refine tk_icmp_geN dX0_reach_44 (by omega) (by omega) (fun h44 => ?_) (fun h44 => ?_) | refine tk_jcmp_ge dX0_reach_44 (fun h44 => ?_) (fun h44 => ?_)
      · refine tk_wk (by repeat' (first | exact trivial | refine ⟨Or.inl rfl, ?_⟩ | refine ⟨Or.inr rfl, ?_⟩)) (ends R g i1 i2 ?_)
        cases e : gw with
        | false => exact i3 e
        | true => have := i4 e; have := cntR_le R N; exfalso; omega
      · exfalso; omega
    | succ m ih =>
      intro rd R gw g hm i1 i2 i3 i4
      refine tk_iload2 dX0_reach_39 ?_
      refine tk_aload0 dX0_reach_40 ?_
      refine tk_getI dX0_reach_41 fX0_52 rfl (by first | assumption | exact va_up_self _ _ _ | exact (va_up_ne _ _ (by omega)).trans (by assumption) | exact congrArg Prod.fst (va_up_self _ _ _) | exact (congrArg Prod.fst (va_up_ne _ _ (by omega))).trans (by assumption) | exact (congrFun (va_up_ne _ _ (by omega)) _).trans (by assumption) | exact (va_up_ne _ _ (by omega)).trans (va_up_self _ _ _) | exact (va_up_ne _ _ (by omega)).trans ((va_up_ne _ _ (by omega)).trans (by assumption)) | exact (congrArg Prod.fst ((va_up_ne _ _ (by omega)).trans (va_up_ne _ _ (by omega)))).trans (by assumption) | exact (congrFun ((va_up_ne _ _ (by omega)).trans (va_up_ne _ _ (by omega))) _).trans (by assumption) | (rw [va_up_self, va_up_ne _ _ (by omega)]; assumption)) ?_
      rw [va_up_ne _ _ (by omega), hN]
      first | refine tk_icmp_geN dX0_reach_44 (by omega) (by omega) (fun h44 => ?_) (fun h44 => ?_) | refine tk_jcmp_ge dX0_reach_44 (fun h44 => ?_) (fun h44 => ?_)
      · first
          | (exfalso; omega)
          | exact tk_wk (by repeat' (first | exact trivial | refine ⟨Or.inl rfl, ?_⟩ | refine ⟨Or.inr rfl, ?_⟩)) (ends R g i1 i2 (i3 h48))
      · refine tk_iload1 dX0_reach_47 ?_
        first | refine tk_jf_eqB dX0_reach_48 (fun h48 => ?_) (fun h48 => ?_) | refine tk_if_eq dX0_reach_48 (fun h48 => ?_) (fun h48 => ?_)
        · first
            | (exfalso; omega)
            | exact tk_wk (by repeat' (first | exact trivial | refine ⟨Or.inl rfl, ?_⟩ | refine ⟨Or.inr rfl, ?_⟩)) (ends R g i1 i2 (i3 h48))
        · refine tk_iconst dX0_reach_51 kc_iconst_0 ?_
          refine tk_istore1 dX0_reach_52 rfl ?_
          refine tk_iconst dX0_reach_53 kc_iconst_0 ?_
          refine tk_istore3 dX0_reach_54 rfl ?_
          refine tk_wk (by repeat' (first | exact trivial | refine ⟨Or.inl rfl, ?_⟩ | refine ⟨Or.inr rfl, ?_⟩)) (c_rPass hD hnp hnp4 hN hN2 hc (R := R) (rd := rd) (fun g2 l hl => ?_) np 0 g (by omega))
          refine tk_wk hl ?_
          first | refine tk_iinc2 dX0_reach_87 (kc_inc _) rfl ?_ | refine tk_iinc2 dX0_reach_87 rfl rfl ?_
          refine tk_goto dX0_reach_90 ?_
          refine tk_wk (by repeat' (first | exact trivial | refine ⟨Or.inl rfl, ?_⟩ | refine ⟨Or.inr rfl, ?_⟩)) (ih (rd + 1) (rRp c N R np) (rMo c N R np) g2 (by omega) (rRp_mono i1 np) (fun S s1 s2 => rRp_sub s2 (i2 S s1 s2) np (Nat.le_refl _)) (fun e p hp u hu w hw ce ru => ?_) (fun e => ?_))
          · have hx := rMo_f np e np (Nat.le_refl _)
            rw [hx w hw]
            rw [hx u hu] at ru
            exact rMo_cls e p hp u hu w hw ce ru
          · have := rMo_t np e
            have := i4 h48
            omega
  refine tkM.of (ls := [some _, none, none, none]) (by decide +kernel) (by decide +kernel) (Nat.le_of_ble_eq_true rfl) rfl ?_
  refine tk_iconst dX0_reach_0 kc_iconst_0 ?_
  refine tk_istore1 dX0_reach_1 rfl ?_
  refine tk_fr 0 N (fun i => [some (vR 28), some (vI (nI i)), none, none]) (fun i => (n, T, va_up I 33 (tkcp (I 33) (fun w => tkb (decide (w = r0))) i), L, P)) (by omega) (by repeat' (first | exact trivial | refine ⟨Or.inl rfl, ?_⟩ | refine ⟨Or.inr rfl, ?_⟩)) (by rw [tkcp_0, tk_up_id]) ?_ ?_
  · refine tk_iload1 dX0_reach_2 ?_
    refine tk_aload0 dX0_reach_3 ?_
    refine tk_getI dX0_reach_4 fX0_52 rfl (by first | assumption | exact va_up_self _ _ _ | exact (va_up_ne _ _ (by omega)).trans (by assumption) | exact congrArg Prod.fst (va_up_self _ _ _) | exact (congrArg Prod.fst (va_up_ne _ _ (by omega))).trans (by assumption) | exact (congrFun (va_up_ne _ _ (by omega)) _).trans (by assumption) | exact (va_up_ne _ _ (by omega)).trans (va_up_self _ _ _) | exact (va_up_ne _ _ (by omega)).trans ((va_up_ne _ _ (by omega)).trans (by assumption)) | exact (congrArg Prod.fst ((va_up_ne _ _ (by omega)).trans (va_up_ne _ _ (by omega)))).trans (by assumption) | exact (congrFun ((va_up_ne _ _ (by omega)).trans (va_up_ne _ _ (by omega))) _).trans (by assumption) | (rw [va_up_self, va_up_ne _ _ (by omega)]; assumption)) ?_
    rw [va_up_ne _ _ (by omega), hN]
    first | refine tk_icmp_geN dX0_reach_7 (by omega) (by omega) (fun h7 => ?_) (fun h7 => ?_) | refine tk_jcmp_ge dX0_reach_7 (fun h7 => ?_) (fun h7 => ?_)
    · refine tk_iconst dX0_reach_35 kc_iconst_1 ?_
      refine tk_istore1 dX0_reach_36 rfl ?_
      refine tk_iconst dX0_reach_37 kc_iconst_0 ?_
      refine tk_istore2 dX0_reach_38 rfl ?_
      have q := loop N 0 (fun w => decide (w = r0)) true (L 34) (by omega) (decide_eq_true rfl) (fun S s1 _ w _ e => by rw [of_decide_eq_true e]; exact s1) (fun e => by cases e) (fun _ => ?_)
      · rw [tk_up_id] at q
        exact tk_wk (by repeat' (first | exact trivial | refine ⟨Or.inl rfl, ?_⟩ | refine ⟨Or.inr rfl, ?_⟩)) q
      · have h0 : cntR (fun w => decide (w = r0)) r0 < cntR (fun w => decide (w = r0)) N := cntR_lt_of hr0 (decide_eq_true rfl)
        omega
    · exfalso; omega
  · intro i _ hi k
    refine tk_iload1 dX0_reach_2 ?_
    refine tk_aload0 dX0_reach_3 ?_
    refine tk_getI dX0_reach_4 fX0_52 rfl (by first | assumption | exact va_up_self _ _ _ | exact (va_up_ne _ _ (by omega)).trans (by assumption) | exact congrArg Prod.fst (va_up_self _ _ _) | exact (congrArg Prod.fst (va_up_ne _ _ (by omega))).trans (by assumption) | exact (congrFun (va_up_ne _ _ (by omega)) _).trans (by assumption) | exact (va_up_ne _ _ (by omega)).trans (va_up_self _ _ _) | exact (va_up_ne _ _ (by omega)).trans ((va_up_ne _ _ (by omega)).trans (by assumption)) | exact (congrArg Prod.fst ((va_up_ne _ _ (by omega)).trans (va_up_ne _ _ (by omega)))).trans (by assumption) | exact (congrFun ((va_up_ne _ _ (by omega)).trans (va_up_ne _ _ (by omega))) _).trans (by assumption) | (rw [va_up_self, va_up_ne _ _ (by omega)]; assumption)) ?_
    rw [va_up_ne _ _ (by omega), hN]
    first | refine tk_icmp_geN dX0_reach_7 (by omega) (by omega) (fun h7 => ?_) (fun h7 => ?_) | refine tk_jcmp_ge dX0_reach_7 (fun h7 => ?_) (fun h7 => ?_)
    · exfalso; omega
    · refine tk_aload0 dX0_reach_10 ?_
      refine tk_getP dX0_reach_11 fX0_24 rfl (by first | assumption | exact va_up_self _ _ _ | exact (va_up_ne _ _ (by omega)).trans (by assumption) | exact congrArg Prod.fst (va_up_self _ _ _) | exact (congrArg Prod.fst (va_up_ne _ _ (by omega))).trans (by assumption) | exact (congrFun (va_up_ne _ _ (by omega)) _).trans (by assumption) | exact (va_up_ne _ _ (by omega)).trans (va_up_self _ _ _) | exact (va_up_ne _ _ (by omega)).trans ((va_up_ne _ _ (by omega)).trans (by assumption)) | exact (congrArg Prod.fst ((va_up_ne _ _ (by omega)).trans (va_up_ne _ _ (by omega)))).trans (by assumption) | exact (congrFun ((va_up_ne _ _ (by omega)).trans (va_up_ne _ _ (by omega))) _).trans (by assumption) | (rw [va_up_self, va_up_ne _ _ (by omega)]; assumption)) (by first | assumption | exact va_up_self _ _ _ | exact (va_up_ne _ _ (by omega)).trans (by assumption) | exact congrArg Prod.fst (va_up_self _ _ _) | exact (congrArg Prod.fst (va_up_ne _ _ (by omega))).trans (by assumption) | exact (congrFun (va_up_ne _ _ (by omega)) _).trans (by assumption) | exact (va_up_ne _ _ (by omega)).trans (va_up_self _ _ _) | exact (va_up_ne _ _ (by omega)).trans ((va_up_ne _ _ (by omega)).trans (by assumption)) | exact (congrArg Prod.fst ((va_up_ne _ _ (by omega)).trans (va_up_ne _ _ (by omega)))).trans (by assumption) | exact (congrFun ((va_up_ne _ _ (by omega)).trans (va_up_ne _ _ (by omega))) _).trans (by assumption) | (rw [va_up_self, va_up_ne _ _ (by omega)]; assumption)) ?_
      refine tk_iload1 dX0_reach_14 ?_
      refine tk_iload1 dX0_reach_15 ?_
      refine tk_aload0 dX0_reach_16 ?_
      refine tk_getI dX0_reach_17 fX0_56 rfl (by first | assumption | exact va_up_self _ _ _ | exact (va_up_ne _ _ (by omega)).trans (by assumption) | exact congrArg Prod.fst (va_up_self _ _ _) | exact (congrArg Prod.fst (va_up_ne _ _ (by omega))).trans (by assumption) | exact (congrFun (va_up_ne _ _ (by omega)) _).trans (by assumption) | exact (va_up_ne _ _ (by omega)).trans (va_up_self _ _ _) | exact (va_up_ne _ _ (by omega)).trans ((va_up_ne _ _ (by omega)).trans (by assumption)) | exact (congrArg Prod.fst ((va_up_ne _ _ (by omega)).trans (va_up_ne _ _ (by omega)))).trans (by assumption) | exact (congrFun ((va_up_ne _ _ (by omega)).trans (va_up_ne _ _ (by omega))) _).trans (by assumption) | (rw [va_up_self, va_up_ne _ _ (by omega)]; assumption)) ?_
      rw [va_up_ne _ _ (by omega), hr]
      first | refine tk_icmp_neN dX0_reach_20 (by omega) (by omega) (fun h20 => ?_) (fun h20 => ?_) | refine tk_icmp_ne dX0_reach_20 (fun h20 => ?_) (fun h20 => ?_)
      · refine tk_iconst dX0_reach_27 kc_iconst_0 ?_
        refine tk_iast dX0_reach_28 (by first | assumption | exact va_up_self _ _ _ | exact (va_up_ne _ _ (by omega)).trans (by assumption) | exact congrArg Prod.fst (va_up_self _ _ _) | exact (congrArg Prod.fst (va_up_ne _ _ (by omega))).trans (by assumption) | exact (congrFun (va_up_ne _ _ (by omega)) _).trans (by assumption) | exact (va_up_ne _ _ (by omega)).trans (va_up_self _ _ _) | exact (va_up_ne _ _ (by omega)).trans ((va_up_ne _ _ (by omega)).trans (by assumption)) | exact (congrArg Prod.fst ((va_up_ne _ _ (by omega)).trans (va_up_ne _ _ (by omega)))).trans (by assumption) | exact (congrFun ((va_up_ne _ _ (by omega)).trans (va_up_ne _ _ (by omega))) _).trans (by assumption) | (rw [va_up_self, va_up_ne _ _ (by omega)]; assumption)) (by omega) (by omega) ?_
        rw [bx_uu, va_up_self]
        first
          | rw [show nI 1 = (fun w => tkb (decide (w = r0))) i by show nI 1 = tkb (decide (i = r0)); rw [decide_eq_true h20]; rfl, tkcp_s (I 33) (fun w => tkb (decide (w = r0)))]
          | rw [show nI 0 = (fun w => tkb (decide (w = r0))) i by show nI 0 = tkb (decide (i = r0)); rw [decide_eq_false h20]; rfl, tkcp_s (I 33) (fun w => tkb (decide (w = r0)))]
        first | refine tk_iinc1 dX0_reach_29 (kc_inc _) rfl ?_ | refine tk_iinc1 dX0_reach_29 rfl rfl ?_
        refine tk_goto dX0_reach_32 ?_
        exact k _ (by repeat' (first | exact trivial | refine ⟨Or.inl rfl, ?_⟩ | refine ⟨Or.inr rfl, ?_⟩))
      · refine tk_iconst dX0_reach_23 kc_iconst_1 ?_
        refine tk_goto dX0_reach_24 ?_
        refine tk_iast dX0_reach_28 (by first | assumption | exact va_up_self _ _ _ | exact (va_up_ne _ _ (by omega)).trans (by assumption) | exact congrArg Prod.fst (va_up_self _ _ _) | exact (congrArg Prod.fst (va_up_ne _ _ (by omega))).trans (by assumption) | exact (congrFun (va_up_ne _ _ (by omega)) _).trans (by assumption) | exact (va_up_ne _ _ (by omega)).trans (va_up_self _ _ _) | exact (va_up_ne _ _ (by omega)).trans ((va_up_ne _ _ (by omega)).trans (by assumption)) | exact (congrArg Prod.fst ((va_up_ne _ _ (by omega)).trans (va_up_ne _ _ (by omega)))).trans (by assumption) | exact (congrFun ((va_up_ne _ _ (by omega)).trans (va_up_ne _ _ (by omega))) _).trans (by assumption) | (rw [va_up_self, va_up_ne _ _ (by omega)]; assumption)) (by omega) (by omega) ?_
        rw [bx_uu, va_up_self]
        first
          | rw [show nI 1 = (fun w => tkb (decide (w = r0))) i by show nI 1 = tkb (decide (i = r0)); rw [decide_eq_true h20]; rfl, tkcp_s (I 33) (fun w => tkb (decide (w = r0)))]
          | rw [show nI 0 = (fun w => tkb (decide (w = r0))) i by show nI 0 = tkb (decide (i = r0)); rw [decide_eq_false h20]; rfl, tkcp_s (I 33) (fun w => tkb (decide (w = r0)))]
        first | refine tk_iinc1 dX0_reach_29 (kc_inc _) rfl ?_ | refine tk_iinc1 dX0_reach_29 rfl rfl ?_
        refine tk_goto dX0_reach_32 ?_
        exact k _ (by repeat' (first | exact trivial | refine ⟨Or.inl rfl, ?_⟩ | refine ⟨Or.inr rfl, ?_⟩))
end DRAFT2
