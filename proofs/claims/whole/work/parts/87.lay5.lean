/-! ===== the class: draft, a telling laid, the walk ===== -/
def DE (I I' : Nat → Nat → Int32) (np nf N : Nat) (F : Nat → Int32) (co : Nat → Nat) (lb : Nat → Nat → Nat) : Prop := (∀ a, ¬ a = 28 → ¬ a = 29 → ¬ a = 30 → I' a = I a) ∧ I' 28 0 = nI np ∧ I' 28 1 = nI nf ∧ I' 28 2 = nI N ∧ ∀ j, j < N → I' 29 j = F (co j) ∧ ∀ p, p < np → I' 30 (128 * p + j) = nI (lb p j)
theorem tbne {M : Int64} {r w : Nat} (h : tb M w = false) (b : tb M r = true) : ¬ r = w := by
  intro e
  rw [e, h] at b
  cases b
section DE_
variable {I I' I4 I5 : Nat → Nat → Int32} {np nf N x : Nat} {F : Nat → Int32} {co v : Nat → Nat} {lb : Nat → Nat → Nat}
theorem DE.add (h : DE I I' np nf N F co lb) (hA : DAD I' I4 np N x v) (hN : N < 128) (hx : F (co N) = nI x) (hv : ∀ p, p < np → v p = lb p N) : DE I I4 np nf (N + 1) F co lb ∧ I4 28 3 = I' 28 3 := by
  obtain ⟨h1, h2, h3, h4, h5⟩ := h
  obtain ⟨a1, a2, a3, a4, a5, a6, a7⟩ := hA
  refine ⟨⟨fun a b1 b2 b3 => (a1 a b1 b2 b3).trans (h1 a b1 b2 b3), (a3 0 (by omega)).trans h2, (a3 1 (by omega)).trans h3, a2, fun j hj => ⟨?_, fun p hp => ?_⟩⟩, a3 3 (by omega)⟩
  · by_cases e : j = N
    · subst e; rw [a4, hx]
    · rw [a5 j e]; exact (h5 j (by omega)).1
  · by_cases e : j = N
    · subst e; rw [a6 p hp, hv p hp]
    · rw [a7 p j (by omega) e]; exact (h5 j (by omega)).2 p hp
theorem DE.told {pr mt : Int32} {y : Nat} (h : DE I I' np nf N F co lb) (hA : DAD I' I4 np N x v) (hT : DTL I4 I5 np N (fun p => v p + tAd pr mt y p)) (hN : N < 128) (hx : F (co N) = nI x) (hv : ∀ p, p < np → v p + tAd pr mt y p = lb p N) : DE I I5 np nf (N + 1) F co lb ∧ I5 28 3 = I' 28 3 := by
  obtain ⟨h1, h2, h3, h4, h5⟩ := h
  obtain ⟨a1, a2, a3, a4, a5, a6, a7⟩ := hA
  obtain ⟨t1, t2, t3⟩ := hT
  have e28 : I5 28 = I4 28 := t1 28 (by omega)
  have e29 : I5 29 = I4 29 := t1 29 (by omega)
  refine ⟨⟨fun a b1 b2 b3 => (t1 a b3).trans ((a1 a b1 b2 b3).trans (h1 a b1 b2 b3)), by rw [e28]; exact (a3 0 (by omega)).trans h2, by rw [e28]; exact (a3 1 (by omega)).trans h3, by rw [e28]; exact a2, fun j hj => ⟨?_, fun p hp => ?_⟩⟩, by rw [e28]; exact a3 3 (by omega)⟩
  · rw [e29]
    by_cases e : j = N
    · subst e; rw [a4, hx]
    · rw [a5 j e]; exact (h5 j (by omega)).1
  · by_cases e : j = N
    · subst e; rw [t2 p hp]; exact congrArg nI (hv p hp)
    · rw [t3 p j (by omega) (Or.inl e), a7 p j (by omega) e]; exact (h5 j (by omega)).2 p hp
theorem DE.real {z : Int32} (h : DE I I' np nf N F co lb) : DE I (va_up I' 28 (va_up (I' 28) 3 z)) np nf N F co lb := by
  obtain ⟨h1, h2, h3, h4, h5⟩ := h
  refine ⟨fun a b1 b2 b3 => by rw [va_up_ne _ _ b1]; exact h1 a b1 b2 b3, ?_, ?_, ?_, fun j hj => ⟨?_, fun p hp => ?_⟩⟩
  · rw [va_up_self, va_up_ne _ _ (by omega)]; exact h2
  · rw [va_up_self, va_up_ne _ _ (by omega)]; exact h3
  · rw [va_up_self, va_up_ne _ _ (by omega)]; exact h4
  · rw [va_up_ne _ _ (by omega)]; exact (h5 j hj).1
  · rw [va_up_ne _ _ (by omega)]; exact (h5 j hj).2 p hp
end DE_
/-- the label of a told world -/
noncomputable def tLb (ce : Nat → Int32) (W : Nat) (co wa : Nat → Nat) (pr mt : Int32) (p j : Nat) : Nat := 4 * cLs ce W p (co j) + if wa j = 0 then 0 else tAd pr mt (wa j - 1) p
section LAY5
variable {G : tkG} {n : Nat} {T : Nat → Nat × Nat} {I : Nat → Nat → Int32} {L : Nat → Nat → Int64} {P : Nat → Nat → Option Nat}
def DTQ (n : Nat) (T : Nat → Nat × Nat) (I : Nat → Nat → Int32) (L : Nat → Nat → Int64) (P : Nat → Nat → Option Nat) (np nf W r : Nat) (F ce : Nat → Int32) (kw : Nat → Bool) (co wa : Nat → Nat) (pr mt : Int32) : Option tkV → tkH → Prop := fun rv h => ∃ I', rv = none ∧ h = (n, T, I', L, P) ∧ DE I I' np nf (W + cntR kw W) F co (tLb ce W co wa pr mt) ∧ (kw r = true → I' 28 3 = nI (r + cntR kw r + 1))
theorem c_layTelling {a np nf W r : Nat} {F ce : Nat → Int32} {M S : Int64} {co wa : Nat → Nat} {pr mt : Int32} (hD : dObj T P) (hw : cWld n T I L P a np nf W r F ce) (hW64 : W ≤ 64) (hnp4 : np ≤ 4) (hnf4 : nf ≤ 4) (hr : r < W) (hF : ∀ w, w < W → ∃ x, F w = nI x ∧ x < 2 ^ nf) (h2 : TWO W (tb M) (tb S) co wa) : tkM G mX0_layTelling 3 0 0 [vR 28, vR a, vI pr, vI mt, vL S, vL M] (n, T, I, L, P) (DTQ n T I L P np nf W r F ce (tb M) co wa pr mt) := by
  have hD' := hD
  obtain ⟨d1, d2, d3, d4, d5, d6, d7, d8, d9, d10, d11, d12, d13, d14, d15⟩ := hD'
  have hta : (T a).1 = 9 := hw.2.1
  have hfa : fz n a := hw.1
  have ha28 : ¬ a = 28 ∧ ¬ a = 29 ∧ ¬ a = 30 := by have := hfa.1; omega
  have loop : ∀ (k w : Nat) (I3 : Nat → Nat → Int32), w + k = W → DE I I3 np nf (w + cntR (tb M) w) F co (tLb ce W co wa pr mt) → (r < w → tb M r = true → I3 28 3 = nI (r + cntR (tb M) r + 1)) → tkX G mX0_layTelling 3 0 0 8 [some (vR 28), some (vR a), some (vI pr), some (vI mt), some (vL S), none, some (vL M), none, some (vI (nI w))] [] (n, T, I3, L, P) (DTQ n T I L P np nf W r F ce (tb M) co wa pr mt) := by
    intro k
    induction k with
    | zero =>
      intro w I3 hp hI hR
      have hWw : I3 a 2 = nI W := by rw [hI.1 a ha28.1 ha28.2.1 ha28.2.2]; exact hw.2.2.2.2.1
      refine tk_iload8 dX0_layTelling_8 ?_
      refine tk_aload1 dX0_layTelling_10 ?_
      refine tk_getI dX0_layTelling_11 fX0_38 rfl (by first | assumption | exact va_up_self _ _ _ | exact (va_up_ne _ _ (by omega)).trans (by assumption) | exact congrArg Prod.fst (va_up_self _ _ _) | exact (congrArg Prod.fst (va_up_ne _ _ (by omega))).trans (by assumption) | exact (congrFun (va_up_ne _ _ (by omega)) _).trans (by assumption) | exact (va_up_ne _ _ (by omega)).trans (va_up_self _ _ _) | exact (va_up_ne _ _ (by omega)).trans ((va_up_ne _ _ (by omega)).trans (by assumption)) | exact (congrArg Prod.fst ((va_up_ne _ _ (by omega)).trans (va_up_ne _ _ (by omega)))).trans (by assumption) | exact (congrFun ((va_up_ne _ _ (by omega)).trans (va_up_ne _ _ (by omega))) _).trans (by assumption) | (rw [va_up_self, va_up_ne _ _ (by omega)]; assumption)) ?_
      rw [hWw]
      first | refine tk_icmp_geN dX0_layTelling_14 (by omega) (by omega) (fun h14 => ?_) (fun h14 => ?_) | refine tk_jcmp_ge dX0_layTelling_14 (fun h14 => ?_) (fun h14 => ?_)
      · refine tk_return dX0_layTelling_94 rfl ?_
        obtain rfl : w = W := by omega
        exact ⟨_, rfl, rfl, hI, hR hr⟩
      · exfalso; omega
    | succ k ih =>
      intro w I3 hp hI hR
      have hWw : I3 a 2 = nI W := by rw [hI.1 a ha28.1 ha28.2.1 ha28.2.2]; exact hw.2.2.2.2.1
      obtain ⟨x, hx1, hx2⟩ := hF w (by omega)
      obtain ⟨t1, t2, t3⟩ := h2 w (by omega)
      have hcw := cntR_le (tb M) w
      have hw3 : cWld n T I3 L P a np nf W r F ce := hw.ex ⟨Nat.le_refl _, fun b hb => ⟨rfl, by have := hb.1; exact hI.1 b (by omega) (by omega) (by omega), rfl, rfl⟩⟩
      refine tk_iload8 dX0_layTelling_8 ?_
      refine tk_aload1 dX0_layTelling_10 ?_
      refine tk_getI dX0_layTelling_11 fX0_38 rfl (by first | assumption | exact va_up_self _ _ _ | exact (va_up_ne _ _ (by omega)).trans (by assumption) | exact congrArg Prod.fst (va_up_self _ _ _) | exact (congrArg Prod.fst (va_up_ne _ _ (by omega))).trans (by assumption) | exact (congrFun (va_up_ne _ _ (by omega)) _).trans (by assumption) | exact (va_up_ne _ _ (by omega)).trans (va_up_self _ _ _) | exact (va_up_ne _ _ (by omega)).trans ((va_up_ne _ _ (by omega)).trans (by assumption)) | exact (congrArg Prod.fst ((va_up_ne _ _ (by omega)).trans (va_up_ne _ _ (by omega)))).trans (by assumption) | exact (congrFun ((va_up_ne _ _ (by omega)).trans (va_up_ne _ _ (by omega))) _).trans (by assumption) | (rw [va_up_self, va_up_ne _ _ (by omega)]; assumption)) ?_
      rw [hWw]
      first | refine tk_icmp_geN dX0_layTelling_14 (by omega) (by omega) (fun h14 => ?_) (fun h14 => ?_) | refine tk_jcmp_ge dX0_layTelling_14 (fun h14 => ?_) (fun h14 => ?_)
      · exfalso; omega
      · refine tk_aload0 dX0_layTelling_17 ?_
        refine tk_aload1 dX0_layTelling_18 ?_
        refine tk_iload8 dX0_layTelling_19 ?_
        refine tk_callV2q dX0_layTelling_21 kX0_48 (by first | assumption | exact va_up_self _ _ _ | exact (va_up_ne _ _ (by omega)).trans (by assumption) | exact congrArg Prod.fst (va_up_self _ _ _) | exact (congrArg Prod.fst (va_up_ne _ _ (by omega))).trans (by assumption) | exact (congrFun (va_up_ne _ _ (by omega)) _).trans (by assumption) | exact (va_up_ne _ _ (by omega)).trans (va_up_self _ _ _) | exact (va_up_ne _ _ (by omega)).trans ((va_up_ne _ _ (by omega)).trans (by assumption)) | exact (congrArg Prod.fst ((va_up_ne _ _ (by omega)).trans (va_up_ne _ _ (by omega)))).trans (by assumption) | exact (congrFun ((va_up_ne _ _ (by omega)).trans (va_up_ne _ _ (by omega))) _).trans (by assumption) | (rw [va_up_self, va_up_ne _ _ (by omega)]; assumption)) (c_add hD hw3 hW64 hnp4 hnf4 (show w < W by omega) hx1 hx2 hI.2.1 hI.2.2.2.1 (by omega)) (Nat.le_of_ble_eq_true rfl) (by omega) ?_
        rintro rr h1 ⟨I4, rfl, rfl, hA⟩
        dsimp only [Option.toList, List.nil_append]
        obtain ⟨hE, hE3⟩ := hI.add hA (by omega) (by rw [t1]; exact hx1) (fun p _ => by unfold tLb; rw [t1, t2, if_pos rfl, Nat.add_zero])
        have hw4 : cWld n T I4 L P a np nf W r F ce := hw.ex ⟨Nat.le_refl _, fun b hb => ⟨rfl, by have := hb.1; exact hE.1 b (by omega) (by omega) (by omega), rfl, rfl⟩⟩
        refine tk_iload8 dX0_layTelling_24 ?_
        refine tk_lload6 dX0_layTelling_26 ?_
        refine tk_callSN2z dX0_layTelling_28 kX0_44 (c_isIn (k := w) (by omega) M) (Nat.le_of_ble_eq_true rfl) (by omega) ?_
        first | refine tk_jf_eqB dX0_layTelling_31 (fun h31 => ?_) (fun h31 => ?_) | refine tk_if_eq dX0_layTelling_31 (fun h31 => ?_) (fun h31 => ?_)
        · first | refine tk_iinc8 dX0_layTelling_88 (kc_inc _) rfl ?_ | refine tk_iinc8 dX0_layTelling_88 rfl rfl ?_
          refine tk_goto dX0_layTelling_91 ?_
          first
            | exact ih (w + 1) _ (by omega) (by rw [cntR_f h31, show w + 1 + cntR (tb M) w = w + cntR (tb M) w + 1 by omega]; exact hE) (fun a b => (by rw [hE3]; exact hR (by have := tbne h31 b; omega) b))
            | (refine ih (w + 1) _ (by omega) (by rw [cntR_t h31, show w + 1 + (cntR (tb M) w + 1) = w + cntR (tb M) w + 1 + 1 by omega]; exact hE2.real) (fun a b => ?_); rw [va_up_self, va_up_self]; first | (rw [h69, Nat.add_sub_cancel]; done) | (rw [hE4, hE3]; exact hR (by omega) b))
        · refine tk_aload0 dX0_layTelling_34 ?_
          refine tk_aload1 dX0_layTelling_35 ?_
          refine tk_iload8 dX0_layTelling_36 ?_
          refine tk_callV2q dX0_layTelling_38 kX0_48 (by first | assumption | exact va_up_self _ _ _ | exact (va_up_ne _ _ (by omega)).trans (by assumption) | exact congrArg Prod.fst (va_up_self _ _ _) | exact (congrArg Prod.fst (va_up_ne _ _ (by omega))).trans (by assumption) | exact (congrFun (va_up_ne _ _ (by omega)) _).trans (by assumption) | exact (va_up_ne _ _ (by omega)).trans (va_up_self _ _ _) | exact (va_up_ne _ _ (by omega)).trans ((va_up_ne _ _ (by omega)).trans (by assumption)) | exact (congrArg Prod.fst ((va_up_ne _ _ (by omega)).trans (va_up_ne _ _ (by omega)))).trans (by assumption) | exact (congrFun ((va_up_ne _ _ (by omega)).trans (va_up_ne _ _ (by omega))) _).trans (by assumption) | (rw [va_up_self, va_up_ne _ _ (by omega)]; assumption)) (c_add hD hw4 hW64 hnp4 hnf4 (show w < W by omega) hx1 hx2 hE.2.1 hE.2.2.2.1 (by omega)) (Nat.le_of_ble_eq_true rfl) (by omega) ?_
          rintro rr h1 ⟨I5, rfl, rfl, hA2⟩
          dsimp only [Option.toList, List.nil_append]
          refine tk_aload0 dX0_layTelling_41 ?_
          refine tk_iload2 dX0_layTelling_42 ?_
          refine tk_iload3 dX0_layTelling_43 ?_
          refine tk_iload8 dX0_layTelling_44 ?_
          refine tk_lload4 dX0_layTelling_46 ?_
          refine tk_callSN2z dX0_layTelling_48 kX0_44 (c_isIn (k := w) (by omega) S) (Nat.le_of_ble_eq_true rfl) (by omega) ?_
          first | refine tk_jf_eqB dX0_layTelling_51 (fun h51 => ?_) (fun h51 => ?_) | refine tk_if_eq dX0_layTelling_51 (fun h51 => ?_) (fun h51 => ?_)
          · refine tk_iconst dX0_layTelling_58 kc_iconst_0 ?_
            refine tk_callV3q dX0_layTelling_59 kX0_57 (by first | assumption | exact va_up_self _ _ _ | exact (va_up_ne _ _ (by omega)).trans (by assumption) | exact congrArg Prod.fst (va_up_self _ _ _) | exact (congrArg Prod.fst (va_up_ne _ _ (by omega))).trans (by assumption) | exact (congrFun (va_up_ne _ _ (by omega)) _).trans (by assumption) | exact (va_up_ne _ _ (by omega)).trans (va_up_self _ _ _) | exact (va_up_ne _ _ (by omega)).trans ((va_up_ne _ _ (by omega)).trans (by assumption)) | exact (congrArg Prod.fst ((va_up_ne _ _ (by omega)).trans (va_up_ne _ _ (by omega)))).trans (by assumption) | exact (congrFun ((va_up_ne _ _ (by omega)).trans (va_up_ne _ _ (by omega))) _).trans (by assumption) | (rw [va_up_self, va_up_ne _ _ (by omega)]; assumption)) (c_labelTold (v := fun p => 4 * cLs ce W p w) hD (by rw [hA2.2.2.1 0 (by omega)]; exact hE.2.1) hnp4 hA2.2.1 (by omega) hA2.2.2.2.2.2.1) (Nat.le_of_ble_eq_true rfl) (by omega) ?_
            rintro rr h1 ⟨I6, rfl, rfl, hT⟩
            dsimp only [Option.toList, List.nil_append]
            obtain ⟨hE2, hE4⟩ := hE.told hA2 hT (by omega) (by rw [(t3 h31).1]; exact hx1) (fun p _ => by unfold tLb; rw [(t3 h31).1, (t3 h31).2, h51]; rfl)
            have hWr : I6 a 3 = nI r := by rw [hE2.1 a ha28.1 ha28.2.1 ha28.2.2]; exact hw.2.2.2.2.2.1
            refine tk_aload0 dX0_layTelling_62 ?_
            refine tk_iload8 dX0_layTelling_63 ?_
            refine tk_aload1 dX0_layTelling_65 ?_
            refine tk_getI dX0_layTelling_66 fX0_53 rfl (by first | assumption | exact va_up_self _ _ _ | exact (va_up_ne _ _ (by omega)).trans (by assumption) | exact congrArg Prod.fst (va_up_self _ _ _) | exact (congrArg Prod.fst (va_up_ne _ _ (by omega))).trans (by assumption) | exact (congrFun (va_up_ne _ _ (by omega)) _).trans (by assumption) | exact (va_up_ne _ _ (by omega)).trans (va_up_self _ _ _) | exact (va_up_ne _ _ (by omega)).trans ((va_up_ne _ _ (by omega)).trans (by assumption)) | exact (congrArg Prod.fst ((va_up_ne _ _ (by omega)).trans (va_up_ne _ _ (by omega)))).trans (by assumption) | exact (congrFun ((va_up_ne _ _ (by omega)).trans (va_up_ne _ _ (by omega))) _).trans (by assumption) | (rw [va_up_self, va_up_ne _ _ (by omega)]; assumption)) ?_
            rw [hWr]
            first | refine tk_icmp_neN dX0_layTelling_69 (by omega) (by omega) (fun h69 => ?_) (fun h69 => ?_) | refine tk_icmp_ne dX0_layTelling_69 (fun h69 => ?_) (fun h69 => ?_)
            · refine tk_aload0 dX0_layTelling_81 ?_
              refine tk_getI dX0_layTelling_82 fX0_56 rfl (by first | assumption | exact va_up_self _ _ _ | exact (va_up_ne _ _ (by omega)).trans (by assumption) | exact congrArg Prod.fst (va_up_self _ _ _) | exact (congrArg Prod.fst (va_up_ne _ _ (by omega))).trans (by assumption) | exact (congrFun (va_up_ne _ _ (by omega)) _).trans (by assumption) | exact (va_up_ne _ _ (by omega)).trans (va_up_self _ _ _) | exact (va_up_ne _ _ (by omega)).trans ((va_up_ne _ _ (by omega)).trans (by assumption)) | exact (congrArg Prod.fst ((va_up_ne _ _ (by omega)).trans (va_up_ne _ _ (by omega)))).trans (by assumption) | exact (congrFun ((va_up_ne _ _ (by omega)).trans (va_up_ne _ _ (by omega))) _).trans (by assumption) | (rw [va_up_self, va_up_ne _ _ (by omega)]; assumption)) ?_
              refine tk_putI dX0_layTelling_85 fX0_56 wX0_layTelling_X0_3 rfl (by first | assumption | exact va_up_self _ _ _ | exact (va_up_ne _ _ (by omega)).trans (by assumption) | exact congrArg Prod.fst (va_up_self _ _ _) | exact (congrArg Prod.fst (va_up_ne _ _ (by omega))).trans (by assumption) | exact (congrFun (va_up_ne _ _ (by omega)) _).trans (by assumption) | exact (va_up_ne _ _ (by omega)).trans (va_up_self _ _ _) | exact (va_up_ne _ _ (by omega)).trans ((va_up_ne _ _ (by omega)).trans (by assumption)) | exact (congrArg Prod.fst ((va_up_ne _ _ (by omega)).trans (va_up_ne _ _ (by omega)))).trans (by assumption) | exact (congrFun ((va_up_ne _ _ (by omega)).trans (va_up_ne _ _ (by omega))) _).trans (by assumption) | (rw [va_up_self, va_up_ne _ _ (by omega)]; assumption)) ?_
              first | refine tk_iinc8 dX0_layTelling_88 (kc_inc _) rfl ?_ | refine tk_iinc8 dX0_layTelling_88 rfl rfl ?_
              refine tk_goto dX0_layTelling_91 ?_
              first
                | exact ih (w + 1) _ (by omega) (by rw [cntR_f h31, show w + 1 + cntR (tb M) w = w + cntR (tb M) w + 1 by omega]; exact hE) (fun a b => (by rw [hE3]; exact hR (by have := tbne h31 b; omega) b))
                | (refine ih (w + 1) _ (by omega) (by rw [cntR_t h31, show w + 1 + (cntR (tb M) w + 1) = w + cntR (tb M) w + 1 + 1 by omega]; exact hE2.real) (fun a b => ?_); rw [va_up_self, va_up_self]; first | (rw [h69, Nat.add_sub_cancel]; done) | (rw [hE4, hE3]; exact hR (by omega) b))
            · refine tk_aload0 dX0_layTelling_72 ?_
              refine tk_getI dX0_layTelling_73 fX0_52 rfl (by first | assumption | exact va_up_self _ _ _ | exact (va_up_ne _ _ (by omega)).trans (by assumption) | exact congrArg Prod.fst (va_up_self _ _ _) | exact (congrArg Prod.fst (va_up_ne _ _ (by omega))).trans (by assumption) | exact (congrFun (va_up_ne _ _ (by omega)) _).trans (by assumption) | exact (va_up_ne _ _ (by omega)).trans (va_up_self _ _ _) | exact (va_up_ne _ _ (by omega)).trans ((va_up_ne _ _ (by omega)).trans (by assumption)) | exact (congrArg Prod.fst ((va_up_ne _ _ (by omega)).trans (va_up_ne _ _ (by omega)))).trans (by assumption) | exact (congrFun ((va_up_ne _ _ (by omega)).trans (va_up_ne _ _ (by omega))) _).trans (by assumption) | (rw [va_up_self, va_up_ne _ _ (by omega)]; assumption)) ?_
              rw [hE2.2.2.2.1]
              refine tk_iconst dX0_layTelling_76 kc_iconst_1 ?_
              first | refine tk_isubN dX0_layTelling_77 (by omega) ?_ | refine tk_isub dX0_layTelling_77 ?_
              refine tk_goto dX0_layTelling_78 ?_
              refine tk_putI dX0_layTelling_85 fX0_56 wX0_layTelling_X0_3 rfl (by first | assumption | exact va_up_self _ _ _ | exact (va_up_ne _ _ (by omega)).trans (by assumption) | exact congrArg Prod.fst (va_up_self _ _ _) | exact (congrArg Prod.fst (va_up_ne _ _ (by omega))).trans (by assumption) | exact (congrFun (va_up_ne _ _ (by omega)) _).trans (by assumption) | exact (va_up_ne _ _ (by omega)).trans (va_up_self _ _ _) | exact (va_up_ne _ _ (by omega)).trans ((va_up_ne _ _ (by omega)).trans (by assumption)) | exact (congrArg Prod.fst ((va_up_ne _ _ (by omega)).trans (va_up_ne _ _ (by omega)))).trans (by assumption) | exact (congrFun ((va_up_ne _ _ (by omega)).trans (va_up_ne _ _ (by omega))) _).trans (by assumption) | (rw [va_up_self, va_up_ne _ _ (by omega)]; assumption)) ?_
              first | refine tk_iinc8 dX0_layTelling_88 (kc_inc _) rfl ?_ | refine tk_iinc8 dX0_layTelling_88 rfl rfl ?_
              refine tk_goto dX0_layTelling_91 ?_
              first
                | exact ih (w + 1) _ (by omega) (by rw [cntR_f h31, show w + 1 + cntR (tb M) w = w + cntR (tb M) w + 1 by omega]; exact hE) (fun a b => (by rw [hE3]; exact hR (by have := tbne h31 b; omega) b))
                | (refine ih (w + 1) _ (by omega) (by rw [cntR_t h31, show w + 1 + (cntR (tb M) w + 1) = w + cntR (tb M) w + 1 + 1 by omega]; exact hE2.real) (fun a b => ?_); rw [va_up_self, va_up_self]; first | (rw [h69, Nat.add_sub_cancel]; done) | (rw [hE4, hE3]; exact hR (by omega) b))
          · refine tk_iconst dX0_layTelling_54 kc_iconst_1 ?_
            refine tk_goto dX0_layTelling_55 ?_
            refine tk_callV3q dX0_layTelling_59 kX0_57 (by first | assumption | exact va_up_self _ _ _ | exact (va_up_ne _ _ (by omega)).trans (by assumption) | exact congrArg Prod.fst (va_up_self _ _ _) | exact (congrArg Prod.fst (va_up_ne _ _ (by omega))).trans (by assumption) | exact (congrFun (va_up_ne _ _ (by omega)) _).trans (by assumption) | exact (va_up_ne _ _ (by omega)).trans (va_up_self _ _ _) | exact (va_up_ne _ _ (by omega)).trans ((va_up_ne _ _ (by omega)).trans (by assumption)) | exact (congrArg Prod.fst ((va_up_ne _ _ (by omega)).trans (va_up_ne _ _ (by omega)))).trans (by assumption) | exact (congrFun ((va_up_ne _ _ (by omega)).trans (va_up_ne _ _ (by omega))) _).trans (by assumption) | (rw [va_up_self, va_up_ne _ _ (by omega)]; assumption)) (c_labelTold (v := fun p => 4 * cLs ce W p w) hD (by rw [hA2.2.2.1 0 (by omega)]; exact hE.2.1) hnp4 hA2.2.1 (by omega) hA2.2.2.2.2.2.1) (Nat.le_of_ble_eq_true rfl) (by omega) ?_
            rintro rr h1 ⟨I6, rfl, rfl, hT⟩
            dsimp only [Option.toList, List.nil_append]
            obtain ⟨hE2, hE4⟩ := hE.told hA2 hT (by omega) (by rw [(t3 h31).1]; exact hx1) (fun p _ => by unfold tLb; rw [(t3 h31).1, (t3 h31).2, h51]; rfl)
            have hWr : I6 a 3 = nI r := by rw [hE2.1 a ha28.1 ha28.2.1 ha28.2.2]; exact hw.2.2.2.2.2.1
            refine tk_aload0 dX0_layTelling_62 ?_
            refine tk_iload8 dX0_layTelling_63 ?_
            refine tk_aload1 dX0_layTelling_65 ?_
            refine tk_getI dX0_layTelling_66 fX0_53 rfl (by first | assumption | exact va_up_self _ _ _ | exact (va_up_ne _ _ (by omega)).trans (by assumption) | exact congrArg Prod.fst (va_up_self _ _ _) | exact (congrArg Prod.fst (va_up_ne _ _ (by omega))).trans (by assumption) | exact (congrFun (va_up_ne _ _ (by omega)) _).trans (by assumption) | exact (va_up_ne _ _ (by omega)).trans (va_up_self _ _ _) | exact (va_up_ne _ _ (by omega)).trans ((va_up_ne _ _ (by omega)).trans (by assumption)) | exact (congrArg Prod.fst ((va_up_ne _ _ (by omega)).trans (va_up_ne _ _ (by omega)))).trans (by assumption) | exact (congrFun ((va_up_ne _ _ (by omega)).trans (va_up_ne _ _ (by omega))) _).trans (by assumption) | (rw [va_up_self, va_up_ne _ _ (by omega)]; assumption)) ?_
            rw [hWr]
            first | refine tk_icmp_neN dX0_layTelling_69 (by omega) (by omega) (fun h69 => ?_) (fun h69 => ?_) | refine tk_icmp_ne dX0_layTelling_69 (fun h69 => ?_) (fun h69 => ?_)
            · refine tk_aload0 dX0_layTelling_81 ?_
              refine tk_getI dX0_layTelling_82 fX0_56 rfl (by first | assumption | exact va_up_self _ _ _ | exact (va_up_ne _ _ (by omega)).trans (by assumption) | exact congrArg Prod.fst (va_up_self _ _ _) | exact (congrArg Prod.fst (va_up_ne _ _ (by omega))).trans (by assumption) | exact (congrFun (va_up_ne _ _ (by omega)) _).trans (by assumption) | exact (va_up_ne _ _ (by omega)).trans (va_up_self _ _ _) | exact (va_up_ne _ _ (by omega)).trans ((va_up_ne _ _ (by omega)).trans (by assumption)) | exact (congrArg Prod.fst ((va_up_ne _ _ (by omega)).trans (va_up_ne _ _ (by omega)))).trans (by assumption) | exact (congrFun ((va_up_ne _ _ (by omega)).trans (va_up_ne _ _ (by omega))) _).trans (by assumption) | (rw [va_up_self, va_up_ne _ _ (by omega)]; assumption)) ?_
              refine tk_putI dX0_layTelling_85 fX0_56 wX0_layTelling_X0_3 rfl (by first | assumption | exact va_up_self _ _ _ | exact (va_up_ne _ _ (by omega)).trans (by assumption) | exact congrArg Prod.fst (va_up_self _ _ _) | exact (congrArg Prod.fst (va_up_ne _ _ (by omega))).trans (by assumption) | exact (congrFun (va_up_ne _ _ (by omega)) _).trans (by assumption) | exact (va_up_ne _ _ (by omega)).trans (va_up_self _ _ _) | exact (va_up_ne _ _ (by omega)).trans ((va_up_ne _ _ (by omega)).trans (by assumption)) | exact (congrArg Prod.fst ((va_up_ne _ _ (by omega)).trans (va_up_ne _ _ (by omega)))).trans (by assumption) | exact (congrFun ((va_up_ne _ _ (by omega)).trans (va_up_ne _ _ (by omega))) _).trans (by assumption) | (rw [va_up_self, va_up_ne _ _ (by omega)]; assumption)) ?_
              first | refine tk_iinc8 dX0_layTelling_88 (kc_inc _) rfl ?_ | refine tk_iinc8 dX0_layTelling_88 rfl rfl ?_
              refine tk_goto dX0_layTelling_91 ?_
              first
                | exact ih (w + 1) _ (by omega) (by rw [cntR_f h31, show w + 1 + cntR (tb M) w = w + cntR (tb M) w + 1 by omega]; exact hE) (fun a b => (by rw [hE3]; exact hR (by have := tbne h31 b; omega) b))
                | (refine ih (w + 1) _ (by omega) (by rw [cntR_t h31, show w + 1 + (cntR (tb M) w + 1) = w + cntR (tb M) w + 1 + 1 by omega]; exact hE2.real) (fun a b => ?_); rw [va_up_self, va_up_self]; first | (rw [h69, Nat.add_sub_cancel]; done) | (rw [hE4, hE3]; exact hR (by omega) b))
            · refine tk_aload0 dX0_layTelling_72 ?_
              refine tk_getI dX0_layTelling_73 fX0_52 rfl (by first | assumption | exact va_up_self _ _ _ | exact (va_up_ne _ _ (by omega)).trans (by assumption) | exact congrArg Prod.fst (va_up_self _ _ _) | exact (congrArg Prod.fst (va_up_ne _ _ (by omega))).trans (by assumption) | exact (congrFun (va_up_ne _ _ (by omega)) _).trans (by assumption) | exact (va_up_ne _ _ (by omega)).trans (va_up_self _ _ _) | exact (va_up_ne _ _ (by omega)).trans ((va_up_ne _ _ (by omega)).trans (by assumption)) | exact (congrArg Prod.fst ((va_up_ne _ _ (by omega)).trans (va_up_ne _ _ (by omega)))).trans (by assumption) | exact (congrFun ((va_up_ne _ _ (by omega)).trans (va_up_ne _ _ (by omega))) _).trans (by assumption) | (rw [va_up_self, va_up_ne _ _ (by omega)]; assumption)) ?_
              rw [hE2.2.2.2.1]
              refine tk_iconst dX0_layTelling_76 kc_iconst_1 ?_
              first | refine tk_isubN dX0_layTelling_77 (by omega) ?_ | refine tk_isub dX0_layTelling_77 ?_
              refine tk_goto dX0_layTelling_78 ?_
              refine tk_putI dX0_layTelling_85 fX0_56 wX0_layTelling_X0_3 rfl (by first | assumption | exact va_up_self _ _ _ | exact (va_up_ne _ _ (by omega)).trans (by assumption) | exact congrArg Prod.fst (va_up_self _ _ _) | exact (congrArg Prod.fst (va_up_ne _ _ (by omega))).trans (by assumption) | exact (congrFun (va_up_ne _ _ (by omega)) _).trans (by assumption) | exact (va_up_ne _ _ (by omega)).trans (va_up_self _ _ _) | exact (va_up_ne _ _ (by omega)).trans ((va_up_ne _ _ (by omega)).trans (by assumption)) | exact (congrArg Prod.fst ((va_up_ne _ _ (by omega)).trans (va_up_ne _ _ (by omega)))).trans (by assumption) | exact (congrFun ((va_up_ne _ _ (by omega)).trans (va_up_ne _ _ (by omega))) _).trans (by assumption) | (rw [va_up_self, va_up_ne _ _ (by omega)]; assumption)) ?_
              first | refine tk_iinc8 dX0_layTelling_88 (kc_inc _) rfl ?_ | refine tk_iinc8 dX0_layTelling_88 rfl rfl ?_
              refine tk_goto dX0_layTelling_91 ?_
              first
                | exact ih (w + 1) _ (by omega) (by rw [cntR_f h31, show w + 1 + cntR (tb M) w = w + cntR (tb M) w + 1 by omega]; exact hE) (fun a b => (by rw [hE3]; exact hR (by have := tbne h31 b; omega) b))
                | (refine ih (w + 1) _ (by omega) (by rw [cntR_t h31, show w + 1 + (cntR (tb M) w + 1) = w + cntR (tb M) w + 1 + 1 by omega]; exact hE2.real) (fun a b => ?_); rw [va_up_self, va_up_self]; first | (rw [h69, Nat.add_sub_cancel]; done) | (rw [hE4, hE3]; exact hR (by omega) b))
  refine tkM.of (ls := [some _, some _, some _, some _, some _, none, some _, none, none]) (by decide +kernel) (by decide +kernel) (Nat.le_of_ble_eq_true rfl) rfl ?_
  refine tk_aload0 dX0_layTelling_0 ?_
  refine tk_aload1 dX0_layTelling_1 ?_
  refine tk_callV1q dX0_layTelling_2 kX0_34 (by first | assumption | exact va_up_self _ _ _ | exact (va_up_ne _ _ (by omega)).trans (by assumption) | exact congrArg Prod.fst (va_up_self _ _ _) | exact (congrArg Prod.fst (va_up_ne _ _ (by omega))).trans (by assumption) | exact (congrFun (va_up_ne _ _ (by omega)) _).trans (by assumption) | exact (va_up_ne _ _ (by omega)).trans (va_up_self _ _ _) | exact (va_up_ne _ _ (by omega)).trans ((va_up_ne _ _ (by omega)).trans (by assumption)) | exact (congrArg Prod.fst ((va_up_ne _ _ (by omega)).trans (va_up_ne _ _ (by omega)))).trans (by assumption) | exact (congrFun ((va_up_ne _ _ (by omega)).trans (va_up_ne _ _ (by omega))) _).trans (by assumption) | (rw [va_up_self, va_up_ne _ _ (by omega)]; assumption)) (c_layNone hD hw) (Nat.le_of_ble_eq_true rfl) (by omega) ?_
  rintro rr h1 ⟨I1, rfl, rfl, x1, x2, x3, x4, x5⟩
  dsimp only [Option.toList, List.nil_append]
  refine tk_iconst dX0_layTelling_5 kc_iconst_0 ?_
  refine tk_istore8 dX0_layTelling_6 rfl ?_
  exact loop W 0 I1 (by omega) ⟨fun a b _ _ => x1 a b, x2, x3, x4, fun j hj => (Nat.not_lt_zero j hj).elim⟩ (fun h => by omega)
end LAY5
