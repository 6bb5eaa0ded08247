/-! ===== the reference: tellKinds ===== -/
theorem Kf_eq {R : Nat → Bool} {kd : Nat → Nat} {u w : Nat} (hw : R w = true) (h1 : R u = true → kd u < 2 ^ 31) (h2 : kd w < 2 ^ 31) : Kf R kd u = Kf R kd w ↔ R u = true ∧ kd u = kd w := by
  unfold Kf
  rw [if_pos hw]
  cases e : R u with
  | true => rw [if_pos rfl, nI_eq (h1 e) h2]; exact ⟨fun h => ⟨rfl, h⟩, fun h => h.2⟩
  | false =>
    rw [if_neg (by decide)]
    constructor
    · intro h
      exfalso
      have : nI (kd w) < 0 := by rw [← h]; decide
      exact nI_pos h2 this
    · intro h; cases h.1
theorem Kf_n {R : Nat → Bool} {kd kd' : Nat → Nat} {w : Nat} (h : R w = false) : Kf R kd w = Kf R kd' w := by unfold Kf; rw [h]; rfl
section REFW
variable {G : tkG} {n : Nat} {T : Nat → Nat × Nat} {I : Nat → Nat → Int32} {L : Nat → Nat → Int64} {P : Nat → Nat → Option Nat}
theorem r_kSearch (hR : tkRef T P) {np N w : Nat} {c : Nat → Nat → Nat} {R : Nat → Bool} {kd : Nat → Nat} (hnp : I 41 0 = nI np) (hnp4 : np ≤ 4) (hN2 : N ≤ 128) (hc : ∀ p, p < np → ∀ w, w < N → I 71 (128 * p + w) = nI (c p w) ∧ c p w < N) (hkd : ∀ u, u < N → R u = true → kd u < N) (hw : w < N) (hRw : R w = true) {Q : Option tkV → tkH → Prop} {mo : Bool} {g : Nat → Int32}
    (k180 : ∀ l, tkle [some (vR 40), some (vI (tkb mo)), some (vI (nI w)), none, none] l → tkX G mX11_tellKinds 1 0 0 180 l [] (n, T, va_up (va_up I 72 (tkcp (I 72) (Kf R kd) N)) 73 (va_up g w (nI (kdS R kd (fun u w => rLk (L 77) (L 78) c u w np) w))), L, P) Q) :
    ∀ k u, u + k = w → (∀ j, j < u → (fun u => R u && (decide (kd u = kd w) && rLk (L 77) (L 78) c u w np)) j = false) → tkX G mX11_tellKinds 1 0 0 128 [some (vR 40), some (vI (tkb mo)), some (vI (nI w)), some (vI (tkb true)), some (vI (nI u))] [] (n, T, va_up (va_up I 72 (tkcp (I 72) (Kf R kd) N)) 73 g, L, P) Q := by
  have hkw := hkd w hw hRw
  have hfin : ∀ u, u ≤ w → (fun u => R u && (decide (kd u = kd w) && rLk (L 77) (L 78) c u w np)) u = true → (∀ j, j < u → (fun u => R u && (decide (kd u = kd w) && rLk (L 77) (L 78) c u w np)) j = false) → ∀ l, tkle [some (vR 40), some (vI (tkb mo)), some (vI (nI w)), some (vI (nI 0)), some (vI (nI (u + 1)))] l → tkX G mX11_tellKinds 1 0 0 128 l [] (n, T, va_up (va_up I 72 (tkcp (I 72) (Kf R kd) N)) 73 (va_up g w (nI u)), L, P) Q := by
    intro u hu h1 h2 l hl
    refine tk_wk hl ?_
    have e : kdS R kd (fun u w => rLk (L 77) (L 78) c u w np) w = u := lst_eq (q := fun u => R u && (decide (kd u = kd w) && rLk (L 77) (L 78) c u w np)) (w := w) (kdS_q (N := N) rLk_LKE hw hRw) h1 h2
    rw [e] at k180
    refine tk_iload4 dX11_tellKinds_128 ?_
    refine tk_iload2 dX11_tellKinds_130 ?_
    first | refine tk_icmp_gtN dX11_tellKinds_131 (by omega) (by omega) (fun h131 => ?_) (fun h131 => ?_) | refine tk_jcmp_gt dX11_tellKinds_131 (fun h131 => ?_) (fun h131 => ?_)
    · exact k180 _ (by repeat' (first | exact trivial | refine ⟨Or.inl rfl, ?_⟩ | refine ⟨Or.inr rfl, ?_⟩))
    · refine tk_iload3 dX11_tellKinds_134 ?_
      first | refine tk_jf_eqB dX11_tellKinds_135 (fun h135 => ?_) (fun h135 => ?_) | refine tk_if_eq dX11_tellKinds_135 (fun h135 => ?_) (fun h135 => ?_)
      · exact k180 _ (by repeat' (first | exact trivial | refine ⟨Or.inl rfl, ?_⟩ | refine ⟨Or.inr rfl, ?_⟩))
      · exact absurd rfl h135
  have body : ∀ u, u ≤ w → (∀ j, j < u → (fun u => R u && (decide (kd u = kd w) && rLk (L 77) (L 78) c u w np)) j = false) → (u < w → (fun u => R u && (decide (kd u = kd w) && rLk (L 77) (L 78) c u w np)) u = false → tkX G mX11_tellKinds 1 0 0 128 [some (vR 40), some (vI (tkb mo)), some (vI (nI w)), some (vI (tkb true)), some (vI (nI (u + 1)))] [] (n, T, va_up (va_up I 72 (tkcp (I 72) (Kf R kd) N)) 73 g, L, P) Q) → tkX G mX11_tellKinds 1 0 0 128 [some (vR 40), some (vI (tkb mo)), some (vI (nI w)), some (vI (tkb true)), some (vI (nI u))] [] (n, T, va_up (va_up I 72 (tkcp (I 72) (Kf R kd) N)) 73 g, L, P) Q := by
    intro u hu hb next
    have hkf := Kf_eq (R := R) (kd := kd) (u := u) (w := w) hRw (fun r => by have := hkd u (by omega) r; omega) (by omega)
    have mkF : (¬ Kf R kd u = Kf R kd w ∨ rLk (L 77) (L 78) c u w np = false) → (fun u => R u && (decide (kd u = kd w) && rLk (L 77) (L 78) c u w np)) u = false := by
      intro hor
      cases x : (fun u => R u && (decide (kd u = kd w) && rLk (L 77) (L 78) c u w np)) u with
      | false => rfl
      | true =>
        exfalso
        have x : (R u && (decide (kd u = kd w) && rLk (L 77) (L 78) c u w np)) = true := x
        rw [Bool.and_eq_true, Bool.and_eq_true, decide_eq_true_eq] at x
        rcases hor with hor | hor
        · exact hor (hkf.mpr ⟨x.1, x.2.1⟩)
        · rw [x.2.2] at hor; cases hor
    have mkL : (fun u => R u && (decide (kd u = kd w) && rLk (L 77) (L 78) c u w np)) u = false → u < w := by
      intro hPf
      by_cases e9 : u = w
      · subst e9
        have := kdS_q (N := N) (kd := kd) (lk := fun u w => rLk (L 77) (L 78) c u w np) rLk_LKE hw hRw
        rw [this] at hPf
        cases hPf
      · omega
    refine tk_iload4 dX11_tellKinds_128 ?_
    refine tk_iload2 dX11_tellKinds_130 ?_
    first | refine tk_icmp_gtN dX11_tellKinds_131 (by omega) (by omega) (fun h131 => ?_) (fun h131 => ?_) | refine tk_jcmp_gt dX11_tellKinds_131 (fun h131 => ?_) (fun h131 => ?_)
    · first | exact absurd h135 (by decide) | (exfalso; omega)
    · refine tk_iload3 dX11_tellKinds_134 ?_
      first | refine tk_jf_eqB dX11_tellKinds_135 (fun h135 => ?_) (fun h135 => ?_) | refine tk_if_eq dX11_tellKinds_135 (fun h135 => ?_) (fun h135 => ?_)
      · first | exact absurd h135 (by decide) | (exfalso; omega)
      · refine tk_aload0 dX11_tellKinds_138 ?_
        refine tk_getP dX11_tellKinds_139 fX11_105 rfl hR.o (hR.p 39 rfl) ?_
        refine tk_iload4 dX11_tellKinds_142 ?_
        refine tk_iald dX11_tellKinds_144 (hR.t 72 rfl) (by omega) (by omega) ?_
        simp only [va_up_self, bx_uu, tk_une, tk_usrt, not_false_eq_true, Nat.reduceEqDiff, Nat.reduceLT, Nat.reduceAdd, Nat.reduceMul, Nat.reduceLeDiff, reduceCtorEq]
        rw [tkcp_lt (show u < N by omega)]
        refine tk_aload0 dX11_tellKinds_145 ?_
        refine tk_getP dX11_tellKinds_146 fX11_105 rfl hR.o (hR.p 39 rfl) ?_
        refine tk_iload2 dX11_tellKinds_149 ?_
        refine tk_iald dX11_tellKinds_150 (hR.t 72 rfl) (by omega) (by omega) ?_
        simp only [va_up_self, bx_uu, tk_une, tk_usrt, not_false_eq_true, Nat.reduceEqDiff, Nat.reduceLT, Nat.reduceAdd, Nat.reduceMul, Nat.reduceLeDiff, reduceCtorEq]
        rw [tkcp_lt hw]
        first | refine tk_icmp_neN dX11_tellKinds_151 (by omega) (by omega) (fun h151 => ?_) (fun h151 => ?_) | refine tk_icmp_ne dX11_tellKinds_151 (fun h151 => ?_) (fun h151 => ?_)
        · first | refine tk_iinc4 dX11_tellKinds_174 (kc_inc _) rfl ?_ | refine tk_iinc4 dX11_tellKinds_174 rfl rfl ?_
          refine tk_goto dX11_tellKinds_177 ?_
          first | (simp only [va_up_self, bx_uu, tk_une, tk_usrt, not_false_eq_true, Nat.reduceEqDiff, Nat.reduceLT, Nat.reduceAdd, Nat.reduceMul, Nat.reduceLeDiff, reduceCtorEq]; exact hfin u hu hP hb _ (by repeat' (first | exact trivial | refine ⟨Or.inl rfl, ?_⟩ | refine ⟨Or.inr rfl, ?_⟩))) | exact tk_wk (by repeat' (first | exact trivial | refine ⟨Or.inl rfl, ?_⟩ | refine ⟨Or.inr rfl, ?_⟩)) (next (mkL (mkF (Or.inl h151))) (mkF (Or.inl h151))) | exact tk_wk (by repeat' (first | exact trivial | refine ⟨Or.inl rfl, ?_⟩ | refine ⟨Or.inr rfl, ?_⟩)) (next (mkL (mkF (Or.inr h161))) (mkF (Or.inr h161)))
        · refine tk_aload0 dX11_tellKinds_154 ?_
          refine tk_iload4 dX11_tellKinds_155 ?_
          refine tk_iload2 dX11_tellKinds_157 ?_
          refine tk_callV2z dX11_tellKinds_158 kX11_265 hR.o (r_isLike (N := N) hR (by simp only [va_up_self, bx_uu, tk_une, tk_usrt, not_false_eq_true, Nat.reduceEqDiff, Nat.reduceLT, Nat.reduceAdd, Nat.reduceMul, Nat.reduceLeDiff, reduceCtorEq]; exact hnp) hnp4 hN2 (fun p hp w hw => by simp only [va_up_self, bx_uu, tk_une, tk_usrt, not_false_eq_true, Nat.reduceEqDiff, Nat.reduceLT, Nat.reduceAdd, Nat.reduceMul, Nat.reduceLeDiff, reduceCtorEq]; exact hc p hp w hw) (by omega) hw) (Nat.le_of_ble_eq_true rfl) (by omega) ?_
          first | refine tk_jf_eqB dX11_tellKinds_161 (fun h161 => ?_) (fun h161 => ?_) | refine tk_if_eq dX11_tellKinds_161 (fun h161 => ?_) (fun h161 => ?_)
          · first | refine tk_iinc4 dX11_tellKinds_174 (kc_inc _) rfl ?_ | refine tk_iinc4 dX11_tellKinds_174 rfl rfl ?_
            refine tk_goto dX11_tellKinds_177 ?_
            first | (simp only [va_up_self, bx_uu, tk_une, tk_usrt, not_false_eq_true, Nat.reduceEqDiff, Nat.reduceLT, Nat.reduceAdd, Nat.reduceMul, Nat.reduceLeDiff, reduceCtorEq]; exact hfin u hu hP hb _ (by repeat' (first | exact trivial | refine ⟨Or.inl rfl, ?_⟩ | refine ⟨Or.inr rfl, ?_⟩))) | exact tk_wk (by repeat' (first | exact trivial | refine ⟨Or.inl rfl, ?_⟩ | refine ⟨Or.inr rfl, ?_⟩)) (next (mkL (mkF (Or.inl h151))) (mkF (Or.inl h151))) | exact tk_wk (by repeat' (first | exact trivial | refine ⟨Or.inl rfl, ?_⟩ | refine ⟨Or.inr rfl, ?_⟩)) (next (mkL (mkF (Or.inr h161))) (mkF (Or.inr h161)))
          · refine tk_aload0 dX11_tellKinds_164 ?_
            have hP : (fun u => R u && (decide (kd u = kd w) && rLk (L 77) (L 78) c u w np)) u = true := by
              obtain ⟨z1, z2⟩ := hkf.mp h151
              show (R u && (decide (kd u = kd w) && rLk (L 77) (L 78) c u w np)) = true
              rw [z1, z2, decide_eq_true rfl, h161]; rfl
            refine tk_getP dX11_tellKinds_165 fX11_108 rfl hR.o (hR.p 40 rfl) ?_
            refine tk_iload2 dX11_tellKinds_168 ?_
            refine tk_iload4 dX11_tellKinds_169 ?_
            refine tk_iast dX11_tellKinds_171 (hR.t 73 rfl) (by omega) (by omega) ?_
            refine tk_iconst dX11_tellKinds_172 kc_iconst_0 ?_
            refine tk_istore3 dX11_tellKinds_173 rfl ?_
            first | refine tk_iinc4 dX11_tellKinds_174 (kc_inc _) rfl ?_ | refine tk_iinc4 dX11_tellKinds_174 rfl rfl ?_
            refine tk_goto dX11_tellKinds_177 ?_
            first | (simp only [va_up_self, bx_uu, tk_une, tk_usrt, not_false_eq_true, Nat.reduceEqDiff, Nat.reduceLT, Nat.reduceAdd, Nat.reduceMul, Nat.reduceLeDiff, reduceCtorEq]; exact hfin u hu hP hb _ (by repeat' (first | exact trivial | refine ⟨Or.inl rfl, ?_⟩ | refine ⟨Or.inr rfl, ?_⟩))) | exact tk_wk (by repeat' (first | exact trivial | refine ⟨Or.inl rfl, ?_⟩ | refine ⟨Or.inr rfl, ?_⟩)) (next (mkL (mkF (Or.inl h151))) (mkF (Or.inl h151))) | exact tk_wk (by repeat' (first | exact trivial | refine ⟨Or.inl rfl, ?_⟩ | refine ⟨Or.inr rfl, ?_⟩)) (next (mkL (mkF (Or.inr h161))) (mkF (Or.inr h161)))
  intro k
  induction k with
  | zero =>
    intro u e hb
    exact body u (by omega) hb (fun h => by omega)
  | succ k ih =>
    intro u e hb
    refine body u (by omega) hb (fun h1 h2 => ih (u + 1) (by omega) (fun j hj => ?_))
    by_cases e9 : j = u
    · subst e9; exact h2
    · exact hb j (by omega)
end REFW
