/-! ===== the reference: what can be come to ===== -/
def anyB (f : Nat → Bool) : Nat → Bool
  | 0 => false
  | k + 1 => anyB f k || f k
theorem anyB_iff {f : Nat → Bool} {k : Nat} : anyB f k = true ↔ ∃ i, i < k ∧ f i = true := by
  induction k with
  | zero => simp [anyB]
  | succ k ih =>
    rw [anyB, Bool.or_eq_true, ih]
    constructor
    · rintro (⟨i, h1, h2⟩ | h)
      · exact ⟨i, by omega, h2⟩
      · exact ⟨k, by omega, h⟩
    · rintro ⟨i, h1, h2⟩
      by_cases e : i = k
      · subst e; exact Or.inr h2
      · exact Or.inl ⟨i, by omega, h2⟩
def cntR (R : Nat → Bool) : Nat → Nat
  | 0 => 0
  | k + 1 => cntR R k + (if R k then 1 else 0)
theorem cntR_le (R : Nat → Bool) (k : Nat) : cntR R k ≤ k := by
  induction k with
  | zero => exact Nat.le_refl _
  | succ k ih => rw [cntR]; split <;> omega
theorem cntR_mono {R S : Nat → Bool} {k : Nat} (h : ∀ i, i < k → R i = true → S i = true) : cntR R k ≤ cntR S k := by
  induction k with
  | zero => exact Nat.le_refl _
  | succ k ih =>
    have := ih (fun i hi => h i (by omega))
    rw [cntR, cntR]
    cases e : R k with
    | true => rw [h k (by omega) e]; simp; exact this
    | false => simp; omega
theorem cntR_lt {R S : Nat → Bool} {k j : Nat} (h : ∀ i, i < k → R i = true → S i = true) (hj : j < k) (h1 : R j = false) (h2 : S j = true) : cntR R k < cntR S k := by
  induction k with
  | zero => omega
  | succ k ih =>
    rw [cntR, cntR]
    by_cases e : j = k
    · subst e
      have := cntR_mono (k := j) (fun i hi => h i (by omega))
      rw [h1, h2]; simp; omega
    · have := ih (fun i hi => h i (by omega)) (by omega)
      cases e2 : R k with
      | true => rw [h k (by omega) e2]; simp; exact this
      | false => simp; omega
/-- closed under cells -/
def CLS (N np : Nat) (c : Nat → Nat → Nat) (S : Nat → Bool) : Prop := ∀ p, p < np → ∀ u, u < N → ∀ w, w < N → c p u = c p w → S u = true → S w = true
/-- R: what can be come to from r0 -/
def RCH (N r0 np : Nat) (c : Nat → Nat → Nat) (R : Nat → Bool) : Prop := R r0 = true ∧ CLS N np c R ∧ ∀ S : Nat → Bool, S r0 = true → CLS N np c S → ∀ w, w < N → R w = true → S w = true
theorem RCH.uniq {N r0 np : Nat} {c c' : Nat → Nat → Nat} {R R' : Nat → Bool} (h : RCH N r0 np c R) (h' : RCH N r0 np c' R') (hc : ∀ p, p < np → ∀ u, u < N → ∀ w, w < N → (c p u = c p w ↔ c' p u = c' p w)) : ∀ w, w < N → R w = R' w := by
  intro w hw
  have a1 := h.2.2 R' h'.1 (fun p hp u hu w hw e hr => h'.2.1 p hp u hu w hw ((hc p hp u hu w hw).mp e) hr) w hw
  have a2 := h'.2.2 R h.1 (fun p hp u hu w hw e hr => h.2.1 p hp u hu w hw ((hc p hp u hu w hw).mpr e) hr) w hw
  cases e : R w with
  | true => rw [a1 e]
  | false =>
    cases e2 : R' w with
    | true => rw [a2 e2] at e; cases e
    | false => rfl
def cellA (c : Nat → Nat → Nat) (N p : Nat) (R : Nat → Bool) (j : Nat) : Bool := anyB (fun u => R u && decide (c p u = j)) N
def rRp (c : Nat → Nat → Nat) (N : Nat) (R : Nat → Bool) : Nat → Nat → Bool
  | 0 => R
  | p + 1 => fun w => rRp c N R p w || cellA c N p (rRp c N R p) (c p w)
def rMo (c : Nat → Nat → Nat) (N : Nat) (R : Nat → Bool) : Nat → Bool
  | 0 => false
  | p + 1 => rMo c N R p || anyB (fun j => cellA c N p (rRp c N R p) (c p j) && !rRp c N R p j) N
theorem cellA_iff {c : Nat → Nat → Nat} {N p : Nat} {R : Nat → Bool} {j : Nat} : cellA c N p R j = true ↔ ∃ u, u < N ∧ R u = true ∧ c p u = j := by
  unfold cellA
  rw [anyB_iff]
  constructor
  · rintro ⟨i, h1, h2⟩
    rw [Bool.and_eq_true, decide_eq_true_eq] at h2
    exact ⟨i, h1, h2⟩
  · rintro ⟨i, h1, h2, h3⟩
    exact ⟨i, h1, by rw [Bool.and_eq_true, decide_eq_true_eq]; exact ⟨h2, h3⟩⟩
theorem rRp_mono {c : Nat → Nat → Nat} {N : Nat} {R : Nat → Bool} {w : Nat} (h : R w = true) : ∀ p, rRp c N R p w = true := by
  intro p
  induction p with
  | zero => exact h
  | succ p ih => show (rRp c N R p w || _) = true; rw [ih]; rfl
theorem rRp_sub {c : Nat → Nat → Nat} {N np : Nat} {R S : Nat → Bool} (hS : CLS N np c S) (hRS : ∀ w, w < N → R w = true → S w = true) : ∀ p, p ≤ np → ∀ w, w < N → rRp c N R p w = true → S w = true := by
  intro p
  induction p with
  | zero => intro _ w hw h; exact hRS w hw h
  | succ p ih =>
    intro hp w hw h
    have h : (rRp c N R p w || cellA c N p (rRp c N R p) (c p w)) = true := h
    rw [Bool.or_eq_true] at h
    rcases h with h | h
    · exact ih (by omega) w hw h
    · obtain ⟨u, h1, h2, h3⟩ := cellA_iff.mp h
      exact hS p (by omega) u h1 w hw h3 (ih (by omega) u h1 h2)
theorem rMo_f {c : Nat → Nat → Nat} {N : Nat} {R : Nat → Bool} : ∀ p, rMo c N R p = false → ∀ q, q ≤ p → ∀ w, w < N → rRp c N R q w = R w := by
  intro p
  induction p with
  | zero => intro _ q hq w _; obtain rfl : q = 0 := by omega
            rfl
  | succ p ih =>
    intro h q hq w hw
    rw [rMo, Bool.or_eq_false_iff] at h
    by_cases e : q ≤ p
    · exact ih h.1 q e w hw
    · obtain rfl : q = p + 1 := by omega
      show (rRp c N R p w || cellA c N p (rRp c N R p) (c p w)) = R w
      have h0 := ih h.1 p (Nat.le_refl p) w hw
      cases e1 : rRp c N R p w with
      | true => rw [← h0, e1]; rfl
      | false =>
        cases e2 : cellA c N p (rRp c N R p) (c p w) with
        | false => rw [← h0, e1]; rfl
        | true =>
          exfalso
          have : anyB (fun j => cellA c N p (rRp c N R p) (c p j) && !rRp c N R p j) N = true := anyB_iff.mpr ⟨w, hw, by rw [e1, e2]; rfl⟩
          rw [h.2] at this
          cases this
theorem rMo_cls {c : Nat → Nat → Nat} {N np : Nat} {R : Nat → Bool} (h : rMo c N R np = false) : CLS N np c R := by
  intro p hp u hu w hw e hr
  have h1 := rMo_f np h (p + 1) (by omega) w hw
  have h2 := rMo_f np h p (by omega) u hu
  have : (rRp c N R p w || cellA c N p (rRp c N R p) (c p w)) = R w := h1
  rw [← this, Bool.or_eq_true]
  exact Or.inr (cellA_iff.mpr ⟨u, hu, by rw [h2]; exact hr, e⟩)
theorem rRp_le {c : Nat → Nat → Nat} {N : Nat} {R : Nat → Bool} {w : Nat} : ∀ p q, q ≤ p → rRp c N R q w = true → rRp c N R p w = true := by
  intro p
  induction p with
  | zero => intro q hq h; obtain rfl : q = 0 := by omega
            exact h
  | succ p ih =>
    intro q hq h
    by_cases e : q = p + 1
    · subst e; exact h
    · show (rRp c N R p w || _) = true
      rw [ih q (by omega) h]; rfl
theorem rMo_t {c : Nat → Nat → Nat} {N : Nat} {R : Nat → Bool} : ∀ p, rMo c N R p = true → cntR R N < cntR (rRp c N R p) N := by
  intro p
  induction p with
  | zero => intro h; cases h
  | succ p ih =>
    intro h
    rw [rMo, Bool.or_eq_true] at h
    rcases h with h | h
    · exact Nat.lt_of_lt_of_le (ih h) (cntR_mono (fun i _ hi => rRp_le (p + 1) p (by omega) hi))
    · obtain ⟨j, h1, h2⟩ := anyB_iff.mp h
      rw [Bool.and_eq_true, Bool.not_eq_true'] at h2
      refine cntR_lt (j := j) (fun i _ hi => rRp_mono hi _) h1 ?_ ?_
      · cases e : R j with
        | false => rfl
        | true => rw [rRp_mono e p] at h2; cases h2.2
      · show (rRp c N R p j || _) = true
        rw [h2.1, Bool.or_true]
section FRR
variable {G : tkG} {C : tkC} {d mc ms head : Nat} {ls0 : List (Option tkV)} {st : List tkV} {h0 : tkH} {Q : Option tkV → tkH → Prop}
theorem tk_frR {σ : Type} (a N : Nat) (ls : Nat → σ → List (Option tkV)) (h : Nat → σ → tkH) (s0 : σ) (haN : a ≤ N) (el : tkle (ls a s0) ls0) (eh : h0 = h a s0) (fin : ∀ s, tkX G C d mc ms head (ls N s) st (h N s) Q) (step : ∀ i s, a ≤ i → i < N → (∀ s' l, tkle (ls (i + 1) s') l → tkX G C d mc ms head l st (h (i + 1) s') Q) → tkX G C d mc ms head (ls i s) st (h i s) Q) : tkX G C d mc ms head ls0 st h0 Q :=
  tk_wk el (tk_forR (σ := σ) a N ls h (fun _ _ => True) s0 haN rfl eh trivial (fun s _ => fin s) (fun i s h1 h2 _ k => step i s h1 h2 (fun s' l hl => tk_wk hl (k s' trivial))))
end FRR
theorem tkcp_tkcp {α : Type} (f g g' : Nat → α) (n : Nat) : tkcp (tkcp f g n) g' n = tkcp f g' n := by
  funext j
  unfold tkcp
  by_cases h : j < n
  · rw [if_pos h, if_pos h]
  · rw [if_neg h, if_neg h, if_neg h]
section REFT
variable {G : tkG} {n : Nat} {T : Nat → Nat × Nat} {I : Nat → Nat → Int32} {L : Nat → Nat → Int64} {P : Nat → Nat → Option Nat}
theorem ra_step (g : Nat → Int32) (R : Nat → Bool) (c : Nat → Nat → Nat) {p N i : Nat} (h : c p i < N) : va_up (tkcp g (fun j => tkb (anyB (fun u => R u && decide (c p u = j)) i)) N) (c p i) (tkb (anyB (fun u => R u && decide (c p u = c p i)) i || R i)) = tkcp g (fun j => tkb (anyB (fun u => R u && decide (c p u = j)) (i + 1))) N := by
  funext j
  unfold va_up tkcp
  by_cases e : j = c p i
  · subst e
    rw [if_pos rfl, if_pos h]
    show _ = tkb (anyB (fun u => R u && decide (c p u = c p i)) (i + 1))
    rw [anyB, decide_eq_true rfl, Bool.and_true]
  · rw [if_neg e]
    by_cases h2 : j < N
    · simp only [if_pos h2]
      show _ = tkb (anyB (fun u => R u && decide (c p u = j)) (i + 1))
      rw [anyB, decide_eq_false (fun q => e q.symm), Bool.and_false, Bool.or_false]
    · simp only [if_neg h2]
theorem ra_fin (f : Nat → Int32) {c : Nat → Nat → Nat} {N p : Nat} {R : Nat → Bool} : tkcp f (fun w => tkb (if w < N then rRp c N R (p + 1) w else rRp c N R p w)) N = tkcp f (fun w => tkb (rRp c N R (p + 1) w)) N := by
  funext j
  unfold tkcp
  by_cases h : j < N
  · simp only [if_pos h]
  · simp only [if_neg h]
theorem ra_up (f : Nat → Int32) {c : Nat → Nat → Nat} {N i p : Nat} {R : Nat → Bool} (hi : i < N) : va_up (tkcp f (fun w => tkb (if w < i then rRp c N R (p + 1) w else rRp c N R p w)) N) i (tkb (rRp c N R p i || cellA c N p (rRp c N R p) (c p i))) = tkcp f (fun w => tkb (if w < i + 1 then rRp c N R (p + 1) w else rRp c N R p w)) N := by
  funext j
  unfold va_up tkcp
  by_cases e : j = i
  · subst e
    rw [if_pos rfl, if_pos hi]
    show _ = tkb (if j < j + 1 then rRp c N R (p + 1) j else rRp c N R p j)
    rw [if_pos (by omega)]; rfl
  · rw [if_neg e]
    by_cases h2 : j < N
    · simp only [if_pos h2]
      by_cases h3 : j < i
      · rw [if_pos h3, if_pos (by omega)]
      · rw [if_neg h3, if_neg (by omega)]
    · simp only [if_neg h2]
theorem r_reach (hR : tkRef T P) {np N r0 : Nat} {c : Nat → Nat → Nat} (hnp : I 41 0 = nI np) (hnp4 : np ≤ 4) (hN : I 40 35 = nI N) (hN2 : N ≤ 128) (hr : I 40 36 = nI r0) (hr0 : r0 < N) (hc : ∀ p, p < np → ∀ w, w < N → I 71 (128 * p + w) = nI (c p w) ∧ c p w < N) : tkM G mX11_reach 0 0 0 [vR 40] (n, T, I, L, P) (fun r h => ∃ (R : Nat → Bool) (g : Nat → Int32), r = none ∧ h = (n, T, va_up (va_up I 75 (tkcp (I 75) (fun w => tkb (R w)) N)) 76 g, L, P) ∧ RCH N r0 np c R) := by
  have out : ∀ (R : Nat → Bool) (g : Nat → Int32) (a2 a3 : Option tkV), RCH N r0 np c R → tkX G mX11_reach 0 0 0 37 [some (vR 40), some (vI (tkb false)), a2, a3] [] (n, T, va_up (va_up I 75 (tkcp (I 75) (fun w => tkb (R w)) N)) 76 g, L, P) (fun r h => ∃ (R : Nat → Bool) (g : Nat → Int32), r = none ∧ h = (n, T, va_up (va_up I 75 (tkcp (I 75) (fun w => tkb (R w)) N)) 76 g, L, P) ∧ RCH N r0 np c R) := by
    intro R g a2 a3 hq
    refine tk_iload1 dX11_reach_37 ?_
    first | refine tk_jf_eqB dX11_reach_38 (fun h38 => ?_) (fun h38 => ?_) | refine tk_if_eq dX11_reach_38 (fun h38 => ?_) (fun h38 => ?_)
    · refine tk_return dX11_reach_208 rfl ?_
      exact ⟨R, g, rfl, rfl, hq⟩
    · cases h38
  have loop : ∀ (m : Nat) (R : Nat → Bool) (g : Nat → Int32), N - cntR R N ≤ m → R r0 = true → (∀ S : Nat → Bool, S r0 = true → CLS N np c S → ∀ w, w < N → R w = true → S w = true) → tkX G mX11_reach 0 0 0 37 [some (vR 40), some (vI (tkb true)), none, none] [] (n, T, va_up (va_up I 75 (tkcp (I 75) (fun w => tkb (R w)) N)) 76 g, L, P) (fun r h => ∃ (R : Nat → Bool) (g : Nat → Int32), r = none ∧ h = (n, T, va_up (va_up I 75 (tkcp (I 75) (fun w => tkb (R w)) N)) 76 g, L, P) ∧ RCH N r0 np c R) := by
    intro m
    induction m with
    | zero =>
      intro R g hm h1 h2
      refine tk_iload1 dX11_reach_37 ?_
      first | refine tk_jf_eqB dX11_reach_38 (fun h38 => ?_) (fun h38 => ?_) | refine tk_if_eq dX11_reach_38 (fun h38 => ?_) (fun h38 => ?_)
      · cases h38
      · refine tk_iconst dX11_reach_41 kc_iconst_0 ?_
        refine tk_istore1 dX11_reach_42 rfl ?_
        refine tk_iconst dX11_reach_43 kc_iconst_0 ?_
        refine tk_istore2 dX11_reach_44 rfl ?_
        refine tk_frR (σ := Nat → Int32) 0 np (fun p _ => [some (vR 40), some (vI (tkb (rMo c N R p))), some (vI (nI p)), none]) (fun p g => (n, T, va_up (va_up I 75 (tkcp (I 75) (fun w => tkb (rRp c N R p w)) N)) 76 g, L, P)) g (by omega) (by repeat' (first | exact trivial | refine ⟨Or.inl rfl, ?_⟩ | refine ⟨Or.inr rfl, ?_⟩)) rfl ?_ ?_
        · intro g
          have hmo : rMo c N R np = false := by
            cases e : rMo c N R np with
            | false => rfl
            | true => have q1 := rMo_t np e; have q2 := cntR_le (rRp c N R np) N; omega
          rw [hmo]
          refine tk_iload2 dX11_reach_45 ?_
          refine tk_aload0 dX11_reach_46 ?_
          refine tk_getP dX11_reach_47 fX11_7 rfl hR.o (hR.p 0 rfl) ?_
          refine tk_iconst dX11_reach_50 kc_iconst_0 ?_
          refine tk_iald dX11_reach_51 (hR.t 41 rfl) (by omega) (by omega) ?_
          simp only [va_up_self, bx_uu, tk_une, tk_usrt, not_false_eq_true, Nat.reduceEqDiff, Nat.reduceLT, Nat.reduceAdd, Nat.reduceMul, Nat.reduceLeDiff, reduceCtorEq, hnp]
          first | refine tk_icmp_geN dX11_reach_52 (by omega) (by omega) (fun h52 => ?_) (fun h52 => ?_) | refine tk_jcmp_ge dX11_reach_52 (fun h52 => ?_) (fun h52 => ?_)
          · refine tk_goto dX11_reach_205 ?_
            refine tk_wk ?_ (out (rRp c N R np) g none none ⟨rRp_mono h1 np, ?_, fun S s1 s2 => rRp_sub s2 (h2 S s1 s2) np (Nat.le_refl np)⟩)
            · exact (by repeat' (first | exact trivial | refine ⟨Or.inl rfl, ?_⟩ | refine ⟨Or.inr rfl, ?_⟩))
            · have hcls := rMo_cls hmo
              intro p hp u hu w hw e hr9
              rw [rMo_f np hmo np (Nat.le_refl np) u hu] at hr9
              rw [rMo_f np hmo np (Nat.le_refl np) w hw]
              exact hcls p hp u hu w hw e hr9
          · exfalso; omega
        · intro p g _ hp k
          refine tk_iload2 dX11_reach_45 ?_
          refine tk_aload0 dX11_reach_46 ?_
          refine tk_getP dX11_reach_47 fX11_7 rfl hR.o (hR.p 0 rfl) ?_
          refine tk_iconst dX11_reach_50 kc_iconst_0 ?_
          refine tk_iald dX11_reach_51 (hR.t 41 rfl) (by omega) (by omega) ?_
          simp only [va_up_self, bx_uu, tk_une, tk_usrt, not_false_eq_true, Nat.reduceEqDiff, Nat.reduceLT, Nat.reduceAdd, Nat.reduceMul, Nat.reduceLeDiff, reduceCtorEq, hnp]
          first | refine tk_icmp_geN dX11_reach_52 (by omega) (by omega) (fun h52 => ?_) (fun h52 => ?_) | refine tk_jcmp_ge dX11_reach_52 (fun h52 => ?_) (fun h52 => ?_)
          · exfalso; omega
          · refine tk_iconst dX11_reach_55 kc_iconst_0 ?_
            refine tk_istore3 dX11_reach_56 rfl ?_
            refine tk_fr 0 N (fun i => [some (vR 40), some (vI (tkb (rMo c N R p))), some (vI (nI p)), some (vI (nI i))]) (fun i => (n, T, va_up (va_up I 75 (tkcp (I 75) (fun w => tkb (rRp c N R p w)) N)) 76 (tkcp g (fun _ => nI 0) i), L, P)) (by omega) (by repeat' (first | exact trivial | refine ⟨Or.inl rfl, ?_⟩ | refine ⟨Or.inr rfl, ?_⟩)) (by rw [tkcp_0]) ?_ ?_
            · refine tk_iload3 dX11_reach_57 ?_
              refine tk_aload0 dX11_reach_58 ?_
              refine tk_getI dX11_reach_59 fX11_256 rfl hR.o ?_
              simp only [va_up_self, bx_uu, tk_une, tk_usrt, not_false_eq_true, Nat.reduceEqDiff, Nat.reduceLT, Nat.reduceAdd, Nat.reduceMul, Nat.reduceLeDiff, reduceCtorEq, hN]
              first | refine tk_icmp_geN dX11_reach_62 (by omega) (by omega) (fun h62 => ?_) (fun h62 => ?_) | refine tk_jcmp_ge dX11_reach_62 (fun h62 => ?_) (fun h62 => ?_)
              · refine tk_iconst dX11_reach_78 kc_iconst_0 ?_
                refine tk_istore3 dX11_reach_79 rfl ?_
                refine tk_fr 0 N (fun i => [some (vR 40), some (vI (tkb (rMo c N R p))), some (vI (nI p)), some (vI (nI i))]) (fun i => (n, T, va_up (va_up I 75 (tkcp (I 75) (fun w => tkb (rRp c N R p w)) N)) 76 (tkcp g (fun j => tkb (anyB (fun u => rRp c N R p u && decide (c p u = j)) i)) N), L, P)) (by omega) (by repeat' (first | exact trivial | refine ⟨Or.inl rfl, ?_⟩ | refine ⟨Or.inr rfl, ?_⟩)) rfl ?_ ?_
                · refine tk_iload3 dX11_reach_80 ?_
                  refine tk_aload0 dX11_reach_81 ?_
                  refine tk_getI dX11_reach_82 fX11_256 rfl hR.o ?_
                  simp only [va_up_self, bx_uu, tk_une, tk_usrt, not_false_eq_true, Nat.reduceEqDiff, Nat.reduceLT, Nat.reduceAdd, Nat.reduceMul, Nat.reduceLeDiff, reduceCtorEq, hN]
                  first | refine tk_icmp_geN dX11_reach_85 (by omega) (by omega) (fun h85 => ?_) (fun h85 => ?_) | refine tk_jcmp_ge dX11_reach_85 (fun h85 => ?_) (fun h85 => ?_)
                  · refine tk_iconst dX11_reach_120 kc_iconst_0 ?_
                    refine tk_istore3 dX11_reach_121 rfl ?_
                    refine tk_fr 0 N (fun i => [some (vR 40), some (vI (tkb (rMo c N R p || anyB (fun j => cellA c N p (rRp c N R p) (c p j) && !rRp c N R p j) i))), some (vI (nI p)), some (vI (nI i))]) (fun i => (n, T, va_up (va_up I 75 (tkcp (I 75) (fun w => tkb (if w < i then rRp c N R (p + 1) w else rRp c N R p w)) N)) 76 (tkcp g (fun j => tkb (cellA c N p (rRp c N R p) j)) N), L, P)) (by omega) ?_ ?_ ?_ ?_
                    · rw [show (rMo c N R p || anyB (fun j => cellA c N p (rRp c N R p) (c p j) && !rRp c N R p j) 0) = rMo c N R p from Bool.or_false _]; exact (by repeat' (first | exact trivial | refine ⟨Or.inl rfl, ?_⟩ | refine ⟨Or.inr rfl, ?_⟩))
                    · simp only [Nat.not_lt_zero, if_false]; rfl
                    · refine tk_iload3 dX11_reach_122 ?_
                      refine tk_aload0 dX11_reach_123 ?_
                      refine tk_getI dX11_reach_124 fX11_256 rfl hR.o ?_
                      simp only [va_up_self, bx_uu, tk_une, tk_usrt, not_false_eq_true, Nat.reduceEqDiff, Nat.reduceLT, Nat.reduceAdd, Nat.reduceMul, Nat.reduceLeDiff, reduceCtorEq, hN]
                      first | refine tk_icmp_geN dX11_reach_127 (by omega) (by omega) (fun h127 => ?_) (fun h127 => ?_) | refine tk_jcmp_ge dX11_reach_127 (fun h127 => ?_) (fun h127 => ?_)
                      · first | refine tk_iinc2 dX11_reach_199 (kc_inc _) rfl ?_ | refine tk_iinc2 dX11_reach_199 rfl rfl ?_
                        refine tk_goto dX11_reach_202 ?_
                        rw [ra_fin (I 75)]
                        refine k _ _ ?_
                        exact (by repeat' (first | exact trivial | refine ⟨Or.inl rfl, ?_⟩ | refine ⟨Or.inr rfl, ?_⟩))
                      · exfalso; omega
                    · intro i _ hi k2
                      have hcp := hc p (by omega) i hi
                      have hcl := hcp.2
                      have e1 : ∀ (I' : Nat → Nat → Int32), (I' 71 (128 * p + i) = I 71 (128 * p + i)) → I' 71 (128 * p + i) = nI (c p i) := fun I' h => h.trans hcp.1
                      refine tk_iload3 dX11_reach_122 ?_
                      refine tk_aload0 dX11_reach_123 ?_
                      refine tk_getI dX11_reach_124 fX11_256 rfl hR.o ?_
                      simp only [va_up_self, bx_uu, tk_une, tk_usrt, not_false_eq_true, Nat.reduceEqDiff, Nat.reduceLT, Nat.reduceAdd, Nat.reduceMul, Nat.reduceLeDiff, reduceCtorEq, hN]
                      first | refine tk_icmp_geN dX11_reach_127 (by omega) (by omega) (fun h127 => ?_) (fun h127 => ?_) | refine tk_jcmp_ge dX11_reach_127 (fun h127 => ?_) (fun h127 => ?_)
                      · exfalso; omega
                      · refine tk_iload1 dX11_reach_130 ?_
                        refine tk_aload0 dX11_reach_131 ?_
                        refine tk_getP dX11_reach_132 fX11_118 rfl hR.o (hR.p 43 rfl) ?_
                        refine tk_aload0 dX11_reach_135 ?_
                        refine tk_getP dX11_reach_136 fX11_102 rfl hR.o (hR.p 38 rfl) ?_
                        refine tk_sipush dX11_reach_139 kc_sipush_128 ?_
                        refine tk_iload2 dX11_reach_142 ?_
                        first | refine tk_imulN dX11_reach_143 ?_ | refine tk_imul dX11_reach_143 ?_
                        refine tk_iload3 dX11_reach_144 ?_
                        first | refine tk_iaddN dX11_reach_145 ?_ | refine tk_iadd dX11_reach_145 ?_
                        refine tk_iald dX11_reach_146 (hR.t 71 rfl) (by omega) (by omega) ?_
                        simp only [va_up_self, bx_uu, tk_une, tk_usrt, not_false_eq_true, Nat.reduceEqDiff, Nat.reduceLT, Nat.reduceAdd, Nat.reduceMul, Nat.reduceLeDiff, reduceCtorEq]
                        rw [hcp.1]
                        refine tk_bald dX11_reach_147 (hR.t 76 rfl) (by omega) (by omega) ?_
                        simp only [va_up_self, bx_uu, tk_une, tk_usrt, not_false_eq_true, Nat.reduceEqDiff, Nat.reduceLT, Nat.reduceAdd, Nat.reduceMul, Nat.reduceLeDiff, reduceCtorEq]
                        rw [tkcp_lt hcl]
                        first | refine tk_jf_eqB dX11_reach_148 (fun h148 => ?_) (fun h148 => ?_) | refine tk_if_eq dX11_reach_148 (fun h148 => ?_) (fun h148 => ?_)
                        · refine tk_iconst dX11_reach_164 kc_iconst_0 ?_
                          refine tk_ior dX11_reach_165 ?_
                          first | rw [show nI 1 = tkb true from rfl, tkb_or] | rw [show nI 0 = tkb false from rfl, tkb_or]
                          refine tk_istore1 dX11_reach_166 rfl ?_
                          refine tk_aload0 dX11_reach_167 ?_
                          refine tk_getP dX11_reach_168 fX11_114 rfl hR.o (hR.p 42 rfl) ?_
                          refine tk_iload3 dX11_reach_171 ?_
                          first | refine tk_dup2 dX11_reach_172 rfl rfl ?_ | refine tk_dup2L dX11_reach_172 ?_
                          refine tk_bald dX11_reach_173 (hR.t 75 rfl) (by omega) (by omega) ?_
                          refine tk_aload0 dX11_reach_174 ?_
                          refine tk_getP dX11_reach_175 fX11_118 rfl hR.o (hR.p 43 rfl) ?_
                          refine tk_aload0 dX11_reach_178 ?_
                          refine tk_getP dX11_reach_179 fX11_102 rfl hR.o (hR.p 38 rfl) ?_
                          refine tk_sipush dX11_reach_182 kc_sipush_128 ?_
                          refine tk_iload2 dX11_reach_185 ?_
                          first | refine tk_imulN dX11_reach_186 ?_ | refine tk_imul dX11_reach_186 ?_
                          refine tk_iload3 dX11_reach_187 ?_
                          first | refine tk_iaddN dX11_reach_188 ?_ | refine tk_iadd dX11_reach_188 ?_
                          refine tk_iald dX11_reach_189 (hR.t 71 rfl) (by omega) (by omega) ?_
                          simp only [va_up_self, bx_uu, tk_une, tk_usrt, not_false_eq_true, Nat.reduceEqDiff, Nat.reduceLT, Nat.reduceAdd, Nat.reduceMul, Nat.reduceLeDiff, reduceCtorEq]
                          rw [hcp.1]
                          refine tk_bald dX11_reach_190 (hR.t 76 rfl) (by omega) (by omega) ?_
                          simp only [va_up_self, bx_uu, tk_une, tk_usrt, not_false_eq_true, Nat.reduceEqDiff, Nat.reduceLT, Nat.reduceAdd, Nat.reduceMul, Nat.reduceLeDiff, reduceCtorEq]
                          rw [tkcp_lt hcl, tkcp_lt hi, if_neg (Nat.lt_irrefl i)]
                          refine tk_ior dX11_reach_191 ?_
                          rw [tkb_or]
                          refine tk_bast dX11_reach_192 (hR.t 75 rfl) (by omega) (by omega) (by first | exact tkb_nar _ | rfl | decide +kernel) ?_
                          first | refine tk_iinc3 dX11_reach_193 (kc_inc _) rfl ?_ | refine tk_iinc3 dX11_reach_193 rfl rfl ?_
                          refine tk_goto dX11_reach_196 ?_
                          simp only [va_up_self, bx_uu, tk_une, tk_usrt, not_false_eq_true, Nat.reduceEqDiff, Nat.reduceLT, Nat.reduceAdd, Nat.reduceMul, Nat.reduceLeDiff, reduceCtorEq]
                          rw [ra_up (I 75) hi]
                          refine k2 _ ?_
                          first | rw [show (rMo c N R p || anyB (fun j => cellA c N p (rRp c N R p) (c p j) && !rRp c N R p j) (i + 1)) = ((rMo c N R p || anyB (fun j => cellA c N p (rRp c N R p) (c p j) && !rRp c N R p j) i) || false) by rw [anyB, h148, Bool.false_and, Bool.or_false, Bool.or_false]] | rw [show (rMo c N R p || anyB (fun j => cellA c N p (rRp c N R p) (c p j) && !rRp c N R p j) (i + 1)) = ((rMo c N R p || anyB (fun j => cellA c N p (rRp c N R p) (c p j) && !rRp c N R p j) i) || false) by rw [anyB, h157, Bool.not_true, Bool.and_false, Bool.or_false, Bool.or_false]] | rw [show (rMo c N R p || anyB (fun j => cellA c N p (rRp c N R p) (c p j) && !rRp c N R p j) (i + 1)) = ((rMo c N R p || anyB (fun j => cellA c N p (rRp c N R p) (c p j) && !rRp c N R p j) i) || true) by rw [anyB, h148, h157, Bool.not_false, Bool.and_true, Bool.or_true, Bool.or_true, Bool.or_true]]
                          exact (by repeat' (first | exact trivial | refine ⟨Or.inl rfl, ?_⟩ | refine ⟨Or.inr rfl, ?_⟩))
                        · refine tk_aload0 dX11_reach_151 ?_
                          refine tk_getP dX11_reach_152 fX11_114 rfl hR.o (hR.p 42 rfl) ?_
                          refine tk_iload3 dX11_reach_155 ?_
                          refine tk_bald dX11_reach_156 (hR.t 75 rfl) (by omega) (by omega) ?_
                          simp only [va_up_self, bx_uu, tk_une, tk_usrt, not_false_eq_true, Nat.reduceEqDiff, Nat.reduceLT, Nat.reduceAdd, Nat.reduceMul, Nat.reduceLeDiff, reduceCtorEq]
                          rw [tkcp_lt hi, if_neg (Nat.lt_irrefl i)]
                          first | refine tk_jf_neB dX11_reach_157 (fun h157 => ?_) (fun h157 => ?_) | refine tk_if_ne dX11_reach_157 (fun h157 => ?_) (fun h157 => ?_)
                          · refine tk_iconst dX11_reach_164 kc_iconst_0 ?_
                            refine tk_ior dX11_reach_165 ?_
                            first | rw [show nI 1 = tkb true from rfl, tkb_or] | rw [show nI 0 = tkb false from rfl, tkb_or]
                            refine tk_istore1 dX11_reach_166 rfl ?_
                            refine tk_aload0 dX11_reach_167 ?_
                            refine tk_getP dX11_reach_168 fX11_114 rfl hR.o (hR.p 42 rfl) ?_
                            refine tk_iload3 dX11_reach_171 ?_
                            first | refine tk_dup2 dX11_reach_172 rfl rfl ?_ | refine tk_dup2L dX11_reach_172 ?_
                            refine tk_bald dX11_reach_173 (hR.t 75 rfl) (by omega) (by omega) ?_
                            refine tk_aload0 dX11_reach_174 ?_
                            refine tk_getP dX11_reach_175 fX11_118 rfl hR.o (hR.p 43 rfl) ?_
                            refine tk_aload0 dX11_reach_178 ?_
                            refine tk_getP dX11_reach_179 fX11_102 rfl hR.o (hR.p 38 rfl) ?_
                            refine tk_sipush dX11_reach_182 kc_sipush_128 ?_
                            refine tk_iload2 dX11_reach_185 ?_
                            first | refine tk_imulN dX11_reach_186 ?_ | refine tk_imul dX11_reach_186 ?_
                            refine tk_iload3 dX11_reach_187 ?_
                            first | refine tk_iaddN dX11_reach_188 ?_ | refine tk_iadd dX11_reach_188 ?_
                            refine tk_iald dX11_reach_189 (hR.t 71 rfl) (by omega) (by omega) ?_
                            simp only [va_up_self, bx_uu, tk_une, tk_usrt, not_false_eq_true, Nat.reduceEqDiff, Nat.reduceLT, Nat.reduceAdd, Nat.reduceMul, Nat.reduceLeDiff, reduceCtorEq]
                            rw [hcp.1]
                            refine tk_bald dX11_reach_190 (hR.t 76 rfl) (by omega) (by omega) ?_
                            simp only [va_up_self, bx_uu, tk_une, tk_usrt, not_false_eq_true, Nat.reduceEqDiff, Nat.reduceLT, Nat.reduceAdd, Nat.reduceMul, Nat.reduceLeDiff, reduceCtorEq]
                            rw [tkcp_lt hcl, tkcp_lt hi, if_neg (Nat.lt_irrefl i)]
                            refine tk_ior dX11_reach_191 ?_
                            rw [tkb_or]
                            refine tk_bast dX11_reach_192 (hR.t 75 rfl) (by omega) (by omega) (by first | exact tkb_nar _ | rfl | decide +kernel) ?_
                            first | refine tk_iinc3 dX11_reach_193 (kc_inc _) rfl ?_ | refine tk_iinc3 dX11_reach_193 rfl rfl ?_
                            refine tk_goto dX11_reach_196 ?_
                            simp only [va_up_self, bx_uu, tk_une, tk_usrt, not_false_eq_true, Nat.reduceEqDiff, Nat.reduceLT, Nat.reduceAdd, Nat.reduceMul, Nat.reduceLeDiff, reduceCtorEq]
                            rw [ra_up (I 75) hi]
                            refine k2 _ ?_
                            first | rw [show (rMo c N R p || anyB (fun j => cellA c N p (rRp c N R p) (c p j) && !rRp c N R p j) (i + 1)) = ((rMo c N R p || anyB (fun j => cellA c N p (rRp c N R p) (c p j) && !rRp c N R p j) i) || false) by rw [anyB, h148, Bool.false_and, Bool.or_false, Bool.or_false]] | rw [show (rMo c N R p || anyB (fun j => cellA c N p (rRp c N R p) (c p j) && !rRp c N R p j) (i + 1)) = ((rMo c N R p || anyB (fun j => cellA c N p (rRp c N R p) (c p j) && !rRp c N R p j) i) || false) by rw [anyB, h157, Bool.not_true, Bool.and_false, Bool.or_false, Bool.or_false]] | rw [show (rMo c N R p || anyB (fun j => cellA c N p (rRp c N R p) (c p j) && !rRp c N R p j) (i + 1)) = ((rMo c N R p || anyB (fun j => cellA c N p (rRp c N R p) (c p j) && !rRp c N R p j) i) || true) by rw [anyB, h148, h157, Bool.not_false, Bool.and_true, Bool.or_true, Bool.or_true, Bool.or_true]]
                            exact (by repeat' (first | exact trivial | refine ⟨Or.inl rfl, ?_⟩ | refine ⟨Or.inr rfl, ?_⟩))
                          · refine tk_iconst dX11_reach_160 kc_iconst_1 ?_
                            refine tk_goto dX11_reach_161 ?_
                            refine tk_ior dX11_reach_165 ?_
                            first | rw [show nI 1 = tkb true from rfl, tkb_or] | rw [show nI 0 = tkb false from rfl, tkb_or]
                            refine tk_istore1 dX11_reach_166 rfl ?_
                            refine tk_aload0 dX11_reach_167 ?_
                            refine tk_getP dX11_reach_168 fX11_114 rfl hR.o (hR.p 42 rfl) ?_
                            refine tk_iload3 dX11_reach_171 ?_
                            first | refine tk_dup2 dX11_reach_172 rfl rfl ?_ | refine tk_dup2L dX11_reach_172 ?_
                            refine tk_bald dX11_reach_173 (hR.t 75 rfl) (by omega) (by omega) ?_
                            refine tk_aload0 dX11_reach_174 ?_
                            refine tk_getP dX11_reach_175 fX11_118 rfl hR.o (hR.p 43 rfl) ?_
                            refine tk_aload0 dX11_reach_178 ?_
                            refine tk_getP dX11_reach_179 fX11_102 rfl hR.o (hR.p 38 rfl) ?_
                            refine tk_sipush dX11_reach_182 kc_sipush_128 ?_
                            refine tk_iload2 dX11_reach_185 ?_
                            first | refine tk_imulN dX11_reach_186 ?_ | refine tk_imul dX11_reach_186 ?_
                            refine tk_iload3 dX11_reach_187 ?_
                            first | refine tk_iaddN dX11_reach_188 ?_ | refine tk_iadd dX11_reach_188 ?_
                            refine tk_iald dX11_reach_189 (hR.t 71 rfl) (by omega) (by omega) ?_
                            simp only [va_up_self, bx_uu, tk_une, tk_usrt, not_false_eq_true, Nat.reduceEqDiff, Nat.reduceLT, Nat.reduceAdd, Nat.reduceMul, Nat.reduceLeDiff, reduceCtorEq]
                            rw [hcp.1]
                            refine tk_bald dX11_reach_190 (hR.t 76 rfl) (by omega) (by omega) ?_
                            simp only [va_up_self, bx_uu, tk_une, tk_usrt, not_false_eq_true, Nat.reduceEqDiff, Nat.reduceLT, Nat.reduceAdd, Nat.reduceMul, Nat.reduceLeDiff, reduceCtorEq]
                            rw [tkcp_lt hcl, tkcp_lt hi, if_neg (Nat.lt_irrefl i)]
                            refine tk_ior dX11_reach_191 ?_
                            rw [tkb_or]
                            refine tk_bast dX11_reach_192 (hR.t 75 rfl) (by omega) (by omega) (by first | exact tkb_nar _ | rfl | decide +kernel) ?_
                            first | refine tk_iinc3 dX11_reach_193 (kc_inc _) rfl ?_ | refine tk_iinc3 dX11_reach_193 rfl rfl ?_
                            refine tk_goto dX11_reach_196 ?_
                            simp only [va_up_self, bx_uu, tk_une, tk_usrt, not_false_eq_true, Nat.reduceEqDiff, Nat.reduceLT, Nat.reduceAdd, Nat.reduceMul, Nat.reduceLeDiff, reduceCtorEq]
                            rw [ra_up (I 75) hi]
                            refine k2 _ ?_
                            first | rw [show (rMo c N R p || anyB (fun j => cellA c N p (rRp c N R p) (c p j) && !rRp c N R p j) (i + 1)) = ((rMo c N R p || anyB (fun j => cellA c N p (rRp c N R p) (c p j) && !rRp c N R p j) i) || false) by rw [anyB, h148, Bool.false_and, Bool.or_false, Bool.or_false]] | rw [show (rMo c N R p || anyB (fun j => cellA c N p (rRp c N R p) (c p j) && !rRp c N R p j) (i + 1)) = ((rMo c N R p || anyB (fun j => cellA c N p (rRp c N R p) (c p j) && !rRp c N R p j) i) || false) by rw [anyB, h157, Bool.not_true, Bool.and_false, Bool.or_false, Bool.or_false]] | rw [show (rMo c N R p || anyB (fun j => cellA c N p (rRp c N R p) (c p j) && !rRp c N R p j) (i + 1)) = ((rMo c N R p || anyB (fun j => cellA c N p (rRp c N R p) (c p j) && !rRp c N R p j) i) || true) by rw [anyB, h148, h157, Bool.not_false, Bool.and_true, Bool.or_true, Bool.or_true, Bool.or_true]]
                            exact (by repeat' (first | exact trivial | refine ⟨Or.inl rfl, ?_⟩ | refine ⟨Or.inr rfl, ?_⟩))
                  · exfalso; omega
                · intro i _ hi k
                  have hcp := hc p (by omega) i hi
                  refine tk_iload3 dX11_reach_80 ?_
                  refine tk_aload0 dX11_reach_81 ?_
                  refine tk_getI dX11_reach_82 fX11_256 rfl hR.o ?_
                  simp only [va_up_self, bx_uu, tk_une, tk_usrt, not_false_eq_true, Nat.reduceEqDiff, Nat.reduceLT, Nat.reduceAdd, Nat.reduceMul, Nat.reduceLeDiff, reduceCtorEq, hN]
                  first | refine tk_icmp_geN dX11_reach_85 (by omega) (by omega) (fun h85 => ?_) (fun h85 => ?_) | refine tk_jcmp_ge dX11_reach_85 (fun h85 => ?_) (fun h85 => ?_)
                  · exfalso; omega
                  · refine tk_aload0 dX11_reach_88 ?_
                    refine tk_getP dX11_reach_89 fX11_118 rfl hR.o (hR.p 43 rfl) ?_
                    refine tk_aload0 dX11_reach_92 ?_
                    refine tk_getP dX11_reach_93 fX11_102 rfl hR.o (hR.p 38 rfl) ?_
                    refine tk_sipush dX11_reach_96 kc_sipush_128 ?_
                    refine tk_iload2 dX11_reach_99 ?_
                    first | refine tk_imulN dX11_reach_100 ?_ | refine tk_imul dX11_reach_100 ?_
                    refine tk_iload3 dX11_reach_101 ?_
                    first | refine tk_iaddN dX11_reach_102 ?_ | refine tk_iadd dX11_reach_102 ?_
                    refine tk_iald dX11_reach_103 (hR.t 71 rfl) (by omega) (by omega) ?_
                    simp only [va_up_self, bx_uu, tk_une, tk_usrt, not_false_eq_true, Nat.reduceEqDiff, Nat.reduceLT, Nat.reduceAdd, Nat.reduceMul, Nat.reduceLeDiff, reduceCtorEq]
                    rw [hcp.1]
                    have hcl := hcp.2
                    first | refine tk_dup2 dX11_reach_104 rfl rfl ?_ | refine tk_dup2L dX11_reach_104 ?_
                    refine tk_bald dX11_reach_105 (hR.t 76 rfl) (by omega) (by omega) ?_
                    refine tk_aload0 dX11_reach_106 ?_
                    refine tk_getP dX11_reach_107 fX11_114 rfl hR.o (hR.p 42 rfl) ?_
                    refine tk_iload3 dX11_reach_110 ?_
                    refine tk_bald dX11_reach_111 (hR.t 75 rfl) (by omega) (by omega) ?_
                    simp only [va_up_self, bx_uu, tk_une, tk_usrt, not_false_eq_true, Nat.reduceEqDiff, Nat.reduceLT, Nat.reduceAdd, Nat.reduceMul, Nat.reduceLeDiff, reduceCtorEq]
                    rw [tkcp_lt hcl, tkcp_lt hi]
                    refine tk_ior dX11_reach_112 ?_
                    rw [tkb_or]
                    refine tk_bast dX11_reach_113 (hR.t 76 rfl) (by omega) (by omega) (by first | exact tkb_nar _ | rfl | decide +kernel) ?_
                    first | refine tk_iinc3 dX11_reach_114 (kc_inc _) rfl ?_ | refine tk_iinc3 dX11_reach_114 rfl rfl ?_
                    refine tk_goto dX11_reach_117 ?_
                    simp only [va_up_self, bx_uu, tk_une, tk_usrt, not_false_eq_true, Nat.reduceEqDiff, Nat.reduceLT, Nat.reduceAdd, Nat.reduceMul, Nat.reduceLeDiff, reduceCtorEq]
                    rw [ra_step g _ c hcl]
                    exact k _ (by repeat' (first | exact trivial | refine ⟨Or.inl rfl, ?_⟩ | refine ⟨Or.inr rfl, ?_⟩))
              · exfalso; omega
            · intro i _ hi k
              refine tk_iload3 dX11_reach_57 ?_
              refine tk_aload0 dX11_reach_58 ?_
              refine tk_getI dX11_reach_59 fX11_256 rfl hR.o ?_
              simp only [va_up_self, bx_uu, tk_une, tk_usrt, not_false_eq_true, Nat.reduceEqDiff, Nat.reduceLT, Nat.reduceAdd, Nat.reduceMul, Nat.reduceLeDiff, reduceCtorEq, hN]
              first | refine tk_icmp_geN dX11_reach_62 (by omega) (by omega) (fun h62 => ?_) (fun h62 => ?_) | refine tk_jcmp_ge dX11_reach_62 (fun h62 => ?_) (fun h62 => ?_)
              · exfalso; omega
              · refine tk_aload0 dX11_reach_65 ?_
                refine tk_getP dX11_reach_66 fX11_118 rfl hR.o (hR.p 43 rfl) ?_
                refine tk_iload3 dX11_reach_69 ?_
                refine tk_iconst dX11_reach_70 kc_iconst_0 ?_
                refine tk_bast dX11_reach_71 (hR.t 76 rfl) (by omega) (by omega) (by first | exact tkb_nar _ | rfl | decide +kernel) ?_
                first | refine tk_iinc3 dX11_reach_72 (kc_inc _) rfl ?_ | refine tk_iinc3 dX11_reach_72 rfl rfl ?_
                refine tk_goto dX11_reach_75 ?_
                simp only [va_up_self, bx_uu, tk_une, tk_usrt, not_false_eq_true, Nat.reduceEqDiff, Nat.reduceLT, Nat.reduceAdd, Nat.reduceMul, Nat.reduceLeDiff, reduceCtorEq]
                rw [tkcp_s g (fun _ => nI 0)]
                exact k _ (by repeat' (first | exact trivial | refine ⟨Or.inl rfl, ?_⟩ | refine ⟨Or.inr rfl, ?_⟩))
    | succ m ih =>
      intro R g hm h1 h2
      refine tk_iload1 dX11_reach_37 ?_
      first | refine tk_jf_eqB dX11_reach_38 (fun h38 => ?_) (fun h38 => ?_) | refine tk_if_eq dX11_reach_38 (fun h38 => ?_) (fun h38 => ?_)
      · cases h38
      · refine tk_iconst dX11_reach_41 kc_iconst_0 ?_
        refine tk_istore1 dX11_reach_42 rfl ?_
        refine tk_iconst dX11_reach_43 kc_iconst_0 ?_
        refine tk_istore2 dX11_reach_44 rfl ?_
        refine tk_frR (σ := Nat → Int32) 0 np (fun p _ => [some (vR 40), some (vI (tkb (rMo c N R p))), some (vI (nI p)), none]) (fun p g => (n, T, va_up (va_up I 75 (tkcp (I 75) (fun w => tkb (rRp c N R p w)) N)) 76 g, L, P)) g (by omega) (by repeat' (first | exact trivial | refine ⟨Or.inl rfl, ?_⟩ | refine ⟨Or.inr rfl, ?_⟩)) rfl ?_ ?_
        · intro g
          cases hmo : rMo c N R np with
          | false =>
            refine tk_iload2 dX11_reach_45 ?_
            refine tk_aload0 dX11_reach_46 ?_
            refine tk_getP dX11_reach_47 fX11_7 rfl hR.o (hR.p 0 rfl) ?_
            refine tk_iconst dX11_reach_50 kc_iconst_0 ?_
            refine tk_iald dX11_reach_51 (hR.t 41 rfl) (by omega) (by omega) ?_
            simp only [va_up_self, bx_uu, tk_une, tk_usrt, not_false_eq_true, Nat.reduceEqDiff, Nat.reduceLT, Nat.reduceAdd, Nat.reduceMul, Nat.reduceLeDiff, reduceCtorEq, hnp]
            first | refine tk_icmp_geN dX11_reach_52 (by omega) (by omega) (fun h52 => ?_) (fun h52 => ?_) | refine tk_jcmp_ge dX11_reach_52 (fun h52 => ?_) (fun h52 => ?_)
            · refine tk_goto dX11_reach_205 ?_
              refine tk_wk ?_ (out (rRp c N R np) g none none ⟨rRp_mono h1 np, ?_, fun S s1 s2 => rRp_sub s2 (h2 S s1 s2) np (Nat.le_refl np)⟩)
              · exact (by repeat' (first | exact trivial | refine ⟨Or.inl rfl, ?_⟩ | refine ⟨Or.inr rfl, ?_⟩))
              · have hcls := rMo_cls hmo
                intro p hp u hu w hw e hr9
                rw [rMo_f np hmo np (Nat.le_refl np) u hu] at hr9
                rw [rMo_f np hmo np (Nat.le_refl np) w hw]
                exact hcls p hp u hu w hw e hr9
            · exfalso; omega
          | true =>
            refine tk_iload2 dX11_reach_45 ?_
            refine tk_aload0 dX11_reach_46 ?_
            refine tk_getP dX11_reach_47 fX11_7 rfl hR.o (hR.p 0 rfl) ?_
            refine tk_iconst dX11_reach_50 kc_iconst_0 ?_
            refine tk_iald dX11_reach_51 (hR.t 41 rfl) (by omega) (by omega) ?_
            simp only [va_up_self, bx_uu, tk_une, tk_usrt, not_false_eq_true, Nat.reduceEqDiff, Nat.reduceLT, Nat.reduceAdd, Nat.reduceMul, Nat.reduceLeDiff, reduceCtorEq, hnp]
            first | refine tk_icmp_geN dX11_reach_52 (by omega) (by omega) (fun h52 => ?_) (fun h52 => ?_) | refine tk_jcmp_ge dX11_reach_52 (fun h52 => ?_) (fun h52 => ?_)
            · refine tk_goto dX11_reach_205 ?_
              refine tk_wk ?_ (ih (rRp c N R np) g ?_ (rRp_mono h1 np) (fun S s1 s2 => rRp_sub s2 (h2 S s1 s2) np (Nat.le_refl np)))
              · exact (by repeat' (first | exact trivial | refine ⟨Or.inl rfl, ?_⟩ | refine ⟨Or.inr rfl, ?_⟩))
              · have q1 := rMo_t np hmo
                omega
            · exfalso; omega
        · intro p g _ hp k
          refine tk_iload2 dX11_reach_45 ?_
          refine tk_aload0 dX11_reach_46 ?_
          refine tk_getP dX11_reach_47 fX11_7 rfl hR.o (hR.p 0 rfl) ?_
          refine tk_iconst dX11_reach_50 kc_iconst_0 ?_
          refine tk_iald dX11_reach_51 (hR.t 41 rfl) (by omega) (by omega) ?_
          simp only [va_up_self, bx_uu, tk_une, tk_usrt, not_false_eq_true, Nat.reduceEqDiff, Nat.reduceLT, Nat.reduceAdd, Nat.reduceMul, Nat.reduceLeDiff, reduceCtorEq, hnp]
          first | refine tk_icmp_geN dX11_reach_52 (by omega) (by omega) (fun h52 => ?_) (fun h52 => ?_) | refine tk_jcmp_ge dX11_reach_52 (fun h52 => ?_) (fun h52 => ?_)
          · exfalso; omega
          · refine tk_iconst dX11_reach_55 kc_iconst_0 ?_
            refine tk_istore3 dX11_reach_56 rfl ?_
            refine tk_fr 0 N (fun i => [some (vR 40), some (vI (tkb (rMo c N R p))), some (vI (nI p)), some (vI (nI i))]) (fun i => (n, T, va_up (va_up I 75 (tkcp (I 75) (fun w => tkb (rRp c N R p w)) N)) 76 (tkcp g (fun _ => nI 0) i), L, P)) (by omega) (by repeat' (first | exact trivial | refine ⟨Or.inl rfl, ?_⟩ | refine ⟨Or.inr rfl, ?_⟩)) (by rw [tkcp_0]) ?_ ?_
            · refine tk_iload3 dX11_reach_57 ?_
              refine tk_aload0 dX11_reach_58 ?_
              refine tk_getI dX11_reach_59 fX11_256 rfl hR.o ?_
              simp only [va_up_self, bx_uu, tk_une, tk_usrt, not_false_eq_true, Nat.reduceEqDiff, Nat.reduceLT, Nat.reduceAdd, Nat.reduceMul, Nat.reduceLeDiff, reduceCtorEq, hN]
              first | refine tk_icmp_geN dX11_reach_62 (by omega) (by omega) (fun h62 => ?_) (fun h62 => ?_) | refine tk_jcmp_ge dX11_reach_62 (fun h62 => ?_) (fun h62 => ?_)
              · refine tk_iconst dX11_reach_78 kc_iconst_0 ?_
                refine tk_istore3 dX11_reach_79 rfl ?_
                refine tk_fr 0 N (fun i => [some (vR 40), some (vI (tkb (rMo c N R p))), some (vI (nI p)), some (vI (nI i))]) (fun i => (n, T, va_up (va_up I 75 (tkcp (I 75) (fun w => tkb (rRp c N R p w)) N)) 76 (tkcp g (fun j => tkb (anyB (fun u => rRp c N R p u && decide (c p u = j)) i)) N), L, P)) (by omega) (by repeat' (first | exact trivial | refine ⟨Or.inl rfl, ?_⟩ | refine ⟨Or.inr rfl, ?_⟩)) rfl ?_ ?_
                · refine tk_iload3 dX11_reach_80 ?_
                  refine tk_aload0 dX11_reach_81 ?_
                  refine tk_getI dX11_reach_82 fX11_256 rfl hR.o ?_
                  simp only [va_up_self, bx_uu, tk_une, tk_usrt, not_false_eq_true, Nat.reduceEqDiff, Nat.reduceLT, Nat.reduceAdd, Nat.reduceMul, Nat.reduceLeDiff, reduceCtorEq, hN]
                  first | refine tk_icmp_geN dX11_reach_85 (by omega) (by omega) (fun h85 => ?_) (fun h85 => ?_) | refine tk_jcmp_ge dX11_reach_85 (fun h85 => ?_) (fun h85 => ?_)
                  · refine tk_iconst dX11_reach_120 kc_iconst_0 ?_
                    refine tk_istore3 dX11_reach_121 rfl ?_
                    refine tk_fr 0 N (fun i => [some (vR 40), some (vI (tkb (rMo c N R p || anyB (fun j => cellA c N p (rRp c N R p) (c p j) && !rRp c N R p j) i))), some (vI (nI p)), some (vI (nI i))]) (fun i => (n, T, va_up (va_up I 75 (tkcp (I 75) (fun w => tkb (if w < i then rRp c N R (p + 1) w else rRp c N R p w)) N)) 76 (tkcp g (fun j => tkb (cellA c N p (rRp c N R p) j)) N), L, P)) (by omega) ?_ ?_ ?_ ?_
                    · rw [show (rMo c N R p || anyB (fun j => cellA c N p (rRp c N R p) (c p j) && !rRp c N R p j) 0) = rMo c N R p from Bool.or_false _]; exact (by repeat' (first | exact trivial | refine ⟨Or.inl rfl, ?_⟩ | refine ⟨Or.inr rfl, ?_⟩))
                    · simp only [Nat.not_lt_zero, if_false]; rfl
                    · refine tk_iload3 dX11_reach_122 ?_
                      refine tk_aload0 dX11_reach_123 ?_
                      refine tk_getI dX11_reach_124 fX11_256 rfl hR.o ?_
                      simp only [va_up_self, bx_uu, tk_une, tk_usrt, not_false_eq_true, Nat.reduceEqDiff, Nat.reduceLT, Nat.reduceAdd, Nat.reduceMul, Nat.reduceLeDiff, reduceCtorEq, hN]
                      first | refine tk_icmp_geN dX11_reach_127 (by omega) (by omega) (fun h127 => ?_) (fun h127 => ?_) | refine tk_jcmp_ge dX11_reach_127 (fun h127 => ?_) (fun h127 => ?_)
                      · first | refine tk_iinc2 dX11_reach_199 (kc_inc _) rfl ?_ | refine tk_iinc2 dX11_reach_199 rfl rfl ?_
                        refine tk_goto dX11_reach_202 ?_
                        rw [ra_fin (I 75)]
                        refine k _ _ ?_
                        exact (by repeat' (first | exact trivial | refine ⟨Or.inl rfl, ?_⟩ | refine ⟨Or.inr rfl, ?_⟩))
                      · exfalso; omega
                    · intro i _ hi k2
                      have hcp := hc p (by omega) i hi
                      have hcl := hcp.2
                      have e1 : ∀ (I' : Nat → Nat → Int32), (I' 71 (128 * p + i) = I 71 (128 * p + i)) → I' 71 (128 * p + i) = nI (c p i) := fun I' h => h.trans hcp.1
                      refine tk_iload3 dX11_reach_122 ?_
                      refine tk_aload0 dX11_reach_123 ?_
                      refine tk_getI dX11_reach_124 fX11_256 rfl hR.o ?_
                      simp only [va_up_self, bx_uu, tk_une, tk_usrt, not_false_eq_true, Nat.reduceEqDiff, Nat.reduceLT, Nat.reduceAdd, Nat.reduceMul, Nat.reduceLeDiff, reduceCtorEq, hN]
                      first | refine tk_icmp_geN dX11_reach_127 (by omega) (by omega) (fun h127 => ?_) (fun h127 => ?_) | refine tk_jcmp_ge dX11_reach_127 (fun h127 => ?_) (fun h127 => ?_)
                      · exfalso; omega
                      · refine tk_iload1 dX11_reach_130 ?_
                        refine tk_aload0 dX11_reach_131 ?_
                        refine tk_getP dX11_reach_132 fX11_118 rfl hR.o (hR.p 43 rfl) ?_
                        refine tk_aload0 dX11_reach_135 ?_
                        refine tk_getP dX11_reach_136 fX11_102 rfl hR.o (hR.p 38 rfl) ?_
                        refine tk_sipush dX11_reach_139 kc_sipush_128 ?_
                        refine tk_iload2 dX11_reach_142 ?_
                        first | refine tk_imulN dX11_reach_143 ?_ | refine tk_imul dX11_reach_143 ?_
                        refine tk_iload3 dX11_reach_144 ?_
                        first | refine tk_iaddN dX11_reach_145 ?_ | refine tk_iadd dX11_reach_145 ?_
                        refine tk_iald dX11_reach_146 (hR.t 71 rfl) (by omega) (by omega) ?_
                        simp only [va_up_self, bx_uu, tk_une, tk_usrt, not_false_eq_true, Nat.reduceEqDiff, Nat.reduceLT, Nat.reduceAdd, Nat.reduceMul, Nat.reduceLeDiff, reduceCtorEq]
                        rw [hcp.1]
                        refine tk_bald dX11_reach_147 (hR.t 76 rfl) (by omega) (by omega) ?_
                        simp only [va_up_self, bx_uu, tk_une, tk_usrt, not_false_eq_true, Nat.reduceEqDiff, Nat.reduceLT, Nat.reduceAdd, Nat.reduceMul, Nat.reduceLeDiff, reduceCtorEq]
                        rw [tkcp_lt hcl]
                        first | refine tk_jf_eqB dX11_reach_148 (fun h148 => ?_) (fun h148 => ?_) | refine tk_if_eq dX11_reach_148 (fun h148 => ?_) (fun h148 => ?_)
                        · refine tk_iconst dX11_reach_164 kc_iconst_0 ?_
                          refine tk_ior dX11_reach_165 ?_
                          first | rw [show nI 1 = tkb true from rfl, tkb_or] | rw [show nI 0 = tkb false from rfl, tkb_or]
                          refine tk_istore1 dX11_reach_166 rfl ?_
                          refine tk_aload0 dX11_reach_167 ?_
                          refine tk_getP dX11_reach_168 fX11_114 rfl hR.o (hR.p 42 rfl) ?_
                          refine tk_iload3 dX11_reach_171 ?_
                          first | refine tk_dup2 dX11_reach_172 rfl rfl ?_ | refine tk_dup2L dX11_reach_172 ?_
                          refine tk_bald dX11_reach_173 (hR.t 75 rfl) (by omega) (by omega) ?_
                          refine tk_aload0 dX11_reach_174 ?_
                          refine tk_getP dX11_reach_175 fX11_118 rfl hR.o (hR.p 43 rfl) ?_
                          refine tk_aload0 dX11_reach_178 ?_
                          refine tk_getP dX11_reach_179 fX11_102 rfl hR.o (hR.p 38 rfl) ?_
                          refine tk_sipush dX11_reach_182 kc_sipush_128 ?_
                          refine tk_iload2 dX11_reach_185 ?_
                          first | refine tk_imulN dX11_reach_186 ?_ | refine tk_imul dX11_reach_186 ?_
                          refine tk_iload3 dX11_reach_187 ?_
                          first | refine tk_iaddN dX11_reach_188 ?_ | refine tk_iadd dX11_reach_188 ?_
                          refine tk_iald dX11_reach_189 (hR.t 71 rfl) (by omega) (by omega) ?_
                          simp only [va_up_self, bx_uu, tk_une, tk_usrt, not_false_eq_true, Nat.reduceEqDiff, Nat.reduceLT, Nat.reduceAdd, Nat.reduceMul, Nat.reduceLeDiff, reduceCtorEq]
                          rw [hcp.1]
                          refine tk_bald dX11_reach_190 (hR.t 76 rfl) (by omega) (by omega) ?_
                          simp only [va_up_self, bx_uu, tk_une, tk_usrt, not_false_eq_true, Nat.reduceEqDiff, Nat.reduceLT, Nat.reduceAdd, Nat.reduceMul, Nat.reduceLeDiff, reduceCtorEq]
                          rw [tkcp_lt hcl, tkcp_lt hi, if_neg (Nat.lt_irrefl i)]
                          refine tk_ior dX11_reach_191 ?_
                          rw [tkb_or]
                          refine tk_bast dX11_reach_192 (hR.t 75 rfl) (by omega) (by omega) (by first | exact tkb_nar _ | rfl | decide +kernel) ?_
                          first | refine tk_iinc3 dX11_reach_193 (kc_inc _) rfl ?_ | refine tk_iinc3 dX11_reach_193 rfl rfl ?_
                          refine tk_goto dX11_reach_196 ?_
                          simp only [va_up_self, bx_uu, tk_une, tk_usrt, not_false_eq_true, Nat.reduceEqDiff, Nat.reduceLT, Nat.reduceAdd, Nat.reduceMul, Nat.reduceLeDiff, reduceCtorEq]
                          rw [ra_up (I 75) hi]
                          refine k2 _ ?_
                          first | rw [show (rMo c N R p || anyB (fun j => cellA c N p (rRp c N R p) (c p j) && !rRp c N R p j) (i + 1)) = ((rMo c N R p || anyB (fun j => cellA c N p (rRp c N R p) (c p j) && !rRp c N R p j) i) || false) by rw [anyB, h148, Bool.false_and, Bool.or_false, Bool.or_false]] | rw [show (rMo c N R p || anyB (fun j => cellA c N p (rRp c N R p) (c p j) && !rRp c N R p j) (i + 1)) = ((rMo c N R p || anyB (fun j => cellA c N p (rRp c N R p) (c p j) && !rRp c N R p j) i) || false) by rw [anyB, h157, Bool.not_true, Bool.and_false, Bool.or_false, Bool.or_false]] | rw [show (rMo c N R p || anyB (fun j => cellA c N p (rRp c N R p) (c p j) && !rRp c N R p j) (i + 1)) = ((rMo c N R p || anyB (fun j => cellA c N p (rRp c N R p) (c p j) && !rRp c N R p j) i) || true) by rw [anyB, h148, h157, Bool.not_false, Bool.and_true, Bool.or_true, Bool.or_true, Bool.or_true]]
                          exact (by repeat' (first | exact trivial | refine ⟨Or.inl rfl, ?_⟩ | refine ⟨Or.inr rfl, ?_⟩))
                        · refine tk_aload0 dX11_reach_151 ?_
                          refine tk_getP dX11_reach_152 fX11_114 rfl hR.o (hR.p 42 rfl) ?_
                          refine tk_iload3 dX11_reach_155 ?_
                          refine tk_bald dX11_reach_156 (hR.t 75 rfl) (by omega) (by omega) ?_
                          simp only [va_up_self, bx_uu, tk_une, tk_usrt, not_false_eq_true, Nat.reduceEqDiff, Nat.reduceLT, Nat.reduceAdd, Nat.reduceMul, Nat.reduceLeDiff, reduceCtorEq]
                          rw [tkcp_lt hi, if_neg (Nat.lt_irrefl i)]
                          first | refine tk_jf_neB dX11_reach_157 (fun h157 => ?_) (fun h157 => ?_) | refine tk_if_ne dX11_reach_157 (fun h157 => ?_) (fun h157 => ?_)
                          · refine tk_iconst dX11_reach_164 kc_iconst_0 ?_
                            refine tk_ior dX11_reach_165 ?_
                            first | rw [show nI 1 = tkb true from rfl, tkb_or] | rw [show nI 0 = tkb false from rfl, tkb_or]
                            refine tk_istore1 dX11_reach_166 rfl ?_
                            refine tk_aload0 dX11_reach_167 ?_
                            refine tk_getP dX11_reach_168 fX11_114 rfl hR.o (hR.p 42 rfl) ?_
                            refine tk_iload3 dX11_reach_171 ?_
                            first | refine tk_dup2 dX11_reach_172 rfl rfl ?_ | refine tk_dup2L dX11_reach_172 ?_
                            refine tk_bald dX11_reach_173 (hR.t 75 rfl) (by omega) (by omega) ?_
                            refine tk_aload0 dX11_reach_174 ?_
                            refine tk_getP dX11_reach_175 fX11_118 rfl hR.o (hR.p 43 rfl) ?_
                            refine tk_aload0 dX11_reach_178 ?_
                            refine tk_getP dX11_reach_179 fX11_102 rfl hR.o (hR.p 38 rfl) ?_
                            refine tk_sipush dX11_reach_182 kc_sipush_128 ?_
                            refine tk_iload2 dX11_reach_185 ?_
                            first | refine tk_imulN dX11_reach_186 ?_ | refine tk_imul dX11_reach_186 ?_
                            refine tk_iload3 dX11_reach_187 ?_
                            first | refine tk_iaddN dX11_reach_188 ?_ | refine tk_iadd dX11_reach_188 ?_
                            refine tk_iald dX11_reach_189 (hR.t 71 rfl) (by omega) (by omega) ?_
                            simp only [va_up_self, bx_uu, tk_une, tk_usrt, not_false_eq_true, Nat.reduceEqDiff, Nat.reduceLT, Nat.reduceAdd, Nat.reduceMul, Nat.reduceLeDiff, reduceCtorEq]
                            rw [hcp.1]
                            refine tk_bald dX11_reach_190 (hR.t 76 rfl) (by omega) (by omega) ?_
                            simp only [va_up_self, bx_uu, tk_une, tk_usrt, not_false_eq_true, Nat.reduceEqDiff, Nat.reduceLT, Nat.reduceAdd, Nat.reduceMul, Nat.reduceLeDiff, reduceCtorEq]
                            rw [tkcp_lt hcl, tkcp_lt hi, if_neg (Nat.lt_irrefl i)]
                            refine tk_ior dX11_reach_191 ?_
                            rw [tkb_or]
                            refine tk_bast dX11_reach_192 (hR.t 75 rfl) (by omega) (by omega) (by first | exact tkb_nar _ | rfl | decide +kernel) ?_
                            first | refine tk_iinc3 dX11_reach_193 (kc_inc _) rfl ?_ | refine tk_iinc3 dX11_reach_193 rfl rfl ?_
                            refine tk_goto dX11_reach_196 ?_
                            simp only [va_up_self, bx_uu, tk_une, tk_usrt, not_false_eq_true, Nat.reduceEqDiff, Nat.reduceLT, Nat.reduceAdd, Nat.reduceMul, Nat.reduceLeDiff, reduceCtorEq]
                            rw [ra_up (I 75) hi]
                            refine k2 _ ?_
                            first | rw [show (rMo c N R p || anyB (fun j => cellA c N p (rRp c N R p) (c p j) && !rRp c N R p j) (i + 1)) = ((rMo c N R p || anyB (fun j => cellA c N p (rRp c N R p) (c p j) && !rRp c N R p j) i) || false) by rw [anyB, h148, Bool.false_and, Bool.or_false, Bool.or_false]] | rw [show (rMo c N R p || anyB (fun j => cellA c N p (rRp c N R p) (c p j) && !rRp c N R p j) (i + 1)) = ((rMo c N R p || anyB (fun j => cellA c N p (rRp c N R p) (c p j) && !rRp c N R p j) i) || false) by rw [anyB, h157, Bool.not_true, Bool.and_false, Bool.or_false, Bool.or_false]] | rw [show (rMo c N R p || anyB (fun j => cellA c N p (rRp c N R p) (c p j) && !rRp c N R p j) (i + 1)) = ((rMo c N R p || anyB (fun j => cellA c N p (rRp c N R p) (c p j) && !rRp c N R p j) i) || true) by rw [anyB, h148, h157, Bool.not_false, Bool.and_true, Bool.or_true, Bool.or_true, Bool.or_true]]
                            exact (by repeat' (first | exact trivial | refine ⟨Or.inl rfl, ?_⟩ | refine ⟨Or.inr rfl, ?_⟩))
                          · refine tk_iconst dX11_reach_160 kc_iconst_1 ?_
                            refine tk_goto dX11_reach_161 ?_
                            refine tk_ior dX11_reach_165 ?_
                            first | rw [show nI 1 = tkb true from rfl, tkb_or] | rw [show nI 0 = tkb false from rfl, tkb_or]
                            refine tk_istore1 dX11_reach_166 rfl ?_
                            refine tk_aload0 dX11_reach_167 ?_
                            refine tk_getP dX11_reach_168 fX11_114 rfl hR.o (hR.p 42 rfl) ?_
                            refine tk_iload3 dX11_reach_171 ?_
                            first | refine tk_dup2 dX11_reach_172 rfl rfl ?_ | refine tk_dup2L dX11_reach_172 ?_
                            refine tk_bald dX11_reach_173 (hR.t 75 rfl) (by omega) (by omega) ?_
                            refine tk_aload0 dX11_reach_174 ?_
                            refine tk_getP dX11_reach_175 fX11_118 rfl hR.o (hR.p 43 rfl) ?_
                            refine tk_aload0 dX11_reach_178 ?_
                            refine tk_getP dX11_reach_179 fX11_102 rfl hR.o (hR.p 38 rfl) ?_
                            refine tk_sipush dX11_reach_182 kc_sipush_128 ?_
                            refine tk_iload2 dX11_reach_185 ?_
                            first | refine tk_imulN dX11_reach_186 ?_ | refine tk_imul dX11_reach_186 ?_
                            refine tk_iload3 dX11_reach_187 ?_
                            first | refine tk_iaddN dX11_reach_188 ?_ | refine tk_iadd dX11_reach_188 ?_
                            refine tk_iald dX11_reach_189 (hR.t 71 rfl) (by omega) (by omega) ?_
                            simp only [va_up_self, bx_uu, tk_une, tk_usrt, not_false_eq_true, Nat.reduceEqDiff, Nat.reduceLT, Nat.reduceAdd, Nat.reduceMul, Nat.reduceLeDiff, reduceCtorEq]
                            rw [hcp.1]
                            refine tk_bald dX11_reach_190 (hR.t 76 rfl) (by omega) (by omega) ?_
                            simp only [va_up_self, bx_uu, tk_une, tk_usrt, not_false_eq_true, Nat.reduceEqDiff, Nat.reduceLT, Nat.reduceAdd, Nat.reduceMul, Nat.reduceLeDiff, reduceCtorEq]
                            rw [tkcp_lt hcl, tkcp_lt hi, if_neg (Nat.lt_irrefl i)]
                            refine tk_ior dX11_reach_191 ?_
                            rw [tkb_or]
                            refine tk_bast dX11_reach_192 (hR.t 75 rfl) (by omega) (by omega) (by first | exact tkb_nar _ | rfl | decide +kernel) ?_
                            first | refine tk_iinc3 dX11_reach_193 (kc_inc _) rfl ?_ | refine tk_iinc3 dX11_reach_193 rfl rfl ?_
                            refine tk_goto dX11_reach_196 ?_
                            simp only [va_up_self, bx_uu, tk_une, tk_usrt, not_false_eq_true, Nat.reduceEqDiff, Nat.reduceLT, Nat.reduceAdd, Nat.reduceMul, Nat.reduceLeDiff, reduceCtorEq]
                            rw [ra_up (I 75) hi]
                            refine k2 _ ?_
                            first | rw [show (rMo c N R p || anyB (fun j => cellA c N p (rRp c N R p) (c p j) && !rRp c N R p j) (i + 1)) = ((rMo c N R p || anyB (fun j => cellA c N p (rRp c N R p) (c p j) && !rRp c N R p j) i) || false) by rw [anyB, h148, Bool.false_and, Bool.or_false, Bool.or_false]] | rw [show (rMo c N R p || anyB (fun j => cellA c N p (rRp c N R p) (c p j) && !rRp c N R p j) (i + 1)) = ((rMo c N R p || anyB (fun j => cellA c N p (rRp c N R p) (c p j) && !rRp c N R p j) i) || false) by rw [anyB, h157, Bool.not_true, Bool.and_false, Bool.or_false, Bool.or_false]] | rw [show (rMo c N R p || anyB (fun j => cellA c N p (rRp c N R p) (c p j) && !rRp c N R p j) (i + 1)) = ((rMo c N R p || anyB (fun j => cellA c N p (rRp c N R p) (c p j) && !rRp c N R p j) i) || true) by rw [anyB, h148, h157, Bool.not_false, Bool.and_true, Bool.or_true, Bool.or_true, Bool.or_true]]
                            exact (by repeat' (first | exact trivial | refine ⟨Or.inl rfl, ?_⟩ | refine ⟨Or.inr rfl, ?_⟩))
                  · exfalso; omega
                · intro i _ hi k
                  have hcp := hc p (by omega) i hi
                  refine tk_iload3 dX11_reach_80 ?_
                  refine tk_aload0 dX11_reach_81 ?_
                  refine tk_getI dX11_reach_82 fX11_256 rfl hR.o ?_
                  simp only [va_up_self, bx_uu, tk_une, tk_usrt, not_false_eq_true, Nat.reduceEqDiff, Nat.reduceLT, Nat.reduceAdd, Nat.reduceMul, Nat.reduceLeDiff, reduceCtorEq, hN]
                  first | refine tk_icmp_geN dX11_reach_85 (by omega) (by omega) (fun h85 => ?_) (fun h85 => ?_) | refine tk_jcmp_ge dX11_reach_85 (fun h85 => ?_) (fun h85 => ?_)
                  · exfalso; omega
                  · refine tk_aload0 dX11_reach_88 ?_
                    refine tk_getP dX11_reach_89 fX11_118 rfl hR.o (hR.p 43 rfl) ?_
                    refine tk_aload0 dX11_reach_92 ?_
                    refine tk_getP dX11_reach_93 fX11_102 rfl hR.o (hR.p 38 rfl) ?_
                    refine tk_sipush dX11_reach_96 kc_sipush_128 ?_
                    refine tk_iload2 dX11_reach_99 ?_
                    first | refine tk_imulN dX11_reach_100 ?_ | refine tk_imul dX11_reach_100 ?_
                    refine tk_iload3 dX11_reach_101 ?_
                    first | refine tk_iaddN dX11_reach_102 ?_ | refine tk_iadd dX11_reach_102 ?_
                    refine tk_iald dX11_reach_103 (hR.t 71 rfl) (by omega) (by omega) ?_
                    simp only [va_up_self, bx_uu, tk_une, tk_usrt, not_false_eq_true, Nat.reduceEqDiff, Nat.reduceLT, Nat.reduceAdd, Nat.reduceMul, Nat.reduceLeDiff, reduceCtorEq]
                    rw [hcp.1]
                    have hcl := hcp.2
                    first | refine tk_dup2 dX11_reach_104 rfl rfl ?_ | refine tk_dup2L dX11_reach_104 ?_
                    refine tk_bald dX11_reach_105 (hR.t 76 rfl) (by omega) (by omega) ?_
                    refine tk_aload0 dX11_reach_106 ?_
                    refine tk_getP dX11_reach_107 fX11_114 rfl hR.o (hR.p 42 rfl) ?_
                    refine tk_iload3 dX11_reach_110 ?_
                    refine tk_bald dX11_reach_111 (hR.t 75 rfl) (by omega) (by omega) ?_
                    simp only [va_up_self, bx_uu, tk_une, tk_usrt, not_false_eq_true, Nat.reduceEqDiff, Nat.reduceLT, Nat.reduceAdd, Nat.reduceMul, Nat.reduceLeDiff, reduceCtorEq]
                    rw [tkcp_lt hcl, tkcp_lt hi]
                    refine tk_ior dX11_reach_112 ?_
                    rw [tkb_or]
                    refine tk_bast dX11_reach_113 (hR.t 76 rfl) (by omega) (by omega) (by first | exact tkb_nar _ | rfl | decide +kernel) ?_
                    first | refine tk_iinc3 dX11_reach_114 (kc_inc _) rfl ?_ | refine tk_iinc3 dX11_reach_114 rfl rfl ?_
                    refine tk_goto dX11_reach_117 ?_
                    simp only [va_up_self, bx_uu, tk_une, tk_usrt, not_false_eq_true, Nat.reduceEqDiff, Nat.reduceLT, Nat.reduceAdd, Nat.reduceMul, Nat.reduceLeDiff, reduceCtorEq]
                    rw [ra_step g _ c hcl]
                    exact k _ (by repeat' (first | exact trivial | refine ⟨Or.inl rfl, ?_⟩ | refine ⟨Or.inr rfl, ?_⟩))
              · exfalso; omega
            · intro i _ hi k
              refine tk_iload3 dX11_reach_57 ?_
              refine tk_aload0 dX11_reach_58 ?_
              refine tk_getI dX11_reach_59 fX11_256 rfl hR.o ?_
              simp only [va_up_self, bx_uu, tk_une, tk_usrt, not_false_eq_true, Nat.reduceEqDiff, Nat.reduceLT, Nat.reduceAdd, Nat.reduceMul, Nat.reduceLeDiff, reduceCtorEq, hN]
              first | refine tk_icmp_geN dX11_reach_62 (by omega) (by omega) (fun h62 => ?_) (fun h62 => ?_) | refine tk_jcmp_ge dX11_reach_62 (fun h62 => ?_) (fun h62 => ?_)
              · exfalso; omega
              · refine tk_aload0 dX11_reach_65 ?_
                refine tk_getP dX11_reach_66 fX11_118 rfl hR.o (hR.p 43 rfl) ?_
                refine tk_iload3 dX11_reach_69 ?_
                refine tk_iconst dX11_reach_70 kc_iconst_0 ?_
                refine tk_bast dX11_reach_71 (hR.t 76 rfl) (by omega) (by omega) (by first | exact tkb_nar _ | rfl | decide +kernel) ?_
                first | refine tk_iinc3 dX11_reach_72 (kc_inc _) rfl ?_ | refine tk_iinc3 dX11_reach_72 rfl rfl ?_
                refine tk_goto dX11_reach_75 ?_
                simp only [va_up_self, bx_uu, tk_une, tk_usrt, not_false_eq_true, Nat.reduceEqDiff, Nat.reduceLT, Nat.reduceAdd, Nat.reduceMul, Nat.reduceLeDiff, reduceCtorEq]
                rw [tkcp_s g (fun _ => nI 0)]
                exact k _ (by repeat' (first | exact trivial | refine ⟨Or.inl rfl, ?_⟩ | refine ⟨Or.inr rfl, ?_⟩))
  refine tkM.of (ls := [some _, none, none, none]) (by decide +kernel) (by decide +kernel) (Nat.le_of_ble_eq_true rfl) rfl ?_
  refine tk_iconst dX11_reach_0 kc_iconst_0 ?_
  refine tk_istore1 dX11_reach_1 rfl ?_
  refine tk_fr 0 N (fun i => [some (vR 40), some (vI (nI i)), none, none]) (fun i => (n, T, va_up I 75 (tkcp (I 75) (fun w => tkb (decide (w = r0))) i), L, P)) (by omega) (by repeat' (first | exact trivial | refine ⟨Or.inl rfl, ?_⟩ | refine ⟨Or.inr rfl, ?_⟩)) (by rw [tkcp_0, tk_up_id]) ?_ ?_
  · refine tk_iload1 dX11_reach_2 ?_
    refine tk_aload0 dX11_reach_3 ?_
    refine tk_getI dX11_reach_4 fX11_256 rfl hR.o ?_
    simp only [va_up_self, bx_uu, tk_une, tk_usrt, not_false_eq_true, Nat.reduceEqDiff, Nat.reduceLT, Nat.reduceAdd, Nat.reduceMul, Nat.reduceLeDiff, reduceCtorEq, hN]
    first | refine tk_icmp_geN dX11_reach_7 (by omega) (by omega) (fun h7 => ?_) (fun h7 => ?_) | refine tk_jcmp_ge dX11_reach_7 (fun h7 => ?_) (fun h7 => ?_)
    · refine tk_iconst dX11_reach_35 kc_iconst_1 ?_
      refine tk_istore1 dX11_reach_36 rfl ?_
      have q := loop (N - cntR (fun w => decide (w = r0)) N) (fun w => decide (w = r0)) (I 76) (Nat.le_refl _) (decide_eq_true rfl) (fun S h1 _ w _ h3 => by rw [of_decide_eq_true h3]; exact h1)
      rw [tk_uid (k := 76) (v := I 76) (by simp only [va_up_self, bx_uu, tk_une, tk_usrt, not_false_eq_true, Nat.reduceEqDiff, Nat.reduceLT, Nat.reduceAdd, Nat.reduceMul, Nat.reduceLeDiff, reduceCtorEq])] at q
      exact tk_wk (by repeat' (first | exact trivial | refine ⟨Or.inl rfl, ?_⟩ | refine ⟨Or.inr rfl, ?_⟩)) q
    · exfalso; omega
  · intro i _ hi k
    refine tk_iload1 dX11_reach_2 ?_
    refine tk_aload0 dX11_reach_3 ?_
    refine tk_getI dX11_reach_4 fX11_256 rfl hR.o ?_
    simp only [va_up_self, bx_uu, tk_une, tk_usrt, not_false_eq_true, Nat.reduceEqDiff, Nat.reduceLT, Nat.reduceAdd, Nat.reduceMul, Nat.reduceLeDiff, reduceCtorEq, hN]
    first | refine tk_icmp_geN dX11_reach_7 (by omega) (by omega) (fun h7 => ?_) (fun h7 => ?_) | refine tk_jcmp_ge dX11_reach_7 (fun h7 => ?_) (fun h7 => ?_)
    · exfalso; omega
    · refine tk_aload0 dX11_reach_10 ?_
      refine tk_getP dX11_reach_11 fX11_114 rfl hR.o (hR.p 42 rfl) ?_
      refine tk_iload1 dX11_reach_14 ?_
      refine tk_iload1 dX11_reach_15 ?_
      refine tk_aload0 dX11_reach_16 ?_
      refine tk_getI dX11_reach_17 fX11_259 rfl hR.o ?_
      simp only [va_up_self, bx_uu, tk_une, tk_usrt, not_false_eq_true, Nat.reduceEqDiff, Nat.reduceLT, Nat.reduceAdd, Nat.reduceMul, Nat.reduceLeDiff, reduceCtorEq, hr]
      first | refine tk_icmp_neN dX11_reach_20 (by omega) (by omega) (fun h20 => ?_) (fun h20 => ?_) | refine tk_icmp_ne dX11_reach_20 (fun h20 => ?_) (fun h20 => ?_)
      · refine tk_iconst dX11_reach_27 kc_iconst_0 ?_
        refine tk_bast dX11_reach_28 (hR.t 75 rfl) (by omega) (by omega) (by first | exact tkb_nar _ | rfl | decide +kernel) ?_
        first | refine tk_iinc1 dX11_reach_29 (kc_inc _) rfl ?_ | refine tk_iinc1 dX11_reach_29 rfl rfl ?_
        refine tk_goto dX11_reach_32 ?_
        simp only [va_up_self, bx_uu, tk_une, tk_usrt, not_false_eq_true, Nat.reduceEqDiff, Nat.reduceLT, Nat.reduceAdd, Nat.reduceMul, Nat.reduceLeDiff, reduceCtorEq]
        first | rw [show nI 1 = tkb (decide (i = r0)) by rw [decide_eq_true h20]; rfl] | rw [show nI 0 = tkb (decide (i = r0)) by rw [decide_eq_false h20]; rfl]
        rw [tkcp_s (I 75) (fun w => tkb (decide (w = r0)))]
        exact k _ (by repeat' (first | exact trivial | refine ⟨Or.inl rfl, ?_⟩ | refine ⟨Or.inr rfl, ?_⟩))
      · refine tk_iconst dX11_reach_23 kc_iconst_1 ?_
        refine tk_goto dX11_reach_24 ?_
        refine tk_bast dX11_reach_28 (hR.t 75 rfl) (by omega) (by omega) (by first | exact tkb_nar _ | rfl | decide +kernel) ?_
        first | refine tk_iinc1 dX11_reach_29 (kc_inc _) rfl ?_ | refine tk_iinc1 dX11_reach_29 rfl rfl ?_
        refine tk_goto dX11_reach_32 ?_
        simp only [va_up_self, bx_uu, tk_une, tk_usrt, not_false_eq_true, Nat.reduceEqDiff, Nat.reduceLT, Nat.reduceAdd, Nat.reduceMul, Nat.reduceLeDiff, reduceCtorEq]
        first | rw [show nI 1 = tkb (decide (i = r0)) by rw [decide_eq_true h20]; rfl] | rw [show nI 0 = tkb (decide (i = r0)) by rw [decide_eq_false h20]; rfl]
        rw [tkcp_s (I 75) (fun w => tkb (decide (w = r0)))]
        exact k _ (by repeat' (first | exact trivial | refine ⟨Or.inl rfl, ?_⟩ | refine ⟨Or.inr rfl, ?_⟩))
end REFT
