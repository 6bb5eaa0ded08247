/-! ===== the reference: kinds told apart ===== -/
theorem rLk_iff' {lo hi : Nat → Int64} {c : Nat → Nat → Nat} {u w np : Nat} : rLk lo hi c u w np = true ↔ ∀ p, p < np → lo (128 * p + c p u) = lo (128 * p + c p w) ∧ hi (128 * p + c p u) = hi (128 * p + c p w) := by
  induction np with
  | zero => simp [rLk]
  | succ np ih =>
    rw [rLk, Bool.and_eq_true, ih, Bool.and_eq_true, decide_eq_true_eq, decide_eq_true_eq]
    constructor
    · rintro ⟨h1, h2⟩ p hp
      by_cases e : p = np
      · subst e; exact h2
      · exact h1 p (by omega)
    · intro h
      exact ⟨fun p hp => h p (by omega), h np (by omega)⟩
theorem rLk_LKE {lo hi : Nat → Int64} {c : Nat → Nat → Nat} {np N : Nat} {R : Nat → Bool} : LKE N R (fun u w => rLk lo hi c u w np) := by
  refine ⟨fun w _ _ => rLk_iff'.mpr (fun p _ => ⟨rfl, rfl⟩), fun u w h => rLk_iff'.mpr (fun p hp => ?_), fun u v w h1 h2 => rLk_iff'.mpr (fun p hp => ?_)⟩
  · have := rLk_iff'.mp h p hp
    exact ⟨this.1.symm, this.2.symm⟩
  · have a1 := rLk_iff'.mp h1 p hp
    have a2 := rLk_iff'.mp h2 p hp
    exact ⟨a1.1.trans a2.1, a1.2.trans a2.2⟩
theorem anyB_congr {f g : Nat → Bool} {k : Nat} (h : ∀ i, i < k → f i = g i) : anyB f k = anyB g k := by
  induction k with
  | zero => rfl
  | succ k ih => rw [anyB, anyB, ih (fun i hi => h i (by omega)), h k (by omega)]
theorem tb_kLo {k i : Nat} (hi : i < 64) : tb (kLo k) i = decide (k = i) := by
  unfold kLo
  by_cases h : k < 64
  · rw [if_pos h, tb_b h hi]
    by_cases e : i = k
    · rw [decide_eq_true e, decide_eq_true e.symm]
    · rw [decide_eq_false e, decide_eq_false (fun q => e q.symm)]
  · rw [if_neg h, tb_0, decide_eq_false (by omega)]
theorem tb_kHi {k i : Nat} (hk : k < 128) (hi : i < 64) : tb (kHi k) i = decide (k = 64 + i) := by
  unfold kHi
  by_cases h : k < 64
  · rw [if_pos h, tb_0, decide_eq_false (by omega)]
  · rw [if_neg h, tb_b (by omega) hi]
    by_cases e : k = 64 + i
    · rw [decide_eq_true e, decide_eq_true (by omega)]
    · rw [decide_eq_false e, decide_eq_false (by omega)]
theorem tb_cLo {c : Nat → Nat → Nat} {R : Nat → Bool} {kd : Nat → Nat} {N p x i : Nat} (hi : i < 64) : tb (cOr kLo c R kd p x N) i = KS c R kd N p x i := by
  unfold cOr KS
  rw [tb_orK]
  refine anyB_congr (fun u hu => ?_)
  cases e1 : R u <;> cases e2 : decide (c p u = x) <;> simp only [Bool.and_self, Bool.and_false, Bool.false_and, Bool.and_true, Bool.true_and, if_true, Bool.false_eq_true, if_false, tb_0]
  exact tb_kLo hi
theorem tb_cHi {c : Nat → Nat → Nat} {R : Nat → Bool} {kd : Nat → Nat} {N p x i : Nat} (hk : ∀ u, u < N → R u = true → kd u < 128) (hi : i < 64) : tb (cOr kHi c R kd p x N) i = KS c R kd N p x (64 + i) := by
  unfold cOr KS
  rw [tb_orK]
  refine anyB_congr (fun u hu => ?_)
  cases e1 : R u <;> cases e2 : decide (c p u = x) <;> simp only [Bool.and_self, Bool.and_false, Bool.false_and, Bool.and_true, Bool.true_and, if_true, Bool.false_eq_true, if_false, tb_0]
  exact tb_kHi (hk u hu e1) hi
theorem rLk_iff {l7 l8 : Nat → Int64} {c : Nat → Nat → Nat} {R : Nat → Bool} {kd : Nat → Nat} {N np u w : Nat} (hnp : np ≤ 4) (hN : N ≤ 128) (hk : ∀ u, u < N → R u = true → kd u < N) (hcu : ∀ p, p < np → c p u < 128) (hcw : ∀ p, p < np → c p w < 128) : rLk (tkcp l7 (tcF kLo c R kd N np 0) 512) (tkcp l8 (tcF kHi c R kd N np 0) 512) c u w np = true ↔ LKp c R kd N np u w := by
  have key : ∀ (b : Nat → Int64) (l : Nat → Int64) p x, p < np → x < 128 → tkcp l (tcF b c R kd N np 0) 512 (128 * p + x) = cOr b c R kd p x N := by
    intro b l p x hp hx
    rw [tkcp_lt (by omega)]
    unfold tcF
    rw [if_pos (by omega), show (128 * p + x) / 128 = p by omega, show (128 * p + x) % 128 = x by omega]
  rw [rLk_iff']
  constructor
  · intro h p hp k
    obtain ⟨h1, h2⟩ := h p hp
    rw [key _ _ p _ hp (hcu p hp), key _ _ p _ hp (hcw p hp)] at h1 h2
    by_cases hk64 : k < 64
    · rw [← tb_cLo hk64, ← tb_cLo hk64, h1]
    · by_cases hk128 : k < 128
      · have hkk : ∀ u, u < N → R u = true → kd u < 128 := fun u hu hr => by have := hk u hu hr; omega
        rw [show k = 64 + (k - 64) by omega, ← tb_cHi hkk (by omega), ← tb_cHi hkk (by omega), h2]
      · have z : ∀ x, KS c R kd N p x k = false := by
          intro x
          cases e : KS c R kd N p x k with
          | false => rfl
          | true =>
            obtain ⟨u', a1, a2, a3, a4⟩ := KS_iff.mp e
            have := hk u' a1 a2
            omega
        rw [z, z]
  · intro h p hp
    have hkk : ∀ u, u < N → R u = true → kd u < 128 := fun u hu hr => by have := hk u hu hr; omega
    rw [key _ _ p _ hp (hcu p hp), key _ _ p _ hp (hcw p hp), key _ _ p _ hp (hcu p hp), key _ _ p _ hp (hcw p hp)]
    exact ⟨tb_ext (fun i hi => by rw [tb_cLo hi, tb_cLo hi, h p hp i]), tb_ext (fun i hi => by rw [tb_cHi hkk hi, tb_cHi hkk hi, h p hp (64 + i)])⟩
/-- kinds as the reference keeps them -/
def Kf (R : Nat → Bool) (kd : Nat → Nat) (w : Nat) : Int32 := if R w then nI (kd w) else -1
theorem ixm_dec' (j : Nat) : nI j + Int32.ofInt (-1) = ixm j := by
  unfold ixm
  rw [show Int32.ofInt (-1) = -nI 1 by decide +kernel, ← Int32.sub_eq_add_neg]
theorem ixm_0 : ixm 0 < 0 := by decide +kernel
/-- the least from j on up to w, or -1 -/
def Vd (q : Nat → Bool) (w j : Nat) : Int32 := if lst q (w + 1 - j) j ≤ w then nI (lst q (w + 1 - j) j) else -1
theorem Vd_top (q : Nat → Bool) (w : Nat) : Vd q w (w + 1) = -1 := by
  unfold Vd
  rw [Nat.sub_self, lst, if_neg (by omega)]
theorem Vd_s (q : Nat → Bool) {w j : Nat} (h : j ≤ w) : Vd q w j = if q j then nI j else Vd q w (j + 1) := by
  unfold Vd
  rw [show w + 1 - j = (w - j) + 1 by omega, lst, show w + 1 - (j + 1) = w - j by omega]
  cases e : q j with
  | true => rw [if_pos rfl, if_pos rfl, if_pos h]
  | false => simp only [Bool.false_eq_true, if_false]
theorem Vd_0 {q : Nat → Bool} {w : Nat} (h : q w = true) : Vd q w 0 = nI (lst q w 0) := by
  obtain ⟨h1, h2, h3⟩ := lst_least h
  obtain ⟨g1, g2, g3, g4⟩ := lst_spec q (w + 1) 0
  have e : lst q (w + 1) 0 = lst q w 0 := by
    rcases Nat.lt_trichotomy (lst q (w + 1) 0) (lst q w 0) with x | x | x
    · have := g4 (by omega); rw [h3 _ x] at this; cases this
    · exact x
    · have := g3 _ (by omega) x; rw [h1] at this; cases this
  unfold Vd
  rw [Nat.sub_zero, e, if_pos h2]
section REFV
variable {G : tkG} {n : Nat} {T : Nat → Nat × Nat} {I : Nat → Nat → Int32} {L : Nat → Nat → Int64} {P : Nat → Nat → Option Nat}
theorem r_kInit (hR : tkRef T P) {np N : Nat} {f : Nat → Int32} {R : Nat → Bool} (hN : I 40 35 = nI N) (hN2 : N ≤ 128) (ht : ∀ w, w < N → I 75 w = tkb (R w)) (hf : ∀ w, w < N → I 70 w = f w) {Q : Option tkV → tkH → Prop} {w : Nat} (hw : w < N) (hRw : R w = true) (k : ∀ l, tkle [some (vR 40), some (vI (nI (w + 1))), none, none, none] l → tkX G mX11_tellKinds 1 0 0 2 l [] (n, T, va_up I 72 (tkcp (I 72) (Kf R (kd0 R f)) (w + 1)), L, P) Q) : ∀ j, j ≤ w + 1 → tkX G mX11_tellKinds 1 0 0 19 [some (vR 40), some (vI (nI w)), some (vI (ixm j)), none, none] [] (n, T, va_up I 72 (va_up (tkcp (I 72) (Kf R (kd0 R f)) w) w (Vd (fun v => R v && decide (f v = f w)) w j)), L, P) Q := by
  intro j
  induction j with
  | zero =>
    intro _
    refine tk_iload2 dX11_tellKinds_19 ?_
    refine tk_jf_lt dX11_tellKinds_20 (fun h20 => ?_) (fun h20 => absurd ixm_0 (Int32.not_lt.mpr h20))
    rw [show Vd (fun v => R v && decide (f v = f w)) w 0 = Kf R (kd0 R f) w by rw [Vd_0 (by show (R w && decide (f w = f w)) = true; rw [hRw, decide_eq_true rfl]; rfl)]; unfold Kf; rw [if_pos hRw]; rfl, tkcp_s (I 72) (Kf R (kd0 R f))]
    first | refine tk_iinc1 dX11_tellKinds_78 (kc_inc _) rfl ?_ | refine tk_iinc1 dX11_tellKinds_78 rfl rfl ?_
    refine tk_goto dX11_tellKinds_81 ?_
    exact k _ (by repeat' (first | exact trivial | refine ⟨Or.inl rfl, ?_⟩ | refine ⟨Or.inr rfl, ?_⟩))
  | succ j ih =>
    intro hj
    have e1 := ht w hw
    have e2 := ht j (by omega)
    have e3 := hf w hw
    have e4 := hf j (by omega)
    rw [ixm_s]
    have k71 : ∀ x : Int32, x = Vd (fun v => R v && decide (f v = f w)) w j → tkX G mX11_tellKinds 1 0 0 71 [some (vR 40), some (vI (nI w)), some (vI (nI j)), none, none] [vI x, vI (nI w), vR 72] (n, T, va_up I 72 (va_up (tkcp (I 72) (Kf R (kd0 R f)) w) w (Vd (fun v => R v && decide (f v = f w)) w (j + 1))), L, P) Q := by
      intro x hx
      subst hx
      refine tk_iast dX11_tellKinds_71 (hR.t 72 rfl) (by omega) (by omega) ?_
      refine tk_iinc2 dX11_tellKinds_72 (v := ixm j) (ixm_dec' j) rfl ?_
      refine tk_goto dX11_tellKinds_75 ?_
      simp only [va_up_self, bx_uu, tk_une, tk_usrt, not_false_eq_true, Nat.reduceEqDiff, Nat.reduceLT, Nat.reduceAdd, Nat.reduceMul, Nat.reduceLeDiff, reduceCtorEq]
      exact ih (by omega)
    refine tk_iload2 dX11_tellKinds_19 ?_
    refine tk_jf_lt dX11_tellKinds_20 (fun h20 => ?_) (fun h20 => ?_)
    · first | exact absurd h29 (by decide) | exact absurd h20 (nI_pos (by omega))
    · refine tk_aload0 dX11_tellKinds_23 ?_
      refine tk_getP dX11_tellKinds_24 fX11_114 rfl hR.o (hR.p 42 rfl) ?_
      refine tk_iload1 dX11_tellKinds_27 ?_
      refine tk_bald dX11_tellKinds_28 (hR.t 75 rfl) (by omega) (by omega) ?_
      simp only [va_up_self, bx_uu, tk_une, tk_usrt, not_false_eq_true, Nat.reduceEqDiff, Nat.reduceLT, Nat.reduceAdd, Nat.reduceMul, Nat.reduceLeDiff, reduceCtorEq, e1, hRw]
      first | refine tk_jf_eqB dX11_tellKinds_29 (fun h29 => ?_) (fun h29 => ?_) | refine tk_if_eq dX11_tellKinds_29 (fun h29 => ?_) (fun h29 => ?_)
      · first | exact absurd h29 (by decide) | exact absurd h20 (nI_pos (by omega))
      · refine tk_aload0 dX11_tellKinds_32 ?_
        refine tk_getP dX11_tellKinds_33 fX11_105 rfl hR.o (hR.p 39 rfl) ?_
        refine tk_iload1 dX11_tellKinds_36 ?_
        refine tk_aload0 dX11_tellKinds_37 ?_
        refine tk_getP dX11_tellKinds_38 fX11_114 rfl hR.o (hR.p 42 rfl) ?_
        refine tk_iload2 dX11_tellKinds_41 ?_
        refine tk_bald dX11_tellKinds_42 (hR.t 75 rfl) (by omega) (by omega) ?_
        simp only [va_up_self, bx_uu, tk_une, tk_usrt, not_false_eq_true, Nat.reduceEqDiff, Nat.reduceLT, Nat.reduceAdd, Nat.reduceMul, Nat.reduceLeDiff, reduceCtorEq, e2]
        first | refine tk_jf_eqB dX11_tellKinds_43 (fun h43 => ?_) (fun h43 => ?_) | refine tk_if_eq dX11_tellKinds_43 (fun h43 => ?_) (fun h43 => ?_)
        · refine tk_aload0 dX11_tellKinds_65 ?_
          have hb : (R j && decide (f j = f w)) = false := by first | (rw [h43]; rfl) | (rw [decide_eq_false h58, Bool.and_false])
          refine tk_getP dX11_tellKinds_66 fX11_105 rfl hR.o (hR.p 39 rfl) ?_
          refine tk_iload1 dX11_tellKinds_69 ?_
          refine tk_iald dX11_tellKinds_70 (hR.t 72 rfl) (by omega) (by omega) ?_
          simp only [va_up_self, bx_uu, tk_une, tk_usrt, not_false_eq_true, Nat.reduceEqDiff, Nat.reduceLT, Nat.reduceAdd, Nat.reduceMul, Nat.reduceLeDiff, reduceCtorEq]
          refine k71 _ ?_
          rw [Vd_s (j := j) _ (by omega)]
          first | exact (if_pos hb).symm | exact (if_neg (fun q => Bool.noConfusion (hb.symm.trans q))).symm
        · refine tk_aload0 dX11_tellKinds_46 ?_
          refine tk_getP dX11_tellKinds_47 fX11_99 rfl hR.o (hR.p 37 rfl) ?_
          refine tk_iload2 dX11_tellKinds_50 ?_
          refine tk_iald dX11_tellKinds_51 (hR.t 70 rfl) (by omega) (by omega) ?_
          simp only [va_up_self, bx_uu, tk_une, tk_usrt, not_false_eq_true, Nat.reduceEqDiff, Nat.reduceLT, Nat.reduceAdd, Nat.reduceMul, Nat.reduceLeDiff, reduceCtorEq, e4]
          refine tk_aload0 dX11_tellKinds_52 ?_
          refine tk_getP dX11_tellKinds_53 fX11_99 rfl hR.o (hR.p 37 rfl) ?_
          refine tk_iload1 dX11_tellKinds_56 ?_
          refine tk_iald dX11_tellKinds_57 (hR.t 70 rfl) (by omega) (by omega) ?_
          simp only [va_up_self, bx_uu, tk_une, tk_usrt, not_false_eq_true, Nat.reduceEqDiff, Nat.reduceLT, Nat.reduceAdd, Nat.reduceMul, Nat.reduceLeDiff, reduceCtorEq, e3]
          first | refine tk_icmp_neN dX11_tellKinds_58 (by omega) (by omega) (fun h58 => ?_) (fun h58 => ?_) | refine tk_icmp_ne dX11_tellKinds_58 (fun h58 => ?_) (fun h58 => ?_)
          · refine tk_aload0 dX11_tellKinds_65 ?_
            have hb : (R j && decide (f j = f w)) = false := by first | (rw [h43]; rfl) | (rw [decide_eq_false h58, Bool.and_false])
            refine tk_getP dX11_tellKinds_66 fX11_105 rfl hR.o (hR.p 39 rfl) ?_
            refine tk_iload1 dX11_tellKinds_69 ?_
            refine tk_iald dX11_tellKinds_70 (hR.t 72 rfl) (by omega) (by omega) ?_
            simp only [va_up_self, bx_uu, tk_une, tk_usrt, not_false_eq_true, Nat.reduceEqDiff, Nat.reduceLT, Nat.reduceAdd, Nat.reduceMul, Nat.reduceLeDiff, reduceCtorEq]
            refine k71 _ ?_
            rw [Vd_s (j := j) _ (by omega)]
            first | exact (if_pos hb).symm | exact (if_neg (fun q => Bool.noConfusion (hb.symm.trans q))).symm
          · refine tk_iload2 dX11_tellKinds_61 ?_
            have hb : (R j && decide (f j = f w)) = true := by rw [h43, decide_eq_true h58]; rfl
            refine tk_goto dX11_tellKinds_62 ?_
            refine k71 _ ?_
            rw [Vd_s (j := j) _ (by omega)]
            first | exact (if_pos hb).symm | exact (if_neg (fun q => Bool.noConfusion (hb.symm.trans q))).symm
end REFV
