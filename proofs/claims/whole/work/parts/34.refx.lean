/-! ===== the reference: tellKinds as a whole ===== -/
section REFX
variable {G : tkG} {n : Nat} {T : Nat → Nat × Nat} {I : Nat → Nat → Int32} {L : Nat → Nat → Int64} {P : Nat → Nat → Option Nat}
def KQ (n : Nat) (T : Nat → Nat × Nat) (P : Nat → Nat → Option Nat) (I : Nat → Nat → Int32) (L : Nat → Nat → Int64) (N np : Nat) (c : Nat → Nat → Nat) (f : Nat → Int32) (R : Nat → Bool) : Option tkV → tkH → Prop := fun r h => ∃ (kd : Nat → Nat) (g : Nat → Int32) (l7 l8 : Nat → Int64), r = none ∧ h = (n, T, va_up (va_up I 72 (tkcp (I 72) (Kf R kd) N)) 73 g, va_up (va_up L 77 l7) 78 l8, P) ∧ KND N np c f R kd
theorem KS_congr {c : Nat → Nat → Nat} {R : Nat → Bool} {kd kd' : Nat → Nat} {N p x k : Nat} (h : ∀ w, w < N → R w = true → kd w = kd' w) : KS c R kd N p x k = KS c R kd' N p x k := by
  unfold KS
  refine anyB_congr (fun u hu => ?_)
  cases e : R u with
  | false => rfl
  | true => rw [h u hu e]
/-- kinds that one more telling leaves as they are -/
theorem KND_of {N np : Nat} {c : Nat → Nat → Nat} {f : Nat → Int32} {R : Nat → Bool} {kd : Nat → Nat} {l7 l8 : Nat → Int64} (hnp : np ≤ 4) (hN : N ≤ 128) (hcl : ∀ p, p < np → ∀ w, w < N → c p w < N) (hk : KI N np c f R kd) (hs : ∀ w, w < N → R w = true → kdS R kd (fun u w => rLk (tkcp l7 (tcF kLo c R kd N np 0) 512) (tkcp l8 (tcF kHi c R kd N np 0) 512) c u w np) w = kd w) : KND N np c f R (kdS R kd (fun u w => rLk (tkcp l7 (tcF kLo c R kd N np 0) 512) (tkcp l8 (tcF kHi c R kd N np 0) 512) c u w np)) ∧ KND N np c f R kd := by
  have hkN : ∀ u, u < N → R u = true → kd u < N := fun u hu r => by have := (hk.1 u hu r).2.1; omega
  have h2 : KND N np c f R kd := by
    refine ⟨hk, fun u hu w hw ru rw_ e => ?_⟩
    have := (kdS_eq (N := N) (kd := kd) (lk := fun u w => rLk (tkcp l7 (tcF kLo c R kd N np 0) 512) (tkcp l8 (tcF kHi c R kd N np 0) 512) c u w np) rLk_LKE hu hw ru rw_).mp (by rw [hs u hu ru, hs w hw rw_]; exact e)
    exact (rLk_iff hnp hN hkN (fun p hp => by have := hcl p hp u hu; omega) (fun p hp => by have := hcl p hp w hw; omega)).mp this.2
  refine ⟨?_, h2⟩
  have hs' : ∀ w, w < N → R w = true → kd w = kdS R kd (fun u w => rLk (tkcp l7 (tcF kLo c R kd N np 0) 512) (tkcp l8 (tcF kHi c R kd N np 0) 512) c u w np) w := fun w hw r => (hs w hw r).symm
  generalize kdS R kd (fun u w => rLk (tkcp l7 (tcF kLo c R kd N np 0) 512) (tkcp l8 (tcF kHi c R kd N np 0) 512) c u w np) = k2 at hs'
  refine ⟨⟨fun w hw r => ?_, fun E hB u w e => ?_⟩, fun u hu w hw ru rw_ e p hp k => ?_⟩
  · obtain ⟨a1, a2, a3, a4⟩ := hk.1 w hw r
    rw [← hs' w hw r]
    exact ⟨a1, a2, by rw [← hs' (kd w) (by omega) a1]; exact a3, a4⟩
  · obtain ⟨hu, hw, ru, rw_, -⟩ := hB u w e
    rw [← hs' u hu ru, ← hs' w hw rw_]
    exact hk.2 E hB u w e
  · rw [← hs' u hu ru, ← hs' w hw rw_] at e
    rw [← KS_congr hs', ← KS_congr hs']
    exact h2.2 u hu w hw ru rw_ e p hp k
theorem kdS_KI' {N np : Nat} {c : Nat → Nat → Nat} {f : Nat → Int32} {R : Nat → Bool} {kd : Nat → Nat} {l7 l8 : Nat → Int64} (hnp : np ≤ 4) (hN : N ≤ 128) (hcl : ∀ p, p < np → ∀ w, w < N → c p w < N) (hk : KI N np c f R kd) : KI N np c f R (kdS R kd (fun u w => rLk (tkcp l7 (tcF kLo c R kd N np 0) 512) (tkcp l8 (tcF kHi c R kd N np 0) 512) c u w np)) := by
  have hkN : ∀ u, u < N → R u = true → kd u < N := fun u hu r => by have := (hk.1 u hu r).2.1; omega
  refine kdS_KI rLk_LKE hk (fun E hB hEk u w e => ?_)
  obtain ⟨hu, hw, ru, rw_, -⟩ := hB u w e
  exact (rLk_iff hnp hN hkN (fun p hp => by have := hcl p hp u hu; omega) (fun p hp => by have := hcl p hp w hw; omega)).mpr (hB.lkp hEk e)
theorem kk_up (f : Nat → Int32) {N i : Nat} {a b : Nat → Int32} (hi : i < N) : va_up (tkcp f (fun w => if w < i then a w else b w) N) i (a i) = tkcp f (fun w => if w < i + 1 then a w else b w) N := by
  funext j
  unfold va_up tkcp
  by_cases e : j = i
  · subst e
    rw [if_pos rfl, if_pos hi]
    show a j = if j < j + 1 then a j else b j
    rw [if_pos (by omega)]
  · rw [if_neg e]
    by_cases h2 : j < N
    · simp only [if_pos h2]
      by_cases h3 : j < i
      · rw [if_pos h3, if_pos (by omega)]
      · rw [if_neg h3, if_neg (by omega)]
    · simp only [if_neg h2]
theorem kk_fin (f : Nat → Int32) {N : Nat} {a b : Nat → Int32} : tkcp f (fun w => if w < N then a w else b w) N = tkcp f a N := by
  funext j
  unfold tkcp
  by_cases h : j < N
  · simp only [if_pos h]
  · simp only [if_neg h]
theorem r_kPass (hR : tkRef T P) {np N : Nat} {c : Nat → Nat → Nat} {R : Nat → Bool} {kd k2 : Nat → Nat} {lo hi : Nat → Int64} {g : Nat → Int32} (hnp : I 41 0 = nI np) (hnp4 : np ≤ 4) (hN : I 40 35 = nI N) (hN2 : N ≤ 128) (hc : ∀ p, p < np → ∀ w, w < N → I 71 (128 * p + w) = nI (c p w) ∧ c p w < N) (ht : ∀ w, w < N → I 75 w = tkb (R w)) (hkd : ∀ u, u < N → R u = true → kd u < N) {Q : Option tkV → tkH → Prop} (hk2 : k2 = kdS R kd (fun u w => rLk lo hi c u w np))
    (fin2 : ∀ l, tkle [some (vR 40), some (vI (tkb (anyB (fun w => decide (¬ Kf R k2 w = Kf R kd w)) N))), none, none, none] l → tkX G mX11_tellKinds 1 0 0 86 l [] (n, T, va_up (va_up I 72 (tkcp (I 72) (Kf R k2) N)) 73 (tkcp g (Kf R k2) N), va_up (va_up L 77 lo) 78 hi, P) Q) : tkX G mX11_tellKinds 1 0 0 98 [some (vR 40), some (vI (tkb false)), some (vI (nI 0)), none, none] [] (n, T, va_up (va_up I 72 (tkcp (I 72) (Kf R kd) N)) 73 g, va_up (va_up L 77 lo) 78 hi, P) Q := by
  refine tk_fr 0 N (fun i => [some (vR 40), some (vI (tkb false)), some (vI (nI i)), none, none]) (fun i => (n, T, va_up (va_up I 72 (tkcp (I 72) (Kf R kd) N)) 73 (tkcp g (Kf R k2) i), va_up (va_up L 77 lo) 78 hi, P)) (by omega) (by repeat' (first | exact trivial | refine ⟨Or.inl rfl, ?_⟩ | refine ⟨Or.inr rfl, ?_⟩)) (by rw [tkcp_0]) ?_ ?_
  · refine tk_iload2 dX11_tellKinds_98 ?_
    refine tk_aload0 dX11_tellKinds_99 ?_
    refine tk_getI dX11_tellKinds_100 fX11_256 rfl hR.o ?_
    simp only [va_up_self, bx_uu, tk_une, tk_usrt, not_false_eq_true, Nat.reduceEqDiff, Nat.reduceLT, Nat.reduceAdd, Nat.reduceMul, Nat.reduceLeDiff, reduceCtorEq, hN]
    first | refine tk_icmp_geN dX11_tellKinds_103 (by omega) (by omega) (fun h103 => ?_) (fun h103 => ?_) | refine tk_jcmp_ge dX11_tellKinds_103 (fun h103 => ?_) (fun h103 => ?_)
    · refine tk_iconst dX11_tellKinds_186 kc_iconst_0 ?_
      refine tk_istore2 dX11_tellKinds_187 rfl ?_
      refine tk_fr 0 N (fun i => [some (vR 40), some (vI (tkb (anyB (fun w => decide (¬ Kf R k2 w = Kf R kd w)) i))), some (vI (nI i)), none, none]) (fun i => (n, T, va_up (va_up I 72 (tkcp (I 72) (fun w => if w < i then Kf R k2 w else Kf R kd w) N)) 73 (tkcp g (Kf R k2) N), va_up (va_up L 77 lo) 78 hi, P)) (by omega) (by repeat' (first | exact trivial | refine ⟨Or.inl rfl, ?_⟩ | refine ⟨Or.inr rfl, ?_⟩)) (by simp only [Nat.not_lt_zero, if_false]) ?_ ?_
      · refine tk_iload2 dX11_tellKinds_188 ?_
        refine tk_aload0 dX11_tellKinds_189 ?_
        refine tk_getI dX11_tellKinds_190 fX11_256 rfl hR.o ?_
        simp only [va_up_self, bx_uu, tk_une, tk_usrt, not_false_eq_true, Nat.reduceEqDiff, Nat.reduceLT, Nat.reduceAdd, Nat.reduceMul, Nat.reduceLeDiff, reduceCtorEq, hN]
        first | refine tk_icmp_geN dX11_tellKinds_193 (by omega) (by omega) (fun h193 => ?_) (fun h193 => ?_) | refine tk_jcmp_ge dX11_tellKinds_193 (fun h193 => ?_) (fun h193 => ?_)
        · refine tk_goto dX11_tellKinds_237 ?_
          rw [kk_fin]
          exact fin2 _ (by repeat' (first | exact trivial | refine ⟨Or.inl rfl, ?_⟩ | refine ⟨Or.inr rfl, ?_⟩))
        · exfalso; omega
      · intro i _ hi k
        refine tk_iload2 dX11_tellKinds_188 ?_
        refine tk_aload0 dX11_tellKinds_189 ?_
        refine tk_getI dX11_tellKinds_190 fX11_256 rfl hR.o ?_
        simp only [va_up_self, bx_uu, tk_une, tk_usrt, not_false_eq_true, Nat.reduceEqDiff, Nat.reduceLT, Nat.reduceAdd, Nat.reduceMul, Nat.reduceLeDiff, reduceCtorEq, hN]
        first | refine tk_icmp_geN dX11_tellKinds_193 (by omega) (by omega) (fun h193 => ?_) (fun h193 => ?_) | refine tk_jcmp_ge dX11_tellKinds_193 (fun h193 => ?_) (fun h193 => ?_)
        · exfalso; omega
        · refine tk_iload1 dX11_tellKinds_196 ?_
          refine tk_aload0 dX11_tellKinds_197 ?_
          refine tk_getP dX11_tellKinds_198 fX11_108 rfl hR.o (hR.p 40 rfl) ?_
          refine tk_iload2 dX11_tellKinds_201 ?_
          refine tk_iald dX11_tellKinds_202 (hR.t 73 rfl) (by omega) (by omega) ?_
          simp only [va_up_self, bx_uu, tk_une, tk_usrt, not_false_eq_true, Nat.reduceEqDiff, Nat.reduceLT, Nat.reduceAdd, Nat.reduceMul, Nat.reduceLeDiff, reduceCtorEq]
          rw [tkcp_lt hi]
          refine tk_aload0 dX11_tellKinds_203 ?_
          refine tk_getP dX11_tellKinds_204 fX11_105 rfl hR.o (hR.p 39 rfl) ?_
          refine tk_iload2 dX11_tellKinds_207 ?_
          refine tk_iald dX11_tellKinds_208 (hR.t 72 rfl) (by omega) (by omega) ?_
          simp only [va_up_self, bx_uu, tk_une, tk_usrt, not_false_eq_true, Nat.reduceEqDiff, Nat.reduceLT, Nat.reduceAdd, Nat.reduceMul, Nat.reduceLeDiff, reduceCtorEq]
          rw [tkcp_lt hi, if_neg (Nat.lt_irrefl i)]
          first | refine tk_icmp_eqN dX11_tellKinds_209 (by omega) (by omega) (fun h209 => ?_) (fun h209 => ?_) | refine tk_icmp_eq dX11_tellKinds_209 (fun h209 => ?_) (fun h209 => ?_)
          · refine tk_iconst dX11_tellKinds_216 kc_iconst_0 ?_
            have ha : anyB (fun w => decide (¬ Kf R k2 w = Kf R kd w)) (i + 1) = (anyB (fun w => decide (¬ Kf R k2 w = Kf R kd w)) i || false) := congrArg _ (decide_eq_false (fun q => q h209))
            refine tk_ior dX11_tellKinds_217 ?_
            first | rw [show nI 1 = tkb true from rfl, tkb_or] | rw [show nI 0 = tkb false from rfl, tkb_or]
            refine tk_istore1 dX11_tellKinds_218 rfl ?_
            refine tk_aload0 dX11_tellKinds_219 ?_
            refine tk_getP dX11_tellKinds_220 fX11_105 rfl hR.o (hR.p 39 rfl) ?_
            refine tk_iload2 dX11_tellKinds_223 ?_
            refine tk_aload0 dX11_tellKinds_224 ?_
            refine tk_getP dX11_tellKinds_225 fX11_108 rfl hR.o (hR.p 40 rfl) ?_
            refine tk_iload2 dX11_tellKinds_228 ?_
            refine tk_iald dX11_tellKinds_229 (hR.t 73 rfl) (by omega) (by omega) ?_
            simp only [va_up_self, bx_uu, tk_une, tk_usrt, not_false_eq_true, Nat.reduceEqDiff, Nat.reduceLT, Nat.reduceAdd, Nat.reduceMul, Nat.reduceLeDiff, reduceCtorEq]
            rw [tkcp_lt hi]
            refine tk_iast dX11_tellKinds_230 (hR.t 72 rfl) (by omega) (by omega) ?_
            first | refine tk_iinc2 dX11_tellKinds_231 (kc_inc _) rfl ?_ | refine tk_iinc2 dX11_tellKinds_231 rfl rfl ?_
            refine tk_goto dX11_tellKinds_234 ?_
            simp only [va_up_self, bx_uu, tk_une, tk_usrt, not_false_eq_true, Nat.reduceEqDiff, Nat.reduceLT, Nat.reduceAdd, Nat.reduceMul, Nat.reduceLeDiff, reduceCtorEq]
            rw [kk_up (I 72) hi]
            refine k _ ?_
            rw [ha]
            exact (by repeat' (first | exact trivial | refine ⟨Or.inl rfl, ?_⟩ | refine ⟨Or.inr rfl, ?_⟩))
          · refine tk_iconst dX11_tellKinds_212 kc_iconst_1 ?_
            have ha : anyB (fun w => decide (¬ Kf R k2 w = Kf R kd w)) (i + 1) = (anyB (fun w => decide (¬ Kf R k2 w = Kf R kd w)) i || true) := congrArg _ (decide_eq_true h209)
            refine tk_goto dX11_tellKinds_213 ?_
            refine tk_ior dX11_tellKinds_217 ?_
            first | rw [show nI 1 = tkb true from rfl, tkb_or] | rw [show nI 0 = tkb false from rfl, tkb_or]
            refine tk_istore1 dX11_tellKinds_218 rfl ?_
            refine tk_aload0 dX11_tellKinds_219 ?_
            refine tk_getP dX11_tellKinds_220 fX11_105 rfl hR.o (hR.p 39 rfl) ?_
            refine tk_iload2 dX11_tellKinds_223 ?_
            refine tk_aload0 dX11_tellKinds_224 ?_
            refine tk_getP dX11_tellKinds_225 fX11_108 rfl hR.o (hR.p 40 rfl) ?_
            refine tk_iload2 dX11_tellKinds_228 ?_
            refine tk_iald dX11_tellKinds_229 (hR.t 73 rfl) (by omega) (by omega) ?_
            simp only [va_up_self, bx_uu, tk_une, tk_usrt, not_false_eq_true, Nat.reduceEqDiff, Nat.reduceLT, Nat.reduceAdd, Nat.reduceMul, Nat.reduceLeDiff, reduceCtorEq]
            rw [tkcp_lt hi]
            refine tk_iast dX11_tellKinds_230 (hR.t 72 rfl) (by omega) (by omega) ?_
            first | refine tk_iinc2 dX11_tellKinds_231 (kc_inc _) rfl ?_ | refine tk_iinc2 dX11_tellKinds_231 rfl rfl ?_
            refine tk_goto dX11_tellKinds_234 ?_
            simp only [va_up_self, bx_uu, tk_une, tk_usrt, not_false_eq_true, Nat.reduceEqDiff, Nat.reduceLT, Nat.reduceAdd, Nat.reduceMul, Nat.reduceLeDiff, reduceCtorEq]
            rw [kk_up (I 72) hi]
            refine k _ ?_
            rw [ha]
            exact (by repeat' (first | exact trivial | refine ⟨Or.inl rfl, ?_⟩ | refine ⟨Or.inr rfl, ?_⟩))
    · exfalso; omega
  · intro w _ hw k
    cases hRw : R w with
    | false =>
      have hKw : Kf R k2 w = Kf R kd w := Kf_n hRw
      refine tk_iload2 dX11_tellKinds_98 ?_
      refine tk_aload0 dX11_tellKinds_99 ?_
      refine tk_getI dX11_tellKinds_100 fX11_256 rfl hR.o ?_
      simp only [va_up_self, bx_uu, tk_une, tk_usrt, not_false_eq_true, Nat.reduceEqDiff, Nat.reduceLT, Nat.reduceAdd, Nat.reduceMul, Nat.reduceLeDiff, reduceCtorEq, hN]
      first | refine tk_icmp_geN dX11_tellKinds_103 (by omega) (by omega) (fun h103 => ?_) (fun h103 => ?_) | refine tk_jcmp_ge dX11_tellKinds_103 (fun h103 => ?_) (fun h103 => ?_)
      · exfalso; omega
      · refine tk_aload0 dX11_tellKinds_106 ?_
        refine tk_getP dX11_tellKinds_107 fX11_108 rfl hR.o (hR.p 40 rfl) ?_
        refine tk_iload2 dX11_tellKinds_110 ?_
        refine tk_aload0 dX11_tellKinds_111 ?_
        refine tk_getP dX11_tellKinds_112 fX11_105 rfl hR.o (hR.p 39 rfl) ?_
        refine tk_iload2 dX11_tellKinds_115 ?_
        refine tk_iald dX11_tellKinds_116 (hR.t 72 rfl) (by omega) (by omega) ?_
        simp only [va_up_self, bx_uu, tk_une, tk_usrt, not_false_eq_true, Nat.reduceEqDiff, Nat.reduceLT, Nat.reduceAdd, Nat.reduceMul, Nat.reduceLeDiff, reduceCtorEq]
        rw [tkcp_lt hw]
        refine tk_iast dX11_tellKinds_117 (hR.t 73 rfl) (by omega) (by omega) ?_
        refine tk_aload0 dX11_tellKinds_118 ?_
        refine tk_getP dX11_tellKinds_119 fX11_114 rfl hR.o (hR.p 42 rfl) ?_
        refine tk_iload2 dX11_tellKinds_122 ?_
        refine tk_bald dX11_tellKinds_123 (hR.t 75 rfl) (by omega) (by omega) ?_
        simp only [va_up_self, bx_uu, tk_une, tk_usrt, not_false_eq_true, Nat.reduceEqDiff, Nat.reduceLT, Nat.reduceAdd, Nat.reduceMul, Nat.reduceLeDiff, reduceCtorEq, ht w hw, hRw]
        refine tk_istore3 dX11_tellKinds_124 rfl ?_
        refine tk_iconst dX11_tellKinds_125 kc_iconst_0 ?_
        refine tk_istore4 dX11_tellKinds_126 rfl ?_
        refine tk_iload4 dX11_tellKinds_128 ?_
        refine tk_iload2 dX11_tellKinds_130 ?_
        first | refine tk_icmp_gtN dX11_tellKinds_131 (by omega) (by omega) (fun h131 => ?_) (fun h131 => ?_) | refine tk_jcmp_gt dX11_tellKinds_131 (fun h131 => ?_) (fun h131 => ?_)
        · first | refine tk_iinc2 dX11_tellKinds_180 (kc_inc _) rfl ?_ | refine tk_iinc2 dX11_tellKinds_180 rfl rfl ?_
          refine tk_goto dX11_tellKinds_183 ?_
          try simp only [va_up_self, bx_uu, tk_une, tk_usrt, not_false_eq_true, Nat.reduceEqDiff, Nat.reduceLT, Nat.reduceAdd, Nat.reduceMul, Nat.reduceLeDiff, reduceCtorEq]
          rw [← hKw, tkcp_s g (Kf R k2)]
          exact k _ (by repeat' (first | exact trivial | refine ⟨Or.inl rfl, ?_⟩ | refine ⟨Or.inr rfl, ?_⟩))
        · refine tk_iload3 dX11_tellKinds_134 ?_
          first | refine tk_jf_eqB dX11_tellKinds_135 (fun h135 => ?_) (fun h135 => ?_) | refine tk_if_eq dX11_tellKinds_135 (fun h135 => ?_) (fun h135 => ?_)
          · first | refine tk_iinc2 dX11_tellKinds_180 (kc_inc _) rfl ?_ | refine tk_iinc2 dX11_tellKinds_180 rfl rfl ?_
            refine tk_goto dX11_tellKinds_183 ?_
            try simp only [va_up_self, bx_uu, tk_une, tk_usrt, not_false_eq_true, Nat.reduceEqDiff, Nat.reduceLT, Nat.reduceAdd, Nat.reduceMul, Nat.reduceLeDiff, reduceCtorEq]
            rw [← hKw, tkcp_s g (Kf R k2)]
            exact k _ (by repeat' (first | exact trivial | refine ⟨Or.inl rfl, ?_⟩ | refine ⟨Or.inr rfl, ?_⟩))
          · exact absurd h135 (by decide)
    | true =>
      have ks := r_kSearch (G := G) (n := n) (I := I) (P := P) (L := va_up (va_up L 77 lo) 78 hi) (g := va_up (tkcp g (Kf R k2) w) w (Kf R kd w)) (mo := false) (Q := Q) hR hnp hnp4 hN2 hc hkd hw hRw
      simp only [va_up_self, bx_uu, tk_une, tk_usrt, not_false_eq_true, Nat.reduceEqDiff, Nat.reduceLT, Nat.reduceAdd, Nat.reduceMul, Nat.reduceLeDiff, reduceCtorEq] at ks
      have hKw : Kf R k2 w = nI (k2 w) := by unfold Kf; rw [if_pos hRw]
      refine tk_iload2 dX11_tellKinds_98 ?_
      refine tk_aload0 dX11_tellKinds_99 ?_
      refine tk_getI dX11_tellKinds_100 fX11_256 rfl hR.o ?_
      simp only [va_up_self, bx_uu, tk_une, tk_usrt, not_false_eq_true, Nat.reduceEqDiff, Nat.reduceLT, Nat.reduceAdd, Nat.reduceMul, Nat.reduceLeDiff, reduceCtorEq, hN]
      first | refine tk_icmp_geN dX11_tellKinds_103 (by omega) (by omega) (fun h103 => ?_) (fun h103 => ?_) | refine tk_jcmp_ge dX11_tellKinds_103 (fun h103 => ?_) (fun h103 => ?_)
      · exfalso; omega
      · refine tk_aload0 dX11_tellKinds_106 ?_
        refine tk_getP dX11_tellKinds_107 fX11_108 rfl hR.o (hR.p 40 rfl) ?_
        refine tk_iload2 dX11_tellKinds_110 ?_
        refine tk_aload0 dX11_tellKinds_111 ?_
        refine tk_getP dX11_tellKinds_112 fX11_105 rfl hR.o (hR.p 39 rfl) ?_
        refine tk_iload2 dX11_tellKinds_115 ?_
        refine tk_iald dX11_tellKinds_116 (hR.t 72 rfl) (by omega) (by omega) ?_
        simp only [va_up_self, bx_uu, tk_une, tk_usrt, not_false_eq_true, Nat.reduceEqDiff, Nat.reduceLT, Nat.reduceAdd, Nat.reduceMul, Nat.reduceLeDiff, reduceCtorEq]
        rw [tkcp_lt hw]
        refine tk_iast dX11_tellKinds_117 (hR.t 73 rfl) (by omega) (by omega) ?_
        refine tk_aload0 dX11_tellKinds_118 ?_
        refine tk_getP dX11_tellKinds_119 fX11_114 rfl hR.o (hR.p 42 rfl) ?_
        refine tk_iload2 dX11_tellKinds_122 ?_
        refine tk_bald dX11_tellKinds_123 (hR.t 75 rfl) (by omega) (by omega) ?_
        simp only [va_up_self, bx_uu, tk_une, tk_usrt, not_false_eq_true, Nat.reduceEqDiff, Nat.reduceLT, Nat.reduceAdd, Nat.reduceMul, Nat.reduceLeDiff, reduceCtorEq, ht w hw, hRw]
        refine tk_istore3 dX11_tellKinds_124 rfl ?_
        refine tk_iconst dX11_tellKinds_125 kc_iconst_0 ?_
        refine tk_istore4 dX11_tellKinds_126 rfl ?_
        try simp only [va_up_self, bx_uu, tk_une, tk_usrt, not_false_eq_true, Nat.reduceEqDiff, Nat.reduceLT, Nat.reduceAdd, Nat.reduceMul, Nat.reduceLeDiff, reduceCtorEq]
        refine tk_wk ?_ (ks ?_ w 0 (by omega) (fun j hj => by omega))
        · exact (by repeat' (first | exact trivial | refine ⟨Or.inl rfl, ?_⟩ | refine ⟨Or.inr rfl, ?_⟩))
        · intro l hl
          refine tk_wk hl ?_
          rw [← hk2, ← hKw, tkcp_s g (Kf R k2)]
          first | refine tk_iinc2 dX11_tellKinds_180 (kc_inc _) rfl ?_ | refine tk_iinc2 dX11_tellKinds_180 rfl rfl ?_
          refine tk_goto dX11_tellKinds_183 ?_
          exact k _ (by repeat' (first | exact trivial | refine ⟨Or.inl rfl, ?_⟩ | refine ⟨Or.inr rfl, ?_⟩))
theorem r_tellKinds (hR : tkRef T P) {np N : Nat} {c : Nat → Nat → Nat} {f : Nat → Int32} {R : Nat → Bool} (hnp : I 41 0 = nI np) (hnp4 : np ≤ 4) (hN : I 40 35 = nI N) (hN2 : N ≤ 128) (hc : ∀ p, p < np → ∀ w, w < N → I 71 (128 * p + w) = nI (c p w) ∧ c p w < N) (ht : ∀ w, w < N → I 75 w = tkb (R w)) (hf : ∀ w, w < N → I 70 w = f w) : tkM G mX11_tellKinds 1 0 0 [vR 40] (n, T, I, L, P) (KQ n T P I L N np c f R) := by
  have hcl : ∀ p, p < np → ∀ w, w < N → c p w < N := fun p hp w hw => (hc p hp w hw).2
  have out : ∀ (kd : Nat → Nat) (g : Nat → Int32) (l7 l8 : Nat → Int64), KND N np c f R kd → tkX G mX11_tellKinds 1 0 0 86 [some (vR 40), some (vI (tkb false)), none, none, none] [] (n, T, va_up (va_up I 72 (tkcp (I 72) (Kf R kd) N)) 73 g, va_up (va_up L 77 l7) 78 l8, P) (KQ n T P I L N np c f R) := by
    intro kd g l7 l8 hq
    refine tk_iload1 dX11_tellKinds_86 ?_
    first | refine tk_jf_eqB dX11_tellKinds_87 (fun h87 => ?_) (fun h87 => ?_) | refine tk_if_eq dX11_tellKinds_87 (fun h87 => ?_) (fun h87 => ?_)
    · refine tk_return dX11_tellKinds_240 rfl ?_
      exact ⟨kd, g, l7, l8, rfl, rfl, hq⟩
    · cases h87
  have loop : ∀ (m : Nat) (kd : Nat → Nat) (g : Nat → Int32) (l7 l8 : Nat → Int64), N - cntR (reps R kd) N ≤ m → KI N np c f R kd → tkX G mX11_tellKinds 1 0 0 86 [some (vR 40), some (vI (tkb true)), none, none, none] [] (n, T, va_up (va_up I 72 (tkcp (I 72) (Kf R kd) N)) 73 g, va_up (va_up L 77 l7) 78 l8, P) (KQ n T P I L N np c f R) := by
    intro m
    induction m with
    | zero =>
      intro kd g l7 l8 hm hk
      have hkN : ∀ u, u < N → R u = true → kd u < N := fun u hu r => by have := (hk.1 u hu r).2.1; omega
      have hs : ∀ w, w < N → R w = true → kdS R kd (fun u w => rLk (tkcp l7 (tcF kLo c R kd N np 0) 512) (tkcp l8 (tcF kHi c R kd N np 0) 512) c u w np) w = kd w := by
        intro w hw r
        by_cases e : kdS R kd (fun u w => rLk (tkcp l7 (tcF kLo c R kd N np 0) 512) (tkcp l8 (tcF kHi c R kd N np 0) 512) c u w np) w = kd w
        · exact e
        · exfalso
          have q1 := kdS_grow (N := N) rLk_LKE hk hw r e
          have q2 := cntR_le (reps R (kdS R kd (fun u w => rLk (tkcp l7 (tcF kLo c R kd N np 0) 512) (tkcp l8 (tcF kHi c R kd N np 0) 512) c u w np))) N
          omega
      have hmo : anyB (fun w => decide (¬ Kf R (kdS R kd (fun u w => rLk (tkcp l7 (tcF kLo c R kd N np 0) 512) (tkcp l8 (tcF kHi c R kd N np 0) 512) c u w np)) w = Kf R kd w)) N = false := by
        cases e : anyB (fun w => decide (¬ Kf R (kdS R kd (fun u w => rLk (tkcp l7 (tcF kLo c R kd N np 0) 512) (tkcp l8 (tcF kHi c R kd N np 0) 512) c u w np)) w = Kf R kd w)) N with
        | false => rfl
        | true =>
          exfalso
          obtain ⟨w, hw, h⟩ := anyB_iff.mp e
          have h := of_decide_eq_true h
          cases er : R w with
          | false => exact h (Kf_n er)
          | true => exact h (by unfold Kf; rw [if_pos er, if_pos er, hs w hw er])
      have fin3 : ∀ gg, tkX G mX11_tellKinds 1 0 0 86 [some (vR 40), some (vI (tkb (anyB (fun w => decide (¬ Kf R (kdS R kd (fun u w => rLk (tkcp l7 (tcF kLo c R kd N np 0) 512) (tkcp l8 (tcF kHi c R kd N np 0) 512) c u w np)) w = Kf R kd w)) N))), none, none, none] [] (n, T, va_up (va_up I 72 (tkcp (I 72) (Kf R (kdS R kd (fun u w => rLk (tkcp l7 (tcF kLo c R kd N np 0) 512) (tkcp l8 (tcF kHi c R kd N np 0) 512) c u w np))) N)) 73 gg, va_up (va_up L 77 (tkcp l7 (tcF kLo c R kd N np 0) 512)) 78 (tkcp l8 (tcF kHi c R kd N np 0) 512), P) (KQ n T P I L N np c f R) := by
        intro gg
        rw [hmo]
        exact out _ _ _ _ (KND_of hnp4 hN2 hcl hk hs).1
      refine tk_iload1 dX11_tellKinds_86 ?_
      first | refine tk_jf_eqB dX11_tellKinds_87 (fun h87 => ?_) (fun h87 => ?_) | refine tk_if_eq dX11_tellKinds_87 (fun h87 => ?_) (fun h87 => ?_)
      · cases h87
      · refine tk_iconst dX11_tellKinds_90 kc_iconst_0 ?_
        refine tk_istore1 dX11_tellKinds_91 rfl ?_
        refine tk_aload0 dX11_tellKinds_92 ?_
        refine tk_callV0y dX11_tellKinds_93 kX11_262 hR.o (r_tellCells (c := c) (R := R) (kd := kd) hR (by simp only [va_up_self, bx_uu, tk_une, tk_usrt, not_false_eq_true, Nat.reduceEqDiff, Nat.reduceLT, Nat.reduceAdd, Nat.reduceMul, Nat.reduceLeDiff, reduceCtorEq]; exact hnp) hnp4 (by simp only [va_up_self, bx_uu, tk_une, tk_usrt, not_false_eq_true, Nat.reduceEqDiff, Nat.reduceLT, Nat.reduceAdd, Nat.reduceMul, Nat.reduceLeDiff, reduceCtorEq]; exact hN) hN2 (fun p hp w hw => by simp only [va_up_self, bx_uu, tk_une, tk_usrt, not_false_eq_true, Nat.reduceEqDiff, Nat.reduceLT, Nat.reduceAdd, Nat.reduceMul, Nat.reduceLeDiff, reduceCtorEq]; exact hc p hp w hw) (fun w hw => by simp only [va_up_self, bx_uu, tk_une, tk_usrt, not_false_eq_true, Nat.reduceEqDiff, Nat.reduceLT, Nat.reduceAdd, Nat.reduceMul, Nat.reduceLeDiff, reduceCtorEq]; exact ht w hw) (fun w hw hr => by simp only [va_up_self, bx_uu, tk_une, tk_usrt, not_false_eq_true, Nat.reduceEqDiff, Nat.reduceLT, Nat.reduceAdd, Nat.reduceMul, Nat.reduceLeDiff, reduceCtorEq]; rw [tkcp_lt hw]; exact ⟨if_pos hr, hkN w hw hr⟩)) (Nat.le_of_ble_eq_true rfl) (by omega) ?_
        refine tk_iconst dX11_tellKinds_96 kc_iconst_0 ?_
        refine tk_istore2 dX11_tellKinds_97 rfl ?_
        simp only [va_up_self, bx_uu, tk_une, tk_usrt, not_false_eq_true, Nat.reduceEqDiff, Nat.reduceLT, Nat.reduceAdd, Nat.reduceMul, Nat.reduceLeDiff, reduceCtorEq]
        refine tk_wk ?_ (r_kPass (k2 := kdS R kd (fun u w => rLk (tkcp l7 (tcF kLo c R kd N np 0) 512) (tkcp l8 (tcF kHi c R kd N np 0) 512) c u w np)) hR hnp hnp4 hN hN2 hc ht hkN rfl ?_)
        · exact (by repeat' (first | exact trivial | refine ⟨Or.inl rfl, ?_⟩ | refine ⟨Or.inr rfl, ?_⟩))
        · intro l hl
          refine tk_wk hl ?_
          exact fin3 _
    | succ m ih =>
      intro kd g l7 l8 hm hk
      have hkN : ∀ u, u < N → R u = true → kd u < N := fun u hu r => by have := (hk.1 u hu r).2.1; omega
      have fin3 : ∀ gg, tkX G mX11_tellKinds 1 0 0 86 [some (vR 40), some (vI (tkb (anyB (fun w => decide (¬ Kf R (kdS R kd (fun u w => rLk (tkcp l7 (tcF kLo c R kd N np 0) 512) (tkcp l8 (tcF kHi c R kd N np 0) 512) c u w np)) w = Kf R kd w)) N))), none, none, none] [] (n, T, va_up (va_up I 72 (tkcp (I 72) (Kf R (kdS R kd (fun u w => rLk (tkcp l7 (tcF kLo c R kd N np 0) 512) (tkcp l8 (tcF kHi c R kd N np 0) 512) c u w np))) N)) 73 gg, va_up (va_up L 77 (tkcp l7 (tcF kLo c R kd N np 0) 512)) 78 (tkcp l8 (tcF kHi c R kd N np 0) 512), P) (KQ n T P I L N np c f R) := by
        intro gg
        cases hmo : anyB (fun w => decide (¬ Kf R (kdS R kd (fun u w => rLk (tkcp l7 (tcF kLo c R kd N np 0) 512) (tkcp l8 (tcF kHi c R kd N np 0) 512) c u w np)) w = Kf R kd w)) N with
        | false =>
          refine out _ _ _ _ (KND_of hnp4 hN2 hcl hk (fun w hw r => ?_)).1
          by_cases e : Kf R (kdS R kd (fun u w => rLk (tkcp l7 (tcF kLo c R kd N np 0) 512) (tkcp l8 (tcF kHi c R kd N np 0) 512) c u w np)) w = Kf R kd w
          · unfold Kf at e
            rw [if_pos r, if_pos r] at e
            have b1 := (kdS_of (N := N) (kd := kd) (lk := fun u w => rLk (tkcp l7 (tcF kLo c R kd N np 0) 512) (tkcp l8 (tcF kHi c R kd N np 0) 512) c u w np) rLk_LKE hw r).2.2.2
            have b2 := hkN w hw r
            exact (nI_eq (by omega) (by omega)).mp e
          · exfalso
            have : anyB (fun w => decide (¬ Kf R (kdS R kd (fun u w => rLk (tkcp l7 (tcF kLo c R kd N np 0) 512) (tkcp l8 (tcF kHi c R kd N np 0) 512) c u w np)) w = Kf R kd w)) N = true := anyB_iff.mpr ⟨w, hw, decide_eq_true e⟩
            rw [hmo] at this
            cases this
        | true =>
          refine ih _ _ _ _ ?_ (kdS_KI' hnp4 hN2 hcl hk)
          obtain ⟨w, hw, h⟩ := anyB_iff.mp hmo
          have h := of_decide_eq_true h
          cases er : R w with
          | false => exact absurd (Kf_n er) h
          | true =>
            have q1 := kdS_grow (N := N) (lk := fun u w => rLk (tkcp l7 (tcF kLo c R kd N np 0) 512) (tkcp l8 (tcF kHi c R kd N np 0) 512) c u w np) rLk_LKE hk hw er (fun e => h (by unfold Kf; rw [if_pos er, if_pos er, e]))
            omega
      refine tk_iload1 dX11_tellKinds_86 ?_
      first | refine tk_jf_eqB dX11_tellKinds_87 (fun h87 => ?_) (fun h87 => ?_) | refine tk_if_eq dX11_tellKinds_87 (fun h87 => ?_) (fun h87 => ?_)
      · cases h87
      · refine tk_iconst dX11_tellKinds_90 kc_iconst_0 ?_
        refine tk_istore1 dX11_tellKinds_91 rfl ?_
        refine tk_aload0 dX11_tellKinds_92 ?_
        refine tk_callV0y dX11_tellKinds_93 kX11_262 hR.o (r_tellCells (c := c) (R := R) (kd := kd) hR (by simp only [va_up_self, bx_uu, tk_une, tk_usrt, not_false_eq_true, Nat.reduceEqDiff, Nat.reduceLT, Nat.reduceAdd, Nat.reduceMul, Nat.reduceLeDiff, reduceCtorEq]; exact hnp) hnp4 (by simp only [va_up_self, bx_uu, tk_une, tk_usrt, not_false_eq_true, Nat.reduceEqDiff, Nat.reduceLT, Nat.reduceAdd, Nat.reduceMul, Nat.reduceLeDiff, reduceCtorEq]; exact hN) hN2 (fun p hp w hw => by simp only [va_up_self, bx_uu, tk_une, tk_usrt, not_false_eq_true, Nat.reduceEqDiff, Nat.reduceLT, Nat.reduceAdd, Nat.reduceMul, Nat.reduceLeDiff, reduceCtorEq]; exact hc p hp w hw) (fun w hw => by simp only [va_up_self, bx_uu, tk_une, tk_usrt, not_false_eq_true, Nat.reduceEqDiff, Nat.reduceLT, Nat.reduceAdd, Nat.reduceMul, Nat.reduceLeDiff, reduceCtorEq]; exact ht w hw) (fun w hw hr => by simp only [va_up_self, bx_uu, tk_une, tk_usrt, not_false_eq_true, Nat.reduceEqDiff, Nat.reduceLT, Nat.reduceAdd, Nat.reduceMul, Nat.reduceLeDiff, reduceCtorEq]; rw [tkcp_lt hw]; exact ⟨if_pos hr, hkN w hw hr⟩)) (Nat.le_of_ble_eq_true rfl) (by omega) ?_
        refine tk_iconst dX11_tellKinds_96 kc_iconst_0 ?_
        refine tk_istore2 dX11_tellKinds_97 rfl ?_
        simp only [va_up_self, bx_uu, tk_une, tk_usrt, not_false_eq_true, Nat.reduceEqDiff, Nat.reduceLT, Nat.reduceAdd, Nat.reduceMul, Nat.reduceLeDiff, reduceCtorEq]
        refine tk_wk ?_ (r_kPass (k2 := kdS R kd (fun u w => rLk (tkcp l7 (tcF kLo c R kd N np 0) 512) (tkcp l8 (tcF kHi c R kd N np 0) 512) c u w np)) hR hnp hnp4 hN hN2 hc ht hkN rfl ?_)
        · exact (by repeat' (first | exact trivial | refine ⟨Or.inl rfl, ?_⟩ | refine ⟨Or.inr rfl, ?_⟩))
        · intro l hl
          refine tk_wk hl ?_
          exact fin3 _
  refine tkM.of (ls := [some _, none, none, none, none]) (by decide +kernel) (by decide +kernel) (Nat.le_of_ble_eq_true rfl) rfl ?_
  refine tk_iconst dX11_tellKinds_0 kc_iconst_0 ?_
  refine tk_istore1 dX11_tellKinds_1 rfl ?_
  refine tk_fr 0 N (fun i => [some (vR 40), some (vI (nI i)), none, none, none]) (fun i => (n, T, va_up I 72 (tkcp (I 72) (Kf R (kd0 R f)) i), L, P)) (by omega) (by repeat' (first | exact trivial | refine ⟨Or.inl rfl, ?_⟩ | refine ⟨Or.inr rfl, ?_⟩)) (by rw [tkcp_0, tk_up_id]) ?_ ?_
  · refine tk_iload1 dX11_tellKinds_2 ?_
    refine tk_aload0 dX11_tellKinds_3 ?_
    refine tk_getI dX11_tellKinds_4 fX11_256 rfl hR.o ?_
    simp only [va_up_self, bx_uu, tk_une, tk_usrt, not_false_eq_true, Nat.reduceEqDiff, Nat.reduceLT, Nat.reduceAdd, Nat.reduceMul, Nat.reduceLeDiff, reduceCtorEq, hN]
    first | refine tk_icmp_geN dX11_tellKinds_7 (by omega) (by omega) (fun h7 => ?_) (fun h7 => ?_) | refine tk_jcmp_ge dX11_tellKinds_7 (fun h7 => ?_) (fun h7 => ?_)
    · refine tk_iconst dX11_tellKinds_84 kc_iconst_1 ?_
      refine tk_istore1 dX11_tellKinds_85 rfl ?_
      have q := loop N (kd0 R f) (I 73) (L 77) (L 78) (by omega) kd0_KI
      rw [tk_uid (k := 73) (v := I 73) (by simp only [va_up_self, bx_uu, tk_une, tk_usrt, not_false_eq_true, Nat.reduceEqDiff, Nat.reduceLT, Nat.reduceAdd, Nat.reduceMul, Nat.reduceLeDiff, reduceCtorEq]), tk_uid (k := 78) (v := L 78) (by simp only [va_up_self, bx_uu, tk_une, tk_usrt, not_false_eq_true, Nat.reduceEqDiff, Nat.reduceLT, Nat.reduceAdd, Nat.reduceMul, Nat.reduceLeDiff, reduceCtorEq]), tk_up_id] at q
      exact tk_wk (by repeat' (first | exact trivial | refine ⟨Or.inl rfl, ?_⟩ | refine ⟨Or.inr rfl, ?_⟩)) q
    · exfalso; omega
  · intro i _ hi k
    cases hRi : R i with
    | true =>
      have q := r_kInit (G := G) (n := n) (L := L) (P := P) (Q := KQ n T P I L N np c f R) hR (np := np) hN hN2 ht hf hi hRi k (i + 1) (Nat.le_refl _)
      rw [Vd_top, ixm_s] at q
      refine tk_iload1 dX11_tellKinds_2 ?_
      refine tk_aload0 dX11_tellKinds_3 ?_
      refine tk_getI dX11_tellKinds_4 fX11_256 rfl hR.o ?_
      simp only [va_up_self, bx_uu, tk_une, tk_usrt, not_false_eq_true, Nat.reduceEqDiff, Nat.reduceLT, Nat.reduceAdd, Nat.reduceMul, Nat.reduceLeDiff, reduceCtorEq, hN]
      first | refine tk_icmp_geN dX11_tellKinds_7 (by omega) (by omega) (fun h7 => ?_) (fun h7 => ?_) | refine tk_jcmp_ge dX11_tellKinds_7 (fun h7 => ?_) (fun h7 => ?_)
      · exfalso; omega
      · refine tk_aload0 dX11_tellKinds_10 ?_
        refine tk_getP dX11_tellKinds_11 fX11_105 rfl hR.o (hR.p 39 rfl) ?_
        refine tk_iload1 dX11_tellKinds_14 ?_
        refine tk_iconst dX11_tellKinds_15 kc_iconst_m1 ?_
        refine tk_iast dX11_tellKinds_16 (hR.t 72 rfl) (by omega) (by omega) ?_
        refine tk_iload1 dX11_tellKinds_17 ?_
        refine tk_istore2 dX11_tellKinds_18 rfl ?_
        try simp only [va_up_self, bx_uu, tk_une, tk_usrt, not_false_eq_true, Nat.reduceEqDiff, Nat.reduceLT, Nat.reduceAdd, Nat.reduceMul, Nat.reduceLeDiff, reduceCtorEq]
        exact tk_wk (by repeat' (first | exact trivial | refine ⟨Or.inl rfl, ?_⟩ | refine ⟨Or.inr rfl, ?_⟩)) q
    | false =>
      refine tk_iload1 dX11_tellKinds_2 ?_
      refine tk_aload0 dX11_tellKinds_3 ?_
      refine tk_getI dX11_tellKinds_4 fX11_256 rfl hR.o ?_
      simp only [va_up_self, bx_uu, tk_une, tk_usrt, not_false_eq_true, Nat.reduceEqDiff, Nat.reduceLT, Nat.reduceAdd, Nat.reduceMul, Nat.reduceLeDiff, reduceCtorEq, hN]
      first | refine tk_icmp_geN dX11_tellKinds_7 (by omega) (by omega) (fun h7 => ?_) (fun h7 => ?_) | refine tk_jcmp_ge dX11_tellKinds_7 (fun h7 => ?_) (fun h7 => ?_)
      · exfalso; omega
      · refine tk_aload0 dX11_tellKinds_10 ?_
        refine tk_getP dX11_tellKinds_11 fX11_105 rfl hR.o (hR.p 39 rfl) ?_
        refine tk_iload1 dX11_tellKinds_14 ?_
        refine tk_iconst dX11_tellKinds_15 kc_iconst_m1 ?_
        refine tk_iast dX11_tellKinds_16 (hR.t 72 rfl) (by omega) (by omega) ?_
        refine tk_iload1 dX11_tellKinds_17 ?_
        refine tk_istore2 dX11_tellKinds_18 rfl ?_
        refine tk_iload2 dX11_tellKinds_19 ?_
        refine tk_jf_lt dX11_tellKinds_20 (fun h20 => ?_) (fun h20 => ?_)
        · first | refine tk_iinc1 dX11_tellKinds_78 (kc_inc _) rfl ?_ | refine tk_iinc1 dX11_tellKinds_78 rfl rfl ?_
          refine tk_goto dX11_tellKinds_81 ?_
          try simp only [va_up_self, bx_uu, tk_une, tk_usrt, not_false_eq_true, Nat.reduceEqDiff, Nat.reduceLT, Nat.reduceAdd, Nat.reduceMul, Nat.reduceLeDiff, reduceCtorEq]
          rw [show (-1 : Int32) = Kf R (kd0 R f) i from (by unfold Kf; rw [hRi]; rfl), tkcp_s (I 72) (Kf R (kd0 R f))]
          exact k _ (by repeat' (first | exact trivial | refine ⟨Or.inl rfl, ?_⟩ | refine ⟨Or.inr rfl, ?_⟩))
        · refine tk_aload0 dX11_tellKinds_23 ?_
          refine tk_getP dX11_tellKinds_24 fX11_114 rfl hR.o (hR.p 42 rfl) ?_
          refine tk_iload1 dX11_tellKinds_27 ?_
          refine tk_bald dX11_tellKinds_28 (hR.t 75 rfl) (by omega) (by omega) ?_
          simp only [va_up_self, bx_uu, tk_une, tk_usrt, not_false_eq_true, Nat.reduceEqDiff, Nat.reduceLT, Nat.reduceAdd, Nat.reduceMul, Nat.reduceLeDiff, reduceCtorEq, ht i hi, hRi]
          first | refine tk_jf_eqB dX11_tellKinds_29 (fun h29 => ?_) (fun h29 => ?_) | refine tk_if_eq dX11_tellKinds_29 (fun h29 => ?_) (fun h29 => ?_)
          · first | refine tk_iinc1 dX11_tellKinds_78 (kc_inc _) rfl ?_ | refine tk_iinc1 dX11_tellKinds_78 rfl rfl ?_
            refine tk_goto dX11_tellKinds_81 ?_
            try simp only [va_up_self, bx_uu, tk_une, tk_usrt, not_false_eq_true, Nat.reduceEqDiff, Nat.reduceLT, Nat.reduceAdd, Nat.reduceMul, Nat.reduceLeDiff, reduceCtorEq]
            rw [show (-1 : Int32) = Kf R (kd0 R f) i from (by unfold Kf; rw [hRi]; rfl), tkcp_s (I 72) (Kf R (kd0 R f))]
            exact k _ (by repeat' (first | exact trivial | refine ⟨Or.inl rfl, ?_⟩ | refine ⟨Or.inr rfl, ?_⟩))
          · cases h29
end REFX
