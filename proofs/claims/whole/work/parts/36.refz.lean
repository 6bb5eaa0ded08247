/-! ===== the reference: cut, its rows ===== -/
def rCz (g : Nat → Int32) (u x : Nat → Nat) (w : Nat) : Nat → Nat → Int32
  | 0 => g
  | p + 1 => va_up (rCz g u x w p) (64 * p + u w) (nI (u (x p)))
def rCf (g : Nat → Int32) (u : Nat → Nat) (rp : Nat → Bool) (f : Nat → Int32) : Nat → Nat → Int32
  | 0 => g
  | w + 1 => if rp w then va_up (rCf g u rp f w) (u w) (f w) else rCf g u rp f w
def rCc (g : Nat → Int32) (u : Nat → Nat) (rp : Nat → Bool) (x : Nat → Nat → Nat) (np : Nat) : Nat → Nat → Int32
  | 0 => g
  | w + 1 => if rp w then rCz (rCc g u rp x np w) u (fun p => x p w) w np else rCc g u rp x np w
theorem reps_R {R : Nat → Bool} {kd : Nat → Nat} {w : Nat} (h : reps R kd w = true) : R w = true ∧ kd w = w := by
  unfold reps at h
  rw [Bool.and_eq_true, decide_eq_true_eq] at h
  exact h
theorem neg_nI : ∀ w, w < 128 → ¬ (-1 : Int32) = nI w := by decide +kernel
theorem Kf_rep {R : Nat → Bool} {kd : Nat → Nat} {w : Nat} (hw : w < 128) (hk : R w = true → kd w < 128) : Kf R kd w = nI w ↔ reps R kd w = true := by
  unfold Kf reps
  cases e : R w with
  | true => rw [if_pos rfl, Bool.true_and, decide_eq_true_eq]; have := hk e; exact nI_eq (by omega) (by omega)
  | false =>
    rw [if_neg (by decide), Bool.false_and]
    refine ⟨fun h => ?_, fun h => by cases h⟩
    exact absurd h (neg_nI w hw)
theorem cntR_lt_of {R : Nat → Bool} {w N : Nat} (hw : w < N) (h : R w = true) : cntR R w < cntR R N := by
  induction N with
  | zero => omega
  | succ N ih =>
    rw [cntR]
    by_cases e : w = N
    · subst e; rw [if_pos h]; omega
    · have := ih (by omega); omega
theorem mnK_lt {c : Nat → Nat → Nat} {R : Nat → Bool} {kd : Nat → Nat} {N p w : Nat} (hw : w < N) (hr : R w = true) (hk : kd w < N) : mnK c R kd N p w < N := by
  have := (mnD_spec (fun u => R u && decide (c p u = c p w)) kd N N).2.1 w hw (by show (R w && decide (c p w = c p w)) = true; rw [hr, decide_eq_true rfl]; rfl)
  unfold mnK
  omega
section REFZ
variable {G : tkG} {n : Nat} {T : Nat → Nat × Nat} {I : Nat → Nat → Int32} {L : Nat → Nat → Int64} {P : Nat → Nat → Option Nat}
theorem r_cutRow (hR : tkRef T P) {np N : Nat} {c : Nat → Nat → Nat} {R : Nat → Bool} {kd u : Nat → Nat} (hnp : I 41 0 = nI np) (hnp4 : np ≤ 4) (hN : I 40 35 = nI N) (hN2 : N ≤ 128) (hc : ∀ p, p < np → ∀ w, w < N → I 71 (128 * p + w) = nI (c p w) ∧ c p w < N) (ht : ∀ w, w < N → I 75 w = tkb (R w)) (hk : ∀ u, u < N → R u = true → I 72 u = nI (kd u) ∧ kd u < N) (hu : ∀ w, w < N → I 74 w = nI (u w)) {Q : Option tkV → tkH → Prop} {m : Int32} {w : Nat} (hw : w < N) (hr : R w = true) (hu2 : u w < 64) (fin : ∀ l, tkle [some (vR 40), some (vI m), some (vI (nI w)), none, none, none] l → tkX G mX11_cut 2 0 0 226 l [] (n, T, va_up I 65 (rCz (I 65) u (fun p => mnK c R kd N p w) w np), L, P) Q) : tkX G mX11_cut 2 0 0 98 [some (vR 40), some (vI m), some (vI (nI w)), some (vI (nI 0)), none, none] [] (n, T, I, L, P) Q := by
  refine tk_fr 0 np (fun p => [some (vR 40), some (vI m), some (vI (nI w)), some (vI (nI p)), none, none]) (fun p => (n, T, va_up I 65 (rCz (I 65) u (fun p => mnK c R kd N p w) w p), L, P)) (by omega) (by repeat' (first | exact trivial | refine ⟨Or.inl rfl, ?_⟩ | refine ⟨Or.inr rfl, ?_⟩)) (by rw [rCz, tk_up_id]) ?_ ?_
  · refine tk_iload3 dX11_cut_98 ?_
    refine tk_aload0 dX11_cut_99 ?_
    refine tk_getP dX11_cut_100 fX11_7 rfl hR.o (hR.p 0 rfl) ?_
    refine tk_iconst dX11_cut_103 kc_iconst_0 ?_
    refine tk_iald dX11_cut_104 (hR.t 41 rfl) (by omega) (by omega) ?_
    simp only [va_up_self, bx_uu, tk_une, tk_usrt, not_false_eq_true, Nat.reduceEqDiff, Nat.reduceLT, Nat.reduceAdd, Nat.reduceMul, Nat.reduceLeDiff, reduceCtorEq, hnp]
    first | refine tk_icmp_geN dX11_cut_105 (by omega) (by omega) (fun h105 => ?_) (fun h105 => ?_) | refine tk_jcmp_ge dX11_cut_105 (fun h105 => ?_) (fun h105 => ?_)
    · exact fin _ (by repeat' (first | exact trivial | refine ⟨Or.inl rfl, ?_⟩ | refine ⟨Or.inr rfl, ?_⟩))
    · exfalso; omega
  · intro p _ hp k
    have hm : mnD (fun u => R u && decide (c p u = c p w)) kd N N < N := mnK_lt (c := c) (p := p) hw hr (hk w hw hr).2
    have e5 : ixm N = nI (N - 1) := by unfold ixm; rw [pk_sub (by omega)]
    have q := r_cutCell (G := G) (n := n) (L := L) (P := P) (I := va_up I 65 (rCz (I 65) u (fun p => mnK c R kd N p w) w p)) (Q := Q) (a1 := some (vI m)) hR hnp4 (by simp only [va_up_self, bx_uu, tk_une, tk_usrt, not_false_eq_true, Nat.reduceEqDiff, Nat.reduceLT, Nat.reduceAdd, Nat.reduceMul, Nat.reduceLeDiff, reduceCtorEq]; exact hN) hN2 (fun p hp w hw => by simp only [va_up_self, bx_uu, tk_une, tk_usrt, not_false_eq_true, Nat.reduceEqDiff, Nat.reduceLT, Nat.reduceAdd, Nat.reduceMul, Nat.reduceLeDiff, reduceCtorEq]; exact hc p hp w hw) (fun w hw => by simp only [va_up_self, bx_uu, tk_une, tk_usrt, not_false_eq_true, Nat.reduceEqDiff, Nat.reduceLT, Nat.reduceAdd, Nat.reduceMul, Nat.reduceLeDiff, reduceCtorEq]; exact ht w hw) (fun w hw r => by simp only [va_up_self, bx_uu, tk_une, tk_usrt, not_false_eq_true, Nat.reduceEqDiff, Nat.reduceLT, Nat.reduceAdd, Nat.reduceMul, Nat.reduceLeDiff, reduceCtorEq]; exact hk w hw r) hp hw N N (Nat.le_refl _) (Nat.le_refl _)
    rw [e5] at q
    refine tk_iload3 dX11_cut_98 ?_
    refine tk_aload0 dX11_cut_99 ?_
    refine tk_getP dX11_cut_100 fX11_7 rfl hR.o (hR.p 0 rfl) ?_
    refine tk_iconst dX11_cut_103 kc_iconst_0 ?_
    refine tk_iald dX11_cut_104 (hR.t 41 rfl) (by omega) (by omega) ?_
    simp only [va_up_self, bx_uu, tk_une, tk_usrt, not_false_eq_true, Nat.reduceEqDiff, Nat.reduceLT, Nat.reduceAdd, Nat.reduceMul, Nat.reduceLeDiff, reduceCtorEq, hnp]
    first | refine tk_icmp_geN dX11_cut_105 (by omega) (by omega) (fun h105 => ?_) (fun h105 => ?_) | refine tk_jcmp_ge dX11_cut_105 (fun h105 => ?_) (fun h105 => ?_)
    · exfalso; omega
    · refine tk_aload0 dX11_cut_108 ?_
      refine tk_getI dX11_cut_109 fX11_256 rfl hR.o ?_
      simp only [va_up_self, bx_uu, tk_une, tk_usrt, not_false_eq_true, Nat.reduceEqDiff, Nat.reduceLT, Nat.reduceAdd, Nat.reduceMul, Nat.reduceLeDiff, reduceCtorEq, hN]
      refine tk_istore4 dX11_cut_112 rfl ?_
      refine tk_aload0 dX11_cut_114 ?_
      refine tk_getI dX11_cut_115 fX11_256 rfl hR.o ?_
      simp only [va_up_self, bx_uu, tk_une, tk_usrt, not_false_eq_true, Nat.reduceEqDiff, Nat.reduceLT, Nat.reduceAdd, Nat.reduceMul, Nat.reduceLeDiff, reduceCtorEq, hN]
      refine tk_iconst dX11_cut_118 kc_iconst_1 ?_
      first | refine tk_isubN dX11_cut_119 (by omega) ?_ | refine tk_isub dX11_cut_119 ?_
      refine tk_istore5 dX11_cut_120 rfl ?_
      refine tk_wk ?_ (q ?_)
      · exact (by repeat' (first | exact trivial | refine ⟨Or.inl rfl, ?_⟩ | refine ⟨Or.inr rfl, ?_⟩))
      · intro l hl
        refine tk_wk hl ?_
        refine tk_aload0 dX11_cut_197 ?_
        refine tk_getP dX11_cut_198 fX11_83 rfl hR.o (hR.p 29 rfl) ?_
        refine tk_bipush dX11_cut_201 kc_bipush_64 ?_
        refine tk_iload3 dX11_cut_203 ?_
        first | refine tk_imulN dX11_cut_204 ?_ | refine tk_imul dX11_cut_204 ?_
        refine tk_aload0 dX11_cut_205 ?_
        refine tk_getP dX11_cut_206 fX11_111 rfl hR.o (hR.p 41 rfl) ?_
        refine tk_iload2 dX11_cut_209 ?_
        refine tk_iald dX11_cut_210 (hR.t 74 rfl) (by omega) (by omega) ?_
        simp only [va_up_self, bx_uu, tk_une, tk_usrt, not_false_eq_true, Nat.reduceEqDiff, Nat.reduceLT, Nat.reduceAdd, Nat.reduceMul, Nat.reduceLeDiff, reduceCtorEq, hu w hw]
        first | refine tk_iaddN dX11_cut_211 ?_ | refine tk_iadd dX11_cut_211 ?_
        refine tk_aload0 dX11_cut_212 ?_
        refine tk_getP dX11_cut_213 fX11_111 rfl hR.o (hR.p 41 rfl) ?_
        refine tk_iload4 dX11_cut_216 ?_
        refine tk_iald dX11_cut_218 (hR.t 74 rfl) (by omega) (by omega) ?_
        simp only [va_up_self, bx_uu, tk_une, tk_usrt, not_false_eq_true, Nat.reduceEqDiff, Nat.reduceLT, Nat.reduceAdd, Nat.reduceMul, Nat.reduceLeDiff, reduceCtorEq]
        rw [hu _ hm]
        refine tk_iast dX11_cut_219 (hR.t 65 rfl) (by omega) (by omega) ?_
        first | refine tk_iinc3 dX11_cut_220 (kc_inc _) rfl ?_ | refine tk_iinc3 dX11_cut_220 rfl rfl ?_
        refine tk_goto dX11_cut_223 ?_
        simp only [va_up_self, bx_uu, tk_une, tk_usrt, not_false_eq_true, Nat.reduceEqDiff, Nat.reduceLT, Nat.reduceAdd, Nat.reduceMul, Nat.reduceLeDiff, reduceCtorEq]
        exact k _ (by repeat' (first | exact trivial | refine ⟨Or.inl rfl, ?_⟩ | refine ⟨Or.inr rfl, ?_⟩))
theorem r_cutAll (hR : tkRef T P) {np N : Nat} {c : Nat → Nat → Nat} {R : Nat → Bool} {kd u : Nat → Nat} (hnp : I 41 0 = nI np) (hnp4 : np ≤ 4) (hN : I 40 35 = nI N) (hN2 : N ≤ 128) (hc : ∀ p, p < np → ∀ w, w < N → I 71 (128 * p + w) = nI (c p w) ∧ c p w < N) (ht : ∀ w, w < N → I 75 w = tkb (R w)) (hk : ∀ u, u < N → I 72 u = Kf R kd u ∧ (R u = true → kd u < N)) (hu : ∀ w, w < N → I 74 w = nI (u w)) {Q : Option tkV → tkH → Prop} {m : Int32} (hu2 : ∀ w, w < N → reps R kd w = true → u w < 64) (fin : ∀ l, tkle [some (vR 40), some (vI m), none, none, none, none] l → tkX G mX11_cut 2 0 0 232 l [] (n, T, va_up (va_up I 64 (rCf (I 64) u (reps R kd) (I 70) N)) 65 (rCc (I 65) u (reps R kd) (mnK c R kd N) np N), L, P) Q) : tkX G mX11_cut 2 0 0 61 [some (vR 40), some (vI m), some (vI (nI 0)), none, none, none] [] (n, T, I, L, P) Q := by
  refine tk_fr 0 N (fun w => [some (vR 40), some (vI m), some (vI (nI w)), none, none, none]) (fun w => (n, T, va_up (va_up I 64 (rCf (I 64) u (reps R kd) (I 70) w)) 65 (rCc (I 65) u (reps R kd) (mnK c R kd N) np w), L, P)) (by omega) (by repeat' (first | exact trivial | refine ⟨Or.inl rfl, ?_⟩ | refine ⟨Or.inr rfl, ?_⟩)) (by rw [rCf, rCc, tk_up_id, tk_up_id]) ?_ ?_
  · refine tk_iload2 dX11_cut_61 ?_
    refine tk_aload0 dX11_cut_62 ?_
    refine tk_getI dX11_cut_63 fX11_256 rfl hR.o ?_
    simp only [va_up_self, bx_uu, tk_une, tk_usrt, not_false_eq_true, Nat.reduceEqDiff, Nat.reduceLT, Nat.reduceAdd, Nat.reduceMul, Nat.reduceLeDiff, reduceCtorEq, hN]
    first | refine tk_icmp_geN dX11_cut_66 (by omega) (by omega) (fun h66 => ?_) (fun h66 => ?_) | refine tk_jcmp_ge dX11_cut_66 (fun h66 => ?_) (fun h66 => ?_)
    · exact fin _ (by repeat' (first | exact trivial | refine ⟨Or.inl rfl, ?_⟩ | refine ⟨Or.inr rfl, ?_⟩))
    · exfalso; omega
  · intro w _ hw k
    have hkr := Kf_rep (R := R) (kd := kd) (w := w) (by omega) (fun r => by have := (hk w hw).2 r; omega)
    refine tk_iload2 dX11_cut_61 ?_
    refine tk_aload0 dX11_cut_62 ?_
    refine tk_getI dX11_cut_63 fX11_256 rfl hR.o ?_
    simp only [va_up_self, bx_uu, tk_une, tk_usrt, not_false_eq_true, Nat.reduceEqDiff, Nat.reduceLT, Nat.reduceAdd, Nat.reduceMul, Nat.reduceLeDiff, reduceCtorEq, hN]
    first | refine tk_icmp_geN dX11_cut_66 (by omega) (by omega) (fun h66 => ?_) (fun h66 => ?_) | refine tk_jcmp_ge dX11_cut_66 (fun h66 => ?_) (fun h66 => ?_)
    · exfalso; omega
    · refine tk_aload0 dX11_cut_69 ?_
      refine tk_getP dX11_cut_70 fX11_105 rfl hR.o (hR.p 39 rfl) ?_
      refine tk_iload2 dX11_cut_73 ?_
      refine tk_iald dX11_cut_74 (hR.t 72 rfl) (by omega) (by omega) ?_
      simp only [va_up_self, bx_uu, tk_une, tk_usrt, not_false_eq_true, Nat.reduceEqDiff, Nat.reduceLT, Nat.reduceAdd, Nat.reduceMul, Nat.reduceLeDiff, reduceCtorEq, (hk w hw).1]
      refine tk_iload2 dX11_cut_75 ?_
      first | refine tk_icmp_neN dX11_cut_76 (by omega) (by omega) (fun h76 => ?_) (fun h76 => ?_) | refine tk_icmp_ne dX11_cut_76 (fun h76 => ?_) (fun h76 => ?_)
      · first | refine tk_iinc2 dX11_cut_226 (kc_inc _) rfl ?_ | refine tk_iinc2 dX11_cut_226 rfl rfl ?_
        refine tk_goto dX11_cut_229 ?_
        have q := k
        have hrp : ¬ reps R kd w = true := fun e => h76 (hkr.mpr e)
        rw [rCf, rCc, if_neg hrp, if_neg hrp] at q
        exact q _ (by repeat' (first | exact trivial | refine ⟨Or.inl rfl, ?_⟩ | refine ⟨Or.inr rfl, ?_⟩))
      · refine tk_aload0 dX11_cut_79 ?_
        have hrp := hkr.mp h76
        have hu3 := hu2 w hw hrp
        refine tk_getP dX11_cut_80 fX11_80 rfl hR.o (hR.p 28 rfl) ?_
        refine tk_aload0 dX11_cut_83 ?_
        refine tk_getP dX11_cut_84 fX11_111 rfl hR.o (hR.p 41 rfl) ?_
        refine tk_iload2 dX11_cut_87 ?_
        refine tk_iald dX11_cut_88 (hR.t 74 rfl) (by omega) (by omega) ?_
        simp only [va_up_self, bx_uu, tk_une, tk_usrt, not_false_eq_true, Nat.reduceEqDiff, Nat.reduceLT, Nat.reduceAdd, Nat.reduceMul, Nat.reduceLeDiff, reduceCtorEq, hu w hw]
        refine tk_aload0 dX11_cut_89 ?_
        refine tk_getP dX11_cut_90 fX11_99 rfl hR.o (hR.p 37 rfl) ?_
        refine tk_iload2 dX11_cut_93 ?_
        refine tk_iald dX11_cut_94 (hR.t 70 rfl) (by omega) (by omega) ?_
        simp only [va_up_self, bx_uu, tk_une, tk_usrt, not_false_eq_true, Nat.reduceEqDiff, Nat.reduceLT, Nat.reduceAdd, Nat.reduceMul, Nat.reduceLeDiff, reduceCtorEq]
        refine tk_iast dX11_cut_95 (hR.t 64 rfl) (by omega) (by omega) ?_
        refine tk_iconst dX11_cut_96 kc_iconst_0 ?_
        refine tk_istore3 dX11_cut_97 rfl ?_
        simp only [va_up_self, bx_uu, tk_une, tk_usrt, not_false_eq_true, Nat.reduceEqDiff, Nat.reduceLT, Nat.reduceAdd, Nat.reduceMul, Nat.reduceLeDiff, reduceCtorEq]
        refine tk_wk ?_ (r_cutRow (I := va_up (va_up I 64 (va_up (rCf (I 64) u (reps R kd) (I 70) w) (u w) (I 70 w))) 65 (rCc (I 65) u (reps R kd) (mnK c R kd N) np w)) (c := c) (R := R) (kd := kd) (u := u) (m := m) hR (by simp only [va_up_self, bx_uu, tk_une, tk_usrt, not_false_eq_true, Nat.reduceEqDiff, Nat.reduceLT, Nat.reduceAdd, Nat.reduceMul, Nat.reduceLeDiff, reduceCtorEq]; exact hnp) hnp4 (by simp only [va_up_self, bx_uu, tk_une, tk_usrt, not_false_eq_true, Nat.reduceEqDiff, Nat.reduceLT, Nat.reduceAdd, Nat.reduceMul, Nat.reduceLeDiff, reduceCtorEq]; exact hN) hN2 (fun p hp w hw => by simp only [va_up_self, bx_uu, tk_une, tk_usrt, not_false_eq_true, Nat.reduceEqDiff, Nat.reduceLT, Nat.reduceAdd, Nat.reduceMul, Nat.reduceLeDiff, reduceCtorEq]; exact hc p hp w hw) (fun w hw => by simp only [va_up_self, bx_uu, tk_une, tk_usrt, not_false_eq_true, Nat.reduceEqDiff, Nat.reduceLT, Nat.reduceAdd, Nat.reduceMul, Nat.reduceLeDiff, reduceCtorEq]; exact ht w hw) (fun v hv r => by simp only [va_up_self, bx_uu, tk_une, tk_usrt, not_false_eq_true, Nat.reduceEqDiff, Nat.reduceLT, Nat.reduceAdd, Nat.reduceMul, Nat.reduceLeDiff, reduceCtorEq]; exact ⟨(hk v hv).1.trans (if_pos r), (hk v hv).2 r⟩) (fun w hw => by simp only [va_up_self, bx_uu, tk_une, tk_usrt, not_false_eq_true, Nat.reduceEqDiff, Nat.reduceLT, Nat.reduceAdd, Nat.reduceMul, Nat.reduceLeDiff, reduceCtorEq]; exact hu w hw) hw (reps_R hrp).1 hu3 ?_)
        · exact (by repeat' (first | exact trivial | refine ⟨Or.inl rfl, ?_⟩ | refine ⟨Or.inr rfl, ?_⟩))
        · intro l hl
          refine tk_wk hl ?_
          simp only [va_up_self, bx_uu, tk_une, tk_usrt, not_false_eq_true, Nat.reduceEqDiff, Nat.reduceLT, Nat.reduceAdd, Nat.reduceMul, Nat.reduceLeDiff, reduceCtorEq]
          first | refine tk_iinc2 dX11_cut_226 (kc_inc _) rfl ?_ | refine tk_iinc2 dX11_cut_226 rfl rfl ?_
          refine tk_goto dX11_cut_229 ?_
          have q := k
          rw [rCf, rCc, if_pos hrp, if_pos hrp] at q
          exact q _ (by repeat' (first | exact trivial | refine ⟨Or.inl rfl, ?_⟩ | refine ⟨Or.inr rfl, ?_⟩))
end REFZ
