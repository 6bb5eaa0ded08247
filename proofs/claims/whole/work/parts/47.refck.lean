/-! ===== the reference: tell ===== -/
def TLR (n : Nat) (T : Nat → Nat × Nat) (P : Nat → Nat → Option Nat) (L : Nat → Nat → Int64) (I : Nat → Nat → Int32) (m np N r0 : Nat) (vf ce st : Nat → Int32) (co wa : Nat → Nat) (a b : Nat) : Option tkV → tkH → Prop := fun v h => ∃ (I' : Nat → Nat → Int32) (L' : Nat → Nat → Int64) (ff : Nat → Int32) (cc : Nat → Nat → Nat), h = (n, T, I', L', P) ∧ rLm L L' ∧ (∀ i, i < N → ff i = vf (co i)) ∧ (∀ p, p < np → ∀ i, i < N → cc p i = Vt (tSm ce co wa p (tNr st a b p) i) i 0) ∧
  ((∃ (R : Nat → Bool) (kd : Nat → Nat), RCH N r0 np cc R ∧ KND N np cc ff R kd ∧ 64 < cntR (reps R kd) N ∧ v = some (vI (-100005)) ∧ rSm I' (rFnd I)) ∨
   (∃ (W' r' : Nat) (f' c' : Nat → Int32), v = some (vI (nI W')) ∧ rSm I' (rLay (rKp I m) (nI W') (nI r') f' c') ∧ LAID N r0 np cc ff W' r' f' c'))
theorem rSm_up {I J : Nat → Nat → Int32} {a : Nat} {f : Nat → Int32} (h : rSm I J) (ha : 64 ≤ a ∧ a ≤ 86) : rSm (va_up I a f) J := by
  refine ⟨fun b hb => ?_, ?_, ?_⟩
  · rw [va_up_ne _ _ (by omega)]; exact h.1 b hb
  · rw [va_up_ne _ _ (by omega)]; exact h.2.1
  · rw [va_up_ne _ _ (by omega)]; exact h.2.2
section REFCK
variable {G : tkG} {n : Nat} {T : Nat → Nat × Nat} {I : Nat → Nat → Int32} {L : Nat → Nat → Int64} {P : Nat → Nat → Option Nat}
theorem r_tellEnd (hR : tkRef T P) {J : Nat → Nat → Int32} {L0 : Nat → Nat → Int64} {N np a b r0 m : Nat} {s a4 a7 : Int32} {x : Int64} {co wa : Nat → Nat} {c : Nat → Nat → Nat} (hc : c = fun p i => Vt (tSm (J 65) co wa p (tNr (J 44) a b p) i) i 0) (hm : m ≤ 12) (hk : I 40 20 = nI m) (hJ : rSm J I) (hL : rLm L0 L) (hnp : J 41 0 = nI np) (hnp4 : np ≤ 4) (ha : a < 4) (hb : b < 4) (hN : J 40 35 = nI N) (hN2 : N ≤ 128) (hr : J 40 36 = nI r0) (hr0 : r0 < N) (hco : ∀ i, i < N → J 79 i = nI (co i) ∧ co i < 64) (hwa : ∀ i, i < N → J 80 i = nI (wa i) ∧ wa i ≤ 2) : tkX G mX11_tell 36 0 0 230 [some (vR 40), some (vI (nI a)), some (vI (nI b)), some (vI s), some (vI a4), some (vL x), none, some (vI a7), some (vI (nI 0)), none, none, none, none, none] [] (n, T, J, L, P) (TLR n T P L0 I m np N r0 (J 64) (J 65) (J 44) co wa a b) := by
  refine r_tellRows hR hnp hnp4 ha hb hN hN2 hco hwa (fun l hl => ?_)
  refine tk_wk hl ?_
  rw [← hc]
  have hcl : ∀ p w, c p w ≤ w := fun p w => by rw [hc]; exact Vt_le
  refine tk_fr 0 N (fun i => [some (vR 40), some (vI (nI a)), some (vI (nI b)), some (vI s), some (vI a4), some (vL x), none, some (vI a7), some (vI (nI i)), none, none, none, none, none]) (fun i => (n, T, va_up (va_up J 70 (tkcp (J 70) (fun v => J 64 (co v)) i)) 71 (rTq c N (J 71) np), L, P)) (by omega) (by repeat' (first | exact trivial | refine ⟨Or.inl rfl, ?_⟩ | refine ⟨Or.inr rfl, ?_⟩)) (by rw [tkcp_0, tk_uid (k := 70)]; simp only [va_up_self, bx_uu, tk_une, tk_usrt, not_false_eq_true, Nat.reduceEqDiff, Nat.reduceLT, Nat.reduceAdd, Nat.reduceMul, Nat.reduceLeDiff, reduceCtorEq]) ?_ ?_
  · refine tk_iload8 dX11_tell_483 ?_
    refine tk_aload0 dX11_tell_485 ?_
    refine tk_getI dX11_tell_486 fX11_256 rfl hR.o ?_
    simp only [va_up_self, bx_uu, tk_une, tk_usrt, not_false_eq_true, Nat.reduceEqDiff, Nat.reduceLT, Nat.reduceAdd, Nat.reduceMul, Nat.reduceLeDiff, reduceCtorEq, hN]
    first | refine tk_icmp_geN dX11_tell_489 (by omega) (by omega) (fun h489 => ?_) (fun h489 => ?_) | refine tk_jcmp_ge dX11_tell_489 (fun h489 => ?_) (fun h489 => ?_)
    · refine tk_aload0 dX11_tell_517 ?_
      refine tk_callV0q dX11_tell_518 kX11_282 hR.o (r_cut (c := c) (N := N) (r0 := r0) (np := np) hR (by simp only [va_up_self, bx_uu, tk_une, tk_usrt, not_false_eq_true, Nat.reduceEqDiff, Nat.reduceLT, Nat.reduceAdd, Nat.reduceMul, Nat.reduceLeDiff, reduceCtorEq]; exact hnp) hnp4 (by simp only [va_up_self, bx_uu, tk_une, tk_usrt, not_false_eq_true, Nat.reduceEqDiff, Nat.reduceLT, Nat.reduceAdd, Nat.reduceMul, Nat.reduceLeDiff, reduceCtorEq]; exact hN) hN2 (by simp only [va_up_self, bx_uu, tk_une, tk_usrt, not_false_eq_true, Nat.reduceEqDiff, Nat.reduceLT, Nat.reduceAdd, Nat.reduceMul, Nat.reduceLeDiff, reduceCtorEq]; exact hr) hr0 (by simp only [va_up_self, bx_uu, tk_une, tk_usrt, not_false_eq_true, Nat.reduceEqDiff, Nat.reduceLT, Nat.reduceAdd, Nat.reduceMul, Nat.reduceLeDiff, reduceCtorEq]; exact fun p hp w hw => ⟨rTq_at hN2 hp hw, Nat.lt_of_le_of_lt (hcl p w) hw⟩)) (Nat.le_of_ble_eq_true rfl) (by omega) ?_
      rintro rr h1 ⟨R, kd, g2, g3, g4, g5, g6, l7, l8, q1, q2, q3⟩
      simp only [va_up_self, bx_uu, tk_une, tk_usrt, not_false_eq_true, Nat.reduceEqDiff, Nat.reduceLT, Nat.reduceAdd, Nat.reduceMul, Nat.reduceLeDiff, reduceCtorEq] at q2
      have hff : ∀ i, i < N → tkcp (J 70) (fun v => J 64 (co v)) N i = J 64 (co i) := fun i hi => tkcp_lt hi
      rcases q3 with ⟨q4, rfl, rfl⟩ | ⟨q4, rfl, rfl⟩
      · dsimp only [Option.toList, List.cons_append, List.nil_append]
        first | refine tk_jf_eqB dX11_tell_521 (fun h521 => ?_) (fun h521 => ?_) | refine tk_if_eq dX11_tell_521 (fun h521 => ?_) (fun h521 => ?_)
        · refine tk_aload0 dX11_tell_531 ?_
          refine tk_ldc dX11_tell_532 klX11_200 ?_
          refine tk_callV1z dX11_tell_534 kX11_179 hR.o (r_finding hR _) (Nat.le_of_ble_eq_true rfl) (by omega) ?_
          refine tk_ireturn dX11_tell_537 rfl ?_
          refine ⟨_, _, _, c, rfl, ?_, hff, fun p hp i hi => by rw [hc], Or.inl ⟨R, kd, q1, q2, q4, rfl, ?_⟩⟩
          · exact hL.tr ((rLm.up (a := 77) (by omega)).tr (rLm.up (a := 78) (by omega)))
          · exact rSm_Fnd (rSm_cutB (rSm_up (rSm_up hJ (by omega)) (by omega)) rfl rfl)
        · exact absurd h521 (by decide)
      · dsimp only [Option.toList, List.cons_append, List.nil_append]
        first | refine tk_jf_eqB dX11_tell_521 (fun h521 => ?_) (fun h521 => ?_) | refine tk_if_eq dX11_tell_521 (fun h521 => ?_) (fun h521 => ?_)
        · exact absurd h521 (by decide)
        · refine tk_aload0 dX11_tell_524 ?_
          refine tk_callV0z dX11_tell_525 kX11_286 hR.o (r_lay hR hm (by unfold cutB; simp only [va_up_self, bx_uu, tk_une, tk_usrt, not_false_eq_true, Nat.reduceEqDiff, Nat.reduceLT, Nat.reduceAdd, Nat.reduceMul, Nat.reduceLeDiff, reduceCtorEq]; exact hJ.2.1.trans hk)) (Nat.le_of_ble_eq_true rfl) (by omega) ?_
          refine tk_goto dX11_tell_528 ?_
          refine tk_ireturn dX11_tell_537 rfl ?_
          refine ⟨_, _, _, c, rfl, ?_, hff, fun p hp i hi => by rw [hc], Or.inr ⟨cntR (reps R kd) N, cntR (reps R kd) (kd r0), rCf (J 64) (cntR (reps R kd)) (reps R kd) (tkcp (J 70) (fun v => J 64 (co v)) N) N, rCc (J 65) (cntR (reps R kd)) (reps R kd) (mnK c R kd N) np N, ?_, ?_, R, kd, q1, q2, rfl, q4, rfl, fun w hw hr => rCf_at hw hr, fun p hp w hw hr => rCc_at hp q4 hw hr⟩⟩
          · exact hL.tr ((rLm.up (a := 66) (by omega)).tr ((rLm.up (a := 77) (by omega)).tr (rLm.up (a := 78) (by omega))))
          · unfold cutB; simp only [va_up_self, bx_uu, tk_une, tk_usrt, not_false_eq_true, Nat.reduceEqDiff, Nat.reduceLT, Nat.reduceAdd, Nat.reduceMul, Nat.reduceLeDiff, reduceCtorEq]
          · have e := rSm_Lay (W := nI (cntR (reps R kd) N)) (r := nI (cntR (reps R kd) (kd r0))) (f := rCf (J 64) (cntR (reps R kd)) (reps R kd) (tkcp (J 70) (fun v => J 64 (co v)) N) N) (c := rCc (J 65) (cntR (reps R kd)) (reps R kd) (mnK c R kd N) np N) (rSm_Kp (m := m) (rSm_cutB (I := va_up (va_up J 70 (tkcp (J 70) (fun v => J 64 (co v)) N)) 71 (rTq c N (J 71) np)) (f0 := va_up (va_up (J 40) 27 (nI (cntR (reps R kd) (kd r0)))) 26 (nI (cntR (reps R kd) N))) (f4 := rCf (J 64) (cntR (reps R kd)) (reps R kd) (tkcp (J 70) (fun v => J 64 (co v)) N) N) (f5 := rCc (J 65) (cntR (reps R kd)) (reps R kd) (mnK c R kd N) np N) (g2 := g2) (g3 := g3) (g4 := g4) (g5 := g5) (g6 := g6) (rSm_up (rSm_up hJ (by omega)) (by omega)) (by simp only [va_up_self, bx_uu, tk_une, tk_usrt, not_false_eq_true, Nat.reduceEqDiff, Nat.reduceLT, Nat.reduceAdd, Nat.reduceMul, Nat.reduceLeDiff, reduceCtorEq]) (by simp only [va_up_self, bx_uu, tk_une, tk_usrt, not_false_eq_true, Nat.reduceEqDiff, Nat.reduceLT, Nat.reduceAdd, Nat.reduceMul, Nat.reduceLeDiff, reduceCtorEq])))
            unfold cutB at e ⊢
            simp only [va_up_self, bx_uu, tk_une, tk_usrt, not_false_eq_true, Nat.reduceEqDiff, Nat.reduceLT, Nat.reduceAdd, Nat.reduceMul, Nat.reduceLeDiff, reduceCtorEq] at e ⊢
            exact e
    · exfalso; omega
  · intro i _ hi k
    obtain ⟨c1, c2⟩ := hco i hi
    refine tk_iload8 dX11_tell_483 ?_
    refine tk_aload0 dX11_tell_485 ?_
    refine tk_getI dX11_tell_486 fX11_256 rfl hR.o ?_
    simp only [va_up_self, bx_uu, tk_une, tk_usrt, not_false_eq_true, Nat.reduceEqDiff, Nat.reduceLT, Nat.reduceAdd, Nat.reduceMul, Nat.reduceLeDiff, reduceCtorEq, hN]
    first | refine tk_icmp_geN dX11_tell_489 (by omega) (by omega) (fun h489 => ?_) (fun h489 => ?_) | refine tk_jcmp_ge dX11_tell_489 (fun h489 => ?_) (fun h489 => ?_)
    · exfalso; omega
    · refine tk_aload0 dX11_tell_492 ?_
      refine tk_getP dX11_tell_493 fX11_99 rfl hR.o (hR.p 37 rfl) ?_
      refine tk_iload8 dX11_tell_496 ?_
      refine tk_aload0 dX11_tell_498 ?_
      refine tk_getP dX11_tell_499 fX11_80 rfl hR.o (hR.p 28 rfl) ?_
      refine tk_aload0 dX11_tell_502 ?_
      refine tk_getP dX11_tell_503 fX11_127 rfl hR.o (hR.p 46 rfl) ?_
      refine tk_iload8 dX11_tell_506 ?_
      refine tk_iald dX11_tell_508 (hR.t 79 rfl) (by omega) (by omega) ?_
      simp only [va_up_self, bx_uu, tk_une, tk_usrt, not_false_eq_true, Nat.reduceEqDiff, Nat.reduceLT, Nat.reduceAdd, Nat.reduceMul, Nat.reduceLeDiff, reduceCtorEq, c1]
      refine tk_iald dX11_tell_509 (hR.t 64 rfl) (by omega) (by omega) ?_
      refine tk_iast dX11_tell_510 (hR.t 70 rfl) (by omega) (by omega) ?_
      simp only [va_up_self, bx_uu, tk_une, tk_usrt, not_false_eq_true, Nat.reduceEqDiff, Nat.reduceLT, Nat.reduceAdd, Nat.reduceMul, Nat.reduceLeDiff, reduceCtorEq]
      rw [tkcp_s (J 70) (fun v => J 64 (co v))]
      first | refine tk_iinc8 dX11_tell_511 (kc_inc _) rfl ?_ | refine tk_iinc8 dX11_tell_511 rfl rfl ?_
      refine tk_goto dX11_tell_514 ?_
      exact k _ (by repeat' (first | exact trivial | refine ⟨Or.inl rfl, ?_⟩ | refine ⟨Or.inr rfl, ?_⟩))
end REFCK
