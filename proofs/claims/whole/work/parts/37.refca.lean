/-! ===== the reference: cut as a whole ===== -/
section REFCA
variable {G : tkG} {n : Nat} {T : Nat → Nat × Nat} {I : Nat → Nat → Int32} {L : Nat → Nat → Int64} {P : Nat → Nat → Option Nat}
/-- how cut leaves its scratch -/
def cutB (I : Nat → Nat → Int32) (f0 f4 f5 g2 g3 g4 g5 g6 : Nat → Int32) : Nat → Nat → Int32 := va_up (va_up (va_up (va_up (va_up (va_up (va_up (va_up I 40 f0) 64 f4) 65 f5) 72 g2) 73 g3) 74 g4) 75 g5) 76 g6
def CQ (n : Nat) (T : Nat → Nat × Nat) (P : Nat → Nat → Option Nat) (I : Nat → Nat → Int32) (L : Nat → Nat → Int64) (N r0 np : Nat) (c : Nat → Nat → Nat) : Option tkV → tkH → Prop := fun r h => ∃ (R : Nat → Bool) (kd : Nat → Nat) (g2 g3 g4 g5 g6 : Nat → Int32) (l7 l8 : Nat → Int64), RCH N r0 np c R ∧ KND N np c (I 70) R kd ∧
  ((64 < cntR (reps R kd) N ∧ r = some (vI (tkb false)) ∧ h = (n, T, cutB I (I 40) (I 64) (I 65) g2 g3 g4 g5 g6, va_up (va_up L 77 l7) 78 l8, P)) ∨
   (cntR (reps R kd) N ≤ 64 ∧ r = some (vI (tkb true)) ∧ h = (n, T, cutB I (va_up (va_up (I 40) 27 (nI (cntR (reps R kd) (kd r0)))) 26 (nI (cntR (reps R kd) N))) (rCf (I 64) (cntR (reps R kd)) (reps R kd) (I 70) N) (rCc (I 65) (cntR (reps R kd)) (reps R kd) (mnK c R kd N) np N) g2 g3 g4 g5 g6, va_up (va_up (va_up L 66 (rTB (L 66) (rCc (I 65) (cntR (reps R kd)) (reps R kd) (mnK c R kd N) np N) (cntR (reps R kd) N) np 0)) 77 l7) 78 l8, P)))
theorem r_cut (hR : tkRef T P) {np N r0 : Nat} {c : Nat → Nat → Nat} (hnp : I 41 0 = nI np) (hnp4 : np ≤ 4) (hN : I 40 35 = nI N) (hN2 : N ≤ 128) (hr : I 40 36 = nI r0) (hr0 : r0 < N) (hc : ∀ p, p < np → ∀ w, w < N → I 71 (128 * p + w) = nI (c p w) ∧ c p w < N) : tkM G mX11_cut 2 0 0 [vR 40] (n, T, I, L, P) (CQ n T P I L N r0 np c) := by
  refine tkM.of (ls := [some _, none, none, none, none, none]) (by decide +kernel) (by decide +kernel) (Nat.le_of_ble_eq_true rfl) rfl ?_
  refine tk_aload0 dX11_cut_0 ?_
  refine tk_callV0q dX11_cut_1 kX11_269 hR.o (r_reach (c := c) hR hnp hnp4 hN hN2 hr hr0 hc) (Nat.le_of_ble_eq_true rfl) (by omega) ?_
  rintro r h1 ⟨R, g6, rfl, rfl, hq⟩
  dsimp only [Option.toList, List.nil_append]
  refine tk_aload0 dX11_cut_4 ?_
  refine tk_callV0q dX11_cut_5 kX11_272 hR.o (r_tellKinds (c := c) (R := R) (f := I 70) hR (by simp only [va_up_self, bx_uu, tk_une, tk_usrt, not_false_eq_true, Nat.reduceEqDiff, Nat.reduceLT, Nat.reduceAdd, Nat.reduceMul, Nat.reduceLeDiff, reduceCtorEq]; exact hnp) hnp4 (by simp only [va_up_self, bx_uu, tk_une, tk_usrt, not_false_eq_true, Nat.reduceEqDiff, Nat.reduceLT, Nat.reduceAdd, Nat.reduceMul, Nat.reduceLeDiff, reduceCtorEq]; exact hN) hN2 (fun p hp w hw => by simp only [va_up_self, bx_uu, tk_une, tk_usrt, not_false_eq_true, Nat.reduceEqDiff, Nat.reduceLT, Nat.reduceAdd, Nat.reduceMul, Nat.reduceLeDiff, reduceCtorEq]; exact hc p hp w hw) (fun w hw => by simp only [va_up_self, bx_uu, tk_une, tk_usrt, not_false_eq_true, Nat.reduceEqDiff, Nat.reduceLT, Nat.reduceAdd, Nat.reduceMul, Nat.reduceLeDiff, reduceCtorEq]; exact tkcp_lt hw) (fun w hw => by simp only [va_up_self, bx_uu, tk_une, tk_usrt, not_false_eq_true, Nat.reduceEqDiff, Nat.reduceLT, Nat.reduceAdd, Nat.reduceMul, Nat.reduceLeDiff, reduceCtorEq])) (Nat.le_of_ble_eq_true rfl) (by omega) ?_
  rintro r h1 ⟨kd, g3, l7, l8, rfl, rfl, hkd⟩
  dsimp only [Option.toList, List.nil_append]
  have hcl := cntR_le (reps R kd) N
  have hkN : ∀ u, u < N → R u = true → kd u < N := fun u hu r => by have := (hkd.1.1 u hu r).2.1; omega
  simp only [va_up_self, bx_uu, tk_une, tk_usrt, not_false_eq_true, Nat.reduceEqDiff, Nat.reduceLT, Nat.reduceAdd, Nat.reduceMul, Nat.reduceLeDiff, reduceCtorEq]
  refine tk_iconst dX11_cut_8 kc_iconst_0 ?_
  refine tk_istore1 dX11_cut_9 rfl ?_
  refine tk_iconst dX11_cut_10 kc_iconst_0 ?_
  refine tk_istore2 dX11_cut_11 rfl ?_
  refine tk_fr 0 N (fun i => [some (vR 40), some (vI (nI (cntR (reps R kd) i))), some (vI (nI i)), none, none, none]) (fun i => (n, T, va_up (va_up (va_up (va_up (va_up I 72 (tkcp (I 72) (Kf R kd) N)) 73 g3) 74 (tkcp (I 74) (fun w => nI (cntR (reps R kd) w)) i)) 75 (tkcp (I 75) (fun w => tkb (R w)) N)) 76 g6, va_up (va_up L 77 l7) 78 l8, P)) (by omega) (by repeat' (first | exact trivial | refine ⟨Or.inl rfl, ?_⟩ | refine ⟨Or.inr rfl, ?_⟩)) (by rw [tkcp_0, tk_uid (k := 74)]; simp only [va_up_self, bx_uu, tk_une, tk_usrt, not_false_eq_true, Nat.reduceEqDiff, Nat.reduceLT, Nat.reduceAdd, Nat.reduceMul, Nat.reduceLeDiff, reduceCtorEq]) ?_ ?_
  · refine tk_iload2 dX11_cut_12 ?_
    refine tk_aload0 dX11_cut_13 ?_
    refine tk_getI dX11_cut_14 fX11_256 rfl hR.o ?_
    simp only [va_up_self, bx_uu, tk_une, tk_usrt, not_false_eq_true, Nat.reduceEqDiff, Nat.reduceLT, Nat.reduceAdd, Nat.reduceMul, Nat.reduceLeDiff, reduceCtorEq, hN]
    first | refine tk_icmp_geN dX11_cut_17 (by omega) (by omega) (fun h17 => ?_) (fun h17 => ?_) | refine tk_jcmp_ge dX11_cut_17 (fun h17 => ?_) (fun h17 => ?_)
    · refine tk_iload1 dX11_cut_51 ?_
      refine tk_bipush dX11_cut_52 kc_bipush_64 ?_
      first | refine tk_icmp_leN dX11_cut_54 (by omega) (by omega) (fun h54 => ?_) (fun h54 => ?_) | refine tk_jcmp_le dX11_cut_54 (fun h54 => ?_) (fun h54 => ?_)
      · refine tk_iconst dX11_cut_59 kc_iconst_0 ?_
        refine tk_istore2 dX11_cut_60 rfl ?_
        refine tk_wk ?_ (r_cutAll (I := va_up (va_up (va_up (va_up (va_up I 72 (tkcp (I 72) (Kf R kd) N)) 73 g3) 74 (tkcp (I 74) (fun w => nI (cntR (reps R kd) w)) N)) 75 (tkcp (I 75) (fun w => tkb (R w)) N)) 76 g6) (c := c) (R := R) (kd := kd) (u := cntR (reps R kd)) (m := nI (cntR (reps R kd) N)) hR (by simp only [va_up_self, bx_uu, tk_une, tk_usrt, not_false_eq_true, Nat.reduceEqDiff, Nat.reduceLT, Nat.reduceAdd, Nat.reduceMul, Nat.reduceLeDiff, reduceCtorEq]; exact hnp) hnp4 (by simp only [va_up_self, bx_uu, tk_une, tk_usrt, not_false_eq_true, Nat.reduceEqDiff, Nat.reduceLT, Nat.reduceAdd, Nat.reduceMul, Nat.reduceLeDiff, reduceCtorEq]; exact hN) hN2 (fun p hp w hw => by simp only [va_up_self, bx_uu, tk_une, tk_usrt, not_false_eq_true, Nat.reduceEqDiff, Nat.reduceLT, Nat.reduceAdd, Nat.reduceMul, Nat.reduceLeDiff, reduceCtorEq]; exact hc p hp w hw) (fun w hw => by simp only [va_up_self, bx_uu, tk_une, tk_usrt, not_false_eq_true, Nat.reduceEqDiff, Nat.reduceLT, Nat.reduceAdd, Nat.reduceMul, Nat.reduceLeDiff, reduceCtorEq]; exact tkcp_lt hw) (fun w hw => by simp only [va_up_self, bx_uu, tk_une, tk_usrt, not_false_eq_true, Nat.reduceEqDiff, Nat.reduceLT, Nat.reduceAdd, Nat.reduceMul, Nat.reduceLeDiff, reduceCtorEq]; exact ⟨tkcp_lt hw, hkN w hw⟩) (fun w hw => by simp only [va_up_self, bx_uu, tk_une, tk_usrt, not_false_eq_true, Nat.reduceEqDiff, Nat.reduceLT, Nat.reduceAdd, Nat.reduceMul, Nat.reduceLeDiff, reduceCtorEq]; exact tkcp_lt hw) (fun w hw r => by have := cntR_lt_of hw r; omega) ?_)
        · exact (by repeat' (first | exact trivial | refine ⟨Or.inl rfl, ?_⟩ | refine ⟨Or.inr rfl, ?_⟩))
        · intro l hl
          refine tk_wk hl ?_
          simp only [va_up_self, bx_uu, tk_une, tk_usrt, not_false_eq_true, Nat.reduceEqDiff, Nat.reduceLT, Nat.reduceAdd, Nat.reduceMul, Nat.reduceLeDiff, reduceCtorEq]
          refine tk_aload0 dX11_cut_232 ?_
          refine tk_aload0 dX11_cut_233 ?_
          refine tk_getP dX11_cut_234 fX11_111 rfl hR.o (hR.p 41 rfl) ?_
          refine tk_aload0 dX11_cut_237 ?_
          refine tk_getP dX11_cut_238 fX11_105 rfl hR.o (hR.p 39 rfl) ?_
          refine tk_aload0 dX11_cut_241 ?_
          refine tk_getI dX11_cut_242 fX11_259 rfl hR.o ?_
          simp only [va_up_self, bx_uu, tk_une, tk_usrt, not_false_eq_true, Nat.reduceEqDiff, Nat.reduceLT, Nat.reduceAdd, Nat.reduceMul, Nat.reduceLeDiff, reduceCtorEq, hr]
          refine tk_iald dX11_cut_245 (hR.t 72 rfl) (by omega) (by omega) ?_
          simp only [va_up_self, bx_uu, tk_une, tk_usrt, not_false_eq_true, Nat.reduceEqDiff, Nat.reduceLT, Nat.reduceAdd, Nat.reduceMul, Nat.reduceLeDiff, reduceCtorEq]
          rw [tkcp_lt hr0, show Kf R kd r0 = nI (kd r0) from if_pos hq.1]
          have hk0 := hkN r0 hr0 hq.1
          refine tk_iald dX11_cut_246 (hR.t 74 rfl) (by omega) (by omega) ?_
          simp only [va_up_self, bx_uu, tk_une, tk_usrt, not_false_eq_true, Nat.reduceEqDiff, Nat.reduceLT, Nat.reduceAdd, Nat.reduceMul, Nat.reduceLeDiff, reduceCtorEq]
          rw [tkcp_lt hk0]
          refine tk_putI dX11_cut_247 fX11_220 wX11_cut_X11_27 rfl hR.o ?_
          refine tk_aload0 dX11_cut_250 ?_
          refine tk_iload1 dX11_cut_251 ?_
          refine tk_putI dX11_cut_252 fX11_215 wX11_cut_X11_26 rfl hR.o ?_
          refine tk_aload0 dX11_cut_255 ?_
          refine tk_callV0y dX11_cut_256 kX11_226 hR.o (r_tellBits hR (np := np) (W := cntR (reps R kd) N) (by simp only [va_up_self, bx_uu, tk_une, tk_usrt, not_false_eq_true, Nat.reduceEqDiff, Nat.reduceLT, Nat.reduceAdd, Nat.reduceMul, Nat.reduceLeDiff, reduceCtorEq]; exact hnp) hnp4 (by simp only [va_up_self, bx_uu, tk_une, tk_usrt, not_false_eq_true, Nat.reduceEqDiff, Nat.reduceLT, Nat.reduceAdd, Nat.reduceMul, Nat.reduceLeDiff, reduceCtorEq]) (by omega)) (Nat.le_of_ble_eq_true rfl) (by omega) ?_
          refine tk_iconst dX11_cut_259 kc_iconst_1 ?_
          first | refine tk_zreturn dX11_cut_260 rfl ?_ | refine tk_zret0 dX11_cut_260 rfl ?_ | refine tk_zret1 dX11_cut_260 rfl ?_
          refine ⟨R, kd, tkcp (I 72) (Kf R kd) N, g3, tkcp (I 74) (fun w => nI (cntR (reps R kd) w)) N, tkcp (I 75) (fun w => tkb (R w)) N, g6, l7, l8, hq, hkd, Or.inr ⟨h54, rfl, ?_⟩⟩
          unfold cutB
          simp only [va_up_self, bx_uu, tk_une, tk_usrt, not_false_eq_true, Nat.reduceEqDiff, Nat.reduceLT, Nat.reduceAdd, Nat.reduceMul, Nat.reduceLeDiff, reduceCtorEq]
      · refine tk_iconst dX11_cut_57 kc_iconst_0 ?_
        first | refine tk_zreturn dX11_cut_58 rfl ?_ | refine tk_zret0 dX11_cut_58 rfl ?_ | refine tk_zret1 dX11_cut_58 rfl ?_
        refine ⟨R, kd, tkcp (I 72) (Kf R kd) N, g3, tkcp (I 74) (fun w => nI (cntR (reps R kd) w)) N, tkcp (I 75) (fun w => tkb (R w)) N, g6, l7, l8, hq, hkd, Or.inl ⟨h54, rfl, ?_⟩⟩
        unfold cutB
        rw [tk_up_id, tk_up_id, tk_up_id]
    · exfalso; omega
  · intro i _ hi k
    have hkr := Kf_rep (R := R) (kd := kd) (w := i) (by omega) (fun r => by have := hkN i hi r; omega)
    refine tk_iload2 dX11_cut_12 ?_
    refine tk_aload0 dX11_cut_13 ?_
    refine tk_getI dX11_cut_14 fX11_256 rfl hR.o ?_
    simp only [va_up_self, bx_uu, tk_une, tk_usrt, not_false_eq_true, Nat.reduceEqDiff, Nat.reduceLT, Nat.reduceAdd, Nat.reduceMul, Nat.reduceLeDiff, reduceCtorEq, hN]
    first | refine tk_icmp_geN dX11_cut_17 (by omega) (by omega) (fun h17 => ?_) (fun h17 => ?_) | refine tk_jcmp_ge dX11_cut_17 (fun h17 => ?_) (fun h17 => ?_)
    · exfalso; omega
    · refine tk_aload0 dX11_cut_20 ?_
      refine tk_getP dX11_cut_21 fX11_111 rfl hR.o (hR.p 41 rfl) ?_
      refine tk_iload2 dX11_cut_24 ?_
      refine tk_iload1 dX11_cut_25 ?_
      refine tk_iast dX11_cut_26 (hR.t 74 rfl) (by omega) (by omega) ?_
      refine tk_iload1 dX11_cut_27 ?_
      refine tk_aload0 dX11_cut_28 ?_
      refine tk_getP dX11_cut_29 fX11_105 rfl hR.o (hR.p 39 rfl) ?_
      refine tk_iload2 dX11_cut_32 ?_
      refine tk_iald dX11_cut_33 (hR.t 72 rfl) (by omega) (by omega) ?_
      simp only [va_up_self, bx_uu, tk_une, tk_usrt, not_false_eq_true, Nat.reduceEqDiff, Nat.reduceLT, Nat.reduceAdd, Nat.reduceMul, Nat.reduceLeDiff, reduceCtorEq]
      rw [tkcp_lt hi]
      refine tk_iload2 dX11_cut_34 ?_
      first | refine tk_icmp_neN dX11_cut_35 (by omega) (by omega) (fun h35 => ?_) (fun h35 => ?_) | refine tk_icmp_ne dX11_cut_35 (fun h35 => ?_) (fun h35 => ?_)
      · refine tk_iconst dX11_cut_42 kc_iconst_0 ?_
        have hrp : (if reps R kd i then 1 else 0) = 0 := if_neg (fun e => h35 (hkr.mpr e))
        first | refine tk_iaddN dX11_cut_43 ?_ | refine tk_iadd dX11_cut_43 ?_
        refine tk_istore1 dX11_cut_44 rfl ?_
        first | refine tk_iinc2 dX11_cut_45 (kc_inc _) rfl ?_ | refine tk_iinc2 dX11_cut_45 rfl rfl ?_
        refine tk_goto dX11_cut_48 ?_
        try simp only [va_up_self, bx_uu, tk_une, tk_usrt, not_false_eq_true, Nat.reduceEqDiff, Nat.reduceLT, Nat.reduceAdd, Nat.reduceMul, Nat.reduceLeDiff, reduceCtorEq]
        rw [tkcp_s (I 74) (fun w => nI (cntR (reps R kd) w))]
        have q := k
        rw [cntR, hrp] at q
        exact q _ (by repeat' (first | exact trivial | refine ⟨Or.inl rfl, ?_⟩ | refine ⟨Or.inr rfl, ?_⟩))
      · refine tk_iconst dX11_cut_38 kc_iconst_1 ?_
        have hrp : (if reps R kd i then 1 else 0) = 1 := if_pos (hkr.mp h35)
        refine tk_goto dX11_cut_39 ?_
        first | refine tk_iaddN dX11_cut_43 ?_ | refine tk_iadd dX11_cut_43 ?_
        refine tk_istore1 dX11_cut_44 rfl ?_
        first | refine tk_iinc2 dX11_cut_45 (kc_inc _) rfl ?_ | refine tk_iinc2 dX11_cut_45 rfl rfl ?_
        refine tk_goto dX11_cut_48 ?_
        try simp only [va_up_self, bx_uu, tk_une, tk_usrt, not_false_eq_true, Nat.reduceEqDiff, Nat.reduceLT, Nat.reduceAdd, Nat.reduceMul, Nat.reduceLeDiff, reduceCtorEq]
        rw [tkcp_s (I 74) (fun w => nI (cntR (reps R kd) w))]
        have q := k
        rw [cntR, hrp] at q
        exact q _ (by repeat' (first | exact trivial | refine ⟨Or.inl rfl, ?_⟩ | refine ⟨Or.inr rfl, ?_⟩))
end REFCA
