/-! ===== the reference: tell, from its beginning ===== -/
def TWO (W : Nat) (kw xx : Nat → Bool) (co wa : Nat → Nat) : Prop := ∀ w, w < W → co (w + cntR kw w) = w ∧ wa (w + cntR kw w) = 0 ∧ (kw w = true → co (w + cntR kw w + 1) = w ∧ wa (w + cntR kw w + 1) = if xx w then 2 else 1)
def TLP (n : Nat) (T : Nat → Nat × Nat) (P : Nat → Nat → Option Nat) (L : Nat → Nat → Int64) (I : Nat → Nat → Int32) (m np W r : Nat) (vf ce st : Nat → Int32) (kw xx : Nat → Bool) (a b : Nat) : Option tkV → tkH → Prop := fun v h => ∃ co wa, TWO W kw xx co wa ∧ TLR n T P L I m np (W + cntR kw W) (r + cntR kw r + 1) vf ce st co wa a b v h
theorem TWO_of {W : Nat} {kw xx : Nat → Bool} {f g f0 g0 : Nat → Int32} (hW : W ≤ 64) (hf : f = rTc kw f0 W) (hg : g = rTw kw xx g0 W) : TWO W kw xx (fun i => ix (f i)) (fun i => ix (g i)) ∧ ∀ i, i < W + cntR kw W → (f i = nI (ix (f i)) ∧ ix (f i) < 64) ∧ (g i = nI (ix (g i)) ∧ ix (g i) ≤ 2) := by
  have h1 : ∀ w, w < W → f (w + cntR kw w) = nI w ∧ (kw w = true → f (w + cntR kw w + 1) = nI w) := fun w hw => by rw [hf, rTc_2]; exact rT2_at hw
  have h2 : ∀ w, w < W → g (w + cntR kw w) = nI 0 ∧ (kw w = true → g (w + cntR kw w + 1) = nI (if xx w then 2 else 1)) := fun w hw => by
    rw [hg, rTw_2]
    have := rT2_at (kw := kw) (a := fun _ => nI 0) (b := fun w => if xx w then nI 2 else nI 1) (g := g0) hw
    refine ⟨this.1, fun q => (this.2 q).trans ?_⟩
    show (if xx w = true then nI 2 else nI 1) = _
    split <;> rfl
  refine ⟨fun w hw => ⟨?_, ?_, fun q => ⟨?_, ?_⟩⟩, fun i hi => ?_⟩
  · show ix (f _) = w
    rw [(h1 w hw).1, ix_nI (by omega)]
  · show ix (g _) = 0
    rw [(h2 w hw).1, ix_nI (by omega)]
  · show ix (f _) = w
    rw [(h1 w hw).2 q, ix_nI (by omega)]
  · show ix (g _) = _
    rw [(h2 w hw).2 q, ix_nI (by split <;> omega)]
  · obtain ⟨w, hw, e | ⟨q, e⟩⟩ := two_surj hi
    · subst e
      rw [(h1 w hw).1, (h2 w hw).1, ix_nI (k := w) (by omega), ix_nI (k := 0) (by omega)]
      exact ⟨⟨rfl, by omega⟩, rfl, by omega⟩
    · subst e
      rw [(h1 w hw).2 q, (h2 w hw).2 q, ix_nI (k := w) (by omega), ix_nI (k := if xx w then 2 else 1) (by split <;> omega)]
      exact ⟨⟨rfl, by omega⟩, rfl, by split <;> omega⟩
section REFCL
variable {G : tkG} {n : Nat} {T : Nat → Nat × Nat} {I : Nat → Nat → Int32} {L : Nat → Nat → Int64} {P : Nat → Nat → Option Nat}
theorem rSm_tlI {I J : Nat → Nat → Int32} {kw xx : Nat → Bool} {r w : Nat} {g0 g1 : Nat → Int32} (h : rSm I J) : rSm (tlI I kw xx r w g0 g1) J := by
  unfold tlI
  refine rSm_up (rSm_up (rSm_up (rSm_up ?_ (by omega)) (by omega)) (by omega)) (by omega)
  refine ⟨fun b hb => ?_, ?_, ?_⟩
  · rw [va_up_ne _ _ (by omega)]; exact h.1 b hb
  · simp only [va_up_self, bx_uu, tk_une, tk_usrt, not_false_eq_true, Nat.reduceEqDiff, Nat.reduceLT, Nat.reduceAdd, Nat.reduceMul, Nat.reduceLeDiff, reduceCtorEq]; exact h.2.1
  · simp only [va_up_self, bx_uu, tk_une, tk_usrt, not_false_eq_true, Nat.reduceEqDiff, Nat.reduceLT, Nat.reduceAdd, Nat.reduceMul, Nat.reduceLeDiff, reduceCtorEq]; exact h.2.2
theorem r_tell (hR : tkRef T P) {np nf W r cn m : Nat} {cl : Nat → Nat} (hT : TH I np nf W r cn cl) (hm : m ≤ 12) (hk : I 40 20 = nI m) (a b s : Int32) : tkM G mX11_tell 36 0 0 [vR 40, vI a, vI b, vI s] (n, T, I, L, P) (rLq n T P L I (rOpC I L np W r cn cl a b s true) (TLP n T P L I m np W r (rVT I 64) (rVT I 65) (I 44) (fun w => rKw (vwB I L np W) W (ix a) w (soT I L np W cn cl (ix s))) (tb (soT I L np W cn cl (ix s))) (ix a) (ix b))) := by
  have hT' := hT
  obtain ⟨t1, t2, t3, t4, t5, t6, t7, t8, t9, t10, t11, t12, t13, t14, t15⟩ := hT'
  have hV26 : rVT I 40 26 = nI W := by rw [rVT_40]; simp only [va_up_self, bx_uu, tk_une, tk_usrt, not_false_eq_true, Nat.reduceEqDiff, Nat.reduceLT, Nat.reduceAdd, Nat.reduceMul, Nat.reduceLeDiff, reduceCtorEq]; exact t7
  have hV27 : rVT I 40 27 = nI r := by rw [rVT_40]; simp only [va_up_self, bx_uu, tk_une, tk_usrt, not_false_eq_true, Nat.reduceEqDiff, Nat.reduceLT, Nat.reduceAdd, Nat.reduceMul, Nat.reduceLeDiff, reduceCtorEq]; exact t10
  refine tkM.of (ls := [some _, some _, some _, some _, none, none, none, none, none, none, none, none, none, none]) (by decide +kernel) (by decide +kernel) (Nat.le_of_ble_eq_true rfl) rfl ?_
  refine tk_aload0 dX11_tell_0 ?_
  refine tk_iload1 dX11_tell_1 ?_
  refine tk_iload2 dX11_tell_2 ?_
  refine tk_iload3 dX11_tell_3 ?_
  refine tk_iconst dX11_tell_4 kc_iconst_1 ?_
  refine tk_callV4q dX11_tell_5 kX11_308 hR.o (r_refuses hR hT a b s true) (Nat.le_of_ble_eq_true rfl) (by omega) ?_
  intro rr h1 hq
  cases hc : rRf I a b s true with
  | some f =>
    rw [hc] at hq
    obtain ⟨rfl, rfl⟩ := hq
    dsimp only [Option.toList, List.cons_append, List.nil_append]
    refine tk_istore4 dX11_tell_8 rfl ?_
    refine tk_iload4 dX11_tell_10 ?_
    first | refine tk_jf_eqB dX11_tell_12 (fun h12 => ?_) (fun h12 => ?_) | refine tk_if_eq dX11_tell_12 (fun h12 => ?_) (fun h12 => ?_)
    · exact absurd h12 (rRf_nz hc)
    · refine tk_aload0 dX11_tell_15 ?_
      refine tk_iload4 dX11_tell_16 ?_
      refine tk_callV1z dX11_tell_18 kX11_179 hR.o (r_finding hR _) (Nat.le_of_ble_eq_true rfl) (by omega) ?_
      refine tk_ireturn dX11_tell_21 rfl ?_
      exact rLq_f (by unfold rOpC; rw [hc]) rSm.rf rLm.rf
  | none =>
    rw [hc] at hq
    obtain ⟨rfl, rfl⟩ := hq
    dsimp only [Option.toList, List.cons_append, List.nil_append]
    cases hkw : rKw (vwB I L np W) W (ix a) r (soT I L np W cn cl (ix s)) with
    | false =>
      rw [if_neg Bool.false_ne_true]
      refine tk_istore4 dX11_tell_8 rfl ?_
      refine tk_iload4 dX11_tell_10 ?_
      first | refine tk_jf_eqB dX11_tell_12 (fun h12 => ?_) (fun h12 => ?_) | refine tk_if_eq dX11_tell_12 (fun h12 => ?_) (fun h12 => ?_)
      · exact absurd h12 (by decide)
      · refine tk_aload0 dX11_tell_15 ?_
        refine tk_iload4 dX11_tell_16 ?_
        refine tk_callV1z dX11_tell_18 kX11_179 hR.o (r_finding hR _) (Nat.le_of_ble_eq_true rfl) (by omega) ?_
        refine tk_ireturn dX11_tell_21 rfl ?_
        exact rLq_f (by unfold rOpC; rw [hc]; exact if_neg (fun e => Bool.noConfusion (hkw.symm.trans e))) (rSm_VT I) (rLm.up (by omega))
    | true =>
      rw [if_pos rfl]
      have hcode : rOpC I L np W r cn cl a b s true = none := by unfold rOpC; rw [hc]; exact if_pos hkw
      obtain ⟨⟨a', ha1, rfl⟩, ⟨b', hb1, rfl⟩, ⟨s', hs1, rfl⟩, hrt, hab⟩ := rRf_none t1 t3 hc
      have hixs : ix (nI s') = s' := ix_nI (by omega)
      have hixa : ix (nI a') = a' := ix_nI (by omega)
      have hixb : ix (nI b') = b' := ix_nI (by omega)
      rw [hixa, hixs] at hkw
      refine tk_istore4 dX11_tell_8 rfl ?_
      refine tk_iload4 dX11_tell_10 ?_
      first | refine tk_jf_eqB dX11_tell_12 (fun h12 => ?_) (fun h12 => ?_) | refine tk_if_eq dX11_tell_12 (fun h12 => ?_) (fun h12 => ?_)
      · refine tk_aload0 dX11_tell_22 ?_
        refine tk_iload3 dX11_tell_23 ?_
        refine tk_callV1z dX11_tell_24 kX11_299 hR.o (r_soOfT hR hT hs1 hrt) (Nat.le_of_ble_eq_true rfl) (by omega) ?_
        refine tk_lstore5 dX11_tell_27 rfl ?_
        refine tk_aload0 dX11_tell_29 ?_
        refine tk_iconst dX11_tell_30 kc_iconst_0 ?_
        refine tk_putI dX11_tell_31 fX11_256 wX11_tell_X11_35 rfl hR.o ?_
        refine tk_aload0 dX11_tell_34 ?_
        refine tk_getI dX11_tell_35 fX11_215 rfl hR.o ?_
        simp only [va_up_self, bx_uu, tk_une, tk_usrt, not_false_eq_true, Nat.reduceEqDiff, Nat.reduceLT, Nat.reduceAdd, Nat.reduceMul, Nat.reduceLeDiff, reduceCtorEq, hV26]
        refine tk_istore7 dX11_tell_38 rfl ?_
        refine tk_iconst dX11_tell_40 kc_iconst_0 ?_
        refine tk_istore8 dX11_tell_41 rfl ?_
        refine tk_post (fun _ _ q => rLq_g hcode q) ?_
        rw [hixa, hixb, hixs]
        generalize hx : soT I L np W cn cl s' = x at hkw ⊢
        have q := r_tellN (G := G) (n := n) (T := T) (I := va_up (rVT I) 40 (va_up (rVT I 40) 35 (nI 0))) (L := va_up L 66 (vwB I L np W)) (P := P) hR (W := W) (a := a') (x := x) (b := nI b') (s := nI s') (a4 := nI 0) (by simp only [va_up_self, bx_uu, tk_une, tk_usrt, not_false_eq_true, Nat.reduceEqDiff, Nat.reduceLT, Nat.reduceAdd, Nat.reduceMul, Nat.reduceLeDiff, reduceCtorEq]; exact hV26) t9 (by omega) (Q := TLP n T P L I m np W r (rVT I 64) (rVT I 65) (I 44) (fun w => rKw (vwB I L np W) W a' w x) (tb x) a' b')
        simp only [va_up_self] at q
        refine tk_wk (by repeat' (first | exact trivial | refine ⟨Or.inl rfl, ?_⟩ | refine ⟨Or.inr rfl, ?_⟩)) (q (fun l hl => tk_wk hl ?_))
        have hcl9 := cntR_le (fun w => rKw (vwB I L np W) W a' w x) W
        refine tk_iload7 dX11_tell_80 ?_
        refine tk_sipush dX11_tell_82 kc_sipush_128 ?_
        first | refine tk_icmp_leN dX11_tell_85 (by omega) (by omega) (fun h85 => ?_) (fun h85 => ?_) | refine tk_jcmp_le dX11_tell_85 (fun h85 => ?_) (fun h85 => ?_)
        · refine tk_iconst dX11_tell_95 kc_iconst_0 ?_
          refine tk_istore8 dX11_tell_96 rfl ?_
          refine tk_wk (by repeat' (first | exact trivial | refine ⟨Or.inl rfl, ?_⟩ | refine ⟨Or.inr rfl, ?_⟩)) (r_tellC (I := rVT I) (L := va_up L 66 (vwB I L np W)) (kw := fun w => rKw (vwB I L np W) W a' w x) hR hV26 t9 hV27 t11 (by omega) (by rw [va_up_self]) (fun l hl => tk_wk hl ?_))
          generalize hkk : (fun w => rKw (vwB I L np W) W a' w x) = kw
          have hkr : kw r = true := by rw [← hkk]; exact hkw
          have hcN := cntR_le kw W
          have hcr := cntR_idx kw (show r + 1 ≤ W by omega)
          rw [cntR_t hkr] at hcr
          obtain ⟨w1, w2⟩ := TWO_of (kw := kw) (xx := tb x) (f0 := rVT I 79) (g0 := rVT I 80) (f := tlI (rVT I) kw (tb x) r W (rVT I 70) (rVT I 71) 79) (g := tlI (rVT I) kw (tb x) r W (rVT I 70) (rVT I 71) 80) t9 (by unfold tlI; simp only [va_up_self, bx_uu, tk_une, tk_usrt, not_false_eq_true, Nat.reduceEqDiff, Nat.reduceLT, Nat.reduceAdd, Nat.reduceMul, Nat.reduceLeDiff, reduceCtorEq]) (by unfold tlI; simp only [va_up_self, bx_uu, tk_une, tk_usrt, not_false_eq_true, Nat.reduceEqDiff, Nat.reduceLT, Nat.reduceAdd, Nat.reduceMul, Nat.reduceLeDiff, reduceCtorEq])
          have q9 := r_tellEnd (G := G) (n := n) (T := T) (I := I) (P := P) (J := tlI (rVT I) kw (tb x) r W (rVT I 70) (rVT I 71)) (L := va_up L 66 (vwB I L np W)) (L0 := L) (N := W + cntR kw W) (np := np) (a := a') (b := b') (r0 := r + cntR kw r + 1) (m := m) (s := nI s') (a4 := nI 0) (a7 := nI (W + cntR kw W)) (x := x) (co := fun i => ix (tlI (rVT I) kw (tb x) r W (rVT I 70) (rVT I 71) 79 i)) (wa := fun i => ix (tlI (rVT I) kw (tb x) r W (rVT I 70) (rVT I 71) 80 i)) hR rfl hm hk (rSm_tlI (rSm_VT I)) (rLm.up (by omega)) (by unfold tlI; simp only [va_up_self, bx_uu, tk_une, tk_usrt, not_false_eq_true, Nat.reduceEqDiff, Nat.reduceLT, Nat.reduceAdd, Nat.reduceMul, Nat.reduceLeDiff, reduceCtorEq]; rw [rVT_at (by omega)]; exact t1) t3 (by omega) (by omega) (by unfold tlI; simp only [va_up_self, bx_uu, tk_une, tk_usrt, not_false_eq_true, Nat.reduceEqDiff, Nat.reduceLT, Nat.reduceAdd, Nat.reduceMul, Nat.reduceLeDiff, reduceCtorEq]) (by omega) (by unfold tlI; simp only [va_up_self, bx_uu, tk_une, tk_usrt, not_false_eq_true, Nat.reduceEqDiff, Nat.reduceLT, Nat.reduceAdd, Nat.reduceMul, Nat.reduceLeDiff, reduceCtorEq]; exact rTr_at t11 hkr) (by omega) (fun i hi => (w2 i hi).1) (fun i hi => (w2 i hi).2)
          have e4 : tlI (rVT I) kw (tb x) r W (rVT I 70) (rVT I 71) 64 = rVT I 64 := by unfold tlI; simp only [va_up_self, bx_uu, tk_une, tk_usrt, not_false_eq_true, Nat.reduceEqDiff, Nat.reduceLT, Nat.reduceAdd, Nat.reduceMul, Nat.reduceLeDiff, reduceCtorEq]
          have e5 : tlI (rVT I) kw (tb x) r W (rVT I 70) (rVT I 71) 65 = rVT I 65 := by unfold tlI; simp only [va_up_self, bx_uu, tk_une, tk_usrt, not_false_eq_true, Nat.reduceEqDiff, Nat.reduceLT, Nat.reduceAdd, Nat.reduceMul, Nat.reduceLeDiff, reduceCtorEq]
          have e6 : tlI (rVT I) kw (tb x) r W (rVT I 70) (rVT I 71) 44 = I 44 := by unfold tlI; simp only [va_up_self, bx_uu, tk_une, tk_usrt, not_false_eq_true, Nat.reduceEqDiff, Nat.reduceLT, Nat.reduceAdd, Nat.reduceMul, Nat.reduceLeDiff, reduceCtorEq]; rw [rVT_at (by omega)]
          rw [e4, e5, e6] at q9
          exact tk_post (fun v h q => ⟨_, _, w1, q⟩) q9
        · exfalso; omega
      · exact absurd rfl h12
end REFCL
