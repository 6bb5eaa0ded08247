/-! ===== the reference: openly, cry ===== -/
section REFCF
variable {G : tkG} {n : Nat} {T : Nat → Nat × Nat} {I : Nat → Nat → Int32} {L : Nat → Nat → Int64} {P : Nat → Nat → Option Nat}
/-- behind make, of the town's view -/
def mkT (I : Nat → Nat → Int32) (L : Nat → Nat → Int64) (np W r : Nat) (M : Int64) (a : Int32) (S : Int64) : Nat → Nat → Int32 := mkI (rVT I) M r W (rMp M (mFs (vwB I L np W) M a S) W (rVT I 71) np)
theorem r_makeT (hR : tkRef T P) {np nf W r cn : Nat} {cl : Nat → Nat} (hT : TH I np nf W r cn cl) (M S : Int64) (a : Int32) : tkM G mX11_make 1 0 0 [vR 40, vL M, vI a, vL S] (n, T, rVT I, va_up L 66 (vwB I L np W), P) (tkF none (n, T, mkT I L np W r M a S, va_up L 66 (vwB I L np W), P)) := by
  obtain ⟨t1, t2, t3, t4, t5, t6, t7, t8, t9, t10, t11, t12, t13, t14, t15⟩ := hT
  have q := r_make (G := G) (n := n) (I := rVT I) (L := va_up L 66 (vwB I L np W)) hR (np := np) (W := W) (r := r) (by rw [rVT_at (by omega)]; exact t1) t3 (by rw [rVT_40]; simp only [va_up_self, bx_uu, tk_une, tk_usrt, not_false_eq_true, Nat.reduceEqDiff, Nat.reduceLT, Nat.reduceAdd, Nat.reduceMul, Nat.reduceLeDiff, reduceCtorEq]; exact t7) t9 (by rw [rVT_40]; simp only [va_up_self, bx_uu, tk_une, tk_usrt, not_false_eq_true, Nat.reduceEqDiff, Nat.reduceLT, Nat.reduceAdd, Nat.reduceMul, Nat.reduceLeDiff, reduceCtorEq]; exact t10) t11 (fun p hp w hw => by rw [va_up_self, vwB_eq t3 t9 p hp w hw]; exact pB_w hw t9) M S a
  rw [va_up_self] at q
  exact q
def CTQ (n : Nat) (T : Nat → Nat × Nat) (P : Nat → Nat → Option Nat) (I : Nat → Nat → Int32) (L : Nat → Nat → Int64) (m np W r : Nat) (M : Int64) (a : Int32) (S : Int64) : Option tkV → tkH → Prop := fun v h => ∃ (J : Nat → Nat → Int32) (L' : Nat → Nat → Int64) (W' r' : Nat) (ff : Nat → Int32) (cc : Nat → Nat → Nat), v = some (vI (tkb true)) ∧ h = (n, T, J, L', P) ∧ J 40 20 = nI m ∧ rSm J I ∧ rLm L L' ∧ J 40 26 = nI W' ∧ J 40 27 = nI r' ∧ MADE np W (I 42) (pB (I 43) W) M a S cc ff ∧ LAID (cnt M W) (cnt M r) np cc ff W' r' (J 64) (J 65)
theorem r_cutT (hR : tkRef T P) {np nf W r cn : Nat} {cl : Nat → Nat} (hT : TH I np nf W r cn cl) {M S : Int64} {a : Int32} (hMr : tb M r = true) : tkM G mX11_cut 2 0 0 [vR 40] (n, T, mkT I L np W r M a S, va_up L 66 (vwB I L np W), P) (CQ n T P (mkT I L np W r M a S) (va_up L 66 (vwB I L np W)) (cnt M W) (cnt M r) np (fun p i => ix (mkT I L np W r M a S 71 (128 * p + i)))) := by
  obtain ⟨t1, t2, t3, t4, t5, t6, t7, t8, t9, t10, t11, t12, t13, t14, t15⟩ := hT
  have hcw := cnt_le M W
  have hB : ∀ p, p < np → ∀ w, w < W → tb (vwB I L np W (64 * p + w)) w = true := fun p hp w hw => by rw [vwB_eq t3 t9 p hp w hw]; exact pB_w hw t9
  have hmc := mk_cut (I1 := rVT I) (M := M) (a := a) (S := S) (r := r) t9 hB
  exact r_cut (G := G) (n := n) (I := mkT I L np W r M a S) (L := va_up L 66 (vwB I L np W)) (np := np) (N := cnt M W) (r0 := cnt M r) (c := fun p i => ix (mkT I L np W r M a S 71 (128 * p + i))) hR (by unfold mkT mkI; simp only [va_up_self, bx_uu, tk_une, tk_usrt, not_false_eq_true, Nat.reduceEqDiff, Nat.reduceLT, Nat.reduceAdd, Nat.reduceMul, Nat.reduceLeDiff, reduceCtorEq]; rw [rVT_at (by omega)]; exact t1) t3 (by unfold mkT mkI; simp only [va_up_self, bx_uu, tk_une, tk_usrt, not_false_eq_true, Nat.reduceEqDiff, Nat.reduceLT, Nat.reduceAdd, Nat.reduceMul, Nat.reduceLeDiff, reduceCtorEq]) (by omega) (by unfold mkT mkI; simp only [va_up_self, bx_uu, tk_une, tk_usrt, not_false_eq_true, Nat.reduceEqDiff, Nat.reduceLT, Nat.reduceAdd, Nat.reduceMul, Nat.reduceLeDiff, reduceCtorEq]; exact rMr_at t11 hMr) (cnt_lt_of t11 hMr) hmc.1
theorem CTQ_of {np nf W r cn m : Nat} {cl : Nat → Nat} (hT : TH I np nf W r cn cl) (hk : I 40 20 = nI m) {M S : Int64} {a : Int32} {v : Option tkV} {h : tkH} (q : CQ n T P (mkT I L np W r M a S) (va_up L 66 (vwB I L np W)) (cnt M W) (cnt M r) np (fun p i => ix (mkT I L np W r M a S 71 (128 * p + i))) v h) : CTQ n T P I L m np W r M a S v h := by
  obtain ⟨t1, t2, t3, t4, t5, t6, t7, t8, t9, t10, t11, t12, t13, t14, t15⟩ := hT
  have hcw := cnt_le M W
  have hB : ∀ p, p < np → ∀ w, w < W → tb (vwB I L np W (64 * p + w)) w = true := fun p hp w hw => by rw [vwB_eq t3 t9 p hp w hw]; exact pB_w hw t9
  have hv4 : ∀ w, w < W → rVT I 64 w = I 42 w := fun w hw => by rw [show rVT I 64 = tkcp (I 64) (I 42) 64 by simp only [rVT, rVw, va_up_self, bx_uu, tk_une, tk_usrt, not_false_eq_true, Nat.reduceEqDiff, Nat.reduceLT, Nat.reduceAdd, Nat.reduceMul, Nat.reduceLeDiff, reduceCtorEq]]; exact tkcp_lt (by omega)
  have hmc := mk_cut (I1 := rVT I) (M := M) (a := a) (S := S) (r := r) t9 hB
  have hM20 : mkT I L np W r M a S 40 20 = nI m := by unfold mkT mkI; simp only [va_up_self, bx_uu, tk_une, tk_usrt, not_false_eq_true, Nat.reduceEqDiff, Nat.reduceLT, Nat.reduceAdd, Nat.reduceMul, Nat.reduceLeDiff, reduceCtorEq]; rw [rVT_40]; simp only [va_up_self, bx_uu, tk_une, tk_usrt, not_false_eq_true, Nat.reduceEqDiff, Nat.reduceLT, Nat.reduceAdd, Nat.reduceMul, Nat.reduceLeDiff, reduceCtorEq]; exact hk
  obtain ⟨R, kd, g2, g3, g4, g5, g6, l7, l8, q1, q2, q3⟩ := q
  have hcl := cntR_le (reps R kd) (cnt M W)
  rcases q3 with ⟨q4, -, -⟩ | ⟨q4, rfl, rfl⟩
  · exfalso; omega
  refine ⟨_, _, cntR (reps R kd) (cnt M W), cntR (reps R kd) (kd (cnt M r)), _, _, rfl, rfl, by unfold cutB; simp only [va_up_self, bx_uu, tk_une, tk_usrt, not_false_eq_true, Nat.reduceEqDiff, Nat.reduceLT, Nat.reduceAdd, Nat.reduceMul, Nat.reduceLeDiff, reduceCtorEq]; exact hM20, rSm_cutB (rSm_mkI (rSm_VT I)) (by simp only [va_up_self, bx_uu, tk_une, tk_usrt, not_false_eq_true, Nat.reduceEqDiff, Nat.reduceLT, Nat.reduceAdd, Nat.reduceMul, Nat.reduceLeDiff, reduceCtorEq]) (by simp only [va_up_self, bx_uu, tk_une, tk_usrt, not_false_eq_true, Nat.reduceEqDiff, Nat.reduceLT, Nat.reduceAdd, Nat.reduceMul, Nat.reduceLeDiff, reduceCtorEq]), fun b hb => by rw [va_up_ne _ _ (by omega), va_up_ne _ _ (by omega), va_up_ne _ _ (by omega), va_up_ne _ _ (by omega)], by unfold cutB; simp only [va_up_self, bx_uu, tk_une, tk_usrt, not_false_eq_true, Nat.reduceEqDiff, Nat.reduceLT, Nat.reduceAdd, Nat.reduceMul, Nat.reduceLeDiff, reduceCtorEq], by unfold cutB; simp only [va_up_self, bx_uu, tk_une, tk_usrt, not_false_eq_true, Nat.reduceEqDiff, Nat.reduceLT, Nat.reduceAdd, Nat.reduceMul, Nat.reduceLeDiff, reduceCtorEq], MADE_congr hv4 (fun p hp w hw => vwB_eq t3 t9 p hp w hw) hmc.2, R, kd, q1, q2, rfl, q4, rfl, fun w hw hr => ?_, fun p hp w hw hr => ?_⟩
  · unfold cutB; simp only [va_up_self, bx_uu, tk_une, tk_usrt, not_false_eq_true, Nat.reduceEqDiff, Nat.reduceLT, Nat.reduceAdd, Nat.reduceMul, Nat.reduceLeDiff, reduceCtorEq]; exact rCf_at hw hr
  · unfold cutB; simp only [va_up_self, bx_uu, tk_une, tk_usrt, not_false_eq_true, Nat.reduceEqDiff, Nat.reduceLT, Nat.reduceAdd, Nat.reduceMul, Nat.reduceLeDiff, reduceCtorEq]; exact rCc_at hp q4 hw hr
/-- the worlds in which a knows whether x -/
def rKa (B : Nat → Int64) (W a : Nat) (x : Int64) : Int64 := mk (fun w => rKw B W a w x) W
theorem r_tellOpenlyT (hR : tkRef T P) {np nf W r cn p : Nat} {cl : Nat → Nat} (hT : TH I np nf W r cn cl) (hp : p < 4) (b : Int32) (x : Int64) : tkM G mX11_tellOpenly 2 0 0 [vR 40, vI (nI p), vI b, vL x] (n, T, rVT I, va_up L 66 (vwB I L np W), P) (tkF none (n, T, mkT I L np W r (rKa (vwB I L np W) W p x) b x, va_up L 66 (vwB I L np W), P)) := by
  have hT' := hT
  obtain ⟨t1, t2, t3, t4, t5, t6, t7, t8, t9, t10, t11, t12, t13, t14, t15⟩ := hT'
  have hV26 : rVT I 40 26 = nI W := by rw [rVT_40]; simp only [va_up_self, bx_uu, tk_une, tk_usrt, not_false_eq_true, Nat.reduceEqDiff, Nat.reduceLT, Nat.reduceAdd, Nat.reduceMul, Nat.reduceLeDiff, reduceCtorEq]; exact t7
  refine tkM.of (ls := [some _, some _, some _, some _, none, none, none, none]) (by decide +kernel) (by decide +kernel) (Nat.le_of_ble_eq_true rfl) rfl ?_
  refine tk_lconst dX11_tellOpenly_0 (v := 0) (by decide) ?_
  refine tk_lstore5 dX11_tellOpenly_1 rfl ?_
  refine tk_iconst dX11_tellOpenly_3 kc_iconst_0 ?_
  refine tk_istore7 dX11_tellOpenly_4 rfl ?_
  refine tk_fr 0 W (fun w => [some (vR 40), some (vI (nI p)), some (vI b), some (vL x), none, some (vL (mk (fun w => rKw (vwB I L np W) W p w x) w)), none, some (vI (nI w))]) (fun w => (n, T, rVT I, va_up L 66 (vwB I L np W), P)) (by omega) (by repeat' (first | exact trivial | refine ⟨Or.inl rfl, ?_⟩ | refine ⟨Or.inr rfl, ?_⟩)) rfl ?_ ?_
  · refine tk_iload7 dX11_tellOpenly_6 ?_
    refine tk_aload0 dX11_tellOpenly_8 ?_
    refine tk_getI dX11_tellOpenly_9 fX11_215 rfl hR.o ?_
    rw [hV26]
    first | refine tk_icmp_geN dX11_tellOpenly_12 (by omega) (by omega) (fun h12 => ?_) (fun h12 => ?_) | refine tk_jcmp_ge dX11_tellOpenly_12 (fun h12 => ?_) (fun h12 => ?_)
    · refine tk_aload0 dX11_tellOpenly_45 ?_
      refine tk_lload5 dX11_tellOpenly_46 ?_
      refine tk_iload2 dX11_tellOpenly_48 ?_
      refine tk_lload3 dX11_tellOpenly_49 ?_
      refine tk_callV3y dX11_tellOpenly_50 kX11_278 hR.o (r_makeT hR hT (rKa (vwB I L np W) W p x) x b) (Nat.le_of_ble_eq_true rfl) (by omega) ?_
      refine tk_return dX11_tellOpenly_53 rfl ?_
      exact ⟨rfl, rfl⟩
    · exfalso; omega
  · intro w _ hw kk
    refine tk_iload7 dX11_tellOpenly_6 ?_
    refine tk_aload0 dX11_tellOpenly_8 ?_
    refine tk_getI dX11_tellOpenly_9 fX11_215 rfl hR.o ?_
    rw [hV26]
    first | refine tk_icmp_geN dX11_tellOpenly_12 (by omega) (by omega) (fun h12 => ?_) (fun h12 => ?_) | refine tk_jcmp_ge dX11_tellOpenly_12 (fun h12 => ?_) (fun h12 => ?_)
    · exfalso; omega
    · refine tk_lload5 dX11_tellOpenly_15 ?_
      refine tk_aload0 dX11_tellOpenly_17 ?_
      refine tk_iload1 dX11_tellOpenly_18 ?_
      refine tk_iload7 dX11_tellOpenly_19 ?_
      refine tk_lload3 dX11_tellOpenly_21 ?_
      refine tk_callV3z dX11_tellOpenly_22 kX11_303 hR.o (r_knowsWhether hR hV26 t9 hp (by omega) x) (Nat.le_of_ble_eq_true rfl) (by omega) ?_
      try simp only [va_up_self]
      first | refine tk_jf_eqB dX11_tellOpenly_25 (fun h25 => ?_) (fun h25 => ?_) | refine tk_if_eq dX11_tellOpenly_25 (fun h25 => ?_) (fun h25 => ?_)
      · refine tk_lconst dX11_tellOpenly_35 (v := 0) (by decide) ?_
        refine tk_lor dX11_tellOpenly_36 ?_
        refine tk_lstore5 dX11_tellOpenly_37 rfl ?_
        first | refine tk_iinc7 dX11_tellOpenly_39 (kc_inc _) rfl ?_ | refine tk_iinc7 dX11_tellOpenly_39 rfl rfl ?_
        refine tk_goto dX11_tellOpenly_42 ?_
        refine kk _ ?_
        first | rw [mk_t (f := fun w => rKw (vwB I L np W) W p w x) h25] | rw [mk_f (f := fun w => rKw (vwB I L np W) W p w x) h25, or0]
        exact (by repeat' (first | exact trivial | refine ⟨Or.inl rfl, ?_⟩ | refine ⟨Or.inr rfl, ?_⟩))
      · refine tk_lconst dX11_tellOpenly_28 (v := 1) (by decide) ?_
        refine tk_iload7 dX11_tellOpenly_29 ?_
        refine tk_lshl dX11_tellOpenly_31 ?_
        refine tk_goto dX11_tellOpenly_32 ?_
        refine tk_lor dX11_tellOpenly_36 ?_
        refine tk_lstore5 dX11_tellOpenly_37 rfl ?_
        first | refine tk_iinc7 dX11_tellOpenly_39 (kc_inc _) rfl ?_ | refine tk_iinc7 dX11_tellOpenly_39 rfl rfl ?_
        refine tk_goto dX11_tellOpenly_42 ?_
        refine kk _ ?_
        first | rw [mk_t (f := fun w => rKw (vwB I L np W) W p w x) h25] | rw [mk_f (f := fun w => rKw (vwB I L np W) W p w x) h25, or0]
        exact (by repeat' (first | exact trivial | refine ⟨Or.inl rfl, ?_⟩ | refine ⟨Or.inr rfl, ?_⟩))
end REFCF
