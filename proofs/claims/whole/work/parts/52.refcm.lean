/-! ===== the reference: pieces of lessons ===== -/
def lkI (I : Nat → Nat → Int32) (dp : Nat) : Nat → Nat → Int32 := va_up (va_up (va_up (va_up I 81 (va_up (I 81) dp (I 40 26))) 82 (va_up (I 82) dp (I 40 27))) 83 (tkco (I 83) (I 64) (64 * dp) 64)) 84 (tkco (I 84) (I 65) (256 * dp) 256)
def lbI (I : Nat → Nat → Int32) (dp : Nat) : Nat → Nat → Int32 := va_up (va_up (va_up I 40 (va_up (va_up (I 40) 26 (I 81 dp)) 27 (I 82 dp))) 64 (tkcp (I 64) (fun k => I 83 (64 * dp + k)) 64)) 65 (tkcp (I 65) (fun k => I 84 (256 * dp + k)) 256)
def rLM (f c : Nat → Int32) (np w p : Nat) : Nat → Int32 := fun j => if j / 64 < np ∧ (j % 64 < w ∨ (j % 64 = w ∧ j / 64 < p)) then c (128 * (j / 64) + j % 64) else f j
theorem rLM_0 (f c : Nat → Int32) (np : Nat) : rLM f c np 0 0 = f := by
  funext j
  unfold rLM
  rw [if_neg (by omega)]
theorem rLM_s (f c : Nat → Int32) {np w p : Nat} (hw : w < 64) (hp : p < np) : va_up (rLM f c np w p) (64 * p + w) (c (128 * p + w)) = rLM f c np w (p + 1) := by
  funext j
  unfold va_up rLM
  by_cases h : j = 64 * p + w
  · subst h
    rw [if_pos rfl, show (64 * p + w) / 64 = p by omega, show (64 * p + w) % 64 = w by omega, if_pos (by omega)]
  · rw [if_neg h]
    by_cases h2 : j / 64 < np ∧ (j % 64 < w ∨ (j % 64 = w ∧ j / 64 < p))
    · rw [if_pos h2, if_pos (by omega)]
    · rw [if_neg h2, if_neg (by omega)]
theorem rLM_n (f c : Nat → Int32) (np w : Nat) : rLM f c np w np = rLM f c np (w + 1) 0 := by
  funext j
  unfold rLM
  by_cases h2 : j / 64 < np ∧ (j % 64 < w ∨ (j % 64 = w ∧ j / 64 < np))
  · rw [if_pos h2, if_pos (by omega)]
  · rw [if_neg h2, if_neg (by omega)]
theorem rLM_at {f c : Nat → Int32} {np N p w : Nat} (hp : p < np) (hw : w < N) (hN : N ≤ 64) : rLM f c np N 0 (64 * p + w) = c (128 * p + w) := by
  unfold rLM
  rw [show (64 * p + w) / 64 = p by omega, show (64 * p + w) % 64 = w by omega, if_pos (by omega)]
def lmI (J : Nat → Nat → Int32) (N np : Nat) : Nat → Nat → Int32 := va_up (va_up (va_up J 40 (va_up (va_up (J 40) 26 (nI N)) 27 (J 40 36))) 64 (tkcp (J 64) (J 70) N)) 65 (rLM (J 65) (J 71) np N 0)
section REFCM
variable {G : tkG} {n : Nat} {T : Nat → Nat × Nat} {I : Nat → Nat → Int32} {L : Nat → Nat → Int64} {P : Nat → Nat → Option Nat}
theorem r_lessonKeep (hR : tkRef T P) {dp : Nat} (hd : dp < 4) : tkM G mX11_lessonKeep 0 0 0 [vR 40, vI (nI dp)] (n, T, I, L, P) (tkF none (n, T, lkI I dp, L, P)) := by
  unfold lkI
  refine tkM.of (ls := [some _, some _, none]) (by decide +kernel) (by decide +kernel) (Nat.le_of_ble_eq_true rfl) rfl ?_
  refine tk_aload0 dX11_lessonKeep_0 ?_
  refine tk_getP dX11_lessonKeep_1 fX11_133 rfl hR.o (hR.p 48 rfl) ?_
  refine tk_iload1 dX11_lessonKeep_4 ?_
  refine tk_aload0 dX11_lessonKeep_5 ?_
  refine tk_getI dX11_lessonKeep_6 fX11_215 rfl hR.o ?_
  refine tk_iast dX11_lessonKeep_9 (hR.t 81 rfl) (by omega) (by omega) ?_
  try simp only [va_up_self, bx_uu, tk_une, tk_usrt, not_false_eq_true, Nat.reduceEqDiff, Nat.reduceLT, Nat.reduceAdd, Nat.reduceMul, Nat.reduceLeDiff, reduceCtorEq]
  refine tk_aload0 dX11_lessonKeep_10 ?_
  refine tk_getP dX11_lessonKeep_11 fX11_136 rfl hR.o (hR.p 49 rfl) ?_
  refine tk_iload1 dX11_lessonKeep_14 ?_
  refine tk_aload0 dX11_lessonKeep_15 ?_
  refine tk_getI dX11_lessonKeep_16 fX11_220 rfl hR.o ?_
  refine tk_iast dX11_lessonKeep_19 (hR.t 82 rfl) (by omega) (by omega) ?_
  simp only [va_up_self, bx_uu, tk_une, tk_usrt, not_false_eq_true, Nat.reduceEqDiff, Nat.reduceLT, Nat.reduceAdd, Nat.reduceMul, Nat.reduceLeDiff, reduceCtorEq]
  refine tk_iconst dX11_lessonKeep_20 kc_iconst_0 ?_
  refine tk_istore2 dX11_lessonKeep_21 rfl ?_
  refine tk_fr 0 64 (fun i => [some (vR 40), some (vI (nI dp)), some (vI (nI i))]) (fun i => (n, T, va_up (va_up (va_up I 81 (va_up (I 81) dp (I 40 26))) 82 (va_up (I 82) dp (I 40 27))) 83 (tkco (I 83) (I 64) (64 * dp) i), L, P)) (by omega) (by repeat' (first | exact trivial | refine ⟨Or.inl rfl, ?_⟩ | refine ⟨Or.inr rfl, ?_⟩)) (by rw [tkco_0, tk_uid (k := 83)]; simp only [va_up_self, bx_uu, tk_une, tk_usrt, not_false_eq_true, Nat.reduceEqDiff, Nat.reduceLT, Nat.reduceAdd, Nat.reduceMul, Nat.reduceLeDiff, reduceCtorEq]) ?_ ?_
  · refine tk_iload2 dX11_lessonKeep_22 ?_
    refine tk_bipush dX11_lessonKeep_23 kc_bipush_64 ?_
    first | refine tk_icmp_geN dX11_lessonKeep_25 (by omega) (by omega) (fun h25 => ?_) (fun h25 => ?_) | refine tk_jcmp_ge dX11_lessonKeep_25 (fun h25 => ?_) (fun h25 => ?_)
    · refine tk_iconst dX11_lessonKeep_51 kc_iconst_0 ?_
      refine tk_istore2 dX11_lessonKeep_52 rfl ?_
      refine tk_fr 0 256 (fun i => [some (vR 40), some (vI (nI dp)), some (vI (nI i))]) (fun i => (n, T, va_up (va_up (va_up (va_up I 81 (va_up (I 81) dp (I 40 26))) 82 (va_up (I 82) dp (I 40 27))) 83 (tkco (I 83) (I 64) (64 * dp) 64)) 84 (tkco (I 84) (I 65) (256 * dp) i), L, P)) (by omega) (by repeat' (first | exact trivial | refine ⟨Or.inl rfl, ?_⟩ | refine ⟨Or.inr rfl, ?_⟩)) (by simp only [tkco_0]; rw [tk_uid (k := 84)]; simp only [va_up_self, bx_uu, tk_une, tk_usrt, not_false_eq_true, Nat.reduceEqDiff, Nat.reduceLT, Nat.reduceAdd, Nat.reduceMul, Nat.reduceLeDiff, reduceCtorEq]) ?_ ?_
      · refine tk_iload2 dX11_lessonKeep_53 ?_
        refine tk_sipush dX11_lessonKeep_54 kc_sipush_256 ?_
        first | refine tk_icmp_geN dX11_lessonKeep_57 (by omega) (by omega) (fun h57 => ?_) (fun h57 => ?_) | refine tk_jcmp_ge dX11_lessonKeep_57 (fun h57 => ?_) (fun h57 => ?_)
        · refine tk_return dX11_lessonKeep_84 rfl ?_
          exact ⟨rfl, rfl⟩
        · exfalso; omega
      · intro i _ hi k
        refine tk_iload2 dX11_lessonKeep_53 ?_
        refine tk_sipush dX11_lessonKeep_54 kc_sipush_256 ?_
        first | refine tk_icmp_geN dX11_lessonKeep_57 (by omega) (by omega) (fun h57 => ?_) (fun h57 => ?_) | refine tk_jcmp_ge dX11_lessonKeep_57 (fun h57 => ?_) (fun h57 => ?_)
        · exfalso; omega
        · refine tk_aload0 dX11_lessonKeep_60 ?_
          refine tk_getP dX11_lessonKeep_61 fX11_142 rfl hR.o (hR.p 51 rfl) ?_
          refine tk_sipush dX11_lessonKeep_64 kc_sipush_256 ?_
          refine tk_iload1 dX11_lessonKeep_67 ?_
          first | refine tk_imulN dX11_lessonKeep_68 ?_ | refine tk_imul dX11_lessonKeep_68 ?_
          refine tk_iload2 dX11_lessonKeep_69 ?_
          first | refine tk_iaddN dX11_lessonKeep_70 ?_ | refine tk_iadd dX11_lessonKeep_70 ?_
          refine tk_aload0 dX11_lessonKeep_71 ?_
          refine tk_getP dX11_lessonKeep_72 fX11_83 rfl hR.o (hR.p 29 rfl) ?_
          refine tk_iload2 dX11_lessonKeep_75 ?_
          refine tk_iald dX11_lessonKeep_76 (hR.t 65 rfl) (by omega) (by omega) ?_
          refine tk_iast dX11_lessonKeep_77 (hR.t 84 rfl) (by omega) (by omega) ?_
          simp only [va_up_self, bx_uu, tk_une, tk_usrt, not_false_eq_true, Nat.reduceEqDiff, Nat.reduceLT, Nat.reduceAdd, Nat.reduceMul, Nat.reduceLeDiff, reduceCtorEq]
          rw [tkco_s (I 84) (I 65)]
          first | refine tk_iinc2 dX11_lessonKeep_78 (kc_inc _) rfl ?_ | refine tk_iinc2 dX11_lessonKeep_78 rfl rfl ?_
          refine tk_goto dX11_lessonKeep_81 ?_
          exact k _ (by repeat' (first | exact trivial | refine ⟨Or.inl rfl, ?_⟩ | refine ⟨Or.inr rfl, ?_⟩))
    · exfalso; omega
  · intro i _ hi k
    refine tk_iload2 dX11_lessonKeep_22 ?_
    refine tk_bipush dX11_lessonKeep_23 kc_bipush_64 ?_
    first | refine tk_icmp_geN dX11_lessonKeep_25 (by omega) (by omega) (fun h25 => ?_) (fun h25 => ?_) | refine tk_jcmp_ge dX11_lessonKeep_25 (fun h25 => ?_) (fun h25 => ?_)
    · exfalso; omega
    · refine tk_aload0 dX11_lessonKeep_28 ?_
      refine tk_getP dX11_lessonKeep_29 fX11_139 rfl hR.o (hR.p 50 rfl) ?_
      refine tk_bipush dX11_lessonKeep_32 kc_bipush_64 ?_
      refine tk_iload1 dX11_lessonKeep_34 ?_
      first | refine tk_imulN dX11_lessonKeep_35 ?_ | refine tk_imul dX11_lessonKeep_35 ?_
      refine tk_iload2 dX11_lessonKeep_36 ?_
      first | refine tk_iaddN dX11_lessonKeep_37 ?_ | refine tk_iadd dX11_lessonKeep_37 ?_
      refine tk_aload0 dX11_lessonKeep_38 ?_
      refine tk_getP dX11_lessonKeep_39 fX11_80 rfl hR.o (hR.p 28 rfl) ?_
      refine tk_iload2 dX11_lessonKeep_42 ?_
      refine tk_iald dX11_lessonKeep_43 (hR.t 64 rfl) (by omega) (by omega) ?_
      refine tk_iast dX11_lessonKeep_44 (hR.t 83 rfl) (by omega) (by omega) ?_
      simp only [va_up_self, bx_uu, tk_une, tk_usrt, not_false_eq_true, Nat.reduceEqDiff, Nat.reduceLT, Nat.reduceAdd, Nat.reduceMul, Nat.reduceLeDiff, reduceCtorEq]
      rw [tkco_s (I 83) (I 64)]
      first | refine tk_iinc2 dX11_lessonKeep_45 (kc_inc _) rfl ?_ | refine tk_iinc2 dX11_lessonKeep_45 rfl rfl ?_
      refine tk_goto dX11_lessonKeep_48 ?_
      exact k _ (by repeat' (first | exact trivial | refine ⟨Or.inl rfl, ?_⟩ | refine ⟨Or.inr rfl, ?_⟩))
theorem r_lessonBack (hR : tkRef T P) {dp np W : Nat} (hd : dp < 4) (hnp : I 41 0 = nI np) (hnp4 : np ≤ 4) (hW : I 81 dp = nI W) (hW2 : W ≤ 64) : tkM G mX11_lessonBack 1 0 0 [vR 40, vI (nI dp)] (n, T, I, L, P) (tkF none (n, T, lbI I dp, va_up L 66 (rTB (L 66) (lbI I dp 65) W np 0), P)) := by
  unfold lbI
  refine tkM.of (ls := [some _, some _, none]) (by decide +kernel) (by decide +kernel) (Nat.le_of_ble_eq_true rfl) rfl ?_
  refine tk_aload0 dX11_lessonBack_0 ?_
  refine tk_aload0 dX11_lessonBack_1 ?_
  refine tk_getP dX11_lessonBack_2 fX11_133 rfl hR.o (hR.p 48 rfl) ?_
  refine tk_iload1 dX11_lessonBack_5 ?_
  refine tk_iald dX11_lessonBack_6 (hR.t 81 rfl) (by omega) (by omega) ?_
  refine tk_putI dX11_lessonBack_7 fX11_215 wX11_lessonBack_X11_26 rfl hR.o ?_
  simp only [va_up_self, bx_uu, tk_une, tk_usrt, not_false_eq_true, Nat.reduceEqDiff, Nat.reduceLT, Nat.reduceAdd, Nat.reduceMul, Nat.reduceLeDiff, reduceCtorEq]
  refine tk_aload0 dX11_lessonBack_10 ?_
  refine tk_aload0 dX11_lessonBack_11 ?_
  refine tk_getP dX11_lessonBack_12 fX11_136 rfl hR.o (hR.p 49 rfl) ?_
  refine tk_iload1 dX11_lessonBack_15 ?_
  refine tk_iald dX11_lessonBack_16 (hR.t 82 rfl) (by omega) (by omega) ?_
  refine tk_putI dX11_lessonBack_17 fX11_220 wX11_lessonBack_X11_27 rfl hR.o ?_
  simp only [va_up_self, bx_uu, tk_une, tk_usrt, not_false_eq_true, Nat.reduceEqDiff, Nat.reduceLT, Nat.reduceAdd, Nat.reduceMul, Nat.reduceLeDiff, reduceCtorEq]
  refine tk_iconst dX11_lessonBack_20 kc_iconst_0 ?_
  refine tk_istore2 dX11_lessonBack_21 rfl ?_
  refine tk_fr 0 64 (fun i => [some (vR 40), some (vI (nI dp)), some (vI (nI i))]) (fun i => (n, T, va_up (va_up I 40 (va_up (va_up (I 40) 26 (I 81 dp)) 27 (I 82 dp))) 64 (tkcp (I 64) (fun k => I 83 (64 * dp + k)) i), L, P)) (by omega) (by repeat' (first | exact trivial | refine ⟨Or.inl rfl, ?_⟩ | refine ⟨Or.inr rfl, ?_⟩)) (by rw [tkcp_0, tk_uid (k := 64)]; simp only [va_up_self, bx_uu, tk_une, tk_usrt, not_false_eq_true, Nat.reduceEqDiff, Nat.reduceLT, Nat.reduceAdd, Nat.reduceMul, Nat.reduceLeDiff, reduceCtorEq]) ?_ ?_
  · refine tk_iload2 dX11_lessonBack_22 ?_
    refine tk_bipush dX11_lessonBack_23 kc_bipush_64 ?_
    first | refine tk_icmp_geN dX11_lessonBack_25 (by omega) (by omega) (fun h25 => ?_) (fun h25 => ?_) | refine tk_jcmp_ge dX11_lessonBack_25 (fun h25 => ?_) (fun h25 => ?_)
    · refine tk_iconst dX11_lessonBack_51 kc_iconst_0 ?_
      refine tk_istore2 dX11_lessonBack_52 rfl ?_
      refine tk_fr 0 256 (fun i => [some (vR 40), some (vI (nI dp)), some (vI (nI i))]) (fun i => (n, T, va_up (va_up (va_up I 40 (va_up (va_up (I 40) 26 (I 81 dp)) 27 (I 82 dp))) 64 (tkcp (I 64) (fun k => I 83 (64 * dp + k)) 64)) 65 (tkcp (I 65) (fun k => I 84 (256 * dp + k)) i), L, P)) (by omega) (by repeat' (first | exact trivial | refine ⟨Or.inl rfl, ?_⟩ | refine ⟨Or.inr rfl, ?_⟩)) (by simp only [tkcp_0]; rw [tk_uid (k := 65)]; simp only [va_up_self, bx_uu, tk_une, tk_usrt, not_false_eq_true, Nat.reduceEqDiff, Nat.reduceLT, Nat.reduceAdd, Nat.reduceMul, Nat.reduceLeDiff, reduceCtorEq]) ?_ ?_
      · refine tk_iload2 dX11_lessonBack_53 ?_
        refine tk_sipush dX11_lessonBack_54 kc_sipush_256 ?_
        first | refine tk_icmp_geN dX11_lessonBack_57 (by omega) (by omega) (fun h57 => ?_) (fun h57 => ?_) | refine tk_jcmp_ge dX11_lessonBack_57 (fun h57 => ?_) (fun h57 => ?_)
        · refine tk_aload0 dX11_lessonBack_84 ?_
          refine tk_callV0y dX11_lessonBack_85 kX11_226 hR.o (r_tellBits hR (np := np) (W := W) (by simp only [va_up_self, bx_uu, tk_une, tk_usrt, not_false_eq_true, Nat.reduceEqDiff, Nat.reduceLT, Nat.reduceAdd, Nat.reduceMul, Nat.reduceLeDiff, reduceCtorEq]; exact hnp) hnp4 (by simp only [va_up_self, bx_uu, tk_une, tk_usrt, not_false_eq_true, Nat.reduceEqDiff, Nat.reduceLT, Nat.reduceAdd, Nat.reduceMul, Nat.reduceLeDiff, reduceCtorEq]; exact hW) hW2) (Nat.le_of_ble_eq_true rfl) (by omega) ?_
          refine tk_return dX11_lessonBack_88 rfl ?_
          exact ⟨rfl, by simp only [va_up_self, bx_uu, tk_une, tk_usrt, not_false_eq_true, Nat.reduceEqDiff, Nat.reduceLT, Nat.reduceAdd, Nat.reduceMul, Nat.reduceLeDiff, reduceCtorEq]⟩
        · exfalso; omega
      · intro i _ hi k
        refine tk_iload2 dX11_lessonBack_53 ?_
        refine tk_sipush dX11_lessonBack_54 kc_sipush_256 ?_
        first | refine tk_icmp_geN dX11_lessonBack_57 (by omega) (by omega) (fun h57 => ?_) (fun h57 => ?_) | refine tk_jcmp_ge dX11_lessonBack_57 (fun h57 => ?_) (fun h57 => ?_)
        · exfalso; omega
        · refine tk_aload0 dX11_lessonBack_60 ?_
          refine tk_getP dX11_lessonBack_61 fX11_83 rfl hR.o (hR.p 29 rfl) ?_
          refine tk_iload2 dX11_lessonBack_64 ?_
          refine tk_aload0 dX11_lessonBack_65 ?_
          refine tk_getP dX11_lessonBack_66 fX11_142 rfl hR.o (hR.p 51 rfl) ?_
          refine tk_sipush dX11_lessonBack_69 kc_sipush_256 ?_
          refine tk_iload1 dX11_lessonBack_72 ?_
          first | refine tk_imulN dX11_lessonBack_73 ?_ | refine tk_imul dX11_lessonBack_73 ?_
          refine tk_iload2 dX11_lessonBack_74 ?_
          first | refine tk_iaddN dX11_lessonBack_75 ?_ | refine tk_iadd dX11_lessonBack_75 ?_
          refine tk_iald dX11_lessonBack_76 (hR.t 84 rfl) (by omega) (by omega) ?_
          refine tk_iast dX11_lessonBack_77 (hR.t 65 rfl) (by omega) (by omega) ?_
          simp only [va_up_self, bx_uu, tk_une, tk_usrt, not_false_eq_true, Nat.reduceEqDiff, Nat.reduceLT, Nat.reduceAdd, Nat.reduceMul, Nat.reduceLeDiff, reduceCtorEq]
          rw [tkcp_s (I 65) (fun k => I 84 (256 * dp + k))]
          first | refine tk_iinc2 dX11_lessonBack_78 (kc_inc _) rfl ?_ | refine tk_iinc2 dX11_lessonBack_78 rfl rfl ?_
          refine tk_goto dX11_lessonBack_81 ?_
          exact k _ (by repeat' (first | exact trivial | refine ⟨Or.inl rfl, ?_⟩ | refine ⟨Or.inr rfl, ?_⟩))
    · exfalso; omega
  · intro i _ hi k
    refine tk_iload2 dX11_lessonBack_22 ?_
    refine tk_bipush dX11_lessonBack_23 kc_bipush_64 ?_
    first | refine tk_icmp_geN dX11_lessonBack_25 (by omega) (by omega) (fun h25 => ?_) (fun h25 => ?_) | refine tk_jcmp_ge dX11_lessonBack_25 (fun h25 => ?_) (fun h25 => ?_)
    · exfalso; omega
    · refine tk_aload0 dX11_lessonBack_28 ?_
      refine tk_getP dX11_lessonBack_29 fX11_80 rfl hR.o (hR.p 28 rfl) ?_
      refine tk_iload2 dX11_lessonBack_32 ?_
      refine tk_aload0 dX11_lessonBack_33 ?_
      refine tk_getP dX11_lessonBack_34 fX11_139 rfl hR.o (hR.p 50 rfl) ?_
      refine tk_bipush dX11_lessonBack_37 kc_bipush_64 ?_
      refine tk_iload1 dX11_lessonBack_39 ?_
      first | refine tk_imulN dX11_lessonBack_40 ?_ | refine tk_imul dX11_lessonBack_40 ?_
      refine tk_iload2 dX11_lessonBack_41 ?_
      first | refine tk_iaddN dX11_lessonBack_42 ?_ | refine tk_iadd dX11_lessonBack_42 ?_
      refine tk_iald dX11_lessonBack_43 (hR.t 83 rfl) (by omega) (by omega) ?_
      refine tk_iast dX11_lessonBack_44 (hR.t 64 rfl) (by omega) (by omega) ?_
      simp only [va_up_self, bx_uu, tk_une, tk_usrt, not_false_eq_true, Nat.reduceEqDiff, Nat.reduceLT, Nat.reduceAdd, Nat.reduceMul, Nat.reduceLeDiff, reduceCtorEq]
      rw [tkcp_s (I 64) (fun k => I 83 (64 * dp + k))]
      first | refine tk_iinc2 dX11_lessonBack_45 (kc_inc _) rfl ?_ | refine tk_iinc2 dX11_lessonBack_45 rfl rfl ?_
      refine tk_goto dX11_lessonBack_48 ?_
      exact k _ (by repeat' (first | exact trivial | refine ⟨Or.inl rfl, ?_⟩ | refine ⟨Or.inr rfl, ?_⟩))
theorem r_layMade (hR : tkRef T P) {N np : Nat} (hnp : I 41 0 = nI np) (hnp4 : np ≤ 4) (hN : I 40 35 = nI N) (hN2 : N ≤ 64) : tkM G mX11_layMade 1 0 0 [vR 40] (n, T, I, L, P) (tkF none (n, T, lmI I N np, va_up L 66 (rTB (L 66) (lmI I N np 65) N np 0), P)) := by
  unfold lmI
  refine tkM.of (ls := [some _, none, none]) (by decide +kernel) (by decide +kernel) (Nat.le_of_ble_eq_true rfl) rfl ?_
  refine tk_aload0 dX11_layMade_0 ?_
  refine tk_aload0 dX11_layMade_1 ?_
  refine tk_getI dX11_layMade_2 fX11_256 rfl hR.o ?_
  rw [hN]
  refine tk_putI dX11_layMade_5 fX11_215 wX11_layMade_X11_26 rfl hR.o ?_
  refine tk_aload0 dX11_layMade_8 ?_
  refine tk_aload0 dX11_layMade_9 ?_
  refine tk_getI dX11_layMade_10 fX11_259 rfl hR.o ?_
  refine tk_putI dX11_layMade_13 fX11_220 wX11_layMade_X11_27 rfl hR.o ?_
  simp only [va_up_self, bx_uu, tk_une, tk_usrt, not_false_eq_true, Nat.reduceEqDiff, Nat.reduceLT, Nat.reduceAdd, Nat.reduceMul, Nat.reduceLeDiff, reduceCtorEq]
  refine tk_iconst dX11_layMade_16 kc_iconst_0 ?_
  refine tk_istore1 dX11_layMade_17 rfl ?_
  refine tk_fr 0 N (fun w => [some (vR 40), some (vI (nI w)), none]) (fun w => (n, T, va_up (va_up (va_up I 40 (va_up (va_up (I 40) 26 (nI N)) 27 (I 40 36))) 64 (tkcp (I 64) (I 70) w)) 65 (rLM (I 65) (I 71) np w 0), L, P)) (by omega) (by repeat' (first | exact trivial | refine ⟨Or.inl rfl, ?_⟩ | refine ⟨Or.inr rfl, ?_⟩)) (by rw [tkcp_0, rLM_0, tk_uid (k := 65), tk_uid (k := 64)] <;> simp only [va_up_self, bx_uu, tk_une, tk_usrt, not_false_eq_true, Nat.reduceEqDiff, Nat.reduceLT, Nat.reduceAdd, Nat.reduceMul, Nat.reduceLeDiff, reduceCtorEq]) ?_ ?_
  · refine tk_iload1 dX11_layMade_18 ?_
    refine tk_aload0 dX11_layMade_19 ?_
    refine tk_getI dX11_layMade_20 fX11_256 rfl hR.o ?_
    simp only [va_up_self, bx_uu, tk_une, tk_usrt, not_false_eq_true, Nat.reduceEqDiff, Nat.reduceLT, Nat.reduceAdd, Nat.reduceMul, Nat.reduceLeDiff, reduceCtorEq, hN]
    first | refine tk_icmp_geN dX11_layMade_23 (by omega) (by omega) (fun h23 => ?_) (fun h23 => ?_) | refine tk_jcmp_ge dX11_layMade_23 (fun h23 => ?_) (fun h23 => ?_)
    · refine tk_aload0 dX11_layMade_85 ?_
      refine tk_callV0y dX11_layMade_86 kX11_226 hR.o (r_tellBits hR (np := np) (W := N) (by simp only [va_up_self, bx_uu, tk_une, tk_usrt, not_false_eq_true, Nat.reduceEqDiff, Nat.reduceLT, Nat.reduceAdd, Nat.reduceMul, Nat.reduceLeDiff, reduceCtorEq]; exact hnp) hnp4 (by simp only [va_up_self, bx_uu, tk_une, tk_usrt, not_false_eq_true, Nat.reduceEqDiff, Nat.reduceLT, Nat.reduceAdd, Nat.reduceMul, Nat.reduceLeDiff, reduceCtorEq]) hN2) (Nat.le_of_ble_eq_true rfl) (by omega) ?_
      refine tk_return dX11_layMade_89 rfl ?_
      exact ⟨rfl, by simp only [va_up_self, bx_uu, tk_une, tk_usrt, not_false_eq_true, Nat.reduceEqDiff, Nat.reduceLT, Nat.reduceAdd, Nat.reduceMul, Nat.reduceLeDiff, reduceCtorEq]⟩
    · exfalso; omega
  · intro w _ hw k
    refine tk_iload1 dX11_layMade_18 ?_
    refine tk_aload0 dX11_layMade_19 ?_
    refine tk_getI dX11_layMade_20 fX11_256 rfl hR.o ?_
    simp only [va_up_self, bx_uu, tk_une, tk_usrt, not_false_eq_true, Nat.reduceEqDiff, Nat.reduceLT, Nat.reduceAdd, Nat.reduceMul, Nat.reduceLeDiff, reduceCtorEq, hN]
    first | refine tk_icmp_geN dX11_layMade_23 (by omega) (by omega) (fun h23 => ?_) (fun h23 => ?_) | refine tk_jcmp_ge dX11_layMade_23 (fun h23 => ?_) (fun h23 => ?_)
    · exfalso; omega
    · refine tk_aload0 dX11_layMade_26 ?_
      refine tk_getP dX11_layMade_27 fX11_80 rfl hR.o (hR.p 28 rfl) ?_
      refine tk_iload1 dX11_layMade_30 ?_
      refine tk_aload0 dX11_layMade_31 ?_
      refine tk_getP dX11_layMade_32 fX11_99 rfl hR.o (hR.p 37 rfl) ?_
      refine tk_iload1 dX11_layMade_35 ?_
      refine tk_iald dX11_layMade_36 (hR.t 70 rfl) (by omega) (by omega) ?_
      refine tk_iast dX11_layMade_37 (hR.t 64 rfl) (by omega) (by omega) ?_
      simp only [va_up_self, bx_uu, tk_une, tk_usrt, not_false_eq_true, Nat.reduceEqDiff, Nat.reduceLT, Nat.reduceAdd, Nat.reduceMul, Nat.reduceLeDiff, reduceCtorEq]
      rw [tkcp_s (I 64) (I 70)]
      refine tk_iconst dX11_layMade_38 kc_iconst_0 ?_
      refine tk_istore2 dX11_layMade_39 rfl ?_
      refine tk_fr 0 np (fun p => [some (vR 40), some (vI (nI w)), some (vI (nI p))]) (fun p => (n, T, va_up (va_up (va_up I 40 (va_up (va_up (I 40) 26 (nI N)) 27 (I 40 36))) 64 (tkcp (I 64) (I 70) (w + 1))) 65 (rLM (I 65) (I 71) np w p), L, P)) (by omega) (by repeat' (first | exact trivial | refine ⟨Or.inl rfl, ?_⟩ | refine ⟨Or.inr rfl, ?_⟩)) rfl ?_ ?_
      · refine tk_iload2 dX11_layMade_40 ?_
        refine tk_aload0 dX11_layMade_41 ?_
        refine tk_getP dX11_layMade_42 fX11_7 rfl hR.o (hR.p 0 rfl) ?_
        refine tk_iconst dX11_layMade_45 kc_iconst_0 ?_
        refine tk_iald dX11_layMade_46 (hR.t 41 rfl) (by omega) (by omega) ?_
        simp only [va_up_self, bx_uu, tk_une, tk_usrt, not_false_eq_true, Nat.reduceEqDiff, Nat.reduceLT, Nat.reduceAdd, Nat.reduceMul, Nat.reduceLeDiff, reduceCtorEq, hnp]
        first | refine tk_icmp_geN dX11_layMade_47 (by omega) (by omega) (fun h47 => ?_) (fun h47 => ?_) | refine tk_jcmp_ge dX11_layMade_47 (fun h47 => ?_) (fun h47 => ?_)
        · first | refine tk_iinc1 dX11_layMade_79 (kc_inc _) rfl ?_ | refine tk_iinc1 dX11_layMade_79 rfl rfl ?_
          refine tk_goto dX11_layMade_82 ?_
          rw [rLM_n]
          exact k _ (by repeat' (first | exact trivial | refine ⟨Or.inl rfl, ?_⟩ | refine ⟨Or.inr rfl, ?_⟩))
        · exfalso; omega
      · intro p _ hp k2
        refine tk_iload2 dX11_layMade_40 ?_
        refine tk_aload0 dX11_layMade_41 ?_
        refine tk_getP dX11_layMade_42 fX11_7 rfl hR.o (hR.p 0 rfl) ?_
        refine tk_iconst dX11_layMade_45 kc_iconst_0 ?_
        refine tk_iald dX11_layMade_46 (hR.t 41 rfl) (by omega) (by omega) ?_
        simp only [va_up_self, bx_uu, tk_une, tk_usrt, not_false_eq_true, Nat.reduceEqDiff, Nat.reduceLT, Nat.reduceAdd, Nat.reduceMul, Nat.reduceLeDiff, reduceCtorEq, hnp]
        first | refine tk_icmp_geN dX11_layMade_47 (by omega) (by omega) (fun h47 => ?_) (fun h47 => ?_) | refine tk_jcmp_ge dX11_layMade_47 (fun h47 => ?_) (fun h47 => ?_)
        · exfalso; omega
        · refine tk_aload0 dX11_layMade_50 ?_
          refine tk_getP dX11_layMade_51 fX11_83 rfl hR.o (hR.p 29 rfl) ?_
          refine tk_bipush dX11_layMade_54 kc_bipush_64 ?_
          refine tk_iload2 dX11_layMade_56 ?_
          first | refine tk_imulN dX11_layMade_57 ?_ | refine tk_imul dX11_layMade_57 ?_
          refine tk_iload1 dX11_layMade_58 ?_
          first | refine tk_iaddN dX11_layMade_59 ?_ | refine tk_iadd dX11_layMade_59 ?_
          refine tk_aload0 dX11_layMade_60 ?_
          refine tk_getP dX11_layMade_61 fX11_102 rfl hR.o (hR.p 38 rfl) ?_
          refine tk_sipush dX11_layMade_64 kc_sipush_128 ?_
          refine tk_iload2 dX11_layMade_67 ?_
          first | refine tk_imulN dX11_layMade_68 ?_ | refine tk_imul dX11_layMade_68 ?_
          refine tk_iload1 dX11_layMade_69 ?_
          first | refine tk_iaddN dX11_layMade_70 ?_ | refine tk_iadd dX11_layMade_70 ?_
          refine tk_iald dX11_layMade_71 (hR.t 71 rfl) (by omega) (by omega) ?_
          refine tk_iast dX11_layMade_72 (hR.t 65 rfl) (by omega) (by omega) ?_
          simp only [va_up_self, bx_uu, tk_une, tk_usrt, not_false_eq_true, Nat.reduceEqDiff, Nat.reduceLT, Nat.reduceAdd, Nat.reduceMul, Nat.reduceLeDiff, reduceCtorEq]
          rw [rLM_s (I 65) (I 71) (by omega) hp]
          first | refine tk_iinc2 dX11_layMade_73 (kc_inc _) rfl ?_ | refine tk_iinc2 dX11_layMade_73 rfl rfl ?_
          refine tk_goto dX11_layMade_76 ?_
          exact k2 _ (by repeat' (first | exact trivial | refine ⟨Or.inl rfl, ?_⟩ | refine ⟨Or.inr rfl, ?_⟩))
def telQ (st : Nat → Int32) (B : Nat → Int64) (W r p : Nat) (x : Int64) (a : Nat) : Bool := !decide (a = p) && (decide (st a = st p) && rKw B W a r x)
def telV (o : Option Nat) : Int32 := match o with
  | some a => nI a
  | none => -1
theorem r_teller (hR : tkRef T P) {np W r p : Nat} {x : Int64} (hnp : I 41 0 = nI np) (hnp4 : np ≤ 4) (hW : I 40 26 = nI W) (hW2 : W ≤ 64) (hr : I 40 27 = nI r) (hr2 : r < W) (hp : p < 4) : tkM G mX11_teller 2 0 0 [vR 40, vI (nI p), vL x] (n, T, I, L, P) (tkF (some (vI (telV (rFm (telQ (I 44) (L 66) W r p x) np 0)))) (n, T, I, L, P)) := by
  have loop : ∀ k i, i + k = np → tkX G mX11_teller 2 0 0 3 [some (vR 40), some (vI (nI p)), some (vL x), none, some (vI (nI i))] [] (n, T, I, L, P) (tkF (some (vI (telV (rFm (telQ (I 44) (L 66) W r p x) k i)))) (n, T, I, L, P)) := by
    intro k
    induction k with
    | zero =>
      intro i hi
      refine tk_iload4 dX11_teller_3 ?_
      refine tk_aload0 dX11_teller_5 ?_
      refine tk_getP dX11_teller_6 fX11_7 rfl hR.o (hR.p 0 rfl) ?_
      refine tk_iconst dX11_teller_9 kc_iconst_0 ?_
      refine tk_iald dX11_teller_10 (hR.t 41 rfl) (by omega) (by omega) ?_
      rw [hnp]
      first | refine tk_icmp_geN dX11_teller_11 (by omega) (by omega) (fun h11 => ?_) (fun h11 => ?_) | refine tk_jcmp_ge dX11_teller_11 (fun h11 => ?_) (fun h11 => ?_)
      · refine tk_iconst dX11_teller_59 kc_iconst_m1 ?_
        refine tk_ireturn dX11_teller_60 rfl ?_
        exact ⟨rfl, rfl⟩
      · exfalso; omega
    | succ k ih =>
      intro i hi
      refine tk_iload4 dX11_teller_3 ?_
      refine tk_aload0 dX11_teller_5 ?_
      refine tk_getP dX11_teller_6 fX11_7 rfl hR.o (hR.p 0 rfl) ?_
      refine tk_iconst dX11_teller_9 kc_iconst_0 ?_
      refine tk_iald dX11_teller_10 (hR.t 41 rfl) (by omega) (by omega) ?_
      rw [hnp]
      first | refine tk_icmp_geN dX11_teller_11 (by omega) (by omega) (fun h11 => ?_) (fun h11 => ?_) | refine tk_jcmp_ge dX11_teller_11 (fun h11 => ?_) (fun h11 => ?_)
      · exfalso; omega
      · refine tk_iload4 dX11_teller_14 ?_
        refine tk_iload1 dX11_teller_16 ?_
        first | refine tk_icmp_eqN dX11_teller_17 (by omega) (by omega) (fun h17 => ?_) (fun h17 => ?_) | refine tk_icmp_eq dX11_teller_17 (fun h17 => ?_) (fun h17 => ?_)
        · first | refine tk_iinc4 dX11_teller_53 (kc_inc _) rfl ?_ | refine tk_iinc4 dX11_teller_53 rfl rfl ?_
          refine tk_goto dX11_teller_56 ?_
          have q := ih (i + 1) (by omega)
          first
            | rw [show rFm (telQ (I 44) (L 66) W r p x) (k + 1) i = rFm (telQ (I 44) (L 66) W r p x) k (i + 1) from if_neg (by unfold telQ; rw [decide_eq_true h17]; exact Bool.false_ne_true)]; exact tk_wk (by repeat' (first | exact trivial | refine ⟨Or.inl rfl, ?_⟩ | refine ⟨Or.inr rfl, ?_⟩)) q
            | rw [show rFm (telQ (I 44) (L 66) W r p x) (k + 1) i = rFm (telQ (I 44) (L 66) W r p x) k (i + 1) from if_neg (by unfold telQ; rw [decide_eq_false h33, Bool.false_and, Bool.and_false]; exact Bool.false_ne_true)]; exact tk_wk (by repeat' (first | exact trivial | refine ⟨Or.inl rfl, ?_⟩ | refine ⟨Or.inr rfl, ?_⟩)) q
            | rw [show rFm (telQ (I 44) (L 66) W r p x) (k + 1) i = rFm (telQ (I 44) (L 66) W r p x) k (i + 1) from if_neg (by unfold telQ; rw [h47, Bool.and_false, Bool.and_false]; exact Bool.false_ne_true)]; exact tk_wk (by repeat' (first | exact trivial | refine ⟨Or.inl rfl, ?_⟩ | refine ⟨Or.inr rfl, ?_⟩)) q
        · refine tk_aload0 dX11_teller_20 ?_
          refine tk_getP dX11_teller_21 fX11_19 rfl hR.o (hR.p 3 rfl) ?_
          refine tk_iload4 dX11_teller_24 ?_
          refine tk_iald dX11_teller_26 (hR.t 44 rfl) (by omega) (by omega) ?_
          refine tk_aload0 dX11_teller_27 ?_
          refine tk_getP dX11_teller_28 fX11_19 rfl hR.o (hR.p 3 rfl) ?_
          refine tk_iload1 dX11_teller_31 ?_
          refine tk_iald dX11_teller_32 (hR.t 44 rfl) (by omega) (by omega) ?_
          first | refine tk_icmp_neN dX11_teller_33 (by omega) (by omega) (fun h33 => ?_) (fun h33 => ?_) | refine tk_icmp_ne dX11_teller_33 (fun h33 => ?_) (fun h33 => ?_)
          · first | refine tk_iinc4 dX11_teller_53 (kc_inc _) rfl ?_ | refine tk_iinc4 dX11_teller_53 rfl rfl ?_
            refine tk_goto dX11_teller_56 ?_
            have q := ih (i + 1) (by omega)
            first
              | rw [show rFm (telQ (I 44) (L 66) W r p x) (k + 1) i = rFm (telQ (I 44) (L 66) W r p x) k (i + 1) from if_neg (by unfold telQ; rw [decide_eq_true h17]; exact Bool.false_ne_true)]; exact tk_wk (by repeat' (first | exact trivial | refine ⟨Or.inl rfl, ?_⟩ | refine ⟨Or.inr rfl, ?_⟩)) q
              | rw [show rFm (telQ (I 44) (L 66) W r p x) (k + 1) i = rFm (telQ (I 44) (L 66) W r p x) k (i + 1) from if_neg (by unfold telQ; rw [decide_eq_false h33, Bool.false_and, Bool.and_false]; exact Bool.false_ne_true)]; exact tk_wk (by repeat' (first | exact trivial | refine ⟨Or.inl rfl, ?_⟩ | refine ⟨Or.inr rfl, ?_⟩)) q
              | rw [show rFm (telQ (I 44) (L 66) W r p x) (k + 1) i = rFm (telQ (I 44) (L 66) W r p x) k (i + 1) from if_neg (by unfold telQ; rw [h47, Bool.and_false, Bool.and_false]; exact Bool.false_ne_true)]; exact tk_wk (by repeat' (first | exact trivial | refine ⟨Or.inl rfl, ?_⟩ | refine ⟨Or.inr rfl, ?_⟩)) q
          · refine tk_aload0 dX11_teller_36 ?_
            refine tk_iload4 dX11_teller_37 ?_
            refine tk_aload0 dX11_teller_39 ?_
            refine tk_getI dX11_teller_40 fX11_220 rfl hR.o ?_
            rw [hr]
            refine tk_lload2 dX11_teller_43 ?_
            refine tk_callV3z dX11_teller_44 kX11_303 hR.o (r_knowsWhether hR hW hW2 (by omega) (by omega) x) (Nat.le_of_ble_eq_true rfl) (by omega) ?_
            first | refine tk_jf_eqB dX11_teller_47 (fun h47 => ?_) (fun h47 => ?_) | refine tk_if_eq dX11_teller_47 (fun h47 => ?_) (fun h47 => ?_)
            · first | refine tk_iinc4 dX11_teller_53 (kc_inc _) rfl ?_ | refine tk_iinc4 dX11_teller_53 rfl rfl ?_
              refine tk_goto dX11_teller_56 ?_
              have q := ih (i + 1) (by omega)
              first
                | rw [show rFm (telQ (I 44) (L 66) W r p x) (k + 1) i = rFm (telQ (I 44) (L 66) W r p x) k (i + 1) from if_neg (by unfold telQ; rw [decide_eq_true h17]; exact Bool.false_ne_true)]; exact tk_wk (by repeat' (first | exact trivial | refine ⟨Or.inl rfl, ?_⟩ | refine ⟨Or.inr rfl, ?_⟩)) q
                | rw [show rFm (telQ (I 44) (L 66) W r p x) (k + 1) i = rFm (telQ (I 44) (L 66) W r p x) k (i + 1) from if_neg (by unfold telQ; rw [decide_eq_false h33, Bool.false_and, Bool.and_false]; exact Bool.false_ne_true)]; exact tk_wk (by repeat' (first | exact trivial | refine ⟨Or.inl rfl, ?_⟩ | refine ⟨Or.inr rfl, ?_⟩)) q
                | rw [show rFm (telQ (I 44) (L 66) W r p x) (k + 1) i = rFm (telQ (I 44) (L 66) W r p x) k (i + 1) from if_neg (by unfold telQ; rw [h47, Bool.and_false, Bool.and_false]; exact Bool.false_ne_true)]; exact tk_wk (by repeat' (first | exact trivial | refine ⟨Or.inl rfl, ?_⟩ | refine ⟨Or.inr rfl, ?_⟩)) q
            · refine tk_iload4 dX11_teller_50 ?_
              refine tk_ireturn dX11_teller_52 rfl ?_
              rw [show rFm (telQ (I 44) (L 66) W r p x) (k + 1) i = some i from if_pos (by unfold telQ; rw [decide_eq_false h17, decide_eq_true h33, h47]; rfl)]
              exact ⟨rfl, rfl⟩
  refine tkM.of (ls := [some _, some _, some _, none, none]) (by decide +kernel) (by decide +kernel) (Nat.le_of_ble_eq_true rfl) rfl ?_
  refine tk_iconst dX11_teller_0 kc_iconst_0 ?_
  refine tk_istore4 dX11_teller_1 rfl ?_
  exact loop np 0 (by omega)
theorem r_tellOpenlyG (hR : tkRef T P) {np W r p : Nat} (hnp : I 41 0 = nI np) (hnp4 : np ≤ 4) (hW : I 40 26 = nI W) (hW2 : W ≤ 64) (hr : I 40 27 = nI r) (hr2 : r < W) (hB : ∀ p, p < np → ∀ w, w < W → tb (L 66 (64 * p + w)) w = true) (hp : p < 4) (b : Int32) (x : Int64) : tkM G mX11_tellOpenly 2 0 0 [vR 40, vI (nI p), vI b, vL x] (n, T, I, L, P) (tkF none (n, T, mkI I (rKa (L 66) W p x) r W (rMp (rKa (L 66) W p x) (mFs (L 66) (rKa (L 66) W p x) b x) W (I 71) np), L, P)) := by
  refine tkM.of (ls := [some _, some _, some _, some _, none, none, none, none]) (by decide +kernel) (by decide +kernel) (Nat.le_of_ble_eq_true rfl) rfl ?_
  refine tk_lconst dX11_tellOpenly_0 (v := 0) (by decide) ?_
  refine tk_lstore5 dX11_tellOpenly_1 rfl ?_
  refine tk_iconst dX11_tellOpenly_3 kc_iconst_0 ?_
  refine tk_istore7 dX11_tellOpenly_4 rfl ?_
  refine tk_fr 0 W (fun w => [some (vR 40), some (vI (nI p)), some (vI b), some (vL x), none, some (vL (mk (fun w => rKw (L 66) W p w x) w)), none, some (vI (nI w))]) (fun w => (n, T, I, L, P)) (by omega) (by repeat' (first | exact trivial | refine ⟨Or.inl rfl, ?_⟩ | refine ⟨Or.inr rfl, ?_⟩)) rfl ?_ ?_
  · refine tk_iload7 dX11_tellOpenly_6 ?_
    refine tk_aload0 dX11_tellOpenly_8 ?_
    refine tk_getI dX11_tellOpenly_9 fX11_215 rfl hR.o ?_
    rw [hW]
    first | refine tk_icmp_geN dX11_tellOpenly_12 (by omega) (by omega) (fun h12 => ?_) (fun h12 => ?_) | refine tk_jcmp_ge dX11_tellOpenly_12 (fun h12 => ?_) (fun h12 => ?_)
    · refine tk_aload0 dX11_tellOpenly_45 ?_
      refine tk_lload5 dX11_tellOpenly_46 ?_
      refine tk_iload2 dX11_tellOpenly_48 ?_
      refine tk_lload3 dX11_tellOpenly_49 ?_
      refine tk_callV3y dX11_tellOpenly_50 kX11_278 hR.o (r_make hR hnp hnp4 hW hW2 hr hr2 hB (rKa (L 66) W p x) x b) (Nat.le_of_ble_eq_true rfl) (by omega) ?_
      refine tk_return dX11_tellOpenly_53 rfl ?_
      exact ⟨rfl, rfl⟩
    · exfalso; omega
  · intro w _ hw kk
    refine tk_iload7 dX11_tellOpenly_6 ?_
    refine tk_aload0 dX11_tellOpenly_8 ?_
    refine tk_getI dX11_tellOpenly_9 fX11_215 rfl hR.o ?_
    rw [hW]
    first | refine tk_icmp_geN dX11_tellOpenly_12 (by omega) (by omega) (fun h12 => ?_) (fun h12 => ?_) | refine tk_jcmp_ge dX11_tellOpenly_12 (fun h12 => ?_) (fun h12 => ?_)
    · exfalso; omega
    · refine tk_lload5 dX11_tellOpenly_15 ?_
      refine tk_aload0 dX11_tellOpenly_17 ?_
      refine tk_iload1 dX11_tellOpenly_18 ?_
      refine tk_iload7 dX11_tellOpenly_19 ?_
      refine tk_lload3 dX11_tellOpenly_21 ?_
      refine tk_callV3z dX11_tellOpenly_22 kX11_303 hR.o (r_knowsWhether hR hW hW2 hp (by omega) x) (Nat.le_of_ble_eq_true rfl) (by omega) ?_
      first | refine tk_jf_eqB dX11_tellOpenly_25 (fun h25 => ?_) (fun h25 => ?_) | refine tk_if_eq dX11_tellOpenly_25 (fun h25 => ?_) (fun h25 => ?_)
      · refine tk_lconst dX11_tellOpenly_35 (v := 0) (by decide) ?_
        refine tk_lor dX11_tellOpenly_36 ?_
        refine tk_lstore5 dX11_tellOpenly_37 rfl ?_
        first | refine tk_iinc7 dX11_tellOpenly_39 (kc_inc _) rfl ?_ | refine tk_iinc7 dX11_tellOpenly_39 rfl rfl ?_
        refine tk_goto dX11_tellOpenly_42 ?_
        refine kk _ ?_
        first | rw [mk_t (f := fun w => rKw (L 66) W p w x) h25] | rw [mk_f (f := fun w => rKw (L 66) W p w x) h25, or0]
        exact (by repeat' (first | exact trivial | refine ⟨Or.inl rfl, ?_⟩ | refine ⟨Or.inr rfl, ?_⟩))
      · refine tk_lconst dX11_tellOpenly_28 (v := 1) (by decide) ?_
        refine tk_iload7 dX11_tellOpenly_29 ?_
        refine tk_lshl dX11_tellOpenly_31 ?_
        refine tk_goto dX11_tellOpenly_32 ?_
        refine tk_lor dX11_tellOpenly_36 ?_
        refine tk_lstore5 dX11_tellOpenly_37 rfl ?_
        first | refine tk_iinc7 dX11_tellOpenly_39 (kc_inc _) rfl ?_ | refine tk_iinc7 dX11_tellOpenly_39 rfl rfl ?_
        refine tk_goto dX11_tellOpenly_42 ?_
        refine kk _ ?_
        first | rw [mk_t (f := fun w => rKw (L 66) W p w x) h25] | rw [mk_f (f := fun w => rKw (L 66) W p w x) h25, or0]
        exact (by repeat' (first | exact trivial | refine ⟨Or.inl rfl, ?_⟩ | refine ⟨Or.inr rfl, ?_⟩))
end REFCM
