/-! ===== the reference: undo, begin, and calls that look at little ===== -/
def rUn (I : Nat → Nat → Int32) (m : Nat) : Nat → Nat → Int32 := va_up (rBack I (3000 * m)) 40 (va_up (va_up (I 40) 20 (nI m)) 25 (nI (3000 * m + 2973)))
def rC0 (f : Nat → Int32) (w p : Nat) : Nat → Int32 := fun j => if j < 256 ∧ (j % 64 < w ∨ (j % 64 = w ∧ j / 64 < p)) then nI 0 else f j
theorem rC0_0 (f : Nat → Int32) : rC0 f 0 0 = f := by
  funext j
  unfold rC0
  rw [if_neg (by omega)]
theorem rC0_s (f : Nat → Int32) {w p : Nat} (hw : w < 64) (hp : p < 4) : va_up (rC0 f w p) (64 * p + w) (nI 0) = rC0 f w (p + 1) := by
  funext j
  unfold rC0 va_up
  by_cases h : j = 64 * p + w
  · rw [if_pos h, if_pos (by omega)]
  · rw [if_neg h]
    by_cases h2 : j < 256 ∧ (j % 64 < w ∨ (j % 64 = w ∧ j / 64 < p))
    · show (if _ then _ else _) = _; rw [if_pos h2, if_pos (by omega)]
    · show (if _ then _ else _) = _; rw [if_neg h2, if_neg (by omega)]
theorem rC0_n (f : Nat → Int32) (w : Nat) : rC0 f w 4 = rC0 f (w + 1) 0 := by
  funext j
  unfold rC0
  by_cases h : j < 256 ∧ (j % 64 < w ∨ (j % 64 = w ∧ j / 64 < 4))
  · rw [if_pos h, if_pos (by omega)]
  · rw [if_neg h, if_neg (by omega)]
def rAl7 (f : Nat → Int32) (nn mm ww rr : Int32) : Nat → Int32 := va_up (va_up (va_up (va_up (va_up (va_up (va_up f 0 nn) 1 mm) 2 ww) 3 rr) 4 (nI 0)) 5 (nI 0)) 6 (nI 0)
def rBeg (I : Nat → Nat → Int32) (nn mm rr : Int32) (W : Nat) : Nat → Nat → Int32 := va_up (va_up (va_up (va_up (va_up I 41 (rAl7 (I 41) nn mm (nI W) rr)) 42 (tkcp (I 42) nI W)) 43 (rC0 (I 43) W 0)) 44 (tkcp (I 44) (fun _ => nI 0) 4)) 46 (tkcp (I 46) (fun _ => nI 0) 4)
theorem kshl1 {m : Nat} (h : m ≤ 4) : kshl (nI 1) (nI m) = nI (2 ^ m) := by
  rcases (show m = 0 ∨ m = 1 ∨ m = 2 ∨ m = 3 ∨ m = 4 by omega) with rfl | rfl | rfl | rfl | rfl <;> decide +kernel
section REFD
variable {G : tkG} {n : Nat} {T : Nat → Nat × Nat} {I : Nat → Nat → Int32} {L : Nat → Nat → Int64} {P : Nat → Nat → Option Nat}
theorem r_undo0 (hR : tkRef T P) (hk : I 40 20 = nI 0) : tkM G mX11_undo 2 0 0 [vR 40] (n, T, I, L, P) (tkF (some (vI (-100006))) (n, T, rFnd I, L, P)) := by
  refine tkM.of (ls := [some _]) (by decide +kernel) (by decide +kernel) (Nat.le_of_ble_eq_true rfl) rfl ?_
  refine tk_aload0 dX11_undo_0 ?_
  refine tk_getI dX11_undo_1 fX11_170 rfl hR.o ?_
  rw [hk]
  first | refine tk_jf_neB dX11_undo_4 (fun h4 => ?_) (fun h4 => ?_) | refine tk_if_ne dX11_undo_4 (fun h4 => ?_) (fun h4 => ?_)
  · exact absurd rfl h4
  · refine tk_aload0 dX11_undo_7 ?_
    refine tk_ldc dX11_undo_8 klX11_178 ?_
    refine tk_callV1z dX11_undo_10 kX11_179 hR.o (r_finding hR _) (Nat.le_of_ble_eq_true rfl) (by omega) ?_
    refine tk_ireturn dX11_undo_13 rfl ?_
    exact ⟨rfl, rfl⟩
theorem r_undo (hR : tkRef T P) {m : Nat} (hm : m < 12) (hk : I 40 20 = nI (m + 1)) : tkM G mX11_undo 2 0 0 [vR 40] (n, T, I, L, P) (tkF (some (vI (nI m))) (n, T, rUn I m, L, P)) := by
  refine tkM.of (ls := [some _]) (by decide +kernel) (by decide +kernel) (Nat.le_of_ble_eq_true rfl) rfl ?_
  refine tk_aload0 dX11_undo_0 ?_
  refine tk_getI dX11_undo_1 fX11_170 rfl hR.o ?_
  rw [hk]
  first | refine tk_jf_neB dX11_undo_4 (fun h4 => ?_) (fun h4 => ?_) | refine tk_if_ne dX11_undo_4 (fun h4 => ?_) (fun h4 => ?_)
  · refine tk_aload0 dX11_undo_14 ?_
    refine tk_dup dX11_undo_15 rfl ?_
    refine tk_getI dX11_undo_16 fX11_170 rfl hR.o ?_
    rw [hk]
    refine tk_iconst dX11_undo_19 kc_iconst_1 ?_
    first | refine tk_isubN dX11_undo_20 (by omega) ?_ | refine tk_isub dX11_undo_20 ?_
    refine tk_putI dX11_undo_21 fX11_170 wX11_undo_X11_20 rfl hR.o ?_
    refine tk_aload0 dX11_undo_24 ?_
    refine tk_aload0 dX11_undo_25 ?_
    refine tk_getI dX11_undo_26 fX11_170 rfl hR.o ?_
    simp only [va_up_self, bx_uu, tk_une, tk_usrt, not_false_eq_true, Nat.reduceEqDiff, Nat.reduceLT, Nat.reduceAdd, Nat.reduceMul, Nat.reduceLeDiff, reduceCtorEq, Nat.add_sub_cancel]
    refine tk_iconst dX11_undo_29 kc_iconst_0 ?_
    refine tk_callV2y dX11_undo_30 kX11_174 hR.o (r_keepsAllO hR (by omega)) (Nat.le_of_ble_eq_true rfl) (by omega) ?_
    refine tk_aload0 dX11_undo_33 ?_
    refine tk_getI dX11_undo_34 fX11_170 rfl hR.o ?_
    refine tk_ireturn dX11_undo_37 rfl ?_
    unfold rUn rBack
    simp only [va_up_self, bx_uu, tk_une, tk_usrt, not_false_eq_true, Nat.reduceEqDiff, Nat.reduceLT, Nat.reduceAdd, Nat.reduceMul, Nat.reduceLeDiff, reduceCtorEq]
    exact ⟨rfl, rfl⟩
  · exact absurd h4 (nI_ne0 (by omega) (by omega))
theorem tk_upn (k : Nat) {f : Nat → Nat → Int32} {a : Nat} {x : Nat → Int32} (h : ¬ k = a) : va_up (va_up f a x) k (f k) = va_up f a x := by
  funext j
  unfold va_up
  by_cases h1 : j = k
  · subst h1; rw [if_pos rfl, if_neg h]
  · rw [if_neg h1]
theorem r_begins (hR : tkRef T P) {m : Nat} (nn rr : Int32) (hm : m ≤ 4) : tkM G mX11_begins 0 0 0 [vR 40, vI nn, vI (nI m), vI rr] (n, T, I, L, P) (tkF none (n, T, rBeg I nn (nI m) rr (2 ^ m), L, P)) := by
  have hW := kshl1 hm
  have hW2 : 2 ^ m ≤ 16 := by rcases (show m = 0 ∨ m = 1 ∨ m = 2 ∨ m = 3 ∨ m = 4 by omega) with rfl | rfl | rfl | rfl | rfl <;> decide
  generalize 2 ^ m = W at hW hW2
  refine tkM.of (ls := [some _, some _, some _, some _, none, none]) (by decide +kernel) (by decide +kernel) (Nat.le_of_ble_eq_true rfl) rfl ?_
  refine tk_aload0 dX11_begins_0 ?_
  refine tk_getP dX11_begins_1 fX11_7 rfl hR.o (hR.p 0 rfl) ?_
  refine tk_iconst dX11_begins_4 kc_iconst_0 ?_
  refine tk_iload1 dX11_begins_5 ?_
  refine tk_iast dX11_begins_6 (hR.t 41 rfl) (by omega) (by omega) ?_
  refine tk_aload0 dX11_begins_7 ?_
  refine tk_getP dX11_begins_8 fX11_7 rfl hR.o (hR.p 0 rfl) ?_
  refine tk_iconst dX11_begins_11 kc_iconst_1 ?_
  refine tk_iload2 dX11_begins_12 ?_
  refine tk_iast dX11_begins_13 (hR.t 41 rfl) (by omega) (by omega) ?_
  refine tk_aload0 dX11_begins_14 ?_
  refine tk_getP dX11_begins_15 fX11_7 rfl hR.o (hR.p 0 rfl) ?_
  refine tk_iconst dX11_begins_18 kc_iconst_2 ?_
  refine tk_iconst dX11_begins_19 kc_iconst_1 ?_
  refine tk_iload2 dX11_begins_20 ?_
  refine tk_ishl dX11_begins_21 ?_
  simp only [hW]
  refine tk_iast dX11_begins_22 (hR.t 41 rfl) (by omega) (by omega) ?_
  refine tk_aload0 dX11_begins_23 ?_
  refine tk_getP dX11_begins_24 fX11_7 rfl hR.o (hR.p 0 rfl) ?_
  refine tk_iconst dX11_begins_27 kc_iconst_3 ?_
  refine tk_iload3 dX11_begins_28 ?_
  refine tk_iast dX11_begins_29 (hR.t 41 rfl) (by omega) (by omega) ?_
  refine tk_aload0 dX11_begins_30 ?_
  refine tk_getP dX11_begins_31 fX11_7 rfl hR.o (hR.p 0 rfl) ?_
  refine tk_iconst dX11_begins_34 kc_iconst_4 ?_
  refine tk_iconst dX11_begins_35 kc_iconst_0 ?_
  refine tk_iast dX11_begins_36 (hR.t 41 rfl) (by omega) (by omega) ?_
  refine tk_aload0 dX11_begins_37 ?_
  refine tk_getP dX11_begins_38 fX11_7 rfl hR.o (hR.p 0 rfl) ?_
  refine tk_iconst dX11_begins_41 kc_iconst_5 ?_
  refine tk_iconst dX11_begins_42 kc_iconst_0 ?_
  refine tk_iast dX11_begins_43 (hR.t 41 rfl) (by omega) (by omega) ?_
  refine tk_aload0 dX11_begins_44 ?_
  refine tk_getP dX11_begins_45 fX11_7 rfl hR.o (hR.p 0 rfl) ?_
  refine tk_bipush dX11_begins_48 kc_bipush_6 ?_
  refine tk_iconst dX11_begins_50 kc_iconst_0 ?_
  refine tk_iast dX11_begins_51 (hR.t 41 rfl) (by omega) (by omega) ?_
  refine tk_iconst dX11_begins_52 kc_iconst_0 ?_
  refine tk_istore4 dX11_begins_53 rfl ?_
  refine tk_fr 0 W (fun i => [some (vR 40), some (vI nn), some (vI (nI m)), some (vI rr), some (vI (nI i)), none]) (fun i => (n, T, va_up (va_up (va_up I 41 (rAl7 (I 41) nn (nI m) (nI W) rr)) 42 (tkcp (I 42) nI i)) 43 (rC0 (I 43) i 0), L, P)) (by omega) (by repeat' (first | exact trivial | refine ⟨Or.inl rfl, ?_⟩ | refine ⟨Or.inr rfl, ?_⟩)) (by simp only [va_up_self, bx_uu, tk_une, tk_usrt, not_false_eq_true, Nat.reduceEqDiff, Nat.reduceLT, Nat.reduceAdd, Nat.reduceMul, Nat.reduceLeDiff, reduceCtorEq, rC0_0, tkcp_0, tk_upn 42, tk_upn 43, rAl7]) ?_ ?_
  · refine tk_iload4 dX11_begins_55 ?_
    refine tk_iconst dX11_begins_57 kc_iconst_1 ?_
    refine tk_iload2 dX11_begins_58 ?_
    refine tk_ishl dX11_begins_59 ?_
    rw [hW]
    first | refine tk_icmp_geN dX11_begins_60 (by omega) (by omega) (fun h60 => ?_) (fun h60 => ?_) | refine tk_jcmp_ge dX11_begins_60 (fun h60 => ?_) (fun h60 => ?_)
    · refine tk_iconst dX11_begins_107 kc_iconst_0 ?_
      refine tk_istore4 dX11_begins_108 rfl ?_
      refine tk_fr 0 4 (fun i => [some (vR 40), some (vI nn), some (vI (nI m)), some (vI rr), some (vI (nI i)), none]) (fun i => (n, T, va_up (va_up (va_up (va_up (va_up I 41 (rAl7 (I 41) nn (nI m) (nI W) rr)) 42 (tkcp (I 42) nI W)) 43 (rC0 (I 43) W 0)) 44 (tkcp (I 44) (fun _ => nI 0) i)) 46 (tkcp (I 46) (fun _ => nI 0) i), L, P)) (by omega) (by repeat' (first | exact trivial | refine ⟨Or.inl rfl, ?_⟩ | refine ⟨Or.inr rfl, ?_⟩)) (by simp only [tkcp_0]; rw [tk_uid (k := 44), tk_uid (k := 46)] <;> simp only [va_up_self, bx_uu, tk_une, tk_usrt, not_false_eq_true, Nat.reduceEqDiff, Nat.reduceLT, Nat.reduceAdd, Nat.reduceMul, Nat.reduceLeDiff, reduceCtorEq]) ?_ ?_
      · refine tk_iload4 dX11_begins_110 ?_
        refine tk_iconst dX11_begins_112 kc_iconst_4 ?_
        first | refine tk_icmp_geN dX11_begins_113 (by omega) (by omega) (fun h113 => ?_) (fun h113 => ?_) | refine tk_jcmp_ge dX11_begins_113 (fun h113 => ?_) (fun h113 => ?_)
        · refine tk_return dX11_begins_138 rfl ?_
          exact ⟨rfl, rfl⟩
        · exfalso; omega
      · intro i _ hi k
        refine tk_iload4 dX11_begins_110 ?_
        refine tk_iconst dX11_begins_112 kc_iconst_4 ?_
        first | refine tk_icmp_geN dX11_begins_113 (by omega) (by omega) (fun h113 => ?_) (fun h113 => ?_) | refine tk_jcmp_ge dX11_begins_113 (fun h113 => ?_) (fun h113 => ?_)
        · exfalso; omega
        · refine tk_aload0 dX11_begins_116 ?_
          refine tk_getP dX11_begins_117 fX11_19 rfl hR.o (hR.p 3 rfl) ?_
          refine tk_iload4 dX11_begins_120 ?_
          refine tk_iconst dX11_begins_122 kc_iconst_0 ?_
          refine tk_iast dX11_begins_123 (hR.t 44 rfl) (by omega) (by omega) ?_
          refine tk_aload0 dX11_begins_124 ?_
          refine tk_getP dX11_begins_125 fX11_25 rfl hR.o (hR.p 5 rfl) ?_
          refine tk_iload4 dX11_begins_128 ?_
          refine tk_iconst dX11_begins_130 kc_iconst_0 ?_
          refine tk_iast dX11_begins_131 (hR.t 46 rfl) (by omega) (by omega) ?_
          first | refine tk_iinc4 dX11_begins_132 (kc_inc _) rfl ?_ | refine tk_iinc4 dX11_begins_132 rfl rfl ?_
          refine tk_goto dX11_begins_135 ?_
          simp only [va_up_self, bx_uu, tk_une, tk_usrt, not_false_eq_true, Nat.reduceEqDiff, Nat.reduceLT, Nat.reduceAdd, Nat.reduceMul, Nat.reduceLeDiff, reduceCtorEq]
          rw [tkcp_s (I 44) (fun _ => nI 0), tkcp_s (I 46) (fun _ => nI 0)]
          exact k _ (by repeat' (first | exact trivial | refine ⟨Or.inl rfl, ?_⟩ | refine ⟨Or.inr rfl, ?_⟩))
    · exfalso; omega
  · intro i _ hi k
    refine tk_iload4 dX11_begins_55 ?_
    refine tk_iconst dX11_begins_57 kc_iconst_1 ?_
    refine tk_iload2 dX11_begins_58 ?_
    refine tk_ishl dX11_begins_59 ?_
    rw [hW]
    first | refine tk_icmp_geN dX11_begins_60 (by omega) (by omega) (fun h60 => ?_) (fun h60 => ?_) | refine tk_jcmp_ge dX11_begins_60 (fun h60 => ?_) (fun h60 => ?_)
    · exfalso; omega
    · refine tk_aload0 dX11_begins_63 ?_
      refine tk_getP dX11_begins_64 fX11_13 rfl hR.o (hR.p 1 rfl) ?_
      refine tk_iload4 dX11_begins_67 ?_
      refine tk_iload4 dX11_begins_69 ?_
      refine tk_iast dX11_begins_71 (hR.t 42 rfl) (by omega) (by omega) ?_
      refine tk_iconst dX11_begins_72 kc_iconst_0 ?_
      refine tk_istore5 dX11_begins_73 rfl ?_
      simp only [va_up_self, bx_uu, tk_une, tk_usrt, not_false_eq_true, Nat.reduceEqDiff, Nat.reduceLT, Nat.reduceAdd, Nat.reduceMul, Nat.reduceLeDiff, reduceCtorEq]
      refine tk_fr 0 4 (fun p => [some (vR 40), some (vI nn), some (vI (nI m)), some (vI rr), some (vI (nI i)), some (vI (nI p))]) (fun p => (n, T, va_up (va_up (va_up I 41 (rAl7 (I 41) nn (nI m) (nI W) rr)) 42 (tkcp (I 42) nI (i + 1))) 43 (rC0 (I 43) i p), L, P)) (by omega) (by repeat' (first | exact trivial | refine ⟨Or.inl rfl, ?_⟩ | refine ⟨Or.inr rfl, ?_⟩)) (by rw [tkcp_s]) ?_ ?_
      · refine tk_iload5 dX11_begins_75 ?_
        refine tk_iconst dX11_begins_77 kc_iconst_4 ?_
        first | refine tk_icmp_geN dX11_begins_78 (by omega) (by omega) (fun h78 => ?_) (fun h78 => ?_) | refine tk_jcmp_ge dX11_begins_78 (fun h78 => ?_) (fun h78 => ?_)
        · first | refine tk_iinc4 dX11_begins_101 (kc_inc _) rfl ?_ | refine tk_iinc4 dX11_begins_101 rfl rfl ?_
          refine tk_goto dX11_begins_104 ?_
          rw [rC0_n]
          exact k _ (by repeat' (first | exact trivial | refine ⟨Or.inl rfl, ?_⟩ | refine ⟨Or.inr rfl, ?_⟩))
        · exfalso; omega
      · intro p _ hp k
        refine tk_iload5 dX11_begins_75 ?_
        refine tk_iconst dX11_begins_77 kc_iconst_4 ?_
        first | refine tk_icmp_geN dX11_begins_78 (by omega) (by omega) (fun h78 => ?_) (fun h78 => ?_) | refine tk_jcmp_ge dX11_begins_78 (fun h78 => ?_) (fun h78 => ?_)
        · exfalso; omega
        · refine tk_aload0 dX11_begins_81 ?_
          refine tk_getP dX11_begins_82 fX11_16 rfl hR.o (hR.p 2 rfl) ?_
          refine tk_bipush dX11_begins_85 kc_bipush_64 ?_
          refine tk_iload5 dX11_begins_87 ?_
          first | refine tk_imulN dX11_begins_89 ?_ | refine tk_imul dX11_begins_89 ?_
          refine tk_iload4 dX11_begins_90 ?_
          first | refine tk_iaddN dX11_begins_92 ?_ | refine tk_iadd dX11_begins_92 ?_
          refine tk_iconst dX11_begins_93 kc_iconst_0 ?_
          refine tk_iast dX11_begins_94 (hR.t 43 rfl) (by omega) (by omega) ?_
          first | refine tk_iinc5 dX11_begins_95 (kc_inc _) rfl ?_ | refine tk_iinc5 dX11_begins_95 rfl rfl ?_
          refine tk_goto dX11_begins_98 ?_
          simp only [va_up_self, bx_uu, tk_une, tk_usrt, not_false_eq_true, Nat.reduceEqDiff, Nat.reduceLT, Nat.reduceAdd, Nat.reduceMul, Nat.reduceLeDiff, reduceCtorEq]
          rw [rC0_s _ (by omega) hp]
          exact k _ (by repeat' (first | exact trivial | refine ⟨Or.inl rfl, ?_⟩ | refine ⟨Or.inr rfl, ?_⟩))
end REFD
