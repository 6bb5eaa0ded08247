/-! ===== the reference: what is kept, the town's beginning, plain calls ===== -/
def rSnap (A : Nat → Nat → Int32) (f : Nat → Int32) (b : Nat) : Nat → Int32 := (tkco (tkco (tkco (tkco (tkco (tkco (tkco (tkco (tkco (tkco (tkco (tkco (tkco (tkco (tkco (tkco (tkco (tkco (tkco f (A 41) b 7) (A 42) (b + 7) 64) (A 43) (b + 71) 256) (A 44) (b + 327) 4) (A 45) (b + 331) 3) (A 46) (b + 334) 4) (A 47) (b + 338) 84) (A 48) (b + 422) 6) (A 49) (b + 428) 70) (A 50) (b + 498) 5) (A 51) (b + 503) 56) (A 52) (b + 559) 4) (A 53) (b + 563) 4) (A 54) (b + 567) 18) (A 55) (b + 585) 384) (A 56) (b + 969) 1536) (A 57) (b + 2505) 420) (A 58) (b + 2925) 30) (A 59) (b + 2955) 18)
def rBack (I : Nat → Nat → Int32) (b : Nat) : Nat → Nat → Int32 := (va_up (va_up (va_up (va_up (va_up (va_up (va_up (va_up (va_up (va_up (va_up (va_up (va_up (va_up (va_up (va_up (va_up (va_up (va_up I 41 (tkcp (I 41) (fun j => I 60 (b + j)) 7)) 42 (tkcp (I 42) (fun j => I 60 ((b + 7) + j)) 64)) 43 (tkcp (I 43) (fun j => I 60 ((b + 71) + j)) 256)) 44 (tkcp (I 44) (fun j => I 60 ((b + 327) + j)) 4)) 45 (tkcp (I 45) (fun j => I 60 ((b + 331) + j)) 3)) 46 (tkcp (I 46) (fun j => I 60 ((b + 334) + j)) 4)) 47 (tkcp (I 47) (fun j => I 60 ((b + 338) + j)) 84)) 48 (tkcp (I 48) (fun j => I 60 ((b + 422) + j)) 6)) 49 (tkcp (I 49) (fun j => I 60 ((b + 428) + j)) 70)) 50 (tkcp (I 50) (fun j => I 60 ((b + 498) + j)) 5)) 51 (tkcp (I 51) (fun j => I 60 ((b + 503) + j)) 56)) 52 (tkcp (I 52) (fun j => I 60 ((b + 559) + j)) 4)) 53 (tkcp (I 53) (fun j => I 60 ((b + 563) + j)) 4)) 54 (tkcp (I 54) (fun j => I 60 ((b + 567) + j)) 18)) 55 (tkcp (I 55) (fun j => I 60 ((b + 585) + j)) 384)) 56 (tkcp (I 56) (fun j => I 60 ((b + 969) + j)) 1536)) 57 (tkcp (I 57) (fun j => I 60 ((b + 2505) + j)) 420)) 58 (tkcp (I 58) (fun j => I 60 ((b + 2925) + j)) 30)) 59 (tkcp (I 59) (fun j => I 60 ((b + 2955) + j)) 18))
def rFnd (I : Nat → Nat → Int32) : Nat → Nat → Int32 := va_up I 40 (va_up (I 40) 24 (I 40 24 + 1))
def rShf (f : Nat → Int32) : Nat → Int32 := tkcp f (fun k => f (k + 3000)) 33000
/-- behind keep: m snapshots were there -/
def rKp (I : Nat → Nat → Int32) (m : Nat) : Nat → Nat → Int32 := if m = 12 then va_up (va_up I 40 (va_up (va_up (I 40) 20 (nI 12)) 25 (nI 35973))) 60 (rSnap I (rShf (I 60)) 33000) else va_up (va_up I 40 (va_up (va_up (I 40) 20 (nI (m + 1))) 25 (nI (3000 * m + 2973)))) 60 (rSnap I (I 60) (3000 * m))
theorem rSnap_40 (A : Nat → Nat → Int32) (x f : Nat → Int32) (b : Nat) : rSnap (va_up A 40 x) f b = rSnap A f b := by simp only [rSnap, va_up_self, bx_uu, tk_une, tk_usrt, not_false_eq_true, Nat.reduceEqDiff, Nat.reduceLT, Nat.reduceAdd, Nat.reduceMul, Nat.reduceLeDiff, reduceCtorEq]
theorem rSnap_60 (A : Nat → Nat → Int32) (x f : Nat → Int32) (b : Nat) : rSnap (va_up A 60 x) f b = rSnap A f b := by simp only [rSnap, va_up_self, bx_uu, tk_une, tk_usrt, not_false_eq_true, Nat.reduceEqDiff, Nat.reduceLT, Nat.reduceAdd, Nat.reduceMul, Nat.reduceLeDiff, reduceCtorEq]
section REFC
variable {G : tkG} {n : Nat} {T : Nat → Nat × Nat} {I : Nat → Nat → Int32} {L : Nat → Nat → Int64} {P : Nat → Nat → Option Nat}
set_option maxRecDepth 4000 in
theorem r_keepsAllI (hR : tkRef T P) {p : Nat} (hp : p < 12) : tkM G mX11_keepsAll 1 0 0 [vR 40, vI (nI p), vI (nI 1)] (n, T, I, L, P) (tkF none (n, T, va_up (va_up I 40 (va_up (I 40) 25 (nI (3000 * p + 2973)))) 60 (rSnap I (I 60) (3000 * p)), L, P)) := by
  refine tkM.of (ls := [some _, some _, some _]) (by decide +kernel) (by decide +kernel) (Nat.le_of_ble_eq_true rfl) rfl ?_
  refine tk_aload0 dX11_keepsAll_0 ?_
  refine tk_sipush dX11_keepsAll_1 kc_sipush_3000 ?_
  refine tk_iload1 dX11_keepsAll_4 ?_
  first | refine tk_imulN dX11_keepsAll_5 ?_ | refine tk_imul dX11_keepsAll_5 ?_
  refine tk_putI dX11_keepsAll_6 fX11_163 wX11_keepsAll_X11_25 rfl hR.o ?_
  refine tk_aload0 dX11_keepsAll_9 ?_
  refine tk_aload0 dX11_keepsAll_10 ?_
  refine tk_getP dX11_keepsAll_11 fX11_7 rfl hR.o (hR.p 0 rfl) ?_
  refine tk_iload2 dX11_keepsAll_14 ?_
  refine tk_callV2y dX11_keepsAll_15 kX11_166 hR.o (r_keepsI (q := 3000 * p) hR (hR.t 41 rfl) ⟨by decide, by decide⟩ (by simp only [va_up_self, bx_uu, tk_une, tk_usrt, not_false_eq_true, Nat.reduceEqDiff, Nat.reduceLT, Nat.reduceAdd, Nat.reduceMul, Nat.reduceLeDiff, reduceCtorEq]) (by omega)) (Nat.le_of_ble_eq_true rfl) (by omega) ?_
  simp only [va_up_self, bx_uu, tk_une, tk_usrt, not_false_eq_true, Nat.reduceEqDiff, Nat.reduceLT, Nat.reduceAdd, Nat.reduceMul, Nat.reduceLeDiff, reduceCtorEq, Nat.add_assoc]
  refine tk_aload0 dX11_keepsAll_18 ?_
  refine tk_aload0 dX11_keepsAll_19 ?_
  refine tk_getP dX11_keepsAll_20 fX11_13 rfl hR.o (hR.p 1 rfl) ?_
  refine tk_iload2 dX11_keepsAll_23 ?_
  refine tk_callV2y dX11_keepsAll_24 kX11_166 hR.o (r_keepsI (q := 3000 * p + 7) hR (hR.t 42 rfl) ⟨by decide, by decide⟩ (by simp only [va_up_self, bx_uu, tk_une, tk_usrt, not_false_eq_true, Nat.reduceEqDiff, Nat.reduceLT, Nat.reduceAdd, Nat.reduceMul, Nat.reduceLeDiff, reduceCtorEq]) (by omega)) (Nat.le_of_ble_eq_true rfl) (by omega) ?_
  simp only [va_up_self, bx_uu, tk_une, tk_usrt, not_false_eq_true, Nat.reduceEqDiff, Nat.reduceLT, Nat.reduceAdd, Nat.reduceMul, Nat.reduceLeDiff, reduceCtorEq, Nat.add_assoc]
  refine tk_aload0 dX11_keepsAll_27 ?_
  refine tk_aload0 dX11_keepsAll_28 ?_
  refine tk_getP dX11_keepsAll_29 fX11_16 rfl hR.o (hR.p 2 rfl) ?_
  refine tk_iload2 dX11_keepsAll_32 ?_
  refine tk_callV2y dX11_keepsAll_33 kX11_166 hR.o (r_keepsI (q := 3000 * p + 71) hR (hR.t 43 rfl) ⟨by decide, by decide⟩ (by simp only [va_up_self, bx_uu, tk_une, tk_usrt, not_false_eq_true, Nat.reduceEqDiff, Nat.reduceLT, Nat.reduceAdd, Nat.reduceMul, Nat.reduceLeDiff, reduceCtorEq]) (by omega)) (Nat.le_of_ble_eq_true rfl) (by omega) ?_
  simp only [va_up_self, bx_uu, tk_une, tk_usrt, not_false_eq_true, Nat.reduceEqDiff, Nat.reduceLT, Nat.reduceAdd, Nat.reduceMul, Nat.reduceLeDiff, reduceCtorEq, Nat.add_assoc]
  refine tk_aload0 dX11_keepsAll_36 ?_
  refine tk_aload0 dX11_keepsAll_37 ?_
  refine tk_getP dX11_keepsAll_38 fX11_19 rfl hR.o (hR.p 3 rfl) ?_
  refine tk_iload2 dX11_keepsAll_41 ?_
  refine tk_callV2y dX11_keepsAll_42 kX11_166 hR.o (r_keepsI (q := 3000 * p + 327) hR (hR.t 44 rfl) ⟨by decide, by decide⟩ (by simp only [va_up_self, bx_uu, tk_une, tk_usrt, not_false_eq_true, Nat.reduceEqDiff, Nat.reduceLT, Nat.reduceAdd, Nat.reduceMul, Nat.reduceLeDiff, reduceCtorEq]) (by omega)) (Nat.le_of_ble_eq_true rfl) (by omega) ?_
  simp only [va_up_self, bx_uu, tk_une, tk_usrt, not_false_eq_true, Nat.reduceEqDiff, Nat.reduceLT, Nat.reduceAdd, Nat.reduceMul, Nat.reduceLeDiff, reduceCtorEq, Nat.add_assoc]
  refine tk_aload0 dX11_keepsAll_45 ?_
  refine tk_aload0 dX11_keepsAll_46 ?_
  refine tk_getP dX11_keepsAll_47 fX11_22 rfl hR.o (hR.p 4 rfl) ?_
  refine tk_iload2 dX11_keepsAll_50 ?_
  refine tk_callV2y dX11_keepsAll_51 kX11_166 hR.o (r_keepsI (q := 3000 * p + 331) hR (hR.t 45 rfl) ⟨by decide, by decide⟩ (by simp only [va_up_self, bx_uu, tk_une, tk_usrt, not_false_eq_true, Nat.reduceEqDiff, Nat.reduceLT, Nat.reduceAdd, Nat.reduceMul, Nat.reduceLeDiff, reduceCtorEq]) (by omega)) (Nat.le_of_ble_eq_true rfl) (by omega) ?_
  simp only [va_up_self, bx_uu, tk_une, tk_usrt, not_false_eq_true, Nat.reduceEqDiff, Nat.reduceLT, Nat.reduceAdd, Nat.reduceMul, Nat.reduceLeDiff, reduceCtorEq, Nat.add_assoc]
  refine tk_aload0 dX11_keepsAll_54 ?_
  refine tk_aload0 dX11_keepsAll_55 ?_
  refine tk_getP dX11_keepsAll_56 fX11_25 rfl hR.o (hR.p 5 rfl) ?_
  refine tk_iload2 dX11_keepsAll_59 ?_
  refine tk_callV2y dX11_keepsAll_60 kX11_166 hR.o (r_keepsI (q := 3000 * p + 334) hR (hR.t 46 rfl) ⟨by decide, by decide⟩ (by simp only [va_up_self, bx_uu, tk_une, tk_usrt, not_false_eq_true, Nat.reduceEqDiff, Nat.reduceLT, Nat.reduceAdd, Nat.reduceMul, Nat.reduceLeDiff, reduceCtorEq]) (by omega)) (Nat.le_of_ble_eq_true rfl) (by omega) ?_
  simp only [va_up_self, bx_uu, tk_une, tk_usrt, not_false_eq_true, Nat.reduceEqDiff, Nat.reduceLT, Nat.reduceAdd, Nat.reduceMul, Nat.reduceLeDiff, reduceCtorEq, Nat.add_assoc]
  refine tk_aload0 dX11_keepsAll_63 ?_
  refine tk_aload0 dX11_keepsAll_64 ?_
  refine tk_getP dX11_keepsAll_65 fX11_28 rfl hR.o (hR.p 6 rfl) ?_
  refine tk_iload2 dX11_keepsAll_68 ?_
  refine tk_callV2y dX11_keepsAll_69 kX11_166 hR.o (r_keepsI (q := 3000 * p + 338) hR (hR.t 47 rfl) ⟨by decide, by decide⟩ (by simp only [va_up_self, bx_uu, tk_une, tk_usrt, not_false_eq_true, Nat.reduceEqDiff, Nat.reduceLT, Nat.reduceAdd, Nat.reduceMul, Nat.reduceLeDiff, reduceCtorEq]) (by omega)) (Nat.le_of_ble_eq_true rfl) (by omega) ?_
  simp only [va_up_self, bx_uu, tk_une, tk_usrt, not_false_eq_true, Nat.reduceEqDiff, Nat.reduceLT, Nat.reduceAdd, Nat.reduceMul, Nat.reduceLeDiff, reduceCtorEq, Nat.add_assoc]
  refine tk_aload0 dX11_keepsAll_72 ?_
  refine tk_aload0 dX11_keepsAll_73 ?_
  refine tk_getP dX11_keepsAll_74 fX11_31 rfl hR.o (hR.p 7 rfl) ?_
  refine tk_iload2 dX11_keepsAll_77 ?_
  refine tk_callV2y dX11_keepsAll_78 kX11_166 hR.o (r_keepsI (q := 3000 * p + 422) hR (hR.t 48 rfl) ⟨by decide, by decide⟩ (by simp only [va_up_self, bx_uu, tk_une, tk_usrt, not_false_eq_true, Nat.reduceEqDiff, Nat.reduceLT, Nat.reduceAdd, Nat.reduceMul, Nat.reduceLeDiff, reduceCtorEq]) (by omega)) (Nat.le_of_ble_eq_true rfl) (by omega) ?_
  simp only [va_up_self, bx_uu, tk_une, tk_usrt, not_false_eq_true, Nat.reduceEqDiff, Nat.reduceLT, Nat.reduceAdd, Nat.reduceMul, Nat.reduceLeDiff, reduceCtorEq, Nat.add_assoc]
  refine tk_aload0 dX11_keepsAll_81 ?_
  refine tk_aload0 dX11_keepsAll_82 ?_
  refine tk_getP dX11_keepsAll_83 fX11_34 rfl hR.o (hR.p 8 rfl) ?_
  refine tk_iload2 dX11_keepsAll_86 ?_
  refine tk_callV2y dX11_keepsAll_87 kX11_166 hR.o (r_keepsI (q := 3000 * p + 428) hR (hR.t 49 rfl) ⟨by decide, by decide⟩ (by simp only [va_up_self, bx_uu, tk_une, tk_usrt, not_false_eq_true, Nat.reduceEqDiff, Nat.reduceLT, Nat.reduceAdd, Nat.reduceMul, Nat.reduceLeDiff, reduceCtorEq]) (by omega)) (Nat.le_of_ble_eq_true rfl) (by omega) ?_
  simp only [va_up_self, bx_uu, tk_une, tk_usrt, not_false_eq_true, Nat.reduceEqDiff, Nat.reduceLT, Nat.reduceAdd, Nat.reduceMul, Nat.reduceLeDiff, reduceCtorEq, Nat.add_assoc]
  refine tk_aload0 dX11_keepsAll_90 ?_
  refine tk_aload0 dX11_keepsAll_91 ?_
  refine tk_getP dX11_keepsAll_92 fX11_37 rfl hR.o (hR.p 9 rfl) ?_
  refine tk_iload2 dX11_keepsAll_95 ?_
  refine tk_callV2y dX11_keepsAll_96 kX11_166 hR.o (r_keepsI (q := 3000 * p + 498) hR (hR.t 50 rfl) ⟨by decide, by decide⟩ (by simp only [va_up_self, bx_uu, tk_une, tk_usrt, not_false_eq_true, Nat.reduceEqDiff, Nat.reduceLT, Nat.reduceAdd, Nat.reduceMul, Nat.reduceLeDiff, reduceCtorEq]) (by omega)) (Nat.le_of_ble_eq_true rfl) (by omega) ?_
  simp only [va_up_self, bx_uu, tk_une, tk_usrt, not_false_eq_true, Nat.reduceEqDiff, Nat.reduceLT, Nat.reduceAdd, Nat.reduceMul, Nat.reduceLeDiff, reduceCtorEq, Nat.add_assoc]
  refine tk_aload0 dX11_keepsAll_99 ?_
  refine tk_aload0 dX11_keepsAll_100 ?_
  refine tk_getP dX11_keepsAll_101 fX11_40 rfl hR.o (hR.p 10 rfl) ?_
  refine tk_iload2 dX11_keepsAll_104 ?_
  refine tk_callV2y dX11_keepsAll_105 kX11_166 hR.o (r_keepsI (q := 3000 * p + 503) hR (hR.t 51 rfl) ⟨by decide, by decide⟩ (by simp only [va_up_self, bx_uu, tk_une, tk_usrt, not_false_eq_true, Nat.reduceEqDiff, Nat.reduceLT, Nat.reduceAdd, Nat.reduceMul, Nat.reduceLeDiff, reduceCtorEq]) (by omega)) (Nat.le_of_ble_eq_true rfl) (by omega) ?_
  simp only [va_up_self, bx_uu, tk_une, tk_usrt, not_false_eq_true, Nat.reduceEqDiff, Nat.reduceLT, Nat.reduceAdd, Nat.reduceMul, Nat.reduceLeDiff, reduceCtorEq, Nat.add_assoc]
  refine tk_aload0 dX11_keepsAll_108 ?_
  refine tk_aload0 dX11_keepsAll_109 ?_
  refine tk_getP dX11_keepsAll_110 fX11_43 rfl hR.o (hR.p 11 rfl) ?_
  refine tk_iload2 dX11_keepsAll_113 ?_
  refine tk_callV2y dX11_keepsAll_114 kX11_166 hR.o (r_keepsI (q := 3000 * p + 559) hR (hR.t 52 rfl) ⟨by decide, by decide⟩ (by simp only [va_up_self, bx_uu, tk_une, tk_usrt, not_false_eq_true, Nat.reduceEqDiff, Nat.reduceLT, Nat.reduceAdd, Nat.reduceMul, Nat.reduceLeDiff, reduceCtorEq]) (by omega)) (Nat.le_of_ble_eq_true rfl) (by omega) ?_
  simp only [va_up_self, bx_uu, tk_une, tk_usrt, not_false_eq_true, Nat.reduceEqDiff, Nat.reduceLT, Nat.reduceAdd, Nat.reduceMul, Nat.reduceLeDiff, reduceCtorEq, Nat.add_assoc]
  refine tk_aload0 dX11_keepsAll_117 ?_
  refine tk_aload0 dX11_keepsAll_118 ?_
  refine tk_getP dX11_keepsAll_119 fX11_46 rfl hR.o (hR.p 12 rfl) ?_
  refine tk_iload2 dX11_keepsAll_122 ?_
  refine tk_callV2y dX11_keepsAll_123 kX11_166 hR.o (r_keepsI (q := 3000 * p + 563) hR (hR.t 53 rfl) ⟨by decide, by decide⟩ (by simp only [va_up_self, bx_uu, tk_une, tk_usrt, not_false_eq_true, Nat.reduceEqDiff, Nat.reduceLT, Nat.reduceAdd, Nat.reduceMul, Nat.reduceLeDiff, reduceCtorEq]) (by omega)) (Nat.le_of_ble_eq_true rfl) (by omega) ?_
  simp only [va_up_self, bx_uu, tk_une, tk_usrt, not_false_eq_true, Nat.reduceEqDiff, Nat.reduceLT, Nat.reduceAdd, Nat.reduceMul, Nat.reduceLeDiff, reduceCtorEq, Nat.add_assoc]
  refine tk_aload0 dX11_keepsAll_126 ?_
  refine tk_aload0 dX11_keepsAll_127 ?_
  refine tk_getP dX11_keepsAll_128 fX11_49 rfl hR.o (hR.p 13 rfl) ?_
  refine tk_iload2 dX11_keepsAll_131 ?_
  refine tk_callV2y dX11_keepsAll_132 kX11_166 hR.o (r_keepsI (q := 3000 * p + 567) hR (hR.t 54 rfl) ⟨by decide, by decide⟩ (by simp only [va_up_self, bx_uu, tk_une, tk_usrt, not_false_eq_true, Nat.reduceEqDiff, Nat.reduceLT, Nat.reduceAdd, Nat.reduceMul, Nat.reduceLeDiff, reduceCtorEq]) (by omega)) (Nat.le_of_ble_eq_true rfl) (by omega) ?_
  simp only [va_up_self, bx_uu, tk_une, tk_usrt, not_false_eq_true, Nat.reduceEqDiff, Nat.reduceLT, Nat.reduceAdd, Nat.reduceMul, Nat.reduceLeDiff, reduceCtorEq, Nat.add_assoc]
  refine tk_aload0 dX11_keepsAll_135 ?_
  refine tk_aload0 dX11_keepsAll_136 ?_
  refine tk_getP dX11_keepsAll_137 fX11_52 rfl hR.o (hR.p 14 rfl) ?_
  refine tk_iload2 dX11_keepsAll_140 ?_
  refine tk_callV2y dX11_keepsAll_141 kX11_166 hR.o (r_keepsI (q := 3000 * p + 585) hR (hR.t 55 rfl) ⟨by decide, by decide⟩ (by simp only [va_up_self, bx_uu, tk_une, tk_usrt, not_false_eq_true, Nat.reduceEqDiff, Nat.reduceLT, Nat.reduceAdd, Nat.reduceMul, Nat.reduceLeDiff, reduceCtorEq]) (by omega)) (Nat.le_of_ble_eq_true rfl) (by omega) ?_
  simp only [va_up_self, bx_uu, tk_une, tk_usrt, not_false_eq_true, Nat.reduceEqDiff, Nat.reduceLT, Nat.reduceAdd, Nat.reduceMul, Nat.reduceLeDiff, reduceCtorEq, Nat.add_assoc]
  refine tk_aload0 dX11_keepsAll_144 ?_
  refine tk_aload0 dX11_keepsAll_145 ?_
  refine tk_getP dX11_keepsAll_146 fX11_55 rfl hR.o (hR.p 15 rfl) ?_
  refine tk_iload2 dX11_keepsAll_149 ?_
  refine tk_callV2y dX11_keepsAll_150 kX11_166 hR.o (r_keepsI (q := 3000 * p + 969) hR (hR.t 56 rfl) ⟨by decide, by decide⟩ (by simp only [va_up_self, bx_uu, tk_une, tk_usrt, not_false_eq_true, Nat.reduceEqDiff, Nat.reduceLT, Nat.reduceAdd, Nat.reduceMul, Nat.reduceLeDiff, reduceCtorEq]) (by omega)) (Nat.le_of_ble_eq_true rfl) (by omega) ?_
  simp only [va_up_self, bx_uu, tk_une, tk_usrt, not_false_eq_true, Nat.reduceEqDiff, Nat.reduceLT, Nat.reduceAdd, Nat.reduceMul, Nat.reduceLeDiff, reduceCtorEq, Nat.add_assoc]
  refine tk_aload0 dX11_keepsAll_153 ?_
  refine tk_aload0 dX11_keepsAll_154 ?_
  refine tk_getP dX11_keepsAll_155 fX11_58 rfl hR.o (hR.p 16 rfl) ?_
  refine tk_iload2 dX11_keepsAll_158 ?_
  refine tk_callV2y dX11_keepsAll_159 kX11_166 hR.o (r_keepsI (q := 3000 * p + 2505) hR (hR.t 57 rfl) ⟨by decide, by decide⟩ (by simp only [va_up_self, bx_uu, tk_une, tk_usrt, not_false_eq_true, Nat.reduceEqDiff, Nat.reduceLT, Nat.reduceAdd, Nat.reduceMul, Nat.reduceLeDiff, reduceCtorEq]) (by omega)) (Nat.le_of_ble_eq_true rfl) (by omega) ?_
  simp only [va_up_self, bx_uu, tk_une, tk_usrt, not_false_eq_true, Nat.reduceEqDiff, Nat.reduceLT, Nat.reduceAdd, Nat.reduceMul, Nat.reduceLeDiff, reduceCtorEq, Nat.add_assoc]
  refine tk_aload0 dX11_keepsAll_162 ?_
  refine tk_aload0 dX11_keepsAll_163 ?_
  refine tk_getP dX11_keepsAll_164 fX11_61 rfl hR.o (hR.p 17 rfl) ?_
  refine tk_iload2 dX11_keepsAll_167 ?_
  refine tk_callV2y dX11_keepsAll_168 kX11_166 hR.o (r_keepsI (q := 3000 * p + 2925) hR (hR.t 58 rfl) ⟨by decide, by decide⟩ (by simp only [va_up_self, bx_uu, tk_une, tk_usrt, not_false_eq_true, Nat.reduceEqDiff, Nat.reduceLT, Nat.reduceAdd, Nat.reduceMul, Nat.reduceLeDiff, reduceCtorEq]) (by omega)) (Nat.le_of_ble_eq_true rfl) (by omega) ?_
  simp only [va_up_self, bx_uu, tk_une, tk_usrt, not_false_eq_true, Nat.reduceEqDiff, Nat.reduceLT, Nat.reduceAdd, Nat.reduceMul, Nat.reduceLeDiff, reduceCtorEq, Nat.add_assoc]
  refine tk_aload0 dX11_keepsAll_171 ?_
  refine tk_aload0 dX11_keepsAll_172 ?_
  refine tk_getP dX11_keepsAll_173 fX11_64 rfl hR.o (hR.p 18 rfl) ?_
  refine tk_iload2 dX11_keepsAll_176 ?_
  refine tk_callV2y dX11_keepsAll_177 kX11_166 hR.o (r_keepsI (q := 3000 * p + 2955) hR (hR.t 59 rfl) ⟨by decide, by decide⟩ (by simp only [va_up_self, bx_uu, tk_une, tk_usrt, not_false_eq_true, Nat.reduceEqDiff, Nat.reduceLT, Nat.reduceAdd, Nat.reduceMul, Nat.reduceLeDiff, reduceCtorEq]) (by omega)) (Nat.le_of_ble_eq_true rfl) (by omega) ?_
  simp only [va_up_self, bx_uu, tk_une, tk_usrt, not_false_eq_true, Nat.reduceEqDiff, Nat.reduceLT, Nat.reduceAdd, Nat.reduceMul, Nat.reduceLeDiff, reduceCtorEq, Nat.add_assoc]
  refine tk_return dX11_keepsAll_180 rfl ?_
  exact ⟨rfl, rfl⟩
set_option maxRecDepth 4000 in
theorem r_keepsAllO (hR : tkRef T P) {p : Nat} (hp : p < 12) : tkM G mX11_keepsAll 1 0 0 [vR 40, vI (nI p), vI (nI 0)] (n, T, I, L, P) (tkF none (n, T, va_up (rBack I (3000 * p)) 40 (va_up (I 40) 25 (nI (3000 * p + 2973))), L, P)) := by
  unfold rBack
  refine tkM.of (ls := [some _, some _, some _]) (by decide +kernel) (by decide +kernel) (Nat.le_of_ble_eq_true rfl) rfl ?_
  refine tk_aload0 dX11_keepsAll_0 ?_
  refine tk_sipush dX11_keepsAll_1 kc_sipush_3000 ?_
  refine tk_iload1 dX11_keepsAll_4 ?_
  first | refine tk_imulN dX11_keepsAll_5 ?_ | refine tk_imul dX11_keepsAll_5 ?_
  refine tk_putI dX11_keepsAll_6 fX11_163 wX11_keepsAll_X11_25 rfl hR.o ?_
  refine tk_aload0 dX11_keepsAll_9 ?_
  refine tk_aload0 dX11_keepsAll_10 ?_
  refine tk_getP dX11_keepsAll_11 fX11_7 rfl hR.o (hR.p 0 rfl) ?_
  refine tk_iload2 dX11_keepsAll_14 ?_
  refine tk_callV2y dX11_keepsAll_15 kX11_166 hR.o (r_keepsO (q := 3000 * p) hR (hR.t 41 rfl) ⟨by decide, by decide, by decide⟩ (by simp only [va_up_self, bx_uu, tk_une, tk_usrt, not_false_eq_true, Nat.reduceEqDiff, Nat.reduceLT, Nat.reduceAdd, Nat.reduceMul, Nat.reduceLeDiff, reduceCtorEq]) (by omega)) (Nat.le_of_ble_eq_true rfl) (by omega) ?_
  simp only [va_up_self, bx_uu, tk_une, tk_usrt, not_false_eq_true, Nat.reduceEqDiff, Nat.reduceLT, Nat.reduceAdd, Nat.reduceMul, Nat.reduceLeDiff, reduceCtorEq, Nat.add_assoc]
  refine tk_aload0 dX11_keepsAll_18 ?_
  refine tk_aload0 dX11_keepsAll_19 ?_
  refine tk_getP dX11_keepsAll_20 fX11_13 rfl hR.o (hR.p 1 rfl) ?_
  refine tk_iload2 dX11_keepsAll_23 ?_
  refine tk_callV2y dX11_keepsAll_24 kX11_166 hR.o (r_keepsO (q := 3000 * p + 7) hR (hR.t 42 rfl) ⟨by decide, by decide, by decide⟩ (by simp only [va_up_self, bx_uu, tk_une, tk_usrt, not_false_eq_true, Nat.reduceEqDiff, Nat.reduceLT, Nat.reduceAdd, Nat.reduceMul, Nat.reduceLeDiff, reduceCtorEq]) (by omega)) (Nat.le_of_ble_eq_true rfl) (by omega) ?_
  simp only [va_up_self, bx_uu, tk_une, tk_usrt, not_false_eq_true, Nat.reduceEqDiff, Nat.reduceLT, Nat.reduceAdd, Nat.reduceMul, Nat.reduceLeDiff, reduceCtorEq, Nat.add_assoc]
  refine tk_aload0 dX11_keepsAll_27 ?_
  refine tk_aload0 dX11_keepsAll_28 ?_
  refine tk_getP dX11_keepsAll_29 fX11_16 rfl hR.o (hR.p 2 rfl) ?_
  refine tk_iload2 dX11_keepsAll_32 ?_
  refine tk_callV2y dX11_keepsAll_33 kX11_166 hR.o (r_keepsO (q := 3000 * p + 71) hR (hR.t 43 rfl) ⟨by decide, by decide, by decide⟩ (by simp only [va_up_self, bx_uu, tk_une, tk_usrt, not_false_eq_true, Nat.reduceEqDiff, Nat.reduceLT, Nat.reduceAdd, Nat.reduceMul, Nat.reduceLeDiff, reduceCtorEq]) (by omega)) (Nat.le_of_ble_eq_true rfl) (by omega) ?_
  simp only [va_up_self, bx_uu, tk_une, tk_usrt, not_false_eq_true, Nat.reduceEqDiff, Nat.reduceLT, Nat.reduceAdd, Nat.reduceMul, Nat.reduceLeDiff, reduceCtorEq, Nat.add_assoc]
  refine tk_aload0 dX11_keepsAll_36 ?_
  refine tk_aload0 dX11_keepsAll_37 ?_
  refine tk_getP dX11_keepsAll_38 fX11_19 rfl hR.o (hR.p 3 rfl) ?_
  refine tk_iload2 dX11_keepsAll_41 ?_
  refine tk_callV2y dX11_keepsAll_42 kX11_166 hR.o (r_keepsO (q := 3000 * p + 327) hR (hR.t 44 rfl) ⟨by decide, by decide, by decide⟩ (by simp only [va_up_self, bx_uu, tk_une, tk_usrt, not_false_eq_true, Nat.reduceEqDiff, Nat.reduceLT, Nat.reduceAdd, Nat.reduceMul, Nat.reduceLeDiff, reduceCtorEq]) (by omega)) (Nat.le_of_ble_eq_true rfl) (by omega) ?_
  simp only [va_up_self, bx_uu, tk_une, tk_usrt, not_false_eq_true, Nat.reduceEqDiff, Nat.reduceLT, Nat.reduceAdd, Nat.reduceMul, Nat.reduceLeDiff, reduceCtorEq, Nat.add_assoc]
  refine tk_aload0 dX11_keepsAll_45 ?_
  refine tk_aload0 dX11_keepsAll_46 ?_
  refine tk_getP dX11_keepsAll_47 fX11_22 rfl hR.o (hR.p 4 rfl) ?_
  refine tk_iload2 dX11_keepsAll_50 ?_
  refine tk_callV2y dX11_keepsAll_51 kX11_166 hR.o (r_keepsO (q := 3000 * p + 331) hR (hR.t 45 rfl) ⟨by decide, by decide, by decide⟩ (by simp only [va_up_self, bx_uu, tk_une, tk_usrt, not_false_eq_true, Nat.reduceEqDiff, Nat.reduceLT, Nat.reduceAdd, Nat.reduceMul, Nat.reduceLeDiff, reduceCtorEq]) (by omega)) (Nat.le_of_ble_eq_true rfl) (by omega) ?_
  simp only [va_up_self, bx_uu, tk_une, tk_usrt, not_false_eq_true, Nat.reduceEqDiff, Nat.reduceLT, Nat.reduceAdd, Nat.reduceMul, Nat.reduceLeDiff, reduceCtorEq, Nat.add_assoc]
  refine tk_aload0 dX11_keepsAll_54 ?_
  refine tk_aload0 dX11_keepsAll_55 ?_
  refine tk_getP dX11_keepsAll_56 fX11_25 rfl hR.o (hR.p 5 rfl) ?_
  refine tk_iload2 dX11_keepsAll_59 ?_
  refine tk_callV2y dX11_keepsAll_60 kX11_166 hR.o (r_keepsO (q := 3000 * p + 334) hR (hR.t 46 rfl) ⟨by decide, by decide, by decide⟩ (by simp only [va_up_self, bx_uu, tk_une, tk_usrt, not_false_eq_true, Nat.reduceEqDiff, Nat.reduceLT, Nat.reduceAdd, Nat.reduceMul, Nat.reduceLeDiff, reduceCtorEq]) (by omega)) (Nat.le_of_ble_eq_true rfl) (by omega) ?_
  simp only [va_up_self, bx_uu, tk_une, tk_usrt, not_false_eq_true, Nat.reduceEqDiff, Nat.reduceLT, Nat.reduceAdd, Nat.reduceMul, Nat.reduceLeDiff, reduceCtorEq, Nat.add_assoc]
  refine tk_aload0 dX11_keepsAll_63 ?_
  refine tk_aload0 dX11_keepsAll_64 ?_
  refine tk_getP dX11_keepsAll_65 fX11_28 rfl hR.o (hR.p 6 rfl) ?_
  refine tk_iload2 dX11_keepsAll_68 ?_
  refine tk_callV2y dX11_keepsAll_69 kX11_166 hR.o (r_keepsO (q := 3000 * p + 338) hR (hR.t 47 rfl) ⟨by decide, by decide, by decide⟩ (by simp only [va_up_self, bx_uu, tk_une, tk_usrt, not_false_eq_true, Nat.reduceEqDiff, Nat.reduceLT, Nat.reduceAdd, Nat.reduceMul, Nat.reduceLeDiff, reduceCtorEq]) (by omega)) (Nat.le_of_ble_eq_true rfl) (by omega) ?_
  simp only [va_up_self, bx_uu, tk_une, tk_usrt, not_false_eq_true, Nat.reduceEqDiff, Nat.reduceLT, Nat.reduceAdd, Nat.reduceMul, Nat.reduceLeDiff, reduceCtorEq, Nat.add_assoc]
  refine tk_aload0 dX11_keepsAll_72 ?_
  refine tk_aload0 dX11_keepsAll_73 ?_
  refine tk_getP dX11_keepsAll_74 fX11_31 rfl hR.o (hR.p 7 rfl) ?_
  refine tk_iload2 dX11_keepsAll_77 ?_
  refine tk_callV2y dX11_keepsAll_78 kX11_166 hR.o (r_keepsO (q := 3000 * p + 422) hR (hR.t 48 rfl) ⟨by decide, by decide, by decide⟩ (by simp only [va_up_self, bx_uu, tk_une, tk_usrt, not_false_eq_true, Nat.reduceEqDiff, Nat.reduceLT, Nat.reduceAdd, Nat.reduceMul, Nat.reduceLeDiff, reduceCtorEq]) (by omega)) (Nat.le_of_ble_eq_true rfl) (by omega) ?_
  simp only [va_up_self, bx_uu, tk_une, tk_usrt, not_false_eq_true, Nat.reduceEqDiff, Nat.reduceLT, Nat.reduceAdd, Nat.reduceMul, Nat.reduceLeDiff, reduceCtorEq, Nat.add_assoc]
  refine tk_aload0 dX11_keepsAll_81 ?_
  refine tk_aload0 dX11_keepsAll_82 ?_
  refine tk_getP dX11_keepsAll_83 fX11_34 rfl hR.o (hR.p 8 rfl) ?_
  refine tk_iload2 dX11_keepsAll_86 ?_
  refine tk_callV2y dX11_keepsAll_87 kX11_166 hR.o (r_keepsO (q := 3000 * p + 428) hR (hR.t 49 rfl) ⟨by decide, by decide, by decide⟩ (by simp only [va_up_self, bx_uu, tk_une, tk_usrt, not_false_eq_true, Nat.reduceEqDiff, Nat.reduceLT, Nat.reduceAdd, Nat.reduceMul, Nat.reduceLeDiff, reduceCtorEq]) (by omega)) (Nat.le_of_ble_eq_true rfl) (by omega) ?_
  simp only [va_up_self, bx_uu, tk_une, tk_usrt, not_false_eq_true, Nat.reduceEqDiff, Nat.reduceLT, Nat.reduceAdd, Nat.reduceMul, Nat.reduceLeDiff, reduceCtorEq, Nat.add_assoc]
  refine tk_aload0 dX11_keepsAll_90 ?_
  refine tk_aload0 dX11_keepsAll_91 ?_
  refine tk_getP dX11_keepsAll_92 fX11_37 rfl hR.o (hR.p 9 rfl) ?_
  refine tk_iload2 dX11_keepsAll_95 ?_
  refine tk_callV2y dX11_keepsAll_96 kX11_166 hR.o (r_keepsO (q := 3000 * p + 498) hR (hR.t 50 rfl) ⟨by decide, by decide, by decide⟩ (by simp only [va_up_self, bx_uu, tk_une, tk_usrt, not_false_eq_true, Nat.reduceEqDiff, Nat.reduceLT, Nat.reduceAdd, Nat.reduceMul, Nat.reduceLeDiff, reduceCtorEq]) (by omega)) (Nat.le_of_ble_eq_true rfl) (by omega) ?_
  simp only [va_up_self, bx_uu, tk_une, tk_usrt, not_false_eq_true, Nat.reduceEqDiff, Nat.reduceLT, Nat.reduceAdd, Nat.reduceMul, Nat.reduceLeDiff, reduceCtorEq, Nat.add_assoc]
  refine tk_aload0 dX11_keepsAll_99 ?_
  refine tk_aload0 dX11_keepsAll_100 ?_
  refine tk_getP dX11_keepsAll_101 fX11_40 rfl hR.o (hR.p 10 rfl) ?_
  refine tk_iload2 dX11_keepsAll_104 ?_
  refine tk_callV2y dX11_keepsAll_105 kX11_166 hR.o (r_keepsO (q := 3000 * p + 503) hR (hR.t 51 rfl) ⟨by decide, by decide, by decide⟩ (by simp only [va_up_self, bx_uu, tk_une, tk_usrt, not_false_eq_true, Nat.reduceEqDiff, Nat.reduceLT, Nat.reduceAdd, Nat.reduceMul, Nat.reduceLeDiff, reduceCtorEq]) (by omega)) (Nat.le_of_ble_eq_true rfl) (by omega) ?_
  simp only [va_up_self, bx_uu, tk_une, tk_usrt, not_false_eq_true, Nat.reduceEqDiff, Nat.reduceLT, Nat.reduceAdd, Nat.reduceMul, Nat.reduceLeDiff, reduceCtorEq, Nat.add_assoc]
  refine tk_aload0 dX11_keepsAll_108 ?_
  refine tk_aload0 dX11_keepsAll_109 ?_
  refine tk_getP dX11_keepsAll_110 fX11_43 rfl hR.o (hR.p 11 rfl) ?_
  refine tk_iload2 dX11_keepsAll_113 ?_
  refine tk_callV2y dX11_keepsAll_114 kX11_166 hR.o (r_keepsO (q := 3000 * p + 559) hR (hR.t 52 rfl) ⟨by decide, by decide, by decide⟩ (by simp only [va_up_self, bx_uu, tk_une, tk_usrt, not_false_eq_true, Nat.reduceEqDiff, Nat.reduceLT, Nat.reduceAdd, Nat.reduceMul, Nat.reduceLeDiff, reduceCtorEq]) (by omega)) (Nat.le_of_ble_eq_true rfl) (by omega) ?_
  simp only [va_up_self, bx_uu, tk_une, tk_usrt, not_false_eq_true, Nat.reduceEqDiff, Nat.reduceLT, Nat.reduceAdd, Nat.reduceMul, Nat.reduceLeDiff, reduceCtorEq, Nat.add_assoc]
  refine tk_aload0 dX11_keepsAll_117 ?_
  refine tk_aload0 dX11_keepsAll_118 ?_
  refine tk_getP dX11_keepsAll_119 fX11_46 rfl hR.o (hR.p 12 rfl) ?_
  refine tk_iload2 dX11_keepsAll_122 ?_
  refine tk_callV2y dX11_keepsAll_123 kX11_166 hR.o (r_keepsO (q := 3000 * p + 563) hR (hR.t 53 rfl) ⟨by decide, by decide, by decide⟩ (by simp only [va_up_self, bx_uu, tk_une, tk_usrt, not_false_eq_true, Nat.reduceEqDiff, Nat.reduceLT, Nat.reduceAdd, Nat.reduceMul, Nat.reduceLeDiff, reduceCtorEq]) (by omega)) (Nat.le_of_ble_eq_true rfl) (by omega) ?_
  simp only [va_up_self, bx_uu, tk_une, tk_usrt, not_false_eq_true, Nat.reduceEqDiff, Nat.reduceLT, Nat.reduceAdd, Nat.reduceMul, Nat.reduceLeDiff, reduceCtorEq, Nat.add_assoc]
  refine tk_aload0 dX11_keepsAll_126 ?_
  refine tk_aload0 dX11_keepsAll_127 ?_
  refine tk_getP dX11_keepsAll_128 fX11_49 rfl hR.o (hR.p 13 rfl) ?_
  refine tk_iload2 dX11_keepsAll_131 ?_
  refine tk_callV2y dX11_keepsAll_132 kX11_166 hR.o (r_keepsO (q := 3000 * p + 567) hR (hR.t 54 rfl) ⟨by decide, by decide, by decide⟩ (by simp only [va_up_self, bx_uu, tk_une, tk_usrt, not_false_eq_true, Nat.reduceEqDiff, Nat.reduceLT, Nat.reduceAdd, Nat.reduceMul, Nat.reduceLeDiff, reduceCtorEq]) (by omega)) (Nat.le_of_ble_eq_true rfl) (by omega) ?_
  simp only [va_up_self, bx_uu, tk_une, tk_usrt, not_false_eq_true, Nat.reduceEqDiff, Nat.reduceLT, Nat.reduceAdd, Nat.reduceMul, Nat.reduceLeDiff, reduceCtorEq, Nat.add_assoc]
  refine tk_aload0 dX11_keepsAll_135 ?_
  refine tk_aload0 dX11_keepsAll_136 ?_
  refine tk_getP dX11_keepsAll_137 fX11_52 rfl hR.o (hR.p 14 rfl) ?_
  refine tk_iload2 dX11_keepsAll_140 ?_
  refine tk_callV2y dX11_keepsAll_141 kX11_166 hR.o (r_keepsO (q := 3000 * p + 585) hR (hR.t 55 rfl) ⟨by decide, by decide, by decide⟩ (by simp only [va_up_self, bx_uu, tk_une, tk_usrt, not_false_eq_true, Nat.reduceEqDiff, Nat.reduceLT, Nat.reduceAdd, Nat.reduceMul, Nat.reduceLeDiff, reduceCtorEq]) (by omega)) (Nat.le_of_ble_eq_true rfl) (by omega) ?_
  simp only [va_up_self, bx_uu, tk_une, tk_usrt, not_false_eq_true, Nat.reduceEqDiff, Nat.reduceLT, Nat.reduceAdd, Nat.reduceMul, Nat.reduceLeDiff, reduceCtorEq, Nat.add_assoc]
  refine tk_aload0 dX11_keepsAll_144 ?_
  refine tk_aload0 dX11_keepsAll_145 ?_
  refine tk_getP dX11_keepsAll_146 fX11_55 rfl hR.o (hR.p 15 rfl) ?_
  refine tk_iload2 dX11_keepsAll_149 ?_
  refine tk_callV2y dX11_keepsAll_150 kX11_166 hR.o (r_keepsO (q := 3000 * p + 969) hR (hR.t 56 rfl) ⟨by decide, by decide, by decide⟩ (by simp only [va_up_self, bx_uu, tk_une, tk_usrt, not_false_eq_true, Nat.reduceEqDiff, Nat.reduceLT, Nat.reduceAdd, Nat.reduceMul, Nat.reduceLeDiff, reduceCtorEq]) (by omega)) (Nat.le_of_ble_eq_true rfl) (by omega) ?_
  simp only [va_up_self, bx_uu, tk_une, tk_usrt, not_false_eq_true, Nat.reduceEqDiff, Nat.reduceLT, Nat.reduceAdd, Nat.reduceMul, Nat.reduceLeDiff, reduceCtorEq, Nat.add_assoc]
  refine tk_aload0 dX11_keepsAll_153 ?_
  refine tk_aload0 dX11_keepsAll_154 ?_
  refine tk_getP dX11_keepsAll_155 fX11_58 rfl hR.o (hR.p 16 rfl) ?_
  refine tk_iload2 dX11_keepsAll_158 ?_
  refine tk_callV2y dX11_keepsAll_159 kX11_166 hR.o (r_keepsO (q := 3000 * p + 2505) hR (hR.t 57 rfl) ⟨by decide, by decide, by decide⟩ (by simp only [va_up_self, bx_uu, tk_une, tk_usrt, not_false_eq_true, Nat.reduceEqDiff, Nat.reduceLT, Nat.reduceAdd, Nat.reduceMul, Nat.reduceLeDiff, reduceCtorEq]) (by omega)) (Nat.le_of_ble_eq_true rfl) (by omega) ?_
  simp only [va_up_self, bx_uu, tk_une, tk_usrt, not_false_eq_true, Nat.reduceEqDiff, Nat.reduceLT, Nat.reduceAdd, Nat.reduceMul, Nat.reduceLeDiff, reduceCtorEq, Nat.add_assoc]
  refine tk_aload0 dX11_keepsAll_162 ?_
  refine tk_aload0 dX11_keepsAll_163 ?_
  refine tk_getP dX11_keepsAll_164 fX11_61 rfl hR.o (hR.p 17 rfl) ?_
  refine tk_iload2 dX11_keepsAll_167 ?_
  refine tk_callV2y dX11_keepsAll_168 kX11_166 hR.o (r_keepsO (q := 3000 * p + 2925) hR (hR.t 58 rfl) ⟨by decide, by decide, by decide⟩ (by simp only [va_up_self, bx_uu, tk_une, tk_usrt, not_false_eq_true, Nat.reduceEqDiff, Nat.reduceLT, Nat.reduceAdd, Nat.reduceMul, Nat.reduceLeDiff, reduceCtorEq]) (by omega)) (Nat.le_of_ble_eq_true rfl) (by omega) ?_
  simp only [va_up_self, bx_uu, tk_une, tk_usrt, not_false_eq_true, Nat.reduceEqDiff, Nat.reduceLT, Nat.reduceAdd, Nat.reduceMul, Nat.reduceLeDiff, reduceCtorEq, Nat.add_assoc]
  refine tk_aload0 dX11_keepsAll_171 ?_
  refine tk_aload0 dX11_keepsAll_172 ?_
  refine tk_getP dX11_keepsAll_173 fX11_64 rfl hR.o (hR.p 18 rfl) ?_
  refine tk_iload2 dX11_keepsAll_176 ?_
  refine tk_callV2y dX11_keepsAll_177 kX11_166 hR.o (r_keepsO (q := 3000 * p + 2955) hR (hR.t 59 rfl) ⟨by decide, by decide, by decide⟩ (by simp only [va_up_self, bx_uu, tk_une, tk_usrt, not_false_eq_true, Nat.reduceEqDiff, Nat.reduceLT, Nat.reduceAdd, Nat.reduceMul, Nat.reduceLeDiff, reduceCtorEq]) (by omega)) (Nat.le_of_ble_eq_true rfl) (by omega) ?_
  simp only [va_up_self, bx_uu, tk_une, tk_usrt, not_false_eq_true, Nat.reduceEqDiff, Nat.reduceLT, Nat.reduceAdd, Nat.reduceMul, Nat.reduceLeDiff, reduceCtorEq, Nat.add_assoc]
  refine tk_return dX11_keepsAll_180 rfl ?_
  refine ⟨rfl, ?_⟩
  simp only [va_up_self, bx_uu, tk_une, tk_usrt, not_false_eq_true, Nat.reduceEqDiff, Nat.reduceLT, Nat.reduceAdd, Nat.reduceMul, Nat.reduceLeDiff, reduceCtorEq, Nat.add_assoc]
theorem r_keep12 (hR : tkRef T P) (hk : I 40 20 = nI 12) : tkX G mX11_keep 2 0 0 11 [some (vR 40), some (vI (nI 0))] [] (n, T, I, L, P) (tkF none (n, T, rKp I 12, L, P)) := by
  refine tk_for 0 33000 (fun i => [some (vR 40), some (vI (nI i))]) (fun i => (n, T, va_up I 60 (tkcp (I 60) (fun k => I 60 (k + 3000)) i), L, P)) (by omega) rfl (by rw [tkcp_0, tk_up_id]) ?_ ?_
  · refine tk_iload1 dX11_keep_11 ?_
    refine tk_ldc dX11_keep_12 klX11_173 ?_
    first | refine tk_icmp_geN dX11_keep_14 (by omega) (by omega) (fun h14 => ?_) (fun h14 => ?_) | refine tk_jcmp_ge dX11_keep_14 (fun h14 => ?_) (fun h14 => ?_)
    · refine tk_aload0 dX11_keep_39 ?_
      refine tk_dup dX11_keep_40 rfl ?_
      refine tk_getI dX11_keep_41 fX11_170 rfl hR.o ?_
      simp only [va_up_self, bx_uu, tk_une, tk_usrt, not_false_eq_true, Nat.reduceEqDiff, Nat.reduceLT, Nat.reduceAdd, Nat.reduceMul, Nat.reduceLeDiff, reduceCtorEq, hk]
      refine tk_iconst dX11_keep_44 kc_iconst_1 ?_
      first | refine tk_isubN dX11_keep_45 (by omega) ?_ | refine tk_isub dX11_keep_45 ?_
      refine tk_putI dX11_keep_46 fX11_170 wX11_keep_X11_20 rfl hR.o ?_
      refine tk_aload0 dX11_keep_49 ?_
      refine tk_aload0 dX11_keep_50 ?_
      refine tk_getI dX11_keep_51 fX11_170 rfl hR.o ?_
      simp only [va_up_self, bx_uu, tk_une, tk_usrt, not_false_eq_true, Nat.reduceEqDiff, Nat.reduceLT, Nat.reduceAdd, Nat.reduceMul, Nat.reduceLeDiff, reduceCtorEq]
      refine tk_iconst dX11_keep_54 kc_iconst_1 ?_
      refine tk_callV2y dX11_keep_55 kX11_174 hR.o (r_keepsAllI hR (by omega)) (Nat.le_of_ble_eq_true rfl) (by omega) ?_
      simp only [va_up_self, bx_uu, tk_une, tk_usrt, not_false_eq_true, Nat.reduceEqDiff, Nat.reduceLT, Nat.reduceAdd, Nat.reduceMul, Nat.reduceLeDiff, reduceCtorEq]
      refine tk_aload0 dX11_keep_58 ?_
      refine tk_dup dX11_keep_59 rfl ?_
      refine tk_getI dX11_keep_60 fX11_170 rfl hR.o ?_
      refine tk_iconst dX11_keep_63 kc_iconst_1 ?_
      first | refine tk_iaddN dX11_keep_64 ?_ | refine tk_iadd dX11_keep_64 ?_
      refine tk_putI dX11_keep_65 fX11_170 wX11_keep_X11_20 rfl hR.o ?_
      refine tk_return dX11_keep_68 rfl ?_
      refine ⟨rfl, ?_⟩
      simp only [rKp, if_true, va_up_self, bx_uu, tk_une, tk_usrt, not_false_eq_true, Nat.reduceEqDiff, Nat.reduceLT, Nat.reduceAdd, Nat.reduceMul, Nat.reduceLeDiff, reduceCtorEq, rSnap_40, rSnap_60, Nat.reduceSub]
      rfl
    · exfalso; omega
  · intro i _ hi k
    refine tk_iload1 dX11_keep_11 ?_
    refine tk_ldc dX11_keep_12 klX11_173 ?_
    first | refine tk_icmp_geN dX11_keep_14 (by omega) (by omega) (fun h14 => ?_) (fun h14 => ?_) | refine tk_jcmp_ge dX11_keep_14 (fun h14 => ?_) (fun h14 => ?_)
    · exfalso; omega
    · refine tk_aload0 dX11_keep_17 ?_
      refine tk_getP dX11_keep_18 fX11_68 rfl hR.o (hR.p 19 rfl) ?_
      refine tk_iload1 dX11_keep_21 ?_
      refine tk_aload0 dX11_keep_22 ?_
      refine tk_getP dX11_keep_23 fX11_68 rfl hR.o (hR.p 19 rfl) ?_
      refine tk_iload1 dX11_keep_26 ?_
      refine tk_sipush dX11_keep_27 kc_sipush_3000 ?_
      first | refine tk_iaddN dX11_keep_30 ?_ | refine tk_iadd dX11_keep_30 ?_
      refine tk_iald dX11_keep_31 (hR.t 60 rfl) (by omega) (by omega) ?_
      refine tk_iast dX11_keep_32 (hR.t 60 rfl) (by omega) (by omega) ?_
      first | refine tk_iinc1 dX11_keep_33 (kc_inc _) rfl ?_ | refine tk_iinc1 dX11_keep_33 rfl rfl ?_
      refine tk_goto dX11_keep_36 ?_
      simp only [va_up_self, bx_uu, tk_une, tk_usrt, not_false_eq_true, Nat.reduceEqDiff, Nat.reduceLT, Nat.reduceAdd, Nat.reduceMul, Nat.reduceLeDiff, reduceCtorEq]
      rw [show tkcp (I 60) (fun k => I 60 (k + 3000)) i (i + 3000) = (fun k => I 60 (k + 3000)) i from if_neg (by omega), tkcp_s]
      exact k
theorem r_keep (hR : tkRef T P) {m : Nat} (hm : m ≤ 12) (hk : I 40 20 = nI m) : tkM G mX11_keep 2 0 0 [vR 40] (n, T, I, L, P) (tkF none (n, T, rKp I m, L, P)) := by
  refine tkM.of (ls := [some _, none]) (by decide +kernel) (by decide +kernel) (Nat.le_of_ble_eq_true rfl) rfl ?_
  refine tk_aload0 dX11_keep_0 ?_
  refine tk_getI dX11_keep_1 fX11_170 rfl hR.o ?_
  rw [hk]
  refine tk_bipush dX11_keep_4 kc_bipush_12 ?_
  first | refine tk_icmp_neN dX11_keep_6 (by omega) (by omega) (fun h6 => ?_) (fun h6 => ?_) | refine tk_icmp_ne dX11_keep_6 (fun h6 => ?_) (fun h6 => ?_)
  · refine tk_aload0 dX11_keep_49 ?_
    refine tk_aload0 dX11_keep_50 ?_
    refine tk_getI dX11_keep_51 fX11_170 rfl hR.o ?_
    rw [hk]
    refine tk_iconst dX11_keep_54 kc_iconst_1 ?_
    refine tk_callV2y dX11_keep_55 kX11_174 hR.o (r_keepsAllI hR (by omega)) (Nat.le_of_ble_eq_true rfl) (by omega) ?_
    refine tk_aload0 dX11_keep_58 ?_
    refine tk_dup dX11_keep_59 rfl ?_
    refine tk_getI dX11_keep_60 fX11_170 rfl hR.o ?_
    simp only [va_up_self, bx_uu, tk_une, tk_usrt, not_false_eq_true, Nat.reduceEqDiff, Nat.reduceLT, Nat.reduceAdd, Nat.reduceMul, Nat.reduceLeDiff, reduceCtorEq, hk]
    refine tk_iconst dX11_keep_63 kc_iconst_1 ?_
    first | refine tk_iaddN dX11_keep_64 ?_ | refine tk_iadd dX11_keep_64 ?_
    refine tk_putI dX11_keep_65 fX11_170 wX11_keep_X11_20 rfl hR.o ?_
    refine tk_return dX11_keep_68 rfl ?_
    refine ⟨rfl, ?_⟩
    unfold rKp
    rw [if_neg (by omega)]
    simp only [va_up_self, bx_uu, tk_une, tk_usrt, not_false_eq_true, Nat.reduceEqDiff, Nat.reduceLT, Nat.reduceAdd, Nat.reduceMul, Nat.reduceLeDiff, reduceCtorEq]
  · refine tk_iconst dX11_keep_9 kc_iconst_0 ?_
    refine tk_istore1 dX11_keep_10 rfl ?_
    obtain rfl : m = 12 := h6
    exact r_keep12 hR hk
end REFC
