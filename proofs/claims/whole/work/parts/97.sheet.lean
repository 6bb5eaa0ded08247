/-! ===== the class: sheets ===== -/
def hObj (T : Nat → Nat × Nat) (P : Nat → Nat → Option Nat) (a b : Nat) : Prop := (T a).1 = 6 ∧ P a 2 = some b ∧ T b = (20, 14) ∧ ¬ a = b
def hMsk (w v : Int32) : Int32 := if w = nI 32 then v else v &&& (kshl (nI 1) w - nI 1)
def hPt (c x y : Int32) : Bool := decide (0 ≤ x) && decide (0 ≤ y) && decide (y ≤ c - x)
theorem hPt_1 {c x y : Int32} (h : x < 0) : false = hPt c x y := by
  unfold hPt
  rw [decide_eq_false (Int32.not_le.mpr h)]; rfl
theorem hPt_2 {c x y : Int32} (h : y < 0) : false = hPt c x y := by
  unfold hPt
  rw [decide_eq_false (Int32.not_le.mpr h), Bool.and_false]; rfl
theorem hPt_3 {c x y : Int32} (h : c - x < y) : false = hPt c x y := by
  unfold hPt
  rw [decide_eq_false (Int32.not_le.mpr h), Bool.and_false]
theorem hPt_4 {c x y : Int32} (h1 : 0 ≤ x) (h2 : 0 ≤ y) (h : y ≤ c - x) : true = hPt c x y := by
  unfold hPt
  rw [decide_eq_true h1, decide_eq_true h2, decide_eq_true h]; rfl
section SHEET
variable {G : tkG} {n : Nat} {T : Nat → Nat × Nat} {I : Nat → Nat → Int32} {L : Nat → Nat → Int64} {P : Nat → Nat → Option Nat}
theorem c_isMissing {a b : Nat} (ho : hObj T P a b) : tkM G mX5_isMissing 0 0 0 [vR a] (n, T, I, L, P) (tkF (some (vI (tkb (decide (I a 0 = 0))))) (n, T, I, L, P)) := by
  obtain ⟨o1, o2, o3, o4⟩ := ho
  refine tkM.of (ls := [some _]) (by decide +kernel) (by decide +kernel) (Nat.le_of_ble_eq_true rfl) rfl ?_
  refine tk_aload0 dX5_isMissing_0 ?_
  refine tk_getI dX5_isMissing_1 fX5_9 rfl (by first | assumption | exact va_up_self _ _ _ | exact (va_up_ne _ _ (by omega)).trans (by assumption) | exact congrArg Prod.fst (va_up_self _ _ _) | exact (congrArg Prod.fst (va_up_ne _ _ (by omega))).trans (by assumption) | exact (congrFun (va_up_ne _ _ (by omega)) _).trans (by assumption) | exact (va_up_ne _ _ (by omega)).trans (va_up_self _ _ _) | exact (va_up_ne _ _ (by omega)).trans ((va_up_ne _ _ (by omega)).trans (by assumption)) | exact (congrArg Prod.fst ((va_up_ne _ _ (by omega)).trans (va_up_ne _ _ (by omega)))).trans (by assumption) | exact (congrFun ((va_up_ne _ _ (by omega)).trans (va_up_ne _ _ (by omega))) _).trans (by assumption) | (rw [va_up_self, va_up_ne _ _ (by omega)]; assumption)) ?_
  first | refine tk_jf_neB dX5_isMissing_4 (fun h4 => ?_) (fun h4 => ?_) | refine tk_if_ne dX5_isMissing_4 (fun h4 => ?_) (fun h4 => ?_)
  · refine tk_iconst dX5_isMissing_11 kc_iconst_0 ?_
    first | refine tk_zreturn dX5_isMissing_12 rfl ?_ | refine tk_zret0 dX5_isMissing_12 rfl ?_ | refine tk_zret1 dX5_isMissing_12 rfl ?_
    exact tkz (by first | exact (decide_eq_false h4).symm | exact (decide_eq_true h4).symm)
  · refine tk_iconst dX5_isMissing_7 kc_iconst_1 ?_
    refine tk_goto dX5_isMissing_8 ?_
    first | refine tk_zreturn dX5_isMissing_12 rfl ?_ | refine tk_zret0 dX5_isMissing_12 rfl ?_ | refine tk_zret1 dX5_isMissing_12 rfl ?_
    exact tkz (by first | exact (decide_eq_false h4).symm | exact (decide_eq_true h4).symm)
theorem c_hlay {a b : Nat} (ho : hObj T P a b) (x y : Int32) : tkM G mX5_lay 1 0 0 [vR a, vI x, vI y] (n, T, I, L, P) (tkF none (n, T, va_up (va_up I a (va_up (va_up (I a) 0 x) 1 (if x = 0 then nI 0 else y))) b (tkcp (I b) (fun _ => 0) 14), L, P)) := by
  obtain ⟨o1, o2, o3, o4⟩ := ho
  refine tkM.of (ls := [some _, some _, some _]) (by decide +kernel) (by decide +kernel) (Nat.le_of_ble_eq_true rfl) rfl ?_
  refine tk_aload0 dX5_lay_0 ?_
  refine tk_iload1 dX5_lay_1 ?_
  refine tk_putI dX5_lay_2 fX5_9 wX5_lay_X5_0 rfl (by first | assumption | exact va_up_self _ _ _ | exact (va_up_ne _ _ (by omega)).trans (by assumption) | exact congrArg Prod.fst (va_up_self _ _ _) | exact (congrArg Prod.fst (va_up_ne _ _ (by omega))).trans (by assumption) | exact (congrFun (va_up_ne _ _ (by omega)) _).trans (by assumption) | exact (va_up_ne _ _ (by omega)).trans (va_up_self _ _ _) | exact (va_up_ne _ _ (by omega)).trans ((va_up_ne _ _ (by omega)).trans (by assumption)) | exact (congrArg Prod.fst ((va_up_ne _ _ (by omega)).trans (va_up_ne _ _ (by omega)))).trans (by assumption) | exact (congrFun ((va_up_ne _ _ (by omega)).trans (va_up_ne _ _ (by omega))) _).trans (by assumption) | (rw [va_up_self, va_up_ne _ _ (by omega)]; assumption)) ?_
  refine tk_aload0 dX5_lay_5 ?_
  refine tk_iload1 dX5_lay_6 ?_
  first | refine tk_jf_neB dX5_lay_7 (fun h7 => ?_) (fun h7 => ?_) | refine tk_if_ne dX5_lay_7 (fun h7 => ?_) (fun h7 => ?_)
  · refine tk_iload2 dX5_lay_14 ?_
    refine tk_putI dX5_lay_15 fX5_15 wX5_lay_X5_1 rfl (by first | assumption | exact va_up_self _ _ _ | exact (va_up_ne _ _ (by omega)).trans (by assumption) | exact congrArg Prod.fst (va_up_self _ _ _) | exact (congrArg Prod.fst (va_up_ne _ _ (by omega))).trans (by assumption) | exact (congrFun (va_up_ne _ _ (by omega)) _).trans (by assumption) | exact (va_up_ne _ _ (by omega)).trans (va_up_self _ _ _) | exact (va_up_ne _ _ (by omega)).trans ((va_up_ne _ _ (by omega)).trans (by assumption)) | exact (congrArg Prod.fst ((va_up_ne _ _ (by omega)).trans (va_up_ne _ _ (by omega)))).trans (by assumption) | exact (congrFun ((va_up_ne _ _ (by omega)).trans (va_up_ne _ _ (by omega))) _).trans (by assumption) | (rw [va_up_self, va_up_ne _ _ (by omega)]; assumption)) ?_
    refine tk_aload0 dX5_lay_18 ?_
    refine tk_getP dX5_lay_19 fX5_18 rfl (by first | assumption | exact va_up_self _ _ _ | exact (va_up_ne _ _ (by omega)).trans (by assumption) | exact congrArg Prod.fst (va_up_self _ _ _) | exact (congrArg Prod.fst (va_up_ne _ _ (by omega))).trans (by assumption) | exact (congrFun (va_up_ne _ _ (by omega)) _).trans (by assumption) | exact (va_up_ne _ _ (by omega)).trans (va_up_self _ _ _) | exact (va_up_ne _ _ (by omega)).trans ((va_up_ne _ _ (by omega)).trans (by assumption)) | exact (congrArg Prod.fst ((va_up_ne _ _ (by omega)).trans (va_up_ne _ _ (by omega)))).trans (by assumption) | exact (congrFun ((va_up_ne _ _ (by omega)).trans (va_up_ne _ _ (by omega))) _).trans (by assumption) | (rw [va_up_self, va_up_ne _ _ (by omega)]; assumption)) (by first | assumption | exact va_up_self _ _ _ | exact (va_up_ne _ _ (by omega)).trans (by assumption) | exact congrArg Prod.fst (va_up_self _ _ _) | exact (congrArg Prod.fst (va_up_ne _ _ (by omega))).trans (by assumption) | exact (congrFun (va_up_ne _ _ (by omega)) _).trans (by assumption) | exact (va_up_ne _ _ (by omega)).trans (va_up_self _ _ _) | exact (va_up_ne _ _ (by omega)).trans ((va_up_ne _ _ (by omega)).trans (by assumption)) | exact (congrArg Prod.fst ((va_up_ne _ _ (by omega)).trans (va_up_ne _ _ (by omega)))).trans (by assumption) | exact (congrFun ((va_up_ne _ _ (by omega)).trans (va_up_ne _ _ (by omega))) _).trans (by assumption) | (rw [va_up_self, va_up_ne _ _ (by omega)]; assumption)) ?_
    refine tk_iconst dX5_lay_22 kc_iconst_0 ?_
    refine tk_callS2y dX5_lay_23 kX5_22 (j_fillI o3 (by omega)) (Nat.le_of_ble_eq_true rfl) (by omega) ?_
    refine tk_return dX5_lay_26 rfl ?_
    refine ⟨rfl, ?_⟩
    rw [bx_uu, va_up_self, va_up_ne _ _ (fun e => o4 e.symm), nI_0]
    first | rw [if_neg h7] | rw [if_pos h7]
  · refine tk_iconst dX5_lay_10 kc_iconst_0 ?_
    refine tk_goto dX5_lay_11 ?_
    refine tk_putI dX5_lay_15 fX5_15 wX5_lay_X5_1 rfl (by first | assumption | exact va_up_self _ _ _ | exact (va_up_ne _ _ (by omega)).trans (by assumption) | exact congrArg Prod.fst (va_up_self _ _ _) | exact (congrArg Prod.fst (va_up_ne _ _ (by omega))).trans (by assumption) | exact (congrFun (va_up_ne _ _ (by omega)) _).trans (by assumption) | exact (va_up_ne _ _ (by omega)).trans (va_up_self _ _ _) | exact (va_up_ne _ _ (by omega)).trans ((va_up_ne _ _ (by omega)).trans (by assumption)) | exact (congrArg Prod.fst ((va_up_ne _ _ (by omega)).trans (va_up_ne _ _ (by omega)))).trans (by assumption) | exact (congrFun ((va_up_ne _ _ (by omega)).trans (va_up_ne _ _ (by omega))) _).trans (by assumption) | (rw [va_up_self, va_up_ne _ _ (by omega)]; assumption)) ?_
    refine tk_aload0 dX5_lay_18 ?_
    refine tk_getP dX5_lay_19 fX5_18 rfl (by first | assumption | exact va_up_self _ _ _ | exact (va_up_ne _ _ (by omega)).trans (by assumption) | exact congrArg Prod.fst (va_up_self _ _ _) | exact (congrArg Prod.fst (va_up_ne _ _ (by omega))).trans (by assumption) | exact (congrFun (va_up_ne _ _ (by omega)) _).trans (by assumption) | exact (va_up_ne _ _ (by omega)).trans (va_up_self _ _ _) | exact (va_up_ne _ _ (by omega)).trans ((va_up_ne _ _ (by omega)).trans (by assumption)) | exact (congrArg Prod.fst ((va_up_ne _ _ (by omega)).trans (va_up_ne _ _ (by omega)))).trans (by assumption) | exact (congrFun ((va_up_ne _ _ (by omega)).trans (va_up_ne _ _ (by omega))) _).trans (by assumption) | (rw [va_up_self, va_up_ne _ _ (by omega)]; assumption)) (by first | assumption | exact va_up_self _ _ _ | exact (va_up_ne _ _ (by omega)).trans (by assumption) | exact congrArg Prod.fst (va_up_self _ _ _) | exact (congrArg Prod.fst (va_up_ne _ _ (by omega))).trans (by assumption) | exact (congrFun (va_up_ne _ _ (by omega)) _).trans (by assumption) | exact (va_up_ne _ _ (by omega)).trans (va_up_self _ _ _) | exact (va_up_ne _ _ (by omega)).trans ((va_up_ne _ _ (by omega)).trans (by assumption)) | exact (congrArg Prod.fst ((va_up_ne _ _ (by omega)).trans (va_up_ne _ _ (by omega)))).trans (by assumption) | exact (congrFun ((va_up_ne _ _ (by omega)).trans (va_up_ne _ _ (by omega))) _).trans (by assumption) | (rw [va_up_self, va_up_ne _ _ (by omega)]; assumption)) ?_
    refine tk_iconst dX5_lay_22 kc_iconst_0 ?_
    refine tk_callS2y dX5_lay_23 kX5_22 (j_fillI o3 (by omega)) (Nat.le_of_ble_eq_true rfl) (by omega) ?_
    refine tk_return dX5_lay_26 rfl ?_
    refine ⟨rfl, ?_⟩
    rw [bx_uu, va_up_self, va_up_ne _ _ (fun e => o4 e.symm), nI_0]
    first | rw [if_neg h7] | rw [if_pos h7]
theorem c_hset {a b i : Nat} (ho : hObj T P a b) (hi : i < 14) (v : Int32) : tkM G mX5_set 0 0 0 [vR a, vI (nI i), vI v] (n, T, I, L, P) (tkF none (n, T, va_up I b (va_up (I b) i (hMsk (I a 0) v)), L, P)) := by
  obtain ⟨o1, o2, o3, o4⟩ := ho
  refine tkM.of (ls := [some _, some _, some _]) (by decide +kernel) (by decide +kernel) (Nat.le_of_ble_eq_true rfl) rfl ?_
  refine tk_aload0 dX5_set_0 ?_
  refine tk_getP dX5_set_1 fX5_18 rfl (by first | assumption | exact va_up_self _ _ _ | exact (va_up_ne _ _ (by omega)).trans (by assumption) | exact congrArg Prod.fst (va_up_self _ _ _) | exact (congrArg Prod.fst (va_up_ne _ _ (by omega))).trans (by assumption) | exact (congrFun (va_up_ne _ _ (by omega)) _).trans (by assumption) | exact (va_up_ne _ _ (by omega)).trans (va_up_self _ _ _) | exact (va_up_ne _ _ (by omega)).trans ((va_up_ne _ _ (by omega)).trans (by assumption)) | exact (congrArg Prod.fst ((va_up_ne _ _ (by omega)).trans (va_up_ne _ _ (by omega)))).trans (by assumption) | exact (congrFun ((va_up_ne _ _ (by omega)).trans (va_up_ne _ _ (by omega))) _).trans (by assumption) | (rw [va_up_self, va_up_ne _ _ (by omega)]; assumption)) (by first | assumption | exact va_up_self _ _ _ | exact (va_up_ne _ _ (by omega)).trans (by assumption) | exact congrArg Prod.fst (va_up_self _ _ _) | exact (congrArg Prod.fst (va_up_ne _ _ (by omega))).trans (by assumption) | exact (congrFun (va_up_ne _ _ (by omega)) _).trans (by assumption) | exact (va_up_ne _ _ (by omega)).trans (va_up_self _ _ _) | exact (va_up_ne _ _ (by omega)).trans ((va_up_ne _ _ (by omega)).trans (by assumption)) | exact (congrArg Prod.fst ((va_up_ne _ _ (by omega)).trans (va_up_ne _ _ (by omega)))).trans (by assumption) | exact (congrFun ((va_up_ne _ _ (by omega)).trans (va_up_ne _ _ (by omega))) _).trans (by assumption) | (rw [va_up_self, va_up_ne _ _ (by omega)]; assumption)) ?_
  refine tk_iload1 dX5_set_4 ?_
  refine tk_aload0 dX5_set_5 ?_
  refine tk_getI dX5_set_6 fX5_9 rfl (by first | assumption | exact va_up_self _ _ _ | exact (va_up_ne _ _ (by omega)).trans (by assumption) | exact congrArg Prod.fst (va_up_self _ _ _) | exact (congrArg Prod.fst (va_up_ne _ _ (by omega))).trans (by assumption) | exact (congrFun (va_up_ne _ _ (by omega)) _).trans (by assumption) | exact (va_up_ne _ _ (by omega)).trans (va_up_self _ _ _) | exact (va_up_ne _ _ (by omega)).trans ((va_up_ne _ _ (by omega)).trans (by assumption)) | exact (congrArg Prod.fst ((va_up_ne _ _ (by omega)).trans (va_up_ne _ _ (by omega)))).trans (by assumption) | exact (congrFun ((va_up_ne _ _ (by omega)).trans (va_up_ne _ _ (by omega))) _).trans (by assumption) | (rw [va_up_self, va_up_ne _ _ (by omega)]; assumption)) ?_
  refine tk_bipush dX5_set_9 kc_bipush_32 ?_
  first | refine tk_icmp_neN dX5_set_11 (by omega) (by omega) (fun h11 => ?_) (fun h11 => ?_) | refine tk_icmp_ne dX5_set_11 (fun h11 => ?_) (fun h11 => ?_)
  · refine tk_iload2 dX5_set_18 ?_
    refine tk_iconst dX5_set_19 kc_iconst_1 ?_
    refine tk_aload0 dX5_set_20 ?_
    refine tk_getI dX5_set_21 fX5_9 rfl (by first | assumption | exact va_up_self _ _ _ | exact (va_up_ne _ _ (by omega)).trans (by assumption) | exact congrArg Prod.fst (va_up_self _ _ _) | exact (congrArg Prod.fst (va_up_ne _ _ (by omega))).trans (by assumption) | exact (congrFun (va_up_ne _ _ (by omega)) _).trans (by assumption) | exact (va_up_ne _ _ (by omega)).trans (va_up_self _ _ _) | exact (va_up_ne _ _ (by omega)).trans ((va_up_ne _ _ (by omega)).trans (by assumption)) | exact (congrArg Prod.fst ((va_up_ne _ _ (by omega)).trans (va_up_ne _ _ (by omega)))).trans (by assumption) | exact (congrFun ((va_up_ne _ _ (by omega)).trans (va_up_ne _ _ (by omega))) _).trans (by assumption) | (rw [va_up_self, va_up_ne _ _ (by omega)]; assumption)) ?_
    refine tk_ishl dX5_set_24 ?_
    refine tk_iconst dX5_set_25 kc_iconst_1 ?_
    first | refine tk_isubN dX5_set_26 (by omega) ?_ | refine tk_isub dX5_set_26 ?_
    refine tk_iand dX5_set_27 ?_
    refine tk_iast dX5_set_28 (by first | assumption | exact va_up_self _ _ _ | exact (va_up_ne _ _ (by omega)).trans (by assumption) | exact congrArg Prod.fst (va_up_self _ _ _) | exact (congrArg Prod.fst (va_up_ne _ _ (by omega))).trans (by assumption) | exact (congrFun (va_up_ne _ _ (by omega)) _).trans (by assumption) | exact (va_up_ne _ _ (by omega)).trans (va_up_self _ _ _) | exact (va_up_ne _ _ (by omega)).trans ((va_up_ne _ _ (by omega)).trans (by assumption)) | exact (congrArg Prod.fst ((va_up_ne _ _ (by omega)).trans (va_up_ne _ _ (by omega)))).trans (by assumption) | exact (congrFun ((va_up_ne _ _ (by omega)).trans (va_up_ne _ _ (by omega))) _).trans (by assumption) | (rw [va_up_self, va_up_ne _ _ (by omega)]; assumption)) (by omega) (by omega) ?_
    refine tk_return dX5_set_29 rfl ?_
    refine ⟨rfl, ?_⟩
    unfold hMsk
    first | rw [if_neg h11] | rw [if_pos h11]
  · refine tk_iload2 dX5_set_14 ?_
    refine tk_goto dX5_set_15 ?_
    refine tk_iast dX5_set_28 (by first | assumption | exact va_up_self _ _ _ | exact (va_up_ne _ _ (by omega)).trans (by assumption) | exact congrArg Prod.fst (va_up_self _ _ _) | exact (congrArg Prod.fst (va_up_ne _ _ (by omega))).trans (by assumption) | exact (congrFun (va_up_ne _ _ (by omega)) _).trans (by assumption) | exact (va_up_ne _ _ (by omega)).trans (va_up_self _ _ _) | exact (va_up_ne _ _ (by omega)).trans ((va_up_ne _ _ (by omega)).trans (by assumption)) | exact (congrArg Prod.fst ((va_up_ne _ _ (by omega)).trans (va_up_ne _ _ (by omega)))).trans (by assumption) | exact (congrFun ((va_up_ne _ _ (by omega)).trans (va_up_ne _ _ (by omega))) _).trans (by assumption) | (rw [va_up_self, va_up_ne _ _ (by omega)]; assumption)) (by omega) (by omega) ?_
    refine tk_return dX5_set_29 rfl ?_
    refine ⟨rfl, ?_⟩
    unfold hMsk
    first | rw [if_neg h11] | rw [if_pos h11]
theorem c_hasPart {a b : Nat} (ho : hObj T P a b) (x y : Int32) : tkM G mX5_hasPart 0 0 0 [vR a, vI x, vI y] (n, T, I, L, P) (tkF (some (vI (tkb (hPt (I a 1) x y)))) (n, T, I, L, P)) := by
  obtain ⟨o1, o2, o3, o4⟩ := ho
  refine tkM.of (ls := [some _, some _, some _]) (by decide +kernel) (by decide +kernel) (Nat.le_of_ble_eq_true rfl) rfl ?_
  refine tk_iload1 dX5_hasPart_0 ?_
  refine tk_jf_lt dX5_hasPart_1 (fun h1 => ?_) (fun h1 => ?_)
  · refine tk_iconst dX5_hasPart_22 kc_iconst_0 ?_
    first | refine tk_zreturn dX5_hasPart_23 rfl ?_ | refine tk_zret0 dX5_hasPart_23 rfl ?_ | refine tk_zret1 dX5_hasPart_23 rfl ?_
    exact tkz (by first | exact hPt_1 h1 | exact hPt_2 h5 | exact hPt_3 h15 | exact hPt_4 h1 h5 h15)
  · refine tk_iload2 dX5_hasPart_4 ?_
    refine tk_jf_lt dX5_hasPart_5 (fun h5 => ?_) (fun h5 => ?_)
    · refine tk_iconst dX5_hasPart_22 kc_iconst_0 ?_
      first | refine tk_zreturn dX5_hasPart_23 rfl ?_ | refine tk_zret0 dX5_hasPart_23 rfl ?_ | refine tk_zret1 dX5_hasPart_23 rfl ?_
      exact tkz (by first | exact hPt_1 h1 | exact hPt_2 h5 | exact hPt_3 h15 | exact hPt_4 h1 h5 h15)
    · refine tk_iload2 dX5_hasPart_8 ?_
      refine tk_aload0 dX5_hasPart_9 ?_
      refine tk_getI dX5_hasPart_10 fX5_15 rfl (by first | assumption | exact va_up_self _ _ _ | exact (va_up_ne _ _ (by omega)).trans (by assumption) | exact congrArg Prod.fst (va_up_self _ _ _) | exact (congrArg Prod.fst (va_up_ne _ _ (by omega))).trans (by assumption) | exact (congrFun (va_up_ne _ _ (by omega)) _).trans (by assumption) | exact (va_up_ne _ _ (by omega)).trans (va_up_self _ _ _) | exact (va_up_ne _ _ (by omega)).trans ((va_up_ne _ _ (by omega)).trans (by assumption)) | exact (congrArg Prod.fst ((va_up_ne _ _ (by omega)).trans (va_up_ne _ _ (by omega)))).trans (by assumption) | exact (congrFun ((va_up_ne _ _ (by omega)).trans (va_up_ne _ _ (by omega))) _).trans (by assumption) | (rw [va_up_self, va_up_ne _ _ (by omega)]; assumption)) ?_
      refine tk_iload1 dX5_hasPart_13 ?_
      first | refine tk_isubN dX5_hasPart_14 (by omega) ?_ | refine tk_isub dX5_hasPart_14 ?_
      first | refine tk_icmp_gtN dX5_hasPart_15 (by omega) (by omega) (fun h15 => ?_) (fun h15 => ?_) | refine tk_jcmp_gt dX5_hasPart_15 (fun h15 => ?_) (fun h15 => ?_)
      · refine tk_iconst dX5_hasPart_22 kc_iconst_0 ?_
        first | refine tk_zreturn dX5_hasPart_23 rfl ?_ | refine tk_zret0 dX5_hasPart_23 rfl ?_ | refine tk_zret1 dX5_hasPart_23 rfl ?_
        exact tkz (by first | exact hPt_1 h1 | exact hPt_2 h5 | exact hPt_3 h15 | exact hPt_4 h1 h5 h15)
      · refine tk_iconst dX5_hasPart_18 kc_iconst_1 ?_
        refine tk_goto dX5_hasPart_19 ?_
        first | refine tk_zreturn dX5_hasPart_23 rfl ?_ | refine tk_zret0 dX5_hasPart_23 rfl ?_ | refine tk_zret1 dX5_hasPart_23 rfl ?_
        exact tkz (by first | exact hPt_1 h1 | exact hPt_2 h5 | exact hPt_3 h15 | exact hPt_4 h1 h5 h15)
end SHEET
