/-! ===== the reference: lay, see ===== -/
theorem rKp_an {I : Nat → Nat → Int32} {m a : Nat} (h : ¬ a = 40) (h2 : ¬ a = 60) : rKp I m a = I a := by
  unfold rKp
  split <;> rw [va_up_ne _ _ h2, va_up_ne _ _ h]
theorem rKp_40 {I : Nat → Nat → Int32} {m k : Nat} (h : ¬ k = 20) (h2 : ¬ k = 25) : rKp I m 40 k = I 40 k := by
  unfold rKp
  split <;> rw [va_up_ne _ _ (by decide), va_up_self, va_up_ne _ _ h2, va_up_ne _ _ h]
theorem rKp_20 {I : Nat → Nat → Int32} {m : Nat} (hm : m ≤ 12) : rKp I m 40 20 = nI (if m = 12 then 12 else m + 1) := by
  unfold rKp
  split <;> simp only [va_up_self, bx_uu, tk_une, tk_usrt, not_false_eq_true, Nat.reduceEqDiff, Nat.reduceLT, Nat.reduceAdd, Nat.reduceMul, Nat.reduceLeDiff, reduceCtorEq]
theorem rSnap_congr {I J : Nat → Nat → Int32} {f : Nat → Int32} {b : Nat} (h : ∀ a, 41 ≤ a ∧ a ≤ 59 → I a = J a) : rSnap I f b = rSnap J f b := by
  unfold rSnap
  rw [h 41 (by omega), h 42 (by omega), h 43 (by omega), h 44 (by omega), h 45 (by omega), h 46 (by omega), h 47 (by omega), h 48 (by omega), h 49 (by omega), h 50 (by omega), h 51 (by omega), h 52 (by omega), h 53 (by omega), h 54 (by omega), h 55 (by omega), h 56 (by omega), h 57 (by omega), h 58 (by omega), h 59 (by omega)]
theorem rSm_Kp {I J : Nat → Nat → Int32} {m : Nat} (h : rSm I J) : rSm (rKp I m) (rKp J m) := by
  refine ⟨fun a ha => ?_, ?_, ?_⟩
  · by_cases e : a = 60
    · subst e
      unfold rKp
      split <;> rw [va_up_self, va_up_self, rSnap_congr (fun a ha => h.1 a (by omega)), h.1 60 (by omega)]
    · rw [rKp_an (by omega) e, rKp_an (by omega) e]; exact h.1 a ha
  · unfold rKp
    split <;> simp only [va_up_self, bx_uu, tk_une, tk_usrt, not_false_eq_true, Nat.reduceEqDiff, Nat.reduceLT, Nat.reduceAdd, Nat.reduceMul, Nat.reduceLeDiff, reduceCtorEq]
  · rw [rKp_40 (by decide) (by decide), rKp_40 (by decide) (by decide)]; exact h.2.2
def rLay (J : Nat → Nat → Int32) (W r : Int32) (f c : Nat → Int32) : Nat → Nat → Int32 := va_up (va_up (va_up J 41 (va_up (va_up (J 41) 2 W) 3 r)) 42 (tkcp (J 42) f 64)) 43 (tkcp (J 43) c 256)
theorem rSm_Lay {I J : Nat → Nat → Int32} {W r : Int32} {f c : Nat → Int32} (h : rSm I J) : rSm (rLay I W r f c) (rLay J W r f c) := by
  unfold rLay
  refine ⟨fun a ha => ?_, ?_, ?_⟩
  · by_cases e1 : a = 43
    · subst e1; simp only [va_up_self]; rw [h.1 43 (by omega)]
    by_cases e2 : a = 42
    · subst e2; simp only [va_up_self, bx_uu, tk_une, tk_usrt, not_false_eq_true, Nat.reduceEqDiff, Nat.reduceLT, Nat.reduceAdd, Nat.reduceMul, Nat.reduceLeDiff, reduceCtorEq]; rw [h.1 42 (by omega)]
    by_cases e3 : a = 41
    · subst e3; simp only [va_up_self, bx_uu, tk_une, tk_usrt, not_false_eq_true, Nat.reduceEqDiff, Nat.reduceLT, Nat.reduceAdd, Nat.reduceMul, Nat.reduceLeDiff, reduceCtorEq]; rw [h.1 41 (by omega)]
    rw [va_up_ne _ _ e1, va_up_ne _ _ e2, va_up_ne _ _ e3, va_up_ne _ _ e1, va_up_ne _ _ e2, va_up_ne _ _ e3]
    exact h.1 a ha
  · simp only [va_up_self, bx_uu, tk_une, tk_usrt, not_false_eq_true, Nat.reduceEqDiff, Nat.reduceLT, Nat.reduceAdd, Nat.reduceMul, Nat.reduceLeDiff, reduceCtorEq]; exact h.2.1
  · simp only [va_up_self, bx_uu, tk_une, tk_usrt, not_false_eq_true, Nat.reduceEqDiff, Nat.reduceLT, Nat.reduceAdd, Nat.reduceMul, Nat.reduceLeDiff, reduceCtorEq]; exact h.2.2
section REFCC
variable {G : tkG} {n : Nat} {T : Nat → Nat × Nat} {I : Nat → Nat → Int32} {L : Nat → Nat → Int64} {P : Nat → Nat → Option Nat}
theorem r_lay (hR : tkRef T P) {m : Nat} (hm : m ≤ 12) (hk : I 40 20 = nI m) : tkM G mX11_lay 3 0 0 [vR 40] (n, T, I, L, P) (tkF (some (vI (I 40 26))) (n, T, rLay (rKp I m) (I 40 26) (I 40 27) (I 64) (I 65), L, P)) := by
  have e1 : I 40 26 = rKp I m 40 26 := (rKp_40 (by decide) (by decide)).symm
  have e2 : I 40 27 = rKp I m 40 27 := (rKp_40 (by decide) (by decide)).symm
  have e3 : I 64 = rKp I m 64 := (rKp_an (by decide) (by decide)).symm
  have e4 : I 65 = rKp I m 65 := (rKp_an (by decide) (by decide)).symm
  rw [e1, e2, e3, e4]
  have hkk := r_keep (G := G) (n := n) (L := L) hR hm hk
  generalize rKp I m = J at hkk ⊢
  refine tkM.of (ls := [some _, none]) (by decide +kernel) (by decide +kernel) (Nat.le_of_ble_eq_true rfl) rfl ?_
  refine tk_aload0 dX11_lay_0 ?_
  refine tk_callV0y dX11_lay_1 kX11_184 hR.o (hkk) (Nat.le_of_ble_eq_true rfl) (by omega) ?_
  refine tk_aload0 dX11_lay_4 ?_
  refine tk_getP dX11_lay_5 fX11_7 rfl hR.o (hR.p 0 rfl) ?_
  refine tk_iconst dX11_lay_8 kc_iconst_2 ?_
  refine tk_aload0 dX11_lay_9 ?_
  refine tk_getI dX11_lay_10 fX11_215 rfl hR.o ?_
  refine tk_iast dX11_lay_13 (hR.t 41 rfl) (by omega) (by omega) ?_
  refine tk_aload0 dX11_lay_14 ?_
  refine tk_getP dX11_lay_15 fX11_7 rfl hR.o (hR.p 0 rfl) ?_
  refine tk_iconst dX11_lay_18 kc_iconst_3 ?_
  refine tk_aload0 dX11_lay_19 ?_
  refine tk_getI dX11_lay_20 fX11_220 rfl hR.o ?_
  refine tk_iast dX11_lay_23 (hR.t 41 rfl) (by omega) (by omega) ?_
  refine tk_iconst dX11_lay_24 kc_iconst_0 ?_
  refine tk_istore1 dX11_lay_25 rfl ?_
  simp only [va_up_self, bx_uu, tk_une, tk_usrt, not_false_eq_true, Nat.reduceEqDiff, Nat.reduceLT, Nat.reduceAdd, Nat.reduceMul, Nat.reduceLeDiff, reduceCtorEq]
  refine tk_fr 0 64 (fun i => [some (vR 40), some (vI (nI i))]) (fun i => (n, T, va_up (va_up J 41 (va_up (va_up (J 41) 2 (J 40 26)) 3 (J 40 27))) 42 (tkcp (J 42) (J 64) i), L, P)) (by omega) (by repeat' (first | exact trivial | refine ⟨Or.inl rfl, ?_⟩ | refine ⟨Or.inr rfl, ?_⟩)) (by rw [tkcp_0, tk_uid (k := 42)]; simp only [va_up_self, bx_uu, tk_une, tk_usrt, not_false_eq_true, Nat.reduceEqDiff, Nat.reduceLT, Nat.reduceAdd, Nat.reduceMul, Nat.reduceLeDiff, reduceCtorEq]) ?_ ?_
  · refine tk_iload1 dX11_lay_26 ?_
    refine tk_bipush dX11_lay_27 kc_bipush_64 ?_
    first | refine tk_icmp_geN dX11_lay_29 (by omega) (by omega) (fun h29 => ?_) (fun h29 => ?_) | refine tk_jcmp_ge dX11_lay_29 (fun h29 => ?_) (fun h29 => ?_)
    · refine tk_iconst dX11_lay_50 kc_iconst_0 ?_
      refine tk_istore1 dX11_lay_51 rfl ?_
      refine tk_fr 0 256 (fun i => [some (vR 40), some (vI (nI i))]) (fun i => (n, T, va_up (va_up (va_up J 41 (va_up (va_up (J 41) 2 (J 40 26)) 3 (J 40 27))) 42 (tkcp (J 42) (J 64) 64)) 43 (tkcp (J 43) (J 65) i), L, P)) (by omega) (by repeat' (first | exact trivial | refine ⟨Or.inl rfl, ?_⟩ | refine ⟨Or.inr rfl, ?_⟩)) (by rw [tkcp_0, tk_uid (k := 43)]; simp only [va_up_self, bx_uu, tk_une, tk_usrt, not_false_eq_true, Nat.reduceEqDiff, Nat.reduceLT, Nat.reduceAdd, Nat.reduceMul, Nat.reduceLeDiff, reduceCtorEq]) ?_ ?_
      · refine tk_iload1 dX11_lay_52 ?_
        refine tk_sipush dX11_lay_53 kc_sipush_256 ?_
        first | refine tk_icmp_geN dX11_lay_56 (by omega) (by omega) (fun h56 => ?_) (fun h56 => ?_) | refine tk_jcmp_ge dX11_lay_56 (fun h56 => ?_) (fun h56 => ?_)
        · refine tk_aload0 dX11_lay_77 ?_
          refine tk_getI dX11_lay_78 fX11_215 rfl hR.o ?_
          refine tk_ireturn dX11_lay_81 rfl ?_
          exact ⟨by simp only [va_up_self, bx_uu, tk_une, tk_usrt, not_false_eq_true, Nat.reduceEqDiff, Nat.reduceLT, Nat.reduceAdd, Nat.reduceMul, Nat.reduceLeDiff, reduceCtorEq], rfl⟩
        · exfalso; omega
      · intro i _ hi k
        refine tk_iload1 dX11_lay_52 ?_
        refine tk_sipush dX11_lay_53 kc_sipush_256 ?_
        first | refine tk_icmp_geN dX11_lay_56 (by omega) (by omega) (fun h56 => ?_) (fun h56 => ?_) | refine tk_jcmp_ge dX11_lay_56 (fun h56 => ?_) (fun h56 => ?_)
        · exfalso; omega
        · refine tk_aload0 dX11_lay_59 ?_
          refine tk_getP dX11_lay_60 fX11_16 rfl hR.o (hR.p 2 rfl) ?_
          refine tk_iload1 dX11_lay_63 ?_
          refine tk_aload0 dX11_lay_64 ?_
          refine tk_getP dX11_lay_65 fX11_83 rfl hR.o (hR.p 29 rfl) ?_
          refine tk_iload1 dX11_lay_68 ?_
          refine tk_iald dX11_lay_69 (hR.t 65 rfl) (by omega) (by omega) ?_
          simp only [va_up_self, bx_uu, tk_une, tk_usrt, not_false_eq_true, Nat.reduceEqDiff, Nat.reduceLT, Nat.reduceAdd, Nat.reduceMul, Nat.reduceLeDiff, reduceCtorEq]
          refine tk_iast dX11_lay_70 (hR.t 43 rfl) (by omega) (by omega) ?_
          first | refine tk_iinc1 dX11_lay_71 (kc_inc _) rfl ?_ | refine tk_iinc1 dX11_lay_71 rfl rfl ?_
          refine tk_goto dX11_lay_74 ?_
          simp only [va_up_self, bx_uu, tk_une, tk_usrt, not_false_eq_true, Nat.reduceEqDiff, Nat.reduceLT, Nat.reduceAdd, Nat.reduceMul, Nat.reduceLeDiff, reduceCtorEq]
          rw [tkcp_s (J 43) (J 65)]
          exact k _ (by repeat' (first | exact trivial | refine ⟨Or.inl rfl, ?_⟩ | refine ⟨Or.inr rfl, ?_⟩))
    · exfalso; omega
  · intro i _ hi k
    refine tk_iload1 dX11_lay_26 ?_
    refine tk_bipush dX11_lay_27 kc_bipush_64 ?_
    first | refine tk_icmp_geN dX11_lay_29 (by omega) (by omega) (fun h29 => ?_) (fun h29 => ?_) | refine tk_jcmp_ge dX11_lay_29 (fun h29 => ?_) (fun h29 => ?_)
    · exfalso; omega
    · refine tk_aload0 dX11_lay_32 ?_
      refine tk_getP dX11_lay_33 fX11_13 rfl hR.o (hR.p 1 rfl) ?_
      refine tk_iload1 dX11_lay_36 ?_
      refine tk_aload0 dX11_lay_37 ?_
      refine tk_getP dX11_lay_38 fX11_80 rfl hR.o (hR.p 28 rfl) ?_
      refine tk_iload1 dX11_lay_41 ?_
      refine tk_iald dX11_lay_42 (hR.t 64 rfl) (by omega) (by omega) ?_
      simp only [va_up_self, bx_uu, tk_une, tk_usrt, not_false_eq_true, Nat.reduceEqDiff, Nat.reduceLT, Nat.reduceAdd, Nat.reduceMul, Nat.reduceLeDiff, reduceCtorEq]
      refine tk_iast dX11_lay_43 (hR.t 42 rfl) (by omega) (by omega) ?_
      first | refine tk_iinc1 dX11_lay_44 (kc_inc _) rfl ?_ | refine tk_iinc1 dX11_lay_44 rfl rfl ?_
      refine tk_goto dX11_lay_47 ?_
      simp only [va_up_self, bx_uu, tk_une, tk_usrt, not_false_eq_true, Nat.reduceEqDiff, Nat.reduceLT, Nat.reduceAdd, Nat.reduceMul, Nat.reduceLeDiff, reduceCtorEq]
      rw [tkcp_s (J 42) (J 64)]
      exact k _ (by repeat' (first | exact trivial | refine ⟨Or.inl rfl, ?_⟩ | refine ⟨Or.inr rfl, ?_⟩))
end REFCC
