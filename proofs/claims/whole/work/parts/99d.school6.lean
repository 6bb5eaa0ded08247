/-! ===== the class: school, one lesson looked for ===== -/
section SCHOOL6
variable {G : tkG} {n : Nat} {T : Nat → Nat × Nat} {I : Nat → Nat → Int32} {L : Nat → Nat → Int64} {P : Nat → Nat → Option Nat}
variable {wa c g np nf W r cn : Nat} {F ce gr cs : Nat → Int32} {cl : Nat → Nat}
/-- the school at work: only its own cells are written -/
def SI (n : Nat) (T : Nat → Nat × Nat) (I : Nat → Nat → Int32) (L : Nat → Nat → Int64) (P : Nat → Nat → Option Nat) (wa c g np nf W r cn : Nat) (F ce gr cs : Nat → Int32) (cl : Nat → Nat) (J : Nat → Nat → Int32) (L1 : Nat → Nat → Int64) : Prop := sVw n T J L1 P 37 wa c g np nf W r cn F ce gr cs cl ∧ (∀ q, 4 ≤ q → J 38 q = nI 0) ∧ (∀ a, ¬ a = 36 → ¬ a = 38 → J a = I a) ∧ lSm 37 L L1
theorem SI.ta {J : Nat → Nat → Int32} {L1 L2 : Nat → Nat → Int64} {ta : Nat → Int32} (h : SI n T I L P wa c g np nf W r cn F ce gr cs cl J L1) (ht : tauN ta) (hz : ∀ q, 4 ≤ q → ta q = nI 0) (hL : lSm 37 L1 L2) : SI n T I L P wa c g np nf W r cn F ce gr cs cl (va_up J 38 ta) L2 := by
  obtain ⟨h1, h2, h3, h4⟩ := h
  refine ⟨(h1.ta ht).L hL, by rw [va_up_self]; exact hz, fun a a1 a2 => ?_, h4.tr hL⟩
  rw [va_up_ne _ _ a2]; exact h3 a a1 a2
def sGs (np cn r : Nat) (F gr cs : Nat → Int32) (cl : Nat → Nat) (row : Nat → Int32) (len : Nat) : (Nat → Prop) → (Nat → Nat → Nat → Prop) → Prop := fun S tie => sSO np cn (faF F) tie (memG gr) cs cl row len S r
theorem sh_one {tw pic sta oa se pa ma ra len : Nat} {row : Nat → Int32} {Q : Option tkV → tkH → Prop} {o4 o5 o6 : Option tkV} (hsc : scO T P tw wa) (ht : tObj T P tw pic sta oa se pa ma) (hst : T sta = (20, 4)) (hs36 : ¬ sta = 36) (hs38 : ¬ sta = 38) (hra : cRow n T I P ra len row) (hlen : 1 ≤ len) (hwf : WF np nf true row 14 (len - 1)) (hr : r < W)
    (h1 : ∀ l J M, SI n T I L P wa c g np nf W r cn F ce gr cs cl J M → l < 4 * np → (∃ S' tie', NXT np nf (I sta) (faF F) r l (fun w => w < W) (tieB (pB ce W)) S' tie' ∧ sGs np cn r F gr cs cl row len S' tie') → (∀ j, j < l → j < 4 * np → ¬ L1 np nf (I sta) (faF F) r (sGs np cn r F gr cs cl row len) 0 (fun w => w < W) (tieB (pB ce W)) j) → Q (some (vI (nI 1))) (n, T, va_up J 36 (va_up (J 36) 3 (nI l)), M, P))
    (h98 : ∀ J M, SI n T I L P wa c g np nf W r cn F ce gr cs cl J M → (∀ j, j < 16 → j < 4 * np → ¬ L1 np nf (I sta) (faF F) r (sGs np cn r F gr cs cl row len) 0 (fun w => w < W) (tieB (pB ce W)) j) → tkX G mX4_shortest 95 0 0 98 [some (vR 36), some (vR ra), some (vR tw), some (vI (nI 16)), o4, o5, o6] [] (n, T, J, M, P) Q) : ∀ (k l : Nat) (J : Nat → Nat → Int32) (M : Nat → Nat → Int64), l + k = 16 → SI n T I L P wa c g np nf W r cn F ce gr cs cl J M → (∀ j, j < l → j < 4 * np → ¬ L1 np nf (I sta) (faF F) r (sGs np cn r F gr cs cl row len) 0 (fun w => w < W) (tieB (pB ce W)) j) → tkX G mX4_shortest 95 0 0 56 [some (vR 36), some (vR ra), some (vR tw), some (vI (nI l)), o4, o5, o6] [] (n, T, J, M, P) Q := by
  have hsc' := hsc
  obtain ⟨c1, c2, c3, c4⟩ := hsc'
  have hrow : ∀ J' : Nat → Nat → Int32, (∀ a, ¬ a = 36 → ¬ a = 38 → J' a = I a) → cRow n T J' P ra len row := fun J' hJ => hra.ex (L := L) (L' := L) ⟨Nat.le_refl _, fun b hb => ⟨rfl, by have := hb.1; exact hJ b (by omega) (by omega), rfl, rfl⟩⟩
  intro k
  induction k with
  | zero =>
    intro l J M hl hSI hno
    obtain rfl : l = 16 := by omega
    refine tk_iload3 dX4_shortest_56 ?_
    refine tk_bipush dX4_shortest_57 kc_bipush_16 ?_
    first | refine tk_icmp_geN dX4_shortest_59 (by omega) (by omega) (fun h59 => ?_) (fun h59 => ?_) | refine tk_jcmp_ge dX4_shortest_59 (fun h59 => ?_) (fun h59 => ?_)
    · exact h98 J M hSI (fun j hj => hno j (by omega))
    · exfalso; omega
  | succ k ih =>
    intro l J M hl hSI hno
    have hv := hSI.1
    have hv' := hv
    obtain ⟨-, hs7, hpw, hw, -, hW, hnp, hnf, -⟩ := hv'
    have hta7 := hs7.1
    have hwt : (T wa).1 = 9 := hw.2.1
    refine tk_iload3 dX4_shortest_56 ?_
    refine tk_bipush dX4_shortest_57 kc_bipush_16 ?_
    first | refine tk_icmp_geN dX4_shortest_59 (by omega) (by omega) (fun h59 => ?_) (fun h59 => ?_) | refine tk_jcmp_ge dX4_shortest_59 (fun h59 => ?_) (fun h59 => ?_)
    · exfalso; omega
    · refine tk_aload0 dX4_shortest_62 ?_
      refine tk_getP dX4_shortest_63 fX4_34 rfl (by first | assumption | exact va_up_self _ _ _ | exact (va_up_ne _ _ (by omega)).trans (by assumption) | exact congrArg Prod.fst (va_up_self _ _ _) | exact (congrArg Prod.fst (va_up_ne _ _ (by omega))).trans (by assumption) | exact (congrFun (va_up_ne _ _ (by omega)) _).trans (by assumption) | exact (va_up_ne _ _ (by omega)).trans (va_up_self _ _ _) | exact (va_up_ne _ _ (by omega)).trans ((va_up_ne _ _ (by omega)).trans (by assumption)) | exact (congrArg Prod.fst ((va_up_ne _ _ (by omega)).trans (va_up_ne _ _ (by omega)))).trans (by assumption) | exact (congrFun ((va_up_ne _ _ (by omega)).trans (va_up_ne _ _ (by omega))) _).trans (by assumption) | (rw [va_up_self, va_up_ne _ _ (by omega)]; assumption)) (by first | assumption | exact va_up_self _ _ _ | exact (va_up_ne _ _ (by omega)).trans (by assumption) | exact congrArg Prod.fst (va_up_self _ _ _) | exact (congrArg Prod.fst (va_up_ne _ _ (by omega))).trans (by assumption) | exact (congrFun (va_up_ne _ _ (by omega)) _).trans (by assumption) | exact (va_up_ne _ _ (by omega)).trans (va_up_self _ _ _) | exact (va_up_ne _ _ (by omega)).trans ((va_up_ne _ _ (by omega)).trans (by assumption)) | exact (congrArg Prod.fst ((va_up_ne _ _ (by omega)).trans (va_up_ne _ _ (by omega)))).trans (by assumption) | exact (congrFun ((va_up_ne _ _ (by omega)).trans (va_up_ne _ _ (by omega))) _).trans (by assumption) | (rw [va_up_self, va_up_ne _ _ (by omega)]; assumption)) ?_
      refine tk_aload0 dX4_shortest_66 ?_
      refine tk_getP dX4_shortest_67 fX4_12 rfl (by first | assumption | exact va_up_self _ _ _ | exact (va_up_ne _ _ (by omega)).trans (by assumption) | exact congrArg Prod.fst (va_up_self _ _ _) | exact (congrArg Prod.fst (va_up_ne _ _ (by omega))).trans (by assumption) | exact (congrFun (va_up_ne _ _ (by omega)) _).trans (by assumption) | exact (va_up_ne _ _ (by omega)).trans (va_up_self _ _ _) | exact (va_up_ne _ _ (by omega)).trans ((va_up_ne _ _ (by omega)).trans (by assumption)) | exact (congrArg Prod.fst ((va_up_ne _ _ (by omega)).trans (va_up_ne _ _ (by omega)))).trans (by assumption) | exact (congrFun ((va_up_ne _ _ (by omega)).trans (va_up_ne _ _ (by omega))) _).trans (by assumption) | (rw [va_up_self, va_up_ne _ _ (by omega)]; assumption)) (by first | assumption | exact va_up_self _ _ _ | exact (va_up_ne _ _ (by omega)).trans (by assumption) | exact congrArg Prod.fst (va_up_self _ _ _) | exact (congrArg Prod.fst (va_up_ne _ _ (by omega))).trans (by assumption) | exact (congrFun (va_up_ne _ _ (by omega)) _).trans (by assumption) | exact (va_up_ne _ _ (by omega)).trans (va_up_self _ _ _) | exact (va_up_ne _ _ (by omega)).trans ((va_up_ne _ _ (by omega)).trans (by assumption)) | exact (congrArg Prod.fst ((va_up_ne _ _ (by omega)).trans (va_up_ne _ _ (by omega)))).trans (by assumption) | exact (congrFun ((va_up_ne _ _ (by omega)).trans (va_up_ne _ _ (by omega))) _).trans (by assumption) | (rw [va_up_self, va_up_ne _ _ (by omega)]; assumption)) ?_
      refine tk_aload1 dX4_shortest_70 ?_
      refine tk_aload0 dX4_shortest_71 ?_
      refine tk_iload3 dX4_shortest_72 ?_
      refine tk_callV1q dX4_shortest_73 kX4_53 (by first | assumption | exact va_up_self _ _ _ | exact (va_up_ne _ _ (by omega)).trans (by assumption) | exact congrArg Prod.fst (va_up_self _ _ _) | exact (congrArg Prod.fst (va_up_ne _ _ (by omega))).trans (by assumption) | exact (congrFun (va_up_ne _ _ (by omega)) _).trans (by assumption) | exact (va_up_ne _ _ (by omega)).trans (va_up_self _ _ _) | exact (va_up_ne _ _ (by omega)).trans ((va_up_ne _ _ (by omega)).trans (by assumption)) | exact (congrArg Prod.fst ((va_up_ne _ _ (by omega)).trans (va_up_ne _ _ (by omega)))).trans (by assumption) | exact (congrFun ((va_up_ne _ _ (by omega)).trans (va_up_ne _ _ (by omega))) _).trans (by assumption) | (rw [va_up_self, va_up_ne _ _ (by omega)]; assumption)) (c_taughtFirst hsc hv.2.1 hv.2.2.1 ht hst hs38 hv.2.2.2.1 hW hr hnp hnf (show l < 16 by omega)) (Nat.le_of_ble_eq_true rfl) (by omega) ?_
      rintro rr hh1 hq
      rw [hSI.2.2.1 sta hs36 hs38] at hq
      obtain ⟨x, ta, rfl, rfl, q1, q2, q3, q4⟩ := TF_read hq hSI.2.1 (by omega) hnp hnf hW hr
      dsimp only [Option.toList, List.singleton_append]
      refine tk_callV2q dX4_shortest_76 kX4_45 (by first | assumption | exact va_up_self _ _ _ | exact (va_up_ne _ _ (by omega)).trans (by assumption) | exact congrArg Prod.fst (va_up_self _ _ _) | exact (congrArg Prod.fst (va_up_ne _ _ (by omega))).trans (by assumption) | exact (congrFun (va_up_ne _ _ (by omega)) _).trans (by assumption) | exact (va_up_ne _ _ (by omega)).trans (va_up_self _ _ _) | exact (va_up_ne _ _ (by omega)).trans ((va_up_ne _ _ (by omega)).trans (by assumption)) | exact (congrArg Prod.fst ((va_up_ne _ _ (by omega)).trans (va_up_ne _ _ (by omega)))).trans (by assumption) | exact (congrFun ((va_up_ne _ _ (by omega)).trans (va_up_ne _ _ (by omega))) _).trans (by assumption) | (rw [va_up_self, va_up_ne _ _ (by omega)]; assumption)) (c_soIn (hv.ta q1) (hrow _ (fun a a1 a2 => (va_up_ne _ _ a2).trans (hSI.2.2.1 a a1 a2))) hlen hwf q3) (Nat.le_of_ble_eq_true rfl) (by omega) ?_
      rintro rr hh1 ⟨y, M2, rfl, rfl, m1, m2⟩
      rw [show va_up J 38 ta (37 + 1) = ta from va_up_self _ _ _] at m2
      dsimp only [Option.toList, List.singleton_append]
      refine tk_callV1z dX4_shortest_79 kX4_49 (by first | assumption | exact va_up_self _ _ _ | exact (va_up_ne _ _ (by omega)).trans (by assumption) | exact congrArg Prod.fst (va_up_self _ _ _) | exact (congrArg Prod.fst (va_up_ne _ _ (by omega))).trans (by assumption) | exact (congrFun (va_up_ne _ _ (by omega)) _).trans (by assumption) | exact (va_up_ne _ _ (by omega)).trans (va_up_self _ _ _) | exact (va_up_ne _ _ (by omega)).trans ((va_up_ne _ _ (by omega)).trans (by assumption)) | exact (congrArg Prod.fst ((va_up_ne _ _ (by omega)).trans (va_up_ne _ _ (by omega)))).trans (by assumption) | exact (congrFun ((va_up_ne _ _ (by omega)).trans (va_up_ne _ _ (by omega))) _).trans (by assumption) | (rw [va_up_self, va_up_ne _ _ (by omega)]; assumption)) (c_hasReal ((hv.ta q1).L m1).2.2.2.1 (by omega) y) (Nat.le_of_ble_eq_true rfl) (by omega) ?_
      first | refine tk_jf_eqB dX4_shortest_82 (fun h82 => ?_) (fun h82 => ?_) | refine tk_if_eq dX4_shortest_82 (fun h82 => ?_) (fun h82 => ?_)
      · first | refine tk_iinc3 dX4_shortest_92 (kc_inc _) rfl ?_ | refine tk_iinc3 dX4_shortest_92 rfl rfl ?_
        refine tk_goto dX4_shortest_95 ?_
        refine ih (l + 1) _ _ (by omega) (hSI.ta q1 q2 m1) (fun j hj hj4 => ?_)
        by_cases e : j = l
        · rw [e]
          rintro ⟨S', tie', n1, n2⟩
          rcases q4 with ⟨z1, z2⟩ | ⟨z1, z2, z3, z4⟩
          · exact z2 S' tie' (by omega) n1
          · obtain ⟨u1, u2⟩ := NXT_uniq n1 z4
            rw [u1, u2] at n2
            exact tbF h82 ((m2 r).mpr n2)
        · exact hno j (by omega) hj4
      · refine tk_aload0 dX4_shortest_85 ?_
        refine tk_iload3 dX4_shortest_86 ?_
        refine tk_putI dX4_shortest_87 fX4_57 wX4_shortest_X4_3 rfl (by first | assumption | exact va_up_self _ _ _ | exact (va_up_ne _ _ (by omega)).trans (by assumption) | exact congrArg Prod.fst (va_up_self _ _ _) | exact (congrArg Prod.fst (va_up_ne _ _ (by omega))).trans (by assumption) | exact (congrFun (va_up_ne _ _ (by omega)) _).trans (by assumption) | exact (va_up_ne _ _ (by omega)).trans (va_up_self _ _ _) | exact (va_up_ne _ _ (by omega)).trans ((va_up_ne _ _ (by omega)).trans (by assumption)) | exact (congrArg Prod.fst ((va_up_ne _ _ (by omega)).trans (va_up_ne _ _ (by omega)))).trans (by assumption) | exact (congrFun ((va_up_ne _ _ (by omega)).trans (va_up_ne _ _ (by omega))) _).trans (by assumption) | (rw [va_up_self, va_up_ne _ _ (by omega)]; assumption)) ?_
        refine tk_iconst dX4_shortest_90 kc_iconst_1 ?_
        refine tk_ireturn dX4_shortest_91 rfl ?_
        have hxr : tb x r = true := sSO_sub ((m2 r).mp h82)
        rcases q4 with ⟨z1, z2⟩ | ⟨z1, z2, z3, z4⟩
        · rw [z1, tb_0] at hxr; cases hxr
        · exact h1 l _ _ (hSI.ta q1 q2 m1) z2 ⟨_, _, z4, (m2 r).mp h82⟩ hno
end SCHOOL6
