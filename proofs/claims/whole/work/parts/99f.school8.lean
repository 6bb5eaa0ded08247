/-! ===== the class: school, two lessons looked for ===== -/
section SCHOOL8
variable {G : tkG} {n : Nat} {T : Nat → Nat × Nat} {I : Nat → Nat → Int32} {L : Nat → Nat → Int64} {P : Nat → Nat → Option Nat}
variable {wa c g np nf W r cn : Nat} {F ce gr cs : Nat → Int32} {cl : Nat → Nat}
theorem no_l {A : Nat → Prop} {a b : Nat} (h : ∀ j, j < a → j < b → ¬ A j) (h1 : a < b → ¬ A a) : ∀ j, j < a + 1 → j < b → ¬ A j := by
  intro j hj hb
  by_cases e : j = a
  · subst e; exact h1 hb
  · exact h j (by omega) hb
theorem sh_two {tw pic sta oa se pa ma ra len : Nat} {row : Nat → Int32} {Q : Option tkV → tkH → Prop} (hsc : scO T P tw wa) (ht : tObj T P tw pic sta oa se pa ma) (hst : T sta = (20, 4)) (hs36 : ¬ sta = 36) (hs38 : ¬ sta = 38) (hra : cRow n T I P ra len row) (hlen : 1 ≤ len) (hwf : WF np nf true row 14 (len - 1)) (hr : r < W)
    (h2 : ∀ l m J M, SI n T I L P wa c g np nf W r cn F ce gr cs cl J M → l < 4 * np → m < 4 * np → ∀ S1 t1, NXT np nf (I sta) (faF F) r l (fun w => w < W) (tieB (pB ce W)) S1 t1 → (∃ S' tie', NXT np nf (I sta) (faF F) r m S1 t1 S' tie' ∧ sGs np cn r F gr cs cl row len S' tie') → (∀ j, j < l → j < 4 * np → ¬ L1 np nf (I sta) (faF F) r (sGs np cn r F gr cs cl row len) 1 (fun w => w < W) (tieB (pB ce W)) j) → (∀ j, j < m → j < 4 * np → ¬ L1 np nf (I sta) (faF F) r (sGs np cn r F gr cs cl row len) 0 S1 t1 j) → Q (some (vI (nI 2))) (n, T, va_up J 36 (va_up (va_up (J 36) 3 (nI l)) 4 (nI m)), M, P))
    (h3 : ∀ J M, SI n T I L P wa c g np nf W r cn F ce gr cs cl J M → (∀ j, j < 16 → j < 4 * np → ¬ L1 np nf (I sta) (faF F) r (sGs np cn r F gr cs cl row len) 1 (fun w => w < W) (tieB (pB ce W)) j) → Q (some (vI (-1))) (n, T, J, M, P)) : ∀ (k l : Nat) (J : Nat → Nat → Int32) (M : Nat → Nat → Int64) (o4 o6 : Option tkV), l + k = 16 → SI n T I L P wa c g np nf W r cn F ce gr cs cl J M → (∀ j, j < l → j < 4 * np → ¬ L1 np nf (I sta) (faF F) r (sGs np cn r F gr cs cl row len) 1 (fun w => w < W) (tieB (pB ce W)) j) → tkX G mX4_shortest 95 0 0 100 [some (vR 36), some (vR ra), some (vR tw), some (vI (nI l)), o4, none, o6] [] (n, T, J, M, P) Q := by
  have hsc' := hsc
  obtain ⟨c1, c2, c3, c4⟩ := hsc'
  intro k
  induction k with
  | zero =>
    intro l J M o4 o6 hl hSI hno
    obtain rfl : l = 16 := by omega
    refine tk_iload3 dX4_shortest_100 ?_
    refine tk_bipush dX4_shortest_101 kc_bipush_16 ?_
    first | refine tk_icmp_geN dX4_shortest_103 (by omega) (by omega) (fun h103 => ?_) (fun h103 => ?_) | refine tk_jcmp_ge dX4_shortest_103 (fun h103 => ?_) (fun h103 => ?_)
    · refine tk_iconst dX4_shortest_203 kc_iconst_m1 ?_
      refine tk_ireturn dX4_shortest_204 rfl ?_
      exact h3 J M hSI (fun j hj => hno j (by omega))
    · exfalso; omega
  | succ k ih =>
    intro l J M o4 o6 hl hSI hno
    have hv := hSI.1
    have hv' := hv
    obtain ⟨-, hs7, hpw, hw, -, hW, hnp, hnf, -⟩ := hv'
    refine tk_iload3 dX4_shortest_100 ?_
    refine tk_bipush dX4_shortest_101 kc_bipush_16 ?_
    first | refine tk_icmp_geN dX4_shortest_103 (by omega) (by omega) (fun h103 => ?_) (fun h103 => ?_) | refine tk_jcmp_ge dX4_shortest_103 (fun h103 => ?_) (fun h103 => ?_)
    · exfalso; omega
    · refine tk_aload0 dX4_shortest_106 ?_
      refine tk_iload3 dX4_shortest_107 ?_
      refine tk_callV1q dX4_shortest_108 kX4_53 (by first | assumption | exact va_up_self _ _ _ | exact (va_up_ne _ _ (by omega)).trans (by assumption) | exact congrArg Prod.fst (va_up_self _ _ _) | exact (congrArg Prod.fst (va_up_ne _ _ (by omega))).trans (by assumption) | exact (congrFun (va_up_ne _ _ (by omega)) _).trans (by assumption) | exact (va_up_ne _ _ (by omega)).trans (va_up_self _ _ _) | exact (va_up_ne _ _ (by omega)).trans ((va_up_ne _ _ (by omega)).trans (by assumption)) | exact (congrArg Prod.fst ((va_up_ne _ _ (by omega)).trans (va_up_ne _ _ (by omega)))).trans (by assumption) | exact (congrFun ((va_up_ne _ _ (by omega)).trans (va_up_ne _ _ (by omega))) _).trans (by assumption) | (rw [va_up_self, va_up_ne _ _ (by omega)]; assumption)) (c_taughtFirst hsc hs7 hpw ht hst hs38 hw hW hr hnp hnf (show l < 16 by omega)) (Nat.le_of_ble_eq_true rfl) (by omega) ?_
      rintro rr hh1 hq
      rw [hSI.2.2.1 sta hs36 hs38] at hq
      obtain ⟨x, ta, rfl, rfl, q1, q2, q3, q4⟩ := TF_read hq hSI.2.1 (by omega) hnp hnf hW hr
      dsimp only [Option.toList, List.singleton_append]
      refine tk_lstore4 dX4_shortest_111 rfl ?_
      refine tk_iconst dX4_shortest_113 kc_iconst_0 ?_
      refine tk_istore6 dX4_shortest_114 rfl ?_
      rcases q4 with ⟨z1, z2⟩ | ⟨z1, z2, z3, z4⟩
      · refine tk_iload6 dX4_shortest_116 ?_
        refine tk_bipush dX4_shortest_118 kc_bipush_16 ?_
        first | refine tk_icmp_geN dX4_shortest_120 (by omega) (by omega) (fun h120 => ?_) (fun h120 => ?_) | refine tk_jcmp_ge dX4_shortest_120 (fun h120 => ?_) (fun h120 => ?_)
        · first | refine tk_iinc3 dX4_shortest_197 (kc_inc _) rfl ?_ | refine tk_iinc3 dX4_shortest_197 rfl rfl ?_
          refine tk_goto dX4_shortest_200 ?_
          refine ih (l + 1) _ _ _ _ (by omega) (hSI.ta q1 q2 lSm.rf) (no_l hno (fun hj4 ⟨S', tie', n1, n2⟩ => z2 S' tie' hj4 n1))
        · refine tk_lload4 dX4_shortest_123 ?_
          refine tk_lconst dX4_shortest_125 (v := 0) (by decide) ?_
          refine tk_lcmp dX4_shortest_126 ?_
          first | refine tk_jf_eqB dX4_shortest_127 (fun h127 => ?_) (fun h127 => ?_) | refine tk_if_eq dX4_shortest_127 (fun h127 => ?_) (fun h127 => ?_)
          · first | refine tk_iinc3 dX4_shortest_197 (kc_inc _) rfl ?_ | refine tk_iinc3 dX4_shortest_197 rfl rfl ?_
            refine tk_goto dX4_shortest_200 ?_
            refine ih (l + 1) _ _ _ _ (by omega) (hSI.ta q1 q2 lSm.rf) (no_l hno (fun hj4 ⟨S', tie', n1, n2⟩ => z2 S' tie' hj4 n1))
          · exact absurd ((lgc0 _ _).mpr z1) h127
      · subst z3
        refine sh_in hsc ht hst hs36 hs38 hra hlen hwf hr (show l < 16 by omega) q3 z1 (fun m J' M' s1 s2 s3 s4 => ?_) (fun J' M' s1 s2 => ?_) 16 0 _ _ (by omega) (hSI.ta q1 q2 lSm.rf) (fun j hj => by omega)
        · exact h2 l m J' M' s1 z2 s2 _ _ z4 s3 hno s4
        · first | refine tk_iinc3 dX4_shortest_197 (kc_inc _) rfl ?_ | refine tk_iinc3 dX4_shortest_197 rfl rfl ?_
          refine tk_goto dX4_shortest_200 ?_
          refine ih (l + 1) _ _ _ _ (by omega) s1 (no_l hno (fun hj4 ⟨S', tie', n1, n2⟩ => ?_))
          obtain ⟨u1, u2⟩ := NXT_uniq n1 z4
          rw [u1, u2] at n2
          exact LOK_no hnp s2 n2
end SCHOOL8
