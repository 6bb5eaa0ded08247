/-! ===== the class: school, a second lesson looked for ===== -/
section SCHOOL7
variable {G : tkG} {n : Nat} {T : Nat → Nat × Nat} {I : Nat → Nat → Int32} {L : Nat → Nat → Int64} {P : Nat → Nat → Option Nat}
variable {wa c g np nf W r cn : Nat} {F ce gr cs : Nat → Int32} {cl : Nat → Nat}
theorem ts_sum {J : Nat → Nat → Int32} {ta : Nat → Int32} {st : Nat → Int32} {S : Nat → Prop} {tie : Nat → Nat → Nat → Prop} {I' : Nat → Nat → Int32} {m : Nat} {x y : Int64} (hx : ∀ u, tb x u = true → u < W) (hx0 : ¬ x = 0) (htN : tauN ta) (htz : ∀ q, 4 ≤ q → ta q = nI 0) (hm : m < 16) (hq : (y = 0 ∧ I' = va_up J 38 ta ∧ (x = 0 ∨ ∀ S' tie', m < 4 * np → ¬ NXT np nf st (faF F) r m S tie S' tie')) ∨ (¬ x = 0 ∧ tb y r = true ∧ I' = va_up (va_up J 38 ta) 38 (tauP ta (m / 4) (m % 4)) ∧ m < 4 * np ∧ (∀ u, tb y u = true → tb x u = true) ∧ NXT np nf st (faF F) r m S tie (fun u => tb y u = true) (cTi ce F W nf (tauP ta (m / 4) (m % 4))))) : ∃ ta2, I' = va_up J 38 ta2 ∧ tauN ta2 ∧ (∀ q, 4 ≤ q → ta2 q = nI 0) ∧ (∀ u, tb y u = true → u < W) ∧ ((y = 0 ∧ ∀ S' tie', m < 4 * np → ¬ NXT np nf st (faF F) r m S tie S' tie') ∨ (m < 4 * np ∧ NXT np nf st (faF F) r m S tie (fun u => tb y u = true) (cTi ce F W nf ta2))) := by
  rcases hq with ⟨a1, a2, a3⟩ | ⟨a1, a2, a3, a4, a5, a6⟩
  · refine ⟨ta, a2, htN, htz, fun u hu => ?_, Or.inl ⟨a1, a3.resolve_left hx0⟩⟩
    rw [a1, tb_0] at hu; cases hu
  · have hm4 : m / 4 < 4 := by omega
    have hf4 : m % 4 < 4 := by omega
    exact ⟨_, by rw [a3, bx_uu], tauN_P htN hm4 hf4, tauP_z htz hm4, fun u hu => hx u (a5 u hu), Or.inr ⟨a4, a6⟩⟩
theorem sh_in {tw pic sta oa se pa ma ra len l : Nat} {x : Int64} {row : Nat → Int32} {Q : Option tkV → tkH → Prop} (hsc : scO T P tw wa) (ht : tObj T P tw pic sta oa se pa ma) (hst : T sta = (20, 4)) (hs36 : ¬ sta = 36) (hs38 : ¬ sta = 38) (hra : cRow n T I P ra len row) (hlen : 1 ≤ len) (hwf : WF np nf true row 14 (len - 1)) (hr : r < W) (hl16 : l < 16) (hx : ∀ u, tb x u = true → u < W) (hxr : tb x r = true)
    (h2 : ∀ m J M, SI n T I L P wa c g np nf W r cn F ce gr cs cl J M → m < 4 * np → (∃ S' tie', NXT np nf (I sta) (faF F) r m (fun u => tb x u = true) (cTi ce F W nf (tauP (fun _ => nI 0) (l / 4) (l % 4))) S' tie' ∧ sGs np cn r F gr cs cl row len S' tie') → (∀ j, j < m → j < 4 * np → ¬ L1 np nf (I sta) (faF F) r (sGs np cn r F gr cs cl row len) 0 (fun u => tb x u = true) (cTi ce F W nf (tauP (fun _ => nI 0) (l / 4) (l % 4))) j) → Q (some (vI (nI 2))) (n, T, va_up J 36 (va_up (va_up (J 36) 3 (nI l)) 4 (nI m)), M, P))
    (h197 : ∀ J M, SI n T I L P wa c g np nf W r cn F ce gr cs cl J M → (∀ j, j < 16 → j < 4 * np → ¬ L1 np nf (I sta) (faF F) r (sGs np cn r F gr cs cl row len) 0 (fun u => tb x u = true) (cTi ce F W nf (tauP (fun _ => nI 0) (l / 4) (l % 4))) j) → tkX G mX4_shortest 95 0 0 197 [some (vR 36), some (vR ra), some (vR tw), some (vI (nI l)), some (vL x), none, some (vI (nI 16))] [] (n, T, J, M, P) Q) : ∀ (k m : Nat) (J : Nat → Nat → Int32) (M : Nat → Nat → Int64), m + k = 16 → SI n T I L P wa c g np nf W r cn F ce gr cs cl J M → (∀ j, j < m → j < 4 * np → ¬ L1 np nf (I sta) (faF F) r (sGs np cn r F gr cs cl row len) 0 (fun u => tb x u = true) (cTi ce F W nf (tauP (fun _ => nI 0) (l / 4) (l % 4))) j) → tkX G mX4_shortest 95 0 0 116 [some (vR 36), some (vR ra), some (vR tw), some (vI (nI l)), some (vL x), none, some (vI (nI m))] [] (n, T, J, M, P) Q := by
  have hsc' := hsc
  obtain ⟨c1, c2, c3, c4⟩ := hsc'
  have hrow : ∀ J' : Nat → Nat → Int32, (∀ a, ¬ a = 36 → ¬ a = 38 → J' a = I a) → cRow n T J' P ra len row := fun J' hJ => hra.ex (L := L) (L' := L) ⟨Nat.le_refl _, fun b hb => ⟨rfl, by have := hb.1; exact hJ b (by omega) (by omega), rfl, rfl⟩⟩
  have hx0 : ¬ x = 0 := fun e => by rw [e, tb_0] at hxr; cases hxr
  have htN : tauN (tauP (fun _ => nI 0) (l / 4) (l % 4)) := tauN_P tauN_z (by omega) (by omega)
  have htz : ∀ q, 4 ≤ q → tauP (fun _ => nI 0) (l / 4) (l % 4) q = nI 0 := tauP_z (fun _ _ => rfl) (by omega)
  intro k
  induction k with
  | zero =>
    intro m J M hl hSI hno
    obtain rfl : m = 16 := by omega
    refine tk_iload6 dX4_shortest_116 ?_
    refine tk_bipush dX4_shortest_118 kc_bipush_16 ?_
    first | refine tk_icmp_geN dX4_shortest_120 (by omega) (by omega) (fun h120 => ?_) (fun h120 => ?_) | refine tk_jcmp_ge dX4_shortest_120 (fun h120 => ?_) (fun h120 => ?_)
    · exact h197 J M hSI (fun j hj => hno j (by omega))
    · exfalso; omega
  | succ k ih =>
    intro m J M hl hSI hno
    have hv := hSI.1
    have hv' := hv
    obtain ⟨-, hs7, hpw, hw, -, hW, hnp, hnf, -⟩ := hv'
    have hta7 := hs7.1
    have hwt : (T wa).1 = 9 := hw.2.1
    have hv2 := hv.ta htN
    have hJ2 : va_up (va_up J (37 + 1) (tkcp (J (37 + 1)) (fun _ => nI 0) 4)) (37 + 1) (va_up (va_up J (37 + 1) (tkcp (J (37 + 1)) (fun _ => nI 0) 4) (37 + 1)) (l / 4) (va_up J (37 + 1) (tkcp (J (37 + 1)) (fun _ => nI 0) 4) (37 + 1) (l / 4) ||| kshl (nI 1) (nI (l % 4)))) = va_up J 38 (tauP (fun _ => nI 0) (l / 4) (l % 4)) := by
      rw [bx_uu, va_up_self, show tkcp (J (37 + 1)) (fun _ => nI 0) 4 = fun _ => nI 0 from tau0_z hSI.2.1]
      rfl
    refine tk_iload6 dX4_shortest_116 ?_
    refine tk_bipush dX4_shortest_118 kc_bipush_16 ?_
    first | refine tk_icmp_geN dX4_shortest_120 (by omega) (by omega) (fun h120 => ?_) (fun h120 => ?_) | refine tk_jcmp_ge dX4_shortest_120 (fun h120 => ?_) (fun h120 => ?_)
    · first
        | (exfalso; omega)
        | exact absurd ((lgc0 _ _).mp h127) hx0
    · refine tk_lload4 dX4_shortest_123 ?_
      refine tk_lconst dX4_shortest_125 (v := 0) (by decide) ?_
      refine tk_lcmp dX4_shortest_126 ?_
      first | refine tk_jf_eqB dX4_shortest_127 (fun h127 => ?_) (fun h127 => ?_) | refine tk_if_eq dX4_shortest_127 (fun h127 => ?_) (fun h127 => ?_)
      · first
          | (exfalso; omega)
          | exact absurd ((lgc0 _ _).mp h127) hx0
      · refine tk_aload0 dX4_shortest_130 ?_
        refine tk_getP dX4_shortest_131 fX4_12 rfl (by first | assumption | exact va_up_self _ _ _ | exact (va_up_ne _ _ (by omega)).trans (by assumption) | exact congrArg Prod.fst (va_up_self _ _ _) | exact (congrArg Prod.fst (va_up_ne _ _ (by omega))).trans (by assumption) | exact (congrFun (va_up_ne _ _ (by omega)) _).trans (by assumption) | exact (va_up_ne _ _ (by omega)).trans (va_up_self _ _ _) | exact (va_up_ne _ _ (by omega)).trans ((va_up_ne _ _ (by omega)).trans (by assumption)) | exact (congrArg Prod.fst ((va_up_ne _ _ (by omega)).trans (va_up_ne _ _ (by omega)))).trans (by assumption) | exact (congrFun ((va_up_ne _ _ (by omega)).trans (va_up_ne _ _ (by omega))) _).trans (by assumption) | (rw [va_up_self, va_up_ne _ _ (by omega)]; assumption)) (by first | assumption | exact va_up_self _ _ _ | exact (va_up_ne _ _ (by omega)).trans (by assumption) | exact congrArg Prod.fst (va_up_self _ _ _) | exact (congrArg Prod.fst (va_up_ne _ _ (by omega))).trans (by assumption) | exact (congrFun (va_up_ne _ _ (by omega)) _).trans (by assumption) | exact (va_up_ne _ _ (by omega)).trans (va_up_self _ _ _) | exact (va_up_ne _ _ (by omega)).trans ((va_up_ne _ _ (by omega)).trans (by assumption)) | exact (congrArg Prod.fst ((va_up_ne _ _ (by omega)).trans (va_up_ne _ _ (by omega)))).trans (by assumption) | exact (congrFun ((va_up_ne _ _ (by omega)).trans (va_up_ne _ _ (by omega))) _).trans (by assumption) | (rw [va_up_self, va_up_ne _ _ (by omega)]; assumption)) ?_
        refine tk_callV0y dX4_shortest_134 kX4_61 (by first | assumption | exact va_up_self _ _ _ | exact (va_up_ne _ _ (by omega)).trans (by assumption) | exact congrArg Prod.fst (va_up_self _ _ _) | exact (congrArg Prod.fst (va_up_ne _ _ (by omega))).trans (by assumption) | exact (congrFun (va_up_ne _ _ (by omega)) _).trans (by assumption) | exact (va_up_ne _ _ (by omega)).trans (va_up_self _ _ _) | exact (va_up_ne _ _ (by omega)).trans ((va_up_ne _ _ (by omega)).trans (by assumption)) | exact (congrArg Prod.fst ((va_up_ne _ _ (by omega)).trans (va_up_ne _ _ (by omega)))).trans (by assumption) | exact (congrFun ((va_up_ne _ _ (by omega)).trans (va_up_ne _ _ (by omega))) _).trans (by assumption) | (rw [va_up_self, va_up_ne _ _ (by omega)]; assumption)) (c_forget (z := 37) hs7) (Nat.le_of_ble_eq_true rfl) (by omega) ?_
        refine tk_aload0 dX4_shortest_137 ?_
        refine tk_getP dX4_shortest_138 fX4_12 rfl (by first | assumption | exact va_up_self _ _ _ | exact (va_up_ne _ _ (by omega)).trans (by assumption) | exact congrArg Prod.fst (va_up_self _ _ _) | exact (congrArg Prod.fst (va_up_ne _ _ (by omega))).trans (by assumption) | exact (congrFun (va_up_ne _ _ (by omega)) _).trans (by assumption) | exact (va_up_ne _ _ (by omega)).trans (va_up_self _ _ _) | exact (va_up_ne _ _ (by omega)).trans ((va_up_ne _ _ (by omega)).trans (by assumption)) | exact (congrArg Prod.fst ((va_up_ne _ _ (by omega)).trans (va_up_ne _ _ (by omega)))).trans (by assumption) | exact (congrFun ((va_up_ne _ _ (by omega)).trans (va_up_ne _ _ (by omega))) _).trans (by assumption) | (rw [va_up_self, va_up_ne _ _ (by omega)]; assumption)) (by first | assumption | exact va_up_self _ _ _ | exact (va_up_ne _ _ (by omega)).trans (by assumption) | exact congrArg Prod.fst (va_up_self _ _ _) | exact (congrArg Prod.fst (va_up_ne _ _ (by omega))).trans (by assumption) | exact (congrFun (va_up_ne _ _ (by omega)) _).trans (by assumption) | exact (va_up_ne _ _ (by omega)).trans (va_up_self _ _ _) | exact (va_up_ne _ _ (by omega)).trans ((va_up_ne _ _ (by omega)).trans (by assumption)) | exact (congrArg Prod.fst ((va_up_ne _ _ (by omega)).trans (va_up_ne _ _ (by omega)))).trans (by assumption) | exact (congrFun ((va_up_ne _ _ (by omega)).trans (va_up_ne _ _ (by omega))) _).trans (by assumption) | (rw [va_up_self, va_up_ne _ _ (by omega)]; assumption)) ?_
        refine tk_iload3 dX4_shortest_141 ?_
        refine tk_callS1z dX4_shortest_142 kX4_64 (c_pupilOf hl16) (Nat.le_of_ble_eq_true rfl) (by omega) ?_
        refine tk_iload3 dX4_shortest_145 ?_
        refine tk_callS1z dX4_shortest_146 kX4_68 (c_factOf hl16) (Nat.le_of_ble_eq_true rfl) (by omega) ?_
        refine tk_callV2y dX4_shortest_149 kX4_71 (by first | assumption | exact va_up_self _ _ _ | exact (va_up_ne _ _ (by omega)).trans (by assumption) | exact congrArg Prod.fst (va_up_self _ _ _) | exact (congrArg Prod.fst (va_up_ne _ _ (by omega))).trans (by assumption) | exact (congrFun (va_up_ne _ _ (by omega)) _).trans (by assumption) | exact (va_up_ne _ _ (by omega)).trans (va_up_self _ _ _) | exact (va_up_ne _ _ (by omega)).trans ((va_up_ne _ _ (by omega)).trans (by assumption)) | exact (congrArg Prod.fst ((va_up_ne _ _ (by omega)).trans (va_up_ne _ _ (by omega)))).trans (by assumption) | exact (congrFun ((va_up_ne _ _ (by omega)).trans (va_up_ne _ _ (by omega))) _).trans (by assumption) | (rw [va_up_self, va_up_ne _ _ (by omega)]; assumption)) (c_partBy (z := 37) hs7 (show l / 4 < 4 by omega)) (Nat.le_of_ble_eq_true rfl) (by omega) ?_
        rw [hJ2]
        refine tk_aload0 dX4_shortest_152 ?_
        refine tk_getP dX4_shortest_153 fX4_34 rfl (by first | assumption | exact va_up_self _ _ _ | exact (va_up_ne _ _ (by omega)).trans (by assumption) | exact congrArg Prod.fst (va_up_self _ _ _) | exact (congrArg Prod.fst (va_up_ne _ _ (by omega))).trans (by assumption) | exact (congrFun (va_up_ne _ _ (by omega)) _).trans (by assumption) | exact (va_up_ne _ _ (by omega)).trans (va_up_self _ _ _) | exact (va_up_ne _ _ (by omega)).trans ((va_up_ne _ _ (by omega)).trans (by assumption)) | exact (congrArg Prod.fst ((va_up_ne _ _ (by omega)).trans (va_up_ne _ _ (by omega)))).trans (by assumption) | exact (congrFun ((va_up_ne _ _ (by omega)).trans (va_up_ne _ _ (by omega))) _).trans (by assumption) | (rw [va_up_self, va_up_ne _ _ (by omega)]; assumption)) (by first | assumption | exact va_up_self _ _ _ | exact (va_up_ne _ _ (by omega)).trans (by assumption) | exact congrArg Prod.fst (va_up_self _ _ _) | exact (congrArg Prod.fst (va_up_ne _ _ (by omega))).trans (by assumption) | exact (congrFun (va_up_ne _ _ (by omega)) _).trans (by assumption) | exact (va_up_ne _ _ (by omega)).trans (va_up_self _ _ _) | exact (va_up_ne _ _ (by omega)).trans ((va_up_ne _ _ (by omega)).trans (by assumption)) | exact (congrArg Prod.fst ((va_up_ne _ _ (by omega)).trans (va_up_ne _ _ (by omega)))).trans (by assumption) | exact (congrFun ((va_up_ne _ _ (by omega)).trans (va_up_ne _ _ (by omega))) _).trans (by assumption) | (rw [va_up_self, va_up_ne _ _ (by omega)]; assumption)) ?_
        refine tk_aload0 dX4_shortest_156 ?_
        refine tk_getP dX4_shortest_157 fX4_12 rfl (by first | assumption | exact va_up_self _ _ _ | exact (va_up_ne _ _ (by omega)).trans (by assumption) | exact congrArg Prod.fst (va_up_self _ _ _) | exact (congrArg Prod.fst (va_up_ne _ _ (by omega))).trans (by assumption) | exact (congrFun (va_up_ne _ _ (by omega)) _).trans (by assumption) | exact (va_up_ne _ _ (by omega)).trans (va_up_self _ _ _) | exact (va_up_ne _ _ (by omega)).trans ((va_up_ne _ _ (by omega)).trans (by assumption)) | exact (congrArg Prod.fst ((va_up_ne _ _ (by omega)).trans (va_up_ne _ _ (by omega)))).trans (by assumption) | exact (congrFun ((va_up_ne _ _ (by omega)).trans (va_up_ne _ _ (by omega))) _).trans (by assumption) | (rw [va_up_self, va_up_ne _ _ (by omega)]; assumption)) (by first | assumption | exact va_up_self _ _ _ | exact (va_up_ne _ _ (by omega)).trans (by assumption) | exact congrArg Prod.fst (va_up_self _ _ _) | exact (congrArg Prod.fst (va_up_ne _ _ (by omega))).trans (by assumption) | exact (congrFun (va_up_ne _ _ (by omega)) _).trans (by assumption) | exact (va_up_ne _ _ (by omega)).trans (va_up_self _ _ _) | exact (va_up_ne _ _ (by omega)).trans ((va_up_ne _ _ (by omega)).trans (by assumption)) | exact (congrArg Prod.fst ((va_up_ne _ _ (by omega)).trans (va_up_ne _ _ (by omega)))).trans (by assumption) | exact (congrFun ((va_up_ne _ _ (by omega)).trans (va_up_ne _ _ (by omega))) _).trans (by assumption) | (rw [va_up_self, va_up_ne _ _ (by omega)]; assumption)) ?_
        refine tk_aload1 dX4_shortest_160 ?_
        refine tk_aload0 dX4_shortest_161 ?_
        refine tk_iload6 dX4_shortest_162 ?_
        refine tk_lload4 dX4_shortest_164 ?_
        refine tk_callV2q dX4_shortest_166 kX4_75 (by first | assumption | exact va_up_self _ _ _ | exact (va_up_ne _ _ (by omega)).trans (by assumption) | exact congrArg Prod.fst (va_up_self _ _ _) | exact (congrArg Prod.fst (va_up_ne _ _ (by omega))).trans (by assumption) | exact (congrFun (va_up_ne _ _ (by omega)) _).trans (by assumption) | exact (va_up_ne _ _ (by omega)).trans (va_up_self _ _ _) | exact (va_up_ne _ _ (by omega)).trans ((va_up_ne _ _ (by omega)).trans (by assumption)) | exact (congrArg Prod.fst ((va_up_ne _ _ (by omega)).trans (va_up_ne _ _ (by omega)))).trans (by assumption) | exact (congrFun ((va_up_ne _ _ (by omega)).trans (va_up_ne _ _ (by omega))) _).trans (by assumption) | (rw [va_up_self, va_up_ne _ _ (by omega)]; assumption)) (c_taughtSet (X := x) hsc hs7 hpw ht hst hv2.2.2.2.1 hW hr hnp hnf (by rw [va_up_self]; exact htN) (show m < 16 by omega) hx (Or.inr hxr)) (Nat.le_of_ble_eq_true rfl) (by omega) ?_
        rintro rr hh1 hq
        rw [va_up_ne _ _ hs38, hSI.2.2.1 sta hs36 hs38] at hq
        obtain ⟨y, I', rfl, rfl, hq2⟩ := hq.read (by omega) hnp hnf (by rw [va_up_self]; exact htN)
        rw [va_up_self] at hq2
        obtain ⟨ta2, rfl, q1, q2, q3, q4⟩ := ts_sum hx hx0 htN htz (by omega) hq2
        dsimp only [Option.toList, List.singleton_append]
        refine tk_callV2q dX4_shortest_169 kX4_45 (by first | assumption | exact va_up_self _ _ _ | exact (va_up_ne _ _ (by omega)).trans (by assumption) | exact congrArg Prod.fst (va_up_self _ _ _) | exact (congrArg Prod.fst (va_up_ne _ _ (by omega))).trans (by assumption) | exact (congrFun (va_up_ne _ _ (by omega)) _).trans (by assumption) | exact (va_up_ne _ _ (by omega)).trans (va_up_self _ _ _) | exact (va_up_ne _ _ (by omega)).trans ((va_up_ne _ _ (by omega)).trans (by assumption)) | exact (congrArg Prod.fst ((va_up_ne _ _ (by omega)).trans (va_up_ne _ _ (by omega)))).trans (by assumption) | exact (congrFun ((va_up_ne _ _ (by omega)).trans (va_up_ne _ _ (by omega))) _).trans (by assumption) | (rw [va_up_self, va_up_ne _ _ (by omega)]; assumption)) (c_soIn (hv.ta q1) (hrow _ (fun a a1 a2 => (va_up_ne _ _ a2).trans (hSI.2.2.1 a a1 a2))) hlen hwf q3) (Nat.le_of_ble_eq_true rfl) (by omega) ?_
        rintro rr hh1 ⟨z, M2, rfl, rfl, m1, m2⟩
        rw [show va_up J 38 ta2 (37 + 1) = ta2 from va_up_self _ _ _] at m2
        dsimp only [Option.toList, List.singleton_append]
        refine tk_callV1z dX4_shortest_172 kX4_49 (by first | assumption | exact va_up_self _ _ _ | exact (va_up_ne _ _ (by omega)).trans (by assumption) | exact congrArg Prod.fst (va_up_self _ _ _) | exact (congrArg Prod.fst (va_up_ne _ _ (by omega))).trans (by assumption) | exact (congrFun (va_up_ne _ _ (by omega)) _).trans (by assumption) | exact (va_up_ne _ _ (by omega)).trans (va_up_self _ _ _) | exact (va_up_ne _ _ (by omega)).trans ((va_up_ne _ _ (by omega)).trans (by assumption)) | exact (congrArg Prod.fst ((va_up_ne _ _ (by omega)).trans (va_up_ne _ _ (by omega)))).trans (by assumption) | exact (congrFun ((va_up_ne _ _ (by omega)).trans (va_up_ne _ _ (by omega))) _).trans (by assumption) | (rw [va_up_self, va_up_ne _ _ (by omega)]; assumption)) (c_hasReal ((hv.ta q1).L m1).2.2.2.1 (by omega) z) (Nat.le_of_ble_eq_true rfl) (by omega) ?_
        first | refine tk_jf_eqB dX4_shortest_175 (fun h175 => ?_) (fun h175 => ?_) | refine tk_if_eq dX4_shortest_175 (fun h175 => ?_) (fun h175 => ?_)
        · first | refine tk_iinc6 dX4_shortest_191 (kc_inc _) rfl ?_ | refine tk_iinc6 dX4_shortest_191 rfl rfl ?_
          refine tk_goto dX4_shortest_194 ?_
          refine ih (m + 1) _ _ (by omega) (hSI.ta q1 q2 m1) (fun j hj hj4 => ?_)
          by_cases e : j = m
          · rw [e]
            rintro ⟨S', tie', n1, n2⟩
            rcases q4 with ⟨z1, z2⟩ | ⟨z2, z4⟩
            · exact z2 S' tie' (by omega) n1
            · obtain ⟨u1, u2⟩ := NXT_uniq n1 z4
              rw [u1, u2] at n2
              exact tbF h175 ((m2 r).mpr n2)
          · exact hno j (by omega) hj4
        · refine tk_aload0 dX4_shortest_178 ?_
          refine tk_iload3 dX4_shortest_179 ?_
          refine tk_putI dX4_shortest_180 fX4_57 wX4_shortest_X4_3 rfl (by first | assumption | exact va_up_self _ _ _ | exact (va_up_ne _ _ (by omega)).trans (by assumption) | exact congrArg Prod.fst (va_up_self _ _ _) | exact (congrArg Prod.fst (va_up_ne _ _ (by omega))).trans (by assumption) | exact (congrFun (va_up_ne _ _ (by omega)) _).trans (by assumption) | exact (va_up_ne _ _ (by omega)).trans (va_up_self _ _ _) | exact (va_up_ne _ _ (by omega)).trans ((va_up_ne _ _ (by omega)).trans (by assumption)) | exact (congrArg Prod.fst ((va_up_ne _ _ (by omega)).trans (va_up_ne _ _ (by omega)))).trans (by assumption) | exact (congrFun ((va_up_ne _ _ (by omega)).trans (va_up_ne _ _ (by omega))) _).trans (by assumption) | (rw [va_up_self, va_up_ne _ _ (by omega)]; assumption)) ?_
          refine tk_aload0 dX4_shortest_183 ?_
          refine tk_iload6 dX4_shortest_184 ?_
          refine tk_putI dX4_shortest_186 fX4_79 wX4_shortest_X4_4 rfl (by first | assumption | exact va_up_self _ _ _ | exact (va_up_ne _ _ (by omega)).trans (by assumption) | exact congrArg Prod.fst (va_up_self _ _ _) | exact (congrArg Prod.fst (va_up_ne _ _ (by omega))).trans (by assumption) | exact (congrFun (va_up_ne _ _ (by omega)) _).trans (by assumption) | exact (va_up_ne _ _ (by omega)).trans (va_up_self _ _ _) | exact (va_up_ne _ _ (by omega)).trans ((va_up_ne _ _ (by omega)).trans (by assumption)) | exact (congrArg Prod.fst ((va_up_ne _ _ (by omega)).trans (va_up_ne _ _ (by omega)))).trans (by assumption) | exact (congrFun ((va_up_ne _ _ (by omega)).trans (va_up_ne _ _ (by omega))) _).trans (by assumption) | (rw [va_up_self, va_up_ne _ _ (by omega)]; assumption)) ?_
          refine tk_iconst dX4_shortest_189 kc_iconst_2 ?_
          refine tk_ireturn dX4_shortest_190 rfl ?_
          have hxr : tb y r = true := sSO_sub ((m2 r).mp h175)
          rcases q4 with ⟨z1, z2⟩ | ⟨z2, z4⟩
          · rw [z1, tb_0] at hxr; cases hxr
          · rw [bx_uu, va_up_self]; exact h2 m _ _ (hSI.ta q1 q2 m1) z2 ⟨_, _, z4, (m2 r).mp h175⟩ hno
end SCHOOL7
