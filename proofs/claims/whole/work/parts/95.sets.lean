/-! ===== the class: a town's first worlds ===== -/
def OAQ (n : Nat) (T : Nat → Nat × Nat) (I : Nat → Nat → Int32) (L : Nat → Nat → Int64) (P : Nat → Nat → Option Nat) (np nf W r : Nat) : Option tkV → tkH → Prop := fun rv h => ∃ T' I' L' P', rv = some (vR (n + 1 + 1)) ∧ h = (n + 1 + 1 + 1, T', I', L', P') ∧ cNw n T I L P (n + 1 + 1 + 1) T' I' L' P' ∧ cWld (n + 1 + 1 + 1) T' I' L' P' (n + 1 + 1) np nf W r nI (fun _ => 0)
theorem evr_d : ∀ m, m ≤ 16 → jshl 1 (nI m) - 1 = evr m := by decide +kernel
theorem pB_0 {W p w : Nat} (hW : W ≤ 64) (hw : w < W) : pB (fun _ => 0) W (64 * p + w) = evr W := by
  apply tb_ext
  intro i hi
  rw [Bool.eq_iff_iff, tb_pB hW (by omega), tb_evrT hW]
  exact ⟨fun q => q.1, fun q => ⟨q, rfl⟩⟩
theorem rSF_s {F : Nat → Int32} {w f : Nat} : rSF F (w + 1) f = rSF F w f ||| (if decide (kshr (F w) (nI f) &&& nI 1 = nI 1) = true then jshl 1 (nI w) else 0) := rfl
theorem rSF_f {w f : Nat} (hf : f < 32) (h : tb (nI w).toInt64 f = false) : rSF nI (w + 1) f = rSF nI w f := by
  rw [rMem_tb _ hf] at h
  unfold rMem at h
  rw [rSF_s, h, if_neg (by decide), Int64.or_zero]
theorem rSF_t {w f : Nat} (hf : f < 32) (h : tb (nI w).toInt64 f = true) : rSF nI (w + 1) f = rSF nI w f ||| jshl 1 (nI w) := by
  rw [rMem_tb _ hf] at h
  unfold rMem at h
  rw [rSF_s, h, if_pos rfl]
section SETS
variable {G : tkG} {n : Nat} {T : Nat → Nat × Nat} {I : Nat → Nat → Int32} {L : Nat → Nat → Int64} {P : Nat → Nat → Option Nat}
theorem c_ofAllSets {np nf W r : Nat} (hz : fz (n + 1 + 1 + 1) n ∧ fz (n + 1 + 1 + 1) (n + 1) ∧ fz (n + 1 + 1 + 1) (n + 1 + 1)) (hnp4 : np ≤ 4) (hnf4 : nf ≤ 4) (hW : W = 2 ^ nf) : tkM G mX9_ofAllSets 2 3 74 [vI (nI np), vI (nI nf), vI (nI r)] (n, T, I, L, P) (OAQ n T I L P np nf W r) := by
  have hks := kshl1 hnf4
  rw [← hW] at hks
  have hW16 : W ≤ 16 := by rw [hW]; rcases (show nf = 0 ∨ nf = 1 ∨ nf = 2 ∨ nf = 3 ∨ nf = 4 by omega) with rfl | rfl | rfl | rfl | rfl <;> decide
  have hle : np * W ≤ 4 * W := Nat.mul_le_mul_right W hnp4
  clear hW
  have loop : ∀ (mc ms : Nat), 2 ≤ mc → 70 ≤ ms → ∀ (k f : Nat) (S : Nat → Int64) (o : Option tkV), f + k = nf → (∀ g, g < f → S g = rSF nI W g) → (∀ g, f ≤ g → S g = 0) → tkX G mX9_ofAllSets 2 mc ms 12 [some (vI (nI np)), some (vI (nI nf)), some (vI (nI r)), some (vI (nI W)), some (vR n), some (vI (nI f)), o] [] (n + 1, va_up T n (21, nf), va_up I n (fun _ => 0), va_up L n S, va_up P n (fun _ => none)) (OAQ n T I L P np nf W r) := by
    intro mc ms hmc hms k
    induction k with
    | zero =>
      intro f S o hf s1 s2
      refine tk_iload5 dX9_ofAllSets_12 ?_
      refine tk_iload1 dX9_ofAllSets_14 ?_
      first | refine tk_icmp_geN dX9_ofAllSets_15 (by omega) (by omega) (fun h15 => ?_) (fun h15 => ?_) | refine tk_jcmp_ge dX9_ofAllSets_15 (fun h15 => ?_) (fun h15 => ?_)
      · refine tk_iload0 dX9_ofAllSets_62 ?_
        refine tk_iload3 dX9_ofAllSets_63 ?_
        first | refine tk_imulN dX9_ofAllSets_64 ?_ | refine tk_imul dX9_ofAllSets_64 ?_
        refine tk_newaS (t := 21) dX9_ofAllSets_65 rfl (by omega) (by omega) tk_ac21 (by first | exact Or.inl rfl | exact Or.inr (Or.inl rfl) | exact Or.inr (Or.inr rfl)) (by omega) (by omega) (by omega) ?_
        refine tk_astore5 dX9_ofAllSets_67 rfl ?_
        refine tk_aload5 dX9_ofAllSets_69 ?_
        refine tk_lconst dX9_ofAllSets_71 (v := 1) (by decide) ?_
        refine tk_iload3 dX9_ofAllSets_72 ?_
        refine tk_lshl dX9_ofAllSets_73 ?_
        refine tk_lconst dX9_ofAllSets_74 (v := 1) (by decide) ?_
        refine tk_lsub dX9_ofAllSets_75 ?_
        rw [evr_d W hW16]
        refine tk_callS2y dX9_ofAllSets_76 kX9_35 (j_fillL (va_up_self _ _ _) (by omega)) (Nat.le_of_ble_eq_true rfl) (by omega) ?_
        refine tk_newS dX9_ofAllSets_79 nX9_10 (by omega) (by omega) ?_
        refine tk_dup dX9_ofAllSets_82 rfl ?_
        refine tk_iload0 dX9_ofAllSets_83 ?_
        refine tk_iload3 dX9_ofAllSets_84 ?_
        refine tk_iload2 dX9_ofAllSets_85 ?_
        refine tk_aload4 dX9_ofAllSets_86 ?_
        refine tk_aload5 dX9_ofAllSets_88 ?_
        refine tk_callI5y dX9_ofAllSets_90 kX9_41 (c_wldInit (nf := nf) (by rw [va_up_self]) (by rw [va_up_ne _ _ (by omega), va_up_ne _ _ (by omega), va_up_self])) (Nat.le_of_ble_eq_true rfl) (by omega) ?_
        refine tk_areturn dX9_ofAllSets_93 rfl (by first | exact Or.inl ⟨_, rfl⟩ | exact Or.inr ⟨_, rfl⟩) ?_
        refine ⟨_, _, _, _, rfl, rfl, ⟨by omega, fun a ha => ⟨?_, ?_, ?_, ?_⟩⟩, hz.2.2, ?_, ?_, ?_, ?_, ?_, n, n + 1, hz.1, hz.2.1, ?_, ?_, ?_, ?_, fun g hg => ?_, fun p hp w hw => ?_⟩
        · rw [va_up_ne _ _ (by omega), va_up_ne _ _ (by omega), va_up_ne _ _ (by omega)]
        · rw [va_up_ne _ _ (by omega), va_up_ne _ _ (by omega), va_up_ne _ _ (by omega), va_up_ne _ _ (by omega)]
        · rw [va_up_ne _ _ (by omega), va_up_ne _ _ (by omega), va_up_ne _ _ (by omega), va_up_ne _ _ (by omega)]
        · rw [va_up_ne _ _ (by omega), va_up_ne _ _ (by omega), va_up_ne _ _ (by omega), va_up_ne _ _ (by omega)]
        · rw [va_up_self]
        · simp only [va_up_self, bx_uu, tk_une, tk_usrt, not_false_eq_true, Nat.reduceEqDiff, Nat.reduceLT, Nat.reduceAdd, Nat.reduceMul, Nat.reduceLeDiff, reduceCtorEq]
        · simp only [va_up_self, bx_uu, tk_une, tk_usrt, not_false_eq_true, Nat.reduceEqDiff, Nat.reduceLT, Nat.reduceAdd, Nat.reduceMul, Nat.reduceLeDiff, reduceCtorEq]
        · simp only [va_up_self, bx_uu, tk_une, tk_usrt, not_false_eq_true, Nat.reduceEqDiff, Nat.reduceLT, Nat.reduceAdd, Nat.reduceMul, Nat.reduceLeDiff, reduceCtorEq]
        · simp only [va_up_self, bx_uu, tk_une, tk_usrt, not_false_eq_true, Nat.reduceEqDiff, Nat.reduceLT, Nat.reduceAdd, Nat.reduceMul, Nat.reduceLeDiff, reduceCtorEq]
        · simp only [va_up_self, bx_uu, tk_une, tk_usrt, not_false_eq_true, Nat.reduceEqDiff, Nat.reduceLT, Nat.reduceAdd, Nat.reduceMul, Nat.reduceLeDiff, reduceCtorEq]
        · simp only [va_up_self, bx_uu, tk_une, tk_usrt, not_false_eq_true, Nat.reduceEqDiff, Nat.reduceLT, Nat.reduceAdd, Nat.reduceMul, Nat.reduceLeDiff, reduceCtorEq]
        · rw [va_up_ne _ _ (by omega), va_up_ne _ _ (by omega), va_up_self]
        · rw [va_up_ne _ _ (by omega), va_up_self]
        · rw [va_up_ne _ _ (by omega), va_up_ne _ _ (by omega), va_up_ne _ _ (by omega), va_up_self]; exact s1 g (by omega)
        · have hlt : p * W + w < np * W := by
            have : (p + 1) * W ≤ np * W := Nat.mul_le_mul_right W hp
            rw [Nat.succ_mul] at this
            omega
          rw [va_up_ne _ _ (by omega), va_up_self, tkcp_lt hlt, pB_0 (by omega) hw]
      · exfalso; omega
    | succ k ih =>
      intro f S o hf s1 s2
      have inner : ∀ (k2 w : Nat) (S2 : Nat → Int64), w + k2 = W → (∀ g, g < f → S2 g = rSF nI W g) → S2 f = rSF nI w f → (∀ g, f < g → S2 g = 0) → tkX G mX9_ofAllSets 2 mc ms 21 [some (vI (nI np)), some (vI (nI nf)), some (vI (nI r)), some (vI (nI W)), some (vR n), some (vI (nI f)), some (vI (nI w))] [] (n + 1, va_up T n (21, nf), va_up I n (fun _ => 0), va_up L n S2, va_up P n (fun _ => none)) (OAQ n T I L P np nf W r) := by
        intro k2
        induction k2 with
        | zero =>
          intro w S2 hw i1 i2 i3
          refine tk_iload6 dX9_ofAllSets_21 ?_
          refine tk_iload3 dX9_ofAllSets_23 ?_
          first | refine tk_icmp_geN dX9_ofAllSets_24 (by omega) (by omega) (fun h24 => ?_) (fun h24 => ?_) | refine tk_jcmp_ge dX9_ofAllSets_24 (fun h24 => ?_) (fun h24 => ?_)
          · first | refine tk_iinc5 dX9_ofAllSets_56 (kc_inc _) rfl ?_ | refine tk_iinc5 dX9_ofAllSets_56 rfl rfl ?_
            refine tk_goto dX9_ofAllSets_59 ?_
            refine ih (f + 1) S2 _ (by omega) (fun g hg => ?_) (fun g hg => i3 g (by omega))
            by_cases e : g = f
            · subst e; rw [i2, show w = W by omega]
            · exact i1 g (by omega)
          · exfalso; omega
        | succ k2 ih2 =>
          intro w S2 hw i1 i2 i3
          refine tk_iload6 dX9_ofAllSets_21 ?_
          refine tk_iload3 dX9_ofAllSets_23 ?_
          first | refine tk_icmp_geN dX9_ofAllSets_24 (by omega) (by omega) (fun h24 => ?_) (fun h24 => ?_) | refine tk_jcmp_ge dX9_ofAllSets_24 (fun h24 => ?_) (fun h24 => ?_)
          · exfalso; omega
          · refine tk_iload5 dX9_ofAllSets_27 ?_
            refine tk_iload6 dX9_ofAllSets_29 ?_
            refine tk_i2l dX9_ofAllSets_31 ?_
            refine tk_callSN2z dX9_ofAllSets_32 kX9_31 (c_isIn (k := f) (by omega) (nI w).toInt64) (Nat.le_of_ble_eq_true rfl) (by omega) ?_
            first | refine tk_jf_eqB dX9_ofAllSets_35 (fun h35 => ?_) (fun h35 => ?_) | refine tk_if_eq dX9_ofAllSets_35 (fun h35 => ?_) (fun h35 => ?_)
            · first | refine tk_iinc6 dX9_ofAllSets_50 (kc_inc _) rfl ?_ | refine tk_iinc6 dX9_ofAllSets_50 rfl rfl ?_
              refine tk_goto dX9_ofAllSets_53 ?_
              first
                | exact ih2 (w + 1) S2 (by omega) i1 (by rw [rSF_f (by omega) h35]; exact i2) i3
                | exact ih2 (w + 1) _ (by omega) (fun g hg => by rw [va_up_ne _ _ (by omega)]; exact i1 g hg) (by rw [va_up_self, rSF_t (by omega) h35]) (fun g hg => by rw [va_up_ne _ _ (by omega)]; exact i3 g hg)
            · refine tk_aload4 dX9_ofAllSets_38 ?_
              refine tk_iload5 dX9_ofAllSets_40 ?_
              first | refine tk_dup2 dX9_ofAllSets_42 rfl rfl ?_ | refine tk_dup2L dX9_ofAllSets_42 ?_
              refine tk_lald dX9_ofAllSets_43 (by first | assumption | exact va_up_self _ _ _ | exact (va_up_ne _ _ (by omega)).trans (by assumption) | exact congrArg Prod.fst (va_up_self _ _ _) | exact (congrArg Prod.fst (va_up_ne _ _ (by omega))).trans (by assumption) | exact (congrFun (va_up_ne _ _ (by omega)) _).trans (by assumption) | exact (va_up_ne _ _ (by omega)).trans (va_up_self _ _ _) | exact (va_up_ne _ _ (by omega)).trans ((va_up_ne _ _ (by omega)).trans (by assumption)) | exact (congrArg Prod.fst ((va_up_ne _ _ (by omega)).trans (va_up_ne _ _ (by omega)))).trans (by assumption) | exact (congrFun ((va_up_ne _ _ (by omega)).trans (va_up_ne _ _ (by omega))) _).trans (by assumption) | (rw [va_up_self, va_up_ne _ _ (by omega)]; assumption)) (by omega) (by omega) ?_
              rw [va_up_self, i2]
              refine tk_lconst dX9_ofAllSets_44 (v := 1) (by decide) ?_
              refine tk_iload6 dX9_ofAllSets_45 ?_
              refine tk_lshl dX9_ofAllSets_47 ?_
              refine tk_lor dX9_ofAllSets_48 ?_
              refine tk_last dX9_ofAllSets_49 (by first | assumption | exact va_up_self _ _ _ | exact (va_up_ne _ _ (by omega)).trans (by assumption) | exact congrArg Prod.fst (va_up_self _ _ _) | exact (congrArg Prod.fst (va_up_ne _ _ (by omega))).trans (by assumption) | exact (congrFun (va_up_ne _ _ (by omega)) _).trans (by assumption) | exact (va_up_ne _ _ (by omega)).trans (va_up_self _ _ _) | exact (va_up_ne _ _ (by omega)).trans ((va_up_ne _ _ (by omega)).trans (by assumption)) | exact (congrArg Prod.fst ((va_up_ne _ _ (by omega)).trans (va_up_ne _ _ (by omega)))).trans (by assumption) | exact (congrFun ((va_up_ne _ _ (by omega)).trans (va_up_ne _ _ (by omega))) _).trans (by assumption) | (rw [va_up_self, va_up_ne _ _ (by omega)]; assumption)) (by omega) (by omega) ?_
              rw [bx_uu, va_up_self]
              first | refine tk_iinc6 dX9_ofAllSets_50 (kc_inc _) rfl ?_ | refine tk_iinc6 dX9_ofAllSets_50 rfl rfl ?_
              refine tk_goto dX9_ofAllSets_53 ?_
              first
                | exact ih2 (w + 1) S2 (by omega) i1 (by rw [rSF_f (by omega) h35]; exact i2) i3
                | exact ih2 (w + 1) _ (by omega) (fun g hg => by rw [va_up_ne _ _ (by omega)]; exact i1 g hg) (by rw [va_up_self, rSF_t (by omega) h35]) (fun g hg => by rw [va_up_ne _ _ (by omega)]; exact i3 g hg)
      refine tk_iload5 dX9_ofAllSets_12 ?_
      refine tk_iload1 dX9_ofAllSets_14 ?_
      first | refine tk_icmp_geN dX9_ofAllSets_15 (by omega) (by omega) (fun h15 => ?_) (fun h15 => ?_) | refine tk_jcmp_ge dX9_ofAllSets_15 (fun h15 => ?_) (fun h15 => ?_)
      · exfalso; omega
      · refine tk_iconst dX9_ofAllSets_18 kc_iconst_0 ?_
        refine tk_istore6 dX9_ofAllSets_19 rfl ?_
        exact inner W 0 S (by omega) s1 (s2 f (Nat.le_refl _)) (fun g hg => s2 g (by omega))
  refine tkM.of (ls := [some _, some _, some _, none, none, none, none]) (by decide +kernel) (by decide +kernel) (Nat.le_of_ble_eq_true rfl) rfl ?_
  refine tk_iconst dX9_ofAllSets_0 kc_iconst_1 ?_
  refine tk_iload1 dX9_ofAllSets_1 ?_
  refine tk_ishl dX9_ofAllSets_2 ?_
  rw [hks]
  refine tk_istore3 dX9_ofAllSets_3 rfl ?_
  refine tk_iload1 dX9_ofAllSets_4 ?_
  refine tk_newaS (t := 21) dX9_ofAllSets_5 rfl (by omega) (by omega) tk_ac21 (by first | exact Or.inl rfl | exact Or.inr (Or.inl rfl) | exact Or.inr (Or.inr rfl)) (by omega) (by omega) (by omega) ?_
  refine tk_astore4 dX9_ofAllSets_7 rfl ?_
  refine tk_iconst dX9_ofAllSets_9 kc_iconst_0 ?_
  refine tk_istore5 dX9_ofAllSets_10 rfl ?_
  exact tk_wk (by repeat' (first | exact trivial | refine ⟨Or.inl rfl, ?_⟩ | refine ⟨Or.inr rfl, ?_⟩)) (loop _ _ (by omega) (by omega) nf 0 _ none (by omega) (fun g hg => by omega) (fun g hg => rfl))
end SETS
