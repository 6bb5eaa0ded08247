/-! ===== the class: rows of signs ===== -/
section CROW
variable {G : tkG} {n : Nat} {T : Nat → Nat × Nat} {I : Nat → Nat → Int32} {L : Nat → Nat → Int64} {P : Nat → Nat → Option Nat}
theorem c_rowInit {a b l : Nat} (h1 : (T a).1 = 4) (h2 : T b = (20, l)) : tkM G mX3_init 1 0 0 [vR a, vR b] (n, T, I, L, P) (tkF none (n, T, va_up I a (va_up (I a) 1 (nI l)), L, va_up P a (va_up (P a) 0 (some b)))) := by
  refine tkM.of (ls := [some _, some _]) (by decide +kernel) (by decide +kernel) (Nat.le_of_ble_eq_true rfl) rfl ?_
  refine tk_aload0 dX3_init_0 ?_
  refine tk_objInit dX3_init_1 oiX3_1 (Nat.le_of_ble_eq_true rfl) (by omega) ?_
  refine tk_aload0 dX3_init_4 ?_
  refine tk_aload1 dX3_init_5 ?_
  refine tk_putP dX3_init_6 fX3_7 wX3_init_X3_0 rfl (by first | assumption | exact va_up_self _ _ _ | exact (va_up_ne _ _ (by omega)).trans (by assumption) | exact congrArg Prod.fst (va_up_self _ _ _) | exact (congrArg Prod.fst (va_up_ne _ _ (by omega))).trans (by assumption) | exact (congrFun (va_up_ne _ _ (by omega)) _).trans (by assumption) | exact (va_up_ne _ _ (by omega)).trans (va_up_self _ _ _) | exact (va_up_ne _ _ (by omega)).trans ((va_up_ne _ _ (by omega)).trans (by assumption)) | exact (congrArg Prod.fst ((va_up_ne _ _ (by omega)).trans (va_up_ne _ _ (by omega)))).trans (by assumption) | exact (congrFun ((va_up_ne _ _ (by omega)).trans (va_up_ne _ _ (by omega))) _).trans (by assumption) | (rw [va_up_self, va_up_ne _ _ (by omega)]; assumption)) ?_
  refine tk_aload0 dX3_init_9 ?_
  refine tk_aload1 dX3_init_10 ?_
  refine tk_alen dX3_init_11 (by first | assumption | exact va_up_self _ _ _ | exact (va_up_ne _ _ (by omega)).trans (by assumption) | exact congrArg Prod.fst (va_up_self _ _ _) | exact (congrArg Prod.fst (va_up_ne _ _ (by omega))).trans (by assumption) | exact (congrFun (va_up_ne _ _ (by omega)) _).trans (by assumption) | exact (va_up_ne _ _ (by omega)).trans (va_up_self _ _ _) | exact (va_up_ne _ _ (by omega)).trans ((va_up_ne _ _ (by omega)).trans (by assumption)) | exact (congrArg Prod.fst ((va_up_ne _ _ (by omega)).trans (va_up_ne _ _ (by omega)))).trans (by assumption) | exact (congrFun ((va_up_ne _ _ (by omega)).trans (va_up_ne _ _ (by omega))) _).trans (by assumption) | (rw [va_up_self, va_up_ne _ _ (by omega)]; assumption)) (by omega) ?_
  refine tk_putI dX3_init_12 fX3_13 wX3_init_X3_1 rfl (by first | assumption | exact va_up_self _ _ _ | exact (va_up_ne _ _ (by omega)).trans (by assumption) | exact congrArg Prod.fst (va_up_self _ _ _) | exact (congrArg Prod.fst (va_up_ne _ _ (by omega))).trans (by assumption) | exact (congrFun (va_up_ne _ _ (by omega)) _).trans (by assumption) | exact (va_up_ne _ _ (by omega)).trans (va_up_self _ _ _) | exact (va_up_ne _ _ (by omega)).trans ((va_up_ne _ _ (by omega)).trans (by assumption)) | exact (congrArg Prod.fst ((va_up_ne _ _ (by omega)).trans (va_up_ne _ _ (by omega)))).trans (by assumption) | exact (congrFun ((va_up_ne _ _ (by omega)).trans (va_up_ne _ _ (by omega))) _).trans (by assumption) | (rw [va_up_self, va_up_ne _ _ (by omega)]; assumption)) ?_
  refine tk_return dX3_init_15 rfl ?_
  exact ⟨rfl, rfl⟩
theorem c_longer {a l : Nat} {row : Nat → Int32} {v : Int32} (hr : cRow n T I P a l row) (hl : l < 14) (hv : rSign v = true) (hn : 87 ≤ n) : tkM G mX3_longer 3 2 20 [vR a, vI v] (n, T, I, L, P) (fun r h => ∃ n' T' I' L' P' b, r = some (vR b) ∧ h = (n', T', I', L', P') ∧ cNw n T I L P n' T' I' L' P' ∧ cRow n' T' I' P' b (l + 1) (va_up row l v)) := by
  obtain ⟨r1, r2, b, r3, r4, r5, r6, r7, r8⟩ := hr
  have ha := r1.2
  have hb := r3.2
  refine tkM.of (ls := [some _, some _, none]) (by decide +kernel) (by decide +kernel) (Nat.le_of_ble_eq_true rfl) rfl ?_
  refine tk_aload0 dX3_longer_0 ?_
  refine tk_getP dX3_longer_1 fX3_7 rfl (by first | assumption | exact va_up_self _ _ _ | exact (va_up_ne _ _ (by omega)).trans (by assumption) | exact congrArg Prod.fst (va_up_self _ _ _) | exact (congrArg Prod.fst (va_up_ne _ _ (by omega))).trans (by assumption) | exact (congrFun (va_up_ne _ _ (by omega)) _).trans (by assumption) | exact (va_up_ne _ _ (by omega)).trans (va_up_self _ _ _) | exact (va_up_ne _ _ (by omega)).trans ((va_up_ne _ _ (by omega)).trans (by assumption)) | exact (congrArg Prod.fst ((va_up_ne _ _ (by omega)).trans (va_up_ne _ _ (by omega)))).trans (by assumption) | exact (congrFun ((va_up_ne _ _ (by omega)).trans (va_up_ne _ _ (by omega))) _).trans (by assumption) | (rw [va_up_self, va_up_ne _ _ (by omega)]; assumption)) (by first | assumption | exact va_up_self _ _ _ | exact (va_up_ne _ _ (by omega)).trans (by assumption) | exact congrArg Prod.fst (va_up_self _ _ _) | exact (congrArg Prod.fst (va_up_ne _ _ (by omega))).trans (by assumption) | exact (congrFun (va_up_ne _ _ (by omega)) _).trans (by assumption) | exact (va_up_ne _ _ (by omega)).trans (va_up_self _ _ _) | exact (va_up_ne _ _ (by omega)).trans ((va_up_ne _ _ (by omega)).trans (by assumption)) | exact (congrArg Prod.fst ((va_up_ne _ _ (by omega)).trans (va_up_ne _ _ (by omega)))).trans (by assumption) | exact (congrFun ((va_up_ne _ _ (by omega)).trans (va_up_ne _ _ (by omega))) _).trans (by assumption) | (rw [va_up_self, va_up_ne _ _ (by omega)]; assumption)) ?_
  refine tk_aload0 dX3_longer_4 ?_
  refine tk_getI dX3_longer_5 fX3_13 rfl (by first | assumption | exact va_up_self _ _ _ | exact (va_up_ne _ _ (by omega)).trans (by assumption) | exact congrArg Prod.fst (va_up_self _ _ _) | exact (congrArg Prod.fst (va_up_ne _ _ (by omega))).trans (by assumption) | exact (congrFun (va_up_ne _ _ (by omega)) _).trans (by assumption) | exact (va_up_ne _ _ (by omega)).trans (va_up_self _ _ _) | exact (va_up_ne _ _ (by omega)).trans ((va_up_ne _ _ (by omega)).trans (by assumption)) | exact (congrArg Prod.fst ((va_up_ne _ _ (by omega)).trans (va_up_ne _ _ (by omega)))).trans (by assumption) | exact (congrFun ((va_up_ne _ _ (by omega)).trans (va_up_ne _ _ (by omega))) _).trans (by assumption) | (rw [va_up_self, va_up_ne _ _ (by omega)]; assumption)) ?_
  rw [r6]
  refine tk_iconst dX3_longer_8 kc_iconst_1 ?_
  first | refine tk_iaddN dX3_longer_9 ?_ | refine tk_iadd dX3_longer_9 ?_
  refine tk_callS2s dX3_longer_10 kX3_17 (j_copyOf (k := l + 1) r5 hb (by omega) (by omega)) (Nat.le_of_ble_eq_true rfl) (by omega) (by omega) (by omega) ?_
  rintro rr h1 ⟨g, fl, fp, rfl, rfl, hg⟩
  dsimp only [Option.toList, List.cons_append, List.nil_append]
  have t1 : (va_up T n (20, l + 1) a).1 = 4 := by rw [va_up_ne _ _ (by omega)]; exact r2
  have t2 : va_up T n (20, l + 1) n = (20, l + 1) := va_up_self _ _ _
  refine tk_astore2 dX3_longer_13 rfl ?_
  refine tk_aload2 dX3_longer_14 ?_
  refine tk_aload0 dX3_longer_15 ?_
  refine tk_getI dX3_longer_16 fX3_13 rfl (by first | assumption | exact va_up_self _ _ _ | exact (va_up_ne _ _ (by omega)).trans (by assumption) | exact congrArg Prod.fst (va_up_self _ _ _) | exact (congrArg Prod.fst (va_up_ne _ _ (by omega))).trans (by assumption) | exact (congrFun (va_up_ne _ _ (by omega)) _).trans (by assumption) | exact (va_up_ne _ _ (by omega)).trans (va_up_self _ _ _) | exact (va_up_ne _ _ (by omega)).trans ((va_up_ne _ _ (by omega)).trans (by assumption)) | exact (congrArg Prod.fst ((va_up_ne _ _ (by omega)).trans (va_up_ne _ _ (by omega)))).trans (by assumption) | exact (congrFun ((va_up_ne _ _ (by omega)).trans (va_up_ne _ _ (by omega))) _).trans (by assumption) | (rw [va_up_self, va_up_ne _ _ (by omega)]; assumption)) ?_
  rw [va_up_ne _ _ (show ¬ a = n by omega), r6]
  refine tk_iload1 dX3_longer_19 ?_
  refine tk_iast dX3_longer_20 (by first | assumption | exact va_up_self _ _ _ | exact (va_up_ne _ _ (by omega)).trans (by assumption) | exact congrArg Prod.fst (va_up_self _ _ _) | exact (congrArg Prod.fst (va_up_ne _ _ (by omega))).trans (by assumption) | exact (congrFun (va_up_ne _ _ (by omega)) _).trans (by assumption) | exact (va_up_ne _ _ (by omega)).trans (va_up_self _ _ _) | exact (va_up_ne _ _ (by omega)).trans ((va_up_ne _ _ (by omega)).trans (by assumption)) | exact (congrArg Prod.fst ((va_up_ne _ _ (by omega)).trans (va_up_ne _ _ (by omega)))).trans (by assumption) | exact (congrFun ((va_up_ne _ _ (by omega)).trans (va_up_ne _ _ (by omega))) _).trans (by assumption) | (rw [va_up_self, va_up_ne _ _ (by omega)]; assumption)) (by omega) (by omega) ?_
  rw [bx_uu, va_up_self]
  refine tk_newS dX3_longer_21 nX3_8 (by omega) (by omega) ?_
  refine tk_dup dX3_longer_24 rfl ?_
  refine tk_aload2 dX3_longer_25 ?_
  refine tk_callI1y dX3_longer_26 kX3_23 (c_rowInit (l := l + 1) (by rw [va_up_self]) (by rw [va_up_ne _ _ (by omega)]; exact t2)) (Nat.le_of_ble_eq_true rfl) (by omega) ?_
  refine tk_areturn dX3_longer_29 rfl (by first | exact Or.inl ⟨_, rfl⟩ | exact Or.inr ⟨_, rfl⟩) ?_
  refine ⟨_, _, _, _, _, n + 1, rfl, rfl, ?_, ?_⟩
  · refine ⟨by omega, fun q hq => ⟨?_, ?_, ?_, ?_⟩⟩
    · rw [va_up_ne _ _ (by omega), va_up_ne _ _ (by omega)]
    · rw [va_up_ne _ _ (by omega), va_up_ne _ _ (by omega), va_up_ne _ _ (by omega)]
    · rw [va_up_ne _ _ (by omega), va_up_ne _ _ (by omega)]
    · rw [va_up_ne _ _ (by omega), va_up_ne _ _ (by omega), va_up_ne _ _ (by omega)]
  · refine ⟨⟨Or.inr (by omega), by omega⟩, by rw [va_up_self], n, ⟨Or.inr hn, by omega⟩, ?_, ?_, ?_, by omega, fun i hi => ?_⟩
    · rw [va_up_self, va_up_self]
    · rw [va_up_ne _ _ (by omega)]; exact t2
    · rw [va_up_self, va_up_self]
    · rw [va_up_ne _ _ (by omega), va_up_ne _ _ (by omega), va_up_self]
      by_cases e : i = l
      · subst e; rw [va_up_self, va_up_self]; exact ⟨rfl, hv⟩
      · rw [va_up_ne _ _ e, va_up_ne _ _ e, hg i (by omega) (by omega)]; exact r8 i (by omega)
theorem c_fault {a l np nf : Nat} {row : Nat → Int32} (hr : cRow n T I P a l row) (hnp : np ≤ 4) (hnf : nf ≤ 4) : tkM G mX3_fault 2 0 0 [vR a, vI (nI np), vI (nI nf)] (n, T, I, L, P) (tkF (some (vI (rW row (nI np) (nI nf) l 0 (nI 0)))) (n, T, I, L, P)) := by
  obtain ⟨r1, r2, b, r3, r4, r5, r6, r7, r8⟩ := hr
  have loop : ∀ k i sd, i + k = l → tkX G mX3_fault 2 0 0 5 [some (vR a), some (vI (nI np)), some (vI (nI nf)), some (vI sd), some (vI (nI i)), none] [] (n, T, I, L, P) (tkF (some (vI (rW row (nI np) (nI nf) k i sd))) (n, T, I, L, P)) := by
    intro k
    induction k with
    | zero =>
      intro i sd hi
      refine tk_iload4 dX3_fault_5 ?_
      refine tk_aload0 dX3_fault_7 ?_
      refine tk_getI dX3_fault_8 fX3_13 rfl (by first | assumption | exact va_up_self _ _ _ | exact (va_up_ne _ _ (by omega)).trans (by assumption) | exact congrArg Prod.fst (va_up_self _ _ _) | exact (congrArg Prod.fst (va_up_ne _ _ (by omega))).trans (by assumption) | exact (congrFun (va_up_ne _ _ (by omega)) _).trans (by assumption) | exact (va_up_ne _ _ (by omega)).trans (va_up_self _ _ _) | exact (va_up_ne _ _ (by omega)).trans ((va_up_ne _ _ (by omega)).trans (by assumption)) | exact (congrArg Prod.fst ((va_up_ne _ _ (by omega)).trans (va_up_ne _ _ (by omega)))).trans (by assumption) | exact (congrFun ((va_up_ne _ _ (by omega)).trans (va_up_ne _ _ (by omega))) _).trans (by assumption) | (rw [va_up_self, va_up_ne _ _ (by omega)]; assumption)) ?_
      rw [r6]
      first | refine tk_icmp_geN dX3_fault_11 (by omega) (by omega) (fun h11 => ?_) (fun h11 => ?_) | refine tk_jcmp_ge dX3_fault_11 (fun h11 => ?_) (fun h11 => ?_)
      · refine tk_iload3 dX3_fault_63 ?_
        refine tk_iconst dX3_fault_64 kc_iconst_1 ?_
        first | refine tk_icmp_neN dX3_fault_65 (by omega) (by omega) (fun h65 => ?_) (fun h65 => ?_) | refine tk_icmp_ne dX3_fault_65 (fun h65 => ?_) (fun h65 => ?_)
        · refine tk_aload0 dX3_fault_72 ?_
          refine tk_getI dX3_fault_73 fX3_13 rfl (by first | assumption | exact va_up_self _ _ _ | exact (va_up_ne _ _ (by omega)).trans (by assumption) | exact congrArg Prod.fst (va_up_self _ _ _) | exact (congrArg Prod.fst (va_up_ne _ _ (by omega))).trans (by assumption) | exact (congrFun (va_up_ne _ _ (by omega)) _).trans (by assumption) | exact (va_up_ne _ _ (by omega)).trans (va_up_self _ _ _) | exact (va_up_ne _ _ (by omega)).trans ((va_up_ne _ _ (by omega)).trans (by assumption)) | exact (congrArg Prod.fst ((va_up_ne _ _ (by omega)).trans (va_up_ne _ _ (by omega)))).trans (by assumption) | exact (congrFun ((va_up_ne _ _ (by omega)).trans (va_up_ne _ _ (by omega))) _).trans (by assumption) | (rw [va_up_self, va_up_ne _ _ (by omega)]; assumption)) ?_
          rw [r6]
          refine tk_ireturn dX3_fault_76 rfl ?_
          exact tki (by show _ = rW row (nI np) (nI nf) 0 i sd; unfold rW; first | rw [if_pos h65] | (rw [if_neg h65]; congr 1; omega))
        · refine tk_iconst dX3_fault_68 kc_iconst_m1 ?_
          refine tk_goto dX3_fault_69 ?_
          refine tk_ireturn dX3_fault_76 rfl ?_
          exact tki (by show _ = rW row (nI np) (nI nf) 0 i sd; unfold rW; first | rw [if_pos h65] | (rw [if_neg h65]; congr 1; omega))
      · exfalso; omega
    | succ k ih =>
      intro i sd hi
      obtain ⟨e1, e2⟩ := r8 i (by omega)
      obtain ⟨v, hv, hvk⟩ := rSign_of e2
      refine tk_iload4 dX3_fault_5 ?_
      refine tk_aload0 dX3_fault_7 ?_
      refine tk_getI dX3_fault_8 fX3_13 rfl (by first | assumption | exact va_up_self _ _ _ | exact (va_up_ne _ _ (by omega)).trans (by assumption) | exact congrArg Prod.fst (va_up_self _ _ _) | exact (congrArg Prod.fst (va_up_ne _ _ (by omega))).trans (by assumption) | exact (congrFun (va_up_ne _ _ (by omega)) _).trans (by assumption) | exact (va_up_ne _ _ (by omega)).trans (va_up_self _ _ _) | exact (va_up_ne _ _ (by omega)).trans ((va_up_ne _ _ (by omega)).trans (by assumption)) | exact (congrArg Prod.fst ((va_up_ne _ _ (by omega)).trans (va_up_ne _ _ (by omega)))).trans (by assumption) | exact (congrFun ((va_up_ne _ _ (by omega)).trans (va_up_ne _ _ (by omega))) _).trans (by assumption) | (rw [va_up_self, va_up_ne _ _ (by omega)]; assumption)) ?_
      rw [r6]
      first | refine tk_icmp_geN dX3_fault_11 (by omega) (by omega) (fun h11 => ?_) (fun h11 => ?_) | refine tk_jcmp_ge dX3_fault_11 (fun h11 => ?_) (fun h11 => ?_)
      · exfalso; omega
      · refine tk_aload0 dX3_fault_14 ?_
        refine tk_getP dX3_fault_15 fX3_7 rfl (by first | assumption | exact va_up_self _ _ _ | exact (va_up_ne _ _ (by omega)).trans (by assumption) | exact congrArg Prod.fst (va_up_self _ _ _) | exact (congrArg Prod.fst (va_up_ne _ _ (by omega))).trans (by assumption) | exact (congrFun (va_up_ne _ _ (by omega)) _).trans (by assumption) | exact (va_up_ne _ _ (by omega)).trans (va_up_self _ _ _) | exact (va_up_ne _ _ (by omega)).trans ((va_up_ne _ _ (by omega)).trans (by assumption)) | exact (congrArg Prod.fst ((va_up_ne _ _ (by omega)).trans (va_up_ne _ _ (by omega)))).trans (by assumption) | exact (congrFun ((va_up_ne _ _ (by omega)).trans (va_up_ne _ _ (by omega))) _).trans (by assumption) | (rw [va_up_self, va_up_ne _ _ (by omega)]; assumption)) (by first | assumption | exact va_up_self _ _ _ | exact (va_up_ne _ _ (by omega)).trans (by assumption) | exact congrArg Prod.fst (va_up_self _ _ _) | exact (congrArg Prod.fst (va_up_ne _ _ (by omega))).trans (by assumption) | exact (congrFun (va_up_ne _ _ (by omega)) _).trans (by assumption) | exact (va_up_ne _ _ (by omega)).trans (va_up_self _ _ _) | exact (va_up_ne _ _ (by omega)).trans ((va_up_ne _ _ (by omega)).trans (by assumption)) | exact (congrArg Prod.fst ((va_up_ne _ _ (by omega)).trans (va_up_ne _ _ (by omega)))).trans (by assumption) | exact (congrFun ((va_up_ne _ _ (by omega)).trans (va_up_ne _ _ (by omega))) _).trans (by assumption) | (rw [va_up_self, va_up_ne _ _ (by omega)]; assumption)) ?_
        refine tk_iload4 dX3_fault_18 ?_
        refine tk_iald dX3_fault_20 (by first | assumption | exact va_up_self _ _ _ | exact (va_up_ne _ _ (by omega)).trans (by assumption) | exact congrArg Prod.fst (va_up_self _ _ _) | exact (congrArg Prod.fst (va_up_ne _ _ (by omega))).trans (by assumption) | exact (congrFun (va_up_ne _ _ (by omega)) _).trans (by assumption) | exact (va_up_ne _ _ (by omega)).trans (va_up_self _ _ _) | exact (va_up_ne _ _ (by omega)).trans ((va_up_ne _ _ (by omega)).trans (by assumption)) | exact (congrArg Prod.fst ((va_up_ne _ _ (by omega)).trans (va_up_ne _ _ (by omega)))).trans (by assumption) | exact (congrFun ((va_up_ne _ _ (by omega)).trans (va_up_ne _ _ (by omega))) _).trans (by assumption) | (rw [va_up_self, va_up_ne _ _ (by omega)]; assumption)) (by omega) (by omega) ?_
        rw [e1]
        refine tk_callS1z dX3_fault_21 kX3_26 (c_takes e2) (Nat.le_of_ble_eq_true rfl) (by omega) ?_
        refine tk_istore5 dX3_fault_24 rfl ?_
        refine tk_iload5 dX3_fault_26 ?_
        refine tk_iload3 dX3_fault_28 ?_
        first | refine tk_icmp_gtN dX3_fault_29 (by omega) (by omega) (fun h29 => ?_) (fun h29 => ?_) | refine tk_jcmp_gt dX3_fault_29 (fun h29 => ?_) (fun h29 => ?_)
        · refine tk_iload4 dX3_fault_47 ?_
          refine tk_ireturn dX3_fault_49 rfl ?_
          refine tki ?_
          rw [rW, if_neg]
          rintro ⟨q1, q2⟩
          first | exact absurd q2 (Int32.not_le.mpr h29) | (rw [q1] at h44; cases h44)
        · refine tk_aload0 dX3_fault_32 ?_
          refine tk_getP dX3_fault_33 fX3_7 rfl (by first | assumption | exact va_up_self _ _ _ | exact (va_up_ne _ _ (by omega)).trans (by assumption) | exact congrArg Prod.fst (va_up_self _ _ _) | exact (congrArg Prod.fst (va_up_ne _ _ (by omega))).trans (by assumption) | exact (congrFun (va_up_ne _ _ (by omega)) _).trans (by assumption) | exact (va_up_ne _ _ (by omega)).trans (va_up_self _ _ _) | exact (va_up_ne _ _ (by omega)).trans ((va_up_ne _ _ (by omega)).trans (by assumption)) | exact (congrArg Prod.fst ((va_up_ne _ _ (by omega)).trans (va_up_ne _ _ (by omega)))).trans (by assumption) | exact (congrFun ((va_up_ne _ _ (by omega)).trans (va_up_ne _ _ (by omega))) _).trans (by assumption) | (rw [va_up_self, va_up_ne _ _ (by omega)]; assumption)) (by first | assumption | exact va_up_self _ _ _ | exact (va_up_ne _ _ (by omega)).trans (by assumption) | exact congrArg Prod.fst (va_up_self _ _ _) | exact (congrArg Prod.fst (va_up_ne _ _ (by omega))).trans (by assumption) | exact (congrFun (va_up_ne _ _ (by omega)) _).trans (by assumption) | exact (va_up_ne _ _ (by omega)).trans (va_up_self _ _ _) | exact (va_up_ne _ _ (by omega)).trans ((va_up_ne _ _ (by omega)).trans (by assumption)) | exact (congrArg Prod.fst ((va_up_ne _ _ (by omega)).trans (va_up_ne _ _ (by omega)))).trans (by assumption) | exact (congrFun ((va_up_ne _ _ (by omega)).trans (va_up_ne _ _ (by omega))) _).trans (by assumption) | (rw [va_up_self, va_up_ne _ _ (by omega)]; assumption)) ?_
          refine tk_iload4 dX3_fault_36 ?_
          refine tk_iald dX3_fault_38 (by first | assumption | exact va_up_self _ _ _ | exact (va_up_ne _ _ (by omega)).trans (by assumption) | exact congrArg Prod.fst (va_up_self _ _ _) | exact (congrArg Prod.fst (va_up_ne _ _ (by omega))).trans (by assumption) | exact (congrFun (va_up_ne _ _ (by omega)) _).trans (by assumption) | exact (va_up_ne _ _ (by omega)).trans (va_up_self _ _ _) | exact (va_up_ne _ _ (by omega)).trans ((va_up_ne _ _ (by omega)).trans (by assumption)) | exact (congrArg Prod.fst ((va_up_ne _ _ (by omega)).trans (va_up_ne _ _ (by omega)))).trans (by assumption) | exact (congrFun ((va_up_ne _ _ (by omega)).trans (va_up_ne _ _ (by omega))) _).trans (by assumption) | (rw [va_up_self, va_up_ne _ _ (by omega)]; assumption)) (by omega) (by omega) ?_
          rw [e1, hv]
          refine tk_iload1 dX3_fault_39 ?_
          refine tk_iload2 dX3_fault_40 ?_
          refine tk_callS3z dX3_fault_41 kX3_32 (c_tells hvk hnp hnf) (Nat.le_of_ble_eq_true rfl) (by omega) ?_
          rw [← hv]
          first | refine tk_jf_eqB dX3_fault_44 (fun h44 => ?_) (fun h44 => ?_) | refine tk_if_eq dX3_fault_44 (fun h44 => ?_) (fun h44 => ?_)
          · refine tk_iload3 dX3_fault_50 ?_
            refine tk_iconst dX3_fault_51 kc_iconst_1 ?_
            refine tk_iload5 dX3_fault_52 ?_
            first | refine tk_isubN dX3_fault_54 (by omega) ?_ | refine tk_isub dX3_fault_54 ?_
            first | refine tk_iaddN dX3_fault_55 ?_ | refine tk_iadd dX3_fault_55 ?_
            refine tk_istore3 dX3_fault_56 rfl ?_
            first | refine tk_iinc4 dX3_fault_57 (kc_inc _) rfl ?_ | refine tk_iinc4 dX3_fault_57 rfl rfl ?_
            refine tk_goto dX3_fault_60 ?_
            have q := ih (i + 1) (sd + (nI 1 - rTk (row i))) (by omega)
            rw [rW, if_pos ⟨by cases e : rTh (row i) (nI np) (nI nf) with | true => rfl | false => (rw [e] at h44; cases h44), h29⟩]
            exact tk_wk (by repeat' (first | exact trivial | refine ⟨Or.inl rfl, ?_⟩ | refine ⟨Or.inr rfl, ?_⟩)) q
          · refine tk_iload4 dX3_fault_47 ?_
            refine tk_ireturn dX3_fault_49 rfl ?_
            refine tki ?_
            rw [rW, if_neg]
            rintro ⟨q1, q2⟩
            first | exact absurd q2 (Int32.not_le.mpr h29) | (rw [q1] at h44; cases h44)
  refine tkM.of (ls := [some _, some _, some _, none, none, none]) (by decide +kernel) (by decide +kernel) (Nat.le_of_ble_eq_true rfl) rfl ?_
  refine tk_iconst dX3_fault_0 kc_iconst_0 ?_
  refine tk_istore3 dX3_fault_1 rfl ?_
  refine tk_iconst dX3_fault_2 kc_iconst_0 ?_
  refine tk_istore4 dX3_fault_3 rfl ?_
  exact tk_wk (by repeat' (first | exact trivial | refine ⟨Or.inl rfl, ?_⟩ | refine ⟨Or.inr rfl, ?_⟩)) (loop l 0 (nI 0) (by omega))
theorem ior0 (x : Int32) : x ||| nI 0 = x := by rw [nI_0]; apply Int32.toBitVec_inj.mp; rw [Int32.toBitVec_or]; exact BitVec.or_zero
theorem c_factsTold {a l : Nat} {row : Nat → Int32} (hr : cRow n T I P a l row) : tkM G mX3_factsTold 2 0 0 [vR a] (n, T, I, L, P) (tkF (some (vI (rFs row l))) (n, T, I, L, P)) := by
  obtain ⟨r1, r2, b, r3, r4, r5, r6, r7, r8⟩ := hr
  refine tkM.of (ls := [some _, none, none]) (by decide +kernel) (by decide +kernel) (Nat.le_of_ble_eq_true rfl) rfl ?_
  refine tk_iconst dX3_factsTold_0 kc_iconst_0 ?_
  refine tk_istore1 dX3_factsTold_1 rfl ?_
  refine tk_iconst dX3_factsTold_2 kc_iconst_0 ?_
  refine tk_istore2 dX3_factsTold_3 rfl ?_
  refine tk_fr 0 l (fun i => [some (vR a), some (vI (rFs row i)), some (vI (nI i))]) (fun i => (n, T, I, L, P)) (by omega) (by repeat' (first | exact trivial | refine ⟨Or.inl rfl, ?_⟩ | refine ⟨Or.inr rfl, ?_⟩)) rfl ?_ ?_
  · refine tk_iload2 dX3_factsTold_4 ?_
    refine tk_aload0 dX3_factsTold_5 ?_
    refine tk_getI dX3_factsTold_6 fX3_13 rfl (by first | assumption | exact va_up_self _ _ _ | exact (va_up_ne _ _ (by omega)).trans (by assumption) | exact congrArg Prod.fst (va_up_self _ _ _) | exact (congrArg Prod.fst (va_up_ne _ _ (by omega))).trans (by assumption) | exact (congrFun (va_up_ne _ _ (by omega)) _).trans (by assumption) | exact (va_up_ne _ _ (by omega)).trans (va_up_self _ _ _) | exact (va_up_ne _ _ (by omega)).trans ((va_up_ne _ _ (by omega)).trans (by assumption)) | exact (congrArg Prod.fst ((va_up_ne _ _ (by omega)).trans (va_up_ne _ _ (by omega)))).trans (by assumption) | exact (congrFun ((va_up_ne _ _ (by omega)).trans (va_up_ne _ _ (by omega))) _).trans (by assumption) | (rw [va_up_self, va_up_ne _ _ (by omega)]; assumption)) ?_
    rw [r6]
    first | refine tk_icmp_geN dX3_factsTold_9 (by omega) (by omega) (fun h9 => ?_) (fun h9 => ?_) | refine tk_jcmp_ge dX3_factsTold_9 (fun h9 => ?_) (fun h9 => ?_)
    · refine tk_iload1 dX3_factsTold_41 ?_
      refine tk_ireturn dX3_factsTold_42 rfl ?_
      exact ⟨rfl, rfl⟩
    · exfalso; omega
  · intro i _ hi k
    obtain ⟨e1, e2⟩ := r8 i hi
    obtain ⟨v, hv, hvk⟩ := rSign_of e2
    refine tk_iload2 dX3_factsTold_4 ?_
    refine tk_aload0 dX3_factsTold_5 ?_
    refine tk_getI dX3_factsTold_6 fX3_13 rfl (by first | assumption | exact va_up_self _ _ _ | exact (va_up_ne _ _ (by omega)).trans (by assumption) | exact congrArg Prod.fst (va_up_self _ _ _) | exact (congrArg Prod.fst (va_up_ne _ _ (by omega))).trans (by assumption) | exact (congrFun (va_up_ne _ _ (by omega)) _).trans (by assumption) | exact (va_up_ne _ _ (by omega)).trans (va_up_self _ _ _) | exact (va_up_ne _ _ (by omega)).trans ((va_up_ne _ _ (by omega)).trans (by assumption)) | exact (congrArg Prod.fst ((va_up_ne _ _ (by omega)).trans (va_up_ne _ _ (by omega)))).trans (by assumption) | exact (congrFun ((va_up_ne _ _ (by omega)).trans (va_up_ne _ _ (by omega))) _).trans (by assumption) | (rw [va_up_self, va_up_ne _ _ (by omega)]; assumption)) ?_
    rw [r6]
    first | refine tk_icmp_geN dX3_factsTold_9 (by omega) (by omega) (fun h9 => ?_) (fun h9 => ?_) | refine tk_jcmp_ge dX3_factsTold_9 (fun h9 => ?_) (fun h9 => ?_)
    · exfalso; omega
    · refine tk_aload0 dX3_factsTold_12 ?_
      refine tk_getP dX3_factsTold_13 fX3_7 rfl (by first | assumption | exact va_up_self _ _ _ | exact (va_up_ne _ _ (by omega)).trans (by assumption) | exact congrArg Prod.fst (va_up_self _ _ _) | exact (congrArg Prod.fst (va_up_ne _ _ (by omega))).trans (by assumption) | exact (congrFun (va_up_ne _ _ (by omega)) _).trans (by assumption) | exact (va_up_ne _ _ (by omega)).trans (va_up_self _ _ _) | exact (va_up_ne _ _ (by omega)).trans ((va_up_ne _ _ (by omega)).trans (by assumption)) | exact (congrArg Prod.fst ((va_up_ne _ _ (by omega)).trans (va_up_ne _ _ (by omega)))).trans (by assumption) | exact (congrFun ((va_up_ne _ _ (by omega)).trans (va_up_ne _ _ (by omega))) _).trans (by assumption) | (rw [va_up_self, va_up_ne _ _ (by omega)]; assumption)) (by first | assumption | exact va_up_self _ _ _ | exact (va_up_ne _ _ (by omega)).trans (by assumption) | exact congrArg Prod.fst (va_up_self _ _ _) | exact (congrArg Prod.fst (va_up_ne _ _ (by omega))).trans (by assumption) | exact (congrFun (va_up_ne _ _ (by omega)) _).trans (by assumption) | exact (va_up_ne _ _ (by omega)).trans (va_up_self _ _ _) | exact (va_up_ne _ _ (by omega)).trans ((va_up_ne _ _ (by omega)).trans (by assumption)) | exact (congrArg Prod.fst ((va_up_ne _ _ (by omega)).trans (va_up_ne _ _ (by omega)))).trans (by assumption) | exact (congrFun ((va_up_ne _ _ (by omega)).trans (va_up_ne _ _ (by omega))) _).trans (by assumption) | (rw [va_up_self, va_up_ne _ _ (by omega)]; assumption)) ?_
      refine tk_iload2 dX3_factsTold_16 ?_
      refine tk_iald dX3_factsTold_17 (by first | assumption | exact va_up_self _ _ _ | exact (va_up_ne _ _ (by omega)).trans (by assumption) | exact congrArg Prod.fst (va_up_self _ _ _) | exact (congrArg Prod.fst (va_up_ne _ _ (by omega))).trans (by assumption) | exact (congrFun (va_up_ne _ _ (by omega)) _).trans (by assumption) | exact (va_up_ne _ _ (by omega)).trans (va_up_self _ _ _) | exact (va_up_ne _ _ (by omega)).trans ((va_up_ne _ _ (by omega)).trans (by assumption)) | exact (congrArg Prod.fst ((va_up_ne _ _ (by omega)).trans (va_up_ne _ _ (by omega)))).trans (by assumption) | exact (congrFun ((va_up_ne _ _ (by omega)).trans (va_up_ne _ _ (by omega))) _).trans (by assumption) | (rw [va_up_self, va_up_ne _ _ (by omega)]; assumption)) (by omega) (by omega) ?_
      rw [e1]
      refine tk_callS1z dX3_factsTold_18 kX3_39 (c_isFactSign _) (Nat.le_of_ble_eq_true rfl) (by omega) ?_
      first | refine tk_jf_eqB dX3_factsTold_21 (fun h21 => ?_) (fun h21 => ?_) | refine tk_if_eq dX3_factsTold_21 (fun h21 => ?_) (fun h21 => ?_)
      · first | refine tk_iinc2 dX3_factsTold_35 (kc_inc _) rfl ?_ | refine tk_iinc2 dX3_factsTold_35 rfl rfl ?_
        refine tk_goto dX3_factsTold_38 ?_
        refine k _ ?_
        first
          | rw [show rFs row (i + 1) = rFs row i ||| kshl (nI 1) (row i) from congrArg _ (if_pos (by rw [hv] at h21 ⊢; obtain ⟨k, hk, e⟩ := rIn_of h21 (by omega); rw [e]; exact nI_lt (by omega) (by omega)))]
            exact (by repeat' (first | exact trivial | refine ⟨Or.inl rfl, ?_⟩ | refine ⟨Or.inr rfl, ?_⟩))
          | rw [show rFs row (i + 1) = rFs row i ||| nI 0 from congrArg _ (if_neg (fun q => by rw [hv] at h21 q; have := (nI_ltI (by omega) (by omega)).mp q; rw [show rIn (nI v) (nI 0) (nI 3) = true by unfold rIn; rw [decide_eq_true (nI_le (by omega) (by omega)), decide_eq_true (nI_le (by omega) (by omega))]; rfl] at h21; cases h21)), ior0]
            exact (by repeat' (first | exact trivial | refine ⟨Or.inl rfl, ?_⟩ | refine ⟨Or.inr rfl, ?_⟩))
      · refine tk_iload1 dX3_factsTold_24 ?_
        refine tk_iconst dX3_factsTold_25 kc_iconst_1 ?_
        refine tk_aload0 dX3_factsTold_26 ?_
        refine tk_getP dX3_factsTold_27 fX3_7 rfl (by first | assumption | exact va_up_self _ _ _ | exact (va_up_ne _ _ (by omega)).trans (by assumption) | exact congrArg Prod.fst (va_up_self _ _ _) | exact (congrArg Prod.fst (va_up_ne _ _ (by omega))).trans (by assumption) | exact (congrFun (va_up_ne _ _ (by omega)) _).trans (by assumption) | exact (va_up_ne _ _ (by omega)).trans (va_up_self _ _ _) | exact (va_up_ne _ _ (by omega)).trans ((va_up_ne _ _ (by omega)).trans (by assumption)) | exact (congrArg Prod.fst ((va_up_ne _ _ (by omega)).trans (va_up_ne _ _ (by omega)))).trans (by assumption) | exact (congrFun ((va_up_ne _ _ (by omega)).trans (va_up_ne _ _ (by omega))) _).trans (by assumption) | (rw [va_up_self, va_up_ne _ _ (by omega)]; assumption)) (by first | assumption | exact va_up_self _ _ _ | exact (va_up_ne _ _ (by omega)).trans (by assumption) | exact congrArg Prod.fst (va_up_self _ _ _) | exact (congrArg Prod.fst (va_up_ne _ _ (by omega))).trans (by assumption) | exact (congrFun (va_up_ne _ _ (by omega)) _).trans (by assumption) | exact (va_up_ne _ _ (by omega)).trans (va_up_self _ _ _) | exact (va_up_ne _ _ (by omega)).trans ((va_up_ne _ _ (by omega)).trans (by assumption)) | exact (congrArg Prod.fst ((va_up_ne _ _ (by omega)).trans (va_up_ne _ _ (by omega)))).trans (by assumption) | exact (congrFun ((va_up_ne _ _ (by omega)).trans (va_up_ne _ _ (by omega))) _).trans (by assumption) | (rw [va_up_self, va_up_ne _ _ (by omega)]; assumption)) ?_
        refine tk_iload2 dX3_factsTold_30 ?_
        refine tk_iald dX3_factsTold_31 (by first | assumption | exact va_up_self _ _ _ | exact (va_up_ne _ _ (by omega)).trans (by assumption) | exact congrArg Prod.fst (va_up_self _ _ _) | exact (congrArg Prod.fst (va_up_ne _ _ (by omega))).trans (by assumption) | exact (congrFun (va_up_ne _ _ (by omega)) _).trans (by assumption) | exact (va_up_ne _ _ (by omega)).trans (va_up_self _ _ _) | exact (va_up_ne _ _ (by omega)).trans ((va_up_ne _ _ (by omega)).trans (by assumption)) | exact (congrArg Prod.fst ((va_up_ne _ _ (by omega)).trans (va_up_ne _ _ (by omega)))).trans (by assumption) | exact (congrFun ((va_up_ne _ _ (by omega)).trans (va_up_ne _ _ (by omega))) _).trans (by assumption) | (rw [va_up_self, va_up_ne _ _ (by omega)]; assumption)) (by omega) (by omega) ?_
        rw [e1]
        refine tk_ishl dX3_factsTold_32 ?_
        refine tk_ior dX3_factsTold_33 ?_
        refine tk_istore1 dX3_factsTold_34 rfl ?_
        first | refine tk_iinc2 dX3_factsTold_35 (kc_inc _) rfl ?_ | refine tk_iinc2 dX3_factsTold_35 rfl rfl ?_
        refine tk_goto dX3_factsTold_38 ?_
        refine k _ ?_
        first
          | rw [show rFs row (i + 1) = rFs row i ||| kshl (nI 1) (row i) from congrArg _ (if_pos (by rw [hv] at h21 ⊢; obtain ⟨k, hk, e⟩ := rIn_of h21 (by omega); rw [e]; exact nI_lt (by omega) (by omega)))]
            exact (by repeat' (first | exact trivial | refine ⟨Or.inl rfl, ?_⟩ | refine ⟨Or.inr rfl, ?_⟩))
          | rw [show rFs row (i + 1) = rFs row i ||| nI 0 from congrArg _ (if_neg (fun q => by rw [hv] at h21 q; have := (nI_ltI (by omega) (by omega)).mp q; rw [show rIn (nI v) (nI 0) (nI 3) = true by unfold rIn; rw [decide_eq_true (nI_le (by omega) (by omega)), decide_eq_true (nI_le (by omega) (by omega))]; rfl] at h21; cases h21)), ior0]
            exact (by repeat' (first | exact trivial | refine ⟨Or.inl rfl, ?_⟩ | refine ⟨Or.inr rfl, ?_⟩))
theorem c_hasBelief {a l : Nat} {row : Nat → Int32} (hr : cRow n T I P a l row) : tkM G mX3_hasBelief 2 0 0 [vR a] (n, T, I, L, P) (tkF (some (vI (tkb (rBel row l)))) (n, T, I, L, P)) := by
  obtain ⟨r1, r2, b, r3, r4, r5, r6, r7, r8⟩ := hr
  have loop : ∀ k i, i + k = l → rBel row i = false → tkX G mX3_hasBelief 2 0 0 2 [some (vR a), some (vI (nI i))] [] (n, T, I, L, P) (tkF (some (vI (tkb (rBel row l)))) (n, T, I, L, P)) := by
    intro k
    induction k with
    | zero =>
      intro i hi hf
      refine tk_iload1 dX3_hasBelief_2 ?_
      refine tk_aload0 dX3_hasBelief_3 ?_
      refine tk_getI dX3_hasBelief_4 fX3_13 rfl (by first | assumption | exact va_up_self _ _ _ | exact (va_up_ne _ _ (by omega)).trans (by assumption) | exact congrArg Prod.fst (va_up_self _ _ _) | exact (congrArg Prod.fst (va_up_ne _ _ (by omega))).trans (by assumption) | exact (congrFun (va_up_ne _ _ (by omega)) _).trans (by assumption) | exact (va_up_ne _ _ (by omega)).trans (va_up_self _ _ _) | exact (va_up_ne _ _ (by omega)).trans ((va_up_ne _ _ (by omega)).trans (by assumption)) | exact (congrArg Prod.fst ((va_up_ne _ _ (by omega)).trans (va_up_ne _ _ (by omega)))).trans (by assumption) | exact (congrFun ((va_up_ne _ _ (by omega)).trans (va_up_ne _ _ (by omega))) _).trans (by assumption) | (rw [va_up_self, va_up_ne _ _ (by omega)]; assumption)) ?_
      rw [r6]
      first | refine tk_icmp_geN dX3_hasBelief_7 (by omega) (by omega) (fun h7 => ?_) (fun h7 => ?_) | refine tk_jcmp_ge dX3_hasBelief_7 (fun h7 => ?_) (fun h7 => ?_)
      · refine tk_iconst dX3_hasBelief_34 kc_iconst_0 ?_
        first | refine tk_zreturn dX3_hasBelief_35 rfl ?_ | refine tk_zret0 dX3_hasBelief_35 rfl ?_ | refine tk_zret1 dX3_hasBelief_35 rfl ?_
        exact tkz (by rw [show l = i by omega]; exact hf.symm)
      · exfalso; omega
    | succ k ih =>
      intro i hi hf
      obtain ⟨e1, e2⟩ := r8 i (by omega)
      refine tk_iload1 dX3_hasBelief_2 ?_
      refine tk_aload0 dX3_hasBelief_3 ?_
      refine tk_getI dX3_hasBelief_4 fX3_13 rfl (by first | assumption | exact va_up_self _ _ _ | exact (va_up_ne _ _ (by omega)).trans (by assumption) | exact congrArg Prod.fst (va_up_self _ _ _) | exact (congrArg Prod.fst (va_up_ne _ _ (by omega))).trans (by assumption) | exact (congrFun (va_up_ne _ _ (by omega)) _).trans (by assumption) | exact (va_up_ne _ _ (by omega)).trans (va_up_self _ _ _) | exact (va_up_ne _ _ (by omega)).trans ((va_up_ne _ _ (by omega)).trans (by assumption)) | exact (congrArg Prod.fst ((va_up_ne _ _ (by omega)).trans (va_up_ne _ _ (by omega)))).trans (by assumption) | exact (congrFun ((va_up_ne _ _ (by omega)).trans (va_up_ne _ _ (by omega))) _).trans (by assumption) | (rw [va_up_self, va_up_ne _ _ (by omega)]; assumption)) ?_
      rw [r6]
      first | refine tk_icmp_geN dX3_hasBelief_7 (by omega) (by omega) (fun h7 => ?_) (fun h7 => ?_) | refine tk_jcmp_ge dX3_hasBelief_7 (fun h7 => ?_) (fun h7 => ?_)
      · exfalso; omega
      · refine tk_aload0 dX3_hasBelief_10 ?_
        refine tk_getP dX3_hasBelief_11 fX3_7 rfl (by first | assumption | exact va_up_self _ _ _ | exact (va_up_ne _ _ (by omega)).trans (by assumption) | exact congrArg Prod.fst (va_up_self _ _ _) | exact (congrArg Prod.fst (va_up_ne _ _ (by omega))).trans (by assumption) | exact (congrFun (va_up_ne _ _ (by omega)) _).trans (by assumption) | exact (va_up_ne _ _ (by omega)).trans (va_up_self _ _ _) | exact (va_up_ne _ _ (by omega)).trans ((va_up_ne _ _ (by omega)).trans (by assumption)) | exact (congrArg Prod.fst ((va_up_ne _ _ (by omega)).trans (va_up_ne _ _ (by omega)))).trans (by assumption) | exact (congrFun ((va_up_ne _ _ (by omega)).trans (va_up_ne _ _ (by omega))) _).trans (by assumption) | (rw [va_up_self, va_up_ne _ _ (by omega)]; assumption)) (by first | assumption | exact va_up_self _ _ _ | exact (va_up_ne _ _ (by omega)).trans (by assumption) | exact congrArg Prod.fst (va_up_self _ _ _) | exact (congrArg Prod.fst (va_up_ne _ _ (by omega))).trans (by assumption) | exact (congrFun (va_up_ne _ _ (by omega)) _).trans (by assumption) | exact (va_up_ne _ _ (by omega)).trans (va_up_self _ _ _) | exact (va_up_ne _ _ (by omega)).trans ((va_up_ne _ _ (by omega)).trans (by assumption)) | exact (congrArg Prod.fst ((va_up_ne _ _ (by omega)).trans (va_up_ne _ _ (by omega)))).trans (by assumption) | exact (congrFun ((va_up_ne _ _ (by omega)).trans (va_up_ne _ _ (by omega))) _).trans (by assumption) | (rw [va_up_self, va_up_ne _ _ (by omega)]; assumption)) ?_
        refine tk_iload1 dX3_hasBelief_14 ?_
        refine tk_iald dX3_hasBelief_15 (by first | assumption | exact va_up_self _ _ _ | exact (va_up_ne _ _ (by omega)).trans (by assumption) | exact congrArg Prod.fst (va_up_self _ _ _) | exact (congrArg Prod.fst (va_up_ne _ _ (by omega))).trans (by assumption) | exact (congrFun (va_up_ne _ _ (by omega)) _).trans (by assumption) | exact (va_up_ne _ _ (by omega)).trans (va_up_self _ _ _) | exact (va_up_ne _ _ (by omega)).trans ((va_up_ne _ _ (by omega)).trans (by assumption)) | exact (congrArg Prod.fst ((va_up_ne _ _ (by omega)).trans (va_up_ne _ _ (by omega)))).trans (by assumption) | exact (congrFun ((va_up_ne _ _ (by omega)).trans (va_up_ne _ _ (by omega))) _).trans (by assumption) | (rw [va_up_self, va_up_ne _ _ (by omega)]; assumption)) (by omega) (by omega) ?_
        rw [e1]
        refine tk_bipush dX3_hasBelief_16 kc_bipush_28 ?_
        refine tk_bipush dX3_hasBelief_18 kc_bipush_31 ?_
        refine tk_callSN3z dX3_hasBelief_20 kX3_43 (c_within _ _ _) (Nat.le_of_ble_eq_true rfl) (by omega) ?_
        first | refine tk_jf_eqB dX3_hasBelief_23 (fun h23 => ?_) (fun h23 => ?_) | refine tk_if_eq dX3_hasBelief_23 (fun h23 => ?_) (fun h23 => ?_)
        · first | refine tk_iinc1 dX3_hasBelief_28 (kc_inc _) rfl ?_ | refine tk_iinc1 dX3_hasBelief_28 rfl rfl ?_
          refine tk_goto dX3_hasBelief_31 ?_
          refine tk_wk (by repeat' (first | exact trivial | refine ⟨Or.inl rfl, ?_⟩ | refine ⟨Or.inr rfl, ?_⟩)) (ih (i + 1) (by omega) ?_)
          show (rBel row i || rIn (row i) (nI 28) (nI 31)) = false
          rw [hf, h23]; rfl
        · refine tk_iconst dX3_hasBelief_26 kc_iconst_1 ?_
          first | refine tk_zreturn dX3_hasBelief_27 rfl ?_ | refine tk_zret0 dX3_hasBelief_27 rfl ?_ | refine tk_zret1 dX3_hasBelief_27 rfl ?_
          refine tkz ?_
          have : ∀ j, i + 1 + j ≤ l → rBel row (i + 1 + j) = true := by
            intro j
            induction j with
            | zero => intro _; show (rBel row i || rIn (row i) (nI 28) (nI 31)) = true; rw [h23, Bool.or_true]
            | succ j ihj => intro hj; show (rBel row (i + 1 + j) || _) = true; rw [ihj (by omega)]; rfl
          have q := this (l - (i + 1)) (by omega)
          rw [show i + 1 + (l - (i + 1)) = l by omega] at q
          exact q.symm
  refine tkM.of (ls := [some _, none]) (by decide +kernel) (by decide +kernel) (Nat.le_of_ble_eq_true rfl) rfl ?_
  refine tk_iconst dX3_hasBelief_0 kc_iconst_0 ?_
  refine tk_istore1 dX3_hasBelief_1 rfl ?_
  exact loop l 0 (by omega) rfl
end CROW
