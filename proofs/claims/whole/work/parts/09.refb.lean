/-! ===== the reference: sentences that are right ===== -/
def rTh (v np nf : Int32) : Bool := if v < nI 10 then rPer nf v else if v < nI 20 ∨ nI 32 ≤ v then true else rPer np (v - v / nI 4 * nI 4)
def rW (r : Nat → Int32) (np nf : Int32) : Nat → Nat → Int32 → Int32
  | 0, i, sd => if sd = nI 1 then -1 else nI i
  | k + 1, i, sd => if rTh (r i) np nf = true ∧ rTk (r i) ≤ sd then rW r np nf k (i + 1) (sd + (nI 1 - rTk (r i))) else nI i
section REFB
variable {G : tkG} {n : Nat} {T : Nat → Nat × Nat} {I : Nat → Nat → Int32} {L : Nat → Nat → Int64} {P : Nat → Nat → Option Nat}
theorem r_wrongAt (hR : tkRef T P) {s l : Nat} (hs : s < 6) (hl : I 48 s = nI l) (hl2 : l ≤ 14) : tkM G mX11_wrongAt 1 0 0 [vR 40, vI (nI s)] (n, T, I, L, P) (tkF (some (vI (rW (fun i => I 47 (14 * s + i)) (I 41 0) (I 41 1) l 0 (nI 0)))) (n, T, I, L, P)) := by
  refine tkM.of (ls := [some _, some _, none, none, none, none]) (by decide +kernel) (by decide +kernel) (Nat.le_of_ble_eq_true rfl) rfl ?_
  refine tk_iconst dX11_wrongAt_0 kc_iconst_0 ?_
  refine tk_istore2 dX11_wrongAt_1 rfl ?_
  refine tk_iconst dX11_wrongAt_2 kc_iconst_0 ?_
  refine tk_istore3 dX11_wrongAt_3 rfl ?_
  have loop : ∀ (k i : Nat) (sd : Int32) (a4 a5 : Option tkV), i + k = l → tkX G mX11_wrongAt 1 0 0 4 [some (vR 40), some (vI (nI s)), some (vI sd), some (vI (nI i)), a4, a5] [] (n, T, I, L, P) (tkF (some (vI (rW (fun i => I 47 (14 * s + i)) (I 41 0) (I 41 1) k i sd))) (n, T, I, L, P)) := by
    intro k
    induction k with
    | zero =>
      intro i sd a4 a5 e
      obtain rfl : i = l := by omega
      refine tk_iload3 dX11_wrongAt_4 ?_
      refine tk_aload0 dX11_wrongAt_5 ?_
      refine tk_getP dX11_wrongAt_6 fX11_31 rfl hR.o (hR.p 7 rfl) ?_
      refine tk_iload1 dX11_wrongAt_9 ?_
      refine tk_iald dX11_wrongAt_10 (hR.t 48 rfl) (by omega) (by omega) ?_
      rw [hl]
      first | refine tk_icmp_geN dX11_wrongAt_11 (by omega) (by omega) (fun h11 => ?_) (fun h11 => ?_) | refine tk_jcmp_ge dX11_wrongAt_11 (fun h11 => ?_) (fun h11 => ?_)
      · refine tk_iload2 dX11_wrongAt_107 ?_
        refine tk_iconst dX11_wrongAt_108 kc_iconst_1 ?_
        first | refine tk_icmp_neN dX11_wrongAt_109 (by omega) (by omega) (fun h109 => ?_) (fun h109 => ?_) | refine tk_icmp_ne dX11_wrongAt_109 (fun h109 => ?_) (fun h109 => ?_)
        · refine tk_aload0 dX11_wrongAt_116 ?_
          refine tk_getP dX11_wrongAt_117 fX11_31 rfl hR.o (hR.p 7 rfl) ?_
          refine tk_iload1 dX11_wrongAt_120 ?_
          refine tk_iald dX11_wrongAt_121 (hR.t 48 rfl) (by omega) (by omega) ?_
          rw [hl]
          refine tk_ireturn dX11_wrongAt_122 rfl ?_
          exact tki (by simp only [rW]; first | rw [if_neg (by assumption)] | rw [if_pos (by assumption)])
        · refine tk_iconst dX11_wrongAt_112 kc_iconst_m1 ?_
          refine tk_goto dX11_wrongAt_113 ?_
          refine tk_ireturn dX11_wrongAt_122 rfl ?_
          exact tki (by simp only [rW]; first | rw [if_neg (by assumption)] | rw [if_pos (by assumption)])
      · exfalso; omega
    | succ k ih =>
      intro i sd a4 a5 e
      have k73 : ∀ b : Int32, b = tkb (rTh (I 47 (14 * s + i)) (I 41 0) (I 41 1)) → tkX G mX11_wrongAt 1 0 0 73 [some (vR 40), some (vI (nI s)), some (vI sd), some (vI (nI i)), some (vI (I 47 (14 * s + i))), a5] [vI b] (n, T, I, L, P) (tkF (some (vI (rW (fun i => I 47 (14 * s + i)) (I 41 0) (I 41 1) (k + 1) i sd))) (n, T, I, L, P)) := by
        intro b hb
        subst hb
        refine tk_istore5 dX11_wrongAt_73 rfl ?_
        refine tk_iload5 dX11_wrongAt_75 ?_
        first | refine tk_jf_eqB dX11_wrongAt_77 (fun h77 => ?_) (fun h77 => ?_) | refine tk_if_eq dX11_wrongAt_77 (fun h77 => ?_) (fun h77 => ?_)
        · refine tk_iload3 dX11_wrongAt_89 ?_
          refine tk_ireturn dX11_wrongAt_90 rfl ?_
          refine tki (Eq.symm (if_neg ?_))
          rintro ⟨q1, q2⟩
          first | exact Int32.not_le.mpr h86 q2 | (rw [q1] at h77; exact absurd h77 (by decide))
        · refine tk_iload4 dX11_wrongAt_80 ?_
          refine tk_callS1z dX11_wrongAt_82 kX11_205 (r_takes _) (Nat.le_of_ble_eq_true rfl) (by omega) ?_
          refine tk_iload2 dX11_wrongAt_85 ?_
          first | refine tk_icmp_leN dX11_wrongAt_86 (by omega) (by omega) (fun h86 => ?_) (fun h86 => ?_) | refine tk_jcmp_le dX11_wrongAt_86 (fun h86 => ?_) (fun h86 => ?_)
          · refine tk_iload2 dX11_wrongAt_91 ?_
            refine tk_iconst dX11_wrongAt_92 kc_iconst_1 ?_
            refine tk_iload4 dX11_wrongAt_93 ?_
            refine tk_callS1z dX11_wrongAt_95 kX11_205 (r_takes _) (Nat.le_of_ble_eq_true rfl) (by omega) ?_
            first | refine tk_isubN dX11_wrongAt_98 (by omega) ?_ | refine tk_isub dX11_wrongAt_98 ?_
            first | refine tk_iaddN dX11_wrongAt_99 ?_ | refine tk_iadd dX11_wrongAt_99 ?_
            refine tk_istore2 dX11_wrongAt_100 rfl ?_
            first | refine tk_iinc3 dX11_wrongAt_101 (kc_inc _) rfl ?_ | refine tk_iinc3 dX11_wrongAt_101 rfl rfl ?_
            refine tk_goto dX11_wrongAt_104 ?_
            rw [show rW (fun i => I 47 (14 * s + i)) (I 41 0) (I 41 1) (k + 1) i sd = rW (fun i => I 47 (14 * s + i)) (I 41 0) (I 41 1) k (i + 1) (sd + (nI 1 - rTk (I 47 (14 * s + i)))) from if_pos ⟨h77, h86⟩]
            exact ih (i + 1) _ _ _ (by omega)
          · refine tk_iload3 dX11_wrongAt_89 ?_
            refine tk_ireturn dX11_wrongAt_90 rfl ?_
            refine tki (Eq.symm (if_neg ?_))
            rintro ⟨q1, q2⟩
            first | exact Int32.not_le.mpr h86 q2 | (rw [q1] at h77; exact absurd h77 (by decide))
      refine tk_iload3 dX11_wrongAt_4 ?_
      refine tk_aload0 dX11_wrongAt_5 ?_
      refine tk_getP dX11_wrongAt_6 fX11_31 rfl hR.o (hR.p 7 rfl) ?_
      refine tk_iload1 dX11_wrongAt_9 ?_
      refine tk_iald dX11_wrongAt_10 (hR.t 48 rfl) (by omega) (by omega) ?_
      rw [hl]
      first | refine tk_icmp_geN dX11_wrongAt_11 (by omega) (by omega) (fun h11 => ?_) (fun h11 => ?_) | refine tk_jcmp_ge dX11_wrongAt_11 (fun h11 => ?_) (fun h11 => ?_)
      · exfalso; omega
      · refine tk_aload0 dX11_wrongAt_14 ?_
        refine tk_getP dX11_wrongAt_15 fX11_28 rfl hR.o (hR.p 6 rfl) ?_
        refine tk_bipush dX11_wrongAt_18 kc_bipush_14 ?_
        refine tk_iload1 dX11_wrongAt_20 ?_
        first | refine tk_imulN dX11_wrongAt_21 ?_ | refine tk_imul dX11_wrongAt_21 ?_
        refine tk_iload3 dX11_wrongAt_22 ?_
        first | refine tk_iaddN dX11_wrongAt_23 ?_ | refine tk_iadd dX11_wrongAt_23 ?_
        refine tk_iald dX11_wrongAt_24 (hR.t 47 rfl) (by omega) (by omega) ?_
        refine tk_istore4 dX11_wrongAt_25 rfl ?_
        refine tk_iload4 dX11_wrongAt_27 ?_
        refine tk_bipush dX11_wrongAt_29 kc_bipush_10 ?_
        first | refine tk_icmp_geN dX11_wrongAt_31 (by omega) (by omega) (fun h31 => ?_) (fun h31 => ?_) | refine tk_jcmp_ge dX11_wrongAt_31 (fun h31 => ?_) (fun h31 => ?_)
        · refine tk_iload4 dX11_wrongAt_43 ?_
          refine tk_bipush dX11_wrongAt_45 kc_bipush_20 ?_
          first | refine tk_icmp_ltN dX11_wrongAt_47 (by omega) (by omega) (fun h47 => ?_) (fun h47 => ?_) | refine tk_jcmp_lt dX11_wrongAt_47 (fun h47 => ?_) (fun h47 => ?_)
          · refine tk_iconst dX11_wrongAt_68 kc_iconst_1 ?_
            refine tk_goto dX11_wrongAt_69 ?_
            refine k73 _ ?_
            unfold rTh
            first | rw [if_pos (by assumption)] | (rw [if_neg (Int32.not_lt.mpr (by assumption))]; first | (rw [if_pos (Or.inl (by assumption))]; rfl) | (rw [if_pos (Or.inr (by assumption))]; rfl) | (rw [if_neg (fun q => q.elim (Int32.not_lt.mpr (by assumption)) (Int32.not_le.mpr (by assumption))), h65]; rfl))
          · refine tk_iload4 dX11_wrongAt_50 ?_
            refine tk_bipush dX11_wrongAt_52 kc_bipush_32 ?_
            first | refine tk_icmp_geN dX11_wrongAt_54 (by omega) (by omega) (fun h54 => ?_) (fun h54 => ?_) | refine tk_jcmp_ge dX11_wrongAt_54 (fun h54 => ?_) (fun h54 => ?_)
            · refine tk_iconst dX11_wrongAt_68 kc_iconst_1 ?_
              refine tk_goto dX11_wrongAt_69 ?_
              refine k73 _ ?_
              unfold rTh
              first | rw [if_pos (by assumption)] | (rw [if_neg (Int32.not_lt.mpr (by assumption))]; first | (rw [if_pos (Or.inl (by assumption))]; rfl) | (rw [if_pos (Or.inr (by assumption))]; rfl) | (rw [if_neg (fun q => q.elim (Int32.not_lt.mpr (by assumption)) (Int32.not_le.mpr (by assumption))), h65]; rfl))
            · refine tk_aload0 dX11_wrongAt_57 ?_
              refine tk_iload4 dX11_wrongAt_58 ?_
              refine tk_iconst dX11_wrongAt_60 kc_iconst_4 ?_
              first | refine tk_iremN dX11_wrongAt_61 (by omega) (by omega) (by omega) ?_ | refine tk_irem dX11_wrongAt_61 (by decide) ?_
              refine tk_callV1z dX11_wrongAt_62 kX11_187 hR.o (r_isPerson hR _) (Nat.le_of_ble_eq_true rfl) (by omega) ?_
              first | refine tk_jf_eqB dX11_wrongAt_65 (fun h65 => ?_) (fun h65 => ?_) | refine tk_if_eq dX11_wrongAt_65 (fun h65 => ?_) (fun h65 => ?_)
              · refine tk_iconst dX11_wrongAt_72 kc_iconst_0 ?_
                refine k73 _ ?_
                unfold rTh
                first | rw [if_pos (by assumption)] | (rw [if_neg (Int32.not_lt.mpr (by assumption))]; first | (rw [if_pos (Or.inl (by assumption))]; rfl) | (rw [if_pos (Or.inr (by assumption))]; rfl) | (rw [if_neg (fun q => q.elim (Int32.not_lt.mpr (by assumption)) (Int32.not_le.mpr (by assumption))), h65]; rfl))
              · refine tk_iconst dX11_wrongAt_68 kc_iconst_1 ?_
                refine tk_goto dX11_wrongAt_69 ?_
                refine k73 _ ?_
                unfold rTh
                first | rw [if_pos (by assumption)] | (rw [if_neg (Int32.not_lt.mpr (by assumption))]; first | (rw [if_pos (Or.inl (by assumption))]; rfl) | (rw [if_pos (Or.inr (by assumption))]; rfl) | (rw [if_neg (fun q => q.elim (Int32.not_lt.mpr (by assumption)) (Int32.not_le.mpr (by assumption))), h65]; rfl))
        · refine tk_aload0 dX11_wrongAt_34 ?_
          refine tk_iload4 dX11_wrongAt_35 ?_
          refine tk_callV1z dX11_wrongAt_37 kX11_209 hR.o (r_isFact hR _) (Nat.le_of_ble_eq_true rfl) (by omega) ?_
          refine tk_goto dX11_wrongAt_40 ?_
          refine k73 _ ?_
          unfold rTh
          first | rw [if_pos (by assumption)] | (rw [if_neg (Int32.not_lt.mpr (by assumption))]; first | (rw [if_pos (Or.inl (by assumption))]; rfl) | (rw [if_pos (Or.inr (by assumption))]; rfl) | (rw [if_neg (fun q => q.elim (Int32.not_lt.mpr (by assumption)) (Int32.not_le.mpr (by assumption))), h65]; rfl))
  exact loop l 0 (nI 0) none none (by omega)
theorem r_isRight (hR : tkRef T P) {s l : Nat} (hs : s < 6) (hl : I 48 s = nI l) (hl2 : l ≤ 14) : tkM G mX11_isRight 2 0 0 [vR 40, vI (nI s)] (n, T, I, L, P) (tkF (some (vI (tkb (decide (rW (fun i => I 47 (14 * s + i)) (I 41 0) (I 41 1) l 0 (nI 0) < 0))))) (n, T, I, L, P)) := by
  refine tkM.of (ls := [some _, some _]) (by decide +kernel) (by decide +kernel) (Nat.le_of_ble_eq_true rfl) rfl ?_
  refine tk_aload0 dX11_isRight_0 ?_
  refine tk_iload1 dX11_isRight_1 ?_
  refine tk_callV1z dX11_isRight_2 kX11_212 hR.o (r_wrongAt hR hs hl hl2) (Nat.le_of_ble_eq_true rfl) (by omega) ?_
  refine tk_jf_ge dX11_isRight_5 (fun h5 => ?_) (fun h5 => ?_)
  · refine tk_iconst dX11_isRight_12 kc_iconst_0 ?_
    first | refine tk_zreturn dX11_isRight_13 rfl ?_ | refine tk_zret0 dX11_isRight_13 rfl ?_ | refine tk_zret1 dX11_isRight_13 rfl ?_
    exact tkz (by simp_all)
  · refine tk_iconst dX11_isRight_8 kc_iconst_1 ?_
    refine tk_goto dX11_isRight_9 ?_
    first | refine tk_zreturn dX11_isRight_13 rfl ?_ | refine tk_zret0 dX11_isRight_13 rfl ?_ | refine tk_zret1 dX11_isRight_13 rfl ?_
    exact tkz (by simp_all)
/-! keeping and bringing back -/
theorem r_keepsI (hR : tkRef T P) {r len q : Nat} (ht : T r = (20, len)) (hr : ¬ r = 60 ∧ ¬ r = 40) (hq : I 40 25 = nI q) (hql : q + len ≤ 36000) : tkM G mX11_keeps 0 0 0 [vR 40, vR r, vI (nI 1)] (n, T, I, L, P) (tkF none (n, T, va_up (va_up I 40 (va_up (I 40) 25 (nI (q + len)))) 60 (tkco (I 60) (I r) q len), L, P)) := by
  refine tkM.of (ls := [some _, some _, some _, none]) (by decide +kernel) (by decide +kernel) (Nat.le_of_ble_eq_true rfl) rfl ?_
  refine tk_iconst dX11_keeps_0 kc_iconst_0 ?_
  refine tk_istore3 dX11_keeps_1 rfl ?_
  refine tk_for 0 len (fun i => [some (vR 40), some (vR r), some (vI (nI 1)), some (vI (nI i))]) (fun i => (n, T, va_up (va_up I 40 (va_up (I 40) 25 (nI (q + i)))) 60 (tkco (I 60) (I r) q i), L, P)) (by omega) rfl (by rw [tkco_0, Nat.add_zero, ← hq, tk_up_id, tk_up_id, tk_up_id]) ?_ ?_
  · refine tk_iload3 dX11_keeps_2 ?_
    refine tk_aload1 dX11_keeps_3 ?_
    refine tk_alen dX11_keeps_4 (by first | assumption | exact va_up_self _ _ _ | exact (va_up_ne _ _ (by omega)).trans (by assumption) | exact congrArg Prod.fst (va_up_self _ _ _) | exact (congrArg Prod.fst (va_up_ne _ _ (by omega))).trans (by assumption) | exact (congrFun (va_up_ne _ _ (by omega)) _).trans (by assumption) | exact (va_up_ne _ _ (by omega)).trans (va_up_self _ _ _) | exact (va_up_ne _ _ (by omega)).trans ((va_up_ne _ _ (by omega)).trans (by assumption)) | exact (congrArg Prod.fst ((va_up_ne _ _ (by omega)).trans (va_up_ne _ _ (by omega)))).trans (by assumption) | exact (congrFun ((va_up_ne _ _ (by omega)).trans (va_up_ne _ _ (by omega))) _).trans (by assumption) | (rw [va_up_self, va_up_ne _ _ (by omega)]; assumption)) (by omega) ?_
    first | refine tk_icmp_geN dX11_keeps_5 (by omega) (by omega) (fun h5 => ?_) (fun h5 => ?_) | refine tk_jcmp_ge dX11_keeps_5 (fun h5 => ?_) (fun h5 => ?_)
    · refine tk_return dX11_keeps_55 rfl ?_
      exact ⟨rfl, rfl⟩
    · exfalso; omega
  · intro i _ hi k
    refine tk_iload3 dX11_keeps_2 ?_
    refine tk_aload1 dX11_keeps_3 ?_
    refine tk_alen dX11_keeps_4 (by first | assumption | exact va_up_self _ _ _ | exact (va_up_ne _ _ (by omega)).trans (by assumption) | exact congrArg Prod.fst (va_up_self _ _ _) | exact (congrArg Prod.fst (va_up_ne _ _ (by omega))).trans (by assumption) | exact (congrFun (va_up_ne _ _ (by omega)) _).trans (by assumption) | exact (va_up_ne _ _ (by omega)).trans (va_up_self _ _ _) | exact (va_up_ne _ _ (by omega)).trans ((va_up_ne _ _ (by omega)).trans (by assumption)) | exact (congrArg Prod.fst ((va_up_ne _ _ (by omega)).trans (va_up_ne _ _ (by omega)))).trans (by assumption) | exact (congrFun ((va_up_ne _ _ (by omega)).trans (va_up_ne _ _ (by omega))) _).trans (by assumption) | (rw [va_up_self, va_up_ne _ _ (by omega)]; assumption)) (by omega) ?_
    first | refine tk_icmp_geN dX11_keeps_5 (by omega) (by omega) (fun h5 => ?_) (fun h5 => ?_) | refine tk_jcmp_ge dX11_keeps_5 (fun h5 => ?_) (fun h5 => ?_)
    · exfalso; omega
    · refine tk_iload2 dX11_keeps_8 ?_
      first | refine tk_jf_eqB dX11_keeps_9 (fun h9 => ?_) (fun h9 => ?_) | refine tk_if_eq dX11_keeps_9 (fun h9 => ?_) (fun h9 => ?_)
      · exact absurd h9 (by decide)
      · refine tk_aload0 dX11_keeps_12 ?_
        refine tk_getP dX11_keeps_13 fX11_68 rfl hR.o (hR.p 19 rfl) ?_
        refine tk_aload0 dX11_keeps_16 ?_
        refine tk_getI dX11_keeps_17 fX11_163 rfl hR.o ?_
        simp only [va_up_self, bx_uu, tk_une, tk_usrt, not_false_eq_true, Nat.reduceEqDiff, Nat.reduceLT, Nat.reduceAdd, Nat.reduceMul, Nat.reduceLeDiff, reduceCtorEq]
        refine tk_aload1 dX11_keeps_20 ?_
        refine tk_iload3 dX11_keeps_21 ?_
        refine tk_iald dX11_keeps_22 (by first | assumption | exact va_up_self _ _ _ | exact (va_up_ne _ _ (by omega)).trans (by assumption) | exact congrArg Prod.fst (va_up_self _ _ _) | exact (congrArg Prod.fst (va_up_ne _ _ (by omega))).trans (by assumption) | exact (congrFun (va_up_ne _ _ (by omega)) _).trans (by assumption) | exact (va_up_ne _ _ (by omega)).trans (va_up_self _ _ _) | exact (va_up_ne _ _ (by omega)).trans ((va_up_ne _ _ (by omega)).trans (by assumption)) | exact (congrArg Prod.fst ((va_up_ne _ _ (by omega)).trans (va_up_ne _ _ (by omega)))).trans (by assumption) | exact (congrFun ((va_up_ne _ _ (by omega)).trans (va_up_ne _ _ (by omega))) _).trans (by assumption) | (rw [va_up_self, va_up_ne _ _ (by omega)]; assumption)) (by omega) (by omega) ?_
        refine tk_iast dX11_keeps_23 (hR.t 60 rfl) (by omega) (by omega) ?_
        refine tk_goto dX11_keeps_24 ?_
        refine tk_aload0 dX11_keeps_39 ?_
        refine tk_dup dX11_keeps_40 rfl ?_
        refine tk_getI dX11_keeps_41 fX11_163 rfl hR.o ?_
        simp only [va_up_self, bx_uu, tk_une, tk_usrt, not_false_eq_true, Nat.reduceEqDiff, Nat.reduceLT, Nat.reduceAdd, Nat.reduceMul, Nat.reduceLeDiff, reduceCtorEq]
        refine tk_iconst dX11_keeps_44 kc_iconst_1 ?_
        first | refine tk_iaddN dX11_keeps_45 ?_ | refine tk_iadd dX11_keeps_45 ?_
        refine tk_putI dX11_keeps_46 fX11_163 wX11_keeps_X11_25 rfl hR.o ?_
        first | refine tk_iinc3 dX11_keeps_49 (kc_inc _) rfl ?_ | refine tk_iinc3 dX11_keeps_49 rfl rfl ?_
        refine tk_goto dX11_keeps_52 ?_
        simp only [va_up_self, bx_uu, tk_une, tk_usrt, not_false_eq_true, Nat.reduceEqDiff, Nat.reduceLT, Nat.reduceAdd, Nat.reduceMul, Nat.reduceLeDiff, reduceCtorEq, hr.1, hr.2, tkco_s, Nat.add_assoc]
        exact k
theorem r_keepsO (hR : tkRef T P) {r len q : Nat} (ht : T r = (20, len)) (hr : ¬ r = 60 ∧ 40 < r ∧ r < 60) (hq : I 40 25 = nI q) (hql : q + len ≤ 36000) : tkM G mX11_keeps 0 0 0 [vR 40, vR r, vI (nI 0)] (n, T, I, L, P) (tkF none (n, T, va_up (va_up I 40 (va_up (I 40) 25 (nI (q + len)))) r (tkcp (I r) (fun j => I 60 (q + j)) len), L, P)) := by
  have h40 : ¬ r = 40 := by omega
  have h40' : ¬ 40 = r := by omega
  have h60' : ¬ 60 = r := by omega
  refine tkM.of (ls := [some _, some _, some _, none]) (by decide +kernel) (by decide +kernel) (Nat.le_of_ble_eq_true rfl) rfl ?_
  refine tk_iconst dX11_keeps_0 kc_iconst_0 ?_
  refine tk_istore3 dX11_keeps_1 rfl ?_
  refine tk_for 0 len (fun i => [some (vR 40), some (vR r), some (vI (nI 0)), some (vI (nI i))]) (fun i => (n, T, va_up (va_up I 40 (va_up (I 40) 25 (nI (q + i)))) r (tkcp (I r) (fun j => I 60 (q + j)) i), L, P)) (by omega) rfl (by rw [tkcp_0, Nat.add_zero, ← hq, tk_up_id, tk_up_id, tk_up_id]) ?_ ?_
  · refine tk_iload3 dX11_keeps_2 ?_
    refine tk_aload1 dX11_keeps_3 ?_
    refine tk_alen dX11_keeps_4 (by first | assumption | exact va_up_self _ _ _ | exact (va_up_ne _ _ (by omega)).trans (by assumption) | exact congrArg Prod.fst (va_up_self _ _ _) | exact (congrArg Prod.fst (va_up_ne _ _ (by omega))).trans (by assumption) | exact (congrFun (va_up_ne _ _ (by omega)) _).trans (by assumption) | exact (va_up_ne _ _ (by omega)).trans (va_up_self _ _ _) | exact (va_up_ne _ _ (by omega)).trans ((va_up_ne _ _ (by omega)).trans (by assumption)) | exact (congrArg Prod.fst ((va_up_ne _ _ (by omega)).trans (va_up_ne _ _ (by omega)))).trans (by assumption) | exact (congrFun ((va_up_ne _ _ (by omega)).trans (va_up_ne _ _ (by omega))) _).trans (by assumption) | (rw [va_up_self, va_up_ne _ _ (by omega)]; assumption)) (by omega) ?_
    first | refine tk_icmp_geN dX11_keeps_5 (by omega) (by omega) (fun h5 => ?_) (fun h5 => ?_) | refine tk_jcmp_ge dX11_keeps_5 (fun h5 => ?_) (fun h5 => ?_)
    · refine tk_return dX11_keeps_55 rfl ?_
      exact ⟨rfl, rfl⟩
    · exfalso; omega
  · intro i _ hi k
    refine tk_iload3 dX11_keeps_2 ?_
    refine tk_aload1 dX11_keeps_3 ?_
    refine tk_alen dX11_keeps_4 (by first | assumption | exact va_up_self _ _ _ | exact (va_up_ne _ _ (by omega)).trans (by assumption) | exact congrArg Prod.fst (va_up_self _ _ _) | exact (congrArg Prod.fst (va_up_ne _ _ (by omega))).trans (by assumption) | exact (congrFun (va_up_ne _ _ (by omega)) _).trans (by assumption) | exact (va_up_ne _ _ (by omega)).trans (va_up_self _ _ _) | exact (va_up_ne _ _ (by omega)).trans ((va_up_ne _ _ (by omega)).trans (by assumption)) | exact (congrArg Prod.fst ((va_up_ne _ _ (by omega)).trans (va_up_ne _ _ (by omega)))).trans (by assumption) | exact (congrFun ((va_up_ne _ _ (by omega)).trans (va_up_ne _ _ (by omega))) _).trans (by assumption) | (rw [va_up_self, va_up_ne _ _ (by omega)]; assumption)) (by omega) ?_
    first | refine tk_icmp_geN dX11_keeps_5 (by omega) (by omega) (fun h5 => ?_) (fun h5 => ?_) | refine tk_jcmp_ge dX11_keeps_5 (fun h5 => ?_) (fun h5 => ?_)
    · exfalso; omega
    · refine tk_iload2 dX11_keeps_8 ?_
      first | refine tk_jf_eqB dX11_keeps_9 (fun h9 => ?_) (fun h9 => ?_) | refine tk_if_eq dX11_keeps_9 (fun h9 => ?_) (fun h9 => ?_)
      · refine tk_aload1 dX11_keeps_27 ?_
        refine tk_iload3 dX11_keeps_28 ?_
        refine tk_aload0 dX11_keeps_29 ?_
        refine tk_getP dX11_keeps_30 fX11_68 rfl hR.o (hR.p 19 rfl) ?_
        refine tk_aload0 dX11_keeps_33 ?_
        refine tk_getI dX11_keeps_34 fX11_163 rfl hR.o ?_
        simp only [va_up_self, bx_uu, tk_une, tk_usrt, not_false_eq_true, Nat.reduceEqDiff, Nat.reduceLT, Nat.reduceAdd, Nat.reduceMul, Nat.reduceLeDiff, reduceCtorEq, h40, h40']
        refine tk_iald dX11_keeps_37 (hR.t 60 rfl) (by omega) (by omega) ?_
        refine tk_iast dX11_keeps_38 (by first | assumption | exact va_up_self _ _ _ | exact (va_up_ne _ _ (by omega)).trans (by assumption) | exact congrArg Prod.fst (va_up_self _ _ _) | exact (congrArg Prod.fst (va_up_ne _ _ (by omega))).trans (by assumption) | exact (congrFun (va_up_ne _ _ (by omega)) _).trans (by assumption) | exact (va_up_ne _ _ (by omega)).trans (va_up_self _ _ _) | exact (va_up_ne _ _ (by omega)).trans ((va_up_ne _ _ (by omega)).trans (by assumption)) | exact (congrArg Prod.fst ((va_up_ne _ _ (by omega)).trans (va_up_ne _ _ (by omega)))).trans (by assumption) | exact (congrFun ((va_up_ne _ _ (by omega)).trans (va_up_ne _ _ (by omega))) _).trans (by assumption) | (rw [va_up_self, va_up_ne _ _ (by omega)]; assumption)) (by omega) (by omega) ?_
        refine tk_aload0 dX11_keeps_39 ?_
        refine tk_dup dX11_keeps_40 rfl ?_
        refine tk_getI dX11_keeps_41 fX11_163 rfl hR.o ?_
        simp only [va_up_self, bx_uu, tk_une, tk_usrt, not_false_eq_true, Nat.reduceEqDiff, Nat.reduceLT, Nat.reduceAdd, Nat.reduceMul, Nat.reduceLeDiff, reduceCtorEq, h40, h40']
        refine tk_iconst dX11_keeps_44 kc_iconst_1 ?_
        first | refine tk_iaddN dX11_keeps_45 ?_ | refine tk_iadd dX11_keeps_45 ?_
        refine tk_putI dX11_keeps_46 fX11_163 wX11_keeps_X11_25 rfl hR.o ?_
        first | refine tk_iinc3 dX11_keeps_49 (kc_inc _) rfl ?_ | refine tk_iinc3 dX11_keeps_49 rfl rfl ?_
        refine tk_goto dX11_keeps_52 ?_
        simp only [va_up_self, bx_uu, tk_une, tk_usrt, not_false_eq_true, Nat.reduceEqDiff, Nat.reduceLT, Nat.reduceAdd, Nat.reduceMul, Nat.reduceLeDiff, reduceCtorEq, h40, h40', h60', hr.2.1, Nat.add_assoc]
        rw [tkcp_s (I r) (fun j => I 60 (q + j)) i, tk_usrt (show 40 < r from hr.2.1), bx_uu]
        exact k
      · exact absurd rfl h9
end REFB
