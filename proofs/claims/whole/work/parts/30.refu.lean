/-! ===== the reference: kinds in cells ===== -/
def orK (f : Nat → Int64) : Nat → Int64
  | 0 => 0
  | k + 1 => orK f k ||| f k
theorem tb_orK (f : Nat → Int64) (k i : Nat) : tb (orK f k) i = anyB (fun u => tb (f u) i) k := by
  induction k with
  | zero => rw [orK, tb_0]; rfl
  | succ k ih => rw [orK, tb_or, ih, anyB]
def kLo (k : Nat) : Int64 := if k < 64 then jshl 1 (nI k) else 0
def kHi (k : Nat) : Int64 := if k < 64 then 0 else jshl 1 (nI (k - 64))
def cOr (b : Nat → Int64) (c : Nat → Nat → Nat) (R : Nat → Bool) (kd : Nat → Nat) (p x m : Nat) : Int64 := orK (fun u => if R u && decide (c p u = x) then b (kd u) else 0) m
def tcF (b : Nat → Int64) (c : Nat → Nat → Nat) (R : Nat → Bool) (kd : Nat → Nat) (N p w j : Nat) : Int64 := if j / 128 < p then cOr b c R kd (j / 128) (j % 128) N else if j / 128 = p then cOr b c R kd p (j % 128) w else 0
theorem tc_step (g : Nat → Int64) (b : Nat → Int64) (c : Nat → Nat → Nat) (R : Nat → Bool) (kd : Nat → Nat) {N p w : Nat} (hp : p < 4) (hc : c p w < 128) (hR : R w = true) : va_up (tkcp g (tcF b c R kd N p w) 512) (128 * p + c p w) (tcF b c R kd N p w (128 * p + c p w) ||| b (kd w)) = tkcp g (tcF b c R kd N p (w + 1)) 512 := by
  funext j
  unfold va_up tkcp
  by_cases e : j = 128 * p + c p w
  · rw [if_pos e, if_pos (by omega)]
    subst e
    unfold tcF
    rw [show (128 * p + c p w) / 128 = p by omega, show (128 * p + c p w) % 128 = c p w by omega, if_neg (Nat.lt_irrefl p), if_pos rfl, if_neg (Nat.lt_irrefl p), if_pos rfl]
    unfold cOr
    rw [orK, hR, decide_eq_true rfl]; rfl
  · rw [if_neg e]
    by_cases h : j < 512
    · simp only [if_pos h]
      unfold tcF
      by_cases h1 : j / 128 < p
      · rw [if_pos h1, if_pos h1]
      · rw [if_neg h1, if_neg h1]
        by_cases h2 : j / 128 = p
        · rw [if_pos h2, if_pos h2]
          unfold cOr
          rw [orK, decide_eq_false (fun q => e (by omega)), Bool.and_false, if_neg (by decide), or0]
        · rw [if_neg h2, if_neg h2]
    · simp only [if_neg h]
theorem tc_skip (b : Nat → Int64) (c : Nat → Nat → Nat) (R : Nat → Bool) (kd : Nat → Nat) {N p w : Nat} (hR : R w = false) : tcF b c R kd N p w = tcF b c R kd N p (w + 1) := by
  funext j
  have e : ∀ x, cOr b c R kd p x (w + 1) = cOr b c R kd p x w := by
    intro x
    unfold cOr
    rw [orK, hR, Bool.false_and, if_neg (by decide), or0]
  unfold tcF
  rw [e]
theorem tc_next (b : Nat → Int64) (c : Nat → Nat → Nat) (R : Nat → Bool) (kd : Nat → Nat) (N p : Nat) : tcF b c R kd N p N = tcF b c R kd N (p + 1) 0 := by
  funext j
  unfold tcF
  by_cases h1 : j / 128 < p
  · rw [if_pos h1, if_pos (by omega)]
  · rw [if_neg h1]
    by_cases h2 : j / 128 = p
    · rw [if_pos h2, if_pos (by omega), h2]
    · rw [if_neg h2, if_neg (by omega)]
      split <;> rfl
theorem tc_0 (b : Nat → Int64) (c : Nat → Nat → Nat) (R : Nat → Bool) (kd : Nat → Nat) (N : Nat) : tcF b c R kd N 0 0 = fun _ => 0 := by
  funext j
  unfold tcF
  rw [if_neg (by omega)]
  split <;> rfl
section REFU
variable {G : tkG} {n : Nat} {T : Nat → Nat × Nat} {I : Nat → Nat → Int32} {L : Nat → Nat → Int64} {P : Nat → Nat → Option Nat}
theorem r_tellCells (hR : tkRef T P) {np N : Nat} {c : Nat → Nat → Nat} {R : Nat → Bool} {kd : Nat → Nat} (hnp : I 41 0 = nI np) (hnp4 : np ≤ 4) (hN : I 40 35 = nI N) (hN2 : N ≤ 128) (hc : ∀ p, p < np → ∀ w, w < N → I 71 (128 * p + w) = nI (c p w) ∧ c p w < N) (ht : ∀ w, w < N → I 75 w = tkb (R w)) (hk : ∀ w, w < N → R w = true → I 72 w = nI (kd w) ∧ kd w < N) : tkM G mX11_tellCells 0 0 0 [vR 40] (n, T, I, L, P) (tkF none (n, T, I, va_up (va_up L 77 (tkcp (L 77) (tcF kLo c R kd N np 0) 512)) 78 (tkcp (L 78) (tcF kHi c R kd N np 0) 512), P)) := by
  refine tkM.of (ls := [some _, none, none, none]) (by decide +kernel) (by decide +kernel) (Nat.le_of_ble_eq_true rfl) rfl ?_
  refine tk_iconst dX11_tellCells_0 kc_iconst_0 ?_
  refine tk_istore1 dX11_tellCells_1 rfl ?_
  refine tk_fr 0 512 (fun i => [some (vR 40), some (vI (nI i)), none, none]) (fun i => (n, T, I, va_up (va_up L 77 (tkcp (L 77) (fun _ => 0) i)) 78 (tkcp (L 78) (fun _ => 0) i), P)) (by omega) (by repeat' (first | exact trivial | refine ⟨Or.inl rfl, ?_⟩ | refine ⟨Or.inr rfl, ?_⟩)) (by rw [tkcp_0, tkcp_0, tk_up_id, tk_uid]; rfl) ?_ ?_
  · refine tk_iload1 dX11_tellCells_2 ?_
    refine tk_sipush dX11_tellCells_3 kc_sipush_512 ?_
    first | refine tk_icmp_geN dX11_tellCells_6 (by omega) (by omega) (fun h6 => ?_) (fun h6 => ?_) | refine tk_jcmp_ge dX11_tellCells_6 (fun h6 => ?_) (fun h6 => ?_)
    · refine tk_iconst dX11_tellCells_29 kc_iconst_0 ?_
      refine tk_istore1 dX11_tellCells_30 rfl ?_
      rw [← tc_0 kLo c R kd N]
      rw [show tkcp (L 78) (tcF kLo c R kd N 0 0) 512 = tkcp (L 78) (tcF kHi c R kd N 0 0) 512 by rw [tc_0, tc_0]]
      refine tk_fr 0 np (fun p => [some (vR 40), some (vI (nI p)), none, none]) (fun p => (n, T, I, va_up (va_up L 77 (tkcp (L 77) (tcF kLo c R kd N p 0) 512)) 78 (tkcp (L 78) (tcF kHi c R kd N p 0) 512), P)) (by omega) (by repeat' (first | exact trivial | refine ⟨Or.inl rfl, ?_⟩ | refine ⟨Or.inr rfl, ?_⟩)) rfl ?_ ?_
      · refine tk_iload1 dX11_tellCells_31 ?_
        refine tk_aload0 dX11_tellCells_32 ?_
        refine tk_getP dX11_tellCells_33 fX11_7 rfl hR.o (hR.p 0 rfl) ?_
        refine tk_iconst dX11_tellCells_36 kc_iconst_0 ?_
        refine tk_iald dX11_tellCells_37 (hR.t 41 rfl) (by omega) (by omega) ?_
        rw [hnp]
        first | refine tk_icmp_geN dX11_tellCells_38 (by omega) (by omega) (fun h38 => ?_) (fun h38 => ?_) | refine tk_jcmp_ge dX11_tellCells_38 (fun h38 => ?_) (fun h38 => ?_)
        · refine tk_return dX11_tellCells_158 rfl ?_
          exact ⟨rfl, rfl⟩
        · exfalso; omega
      · intro p _ hp k
        refine tk_iload1 dX11_tellCells_31 ?_
        refine tk_aload0 dX11_tellCells_32 ?_
        refine tk_getP dX11_tellCells_33 fX11_7 rfl hR.o (hR.p 0 rfl) ?_
        refine tk_iconst dX11_tellCells_36 kc_iconst_0 ?_
        refine tk_iald dX11_tellCells_37 (hR.t 41 rfl) (by omega) (by omega) ?_
        rw [hnp]
        first | refine tk_icmp_geN dX11_tellCells_38 (by omega) (by omega) (fun h38 => ?_) (fun h38 => ?_) | refine tk_jcmp_ge dX11_tellCells_38 (fun h38 => ?_) (fun h38 => ?_)
        · exfalso; omega
        · refine tk_iconst dX11_tellCells_41 kc_iconst_0 ?_
          refine tk_istore2 dX11_tellCells_42 rfl ?_
          refine tk_fr 0 N (fun w => [some (vR 40), some (vI (nI p)), some (vI (nI w)), none]) (fun w => (n, T, I, va_up (va_up L 77 (tkcp (L 77) (tcF kLo c R kd N p w) 512)) 78 (tkcp (L 78) (tcF kHi c R kd N p w) 512), P)) (by omega) (by repeat' (first | exact trivial | refine ⟨Or.inl rfl, ?_⟩ | refine ⟨Or.inr rfl, ?_⟩)) rfl ?_ ?_
          · refine tk_iload2 dX11_tellCells_43 ?_
            refine tk_aload0 dX11_tellCells_44 ?_
            refine tk_getI dX11_tellCells_45 fX11_256 rfl hR.o ?_
            rw [hN]
            first | refine tk_icmp_geN dX11_tellCells_48 (by omega) (by omega) (fun h48 => ?_) (fun h48 => ?_) | refine tk_jcmp_ge dX11_tellCells_48 (fun h48 => ?_) (fun h48 => ?_)
            · first | refine tk_iinc1 dX11_tellCells_152 (kc_inc _) rfl ?_ | refine tk_iinc1 dX11_tellCells_152 rfl rfl ?_
              refine tk_goto dX11_tellCells_155 ?_
              rw [tc_next, tc_next]
              exact k _ (by repeat' (first | exact trivial | refine ⟨Or.inl rfl, ?_⟩ | refine ⟨Or.inr rfl, ?_⟩))
            · exfalso; omega
          · intro w _ hw k2
            have hcp := hc p (by omega) w hw
            have hcl := hcp.2
            cases hRw : R w with
            | false =>
              refine tk_iload2 dX11_tellCells_43 ?_
              refine tk_aload0 dX11_tellCells_44 ?_
              refine tk_getI dX11_tellCells_45 fX11_256 rfl hR.o ?_
              rw [hN]
              first | refine tk_icmp_geN dX11_tellCells_48 (by omega) (by omega) (fun h48 => ?_) (fun h48 => ?_) | refine tk_jcmp_ge dX11_tellCells_48 (fun h48 => ?_) (fun h48 => ?_)
              · exfalso; omega
              · refine tk_aload0 dX11_tellCells_51 ?_
                refine tk_getP dX11_tellCells_52 fX11_114 rfl hR.o (hR.p 42 rfl) ?_
                refine tk_iload2 dX11_tellCells_55 ?_
                refine tk_bald dX11_tellCells_56 (hR.t 75 rfl) (by omega) (by omega) ?_
                rw [ht w hw, hRw]
                first | refine tk_jf_eqB dX11_tellCells_57 (fun h57 => ?_) (fun h57 => ?_) | refine tk_if_eq dX11_tellCells_57 (fun h57 => ?_) (fun h57 => ?_)
                · first | refine tk_iinc2 dX11_tellCells_146 (kc_inc _) rfl ?_ | refine tk_iinc2 dX11_tellCells_146 rfl rfl ?_
                  refine tk_goto dX11_tellCells_149 ?_
                  rw [tc_skip kLo c R kd hRw, tc_skip kHi c R kd hRw]
                  exact k2 _ (by repeat' (first | exact trivial | refine ⟨Or.inl rfl, ?_⟩ | refine ⟨Or.inr rfl, ?_⟩))
                · cases h57
            | true =>
              have hkw := hk w hw hRw
              have hkl := hkw.2
              refine tk_iload2 dX11_tellCells_43 ?_
              refine tk_aload0 dX11_tellCells_44 ?_
              refine tk_getI dX11_tellCells_45 fX11_256 rfl hR.o ?_
              rw [hN]
              first | refine tk_icmp_geN dX11_tellCells_48 (by omega) (by omega) (fun h48 => ?_) (fun h48 => ?_) | refine tk_jcmp_ge dX11_tellCells_48 (fun h48 => ?_) (fun h48 => ?_)
              · exfalso; omega
              · refine tk_aload0 dX11_tellCells_51 ?_
                refine tk_getP dX11_tellCells_52 fX11_114 rfl hR.o (hR.p 42 rfl) ?_
                refine tk_iload2 dX11_tellCells_55 ?_
                refine tk_bald dX11_tellCells_56 (hR.t 75 rfl) (by omega) (by omega) ?_
                rw [ht w hw, hRw]
                first | refine tk_jf_eqB dX11_tellCells_57 (fun h57 => ?_) (fun h57 => ?_) | refine tk_if_eq dX11_tellCells_57 (fun h57 => ?_) (fun h57 => ?_)
                · first | refine tk_iinc2 dX11_tellCells_146 (kc_inc _) rfl ?_ | refine tk_iinc2 dX11_tellCells_146 rfl rfl ?_
                  refine tk_goto dX11_tellCells_149 ?_
                  try simp only [va_up_self, bx_uu, tk_une, tk_usrt, not_false_eq_true, Nat.reduceEqDiff, Nat.reduceLT, Nat.reduceAdd, Nat.reduceMul, Nat.reduceLeDiff, reduceCtorEq]
                  first | exact absurd h57 (by decide) | (rw [show jshl 1 (nI (kd w)) = kLo (kd w) from (if_pos (by omega)).symm, show tcF kHi c R kd N p w (128 * p + c p w) ||| 0 = tcF kHi c R kd N p w (128 * p + c p w) ||| kHi (kd w) from congrArg _ (if_pos (by omega)).symm]; rw [tc_step _ kLo c R kd (by omega) (by omega) hRw, tc_step _ kHi c R kd (by omega) (by omega) hRw]; exact k2 _ (by repeat' (first | exact trivial | refine ⟨Or.inl rfl, ?_⟩ | refine ⟨Or.inr rfl, ?_⟩))) | (rw [show jshl 1 (nI (kd w - 64)) = kHi (kd w) from (if_neg (by omega)).symm, show tcF kLo c R kd N p w (128 * p + c p w) ||| 0 = tcF kLo c R kd N p w (128 * p + c p w) ||| kLo (kd w) from congrArg _ (if_neg (by omega)).symm]; rw [tc_step _ kLo c R kd (by omega) (by omega) hRw, tc_step _ kHi c R kd (by omega) (by omega) hRw]; exact k2 _ (by repeat' (first | exact trivial | refine ⟨Or.inl rfl, ?_⟩ | refine ⟨Or.inr rfl, ?_⟩))) | (exfalso; omega)
                · refine tk_sipush dX11_tellCells_60 kc_sipush_128 ?_
                  refine tk_iload1 dX11_tellCells_63 ?_
                  first | refine tk_imulN dX11_tellCells_64 ?_ | refine tk_imul dX11_tellCells_64 ?_
                  refine tk_aload0 dX11_tellCells_65 ?_
                  refine tk_getP dX11_tellCells_66 fX11_102 rfl hR.o (hR.p 38 rfl) ?_
                  refine tk_sipush dX11_tellCells_69 kc_sipush_128 ?_
                  refine tk_iload1 dX11_tellCells_72 ?_
                  first | refine tk_imulN dX11_tellCells_73 ?_ | refine tk_imul dX11_tellCells_73 ?_
                  refine tk_iload2 dX11_tellCells_74 ?_
                  first | refine tk_iaddN dX11_tellCells_75 ?_ | refine tk_iadd dX11_tellCells_75 ?_
                  refine tk_iald dX11_tellCells_76 (hR.t 71 rfl) (by omega) (by omega) ?_
                  rw [hcp.1]
                  first | refine tk_iaddN dX11_tellCells_77 ?_ | refine tk_iadd dX11_tellCells_77 ?_
                  refine tk_istore3 dX11_tellCells_78 rfl ?_
                  refine tk_aload0 dX11_tellCells_79 ?_
                  refine tk_getP dX11_tellCells_80 fX11_121 rfl hR.o (hR.p 44 rfl) ?_
                  refine tk_iload3 dX11_tellCells_83 ?_
                  first | refine tk_dup2 dX11_tellCells_84 rfl rfl ?_ | refine tk_dup2L dX11_tellCells_84 ?_
                  refine tk_lald dX11_tellCells_85 (hR.t 77 rfl) (by omega) (by omega) ?_
                  simp only [va_up_self, bx_uu, tk_une, tk_usrt, not_false_eq_true, Nat.reduceEqDiff, Nat.reduceLT, Nat.reduceAdd, Nat.reduceMul, Nat.reduceLeDiff, reduceCtorEq]
                  rw [tkcp_lt (by omega)]
                  refine tk_aload0 dX11_tellCells_86 ?_
                  refine tk_getP dX11_tellCells_87 fX11_105 rfl hR.o (hR.p 39 rfl) ?_
                  refine tk_iload2 dX11_tellCells_90 ?_
                  refine tk_iald dX11_tellCells_91 (hR.t 72 rfl) (by omega) (by omega) ?_
                  rw [hkw.1]
                  refine tk_bipush dX11_tellCells_92 kc_bipush_64 ?_
                  first | refine tk_icmp_geN dX11_tellCells_94 (by omega) (by omega) (fun h94 => ?_) (fun h94 => ?_) | refine tk_jcmp_ge dX11_tellCells_94 (fun h94 => ?_) (fun h94 => ?_)
                  · refine tk_lconst dX11_tellCells_108 (v := 0) (by decide) ?_
                    refine tk_lor dX11_tellCells_109 ?_
                    refine tk_last dX11_tellCells_110 (hR.t 77 rfl) (by omega) (by omega) ?_
                    refine tk_aload0 dX11_tellCells_111 ?_
                    refine tk_getP dX11_tellCells_112 fX11_124 rfl hR.o (hR.p 45 rfl) ?_
                    refine tk_iload3 dX11_tellCells_115 ?_
                    first | refine tk_dup2 dX11_tellCells_116 rfl rfl ?_ | refine tk_dup2L dX11_tellCells_116 ?_
                    refine tk_lald dX11_tellCells_117 (hR.t 78 rfl) (by omega) (by omega) ?_
                    simp only [va_up_self, bx_uu, tk_une, tk_usrt, not_false_eq_true, Nat.reduceEqDiff, Nat.reduceLT, Nat.reduceAdd, Nat.reduceMul, Nat.reduceLeDiff, reduceCtorEq]
                    rw [tkcp_lt (by omega)]
                    refine tk_aload0 dX11_tellCells_118 ?_
                    refine tk_getP dX11_tellCells_119 fX11_105 rfl hR.o (hR.p 39 rfl) ?_
                    refine tk_iload2 dX11_tellCells_122 ?_
                    refine tk_iald dX11_tellCells_123 (hR.t 72 rfl) (by omega) (by omega) ?_
                    rw [hkw.1]
                    refine tk_bipush dX11_tellCells_124 kc_bipush_64 ?_
                    first | refine tk_icmp_geN dX11_tellCells_126 (by omega) (by omega) (fun h126 => ?_) (fun h126 => ?_) | refine tk_jcmp_ge dX11_tellCells_126 (fun h126 => ?_) (fun h126 => ?_)
                    · refine tk_lconst dX11_tellCells_133 (v := 1) (by decide) ?_
                      refine tk_aload0 dX11_tellCells_134 ?_
                      refine tk_getP dX11_tellCells_135 fX11_105 rfl hR.o (hR.p 39 rfl) ?_
                      refine tk_iload2 dX11_tellCells_138 ?_
                      refine tk_iald dX11_tellCells_139 (hR.t 72 rfl) (by omega) (by omega) ?_
                      rw [hkw.1]
                      refine tk_bipush dX11_tellCells_140 kc_bipush_64 ?_
                      first | refine tk_isubN dX11_tellCells_142 (by omega) ?_ | refine tk_isub dX11_tellCells_142 ?_
                      refine tk_lshl dX11_tellCells_143 ?_
                      refine tk_lor dX11_tellCells_144 ?_
                      refine tk_last dX11_tellCells_145 (hR.t 78 rfl) (by omega) (by omega) ?_
                      first | refine tk_iinc2 dX11_tellCells_146 (kc_inc _) rfl ?_ | refine tk_iinc2 dX11_tellCells_146 rfl rfl ?_
                      refine tk_goto dX11_tellCells_149 ?_
                      try simp only [va_up_self, bx_uu, tk_une, tk_usrt, not_false_eq_true, Nat.reduceEqDiff, Nat.reduceLT, Nat.reduceAdd, Nat.reduceMul, Nat.reduceLeDiff, reduceCtorEq]
                      first | exact absurd h57 (by decide) | (rw [show jshl 1 (nI (kd w)) = kLo (kd w) from (if_pos (by omega)).symm, show tcF kHi c R kd N p w (128 * p + c p w) ||| 0 = tcF kHi c R kd N p w (128 * p + c p w) ||| kHi (kd w) from congrArg _ (if_pos (by omega)).symm]; rw [tc_step _ kLo c R kd (by omega) (by omega) hRw, tc_step _ kHi c R kd (by omega) (by omega) hRw]; exact k2 _ (by repeat' (first | exact trivial | refine ⟨Or.inl rfl, ?_⟩ | refine ⟨Or.inr rfl, ?_⟩))) | (rw [show jshl 1 (nI (kd w - 64)) = kHi (kd w) from (if_neg (by omega)).symm, show tcF kLo c R kd N p w (128 * p + c p w) ||| 0 = tcF kLo c R kd N p w (128 * p + c p w) ||| kLo (kd w) from congrArg _ (if_neg (by omega)).symm]; rw [tc_step _ kLo c R kd (by omega) (by omega) hRw, tc_step _ kHi c R kd (by omega) (by omega) hRw]; exact k2 _ (by repeat' (first | exact trivial | refine ⟨Or.inl rfl, ?_⟩ | refine ⟨Or.inr rfl, ?_⟩))) | (exfalso; omega)
                    · refine tk_lconst dX11_tellCells_129 (v := 0) (by decide) ?_
                      refine tk_goto dX11_tellCells_130 ?_
                      refine tk_lor dX11_tellCells_144 ?_
                      refine tk_last dX11_tellCells_145 (hR.t 78 rfl) (by omega) (by omega) ?_
                      first | refine tk_iinc2 dX11_tellCells_146 (kc_inc _) rfl ?_ | refine tk_iinc2 dX11_tellCells_146 rfl rfl ?_
                      refine tk_goto dX11_tellCells_149 ?_
                      try simp only [va_up_self, bx_uu, tk_une, tk_usrt, not_false_eq_true, Nat.reduceEqDiff, Nat.reduceLT, Nat.reduceAdd, Nat.reduceMul, Nat.reduceLeDiff, reduceCtorEq]
                      first | exact absurd h57 (by decide) | (rw [show jshl 1 (nI (kd w)) = kLo (kd w) from (if_pos (by omega)).symm, show tcF kHi c R kd N p w (128 * p + c p w) ||| 0 = tcF kHi c R kd N p w (128 * p + c p w) ||| kHi (kd w) from congrArg _ (if_pos (by omega)).symm]; rw [tc_step _ kLo c R kd (by omega) (by omega) hRw, tc_step _ kHi c R kd (by omega) (by omega) hRw]; exact k2 _ (by repeat' (first | exact trivial | refine ⟨Or.inl rfl, ?_⟩ | refine ⟨Or.inr rfl, ?_⟩))) | (rw [show jshl 1 (nI (kd w - 64)) = kHi (kd w) from (if_neg (by omega)).symm, show tcF kLo c R kd N p w (128 * p + c p w) ||| 0 = tcF kLo c R kd N p w (128 * p + c p w) ||| kLo (kd w) from congrArg _ (if_neg (by omega)).symm]; rw [tc_step _ kLo c R kd (by omega) (by omega) hRw, tc_step _ kHi c R kd (by omega) (by omega) hRw]; exact k2 _ (by repeat' (first | exact trivial | refine ⟨Or.inl rfl, ?_⟩ | refine ⟨Or.inr rfl, ?_⟩))) | (exfalso; omega)
                  · refine tk_lconst dX11_tellCells_97 (v := 1) (by decide) ?_
                    refine tk_aload0 dX11_tellCells_98 ?_
                    refine tk_getP dX11_tellCells_99 fX11_105 rfl hR.o (hR.p 39 rfl) ?_
                    refine tk_iload2 dX11_tellCells_102 ?_
                    refine tk_iald dX11_tellCells_103 (hR.t 72 rfl) (by omega) (by omega) ?_
                    rw [hkw.1]
                    refine tk_lshl dX11_tellCells_104 ?_
                    refine tk_goto dX11_tellCells_105 ?_
                    refine tk_lor dX11_tellCells_109 ?_
                    refine tk_last dX11_tellCells_110 (hR.t 77 rfl) (by omega) (by omega) ?_
                    refine tk_aload0 dX11_tellCells_111 ?_
                    refine tk_getP dX11_tellCells_112 fX11_124 rfl hR.o (hR.p 45 rfl) ?_
                    refine tk_iload3 dX11_tellCells_115 ?_
                    first | refine tk_dup2 dX11_tellCells_116 rfl rfl ?_ | refine tk_dup2L dX11_tellCells_116 ?_
                    refine tk_lald dX11_tellCells_117 (hR.t 78 rfl) (by omega) (by omega) ?_
                    simp only [va_up_self, bx_uu, tk_une, tk_usrt, not_false_eq_true, Nat.reduceEqDiff, Nat.reduceLT, Nat.reduceAdd, Nat.reduceMul, Nat.reduceLeDiff, reduceCtorEq]
                    rw [tkcp_lt (by omega)]
                    refine tk_aload0 dX11_tellCells_118 ?_
                    refine tk_getP dX11_tellCells_119 fX11_105 rfl hR.o (hR.p 39 rfl) ?_
                    refine tk_iload2 dX11_tellCells_122 ?_
                    refine tk_iald dX11_tellCells_123 (hR.t 72 rfl) (by omega) (by omega) ?_
                    rw [hkw.1]
                    refine tk_bipush dX11_tellCells_124 kc_bipush_64 ?_
                    first | refine tk_icmp_geN dX11_tellCells_126 (by omega) (by omega) (fun h126 => ?_) (fun h126 => ?_) | refine tk_jcmp_ge dX11_tellCells_126 (fun h126 => ?_) (fun h126 => ?_)
                    · refine tk_lconst dX11_tellCells_133 (v := 1) (by decide) ?_
                      refine tk_aload0 dX11_tellCells_134 ?_
                      refine tk_getP dX11_tellCells_135 fX11_105 rfl hR.o (hR.p 39 rfl) ?_
                      refine tk_iload2 dX11_tellCells_138 ?_
                      refine tk_iald dX11_tellCells_139 (hR.t 72 rfl) (by omega) (by omega) ?_
                      rw [hkw.1]
                      refine tk_bipush dX11_tellCells_140 kc_bipush_64 ?_
                      first | refine tk_isubN dX11_tellCells_142 (by omega) ?_ | refine tk_isub dX11_tellCells_142 ?_
                      refine tk_lshl dX11_tellCells_143 ?_
                      refine tk_lor dX11_tellCells_144 ?_
                      refine tk_last dX11_tellCells_145 (hR.t 78 rfl) (by omega) (by omega) ?_
                      first | refine tk_iinc2 dX11_tellCells_146 (kc_inc _) rfl ?_ | refine tk_iinc2 dX11_tellCells_146 rfl rfl ?_
                      refine tk_goto dX11_tellCells_149 ?_
                      try simp only [va_up_self, bx_uu, tk_une, tk_usrt, not_false_eq_true, Nat.reduceEqDiff, Nat.reduceLT, Nat.reduceAdd, Nat.reduceMul, Nat.reduceLeDiff, reduceCtorEq]
                      first | exact absurd h57 (by decide) | (rw [show jshl 1 (nI (kd w)) = kLo (kd w) from (if_pos (by omega)).symm, show tcF kHi c R kd N p w (128 * p + c p w) ||| 0 = tcF kHi c R kd N p w (128 * p + c p w) ||| kHi (kd w) from congrArg _ (if_pos (by omega)).symm]; rw [tc_step _ kLo c R kd (by omega) (by omega) hRw, tc_step _ kHi c R kd (by omega) (by omega) hRw]; exact k2 _ (by repeat' (first | exact trivial | refine ⟨Or.inl rfl, ?_⟩ | refine ⟨Or.inr rfl, ?_⟩))) | (rw [show jshl 1 (nI (kd w - 64)) = kHi (kd w) from (if_neg (by omega)).symm, show tcF kLo c R kd N p w (128 * p + c p w) ||| 0 = tcF kLo c R kd N p w (128 * p + c p w) ||| kLo (kd w) from congrArg _ (if_neg (by omega)).symm]; rw [tc_step _ kLo c R kd (by omega) (by omega) hRw, tc_step _ kHi c R kd (by omega) (by omega) hRw]; exact k2 _ (by repeat' (first | exact trivial | refine ⟨Or.inl rfl, ?_⟩ | refine ⟨Or.inr rfl, ?_⟩))) | (exfalso; omega)
                    · refine tk_lconst dX11_tellCells_129 (v := 0) (by decide) ?_
                      refine tk_goto dX11_tellCells_130 ?_
                      refine tk_lor dX11_tellCells_144 ?_
                      refine tk_last dX11_tellCells_145 (hR.t 78 rfl) (by omega) (by omega) ?_
                      first | refine tk_iinc2 dX11_tellCells_146 (kc_inc _) rfl ?_ | refine tk_iinc2 dX11_tellCells_146 rfl rfl ?_
                      refine tk_goto dX11_tellCells_149 ?_
                      try simp only [va_up_self, bx_uu, tk_une, tk_usrt, not_false_eq_true, Nat.reduceEqDiff, Nat.reduceLT, Nat.reduceAdd, Nat.reduceMul, Nat.reduceLeDiff, reduceCtorEq]
                      first | exact absurd h57 (by decide) | (rw [show jshl 1 (nI (kd w)) = kLo (kd w) from (if_pos (by omega)).symm, show tcF kHi c R kd N p w (128 * p + c p w) ||| 0 = tcF kHi c R kd N p w (128 * p + c p w) ||| kHi (kd w) from congrArg _ (if_pos (by omega)).symm]; rw [tc_step _ kLo c R kd (by omega) (by omega) hRw, tc_step _ kHi c R kd (by omega) (by omega) hRw]; exact k2 _ (by repeat' (first | exact trivial | refine ⟨Or.inl rfl, ?_⟩ | refine ⟨Or.inr rfl, ?_⟩))) | (rw [show jshl 1 (nI (kd w - 64)) = kHi (kd w) from (if_neg (by omega)).symm, show tcF kLo c R kd N p w (128 * p + c p w) ||| 0 = tcF kLo c R kd N p w (128 * p + c p w) ||| kLo (kd w) from congrArg _ (if_neg (by omega)).symm]; rw [tc_step _ kLo c R kd (by omega) (by omega) hRw, tc_step _ kHi c R kd (by omega) (by omega) hRw]; exact k2 _ (by repeat' (first | exact trivial | refine ⟨Or.inl rfl, ?_⟩ | refine ⟨Or.inr rfl, ?_⟩))) | (exfalso; omega)
    · exfalso; omega
  · intro i _ hi k
    refine tk_iload1 dX11_tellCells_2 ?_
    refine tk_sipush dX11_tellCells_3 kc_sipush_512 ?_
    first | refine tk_icmp_geN dX11_tellCells_6 (by omega) (by omega) (fun h6 => ?_) (fun h6 => ?_) | refine tk_jcmp_ge dX11_tellCells_6 (fun h6 => ?_) (fun h6 => ?_)
    · exfalso; omega
    · refine tk_aload0 dX11_tellCells_9 ?_
      refine tk_getP dX11_tellCells_10 fX11_121 rfl hR.o (hR.p 44 rfl) ?_
      refine tk_iload1 dX11_tellCells_13 ?_
      refine tk_lconst dX11_tellCells_14 (v := 0) (by decide) ?_
      refine tk_last dX11_tellCells_15 (hR.t 77 rfl) (by omega) (by omega) ?_
      refine tk_aload0 dX11_tellCells_16 ?_
      refine tk_getP dX11_tellCells_17 fX11_124 rfl hR.o (hR.p 45 rfl) ?_
      refine tk_iload1 dX11_tellCells_20 ?_
      refine tk_lconst dX11_tellCells_21 (v := 0) (by decide) ?_
      refine tk_last dX11_tellCells_22 (hR.t 78 rfl) (by omega) (by omega) ?_
      first | refine tk_iinc1 dX11_tellCells_23 (kc_inc _) rfl ?_ | refine tk_iinc1 dX11_tellCells_23 rfl rfl ?_
      refine tk_goto dX11_tellCells_26 ?_
      simp only [va_up_self, bx_uu, tk_une, tk_usrt, not_false_eq_true, Nat.reduceEqDiff, Nat.reduceLT, Nat.reduceAdd, Nat.reduceMul, Nat.reduceLeDiff, reduceCtorEq]
      rw [tkcp_s (L 77) (fun _ => 0), tkcp_s (L 78) (fun _ => 0)]
      exact k _ (by repeat' (first | exact trivial | refine ⟨Or.inl rfl, ?_⟩ | refine ⟨Or.inr rfl, ?_⟩))
/-- alike as far as cells show -/
def rLk (lo hi : Nat → Int64) (c : Nat → Nat → Nat) (u w : Nat) : Nat → Bool
  | 0 => true
  | p + 1 => rLk lo hi c u w p && (decide (lo (128 * p + c p u) = lo (128 * p + c p w)) && decide (hi (128 * p + c p u) = hi (128 * p + c p w)))
theorem r_isLike (hR : tkRef T P) {np N u w : Nat} {c : Nat → Nat → Nat} (hnp : I 41 0 = nI np) (hnp4 : np ≤ 4) (hN2 : N ≤ 128) (hc : ∀ p, p < np → ∀ w, w < N → I 71 (128 * p + w) = nI (c p w) ∧ c p w < N) (hu : u < N) (hw : w < N) : tkM G mX11_isLike 0 0 0 [vR 40, vI (nI u), vI (nI w)] (n, T, I, L, P) (tkF (some (vI (tkb (rLk (L 77) (L 78) c u w np)))) (n, T, I, L, P)) := by
  refine tkM.of (ls := [some _, some _, some _, none, none, none, none]) (by decide +kernel) (by decide +kernel) (Nat.le_of_ble_eq_true rfl) rfl ?_
  refine tk_iconst dX11_isLike_0 kc_iconst_1 ?_
  refine tk_istore3 dX11_isLike_1 rfl ?_
  refine tk_iconst dX11_isLike_2 kc_iconst_0 ?_
  refine tk_istore4 dX11_isLike_3 rfl ?_
  refine tk_fr 0 np (fun p => [some (vR 40), some (vI (nI u)), some (vI (nI w)), some (vI (tkb (rLk (L 77) (L 78) c u w p))), some (vI (nI p)), none, none]) (fun p => (n, T, I, L, P)) (by omega) (by repeat' (first | exact trivial | refine ⟨Or.inl rfl, ?_⟩ | refine ⟨Or.inr rfl, ?_⟩)) rfl ?_ ?_
  · refine tk_iload4 dX11_isLike_5 ?_
    refine tk_aload0 dX11_isLike_7 ?_
    refine tk_getP dX11_isLike_8 fX11_7 rfl hR.o (hR.p 0 rfl) ?_
    refine tk_iconst dX11_isLike_11 kc_iconst_0 ?_
    refine tk_iald dX11_isLike_12 (hR.t 41 rfl) (by omega) (by omega) ?_
    rw [hnp]
    first | refine tk_icmp_geN dX11_isLike_13 (by omega) (by omega) (fun h13 => ?_) (fun h13 => ?_) | refine tk_jcmp_ge dX11_isLike_13 (fun h13 => ?_) (fun h13 => ?_)
    · refine tk_iload3 dX11_isLike_110 ?_
      first | refine tk_zreturn dX11_isLike_111 rfl ?_ | refine tk_zret0 dX11_isLike_111 rfl ?_ | refine tk_zret1 dX11_isLike_111 rfl ?_
      exact ⟨rfl, rfl⟩
    · exfalso; omega
  · intro p _ hp k
    have h1 := hc p hp u hu
    have h2 := hc p hp w hw
    have h3 := h1.2
    have h4 := h2.2
    refine tk_iload4 dX11_isLike_5 ?_
    refine tk_aload0 dX11_isLike_7 ?_
    refine tk_getP dX11_isLike_8 fX11_7 rfl hR.o (hR.p 0 rfl) ?_
    refine tk_iconst dX11_isLike_11 kc_iconst_0 ?_
    refine tk_iald dX11_isLike_12 (hR.t 41 rfl) (by omega) (by omega) ?_
    rw [hnp]
    first | refine tk_icmp_geN dX11_isLike_13 (by omega) (by omega) (fun h13 => ?_) (fun h13 => ?_) | refine tk_jcmp_ge dX11_isLike_13 (fun h13 => ?_) (fun h13 => ?_)
    · exfalso; omega
    · refine tk_sipush dX11_isLike_16 kc_sipush_128 ?_
      refine tk_iload4 dX11_isLike_19 ?_
      first | refine tk_imulN dX11_isLike_21 ?_ | refine tk_imul dX11_isLike_21 ?_
      refine tk_aload0 dX11_isLike_22 ?_
      refine tk_getP dX11_isLike_23 fX11_102 rfl hR.o (hR.p 38 rfl) ?_
      refine tk_sipush dX11_isLike_26 kc_sipush_128 ?_
      refine tk_iload4 dX11_isLike_29 ?_
      first | refine tk_imulN dX11_isLike_31 ?_ | refine tk_imul dX11_isLike_31 ?_
      refine tk_iload1 dX11_isLike_32 ?_
      first | refine tk_iaddN dX11_isLike_33 ?_ | refine tk_iadd dX11_isLike_33 ?_
      refine tk_iald dX11_isLike_34 (hR.t 71 rfl) (by omega) (by omega) ?_
      rw [h1.1]
      first | refine tk_iaddN dX11_isLike_35 ?_ | refine tk_iadd dX11_isLike_35 ?_
      refine tk_istore5 dX11_isLike_36 rfl ?_
      refine tk_sipush dX11_isLike_38 kc_sipush_128 ?_
      refine tk_iload4 dX11_isLike_41 ?_
      first | refine tk_imulN dX11_isLike_43 ?_ | refine tk_imul dX11_isLike_43 ?_
      refine tk_aload0 dX11_isLike_44 ?_
      refine tk_getP dX11_isLike_45 fX11_102 rfl hR.o (hR.p 38 rfl) ?_
      refine tk_sipush dX11_isLike_48 kc_sipush_128 ?_
      refine tk_iload4 dX11_isLike_51 ?_
      first | refine tk_imulN dX11_isLike_53 ?_ | refine tk_imul dX11_isLike_53 ?_
      refine tk_iload2 dX11_isLike_54 ?_
      first | refine tk_iaddN dX11_isLike_55 ?_ | refine tk_iadd dX11_isLike_55 ?_
      refine tk_iald dX11_isLike_56 (hR.t 71 rfl) (by omega) (by omega) ?_
      rw [h2.1]
      first | refine tk_iaddN dX11_isLike_57 ?_ | refine tk_iadd dX11_isLike_57 ?_
      refine tk_istore6 dX11_isLike_58 rfl ?_
      refine tk_iload3 dX11_isLike_60 ?_
      refine tk_aload0 dX11_isLike_61 ?_
      refine tk_getP dX11_isLike_62 fX11_121 rfl hR.o (hR.p 44 rfl) ?_
      refine tk_iload5 dX11_isLike_65 ?_
      refine tk_lald dX11_isLike_67 (hR.t 77 rfl) (by omega) (by omega) ?_
      refine tk_aload0 dX11_isLike_68 ?_
      refine tk_getP dX11_isLike_69 fX11_121 rfl hR.o (hR.p 44 rfl) ?_
      refine tk_iload6 dX11_isLike_72 ?_
      refine tk_lald dX11_isLike_74 (hR.t 77 rfl) (by omega) (by omega) ?_
      refine tk_lcmp dX11_isLike_75 ?_
      first | refine tk_jf_neB dX11_isLike_76 (fun h76 => ?_) (fun h76 => ?_) | refine tk_if_ne dX11_isLike_76 (fun h76 => ?_) (fun h76 => ?_)
      · refine tk_iconst dX11_isLike_101 kc_iconst_0 ?_
        refine tk_iand dX11_isLike_102 ?_
        first | rw [show nI 1 = tkb true from rfl, tkb_and] | rw [show nI 0 = tkb false from rfl, tkb_and]
        refine tk_istore3 dX11_isLike_103 rfl ?_
        first | refine tk_iinc4 dX11_isLike_104 (kc_inc _) rfl ?_ | refine tk_iinc4 dX11_isLike_104 rfl rfl ?_
        refine tk_goto dX11_isLike_107 ?_
        refine k _ ?_
        first | rw [show rLk (L 77) (L 78) c u w (p + 1) = (rLk (L 77) (L 78) c u w p && true) by rw [rLk, decide_eq_true ((lgc0 _ _).mp h76), decide_eq_true ((lgc0 _ _).mp h94)]; rfl] | rw [show rLk (L 77) (L 78) c u w (p + 1) = (rLk (L 77) (L 78) c u w p && false) by rw [rLk, decide_eq_true ((lgc0 _ _).mp h76), decide_eq_false (fun e => h94 ((lgc0 _ _).mpr e))]; rfl] | rw [show rLk (L 77) (L 78) c u w (p + 1) = (rLk (L 77) (L 78) c u w p && false) by rw [rLk, decide_eq_false (fun e => h76 ((lgc0 _ _).mpr e)), Bool.false_and]]
        exact (by repeat' (first | exact trivial | refine ⟨Or.inl rfl, ?_⟩ | refine ⟨Or.inr rfl, ?_⟩))
      · refine tk_aload0 dX11_isLike_79 ?_
        refine tk_getP dX11_isLike_80 fX11_124 rfl hR.o (hR.p 45 rfl) ?_
        refine tk_iload5 dX11_isLike_83 ?_
        refine tk_lald dX11_isLike_85 (hR.t 78 rfl) (by omega) (by omega) ?_
        refine tk_aload0 dX11_isLike_86 ?_
        refine tk_getP dX11_isLike_87 fX11_124 rfl hR.o (hR.p 45 rfl) ?_
        refine tk_iload6 dX11_isLike_90 ?_
        refine tk_lald dX11_isLike_92 (hR.t 78 rfl) (by omega) (by omega) ?_
        refine tk_lcmp dX11_isLike_93 ?_
        first | refine tk_jf_neB dX11_isLike_94 (fun h94 => ?_) (fun h94 => ?_) | refine tk_if_ne dX11_isLike_94 (fun h94 => ?_) (fun h94 => ?_)
        · refine tk_iconst dX11_isLike_101 kc_iconst_0 ?_
          refine tk_iand dX11_isLike_102 ?_
          first | rw [show nI 1 = tkb true from rfl, tkb_and] | rw [show nI 0 = tkb false from rfl, tkb_and]
          refine tk_istore3 dX11_isLike_103 rfl ?_
          first | refine tk_iinc4 dX11_isLike_104 (kc_inc _) rfl ?_ | refine tk_iinc4 dX11_isLike_104 rfl rfl ?_
          refine tk_goto dX11_isLike_107 ?_
          refine k _ ?_
          first | rw [show rLk (L 77) (L 78) c u w (p + 1) = (rLk (L 77) (L 78) c u w p && true) by rw [rLk, decide_eq_true ((lgc0 _ _).mp h76), decide_eq_true ((lgc0 _ _).mp h94)]; rfl] | rw [show rLk (L 77) (L 78) c u w (p + 1) = (rLk (L 77) (L 78) c u w p && false) by rw [rLk, decide_eq_true ((lgc0 _ _).mp h76), decide_eq_false (fun e => h94 ((lgc0 _ _).mpr e))]; rfl] | rw [show rLk (L 77) (L 78) c u w (p + 1) = (rLk (L 77) (L 78) c u w p && false) by rw [rLk, decide_eq_false (fun e => h76 ((lgc0 _ _).mpr e)), Bool.false_and]]
          exact (by repeat' (first | exact trivial | refine ⟨Or.inl rfl, ?_⟩ | refine ⟨Or.inr rfl, ?_⟩))
        · refine tk_iconst dX11_isLike_97 kc_iconst_1 ?_
          refine tk_goto dX11_isLike_98 ?_
          refine tk_iand dX11_isLike_102 ?_
          first | rw [show nI 1 = tkb true from rfl, tkb_and] | rw [show nI 0 = tkb false from rfl, tkb_and]
          refine tk_istore3 dX11_isLike_103 rfl ?_
          first | refine tk_iinc4 dX11_isLike_104 (kc_inc _) rfl ?_ | refine tk_iinc4 dX11_isLike_104 rfl rfl ?_
          refine tk_goto dX11_isLike_107 ?_
          refine k _ ?_
          first | rw [show rLk (L 77) (L 78) c u w (p + 1) = (rLk (L 77) (L 78) c u w p && true) by rw [rLk, decide_eq_true ((lgc0 _ _).mp h76), decide_eq_true ((lgc0 _ _).mp h94)]; rfl] | rw [show rLk (L 77) (L 78) c u w (p + 1) = (rLk (L 77) (L 78) c u w p && false) by rw [rLk, decide_eq_true ((lgc0 _ _).mp h76), decide_eq_false (fun e => h94 ((lgc0 _ _).mpr e))]; rfl] | rw [show rLk (L 77) (L 78) c u w (p + 1) = (rLk (L 77) (L 78) c u w p && false) by rw [rLk, decide_eq_false (fun e => h76 ((lgc0 _ _).mpr e)), Bool.false_and]]
          exact (by repeat' (first | exact trivial | refine ⟨Or.inl rfl, ?_⟩ | refine ⟨Or.inr rfl, ?_⟩))
end REFU
