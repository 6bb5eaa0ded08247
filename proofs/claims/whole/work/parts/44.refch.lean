/-! ===== the reference: tell, who comes ===== -/
theorem cntR_t {R : Nat → Bool} {k : Nat} (h : R k = true) : cntR R (k + 1) = cntR R k + 1 := by rw [cntR, if_pos h]
theorem cntR_f {R : Nat → Bool} {k : Nat} (h : R k = false) : cntR R (k + 1) = cntR R k := by rw [cntR, h]; rfl
def rTc (kw : Nat → Bool) (g : Nat → Int32) : Nat → Nat → Int32
  | 0 => g
  | w + 1 => if kw w then va_up (va_up (rTc kw g w) (w + cntR kw w) (nI w)) (w + cntR kw w + 1) (nI w) else va_up (rTc kw g w) (w + cntR kw w) (nI w)
def rTw (kw xx : Nat → Bool) (g : Nat → Int32) : Nat → Nat → Int32
  | 0 => g
  | w + 1 => if kw w then va_up (va_up (rTw kw xx g w) (w + cntR kw w) (nI 0)) (w + cntR kw w + 1) (if xx w then nI 2 else nI 1) else va_up (rTw kw xx g w) (w + cntR kw w) (nI 0)
def rTr (kw : Nat → Bool) (r : Nat) (x : Int32) : Nat → Int32
  | 0 => x
  | w + 1 => if kw w && decide (w = r) then nI (w + cntR kw w + 1) else rTr kw r x w
section REFCH
variable {G : tkG} {n : Nat} {T : Nat → Nat × Nat} {I : Nat → Nat → Int32} {L : Nat → Nat → Int64} {P : Nat → Nat → Option Nat}
theorem r_tellN (hR : tkRef T P) {W a : Nat} {x : Int64} {b s : Int32} {a4 : Int32} (hW : I 40 26 = nI W) (hW2 : W ≤ 64) (ha : a < 4) {Q : Option tkV → tkH → Prop} (fin : ∀ l, tkle [some (vR 40), some (vI (nI a)), some (vI b), some (vI s), some (vI a4), some (vL x), none, some (vI (nI (W + cntR (fun w => rKw (L 66) W a w x) W))), none, none, none, none, none, none] l → tkX G mX11_tell 36 0 0 80 l [] (n, T, I, L, P) Q) : tkX G mX11_tell 36 0 0 43 [some (vR 40), some (vI (nI a)), some (vI b), some (vI s), some (vI a4), some (vL x), none, some (vI (nI W)), some (vI (nI 0)), none, none, none, none, none] [] (n, T, I, L, P) Q := by
  refine tk_fr 0 W (fun w => [some (vR 40), some (vI (nI a)), some (vI b), some (vI s), some (vI a4), some (vL x), none, some (vI (nI (W + cntR (fun w => rKw (L 66) W a w x) w))), some (vI (nI w)), none, none, none, none, none]) (fun w => (n, T, I, L, P)) (by omega) (by repeat' (first | exact trivial | refine ⟨Or.inl rfl, ?_⟩ | refine ⟨Or.inr rfl, ?_⟩)) rfl ?_ ?_
  · refine tk_iload8 dX11_tell_43 ?_
    refine tk_aload0 dX11_tell_45 ?_
    refine tk_getI dX11_tell_46 fX11_215 rfl hR.o ?_
    rw [hW]
    first | refine tk_icmp_geN dX11_tell_49 (by omega) (by omega) (fun h49 => ?_) (fun h49 => ?_) | refine tk_jcmp_ge dX11_tell_49 (fun h49 => ?_) (fun h49 => ?_)
    · exact fin _ (by repeat' (first | exact trivial | refine ⟨Or.inl rfl, ?_⟩ | refine ⟨Or.inr rfl, ?_⟩))
    · exfalso; omega
  · intro w _ hw kk
    have hcw := cntR_le (fun w => rKw (L 66) W a w x) w
    refine tk_iload8 dX11_tell_43 ?_
    refine tk_aload0 dX11_tell_45 ?_
    refine tk_getI dX11_tell_46 fX11_215 rfl hR.o ?_
    rw [hW]
    first | refine tk_icmp_geN dX11_tell_49 (by omega) (by omega) (fun h49 => ?_) (fun h49 => ?_) | refine tk_jcmp_ge dX11_tell_49 (fun h49 => ?_) (fun h49 => ?_)
    · exfalso; omega
    · refine tk_iload7 dX11_tell_52 ?_
      refine tk_aload0 dX11_tell_54 ?_
      refine tk_iload1 dX11_tell_55 ?_
      refine tk_iload8 dX11_tell_56 ?_
      refine tk_lload5 dX11_tell_58 ?_
      refine tk_callV3z dX11_tell_60 kX11_303 hR.o (r_knowsWhether hR hW hW2 ha (by omega) x) (Nat.le_of_ble_eq_true rfl) (by omega) ?_
      first | refine tk_jf_eqB dX11_tell_63 (fun h63 => ?_) (fun h63 => ?_) | refine tk_if_eq dX11_tell_63 (fun h63 => ?_) (fun h63 => ?_)
      · refine tk_iconst dX11_tell_70 kc_iconst_0 ?_
        first | refine tk_iaddN dX11_tell_71 ?_ | refine tk_iadd dX11_tell_71 ?_
        refine tk_istore7 dX11_tell_72 rfl ?_
        first | refine tk_iinc8 dX11_tell_74 (kc_inc _) rfl ?_ | refine tk_iinc8 dX11_tell_74 rfl rfl ?_
        refine tk_goto dX11_tell_77 ?_
        refine kk _ ?_
        first | rw [cntR_t (R := fun w => rKw (L 66) W a w x) h63] | rw [cntR_f (R := fun w => rKw (L 66) W a w x) h63]
        exact (by repeat' (first | exact trivial | refine ⟨Or.inl rfl, ?_⟩ | refine ⟨Or.inr rfl, ?_⟩))
      · refine tk_iconst dX11_tell_66 kc_iconst_1 ?_
        refine tk_goto dX11_tell_67 ?_
        first | refine tk_iaddN dX11_tell_71 ?_ | refine tk_iadd dX11_tell_71 ?_
        refine tk_istore7 dX11_tell_72 rfl ?_
        first | refine tk_iinc8 dX11_tell_74 (kc_inc _) rfl ?_ | refine tk_iinc8 dX11_tell_74 rfl rfl ?_
        refine tk_goto dX11_tell_77 ?_
        refine kk _ ?_
        first | rw [cntR_t (R := fun w => rKw (L 66) W a w x) h63] | rw [cntR_f (R := fun w => rKw (L 66) W a w x) h63]
        exact (by repeat' (first | exact trivial | refine ⟨Or.inl rfl, ?_⟩ | refine ⟨Or.inr rfl, ?_⟩))
def tlI (I : Nat → Nat → Int32) (kw xx : Nat → Bool) (r w : Nat) (g0 g1 : Nat → Int32) : Nat → Nat → Int32 := va_up (va_up (va_up (va_up (va_up I 40 (va_up (va_up (I 40) 35 (nI (w + cntR kw w))) 36 (rTr kw r (I 40 36) w))) 70 g0) 71 g1) 79 (rTc kw (I 79) w)) 80 (rTw kw xx (I 80) w)
theorem r_tellC (hR : tkRef T P) {W r a : Nat} {x : Int64} {b s : Int32} {a4 a7 : Int32} {kw : Nat → Bool} (hW : I 40 26 = nI W) (hW2 : W ≤ 64) (hr : I 40 27 = nI r) (hr2 : r < W) (ha : a < 4) (hkw : kw = fun w => rKw (L 66) W a w x) {Q : Option tkV → tkH → Prop} (fin : ∀ l, tkle [some (vR 40), some (vI (nI a)), some (vI b), some (vI s), some (vI a4), some (vL x), none, some (vI a7), some (vI (nI 0)), none, none, none, none, none] l → tkX G mX11_tell 36 0 0 230 l [] (n, T, tlI I kw (tb x) r W (I 70) (I 71), L, P) Q) : tkX G mX11_tell 36 0 0 98 [some (vR 40), some (vI (nI a)), some (vI b), some (vI s), some (vI a4), some (vL x), none, some (vI a7), some (vI (nI 0)), none, none, none, none, none] [] (n, T, va_up I 40 (va_up (I 40) 35 (nI 0)), L, P) Q := by
  refine tk_fr 0 W (fun w => [some (vR 40), some (vI (nI a)), some (vI b), some (vI s), some (vI a4), some (vL x), none, some (vI a7), some (vI (nI w)), none, none, none, none, none]) (fun w => (n, T, tlI I kw (tb x) r w (I 70) (I 71), L, P)) (by omega) (by repeat' (first | exact trivial | refine ⟨Or.inl rfl, ?_⟩ | refine ⟨Or.inr rfl, ?_⟩)) (by unfold tlI; rw [rTc, rTw, rTr, cntR, tk_uid (k := 36), tk_uid (k := 70), tk_uid (k := 71), tk_uid (k := 79), tk_uid (k := 80)] <;> simp only [va_up_self, bx_uu, tk_une, tk_usrt, not_false_eq_true, Nat.reduceEqDiff, Nat.reduceLT, Nat.reduceAdd, Nat.reduceMul, Nat.reduceLeDiff, reduceCtorEq]) ?_ ?_
  · unfold tlI
    refine tk_iload8 dX11_tell_98 ?_
    refine tk_aload0 dX11_tell_100 ?_
    refine tk_getI dX11_tell_101 fX11_215 rfl hR.o ?_
    simp only [va_up_self, bx_uu, tk_une, tk_usrt, not_false_eq_true, Nat.reduceEqDiff, Nat.reduceLT, Nat.reduceAdd, Nat.reduceMul, Nat.reduceLeDiff, reduceCtorEq, hW]
    first | refine tk_icmp_geN dX11_tell_104 (by omega) (by omega) (fun h104 => ?_) (fun h104 => ?_) | refine tk_jcmp_ge dX11_tell_104 (fun h104 => ?_) (fun h104 => ?_)
    · refine tk_iconst dX11_tell_227 kc_iconst_0 ?_
      refine tk_istore8 dX11_tell_228 rfl ?_
      exact fin _ (by repeat' (first | exact trivial | refine ⟨Or.inl rfl, ?_⟩ | refine ⟨Or.inr rfl, ?_⟩))
    · exfalso; omega
  · intro w _ hw k
    unfold tlI
    have hw64 : w < 64 := by omega
    have hcw := cntR_le kw w
    have hkww : rKw (L 66) W a w x = kw w := by rw [hkw]
    have e1 : w + 1 + cntR kw w = w + cntR kw w + 1 := by omega
    have e2 : w + 1 + (cntR kw w + 1) = w + cntR kw w + 1 + 1 := by omega
    refine tk_iload8 dX11_tell_98 ?_
    refine tk_aload0 dX11_tell_100 ?_
    refine tk_getI dX11_tell_101 fX11_215 rfl hR.o ?_
    simp only [va_up_self, bx_uu, tk_une, tk_usrt, not_false_eq_true, Nat.reduceEqDiff, Nat.reduceLT, Nat.reduceAdd, Nat.reduceMul, Nat.reduceLeDiff, reduceCtorEq, hW]
    first | refine tk_icmp_geN dX11_tell_104 (by omega) (by omega) (fun h104 => ?_) (fun h104 => ?_) | refine tk_jcmp_ge dX11_tell_104 (fun h104 => ?_) (fun h104 => ?_)
    · exfalso; omega
    · refine tk_aload0 dX11_tell_107 ?_
      refine tk_getP dX11_tell_108 fX11_127 rfl hR.o (hR.p 46 rfl) ?_
      refine tk_aload0 dX11_tell_111 ?_
      refine tk_getI dX11_tell_112 fX11_256 rfl hR.o ?_
      simp only [va_up_self, bx_uu, tk_une, tk_usrt, not_false_eq_true, Nat.reduceEqDiff, Nat.reduceLT, Nat.reduceAdd, Nat.reduceMul, Nat.reduceLeDiff, reduceCtorEq]
      refine tk_iload8 dX11_tell_115 ?_
      refine tk_iast dX11_tell_117 (hR.t 79 rfl) (by omega) (by omega) ?_
      refine tk_aload0 dX11_tell_118 ?_
      refine tk_getP dX11_tell_119 fX11_130 rfl hR.o (hR.p 47 rfl) ?_
      refine tk_aload0 dX11_tell_122 ?_
      refine tk_getI dX11_tell_123 fX11_256 rfl hR.o ?_
      simp only [va_up_self, bx_uu, tk_une, tk_usrt, not_false_eq_true, Nat.reduceEqDiff, Nat.reduceLT, Nat.reduceAdd, Nat.reduceMul, Nat.reduceLeDiff, reduceCtorEq]
      refine tk_iconst dX11_tell_126 kc_iconst_0 ?_
      refine tk_iast dX11_tell_127 (hR.t 80 rfl) (by omega) (by omega) ?_
      refine tk_aload0 dX11_tell_128 ?_
      refine tk_dup dX11_tell_129 rfl ?_
      refine tk_getI dX11_tell_130 fX11_256 rfl hR.o ?_
      simp only [va_up_self, bx_uu, tk_une, tk_usrt, not_false_eq_true, Nat.reduceEqDiff, Nat.reduceLT, Nat.reduceAdd, Nat.reduceMul, Nat.reduceLeDiff, reduceCtorEq]
      refine tk_iconst dX11_tell_133 kc_iconst_1 ?_
      first | refine tk_iaddN dX11_tell_134 ?_ | refine tk_iadd dX11_tell_134 ?_
      refine tk_putI dX11_tell_135 fX11_256 wX11_tell_X11_35 rfl hR.o ?_
      refine tk_aload0 dX11_tell_138 ?_
      refine tk_iload1 dX11_tell_139 ?_
      refine tk_iload8 dX11_tell_140 ?_
      refine tk_lload5 dX11_tell_142 ?_
      refine tk_callV3z dX11_tell_144 kX11_303 hR.o (r_knowsWhether hR (by simp only [va_up_self, bx_uu, tk_une, tk_usrt, not_false_eq_true, Nat.reduceEqDiff, Nat.reduceLT, Nat.reduceAdd, Nat.reduceMul, Nat.reduceLeDiff, reduceCtorEq]; exact hW) hW2 ha hw64 x) (Nat.le_of_ble_eq_true rfl) (by omega) ?_
      simp only [va_up_self, bx_uu, tk_une, tk_usrt, not_false_eq_true, Nat.reduceEqDiff, Nat.reduceLT, Nat.reduceAdd, Nat.reduceMul, Nat.reduceLeDiff, reduceCtorEq]
      rw [hkww]
      first | refine tk_jf_eqB dX11_tell_147 (fun h147 => ?_) (fun h147 => ?_) | refine tk_if_eq dX11_tell_147 (fun h147 => ?_) (fun h147 => ?_)
      · first | refine tk_iinc8 dX11_tell_221 (kc_inc _) rfl ?_ | refine tk_iinc8 dX11_tell_221 rfl rfl ?_
        refine tk_goto dX11_tell_224 ?_
        try simp only [va_up_self, bx_uu, tk_une, tk_usrt, not_false_eq_true, Nat.reduceEqDiff, Nat.reduceLT, Nat.reduceAdd, Nat.reduceMul, Nat.reduceLeDiff, reduceCtorEq]
        first
          | exact q _ (by repeat' (first | exact trivial | refine ⟨Or.inl rfl, ?_⟩ | refine ⟨Or.inr rfl, ?_⟩))
          | have hm : ¬ kw w = true := fun e => Bool.noConfusion (h147.symm.trans e)
            have hd : ¬ (kw w && decide (w = r)) = true := fun e => hm ((Bool.and_eq_true _ _ ▸ e).1)
            unfold tlI at k
            rw [rTc, rTw, rTr, if_neg hm, if_neg hm, if_neg hd, cntR_f h147, e1] at k
            exact k _ (by repeat' (first | exact trivial | refine ⟨Or.inl rfl, ?_⟩ | refine ⟨Or.inr rfl, ?_⟩))
      · refine tk_aload0 dX11_tell_150 ?_
        refine tk_getP dX11_tell_151 fX11_127 rfl hR.o (hR.p 46 rfl) ?_
        refine tk_aload0 dX11_tell_154 ?_
        refine tk_getI dX11_tell_155 fX11_256 rfl hR.o ?_
        simp only [va_up_self, bx_uu, tk_une, tk_usrt, not_false_eq_true, Nat.reduceEqDiff, Nat.reduceLT, Nat.reduceAdd, Nat.reduceMul, Nat.reduceLeDiff, reduceCtorEq]
        refine tk_iload8 dX11_tell_158 ?_
        refine tk_iast dX11_tell_160 (hR.t 79 rfl) (by omega) (by omega) ?_
        refine tk_aload0 dX11_tell_161 ?_
        refine tk_getP dX11_tell_162 fX11_130 rfl hR.o (hR.p 47 rfl) ?_
        refine tk_aload0 dX11_tell_165 ?_
        refine tk_getI dX11_tell_166 fX11_256 rfl hR.o ?_
        simp only [va_up_self, bx_uu, tk_une, tk_usrt, not_false_eq_true, Nat.reduceEqDiff, Nat.reduceLT, Nat.reduceAdd, Nat.reduceMul, Nat.reduceLeDiff, reduceCtorEq]
        refine tk_lload5 dX11_tell_169 ?_
        refine tk_iload8 dX11_tell_171 ?_
        refine tk_lshr dX11_tell_173 ?_
        refine tk_lconst dX11_tell_174 (v := 1) (by decide) ?_
        refine tk_land dX11_tell_175 ?_
        refine tk_lconst dX11_tell_176 (v := 1) (by decide) ?_
        refine tk_lcmp dX11_tell_177 ?_
        first | refine tk_jf_neB dX11_tell_178 (fun h178 => ?_) (fun h178 => ?_) | refine tk_if_ne dX11_tell_178 (fun h178 => ?_) (fun h178 => ?_)
        · refine tk_iconst dX11_tell_185 kc_iconst_1 ?_
          have hx : ¬ tb x w = true := fun e => h178 ((tb_t1 x hw64).mpr e)
          have q := k
          unfold tlI at q
          rw [rTc, rTw, rTr, if_pos h147, if_pos h147, if_neg hx] at q
          refine tk_iast dX11_tell_186 (hR.t 80 rfl) (by omega) (by omega) ?_
          refine tk_aload0 dX11_tell_187 ?_
          refine tk_iload8 dX11_tell_188 ?_
          refine tk_aload0 dX11_tell_190 ?_
          refine tk_getI dX11_tell_191 fX11_220 rfl hR.o ?_
          simp only [va_up_self, bx_uu, tk_une, tk_usrt, not_false_eq_true, Nat.reduceEqDiff, Nat.reduceLT, Nat.reduceAdd, Nat.reduceMul, Nat.reduceLeDiff, reduceCtorEq, hr]
          first | refine tk_icmp_neN dX11_tell_194 (by omega) (by omega) (fun h194 => ?_) (fun h194 => ?_) | refine tk_icmp_ne dX11_tell_194 (fun h194 => ?_) (fun h194 => ?_)
          · refine tk_aload0 dX11_tell_204 ?_
            refine tk_getI dX11_tell_205 fX11_259 rfl hR.o ?_
            simp only [va_up_self, bx_uu, tk_une, tk_usrt, not_false_eq_true, Nat.reduceEqDiff, Nat.reduceLT, Nat.reduceAdd, Nat.reduceMul, Nat.reduceLeDiff, reduceCtorEq]
            have hd : ¬ (kw w && decide (w = r)) = true := by rw [h147, decide_eq_false h194]; decide
            rw [if_neg hd, cntR_t h147, e2] at q
            refine tk_putI dX11_tell_208 fX11_259 wX11_tell_X11_36 rfl hR.o ?_
            refine tk_aload0 dX11_tell_211 ?_
            refine tk_dup dX11_tell_212 rfl ?_
            refine tk_getI dX11_tell_213 fX11_256 rfl hR.o ?_
            simp only [va_up_self, bx_uu, tk_une, tk_usrt, not_false_eq_true, Nat.reduceEqDiff, Nat.reduceLT, Nat.reduceAdd, Nat.reduceMul, Nat.reduceLeDiff, reduceCtorEq]
            refine tk_iconst dX11_tell_216 kc_iconst_1 ?_
            first | refine tk_iaddN dX11_tell_217 ?_ | refine tk_iadd dX11_tell_217 ?_
            refine tk_putI dX11_tell_218 fX11_256 wX11_tell_X11_35 rfl hR.o ?_
            first | refine tk_iinc8 dX11_tell_221 (kc_inc _) rfl ?_ | refine tk_iinc8 dX11_tell_221 rfl rfl ?_
            refine tk_goto dX11_tell_224 ?_
            try simp only [va_up_self, bx_uu, tk_une, tk_usrt, not_false_eq_true, Nat.reduceEqDiff, Nat.reduceLT, Nat.reduceAdd, Nat.reduceMul, Nat.reduceLeDiff, reduceCtorEq]
            first
              | exact q _ (by repeat' (first | exact trivial | refine ⟨Or.inl rfl, ?_⟩ | refine ⟨Or.inr rfl, ?_⟩))
              | have hm : ¬ kw w = true := fun e => Bool.noConfusion (h147.symm.trans e)
                have hd : ¬ (kw w && decide (w = r)) = true := fun e => hm ((Bool.and_eq_true _ _ ▸ e).1)
                unfold tlI at k
                rw [rTc, rTw, rTr, if_neg hm, if_neg hm, if_neg hd, cntR_f h147, e1] at k
                exact k _ (by repeat' (first | exact trivial | refine ⟨Or.inl rfl, ?_⟩ | refine ⟨Or.inr rfl, ?_⟩))
          · refine tk_aload0 dX11_tell_197 ?_
            refine tk_getI dX11_tell_198 fX11_256 rfl hR.o ?_
            simp only [va_up_self, bx_uu, tk_une, tk_usrt, not_false_eq_true, Nat.reduceEqDiff, Nat.reduceLT, Nat.reduceAdd, Nat.reduceMul, Nat.reduceLeDiff, reduceCtorEq]
            have hd : (kw w && decide (w = r)) = true := by rw [h147, decide_eq_true h194]; rfl
            rw [if_pos hd, cntR_t h147, e2] at q
            refine tk_goto dX11_tell_201 ?_
            refine tk_putI dX11_tell_208 fX11_259 wX11_tell_X11_36 rfl hR.o ?_
            refine tk_aload0 dX11_tell_211 ?_
            refine tk_dup dX11_tell_212 rfl ?_
            refine tk_getI dX11_tell_213 fX11_256 rfl hR.o ?_
            simp only [va_up_self, bx_uu, tk_une, tk_usrt, not_false_eq_true, Nat.reduceEqDiff, Nat.reduceLT, Nat.reduceAdd, Nat.reduceMul, Nat.reduceLeDiff, reduceCtorEq]
            refine tk_iconst dX11_tell_216 kc_iconst_1 ?_
            first | refine tk_iaddN dX11_tell_217 ?_ | refine tk_iadd dX11_tell_217 ?_
            refine tk_putI dX11_tell_218 fX11_256 wX11_tell_X11_35 rfl hR.o ?_
            first | refine tk_iinc8 dX11_tell_221 (kc_inc _) rfl ?_ | refine tk_iinc8 dX11_tell_221 rfl rfl ?_
            refine tk_goto dX11_tell_224 ?_
            try simp only [va_up_self, bx_uu, tk_une, tk_usrt, not_false_eq_true, Nat.reduceEqDiff, Nat.reduceLT, Nat.reduceAdd, Nat.reduceMul, Nat.reduceLeDiff, reduceCtorEq]
            first
              | exact q _ (by repeat' (first | exact trivial | refine ⟨Or.inl rfl, ?_⟩ | refine ⟨Or.inr rfl, ?_⟩))
              | have hm : ¬ kw w = true := fun e => Bool.noConfusion (h147.symm.trans e)
                have hd : ¬ (kw w && decide (w = r)) = true := fun e => hm ((Bool.and_eq_true _ _ ▸ e).1)
                unfold tlI at k
                rw [rTc, rTw, rTr, if_neg hm, if_neg hm, if_neg hd, cntR_f h147, e1] at k
                exact k _ (by repeat' (first | exact trivial | refine ⟨Or.inl rfl, ?_⟩ | refine ⟨Or.inr rfl, ?_⟩))
        · refine tk_iconst dX11_tell_181 kc_iconst_2 ?_
          have hx : tb x w = true := (tb_t1 x hw64).mp h178
          have q := k
          unfold tlI at q
          rw [rTc, rTw, rTr, if_pos h147, if_pos h147, if_pos hx] at q
          refine tk_goto dX11_tell_182 ?_
          refine tk_iast dX11_tell_186 (hR.t 80 rfl) (by omega) (by omega) ?_
          refine tk_aload0 dX11_tell_187 ?_
          refine tk_iload8 dX11_tell_188 ?_
          refine tk_aload0 dX11_tell_190 ?_
          refine tk_getI dX11_tell_191 fX11_220 rfl hR.o ?_
          simp only [va_up_self, bx_uu, tk_une, tk_usrt, not_false_eq_true, Nat.reduceEqDiff, Nat.reduceLT, Nat.reduceAdd, Nat.reduceMul, Nat.reduceLeDiff, reduceCtorEq, hr]
          first | refine tk_icmp_neN dX11_tell_194 (by omega) (by omega) (fun h194 => ?_) (fun h194 => ?_) | refine tk_icmp_ne dX11_tell_194 (fun h194 => ?_) (fun h194 => ?_)
          · refine tk_aload0 dX11_tell_204 ?_
            refine tk_getI dX11_tell_205 fX11_259 rfl hR.o ?_
            simp only [va_up_self, bx_uu, tk_une, tk_usrt, not_false_eq_true, Nat.reduceEqDiff, Nat.reduceLT, Nat.reduceAdd, Nat.reduceMul, Nat.reduceLeDiff, reduceCtorEq]
            have hd : ¬ (kw w && decide (w = r)) = true := by rw [h147, decide_eq_false h194]; decide
            rw [if_neg hd, cntR_t h147, e2] at q
            refine tk_putI dX11_tell_208 fX11_259 wX11_tell_X11_36 rfl hR.o ?_
            refine tk_aload0 dX11_tell_211 ?_
            refine tk_dup dX11_tell_212 rfl ?_
            refine tk_getI dX11_tell_213 fX11_256 rfl hR.o ?_
            simp only [va_up_self, bx_uu, tk_une, tk_usrt, not_false_eq_true, Nat.reduceEqDiff, Nat.reduceLT, Nat.reduceAdd, Nat.reduceMul, Nat.reduceLeDiff, reduceCtorEq]
            refine tk_iconst dX11_tell_216 kc_iconst_1 ?_
            first | refine tk_iaddN dX11_tell_217 ?_ | refine tk_iadd dX11_tell_217 ?_
            refine tk_putI dX11_tell_218 fX11_256 wX11_tell_X11_35 rfl hR.o ?_
            first | refine tk_iinc8 dX11_tell_221 (kc_inc _) rfl ?_ | refine tk_iinc8 dX11_tell_221 rfl rfl ?_
            refine tk_goto dX11_tell_224 ?_
            try simp only [va_up_self, bx_uu, tk_une, tk_usrt, not_false_eq_true, Nat.reduceEqDiff, Nat.reduceLT, Nat.reduceAdd, Nat.reduceMul, Nat.reduceLeDiff, reduceCtorEq]
            first
              | exact q _ (by repeat' (first | exact trivial | refine ⟨Or.inl rfl, ?_⟩ | refine ⟨Or.inr rfl, ?_⟩))
              | have hm : ¬ kw w = true := fun e => Bool.noConfusion (h147.symm.trans e)
                have hd : ¬ (kw w && decide (w = r)) = true := fun e => hm ((Bool.and_eq_true _ _ ▸ e).1)
                unfold tlI at k
                rw [rTc, rTw, rTr, if_neg hm, if_neg hm, if_neg hd, cntR_f h147, e1] at k
                exact k _ (by repeat' (first | exact trivial | refine ⟨Or.inl rfl, ?_⟩ | refine ⟨Or.inr rfl, ?_⟩))
          · refine tk_aload0 dX11_tell_197 ?_
            refine tk_getI dX11_tell_198 fX11_256 rfl hR.o ?_
            simp only [va_up_self, bx_uu, tk_une, tk_usrt, not_false_eq_true, Nat.reduceEqDiff, Nat.reduceLT, Nat.reduceAdd, Nat.reduceMul, Nat.reduceLeDiff, reduceCtorEq]
            have hd : (kw w && decide (w = r)) = true := by rw [h147, decide_eq_true h194]; rfl
            rw [if_pos hd, cntR_t h147, e2] at q
            refine tk_goto dX11_tell_201 ?_
            refine tk_putI dX11_tell_208 fX11_259 wX11_tell_X11_36 rfl hR.o ?_
            refine tk_aload0 dX11_tell_211 ?_
            refine tk_dup dX11_tell_212 rfl ?_
            refine tk_getI dX11_tell_213 fX11_256 rfl hR.o ?_
            simp only [va_up_self, bx_uu, tk_une, tk_usrt, not_false_eq_true, Nat.reduceEqDiff, Nat.reduceLT, Nat.reduceAdd, Nat.reduceMul, Nat.reduceLeDiff, reduceCtorEq]
            refine tk_iconst dX11_tell_216 kc_iconst_1 ?_
            first | refine tk_iaddN dX11_tell_217 ?_ | refine tk_iadd dX11_tell_217 ?_
            refine tk_putI dX11_tell_218 fX11_256 wX11_tell_X11_35 rfl hR.o ?_
            first | refine tk_iinc8 dX11_tell_221 (kc_inc _) rfl ?_ | refine tk_iinc8 dX11_tell_221 rfl rfl ?_
            refine tk_goto dX11_tell_224 ?_
            try simp only [va_up_self, bx_uu, tk_une, tk_usrt, not_false_eq_true, Nat.reduceEqDiff, Nat.reduceLT, Nat.reduceAdd, Nat.reduceMul, Nat.reduceLeDiff, reduceCtorEq]
            first
              | exact q _ (by repeat' (first | exact trivial | refine ⟨Or.inl rfl, ?_⟩ | refine ⟨Or.inr rfl, ?_⟩))
              | have hm : ¬ kw w = true := fun e => Bool.noConfusion (h147.symm.trans e)
                have hd : ¬ (kw w && decide (w = r)) = true := fun e => hm ((Bool.and_eq_true _ _ ▸ e).1)
                unfold tlI at k
                rw [rTc, rTw, rTr, if_neg hm, if_neg hm, if_neg hd, cntR_f h147, e1] at k
                exact k _ (by repeat' (first | exact trivial | refine ⟨Or.inl rfl, ?_⟩ | refine ⟨Or.inr rfl, ?_⟩))
end REFCH
