/-! ===== the reference: mark, write ===== -/
section REFJ
variable {G : tkG} {n : Nat} {T : Nat → Nat × Nat} {I : Nat → Nat → Int32} {L : Nat → Nat → Int64} {P : Nat → Nat → Option Nat}
theorem r_markL (hR : tkRef T P) {m : Nat} (hm6 : m < 6) (hm : I 41 6 = nI m) : tkX G mX11_mark 3 0 0 23 [some (vR 40), none, none] [] (n, T, I, L, P) (tkF (some (vI (nI m))) (n, T, rMk I m, L, P)) := by
  unfold rMk
  refine tk_aload0 dX11_mark_23 ?_
  refine tk_getP dX11_mark_24 fX11_7 rfl hR.o (hR.p 0 rfl) ?_
  refine tk_bipush dX11_mark_27 kc_bipush_6 ?_
  refine tk_iald dX11_mark_29 (hR.t 41 rfl) (by omega) (by omega) ?_
  rw [hm]
  refine tk_istore1 dX11_mark_30 rfl ?_
  refine tk_aload0 dX11_mark_31 ?_
  refine tk_getP dX11_mark_32 fX11_49 rfl hR.o (hR.p 13 rfl) ?_
  refine tk_iconst dX11_mark_35 kc_iconst_3 ?_
  refine tk_iload1 dX11_mark_36 ?_
  first | refine tk_imulN dX11_mark_37 ?_ | refine tk_imul dX11_mark_37 ?_
  refine tk_aload0 dX11_mark_38 ?_
  refine tk_getP dX11_mark_39 fX11_7 rfl hR.o (hR.p 0 rfl) ?_
  refine tk_iconst dX11_mark_42 kc_iconst_2 ?_
  refine tk_iald dX11_mark_43 (hR.t 41 rfl) (by omega) (by omega) ?_
  refine tk_iast dX11_mark_44 (hR.t 54 rfl) (by omega) (by omega) ?_
  refine tk_aload0 dX11_mark_45 ?_
  refine tk_getP dX11_mark_46 fX11_49 rfl hR.o (hR.p 13 rfl) ?_
  refine tk_iconst dX11_mark_49 kc_iconst_3 ?_
  refine tk_iload1 dX11_mark_50 ?_
  first | refine tk_imulN dX11_mark_51 ?_ | refine tk_imul dX11_mark_51 ?_
  refine tk_iconst dX11_mark_52 kc_iconst_1 ?_
  first | refine tk_iaddN dX11_mark_53 ?_ | refine tk_iadd dX11_mark_53 ?_
  refine tk_aload0 dX11_mark_54 ?_
  refine tk_getP dX11_mark_55 fX11_7 rfl hR.o (hR.p 0 rfl) ?_
  refine tk_iconst dX11_mark_58 kc_iconst_3 ?_
  refine tk_iald dX11_mark_59 (hR.t 41 rfl) (by omega) (by omega) ?_
  refine tk_iast dX11_mark_60 (hR.t 54 rfl) (by omega) (by omega) ?_
  refine tk_aload0 dX11_mark_61 ?_
  refine tk_getP dX11_mark_62 fX11_49 rfl hR.o (hR.p 13 rfl) ?_
  refine tk_iconst dX11_mark_65 kc_iconst_3 ?_
  refine tk_iload1 dX11_mark_66 ?_
  first | refine tk_imulN dX11_mark_67 ?_ | refine tk_imul dX11_mark_67 ?_
  refine tk_iconst dX11_mark_68 kc_iconst_2 ?_
  first | refine tk_iaddN dX11_mark_69 ?_ | refine tk_iadd dX11_mark_69 ?_
  refine tk_aload0 dX11_mark_70 ?_
  refine tk_getP dX11_mark_71 fX11_7 rfl hR.o (hR.p 0 rfl) ?_
  refine tk_iconst dX11_mark_74 kc_iconst_4 ?_
  refine tk_iald dX11_mark_75 (hR.t 41 rfl) (by omega) (by omega) ?_
  refine tk_iast dX11_mark_76 (hR.t 54 rfl) (by omega) (by omega) ?_
  refine tk_iconst dX11_mark_77 kc_iconst_0 ?_
  refine tk_istore2 dX11_mark_78 rfl ?_
  simp only [va_up_self, bx_uu, tk_une, tk_usrt, not_false_eq_true, Nat.reduceEqDiff, Nat.reduceLT, Nat.reduceAdd, Nat.reduceMul, Nat.reduceLeDiff, reduceCtorEq]
  refine tk_fr 0 64 (fun i => [some (vR 40), some (vI (nI m)), some (vI (nI i))]) (fun i => (n, T, va_up (va_up I 54 (va_up (va_up (va_up (I 54) (3 * m) (I 41 2)) (3 * m + 1) (I 41 3)) (3 * m + 2) (I 41 4))) 55 (tkco (I 55) (I 42) (64 * m) i), L, P)) (by omega) (by repeat' (first | exact trivial | refine ⟨Or.inl rfl, ?_⟩ | refine ⟨Or.inr rfl, ?_⟩)) (by rw [tkco_0, tk_uid (k := 55)]; simp only [va_up_self, bx_uu, tk_une, tk_usrt, not_false_eq_true, Nat.reduceEqDiff, Nat.reduceLT, Nat.reduceAdd, Nat.reduceMul, Nat.reduceLeDiff, reduceCtorEq]) ?_ ?_
  · refine tk_iload2 dX11_mark_79 ?_
    refine tk_bipush dX11_mark_80 kc_bipush_64 ?_
    first | refine tk_icmp_geN dX11_mark_82 (by omega) (by omega) (fun h82 => ?_) (fun h82 => ?_) | refine tk_jcmp_ge dX11_mark_82 (fun h82 => ?_) (fun h82 => ?_)
    · refine tk_iconst dX11_mark_108 kc_iconst_0 ?_
      refine tk_istore2 dX11_mark_109 rfl ?_
      try simp only [va_up_self, bx_uu, tk_une, tk_usrt, not_false_eq_true, Nat.reduceEqDiff, Nat.reduceLT, Nat.reduceAdd, Nat.reduceMul, Nat.reduceLeDiff, reduceCtorEq]
      refine tk_fr 0 256 (fun i => [some (vR 40), some (vI (nI m)), some (vI (nI i))]) (fun i => (n, T, va_up (va_up (va_up I 54 (va_up (va_up (va_up (I 54) (3 * m) (I 41 2)) (3 * m + 1) (I 41 3)) (3 * m + 2) (I 41 4))) 55 (tkco (I 55) (I 42) (64 * m) 64)) 56 (tkco (I 56) (I 43) (256 * m) i), L, P)) (by omega) (by repeat' (first | exact trivial | refine ⟨Or.inl rfl, ?_⟩ | refine ⟨Or.inr rfl, ?_⟩)) (by simp only [tkco_0, Nat.zero_add, Nat.reduceDiv]; rw [tk_uid (k := 56)]; simp only [va_up_self, bx_uu, tk_une, tk_usrt, not_false_eq_true, Nat.reduceEqDiff, Nat.reduceLT, Nat.reduceAdd, Nat.reduceMul, Nat.reduceLeDiff, reduceCtorEq]) ?_ ?_
      · refine tk_iload2 dX11_mark_110 ?_
        refine tk_sipush dX11_mark_111 kc_sipush_256 ?_
        first | refine tk_icmp_geN dX11_mark_114 (by omega) (by omega) (fun h114 => ?_) (fun h114 => ?_) | refine tk_jcmp_ge dX11_mark_114 (fun h114 => ?_) (fun h114 => ?_)
        · refine tk_iconst dX11_mark_141 kc_iconst_0 ?_
          refine tk_istore2 dX11_mark_142 rfl ?_
          try simp only [va_up_self, bx_uu, tk_une, tk_usrt, not_false_eq_true, Nat.reduceEqDiff, Nat.reduceLT, Nat.reduceAdd, Nat.reduceMul, Nat.reduceLeDiff, reduceCtorEq]
          refine tk_fr 0 70 (fun i => [some (vR 40), some (vI (nI m)), some (vI (nI i))]) (fun i => (n, T, va_up (va_up (va_up (va_up (va_up I 54 (va_up (va_up (va_up (I 54) (3 * m) (I 41 2)) (3 * m + 1) (I 41 3)) (3 * m + 2) (I 41 4))) 55 (tkco (I 55) (I 42) (64 * m) 64)) 56 (tkco (I 56) (I 43) (256 * m) 256)) 57 (tkco (I 57) (I 49) (70 * m) i)) 58 (tkco (I 58) (I 50) (5 * m) ((i + 13) / 14)), L, P)) (by omega) (by repeat' (first | exact trivial | refine ⟨Or.inl rfl, ?_⟩ | refine ⟨Or.inr rfl, ?_⟩)) (by simp only [tkco_0, Nat.zero_add, Nat.reduceDiv]; rw [tk_uid (k := 58), tk_uid (k := 57)] <;> simp only [va_up_self, bx_uu, tk_une, tk_usrt, not_false_eq_true, Nat.reduceEqDiff, Nat.reduceLT, Nat.reduceAdd, Nat.reduceMul, Nat.reduceLeDiff, reduceCtorEq]) ?_ ?_
          · refine tk_iload2 dX11_mark_143 ?_
            refine tk_bipush dX11_mark_144 kc_bipush_70 ?_
            first | refine tk_icmp_geN dX11_mark_146 (by omega) (by omega) (fun h146 => ?_) (fun h146 => ?_) | refine tk_jcmp_ge dX11_mark_146 (fun h146 => ?_) (fun h146 => ?_)
            · refine tk_iconst dX11_mark_194 kc_iconst_0 ?_
              refine tk_istore2 dX11_mark_195 rfl ?_
              try simp only [va_up_self, bx_uu, tk_une, tk_usrt, not_false_eq_true, Nat.reduceEqDiff, Nat.reduceLT, Nat.reduceAdd, Nat.reduceMul, Nat.reduceLeDiff, reduceCtorEq]
              refine tk_fr 0 3 (fun i => [some (vR 40), some (vI (nI m)), some (vI (nI i))]) (fun i => (n, T, va_up (va_up (va_up (va_up (va_up (va_up I 54 (va_up (va_up (va_up (I 54) (3 * m) (I 41 2)) (3 * m + 1) (I 41 3)) (3 * m + 2) (I 41 4))) 55 (tkco (I 55) (I 42) (64 * m) 64)) 56 (tkco (I 56) (I 43) (256 * m) 256)) 57 (tkco (I 57) (I 49) (70 * m) 70)) 58 (tkco (I 58) (I 50) (5 * m) 5)) 59 (tkco (I 59) (I 45) (3 * m) i), L, P)) (by omega) (by repeat' (first | exact trivial | refine ⟨Or.inl rfl, ?_⟩ | refine ⟨Or.inr rfl, ?_⟩)) (by simp only [tkco_0, Nat.zero_add, Nat.reduceDiv]; rw [tk_uid (k := 59)]; simp only [va_up_self, bx_uu, tk_une, tk_usrt, not_false_eq_true, Nat.reduceEqDiff, Nat.reduceLT, Nat.reduceAdd, Nat.reduceMul, Nat.reduceLeDiff, reduceCtorEq]) ?_ ?_
              · refine tk_iload2 dX11_mark_196 ?_
                refine tk_iconst dX11_mark_197 kc_iconst_3 ?_
                first | refine tk_icmp_geN dX11_mark_198 (by omega) (by omega) (fun h198 => ?_) (fun h198 => ?_) | refine tk_jcmp_ge dX11_mark_198 (fun h198 => ?_) (fun h198 => ?_)
                · refine tk_aload0 dX11_mark_223 ?_
                  refine tk_getP dX11_mark_224 fX11_7 rfl hR.o (hR.p 0 rfl) ?_
                  refine tk_bipush dX11_mark_227 kc_bipush_6 ?_
                  first | refine tk_dup2 dX11_mark_229 rfl rfl ?_ | refine tk_dup2L dX11_mark_229 ?_
                  refine tk_iald dX11_mark_230 (hR.t 41 rfl) (by omega) (by omega) ?_
                  simp only [va_up_self, bx_uu, tk_une, tk_usrt, not_false_eq_true, Nat.reduceEqDiff, Nat.reduceLT, Nat.reduceAdd, Nat.reduceMul, Nat.reduceLeDiff, reduceCtorEq, hm]
                  refine tk_iconst dX11_mark_231 kc_iconst_1 ?_
                  first | refine tk_iaddN dX11_mark_232 ?_ | refine tk_iadd dX11_mark_232 ?_
                  refine tk_iast dX11_mark_233 (hR.t 41 rfl) (by omega) (by omega) ?_
                  refine tk_iload1 dX11_mark_234 ?_
                  refine tk_ireturn dX11_mark_235 rfl ?_
                  simp only [va_up_self, bx_uu, tk_une, tk_usrt, not_false_eq_true, Nat.reduceEqDiff, Nat.reduceLT, Nat.reduceAdd, Nat.reduceMul, Nat.reduceLeDiff, reduceCtorEq]
                  exact ⟨rfl, rfl⟩
                · exfalso; omega
              · intro i _ hi k
                refine tk_iload2 dX11_mark_196 ?_
                refine tk_iconst dX11_mark_197 kc_iconst_3 ?_
                first | refine tk_icmp_geN dX11_mark_198 (by omega) (by omega) (fun h198 => ?_) (fun h198 => ?_) | refine tk_jcmp_ge dX11_mark_198 (fun h198 => ?_) (fun h198 => ?_)
                · exfalso; omega
                · refine tk_aload0 dX11_mark_201 ?_
                  refine tk_getP dX11_mark_202 fX11_64 rfl hR.o (hR.p 18 rfl) ?_
                  refine tk_iconst dX11_mark_205 kc_iconst_3 ?_
                  refine tk_iload1 dX11_mark_206 ?_
                  first | refine tk_imulN dX11_mark_207 ?_ | refine tk_imul dX11_mark_207 ?_
                  refine tk_iload2 dX11_mark_208 ?_
                  first | refine tk_iaddN dX11_mark_209 ?_ | refine tk_iadd dX11_mark_209 ?_
                  refine tk_aload0 dX11_mark_210 ?_
                  refine tk_getP dX11_mark_211 fX11_22 rfl hR.o (hR.p 4 rfl) ?_
                  refine tk_iload2 dX11_mark_214 ?_
                  refine tk_iald dX11_mark_215 (hR.t 45 rfl) (by omega) (by omega) ?_
                  refine tk_iast dX11_mark_216 (hR.t 59 rfl) (by omega) (by omega) ?_
                  first | refine tk_iinc2 dX11_mark_217 (kc_inc _) rfl ?_ | refine tk_iinc2 dX11_mark_217 rfl rfl ?_
                  refine tk_goto dX11_mark_220 ?_
                  simp only [va_up_self, bx_uu, tk_une, tk_usrt, not_false_eq_true, Nat.reduceEqDiff, Nat.reduceLT, Nat.reduceAdd, Nat.reduceMul, Nat.reduceLeDiff, reduceCtorEq]
                  rw [tkco_s (I 59) (I 45)]
                  exact k _ (by repeat' (first | exact trivial | refine ⟨Or.inl rfl, ?_⟩ | refine ⟨Or.inr rfl, ?_⟩))
            · exfalso; omega
          · intro i _ hi k
            refine tk_iload2 dX11_mark_143 ?_
            refine tk_bipush dX11_mark_144 kc_bipush_70 ?_
            first | refine tk_icmp_geN dX11_mark_146 (by omega) (by omega) (fun h146 => ?_) (fun h146 => ?_) | refine tk_jcmp_ge dX11_mark_146 (fun h146 => ?_) (fun h146 => ?_)
            · exfalso; omega
            · refine tk_aload0 dX11_mark_149 ?_
              refine tk_getP dX11_mark_150 fX11_58 rfl hR.o (hR.p 16 rfl) ?_
              refine tk_bipush dX11_mark_153 kc_bipush_70 ?_
              refine tk_iload1 dX11_mark_155 ?_
              first | refine tk_imulN dX11_mark_156 ?_ | refine tk_imul dX11_mark_156 ?_
              refine tk_iload2 dX11_mark_157 ?_
              first | refine tk_iaddN dX11_mark_158 ?_ | refine tk_iadd dX11_mark_158 ?_
              refine tk_aload0 dX11_mark_159 ?_
              refine tk_getP dX11_mark_160 fX11_34 rfl hR.o (hR.p 8 rfl) ?_
              refine tk_iload2 dX11_mark_163 ?_
              refine tk_iald dX11_mark_164 (hR.t 49 rfl) (by omega) (by omega) ?_
              refine tk_iast dX11_mark_165 (hR.t 57 rfl) (by omega) (by omega) ?_
              refine tk_aload0 dX11_mark_166 ?_
              refine tk_getP dX11_mark_167 fX11_61 rfl hR.o (hR.p 17 rfl) ?_
              refine tk_iconst dX11_mark_170 kc_iconst_5 ?_
              refine tk_iload1 dX11_mark_171 ?_
              first | refine tk_imulN dX11_mark_172 ?_ | refine tk_imul dX11_mark_172 ?_
              refine tk_iload2 dX11_mark_173 ?_
              refine tk_bipush dX11_mark_174 kc_bipush_14 ?_
              first | refine tk_idivN dX11_mark_176 (by omega) (by omega) (by omega) ?_ | refine tk_idiv dX11_mark_176 (by decide) ?_
              first | refine tk_iaddN dX11_mark_177 ?_ | refine tk_iadd dX11_mark_177 ?_
              refine tk_aload0 dX11_mark_178 ?_
              refine tk_getP dX11_mark_179 fX11_37 rfl hR.o (hR.p 9 rfl) ?_
              refine tk_iload2 dX11_mark_182 ?_
              refine tk_bipush dX11_mark_183 kc_bipush_14 ?_
              first | refine tk_idivN dX11_mark_185 (by omega) (by omega) (by omega) ?_ | refine tk_idiv dX11_mark_185 (by decide) ?_
              refine tk_iald dX11_mark_186 (hR.t 50 rfl) (by omega) (by omega) ?_
              refine tk_iast dX11_mark_187 (hR.t 58 rfl) (by omega) (by omega) ?_
              first | refine tk_iinc2 dX11_mark_188 (kc_inc _) rfl ?_ | refine tk_iinc2 dX11_mark_188 rfl rfl ?_
              refine tk_goto dX11_mark_191 ?_
              simp only [va_up_self, bx_uu, tk_une, tk_usrt, not_false_eq_true, Nat.reduceEqDiff, Nat.reduceLT, Nat.reduceAdd, Nat.reduceMul, Nat.reduceLeDiff, reduceCtorEq]
              rw [tkco_s (I 57) (I 49), tkco_14 (I 58) (I 50)]
              exact k _ (by repeat' (first | exact trivial | refine ⟨Or.inl rfl, ?_⟩ | refine ⟨Or.inr rfl, ?_⟩))
        · exfalso; omega
      · intro i _ hi k
        refine tk_iload2 dX11_mark_110 ?_
        refine tk_sipush dX11_mark_111 kc_sipush_256 ?_
        first | refine tk_icmp_geN dX11_mark_114 (by omega) (by omega) (fun h114 => ?_) (fun h114 => ?_) | refine tk_jcmp_ge dX11_mark_114 (fun h114 => ?_) (fun h114 => ?_)
        · exfalso; omega
        · refine tk_aload0 dX11_mark_117 ?_
          refine tk_getP dX11_mark_118 fX11_55 rfl hR.o (hR.p 15 rfl) ?_
          refine tk_sipush dX11_mark_121 kc_sipush_256 ?_
          refine tk_iload1 dX11_mark_124 ?_
          first | refine tk_imulN dX11_mark_125 ?_ | refine tk_imul dX11_mark_125 ?_
          refine tk_iload2 dX11_mark_126 ?_
          first | refine tk_iaddN dX11_mark_127 ?_ | refine tk_iadd dX11_mark_127 ?_
          refine tk_aload0 dX11_mark_128 ?_
          refine tk_getP dX11_mark_129 fX11_16 rfl hR.o (hR.p 2 rfl) ?_
          refine tk_iload2 dX11_mark_132 ?_
          refine tk_iald dX11_mark_133 (hR.t 43 rfl) (by omega) (by omega) ?_
          refine tk_iast dX11_mark_134 (hR.t 56 rfl) (by omega) (by omega) ?_
          first | refine tk_iinc2 dX11_mark_135 (kc_inc _) rfl ?_ | refine tk_iinc2 dX11_mark_135 rfl rfl ?_
          refine tk_goto dX11_mark_138 ?_
          simp only [va_up_self, bx_uu, tk_une, tk_usrt, not_false_eq_true, Nat.reduceEqDiff, Nat.reduceLT, Nat.reduceAdd, Nat.reduceMul, Nat.reduceLeDiff, reduceCtorEq]
          rw [tkco_s (I 56) (I 43)]
          exact k _ (by repeat' (first | exact trivial | refine ⟨Or.inl rfl, ?_⟩ | refine ⟨Or.inr rfl, ?_⟩))
    · exfalso; omega
  · intro i _ hi k
    refine tk_iload2 dX11_mark_79 ?_
    refine tk_bipush dX11_mark_80 kc_bipush_64 ?_
    first | refine tk_icmp_geN dX11_mark_82 (by omega) (by omega) (fun h82 => ?_) (fun h82 => ?_) | refine tk_jcmp_ge dX11_mark_82 (fun h82 => ?_) (fun h82 => ?_)
    · exfalso; omega
    · refine tk_aload0 dX11_mark_85 ?_
      refine tk_getP dX11_mark_86 fX11_52 rfl hR.o (hR.p 14 rfl) ?_
      refine tk_bipush dX11_mark_89 kc_bipush_64 ?_
      refine tk_iload1 dX11_mark_91 ?_
      first | refine tk_imulN dX11_mark_92 ?_ | refine tk_imul dX11_mark_92 ?_
      refine tk_iload2 dX11_mark_93 ?_
      first | refine tk_iaddN dX11_mark_94 ?_ | refine tk_iadd dX11_mark_94 ?_
      refine tk_aload0 dX11_mark_95 ?_
      refine tk_getP dX11_mark_96 fX11_13 rfl hR.o (hR.p 1 rfl) ?_
      refine tk_iload2 dX11_mark_99 ?_
      refine tk_iald dX11_mark_100 (hR.t 42 rfl) (by omega) (by omega) ?_
      refine tk_iast dX11_mark_101 (hR.t 55 rfl) (by omega) (by omega) ?_
      first | refine tk_iinc2 dX11_mark_102 (kc_inc _) rfl ?_ | refine tk_iinc2 dX11_mark_102 rfl rfl ?_
      refine tk_goto dX11_mark_105 ?_
      simp only [va_up_self, bx_uu, tk_une, tk_usrt, not_false_eq_true, Nat.reduceEqDiff, Nat.reduceLT, Nat.reduceAdd, Nat.reduceMul, Nat.reduceLeDiff, reduceCtorEq]
      rw [tkco_s (I 55) (I 42)]
      exact k _ (by repeat' (first | exact trivial | refine ⟨Or.inl rfl, ?_⟩ | refine ⟨Or.inr rfl, ?_⟩))
theorem r_mark (hR : tkRef T P) {m kk : Nat} (hkk : kk ≤ 12) (hk : I 40 20 = nI kk) (hm6 : m ≤ 6) (hm : I 41 6 = nI m) : tkM G mX11_mark 3 0 0 [vR 40] (n, T, I, L, P) (rPst n T I L P (rMaC I) (nI m) (rMk (rKp I kk) m)) := by
  refine tkM.of (ls := [some _, none, none]) (by decide +kernel) (by decide +kernel) (Nat.le_of_ble_eq_true rfl) rfl ?_
  refine tk_aload0 dX11_mark_0 ?_
  refine tk_getP dX11_mark_1 fX11_7 rfl hR.o (hR.p 0 rfl) ?_
  refine tk_bipush dX11_mark_4 kc_bipush_6 ?_
  refine tk_iald dX11_mark_6 (hR.t 41 rfl) (by omega) (by omega) ?_
  rw [hm]
  refine tk_bipush dX11_mark_7 kc_bipush_6 ?_
  first | refine tk_icmp_neN dX11_mark_9 (by omega) (by omega) (fun h9 => ?_) (fun h9 => ?_) | refine tk_icmp_ne dX11_mark_9 (fun h9 => ?_) (fun h9 => ?_)
  · refine tk_aload0 dX11_mark_19 ?_
    rw [show rMaC I = none from if_neg (by rw [hm]; exact fun e => h9 ((nI_eq (by omega) (by omega)).mp e))]
    refine tk_callV0y dX11_mark_20 kX11_184 hR.o (r_keep hR hkk hk) (Nat.le_of_ble_eq_true rfl) (by omega) ?_
    exact r_markL hR (by omega) (by simp only [rKp_at, va_up_self, bx_uu, tk_une, tk_usrt, not_false_eq_true, Nat.reduceEqDiff, Nat.reduceLT, Nat.reduceAdd, Nat.reduceMul, Nat.reduceLeDiff, reduceCtorEq]; exact hm)
  · refine tk_aload0 dX11_mark_12 ?_
    refine tk_ldc dX11_mark_13 klX11_200 ?_
    refine tk_callV1z dX11_mark_15 kX11_179 hR.o (r_finding hR _) (Nat.le_of_ble_eq_true rfl) (by omega) ?_
    refine tk_ireturn dX11_mark_18 rfl ?_
    exact rPst_f (if_pos (by rw [hm, h9]))
theorem r_writeL (hR : tkRef T P) {s t l : Nat} (hs : s ≤ 5) (ht : t ≤ 3) (hl : I 62 t = nI l) (hl2 : l ≤ 14) {a : Option tkV} : tkX G mX11_write 3 0 0 83 [some (vR 40), some (vI (nI s)), some (vI (nI t)), a] [] (n, T, I, L, P) (tkF (some (vI (nI l))) (n, T, va_up (va_up I 47 (tkco (I 47) (fun i => I 63 (14 * t + i)) (14 * s) l)) 48 (va_up (I 48) s (nI l)), L, P)) := by
  refine tk_iconst dX11_write_83 kc_iconst_0 ?_
  refine tk_istore3 dX11_write_84 rfl ?_
  refine tk_fr 0 l (fun i => [some (vR 40), some (vI (nI s)), some (vI (nI t)), some (vI (nI i))]) (fun i => (n, T, va_up I 47 (tkco (I 47) (fun i => I 63 (14 * t + i)) (14 * s) i), L, P)) (by omega) (by repeat' (first | exact trivial | refine ⟨Or.inl rfl, ?_⟩ | refine ⟨Or.inr rfl, ?_⟩)) (by rw [tkco_0, tk_up_id]) ?_ ?_
  · refine tk_iload3 dX11_write_85 ?_
    refine tk_aload0 dX11_write_86 ?_
    refine tk_getP dX11_write_87 fX11_74 rfl hR.o (hR.p 22 rfl) ?_
    refine tk_iload2 dX11_write_90 ?_
    refine tk_iald dX11_write_91 (hR.t 62 rfl) (by omega) (by omega) ?_
    simp only [va_up_self, bx_uu, tk_une, tk_usrt, not_false_eq_true, Nat.reduceEqDiff, Nat.reduceLT, Nat.reduceAdd, Nat.reduceMul, Nat.reduceLeDiff, reduceCtorEq, hl]
    first | refine tk_icmp_geN dX11_write_92 (by omega) (by omega) (fun h92 => ?_) (fun h92 => ?_) | refine tk_jcmp_ge dX11_write_92 (fun h92 => ?_) (fun h92 => ?_)
    · refine tk_aload0 dX11_write_123 ?_
      refine tk_getP dX11_write_124 fX11_31 rfl hR.o (hR.p 7 rfl) ?_
      refine tk_iload1 dX11_write_127 ?_
      refine tk_aload0 dX11_write_128 ?_
      refine tk_getP dX11_write_129 fX11_74 rfl hR.o (hR.p 22 rfl) ?_
      refine tk_iload2 dX11_write_132 ?_
      refine tk_iald dX11_write_133 (hR.t 62 rfl) (by omega) (by omega) ?_
      simp only [va_up_self, bx_uu, tk_une, tk_usrt, not_false_eq_true, Nat.reduceEqDiff, Nat.reduceLT, Nat.reduceAdd, Nat.reduceMul, Nat.reduceLeDiff, reduceCtorEq, hl]
      refine tk_iast dX11_write_134 (hR.t 48 rfl) (by omega) (by omega) ?_
      refine tk_aload0 dX11_write_135 ?_
      refine tk_getP dX11_write_136 fX11_31 rfl hR.o (hR.p 7 rfl) ?_
      refine tk_iload1 dX11_write_139 ?_
      refine tk_iald dX11_write_140 (hR.t 48 rfl) (by omega) (by omega) ?_
      refine tk_ireturn dX11_write_141 rfl ?_
      simp only [va_up_self, bx_uu, tk_une, tk_usrt, not_false_eq_true, Nat.reduceEqDiff, Nat.reduceLT, Nat.reduceAdd, Nat.reduceMul, Nat.reduceLeDiff, reduceCtorEq]
      exact ⟨rfl, rfl⟩
    · exfalso; omega
  · intro i _ hi k
    refine tk_iload3 dX11_write_85 ?_
    refine tk_aload0 dX11_write_86 ?_
    refine tk_getP dX11_write_87 fX11_74 rfl hR.o (hR.p 22 rfl) ?_
    refine tk_iload2 dX11_write_90 ?_
    refine tk_iald dX11_write_91 (hR.t 62 rfl) (by omega) (by omega) ?_
    simp only [va_up_self, bx_uu, tk_une, tk_usrt, not_false_eq_true, Nat.reduceEqDiff, Nat.reduceLT, Nat.reduceAdd, Nat.reduceMul, Nat.reduceLeDiff, reduceCtorEq, hl]
    first | refine tk_icmp_geN dX11_write_92 (by omega) (by omega) (fun h92 => ?_) (fun h92 => ?_) | refine tk_jcmp_ge dX11_write_92 (fun h92 => ?_) (fun h92 => ?_)
    · exfalso; omega
    · refine tk_aload0 dX11_write_95 ?_
      refine tk_getP dX11_write_96 fX11_28 rfl hR.o (hR.p 6 rfl) ?_
      refine tk_bipush dX11_write_99 kc_bipush_14 ?_
      refine tk_iload1 dX11_write_101 ?_
      first | refine tk_imulN dX11_write_102 ?_ | refine tk_imul dX11_write_102 ?_
      refine tk_iload3 dX11_write_103 ?_
      first | refine tk_iaddN dX11_write_104 ?_ | refine tk_iadd dX11_write_104 ?_
      refine tk_aload0 dX11_write_105 ?_
      refine tk_getP dX11_write_106 fX11_77 rfl hR.o (hR.p 23 rfl) ?_
      refine tk_bipush dX11_write_109 kc_bipush_14 ?_
      refine tk_iload2 dX11_write_111 ?_
      first | refine tk_imulN dX11_write_112 ?_ | refine tk_imul dX11_write_112 ?_
      refine tk_iload3 dX11_write_113 ?_
      first | refine tk_iaddN dX11_write_114 ?_ | refine tk_iadd dX11_write_114 ?_
      refine tk_iald dX11_write_115 (hR.t 63 rfl) (by omega) (by omega) ?_
      refine tk_iast dX11_write_116 (hR.t 47 rfl) (by omega) (by omega) ?_
      first | refine tk_iinc3 dX11_write_117 (kc_inc _) rfl ?_ | refine tk_iinc3 dX11_write_117 rfl rfl ?_
      refine tk_goto dX11_write_120 ?_
      simp only [va_up_self, bx_uu, tk_une, tk_usrt, not_false_eq_true, Nat.reduceEqDiff, Nat.reduceLT, Nat.reduceAdd, Nat.reduceMul, Nat.reduceLeDiff, reduceCtorEq]
      rw [tkco_s (I 47) (fun i => I 63 (14 * t + i))]
      exact k _ (by repeat' (first | exact trivial | refine ⟨Or.inl rfl, ?_⟩ | refine ⟨Or.inr rfl, ?_⟩))
theorem r_write (hR : tkRef T P) {m : Nat} (hm : m ≤ 12) (hk : I 40 20 = nI m) (hz : rSz I) (s t : Int32) : tkM G mX11_write 3 0 0 [vR 40, vI s, vI t] (n, T, I, L, P) (rPst n T I L P (rWrC I s t) (I 62 (ix t)) (va_up (va_up (rKp I m) 47 (tkco (I 47) (fun i => I 63 (14 * ix t + i)) (14 * ix s) (ix (I 62 (ix t))))) 48 (va_up (I 48) (ix s) (I 62 (ix t))))) := by
  refine tkM.of (ls := [some _, some _, some _, none]) (by decide +kernel) (by decide +kernel) (Nat.le_of_ble_eq_true rfl) rfl ?_
  refine tk_iload1 dX11_write_0 ?_
  refine tk_callS1z dX11_write_1 kX11_194 (r_isSentence _) (Nat.le_of_ble_eq_true rfl) (by omega) ?_
  first | refine tk_jf_eqB dX11_write_4 (fun h4 => ?_) (fun h4 => ?_) | refine tk_if_eq dX11_write_4 (fun h4 => ?_) (fun h4 => ?_)
  · refine tk_aload0 dX11_write_14 ?_
    refine tk_ldc dX11_write_15 klX11_183 ?_
    refine tk_callV1z dX11_write_17 kX11_179 hR.o (r_finding hR _) (Nat.le_of_ble_eq_true rfl) (by omega) ?_
    refine tk_ireturn dX11_write_20 rfl ?_
    first | exact rPst_f (by unfold rWrC; rw [h4]; rfl) | exact rPst_f (by unfold rWrC; rw [h4, h11]; rfl) | exact rPst_f (by unfold rWrC; rw [h4, h11, if_pos (show (true && true) = true from rfl), hixt, if_pos h27])
  · refine tk_iload2 dX11_write_7 ?_
    refine tk_callS1z dX11_write_8 kX11_201 (r_isSheet _) (Nat.le_of_ble_eq_true rfl) (by omega) ?_
    first | refine tk_jf_neB dX11_write_11 (fun h11 => ?_) (fun h11 => ?_) | refine tk_if_ne dX11_write_11 (fun h11 => ?_) (fun h11 => ?_)
    · refine tk_aload0 dX11_write_21 ?_
      obtain ⟨s', hs1, rfl⟩ := rIn_of h4 (by omega)
      obtain ⟨t', ht1, rfl⟩ := rIn_of h11 (by omega)
      have hixs : ix (nI s') = s' := ix_nI (by omega)
      have hixt : ix (nI t') = t' := ix_nI (by omega)
      obtain ⟨l, hl1, hl2⟩ := hz t' (by omega)
      have hil : ix (nI l) = l := ix_nI (by omega)
      refine tk_getP dX11_write_22 fX11_71 rfl hR.o (hR.p 21 rfl) ?_
      refine tk_iload2 dX11_write_25 ?_
      refine tk_iald dX11_write_26 (hR.t 61 rfl) (by omega) (by omega) ?_
      first | refine tk_jf_neB dX11_write_27 (fun h27 => ?_) (fun h27 => ?_) | refine tk_if_ne dX11_write_27 (fun h27 => ?_) (fun h27 => ?_)
      · refine tk_iconst dX11_write_37 kc_iconst_0 ?_
        refine tk_istore3 dX11_write_38 rfl ?_
        have hc : rWrC I (nI s') (nI t') = (if rAS (fun i => I 63 (14 * t' + i)) l 0 then none else some (-100001)) := by unfold rWrC; rw [h4, h11, if_pos (show (true && true) = true from rfl), hixt, if_neg h27, hl2, hil]
        rw [hc, hixs, hixt, hl2, hil]
        have loop : ∀ (k i : Nat), i + k = l → rAS (fun i => I 63 (14 * t' + i)) l 0 = rAS (fun i => I 63 (14 * t' + i)) k i → tkX G mX11_write 3 0 0 39 [some (vR 40), some (vI (nI s')), some (vI (nI t')), some (vI (nI i))] [] (n, T, I, L, P) (rPst n T I L P (if rAS (fun i => I 63 (14 * t' + i)) l 0 then none else some (-100001)) (nI l) (va_up (va_up (rKp I m) 47 (tkco (I 47) (fun i => I 63 (14 * t' + i)) (14 * s') l)) 48 (va_up (I 48) s' (nI l)))) := by
          intro k
          induction k with
          | zero =>
            intro i e h5
            refine tk_iload3 dX11_write_39 ?_
            refine tk_aload0 dX11_write_40 ?_
            refine tk_getP dX11_write_41 fX11_74 rfl hR.o (hR.p 22 rfl) ?_
            refine tk_iload2 dX11_write_44 ?_
            refine tk_iald dX11_write_45 (hR.t 62 rfl) (by omega) (by omega) ?_
            rw [hl2]
            first | refine tk_icmp_geN dX11_write_46 (by omega) (by omega) (fun h46 => ?_) (fun h46 => ?_) | refine tk_jcmp_ge dX11_write_46 (fun h46 => ?_) (fun h46 => ?_)
            · refine tk_aload0 dX11_write_79 ?_
              rw [h5, show rAS (fun i => I 63 (14 * t' + i)) 0 i = true from rfl, if_pos rfl]
              refine tk_callV0y dX11_write_80 kX11_184 hR.o (r_keep hR hm hk) (Nat.le_of_ble_eq_true rfl) (by omega) ?_
              have q := r_writeL (G := G) (n := n) (T := T) (L := L) (P := P) (a := some (vI (nI i))) (I := rKp I m) hR (s := s') (t := t') (l := l) (by omega) (by omega) (by simp only [rKp_at, va_up_self, bx_uu, tk_une, tk_usrt, not_false_eq_true, Nat.reduceEqDiff, Nat.reduceLT, Nat.reduceAdd, Nat.reduceMul, Nat.reduceLeDiff, reduceCtorEq]; exact hl2) hl1
              simp only [rKp_at, va_up_self, bx_uu, tk_une, tk_usrt, not_false_eq_true, Nat.reduceEqDiff, Nat.reduceLT, Nat.reduceAdd, Nat.reduceMul, Nat.reduceLeDiff, reduceCtorEq] at q
              exact q
            · exfalso; omega
          | succ k ih =>
            intro i e h5
            refine tk_iload3 dX11_write_39 ?_
            refine tk_aload0 dX11_write_40 ?_
            refine tk_getP dX11_write_41 fX11_74 rfl hR.o (hR.p 22 rfl) ?_
            refine tk_iload2 dX11_write_44 ?_
            refine tk_iald dX11_write_45 (hR.t 62 rfl) (by omega) (by omega) ?_
            rw [hl2]
            first | refine tk_icmp_geN dX11_write_46 (by omega) (by omega) (fun h46 => ?_) (fun h46 => ?_) | refine tk_jcmp_ge dX11_write_46 (fun h46 => ?_) (fun h46 => ?_)
            · exfalso; omega
            · refine tk_aload0 dX11_write_49 ?_
              refine tk_getP dX11_write_50 fX11_77 rfl hR.o (hR.p 23 rfl) ?_
              refine tk_bipush dX11_write_53 kc_bipush_14 ?_
              refine tk_iload2 dX11_write_55 ?_
              first | refine tk_imulN dX11_write_56 ?_ | refine tk_imul dX11_write_56 ?_
              refine tk_iload3 dX11_write_57 ?_
              first | refine tk_iaddN dX11_write_58 ?_ | refine tk_iadd dX11_write_58 ?_
              refine tk_iald dX11_write_59 (hR.t 63 rfl) (by omega) (by omega) ?_
              refine tk_callS1z dX11_write_60 kX11_197 (r_isSign _) (Nat.le_of_ble_eq_true rfl) (by omega) ?_
              first | refine tk_jf_neB dX11_write_63 (fun h63 => ?_) (fun h63 => ?_) | refine tk_if_ne dX11_write_63 (fun h63 => ?_) (fun h63 => ?_)
              · first | refine tk_iinc3 dX11_write_73 (kc_inc _) rfl ?_ | refine tk_iinc3 dX11_write_73 rfl rfl ?_
                refine tk_goto dX11_write_76 ?_
                exact ih (i + 1) (by omega) (by rw [h5, rAS_s, h63]; rfl)
              · refine tk_aload0 dX11_write_66 ?_
                refine tk_ldc dX11_write_67 klX11_183 ?_
                refine tk_callV1z dX11_write_69 kX11_179 hR.o (r_finding hR _) (Nat.le_of_ble_eq_true rfl) (by omega) ?_
                refine tk_ireturn dX11_write_72 rfl ?_
                exact rPst_f (by rw [h5, rAS_s, h63]; rfl)
        exact loop l 0 (by omega) rfl
      · refine tk_aload0 dX11_write_30 ?_
        refine tk_ldc dX11_write_31 klX11_204 ?_
        refine tk_callV1z dX11_write_33 kX11_179 hR.o (r_finding hR _) (Nat.le_of_ble_eq_true rfl) (by omega) ?_
        refine tk_ireturn dX11_write_36 rfl ?_
        first | exact rPst_f (by unfold rWrC; rw [h4]; rfl) | exact rPst_f (by unfold rWrC; rw [h4, h11]; rfl) | exact rPst_f (by unfold rWrC; rw [h4, h11, if_pos (show (true && true) = true from rfl), hixt, if_pos h27])
    · refine tk_aload0 dX11_write_14 ?_
      refine tk_ldc dX11_write_15 klX11_183 ?_
      refine tk_callV1z dX11_write_17 kX11_179 hR.o (r_finding hR _) (Nat.le_of_ble_eq_true rfl) (by omega) ?_
      refine tk_ireturn dX11_write_20 rfl ?_
      first | exact rPst_f (by unfold rWrC; rw [h4]; rfl) | exact rPst_f (by unfold rWrC; rw [h4, h11]; rfl) | exact rPst_f (by unfold rWrC; rw [h4, h11, if_pos (show (true && true) = true from rfl), hixt, if_pos h27])
end REFJ
