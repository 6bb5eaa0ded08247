/-! ===== the reference: lie, refuses ===== -/
def rLiC (I : Nat → Nat → Int32) (kw : Bool) (p s : Int32) : Option Int32 := if rPer (I 41 0) p && rIn s (nI 0) (nI 5) then (if rRt I s && !rBel (fun i => I 47 (14 * ix s + i)) (ix (I 48 (ix s))) then (if rFs (fun i => I 47 (14 * ix s + i)) (ix (I 48 (ix s))) &&& I 46 (ix p) = 0 then (if kw then some (-100009) else if I 41 4 = nI 5 then some (-100005) else none) else some (-100008)) else some (-100004)) else some (-100001)
/-- behind a lie of sentence s, of l signs, the claim c -/
def rLi (I : Nat → Nat → Int32) (s l c : Nat) : Nat → Nat → Int32 := va_up (va_up (va_up I 41 (va_up (I 41) 4 (nI (c + 1)))) 49 (tkco (I 49) (fun i => I 47 (14 * s + i)) (14 * c) l)) 50 (va_up (I 50) c (nI l))
section REFS
variable {G : tkG} {n : Nat} {T : Nat → Nat × Nat} {I : Nat → Nat → Int32} {L : Nat → Nat → Int64} {P : Nat → Nat → Option Nat}
theorem tk_post {G : tkG} {C : tkC} {d mc ms pc : Nat} {ls : List (Option tkV)} {st : List tkV} {h : tkH} {Q Q' : Option tkV → tkH → Prop} (hq : ∀ r h', Q r h' → Q' r h') (k : tkX G C d mc ms pc ls st h Q) : tkX G C d mc ms pc ls st h Q' := by
  refine tkX_i ?_
  intro p l e R s m args below meth c H locs cells slots Z LS A LL Rp
  obtain ⟨E, hF, MC, MS, hB1, hB2, hB3, hB4, hB5⟩ := A
  exact tkX_e k p l e R s m args below meth c H locs cells slots Z LS ⟨E, hF, MC, MS, hB1, hB2, hB3, hB4, fun r h' H' locs' cells' slots' LS' pc' a1 a2 a3 => hB5 r h' H' locs' cells' slots' LS' pc' a1 a2 (hq r h' a3)⟩ LL Rp
theorem r_knowingT (hR : tkRef T P) {np nf W r cn : Nat} {cl : Nat → Nat} (hT : TH I np nf W r cn cl) {p s : Nat} (hp : p < 4) (hs : s < 6) (hrt : rRt I (nI s) = true) : tkM G mX11_knowing 35 0 0 [vR 40, vI (nI p), vI (nI s)] (n, T, rVT I, va_up L 66 (vwB I L np W), P) (tkF (some (vL (rKs (vwB I L np W) W p (soT I L np W cn cl s)))) (n, T, rVT I, va_up L 66 (vwB I L np W), P)) := by
  obtain ⟨l, l1, l2, l3, l4, -⟩ := hT.right hs hrt
  have := r_knowing (G := G) (n := n) (L := va_up L 66 (vwB I L np W)) hR hT.vh hp hs (show rVT I 48 s = nI l by rw [rVT_at (by omega)]; exact l1) l2 l3 (by rw [rVT_at (by omega)]; exact l4)
  unfold soT
  rw [l1, ix_nI (by omega)]
  simp only [va_up_self] at this
  rw [rVT_at (a := 47) (by omega)] at this
  exact this
theorem r_lieL (hR : tkRef T P) {s l c : Nat} {a1 a3 a4 : Option tkV} (hs : s < 6) (hl2 : I 48 s = nI l) (hl : l ≤ 14) (hc : I 41 4 = nI c) (hc5 : c < 5) (ha : tkNL a1 = true) : tkX G mX11_lie 36 0 0 119 [some (vR 40), a1, some (vI (nI s)), a3, a4] [] (n, T, I, L, P) (tkF (some (vI (nI c))) (n, T, rLi I s l c, L, P)) := by
  unfold rLi
  refine tk_aload0 dX11_lie_119 ?_
  refine tk_getP dX11_lie_120 fX11_7 rfl hR.o (hR.p 0 rfl) ?_
  refine tk_iconst dX11_lie_123 kc_iconst_4 ?_
  refine tk_iald dX11_lie_124 (hR.t 41 rfl) (by omega) (by omega) ?_
  rw [hc]
  refine tk_istore3 dX11_lie_125 rfl ?_
  refine tk_iconst dX11_lie_126 kc_iconst_0 ?_
  refine tk_istore4 dX11_lie_127 rfl ?_
  refine tk_fr 0 l (fun i => [some (vR 40), none, some (vI (nI s)), some (vI (nI c)), some (vI (nI i))]) (fun i => (n, T, va_up I 49 (tkco (I 49) (fun i => I 47 (14 * s + i)) (14 * c) i), L, P)) (by omega) (by repeat' (first | exact trivial | refine ⟨Or.inl rfl, ?_⟩ | refine ⟨Or.inr rfl, ?_⟩)) (by rw [tkco_0, tk_up_id]) ?_ ?_
  · refine tk_iload4 dX11_lie_129 ?_
    refine tk_aload0 dX11_lie_131 ?_
    refine tk_getP dX11_lie_132 fX11_31 rfl hR.o (hR.p 7 rfl) ?_
    refine tk_iload2 dX11_lie_135 ?_
    refine tk_iald dX11_lie_136 (hR.t 48 rfl) (by omega) (by omega) ?_
    simp only [va_up_self, bx_uu, tk_une, tk_usrt, not_false_eq_true, Nat.reduceEqDiff, Nat.reduceLT, Nat.reduceAdd, Nat.reduceMul, Nat.reduceLeDiff, reduceCtorEq, hl2]
    first | refine tk_icmp_geN dX11_lie_137 (by omega) (by omega) (fun h137 => ?_) (fun h137 => ?_) | refine tk_jcmp_ge dX11_lie_137 (fun h137 => ?_) (fun h137 => ?_)
    · refine tk_aload0 dX11_lie_170 ?_
      refine tk_getP dX11_lie_171 fX11_37 rfl hR.o (hR.p 9 rfl) ?_
      refine tk_iload3 dX11_lie_174 ?_
      refine tk_aload0 dX11_lie_175 ?_
      refine tk_getP dX11_lie_176 fX11_31 rfl hR.o (hR.p 7 rfl) ?_
      refine tk_iload2 dX11_lie_179 ?_
      refine tk_iald dX11_lie_180 (hR.t 48 rfl) (by omega) (by omega) ?_
      simp only [va_up_self, bx_uu, tk_une, tk_usrt, not_false_eq_true, Nat.reduceEqDiff, Nat.reduceLT, Nat.reduceAdd, Nat.reduceMul, Nat.reduceLeDiff, reduceCtorEq, hl2]
      refine tk_iast dX11_lie_181 (hR.t 50 rfl) (by omega) (by omega) ?_
      refine tk_aload0 dX11_lie_182 ?_
      refine tk_getP dX11_lie_183 fX11_7 rfl hR.o (hR.p 0 rfl) ?_
      refine tk_iconst dX11_lie_186 kc_iconst_4 ?_
      first | refine tk_dup2 dX11_lie_187 rfl rfl ?_ | refine tk_dup2L dX11_lie_187 ?_
      refine tk_iald dX11_lie_188 (hR.t 41 rfl) (by omega) (by omega) ?_
      simp only [va_up_self, bx_uu, tk_une, tk_usrt, not_false_eq_true, Nat.reduceEqDiff, Nat.reduceLT, Nat.reduceAdd, Nat.reduceMul, Nat.reduceLeDiff, reduceCtorEq, hc]
      refine tk_iconst dX11_lie_189 kc_iconst_1 ?_
      first | refine tk_iaddN dX11_lie_190 ?_ | refine tk_iadd dX11_lie_190 ?_
      refine tk_iast dX11_lie_191 (hR.t 41 rfl) (by omega) (by omega) ?_
      refine tk_iload3 dX11_lie_192 ?_
      refine tk_ireturn dX11_lie_193 rfl ?_
      simp only [va_up_self, bx_uu, tk_une, tk_usrt, not_false_eq_true, Nat.reduceEqDiff, Nat.reduceLT, Nat.reduceAdd, Nat.reduceMul, Nat.reduceLeDiff, reduceCtorEq]
      exact ⟨rfl, rfl⟩
    · exfalso; omega
  · intro i _ hi k
    refine tk_iload4 dX11_lie_129 ?_
    refine tk_aload0 dX11_lie_131 ?_
    refine tk_getP dX11_lie_132 fX11_31 rfl hR.o (hR.p 7 rfl) ?_
    refine tk_iload2 dX11_lie_135 ?_
    refine tk_iald dX11_lie_136 (hR.t 48 rfl) (by omega) (by omega) ?_
    simp only [va_up_self, bx_uu, tk_une, tk_usrt, not_false_eq_true, Nat.reduceEqDiff, Nat.reduceLT, Nat.reduceAdd, Nat.reduceMul, Nat.reduceLeDiff, reduceCtorEq, hl2]
    first | refine tk_icmp_geN dX11_lie_137 (by omega) (by omega) (fun h137 => ?_) (fun h137 => ?_) | refine tk_jcmp_ge dX11_lie_137 (fun h137 => ?_) (fun h137 => ?_)
    · exfalso; omega
    · refine tk_aload0 dX11_lie_140 ?_
      refine tk_getP dX11_lie_141 fX11_34 rfl hR.o (hR.p 8 rfl) ?_
      refine tk_bipush dX11_lie_144 kc_bipush_14 ?_
      refine tk_iload3 dX11_lie_146 ?_
      first | refine tk_imulN dX11_lie_147 ?_ | refine tk_imul dX11_lie_147 ?_
      refine tk_iload4 dX11_lie_148 ?_
      first | refine tk_iaddN dX11_lie_150 ?_ | refine tk_iadd dX11_lie_150 ?_
      refine tk_aload0 dX11_lie_151 ?_
      refine tk_getP dX11_lie_152 fX11_28 rfl hR.o (hR.p 6 rfl) ?_
      refine tk_bipush dX11_lie_155 kc_bipush_14 ?_
      refine tk_iload2 dX11_lie_157 ?_
      first | refine tk_imulN dX11_lie_158 ?_ | refine tk_imul dX11_lie_158 ?_
      refine tk_iload4 dX11_lie_159 ?_
      first | refine tk_iaddN dX11_lie_161 ?_ | refine tk_iadd dX11_lie_161 ?_
      refine tk_iald dX11_lie_162 (hR.t 47 rfl) (by omega) (by omega) ?_
      refine tk_iast dX11_lie_163 (hR.t 49 rfl) (by omega) (by omega) ?_
      first | refine tk_iinc4 dX11_lie_164 (kc_inc _) rfl ?_ | refine tk_iinc4 dX11_lie_164 rfl rfl ?_
      refine tk_goto dX11_lie_167 ?_
      simp only [va_up_self, bx_uu, tk_une, tk_usrt, not_false_eq_true, Nat.reduceEqDiff, Nat.reduceLT, Nat.reduceAdd, Nat.reduceMul, Nat.reduceLeDiff, reduceCtorEq]
      rw [tkco_s (I 49) (fun i => I 47 (14 * s + i))]
      exact k _ (by repeat' (first | exact trivial | refine ⟨Or.inl rfl, ?_⟩ | refine ⟨Or.inr rfl, ?_⟩))
theorem r_lie (hR : tkRef T P) {np nf W r cn kk : Nat} {cl : Nat → Nat} (hT : TH I np nf W r cn cl) (hkk : kk ≤ 12) (hk : I 40 20 = nI kk) (p s : Int32) : tkM G mX11_lie 36 0 0 [vR 40, vI p, vI s] (n, T, I, L, P) (rPm n T P L I (rLiC I (tb (rKs (vwB I L np W) W (ix p) (soT I L np W cn cl (ix s))) r) p s) (nI cn) (rLi (rKp (rVT I) kk) (ix s) (ix (I 48 (ix s))) cn)) := by
  have hT' := hT
  obtain ⟨t1, t2, t3, t4, t5, t6, t7, t8, t9, t10, t11, t12, t13, t14, t15⟩ := hT'
  have hvr : rVT I 40 27 = nI r := by rw [rVT_40]; simp only [va_up_self, bx_uu, tk_une, tk_usrt, not_false_eq_true, Nat.reduceEqDiff, Nat.reduceLT, Nat.reduceAdd, Nat.reduceMul, Nat.reduceLeDiff, reduceCtorEq]; exact t10
  refine tkM.of (ls := [some _, some _, some _, none, none]) (by decide +kernel) (by decide +kernel) (Nat.le_of_ble_eq_true rfl) rfl ?_
  refine tk_aload0 dX11_lie_0 ?_
  refine tk_iload1 dX11_lie_1 ?_
  refine tk_callV1z dX11_lie_2 kX11_187 hR.o (r_isPerson hR _) (Nat.le_of_ble_eq_true rfl) (by omega) ?_
  first | refine tk_jf_eqB dX11_lie_5 (fun h5 => ?_) (fun h5 => ?_) | refine tk_if_eq dX11_lie_5 (fun h5 => ?_) (fun h5 => ?_)
  · refine tk_aload0 dX11_lie_15 ?_
    refine tk_ldc dX11_lie_16 klX11_183 ?_
    refine tk_callV1z dX11_lie_18 kX11_179 hR.o (r_finding hR _) (Nat.le_of_ble_eq_true rfl) (by omega) ?_
    refine tk_ireturn dX11_lie_21 rfl ?_
    exact rPm_f (by unfold rLiC; first | (rw [h5]; rfl) | (rw [h5, h12]; rfl)) rSm.rf rLm.rf
  · refine tk_iload2 dX11_lie_8 ?_
    refine tk_callS1z dX11_lie_9 kX11_194 (r_isSentence _) (Nat.le_of_ble_eq_true rfl) (by omega) ?_
    first | refine tk_jf_neB dX11_lie_12 (fun h12 => ?_) (fun h12 => ?_) | refine tk_if_ne dX11_lie_12 (fun h12 => ?_) (fun h12 => ?_)
    · refine tk_aload0 dX11_lie_22 ?_
      obtain ⟨p', hp1, rfl⟩ := rPe_of h5 t1 (by omega)
      obtain ⟨s', hs1, rfl⟩ := rIn_of h12 (by omega)
      have hixs : ix (nI s') = s' := ix_nI (by omega)
      have hixp : ix (nI p') = p' := ix_nI (by omega)
      obtain ⟨l, hl1, hl2⟩ := hT.ls s' (by omega)
      have hil : ix (nI l) = l := ix_nI (by omega)
      have es : rRt I (nI s') = decide (rW (fun i => I 47 (14 * s' + i)) (I 41 0) (I 41 1) l 0 (nI 0) < 0) := by unfold rRt; rw [hixs, hl2, ix_nI (by omega)]
      rw [hixs, hixp, hl2, hil]
      have hc0 : ∀ kw, rLiC I kw (nI p') (nI s') = (if rRt I (nI s') && !rBel (fun i => I 47 (14 * s' + i)) l then (if rFs (fun i => I 47 (14 * s' + i)) l &&& I 46 p' = 0 then (if kw then some (-100009) else if I 41 4 = nI 5 then some (-100005) else none) else some (-100008)) else some (-100004)) := by intro kw; unfold rLiC; rw [h5, h12, if_pos (show (true && true) = true from rfl), hixs, hixp, hl2, hil]
      rw [hc0, es]
      refine tk_iload2 dX11_lie_23 ?_
      refine tk_callV1z dX11_lie_24 kX11_291 hR.o (r_isRight hR (by omega) hl2 hl1) (Nat.le_of_ble_eq_true rfl) (by omega) ?_
      first | refine tk_jf_eqB dX11_lie_27 (fun h27 => ?_) (fun h27 => ?_) | refine tk_if_eq dX11_lie_27 (fun h27 => ?_) (fun h27 => ?_)
      · refine tk_aload0 dX11_lie_38 ?_
        refine tk_ldc dX11_lie_39 klX11_208 ?_
        refine tk_callV1z dX11_lie_41 kX11_179 hR.o (r_finding hR _) (Nat.le_of_ble_eq_true rfl) (by omega) ?_
        refine tk_ireturn dX11_lie_44 rfl ?_
        exact rPm_f (by first | (rw [h27]; rfl) | (rw [h27, h35]; rfl)) rSm.rf rLm.rf
      · refine tk_aload0 dX11_lie_30 ?_
        refine tk_iload2 dX11_lie_31 ?_
        refine tk_callV1z dX11_lie_32 kX11_320 hR.o (r_believes hR (by omega) hl2 hl1) (Nat.le_of_ble_eq_true rfl) (by omega) ?_
        first | refine tk_jf_eqB dX11_lie_35 (fun h35 => ?_) (fun h35 => ?_) | refine tk_if_eq dX11_lie_35 (fun h35 => ?_) (fun h35 => ?_)
        · refine tk_aload0 dX11_lie_45 ?_
          refine tk_iload2 dX11_lie_46 ?_
          refine tk_callV1z dX11_lie_47 kX11_295 hR.o (r_factsIn hR (by omega) hl2 hl1) (Nat.le_of_ble_eq_true rfl) (by omega) ?_
          refine tk_aload0 dX11_lie_50 ?_
          refine tk_getP dX11_lie_51 fX11_25 rfl hR.o (hR.p 5 rfl) ?_
          refine tk_iload1 dX11_lie_54 ?_
          refine tk_iald dX11_lie_55 (hR.t 46 rfl) (by omega) (by omega) ?_
          refine tk_iand dX11_lie_56 ?_
          first | refine tk_jf_eqB dX11_lie_57 (fun h57 => ?_) (fun h57 => ?_) | refine tk_if_eq dX11_lie_57 (fun h57 => ?_) (fun h57 => ?_)
          · refine tk_aload0 dX11_lie_68 ?_
            refine tk_callV0y dX11_lie_69 kX11_275 hR.o (r_viewTown hR t1 t3 t7 t9) (Nat.le_of_ble_eq_true rfl) (by omega) ?_
            refine tk_aload0 dX11_lie_72 ?_
            refine tk_iload1 dX11_lie_73 ?_
            refine tk_iload2 dX11_lie_74 ?_
            refine tk_callV2z dX11_lie_75 kX11_316 hR.o (r_knowingT hR hT (by omega) (by omega) (es.trans h27)) (Nat.le_of_ble_eq_true rfl) (by omega) ?_
            refine tk_aload0 dX11_lie_78 ?_
            refine tk_getI dX11_lie_79 fX11_220 rfl hR.o ?_
            rw [hvr]
            refine tk_lshr dX11_lie_82 ?_
            refine tk_lconst dX11_lie_83 (v := 1) (by decide) ?_
            refine tk_land dX11_lie_84 ?_
            refine tk_lconst dX11_lie_85 (v := 1) (by decide) ?_
            refine tk_lcmp dX11_lie_86 ?_
            first | refine tk_jf_neB dX11_lie_87 (fun h87 => ?_) (fun h87 => ?_) | refine tk_if_ne dX11_lie_87 (fun h87 => ?_) (fun h87 => ?_)
            · refine tk_aload0 dX11_lie_98 ?_
              refine tk_getP dX11_lie_99 fX11_7 rfl hR.o (hR.p 0 rfl) ?_
              refine tk_iconst dX11_lie_102 kc_iconst_4 ?_
              refine tk_iald dX11_lie_103 (hR.t 41 rfl) (by omega) (by omega) ?_
              rw [rVT_at (a := 41) (by omega)]
              refine tk_iconst dX11_lie_104 kc_iconst_5 ?_
              first | refine tk_icmp_neN dX11_lie_105 (by omega) (by omega) (fun h105 => ?_) (fun h105 => ?_) | refine tk_icmp_ne dX11_lie_105 (fun h105 => ?_) (fun h105 => ?_)
              · refine tk_aload0 dX11_lie_115 ?_
                have hcn : ¬ cn = 5 := fun e => h105 (by rw [t12, e])
                refine tk_callV0y dX11_lie_116 kX11_184 hR.o (r_keep hR hkk (by rw [rVT_40]; simp only [va_up_self, bx_uu, tk_une, tk_usrt, not_false_eq_true, Nat.reduceEqDiff, Nat.reduceLT, Nat.reduceAdd, Nat.reduceMul, Nat.reduceLeDiff, reduceCtorEq]; exact hk)) (Nat.le_of_ble_eq_true rfl) (by omega) ?_
                have q := r_lieL (G := G) (n := n) (T := T) (I := rKp (rVT I) kk) (L := va_up L 66 (vwB I L np W)) (P := P) (s := s') (l := l) (c := cn) (a1 := some (vI (nI p'))) (a3 := none) (a4 := none) hR (by omega) (by rw [rKp_at (by decide) (by decide), rVT_at (by omega)]; exact hl2) hl1 (by rw [rKp_at (by decide) (by decide), rVT_at (by omega)]; exact t12) (by omega) rfl
                refine tk_post ?_ q
                rintro r9 h9 ⟨rfl, rfl⟩
                exact rPm_g (by rw [h27, h35, if_pos (show (true && !false) = true from rfl), if_pos h57, if_neg (fun q => h87 ((tb_t1 _ (by omega)).mpr q)), if_neg h105]) rfl rSm.rf (rLm.up (by omega))
              · refine tk_aload0 dX11_lie_108 ?_
                refine tk_ldc dX11_lie_109 klX11_200 ?_
                refine tk_callV1z dX11_lie_111 kX11_179 hR.o (r_finding hR _) (Nat.le_of_ble_eq_true rfl) (by omega) ?_
                refine tk_ireturn dX11_lie_114 rfl ?_
                exact rPm_f (by rw [h27, h35, if_pos (show (true && !false) = true from rfl), if_pos h57, if_neg (fun q => h87 ((tb_t1 _ (by omega)).mpr q)), if_pos h105]) (rSm_VT I) (rLm.up (by omega))
            · refine tk_aload0 dX11_lie_90 ?_
              refine tk_ldcw dX11_lie_91 klX11_307 ?_
              refine tk_callV1z dX11_lie_94 kX11_179 hR.o (r_finding hR _) (Nat.le_of_ble_eq_true rfl) (by omega) ?_
              refine tk_ireturn dX11_lie_97 rfl ?_
              exact rPm_f (by rw [h27, h35, if_pos (show (true && !false) = true from rfl), if_pos h57, if_pos ((tb_t1 _ (by omega)).mp h87)]) (rSm_VT I) (rLm.up (by omega))
          · refine tk_aload0 dX11_lie_60 ?_
            refine tk_ldcw dX11_lie_61 klX11_298 ?_
            refine tk_callV1z dX11_lie_64 kX11_179 hR.o (r_finding hR _) (Nat.le_of_ble_eq_true rfl) (by omega) ?_
            refine tk_ireturn dX11_lie_67 rfl ?_
            exact rPm_f (by rw [h27, h35, if_pos (show (true && !false) = true from rfl), if_neg h57]) rSm.rf rLm.rf
        · refine tk_aload0 dX11_lie_38 ?_
          refine tk_ldc dX11_lie_39 klX11_208 ?_
          refine tk_callV1z dX11_lie_41 kX11_179 hR.o (r_finding hR _) (Nat.le_of_ble_eq_true rfl) (by omega) ?_
          refine tk_ireturn dX11_lie_44 rfl ?_
          exact rPm_f (by first | (rw [h27]; rfl) | (rw [h27, h35]; rfl)) rSm.rf rLm.rf
    · refine tk_aload0 dX11_lie_15 ?_
      refine tk_ldc dX11_lie_16 klX11_183 ?_
      refine tk_callV1z dX11_lie_18 kX11_179 hR.o (r_finding hR _) (Nat.le_of_ble_eq_true rfl) (by omega) ?_
      refine tk_ireturn dX11_lie_21 rfl ?_
      exact rPm_f (by unfold rLiC; first | (rw [h5]; rfl) | (rw [h5, h12]; rfl)) rSm.rf rLm.rf
def rRf (I : Nat → Nat → Int32) (a b s : Int32) (near : Bool) : Option Int32 := if rPer (I 41 0) a && (rPer (I 41 0) b && rIn s (nI 0) (nI 5)) then (if a = b then some (-100003) else if rRt I s then (if near = true ∧ ¬ I 44 (ix a) = I 44 (ix b) then some (-100007) else if rFs (fun i => I 47 (14 * ix s + i)) (ix (I 48 (ix s))) &&& I 46 (ix a) = 0 then none else some (-100008)) else some (-100004)) else some (-100001)
/-- what refuses answers: before the view, or behind it -/
def rRfQ (n : Nat) (T : Nat → Nat × Nat) (P : Nat → Nat → Option Nat) (I : Nat → Nat → Int32) (L : Nat → Nat → Int64) (np W : Nat) (c : Option Int32) (kw : Bool) : Option tkV → tkH → Prop := match c with
  | some f => tkF (some (vI f)) (n, T, I, L, P)
  | none => tkF (some (vI (if kw then nI 0 else (-100009)))) (n, T, rVT I, va_up L 66 (vwB I L np W), P)
theorem rRfQ_f {n : Nat} {T : Nat → Nat × Nat} {P : Nat → Nat → Option Nat} {I : Nat → Nat → Int32} {L : Nat → Nat → Int64} {np W : Nat} {c : Option Int32} {kw : Bool} {f : Int32} (e : c = some f) : rRfQ n T P I L np W c kw (some (vI f)) (n, T, I, L, P) := by subst e; exact ⟨rfl, rfl⟩
theorem r_refuses (hR : tkRef T P) {np nf W r cn : Nat} {cl : Nat → Nat} (hT : TH I np nf W r cn cl) (a b s : Int32) (near : Bool) : tkM G mX11_refuses 35 0 0 [vR 40, vI a, vI b, vI s, vI (tkb near)] (n, T, I, L, P) (rRfQ n T P I L np W (rRf I a b s near) (rKw (vwB I L np W) W (ix a) r (soT I L np W cn cl (ix s)))) := by
  have hT' := hT
  obtain ⟨t1, t2, t3, t4, t5, t6, t7, t8, t9, t10, t11, t12, t13, t14, t15⟩ := hT'
  have hvr : rVT I 40 27 = nI r := by rw [rVT_40]; simp only [va_up_self, bx_uu, tk_une, tk_usrt, not_false_eq_true, Nat.reduceEqDiff, Nat.reduceLT, Nat.reduceAdd, Nat.reduceMul, Nat.reduceLeDiff, reduceCtorEq]; exact t10
  have hvw : rVT I 40 26 = nI W := hT.vh.2.2.1
  refine tkM.of (ls := [some _, some _, some _, some _, some _]) (by decide +kernel) (by decide +kernel) (Nat.le_of_ble_eq_true rfl) rfl ?_
  refine tk_aload0 dX11_refuses_0 ?_
  refine tk_iload1 dX11_refuses_1 ?_
  refine tk_callV1z dX11_refuses_2 kX11_187 hR.o (r_isPerson hR _) (Nat.le_of_ble_eq_true rfl) (by omega) ?_
  first | refine tk_jf_eqB dX11_refuses_5 (fun h5 => ?_) (fun h5 => ?_) | refine tk_if_eq dX11_refuses_5 (fun h5 => ?_) (fun h5 => ?_)
  · refine tk_ldc dX11_refuses_23 klX11_183 ?_
    refine tk_ireturn dX11_refuses_25 rfl ?_
    exact rRfQ_f (by unfold rRf; first | (rw [h5]; rfl) | (rw [h13, Bool.false_and, Bool.and_false]; rfl) | (rw [h20, Bool.and_false, Bool.and_false]; rfl))
  · refine tk_aload0 dX11_refuses_8 ?_
    refine tk_iload2 dX11_refuses_9 ?_
    refine tk_callV1z dX11_refuses_10 kX11_187 hR.o (r_isPerson hR _) (Nat.le_of_ble_eq_true rfl) (by omega) ?_
    first | refine tk_jf_eqB dX11_refuses_13 (fun h13 => ?_) (fun h13 => ?_) | refine tk_if_eq dX11_refuses_13 (fun h13 => ?_) (fun h13 => ?_)
    · refine tk_ldc dX11_refuses_23 klX11_183 ?_
      refine tk_ireturn dX11_refuses_25 rfl ?_
      exact rRfQ_f (by unfold rRf; first | (rw [h5]; rfl) | (rw [h13, Bool.false_and, Bool.and_false]; rfl) | (rw [h20, Bool.and_false, Bool.and_false]; rfl))
    · refine tk_iload3 dX11_refuses_16 ?_
      refine tk_callS1z dX11_refuses_17 kX11_194 (r_isSentence _) (Nat.le_of_ble_eq_true rfl) (by omega) ?_
      first | refine tk_jf_neB dX11_refuses_20 (fun h20 => ?_) (fun h20 => ?_) | refine tk_if_ne dX11_refuses_20 (fun h20 => ?_) (fun h20 => ?_)
      · refine tk_iload1 dX11_refuses_26 ?_
        have hc0 : (rPer (I 41 0) a && (rPer (I 41 0) b && rIn s (nI 0) (nI 5))) = true := by rw [h5, h13, h20]; rfl
        obtain ⟨a', ha1, rfl⟩ := rPe_of h5 t1 (by omega)
        obtain ⟨b', hb1, rfl⟩ := rPe_of h13 t1 (by omega)
        obtain ⟨s', hs1, rfl⟩ := rIn_of h20 (by omega)
        have hixs : ix (nI s') = s' := ix_nI (by omega)
        have hixa : ix (nI a') = a' := ix_nI (by omega)
        have hixb : ix (nI b') = b' := ix_nI (by omega)
        obtain ⟨l, hl1, hl2⟩ := hT.ls s' (by omega)
        have hil : ix (nI l) = l := ix_nI (by omega)
        have es : rRt I (nI s') = decide (rW (fun i => I 47 (14 * s' + i)) (I 41 0) (I 41 1) l 0 (nI 0) < 0) := by unfold rRt; rw [hixs, hl2, ix_nI (by omega)]
        unfold rRf
        rw [if_pos hc0, hixs, hixa, hixb, hl2, hil]
        refine tk_iload2 dX11_refuses_27 ?_
        first | refine tk_icmp_neN dX11_refuses_28 (by omega) (by omega) (fun h28 => ?_) (fun h28 => ?_) | refine tk_icmp_ne dX11_refuses_28 (fun h28 => ?_) (fun h28 => ?_)
        · refine tk_aload0 dX11_refuses_35 ?_
          rw [if_neg (fun e => h28 ((nI_eq (by omega) (by omega)).mp e))]
          refine tk_iload3 dX11_refuses_36 ?_
          refine tk_callV1z dX11_refuses_37 kX11_291 hR.o (r_isRight hR (by omega) hl2 hl1) (Nat.le_of_ble_eq_true rfl) (by omega) ?_
          first | refine tk_jf_neB dX11_refuses_40 (fun h40 => ?_) (fun h40 => ?_) | refine tk_if_ne dX11_refuses_40 (fun h40 => ?_) (fun h40 => ?_)
          · refine tk_iload4 dX11_refuses_46 ?_
            rw [if_pos (es.trans h40)]
            first | refine tk_jf_eqB dX11_refuses_48 (fun h48 => ?_) (fun h48 => ?_) | refine tk_if_eq dX11_refuses_48 (fun h48 => ?_) (fun h48 => ?_)
            · refine tk_aload0 dX11_refuses_70 ?_
              rw [if_neg (by rintro ⟨q1, q2⟩; first | exact q2 h63 | (rw [h48] at q1; exact absurd q1 (by decide)))]
              refine tk_iload3 dX11_refuses_71 ?_
              refine tk_callV1z dX11_refuses_72 kX11_295 hR.o (r_factsIn hR (by omega) hl2 hl1) (Nat.le_of_ble_eq_true rfl) (by omega) ?_
              refine tk_aload0 dX11_refuses_75 ?_
              refine tk_getP dX11_refuses_76 fX11_25 rfl hR.o (hR.p 5 rfl) ?_
              refine tk_iload1 dX11_refuses_79 ?_
              refine tk_iald dX11_refuses_80 (hR.t 46 rfl) (by omega) (by omega) ?_
              refine tk_iand dX11_refuses_81 ?_
              first | refine tk_jf_eqB dX11_refuses_82 (fun h82 => ?_) (fun h82 => ?_) | refine tk_if_eq dX11_refuses_82 (fun h82 => ?_) (fun h82 => ?_)
              · refine tk_aload0 dX11_refuses_89 ?_
                rw [if_pos h82]
                refine tk_callV0y dX11_refuses_90 kX11_275 hR.o (r_viewTown hR t1 t3 t7 t9) (Nat.le_of_ble_eq_true rfl) (by omega) ?_
                refine tk_aload0 dX11_refuses_93 ?_
                refine tk_iload1 dX11_refuses_94 ?_
                refine tk_aload0 dX11_refuses_95 ?_
                refine tk_getI dX11_refuses_96 fX11_220 rfl hR.o ?_
                rw [hvr]
                refine tk_aload0 dX11_refuses_99 ?_
                refine tk_iload3 dX11_refuses_100 ?_
                refine tk_callV1z dX11_refuses_101 kX11_299 hR.o (r_soOfT hR hT (by omega) (es.trans h40)) (Nat.le_of_ble_eq_true rfl) (by omega) ?_
                refine tk_callV3z dX11_refuses_104 kX11_303 hR.o (r_knowsWhether hR hvw t9 (by omega) (by omega) _) (Nat.le_of_ble_eq_true rfl) (by omega) ?_
                first | refine tk_jf_eqB dX11_refuses_107 (fun h107 => ?_) (fun h107 => ?_) | refine tk_if_eq dX11_refuses_107 (fun h107 => ?_) (fun h107 => ?_)
                · refine tk_ldcw dX11_refuses_114 klX11_307 ?_
                  refine tk_ireturn dX11_refuses_117 rfl ?_
                  simp only [va_up_self] at h107
                  exact ⟨by first | (rw [h107]; rfl), rfl⟩
                · refine tk_iconst dX11_refuses_110 kc_iconst_0 ?_
                  refine tk_goto dX11_refuses_111 ?_
                  refine tk_ireturn dX11_refuses_117 rfl ?_
                  simp only [va_up_self] at h107
                  exact ⟨by first | (rw [h107]; rfl), rfl⟩
              · refine tk_ldcw dX11_refuses_85 klX11_298 ?_
                refine tk_ireturn dX11_refuses_88 rfl ?_
                exact rRfQ_f (if_neg h82)
            · refine tk_aload0 dX11_refuses_51 ?_
              refine tk_getP dX11_refuses_52 fX11_19 rfl hR.o (hR.p 3 rfl) ?_
              refine tk_iload1 dX11_refuses_55 ?_
              refine tk_iald dX11_refuses_56 (hR.t 44 rfl) (by omega) (by omega) ?_
              refine tk_aload0 dX11_refuses_57 ?_
              refine tk_getP dX11_refuses_58 fX11_19 rfl hR.o (hR.p 3 rfl) ?_
              refine tk_iload2 dX11_refuses_61 ?_
              refine tk_iald dX11_refuses_62 (hR.t 44 rfl) (by omega) (by omega) ?_
              first | refine tk_icmp_eqN dX11_refuses_63 (by omega) (by omega) (fun h63 => ?_) (fun h63 => ?_) | refine tk_icmp_eq dX11_refuses_63 (fun h63 => ?_) (fun h63 => ?_)
              · refine tk_aload0 dX11_refuses_70 ?_
                rw [if_neg (by rintro ⟨q1, q2⟩; first | exact q2 h63 | (rw [h48] at q1; exact absurd q1 (by decide)))]
                refine tk_iload3 dX11_refuses_71 ?_
                refine tk_callV1z dX11_refuses_72 kX11_295 hR.o (r_factsIn hR (by omega) hl2 hl1) (Nat.le_of_ble_eq_true rfl) (by omega) ?_
                refine tk_aload0 dX11_refuses_75 ?_
                refine tk_getP dX11_refuses_76 fX11_25 rfl hR.o (hR.p 5 rfl) ?_
                refine tk_iload1 dX11_refuses_79 ?_
                refine tk_iald dX11_refuses_80 (hR.t 46 rfl) (by omega) (by omega) ?_
                refine tk_iand dX11_refuses_81 ?_
                first | refine tk_jf_eqB dX11_refuses_82 (fun h82 => ?_) (fun h82 => ?_) | refine tk_if_eq dX11_refuses_82 (fun h82 => ?_) (fun h82 => ?_)
                · refine tk_aload0 dX11_refuses_89 ?_
                  rw [if_pos h82]
                  refine tk_callV0y dX11_refuses_90 kX11_275 hR.o (r_viewTown hR t1 t3 t7 t9) (Nat.le_of_ble_eq_true rfl) (by omega) ?_
                  refine tk_aload0 dX11_refuses_93 ?_
                  refine tk_iload1 dX11_refuses_94 ?_
                  refine tk_aload0 dX11_refuses_95 ?_
                  refine tk_getI dX11_refuses_96 fX11_220 rfl hR.o ?_
                  rw [hvr]
                  refine tk_aload0 dX11_refuses_99 ?_
                  refine tk_iload3 dX11_refuses_100 ?_
                  refine tk_callV1z dX11_refuses_101 kX11_299 hR.o (r_soOfT hR hT (by omega) (es.trans h40)) (Nat.le_of_ble_eq_true rfl) (by omega) ?_
                  refine tk_callV3z dX11_refuses_104 kX11_303 hR.o (r_knowsWhether hR hvw t9 (by omega) (by omega) _) (Nat.le_of_ble_eq_true rfl) (by omega) ?_
                  first | refine tk_jf_eqB dX11_refuses_107 (fun h107 => ?_) (fun h107 => ?_) | refine tk_if_eq dX11_refuses_107 (fun h107 => ?_) (fun h107 => ?_)
                  · refine tk_ldcw dX11_refuses_114 klX11_307 ?_
                    refine tk_ireturn dX11_refuses_117 rfl ?_
                    simp only [va_up_self] at h107
                    exact ⟨by first | (rw [h107]; rfl), rfl⟩
                  · refine tk_iconst dX11_refuses_110 kc_iconst_0 ?_
                    refine tk_goto dX11_refuses_111 ?_
                    refine tk_ireturn dX11_refuses_117 rfl ?_
                    simp only [va_up_self] at h107
                    exact ⟨by first | (rw [h107]; rfl), rfl⟩
                · refine tk_ldcw dX11_refuses_85 klX11_298 ?_
                  refine tk_ireturn dX11_refuses_88 rfl ?_
                  exact rRfQ_f (if_neg h82)
              · refine tk_ldcw dX11_refuses_66 klX11_294 ?_
                refine tk_ireturn dX11_refuses_69 rfl ?_
                exact rRfQ_f (if_pos ⟨h48, h63⟩)
          · refine tk_ldc dX11_refuses_43 klX11_208 ?_
            refine tk_ireturn dX11_refuses_45 rfl ?_
            exact rRfQ_f (if_neg (by rw [es, h40]; decide))
        · refine tk_ldcw dX11_refuses_31 klX11_290 ?_
          refine tk_ireturn dX11_refuses_34 rfl ?_
          exact rRfQ_f (if_pos (by rw [h28]))
      · refine tk_ldc dX11_refuses_23 klX11_183 ?_
        refine tk_ireturn dX11_refuses_25 rfl ?_
        exact rRfQ_f (by unfold rRf; first | (rw [h5]; rfl) | (rw [h13, Bool.false_and, Bool.and_false]; rfl) | (rw [h20, Bool.and_false, Bool.and_false]; rfl))
end REFS
