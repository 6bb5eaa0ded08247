/-! ===== the reference: so, isSo, remaining ===== -/
theorem or0 (x : Int64) : x ||| 0 = x := tb_ext (fun i hi => by rw [tb_or, tb_0, Bool.or_false])
theorem mk_t {f : Nat → Bool} {k : Nat} (h : f k = true) : mk f (k + 1) = mk f k ||| jshl 1 (nI k) := by rw [mk, h, if_pos rfl]
theorem mk_f {f : Nat → Bool} {k : Nat} (h : f k = false) : mk f (k + 1) = mk f k := by rw [mk, h, if_neg (by decide), or0]
section SOL
variable {np W cn : Nat} {F : Nat → Int32} {B : Nat → Int64} {gr : Nat → Int32} {cv : Nat → Int64 → Int64} {row : Nat → Int32} {k a : Nat} {set : Int64}
theorem SO_f {v : Nat} (hv : ix (row a) = v) (h : v < 10) : SO np W cn F B gr cv row (k + 1) a set = rSF F W v &&& set := by rw [SO, hv, if_pos h]
theorem SO_2 {v : Nat} (hv : ix (row a) = v) (h : 11 ≤ v ∧ v ≤ 14) : SO np W cn F B gr cv row (k + 1) a set = so2 v set (SO np W cn F B gr cv row k (a - 1 - SZ row k (a - 1)) set) (SO np W cn F B gr cv row k (a - 1) (if v = 14 then SO np W cn F B gr cv row k (a - 1 - SZ row k (a - 1)) set else set)) := by rw [SO, hv, if_neg (by omega), if_pos h]
theorem SO_1 {v : Nat} (hv : ix (row a) = v) (h : ¬ v < 10) (h2 : ¬ (11 ≤ v ∧ v ≤ 14)) : SO np W cn F B gr cv row (k + 1) a set = so1 np W B gr cn (fun c => cv c set) v set (SO np W cn F B gr cv row k (a - 1) set) := by rw [SO, hv, if_neg h, if_neg h2]
end SOL
section REFM
variable {G : tkG} {n : Nat} {T : Nat → Nat × Nat} {I : Nat → Nat → Int32} {L : Nat → Nat → Int64} {P : Nat → Nat → Option Nat}
theorem r_soG (hR : tkRef T P) {np nf W cn ds : Nat} {bl : Bool} {cv : Nat → Int64 → Int64} (hW : I 40 26 = nI W) (hW2 : W ≤ 64)
    (hIs : ∀ (v w : Nat) (x set : Int64), 20 ≤ v → v ≤ 40 → (v < 32 → v % 4 < np) → (28 ≤ v → v < 32 → bl = true) → w < W → tkM G mX11_isSo ds 0 0 [vR 40, vI (nI v), vI (nI w), vL x, vL set] (n, T, I, L, P) (tkF (some (vI (tkb (rIsS np W (L 66) (I 69) cn (fun c => cv c set) v w x set)))) (n, T, I, L, P)))
    {ra len b : Nat} (hra : T ra = (20, len)) (hlen : len < 2 ^ 31) : ∀ (k a : Nat) (set : Int64), b + a < len → WF np nf bl (fun i => I ra (b + i)) k a → tkM G mX11_so (k + ds + 1) 0 0 [vR 40, vR ra, vI (nI (b + a)), vL set] (n, T, I, L, P) (tkF (some (vL (SO np W cn (I 64) (L 66) (I 69) cv (fun i => I ra (b + i)) k a set))) (n, T, I, L, P)) := by
  intro k
  induction k with
  | zero => intro a _ _ h; exact h.elim
  | succ k ih =>
    intro a set hba hwf
    obtain ⟨v, hv, hv40, hc⟩ := hwf
    have hv : I ra (b + a) = nI v := hv
    have hix : ix (I ra (b + a)) = v := by rw [hv]; exact ix_nI (by omega)
    have hw1 : 10 ≤ v → 1 ≤ a ∧ WF np nf bl (fun i => I ra (b + i)) k (a - 1) := by
      intro h10
      rcases hc with ⟨h, -⟩ | ⟨-, h1, h2⟩ | ⟨-, -, h1, h2, -⟩ | ⟨-, -, -, -, h1, h2⟩ | ⟨-, h1, h2⟩
      · omega
      · exact ⟨h1, h2⟩
      · exact ⟨h1, h2⟩
      · exact ⟨h1, h2⟩
      · exact ⟨h1, h2⟩
    have hw2 : 11 ≤ v → v ≤ 14 → SZ (fun i => I ra (b + i)) k (a - 1) + 1 ≤ a ∧ WF np nf bl (fun i => I ra (b + i)) k (a - 1 - SZ (fun i => I ra (b + i)) k (a - 1)) := by
      intro h11 h14
      rcases hc with ⟨h, -⟩ | ⟨h, -⟩ | ⟨-, -, -, -, h1, h2⟩ | ⟨h, -⟩ | ⟨h, -⟩ <;> first | omega | exact ⟨h1, h2⟩
    have hw3 : 10 < v → ¬ v ≤ 14 → 20 ≤ v ∧ (v < 32 → v % 4 < np) ∧ (28 ≤ v → v < 32 → bl = true) := by
      intro h11 h14
      rcases hc with ⟨h, -⟩ | ⟨h, -⟩ | ⟨-, h, -⟩ | ⟨h, -, h2, h3, -⟩ | ⟨h, -⟩ <;> first | omega | exact ⟨h, fun _ => h2, fun q _ => h3 q⟩ | exact ⟨by omega, by omega, by omega⟩
    have e1 : b + a - 1 = b + (a - 1) ∨ v < 10 := by
      by_cases h : v < 10
      · exact Or.inr h
      · have := (hw1 (by omega)).1
        exact Or.inl (by omega)
    refine tkM.of (ls := [some _, some _, some _, some _, none, none, none, none, none, none, none]) (by decide +kernel) (by decide +kernel) (Nat.le_of_ble_eq_true rfl) rfl ?_
    refine tk_aload1 dX11_so_0 ?_
    refine tk_iload2 dX11_so_1 ?_
    refine tk_iald dX11_so_2 (by first | assumption | exact va_up_self _ _ _ | exact (va_up_ne _ _ (by omega)).trans (by assumption) | exact congrArg Prod.fst (va_up_self _ _ _) | exact (congrArg Prod.fst (va_up_ne _ _ (by omega))).trans (by assumption) | exact (congrFun (va_up_ne _ _ (by omega)) _).trans (by assumption) | exact (va_up_ne _ _ (by omega)).trans (va_up_self _ _ _) | exact (va_up_ne _ _ (by omega)).trans ((va_up_ne _ _ (by omega)).trans (by assumption)) | exact (congrArg Prod.fst ((va_up_ne _ _ (by omega)).trans (va_up_ne _ _ (by omega)))).trans (by assumption) | exact (congrFun ((va_up_ne _ _ (by omega)).trans (va_up_ne _ _ (by omega))) _).trans (by assumption) | (rw [va_up_self, va_up_ne _ _ (by omega)]; assumption)) (by omega) (by omega) ?_
    rw [hv]
    refine tk_istore5 dX11_so_3 rfl ?_
    refine tk_iload5 dX11_so_5 ?_
    refine tk_bipush dX11_so_7 kc_bipush_10 ?_
    first | refine tk_icmp_geN dX11_so_9 (by omega) (by omega) (fun h9 => ?_) (fun h9 => ?_) | refine tk_jcmp_ge dX11_so_9 (fun h9 => ?_) (fun h9 => ?_)
    · refine tk_iload5 dX11_so_67 ?_
      refine tk_bipush dX11_so_69 kc_bipush_10 ?_
      first | refine tk_icmp_leN dX11_so_71 (by omega) (by omega) (fun h71 => ?_) (fun h71 => ?_) | refine tk_jcmp_le dX11_so_71 (fun h71 => ?_) (fun h71 => ?_)
      · refine tk_aload0 dX11_so_166 ?_
        obtain ⟨ha1, hwa⟩ := hw1 (by omega)
        have e1 : b + a - 1 = b + (a - 1) := by omega
        refine tk_aload1 dX11_so_167 ?_
        refine tk_iload2 dX11_so_168 ?_
        refine tk_iconst dX11_so_169 kc_iconst_1 ?_
        first | refine tk_isubN dX11_so_170 (by omega) ?_ | refine tk_isub dX11_so_170 ?_
        rw [e1]
        refine tk_lload3 dX11_so_171 ?_
        refine tk_callV3z dX11_so_172 kX11_233 hR.o (ih (a - 1) set (by omega) hwa) (Nat.le_of_ble_eq_true rfl) (by omega) ?_
        refine tk_lstore6 dX11_so_175 rfl ?_
        refine tk_iload5 dX11_so_177 ?_
        refine tk_bipush dX11_so_179 kc_bipush_10 ?_
        first | refine tk_icmp_neN dX11_so_181 (by omega) (by omega) (fun h181 => ?_) (fun h181 => ?_) | refine tk_icmp_ne dX11_so_181 (fun h181 => ?_) (fun h181 => ?_)
        · refine tk_lconst dX11_so_193 (v := 0) (by decide) ?_
          refine tk_lstore8 dX11_so_194 rfl ?_
          refine tk_iconst dX11_so_196 kc_iconst_0 ?_
          refine tk_istore10 dX11_so_197 rfl ?_
          obtain ⟨h20, hm4, hbl⟩ := hw3 (by omega) (by omega)
          refine tk_fr 0 W (fun w => [some (vR 40), some (vR ra), some (vI (nI (b + a))), some (vL set), none, some (vI (nI v)), some (vL (SO np W cn (I 64) (L 66) (I 69) cv (fun i => I ra (b + i)) k (a - 1) set)), none, some (vL (mk (fun w => tb set w && rIsS np W (L 66) (I 69) cn (fun c => cv c set) v w (SO np W cn (I 64) (L 66) (I 69) cv (fun i => I ra (b + i)) k (a - 1) set) set) w)), none, some (vI (nI w))]) (fun w => (n, T, I, L, P)) (by omega) (by repeat' (first | exact trivial | refine ⟨Or.inl rfl, ?_⟩ | refine ⟨Or.inr rfl, ?_⟩)) rfl ?_ ?_
          · refine tk_iload10 dX11_so_199 ?_
            refine tk_aload0 dX11_so_201 ?_
            refine tk_getI dX11_so_202 fX11_215 rfl hR.o ?_
            rw [hW]
            first | refine tk_icmp_geN dX11_so_205 (by omega) (by omega) (fun h205 => ?_) (fun h205 => ?_) | refine tk_jcmp_ge dX11_so_205 (fun h205 => ?_) (fun h205 => ?_)
            · refine tk_lload8 dX11_so_248 ?_
              refine tk_lreturn dX11_so_250 rfl ?_
              exact tkl ((if_neg h181).symm.trans (SO_1 (row := fun i => I ra (b + i)) hix (by omega) (by omega)).symm)
            · exfalso; omega
          · intro w _ hw kk
            refine tk_iload10 dX11_so_199 ?_
            refine tk_aload0 dX11_so_201 ?_
            refine tk_getI dX11_so_202 fX11_215 rfl hR.o ?_
            rw [hW]
            first | refine tk_icmp_geN dX11_so_205 (by omega) (by omega) (fun h205 => ?_) (fun h205 => ?_) | refine tk_jcmp_ge dX11_so_205 (fun h205 => ?_) (fun h205 => ?_)
            · exfalso; omega
            · refine tk_lload3 dX11_so_208 ?_
              refine tk_iload10 dX11_so_209 ?_
              refine tk_lshr dX11_so_211 ?_
              refine tk_lconst dX11_so_212 (v := 1) (by decide) ?_
              refine tk_land dX11_so_213 ?_
              refine tk_lconst dX11_so_214 (v := 1) (by decide) ?_
              refine tk_lcmp dX11_so_215 ?_
              first | refine tk_jf_neB dX11_so_216 (fun h216 => ?_) (fun h216 => ?_) | refine tk_if_ne dX11_so_216 (fun h216 => ?_) (fun h216 => ?_)
              · first | refine tk_iinc10 dX11_so_242 (kc_inc _) rfl ?_ | refine tk_iinc10 dX11_so_242 rfl rfl ?_
                refine tk_goto dX11_so_245 ?_
                refine kk _ ?_
                first | rw [mk_f (f := fun w => tb set w && rIsS np W (L 66) (I 69) cn (fun c => cv c set) v w (SO np W cn (I 64) (L 66) (I 69) cv (fun i => I ra (b + i)) k (a - 1) set) set) (by rw [Bool.eq_false_iff]; intro q; rw [Bool.and_eq_true] at q; exact h216 ((tb_t1 _ (by omega)).mpr q.1))] | rw [mk_f (f := fun w => tb set w && rIsS np W (L 66) (I 69) cn (fun c => cv c set) v w (SO np W cn (I 64) (L 66) (I 69) cv (fun i => I ra (b + i)) k (a - 1) set) set) (by rw [h230, Bool.and_false])] | rw [mk_t (f := fun w => tb set w && rIsS np W (L 66) (I 69) cn (fun c => cv c set) v w (SO np W cn (I 64) (L 66) (I 69) cv (fun i => I ra (b + i)) k (a - 1) set) set) (by rw [h230, (tb_t1 _ (by omega)).mp h216]; rfl)]
                exact (by repeat' (first | exact trivial | refine ⟨Or.inl rfl, ?_⟩ | refine ⟨Or.inr rfl, ?_⟩))
              · refine tk_aload0 dX11_so_219 ?_
                refine tk_iload5 dX11_so_220 ?_
                refine tk_iload10 dX11_so_222 ?_
                refine tk_lload6 dX11_so_224 ?_
                refine tk_lload3 dX11_so_226 ?_
                refine tk_callV4z dX11_so_227 kX11_237 hR.o (hIs v w _ set (by omega) (by omega) (by omega) (by omega) (by omega)) (Nat.le_of_ble_eq_true rfl) (by omega) ?_
                first | refine tk_jf_eqB dX11_so_230 (fun h230 => ?_) (fun h230 => ?_) | refine tk_if_eq dX11_so_230 (fun h230 => ?_) (fun h230 => ?_)
                · first | refine tk_iinc10 dX11_so_242 (kc_inc _) rfl ?_ | refine tk_iinc10 dX11_so_242 rfl rfl ?_
                  refine tk_goto dX11_so_245 ?_
                  refine kk _ ?_
                  first | rw [mk_f (f := fun w => tb set w && rIsS np W (L 66) (I 69) cn (fun c => cv c set) v w (SO np W cn (I 64) (L 66) (I 69) cv (fun i => I ra (b + i)) k (a - 1) set) set) (by rw [Bool.eq_false_iff]; intro q; rw [Bool.and_eq_true] at q; exact h216 ((tb_t1 _ (by omega)).mpr q.1))] | rw [mk_f (f := fun w => tb set w && rIsS np W (L 66) (I 69) cn (fun c => cv c set) v w (SO np W cn (I 64) (L 66) (I 69) cv (fun i => I ra (b + i)) k (a - 1) set) set) (by rw [h230, Bool.and_false])] | rw [mk_t (f := fun w => tb set w && rIsS np W (L 66) (I 69) cn (fun c => cv c set) v w (SO np W cn (I 64) (L 66) (I 69) cv (fun i => I ra (b + i)) k (a - 1) set) set) (by rw [h230, (tb_t1 _ (by omega)).mp h216]; rfl)]
                  exact (by repeat' (first | exact trivial | refine ⟨Or.inl rfl, ?_⟩ | refine ⟨Or.inr rfl, ?_⟩))
                · refine tk_lload8 dX11_so_233 ?_
                  refine tk_lconst dX11_so_235 (v := 1) (by decide) ?_
                  refine tk_iload10 dX11_so_236 ?_
                  refine tk_lshl dX11_so_238 ?_
                  refine tk_lor dX11_so_239 ?_
                  refine tk_lstore8 dX11_so_240 rfl ?_
                  first | refine tk_iinc10 dX11_so_242 (kc_inc _) rfl ?_ | refine tk_iinc10 dX11_so_242 rfl rfl ?_
                  refine tk_goto dX11_so_245 ?_
                  refine kk _ ?_
                  first | rw [mk_f (f := fun w => tb set w && rIsS np W (L 66) (I 69) cn (fun c => cv c set) v w (SO np W cn (I 64) (L 66) (I 69) cv (fun i => I ra (b + i)) k (a - 1) set) set) (by rw [Bool.eq_false_iff]; intro q; rw [Bool.and_eq_true] at q; exact h216 ((tb_t1 _ (by omega)).mpr q.1))] | rw [mk_f (f := fun w => tb set w && rIsS np W (L 66) (I 69) cn (fun c => cv c set) v w (SO np W cn (I 64) (L 66) (I 69) cv (fun i => I ra (b + i)) k (a - 1) set) set) (by rw [h230, Bool.and_false])] | rw [mk_t (f := fun w => tb set w && rIsS np W (L 66) (I 69) cn (fun c => cv c set) v w (SO np W cn (I 64) (L 66) (I 69) cv (fun i => I ra (b + i)) k (a - 1) set) set) (by rw [h230, (tb_t1 _ (by omega)).mp h216]; rfl)]
                  exact (by repeat' (first | exact trivial | refine ⟨Or.inl rfl, ?_⟩ | refine ⟨Or.inr rfl, ?_⟩))
        · refine tk_lload3 dX11_so_184 ?_
          refine tk_lload6 dX11_so_185 ?_
          refine tk_ldc2 dX11_so_187 klX11_218 ?_
          refine tk_lxor dX11_so_190 ?_
          refine tk_land dX11_so_191 ?_
          refine tk_lreturn dX11_so_192 rfl ?_
          exact tkl ((if_pos h181).symm.trans (SO_1 (row := fun i => I ra (b + i)) hix (by omega) (by omega)).symm)
      · refine tk_iload5 dX11_so_74 ?_
        refine tk_bipush dX11_so_76 kc_bipush_14 ?_
        first | refine tk_icmp_gtN dX11_so_78 (by omega) (by omega) (fun h78 => ?_) (fun h78 => ?_) | refine tk_jcmp_gt dX11_so_78 (fun h78 => ?_) (fun h78 => ?_)
        · refine tk_aload0 dX11_so_166 ?_
          obtain ⟨ha1, hwa⟩ := hw1 (by omega)
          have e1 : b + a - 1 = b + (a - 1) := by omega
          refine tk_aload1 dX11_so_167 ?_
          refine tk_iload2 dX11_so_168 ?_
          refine tk_iconst dX11_so_169 kc_iconst_1 ?_
          first | refine tk_isubN dX11_so_170 (by omega) ?_ | refine tk_isub dX11_so_170 ?_
          rw [e1]
          refine tk_lload3 dX11_so_171 ?_
          refine tk_callV3z dX11_so_172 kX11_233 hR.o (ih (a - 1) set (by omega) hwa) (Nat.le_of_ble_eq_true rfl) (by omega) ?_
          refine tk_lstore6 dX11_so_175 rfl ?_
          refine tk_iload5 dX11_so_177 ?_
          refine tk_bipush dX11_so_179 kc_bipush_10 ?_
          first | refine tk_icmp_neN dX11_so_181 (by omega) (by omega) (fun h181 => ?_) (fun h181 => ?_) | refine tk_icmp_ne dX11_so_181 (fun h181 => ?_) (fun h181 => ?_)
          · refine tk_lconst dX11_so_193 (v := 0) (by decide) ?_
            refine tk_lstore8 dX11_so_194 rfl ?_
            refine tk_iconst dX11_so_196 kc_iconst_0 ?_
            refine tk_istore10 dX11_so_197 rfl ?_
            obtain ⟨h20, hm4, hbl⟩ := hw3 (by omega) (by omega)
            refine tk_fr 0 W (fun w => [some (vR 40), some (vR ra), some (vI (nI (b + a))), some (vL set), none, some (vI (nI v)), some (vL (SO np W cn (I 64) (L 66) (I 69) cv (fun i => I ra (b + i)) k (a - 1) set)), none, some (vL (mk (fun w => tb set w && rIsS np W (L 66) (I 69) cn (fun c => cv c set) v w (SO np W cn (I 64) (L 66) (I 69) cv (fun i => I ra (b + i)) k (a - 1) set) set) w)), none, some (vI (nI w))]) (fun w => (n, T, I, L, P)) (by omega) (by repeat' (first | exact trivial | refine ⟨Or.inl rfl, ?_⟩ | refine ⟨Or.inr rfl, ?_⟩)) rfl ?_ ?_
            · refine tk_iload10 dX11_so_199 ?_
              refine tk_aload0 dX11_so_201 ?_
              refine tk_getI dX11_so_202 fX11_215 rfl hR.o ?_
              rw [hW]
              first | refine tk_icmp_geN dX11_so_205 (by omega) (by omega) (fun h205 => ?_) (fun h205 => ?_) | refine tk_jcmp_ge dX11_so_205 (fun h205 => ?_) (fun h205 => ?_)
              · refine tk_lload8 dX11_so_248 ?_
                refine tk_lreturn dX11_so_250 rfl ?_
                exact tkl ((if_neg h181).symm.trans (SO_1 (row := fun i => I ra (b + i)) hix (by omega) (by omega)).symm)
              · exfalso; omega
            · intro w _ hw kk
              refine tk_iload10 dX11_so_199 ?_
              refine tk_aload0 dX11_so_201 ?_
              refine tk_getI dX11_so_202 fX11_215 rfl hR.o ?_
              rw [hW]
              first | refine tk_icmp_geN dX11_so_205 (by omega) (by omega) (fun h205 => ?_) (fun h205 => ?_) | refine tk_jcmp_ge dX11_so_205 (fun h205 => ?_) (fun h205 => ?_)
              · exfalso; omega
              · refine tk_lload3 dX11_so_208 ?_
                refine tk_iload10 dX11_so_209 ?_
                refine tk_lshr dX11_so_211 ?_
                refine tk_lconst dX11_so_212 (v := 1) (by decide) ?_
                refine tk_land dX11_so_213 ?_
                refine tk_lconst dX11_so_214 (v := 1) (by decide) ?_
                refine tk_lcmp dX11_so_215 ?_
                first | refine tk_jf_neB dX11_so_216 (fun h216 => ?_) (fun h216 => ?_) | refine tk_if_ne dX11_so_216 (fun h216 => ?_) (fun h216 => ?_)
                · first | refine tk_iinc10 dX11_so_242 (kc_inc _) rfl ?_ | refine tk_iinc10 dX11_so_242 rfl rfl ?_
                  refine tk_goto dX11_so_245 ?_
                  refine kk _ ?_
                  first | rw [mk_f (f := fun w => tb set w && rIsS np W (L 66) (I 69) cn (fun c => cv c set) v w (SO np W cn (I 64) (L 66) (I 69) cv (fun i => I ra (b + i)) k (a - 1) set) set) (by rw [Bool.eq_false_iff]; intro q; rw [Bool.and_eq_true] at q; exact h216 ((tb_t1 _ (by omega)).mpr q.1))] | rw [mk_f (f := fun w => tb set w && rIsS np W (L 66) (I 69) cn (fun c => cv c set) v w (SO np W cn (I 64) (L 66) (I 69) cv (fun i => I ra (b + i)) k (a - 1) set) set) (by rw [h230, Bool.and_false])] | rw [mk_t (f := fun w => tb set w && rIsS np W (L 66) (I 69) cn (fun c => cv c set) v w (SO np W cn (I 64) (L 66) (I 69) cv (fun i => I ra (b + i)) k (a - 1) set) set) (by rw [h230, (tb_t1 _ (by omega)).mp h216]; rfl)]
                  exact (by repeat' (first | exact trivial | refine ⟨Or.inl rfl, ?_⟩ | refine ⟨Or.inr rfl, ?_⟩))
                · refine tk_aload0 dX11_so_219 ?_
                  refine tk_iload5 dX11_so_220 ?_
                  refine tk_iload10 dX11_so_222 ?_
                  refine tk_lload6 dX11_so_224 ?_
                  refine tk_lload3 dX11_so_226 ?_
                  refine tk_callV4z dX11_so_227 kX11_237 hR.o (hIs v w _ set (by omega) (by omega) (by omega) (by omega) (by omega)) (Nat.le_of_ble_eq_true rfl) (by omega) ?_
                  first | refine tk_jf_eqB dX11_so_230 (fun h230 => ?_) (fun h230 => ?_) | refine tk_if_eq dX11_so_230 (fun h230 => ?_) (fun h230 => ?_)
                  · first | refine tk_iinc10 dX11_so_242 (kc_inc _) rfl ?_ | refine tk_iinc10 dX11_so_242 rfl rfl ?_
                    refine tk_goto dX11_so_245 ?_
                    refine kk _ ?_
                    first | rw [mk_f (f := fun w => tb set w && rIsS np W (L 66) (I 69) cn (fun c => cv c set) v w (SO np W cn (I 64) (L 66) (I 69) cv (fun i => I ra (b + i)) k (a - 1) set) set) (by rw [Bool.eq_false_iff]; intro q; rw [Bool.and_eq_true] at q; exact h216 ((tb_t1 _ (by omega)).mpr q.1))] | rw [mk_f (f := fun w => tb set w && rIsS np W (L 66) (I 69) cn (fun c => cv c set) v w (SO np W cn (I 64) (L 66) (I 69) cv (fun i => I ra (b + i)) k (a - 1) set) set) (by rw [h230, Bool.and_false])] | rw [mk_t (f := fun w => tb set w && rIsS np W (L 66) (I 69) cn (fun c => cv c set) v w (SO np W cn (I 64) (L 66) (I 69) cv (fun i => I ra (b + i)) k (a - 1) set) set) (by rw [h230, (tb_t1 _ (by omega)).mp h216]; rfl)]
                    exact (by repeat' (first | exact trivial | refine ⟨Or.inl rfl, ?_⟩ | refine ⟨Or.inr rfl, ?_⟩))
                  · refine tk_lload8 dX11_so_233 ?_
                    refine tk_lconst dX11_so_235 (v := 1) (by decide) ?_
                    refine tk_iload10 dX11_so_236 ?_
                    refine tk_lshl dX11_so_238 ?_
                    refine tk_lor dX11_so_239 ?_
                    refine tk_lstore8 dX11_so_240 rfl ?_
                    first | refine tk_iinc10 dX11_so_242 (kc_inc _) rfl ?_ | refine tk_iinc10 dX11_so_242 rfl rfl ?_
                    refine tk_goto dX11_so_245 ?_
                    refine kk _ ?_
                    first | rw [mk_f (f := fun w => tb set w && rIsS np W (L 66) (I 69) cn (fun c => cv c set) v w (SO np W cn (I 64) (L 66) (I 69) cv (fun i => I ra (b + i)) k (a - 1) set) set) (by rw [Bool.eq_false_iff]; intro q; rw [Bool.and_eq_true] at q; exact h216 ((tb_t1 _ (by omega)).mpr q.1))] | rw [mk_f (f := fun w => tb set w && rIsS np W (L 66) (I 69) cn (fun c => cv c set) v w (SO np W cn (I 64) (L 66) (I 69) cv (fun i => I ra (b + i)) k (a - 1) set) set) (by rw [h230, Bool.and_false])] | rw [mk_t (f := fun w => tb set w && rIsS np W (L 66) (I 69) cn (fun c => cv c set) v w (SO np W cn (I 64) (L 66) (I 69) cv (fun i => I ra (b + i)) k (a - 1) set) set) (by rw [h230, (tb_t1 _ (by omega)).mp h216]; rfl)]
                    exact (by repeat' (first | exact trivial | refine ⟨Or.inl rfl, ?_⟩ | refine ⟨Or.inr rfl, ?_⟩))
          · refine tk_lload3 dX11_so_184 ?_
            refine tk_lload6 dX11_so_185 ?_
            refine tk_ldc2 dX11_so_187 klX11_218 ?_
            refine tk_lxor dX11_so_190 ?_
            refine tk_land dX11_so_191 ?_
            refine tk_lreturn dX11_so_192 rfl ?_
            exact tkl ((if_pos h181).symm.trans (SO_1 (row := fun i => I ra (b + i)) hix (by omega) (by omega)).symm)
        · refine tk_aload0 dX11_so_81 ?_
          obtain ⟨ha1, hwa⟩ := hw1 (by omega)
          obtain ⟨hs1, hws⟩ := hw2 (by omega) (by omega)
          have e1 : b + a - 1 = b + (a - 1) := by omega
          have e2 : b + (a - 1) - SZ (fun i => I ra (b + i)) k (a - 1) = b + (a - 1 - SZ (fun i => I ra (b + i)) k (a - 1)) := by omega
          refine tk_aload1 dX11_so_82 ?_
          refine tk_iload2 dX11_so_83 ?_
          refine tk_iconst dX11_so_84 kc_iconst_1 ?_
          first | refine tk_isubN dX11_so_85 (by omega) ?_ | refine tk_isub dX11_so_85 ?_
          rw [e1]
          refine tk_aload0 dX11_so_86 ?_
          refine tk_aload1 dX11_so_87 ?_
          refine tk_iload2 dX11_so_88 ?_
          refine tk_iconst dX11_so_89 kc_iconst_1 ?_
          first | refine tk_isubN dX11_so_90 (by omega) ?_ | refine tk_isub dX11_so_90 ?_
          rw [e1]
          refine tk_callV2z dX11_so_91 kX11_229 hR.o (r_size hR hra hlen k (a - 1) (by omega) hwa) (Nat.le_of_ble_eq_true rfl) (by omega) ?_
          first | refine tk_isubN dX11_so_94 (by omega) ?_ | refine tk_isub dX11_so_94 ?_
          rw [e2]
          refine tk_lload3 dX11_so_95 ?_
          refine tk_callV3z dX11_so_96 kX11_233 hR.o (ih _ set (by omega) hws) (Nat.le_of_ble_eq_true rfl) (by omega) ?_
          refine tk_lstore6 dX11_so_99 rfl ?_
          refine tk_aload0 dX11_so_101 ?_
          refine tk_aload1 dX11_so_102 ?_
          refine tk_iload2 dX11_so_103 ?_
          refine tk_iconst dX11_so_104 kc_iconst_1 ?_
          first | refine tk_isubN dX11_so_105 (by omega) ?_ | refine tk_isub dX11_so_105 ?_
          rw [e1]
          refine tk_iload5 dX11_so_106 ?_
          refine tk_bipush dX11_so_108 kc_bipush_14 ?_
          first | refine tk_icmp_neN dX11_so_110 (by omega) (by omega) (fun h110 => ?_) (fun h110 => ?_) | refine tk_icmp_ne dX11_so_110 (fun h110 => ?_) (fun h110 => ?_)
          · refine tk_lload3 dX11_so_118 ?_
            refine tk_callV3z dX11_so_119 kX11_233 hR.o (ih (a - 1) _ (by omega) hwa) (Nat.le_of_ble_eq_true rfl) (by omega) ?_
            refine tk_lstore8 dX11_so_122 rfl ?_
            refine tk_iload5 dX11_so_124 ?_
            refine tk_bipush dX11_so_126 kc_bipush_11 ?_
            first | refine tk_icmp_neN dX11_so_128 (by omega) (by omega) (fun h128 => ?_) (fun h128 => ?_) | refine tk_icmp_ne dX11_so_128 (fun h128 => ?_) (fun h128 => ?_)
            · refine tk_iload5 dX11_so_139 ?_
              refine tk_bipush dX11_so_141 kc_bipush_12 ?_
              first | refine tk_icmp_neN dX11_so_143 (by omega) (by omega) (fun h143 => ?_) (fun h143 => ?_) | refine tk_icmp_ne dX11_so_143 (fun h143 => ?_) (fun h143 => ?_)
              · refine tk_lload3 dX11_so_154 ?_
                refine tk_lload6 dX11_so_155 ?_
                refine tk_ldc2 dX11_so_157 klX11_218 ?_
                refine tk_lxor dX11_so_160 ?_
                refine tk_land dX11_so_161 ?_
                refine tk_lload8 dX11_so_162 ?_
                refine tk_lor dX11_so_164 ?_
                refine tk_lreturn dX11_so_165 rfl ?_
                refine tkl (Eq.trans ?_ (SO_2 (row := fun i => I ra (b + i)) hix (by omega)).symm)
                unfold so2
                first | rw [if_pos h110, if_pos h128] | rw [if_neg h110, if_pos h128] | rw [if_pos h110, if_neg h128, if_pos h143] | rw [if_neg h110, if_neg h128, if_pos h143] | rw [if_pos h110, if_neg h128, if_neg h143] | rw [if_neg h110, if_neg h128, if_neg h143]
              · refine tk_lload6 dX11_so_146 ?_
                refine tk_lload8 dX11_so_148 ?_
                refine tk_lor dX11_so_150 ?_
                refine tk_goto dX11_so_151 ?_
                refine tk_lreturn dX11_so_165 rfl ?_
                refine tkl (Eq.trans ?_ (SO_2 (row := fun i => I ra (b + i)) hix (by omega)).symm)
                unfold so2
                first | rw [if_pos h110, if_pos h128] | rw [if_neg h110, if_pos h128] | rw [if_pos h110, if_neg h128, if_pos h143] | rw [if_neg h110, if_neg h128, if_pos h143] | rw [if_pos h110, if_neg h128, if_neg h143] | rw [if_neg h110, if_neg h128, if_neg h143]
            · refine tk_lload6 dX11_so_131 ?_
              refine tk_lload8 dX11_so_133 ?_
              refine tk_land dX11_so_135 ?_
              refine tk_goto dX11_so_136 ?_
              refine tk_lreturn dX11_so_165 rfl ?_
              refine tkl (Eq.trans ?_ (SO_2 (row := fun i => I ra (b + i)) hix (by omega)).symm)
              unfold so2
              first | rw [if_pos h110, if_pos h128] | rw [if_neg h110, if_pos h128] | rw [if_pos h110, if_neg h128, if_pos h143] | rw [if_neg h110, if_neg h128, if_pos h143] | rw [if_pos h110, if_neg h128, if_neg h143] | rw [if_neg h110, if_neg h128, if_neg h143]
          · refine tk_lload6 dX11_so_113 ?_
            refine tk_goto dX11_so_115 ?_
            refine tk_callV3z dX11_so_119 kX11_233 hR.o (ih (a - 1) _ (by omega) hwa) (Nat.le_of_ble_eq_true rfl) (by omega) ?_
            refine tk_lstore8 dX11_so_122 rfl ?_
            refine tk_iload5 dX11_so_124 ?_
            refine tk_bipush dX11_so_126 kc_bipush_11 ?_
            first | refine tk_icmp_neN dX11_so_128 (by omega) (by omega) (fun h128 => ?_) (fun h128 => ?_) | refine tk_icmp_ne dX11_so_128 (fun h128 => ?_) (fun h128 => ?_)
            · refine tk_iload5 dX11_so_139 ?_
              refine tk_bipush dX11_so_141 kc_bipush_12 ?_
              first | refine tk_icmp_neN dX11_so_143 (by omega) (by omega) (fun h143 => ?_) (fun h143 => ?_) | refine tk_icmp_ne dX11_so_143 (fun h143 => ?_) (fun h143 => ?_)
              · refine tk_lload3 dX11_so_154 ?_
                refine tk_lload6 dX11_so_155 ?_
                refine tk_ldc2 dX11_so_157 klX11_218 ?_
                refine tk_lxor dX11_so_160 ?_
                refine tk_land dX11_so_161 ?_
                refine tk_lload8 dX11_so_162 ?_
                refine tk_lor dX11_so_164 ?_
                refine tk_lreturn dX11_so_165 rfl ?_
                refine tkl (Eq.trans ?_ (SO_2 (row := fun i => I ra (b + i)) hix (by omega)).symm)
                unfold so2
                first | rw [if_pos h110, if_pos h128] | rw [if_neg h110, if_pos h128] | rw [if_pos h110, if_neg h128, if_pos h143] | rw [if_neg h110, if_neg h128, if_pos h143] | rw [if_pos h110, if_neg h128, if_neg h143] | rw [if_neg h110, if_neg h128, if_neg h143]
              · refine tk_lload6 dX11_so_146 ?_
                refine tk_lload8 dX11_so_148 ?_
                refine tk_lor dX11_so_150 ?_
                refine tk_goto dX11_so_151 ?_
                refine tk_lreturn dX11_so_165 rfl ?_
                refine tkl (Eq.trans ?_ (SO_2 (row := fun i => I ra (b + i)) hix (by omega)).symm)
                unfold so2
                first | rw [if_pos h110, if_pos h128] | rw [if_neg h110, if_pos h128] | rw [if_pos h110, if_neg h128, if_pos h143] | rw [if_neg h110, if_neg h128, if_pos h143] | rw [if_pos h110, if_neg h128, if_neg h143] | rw [if_neg h110, if_neg h128, if_neg h143]
            · refine tk_lload6 dX11_so_131 ?_
              refine tk_lload8 dX11_so_133 ?_
              refine tk_land dX11_so_135 ?_
              refine tk_goto dX11_so_136 ?_
              refine tk_lreturn dX11_so_165 rfl ?_
              refine tkl (Eq.trans ?_ (SO_2 (row := fun i => I ra (b + i)) hix (by omega)).symm)
              unfold so2
              first | rw [if_pos h110, if_pos h128] | rw [if_neg h110, if_pos h128] | rw [if_pos h110, if_neg h128, if_pos h143] | rw [if_neg h110, if_neg h128, if_pos h143] | rw [if_pos h110, if_neg h128, if_neg h143] | rw [if_neg h110, if_neg h128, if_neg h143]
    · refine tk_lconst dX11_so_12 (v := 0) (by decide) ?_
      refine tk_lstore6 dX11_so_13 rfl ?_
      refine tk_iconst dX11_so_15 kc_iconst_0 ?_
      refine tk_istore8 dX11_so_16 rfl ?_
      refine tk_fr 0 W (fun w => [some (vR 40), some (vR ra), some (vI (nI (b + a))), some (vL set), none, some (vI (nI v)), some (vL (mk (fun w => decide (kshr (I 64 w) (nI v) &&& nI 1 = nI 1)) w)), none, some (vI (nI w)), none, none]) (fun w => (n, T, I, L, P)) (by omega) (by repeat' (first | exact trivial | refine ⟨Or.inl rfl, ?_⟩ | refine ⟨Or.inr rfl, ?_⟩)) rfl ?_ ?_
      · refine tk_iload8 dX11_so_18 ?_
        refine tk_aload0 dX11_so_20 ?_
        refine tk_getI dX11_so_21 fX11_215 rfl hR.o ?_
        rw [hW]
        first | refine tk_icmp_geN dX11_so_24 (by omega) (by omega) (fun h24 => ?_) (fun h24 => ?_) | refine tk_jcmp_ge dX11_so_24 (fun h24 => ?_) (fun h24 => ?_)
        · refine tk_lload6 dX11_so_62 ?_
          refine tk_lload3 dX11_so_64 ?_
          refine tk_land dX11_so_65 ?_
          refine tk_lreturn dX11_so_66 rfl ?_
          exact tkl (SO_f (row := fun i => I ra (b + i)) hix (by omega)).symm
        · exfalso; omega
      · intro w _ hw kk
        refine tk_iload8 dX11_so_18 ?_
        refine tk_aload0 dX11_so_20 ?_
        refine tk_getI dX11_so_21 fX11_215 rfl hR.o ?_
        rw [hW]
        first | refine tk_icmp_geN dX11_so_24 (by omega) (by omega) (fun h24 => ?_) (fun h24 => ?_) | refine tk_jcmp_ge dX11_so_24 (fun h24 => ?_) (fun h24 => ?_)
        · exfalso; omega
        · refine tk_lload6 dX11_so_27 ?_
          refine tk_aload0 dX11_so_29 ?_
          refine tk_getP dX11_so_30 fX11_80 rfl hR.o (hR.p 28 rfl) ?_
          refine tk_iload8 dX11_so_33 ?_
          refine tk_iald dX11_so_35 (hR.t 64 rfl) (by omega) (by omega) ?_
          refine tk_iload5 dX11_so_36 ?_
          refine tk_ishr dX11_so_38 ?_
          refine tk_iconst dX11_so_39 kc_iconst_1 ?_
          refine tk_iand dX11_so_40 ?_
          refine tk_iconst dX11_so_41 kc_iconst_1 ?_
          first | refine tk_icmp_neN dX11_so_42 (by omega) (by omega) (fun h42 => ?_) (fun h42 => ?_) | refine tk_icmp_ne dX11_so_42 (fun h42 => ?_) (fun h42 => ?_)
          · refine tk_lconst dX11_so_52 (v := 0) (by decide) ?_
            refine tk_lor dX11_so_53 ?_
            refine tk_lstore6 dX11_so_54 rfl ?_
            first | refine tk_iinc8 dX11_so_56 (kc_inc _) rfl ?_ | refine tk_iinc8 dX11_so_56 rfl rfl ?_
            refine tk_goto dX11_so_59 ?_
            refine kk _ ?_
            first | rw [mk_t (f := fun w => decide (kshr (I 64 w) (nI v) &&& nI 1 = nI 1)) (decide_eq_true h42)] | rw [mk_f (f := fun w => decide (kshr (I 64 w) (nI v) &&& nI 1 = nI 1)) (decide_eq_false h42), or0]
            exact (by repeat' (first | exact trivial | refine ⟨Or.inl rfl, ?_⟩ | refine ⟨Or.inr rfl, ?_⟩))
          · refine tk_lconst dX11_so_45 (v := 1) (by decide) ?_
            refine tk_iload8 dX11_so_46 ?_
            refine tk_lshl dX11_so_48 ?_
            refine tk_goto dX11_so_49 ?_
            refine tk_lor dX11_so_53 ?_
            refine tk_lstore6 dX11_so_54 rfl ?_
            first | refine tk_iinc8 dX11_so_56 (kc_inc _) rfl ?_ | refine tk_iinc8 dX11_so_56 rfl rfl ?_
            refine tk_goto dX11_so_59 ?_
            refine kk _ ?_
            first | rw [mk_t (f := fun w => decide (kshr (I 64 w) (nI v) &&& nI 1 = nI 1)) (decide_eq_true h42)] | rw [mk_f (f := fun w => decide (kshr (I 64 w) (nI v) &&& nI 1 = nI 1)) (decide_eq_false h42), or0]
            exact (by repeat' (first | exact trivial | refine ⟨Or.inl rfl, ?_⟩ | refine ⟨Or.inr rfl, ?_⟩))
/-! remaining, isSo -/
def ixm (j : Nat) : Int32 := nI j - nI 1
theorem ixm_s (j : Nat) : ixm (j + 1) = nI j := by unfold ixm; rw [pk_sub (by omega), Nat.add_sub_cancel]
theorem ixm_dec : ∀ j, j < 6 → ixm (j + 1) + Int32.ofInt (-1) = ixm j := by decide +kernel
theorem ixm_lt : ∀ j, j < 6 → ∀ d, d < 7 → (ixm j < nI d ↔ j ≤ d) := by decide +kernel
theorem r_remaining (hR : tkRef T P) {cn dn ds p w : Nat} {cv : Nat → Int64 → Int64} (hcn : I 40 31 = nI cn) (hcn5 : cn ≤ 5) (hp : p < 4) (hw : w < 64) (hdn : dn ≤ 6) (cl : Nat → Nat) (hcl : ∀ c, c < cn → I 68 c = nI (cl c) ∧ 1 ≤ cl c ∧ cl c ≤ 14) (set : Int64)
    (hso : ∀ c, c < cn → tkM G mX11_so ds 0 0 [vR 40, vR 67, vI (nI (14 * c + (cl c - 1))), vL set] (n, T, I, L, P) (tkF (some (vL (cv c set))) (n, T, I, L, P))) : tkM G mX11_remaining (ds + 1) 0 0 [vR 40, vI (nI p), vI (nI w), vL set, vI (nI dn)] (n, T, I, L, P) (tkF (some (vL (rRe (fun c => cv c set) dn cn (L 66 (64 * p + w) &&& set)))) (n, T, I, L, P)) := by
  refine tkM.of (ls := [some _, some _, some _, some _, none, some _, none, none, none, none, none]) (by decide +kernel) (by decide +kernel) (Nat.le_of_ble_eq_true rfl) rfl ?_
  refine tk_aload0 dX11_remaining_0 ?_
  refine tk_getP dX11_remaining_1 fX11_86 rfl hR.o (hR.p 30 rfl) ?_
  refine tk_bipush dX11_remaining_4 kc_bipush_64 ?_
  refine tk_iload1 dX11_remaining_6 ?_
  first | refine tk_imulN dX11_remaining_7 ?_ | refine tk_imul dX11_remaining_7 ?_
  refine tk_iload2 dX11_remaining_8 ?_
  first | refine tk_iaddN dX11_remaining_9 ?_ | refine tk_iadd dX11_remaining_9 ?_
  refine tk_lald dX11_remaining_10 (hR.t 66 rfl) (by omega) (by omega) ?_
  refine tk_lload3 dX11_remaining_11 ?_
  refine tk_land dX11_remaining_12 ?_
  refine tk_lstore6 dX11_remaining_13 rfl ?_
  refine tk_aload0 dX11_remaining_15 ?_
  refine tk_getI dX11_remaining_16 fX11_223 rfl hR.o ?_
  rw [hcn]
  refine tk_iconst dX11_remaining_19 kc_iconst_1 ?_
  refine tk_isub dX11_remaining_20 ?_
  refine tk_istore8 dX11_remaining_21 rfl ?_
  have loop : ∀ (j : Nat) (rest : Int64) (a9 a10 : Option tkV), j ≤ cn → tkX G mX11_remaining (ds + 1) 0 0 23 [some (vR 40), some (vI (nI p)), some (vI (nI w)), some (vL set), none, some (vI (nI dn)), some (vL rest), none, some (vI (ixm j)), a9, a10] [] (n, T, I, L, P) (tkF (some (vL (rRe (fun c => cv c set) dn j rest))) (n, T, I, L, P)) := by
    intro j
    induction j with
    | zero =>
      intro rest a9 a10 _
      refine tk_iload8 dX11_remaining_23 ?_
      refine tk_iload5 dX11_remaining_25 ?_
      first | refine tk_icmp_ltN dX11_remaining_27 (by omega) (by omega) (fun h27 => ?_) (fun h27 => ?_) | refine tk_jcmp_lt dX11_remaining_27 (fun h27 => ?_) (fun h27 => ?_)
      · refine tk_lload6 dX11_remaining_84 ?_
        refine tk_lreturn dX11_remaining_86 rfl ?_
        exact ⟨rfl, rfl⟩
      · exact absurd ((ixm_lt 0 (by omega) dn (by omega)).mpr (by omega)) (Int32.not_lt.mpr h27)
    | succ j ih =>
      intro rest a9 a10 hj
      obtain ⟨hc1, hc2, hc3⟩ := hcl j (by omega)
      refine tk_iload8 dX11_remaining_23 ?_
      refine tk_iload5 dX11_remaining_25 ?_
      first | refine tk_icmp_ltN dX11_remaining_27 (by omega) (by omega) (fun h27 => ?_) (fun h27 => ?_) | refine tk_jcmp_lt dX11_remaining_27 (fun h27 => ?_) (fun h27 => ?_)
      · refine tk_lload6 dX11_remaining_84 ?_
        refine tk_lreturn dX11_remaining_86 rfl ?_
        exact tkl (if_pos ((ixm_lt (j + 1) (by omega) dn (by omega)).mp h27)).symm
      · refine tk_aload0 dX11_remaining_30 ?_
        rw [ixm_s]
        refine tk_aload0 dX11_remaining_31 ?_
        refine tk_getP dX11_remaining_32 fX11_90 rfl hR.o (hR.p 32 rfl) ?_
        refine tk_bipush dX11_remaining_35 kc_bipush_14 ?_
        refine tk_iload8 dX11_remaining_37 ?_
        first | refine tk_imulN dX11_remaining_39 ?_ | refine tk_imul dX11_remaining_39 ?_
        refine tk_aload0 dX11_remaining_40 ?_
        refine tk_getP dX11_remaining_41 fX11_93 rfl hR.o (hR.p 33 rfl) ?_
        refine tk_iload8 dX11_remaining_44 ?_
        refine tk_iald dX11_remaining_46 (hR.t 68 rfl) (by omega) (by omega) ?_
        rw [hc1]
        first | refine tk_iaddN dX11_remaining_47 ?_ | refine tk_iadd dX11_remaining_47 ?_
        refine tk_iconst dX11_remaining_48 kc_iconst_1 ?_
        first | refine tk_isubN dX11_remaining_49 (by omega) ?_ | refine tk_isub dX11_remaining_49 ?_
        rw [show 14 * j + cl j - 1 = 14 * j + (cl j - 1) by omega]
        refine tk_lload3 dX11_remaining_50 ?_
        refine tk_callV3z dX11_remaining_51 kX11_233 hR.o (hso j (by omega)) (Nat.le_of_ble_eq_true rfl) (by omega) ?_
        refine tk_lstore9 dX11_remaining_54 rfl ?_
        refine tk_lload9 dX11_remaining_56 ?_
        refine tk_lload6 dX11_remaining_58 ?_
        refine tk_land dX11_remaining_60 ?_
        refine tk_lconst dX11_remaining_61 (v := 0) (by decide) ?_
        refine tk_lcmp dX11_remaining_62 ?_
        first | refine tk_jf_eqB dX11_remaining_63 (fun h63 => ?_) (fun h63 => ?_) | refine tk_if_eq dX11_remaining_63 (fun h63 => ?_) (fun h63 => ?_)
        · refine tk_lload6 dX11_remaining_74 ?_
          refine tk_lstore6 dX11_remaining_76 rfl ?_
          refine tk_iinc8 dX11_remaining_78 (v := ixm j) (by rw [← ixm_s]; exact ixm_dec j (by omega)) rfl ?_
          refine tk_goto dX11_remaining_81 ?_
          have hlt : ¬ j < dn := fun q => Int32.not_lt.mpr h27 ((ixm_lt (j + 1) (by omega) dn (by omega)).mpr q)
          rw [show rRe (fun c => cv c set) dn (j + 1) rest = rRe (fun c => cv c set) dn j (if cv j set &&& rest = 0 then rest else cv j set &&& rest) from if_neg hlt]
          first | rw [if_pos ((lgc0 _ _).mp h63)] | rw [if_neg (fun e => h63 ((lgc0 _ _).mpr e))]
          exact ih _ _ _ (by omega)
        · refine tk_lload9 dX11_remaining_66 ?_
          refine tk_lload6 dX11_remaining_68 ?_
          refine tk_land dX11_remaining_70 ?_
          refine tk_goto dX11_remaining_71 ?_
          refine tk_lstore6 dX11_remaining_76 rfl ?_
          refine tk_iinc8 dX11_remaining_78 (v := ixm j) (by rw [← ixm_s]; exact ixm_dec j (by omega)) rfl ?_
          refine tk_goto dX11_remaining_81 ?_
          have hlt : ¬ j < dn := fun q => Int32.not_lt.mpr h27 ((ixm_lt (j + 1) (by omega) dn (by omega)).mpr q)
          rw [show rRe (fun c => cv c set) dn (j + 1) rest = rRe (fun c => cv c set) dn j (if cv j set &&& rest = 0 then rest else cv j set &&& rest) from if_neg hlt]
          first | rw [if_pos ((lgc0 _ _).mp h63)] | rw [if_neg (fun e => h63 ((lgc0 _ _).mpr e))]
          exact ih _ _ _ (by omega)
  exact loop cn _ none none (by omega)
theorem tkb_and (a b : Bool) : tkb a &&& tkb b = tkb (a && b) := by cases a <;> cases b <;> decide +kernel
theorem r_isSo (hR : tkRef T P) {np W cn ds v w : Nat} {cv : Nat → Int64} (hnp : I 41 0 = nI np) (hnp4 : np ≤ 4) (hW : I 40 26 = nI W) (hW2 : W ≤ 64) (hds : 1 ≤ ds) (h20 : 20 ≤ v) (h40 : v ≤ 40) (hw : w < W) (x set : Int64)
    (hrem : 28 ≤ v → v < 32 → tkM G mX11_remaining (ds - 1) 0 0 [vR 40, vI (nI (v - 28)), vI (nI w), vL set, vI (nI 0)] (n, T, I, L, P) (tkF (some (vL (rRe cv 0 cn (L 66 (64 * (v - 28) + w) &&& set)))) (n, T, I, L, P))) : tkM G mX11_isSo ds 0 0 [vR 40, vI (nI v), vI (nI w), vL x, vL set] (n, T, I, L, P) (tkF (some (vI (tkb (rIsS np W (L 66) (I 69) cn cv v w x set)))) (n, T, I, L, P)) := by
  have hone : ¬ jshl 1 (nI w) = 0 := fun e => by
    have := tb_b (k := w) (i := w) (by omega) (by omega)
    rw [e, tb_0] at this
    simp at this
  have k125 : 32 ≤ v → tkX G mX11_isSo ds 0 0 125 [some (vR 40), some (vI (nI v)), some (vI (nI w)), some (vL x), none, some (vL set), none, none, none, none, none, none] [vI (I 69 (rGi v))] (n, T, I, L, P) (tkF (some (vI (tkb (rIsS np W (L 66) (I 69) cn cv v w x set)))) (n, T, I, L, P)) := by
    intro h32
    refine tk_istore7 dX11_isSo_125 rfl ?_
    refine tk_iload1 dX11_isSo_127 ?_
    refine tk_bipush dX11_isSo_128 kc_bipush_35 ?_
    first | refine tk_icmp_ltN dX11_isSo_130 (by omega) (by omega) (fun h130 => ?_) (fun h130 => ?_) | refine tk_jcmp_lt dX11_isSo_130 (fun h130 => ?_) (fun h130 => ?_)
    · refine tk_iconst dX11_isSo_167 kc_iconst_1 ?_
      refine tk_istore8 dX11_isSo_168 rfl ?_
      refine tk_lload5 dX11_isSo_170 ?_
      refine tk_lstore9 dX11_isSo_172 rfl ?_
      refine tk_iconst dX11_isSo_174 kc_iconst_0 ?_
      refine tk_istore11 dX11_isSo_175 rfl ?_
      refine tk_fr 0 np (fun p => [some (vR 40), some (vI (nI v)), some (vI (nI w)), some (vL x), none, some (vL set), none, some (vI (I 69 (rGi v))), some (vI (tkb (rEa (L 66) (I 69 (rGi v)) w x set p))), some (vL (rTo (L 66) (I 69 (rGi v)) w set p)), none, some (vI (nI p))]) (fun p => (n, T, I, L, P)) (by omega) (by repeat' (first | exact trivial | refine ⟨Or.inl rfl, ?_⟩ | refine ⟨Or.inr rfl, ?_⟩)) rfl ?_ ?_
      · refine tk_iload11 dX11_isSo_177 ?_
        refine tk_aload0 dX11_isSo_179 ?_
        refine tk_getP dX11_isSo_180 fX11_7 rfl hR.o (hR.p 0 rfl) ?_
        refine tk_iconst dX11_isSo_183 kc_iconst_0 ?_
        refine tk_iald dX11_isSo_184 (hR.t 41 rfl) (by omega) (by omega) ?_
        rw [hnp]
        first | refine tk_icmp_geN dX11_isSo_185 (by omega) (by omega) (fun h185 => ?_) (fun h185 => ?_) | refine tk_jcmp_ge dX11_isSo_185 (fun h185 => ?_) (fun h185 => ?_)
        · refine tk_iload1 dX11_isSo_237 ?_
          refine tk_bipush dX11_isSo_238 kc_bipush_35 ?_
          first | refine tk_icmp_geN dX11_isSo_240 (by omega) (by omega) (fun h240 => ?_) (fun h240 => ?_) | refine tk_jcmp_ge dX11_isSo_240 (fun h240 => ?_) (fun h240 => ?_)
          · refine tk_lload9 dX11_isSo_248 ?_
            refine tk_lload3 dX11_isSo_250 ?_
            refine tk_ldc2 dX11_isSo_251 klX11_218 ?_
            refine tk_lxor dX11_isSo_254 ?_
            refine tk_land dX11_isSo_255 ?_
            refine tk_lconst dX11_isSo_256 (v := 0) (by decide) ?_
            refine tk_lcmp dX11_isSo_257 ?_
            first | refine tk_jf_neB dX11_isSo_258 (fun h258 => ?_) (fun h258 => ?_) | refine tk_if_ne dX11_isSo_258 (fun h258 => ?_) (fun h258 => ?_)
            · refine tk_iconst dX11_isSo_265 kc_iconst_0 ?_
              first | refine tk_zreturn dX11_isSo_266 rfl ?_ | refine tk_zret0 dX11_isSo_266 rfl ?_ | refine tk_zret1 dX11_isSo_266 rfl ?_
              first | exact tkz (by unfold rIsS; rw [if_neg (by omega), if_neg (by omega), if_neg (by omega), if_pos h240]) | exact tkz (by unfold rIsS; rw [if_neg (by omega), if_neg (by omega), if_neg (by omega), if_neg (by omega), if_neg (by omega), decide_eq_true ((lgc0 _ _).mp h258)]) | exact tkz (by unfold rIsS; rw [if_neg (by omega), if_neg (by omega), if_neg (by omega), if_neg (by omega), if_neg (by omega), decide_eq_false (fun e => h258 ((lgc0 _ _).mpr e))])
            · refine tk_iconst dX11_isSo_261 kc_iconst_1 ?_
              refine tk_goto dX11_isSo_262 ?_
              first | refine tk_zreturn dX11_isSo_266 rfl ?_ | refine tk_zret0 dX11_isSo_266 rfl ?_ | refine tk_zret1 dX11_isSo_266 rfl ?_
              first | exact tkz (by unfold rIsS; rw [if_neg (by omega), if_neg (by omega), if_neg (by omega), if_pos h240]) | exact tkz (by unfold rIsS; rw [if_neg (by omega), if_neg (by omega), if_neg (by omega), if_neg (by omega), if_neg (by omega), decide_eq_true ((lgc0 _ _).mp h258)]) | exact tkz (by unfold rIsS; rw [if_neg (by omega), if_neg (by omega), if_neg (by omega), if_neg (by omega), if_neg (by omega), decide_eq_false (fun e => h258 ((lgc0 _ _).mpr e))])
          · refine tk_iload8 dX11_isSo_243 ?_
            refine tk_goto dX11_isSo_245 ?_
            first | refine tk_zreturn dX11_isSo_266 rfl ?_ | refine tk_zret0 dX11_isSo_266 rfl ?_ | refine tk_zret1 dX11_isSo_266 rfl ?_
            first | exact tkz (by unfold rIsS; rw [if_neg (by omega), if_neg (by omega), if_neg (by omega), if_pos h240]) | exact tkz (by unfold rIsS; rw [if_neg (by omega), if_neg (by omega), if_neg (by omega), if_neg (by omega), if_neg (by omega), decide_eq_true ((lgc0 _ _).mp h258)]) | exact tkz (by unfold rIsS; rw [if_neg (by omega), if_neg (by omega), if_neg (by omega), if_neg (by omega), if_neg (by omega), decide_eq_false (fun e => h258 ((lgc0 _ _).mpr e))])
        · exfalso; omega
      · intro p _ hp kk
        refine tk_iload11 dX11_isSo_177 ?_
        refine tk_aload0 dX11_isSo_179 ?_
        refine tk_getP dX11_isSo_180 fX11_7 rfl hR.o (hR.p 0 rfl) ?_
        refine tk_iconst dX11_isSo_183 kc_iconst_0 ?_
        refine tk_iald dX11_isSo_184 (hR.t 41 rfl) (by omega) (by omega) ?_
        rw [hnp]
        first | refine tk_icmp_geN dX11_isSo_185 (by omega) (by omega) (fun h185 => ?_) (fun h185 => ?_) | refine tk_jcmp_ge dX11_isSo_185 (fun h185 => ?_) (fun h185 => ?_)
        · exfalso; omega
        · refine tk_iload7 dX11_isSo_188 ?_
          refine tk_iload11 dX11_isSo_190 ?_
          refine tk_ishr dX11_isSo_192 ?_
          refine tk_iconst dX11_isSo_193 kc_iconst_1 ?_
          refine tk_iand dX11_isSo_194 ?_
          refine tk_iconst dX11_isSo_195 kc_iconst_1 ?_
          first | refine tk_icmp_neN dX11_isSo_196 (by omega) (by omega) (fun h196 => ?_) (fun h196 => ?_) | refine tk_icmp_ne dX11_isSo_196 (fun h196 => ?_) (fun h196 => ?_)
          · first | refine tk_iinc11 dX11_isSo_231 (kc_inc _) rfl ?_ | refine tk_iinc11 dX11_isSo_231 rfl rfl ?_
            refine tk_goto dX11_isSo_234 ?_
            refine kk _ ?_
            first | rw [show rEa (L 66) (I 69 (rGi v)) w x set (p + 1) = _ from if_pos (decide_eq_true h196), show rTo (L 66) (I 69 (rGi v)) w set (p + 1) = _ from if_pos (decide_eq_true h196)] | rw [show rEa (L 66) (I 69 (rGi v)) w x set (p + 1) = _ from if_neg (fun q => h196 (of_decide_eq_true q)), show rTo (L 66) (I 69 (rGi v)) w set (p + 1) = _ from if_neg (fun q => h196 (of_decide_eq_true q))]
            exact (by repeat' (first | exact trivial | refine ⟨Or.inl rfl, ?_⟩ | refine ⟨Or.inr rfl, ?_⟩))
          · refine tk_iload8 dX11_isSo_199 ?_
            refine tk_aload0 dX11_isSo_201 ?_
            refine tk_iload11 dX11_isSo_202 ?_
            refine tk_iload2 dX11_isSo_204 ?_
            refine tk_lload3 dX11_isSo_205 ?_
            refine tk_lload5 dX11_isSo_206 ?_
            refine tk_callV4z dX11_isSo_208 kX11_241 hR.o (r_knows hR (by omega) (by omega) x set) (Nat.le_of_ble_eq_true rfl) (by omega) ?_
            refine tk_iand dX11_isSo_211 ?_
            rw [tkb_and]
            refine tk_istore8 dX11_isSo_212 rfl ?_
            refine tk_lload9 dX11_isSo_214 ?_
            refine tk_aload0 dX11_isSo_216 ?_
            refine tk_getP dX11_isSo_217 fX11_86 rfl hR.o (hR.p 30 rfl) ?_
            refine tk_bipush dX11_isSo_220 kc_bipush_64 ?_
            refine tk_iload11 dX11_isSo_222 ?_
            first | refine tk_imulN dX11_isSo_224 ?_ | refine tk_imul dX11_isSo_224 ?_
            refine tk_iload2 dX11_isSo_225 ?_
            first | refine tk_iaddN dX11_isSo_226 ?_ | refine tk_iadd dX11_isSo_226 ?_
            refine tk_lald dX11_isSo_227 (hR.t 66 rfl) (by omega) (by omega) ?_
            refine tk_land dX11_isSo_228 ?_
            refine tk_lstore9 dX11_isSo_229 rfl ?_
            first | refine tk_iinc11 dX11_isSo_231 (kc_inc _) rfl ?_ | refine tk_iinc11 dX11_isSo_231 rfl rfl ?_
            refine tk_goto dX11_isSo_234 ?_
            refine kk _ ?_
            first | rw [show rEa (L 66) (I 69 (rGi v)) w x set (p + 1) = _ from if_pos (decide_eq_true h196), show rTo (L 66) (I 69 (rGi v)) w set (p + 1) = _ from if_pos (decide_eq_true h196)] | rw [show rEa (L 66) (I 69 (rGi v)) w x set (p + 1) = _ from if_neg (fun q => h196 (of_decide_eq_true q)), show rTo (L 66) (I 69 (rGi v)) w set (p + 1) = _ from if_neg (fun q => h196 (of_decide_eq_true q))]
            exact (by repeat' (first | exact trivial | refine ⟨Or.inl rfl, ?_⟩ | refine ⟨Or.inr rfl, ?_⟩))
    · refine tk_iload1 dX11_isSo_133 ?_
      refine tk_bipush dX11_isSo_134 kc_bipush_38 ?_
      first | refine tk_icmp_geN dX11_isSo_136 (by omega) (by omega) (fun h136 => ?_) (fun h136 => ?_) | refine tk_jcmp_ge dX11_isSo_136 (fun h136 => ?_) (fun h136 => ?_)
      · refine tk_iconst dX11_isSo_167 kc_iconst_1 ?_
        refine tk_istore8 dX11_isSo_168 rfl ?_
        refine tk_lload5 dX11_isSo_170 ?_
        refine tk_lstore9 dX11_isSo_172 rfl ?_
        refine tk_iconst dX11_isSo_174 kc_iconst_0 ?_
        refine tk_istore11 dX11_isSo_175 rfl ?_
        refine tk_fr 0 np (fun p => [some (vR 40), some (vI (nI v)), some (vI (nI w)), some (vL x), none, some (vL set), none, some (vI (I 69 (rGi v))), some (vI (tkb (rEa (L 66) (I 69 (rGi v)) w x set p))), some (vL (rTo (L 66) (I 69 (rGi v)) w set p)), none, some (vI (nI p))]) (fun p => (n, T, I, L, P)) (by omega) (by repeat' (first | exact trivial | refine ⟨Or.inl rfl, ?_⟩ | refine ⟨Or.inr rfl, ?_⟩)) rfl ?_ ?_
        · refine tk_iload11 dX11_isSo_177 ?_
          refine tk_aload0 dX11_isSo_179 ?_
          refine tk_getP dX11_isSo_180 fX11_7 rfl hR.o (hR.p 0 rfl) ?_
          refine tk_iconst dX11_isSo_183 kc_iconst_0 ?_
          refine tk_iald dX11_isSo_184 (hR.t 41 rfl) (by omega) (by omega) ?_
          rw [hnp]
          first | refine tk_icmp_geN dX11_isSo_185 (by omega) (by omega) (fun h185 => ?_) (fun h185 => ?_) | refine tk_jcmp_ge dX11_isSo_185 (fun h185 => ?_) (fun h185 => ?_)
          · refine tk_iload1 dX11_isSo_237 ?_
            refine tk_bipush dX11_isSo_238 kc_bipush_35 ?_
            first | refine tk_icmp_geN dX11_isSo_240 (by omega) (by omega) (fun h240 => ?_) (fun h240 => ?_) | refine tk_jcmp_ge dX11_isSo_240 (fun h240 => ?_) (fun h240 => ?_)
            · refine tk_lload9 dX11_isSo_248 ?_
              refine tk_lload3 dX11_isSo_250 ?_
              refine tk_ldc2 dX11_isSo_251 klX11_218 ?_
              refine tk_lxor dX11_isSo_254 ?_
              refine tk_land dX11_isSo_255 ?_
              refine tk_lconst dX11_isSo_256 (v := 0) (by decide) ?_
              refine tk_lcmp dX11_isSo_257 ?_
              first | refine tk_jf_neB dX11_isSo_258 (fun h258 => ?_) (fun h258 => ?_) | refine tk_if_ne dX11_isSo_258 (fun h258 => ?_) (fun h258 => ?_)
              · refine tk_iconst dX11_isSo_265 kc_iconst_0 ?_
                first | refine tk_zreturn dX11_isSo_266 rfl ?_ | refine tk_zret0 dX11_isSo_266 rfl ?_ | refine tk_zret1 dX11_isSo_266 rfl ?_
                first | exact tkz (by unfold rIsS; rw [if_neg (by omega), if_neg (by omega), if_neg (by omega), if_pos h240]) | exact tkz (by unfold rIsS; rw [if_neg (by omega), if_neg (by omega), if_neg (by omega), if_neg (by omega), if_neg (by omega), decide_eq_true ((lgc0 _ _).mp h258)]) | exact tkz (by unfold rIsS; rw [if_neg (by omega), if_neg (by omega), if_neg (by omega), if_neg (by omega), if_neg (by omega), decide_eq_false (fun e => h258 ((lgc0 _ _).mpr e))])
              · refine tk_iconst dX11_isSo_261 kc_iconst_1 ?_
                refine tk_goto dX11_isSo_262 ?_
                first | refine tk_zreturn dX11_isSo_266 rfl ?_ | refine tk_zret0 dX11_isSo_266 rfl ?_ | refine tk_zret1 dX11_isSo_266 rfl ?_
                first | exact tkz (by unfold rIsS; rw [if_neg (by omega), if_neg (by omega), if_neg (by omega), if_pos h240]) | exact tkz (by unfold rIsS; rw [if_neg (by omega), if_neg (by omega), if_neg (by omega), if_neg (by omega), if_neg (by omega), decide_eq_true ((lgc0 _ _).mp h258)]) | exact tkz (by unfold rIsS; rw [if_neg (by omega), if_neg (by omega), if_neg (by omega), if_neg (by omega), if_neg (by omega), decide_eq_false (fun e => h258 ((lgc0 _ _).mpr e))])
            · refine tk_iload8 dX11_isSo_243 ?_
              refine tk_goto dX11_isSo_245 ?_
              first | refine tk_zreturn dX11_isSo_266 rfl ?_ | refine tk_zret0 dX11_isSo_266 rfl ?_ | refine tk_zret1 dX11_isSo_266 rfl ?_
              first | exact tkz (by unfold rIsS; rw [if_neg (by omega), if_neg (by omega), if_neg (by omega), if_pos h240]) | exact tkz (by unfold rIsS; rw [if_neg (by omega), if_neg (by omega), if_neg (by omega), if_neg (by omega), if_neg (by omega), decide_eq_true ((lgc0 _ _).mp h258)]) | exact tkz (by unfold rIsS; rw [if_neg (by omega), if_neg (by omega), if_neg (by omega), if_neg (by omega), if_neg (by omega), decide_eq_false (fun e => h258 ((lgc0 _ _).mpr e))])
          · exfalso; omega
        · intro p _ hp kk
          refine tk_iload11 dX11_isSo_177 ?_
          refine tk_aload0 dX11_isSo_179 ?_
          refine tk_getP dX11_isSo_180 fX11_7 rfl hR.o (hR.p 0 rfl) ?_
          refine tk_iconst dX11_isSo_183 kc_iconst_0 ?_
          refine tk_iald dX11_isSo_184 (hR.t 41 rfl) (by omega) (by omega) ?_
          rw [hnp]
          first | refine tk_icmp_geN dX11_isSo_185 (by omega) (by omega) (fun h185 => ?_) (fun h185 => ?_) | refine tk_jcmp_ge dX11_isSo_185 (fun h185 => ?_) (fun h185 => ?_)
          · exfalso; omega
          · refine tk_iload7 dX11_isSo_188 ?_
            refine tk_iload11 dX11_isSo_190 ?_
            refine tk_ishr dX11_isSo_192 ?_
            refine tk_iconst dX11_isSo_193 kc_iconst_1 ?_
            refine tk_iand dX11_isSo_194 ?_
            refine tk_iconst dX11_isSo_195 kc_iconst_1 ?_
            first | refine tk_icmp_neN dX11_isSo_196 (by omega) (by omega) (fun h196 => ?_) (fun h196 => ?_) | refine tk_icmp_ne dX11_isSo_196 (fun h196 => ?_) (fun h196 => ?_)
            · first | refine tk_iinc11 dX11_isSo_231 (kc_inc _) rfl ?_ | refine tk_iinc11 dX11_isSo_231 rfl rfl ?_
              refine tk_goto dX11_isSo_234 ?_
              refine kk _ ?_
              first | rw [show rEa (L 66) (I 69 (rGi v)) w x set (p + 1) = _ from if_pos (decide_eq_true h196), show rTo (L 66) (I 69 (rGi v)) w set (p + 1) = _ from if_pos (decide_eq_true h196)] | rw [show rEa (L 66) (I 69 (rGi v)) w x set (p + 1) = _ from if_neg (fun q => h196 (of_decide_eq_true q)), show rTo (L 66) (I 69 (rGi v)) w set (p + 1) = _ from if_neg (fun q => h196 (of_decide_eq_true q))]
              exact (by repeat' (first | exact trivial | refine ⟨Or.inl rfl, ?_⟩ | refine ⟨Or.inr rfl, ?_⟩))
            · refine tk_iload8 dX11_isSo_199 ?_
              refine tk_aload0 dX11_isSo_201 ?_
              refine tk_iload11 dX11_isSo_202 ?_
              refine tk_iload2 dX11_isSo_204 ?_
              refine tk_lload3 dX11_isSo_205 ?_
              refine tk_lload5 dX11_isSo_206 ?_
              refine tk_callV4z dX11_isSo_208 kX11_241 hR.o (r_knows hR (by omega) (by omega) x set) (Nat.le_of_ble_eq_true rfl) (by omega) ?_
              refine tk_iand dX11_isSo_211 ?_
              rw [tkb_and]
              refine tk_istore8 dX11_isSo_212 rfl ?_
              refine tk_lload9 dX11_isSo_214 ?_
              refine tk_aload0 dX11_isSo_216 ?_
              refine tk_getP dX11_isSo_217 fX11_86 rfl hR.o (hR.p 30 rfl) ?_
              refine tk_bipush dX11_isSo_220 kc_bipush_64 ?_
              refine tk_iload11 dX11_isSo_222 ?_
              first | refine tk_imulN dX11_isSo_224 ?_ | refine tk_imul dX11_isSo_224 ?_
              refine tk_iload2 dX11_isSo_225 ?_
              first | refine tk_iaddN dX11_isSo_226 ?_ | refine tk_iadd dX11_isSo_226 ?_
              refine tk_lald dX11_isSo_227 (hR.t 66 rfl) (by omega) (by omega) ?_
              refine tk_land dX11_isSo_228 ?_
              refine tk_lstore9 dX11_isSo_229 rfl ?_
              first | refine tk_iinc11 dX11_isSo_231 (kc_inc _) rfl ?_ | refine tk_iinc11 dX11_isSo_231 rfl rfl ?_
              refine tk_goto dX11_isSo_234 ?_
              refine kk _ ?_
              first | rw [show rEa (L 66) (I 69 (rGi v)) w x set (p + 1) = _ from if_pos (decide_eq_true h196), show rTo (L 66) (I 69 (rGi v)) w set (p + 1) = _ from if_pos (decide_eq_true h196)] | rw [show rEa (L 66) (I 69 (rGi v)) w x set (p + 1) = _ from if_neg (fun q => h196 (of_decide_eq_true q)), show rTo (L 66) (I 69 (rGi v)) w set (p + 1) = _ from if_neg (fun q => h196 (of_decide_eq_true q))]
              exact (by repeat' (first | exact trivial | refine ⟨Or.inl rfl, ?_⟩ | refine ⟨Or.inr rfl, ?_⟩))
      · refine tk_aload0 dX11_isSo_139 ?_
        refine tk_iload7 dX11_isSo_140 ?_
        refine tk_lconst dX11_isSo_142 (v := 1) (by decide) ?_
        refine tk_iload2 dX11_isSo_143 ?_
        refine tk_lshl dX11_isSo_144 ?_
        refine tk_lload5 dX11_isSo_145 ?_
        refine tk_callV3z dX11_isSo_147 kX11_248 hR.o (r_comesTo hR hnp hnp4 hW hW2 _ _ _ hone) (Nat.le_of_ble_eq_true rfl) (by omega) ?_
        refine tk_lload3 dX11_isSo_150 ?_
        refine tk_ldc2 dX11_isSo_151 klX11_218 ?_
        refine tk_lxor dX11_isSo_154 ?_
        refine tk_land dX11_isSo_155 ?_
        refine tk_lconst dX11_isSo_156 (v := 0) (by decide) ?_
        refine tk_lcmp dX11_isSo_157 ?_
        first | refine tk_jf_neB dX11_isSo_158 (fun h158 => ?_) (fun h158 => ?_) | refine tk_if_ne dX11_isSo_158 (fun h158 => ?_) (fun h158 => ?_)
        · refine tk_iconst dX11_isSo_165 kc_iconst_0 ?_
          first | refine tk_zreturn dX11_isSo_166 rfl ?_ | refine tk_zret0 dX11_isSo_166 rfl ?_ | refine tk_zret1 dX11_isSo_166 rfl ?_
          first | exact tkz (by unfold rIsS; rw [if_neg (by omega), if_neg (by omega), if_neg (by omega), if_neg (by omega), if_pos (by omega), decide_eq_true ((lgc0 _ _).mp h158)]) | exact tkz (by unfold rIsS; rw [if_neg (by omega), if_neg (by omega), if_neg (by omega), if_neg (by omega), if_pos (by omega), decide_eq_false (fun e => h158 ((lgc0 _ _).mpr e))])
        · refine tk_iconst dX11_isSo_161 kc_iconst_1 ?_
          refine tk_goto dX11_isSo_162 ?_
          first | refine tk_zreturn dX11_isSo_166 rfl ?_ | refine tk_zret0 dX11_isSo_166 rfl ?_ | refine tk_zret1 dX11_isSo_166 rfl ?_
          first | exact tkz (by unfold rIsS; rw [if_neg (by omega), if_neg (by omega), if_neg (by omega), if_neg (by omega), if_pos (by omega), decide_eq_true ((lgc0 _ _).mp h158)]) | exact tkz (by unfold rIsS; rw [if_neg (by omega), if_neg (by omega), if_neg (by omega), if_neg (by omega), if_pos (by omega), decide_eq_false (fun e => h158 ((lgc0 _ _).mpr e))])
  refine tkM.of (ls := [some _, some _, some _, some _, none, some _, none, none, none, none, none, none]) (by decide +kernel) (by decide +kernel) (Nat.le_of_ble_eq_true rfl) rfl ?_
  refine tk_iload1 dX11_isSo_0 ?_
  refine tk_bipush dX11_isSo_1 kc_bipush_24 ?_
  first | refine tk_icmp_geN dX11_isSo_3 (by omega) (by omega) (fun h3 => ?_) (fun h3 => ?_) | refine tk_jcmp_ge dX11_isSo_3 (fun h3 => ?_) (fun h3 => ?_)
  · refine tk_iload1 dX11_isSo_19 ?_
    refine tk_bipush dX11_isSo_20 kc_bipush_28 ?_
    first | refine tk_icmp_geN dX11_isSo_22 (by omega) (by omega) (fun h22 => ?_) (fun h22 => ?_) | refine tk_jcmp_ge dX11_isSo_22 (fun h22 => ?_) (fun h22 => ?_)
    · refine tk_iload1 dX11_isSo_55 ?_
      refine tk_bipush dX11_isSo_56 kc_bipush_32 ?_
      first | refine tk_icmp_geN dX11_isSo_58 (by omega) (by omega) (fun h58 => ?_) (fun h58 => ?_) | refine tk_jcmp_ge dX11_isSo_58 (fun h58 => ?_) (fun h58 => ?_)
      · refine tk_aload0 dX11_isSo_90 ?_
        refine tk_getP dX11_isSo_91 fX11_96 rfl hR.o (hR.p 34 rfl) ?_
        refine tk_iload1 dX11_isSo_94 ?_
        refine tk_bipush dX11_isSo_95 kc_bipush_35 ?_
        first | refine tk_icmp_geN dX11_isSo_97 (by omega) (by omega) (fun h97 => ?_) (fun h97 => ?_) | refine tk_jcmp_ge dX11_isSo_97 (fun h97 => ?_) (fun h97 => ?_)
        · refine tk_iload1 dX11_isSo_107 ?_
          refine tk_bipush dX11_isSo_108 kc_bipush_38 ?_
          first | refine tk_icmp_geN dX11_isSo_110 (by omega) (by omega) (fun h110 => ?_) (fun h110 => ?_) | refine tk_jcmp_ge dX11_isSo_110 (fun h110 => ?_) (fun h110 => ?_)
          · refine tk_iload1 dX11_isSo_120 ?_
            refine tk_bipush dX11_isSo_121 kc_bipush_38 ?_
            first | refine tk_isubN dX11_isSo_123 (by omega) ?_ | refine tk_isub dX11_isSo_123 ?_
            refine tk_iald dX11_isSo_124 (hR.t 69 rfl) (by omega) (by omega) ?_
            refine Eq.mp ?_ (k125 (by omega))
            congr 4
            unfold rGi
            first | rw [if_pos (by omega)] | rw [if_neg (by omega), if_pos (by omega)] | rw [if_neg (by omega), if_neg (by omega)]
          · refine tk_iload1 dX11_isSo_113 ?_
            refine tk_bipush dX11_isSo_114 kc_bipush_35 ?_
            first | refine tk_isubN dX11_isSo_116 (by omega) ?_ | refine tk_isub dX11_isSo_116 ?_
            refine tk_goto dX11_isSo_117 ?_
            refine tk_iald dX11_isSo_124 (hR.t 69 rfl) (by omega) (by omega) ?_
            refine Eq.mp ?_ (k125 (by omega))
            congr 4
            unfold rGi
            first | rw [if_pos (by omega)] | rw [if_neg (by omega), if_pos (by omega)] | rw [if_neg (by omega), if_neg (by omega)]
        · refine tk_iload1 dX11_isSo_100 ?_
          refine tk_bipush dX11_isSo_101 kc_bipush_32 ?_
          first | refine tk_isubN dX11_isSo_103 (by omega) ?_ | refine tk_isub dX11_isSo_103 ?_
          refine tk_goto dX11_isSo_104 ?_
          refine tk_iald dX11_isSo_124 (hR.t 69 rfl) (by omega) (by omega) ?_
          refine Eq.mp ?_ (k125 (by omega))
          congr 4
          unfold rGi
          first | rw [if_pos (by omega)] | rw [if_neg (by omega), if_pos (by omega)] | rw [if_neg (by omega), if_neg (by omega)]
      · refine tk_aload0 dX11_isSo_61 ?_
        refine tk_iload1 dX11_isSo_62 ?_
        refine tk_bipush dX11_isSo_63 kc_bipush_28 ?_
        first | refine tk_isubN dX11_isSo_65 (by omega) ?_ | refine tk_isub dX11_isSo_65 ?_
        refine tk_iload2 dX11_isSo_66 ?_
        refine tk_lload5 dX11_isSo_67 ?_
        refine tk_iconst dX11_isSo_69 kc_iconst_0 ?_
        refine tk_callV4z dX11_isSo_70 kX11_244 hR.o (hrem (by omega) (by omega)) (Nat.le_of_ble_eq_true rfl) (by omega) ?_
        refine tk_lload3 dX11_isSo_73 ?_
        refine tk_ldc2 dX11_isSo_74 klX11_218 ?_
        refine tk_lxor dX11_isSo_77 ?_
        refine tk_land dX11_isSo_78 ?_
        refine tk_lconst dX11_isSo_79 (v := 0) (by decide) ?_
        refine tk_lcmp dX11_isSo_80 ?_
        first | refine tk_jf_neB dX11_isSo_81 (fun h81 => ?_) (fun h81 => ?_) | refine tk_if_ne dX11_isSo_81 (fun h81 => ?_) (fun h81 => ?_)
        · refine tk_iconst dX11_isSo_88 kc_iconst_0 ?_
          first | refine tk_zreturn dX11_isSo_89 rfl ?_ | refine tk_zret0 dX11_isSo_89 rfl ?_ | refine tk_zret1 dX11_isSo_89 rfl ?_
          first | exact tkz (by unfold rIsS; rw [if_neg (by omega), if_neg (by omega), if_pos (by omega), decide_eq_true ((lgc0 _ _).mp h81)]) | exact tkz (by unfold rIsS; rw [if_neg (by omega), if_neg (by omega), if_pos (by omega), decide_eq_false (fun e => h81 ((lgc0 _ _).mpr e))])
        · refine tk_iconst dX11_isSo_84 kc_iconst_1 ?_
          refine tk_goto dX11_isSo_85 ?_
          first | refine tk_zreturn dX11_isSo_89 rfl ?_ | refine tk_zret0 dX11_isSo_89 rfl ?_ | refine tk_zret1 dX11_isSo_89 rfl ?_
          first | exact tkz (by unfold rIsS; rw [if_neg (by omega), if_neg (by omega), if_pos (by omega), decide_eq_true ((lgc0 _ _).mp h81)]) | exact tkz (by unfold rIsS; rw [if_neg (by omega), if_neg (by omega), if_pos (by omega), decide_eq_false (fun e => h81 ((lgc0 _ _).mpr e))])
    · refine tk_aload0 dX11_isSo_25 ?_
      refine tk_getP dX11_isSo_26 fX11_86 rfl hR.o (hR.p 30 rfl) ?_
      refine tk_bipush dX11_isSo_29 kc_bipush_64 ?_
      refine tk_iload1 dX11_isSo_31 ?_
      refine tk_bipush dX11_isSo_32 kc_bipush_24 ?_
      first | refine tk_isubN dX11_isSo_34 (by omega) ?_ | refine tk_isub dX11_isSo_34 ?_
      first | refine tk_imulN dX11_isSo_35 ?_ | refine tk_imul dX11_isSo_35 ?_
      refine tk_iload2 dX11_isSo_36 ?_
      first | refine tk_iaddN dX11_isSo_37 ?_ | refine tk_iadd dX11_isSo_37 ?_
      refine tk_lald dX11_isSo_38 (hR.t 66 rfl) (by omega) (by omega) ?_
      refine tk_lload5 dX11_isSo_39 ?_
      refine tk_land dX11_isSo_41 ?_
      refine tk_lload3 dX11_isSo_42 ?_
      refine tk_land dX11_isSo_43 ?_
      refine tk_lconst dX11_isSo_44 (v := 0) (by decide) ?_
      refine tk_lcmp dX11_isSo_45 ?_
      first | refine tk_jf_eqB dX11_isSo_46 (fun h46 => ?_) (fun h46 => ?_) | refine tk_if_eq dX11_isSo_46 (fun h46 => ?_) (fun h46 => ?_)
      · refine tk_iconst dX11_isSo_53 kc_iconst_0 ?_
        first | refine tk_zreturn dX11_isSo_54 rfl ?_ | refine tk_zret0 dX11_isSo_54 rfl ?_ | refine tk_zret1 dX11_isSo_54 rfl ?_
        exact tkz (by unfold rIsS; rw [if_neg (by omega), if_pos (by omega)]; rw [lgc0] at h46; simp [h46])
      · refine tk_iconst dX11_isSo_49 kc_iconst_1 ?_
        refine tk_goto dX11_isSo_50 ?_
        first | refine tk_zreturn dX11_isSo_54 rfl ?_ | refine tk_zret0 dX11_isSo_54 rfl ?_ | refine tk_zret1 dX11_isSo_54 rfl ?_
        exact tkz (by unfold rIsS; rw [if_neg (by omega), if_pos (by omega)]; rw [lgc0] at h46; simp [h46])
  · refine tk_aload0 dX11_isSo_6 ?_
    refine tk_iload1 dX11_isSo_7 ?_
    refine tk_bipush dX11_isSo_8 kc_bipush_20 ?_
    first | refine tk_isubN dX11_isSo_10 (by omega) ?_ | refine tk_isub dX11_isSo_10 ?_
    refine tk_iload2 dX11_isSo_11 ?_
    refine tk_lload3 dX11_isSo_12 ?_
    refine tk_lload5 dX11_isSo_13 ?_
    refine tk_callV4z dX11_isSo_15 kX11_241 hR.o (r_knows hR (by omega) (by omega) x set) (Nat.le_of_ble_eq_true rfl) (by omega) ?_
    first | refine tk_zreturn dX11_isSo_18 rfl ?_ | refine tk_zret0 dX11_isSo_18 rfl ?_ | refine tk_zret1 dX11_isSo_18 rfl ?_
    exact tkz (by unfold rIsS; rw [if_pos (by omega)])
end REFM
