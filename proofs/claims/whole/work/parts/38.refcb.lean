/-! ===== the reference: make ===== -/
def rMn (M : Int64) (g : Nat → Int32) : Nat → Nat → Int32
  | 0 => g
  | w + 1 => if tb M w then va_up (rMn M g w) w (nI (cnt M w)) else rMn M g w
def rMf (M : Int64) (f g : Nat → Int32) : Nat → Nat → Int32
  | 0 => g
  | w + 1 => if tb M w then va_up (rMf M f g w) (cnt M w) (f w) else rMf M f g w
def rMr (M : Int64) (r : Nat) (x : Int32) : Nat → Int32
  | 0 => x
  | w + 1 => if tb M w && decide (w = r) then nI (cnt M w) else rMr M r x w
/-- the worlds that a person holds possible in w behind the making -/
def mCl (B : Nat → Int64) (M : Int64) (a : Int32) (S : Int64) (p w : Nat) : Int64 := B (64 * p + w) &&& M &&& (if nI p = a then (if tb S w then S else S ^^^ (-1)) else -1)
def mFs (B : Nat → Int64) (M : Int64) (a : Int32) (S : Int64) (p w : Nat) : Nat := lst (tb (mCl B M a S p w)) w 0
def rMw (M : Int64) (x : Nat → Nat) (p : Nat) (g : Nat → Int32) : Nat → Nat → Int32
  | 0 => g
  | w + 1 => if tb M w then va_up (rMw M x p g w) (128 * p + cnt M w) (nI (cnt M (x w))) else rMw M x p g w
def rMp (M : Int64) (x : Nat → Nat → Nat) (W : Nat) (g : Nat → Int32) : Nat → Nat → Int32
  | 0 => g
  | p + 1 => rMw M (x p) p (rMp M x W g p) W
theorem rMn_at (M : Int64) (g : Nat → Int32) {W j : Nat} (hj : j < W) (h : tb M j = true) : rMn M g W j = nI (cnt M j) := by
  induction W with
  | zero => omega
  | succ W ih =>
    rw [rMn]
    by_cases e : j = W
    · subst e; rw [if_pos h]; exact if_pos rfl
    · have := ih (by omega)
      split
      · unfold va_up; rw [if_neg e]; exact this
      · exact this
theorem cnt_lt_of {M : Int64} {w W : Nat} (hw : w < W) (h : tb M w = true) : cnt M w < cnt M W := by
  induction W with
  | zero => omega
  | succ W ih =>
    rw [cnt]
    by_cases e : w = W
    · subst e; rw [if_pos h]; omega
    · have := ih (by omega); omega
theorem mCl_w {B : Nat → Int64} {M : Int64} {a : Int32} {S : Int64} {p w : Nat} (hw : w < 64) (hB : tb (B (64 * p + w)) w = true) (hM : tb M w = true) : tb (mCl B M a S p w) w = true := by
  unfold mCl
  rw [tb_and, tb_and, hB, hM]
  split
  · cases e : tb S w with
    | true => rw [if_pos rfl, e]; rfl
    | false => rw [if_neg (by decide), tb_not S hw, e]; rfl
  · rw [tb_m1 hw]; rfl
theorem mFs_of {B : Nat → Int64} {M : Int64} {a : Int32} {S : Int64} {p w : Nat} (hw : w < 64) (hB : tb (B (64 * p + w)) w = true) (hM : tb M w = true) : mFs B M a S p w ≤ w ∧ tb M (mFs B M a S p w) = true ∧ tb (mCl B M a S p w) (mFs B M a S p w) = true := by
  obtain ⟨h1, h2, h3⟩ := lst_least (mCl_w (a := a) (S := S) hw hB hM)
  refine ⟨h2, ?_, h1⟩
  have h1' := h1
  unfold mCl at h1'
  rw [tb_and, tb_and, Bool.and_eq_true, Bool.and_eq_true] at h1'
  exact h1'.1.2
section REFCB
variable {G : tkG} {n : Nat} {T : Nat → Nat × Nat} {I : Nat → Nat → Int32} {L : Nat → Nat → Int64} {P : Nat → Nat → Option Nat}
def mkI (I : Nat → Nat → Int32) (M : Int64) (r w : Nat) (g1 : Nat → Int32) : Nat → Nat → Int32 := va_up (va_up (va_up (va_up I 40 (va_up (va_up (I 40) 35 (nI (cnt M w))) 36 (rMr M r (I 40 36) w))) 70 (rMf M (I 64) (I 70) w)) 71 g1) 74 (rMn M (I 74) w)
theorem r_make1 (hR : tkRef T P) {W r : Nat} {M S : Int64} {a : Int32} (hW : I 40 26 = nI W) (hW2 : W ≤ 64) (hr : I 40 27 = nI r) (hr2 : r < W) {Q : Option tkV → tkH → Prop} (fin : ∀ l, tkle [some (vR 40), some (vL M), none, some (vI a), some (vL S), none, some (vI (nI 0)), none, none, none, none] l → tkX G mX11_make 1 0 0 98 l [] (n, T, mkI I M r W (I 71), L, P) Q) : tkX G mX11_make 1 0 0 8 [some (vR 40), some (vL M), none, some (vI a), some (vL S), none, some (vI (nI 0)), none, none, none, none] [] (n, T, va_up I 40 (va_up (I 40) 35 (nI 0)), L, P) Q := by
  refine tk_fr 0 W (fun w => [some (vR 40), some (vL M), none, some (vI a), some (vL S), none, some (vI (nI w)), none, none, none, none]) (fun w => (n, T, mkI I M r w (I 71), L, P)) (by omega) (by repeat' (first | exact trivial | refine ⟨Or.inl rfl, ?_⟩ | refine ⟨Or.inr rfl, ?_⟩)) (by unfold mkI; rw [rMf, rMn, rMr, cnt, tk_uid (k := 36), tk_uid (k := 70), tk_uid (k := 71), tk_uid (k := 74)] <;> simp only [va_up_self, bx_uu, tk_une, tk_usrt, not_false_eq_true, Nat.reduceEqDiff, Nat.reduceLT, Nat.reduceAdd, Nat.reduceMul, Nat.reduceLeDiff, reduceCtorEq]) ?_ ?_
  · unfold mkI
    refine tk_iload6 dX11_make_8 ?_
    refine tk_aload0 dX11_make_10 ?_
    refine tk_getI dX11_make_11 fX11_215 rfl hR.o ?_
    simp only [va_up_self, bx_uu, tk_une, tk_usrt, not_false_eq_true, Nat.reduceEqDiff, Nat.reduceLT, Nat.reduceAdd, Nat.reduceMul, Nat.reduceLeDiff, reduceCtorEq, hW]
    first | refine tk_icmp_geN dX11_make_14 (by omega) (by omega) (fun h14 => ?_) (fun h14 => ?_) | refine tk_jcmp_ge dX11_make_14 (fun h14 => ?_) (fun h14 => ?_)
    · refine tk_iconst dX11_make_95 kc_iconst_0 ?_
      refine tk_istore6 dX11_make_96 rfl ?_
      exact fin _ (by repeat' (first | exact trivial | refine ⟨Or.inl rfl, ?_⟩ | refine ⟨Or.inr rfl, ?_⟩))
    · exfalso; omega
  · intro w _ hw k
    unfold mkI
    have hw64 : w < 64 := by omega
    have hcw := cnt_le M w
    refine tk_iload6 dX11_make_8 ?_
    refine tk_aload0 dX11_make_10 ?_
    refine tk_getI dX11_make_11 fX11_215 rfl hR.o ?_
    simp only [va_up_self, bx_uu, tk_une, tk_usrt, not_false_eq_true, Nat.reduceEqDiff, Nat.reduceLT, Nat.reduceAdd, Nat.reduceMul, Nat.reduceLeDiff, reduceCtorEq, hW]
    first | refine tk_icmp_geN dX11_make_14 (by omega) (by omega) (fun h14 => ?_) (fun h14 => ?_) | refine tk_jcmp_ge dX11_make_14 (fun h14 => ?_) (fun h14 => ?_)
    · exfalso; omega
    · refine tk_lload1 dX11_make_17 ?_
      refine tk_iload6 dX11_make_18 ?_
      refine tk_lshr dX11_make_20 ?_
      refine tk_lconst dX11_make_21 (v := 1) (by decide) ?_
      refine tk_land dX11_make_22 ?_
      refine tk_lconst dX11_make_23 (v := 1) (by decide) ?_
      refine tk_lcmp dX11_make_24 ?_
      first | refine tk_jf_neB dX11_make_25 (fun h25 => ?_) (fun h25 => ?_) | refine tk_if_ne dX11_make_25 (fun h25 => ?_) (fun h25 => ?_)
      · first | refine tk_iinc6 dX11_make_89 (kc_inc _) rfl ?_ | refine tk_iinc6 dX11_make_89 rfl rfl ?_
        refine tk_goto dX11_make_92 ?_
        try simp only [va_up_self, bx_uu, tk_une, tk_usrt, not_false_eq_true, Nat.reduceEqDiff, Nat.reduceLT, Nat.reduceAdd, Nat.reduceMul, Nat.reduceLeDiff, reduceCtorEq]
        first
          | exact q _ (by repeat' (first | exact trivial | refine ⟨Or.inl rfl, ?_⟩ | refine ⟨Or.inr rfl, ?_⟩))
          | have hm : ¬ tb M w = true := fun e => h25 ((tb_t1 M hw64).mpr e)
            have hd : ¬ (tb M w && decide (w = r)) = true := fun e => hm ((Bool.and_eq_true _ _ ▸ e).1)
            unfold mkI at k
            rw [rMf, rMn, rMr, cnt, if_neg hm, if_neg hm, if_neg hm, if_neg hd, Nat.add_zero] at k
            exact k _ (by repeat' (first | exact trivial | refine ⟨Or.inl rfl, ?_⟩ | refine ⟨Or.inr rfl, ?_⟩))
      · refine tk_aload0 dX11_make_28 ?_
        have hm : tb M w = true := (tb_t1 M hw64).mp h25
        refine tk_getP dX11_make_29 fX11_111 rfl hR.o (hR.p 41 rfl) ?_
        refine tk_iload6 dX11_make_32 ?_
        refine tk_aload0 dX11_make_34 ?_
        refine tk_getI dX11_make_35 fX11_256 rfl hR.o ?_
        simp only [va_up_self, bx_uu, tk_une, tk_usrt, not_false_eq_true, Nat.reduceEqDiff, Nat.reduceLT, Nat.reduceAdd, Nat.reduceMul, Nat.reduceLeDiff, reduceCtorEq]
        refine tk_iast dX11_make_38 (hR.t 74 rfl) (by omega) (by omega) ?_
        refine tk_aload0 dX11_make_39 ?_
        refine tk_getP dX11_make_40 fX11_99 rfl hR.o (hR.p 37 rfl) ?_
        refine tk_aload0 dX11_make_43 ?_
        refine tk_getI dX11_make_44 fX11_256 rfl hR.o ?_
        simp only [va_up_self, bx_uu, tk_une, tk_usrt, not_false_eq_true, Nat.reduceEqDiff, Nat.reduceLT, Nat.reduceAdd, Nat.reduceMul, Nat.reduceLeDiff, reduceCtorEq]
        refine tk_aload0 dX11_make_47 ?_
        refine tk_getP dX11_make_48 fX11_80 rfl hR.o (hR.p 28 rfl) ?_
        refine tk_iload6 dX11_make_51 ?_
        refine tk_iald dX11_make_53 (hR.t 64 rfl) (by omega) (by omega) ?_
        simp only [va_up_self, bx_uu, tk_une, tk_usrt, not_false_eq_true, Nat.reduceEqDiff, Nat.reduceLT, Nat.reduceAdd, Nat.reduceMul, Nat.reduceLeDiff, reduceCtorEq]
        refine tk_iast dX11_make_54 (hR.t 70 rfl) (by omega) (by omega) ?_
        refine tk_aload0 dX11_make_55 ?_
        refine tk_iload6 dX11_make_56 ?_
        refine tk_aload0 dX11_make_58 ?_
        refine tk_getI dX11_make_59 fX11_220 rfl hR.o ?_
        simp only [va_up_self, bx_uu, tk_une, tk_usrt, not_false_eq_true, Nat.reduceEqDiff, Nat.reduceLT, Nat.reduceAdd, Nat.reduceMul, Nat.reduceLeDiff, reduceCtorEq, hr]
        first | refine tk_icmp_neN dX11_make_62 (by omega) (by omega) (fun h62 => ?_) (fun h62 => ?_) | refine tk_icmp_ne dX11_make_62 (fun h62 => ?_) (fun h62 => ?_)
        · refine tk_aload0 dX11_make_72 ?_
          refine tk_getI dX11_make_73 fX11_259 rfl hR.o ?_
          simp only [va_up_self, bx_uu, tk_une, tk_usrt, not_false_eq_true, Nat.reduceEqDiff, Nat.reduceLT, Nat.reduceAdd, Nat.reduceMul, Nat.reduceLeDiff, reduceCtorEq]
          have hd : ¬ (tb M w && decide (w = r)) = true := by rw [hm, decide_eq_false h62]; decide
          have q := k
          unfold mkI at q
          rw [rMf, rMn, rMr, cnt, if_pos hm, if_pos hm, if_pos hm, if_neg hd] at q
          refine tk_putI dX11_make_76 fX11_259 wX11_make_X11_36 rfl hR.o ?_
          refine tk_aload0 dX11_make_79 ?_
          refine tk_dup dX11_make_80 rfl ?_
          refine tk_getI dX11_make_81 fX11_256 rfl hR.o ?_
          simp only [va_up_self, bx_uu, tk_une, tk_usrt, not_false_eq_true, Nat.reduceEqDiff, Nat.reduceLT, Nat.reduceAdd, Nat.reduceMul, Nat.reduceLeDiff, reduceCtorEq]
          refine tk_iconst dX11_make_84 kc_iconst_1 ?_
          first | refine tk_iaddN dX11_make_85 ?_ | refine tk_iadd dX11_make_85 ?_
          refine tk_putI dX11_make_86 fX11_256 wX11_make_X11_35 rfl hR.o ?_
          first | refine tk_iinc6 dX11_make_89 (kc_inc _) rfl ?_ | refine tk_iinc6 dX11_make_89 rfl rfl ?_
          refine tk_goto dX11_make_92 ?_
          try simp only [va_up_self, bx_uu, tk_une, tk_usrt, not_false_eq_true, Nat.reduceEqDiff, Nat.reduceLT, Nat.reduceAdd, Nat.reduceMul, Nat.reduceLeDiff, reduceCtorEq]
          first
            | exact q _ (by repeat' (first | exact trivial | refine ⟨Or.inl rfl, ?_⟩ | refine ⟨Or.inr rfl, ?_⟩))
            | have hm : ¬ tb M w = true := fun e => h25 ((tb_t1 M hw64).mpr e)
              have hd : ¬ (tb M w && decide (w = r)) = true := fun e => hm ((Bool.and_eq_true _ _ ▸ e).1)
              unfold mkI at k
              rw [rMf, rMn, rMr, cnt, if_neg hm, if_neg hm, if_neg hm, if_neg hd, Nat.add_zero] at k
              exact k _ (by repeat' (first | exact trivial | refine ⟨Or.inl rfl, ?_⟩ | refine ⟨Or.inr rfl, ?_⟩))
        · refine tk_aload0 dX11_make_65 ?_
          refine tk_getI dX11_make_66 fX11_256 rfl hR.o ?_
          simp only [va_up_self, bx_uu, tk_une, tk_usrt, not_false_eq_true, Nat.reduceEqDiff, Nat.reduceLT, Nat.reduceAdd, Nat.reduceMul, Nat.reduceLeDiff, reduceCtorEq]
          have hd : (tb M w && decide (w = r)) = true := by rw [hm, decide_eq_true h62]; rfl
          have q := k
          unfold mkI at q
          rw [rMf, rMn, rMr, cnt, if_pos hm, if_pos hm, if_pos hm, if_pos hd] at q
          refine tk_goto dX11_make_69 ?_
          refine tk_putI dX11_make_76 fX11_259 wX11_make_X11_36 rfl hR.o ?_
          refine tk_aload0 dX11_make_79 ?_
          refine tk_dup dX11_make_80 rfl ?_
          refine tk_getI dX11_make_81 fX11_256 rfl hR.o ?_
          simp only [va_up_self, bx_uu, tk_une, tk_usrt, not_false_eq_true, Nat.reduceEqDiff, Nat.reduceLT, Nat.reduceAdd, Nat.reduceMul, Nat.reduceLeDiff, reduceCtorEq]
          refine tk_iconst dX11_make_84 kc_iconst_1 ?_
          first | refine tk_iaddN dX11_make_85 ?_ | refine tk_iadd dX11_make_85 ?_
          refine tk_putI dX11_make_86 fX11_256 wX11_make_X11_35 rfl hR.o ?_
          first | refine tk_iinc6 dX11_make_89 (kc_inc _) rfl ?_ | refine tk_iinc6 dX11_make_89 rfl rfl ?_
          refine tk_goto dX11_make_92 ?_
          try simp only [va_up_self, bx_uu, tk_une, tk_usrt, not_false_eq_true, Nat.reduceEqDiff, Nat.reduceLT, Nat.reduceAdd, Nat.reduceMul, Nat.reduceLeDiff, reduceCtorEq]
          first
            | exact q _ (by repeat' (first | exact trivial | refine ⟨Or.inl rfl, ?_⟩ | refine ⟨Or.inr rfl, ?_⟩))
            | have hm : ¬ tb M w = true := fun e => h25 ((tb_t1 M hw64).mpr e)
              have hd : ¬ (tb M w && decide (w = r)) = true := fun e => hm ((Bool.and_eq_true _ _ ▸ e).1)
              unfold mkI at k
              rw [rMf, rMn, rMr, cnt, if_neg hm, if_neg hm, if_neg hm, if_neg hd, Nat.add_zero] at k
              exact k _ (by repeat' (first | exact trivial | refine ⟨Or.inl rfl, ?_⟩ | refine ⟨Or.inr rfl, ?_⟩))
theorem r_make3 {M S x : Int64} {a : Int32} {p w : Nat} (hw : w < 64) (hx : tb x w = true) {Q : Option tkV → tkH → Prop} {h : tkH} (fin : ∀ l, tkle [some (vR 40), some (vL M), none, some (vI a), some (vL S), none, some (vI (nI p)), some (vI (nI w)), none, none, some (vI (nI (lst (tb x) w 0)))] l → tkX G mX11_make 1 0 0 210 l [] h Q) : ∀ k i, i + k = lst (tb x) w 0 → tkX G mX11_make 1 0 0 192 [some (vR 40), some (vL M), none, some (vI a), some (vL S), none, some (vI (nI p)), some (vI (nI w)), some (vL x), none, some (vI (nI i))] [] h Q := by
  obtain ⟨g1, g2, g3⟩ := lst_least hx
  intro k
  induction k with
  | zero =>
    intro i hi
    have hi : i = lst (tb x) w 0 := hi
    have hi2 : i < 64 := by omega
    refine tk_lload8 dX11_make_192 ?_
    refine tk_iload10 dX11_make_194 ?_
    refine tk_lshr dX11_make_196 ?_
    refine tk_lconst dX11_make_197 (v := 1) (by decide) ?_
    refine tk_land dX11_make_198 ?_
    refine tk_lconst dX11_make_199 (v := 0) (by decide) ?_
    refine tk_lcmp dX11_make_200 ?_
    first | refine tk_jf_neB dX11_make_201 (fun h201 => ?_) (fun h201 => ?_) | refine tk_if_ne dX11_make_201 (fun h201 => ?_) (fun h201 => ?_)
    · rw [hi]
      exact fin _ (by repeat' (first | exact trivial | refine ⟨Or.inl rfl, ?_⟩ | refine ⟨Or.inr rfl, ?_⟩))
    · exact absurd ((tb_t0 x hi2).mp h201) (by rw [hi, g1]; decide)
  | succ k ih =>
    intro i hi
    have hi2 : i < 64 := by omega
    refine tk_lload8 dX11_make_192 ?_
    refine tk_iload10 dX11_make_194 ?_
    refine tk_lshr dX11_make_196 ?_
    refine tk_lconst dX11_make_197 (v := 1) (by decide) ?_
    refine tk_land dX11_make_198 ?_
    refine tk_lconst dX11_make_199 (v := 0) (by decide) ?_
    refine tk_lcmp dX11_make_200 ?_
    first | refine tk_jf_neB dX11_make_201 (fun h201 => ?_) (fun h201 => ?_) | refine tk_if_ne dX11_make_201 (fun h201 => ?_) (fun h201 => ?_)
    · exact absurd ((tb_t0 x hi2).mpr (g3 i (by omega))) h201
    · first | refine tk_iinc10 dX11_make_204 (kc_inc _) rfl ?_ | refine tk_iinc10 dX11_make_204 rfl rfl ?_
      refine tk_goto dX11_make_207 ?_
      exact ih (i + 1) (by omega)
theorem r_make2 (hR : tkRef T P) {np W : Nat} {M S : Int64} {a : Int32} (hnp : I 41 0 = nI np) (hnp4 : np ≤ 4) (hW : I 40 26 = nI W) (hW2 : W ≤ 64) (hnum : ∀ j, j < W → tb M j = true → I 74 j = nI (cnt M j)) (hB : ∀ p, p < np → ∀ w, w < W → tb (L 66 (64 * p + w)) w = true) : tkX G mX11_make 1 0 0 98 [some (vR 40), some (vL M), none, some (vI a), some (vL S), none, some (vI (nI 0)), none, none, none, none] [] (n, T, I, L, P) (tkF none (n, T, va_up I 71 (rMp M (mFs (L 66) M a S) W (I 71) np), L, P)) := by
  refine tk_fr 0 np (fun p => [some (vR 40), some (vL M), none, some (vI a), some (vL S), none, some (vI (nI p)), none, none, none, none]) (fun p => (n, T, va_up I 71 (rMp M (mFs (L 66) M a S) W (I 71) p), L, P)) (by omega) (by repeat' (first | exact trivial | refine ⟨Or.inl rfl, ?_⟩ | refine ⟨Or.inr rfl, ?_⟩)) (by rw [rMp, tk_up_id]) ?_ ?_
  · refine tk_iload6 dX11_make_98 ?_
    refine tk_aload0 dX11_make_100 ?_
    refine tk_getP dX11_make_101 fX11_7 rfl hR.o (hR.p 0 rfl) ?_
    refine tk_iconst dX11_make_104 kc_iconst_0 ?_
    refine tk_iald dX11_make_105 (hR.t 41 rfl) (by omega) (by omega) ?_
    simp only [va_up_self, bx_uu, tk_une, tk_usrt, not_false_eq_true, Nat.reduceEqDiff, Nat.reduceLT, Nat.reduceAdd, Nat.reduceMul, Nat.reduceLeDiff, reduceCtorEq, hnp]
    first | refine tk_icmp_geN dX11_make_106 (by omega) (by omega) (fun h106 => ?_) (fun h106 => ?_) | refine tk_jcmp_ge dX11_make_106 (fun h106 => ?_) (fun h106 => ?_)
    · refine tk_return dX11_make_248 rfl ?_
      exact ⟨rfl, rfl⟩
    · exfalso; omega
  · intro p _ hp k
    have hp4 : p < 4 := by omega
    refine tk_iload6 dX11_make_98 ?_
    refine tk_aload0 dX11_make_100 ?_
    refine tk_getP dX11_make_101 fX11_7 rfl hR.o (hR.p 0 rfl) ?_
    refine tk_iconst dX11_make_104 kc_iconst_0 ?_
    refine tk_iald dX11_make_105 (hR.t 41 rfl) (by omega) (by omega) ?_
    simp only [va_up_self, bx_uu, tk_une, tk_usrt, not_false_eq_true, Nat.reduceEqDiff, Nat.reduceLT, Nat.reduceAdd, Nat.reduceMul, Nat.reduceLeDiff, reduceCtorEq, hnp]
    first | refine tk_icmp_geN dX11_make_106 (by omega) (by omega) (fun h106 => ?_) (fun h106 => ?_) | refine tk_jcmp_ge dX11_make_106 (fun h106 => ?_) (fun h106 => ?_)
    · exfalso; omega
    · refine tk_iconst dX11_make_109 kc_iconst_0 ?_
      refine tk_istore7 dX11_make_110 rfl ?_
      refine tk_fr 0 W (fun w => [some (vR 40), some (vL M), none, some (vI a), some (vL S), none, some (vI (nI p)), some (vI (nI w)), none, none, none]) (fun w => (n, T, va_up I 71 (rMw M (mFs (L 66) M a S p) p (rMp M (mFs (L 66) M a S) W (I 71) p) w), L, P)) (by omega) (by repeat' (first | exact trivial | refine ⟨Or.inl rfl, ?_⟩ | refine ⟨Or.inr rfl, ?_⟩)) rfl ?_ ?_
      · refine tk_iload7 dX11_make_112 ?_
        refine tk_aload0 dX11_make_114 ?_
        refine tk_getI dX11_make_115 fX11_215 rfl hR.o ?_
        simp only [va_up_self, bx_uu, tk_une, tk_usrt, not_false_eq_true, Nat.reduceEqDiff, Nat.reduceLT, Nat.reduceAdd, Nat.reduceMul, Nat.reduceLeDiff, reduceCtorEq, hW]
        first | refine tk_icmp_geN dX11_make_118 (by omega) (by omega) (fun h118 => ?_) (fun h118 => ?_) | refine tk_jcmp_ge dX11_make_118 (fun h118 => ?_) (fun h118 => ?_)
        · first | refine tk_iinc6 dX11_make_242 (kc_inc _) rfl ?_ | refine tk_iinc6 dX11_make_242 rfl rfl ?_
          refine tk_goto dX11_make_245 ?_
          exact k _ (by repeat' (first | exact trivial | refine ⟨Or.inl rfl, ?_⟩ | refine ⟨Or.inr rfl, ?_⟩))
        · exfalso; omega
      · intro w _ hw k
        have hw64 : w < 64 := by omega
        have hcw := cnt_le M w
        refine tk_iload7 dX11_make_112 ?_
        refine tk_aload0 dX11_make_114 ?_
        refine tk_getI dX11_make_115 fX11_215 rfl hR.o ?_
        simp only [va_up_self, bx_uu, tk_une, tk_usrt, not_false_eq_true, Nat.reduceEqDiff, Nat.reduceLT, Nat.reduceAdd, Nat.reduceMul, Nat.reduceLeDiff, reduceCtorEq, hW]
        first | refine tk_icmp_geN dX11_make_118 (by omega) (by omega) (fun h118 => ?_) (fun h118 => ?_) | refine tk_jcmp_ge dX11_make_118 (fun h118 => ?_) (fun h118 => ?_)
        · exfalso; omega
        · refine tk_lload1 dX11_make_121 ?_
          refine tk_iload7 dX11_make_122 ?_
          refine tk_lshr dX11_make_124 ?_
          refine tk_lconst dX11_make_125 (v := 1) (by decide) ?_
          refine tk_land dX11_make_126 ?_
          refine tk_lconst dX11_make_127 (v := 1) (by decide) ?_
          refine tk_lcmp dX11_make_128 ?_
          first | refine tk_jf_neB dX11_make_129 (fun h129 => ?_) (fun h129 => ?_) | refine tk_if_ne dX11_make_129 (fun h129 => ?_) (fun h129 => ?_)
          · first | refine tk_iinc7 dX11_make_236 (kc_inc _) rfl ?_ | refine tk_iinc7 dX11_make_236 rfl rfl ?_
            refine tk_goto dX11_make_239 ?_
            have hm : ¬ tb M w = true := fun e => h129 ((tb_t1 M hw64).mpr e)
            rw [rMw, if_neg hm] at k
            exact k _ (by repeat' (first | exact trivial | refine ⟨Or.inl rfl, ?_⟩ | refine ⟨Or.inr rfl, ?_⟩))
          · refine tk_aload0 dX11_make_132 ?_
            have hm : tb M w = true := (tb_t1 M hw64).mp h129
            have hbw := hB p hp w hw
            obtain ⟨f1, f2, f3⟩ := mFs_of (a := a) (S := S) hw64 hbw hm
            have f4 := lst_spec
            have q := k
            rw [rMw, if_pos hm] at q
            have key : ∀ l, tkle [some (vR 40), some (vL M), none, some (vI a), some (vL S), none, some (vI (nI p)), some (vI (nI w)), none, none, some (vI (nI (mFs (L 66) M a S p w)))] l → tkX G mX11_make 1 0 0 210 l [] (n, T, va_up I 71 (rMw M (mFs (L 66) M a S p) p (rMp M (mFs (L 66) M a S) W (I 71) p) w), L, P) (tkF none (n, T, va_up I 71 (rMp M (mFs (L 66) M a S) W (I 71) np), L, P)) := by
              intro l hl
              refine tk_wk hl ?_
              refine tk_aload0 dX11_make_210 ?_
              refine tk_getP dX11_make_211 fX11_102 rfl hR.o (hR.p 38 rfl) ?_
              refine tk_sipush dX11_make_214 kc_sipush_128 ?_
              refine tk_iload6 dX11_make_217 ?_
              first | refine tk_imulN dX11_make_219 ?_ | refine tk_imul dX11_make_219 ?_
              refine tk_aload0 dX11_make_220 ?_
              refine tk_getP dX11_make_221 fX11_111 rfl hR.o (hR.p 41 rfl) ?_
              refine tk_iload7 dX11_make_224 ?_
              refine tk_iald dX11_make_226 (hR.t 74 rfl) (by omega) (by omega) ?_
              simp only [va_up_self, bx_uu, tk_une, tk_usrt, not_false_eq_true, Nat.reduceEqDiff, Nat.reduceLT, Nat.reduceAdd, Nat.reduceMul, Nat.reduceLeDiff, reduceCtorEq]
              rw [hnum w hw hm]
              first | refine tk_iaddN dX11_make_227 ?_ | refine tk_iadd dX11_make_227 ?_
              refine tk_aload0 dX11_make_228 ?_
              refine tk_getP dX11_make_229 fX11_111 rfl hR.o (hR.p 41 rfl) ?_
              refine tk_iload10 dX11_make_232 ?_
              refine tk_iald dX11_make_234 (hR.t 74 rfl) (by omega) (by omega) ?_
              simp only [va_up_self, bx_uu, tk_une, tk_usrt, not_false_eq_true, Nat.reduceEqDiff, Nat.reduceLT, Nat.reduceAdd, Nat.reduceMul, Nat.reduceLeDiff, reduceCtorEq]
              rw [hnum _ (by omega) f2]
              refine tk_iast dX11_make_235 (hR.t 71 rfl) (by omega) (by omega) ?_
              first | refine tk_iinc7 dX11_make_236 (kc_inc _) rfl ?_ | refine tk_iinc7 dX11_make_236 rfl rfl ?_
              refine tk_goto dX11_make_239 ?_
              try simp only [va_up_self, bx_uu, tk_une, tk_usrt, not_false_eq_true, Nat.reduceEqDiff, Nat.reduceLT, Nat.reduceAdd, Nat.reduceMul, Nat.reduceLeDiff, reduceCtorEq]
              exact q _ (by repeat' (first | exact trivial | refine ⟨Or.inl rfl, ?_⟩ | refine ⟨Or.inr rfl, ?_⟩))
            have key2 : ∀ x : Int64, x = mCl (L 66) M a S p w → tkX G mX11_make 1 0 0 187 [some (vR 40), some (vL M), none, some (vI a), some (vL S), none, some (vI (nI p)), some (vI (nI w)), none, none, none] [vL x] (n, T, va_up I 71 (rMw M (mFs (L 66) M a S p) p (rMp M (mFs (L 66) M a S) W (I 71) p) w), L, P) (tkF none (n, T, va_up I 71 (rMp M (mFs (L 66) M a S) W (I 71) np), L, P)) := by
              intro x hx
              subst hx
              refine tk_lstore8 dX11_make_187 rfl ?_
              refine tk_iconst dX11_make_189 kc_iconst_0 ?_
              refine tk_istore10 dX11_make_190 rfl ?_
              refine tk_wk ?_ (r_make3 hw64 (mCl_w (a := a) (S := S) hw64 hbw hm) key _ 0 (Nat.zero_add _))
              exact (by repeat' (first | exact trivial | refine ⟨Or.inl rfl, ?_⟩ | refine ⟨Or.inr rfl, ?_⟩))
            refine tk_getP dX11_make_133 fX11_86 rfl hR.o (hR.p 30 rfl) ?_
            refine tk_bipush dX11_make_136 kc_bipush_64 ?_
            refine tk_iload6 dX11_make_138 ?_
            first | refine tk_imulN dX11_make_140 ?_ | refine tk_imul dX11_make_140 ?_
            refine tk_iload7 dX11_make_141 ?_
            first | refine tk_iaddN dX11_make_143 ?_ | refine tk_iadd dX11_make_143 ?_
            refine tk_lald dX11_make_144 (hR.t 66 rfl) (by omega) (by omega) ?_
            refine tk_lload1 dX11_make_145 ?_
            refine tk_land dX11_make_146 ?_
            refine tk_lstore8 dX11_make_147 rfl ?_
            refine tk_lload8 dX11_make_149 ?_
            refine tk_iload6 dX11_make_151 ?_
            refine tk_iload3 dX11_make_153 ?_
            first | refine tk_icmp_eqN dX11_make_154 (by omega) (by omega) (fun h154 => ?_) (fun h154 => ?_) | refine tk_icmp_eq dX11_make_154 (fun h154 => ?_) (fun h154 => ?_)
            · refine tk_lload4 dX11_make_163 ?_
              have hpa : nI p = a := h154
              refine tk_iload7 dX11_make_165 ?_
              refine tk_lshr dX11_make_167 ?_
              refine tk_lconst dX11_make_168 (v := 1) (by decide) ?_
              refine tk_land dX11_make_169 ?_
              refine tk_lconst dX11_make_170 (v := 1) (by decide) ?_
              refine tk_lcmp dX11_make_171 ?_
              first | refine tk_jf_neB dX11_make_172 (fun h172 => ?_) (fun h172 => ?_) | refine tk_if_ne dX11_make_172 (fun h172 => ?_) (fun h172 => ?_)
              · refine tk_lload4 dX11_make_180 ?_
                have hs : ¬ tb S w = true := fun e => h172 ((tb_t1 S hw64).mpr e)
                refine tk_ldc2 dX11_make_182 klX11_218 ?_
                refine tk_lxor dX11_make_185 ?_
                refine tk_land dX11_make_186 ?_
                refine tk_wk ?_ (key2 _ ?_)
                · exact (by repeat' (first | exact trivial | refine ⟨Or.inl rfl, ?_⟩ | refine ⟨Or.inr rfl, ?_⟩))
                · unfold mCl
                  first
                  | rw [if_pos hpa, if_pos hs]
                  | rw [if_pos hpa, if_neg hs]
                  | rw [if_neg hpa]
              · refine tk_lload4 dX11_make_175 ?_
                have hs : tb S w = true := (tb_t1 S hw64).mp h172
                refine tk_goto dX11_make_177 ?_
                refine tk_land dX11_make_186 ?_
                refine tk_wk ?_ (key2 _ ?_)
                · exact (by repeat' (first | exact trivial | refine ⟨Or.inl rfl, ?_⟩ | refine ⟨Or.inr rfl, ?_⟩))
                · unfold mCl
                  first
                  | rw [if_pos hpa, if_pos hs]
                  | rw [if_pos hpa, if_neg hs]
                  | rw [if_neg hpa]
            · refine tk_ldc2 dX11_make_157 klX11_218 ?_
              have hpa : ¬ nI p = a := h154
              refine tk_goto dX11_make_160 ?_
              refine tk_land dX11_make_186 ?_
              refine tk_wk ?_ (key2 _ ?_)
              · exact (by repeat' (first | exact trivial | refine ⟨Or.inl rfl, ?_⟩ | refine ⟨Or.inr rfl, ?_⟩))
              · unfold mCl
                first
                | rw [if_pos hpa, if_pos hs]
                | rw [if_pos hpa, if_neg hs]
                | rw [if_neg hpa]
theorem r_make (hR : tkRef T P) {np W r : Nat} (hnp : I 41 0 = nI np) (hnp4 : np ≤ 4) (hW : I 40 26 = nI W) (hW2 : W ≤ 64) (hr : I 40 27 = nI r) (hr2 : r < W) (hB : ∀ p, p < np → ∀ w, w < W → tb (L 66 (64 * p + w)) w = true) (M S : Int64) (a : Int32) : tkM G mX11_make 1 0 0 [vR 40, vL M, vI a, vL S] (n, T, I, L, P) (tkF none (n, T, mkI I M r W (rMp M (mFs (L 66) M a S) W (I 71) np), L, P)) := by
  refine tkM.of (ls := [some _, some _, none, some _, some _, none, none, none, none, none, none]) (by decide +kernel) (by decide +kernel) (Nat.le_of_ble_eq_true rfl) rfl ?_
  refine tk_aload0 dX11_make_0 ?_
  refine tk_iconst dX11_make_1 kc_iconst_0 ?_
  refine tk_putI dX11_make_2 fX11_256 wX11_make_X11_35 rfl hR.o ?_
  refine tk_iconst dX11_make_5 kc_iconst_0 ?_
  refine tk_istore6 dX11_make_6 rfl ?_
  refine tk_wk ?_ (r_make1 hR (M := M) (S := S) (a := a) hW hW2 hr hr2 ?_)
  · exact (by repeat' (first | exact trivial | refine ⟨Or.inl rfl, ?_⟩ | refine ⟨Or.inr rfl, ?_⟩))
  · intro l hl
    refine tk_wk hl ?_
    have q := r_make2 (G := G) (n := n) (I := mkI I M r W (I 71)) (L := L) hR (np := np) (W := W) (M := M) (S := S) (a := a) (by unfold mkI; simp only [va_up_self, bx_uu, tk_une, tk_usrt, not_false_eq_true, Nat.reduceEqDiff, Nat.reduceLT, Nat.reduceAdd, Nat.reduceMul, Nat.reduceLeDiff, reduceCtorEq]; exact hnp) hnp4 (by unfold mkI; simp only [va_up_self, bx_uu, tk_une, tk_usrt, not_false_eq_true, Nat.reduceEqDiff, Nat.reduceLT, Nat.reduceAdd, Nat.reduceMul, Nat.reduceLeDiff, reduceCtorEq]; exact hW) hW2 (fun j hj hm => by unfold mkI; simp only [va_up_self, bx_uu, tk_une, tk_usrt, not_false_eq_true, Nat.reduceEqDiff, Nat.reduceLT, Nat.reduceAdd, Nat.reduceMul, Nat.reduceLeDiff, reduceCtorEq]; exact rMn_at M _ hj hm) hB
    have e : va_up (mkI I M r W (I 71)) 71 (rMp M (mFs (L 66) M a S) W (mkI I M r W (I 71) 71) np) = mkI I M r W (rMp M (mFs (L 66) M a S) W (I 71) np) := by unfold mkI; simp only [va_up_self, bx_uu, tk_une, tk_usrt, not_false_eq_true, Nat.reduceEqDiff, Nat.reduceLT, Nat.reduceAdd, Nat.reduceMul, Nat.reduceLeDiff, reduceCtorEq]
    rw [e] at q
    exact q
end REFCB
