/-! ===== the reference: make ===== -/
def rMn (M : Int64) (g : Nat → Int32) : Nat → Nat → Int32
  | 0 => g
  | w + 1 => if tb M w then va_up (rMn M g w) w (nI (cnt M w)) else rMn M g w
def rMf (M : Int64) (f g : Nat → Int32) : Nat → Nat → Int32
  | 0 => g
  | w + 1 => if tb M w then va_up (rMf M f g w) (cnt M w) (f w) else rMf M f g w
def rMr (M : Int64) (r : Nat) (x : Int32) : Nat → Int32
  | 0 => x
  | w + 1 => if tb M w && decide (w = r) then nI (cnt M w) else rMr M r x w
/-- the worlds that a person holds possible in w behind the making -/
def mCl (B : Nat → Int64) (M : Int64) (a : Int32) (S : Int64) (p w : Nat) : Int64 := B (64 * p + w) &&& M &&& (if nI p = a then (if tb S w then S else S ^^^ (-1)) else -1)
def mFs (B : Nat → Int64) (M : Int64) (a : Int32) (S : Int64) (p w : Nat) : Nat := lst (tb (mCl B M a S p w)) w 0
def rMw (M : Int64) (x : Nat → Nat) (p : Nat) (g : Nat → Int32) : Nat → Nat → Int32
  | 0 => g
  | w + 1 => if tb M w then va_up (rMw M x p g w) (128 * p + cnt M w) (nI (cnt M (x w))) else rMw M x p g w
def rMp (M : Int64) (x : Nat → Nat → Nat) (W : Nat) (g : Nat → Int32) : Nat → Nat → Int32
  | 0 => g
  | p + 1 => rMw M (x p) p (rMp M x W g p) W
theorem rMn_at (M : Int64) (g : Nat → Int32) {W j : Nat} (hj : j < W) (h : tb M j = true) : rMn M g W j = nI (cnt M j) := by
  induction W with
  | zero => omega
  | succ W ih =>
    rw [rMn]
    by_cases e : j = W
    · subst e; rw [if_pos h]; exact if_pos rfl
    · have := ih (by omega)
      split
      · unfold va_up; rw [if_neg e]; exact this
      · exact this
theorem cnt_lt_of {M : Int64} {w W : Nat} (hw : w < W) (h : tb M w = true) : cnt M w < cnt M W := by
  induction W with
  | zero => omega
  | succ W ih =>
    rw [cnt]
    by_cases e : w = W
    · subst e; rw [if_pos h]; omega
    · have := ih (by omega); omega
theorem mCl_w {B : Nat → Int64} {M : Int64} {a : Int32} {S : Int64} {p w : Nat} (hw : w < 64) (hB : tb (B (64 * p + w)) w = true) (hM : tb M w = true) : tb (mCl B M a S p w) w = true := by
  unfold mCl
  rw [tb_and, tb_and, hB, hM]
  split
  · cases e : tb S w with
    | true => rw [if_pos rfl, e]; rfl
    | false => rw [if_neg (by decide), tb_not S hw, e]; rfl
  · rw [tb_m1 hw]; rfl
theorem mFs_of {B : Nat → Int64} {M : Int64} {a : Int32} {S : Int64} {p w : Nat} (hw : w < 64) (hB : tb (B (64 * p + w)) w = true) (hM : tb M w = true) : mFs B M a S p w ≤ w ∧ tb M (mFs B M a S p w) = true ∧ tb (mCl B M a S p w) (mFs B M a S p w) = true := by
  obtain ⟨h1, h2, h3⟩ := lst_least (mCl_w (a := a) (S := S) hw hB hM)
  refine ⟨h2, ?_, h1⟩
  have h1' := h1
  unfold mCl at h1'
  rw [tb_and, tb_and, Bool.and_eq_true, Bool.and_eq_true] at h1'
  exact h1'.1.2
section REFCB
variable {G : tkG} {n : Nat} {T : Nat → Nat × Nat} {I : Nat → Nat → Int32} {L : Nat → Nat → Int64} {P : Nat → Nat → Option Nat}
def mkI (I : Nat → Nat → Int32) (M : Int64) (r w : Nat) (g1 : Nat → Int32) : Nat → Nat → Int32 := va_up (va_up (va_up (va_up I 40 (va_up (va_up (I 40) 35 (nI (cnt M w))) 36 (rMr M r (I 40 36) w))) 70 (rMf M (I 64) (I 70) w)) 71 g1) 74 (rMn M (I 74) w)
theorem r_make1 (hR : tkRef T P) {W r : Nat} {M S : Int64} {a : Int32} (hW : I 40 26 = nI W) (hW2 : W ≤ 64) (hr : I 40 27 = nI r) (hr2 : r < W) {Q : Option tkV → tkH → Prop} (fin : ∀ l, tkle [some (vR 40), some (vL M), none, some (vI a), some (vL S), none, some (vI (nI 0)), none, none, none, none] l → tkX G mX11_make 1 0 0 98 l [] (n, T, mkI I M r W (I 71), L, P) Q) : tkX G mX11_make 1 0 0 8 [some (vR 40), some (vL M), none, some (vI a), some (vL S), none, some (vI (nI 0)), none, none, none, none] [] (n, T, va_up I 40 (va_up (I 40) 35 (nI 0)), L, P) Q := by
  refine tk_fr 0 W (fun w => [some (vR 40), some (vL M), none, some (vI a), some (vL S), none, some (vI (nI w)), none, none, none, none]) (fun w => (n, T, mkI I M r w (I 71), L, P)) (by omega) (by repeat' (first | exact trivial | refine ⟨Or.inl rfl, ?_⟩ | refine ⟨Or.inr rfl, ?_⟩)) (by unfold mkI; rw [rMf, rMn, rMr, cnt, tk_uid (k := 36), tk_uid (k := 70), tk_uid (k := 71), tk_uid (k := 74)] <;> simp only [va_up_self, bx_uu, tk_une, tk_usrt, not_false_eq_true, Nat.reduceEqDiff, Nat.reduceLT, Nat.reduceAdd, Nat.reduceMul, Nat.reduceLeDiff, reduceCtorEq]) ?_ ?_
  · unfold mkI
    refine tk_iload6 dX11_make_8 ?_
    refine tk_aload0 dX11_make_10 ?_
    refine tk_getI dX11_make_11 fX11_215 rfl hR.o ?_
    simp only [va_up_self, bx_uu, tk_une, tk_usrt, not_false_eq_true, Nat.reduceEqDiff, Nat.reduceLT, Nat.reduceAdd, Nat.reduceMul, Nat.reduceLeDiff, reduceCtorEq, hW]
    first | refine tk_icmp_geN dX11_make_14 (by omega) (by omega) (fun h14 => ?_) (fun h14 => ?_) | refine tk_jcmp_ge dX11_make_14 (fun h14 => ?_) (fun h14 => ?_)
    · refine tk_iconst dX11_make_95 kc_iconst_0 ?_
      refine tk_istore6 dX11_make_96 rfl ?_
      exact fin _ (by repeat' (first | exact trivial | refine ⟨Or.inl rfl, ?_⟩ | refine ⟨Or.inr rfl, ?_⟩))
    · exfalso; omega
  · intro w _ hw k
    unfold mkI
    have hw64 : w < 64 := by omega
    have hcw := cnt_le M w
    refine tk_iload6 dX11_make_8 ?_
    refine tk_aload0 dX11_make_10 ?_
    refine tk_getI dX11_make_11 fX11_215 rfl hR.o ?_
    simp only [va_up_self, bx_uu, tk_une, tk_usrt, not_false_eq_true, Nat.reduceEqDiff, Nat.reduceLT, Nat.reduceAdd, Nat.reduceMul, Nat.reduceLeDiff, reduceCtorEq, hW]
    first | refine tk_icmp_geN dX11_make_14 (by omega) (by omega) (fun h14 => ?_) (fun h14 => ?_) | refine tk_jcmp_ge dX11_make_14 (fun h14 => ?_) (fun h14 => ?_)
    · exfalso; omega
    · refine tk_lload1 dX11_make_17 ?_
      refine tk_iload6 dX11_make_18 ?_
      refine tk_lshr dX11_make_20 ?_
      refine tk_lconst dX11_make_21 (v := 1) (by decide) ?_
      refine tk_land dX11_make_22 ?_
      refine tk_lconst dX11_make_23 (v := 1) (by decide) ?_
      refine tk_lcmp dX11_make_24 ?_
      first | refine tk_jf_neB dX11_make_25 (fun h25 => ?_) (fun h25 => ?_) | refine tk_if_ne dX11_make_25 (fun h25 => ?_) (fun h25 => ?_)
      · first | refine tk_iinc6 dX11_make_89 (kc_inc _) rfl ?_ | refine tk_iinc6 dX11_make_89 rfl rfl ?_
        refine tk_goto dX11_make_92 ?_
        try simp only [va_up_self, bx_uu, tk_une, tk_usrt, not_false_eq_true, Nat.reduceEqDiff, Nat.reduceLT, Nat.reduceAdd, Nat.reduceMul, Nat.reduceLeDiff, reduceCtorEq]
        first
          | exact q _ (by repeat' (first | exact trivial | refine ⟨Or.inl rfl, ?_⟩ | refine ⟨Or.inr rfl, ?_⟩))
          | have hm : ¬ tb M w = true := fun e => h25 ((tb_t1 M hw64).mpr e)
            have hd : ¬ (tb M w && decide (w = r)) = true := fun e => hm ((Bool.and_eq_true _ _ ▸ e).1)
            unfold mkI at k
            rw [rMf, rMn, rMr, cnt, if_neg hm, if_neg hm, if_neg hm, if_neg hd, Nat.add_zero] at k
            exact k _ (by repeat' (first | exact trivial | refine ⟨Or.inl rfl, ?_⟩ | refine ⟨Or.inr rfl, ?_⟩))
      · refine tk_aload0 dX11_make_28 ?_
        have hm : tb M w = true := (tb_t1 M hw64).mp h25
        refine tk_getP dX11_make_29 fX11_111 rfl hR.o (hR.p 41 rfl) ?_
        refine tk_iload6 dX11_make_32 ?_
        refine tk_aload0 dX11_make_34 ?_
        refine tk_getI dX11_make_35 fX11_256 rfl hR.o ?_
        simp only [va_up_self, bx_uu, tk_une, tk_usrt, not_false_eq_true, Nat.reduceEqDiff, Nat.reduceLT, Nat.reduceAdd, Nat.reduceMul, Nat.reduceLeDiff, reduceCtorEq]
        refine tk_iast dX11_make_38 (hR.t 74 rfl) (by omega) (by omega) ?_
        refine tk_aload0 dX11_make_39 ?_
        refine tk_getP dX11_make_40 fX11_99 rfl hR.o (hR.p 37 rfl) ?_
        refine tk_aload0 dX11_make_43 ?_
        refine tk_getI dX11_make_44 fX11_256 rfl hR.o ?_
        simp only [va_up_self, bx_uu, tk_une, tk_usrt, not_false_eq_true, Nat.reduceEqDiff, Nat.reduceLT, Nat.reduceAdd, Nat.reduceMul, Nat.reduceLeDiff, reduceCtorEq]
        refine tk_aload0 dX11_make_47 ?_
        refine tk_getP dX11_make_48 fX11_80 rfl hR.o (hR.p 28 rfl) ?_
        refine tk_iload6 dX11_make_51 ?_
        refine tk_iald dX11_make_53 (hR.t 64 rfl) (by omega) (by omega) ?_
        simp only [va_up_self, bx_uu, tk_une, tk_usrt, not_false_eq_true, Nat.reduceEqDiff, Nat.reduceLT, Nat.reduceAdd, Nat.reduceMul, Nat.reduceLeDiff, reduceCtorEq]
        refine tk_iast dX11_make_54 (hR.t 70 rfl) (by omega) (by omega) ?_
        refine tk_aload0 dX11_make_55 ?_
        refine tk_iload6 dX11_make_56 ?_
        refine tk_aload0 dX11_make_58 ?_
        refine tk_getI dX11_make_59 fX11_220 rfl hR.o ?_
        simp only [va_up_self, bx_uu, tk_une, tk_usrt, not_false_eq_true, Nat.reduceEqDiff, Nat.reduceLT, Nat.reduceAdd, Nat.reduceMul, Nat.reduceLeDiff, reduceCtorEq, hr]
        first | refine tk_icmp_neN dX11_make_62 (by omega) (by omega) (fun h62 => ?_) (fun h62 => ?_) | refine tk_icmp_ne dX11_make_62 (fun h62 => ?_) (fun h62 => ?_)
        · refine tk_aload0 dX11_make_72 ?_
          refine tk_getI dX11_make_73 fX11_259 rfl hR.o ?_
          simp only [va_up_self, bx_uu, tk_une, tk_usrt, not_false_eq_true, Nat.reduceEqDiff, Nat.reduceLT, Nat.reduceAdd, Nat.reduceMul, Nat.reduceLeDiff, reduceCtorEq]
          have hd : ¬ (tb M w && decide (w = r)) = true := by rw [hm, decide_eq_false h62]; decide
          have q := k
          unfold mkI at q
          rw [rMf, rMn, rMr, cnt, if_pos hm, if_pos hm, if_pos hm, if_neg hd] at q
          refine tk_putI dX11_make_76 fX11_259 wX11_make_X11_36 rfl hR.o ?_
          refine tk_aload0 dX11_make_79 ?_
          refine tk_dup dX11_make_80 rfl ?_
          refine tk_getI dX11_make_81 fX11_256 rfl hR.o ?_
          simp only [va_up_self, bx_uu, tk_une, tk_usrt, not_false_eq_true, Nat.reduceEqDiff, Nat.reduceLT, Nat.reduceAdd, Nat.reduceMul, Nat.reduceLeDiff, reduceCtorEq]
          refine tk_iconst dX11_make_84 kc_iconst_1 ?_
          first | refine tk_iaddN dX11_make_85 ?_ | refine tk_iadd dX11_make_85 ?_
          refine tk_putI dX11_make_86 fX11_256 wX11_make_X11_35 rfl hR.o ?_
          first | refine tk_iinc6 dX11_make_89 (kc_inc _) rfl ?_ | refine tk_iinc6 dX11_make_89 rfl rfl ?_
          refine tk_goto dX11_make_92 ?_
          try simp only [va_up_self, bx_uu, tk_une, tk_usrt, not_false_eq_true, Nat.reduceEqDiff, Nat.reduceLT, Nat.reduceAdd, Nat.reduceMul, Nat.reduceLeDiff, reduceCtorEq]
          first
            | exact q _ (by repeat' (first | exact trivial | refine ⟨Or.inl rfl, ?_⟩ | refine ⟨Or.inr rfl, ?_⟩))
            | have hm : ¬ tb M w = true := fun e => h25 ((tb_t1 M hw64).mpr e)
              have hd : ¬ (tb M w && decide (w = r)) = true := fun e => hm ((Bool.and_eq_true _ _ ▸ e).1)
              unfold mkI at k
              rw [rMf, rMn, rMr, cnt, if_neg hm, if_neg hm, if_neg hm, if_neg hd, Nat.add_zero] at k
              exact k _ (by repeat' (first | exact trivial | refine ⟨Or.inl rfl, ?_⟩ | refine ⟨Or.inr rfl, ?_⟩))
        · refine tk_aload0 dX11_make_65 ?_
          refine tk_getI dX11_make_66 fX11_256 rfl hR.o ?_
          simp only [va_up_self, bx_uu, tk_une, tk_usrt, not_false_eq_true, Nat.reduceEqDiff, Nat.reduceLT, Nat.reduceAdd, Nat.reduceMul, Nat.reduceLeDiff, reduceCtorEq]
          have hd : (tb M w && decide (w = r)) = true := by rw [hm, decide_eq_true h62]; rfl
          have q := k
          unfold mkI at q
          rw [rMf, rMn, rMr, cnt, if_pos hm, if_pos hm, if_pos hm, if_pos hd] at q
          refine tk_goto dX11_make_69 ?_
          refine tk_putI dX11_make_76 fX11_259 wX11_make_X11_36 rfl hR.o ?_
          refine tk_aload0 dX11_make_79 ?_
          refine tk_dup dX11_make_80 rfl ?_
          refine tk_getI dX11_make_81 fX11_256 rfl hR.o ?_
          simp only [va_up_self, bx_uu, tk_une, tk_usrt, not_false_eq_true, Nat.reduceEqDiff, Nat.reduceLT, Nat.reduceAdd, Nat.reduceMul, Nat.reduceLeDiff, reduceCtorEq]
          refine tk_iconst dX11_make_84 kc_iconst_1 ?_
          first | refine tk_iaddN dX11_make_85 ?_ | refine tk_iadd dX11_make_85 ?_
          refine tk_putI dX11_make_86 fX11_256 wX11_make_X11_35 rfl hR.o ?_
          first | refine tk_iinc6 dX11_make_89 (kc_inc _) rfl ?_ | refine tk_iinc6 dX11_make_89 rfl rfl ?_
          refine tk_goto dX11_make_92 ?_
          try simp only [va_up_self, bx_uu, tk_une, tk_usrt, not_false_eq_true, Nat.reduceEqDiff, Nat.reduceLT, Nat.reduceAdd, Nat.reduceMul, Nat.reduceLeDiff, reduceCtorEq]
          first
            | exact q _ (by repeat' (first | exact trivial | refine ⟨Or.inl rfl, ?_⟩ | refine ⟨Or.inr rfl, ?_⟩))
            | have hm : ¬ tb M w = true := fun e => h25 ((tb_t1 M hw64).mpr e)
              have hd : ¬ (tb M w && decide (w = r)) = true := fun e => hm ((Bool.and_eq_true _ _ ▸ e).1)
              unfold mkI at k
              rw [rMf, rMn, rMr, cnt, if_neg hm, if_neg hm, if_neg hm, if_neg hd, Nat.add_zero] at k
              exact k _ (by repeat' (first | exact trivial | refine ⟨Or.inl rfl, ?_⟩ | refine ⟨Or.inr rfl, ?_⟩))
end REFCB
