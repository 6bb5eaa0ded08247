/-! ===== the reference: what is so, in words ===== -/
def rSF (F : Nat → Int32) (W : Nat) (v : Nat) : Int64 := mk (fun w => decide (kshr (F w) (nI v) &&& nI 1 = nI 1)) W
def rKn (B : Nat → Int64) (p w : Nat) (x set : Int64) : Bool := decide (B (64 * p + w) &&& set &&& (x ^^^ (-1)) = 0)
def rMem (g : Int32) (p : Nat) : Bool := decide (kshr g (nI p) &&& nI 1 = nI 1)
def rEa (B : Nat → Int64) (g : Int32) (w : Nat) (x set : Int64) : Nat → Bool
  | 0 => true
  | p + 1 => if rMem g p = true then rEa B g w x set p && rKn B p w x set else rEa B g w x set p
def rTo (B : Nat → Int64) (g : Int32) (w : Nat) (set : Int64) : Nat → Int64
  | 0 => set
  | p + 1 => if rMem g p = true then rTo B g w set p &&& B (64 * p + w) else rTo B g w set p
def rCw (B : Nat → Int64) (set : Int64) (p : Nat) (is : Int64) : Nat → Int64
  | 0 => is
  | w + 1 => rCw B set p is w ||| (if tb (rCw B set p is w) w = true then B (64 * p + w) &&& set else 0)
def rCp (B : Nat → Int64) (set : Int64) (g : Int32) (W : Nat) (is : Int64) : Nat → Int64
  | 0 => is
  | p + 1 => if rMem g p = true then rCw B set p (rCp B set g W is p) W else rCp B set g W is p
def rCl (B : Nat → Int64) (set : Int64) (g : Int32) (W np : Nat) : Nat → Int64 → Int64
  | 0, is => is
  | k + 1, is => if rCp B set g W is np = is then is else rCl B set g W np k (rCp B set g W is np)
def rRe (cv : Nat → Int64) (dn : Nat) : Nat → Int64 → Int64
  | 0, rest => rest
  | c + 1, rest => if c < dn then rest else rRe cv dn c (if cv c &&& rest = 0 then rest else cv c &&& rest)
def cnt (x : Int64) : Nat → Nat
  | 0 => 0
  | k + 1 => cnt x k + (if tb x k then 1 else 0)
theorem cnt_le (x : Int64) (k : Nat) : cnt x k ≤ k := by
  induction k with
  | zero => exact Nat.le_refl _
  | succ k ih => rw [cnt]; split <;> omega
theorem cnt_mono {x y : Int64} (h : ∀ i, tb x i = true → tb y i = true) (k : Nat) : cnt x k ≤ cnt y k := by
  induction k with
  | zero => exact Nat.le_refl _
  | succ k ih =>
    rw [cnt, cnt]
    cases e : tb x k with
    | true => rw [h k e]; simp; exact ih
    | false => simp; omega
theorem cnt_lt {x y : Int64} (h : ∀ i, tb x i = true → tb y i = true) {k j : Nat} (hj : j < k) (h1 : tb x j = false) (h2 : tb y j = true) : cnt x k < cnt y k := by
  induction k with
  | zero => omega
  | succ k ih =>
    rw [cnt, cnt]
    by_cases e : j = k
    · subst e
      have := cnt_mono h j
      rw [h1, h2]; simp; omega
    · have := ih (by omega)
      cases e2 : tb x k with
      | true => rw [h k e2]; simp; exact this
      | false => simp; omega
theorem rCw_mono (B : Nat → Int64) (set : Int64) (p : Nat) (is : Int64) (w i : Nat) (h : tb is i = true) : tb (rCw B set p is w) i = true := by
  induction w with
  | zero => exact h
  | succ w ih => rw [rCw, tb_or, ih]; rfl
theorem rCp_mono (B : Nat → Int64) (set : Int64) (g : Int32) (W : Nat) (is : Int64) (p i : Nat) (h : tb is i = true) : tb (rCp B set g W is p) i = true := by
  induction p with
  | zero => exact h
  | succ p ih =>
    rw [rCp]
    split
    · exact rCw_mono _ _ _ _ _ _ ih
    · exact ih
theorem rCp_grow (B : Nat → Int64) (set : Int64) (g : Int32) (W : Nat) (is : Int64) (p : Nat) (h : ¬ rCp B set g W is p = is) : cnt is 64 < cnt (rCp B set g W is p) 64 := by
  have hm := rCp_mono B set g W is p
  by_cases q : ∃ j, j < 64 ∧ tb is j = false ∧ tb (rCp B set g W is p) j = true
  · obtain ⟨j, h1, h2, h3⟩ := q
    exact cnt_lt hm h1 h2 h3
  · exfalso
    apply h
    apply tb_ext
    intro i hi
    cases e : tb is i with
    | true => exact hm i e
    | false =>
      cases e2 : tb (rCp B set g W is p) i with
      | false => rfl
      | true => exact absurd ⟨i, hi, e, e2⟩ q
section REFK
variable {G : tkG} {n : Nat} {T : Nat → Nat × Nat} {I : Nat → Nat → Int32} {L : Nat → Nat → Int64} {P : Nat → Nat → Option Nat}
theorem r_knows (hR : tkRef T P) {p w : Nat} (hp : p < 4) (hw : w < 64) (x set : Int64) : tkM G mX11_knows 0 0 0 [vR 40, vI (nI p), vI (nI w), vL x, vL set] (n, T, I, L, P) (tkF (some (vI (tkb (rKn (L 66) p w x set)))) (n, T, I, L, P)) := by
  refine tkM.of (ls := [some _, some _, some _, some _, none, some _, none]) (by decide +kernel) (by decide +kernel) (Nat.le_of_ble_eq_true rfl) rfl ?_
  refine tk_aload0 dX11_knows_0 ?_
  refine tk_getP dX11_knows_1 fX11_86 rfl hR.o (hR.p 30 rfl) ?_
  refine tk_bipush dX11_knows_4 kc_bipush_64 ?_
  refine tk_iload1 dX11_knows_6 ?_
  first | refine tk_imulN dX11_knows_7 ?_ | refine tk_imul dX11_knows_7 ?_
  refine tk_iload2 dX11_knows_8 ?_
  first | refine tk_iaddN dX11_knows_9 ?_ | refine tk_iadd dX11_knows_9 ?_
  refine tk_lald dX11_knows_10 (hR.t 66 rfl) (by omega) (by omega) ?_
  refine tk_lload5 dX11_knows_11 ?_
  refine tk_land dX11_knows_13 ?_
  refine tk_lload3 dX11_knows_14 ?_
  refine tk_ldc2 dX11_knows_15 klX11_218 ?_
  refine tk_lxor dX11_knows_18 ?_
  refine tk_land dX11_knows_19 ?_
  refine tk_lconst dX11_knows_20 (v := 0) (by decide) ?_
  refine tk_lcmp dX11_knows_21 ?_
  first | refine tk_jf_neB dX11_knows_22 (fun h22 => ?_) (fun h22 => ?_) | refine tk_if_ne dX11_knows_22 (fun h22 => ?_) (fun h22 => ?_)
  · refine tk_iconst dX11_knows_29 kc_iconst_0 ?_
    first | refine tk_zreturn dX11_knows_30 rfl ?_ | refine tk_zret0 dX11_knows_30 rfl ?_ | refine tk_zret1 dX11_knows_30 rfl ?_
    exact tkz (by unfold rKn; first | rw [decide_eq_true ((lgc0 _ _).mp h22)] | rw [decide_eq_false (fun e => h22 ((lgc0 _ _).mpr e))])
  · refine tk_iconst dX11_knows_25 kc_iconst_1 ?_
    refine tk_goto dX11_knows_26 ?_
    first | refine tk_zreturn dX11_knows_30 rfl ?_ | refine tk_zret0 dX11_knows_30 rfl ?_ | refine tk_zret1 dX11_knows_30 rfl ?_
    exact tkz (by unfold rKn; first | rw [decide_eq_true ((lgc0 _ _).mp h22)] | rw [decide_eq_false (fun e => h22 ((lgc0 _ _).mpr e))])
theorem r_ctL (hR : tkRef T P) {np W : Nat} (hnp : I 41 0 = nI np) (hnp4 : np ≤ 4) (hW : I 40 26 = nI W) (hW2 : W ≤ 64) (g : Int32) (fr set : Int64) : ∀ (m : Nat) (is was : Int64), 64 - cnt is 64 ≤ m → ¬ is = was → tkX G mX11_comesTo 0 0 0 6 [some (vR 40), some (vI g), some (vL fr), none, some (vL set), none, some (vL is), none, some (vL was), none, none, none] [] (n, T, I, L, P) (tkF (some (vL (rCl (L 66) set g W np m is))) (n, T, I, L, P)) := by
  intro m
  induction m with
  | zero =>
    intro is was hm hne
    have hfix : rCp (L 66) set g W is np = is := by
      by_cases e : rCp (L 66) set g W is np = is
      · exact e
      · have h1 := rCp_grow _ _ _ _ _ _ e
        have h2 := cnt_le (rCp (L 66) set g W is np) 64
        omega
    have kk : ∀ {l : List (Option tkV)}, tkle [some (vR 40), some (vI g), some (vL fr), none, some (vL set), none, some (vL is), none, some (vL is), none, none, none] l → tkX G mX11_comesTo 0 0 0 6 l [] (n, T, I, L, P) (tkF (some (vL (rCl (L 66) set g W np 0 is))) (n, T, I, L, P)) := by
      intro l hl
      refine tk_wk hl ?_
      refine tk_lload6 dX11_comesTo_6 ?_
      refine tk_lload8 dX11_comesTo_8 ?_
      refine tk_lcmp dX11_comesTo_10 ?_
      first | refine tk_jf_eqB dX11_comesTo_11 (fun h11 => ?_) (fun h11 => ?_) | refine tk_if_eq dX11_comesTo_11 (fun h11 => ?_) (fun h11 => ?_)
      · refine tk_lload6 dX11_comesTo_106 ?_
        refine tk_lreturn dX11_comesTo_108 rfl ?_
        exact ⟨rfl, rfl⟩
      · exact absurd ((lgc0 is is).mpr rfl) h11
    refine tk_lload6 dX11_comesTo_6 ?_
    refine tk_lload8 dX11_comesTo_8 ?_
    refine tk_lcmp dX11_comesTo_10 ?_
    first | refine tk_jf_eqB dX11_comesTo_11 (fun h11 => ?_) (fun h11 => ?_) | refine tk_if_eq dX11_comesTo_11 (fun h11 => ?_) (fun h11 => ?_)
    · exact absurd ((lgc0 _ _).mp h11) hne
    · refine tk_lload6 dX11_comesTo_14 ?_
      refine tk_lstore8 dX11_comesTo_16 rfl ?_
      refine tk_iconst dX11_comesTo_18 kc_iconst_0 ?_
      refine tk_istore10 dX11_comesTo_19 rfl ?_
      refine tk_fr 0 np (fun p => [some (vR 40), some (vI g), some (vL fr), none, some (vL set), none, some (vL (rCp (L 66) set g W is p)), none, some (vL is), none, some (vI (nI p)), none]) (fun p => (n, T, I, L, P)) (by omega) (by repeat' (first | exact trivial | refine ⟨Or.inl rfl, ?_⟩ | refine ⟨Or.inr rfl, ?_⟩)) rfl ?_ ?_
      rw [hfix]
      · refine tk_iload10 dX11_comesTo_21 ?_
        refine tk_aload0 dX11_comesTo_23 ?_
        refine tk_getP dX11_comesTo_24 fX11_7 rfl hR.o (hR.p 0 rfl) ?_
        refine tk_iconst dX11_comesTo_27 kc_iconst_0 ?_
        refine tk_iald dX11_comesTo_28 (hR.t 41 rfl) (by omega) (by omega) ?_
        rw [hnp]
        first | refine tk_icmp_geN dX11_comesTo_29 (by omega) (by omega) (fun h29 => ?_) (fun h29 => ?_) | refine tk_jcmp_ge dX11_comesTo_29 (fun h29 => ?_) (fun h29 => ?_)
        · refine tk_goto dX11_comesTo_103 ?_
          exact kk (by repeat' (first | exact trivial | refine ⟨Or.inl rfl, ?_⟩ | refine ⟨Or.inr rfl, ?_⟩))
        · exfalso; omega
      · intro p _ hp k
        refine tk_iload10 dX11_comesTo_21 ?_
        refine tk_aload0 dX11_comesTo_23 ?_
        refine tk_getP dX11_comesTo_24 fX11_7 rfl hR.o (hR.p 0 rfl) ?_
        refine tk_iconst dX11_comesTo_27 kc_iconst_0 ?_
        refine tk_iald dX11_comesTo_28 (hR.t 41 rfl) (by omega) (by omega) ?_
        rw [hnp]
        first | refine tk_icmp_geN dX11_comesTo_29 (by omega) (by omega) (fun h29 => ?_) (fun h29 => ?_) | refine tk_jcmp_ge dX11_comesTo_29 (fun h29 => ?_) (fun h29 => ?_)
        · exfalso; omega
        · refine tk_iconst dX11_comesTo_32 kc_iconst_0 ?_
          refine tk_istore11 dX11_comesTo_33 rfl ?_
          cases hmem : rMem g p with
          | true =>
            refine tk_fr 0 W (fun w => [some (vR 40), some (vI g), some (vL fr), none, some (vL set), none, some (vL (rCw (L 66) set p (rCp (L 66) set g W is p) w)), none, some (vL is), none, some (vI (nI p)), some (vI (nI w))]) (fun w => (n, T, I, L, P)) (by omega) (by repeat' (first | exact trivial | refine ⟨Or.inl rfl, ?_⟩ | refine ⟨Or.inr rfl, ?_⟩)) rfl ?_ ?_
            · refine tk_iload11 dX11_comesTo_35 ?_
              refine tk_aload0 dX11_comesTo_37 ?_
              refine tk_getI dX11_comesTo_38 fX11_215 rfl hR.o ?_
              rw [hW]
              first | refine tk_icmp_geN dX11_comesTo_41 (by omega) (by omega) (fun h41 => ?_) (fun h41 => ?_) | refine tk_jcmp_ge dX11_comesTo_41 (fun h41 => ?_) (fun h41 => ?_)
              · first | refine tk_iinc10 dX11_comesTo_97 (kc_inc _) rfl ?_ | refine tk_iinc10 dX11_comesTo_97 rfl rfl ?_
                refine tk_goto dX11_comesTo_100 ?_
                refine k _ ?_
                rw [show rCp (L 66) set g W is (p + 1) = rCw (L 66) set p (rCp (L 66) set g W is p) W from if_pos hmem]
                exact (by repeat' (first | exact trivial | refine ⟨Or.inl rfl, ?_⟩ | refine ⟨Or.inr rfl, ?_⟩))
              · exfalso; omega
            · intro w _ hw k2
              refine tk_iload11 dX11_comesTo_35 ?_
              refine tk_aload0 dX11_comesTo_37 ?_
              refine tk_getI dX11_comesTo_38 fX11_215 rfl hR.o ?_
              rw [hW]
              first | refine tk_icmp_geN dX11_comesTo_41 (by omega) (by omega) (fun h41 => ?_) (fun h41 => ?_) | refine tk_jcmp_ge dX11_comesTo_41 (fun h41 => ?_) (fun h41 => ?_)
              · first | (exfalso; omega) | (exact absurd (of_decide_eq_true hmem) h51)
              · refine tk_iload1 dX11_comesTo_44 ?_
                refine tk_iload10 dX11_comesTo_45 ?_
                refine tk_ishr dX11_comesTo_47 ?_
                refine tk_iconst dX11_comesTo_48 kc_iconst_1 ?_
                refine tk_iand dX11_comesTo_49 ?_
                refine tk_iconst dX11_comesTo_50 kc_iconst_1 ?_
                first | refine tk_icmp_neN dX11_comesTo_51 (by omega) (by omega) (fun h51 => ?_) (fun h51 => ?_) | refine tk_icmp_ne dX11_comesTo_51 (fun h51 => ?_) (fun h51 => ?_)
                · first | (exfalso; omega) | (exact absurd (of_decide_eq_true hmem) h51)
                · refine tk_lload6 dX11_comesTo_54 ?_
                  refine tk_lload6 dX11_comesTo_56 ?_
                  refine tk_iload11 dX11_comesTo_58 ?_
                  refine tk_lshr dX11_comesTo_60 ?_
                  refine tk_lconst dX11_comesTo_61 (v := 1) (by decide) ?_
                  refine tk_land dX11_comesTo_62 ?_
                  refine tk_lconst dX11_comesTo_63 (v := 1) (by decide) ?_
                  refine tk_lcmp dX11_comesTo_64 ?_
                  first | refine tk_jf_neB dX11_comesTo_65 (fun h65 => ?_) (fun h65 => ?_) | refine tk_if_ne dX11_comesTo_65 (fun h65 => ?_) (fun h65 => ?_)
                  · refine tk_lconst dX11_comesTo_87 (v := 0) (by decide) ?_
                    refine tk_lor dX11_comesTo_88 ?_
                    refine tk_lstore6 dX11_comesTo_89 rfl ?_
                    first | refine tk_iinc11 dX11_comesTo_91 (kc_inc _) rfl ?_ | refine tk_iinc11 dX11_comesTo_91 rfl rfl ?_
                    refine tk_goto dX11_comesTo_94 ?_
                    refine k2 _ ?_
                    first | rw [show rCw (L 66) set p (rCp (L 66) set g W is p) (w + 1) = _ ||| (L 66 (64 * p + w) &&& set) from congrArg _ (if_pos ((tb_t1 _ (by omega)).mp h65))] | rw [show rCw (L 66) set p (rCp (L 66) set g W is p) (w + 1) = _ ||| 0 from congrArg _ (if_neg (fun e => h65 ((tb_t1 _ (by omega)).mpr e)))]
                    exact (by repeat' (first | exact trivial | refine ⟨Or.inl rfl, ?_⟩ | refine ⟨Or.inr rfl, ?_⟩))
                  · refine tk_aload0 dX11_comesTo_68 ?_
                    refine tk_getP dX11_comesTo_69 fX11_86 rfl hR.o (hR.p 30 rfl) ?_
                    refine tk_bipush dX11_comesTo_72 kc_bipush_64 ?_
                    refine tk_iload10 dX11_comesTo_74 ?_
                    first | refine tk_imulN dX11_comesTo_76 ?_ | refine tk_imul dX11_comesTo_76 ?_
                    refine tk_iload11 dX11_comesTo_77 ?_
                    first | refine tk_iaddN dX11_comesTo_79 ?_ | refine tk_iadd dX11_comesTo_79 ?_
                    refine tk_lald dX11_comesTo_80 (hR.t 66 rfl) (by omega) (by omega) ?_
                    refine tk_lload4 dX11_comesTo_81 ?_
                    refine tk_land dX11_comesTo_83 ?_
                    refine tk_goto dX11_comesTo_84 ?_
                    refine tk_lor dX11_comesTo_88 ?_
                    refine tk_lstore6 dX11_comesTo_89 rfl ?_
                    first | refine tk_iinc11 dX11_comesTo_91 (kc_inc _) rfl ?_ | refine tk_iinc11 dX11_comesTo_91 rfl rfl ?_
                    refine tk_goto dX11_comesTo_94 ?_
                    refine k2 _ ?_
                    first | rw [show rCw (L 66) set p (rCp (L 66) set g W is p) (w + 1) = _ ||| (L 66 (64 * p + w) &&& set) from congrArg _ (if_pos ((tb_t1 _ (by omega)).mp h65))] | rw [show rCw (L 66) set p (rCp (L 66) set g W is p) (w + 1) = _ ||| 0 from congrArg _ (if_neg (fun e => h65 ((tb_t1 _ (by omega)).mpr e)))]
                    exact (by repeat' (first | exact trivial | refine ⟨Or.inl rfl, ?_⟩ | refine ⟨Or.inr rfl, ?_⟩))
          | false =>
            refine tk_iload11 dX11_comesTo_35 ?_
            refine tk_aload0 dX11_comesTo_37 ?_
            refine tk_getI dX11_comesTo_38 fX11_215 rfl hR.o ?_
            rw [hW]
            first | refine tk_icmp_geN dX11_comesTo_41 (by omega) (by omega) (fun h41 => ?_) (fun h41 => ?_) | refine tk_jcmp_ge dX11_comesTo_41 (fun h41 => ?_) (fun h41 => ?_)
            · first | refine tk_iinc10 dX11_comesTo_97 (kc_inc _) rfl ?_ | refine tk_iinc10 dX11_comesTo_97 rfl rfl ?_
              refine tk_goto dX11_comesTo_100 ?_
              refine k _ ?_
              rw [show rCp (L 66) set g W is (p + 1) = rCp (L 66) set g W is p from if_neg (by rw [hmem]; decide)]
              exact (by repeat' (first | exact trivial | refine ⟨Or.inl rfl, ?_⟩ | refine ⟨Or.inr rfl, ?_⟩))
            · refine tk_iload1 dX11_comesTo_44 ?_
              refine tk_iload10 dX11_comesTo_45 ?_
              refine tk_ishr dX11_comesTo_47 ?_
              refine tk_iconst dX11_comesTo_48 kc_iconst_1 ?_
              refine tk_iand dX11_comesTo_49 ?_
              refine tk_iconst dX11_comesTo_50 kc_iconst_1 ?_
              first | refine tk_icmp_neN dX11_comesTo_51 (by omega) (by omega) (fun h51 => ?_) (fun h51 => ?_) | refine tk_icmp_ne dX11_comesTo_51 (fun h51 => ?_) (fun h51 => ?_)
              · first | refine tk_iinc10 dX11_comesTo_97 (kc_inc _) rfl ?_ | refine tk_iinc10 dX11_comesTo_97 rfl rfl ?_
                refine tk_goto dX11_comesTo_100 ?_
                refine k _ ?_
                rw [show rCp (L 66) set g W is (p + 1) = rCp (L 66) set g W is p from if_neg (by rw [hmem]; decide)]
                exact (by repeat' (first | exact trivial | refine ⟨Or.inl rfl, ?_⟩ | refine ⟨Or.inr rfl, ?_⟩))
              · exact absurd h51 (of_decide_eq_false hmem)
  | succ m ih =>
    intro is was hm hne
    refine tk_lload6 dX11_comesTo_6 ?_
    refine tk_lload8 dX11_comesTo_8 ?_
    refine tk_lcmp dX11_comesTo_10 ?_
    first | refine tk_jf_eqB dX11_comesTo_11 (fun h11 => ?_) (fun h11 => ?_) | refine tk_if_eq dX11_comesTo_11 (fun h11 => ?_) (fun h11 => ?_)
    · exact absurd ((lgc0 _ _).mp h11) hne
    · refine tk_lload6 dX11_comesTo_14 ?_
      refine tk_lstore8 dX11_comesTo_16 rfl ?_
      refine tk_iconst dX11_comesTo_18 kc_iconst_0 ?_
      refine tk_istore10 dX11_comesTo_19 rfl ?_
      refine tk_fr 0 np (fun p => [some (vR 40), some (vI g), some (vL fr), none, some (vL set), none, some (vL (rCp (L 66) set g W is p)), none, some (vL is), none, some (vI (nI p)), none]) (fun p => (n, T, I, L, P)) (by omega) (by repeat' (first | exact trivial | refine ⟨Or.inl rfl, ?_⟩ | refine ⟨Or.inr rfl, ?_⟩)) rfl ?_ ?_
      · refine tk_iload10 dX11_comesTo_21 ?_
        refine tk_aload0 dX11_comesTo_23 ?_
        refine tk_getP dX11_comesTo_24 fX11_7 rfl hR.o (hR.p 0 rfl) ?_
        refine tk_iconst dX11_comesTo_27 kc_iconst_0 ?_
        refine tk_iald dX11_comesTo_28 (hR.t 41 rfl) (by omega) (by omega) ?_
        rw [hnp]
        first | refine tk_icmp_geN dX11_comesTo_29 (by omega) (by omega) (fun h29 => ?_) (fun h29 => ?_) | refine tk_jcmp_ge dX11_comesTo_29 (fun h29 => ?_) (fun h29 => ?_)
        · refine tk_goto dX11_comesTo_103 ?_
          by_cases hfix : rCp (L 66) set g W is np = is
          · rw [show rCl (L 66) set g W np (m + 1) is = is from if_pos hfix, hfix]
            refine tk_lload6 dX11_comesTo_6 ?_
            refine tk_lload8 dX11_comesTo_8 ?_
            refine tk_lcmp dX11_comesTo_10 ?_
            first | refine tk_jf_eqB dX11_comesTo_11 (fun h11 => ?_) (fun h11 => ?_) | refine tk_if_eq dX11_comesTo_11 (fun h11 => ?_) (fun h11 => ?_)
            · refine tk_lload6 dX11_comesTo_106 ?_
              refine tk_lreturn dX11_comesTo_108 rfl ?_
              exact ⟨rfl, rfl⟩
            · exact absurd ((lgc0 is is).mpr rfl) h11
          · rw [show rCl (L 66) set g W np (m + 1) is = rCl (L 66) set g W np m (rCp (L 66) set g W is np) from if_neg hfix]
            refine tk_wk ?_ (ih (rCp (L 66) set g W is np) is ?_ hfix)
            · exact (by repeat' (first | exact trivial | refine ⟨Or.inl rfl, ?_⟩ | refine ⟨Or.inr rfl, ?_⟩))
            · have h1 := rCp_grow _ _ _ _ _ _ hfix
              omega
        · exfalso; omega
      · intro p _ hp k
        refine tk_iload10 dX11_comesTo_21 ?_
        refine tk_aload0 dX11_comesTo_23 ?_
        refine tk_getP dX11_comesTo_24 fX11_7 rfl hR.o (hR.p 0 rfl) ?_
        refine tk_iconst dX11_comesTo_27 kc_iconst_0 ?_
        refine tk_iald dX11_comesTo_28 (hR.t 41 rfl) (by omega) (by omega) ?_
        rw [hnp]
        first | refine tk_icmp_geN dX11_comesTo_29 (by omega) (by omega) (fun h29 => ?_) (fun h29 => ?_) | refine tk_jcmp_ge dX11_comesTo_29 (fun h29 => ?_) (fun h29 => ?_)
        · exfalso; omega
        · refine tk_iconst dX11_comesTo_32 kc_iconst_0 ?_
          refine tk_istore11 dX11_comesTo_33 rfl ?_
          cases hmem : rMem g p with
          | true =>
            refine tk_fr 0 W (fun w => [some (vR 40), some (vI g), some (vL fr), none, some (vL set), none, some (vL (rCw (L 66) set p (rCp (L 66) set g W is p) w)), none, some (vL is), none, some (vI (nI p)), some (vI (nI w))]) (fun w => (n, T, I, L, P)) (by omega) (by repeat' (first | exact trivial | refine ⟨Or.inl rfl, ?_⟩ | refine ⟨Or.inr rfl, ?_⟩)) rfl ?_ ?_
            · refine tk_iload11 dX11_comesTo_35 ?_
              refine tk_aload0 dX11_comesTo_37 ?_
              refine tk_getI dX11_comesTo_38 fX11_215 rfl hR.o ?_
              rw [hW]
              first | refine tk_icmp_geN dX11_comesTo_41 (by omega) (by omega) (fun h41 => ?_) (fun h41 => ?_) | refine tk_jcmp_ge dX11_comesTo_41 (fun h41 => ?_) (fun h41 => ?_)
              · first | refine tk_iinc10 dX11_comesTo_97 (kc_inc _) rfl ?_ | refine tk_iinc10 dX11_comesTo_97 rfl rfl ?_
                refine tk_goto dX11_comesTo_100 ?_
                refine k _ ?_
                rw [show rCp (L 66) set g W is (p + 1) = rCw (L 66) set p (rCp (L 66) set g W is p) W from if_pos hmem]
                exact (by repeat' (first | exact trivial | refine ⟨Or.inl rfl, ?_⟩ | refine ⟨Or.inr rfl, ?_⟩))
              · exfalso; omega
            · intro w _ hw k2
              refine tk_iload11 dX11_comesTo_35 ?_
              refine tk_aload0 dX11_comesTo_37 ?_
              refine tk_getI dX11_comesTo_38 fX11_215 rfl hR.o ?_
              rw [hW]
              first | refine tk_icmp_geN dX11_comesTo_41 (by omega) (by omega) (fun h41 => ?_) (fun h41 => ?_) | refine tk_jcmp_ge dX11_comesTo_41 (fun h41 => ?_) (fun h41 => ?_)
              · first | (exfalso; omega) | (exact absurd (of_decide_eq_true hmem) h51)
              · refine tk_iload1 dX11_comesTo_44 ?_
                refine tk_iload10 dX11_comesTo_45 ?_
                refine tk_ishr dX11_comesTo_47 ?_
                refine tk_iconst dX11_comesTo_48 kc_iconst_1 ?_
                refine tk_iand dX11_comesTo_49 ?_
                refine tk_iconst dX11_comesTo_50 kc_iconst_1 ?_
                first | refine tk_icmp_neN dX11_comesTo_51 (by omega) (by omega) (fun h51 => ?_) (fun h51 => ?_) | refine tk_icmp_ne dX11_comesTo_51 (fun h51 => ?_) (fun h51 => ?_)
                · first | (exfalso; omega) | (exact absurd (of_decide_eq_true hmem) h51)
                · refine tk_lload6 dX11_comesTo_54 ?_
                  refine tk_lload6 dX11_comesTo_56 ?_
                  refine tk_iload11 dX11_comesTo_58 ?_
                  refine tk_lshr dX11_comesTo_60 ?_
                  refine tk_lconst dX11_comesTo_61 (v := 1) (by decide) ?_
                  refine tk_land dX11_comesTo_62 ?_
                  refine tk_lconst dX11_comesTo_63 (v := 1) (by decide) ?_
                  refine tk_lcmp dX11_comesTo_64 ?_
                  first | refine tk_jf_neB dX11_comesTo_65 (fun h65 => ?_) (fun h65 => ?_) | refine tk_if_ne dX11_comesTo_65 (fun h65 => ?_) (fun h65 => ?_)
                  · refine tk_lconst dX11_comesTo_87 (v := 0) (by decide) ?_
                    refine tk_lor dX11_comesTo_88 ?_
                    refine tk_lstore6 dX11_comesTo_89 rfl ?_
                    first | refine tk_iinc11 dX11_comesTo_91 (kc_inc _) rfl ?_ | refine tk_iinc11 dX11_comesTo_91 rfl rfl ?_
                    refine tk_goto dX11_comesTo_94 ?_
                    refine k2 _ ?_
                    first | rw [show rCw (L 66) set p (rCp (L 66) set g W is p) (w + 1) = _ ||| (L 66 (64 * p + w) &&& set) from congrArg _ (if_pos ((tb_t1 _ (by omega)).mp h65))] | rw [show rCw (L 66) set p (rCp (L 66) set g W is p) (w + 1) = _ ||| 0 from congrArg _ (if_neg (fun e => h65 ((tb_t1 _ (by omega)).mpr e)))]
                    exact (by repeat' (first | exact trivial | refine ⟨Or.inl rfl, ?_⟩ | refine ⟨Or.inr rfl, ?_⟩))
                  · refine tk_aload0 dX11_comesTo_68 ?_
                    refine tk_getP dX11_comesTo_69 fX11_86 rfl hR.o (hR.p 30 rfl) ?_
                    refine tk_bipush dX11_comesTo_72 kc_bipush_64 ?_
                    refine tk_iload10 dX11_comesTo_74 ?_
                    first | refine tk_imulN dX11_comesTo_76 ?_ | refine tk_imul dX11_comesTo_76 ?_
                    refine tk_iload11 dX11_comesTo_77 ?_
                    first | refine tk_iaddN dX11_comesTo_79 ?_ | refine tk_iadd dX11_comesTo_79 ?_
                    refine tk_lald dX11_comesTo_80 (hR.t 66 rfl) (by omega) (by omega) ?_
                    refine tk_lload4 dX11_comesTo_81 ?_
                    refine tk_land dX11_comesTo_83 ?_
                    refine tk_goto dX11_comesTo_84 ?_
                    refine tk_lor dX11_comesTo_88 ?_
                    refine tk_lstore6 dX11_comesTo_89 rfl ?_
                    first | refine tk_iinc11 dX11_comesTo_91 (kc_inc _) rfl ?_ | refine tk_iinc11 dX11_comesTo_91 rfl rfl ?_
                    refine tk_goto dX11_comesTo_94 ?_
                    refine k2 _ ?_
                    first | rw [show rCw (L 66) set p (rCp (L 66) set g W is p) (w + 1) = _ ||| (L 66 (64 * p + w) &&& set) from congrArg _ (if_pos ((tb_t1 _ (by omega)).mp h65))] | rw [show rCw (L 66) set p (rCp (L 66) set g W is p) (w + 1) = _ ||| 0 from congrArg _ (if_neg (fun e => h65 ((tb_t1 _ (by omega)).mpr e)))]
                    exact (by repeat' (first | exact trivial | refine ⟨Or.inl rfl, ?_⟩ | refine ⟨Or.inr rfl, ?_⟩))
          | false =>
            refine tk_iload11 dX11_comesTo_35 ?_
            refine tk_aload0 dX11_comesTo_37 ?_
            refine tk_getI dX11_comesTo_38 fX11_215 rfl hR.o ?_
            rw [hW]
            first | refine tk_icmp_geN dX11_comesTo_41 (by omega) (by omega) (fun h41 => ?_) (fun h41 => ?_) | refine tk_jcmp_ge dX11_comesTo_41 (fun h41 => ?_) (fun h41 => ?_)
            · first | refine tk_iinc10 dX11_comesTo_97 (kc_inc _) rfl ?_ | refine tk_iinc10 dX11_comesTo_97 rfl rfl ?_
              refine tk_goto dX11_comesTo_100 ?_
              refine k _ ?_
              rw [show rCp (L 66) set g W is (p + 1) = rCp (L 66) set g W is p from if_neg (by rw [hmem]; decide)]
              exact (by repeat' (first | exact trivial | refine ⟨Or.inl rfl, ?_⟩ | refine ⟨Or.inr rfl, ?_⟩))
            · refine tk_iload1 dX11_comesTo_44 ?_
              refine tk_iload10 dX11_comesTo_45 ?_
              refine tk_ishr dX11_comesTo_47 ?_
              refine tk_iconst dX11_comesTo_48 kc_iconst_1 ?_
              refine tk_iand dX11_comesTo_49 ?_
              refine tk_iconst dX11_comesTo_50 kc_iconst_1 ?_
              first | refine tk_icmp_neN dX11_comesTo_51 (by omega) (by omega) (fun h51 => ?_) (fun h51 => ?_) | refine tk_icmp_ne dX11_comesTo_51 (fun h51 => ?_) (fun h51 => ?_)
              · first | refine tk_iinc10 dX11_comesTo_97 (kc_inc _) rfl ?_ | refine tk_iinc10 dX11_comesTo_97 rfl rfl ?_
                refine tk_goto dX11_comesTo_100 ?_
                refine k _ ?_
                rw [show rCp (L 66) set g W is (p + 1) = rCp (L 66) set g W is p from if_neg (by rw [hmem]; decide)]
                exact (by repeat' (first | exact trivial | refine ⟨Or.inl rfl, ?_⟩ | refine ⟨Or.inr rfl, ?_⟩))
              · exact absurd h51 (of_decide_eq_false hmem)
theorem r_comesTo (hR : tkRef T P) {np W : Nat} (hnp : I 41 0 = nI np) (hnp4 : np ≤ 4) (hW : I 40 26 = nI W) (hW2 : W ≤ 64) (g : Int32) (fr set : Int64) (h0 : ¬ fr = 0) : tkM G mX11_comesTo 0 0 0 [vR 40, vI g, vL fr, vL set] (n, T, I, L, P) (tkF (some (vL (rCl (L 66) set g W np 64 fr))) (n, T, I, L, P)) := by
  refine tkM.of (ls := [some _, some _, some _, none, some _, none, none, none, none, none, none, none]) (by decide +kernel) (by decide +kernel) (Nat.le_of_ble_eq_true rfl) rfl ?_
  refine tk_lload2 dX11_comesTo_0 ?_
  refine tk_lstore6 dX11_comesTo_1 rfl ?_
  refine tk_lconst dX11_comesTo_3 (v := 0) (by decide) ?_
  refine tk_lstore8 dX11_comesTo_4 rfl ?_
  exact tk_wk (by repeat' (first | exact trivial | refine ⟨Or.inl rfl, ?_⟩ | refine ⟨Or.inr rfl, ?_⟩)) (r_ctL hR hnp hnp4 hW hW2 g fr set 64 fr 0 (by omega) h0)
end REFK
