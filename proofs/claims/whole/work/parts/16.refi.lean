/-! ===== the reference: marks and views ===== -/
def rSt (c : Nat → Int32) (p w : Nat) : Nat → Int64
  | 0 => 0
  | u + 1 => rSt c p w u ||| (if c (64 * p + u) = c (64 * p + w) then jshl 1 (nI u) else 0)
def rTB (f : Nat → Int64) (c : Nat → Int32) (W p w : Nat) : Nat → Int64 := fun j => if j < 256 ∧ j % 64 < W ∧ (j / 64 < p ∨ (j / 64 = p ∧ j % 64 < w)) then rSt c (j / 64) (j % 64) W else f j
theorem rTB_0 (f : Nat → Int64) (c : Nat → Int32) (W : Nat) : rTB f c W 0 0 = f := by
  funext j
  unfold rTB
  rw [if_neg (by omega)]
theorem rTB_s (f : Nat → Int64) (c : Nat → Int32) {W p w : Nat} (hW : W ≤ 64) (hw : w < W) (hp : p < 4) : va_up (rTB f c W p w) (64 * p + w) (rSt c p w W) = rTB f c W p (w + 1) := by
  funext j
  unfold rTB va_up
  by_cases h : j = 64 * p + w
  · rw [if_pos h, if_pos (by omega), show j / 64 = p by omega, show j % 64 = w by omega]
  · rw [if_neg h]
    show (if _ then _ else _) = _
    by_cases h2 : j < 256 ∧ j % 64 < W ∧ (j / 64 < p ∨ (j / 64 = p ∧ j % 64 < w))
    · rw [if_pos h2, if_pos (by omega)]
    · rw [if_neg h2, if_neg (by omega)]
theorem rTB_n (f : Nat → Int64) (c : Nat → Int32) (W p : Nat) : rTB f c W p W = rTB f c W (p + 1) 0 := by
  funext j
  unfold rTB
  by_cases h2 : j < 256 ∧ j % 64 < W ∧ (j / 64 < p ∨ (j / 64 = p ∧ j % 64 < W))
  · rw [if_pos h2, if_pos (by omega)]
  · rw [if_neg h2, if_neg (by omega)]
/-- what a view shows: worlds, real, claims; facts, cells, claims, groups, each from a row at a place -/
def rVw (I : Nat → Nat → Int32) (w r c : Int32) (f ce cs cl g : Nat → Int32) : Nat → Nat → Int32 := va_up (va_up (va_up (va_up (va_up (va_up I 40 (va_up (va_up (va_up (I 40) 26 w) 27 r) 31 c)) 64 (tkcp (I 64) f 64)) 65 (tkcp (I 65) ce 256)) 67 (tkcp (I 67) cs 70)) 68 (tkcp (I 68) cl 5)) 69 (tkcp (I 69) g 3)
def rVT (I : Nat → Nat → Int32) : Nat → Nat → Int32 := rVw I (I 41 2) (I 41 3) (I 41 4) (I 42) (I 43) (I 49) (I 50) (I 45)
def rVM (I : Nat → Nat → Int32) (m : Nat) : Nat → Nat → Int32 := rVw I (I 54 (3 * m)) (I 54 (3 * m + 1)) (I 54 (3 * m + 2)) (fun k => I 55 (64 * m + k)) (fun k => I 56 (256 * m + k)) (fun k => I 57 (70 * m + k)) (fun k => I 58 (5 * m + k)) (fun k => I 59 (3 * m + k))
def rMk (I : Nat → Nat → Int32) (m : Nat) : Nat → Nat → Int32 := va_up (va_up (va_up (va_up (va_up (va_up (va_up I 41 (va_up (I 41) 6 (nI (m + 1)))) 54 (va_up (va_up (va_up (I 54) (3 * m) (I 41 2)) (3 * m + 1) (I 41 3)) (3 * m + 2) (I 41 4))) 55 (tkco (I 55) (I 42) (64 * m) 64)) 56 (tkco (I 56) (I 43) (256 * m) 256)) 57 (tkco (I 57) (I 49) (70 * m) 70)) 58 (tkco (I 58) (I 50) (5 * m) 5)) 59 (tkco (I 59) (I 45) (3 * m) 3)
section REFI
variable {G : tkG} {n : Nat} {T : Nat → Nat × Nat} {I : Nat → Nat → Int32} {L : Nat → Nat → Int64} {P : Nat → Nat → Option Nat}
theorem r_tellBits (hR : tkRef T P) {np W : Nat} (hnp : I 41 0 = nI np) (hnp4 : np ≤ 4) (hW : I 40 26 = nI W) (hW2 : W ≤ 64) : tkM G mX11_tellBits 0 0 0 [vR 40] (n, T, I, L, P) (tkF none (n, T, I, va_up L 66 (rTB (L 66) (I 65) W np 0), P)) := by
  refine tkM.of (ls := [some _, none, none, none, none, none]) (by decide +kernel) (by decide +kernel) (Nat.le_of_ble_eq_true rfl) rfl ?_
  refine tk_iconst dX11_tellBits_0 kc_iconst_0 ?_
  refine tk_istore1 dX11_tellBits_1 rfl ?_
  refine tk_fr 0 np (fun p => [some (vR 40), some (vI (nI p)), none, none, none, none]) (fun p => (n, T, I, va_up L 66 (rTB (L 66) (I 65) W p 0), P)) (by omega) (by repeat' (first | exact trivial | refine ⟨Or.inl rfl, ?_⟩ | refine ⟨Or.inr rfl, ?_⟩)) (by rw [rTB_0, tk_up_id]) ?_ ?_
  · refine tk_iload1 dX11_tellBits_2 ?_
    refine tk_aload0 dX11_tellBits_3 ?_
    refine tk_getP dX11_tellBits_4 fX11_7 rfl hR.o (hR.p 0 rfl) ?_
    refine tk_iconst dX11_tellBits_7 kc_iconst_0 ?_
    refine tk_iald dX11_tellBits_8 (hR.t 41 rfl) (by omega) (by omega) ?_
    rw [hnp]
    first | refine tk_icmp_geN dX11_tellBits_9 (by omega) (by omega) (fun h9 => ?_) (fun h9 => ?_) | refine tk_jcmp_ge dX11_tellBits_9 (fun h9 => ?_) (fun h9 => ?_)
    · refine tk_return dX11_tellBits_103 rfl ?_
      exact ⟨rfl, rfl⟩
    · exfalso; omega
  · intro p _ hp k
    refine tk_iload1 dX11_tellBits_2 ?_
    refine tk_aload0 dX11_tellBits_3 ?_
    refine tk_getP dX11_tellBits_4 fX11_7 rfl hR.o (hR.p 0 rfl) ?_
    refine tk_iconst dX11_tellBits_7 kc_iconst_0 ?_
    refine tk_iald dX11_tellBits_8 (hR.t 41 rfl) (by omega) (by omega) ?_
    rw [hnp]
    first | refine tk_icmp_geN dX11_tellBits_9 (by omega) (by omega) (fun h9 => ?_) (fun h9 => ?_) | refine tk_jcmp_ge dX11_tellBits_9 (fun h9 => ?_) (fun h9 => ?_)
    · exfalso; omega
    · refine tk_iconst dX11_tellBits_12 kc_iconst_0 ?_
      refine tk_istore2 dX11_tellBits_13 rfl ?_
      refine tk_fr 0 W (fun w => [some (vR 40), some (vI (nI p)), some (vI (nI w)), none, none, none]) (fun w => (n, T, I, va_up L 66 (rTB (L 66) (I 65) W p w), P)) (by omega) (by repeat' (first | exact trivial | refine ⟨Or.inl rfl, ?_⟩ | refine ⟨Or.inr rfl, ?_⟩)) rfl ?_ ?_
      · refine tk_iload2 dX11_tellBits_14 ?_
        refine tk_aload0 dX11_tellBits_15 ?_
        refine tk_getI dX11_tellBits_16 fX11_215 rfl hR.o ?_
        rw [hW]
        first | refine tk_icmp_geN dX11_tellBits_19 (by omega) (by omega) (fun h19 => ?_) (fun h19 => ?_) | refine tk_jcmp_ge dX11_tellBits_19 (fun h19 => ?_) (fun h19 => ?_)
        · first | refine tk_iinc1 dX11_tellBits_97 (kc_inc _) rfl ?_ | refine tk_iinc1 dX11_tellBits_97 rfl rfl ?_
          refine tk_goto dX11_tellBits_100 ?_
          rw [rTB_n]
          exact k _ (by repeat' (first | exact trivial | refine ⟨Or.inl rfl, ?_⟩ | refine ⟨Or.inr rfl, ?_⟩))
        · exfalso; omega
      · intro w _ hw k2
        refine tk_iload2 dX11_tellBits_14 ?_
        refine tk_aload0 dX11_tellBits_15 ?_
        refine tk_getI dX11_tellBits_16 fX11_215 rfl hR.o ?_
        rw [hW]
        first | refine tk_icmp_geN dX11_tellBits_19 (by omega) (by omega) (fun h19 => ?_) (fun h19 => ?_) | refine tk_jcmp_ge dX11_tellBits_19 (fun h19 => ?_) (fun h19 => ?_)
        · exfalso; omega
        · refine tk_lconst dX11_tellBits_22 (v := 0) (by decide) ?_
          refine tk_lstore3 dX11_tellBits_23 rfl ?_
          refine tk_iconst dX11_tellBits_24 kc_iconst_0 ?_
          refine tk_istore5 dX11_tellBits_25 rfl ?_
          refine tk_fr 0 W (fun u => [some (vR 40), some (vI (nI p)), some (vI (nI w)), some (vL (rSt (I 65) p w u)), none, some (vI (nI u))]) (fun u => (n, T, I, va_up L 66 (rTB (L 66) (I 65) W p w), P)) (by omega) (by repeat' (first | exact trivial | refine ⟨Or.inl rfl, ?_⟩ | refine ⟨Or.inr rfl, ?_⟩)) rfl ?_ ?_
          · refine tk_iload5 dX11_tellBits_27 ?_
            refine tk_aload0 dX11_tellBits_29 ?_
            refine tk_getI dX11_tellBits_30 fX11_215 rfl hR.o ?_
            rw [hW]
            first | refine tk_icmp_geN dX11_tellBits_33 (by omega) (by omega) (fun h33 => ?_) (fun h33 => ?_) | refine tk_jcmp_ge dX11_tellBits_33 (fun h33 => ?_) (fun h33 => ?_)
            · refine tk_aload0 dX11_tellBits_79 ?_
              refine tk_getP dX11_tellBits_80 fX11_86 rfl hR.o (hR.p 30 rfl) ?_
              refine tk_bipush dX11_tellBits_83 kc_bipush_64 ?_
              refine tk_iload1 dX11_tellBits_85 ?_
              first | refine tk_imulN dX11_tellBits_86 ?_ | refine tk_imul dX11_tellBits_86 ?_
              refine tk_iload2 dX11_tellBits_87 ?_
              first | refine tk_iaddN dX11_tellBits_88 ?_ | refine tk_iadd dX11_tellBits_88 ?_
              refine tk_lload3 dX11_tellBits_89 ?_
              refine tk_last dX11_tellBits_90 (hR.t 66 rfl) (by omega) (by omega) ?_
              first | refine tk_iinc2 dX11_tellBits_91 (kc_inc _) rfl ?_ | refine tk_iinc2 dX11_tellBits_91 rfl rfl ?_
              refine tk_goto dX11_tellBits_94 ?_
              simp only [va_up_self, bx_uu, tk_une, tk_usrt, not_false_eq_true, Nat.reduceEqDiff, Nat.reduceLT, Nat.reduceAdd, Nat.reduceMul, Nat.reduceLeDiff, reduceCtorEq]
              rw [rTB_s _ _ hW2 hw (by omega)]
              exact k2 _ (by repeat' (first | exact trivial | refine ⟨Or.inl rfl, ?_⟩ | refine ⟨Or.inr rfl, ?_⟩))
            · exfalso; omega
          · intro u _ hu k3
            refine tk_iload5 dX11_tellBits_27 ?_
            refine tk_aload0 dX11_tellBits_29 ?_
            refine tk_getI dX11_tellBits_30 fX11_215 rfl hR.o ?_
            rw [hW]
            first | refine tk_icmp_geN dX11_tellBits_33 (by omega) (by omega) (fun h33 => ?_) (fun h33 => ?_) | refine tk_jcmp_ge dX11_tellBits_33 (fun h33 => ?_) (fun h33 => ?_)
            · exfalso; omega
            · refine tk_lload3 dX11_tellBits_36 ?_
              refine tk_aload0 dX11_tellBits_37 ?_
              refine tk_getP dX11_tellBits_38 fX11_83 rfl hR.o (hR.p 29 rfl) ?_
              refine tk_bipush dX11_tellBits_41 kc_bipush_64 ?_
              refine tk_iload1 dX11_tellBits_43 ?_
              first | refine tk_imulN dX11_tellBits_44 ?_ | refine tk_imul dX11_tellBits_44 ?_
              refine tk_iload5 dX11_tellBits_45 ?_
              first | refine tk_iaddN dX11_tellBits_47 ?_ | refine tk_iadd dX11_tellBits_47 ?_
              refine tk_iald dX11_tellBits_48 (hR.t 65 rfl) (by omega) (by omega) ?_
              refine tk_aload0 dX11_tellBits_49 ?_
              refine tk_getP dX11_tellBits_50 fX11_83 rfl hR.o (hR.p 29 rfl) ?_
              refine tk_bipush dX11_tellBits_53 kc_bipush_64 ?_
              refine tk_iload1 dX11_tellBits_55 ?_
              first | refine tk_imulN dX11_tellBits_56 ?_ | refine tk_imul dX11_tellBits_56 ?_
              refine tk_iload2 dX11_tellBits_57 ?_
              first | refine tk_iaddN dX11_tellBits_58 ?_ | refine tk_iadd dX11_tellBits_58 ?_
              refine tk_iald dX11_tellBits_59 (hR.t 65 rfl) (by omega) (by omega) ?_
              first | refine tk_icmp_neN dX11_tellBits_60 (by omega) (by omega) (fun h60 => ?_) (fun h60 => ?_) | refine tk_icmp_ne dX11_tellBits_60 (fun h60 => ?_) (fun h60 => ?_)
              · refine tk_lconst dX11_tellBits_70 (v := 0) (by decide) ?_
                refine tk_lor dX11_tellBits_71 ?_
                refine tk_lstore3 dX11_tellBits_72 rfl ?_
                first | refine tk_iinc5 dX11_tellBits_73 (kc_inc _) rfl ?_ | refine tk_iinc5 dX11_tellBits_73 rfl rfl ?_
                refine tk_goto dX11_tellBits_76 ?_
                refine k3 _ ?_
                first | rw [show rSt (I 65) p w (u + 1) = rSt (I 65) p w u ||| jshl 1 (nI u) from congrArg _ (if_pos h60)] | rw [show rSt (I 65) p w (u + 1) = rSt (I 65) p w u ||| 0 from congrArg _ (if_neg h60)]
                exact (by repeat' (first | exact trivial | refine ⟨Or.inl rfl, ?_⟩ | refine ⟨Or.inr rfl, ?_⟩))
              · refine tk_lconst dX11_tellBits_63 (v := 1) (by decide) ?_
                refine tk_iload5 dX11_tellBits_64 ?_
                refine tk_lshl dX11_tellBits_66 ?_
                refine tk_goto dX11_tellBits_67 ?_
                refine tk_lor dX11_tellBits_71 ?_
                refine tk_lstore3 dX11_tellBits_72 rfl ?_
                first | refine tk_iinc5 dX11_tellBits_73 (kc_inc _) rfl ?_ | refine tk_iinc5 dX11_tellBits_73 rfl rfl ?_
                refine tk_goto dX11_tellBits_76 ?_
                refine k3 _ ?_
                first | rw [show rSt (I 65) p w (u + 1) = rSt (I 65) p w u ||| jshl 1 (nI u) from congrArg _ (if_pos h60)] | rw [show rSt (I 65) p w (u + 1) = rSt (I 65) p w u ||| 0 from congrArg _ (if_neg h60)]
                exact (by repeat' (first | exact trivial | refine ⟨Or.inl rfl, ?_⟩ | refine ⟨Or.inr rfl, ?_⟩))
theorem r_viewTown (hR : tkRef T P) {np W : Nat} (hnp : I 41 0 = nI np) (hnp4 : np ≤ 4) (hW : I 41 2 = nI W) (hW2 : W ≤ 64) : tkM G mX11_viewTown 1 0 0 [vR 40] (n, T, I, L, P) (tkF none (n, T, rVT I, va_up L 66 (rTB (L 66) (rVT I 65) W np 0), P)) := by
  refine tkM.of (ls := [some _, none]) (by decide +kernel) (by decide +kernel) (Nat.le_of_ble_eq_true rfl) rfl ?_
  refine tk_aload0 dX11_viewTown_0 ?_
  refine tk_aload0 dX11_viewTown_1 ?_
  refine tk_getP dX11_viewTown_2 fX11_7 rfl hR.o (hR.p 0 rfl) ?_
  refine tk_iconst dX11_viewTown_5 kc_iconst_2 ?_
  refine tk_iald dX11_viewTown_6 (hR.t 41 rfl) (by omega) (by omega) ?_
  refine tk_putI dX11_viewTown_7 fX11_215 wX11_viewTown_X11_26 rfl hR.o ?_
  refine tk_aload0 dX11_viewTown_10 ?_
  refine tk_aload0 dX11_viewTown_11 ?_
  refine tk_getP dX11_viewTown_12 fX11_7 rfl hR.o (hR.p 0 rfl) ?_
  refine tk_iconst dX11_viewTown_15 kc_iconst_3 ?_
  refine tk_iald dX11_viewTown_16 (hR.t 41 rfl) (by omega) (by omega) ?_
  refine tk_putI dX11_viewTown_17 fX11_220 wX11_viewTown_X11_27 rfl hR.o ?_
  refine tk_aload0 dX11_viewTown_20 ?_
  refine tk_aload0 dX11_viewTown_21 ?_
  refine tk_getP dX11_viewTown_22 fX11_7 rfl hR.o (hR.p 0 rfl) ?_
  refine tk_iconst dX11_viewTown_25 kc_iconst_4 ?_
  refine tk_iald dX11_viewTown_26 (hR.t 41 rfl) (by omega) (by omega) ?_
  refine tk_putI dX11_viewTown_27 fX11_223 wX11_viewTown_X11_31 rfl hR.o ?_
  refine tk_iconst dX11_viewTown_30 kc_iconst_0 ?_
  refine tk_istore1 dX11_viewTown_31 rfl ?_
  try simp only [va_up_self, bx_uu, tk_une, tk_usrt, not_false_eq_true, Nat.reduceEqDiff, Nat.reduceLT, Nat.reduceAdd, Nat.reduceMul, Nat.reduceLeDiff, reduceCtorEq]
  refine tk_fr 0 64 (fun i => [some (vR 40), some (vI (nI i))]) (fun i => (n, T, va_up (va_up I 40 (va_up (va_up (va_up (I 40) 26 (I 41 2)) 27 (I 41 3)) 31 (I 41 4))) 64 (tkcp (I 64) (I 42) i), L, P)) (by omega) (by repeat' (first | exact trivial | refine ⟨Or.inl rfl, ?_⟩ | refine ⟨Or.inr rfl, ?_⟩)) (by rw [tkcp_0, tk_uid (k := 64)]; simp only [va_up_self, bx_uu, tk_une, tk_usrt, not_false_eq_true, Nat.reduceEqDiff, Nat.reduceLT, Nat.reduceAdd, Nat.reduceMul, Nat.reduceLeDiff, reduceCtorEq]) ?_ ?_
  · refine tk_iload1 dX11_viewTown_32 ?_
    refine tk_bipush dX11_viewTown_33 kc_bipush_64 ?_
    first | refine tk_icmp_geN dX11_viewTown_35 (by omega) (by omega) (fun h35 => ?_) (fun h35 => ?_) | refine tk_jcmp_ge dX11_viewTown_35 (fun h35 => ?_) (fun h35 => ?_)
    · refine tk_iconst dX11_viewTown_56 kc_iconst_0 ?_
      refine tk_istore1 dX11_viewTown_57 rfl ?_
      try simp only [va_up_self, bx_uu, tk_une, tk_usrt, not_false_eq_true, Nat.reduceEqDiff, Nat.reduceLT, Nat.reduceAdd, Nat.reduceMul, Nat.reduceLeDiff, reduceCtorEq]
      refine tk_fr 0 256 (fun i => [some (vR 40), some (vI (nI i))]) (fun i => (n, T, va_up (va_up (va_up I 40 (va_up (va_up (va_up (I 40) 26 (I 41 2)) 27 (I 41 3)) 31 (I 41 4))) 64 (tkcp (I 64) (I 42) 64)) 65 (tkcp (I 65) (I 43) i), L, P)) (by omega) (by repeat' (first | exact trivial | refine ⟨Or.inl rfl, ?_⟩ | refine ⟨Or.inr rfl, ?_⟩)) (by simp only [tkcp_0, Nat.zero_add, Nat.reduceDiv]; rw [tk_uid (k := 65)]; simp only [va_up_self, bx_uu, tk_une, tk_usrt, not_false_eq_true, Nat.reduceEqDiff, Nat.reduceLT, Nat.reduceAdd, Nat.reduceMul, Nat.reduceLeDiff, reduceCtorEq]) ?_ ?_
      · refine tk_iload1 dX11_viewTown_58 ?_
        refine tk_sipush dX11_viewTown_59 kc_sipush_256 ?_
        first | refine tk_icmp_geN dX11_viewTown_62 (by omega) (by omega) (fun h62 => ?_) (fun h62 => ?_) | refine tk_jcmp_ge dX11_viewTown_62 (fun h62 => ?_) (fun h62 => ?_)
        · refine tk_iconst dX11_viewTown_83 kc_iconst_0 ?_
          refine tk_istore1 dX11_viewTown_84 rfl ?_
          try simp only [va_up_self, bx_uu, tk_une, tk_usrt, not_false_eq_true, Nat.reduceEqDiff, Nat.reduceLT, Nat.reduceAdd, Nat.reduceMul, Nat.reduceLeDiff, reduceCtorEq]
          refine tk_fr 0 70 (fun i => [some (vR 40), some (vI (nI i))]) (fun i => (n, T, va_up (va_up (va_up (va_up (va_up I 40 (va_up (va_up (va_up (I 40) 26 (I 41 2)) 27 (I 41 3)) 31 (I 41 4))) 64 (tkcp (I 64) (I 42) 64)) 65 (tkcp (I 65) (I 43) 256)) 67 (tkcp (I 67) (I 49) i)) 68 (tkcp (I 68) (I 50) ((i + 13) / 14)), L, P)) (by omega) (by repeat' (first | exact trivial | refine ⟨Or.inl rfl, ?_⟩ | refine ⟨Or.inr rfl, ?_⟩)) (by simp only [tkcp_0, Nat.zero_add, Nat.reduceDiv]; rw [tk_uid (k := 68), tk_uid (k := 67)] <;> simp only [va_up_self, bx_uu, tk_une, tk_usrt, not_false_eq_true, Nat.reduceEqDiff, Nat.reduceLT, Nat.reduceAdd, Nat.reduceMul, Nat.reduceLeDiff, reduceCtorEq]) ?_ ?_
          · refine tk_iload1 dX11_viewTown_85 ?_
            refine tk_bipush dX11_viewTown_86 kc_bipush_70 ?_
            first | refine tk_icmp_geN dX11_viewTown_88 (by omega) (by omega) (fun h88 => ?_) (fun h88 => ?_) | refine tk_jcmp_ge dX11_viewTown_88 (fun h88 => ?_) (fun h88 => ?_)
            · refine tk_iconst dX11_viewTown_127 kc_iconst_0 ?_
              refine tk_istore1 dX11_viewTown_128 rfl ?_
              try simp only [va_up_self, bx_uu, tk_une, tk_usrt, not_false_eq_true, Nat.reduceEqDiff, Nat.reduceLT, Nat.reduceAdd, Nat.reduceMul, Nat.reduceLeDiff, reduceCtorEq]
              refine tk_fr 0 3 (fun i => [some (vR 40), some (vI (nI i))]) (fun i => (n, T, va_up (va_up (va_up (va_up (va_up (va_up I 40 (va_up (va_up (va_up (I 40) 26 (I 41 2)) 27 (I 41 3)) 31 (I 41 4))) 64 (tkcp (I 64) (I 42) 64)) 65 (tkcp (I 65) (I 43) 256)) 67 (tkcp (I 67) (I 49) 70)) 68 (tkcp (I 68) (I 50) 5)) 69 (tkcp (I 69) (I 45) i), L, P)) (by omega) (by repeat' (first | exact trivial | refine ⟨Or.inl rfl, ?_⟩ | refine ⟨Or.inr rfl, ?_⟩)) (by simp only [tkcp_0, Nat.zero_add, Nat.reduceDiv]; rw [tk_uid (k := 69)]; simp only [va_up_self, bx_uu, tk_une, tk_usrt, not_false_eq_true, Nat.reduceEqDiff, Nat.reduceLT, Nat.reduceAdd, Nat.reduceMul, Nat.reduceLeDiff, reduceCtorEq]) ?_ ?_
              · refine tk_iload1 dX11_viewTown_129 ?_
                refine tk_iconst dX11_viewTown_130 kc_iconst_3 ?_
                first | refine tk_icmp_geN dX11_viewTown_131 (by omega) (by omega) (fun h131 => ?_) (fun h131 => ?_) | refine tk_jcmp_ge dX11_viewTown_131 (fun h131 => ?_) (fun h131 => ?_)
                · refine tk_aload0 dX11_viewTown_152 ?_
                  refine tk_callV0y dX11_viewTown_153 kX11_226 hR.o (r_tellBits (W := W) hR (by simp only [va_up_self, bx_uu, tk_une, tk_usrt, not_false_eq_true, Nat.reduceEqDiff, Nat.reduceLT, Nat.reduceAdd, Nat.reduceMul, Nat.reduceLeDiff, reduceCtorEq]; exact hnp) hnp4 (by simp only [va_up_self, bx_uu, tk_une, tk_usrt, not_false_eq_true, Nat.reduceEqDiff, Nat.reduceLT, Nat.reduceAdd, Nat.reduceMul, Nat.reduceLeDiff, reduceCtorEq]; exact hW) hW2) (Nat.le_of_ble_eq_true rfl) (by omega) ?_
                  refine tk_return dX11_viewTown_156 rfl ?_
                  exact ⟨rfl, rfl⟩
                · exfalso; omega
              · intro i _ hi k
                refine tk_iload1 dX11_viewTown_129 ?_
                refine tk_iconst dX11_viewTown_130 kc_iconst_3 ?_
                first | refine tk_icmp_geN dX11_viewTown_131 (by omega) (by omega) (fun h131 => ?_) (fun h131 => ?_) | refine tk_jcmp_ge dX11_viewTown_131 (fun h131 => ?_) (fun h131 => ?_)
                · exfalso; omega
                · refine tk_aload0 dX11_viewTown_134 ?_
                  refine tk_getP dX11_viewTown_135 fX11_96 rfl hR.o (hR.p 34 rfl) ?_
                  refine tk_iload1 dX11_viewTown_138 ?_
                  refine tk_aload0 dX11_viewTown_139 ?_
                  refine tk_getP dX11_viewTown_140 fX11_22 rfl hR.o (hR.p 4 rfl) ?_
                  refine tk_iload1 dX11_viewTown_143 ?_
                  refine tk_iald dX11_viewTown_144 (hR.t 45 rfl) (by omega) (by omega) ?_
                  refine tk_iast dX11_viewTown_145 (hR.t 69 rfl) (by omega) (by omega) ?_
                  first | refine tk_iinc1 dX11_viewTown_146 (kc_inc _) rfl ?_ | refine tk_iinc1 dX11_viewTown_146 rfl rfl ?_
                  refine tk_goto dX11_viewTown_149 ?_
                  simp only [va_up_self, bx_uu, tk_une, tk_usrt, not_false_eq_true, Nat.reduceEqDiff, Nat.reduceLT, Nat.reduceAdd, Nat.reduceMul, Nat.reduceLeDiff, reduceCtorEq]
                  rw [tkcp_s (I 69) (I 45)]
                  exact k _ (by repeat' (first | exact trivial | refine ⟨Or.inl rfl, ?_⟩ | refine ⟨Or.inr rfl, ?_⟩))
            · exfalso; omega
          · intro i _ hi k
            refine tk_iload1 dX11_viewTown_85 ?_
            refine tk_bipush dX11_viewTown_86 kc_bipush_70 ?_
            first | refine tk_icmp_geN dX11_viewTown_88 (by omega) (by omega) (fun h88 => ?_) (fun h88 => ?_) | refine tk_jcmp_ge dX11_viewTown_88 (fun h88 => ?_) (fun h88 => ?_)
            · exfalso; omega
            · refine tk_aload0 dX11_viewTown_91 ?_
              refine tk_getP dX11_viewTown_92 fX11_90 rfl hR.o (hR.p 32 rfl) ?_
              refine tk_iload1 dX11_viewTown_95 ?_
              refine tk_aload0 dX11_viewTown_96 ?_
              refine tk_getP dX11_viewTown_97 fX11_34 rfl hR.o (hR.p 8 rfl) ?_
              refine tk_iload1 dX11_viewTown_100 ?_
              refine tk_iald dX11_viewTown_101 (hR.t 49 rfl) (by omega) (by omega) ?_
              refine tk_iast dX11_viewTown_102 (hR.t 67 rfl) (by omega) (by omega) ?_
              refine tk_aload0 dX11_viewTown_103 ?_
              refine tk_getP dX11_viewTown_104 fX11_93 rfl hR.o (hR.p 33 rfl) ?_
              refine tk_iload1 dX11_viewTown_107 ?_
              refine tk_bipush dX11_viewTown_108 kc_bipush_14 ?_
              first | refine tk_idivN dX11_viewTown_110 (by omega) (by omega) (by omega) ?_ | refine tk_idiv dX11_viewTown_110 (by decide) ?_
              refine tk_aload0 dX11_viewTown_111 ?_
              refine tk_getP dX11_viewTown_112 fX11_37 rfl hR.o (hR.p 9 rfl) ?_
              refine tk_iload1 dX11_viewTown_115 ?_
              refine tk_bipush dX11_viewTown_116 kc_bipush_14 ?_
              first | refine tk_idivN dX11_viewTown_118 (by omega) (by omega) (by omega) ?_ | refine tk_idiv dX11_viewTown_118 (by decide) ?_
              refine tk_iald dX11_viewTown_119 (hR.t 50 rfl) (by omega) (by omega) ?_
              refine tk_iast dX11_viewTown_120 (hR.t 68 rfl) (by omega) (by omega) ?_
              first | refine tk_iinc1 dX11_viewTown_121 (kc_inc _) rfl ?_ | refine tk_iinc1 dX11_viewTown_121 rfl rfl ?_
              refine tk_goto dX11_viewTown_124 ?_
              simp only [va_up_self, bx_uu, tk_une, tk_usrt, not_false_eq_true, Nat.reduceEqDiff, Nat.reduceLT, Nat.reduceAdd, Nat.reduceMul, Nat.reduceLeDiff, reduceCtorEq]
              rw [tkcp_s (I 67) (I 49), tkcp_14 (I 68) (I 50)]
              exact k _ (by repeat' (first | exact trivial | refine ⟨Or.inl rfl, ?_⟩ | refine ⟨Or.inr rfl, ?_⟩))
        · exfalso; omega
      · intro i _ hi k
        refine tk_iload1 dX11_viewTown_58 ?_
        refine tk_sipush dX11_viewTown_59 kc_sipush_256 ?_
        first | refine tk_icmp_geN dX11_viewTown_62 (by omega) (by omega) (fun h62 => ?_) (fun h62 => ?_) | refine tk_jcmp_ge dX11_viewTown_62 (fun h62 => ?_) (fun h62 => ?_)
        · exfalso; omega
        · refine tk_aload0 dX11_viewTown_65 ?_
          refine tk_getP dX11_viewTown_66 fX11_83 rfl hR.o (hR.p 29 rfl) ?_
          refine tk_iload1 dX11_viewTown_69 ?_
          refine tk_aload0 dX11_viewTown_70 ?_
          refine tk_getP dX11_viewTown_71 fX11_16 rfl hR.o (hR.p 2 rfl) ?_
          refine tk_iload1 dX11_viewTown_74 ?_
          refine tk_iald dX11_viewTown_75 (hR.t 43 rfl) (by omega) (by omega) ?_
          refine tk_iast dX11_viewTown_76 (hR.t 65 rfl) (by omega) (by omega) ?_
          first | refine tk_iinc1 dX11_viewTown_77 (kc_inc _) rfl ?_ | refine tk_iinc1 dX11_viewTown_77 rfl rfl ?_
          refine tk_goto dX11_viewTown_80 ?_
          simp only [va_up_self, bx_uu, tk_une, tk_usrt, not_false_eq_true, Nat.reduceEqDiff, Nat.reduceLT, Nat.reduceAdd, Nat.reduceMul, Nat.reduceLeDiff, reduceCtorEq]
          rw [tkcp_s (I 65) (I 43)]
          exact k _ (by repeat' (first | exact trivial | refine ⟨Or.inl rfl, ?_⟩ | refine ⟨Or.inr rfl, ?_⟩))
    · exfalso; omega
  · intro i _ hi k
    refine tk_iload1 dX11_viewTown_32 ?_
    refine tk_bipush dX11_viewTown_33 kc_bipush_64 ?_
    first | refine tk_icmp_geN dX11_viewTown_35 (by omega) (by omega) (fun h35 => ?_) (fun h35 => ?_) | refine tk_jcmp_ge dX11_viewTown_35 (fun h35 => ?_) (fun h35 => ?_)
    · exfalso; omega
    · refine tk_aload0 dX11_viewTown_38 ?_
      refine tk_getP dX11_viewTown_39 fX11_80 rfl hR.o (hR.p 28 rfl) ?_
      refine tk_iload1 dX11_viewTown_42 ?_
      refine tk_aload0 dX11_viewTown_43 ?_
      refine tk_getP dX11_viewTown_44 fX11_13 rfl hR.o (hR.p 1 rfl) ?_
      refine tk_iload1 dX11_viewTown_47 ?_
      refine tk_iald dX11_viewTown_48 (hR.t 42 rfl) (by omega) (by omega) ?_
      refine tk_iast dX11_viewTown_49 (hR.t 64 rfl) (by omega) (by omega) ?_
      first | refine tk_iinc1 dX11_viewTown_50 (kc_inc _) rfl ?_ | refine tk_iinc1 dX11_viewTown_50 rfl rfl ?_
      refine tk_goto dX11_viewTown_53 ?_
      simp only [va_up_self, bx_uu, tk_une, tk_usrt, not_false_eq_true, Nat.reduceEqDiff, Nat.reduceLT, Nat.reduceAdd, Nat.reduceMul, Nat.reduceLeDiff, reduceCtorEq]
      rw [tkcp_s (I 64) (I 42)]
      exact k _ (by repeat' (first | exact trivial | refine ⟨Or.inl rfl, ?_⟩ | refine ⟨Or.inr rfl, ?_⟩))
theorem r_viewMark (hR : tkRef T P) {np W m : Nat} (hm : m < 6) (hnp : I 41 0 = nI np) (hnp4 : np ≤ 4) (hW : I 54 (3 * m) = nI W) (hW2 : W ≤ 64) : tkM G mX11_viewMark 1 0 0 [vR 40, vI (nI m)] (n, T, I, L, P) (tkF none (n, T, rVM I m, va_up L 66 (rTB (L 66) (rVM I m 65) W np 0), P)) := by
  refine tkM.of (ls := [some _, some _, none]) (by decide +kernel) (by decide +kernel) (Nat.le_of_ble_eq_true rfl) rfl ?_
  refine tk_aload0 dX11_viewMark_0 ?_
  refine tk_aload0 dX11_viewMark_1 ?_
  refine tk_getP dX11_viewMark_2 fX11_49 rfl hR.o (hR.p 13 rfl) ?_
  refine tk_iconst dX11_viewMark_5 kc_iconst_3 ?_
  refine tk_iload1 dX11_viewMark_6 ?_
  first | refine tk_imulN dX11_viewMark_7 ?_ | refine tk_imul dX11_viewMark_7 ?_
  refine tk_iald dX11_viewMark_8 (hR.t 54 rfl) (by omega) (by omega) ?_
  refine tk_putI dX11_viewMark_9 fX11_215 wX11_viewMark_X11_26 rfl hR.o ?_
  refine tk_aload0 dX11_viewMark_12 ?_
  refine tk_aload0 dX11_viewMark_13 ?_
  refine tk_getP dX11_viewMark_14 fX11_49 rfl hR.o (hR.p 13 rfl) ?_
  refine tk_iconst dX11_viewMark_17 kc_iconst_3 ?_
  refine tk_iload1 dX11_viewMark_18 ?_
  first | refine tk_imulN dX11_viewMark_19 ?_ | refine tk_imul dX11_viewMark_19 ?_
  refine tk_iconst dX11_viewMark_20 kc_iconst_1 ?_
  first | refine tk_iaddN dX11_viewMark_21 ?_ | refine tk_iadd dX11_viewMark_21 ?_
  refine tk_iald dX11_viewMark_22 (hR.t 54 rfl) (by omega) (by omega) ?_
  refine tk_putI dX11_viewMark_23 fX11_220 wX11_viewMark_X11_27 rfl hR.o ?_
  refine tk_aload0 dX11_viewMark_26 ?_
  refine tk_aload0 dX11_viewMark_27 ?_
  refine tk_getP dX11_viewMark_28 fX11_49 rfl hR.o (hR.p 13 rfl) ?_
  refine tk_iconst dX11_viewMark_31 kc_iconst_3 ?_
  refine tk_iload1 dX11_viewMark_32 ?_
  first | refine tk_imulN dX11_viewMark_33 ?_ | refine tk_imul dX11_viewMark_33 ?_
  refine tk_iconst dX11_viewMark_34 kc_iconst_2 ?_
  first | refine tk_iaddN dX11_viewMark_35 ?_ | refine tk_iadd dX11_viewMark_35 ?_
  refine tk_iald dX11_viewMark_36 (hR.t 54 rfl) (by omega) (by omega) ?_
  refine tk_putI dX11_viewMark_37 fX11_223 wX11_viewMark_X11_31 rfl hR.o ?_
  refine tk_iconst dX11_viewMark_40 kc_iconst_0 ?_
  refine tk_istore2 dX11_viewMark_41 rfl ?_
  try simp only [va_up_self, bx_uu, tk_une, tk_usrt, not_false_eq_true, Nat.reduceEqDiff, Nat.reduceLT, Nat.reduceAdd, Nat.reduceMul, Nat.reduceLeDiff, reduceCtorEq]
  refine tk_fr 0 64 (fun i => [some (vR 40), some (vI (nI m)), some (vI (nI i))]) (fun i => (n, T, va_up (va_up I 40 (va_up (va_up (va_up (I 40) 26 (I 54 (3 * m))) 27 (I 54 (3 * m + 1))) 31 (I 54 (3 * m + 2)))) 64 (tkcp (I 64) (fun k => I 55 (64 * m + k)) i), L, P)) (by omega) (by repeat' (first | exact trivial | refine ⟨Or.inl rfl, ?_⟩ | refine ⟨Or.inr rfl, ?_⟩)) (by rw [tkcp_0, tk_uid (k := 64)]; simp only [va_up_self, bx_uu, tk_une, tk_usrt, not_false_eq_true, Nat.reduceEqDiff, Nat.reduceLT, Nat.reduceAdd, Nat.reduceMul, Nat.reduceLeDiff, reduceCtorEq]) ?_ ?_
  · refine tk_iload2 dX11_viewMark_42 ?_
    refine tk_bipush dX11_viewMark_43 kc_bipush_64 ?_
    first | refine tk_icmp_geN dX11_viewMark_45 (by omega) (by omega) (fun h45 => ?_) (fun h45 => ?_) | refine tk_jcmp_ge dX11_viewMark_45 (fun h45 => ?_) (fun h45 => ?_)
    · refine tk_iconst dX11_viewMark_71 kc_iconst_0 ?_
      refine tk_istore2 dX11_viewMark_72 rfl ?_
      try simp only [va_up_self, bx_uu, tk_une, tk_usrt, not_false_eq_true, Nat.reduceEqDiff, Nat.reduceLT, Nat.reduceAdd, Nat.reduceMul, Nat.reduceLeDiff, reduceCtorEq]
      refine tk_fr 0 256 (fun i => [some (vR 40), some (vI (nI m)), some (vI (nI i))]) (fun i => (n, T, va_up (va_up (va_up I 40 (va_up (va_up (va_up (I 40) 26 (I 54 (3 * m))) 27 (I 54 (3 * m + 1))) 31 (I 54 (3 * m + 2)))) 64 (tkcp (I 64) (fun k => I 55 (64 * m + k)) 64)) 65 (tkcp (I 65) (fun k => I 56 (256 * m + k)) i), L, P)) (by omega) (by repeat' (first | exact trivial | refine ⟨Or.inl rfl, ?_⟩ | refine ⟨Or.inr rfl, ?_⟩)) (by simp only [tkcp_0, Nat.zero_add, Nat.reduceDiv]; rw [tk_uid (k := 65)]; simp only [va_up_self, bx_uu, tk_une, tk_usrt, not_false_eq_true, Nat.reduceEqDiff, Nat.reduceLT, Nat.reduceAdd, Nat.reduceMul, Nat.reduceLeDiff, reduceCtorEq]) ?_ ?_
      · refine tk_iload2 dX11_viewMark_73 ?_
        refine tk_sipush dX11_viewMark_74 kc_sipush_256 ?_
        first | refine tk_icmp_geN dX11_viewMark_77 (by omega) (by omega) (fun h77 => ?_) (fun h77 => ?_) | refine tk_jcmp_ge dX11_viewMark_77 (fun h77 => ?_) (fun h77 => ?_)
        · refine tk_iconst dX11_viewMark_104 kc_iconst_0 ?_
          refine tk_istore2 dX11_viewMark_105 rfl ?_
          try simp only [va_up_self, bx_uu, tk_une, tk_usrt, not_false_eq_true, Nat.reduceEqDiff, Nat.reduceLT, Nat.reduceAdd, Nat.reduceMul, Nat.reduceLeDiff, reduceCtorEq]
          refine tk_fr 0 70 (fun i => [some (vR 40), some (vI (nI m)), some (vI (nI i))]) (fun i => (n, T, va_up (va_up (va_up (va_up (va_up I 40 (va_up (va_up (va_up (I 40) 26 (I 54 (3 * m))) 27 (I 54 (3 * m + 1))) 31 (I 54 (3 * m + 2)))) 64 (tkcp (I 64) (fun k => I 55 (64 * m + k)) 64)) 65 (tkcp (I 65) (fun k => I 56 (256 * m + k)) 256)) 67 (tkcp (I 67) (fun k => I 57 (70 * m + k)) i)) 68 (tkcp (I 68) (fun k => I 58 (5 * m + k)) ((i + 13) / 14)), L, P)) (by omega) (by repeat' (first | exact trivial | refine ⟨Or.inl rfl, ?_⟩ | refine ⟨Or.inr rfl, ?_⟩)) (by simp only [tkcp_0, Nat.zero_add, Nat.reduceDiv]; rw [tk_uid (k := 68), tk_uid (k := 67)] <;> simp only [va_up_self, bx_uu, tk_une, tk_usrt, not_false_eq_true, Nat.reduceEqDiff, Nat.reduceLT, Nat.reduceAdd, Nat.reduceMul, Nat.reduceLeDiff, reduceCtorEq]) ?_ ?_
          · refine tk_iload2 dX11_viewMark_106 ?_
            refine tk_bipush dX11_viewMark_107 kc_bipush_70 ?_
            first | refine tk_icmp_geN dX11_viewMark_109 (by omega) (by omega) (fun h109 => ?_) (fun h109 => ?_) | refine tk_jcmp_ge dX11_viewMark_109 (fun h109 => ?_) (fun h109 => ?_)
            · refine tk_iconst dX11_viewMark_157 kc_iconst_0 ?_
              refine tk_istore2 dX11_viewMark_158 rfl ?_
              try simp only [va_up_self, bx_uu, tk_une, tk_usrt, not_false_eq_true, Nat.reduceEqDiff, Nat.reduceLT, Nat.reduceAdd, Nat.reduceMul, Nat.reduceLeDiff, reduceCtorEq]
              refine tk_fr 0 3 (fun i => [some (vR 40), some (vI (nI m)), some (vI (nI i))]) (fun i => (n, T, va_up (va_up (va_up (va_up (va_up (va_up I 40 (va_up (va_up (va_up (I 40) 26 (I 54 (3 * m))) 27 (I 54 (3 * m + 1))) 31 (I 54 (3 * m + 2)))) 64 (tkcp (I 64) (fun k => I 55 (64 * m + k)) 64)) 65 (tkcp (I 65) (fun k => I 56 (256 * m + k)) 256)) 67 (tkcp (I 67) (fun k => I 57 (70 * m + k)) 70)) 68 (tkcp (I 68) (fun k => I 58 (5 * m + k)) 5)) 69 (tkcp (I 69) (fun k => I 59 (3 * m + k)) i), L, P)) (by omega) (by repeat' (first | exact trivial | refine ⟨Or.inl rfl, ?_⟩ | refine ⟨Or.inr rfl, ?_⟩)) (by simp only [tkcp_0, Nat.zero_add, Nat.reduceDiv]; rw [tk_uid (k := 69)]; simp only [va_up_self, bx_uu, tk_une, tk_usrt, not_false_eq_true, Nat.reduceEqDiff, Nat.reduceLT, Nat.reduceAdd, Nat.reduceMul, Nat.reduceLeDiff, reduceCtorEq]) ?_ ?_
              · refine tk_iload2 dX11_viewMark_159 ?_
                refine tk_iconst dX11_viewMark_160 kc_iconst_3 ?_
                first | refine tk_icmp_geN dX11_viewMark_161 (by omega) (by omega) (fun h161 => ?_) (fun h161 => ?_) | refine tk_jcmp_ge dX11_viewMark_161 (fun h161 => ?_) (fun h161 => ?_)
                · refine tk_aload0 dX11_viewMark_186 ?_
                  refine tk_callV0y dX11_viewMark_187 kX11_226 hR.o (r_tellBits (W := W) hR (by simp only [va_up_self, bx_uu, tk_une, tk_usrt, not_false_eq_true, Nat.reduceEqDiff, Nat.reduceLT, Nat.reduceAdd, Nat.reduceMul, Nat.reduceLeDiff, reduceCtorEq]; exact hnp) hnp4 (by simp only [va_up_self, bx_uu, tk_une, tk_usrt, not_false_eq_true, Nat.reduceEqDiff, Nat.reduceLT, Nat.reduceAdd, Nat.reduceMul, Nat.reduceLeDiff, reduceCtorEq]; exact hW) hW2) (Nat.le_of_ble_eq_true rfl) (by omega) ?_
                  refine tk_return dX11_viewMark_190 rfl ?_
                  exact ⟨rfl, rfl⟩
                · exfalso; omega
              · intro i _ hi k
                refine tk_iload2 dX11_viewMark_159 ?_
                refine tk_iconst dX11_viewMark_160 kc_iconst_3 ?_
                first | refine tk_icmp_geN dX11_viewMark_161 (by omega) (by omega) (fun h161 => ?_) (fun h161 => ?_) | refine tk_jcmp_ge dX11_viewMark_161 (fun h161 => ?_) (fun h161 => ?_)
                · exfalso; omega
                · refine tk_aload0 dX11_viewMark_164 ?_
                  refine tk_getP dX11_viewMark_165 fX11_96 rfl hR.o (hR.p 34 rfl) ?_
                  refine tk_iload2 dX11_viewMark_168 ?_
                  refine tk_aload0 dX11_viewMark_169 ?_
                  refine tk_getP dX11_viewMark_170 fX11_64 rfl hR.o (hR.p 18 rfl) ?_
                  refine tk_iconst dX11_viewMark_173 kc_iconst_3 ?_
                  refine tk_iload1 dX11_viewMark_174 ?_
                  first | refine tk_imulN dX11_viewMark_175 ?_ | refine tk_imul dX11_viewMark_175 ?_
                  refine tk_iload2 dX11_viewMark_176 ?_
                  first | refine tk_iaddN dX11_viewMark_177 ?_ | refine tk_iadd dX11_viewMark_177 ?_
                  refine tk_iald dX11_viewMark_178 (hR.t 59 rfl) (by omega) (by omega) ?_
                  refine tk_iast dX11_viewMark_179 (hR.t 69 rfl) (by omega) (by omega) ?_
                  first | refine tk_iinc2 dX11_viewMark_180 (kc_inc _) rfl ?_ | refine tk_iinc2 dX11_viewMark_180 rfl rfl ?_
                  refine tk_goto dX11_viewMark_183 ?_
                  simp only [va_up_self, bx_uu, tk_une, tk_usrt, not_false_eq_true, Nat.reduceEqDiff, Nat.reduceLT, Nat.reduceAdd, Nat.reduceMul, Nat.reduceLeDiff, reduceCtorEq]
                  rw [tkcp_s (I 69) (fun k => I 59 (3 * m + k))]
                  exact k _ (by repeat' (first | exact trivial | refine ⟨Or.inl rfl, ?_⟩ | refine ⟨Or.inr rfl, ?_⟩))
            · exfalso; omega
          · intro i _ hi k
            refine tk_iload2 dX11_viewMark_106 ?_
            refine tk_bipush dX11_viewMark_107 kc_bipush_70 ?_
            first | refine tk_icmp_geN dX11_viewMark_109 (by omega) (by omega) (fun h109 => ?_) (fun h109 => ?_) | refine tk_jcmp_ge dX11_viewMark_109 (fun h109 => ?_) (fun h109 => ?_)
            · exfalso; omega
            · refine tk_aload0 dX11_viewMark_112 ?_
              refine tk_getP dX11_viewMark_113 fX11_90 rfl hR.o (hR.p 32 rfl) ?_
              refine tk_iload2 dX11_viewMark_116 ?_
              refine tk_aload0 dX11_viewMark_117 ?_
              refine tk_getP dX11_viewMark_118 fX11_58 rfl hR.o (hR.p 16 rfl) ?_
              refine tk_bipush dX11_viewMark_121 kc_bipush_70 ?_
              refine tk_iload1 dX11_viewMark_123 ?_
              first | refine tk_imulN dX11_viewMark_124 ?_ | refine tk_imul dX11_viewMark_124 ?_
              refine tk_iload2 dX11_viewMark_125 ?_
              first | refine tk_iaddN dX11_viewMark_126 ?_ | refine tk_iadd dX11_viewMark_126 ?_
              refine tk_iald dX11_viewMark_127 (hR.t 57 rfl) (by omega) (by omega) ?_
              refine tk_iast dX11_viewMark_128 (hR.t 67 rfl) (by omega) (by omega) ?_
              refine tk_aload0 dX11_viewMark_129 ?_
              refine tk_getP dX11_viewMark_130 fX11_93 rfl hR.o (hR.p 33 rfl) ?_
              refine tk_iload2 dX11_viewMark_133 ?_
              refine tk_bipush dX11_viewMark_134 kc_bipush_14 ?_
              first | refine tk_idivN dX11_viewMark_136 (by omega) (by omega) (by omega) ?_ | refine tk_idiv dX11_viewMark_136 (by decide) ?_
              refine tk_aload0 dX11_viewMark_137 ?_
              refine tk_getP dX11_viewMark_138 fX11_61 rfl hR.o (hR.p 17 rfl) ?_
              refine tk_iconst dX11_viewMark_141 kc_iconst_5 ?_
              refine tk_iload1 dX11_viewMark_142 ?_
              first | refine tk_imulN dX11_viewMark_143 ?_ | refine tk_imul dX11_viewMark_143 ?_
              refine tk_iload2 dX11_viewMark_144 ?_
              refine tk_bipush dX11_viewMark_145 kc_bipush_14 ?_
              first | refine tk_idivN dX11_viewMark_147 (by omega) (by omega) (by omega) ?_ | refine tk_idiv dX11_viewMark_147 (by decide) ?_
              first | refine tk_iaddN dX11_viewMark_148 ?_ | refine tk_iadd dX11_viewMark_148 ?_
              refine tk_iald dX11_viewMark_149 (hR.t 58 rfl) (by omega) (by omega) ?_
              refine tk_iast dX11_viewMark_150 (hR.t 68 rfl) (by omega) (by omega) ?_
              first | refine tk_iinc2 dX11_viewMark_151 (kc_inc _) rfl ?_ | refine tk_iinc2 dX11_viewMark_151 rfl rfl ?_
              refine tk_goto dX11_viewMark_154 ?_
              simp only [va_up_self, bx_uu, tk_une, tk_usrt, not_false_eq_true, Nat.reduceEqDiff, Nat.reduceLT, Nat.reduceAdd, Nat.reduceMul, Nat.reduceLeDiff, reduceCtorEq]
              rw [tkcp_s (I 67) (fun k => I 57 (70 * m + k)), tkcp_14 (I 68) (fun k => I 58 (5 * m + k))]
              exact k _ (by repeat' (first | exact trivial | refine ⟨Or.inl rfl, ?_⟩ | refine ⟨Or.inr rfl, ?_⟩))
        · exfalso; omega
      · intro i _ hi k
        refine tk_iload2 dX11_viewMark_73 ?_
        refine tk_sipush dX11_viewMark_74 kc_sipush_256 ?_
        first | refine tk_icmp_geN dX11_viewMark_77 (by omega) (by omega) (fun h77 => ?_) (fun h77 => ?_) | refine tk_jcmp_ge dX11_viewMark_77 (fun h77 => ?_) (fun h77 => ?_)
        · exfalso; omega
        · refine tk_aload0 dX11_viewMark_80 ?_
          refine tk_getP dX11_viewMark_81 fX11_83 rfl hR.o (hR.p 29 rfl) ?_
          refine tk_iload2 dX11_viewMark_84 ?_
          refine tk_aload0 dX11_viewMark_85 ?_
          refine tk_getP dX11_viewMark_86 fX11_55 rfl hR.o (hR.p 15 rfl) ?_
          refine tk_sipush dX11_viewMark_89 kc_sipush_256 ?_
          refine tk_iload1 dX11_viewMark_92 ?_
          first | refine tk_imulN dX11_viewMark_93 ?_ | refine tk_imul dX11_viewMark_93 ?_
          refine tk_iload2 dX11_viewMark_94 ?_
          first | refine tk_iaddN dX11_viewMark_95 ?_ | refine tk_iadd dX11_viewMark_95 ?_
          refine tk_iald dX11_viewMark_96 (hR.t 56 rfl) (by omega) (by omega) ?_
          refine tk_iast dX11_viewMark_97 (hR.t 65 rfl) (by omega) (by omega) ?_
          first | refine tk_iinc2 dX11_viewMark_98 (kc_inc _) rfl ?_ | refine tk_iinc2 dX11_viewMark_98 rfl rfl ?_
          refine tk_goto dX11_viewMark_101 ?_
          simp only [va_up_self, bx_uu, tk_une, tk_usrt, not_false_eq_true, Nat.reduceEqDiff, Nat.reduceLT, Nat.reduceAdd, Nat.reduceMul, Nat.reduceLeDiff, reduceCtorEq]
          rw [tkcp_s (I 65) (fun k => I 56 (256 * m + k))]
          exact k _ (by repeat' (first | exact trivial | refine ⟨Or.inl rfl, ?_⟩ | refine ⟨Or.inr rfl, ?_⟩))
    · exfalso; omega
  · intro i _ hi k
    refine tk_iload2 dX11_viewMark_42 ?_
    refine tk_bipush dX11_viewMark_43 kc_bipush_64 ?_
    first | refine tk_icmp_geN dX11_viewMark_45 (by omega) (by omega) (fun h45 => ?_) (fun h45 => ?_) | refine tk_jcmp_ge dX11_viewMark_45 (fun h45 => ?_) (fun h45 => ?_)
    · exfalso; omega
    · refine tk_aload0 dX11_viewMark_48 ?_
      refine tk_getP dX11_viewMark_49 fX11_80 rfl hR.o (hR.p 28 rfl) ?_
      refine tk_iload2 dX11_viewMark_52 ?_
      refine tk_aload0 dX11_viewMark_53 ?_
      refine tk_getP dX11_viewMark_54 fX11_52 rfl hR.o (hR.p 14 rfl) ?_
      refine tk_bipush dX11_viewMark_57 kc_bipush_64 ?_
      refine tk_iload1 dX11_viewMark_59 ?_
      first | refine tk_imulN dX11_viewMark_60 ?_ | refine tk_imul dX11_viewMark_60 ?_
      refine tk_iload2 dX11_viewMark_61 ?_
      first | refine tk_iaddN dX11_viewMark_62 ?_ | refine tk_iadd dX11_viewMark_62 ?_
      refine tk_iald dX11_viewMark_63 (hR.t 55 rfl) (by omega) (by omega) ?_
      refine tk_iast dX11_viewMark_64 (hR.t 64 rfl) (by omega) (by omega) ?_
      first | refine tk_iinc2 dX11_viewMark_65 (kc_inc _) rfl ?_ | refine tk_iinc2 dX11_viewMark_65 rfl rfl ?_
      refine tk_goto dX11_viewMark_68 ?_
      simp only [va_up_self, bx_uu, tk_une, tk_usrt, not_false_eq_true, Nat.reduceEqDiff, Nat.reduceLT, Nat.reduceAdd, Nat.reduceMul, Nat.reduceLeDiff, reduceCtorEq]
      rw [tkcp_s (I 64) (fun k => I 55 (64 * m + k))]
      exact k _ (by repeat' (first | exact trivial | refine ⟨Or.inl rfl, ?_⟩ | refine ⟨Or.inr rfl, ?_⟩))
end REFI
