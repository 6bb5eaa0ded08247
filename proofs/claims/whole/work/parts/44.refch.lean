/-! ===== the reference: tell, who comes ===== -/
theorem cntR_t {R : Nat → Bool} {k : Nat} (h : R k = true) : cntR R (k + 1) = cntR R k + 1 := by rw [cntR, if_pos h]
theorem cntR_f {R : Nat → Bool} {k : Nat} (h : R k = false) : cntR R (k + 1) = cntR R k := by rw [cntR, h]; rfl
def rTc (kw : Nat → Bool) (g : Nat → Int32) : Nat → Nat → Int32
  | 0 => g
  | w + 1 => if kw w then va_up (va_up (rTc kw g w) (w + cntR kw w) (nI w)) (w + cntR kw w + 1) (nI w) else va_up (rTc kw g w) (w + cntR kw w) (nI w)
def rTw (kw xx : Nat → Bool) (g : Nat → Int32) : Nat → Nat → Int32
  | 0 => g
  | w + 1 => if kw w then va_up (va_up (rTw kw xx g w) (w + cntR kw w) (nI 0)) (w + cntR kw w + 1) (if xx w then nI 2 else nI 1) else va_up (rTw kw xx g w) (w + cntR kw w) (nI 0)
def rTr (kw : Nat → Bool) (r : Nat) (x : Int32) : Nat → Int32
  | 0 => x
  | w + 1 => if kw w && decide (w = r) then nI (w + cntR kw w + 1) else rTr kw r x w
section REFCH
variable {G : tkG} {n : Nat} {T : Nat → Nat × Nat} {I : Nat → Nat → Int32} {L : Nat → Nat → Int64} {P : Nat → Nat → Option Nat}
theorem r_tellN (hR : tkRef T P) {W a : Nat} {x : Int64} {b s : Int32} {a4 : Int32} (hW : I 40 26 = nI W) (hW2 : W ≤ 64) (ha : a < 4) {Q : Option tkV → tkH → Prop} (fin : ∀ l, tkle [some (vR 40), some (vI (nI a)), some (vI b), some (vI s), some (vI a4), some (vL x), none, some (vI (nI (W + cntR (fun w => rKw (L 66) W a w x) W))), none, none, none, none, none, none] l → tkX G mX11_tell 36 0 0 80 l [] (n, T, I, L, P) Q) : tkX G mX11_tell 36 0 0 43 [some (vR 40), some (vI (nI a)), some (vI b), some (vI s), some (vI a4), some (vL x), none, some (vI (nI W)), some (vI (nI 0)), none, none, none, none, none] [] (n, T, I, L, P) Q := by
  refine tk_fr 0 W (fun w => [some (vR 40), some (vI (nI a)), some (vI b), some (vI s), some (vI a4), some (vL x), none, some (vI (nI (W + cntR (fun w => rKw (L 66) W a w x) w))), some (vI (nI w)), none, none, none, none, none]) (fun w => (n, T, I, L, P)) (by omega) (by repeat' (first | exact trivial | refine ⟨Or.inl rfl, ?_⟩ | refine ⟨Or.inr rfl, ?_⟩)) rfl ?_ ?_
  · refine tk_iload8 dX11_tell_43 ?_
    refine tk_aload0 dX11_tell_45 ?_
    refine tk_getI dX11_tell_46 fX11_215 rfl hR.o ?_
    rw [hW]
    first | refine tk_icmp_geN dX11_tell_49 (by omega) (by omega) (fun h49 => ?_) (fun h49 => ?_) | refine tk_jcmp_ge dX11_tell_49 (fun h49 => ?_) (fun h49 => ?_)
    · exact fin _ (by repeat' (first | exact trivial | refine ⟨Or.inl rfl, ?_⟩ | refine ⟨Or.inr rfl, ?_⟩))
    · exfalso; omega
  · intro w _ hw kk
    have hcw := cntR_le (fun w => rKw (L 66) W a w x) w
    refine tk_iload8 dX11_tell_43 ?_
    refine tk_aload0 dX11_tell_45 ?_
    refine tk_getI dX11_tell_46 fX11_215 rfl hR.o ?_
    rw [hW]
    first | refine tk_icmp_geN dX11_tell_49 (by omega) (by omega) (fun h49 => ?_) (fun h49 => ?_) | refine tk_jcmp_ge dX11_tell_49 (fun h49 => ?_) (fun h49 => ?_)
    · exfalso; omega
    · refine tk_iload7 dX11_tell_52 ?_
      refine tk_aload0 dX11_tell_54 ?_
      refine tk_iload1 dX11_tell_55 ?_
      refine tk_iload8 dX11_tell_56 ?_
      refine tk_lload5 dX11_tell_58 ?_
      refine tk_callV3z dX11_tell_60 kX11_303 hR.o (r_knowsWhether hR hW hW2 ha (by omega) x) (Nat.le_of_ble_eq_true rfl) (by omega) ?_
      first | refine tk_jf_eqB dX11_tell_63 (fun h63 => ?_) (fun h63 => ?_) | refine tk_if_eq dX11_tell_63 (fun h63 => ?_) (fun h63 => ?_)
      · refine tk_iconst dX11_tell_70 kc_iconst_0 ?_
        first | refine tk_iaddN dX11_tell_71 ?_ | refine tk_iadd dX11_tell_71 ?_
        refine tk_istore7 dX11_tell_72 rfl ?_
        first | refine tk_iinc8 dX11_tell_74 (kc_inc _) rfl ?_ | refine tk_iinc8 dX11_tell_74 rfl rfl ?_
        refine tk_goto dX11_tell_77 ?_
        refine kk _ ?_
        first | rw [cntR_t (R := fun w => rKw (L 66) W a w x) h63] | rw [cntR_f (R := fun w => rKw (L 66) W a w x) h63]
        exact (by repeat' (first | exact trivial | refine ⟨Or.inl rfl, ?_⟩ | refine ⟨Or.inr rfl, ?_⟩))
      · refine tk_iconst dX11_tell_66 kc_iconst_1 ?_
        refine tk_goto dX11_tell_67 ?_
        first | refine tk_iaddN dX11_tell_71 ?_ | refine tk_iadd dX11_tell_71 ?_
        refine tk_istore7 dX11_tell_72 rfl ?_
        first | refine tk_iinc8 dX11_tell_74 (kc_inc _) rfl ?_ | refine tk_iinc8 dX11_tell_74 rfl rfl ?_
        refine tk_goto dX11_tell_77 ?_
        refine kk _ ?_
        first | rw [cntR_t (R := fun w => rKw (L 66) W a w x) h63] | rw [cntR_f (R := fun w => rKw (L 66) W a w x) h63]
        exact (by repeat' (first | exact trivial | refine ⟨Or.inl rfl, ?_⟩ | refine ⟨Or.inr rfl, ?_⟩))
end REFCH
