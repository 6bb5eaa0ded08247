/-! ===== the class: draft, drop, gather, first like ===== -/
def dLb (f : Nat → Int32) (nx w : Nat) : Nat → Nat → Int32
  | 0 => f
  | p + 1 => va_up (dLb f nx w p) (128 * p + nx) (f (128 * p + w))
theorem dLb_at {f : Nat → Int32} {nx w np p : Nat} (hp : p < np) (hn : nx < 128) : dLb f nx w np (128 * p + nx) = f (128 * p + w) := by
  induction np with
  | zero => omega
  | succ k ih =>
    rw [dLb]
    by_cases e : p = k
    · subst e; exact va_up_self _ _ _
    · rw [va_up_ne _ _ (by omega)]; exact ih (by omega)
theorem dLb_off {f : Nat → Int32} {nx w np p j : Nat} (hn : nx < 128) (hj : j < 128) (h : ¬ j = nx ∨ np ≤ p) : dLb f nx w np (128 * p + j) = f (128 * p + j) := by
  induction np with
  | zero => rfl
  | succ k ih => rw [dLb, va_up_ne _ _ (by omega)]; exact ih (by omega)
def RT : Nat → Bool := fun _ => true
theorem cOr_s {b : Nat → Int64} {c : Nat → Nat → Nat} {kd : Nat → Nat} {p i : Nat} {g : Nat → Int64} (h : c p i < 256) : va_up (tkcp g (fun x => cOr b c RT kd p x i) 256) (c p i) (cOr b c RT kd p (c p i) i ||| b (kd i)) = tkcp g (fun x => cOr b c RT kd p x (i + 1)) 256 := by
  funext x
  unfold va_up tkcp
  by_cases e : x = c p i
  · subst e
    rw [if_pos rfl, if_pos h]
    show _ = orK _ i ||| (if RT i && decide (c p i = c p i) then b (kd i) else 0)
    rw [decide_eq_true rfl]
    rfl
  · rw [if_neg e]
    by_cases e2 : x < 256
    · rw [if_pos e2, if_pos e2]
      show _ = orK _ i ||| (if RT i && decide (c p i = x) then b (kd i) else 0)
      rw [decide_eq_false (fun q => e q.symm), Bool.and_false, if_neg (by decide), or0]
      rfl
    · rw [if_neg e2, if_neg e2]
theorem cOr_k {b : Nat → Int64} {c : Nat → Nat → Nat} {kd : Nat → Nat} {p i : Nat} (h : b (kd i) = 0) : (fun x => cOr b c RT kd p x i) = fun x => cOr b c RT kd p x (i + 1) := by
  funext x
  show _ = orK _ i ||| (if RT i && decide (c p i = x) then b (kd i) else 0)
  rw [h]
  have : (if (RT i && decide (c p i = x)) = true then (0 : Int64) else 0) = 0 := by split <;> rfl
  rw [this, or0]
  rfl
def DUQ (n : Nat) (T : Nat → Nat × Nat) (I : Nat → Nat → Int32) (L : Nat → Nat → Int64) (P : Nat → Nat → Option Nat) (N np r0 : Nat) (R : Nat → Bool) : Option tkV → tkH → Prop := fun r h => ∃ f9 f0, r = none ∧ h = (n, T, va_up (va_up (va_up I 28 (va_up (va_up (I 28) 2 (nI (cntR R N))) 3 (nI (cntR R r0)))) 29 f9) 30 f0, L, P) ∧ ∀ u, u < N → R u = true → f9 (cntR R u) = I 29 u ∧ ∀ p, p < np → f0 (128 * p + cntR R u) = I 30 (128 * p + u)
section DRAFT3
variable {G : tkG} {n : Nat} {T : Nat → Nat × Nat} {I : Nat → Nat → Int32} {L : Nat → Nat → Int64} {P : Nat → Nat → Option Nat}
theorem c_drop {N np r0 : Nat} {R : Nat → Bool} (hD : dObj T P) (hnp : I 28 0 = nI np) (hnp4 : np ≤ 4) (hN : I 28 2 = nI N) (hN2 : N ≤ 128) (hr : I 28 3 = nI r0) (hr0 : r0 < N) (hR0 : R r0 = true) (hRr : ∀ w, w < N → I 33 w = tkb (R w)) : tkM G mX0_dropUnreached 1 0 0 [vR 28] (n, T, I, L, P) (DUQ n T I L P N np r0 R) := by
  have hD' := hD
  obtain ⟨d1, d2, d3, d4, d5, d6, d7, d8, d9, d10, d11, d12, d13, d14, d15⟩ := hD'
  have loop : ∀ (k w : Nat) (J9 J0 : Nat → Int32), w + k = N → (∀ u, u < w → R u = true → J9 (cntR R u) = I 29 u ∧ ∀ p, p < np → J0 (128 * p + cntR R u) = I 30 (128 * p + u)) → (∀ j, w ≤ j → J9 j = I 29 j) → (∀ p, p < np → ∀ j, w ≤ j → j < 128 → J0 (128 * p + j) = I 30 (128 * p + j)) → tkX G mX0_dropUnreached 1 0 0 6 [some (vR 28), some (vI (nI (cntR R w))), some (vI (nI (if r0 < w then cntR R r0 else 0))), some (vI (nI w)), none] [] (n, T, va_up (va_up I 29 J9) 30 J0, L, P) (DUQ n T I L P N np r0 R) := by
    intro k
    induction k with
    | zero =>
      intro w J9 J0 hw i1 i2 i3
      refine tk_iload3 dX0_dropUnreached_6 ?_
      refine tk_aload0 dX0_dropUnreached_7 ?_
      refine tk_getI dX0_dropUnreached_8 fX0_52 rfl (by first | assumption | exact va_up_self _ _ _ | exact (va_up_ne _ _ (by omega)).trans (by assumption) | exact congrArg Prod.fst (va_up_self _ _ _) | exact (congrArg Prod.fst (va_up_ne _ _ (by omega))).trans (by assumption) | exact (congrFun (va_up_ne _ _ (by omega)) _).trans (by assumption) | exact (va_up_ne _ _ (by omega)).trans (va_up_self _ _ _) | exact (va_up_ne _ _ (by omega)).trans ((va_up_ne _ _ (by omega)).trans (by assumption)) | exact (congrArg Prod.fst ((va_up_ne _ _ (by omega)).trans (va_up_ne _ _ (by omega)))).trans (by assumption) | exact (congrFun ((va_up_ne _ _ (by omega)).trans (va_up_ne _ _ (by omega))) _).trans (by assumption) | (rw [va_up_self, va_up_ne _ _ (by omega)]; assumption)) ?_
      rw [va_up_ne _ _ (by omega), va_up_ne _ _ (by omega), hN]
      first | refine tk_icmp_geN dX0_dropUnreached_11 (by omega) (by omega) (fun h11 => ?_) (fun h11 => ?_) | refine tk_jcmp_ge dX0_dropUnreached_11 (fun h11 => ?_) (fun h11 => ?_)
      · refine tk_aload0 dX0_dropUnreached_96 ?_
        refine tk_iload1 dX0_dropUnreached_97 ?_
        refine tk_putI dX0_dropUnreached_98 fX0_52 wX0_dropUnreached_X0_2 rfl (by first | assumption | exact va_up_self _ _ _ | exact (va_up_ne _ _ (by omega)).trans (by assumption) | exact congrArg Prod.fst (va_up_self _ _ _) | exact (congrArg Prod.fst (va_up_ne _ _ (by omega))).trans (by assumption) | exact (congrFun (va_up_ne _ _ (by omega)) _).trans (by assumption) | exact (va_up_ne _ _ (by omega)).trans (va_up_self _ _ _) | exact (va_up_ne _ _ (by omega)).trans ((va_up_ne _ _ (by omega)).trans (by assumption)) | exact (congrArg Prod.fst ((va_up_ne _ _ (by omega)).trans (va_up_ne _ _ (by omega)))).trans (by assumption) | exact (congrFun ((va_up_ne _ _ (by omega)).trans (va_up_ne _ _ (by omega))) _).trans (by assumption) | (rw [va_up_self, va_up_ne _ _ (by omega)]; assumption)) ?_
        refine tk_aload0 dX0_dropUnreached_101 ?_
        refine tk_iload2 dX0_dropUnreached_102 ?_
        refine tk_putI dX0_dropUnreached_103 fX0_56 wX0_dropUnreached_X0_3 rfl (by first | assumption | exact va_up_self _ _ _ | exact (va_up_ne _ _ (by omega)).trans (by assumption) | exact congrArg Prod.fst (va_up_self _ _ _) | exact (congrArg Prod.fst (va_up_ne _ _ (by omega))).trans (by assumption) | exact (congrFun (va_up_ne _ _ (by omega)) _).trans (by assumption) | exact (va_up_ne _ _ (by omega)).trans (va_up_self _ _ _) | exact (va_up_ne _ _ (by omega)).trans ((va_up_ne _ _ (by omega)).trans (by assumption)) | exact (congrArg Prod.fst ((va_up_ne _ _ (by omega)).trans (va_up_ne _ _ (by omega)))).trans (by assumption) | exact (congrFun ((va_up_ne _ _ (by omega)).trans (va_up_ne _ _ (by omega))) _).trans (by assumption) | (rw [va_up_self, va_up_ne _ _ (by omega)]; assumption)) ?_
        refine tk_return dX0_dropUnreached_106 rfl ?_
        refine ⟨J9, J0, rfl, ?_, fun u hu hr => i1 u (by omega) hr⟩
        rw [if_pos (by omega), show w = N by omega]
        simp only [va_up_self, bx_uu, tk_une, tk_usrt, not_false_eq_true, Nat.reduceEqDiff, Nat.reduceLT, Nat.reduceAdd, Nat.reduceMul, Nat.reduceLeDiff, reduceCtorEq]
      · exfalso; omega
    | succ k ih =>
      intro w J9 J0 hw i1 i2 i3
      have hcw := cntR_le R w
      have hnr : R w = true → ∀ x : Nat, x = (if r0 < w + 1 then cntR R r0 else 0) → tkX G mX0_dropUnreached 1 0 0 36 [some (vR 28), some (vI (nI (cntR R w))), none, some (vI (nI w)), none] [vI (nI x)] (n, T, va_up (va_up I 29 J9) 30 J0, L, P) (DUQ n T I L P N np r0 R) := by
        intro hRw x hx
        subst hx
        refine tk_istore2 dX0_dropUnreached_36 rfl ?_
        refine tk_aload0 dX0_dropUnreached_37 ?_
        refine tk_getP dX0_dropUnreached_38 fX0_11 rfl (by first | assumption | exact va_up_self _ _ _ | exact (va_up_ne _ _ (by omega)).trans (by assumption) | exact congrArg Prod.fst (va_up_self _ _ _) | exact (congrArg Prod.fst (va_up_ne _ _ (by omega))).trans (by assumption) | exact (congrFun (va_up_ne _ _ (by omega)) _).trans (by assumption) | exact (va_up_ne _ _ (by omega)).trans (va_up_self _ _ _) | exact (va_up_ne _ _ (by omega)).trans ((va_up_ne _ _ (by omega)).trans (by assumption)) | exact (congrArg Prod.fst ((va_up_ne _ _ (by omega)).trans (va_up_ne _ _ (by omega)))).trans (by assumption) | exact (congrFun ((va_up_ne _ _ (by omega)).trans (va_up_ne _ _ (by omega))) _).trans (by assumption) | (rw [va_up_self, va_up_ne _ _ (by omega)]; assumption)) (by first | assumption | exact va_up_self _ _ _ | exact (va_up_ne _ _ (by omega)).trans (by assumption) | exact congrArg Prod.fst (va_up_self _ _ _) | exact (congrArg Prod.fst (va_up_ne _ _ (by omega))).trans (by assumption) | exact (congrFun (va_up_ne _ _ (by omega)) _).trans (by assumption) | exact (va_up_ne _ _ (by omega)).trans (va_up_self _ _ _) | exact (va_up_ne _ _ (by omega)).trans ((va_up_ne _ _ (by omega)).trans (by assumption)) | exact (congrArg Prod.fst ((va_up_ne _ _ (by omega)).trans (va_up_ne _ _ (by omega)))).trans (by assumption) | exact (congrFun ((va_up_ne _ _ (by omega)).trans (va_up_ne _ _ (by omega))) _).trans (by assumption) | (rw [va_up_self, va_up_ne _ _ (by omega)]; assumption)) ?_
        refine tk_iload1 dX0_dropUnreached_41 ?_
        refine tk_aload0 dX0_dropUnreached_42 ?_
        refine tk_getP dX0_dropUnreached_43 fX0_11 rfl (by first | assumption | exact va_up_self _ _ _ | exact (va_up_ne _ _ (by omega)).trans (by assumption) | exact congrArg Prod.fst (va_up_self _ _ _) | exact (congrArg Prod.fst (va_up_ne _ _ (by omega))).trans (by assumption) | exact (congrFun (va_up_ne _ _ (by omega)) _).trans (by assumption) | exact (va_up_ne _ _ (by omega)).trans (va_up_self _ _ _) | exact (va_up_ne _ _ (by omega)).trans ((va_up_ne _ _ (by omega)).trans (by assumption)) | exact (congrArg Prod.fst ((va_up_ne _ _ (by omega)).trans (va_up_ne _ _ (by omega)))).trans (by assumption) | exact (congrFun ((va_up_ne _ _ (by omega)).trans (va_up_ne _ _ (by omega))) _).trans (by assumption) | (rw [va_up_self, va_up_ne _ _ (by omega)]; assumption)) (by first | assumption | exact va_up_self _ _ _ | exact (va_up_ne _ _ (by omega)).trans (by assumption) | exact congrArg Prod.fst (va_up_self _ _ _) | exact (congrArg Prod.fst (va_up_ne _ _ (by omega))).trans (by assumption) | exact (congrFun (va_up_ne _ _ (by omega)) _).trans (by assumption) | exact (va_up_ne _ _ (by omega)).trans (va_up_self _ _ _) | exact (va_up_ne _ _ (by omega)).trans ((va_up_ne _ _ (by omega)).trans (by assumption)) | exact (congrArg Prod.fst ((va_up_ne _ _ (by omega)).trans (va_up_ne _ _ (by omega)))).trans (by assumption) | exact (congrFun ((va_up_ne _ _ (by omega)).trans (va_up_ne _ _ (by omega))) _).trans (by assumption) | (rw [va_up_self, va_up_ne _ _ (by omega)]; assumption)) ?_
        refine tk_iload3 dX0_dropUnreached_46 ?_
        refine tk_iald dX0_dropUnreached_47 (by first | assumption | exact va_up_self _ _ _ | exact (va_up_ne _ _ (by omega)).trans (by assumption) | exact congrArg Prod.fst (va_up_self _ _ _) | exact (congrArg Prod.fst (va_up_ne _ _ (by omega))).trans (by assumption) | exact (congrFun (va_up_ne _ _ (by omega)) _).trans (by assumption) | exact (va_up_ne _ _ (by omega)).trans (va_up_self _ _ _) | exact (va_up_ne _ _ (by omega)).trans ((va_up_ne _ _ (by omega)).trans (by assumption)) | exact (congrArg Prod.fst ((va_up_ne _ _ (by omega)).trans (va_up_ne _ _ (by omega)))).trans (by assumption) | exact (congrFun ((va_up_ne _ _ (by omega)).trans (va_up_ne _ _ (by omega))) _).trans (by assumption) | (rw [va_up_self, va_up_ne _ _ (by omega)]; assumption)) (by omega) (by omega) ?_
        simp only [va_up_self, bx_uu, tk_une, tk_usrt, not_false_eq_true, Nat.reduceEqDiff, Nat.reduceLT, Nat.reduceAdd, Nat.reduceMul, Nat.reduceLeDiff, reduceCtorEq]
        refine tk_iast dX0_dropUnreached_48 (by first | assumption | exact va_up_self _ _ _ | exact (va_up_ne _ _ (by omega)).trans (by assumption) | exact congrArg Prod.fst (va_up_self _ _ _) | exact (congrArg Prod.fst (va_up_ne _ _ (by omega))).trans (by assumption) | exact (congrFun (va_up_ne _ _ (by omega)) _).trans (by assumption) | exact (va_up_ne _ _ (by omega)).trans (va_up_self _ _ _) | exact (va_up_ne _ _ (by omega)).trans ((va_up_ne _ _ (by omega)).trans (by assumption)) | exact (congrArg Prod.fst ((va_up_ne _ _ (by omega)).trans (va_up_ne _ _ (by omega)))).trans (by assumption) | exact (congrFun ((va_up_ne _ _ (by omega)).trans (va_up_ne _ _ (by omega))) _).trans (by assumption) | (rw [va_up_self, va_up_ne _ _ (by omega)]; assumption)) (by omega) (by omega) ?_
        simp only [va_up_self, bx_uu, tk_une, tk_usrt, not_false_eq_true, Nat.reduceEqDiff, Nat.reduceLT, Nat.reduceAdd, Nat.reduceMul, Nat.reduceLeDiff, reduceCtorEq]
        refine tk_iconst dX0_dropUnreached_49 kc_iconst_0 ?_
        refine tk_istore4 dX0_dropUnreached_50 rfl ?_
        refine tk_fr 0 np (fun p => [some (vR 28), some (vI (nI (cntR R w))), some (vI (nI (if r0 < w + 1 then cntR R r0 else 0))), some (vI (nI w)), some (vI (nI p))]) (fun p => (n, T, va_up (va_up I 29 (va_up J9 (cntR R w) (J9 w))) 30 (dLb J0 (cntR R w) w p), L, P)) (by omega) (by repeat' (first | exact trivial | refine ⟨Or.inl rfl, ?_⟩ | refine ⟨Or.inr rfl, ?_⟩)) rfl ?_ ?_
        · refine tk_iload4 dX0_dropUnreached_52 ?_
          refine tk_aload0 dX0_dropUnreached_54 ?_
          refine tk_getI dX0_dropUnreached_55 fX0_61 rfl (by first | assumption | exact va_up_self _ _ _ | exact (va_up_ne _ _ (by omega)).trans (by assumption) | exact congrArg Prod.fst (va_up_self _ _ _) | exact (congrArg Prod.fst (va_up_ne _ _ (by omega))).trans (by assumption) | exact (congrFun (va_up_ne _ _ (by omega)) _).trans (by assumption) | exact (va_up_ne _ _ (by omega)).trans (va_up_self _ _ _) | exact (va_up_ne _ _ (by omega)).trans ((va_up_ne _ _ (by omega)).trans (by assumption)) | exact (congrArg Prod.fst ((va_up_ne _ _ (by omega)).trans (va_up_ne _ _ (by omega)))).trans (by assumption) | exact (congrFun ((va_up_ne _ _ (by omega)).trans (va_up_ne _ _ (by omega))) _).trans (by assumption) | (rw [va_up_self, va_up_ne _ _ (by omega)]; assumption)) ?_
          simp only [va_up_self, bx_uu, tk_une, tk_usrt, not_false_eq_true, Nat.reduceEqDiff, Nat.reduceLT, Nat.reduceAdd, Nat.reduceMul, Nat.reduceLeDiff, reduceCtorEq, hnp]
          first | refine tk_icmp_geN dX0_dropUnreached_58 (by omega) (by omega) (fun h58 => ?_) (fun h58 => ?_) | refine tk_jcmp_ge dX0_dropUnreached_58 (fun h58 => ?_) (fun h58 => ?_)
          · first | refine tk_iinc1 dX0_dropUnreached_87 (kc_inc _) rfl ?_ | refine tk_iinc1 dX0_dropUnreached_87 rfl rfl ?_
            first | refine tk_iinc3 dX0_dropUnreached_90 (kc_inc _) rfl ?_ | refine tk_iinc3 dX0_dropUnreached_90 rfl rfl ?_
            refine tk_goto dX0_dropUnreached_93 ?_
            rw [← cntR_t hRw]
            refine tk_wk (by repeat' (first | exact trivial | refine ⟨Or.inl rfl, ?_⟩ | refine ⟨Or.inr rfl, ?_⟩)) (ih (w + 1) _ _ (by omega) (fun u hu ru => ?_) (fun j hj => ?_) (fun p hp j hj hj2 => ?_))
            · by_cases e : u = w
              · subst e
                refine ⟨by rw [va_up_self]; exact i2 u (Nat.le_refl _), fun p hp => ?_⟩
                rw [dLb_at hp (by omega)]; exact i3 p hp u (Nat.le_refl _) (by omega)
              · have hlt := cntR_lt_of (show u < w by omega) ru
                have q := i1 u (by omega) ru
                refine ⟨by rw [va_up_ne _ _ (by omega)]; exact q.1, fun p hp => ?_⟩
                rw [dLb_off (by omega) (by omega) (Or.inl (by omega))]; exact q.2 p hp
            · rw [va_up_ne _ _ (by omega)]; exact i2 j (by omega)
            · rw [dLb_off (by omega) hj2 (Or.inl (by omega))]; exact i3 p hp j (by omega) hj2
          · exfalso; omega
        · intro p _ hp k2
          refine tk_iload4 dX0_dropUnreached_52 ?_
          refine tk_aload0 dX0_dropUnreached_54 ?_
          refine tk_getI dX0_dropUnreached_55 fX0_61 rfl (by first | assumption | exact va_up_self _ _ _ | exact (va_up_ne _ _ (by omega)).trans (by assumption) | exact congrArg Prod.fst (va_up_self _ _ _) | exact (congrArg Prod.fst (va_up_ne _ _ (by omega))).trans (by assumption) | exact (congrFun (va_up_ne _ _ (by omega)) _).trans (by assumption) | exact (va_up_ne _ _ (by omega)).trans (va_up_self _ _ _) | exact (va_up_ne _ _ (by omega)).trans ((va_up_ne _ _ (by omega)).trans (by assumption)) | exact (congrArg Prod.fst ((va_up_ne _ _ (by omega)).trans (va_up_ne _ _ (by omega)))).trans (by assumption) | exact (congrFun ((va_up_ne _ _ (by omega)).trans (va_up_ne _ _ (by omega))) _).trans (by assumption) | (rw [va_up_self, va_up_ne _ _ (by omega)]; assumption)) ?_
          simp only [va_up_self, bx_uu, tk_une, tk_usrt, not_false_eq_true, Nat.reduceEqDiff, Nat.reduceLT, Nat.reduceAdd, Nat.reduceMul, Nat.reduceLeDiff, reduceCtorEq, hnp]
          first | refine tk_icmp_geN dX0_dropUnreached_58 (by omega) (by omega) (fun h58 => ?_) (fun h58 => ?_) | refine tk_jcmp_ge dX0_dropUnreached_58 (fun h58 => ?_) (fun h58 => ?_)
          · exfalso; omega
          · refine tk_aload0 dX0_dropUnreached_61 ?_
            refine tk_getP dX0_dropUnreached_62 fX0_15 rfl (by first | assumption | exact va_up_self _ _ _ | exact (va_up_ne _ _ (by omega)).trans (by assumption) | exact congrArg Prod.fst (va_up_self _ _ _) | exact (congrArg Prod.fst (va_up_ne _ _ (by omega))).trans (by assumption) | exact (congrFun (va_up_ne _ _ (by omega)) _).trans (by assumption) | exact (va_up_ne _ _ (by omega)).trans (va_up_self _ _ _) | exact (va_up_ne _ _ (by omega)).trans ((va_up_ne _ _ (by omega)).trans (by assumption)) | exact (congrArg Prod.fst ((va_up_ne _ _ (by omega)).trans (va_up_ne _ _ (by omega)))).trans (by assumption) | exact (congrFun ((va_up_ne _ _ (by omega)).trans (va_up_ne _ _ (by omega))) _).trans (by assumption) | (rw [va_up_self, va_up_ne _ _ (by omega)]; assumption)) (by first | assumption | exact va_up_self _ _ _ | exact (va_up_ne _ _ (by omega)).trans (by assumption) | exact congrArg Prod.fst (va_up_self _ _ _) | exact (congrArg Prod.fst (va_up_ne _ _ (by omega))).trans (by assumption) | exact (congrFun (va_up_ne _ _ (by omega)) _).trans (by assumption) | exact (va_up_ne _ _ (by omega)).trans (va_up_self _ _ _) | exact (va_up_ne _ _ (by omega)).trans ((va_up_ne _ _ (by omega)).trans (by assumption)) | exact (congrArg Prod.fst ((va_up_ne _ _ (by omega)).trans (va_up_ne _ _ (by omega)))).trans (by assumption) | exact (congrFun ((va_up_ne _ _ (by omega)).trans (va_up_ne _ _ (by omega))) _).trans (by assumption) | (rw [va_up_self, va_up_ne _ _ (by omega)]; assumption)) ?_
            refine tk_iload4 dX0_dropUnreached_65 ?_
            refine tk_sipush dX0_dropUnreached_67 kc_sipush_128 ?_
            first | refine tk_imulN dX0_dropUnreached_70 ?_ | refine tk_imul dX0_dropUnreached_70 ?_
            refine tk_iload1 dX0_dropUnreached_71 ?_
            rw [Nat.mul_comm p 128]
            first | refine tk_iaddN dX0_dropUnreached_72 ?_ | refine tk_iadd dX0_dropUnreached_72 ?_
            refine tk_aload0 dX0_dropUnreached_73 ?_
            refine tk_iload4 dX0_dropUnreached_74 ?_
            refine tk_iload3 dX0_dropUnreached_76 ?_
            refine tk_callV2z dX0_dropUnreached_77 kX0_104 (by first | assumption | exact va_up_self _ _ _ | exact (va_up_ne _ _ (by omega)).trans (by assumption) | exact congrArg Prod.fst (va_up_self _ _ _) | exact (congrArg Prod.fst (va_up_ne _ _ (by omega))).trans (by assumption) | exact (congrFun (va_up_ne _ _ (by omega)) _).trans (by assumption) | exact (va_up_ne _ _ (by omega)).trans (va_up_self _ _ _) | exact (va_up_ne _ _ (by omega)).trans ((va_up_ne _ _ (by omega)).trans (by assumption)) | exact (congrArg Prod.fst ((va_up_ne _ _ (by omega)).trans (va_up_ne _ _ (by omega)))).trans (by assumption) | exact (congrFun ((va_up_ne _ _ (by omega)).trans (va_up_ne _ _ (by omega))) _).trans (by assumption) | (rw [va_up_self, va_up_ne _ _ (by omega)]; assumption)) (c_label hD (by omega) (by omega)) (Nat.le_of_ble_eq_true rfl) (by omega) ?_
            simp only [va_up_self, bx_uu, tk_une, tk_usrt, not_false_eq_true, Nat.reduceEqDiff, Nat.reduceLT, Nat.reduceAdd, Nat.reduceMul, Nat.reduceLeDiff, reduceCtorEq]
            rw [dLb_off (by omega) (by omega) (Or.inr (Nat.le_refl p))]
            refine tk_iast dX0_dropUnreached_80 (by first | assumption | exact va_up_self _ _ _ | exact (va_up_ne _ _ (by omega)).trans (by assumption) | exact congrArg Prod.fst (va_up_self _ _ _) | exact (congrArg Prod.fst (va_up_ne _ _ (by omega))).trans (by assumption) | exact (congrFun (va_up_ne _ _ (by omega)) _).trans (by assumption) | exact (va_up_ne _ _ (by omega)).trans (va_up_self _ _ _) | exact (va_up_ne _ _ (by omega)).trans ((va_up_ne _ _ (by omega)).trans (by assumption)) | exact (congrArg Prod.fst ((va_up_ne _ _ (by omega)).trans (va_up_ne _ _ (by omega)))).trans (by assumption) | exact (congrFun ((va_up_ne _ _ (by omega)).trans (va_up_ne _ _ (by omega))) _).trans (by assumption) | (rw [va_up_self, va_up_ne _ _ (by omega)]; assumption)) (by omega) (by omega) ?_
            simp only [va_up_self, bx_uu, tk_une, tk_usrt, not_false_eq_true, Nat.reduceEqDiff, Nat.reduceLT, Nat.reduceAdd, Nat.reduceMul, Nat.reduceLeDiff, reduceCtorEq]
            first | refine tk_iinc4 dX0_dropUnreached_81 (kc_inc _) rfl ?_ | refine tk_iinc4 dX0_dropUnreached_81 rfl rfl ?_
            refine tk_goto dX0_dropUnreached_84 ?_
            exact k2 _ (by repeat' (first | exact trivial | refine ⟨Or.inl rfl, ?_⟩ | refine ⟨Or.inr rfl, ?_⟩))
      refine tk_iload3 dX0_dropUnreached_6 ?_
      refine tk_aload0 dX0_dropUnreached_7 ?_
      refine tk_getI dX0_dropUnreached_8 fX0_52 rfl (by first | assumption | exact va_up_self _ _ _ | exact (va_up_ne _ _ (by omega)).trans (by assumption) | exact congrArg Prod.fst (va_up_self _ _ _) | exact (congrArg Prod.fst (va_up_ne _ _ (by omega))).trans (by assumption) | exact (congrFun (va_up_ne _ _ (by omega)) _).trans (by assumption) | exact (va_up_ne _ _ (by omega)).trans (va_up_self _ _ _) | exact (va_up_ne _ _ (by omega)).trans ((va_up_ne _ _ (by omega)).trans (by assumption)) | exact (congrArg Prod.fst ((va_up_ne _ _ (by omega)).trans (va_up_ne _ _ (by omega)))).trans (by assumption) | exact (congrFun ((va_up_ne _ _ (by omega)).trans (va_up_ne _ _ (by omega))) _).trans (by assumption) | (rw [va_up_self, va_up_ne _ _ (by omega)]; assumption)) ?_
      rw [va_up_ne _ _ (by omega), va_up_ne _ _ (by omega), hN]
      first | refine tk_icmp_geN dX0_dropUnreached_11 (by omega) (by omega) (fun h11 => ?_) (fun h11 => ?_) | refine tk_jcmp_ge dX0_dropUnreached_11 (fun h11 => ?_) (fun h11 => ?_)
      · exfalso; omega
      · refine tk_aload0 dX0_dropUnreached_14 ?_
        refine tk_getP dX0_dropUnreached_15 fX0_24 rfl (by first | assumption | exact va_up_self _ _ _ | exact (va_up_ne _ _ (by omega)).trans (by assumption) | exact congrArg Prod.fst (va_up_self _ _ _) | exact (congrArg Prod.fst (va_up_ne _ _ (by omega))).trans (by assumption) | exact (congrFun (va_up_ne _ _ (by omega)) _).trans (by assumption) | exact (va_up_ne _ _ (by omega)).trans (va_up_self _ _ _) | exact (va_up_ne _ _ (by omega)).trans ((va_up_ne _ _ (by omega)).trans (by assumption)) | exact (congrArg Prod.fst ((va_up_ne _ _ (by omega)).trans (va_up_ne _ _ (by omega)))).trans (by assumption) | exact (congrFun ((va_up_ne _ _ (by omega)).trans (va_up_ne _ _ (by omega))) _).trans (by assumption) | (rw [va_up_self, va_up_ne _ _ (by omega)]; assumption)) (by first | assumption | exact va_up_self _ _ _ | exact (va_up_ne _ _ (by omega)).trans (by assumption) | exact congrArg Prod.fst (va_up_self _ _ _) | exact (congrArg Prod.fst (va_up_ne _ _ (by omega))).trans (by assumption) | exact (congrFun (va_up_ne _ _ (by omega)) _).trans (by assumption) | exact (va_up_ne _ _ (by omega)).trans (va_up_self _ _ _) | exact (va_up_ne _ _ (by omega)).trans ((va_up_ne _ _ (by omega)).trans (by assumption)) | exact (congrArg Prod.fst ((va_up_ne _ _ (by omega)).trans (va_up_ne _ _ (by omega)))).trans (by assumption) | exact (congrFun ((va_up_ne _ _ (by omega)).trans (va_up_ne _ _ (by omega))) _).trans (by assumption) | (rw [va_up_self, va_up_ne _ _ (by omega)]; assumption)) ?_
        refine tk_iload3 dX0_dropUnreached_18 ?_
        refine tk_iald dX0_dropUnreached_19 (by first | assumption | exact va_up_self _ _ _ | exact (va_up_ne _ _ (by omega)).trans (by assumption) | exact congrArg Prod.fst (va_up_self _ _ _) | exact (congrArg Prod.fst (va_up_ne _ _ (by omega))).trans (by assumption) | exact (congrFun (va_up_ne _ _ (by omega)) _).trans (by assumption) | exact (va_up_ne _ _ (by omega)).trans (va_up_self _ _ _) | exact (va_up_ne _ _ (by omega)).trans ((va_up_ne _ _ (by omega)).trans (by assumption)) | exact (congrArg Prod.fst ((va_up_ne _ _ (by omega)).trans (va_up_ne _ _ (by omega)))).trans (by assumption) | exact (congrFun ((va_up_ne _ _ (by omega)).trans (va_up_ne _ _ (by omega))) _).trans (by assumption) | (rw [va_up_self, va_up_ne _ _ (by omega)]; assumption)) (by omega) (by omega) ?_
        rw [va_up_ne _ _ (by omega), va_up_ne _ _ (by omega), hRr w (by omega)]
        first | refine tk_jf_eqB dX0_dropUnreached_20 (fun h20 => ?_) (fun h20 => ?_) | refine tk_if_eq dX0_dropUnreached_20 (fun h20 => ?_) (fun h20 => ?_)
        · first | refine tk_iinc3 dX0_dropUnreached_90 (kc_inc _) rfl ?_ | refine tk_iinc3 dX0_dropUnreached_90 rfl rfl ?_
          refine tk_goto dX0_dropUnreached_93 ?_
          rw [← cntR_f h20]
          have q := ih (w + 1) J9 J0 (by omega) (fun u hu ru => i1 u (by by_cases e : u = w; (subst e; rw [h20] at ru; cases ru); omega) ru) (fun j hj => i2 j (by omega)) (fun p hp j hj => i3 p hp j (by omega))
          rw [show (if r0 < w + 1 then cntR R r0 else 0) = if r0 < w then cntR R r0 else 0 by by_cases e : r0 < w; (rw [if_pos e, if_pos (by omega)]); (rw [if_neg e, if_neg (fun z => Bool.noConfusion (hR0.symm.trans ((show w = r0 by omega) ▸ h20)))])] at q
          exact tk_wk (by repeat' (first | exact trivial | refine ⟨Or.inl rfl, ?_⟩ | refine ⟨Or.inr rfl, ?_⟩)) q
        · refine tk_iload3 dX0_dropUnreached_23 ?_
          refine tk_aload0 dX0_dropUnreached_24 ?_
          refine tk_getI dX0_dropUnreached_25 fX0_56 rfl (by first | assumption | exact va_up_self _ _ _ | exact (va_up_ne _ _ (by omega)).trans (by assumption) | exact congrArg Prod.fst (va_up_self _ _ _) | exact (congrArg Prod.fst (va_up_ne _ _ (by omega))).trans (by assumption) | exact (congrFun (va_up_ne _ _ (by omega)) _).trans (by assumption) | exact (va_up_ne _ _ (by omega)).trans (va_up_self _ _ _) | exact (va_up_ne _ _ (by omega)).trans ((va_up_ne _ _ (by omega)).trans (by assumption)) | exact (congrArg Prod.fst ((va_up_ne _ _ (by omega)).trans (va_up_ne _ _ (by omega)))).trans (by assumption) | exact (congrFun ((va_up_ne _ _ (by omega)).trans (va_up_ne _ _ (by omega))) _).trans (by assumption) | (rw [va_up_self, va_up_ne _ _ (by omega)]; assumption)) ?_
          rw [va_up_ne _ _ (by omega), va_up_ne _ _ (by omega), hr]
          first | refine tk_icmp_neN dX0_dropUnreached_28 (by omega) (by omega) (fun h28 => ?_) (fun h28 => ?_) | refine tk_icmp_ne dX0_dropUnreached_28 (fun h28 => ?_) (fun h28 => ?_)
          · refine tk_iload2 dX0_dropUnreached_35 ?_
            first
              | exact tk_wk (by repeat' (first | exact trivial | refine ⟨Or.inl rfl, ?_⟩ | refine ⟨Or.inr rfl, ?_⟩)) (hnr h20 (cntR R w) (by rw [h28, if_pos (by omega)]))
              | exact tk_wk (by repeat' (first | exact trivial | refine ⟨Or.inl rfl, ?_⟩ | refine ⟨Or.inr rfl, ?_⟩)) (hnr h20 (if r0 < w then cntR R r0 else 0) (by by_cases e : r0 < w; rw [if_pos e, if_pos (by omega)]; rw [if_neg e, if_neg (by omega)]))
          · refine tk_iload1 dX0_dropUnreached_31 ?_
            refine tk_goto dX0_dropUnreached_32 ?_
            first
              | exact tk_wk (by repeat' (first | exact trivial | refine ⟨Or.inl rfl, ?_⟩ | refine ⟨Or.inr rfl, ?_⟩)) (hnr h20 (cntR R w) (by rw [h28, if_pos (by omega)]))
              | exact tk_wk (by repeat' (first | exact trivial | refine ⟨Or.inl rfl, ?_⟩ | refine ⟨Or.inr rfl, ?_⟩)) (hnr h20 (if r0 < w then cntR R r0 else 0) (by by_cases e : r0 < w; rw [if_pos e, if_pos (by omega)]; rw [if_neg e, if_neg (by omega)]))
  refine tkM.of (ls := [some _, none, none, none, none]) (by decide +kernel) (by decide +kernel) (Nat.le_of_ble_eq_true rfl) rfl ?_
  refine tk_iconst dX0_dropUnreached_0 kc_iconst_0 ?_
  refine tk_istore1 dX0_dropUnreached_1 rfl ?_
  refine tk_iconst dX0_dropUnreached_2 kc_iconst_0 ?_
  refine tk_istore2 dX0_dropUnreached_3 rfl ?_
  refine tk_iconst dX0_dropUnreached_4 kc_iconst_0 ?_
  refine tk_istore3 dX0_dropUnreached_5 rfl ?_
  have q := loop N 0 (I 29) (I 30) (by omega) (fun u hu => by omega) (fun _ _ => rfl) (fun _ _ _ _ _ => rfl)
  rw [tk_up_id, tk_up_id] at q
  exact tk_wk (by repeat' (first | exact trivial | refine ⟨Or.inl rfl, ?_⟩ | refine ⟨Or.inr rfl, ?_⟩)) q
theorem c_gather {p N : Nat} {c : Nat → Nat → Nat} {kd : Nat → Nat} (hD : dObj T P) (hp : p < 4) (hN : I 28 2 = nI N) (hN2 : N ≤ 128) (hc : ∀ w, w < N → I 30 (128 * p + w) = nI (c p w) ∧ c p w < 256) (hk : ∀ w, w < N → I 31 w = nI (kd w) ∧ kd w < 128) : tkM G mX0_gather 1 0 0 [vR 28, vI (nI p)] (n, T, I, L, P) (tkF none (n, T, I, va_up (va_up L 34 (tkcp (L 34) (fun x => cOr kLo c RT kd p x N) 256)) 35 (tkcp (L 35) (fun x => cOr kHi c RT kd p x N) 256), P)) := by
  have hD' := hD
  obtain ⟨d1, d2, d3, d4, d5, d6, d7, d8, d9, d10, d11, d12, d13, d14, d15⟩ := hD'
  refine tkM.of (ls := [some _, some _, none]) (by decide +kernel) (by decide +kernel) (Nat.le_of_ble_eq_true rfl) rfl ?_
  refine tk_aload0 dX0_gather_0 ?_
  refine tk_getP dX0_gather_1 fX0_27 rfl (by first | assumption | exact va_up_self _ _ _ | exact (va_up_ne _ _ (by omega)).trans (by assumption) | exact congrArg Prod.fst (va_up_self _ _ _) | exact (congrArg Prod.fst (va_up_ne _ _ (by omega))).trans (by assumption) | exact (congrFun (va_up_ne _ _ (by omega)) _).trans (by assumption) | exact (va_up_ne _ _ (by omega)).trans (va_up_self _ _ _) | exact (va_up_ne _ _ (by omega)).trans ((va_up_ne _ _ (by omega)).trans (by assumption)) | exact (congrArg Prod.fst ((va_up_ne _ _ (by omega)).trans (va_up_ne _ _ (by omega)))).trans (by assumption) | exact (congrFun ((va_up_ne _ _ (by omega)).trans (va_up_ne _ _ (by omega))) _).trans (by assumption) | (rw [va_up_self, va_up_ne _ _ (by omega)]; assumption)) (by first | assumption | exact va_up_self _ _ _ | exact (va_up_ne _ _ (by omega)).trans (by assumption) | exact congrArg Prod.fst (va_up_self _ _ _) | exact (congrArg Prod.fst (va_up_ne _ _ (by omega))).trans (by assumption) | exact (congrFun (va_up_ne _ _ (by omega)) _).trans (by assumption) | exact (va_up_ne _ _ (by omega)).trans (va_up_self _ _ _) | exact (va_up_ne _ _ (by omega)).trans ((va_up_ne _ _ (by omega)).trans (by assumption)) | exact (congrArg Prod.fst ((va_up_ne _ _ (by omega)).trans (va_up_ne _ _ (by omega)))).trans (by assumption) | exact (congrFun ((va_up_ne _ _ (by omega)).trans (va_up_ne _ _ (by omega))) _).trans (by assumption) | (rw [va_up_self, va_up_ne _ _ (by omega)]; assumption)) ?_
  refine tk_lconst dX0_gather_4 (v := 0) (by decide) ?_
  refine tk_callS2y dX0_gather_5 kX0_98 (j_fillL d14 (by omega)) (Nat.le_of_ble_eq_true rfl) (by omega) ?_
  refine tk_aload0 dX0_gather_8 ?_
  refine tk_getP dX0_gather_9 fX0_31 rfl (by first | assumption | exact va_up_self _ _ _ | exact (va_up_ne _ _ (by omega)).trans (by assumption) | exact congrArg Prod.fst (va_up_self _ _ _) | exact (congrArg Prod.fst (va_up_ne _ _ (by omega))).trans (by assumption) | exact (congrFun (va_up_ne _ _ (by omega)) _).trans (by assumption) | exact (va_up_ne _ _ (by omega)).trans (va_up_self _ _ _) | exact (va_up_ne _ _ (by omega)).trans ((va_up_ne _ _ (by omega)).trans (by assumption)) | exact (congrArg Prod.fst ((va_up_ne _ _ (by omega)).trans (va_up_ne _ _ (by omega)))).trans (by assumption) | exact (congrFun ((va_up_ne _ _ (by omega)).trans (va_up_ne _ _ (by omega))) _).trans (by assumption) | (rw [va_up_self, va_up_ne _ _ (by omega)]; assumption)) (by first | assumption | exact va_up_self _ _ _ | exact (va_up_ne _ _ (by omega)).trans (by assumption) | exact congrArg Prod.fst (va_up_self _ _ _) | exact (congrArg Prod.fst (va_up_ne _ _ (by omega))).trans (by assumption) | exact (congrFun (va_up_ne _ _ (by omega)) _).trans (by assumption) | exact (va_up_ne _ _ (by omega)).trans (va_up_self _ _ _) | exact (va_up_ne _ _ (by omega)).trans ((va_up_ne _ _ (by omega)).trans (by assumption)) | exact (congrArg Prod.fst ((va_up_ne _ _ (by omega)).trans (va_up_ne _ _ (by omega)))).trans (by assumption) | exact (congrFun ((va_up_ne _ _ (by omega)).trans (va_up_ne _ _ (by omega))) _).trans (by assumption) | (rw [va_up_self, va_up_ne _ _ (by omega)]; assumption)) ?_
  refine tk_lconst dX0_gather_12 (v := 0) (by decide) ?_
  refine tk_callS2y dX0_gather_13 kX0_98 (j_fillL d15 (by omega)) (Nat.le_of_ble_eq_true rfl) (by omega) ?_
  refine tk_iconst dX0_gather_16 kc_iconst_0 ?_
  refine tk_istore2 dX0_gather_17 rfl ?_
  refine tk_fr 0 N (fun i => [some (vR 28), some (vI (nI p)), some (vI (nI i))]) (fun i => (n, T, I, va_up (va_up L 34 (tkcp (L 34) (fun x => cOr kLo c RT kd p x i) 256)) 35 (tkcp (L 35) (fun x => cOr kHi c RT kd p x i) 256), P)) (by omega) (by repeat' (first | exact trivial | refine ⟨Or.inl rfl, ?_⟩ | refine ⟨Or.inr rfl, ?_⟩)) (by rw [va_up_ne _ _ (show ¬ 35 = 34 by omega)]; rfl) ?_ ?_
  · refine tk_iload2 dX0_gather_18 ?_
    refine tk_aload0 dX0_gather_19 ?_
    refine tk_getI dX0_gather_20 fX0_52 rfl (by first | assumption | exact va_up_self _ _ _ | exact (va_up_ne _ _ (by omega)).trans (by assumption) | exact congrArg Prod.fst (va_up_self _ _ _) | exact (congrArg Prod.fst (va_up_ne _ _ (by omega))).trans (by assumption) | exact (congrFun (va_up_ne _ _ (by omega)) _).trans (by assumption) | exact (va_up_ne _ _ (by omega)).trans (va_up_self _ _ _) | exact (va_up_ne _ _ (by omega)).trans ((va_up_ne _ _ (by omega)).trans (by assumption)) | exact (congrArg Prod.fst ((va_up_ne _ _ (by omega)).trans (va_up_ne _ _ (by omega)))).trans (by assumption) | exact (congrFun ((va_up_ne _ _ (by omega)).trans (va_up_ne _ _ (by omega))) _).trans (by assumption) | (rw [va_up_self, va_up_ne _ _ (by omega)]; assumption)) ?_
    rw [hN]
    first | refine tk_icmp_geN dX0_gather_23 (by omega) (by omega) (fun h23 => ?_) (fun h23 => ?_) | refine tk_jcmp_ge dX0_gather_23 (fun h23 => ?_) (fun h23 => ?_)
    · refine tk_return dX0_gather_93 rfl ?_
      exact ⟨rfl, rfl⟩
    · exfalso; omega
  · intro i _ hi k
    obtain ⟨cl1, cl2⟩ := hc i hi
    obtain ⟨k1, k2⟩ := hk i hi
    refine tk_iload2 dX0_gather_18 ?_
    refine tk_aload0 dX0_gather_19 ?_
    refine tk_getI dX0_gather_20 fX0_52 rfl (by first | assumption | exact va_up_self _ _ _ | exact (va_up_ne _ _ (by omega)).trans (by assumption) | exact congrArg Prod.fst (va_up_self _ _ _) | exact (congrArg Prod.fst (va_up_ne _ _ (by omega))).trans (by assumption) | exact (congrFun (va_up_ne _ _ (by omega)) _).trans (by assumption) | exact (va_up_ne _ _ (by omega)).trans (va_up_self _ _ _) | exact (va_up_ne _ _ (by omega)).trans ((va_up_ne _ _ (by omega)).trans (by assumption)) | exact (congrArg Prod.fst ((va_up_ne _ _ (by omega)).trans (va_up_ne _ _ (by omega)))).trans (by assumption) | exact (congrFun ((va_up_ne _ _ (by omega)).trans (va_up_ne _ _ (by omega))) _).trans (by assumption) | (rw [va_up_self, va_up_ne _ _ (by omega)]; assumption)) ?_
    rw [hN]
    first | refine tk_icmp_geN dX0_gather_23 (by omega) (by omega) (fun h23 => ?_) (fun h23 => ?_) | refine tk_jcmp_ge dX0_gather_23 (fun h23 => ?_) (fun h23 => ?_)
    · exfalso; omega
    · refine tk_aload0 dX0_gather_26 ?_
      refine tk_getP dX0_gather_27 fX0_18 rfl (by first | assumption | exact va_up_self _ _ _ | exact (va_up_ne _ _ (by omega)).trans (by assumption) | exact congrArg Prod.fst (va_up_self _ _ _) | exact (congrArg Prod.fst (va_up_ne _ _ (by omega))).trans (by assumption) | exact (congrFun (va_up_ne _ _ (by omega)) _).trans (by assumption) | exact (va_up_ne _ _ (by omega)).trans (va_up_self _ _ _) | exact (va_up_ne _ _ (by omega)).trans ((va_up_ne _ _ (by omega)).trans (by assumption)) | exact (congrArg Prod.fst ((va_up_ne _ _ (by omega)).trans (va_up_ne _ _ (by omega)))).trans (by assumption) | exact (congrFun ((va_up_ne _ _ (by omega)).trans (va_up_ne _ _ (by omega))) _).trans (by assumption) | (rw [va_up_self, va_up_ne _ _ (by omega)]; assumption)) (by first | assumption | exact va_up_self _ _ _ | exact (va_up_ne _ _ (by omega)).trans (by assumption) | exact congrArg Prod.fst (va_up_self _ _ _) | exact (congrArg Prod.fst (va_up_ne _ _ (by omega))).trans (by assumption) | exact (congrFun (va_up_ne _ _ (by omega)) _).trans (by assumption) | exact (va_up_ne _ _ (by omega)).trans (va_up_self _ _ _) | exact (va_up_ne _ _ (by omega)).trans ((va_up_ne _ _ (by omega)).trans (by assumption)) | exact (congrArg Prod.fst ((va_up_ne _ _ (by omega)).trans (va_up_ne _ _ (by omega)))).trans (by assumption) | exact (congrFun ((va_up_ne _ _ (by omega)).trans (va_up_ne _ _ (by omega))) _).trans (by assumption) | (rw [va_up_self, va_up_ne _ _ (by omega)]; assumption)) ?_
      refine tk_iload2 dX0_gather_30 ?_
      refine tk_iald dX0_gather_31 (by first | assumption | exact va_up_self _ _ _ | exact (va_up_ne _ _ (by omega)).trans (by assumption) | exact congrArg Prod.fst (va_up_self _ _ _) | exact (congrArg Prod.fst (va_up_ne _ _ (by omega))).trans (by assumption) | exact (congrFun (va_up_ne _ _ (by omega)) _).trans (by assumption) | exact (va_up_ne _ _ (by omega)).trans (va_up_self _ _ _) | exact (va_up_ne _ _ (by omega)).trans ((va_up_ne _ _ (by omega)).trans (by assumption)) | exact (congrArg Prod.fst ((va_up_ne _ _ (by omega)).trans (va_up_ne _ _ (by omega)))).trans (by assumption) | exact (congrFun ((va_up_ne _ _ (by omega)).trans (va_up_ne _ _ (by omega))) _).trans (by assumption) | (rw [va_up_self, va_up_ne _ _ (by omega)]; assumption)) (by omega) (by omega) ?_
      rw [k1]
      refine tk_bipush dX0_gather_32 kc_bipush_64 ?_
      first | refine tk_icmp_geN dX0_gather_34 (by omega) (by omega) (fun h34 => ?_) (fun h34 => ?_) | refine tk_jcmp_ge dX0_gather_34 (fun h34 => ?_) (fun h34 => ?_)
      · refine tk_aload0 dX0_gather_62 ?_
        refine tk_getP dX0_gather_63 fX0_31 rfl (by first | assumption | exact va_up_self _ _ _ | exact (va_up_ne _ _ (by omega)).trans (by assumption) | exact congrArg Prod.fst (va_up_self _ _ _) | exact (congrArg Prod.fst (va_up_ne _ _ (by omega))).trans (by assumption) | exact (congrFun (va_up_ne _ _ (by omega)) _).trans (by assumption) | exact (va_up_ne _ _ (by omega)).trans (va_up_self _ _ _) | exact (va_up_ne _ _ (by omega)).trans ((va_up_ne _ _ (by omega)).trans (by assumption)) | exact (congrArg Prod.fst ((va_up_ne _ _ (by omega)).trans (va_up_ne _ _ (by omega)))).trans (by assumption) | exact (congrFun ((va_up_ne _ _ (by omega)).trans (va_up_ne _ _ (by omega))) _).trans (by assumption) | (rw [va_up_self, va_up_ne _ _ (by omega)]; assumption)) (by first | assumption | exact va_up_self _ _ _ | exact (va_up_ne _ _ (by omega)).trans (by assumption) | exact congrArg Prod.fst (va_up_self _ _ _) | exact (congrArg Prod.fst (va_up_ne _ _ (by omega))).trans (by assumption) | exact (congrFun (va_up_ne _ _ (by omega)) _).trans (by assumption) | exact (va_up_ne _ _ (by omega)).trans (va_up_self _ _ _) | exact (va_up_ne _ _ (by omega)).trans ((va_up_ne _ _ (by omega)).trans (by assumption)) | exact (congrArg Prod.fst ((va_up_ne _ _ (by omega)).trans (va_up_ne _ _ (by omega)))).trans (by assumption) | exact (congrFun ((va_up_ne _ _ (by omega)).trans (va_up_ne _ _ (by omega))) _).trans (by assumption) | (rw [va_up_self, va_up_ne _ _ (by omega)]; assumption)) ?_
        refine tk_aload0 dX0_gather_66 ?_
        refine tk_iload1 dX0_gather_67 ?_
        refine tk_iload2 dX0_gather_68 ?_
        refine tk_callV2z dX0_gather_69 kX0_104 (by first | assumption | exact va_up_self _ _ _ | exact (va_up_ne _ _ (by omega)).trans (by assumption) | exact congrArg Prod.fst (va_up_self _ _ _) | exact (congrArg Prod.fst (va_up_ne _ _ (by omega))).trans (by assumption) | exact (congrFun (va_up_ne _ _ (by omega)) _).trans (by assumption) | exact (va_up_ne _ _ (by omega)).trans (va_up_self _ _ _) | exact (va_up_ne _ _ (by omega)).trans ((va_up_ne _ _ (by omega)).trans (by assumption)) | exact (congrArg Prod.fst ((va_up_ne _ _ (by omega)).trans (va_up_ne _ _ (by omega)))).trans (by assumption) | exact (congrFun ((va_up_ne _ _ (by omega)).trans (va_up_ne _ _ (by omega))) _).trans (by assumption) | (rw [va_up_self, va_up_ne _ _ (by omega)]; assumption)) (c_label hD (by omega) (by omega)) (Nat.le_of_ble_eq_true rfl) (by omega) ?_
        rw [cl1]
        first | refine tk_dup2 dX0_gather_72 rfl rfl ?_ | refine tk_dup2L dX0_gather_72 ?_
        refine tk_lald dX0_gather_73 (by first | assumption | exact va_up_self _ _ _ | exact (va_up_ne _ _ (by omega)).trans (by assumption) | exact congrArg Prod.fst (va_up_self _ _ _) | exact (congrArg Prod.fst (va_up_ne _ _ (by omega))).trans (by assumption) | exact (congrFun (va_up_ne _ _ (by omega)) _).trans (by assumption) | exact (va_up_ne _ _ (by omega)).trans (va_up_self _ _ _) | exact (va_up_ne _ _ (by omega)).trans ((va_up_ne _ _ (by omega)).trans (by assumption)) | exact (congrArg Prod.fst ((va_up_ne _ _ (by omega)).trans (va_up_ne _ _ (by omega)))).trans (by assumption) | exact (congrFun ((va_up_ne _ _ (by omega)).trans (va_up_ne _ _ (by omega))) _).trans (by assumption) | (rw [va_up_self, va_up_ne _ _ (by omega)]; assumption)) (by omega) (by omega) ?_
        rw [va_up_self, tkcp_lt cl2]
        refine tk_lconst dX0_gather_74 (v := 1) (by decide) ?_
        refine tk_aload0 dX0_gather_75 ?_
        refine tk_getP dX0_gather_76 fX0_18 rfl (by first | assumption | exact va_up_self _ _ _ | exact (va_up_ne _ _ (by omega)).trans (by assumption) | exact congrArg Prod.fst (va_up_self _ _ _) | exact (congrArg Prod.fst (va_up_ne _ _ (by omega))).trans (by assumption) | exact (congrFun (va_up_ne _ _ (by omega)) _).trans (by assumption) | exact (va_up_ne _ _ (by omega)).trans (va_up_self _ _ _) | exact (va_up_ne _ _ (by omega)).trans ((va_up_ne _ _ (by omega)).trans (by assumption)) | exact (congrArg Prod.fst ((va_up_ne _ _ (by omega)).trans (va_up_ne _ _ (by omega)))).trans (by assumption) | exact (congrFun ((va_up_ne _ _ (by omega)).trans (va_up_ne _ _ (by omega))) _).trans (by assumption) | (rw [va_up_self, va_up_ne _ _ (by omega)]; assumption)) (by first | assumption | exact va_up_self _ _ _ | exact (va_up_ne _ _ (by omega)).trans (by assumption) | exact congrArg Prod.fst (va_up_self _ _ _) | exact (congrArg Prod.fst (va_up_ne _ _ (by omega))).trans (by assumption) | exact (congrFun (va_up_ne _ _ (by omega)) _).trans (by assumption) | exact (va_up_ne _ _ (by omega)).trans (va_up_self _ _ _) | exact (va_up_ne _ _ (by omega)).trans ((va_up_ne _ _ (by omega)).trans (by assumption)) | exact (congrArg Prod.fst ((va_up_ne _ _ (by omega)).trans (va_up_ne _ _ (by omega)))).trans (by assumption) | exact (congrFun ((va_up_ne _ _ (by omega)).trans (va_up_ne _ _ (by omega))) _).trans (by assumption) | (rw [va_up_self, va_up_ne _ _ (by omega)]; assumption)) ?_
        refine tk_iload2 dX0_gather_79 ?_
        refine tk_iald dX0_gather_80 (by first | assumption | exact va_up_self _ _ _ | exact (va_up_ne _ _ (by omega)).trans (by assumption) | exact congrArg Prod.fst (va_up_self _ _ _) | exact (congrArg Prod.fst (va_up_ne _ _ (by omega))).trans (by assumption) | exact (congrFun (va_up_ne _ _ (by omega)) _).trans (by assumption) | exact (va_up_ne _ _ (by omega)).trans (va_up_self _ _ _) | exact (va_up_ne _ _ (by omega)).trans ((va_up_ne _ _ (by omega)).trans (by assumption)) | exact (congrArg Prod.fst ((va_up_ne _ _ (by omega)).trans (va_up_ne _ _ (by omega)))).trans (by assumption) | exact (congrFun ((va_up_ne _ _ (by omega)).trans (va_up_ne _ _ (by omega))) _).trans (by assumption) | (rw [va_up_self, va_up_ne _ _ (by omega)]; assumption)) (by omega) (by omega) ?_
        rw [k1]
        refine tk_bipush dX0_gather_81 kc_bipush_64 ?_
        first | refine tk_isubN dX0_gather_83 (by omega) ?_ | refine tk_isub dX0_gather_83 ?_
        refine tk_lshl dX0_gather_84 ?_
        refine tk_lor dX0_gather_85 ?_
        refine tk_last dX0_gather_86 (by first | assumption | exact va_up_self _ _ _ | exact (va_up_ne _ _ (by omega)).trans (by assumption) | exact congrArg Prod.fst (va_up_self _ _ _) | exact (congrArg Prod.fst (va_up_ne _ _ (by omega))).trans (by assumption) | exact (congrFun (va_up_ne _ _ (by omega)) _).trans (by assumption) | exact (va_up_ne _ _ (by omega)).trans (va_up_self _ _ _) | exact (va_up_ne _ _ (by omega)).trans ((va_up_ne _ _ (by omega)).trans (by assumption)) | exact (congrArg Prod.fst ((va_up_ne _ _ (by omega)).trans (va_up_ne _ _ (by omega)))).trans (by assumption) | exact (congrFun ((va_up_ne _ _ (by omega)).trans (va_up_ne _ _ (by omega))) _).trans (by assumption) | (rw [va_up_self, va_up_ne _ _ (by omega)]; assumption)) (by omega) (by omega) ?_
        simp only [va_up_self, bx_uu, tk_une, tk_usrt, not_false_eq_true, Nat.reduceEqDiff, Nat.reduceLT, Nat.reduceAdd, Nat.reduceMul, Nat.reduceLeDiff, reduceCtorEq]
        rw [show jshl 1 (nI (kd i - 64)) = kHi (kd i) from (if_neg (by omega)).symm, cOr_s cl2, cOr_k (b := kLo) (i := i) (if_neg (by omega))]
        first | refine tk_iinc2 dX0_gather_87 (kc_inc _) rfl ?_ | refine tk_iinc2 dX0_gather_87 rfl rfl ?_
        refine tk_goto dX0_gather_90 ?_
        exact k _ (by repeat' (first | exact trivial | refine ⟨Or.inl rfl, ?_⟩ | refine ⟨Or.inr rfl, ?_⟩))
      · refine tk_aload0 dX0_gather_37 ?_
        refine tk_getP dX0_gather_38 fX0_27 rfl (by first | assumption | exact va_up_self _ _ _ | exact (va_up_ne _ _ (by omega)).trans (by assumption) | exact congrArg Prod.fst (va_up_self _ _ _) | exact (congrArg Prod.fst (va_up_ne _ _ (by omega))).trans (by assumption) | exact (congrFun (va_up_ne _ _ (by omega)) _).trans (by assumption) | exact (va_up_ne _ _ (by omega)).trans (va_up_self _ _ _) | exact (va_up_ne _ _ (by omega)).trans ((va_up_ne _ _ (by omega)).trans (by assumption)) | exact (congrArg Prod.fst ((va_up_ne _ _ (by omega)).trans (va_up_ne _ _ (by omega)))).trans (by assumption) | exact (congrFun ((va_up_ne _ _ (by omega)).trans (va_up_ne _ _ (by omega))) _).trans (by assumption) | (rw [va_up_self, va_up_ne _ _ (by omega)]; assumption)) (by first | assumption | exact va_up_self _ _ _ | exact (va_up_ne _ _ (by omega)).trans (by assumption) | exact congrArg Prod.fst (va_up_self _ _ _) | exact (congrArg Prod.fst (va_up_ne _ _ (by omega))).trans (by assumption) | exact (congrFun (va_up_ne _ _ (by omega)) _).trans (by assumption) | exact (va_up_ne _ _ (by omega)).trans (va_up_self _ _ _) | exact (va_up_ne _ _ (by omega)).trans ((va_up_ne _ _ (by omega)).trans (by assumption)) | exact (congrArg Prod.fst ((va_up_ne _ _ (by omega)).trans (va_up_ne _ _ (by omega)))).trans (by assumption) | exact (congrFun ((va_up_ne _ _ (by omega)).trans (va_up_ne _ _ (by omega))) _).trans (by assumption) | (rw [va_up_self, va_up_ne _ _ (by omega)]; assumption)) ?_
        refine tk_aload0 dX0_gather_41 ?_
        refine tk_iload1 dX0_gather_42 ?_
        refine tk_iload2 dX0_gather_43 ?_
        refine tk_callV2z dX0_gather_44 kX0_104 (by first | assumption | exact va_up_self _ _ _ | exact (va_up_ne _ _ (by omega)).trans (by assumption) | exact congrArg Prod.fst (va_up_self _ _ _) | exact (congrArg Prod.fst (va_up_ne _ _ (by omega))).trans (by assumption) | exact (congrFun (va_up_ne _ _ (by omega)) _).trans (by assumption) | exact (va_up_ne _ _ (by omega)).trans (va_up_self _ _ _) | exact (va_up_ne _ _ (by omega)).trans ((va_up_ne _ _ (by omega)).trans (by assumption)) | exact (congrArg Prod.fst ((va_up_ne _ _ (by omega)).trans (va_up_ne _ _ (by omega)))).trans (by assumption) | exact (congrFun ((va_up_ne _ _ (by omega)).trans (va_up_ne _ _ (by omega))) _).trans (by assumption) | (rw [va_up_self, va_up_ne _ _ (by omega)]; assumption)) (c_label hD (by omega) (by omega)) (Nat.le_of_ble_eq_true rfl) (by omega) ?_
        rw [cl1]
        first | refine tk_dup2 dX0_gather_47 rfl rfl ?_ | refine tk_dup2L dX0_gather_47 ?_
        refine tk_lald dX0_gather_48 (by first | assumption | exact va_up_self _ _ _ | exact (va_up_ne _ _ (by omega)).trans (by assumption) | exact congrArg Prod.fst (va_up_self _ _ _) | exact (congrArg Prod.fst (va_up_ne _ _ (by omega))).trans (by assumption) | exact (congrFun (va_up_ne _ _ (by omega)) _).trans (by assumption) | exact (va_up_ne _ _ (by omega)).trans (va_up_self _ _ _) | exact (va_up_ne _ _ (by omega)).trans ((va_up_ne _ _ (by omega)).trans (by assumption)) | exact (congrArg Prod.fst ((va_up_ne _ _ (by omega)).trans (va_up_ne _ _ (by omega)))).trans (by assumption) | exact (congrFun ((va_up_ne _ _ (by omega)).trans (va_up_ne _ _ (by omega))) _).trans (by assumption) | (rw [va_up_self, va_up_ne _ _ (by omega)]; assumption)) (by omega) (by omega) ?_
        rw [va_up_ne _ _ (by omega), va_up_self, tkcp_lt cl2]
        refine tk_lconst dX0_gather_49 (v := 1) (by decide) ?_
        refine tk_aload0 dX0_gather_50 ?_
        refine tk_getP dX0_gather_51 fX0_18 rfl (by first | assumption | exact va_up_self _ _ _ | exact (va_up_ne _ _ (by omega)).trans (by assumption) | exact congrArg Prod.fst (va_up_self _ _ _) | exact (congrArg Prod.fst (va_up_ne _ _ (by omega))).trans (by assumption) | exact (congrFun (va_up_ne _ _ (by omega)) _).trans (by assumption) | exact (va_up_ne _ _ (by omega)).trans (va_up_self _ _ _) | exact (va_up_ne _ _ (by omega)).trans ((va_up_ne _ _ (by omega)).trans (by assumption)) | exact (congrArg Prod.fst ((va_up_ne _ _ (by omega)).trans (va_up_ne _ _ (by omega)))).trans (by assumption) | exact (congrFun ((va_up_ne _ _ (by omega)).trans (va_up_ne _ _ (by omega))) _).trans (by assumption) | (rw [va_up_self, va_up_ne _ _ (by omega)]; assumption)) (by first | assumption | exact va_up_self _ _ _ | exact (va_up_ne _ _ (by omega)).trans (by assumption) | exact congrArg Prod.fst (va_up_self _ _ _) | exact (congrArg Prod.fst (va_up_ne _ _ (by omega))).trans (by assumption) | exact (congrFun (va_up_ne _ _ (by omega)) _).trans (by assumption) | exact (va_up_ne _ _ (by omega)).trans (va_up_self _ _ _) | exact (va_up_ne _ _ (by omega)).trans ((va_up_ne _ _ (by omega)).trans (by assumption)) | exact (congrArg Prod.fst ((va_up_ne _ _ (by omega)).trans (va_up_ne _ _ (by omega)))).trans (by assumption) | exact (congrFun ((va_up_ne _ _ (by omega)).trans (va_up_ne _ _ (by omega))) _).trans (by assumption) | (rw [va_up_self, va_up_ne _ _ (by omega)]; assumption)) ?_
        refine tk_iload2 dX0_gather_54 ?_
        refine tk_iald dX0_gather_55 (by first | assumption | exact va_up_self _ _ _ | exact (va_up_ne _ _ (by omega)).trans (by assumption) | exact congrArg Prod.fst (va_up_self _ _ _) | exact (congrArg Prod.fst (va_up_ne _ _ (by omega))).trans (by assumption) | exact (congrFun (va_up_ne _ _ (by omega)) _).trans (by assumption) | exact (va_up_ne _ _ (by omega)).trans (va_up_self _ _ _) | exact (va_up_ne _ _ (by omega)).trans ((va_up_ne _ _ (by omega)).trans (by assumption)) | exact (congrArg Prod.fst ((va_up_ne _ _ (by omega)).trans (va_up_ne _ _ (by omega)))).trans (by assumption) | exact (congrFun ((va_up_ne _ _ (by omega)).trans (va_up_ne _ _ (by omega))) _).trans (by assumption) | (rw [va_up_self, va_up_ne _ _ (by omega)]; assumption)) (by omega) (by omega) ?_
        rw [k1]
        refine tk_lshl dX0_gather_56 ?_
        refine tk_lor dX0_gather_57 ?_
        refine tk_last dX0_gather_58 (by first | assumption | exact va_up_self _ _ _ | exact (va_up_ne _ _ (by omega)).trans (by assumption) | exact congrArg Prod.fst (va_up_self _ _ _) | exact (congrArg Prod.fst (va_up_ne _ _ (by omega))).trans (by assumption) | exact (congrFun (va_up_ne _ _ (by omega)) _).trans (by assumption) | exact (va_up_ne _ _ (by omega)).trans (va_up_self _ _ _) | exact (va_up_ne _ _ (by omega)).trans ((va_up_ne _ _ (by omega)).trans (by assumption)) | exact (congrArg Prod.fst ((va_up_ne _ _ (by omega)).trans (va_up_ne _ _ (by omega)))).trans (by assumption) | exact (congrFun ((va_up_ne _ _ (by omega)).trans (va_up_ne _ _ (by omega))) _).trans (by assumption) | (rw [va_up_self, va_up_ne _ _ (by omega)]; assumption)) (by omega) (by omega) ?_
        simp only [va_up_self, bx_uu, tk_une, tk_usrt, not_false_eq_true, Nat.reduceEqDiff, Nat.reduceLT, Nat.reduceAdd, Nat.reduceMul, Nat.reduceLeDiff, reduceCtorEq]
        rw [show jshl 1 (nI (kd i)) = kLo (kd i) from (if_pos h34).symm, cOr_s cl2, cOr_k (b := kHi) (i := i) (if_pos h34)]
        refine tk_goto dX0_gather_59 ?_
        first | refine tk_iinc2 dX0_gather_87 (kc_inc _) rfl ?_ | refine tk_iinc2 dX0_gather_87 rfl rfl ?_
        refine tk_goto dX0_gather_90 ?_
        exact k _ (by repeat' (first | exact trivial | refine ⟨Or.inl rfl, ?_⟩ | refine ⟨Or.inr rfl, ?_⟩))
end DRAFT3
