/-! ===== the class: draft, what is reached ===== -/
def dObj (T : Nat → Nat × Nat) (P : Nat → Nat → Option Nat) : Prop := (T 28).1 = 1 ∧ P 28 5 = some 29 ∧ P 28 6 = some 30 ∧ P 28 7 = some 31 ∧ P 28 8 = some 32 ∧ P 28 9 = some 33 ∧ P 28 10 = some 34 ∧ P 28 11 = some 35 ∧ T 29 = (20, 128) ∧ T 30 = (20, 512) ∧ T 31 = (20, 128) ∧ T 32 = (20, 128) ∧ T 33 = (20, 128) ∧ T 34 = (21, 256) ∧ T 35 = (21, 256)
def b64 (b : Bool) : Int64 := if b then 1 else 0
theorem b64_or (a b : Bool) : b64 a ||| (tkb b).toInt64 = b64 (a || b) := by cases a <;> cases b <;> decide +kernel
theorem b64_z (a : Bool) : b64 a = 0 ↔ a = false := by cases a <;> decide +kernel
theorem tkb_z (a : Bool) : tkb a = 0 ↔ a = false := tkb_eq0 a
theorem kk_id (f : Nat → Int32) {N i : Nat} {a b : Nat → Int32} (h : a i = b i) : tkcp f (fun w => if w < i then a w else b w) N = tkcp f (fun w => if w < i + 1 then a w else b w) N := by
  congr 1
  funext w
  by_cases e : w = i
  · subst e; rw [if_neg (by omega), if_pos (by omega), h]
  · by_cases e2 : w < i
    · rw [if_pos e2, if_pos (by omega)]
    · rw [if_neg e2, if_neg (by omega)]
section DRAFT
variable {G : tkG} {n : Nat} {T : Nat → Nat × Nat} {I : Nat → Nat → Int32} {L : Nat → Nat → Int64} {P : Nat → Nat → Option Nat}
theorem c_label {p w : Nat} (hD : dObj T P) (hp : p < 4) (hw : w < 128) : tkM G mX0_label 0 0 0 [vR 28, vI (nI p), vI (nI w)] (n, T, I, L, P) (tkF (some (vI (I 30 (128 * p + w)))) (n, T, I, L, P)) := by
  obtain ⟨d1, d2, d3, d4, d5, d6, d7, d8, d9, d10, d11, d12, d13, d14, d15⟩ := hD
  refine tkM.of (ls := [some _, some _, some _]) (by decide +kernel) (by decide +kernel) (Nat.le_of_ble_eq_true rfl) rfl ?_
  refine tk_aload0 dX0_label_0 ?_
  refine tk_getP dX0_label_1 fX0_15 rfl (by first | assumption | exact va_up_self _ _ _ | exact (va_up_ne _ _ (by omega)).trans (by assumption) | exact congrArg Prod.fst (va_up_self _ _ _) | exact (congrArg Prod.fst (va_up_ne _ _ (by omega))).trans (by assumption) | exact (congrFun (va_up_ne _ _ (by omega)) _).trans (by assumption) | exact (va_up_ne _ _ (by omega)).trans (va_up_self _ _ _) | exact (va_up_ne _ _ (by omega)).trans ((va_up_ne _ _ (by omega)).trans (by assumption)) | exact (congrArg Prod.fst ((va_up_ne _ _ (by omega)).trans (va_up_ne _ _ (by omega)))).trans (by assumption) | exact (congrFun ((va_up_ne _ _ (by omega)).trans (va_up_ne _ _ (by omega))) _).trans (by assumption) | (rw [va_up_self, va_up_ne _ _ (by omega)]; assumption)) (by first | assumption | exact va_up_self _ _ _ | exact (va_up_ne _ _ (by omega)).trans (by assumption) | exact congrArg Prod.fst (va_up_self _ _ _) | exact (congrArg Prod.fst (va_up_ne _ _ (by omega))).trans (by assumption) | exact (congrFun (va_up_ne _ _ (by omega)) _).trans (by assumption) | exact (va_up_ne _ _ (by omega)).trans (va_up_self _ _ _) | exact (va_up_ne _ _ (by omega)).trans ((va_up_ne _ _ (by omega)).trans (by assumption)) | exact (congrArg Prod.fst ((va_up_ne _ _ (by omega)).trans (va_up_ne _ _ (by omega)))).trans (by assumption) | exact (congrFun ((va_up_ne _ _ (by omega)).trans (va_up_ne _ _ (by omega))) _).trans (by assumption) | (rw [va_up_self, va_up_ne _ _ (by omega)]; assumption)) ?_
  refine tk_iload1 dX0_label_4 ?_
  refine tk_sipush dX0_label_5 kc_sipush_128 ?_
  first | refine tk_imulN dX0_label_8 ?_ | refine tk_imul dX0_label_8 ?_
  refine tk_iload2 dX0_label_9 ?_
  first | refine tk_iaddN dX0_label_10 ?_ | refine tk_iadd dX0_label_10 ?_
  rw [Nat.mul_comm p 128]
  refine tk_iald dX0_label_11 (by first | assumption | exact va_up_self _ _ _ | exact (va_up_ne _ _ (by omega)).trans (by assumption) | exact congrArg Prod.fst (va_up_self _ _ _) | exact (congrArg Prod.fst (va_up_ne _ _ (by omega))).trans (by assumption) | exact (congrFun (va_up_ne _ _ (by omega)) _).trans (by assumption) | exact (va_up_ne _ _ (by omega)).trans (va_up_self _ _ _) | exact (va_up_ne _ _ (by omega)).trans ((va_up_ne _ _ (by omega)).trans (by assumption)) | exact (congrArg Prod.fst ((va_up_ne _ _ (by omega)).trans (va_up_ne _ _ (by omega)))).trans (by assumption) | exact (congrFun ((va_up_ne _ _ (by omega)).trans (va_up_ne _ _ (by omega))) _).trans (by assumption) | (rw [va_up_self, va_up_ne _ _ (by omega)]; assumption)) (by omega) (by omega) ?_
  refine tk_ireturn dX0_label_12 rfl ?_
  exact ⟨rfl, rfl⟩
theorem sp0 {f : Nat → Int32} {N : Nat} {R : Nat → Bool} {a : Nat → Int32} (h : ∀ w, w < N → f w = tkb (R w)) : tkcp f (fun w => if w < 0 then a w else tkb (R w)) N = f := by
  funext w
  unfold tkcp
  by_cases e : w < N
  · rw [if_pos e, h w e]; exact if_neg (Nat.not_lt_zero w)
  · rw [if_neg e]
theorem sp_low {f : Nat → Int64} {c : Nat → Nat → Nat} {R : Nat → Bool} {p i : Nat} (h : c p i < 256) : va_up (tkcp f (fun x => b64 (anyB (fun u => R u && decide (c p u = x)) i)) 256) (c p i) (b64 (anyB (fun u => R u && decide (c p u = c p i)) i || R i)) = tkcp f (fun x => b64 (anyB (fun u => R u && decide (c p u = x)) (i + 1))) 256 := by
  funext x
  unfold va_up tkcp
  by_cases e : x = c p i
  · subst e
    rw [if_pos rfl, if_pos h]
    show _ = b64 (anyB (fun u => R u && decide (c p u = c p i)) i || (R i && decide (c p i = c p i)))
    rw [decide_eq_true rfl, Bool.and_true]
  · rw [if_neg e]
    by_cases e2 : x < 256
    · rw [if_pos e2, if_pos e2]
      show _ = b64 (anyB (fun u => R u && decide (c p u = x)) i || (R i && decide (c p i = x)))
      rw [decide_eq_false (fun q => e q.symm), Bool.and_false, Bool.or_false]
    · rw [if_neg e2, if_neg e2]
theorem c_spread {p N : Nat} {c : Nat → Nat → Nat} {R : Nat → Bool} (hD : dObj T P) (hp : p < 4) (hN : I 28 2 = nI N) (hN2 : N ≤ 128) (hc : ∀ w, w < N → I 30 (128 * p + w) = nI (c p w) ∧ c p w < 256) (hR : ∀ w, w < N → I 33 w = tkb (R w)) : tkM G mX0_spread 1 0 0 [vR 28, vI (nI p)] (n, T, I, L, P) (fun r h => ∃ g, r = some (vI (tkb (anyB (fun j => cellA c N p R (c p j) && !R j) N))) ∧ h = (n, T, va_up I 33 (tkcp (I 33) (fun w => tkb (R w || cellA c N p R (c p w))) N), va_up L 34 g, P)) := by
  have hD' := hD
  obtain ⟨d1, d2, d3, d4, d5, d6, d7, d8, d9, d10, d11, d12, d13, d14, d15⟩ := hD'
  refine tkM.of (ls := [some _, some _, none, none]) (by decide +kernel) (by decide +kernel) (Nat.le_of_ble_eq_true rfl) rfl ?_
  refine tk_aload0 dX0_spread_0 ?_
  refine tk_getP dX0_spread_1 fX0_27 rfl (by first | assumption | exact va_up_self _ _ _ | exact (va_up_ne _ _ (by omega)).trans (by assumption) | exact congrArg Prod.fst (va_up_self _ _ _) | exact (congrArg Prod.fst (va_up_ne _ _ (by omega))).trans (by assumption) | exact (congrFun (va_up_ne _ _ (by omega)) _).trans (by assumption) | exact (va_up_ne _ _ (by omega)).trans (va_up_self _ _ _) | exact (va_up_ne _ _ (by omega)).trans ((va_up_ne _ _ (by omega)).trans (by assumption)) | exact (congrArg Prod.fst ((va_up_ne _ _ (by omega)).trans (va_up_ne _ _ (by omega)))).trans (by assumption) | exact (congrFun ((va_up_ne _ _ (by omega)).trans (va_up_ne _ _ (by omega))) _).trans (by assumption) | (rw [va_up_self, va_up_ne _ _ (by omega)]; assumption)) (by first | assumption | exact va_up_self _ _ _ | exact (va_up_ne _ _ (by omega)).trans (by assumption) | exact congrArg Prod.fst (va_up_self _ _ _) | exact (congrArg Prod.fst (va_up_ne _ _ (by omega))).trans (by assumption) | exact (congrFun (va_up_ne _ _ (by omega)) _).trans (by assumption) | exact (va_up_ne _ _ (by omega)).trans (va_up_self _ _ _) | exact (va_up_ne _ _ (by omega)).trans ((va_up_ne _ _ (by omega)).trans (by assumption)) | exact (congrArg Prod.fst ((va_up_ne _ _ (by omega)).trans (va_up_ne _ _ (by omega)))).trans (by assumption) | exact (congrFun ((va_up_ne _ _ (by omega)).trans (va_up_ne _ _ (by omega))) _).trans (by assumption) | (rw [va_up_self, va_up_ne _ _ (by omega)]; assumption)) ?_
  refine tk_lconst dX0_spread_4 (v := 0) (by decide) ?_
  refine tk_callS2y dX0_spread_5 kX0_98 (j_fillL d14 (by omega)) (Nat.le_of_ble_eq_true rfl) (by omega) ?_
  refine tk_iconst dX0_spread_8 kc_iconst_0 ?_
  refine tk_istore2 dX0_spread_9 rfl ?_
  refine tk_fr 0 N (fun i => [some (vR 28), some (vI (nI p)), some (vI (nI i)), none]) (fun i => (n, T, I, va_up L 34 (tkcp (L 34) (fun x => b64 (anyB (fun u => R u && decide (c p u = x)) i)) 256), P)) (by omega) (by repeat' (first | exact trivial | refine ⟨Or.inl rfl, ?_⟩ | refine ⟨Or.inr rfl, ?_⟩)) rfl ?_ ?_
  · refine tk_iload2 dX0_spread_10 ?_
    refine tk_aload0 dX0_spread_11 ?_
    refine tk_getI dX0_spread_12 fX0_52 rfl (by first | assumption | exact va_up_self _ _ _ | exact (va_up_ne _ _ (by omega)).trans (by assumption) | exact congrArg Prod.fst (va_up_self _ _ _) | exact (congrArg Prod.fst (va_up_ne _ _ (by omega))).trans (by assumption) | exact (congrFun (va_up_ne _ _ (by omega)) _).trans (by assumption) | exact (va_up_ne _ _ (by omega)).trans (va_up_self _ _ _) | exact (va_up_ne _ _ (by omega)).trans ((va_up_ne _ _ (by omega)).trans (by assumption)) | exact (congrArg Prod.fst ((va_up_ne _ _ (by omega)).trans (va_up_ne _ _ (by omega)))).trans (by assumption) | exact (congrFun ((va_up_ne _ _ (by omega)).trans (va_up_ne _ _ (by omega))) _).trans (by assumption) | (rw [va_up_self, va_up_ne _ _ (by omega)]; assumption)) ?_
    rw [hN]
    first | refine tk_icmp_geN dX0_spread_15 (by omega) (by omega) (fun h15 => ?_) (fun h15 => ?_) | refine tk_jcmp_ge dX0_spread_15 (fun h15 => ?_) (fun h15 => ?_)
    · refine tk_iconst dX0_spread_45 kc_iconst_0 ?_
      refine tk_istore2 dX0_spread_46 rfl ?_
      refine tk_iconst dX0_spread_47 kc_iconst_0 ?_
      refine tk_istore3 dX0_spread_48 rfl ?_
      refine tk_fr 0 N (fun i => [some (vR 28), some (vI (nI p)), some (vI (tkb (anyB (fun j => cellA c N p R (c p j) && !R j) i))), some (vI (nI i))]) (fun i => (n, T, va_up I 33 (tkcp (I 33) (fun w => if w < i then tkb (R w || cellA c N p R (c p w)) else tkb (R w)) N), va_up L 34 (tkcp (L 34) (fun x => b64 (cellA c N p R x)) 256), P)) (by omega) (by repeat' (first | exact trivial | refine ⟨Or.inl rfl, ?_⟩ | refine ⟨Or.inr rfl, ?_⟩)) (by rw [sp0 hR, tk_up_id]; rfl) ?_ ?_
      · refine tk_iload3 dX0_spread_49 ?_
        refine tk_aload0 dX0_spread_50 ?_
        refine tk_getI dX0_spread_51 fX0_52 rfl (by first | assumption | exact va_up_self _ _ _ | exact (va_up_ne _ _ (by omega)).trans (by assumption) | exact congrArg Prod.fst (va_up_self _ _ _) | exact (congrArg Prod.fst (va_up_ne _ _ (by omega))).trans (by assumption) | exact (congrFun (va_up_ne _ _ (by omega)) _).trans (by assumption) | exact (va_up_ne _ _ (by omega)).trans (va_up_self _ _ _) | exact (va_up_ne _ _ (by omega)).trans ((va_up_ne _ _ (by omega)).trans (by assumption)) | exact (congrArg Prod.fst ((va_up_ne _ _ (by omega)).trans (va_up_ne _ _ (by omega)))).trans (by assumption) | exact (congrFun ((va_up_ne _ _ (by omega)).trans (va_up_ne _ _ (by omega))) _).trans (by assumption) | (rw [va_up_self, va_up_ne _ _ (by omega)]; assumption)) ?_
        rw [va_up_ne _ _ (by omega), hN]
        first | refine tk_icmp_geN dX0_spread_54 (by omega) (by omega) (fun h54 => ?_) (fun h54 => ?_) | refine tk_jcmp_ge dX0_spread_54 (fun h54 => ?_) (fun h54 => ?_)
        · refine tk_iload2 dX0_spread_97 ?_
          first | refine tk_zreturn dX0_spread_98 rfl ?_ | refine tk_zret0 dX0_spread_98 rfl ?_ | refine tk_zret1 dX0_spread_98 rfl ?_
          exact ⟨_, rfl, by rw [kk_fin]⟩
        · exfalso; omega
      · intro i _ hi k
        obtain ⟨cl1, cl2⟩ := hc i hi
        refine tk_iload3 dX0_spread_49 ?_
        refine tk_aload0 dX0_spread_50 ?_
        refine tk_getI dX0_spread_51 fX0_52 rfl (by first | assumption | exact va_up_self _ _ _ | exact (va_up_ne _ _ (by omega)).trans (by assumption) | exact congrArg Prod.fst (va_up_self _ _ _) | exact (congrArg Prod.fst (va_up_ne _ _ (by omega))).trans (by assumption) | exact (congrFun (va_up_ne _ _ (by omega)) _).trans (by assumption) | exact (va_up_ne _ _ (by omega)).trans (va_up_self _ _ _) | exact (va_up_ne _ _ (by omega)).trans ((va_up_ne _ _ (by omega)).trans (by assumption)) | exact (congrArg Prod.fst ((va_up_ne _ _ (by omega)).trans (va_up_ne _ _ (by omega)))).trans (by assumption) | exact (congrFun ((va_up_ne _ _ (by omega)).trans (va_up_ne _ _ (by omega))) _).trans (by assumption) | (rw [va_up_self, va_up_ne _ _ (by omega)]; assumption)) ?_
        rw [va_up_ne _ _ (by omega), hN]
        first | refine tk_icmp_geN dX0_spread_54 (by omega) (by omega) (fun h54 => ?_) (fun h54 => ?_) | refine tk_jcmp_ge dX0_spread_54 (fun h54 => ?_) (fun h54 => ?_)
        · exfalso; omega
        · refine tk_aload0 dX0_spread_57 ?_
          refine tk_getP dX0_spread_58 fX0_24 rfl (by first | assumption | exact va_up_self _ _ _ | exact (va_up_ne _ _ (by omega)).trans (by assumption) | exact congrArg Prod.fst (va_up_self _ _ _) | exact (congrArg Prod.fst (va_up_ne _ _ (by omega))).trans (by assumption) | exact (congrFun (va_up_ne _ _ (by omega)) _).trans (by assumption) | exact (va_up_ne _ _ (by omega)).trans (va_up_self _ _ _) | exact (va_up_ne _ _ (by omega)).trans ((va_up_ne _ _ (by omega)).trans (by assumption)) | exact (congrArg Prod.fst ((va_up_ne _ _ (by omega)).trans (va_up_ne _ _ (by omega)))).trans (by assumption) | exact (congrFun ((va_up_ne _ _ (by omega)).trans (va_up_ne _ _ (by omega))) _).trans (by assumption) | (rw [va_up_self, va_up_ne _ _ (by omega)]; assumption)) (by first | assumption | exact va_up_self _ _ _ | exact (va_up_ne _ _ (by omega)).trans (by assumption) | exact congrArg Prod.fst (va_up_self _ _ _) | exact (congrArg Prod.fst (va_up_ne _ _ (by omega))).trans (by assumption) | exact (congrFun (va_up_ne _ _ (by omega)) _).trans (by assumption) | exact (va_up_ne _ _ (by omega)).trans (va_up_self _ _ _) | exact (va_up_ne _ _ (by omega)).trans ((va_up_ne _ _ (by omega)).trans (by assumption)) | exact (congrArg Prod.fst ((va_up_ne _ _ (by omega)).trans (va_up_ne _ _ (by omega)))).trans (by assumption) | exact (congrFun ((va_up_ne _ _ (by omega)).trans (va_up_ne _ _ (by omega))) _).trans (by assumption) | (rw [va_up_self, va_up_ne _ _ (by omega)]; assumption)) ?_
          refine tk_iload3 dX0_spread_61 ?_
          refine tk_iald dX0_spread_62 (by first | assumption | exact va_up_self _ _ _ | exact (va_up_ne _ _ (by omega)).trans (by assumption) | exact congrArg Prod.fst (va_up_self _ _ _) | exact (congrArg Prod.fst (va_up_ne _ _ (by omega))).trans (by assumption) | exact (congrFun (va_up_ne _ _ (by omega)) _).trans (by assumption) | exact (va_up_ne _ _ (by omega)).trans (va_up_self _ _ _) | exact (va_up_ne _ _ (by omega)).trans ((va_up_ne _ _ (by omega)).trans (by assumption)) | exact (congrArg Prod.fst ((va_up_ne _ _ (by omega)).trans (va_up_ne _ _ (by omega)))).trans (by assumption) | exact (congrFun ((va_up_ne _ _ (by omega)).trans (va_up_ne _ _ (by omega))) _).trans (by assumption) | (rw [va_up_self, va_up_ne _ _ (by omega)]; assumption)) (by omega) (by omega) ?_
          rw [va_up_self, tkcp_lt hi, if_neg (Nat.lt_irrefl i)]
          first | refine tk_jf_neB dX0_spread_63 (fun h63 => ?_) (fun h63 => ?_) | refine tk_if_ne dX0_spread_63 (fun h63 => ?_) (fun h63 => ?_)
          · first | refine tk_iinc3 dX0_spread_91 (kc_inc _) rfl ?_ | refine tk_iinc3 dX0_spread_91 rfl rfl ?_
            refine tk_goto dX0_spread_94 ?_
            first
              | (rw [kk_id (I 33) (i := i) (a := fun w => tkb (R w || cellA c N p R (c p w))) (b := fun w => tkb (R w)) (by show tkb (R i || _) = tkb (R i); rw [h63]; rfl)]
                 refine k _ ?_
                 rw [show anyB (fun j => cellA c N p R (c p j) && !R j) (i + 1) = anyB (fun j => cellA c N p R (c p j) && !R j) i by rw [anyB, h63, Bool.not_true, Bool.and_false, Bool.or_false]]
                 exact (by repeat' (first | exact trivial | refine ⟨Or.inl rfl, ?_⟩ | refine ⟨Or.inr rfl, ?_⟩)))
              | (have hz : cellA c N p R (c p i) = false := (b64_z _).mp ((lgc0 _ _).mp h79)
                 rw [kk_id (I 33) (i := i) (a := fun w => tkb (R w || cellA c N p R (c p w))) (b := fun w => tkb (R w)) (by show tkb (R i || _) = tkb (R i); rw [hz, Bool.or_false])]
                 refine k _ ?_
                 rw [show anyB (fun j => cellA c N p R (c p j) && !R j) (i + 1) = anyB (fun j => cellA c N p R (c p j) && !R j) i by rw [anyB, hz, Bool.false_and, Bool.or_false]]
                 exact (by repeat' (first | exact trivial | refine ⟨Or.inl rfl, ?_⟩ | refine ⟨Or.inr rfl, ?_⟩)))
              | (have ht : cellA c N p R (c p i) = true := by cases e : cellA c N p R (c p i) with | true => rfl | false => exact absurd ((lgc0 _ _).mpr ((b64_z _).mpr e)) h79
                 have hup := kk_up (I 33) (N := N) (i := i) (a := fun w => tkb (R w || cellA c N p R (c p w))) (b := fun w => tkb (R w)) hi
                 rw [show tkb (R i || cellA c N p R (c p i)) = nI 1 by rw [ht, Bool.or_true]; rfl] at hup
                 rw [hup]
                 refine k _ ?_
                 rw [show anyB (fun j => cellA c N p R (c p j) && !R j) (i + 1) = true by rw [anyB, ht, h63, Bool.not_false, Bool.and_true, Bool.or_true]]
                 exact (by repeat' (first | exact trivial | refine ⟨Or.inl rfl, ?_⟩ | refine ⟨Or.inr rfl, ?_⟩)))
          · refine tk_aload0 dX0_spread_66 ?_
            refine tk_getP dX0_spread_67 fX0_27 rfl (by first | assumption | exact va_up_self _ _ _ | exact (va_up_ne _ _ (by omega)).trans (by assumption) | exact congrArg Prod.fst (va_up_self _ _ _) | exact (congrArg Prod.fst (va_up_ne _ _ (by omega))).trans (by assumption) | exact (congrFun (va_up_ne _ _ (by omega)) _).trans (by assumption) | exact (va_up_ne _ _ (by omega)).trans (va_up_self _ _ _) | exact (va_up_ne _ _ (by omega)).trans ((va_up_ne _ _ (by omega)).trans (by assumption)) | exact (congrArg Prod.fst ((va_up_ne _ _ (by omega)).trans (va_up_ne _ _ (by omega)))).trans (by assumption) | exact (congrFun ((va_up_ne _ _ (by omega)).trans (va_up_ne _ _ (by omega))) _).trans (by assumption) | (rw [va_up_self, va_up_ne _ _ (by omega)]; assumption)) (by first | assumption | exact va_up_self _ _ _ | exact (va_up_ne _ _ (by omega)).trans (by assumption) | exact congrArg Prod.fst (va_up_self _ _ _) | exact (congrArg Prod.fst (va_up_ne _ _ (by omega))).trans (by assumption) | exact (congrFun (va_up_ne _ _ (by omega)) _).trans (by assumption) | exact (va_up_ne _ _ (by omega)).trans (va_up_self _ _ _) | exact (va_up_ne _ _ (by omega)).trans ((va_up_ne _ _ (by omega)).trans (by assumption)) | exact (congrArg Prod.fst ((va_up_ne _ _ (by omega)).trans (va_up_ne _ _ (by omega)))).trans (by assumption) | exact (congrFun ((va_up_ne _ _ (by omega)).trans (va_up_ne _ _ (by omega))) _).trans (by assumption) | (rw [va_up_self, va_up_ne _ _ (by omega)]; assumption)) ?_
            refine tk_aload0 dX0_spread_70 ?_
            refine tk_iload1 dX0_spread_71 ?_
            refine tk_iload3 dX0_spread_72 ?_
            refine tk_callV2z dX0_spread_73 kX0_104 (by first | assumption | exact va_up_self _ _ _ | exact (va_up_ne _ _ (by omega)).trans (by assumption) | exact congrArg Prod.fst (va_up_self _ _ _) | exact (congrArg Prod.fst (va_up_ne _ _ (by omega))).trans (by assumption) | exact (congrFun (va_up_ne _ _ (by omega)) _).trans (by assumption) | exact (va_up_ne _ _ (by omega)).trans (va_up_self _ _ _) | exact (va_up_ne _ _ (by omega)).trans ((va_up_ne _ _ (by omega)).trans (by assumption)) | exact (congrArg Prod.fst ((va_up_ne _ _ (by omega)).trans (va_up_ne _ _ (by omega)))).trans (by assumption) | exact (congrFun ((va_up_ne _ _ (by omega)).trans (va_up_ne _ _ (by omega))) _).trans (by assumption) | (rw [va_up_self, va_up_ne _ _ (by omega)]; assumption)) (c_label hD (by omega) (by omega)) (Nat.le_of_ble_eq_true rfl) (by omega) ?_
            rw [va_up_ne _ _ (show ¬ 30 = 33 by omega), cl1]
            refine tk_lald dX0_spread_76 (by first | assumption | exact va_up_self _ _ _ | exact (va_up_ne _ _ (by omega)).trans (by assumption) | exact congrArg Prod.fst (va_up_self _ _ _) | exact (congrArg Prod.fst (va_up_ne _ _ (by omega))).trans (by assumption) | exact (congrFun (va_up_ne _ _ (by omega)) _).trans (by assumption) | exact (va_up_ne _ _ (by omega)).trans (va_up_self _ _ _) | exact (va_up_ne _ _ (by omega)).trans ((va_up_ne _ _ (by omega)).trans (by assumption)) | exact (congrArg Prod.fst ((va_up_ne _ _ (by omega)).trans (va_up_ne _ _ (by omega)))).trans (by assumption) | exact (congrFun ((va_up_ne _ _ (by omega)).trans (va_up_ne _ _ (by omega))) _).trans (by assumption) | (rw [va_up_self, va_up_ne _ _ (by omega)]; assumption)) (by omega) (by omega) ?_
            rw [va_up_self, tkcp_lt cl2]
            refine tk_lconst dX0_spread_77 (v := 0) (by decide) ?_
            refine tk_lcmp dX0_spread_78 ?_
            first | refine tk_jf_eqB dX0_spread_79 (fun h79 => ?_) (fun h79 => ?_) | refine tk_if_eq dX0_spread_79 (fun h79 => ?_) (fun h79 => ?_)
            · first | refine tk_iinc3 dX0_spread_91 (kc_inc _) rfl ?_ | refine tk_iinc3 dX0_spread_91 rfl rfl ?_
              refine tk_goto dX0_spread_94 ?_
              first
                | (rw [kk_id (I 33) (i := i) (a := fun w => tkb (R w || cellA c N p R (c p w))) (b := fun w => tkb (R w)) (by show tkb (R i || _) = tkb (R i); rw [h63]; rfl)]
                   refine k _ ?_
                   rw [show anyB (fun j => cellA c N p R (c p j) && !R j) (i + 1) = anyB (fun j => cellA c N p R (c p j) && !R j) i by rw [anyB, h63, Bool.not_true, Bool.and_false, Bool.or_false]]
                   exact (by repeat' (first | exact trivial | refine ⟨Or.inl rfl, ?_⟩ | refine ⟨Or.inr rfl, ?_⟩)))
                | (have hz : cellA c N p R (c p i) = false := (b64_z _).mp ((lgc0 _ _).mp h79)
                   rw [kk_id (I 33) (i := i) (a := fun w => tkb (R w || cellA c N p R (c p w))) (b := fun w => tkb (R w)) (by show tkb (R i || _) = tkb (R i); rw [hz, Bool.or_false])]
                   refine k _ ?_
                   rw [show anyB (fun j => cellA c N p R (c p j) && !R j) (i + 1) = anyB (fun j => cellA c N p R (c p j) && !R j) i by rw [anyB, hz, Bool.false_and, Bool.or_false]]
                   exact (by repeat' (first | exact trivial | refine ⟨Or.inl rfl, ?_⟩ | refine ⟨Or.inr rfl, ?_⟩)))
                | (have ht : cellA c N p R (c p i) = true := by cases e : cellA c N p R (c p i) with | true => rfl | false => exact absurd ((lgc0 _ _).mpr ((b64_z _).mpr e)) h79
                   have hup := kk_up (I 33) (N := N) (i := i) (a := fun w => tkb (R w || cellA c N p R (c p w))) (b := fun w => tkb (R w)) hi
                   rw [show tkb (R i || cellA c N p R (c p i)) = nI 1 by rw [ht, Bool.or_true]; rfl] at hup
                   rw [hup]
                   refine k _ ?_
                   rw [show anyB (fun j => cellA c N p R (c p j) && !R j) (i + 1) = true by rw [anyB, ht, h63, Bool.not_false, Bool.and_true, Bool.or_true]]
                   exact (by repeat' (first | exact trivial | refine ⟨Or.inl rfl, ?_⟩ | refine ⟨Or.inr rfl, ?_⟩)))
            · refine tk_aload0 dX0_spread_82 ?_
              refine tk_getP dX0_spread_83 fX0_24 rfl (by first | assumption | exact va_up_self _ _ _ | exact (va_up_ne _ _ (by omega)).trans (by assumption) | exact congrArg Prod.fst (va_up_self _ _ _) | exact (congrArg Prod.fst (va_up_ne _ _ (by omega))).trans (by assumption) | exact (congrFun (va_up_ne _ _ (by omega)) _).trans (by assumption) | exact (va_up_ne _ _ (by omega)).trans (va_up_self _ _ _) | exact (va_up_ne _ _ (by omega)).trans ((va_up_ne _ _ (by omega)).trans (by assumption)) | exact (congrArg Prod.fst ((va_up_ne _ _ (by omega)).trans (va_up_ne _ _ (by omega)))).trans (by assumption) | exact (congrFun ((va_up_ne _ _ (by omega)).trans (va_up_ne _ _ (by omega))) _).trans (by assumption) | (rw [va_up_self, va_up_ne _ _ (by omega)]; assumption)) (by first | assumption | exact va_up_self _ _ _ | exact (va_up_ne _ _ (by omega)).trans (by assumption) | exact congrArg Prod.fst (va_up_self _ _ _) | exact (congrArg Prod.fst (va_up_ne _ _ (by omega))).trans (by assumption) | exact (congrFun (va_up_ne _ _ (by omega)) _).trans (by assumption) | exact (va_up_ne _ _ (by omega)).trans (va_up_self _ _ _) | exact (va_up_ne _ _ (by omega)).trans ((va_up_ne _ _ (by omega)).trans (by assumption)) | exact (congrArg Prod.fst ((va_up_ne _ _ (by omega)).trans (va_up_ne _ _ (by omega)))).trans (by assumption) | exact (congrFun ((va_up_ne _ _ (by omega)).trans (va_up_ne _ _ (by omega))) _).trans (by assumption) | (rw [va_up_self, va_up_ne _ _ (by omega)]; assumption)) ?_
              refine tk_iload3 dX0_spread_86 ?_
              refine tk_iconst dX0_spread_87 kc_iconst_1 ?_
              refine tk_iast dX0_spread_88 (by first | assumption | exact va_up_self _ _ _ | exact (va_up_ne _ _ (by omega)).trans (by assumption) | exact congrArg Prod.fst (va_up_self _ _ _) | exact (congrArg Prod.fst (va_up_ne _ _ (by omega))).trans (by assumption) | exact (congrFun (va_up_ne _ _ (by omega)) _).trans (by assumption) | exact (va_up_ne _ _ (by omega)).trans (va_up_self _ _ _) | exact (va_up_ne _ _ (by omega)).trans ((va_up_ne _ _ (by omega)).trans (by assumption)) | exact (congrArg Prod.fst ((va_up_ne _ _ (by omega)).trans (va_up_ne _ _ (by omega)))).trans (by assumption) | exact (congrFun ((va_up_ne _ _ (by omega)).trans (va_up_ne _ _ (by omega))) _).trans (by assumption) | (rw [va_up_self, va_up_ne _ _ (by omega)]; assumption)) (by omega) (by omega) ?_
              rw [bx_uu, va_up_self]
              refine tk_iconst dX0_spread_89 kc_iconst_1 ?_
              refine tk_istore2 dX0_spread_90 rfl ?_
              first | refine tk_iinc3 dX0_spread_91 (kc_inc _) rfl ?_ | refine tk_iinc3 dX0_spread_91 rfl rfl ?_
              refine tk_goto dX0_spread_94 ?_
              first
                | (rw [kk_id (I 33) (i := i) (a := fun w => tkb (R w || cellA c N p R (c p w))) (b := fun w => tkb (R w)) (by show tkb (R i || _) = tkb (R i); rw [h63]; rfl)]
                   refine k _ ?_
                   rw [show anyB (fun j => cellA c N p R (c p j) && !R j) (i + 1) = anyB (fun j => cellA c N p R (c p j) && !R j) i by rw [anyB, h63, Bool.not_true, Bool.and_false, Bool.or_false]]
                   exact (by repeat' (first | exact trivial | refine ⟨Or.inl rfl, ?_⟩ | refine ⟨Or.inr rfl, ?_⟩)))
                | (have hz : cellA c N p R (c p i) = false := (b64_z _).mp ((lgc0 _ _).mp h79)
                   rw [kk_id (I 33) (i := i) (a := fun w => tkb (R w || cellA c N p R (c p w))) (b := fun w => tkb (R w)) (by show tkb (R i || _) = tkb (R i); rw [hz, Bool.or_false])]
                   refine k _ ?_
                   rw [show anyB (fun j => cellA c N p R (c p j) && !R j) (i + 1) = anyB (fun j => cellA c N p R (c p j) && !R j) i by rw [anyB, hz, Bool.false_and, Bool.or_false]]
                   exact (by repeat' (first | exact trivial | refine ⟨Or.inl rfl, ?_⟩ | refine ⟨Or.inr rfl, ?_⟩)))
                | (have ht : cellA c N p R (c p i) = true := by cases e : cellA c N p R (c p i) with | true => rfl | false => exact absurd ((lgc0 _ _).mpr ((b64_z _).mpr e)) h79
                   have hup := kk_up (I 33) (N := N) (i := i) (a := fun w => tkb (R w || cellA c N p R (c p w))) (b := fun w => tkb (R w)) hi
                   rw [show tkb (R i || cellA c N p R (c p i)) = nI 1 by rw [ht, Bool.or_true]; rfl] at hup
                   rw [hup]
                   refine k _ ?_
                   rw [show anyB (fun j => cellA c N p R (c p j) && !R j) (i + 1) = true by rw [anyB, ht, h63, Bool.not_false, Bool.and_true, Bool.or_true]]
                   exact (by repeat' (first | exact trivial | refine ⟨Or.inl rfl, ?_⟩ | refine ⟨Or.inr rfl, ?_⟩)))
    · exfalso; omega
  · intro i _ hi k
    obtain ⟨cl1, cl2⟩ := hc i hi
    refine tk_iload2 dX0_spread_10 ?_
    refine tk_aload0 dX0_spread_11 ?_
    refine tk_getI dX0_spread_12 fX0_52 rfl (by first | assumption | exact va_up_self _ _ _ | exact (va_up_ne _ _ (by omega)).trans (by assumption) | exact congrArg Prod.fst (va_up_self _ _ _) | exact (congrArg Prod.fst (va_up_ne _ _ (by omega))).trans (by assumption) | exact (congrFun (va_up_ne _ _ (by omega)) _).trans (by assumption) | exact (va_up_ne _ _ (by omega)).trans (va_up_self _ _ _) | exact (va_up_ne _ _ (by omega)).trans ((va_up_ne _ _ (by omega)).trans (by assumption)) | exact (congrArg Prod.fst ((va_up_ne _ _ (by omega)).trans (va_up_ne _ _ (by omega)))).trans (by assumption) | exact (congrFun ((va_up_ne _ _ (by omega)).trans (va_up_ne _ _ (by omega))) _).trans (by assumption) | (rw [va_up_self, va_up_ne _ _ (by omega)]; assumption)) ?_
    rw [hN]
    first | refine tk_icmp_geN dX0_spread_15 (by omega) (by omega) (fun h15 => ?_) (fun h15 => ?_) | refine tk_jcmp_ge dX0_spread_15 (fun h15 => ?_) (fun h15 => ?_)
    · exfalso; omega
    · refine tk_aload0 dX0_spread_18 ?_
      refine tk_getP dX0_spread_19 fX0_27 rfl (by first | assumption | exact va_up_self _ _ _ | exact (va_up_ne _ _ (by omega)).trans (by assumption) | exact congrArg Prod.fst (va_up_self _ _ _) | exact (congrArg Prod.fst (va_up_ne _ _ (by omega))).trans (by assumption) | exact (congrFun (va_up_ne _ _ (by omega)) _).trans (by assumption) | exact (va_up_ne _ _ (by omega)).trans (va_up_self _ _ _) | exact (va_up_ne _ _ (by omega)).trans ((va_up_ne _ _ (by omega)).trans (by assumption)) | exact (congrArg Prod.fst ((va_up_ne _ _ (by omega)).trans (va_up_ne _ _ (by omega)))).trans (by assumption) | exact (congrFun ((va_up_ne _ _ (by omega)).trans (va_up_ne _ _ (by omega))) _).trans (by assumption) | (rw [va_up_self, va_up_ne _ _ (by omega)]; assumption)) (by first | assumption | exact va_up_self _ _ _ | exact (va_up_ne _ _ (by omega)).trans (by assumption) | exact congrArg Prod.fst (va_up_self _ _ _) | exact (congrArg Prod.fst (va_up_ne _ _ (by omega))).trans (by assumption) | exact (congrFun (va_up_ne _ _ (by omega)) _).trans (by assumption) | exact (va_up_ne _ _ (by omega)).trans (va_up_self _ _ _) | exact (va_up_ne _ _ (by omega)).trans ((va_up_ne _ _ (by omega)).trans (by assumption)) | exact (congrArg Prod.fst ((va_up_ne _ _ (by omega)).trans (va_up_ne _ _ (by omega)))).trans (by assumption) | exact (congrFun ((va_up_ne _ _ (by omega)).trans (va_up_ne _ _ (by omega))) _).trans (by assumption) | (rw [va_up_self, va_up_ne _ _ (by omega)]; assumption)) ?_
      refine tk_aload0 dX0_spread_22 ?_
      refine tk_iload1 dX0_spread_23 ?_
      refine tk_iload2 dX0_spread_24 ?_
      refine tk_callV2z dX0_spread_25 kX0_104 (by first | assumption | exact va_up_self _ _ _ | exact (va_up_ne _ _ (by omega)).trans (by assumption) | exact congrArg Prod.fst (va_up_self _ _ _) | exact (congrArg Prod.fst (va_up_ne _ _ (by omega))).trans (by assumption) | exact (congrFun (va_up_ne _ _ (by omega)) _).trans (by assumption) | exact (va_up_ne _ _ (by omega)).trans (va_up_self _ _ _) | exact (va_up_ne _ _ (by omega)).trans ((va_up_ne _ _ (by omega)).trans (by assumption)) | exact (congrArg Prod.fst ((va_up_ne _ _ (by omega)).trans (va_up_ne _ _ (by omega)))).trans (by assumption) | exact (congrFun ((va_up_ne _ _ (by omega)).trans (va_up_ne _ _ (by omega))) _).trans (by assumption) | (rw [va_up_self, va_up_ne _ _ (by omega)]; assumption)) (c_label hD (by omega) (by omega)) (Nat.le_of_ble_eq_true rfl) (by omega) ?_
      rw [cl1]
      first | refine tk_dup2 dX0_spread_28 rfl rfl ?_ | refine tk_dup2L dX0_spread_28 ?_
      refine tk_lald dX0_spread_29 (by first | assumption | exact va_up_self _ _ _ | exact (va_up_ne _ _ (by omega)).trans (by assumption) | exact congrArg Prod.fst (va_up_self _ _ _) | exact (congrArg Prod.fst (va_up_ne _ _ (by omega))).trans (by assumption) | exact (congrFun (va_up_ne _ _ (by omega)) _).trans (by assumption) | exact (va_up_ne _ _ (by omega)).trans (va_up_self _ _ _) | exact (va_up_ne _ _ (by omega)).trans ((va_up_ne _ _ (by omega)).trans (by assumption)) | exact (congrArg Prod.fst ((va_up_ne _ _ (by omega)).trans (va_up_ne _ _ (by omega)))).trans (by assumption) | exact (congrFun ((va_up_ne _ _ (by omega)).trans (va_up_ne _ _ (by omega))) _).trans (by assumption) | (rw [va_up_self, va_up_ne _ _ (by omega)]; assumption)) (by omega) (by omega) ?_
      rw [va_up_self, tkcp_lt cl2]
      refine tk_aload0 dX0_spread_30 ?_
      refine tk_getP dX0_spread_31 fX0_24 rfl (by first | assumption | exact va_up_self _ _ _ | exact (va_up_ne _ _ (by omega)).trans (by assumption) | exact congrArg Prod.fst (va_up_self _ _ _) | exact (congrArg Prod.fst (va_up_ne _ _ (by omega))).trans (by assumption) | exact (congrFun (va_up_ne _ _ (by omega)) _).trans (by assumption) | exact (va_up_ne _ _ (by omega)).trans (va_up_self _ _ _) | exact (va_up_ne _ _ (by omega)).trans ((va_up_ne _ _ (by omega)).trans (by assumption)) | exact (congrArg Prod.fst ((va_up_ne _ _ (by omega)).trans (va_up_ne _ _ (by omega)))).trans (by assumption) | exact (congrFun ((va_up_ne _ _ (by omega)).trans (va_up_ne _ _ (by omega))) _).trans (by assumption) | (rw [va_up_self, va_up_ne _ _ (by omega)]; assumption)) (by first | assumption | exact va_up_self _ _ _ | exact (va_up_ne _ _ (by omega)).trans (by assumption) | exact congrArg Prod.fst (va_up_self _ _ _) | exact (congrArg Prod.fst (va_up_ne _ _ (by omega))).trans (by assumption) | exact (congrFun (va_up_ne _ _ (by omega)) _).trans (by assumption) | exact (va_up_ne _ _ (by omega)).trans (va_up_self _ _ _) | exact (va_up_ne _ _ (by omega)).trans ((va_up_ne _ _ (by omega)).trans (by assumption)) | exact (congrArg Prod.fst ((va_up_ne _ _ (by omega)).trans (va_up_ne _ _ (by omega)))).trans (by assumption) | exact (congrFun ((va_up_ne _ _ (by omega)).trans (va_up_ne _ _ (by omega))) _).trans (by assumption) | (rw [va_up_self, va_up_ne _ _ (by omega)]; assumption)) ?_
      refine tk_iload2 dX0_spread_34 ?_
      refine tk_iald dX0_spread_35 (by first | assumption | exact va_up_self _ _ _ | exact (va_up_ne _ _ (by omega)).trans (by assumption) | exact congrArg Prod.fst (va_up_self _ _ _) | exact (congrArg Prod.fst (va_up_ne _ _ (by omega))).trans (by assumption) | exact (congrFun (va_up_ne _ _ (by omega)) _).trans (by assumption) | exact (va_up_ne _ _ (by omega)).trans (va_up_self _ _ _) | exact (va_up_ne _ _ (by omega)).trans ((va_up_ne _ _ (by omega)).trans (by assumption)) | exact (congrArg Prod.fst ((va_up_ne _ _ (by omega)).trans (va_up_ne _ _ (by omega)))).trans (by assumption) | exact (congrFun ((va_up_ne _ _ (by omega)).trans (va_up_ne _ _ (by omega))) _).trans (by assumption) | (rw [va_up_self, va_up_ne _ _ (by omega)]; assumption)) (by omega) (by omega) ?_
      rw [hR i hi]
      refine tk_i2l dX0_spread_36 ?_
      refine tk_lor dX0_spread_37 ?_
      rw [b64_or]
      refine tk_last dX0_spread_38 (by first | assumption | exact va_up_self _ _ _ | exact (va_up_ne _ _ (by omega)).trans (by assumption) | exact congrArg Prod.fst (va_up_self _ _ _) | exact (congrArg Prod.fst (va_up_ne _ _ (by omega))).trans (by assumption) | exact (congrFun (va_up_ne _ _ (by omega)) _).trans (by assumption) | exact (va_up_ne _ _ (by omega)).trans (va_up_self _ _ _) | exact (va_up_ne _ _ (by omega)).trans ((va_up_ne _ _ (by omega)).trans (by assumption)) | exact (congrArg Prod.fst ((va_up_ne _ _ (by omega)).trans (va_up_ne _ _ (by omega)))).trans (by assumption) | exact (congrFun ((va_up_ne _ _ (by omega)).trans (va_up_ne _ _ (by omega))) _).trans (by assumption) | (rw [va_up_self, va_up_ne _ _ (by omega)]; assumption)) (by omega) (by omega) ?_
      rw [bx_uu, va_up_self, sp_low cl2]
      first | refine tk_iinc2 dX0_spread_39 (kc_inc _) rfl ?_ | refine tk_iinc2 dX0_spread_39 rfl rfl ?_
      refine tk_goto dX0_spread_42 ?_
      exact k _ (by repeat' (first | exact trivial | refine ⟨Or.inl rfl, ?_⟩ | refine ⟨Or.inr rfl, ?_⟩))
end DRAFT
