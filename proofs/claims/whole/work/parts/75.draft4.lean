/-! ===== the class: draft, kin ===== -/
def lkP (c : Nat → Nat → Nat) (kd : Nat → Nat) (N p : Nat) : Nat → Nat → Bool := fun u w => decide (cOr kLo c RT kd p (c p u) N = cOr kLo c RT kd p (c p w) N) && decide (cOr kHi c RT kd p (c p u) N = cOr kHi c RT kd p (c p w) N)
theorem lkP_t {c : Nat → Nat → Nat} {kd : Nat → Nat} {N p u w : Nat} : lkP c kd N p u w = true ↔ cOr kLo c RT kd p (c p u) N = cOr kLo c RT kd p (c p w) N ∧ cOr kHi c RT kd p (c p u) N = cOr kHi c RT kd p (c p w) N := by
  unfold lkP
  rw [Bool.and_eq_true, decide_eq_true_eq, decide_eq_true_eq]
theorem lkP_LKE {c : Nat → Nat → Nat} {kd : Nat → Nat} {N p : Nat} : LKE N RT (lkP c kd N p) := ⟨fun w _ _ => lkP_t.mpr ⟨rfl, rfl⟩, fun u w h => lkP_t.mpr ⟨(lkP_t.mp h).1.symm, (lkP_t.mp h).2.symm⟩, fun u v w h g => lkP_t.mpr ⟨(lkP_t.mp h).1.trans (lkP_t.mp g).1, (lkP_t.mp h).2.trans (lkP_t.mp g).2⟩⟩
theorem lkP_iff {c : Nat → Nat → Nat} {kd : Nat → Nat} {N p u w : Nat} (hk : ∀ u, u < N → kd u < 128) : lkP c kd N p u w = true ↔ ∀ k, KS c RT kd N p (c p u) k = KS c RT kd N p (c p w) k := by
  rw [lkP_t]
  have big : ∀ x k, 128 ≤ k → KS c RT kd N p x k = false := by
    intro x k h
    cases e : KS c RT kd N p x k with
    | false => rfl
    | true => obtain ⟨v, v1, v2, v3, v4⟩ := KS_iff.mp e; have := hk v v1; omega
  constructor
  · rintro ⟨h1, h2⟩ k
    by_cases e : k < 64
    · rw [← tb_cLo e, ← tb_cLo e, h1]
    · by_cases e2 : k < 128
      · have a := tb_cHi (c := c) (R := RT) (kd := kd) (N := N) (p := p) (x := c p u) (i := k - 64) (fun u hu _ => hk u hu) (by omega)
        have b := tb_cHi (c := c) (R := RT) (kd := kd) (N := N) (p := p) (x := c p w) (i := k - 64) (fun u hu _ => hk u hu) (by omega)
        rw [show 64 + (k - 64) = k by omega] at a b
        rw [← a, ← b, h2]
      · rw [big _ k (by omega), big _ k (by omega)]
  · intro h
    refine ⟨tb_ext (fun i hi => ?_), tb_ext (fun i hi => ?_)⟩
    · rw [tb_cLo hi, tb_cLo hi]; exact h i
    · rw [tb_cHi (fun u hu _ => hk u hu) hi, tb_cHi (fun u hu _ => hk u hu) hi]; exact h (64 + i)
section DRAFT4
variable {G : tkG} {n : Nat} {T : Nat → Nat × Nat} {I : Nat → Nat → Int32} {L : Nat → Nat → Int64} {P : Nat → Nat → Option Nat}
theorem c_firstLike {p N w : Nat} {c : Nat → Nat → Nat} {kd : Nat → Nat} (hD : dObj T P) (hp : p < 4) (hN2 : N ≤ 128) (hw : w < N) (hc : ∀ w, w < N → I 30 (128 * p + w) = nI (c p w) ∧ c p w < 256) (hk : ∀ w, w < N → I 31 w = nI (kd w) ∧ kd w < 128) (hk2 : ∀ w, w < N → kd w ≤ w) (hlo : ∀ x, x < 256 → L 34 x = cOr kLo c RT kd p x N) (hhi : ∀ x, x < 256 → L 35 x = cOr kHi c RT kd p x N) (hpl0 : ∀ v, v < w → I 32 v = nI (kdS RT kd (lkP c kd N p) v)) : tkM G mX0_firstLike 1 0 0 [vR 28, vI (nI p), vI (nI w)] (n, T, I, L, P) (tkF (some (vI (nI (kdS RT kd (lkP c kd N p) w)))) (n, T, I, L, P)) := by
  have hD' := hD
  obtain ⟨d1, d2, d3, d4, d5, d6, d7, d8, d9, d10, d11, d12, d13, d14, d15⟩ := hD'
  have loop : ∀ k v, v + k = w → (∀ u, u < v → ¬ (kd u = kd w ∧ lkP c kd N p u w = true)) → tkX G mX0_firstLike 1 0 0 15 [some (vR 28), some (vI (nI p)), some (vI (nI w)), some (vI (nI (c p w))), some (vI (nI v)), none] [] (n, T, I, L, P) (tkF (some (vI (nI (kdS RT kd (lkP c kd N p) w)))) (n, T, I, L, P)) := by
    intro k
    induction k with
    | zero =>
      intro v hv ino
      refine tk_iload4 dX0_firstLike_15 ?_
      refine tk_iload2 dX0_firstLike_17 ?_
      first | refine tk_icmp_geN dX0_firstLike_18 (by omega) (by omega) (fun h18 => ?_) (fun h18 => ?_) | refine tk_jcmp_ge dX0_firstLike_18 (fun h18 => ?_) (fun h18 => ?_)
      · refine tk_iload2 dX0_firstLike_101 ?_
        refine tk_ireturn dX0_firstLike_102 rfl ?_
        refine tki ?_
        congr 1
        have hq : (fun u => RT u && (decide (kd u = kd w) && lkP c kd N p u w)) w = true := kdS_q lkP_LKE hw rfl
        refine (lst_eq hq hq (fun j hj => ?_)).symm
        cases e : (RT j && (decide (kd j = kd w) && lkP c kd N p j w)) with
        | false => rfl
        | true => rw [Bool.and_eq_true, Bool.and_eq_true, decide_eq_true_eq] at e; exact absurd e.2 (ino j (by omega))
      · exfalso; omega
    | succ k ih =>
      intro v hv ino
      obtain ⟨lc1, lc2⟩ := hc v (by omega)
      obtain ⟨lw1, lw2⟩ := hc w hw
      have hpl := hpl0 v (by omega)
      have kvb := (hk v (by omega)).2
      have kwb := (hk w hw).2
      have hsv := kdS_of (kd := kd) (w := v) (lkP_LKE (c := c) (kd := kd) (N := N) (p := p)) (by omega) rfl
      have nx : ¬ (kd v = kd w ∧ lkP c kd N p v w = true) → ∀ l, tkle [some (vR 28), some (vI (nI p)), some (vI (nI w)), some (vI (nI (c p w))), some (vI (nI v)), none] l → tkX G mX0_firstLike 1 0 0 95 l [] (n, T, I, L, P) (tkF (some (vI (nI (kdS RT kd (lkP c kd N p) w)))) (n, T, I, L, P)) := by
        intro hno l hl
        refine tk_wk hl ?_
        first | refine tk_iinc4 dX0_firstLike_95 (kc_inc _) rfl ?_ | refine tk_iinc4 dX0_firstLike_95 rfl rfl ?_
        refine tk_goto dX0_firstLike_98 ?_
        refine tk_wk (by repeat' (first | exact trivial | refine ⟨Or.inl rfl, ?_⟩ | refine ⟨Or.inr rfl, ?_⟩)) (ih (v + 1) (by omega) (fun u hu => ?_))
        by_cases e : u = v
        · subst e; exact hno
        · exact ino u (by omega)
      refine tk_iload4 dX0_firstLike_15 ?_
      refine tk_iload2 dX0_firstLike_17 ?_
      first | refine tk_icmp_geN dX0_firstLike_18 (by omega) (by omega) (fun h18 => ?_) (fun h18 => ?_) | refine tk_jcmp_ge dX0_firstLike_18 (fun h18 => ?_) (fun h18 => ?_)
      · exfalso; omega
      · refine tk_aload0 dX0_firstLike_21 ?_
        refine tk_getP dX0_firstLike_22 fX0_21 rfl (by first | assumption | exact va_up_self _ _ _ | exact (va_up_ne _ _ (by omega)).trans (by assumption) | exact congrArg Prod.fst (va_up_self _ _ _) | exact (congrArg Prod.fst (va_up_ne _ _ (by omega))).trans (by assumption) | exact (congrFun (va_up_ne _ _ (by omega)) _).trans (by assumption) | exact (va_up_ne _ _ (by omega)).trans (va_up_self _ _ _) | exact (va_up_ne _ _ (by omega)).trans ((va_up_ne _ _ (by omega)).trans (by assumption)) | exact (congrArg Prod.fst ((va_up_ne _ _ (by omega)).trans (va_up_ne _ _ (by omega)))).trans (by assumption) | exact (congrFun ((va_up_ne _ _ (by omega)).trans (va_up_ne _ _ (by omega))) _).trans (by assumption) | (rw [va_up_self, va_up_ne _ _ (by omega)]; assumption)) (by first | assumption | exact va_up_self _ _ _ | exact (va_up_ne _ _ (by omega)).trans (by assumption) | exact congrArg Prod.fst (va_up_self _ _ _) | exact (congrArg Prod.fst (va_up_ne _ _ (by omega))).trans (by assumption) | exact (congrFun (va_up_ne _ _ (by omega)) _).trans (by assumption) | exact (va_up_ne _ _ (by omega)).trans (va_up_self _ _ _) | exact (va_up_ne _ _ (by omega)).trans ((va_up_ne _ _ (by omega)).trans (by assumption)) | exact (congrArg Prod.fst ((va_up_ne _ _ (by omega)).trans (va_up_ne _ _ (by omega)))).trans (by assumption) | exact (congrFun ((va_up_ne _ _ (by omega)).trans (va_up_ne _ _ (by omega))) _).trans (by assumption) | (rw [va_up_self, va_up_ne _ _ (by omega)]; assumption)) ?_
        refine tk_iload4 dX0_firstLike_25 ?_
        refine tk_iald dX0_firstLike_27 (by first | assumption | exact va_up_self _ _ _ | exact (va_up_ne _ _ (by omega)).trans (by assumption) | exact congrArg Prod.fst (va_up_self _ _ _) | exact (congrArg Prod.fst (va_up_ne _ _ (by omega))).trans (by assumption) | exact (congrFun (va_up_ne _ _ (by omega)) _).trans (by assumption) | exact (va_up_ne _ _ (by omega)).trans (va_up_self _ _ _) | exact (va_up_ne _ _ (by omega)).trans ((va_up_ne _ _ (by omega)).trans (by assumption)) | exact (congrArg Prod.fst ((va_up_ne _ _ (by omega)).trans (va_up_ne _ _ (by omega)))).trans (by assumption) | exact (congrFun ((va_up_ne _ _ (by omega)).trans (va_up_ne _ _ (by omega))) _).trans (by assumption) | (rw [va_up_self, va_up_ne _ _ (by omega)]; assumption)) (by omega) (by omega) ?_
        rw [hpl]
        refine tk_iload4 dX0_firstLike_28 ?_
        first | refine tk_icmp_neN dX0_firstLike_30 (by omega) (by omega) (fun h30 => ?_) (fun h30 => ?_) | refine tk_icmp_ne dX0_firstLike_30 (fun h30 => ?_) (fun h30 => ?_)
        · first
            | (refine nx ?_ _ (by repeat' (first | exact trivial | refine ⟨Or.inl rfl, ?_⟩ | refine ⟨Or.inr rfl, ?_⟩))
               rintro ⟨a1, a2⟩
               have hlt : kdS RT kd (lkP c kd N p) v < v := by have := hsv.2.2.2; omega
               exact ino _ hlt ⟨hsv.2.1.trans a1, lkP_LKE.2.2 _ _ _ hsv.2.2.1 a2⟩)
            | exact nx (fun a => h46 a.1) _ (by repeat' (first | exact trivial | refine ⟨Or.inl rfl, ?_⟩ | refine ⟨Or.inr rfl, ?_⟩))
            | exact nx (fun a => h72 ((lgc0 _ _).mpr (lkP_t.mp a.2).1)) _ (by repeat' (first | exact trivial | refine ⟨Or.inl rfl, ?_⟩ | refine ⟨Or.inr rfl, ?_⟩))
            | exact nx (fun a => h89 ((lgc0 _ _).mpr (lkP_t.mp a.2).2)) _ (by repeat' (first | exact trivial | refine ⟨Or.inl rfl, ?_⟩ | refine ⟨Or.inr rfl, ?_⟩))
        · refine tk_aload0 dX0_firstLike_33 ?_
          refine tk_getP dX0_firstLike_34 fX0_18 rfl (by first | assumption | exact va_up_self _ _ _ | exact (va_up_ne _ _ (by omega)).trans (by assumption) | exact congrArg Prod.fst (va_up_self _ _ _) | exact (congrArg Prod.fst (va_up_ne _ _ (by omega))).trans (by assumption) | exact (congrFun (va_up_ne _ _ (by omega)) _).trans (by assumption) | exact (va_up_ne _ _ (by omega)).trans (va_up_self _ _ _) | exact (va_up_ne _ _ (by omega)).trans ((va_up_ne _ _ (by omega)).trans (by assumption)) | exact (congrArg Prod.fst ((va_up_ne _ _ (by omega)).trans (va_up_ne _ _ (by omega)))).trans (by assumption) | exact (congrFun ((va_up_ne _ _ (by omega)).trans (va_up_ne _ _ (by omega))) _).trans (by assumption) | (rw [va_up_self, va_up_ne _ _ (by omega)]; assumption)) (by first | assumption | exact va_up_self _ _ _ | exact (va_up_ne _ _ (by omega)).trans (by assumption) | exact congrArg Prod.fst (va_up_self _ _ _) | exact (congrArg Prod.fst (va_up_ne _ _ (by omega))).trans (by assumption) | exact (congrFun (va_up_ne _ _ (by omega)) _).trans (by assumption) | exact (va_up_ne _ _ (by omega)).trans (va_up_self _ _ _) | exact (va_up_ne _ _ (by omega)).trans ((va_up_ne _ _ (by omega)).trans (by assumption)) | exact (congrArg Prod.fst ((va_up_ne _ _ (by omega)).trans (va_up_ne _ _ (by omega)))).trans (by assumption) | exact (congrFun ((va_up_ne _ _ (by omega)).trans (va_up_ne _ _ (by omega))) _).trans (by assumption) | (rw [va_up_self, va_up_ne _ _ (by omega)]; assumption)) ?_
          refine tk_iload4 dX0_firstLike_37 ?_
          refine tk_iald dX0_firstLike_39 (by first | assumption | exact va_up_self _ _ _ | exact (va_up_ne _ _ (by omega)).trans (by assumption) | exact congrArg Prod.fst (va_up_self _ _ _) | exact (congrArg Prod.fst (va_up_ne _ _ (by omega))).trans (by assumption) | exact (congrFun (va_up_ne _ _ (by omega)) _).trans (by assumption) | exact (va_up_ne _ _ (by omega)).trans (va_up_self _ _ _) | exact (va_up_ne _ _ (by omega)).trans ((va_up_ne _ _ (by omega)).trans (by assumption)) | exact (congrArg Prod.fst ((va_up_ne _ _ (by omega)).trans (va_up_ne _ _ (by omega)))).trans (by assumption) | exact (congrFun ((va_up_ne _ _ (by omega)).trans (va_up_ne _ _ (by omega))) _).trans (by assumption) | (rw [va_up_self, va_up_ne _ _ (by omega)]; assumption)) (by omega) (by omega) ?_
          rw [(hk v (by omega)).1]
          refine tk_aload0 dX0_firstLike_40 ?_
          refine tk_getP dX0_firstLike_41 fX0_18 rfl (by first | assumption | exact va_up_self _ _ _ | exact (va_up_ne _ _ (by omega)).trans (by assumption) | exact congrArg Prod.fst (va_up_self _ _ _) | exact (congrArg Prod.fst (va_up_ne _ _ (by omega))).trans (by assumption) | exact (congrFun (va_up_ne _ _ (by omega)) _).trans (by assumption) | exact (va_up_ne _ _ (by omega)).trans (va_up_self _ _ _) | exact (va_up_ne _ _ (by omega)).trans ((va_up_ne _ _ (by omega)).trans (by assumption)) | exact (congrArg Prod.fst ((va_up_ne _ _ (by omega)).trans (va_up_ne _ _ (by omega)))).trans (by assumption) | exact (congrFun ((va_up_ne _ _ (by omega)).trans (va_up_ne _ _ (by omega))) _).trans (by assumption) | (rw [va_up_self, va_up_ne _ _ (by omega)]; assumption)) (by first | assumption | exact va_up_self _ _ _ | exact (va_up_ne _ _ (by omega)).trans (by assumption) | exact congrArg Prod.fst (va_up_self _ _ _) | exact (congrArg Prod.fst (va_up_ne _ _ (by omega))).trans (by assumption) | exact (congrFun (va_up_ne _ _ (by omega)) _).trans (by assumption) | exact (va_up_ne _ _ (by omega)).trans (va_up_self _ _ _) | exact (va_up_ne _ _ (by omega)).trans ((va_up_ne _ _ (by omega)).trans (by assumption)) | exact (congrArg Prod.fst ((va_up_ne _ _ (by omega)).trans (va_up_ne _ _ (by omega)))).trans (by assumption) | exact (congrFun ((va_up_ne _ _ (by omega)).trans (va_up_ne _ _ (by omega))) _).trans (by assumption) | (rw [va_up_self, va_up_ne _ _ (by omega)]; assumption)) ?_
          refine tk_iload2 dX0_firstLike_44 ?_
          refine tk_iald dX0_firstLike_45 (by first | assumption | exact va_up_self _ _ _ | exact (va_up_ne _ _ (by omega)).trans (by assumption) | exact congrArg Prod.fst (va_up_self _ _ _) | exact (congrArg Prod.fst (va_up_ne _ _ (by omega))).trans (by assumption) | exact (congrFun (va_up_ne _ _ (by omega)) _).trans (by assumption) | exact (va_up_ne _ _ (by omega)).trans (va_up_self _ _ _) | exact (va_up_ne _ _ (by omega)).trans ((va_up_ne _ _ (by omega)).trans (by assumption)) | exact (congrArg Prod.fst ((va_up_ne _ _ (by omega)).trans (va_up_ne _ _ (by omega)))).trans (by assumption) | exact (congrFun ((va_up_ne _ _ (by omega)).trans (va_up_ne _ _ (by omega))) _).trans (by assumption) | (rw [va_up_self, va_up_ne _ _ (by omega)]; assumption)) (by omega) (by omega) ?_
          rw [(hk w hw).1]
          first | refine tk_icmp_neN dX0_firstLike_46 (by omega) (by omega) (fun h46 => ?_) (fun h46 => ?_) | refine tk_icmp_ne dX0_firstLike_46 (fun h46 => ?_) (fun h46 => ?_)
          · first
              | (refine nx ?_ _ (by repeat' (first | exact trivial | refine ⟨Or.inl rfl, ?_⟩ | refine ⟨Or.inr rfl, ?_⟩))
                 rintro ⟨a1, a2⟩
                 have hlt : kdS RT kd (lkP c kd N p) v < v := by have := hsv.2.2.2; omega
                 exact ino _ hlt ⟨hsv.2.1.trans a1, lkP_LKE.2.2 _ _ _ hsv.2.2.1 a2⟩)
              | exact nx (fun a => h46 a.1) _ (by repeat' (first | exact trivial | refine ⟨Or.inl rfl, ?_⟩ | refine ⟨Or.inr rfl, ?_⟩))
              | exact nx (fun a => h72 ((lgc0 _ _).mpr (lkP_t.mp a.2).1)) _ (by repeat' (first | exact trivial | refine ⟨Or.inl rfl, ?_⟩ | refine ⟨Or.inr rfl, ?_⟩))
              | exact nx (fun a => h89 ((lgc0 _ _).mpr (lkP_t.mp a.2).2)) _ (by repeat' (first | exact trivial | refine ⟨Or.inl rfl, ?_⟩ | refine ⟨Or.inr rfl, ?_⟩))
          · refine tk_aload0 dX0_firstLike_49 ?_
            refine tk_iload1 dX0_firstLike_50 ?_
            refine tk_iload4 dX0_firstLike_51 ?_
            refine tk_callV2z dX0_firstLike_53 kX0_104 (by first | assumption | exact va_up_self _ _ _ | exact (va_up_ne _ _ (by omega)).trans (by assumption) | exact congrArg Prod.fst (va_up_self _ _ _) | exact (congrArg Prod.fst (va_up_ne _ _ (by omega))).trans (by assumption) | exact (congrFun (va_up_ne _ _ (by omega)) _).trans (by assumption) | exact (va_up_ne _ _ (by omega)).trans (va_up_self _ _ _) | exact (va_up_ne _ _ (by omega)).trans ((va_up_ne _ _ (by omega)).trans (by assumption)) | exact (congrArg Prod.fst ((va_up_ne _ _ (by omega)).trans (va_up_ne _ _ (by omega)))).trans (by assumption) | exact (congrFun ((va_up_ne _ _ (by omega)).trans (va_up_ne _ _ (by omega))) _).trans (by assumption) | (rw [va_up_self, va_up_ne _ _ (by omega)]; assumption)) (c_label hD (by omega) (by omega)) (Nat.le_of_ble_eq_true rfl) (by omega) ?_
            rw [lc1]
            refine tk_istore5 dX0_firstLike_56 rfl ?_
            refine tk_aload0 dX0_firstLike_58 ?_
            refine tk_getP dX0_firstLike_59 fX0_27 rfl (by first | assumption | exact va_up_self _ _ _ | exact (va_up_ne _ _ (by omega)).trans (by assumption) | exact congrArg Prod.fst (va_up_self _ _ _) | exact (congrArg Prod.fst (va_up_ne _ _ (by omega))).trans (by assumption) | exact (congrFun (va_up_ne _ _ (by omega)) _).trans (by assumption) | exact (va_up_ne _ _ (by omega)).trans (va_up_self _ _ _) | exact (va_up_ne _ _ (by omega)).trans ((va_up_ne _ _ (by omega)).trans (by assumption)) | exact (congrArg Prod.fst ((va_up_ne _ _ (by omega)).trans (va_up_ne _ _ (by omega)))).trans (by assumption) | exact (congrFun ((va_up_ne _ _ (by omega)).trans (va_up_ne _ _ (by omega))) _).trans (by assumption) | (rw [va_up_self, va_up_ne _ _ (by omega)]; assumption)) (by first | assumption | exact va_up_self _ _ _ | exact (va_up_ne _ _ (by omega)).trans (by assumption) | exact congrArg Prod.fst (va_up_self _ _ _) | exact (congrArg Prod.fst (va_up_ne _ _ (by omega))).trans (by assumption) | exact (congrFun (va_up_ne _ _ (by omega)) _).trans (by assumption) | exact (va_up_ne _ _ (by omega)).trans (va_up_self _ _ _) | exact (va_up_ne _ _ (by omega)).trans ((va_up_ne _ _ (by omega)).trans (by assumption)) | exact (congrArg Prod.fst ((va_up_ne _ _ (by omega)).trans (va_up_ne _ _ (by omega)))).trans (by assumption) | exact (congrFun ((va_up_ne _ _ (by omega)).trans (va_up_ne _ _ (by omega))) _).trans (by assumption) | (rw [va_up_self, va_up_ne _ _ (by omega)]; assumption)) ?_
            refine tk_iload5 dX0_firstLike_62 ?_
            refine tk_lald dX0_firstLike_64 (by first | assumption | exact va_up_self _ _ _ | exact (va_up_ne _ _ (by omega)).trans (by assumption) | exact congrArg Prod.fst (va_up_self _ _ _) | exact (congrArg Prod.fst (va_up_ne _ _ (by omega))).trans (by assumption) | exact (congrFun (va_up_ne _ _ (by omega)) _).trans (by assumption) | exact (va_up_ne _ _ (by omega)).trans (va_up_self _ _ _) | exact (va_up_ne _ _ (by omega)).trans ((va_up_ne _ _ (by omega)).trans (by assumption)) | exact (congrArg Prod.fst ((va_up_ne _ _ (by omega)).trans (va_up_ne _ _ (by omega)))).trans (by assumption) | exact (congrFun ((va_up_ne _ _ (by omega)).trans (va_up_ne _ _ (by omega))) _).trans (by assumption) | (rw [va_up_self, va_up_ne _ _ (by omega)]; assumption)) (by omega) (by omega) ?_
            rw [hlo _ lc2]
            refine tk_aload0 dX0_firstLike_65 ?_
            refine tk_getP dX0_firstLike_66 fX0_27 rfl (by first | assumption | exact va_up_self _ _ _ | exact (va_up_ne _ _ (by omega)).trans (by assumption) | exact congrArg Prod.fst (va_up_self _ _ _) | exact (congrArg Prod.fst (va_up_ne _ _ (by omega))).trans (by assumption) | exact (congrFun (va_up_ne _ _ (by omega)) _).trans (by assumption) | exact (va_up_ne _ _ (by omega)).trans (va_up_self _ _ _) | exact (va_up_ne _ _ (by omega)).trans ((va_up_ne _ _ (by omega)).trans (by assumption)) | exact (congrArg Prod.fst ((va_up_ne _ _ (by omega)).trans (va_up_ne _ _ (by omega)))).trans (by assumption) | exact (congrFun ((va_up_ne _ _ (by omega)).trans (va_up_ne _ _ (by omega))) _).trans (by assumption) | (rw [va_up_self, va_up_ne _ _ (by omega)]; assumption)) (by first | assumption | exact va_up_self _ _ _ | exact (va_up_ne _ _ (by omega)).trans (by assumption) | exact congrArg Prod.fst (va_up_self _ _ _) | exact (congrArg Prod.fst (va_up_ne _ _ (by omega))).trans (by assumption) | exact (congrFun (va_up_ne _ _ (by omega)) _).trans (by assumption) | exact (va_up_ne _ _ (by omega)).trans (va_up_self _ _ _) | exact (va_up_ne _ _ (by omega)).trans ((va_up_ne _ _ (by omega)).trans (by assumption)) | exact (congrArg Prod.fst ((va_up_ne _ _ (by omega)).trans (va_up_ne _ _ (by omega)))).trans (by assumption) | exact (congrFun ((va_up_ne _ _ (by omega)).trans (va_up_ne _ _ (by omega))) _).trans (by assumption) | (rw [va_up_self, va_up_ne _ _ (by omega)]; assumption)) ?_
            refine tk_iload3 dX0_firstLike_69 ?_
            refine tk_lald dX0_firstLike_70 (by first | assumption | exact va_up_self _ _ _ | exact (va_up_ne _ _ (by omega)).trans (by assumption) | exact congrArg Prod.fst (va_up_self _ _ _) | exact (congrArg Prod.fst (va_up_ne _ _ (by omega))).trans (by assumption) | exact (congrFun (va_up_ne _ _ (by omega)) _).trans (by assumption) | exact (va_up_ne _ _ (by omega)).trans (va_up_self _ _ _) | exact (va_up_ne _ _ (by omega)).trans ((va_up_ne _ _ (by omega)).trans (by assumption)) | exact (congrArg Prod.fst ((va_up_ne _ _ (by omega)).trans (va_up_ne _ _ (by omega)))).trans (by assumption) | exact (congrFun ((va_up_ne _ _ (by omega)).trans (va_up_ne _ _ (by omega))) _).trans (by assumption) | (rw [va_up_self, va_up_ne _ _ (by omega)]; assumption)) (by omega) (by omega) ?_
            rw [hlo _ lw2]
            refine tk_lcmp dX0_firstLike_71 ?_
            first | refine tk_jf_neB dX0_firstLike_72 (fun h72 => ?_) (fun h72 => ?_) | refine tk_if_ne dX0_firstLike_72 (fun h72 => ?_) (fun h72 => ?_)
            · first
                | (refine nx ?_ _ (by repeat' (first | exact trivial | refine ⟨Or.inl rfl, ?_⟩ | refine ⟨Or.inr rfl, ?_⟩))
                   rintro ⟨a1, a2⟩
                   have hlt : kdS RT kd (lkP c kd N p) v < v := by have := hsv.2.2.2; omega
                   exact ino _ hlt ⟨hsv.2.1.trans a1, lkP_LKE.2.2 _ _ _ hsv.2.2.1 a2⟩)
                | exact nx (fun a => h46 a.1) _ (by repeat' (first | exact trivial | refine ⟨Or.inl rfl, ?_⟩ | refine ⟨Or.inr rfl, ?_⟩))
                | exact nx (fun a => h72 ((lgc0 _ _).mpr (lkP_t.mp a.2).1)) _ (by repeat' (first | exact trivial | refine ⟨Or.inl rfl, ?_⟩ | refine ⟨Or.inr rfl, ?_⟩))
                | exact nx (fun a => h89 ((lgc0 _ _).mpr (lkP_t.mp a.2).2)) _ (by repeat' (first | exact trivial | refine ⟨Or.inl rfl, ?_⟩ | refine ⟨Or.inr rfl, ?_⟩))
            · refine tk_aload0 dX0_firstLike_75 ?_
              refine tk_getP dX0_firstLike_76 fX0_31 rfl (by first | assumption | exact va_up_self _ _ _ | exact (va_up_ne _ _ (by omega)).trans (by assumption) | exact congrArg Prod.fst (va_up_self _ _ _) | exact (congrArg Prod.fst (va_up_ne _ _ (by omega))).trans (by assumption) | exact (congrFun (va_up_ne _ _ (by omega)) _).trans (by assumption) | exact (va_up_ne _ _ (by omega)).trans (va_up_self _ _ _) | exact (va_up_ne _ _ (by omega)).trans ((va_up_ne _ _ (by omega)).trans (by assumption)) | exact (congrArg Prod.fst ((va_up_ne _ _ (by omega)).trans (va_up_ne _ _ (by omega)))).trans (by assumption) | exact (congrFun ((va_up_ne _ _ (by omega)).trans (va_up_ne _ _ (by omega))) _).trans (by assumption) | (rw [va_up_self, va_up_ne _ _ (by omega)]; assumption)) (by first | assumption | exact va_up_self _ _ _ | exact (va_up_ne _ _ (by omega)).trans (by assumption) | exact congrArg Prod.fst (va_up_self _ _ _) | exact (congrArg Prod.fst (va_up_ne _ _ (by omega))).trans (by assumption) | exact (congrFun (va_up_ne _ _ (by omega)) _).trans (by assumption) | exact (va_up_ne _ _ (by omega)).trans (va_up_self _ _ _) | exact (va_up_ne _ _ (by omega)).trans ((va_up_ne _ _ (by omega)).trans (by assumption)) | exact (congrArg Prod.fst ((va_up_ne _ _ (by omega)).trans (va_up_ne _ _ (by omega)))).trans (by assumption) | exact (congrFun ((va_up_ne _ _ (by omega)).trans (va_up_ne _ _ (by omega))) _).trans (by assumption) | (rw [va_up_self, va_up_ne _ _ (by omega)]; assumption)) ?_
              refine tk_iload5 dX0_firstLike_79 ?_
              refine tk_lald dX0_firstLike_81 (by first | assumption | exact va_up_self _ _ _ | exact (va_up_ne _ _ (by omega)).trans (by assumption) | exact congrArg Prod.fst (va_up_self _ _ _) | exact (congrArg Prod.fst (va_up_ne _ _ (by omega))).trans (by assumption) | exact (congrFun (va_up_ne _ _ (by omega)) _).trans (by assumption) | exact (va_up_ne _ _ (by omega)).trans (va_up_self _ _ _) | exact (va_up_ne _ _ (by omega)).trans ((va_up_ne _ _ (by omega)).trans (by assumption)) | exact (congrArg Prod.fst ((va_up_ne _ _ (by omega)).trans (va_up_ne _ _ (by omega)))).trans (by assumption) | exact (congrFun ((va_up_ne _ _ (by omega)).trans (va_up_ne _ _ (by omega))) _).trans (by assumption) | (rw [va_up_self, va_up_ne _ _ (by omega)]; assumption)) (by omega) (by omega) ?_
              rw [hhi _ lc2]
              refine tk_aload0 dX0_firstLike_82 ?_
              refine tk_getP dX0_firstLike_83 fX0_31 rfl (by first | assumption | exact va_up_self _ _ _ | exact (va_up_ne _ _ (by omega)).trans (by assumption) | exact congrArg Prod.fst (va_up_self _ _ _) | exact (congrArg Prod.fst (va_up_ne _ _ (by omega))).trans (by assumption) | exact (congrFun (va_up_ne _ _ (by omega)) _).trans (by assumption) | exact (va_up_ne _ _ (by omega)).trans (va_up_self _ _ _) | exact (va_up_ne _ _ (by omega)).trans ((va_up_ne _ _ (by omega)).trans (by assumption)) | exact (congrArg Prod.fst ((va_up_ne _ _ (by omega)).trans (va_up_ne _ _ (by omega)))).trans (by assumption) | exact (congrFun ((va_up_ne _ _ (by omega)).trans (va_up_ne _ _ (by omega))) _).trans (by assumption) | (rw [va_up_self, va_up_ne _ _ (by omega)]; assumption)) (by first | assumption | exact va_up_self _ _ _ | exact (va_up_ne _ _ (by omega)).trans (by assumption) | exact congrArg Prod.fst (va_up_self _ _ _) | exact (congrArg Prod.fst (va_up_ne _ _ (by omega))).trans (by assumption) | exact (congrFun (va_up_ne _ _ (by omega)) _).trans (by assumption) | exact (va_up_ne _ _ (by omega)).trans (va_up_self _ _ _) | exact (va_up_ne _ _ (by omega)).trans ((va_up_ne _ _ (by omega)).trans (by assumption)) | exact (congrArg Prod.fst ((va_up_ne _ _ (by omega)).trans (va_up_ne _ _ (by omega)))).trans (by assumption) | exact (congrFun ((va_up_ne _ _ (by omega)).trans (va_up_ne _ _ (by omega))) _).trans (by assumption) | (rw [va_up_self, va_up_ne _ _ (by omega)]; assumption)) ?_
              refine tk_iload3 dX0_firstLike_86 ?_
              refine tk_lald dX0_firstLike_87 (by first | assumption | exact va_up_self _ _ _ | exact (va_up_ne _ _ (by omega)).trans (by assumption) | exact congrArg Prod.fst (va_up_self _ _ _) | exact (congrArg Prod.fst (va_up_ne _ _ (by omega))).trans (by assumption) | exact (congrFun (va_up_ne _ _ (by omega)) _).trans (by assumption) | exact (va_up_ne _ _ (by omega)).trans (va_up_self _ _ _) | exact (va_up_ne _ _ (by omega)).trans ((va_up_ne _ _ (by omega)).trans (by assumption)) | exact (congrArg Prod.fst ((va_up_ne _ _ (by omega)).trans (va_up_ne _ _ (by omega)))).trans (by assumption) | exact (congrFun ((va_up_ne _ _ (by omega)).trans (va_up_ne _ _ (by omega))) _).trans (by assumption) | (rw [va_up_self, va_up_ne _ _ (by omega)]; assumption)) (by omega) (by omega) ?_
              rw [hhi _ lw2]
              refine tk_lcmp dX0_firstLike_88 ?_
              first | refine tk_jf_neB dX0_firstLike_89 (fun h89 => ?_) (fun h89 => ?_) | refine tk_if_ne dX0_firstLike_89 (fun h89 => ?_) (fun h89 => ?_)
              · first
                  | (refine nx ?_ _ (by repeat' (first | exact trivial | refine ⟨Or.inl rfl, ?_⟩ | refine ⟨Or.inr rfl, ?_⟩))
                     rintro ⟨a1, a2⟩
                     have hlt : kdS RT kd (lkP c kd N p) v < v := by have := hsv.2.2.2; omega
                     exact ino _ hlt ⟨hsv.2.1.trans a1, lkP_LKE.2.2 _ _ _ hsv.2.2.1 a2⟩)
                  | exact nx (fun a => h46 a.1) _ (by repeat' (first | exact trivial | refine ⟨Or.inl rfl, ?_⟩ | refine ⟨Or.inr rfl, ?_⟩))
                  | exact nx (fun a => h72 ((lgc0 _ _).mpr (lkP_t.mp a.2).1)) _ (by repeat' (first | exact trivial | refine ⟨Or.inl rfl, ?_⟩ | refine ⟨Or.inr rfl, ?_⟩))
                  | exact nx (fun a => h89 ((lgc0 _ _).mpr (lkP_t.mp a.2).2)) _ (by repeat' (first | exact trivial | refine ⟨Or.inl rfl, ?_⟩ | refine ⟨Or.inr rfl, ?_⟩))
              · refine tk_iload4 dX0_firstLike_92 ?_
                refine tk_ireturn dX0_firstLike_94 rfl ?_
                refine tki ?_
                congr 1
                have hq : (fun u => RT u && (decide (kd u = kd w) && lkP c kd N p u w)) w = true := kdS_q lkP_LKE hw rfl
                refine (lst_eq hq ?_ (fun j hj => ?_)).symm
                · show (RT v && (decide (kd v = kd w) && lkP c kd N p v w)) = true
                  rw [decide_eq_true h46, lkP_t.mpr ⟨(lgc0 _ _).mp h72, (lgc0 _ _).mp h89⟩]; rfl
                · cases e : (RT j && (decide (kd j = kd w) && lkP c kd N p j w)) with
                  | false => rfl
                  | true => rw [Bool.and_eq_true, Bool.and_eq_true, decide_eq_true_eq] at e; exact absurd e.2 (ino j hj)
  refine tkM.of (ls := [some _, some _, some _, none, none, none]) (by decide +kernel) (by decide +kernel) (Nat.le_of_ble_eq_true rfl) rfl ?_
  refine tk_aload0 dX0_firstLike_0 ?_
  refine tk_iload1 dX0_firstLike_1 ?_
  refine tk_iload2 dX0_firstLike_2 ?_
  refine tk_callV2z dX0_firstLike_3 kX0_104 (by first | assumption | exact va_up_self _ _ _ | exact (va_up_ne _ _ (by omega)).trans (by assumption) | exact congrArg Prod.fst (va_up_self _ _ _) | exact (congrArg Prod.fst (va_up_ne _ _ (by omega))).trans (by assumption) | exact (congrFun (va_up_ne _ _ (by omega)) _).trans (by assumption) | exact (va_up_ne _ _ (by omega)).trans (va_up_self _ _ _) | exact (va_up_ne _ _ (by omega)).trans ((va_up_ne _ _ (by omega)).trans (by assumption)) | exact (congrArg Prod.fst ((va_up_ne _ _ (by omega)).trans (va_up_ne _ _ (by omega)))).trans (by assumption) | exact (congrFun ((va_up_ne _ _ (by omega)).trans (va_up_ne _ _ (by omega))) _).trans (by assumption) | (rw [va_up_self, va_up_ne _ _ (by omega)]; assumption)) (c_label hD (by omega) (by omega)) (Nat.le_of_ble_eq_true rfl) (by omega) ?_
  rw [(hc w hw).1]
  refine tk_istore3 dX0_firstLike_6 rfl ?_
  refine tk_aload0 dX0_firstLike_7 ?_
  refine tk_getP dX0_firstLike_8 fX0_18 rfl (by first | assumption | exact va_up_self _ _ _ | exact (va_up_ne _ _ (by omega)).trans (by assumption) | exact congrArg Prod.fst (va_up_self _ _ _) | exact (congrArg Prod.fst (va_up_ne _ _ (by omega))).trans (by assumption) | exact (congrFun (va_up_ne _ _ (by omega)) _).trans (by assumption) | exact (va_up_ne _ _ (by omega)).trans (va_up_self _ _ _) | exact (va_up_ne _ _ (by omega)).trans ((va_up_ne _ _ (by omega)).trans (by assumption)) | exact (congrArg Prod.fst ((va_up_ne _ _ (by omega)).trans (va_up_ne _ _ (by omega)))).trans (by assumption) | exact (congrFun ((va_up_ne _ _ (by omega)).trans (va_up_ne _ _ (by omega))) _).trans (by assumption) | (rw [va_up_self, va_up_ne _ _ (by omega)]; assumption)) (by first | assumption | exact va_up_self _ _ _ | exact (va_up_ne _ _ (by omega)).trans (by assumption) | exact congrArg Prod.fst (va_up_self _ _ _) | exact (congrArg Prod.fst (va_up_ne _ _ (by omega))).trans (by assumption) | exact (congrFun (va_up_ne _ _ (by omega)) _).trans (by assumption) | exact (va_up_ne _ _ (by omega)).trans (va_up_self _ _ _) | exact (va_up_ne _ _ (by omega)).trans ((va_up_ne _ _ (by omega)).trans (by assumption)) | exact (congrArg Prod.fst ((va_up_ne _ _ (by omega)).trans (va_up_ne _ _ (by omega)))).trans (by assumption) | exact (congrFun ((va_up_ne _ _ (by omega)).trans (va_up_ne _ _ (by omega))) _).trans (by assumption) | (rw [va_up_self, va_up_ne _ _ (by omega)]; assumption)) ?_
  refine tk_iload2 dX0_firstLike_11 ?_
  refine tk_iald dX0_firstLike_12 (by first | assumption | exact va_up_self _ _ _ | exact (va_up_ne _ _ (by omega)).trans (by assumption) | exact congrArg Prod.fst (va_up_self _ _ _) | exact (congrArg Prod.fst (va_up_ne _ _ (by omega))).trans (by assumption) | exact (congrFun (va_up_ne _ _ (by omega)) _).trans (by assumption) | exact (va_up_ne _ _ (by omega)).trans (va_up_self _ _ _) | exact (va_up_ne _ _ (by omega)).trans ((va_up_ne _ _ (by omega)).trans (by assumption)) | exact (congrArg Prod.fst ((va_up_ne _ _ (by omega)).trans (va_up_ne _ _ (by omega)))).trans (by assumption) | exact (congrFun ((va_up_ne _ _ (by omega)).trans (va_up_ne _ _ (by omega))) _).trans (by assumption) | (rw [va_up_self, va_up_ne _ _ (by omega)]; assumption)) (by omega) (by omega) ?_
  rw [(hk w hw).1]
  refine tk_istore4 dX0_firstLike_13 rfl ?_
  refine tk_wk (by repeat' (first | exact trivial | refine ⟨Or.inl rfl, ?_⟩ | refine ⟨Or.inr rfl, ?_⟩)) (loop (w - kd w) (kd w) (by have := hk2 w hw; omega) (fun u hu a => ?_))
  have := hk2 u (by have := hk2 w hw; omega)
  omega
theorem c_partKin {p N : Nat} {c : Nat → Nat → Nat} {kd : Nat → Nat} (hD : dObj T P) (hp : p < 4) (hN : I 28 2 = nI N) (hN2 : N ≤ 128) (hc : ∀ w, w < N → I 30 (128 * p + w) = nI (c p w) ∧ c p w < 256) (hk : ∀ w, w < N → I 31 w = nI (kd w) ∧ kd w < 128) (hk2 : ∀ w, w < N → kd w ≤ w) : tkM G mX0_partKin 2 0 0 [vR 28, vI (nI p)] (n, T, I, L, P) (fun r h => ∃ g1 g2 g4 g5, r = some (vI (tkb (anyB (fun w => !decide (kdS RT kd (lkP c kd N p) w = kd w)) N))) ∧ h = (n, T, va_up (va_up I 31 g1) 32 g2, va_up (va_up L 34 g4) 35 g5, P) ∧ ∀ w, w < N → g1 w = nI (kdS RT kd (lkP c kd N p) w)) := by
  have hD' := hD
  obtain ⟨d1, d2, d3, d4, d5, d6, d7, d8, d9, d10, d11, d12, d13, d14, d15⟩ := hD'
  refine tkM.of (ls := [some _, some _, none, none]) (by decide +kernel) (by decide +kernel) (Nat.le_of_ble_eq_true rfl) rfl ?_
  refine tk_aload0 dX0_partKin_0 ?_
  refine tk_iload1 dX0_partKin_1 ?_
  refine tk_callV1y dX0_partKin_2 kX0_111 (by first | assumption | exact va_up_self _ _ _ | exact (va_up_ne _ _ (by omega)).trans (by assumption) | exact congrArg Prod.fst (va_up_self _ _ _) | exact (congrArg Prod.fst (va_up_ne _ _ (by omega))).trans (by assumption) | exact (congrFun (va_up_ne _ _ (by omega)) _).trans (by assumption) | exact (va_up_ne _ _ (by omega)).trans (va_up_self _ _ _) | exact (va_up_ne _ _ (by omega)).trans ((va_up_ne _ _ (by omega)).trans (by assumption)) | exact (congrArg Prod.fst ((va_up_ne _ _ (by omega)).trans (va_up_ne _ _ (by omega)))).trans (by assumption) | exact (congrFun ((va_up_ne _ _ (by omega)).trans (va_up_ne _ _ (by omega))) _).trans (by assumption) | (rw [va_up_self, va_up_ne _ _ (by omega)]; assumption)) (c_gather hD hp hN hN2 hc hk) (Nat.le_of_ble_eq_true rfl) (by omega) ?_
  refine tk_iconst dX0_partKin_5 kc_iconst_0 ?_
  refine tk_istore2 dX0_partKin_6 rfl ?_
  refine tk_iconst dX0_partKin_7 kc_iconst_0 ?_
  refine tk_istore3 dX0_partKin_8 rfl ?_
  refine tk_fr 0 N (fun i => [some (vR 28), some (vI (nI p)), some (vI (tkb (anyB (fun w => !decide (kdS RT kd (lkP c kd N p) w = kd w)) i))), some (vI (nI i))]) (fun i => (n, T, va_up I 32 (tkcp (I 32) (fun w => nI (kdS RT kd (lkP c kd N p) w)) i), va_up (va_up L 34 (tkcp (L 34) (fun x => cOr kLo c RT kd p x N) 256)) 35 (tkcp (L 35) (fun x => cOr kHi c RT kd p x N) 256), P)) (by omega) (by repeat' (first | exact trivial | refine ⟨Or.inl rfl, ?_⟩ | refine ⟨Or.inr rfl, ?_⟩)) (by rw [tkcp_0, tk_up_id]) ?_ ?_
  · refine tk_iload3 dX0_partKin_9 ?_
    refine tk_aload0 dX0_partKin_10 ?_
    refine tk_getI dX0_partKin_11 fX0_52 rfl (by first | assumption | exact va_up_self _ _ _ | exact (va_up_ne _ _ (by omega)).trans (by assumption) | exact congrArg Prod.fst (va_up_self _ _ _) | exact (congrArg Prod.fst (va_up_ne _ _ (by omega))).trans (by assumption) | exact (congrFun (va_up_ne _ _ (by omega)) _).trans (by assumption) | exact (va_up_ne _ _ (by omega)).trans (va_up_self _ _ _) | exact (va_up_ne _ _ (by omega)).trans ((va_up_ne _ _ (by omega)).trans (by assumption)) | exact (congrArg Prod.fst ((va_up_ne _ _ (by omega)).trans (va_up_ne _ _ (by omega)))).trans (by assumption) | exact (congrFun ((va_up_ne _ _ (by omega)).trans (va_up_ne _ _ (by omega))) _).trans (by assumption) | (rw [va_up_self, va_up_ne _ _ (by omega)]; assumption)) ?_
    rw [va_up_ne _ _ (by omega), hN]
    first | refine tk_icmp_geN dX0_partKin_14 (by omega) (by omega) (fun h14 => ?_) (fun h14 => ?_) | refine tk_jcmp_ge dX0_partKin_14 (fun h14 => ?_) (fun h14 => ?_)
    · refine tk_aload0 dX0_partKin_60 ?_
      refine tk_getP dX0_partKin_61 fX0_21 rfl (by first | assumption | exact va_up_self _ _ _ | exact (va_up_ne _ _ (by omega)).trans (by assumption) | exact congrArg Prod.fst (va_up_self _ _ _) | exact (congrArg Prod.fst (va_up_ne _ _ (by omega))).trans (by assumption) | exact (congrFun (va_up_ne _ _ (by omega)) _).trans (by assumption) | exact (va_up_ne _ _ (by omega)).trans (va_up_self _ _ _) | exact (va_up_ne _ _ (by omega)).trans ((va_up_ne _ _ (by omega)).trans (by assumption)) | exact (congrArg Prod.fst ((va_up_ne _ _ (by omega)).trans (va_up_ne _ _ (by omega)))).trans (by assumption) | exact (congrFun ((va_up_ne _ _ (by omega)).trans (va_up_ne _ _ (by omega))) _).trans (by assumption) | (rw [va_up_self, va_up_ne _ _ (by omega)]; assumption)) (by first | assumption | exact va_up_self _ _ _ | exact (va_up_ne _ _ (by omega)).trans (by assumption) | exact congrArg Prod.fst (va_up_self _ _ _) | exact (congrArg Prod.fst (va_up_ne _ _ (by omega))).trans (by assumption) | exact (congrFun (va_up_ne _ _ (by omega)) _).trans (by assumption) | exact (va_up_ne _ _ (by omega)).trans (va_up_self _ _ _) | exact (va_up_ne _ _ (by omega)).trans ((va_up_ne _ _ (by omega)).trans (by assumption)) | exact (congrArg Prod.fst ((va_up_ne _ _ (by omega)).trans (va_up_ne _ _ (by omega)))).trans (by assumption) | exact (congrFun ((va_up_ne _ _ (by omega)).trans (va_up_ne _ _ (by omega))) _).trans (by assumption) | (rw [va_up_self, va_up_ne _ _ (by omega)]; assumption)) ?_
      refine tk_iconst dX0_partKin_64 kc_iconst_0 ?_
      refine tk_aload0 dX0_partKin_65 ?_
      refine tk_getP dX0_partKin_66 fX0_18 rfl (by first | assumption | exact va_up_self _ _ _ | exact (va_up_ne _ _ (by omega)).trans (by assumption) | exact congrArg Prod.fst (va_up_self _ _ _) | exact (congrArg Prod.fst (va_up_ne _ _ (by omega))).trans (by assumption) | exact (congrFun (va_up_ne _ _ (by omega)) _).trans (by assumption) | exact (va_up_ne _ _ (by omega)).trans (va_up_self _ _ _) | exact (va_up_ne _ _ (by omega)).trans ((va_up_ne _ _ (by omega)).trans (by assumption)) | exact (congrArg Prod.fst ((va_up_ne _ _ (by omega)).trans (va_up_ne _ _ (by omega)))).trans (by assumption) | exact (congrFun ((va_up_ne _ _ (by omega)).trans (va_up_ne _ _ (by omega))) _).trans (by assumption) | (rw [va_up_self, va_up_ne _ _ (by omega)]; assumption)) (by first | assumption | exact va_up_self _ _ _ | exact (va_up_ne _ _ (by omega)).trans (by assumption) | exact congrArg Prod.fst (va_up_self _ _ _) | exact (congrArg Prod.fst (va_up_ne _ _ (by omega))).trans (by assumption) | exact (congrFun (va_up_ne _ _ (by omega)) _).trans (by assumption) | exact (va_up_ne _ _ (by omega)).trans (va_up_self _ _ _) | exact (va_up_ne _ _ (by omega)).trans ((va_up_ne _ _ (by omega)).trans (by assumption)) | exact (congrArg Prod.fst ((va_up_ne _ _ (by omega)).trans (va_up_ne _ _ (by omega)))).trans (by assumption) | exact (congrFun ((va_up_ne _ _ (by omega)).trans (va_up_ne _ _ (by omega))) _).trans (by assumption) | (rw [va_up_self, va_up_ne _ _ (by omega)]; assumption)) ?_
      refine tk_iconst dX0_partKin_69 kc_iconst_0 ?_
      refine tk_aload0 dX0_partKin_70 ?_
      refine tk_getI dX0_partKin_71 fX0_52 rfl (by first | assumption | exact va_up_self _ _ _ | exact (va_up_ne _ _ (by omega)).trans (by assumption) | exact congrArg Prod.fst (va_up_self _ _ _) | exact (congrArg Prod.fst (va_up_ne _ _ (by omega))).trans (by assumption) | exact (congrFun (va_up_ne _ _ (by omega)) _).trans (by assumption) | exact (va_up_ne _ _ (by omega)).trans (va_up_self _ _ _) | exact (va_up_ne _ _ (by omega)).trans ((va_up_ne _ _ (by omega)).trans (by assumption)) | exact (congrArg Prod.fst ((va_up_ne _ _ (by omega)).trans (va_up_ne _ _ (by omega)))).trans (by assumption) | exact (congrFun ((va_up_ne _ _ (by omega)).trans (va_up_ne _ _ (by omega))) _).trans (by assumption) | (rw [va_up_self, va_up_ne _ _ (by omega)]; assumption)) ?_
      rw [va_up_ne _ _ (by omega), hN]
      refine tk_copyi (n0 := 128) (n1 := 128) dX0_partKin_74 tk_cp118 tk_cpw d12 d11 (by omega) (by omega) (by omega) (Nat.le_of_ble_eq_true rfl) (by omega) ?_
      rw [tk_usrt (show 31 < 32 by omega), va_up_self, va_up_ne _ _ (show ¬ 31 = 32 by omega)]
      refine tk_iload2 dX0_partKin_77 ?_
      first | refine tk_zreturn dX0_partKin_78 rfl ?_ | refine tk_zret0 dX0_partKin_78 rfl ?_ | refine tk_zret1 dX0_partKin_78 rfl ?_
      exact ⟨_, _, _, _, rfl, rfl, fun w hw => by rw [pk_cpy_in (by omega) (by omega), show 0 + (w - 0) = w by omega]; exact tkcp_lt hw⟩
    · exfalso; omega
  · intro i _ hi k
    have hks := (kdS_of (kd := kd) (w := i) (lkP_LKE (c := c) (kd := kd) (N := N) (p := p)) hi rfl).2.2.2
    obtain ⟨k1, k2⟩ := hk i hi
    refine tk_iload3 dX0_partKin_9 ?_
    refine tk_aload0 dX0_partKin_10 ?_
    refine tk_getI dX0_partKin_11 fX0_52 rfl (by first | assumption | exact va_up_self _ _ _ | exact (va_up_ne _ _ (by omega)).trans (by assumption) | exact congrArg Prod.fst (va_up_self _ _ _) | exact (congrArg Prod.fst (va_up_ne _ _ (by omega))).trans (by assumption) | exact (congrFun (va_up_ne _ _ (by omega)) _).trans (by assumption) | exact (va_up_ne _ _ (by omega)).trans (va_up_self _ _ _) | exact (va_up_ne _ _ (by omega)).trans ((va_up_ne _ _ (by omega)).trans (by assumption)) | exact (congrArg Prod.fst ((va_up_ne _ _ (by omega)).trans (va_up_ne _ _ (by omega)))).trans (by assumption) | exact (congrFun ((va_up_ne _ _ (by omega)).trans (va_up_ne _ _ (by omega))) _).trans (by assumption) | (rw [va_up_self, va_up_ne _ _ (by omega)]; assumption)) ?_
    rw [va_up_ne _ _ (by omega), hN]
    first | refine tk_icmp_geN dX0_partKin_14 (by omega) (by omega) (fun h14 => ?_) (fun h14 => ?_) | refine tk_jcmp_ge dX0_partKin_14 (fun h14 => ?_) (fun h14 => ?_)
    · exfalso; omega
    · refine tk_aload0 dX0_partKin_17 ?_
      refine tk_getP dX0_partKin_18 fX0_21 rfl (by first | assumption | exact va_up_self _ _ _ | exact (va_up_ne _ _ (by omega)).trans (by assumption) | exact congrArg Prod.fst (va_up_self _ _ _) | exact (congrArg Prod.fst (va_up_ne _ _ (by omega))).trans (by assumption) | exact (congrFun (va_up_ne _ _ (by omega)) _).trans (by assumption) | exact (va_up_ne _ _ (by omega)).trans (va_up_self _ _ _) | exact (va_up_ne _ _ (by omega)).trans ((va_up_ne _ _ (by omega)).trans (by assumption)) | exact (congrArg Prod.fst ((va_up_ne _ _ (by omega)).trans (va_up_ne _ _ (by omega)))).trans (by assumption) | exact (congrFun ((va_up_ne _ _ (by omega)).trans (va_up_ne _ _ (by omega))) _).trans (by assumption) | (rw [va_up_self, va_up_ne _ _ (by omega)]; assumption)) (by first | assumption | exact va_up_self _ _ _ | exact (va_up_ne _ _ (by omega)).trans (by assumption) | exact congrArg Prod.fst (va_up_self _ _ _) | exact (congrArg Prod.fst (va_up_ne _ _ (by omega))).trans (by assumption) | exact (congrFun (va_up_ne _ _ (by omega)) _).trans (by assumption) | exact (va_up_ne _ _ (by omega)).trans (va_up_self _ _ _) | exact (va_up_ne _ _ (by omega)).trans ((va_up_ne _ _ (by omega)).trans (by assumption)) | exact (congrArg Prod.fst ((va_up_ne _ _ (by omega)).trans (va_up_ne _ _ (by omega)))).trans (by assumption) | exact (congrFun ((va_up_ne _ _ (by omega)).trans (va_up_ne _ _ (by omega))) _).trans (by assumption) | (rw [va_up_self, va_up_ne _ _ (by omega)]; assumption)) ?_
      refine tk_iload3 dX0_partKin_21 ?_
      refine tk_aload0 dX0_partKin_22 ?_
      refine tk_iload1 dX0_partKin_23 ?_
      refine tk_iload3 dX0_partKin_24 ?_
      refine tk_callV2z dX0_partKin_25 kX0_115 (by first | assumption | exact va_up_self _ _ _ | exact (va_up_ne _ _ (by omega)).trans (by assumption) | exact congrArg Prod.fst (va_up_self _ _ _) | exact (congrArg Prod.fst (va_up_ne _ _ (by omega))).trans (by assumption) | exact (congrFun (va_up_ne _ _ (by omega)) _).trans (by assumption) | exact (va_up_ne _ _ (by omega)).trans (va_up_self _ _ _) | exact (va_up_ne _ _ (by omega)).trans ((va_up_ne _ _ (by omega)).trans (by assumption)) | exact (congrArg Prod.fst ((va_up_ne _ _ (by omega)).trans (va_up_ne _ _ (by omega)))).trans (by assumption) | exact (congrFun ((va_up_ne _ _ (by omega)).trans (va_up_ne _ _ (by omega))) _).trans (by assumption) | (rw [va_up_self, va_up_ne _ _ (by omega)]; assumption)) (c_firstLike hD hp hN2 hi (fun w hw => by rw [va_up_ne _ _ (by omega)]; exact hc w hw) (fun w hw => by rw [va_up_ne _ _ (by omega)]; exact hk w hw) hk2 (fun x hx => by rw [va_up_ne _ _ (by omega), va_up_self, tkcp_lt hx]) (fun x hx => by rw [va_up_self, tkcp_lt hx]) (fun v hv => by rw [va_up_self, tkcp_lt hv])) (Nat.le_of_ble_eq_true rfl) (by omega) ?_
      refine tk_iast dX0_partKin_28 (by first | assumption | exact va_up_self _ _ _ | exact (va_up_ne _ _ (by omega)).trans (by assumption) | exact congrArg Prod.fst (va_up_self _ _ _) | exact (congrArg Prod.fst (va_up_ne _ _ (by omega))).trans (by assumption) | exact (congrFun (va_up_ne _ _ (by omega)) _).trans (by assumption) | exact (va_up_ne _ _ (by omega)).trans (va_up_self _ _ _) | exact (va_up_ne _ _ (by omega)).trans ((va_up_ne _ _ (by omega)).trans (by assumption)) | exact (congrArg Prod.fst ((va_up_ne _ _ (by omega)).trans (va_up_ne _ _ (by omega)))).trans (by assumption) | exact (congrFun ((va_up_ne _ _ (by omega)).trans (va_up_ne _ _ (by omega))) _).trans (by assumption) | (rw [va_up_self, va_up_ne _ _ (by omega)]; assumption)) (by omega) (by omega) ?_
      rw [bx_uu, va_up_self, tkcp_s (I 32) (fun w => nI (kdS RT kd (lkP c kd N p) w))]
      refine tk_iload2 dX0_partKin_29 ?_
      first | refine tk_jf_neB dX0_partKin_30 (fun h30 => ?_) (fun h30 => ?_) | refine tk_if_ne dX0_partKin_30 (fun h30 => ?_) (fun h30 => ?_)
      · refine tk_iconst dX0_partKin_48 kc_iconst_1 ?_
        refine tk_goto dX0_partKin_49 ?_
        refine tk_istore2 dX0_partKin_53 rfl ?_
        first | refine tk_iinc3 dX0_partKin_54 (kc_inc _) rfl ?_ | refine tk_iinc3 dX0_partKin_54 rfl rfl ?_
        refine tk_goto dX0_partKin_57 ?_
        refine k _ ?_
        first
          | (rw [show anyB (fun w => !decide (kdS RT kd (lkP c kd N p) w = kd w)) (i + 1) = true by rw [anyB, h30, Bool.true_or]]; exact (by repeat' (first | exact trivial | refine ⟨Or.inl rfl, ?_⟩ | refine ⟨Or.inr rfl, ?_⟩)))
          | (rw [show anyB (fun w => !decide (kdS RT kd (lkP c kd N p) w = kd w)) (i + 1) = true by rw [anyB, decide_eq_false h45, Bool.not_false, Bool.or_true]]; exact (by repeat' (first | exact trivial | refine ⟨Or.inl rfl, ?_⟩ | refine ⟨Or.inr rfl, ?_⟩)))
          | (rw [show anyB (fun w => !decide (kdS RT kd (lkP c kd N p) w = kd w)) (i + 1) = false by rw [anyB, h30, decide_eq_true h45]; rfl]; exact (by repeat' (first | exact trivial | refine ⟨Or.inl rfl, ?_⟩ | refine ⟨Or.inr rfl, ?_⟩)))
      · refine tk_aload0 dX0_partKin_33 ?_
        refine tk_getP dX0_partKin_34 fX0_21 rfl (by first | assumption | exact va_up_self _ _ _ | exact (va_up_ne _ _ (by omega)).trans (by assumption) | exact congrArg Prod.fst (va_up_self _ _ _) | exact (congrArg Prod.fst (va_up_ne _ _ (by omega))).trans (by assumption) | exact (congrFun (va_up_ne _ _ (by omega)) _).trans (by assumption) | exact (va_up_ne _ _ (by omega)).trans (va_up_self _ _ _) | exact (va_up_ne _ _ (by omega)).trans ((va_up_ne _ _ (by omega)).trans (by assumption)) | exact (congrArg Prod.fst ((va_up_ne _ _ (by omega)).trans (va_up_ne _ _ (by omega)))).trans (by assumption) | exact (congrFun ((va_up_ne _ _ (by omega)).trans (va_up_ne _ _ (by omega))) _).trans (by assumption) | (rw [va_up_self, va_up_ne _ _ (by omega)]; assumption)) (by first | assumption | exact va_up_self _ _ _ | exact (va_up_ne _ _ (by omega)).trans (by assumption) | exact congrArg Prod.fst (va_up_self _ _ _) | exact (congrArg Prod.fst (va_up_ne _ _ (by omega))).trans (by assumption) | exact (congrFun (va_up_ne _ _ (by omega)) _).trans (by assumption) | exact (va_up_ne _ _ (by omega)).trans (va_up_self _ _ _) | exact (va_up_ne _ _ (by omega)).trans ((va_up_ne _ _ (by omega)).trans (by assumption)) | exact (congrArg Prod.fst ((va_up_ne _ _ (by omega)).trans (va_up_ne _ _ (by omega)))).trans (by assumption) | exact (congrFun ((va_up_ne _ _ (by omega)).trans (va_up_ne _ _ (by omega))) _).trans (by assumption) | (rw [va_up_self, va_up_ne _ _ (by omega)]; assumption)) ?_
        refine tk_iload3 dX0_partKin_37 ?_
        refine tk_iald dX0_partKin_38 (by first | assumption | exact va_up_self _ _ _ | exact (va_up_ne _ _ (by omega)).trans (by assumption) | exact congrArg Prod.fst (va_up_self _ _ _) | exact (congrArg Prod.fst (va_up_ne _ _ (by omega))).trans (by assumption) | exact (congrFun (va_up_ne _ _ (by omega)) _).trans (by assumption) | exact (va_up_ne _ _ (by omega)).trans (va_up_self _ _ _) | exact (va_up_ne _ _ (by omega)).trans ((va_up_ne _ _ (by omega)).trans (by assumption)) | exact (congrArg Prod.fst ((va_up_ne _ _ (by omega)).trans (va_up_ne _ _ (by omega)))).trans (by assumption) | exact (congrFun ((va_up_ne _ _ (by omega)).trans (va_up_ne _ _ (by omega))) _).trans (by assumption) | (rw [va_up_self, va_up_ne _ _ (by omega)]; assumption)) (by omega) (by omega) ?_
        rw [va_up_self, tkcp_lt (show i < i + 1 by omega)]
        refine tk_aload0 dX0_partKin_39 ?_
        refine tk_getP dX0_partKin_40 fX0_18 rfl (by first | assumption | exact va_up_self _ _ _ | exact (va_up_ne _ _ (by omega)).trans (by assumption) | exact congrArg Prod.fst (va_up_self _ _ _) | exact (congrArg Prod.fst (va_up_ne _ _ (by omega))).trans (by assumption) | exact (congrFun (va_up_ne _ _ (by omega)) _).trans (by assumption) | exact (va_up_ne _ _ (by omega)).trans (va_up_self _ _ _) | exact (va_up_ne _ _ (by omega)).trans ((va_up_ne _ _ (by omega)).trans (by assumption)) | exact (congrArg Prod.fst ((va_up_ne _ _ (by omega)).trans (va_up_ne _ _ (by omega)))).trans (by assumption) | exact (congrFun ((va_up_ne _ _ (by omega)).trans (va_up_ne _ _ (by omega))) _).trans (by assumption) | (rw [va_up_self, va_up_ne _ _ (by omega)]; assumption)) (by first | assumption | exact va_up_self _ _ _ | exact (va_up_ne _ _ (by omega)).trans (by assumption) | exact congrArg Prod.fst (va_up_self _ _ _) | exact (congrArg Prod.fst (va_up_ne _ _ (by omega))).trans (by assumption) | exact (congrFun (va_up_ne _ _ (by omega)) _).trans (by assumption) | exact (va_up_ne _ _ (by omega)).trans (va_up_self _ _ _) | exact (va_up_ne _ _ (by omega)).trans ((va_up_ne _ _ (by omega)).trans (by assumption)) | exact (congrArg Prod.fst ((va_up_ne _ _ (by omega)).trans (va_up_ne _ _ (by omega)))).trans (by assumption) | exact (congrFun ((va_up_ne _ _ (by omega)).trans (va_up_ne _ _ (by omega))) _).trans (by assumption) | (rw [va_up_self, va_up_ne _ _ (by omega)]; assumption)) ?_
        refine tk_iload3 dX0_partKin_43 ?_
        refine tk_iald dX0_partKin_44 (by first | assumption | exact va_up_self _ _ _ | exact (va_up_ne _ _ (by omega)).trans (by assumption) | exact congrArg Prod.fst (va_up_self _ _ _) | exact (congrArg Prod.fst (va_up_ne _ _ (by omega))).trans (by assumption) | exact (congrFun (va_up_ne _ _ (by omega)) _).trans (by assumption) | exact (va_up_ne _ _ (by omega)).trans (va_up_self _ _ _) | exact (va_up_ne _ _ (by omega)).trans ((va_up_ne _ _ (by omega)).trans (by assumption)) | exact (congrArg Prod.fst ((va_up_ne _ _ (by omega)).trans (va_up_ne _ _ (by omega)))).trans (by assumption) | exact (congrFun ((va_up_ne _ _ (by omega)).trans (va_up_ne _ _ (by omega))) _).trans (by assumption) | (rw [va_up_self, va_up_ne _ _ (by omega)]; assumption)) (by omega) (by omega) ?_
        rw [va_up_ne _ _ (by omega), k1]
        first | refine tk_icmp_eqN dX0_partKin_45 (by omega) (by omega) (fun h45 => ?_) (fun h45 => ?_) | refine tk_icmp_eq dX0_partKin_45 (fun h45 => ?_) (fun h45 => ?_)
        · refine tk_iconst dX0_partKin_52 kc_iconst_0 ?_
          refine tk_istore2 dX0_partKin_53 rfl ?_
          first | refine tk_iinc3 dX0_partKin_54 (kc_inc _) rfl ?_ | refine tk_iinc3 dX0_partKin_54 rfl rfl ?_
          refine tk_goto dX0_partKin_57 ?_
          refine k _ ?_
          first
            | (rw [show anyB (fun w => !decide (kdS RT kd (lkP c kd N p) w = kd w)) (i + 1) = true by rw [anyB, h30, Bool.true_or]]; exact (by repeat' (first | exact trivial | refine ⟨Or.inl rfl, ?_⟩ | refine ⟨Or.inr rfl, ?_⟩)))
            | (rw [show anyB (fun w => !decide (kdS RT kd (lkP c kd N p) w = kd w)) (i + 1) = true by rw [anyB, decide_eq_false h45, Bool.not_false, Bool.or_true]]; exact (by repeat' (first | exact trivial | refine ⟨Or.inl rfl, ?_⟩ | refine ⟨Or.inr rfl, ?_⟩)))
            | (rw [show anyB (fun w => !decide (kdS RT kd (lkP c kd N p) w = kd w)) (i + 1) = false by rw [anyB, h30, decide_eq_true h45]; rfl]; exact (by repeat' (first | exact trivial | refine ⟨Or.inl rfl, ?_⟩ | refine ⟨Or.inr rfl, ?_⟩)))
        · refine tk_iconst dX0_partKin_48 kc_iconst_1 ?_
          refine tk_goto dX0_partKin_49 ?_
          refine tk_istore2 dX0_partKin_53 rfl ?_
          first | refine tk_iinc3 dX0_partKin_54 (kc_inc _) rfl ?_ | refine tk_iinc3 dX0_partKin_54 rfl rfl ?_
          refine tk_goto dX0_partKin_57 ?_
          refine k _ ?_
          first
            | (rw [show anyB (fun w => !decide (kdS RT kd (lkP c kd N p) w = kd w)) (i + 1) = true by rw [anyB, h30, Bool.true_or]]; exact (by repeat' (first | exact trivial | refine ⟨Or.inl rfl, ?_⟩ | refine ⟨Or.inr rfl, ?_⟩)))
            | (rw [show anyB (fun w => !decide (kdS RT kd (lkP c kd N p) w = kd w)) (i + 1) = true by rw [anyB, decide_eq_false h45, Bool.not_false, Bool.or_true]]; exact (by repeat' (first | exact trivial | refine ⟨Or.inl rfl, ?_⟩ | refine ⟨Or.inr rfl, ?_⟩)))
            | (rw [show anyB (fun w => !decide (kdS RT kd (lkP c kd N p) w = kd w)) (i + 1) = false by rw [anyB, h30, decide_eq_true h45]; rfl]; exact (by repeat' (first | exact trivial | refine ⟨Or.inl rfl, ?_⟩ | refine ⟨Or.inr rfl, ?_⟩)))
end DRAFT4
