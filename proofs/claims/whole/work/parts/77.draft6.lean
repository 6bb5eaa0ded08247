/-! ===== the class: draft, kin found; cut ===== -/
section DRAFT6
variable {G : tkG} {n : Nat} {T : Nat → Nat × Nat} {I : Nat → Nat → Int32} {L : Nat → Nat → Int64} {P : Nat → Nat → Option Nat}
theorem c_kPass {N np rd : Nat} {c : Nat → Nat → Nat} {f : Nat → Int32} {kd : Nat → Nat} (hD : dObj T P) (hnp : I 28 0 = nI np) (hnp4 : np ≤ 4) (hN : I 28 2 = nI N) (hN2 : N ≤ 128) (hc : ∀ p, p < np → ∀ w, w < N → I 30 (128 * p + w) = nI (c p w) ∧ c p w < 256) (hKI : KI N np c f RT kd) {Q : Option tkV → tkH → Prop} (fin : ∀ g1 g2 g4 g5, (∀ w, w < N → g1 w = nI (kdP c N kd np w)) → ∀ l, tkle [some (vR 28), some (vI (tkb (ptd c N kd np))), some (vI (nI rd)), none] l → tkX G mX0_findKin 3 0 0 119 l [] (n, T, va_up (va_up I 31 g1) 32 g2, va_up (va_up L 34 g4) 35 g5, P) Q) : ∀ (k p : Nat) (g1 g2 : Nat → Int32) (g4 g5 : Nat → Int64), p + k = np → (∀ w, w < N → g1 w = nI (kdP c N kd p w)) → tkX G mX0_findKin 3 0 0 87 [some (vR 28), some (vI (tkb (ptd c N kd p))), some (vI (nI rd)), some (vI (nI p))] [] (n, T, va_up (va_up I 31 g1) 32 g2, va_up (va_up L 34 g4) 35 g5, P) Q := by
  have d1 := hD.1
  intro k
  induction k with
  | zero =>
    intro p g1 g2 g4 g5 hp hg
    refine tk_iload3 dX0_findKin_87 ?_
    refine tk_aload0 dX0_findKin_88 ?_
    refine tk_getI dX0_findKin_89 fX0_61 rfl (by first | assumption | exact va_up_self _ _ _ | exact (va_up_ne _ _ (by omega)).trans (by assumption) | exact congrArg Prod.fst (va_up_self _ _ _) | exact (congrArg Prod.fst (va_up_ne _ _ (by omega))).trans (by assumption) | exact (congrFun (va_up_ne _ _ (by omega)) _).trans (by assumption) | exact (va_up_ne _ _ (by omega)).trans (va_up_self _ _ _) | exact (va_up_ne _ _ (by omega)).trans ((va_up_ne _ _ (by omega)).trans (by assumption)) | exact (congrArg Prod.fst ((va_up_ne _ _ (by omega)).trans (va_up_ne _ _ (by omega)))).trans (by assumption) | exact (congrFun ((va_up_ne _ _ (by omega)).trans (va_up_ne _ _ (by omega))) _).trans (by assumption) | (rw [va_up_self, va_up_ne _ _ (by omega)]; assumption)) ?_
    rw [va_up_ne _ _ (by omega), va_up_ne _ _ (by omega), hnp]
    first | refine tk_icmp_geN dX0_findKin_92 (by omega) (by omega) (fun h92 => ?_) (fun h92 => ?_) | refine tk_jcmp_ge dX0_findKin_92 (fun h92 => ?_) (fun h92 => ?_)
    · rw [show p = np by omega] at hg ⊢
      exact fin g1 g2 g4 g5 hg _ (by repeat' (first | exact trivial | refine ⟨Or.inl rfl, ?_⟩ | refine ⟨Or.inr rfl, ?_⟩))
    · exfalso; omega
  | succ k ih =>
    intro p g1 g2 g4 g5 hp hg
    have hkp := kdP_KI hN2 hKI p (by omega)
    have hl := KI_lt hkp hN2
    refine tk_iload3 dX0_findKin_87 ?_
    refine tk_aload0 dX0_findKin_88 ?_
    refine tk_getI dX0_findKin_89 fX0_61 rfl (by first | assumption | exact va_up_self _ _ _ | exact (va_up_ne _ _ (by omega)).trans (by assumption) | exact congrArg Prod.fst (va_up_self _ _ _) | exact (congrArg Prod.fst (va_up_ne _ _ (by omega))).trans (by assumption) | exact (congrFun (va_up_ne _ _ (by omega)) _).trans (by assumption) | exact (va_up_ne _ _ (by omega)).trans (va_up_self _ _ _) | exact (va_up_ne _ _ (by omega)).trans ((va_up_ne _ _ (by omega)).trans (by assumption)) | exact (congrArg Prod.fst ((va_up_ne _ _ (by omega)).trans (va_up_ne _ _ (by omega)))).trans (by assumption) | exact (congrFun ((va_up_ne _ _ (by omega)).trans (va_up_ne _ _ (by omega))) _).trans (by assumption) | (rw [va_up_self, va_up_ne _ _ (by omega)]; assumption)) ?_
    rw [va_up_ne _ _ (by omega), va_up_ne _ _ (by omega), hnp]
    first | refine tk_icmp_geN dX0_findKin_92 (by omega) (by omega) (fun h92 => ?_) (fun h92 => ?_) | refine tk_jcmp_ge dX0_findKin_92 (fun h92 => ?_) (fun h92 => ?_)
    · exfalso; omega
    · refine tk_aload0 dX0_findKin_95 ?_
      refine tk_iload3 dX0_findKin_96 ?_
      refine tk_callV1q dX0_findKin_97 kX0_108 (by first | assumption | exact va_up_self _ _ _ | exact (va_up_ne _ _ (by omega)).trans (by assumption) | exact congrArg Prod.fst (va_up_self _ _ _) | exact (congrArg Prod.fst (va_up_ne _ _ (by omega))).trans (by assumption) | exact (congrFun (va_up_ne _ _ (by omega)) _).trans (by assumption) | exact (va_up_ne _ _ (by omega)).trans (va_up_self _ _ _) | exact (va_up_ne _ _ (by omega)).trans ((va_up_ne _ _ (by omega)).trans (by assumption)) | exact (congrArg Prod.fst ((va_up_ne _ _ (by omega)).trans (va_up_ne _ _ (by omega)))).trans (by assumption) | exact (congrFun ((va_up_ne _ _ (by omega)).trans (va_up_ne _ _ (by omega))) _).trans (by assumption) | (rw [va_up_self, va_up_ne _ _ (by omega)]; assumption)) (c_partKin (kd := kdP c N kd p) hD (by omega) (by rw [va_up_ne _ _ (by omega), va_up_ne _ _ (by omega)]; exact hN) hN2 (fun w hw => by rw [va_up_ne _ _ (by omega), va_up_ne _ _ (by omega)]; exact hc p (by omega) w hw) (fun w hw => ⟨by rw [va_up_ne _ _ (by omega), va_up_self]; exact hg w hw, hl w hw⟩) (fun w hw => (hkp.1 w hw rfl).2.1)) (Nat.le_of_ble_eq_true rfl) (by omega) ?_
      rintro rr h1 ⟨x1, x2, x4, x5, rfl, rfl, hx⟩
      dsimp only [Option.toList, List.cons_append, List.nil_append]
      simp only [va_up_self, bx_uu, tk_une, tk_usrt, not_false_eq_true, Nat.reduceEqDiff, Nat.reduceLT, Nat.reduceAdd, Nat.reduceMul, Nat.reduceLeDiff, reduceCtorEq]
      first | refine tk_jf_neB dX0_findKin_100 (fun h100 => ?_) (fun h100 => ?_) | refine tk_if_ne dX0_findKin_100 (fun h100 => ?_) (fun h100 => ?_)
      · refine tk_iconst dX0_findKin_107 kc_iconst_1 ?_
        refine tk_goto dX0_findKin_108 ?_
        refine tk_istore1 dX0_findKin_112 rfl ?_
        first | refine tk_iinc3 dX0_findKin_113 (kc_inc _) rfl ?_ | refine tk_iinc3 dX0_findKin_113 rfl rfl ?_
        refine tk_goto dX0_findKin_116 ?_
        have q := ih (p + 1) x1 x2 x4 x5 (by omega) hx
        have em : ptd c N kd (p + 1) = (anyB (fun w => !decide (kdP c N kd (p + 1) w = kdP c N kd p w)) N || ptd c N kd p) := rfl
        rw [em] at q
        first
          | (rw [show anyB (fun w => !decide (kdP c N kd (p + 1) w = kdP c N kd p w)) N = true from h100, Bool.true_or] at q; exact tk_wk (by repeat' (first | exact trivial | refine ⟨Or.inl rfl, ?_⟩ | refine ⟨Or.inr rfl, ?_⟩)) q)
          | (rw [show anyB (fun w => !decide (kdP c N kd (p + 1) w = kdP c N kd p w)) N = false from h100, h104, Bool.false_or] at q; exact tk_wk (by repeat' (first | exact trivial | refine ⟨Or.inl rfl, ?_⟩ | refine ⟨Or.inr rfl, ?_⟩)) q)
      · refine tk_iload1 dX0_findKin_103 ?_
        first | refine tk_jf_eqB dX0_findKin_104 (fun h104 => ?_) (fun h104 => ?_) | refine tk_if_eq dX0_findKin_104 (fun h104 => ?_) (fun h104 => ?_)
        · refine tk_iconst dX0_findKin_111 kc_iconst_0 ?_
          refine tk_istore1 dX0_findKin_112 rfl ?_
          first | refine tk_iinc3 dX0_findKin_113 (kc_inc _) rfl ?_ | refine tk_iinc3 dX0_findKin_113 rfl rfl ?_
          refine tk_goto dX0_findKin_116 ?_
          have q := ih (p + 1) x1 x2 x4 x5 (by omega) hx
          have em : ptd c N kd (p + 1) = (anyB (fun w => !decide (kdP c N kd (p + 1) w = kdP c N kd p w)) N || ptd c N kd p) := rfl
          rw [em] at q
          first
            | (rw [show anyB (fun w => !decide (kdP c N kd (p + 1) w = kdP c N kd p w)) N = true from h100, Bool.true_or] at q; exact tk_wk (by repeat' (first | exact trivial | refine ⟨Or.inl rfl, ?_⟩ | refine ⟨Or.inr rfl, ?_⟩)) q)
            | (rw [show anyB (fun w => !decide (kdP c N kd (p + 1) w = kdP c N kd p w)) N = false from h100, h104, Bool.false_or] at q; exact tk_wk (by repeat' (first | exact trivial | refine ⟨Or.inl rfl, ?_⟩ | refine ⟨Or.inr rfl, ?_⟩)) q)
        · refine tk_iconst dX0_findKin_107 kc_iconst_1 ?_
          refine tk_goto dX0_findKin_108 ?_
          refine tk_istore1 dX0_findKin_112 rfl ?_
          first | refine tk_iinc3 dX0_findKin_113 (kc_inc _) rfl ?_ | refine tk_iinc3 dX0_findKin_113 rfl rfl ?_
          refine tk_goto dX0_findKin_116 ?_
          have q := ih (p + 1) x1 x2 x4 x5 (by omega) hx
          have em : ptd c N kd (p + 1) = (anyB (fun w => !decide (kdP c N kd (p + 1) w = kdP c N kd p w)) N || ptd c N kd p) := rfl
          rw [em] at q
          first
            | (rw [show anyB (fun w => !decide (kdP c N kd (p + 1) w = kdP c N kd p w)) N = true from h100, Bool.true_or] at q; exact tk_wk (by repeat' (first | exact trivial | refine ⟨Or.inl rfl, ?_⟩ | refine ⟨Or.inr rfl, ?_⟩)) q)
            | (rw [show anyB (fun w => !decide (kdP c N kd (p + 1) w = kdP c N kd p w)) N = false from h100, h104, Bool.false_or] at q; exact tk_wk (by repeat' (first | exact trivial | refine ⟨Or.inl rfl, ?_⟩ | refine ⟨Or.inr rfl, ?_⟩)) q)
def FKQ (n : Nat) (T : Nat → Nat × Nat) (I : Nat → Nat → Int32) (L : Nat → Nat → Int64) (P : Nat → Nat → Option Nat) (N np : Nat) (c : Nat → Nat → Nat) : Option tkV → tkH → Prop := fun r h => ∃ kd g1 g2 g4 g5, r = none ∧ h = (n, T, va_up (va_up I 31 g1) 32 g2, va_up (va_up L 34 g4) 35 g5, P) ∧ (∀ w, w < N → g1 w = nI (kd w)) ∧ KND N np c (I 29) RT kd
theorem c_findKin {N np : Nat} {c : Nat → Nat → Nat} (hD : dObj T P) (hnp : I 28 0 = nI np) (hnp4 : np ≤ 4) (hN : I 28 2 = nI N) (hN1 : 1 ≤ N) (hN2 : N ≤ 128) (hc : ∀ p, p < np → ∀ w, w < N → I 30 (128 * p + w) = nI (c p w) ∧ c p w < 256) : tkM G mX0_findKin 3 0 0 [vR 28] (n, T, I, L, P) (FKQ n T I L P N np c) := by
  have hD' := hD
  obtain ⟨d1, d2, d3, d4, d5, d6, d7, d8, d9, d10, d11, d12, d13, d14, d15⟩ := hD'
  have ends : ∀ (kd : Nat → Nat) (g1 g2 : Nat → Int32) (g4 g5 : Nat → Int64), (∀ w, w < N → g1 w = nI (kd w)) → KND N np c (I 29) RT kd → tkX G mX0_findKin 3 0 0 125 [none, none, none, none] [] (n, T, va_up (va_up I 31 g1) 32 g2, va_up (va_up L 34 g4) 35 g5, P) (FKQ n T I L P N np c) := by
    intro kd g1 g2 g4 g5 i1 i3
    refine tk_return dX0_findKin_125 rfl ?_
    exact ⟨kd, g1, g2, g4, g5, rfl, rfl, i1, i3⟩
  have loop : ∀ (m rd : Nat) (kd : Nat → Nat) (gw : Bool) (g1 g2 : Nat → Int32) (g4 g5 : Nat → Int64), rd + m = N → (∀ w, w < N → g1 w = nI (kd w)) → KI N np c (I 29) RT kd → (gw = false → KND N np c (I 29) RT kd) → (gw = true → rd + 1 ≤ cntR (reps RT kd) N) → tkX G mX0_findKin 3 0 0 71 [some (vR 28), some (vI (tkb gw)), some (vI (nI rd)), none] [] (n, T, va_up (va_up I 31 g1) 32 g2, va_up (va_up L 34 g4) 35 g5, P) (FKQ n T I L P N np c) := by
    intro m
    induction m with
    | zero =>
      intro rd kd gw g1 g2 g4 g5 hm i1 i2 i3 i4
      refine tk_iload2 dX0_findKin_71 ?_
      refine tk_aload0 dX0_findKin_72 ?_
      refine tk_getI dX0_findKin_73 fX0_52 rfl (by first | assumption | exact va_up_self _ _ _ | exact (va_up_ne _ _ (by omega)).trans (by assumption) | exact congrArg Prod.fst (va_up_self _ _ _) | exact (congrArg Prod.fst (va_up_ne _ _ (by omega))).trans (by assumption) | exact (congrFun (va_up_ne _ _ (by omega)) _).trans (by assumption) | exact (va_up_ne _ _ (by omega)).trans (va_up_self _ _ _) | exact (va_up_ne _ _ (by omega)).trans ((va_up_ne _ _ (by omega)).trans (by assumption)) | exact (congrArg Prod.fst ((va_up_ne _ _ (by omega)).trans (va_up_ne _ _ (by omega)))).trans (by assumption) | exact (congrFun ((va_up_ne _ _ (by omega)).trans (va_up_ne _ _ (by omega))) _).trans (by assumption) | (rw [va_up_self, va_up_ne _ _ (by omega)]; assumption)) ?_
      rw [va_up_ne _ _ (by omega), va_up_ne _ _ (by omega), hN]
      first | refine tk_icmp_geN dX0_findKin_76 (by omega) (by omega) (fun h76 => ?_) (fun h76 => ?_) | refine tk_jcmp_ge dX0_findKin_76 (fun h76 => ?_) (fun h76 => ?_)
      · refine tk_wk (by repeat' (first | exact trivial | refine ⟨Or.inl rfl, ?_⟩ | refine ⟨Or.inr rfl, ?_⟩)) (ends kd g1 g2 g4 g5 i1 ?_)
        cases e : gw with
        | false => exact i3 e
        | true => have := i4 e; have := cntR_le (reps RT kd) N; exfalso; omega
      · exfalso; omega
    | succ m ih =>
      intro rd kd gw g1 g2 g4 g5 hm i1 i2 i3 i4
      refine tk_iload2 dX0_findKin_71 ?_
      refine tk_aload0 dX0_findKin_72 ?_
      refine tk_getI dX0_findKin_73 fX0_52 rfl (by first | assumption | exact va_up_self _ _ _ | exact (va_up_ne _ _ (by omega)).trans (by assumption) | exact congrArg Prod.fst (va_up_self _ _ _) | exact (congrArg Prod.fst (va_up_ne _ _ (by omega))).trans (by assumption) | exact (congrFun (va_up_ne _ _ (by omega)) _).trans (by assumption) | exact (va_up_ne _ _ (by omega)).trans (va_up_self _ _ _) | exact (va_up_ne _ _ (by omega)).trans ((va_up_ne _ _ (by omega)).trans (by assumption)) | exact (congrArg Prod.fst ((va_up_ne _ _ (by omega)).trans (va_up_ne _ _ (by omega)))).trans (by assumption) | exact (congrFun ((va_up_ne _ _ (by omega)).trans (va_up_ne _ _ (by omega))) _).trans (by assumption) | (rw [va_up_self, va_up_ne _ _ (by omega)]; assumption)) ?_
      rw [va_up_ne _ _ (by omega), va_up_ne _ _ (by omega), hN]
      first | refine tk_icmp_geN dX0_findKin_76 (by omega) (by omega) (fun h76 => ?_) (fun h76 => ?_) | refine tk_jcmp_ge dX0_findKin_76 (fun h76 => ?_) (fun h76 => ?_)
      · first
          | (exfalso; omega)
          | exact tk_wk (by repeat' (first | exact trivial | refine ⟨Or.inl rfl, ?_⟩ | refine ⟨Or.inr rfl, ?_⟩)) (ends kd g1 g2 g4 g5 i1 (i3 h80))
      · refine tk_iload1 dX0_findKin_79 ?_
        first | refine tk_jf_eqB dX0_findKin_80 (fun h80 => ?_) (fun h80 => ?_) | refine tk_if_eq dX0_findKin_80 (fun h80 => ?_) (fun h80 => ?_)
        · first
            | (exfalso; omega)
            | exact tk_wk (by repeat' (first | exact trivial | refine ⟨Or.inl rfl, ?_⟩ | refine ⟨Or.inr rfl, ?_⟩)) (ends kd g1 g2 g4 g5 i1 (i3 h80))
        · refine tk_iconst dX0_findKin_83 kc_iconst_0 ?_
          refine tk_istore1 dX0_findKin_84 rfl ?_
          refine tk_iconst dX0_findKin_85 kc_iconst_0 ?_
          refine tk_istore3 dX0_findKin_86 rfl ?_
          refine tk_wk (by repeat' (first | exact trivial | refine ⟨Or.inl rfl, ?_⟩ | refine ⟨Or.inr rfl, ?_⟩)) (c_kPass hD hnp hnp4 hN hN2 hc i2 (rd := rd) (fun y1 y2 y4 y5 hy l hl => ?_) np 0 g1 g2 g4 g5 (by omega) i1)
          refine tk_wk hl ?_
          first | refine tk_iinc2 dX0_findKin_119 (kc_inc _) rfl ?_ | refine tk_iinc2 dX0_findKin_119 rfl rfl ?_
          refine tk_goto dX0_findKin_122 ?_
          refine tk_wk (by repeat' (first | exact trivial | refine ⟨Or.inl rfl, ?_⟩ | refine ⟨Or.inr rfl, ?_⟩)) (ih (rd + 1) (kdP c N kd np) (ptd c N kd np) y1 y2 y4 y5 (by omega) hy (kdP_KI hN2 i2 np (Nat.le_refl _)) (fun e => kdP_KND hN2 i2 e) (fun e => ?_))
          have := (kdP_grow hN2 i2 np (Nat.le_refl _)).2 e
          have := i4 h80
          omega
  refine tkM.of (ls := [some _, none, none, none]) (by decide +kernel) (by decide +kernel) (Nat.le_of_ble_eq_true rfl) rfl ?_
  refine tk_iconst dX0_findKin_0 kc_iconst_0 ?_
  refine tk_istore1 dX0_findKin_1 rfl ?_
  refine tk_fr 0 N (fun i => [some (vR 28), some (vI (nI i)), none, none]) (fun i => (n, T, va_up I 31 (tkcp (I 31) (fun w => nI (kd0 RT (I 29) w)) i), L, P)) (by omega) (by repeat' (first | exact trivial | refine ⟨Or.inl rfl, ?_⟩ | refine ⟨Or.inr rfl, ?_⟩)) (by rw [tkcp_0, tk_up_id]) ?_ ?_
  · refine tk_iload1 dX0_findKin_2 ?_
    refine tk_aload0 dX0_findKin_3 ?_
    refine tk_getI dX0_findKin_4 fX0_52 rfl (by first | assumption | exact va_up_self _ _ _ | exact (va_up_ne _ _ (by omega)).trans (by assumption) | exact congrArg Prod.fst (va_up_self _ _ _) | exact (congrArg Prod.fst (va_up_ne _ _ (by omega))).trans (by assumption) | exact (congrFun (va_up_ne _ _ (by omega)) _).trans (by assumption) | exact (va_up_ne _ _ (by omega)).trans (va_up_self _ _ _) | exact (va_up_ne _ _ (by omega)).trans ((va_up_ne _ _ (by omega)).trans (by assumption)) | exact (congrArg Prod.fst ((va_up_ne _ _ (by omega)).trans (va_up_ne _ _ (by omega)))).trans (by assumption) | exact (congrFun ((va_up_ne _ _ (by omega)).trans (va_up_ne _ _ (by omega))) _).trans (by assumption) | (rw [va_up_self, va_up_ne _ _ (by omega)]; assumption)) ?_
    rw [va_up_ne _ _ (by omega), hN]
    first | refine tk_icmp_geN dX0_findKin_7 (by omega) (by omega) (fun h7 => ?_) (fun h7 => ?_) | refine tk_jcmp_ge dX0_findKin_7 (fun h7 => ?_) (fun h7 => ?_)
    · refine tk_iconst dX0_findKin_67 kc_iconst_1 ?_
      refine tk_istore1 dX0_findKin_68 rfl ?_
      refine tk_iconst dX0_findKin_69 kc_iconst_0 ?_
      refine tk_istore2 dX0_findKin_70 rfl ?_
      have q := loop N 0 (kd0 RT (I 29)) true (tkcp (I 31) (fun w => nI (kd0 RT (I 29) w)) N) (I 32) (L 34) (L 35) (by omega) (fun w hw => tkcp_lt hw) kd0_KI (fun e => by cases e) (fun _ => ?_)
      · have e1 : va_up (va_up I 31 (tkcp (I 31) (fun w => nI (kd0 RT (I 29) w)) N)) 32 (I 32) = va_up I 31 (tkcp (I 31) (fun w => nI (kd0 RT (I 29) w)) N) := tk_uid (by rw [va_up_ne _ _ (by omega)])
        have e2 : va_up (va_up L 34 (L 34)) 35 (L 35) = L := by rw [tk_up_id, tk_up_id]
        rw [e1, e2] at q
        exact tk_wk (by repeat' (first | exact trivial | refine ⟨Or.inl rfl, ?_⟩ | refine ⟨Or.inr rfl, ?_⟩)) q
      · have h0 : cntR (reps RT (kd0 RT (I 29))) 0 < cntR (reps RT (kd0 RT (I 29))) N := cntR_lt_of hN1 (by unfold reps; rw [kd0_w (fun u hu => by omega), decide_eq_true rfl]; rfl)
        rw [cntR] at h0
        omega
    · exfalso; omega
  · intro w _ hw k
    refine tk_iload1 dX0_findKin_2 ?_
    refine tk_aload0 dX0_findKin_3 ?_
    refine tk_getI dX0_findKin_4 fX0_52 rfl (by first | assumption | exact va_up_self _ _ _ | exact (va_up_ne _ _ (by omega)).trans (by assumption) | exact congrArg Prod.fst (va_up_self _ _ _) | exact (congrArg Prod.fst (va_up_ne _ _ (by omega))).trans (by assumption) | exact (congrFun (va_up_ne _ _ (by omega)) _).trans (by assumption) | exact (va_up_ne _ _ (by omega)).trans (va_up_self _ _ _) | exact (va_up_ne _ _ (by omega)).trans ((va_up_ne _ _ (by omega)).trans (by assumption)) | exact (congrArg Prod.fst ((va_up_ne _ _ (by omega)).trans (va_up_ne _ _ (by omega)))).trans (by assumption) | exact (congrFun ((va_up_ne _ _ (by omega)).trans (va_up_ne _ _ (by omega))) _).trans (by assumption) | (rw [va_up_self, va_up_ne _ _ (by omega)]; assumption)) ?_
    rw [va_up_ne _ _ (by omega), hN]
    first | refine tk_icmp_geN dX0_findKin_7 (by omega) (by omega) (fun h7 => ?_) (fun h7 => ?_) | refine tk_jcmp_ge dX0_findKin_7 (fun h7 => ?_) (fun h7 => ?_)
    · exfalso; omega
    · refine tk_aload0 dX0_findKin_10 ?_
      refine tk_getP dX0_findKin_11 fX0_18 rfl (by first | assumption | exact va_up_self _ _ _ | exact (va_up_ne _ _ (by omega)).trans (by assumption) | exact congrArg Prod.fst (va_up_self _ _ _) | exact (congrArg Prod.fst (va_up_ne _ _ (by omega))).trans (by assumption) | exact (congrFun (va_up_ne _ _ (by omega)) _).trans (by assumption) | exact (va_up_ne _ _ (by omega)).trans (va_up_self _ _ _) | exact (va_up_ne _ _ (by omega)).trans ((va_up_ne _ _ (by omega)).trans (by assumption)) | exact (congrArg Prod.fst ((va_up_ne _ _ (by omega)).trans (va_up_ne _ _ (by omega)))).trans (by assumption) | exact (congrFun ((va_up_ne _ _ (by omega)).trans (va_up_ne _ _ (by omega))) _).trans (by assumption) | (rw [va_up_self, va_up_ne _ _ (by omega)]; assumption)) (by first | assumption | exact va_up_self _ _ _ | exact (va_up_ne _ _ (by omega)).trans (by assumption) | exact congrArg Prod.fst (va_up_self _ _ _) | exact (congrArg Prod.fst (va_up_ne _ _ (by omega))).trans (by assumption) | exact (congrFun (va_up_ne _ _ (by omega)) _).trans (by assumption) | exact (va_up_ne _ _ (by omega)).trans (va_up_self _ _ _) | exact (va_up_ne _ _ (by omega)).trans ((va_up_ne _ _ (by omega)).trans (by assumption)) | exact (congrArg Prod.fst ((va_up_ne _ _ (by omega)).trans (va_up_ne _ _ (by omega)))).trans (by assumption) | exact (congrFun ((va_up_ne _ _ (by omega)).trans (va_up_ne _ _ (by omega))) _).trans (by assumption) | (rw [va_up_self, va_up_ne _ _ (by omega)]; assumption)) ?_
      refine tk_iload1 dX0_findKin_14 ?_
      refine tk_iload1 dX0_findKin_15 ?_
      refine tk_iast dX0_findKin_16 (by first | assumption | exact va_up_self _ _ _ | exact (va_up_ne _ _ (by omega)).trans (by assumption) | exact congrArg Prod.fst (va_up_self _ _ _) | exact (congrArg Prod.fst (va_up_ne _ _ (by omega))).trans (by assumption) | exact (congrFun (va_up_ne _ _ (by omega)) _).trans (by assumption) | exact (va_up_ne _ _ (by omega)).trans (va_up_self _ _ _) | exact (va_up_ne _ _ (by omega)).trans ((va_up_ne _ _ (by omega)).trans (by assumption)) | exact (congrArg Prod.fst ((va_up_ne _ _ (by omega)).trans (va_up_ne _ _ (by omega)))).trans (by assumption) | exact (congrFun ((va_up_ne _ _ (by omega)).trans (va_up_ne _ _ (by omega))) _).trans (by assumption) | (rw [va_up_self, va_up_ne _ _ (by omega)]; assumption)) (by omega) (by omega) ?_
      rw [bx_uu, va_up_self]
      refine tk_iload1 dX0_findKin_17 ?_
      refine tk_iconst dX0_findKin_18 kc_iconst_1 ?_
      first | refine tk_isubN dX0_findKin_19 (by omega) ?_ | refine tk_isub dX0_findKin_19 ?_
      refine tk_istore2 dX0_findKin_20 rfl ?_
      refine tk_wk (ls' := [some (vR 28), some (vI (nI w)), some (vI (ixm w)), none]) (by repeat' (first | exact trivial | refine ⟨Or.inl rfl, ?_⟩ | refine ⟨Or.inr rfl, ?_⟩)) (c_fkIn hD (by omega) (fun l hl => ?_) w (Nat.le_refl _) (fun u h1 h2 => by omega))
      rw [tkcp_s (I 31) (fun w => nI (kd0 RT (I 29) w))]
      refine tk_wk hl ?_
      first | refine tk_iinc1 dX0_findKin_61 (kc_inc _) rfl ?_ | refine tk_iinc1 dX0_findKin_61 rfl rfl ?_
      refine tk_goto dX0_findKin_64 ?_
      exact k _ (by repeat' (first | exact trivial | refine ⟨Or.inl rfl, ?_⟩ | refine ⟨Or.inr rfl, ?_⟩))
end DRAFT6
