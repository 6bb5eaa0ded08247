/-! ===== the class: its constructor ===== -/
def iN1 (T : Nat → Nat × Nat) (I : Nat → Nat → Int32) (L : Nat → Nat → Int64) (P : Nat → Nat → Option Nat) (s : Nat) : Prop := ((T 0).1 = 10 ∧ P 0 0 = some 10 ∧ P 0 1 = some 15 ∧ P 0 5 = some 16 ∧ I 0 2 = nI 0 ∧ I 0 3 = nI 0 ∧ I 0 4 = nI 0 ∧ T 15 = (26, 12) ∧ T 16 = (27, 4)) ∧ (∀ j, j < s → P 16 j = some (17 + 2 * j) ∧ hObj T P (17 + 2 * j) (18 + 2 * j) ∧ I (17 + 2 * j) 0 = nI 0 ∧ I (17 + 2 * j) 1 = nI 0 ∧ ∀ i, I (18 + 2 * j) i = 0) ∧ ∀ J, j0 J → cTown 15 T I L P 10 (rBeg J (nI 2) (nI 2) (nI 0) 4)
def cINI (T : Nat → Nat × Nat) (I : Nat → Nat → Int32) (L : Nat → Nat → Int64) (P : Nat → Nat → Option Nat) : Prop := kObj T P 10 ∧ I 0 2 = nI 0 ∧ I 0 3 = nI 0 ∧ I 0 4 = nI 0 ∧ T 15 = (26, 12) ∧ T 16 = (27, 4) ∧ (∀ j, j < 4 → P 16 j = some (17 + 2 * j) ∧ hObj T P (17 + 2 * j) (18 + 2 * j) ∧ I (17 + 2 * j) 0 = nI 0 ∧ I (17 + 2 * j) 1 = nI 0 ∧ ∀ i, I (18 + 2 * j) i = 0) ∧ cScr T I P ∧ ∀ J, j0 J → cTown 15 T I L P 10 (rBeg J (nI 2) (nI 2) (nI 0) 4)
def stg (n f a : Nat) (T : Nat → Nat × Nat) (I : Nat → Nat → Int32) (L : Nat → Nat → Int64) (P : Nat → Nat → Option Nat) (T' : Nat → Nat × Nat) (I' : Nat → Nat → Int32) (L' : Nat → Nat → Int64) (P' : Nat → Nat → Option Nat) : Prop := (∀ b, 0 < b → b < n → T' b = T b ∧ I' b = I b ∧ L' b = L b ∧ P' b = P b) ∧ T' 0 = T 0 ∧ I' 0 = I 0 ∧ P' 0 = va_up (P 0) f (some a)
section CTOR
variable {G : tkG} {n : Nat} {T T' : Nat → Nat × Nat} {I I' : Nat → Nat → Int32} {L L' : Nat → Nat → Int64} {P P' : Nat → Nat → Option Nat}
theorem town15 {A : Nat → Nat → Int32} (h : cTown 15 T I L P 10 A) (e : ∀ b, 0 < b → b < 15 → T' b = T b ∧ I' b = I b ∧ L' b = L b ∧ P' b = P b) : cTown 15 T' I' L' P' 10 A := h.ex ⟨Nat.le_refl _, fun a ha => e a (by have := ha.1; omega) ha.2⟩
theorem stg_of {a f : Nat} {T2 : Nat → Nat × Nat} {I2 : Nat → Nat → Int32} {L2 : Nat → Nat → Int64} {P2 : Nat → Nat → Option Nat} {x : Nat × Nat} (h0 : 0 < a) (hk : oKp (a + 1) a (va_up T a x) (va_up I a fun _ => 0) (va_up L a fun _ => 0) (va_up P a fun _ => none) T2 I2 L2 P2) : stg a f a T I L P T2 I2 L2 (va_up P2 0 (va_up (P2 0) f (some a))) := by
  have q : ∀ b, b < a → T2 b = T b ∧ I2 b = I b ∧ L2 b = L b ∧ P2 b = P b := fun b hb => by
    obtain ⟨x1, x2, x3⟩ := hk b (by omega)
    obtain ⟨x4, x5⟩ := x3 (by omega)
    rw [va_up_ne _ _ (by omega)] at x1 x2 x4 x5
    exact ⟨x1, x4, x2, x5⟩
  refine ⟨fun b h1 h2 => ?_, (q 0 h0).1, (q 0 h0).2.1, by rw [va_up_self, (q 0 h0).2.2.2]⟩
  obtain ⟨x1, x2, x3, x4⟩ := q b h2
  exact ⟨x1, x2, x3, by rw [va_up_ne _ _ (by omega)]; exact x4⟩
theorem ini_fin {TA TB TC : Nat → Nat × Nat} {IA IB IC : Nat → Nat → Int32} {LA LB LC : Nat → Nat → Int64} {PA PB PC : Nat → Nat → Option Nat} (h : iN1 T I L P 4) (s1 : stg 25 6 25 T I L P TA IA LA PA) (a1 : (TA 25).1 = 7 ∧ PA 25 3 = some 26 ∧ PA 25 4 = some 27 ∧ TA 26 = (20, 4) ∧ TA 27 = (21, 5) ∧ ∀ i, IA 26 i = 0) (s2 : stg 28 7 28 TA IA LA PA TB IB LB PB) (b1 : dObj TB PB) (s3 : stg 36 8 36 TB IB LB PB TC IC LC PC) (c1 : (TC 36).1 = 5 ∧ PC 36 0 = some 37 ∧ (TC 37).1 = 7 ∧ PC 37 3 = some 38 ∧ PC 37 4 = some 39 ∧ TC 38 = (20, 4) ∧ TC 39 = (21, 5) ∧ ∀ i, IC 38 i = 0) : cINI TC IC LC PC := by
  obtain ⟨⟨h1, h2, h3, h4, h5, h6, h7, h8, h9⟩, h10, h11⟩ := h
  obtain ⟨k1, t1, i1, p1⟩ := s1
  obtain ⟨k2, t2, i2, p2⟩ := s2
  obtain ⟨k3, t3, i3, p3⟩ := s3
  have kk : ∀ b, 0 < b → b < 25 → TC b = T b ∧ IC b = I b ∧ LC b = L b ∧ PC b = P b := fun b hb1 hb2 => by
    obtain ⟨x1, x2, x3, x4⟩ := k1 b hb1 hb2
    obtain ⟨y1, y2, y3, y4⟩ := k2 b hb1 (by omega)
    obtain ⟨z1, z2, z3, z4⟩ := k3 b hb1 (by omega)
    exact ⟨z1.trans (y1.trans x1), z2.trans (y2.trans x2), z3.trans (y3.trans x3), z4.trans (y4.trans x4)⟩
  have kA : ∀ b, 0 < b → b < 28 → TC b = TA b ∧ IC b = IA b ∧ LC b = LA b ∧ PC b = PA b := fun b hb1 hb2 => by
    obtain ⟨y1, y2, y3, y4⟩ := k2 b hb1 hb2
    obtain ⟨z1, z2, z3, z4⟩ := k3 b hb1 (by omega)
    exact ⟨z1.trans y1, z2.trans y2, z3.trans y3, z4.trans y4⟩
  have eI : IC 0 = I 0 := i3.trans (i2.trans i1)
  have eT : TC 0 = T 0 := t3.trans (t2.trans t1)
  have eP : PC 0 = va_up (va_up (va_up (P 0) 6 (some 25)) 7 (some 28)) 8 (some 36) := by rw [p3, p2, p1]
  obtain ⟨x1, x2, x3, x4, x5, x6⟩ := a1
  obtain ⟨y1, y2, y3, y4, y5, y6, y7, y8⟩ := c1
  refine ⟨⟨by rw [eT]; exact h1, ?_, ?_, ?_, ?_, ?_, ?_⟩, by rw [eI]; exact h5, by rw [eI]; exact h6, by rw [eI]; exact h7, by rw [(kk 15 (by omega) (by omega)).1]; exact h8, by rw [(kk 16 (by omega) (by omega)).1]; exact h9, fun j hj => ?_, ⟨?_, ⟨y3, y4, y5, y6, y7⟩, ?_, y1, y2, fun q _ => ?_, fun q _ => by rw [y8]; rfl⟩, fun J hJ => town15 (h11 J hJ) (fun b b1 b2 => kk b b1 (by omega))⟩
  · rw [eP]; simp only [va_up_self, bx_uu, tk_une, tk_usrt, not_false_eq_true, Nat.reduceEqDiff, Nat.reduceLT, Nat.reduceAdd, Nat.reduceMul, Nat.reduceLeDiff, reduceCtorEq]; exact h2
  · rw [eP]; simp only [va_up_self, bx_uu, tk_une, tk_usrt, not_false_eq_true, Nat.reduceEqDiff, Nat.reduceLT, Nat.reduceAdd, Nat.reduceMul, Nat.reduceLeDiff, reduceCtorEq]; exact h3
  · rw [eP]; simp only [va_up_self, bx_uu, tk_une, tk_usrt, not_false_eq_true, Nat.reduceEqDiff, Nat.reduceLT, Nat.reduceAdd, Nat.reduceMul, Nat.reduceLeDiff, reduceCtorEq]; exact h4
  · rw [eP]; simp only [va_up_self, bx_uu, tk_une, tk_usrt, not_false_eq_true, Nat.reduceEqDiff, Nat.reduceLT, Nat.reduceAdd, Nat.reduceMul, Nat.reduceLeDiff, reduceCtorEq]
  · rw [eP]; simp only [va_up_self, bx_uu, tk_une, tk_usrt, not_false_eq_true, Nat.reduceEqDiff, Nat.reduceLT, Nat.reduceAdd, Nat.reduceMul, Nat.reduceLeDiff, reduceCtorEq]
  · rw [eP]; simp only [va_up_self, bx_uu, tk_une, tk_usrt, not_false_eq_true, Nat.reduceEqDiff, Nat.reduceLT, Nat.reduceAdd, Nat.reduceMul, Nat.reduceLeDiff, reduceCtorEq]
  · have q := h10 j hj
    unfold hObj at q ⊢
    rw [(kk 16 (by omega) (by omega)).2.2.2, (kk (17 + 2 * j) (by omega) (by omega)).1, (kk (17 + 2 * j) (by omega) (by omega)).2.1, (kk (17 + 2 * j) (by omega) (by omega)).2.2.2, (kk (18 + 2 * j) (by omega) (by omega)).1, (kk (18 + 2 * j) (by omega) (by omega)).2.1]
    exact q
  · exact ⟨by rw [(kA 25 (by omega) (by omega)).1]; exact x1, by rw [(kA 25 (by omega) (by omega)).2.2.2]; exact x2, by rw [(kA 25 (by omega) (by omega)).2.2.2]; exact x3, by rw [(kA 26 (by omega) (by omega)).1]; exact x4, by rw [(kA 27 (by omega) (by omega)).1]; exact x5⟩
  · unfold dObj at b1 ⊢
    rw [(k3 28 (by omega) (by omega)).1, (k3 28 (by omega) (by omega)).2.2.2, (k3 29 (by omega) (by omega)).1, (k3 30 (by omega) (by omega)).1, (k3 31 (by omega) (by omega)).1, (k3 32 (by omega) (by omega)).1, (k3 33 (by omega) (by omega)).1, (k3 34 (by omega) (by omega)).1, (k3 35 (by omega) (by omega)).1]
    exact b1
  · rw [(kA 26 (by omega) (by omega)).2.1, x6]; rfl
theorem ini_loop : ∀ (k s mc ms : Nat), s + k = 4 → 15 + 2 * k ≤ mc → 1600 + 17 * k ≤ ms → ∀ T I L P, iN1 T I L P s → tkX G mX10_init 4 mc ms 69 [some (vR 0), some (vI (nI s))] [] (17 + 2 * s, T, I, L, P) (fun rv h => ∃ T' I' L' P', rv = none ∧ h = (40, T', I', L', P') ∧ cINI T' I' L' P') := by
  intro k
  induction k with
  | zero =>
    intro s mc ms hs hmc hms T I L P hi
    obtain rfl : s = 4 := by omega
    have hi' := hi
    obtain ⟨⟨h1, h2, h3, h4, h5, h6, h7, h8, h9⟩, h10, h11⟩ := hi'
    show tkX G mX10_init 4 mc ms 69 [some (vR 0), some (vI (nI 4))] [] (25, T, I, L, P) _
    refine tk_iload1 dX10_init_69 ?_
    refine tk_iconst dX10_init_70 kc_iconst_4 ?_
    first | refine tk_icmp_geN dX10_init_71 (by omega) (by omega) (fun h71 => ?_) (fun h71 => ?_) | refine tk_jcmp_ge dX10_init_71 (fun h71 => ?_) (fun h71 => ?_)
    · refine tk_aload0 dX10_init_93 ?_
      refine tk_newS dX10_init_94 nX10_40 (by omega) (by omega) ?_
      refine tk_dup dX10_init_97 rfl ?_
      refine tk_callIN0s dX10_init_98 kX10_42 (c_sightInit (n := 26) (a := 25) (by rw [va_up_self]) (by omega)) (Nat.le_of_ble_eq_true rfl) (by omega) (by omega) (by omega) ?_
      rintro rr hh1 ⟨TA, IA, LA, PA, rfl, rfl, kpA, xa1, xa2, xa3, xa4, xa5⟩
      dsimp only [Option.toList, List.nil_append]
      have sA := stg_of (f := 6) (by omega) kpA
      have ta0 : (TA 0).1 = 10 := by rw [sA.2.1]; exact hi.1.1
      have ta25 : (TA 25).1 = 7 := by rw [(kpA 25 (by omega)).1, va_up_self]
      refine tk_putP dX10_init_101 fX10_43 wX10_init_X10_6 rfl (by first | assumption | exact va_up_self _ _ _ | exact (va_up_ne _ _ (by omega)).trans (by assumption) | exact congrArg Prod.fst (va_up_self _ _ _) | exact (congrArg Prod.fst (va_up_ne _ _ (by omega))).trans (by assumption) | exact (congrFun (va_up_ne _ _ (by omega)) _).trans (by assumption) | exact (va_up_ne _ _ (by omega)).trans (va_up_self _ _ _) | exact (va_up_ne _ _ (by omega)).trans ((va_up_ne _ _ (by omega)).trans (by assumption)) | exact (congrArg Prod.fst ((va_up_ne _ _ (by omega)).trans (va_up_ne _ _ (by omega)))).trans (by assumption) | exact (congrFun ((va_up_ne _ _ (by omega)).trans (va_up_ne _ _ (by omega))) _).trans (by assumption) | (rw [va_up_self, va_up_ne _ _ (by omega)]; assumption)) ?_
      refine tk_aload0 dX10_init_104 ?_
      refine tk_newS dX10_init_105 nX10_47 (by omega) (by omega) ?_
      refine tk_dup dX10_init_108 rfl ?_
      refine tk_callIN0s dX10_init_109 kX10_49 (c_draftInit (n := 29) (a := 28) (by rw [va_up_self]) (by omega)) (Nat.le_of_ble_eq_true rfl) (by omega) (by omega) (by omega) ?_
      rintro rr hh1 ⟨TB, IB, LB, PB, rfl, rfl, kpB, xb1, xb2, xb3, xb4, xb5, xb6, xb7, yb1, yb2, yb3, yb4, yb5, yb6, yb7⟩
      dsimp only [Option.toList, List.nil_append]
      have sB := stg_of (f := 7) (by omega) kpB
      have tb0 : (TB 0).1 = 10 := by rw [sB.2.1]; exact ta0
      have tb28 : (TB 28).1 = 1 := by rw [(kpB 28 (by omega)).1, va_up_self]
      refine tk_putP dX10_init_112 fX10_50 wX10_init_X10_7 rfl (by first | assumption | exact va_up_self _ _ _ | exact (va_up_ne _ _ (by omega)).trans (by assumption) | exact congrArg Prod.fst (va_up_self _ _ _) | exact (congrArg Prod.fst (va_up_ne _ _ (by omega))).trans (by assumption) | exact (congrFun (va_up_ne _ _ (by omega)) _).trans (by assumption) | exact (va_up_ne _ _ (by omega)).trans (va_up_self _ _ _) | exact (va_up_ne _ _ (by omega)).trans ((va_up_ne _ _ (by omega)).trans (by assumption)) | exact (congrArg Prod.fst ((va_up_ne _ _ (by omega)).trans (va_up_ne _ _ (by omega)))).trans (by assumption) | exact (congrFun ((va_up_ne _ _ (by omega)).trans (va_up_ne _ _ (by omega))) _).trans (by assumption) | (rw [va_up_self, va_up_ne _ _ (by omega)]; assumption)) ?_
      refine tk_aload0 dX10_init_115 ?_
      refine tk_newS dX10_init_116 nX10_54 (by omega) (by omega) ?_
      refine tk_dup dX10_init_119 rfl ?_
      refine tk_callIN0s dX10_init_120 kX10_56 (c_schoolInit (n := 37) (a := 36) (by rw [va_up_self]) (by omega)) (Nat.le_of_ble_eq_true rfl) (by omega) (by omega) (by omega) ?_
      rintro rr hh1 ⟨TC, IC, LC, PC, rfl, rfl, kpC, xc1, xc2, xc3, xc4, xc5, xc6, xc7⟩
      dsimp only [Option.toList, List.nil_append]
      have sC := stg_of (f := 8) (by omega) kpC
      have tc0 : (TC 0).1 = 10 := by rw [sC.2.1]; exact tb0
      have tc36 : (TC 36).1 = 5 := by rw [(kpC 36 (by omega)).1, va_up_self]
      refine tk_putP dX10_init_123 fX10_57 wX10_init_X10_8 rfl (by first | assumption | exact va_up_self _ _ _ | exact (va_up_ne _ _ (by omega)).trans (by assumption) | exact congrArg Prod.fst (va_up_self _ _ _) | exact (congrArg Prod.fst (va_up_ne _ _ (by omega))).trans (by assumption) | exact (congrFun (va_up_ne _ _ (by omega)) _).trans (by assumption) | exact (va_up_ne _ _ (by omega)).trans (va_up_self _ _ _) | exact (va_up_ne _ _ (by omega)).trans ((va_up_ne _ _ (by omega)).trans (by assumption)) | exact (congrArg Prod.fst ((va_up_ne _ _ (by omega)).trans (va_up_ne _ _ (by omega)))).trans (by assumption) | exact (congrFun ((va_up_ne _ _ (by omega)).trans (va_up_ne _ _ (by omega))) _).trans (by assumption) | (rw [va_up_self, va_up_ne _ _ (by omega)]; assumption)) ?_
      refine tk_return dX10_init_126 rfl ?_
      refine ⟨TC, IC, LC, _, rfl, rfl, ini_fin hi sA ⟨ta25, ?_, ?_, xa1, xa2, xa3⟩ sB ⟨tb28, ?_, ?_, ?_, ?_, ?_, ?_, ?_, xb1, xb2, xb3, xb4, xb5, xb6, xb7⟩ sC ⟨tc36, ?_, xc1, ?_, ?_, xc2, xc3, xc4⟩⟩
      · rw [va_up_ne _ _ (by omega)]; exact xa4
      · rw [va_up_ne _ _ (by omega)]; exact xa5
      · rw [va_up_ne _ _ (by omega)]; exact yb1
      · rw [va_up_ne _ _ (by omega)]; exact yb2
      · rw [va_up_ne _ _ (by omega)]; exact yb3
      · rw [va_up_ne _ _ (by omega)]; exact yb4
      · rw [va_up_ne _ _ (by omega)]; exact yb5
      · rw [va_up_ne _ _ (by omega)]; exact yb6
      · rw [va_up_ne _ _ (by omega)]; exact yb7
      · rw [va_up_ne _ _ (by omega)]; exact xc7
      · rw [va_up_ne _ _ (by omega)]; exact xc5
      · rw [va_up_ne _ _ (by omega)]; exact xc6
    · exfalso; omega
  | succ k ih =>
    intro s mc ms hs hmc hms T I L P hi
    have hi' := hi
    obtain ⟨⟨h1, h2, h3, h4, h5, h6, h7, h8, h9⟩, h10, h11⟩ := hi'
    refine tk_iload1 dX10_init_69 ?_
    refine tk_iconst dX10_init_70 kc_iconst_4 ?_
    first | refine tk_icmp_geN dX10_init_71 (by omega) (by omega) (fun h71 => ?_) (fun h71 => ?_) | refine tk_jcmp_ge dX10_init_71 (fun h71 => ?_) (fun h71 => ?_)
    · exfalso; omega
    · refine tk_aload0 dX10_init_74 ?_
      refine tk_getP dX10_init_75 fX10_35 rfl (by first | assumption | exact va_up_self _ _ _ | exact (va_up_ne _ _ (by omega)).trans (by assumption) | exact congrArg Prod.fst (va_up_self _ _ _) | exact (congrArg Prod.fst (va_up_ne _ _ (by omega))).trans (by assumption) | exact (congrFun (va_up_ne _ _ (by omega)) _).trans (by assumption) | exact (va_up_ne _ _ (by omega)).trans (va_up_self _ _ _) | exact (va_up_ne _ _ (by omega)).trans ((va_up_ne _ _ (by omega)).trans (by assumption)) | exact (congrArg Prod.fst ((va_up_ne _ _ (by omega)).trans (va_up_ne _ _ (by omega)))).trans (by assumption) | exact (congrFun ((va_up_ne _ _ (by omega)).trans (va_up_ne _ _ (by omega))) _).trans (by assumption) | (rw [va_up_self, va_up_ne _ _ (by omega)]; assumption)) (by first | assumption | exact va_up_self _ _ _ | exact (va_up_ne _ _ (by omega)).trans (by assumption) | exact congrArg Prod.fst (va_up_self _ _ _) | exact (congrArg Prod.fst (va_up_ne _ _ (by omega))).trans (by assumption) | exact (congrFun (va_up_ne _ _ (by omega)) _).trans (by assumption) | exact (va_up_ne _ _ (by omega)).trans (va_up_self _ _ _) | exact (va_up_ne _ _ (by omega)).trans ((va_up_ne _ _ (by omega)).trans (by assumption)) | exact (congrArg Prod.fst ((va_up_ne _ _ (by omega)).trans (va_up_ne _ _ (by omega)))).trans (by assumption) | exact (congrFun ((va_up_ne _ _ (by omega)).trans (va_up_ne _ _ (by omega))) _).trans (by assumption) | (rw [va_up_self, va_up_ne _ _ (by omega)]; assumption)) ?_
      refine tk_iload1 dX10_init_78 ?_
      refine tk_newS dX10_init_79 nX10_33 (by omega) (by omega) ?_
      refine tk_dup dX10_init_82 rfl ?_
      refine tk_callIN0s dX10_init_83 kX10_39 (c_sheetInit (n := 17 + 2 * s + 1) (a := 17 + 2 * s) (by rw [va_up_self]) (by omega)) (Nat.le_of_ble_eq_true rfl) (by omega) (by omega) (by omega) ?_
      rintro rr hh1 ⟨T2, I2, L2, P2, rfl, rfl, kp, x1, x2, x3, x4, x5⟩
      dsimp only [Option.toList, List.nil_append]
      have q : ∀ b, b < 17 + 2 * s → T2 b = T b ∧ I2 b = I b ∧ L2 b = L b ∧ P2 b = P b := fun b hb => (by
        obtain ⟨y1, y2, y3⟩ := kp b (by omega)
        obtain ⟨y4, y5⟩ := y3 (by omega)
        rw [va_up_ne _ _ (by omega)] at y1 y2 y4 y5
        exact ⟨y1, y4, y2, y5⟩)
      have t16 : T2 16 = (27, 4) := by rw [(q 16 (by omega)).1]; exact h9
      have ts : (T2 (17 + 2 * s)).1 = 6 := by rw [(kp (17 + 2 * s) (by omega)).1, va_up_self]
      refine tk_aast dX10_init_86 (by first | assumption | exact va_up_self _ _ _ | exact (va_up_ne _ _ (by omega)).trans (by assumption) | exact congrArg Prod.fst (va_up_self _ _ _) | exact (congrArg Prod.fst (va_up_ne _ _ (by omega))).trans (by assumption) | exact (congrFun (va_up_ne _ _ (by omega)) _).trans (by assumption) | exact (va_up_ne _ _ (by omega)).trans (va_up_self _ _ _) | exact (va_up_ne _ _ (by omega)).trans ((va_up_ne _ _ (by omega)).trans (by assumption)) | exact (congrArg Prod.fst ((va_up_ne _ _ (by omega)).trans (va_up_ne _ _ (by omega)))).trans (by assumption) | exact (congrFun ((va_up_ne _ _ (by omega)).trans (va_up_ne _ _ (by omega))) _).trans (by assumption) | (rw [va_up_self, va_up_ne _ _ (by omega)]; assumption)) (by omega) (by omega) (by omega) (by first | assumption | exact va_up_self _ _ _ | exact (va_up_ne _ _ (by omega)).trans (by assumption) | exact congrArg Prod.fst (va_up_self _ _ _) | exact (congrArg Prod.fst (va_up_ne _ _ (by omega))).trans (by assumption) | exact (congrFun (va_up_ne _ _ (by omega)) _).trans (by assumption) | exact (va_up_ne _ _ (by omega)).trans (va_up_self _ _ _) | exact (va_up_ne _ _ (by omega)).trans ((va_up_ne _ _ (by omega)).trans (by assumption)) | exact (congrArg Prod.fst ((va_up_ne _ _ (by omega)).trans (va_up_ne _ _ (by omega)))).trans (by assumption) | exact (congrFun ((va_up_ne _ _ (by omega)).trans (va_up_ne _ _ (by omega))) _).trans (by assumption) | (rw [va_up_self, va_up_ne _ _ (by omega)]; assumption)) ?_
      first | refine tk_iinc1 dX10_init_87 (kc_inc _) rfl ?_ | refine tk_iinc1 dX10_init_87 rfl rfl ?_
      refine tk_goto dX10_init_90 ?_
      refine ih (s + 1) _ _ (by omega) (by omega) (by omega) _ _ _ _ ?_
      refine ⟨⟨by rw [(q 0 (by omega)).1]; exact h1, ?_, ?_, ?_, by rw [(q 0 (by omega)).2.1]; exact h5, by rw [(q 0 (by omega)).2.1]; exact h6, by rw [(q 0 (by omega)).2.1]; exact h7, by rw [(q 15 (by omega)).1]; exact h8, t16⟩, fun j hj => ?_, fun J hJ => town15 (h11 J hJ) (fun b b1 b2 => ?_)⟩
      · rw [va_up_ne _ _ (by omega), (q 0 (by omega)).2.2.2]; exact h2
      · rw [va_up_ne _ _ (by omega), (q 0 (by omega)).2.2.2]; exact h3
      · rw [va_up_ne _ _ (by omega), (q 0 (by omega)).2.2.2]; exact h4
      · by_cases e : j = s
        · subst e
          refine ⟨by rw [va_up_self, va_up_self], ⟨ts, ?_, ?_, by omega⟩, x3, x4, ?_⟩
          · rw [va_up_ne _ _ (by omega), x5]; congr 1; omega
          · rw [show 18 + 2 * j = 17 + 2 * j + 1 by omega]; exact x1
          · intro i; rw [show 18 + 2 * j = 17 + 2 * j + 1 by omega]; exact x2 i
        · have w := h10 j (by omega)
          unfold hObj at w ⊢
          rw [va_up_self, va_up_ne _ _ e, va_up_ne _ _ (show ¬ 17 + 2 * j = 16 by omega), (q 16 (by omega)).2.2.2, (q (17 + 2 * j) (by omega)).1, (q (17 + 2 * j) (by omega)).2.1, (q (17 + 2 * j) (by omega)).2.2.2, (q (18 + 2 * j) (by omega)).1, (q (18 + 2 * j) (by omega)).2.1]
          exact w
      · obtain ⟨y1, y2, y3, y4⟩ := q b (by omega)
        exact ⟨y1, y2, y3, by rw [va_up_ne _ _ (by omega)]; exact y4⟩
/-- the row of what is kept is filled: nothing else changes -/
theorem ini_kept {mc ms : Nat} {Q : Option tkV → tkH → Prop} (h1 : (T 0).1 = 10) (h8 : T 15 = (26, 12)) (t8 : (T 10).1 = 8) : ∀ (k i : Nat), i + k = 12 → ∀ P, P 0 0 = some 10 → P 0 1 = some 15 → (∀ P', (∀ a, ¬ a = 15 → P' a = P a) → tkX G mX10_init 4 mc ms 44 [some (vR 0), some (vI (nI 12))] [] (16, T, I, L, P') Q) → tkX G mX10_init 4 mc ms 22 [some (vR 0), some (vI (nI i))] [] (16, T, I, L, P) Q := by
  intro k
  induction k with
  | zero =>
    intro i hi P h2 h3 kk
    obtain rfl : i = 12 := by omega
    refine tk_iload1 dX10_init_22 ?_
    refine tk_bipush dX10_init_23 kc_bipush_12 ?_
    first | refine tk_icmp_geN dX10_init_25 (by omega) (by omega) (fun h25 => ?_) (fun h25 => ?_) | refine tk_jcmp_ge dX10_init_25 (fun h25 => ?_) (fun h25 => ?_)
    · exact kk P (fun a _ => rfl)
    · exfalso; omega
  | succ k ih =>
    intro i hi P h2 h3 kk
    refine tk_iload1 dX10_init_22 ?_
    refine tk_bipush dX10_init_23 kc_bipush_12 ?_
    first | refine tk_icmp_geN dX10_init_25 (by omega) (by omega) (fun h25 => ?_) (fun h25 => ?_) | refine tk_jcmp_ge dX10_init_25 (fun h25 => ?_) (fun h25 => ?_)
    · exfalso; omega
    · refine tk_aload0 dX10_init_28 ?_
      refine tk_getP dX10_init_29 fX10_19 rfl (by first | assumption | exact va_up_self _ _ _ | exact (va_up_ne _ _ (by omega)).trans (by assumption) | exact congrArg Prod.fst (va_up_self _ _ _) | exact (congrArg Prod.fst (va_up_ne _ _ (by omega))).trans (by assumption) | exact (congrFun (va_up_ne _ _ (by omega)) _).trans (by assumption) | exact (va_up_ne _ _ (by omega)).trans (va_up_self _ _ _) | exact (va_up_ne _ _ (by omega)).trans ((va_up_ne _ _ (by omega)).trans (by assumption)) | exact (congrArg Prod.fst ((va_up_ne _ _ (by omega)).trans (va_up_ne _ _ (by omega)))).trans (by assumption) | exact (congrFun ((va_up_ne _ _ (by omega)).trans (va_up_ne _ _ (by omega))) _).trans (by assumption) | (rw [va_up_self, va_up_ne _ _ (by omega)]; assumption)) (by first | assumption | exact va_up_self _ _ _ | exact (va_up_ne _ _ (by omega)).trans (by assumption) | exact congrArg Prod.fst (va_up_self _ _ _) | exact (congrArg Prod.fst (va_up_ne _ _ (by omega))).trans (by assumption) | exact (congrFun (va_up_ne _ _ (by omega)) _).trans (by assumption) | exact (va_up_ne _ _ (by omega)).trans (va_up_self _ _ _) | exact (va_up_ne _ _ (by omega)).trans ((va_up_ne _ _ (by omega)).trans (by assumption)) | exact (congrArg Prod.fst ((va_up_ne _ _ (by omega)).trans (va_up_ne _ _ (by omega)))).trans (by assumption) | exact (congrFun ((va_up_ne _ _ (by omega)).trans (va_up_ne _ _ (by omega))) _).trans (by assumption) | (rw [va_up_self, va_up_ne _ _ (by omega)]; assumption)) ?_
      refine tk_iload1 dX10_init_32 ?_
      refine tk_aload0 dX10_init_33 ?_
      refine tk_getP dX10_init_34 fX10_13 rfl (by first | assumption | exact va_up_self _ _ _ | exact (va_up_ne _ _ (by omega)).trans (by assumption) | exact congrArg Prod.fst (va_up_self _ _ _) | exact (congrArg Prod.fst (va_up_ne _ _ (by omega))).trans (by assumption) | exact (congrFun (va_up_ne _ _ (by omega)) _).trans (by assumption) | exact (va_up_ne _ _ (by omega)).trans (va_up_self _ _ _) | exact (va_up_ne _ _ (by omega)).trans ((va_up_ne _ _ (by omega)).trans (by assumption)) | exact (congrArg Prod.fst ((va_up_ne _ _ (by omega)).trans (va_up_ne _ _ (by omega)))).trans (by assumption) | exact (congrFun ((va_up_ne _ _ (by omega)).trans (va_up_ne _ _ (by omega))) _).trans (by assumption) | (rw [va_up_self, va_up_ne _ _ (by omega)]; assumption)) (by first | assumption | exact va_up_self _ _ _ | exact (va_up_ne _ _ (by omega)).trans (by assumption) | exact congrArg Prod.fst (va_up_self _ _ _) | exact (congrArg Prod.fst (va_up_ne _ _ (by omega))).trans (by assumption) | exact (congrFun (va_up_ne _ _ (by omega)) _).trans (by assumption) | exact (va_up_ne _ _ (by omega)).trans (va_up_self _ _ _) | exact (va_up_ne _ _ (by omega)).trans ((va_up_ne _ _ (by omega)).trans (by assumption)) | exact (congrArg Prod.fst ((va_up_ne _ _ (by omega)).trans (va_up_ne _ _ (by omega)))).trans (by assumption) | exact (congrFun ((va_up_ne _ _ (by omega)).trans (va_up_ne _ _ (by omega))) _).trans (by assumption) | (rw [va_up_self, va_up_ne _ _ (by omega)]; assumption)) ?_
      refine tk_aast dX10_init_37 (by first | assumption | exact va_up_self _ _ _ | exact (va_up_ne _ _ (by omega)).trans (by assumption) | exact congrArg Prod.fst (va_up_self _ _ _) | exact (congrArg Prod.fst (va_up_ne _ _ (by omega))).trans (by assumption) | exact (congrFun (va_up_ne _ _ (by omega)) _).trans (by assumption) | exact (va_up_ne _ _ (by omega)).trans (va_up_self _ _ _) | exact (va_up_ne _ _ (by omega)).trans ((va_up_ne _ _ (by omega)).trans (by assumption)) | exact (congrArg Prod.fst ((va_up_ne _ _ (by omega)).trans (va_up_ne _ _ (by omega)))).trans (by assumption) | exact (congrFun ((va_up_ne _ _ (by omega)).trans (va_up_ne _ _ (by omega))) _).trans (by assumption) | (rw [va_up_self, va_up_ne _ _ (by omega)]; assumption)) (by omega) (by omega) (by omega) (by first | assumption | exact va_up_self _ _ _ | exact (va_up_ne _ _ (by omega)).trans (by assumption) | exact congrArg Prod.fst (va_up_self _ _ _) | exact (congrArg Prod.fst (va_up_ne _ _ (by omega))).trans (by assumption) | exact (congrFun (va_up_ne _ _ (by omega)) _).trans (by assumption) | exact (va_up_ne _ _ (by omega)).trans (va_up_self _ _ _) | exact (va_up_ne _ _ (by omega)).trans ((va_up_ne _ _ (by omega)).trans (by assumption)) | exact (congrArg Prod.fst ((va_up_ne _ _ (by omega)).trans (va_up_ne _ _ (by omega)))).trans (by assumption) | exact (congrFun ((va_up_ne _ _ (by omega)).trans (va_up_ne _ _ (by omega))) _).trans (by assumption) | (rw [va_up_self, va_up_ne _ _ (by omega)]; assumption)) ?_
      first | refine tk_iinc1 dX10_init_38 (kc_inc _) rfl ?_ | refine tk_iinc1 dX10_init_38 rfl rfl ?_
      refine tk_goto dX10_init_41 ?_
      refine ih (i + 1) (by omega) _ ?_ ?_ (fun P' e => kk P' (fun a ha => ?_))
      · rw [va_up_ne _ _ (by omega)]; exact h2
      · rw [va_up_ne _ _ (by omega)]; exact h3
      · rw [e a ha, va_up_ne _ _ ha]
theorem ini_44 {mc ms : Nat} (hmc : 24 ≤ mc) (hms : 1672 ≤ ms) (h1 : (T 0).1 = 10) (h2 : P 0 0 = some 10) (h3 : P 0 1 = some 15) (h8 : T 15 = (26, 12)) (tn : ∀ J, j0 J → cTown 15 T I L P 10 (rBeg J (nI 2) (nI 2) (nI 0) 4)) : tkX G mX10_init 4 mc ms 44 [some (vR 0), some (vI (nI 12))] [] (16, T, I, L, P) (fun rv h => ∃ T' I' L' P', rv = none ∧ h = (40, T', I', L', P') ∧ cINI T' I' L' P') := by
  refine tk_aload0 dX10_init_44 ?_
  refine tk_iconst dX10_init_45 kc_iconst_0 ?_
  refine tk_putI dX10_init_46 fX10_23 wX10_init_X10_2 rfl (by first | assumption | exact va_up_self _ _ _ | exact (va_up_ne _ _ (by omega)).trans (by assumption) | exact congrArg Prod.fst (va_up_self _ _ _) | exact (congrArg Prod.fst (va_up_ne _ _ (by omega))).trans (by assumption) | exact (congrFun (va_up_ne _ _ (by omega)) _).trans (by assumption) | exact (va_up_ne _ _ (by omega)).trans (va_up_self _ _ _) | exact (va_up_ne _ _ (by omega)).trans ((va_up_ne _ _ (by omega)).trans (by assumption)) | exact (congrArg Prod.fst ((va_up_ne _ _ (by omega)).trans (va_up_ne _ _ (by omega)))).trans (by assumption) | exact (congrFun ((va_up_ne _ _ (by omega)).trans (va_up_ne _ _ (by omega))) _).trans (by assumption) | (rw [va_up_self, va_up_ne _ _ (by omega)]; assumption)) ?_
  refine tk_aload0 dX10_init_49 ?_
  refine tk_iconst dX10_init_50 kc_iconst_0 ?_
  refine tk_putI dX10_init_51 fX10_27 wX10_init_X10_3 rfl (by first | assumption | exact va_up_self _ _ _ | exact (va_up_ne _ _ (by omega)).trans (by assumption) | exact congrArg Prod.fst (va_up_self _ _ _) | exact (congrArg Prod.fst (va_up_ne _ _ (by omega))).trans (by assumption) | exact (congrFun (va_up_ne _ _ (by omega)) _).trans (by assumption) | exact (va_up_ne _ _ (by omega)).trans (va_up_self _ _ _) | exact (va_up_ne _ _ (by omega)).trans ((va_up_ne _ _ (by omega)).trans (by assumption)) | exact (congrArg Prod.fst ((va_up_ne _ _ (by omega)).trans (va_up_ne _ _ (by omega)))).trans (by assumption) | exact (congrFun ((va_up_ne _ _ (by omega)).trans (va_up_ne _ _ (by omega))) _).trans (by assumption) | (rw [va_up_self, va_up_ne _ _ (by omega)]; assumption)) ?_
  refine tk_aload0 dX10_init_54 ?_
  refine tk_iconst dX10_init_55 kc_iconst_0 ?_
  refine tk_putI dX10_init_56 fX10_30 wX10_init_X10_4 rfl (by first | assumption | exact va_up_self _ _ _ | exact (va_up_ne _ _ (by omega)).trans (by assumption) | exact congrArg Prod.fst (va_up_self _ _ _) | exact (congrArg Prod.fst (va_up_ne _ _ (by omega))).trans (by assumption) | exact (congrFun (va_up_ne _ _ (by omega)) _).trans (by assumption) | exact (va_up_ne _ _ (by omega)).trans (va_up_self _ _ _) | exact (va_up_ne _ _ (by omega)).trans ((va_up_ne _ _ (by omega)).trans (by assumption)) | exact (congrArg Prod.fst ((va_up_ne _ _ (by omega)).trans (va_up_ne _ _ (by omega)))).trans (by assumption) | exact (congrFun ((va_up_ne _ _ (by omega)).trans (va_up_ne _ _ (by omega))) _).trans (by assumption) | (rw [va_up_self, va_up_ne _ _ (by omega)]; assumption)) ?_
  refine tk_aload0 dX10_init_59 ?_
  refine tk_iconst dX10_init_60 kc_iconst_4 ?_
  refine tk_anewS (t := 27) dX10_init_61 (by omega) (by omega) rfl caX10_33 tk_ao27 (by omega) (by omega) (by omega) ?_
  refine tk_putP dX10_init_64 fX10_35 wX10_init_X10_5 rfl (by first | assumption | exact va_up_self _ _ _ | exact (va_up_ne _ _ (by omega)).trans (by assumption) | exact congrArg Prod.fst (va_up_self _ _ _) | exact (congrArg Prod.fst (va_up_ne _ _ (by omega))).trans (by assumption) | exact (congrFun (va_up_ne _ _ (by omega)) _).trans (by assumption) | exact (va_up_ne _ _ (by omega)).trans (va_up_self _ _ _) | exact (va_up_ne _ _ (by omega)).trans ((va_up_ne _ _ (by omega)).trans (by assumption)) | exact (congrArg Prod.fst ((va_up_ne _ _ (by omega)).trans (va_up_ne _ _ (by omega)))).trans (by assumption) | exact (congrFun ((va_up_ne _ _ (by omega)).trans (va_up_ne _ _ (by omega))) _).trans (by assumption) | (rw [va_up_self, va_up_ne _ _ (by omega)]; assumption)) ?_
  refine tk_iconst dX10_init_67 kc_iconst_0 ?_
  refine tk_istore1 dX10_init_68 rfl ?_
  refine ini_loop 4 0 _ _ (by omega) (by omega) (by omega) _ _ _ _ ⟨⟨?_, ?_, ?_, ?_, ?_, ?_, ?_, ?_, ?_⟩, fun j hj => absurd hj (by omega), fun J hJ => town15 (tn J hJ) (fun b b1 b2 => ?_)⟩
  · simp only [va_up_self, bx_uu, tk_une, tk_usrt, not_false_eq_true, Nat.reduceEqDiff, Nat.reduceLT, Nat.reduceAdd, Nat.reduceMul, Nat.reduceLeDiff, reduceCtorEq]; exact h1
  · simp only [va_up_self, bx_uu, tk_une, tk_usrt, not_false_eq_true, Nat.reduceEqDiff, Nat.reduceLT, Nat.reduceAdd, Nat.reduceMul, Nat.reduceLeDiff, reduceCtorEq]; exact h2
  · simp only [va_up_self, bx_uu, tk_une, tk_usrt, not_false_eq_true, Nat.reduceEqDiff, Nat.reduceLT, Nat.reduceAdd, Nat.reduceMul, Nat.reduceLeDiff, reduceCtorEq]; exact h3
  · simp only [va_up_self, bx_uu, tk_une, tk_usrt, not_false_eq_true, Nat.reduceEqDiff, Nat.reduceLT, Nat.reduceAdd, Nat.reduceMul, Nat.reduceLeDiff, reduceCtorEq]
  · simp only [va_up_self, bx_uu, tk_une, tk_usrt, not_false_eq_true, Nat.reduceEqDiff, Nat.reduceLT, Nat.reduceAdd, Nat.reduceMul, Nat.reduceLeDiff, reduceCtorEq]
  · simp only [va_up_self, bx_uu, tk_une, tk_usrt, not_false_eq_true, Nat.reduceEqDiff, Nat.reduceLT, Nat.reduceAdd, Nat.reduceMul, Nat.reduceLeDiff, reduceCtorEq]
  · simp only [va_up_self, bx_uu, tk_une, tk_usrt, not_false_eq_true, Nat.reduceEqDiff, Nat.reduceLT, Nat.reduceAdd, Nat.reduceMul, Nat.reduceLeDiff, reduceCtorEq]
  · simp only [va_up_self, bx_uu, tk_une, tk_usrt, not_false_eq_true, Nat.reduceEqDiff, Nat.reduceLT, Nat.reduceAdd, Nat.reduceMul, Nat.reduceLeDiff, reduceCtorEq]; exact h8
  · simp only [va_up_self, bx_uu, tk_une, tk_usrt, not_false_eq_true, Nat.reduceEqDiff, Nat.reduceLT, Nat.reduceAdd, Nat.reduceMul, Nat.reduceLeDiff, reduceCtorEq]
  · have z0 : ¬ b = 0 := (by omega)
    have z16 : ¬ b = 16 := (by omega)
    simp only [tk_une z0, tk_une z16, and_self]
theorem k_init (h0 : (T 0).1 = 10) : tkM G mX10_init 4 39 2000 [vR 0] (1, T, I, L, P) (fun rv h => ∃ T' I' L' P', rv = none ∧ h = (40, T', I', L', P') ∧ cINI T' I' L' P') := by
  refine tkM.of (ls := [some _, none]) (by decide +kernel) (by decide +kernel) (Nat.le_of_ble_eq_true rfl) rfl ?_
  refine tk_aload0 dX10_init_0 ?_
  refine tk_objInit dX10_init_1 oiX10_1 (Nat.le_of_ble_eq_true rfl) (by omega) ?_
  refine tk_aload0 dX10_init_4 ?_
  refine tk_callS0s dX10_init_5 kX10_7 (c_first) (Nat.le_of_ble_eq_true rfl) (by omega) (by omega) (by omega) ?_
  rintro rr hh1 ⟨T1, I1, L1, P1, rfl, rfl, nw, tn⟩
  dsimp only [Option.toList, List.singleton_append]
  have t10 : (T1 0).1 = 10 := by rw [(nw.2 0 (by omega)).1]; exact h0
  have t8 : (T1 10).1 = 8 := (tn (fun _ _ => 0) (fun _ _ _ => rfl)).tg.2
  refine tk_putP dX10_init_8 fX10_13 wX10_init_X10_0 rfl (by first | assumption | exact va_up_self _ _ _ | exact (va_up_ne _ _ (by omega)).trans (by assumption) | exact congrArg Prod.fst (va_up_self _ _ _) | exact (congrArg Prod.fst (va_up_ne _ _ (by omega))).trans (by assumption) | exact (congrFun (va_up_ne _ _ (by omega)) _).trans (by assumption) | exact (va_up_ne _ _ (by omega)).trans (va_up_self _ _ _) | exact (va_up_ne _ _ (by omega)).trans ((va_up_ne _ _ (by omega)).trans (by assumption)) | exact (congrArg Prod.fst ((va_up_ne _ _ (by omega)).trans (va_up_ne _ _ (by omega)))).trans (by assumption) | exact (congrFun ((va_up_ne _ _ (by omega)).trans (va_up_ne _ _ (by omega))) _).trans (by assumption) | (rw [va_up_self, va_up_ne _ _ (by omega)]; assumption)) ?_
  refine tk_aload0 dX10_init_11 ?_
  refine tk_bipush dX10_init_12 kc_bipush_12 ?_
  refine tk_anewS (t := 26) dX10_init_14 (by omega) (by omega) rfl caX10_8 tk_ao26 (by omega) (by omega) (by omega) ?_
  refine tk_putP dX10_init_17 fX10_19 wX10_init_X10_1 rfl (by first | assumption | exact va_up_self _ _ _ | exact (va_up_ne _ _ (by omega)).trans (by assumption) | exact congrArg Prod.fst (va_up_self _ _ _) | exact (congrArg Prod.fst (va_up_ne _ _ (by omega))).trans (by assumption) | exact (congrFun (va_up_ne _ _ (by omega)) _).trans (by assumption) | exact (va_up_ne _ _ (by omega)).trans (va_up_self _ _ _) | exact (va_up_ne _ _ (by omega)).trans ((va_up_ne _ _ (by omega)).trans (by assumption)) | exact (congrArg Prod.fst ((va_up_ne _ _ (by omega)).trans (va_up_ne _ _ (by omega)))).trans (by assumption) | exact (congrFun ((va_up_ne _ _ (by omega)).trans (va_up_ne _ _ (by omega))) _).trans (by assumption) | (rw [va_up_self, va_up_ne _ _ (by omega)]; assumption)) ?_
  refine tk_iconst dX10_init_20 kc_iconst_0 ?_
  refine tk_istore1 dX10_init_21 rfl ?_
  refine ini_kept ?_ ?_ ?_ 12 0 (by omega) _ ?_ ?_ (fun P2 e2 => ini_44 (by omega) (by omega) ?_ ?_ ?_ ?_ (fun J hJ => town15 (tn J hJ) (fun b b1 b2 => ?_)))
  · simp only [va_up_self, bx_uu, tk_une, tk_usrt, not_false_eq_true, Nat.reduceEqDiff, Nat.reduceLT, Nat.reduceAdd, Nat.reduceMul, Nat.reduceLeDiff, reduceCtorEq]; exact t10
  · simp only [va_up_self, bx_uu, tk_une, tk_usrt, not_false_eq_true, Nat.reduceEqDiff, Nat.reduceLT, Nat.reduceAdd, Nat.reduceMul, Nat.reduceLeDiff, reduceCtorEq]
  · simp only [va_up_self, bx_uu, tk_une, tk_usrt, not_false_eq_true, Nat.reduceEqDiff, Nat.reduceLT, Nat.reduceAdd, Nat.reduceMul, Nat.reduceLeDiff, reduceCtorEq]; exact t8
  · simp only [va_up_self, bx_uu, tk_une, tk_usrt, not_false_eq_true, Nat.reduceEqDiff, Nat.reduceLT, Nat.reduceAdd, Nat.reduceMul, Nat.reduceLeDiff, reduceCtorEq]
  · simp only [va_up_self, bx_uu, tk_une, tk_usrt, not_false_eq_true, Nat.reduceEqDiff, Nat.reduceLT, Nat.reduceAdd, Nat.reduceMul, Nat.reduceLeDiff, reduceCtorEq]
  · simp only [va_up_self, bx_uu, tk_une, tk_usrt, not_false_eq_true, Nat.reduceEqDiff, Nat.reduceLT, Nat.reduceAdd, Nat.reduceMul, Nat.reduceLeDiff, reduceCtorEq]; exact t10
  · rw [e2 0 (by omega)]; simp only [va_up_self, bx_uu, tk_une, tk_usrt, not_false_eq_true, Nat.reduceEqDiff, Nat.reduceLT, Nat.reduceAdd, Nat.reduceMul, Nat.reduceLeDiff, reduceCtorEq]
  · rw [e2 0 (by omega)]; simp only [va_up_self, bx_uu, tk_une, tk_usrt, not_false_eq_true, Nat.reduceEqDiff, Nat.reduceLT, Nat.reduceAdd, Nat.reduceMul, Nat.reduceLeDiff, reduceCtorEq]
  · simp only [va_up_self, bx_uu, tk_une, tk_usrt, not_false_eq_true, Nat.reduceEqDiff, Nat.reduceLT, Nat.reduceAdd, Nat.reduceMul, Nat.reduceLeDiff, reduceCtorEq]
  · have z0 : ¬ b = 0 := (by omega)
    have z15 : ¬ b = 15 := (by omega)
    rw [e2 b z15]
    simp only [tk_une z0, tk_une z15, and_self]
end CTOR
