/-! ===== the class: draft, worlds made ===== -/
def soB (x f pl : Nat) : Int64 := if kshr (nI x) (nI f) &&& nI 1 = nI 1 then jshl 1 (nI pl) else 0
theorem soB_d : ∀ x, x < 16 → ∀ f, f < 4 → (kushr (nI x) (nI f)).toInt64 &&& 1 = if kshr (nI x) (nI f) &&& nI 1 = nI 1 then 1 else 0 := by decide +kernel
theorem jshl_0 {k : Nat} (hk : k < 64) : jshl 0 (nI k) = 0 := tb_ext (fun i hi => by rw [tb_shl 0 hk hi, tb_0, tb_0, Bool.and_false])
theorem soB_eq {x f pl : Nat} (hx : x < 16) (hf : f < 4) (hp : pl < 64) : jshl ((kushr (nI x) (nI f)).toInt64 &&& 1) (nI pl) = soB x f pl := by
  rw [soB_d x hx f hf]
  unfold soB
  split
  · rfl
  · exact jshl_0 hp
theorem tb_soB {x f pl i : Nat} (hp : pl < 64) : tb (soB x f pl) i = true ↔ (kshr (nI x) (nI f) &&& nI 1 = nI 1) ∧ i = pl := by
  unfold soB
  split
  · rename_i h; rw [tb_one hp]; exact ⟨fun q => ⟨h, q⟩, fun q => q.2⟩
  · rename_i h; rw [tb_0]; exact ⟨fun q => (by cases q), fun q => absurd q.1 h⟩
def soA (kd fx : Nat → Nat) (f m i : Nat) : Prop := ∃ v, v < m ∧ kd v = v ∧ (kshr (nI (fx v)) (nI f) &&& nI 1 = nI 1) ∧ cntR (reps RT kd) v = i
theorem soA_no {kd fx : Nat → Nat} {f w i : Nat} (h : ¬ kd w = w) : soA kd fx f w i ↔ soA kd fx f (w + 1) i := by
  constructor
  · rintro ⟨v, a, b⟩
    exact ⟨v, by omega, b⟩
  · rintro ⟨v, a, b, d⟩
    refine ⟨v, ?_, b, d⟩
    by_cases e : v = w
    · subst e; exact absurd b h
    · omega
theorem soA_up {kd fx : Nat → Nat} {f w i : Nat} {S : Int64} (h : ∀ i, tb S i = true ↔ soA kd fx f w i) (hr : kd w = w) (hp : cntR (reps RT kd) w < 64) : tb (S ||| soB (fx w) f (cntR (reps RT kd) w)) i = true ↔ soA kd fx f (w + 1) i := by
  rw [tb_orT, h i, tb_soB hp]
  constructor
  · rintro (⟨v, a, b⟩ | ⟨a, b⟩)
    · exact ⟨v, by omega, b⟩
    · exact ⟨w, by omega, hr, a, b.symm⟩
  · rintro ⟨v, a, b, d, g⟩
    by_cases e : v = w
    · subst e; exact Or.inr ⟨d, g.symm⟩
    · exact Or.inl ⟨v, by omega, b, d, g⟩
theorem dObj.cg {T T' : Nat → Nat × Nat} {P P' : Nat → Nat → Option Nat} (h : dObj T P) (h1 : ∀ a, a < 87 → T' a = T a) (h2 : P' 28 = P 28) : dObj T' P' := by
  unfold dObj
  rw [h1 28 (by omega), h1 29 (by omega), h1 30 (by omega), h1 31 (by omega), h1 32 (by omega), h1 33 (by omega), h1 34 (by omega), h1 35 (by omega), h2]
  exact h
section MADE_
variable {G : tkG} {n : Nat} {T : Nat → Nat × Nat} {I : Nat → Nat → Int32} {L : Nat → Nat → Int64} {P : Nat → Nat → Option Nat}
def MDQ (n : Nat) (T : Nat → Nat × Nat) (I : Nat → Nat → Int32) (L : Nat → Nat → Int64) (P : Nat → Nat → Option Nat) (np nf W r N : Nat) (c : Nat → Nat → Nat) (kd fx : Nat → Nat) : Option tkV → tkH → Prop := fun rv h => ∃ T' I' L' P', rv = some (vR (n + 1 + 1)) ∧ h = (n + 1 + 1 + 1, T', I', L', P') ∧ (∀ a, a < n → T' a = T a ∧ I' a = I a ∧ P' a = P a ∧ (¬ a = 34 → ¬ a = 35 → L' a = L a)) ∧ (T' (n + 1 + 1)).1 = 9 ∧ I' (n + 1 + 1) 0 = nI np ∧ I' (n + 1 + 1) 1 = nI nf ∧ I' (n + 1 + 1) 2 = nI W ∧ I' (n + 1 + 1) 3 = nI r ∧ P' (n + 1 + 1) 4 = some n ∧ P' (n + 1 + 1) 5 = some (n + 1) ∧ T' n = (21, nf) ∧ T' (n + 1) = (21, np * W) ∧ (∀ f, f < nf → ∀ i, tb (L' n f) i = true ↔ soA kd fx f N i) ∧ ∀ p, p < np → ∀ w, w < N → kd w = w → ∀ i, tb (L' (n + 1) (p * W + cntR (reps RT kd) w)) i = true ↔ lcA c kd N p N (fpl c kd N p w) i
theorem c_made {np nf W N r0 : Nat} {c : Nat → Nat → Nat} {f : Nat → Int32} {kd fx : Nat → Nat} (hn : 87 ≤ n) (hD : dObj T P) (hnp : I 28 0 = nI np) (hnp4 : np ≤ 4) (hnf : I 28 1 = nI nf) (hnf4 : nf ≤ 4) (hN : I 28 2 = nI N) (hN2 : N ≤ 128) (hr : I 28 3 = nI r0) (hr0 : r0 < N) (hW : I 28 4 = nI W) (hWc : W = cntR (reps RT kd) N) (hW2 : W ≤ 64) (hc : ∀ p, p < np → ∀ w, w < N → I 30 (128 * p + w) = nI (c p w) ∧ c p w < 256) (hki : ∀ w, w < N → I 31 w = nI (kd w) ∧ I 32 w = nI (cntR (reps RT kd) w)) (hK : KND N np c f RT kd) (hfx : ∀ w, w < N → I 29 w = nI (fx w) ∧ fx w < 16) : tkM G mX0_made 4 3 266 [vR 28] (n, T, I, L, P) (MDQ n T I L P np nf W (cntR (reps RT kd) (kd r0)) N c kd fx) := by
  have hD' := hD
  obtain ⟨d1, d2, d3, d4, d5, d6, d7, d8, d9, d10, d11, d12, d13, d14, d15⟩ := hD'
  have hk : ∀ u, u < N → kd u < N := fun u hu => by have := (hK.1.1 u hu rfl).2.1; omega
  have hkr := hk r0 hr0
  have hpl : ∀ w, w < N → kd w = w → cntR (reps RT kd) w < W := fun w hw hr => by rw [hWc]; exact cntR_lt_of hw (repsT.mpr hr)
  have hle : np * W ≤ 4 * W := Nat.mul_le_mul_right W hnp4
  have rest : ∀ (T2 : Nat → Nat × Nat) (I2 : Nat → Nat → Int32) (L2 : Nat → Nat → Int64) (P2 : Nat → Nat → Option Nat) (mc ms : Nat), 1 ≤ mc → 6 ≤ ms → (∀ a, a < n → T2 a = T a ∧ I2 a = I a ∧ L2 a = L a ∧ P2 a = P a) → T2 n = (21, nf) → T2 (n + 1) = (21, np * W) → (∀ j, L2 n j = 0) → (∀ j, L2 (n + 1) j = 0) → tkX G mX0_made 4 mc ms 21 [some (vR 28), some (vR n), some (vR (n + 1)), some (vI (nI 0)), none] [] (n + 1 + 1, T2, I2, L2, P2) (MDQ n T I L P np nf W (cntR (reps RT kd) (kd r0)) N c kd fx) := by
    intro T2 I2 L2 P2 mc ms hmc hms h2 t1 t2 hz0 hz1
    have hD2 : dObj T2 P2 := hD.cg (fun a ha => (h2 a (by omega)).1) (h2 28 (by omega)).2.2.2
    have hD3 := hD2
    obtain ⟨e1, e2, e3, e4, e5, e6, e7, e8, e9, e10, e11, e12, e13, e14, e15⟩ := hD3
    have h28 : I2 28 = I 28 := (h2 28 (by omega)).2.1
    have h29 : I2 29 = I 29 := (h2 29 (by omega)).2.1
    have h30 : I2 30 = I 30 := (h2 30 (by omega)).2.1
    have h31 : I2 31 = I 31 := (h2 31 (by omega)).2.1
    have h32 : I2 32 = I 32 := (h2 32 (by omega)).2.1
    have hIn : va_up I2 (n + 1 + 1) (fun _ => (0 : Int32)) 28 = I2 28 := va_up_ne _ _ (by omega)
    have hIn31 : va_up I2 (n + 1 + 1) (fun _ => (0 : Int32)) 31 = I2 31 := va_up_ne _ _ (by omega)
    have hIn32 : va_up I2 (n + 1 + 1) (fun _ => (0 : Int32)) 32 = I2 32 := va_up_ne _ _ (by omega)
    have loop2 : ∀ (k p : Nat) (L3 : Nat → Nat → Int64), p + k = np → (∀ a, ¬ a = 34 → ¬ a = 35 → ¬ a = n + 1 → a = n ∨ L3 a = L2 a) → (∀ f, f < nf → ∀ i, tb (L3 n f) i = true ↔ soA kd fx f N i) → (∀ q, q < p → ∀ w, w < N → kd w = w → ∀ i, tb (L3 (n + 1) (q * W + cntR (reps RT kd) w)) i = true ↔ lcA c kd N q N (fpl c kd N q w) i) → (∀ j, p * W ≤ j → L3 (n + 1) j = 0) → tkX G mX0_made 4 mc ms 91 [some (vR 28), some (vR n), some (vR (n + 1)), some (vI (nI p)), none] [] (n + 1 + 1, T2, I2, L3, P2) (MDQ n T I L P np nf W (cntR (reps RT kd) (kd r0)) N c kd fx) := by
      intro k
      induction k with
      | zero =>
        intro p L3 hp l1 l2 l3 l4
        refine tk_iload3 dX0_made_91 ?_
        refine tk_aload0 dX0_made_92 ?_
        refine tk_getI dX0_made_93 fX0_61 rfl (by first | assumption | exact va_up_self _ _ _ | exact (va_up_ne _ _ (by omega)).trans (by assumption) | exact congrArg Prod.fst (va_up_self _ _ _) | exact (congrArg Prod.fst (va_up_ne _ _ (by omega))).trans (by assumption) | exact (congrFun (va_up_ne _ _ (by omega)) _).trans (by assumption) | exact (va_up_ne _ _ (by omega)).trans (va_up_self _ _ _) | exact (va_up_ne _ _ (by omega)).trans ((va_up_ne _ _ (by omega)).trans (by assumption)) | exact (congrArg Prod.fst ((va_up_ne _ _ (by omega)).trans (va_up_ne _ _ (by omega)))).trans (by assumption) | exact (congrFun ((va_up_ne _ _ (by omega)).trans (va_up_ne _ _ (by omega))) _).trans (by assumption) | (rw [va_up_self, va_up_ne _ _ (by omega)]; assumption)) ?_
        rw [h28, hnp]
        first | refine tk_icmp_geN dX0_made_96 (by omega) (by omega) (fun h96 => ?_) (fun h96 => ?_) | refine tk_jcmp_ge dX0_made_96 (fun h96 => ?_) (fun h96 => ?_)
        · refine tk_newS dX0_made_111 nX0_39 (by omega) (by omega) ?_
          refine tk_dup dX0_made_114 rfl ?_
          refine tk_aload0 dX0_made_115 ?_
          refine tk_getI dX0_made_116 fX0_61 rfl (by first | assumption | exact va_up_self _ _ _ | exact (va_up_ne _ _ (by omega)).trans (by assumption) | exact congrArg Prod.fst (va_up_self _ _ _) | exact (congrArg Prod.fst (va_up_ne _ _ (by omega))).trans (by assumption) | exact (congrFun (va_up_ne _ _ (by omega)) _).trans (by assumption) | exact (va_up_ne _ _ (by omega)).trans (va_up_self _ _ _) | exact (va_up_ne _ _ (by omega)).trans ((va_up_ne _ _ (by omega)).trans (by assumption)) | exact (congrArg Prod.fst ((va_up_ne _ _ (by omega)).trans (va_up_ne _ _ (by omega)))).trans (by assumption) | exact (congrFun ((va_up_ne _ _ (by omega)).trans (va_up_ne _ _ (by omega))) _).trans (by assumption) | (rw [va_up_self, va_up_ne _ _ (by omega)]; assumption)) ?_
          rw [hIn, h28, hnp]
          refine tk_aload0 dX0_made_119 ?_
          refine tk_getI dX0_made_120 fX0_91 rfl (by first | assumption | exact va_up_self _ _ _ | exact (va_up_ne _ _ (by omega)).trans (by assumption) | exact congrArg Prod.fst (va_up_self _ _ _) | exact (congrArg Prod.fst (va_up_ne _ _ (by omega))).trans (by assumption) | exact (congrFun (va_up_ne _ _ (by omega)) _).trans (by assumption) | exact (va_up_ne _ _ (by omega)).trans (va_up_self _ _ _) | exact (va_up_ne _ _ (by omega)).trans ((va_up_ne _ _ (by omega)).trans (by assumption)) | exact (congrArg Prod.fst ((va_up_ne _ _ (by omega)).trans (va_up_ne _ _ (by omega)))).trans (by assumption) | exact (congrFun ((va_up_ne _ _ (by omega)).trans (va_up_ne _ _ (by omega))) _).trans (by assumption) | (rw [va_up_self, va_up_ne _ _ (by omega)]; assumption)) ?_
          rw [hIn, h28, hW]
          refine tk_aload0 dX0_made_123 ?_
          refine tk_getP dX0_made_124 fX0_21 rfl (by first | assumption | exact va_up_self _ _ _ | exact (va_up_ne _ _ (by omega)).trans (by assumption) | exact congrArg Prod.fst (va_up_self _ _ _) | exact (congrArg Prod.fst (va_up_ne _ _ (by omega))).trans (by assumption) | exact (congrFun (va_up_ne _ _ (by omega)) _).trans (by assumption) | exact (va_up_ne _ _ (by omega)).trans (va_up_self _ _ _) | exact (va_up_ne _ _ (by omega)).trans ((va_up_ne _ _ (by omega)).trans (by assumption)) | exact (congrArg Prod.fst ((va_up_ne _ _ (by omega)).trans (va_up_ne _ _ (by omega)))).trans (by assumption) | exact (congrFun ((va_up_ne _ _ (by omega)).trans (va_up_ne _ _ (by omega))) _).trans (by assumption) | (rw [va_up_self, va_up_ne _ _ (by omega)]; assumption)) (by first | assumption | exact va_up_self _ _ _ | exact (va_up_ne _ _ (by omega)).trans (by assumption) | exact congrArg Prod.fst (va_up_self _ _ _) | exact (congrArg Prod.fst (va_up_ne _ _ (by omega))).trans (by assumption) | exact (congrFun (va_up_ne _ _ (by omega)) _).trans (by assumption) | exact (va_up_ne _ _ (by omega)).trans (va_up_self _ _ _) | exact (va_up_ne _ _ (by omega)).trans ((va_up_ne _ _ (by omega)).trans (by assumption)) | exact (congrArg Prod.fst ((va_up_ne _ _ (by omega)).trans (va_up_ne _ _ (by omega)))).trans (by assumption) | exact (congrFun ((va_up_ne _ _ (by omega)).trans (va_up_ne _ _ (by omega))) _).trans (by assumption) | (rw [va_up_self, va_up_ne _ _ (by omega)]; assumption)) ?_
          refine tk_aload0 dX0_made_127 ?_
          refine tk_getP dX0_made_128 fX0_18 rfl (by first | assumption | exact va_up_self _ _ _ | exact (va_up_ne _ _ (by omega)).trans (by assumption) | exact congrArg Prod.fst (va_up_self _ _ _) | exact (congrArg Prod.fst (va_up_ne _ _ (by omega))).trans (by assumption) | exact (congrFun (va_up_ne _ _ (by omega)) _).trans (by assumption) | exact (va_up_ne _ _ (by omega)).trans (va_up_self _ _ _) | exact (va_up_ne _ _ (by omega)).trans ((va_up_ne _ _ (by omega)).trans (by assumption)) | exact (congrArg Prod.fst ((va_up_ne _ _ (by omega)).trans (va_up_ne _ _ (by omega)))).trans (by assumption) | exact (congrFun ((va_up_ne _ _ (by omega)).trans (va_up_ne _ _ (by omega))) _).trans (by assumption) | (rw [va_up_self, va_up_ne _ _ (by omega)]; assumption)) (by first | assumption | exact va_up_self _ _ _ | exact (va_up_ne _ _ (by omega)).trans (by assumption) | exact congrArg Prod.fst (va_up_self _ _ _) | exact (congrArg Prod.fst (va_up_ne _ _ (by omega))).trans (by assumption) | exact (congrFun (va_up_ne _ _ (by omega)) _).trans (by assumption) | exact (va_up_ne _ _ (by omega)).trans (va_up_self _ _ _) | exact (va_up_ne _ _ (by omega)).trans ((va_up_ne _ _ (by omega)).trans (by assumption)) | exact (congrArg Prod.fst ((va_up_ne _ _ (by omega)).trans (va_up_ne _ _ (by omega)))).trans (by assumption) | exact (congrFun ((va_up_ne _ _ (by omega)).trans (va_up_ne _ _ (by omega))) _).trans (by assumption) | (rw [va_up_self, va_up_ne _ _ (by omega)]; assumption)) ?_
          refine tk_aload0 dX0_made_131 ?_
          refine tk_getI dX0_made_132 fX0_56 rfl (by first | assumption | exact va_up_self _ _ _ | exact (va_up_ne _ _ (by omega)).trans (by assumption) | exact congrArg Prod.fst (va_up_self _ _ _) | exact (congrArg Prod.fst (va_up_ne _ _ (by omega))).trans (by assumption) | exact (congrFun (va_up_ne _ _ (by omega)) _).trans (by assumption) | exact (va_up_ne _ _ (by omega)).trans (va_up_self _ _ _) | exact (va_up_ne _ _ (by omega)).trans ((va_up_ne _ _ (by omega)).trans (by assumption)) | exact (congrArg Prod.fst ((va_up_ne _ _ (by omega)).trans (va_up_ne _ _ (by omega)))).trans (by assumption) | exact (congrFun ((va_up_ne _ _ (by omega)).trans (va_up_ne _ _ (by omega))) _).trans (by assumption) | (rw [va_up_self, va_up_ne _ _ (by omega)]; assumption)) ?_
          rw [hIn, h28, hr]
          refine tk_iald dX0_made_135 (by first | assumption | exact va_up_self _ _ _ | exact (va_up_ne _ _ (by omega)).trans (by assumption) | exact congrArg Prod.fst (va_up_self _ _ _) | exact (congrArg Prod.fst (va_up_ne _ _ (by omega))).trans (by assumption) | exact (congrFun (va_up_ne _ _ (by omega)) _).trans (by assumption) | exact (va_up_ne _ _ (by omega)).trans (va_up_self _ _ _) | exact (va_up_ne _ _ (by omega)).trans ((va_up_ne _ _ (by omega)).trans (by assumption)) | exact (congrArg Prod.fst ((va_up_ne _ _ (by omega)).trans (va_up_ne _ _ (by omega)))).trans (by assumption) | exact (congrFun ((va_up_ne _ _ (by omega)).trans (va_up_ne _ _ (by omega))) _).trans (by assumption) | (rw [va_up_self, va_up_ne _ _ (by omega)]; assumption)) (by omega) (by omega) ?_
          rw [hIn31, h31, (hki r0 hr0).1]
          refine tk_iald dX0_made_136 (by first | assumption | exact va_up_self _ _ _ | exact (va_up_ne _ _ (by omega)).trans (by assumption) | exact congrArg Prod.fst (va_up_self _ _ _) | exact (congrArg Prod.fst (va_up_ne _ _ (by omega))).trans (by assumption) | exact (congrFun (va_up_ne _ _ (by omega)) _).trans (by assumption) | exact (va_up_ne _ _ (by omega)).trans (va_up_self _ _ _) | exact (va_up_ne _ _ (by omega)).trans ((va_up_ne _ _ (by omega)).trans (by assumption)) | exact (congrArg Prod.fst ((va_up_ne _ _ (by omega)).trans (va_up_ne _ _ (by omega)))).trans (by assumption) | exact (congrFun ((va_up_ne _ _ (by omega)).trans (va_up_ne _ _ (by omega))) _).trans (by assumption) | (rw [va_up_self, va_up_ne _ _ (by omega)]; assumption)) (by omega) (by omega) ?_
          rw [hIn32, h32, (hki (kd r0) hkr).2]
          refine tk_aload1 dX0_made_137 ?_
          refine tk_aload2 dX0_made_138 ?_
          refine tk_callI5y dX0_made_139 kX0_128 (c_wldInit (nf := nf) (by rw [va_up_self]) (by rw [va_up_ne _ _ (by omega)]; exact t1)) (Nat.le_of_ble_eq_true rfl) (by omega) ?_
          refine tk_areturn dX0_made_142 rfl (by first | exact Or.inl ⟨_, rfl⟩ | exact Or.inr ⟨_, rfl⟩) ?_
          refine ⟨_, _, _, _, rfl, rfl, fun a ha => ⟨?_, ?_, ?_, fun a1 a2 => ?_⟩, ?_, ?_, ?_, ?_, ?_, ?_, ?_, ?_, ?_, fun f hf i => ?_, fun q hq w hw hr2 i => ?_⟩
          · rw [va_up_ne _ _ (by omega)]; exact (h2 a ha).1
          · rw [va_up_ne _ _ (by omega), va_up_ne _ _ (by omega)]; exact (h2 a ha).2.1
          · rw [va_up_ne _ _ (by omega), va_up_ne _ _ (by omega)]; exact (h2 a ha).2.2.2
          · rw [va_up_ne _ _ (by omega)]
            rcases l1 a a1 a2 (by omega) with e | e
            · exfalso; omega
            · rw [e]; exact (h2 a ha).2.2.1
          · rw [va_up_self]
          · simp only [va_up_self, bx_uu, tk_une, tk_usrt, not_false_eq_true, Nat.reduceEqDiff, Nat.reduceLT, Nat.reduceAdd, Nat.reduceMul, Nat.reduceLeDiff, reduceCtorEq]
          · simp only [va_up_self, bx_uu, tk_une, tk_usrt, not_false_eq_true, Nat.reduceEqDiff, Nat.reduceLT, Nat.reduceAdd, Nat.reduceMul, Nat.reduceLeDiff, reduceCtorEq]
          · simp only [va_up_self, bx_uu, tk_une, tk_usrt, not_false_eq_true, Nat.reduceEqDiff, Nat.reduceLT, Nat.reduceAdd, Nat.reduceMul, Nat.reduceLeDiff, reduceCtorEq]
          · simp only [va_up_self, bx_uu, tk_une, tk_usrt, not_false_eq_true, Nat.reduceEqDiff, Nat.reduceLT, Nat.reduceAdd, Nat.reduceMul, Nat.reduceLeDiff, reduceCtorEq]
          · simp only [va_up_self, bx_uu, tk_une, tk_usrt, not_false_eq_true, Nat.reduceEqDiff, Nat.reduceLT, Nat.reduceAdd, Nat.reduceMul, Nat.reduceLeDiff, reduceCtorEq]
          · simp only [va_up_self, bx_uu, tk_une, tk_usrt, not_false_eq_true, Nat.reduceEqDiff, Nat.reduceLT, Nat.reduceAdd, Nat.reduceMul, Nat.reduceLeDiff, reduceCtorEq]
          · rw [va_up_ne _ _ (by omega)]; exact t1
          · rw [va_up_ne _ _ (by omega)]; exact t2
          · rw [va_up_ne _ _ (by omega)]; exact l2 f hf i
          · rw [va_up_ne _ _ (by omega)]; exact l3 q (by omega) w hw hr2 i
        · exfalso; omega
      | succ k ih =>
        intro p L3 hp l1 l2 l3 l4
        refine tk_iload3 dX0_made_91 ?_
        refine tk_aload0 dX0_made_92 ?_
        refine tk_getI dX0_made_93 fX0_61 rfl (by first | assumption | exact va_up_self _ _ _ | exact (va_up_ne _ _ (by omega)).trans (by assumption) | exact congrArg Prod.fst (va_up_self _ _ _) | exact (congrArg Prod.fst (va_up_ne _ _ (by omega))).trans (by assumption) | exact (congrFun (va_up_ne _ _ (by omega)) _).trans (by assumption) | exact (va_up_ne _ _ (by omega)).trans (va_up_self _ _ _) | exact (va_up_ne _ _ (by omega)).trans ((va_up_ne _ _ (by omega)).trans (by assumption)) | exact (congrArg Prod.fst ((va_up_ne _ _ (by omega)).trans (va_up_ne _ _ (by omega)))).trans (by assumption) | exact (congrFun ((va_up_ne _ _ (by omega)).trans (va_up_ne _ _ (by omega))) _).trans (by assumption) | (rw [va_up_self, va_up_ne _ _ (by omega)]; assumption)) ?_
        rw [h28, hnp]
        first | refine tk_icmp_geN dX0_made_96 (by omega) (by omega) (fun h96 => ?_) (fun h96 => ?_) | refine tk_jcmp_ge dX0_made_96 (fun h96 => ?_) (fun h96 => ?_)
        · exfalso; omega
        · refine tk_aload0 dX0_made_99 ?_
          refine tk_iload3 dX0_made_100 ?_
          refine tk_aload2 dX0_made_101 ?_
          refine tk_callV2q dX0_made_102 kX0_124 (by first | assumption | exact va_up_self _ _ _ | exact (va_up_ne _ _ (by omega)).trans (by assumption) | exact congrArg Prod.fst (va_up_self _ _ _) | exact (congrArg Prod.fst (va_up_ne _ _ (by omega))).trans (by assumption) | exact (congrFun (va_up_ne _ _ (by omega)) _).trans (by assumption) | exact (va_up_ne _ _ (by omega)).trans (va_up_self _ _ _) | exact (va_up_ne _ _ (by omega)).trans ((va_up_ne _ _ (by omega)).trans (by assumption)) | exact (congrArg Prod.fst ((va_up_ne _ _ (by omega)).trans (va_up_ne _ _ (by omega)))).trans (by assumption) | exact (congrFun ((va_up_ne _ _ (by omega)).trans (va_up_ne _ _ (by omega))) _).trans (by assumption) | (rw [va_up_self, va_up_ne _ _ (by omega)]; assumption)) (c_layCells (c := c) (kd := kd) (np := np) (W := W) hD2 (show p < np by omega) hnp4 (by rw [h28]; exact hN) hN2 (by rw [h28]; exact hW) hWc hW2 (fun w hw => by rw [h30]; exact hc p (by omega) w hw) (fun w hw => by rw [h31, h32]; exact hki w hw) hK (by omega) t2 (fun j hj => l4 _ (by omega))) (Nat.le_of_ble_eq_true rfl) (by omega) ?_
          rintro rr h1 ⟨g4, g5, X, rfl, rfl, x1, x2⟩
          dsimp only [Option.toList, List.nil_append]
          first | refine tk_iinc3 dX0_made_105 (kc_inc _) rfl ?_ | refine tk_iinc3 dX0_made_105 rfl rfl ?_
          refine tk_goto dX0_made_108 ?_
          refine tk_wk (by repeat' (first | exact trivial | refine ⟨Or.inl rfl, ?_⟩ | refine ⟨Or.inr rfl, ?_⟩)) (ih (p + 1) _ (by omega) (fun a a1 a2 a3 => ?_) (fun f hf i => ?_) (fun q hq w hw hr2 i => ?_) (fun j hj => ?_))
          · rw [va_up_ne _ _ a3, va_up_ne _ _ a2, va_up_ne _ _ a1]; exact l1 a a1 a2 a3
          · rw [va_up_ne _ _ (by omega), va_up_ne _ _ (by omega), va_up_ne _ _ (by omega)]; exact l2 f hf i
          · rw [va_up_self]
            by_cases e : q = p
            · subst e; exact x1 w hw hr2 i
            · have hb : q * W + W ≤ p * W := by have := Nat.mul_le_mul_right W (show q + 1 ≤ p by omega); rw [Nat.succ_mul] at this; exact this
              have := hpl w hw hr2
              rw [x2 _ (Or.inl (by omega))]; exact l3 q (by omega) w hw hr2 i
          · rw [va_up_self, x2 j (Or.inr (by rw [Nat.succ_mul] at hj; exact hj))]; exact l4 j (by rw [Nat.succ_mul] at hj; omega)
    have loop1 : ∀ (k w : Nat) (S : Nat → Int64), w + k = N → (∀ f, f < nf → ∀ i, tb (S f) i = true ↔ soA kd fx f w i) → tkX G mX0_made 4 mc ms 21 [some (vR 28), some (vR n), some (vR (n + 1)), some (vI (nI w)), none] [] (n + 1 + 1, T2, I2, va_up L2 n S, P2) (MDQ n T I L P np nf W (cntR (reps RT kd) (kd r0)) N c kd fx) := by
      intro k
      induction k with
      | zero =>
        intro w S hw i1
        refine tk_iload3 dX0_made_21 ?_
        refine tk_aload0 dX0_made_22 ?_
        refine tk_getI dX0_made_23 fX0_52 rfl (by first | assumption | exact va_up_self _ _ _ | exact (va_up_ne _ _ (by omega)).trans (by assumption) | exact congrArg Prod.fst (va_up_self _ _ _) | exact (congrArg Prod.fst (va_up_ne _ _ (by omega))).trans (by assumption) | exact (congrFun (va_up_ne _ _ (by omega)) _).trans (by assumption) | exact (va_up_ne _ _ (by omega)).trans (va_up_self _ _ _) | exact (va_up_ne _ _ (by omega)).trans ((va_up_ne _ _ (by omega)).trans (by assumption)) | exact (congrArg Prod.fst ((va_up_ne _ _ (by omega)).trans (va_up_ne _ _ (by omega)))).trans (by assumption) | exact (congrFun ((va_up_ne _ _ (by omega)).trans (va_up_ne _ _ (by omega))) _).trans (by assumption) | (rw [va_up_self, va_up_ne _ _ (by omega)]; assumption)) ?_
        rw [h28, hN]
        first | refine tk_icmp_geN dX0_made_26 (by omega) (by omega) (fun h26 => ?_) (fun h26 => ?_) | refine tk_jcmp_ge dX0_made_26 (fun h26 => ?_) (fun h26 => ?_)
        · refine tk_iconst dX0_made_89 kc_iconst_0 ?_
          refine tk_istore3 dX0_made_90 rfl ?_
          refine tk_wk (by repeat' (first | exact trivial | refine ⟨Or.inl rfl, ?_⟩ | refine ⟨Or.inr rfl, ?_⟩)) (loop2 np 0 (va_up L2 n S) (by omega) (fun a a1 a2 a3 => ?_) (by rw [va_up_self]; exact fun f hf i => by rw [i1 f hf i, show w = N by omega]) (fun q hq => by omega) (fun j hj => by rw [va_up_ne _ _ (by omega)]; exact hz1 j))
          by_cases e : a = n
          · exact Or.inl e
          · exact Or.inr (va_up_ne _ _ e)
        · exfalso; omega
      | succ k ih =>
        intro w S hw i1
        have hwN : w < N := by omega
        have hkw := hk w hwN
        refine tk_iload3 dX0_made_21 ?_
        refine tk_aload0 dX0_made_22 ?_
        refine tk_getI dX0_made_23 fX0_52 rfl (by first | assumption | exact va_up_self _ _ _ | exact (va_up_ne _ _ (by omega)).trans (by assumption) | exact congrArg Prod.fst (va_up_self _ _ _) | exact (congrArg Prod.fst (va_up_ne _ _ (by omega))).trans (by assumption) | exact (congrFun (va_up_ne _ _ (by omega)) _).trans (by assumption) | exact (va_up_ne _ _ (by omega)).trans (va_up_self _ _ _) | exact (va_up_ne _ _ (by omega)).trans ((va_up_ne _ _ (by omega)).trans (by assumption)) | exact (congrArg Prod.fst ((va_up_ne _ _ (by omega)).trans (va_up_ne _ _ (by omega)))).trans (by assumption) | exact (congrFun ((va_up_ne _ _ (by omega)).trans (va_up_ne _ _ (by omega))) _).trans (by assumption) | (rw [va_up_self, va_up_ne _ _ (by omega)]; assumption)) ?_
        rw [h28, hN]
        first | refine tk_icmp_geN dX0_made_26 (by omega) (by omega) (fun h26 => ?_) (fun h26 => ?_) | refine tk_jcmp_ge dX0_made_26 (fun h26 => ?_) (fun h26 => ?_)
        · exfalso; omega
        · refine tk_aload0 dX0_made_29 ?_
          refine tk_getP dX0_made_30 fX0_18 rfl (by first | assumption | exact va_up_self _ _ _ | exact (va_up_ne _ _ (by omega)).trans (by assumption) | exact congrArg Prod.fst (va_up_self _ _ _) | exact (congrArg Prod.fst (va_up_ne _ _ (by omega))).trans (by assumption) | exact (congrFun (va_up_ne _ _ (by omega)) _).trans (by assumption) | exact (va_up_ne _ _ (by omega)).trans (va_up_self _ _ _) | exact (va_up_ne _ _ (by omega)).trans ((va_up_ne _ _ (by omega)).trans (by assumption)) | exact (congrArg Prod.fst ((va_up_ne _ _ (by omega)).trans (va_up_ne _ _ (by omega)))).trans (by assumption) | exact (congrFun ((va_up_ne _ _ (by omega)).trans (va_up_ne _ _ (by omega))) _).trans (by assumption) | (rw [va_up_self, va_up_ne _ _ (by omega)]; assumption)) (by first | assumption | exact va_up_self _ _ _ | exact (va_up_ne _ _ (by omega)).trans (by assumption) | exact congrArg Prod.fst (va_up_self _ _ _) | exact (congrArg Prod.fst (va_up_ne _ _ (by omega))).trans (by assumption) | exact (congrFun (va_up_ne _ _ (by omega)) _).trans (by assumption) | exact (va_up_ne _ _ (by omega)).trans (va_up_self _ _ _) | exact (va_up_ne _ _ (by omega)).trans ((va_up_ne _ _ (by omega)).trans (by assumption)) | exact (congrArg Prod.fst ((va_up_ne _ _ (by omega)).trans (va_up_ne _ _ (by omega)))).trans (by assumption) | exact (congrFun ((va_up_ne _ _ (by omega)).trans (va_up_ne _ _ (by omega))) _).trans (by assumption) | (rw [va_up_self, va_up_ne _ _ (by omega)]; assumption)) ?_
          refine tk_iload3 dX0_made_33 ?_
          refine tk_iald dX0_made_34 (by first | assumption | exact va_up_self _ _ _ | exact (va_up_ne _ _ (by omega)).trans (by assumption) | exact congrArg Prod.fst (va_up_self _ _ _) | exact (congrArg Prod.fst (va_up_ne _ _ (by omega))).trans (by assumption) | exact (congrFun (va_up_ne _ _ (by omega)) _).trans (by assumption) | exact (va_up_ne _ _ (by omega)).trans (va_up_self _ _ _) | exact (va_up_ne _ _ (by omega)).trans ((va_up_ne _ _ (by omega)).trans (by assumption)) | exact (congrArg Prod.fst ((va_up_ne _ _ (by omega)).trans (va_up_ne _ _ (by omega)))).trans (by assumption) | exact (congrFun ((va_up_ne _ _ (by omega)).trans (va_up_ne _ _ (by omega))) _).trans (by assumption) | (rw [va_up_self, va_up_ne _ _ (by omega)]; assumption)) (by omega) (by omega) ?_
          rw [h31, (hki w hwN).1]
          refine tk_iload3 dX0_made_35 ?_
          first | refine tk_icmp_neN dX0_made_36 (by omega) (by omega) (fun h36 => ?_) (fun h36 => ?_) | refine tk_icmp_ne dX0_made_36 (fun h36 => ?_) (fun h36 => ?_)
          · first | refine tk_iinc3 dX0_made_83 (kc_inc _) rfl ?_ | refine tk_iinc3 dX0_made_83 rfl rfl ?_
            refine tk_goto dX0_made_86 ?_
            refine tk_wk (by repeat' (first | exact trivial | refine ⟨Or.inl rfl, ?_⟩ | refine ⟨Or.inr rfl, ?_⟩)) (ih (w + 1) S (by omega) (fun f hf i => ?_))
            rw [i1 f hf i]
            exact soA_no h36
          · refine tk_iconst dX0_made_39 kc_iconst_0 ?_
            refine tk_istore4 dX0_made_40 rfl ?_
            refine tk_fr 0 nf (fun f => [some (vR 28), some (vR n), some (vR (n + 1)), some (vI (nI w)), some (vI (nI f))]) (fun f => (n + 1 + 1, T2, I2, va_up L2 n (tkcp S (fun q => S q ||| soB (fx w) q (cntR (reps RT kd) w)) f), P2)) (by omega) (by repeat' (first | exact trivial | refine ⟨Or.inl rfl, ?_⟩ | refine ⟨Or.inr rfl, ?_⟩)) (by rw [tkcp_0]) ?_ ?_
            · refine tk_iload4 dX0_made_42 ?_
              refine tk_aload0 dX0_made_44 ?_
              refine tk_getI dX0_made_45 fX0_67 rfl (by first | assumption | exact va_up_self _ _ _ | exact (va_up_ne _ _ (by omega)).trans (by assumption) | exact congrArg Prod.fst (va_up_self _ _ _) | exact (congrArg Prod.fst (va_up_ne _ _ (by omega))).trans (by assumption) | exact (congrFun (va_up_ne _ _ (by omega)) _).trans (by assumption) | exact (va_up_ne _ _ (by omega)).trans (va_up_self _ _ _) | exact (va_up_ne _ _ (by omega)).trans ((va_up_ne _ _ (by omega)).trans (by assumption)) | exact (congrArg Prod.fst ((va_up_ne _ _ (by omega)).trans (va_up_ne _ _ (by omega)))).trans (by assumption) | exact (congrFun ((va_up_ne _ _ (by omega)).trans (va_up_ne _ _ (by omega))) _).trans (by assumption) | (rw [va_up_self, va_up_ne _ _ (by omega)]; assumption)) ?_
              rw [h28, hnf]
              first | refine tk_icmp_geN dX0_made_48 (by omega) (by omega) (fun h48 => ?_) (fun h48 => ?_) | refine tk_jcmp_ge dX0_made_48 (fun h48 => ?_) (fun h48 => ?_)
              · first | refine tk_iinc3 dX0_made_83 (kc_inc _) rfl ?_ | refine tk_iinc3 dX0_made_83 rfl rfl ?_
                refine tk_goto dX0_made_86 ?_
                refine tk_wk (by repeat' (first | exact trivial | refine ⟨Or.inl rfl, ?_⟩ | refine ⟨Or.inr rfl, ?_⟩)) (ih (w + 1) _ (by omega) (fun f hf i => ?_))
                rw [tkcp_lt hf]
                exact soA_up (i1 f hf) h36 (by have := hpl w hwN h36; omega)
              · exfalso; omega
            · intro f _ hf k2
              have hplw := hpl w hwN h36
              refine tk_iload4 dX0_made_42 ?_
              refine tk_aload0 dX0_made_44 ?_
              refine tk_getI dX0_made_45 fX0_67 rfl (by first | assumption | exact va_up_self _ _ _ | exact (va_up_ne _ _ (by omega)).trans (by assumption) | exact congrArg Prod.fst (va_up_self _ _ _) | exact (congrArg Prod.fst (va_up_ne _ _ (by omega))).trans (by assumption) | exact (congrFun (va_up_ne _ _ (by omega)) _).trans (by assumption) | exact (va_up_ne _ _ (by omega)).trans (va_up_self _ _ _) | exact (va_up_ne _ _ (by omega)).trans ((va_up_ne _ _ (by omega)).trans (by assumption)) | exact (congrArg Prod.fst ((va_up_ne _ _ (by omega)).trans (va_up_ne _ _ (by omega)))).trans (by assumption) | exact (congrFun ((va_up_ne _ _ (by omega)).trans (va_up_ne _ _ (by omega))) _).trans (by assumption) | (rw [va_up_self, va_up_ne _ _ (by omega)]; assumption)) ?_
              rw [h28, hnf]
              first | refine tk_icmp_geN dX0_made_48 (by omega) (by omega) (fun h48 => ?_) (fun h48 => ?_) | refine tk_jcmp_ge dX0_made_48 (fun h48 => ?_) (fun h48 => ?_)
              · exfalso; omega
              · refine tk_aload1 dX0_made_51 ?_
                refine tk_iload4 dX0_made_52 ?_
                first | refine tk_dup2 dX0_made_54 rfl rfl ?_ | refine tk_dup2L dX0_made_54 ?_
                refine tk_lald dX0_made_55 (by first | assumption | exact va_up_self _ _ _ | exact (va_up_ne _ _ (by omega)).trans (by assumption) | exact congrArg Prod.fst (va_up_self _ _ _) | exact (congrArg Prod.fst (va_up_ne _ _ (by omega))).trans (by assumption) | exact (congrFun (va_up_ne _ _ (by omega)) _).trans (by assumption) | exact (va_up_ne _ _ (by omega)).trans (va_up_self _ _ _) | exact (va_up_ne _ _ (by omega)).trans ((va_up_ne _ _ (by omega)).trans (by assumption)) | exact (congrArg Prod.fst ((va_up_ne _ _ (by omega)).trans (va_up_ne _ _ (by omega)))).trans (by assumption) | exact (congrFun ((va_up_ne _ _ (by omega)).trans (va_up_ne _ _ (by omega))) _).trans (by assumption) | (rw [va_up_self, va_up_ne _ _ (by omega)]; assumption)) (by omega) (by omega) ?_
                rw [va_up_self, show tkcp S (fun q => S q ||| soB (fx w) q (cntR (reps RT kd) w)) f f = S f from if_neg (Nat.lt_irrefl f)]
                refine tk_aload0 dX0_made_56 ?_
                refine tk_getP dX0_made_57 fX0_11 rfl (by first | assumption | exact va_up_self _ _ _ | exact (va_up_ne _ _ (by omega)).trans (by assumption) | exact congrArg Prod.fst (va_up_self _ _ _) | exact (congrArg Prod.fst (va_up_ne _ _ (by omega))).trans (by assumption) | exact (congrFun (va_up_ne _ _ (by omega)) _).trans (by assumption) | exact (va_up_ne _ _ (by omega)).trans (va_up_self _ _ _) | exact (va_up_ne _ _ (by omega)).trans ((va_up_ne _ _ (by omega)).trans (by assumption)) | exact (congrArg Prod.fst ((va_up_ne _ _ (by omega)).trans (va_up_ne _ _ (by omega)))).trans (by assumption) | exact (congrFun ((va_up_ne _ _ (by omega)).trans (va_up_ne _ _ (by omega))) _).trans (by assumption) | (rw [va_up_self, va_up_ne _ _ (by omega)]; assumption)) (by first | assumption | exact va_up_self _ _ _ | exact (va_up_ne _ _ (by omega)).trans (by assumption) | exact congrArg Prod.fst (va_up_self _ _ _) | exact (congrArg Prod.fst (va_up_ne _ _ (by omega))).trans (by assumption) | exact (congrFun (va_up_ne _ _ (by omega)) _).trans (by assumption) | exact (va_up_ne _ _ (by omega)).trans (va_up_self _ _ _) | exact (va_up_ne _ _ (by omega)).trans ((va_up_ne _ _ (by omega)).trans (by assumption)) | exact (congrArg Prod.fst ((va_up_ne _ _ (by omega)).trans (va_up_ne _ _ (by omega)))).trans (by assumption) | exact (congrFun ((va_up_ne _ _ (by omega)).trans (va_up_ne _ _ (by omega))) _).trans (by assumption) | (rw [va_up_self, va_up_ne _ _ (by omega)]; assumption)) ?_
                refine tk_iload3 dX0_made_60 ?_
                refine tk_iald dX0_made_61 (by first | assumption | exact va_up_self _ _ _ | exact (va_up_ne _ _ (by omega)).trans (by assumption) | exact congrArg Prod.fst (va_up_self _ _ _) | exact (congrArg Prod.fst (va_up_ne _ _ (by omega))).trans (by assumption) | exact (congrFun (va_up_ne _ _ (by omega)) _).trans (by assumption) | exact (va_up_ne _ _ (by omega)).trans (va_up_self _ _ _) | exact (va_up_ne _ _ (by omega)).trans ((va_up_ne _ _ (by omega)).trans (by assumption)) | exact (congrArg Prod.fst ((va_up_ne _ _ (by omega)).trans (va_up_ne _ _ (by omega)))).trans (by assumption) | exact (congrFun ((va_up_ne _ _ (by omega)).trans (va_up_ne _ _ (by omega))) _).trans (by assumption) | (rw [va_up_self, va_up_ne _ _ (by omega)]; assumption)) (by omega) (by omega) ?_
                rw [h29, (hfx w hwN).1]
                refine tk_iload4 dX0_made_62 ?_
                refine tk_iushr dX0_made_64 ?_
                refine tk_i2l dX0_made_65 ?_
                refine tk_lconst dX0_made_66 (v := 1) (by decide) ?_
                refine tk_land dX0_made_67 ?_
                refine tk_aload0 dX0_made_68 ?_
                refine tk_getP dX0_made_69 fX0_21 rfl (by first | assumption | exact va_up_self _ _ _ | exact (va_up_ne _ _ (by omega)).trans (by assumption) | exact congrArg Prod.fst (va_up_self _ _ _) | exact (congrArg Prod.fst (va_up_ne _ _ (by omega))).trans (by assumption) | exact (congrFun (va_up_ne _ _ (by omega)) _).trans (by assumption) | exact (va_up_ne _ _ (by omega)).trans (va_up_self _ _ _) | exact (va_up_ne _ _ (by omega)).trans ((va_up_ne _ _ (by omega)).trans (by assumption)) | exact (congrArg Prod.fst ((va_up_ne _ _ (by omega)).trans (va_up_ne _ _ (by omega)))).trans (by assumption) | exact (congrFun ((va_up_ne _ _ (by omega)).trans (va_up_ne _ _ (by omega))) _).trans (by assumption) | (rw [va_up_self, va_up_ne _ _ (by omega)]; assumption)) (by first | assumption | exact va_up_self _ _ _ | exact (va_up_ne _ _ (by omega)).trans (by assumption) | exact congrArg Prod.fst (va_up_self _ _ _) | exact (congrArg Prod.fst (va_up_ne _ _ (by omega))).trans (by assumption) | exact (congrFun (va_up_ne _ _ (by omega)) _).trans (by assumption) | exact (va_up_ne _ _ (by omega)).trans (va_up_self _ _ _) | exact (va_up_ne _ _ (by omega)).trans ((va_up_ne _ _ (by omega)).trans (by assumption)) | exact (congrArg Prod.fst ((va_up_ne _ _ (by omega)).trans (va_up_ne _ _ (by omega)))).trans (by assumption) | exact (congrFun ((va_up_ne _ _ (by omega)).trans (va_up_ne _ _ (by omega))) _).trans (by assumption) | (rw [va_up_self, va_up_ne _ _ (by omega)]; assumption)) ?_
                refine tk_iload3 dX0_made_72 ?_
                refine tk_iald dX0_made_73 (by first | assumption | exact va_up_self _ _ _ | exact (va_up_ne _ _ (by omega)).trans (by assumption) | exact congrArg Prod.fst (va_up_self _ _ _) | exact (congrArg Prod.fst (va_up_ne _ _ (by omega))).trans (by assumption) | exact (congrFun (va_up_ne _ _ (by omega)) _).trans (by assumption) | exact (va_up_ne _ _ (by omega)).trans (va_up_self _ _ _) | exact (va_up_ne _ _ (by omega)).trans ((va_up_ne _ _ (by omega)).trans (by assumption)) | exact (congrArg Prod.fst ((va_up_ne _ _ (by omega)).trans (va_up_ne _ _ (by omega)))).trans (by assumption) | exact (congrFun ((va_up_ne _ _ (by omega)).trans (va_up_ne _ _ (by omega))) _).trans (by assumption) | (rw [va_up_self, va_up_ne _ _ (by omega)]; assumption)) (by omega) (by omega) ?_
                rw [h32, (hki w hwN).2]
                refine tk_lshl dX0_made_74 ?_
                rw [soB_eq (hfx w hwN).2 (by omega) (by omega)]
                refine tk_lor dX0_made_75 ?_
                refine tk_last dX0_made_76 (by first | assumption | exact va_up_self _ _ _ | exact (va_up_ne _ _ (by omega)).trans (by assumption) | exact congrArg Prod.fst (va_up_self _ _ _) | exact (congrArg Prod.fst (va_up_ne _ _ (by omega))).trans (by assumption) | exact (congrFun (va_up_ne _ _ (by omega)) _).trans (by assumption) | exact (va_up_ne _ _ (by omega)).trans (va_up_self _ _ _) | exact (va_up_ne _ _ (by omega)).trans ((va_up_ne _ _ (by omega)).trans (by assumption)) | exact (congrArg Prod.fst ((va_up_ne _ _ (by omega)).trans (va_up_ne _ _ (by omega)))).trans (by assumption) | exact (congrFun ((va_up_ne _ _ (by omega)).trans (va_up_ne _ _ (by omega))) _).trans (by assumption) | (rw [va_up_self, va_up_ne _ _ (by omega)]; assumption)) (by omega) (by omega) ?_
                rw [bx_uu, va_up_self, tkcp_s S (fun q => S q ||| soB (fx w) q (cntR (reps RT kd) w))]
                first | refine tk_iinc4 dX0_made_77 (kc_inc _) rfl ?_ | refine tk_iinc4 dX0_made_77 rfl rfl ?_
                refine tk_goto dX0_made_80 ?_
                exact k2 _ (by repeat' (first | exact trivial | refine ⟨Or.inl rfl, ?_⟩ | refine ⟨Or.inr rfl, ?_⟩))
    have q := loop1 N 0 (L2 n) (by omega) (fun f hf i => by rw [hz0 f, tb_0]; exact ⟨fun h => (by cases h), fun ⟨v, a, _⟩ => (by omega)⟩)
    rw [tk_up_id] at q
    exact q
  refine tkM.of (ls := [some _, none, none, none, none]) (by decide +kernel) (by decide +kernel) (Nat.le_of_ble_eq_true rfl) rfl ?_
  refine tk_aload0 dX0_made_0 ?_
  refine tk_getI dX0_made_1 fX0_67 rfl (by first | assumption | exact va_up_self _ _ _ | exact (va_up_ne _ _ (by omega)).trans (by assumption) | exact congrArg Prod.fst (va_up_self _ _ _) | exact (congrArg Prod.fst (va_up_ne _ _ (by omega))).trans (by assumption) | exact (congrFun (va_up_ne _ _ (by omega)) _).trans (by assumption) | exact (va_up_ne _ _ (by omega)).trans (va_up_self _ _ _) | exact (va_up_ne _ _ (by omega)).trans ((va_up_ne _ _ (by omega)).trans (by assumption)) | exact (congrArg Prod.fst ((va_up_ne _ _ (by omega)).trans (va_up_ne _ _ (by omega)))).trans (by assumption) | exact (congrFun ((va_up_ne _ _ (by omega)).trans (va_up_ne _ _ (by omega))) _).trans (by assumption) | (rw [va_up_self, va_up_ne _ _ (by omega)]; assumption)) ?_
  rw [hnf]
  refine tk_newaS (t := 21) dX0_made_4 rfl (by omega) (by omega) tk_ac21 (by first | exact Or.inl rfl | exact Or.inr (Or.inl rfl) | exact Or.inr (Or.inr rfl)) (by omega) (by omega) (by omega) ?_
  refine tk_astore1 dX0_made_6 rfl ?_
  refine tk_aload0 dX0_made_7 ?_
  refine tk_getI dX0_made_8 fX0_61 rfl (by first | assumption | exact va_up_self _ _ _ | exact (va_up_ne _ _ (by omega)).trans (by assumption) | exact congrArg Prod.fst (va_up_self _ _ _) | exact (congrArg Prod.fst (va_up_ne _ _ (by omega))).trans (by assumption) | exact (congrFun (va_up_ne _ _ (by omega)) _).trans (by assumption) | exact (va_up_ne _ _ (by omega)).trans (va_up_self _ _ _) | exact (va_up_ne _ _ (by omega)).trans ((va_up_ne _ _ (by omega)).trans (by assumption)) | exact (congrArg Prod.fst ((va_up_ne _ _ (by omega)).trans (va_up_ne _ _ (by omega)))).trans (by assumption) | exact (congrFun ((va_up_ne _ _ (by omega)).trans (va_up_ne _ _ (by omega))) _).trans (by assumption) | (rw [va_up_self, va_up_ne _ _ (by omega)]; assumption)) ?_
  rw [va_up_ne _ _ (by omega), hnp]
  refine tk_aload0 dX0_made_11 ?_
  refine tk_getI dX0_made_12 fX0_91 rfl (by first | assumption | exact va_up_self _ _ _ | exact (va_up_ne _ _ (by omega)).trans (by assumption) | exact congrArg Prod.fst (va_up_self _ _ _) | exact (congrArg Prod.fst (va_up_ne _ _ (by omega))).trans (by assumption) | exact (congrFun (va_up_ne _ _ (by omega)) _).trans (by assumption) | exact (va_up_ne _ _ (by omega)).trans (va_up_self _ _ _) | exact (va_up_ne _ _ (by omega)).trans ((va_up_ne _ _ (by omega)).trans (by assumption)) | exact (congrArg Prod.fst ((va_up_ne _ _ (by omega)).trans (va_up_ne _ _ (by omega)))).trans (by assumption) | exact (congrFun ((va_up_ne _ _ (by omega)).trans (va_up_ne _ _ (by omega))) _).trans (by assumption) | (rw [va_up_self, va_up_ne _ _ (by omega)]; assumption)) ?_
  rw [va_up_ne _ _ (by omega), hW]
  first | refine tk_imulN dX0_made_15 ?_ | refine tk_imul dX0_made_15 ?_
  refine tk_newaS (t := 21) dX0_made_16 rfl (by omega) (by omega) tk_ac21 (by first | exact Or.inl rfl | exact Or.inr (Or.inl rfl) | exact Or.inr (Or.inr rfl)) (by omega) (by omega) (by omega) ?_
  refine tk_astore2 dX0_made_18 rfl ?_
  refine tk_iconst dX0_made_19 kc_iconst_0 ?_
  refine tk_istore3 dX0_made_20 rfl ?_
  refine tk_wk (by repeat' (first | exact trivial | refine ⟨Or.inl rfl, ?_⟩ | refine ⟨Or.inr rfl, ?_⟩)) (rest _ _ _ _ _ _ (by omega) (by omega) (fun q hq => ⟨by rw [va_up_ne _ _ (by omega), va_up_ne _ _ (by omega)], by rw [va_up_ne _ _ (by omega), va_up_ne _ _ (by omega)], by rw [va_up_ne _ _ (by omega), va_up_ne _ _ (by omega)], by rw [va_up_ne _ _ (by omega), va_up_ne _ _ (by omega)]⟩) (by rw [va_up_ne _ _ (by omega), va_up_self]) (va_up_self _ _ _) (fun j => by rw [va_up_ne _ _ (by omega), va_up_self]) (fun j => by rw [va_up_self]))
end MADE_
