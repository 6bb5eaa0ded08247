/-! ===== the class: school, lessons heard ===== -/
theorem tau_or : ∀ t, t < 16 → ∀ f, f < 4 → ∃ s, s < 16 ∧ nI t ||| kshl (nI 1) (nI f) = nI s := by decide +kernel
theorem rMem_or : ∀ t, t < 16 → ∀ f, f < 4 → ∀ g, g < 4 → (rMem (nI t ||| kshl (nI 1) (nI f)) g = true ↔ rMem (nI t) g = true ∨ g = f) := by decide +kernel
theorem rMem_z : ∀ g, g < 4 → rMem (nI 0) g = false := by decide +kernel
def tau0 (ta : Nat → Int32) : Nat → Int32 := tkcp ta (fun _ => nI 0) 4
def tauP (ta : Nat → Int32) (p f : Nat) : Nat → Int32 := va_up ta p (ta p ||| kshl (nI 1) (nI f))
theorem tauN_P {ta : Nat → Int32} {p f : Nat} (h : tauN ta) (hp : p < 4) (hf : f < 4) : tauN (tauP ta p f) := by
  intro q hq
  unfold tauP
  by_cases e : q = p
  · subst e
    obtain ⟨t, t1, t2⟩ := h q hq
    rw [va_up_self, t2]
    exact tau_or t t1 f hf
  · rw [va_up_ne _ _ e]; exact h q hq
section TAU
variable {ce F : Nat → Int32} {W nf : Nat} {ta : Nat → Int32}
/-- behind a lesson to p on f, p can tell f apart -/
theorem cTi_P {p f : Nat} (h : tauN ta) (hp : p < 4) (hf : f < nf) (hnf : nf ≤ 4) : cTi ce F W nf (tauP ta p f) = lT (faF F) (cTi ce F W nf ta) p f := by
  funext q w u
  apply propext
  unfold lT cTi tauP
  by_cases e : q = p
  · subst e
    obtain ⟨t, t1, t2⟩ := h q hp
    rw [va_up_self, t2]
    constructor
    · rintro ⟨a, b⟩
      exact ⟨⟨a, fun g hg m => b g hg ((rMem_or t t1 f (by omega) g (by omega)).mpr (Or.inl m))⟩, fun _ => b f hf ((rMem_or t t1 f (by omega) f (by omega)).mpr (Or.inr rfl))⟩
    · rintro ⟨⟨a, b⟩, d⟩
      refine ⟨a, fun g hg m => ?_⟩
      rcases (rMem_or t t1 f (by omega) g (by omega)).mp m with k | rfl
      · exact b g hg k
      · exact d rfl
  · rw [va_up_ne _ _ e]
    exact ⟨fun z => ⟨z, fun k => absurd k e⟩, fun z => z.1⟩
theorem cTi_0 {q w u : Nat} (hq : q < 4) (hnf : nf ≤ 4) : cTi ce F W nf (tau0 ta) q w u ↔ tieB (pB ce W) q w u := by
  unfold cTi tau0
  rw [tkcp_lt hq]
  refine ⟨fun z => z.1, fun z => ⟨z, fun g hg m => ?_⟩⟩
  rw [rMem_z g (by omega)] at m
  cases m
end TAU
section SCHOOL2
variable {G : tkG} {n : Nat} {T : Nat → Nat × Nat} {I : Nat → Nat → Int32} {L : Nat → Nat → Int64} {P : Nat → Nat → Option Nat}
theorem c_taughtFirst {tw wa pic sta oa se pa ma np nf W r l : Nat} {F ce : Nat → Int32} (hsc : scO T P tw wa) (hs : sObj T P 37) (hpw : P 37 0 = some wa) (ht : tObj T P tw pic sta oa se pa ma) (hst : T sta = (20, 4)) (hsf : ¬ sta = 38) (hw : cWld n T I L P wa np nf W r F ce) (hW : W ≤ 64) (hr : r < W) (hnp : np ≤ 4) (hnf : nf ≤ 4) (hl : l < 16) : tkM G mX4_taughtFirst 5 0 0 [vR 36, vI (nI l)] (n, T, I, L, P) (TSQ n T (va_up I 38 (tau0 (I 38))) L P np nf W r F ce (I sta) l (evr W)) := by
  have hsc' := hsc
  obtain ⟨c1, c2, c3, c4⟩ := hsc'
  have s1 := hs.1
  have hw2 : (T wa).1 = 9 := hw.2.1
  have hw0 : cWld n T (va_up I 38 (tau0 (I 38))) L P wa np nf W r F ce := hw.ex ⟨Nat.le_refl _, fun b hb => ⟨rfl, by have := hb.1; rw [va_up_ne _ _ (by omega)], rfl, rfl⟩⟩
  refine tkM.of (ls := [some _, some _]) (by decide +kernel) (by decide +kernel) (Nat.le_of_ble_eq_true rfl) rfl ?_
  refine tk_aload0 dX4_taughtFirst_0 ?_
  refine tk_getP dX4_taughtFirst_1 fX4_12 rfl (by first | assumption | exact va_up_self _ _ _ | exact (va_up_ne _ _ (by omega)).trans (by assumption) | exact congrArg Prod.fst (va_up_self _ _ _) | exact (congrArg Prod.fst (va_up_ne _ _ (by omega))).trans (by assumption) | exact (congrFun (va_up_ne _ _ (by omega)) _).trans (by assumption) | exact (va_up_ne _ _ (by omega)).trans (va_up_self _ _ _) | exact (va_up_ne _ _ (by omega)).trans ((va_up_ne _ _ (by omega)).trans (by assumption)) | exact (congrArg Prod.fst ((va_up_ne _ _ (by omega)).trans (va_up_ne _ _ (by omega)))).trans (by assumption) | exact (congrFun ((va_up_ne _ _ (by omega)).trans (va_up_ne _ _ (by omega))) _).trans (by assumption) | (rw [va_up_self, va_up_ne _ _ (by omega)]; assumption)) (by first | assumption | exact va_up_self _ _ _ | exact (va_up_ne _ _ (by omega)).trans (by assumption) | exact congrArg Prod.fst (va_up_self _ _ _) | exact (congrArg Prod.fst (va_up_ne _ _ (by omega))).trans (by assumption) | exact (congrFun (va_up_ne _ _ (by omega)) _).trans (by assumption) | exact (va_up_ne _ _ (by omega)).trans (va_up_self _ _ _) | exact (va_up_ne _ _ (by omega)).trans ((va_up_ne _ _ (by omega)).trans (by assumption)) | exact (congrArg Prod.fst ((va_up_ne _ _ (by omega)).trans (va_up_ne _ _ (by omega)))).trans (by assumption) | exact (congrFun ((va_up_ne _ _ (by omega)).trans (va_up_ne _ _ (by omega))) _).trans (by assumption) | (rw [va_up_self, va_up_ne _ _ (by omega)]; assumption)) ?_
  refine tk_callV0y dX4_taughtFirst_4 kX4_61 (by first | assumption | exact va_up_self _ _ _ | exact (va_up_ne _ _ (by omega)).trans (by assumption) | exact congrArg Prod.fst (va_up_self _ _ _) | exact (congrArg Prod.fst (va_up_ne _ _ (by omega))).trans (by assumption) | exact (congrFun (va_up_ne _ _ (by omega)) _).trans (by assumption) | exact (va_up_ne _ _ (by omega)).trans (va_up_self _ _ _) | exact (va_up_ne _ _ (by omega)).trans ((va_up_ne _ _ (by omega)).trans (by assumption)) | exact (congrArg Prod.fst ((va_up_ne _ _ (by omega)).trans (va_up_ne _ _ (by omega)))).trans (by assumption) | exact (congrFun ((va_up_ne _ _ (by omega)).trans (va_up_ne _ _ (by omega))) _).trans (by assumption) | (rw [va_up_self, va_up_ne _ _ (by omega)]; assumption)) (c_forget (z := 37) hs) (Nat.le_of_ble_eq_true rfl) (by omega) ?_
  refine tk_aload0 dX4_taughtFirst_7 ?_
  refine tk_iload1 dX4_taughtFirst_8 ?_
  refine tk_aload0 dX4_taughtFirst_9 ?_
  refine tk_getP dX4_taughtFirst_10 fX4_34 rfl (by first | assumption | exact va_up_self _ _ _ | exact (va_up_ne _ _ (by omega)).trans (by assumption) | exact congrArg Prod.fst (va_up_self _ _ _) | exact (congrArg Prod.fst (va_up_ne _ _ (by omega))).trans (by assumption) | exact (congrFun (va_up_ne _ _ (by omega)) _).trans (by assumption) | exact (va_up_ne _ _ (by omega)).trans (va_up_self _ _ _) | exact (va_up_ne _ _ (by omega)).trans ((va_up_ne _ _ (by omega)).trans (by assumption)) | exact (congrArg Prod.fst ((va_up_ne _ _ (by omega)).trans (va_up_ne _ _ (by omega)))).trans (by assumption) | exact (congrFun ((va_up_ne _ _ (by omega)).trans (va_up_ne _ _ (by omega))) _).trans (by assumption) | (rw [va_up_self, va_up_ne _ _ (by omega)]; assumption)) (by first | assumption | exact va_up_self _ _ _ | exact (va_up_ne _ _ (by omega)).trans (by assumption) | exact congrArg Prod.fst (va_up_self _ _ _) | exact (congrArg Prod.fst (va_up_ne _ _ (by omega))).trans (by assumption) | exact (congrFun (va_up_ne _ _ (by omega)) _).trans (by assumption) | exact (va_up_ne _ _ (by omega)).trans (va_up_self _ _ _) | exact (va_up_ne _ _ (by omega)).trans ((va_up_ne _ _ (by omega)).trans (by assumption)) | exact (congrArg Prod.fst ((va_up_ne _ _ (by omega)).trans (va_up_ne _ _ (by omega)))).trans (by assumption) | exact (congrFun ((va_up_ne _ _ (by omega)).trans (va_up_ne _ _ (by omega))) _).trans (by assumption) | (rw [va_up_self, va_up_ne _ _ (by omega)]; assumption)) ?_
  refine tk_callV0z dX4_taughtFirst_13 kX4_39 (by first | assumption | exact va_up_self _ _ _ | exact (va_up_ne _ _ (by omega)).trans (by assumption) | exact congrArg Prod.fst (va_up_self _ _ _) | exact (congrArg Prod.fst (va_up_ne _ _ (by omega))).trans (by assumption) | exact (congrFun (va_up_ne _ _ (by omega)) _).trans (by assumption) | exact (va_up_ne _ _ (by omega)).trans (va_up_self _ _ _) | exact (va_up_ne _ _ (by omega)).trans ((va_up_ne _ _ (by omega)).trans (by assumption)) | exact (congrArg Prod.fst ((va_up_ne _ _ (by omega)).trans (va_up_ne _ _ (by omega)))).trans (by assumption) | exact (congrFun ((va_up_ne _ _ (by omega)).trans (va_up_ne _ _ (by omega))) _).trans (by assumption) | (rw [va_up_self, va_up_ne _ _ (by omega)]; assumption)) (c_every hw0 (by omega) hW) (Nat.le_of_ble_eq_true rfl) (by omega) ?_
  refine tk_callV2q dX4_taughtFirst_16 kX4_75 (by first | assumption | exact va_up_self _ _ _ | exact (va_up_ne _ _ (by omega)).trans (by assumption) | exact congrArg Prod.fst (va_up_self _ _ _) | exact (congrArg Prod.fst (va_up_ne _ _ (by omega))).trans (by assumption) | exact (congrFun (va_up_ne _ _ (by omega)) _).trans (by assumption) | exact (va_up_ne _ _ (by omega)).trans (va_up_self _ _ _) | exact (va_up_ne _ _ (by omega)).trans ((va_up_ne _ _ (by omega)).trans (by assumption)) | exact (congrArg Prod.fst ((va_up_ne _ _ (by omega)).trans (va_up_ne _ _ (by omega)))).trans (by assumption) | exact (congrFun ((va_up_ne _ _ (by omega)).trans (va_up_ne _ _ (by omega))) _).trans (by assumption) | (rw [va_up_self, va_up_ne _ _ (by omega)]; assumption)) (c_taughtSet (X := evr W) hsc hs hpw ht hst hw0 hW hr hnp hnf (by rw [va_up_self]; exact tauN_0) hl (fun v hv => (tb_evrT hW).mp hv) (Or.inr ((tb_evrT hW).mpr hr))) (Nat.le_of_ble_eq_true rfl) (by omega) ?_
  rintro rr h1 ⟨x, I', rfl, rfl, hq⟩
  dsimp only [Option.toList, List.singleton_append]
  refine tk_lreturn dX4_taughtFirst_19 rfl ?_
  refine ⟨x, I', rfl, rfl, ?_⟩
  rw [va_up_ne _ _ hsf] at hq
  exact hq
end SCHOOL2
