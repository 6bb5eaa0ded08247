/-! ===== the class: school, a first lesson read ===== -/
section SCHOOL5
variable {n : Nat} {T : Nat → Nat × Nat} {J : Nat → Nat → Int32} {L : Nat → Nat → Int64} {P : Nat → Nat → Option Nat}
variable {np nf W r l : Nat} {F ce st : Nat → Int32} {rv : Option tkV} {h : tkH}
theorem tauP_z {ta : Nat → Int32} {p f : Nat} (h : ∀ q, 4 ≤ q → ta q = nI 0) (hp : p < 4) : ∀ q, 4 ≤ q → tauP ta p f q = nI 0 := by
  intro q hq
  unfold tauP
  rw [va_up_ne _ _ (by omega)]; exact h q hq
theorem tauN_z : tauN (fun _ => nI 0) := fun _ _ => ⟨0, by omega, rfl⟩
theorem TF_read (hQ : TSQ n T (va_up J 38 (tau0 (J 38))) L P np nf W r F ce st l (evr W) rv h) (hz : ∀ q, 4 ≤ q → J 38 q = nI 0) (hl : l < 16) (hnp : np ≤ 4) (hnf : nf ≤ 4) (hW : W ≤ 64) (hr : r < W) : ∃ x ta, rv = some (vL x) ∧ h = (n, T, va_up J 38 ta, L, P) ∧ tauN ta ∧ (∀ q, 4 ≤ q → ta q = nI 0) ∧ (∀ u, tb x u = true → u < W) ∧ ((x = 0 ∧ ∀ S' tie', l < 4 * np → ¬ NXT np nf st (faF F) r l (fun w => w < W) (tieB (pB ce W)) S' tie') ∨ (tb x r = true ∧ l < 4 * np ∧ ta = tauP (fun _ => nI 0) (l / 4) (l % 4) ∧ NXT np nf st (faF F) r l (fun w => w < W) (tieB (pB ce W)) (fun u => tb x u = true) (cTi ce F W nf ta))) := by
  rw [tau0_z hz] at hQ
  obtain ⟨x, I', e1, e2, hq⟩ := hQ.read hl hnp hnf (by rw [va_up_self]; exact tauN_z)
  rw [va_up_self, cTi_z hnf, evr_S hW] at hq
  rcases hq with ⟨a1, a2, a3⟩ | ⟨a1, a2, a3, a4, a5, a6⟩
  · refine ⟨x, fun _ => nI 0, e1, by rw [e2, a2], tauN_z, fun _ _ => rfl, fun u hu => ?_, Or.inl ⟨a1, ?_⟩⟩
    · rw [a1, tb_0] at hu; cases hu
    · rcases a3 with a3 | a3
      · exfalso
        have := (tb_evrT hW).mpr hr
        rw [a3, tb_0] at this
        cases this
      · exact a3
  · have hl4 : l / 4 < 4 := by omega
    have hf4 : l % 4 < 4 := by omega
    exact ⟨x, tauP (fun _ => nI 0) (l / 4) (l % 4), e1, by rw [e2, a3, bx_uu], tauN_P tauN_z hl4 hf4, tauP_z (fun _ _ => rfl) hl4, fun u hu => (tb_evrT hW).mp (a5 u hu), Or.inr ⟨a2, a4, rfl, a6⟩⟩
end SCHOOL5
