/-! ===== the class: school, what a lesson leaves ===== -/
theorem tau0_z {ta : Nat → Int32} (h : ∀ q, 4 ≤ q → ta q = nI 0) : tau0 ta = fun _ => nI 0 := by
  funext q
  unfold tau0 tkcp
  by_cases e : q < 4
  · rw [if_pos e]
  · rw [if_neg e]; exact h q (by omega)
theorem cTi_z {ce F : Nat → Int32} {W nf : Nat} (hnf : nf ≤ 4) : cTi ce F W nf (fun _ => nI 0) = tieB (pB ce W) := by
  funext q w u
  apply propext
  unfold cTi
  refine ⟨fun z => z.1, fun z => ⟨z, fun g hg m => ?_⟩⟩
  rw [rMem_z g (by omega)] at m
  cases m
theorem evr_S {W : Nat} (hW : W ≤ 64) : (fun u => tb (evr W) u = true) = fun u => u < W := funext fun _ => propext (tb_evrT hW)
section SCHOOL3
variable {n : Nat} {T : Nat → Nat × Nat} {J : Nat → Nat → Int32} {L : Nat → Nat → Int64} {P : Nat → Nat → Option Nat}
variable {np nf W r l : Nat} {F ce st : Nat → Int32} {X : Int64} {rv : Option tkV} {h : tkH}
/-- a lesson either can't be given, or leaves what is next -/
theorem TSQ.read (hQ : TSQ n T J L P np nf W r F ce st l X rv h) (hl : l < 16) (hnp : np ≤ 4) (hnf : nf ≤ 4) (hta : tauN (J 38)) : ∃ x I', rv = some (vL x) ∧ h = (n, T, I', L, P) ∧ ((x = 0 ∧ I' = J ∧ (X = 0 ∨ ∀ S' tie', l < 4 * np → ¬ NXT np nf st (faF F) r l (fun u => tb X u = true) (cTi ce F W nf (J 38)) S' tie')) ∨ (¬ X = 0 ∧ tb x r = true ∧ I' = va_up J 38 (tauP (J 38) (l / 4) (l % 4)) ∧ l < 4 * np ∧ (∀ u, tb x u = true → tb X u = true) ∧ NXT np nf st (faF F) r l (fun u => tb X u = true) (cTi ce F W nf (J 38)) (fun u => tb x u = true) (cTi ce F W nf (tauP (J 38) (l / 4) (l % 4))))) := by
  obtain ⟨x, I', e1, e2, hq⟩ := hQ
  refine ⟨x, I', e1, e2, ?_⟩
  rcases hq with ⟨a1, a2, a3⟩ | ⟨a1, a2, a3, a4, a5, a, a6, a7⟩
  · refine Or.inl ⟨a1, a2, ?_⟩
    rcases a3 with a3 | a3
    · exact Or.inl a3
    · refine Or.inr (fun S' tie' hlt hn => a3 ?_)
      obtain ⟨b1, a, b2, -, -⟩ := hn
      exact ⟨a, by omega, b1, b2⟩
  · refine Or.inr ⟨a1, a2, a3, by omega, fun u hu => ((a7 u).mp hu).1, a5, a, a6, ?_, ?_⟩
    · funext u
      exact propext (a7 u)
    · exact cTi_P hta (by omega) a5 hnf
end SCHOOL3
