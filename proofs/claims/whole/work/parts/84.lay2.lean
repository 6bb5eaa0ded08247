/-! ===== the class: draft, a parting laid ===== -/
theorem cnt_t {M : Int64} {k : Nat} (h : tb M k = true) : cnt M (k + 1) = cnt M k + 1 := by rw [cnt, if_pos h]
theorem cnt_f {M : Int64} {k : Nat} (h : tb M k = false) : cnt M (k + 1) = cnt M k := by rw [cnt, h]; rfl
/-- the draft after the worlds below w are gone through -/
def DPT (I I' : Nat → Nat → Int32) (np nf W r : Nat) (F ce : Nat → Int32) (M : Int64) (q : Nat) (S : Int64) (w : Nat) : Prop := (∀ a, ¬ a = 28 → ¬ a = 29 → ¬ a = 30 → I' a = I a) ∧ I' 28 0 = nI np ∧ I' 28 1 = nI nf ∧ I' 28 2 = nI (cnt M w) ∧ (r < w → tb M r = true → I' 28 3 = nI (cnt M r)) ∧ ∀ u, u < w → tb M u = true → I' 29 (cnt M u) = F u ∧ ∀ p, p < np → I' 30 (128 * p + cnt M u) = nI (4 * cLs ce W p u + if p = q ∧ tb S u = true then 1 else 0)
section DPT_
variable {I I' : Nat → Nat → Int32} {np nf W r : Nat} {F ce : Nat → Int32} {M : Int64} {q : Nat} {S : Int64} {w : Nat}
theorem DPT.no (h : DPT I I' np nf W r F ce M q S w) (hm : tb M w = false) : DPT I I' np nf W r F ce M q S (w + 1) := by
  obtain ⟨h1, h2, h3, h4, h5, h6⟩ := h
  refine ⟨h1, h2, h3, by rw [cnt_f hm]; exact h4, fun a b => ?_, fun u hu mu => ?_⟩
  · by_cases e : r = w
    · subst e; rw [hm] at b; cases b
    · exact h5 (by omega) b
  · by_cases e : u = w
    · subst e; rw [hm] at mu; cases mu
    · exact h6 u (by omega) mu
theorem DPT.up {I4 : Nat → Nat → Int32} {x : Nat} {y z : Int32} (h : DPT I I' np nf W r F ce M q S w) (hm : tb M w = true) (hw : w < 64) (hq : q < np) (hnp : np ≤ 4) (hA : DAD I' I4 np (cnt M w) x (fun p => 4 * cLs ce W p w)) (hx : F w = nI x) (hy : y = nI (4 * cLs ce W q w + if tb S w = true then 1 else 0)) (hz : z = if w = r then nI (cnt M w) else I4 28 3) : DPT I (va_up (va_up I4 30 (va_up (I4 30) (128 * q + cnt M w) y)) 28 (va_up (I4 28) 3 z)) np nf W r F ce M q S (w + 1) := by
  obtain ⟨h1, h2, h3, h4, h5, h6⟩ := h
  obtain ⟨a1, a2, a3, a4, a5, a6, a7⟩ := hA
  have hcw := cnt_le M w
  refine ⟨fun a b1 b2 b3 => ?_, ?_, ?_, ?_, fun a b => ?_, fun u hu mu => ⟨?_, fun p hp => ?_⟩⟩
  · rw [va_up_ne _ _ b1, va_up_ne _ _ b3, a1 a b1 b2 b3, h1 a b1 b2 b3]
  · rw [va_up_self, va_up_ne _ _ (by omega), a3 0 (by omega), h2]
  · rw [va_up_self, va_up_ne _ _ (by omega), a3 1 (by omega), h3]
  · rw [va_up_self, va_up_ne _ _ (by omega), a2, cnt_t hm]
  · rw [va_up_self, va_up_self, hz]
    by_cases e : w = r
    · rw [if_pos e, e]
    · rw [if_neg e, a3 3 (by omega)]; exact h5 (by omega) b
  · rw [va_up_ne _ _ (by omega), va_up_ne _ _ (by omega)]
    by_cases e : u = w
    · subst e; rw [a4, hx]
    · rw [a5 _ (fun z => e (cnt_inj mu hm z))]; exact (h6 u (by omega) mu).1
  · have hcu := cnt_le M u
    rw [va_up_ne _ _ (by omega), va_up_self]
    by_cases e : u = w
    · subst e
      by_cases e2 : p = q
      · subst e2
        rw [va_up_self, hy]
        congr 2
        by_cases e3 : tb S u = true
        · rw [if_pos e3, if_pos ⟨rfl, e3⟩]
        · rw [if_neg e3, if_neg (fun z => e3 z.2)]
      · rw [va_up_ne _ _ (by omega), if_neg (fun z => e2 z.1), Nat.add_zero]
        exact a6 p hp
    · have hne : ¬ cnt M u = cnt M w := fun z => e (cnt_inj mu hm z)
      rw [va_up_ne _ _ (by omega), a7 p _ (by omega) hne]
      exact (h6 u (by omega) mu).2 p hp
end DPT_
