/-! ===== both sides: the reference's cells, whatever else stands in the heap ===== -/
def mixJ {α : Type} (I K : Nat → Nat → α) : Nat → Nat → α := fun a => cond (Nat.ble 40 a && Nat.blt a 87) (I a) (K a)
theorem mix_at {α : Type} {I K : Nat → Nat → α} {a : Nat} (h : 40 ≤ a) (h2 : a < 87) : mixJ I K a = I a := by
  unfold mixJ
  rw [show Nat.ble 40 a = true from Nat.ble_eq.mpr h, show Nat.blt a 87 = true from Nat.blt_eq.mpr h2]
  rfl
theorem mix_out {α : Type} {I K : Nat → Nat → α} {a : Nat} (h : a < 40 ∨ 87 ≤ a) : mixJ I K a = K a := by
  unfold mixJ
  cases e1 : Nat.ble 40 a with
  | false => rfl
  | true =>
    cases e2 : Nat.blt a 87 with
    | false => rfl
    | true =>
      have := Nat.ble_eq.mp e1
      have := Nat.blt_eq.mp e2
      omega
theorem mix_of {α : Type} {I K : Nat → Nat → α} (h : ∀ a, 40 ≤ a → a < 87 → K a = I a) : K = mixJ I K := by
  funext a
  by_cases e : 40 ≤ a ∧ a < 87
  · rw [mix_at e.1 e.2]; exact h a e.1 e.2
  · rw [mix_out (by omega)]
theorem mix_up {α : Type} {J K : Nat → Nat → α} {k : Nat} {v : Nat → α} (h : 40 ≤ k) (h2 : k < 87) : va_up (mixJ J K) k v = mixJ (va_up J k v) K := by
  funext a
  by_cases e : a = k
  · rw [e, va_up_self, mix_at h h2, va_up_self]
  · rw [va_up_ne _ _ e]
    by_cases e2 : 40 ≤ a ∧ a < 87
    · rw [mix_at e2.1 e2.2, mix_at e2.1 e2.2, va_up_ne _ _ e]
    · rw [mix_out (by omega), mix_out (by omega)]
section MIX
variable {I J K : Nat → Nat → Int32} {L KL : Nat → Nat → Int64}
theorem mix_snap {f : Nat → Int32} {b : Nat} : rSnap (mixJ J K) f b = rSnap J f b := rfl
theorem mix_kp {m : Nat} : rKp (mixJ J K) m = mixJ (rKp J m) K := by
  unfold rKp
  by_cases h : m = 12
  · rw [if_pos h, if_pos h, mix_up (by omega) (by omega), mix_up (by omega) (by omega)]; rfl
  · rw [if_neg h, if_neg h, mix_up (by omega) (by omega), mix_up (by omega) (by omega)]; rfl
theorem mix_fnd : rFnd (mixJ J K) = mixJ (rFnd J) K := by
  unfold rFnd
  rw [mix_up (by omega) (by omega)]; rfl
theorem mix_Vw {w r c : Int32} {f ce cs cl g : Nat → Int32} : rVw (mixJ J K) w r c f ce cs cl g = mixJ (rVw J w r c f ce cs cl g) K := by
  unfold rVw
  rw [mix_up (by omega) (by omega), mix_up (by omega) (by omega), mix_up (by omega) (by omega), mix_up (by omega) (by omega), mix_up (by omega) (by omega), mix_up (by omega) (by omega)]; rfl
theorem mix_VT : rVT (mixJ J K) = mixJ (rVT J) K := mix_Vw
theorem mix_VM {m : Nat} : rVM (mixJ J K) m = mixJ (rVM J m) K := mix_Vw
theorem mix_lay {W r : Int32} {f c : Nat → Int32} : rLay (mixJ J K) W r f c = mixJ (rLay J W r f c) K := by
  unfold rLay
  rw [mix_up (by omega) (by omega), mix_up (by omega) (by omega), mix_up (by omega) (by omega)]; rfl
theorem mix_beg {a b c : Int32} {W : Nat} : rBeg (mixJ J K) a b c W = mixJ (rBeg J a b c W) K := by
  unfold rBeg
  rw [mix_up (by omega) (by omega), mix_up (by omega) (by omega), mix_up (by omega) (by omega), mix_up (by omega) (by omega), mix_up (by omega) (by omega)]; rfl
theorem mix_mk {m : Nat} : rMk (mixJ J K) m = mixJ (rMk J m) K := by
  unfold rMk
  rw [mix_up (by omega) (by omega), mix_up (by omega) (by omega), mix_up (by omega) (by omega), mix_up (by omega) (by omega), mix_up (by omega) (by omega), mix_up (by omega) (by omega), mix_up (by omega) (by omega)]; rfl
theorem mix_li {s l c : Nat} : rLi (mixJ J K) s l c = mixJ (rLi J s l c) K := by
  unfold rLi
  rw [mix_up (by omega) (by omega), mix_up (by omega) (by omega), mix_up (by omega) (by omega)]; rfl
theorem mix_back {b : Nat} : rBack (mixJ J K) b = mixJ (rBack J b) K := by
  unfold rBack
  repeat rw [mix_up (by omega) (by omega)]
  rfl
theorem mix_un {m : Nat} : rUn (mixJ J K) m = mixJ (rUn J m) K := by
  unfold rUn
  rw [mix_back, mix_up (by omega) (by omega)]; rfl
theorem mix_vwB {np W : Nat} : vwB (mixJ J K) (mixJ L KL) np W = vwB J L np W := by
  unfold vwB
  rw [mix_VT]; rfl
theorem mix_mwB {np W m : Nat} : mwB (mixJ J K) (mixJ L KL) np W m = mwB J L np W m := by
  unfold mwB
  rw [mix_VM]; rfl
theorem mix_soT {np W cn s : Nat} {cl : Nat → Nat} : soT (mixJ J K) (mixJ L KL) np W cn cl s = soT J L np W cn cl s := by
  unfold soT
  rw [mix_vwB, mix_VT]; rfl
theorem mix_soM {np W cn m s : Nat} {cl : Nat → Nat} : soM (mixJ J K) (mixJ L KL) np W cn cl m s = soM J L np W cn cl m s := by
  unfold soM
  rw [mix_mwB, mix_VM]; rfl
theorem mix_rt {s : Int32} : rRt (mixJ J K) s = rRt J s := rfl
theorem mix_ask {s : Int32} : rAsk (mixJ J K) s = rAsk J s := rfl
theorem mix_pa {np W r cn : Nat} {cl pl pg : Nat → Nat} : paT (mixJ J K) (mixJ L KL) np W r cn cl pl pg = paT J L np W r cn cl pl pg := by
  funext k
  unfold paT
  rw [mix_vwB, mix_VT]; rfl
theorem mix_clV {np W r cn c p : Nat} {cl : Nat → Nat} : rClV (mixJ J K) (mixJ L KL) np W r cn cl c p = rClV J L np W r cn cl c p := by
  unfold rClV
  rw [mix_vwB, mix_VT]; rfl
theorem mix_kf {np W r p f : Nat} {wh : Bool} : rKf (mixJ J K) (mixJ L KL) np W r p wh f = rKf J L np W r p wh f := by
  unfold rKf
  rw [mix_vwB, mix_VT]; rfl
theorem mix_kb {np W r p : Nat} {wh : Bool} : ∀ f, rKb (mixJ J K) (mixJ L KL) np W r p wh f = rKb J L np W r p wh f := by
  intro f
  induction f with
  | zero => rfl
  | succ f ih => rw [rKb, rKb, ih, mix_kf]
theorem mix_opC {np W r cn : Nat} {cl : Nat → Nat} {a b s : Int32} {near : Bool} : rOpC (mixJ J K) (mixJ L KL) np W r cn cl a b s near = rOpC J L np W r cn cl a b s near := by
  unfold rOpC
  rw [mix_vwB, mix_soT]; rfl
theorem mix_crC {np W r cn : Nat} {cl : Nat → Nat} {a s : Int32} : rCrC (mixJ J K) (mixJ L KL) np W r cn cl a s = rCrC J L np W r cn cl a s := by
  unfold rCrC
  rw [mix_vwB, mix_soT]; rfl
theorem mix_tA {np nf W r cn s : Nat} {cl : Nat → Nat} : tA (mixJ J K) np nf W r cn cl s = tA J np nf W r cn cl s := rfl
theorem mix_tLs {np nf W r cn s : Nat} {cl : Nat → Nat} : tLs (mixJ J K) np nf W r cn cl s = tLs J np nf W r cn cl s := rfl
theorem mix_TH {np nf W r cn : Nat} {cl : Nat → Nat} (h : TH J np nf W r cn cl) : TH (mixJ J K) np nf W r cn cl := h.congr (fun a h1 h2 => mix_at (by omega) (by omega))
theorem mix_MH {np nf mn : Nat} {mW mr mc : Nat → Nat} {ml : Nat → Nat → Nat} (h : MH J np nf mn mW mr mc ml) : MH (mixJ J K) np nf mn mW mr mc ml := h.congr (fun a h1 h2 => mix_at (by omega) (by omega))
theorem mix_PH {np nf pn : Nat} {pl pg : Nat → Nat} (h : PH J np nf pn pl pg) : PH (mixJ J K) np nf pn pl pg := h
theorem mix_js {J' : Nat → Nat → Int32} (h : rSm J' (mixJ J K)) : jSm J J' := by
  refine ⟨fun a h1 h2 => ?_, ?_, ?_⟩
  · rw [h.1 a (Or.inr (Or.inl ⟨h1, h2⟩)), mix_at (by omega) (by omega)]
  · exact h.2.1.symm
  · exact h.2.2.symm
theorem mix_fr {J' : Nat → Nat → Int32} (h : rSm J' (mixJ J K)) : ∀ a, a < 40 ∨ 87 ≤ a → J' a = K a := fun a ha => by
  rw [h.1 a (by omega), mix_out ha]
end MIX
