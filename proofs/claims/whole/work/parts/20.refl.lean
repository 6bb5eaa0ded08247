/-! ===== the reference: what is so, worked out ===== -/
def rTkN (v : Nat) : Nat := if v < 10 then 0 else if 11 ≤ v ∧ v ≤ 14 then 2 else 1
theorem rTk_nI {v : Nat} (h : v < 2 ^ 31) : rTk (nI v) = nI (rTkN v) := by
  unfold rTk rTkN
  by_cases h1 : v < 10
  · rw [if_pos ((nI_ltI h (by omega)).mpr h1), if_pos h1]
  · rw [if_neg (fun q => h1 ((nI_ltI h (by omega)).mp q)), if_neg h1]
    by_cases h2 : 11 ≤ v ∧ v ≤ 14
    · rw [if_pos ⟨(nI_leI (by omega) h).mpr h2.1, (nI_leI h (by omega)).mpr h2.2⟩, if_pos h2]
    · rw [if_neg (fun q => h2 ⟨(nI_leI (by omega) h).mp q.1, (nI_leI h (by omega)).mp q.2⟩), if_neg h2]
def SZ (row : Nat → Int32) : Nat → Nat → Nat
  | 0, _ => 1
  | k + 1, a => if rTkN (ix (row a)) = 0 then 1 else if rTkN (ix (row a)) = 1 then 1 + SZ row k (a - 1) else 1 + SZ row k (a - 1) + SZ row k (a - 1 - SZ row k (a - 1))
theorem SZ_0 {row : Nat → Int32} {k a : Nat} (h : rTkN (ix (row a)) = 0) : SZ row (k + 1) a = 1 := if_pos h
theorem SZ_1 {row : Nat → Int32} {k a : Nat} (h : rTkN (ix (row a)) = 1) : SZ row (k + 1) a = 1 + SZ row k (a - 1) := by rw [SZ, h]; rfl
theorem SZ_2 {row : Nat → Int32} {k a : Nat} (h : rTkN (ix (row a)) = 2) : SZ row (k + 1) a = 1 + SZ row k (a - 1) + SZ row k (a - 1 - SZ row k (a - 1)) := by rw [SZ, h]; rfl
theorem rTkN_le (v : Nat) : rTkN v ≤ 2 := by unfold rTkN; split; omega; split <;> omega
theorem rTkN_0 {v : Nat} (h : nI (rTkN v) = 0) : rTkN v = 0 := by
  have := rTkN_le v
  exact (nI_eq (by omega) (by omega)).mp (h.trans nI_0.symm)
/-- a sentence that ends at a place -/
def WF (np nf : Nat) (bl : Bool) (row : Nat → Int32) : Nat → Nat → Prop
  | 0, _ => False
  | k + 1, a => ∃ v, row a = nI v ∧ v ≤ 40 ∧ ((v < 4 ∧ v < nf) ∨ (v = 10 ∧ 1 ≤ a ∧ WF np nf bl row k (a - 1)) ∨ (11 ≤ v ∧ v ≤ 14 ∧ 1 ≤ a ∧ WF np nf bl row k (a - 1) ∧ SZ row k (a - 1) + 1 ≤ a ∧ WF np nf bl row k (a - 1 - SZ row k (a - 1))) ∨ (20 ≤ v ∧ v < 32 ∧ v % 4 < np ∧ (28 ≤ v → bl = true) ∧ 1 ≤ a ∧ WF np nf bl row k (a - 1)) ∨ (32 ≤ v ∧ 1 ≤ a ∧ WF np nf bl row k (a - 1)))
def rGi (v : Nat) : Nat := if v < 35 then v - 32 else if v < 38 then v - 35 else v - 38
def rIsS (np W : Nat) (B : Nat → Int64) (gr : Nat → Int32) (cn : Nat) (cv : Nat → Int64) (v w : Nat) (x set : Int64) : Bool :=
  if v < 24 then rKn B (v - 20) w x set
  else if v < 28 then decide (¬ B (64 * (v - 24) + w) &&& set &&& x = 0)
  else if v < 32 then decide (rRe cv 0 cn (B (64 * (v - 28) + w) &&& set) &&& (x ^^^ (-1)) = 0)
  else if v < 35 then rEa B (gr (rGi v)) w x set np
  else if v < 38 then decide (rCl B set (gr (rGi v)) W np 64 (jshl 1 (nI w)) &&& (x ^^^ (-1)) = 0)
  else decide (rTo B (gr (rGi v)) w set np &&& (x ^^^ (-1)) = 0)
def so2 (v : Nat) (set x y : Int64) : Int64 := if v = 11 then x &&& y else if v = 12 then x ||| y else (set &&& (x ^^^ (-1))) ||| y
def so1 (np W : Nat) (B : Nat → Int64) (gr : Nat → Int32) (cn : Nat) (cv : Nat → Int64) (v : Nat) (set x : Int64) : Int64 := if v = 10 then set &&& (x ^^^ (-1)) else mk (fun w => tb set w && rIsS np W B gr cn cv v w x set) W
def SO (np W cn : Nat) (F : Nat → Int32) (B : Nat → Int64) (gr : Nat → Int32) (cv : Nat → Int64 → Int64) (row : Nat → Int32) : Nat → Nat → Int64 → Int64
  | 0, _, _ => 0
  | k + 1, a, set => if ix (row a) < 10 then rSF F W (ix (row a)) &&& set
    else if 11 ≤ ix (row a) ∧ ix (row a) ≤ 14 then so2 (ix (row a)) set (SO np W cn F B gr cv row k (a - 1 - SZ row k (a - 1)) set) (SO np W cn F B gr cv row k (a - 1) (if ix (row a) = 14 then SO np W cn F B gr cv row k (a - 1 - SZ row k (a - 1)) set else set))
    else so1 np W B gr cn (fun c => cv c set) (ix (row a)) set (SO np W cn F B gr cv row k (a - 1) set)
section REFL
variable {G : tkG} {n : Nat} {T : Nat → Nat × Nat} {I : Nat → Nat → Int32} {L : Nat → Nat → Int64} {P : Nat → Nat → Option Nat}
theorem r_size (hR : tkRef T P) {ra len b np nf : Nat} {bl : Bool} (hra : T ra = (20, len)) (hlen : len < 2 ^ 31) : ∀ (k a : Nat), b + a < len → WF np nf bl (fun i => I ra (b + i)) k a → tkM G mX11_size k 0 0 [vR 40, vR ra, vI (nI (b + a))] (n, T, I, L, P) (tkF (some (vI (nI (SZ (fun i => I ra (b + i)) k a)))) (n, T, I, L, P)) := by
  intro k
  induction k with
  | zero => intro a _ h; exact h.elim
  | succ k ih =>
    intro a hba hwf
    obtain ⟨v, hv, hv40, hc⟩ := hwf
    have hv : I ra (b + a) = nI v := hv
    have htk := rTkN_le v
    have hix : ix (I ra (b + a)) = v := by rw [hv]; exact ix_nI (by omega)
    have hw1 : 10 ≤ v → 1 ≤ a ∧ WF np nf bl (fun i => I ra (b + i)) k (a - 1) := by
      intro h10
      rcases hc with ⟨h, -⟩ | ⟨-, h1, h2⟩ | ⟨-, -, h1, h2, -⟩ | ⟨-, -, -, -, h1, h2⟩ | ⟨-, h1, h2⟩
      · omega
      · exact ⟨h1, h2⟩
      · exact ⟨h1, h2⟩
      · exact ⟨h1, h2⟩
      · exact ⟨h1, h2⟩
    have hw2 : 11 ≤ v → v ≤ 14 → SZ (fun i => I ra (b + i)) k (a - 1) + 1 ≤ a ∧ WF np nf bl (fun i => I ra (b + i)) k (a - 1 - SZ (fun i => I ra (b + i)) k (a - 1)) := by
      intro h11 h14
      rcases hc with ⟨h, -⟩ | ⟨h, -⟩ | ⟨-, -, -, -, h1, h2⟩ | ⟨h, -⟩ | ⟨h, -⟩ <;> first | omega | exact ⟨h1, h2⟩
    refine tkM.of (ls := [some _, some _, some _, none, none]) (by decide +kernel) (by decide +kernel) (Nat.le_of_ble_eq_true rfl) rfl ?_
    refine tk_aload1 dX11_size_0 ?_
    refine tk_iload2 dX11_size_1 ?_
    refine tk_iald dX11_size_2 (by first | assumption | exact va_up_self _ _ _ | exact (va_up_ne _ _ (by omega)).trans (by assumption) | exact congrArg Prod.fst (va_up_self _ _ _) | exact (congrArg Prod.fst (va_up_ne _ _ (by omega))).trans (by assumption) | exact (congrFun (va_up_ne _ _ (by omega)) _).trans (by assumption) | exact (va_up_ne _ _ (by omega)).trans (va_up_self _ _ _) | exact (va_up_ne _ _ (by omega)).trans ((va_up_ne _ _ (by omega)).trans (by assumption)) | exact (congrArg Prod.fst ((va_up_ne _ _ (by omega)).trans (va_up_ne _ _ (by omega)))).trans (by assumption) | exact (congrFun ((va_up_ne _ _ (by omega)).trans (va_up_ne _ _ (by omega))) _).trans (by assumption) | (rw [va_up_self, va_up_ne _ _ (by omega)]; assumption)) (by omega) (by omega) ?_
    rw [hv]
    refine tk_callS1z dX11_size_3 kX11_205 (r_takes _) (Nat.le_of_ble_eq_true rfl) (by omega) ?_
    rw [rTk_nI (by omega)]
    refine tk_istore3 dX11_size_6 rfl ?_
    refine tk_iload3 dX11_size_7 ?_
    refine tk_if_ne dX11_size_8 (fun h8 => ?_) (fun h8 => ?_)
    · refine tk_aload0 dX11_size_13 ?_
      have h10 : 10 ≤ v := by
        by_cases q : v < 10
        · exact absurd (show nI (rTkN v) = 0 by unfold rTkN; rw [if_pos q]; rfl) h8
        · omega
      obtain ⟨ha1, hwa⟩ := hw1 h10
      have e1 : b + a - 1 = b + (a - 1) := by omega
      refine tk_aload1 dX11_size_14 ?_
      refine tk_iload2 dX11_size_15 ?_
      refine tk_iconst dX11_size_16 kc_iconst_1 ?_
      first | refine tk_isubN dX11_size_17 (by omega) ?_ | refine tk_isub dX11_size_17 ?_
      rw [e1]
      refine tk_callV2z dX11_size_18 kX11_229 hR.o (ih (a - 1) (by omega) hwa) (Nat.le_of_ble_eq_true rfl) (by omega) ?_
      refine tk_istore4 dX11_size_21 rfl ?_
      refine tk_iload3 dX11_size_23 ?_
      refine tk_iconst dX11_size_24 kc_iconst_1 ?_
      first | refine tk_icmp_neN dX11_size_25 (by omega) (by omega) (fun h25 => ?_) (fun h25 => ?_) | refine tk_icmp_ne dX11_size_25 (fun h25 => ?_) (fun h25 => ?_)
      · refine tk_iconst dX11_size_35 kc_iconst_1 ?_
        have h11 : 11 ≤ v ∧ v ≤ 14 := by
          unfold rTkN at h25
          rw [if_neg (by omega)] at h25
          split at h25
          · assumption
          · exact absurd rfl h25
        have hv2 : rTkN v = 2 := by unfold rTkN; rw [if_neg (by omega), if_pos h11]
        obtain ⟨hs1, hws⟩ := hw2 h11.1 h11.2
        have e2 : b + (a - 1) - SZ (fun i => I ra (b + i)) k (a - 1) = b + (a - 1 - SZ (fun i => I ra (b + i)) k (a - 1)) := by omega
        refine tk_iload4 dX11_size_36 ?_
        first | refine tk_iaddN dX11_size_38 ?_ | refine tk_iadd dX11_size_38 ?_
        refine tk_aload0 dX11_size_39 ?_
        refine tk_aload1 dX11_size_40 ?_
        refine tk_iload2 dX11_size_41 ?_
        refine tk_iconst dX11_size_42 kc_iconst_1 ?_
        first | refine tk_isubN dX11_size_43 (by omega) ?_ | refine tk_isub dX11_size_43 ?_
        rw [e1]
        refine tk_iload4 dX11_size_44 ?_
        first | refine tk_isubN dX11_size_46 (by omega) ?_ | refine tk_isub dX11_size_46 ?_
        rw [e2]
        refine tk_callV2z dX11_size_47 kX11_229 hR.o (ih _ (by omega) hws) (Nat.le_of_ble_eq_true rfl) (by omega) ?_
        first | refine tk_iaddN dX11_size_50 ?_ | refine tk_iadd dX11_size_50 ?_
        refine tk_ireturn dX11_size_51 rfl ?_
        first | exact tki (congrArg nI (SZ_2 (row := fun i => I ra (b + i)) (k := k) (a := a) ((congrArg rTkN hix).trans hv2)).symm) | exact tki (congrArg nI (SZ_1 (row := fun i => I ra (b + i)) (k := k) (a := a) ((congrArg rTkN hix).trans h25)).symm)
      · refine tk_iconst dX11_size_28 kc_iconst_1 ?_
        refine tk_iload4 dX11_size_29 ?_
        first | refine tk_iaddN dX11_size_31 ?_ | refine tk_iadd dX11_size_31 ?_
        refine tk_goto dX11_size_32 ?_
        refine tk_ireturn dX11_size_51 rfl ?_
        first | exact tki (congrArg nI (SZ_2 (row := fun i => I ra (b + i)) (k := k) (a := a) ((congrArg rTkN hix).trans hv2)).symm) | exact tki (congrArg nI (SZ_1 (row := fun i => I ra (b + i)) (k := k) (a := a) ((congrArg rTkN hix).trans h25)).symm)
    · refine tk_iconst dX11_size_11 kc_iconst_1 ?_
      refine tk_ireturn dX11_size_12 rfl ?_
      exact tki (congrArg nI (SZ_0 (row := fun i => I ra (b + i)) (k := k) (a := a) (by show rTkN (ix (I ra (b + a))) = 0; rw [hix]; exact rTkN_0 h8)).symm)
end REFL
