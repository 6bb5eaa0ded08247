/-! ===== the reference: questions ===== -/
theorem WF_nb {np nf : Nat} {row : Nat → Int32} : ∀ (k a : Nat), (∀ i, i ≤ a → rIn (row i) (nI 28) (nI 31) = false) → WF np nf true row k a → WF np nf false row k a := by
  intro k
  induction k with
  | zero => intro a _ h; exact h
  | succ k ih =>
    intro a h hw
    obtain ⟨v, hv, hv40, hc⟩ := hw
    have g1 := ih (a - 1) (fun i hi => h i (by omega))
    have hva := h a (Nat.le_refl a)
    refine ⟨v, hv, hv40, ?_⟩
    rcases hc with h' | ⟨h0, h1, h2⟩ | ⟨h0, h3, h1, h2, h4, h5⟩ | ⟨h0, h3, h4, h5, h1, h2⟩ | ⟨h0, h1, h2⟩
    · exact Or.inl h'
    · exact Or.inr (Or.inl ⟨h0, h1, g1 h2⟩)
    · exact Or.inr (Or.inr (Or.inl ⟨h0, h3, h1, g1 h2, h4, ih _ (fun i hi => h i (by omega)) h5⟩))
    · refine Or.inr (Or.inr (Or.inr (Or.inl ⟨h0, h3, h4, fun q => ?_, h1, g1 h2⟩)))
      rw [hv] at hva
      unfold rIn at hva
      rw [decide_eq_true ((nI_leI (by omega) (by omega)).mpr q), decide_eq_true ((nI_leI (by omega) (by omega)).mpr (show v ≤ 31 by omega))] at hva
      cases hva
    · exact Or.inr (Or.inr (Or.inr (Or.inr ⟨h0, h1, g1 h2⟩)))
theorem rBel_f {row : Nat → Int32} {l : Nat} (h : rBel row l = false) : ∀ i, i < l → rIn (row i) (nI 28) (nI 31) = false := by
  induction l with
  | zero => intro i hi; omega
  | succ l ih =>
    rw [rBel, Bool.or_eq_false_iff] at h
    intro i hi
    by_cases e : i = l
    · subst e; exact h.2
    · exact ih h.1 i (by omega)
/-- the town in the reference's rows -/
def TH (I : Nat → Nat → Int32) (np nf W r cn : Nat) (cl : Nat → Nat) : Prop := I 41 0 = nI np ∧ 1 ≤ np ∧ np ≤ 4 ∧ I 41 1 = nI nf ∧ 1 ≤ nf ∧ nf ≤ 4 ∧ I 41 2 = nI W ∧ 1 ≤ W ∧ W ≤ 64 ∧ I 41 3 = nI r ∧ r < W ∧ I 41 4 = nI cn ∧ cn ≤ 5 ∧ (∀ c, c < cn → I 50 c = nI (cl c) ∧ 1 ≤ cl c ∧ cl c ≤ 14 ∧ WF np nf false (fun i => I 49 (14 * c + i)) 14 (cl c - 1)) ∧ (∀ s, s < 6 → ∃ l, l ≤ 14 ∧ I 48 s = nI l ∧ ∀ i, i < l → rSign (I 47 (14 * s + i)) = true)
theorem TH.ls {I : Nat → Nat → Int32} {np nf W r cn : Nat} {cl : Nat → Nat} (h : TH I np nf W r cn cl) : rLs I := fun s hs => by
  obtain ⟨l, h1, h2, -⟩ := h.2.2.2.2.2.2.2.2.2.2.2.2.2.2 s hs
  exact ⟨l, h1, h2⟩
theorem rVT_at {I : Nat → Nat → Int32} {a : Nat} (h : 41 ≤ a ∧ a ≤ 63 ∨ a < 40 ∨ 70 ≤ a) : rVT I a = I a := by
  unfold rVT rVw
  rw [va_up_ne _ _ (by omega), va_up_ne _ _ (by omega), va_up_ne _ _ (by omega), va_up_ne _ _ (by omega), va_up_ne _ _ (by omega), va_up_ne _ _ (by omega)]
theorem rVT_40 (I : Nat → Nat → Int32) : rVT I 40 = va_up (va_up (va_up (I 40) 26 (I 41 2)) 27 (I 41 3)) 31 (I 41 4) := by simp only [rVT, rVw, va_up_self, bx_uu, tk_une, tk_usrt, not_false_eq_true, Nat.reduceEqDiff, Nat.reduceLT, Nat.reduceAdd, Nat.reduceMul, Nat.reduceLeDiff, reduceCtorEq]
theorem rVT_67 (I : Nat → Nat → Int32) : rVT I 67 = tkcp (I 67) (I 49) 70 := by simp only [rVT, rVw, va_up_self, bx_uu, tk_une, tk_usrt, not_false_eq_true, Nat.reduceEqDiff, Nat.reduceLT, Nat.reduceAdd, Nat.reduceMul, Nat.reduceLeDiff, reduceCtorEq]
theorem rVT_68 (I : Nat → Nat → Int32) : rVT I 68 = tkcp (I 68) (I 50) 5 := by simp only [rVT, rVw, va_up_self, bx_uu, tk_une, tk_usrt, not_false_eq_true, Nat.reduceEqDiff, Nat.reduceLT, Nat.reduceAdd, Nat.reduceMul, Nat.reduceLeDiff, reduceCtorEq]
theorem tkcp_lt {α : Type} {f g : Nat → α} {n j : Nat} (h : j < n) : tkcp f g n j = g j := if_pos h
theorem TH.vh {I : Nat → Nat → Int32} {np nf W r cn : Nat} {cl : Nat → Nat} (h : TH I np nf W r cn cl) : VH (rVT I) np nf W cn cl := by
  obtain ⟨h1, h2, h3, h4, h5, h6, h7, h8, h9, h10, h11, h12, h13, h14, h15⟩ := h
  refine ⟨by rw [rVT_at (by omega)]; exact h1, h3, by rw [rVT_40]; simp only [va_up_self, bx_uu, tk_une, tk_usrt, not_false_eq_true, Nat.reduceEqDiff, Nat.reduceLT, Nat.reduceAdd, Nat.reduceMul, Nat.reduceLeDiff, reduceCtorEq]; exact h7, h9, by rw [rVT_40]; simp only [va_up_self, bx_uu, tk_une, tk_usrt, not_false_eq_true, Nat.reduceEqDiff, Nat.reduceLT, Nat.reduceAdd, Nat.reduceMul, Nat.reduceLeDiff, reduceCtorEq]; exact h12, h13, fun c hc => ?_⟩
  obtain ⟨g1, g2, g3, g4⟩ := h14 c hc
  refine ⟨by rw [rVT_68, tkcp_lt (by omega)]; exact g1, g2, g3, WF_congr 14 (cl c - 1) (fun i hi => ?_) g4⟩
  show I 49 (14 * c + i) = rVT I 67 (14 * c + i)
  rw [rVT_67, tkcp_lt (by omega)]
/-- the same in all that lasts -/
def rSm (I J : Nat → Nat → Int32) : Prop := (∀ a, a < 40 ∨ (41 ≤ a ∧ a ≤ 63) ∨ 87 ≤ a → I a = J a) ∧ I 40 20 = J 40 20 ∧ I 40 24 = J 40 24
def rLm (L L' : Nat → Nat → Int64) : Prop := ∀ a, a < 40 ∨ 87 ≤ a → L' a = L a
def rPt (n : Nat) (T : Nat → Nat × Nat) (P : Nat → Nat → Option Nat) (L : Nat → Nat → Int64) (v : Int32) (J : Nat → Nat → Int32) : Option tkV → tkH → Prop := fun r h => ∃ I' L', r = some (vI v) ∧ h = (n, T, I', L', P) ∧ rSm I' J ∧ rLm L L'
theorem rSm.rf {I : Nat → Nat → Int32} : rSm I I := ⟨fun _ _ => rfl, rfl, rfl⟩
theorem rSm.tr {I J K : Nat → Nat → Int32} (h1 : rSm I J) (h2 : rSm J K) : rSm I K := ⟨fun a h => (h1.1 a h).trans (h2.1 a h), h1.2.1.trans h2.2.1, h1.2.2.trans h2.2.2⟩
theorem rLm.rf {L : Nat → Nat → Int64} : rLm L L := fun _ _ => rfl
theorem rLm.tr {L L1 L2 : Nat → Nat → Int64} (h1 : rLm L L1) (h2 : rLm L1 L2) : rLm L L2 := fun a h => (h2 a h).trans (h1 a h)
theorem rLm.up {L : Nat → Nat → Int64} {a : Nat} {f : Nat → Int64} (h : 40 ≤ a ∧ a < 87) : rLm L (va_up L a f) := fun b hb => va_up_ne _ _ (by omega)
theorem rSm_VT (I : Nat → Nat → Int32) : rSm (rVT I) I := by
  refine ⟨fun a h => rVT_at (by omega), ?_, ?_⟩
  · rw [rVT_40]; simp only [va_up_self, bx_uu, tk_une, tk_usrt, not_false_eq_true, Nat.reduceEqDiff, Nat.reduceLT, Nat.reduceAdd, Nat.reduceMul, Nat.reduceLeDiff, reduceCtorEq]
  · rw [rVT_40]; simp only [va_up_self, bx_uu, tk_une, tk_usrt, not_false_eq_true, Nat.reduceEqDiff, Nat.reduceLT, Nat.reduceAdd, Nat.reduceMul, Nat.reduceLeDiff, reduceCtorEq]
theorem rVM_at {I : Nat → Nat → Int32} {m a : Nat} (h : 41 ≤ a ∧ a ≤ 63 ∨ a < 40 ∨ 70 ≤ a) : rVM I m a = I a := by
  unfold rVM rVw
  rw [va_up_ne _ _ (by omega), va_up_ne _ _ (by omega), va_up_ne _ _ (by omega), va_up_ne _ _ (by omega), va_up_ne _ _ (by omega), va_up_ne _ _ (by omega)]
theorem rVM_40 (I : Nat → Nat → Int32) (m : Nat) : rVM I m 40 = va_up (va_up (va_up (I 40) 26 (I 54 (3 * m))) 27 (I 54 (3 * m + 1))) 31 (I 54 (3 * m + 2)) := by simp only [rVM, rVw, va_up_self, bx_uu, tk_une, tk_usrt, not_false_eq_true, Nat.reduceEqDiff, Nat.reduceLT, Nat.reduceAdd, Nat.reduceMul, Nat.reduceLeDiff, reduceCtorEq]
theorem rSm_VM (I : Nat → Nat → Int32) (m : Nat) : rSm (rVM I m) I := by
  refine ⟨fun a h => rVM_at (by omega), ?_, ?_⟩
  · rw [rVM_40]; simp only [va_up_self, bx_uu, tk_une, tk_usrt, not_false_eq_true, Nat.reduceEqDiff, Nat.reduceLT, Nat.reduceAdd, Nat.reduceMul, Nat.reduceLeDiff, reduceCtorEq]
  · rw [rVM_40]; simp only [va_up_self, bx_uu, tk_une, tk_usrt, not_false_eq_true, Nat.reduceEqDiff, Nat.reduceLT, Nat.reduceAdd, Nat.reduceMul, Nat.reduceLeDiff, reduceCtorEq]
theorem rSm_Fnd {I J : Nat → Nat → Int32} (h : rSm I J) : rSm (rFnd I) (rFnd J) := by
  refine ⟨fun a ha => ?_, ?_, ?_⟩
  · unfold rFnd; rw [va_up_ne _ _ (by omega), va_up_ne _ _ (by omega)]; exact h.1 a ha
  · unfold rFnd; simp only [va_up_self, bx_uu, tk_une, tk_usrt, not_false_eq_true, Nat.reduceEqDiff, Nat.reduceLT, Nat.reduceAdd, Nat.reduceMul, Nat.reduceLeDiff, reduceCtorEq]; exact h.2.1
  · unfold rFnd; simp only [va_up_self, bx_uu, tk_une, tk_usrt, not_false_eq_true, Nat.reduceEqDiff, Nat.reduceLT, Nat.reduceAdd, Nat.reduceMul, Nat.reduceLeDiff, reduceCtorEq]; rw [h.2.2]
theorem rPt_i {n : Nat} {T : Nat → Nat × Nat} {P : Nat → Nat → Option Nat} {L L' : Nat → Nat → Int64} {v v' : Int32} {I' J : Nat → Nat → Int32} (e : v' = v) (h1 : rSm I' J) (h2 : rLm L L') : rPt n T P L v J (some (vI v')) (n, T, I', L', P) := ⟨I', L', by rw [e], rfl, h1, h2⟩
/-- the worlds of a town at which a sentence is so -/
def vwB (I : Nat → Nat → Int32) (L : Nat → Nat → Int64) (np W : Nat) : Nat → Int64 := rTB (L 66) (rVT I 65) W np 0
def soT (I : Nat → Nat → Int32) (L : Nat → Nat → Int64) (np W cn : Nat) (cl : Nat → Nat) (s : Nat) : Int64 := SOV np W cn (rVT I 64) (vwB I L np W) (rVT I 69) (rVT I 67) cl (fun i => I 47 (14 * s + i)) (ix (I 48 s)) (evr W)
section REFO
variable {G : tkG} {n : Nat} {T : Nat → Nat × Nat} {I : Nat → Nat → Int32} {L : Nat → Nat → Int64} {P : Nat → Nat → Option Nat}
/-- soOf in the town's view -/
theorem r_soOfT (hR : tkRef T P) {np nf W r cn : Nat} {cl : Nat → Nat} (hT : TH I np nf W r cn cl) {s : Nat} (hs : s < 6) (hrt : rRt I (nI s) = true) : tkM G mX11_soOf 34 0 0 [vR 40, vI (nI s)] (n, T, rVT I, va_up L 66 (vwB I L np W), P) (tkF (some (vL (soT I L np W cn cl s))) (n, T, rVT I, va_up L 66 (vwB I L np W), P)) := by
  have hv := hT.vh
  obtain ⟨h1, h2, h3, h4, h5, h6, h7, h8, h9, h10, h11, h12, h13, h14, h15⟩ := hT
  obtain ⟨l, g1, g2, g3⟩ := h15 s hs
  have hix : ix (nI s) = s := ix_nI (by omega)
  have hil : ix (nI l) = l := ix_nI (by omega)
  have hr : rW (fun i => I 47 (14 * s + i)) (nI np) (nI nf) l 0 (nI 0) < 0 := by
    have := of_decide_eq_true hrt
    rwa [hix, g2, hil, h1, h4] at this
  obtain ⟨w1, w2, w3⟩ := right_WF h3 h6 g1 g3 hr
  have := r_soOf (G := G) (n := n) (L := va_up L 66 (vwB I L np W)) hR hv hs (show rVT I 48 s = nI l by rw [rVT_at (by omega)]; exact g2) w1 g1 (by rw [rVT_at (by omega)]; exact w2)
  unfold soT
  rw [g2, hil]
  simp only [va_up_self] at this
  rw [rVT_at (a := 47) (by omega)] at this
  exact this
def rAkC (I : Nat → Nat → Int32) (s : Int32) : Option Int32 := if rAsk I s = 0 then none else some (rAsk I s)
theorem rAsk_ok {I : Nat → Nat → Int32} {s : Int32} (h : rAsk I s = 0) : (∃ k, k ≤ 5 ∧ s = nI k) ∧ rRt I s = true := by
  unfold rAsk at h
  split at h
  · rename_i h1
    split at h
    · rename_i h2
      exact ⟨rIn_of h1 (by omega), h2⟩
    · exact absurd h (by decide)
  · exact absurd h (by decide)
def rPm (n : Nat) (T : Nat → Nat × Nat) (P : Nat → Nat → Option Nat) (L : Nat → Nat → Int64) (I : Nat → Nat → Int32) (c : Option Int32) (v : Int32) (J : Nat → Nat → Int32) : Option tkV → tkH → Prop := match c with
  | some f => rPt n T P L f (rFnd I) 
  | none => rPt n T P L v J
theorem rPm_f {n : Nat} {T : Nat → Nat × Nat} {P : Nat → Nat → Option Nat} {L L' : Nat → Nat → Int64} {c : Option Int32} {v f : Int32} {I I' J : Nat → Nat → Int32} (e : c = some f) (h1 : rSm I' I) (h2 : rLm L L') : rPm n T P L I c v J (some (vI f)) (n, T, rFnd I', L', P) := by subst e; exact rPt_i rfl (rSm_Fnd h1) h2
theorem rPm_g {n : Nat} {T : Nat → Nat × Nat} {P : Nat → Nat → Option Nat} {L L' : Nat → Nat → Int64} {c : Option Int32} {v v' : Int32} {I I' J : Nat → Nat → Int32} (e : c = none) (ev : v' = v) (h1 : rSm I' J) (h2 : rLm L L') : rPm n T P L I c v J (some (vI v')) (n, T, I', L', P) := by subst e; exact rPt_i ev h1 h2
theorem r_holds (hR : tkRef T P) {np nf W r cn : Nat} {cl : Nat → Nat} (hT : TH I np nf W r cn cl) (s : Int32) : tkM G mX11_holds 35 0 0 [vR 40, vI s] (n, T, I, L, P) (rPm n T P L I (rAkC I s) (tkb (tb (soT I L np W cn cl (ix s)) r)) I) := by
  have hT' := hT
  obtain ⟨t1, t2, t3, t4, t5, t6, t7, t8, t9, t10, t11, t12, t13, t14, t15⟩ := hT'
  refine tkM.of (ls := [some _, some _, none]) (by decide +kernel) (by decide +kernel) (Nat.le_of_ble_eq_true rfl) rfl ?_
  refine tk_aload0 dX11_holds_0 ?_
  refine tk_iload1 dX11_holds_1 ?_
  refine tk_callV1z dX11_holds_2 kX11_323 hR.o (r_asked hR hT.ls s) (Nat.le_of_ble_eq_true rfl) (by omega) ?_
  refine tk_istore2 dX11_holds_5 rfl ?_
  refine tk_iload2 dX11_holds_6 ?_
  first | refine tk_jf_eqB dX11_holds_7 (fun h7 => ?_) (fun h7 => ?_) | refine tk_if_eq dX11_holds_7 (fun h7 => ?_) (fun h7 => ?_)
  · refine tk_aload0 dX11_holds_16 ?_
    obtain ⟨⟨k, hk, rfl⟩, hrt⟩ := rAsk_ok h7
    have hix : ix (nI k) = k := ix_nI (by omega)
    rw [hix]
    refine tk_callV0y dX11_holds_17 kX11_275 hR.o (r_viewTown hR t1 t3 t7 t9) (Nat.le_of_ble_eq_true rfl) (by omega) ?_
    refine tk_aload0 dX11_holds_20 ?_
    refine tk_iload1 dX11_holds_21 ?_
    refine tk_callV1z dX11_holds_22 kX11_299 hR.o (r_soOfT hR hT (by omega) hrt) (Nat.le_of_ble_eq_true rfl) (by omega) ?_
    refine tk_aload0 dX11_holds_25 ?_
    refine tk_getI dX11_holds_26 fX11_220 rfl hR.o ?_
    rw [rVT_40]
    simp only [va_up_self, bx_uu, tk_une, tk_usrt, not_false_eq_true, Nat.reduceEqDiff, Nat.reduceLT, Nat.reduceAdd, Nat.reduceMul, Nat.reduceLeDiff, reduceCtorEq, t10]
    refine tk_lshr dX11_holds_29 ?_
    refine tk_lconst dX11_holds_30 (v := 1) (by decide) ?_
    refine tk_land dX11_holds_31 ?_
    rw [tb_sh1 _ (by omega)]
    refine tk_l2i dX11_holds_32 ?_
    refine tk_ireturn dX11_holds_33 rfl ?_
    exact rPm_g (if_pos (by assumption)) (by cases tb (soT I L np W cn cl k) r <;> decide +kernel) (rSm_VT I) (rLm.up (by omega))
  · refine tk_aload0 dX11_holds_10 ?_
    refine tk_iload2 dX11_holds_11 ?_
    refine tk_callV1z dX11_holds_12 kX11_179 hR.o (r_finding hR _) (Nat.le_of_ble_eq_true rfl) (by omega) ?_
    refine tk_ireturn dX11_holds_15 rfl ?_
    exact rPm_f (if_neg h7) rSm.rf rLm.rf
theorem r_many (hR : tkRef T P) {np nf W r cn : Nat} {cl : Nat → Nat} (hT : TH I np nf W r cn cl) (s : Int32) : tkM G mX11_many 35 0 0 [vR 40, vI s] (n, T, I, L, P) (rPm n T P L I (rAkC I s) (nI (cnt (soT I L np W cn cl (ix s)) W)) I) := by
  have hT' := hT
  obtain ⟨t1, t2, t3, t4, t5, t6, t7, t8, t9, t10, t11, t12, t13, t14, t15⟩ := hT'
  have hvw : rVT I 40 26 = nI W := hT.vh.2.2.1
  refine tkM.of (ls := [some _, some _, none, none, none, none, none]) (by decide +kernel) (by decide +kernel) (Nat.le_of_ble_eq_true rfl) rfl ?_
  refine tk_aload0 dX11_many_0 ?_
  refine tk_iload1 dX11_many_1 ?_
  refine tk_callV1z dX11_many_2 kX11_323 hR.o (r_asked hR hT.ls s) (Nat.le_of_ble_eq_true rfl) (by omega) ?_
  refine tk_istore2 dX11_many_5 rfl ?_
  refine tk_iload2 dX11_many_6 ?_
  first | refine tk_jf_eqB dX11_many_7 (fun h7 => ?_) (fun h7 => ?_) | refine tk_if_eq dX11_many_7 (fun h7 => ?_) (fun h7 => ?_)
  · refine tk_aload0 dX11_many_16 ?_
    obtain ⟨⟨k, hk, rfl⟩, hrt⟩ := rAsk_ok h7
    have hix : ix (nI k) = k := ix_nI (by omega)
    rw [hix, show rAkC I (nI k) = none from if_pos h7]
    refine tk_callV0y dX11_many_17 kX11_275 hR.o (r_viewTown hR t1 t3 t7 t9) (Nat.le_of_ble_eq_true rfl) (by omega) ?_
    refine tk_aload0 dX11_many_20 ?_
    refine tk_iload1 dX11_many_21 ?_
    refine tk_callV1z dX11_many_22 kX11_299 hR.o (r_soOfT hR hT (by omega) hrt) (Nat.le_of_ble_eq_true rfl) (by omega) ?_
    refine tk_lstore3 dX11_many_25 rfl ?_
    refine tk_iconst dX11_many_26 kc_iconst_0 ?_
    refine tk_istore5 dX11_many_27 rfl ?_
    refine tk_iconst dX11_many_29 kc_iconst_0 ?_
    refine tk_istore6 dX11_many_30 rfl ?_
    show tkX G mX11_many 35 0 0 32 _ _ _ (rPt n T P L (nI (cnt (soT I L np W cn cl k) W)) I)
    generalize soT I L np W cn cl k = x
    refine tk_fr 0 W (fun w => [some (vR 40), some (vI (nI k)), none, some (vL x), none, some (vI (nI (cnt x w))), some (vI (nI w))]) (fun w => (n, T, rVT I, va_up L 66 (vwB I L np W), P)) (by omega) (by repeat' (first | exact trivial | refine ⟨Or.inl rfl, ?_⟩ | refine ⟨Or.inr rfl, ?_⟩)) rfl ?_ ?_
    · refine tk_iload6 dX11_many_32 ?_
      refine tk_aload0 dX11_many_34 ?_
      refine tk_getI dX11_many_35 fX11_215 rfl hR.o ?_
      rw [hvw]
      first | refine tk_icmp_geN dX11_many_38 (by omega) (by omega) (fun h38 => ?_) (fun h38 => ?_) | refine tk_jcmp_ge dX11_many_38 (fun h38 => ?_) (fun h38 => ?_)
      · refine tk_iload5 dX11_many_59 ?_
        refine tk_ireturn dX11_many_61 rfl ?_
        exact rPt_i rfl (rSm_VT I) (rLm.up (by omega))
      · exfalso; omega
    · intro w _ hw kk
      refine tk_iload6 dX11_many_32 ?_
      refine tk_aload0 dX11_many_34 ?_
      refine tk_getI dX11_many_35 fX11_215 rfl hR.o ?_
      rw [hvw]
      first | refine tk_icmp_geN dX11_many_38 (by omega) (by omega) (fun h38 => ?_) (fun h38 => ?_) | refine tk_jcmp_ge dX11_many_38 (fun h38 => ?_) (fun h38 => ?_)
      · exfalso; omega
      · refine tk_iload5 dX11_many_41 ?_
        refine tk_lload3 dX11_many_43 ?_
        refine tk_iload6 dX11_many_44 ?_
        refine tk_lshr dX11_many_46 ?_
        refine tk_lconst dX11_many_47 (v := 1) (by decide) ?_
        refine tk_land dX11_many_48 ?_
        rw [tb_sh1 _ (by omega)]
        refine tk_l2i dX11_many_49 ?_
        first | refine tk_iaddN dX11_many_50 ?_ | refine tk_iadd dX11_many_50 ?_
        refine tk_istore5 dX11_many_51 rfl ?_
        first | refine tk_iinc6 dX11_many_53 (kc_inc _) rfl ?_ | refine tk_iinc6 dX11_many_53 rfl rfl ?_
        refine tk_goto dX11_many_56 ?_
        refine kk _ ?_
        rw [show nI (cnt x w) + (if tb x w = true then (1 : Int64) else 0).toInt32 = nI (cnt x (w + 1)) by rw [cnt]; cases tb x w <;> simp [← nI_add] <;> decide +kernel]
        exact (by repeat' (first | exact trivial | refine ⟨Or.inl rfl, ?_⟩ | refine ⟨Or.inr rfl, ?_⟩))
  · refine tk_aload0 dX11_many_10 ?_
    refine tk_iload2 dX11_many_11 ?_
    refine tk_callV1z dX11_many_12 kX11_179 hR.o (r_finding hR _) (Nat.le_of_ble_eq_true rfl) (by omega) ?_
    refine tk_ireturn dX11_many_15 rfl ?_
    exact rPm_f (if_neg h7) rSm.rf rLm.rf
/-- the least world below W that is not in a set, from w on, k looked at -/
def rFl (x : Int64) : Nat → Nat → Option Nat
  | 0, _ => none
  | k + 1, w => if tb x w then rFl x k (w + 1) else some w
def rFlC (I : Nat → Nat → Int32) (s : Int32) (f : Option Nat) : Option Int32 := if rAsk I s = 0 then (if f = none then some (-100006) else none) else some (rAsk I s)
theorem r_fails (hR : tkRef T P) {np nf W r cn : Nat} {cl : Nat → Nat} (hT : TH I np nf W r cn cl) (s : Int32) : tkM G mX11_fails 35 0 0 [vR 40, vI s] (n, T, I, L, P) (rPm n T P L I (rFlC I s (rFl (soT I L np W cn cl (ix s)) W 0)) (nI ((rFl (soT I L np W cn cl (ix s)) W 0).getD 0)) I) := by
  have hT' := hT
  obtain ⟨t1, t2, t3, t4, t5, t6, t7, t8, t9, t10, t11, t12, t13, t14, t15⟩ := hT'
  have hvw : rVT I 40 26 = nI W := hT.vh.2.2.1
  refine tkM.of (ls := [some _, some _, none, none, none, none]) (by decide +kernel) (by decide +kernel) (Nat.le_of_ble_eq_true rfl) rfl ?_
  refine tk_aload0 dX11_fails_0 ?_
  refine tk_iload1 dX11_fails_1 ?_
  refine tk_callV1z dX11_fails_2 kX11_323 hR.o (r_asked hR hT.ls s) (Nat.le_of_ble_eq_true rfl) (by omega) ?_
  refine tk_istore2 dX11_fails_5 rfl ?_
  refine tk_iload2 dX11_fails_6 ?_
  first | refine tk_jf_eqB dX11_fails_7 (fun h7 => ?_) (fun h7 => ?_) | refine tk_if_eq dX11_fails_7 (fun h7 => ?_) (fun h7 => ?_)
  · refine tk_aload0 dX11_fails_16 ?_
    obtain ⟨⟨k, hk, rfl⟩, hrt⟩ := rAsk_ok h7
    have hix : ix (nI k) = k := ix_nI (by omega)
    rw [hix]
    refine tk_callV0y dX11_fails_17 kX11_275 hR.o (r_viewTown hR t1 t3 t7 t9) (Nat.le_of_ble_eq_true rfl) (by omega) ?_
    refine tk_aload0 dX11_fails_20 ?_
    refine tk_iload1 dX11_fails_21 ?_
    refine tk_callV1z dX11_fails_22 kX11_299 hR.o (r_soOfT hR hT (by omega) hrt) (Nat.le_of_ble_eq_true rfl) (by omega) ?_
    refine tk_lstore3 dX11_fails_25 rfl ?_
    refine tk_iconst dX11_fails_26 kc_iconst_0 ?_
    refine tk_istore5 dX11_fails_27 rfl ?_
    rw [show rFlC I (nI k) (rFl (soT I L np W cn cl k) W 0) = (if rFl (soT I L np W cn cl k) W 0 = none then some (-100006) else none) from if_pos h7]
    generalize soT I L np W cn cl k = x
    have loop : ∀ (j w : Nat), w + j = W → rFl x W 0 = rFl x j w → tkX G mX11_fails 35 0 0 29 [some (vR 40), some (vI (nI k)), none, some (vL x), none, some (vI (nI w))] [] (n, T, rVT I, va_up L 66 (vwB I L np W), P) (rPm n T P L I (if rFl x W 0 = none then some (-100006) else none) (nI ((rFl x W 0).getD 0)) I) := by
      intro j
      induction j with
      | zero =>
        intro w e hf
        refine tk_iload5 dX11_fails_29 ?_
        refine tk_aload0 dX11_fails_31 ?_
        refine tk_getI dX11_fails_32 fX11_215 rfl hR.o ?_
        rw [hvw]
        first | refine tk_icmp_geN dX11_fails_35 (by omega) (by omega) (fun h35 => ?_) (fun h35 => ?_) | refine tk_jcmp_ge dX11_fails_35 (fun h35 => ?_) (fun h35 => ?_)
        · refine tk_aload0 dX11_fails_58 ?_
          refine tk_ldc dX11_fails_59 klX11_178 ?_
          refine tk_callV1z dX11_fails_61 kX11_179 hR.o (r_finding hR _) (Nat.le_of_ble_eq_true rfl) (by omega) ?_
          refine tk_ireturn dX11_fails_64 rfl ?_
          exact rPm_f (if_pos hf) (rSm_VT I) (rLm.up (by omega))
        · exfalso; omega
      | succ j ih =>
        intro w e hf
        refine tk_iload5 dX11_fails_29 ?_
        refine tk_aload0 dX11_fails_31 ?_
        refine tk_getI dX11_fails_32 fX11_215 rfl hR.o ?_
        rw [hvw]
        first | refine tk_icmp_geN dX11_fails_35 (by omega) (by omega) (fun h35 => ?_) (fun h35 => ?_) | refine tk_jcmp_ge dX11_fails_35 (fun h35 => ?_) (fun h35 => ?_)
        · exfalso; omega
        · refine tk_lload3 dX11_fails_38 ?_
          refine tk_iload5 dX11_fails_39 ?_
          refine tk_lshr dX11_fails_41 ?_
          refine tk_lconst dX11_fails_42 (v := 1) (by decide) ?_
          refine tk_land dX11_fails_43 ?_
          refine tk_lconst dX11_fails_44 (v := 0) (by decide) ?_
          refine tk_lcmp dX11_fails_45 ?_
          first | refine tk_jf_neB dX11_fails_46 (fun h46 => ?_) (fun h46 => ?_) | refine tk_if_ne dX11_fails_46 (fun h46 => ?_) (fun h46 => ?_)
          · first | refine tk_iinc5 dX11_fails_52 (kc_inc _) rfl ?_ | refine tk_iinc5 dX11_fails_52 rfl rfl ?_
            refine tk_goto dX11_fails_55 ?_
            refine tk_wk ?_ (ih (w + 1) (by omega) (hf.trans (if_pos ?_)))
            · exact (by repeat' (first | exact trivial | refine ⟨Or.inl rfl, ?_⟩ | refine ⟨Or.inr rfl, ?_⟩))
            · cases e9 : tb x w with
              | true => rfl
              | false => exact absurd ((tb_t0 x (by omega)).mpr e9) h46
          · refine tk_iload5 dX11_fails_49 ?_
            refine tk_ireturn dX11_fails_51 rfl ?_
            have hw : rFl x W 0 = some w := hf.trans (if_neg (by rw [(tb_t0 x (by omega)).mp h46]; decide))
            exact rPm_g (if_neg (by rw [hw]; exact fun q => by cases q)) (by rw [hw]; rfl) (rSm_VT I) (rLm.up (by omega))
    exact tk_wk (by repeat' (first | exact trivial | refine ⟨Or.inl rfl, ?_⟩ | refine ⟨Or.inr rfl, ?_⟩)) (loop W 0 (by omega) rfl)
  · refine tk_aload0 dX11_fails_10 ?_
    refine tk_iload2 dX11_fails_11 ?_
    refine tk_callV1z dX11_fails_12 kX11_179 hR.o (r_finding hR _) (Nat.le_of_ble_eq_true rfl) (by omega) ?_
    refine tk_ireturn dX11_fails_15 rfl ?_
    exact rPm_f (if_neg h7) rSm.rf rLm.rf
def rLkC (I : Nat → Nat → Int32) (s t : Int32) : Option Int32 := if rIn s (nI 0) (nI 5) && rIn t (nI 0) (nI 5) then (if rRt I s && rRt I t then none else some (-100004)) else some (-100001)
theorem r_like (hR : tkRef T P) {np nf W r cn : Nat} {cl : Nat → Nat} (hT : TH I np nf W r cn cl) (s t : Int32) : tkM G mX11_like 35 0 0 [vR 40, vI s, vI t] (n, T, I, L, P) (rPm n T P L I (rLkC I s t) (tkb (decide (soT I L np W cn cl (ix s) = soT I L np W cn cl (ix t)))) I) := by
  have hT' := hT
  obtain ⟨t1, t2, t3, t4, t5, t6, t7, t8, t9, t10, t11, t12, t13, t14, t15⟩ := hT'
  refine tkM.of (ls := [some _, some _, some _]) (by decide +kernel) (by decide +kernel) (Nat.le_of_ble_eq_true rfl) rfl ?_
  refine tk_iload1 dX11_like_0 ?_
  refine tk_callS1z dX11_like_1 kX11_194 (r_isSentence _) (Nat.le_of_ble_eq_true rfl) (by omega) ?_
  first | refine tk_jf_eqB dX11_like_4 (fun h4 => ?_) (fun h4 => ?_) | refine tk_if_eq dX11_like_4 (fun h4 => ?_) (fun h4 => ?_)
  · refine tk_aload0 dX11_like_14 ?_
    refine tk_ldc dX11_like_15 klX11_183 ?_
    refine tk_callV1z dX11_like_17 kX11_179 hR.o (r_finding hR _) (Nat.le_of_ble_eq_true rfl) (by omega) ?_
    refine tk_ireturn dX11_like_20 rfl ?_
    exact rPm_f (by unfold rLkC; first | (rw [h4]; rfl) | (rw [h11, Bool.and_false]; rfl)) rSm.rf rLm.rf
  · refine tk_iload2 dX11_like_7 ?_
    refine tk_callS1z dX11_like_8 kX11_194 (r_isSentence _) (Nat.le_of_ble_eq_true rfl) (by omega) ?_
    first | refine tk_jf_neB dX11_like_11 (fun h11 => ?_) (fun h11 => ?_) | refine tk_if_ne dX11_like_11 (fun h11 => ?_) (fun h11 => ?_)
    · refine tk_aload0 dX11_like_21 ?_
      obtain ⟨s', hs1, rfl⟩ := rIn_of h4 (by omega)
      obtain ⟨t', ht1, rfl⟩ := rIn_of h11 (by omega)
      have hixs : ix (nI s') = s' := ix_nI (by omega)
      have hixt : ix (nI t') = t' := ix_nI (by omega)
      obtain ⟨l, hl1, hl2⟩ := hT.ls s' (by omega)
      obtain ⟨l', hl3, hl4⟩ := hT.ls t' (by omega)
      have es : rRt I (nI s') = decide (rW (fun i => I 47 (14 * s' + i)) (I 41 0) (I 41 1) l 0 (nI 0) < 0) := by unfold rRt; rw [hixs, hl2, ix_nI (by omega)]
      have et : rRt I (nI t') = decide (rW (fun i => I 47 (14 * t' + i)) (I 41 0) (I 41 1) l' 0 (nI 0) < 0) := by unfold rRt; rw [hixt, hl4, ix_nI (by omega)]
      refine tk_iload1 dX11_like_22 ?_
      refine tk_callV1z dX11_like_23 kX11_291 hR.o (r_isRight hR (by omega) hl2 hl1) (Nat.le_of_ble_eq_true rfl) (by omega) ?_
      first | refine tk_jf_eqB dX11_like_26 (fun h26 => ?_) (fun h26 => ?_) | refine tk_if_eq dX11_like_26 (fun h26 => ?_) (fun h26 => ?_)
      · refine tk_aload0 dX11_like_37 ?_
        refine tk_ldc dX11_like_38 klX11_208 ?_
        refine tk_callV1z dX11_like_40 kX11_179 hR.o (r_finding hR _) (Nat.le_of_ble_eq_true rfl) (by omega) ?_
        refine tk_ireturn dX11_like_43 rfl ?_
        exact rPm_f (by unfold rLkC; rw [h4, h11, if_pos (show (true && true) = true from rfl), es, et]; first | (rw [h26]; rfl) | (rw [h34, Bool.and_false]; rfl)) rSm.rf rLm.rf
      · refine tk_aload0 dX11_like_29 ?_
        refine tk_iload2 dX11_like_30 ?_
        refine tk_callV1z dX11_like_31 kX11_291 hR.o (r_isRight hR (by omega) hl4 hl3) (Nat.le_of_ble_eq_true rfl) (by omega) ?_
        first | refine tk_jf_neB dX11_like_34 (fun h34 => ?_) (fun h34 => ?_) | refine tk_if_ne dX11_like_34 (fun h34 => ?_) (fun h34 => ?_)
        · refine tk_aload0 dX11_like_44 ?_
          refine tk_callV0y dX11_like_45 kX11_275 hR.o (r_viewTown hR t1 t3 t7 t9) (Nat.le_of_ble_eq_true rfl) (by omega) ?_
          refine tk_aload0 dX11_like_48 ?_
          refine tk_iload1 dX11_like_49 ?_
          refine tk_callV1z dX11_like_50 kX11_299 hR.o (r_soOfT hR hT (by omega) (es.trans h26)) (Nat.le_of_ble_eq_true rfl) (by omega) ?_
          refine tk_aload0 dX11_like_53 ?_
          refine tk_iload2 dX11_like_54 ?_
          refine tk_callV1z dX11_like_55 kX11_299 hR.o (r_soOfT hR hT (by omega) (et.trans h34)) (Nat.le_of_ble_eq_true rfl) (by omega) ?_
          refine tk_lcmp dX11_like_58 ?_
          first | refine tk_jf_neB dX11_like_59 (fun h59 => ?_) (fun h59 => ?_) | refine tk_if_ne dX11_like_59 (fun h59 => ?_) (fun h59 => ?_)
          · refine tk_iconst dX11_like_66 kc_iconst_0 ?_
            refine tk_ireturn dX11_like_67 rfl ?_
            refine rPm_g (by unfold rLkC; rw [h4, h11, if_pos (show (true && true) = true from rfl), es, et, h26, h34]; rfl) ?_ (rSm_VT I) (rLm.up (by omega))
            rw [hixs, hixt]
            first | rw [decide_eq_true ((lgc0 _ _).mp h59)]; rfl | rw [decide_eq_false (fun e => h59 ((lgc0 _ _).mpr e))]; rfl
          · refine tk_iconst dX11_like_62 kc_iconst_1 ?_
            refine tk_goto dX11_like_63 ?_
            refine tk_ireturn dX11_like_67 rfl ?_
            refine rPm_g (by unfold rLkC; rw [h4, h11, if_pos (show (true && true) = true from rfl), es, et, h26, h34]; rfl) ?_ (rSm_VT I) (rLm.up (by omega))
            rw [hixs, hixt]
            first | rw [decide_eq_true ((lgc0 _ _).mp h59)]; rfl | rw [decide_eq_false (fun e => h59 ((lgc0 _ _).mpr e))]; rfl
        · refine tk_aload0 dX11_like_37 ?_
          refine tk_ldc dX11_like_38 klX11_208 ?_
          refine tk_callV1z dX11_like_40 kX11_179 hR.o (r_finding hR _) (Nat.le_of_ble_eq_true rfl) (by omega) ?_
          refine tk_ireturn dX11_like_43 rfl ?_
          exact rPm_f (by unfold rLkC; rw [h4, h11, if_pos (show (true && true) = true from rfl), es, et]; first | (rw [h26]; rfl) | (rw [h34, Bool.and_false]; rfl)) rSm.rf rLm.rf
    · refine tk_aload0 dX11_like_14 ?_
      refine tk_ldc dX11_like_15 klX11_183 ?_
      refine tk_callV1z dX11_like_17 kX11_179 hR.o (r_finding hR _) (Nat.le_of_ble_eq_true rfl) (by omega) ?_
      refine tk_ireturn dX11_like_20 rfl ?_
      exact rPm_f (by unfold rLkC; first | (rw [h4]; rfl) | (rw [h11, Bool.and_false]; rfl)) rSm.rf rLm.rf
end REFO
