/-! ===== the class: what is so, as the reference has it ===== -/
def soJ (J : Nat → Nat → Int32) (np W cn : Nat) (cl : Nat → Nat) (s : Nat) : Int64 := SOP np W cn (J 42) (J 43) (J 45) (J 49) cl (fun i => J 47 (14 * s + i)) (ix (J 48 s)) (evr W)
/-- a set that tells what is so is the reference's -/
theorem so_SOP {np nf W cn l : Nat} {F ce gr cs row : Nat → Int32} {cl : Nat → Nat} {x : Int64} (hW : W ≤ 64) (hnf : nf ≤ 4) (hc : ∀ c, c < cn → WF np nf false (fun i => cs (14 * c + i)) 14 (cl c - 1)) (hw : WF np nf true row 14 (l - 1)) (hx : ∀ u, tb x u = true ↔ sSO np cn (faF F) (cTi ce F W nf (fun _ => nI 0)) (memG gr) cs cl row l (fun u => u < W) u) : x = SOP np W cn F ce gr cs cl row l (evr W) := by
  apply tb_extT
  intro u
  unfold SOP
  rw [hx u, SOV_T hW hc hw (evr W) (fun u hu => (tb_evrT hW).mp hu) u, evr_S hW, cTi_z hnf]
theorem soJ_lt {J : Nat → Nat → Int32} {np nf W r cn : Nat} {cl : Nat → Nat} {s : Nat} (hT : TH J np nf W r cn cl) (hs : s < 6) (hrt : rRt J (nI s) = true) : ∀ u, tb (soJ J np W cn cl s) u = true → u < W := by
  intro u hu
  obtain ⟨l, l1, l2, l3, l4, -⟩ := hT.right hs hrt
  unfold soJ SOP at hu
  rw [l1, ix_nI (by omega)] at hu
  have hW := hT.2.2.2.2.2.2.2.2.1
  rw [SOV_T hW (fun c hc => (hT.2.2.2.2.2.2.2.2.2.2.2.2.2.1 c hc).2.2.2) l4 (evr W) (fun u hu => (tb_evrT hW).mp hu) u] at hu
  exact (tb_evrT hW).mp (sSO_sub hu)
section SOAT
variable {G : tkG} {n : Nat} {T : Nat → Nat × Nat} {I J : Nat → Nat → Int32} {L : Nat → Nat → Int64} {P : Nat → Nat → Option Nat} {tw np nf W r cn : Nat} {cl : Nat → Nat} {pn : Nat} {pl pg : Nat → Nat} {mn : Nat} {mW mr mc : Nat → Nat} {ml : Nat → Nat → Nat}
theorem look_st {L' : Nat → Nat → Int64} {wa ca ga : Nat} (hsc : cScr T I P) (hl : lSm 25 L L') : cSt n T I L P n T (lkIi I 25) L' (lkPp P 25 wa ca ga) := by
  refine ⟨Nat.le_refl _, fun a h1 h2 => ⟨rfl, va_up_ne _ _ (by omega), hl a (by omega) (by omega), va_up_ne _ _ (by omega)⟩, ?_⟩
  obtain ⟨s1, s2, s3, s4, s5, s6, s7⟩ := hsc
  refine ⟨s1, s2, s3, s4, s5, fun q hq => ?_, s7⟩
  rw [show lkIi I 25 26 = tkcp (I 26) (fun _ => nI 0) 4 from va_up_self I (25 + 1) _]
  exact (tkcp_ge hq).trans (s6 q hq)
theorem look_ta (hsc : cScr T I P) : lkIi I 25 26 = fun _ => nI 0 := (va_up_self I (25 + 1) (tkcp (I (25 + 1)) (fun _ => nI 0) 4)).trans (tau0_z hsc.2.2.2.2.2.1)
/-- what sight stands on after a look at now -/
theorem now_sVw (hN : cNow n T I L P J tw np nf W r cn cl pn pl pg mn mW mr mc ml) {pic wa ca ga : Nat} (hpc : cPic n T I L P pic np nf W r cn (J 42) (J 43) (J 45) (J 49) cl) (hp : pObj T P pic wa ca ga) : ¬ pic = 25 ∧ sVw n T (lkIi I 25) L (lkPp P 25 wa ca ga) 25 wa ca ga np nf W r cn (J 42) (J 43) (J 45) (J 49) cl := by
  obtain ⟨hR, hk, ⟨hTH, hPH, hMH, hGW, hob⟩, -⟩ := hN
  obtain ⟨h41, np1, np4, h411, nf1, nf4, h412, W1, W64, h413, rW, h414, cn5, hcW, hsW⟩ := hTH
  obtain ⟨w, c, g, q1, q2, q3, q4⟩ := sVw_look (z := 25) (by omega) hR.2.1.1 hpc W1 W64 np4 nf4 cn5 (fun i hi => ⟨(hcW i hi).2.1, (hcW i hi).2.2.2⟩)
  obtain rfl := Option.some.inj (q1.2.1.symm.trans hp.2.1)
  obtain rfl := Option.some.inj (q1.2.2.1.symm.trans hp.2.2.1)
  obtain rfl := Option.some.inj (q1.2.2.2.symm.trans hp.2.2.2)
  exact ⟨q2, q4⟩
def saQ (n : Nat) (T : Nat → Nat × Nat) (I : Nat → Nat → Int32) (L : Nat → Nat → Int64) (P : Nat → Nat → Option Nat) (wa ca ga : Nat) (x : Int64) : Option tkV → tkH → Prop := fun rv h => ∃ L', rv = some (vL x) ∧ h = (n, T, lkIi I 25, L', lkPp P 25 wa ca ga) ∧ lSm 25 L L'
theorem k_soAt (hN : cNow n T I L P J tw np nf W r cn cl pn pl pg mn mW mr mc ml) {pic sta oa se pa ma wa ca ga ra l s : Nat} (ht : tObj T P tw pic sta oa se pa ma) (hpc : cPic n T I L P pic np nf W r cn (J 42) (J 43) (J 45) (J 49) cl) (hp : pObj T P pic wa ca ga) (hs : s < 6) (hrt : rRt J (nI s) = true) (hl : J 48 s = nI l) (hl14 : l ≤ 14) (hrow : cRow n T I P ra l (fun i => J 47 (14 * s + i))) : tkM G mX10_soAt 95 0 0 [vR 0, vR ra] (n, T, I, L, P) (soQ n T (lkIi I 25) L (lkPp P 25 wa ca ga) 25 (sSO np cn (faF (J 42)) (cTi (J 43) (J 42) W nf (lkIi I 25 26)) (memG (J 45)) (J 49) cl (fun i => J 47 (14 * s + i)) l (fun u => u < W))) := by
  obtain ⟨v1, v2⟩ := now_sVw hN hpc hp
  obtain ⟨hR, hk, ⟨hTH, hPH, hMH, hGW, hob⟩, ftw, -⟩ := hN
  have hsc := hR.2.1
  obtain ⟨l2, l21, l22, l23, l24, -⟩ := hTH.right hs hrt
  obtain rfl : l = l2 := (nI_eq (by omega) (by omega)).mp (hl.symm.trans l21)
  have e := (look_st (n := n) (L := L) (L' := L) (wa := wa) (ca := ca) (ga := ga) hsc (fun _ _ _ => rfl)).ex
  exact c_soAt (G := G) hk ht (by have := ftw.1; omega) hsc.1 hp v1 v2 (hrow.ex e) l22 l24
theorem soq_sa (hN : cNow n T I L P J tw np nf W r cn cl pn pl pg mn mW mr mc ml) {wa ca ga l s : Nat} (hs : s < 6) (hrt : rRt J (nI s) = true) (hl : J 48 s = nI l) (hl14 : l ≤ 14) {rv : Option tkV} {h : tkH} (hq : soQ n T (lkIi I 25) L (lkPp P 25 wa ca ga) 25 (sSO np cn (faF (J 42)) (cTi (J 43) (J 42) W nf (lkIi I 25 26)) (memG (J 45)) (J 49) cl (fun i => J 47 (14 * s + i)) l (fun u => u < W)) rv h) : saQ n T I L P wa ca ga (soJ J np W cn cl s) rv h := by
  obtain ⟨hR, hk, ⟨hTH, hPH, hMH, hGW, hob⟩, ftw, -⟩ := hN
  have hsc := hR.2.1
  obtain ⟨l2, l21, l22, l23, l24, -⟩ := hTH.right hs hrt
  obtain rfl : l = l2 := (nI_eq (by omega) (by omega)).mp (hl.symm.trans l21)
  obtain ⟨x, L', rfl, rfl, m1, m2⟩ := hq
  refine ⟨L', ?_, rfl, m1⟩
  rw [look_ta hsc] at m2
  have := so_SOP hTH.2.2.2.2.2.2.2.2.1 hTH.2.2.2.2.2.1 (fun c hc => (hTH.2.2.2.2.2.2.2.2.2.2.2.2.2.1 c hc).2.2.2) l24 m2
  rw [this]
  unfold soJ
  rw [hl, ix_nI (by omega)]
end SOAT
