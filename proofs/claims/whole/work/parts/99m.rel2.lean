/-! ===== the class stands for the reference: what is kept ===== -/
theorem k_cases {a : Nat} (h1 : 41 ≤ a) (h2 : a ≤ 59) : a = 41 ∨ a = 42 ∨ a = 43 ∨ a = 44 ∨ a = 45 ∨ a = 46 ∨ a = 47 ∨ a = 48 ∨ a = 49 ∨ a = 50 ∨ a = 51 ∨ a = 52 ∨ a = 53 ∨ a = 54 ∨ a = 55 ∨ a = 56 ∨ a = 57 ∨ a = 58 ∨ a = 59 := by omega
theorem tkco_lo {α : Type} {f g : Nat → α} {b i j : Nat} (h : j < b) : tkco f g b i j = f j := if_neg (by omega)
theorem tkco_hi {α : Type} {f g : Nat → α} {b i j : Nat} (h : b + i ≤ j) : tkco f g b i j = f j := if_neg (by omega)
theorem tkco_in {α : Type} {f g : Nat → α} {b i j k : Nat} (h : j = b + k) (hk : k < i) : tkco f g b i j = g k := by
  subst h
  unfold tkco
  rw [if_pos (by omega), Nat.add_sub_cancel_left]
theorem tkcp_ge {α : Type} {f g : Nat → α} {i j : Nat} (h : i ≤ j) : tkcp f g i j = f j := if_neg (by omega)
theorem snap_out {A : Nat → Nat → Int32} {f : Nat → Int32} {b x : Nat} (h : x < b ∨ b + 2973 ≤ x) : rSnap A f b x = f x := by
  unfold rSnap
  rcases h with h | h
  · repeat rw [tkco_lo (by omega)]
  · repeat rw [tkco_hi (by omega)]
theorem snap_in {A : Nat → Nat → Int32} {f : Nat → Int32} {b : Nat} : kSm (kTw (rSnap A f b) b) A := by
  intro a h1 h2 j hj
  unfold kTw rSnap
  rcases k_cases h1 h2 with rfl | rfl | rfl | rfl | rfl | rfl | rfl | rfl | rfl | rfl | rfl | rfl | rfl | rfl | rfl | rfl | rfl | rfl | rfl <;> simp only [kOf, kSz] at hj ⊢ <;> (repeat rw [tkco_lo (by omega)]) <;> exact tkco_in (by omega) hj
theorem back_in {I : Nat → Nat → Int32} {b : Nat} : kSm (kTw (I 60) b) (rBack I b) := by
  intro a h1 h2 j hj
  unfold kTw rBack
  rcases k_cases h1 h2 with rfl | rfl | rfl | rfl | rfl | rfl | rfl | rfl | rfl | rfl | rfl | rfl | rfl | rfl | rfl | rfl | rfl | rfl | rfl <;> simp only [kOf, kSz, va_up_self, bx_uu, tk_une, tk_usrt, not_false_eq_true, Nat.reduceEqDiff, Nat.reduceLT, Nat.reduceAdd, Nat.reduceMul, Nat.reduceLeDiff, reduceCtorEq] at hj ⊢ <;> first | (rw [tkcp_lt hj]; done) | (rw [tkcp_lt hj]; rfl) | (rw [tkcp_lt hj]; congr 1; omega)
theorem kSm.sy {A A' : Nat → Nat → Int32} (h : kSm A A') : kSm A' A := fun a h1 h2 j hj => (h a h1 h2 j hj).symm
theorem TH.kc {A A' : Nat → Nat → Int32} {np nf W r cn : Nat} {cl : Nat → Nat} (h : TH A np nf W r cn cl) (e : kSm A A') : TH A' np nf W r cn cl := by
  obtain ⟨h1, h2, h3, h4, h5, h6, h7, h8, h9, h10, h11, h12, h13, h14, h15⟩ := h
  have e1 : ∀ j, j < 7 → A 41 j = A' 41 j := e 41 (by omega) (by omega)
  refine ⟨by rw [← e1 0 (by omega)]; exact h1, h2, h3, by rw [← e1 1 (by omega)]; exact h4, h5, h6, by rw [← e1 2 (by omega)]; exact h7, h8, h9, by rw [← e1 3 (by omega)]; exact h10, h11, by rw [← e1 4 (by omega)]; exact h12, h13, fun c hc => ?_, fun s hs => ?_⟩
  · obtain ⟨q1, q2, q3, q4⟩ := h14 c hc
    have e2 : A 50 c = A' 50 c := e 50 (by omega) (by omega) c (by show c < 5; omega)
    refine ⟨by rw [← e2]; exact q1, q2, q3, WF_congr 14 (cl c - 1) (fun i hi => ?_) q4⟩
    exact e 49 (by omega) (by omega) _ (by show _ < 70; omega)
  · obtain ⟨l, q1, q2, q3⟩ := h15 s hs
    have e2 : A 48 s = A' 48 s := e 48 (by omega) (by omega) s (by show s < 6; omega)
    refine ⟨l, q1, by rw [← e2]; exact q2, fun i hi => ?_⟩
    have e3 : A 47 (14 * s + i) = A' 47 (14 * s + i) := e 47 (by omega) (by omega) _ (by show _ < 84; omega)
    rw [← e3]
    exact q3 i hi
theorem PH.kc {A A' : Nat → Nat → Int32} {np nf pn : Nat} {pl pg : Nat → Nat} (h : PH A np nf pn pl pg) (e : kSm A A') : PH A' np nf pn pl pg := by
  obtain ⟨h1, h2, h3⟩ := h
  have e1 : A 41 5 = A' 41 5 := e 41 (by omega) (by omega) 5 (by show 5 < 7; omega)
  refine ⟨by rw [← e1]; exact h1, h2, fun k hk => ?_⟩
  obtain ⟨q1, q2, q3, q4, q5, q6⟩ := h3 k hk
  have e2 : A 52 k = A' 52 k := e 52 (by omega) (by omega) k (by show k < 4; omega)
  have e3 : A 53 k = A' 53 k := e 53 (by omega) (by omega) k (by show k < 4; omega)
  exact ⟨by rw [← e2]; exact q1, q2, q3, WF_congr 14 (pl k - 1) (fun i hi => e 51 (by omega) (by omega) _ (by show _ < 56; omega)) q4, by rw [← e3]; exact q5, q6⟩
theorem MH.kc {A A' : Nat → Nat → Int32} {np nf mn : Nat} {mW mr mc : Nat → Nat} {ml : Nat → Nat → Nat} (h : MH A np nf mn mW mr mc ml) (e : kSm A A') : MH A' np nf mn mW mr mc ml := by
  obtain ⟨h1, h2, h3⟩ := h
  have e1 : A 41 6 = A' 41 6 := e 41 (by omega) (by omega) 6 (by show 6 < 7; omega)
  refine ⟨by rw [← e1]; exact h1, h2, fun k hk => ?_⟩
  obtain ⟨q1, q2, q3, q4, q5, q6, q7, q8⟩ := h3 k hk
  have e2 : ∀ j, j < 18 → A 54 j = A' 54 j := e 54 (by omega) (by omega)
  refine ⟨by rw [← e2 _ (by omega)]; exact q1, q2, q3, by rw [← e2 _ (by omega)]; exact q4, q5, by rw [← e2 _ (by omega)]; exact q6, q7, fun c hc => ?_⟩
  obtain ⟨s1, s2, s3, s4⟩ := q8 c hc
  have e3 : A 58 (5 * k + c) = A' 58 (5 * k + c) := e 58 (by omega) (by omega) _ (by show _ < 30; omega)
  exact ⟨by rw [← e3]; exact s1, s2, s3, WF_congr 14 (ml k c - 1) (fun i hi => e 57 (by omega) (by omega) _ (by show _ < 420; omega)) s4⟩
theorem cLs_congr {ce ce' : Nat → Int32} {W p w : Nat} (hw : w < W) (hW : W ≤ 64) (h : ∀ w, w < W → ce (64 * p + w) = ce' (64 * p + w)) : cLs ce W p w = cLs ce' W p w := by
  unfold cLs
  rw [pB_congr hw hW h]
theorem GW.kc {np nf W r : Nat} {F F' ce ce' : Nat → Int32} (h : GW np nf W r F ce) (hnp : np ≤ 4) (h1 : ∀ w, w < 64 → F w = F' w) (h2 : ∀ w, w < 256 → ce w = ce' w) : GW np nf W r F' ce' := by
  obtain ⟨g1, g2, g3, g4⟩ := h
  refine ⟨g1, g2, fun w hw => by rw [← h1 w (by omega)]; exact g3 w hw, fun p hp w hw => ?_⟩
  have := g4 p hp w hw
  rw [← h2 _ (by omega), this, cLs_congr hw g1 (fun w hw => h2 _ (by omega))]
theorem cTi'.kc {A A' : Nat → Nat → Int32} {np nf W r cn : Nat} {cl : Nat → Nat} {pn : Nat} {pl pg : Nat → Nat} {mn : Nat} {mW mr mc : Nat → Nat} {ml : Nat → Nat → Nat} (h : cTi' A np nf W r cn cl pn pl pg mn mW mr mc ml) (e : kSm A A') : cTi' A' np nf W r cn cl pn pl pg mn mW mr mc ml := by
  obtain ⟨h1, h2, h3, h4, h5⟩ := h
  have hnp := h1.2.2.1
  refine ⟨h1.kc e, h2.kc e, h3.kc e, h4.kc hnp (e 42 (by omega) (by omega)) (e 43 (by omega) (by omega)), fun i hi => ?_⟩
  rw [← e 46 (by omega) (by omega) i (by show i < 4; omega)]
  exact h5 i hi
section REL2
variable {n n' : Nat} {T T' : Nat → Nat × Nat} {I I' : Nat → Nat → Int32} {L L' : Nat → Nat → Int64} {P P' : Nat → Nat → Option Nat}
theorem cPic.kc {a np nf W r cn : Nat} {F ce gr cs F' ce' gr' cs' : Nat → Int32} {cl : Nat → Nat} (h : cPic n T I L P a np nf W r cn F ce gr cs cl) (hW : W ≤ 64) (hnp : np ≤ 4) (hcn : cn ≤ 5) (h1 : ∀ w, w < 64 → F w = F' w) (h2 : ∀ w, w < 256 → ce w = ce' w) (h3 : ∀ i, i < 3 → gr i = gr' i) (h4 : ∀ i, i < 70 → cs i = cs' i) : cPic n T I L P a np nf W r cn F' ce' gr' cs' cl := by
  obtain ⟨q1, q2, w, c, g, q3, q4, q5, q6, q7, q8, q9, q10, q11, q12⟩ := h
  refine ⟨q1, q2, w, c, g, q3, q4, q5, q6.congr hW (fun w hw => h1 w (by omega)) (fun p hp w hw => h2 _ (by omega)), q7, q8, fun i hi => ?_, q10, q11, fun i hi => by rw [← h3 i hi]; exact q12 i hi⟩
  obtain ⟨ra, r1, r2⟩ := q9 i hi
  refine ⟨ra, r1, r2.congr (fun j hj => h4 _ ?_)⟩
  obtain ⟨-, -, b, -, -, -, -, r3, -⟩ := r2
  omega
theorem cTc.kc {tw : Nat} {A A' : Nat → Nat → Int32} {np nf W r cn : Nat} {cl : Nat → Nat} {pn : Nat} {pl pg : Nat → Nat} {mn : Nat} {mW mr mc : Nat → Nat} {ml : Nat → Nat → Nat} (h : cTc n T I L P tw A np nf W r cn cl pn pl pg mn mW mr mc ml) (hi : cTi' A np nf W r cn cl pn pl pg mn mW mr mc ml) (e : kSm A A') : cTc n T I L P tw A' np nf W r cn cl pn pl pg mn mW mr mc ml := by
  obtain ⟨h1, pic, st, oa, se, pa, ma, h2, h3, h4, h5, h6, h7, h8⟩ := h
  obtain ⟨i1, i2, i3, i4, i5⟩ := hi
  have hnp := i1.2.2.1
  have hcn := i1.2.2.2.2.2.2.2.2.2.2.2.2.1
  refine ⟨h1, pic, st, oa, se, pa, ma, h2, h3.kc i4.1 hnp hcn (e 42 (by omega) (by omega)) (e 43 (by omega) (by omega)) (e 45 (by omega) (by omega)) (e 49 (by omega) (by omega)), ?_, ?_, ?_, ?_, ?_⟩
  · exact ⟨h4.1, h4.2.1, fun i hi => (h4.2.2 i hi).trans (e 44 (by omega) (by omega) i hi)⟩
  · exact ⟨h5.1, h5.2.1, fun i hi => (h5.2.2 i hi).trans (e 46 (by omega) (by omega) i hi)⟩
  · refine ⟨h6.1, h6.2.1, fun s hs => ?_⟩
    obtain ⟨ra, l, q1, q2, q3⟩ := h6.2.2 s hs
    refine ⟨ra, l, q1, (e 48 (by omega) (by omega) s hs).symm.trans q2, q3.congr (fun j hj => e 47 (by omega) (by omega) _ ?_)⟩
    obtain ⟨-, -, b, -, -, -, -, r3, -⟩ := q3
    show _ < 84
    omega
  · refine ⟨h7.1, h7.2.1, fun s hs => ?_⟩
    obtain ⟨po, ra, q1, q2, q3, q4, q5, q6⟩ := h7.2.2 s hs
    refine ⟨po, ra, q1, q2, q3, q4, q5, q6.congr (fun j hj => e 51 (by omega) (by omega) _ ?_)⟩
    have := i2.2.1
    obtain ⟨-, -, b, -, -, -, -, r3, -⟩ := q6
    show _ < 56
    omega
  · refine ⟨h8.1, h8.2.1, fun m hm => ?_⟩
    have h6' := i3.2.1
    obtain ⟨po, q1, q2, q3⟩ := h8.2.2 m hm
    have hmc := (i3.2.2 m hm).2.2.2.2.2.2.1
    refine ⟨po, q1, q2.kc q3.1 hnp hmc (fun w hw => e 55 (by omega) (by omega) _ ?_) (fun w hw => e 56 (by omega) (by omega) _ ?_) (fun w hw => e 59 (by omega) (by omega) _ ?_) (fun w hw => e 57 (by omega) (by omega) _ ?_), q3.kc hnp (fun w hw => e 55 (by omega) (by omega) _ ?_) (fun w hw => e 56 (by omega) (by omega) _ ?_)⟩
    · show _ < 384; omega
    · show _ < 1536; omega
    · show _ < 18; omega
    · show _ < 420; omega
    · show _ < 384; omega
    · show _ < 1536; omega
theorem cTown.kc {tw : Nat} {A A' : Nat → Nat → Int32} (h : cTown n T I L P tw A) (e : kSm A A') : cTown n T I L P tw A' := by
  obtain ⟨np, nf, W, r, cn, cl, pn, pl, pg, mn, mW, mr, mc, ml, h1, h2⟩ := h
  exact ⟨np, nf, W, r, cn, cl, pn, pl, pg, mn, mW, mr, mc, ml, h1.kc e, h2.kc h1 e⟩
end REL2
