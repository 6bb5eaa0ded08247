/-! ===== the class: holds, many, fails, like ===== -/
theorem ask_0 {J : Nat → Nat → Int32} {s : Int32} (h : rAsk J s = 0) : ∃ s', s' < 6 ∧ s = nI s' ∧ ix s = s' ∧ rRt J (nI s') = true := by
  unfold rAsk at h
  split at h
  · rename_i h1
    obtain ⟨s', hs', rfl⟩ := rIn_of h1 (by omega)
    split at h
    · rename_i h2
      exact ⟨s', by omega, rfl, ix_nI (by omega), h2⟩
    · exact absurd h (by decide)
  · exact absurd h (by decide)
theorem cnt_up {x : Int64} {W : Nat} (h : ∀ u, tb x u = true → u < W) : ∀ k, cnt x (W + k) = cnt x W := by
  intro k
  induction k with
  | zero => rfl
  | succ k ih =>
    rw [show W + (k + 1) = (W + k) + 1 by omega, cnt_f ?_, ih]
    cases e : tb x (W + k) with
    | false => rfl
    | true => have := h _ e; omega
theorem rFl_v {x : Int64} {W : Nat} : ∀ k w, (rFl x k w = none ∧ ∀ u, w ≤ u → u < w + k → tb x u = true) ∨ ∃ j, rFl x k w = some j ∧ w ≤ j ∧ j < w + k ∧ tb x j = false ∧ ∀ u, w ≤ u → u < j → tb x u = true := by
  intro k
  induction k with
  | zero => intro w; exact Or.inl ⟨rfl, fun u h1 h2 => by omega⟩
  | succ k ih =>
    intro w
    unfold rFl
    cases e : tb x w with
    | true =>
      rw [if_pos rfl]
      rcases ih (w + 1) with ⟨h1, h2⟩ | ⟨j, h1, h2, h3, h4, h5⟩
      · refine Or.inl ⟨h1, fun u u1 u2 => ?_⟩
        by_cases e2 : u = w
        · rw [e2]; exact e
        · exact h2 u (by omega) (by omega)
      · refine Or.inr ⟨j, h1, by omega, by omega, h4, fun u u1 u2 => ?_⟩
        by_cases e2 : u = w
        · rw [e2]; exact e
        · exact h5 u (by omega) (by omega)
    | false =>
      rw [if_neg (by decide)]
      exact Or.inr ⟨w, rfl, by omega, by omega, e, fun u u1 u2 => by omega⟩
theorem rFl_not {x : Int64} {W : Nat} (hW : W ≤ 64) : (evr W &&& (x ^^^ (-1)) = 0 ∧ rFl x W 0 = none) ∨ (¬ evr W &&& (x ^^^ (-1)) = 0 ∧ rFl x W 0 = some (lsb (evr W &&& (x ^^^ (-1))))) := by
  have hb : ∀ u, tb (evr W &&& (x ^^^ (-1))) u = true ↔ u < W ∧ ¬ tb x u = true := fun u => by rw [tb_dif, tb_evrT hW]
  rcases rFl_v (x := x) (W := W) W 0 with ⟨h1, h2⟩ | ⟨j, h1, h2, h3, h4, h5⟩
  · refine Or.inl ⟨?_, h1⟩
    apply tb_extT
    intro u
    rw [hb u]
    have z : tb 0 u = false := tb_0 u
    rw [z]
    exact ⟨fun q => absurd (h2 u (by omega) (by omega)) q.2, fun q => by cases q⟩
  · have hj : tb (evr W &&& (x ^^^ (-1))) j = true := (hb j).mpr ⟨by omega, by rw [h4]; decide⟩
    refine Or.inr ⟨fun q => ?_, ?_⟩
    · rw [q, tb_0] at hj; cases hj
    · rw [h1, lsb_eq hj]
      intro i hi
      cases e : tb (evr W &&& (x ^^^ (-1))) i with
      | false => rfl
      | true => exact absurd (h5 i (by omega) hi) ((hb i).mp e).2
section HOLDS
variable {G : tkG} {n : Nat} {T : Nat → Nat × Nat} {I J : Nat → Nat → Int32} {L : Nat → Nat → Int64} {P : Nat → Nat → Option Nat} {tw np nf W r cn : Nat} {cl : Nat → Nat} {pn : Nat} {pl pg : Nat → Nat} {mn : Nat} {mW mr mc : Nat → Nat} {ml : Nat → Nat → Nat}
theorem k_holds (hN : cNow n T I L P J tw np nf W r cn cl pn pl pg mn mW mr mc ml) (s : Int32) : tkM G mX10_holds 96 0 0 [vR 0, vI s] (n, T, I, L, P) (cPst n T I L P J (rAkC J s) (tkb (tb (soJ J np W cn cl (ix s)) r)) J) := by
  have hN' := hN
  obtain ⟨hR, hk, ⟨hTH, hPH, hMH, hGW, hob⟩, ftw, pic, sta, oa, se, pa, ma, ht, hpc, hst, hoa, hse, hpa, hma⟩ := hN
  have hn := hR.1
  have hsc := hR.2.1
  have hk' := hk
  obtain ⟨k0, k1, k2, k3, k4, k5, k6⟩ := hk'
  have ht' := ht
  obtain ⟨u0, u1, u2, u3, u4, u5, u6⟩ := ht'
  have hpc' := hpc
  obtain ⟨fpi, tpi, wa, ca, ga, p1, p2, p3, hw, fca, hca, hcl, fga, hga, hgr⟩ := hpc'
  have hp : pObj T P pic wa ca ga := ⟨tpi, p1, p2, p3⟩
  have hTH' := hTH
  obtain ⟨h41, np1, np4, h411, nf1, nf4, h412, W1, W64, h413, rW, h414, cn5, hcW, hsW⟩ := hTH'
  have se6 := hse.2.1
  have w9 : (T wa).1 = 9 := hw.2.1
  refine tkM.of (ls := [some _, some _, none]) (by decide +kernel) (by decide +kernel) (Nat.le_of_ble_eq_true rfl) rfl ?_
  refine tk_aload0 dX10_holds_0 ?_
  refine tk_iload1 dX10_holds_1 ?_
  refine tk_callV1z dX10_holds_2 kX10_306 (by first | assumption | exact va_up_self _ _ _ | exact (va_up_ne _ _ (by omega)).trans (by assumption) | exact congrArg Prod.fst (va_up_self _ _ _) | exact (congrArg Prod.fst (va_up_ne _ _ (by omega))).trans (by assumption) | exact (congrFun (va_up_ne _ _ (by omega)) _).trans (by assumption) | exact (va_up_ne _ _ (by omega)).trans (va_up_self _ _ _) | exact (va_up_ne _ _ (by omega)).trans ((va_up_ne _ _ (by omega)).trans (by assumption)) | exact (congrArg Prod.fst ((va_up_ne _ _ (by omega)).trans (va_up_ne _ _ (by omega)))).trans (by assumption) | exact (congrFun ((va_up_ne _ _ (by omega)).trans (va_up_ne _ _ (by omega))) _).trans (by assumption) | (rw [va_up_self, va_up_ne _ _ (by omega)]; assumption)) (k_asking hN' s) (Nat.le_of_ble_eq_true rfl) (by omega) ?_
  refine tk_istore2 dX10_holds_5 rfl ?_
  refine tk_iload2 dX10_holds_6 ?_
  first | refine tk_jf_eqB dX10_holds_7 (fun h7 => ?_) (fun h7 => ?_) | refine tk_if_eq dX10_holds_7 (fun h7 => ?_) (fun h7 => ?_)
  · refine tk_aload0 dX10_holds_16 ?_
    obtain ⟨s', hs', rfl, hix, hrt⟩ := ask_0 h7
    obtain ⟨ra, l, q1, q2, q3, q4, q5, q6, q7, q8⟩ := sen_row hse hs'
    refine tk_callV0z dX10_holds_17 kX10_84 (by first | assumption | exact va_up_self _ _ _ | exact (va_up_ne _ _ (by omega)).trans (by assumption) | exact congrArg Prod.fst (va_up_self _ _ _) | exact (congrArg Prod.fst (va_up_ne _ _ (by omega))).trans (by assumption) | exact (congrFun (va_up_ne _ _ (by omega)) _).trans (by assumption) | exact (va_up_ne _ _ (by omega)).trans (va_up_self _ _ _) | exact (va_up_ne _ _ (by omega)).trans ((va_up_ne _ _ (by omega)).trans (by assumption)) | exact (congrArg Prod.fst ((va_up_ne _ _ (by omega)).trans (va_up_ne _ _ (by omega)))).trans (by assumption) | exact (congrFun ((va_up_ne _ _ (by omega)).trans (va_up_ne _ _ (by omega))) _).trans (by assumption) | (rw [va_up_self, va_up_ne _ _ (by omega)]; assumption)) (c_worlds hk ht hp) (Nat.le_of_ble_eq_true rfl) (by omega) ?_
    refine tk_aload0 dX10_holds_20 ?_
    refine tk_aload0 dX10_holds_21 ?_
    refine tk_getP dX10_holds_22 fX10_13 rfl (by first | assumption | exact va_up_self _ _ _ | exact (va_up_ne _ _ (by omega)).trans (by assumption) | exact congrArg Prod.fst (va_up_self _ _ _) | exact (congrArg Prod.fst (va_up_ne _ _ (by omega))).trans (by assumption) | exact (congrFun (va_up_ne _ _ (by omega)) _).trans (by assumption) | exact (va_up_ne _ _ (by omega)).trans (va_up_self _ _ _) | exact (va_up_ne _ _ (by omega)).trans ((va_up_ne _ _ (by omega)).trans (by assumption)) | exact (congrArg Prod.fst ((va_up_ne _ _ (by omega)).trans (va_up_ne _ _ (by omega)))).trans (by assumption) | exact (congrFun ((va_up_ne _ _ (by omega)).trans (va_up_ne _ _ (by omega))) _).trans (by assumption) | (rw [va_up_self, va_up_ne _ _ (by omega)]; assumption)) (by first | assumption | exact va_up_self _ _ _ | exact (va_up_ne _ _ (by omega)).trans (by assumption) | exact congrArg Prod.fst (va_up_self _ _ _) | exact (congrArg Prod.fst (va_up_ne _ _ (by omega))).trans (by assumption) | exact (congrFun (va_up_ne _ _ (by omega)) _).trans (by assumption) | exact (va_up_ne _ _ (by omega)).trans (va_up_self _ _ _) | exact (va_up_ne _ _ (by omega)).trans ((va_up_ne _ _ (by omega)).trans (by assumption)) | exact (congrArg Prod.fst ((va_up_ne _ _ (by omega)).trans (va_up_ne _ _ (by omega)))).trans (by assumption) | exact (congrFun ((va_up_ne _ _ (by omega)).trans (va_up_ne _ _ (by omega))) _).trans (by assumption) | (rw [va_up_self, va_up_ne _ _ (by omega)]; assumption)) ?_
    refine tk_getP dX10_holds_25 fX10_131 rfl (by first | assumption | exact va_up_self _ _ _ | exact (va_up_ne _ _ (by omega)).trans (by assumption) | exact congrArg Prod.fst (va_up_self _ _ _) | exact (congrArg Prod.fst (va_up_ne _ _ (by omega))).trans (by assumption) | exact (congrFun (va_up_ne _ _ (by omega)) _).trans (by assumption) | exact (va_up_ne _ _ (by omega)).trans (va_up_self _ _ _) | exact (va_up_ne _ _ (by omega)).trans ((va_up_ne _ _ (by omega)).trans (by assumption)) | exact (congrArg Prod.fst ((va_up_ne _ _ (by omega)).trans (va_up_ne _ _ (by omega)))).trans (by assumption) | exact (congrFun ((va_up_ne _ _ (by omega)).trans (va_up_ne _ _ (by omega))) _).trans (by assumption) | (rw [va_up_self, va_up_ne _ _ (by omega)]; assumption)) (by first | assumption | exact va_up_self _ _ _ | exact (va_up_ne _ _ (by omega)).trans (by assumption) | exact congrArg Prod.fst (va_up_self _ _ _) | exact (congrArg Prod.fst (va_up_ne _ _ (by omega))).trans (by assumption) | exact (congrFun (va_up_ne _ _ (by omega)) _).trans (by assumption) | exact (va_up_ne _ _ (by omega)).trans (va_up_self _ _ _) | exact (va_up_ne _ _ (by omega)).trans ((va_up_ne _ _ (by omega)).trans (by assumption)) | exact (congrArg Prod.fst ((va_up_ne _ _ (by omega)).trans (va_up_ne _ _ (by omega)))).trans (by assumption) | exact (congrFun ((va_up_ne _ _ (by omega)).trans (va_up_ne _ _ (by omega))) _).trans (by assumption) | (rw [va_up_self, va_up_ne _ _ (by omega)]; assumption)) ?_
    refine tk_iload1 dX10_holds_28 ?_
    refine tk_aald dX10_holds_29 (by first | assumption | exact va_up_self _ _ _ | exact (va_up_ne _ _ (by omega)).trans (by assumption) | exact congrArg Prod.fst (va_up_self _ _ _) | exact (congrArg Prod.fst (va_up_ne _ _ (by omega))).trans (by assumption) | exact (congrFun (va_up_ne _ _ (by omega)) _).trans (by assumption) | exact (va_up_ne _ _ (by omega)).trans (va_up_self _ _ _) | exact (va_up_ne _ _ (by omega)).trans ((va_up_ne _ _ (by omega)).trans (by assumption)) | exact (congrArg Prod.fst ((va_up_ne _ _ (by omega)).trans (va_up_ne _ _ (by omega)))).trans (by assumption) | exact (congrFun ((va_up_ne _ _ (by omega)).trans (va_up_ne _ _ (by omega))) _).trans (by assumption) | (rw [va_up_self, va_up_ne _ _ (by omega)]; assumption)) (by omega) (by omega) (by omega) (by first | assumption | exact va_up_self _ _ _ | exact (va_up_ne _ _ (by omega)).trans (by assumption) | exact congrArg Prod.fst (va_up_self _ _ _) | exact (congrArg Prod.fst (va_up_ne _ _ (by omega))).trans (by assumption) | exact (congrFun (va_up_ne _ _ (by omega)) _).trans (by assumption) | exact (va_up_ne _ _ (by omega)).trans (va_up_self _ _ _) | exact (va_up_ne _ _ (by omega)).trans ((va_up_ne _ _ (by omega)).trans (by assumption)) | exact (congrArg Prod.fst ((va_up_ne _ _ (by omega)).trans (va_up_ne _ _ (by omega)))).trans (by assumption) | exact (congrFun ((va_up_ne _ _ (by omega)).trans (va_up_ne _ _ (by omega))) _).trans (by assumption) | (rw [va_up_self, va_up_ne _ _ (by omega)]; assumption)) ?_
    refine tk_callV1q dX10_holds_30 kX10_211 (by first | assumption | exact va_up_self _ _ _ | exact (va_up_ne _ _ (by omega)).trans (by assumption) | exact congrArg Prod.fst (va_up_self _ _ _) | exact (congrArg Prod.fst (va_up_ne _ _ (by omega))).trans (by assumption) | exact (congrFun (va_up_ne _ _ (by omega)) _).trans (by assumption) | exact (va_up_ne _ _ (by omega)).trans (va_up_self _ _ _) | exact (va_up_ne _ _ (by omega)).trans ((va_up_ne _ _ (by omega)).trans (by assumption)) | exact (congrArg Prod.fst ((va_up_ne _ _ (by omega)).trans (va_up_ne _ _ (by omega)))).trans (by assumption) | exact (congrFun ((va_up_ne _ _ (by omega)).trans (va_up_ne _ _ (by omega))) _).trans (by assumption) | (rw [va_up_self, va_up_ne _ _ (by omega)]; assumption)) (k_soAt hN' ht hpc hp hs' hrt q4 q5 q8) (Nat.le_of_ble_eq_true rfl) (by omega) ?_
    rintro rr hh1 hq
    obtain ⟨L', rfl, rfl, m1⟩ := soq_sa hN' hs' hrt q4 q5 hq
    dsimp only [Option.toList, List.singleton_append]
    have st := look_st (n := n) (wa := wa) (ca := ca) (ga := ga) hsc m1
    refine tk_callV1z dX10_holds_33 kX10_219 (by first | assumption | exact va_up_self _ _ _ | exact (va_up_ne _ _ (by omega)).trans (by assumption) | exact congrArg Prod.fst (va_up_self _ _ _) | exact (congrArg Prod.fst (va_up_ne _ _ (by omega))).trans (by assumption) | exact (congrFun (va_up_ne _ _ (by omega)) _).trans (by assumption) | exact (va_up_ne _ _ (by omega)).trans (va_up_self _ _ _) | exact (va_up_ne _ _ (by omega)).trans ((va_up_ne _ _ (by omega)).trans (by assumption)) | exact (congrArg Prod.fst ((va_up_ne _ _ (by omega)).trans (va_up_ne _ _ (by omega)))).trans (by assumption) | exact (congrFun ((va_up_ne _ _ (by omega)).trans (va_up_ne _ _ (by omega))) _).trans (by assumption) | (rw [va_up_self, va_up_ne _ _ (by omega)]; assumption)) (c_hasReal (hw.ex st.ex) (by omega) _) (Nat.le_of_ble_eq_true rfl) (by omega) ?_
    first | refine tk_jf_eqB dX10_holds_36 (fun h36 => ?_) (fun h36 => ?_) | refine tk_if_eq dX10_holds_36 (fun h36 => ?_) (fun h36 => ?_)
    · refine tk_iconst dX10_holds_43 kc_iconst_0 ?_
      refine tk_ireturn dX10_holds_44 rfl ?_
      exact cPst_g (by simp [rAkC, h7]) (by rw [hix, h36]; rfl) (hR.st st) (st.kp hn) jSm.rf
    · refine tk_iconst dX10_holds_39 kc_iconst_1 ?_
      refine tk_goto dX10_holds_40 ?_
      refine tk_ireturn dX10_holds_44 rfl ?_
      exact cPst_g (by simp [rAkC, h7]) (by rw [hix, h36]; rfl) (hR.st st) (st.kp hn) jSm.rf
  · refine tk_aload0 dX10_holds_10 ?_
    refine tk_iload2 dX10_holds_11 ?_
    refine tk_callV1z dX10_holds_12 kX10_66 (by first | assumption | exact va_up_self _ _ _ | exact (va_up_ne _ _ (by omega)).trans (by assumption) | exact congrArg Prod.fst (va_up_self _ _ _) | exact (congrArg Prod.fst (va_up_ne _ _ (by omega))).trans (by assumption) | exact (congrFun (va_up_ne _ _ (by omega)) _).trans (by assumption) | exact (va_up_ne _ _ (by omega)).trans (va_up_self _ _ _) | exact (va_up_ne _ _ (by omega)).trans ((va_up_ne _ _ (by omega)).trans (by assumption)) | exact (congrArg Prod.fst ((va_up_ne _ _ (by omega)).trans (va_up_ne _ _ (by omega)))).trans (by assumption) | exact (congrFun ((va_up_ne _ _ (by omega)).trans (va_up_ne _ _ (by omega))) _).trans (by assumption) | (rw [va_up_self, va_up_ne _ _ (by omega)]; assumption)) (c_finding hk _) (Nat.le_of_ble_eq_true rfl) (by omega) ?_
    refine tk_ireturn dX10_holds_15 rfl ?_
    exact cPst_f (by simp [rAkC, h7]) hR cKp.rf
theorem k_many (hN : cNow n T I L P J tw np nf W r cn cl pn pl pg mn mW mr mc ml) (s : Int32) : tkM G mX10_many 96 0 0 [vR 0, vI s] (n, T, I, L, P) (cPst n T I L P J (rAkC J s) (nI (cnt (soJ J np W cn cl (ix s)) W)) J) := by
  have hN' := hN
  obtain ⟨hR, hk, ⟨hTH, hPH, hMH, hGW, hob⟩, ftw, pic, sta, oa, se, pa, ma, ht, hpc, hst, hoa, hse, hpa, hma⟩ := hN
  have hn := hR.1
  have hsc := hR.2.1
  have hk' := hk
  obtain ⟨k0, k1, k2, k3, k4, k5, k6⟩ := hk'
  have ht' := ht
  obtain ⟨u0, u1, u2, u3, u4, u5, u6⟩ := ht'
  have hpc' := hpc
  obtain ⟨fpi, tpi, wa, ca, ga, p1, p2, p3, hw, fca, hca, hcl, fga, hga, hgr⟩ := hpc'
  have hp : pObj T P pic wa ca ga := ⟨tpi, p1, p2, p3⟩
  have hTH' := hTH
  obtain ⟨h41, np1, np4, h411, nf1, nf4, h412, W1, W64, h413, rW, h414, cn5, hcW, hsW⟩ := hTH'
  have se6 := hse.2.1
  refine tkM.of (ls := [some _, some _, none]) (by decide +kernel) (by decide +kernel) (Nat.le_of_ble_eq_true rfl) rfl ?_
  refine tk_aload0 dX10_many_0 ?_
  refine tk_iload1 dX10_many_1 ?_
  refine tk_callV1z dX10_many_2 kX10_306 (by first | assumption | exact va_up_self _ _ _ | exact (va_up_ne _ _ (by omega)).trans (by assumption) | exact congrArg Prod.fst (va_up_self _ _ _) | exact (congrArg Prod.fst (va_up_ne _ _ (by omega))).trans (by assumption) | exact (congrFun (va_up_ne _ _ (by omega)) _).trans (by assumption) | exact (va_up_ne _ _ (by omega)).trans (va_up_self _ _ _) | exact (va_up_ne _ _ (by omega)).trans ((va_up_ne _ _ (by omega)).trans (by assumption)) | exact (congrArg Prod.fst ((va_up_ne _ _ (by omega)).trans (va_up_ne _ _ (by omega)))).trans (by assumption) | exact (congrFun ((va_up_ne _ _ (by omega)).trans (va_up_ne _ _ (by omega))) _).trans (by assumption) | (rw [va_up_self, va_up_ne _ _ (by omega)]; assumption)) (k_asking hN' s) (Nat.le_of_ble_eq_true rfl) (by omega) ?_
  refine tk_istore2 dX10_many_5 rfl ?_
  refine tk_iload2 dX10_many_6 ?_
  first | refine tk_jf_eqB dX10_many_7 (fun h7 => ?_) (fun h7 => ?_) | refine tk_if_eq dX10_many_7 (fun h7 => ?_) (fun h7 => ?_)
  · refine tk_aload0 dX10_many_16 ?_
    obtain ⟨s', hs', rfl, hix, hrt⟩ := ask_0 h7
    obtain ⟨ra, l, q1, q2, q3, q4, q5, q6, q7, q8⟩ := sen_row hse hs'
    refine tk_aload0 dX10_many_17 ?_
    refine tk_getP dX10_many_18 fX10_13 rfl (by first | assumption | exact va_up_self _ _ _ | exact (va_up_ne _ _ (by omega)).trans (by assumption) | exact congrArg Prod.fst (va_up_self _ _ _) | exact (congrArg Prod.fst (va_up_ne _ _ (by omega))).trans (by assumption) | exact (congrFun (va_up_ne _ _ (by omega)) _).trans (by assumption) | exact (va_up_ne _ _ (by omega)).trans (va_up_self _ _ _) | exact (va_up_ne _ _ (by omega)).trans ((va_up_ne _ _ (by omega)).trans (by assumption)) | exact (congrArg Prod.fst ((va_up_ne _ _ (by omega)).trans (va_up_ne _ _ (by omega)))).trans (by assumption) | exact (congrFun ((va_up_ne _ _ (by omega)).trans (va_up_ne _ _ (by omega))) _).trans (by assumption) | (rw [va_up_self, va_up_ne _ _ (by omega)]; assumption)) (by first | assumption | exact va_up_self _ _ _ | exact (va_up_ne _ _ (by omega)).trans (by assumption) | exact congrArg Prod.fst (va_up_self _ _ _) | exact (congrArg Prod.fst (va_up_ne _ _ (by omega))).trans (by assumption) | exact (congrFun (va_up_ne _ _ (by omega)) _).trans (by assumption) | exact (va_up_ne _ _ (by omega)).trans (va_up_self _ _ _) | exact (va_up_ne _ _ (by omega)).trans ((va_up_ne _ _ (by omega)).trans (by assumption)) | exact (congrArg Prod.fst ((va_up_ne _ _ (by omega)).trans (va_up_ne _ _ (by omega)))).trans (by assumption) | exact (congrFun ((va_up_ne _ _ (by omega)).trans (va_up_ne _ _ (by omega))) _).trans (by assumption) | (rw [va_up_self, va_up_ne _ _ (by omega)]; assumption)) ?_
    refine tk_getP dX10_many_21 fX10_131 rfl (by first | assumption | exact va_up_self _ _ _ | exact (va_up_ne _ _ (by omega)).trans (by assumption) | exact congrArg Prod.fst (va_up_self _ _ _) | exact (congrArg Prod.fst (va_up_ne _ _ (by omega))).trans (by assumption) | exact (congrFun (va_up_ne _ _ (by omega)) _).trans (by assumption) | exact (va_up_ne _ _ (by omega)).trans (va_up_self _ _ _) | exact (va_up_ne _ _ (by omega)).trans ((va_up_ne _ _ (by omega)).trans (by assumption)) | exact (congrArg Prod.fst ((va_up_ne _ _ (by omega)).trans (va_up_ne _ _ (by omega)))).trans (by assumption) | exact (congrFun ((va_up_ne _ _ (by omega)).trans (va_up_ne _ _ (by omega))) _).trans (by assumption) | (rw [va_up_self, va_up_ne _ _ (by omega)]; assumption)) (by first | assumption | exact va_up_self _ _ _ | exact (va_up_ne _ _ (by omega)).trans (by assumption) | exact congrArg Prod.fst (va_up_self _ _ _) | exact (congrArg Prod.fst (va_up_ne _ _ (by omega))).trans (by assumption) | exact (congrFun (va_up_ne _ _ (by omega)) _).trans (by assumption) | exact (va_up_ne _ _ (by omega)).trans (va_up_self _ _ _) | exact (va_up_ne _ _ (by omega)).trans ((va_up_ne _ _ (by omega)).trans (by assumption)) | exact (congrArg Prod.fst ((va_up_ne _ _ (by omega)).trans (va_up_ne _ _ (by omega)))).trans (by assumption) | exact (congrFun ((va_up_ne _ _ (by omega)).trans (va_up_ne _ _ (by omega))) _).trans (by assumption) | (rw [va_up_self, va_up_ne _ _ (by omega)]; assumption)) ?_
    refine tk_iload1 dX10_many_24 ?_
    refine tk_aald dX10_many_25 (by first | assumption | exact va_up_self _ _ _ | exact (va_up_ne _ _ (by omega)).trans (by assumption) | exact congrArg Prod.fst (va_up_self _ _ _) | exact (congrArg Prod.fst (va_up_ne _ _ (by omega))).trans (by assumption) | exact (congrFun (va_up_ne _ _ (by omega)) _).trans (by assumption) | exact (va_up_ne _ _ (by omega)).trans (va_up_self _ _ _) | exact (va_up_ne _ _ (by omega)).trans ((va_up_ne _ _ (by omega)).trans (by assumption)) | exact (congrArg Prod.fst ((va_up_ne _ _ (by omega)).trans (va_up_ne _ _ (by omega)))).trans (by assumption) | exact (congrFun ((va_up_ne _ _ (by omega)).trans (va_up_ne _ _ (by omega))) _).trans (by assumption) | (rw [va_up_self, va_up_ne _ _ (by omega)]; assumption)) (by omega) (by omega) (by omega) (by first | assumption | exact va_up_self _ _ _ | exact (va_up_ne _ _ (by omega)).trans (by assumption) | exact congrArg Prod.fst (va_up_self _ _ _) | exact (congrArg Prod.fst (va_up_ne _ _ (by omega))).trans (by assumption) | exact (congrFun (va_up_ne _ _ (by omega)) _).trans (by assumption) | exact (va_up_ne _ _ (by omega)).trans (va_up_self _ _ _) | exact (va_up_ne _ _ (by omega)).trans ((va_up_ne _ _ (by omega)).trans (by assumption)) | exact (congrArg Prod.fst ((va_up_ne _ _ (by omega)).trans (va_up_ne _ _ (by omega)))).trans (by assumption) | exact (congrFun ((va_up_ne _ _ (by omega)).trans (va_up_ne _ _ (by omega))) _).trans (by assumption) | (rw [va_up_self, va_up_ne _ _ (by omega)]; assumption)) ?_
    refine tk_callV1q dX10_many_26 kX10_211 (by first | assumption | exact va_up_self _ _ _ | exact (va_up_ne _ _ (by omega)).trans (by assumption) | exact congrArg Prod.fst (va_up_self _ _ _) | exact (congrArg Prod.fst (va_up_ne _ _ (by omega))).trans (by assumption) | exact (congrFun (va_up_ne _ _ (by omega)) _).trans (by assumption) | exact (va_up_ne _ _ (by omega)).trans (va_up_self _ _ _) | exact (va_up_ne _ _ (by omega)).trans ((va_up_ne _ _ (by omega)).trans (by assumption)) | exact (congrArg Prod.fst ((va_up_ne _ _ (by omega)).trans (va_up_ne _ _ (by omega)))).trans (by assumption) | exact (congrFun ((va_up_ne _ _ (by omega)).trans (va_up_ne _ _ (by omega))) _).trans (by assumption) | (rw [va_up_self, va_up_ne _ _ (by omega)]; assumption)) (k_soAt hN' ht hpc hp hs' hrt q4 q5 q8) (Nat.le_of_ble_eq_true rfl) (by omega) ?_
    rintro rr hh1 hq
    obtain ⟨L', rfl, rfl, m1⟩ := soq_sa hN' hs' hrt q4 q5 hq
    dsimp only [Option.toList, List.singleton_append]
    have st := look_st (n := n) (wa := wa) (ca := ca) (ga := ga) hsc m1
    refine tk_callS1z dX10_many_29 kX10_309 (j_bc64 _) (Nat.le_of_ble_eq_true rfl) (by omega) ?_
    refine tk_ireturn dX10_many_32 rfl ?_
    refine cPst_g (by simp [rAkC, h7]) ?_ (hR.st st) (st.kp hn) jSm.rf
    have := cnt_up (soJ_lt hTH hs' hrt) (64 - W)
    rw [show W + (64 - W) = 64 by omega] at this
    rw [hix, bc64_cnt, this]
  · refine tk_aload0 dX10_many_10 ?_
    refine tk_iload2 dX10_many_11 ?_
    refine tk_callV1z dX10_many_12 kX10_66 (by first | assumption | exact va_up_self _ _ _ | exact (va_up_ne _ _ (by omega)).trans (by assumption) | exact congrArg Prod.fst (va_up_self _ _ _) | exact (congrArg Prod.fst (va_up_ne _ _ (by omega))).trans (by assumption) | exact (congrFun (va_up_ne _ _ (by omega)) _).trans (by assumption) | exact (va_up_ne _ _ (by omega)).trans (va_up_self _ _ _) | exact (va_up_ne _ _ (by omega)).trans ((va_up_ne _ _ (by omega)).trans (by assumption)) | exact (congrArg Prod.fst ((va_up_ne _ _ (by omega)).trans (va_up_ne _ _ (by omega)))).trans (by assumption) | exact (congrFun ((va_up_ne _ _ (by omega)).trans (va_up_ne _ _ (by omega))) _).trans (by assumption) | (rw [va_up_self, va_up_ne _ _ (by omega)]; assumption)) (c_finding hk _) (Nat.le_of_ble_eq_true rfl) (by omega) ?_
    refine tk_ireturn dX10_many_15 rfl ?_
    exact cPst_f (by simp [rAkC, h7]) hR cKp.rf
theorem k_fails (hN : cNow n T I L P J tw np nf W r cn cl pn pl pg mn mW mr mc ml) (s : Int32) : tkM G mX10_fails 96 0 0 [vR 0, vI s] (n, T, I, L, P) (cPst n T I L P J (rFlC J s (rFl (soJ J np W cn cl (ix s)) W 0)) (nI ((rFl (soJ J np W cn cl (ix s)) W 0).getD 0)) J) := by
  have hN' := hN
  obtain ⟨hR, hk, ⟨hTH, hPH, hMH, hGW, hob⟩, ftw, pic, sta, oa, se, pa, ma, ht, hpc, hst, hoa, hse, hpa, hma⟩ := hN
  have hn := hR.1
  have hsc := hR.2.1
  have hk' := hk
  obtain ⟨k0, k1, k2, k3, k4, k5, k6⟩ := hk'
  have ht' := ht
  obtain ⟨u0, u1, u2, u3, u4, u5, u6⟩ := ht'
  have hpc' := hpc
  obtain ⟨fpi, tpi, wa, ca, ga, p1, p2, p3, hw, fca, hca, hcl, fga, hga, hgr⟩ := hpc'
  have hp : pObj T P pic wa ca ga := ⟨tpi, p1, p2, p3⟩
  have hTH' := hTH
  obtain ⟨h41, np1, np4, h411, nf1, nf4, h412, W1, W64, h413, rW, h414, cn5, hcW, hsW⟩ := hTH'
  have se6 := hse.2.1
  have w9 : (T wa).1 = 9 := hw.2.1
  refine tkM.of (ls := [some _, some _, none, none, none]) (by decide +kernel) (by decide +kernel) (Nat.le_of_ble_eq_true rfl) rfl ?_
  refine tk_aload0 dX10_fails_0 ?_
  refine tk_iload1 dX10_fails_1 ?_
  refine tk_callV1z dX10_fails_2 kX10_306 (by first | assumption | exact va_up_self _ _ _ | exact (va_up_ne _ _ (by omega)).trans (by assumption) | exact congrArg Prod.fst (va_up_self _ _ _) | exact (congrArg Prod.fst (va_up_ne _ _ (by omega))).trans (by assumption) | exact (congrFun (va_up_ne _ _ (by omega)) _).trans (by assumption) | exact (va_up_ne _ _ (by omega)).trans (va_up_self _ _ _) | exact (va_up_ne _ _ (by omega)).trans ((va_up_ne _ _ (by omega)).trans (by assumption)) | exact (congrArg Prod.fst ((va_up_ne _ _ (by omega)).trans (va_up_ne _ _ (by omega)))).trans (by assumption) | exact (congrFun ((va_up_ne _ _ (by omega)).trans (va_up_ne _ _ (by omega))) _).trans (by assumption) | (rw [va_up_self, va_up_ne _ _ (by omega)]; assumption)) (k_asking hN' s) (Nat.le_of_ble_eq_true rfl) (by omega) ?_
  refine tk_istore2 dX10_fails_5 rfl ?_
  refine tk_iload2 dX10_fails_6 ?_
  first | refine tk_jf_eqB dX10_fails_7 (fun h7 => ?_) (fun h7 => ?_) | refine tk_if_eq dX10_fails_7 (fun h7 => ?_) (fun h7 => ?_)
  · refine tk_aload0 dX10_fails_16 ?_
    obtain ⟨s', hs', rfl, hix, hrt⟩ := ask_0 h7
    obtain ⟨ra, l, q1, q2, q3, q4, q5, q6, q7, q8⟩ := sen_row hse hs'
    refine tk_callV0z dX10_fails_17 kX10_84 (by first | assumption | exact va_up_self _ _ _ | exact (va_up_ne _ _ (by omega)).trans (by assumption) | exact congrArg Prod.fst (va_up_self _ _ _) | exact (congrArg Prod.fst (va_up_ne _ _ (by omega))).trans (by assumption) | exact (congrFun (va_up_ne _ _ (by omega)) _).trans (by assumption) | exact (va_up_ne _ _ (by omega)).trans (va_up_self _ _ _) | exact (va_up_ne _ _ (by omega)).trans ((va_up_ne _ _ (by omega)).trans (by assumption)) | exact (congrArg Prod.fst ((va_up_ne _ _ (by omega)).trans (va_up_ne _ _ (by omega)))).trans (by assumption) | exact (congrFun ((va_up_ne _ _ (by omega)).trans (va_up_ne _ _ (by omega))) _).trans (by assumption) | (rw [va_up_self, va_up_ne _ _ (by omega)]; assumption)) (c_worlds hk ht hp) (Nat.le_of_ble_eq_true rfl) (by omega) ?_
    refine tk_callV0z dX10_fails_20 kX10_189 (by first | assumption | exact va_up_self _ _ _ | exact (va_up_ne _ _ (by omega)).trans (by assumption) | exact congrArg Prod.fst (va_up_self _ _ _) | exact (congrArg Prod.fst (va_up_ne _ _ (by omega))).trans (by assumption) | exact (congrFun (va_up_ne _ _ (by omega)) _).trans (by assumption) | exact (va_up_ne _ _ (by omega)).trans (va_up_self _ _ _) | exact (va_up_ne _ _ (by omega)).trans ((va_up_ne _ _ (by omega)).trans (by assumption)) | exact (congrArg Prod.fst ((va_up_ne _ _ (by omega)).trans (va_up_ne _ _ (by omega)))).trans (by assumption) | exact (congrFun ((va_up_ne _ _ (by omega)).trans (va_up_ne _ _ (by omega))) _).trans (by assumption) | (rw [va_up_self, va_up_ne _ _ (by omega)]; assumption)) (c_every hw W1 W64) (Nat.le_of_ble_eq_true rfl) (by omega) ?_
    refine tk_aload0 dX10_fails_23 ?_
    refine tk_aload0 dX10_fails_24 ?_
    refine tk_getP dX10_fails_25 fX10_13 rfl (by first | assumption | exact va_up_self _ _ _ | exact (va_up_ne _ _ (by omega)).trans (by assumption) | exact congrArg Prod.fst (va_up_self _ _ _) | exact (congrArg Prod.fst (va_up_ne _ _ (by omega))).trans (by assumption) | exact (congrFun (va_up_ne _ _ (by omega)) _).trans (by assumption) | exact (va_up_ne _ _ (by omega)).trans (va_up_self _ _ _) | exact (va_up_ne _ _ (by omega)).trans ((va_up_ne _ _ (by omega)).trans (by assumption)) | exact (congrArg Prod.fst ((va_up_ne _ _ (by omega)).trans (va_up_ne _ _ (by omega)))).trans (by assumption) | exact (congrFun ((va_up_ne _ _ (by omega)).trans (va_up_ne _ _ (by omega))) _).trans (by assumption) | (rw [va_up_self, va_up_ne _ _ (by omega)]; assumption)) (by first | assumption | exact va_up_self _ _ _ | exact (va_up_ne _ _ (by omega)).trans (by assumption) | exact congrArg Prod.fst (va_up_self _ _ _) | exact (congrArg Prod.fst (va_up_ne _ _ (by omega))).trans (by assumption) | exact (congrFun (va_up_ne _ _ (by omega)) _).trans (by assumption) | exact (va_up_ne _ _ (by omega)).trans (va_up_self _ _ _) | exact (va_up_ne _ _ (by omega)).trans ((va_up_ne _ _ (by omega)).trans (by assumption)) | exact (congrArg Prod.fst ((va_up_ne _ _ (by omega)).trans (va_up_ne _ _ (by omega)))).trans (by assumption) | exact (congrFun ((va_up_ne _ _ (by omega)).trans (va_up_ne _ _ (by omega))) _).trans (by assumption) | (rw [va_up_self, va_up_ne _ _ (by omega)]; assumption)) ?_
    refine tk_getP dX10_fails_28 fX10_131 rfl (by first | assumption | exact va_up_self _ _ _ | exact (va_up_ne _ _ (by omega)).trans (by assumption) | exact congrArg Prod.fst (va_up_self _ _ _) | exact (congrArg Prod.fst (va_up_ne _ _ (by omega))).trans (by assumption) | exact (congrFun (va_up_ne _ _ (by omega)) _).trans (by assumption) | exact (va_up_ne _ _ (by omega)).trans (va_up_self _ _ _) | exact (va_up_ne _ _ (by omega)).trans ((va_up_ne _ _ (by omega)).trans (by assumption)) | exact (congrArg Prod.fst ((va_up_ne _ _ (by omega)).trans (va_up_ne _ _ (by omega)))).trans (by assumption) | exact (congrFun ((va_up_ne _ _ (by omega)).trans (va_up_ne _ _ (by omega))) _).trans (by assumption) | (rw [va_up_self, va_up_ne _ _ (by omega)]; assumption)) (by first | assumption | exact va_up_self _ _ _ | exact (va_up_ne _ _ (by omega)).trans (by assumption) | exact congrArg Prod.fst (va_up_self _ _ _) | exact (congrArg Prod.fst (va_up_ne _ _ (by omega))).trans (by assumption) | exact (congrFun (va_up_ne _ _ (by omega)) _).trans (by assumption) | exact (va_up_ne _ _ (by omega)).trans (va_up_self _ _ _) | exact (va_up_ne _ _ (by omega)).trans ((va_up_ne _ _ (by omega)).trans (by assumption)) | exact (congrArg Prod.fst ((va_up_ne _ _ (by omega)).trans (va_up_ne _ _ (by omega)))).trans (by assumption) | exact (congrFun ((va_up_ne _ _ (by omega)).trans (va_up_ne _ _ (by omega))) _).trans (by assumption) | (rw [va_up_self, va_up_ne _ _ (by omega)]; assumption)) ?_
    refine tk_iload1 dX10_fails_31 ?_
    refine tk_aald dX10_fails_32 (by first | assumption | exact va_up_self _ _ _ | exact (va_up_ne _ _ (by omega)).trans (by assumption) | exact congrArg Prod.fst (va_up_self _ _ _) | exact (congrArg Prod.fst (va_up_ne _ _ (by omega))).trans (by assumption) | exact (congrFun (va_up_ne _ _ (by omega)) _).trans (by assumption) | exact (va_up_ne _ _ (by omega)).trans (va_up_self _ _ _) | exact (va_up_ne _ _ (by omega)).trans ((va_up_ne _ _ (by omega)).trans (by assumption)) | exact (congrArg Prod.fst ((va_up_ne _ _ (by omega)).trans (va_up_ne _ _ (by omega)))).trans (by assumption) | exact (congrFun ((va_up_ne _ _ (by omega)).trans (va_up_ne _ _ (by omega))) _).trans (by assumption) | (rw [va_up_self, va_up_ne _ _ (by omega)]; assumption)) (by omega) (by omega) (by omega) (by first | assumption | exact va_up_self _ _ _ | exact (va_up_ne _ _ (by omega)).trans (by assumption) | exact congrArg Prod.fst (va_up_self _ _ _) | exact (congrArg Prod.fst (va_up_ne _ _ (by omega))).trans (by assumption) | exact (congrFun (va_up_ne _ _ (by omega)) _).trans (by assumption) | exact (va_up_ne _ _ (by omega)).trans (va_up_self _ _ _) | exact (va_up_ne _ _ (by omega)).trans ((va_up_ne _ _ (by omega)).trans (by assumption)) | exact (congrArg Prod.fst ((va_up_ne _ _ (by omega)).trans (va_up_ne _ _ (by omega)))).trans (by assumption) | exact (congrFun ((va_up_ne _ _ (by omega)).trans (va_up_ne _ _ (by omega))) _).trans (by assumption) | (rw [va_up_self, va_up_ne _ _ (by omega)]; assumption)) ?_
    refine tk_callV1q dX10_fails_33 kX10_211 (by first | assumption | exact va_up_self _ _ _ | exact (va_up_ne _ _ (by omega)).trans (by assumption) | exact congrArg Prod.fst (va_up_self _ _ _) | exact (congrArg Prod.fst (va_up_ne _ _ (by omega))).trans (by assumption) | exact (congrFun (va_up_ne _ _ (by omega)) _).trans (by assumption) | exact (va_up_ne _ _ (by omega)).trans (va_up_self _ _ _) | exact (va_up_ne _ _ (by omega)).trans ((va_up_ne _ _ (by omega)).trans (by assumption)) | exact (congrArg Prod.fst ((va_up_ne _ _ (by omega)).trans (va_up_ne _ _ (by omega)))).trans (by assumption) | exact (congrFun ((va_up_ne _ _ (by omega)).trans (va_up_ne _ _ (by omega))) _).trans (by assumption) | (rw [va_up_self, va_up_ne _ _ (by omega)]; assumption)) (k_soAt hN' ht hpc hp hs' hrt q4 q5 q8) (Nat.le_of_ble_eq_true rfl) (by omega) ?_
    rintro rr hh1 hq
    obtain ⟨L', rfl, rfl, m1⟩ := soq_sa hN' hs' hrt q4 q5 hq
    dsimp only [Option.toList, List.singleton_append]
    have st := look_st (n := n) (wa := wa) (ca := ca) (ga := ga) hsc m1
    have hR2 := hR.st st
    have hk2 := (hN'.st st).2.1
    have k02 := hk2.1
    refine tk_ldc2 dX10_fails_36 klX10_314 ?_
    refine tk_lxor dX10_fails_39 ?_
    refine tk_land dX10_fails_40 ?_
    refine tk_lstore3 dX10_fails_41 rfl ?_
    refine tk_lload3 dX10_fails_42 ?_
    refine tk_lconst dX10_fails_43 (v := 0) (by decide) ?_
    refine tk_lcmp dX10_fails_44 ?_
    first | refine tk_jf_neB dX10_fails_45 (fun h45 => ?_) (fun h45 => ?_) | refine tk_if_ne dX10_fails_45 (fun h45 => ?_) (fun h45 => ?_)
    · refine tk_lload3 dX10_fails_58 ?_
      refine tk_callS1z dX10_fails_59 kX10_317 (c_least (fun z => h45 ((lgc0 _ _).mpr z))) (Nat.le_of_ble_eq_true rfl) (by omega) ?_
      refine tk_ireturn dX10_fails_62 rfl ?_
      rcases rFl_not (x := soJ J np W cn cl s') W64 with ⟨z1, z2⟩ | ⟨z1, z2⟩
      · exact absurd ((lgc0 _ _).mpr z1) h45
      · exact cPst_g (by rw [hix]; simp [rFlC, h7, z2]) (by rw [hix, z2]; rfl) hR2 (st.kp hn) jSm.rf
    · refine tk_aload0 dX10_fails_48 ?_
      refine tk_ldcw dX10_fails_49 klX10_316 ?_
      refine tk_callV1z dX10_fails_52 kX10_66 (by first | assumption | exact va_up_self _ _ _ | exact (va_up_ne _ _ (by omega)).trans (by assumption) | exact congrArg Prod.fst (va_up_self _ _ _) | exact (congrArg Prod.fst (va_up_ne _ _ (by omega))).trans (by assumption) | exact (congrFun (va_up_ne _ _ (by omega)) _).trans (by assumption) | exact (va_up_ne _ _ (by omega)).trans (va_up_self _ _ _) | exact (va_up_ne _ _ (by omega)).trans ((va_up_ne _ _ (by omega)).trans (by assumption)) | exact (congrArg Prod.fst ((va_up_ne _ _ (by omega)).trans (va_up_ne _ _ (by omega)))).trans (by assumption) | exact (congrFun ((va_up_ne _ _ (by omega)).trans (va_up_ne _ _ (by omega))) _).trans (by assumption) | (rw [va_up_self, va_up_ne _ _ (by omega)]; assumption)) (c_finding hk2 _) (Nat.le_of_ble_eq_true rfl) (by omega) ?_
      have z := (lgc0 _ _).mp h45
      refine tk_goto dX10_fails_55 ?_
      refine tk_ireturn dX10_fails_62 rfl ?_
      rcases rFl_not (x := soJ J np W cn cl s') W64 with ⟨z1, z2⟩ | ⟨z1, z2⟩
      · exact cPst_f (by rw [hix]; simp [rFlC, h7, z2]) hR2 (st.kp hn)
      · exact absurd z z1
  · refine tk_aload0 dX10_fails_10 ?_
    refine tk_iload2 dX10_fails_11 ?_
    refine tk_callV1z dX10_fails_12 kX10_66 (by first | assumption | exact va_up_self _ _ _ | exact (va_up_ne _ _ (by omega)).trans (by assumption) | exact congrArg Prod.fst (va_up_self _ _ _) | exact (congrArg Prod.fst (va_up_ne _ _ (by omega))).trans (by assumption) | exact (congrFun (va_up_ne _ _ (by omega)) _).trans (by assumption) | exact (va_up_ne _ _ (by omega)).trans (va_up_self _ _ _) | exact (va_up_ne _ _ (by omega)).trans ((va_up_ne _ _ (by omega)).trans (by assumption)) | exact (congrArg Prod.fst ((va_up_ne _ _ (by omega)).trans (va_up_ne _ _ (by omega)))).trans (by assumption) | exact (congrFun ((va_up_ne _ _ (by omega)).trans (va_up_ne _ _ (by omega))) _).trans (by assumption) | (rw [va_up_self, va_up_ne _ _ (by omega)]; assumption)) (c_finding hk _) (Nat.le_of_ble_eq_true rfl) (by omega) ?_
    refine tk_ireturn dX10_fails_15 rfl ?_
    exact cPst_f (by simp [rFlC, h7]) hR cKp.rf
theorem k_like (hN : cNow n T I L P J tw np nf W r cn cl pn pl pg mn mW mr mc ml) (s t : Int32) : tkM G mX10_like 96 0 0 [vR 0, vI s, vI t] (n, T, I, L, P) (cPst n T I L P J (rLkC J s t) (tkb (decide (soJ J np W cn cl (ix s) = soJ J np W cn cl (ix t)))) J) := by
  have hN' := hN
  obtain ⟨hR, hk, ⟨hTH, hPH, hMH, hGW, hob⟩, ftw, pic, sta, oa, se, pa, ma, ht, hpc, hst, hoa, hse, hpa, hma⟩ := hN
  have hn := hR.1
  have hsc := hR.2.1
  have hk' := hk
  obtain ⟨k0, k1, k2, k3, k4, k5, k6⟩ := hk'
  have ht' := ht
  obtain ⟨u0, u1, u2, u3, u4, u5, u6⟩ := ht'
  have hpc' := hpc
  obtain ⟨fpi, tpi, wa, ca, ga, p1, p2, p3, hw, fca, hca, hcl, fga, hga, hgr⟩ := hpc'
  have hp : pObj T P pic wa ca ga := ⟨tpi, p1, p2, p3⟩
  have hTH' := hTH
  obtain ⟨h41, np1, np4, h411, nf1, nf4, h412, W1, W64, h413, rW, h414, cn5, hcW, hsW⟩ := hTH'
  have se6 := hse.2.1
  refine tkM.of (ls := [some _, some _, some _]) (by decide +kernel) (by decide +kernel) (Nat.le_of_ble_eq_true rfl) rfl ?_
  refine tk_iload1 dX10_like_0 ?_
  refine tk_callS1z dX10_like_1 kX10_123 (c_isSentence s) (Nat.le_of_ble_eq_true rfl) (by omega) ?_
  first | refine tk_jf_eqB dX10_like_4 (fun h4 => ?_) (fun h4 => ?_) | refine tk_if_eq dX10_like_4 (fun h4 => ?_) (fun h4 => ?_)
  · refine tk_aload0 dX10_like_14 ?_
    refine tk_ldc dX10_like_15 klX10_65 ?_
    refine tk_callV1z dX10_like_17 kX10_66 (by first | assumption | exact va_up_self _ _ _ | exact (va_up_ne _ _ (by omega)).trans (by assumption) | exact congrArg Prod.fst (va_up_self _ _ _) | exact (congrArg Prod.fst (va_up_ne _ _ (by omega))).trans (by assumption) | exact (congrFun (va_up_ne _ _ (by omega)) _).trans (by assumption) | exact (va_up_ne _ _ (by omega)).trans (va_up_self _ _ _) | exact (va_up_ne _ _ (by omega)).trans ((va_up_ne _ _ (by omega)).trans (by assumption)) | exact (congrArg Prod.fst ((va_up_ne _ _ (by omega)).trans (va_up_ne _ _ (by omega)))).trans (by assumption) | exact (congrFun ((va_up_ne _ _ (by omega)).trans (va_up_ne _ _ (by omega))) _).trans (by assumption) | (rw [va_up_self, va_up_ne _ _ (by omega)]; assumption)) (c_finding hk _) (Nat.le_of_ble_eq_true rfl) (by omega) ?_
    refine tk_ireturn dX10_like_20 rfl ?_
    exact cPst_f (by simp [rLkC, *]) hR cKp.rf
  · refine tk_iload2 dX10_like_7 ?_
    refine tk_callS1z dX10_like_8 kX10_123 (c_isSentence t) (Nat.le_of_ble_eq_true rfl) (by omega) ?_
    first | refine tk_jf_neB dX10_like_11 (fun h11 => ?_) (fun h11 => ?_) | refine tk_if_ne dX10_like_11 (fun h11 => ?_) (fun h11 => ?_)
    · refine tk_aload0 dX10_like_21 ?_
      obtain ⟨s', hs', rfl⟩ := rIn_of h4 (by omega)
      obtain ⟨t', ht', rfl⟩ := rIn_of h11 (by omega)
      have hix : ix (nI s') = s' := ix_nI (by omega)
      have hiy : ix (nI t') = t' := ix_nI (by omega)
      obtain ⟨ra, l, q1, q2, q3, q4, q5, q6, q7, q8⟩ := sen_row hse (show s' < 6 by omega)
      obtain ⟨rb, lb, y1, y2, y3, y4, y5, y6, y7, y8⟩ := sen_row hse (show t' < 6 by omega)
      refine tk_iload1 dX10_like_22 ?_
      refine tk_callV1z dX10_like_23 kX10_276 (by first | assumption | exact va_up_self _ _ _ | exact (va_up_ne _ _ (by omega)).trans (by assumption) | exact congrArg Prod.fst (va_up_self _ _ _) | exact (congrArg Prod.fst (va_up_ne _ _ (by omega))).trans (by assumption) | exact (congrFun (va_up_ne _ _ (by omega)) _).trans (by assumption) | exact (va_up_ne _ _ (by omega)).trans (va_up_self _ _ _) | exact (va_up_ne _ _ (by omega)).trans ((va_up_ne _ _ (by omega)).trans (by assumption)) | exact (congrArg Prod.fst ((va_up_ne _ _ (by omega)).trans (va_up_ne _ _ (by omega)))).trans (by assumption) | exact (congrFun ((va_up_ne _ _ (by omega)).trans (va_up_ne _ _ (by omega))) _).trans (by assumption) | (rw [va_up_self, va_up_ne _ _ (by omega)]; assumption)) (k_isRight hN' (show s' < 6 by omega)) (Nat.le_of_ble_eq_true rfl) (by omega) ?_
      first | refine tk_jf_eqB dX10_like_26 (fun h26 => ?_) (fun h26 => ?_) | refine tk_if_eq dX10_like_26 (fun h26 => ?_) (fun h26 => ?_)
      · refine tk_aload0 dX10_like_37 ?_
        refine tk_ldc dX10_like_38 klX10_175 ?_
        refine tk_callV1z dX10_like_40 kX10_66 (by first | assumption | exact va_up_self _ _ _ | exact (va_up_ne _ _ (by omega)).trans (by assumption) | exact congrArg Prod.fst (va_up_self _ _ _) | exact (congrArg Prod.fst (va_up_ne _ _ (by omega))).trans (by assumption) | exact (congrFun (va_up_ne _ _ (by omega)) _).trans (by assumption) | exact (va_up_ne _ _ (by omega)).trans (va_up_self _ _ _) | exact (va_up_ne _ _ (by omega)).trans ((va_up_ne _ _ (by omega)).trans (by assumption)) | exact (congrArg Prod.fst ((va_up_ne _ _ (by omega)).trans (va_up_ne _ _ (by omega)))).trans (by assumption) | exact (congrFun ((va_up_ne _ _ (by omega)).trans (va_up_ne _ _ (by omega))) _).trans (by assumption) | (rw [va_up_self, va_up_ne _ _ (by omega)]; assumption)) (c_finding hk _) (Nat.le_of_ble_eq_true rfl) (by omega) ?_
        refine tk_ireturn dX10_like_43 rfl ?_
        exact cPst_f (by simp [rLkC, *]) hR cKp.rf
      · refine tk_aload0 dX10_like_29 ?_
        refine tk_iload2 dX10_like_30 ?_
        refine tk_callV1z dX10_like_31 kX10_276 (by first | assumption | exact va_up_self _ _ _ | exact (va_up_ne _ _ (by omega)).trans (by assumption) | exact congrArg Prod.fst (va_up_self _ _ _) | exact (congrArg Prod.fst (va_up_ne _ _ (by omega))).trans (by assumption) | exact (congrFun (va_up_ne _ _ (by omega)) _).trans (by assumption) | exact (va_up_ne _ _ (by omega)).trans (va_up_self _ _ _) | exact (va_up_ne _ _ (by omega)).trans ((va_up_ne _ _ (by omega)).trans (by assumption)) | exact (congrArg Prod.fst ((va_up_ne _ _ (by omega)).trans (va_up_ne _ _ (by omega)))).trans (by assumption) | exact (congrFun ((va_up_ne _ _ (by omega)).trans (va_up_ne _ _ (by omega))) _).trans (by assumption) | (rw [va_up_self, va_up_ne _ _ (by omega)]; assumption)) (k_isRight hN' (show t' < 6 by omega)) (Nat.le_of_ble_eq_true rfl) (by omega) ?_
        first | refine tk_jf_neB dX10_like_34 (fun h34 => ?_) (fun h34 => ?_) | refine tk_if_ne dX10_like_34 (fun h34 => ?_) (fun h34 => ?_)
        · refine tk_aload0 dX10_like_44 ?_
          refine tk_aload0 dX10_like_45 ?_
          refine tk_getP dX10_like_46 fX10_13 rfl (by first | assumption | exact va_up_self _ _ _ | exact (va_up_ne _ _ (by omega)).trans (by assumption) | exact congrArg Prod.fst (va_up_self _ _ _) | exact (congrArg Prod.fst (va_up_ne _ _ (by omega))).trans (by assumption) | exact (congrFun (va_up_ne _ _ (by omega)) _).trans (by assumption) | exact (va_up_ne _ _ (by omega)).trans (va_up_self _ _ _) | exact (va_up_ne _ _ (by omega)).trans ((va_up_ne _ _ (by omega)).trans (by assumption)) | exact (congrArg Prod.fst ((va_up_ne _ _ (by omega)).trans (va_up_ne _ _ (by omega)))).trans (by assumption) | exact (congrFun ((va_up_ne _ _ (by omega)).trans (va_up_ne _ _ (by omega))) _).trans (by assumption) | (rw [va_up_self, va_up_ne _ _ (by omega)]; assumption)) (by first | assumption | exact va_up_self _ _ _ | exact (va_up_ne _ _ (by omega)).trans (by assumption) | exact congrArg Prod.fst (va_up_self _ _ _) | exact (congrArg Prod.fst (va_up_ne _ _ (by omega))).trans (by assumption) | exact (congrFun (va_up_ne _ _ (by omega)) _).trans (by assumption) | exact (va_up_ne _ _ (by omega)).trans (va_up_self _ _ _) | exact (va_up_ne _ _ (by omega)).trans ((va_up_ne _ _ (by omega)).trans (by assumption)) | exact (congrArg Prod.fst ((va_up_ne _ _ (by omega)).trans (va_up_ne _ _ (by omega)))).trans (by assumption) | exact (congrFun ((va_up_ne _ _ (by omega)).trans (va_up_ne _ _ (by omega))) _).trans (by assumption) | (rw [va_up_self, va_up_ne _ _ (by omega)]; assumption)) ?_
          refine tk_getP dX10_like_49 fX10_131 rfl (by first | assumption | exact va_up_self _ _ _ | exact (va_up_ne _ _ (by omega)).trans (by assumption) | exact congrArg Prod.fst (va_up_self _ _ _) | exact (congrArg Prod.fst (va_up_ne _ _ (by omega))).trans (by assumption) | exact (congrFun (va_up_ne _ _ (by omega)) _).trans (by assumption) | exact (va_up_ne _ _ (by omega)).trans (va_up_self _ _ _) | exact (va_up_ne _ _ (by omega)).trans ((va_up_ne _ _ (by omega)).trans (by assumption)) | exact (congrArg Prod.fst ((va_up_ne _ _ (by omega)).trans (va_up_ne _ _ (by omega)))).trans (by assumption) | exact (congrFun ((va_up_ne _ _ (by omega)).trans (va_up_ne _ _ (by omega))) _).trans (by assumption) | (rw [va_up_self, va_up_ne _ _ (by omega)]; assumption)) (by first | assumption | exact va_up_self _ _ _ | exact (va_up_ne _ _ (by omega)).trans (by assumption) | exact congrArg Prod.fst (va_up_self _ _ _) | exact (congrArg Prod.fst (va_up_ne _ _ (by omega))).trans (by assumption) | exact (congrFun (va_up_ne _ _ (by omega)) _).trans (by assumption) | exact (va_up_ne _ _ (by omega)).trans (va_up_self _ _ _) | exact (va_up_ne _ _ (by omega)).trans ((va_up_ne _ _ (by omega)).trans (by assumption)) | exact (congrArg Prod.fst ((va_up_ne _ _ (by omega)).trans (va_up_ne _ _ (by omega)))).trans (by assumption) | exact (congrFun ((va_up_ne _ _ (by omega)).trans (va_up_ne _ _ (by omega))) _).trans (by assumption) | (rw [va_up_self, va_up_ne _ _ (by omega)]; assumption)) ?_
          refine tk_iload1 dX10_like_52 ?_
          refine tk_aald dX10_like_53 (by first | assumption | exact va_up_self _ _ _ | exact (va_up_ne _ _ (by omega)).trans (by assumption) | exact congrArg Prod.fst (va_up_self _ _ _) | exact (congrArg Prod.fst (va_up_ne _ _ (by omega))).trans (by assumption) | exact (congrFun (va_up_ne _ _ (by omega)) _).trans (by assumption) | exact (va_up_ne _ _ (by omega)).trans (va_up_self _ _ _) | exact (va_up_ne _ _ (by omega)).trans ((va_up_ne _ _ (by omega)).trans (by assumption)) | exact (congrArg Prod.fst ((va_up_ne _ _ (by omega)).trans (va_up_ne _ _ (by omega)))).trans (by assumption) | exact (congrFun ((va_up_ne _ _ (by omega)).trans (va_up_ne _ _ (by omega))) _).trans (by assumption) | (rw [va_up_self, va_up_ne _ _ (by omega)]; assumption)) (by omega) (by omega) (by omega) (by first | assumption | exact va_up_self _ _ _ | exact (va_up_ne _ _ (by omega)).trans (by assumption) | exact congrArg Prod.fst (va_up_self _ _ _) | exact (congrArg Prod.fst (va_up_ne _ _ (by omega))).trans (by assumption) | exact (congrFun (va_up_ne _ _ (by omega)) _).trans (by assumption) | exact (va_up_ne _ _ (by omega)).trans (va_up_self _ _ _) | exact (va_up_ne _ _ (by omega)).trans ((va_up_ne _ _ (by omega)).trans (by assumption)) | exact (congrArg Prod.fst ((va_up_ne _ _ (by omega)).trans (va_up_ne _ _ (by omega)))).trans (by assumption) | exact (congrFun ((va_up_ne _ _ (by omega)).trans (va_up_ne _ _ (by omega))) _).trans (by assumption) | (rw [va_up_self, va_up_ne _ _ (by omega)]; assumption)) ?_
          refine tk_callV1q dX10_like_54 kX10_211 (by first | assumption | exact va_up_self _ _ _ | exact (va_up_ne _ _ (by omega)).trans (by assumption) | exact congrArg Prod.fst (va_up_self _ _ _) | exact (congrArg Prod.fst (va_up_ne _ _ (by omega))).trans (by assumption) | exact (congrFun (va_up_ne _ _ (by omega)) _).trans (by assumption) | exact (va_up_ne _ _ (by omega)).trans (va_up_self _ _ _) | exact (va_up_ne _ _ (by omega)).trans ((va_up_ne _ _ (by omega)).trans (by assumption)) | exact (congrArg Prod.fst ((va_up_ne _ _ (by omega)).trans (va_up_ne _ _ (by omega)))).trans (by assumption) | exact (congrFun ((va_up_ne _ _ (by omega)).trans (va_up_ne _ _ (by omega))) _).trans (by assumption) | (rw [va_up_self, va_up_ne _ _ (by omega)]; assumption)) (k_soAt hN' ht hpc hp (show s' < 6 by omega) h26 q4 q5 q8) (Nat.le_of_ble_eq_true rfl) (by omega) ?_
          rintro rr hh1 hq
          obtain ⟨L', rfl, rfl, m1⟩ := soq_sa hN' (show s' < 6 by omega) h26 q4 q5 hq
          dsimp only [Option.toList, List.singleton_append]
          have st := look_st (n := n) (wa := wa) (ca := ca) (ga := ga) hsc m1
          have hN2 := hN'.st st
          have ht2 := ht.ex ftw st.ex
          have hpc2 := hpc.ex st.ex
          have hp2 : pObj T (lkPp P 25 wa ca ga) pic wa ca ga := by have := (st.ex.2 pic fpi).2.2.2; unfold pObj; rw [this]; exact hp
          have y8' := y8.ex st.ex
          have k02 := hN2.2.1.1
          have n1 := hN2.2.1.2.1
          have n2 := ht2.2.2.2.2.1
          have n3 : lkPp P 25 wa ca ga se t' = some rb := by rw [(st.ex.2 se hse.1).2.2.2]; exact y1
          refine tk_aload0 dX10_like_57 ?_
          refine tk_aload0 dX10_like_58 ?_
          refine tk_getP dX10_like_59 fX10_13 rfl (by first | assumption | exact va_up_self _ _ _ | exact (va_up_ne _ _ (by omega)).trans (by assumption) | exact congrArg Prod.fst (va_up_self _ _ _) | exact (congrArg Prod.fst (va_up_ne _ _ (by omega))).trans (by assumption) | exact (congrFun (va_up_ne _ _ (by omega)) _).trans (by assumption) | exact (va_up_ne _ _ (by omega)).trans (va_up_self _ _ _) | exact (va_up_ne _ _ (by omega)).trans ((va_up_ne _ _ (by omega)).trans (by assumption)) | exact (congrArg Prod.fst ((va_up_ne _ _ (by omega)).trans (va_up_ne _ _ (by omega)))).trans (by assumption) | exact (congrFun ((va_up_ne _ _ (by omega)).trans (va_up_ne _ _ (by omega))) _).trans (by assumption) | (rw [va_up_self, va_up_ne _ _ (by omega)]; assumption)) (by first | assumption | exact va_up_self _ _ _ | exact (va_up_ne _ _ (by omega)).trans (by assumption) | exact congrArg Prod.fst (va_up_self _ _ _) | exact (congrArg Prod.fst (va_up_ne _ _ (by omega))).trans (by assumption) | exact (congrFun (va_up_ne _ _ (by omega)) _).trans (by assumption) | exact (va_up_ne _ _ (by omega)).trans (va_up_self _ _ _) | exact (va_up_ne _ _ (by omega)).trans ((va_up_ne _ _ (by omega)).trans (by assumption)) | exact (congrArg Prod.fst ((va_up_ne _ _ (by omega)).trans (va_up_ne _ _ (by omega)))).trans (by assumption) | exact (congrFun ((va_up_ne _ _ (by omega)).trans (va_up_ne _ _ (by omega))) _).trans (by assumption) | (rw [va_up_self, va_up_ne _ _ (by omega)]; assumption)) ?_
          refine tk_getP dX10_like_62 fX10_131 rfl (by first | assumption | exact va_up_self _ _ _ | exact (va_up_ne _ _ (by omega)).trans (by assumption) | exact congrArg Prod.fst (va_up_self _ _ _) | exact (congrArg Prod.fst (va_up_ne _ _ (by omega))).trans (by assumption) | exact (congrFun (va_up_ne _ _ (by omega)) _).trans (by assumption) | exact (va_up_ne _ _ (by omega)).trans (va_up_self _ _ _) | exact (va_up_ne _ _ (by omega)).trans ((va_up_ne _ _ (by omega)).trans (by assumption)) | exact (congrArg Prod.fst ((va_up_ne _ _ (by omega)).trans (va_up_ne _ _ (by omega)))).trans (by assumption) | exact (congrFun ((va_up_ne _ _ (by omega)).trans (va_up_ne _ _ (by omega))) _).trans (by assumption) | (rw [va_up_self, va_up_ne _ _ (by omega)]; assumption)) (by first | assumption | exact va_up_self _ _ _ | exact (va_up_ne _ _ (by omega)).trans (by assumption) | exact congrArg Prod.fst (va_up_self _ _ _) | exact (congrArg Prod.fst (va_up_ne _ _ (by omega))).trans (by assumption) | exact (congrFun (va_up_ne _ _ (by omega)) _).trans (by assumption) | exact (va_up_ne _ _ (by omega)).trans (va_up_self _ _ _) | exact (va_up_ne _ _ (by omega)).trans ((va_up_ne _ _ (by omega)).trans (by assumption)) | exact (congrArg Prod.fst ((va_up_ne _ _ (by omega)).trans (va_up_ne _ _ (by omega)))).trans (by assumption) | exact (congrFun ((va_up_ne _ _ (by omega)).trans (va_up_ne _ _ (by omega))) _).trans (by assumption) | (rw [va_up_self, va_up_ne _ _ (by omega)]; assumption)) ?_
          refine tk_iload2 dX10_like_65 ?_
          refine tk_aald dX10_like_66 (by first | assumption | exact va_up_self _ _ _ | exact (va_up_ne _ _ (by omega)).trans (by assumption) | exact congrArg Prod.fst (va_up_self _ _ _) | exact (congrArg Prod.fst (va_up_ne _ _ (by omega))).trans (by assumption) | exact (congrFun (va_up_ne _ _ (by omega)) _).trans (by assumption) | exact (va_up_ne _ _ (by omega)).trans (va_up_self _ _ _) | exact (va_up_ne _ _ (by omega)).trans ((va_up_ne _ _ (by omega)).trans (by assumption)) | exact (congrArg Prod.fst ((va_up_ne _ _ (by omega)).trans (va_up_ne _ _ (by omega)))).trans (by assumption) | exact (congrFun ((va_up_ne _ _ (by omega)).trans (va_up_ne _ _ (by omega))) _).trans (by assumption) | (rw [va_up_self, va_up_ne _ _ (by omega)]; assumption)) (by omega) (by omega) (by omega) (by first | assumption | exact va_up_self _ _ _ | exact (va_up_ne _ _ (by omega)).trans (by assumption) | exact congrArg Prod.fst (va_up_self _ _ _) | exact (congrArg Prod.fst (va_up_ne _ _ (by omega))).trans (by assumption) | exact (congrFun (va_up_ne _ _ (by omega)) _).trans (by assumption) | exact (va_up_ne _ _ (by omega)).trans (va_up_self _ _ _) | exact (va_up_ne _ _ (by omega)).trans ((va_up_ne _ _ (by omega)).trans (by assumption)) | exact (congrArg Prod.fst ((va_up_ne _ _ (by omega)).trans (va_up_ne _ _ (by omega)))).trans (by assumption) | exact (congrFun ((va_up_ne _ _ (by omega)).trans (va_up_ne _ _ (by omega))) _).trans (by assumption) | (rw [va_up_self, va_up_ne _ _ (by omega)]; assumption)) ?_
          refine tk_callV1q dX10_like_67 kX10_211 (by first | assumption | exact va_up_self _ _ _ | exact (va_up_ne _ _ (by omega)).trans (by assumption) | exact congrArg Prod.fst (va_up_self _ _ _) | exact (congrArg Prod.fst (va_up_ne _ _ (by omega))).trans (by assumption) | exact (congrFun (va_up_ne _ _ (by omega)) _).trans (by assumption) | exact (va_up_ne _ _ (by omega)).trans (va_up_self _ _ _) | exact (va_up_ne _ _ (by omega)).trans ((va_up_ne _ _ (by omega)).trans (by assumption)) | exact (congrArg Prod.fst ((va_up_ne _ _ (by omega)).trans (va_up_ne _ _ (by omega)))).trans (by assumption) | exact (congrFun ((va_up_ne _ _ (by omega)).trans (va_up_ne _ _ (by omega))) _).trans (by assumption) | (rw [va_up_self, va_up_ne _ _ (by omega)]; assumption)) (k_soAt hN2 ht2 hpc2 hp2 (show t' < 6 by omega) h34 y4 y5 y8') (Nat.le_of_ble_eq_true rfl) (by omega) ?_
          rintro rr hh1 hq
          obtain ⟨L2, rfl, rfl, m2⟩ := soq_sa hN2 (show t' < 6 by omega) h34 y4 y5 hq
          dsimp only [Option.toList, List.singleton_append]
          have st2 := st.tr (look_st (n := n) (wa := wa) (ca := ca) (ga := ga) st.2.2 m2)
          refine tk_lcmp dX10_like_70 ?_
          first | refine tk_jf_neB dX10_like_71 (fun h71 => ?_) (fun h71 => ?_) | refine tk_if_ne dX10_like_71 (fun h71 => ?_) (fun h71 => ?_)
          · refine tk_iconst dX10_like_78 kc_iconst_0 ?_
            refine tk_ireturn dX10_like_79 rfl ?_
            refine cPst_g (by simp [rLkC, *]) ?_ (hR.st st2) (st2.kp hn) jSm.rf
            rw [hix, hiy]
            first
              | rw [decide_eq_true ((lgc0 _ _).mp h71)]; rfl
              | rw [decide_eq_false (fun z => h71 ((lgc0 _ _).mpr z))]; rfl
          · refine tk_iconst dX10_like_74 kc_iconst_1 ?_
            refine tk_goto dX10_like_75 ?_
            refine tk_ireturn dX10_like_79 rfl ?_
            refine cPst_g (by simp [rLkC, *]) ?_ (hR.st st2) (st2.kp hn) jSm.rf
            rw [hix, hiy]
            first
              | rw [decide_eq_true ((lgc0 _ _).mp h71)]; rfl
              | rw [decide_eq_false (fun z => h71 ((lgc0 _ _).mpr z))]; rfl
        · refine tk_aload0 dX10_like_37 ?_
          refine tk_ldc dX10_like_38 klX10_175 ?_
          refine tk_callV1z dX10_like_40 kX10_66 (by first | assumption | exact va_up_self _ _ _ | exact (va_up_ne _ _ (by omega)).trans (by assumption) | exact congrArg Prod.fst (va_up_self _ _ _) | exact (congrArg Prod.fst (va_up_ne _ _ (by omega))).trans (by assumption) | exact (congrFun (va_up_ne _ _ (by omega)) _).trans (by assumption) | exact (va_up_ne _ _ (by omega)).trans (va_up_self _ _ _) | exact (va_up_ne _ _ (by omega)).trans ((va_up_ne _ _ (by omega)).trans (by assumption)) | exact (congrArg Prod.fst ((va_up_ne _ _ (by omega)).trans (va_up_ne _ _ (by omega)))).trans (by assumption) | exact (congrFun ((va_up_ne _ _ (by omega)).trans (va_up_ne _ _ (by omega))) _).trans (by assumption) | (rw [va_up_self, va_up_ne _ _ (by omega)]; assumption)) (c_finding hk _) (Nat.le_of_ble_eq_true rfl) (by omega) ?_
          refine tk_ireturn dX10_like_43 rfl ?_
          exact cPst_f (by simp [rLkC, *]) hR cKp.rf
    · refine tk_aload0 dX10_like_14 ?_
      refine tk_ldc dX10_like_15 klX10_65 ?_
      refine tk_callV1z dX10_like_17 kX10_66 (by first | assumption | exact va_up_self _ _ _ | exact (va_up_ne _ _ (by omega)).trans (by assumption) | exact congrArg Prod.fst (va_up_self _ _ _) | exact (congrArg Prod.fst (va_up_ne _ _ (by omega))).trans (by assumption) | exact (congrFun (va_up_ne _ _ (by omega)) _).trans (by assumption) | exact (va_up_ne _ _ (by omega)).trans (va_up_self _ _ _) | exact (va_up_ne _ _ (by omega)).trans ((va_up_ne _ _ (by omega)).trans (by assumption)) | exact (congrArg Prod.fst ((va_up_ne _ _ (by omega)).trans (va_up_ne _ _ (by omega)))).trans (by assumption) | exact (congrFun ((va_up_ne _ _ (by omega)).trans (va_up_ne _ _ (by omega))) _).trans (by assumption) | (rw [va_up_self, va_up_ne _ _ (by omega)]; assumption)) (c_finding hk _) (Nat.le_of_ble_eq_true rfl) (by omega) ?_
      refine tk_ireturn dX10_like_20 rfl ?_
      exact cPst_f (by simp [rLkC, *]) hR cKp.rf
end HOLDS
