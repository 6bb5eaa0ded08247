/-! ===== the reference: plain calls, one contract each ===== -/
def ix (s : Int32) : Nat := s.toNatClampNeg
theorem ix_nI {k : Nat} (h : k < 2 ^ 31) : ix (nI k) = k := nI_clamp h
def rPst (n : Nat) (T : Nat → Nat × Nat) (I : Nat → Nat → Int32) (L : Nat → Nat → Int64) (P : Nat → Nat → Option Nat) (c : Option Int32) (v : Int32) (I' : Nat → Nat → Int32) : Option tkV → tkH → Prop := match c with
  | some f => tkF (some (vI f)) (n, T, rFnd I, L, P)
  | none => tkF (some (vI v)) (n, T, I', L, P)
theorem rPst_f {n : Nat} {T : Nat → Nat × Nat} {I : Nat → Nat → Int32} {L : Nat → Nat → Int64} {P : Nat → Nat → Option Nat} {c : Option Int32} {v f : Int32} {I' : Nat → Nat → Int32} (h : c = some f) : rPst n T I L P c v I' (some (vI f)) (n, T, rFnd I, L, P) := by subst h; exact ⟨rfl, rfl⟩
theorem rPst_g {n : Nat} {T : Nat → Nat × Nat} {I : Nat → Nat → Int32} {L : Nat → Nat → Int64} {P : Nat → Nat → Option Nat} {c : Option Int32} {v v' : Int32} {I' I2 : Nat → Nat → Int32} (h : c = none) (hv : v' = v) (hI : I2 = I') : rPst n T I L P c v I' (some (vI v')) (n, T, I2, L, P) := by subst h; subst hv; subst hI; exact ⟨rfl, rfl⟩
theorem rIn_of {v : Int32} {hi : Nat} (h : rIn v (nI 0) (nI hi) = true) (hh : hi < 2 ^ 31) : ∃ k, k ≤ hi ∧ v = nI k := by
  unfold rIn at h
  simp only [Bool.and_eq_true, decide_eq_true_eq] at h
  obtain ⟨j, hj, rfl⟩ := nI_of (x := v) (by have := h.1; rw [Int32.not_lt]; exact this)
  exact ⟨j, (nI_leI hj hh).mp h.2, rfl⟩
theorem rPe_of {v N : Int32} {k : Nat} (h : rPer N v = true) (hN : N = nI k) (hk : k < 2 ^ 31) : ∃ j, j < k ∧ v = nI j := by
  unfold rPer at h
  simp only [Bool.and_eq_true, decide_eq_true_eq] at h
  obtain ⟨j, hj, rfl⟩ := nI_of (x := v) (by rw [Int32.not_lt]; exact h.1)
  subst hN
  exact ⟨j, (nI_ltI hj hk).mp h.2, rfl⟩
theorem rKp_at {I : Nat → Nat → Int32} {m a : Nat} (h1 : ¬ a = 40) (h2 : ¬ a = 60) : rKp I m a = I a := by
  unfold rKp
  split
  · rw [va_up_ne _ _ h2, va_up_ne _ _ h1]
  · rw [va_up_ne _ _ h2, va_up_ne _ _ h1]
section REFE
variable {G : tkG} {n : Nat} {T : Nat → Nat × Nat} {I : Nat → Nat → Int32} {L : Nat → Nat → Int64} {P : Nat → Nat → Option Nat}
def rBeC (a b r : Int32) : Option Int32 := if rIn a (nI 1) (nI 4) && (rIn b (nI 1) (nI 4) && rIn r (nI 0) (kshl (nI 1) b - nI 1)) then none else some (-100001)
theorem rIn_of1 {v : Int32} {lo hi : Nat} (h : rIn v (nI lo) (nI hi) = true) (hl : lo < 2 ^ 31) (hh : hi < 2 ^ 31) : ∃ k, lo ≤ k ∧ k ≤ hi ∧ v = nI k := by
  unfold rIn at h
  simp only [Bool.and_eq_true, decide_eq_true_eq] at h
  obtain ⟨j, hj, rfl⟩ := nI_of (x := v) (by have := h.1; rw [Int32.not_lt]; exact Int32.le_trans (nI_pos' hl) this)
  exact ⟨j, (nI_leI hl hj).mp h.1, (nI_leI hj hh).mp h.2, rfl⟩
theorem r_begin (hR : tkRef T P) {m : Nat} (hm : m ≤ 12) (hk : I 40 20 = nI m) (a b r : Int32) : tkM G mX11_begin 3 0 0 [vR 40, vI a, vI b, vI r] (n, T, I, L, P) (rPst n T I L P (rBeC a b r) (nI (2 ^ ix b)) (rBeg (rKp I m) a b r (2 ^ ix b))) := by
  refine tkM.of (ls := [some _, some _, some _, some _]) (by decide +kernel) (by decide +kernel) (Nat.le_of_ble_eq_true rfl) rfl ?_
  refine tk_iload1 dX11_begin_0 ?_
  refine tk_iconst dX11_begin_1 kc_iconst_1 ?_
  refine tk_iconst dX11_begin_2 kc_iconst_4 ?_
  refine tk_callS3z dX11_begin_3 kX11_159 (r_isIn _ _ _) (Nat.le_of_ble_eq_true rfl) (by omega) ?_
  first | refine tk_jf_eqB dX11_begin_6 (fun h6 => ?_) (fun h6 => ?_) | refine tk_if_eq dX11_begin_6 (fun h6 => ?_) (fun h6 => ?_)
  · refine tk_aload0 dX11_begin_31 ?_
    refine tk_ldc dX11_begin_32 klX11_183 ?_
    refine tk_callV1z dX11_begin_34 kX11_179 hR.o (r_finding hR _) (Nat.le_of_ble_eq_true rfl) (by omega) ?_
    refine tk_ireturn dX11_begin_37 rfl ?_
    first | exact rPst_f (by simp [rBeC, *]) | exact rPst_g (by simp [rBeC, *]) (by rw [hix]; simp only [rBeg, rAl7, va_up_self, bx_uu, tk_une, tk_usrt, not_false_eq_true, Nat.reduceEqDiff, Nat.reduceLT, Nat.reduceAdd, Nat.reduceMul, Nat.reduceLeDiff, reduceCtorEq]) (by rw [hix])
  · refine tk_iload2 dX11_begin_9 ?_
    refine tk_iconst dX11_begin_10 kc_iconst_1 ?_
    refine tk_iconst dX11_begin_11 kc_iconst_4 ?_
    refine tk_callS3z dX11_begin_12 kX11_159 (r_isIn _ _ _) (Nat.le_of_ble_eq_true rfl) (by omega) ?_
    first | refine tk_jf_eqB dX11_begin_15 (fun h15 => ?_) (fun h15 => ?_) | refine tk_if_eq dX11_begin_15 (fun h15 => ?_) (fun h15 => ?_)
    · refine tk_aload0 dX11_begin_31 ?_
      refine tk_ldc dX11_begin_32 klX11_183 ?_
      refine tk_callV1z dX11_begin_34 kX11_179 hR.o (r_finding hR _) (Nat.le_of_ble_eq_true rfl) (by omega) ?_
      refine tk_ireturn dX11_begin_37 rfl ?_
      first | exact rPst_f (by simp [rBeC, *]) | exact rPst_g (by simp [rBeC, *]) (by rw [hix]; simp only [rBeg, rAl7, va_up_self, bx_uu, tk_une, tk_usrt, not_false_eq_true, Nat.reduceEqDiff, Nat.reduceLT, Nat.reduceAdd, Nat.reduceMul, Nat.reduceLeDiff, reduceCtorEq]) (by rw [hix])
    · refine tk_iload3 dX11_begin_18 ?_
      refine tk_iconst dX11_begin_19 kc_iconst_0 ?_
      refine tk_iconst dX11_begin_20 kc_iconst_1 ?_
      refine tk_iload2 dX11_begin_21 ?_
      refine tk_ishl dX11_begin_22 ?_
      refine tk_iconst dX11_begin_23 kc_iconst_1 ?_
      first | refine tk_isubN dX11_begin_24 (by omega) ?_ | refine tk_isub dX11_begin_24 ?_
      refine tk_callS3z dX11_begin_25 kX11_159 (r_isIn _ _ _) (Nat.le_of_ble_eq_true rfl) (by omega) ?_
      first | refine tk_jf_neB dX11_begin_28 (fun h28 => ?_) (fun h28 => ?_) | refine tk_if_ne dX11_begin_28 (fun h28 => ?_) (fun h28 => ?_)
      · refine tk_aload0 dX11_begin_38 ?_
        obtain ⟨b', hb1, hb2, rfl⟩ := rIn_of1 h15 (by omega) (by omega)
        have hix : ix (nI b') = b' := ix_nI (by omega)
        refine tk_callV0y dX11_begin_39 kX11_184 hR.o (r_keep hR hm hk) (Nat.le_of_ble_eq_true rfl) (by omega) ?_
        refine tk_aload0 dX11_begin_42 ?_
        refine tk_iload1 dX11_begin_43 ?_
        refine tk_iload2 dX11_begin_44 ?_
        refine tk_iload3 dX11_begin_45 ?_
        refine tk_callV3y dX11_begin_46 kX11_151 hR.o (r_begins hR _ _ (by omega)) (Nat.le_of_ble_eq_true rfl) (by omega) ?_
        refine tk_aload0 dX11_begin_49 ?_
        refine tk_getP dX11_begin_50 fX11_7 rfl hR.o (hR.p 0 rfl) ?_
        refine tk_iconst dX11_begin_53 kc_iconst_2 ?_
        refine tk_iald dX11_begin_54 (hR.t 41 rfl) (by omega) (by omega) ?_
        refine tk_ireturn dX11_begin_55 rfl ?_
        first | exact rPst_f (by simp [rBeC, *]) | exact rPst_g (by simp [rBeC, *]) (by rw [hix]; simp only [rBeg, rAl7, va_up_self, bx_uu, tk_une, tk_usrt, not_false_eq_true, Nat.reduceEqDiff, Nat.reduceLT, Nat.reduceAdd, Nat.reduceMul, Nat.reduceLeDiff, reduceCtorEq]) (by rw [hix])
      · refine tk_aload0 dX11_begin_31 ?_
        refine tk_ldc dX11_begin_32 klX11_183 ?_
        refine tk_callV1z dX11_begin_34 kX11_179 hR.o (r_finding hR _) (Nat.le_of_ble_eq_true rfl) (by omega) ?_
        refine tk_ireturn dX11_begin_37 rfl ?_
        first | exact rPst_f (by simp [rBeC, *]) | exact rPst_g (by simp [rBeC, *]) (by rw [hix]; simp only [rBeg, rAl7, va_up_self, bx_uu, tk_une, tk_usrt, not_false_eq_true, Nat.reduceEqDiff, Nat.reduceLT, Nat.reduceAdd, Nat.reduceMul, Nat.reduceLeDiff, reduceCtorEq]) (by rw [hix])
def rGoC (I : Nat → Nat → Int32) (p s : Int32) : Option Int32 := if rPer (I 41 0) p && rIn s (nI 0) (nI 3) then none else some (-100001)
theorem r_go (hR : tkRef T P) {m np : Nat} (hm : m ≤ 12) (hk : I 40 20 = nI m) (hnp : I 41 0 = nI np) (hnp4 : np ≤ 4) (p s : Int32) : tkM G mX11_go 3 0 0 [vR 40, vI p, vI s] (n, T, I, L, P) (rPst n T I L P (rGoC I p s) (I 44 (ix p)) (va_up (rKp I m) 44 (va_up (I 44) (ix p) s))) := by
  refine tkM.of (ls := [some _, some _, some _, none]) (by decide +kernel) (by decide +kernel) (Nat.le_of_ble_eq_true rfl) rfl ?_
  refine tk_aload0 dX11_go_0 ?_
  refine tk_iload1 dX11_go_1 ?_
  refine tk_callV1z dX11_go_2 kX11_187 hR.o (r_isPerson hR _) (Nat.le_of_ble_eq_true rfl) (by omega) ?_
  first | refine tk_jf_eqB dX11_go_5 (fun h5 => ?_) (fun h5 => ?_) | refine tk_if_eq dX11_go_5 (fun h5 => ?_) (fun h5 => ?_)
  · refine tk_aload0 dX11_go_17 ?_
    refine tk_ldc dX11_go_18 klX11_183 ?_
    refine tk_callV1z dX11_go_20 kX11_179 hR.o (r_finding hR _) (Nat.le_of_ble_eq_true rfl) (by omega) ?_
    refine tk_ireturn dX11_go_23 rfl ?_
    first | exact rPst_f (by simp_all [rGoC]) | exact rPst_g (by simp_all [rGoC]) (by rw [hix, rKp_at (by decide) (by decide)]) (by rw [hix, rKp_at (by decide) (by decide)])
  · refine tk_iload2 dX11_go_8 ?_
    refine tk_iconst dX11_go_9 kc_iconst_0 ?_
    refine tk_iconst dX11_go_10 kc_iconst_3 ?_
    refine tk_callS3z dX11_go_11 kX11_159 (r_isIn _ _ _) (Nat.le_of_ble_eq_true rfl) (by omega) ?_
    first | refine tk_jf_neB dX11_go_14 (fun h14 => ?_) (fun h14 => ?_) | refine tk_if_ne dX11_go_14 (fun h14 => ?_) (fun h14 => ?_)
    · refine tk_aload0 dX11_go_24 ?_
      obtain ⟨p', hp1, rfl⟩ := rPe_of h5 hnp (by omega)
      have hix : ix (nI p') = p' := ix_nI (by omega)
      refine tk_callV0y dX11_go_25 kX11_184 hR.o (r_keep hR hm hk) (Nat.le_of_ble_eq_true rfl) (by omega) ?_
      refine tk_aload0 dX11_go_28 ?_
      refine tk_getP dX11_go_29 fX11_19 rfl hR.o (hR.p 3 rfl) ?_
      refine tk_iload1 dX11_go_32 ?_
      refine tk_iald dX11_go_33 (hR.t 44 rfl) (by omega) (by omega) ?_
      refine tk_istore3 dX11_go_34 rfl ?_
      refine tk_aload0 dX11_go_35 ?_
      refine tk_getP dX11_go_36 fX11_19 rfl hR.o (hR.p 3 rfl) ?_
      refine tk_iload1 dX11_go_39 ?_
      refine tk_iload2 dX11_go_40 ?_
      refine tk_iast dX11_go_41 (hR.t 44 rfl) (by omega) (by omega) ?_
      refine tk_iload3 dX11_go_42 ?_
      refine tk_ireturn dX11_go_43 rfl ?_
      first | exact rPst_f (by simp_all [rGoC]) | exact rPst_g (by simp_all [rGoC]) (by rw [hix, rKp_at (by decide) (by decide)]) (by rw [hix, rKp_at (by decide) (by decide)])
    · refine tk_aload0 dX11_go_17 ?_
      refine tk_ldc dX11_go_18 klX11_183 ?_
      refine tk_callV1z dX11_go_20 kX11_179 hR.o (r_finding hR _) (Nat.le_of_ble_eq_true rfl) (by omega) ?_
      refine tk_ireturn dX11_go_23 rfl ?_
      first | exact rPst_f (by simp_all [rGoC]) | exact rPst_g (by simp_all [rGoC]) (by rw [hix, rKp_at (by decide) (by decide)]) (by rw [hix, rKp_at (by decide) (by decide)])
def rGrC (g s : Int32) : Option Int32 := if rIn g (nI 0) (nI 2) && rIn s (nI 0) (nI 15) then none else some (-100001)
theorem r_group (hR : tkRef T P) {m : Nat} (hm : m ≤ 12) (hk : I 40 20 = nI m) (p s : Int32) : tkM G mX11_group 3 0 0 [vR 40, vI p, vI s] (n, T, I, L, P) (rPst n T I L P (rGrC p s) (I 45 (ix p)) (va_up (rKp I m) 45 (va_up (I 45) (ix p) s))) := by
  refine tkM.of (ls := [some _, some _, some _, none]) (by decide +kernel) (by decide +kernel) (Nat.le_of_ble_eq_true rfl) rfl ?_
  refine tk_iload1 dX11_group_0 ?_
  refine tk_callS1z dX11_group_1 kX11_191 (r_isGroup _) (Nat.le_of_ble_eq_true rfl) (by omega) ?_
  first | refine tk_jf_eqB dX11_group_4 (fun h4 => ?_) (fun h4 => ?_) | refine tk_if_eq dX11_group_4 (fun h4 => ?_) (fun h4 => ?_)
  · refine tk_aload0 dX11_group_17 ?_
    refine tk_ldc dX11_group_18 klX11_183 ?_
    refine tk_callV1z dX11_group_20 kX11_179 hR.o (r_finding hR _) (Nat.le_of_ble_eq_true rfl) (by omega) ?_
    refine tk_ireturn dX11_group_23 rfl ?_
    first | exact rPst_f (by simp [rGrC, *]) | exact rPst_g (by simp [rGrC, *]) (by rw [hix, rKp_at (by decide) (by decide)]) (by rw [hix, rKp_at (by decide) (by decide)])
  · refine tk_iload2 dX11_group_7 ?_
    refine tk_iconst dX11_group_8 kc_iconst_0 ?_
    refine tk_bipush dX11_group_9 kc_bipush_15 ?_
    refine tk_callS3z dX11_group_11 kX11_159 (r_isIn _ _ _) (Nat.le_of_ble_eq_true rfl) (by omega) ?_
    first | refine tk_jf_neB dX11_group_14 (fun h14 => ?_) (fun h14 => ?_) | refine tk_if_ne dX11_group_14 (fun h14 => ?_) (fun h14 => ?_)
    · refine tk_aload0 dX11_group_24 ?_
      obtain ⟨p', hp1, rfl⟩ := rIn_of h4 (by omega)
      have hix : ix (nI p') = p' := ix_nI (by omega)
      refine tk_callV0y dX11_group_25 kX11_184 hR.o (r_keep hR hm hk) (Nat.le_of_ble_eq_true rfl) (by omega) ?_
      refine tk_aload0 dX11_group_28 ?_
      refine tk_getP dX11_group_29 fX11_22 rfl hR.o (hR.p 4 rfl) ?_
      refine tk_iload1 dX11_group_32 ?_
      refine tk_iald dX11_group_33 (hR.t 45 rfl) (by omega) (by omega) ?_
      refine tk_istore3 dX11_group_34 rfl ?_
      refine tk_aload0 dX11_group_35 ?_
      refine tk_getP dX11_group_36 fX11_22 rfl hR.o (hR.p 4 rfl) ?_
      refine tk_iload1 dX11_group_39 ?_
      refine tk_iload2 dX11_group_40 ?_
      refine tk_iast dX11_group_41 (hR.t 45 rfl) (by omega) (by omega) ?_
      refine tk_iload3 dX11_group_42 ?_
      refine tk_ireturn dX11_group_43 rfl ?_
      first | exact rPst_f (by simp [rGrC, *]) | exact rPst_g (by simp [rGrC, *]) (by rw [hix, rKp_at (by decide) (by decide)]) (by rw [hix, rKp_at (by decide) (by decide)])
    · refine tk_aload0 dX11_group_17 ?_
      refine tk_ldc dX11_group_18 klX11_183 ?_
      refine tk_callV1z dX11_group_20 kX11_179 hR.o (r_finding hR _) (Nat.le_of_ble_eq_true rfl) (by omega) ?_
      refine tk_ireturn dX11_group_23 rfl ?_
      first | exact rPst_f (by simp [rGrC, *]) | exact rPst_g (by simp [rGrC, *]) (by rw [hix, rKp_at (by decide) (by decide)]) (by rw [hix, rKp_at (by decide) (by decide)])
def rSiC (I : Nat → Nat → Int32) (s v : Int32) : Option Int32 := if rIn s (nI 0) (nI 5) && rSign v then (if I 48 (ix s) = nI 14 then some (-100005) else none) else some (-100001)
theorem r_sign (hR : tkRef T P) {m : Nat} (hm : m ≤ 12) (hk : I 40 20 = nI m) (hl : ∀ s, s < 6 → ∃ l, l ≤ 14 ∧ I 48 s = nI l) (s v : Int32) : tkM G mX11_sign 3 0 0 [vR 40, vI s, vI v] (n, T, I, L, P) (rPst n T I L P (rSiC I s v) (I 48 (ix s) + 1) (va_up (va_up (rKp I m) 47 (va_up (I 47) (14 * ix s + ix (I 48 (ix s))) v)) 48 (va_up (I 48) (ix s) (I 48 (ix s) + 1)))) := by
  refine tkM.of (ls := [some _, some _, some _]) (by decide +kernel) (by decide +kernel) (Nat.le_of_ble_eq_true rfl) rfl ?_
  refine tk_iload1 dX11_sign_0 ?_
  refine tk_callS1z dX11_sign_1 kX11_194 (r_isSentence _) (Nat.le_of_ble_eq_true rfl) (by omega) ?_
  first | refine tk_jf_eqB dX11_sign_4 (fun h4 => ?_) (fun h4 => ?_) | refine tk_if_eq dX11_sign_4 (fun h4 => ?_) (fun h4 => ?_)
  · refine tk_aload0 dX11_sign_14 ?_
    refine tk_ldc dX11_sign_15 klX11_183 ?_
    refine tk_callV1z dX11_sign_17 kX11_179 hR.o (r_finding hR _) (Nat.le_of_ble_eq_true rfl) (by omega) ?_
    refine tk_ireturn dX11_sign_20 rfl ?_
    first | exact rPst_f (by simp [rSiC, *]) | exact rPst_f (by simp only [rSiC, h4, h11, hix, hl2, h29]; rfl) | exact rPst_g (by simp only [rSiC, h4, h11, hix, hl2, Bool.and_self, if_true]; rw [if_neg (fun e => h29 ((nI_eq (by omega) (by omega)).mp e))]) (by simp only [rKp_at, va_up_self, bx_uu, tk_une, tk_usrt, not_false_eq_true, Nat.reduceEqDiff, Nat.reduceLT, Nat.reduceAdd, Nat.reduceMul, Nat.reduceLeDiff, reduceCtorEq, hix, hl2]; rw [nI_1]) (by simp only [rKp_at, va_up_self, bx_uu, tk_une, tk_usrt, not_false_eq_true, Nat.reduceEqDiff, Nat.reduceLT, Nat.reduceAdd, Nat.reduceMul, Nat.reduceLeDiff, reduceCtorEq, hix, hl2, hil]; rw [nI_1])
  · refine tk_iload2 dX11_sign_7 ?_
    refine tk_callS1z dX11_sign_8 kX11_197 (r_isSign _) (Nat.le_of_ble_eq_true rfl) (by omega) ?_
    first | refine tk_jf_neB dX11_sign_11 (fun h11 => ?_) (fun h11 => ?_) | refine tk_if_ne dX11_sign_11 (fun h11 => ?_) (fun h11 => ?_)
    · refine tk_aload0 dX11_sign_21 ?_
      obtain ⟨s', hs1, rfl⟩ := rIn_of h4 (by omega)
      have hix : ix (nI s') = s' := ix_nI (by omega)
      obtain ⟨l, hl1, hl2⟩ := hl s' (by omega)
      have hil : ix (nI l) = l := ix_nI (by omega)
      refine tk_getP dX11_sign_22 fX11_31 rfl hR.o (hR.p 7 rfl) ?_
      refine tk_iload1 dX11_sign_25 ?_
      refine tk_iald dX11_sign_26 (hR.t 48 rfl) (by omega) (by omega) ?_
      rw [hl2]
      refine tk_bipush dX11_sign_27 kc_bipush_14 ?_
      first | refine tk_icmp_neN dX11_sign_29 (by omega) (by omega) (fun h29 => ?_) (fun h29 => ?_) | refine tk_icmp_ne dX11_sign_29 (fun h29 => ?_) (fun h29 => ?_)
      · refine tk_aload0 dX11_sign_39 ?_
        refine tk_callV0y dX11_sign_40 kX11_184 hR.o (r_keep hR hm hk) (Nat.le_of_ble_eq_true rfl) (by omega) ?_
        refine tk_aload0 dX11_sign_43 ?_
        refine tk_getP dX11_sign_44 fX11_28 rfl hR.o (hR.p 6 rfl) ?_
        refine tk_bipush dX11_sign_47 kc_bipush_14 ?_
        refine tk_iload1 dX11_sign_49 ?_
        first | refine tk_imulN dX11_sign_50 ?_ | refine tk_imul dX11_sign_50 ?_
        refine tk_aload0 dX11_sign_51 ?_
        refine tk_getP dX11_sign_52 fX11_31 rfl hR.o (hR.p 7 rfl) ?_
        refine tk_iload1 dX11_sign_55 ?_
        refine tk_iald dX11_sign_56 (hR.t 48 rfl) (by omega) (by omega) ?_
        simp only [rKp_at, va_up_self, bx_uu, tk_une, tk_usrt, not_false_eq_true, Nat.reduceEqDiff, Nat.reduceLT, Nat.reduceAdd, Nat.reduceMul, Nat.reduceLeDiff, reduceCtorEq, hl2]
        first | refine tk_iaddN dX11_sign_57 ?_ | refine tk_iadd dX11_sign_57 ?_
        refine tk_iload2 dX11_sign_58 ?_
        refine tk_iast dX11_sign_59 (hR.t 47 rfl) (by omega) (by omega) ?_
        refine tk_aload0 dX11_sign_60 ?_
        refine tk_getP dX11_sign_61 fX11_31 rfl hR.o (hR.p 7 rfl) ?_
        refine tk_iload1 dX11_sign_64 ?_
        first | refine tk_dup2 dX11_sign_65 rfl rfl ?_ | refine tk_dup2L dX11_sign_65 ?_
        refine tk_iald dX11_sign_66 (hR.t 48 rfl) (by omega) (by omega) ?_
        simp only [rKp_at, va_up_self, bx_uu, tk_une, tk_usrt, not_false_eq_true, Nat.reduceEqDiff, Nat.reduceLT, Nat.reduceAdd, Nat.reduceMul, Nat.reduceLeDiff, reduceCtorEq, hl2]
        refine tk_iconst dX11_sign_67 kc_iconst_1 ?_
        first | refine tk_iaddN dX11_sign_68 ?_ | refine tk_iadd dX11_sign_68 ?_
        refine tk_iast dX11_sign_69 (hR.t 48 rfl) (by omega) (by omega) ?_
        refine tk_aload0 dX11_sign_70 ?_
        refine tk_getP dX11_sign_71 fX11_31 rfl hR.o (hR.p 7 rfl) ?_
        refine tk_iload1 dX11_sign_74 ?_
        refine tk_iald dX11_sign_75 (hR.t 48 rfl) (by omega) (by omega) ?_
        refine tk_ireturn dX11_sign_76 rfl ?_
        first | exact rPst_f (by simp [rSiC, *]) | exact rPst_f (by simp only [rSiC, h4, h11, hix, hl2, h29]; rfl) | exact rPst_g (by simp only [rSiC, h4, h11, hix, hl2, Bool.and_self, if_true]; rw [if_neg (fun e => h29 ((nI_eq (by omega) (by omega)).mp e))]) (by simp only [rKp_at, va_up_self, bx_uu, tk_une, tk_usrt, not_false_eq_true, Nat.reduceEqDiff, Nat.reduceLT, Nat.reduceAdd, Nat.reduceMul, Nat.reduceLeDiff, reduceCtorEq, hix, hl2]; rw [nI_1]) (by simp only [rKp_at, va_up_self, bx_uu, tk_une, tk_usrt, not_false_eq_true, Nat.reduceEqDiff, Nat.reduceLT, Nat.reduceAdd, Nat.reduceMul, Nat.reduceLeDiff, reduceCtorEq, hix, hl2, hil]; rw [nI_1])
      · refine tk_aload0 dX11_sign_32 ?_
        refine tk_ldc dX11_sign_33 klX11_200 ?_
        refine tk_callV1z dX11_sign_35 kX11_179 hR.o (r_finding hR _) (Nat.le_of_ble_eq_true rfl) (by omega) ?_
        refine tk_ireturn dX11_sign_38 rfl ?_
        first | exact rPst_f (by simp [rSiC, *]) | exact rPst_f (by simp only [rSiC, h4, h11, hix, hl2, h29]; rfl) | exact rPst_g (by simp only [rSiC, h4, h11, hix, hl2, Bool.and_self, if_true]; rw [if_neg (fun e => h29 ((nI_eq (by omega) (by omega)).mp e))]) (by simp only [rKp_at, va_up_self, bx_uu, tk_une, tk_usrt, not_false_eq_true, Nat.reduceEqDiff, Nat.reduceLT, Nat.reduceAdd, Nat.reduceMul, Nat.reduceLeDiff, reduceCtorEq, hix, hl2]; rw [nI_1]) (by simp only [rKp_at, va_up_self, bx_uu, tk_une, tk_usrt, not_false_eq_true, Nat.reduceEqDiff, Nat.reduceLT, Nat.reduceAdd, Nat.reduceMul, Nat.reduceLeDiff, reduceCtorEq, hix, hl2, hil]; rw [nI_1])
    · refine tk_aload0 dX11_sign_14 ?_
      refine tk_ldc dX11_sign_15 klX11_183 ?_
      refine tk_callV1z dX11_sign_17 kX11_179 hR.o (r_finding hR _) (Nat.le_of_ble_eq_true rfl) (by omega) ?_
      refine tk_ireturn dX11_sign_20 rfl ?_
      first | exact rPst_f (by simp [rSiC, *]) | exact rPst_f (by simp only [rSiC, h4, h11, hix, hl2, h29]; rfl) | exact rPst_g (by simp only [rSiC, h4, h11, hix, hl2, Bool.and_self, if_true]; rw [if_neg (fun e => h29 ((nI_eq (by omega) (by omega)).mp e))]) (by simp only [rKp_at, va_up_self, bx_uu, tk_une, tk_usrt, not_false_eq_true, Nat.reduceEqDiff, Nat.reduceLT, Nat.reduceAdd, Nat.reduceMul, Nat.reduceLeDiff, reduceCtorEq, hix, hl2]; rw [nI_1]) (by simp only [rKp_at, va_up_self, bx_uu, tk_une, tk_usrt, not_false_eq_true, Nat.reduceEqDiff, Nat.reduceLT, Nat.reduceAdd, Nat.reduceMul, Nat.reduceLeDiff, reduceCtorEq, hix, hl2, hil]; rw [nI_1])
def rBlC (s : Int32) : Option Int32 := if rIn s (nI 0) (nI 5) then none else some (-100001)
theorem r_blank (hR : tkRef T P) {m : Nat} (hm : m ≤ 12) (hk : I 40 20 = nI m) (s : Int32) : tkM G mX11_blank 3 0 0 [vR 40, vI s] (n, T, I, L, P) (rPst n T I L P (rBlC s) (I 48 (ix s)) (va_up (rKp I m) 48 (va_up (I 48) (ix s) (nI 0)))) := by
  refine tkM.of (ls := [some _, some _, none]) (by decide +kernel) (by decide +kernel) (Nat.le_of_ble_eq_true rfl) rfl ?_
  refine tk_iload1 dX11_blank_0 ?_
  refine tk_callS1z dX11_blank_1 kX11_194 (r_isSentence _) (Nat.le_of_ble_eq_true rfl) (by omega) ?_
  first | refine tk_jf_neB dX11_blank_4 (fun h4 => ?_) (fun h4 => ?_) | refine tk_if_ne dX11_blank_4 (fun h4 => ?_) (fun h4 => ?_)
  · refine tk_aload0 dX11_blank_14 ?_
    obtain ⟨p', hp1, rfl⟩ := rIn_of h4 (by omega)
    have hix : ix (nI p') = p' := ix_nI (by omega)
    refine tk_callV0y dX11_blank_15 kX11_184 hR.o (r_keep hR hm hk) (Nat.le_of_ble_eq_true rfl) (by omega) ?_
    refine tk_aload0 dX11_blank_18 ?_
    refine tk_getP dX11_blank_19 fX11_31 rfl hR.o (hR.p 7 rfl) ?_
    refine tk_iload1 dX11_blank_22 ?_
    refine tk_iald dX11_blank_23 (hR.t 48 rfl) (by omega) (by omega) ?_
    refine tk_istore2 dX11_blank_24 rfl ?_
    refine tk_aload0 dX11_blank_25 ?_
    refine tk_getP dX11_blank_26 fX11_31 rfl hR.o (hR.p 7 rfl) ?_
    refine tk_iload1 dX11_blank_29 ?_
    refine tk_iconst dX11_blank_30 kc_iconst_0 ?_
    refine tk_iast dX11_blank_31 (hR.t 48 rfl) (by omega) (by omega) ?_
    refine tk_iload2 dX11_blank_32 ?_
    refine tk_ireturn dX11_blank_33 rfl ?_
    first | exact rPst_f (by simp [rBlC, *]) | exact rPst_g (by simp [rBlC, *]) (by rw [hix, rKp_at (by decide) (by decide)]) (by rw [hix, rKp_at (by decide) (by decide)])
  · refine tk_aload0 dX11_blank_7 ?_
    refine tk_ldc dX11_blank_8 klX11_183 ?_
    refine tk_callV1z dX11_blank_10 kX11_179 hR.o (r_finding hR _) (Nat.le_of_ble_eq_true rfl) (by omega) ?_
    refine tk_ireturn dX11_blank_13 rfl ?_
    first | exact rPst_f (by simp [rBlC, *]) | exact rPst_g (by simp [rBlC, *]) (by rw [hix, rKp_at (by decide) (by decide)]) (by rw [hix, rKp_at (by decide) (by decide)])
theorem r_wrong (hR : tkRef T P) (hl : ∀ s, s < 6 → ∃ l, l ≤ 14 ∧ I 48 s = nI l) (s : Int32) : tkM G mX11_wrong 2 0 0 [vR 40, vI s] (n, T, I, L, P) (rPst n T I L P (rBlC s) (rW (fun i => I 47 (14 * ix s + i)) (I 41 0) (I 41 1) (ix (I 48 (ix s))) 0 (nI 0)) I) := by
  refine tkM.of (ls := [some _, some _]) (by decide +kernel) (by decide +kernel) (Nat.le_of_ble_eq_true rfl) rfl ?_
  refine tk_iload1 dX11_wrong_0 ?_
  refine tk_callS1z dX11_wrong_1 kX11_194 (r_isSentence _) (Nat.le_of_ble_eq_true rfl) (by omega) ?_
  first | refine tk_jf_neB dX11_wrong_4 (fun h4 => ?_) (fun h4 => ?_) | refine tk_if_ne dX11_wrong_4 (fun h4 => ?_) (fun h4 => ?_)
  · refine tk_aload0 dX11_wrong_14 ?_
    obtain ⟨p', hp1, rfl⟩ := rIn_of h4 (by omega)
    have hix : ix (nI p') = p' := ix_nI (by omega)
    obtain ⟨l, hl1, hl2⟩ := hl p' (by omega)
    have hil : ix (nI l) = l := ix_nI (by omega)
    refine tk_iload1 dX11_wrong_15 ?_
    refine tk_callV1z dX11_wrong_16 kX11_212 hR.o (r_wrongAt hR (by omega) hl2 hl1) (Nat.le_of_ble_eq_true rfl) (by omega) ?_
    refine tk_ireturn dX11_wrong_19 rfl ?_
    first | exact rPst_f (by simp [rBlC, *]) | exact rPst_g (by simp [rBlC, *]) (by rw [hix, hl2, hil]) rfl
  · refine tk_aload0 dX11_wrong_7 ?_
    refine tk_ldc dX11_wrong_8 klX11_183 ?_
    refine tk_callV1z dX11_wrong_10 kX11_179 hR.o (r_finding hR _) (Nat.le_of_ble_eq_true rfl) (by omega) ?_
    refine tk_ireturn dX11_wrong_13 rfl ?_
    first | exact rPst_f (by simp [rBlC, *]) | exact rPst_g (by simp [rBlC, *]) (by rw [hix, hl2, hil]) rfl
end REFE
