/-! ===== the reference: openly, cry ===== -/
theorem rRf_nz {I : Nat → Nat → Int32} {a b s : Int32} {near : Bool} {f : Int32} (h : rRf I a b s near = some f) : ¬ f = 0 := by
  unfold rRf at h
  intro e
  subst e
  repeat' split at h
  all_goals first | cases h | (injection h with h; exact absurd h (by decide))
theorem rRf_none {I : Nat → Nat → Int32} {a b s : Int32} {near : Bool} {np : Nat} (t1 : I 41 0 = nI np) (hnp : np ≤ 4) (h : rRf I a b s near = none) : (∃ a', a' < np ∧ a = nI a') ∧ (∃ b', b' < np ∧ b = nI b') ∧ (∃ s', s' < 6 ∧ s = nI s') ∧ rRt I s = true ∧ ¬ a = b := by
  unfold rRf at h
  split at h
  · rename_i hc
    rw [Bool.and_eq_true, Bool.and_eq_true] at hc
    split at h
    · cases h
    · rename_i hab
      split at h
      · rename_i hrt
        obtain ⟨s', hs, es⟩ := rIn_of hc.2.2 (by omega)
        exact ⟨rPe_of hc.1 t1 (by omega), rPe_of hc.2.1 t1 (by omega), ⟨s', by omega, es⟩, hrt, hab⟩
      · cases h
  · cases h
section REFCG
variable {G : tkG} {n : Nat} {T : Nat → Nat × Nat} {I : Nat → Nat → Int32} {L : Nat → Nat → Int64} {P : Nat → Nat → Option Nat}
def rOpC (I : Nat → Nat → Int32) (L : Nat → Nat → Int64) (np W r cn : Nat) (cl : Nat → Nat) (a b s : Int32) (near : Bool) : Option Int32 := match rRf I a b s near with
  | some f => some f
  | none => if rKw (vwB I L np W) W (ix a) r (soT I L np W cn cl (ix s)) then none else some (-100009)
theorem r_openly (hR : tkRef T P) {np nf W r cn m : Nat} {cl : Nat → Nat} (hT : TH I np nf W r cn cl) (hm : m ≤ 12) (hk : I 40 20 = nI m) (a b s : Int32) : tkM G mX11_openly 36 0 0 [vR 40, vI a, vI b, vI s] (n, T, I, L, P) (rLq n T P L I (rOpC I L np W r cn cl a b s false) (LQ n T P L I m np W r (I 42) (pB (I 43) W) (rKa (vwB I L np W) W (ix a) (soT I L np W cn cl (ix s))) b (soT I L np W cn cl (ix s)))) := by
  have hT' := hT
  obtain ⟨t1, t2, t3, t4, t5, t6, t7, t8, t9, t10, t11, t12, t13, t14, t15⟩ := hT'
  refine tkM.of (ls := [some _, some _, some _, some _, none, none]) (by decide +kernel) (by decide +kernel) (Nat.le_of_ble_eq_true rfl) rfl ?_
  refine tk_aload0 dX11_openly_0 ?_
  refine tk_iload1 dX11_openly_1 ?_
  refine tk_iload2 dX11_openly_2 ?_
  refine tk_iload3 dX11_openly_3 ?_
  refine tk_iconst dX11_openly_4 kc_iconst_0 ?_
  refine tk_callV4q dX11_openly_5 kX11_308 hR.o (r_refuses hR hT a b s false) (Nat.le_of_ble_eq_true rfl) (by omega) ?_
  intro rr h1 hq
  cases hc : rRf I a b s false with
  | some f =>
    rw [hc] at hq
    obtain ⟨rfl, rfl⟩ := hq
    dsimp only [Option.toList, List.cons_append, List.nil_append]
    refine tk_istore4 dX11_openly_8 rfl ?_
    refine tk_iload4 dX11_openly_10 ?_
    first | refine tk_jf_eqB dX11_openly_12 (fun h12 => ?_) (fun h12 => ?_) | refine tk_if_eq dX11_openly_12 (fun h12 => ?_) (fun h12 => ?_)
    · exact absurd h12 (rRf_nz hc)
    · refine tk_aload0 dX11_openly_15 ?_
      refine tk_iload4 dX11_openly_16 ?_
      refine tk_callV1z dX11_openly_18 kX11_179 hR.o (r_finding hR _) (Nat.le_of_ble_eq_true rfl) (by omega) ?_
      refine tk_ireturn dX11_openly_21 rfl ?_
      exact rLq_f (by unfold rOpC; rw [hc]) rSm.rf rLm.rf
  | none =>
    rw [hc] at hq
    obtain ⟨rfl, rfl⟩ := hq
    dsimp only [Option.toList, List.cons_append, List.nil_append]
    cases hkw : rKw (vwB I L np W) W (ix a) r (soT I L np W cn cl (ix s)) with
    | false =>
      rw [if_neg Bool.false_ne_true]
      refine tk_istore4 dX11_openly_8 rfl ?_
      refine tk_iload4 dX11_openly_10 ?_
      first | refine tk_jf_eqB dX11_openly_12 (fun h12 => ?_) (fun h12 => ?_) | refine tk_if_eq dX11_openly_12 (fun h12 => ?_) (fun h12 => ?_)
      · exact absurd h12 (by decide)
      · refine tk_aload0 dX11_openly_15 ?_
        refine tk_iload4 dX11_openly_16 ?_
        refine tk_callV1z dX11_openly_18 kX11_179 hR.o (r_finding hR _) (Nat.le_of_ble_eq_true rfl) (by omega) ?_
        refine tk_ireturn dX11_openly_21 rfl ?_
        exact rLq_f (by unfold rOpC; rw [hc]; exact if_neg (fun e => Bool.noConfusion (hkw.symm.trans e))) (rSm_VT I) (rLm.up (by omega))
    | true =>
      rw [if_pos rfl]
      obtain ⟨⟨a', ha1, rfl⟩, ⟨b', hb1, rfl⟩, ⟨s', hs1, rfl⟩, hrt, hab⟩ := rRf_none t1 t3 hc
      have hixs : ix (nI s') = s' := ix_nI (by omega)
      have hixa : ix (nI a') = a' := ix_nI (by omega)
      rw [hixa, hixs] at hkw
      have hMr : tb (rKa (vwB I L np W) W a' (soT I L np W cn cl s')) r = true := by unfold rKa; rw [tb_mk _ t9 (by omega), decide_eq_true t11, hkw]; rfl
      refine tk_istore4 dX11_openly_8 rfl ?_
      refine tk_iload4 dX11_openly_10 ?_
      first | refine tk_jf_eqB dX11_openly_12 (fun h12 => ?_) (fun h12 => ?_) | refine tk_if_eq dX11_openly_12 (fun h12 => ?_) (fun h12 => ?_)
      · refine tk_aload0 dX11_openly_22 ?_
        refine tk_iload1 dX11_openly_23 ?_
        refine tk_iload2 dX11_openly_24 ?_
        refine tk_aload0 dX11_openly_25 ?_
        refine tk_iload3 dX11_openly_26 ?_
        refine tk_callV1z dX11_openly_27 kX11_299 hR.o (r_soOfT hR hT hs1 hrt) (Nat.le_of_ble_eq_true rfl) (by omega) ?_
        refine tk_callV3y dX11_openly_30 kX11_312 hR.o (r_tellOpenlyT hR hT (by omega) (nI b') (soT I L np W cn cl s')) (Nat.le_of_ble_eq_true rfl) (by omega) ?_
        refine tk_aload0 dX11_openly_33 ?_
        refine tk_callV0q dX11_openly_34 kX11_282 hR.o (r_cutT hR hT hMr) (Nat.le_of_ble_eq_true rfl) (by omega) ?_
        intro rr h1 q
        obtain ⟨J, L', W', r', ff, cc, rfl, rfl, j1, j2, j3, j4, j5, j6, j7⟩ := CTQ_of hT hk q
        dsimp only [Option.toList, List.cons_append, List.nil_append]
        refine tk_istore5 dX11_openly_37 rfl ?_
        refine tk_aload0 dX11_openly_39 ?_
        refine tk_callV0z dX11_openly_40 kX11_286 hR.o (r_lay hR hm j1) (Nat.le_of_ble_eq_true rfl) (by omega) ?_
        refine tk_ireturn dX11_openly_43 rfl ?_
        refine rLq_g (by unfold rOpC; rw [hc]; exact if_pos (by rw [hixa, hixs]; exact hkw)) ?_
        rw [hixa, hixs]
        exact LQ_of j2 j3 j4 j5 j6 j7
      · exact absurd rfl h12
end REFCG
