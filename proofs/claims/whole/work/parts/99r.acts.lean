/-! ===== the class: go, group ===== -/
section ACTS
variable {G : tkG} {n : Nat} {T : Nat → Nat × Nat} {I J : Nat → Nat → Int32} {L : Nat → Nat → Int64} {P : Nat → Nat → Option Nat} {tw np nf W r cn : Nat} {cl : Nat → Nat} {pn : Nat} {pl pg : Nat → Nat} {mn : Nat} {mW mr mc : Nat → Nat} {ml : Nat → Nat → Nat}
theorem up_c {α : Type} {f g : Nat → α} {k p : Nat} {x : α} (h : ∀ i, i < k → f i = g i) : ∀ i, i < k → va_up f p x i = va_up g p x i := by
  intro i hi
  by_cases e : i = p
  · rw [e, va_up_self, va_up_self]
  · rw [va_up_ne _ _ e, va_up_ne _ _ e]; exact h i hi
theorem fz.new {n' a : Nat} (hn : 87 ≤ n) (h1 : n ≤ a) (h2 : a < n') : fz n' a := ⟨Or.inr (by omega), h2⟩
theorem BC_pst {n2 m : Nat} {T2 : Nat → Nat × Nat} {I2 I3 A J' : Nat → Nat → Int32} {L2 : Nat → Nat → Int64} {P2 P3 : Nat → Nat → Option Nat} {c : Option Int32} {v v' : Int32} (hk : cKp n T I L P n2 T2 I2 L2 P2) (hI : ∀ a, ¬ a = 0 → I3 a = I2 a) (hP : ∀ a, ¬ a = 0 → ¬ a = 15 → P3 a = P2 a) (hq : ∀ J', bJ J A J' m → cRel n2 T2 I3 L2 P3 J') (hc : c = none) (hv : v' = v) (hJ : bJ J A J' m) : cPst n T I L P J c v J' (some (vI v')) (n2, T2, I3, L2, P3) := by
  subst hc; subst hv
  exact ⟨n2, T2, I3, L2, P3, rfl, rfl, hk.tr ⟨Nat.le_refl _, fun a h1 h2 => ⟨rfl, hI a (by omega), rfl, hP a (by omega) (by omega)⟩⟩, hq J' hJ⟩
/-- what the reference leaves where only the town changes -/
theorem bJ_of {A J' : Nat → Nat → Int32} {m : Nat} (h : ∀ a, 41 ≤ a → a ≤ 59 → J' a = A a) (h2 : J' 60 = rKp J m 60) (h3 : J' 61 = J 61) (h4 : J' 62 = J 62) (h5 : J' 63 = J 63) (h6 : J' 40 = rKp J m 40) : bJ J A J' m := by
  refine ⟨h, fun a h1 h9 => ?_, by rw [h6], by rw [h6]⟩
  by_cases e : a = 60
  · rw [e]; exact h2
  · rw [rKp_an (by omega) e]
    have : a = 61 ∨ a = 62 ∨ a = 63 := by omega
    rcases this with rfl | rfl | rfl
    · exact h3
    · exact h4
    · exact h5
theorem k_go (hN : cNow n T I L P J tw np nf W r cn cl pn pl pg mn mW mr mc ml) {m : Nat} (hm : m ≤ 12) (hm0 : J 40 20 = nI m) (p s : Int32) : tkM G mX10_go 3 2 10 [vR 0, vI p, vI s] (n, T, I, L, P) (cPst n T I L P J (rGoC J p s) (J 44 (ix p)) (va_up (rKp J m) 44 (va_up (J 44) (ix p) s))) := by
  have hN' := hN
  obtain ⟨hR, hk, ⟨hTH, hPH, hMH, hGW, hob⟩, ftw, pic, sta, oa, se, pa, ma, ht, hpc, hst, hoa, hse, hpa, hma⟩ := hN
  have hn := hR.1
  have hsc := hR.2.1
  have hk' := hk
  obtain ⟨k0, k1, k2, k3, k4, k5, k6⟩ := hk'
  have ht' := ht
  obtain ⟨u0, u1, u2, u3, u4, u5, u6⟩ := ht'
  have s4 := hst.2.1
  refine tkM.of (ls := [some _, some _, some _, none]) (by decide +kernel) (by decide +kernel) (Nat.le_of_ble_eq_true rfl) rfl ?_
  refine tk_aload0 dX10_go_0 ?_
  refine tk_iload1 dX10_go_1 ?_
  refine tk_callV1z dX10_go_2 kX10_91 (by first | assumption | exact va_up_self _ _ _ | exact (va_up_ne _ _ (by omega)).trans (by assumption) | exact congrArg Prod.fst (va_up_self _ _ _) | exact (congrArg Prod.fst (va_up_ne _ _ (by omega))).trans (by assumption) | exact (congrFun (va_up_ne _ _ (by omega)) _).trans (by assumption) | exact (va_up_ne _ _ (by omega)).trans (va_up_self _ _ _) | exact (va_up_ne _ _ (by omega)).trans ((va_up_ne _ _ (by omega)).trans (by assumption)) | exact (congrArg Prod.fst ((va_up_ne _ _ (by omega)).trans (va_up_ne _ _ (by omega)))).trans (by assumption) | exact (congrFun ((va_up_ne _ _ (by omega)).trans (va_up_ne _ _ (by omega))) _).trans (by assumption) | (rw [va_up_self, va_up_ne _ _ (by omega)]; assumption)) (k_isPerson hN' p) (Nat.le_of_ble_eq_true rfl) (by omega) ?_
  first | refine tk_jf_eqB dX10_go_5 (fun h5 => ?_) (fun h5 => ?_) | refine tk_if_eq dX10_go_5 (fun h5 => ?_) (fun h5 => ?_)
  · refine tk_aload0 dX10_go_17 ?_
    refine tk_ldc dX10_go_18 klX10_65 ?_
    refine tk_callV1z dX10_go_20 kX10_66 (by first | assumption | exact va_up_self _ _ _ | exact (va_up_ne _ _ (by omega)).trans (by assumption) | exact congrArg Prod.fst (va_up_self _ _ _) | exact (congrArg Prod.fst (va_up_ne _ _ (by omega))).trans (by assumption) | exact (congrFun (va_up_ne _ _ (by omega)) _).trans (by assumption) | exact (va_up_ne _ _ (by omega)).trans (va_up_self _ _ _) | exact (va_up_ne _ _ (by omega)).trans ((va_up_ne _ _ (by omega)).trans (by assumption)) | exact (congrArg Prod.fst ((va_up_ne _ _ (by omega)).trans (va_up_ne _ _ (by omega)))).trans (by assumption) | exact (congrFun ((va_up_ne _ _ (by omega)).trans (va_up_ne _ _ (by omega))) _).trans (by assumption) | (rw [va_up_self, va_up_ne _ _ (by omega)]; assumption)) (c_finding hk _) (Nat.le_of_ble_eq_true rfl) (by omega) ?_
    refine tk_ireturn dX10_go_23 rfl ?_
    exact cPst_f (by simp [rGoC, *]) hR cKp.rf
  · refine tk_iload2 dX10_go_8 ?_
    refine tk_iconst dX10_go_9 kc_iconst_0 ?_
    refine tk_iconst dX10_go_10 kc_iconst_3 ?_
    refine tk_callS3z dX10_go_11 kX10_61 (c_within _ _ _) (Nat.le_of_ble_eq_true rfl) (by omega) ?_
    first | refine tk_jf_neB dX10_go_14 (fun h14 => ?_) (fun h14 => ?_) | refine tk_if_ne dX10_go_14 (fun h14 => ?_) (fun h14 => ?_)
    · refine tk_aload0 dX10_go_24 ?_
      obtain ⟨p', hp, rfl⟩ := rPe_of h5 hTH.1 (by have := hTH.2.2.1; omega)
      have hp4 : p' < 4 := by have := hTH.2.2.1; omega
      have hix : ix (nI p') = p' := ix_nI (by omega)
      refine tk_getP dX10_go_25 fX10_13 rfl (by first | assumption | exact va_up_self _ _ _ | exact (va_up_ne _ _ (by omega)).trans (by assumption) | exact congrArg Prod.fst (va_up_self _ _ _) | exact (congrArg Prod.fst (va_up_ne _ _ (by omega))).trans (by assumption) | exact (congrFun (va_up_ne _ _ (by omega)) _).trans (by assumption) | exact (va_up_ne _ _ (by omega)).trans (va_up_self _ _ _) | exact (va_up_ne _ _ (by omega)).trans ((va_up_ne _ _ (by omega)).trans (by assumption)) | exact (congrArg Prod.fst ((va_up_ne _ _ (by omega)).trans (va_up_ne _ _ (by omega)))).trans (by assumption) | exact (congrFun ((va_up_ne _ _ (by omega)).trans (va_up_ne _ _ (by omega))) _).trans (by assumption) | (rw [va_up_self, va_up_ne _ _ (by omega)]; assumption)) (by first | assumption | exact va_up_self _ _ _ | exact (va_up_ne _ _ (by omega)).trans (by assumption) | exact congrArg Prod.fst (va_up_self _ _ _) | exact (congrArg Prod.fst (va_up_ne _ _ (by omega))).trans (by assumption) | exact (congrFun (va_up_ne _ _ (by omega)) _).trans (by assumption) | exact (va_up_ne _ _ (by omega)).trans (va_up_self _ _ _) | exact (va_up_ne _ _ (by omega)).trans ((va_up_ne _ _ (by omega)).trans (by assumption)) | exact (congrArg Prod.fst ((va_up_ne _ _ (by omega)).trans (va_up_ne _ _ (by omega)))).trans (by assumption) | exact (congrFun ((va_up_ne _ _ (by omega)).trans (va_up_ne _ _ (by omega))) _).trans (by assumption) | (rw [va_up_self, va_up_ne _ _ (by omega)]; assumption)) ?_
      refine tk_getP dX10_go_28 fX10_95 rfl (by first | assumption | exact va_up_self _ _ _ | exact (va_up_ne _ _ (by omega)).trans (by assumption) | exact congrArg Prod.fst (va_up_self _ _ _) | exact (congrArg Prod.fst (va_up_ne _ _ (by omega))).trans (by assumption) | exact (congrFun (va_up_ne _ _ (by omega)) _).trans (by assumption) | exact (va_up_ne _ _ (by omega)).trans (va_up_self _ _ _) | exact (va_up_ne _ _ (by omega)).trans ((va_up_ne _ _ (by omega)).trans (by assumption)) | exact (congrArg Prod.fst ((va_up_ne _ _ (by omega)).trans (va_up_ne _ _ (by omega)))).trans (by assumption) | exact (congrFun ((va_up_ne _ _ (by omega)).trans (va_up_ne _ _ (by omega))) _).trans (by assumption) | (rw [va_up_self, va_up_ne _ _ (by omega)]; assumption)) (by first | assumption | exact va_up_self _ _ _ | exact (va_up_ne _ _ (by omega)).trans (by assumption) | exact congrArg Prod.fst (va_up_self _ _ _) | exact (congrArg Prod.fst (va_up_ne _ _ (by omega))).trans (by assumption) | exact (congrFun (va_up_ne _ _ (by omega)) _).trans (by assumption) | exact (va_up_ne _ _ (by omega)).trans (va_up_self _ _ _) | exact (va_up_ne _ _ (by omega)).trans ((va_up_ne _ _ (by omega)).trans (by assumption)) | exact (congrArg Prod.fst ((va_up_ne _ _ (by omega)).trans (va_up_ne _ _ (by omega)))).trans (by assumption) | exact (congrFun ((va_up_ne _ _ (by omega)).trans (va_up_ne _ _ (by omega))) _).trans (by assumption) | (rw [va_up_self, va_up_ne _ _ (by omega)]; assumption)) ?_
      refine tk_iload1 dX10_go_31 ?_
      refine tk_iald dX10_go_32 (by first | assumption | exact va_up_self _ _ _ | exact (va_up_ne _ _ (by omega)).trans (by assumption) | exact congrArg Prod.fst (va_up_self _ _ _) | exact (congrArg Prod.fst (va_up_ne _ _ (by omega))).trans (by assumption) | exact (congrFun (va_up_ne _ _ (by omega)) _).trans (by assumption) | exact (va_up_ne _ _ (by omega)).trans (va_up_self _ _ _) | exact (va_up_ne _ _ (by omega)).trans ((va_up_ne _ _ (by omega)).trans (by assumption)) | exact (congrArg Prod.fst ((va_up_ne _ _ (by omega)).trans (va_up_ne _ _ (by omega)))).trans (by assumption) | exact (congrFun ((va_up_ne _ _ (by omega)).trans (va_up_ne _ _ (by omega))) _).trans (by assumption) | (rw [va_up_self, va_up_ne _ _ (by omega)]; assumption)) (by omega) (by omega) ?_
      refine tk_istore3 dX10_go_33 rfl ?_
      refine tk_aload0 dX10_go_34 ?_
      refine tk_aload0 dX10_go_35 ?_
      refine tk_getP dX10_go_36 fX10_13 rfl (by first | assumption | exact va_up_self _ _ _ | exact (va_up_ne _ _ (by omega)).trans (by assumption) | exact congrArg Prod.fst (va_up_self _ _ _) | exact (congrArg Prod.fst (va_up_ne _ _ (by omega))).trans (by assumption) | exact (congrFun (va_up_ne _ _ (by omega)) _).trans (by assumption) | exact (va_up_ne _ _ (by omega)).trans (va_up_self _ _ _) | exact (va_up_ne _ _ (by omega)).trans ((va_up_ne _ _ (by omega)).trans (by assumption)) | exact (congrArg Prod.fst ((va_up_ne _ _ (by omega)).trans (va_up_ne _ _ (by omega)))).trans (by assumption) | exact (congrFun ((va_up_ne _ _ (by omega)).trans (va_up_ne _ _ (by omega))) _).trans (by assumption) | (rw [va_up_self, va_up_ne _ _ (by omega)]; assumption)) (by first | assumption | exact va_up_self _ _ _ | exact (va_up_ne _ _ (by omega)).trans (by assumption) | exact congrArg Prod.fst (va_up_self _ _ _) | exact (congrArg Prod.fst (va_up_ne _ _ (by omega))).trans (by assumption) | exact (congrFun (va_up_ne _ _ (by omega)) _).trans (by assumption) | exact (va_up_ne _ _ (by omega)).trans (va_up_self _ _ _) | exact (va_up_ne _ _ (by omega)).trans ((va_up_ne _ _ (by omega)).trans (by assumption)) | exact (congrArg Prod.fst ((va_up_ne _ _ (by omega)).trans (va_up_ne _ _ (by omega)))).trans (by assumption) | exact (congrFun ((va_up_ne _ _ (by omega)).trans (va_up_ne _ _ (by omega))) _).trans (by assumption) | (rw [va_up_self, va_up_ne _ _ (by omega)]; assumption)) ?_
      refine tk_iload1 dX10_go_39 ?_
      refine tk_iload2 dX10_go_40 ?_
      refine tk_callV2s dX10_go_41 kX10_99 (by first | assumption | exact va_up_self _ _ _ | exact (va_up_ne _ _ (by omega)).trans (by assumption) | exact congrArg Prod.fst (va_up_self _ _ _) | exact (congrArg Prod.fst (va_up_ne _ _ (by omega))).trans (by assumption) | exact (congrFun (va_up_ne _ _ (by omega)) _).trans (by assumption) | exact (va_up_ne _ _ (by omega)).trans (va_up_self _ _ _) | exact (va_up_ne _ _ (by omega)).trans ((va_up_ne _ _ (by omega)).trans (by assumption)) | exact (congrArg Prod.fst ((va_up_ne _ _ (by omega)).trans (va_up_ne _ _ (by omega)))).trans (by assumption) | exact (congrFun ((va_up_ne _ _ (by omega)).trans (va_up_ne _ _ (by omega))) _).trans (by assumption) | (rw [va_up_self, va_up_ne _ _ (by omega)]; assumption)) (c_withStreet ht ftw.2 s4 hst.1.2 hp4 hn) (Nat.le_of_ble_eq_true rfl) (by omega) (by omega) (by omega) ?_
      rintro rr h1 ⟨T2, I2, L2, P2, rfl, rfl, nw, to2, s1, s2⟩
      dsimp only [Option.toList, List.singleton_append]
      have ex := nw.ex
      have tn : cTown (n + 1 + 1) T2 I2 L2 P2 (n + 1) (va_up J 44 (va_up (J 44) p' s)) := ⟨np, nf, W, r, cn, cl, pn, pl, pg, mn, mW, mr, mc, ml, ⟨hTH, hPH, hMH, hGW, hob⟩, fz.new hn (by omega) (by omega), pic, n, oa, se, pa, ma, to2, hpc.ex ex, ⟨fz.new hn (by omega) (by omega), s1, fun i hi => by rw [s2]; exact up_c hst.2.2 i hi⟩, hoa.ex ex, hse.ex ex, hpa.ex ex, hma.ex ex⟩
      have t0 : (T2 0).1 = 10 := by rw [(nw.2 0 (by omega)).1]; exact k0
      refine tk_callV1q dX10_go_44 kX10_80 (by first | assumption | exact va_up_self _ _ _ | exact (va_up_ne _ _ (by omega)).trans (by assumption) | exact congrArg Prod.fst (va_up_self _ _ _) | exact (congrArg Prod.fst (va_up_ne _ _ (by omega))).trans (by assumption) | exact (congrFun (va_up_ne _ _ (by omega)) _).trans (by assumption) | exact (va_up_ne _ _ (by omega)).trans (va_up_self _ _ _) | exact (va_up_ne _ _ (by omega)).trans ((va_up_ne _ _ (by omega)).trans (by assumption)) | exact (congrArg Prod.fst ((va_up_ne _ _ (by omega)).trans (va_up_ne _ _ (by omega)))).trans (by assumption) | exact (congrFun ((va_up_ne _ _ (by omega)).trans (va_up_ne _ _ (by omega))) _).trans (by assumption) | (rw [va_up_self, va_up_ne _ _ (by omega)]; assumption)) (c_become (hR.st (hsc.st hn nw)) hm0 hm tn) (Nat.le_of_ble_eq_true rfl) (by omega) ?_
      rintro rr h1 ⟨I3, P3, rfl, rfl, b1, b2, b3, b4⟩
      dsimp only [Option.toList, List.nil_append]
      refine tk_iload3 dX10_go_47 ?_
      refine tk_ireturn dX10_go_48 rfl ?_
      refine BC_pst ((hsc.st hn nw).kp hn) b1 b2 b4 (by simp [rGoC, *]) (by rw [hix]; exact hst.2.2 p' hp4) ?_
      rw [hix]
      refine bJ_of (fun a a1 a2 => ?_) rfl ?_ ?_ ?_ rfl
      · by_cases e : a = 44
        · rw [e, va_up_self, va_up_self]
        · rw [va_up_ne _ _ e, va_up_ne _ _ e, rKp_an (by omega) (by omega)]
      · exact rKp_an (by omega) (by omega)
      · exact rKp_an (by omega) (by omega)
      · exact rKp_an (by omega) (by omega)
    · refine tk_aload0 dX10_go_17 ?_
      refine tk_ldc dX10_go_18 klX10_65 ?_
      refine tk_callV1z dX10_go_20 kX10_66 (by first | assumption | exact va_up_self _ _ _ | exact (va_up_ne _ _ (by omega)).trans (by assumption) | exact congrArg Prod.fst (va_up_self _ _ _) | exact (congrArg Prod.fst (va_up_ne _ _ (by omega))).trans (by assumption) | exact (congrFun (va_up_ne _ _ (by omega)) _).trans (by assumption) | exact (va_up_ne _ _ (by omega)).trans (va_up_self _ _ _) | exact (va_up_ne _ _ (by omega)).trans ((va_up_ne _ _ (by omega)).trans (by assumption)) | exact (congrArg Prod.fst ((va_up_ne _ _ (by omega)).trans (va_up_ne _ _ (by omega)))).trans (by assumption) | exact (congrFun ((va_up_ne _ _ (by omega)).trans (va_up_ne _ _ (by omega))) _).trans (by assumption) | (rw [va_up_self, va_up_ne _ _ (by omega)]; assumption)) (c_finding hk _) (Nat.le_of_ble_eq_true rfl) (by omega) ?_
      refine tk_ireturn dX10_go_23 rfl ?_
      exact cPst_f (by simp [rGoC, *]) hR cKp.rf
end ACTS
