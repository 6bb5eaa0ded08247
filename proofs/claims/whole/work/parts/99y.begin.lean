/-! ===== the class: begin ===== -/
section ACTS8
variable {G : tkG} {n : Nat} {T : Nat → Nat × Nat} {I J : Nat → Nat → Int32} {L : Nat → Nat → Int64} {P : Nat → Nat → Option Nat} {tw np nf W r cn : Nat} {cl : Nat → Nat} {pn : Nat} {pl pg : Nat → Nat} {mn : Nat} {mW mr mc : Nat → Nat} {ml : Nat → Nat → Nat}
theorem GW_all {f g : Nat → Int32} {a b x : Nat} (ha : a ≤ 4) (hb : b ≤ 4) (hx : x < 2 ^ b) : GW a b (2 ^ b) x (tkcp f nI (2 ^ b)) (rC0 g (2 ^ b) 0) := by
  have h16 : 2 ^ b ≤ 16 := by
    rcases (show b = 0 ∨ b = 1 ∨ b = 2 ∨ b = 3 ∨ b = 4 by omega) with rfl | rfl | rfl | rfl | rfl <;> decide
  have hz : ∀ p, p < a → ∀ w, w < 2 ^ b → rC0 g (2 ^ b) 0 (64 * p + w) = nI 0 := fun p hp w hw => by
    unfold rC0
    rw [if_pos ⟨by omega, Or.inl (by omega)⟩]
  refine ⟨by omega, hx, fun w hw => ⟨w, tkcp_lt hw, hw⟩, fun p hp w hw => ?_⟩
  rw [hz p hp w hw]
  congr 1
  unfold cLs
  symm
  refine lsb_eq ?_ (fun j hj => by omega)
  rw [tb_pB (by omega) (by omega)]
  exact ⟨by omega, by rw [hz p hp 0 (by omega), hz p hp w hw]⟩
theorem rBeg_kp {m Wn : Nat} {x y z : Int32} : ∀ a, 41 ≤ a → a ≤ 59 → rBeg (rKp J m) x y z Wn a = rBeg J x y z Wn a := by
  intro a a1 a2
  have e : ∀ a, ¬ a = 40 → ¬ a = 60 → rKp J m a = J a := fun a h1 h2 => rKp_an h1 h2
  unfold rBeg
  rw [e 41 (by omega) (by omega), e 42 (by omega) (by omega), e 43 (by omega) (by omega), e 44 (by omega) (by omega), e 46 (by omega) (by omega)]
  by_cases e1 : a = 46
  · subst e1; simp only [va_up_self]
  rw [va_up_ne _ _ e1, va_up_ne _ _ e1]
  by_cases e2 : a = 44
  · subst e2; simp only [va_up_self]
  rw [va_up_ne _ _ e2, va_up_ne _ _ e2]
  by_cases e3 : a = 43
  · subst e3; simp only [va_up_self]
  rw [va_up_ne _ _ e3, va_up_ne _ _ e3]
  by_cases e4 : a = 42
  · subst e4; simp only [va_up_self]
  rw [va_up_ne _ _ e4, va_up_ne _ _ e4]
  by_cases e5 : a = 41
  · subst e5; simp only [va_up_self]
  rw [va_up_ne _ _ e5, va_up_ne _ _ e5]
  exact e a (by omega) (by omega)
theorem k_begin (hN : cNow n T I L P J tw np nf W r cn cl pn pl pg mn mW mr mc ml) {m : Nat} (hm : m ≤ 12) (hm0 : J 40 20 = nI m) (a b x : Int32) : tkM G mX10_begin 4 10 91 [vR 0, vI a, vI b, vI x] (n, T, I, L, P) (cPst n T I L P J (rBeC a b x) (nI (2 ^ ix b)) (rBeg (rKp J m) a b x (2 ^ ix b))) := by
  have hN' := hN
  obtain ⟨hR, hk, ⟨hTH, hPH, hMH, hGW, hob⟩, ftw, pic, sta, oa, se, pa, ma, ht, hpc, hst, hoa, hse, hpa, hma⟩ := hN
  have hn := hR.1
  have hsc := hR.2.1
  have hk' := hk
  obtain ⟨k0, k1, k2, k3, k4, k5, k6⟩ := hk'
  have ht' := ht
  obtain ⟨u0, u1, u2, u3, u4, u5, u6⟩ := ht'
  have hpc' := hpc
  obtain ⟨fpi, tpi, wa, ca, ga, p1, p2, p3, hw, fca, hca, hcl, fga, hga, hgr⟩ := hpc'
  have hp : pObj T P pic wa ca ga := ⟨tpi, p1, p2, p3⟩
  have hTH' := hTH
  obtain ⟨h41, np1, np4, h411, nf1, nf4, h412, W1, W64, h413, rW, h414, cn5, hcW, hsW⟩ := hTH'
  have f2 := ftw.2
  refine tkM.of (ls := [some _, some _, some _, some _]) (by decide +kernel) (by decide +kernel) (Nat.le_of_ble_eq_true rfl) rfl ?_
  refine tk_iload1 dX10_begin_0 ?_
  refine tk_iconst dX10_begin_1 kc_iconst_1 ?_
  refine tk_iconst dX10_begin_2 kc_iconst_4 ?_
  refine tk_callS3z dX10_begin_3 kX10_61 (c_within _ _ _) (Nat.le_of_ble_eq_true rfl) (by omega) ?_
  first | refine tk_jf_eqB dX10_begin_6 (fun h6 => ?_) (fun h6 => ?_) | refine tk_if_eq dX10_begin_6 (fun h6 => ?_) (fun h6 => ?_)
  · refine tk_aload0 dX10_begin_18 ?_
    refine tk_ldc dX10_begin_19 klX10_65 ?_
    refine tk_callV1z dX10_begin_21 kX10_66 (by first | assumption | exact va_up_self _ _ _ | exact (va_up_ne _ _ (by omega)).trans (by assumption) | exact congrArg Prod.fst (va_up_self _ _ _) | exact (congrArg Prod.fst (va_up_ne _ _ (by omega))).trans (by assumption) | exact (congrFun (va_up_ne _ _ (by omega)) _).trans (by assumption) | exact (va_up_ne _ _ (by omega)).trans (va_up_self _ _ _) | exact (va_up_ne _ _ (by omega)).trans ((va_up_ne _ _ (by omega)).trans (by assumption)) | exact (congrArg Prod.fst ((va_up_ne _ _ (by omega)).trans (va_up_ne _ _ (by omega)))).trans (by assumption) | exact (congrFun ((va_up_ne _ _ (by omega)).trans (va_up_ne _ _ (by omega))) _).trans (by assumption) | (rw [va_up_self, va_up_ne _ _ (by omega)]; assumption)) (c_finding hk _) (Nat.le_of_ble_eq_true rfl) (by omega) ?_
    refine tk_ireturn dX10_begin_24 rfl ?_
    exact cPst_f (by simp [rBeC, *]) hR cKp.rf
  · refine tk_iload2 dX10_begin_9 ?_
    refine tk_iconst dX10_begin_10 kc_iconst_1 ?_
    refine tk_iconst dX10_begin_11 kc_iconst_4 ?_
    refine tk_callS3z dX10_begin_12 kX10_61 (c_within _ _ _) (Nat.le_of_ble_eq_true rfl) (by omega) ?_
    first | refine tk_jf_neB dX10_begin_15 (fun h15 => ?_) (fun h15 => ?_) | refine tk_if_ne dX10_begin_15 (fun h15 => ?_) (fun h15 => ?_)
    · refine tk_iload3 dX10_begin_25 ?_
      refine tk_iconst dX10_begin_26 kc_iconst_0 ?_
      refine tk_iconst dX10_begin_27 kc_iconst_1 ?_
      refine tk_iload2 dX10_begin_28 ?_
      refine tk_ishl dX10_begin_29 ?_
      refine tk_iconst dX10_begin_30 kc_iconst_1 ?_
      first | refine tk_isubN dX10_begin_31 (by omega) ?_ | refine tk_isub dX10_begin_31 ?_
      refine tk_callS3z dX10_begin_32 kX10_61 (c_within _ _ _) (Nat.le_of_ble_eq_true rfl) (by omega) ?_
      first | refine tk_jf_neB dX10_begin_35 (fun h35 => ?_) (fun h35 => ?_) | refine tk_if_ne dX10_begin_35 (fun h35 => ?_) (fun h35 => ?_)
      · refine tk_aload0 dX10_begin_45 ?_
        obtain ⟨a', ha1, ha2, rfl⟩ := rIn_of1 h6 (by omega) (by omega)
        obtain ⟨b', hb1, hb2, rfl⟩ := rIn_of1 h15 (by omega) (by omega)
        have hix : ix (nI b') = b' := ix_nI (by omega)
        have h16 : 1 ≤ 2 ^ b' ∧ 2 ^ b' ≤ 16 := by rcases (show b' = 1 ∨ b' = 2 ∨ b' = 3 ∨ b' = 4 by omega) with rfl | rfl | rfl | rfl <;> decide
        have hc : rBeC (nI a') (nI b') x = none := by simp [rBeC, *]
        rw [kshl1 hb2, pk_sub h16.1] at h35
        obtain ⟨x', hx', rfl⟩ := rIn_of h35 (by omega)
        refine tk_aload0 dX10_begin_46 ?_
        refine tk_getP dX10_begin_47 fX10_13 rfl (by first | assumption | exact va_up_self _ _ _ | exact (va_up_ne _ _ (by omega)).trans (by assumption) | exact congrArg Prod.fst (va_up_self _ _ _) | exact (congrArg Prod.fst (va_up_ne _ _ (by omega))).trans (by assumption) | exact (congrFun (va_up_ne _ _ (by omega)) _).trans (by assumption) | exact (va_up_ne _ _ (by omega)).trans (va_up_self _ _ _) | exact (va_up_ne _ _ (by omega)).trans ((va_up_ne _ _ (by omega)).trans (by assumption)) | exact (congrArg Prod.fst ((va_up_ne _ _ (by omega)).trans (va_up_ne _ _ (by omega)))).trans (by assumption) | exact (congrFun ((va_up_ne _ _ (by omega)).trans (va_up_ne _ _ (by omega))) _).trans (by assumption) | (rw [va_up_self, va_up_ne _ _ (by omega)]; assumption)) (by first | assumption | exact va_up_self _ _ _ | exact (va_up_ne _ _ (by omega)).trans (by assumption) | exact congrArg Prod.fst (va_up_self _ _ _) | exact (congrArg Prod.fst (va_up_ne _ _ (by omega))).trans (by assumption) | exact (congrFun (va_up_ne _ _ (by omega)) _).trans (by assumption) | exact (va_up_ne _ _ (by omega)).trans (va_up_self _ _ _) | exact (va_up_ne _ _ (by omega)).trans ((va_up_ne _ _ (by omega)).trans (by assumption)) | exact (congrArg Prod.fst ((va_up_ne _ _ (by omega)).trans (va_up_ne _ _ (by omega)))).trans (by assumption) | exact (congrFun ((va_up_ne _ _ (by omega)).trans (va_up_ne _ _ (by omega))) _).trans (by assumption) | (rw [va_up_self, va_up_ne _ _ (by omega)]; assumption)) ?_
        refine tk_iload1 dX10_begin_50 ?_
        refine tk_iload2 dX10_begin_51 ?_
        refine tk_iload3 dX10_begin_52 ?_
        refine tk_callS3s dX10_begin_53 kX10_70 (c_ofAllSets (W := 2 ^ b') ⟨fz.new hn (by omega) (by omega), fz.new hn (by omega) (by omega), fz.new hn (by omega) (by omega)⟩ ha2 hb2 rfl) (Nat.le_of_ble_eq_true rfl) (by omega) (by omega) (by omega) ?_
        rintro rr h1 ⟨T2, I2, L2, P2, rfl, rfl, nw, cw⟩
        dsimp only [Option.toList, List.singleton_append]
        have ex := nw.ex
        have to2 := ht.ex ftw ex
        have t8 := to2.1
        have y1 := nw.2 pic fpi.2
        have hp2 : pObj T2 P2 pic wa ca ga := by unfold pObj; rw [y1.1, y1.2.2.2]; exact hp
        refine tk_callV1s dX10_begin_56 kX10_76 (by first | assumption | exact va_up_self _ _ _ | exact (va_up_ne _ _ (by omega)).trans (by assumption) | exact congrArg Prod.fst (va_up_self _ _ _) | exact (congrArg Prod.fst (va_up_ne _ _ (by omega))).trans (by assumption) | exact (congrFun (va_up_ne _ _ (by omega)) _).trans (by assumption) | exact (va_up_ne _ _ (by omega)).trans (va_up_self _ _ _) | exact (va_up_ne _ _ (by omega)).trans ((va_up_ne _ _ (by omega)).trans (by assumption)) | exact (congrArg Prod.fst ((va_up_ne _ _ (by omega)).trans (va_up_ne _ _ (by omega)))).trans (by assumption) | exact (congrFun ((va_up_ne _ _ (by omega)).trans (va_up_ne _ _ (by omega))) _).trans (by assumption) | (rw [va_up_self, va_up_ne _ _ (by omega)]; assumption)) (c_begun to2 hp2) (Nat.le_of_ble_eq_true rfl) (by omega) (by omega) (by omega) ?_
        rintro rr h1 ⟨T3, I3, L3, P3, rfl, rfl, nw3, po3, z1, to3, z2, z3, z4, z5, z6, z7⟩
        dsimp only [Option.toList, List.singleton_append]
        have nw13 := nw.tr nw3
        have ex3 := nw13.ex
        have st3 := hsc.st hn nw13
        have cw3 := cw.ex nw3.ex
        have hA42 : ∀ w, w < 2 ^ b' → nI w = tkcp (J 42) nI (2 ^ b') w := fun w hw => (tkcp_lt hw).symm
        have hA43 : ∀ p, p < a' → ∀ w, w < 2 ^ b' → (0 : Int32) = rC0 (J 43) (2 ^ b') 0 (64 * p + w) := fun p hp w hw => by unfold rC0; rw [if_pos ⟨by omega, Or.inl (by omega)⟩]; rfl
        have pc3 : cPic _ T3 I3 L3 P3 (n + 1 + 1 + 1) a' b' (2 ^ b') x' 0 (tkcp (J 42) nI (2 ^ b')) (rC0 (J 43) (2 ^ b') 0) (J 45) (J 49) cl := ⟨fz.new hn (by omega) (by omega), po3.1, _, _, _, po3.2.1, po3.2.2.1, po3.2.2.2, cw3.congr (by omega) hA42 hA43, fz.new hn (by omega) (by omega), z1, fun i hi => absurd hi (by omega), fga.mono ex3.1, by rw [(ex3.2 ga fga).1]; exact hga, fun i hi => by rw [(ex3.2 ga fga).2.1]; exact hgr i hi⟩
        have hA44 : ∀ i, i < 4 → rBeg J (nI a') (nI b') (nI x') (2 ^ b') 44 i = nI 0 := fun i hi => show tkcp (J 44) (fun _ => nI 0) 4 i = nI 0 from tkcp_lt hi
        have hA46 : ∀ i, i < 4 → rBeg J (nI a') (nI b') (nI x') (2 ^ b') 46 i = nI 0 := fun i hi => show tkcp (J 46) (fun _ => nI 0) 4 i = nI 0 from tkcp_lt hi
        have tn : cTown _ T3 I3 L3 P3 (n + 1 + 1 + 1 + 1 + 1) (rBeg J (nI a') (nI b') (nI x') (2 ^ b')) := ⟨a', b', 2 ^ b', x', 0, cl, 0, pl, pg, 0, mW, mr, mc, ml, ⟨⟨rfl, ha1, ha2, rfl, hb1, hb2, rfl, h16.1, by omega, rfl, by omega, rfl, by omega, fun c hc => absurd hc (by omega), hsW⟩, ⟨rfl, by omega, fun c hc => absurd hc (by omega)⟩, ⟨rfl, by omega, fun c hc => absurd hc (by omega)⟩, GW_all ha2 hb2 (by omega), fun i hi => ⟨0, hA46 i hi, by omega⟩⟩, fz.new hn (by omega) (by omega), _, _, _, _, _, _, to3, pc3, ⟨fz.new hn (by omega) (by omega), z2, fun i hi => by rw [z3]; exact (hA44 i hi).symm⟩, ⟨fz.new hn (by omega) (by omega), z4, fun i hi => by rw [z5]; exact (hA46 i hi).symm⟩, hse.ex ex3, ⟨fz.new hn (by omega) (by omega), z6, fun k hk => absurd hk (by omega)⟩, ⟨fz.new hn (by omega) (by omega), z7, fun k hk => absurd hk (by omega)⟩⟩
        have t0 : (T3 0).1 = 10 := by rw [(nw13.2 0 (by omega)).1]; exact k0
        refine tk_callV1q dX10_begin_59 kX10_80 (by first | assumption | exact va_up_self _ _ _ | exact (va_up_ne _ _ (by omega)).trans (by assumption) | exact congrArg Prod.fst (va_up_self _ _ _) | exact (congrArg Prod.fst (va_up_ne _ _ (by omega))).trans (by assumption) | exact (congrFun (va_up_ne _ _ (by omega)) _).trans (by assumption) | exact (va_up_ne _ _ (by omega)).trans (va_up_self _ _ _) | exact (va_up_ne _ _ (by omega)).trans ((va_up_ne _ _ (by omega)).trans (by assumption)) | exact (congrArg Prod.fst ((va_up_ne _ _ (by omega)).trans (va_up_ne _ _ (by omega)))).trans (by assumption) | exact (congrFun ((va_up_ne _ _ (by omega)).trans (va_up_ne _ _ (by omega))) _).trans (by assumption) | (rw [va_up_self, va_up_ne _ _ (by omega)]; assumption)) (c_become (hR.st st3) hm0 hm tn) (Nat.le_of_ble_eq_true rfl) (by omega) ?_
        rintro rr h1 ⟨I4, P4, rfl, rfl, b1, b2, b3, b4⟩
        dsimp only [Option.toList, List.nil_append]
        have to4 : tObj T3 P4 (n + 1 + 1 + 1 + 1 + 1) (n + 1 + 1 + 1) (n + 1 + 1 + 1 + 1 + 1 + 1) (n + 1 + 1 + 1 + 1 + 1 + 1 + 1) se (n + 1 + 1 + 1 + 1 + 1 + 1 + 1 + 1) (n + 1 + 1 + 1 + 1 + 1 + 1 + 1 + 1 + 1) := by unfold tObj; rw [b2 _ (by omega) (by omega)]; exact to3
        have po4 : pObj T3 P4 (n + 1 + 1 + 1) (n + 1 + 1) (n + 1 + 1 + 1 + 1) ga := by unfold pObj; rw [b2 _ (by omega) (by omega)]; exact po3
        refine tk_aload0 dX10_begin_62 ?_
        refine tk_callV0z dX10_begin_63 kX10_84 (by first | assumption | exact va_up_self _ _ _ | exact (va_up_ne _ _ (by omega)).trans (by assumption) | exact congrArg Prod.fst (va_up_self _ _ _) | exact (congrArg Prod.fst (va_up_ne _ _ (by omega))).trans (by assumption) | exact (congrFun (va_up_ne _ _ (by omega)) _).trans (by assumption) | exact (va_up_ne _ _ (by omega)).trans (va_up_self _ _ _) | exact (va_up_ne _ _ (by omega)).trans ((va_up_ne _ _ (by omega)).trans (by assumption)) | exact (congrArg Prod.fst ((va_up_ne _ _ (by omega)).trans (va_up_ne _ _ (by omega)))).trans (by assumption) | exact (congrFun ((va_up_ne _ _ (by omega)).trans (va_up_ne _ _ (by omega))) _).trans (by assumption) | (rw [va_up_self, va_up_ne _ _ (by omega)]; assumption)) (c_worlds b3 to4 po4) (Nat.le_of_ble_eq_true rfl) (by omega) ?_
        have w9 : (T3 (n + 1 + 1)).1 = 9 := cw3.2.1
        refine tk_getI dX10_begin_66 fX10_88 rfl (by first | assumption | exact va_up_self _ _ _ | exact (va_up_ne _ _ (by omega)).trans (by assumption) | exact congrArg Prod.fst (va_up_self _ _ _) | exact (congrArg Prod.fst (va_up_ne _ _ (by omega))).trans (by assumption) | exact (congrFun (va_up_ne _ _ (by omega)) _).trans (by assumption) | exact (va_up_ne _ _ (by omega)).trans (va_up_self _ _ _) | exact (va_up_ne _ _ (by omega)).trans ((va_up_ne _ _ (by omega)).trans (by assumption)) | exact (congrArg Prod.fst ((va_up_ne _ _ (by omega)).trans (va_up_ne _ _ (by omega)))).trans (by assumption) | exact (congrFun ((va_up_ne _ _ (by omega)).trans (va_up_ne _ _ (by omega))) _).trans (by assumption) | (rw [va_up_self, va_up_ne _ _ (by omega)]; assumption)) ?_
        rw [b1 _ (by omega), cw3.2.2.2.2.1]
        refine tk_ireturn dX10_begin_69 rfl ?_
        refine BC_pst (st3.kp hn) b1 b2 b4 hc (by rw [hix]) ?_
        rw [hix]
        refine bJ_of rBeg_kp rfl ?_ ?_ ?_ rfl
        · exact rKp_an (by omega) (by omega)
        · exact rKp_an (by omega) (by omega)
        · exact rKp_an (by omega) (by omega)
      · refine tk_aload0 dX10_begin_38 ?_
        refine tk_ldc dX10_begin_39 klX10_65 ?_
        refine tk_callV1z dX10_begin_41 kX10_66 (by first | assumption | exact va_up_self _ _ _ | exact (va_up_ne _ _ (by omega)).trans (by assumption) | exact congrArg Prod.fst (va_up_self _ _ _) | exact (congrArg Prod.fst (va_up_ne _ _ (by omega))).trans (by assumption) | exact (congrFun (va_up_ne _ _ (by omega)) _).trans (by assumption) | exact (va_up_ne _ _ (by omega)).trans (va_up_self _ _ _) | exact (va_up_ne _ _ (by omega)).trans ((va_up_ne _ _ (by omega)).trans (by assumption)) | exact (congrArg Prod.fst ((va_up_ne _ _ (by omega)).trans (va_up_ne _ _ (by omega)))).trans (by assumption) | exact (congrFun ((va_up_ne _ _ (by omega)).trans (va_up_ne _ _ (by omega))) _).trans (by assumption) | (rw [va_up_self, va_up_ne _ _ (by omega)]; assumption)) (c_finding hk _) (Nat.le_of_ble_eq_true rfl) (by omega) ?_
        refine tk_ireturn dX10_begin_44 rfl ?_
        exact cPst_f (by simp [rBeC, *]) hR cKp.rf
    · refine tk_aload0 dX10_begin_18 ?_
      refine tk_ldc dX10_begin_19 klX10_65 ?_
      refine tk_callV1z dX10_begin_21 kX10_66 (by first | assumption | exact va_up_self _ _ _ | exact (va_up_ne _ _ (by omega)).trans (by assumption) | exact congrArg Prod.fst (va_up_self _ _ _) | exact (congrArg Prod.fst (va_up_ne _ _ (by omega))).trans (by assumption) | exact (congrFun (va_up_ne _ _ (by omega)) _).trans (by assumption) | exact (va_up_ne _ _ (by omega)).trans (va_up_self _ _ _) | exact (va_up_ne _ _ (by omega)).trans ((va_up_ne _ _ (by omega)).trans (by assumption)) | exact (congrArg Prod.fst ((va_up_ne _ _ (by omega)).trans (va_up_ne _ _ (by omega)))).trans (by assumption) | exact (congrFun ((va_up_ne _ _ (by omega)).trans (va_up_ne _ _ (by omega))) _).trans (by assumption) | (rw [va_up_self, va_up_ne _ _ (by omega)]; assumption)) (c_finding hk _) (Nat.le_of_ble_eq_true rfl) (by omega) ?_
      refine tk_ireturn dX10_begin_24 rfl ?_
      exact cPst_f (by simp [rBeC, *]) hR cKp.rf
end ACTS8
