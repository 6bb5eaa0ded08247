/-! ===== the class: sentences blank, written from a sheet ===== -/
theorem hMsk_n {v : Int32} {b : Nat} (hb : b = 8 ∨ b = 16) : hMsk (nI b) v = nI (v.toBitVec.toNat % 2 ^ b) := by
  unfold hMsk
  rcases hb with rfl | rfl
  · rw [if_neg (by decide), show kshl (nI 1) (nI 8) - nI 1 = nI 255 by decide +kernel]
    apply Int32.toBitVec_inj.mp
    apply BitVec.eq_of_toNat_eq
    rw [Int32.toBitVec_and, BitVec.toNat_and]
    show v.toBitVec.toNat &&& 255 = _ % 2 ^ 32
    rw [show (255 : Nat) = 2 ^ 8 - 1 from rfl, Nat.and_two_pow_sub_one_eq_mod]
    omega
  · rw [if_neg (by decide), show kshl (nI 1) (nI 16) - nI 1 = nI 65535 by decide +kernel]
    apply Int32.toBitVec_inj.mp
    apply BitVec.eq_of_toNat_eq
    rw [Int32.toBitVec_and, BitVec.toNat_and]
    show v.toBitVec.toNat &&& 65535 = _ % 2 ^ 32
    rw [show (65535 : Nat) = 2 ^ 16 - 1 from rfl, Nat.and_two_pow_sub_one_eq_mod]
    omega
theorem rNar_n {v : Int32} {b : Nat} (hb : b = 8 ∨ b = 16) (h : rNar (nI b) v = v) : v.toBitVec.toNat < 2 ^ (b - 1) ∨ 2 ^ 32 - 2 ^ (b - 1) ≤ v.toBitVec.toNat := by
  have hl := v.toBitVec.isLt
  have hi : v.toInt = v.toBitVec.toInt := rfl
  rw [BitVec.toInt_eq_toNat_cond] at hi
  unfold rNar at h
  rcases hb with rfl | rfl
  · rw [if_pos rfl] at h
    have h1 : v.toInt = v.toInt8.toInt := by
      have := congrArg Int32.toInt h
      rw [Int8.toInt_toInt32] at this
      exact this.symm
    have h2 := Int8.toInt_lt v.toInt8
    have h3 := Int8.le_toInt v.toInt8
    split at hi <;> omega
  · rw [if_neg (by decide), if_pos rfl] at h
    have h1 : v.toInt = v.toInt16.toInt := by
      have := congrArg Int32.toInt h
      rw [Int16.toInt_toInt32] at this
      exact this.symm
    have h2 := Int16.toInt_lt v.toInt16
    have h3 := Int16.le_toInt v.toInt16
    split at hi <;> omega
theorem nI_tn {v : Int32} {k : Nat} (h : v.toBitVec.toNat = k) : v = nI k := by
  apply Int32.toBitVec_inj.mp
  apply BitVec.eq_of_toNat_eq
  show _ = k % 2 ^ 32
  have := v.toBitVec.isLt
  omega
theorem sh_sign {b v : Int32} (hb : b = nI 8 ∨ b = nI 16 ∨ b = nI 32) (hv : rNar b v = v) : rSign (hMsk b v) = rSign v ∧ (rSign v = true → hMsk b v = v) := by
  have key : ∀ k, k = 8 ∨ k = 16 → rNar (nI k) v = v → (rSign (hMsk (nI k) v) = rSign v ∧ (rSign v = true → hMsk (nI k) v = v)) := by
    intro k hk hv
    have h1 := hMsk_n (v := v) hk
    have h2 := rNar_n hk hv
    have b1 : rSign v = true → hMsk (nI k) v = v := by
      intro q
      obtain ⟨j, rfl, hj⟩ := rSign_of q
      rw [h1]
      show nI ((j % 2 ^ 32) % 2 ^ k) = nI j
      congr 1
      rcases hk with rfl | rfl <;> omega
    refine ⟨?_, b1⟩
    rw [Bool.eq_iff_iff]
    constructor
    · intro q
      obtain ⟨j, e, hj⟩ := rSign_of q
      rw [h1] at e
      have e2 : v.toBitVec.toNat % 2 ^ k = j := by
        rcases hk with rfl | rfl
        · exact (nI_eq (by omega) (by omega)).mp e
        · exact (nI_eq (by omega) (by omega)).mp e
      have e3 : v.toBitVec.toNat = j := by
        rcases hk with rfl | rfl <;> omega
      rw [h1, e2] at q
      rw [nI_tn e3]
      exact q
    · intro q
      rw [b1 q]; exact q
  rcases hb with rfl | rfl | rfl
  · exact key 8 (Or.inl rfl) hv
  · exact key 16 (Or.inr rfl) hv
  · unfold hMsk
    rw [if_pos rfl]
    exact ⟨rfl, fun _ => rfl⟩
theorem rAS_iff {f : Nat → Int32} : ∀ (k i : Nat), rAS f k i = true ↔ ∀ j, i ≤ j → j < i + k → rSign (f j) = true := by
  intro k
  induction k with
  | zero => intro i; exact ⟨fun _ j h1 h2 => by omega, fun _ => rfl⟩
  | succ k ih =>
    intro i
    unfold rAS
    rw [Bool.and_eq_true, ih]
    constructor
    · rintro ⟨h1, h2⟩ j j1 j2
      by_cases e : j = i
      · rw [e]; exact h1
      · exact h2 j (by omega) (by omega)
    · intro h
      exact ⟨h i (by omega) (by omega), fun j j1 j2 => h j (by omega) (by omega)⟩
section ACTS3
variable {G : tkG} {n : Nat} {T : Nat → Nat × Nat} {I J : Nat → Nat → Int32} {L : Nat → Nat → Int64} {P : Nat → Nat → Option Nat} {tw np nf W r cn : Nat} {cl : Nat → Nat} {pn : Nat} {pl pg : Nat → Nat} {mn : Nat} {mW mr mc : Nat → Nat} {ml : Nat → Nat → Nat}
theorem k_blank (hN : cNow n T I L P J tw np nf W r cn cl pn pl pg mn mW mr mc ml) {m : Nat} (hm : m ≤ 12) (hm0 : J 40 20 = nI m) (s : Int32) : tkM G mX10_blank 3 4 14 [vR 0, vI s] (n, T, I, L, P) (cPst n T I L P J (rBlC s) (J 48 (ix s)) (va_up (rKp J m) 48 (va_up (J 48) (ix s) (nI 0)))) := by
  have hN' := hN
  obtain ⟨hR, hk, ⟨hTH, hPH, hMH, hGW, hob⟩, ftw, pic, sta, oa, se, pa, ma, ht, hpc, hst, hoa, hse, hpa, hma⟩ := hN
  have hn := hR.1
  have hsc := hR.2.1
  have hk' := hk
  obtain ⟨k0, k1, k2, k3, k4, k5, k6⟩ := hk'
  have ht' := ht
  obtain ⟨u0, u1, u2, u3, u4, u5, u6⟩ := ht'
  have hpc' := hpc
  obtain ⟨fpi, tpi, wa, ca, ga, p1, p2, p3, hw, fca, hca, hcl, fga, hga, hgr⟩ := hpc'
  have hp : pObj T P pic wa ca ga := ⟨tpi, p1, p2, p3⟩
  have hTH' := hTH
  obtain ⟨h41, np1, np4, h411, nf1, nf4, h412, W1, W64, h413, rW, h414, cn5, hcW, hsW⟩ := hTH'
  have se6 := hse.2.1
  have fse := hse.1
  refine tkM.of (ls := [some _, some _, none]) (by decide +kernel) (by decide +kernel) (Nat.le_of_ble_eq_true rfl) rfl ?_
  refine tk_iload1 dX10_blank_0 ?_
  refine tk_callS1z dX10_blank_1 kX10_123 (c_isSentence s) (Nat.le_of_ble_eq_true rfl) (by omega) ?_
  first | refine tk_jf_neB dX10_blank_4 (fun h4 => ?_) (fun h4 => ?_) | refine tk_if_ne dX10_blank_4 (fun h4 => ?_) (fun h4 => ?_)
  · refine tk_aload0 dX10_blank_14 ?_
    obtain ⟨s', hs', rfl⟩ := rIn_of h4 (by omega)
    have hix : ix (nI s') = s' := ix_nI (by omega)
    obtain ⟨ra, l, q1, q2, q3, q4, q5, q6, q7, q8⟩ := sen_row hse (show s' < 6 by omega)
    refine tk_getP dX10_blank_15 fX10_13 rfl (by first | assumption | exact va_up_self _ _ _ | exact (va_up_ne _ _ (by omega)).trans (by assumption) | exact congrArg Prod.fst (va_up_self _ _ _) | exact (congrArg Prod.fst (va_up_ne _ _ (by omega))).trans (by assumption) | exact (congrFun (va_up_ne _ _ (by omega)) _).trans (by assumption) | exact (va_up_ne _ _ (by omega)).trans (va_up_self _ _ _) | exact (va_up_ne _ _ (by omega)).trans ((va_up_ne _ _ (by omega)).trans (by assumption)) | exact (congrArg Prod.fst ((va_up_ne _ _ (by omega)).trans (va_up_ne _ _ (by omega)))).trans (by assumption) | exact (congrFun ((va_up_ne _ _ (by omega)).trans (va_up_ne _ _ (by omega))) _).trans (by assumption) | (rw [va_up_self, va_up_ne _ _ (by omega)]; assumption)) (by first | assumption | exact va_up_self _ _ _ | exact (va_up_ne _ _ (by omega)).trans (by assumption) | exact congrArg Prod.fst (va_up_self _ _ _) | exact (congrArg Prod.fst (va_up_ne _ _ (by omega))).trans (by assumption) | exact (congrFun (va_up_ne _ _ (by omega)) _).trans (by assumption) | exact (va_up_ne _ _ (by omega)).trans (va_up_self _ _ _) | exact (va_up_ne _ _ (by omega)).trans ((va_up_ne _ _ (by omega)).trans (by assumption)) | exact (congrArg Prod.fst ((va_up_ne _ _ (by omega)).trans (va_up_ne _ _ (by omega)))).trans (by assumption) | exact (congrFun ((va_up_ne _ _ (by omega)).trans (va_up_ne _ _ (by omega))) _).trans (by assumption) | (rw [va_up_self, va_up_ne _ _ (by omega)]; assumption)) ?_
    refine tk_getP dX10_blank_18 fX10_131 rfl (by first | assumption | exact va_up_self _ _ _ | exact (va_up_ne _ _ (by omega)).trans (by assumption) | exact congrArg Prod.fst (va_up_self _ _ _) | exact (congrArg Prod.fst (va_up_ne _ _ (by omega))).trans (by assumption) | exact (congrFun (va_up_ne _ _ (by omega)) _).trans (by assumption) | exact (va_up_ne _ _ (by omega)).trans (va_up_self _ _ _) | exact (va_up_ne _ _ (by omega)).trans ((va_up_ne _ _ (by omega)).trans (by assumption)) | exact (congrArg Prod.fst ((va_up_ne _ _ (by omega)).trans (va_up_ne _ _ (by omega)))).trans (by assumption) | exact (congrFun ((va_up_ne _ _ (by omega)).trans (va_up_ne _ _ (by omega))) _).trans (by assumption) | (rw [va_up_self, va_up_ne _ _ (by omega)]; assumption)) (by first | assumption | exact va_up_self _ _ _ | exact (va_up_ne _ _ (by omega)).trans (by assumption) | exact congrArg Prod.fst (va_up_self _ _ _) | exact (congrArg Prod.fst (va_up_ne _ _ (by omega))).trans (by assumption) | exact (congrFun (va_up_ne _ _ (by omega)) _).trans (by assumption) | exact (va_up_ne _ _ (by omega)).trans (va_up_self _ _ _) | exact (va_up_ne _ _ (by omega)).trans ((va_up_ne _ _ (by omega)).trans (by assumption)) | exact (congrArg Prod.fst ((va_up_ne _ _ (by omega)).trans (va_up_ne _ _ (by omega)))).trans (by assumption) | exact (congrFun ((va_up_ne _ _ (by omega)).trans (va_up_ne _ _ (by omega))) _).trans (by assumption) | (rw [va_up_self, va_up_ne _ _ (by omega)]; assumption)) ?_
    refine tk_iload1 dX10_blank_21 ?_
    refine tk_aald dX10_blank_22 (by first | assumption | exact va_up_self _ _ _ | exact (va_up_ne _ _ (by omega)).trans (by assumption) | exact congrArg Prod.fst (va_up_self _ _ _) | exact (congrArg Prod.fst (va_up_ne _ _ (by omega))).trans (by assumption) | exact (congrFun (va_up_ne _ _ (by omega)) _).trans (by assumption) | exact (va_up_ne _ _ (by omega)).trans (va_up_self _ _ _) | exact (va_up_ne _ _ (by omega)).trans ((va_up_ne _ _ (by omega)).trans (by assumption)) | exact (congrArg Prod.fst ((va_up_ne _ _ (by omega)).trans (va_up_ne _ _ (by omega)))).trans (by assumption) | exact (congrFun ((va_up_ne _ _ (by omega)).trans (va_up_ne _ _ (by omega))) _).trans (by assumption) | (rw [va_up_self, va_up_ne _ _ (by omega)]; assumption)) (by omega) (by omega) (by omega) (by first | assumption | exact va_up_self _ _ _ | exact (va_up_ne _ _ (by omega)).trans (by assumption) | exact congrArg Prod.fst (va_up_self _ _ _) | exact (congrArg Prod.fst (va_up_ne _ _ (by omega))).trans (by assumption) | exact (congrFun (va_up_ne _ _ (by omega)) _).trans (by assumption) | exact (va_up_ne _ _ (by omega)).trans (va_up_self _ _ _) | exact (va_up_ne _ _ (by omega)).trans ((va_up_ne _ _ (by omega)).trans (by assumption)) | exact (congrArg Prod.fst ((va_up_ne _ _ (by omega)).trans (va_up_ne _ _ (by omega)))).trans (by assumption) | exact (congrFun ((va_up_ne _ _ (by omega)).trans (va_up_ne _ _ (by omega))) _).trans (by assumption) | (rw [va_up_self, va_up_ne _ _ (by omega)]; assumption)) ?_
    refine tk_getI dX10_blank_23 fX10_135 rfl (by first | assumption | exact va_up_self _ _ _ | exact (va_up_ne _ _ (by omega)).trans (by assumption) | exact congrArg Prod.fst (va_up_self _ _ _) | exact (congrArg Prod.fst (va_up_ne _ _ (by omega))).trans (by assumption) | exact (congrFun (va_up_ne _ _ (by omega)) _).trans (by assumption) | exact (va_up_ne _ _ (by omega)).trans (va_up_self _ _ _) | exact (va_up_ne _ _ (by omega)).trans ((va_up_ne _ _ (by omega)).trans (by assumption)) | exact (congrArg Prod.fst ((va_up_ne _ _ (by omega)).trans (va_up_ne _ _ (by omega)))).trans (by assumption) | exact (congrFun ((va_up_ne _ _ (by omega)).trans (va_up_ne _ _ (by omega))) _).trans (by assumption) | (rw [va_up_self, va_up_ne _ _ (by omega)]; assumption)) ?_
    rw [q7]
    refine tk_istore2 dX10_blank_26 rfl ?_
    refine tk_aload0 dX10_blank_27 ?_
    refine tk_aload0 dX10_blank_28 ?_
    refine tk_getP dX10_blank_29 fX10_13 rfl (by first | assumption | exact va_up_self _ _ _ | exact (va_up_ne _ _ (by omega)).trans (by assumption) | exact congrArg Prod.fst (va_up_self _ _ _) | exact (congrArg Prod.fst (va_up_ne _ _ (by omega))).trans (by assumption) | exact (congrFun (va_up_ne _ _ (by omega)) _).trans (by assumption) | exact (va_up_ne _ _ (by omega)).trans (va_up_self _ _ _) | exact (va_up_ne _ _ (by omega)).trans ((va_up_ne _ _ (by omega)).trans (by assumption)) | exact (congrArg Prod.fst ((va_up_ne _ _ (by omega)).trans (va_up_ne _ _ (by omega)))).trans (by assumption) | exact (congrFun ((va_up_ne _ _ (by omega)).trans (va_up_ne _ _ (by omega))) _).trans (by assumption) | (rw [va_up_self, va_up_ne _ _ (by omega)]; assumption)) (by first | assumption | exact va_up_self _ _ _ | exact (va_up_ne _ _ (by omega)).trans (by assumption) | exact congrArg Prod.fst (va_up_self _ _ _) | exact (congrArg Prod.fst (va_up_ne _ _ (by omega))).trans (by assumption) | exact (congrFun (va_up_ne _ _ (by omega)) _).trans (by assumption) | exact (va_up_ne _ _ (by omega)).trans (va_up_self _ _ _) | exact (va_up_ne _ _ (by omega)).trans ((va_up_ne _ _ (by omega)).trans (by assumption)) | exact (congrArg Prod.fst ((va_up_ne _ _ (by omega)).trans (va_up_ne _ _ (by omega)))).trans (by assumption) | exact (congrFun ((va_up_ne _ _ (by omega)).trans (va_up_ne _ _ (by omega))) _).trans (by assumption) | (rw [va_up_self, va_up_ne _ _ (by omega)]; assumption)) ?_
    refine tk_iload1 dX10_blank_32 ?_
    refine tk_newS dX10_blank_33 nX10_136 (by omega) (by omega) ?_
    refine tk_dup dX10_blank_36 rfl ?_
    refine tk_iconst dX10_blank_37 kc_iconst_0 ?_
    refine tk_newaS (t := 20) dX10_blank_38 rfl (by omega) (by omega) tk_ac20 (by first | exact Or.inl rfl | exact Or.inr (Or.inl rfl) | exact Or.inr (Or.inr rfl)) (by omega) (by omega) (by omega) ?_
    refine tk_callI1y dX10_blank_40 kX10_147 (c_rowInit (l := 0) (by rw [va_up_ne _ _ (by omega), va_up_self]) (by rw [va_up_self])) (Nat.le_of_ble_eq_true rfl) (by omega) ?_
    refine tk_bnd (fun hb => ?_)
    dsimp only at hb
    have nw : cNw n T I L P (n + 1 + 1) (va_up (va_up T n (4, 2)) (n + 1) (20, 0)) (va_up (va_up (va_up I n fun _ => 0) (n + 1) fun _ => 0) n (va_up (va_up (va_up I n fun _ => 0) (n + 1) (fun _ => 0) n) 1 (nI 0))) (va_up (va_up L n fun _ => 0) (n + 1) fun _ => 0) (va_up (va_up (va_up P n fun _ => none) (n + 1) fun _ => none) n (va_up (va_up (va_up P n fun _ => none) (n + 1) (fun _ => none) n) 0 (some (n + 1)))) := ⟨by omega, fun q hq => by (have z0 : ¬ q = n := (by omega); have z1 : ¬ q = n + 1 := (by omega); have z2 : ¬ q = n + 1 + 1 := (by omega); have z3 : ¬ q = n + 1 + 1 + 1 := (by omega); have z4 : ¬ q = n + 1 + 1 + 1 + 1 := (by omega); have z5 : ¬ q = n + 1 + 1 + 1 + 1 + 1 := (by omega); have z6 : ¬ q = n + 1 + 1 + 1 + 1 + 1 + 1 := (by omega); have z7 : ¬ q = n + 1 + 1 + 1 + 1 + 1 + 1 + 1 := (by omega); simp only [tk_une z0, tk_une z1, tk_une z2, tk_une z3, tk_une z4, tk_une z5, tk_une z6, tk_une z7, and_self])⟩
    have rw2 : cRow (n + 1 + 1) (va_up (va_up T n (4, 2)) (n + 1) (20, 0)) (va_up (va_up (va_up I n fun _ => 0) (n + 1) fun _ => 0) n (va_up (va_up (va_up I n fun _ => 0) (n + 1) (fun _ => 0) n) 1 (nI 0))) (va_up (va_up (va_up P n fun _ => none) (n + 1) fun _ => none) n (va_up (va_up (va_up P n fun _ => none) (n + 1) (fun _ => none) n) 0 (some (n + 1)))) n 0 (fun i => J 47 (14 * s' + i)) := ⟨fz.new hn (by omega) (by omega), by rw [va_up_ne _ _ (by omega), va_up_self], n + 1, fz.new hn (by omega) (by omega), by rw [va_up_self, va_up_self], by rw [va_up_self], by rw [va_up_self, va_up_self], by omega, fun i hi => by omega⟩
    generalize hT2 : va_up (va_up T n (4, 2)) (n + 1) (20, 0) = T2 at *
    generalize hI2 : va_up (va_up (va_up I n fun _ => 0) (n + 1) fun _ => 0) n (va_up (va_up (va_up I n fun _ => 0) (n + 1) (fun _ => 0) n) 1 (nI 0)) = I2 at *
    generalize hL2 : va_up (va_up L n fun _ => 0) (n + 1) (fun _ => 0) = L2 at *
    generalize hP2 : va_up (va_up (va_up P n fun _ => none) (n + 1) fun _ => none) n (va_up (va_up (va_up P n fun _ => none) (n + 1) (fun _ => none) n) 0 (some (n + 1))) = P2 at *
    have ex := nw.ex
    have to2 := ht.ex ftw ex
    have t8 := to2.1
    have se2 := (nw.2 se fse.2)
    have f2 := ftw.2
    have f3 := fse.2
    refine tk_callV2s dX10_blank_43 kX10_143 (by first | assumption | exact va_up_self _ _ _ | exact (va_up_ne _ _ (by omega)).trans (by assumption) | exact congrArg Prod.fst (va_up_self _ _ _) | exact (congrArg Prod.fst (va_up_ne _ _ (by omega))).trans (by assumption) | exact (congrFun (va_up_ne _ _ (by omega)) _).trans (by assumption) | exact (va_up_ne _ _ (by omega)).trans (va_up_self _ _ _) | exact (va_up_ne _ _ (by omega)).trans ((va_up_ne _ _ (by omega)).trans (by assumption)) | exact (congrArg Prod.fst ((va_up_ne _ _ (by omega)).trans (va_up_ne _ _ (by omega)))).trans (by assumption) | exact (congrFun ((va_up_ne _ _ (by omega)).trans (va_up_ne _ _ (by omega))) _).trans (by assumption) | (rw [va_up_self, va_up_ne _ _ (by omega)]; assumption)) (c_withSentence (s := s') (ro := n) to2 (by omega) (by rw [se2.1]; exact se6) (by omega) (by omega) (fun i hi => by obtain ⟨ra, l, y1, y2, y3, -⟩ := sen_row hse hi; exact ⟨ra, by rw [se2.2.2.2]; exact y1, by rw [(nw.2 ra y3.2).1]; exact y2⟩) rw2.2.1 (fun x hx => hb x (by rw [hx]; decide)) (by omega)) (Nat.le_of_ble_eq_true rfl) (by omega) (by omega) (by omega) ?_
    rintro rr h1 ⟨T3, I3, L3, P3, rfl, rfl, nw3, to3, s1, s2⟩
    dsimp only [Option.toList, List.singleton_append]
    have nw13 := nw.tr nw3
    have st3 := hsc.st hn nw13
    have tn := tn_sen (x := J 47) (y := va_up (J 48) s' (nI 0)) hN' (show s' < 6 by omega) nw nw3 ht hpc hst hoa hse hpa hma rfl (by omega) to3 s1 s2 (l' := 0) (rw2.ex nw3.ex) (va_up_self _ _ _) (fun i hi e => va_up_ne _ _ e) (fun i hi e j hj => rfl)
    have t0 : (T3 0).1 = 10 := by rw [(nw13.2 0 (by omega)).1]; exact k0
    refine tk_callV1q dX10_blank_46 kX10_80 (by first | assumption | exact va_up_self _ _ _ | exact (va_up_ne _ _ (by omega)).trans (by assumption) | exact congrArg Prod.fst (va_up_self _ _ _) | exact (congrArg Prod.fst (va_up_ne _ _ (by omega))).trans (by assumption) | exact (congrFun (va_up_ne _ _ (by omega)) _).trans (by assumption) | exact (va_up_ne _ _ (by omega)).trans (va_up_self _ _ _) | exact (va_up_ne _ _ (by omega)).trans ((va_up_ne _ _ (by omega)).trans (by assumption)) | exact (congrArg Prod.fst ((va_up_ne _ _ (by omega)).trans (va_up_ne _ _ (by omega)))).trans (by assumption) | exact (congrFun ((va_up_ne _ _ (by omega)).trans (va_up_ne _ _ (by omega))) _).trans (by assumption) | (rw [va_up_self, va_up_ne _ _ (by omega)]; assumption)) (c_become (hR.st st3) hm0 hm tn) (Nat.le_of_ble_eq_true rfl) (by omega) ?_
    rintro rr h1 ⟨I4, P4, rfl, rfl, b1, b2, b3, b4⟩
    dsimp only [Option.toList, List.nil_append]
    refine tk_iload2 dX10_blank_49 ?_
    refine tk_ireturn dX10_blank_50 rfl ?_
    refine BC_pst (st3.kp hn) b1 b2 b4 (by simp [rBlC, *]) (by rw [hix]; exact q4.symm) ?_
    rw [hix]
    have e47 : va_up (rKp J m) 47 (J 47) = rKp J m := tk_uid (rKp_an (by omega) (by omega))
    have := bJ_sen (J := J) (m := m) (x := J 47) (y := va_up (J 48) s' (nI 0))
    rw [e47] at this
    exact this
  · refine tk_aload0 dX10_blank_7 ?_
    refine tk_ldc dX10_blank_8 klX10_65 ?_
    refine tk_callV1z dX10_blank_10 kX10_66 (by first | assumption | exact va_up_self _ _ _ | exact (va_up_ne _ _ (by omega)).trans (by assumption) | exact congrArg Prod.fst (va_up_self _ _ _) | exact (congrArg Prod.fst (va_up_ne _ _ (by omega))).trans (by assumption) | exact (congrFun (va_up_ne _ _ (by omega)) _).trans (by assumption) | exact (va_up_ne _ _ (by omega)).trans (va_up_self _ _ _) | exact (va_up_ne _ _ (by omega)).trans ((va_up_ne _ _ (by omega)).trans (by assumption)) | exact (congrArg Prod.fst ((va_up_ne _ _ (by omega)).trans (va_up_ne _ _ (by omega)))).trans (by assumption) | exact (congrFun ((va_up_ne _ _ (by omega)).trans (va_up_ne _ _ (by omega))) _).trans (by assumption) | (rw [va_up_self, va_up_ne _ _ (by omega)]; assumption)) (c_finding hk _) (Nat.le_of_ble_eq_true rfl) (by omega) ?_
    refine tk_ireturn dX10_blank_13 rfl ?_
    exact cPst_f (by simp [rBlC, *]) hR cKp.rf
end ACTS3
