/-! ===== the class: leaves ===== -/
theorem tk_min {G : tkG} {C : tkC} {d mc ms pc pc' idx : Nat} {ls : List (Option tkV)} {rest : List tkV} {h : tkH} {Q : Option tkV → tkH → Prop} {x y : Int32} (hd : tkD C pc (.invokestatic idx) 3 pc') (hl : Cond.methodLink C.1.cls idx Lib.Math.min.name ∈ tk_tbl) (hw : Cond.static Lib.Math.min.name ∈ tk_tbl ∧ Cond.initialized "java/lang/Math" ∈ tk_tbl ∧ Cond.code Lib.Math.min.name Lib.Math.min.code 2 (some .int) ∈ tk_tbl) (hr : (rest.map tkcat).sum ≤ 8) (hdd : 1 ≤ d) (kk : tkX G C d mc ms pc' ls (vI (if y < x then y else x) :: rest) h Q) : tkX G C d mc ms pc ls (vI y :: vI x :: rest) h Q := by
  obtain ⟨hd, rfl⟩ := hd
  refine tkX_i ?_
  intro p l e R s m args below meth c0 H locs cells slots Z LS A LL Rp
  have E := A.1
  obtain ⟨-, hF, MC, MS, hB1, hB2, hB3, hB4, hB5⟩ := A
  have hts := E.2.2.2.2.2.1
  have h8 := tkcat_sum G rest
  have h9 : 60 * d ≤ R.locals := E.2.2.2.2.2.2.2.2.2.1
  exact va_mmin E.1 E.2.1 (by rw [E.2.2.1]; exact LL.2.1.symm) E.2.2.2.2.1 (hts _ hl) (hts _ hw.1) (hts _ hw.2.1) (hts _ hw.2.2) (Nat.le_trans hdd E.2.2.2.2.2.2.2.2.1) (by rw [h8]; omega) (by omega) (by omega) hd (tkX_e kk p l e R s m args below meth c0 H locs cells slots Z LS ⟨E, hF, MC, MS, hB1, hB2, hB3, hB4, hB5⟩ LL Rp)
theorem tk_mnw : Cond.static Lib.Math.min.name ∈ tk_tbl ∧ Cond.initialized "java/lang/Math" ∈ tk_tbl ∧ Cond.code Lib.Math.min.name Lib.Math.min.code 2 (some .int) ∈ tk_tbl := ⟨tk_in 332 (by decide +kernel) rfl, tk_in 12 (by decide +kernel) rfl, tk_in 333 (by decide +kernel) rfl⟩
theorem tk_mn370 : Cond.methodLink "TownKnows" 370 Lib.Math.min.name ∈ tk_tbl := tk_in 331 (by decide +kernel) rfl
theorem tk_mn304 : Cond.methodLink "java/util/Arrays" 304 Lib.Math.min.name ∈ tk_tbl := tk_in 400 (by decide +kernel) rfl
theorem min_nI {x y : Nat} (hx : x < 2 ^ 31) (hy : y < 2 ^ 31) : (if nI y < nI x then nI y else nI x) = nI (if x ≤ y then x else y) := by
  by_cases h : x ≤ y
  · rw [if_pos h, if_neg (fun q => by have := (nI_ltI hy hx).mp q; omega)]
  · rw [if_neg h, if_pos ((nI_ltI hy hx).mpr (by omega))]
section LEAF
variable {G : tkG} {n : Nat} {T : Nat → Nat × Nat} {I : Nat → Nat → Int32} {L : Nat → Nat → Int64} {P : Nat → Nat → Option Nat}
theorem j_fillI {a len : Nat} {x : Int32} (ht : T a = (20, len)) (hl : len < 2 ^ 31) : tkM G mJ7_fill_53178 0 0 0 [vR a, vI x] (n, T, I, L, P) (tkF none (n, T, va_up I a (tkcp (I a) (fun _ => x) len), L, P)) := by
  refine tkM.of (ls := [some _, some _, none, none]) (by decide +kernel) (by decide +kernel) (Nat.le_of_ble_eq_true rfl) rfl ?_
  refine tk_iconst dJ7_fill_53178_0 kc_iconst_0 ?_
  refine tk_istore2 dJ7_fill_53178_1 rfl ?_
  refine tk_aload0 dJ7_fill_53178_2 ?_
  refine tk_alen dJ7_fill_53178_3 (by first | assumption | exact va_up_self _ _ _ | exact (va_up_ne _ _ (by omega)).trans (by assumption) | exact congrArg Prod.fst (va_up_self _ _ _) | exact (congrArg Prod.fst (va_up_ne _ _ (by omega))).trans (by assumption) | exact (congrFun (va_up_ne _ _ (by omega)) _).trans (by assumption) | exact (va_up_ne _ _ (by omega)).trans (va_up_self _ _ _) | exact (va_up_ne _ _ (by omega)).trans ((va_up_ne _ _ (by omega)).trans (by assumption)) | exact (congrArg Prod.fst ((va_up_ne _ _ (by omega)).trans (va_up_ne _ _ (by omega)))).trans (by assumption) | exact (congrFun ((va_up_ne _ _ (by omega)).trans (va_up_ne _ _ (by omega))) _).trans (by assumption) | (rw [va_up_self, va_up_ne _ _ (by omega)]; assumption)) (by omega) ?_
  refine tk_istore3 dJ7_fill_53178_4 rfl ?_
  refine tk_fr 0 len (fun i => [some (vR a), some (vI x), some (vI (nI i)), some (vI (nI len))]) (fun i => (n, T, va_up I a (tkcp (I a) (fun _ => x) i), L, P)) (by omega) (by repeat' (first | exact trivial | refine ⟨Or.inl rfl, ?_⟩ | refine ⟨Or.inr rfl, ?_⟩)) (by rw [tkcp_0, tk_up_id]) ?_ ?_
  · refine tk_iload2 dJ7_fill_53178_5 ?_
    refine tk_iload3 dJ7_fill_53178_6 ?_
    first | refine tk_icmp_geN dJ7_fill_53178_7 (by omega) (by omega) (fun h7 => ?_) (fun h7 => ?_) | refine tk_jcmp_ge dJ7_fill_53178_7 (fun h7 => ?_) (fun h7 => ?_)
    · refine tk_return dJ7_fill_53178_20 rfl ?_
      exact ⟨rfl, rfl⟩
    · exfalso; omega
  · intro i _ hi k
    refine tk_iload2 dJ7_fill_53178_5 ?_
    refine tk_iload3 dJ7_fill_53178_6 ?_
    first | refine tk_icmp_geN dJ7_fill_53178_7 (by omega) (by omega) (fun h7 => ?_) (fun h7 => ?_) | refine tk_jcmp_ge dJ7_fill_53178_7 (fun h7 => ?_) (fun h7 => ?_)
    · exfalso; omega
    · refine tk_aload0 dJ7_fill_53178_10 ?_
      refine tk_iload2 dJ7_fill_53178_11 ?_
      refine tk_iload1 dJ7_fill_53178_12 ?_
      refine tk_iast dJ7_fill_53178_13 (by first | assumption | exact va_up_self _ _ _ | exact (va_up_ne _ _ (by omega)).trans (by assumption) | exact congrArg Prod.fst (va_up_self _ _ _) | exact (congrArg Prod.fst (va_up_ne _ _ (by omega))).trans (by assumption) | exact (congrFun (va_up_ne _ _ (by omega)) _).trans (by assumption) | exact (va_up_ne _ _ (by omega)).trans (va_up_self _ _ _) | exact (va_up_ne _ _ (by omega)).trans ((va_up_ne _ _ (by omega)).trans (by assumption)) | exact (congrArg Prod.fst ((va_up_ne _ _ (by omega)).trans (va_up_ne _ _ (by omega)))).trans (by assumption) | exact (congrFun ((va_up_ne _ _ (by omega)).trans (va_up_ne _ _ (by omega))) _).trans (by assumption) | (rw [va_up_self, va_up_ne _ _ (by omega)]; assumption)) (by omega) (by omega) ?_
      rw [bx_uu, va_up_self, tkcp_s (I a) (fun _ => x)]
      first | refine tk_iinc2 dJ7_fill_53178_14 (kc_inc _) rfl ?_ | refine tk_iinc2 dJ7_fill_53178_14 rfl rfl ?_
      refine tk_goto dJ7_fill_53178_17 ?_
      exact k _ (by repeat' (first | exact trivial | refine ⟨Or.inl rfl, ?_⟩ | refine ⟨Or.inr rfl, ?_⟩))
theorem j_fillL {a len : Nat} {x : Int64} (ht : T a = (21, len)) (hl : len < 2 ^ 31) : tkM G mJ7_fill_d0a16 0 0 0 [vR a, vL x] (n, T, I, L, P) (tkF none (n, T, I, va_up L a (tkcp (L a) (fun _ => x) len), P)) := by
  refine tkM.of (ls := [some _, some _, none, none, none]) (by decide +kernel) (by decide +kernel) (Nat.le_of_ble_eq_true rfl) rfl ?_
  refine tk_iconst dJ7_fill_d0a16_0 kc_iconst_0 ?_
  refine tk_istore3 dJ7_fill_d0a16_1 rfl ?_
  refine tk_aload0 dJ7_fill_d0a16_2 ?_
  refine tk_alen dJ7_fill_d0a16_3 (by first | assumption | exact va_up_self _ _ _ | exact (va_up_ne _ _ (by omega)).trans (by assumption) | exact congrArg Prod.fst (va_up_self _ _ _) | exact (congrArg Prod.fst (va_up_ne _ _ (by omega))).trans (by assumption) | exact (congrFun (va_up_ne _ _ (by omega)) _).trans (by assumption) | exact (va_up_ne _ _ (by omega)).trans (va_up_self _ _ _) | exact (va_up_ne _ _ (by omega)).trans ((va_up_ne _ _ (by omega)).trans (by assumption)) | exact (congrArg Prod.fst ((va_up_ne _ _ (by omega)).trans (va_up_ne _ _ (by omega)))).trans (by assumption) | exact (congrFun ((va_up_ne _ _ (by omega)).trans (va_up_ne _ _ (by omega))) _).trans (by assumption) | (rw [va_up_self, va_up_ne _ _ (by omega)]; assumption)) (by omega) ?_
  refine tk_istore4 dJ7_fill_d0a16_4 rfl ?_
  refine tk_fr 0 len (fun i => [some (vR a), some (vL x), none, some (vI (nI i)), some (vI (nI len))]) (fun i => (n, T, I, va_up L a (tkcp (L a) (fun _ => x) i), P)) (by omega) (by repeat' (first | exact trivial | refine ⟨Or.inl rfl, ?_⟩ | refine ⟨Or.inr rfl, ?_⟩)) (by rw [tkcp_0, tk_up_id]) ?_ ?_
  · refine tk_iload3 dJ7_fill_d0a16_6 ?_
    refine tk_iload4 dJ7_fill_d0a16_7 ?_
    first | refine tk_icmp_geN dJ7_fill_d0a16_9 (by omega) (by omega) (fun h9 => ?_) (fun h9 => ?_) | refine tk_jcmp_ge dJ7_fill_d0a16_9 (fun h9 => ?_) (fun h9 => ?_)
    · refine tk_return dJ7_fill_d0a16_22 rfl ?_
      exact ⟨rfl, rfl⟩
    · exfalso; omega
  · intro i _ hi k
    refine tk_iload3 dJ7_fill_d0a16_6 ?_
    refine tk_iload4 dJ7_fill_d0a16_7 ?_
    first | refine tk_icmp_geN dJ7_fill_d0a16_9 (by omega) (by omega) (fun h9 => ?_) (fun h9 => ?_) | refine tk_jcmp_ge dJ7_fill_d0a16_9 (fun h9 => ?_) (fun h9 => ?_)
    · exfalso; omega
    · refine tk_aload0 dJ7_fill_d0a16_12 ?_
      refine tk_iload3 dJ7_fill_d0a16_13 ?_
      refine tk_lload1 dJ7_fill_d0a16_14 ?_
      refine tk_last dJ7_fill_d0a16_15 (by first | assumption | exact va_up_self _ _ _ | exact (va_up_ne _ _ (by omega)).trans (by assumption) | exact congrArg Prod.fst (va_up_self _ _ _) | exact (congrArg Prod.fst (va_up_ne _ _ (by omega))).trans (by assumption) | exact (congrFun (va_up_ne _ _ (by omega)) _).trans (by assumption) | exact (va_up_ne _ _ (by omega)).trans (va_up_self _ _ _) | exact (va_up_ne _ _ (by omega)).trans ((va_up_ne _ _ (by omega)).trans (by assumption)) | exact (congrArg Prod.fst ((va_up_ne _ _ (by omega)).trans (va_up_ne _ _ (by omega)))).trans (by assumption) | exact (congrFun ((va_up_ne _ _ (by omega)).trans (va_up_ne _ _ (by omega))) _).trans (by assumption) | (rw [va_up_self, va_up_ne _ _ (by omega)]; assumption)) (by omega) (by omega) ?_
      rw [bx_uu, va_up_self, tkcp_s (L a) (fun _ => x)]
      first | refine tk_iinc3 dJ7_fill_d0a16_16 (kc_inc _) rfl ?_ | refine tk_iinc3 dJ7_fill_d0a16_16 rfl rfl ?_
      refine tk_goto dJ7_fill_d0a16_19 ?_
      exact k _ (by repeat' (first | exact trivial | refine ⟨Or.inl rfl, ?_⟩ | refine ⟨Or.inr rfl, ?_⟩))
theorem j_copyOf {a len k : Nat} (ht : T a = (20, len)) (ha : a < n) (hl : len ≤ 100000) (hk : k ≤ 100000) : tkM G mJ7_copyOf_59c91 2 1 k [vR a, vI (nI k)] (n, T, I, L, P) (fun r h => ∃ g fl fp, r = some (vR n) ∧ h = (n + 1, va_up T n (20, k), va_up I n g, va_up L n fl, va_up P n fp) ∧ ∀ j, j < len → j < k → g j = I a j) := by
  refine tkM.of (ls := [some _, some _, none]) (by decide +kernel) (by decide +kernel) (Nat.le_of_ble_eq_true rfl) rfl ?_
  refine tk_iload1 dJ7_copyOf_59c91_0 ?_
  refine tk_aload0 dJ7_copyOf_59c91_1 ?_
  refine tk_alen dJ7_copyOf_59c91_2 (by first | assumption | exact va_up_self _ _ _ | exact (va_up_ne _ _ (by omega)).trans (by assumption) | exact congrArg Prod.fst (va_up_self _ _ _) | exact (congrArg Prod.fst (va_up_ne _ _ (by omega))).trans (by assumption) | exact (congrFun (va_up_ne _ _ (by omega)) _).trans (by assumption) | exact (va_up_ne _ _ (by omega)).trans (va_up_self _ _ _) | exact (va_up_ne _ _ (by omega)).trans ((va_up_ne _ _ (by omega)).trans (by assumption)) | exact (congrArg Prod.fst ((va_up_ne _ _ (by omega)).trans (va_up_ne _ _ (by omega)))).trans (by assumption) | exact (congrFun ((va_up_ne _ _ (by omega)).trans (va_up_ne _ _ (by omega))) _).trans (by assumption) | (rw [va_up_self, va_up_ne _ _ (by omega)]; assumption)) (by omega) ?_
  first | refine tk_icmp_neN dJ7_copyOf_59c91_3 (by omega) (by omega) (fun h3 => ?_) (fun h3 => ?_) | refine tk_icmp_ne dJ7_copyOf_59c91_3 (fun h3 => ?_) (fun h3 => ?_)
  · refine tk_iload1 dJ7_copyOf_59c91_14 ?_
    refine tk_newaS (t := 20) dJ7_copyOf_59c91_15 rfl (by omega) (by omega) tk_ac20 (by first | exact Or.inl rfl | exact Or.inr (Or.inl rfl) | exact Or.inr (Or.inr rfl)) (by omega) (by omega) (by omega) ?_
    refine tk_astore2 dJ7_copyOf_59c91_17 rfl ?_
    refine tk_aload0 dJ7_copyOf_59c91_18 ?_
    refine tk_iconst dJ7_copyOf_59c91_19 kc_iconst_0 ?_
    refine tk_aload2 dJ7_copyOf_59c91_20 ?_
    refine tk_iconst dJ7_copyOf_59c91_21 kc_iconst_0 ?_
    refine tk_aload0 dJ7_copyOf_59c91_22 ?_
    refine tk_alen dJ7_copyOf_59c91_23 (by first | assumption | exact va_up_self _ _ _ | exact (va_up_ne _ _ (by omega)).trans (by assumption) | exact congrArg Prod.fst (va_up_self _ _ _) | exact (congrArg Prod.fst (va_up_ne _ _ (by omega))).trans (by assumption) | exact (congrFun (va_up_ne _ _ (by omega)) _).trans (by assumption) | exact (va_up_ne _ _ (by omega)).trans (va_up_self _ _ _) | exact (va_up_ne _ _ (by omega)).trans ((va_up_ne _ _ (by omega)).trans (by assumption)) | exact (congrArg Prod.fst ((va_up_ne _ _ (by omega)).trans (va_up_ne _ _ (by omega)))).trans (by assumption) | exact (congrFun ((va_up_ne _ _ (by omega)).trans (va_up_ne _ _ (by omega))) _).trans (by assumption) | (rw [va_up_self, va_up_ne _ _ (by omega)]; assumption)) (by omega) ?_
    refine tk_iload1 dJ7_copyOf_59c91_24 ?_
    refine tk_min dJ7_copyOf_59c91_25 tk_mn304 tk_mnw (Nat.le_of_ble_eq_true rfl) (by omega) ?_
    rw [min_nI (by omega) (by omega)]
    refine tk_copyi (n0 := len) (n1 := k) dJ7_copyOf_59c91_28 tk_cp150 tk_cpw (by rw [va_up_ne _ _ (by omega)]; exact ht) (va_up_self _ _ _) (by omega) (by split <;> omega) (by split <;> omega) (Nat.le_of_ble_eq_true rfl) (by omega) ?_
    rw [bx_uu]
    refine tk_aload2 dJ7_copyOf_59c91_31 ?_
    refine tk_areturn dJ7_copyOf_59c91_32 rfl (by first | exact Or.inl ⟨_, rfl⟩ | exact Or.inr ⟨_, rfl⟩) ?_
    refine ⟨_, _, _, rfl, rfl, fun j j1 j2 => ?_⟩
    rw [pk_cpy_in (by omega) (by split <;> omega), va_up_ne _ _ (by omega)]; congr 1; omega
  · refine tk_aload0 dJ7_copyOf_59c91_6 ?_
    refine tk_clone dJ7_copyOf_59c91_7 tk_cl316 tk_clw ht (Nat.le_of_ble_eq_true rfl) (by omega) (by omega) (by omega) ?_
    refine tk_castI dJ7_copyOf_59c91_10 tk_cc317 (va_up_self _ _ _) ?_
    refine tk_areturn dJ7_copyOf_59c91_13 rfl (by first | exact Or.inl ⟨_, rfl⟩ | exact Or.inr ⟨_, rfl⟩) ?_
    subst h3
    exact ⟨_, _, _, rfl, rfl, fun j _ _ => rfl⟩
theorem c_within (v lo hi : Int32) {h : tkH} : tkM G mX10_within 0 0 0 [vI v, vI lo, vI hi] h (tkF (some (vI (tkb (rIn v lo hi)))) h) := by
  refine tkM.of (ls := [some _, some _, some _]) (by decide +kernel) (by decide +kernel) (Nat.le_of_ble_eq_true rfl) rfl ?_
  refine tk_iload0 dX10_within_0 ?_
  refine tk_iload1 dX10_within_1 ?_
  first | refine tk_icmp_ltN dX10_within_2 (by omega) (by omega) (fun h2 => ?_) (fun h2 => ?_) | refine tk_jcmp_lt dX10_within_2 (fun h2 => ?_) (fun h2 => ?_)
  · refine tk_iconst dX10_within_14 kc_iconst_0 ?_
    first | refine tk_zreturn dX10_within_15 rfl ?_ | refine tk_zret0 dX10_within_15 rfl ?_ | refine tk_zret1 dX10_within_15 rfl ?_
    exact tkz (by rw [Bool.eq_iff_iff]; simp only [rIn, rPer, Bool.and_eq_true, Bool.or_eq_true, Bool.not_eq_true', decide_eq_true_eq, Int32.lt_iff_toInt_lt, Int32.le_iff_toInt_le, ← Int32.toInt_inj, nI_toInt, Bool.false_eq_true, true_iff, false_iff, iff_true, iff_false] at *; omega)
  · refine tk_iload0 dX10_within_5 ?_
    refine tk_iload2 dX10_within_6 ?_
    first | refine tk_icmp_gtN dX10_within_7 (by omega) (by omega) (fun h7 => ?_) (fun h7 => ?_) | refine tk_jcmp_gt dX10_within_7 (fun h7 => ?_) (fun h7 => ?_)
    · refine tk_iconst dX10_within_14 kc_iconst_0 ?_
      first | refine tk_zreturn dX10_within_15 rfl ?_ | refine tk_zret0 dX10_within_15 rfl ?_ | refine tk_zret1 dX10_within_15 rfl ?_
      exact tkz (by rw [Bool.eq_iff_iff]; simp only [rIn, rPer, Bool.and_eq_true, Bool.or_eq_true, Bool.not_eq_true', decide_eq_true_eq, Int32.lt_iff_toInt_lt, Int32.le_iff_toInt_le, ← Int32.toInt_inj, nI_toInt, Bool.false_eq_true, true_iff, false_iff, iff_true, iff_false] at *; omega)
    · refine tk_iconst dX10_within_10 kc_iconst_1 ?_
      refine tk_goto dX10_within_11 ?_
      first | refine tk_zreturn dX10_within_15 rfl ?_ | refine tk_zret0 dX10_within_15 rfl ?_ | refine tk_zret1 dX10_within_15 rfl ?_
      exact tkz (by rw [Bool.eq_iff_iff]; simp only [rIn, rPer, Bool.and_eq_true, Bool.or_eq_true, Bool.not_eq_true', decide_eq_true_eq, Int32.lt_iff_toInt_lt, Int32.le_iff_toInt_le, ← Int32.toInt_inj, nI_toInt, Bool.false_eq_true, true_iff, false_iff, iff_true, iff_false] at *; omega)
theorem c_isIn {k : Nat} (hk : k < 64) (x : Int64) {h : tkH} : tkM G mX10_isIn 0 0 0 [vI (nI k), vL x] h (tkF (some (vI (tkb (tb x k)))) h) := by
  refine tkM.of (ls := [some _, some _, none]) (by decide +kernel) (by decide +kernel) (Nat.le_of_ble_eq_true rfl) rfl ?_
  refine tk_lload1 dX10_isIn_0 ?_
  refine tk_iload0 dX10_isIn_1 ?_
  refine tk_lushr dX10_isIn_2 ?_
  refine tk_lconst dX10_isIn_3 (v := 1) (by decide) ?_
  refine tk_land dX10_isIn_4 ?_
  refine tk_lconst dX10_isIn_5 (v := 0) (by decide) ?_
  refine tk_lcmp dX10_isIn_6 ?_
  first | refine tk_jf_eqB dX10_isIn_7 (fun h7 => ?_) (fun h7 => ?_) | refine tk_if_eq dX10_isIn_7 (fun h7 => ?_) (fun h7 => ?_)
  · refine tk_iconst dX10_isIn_14 kc_iconst_0 ?_
    first | refine tk_zreturn dX10_isIn_15 rfl ?_ | refine tk_zret0 dX10_isIn_15 rfl ?_ | refine tk_zret1 dX10_isIn_15 rfl ?_
    rw [tb_u0 x hk] at h7
    exact tkz (by first | exact h7.symm | (cases e : tb x k with | true => rfl | false => exact absurd e h7))
  · refine tk_iconst dX10_isIn_10 kc_iconst_1 ?_
    refine tk_goto dX10_isIn_11 ?_
    first | refine tk_zreturn dX10_isIn_15 rfl ?_ | refine tk_zret0 dX10_isIn_15 rfl ?_ | refine tk_zret1 dX10_isIn_15 rfl ?_
    rw [tb_u0 x hk] at h7
    exact tkz (by first | exact h7.symm | (cases e : tb x k with | true => rfl | false => exact absurd e h7))
theorem c_isSentence (s : Int32) {h : tkH} : tkM G mX10_isSentence 1 0 0 [vI s] h (tkF (some (vI (tkb (rIn s (nI 0) (nI 5))))) h) := by
  refine tkM.of (ls := [some _]) (by decide +kernel) (by decide +kernel) (Nat.le_of_ble_eq_true rfl) rfl ?_
  refine tk_iload0 dX10_isSentence_0 ?_
  refine tk_iconst dX10_isSentence_1 kc_iconst_0 ?_
  refine tk_iconst dX10_isSentence_2 kc_iconst_5 ?_
  refine tk_callS3z dX10_isSentence_3 kX10_61 (c_within _ _ _) (Nat.le_of_ble_eq_true rfl) (by omega) ?_
  first | refine tk_zreturn dX10_isSentence_6 rfl ?_ | refine tk_zret0 dX10_isSentence_6 rfl ?_ | refine tk_zret1 dX10_isSentence_6 rfl ?_
  exact ⟨rfl, rfl⟩
theorem c_isGroup (s : Int32) {h : tkH} : tkM G mX10_isGroup 1 0 0 [vI s] h (tkF (some (vI (tkb (rIn s (nI 0) (nI 2))))) h) := by
  refine tkM.of (ls := [some _]) (by decide +kernel) (by decide +kernel) (Nat.le_of_ble_eq_true rfl) rfl ?_
  refine tk_iload0 dX10_isGroup_0 ?_
  refine tk_iconst dX10_isGroup_1 kc_iconst_0 ?_
  refine tk_iconst dX10_isGroup_2 kc_iconst_2 ?_
  refine tk_callS3z dX10_isGroup_3 kX10_61 (c_within _ _ _) (Nat.le_of_ble_eq_true rfl) (by omega) ?_
  first | refine tk_zreturn dX10_isGroup_6 rfl ?_ | refine tk_zret0 dX10_isGroup_6 rfl ?_ | refine tk_zret1 dX10_isGroup_6 rfl ?_
  exact ⟨rfl, rfl⟩
theorem c_isSheet (s : Int32) {h : tkH} : tkM G mX10_isSheet 1 0 0 [vI s] h (tkF (some (vI (tkb (rIn s (nI 0) (nI 3))))) h) := by
  refine tkM.of (ls := [some _]) (by decide +kernel) (by decide +kernel) (Nat.le_of_ble_eq_true rfl) rfl ?_
  refine tk_iload0 dX10_isSheet_0 ?_
  refine tk_iconst dX10_isSheet_1 kc_iconst_0 ?_
  refine tk_iconst dX10_isSheet_2 kc_iconst_3 ?_
  refine tk_callS3z dX10_isSheet_3 kX10_61 (c_within _ _ _) (Nat.le_of_ble_eq_true rfl) (by omega) ?_
  first | refine tk_zreturn dX10_isSheet_6 rfl ?_ | refine tk_zret0 dX10_isSheet_6 rfl ?_ | refine tk_zret1 dX10_isSheet_6 rfl ?_
  exact ⟨rfl, rfl⟩
theorem c_isFactSign (v : Int32) {h : tkH} : tkM G mX7_isFactSign 1 0 0 [vI v] h (tkF (some (vI (tkb (rIn v (nI 0) (nI 3))))) h) := by
  refine tkM.of (ls := [some _]) (by decide +kernel) (by decide +kernel) (Nat.le_of_ble_eq_true rfl) rfl ?_
  refine tk_iload0 dX7_isFactSign_0 ?_
  refine tk_iconst dX7_isFactSign_1 kc_iconst_0 ?_
  refine tk_iconst dX7_isFactSign_2 kc_iconst_3 ?_
  refine tk_callSN3z dX7_isFactSign_3 kX7_15 (c_within _ _ _) (Nat.le_of_ble_eq_true rfl) (by omega) ?_
  first | refine tk_zreturn dX7_isFactSign_6 rfl ?_ | refine tk_zret0 dX7_isFactSign_6 rfl ?_ | refine tk_zret1 dX7_isFactSign_6 rfl ?_
  exact ⟨rfl, rfl⟩
theorem c_isSign (v : Int32) {h : tkH} : tkM G mX7_isSign 2 0 0 [vI v] h (tkF (some (vI (tkb (rSign v)))) h) := by
  refine tkM.of (ls := [some _]) (by decide +kernel) (by decide +kernel) (Nat.le_of_ble_eq_true rfl) rfl ?_
  refine tk_iload0 dX7_isSign_0 ?_
  refine tk_callS1z dX7_isSign_1 kX7_9 (c_isFactSign _) (Nat.le_of_ble_eq_true rfl) (by omega) ?_
  first | refine tk_jf_neB dX7_isSign_4 (fun h4 => ?_) (fun h4 => ?_) | refine tk_if_ne dX7_isSign_4 (fun h4 => ?_) (fun h4 => ?_)
  · refine tk_iconst dX7_isSign_29 kc_iconst_1 ?_
    refine tk_goto dX7_isSign_30 ?_
    first | refine tk_zreturn dX7_isSign_34 rfl ?_ | refine tk_zret0 dX7_isSign_34 rfl ?_ | refine tk_zret1 dX7_isSign_34 rfl ?_
    exact tkz (by simp_all [rSign])
  · refine tk_iload0 dX7_isSign_7 ?_
    refine tk_bipush dX7_isSign_8 kc_bipush_10 ?_
    refine tk_bipush dX7_isSign_10 kc_bipush_14 ?_
    refine tk_callSN3z dX7_isSign_12 kX7_15 (c_within _ _ _) (Nat.le_of_ble_eq_true rfl) (by omega) ?_
    first | refine tk_jf_neB dX7_isSign_15 (fun h15 => ?_) (fun h15 => ?_) | refine tk_if_ne dX7_isSign_15 (fun h15 => ?_) (fun h15 => ?_)
    · refine tk_iconst dX7_isSign_29 kc_iconst_1 ?_
      refine tk_goto dX7_isSign_30 ?_
      first | refine tk_zreturn dX7_isSign_34 rfl ?_ | refine tk_zret0 dX7_isSign_34 rfl ?_ | refine tk_zret1 dX7_isSign_34 rfl ?_
      exact tkz (by simp_all [rSign])
    · refine tk_iload0 dX7_isSign_18 ?_
      refine tk_bipush dX7_isSign_19 kc_bipush_20 ?_
      refine tk_bipush dX7_isSign_21 kc_bipush_40 ?_
      refine tk_callSN3z dX7_isSign_23 kX7_15 (c_within _ _ _) (Nat.le_of_ble_eq_true rfl) (by omega) ?_
      first | refine tk_jf_eqB dX7_isSign_26 (fun h26 => ?_) (fun h26 => ?_) | refine tk_if_eq dX7_isSign_26 (fun h26 => ?_) (fun h26 => ?_)
      · refine tk_iconst dX7_isSign_33 kc_iconst_0 ?_
        first | refine tk_zreturn dX7_isSign_34 rfl ?_ | refine tk_zret0 dX7_isSign_34 rfl ?_ | refine tk_zret1 dX7_isSign_34 rfl ?_
        exact tkz (by simp_all [rSign])
      · refine tk_iconst dX7_isSign_29 kc_iconst_1 ?_
        refine tk_goto dX7_isSign_30 ?_
        first | refine tk_zreturn dX7_isSign_34 rfl ?_ | refine tk_zret0 dX7_isSign_34 rfl ?_ | refine tk_zret1 dX7_isSign_34 rfl ?_
        exact tkz (by simp_all [rSign])
theorem c_takesN {k : Nat} (hk : k ≤ 3 ∨ (10 ≤ k ∧ k ≤ 14) ∨ (20 ≤ k ∧ k ≤ 40)) {h : tkH} : tkM G mX7_takes 0 0 0 [vI (nI k)] h (tkF (some (vI (nI (rTkN k)))) h) := by
  refine tkM.of (ls := [some _]) (by decide +kernel) (by decide +kernel) (Nat.le_of_ble_eq_true rfl) rfl ?_
  refine tk_iload0 dX7_takes_0 ?_
  refine tk_bipush dX7_takes_1 kc_bipush_10 ?_
  first | refine tk_icmp_geN dX7_takes_3 (by omega) (by omega) (fun h3 => ?_) (fun h3 => ?_) | refine tk_jcmp_ge dX7_takes_3 (fun h3 => ?_) (fun h3 => ?_)
  · refine tk_iload0 dX7_takes_8 ?_
    refine tk_bipush dX7_takes_9 kc_bipush_10 ?_
    first | refine tk_icmp_leN dX7_takes_11 (by omega) (by omega) (fun h11 => ?_) (fun h11 => ?_) | refine tk_jcmp_le dX7_takes_11 (fun h11 => ?_) (fun h11 => ?_)
    · refine tk_iconst dX7_takes_24 kc_iconst_1 ?_
      refine tk_ireturn dX7_takes_25 rfl ?_
      exact tki (by unfold rTkN; first | rw [if_pos (by omega)] | rw [if_neg (by omega), if_pos (by omega)] | rw [if_neg (by omega), if_neg (by omega)])
    · refine tk_iload0 dX7_takes_14 ?_
      refine tk_bipush dX7_takes_15 kc_bipush_20 ?_
      first | refine tk_icmp_geN dX7_takes_17 (by omega) (by omega) (fun h17 => ?_) (fun h17 => ?_) | refine tk_jcmp_ge dX7_takes_17 (fun h17 => ?_) (fun h17 => ?_)
      · refine tk_iconst dX7_takes_24 kc_iconst_1 ?_
        refine tk_ireturn dX7_takes_25 rfl ?_
        exact tki (by unfold rTkN; first | rw [if_pos (by omega)] | rw [if_neg (by omega), if_pos (by omega)] | rw [if_neg (by omega), if_neg (by omega)])
      · refine tk_iconst dX7_takes_20 kc_iconst_2 ?_
        refine tk_goto dX7_takes_21 ?_
        refine tk_ireturn dX7_takes_25 rfl ?_
        exact tki (by unfold rTkN; first | rw [if_pos (by omega)] | rw [if_neg (by omega), if_pos (by omega)] | rw [if_neg (by omega), if_neg (by omega)])
  · refine tk_iconst dX7_takes_6 kc_iconst_0 ?_
    refine tk_ireturn dX7_takes_7 rfl ?_
    exact tki (by unfold rTkN; first | rw [if_pos (by omega)] | rw [if_neg (by omega), if_pos (by omega)] | rw [if_neg (by omega), if_neg (by omega)])
theorem c_takes {v : Int32} (hv : rSign v = true) {h : tkH} : tkM G mX7_takes 0 0 0 [vI v] h (tkF (some (vI (rTk v))) h) := by
  obtain ⟨k, rfl, hk⟩ := rSign_of hv
  rw [rTk_nI (by omega)]
  exact c_takesN hk
theorem c_personOf {k : Nat} (h1 : 20 ≤ k) (h2 : k ≤ 40) {h : tkH} : tkM G mX7_personOf 0 0 0 [vI (nI k)] h (tkF (some (vI (nI (k % 4)))) h) := by
  refine tkM.of (ls := [some _]) (by decide +kernel) (by decide +kernel) (Nat.le_of_ble_eq_true rfl) rfl ?_
  refine tk_iload0 dX7_personOf_0 ?_
  refine tk_bipush dX7_personOf_1 kc_bipush_20 ?_
  first | refine tk_isubN dX7_personOf_3 (by omega) ?_ | refine tk_isub dX7_personOf_3 ?_
  refine tk_iconst dX7_personOf_4 kc_iconst_4 ?_
  first | refine tk_iremN dX7_personOf_5 (by omega) (by omega) (by omega) ?_ | refine tk_irem dX7_personOf_5 (by decide) ?_
  refine tk_ireturn dX7_personOf_6 rfl ?_
  exact tki (by congr 1; omega)
theorem c_groupOf {k : Nat} (h1 : 32 ≤ k) (h2 : k ≤ 40) {h : tkH} : tkM G mX7_groupOf 0 0 0 [vI (nI k)] h (tkF (some (vI (nI (rGi k)))) h) := by
  refine tkM.of (ls := [some _]) (by decide +kernel) (by decide +kernel) (Nat.le_of_ble_eq_true rfl) rfl ?_
  refine tk_iload0 dX7_groupOf_0 ?_
  refine tk_bipush dX7_groupOf_1 kc_bipush_32 ?_
  first | refine tk_isubN dX7_groupOf_3 (by omega) ?_ | refine tk_isub dX7_groupOf_3 ?_
  refine tk_iconst dX7_groupOf_4 kc_iconst_3 ?_
  first | refine tk_iremN dX7_groupOf_5 (by omega) (by omega) (by omega) ?_ | refine tk_irem dX7_groupOf_5 (by decide) ?_
  refine tk_ireturn dX7_groupOf_6 rfl ?_
  exact tki (by unfold rGi; congr 1; split; omega; split <;> omega)
theorem c_tells {k np nf : Nat} (hk : k ≤ 3 ∨ (10 ≤ k ∧ k ≤ 14) ∨ (20 ≤ k ∧ k ≤ 40)) (hnp : np ≤ 4) (hnf : nf ≤ 4) {h : tkH} : tkM G mX3_tellsOfMissing 1 0 0 [vI (nI k), vI (nI np), vI (nI nf)] h (tkF (some (vI (tkb (!rTh (nI k) (nI np) (nI nf))))) h) := by
  have e : rTh (nI k) (nI np) (nI nf) = if k < 10 then decide (k < nf) else if k < 20 ∨ 32 ≤ k then true else decide (k % 4 < np) := by
    unfold rTh
    rw [rPer_nI (by omega) (by omega)]
    have h4 : nI k - nI k / nI 4 * nI 4 = nI (k % 4) := pk_rem (by omega) (by omega) (by omega)
    rw [h4, rPer_nI (by omega) (by omega)]
    have a1 : (nI k < nI 10) ↔ k < 10 := nI_ltI (by omega) (by omega)
    have a2 : (nI k < nI 20 ∨ nI 32 ≤ nI k) ↔ (k < 20 ∨ 32 ≤ k) := or_congr (nI_ltI (by omega) (by omega)) (nI_leI (by omega) (by omega))
    simp only [a1, a2]
  rw [e]
  refine tkM.of (ls := [some _, some _, some _]) (by decide +kernel) (by decide +kernel) (Nat.le_of_ble_eq_true rfl) rfl ?_
  refine tk_iload0 dX3_tellsOfMissing_0 ?_
  refine tk_bipush dX3_tellsOfMissing_1 kc_bipush_10 ?_
  first | refine tk_icmp_geN dX3_tellsOfMissing_3 (by omega) (by omega) (fun h3 => ?_) (fun h3 => ?_) | refine tk_jcmp_ge dX3_tellsOfMissing_3 (fun h3 => ?_) (fun h3 => ?_)
  · refine tk_iload0 dX3_tellsOfMissing_17 ?_
    refine tk_bipush dX3_tellsOfMissing_18 kc_bipush_20 ?_
    first | refine tk_icmp_ltN dX3_tellsOfMissing_20 (by omega) (by omega) (fun h20 => ?_) (fun h20 => ?_) | refine tk_jcmp_lt dX3_tellsOfMissing_20 (fun h20 => ?_) (fun h20 => ?_)
    · refine tk_iconst dX3_tellsOfMissing_41 kc_iconst_0 ?_
      first | refine tk_zreturn dX3_tellsOfMissing_42 rfl ?_ | refine tk_zret0 dX3_tellsOfMissing_42 rfl ?_ | refine tk_zret1 dX3_tellsOfMissing_42 rfl ?_
      refine tkz ?_
      first | (rw [if_pos (by omega), decide_eq_true (by omega)]; rfl) | (rw [if_pos (by omega), decide_eq_false (by omega)]; rfl) | (rw [if_neg (by omega), if_pos (by omega)]; rfl) | (rw [if_neg (by omega), if_neg (by omega), decide_eq_true (by omega)]; rfl) | (rw [if_neg (by omega), if_neg (by omega), decide_eq_false (by omega)]; rfl)
    · refine tk_iload0 dX3_tellsOfMissing_23 ?_
      refine tk_bipush dX3_tellsOfMissing_24 kc_bipush_32 ?_
      first | refine tk_icmp_geN dX3_tellsOfMissing_26 (by omega) (by omega) (fun h26 => ?_) (fun h26 => ?_) | refine tk_jcmp_ge dX3_tellsOfMissing_26 (fun h26 => ?_) (fun h26 => ?_)
      · refine tk_iconst dX3_tellsOfMissing_41 kc_iconst_0 ?_
        first | refine tk_zreturn dX3_tellsOfMissing_42 rfl ?_ | refine tk_zret0 dX3_tellsOfMissing_42 rfl ?_ | refine tk_zret1 dX3_tellsOfMissing_42 rfl ?_
        refine tkz ?_
        first | (rw [if_pos (by omega), decide_eq_true (by omega)]; rfl) | (rw [if_pos (by omega), decide_eq_false (by omega)]; rfl) | (rw [if_neg (by omega), if_pos (by omega)]; rfl) | (rw [if_neg (by omega), if_neg (by omega), decide_eq_true (by omega)]; rfl) | (rw [if_neg (by omega), if_neg (by omega), decide_eq_false (by omega)]; rfl)
      · refine tk_iload0 dX3_tellsOfMissing_29 ?_
        refine tk_callS1z dX3_tellsOfMissing_30 kX3_36 (c_personOf (by omega) (by omega)) (Nat.le_of_ble_eq_true rfl) (by omega) ?_
        refine tk_iload1 dX3_tellsOfMissing_33 ?_
        first | refine tk_icmp_ltN dX3_tellsOfMissing_34 (by omega) (by omega) (fun h34 => ?_) (fun h34 => ?_) | refine tk_jcmp_lt dX3_tellsOfMissing_34 (fun h34 => ?_) (fun h34 => ?_)
        · refine tk_iconst dX3_tellsOfMissing_41 kc_iconst_0 ?_
          first | refine tk_zreturn dX3_tellsOfMissing_42 rfl ?_ | refine tk_zret0 dX3_tellsOfMissing_42 rfl ?_ | refine tk_zret1 dX3_tellsOfMissing_42 rfl ?_
          refine tkz ?_
          first | (rw [if_pos (by omega), decide_eq_true (by omega)]; rfl) | (rw [if_pos (by omega), decide_eq_false (by omega)]; rfl) | (rw [if_neg (by omega), if_pos (by omega)]; rfl) | (rw [if_neg (by omega), if_neg (by omega), decide_eq_true (by omega)]; rfl) | (rw [if_neg (by omega), if_neg (by omega), decide_eq_false (by omega)]; rfl)
        · refine tk_iconst dX3_tellsOfMissing_37 kc_iconst_1 ?_
          refine tk_goto dX3_tellsOfMissing_38 ?_
          first | refine tk_zreturn dX3_tellsOfMissing_42 rfl ?_ | refine tk_zret0 dX3_tellsOfMissing_42 rfl ?_ | refine tk_zret1 dX3_tellsOfMissing_42 rfl ?_
          refine tkz ?_
          first | (rw [if_pos (by omega), decide_eq_true (by omega)]; rfl) | (rw [if_pos (by omega), decide_eq_false (by omega)]; rfl) | (rw [if_neg (by omega), if_pos (by omega)]; rfl) | (rw [if_neg (by omega), if_neg (by omega), decide_eq_true (by omega)]; rfl) | (rw [if_neg (by omega), if_neg (by omega), decide_eq_false (by omega)]; rfl)
  · refine tk_iload0 dX3_tellsOfMissing_6 ?_
    refine tk_iload2 dX3_tellsOfMissing_7 ?_
    first | refine tk_icmp_ltN dX3_tellsOfMissing_8 (by omega) (by omega) (fun h8 => ?_) (fun h8 => ?_) | refine tk_jcmp_lt dX3_tellsOfMissing_8 (fun h8 => ?_) (fun h8 => ?_)
    · refine tk_iconst dX3_tellsOfMissing_15 kc_iconst_0 ?_
      first | refine tk_zreturn dX3_tellsOfMissing_16 rfl ?_ | refine tk_zret0 dX3_tellsOfMissing_16 rfl ?_ | refine tk_zret1 dX3_tellsOfMissing_16 rfl ?_
      refine tkz ?_
      first | (rw [if_pos (by omega), decide_eq_true (by omega)]; rfl) | (rw [if_pos (by omega), decide_eq_false (by omega)]; rfl) | (rw [if_neg (by omega), if_pos (by omega)]; rfl) | (rw [if_neg (by omega), if_neg (by omega), decide_eq_true (by omega)]; rfl) | (rw [if_neg (by omega), if_neg (by omega), decide_eq_false (by omega)]; rfl)
    · refine tk_iconst dX3_tellsOfMissing_11 kc_iconst_1 ?_
      refine tk_goto dX3_tellsOfMissing_12 ?_
      first | refine tk_zreturn dX3_tellsOfMissing_16 rfl ?_ | refine tk_zret0 dX3_tellsOfMissing_16 rfl ?_ | refine tk_zret1 dX3_tellsOfMissing_16 rfl ?_
      refine tkz ?_
      first | (rw [if_pos (by omega), decide_eq_true (by omega)]; rfl) | (rw [if_pos (by omega), decide_eq_false (by omega)]; rfl) | (rw [if_neg (by omega), if_pos (by omega)]; rfl) | (rw [if_neg (by omega), if_neg (by omega), decide_eq_true (by omega)]; rfl) | (rw [if_neg (by omega), if_neg (by omega), decide_eq_false (by omega)]; rfl)
end LEAF
