/-! ===== the law: its loop, its entry ===== -/
theorem and63 (x : Int32) : ∃ k, k < 64 ∧ x &&& nI 63 = nI k := by
  refine ⟨(x &&& nI 63).toBitVec.toNat, ?_, ?_⟩
  · rw [Int32.toBitVec_and, BitVec.toNat_and]
    exact Nat.lt_of_le_of_lt Nat.and_le_right (by decide)
  · apply Int32.toBitVec_inj.mp
    show _ = BitVec.ofNat 32 _
    rw [BitVec.ofNat_toNat, BitVec.setWidth_eq]
theorem sub6 {len i : Nat} (hlen : len ≤ 3072) (hi : i ≤ 4000) : nI len - nI 6 < nI i ↔ len < i + 6 := by
  by_cases h : 6 ≤ len
  · rw [show nI len - nI 6 = nI (len - 6) from pk_sub h, nI_ltI (by omega) (by omega)]
    omega
  · have z : ∀ l, l < 6 → nI l - nI 6 < 0 := by decide +kernel
    exact ⟨fun _ => by omega, fun _ => Int32.lt_of_lt_of_le (z len (by omega)) (nI_pos' (by omega))⟩
section LAWL
variable {G : tkG} {n i mc ms len : Nat} {T : Nat → Nat × Nat} {I : Nat → Nat → Int32} {L : Nat → Nat → Int64} {P : Nat → Nat → Option Nat} {xs : Nat → Int32} {Q : Option tkV → tkH → Prop}
theorem la_sw (hG : G.2.2.2.2 = (len, xs)) (hlen : len ≤ 3072) (hi : i + 6 ≤ len) (hL : lR n T I L P) (hmc : 10 ≤ mc) (hms : 275 ≤ ms) (hnx : NXL G i mc ms Q) (x : Int32) : tkX G mL_law 100 mc ms 33 [some vS, some (vR 0), some (vR 40), some (vI (nI i))] [vI (x &&& nI 63)] (n, T, I, L, P) Q := by
  obtain ⟨k, hk, e⟩ := and63 x
  rw [e]
  by_cases h32 : k < 33
  · have hc : k = 0 ∨ k = 1 ∨ k = 2 ∨ k = 3 ∨ k = 4 ∨ k = 5 ∨ k = 6 ∨ k = 7 ∨ k = 8 ∨ k = 9 ∨ k = 10 ∨ k = 11 ∨ k = 12 ∨ k = 13 ∨ k = 14 ∨ k = 15 ∨ k = 16 ∨ k = 17 ∨ k = 18 ∨ k = 19 ∨ k = 20 ∨ k = 21 ∨ k = 22 ∨ k = 23 ∨ k = 24 ∨ k = 25 ∨ k = 26 ∨ k = 27 ∨ k = 28 ∨ k = 29 ∨ k = 30 ∨ k = 31 ∨ k = 32 := by omega
    rcases hc with rfl | rfl | rfl | rfl | rfl | rfl | rfl | rfl | rfl | rfl | rfl | rfl | rfl | rfl | rfl | rfl | rfl | rfl | rfl | rfl | rfl | rfl | rfl | rfl | rfl | rfl | rfl | rfl | rfl | rfl | rfl | rfl | rfl
    · exact tk_tabIn (tgt := 180) dL_law_33 (by decide) (by decide) rfl rfl (la_begin hG hlen hi hL hmc hms hnx)
    · exact tk_tabIn (tgt := 223) dL_law_33 (by decide) (by decide) rfl rfl (la_go hG hlen hi hL hmc hms hnx)
    · exact tk_tabIn (tgt := 256) dL_law_33 (by decide) (by decide) rfl rfl (la_group hG hlen hi hL hmc hms hnx)
    · exact tk_tabIn (tgt := 289) dL_law_33 (by decide) (by decide) rfl rfl (la_sign hG hlen hi hL hmc hms hnx)
    · exact tk_tabIn (tgt := 322) dL_law_33 (by decide) (by decide) rfl rfl (la_blank hG hlen hi hL hmc hms hnx)
    · exact tk_tabIn (tgt := 345) dL_law_33 (by decide) (by decide) rfl rfl (la_write hG hlen hi hL hmc hms hnx)
    · exact tk_tabIn (tgt := 378) dL_law_33 (by decide) (by decide) rfl rfl (la_as hG hlen hi hL hmc hms hnx)
    · exact tk_tabIn (tgt := 421) dL_law_33 (by decide) (by decide) rfl rfl (la_wrong hG hlen hi hL hmc hms hnx)
    · exact tk_tabIn (tgt := 444) dL_law_33 (by decide) (by decide) rfl rfl (la_see hG hlen hi hL hmc hms hnx)
    · exact tk_tabIn (tgt := 477) dL_law_33 (by decide) (by decide) rfl rfl (la_tell hG hlen hi hL hmc hms hnx)
    · exact tk_tabIn (tgt := 520) dL_law_33 (by decide) (by decide) rfl rfl (la_openly hG hlen hi hL hmc hms hnx)
    · exact tk_tabIn (tgt := 563) dL_law_33 (by decide) (by decide) rfl rfl (la_cry hG hlen hi hL hmc hms hnx)
    · exact tk_tabIn (tgt := 596) dL_law_33 (by decide) (by decide) rfl rfl (la_lie hG hlen hi hL hmc hms hnx)
    · exact tk_tabIn (tgt := 629) dL_law_33 (by decide) (by decide) rfl rfl (la_clashed hG hlen hi hL hmc hms hnx)
    · exact tk_tabIn (tgt := 662) dL_law_33 (by decide) (by decide) rfl rfl (la_swear hG hlen hi hL hmc hms hnx)
    · exact tk_tabIn (tgt := 695) dL_law_33 (by decide) (by decide) rfl rfl (la_pact hG hlen hi hL hmc hms hnx)
    · exact tk_tabIn (tgt := 728) dL_law_33 (by decide) (by decide) rfl rfl (la_binding hG hlen hi hL hmc hms hnx)
    · exact tk_tabIn (tgt := 741) dL_law_33 (by decide) (by decide) rfl rfl (la_holds hG hlen hi hL hmc hms hnx)
    · exact tk_tabIn (tgt := 764) dL_law_33 (by decide) (by decide) rfl rfl (la_many hG hlen hi hL hmc hms hnx)
    · exact tk_tabIn (tgt := 787) dL_law_33 (by decide) (by decide) rfl rfl (la_fails hG hlen hi hL hmc hms hnx)
    · exact tk_tabIn (tgt := 810) dL_law_33 (by decide) (by decide) rfl rfl (la_like hG hlen hi hL hmc hms hnx)
    · exact tk_tabIn (tgt := 843) dL_law_33 (by decide) (by decide) rfl rfl (la_world hG hlen hi hL hmc hms hnx)
    · exact tk_tabIn (tgt := 876) dL_law_33 (by decide) (by decide) rfl rfl (la_known hG hlen hi hL hmc hms hnx)
    · exact tk_tabIn (tgt := 925) dL_law_33 (by decide) (by decide) rfl rfl (la_lessons hG hlen hi hL hmc hms hnx)
    · exact tk_tabIn (tgt := 948) dL_law_33 (by decide) (by decide) rfl rfl (la_lesson hG hlen hi hL hmc hms hnx)
    · exact tk_tabIn (tgt := 981) dL_law_33 (by decide) (by decide) rfl rfl (la_mark hG hlen hi hL hmc hms hnx)
    · exact tk_tabIn (tgt := 994) dL_law_33 (by decide) (by decide) rfl rfl (la_then hG hlen hi hL hmc hms hnx)
    · exact tk_tabIn (tgt := 1027) dL_law_33 (by decide) (by decide) rfl rfl (la_since hG hlen hi hL hmc hms hnx)
    · exact tk_tabIn (tgt := 1050) dL_law_33 (by decide) (by decide) rfl rfl (la_sheet hG hlen hi hL hmc hms hnx)
    · exact tk_tabIn (tgt := 1093) dL_law_33 (by decide) (by decide) rfl rfl (la_put hG hlen hi hL hmc hms hnx)
    · exact tk_tabIn (tgt := 1136) dL_law_33 (by decide) (by decide) rfl rfl (la_copy hG hlen hi hL hmc hms hnx)
    · exact tk_tabIn (tgt := 1199) dL_law_33 (by decide) (by decide) rfl rfl (la_undo hG hlen hi hL hmc hms hnx)
    · exact tk_tabIn (tgt := 1212) dL_law_33 (by decide) (by decide) rfl rfl (la_all hG hlen hi hL hmc hms hnx)
  · have z : ∀ k, k < 64 → ¬ k < 33 → (nI k).toInt < 0 ∨ 32 < (nI k).toInt := by decide +kernel
    exact tk_tabOut (tgt := 1235) dL_law_33 (z k hk h32) rfl (hnx _ _ _ _ _ _ _ hL (by omega) (by omega))
theorem la_loop (hG : G.2.2.2.2 = (len, xs)) (hlen : len ≤ 3072) (hQ : ∀ h, Q (some (vI (tkb true))) h) : ∀ (k i mc ms n : Nat) (T : Nat → Nat × Nat) (I : Nat → Nat → Int32) (L : Nat → Nat → Int64) (P : Nat → Nat → Option Nat), lR n T I L P → len < i + 6 * k + 6 → i ≤ 3100 → 10 * k ≤ mc → 275 * k ≤ ms → tkX G mL_law 100 mc ms 18 [some vS, some (vR 0), some (vR 40), some (vI (nI i))] [] (n, T, I, L, P) Q := by
  intro k
  induction k with
  | zero =>
    intro i mc ms n T I L P hL hk hi hmc hms
    refine tk_iload3 dL_law_18 ?_
    refine tk_sload dL_law_19 ?_
    refine tk_slen dL_law_20 hG ?_
    refine tk_bipush dL_law_21 kc_bipush_6 ?_
    refine tk_isub dL_law_23 ?_
    refine tk_jcmp_gt dL_law_24 (fun h24 => ?_) (fun h24 => ?_)
    · refine tk_iconst dL_law_1241 kc_iconst_1 ?_
      first | refine tk_zreturn dL_law_1242 rfl ?_ | refine tk_zret0 dL_law_1242 rfl ?_ | refine tk_zret1 dL_law_1242 rfl ?_
      exact hQ _
    · exact absurd ((sub6 hlen (by omega)).mpr (by omega)) (Int32.not_lt.mpr h24)
  | succ k ih =>
    intro i mc ms n T I L P hL hk hi hmc hms
    refine tk_iload3 dL_law_18 ?_
    refine tk_sload dL_law_19 ?_
    refine tk_slen dL_law_20 hG ?_
    refine tk_bipush dL_law_21 kc_bipush_6 ?_
    refine tk_isub dL_law_23 ?_
    refine tk_jcmp_gt dL_law_24 (fun h24 => ?_) (fun h24 => ?_)
    · refine tk_iconst dL_law_1241 kc_iconst_1 ?_
      first | refine tk_zreturn dL_law_1242 rfl ?_ | refine tk_zret0 dL_law_1242 rfl ?_ | refine tk_zret1 dL_law_1242 rfl ?_
      exact hQ _
    · refine tk_sload dL_law_27 ?_
      have hi6 : i + 6 ≤ len := Nat.not_lt.mp (fun q => Int32.not_lt.mpr h24 ((sub6 hlen (by omega)).mpr q))
      refine tk_iload3 dL_law_28 ?_
      refine tk_sald dL_law_29 hG (by omega) (by omega) ?_
      refine tk_bipush dL_law_30 kc_bipush_63 ?_
      refine tk_iand dL_law_32 ?_
      exact la_sw hG hlen hi6 hL (by omega) (by omega) (fun n' T' I' L' P' mc' ms' hL' h1 h2 => tk_iinc3 dL_law_1235 (kc_incn 6 _ rfl) rfl (tk_goto dL_law_1238 (ih (i + 6) mc' ms' n' T' I' L' P' hL' (by omega) (by omega) (by omega) (by omega)))) _
theorem lR_start {T' : Nat → Nat × Nat} {I' : Nat → Nat → Int32} {L' : Nat → Nat → Int64} {P' : Nat → Nat → Option Nat} (hc : cINI T' I' L' P') (hR : tkRef T P) (hz : ∀ a, 40 ≤ a → a < 87 → I a = fun _ => 0) (hs : ∀ a, a < 40 → T a = T' a ∧ I a = I' a ∧ L a = L' a ∧ P a = P' a) : lR 87 T (r0I I) L P := by
  obtain ⟨h1, h2, h3, h4, h5, h6, h7, h8, h9⟩ := hc
  have e0 : ∀ a, a < 40 → r0I I a = I' a := fun a ha => by
    unfold r0I rBeg
    rw [va_up_ne _ _ (by omega), va_up_ne _ _ (by omega), va_up_ne _ _ (by omega), va_up_ne _ _ (by omega), va_up_ne _ _ (by omega)]
    exact (hs a ha).2.1
  have eZ : ∀ a, (60 ≤ a ∧ a < 87) ∨ a = 40 → r0I I a = fun _ => 0 := fun a ha => by
    unfold r0I rBeg
    rw [va_up_ne _ _ (by omega), va_up_ne _ _ (by omega), va_up_ne _ _ (by omega), va_up_ne _ _ (by omega), va_up_ne _ _ (by omega)]
    exact hz a (by omega) (by omega)
  refine ⟨hR, by omega, ?_, ⟨by rw [(hs 16 (by omega)).1]; exact h6, fun s hs4 => ?_⟩, by rw [(hs 15 (by omega)).1]; exact h5, 10, 0, 0, ?_, by rw [e0 0 (by omega)]; exact h2, by rw [e0 0 (by omega)]; exact h3, by omega, by omega, ?_, ?_, ?_, fun i hi => absurd hi (by omega)⟩
  · unfold cScr sObj dObj at h8 ⊢
    simp only [Nat.reduceAdd] at h8 ⊢
    rw [(hs 25 (by omega)).1, (hs 26 (by omega)).1, (hs 27 (by omega)).1, (hs 28 (by omega)).1, (hs 29 (by omega)).1, (hs 30 (by omega)).1, (hs 31 (by omega)).1, (hs 32 (by omega)).1, (hs 33 (by omega)).1, (hs 34 (by omega)).1, (hs 35 (by omega)).1, (hs 36 (by omega)).1, (hs 37 (by omega)).1, (hs 38 (by omega)).1, (hs 39 (by omega)).1, e0 26 (by omega), e0 38 (by omega), (hs 25 (by omega)).2.2.2, (hs 28 (by omega)).2.2.2, (hs 36 (by omega)).2.2.2, (hs 37 (by omega)).2.2.2]
    exact h8
  · obtain ⟨q1, q2, q3, q4, q5⟩ := h7 s hs4
    unfold hObj at q2 ⊢
    rw [(hs 16 (by omega)).2.2.2, (hs (17 + 2 * s) (by omega)).1, (hs (17 + 2 * s) (by omega)).2.2.2, (hs (18 + 2 * s) (by omega)).1, e0 (17 + 2 * s) (by omega), e0 (18 + 2 * s) (by omega), eZ 61 (by omega), eZ 62 (by omega), eZ 63 (by omega)]
    refine ⟨q1, q2, q3, q4, fun j hj => ⟨by rw [q5 j]; show (0 : Int32) = hMsk 0 0; decide, by show rNar 0 0 = 0; decide⟩, Or.inl rfl, 0, by omega, rfl⟩
  · unfold kObj at h1 ⊢
    rw [(hs 0 (by omega)).1, (hs 0 (by omega)).2.2.2]
    exact h1
  · rw [e0 0 (by omega), eZ 40 (by omega)]; exact h4
  · rw [eZ 40 (by omega)]; rfl
  · exact (h9 I hz).ex ⟨by omega, fun a ha => ⟨(hs a (by have := ha.2; omega)).1, e0 a (by have := ha.2; omega), (hs a (by have := ha.2; omega)).2.2.1, (hs a (by have := ha.2; omega)).2.2.2⟩⟩
theorem la_start (hG : G.2.2.2.2 = (len, xs)) (hlen : len ≤ 3072) : tkX G mL_law 100 600000 7302250 0 [some vS, none, none, none] [] (0, fun _ => (0, 0), fun _ _ => 0, fun _ _ => 0, fun _ _ => none) (fun rv _ => rv = some (vI (tkb true))) := by
  refine tk_newS dL_law_0 nL_7 (by omega) (by omega) ?_
  refine tk_dup dL_law_3 rfl ?_
  refine tk_callI0s dL_law_4 kL_9 (k_init (by rw [va_up_self])) (Nat.le_of_ble_eq_true rfl) (by omega) (by omega) (by omega) ?_
  rintro rr hh1 ⟨T1, I1, L1, P1, rfl, rfl, hc⟩
  dsimp only [Option.toList, List.nil_append]
  refine tk_astore1 dL_law_7 rfl ?_
  refine tk_newS dL_law_8 nL_10 (by omega) (by omega) ?_
  refine tk_dup dL_law_11 rfl ?_
  refine tk_callI0s dL_law_12 kL_12 (r_init (by rw [va_up_self]) (by rw [va_up_self])) (Nat.le_of_ble_eq_true rfl) (by omega) (by omega) (by omega) ?_
  rintro rr hh1 ⟨T2, I2, L2, P2, rfl, rfl, hR, hz, hs⟩
  dsimp only [Option.toList, List.nil_append]
  have hL := lR_start hc hR hz (fun a ha => (by
    obtain ⟨x1, x2, x3, x4⟩ := hs a ha
    rw [va_up_ne _ _ (by omega)] at x1 x2 x3 x4
    exact ⟨x1, x2, x3, x4⟩))
  refine tk_astore2 dL_law_15 rfl ?_
  refine tk_iconst dL_law_16 kc_iconst_0 ?_
  refine tk_istore3 dL_law_17 rfl ?_
  exact tk_wk (by repeat' (first | exact trivial | refine ⟨Or.inl rfl, ?_⟩ | refine ⟨Or.inr rfl, ?_⟩)) (la_loop hG hlen (fun _ => rfl) 513 0 _ _ 87 _ _ _ _ hL (by omega) (by omega) (by omega) (by omega))
end LAWL
