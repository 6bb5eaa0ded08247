/-! ===== the reference: plain calls, second half ===== -/
def rAS (f : Nat → Int32) : Nat → Nat → Bool
  | 0, _ => true
  | k + 1, i => rSign (f i) && rAS f k (i + 1)
def rRt (I : Nat → Nat → Int32) (s : Int32) : Bool := decide (rW (fun i => I 47 (14 * ix s + i)) (I 41 0) (I 41 1) (ix (I 48 (ix s))) 0 (nI 0) < 0)
def rAsk (I : Nat → Nat → Int32) (s : Int32) : Int32 := if rIn s (nI 0) (nI 5) = true then (if rRt I s = true then nI 0 else (-100004)) else (-100001)
def rLs (I : Nat → Nat → Int32) : Prop := ∀ s, s < 6 → ∃ l, l ≤ 14 ∧ I 48 s = nI l
def rSum (o : Int32) : Nat → Int32
  | 0 => nI 0
  | k + 1 => rSum o k + (kshr o (nI k) &&& nI 1)
def rFs (r : Nat → Int32) : Nat → Int32
  | 0 => nI 0
  | k + 1 => rFs r k ||| (if r k < nI 10 then kshl (nI 1) (r k) else nI 0)
def rBel (r : Nat → Int32) : Nat → Bool
  | 0 => false
  | k + 1 => rBel r k || rIn (r k) (nI 28) (nI 31)
theorem tkb_or (a b : Bool) : tkb a ||| tkb b = tkb (a || b) := by cases a <;> cases b <;> decide +kernel
section REFF
variable {G : tkG} {n : Nat} {T : Nat → Nat × Nat} {I : Nat → Nat → Int32} {L : Nat → Nat → Int64} {P : Nat → Nat → Option Nat}
theorem r_asked (hR : tkRef T P) (hl : rLs I) (s : Int32) : tkM G mX11_asked 3 0 0 [vR 40, vI s] (n, T, I, L, P) (tkF (some (vI (rAsk I s))) (n, T, I, L, P)) := by
  refine tkM.of (ls := [some _, some _]) (by decide +kernel) (by decide +kernel) (Nat.le_of_ble_eq_true rfl) rfl ?_
  refine tk_iload1 dX11_asked_0 ?_
  refine tk_callS1z dX11_asked_1 kX11_194 (r_isSentence _) (Nat.le_of_ble_eq_true rfl) (by omega) ?_
  first | refine tk_jf_neB dX11_asked_4 (fun h4 => ?_) (fun h4 => ?_) | refine tk_if_ne dX11_asked_4 (fun h4 => ?_) (fun h4 => ?_)
  · refine tk_aload0 dX11_asked_12 ?_
    obtain ⟨p', hp1, rfl⟩ := rIn_of h4 (by omega)
    have hix : ix (nI p') = p' := ix_nI (by omega)
    obtain ⟨l, hl1, hl2⟩ := hl p' (by omega)
    have hil : ix (nI l) = l := ix_nI (by omega)
    refine tk_iload1 dX11_asked_13 ?_
    refine tk_callV1z dX11_asked_14 kX11_291 hR.o (r_isRight hR (by omega) hl2 hl1) (Nat.le_of_ble_eq_true rfl) (by omega) ?_
    first | refine tk_jf_eqB dX11_asked_17 (fun h17 => ?_) (fun h17 => ?_) | refine tk_if_eq dX11_asked_17 (fun h17 => ?_) (fun h17 => ?_)
    · refine tk_ldc dX11_asked_24 klX11_208 ?_
      refine tk_ireturn dX11_asked_26 rfl ?_
      first | exact tki (by unfold rAsk; rw [if_neg (by rw [h4]; decide)]) | exact tki (by unfold rAsk rRt; rw [if_pos h4, hix, hl2, hil, if_neg (by rw [h17]; decide)]) | exact tki (by unfold rAsk rRt; rw [if_pos h4, hix, hl2, hil, if_pos h17])
    · refine tk_iconst dX11_asked_20 kc_iconst_0 ?_
      refine tk_goto dX11_asked_21 ?_
      refine tk_ireturn dX11_asked_26 rfl ?_
      first | exact tki (by unfold rAsk; rw [if_neg (by rw [h4]; decide)]) | exact tki (by unfold rAsk rRt; rw [if_pos h4, hix, hl2, hil, if_neg (by rw [h17]; decide)]) | exact tki (by unfold rAsk rRt; rw [if_pos h4, hix, hl2, hil, if_pos h17])
  · refine tk_ldc dX11_asked_7 klX11_183 ?_
    refine tk_goto dX11_asked_9 ?_
    refine tk_ireturn dX11_asked_26 rfl ?_
    first | exact tki (by unfold rAsk; rw [if_neg (by rw [h4]; decide)]) | exact tki (by unfold rAsk rRt; rw [if_pos h4, hix, hl2, hil, if_neg (by rw [h17]; decide)]) | exact tki (by unfold rAsk rRt; rw [if_pos h4, hix, hl2, hil, if_pos h17])
def rAlC (w : Int32) : Option Int32 := if rIn w (nI 0) (nI 6) then none else if w = nI 7 then none else some (-100001)
theorem r_all (hR : tkRef T P) (w : Int32) : tkM G mX11_all 1 0 0 [vR 40, vI w] (n, T, I, L, P) (rPst n T I L P (rAlC w) (if rIn w (nI 0) (nI 6) then I 41 (ix w) else I 40 24) I) := by
  refine tkM.of (ls := [some _, some _]) (by decide +kernel) (by decide +kernel) (Nat.le_of_ble_eq_true rfl) rfl ?_
  refine tk_iload1 dX11_all_0 ?_
  refine tk_iconst dX11_all_1 kc_iconst_0 ?_
  refine tk_bipush dX11_all_2 kc_bipush_6 ?_
  refine tk_callS3z dX11_all_4 kX11_159 (r_isIn _ _ _) (Nat.le_of_ble_eq_true rfl) (by omega) ?_
  first | refine tk_jf_eqB dX11_all_7 (fun h7 => ?_) (fun h7 => ?_) | refine tk_if_eq dX11_all_7 (fun h7 => ?_) (fun h7 => ?_)
  · refine tk_iload1 dX11_all_19 ?_
    refine tk_bipush dX11_all_20 kc_bipush_7 ?_
    first | refine tk_icmp_neN dX11_all_22 (by omega) (by omega) (fun h22 => ?_) (fun h22 => ?_) | refine tk_icmp_ne dX11_all_22 (fun h22 => ?_) (fun h22 => ?_)
    · refine tk_aload0 dX11_all_32 ?_
      refine tk_ldc dX11_all_33 klX11_183 ?_
      refine tk_callV1z dX11_all_35 kX11_179 hR.o (r_finding hR _) (Nat.le_of_ble_eq_true rfl) (by omega) ?_
      refine tk_ireturn dX11_all_38 rfl ?_
      first | exact rPst_f (by simp [rAlC, *]) | exact rPst_g (by simp [rAlC, *]) (by rw [if_pos h7, hix]) rfl | exact rPst_g (by simp [rAlC, *]) (by rw [if_neg (by rw [h7]; decide)]) rfl
    · refine tk_aload0 dX11_all_25 ?_
      refine tk_getI dX11_all_26 fX11_155 rfl hR.o ?_
      refine tk_goto dX11_all_29 ?_
      refine tk_ireturn dX11_all_38 rfl ?_
      first | exact rPst_f (by simp [rAlC, *]) | exact rPst_g (by simp [rAlC, *]) (by rw [if_pos h7, hix]) rfl | exact rPst_g (by simp [rAlC, *]) (by rw [if_neg (by rw [h7]; decide)]) rfl
  · refine tk_aload0 dX11_all_10 ?_
    obtain ⟨p', hp1, rfl⟩ := rIn_of h7 (by omega)
    have hix : ix (nI p') = p' := ix_nI (by omega)
    refine tk_getP dX11_all_11 fX11_7 rfl hR.o (hR.p 0 rfl) ?_
    refine tk_iload1 dX11_all_14 ?_
    refine tk_iald dX11_all_15 (hR.t 41 rfl) (by omega) (by omega) ?_
    refine tk_goto dX11_all_16 ?_
    refine tk_ireturn dX11_all_38 rfl ?_
    first | exact rPst_f (by simp [rAlC, *]) | exact rPst_g (by simp [rAlC, *]) (by rw [if_pos h7, hix]) rfl | exact rPst_g (by simp [rAlC, *]) (by rw [if_neg (by rw [h7]; decide)]) rfl
def rWoC (I : Nat → Nat → Int32) (w p : Int32) : Option Int32 := if rPer (I 41 2) w && (decide (p = -1) || rPer (I 41 0) p) then none else some (-100001)
theorem r_world (hR : tkRef T P) {np W : Nat} (hnp : I 41 0 = nI np) (hnp4 : np ≤ 4) (hW : I 41 2 = nI W) (hW64 : W ≤ 64) (w p : Int32) : tkM G mX11_world 1 0 0 [vR 40, vI w, vI p] (n, T, I, L, P) (rPst n T I L P (rWoC I w p) (if p < 0 then I 42 (ix w) else I 43 (64 * ix p + ix w)) I) := by
  refine tkM.of (ls := [some _, some _, some _]) (by decide +kernel) (by decide +kernel) (Nat.le_of_ble_eq_true rfl) rfl ?_
  refine tk_iload1 dX11_world_0 ?_
  refine tk_jf_lt dX11_world_1 (fun h1 => ?_) (fun h1 => ?_)
  · refine tk_aload0 dX11_world_27 ?_
    refine tk_ldc dX11_world_28 klX11_183 ?_
    refine tk_callV1z dX11_world_30 kX11_179 hR.o (r_finding hR _) (Nat.le_of_ble_eq_true rfl) (by omega) ?_
    refine tk_ireturn dX11_world_33 rfl ?_
    first | exact rPst_f (by unfold rWoC; rw [if_neg]; intro q; simp only [rPer, Bool.and_eq_true, Bool.or_eq_true, decide_eq_true_eq] at q; first | exact Int32.not_le.mpr h1 q.1.1 | exact Int32.not_lt.mpr h11 q.1.2 | (rcases q.2 with q2 | q2; exact h16 q2; simp [rPer, q2] at h24)) | exact rPst_g (by unfold rWoC; rw [if_pos]; simp only [rPer, Bool.and_eq_true, Bool.or_eq_true, decide_eq_true_eq] at *; exact ⟨⟨h1, h11⟩, by simp_all⟩) (by first | rw [if_pos h35, hixw] | rw [if_neg (Int32.not_lt.mpr h35), hixw, hixp]) rfl
  · refine tk_iload1 dX11_world_4 ?_
    refine tk_aload0 dX11_world_5 ?_
    refine tk_getP dX11_world_6 fX11_7 rfl hR.o (hR.p 0 rfl) ?_
    refine tk_iconst dX11_world_9 kc_iconst_2 ?_
    refine tk_iald dX11_world_10 (hR.t 41 rfl) (by omega) (by omega) ?_
    first | refine tk_icmp_geN dX11_world_11 (by omega) (by omega) (fun h11 => ?_) (fun h11 => ?_) | refine tk_jcmp_ge dX11_world_11 (fun h11 => ?_) (fun h11 => ?_)
    · refine tk_aload0 dX11_world_27 ?_
      refine tk_ldc dX11_world_28 klX11_183 ?_
      refine tk_callV1z dX11_world_30 kX11_179 hR.o (r_finding hR _) (Nat.le_of_ble_eq_true rfl) (by omega) ?_
      refine tk_ireturn dX11_world_33 rfl ?_
      first | exact rPst_f (by unfold rWoC; rw [if_neg]; intro q; simp only [rPer, Bool.and_eq_true, Bool.or_eq_true, decide_eq_true_eq] at q; first | exact Int32.not_le.mpr h1 q.1.1 | exact Int32.not_lt.mpr h11 q.1.2 | (rcases q.2 with q2 | q2; exact h16 q2; simp [rPer, q2] at h24)) | exact rPst_g (by unfold rWoC; rw [if_pos]; simp only [rPer, Bool.and_eq_true, Bool.or_eq_true, decide_eq_true_eq] at *; exact ⟨⟨h1, h11⟩, by simp_all⟩) (by first | rw [if_pos h35, hixw] | rw [if_neg (Int32.not_lt.mpr h35), hixw, hixp]) rfl
    · refine tk_iload2 dX11_world_14 ?_
      refine tk_iconst dX11_world_15 kc_iconst_m1 ?_
      first | refine tk_icmp_eqN dX11_world_16 (by omega) (by omega) (fun h16 => ?_) (fun h16 => ?_) | refine tk_icmp_eq dX11_world_16 (fun h16 => ?_) (fun h16 => ?_)
      · refine tk_iload2 dX11_world_34 ?_
        obtain ⟨w', hw1, rfl⟩ := rPe_of (v := w) (N := I 41 2) (by simp only [rPer, Bool.and_eq_true, decide_eq_true_eq]; exact ⟨h1, h11⟩) hW (by omega)
        have hixw : ix (nI w') = w' := ix_nI (by omega)
        refine tk_jf_ge dX11_world_35 (fun h35 => ?_) (fun h35 => ?_)
        · refine tk_aload0 dX11_world_47 ?_
          obtain ⟨p', hp1, rfl⟩ := rPe_of (v := p) (N := I 41 0) (by first | assumption | (rw [h16] at h35; exact absurd h35 (by decide))) hnp (by omega)
          have hixp : ix (nI p') = p' := ix_nI (by omega)
          refine tk_getP dX11_world_48 fX11_16 rfl hR.o (hR.p 2 rfl) ?_
          refine tk_bipush dX11_world_51 kc_bipush_64 ?_
          refine tk_iload2 dX11_world_53 ?_
          first | refine tk_imulN dX11_world_54 ?_ | refine tk_imul dX11_world_54 ?_
          refine tk_iload1 dX11_world_55 ?_
          first | refine tk_iaddN dX11_world_56 ?_ | refine tk_iadd dX11_world_56 ?_
          refine tk_iald dX11_world_57 (hR.t 43 rfl) (by omega) (by omega) ?_
          refine tk_ireturn dX11_world_58 rfl ?_
          first | exact rPst_f (by unfold rWoC; rw [if_neg]; intro q; simp only [rPer, Bool.and_eq_true, Bool.or_eq_true, decide_eq_true_eq] at q; first | exact Int32.not_le.mpr h1 q.1.1 | exact Int32.not_lt.mpr h11 q.1.2 | (rcases q.2 with q2 | q2; exact h16 q2; simp [rPer, q2] at h24)) | exact rPst_g (by unfold rWoC; rw [if_pos]; simp only [rPer, Bool.and_eq_true, Bool.or_eq_true, decide_eq_true_eq] at *; exact ⟨⟨h1, h11⟩, by simp_all⟩) (by first | rw [if_pos h35, hixw] | rw [if_neg (Int32.not_lt.mpr h35), hixw, hixp]) rfl
        · refine tk_aload0 dX11_world_38 ?_
          refine tk_getP dX11_world_39 fX11_13 rfl hR.o (hR.p 1 rfl) ?_
          refine tk_iload1 dX11_world_42 ?_
          refine tk_iald dX11_world_43 (hR.t 42 rfl) (by omega) (by omega) ?_
          refine tk_goto dX11_world_44 ?_
          refine tk_ireturn dX11_world_58 rfl ?_
          first | exact rPst_f (by unfold rWoC; rw [if_neg]; intro q; simp only [rPer, Bool.and_eq_true, Bool.or_eq_true, decide_eq_true_eq] at q; first | exact Int32.not_le.mpr h1 q.1.1 | exact Int32.not_lt.mpr h11 q.1.2 | (rcases q.2 with q2 | q2; exact h16 q2; simp [rPer, q2] at h24)) | exact rPst_g (by unfold rWoC; rw [if_pos]; simp only [rPer, Bool.and_eq_true, Bool.or_eq_true, decide_eq_true_eq] at *; exact ⟨⟨h1, h11⟩, by simp_all⟩) (by first | rw [if_pos h35, hixw] | rw [if_neg (Int32.not_lt.mpr h35), hixw, hixp]) rfl
      · refine tk_aload0 dX11_world_19 ?_
        refine tk_iload2 dX11_world_20 ?_
        refine tk_callV1z dX11_world_21 kX11_187 hR.o (r_isPerson hR _) (Nat.le_of_ble_eq_true rfl) (by omega) ?_
        first | refine tk_jf_neB dX11_world_24 (fun h24 => ?_) (fun h24 => ?_) | refine tk_if_ne dX11_world_24 (fun h24 => ?_) (fun h24 => ?_)
        · refine tk_iload2 dX11_world_34 ?_
          obtain ⟨w', hw1, rfl⟩ := rPe_of (v := w) (N := I 41 2) (by simp only [rPer, Bool.and_eq_true, decide_eq_true_eq]; exact ⟨h1, h11⟩) hW (by omega)
          have hixw : ix (nI w') = w' := ix_nI (by omega)
          refine tk_jf_ge dX11_world_35 (fun h35 => ?_) (fun h35 => ?_)
          · refine tk_aload0 dX11_world_47 ?_
            obtain ⟨p', hp1, rfl⟩ := rPe_of (v := p) (N := I 41 0) (by first | assumption | (rw [h16] at h35; exact absurd h35 (by decide))) hnp (by omega)
            have hixp : ix (nI p') = p' := ix_nI (by omega)
            refine tk_getP dX11_world_48 fX11_16 rfl hR.o (hR.p 2 rfl) ?_
            refine tk_bipush dX11_world_51 kc_bipush_64 ?_
            refine tk_iload2 dX11_world_53 ?_
            first | refine tk_imulN dX11_world_54 ?_ | refine tk_imul dX11_world_54 ?_
            refine tk_iload1 dX11_world_55 ?_
            first | refine tk_iaddN dX11_world_56 ?_ | refine tk_iadd dX11_world_56 ?_
            refine tk_iald dX11_world_57 (hR.t 43 rfl) (by omega) (by omega) ?_
            refine tk_ireturn dX11_world_58 rfl ?_
            first | exact rPst_f (by unfold rWoC; rw [if_neg]; intro q; simp only [rPer, Bool.and_eq_true, Bool.or_eq_true, decide_eq_true_eq] at q; first | exact Int32.not_le.mpr h1 q.1.1 | exact Int32.not_lt.mpr h11 q.1.2 | (rcases q.2 with q2 | q2; exact h16 q2; simp [rPer, q2] at h24)) | exact rPst_g (by unfold rWoC; rw [if_pos]; simp only [rPer, Bool.and_eq_true, Bool.or_eq_true, decide_eq_true_eq] at *; exact ⟨⟨h1, h11⟩, by simp_all⟩) (by first | rw [if_pos h35, hixw] | rw [if_neg (Int32.not_lt.mpr h35), hixw, hixp]) rfl
          · refine tk_aload0 dX11_world_38 ?_
            refine tk_getP dX11_world_39 fX11_13 rfl hR.o (hR.p 1 rfl) ?_
            refine tk_iload1 dX11_world_42 ?_
            refine tk_iald dX11_world_43 (hR.t 42 rfl) (by omega) (by omega) ?_
            refine tk_goto dX11_world_44 ?_
            refine tk_ireturn dX11_world_58 rfl ?_
            first | exact rPst_f (by unfold rWoC; rw [if_neg]; intro q; simp only [rPer, Bool.and_eq_true, Bool.or_eq_true, decide_eq_true_eq] at q; first | exact Int32.not_le.mpr h1 q.1.1 | exact Int32.not_lt.mpr h11 q.1.2 | (rcases q.2 with q2 | q2; exact h16 q2; simp [rPer, q2] at h24)) | exact rPst_g (by unfold rWoC; rw [if_pos]; simp only [rPer, Bool.and_eq_true, Bool.or_eq_true, decide_eq_true_eq] at *; exact ⟨⟨h1, h11⟩, by simp_all⟩) (by first | rw [if_pos h35, hixw] | rw [if_neg (Int32.not_lt.mpr h35), hixw, hixp]) rfl
        · refine tk_aload0 dX11_world_27 ?_
          refine tk_ldc dX11_world_28 klX11_183 ?_
          refine tk_callV1z dX11_world_30 kX11_179 hR.o (r_finding hR _) (Nat.le_of_ble_eq_true rfl) (by omega) ?_
          refine tk_ireturn dX11_world_33 rfl ?_
          first | exact rPst_f (by unfold rWoC; rw [if_neg]; intro q; simp only [rPer, Bool.and_eq_true, Bool.or_eq_true, decide_eq_true_eq] at q; first | exact Int32.not_le.mpr h1 q.1.1 | exact Int32.not_lt.mpr h11 q.1.2 | (rcases q.2 with q2 | q2; exact h16 q2; simp [rPer, q2] at h24)) | exact rPst_g (by unfold rWoC; rw [if_pos]; simp only [rPer, Bool.and_eq_true, Bool.or_eq_true, decide_eq_true_eq] at *; exact ⟨⟨h1, h11⟩, by simp_all⟩) (by first | rw [if_pos h35, hixw] | rw [if_neg (Int32.not_lt.mpr h35), hixw, hixp]) rfl
theorem r_factsIn (hR : tkRef T P) {s l : Nat} (hs : s < 6) (hl : I 48 s = nI l) (hl2 : l ≤ 14) : tkM G mX11_factsIn 0 0 0 [vR 40, vI (nI s)] (n, T, I, L, P) (tkF (some (vI (rFs (fun i => I 47 (14 * s + i)) l))) (n, T, I, L, P)) := by
  refine tkM.of (ls := [some _, some _, none, none]) (by decide +kernel) (by decide +kernel) (Nat.le_of_ble_eq_true rfl) rfl ?_
  refine tk_iconst dX11_factsIn_0 kc_iconst_0 ?_
  refine tk_istore2 dX11_factsIn_1 rfl ?_
  refine tk_iconst dX11_factsIn_2 kc_iconst_0 ?_
  refine tk_istore3 dX11_factsIn_3 rfl ?_
  refine tk_for 0 l (fun i => [some (vR 40), some (vI (nI s)), some (vI (rFs (fun i => I 47 (14 * s + i)) i)), some (vI (nI i))]) (fun i => (n, T, I, L, P)) (by omega) rfl rfl ?_ ?_
  · refine tk_iload3 dX11_factsIn_4 ?_
    refine tk_aload0 dX11_factsIn_5 ?_
    refine tk_getP dX11_factsIn_6 fX11_31 rfl hR.o (hR.p 7 rfl) ?_
    refine tk_iload1 dX11_factsIn_9 ?_
    refine tk_iald dX11_factsIn_10 (hR.t 48 rfl) (by omega) (by omega) ?_
    rw [hl]
    first | refine tk_icmp_geN dX11_factsIn_11 (by omega) (by omega) (fun h11 => ?_) (fun h11 => ?_) | refine tk_jcmp_ge dX11_factsIn_11 (fun h11 => ?_) (fun h11 => ?_)
    · refine tk_iload2 dX11_factsIn_56 ?_
      refine tk_ireturn dX11_factsIn_57 rfl ?_
      exact ⟨rfl, rfl⟩
    · exfalso; omega
  · intro i _ hi k
    refine tk_iload3 dX11_factsIn_4 ?_
    refine tk_aload0 dX11_factsIn_5 ?_
    refine tk_getP dX11_factsIn_6 fX11_31 rfl hR.o (hR.p 7 rfl) ?_
    refine tk_iload1 dX11_factsIn_9 ?_
    refine tk_iald dX11_factsIn_10 (hR.t 48 rfl) (by omega) (by omega) ?_
    rw [hl]
    first | refine tk_icmp_geN dX11_factsIn_11 (by omega) (by omega) (fun h11 => ?_) (fun h11 => ?_) | refine tk_jcmp_ge dX11_factsIn_11 (fun h11 => ?_) (fun h11 => ?_)
    · exfalso; omega
    · refine tk_iload2 dX11_factsIn_14 ?_
      refine tk_aload0 dX11_factsIn_15 ?_
      refine tk_getP dX11_factsIn_16 fX11_28 rfl hR.o (hR.p 6 rfl) ?_
      refine tk_bipush dX11_factsIn_19 kc_bipush_14 ?_
      refine tk_iload1 dX11_factsIn_21 ?_
      first | refine tk_imulN dX11_factsIn_22 ?_ | refine tk_imul dX11_factsIn_22 ?_
      refine tk_iload3 dX11_factsIn_23 ?_
      first | refine tk_iaddN dX11_factsIn_24 ?_ | refine tk_iadd dX11_factsIn_24 ?_
      refine tk_iald dX11_factsIn_25 (hR.t 47 rfl) (by omega) (by omega) ?_
      refine tk_bipush dX11_factsIn_26 kc_bipush_10 ?_
      first | refine tk_icmp_geN dX11_factsIn_28 (by omega) (by omega) (fun h28 => ?_) (fun h28 => ?_) | refine tk_jcmp_ge dX11_factsIn_28 (fun h28 => ?_) (fun h28 => ?_)
      · refine tk_iconst dX11_factsIn_47 kc_iconst_0 ?_
        refine tk_ior dX11_factsIn_48 ?_
        refine tk_istore2 dX11_factsIn_49 rfl ?_
        first | refine tk_iinc3 dX11_factsIn_50 (kc_inc _) rfl ?_ | refine tk_iinc3 dX11_factsIn_50 rfl rfl ?_
        refine tk_goto dX11_factsIn_53 ?_
        refine Eq.mp ?_ k
        show tkX G mX11_factsIn 0 0 0 4 [some (vR 40), some (vI (nI s)), some (vI (rFs (fun i => I 47 (14 * s + i)) i ||| (if I 47 (14 * s + i) < nI 10 then kshl (nI 1) (I 47 (14 * s + i)) else nI 0))), some (vI (nI (i + 1)))] [] (n, T, I, L, P) _ = _
        first | rw [if_pos (by assumption)] | rw [if_neg (Int32.not_lt.mpr (by assumption))]
      · refine tk_iconst dX11_factsIn_31 kc_iconst_1 ?_
        refine tk_aload0 dX11_factsIn_32 ?_
        refine tk_getP dX11_factsIn_33 fX11_28 rfl hR.o (hR.p 6 rfl) ?_
        refine tk_bipush dX11_factsIn_36 kc_bipush_14 ?_
        refine tk_iload1 dX11_factsIn_38 ?_
        first | refine tk_imulN dX11_factsIn_39 ?_ | refine tk_imul dX11_factsIn_39 ?_
        refine tk_iload3 dX11_factsIn_40 ?_
        first | refine tk_iaddN dX11_factsIn_41 ?_ | refine tk_iadd dX11_factsIn_41 ?_
        refine tk_iald dX11_factsIn_42 (hR.t 47 rfl) (by omega) (by omega) ?_
        refine tk_ishl dX11_factsIn_43 ?_
        refine tk_goto dX11_factsIn_44 ?_
        refine tk_ior dX11_factsIn_48 ?_
        refine tk_istore2 dX11_factsIn_49 rfl ?_
        first | refine tk_iinc3 dX11_factsIn_50 (kc_inc _) rfl ?_ | refine tk_iinc3 dX11_factsIn_50 rfl rfl ?_
        refine tk_goto dX11_factsIn_53 ?_
        refine Eq.mp ?_ k
        show tkX G mX11_factsIn 0 0 0 4 [some (vR 40), some (vI (nI s)), some (vI (rFs (fun i => I 47 (14 * s + i)) i ||| (if I 47 (14 * s + i) < nI 10 then kshl (nI 1) (I 47 (14 * s + i)) else nI 0))), some (vI (nI (i + 1)))] [] (n, T, I, L, P) _ = _
        first | rw [if_pos (by assumption)] | rw [if_neg (Int32.not_lt.mpr (by assumption))]
theorem r_believes (hR : tkRef T P) {s l : Nat} (hs : s < 6) (hl : I 48 s = nI l) (hl2 : l ≤ 14) : tkM G mX11_believes 1 0 0 [vR 40, vI (nI s)] (n, T, I, L, P) (tkF (some (vI (tkb (rBel (fun i => I 47 (14 * s + i)) l)))) (n, T, I, L, P)) := by
  refine tkM.of (ls := [some _, some _, none, none]) (by decide +kernel) (by decide +kernel) (Nat.le_of_ble_eq_true rfl) rfl ?_
  refine tk_iconst dX11_believes_0 kc_iconst_0 ?_
  refine tk_istore2 dX11_believes_1 rfl ?_
  refine tk_iconst dX11_believes_2 kc_iconst_0 ?_
  refine tk_istore3 dX11_believes_3 rfl ?_
  refine tk_for 0 l (fun i => [some (vR 40), some (vI (nI s)), some (vI (tkb (rBel (fun i => I 47 (14 * s + i)) i))), some (vI (nI i))]) (fun i => (n, T, I, L, P)) (by omega) rfl rfl ?_ ?_
  · refine tk_iload3 dX11_believes_4 ?_
    refine tk_aload0 dX11_believes_5 ?_
    refine tk_getP dX11_believes_6 fX11_31 rfl hR.o (hR.p 7 rfl) ?_
    refine tk_iload1 dX11_believes_9 ?_
    refine tk_iald dX11_believes_10 (hR.t 48 rfl) (by omega) (by omega) ?_
    rw [hl]
    first | refine tk_icmp_geN dX11_believes_11 (by omega) (by omega) (fun h11 => ?_) (fun h11 => ?_) | refine tk_jcmp_ge dX11_believes_11 (fun h11 => ?_) (fun h11 => ?_)
    · refine tk_iload2 dX11_believes_41 ?_
      first | refine tk_zreturn dX11_believes_42 rfl ?_ | refine tk_zret0 dX11_believes_42 rfl ?_ | refine tk_zret1 dX11_believes_42 rfl ?_
      exact ⟨rfl, rfl⟩
    · exfalso; omega
  · intro i _ hi k
    refine tk_iload3 dX11_believes_4 ?_
    refine tk_aload0 dX11_believes_5 ?_
    refine tk_getP dX11_believes_6 fX11_31 rfl hR.o (hR.p 7 rfl) ?_
    refine tk_iload1 dX11_believes_9 ?_
    refine tk_iald dX11_believes_10 (hR.t 48 rfl) (by omega) (by omega) ?_
    rw [hl]
    first | refine tk_icmp_geN dX11_believes_11 (by omega) (by omega) (fun h11 => ?_) (fun h11 => ?_) | refine tk_jcmp_ge dX11_believes_11 (fun h11 => ?_) (fun h11 => ?_)
    · exfalso; omega
    · refine tk_iload2 dX11_believes_14 ?_
      refine tk_aload0 dX11_believes_15 ?_
      refine tk_getP dX11_believes_16 fX11_28 rfl hR.o (hR.p 6 rfl) ?_
      refine tk_bipush dX11_believes_19 kc_bipush_14 ?_
      refine tk_iload1 dX11_believes_21 ?_
      first | refine tk_imulN dX11_believes_22 ?_ | refine tk_imul dX11_believes_22 ?_
      refine tk_iload3 dX11_believes_23 ?_
      first | refine tk_iaddN dX11_believes_24 ?_ | refine tk_iadd dX11_believes_24 ?_
      refine tk_iald dX11_believes_25 (hR.t 47 rfl) (by omega) (by omega) ?_
      refine tk_bipush dX11_believes_26 kc_bipush_28 ?_
      refine tk_bipush dX11_believes_28 kc_bipush_31 ?_
      refine tk_callS3z dX11_believes_30 kX11_159 (r_isIn _ _ _) (Nat.le_of_ble_eq_true rfl) (by omega) ?_
      refine tk_ior dX11_believes_33 ?_
      refine tk_istore2 dX11_believes_34 rfl ?_
      first | refine tk_iinc3 dX11_believes_35 (kc_inc _) rfl ?_ | refine tk_iinc3 dX11_believes_35 rfl rfl ?_
      refine tk_goto dX11_believes_38 ?_
      rw [tkb_or]
      exact k
def rShC (s b m : Int32) : Option Int32 := if rIn s (nI 0) (nI 3) && (decide (b = 0) || (decide (b = nI 8) || (decide (b = nI 16) || decide (b = nI 32)))) then (if m < 0 then some (-100003) else if nI 14 < m then some (-100001) else none) else some (-100001)
theorem r_sheet (hR : tkRef T P) (s b m : Int32) : tkM G mX11_sheet 2 0 0 [vR 40, vI s, vI b, vI m] (n, T, I, L, P) (rPst n T I L P (rShC s b m) (if b = 0 then nI 0 else m) (va_up (va_up (va_up I 61 (va_up (I 61) (ix s) b)) 62 (va_up (I 62) (ix s) (if b = 0 then nI 0 else m))) 63 (tkco (I 63) (fun _ => nI 0) (14 * ix s) 14))) := by
  have k82 : ∀ (s' : Nat) (z : Int32), s' ≤ 3 → tkX G mX11_sheet 2 0 0 82 [some (vR 40), some (vI (nI s')), some (vI b), some (vI m), none] [vI z, vI (nI s'), vR 62] (n, T, va_up I 61 (va_up (I 61) s' b), L, P) (tkF (some (vI z)) (n, T, va_up (va_up (va_up I 61 (va_up (I 61) s' b)) 62 (va_up (I 62) s' z)) 63 (tkco (I 63) (fun _ => nI 0) (14 * s') 14), L, P)) := by
    intro s' z hs'
    refine tk_iast dX11_sheet_82 (hR.t 62 rfl) (by omega) (by omega) ?_
    refine tk_iconst dX11_sheet_83 kc_iconst_0 ?_
    refine tk_istore4 dX11_sheet_84 rfl ?_
    refine tk_fr 0 14 (fun i => [some (vR 40), some (vI (nI s')), some (vI b), some (vI m), some (vI (nI i))]) (fun i => (n, T, va_up (va_up (va_up I 61 (va_up (I 61) s' b)) 62 (va_up (I 62) s' z)) 63 (tkco (I 63) (fun _ => nI 0) (14 * s') i), L, P)) (by omega) (by repeat' (first | exact trivial | refine ⟨Or.inl rfl, ?_⟩ | refine ⟨Or.inr rfl, ?_⟩)) (by simp only [va_up_self, bx_uu, tk_une, tk_usrt, not_false_eq_true, Nat.reduceEqDiff, Nat.reduceLT, Nat.reduceAdd, Nat.reduceMul, Nat.reduceLeDiff, reduceCtorEq, tkco_0]; rw [tk_uid (k := 63)]; simp only [va_up_self, bx_uu, tk_une, tk_usrt, not_false_eq_true, Nat.reduceEqDiff, Nat.reduceLT, Nat.reduceAdd, Nat.reduceMul, Nat.reduceLeDiff, reduceCtorEq]) ?_ ?_
    · refine tk_iload4 dX11_sheet_86 ?_
      refine tk_bipush dX11_sheet_88 kc_bipush_14 ?_
      first | refine tk_icmp_geN dX11_sheet_90 (by omega) (by omega) (fun h90 => ?_) (fun h90 => ?_) | refine tk_jcmp_ge dX11_sheet_90 (fun h90 => ?_) (fun h90 => ?_)
      · refine tk_aload0 dX11_sheet_112 ?_
        refine tk_getP dX11_sheet_113 fX11_74 rfl hR.o (hR.p 22 rfl) ?_
        refine tk_iload1 dX11_sheet_116 ?_
        refine tk_iald dX11_sheet_117 (hR.t 62 rfl) (by omega) (by omega) ?_
        simp only [va_up_self, bx_uu, tk_une, tk_usrt, not_false_eq_true, Nat.reduceEqDiff, Nat.reduceLT, Nat.reduceAdd, Nat.reduceMul, Nat.reduceLeDiff, reduceCtorEq]
        refine tk_ireturn dX11_sheet_118 rfl ?_
        exact ⟨rfl, rfl⟩
      · exfalso; omega
    · intro i _ hi k
      refine tk_iload4 dX11_sheet_86 ?_
      refine tk_bipush dX11_sheet_88 kc_bipush_14 ?_
      first | refine tk_icmp_geN dX11_sheet_90 (by omega) (by omega) (fun h90 => ?_) (fun h90 => ?_) | refine tk_jcmp_ge dX11_sheet_90 (fun h90 => ?_) (fun h90 => ?_)
      · exfalso; omega
      · refine tk_aload0 dX11_sheet_93 ?_
        refine tk_getP dX11_sheet_94 fX11_77 rfl hR.o (hR.p 23 rfl) ?_
        refine tk_bipush dX11_sheet_97 kc_bipush_14 ?_
        refine tk_iload1 dX11_sheet_99 ?_
        first | refine tk_imulN dX11_sheet_100 ?_ | refine tk_imul dX11_sheet_100 ?_
        refine tk_iload4 dX11_sheet_101 ?_
        first | refine tk_iaddN dX11_sheet_103 ?_ | refine tk_iadd dX11_sheet_103 ?_
        refine tk_iconst dX11_sheet_104 kc_iconst_0 ?_
        refine tk_iast dX11_sheet_105 (hR.t 63 rfl) (by omega) (by omega) ?_
        first | refine tk_iinc4 dX11_sheet_106 (kc_inc _) rfl ?_ | refine tk_iinc4 dX11_sheet_106 rfl rfl ?_
        refine tk_goto dX11_sheet_109 ?_
        simp only [va_up_self, bx_uu, tk_une, tk_usrt, not_false_eq_true, Nat.reduceEqDiff, Nat.reduceLT, Nat.reduceAdd, Nat.reduceMul, Nat.reduceLeDiff, reduceCtorEq]
        rw [tkco_s (I 63) (fun _ => nI 0)]
        exact k _ (by repeat' (first | exact trivial | refine ⟨Or.inl rfl, ?_⟩ | refine ⟨Or.inr rfl, ?_⟩))
  have k36 : rIn s (nI 0) (nI 3) = true → (decide (b = 0) || (decide (b = nI 8) || (decide (b = nI 16) || decide (b = nI 32)))) = true → tkX G mX11_sheet 2 0 0 36 [some (vR 40), some (vI s), some (vI b), some (vI m), none] [] (n, T, I, L, P) (rPst n T I L P (rShC s b m) (if b = 0 then nI 0 else m) (va_up (va_up (va_up I 61 (va_up (I 61) (ix s) b)) 62 (va_up (I 62) (ix s) (if b = 0 then nI 0 else m))) 63 (tkco (I 63) (fun _ => nI 0) (14 * ix s) 14))) := by
    intro h4 hb
    refine tk_iload3 dX11_sheet_36 ?_
    refine tk_jf_ge dX11_sheet_37 (fun h37 => ?_) (fun h37 => ?_)
    · refine tk_iload3 dX11_sheet_48 ?_
      refine tk_bipush dX11_sheet_49 kc_bipush_14 ?_
      first | refine tk_icmp_leN dX11_sheet_51 (by omega) (by omega) (fun h51 => ?_) (fun h51 => ?_) | refine tk_jcmp_le dX11_sheet_51 (fun h51 => ?_) (fun h51 => ?_)
      · refine tk_aload0 dX11_sheet_61 ?_
        obtain ⟨s', hs1, rfl⟩ := rIn_of h4 (by omega)
        have hix : ix (nI s') = s' := ix_nI (by omega)
        have hcc : rShC (nI s') b m = none := by unfold rShC; rw [h4, hb, if_pos (by decide), if_neg (Int32.not_lt.mpr h37), if_neg (Int32.not_lt.mpr h51)]
        rw [hcc, hix]
        refine tk_getP dX11_sheet_62 fX11_71 rfl hR.o (hR.p 21 rfl) ?_
        refine tk_iload1 dX11_sheet_65 ?_
        refine tk_iload2 dX11_sheet_66 ?_
        refine tk_iast dX11_sheet_67 (hR.t 61 rfl) (by omega) (by omega) ?_
        refine tk_aload0 dX11_sheet_68 ?_
        refine tk_getP dX11_sheet_69 fX11_74 rfl hR.o (hR.p 22 rfl) ?_
        refine tk_iload1 dX11_sheet_72 ?_
        refine tk_iload2 dX11_sheet_73 ?_
        first | refine tk_jf_neB dX11_sheet_74 (fun h74 => ?_) (fun h74 => ?_) | refine tk_if_ne dX11_sheet_74 (fun h74 => ?_) (fun h74 => ?_)
        · refine tk_iload3 dX11_sheet_81 ?_
          first | rw [if_pos h74] | rw [if_neg h74]
          exact k82 s' _ hs1
        · refine tk_iconst dX11_sheet_77 kc_iconst_0 ?_
          refine tk_goto dX11_sheet_78 ?_
          first | rw [if_pos h74] | rw [if_neg h74]
          exact k82 s' _ hs1
      · refine tk_aload0 dX11_sheet_54 ?_
        refine tk_ldc dX11_sheet_55 klX11_183 ?_
        refine tk_callV1z dX11_sheet_57 kX11_179 hR.o (r_finding hR _) (Nat.le_of_ble_eq_true rfl) (by omega) ?_
        refine tk_ireturn dX11_sheet_60 rfl ?_
        first | exact rPst_f (by unfold rShC; rw [h4, hb, if_pos (by decide), if_pos h37]) | exact rPst_f (by unfold rShC; rw [h4, hb, if_pos (by decide), if_neg (Int32.not_lt.mpr h37), if_pos h51])
    · refine tk_aload0 dX11_sheet_40 ?_
      refine tk_ldcw dX11_sheet_41 klX11_290 ?_
      refine tk_callV1z dX11_sheet_44 kX11_179 hR.o (r_finding hR _) (Nat.le_of_ble_eq_true rfl) (by omega) ?_
      refine tk_ireturn dX11_sheet_47 rfl ?_
      first | exact rPst_f (by unfold rShC; rw [h4, hb, if_pos (by decide), if_pos h37]) | exact rPst_f (by unfold rShC; rw [h4, hb, if_pos (by decide), if_neg (Int32.not_lt.mpr h37), if_pos h51])
  refine tkM.of (ls := [some _, some _, some _, some _, none]) (by decide +kernel) (by decide +kernel) (Nat.le_of_ble_eq_true rfl) rfl ?_
  refine tk_iload1 dX11_sheet_0 ?_
  refine tk_callS1z dX11_sheet_1 kX11_201 (r_isSheet _) (Nat.le_of_ble_eq_true rfl) (by omega) ?_
  first | refine tk_jf_eqB dX11_sheet_4 (fun h4 => ?_) (fun h4 => ?_) | refine tk_if_eq dX11_sheet_4 (fun h4 => ?_) (fun h4 => ?_)
  · refine tk_aload0 dX11_sheet_29 ?_
    refine tk_ldc dX11_sheet_30 klX11_183 ?_
    refine tk_callV1z dX11_sheet_32 kX11_179 hR.o (r_finding hR _) (Nat.le_of_ble_eq_true rfl) (by omega) ?_
    refine tk_ireturn dX11_sheet_35 rfl ?_
    first | exact rPst_f (by unfold rShC; rw [h4]; rfl) | exact rPst_f (by unfold rShC; rw [h4, if_neg]; simp_all)
  · refine tk_iload2 dX11_sheet_7 ?_
    first | refine tk_jf_eqB dX11_sheet_8 (fun h8 => ?_) (fun h8 => ?_) | refine tk_if_eq dX11_sheet_8 (fun h8 => ?_) (fun h8 => ?_)
    · exact k36 h4 (by simp_all)
    · refine tk_iload2 dX11_sheet_11 ?_
      refine tk_bipush dX11_sheet_12 kc_bipush_8 ?_
      first | refine tk_icmp_eqN dX11_sheet_14 (by omega) (by omega) (fun h14 => ?_) (fun h14 => ?_) | refine tk_icmp_eq dX11_sheet_14 (fun h14 => ?_) (fun h14 => ?_)
      · exact k36 h4 (by simp_all)
      · refine tk_iload2 dX11_sheet_17 ?_
        refine tk_bipush dX11_sheet_18 kc_bipush_16 ?_
        first | refine tk_icmp_eqN dX11_sheet_20 (by omega) (by omega) (fun h20 => ?_) (fun h20 => ?_) | refine tk_icmp_eq dX11_sheet_20 (fun h20 => ?_) (fun h20 => ?_)
        · exact k36 h4 (by simp_all)
        · refine tk_iload2 dX11_sheet_23 ?_
          refine tk_bipush dX11_sheet_24 kc_bipush_32 ?_
          first | refine tk_icmp_eqN dX11_sheet_26 (by omega) (by omega) (fun h26 => ?_) (fun h26 => ?_) | refine tk_icmp_eq dX11_sheet_26 (fun h26 => ?_) (fun h26 => ?_)
          · exact k36 h4 (by simp_all)
          · refine tk_aload0 dX11_sheet_29 ?_
            refine tk_ldc dX11_sheet_30 klX11_183 ?_
            refine tk_callV1z dX11_sheet_32 kX11_179 hR.o (r_finding hR _) (Nat.le_of_ble_eq_true rfl) (by omega) ?_
            refine tk_ireturn dX11_sheet_35 rfl ?_
            first | exact rPst_f (by unfold rShC; rw [h4]; rfl) | exact rPst_f (by unfold rShC; rw [h4, if_neg]; simp_all)
end REFF
