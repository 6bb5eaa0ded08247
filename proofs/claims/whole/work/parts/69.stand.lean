/-! ===== the class: sight, how a sentence stands ===== -/
def sVw (n : Nat) (T : Nat → Nat × Nat) (I : Nat → Nat → Int32) (L : Nat → Nat → Int64) (P : Nat → Nat → Option Nat) (z wa c g np nf W r cn : Nat) (F ce gr cs : Nat → Int32) (cl : Nat → Nat) : Prop := (15 ≤ z ∧ z + 2 ≤ 39) ∧ sObj T P z ∧ P z 0 = some wa ∧ cWld n T I L P wa np nf W r F ce ∧ 1 ≤ W ∧ W ≤ 64 ∧ np ≤ 4 ∧ nf ≤ 4 ∧ tauN (I (z + 1)) ∧ P z 1 = some c ∧ T c = (23, cn) ∧ cn ≤ 5 ∧ P z 2 = some g ∧ T g = (20, 3) ∧ (∀ i, i < 3 → I g i = gr i) ∧ ∀ i, i < cn → ∃ ra, P c i = some ra ∧ cRow n T I P ra (cl i) (fun j => cs (14 * i + j)) ∧ 1 ≤ cl i ∧ WF np nf false (fun j => cs (14 * i + j)) 14 (cl i - 1)
def lSm (z : Nat) (L L' : Nat → Nat → Int64) : Prop := ∀ a, ¬ a = z → ¬ a = z + 2 → L' a = L a
theorem lSm.rf {z : Nat} {L : Nat → Nat → Int64} : lSm z L L := fun _ _ _ => rfl
theorem lSm.tr {z : Nat} {L L1 L2 : Nat → Nat → Int64} (h : lSm z L L1) (g : lSm z L1 L2) : lSm z L L2 := fun a h1 h2 => (g a h1 h2).trans (h a h1 h2)
theorem cWld.L {n : Nat} {T : Nat → Nat × Nat} {I : Nat → Nat → Int32} {L L' : Nat → Nat → Int64} {P : Nat → Nat → Option Nat} {a np nf W r z : Nat} {F ce : Nat → Int32} (hz : 15 ≤ z ∧ z + 2 ≤ 39) (h : cWld n T I L P a np nf W r F ce) (e : lSm z L L') : cWld n T I L' P a np nf W r F ce := h.ex ⟨Nat.le_refl _, fun b hb => ⟨rfl, rfl, e b (by have := hb.1; omega) (by have := hb.1; omega), rfl⟩⟩
theorem sVw.L {n : Nat} {T : Nat → Nat × Nat} {I : Nat → Nat → Int32} {L L' : Nat → Nat → Int64} {P : Nat → Nat → Option Nat} {z wa c g np nf W r cn : Nat} {F ce gr cs : Nat → Int32} {cl : Nat → Nat} (h : sVw n T I L P z wa c g np nf W r cn F ce gr cs cl) (e : lSm z L L') : sVw n T I L' P z wa c g np nf W r cn F ce gr cs cl := by
  obtain ⟨h1, h2, h3, h4, h5⟩ := h
  exact ⟨h1, h2, h3, h4.L h1 e, h5⟩
section STAND
variable {G : tkG} {n : Nat} {T : Nat → Nat × Nat} {I : Nat → Nat → Int32} {P : Nat → Nat → Option Nat} {z wa c g np nf W r cn : Nat} {F ce gr cs : Nat → Int32} {cl : Nat → Nat}
/-- claims as this sight hears them -/
def sHe (I : Nat → Nat → Int32) (z np nf W cn : Nat) (F ce gr cs : Nat → Int32) (cl : Nat → Nat) : Nat → (Nat → Prop) → Nat → Prop := sCV np cn (faF F) (cTi ce F W nf (I (z + 1))) (memG gr) cs cl
def HRD (I : Nat → Nat → Int32) (z np nf W cn : Nat) (F ce gr cs : Nat → Int32) (cl : Nat → Nat) (L : Nat → Nat → Int64) : Prop := L z 5 = 0 ∨ ∀ c, c < cn → ∀ u, tb (L (z + 2) c) u = true ↔ sHe I z np nf W cn F ce gr cs cl c (fun u => tb (L z 5) u = true) u
def stQ (n : Nat) (T : Nat → Nat × Nat) (I : Nat → Nat → Int32) (L : Nat → Nat → Int64) (P : Nat → Nat → Option Nat) (z : Nat) (bl : Bool) (H : (Nat → Nat → Int64) → Prop) (A : Nat → Prop) : Option tkV → tkH → Prop := fun r h => ∃ x L', r = some (vL x) ∧ h = (n, T, I, L', P) ∧ lSm z L L' ∧ (bl = true → H L') ∧ (bl = false → L' = L) ∧ ∀ u, tb x u = true ↔ A u
/-- what hearing promises -/
def heQ (n : Nat) (T : Nat → Nat × Nat) (I : Nat → Nat → Int32) (L : Nat → Nat → Int64) (P : Nat → Nat → Option Nat) (z cn : Nat) (H : (Nat → Nat → Int64) → Prop) (he : Nat → Nat → Prop) : Option tkV → tkH → Prop := fun r h => ∃ L', r = none ∧ h = (n, T, I, L', P) ∧ lSm z L L' ∧ H L' ∧ ∀ c, c < cn → ∀ u, tb (L' (z + 2) c) u = true ↔ he c u
theorem c_ofPerson {L : Nat → Nat → Int64} {bl : Bool} {dh v dep : Nat} (hv : sVw n T I L P z wa c g np nf W r cn F ce gr cs cl) {part set : Int64} (hset : ∀ v, tb set v = true → v < W) (hpart : ∀ v, tb part v = true → tb set v = true) (h20 : 20 ≤ v) (h32 : v < 32) (hvp : v % 4 < np) (hb : 28 ≤ v → bl = true) (hH : bl = true → HRD I z np nf W cn F ce gr cs cl L) (hear : bl = true → tkM G mX6_hearClaims dh 0 0 [vR z, vL set, vI (nI dep)] (n, T, I, L, P) (heQ n T I L P z cn (HRD I z np nf W cn F ce gr cs cl) (fun c => sHe I z np nf W cn F ce gr cs cl c (fun u => tb set u = true)))) {cv : Nat → (Nat → Prop) → Nat → Prop} (hcv : bl = true → cv = sHe I z np nf W cn F ce gr cs cl) : tkM G mX6_ofPerson (dh + 3) 0 0 [vR z, vI (nI v), vL part, vL set, vI (nI dep)] (n, T, I, L, P) (stQ n T I L P z bl (HRD I z np nf W cn F ce gr cs cl) (fun u => tb set u = true ∧ sIs np (cTi ce F W nf (I (z + 1))) (memG gr) cn (fun c => cv c (fun u => tb set u = true)) v (fun v => tb set v = true) (fun v => tb part v = true) u)) := by
  have hv' := hv
  obtain ⟨hz, hs, hpw, hw, hW1, hW, hnp, hnf, hta, hpc, hc, hcn, hpg, hg, hgr, hcl⟩ := hv'
  have s1 := hs.1
  have hpp : ∀ q, q < 4 → (rMem (kshl (nI 1) (nI (v % 4))) q = true ↔ q = v % 4) := fun q hq => by rw [one_sh (v % 4) (by omega) q hq, decide_eq_true_eq]
  refine tkM.of (ls := [some _, some _, some _, none, some _, none, some _, none]) (by decide +kernel) (by decide +kernel) (Nat.le_of_ble_eq_true rfl) rfl ?_
  refine tk_iload1 dX6_ofPerson_0 ?_
  refine tk_callS1z dX6_ofPerson_1 kX6_111 (c_personOf h20 (by omega)) (Nat.le_of_ble_eq_true rfl) (by omega) ?_
  refine tk_istore7 dX6_ofPerson_4 rfl ?_
  refine tk_iload1 dX6_ofPerson_6 ?_
  refine tk_bipush dX6_ofPerson_7 kc_bipush_24 ?_
  first | refine tk_icmp_geN dX6_ofPerson_9 (by omega) (by omega) (fun h9 => ?_) (fun h9 => ?_) | refine tk_jcmp_ge dX6_ofPerson_9 (fun h9 => ?_) (fun h9 => ?_)
  · refine tk_iload1 dX6_ofPerson_36 ?_
    refine tk_bipush dX6_ofPerson_37 kc_bipush_28 ?_
    first | refine tk_icmp_geN dX6_ofPerson_39 (by omega) (by omega) (fun h39 => ?_) (fun h39 => ?_) | refine tk_jcmp_ge dX6_ofPerson_39 (fun h39 => ?_) (fun h39 => ?_)
    · refine tk_aload0 dX6_ofPerson_55 ?_
      have hbt := hb (by omega)
      refine tk_lload4 dX6_ofPerson_56 ?_
      refine tk_iload6 dX6_ofPerson_58 ?_
      refine tk_callV2q dX6_ofPerson_60 kX6_76 (by first | assumption | exact va_up_self _ _ _ | exact (va_up_ne _ _ (by omega)).trans (by assumption) | exact congrArg Prod.fst (va_up_self _ _ _) | exact (congrArg Prod.fst (va_up_ne _ _ (by omega))).trans (by assumption) | exact (congrFun (va_up_ne _ _ (by omega)) _).trans (by assumption) | exact (va_up_ne _ _ (by omega)).trans (va_up_self _ _ _) | exact (va_up_ne _ _ (by omega)).trans ((va_up_ne _ _ (by omega)).trans (by assumption)) | exact (congrArg Prod.fst ((va_up_ne _ _ (by omega)).trans (va_up_ne _ _ (by omega)))).trans (by assumption) | exact (congrFun ((va_up_ne _ _ (by omega)).trans (va_up_ne _ _ (by omega))) _).trans (by assumption) | (rw [va_up_self, va_up_ne _ _ (by omega)]; assumption)) (hear hbt) (Nat.le_of_ble_eq_true rfl) (by omega) ?_
      rintro rr h1 ⟨L', rfl, rfl, l1, l2, l3⟩
      dsimp only [Option.toList, List.cons_append, List.nil_append]
      refine tk_aload0 dX6_ofPerson_63 ?_
      refine tk_iload7 dX6_ofPerson_64 ?_
      refine tk_lload2 dX6_ofPerson_66 ?_
      refine tk_lload4 dX6_ofPerson_67 ?_
      refine tk_callV3q dX6_ofPerson_69 kX6_114 (by first | assumption | exact va_up_self _ _ _ | exact (va_up_ne _ _ (by omega)).trans (by assumption) | exact congrArg Prod.fst (va_up_self _ _ _) | exact (congrArg Prod.fst (va_up_ne _ _ (by omega))).trans (by assumption) | exact (congrFun (va_up_ne _ _ (by omega)) _).trans (by assumption) | exact (va_up_ne _ _ (by omega)).trans (va_up_self _ _ _) | exact (va_up_ne _ _ (by omega)).trans ((va_up_ne _ _ (by omega)).trans (by assumption)) | exact (congrArg Prod.fst ((va_up_ne _ _ (by omega)).trans (va_up_ne _ _ (by omega)))).trans (by assumption) | exact (congrFun ((va_up_ne _ _ (by omega)).trans (va_up_ne _ _ (by omega))) _).trans (by assumption) | (rw [va_up_self, va_up_ne _ _ (by omega)]; assumption)) (c_believes hs hpw (hw.L hz l1) hW hnp hnf hta hpc hc hcn l3 hvp part hset) (Nat.le_of_ble_eq_true rfl) (by omega) ?_
      rintro rr h1 ⟨x, rfl, rfl, hx⟩
      dsimp only [Option.toList, List.cons_append, List.nil_append]
      refine tk_lreturn dX6_ofPerson_72 rfl ?_
      refine ⟨_, _, rfl, rfl, l1, fun _ => l2, fun q => (by rw [hbt] at q; cases q), fun u => ?_⟩
      rw [hx u, hcv hbt]
      refine and_congr_right (fun hu => ?_)
      rw [sIs28 (by omega) (by omega), show v - 28 = v % 4 by omega]
    · refine tk_lload4 dX6_ofPerson_42 ?_
      refine tk_aload0 dX6_ofPerson_44 ?_
      refine tk_iconst dX6_ofPerson_45 kc_iconst_1 ?_
      refine tk_iload7 dX6_ofPerson_46 ?_
      refine tk_ishl dX6_ofPerson_48 ?_
      refine tk_lload2 dX6_ofPerson_49 ?_
      refine tk_callV2q dX6_ofPerson_50 kX6_60 (by first | assumption | exact va_up_self _ _ _ | exact (va_up_ne _ _ (by omega)).trans (by assumption) | exact congrArg Prod.fst (va_up_self _ _ _) | exact (congrArg Prod.fst (va_up_ne _ _ (by omega))).trans (by assumption) | exact (congrFun (va_up_ne _ _ (by omega)) _).trans (by assumption) | exact (va_up_ne _ _ (by omega)).trans (va_up_self _ _ _) | exact (va_up_ne _ _ (by omega)).trans ((va_up_ne _ _ (by omega)).trans (by assumption)) | exact (congrArg Prod.fst ((va_up_ne _ _ (by omega)).trans (va_up_ne _ _ (by omega)))).trans (by assumption) | exact (congrFun ((va_up_ne _ _ (by omega)).trans (va_up_ne _ _ (by omega))) _).trans (by assumption) | (rw [va_up_self, va_up_ne _ _ (by omega)]; assumption)) (c_touched hs hpw hw hW hnp hnf hta (kshl (nI 1) (nI (v % 4))) (part := part) (fun v hv => hset v (hpart v hv))) (Nat.le_of_ble_eq_true rfl) (by omega) ?_
      rintro rr h1 ⟨x, rfl, rfl, hx⟩
      dsimp only [Option.toList, List.cons_append, List.nil_append]
      refine tk_land dX6_ofPerson_53 ?_
      refine tk_lreturn dX6_ofPerson_54 rfl ?_
      refine ⟨_, _, rfl, rfl, lSm.rf, hH, fun _ => rfl, fun u => ?_⟩
      rw [tb_andT, hx u]
      refine and_congr_right (fun hu => ?_)
      rw [sIs24 (by omega) (by omega), show v - 24 = v % 4 by omega]
      constructor
      · rintro ⟨q, q1, q2, w, q3, q4⟩
        obtain rfl := (hpp q (by omega)).mp q2
        exact ⟨w, hpart w q3, cTi_sym hW (hset w (hpart w q3)) q4, q3⟩
      · rintro ⟨w, q1, q2, q3⟩
        exact ⟨v % 4, hvp, (hpp _ (by omega)).mpr rfl, w, q3, cTi_sym hW (hset u hu) q2⟩
  · refine tk_lload4 dX6_ofPerson_12 ?_
    refine tk_aload0 dX6_ofPerson_14 ?_
    refine tk_iconst dX6_ofPerson_15 kc_iconst_1 ?_
    refine tk_iload7 dX6_ofPerson_16 ?_
    refine tk_ishl dX6_ofPerson_18 ?_
    refine tk_lload4 dX6_ofPerson_19 ?_
    refine tk_lload2 dX6_ofPerson_21 ?_
    refine tk_ldc2 dX6_ofPerson_22 klX6_58 ?_
    refine tk_lxor dX6_ofPerson_25 ?_
    refine tk_land dX6_ofPerson_26 ?_
    refine tk_callV2q dX6_ofPerson_27 kX6_60 (by first | assumption | exact va_up_self _ _ _ | exact (va_up_ne _ _ (by omega)).trans (by assumption) | exact congrArg Prod.fst (va_up_self _ _ _) | exact (congrArg Prod.fst (va_up_ne _ _ (by omega))).trans (by assumption) | exact (congrFun (va_up_ne _ _ (by omega)) _).trans (by assumption) | exact (va_up_ne _ _ (by omega)).trans (va_up_self _ _ _) | exact (va_up_ne _ _ (by omega)).trans ((va_up_ne _ _ (by omega)).trans (by assumption)) | exact (congrArg Prod.fst ((va_up_ne _ _ (by omega)).trans (va_up_ne _ _ (by omega)))).trans (by assumption) | exact (congrFun ((va_up_ne _ _ (by omega)).trans (va_up_ne _ _ (by omega))) _).trans (by assumption) | (rw [va_up_self, va_up_ne _ _ (by omega)]; assumption)) (c_touched hs hpw hw hW hnp hnf hta (kshl (nI 1) (nI (v % 4))) (sub_dif (part := part) hset)) (Nat.le_of_ble_eq_true rfl) (by omega) ?_
    rintro rr h1 ⟨x, rfl, rfl, hx⟩
    dsimp only [Option.toList, List.cons_append, List.nil_append]
    refine tk_ldc2 dX6_ofPerson_30 klX6_58 ?_
    refine tk_lxor dX6_ofPerson_33 ?_
    refine tk_land dX6_ofPerson_34 ?_
    refine tk_lreturn dX6_ofPerson_35 rfl ?_
    refine ⟨_, _, rfl, rfl, lSm.rf, hH, fun _ => rfl, fun u => ?_⟩
    rw [tb_dif, hx u]
    refine and_congr_right (fun hu => ?_)
    rw [sIs20 h20 (by omega), show v - 20 = v % 4 by omega]
    constructor
    · intro h w hw2 ht
      apply Classical.byContradiction
      intro q
      exact h ⟨v % 4, hvp, (hpp _ (by omega)).mpr rfl, w, tb_dif.mpr ⟨hw2, q⟩, cTi_sym hW (hset u hu) ht⟩
    · rintro h ⟨q, q1, q2, w, q3, q4⟩
      obtain rfl := (hpp q (by omega)).mp q2
      have d := tb_dif.mp q3
      exact d.2 (h w d.1 (cTi_sym hW (hset w d.1) q4))
end STAND
