/-! ===== the class: sight, beliefs, groups ===== -/
section BEL
variable {G : tkG} {n : Nat} {T : Nat → Nat × Nat} {I : Nat → Nat → Int32} {L : Nat → Nat → Int64} {P : Nat → Nat → Option Nat}
def belP (tie : Nat → Nat → Nat → Prop) (cvP : Nat → Nat → Prop) (cn p : Nat) (S X : Nat → Prop) (u : Nat) : Prop := ∀ v, sRem cvP 0 cn (fun v => tie p u v ∧ S v) v → X v
theorem c_believes {z wa c np nf W r cn p : Nat} {F ce : Nat → Int32} {cvP : Nat → Nat → Prop} (hs : sObj T P z) (hpw : P z 0 = some wa) (hw : cWld n T I L P wa np nf W r F ce) (hW : W ≤ 64) (hnp : np ≤ 4) (hnf : nf ≤ 4) (hta : tauN (I (z + 1))) (hpc : P z 1 = some c) (hc : T c = (23, cn)) (hcn : cn ≤ 5) (hcv : ∀ c, c < cn → ∀ u, tb (L (z + 2) c) u = true ↔ cvP c u) (hp : p < np) (part : Int64) {set : Int64} (hset : ∀ v, tb set v = true → v < W) : tkM G mX6_believes 2 0 0 [vR z, vI (nI p), vL part, vL set] (n, T, I, L, P) (vlQ n T I L P (fun u => tb set u = true ∧ belP (cTi ce F W nf (I (z + 1))) cvP cn p (fun v => tb set v = true) (fun v => tb part v = true) u)) := by
  have s1 := hs.1
  obtain ⟨t, ht1, ht2⟩ := hta p (by omega)
  have ends : ∀ res : Int64, (∀ u, tb res u = true ↔ tb set u = true ∧ belP (cTi ce F W nf (I (z + 1))) cvP cn p (fun v => tb set v = true) (fun v => tb part v = true) u) → tkX G mX6_believes 2 0 0 81 [none, none, none, none, none, none, some (vL res), none, none, none, none, none, none] [] (n, T, I, L, P) (vlQ n T I L P (fun u => tb set u = true ∧ belP (cTi ce F W nf (I (z + 1))) cvP cn p (fun v => tb set v = true) (fun v => tb part v = true) u)) := by
    intro res hr
    refine tk_lload6 dX6_believes_81 ?_
    refine tk_lreturn dX6_believes_83 rfl ?_
    exact ⟨res, rfl, rfl, hr⟩
  have bel : ∀ v0, v0 < W → ∀ c0 : Int64, (∀ u, tb c0 u = true ↔ cTi ce F W nf (I (z + 1)) p v0 u) → ∀ u, cTi ce F W nf (I (z + 1)) p v0 u → (belP (cTi ce F W nf (I (z + 1))) cvP cn p (fun v => tb set v = true) (fun v => tb part v = true) u ↔ rRe (L (z + 2)) 0 cn (c0 &&& set) &&& (part ^^^ (-1)) = 0) := by
    intro v0 hv0 c0 hc0 u hu
    rw [tb_sub0]
    unfold belP
    refine forall_congr' (fun v => ?_)
    rw [rRe_T (cvP := cvP) cn (c0 &&& set) hcv v, sRem_congr cn (fun v => cTi ce F W nf (I (z + 1)) p u v ∧ tb set v = true) (fun v => tb (c0 &&& set) v = true) (fun v => by rw [tb_andT, hc0 v, cTi_eq hW hv0 hu v]) (fun _ _ _ => Iff.rfl) v]
  have loop : ∀ (m i : Nat) (left res : Int64), cnt left 64 ≤ m → i + cnt left 64 ≤ 64 → (∀ u, tb res u = true ↔ tb set u = true ∧ ¬ tb left u = true ∧ belP (cTi ce F W nf (I (z + 1))) cvP cn p (fun v => tb set v = true) (fun v => tb part v = true) u) → (∀ v, tb left v = true → tb set v = true) → tkX G mX6_believes 2 0 0 10 [some (vR z), some (vI (nI p)), some (vL part), none, some (vL set), none, some (vL res), none, some (vL left), none, some (vI (nI i)), none, none] [] (n, T, I, L, P) (vlQ n T I L P (fun u => tb set u = true ∧ belP (cTi ce F W nf (I (z + 1))) cvP cn p (fun v => tb set v = true) (fun v => tb part v = true) u)) := by
    intro m
    induction m with
    | zero =>
      intro i left res hm hi inv hl
      have hz : left = 0 := cnt_0 (by omega)
      refine tk_iload10 dX6_believes_10 ?_
      refine tk_bipush dX6_believes_12 kc_bipush_64 ?_
      first | refine tk_icmp_geN dX6_believes_14 (by omega) (by omega) (fun h14 => ?_) (fun h14 => ?_) | refine tk_jcmp_ge dX6_believes_14 (fun h14 => ?_) (fun h14 => ?_)
      · exact tk_wk (by repeat' (first | exact trivial | refine ⟨Or.inl rfl, ?_⟩ | refine ⟨Or.inr rfl, ?_⟩)) (ends res (fun u => by rw [inv u, hz]; exact ⟨fun h => ⟨h.1, h.2.2⟩, fun h => ⟨h.1, (by rw [tb_0]; decide), h.2⟩⟩))
      · refine tk_lload8 dX6_believes_17 ?_
        refine tk_lconst dX6_believes_19 (v := 0) (by decide) ?_
        refine tk_lcmp dX6_believes_20 ?_
        first | refine tk_jf_eqB dX6_believes_21 (fun h21 => ?_) (fun h21 => ?_) | refine tk_if_eq dX6_believes_21 (fun h21 => ?_) (fun h21 => ?_)
        · exact tk_wk (by repeat' (first | exact trivial | refine ⟨Or.inl rfl, ?_⟩ | refine ⟨Or.inr rfl, ?_⟩)) (ends res (fun u => by rw [inv u, hz]; exact ⟨fun h => ⟨h.1, h.2.2⟩, fun h => ⟨h.1, (by rw [tb_0]; decide), h.2⟩⟩))
        · exact absurd ((lgc0 _ _).mpr hz) h21
    | succ m ih =>
      intro i left res hm hi inv hl
      have nxt : ∀ (c0 : Int64), (∀ u, tb c0 u = true ↔ cTi ce F W nf (I (z + 1)) p (lsb left) u) → ∀ (b : Bool), (if b then rRe (L (z + 2)) 0 cn (c0 &&& set) &&& (part ^^^ (-1)) = 0 else ¬ rRe (L (z + 2)) 0 cn (c0 &&& set) &&& (part ^^^ (-1)) = 0) → tb left (lsb left) = true → tkX G mX6_believes 2 0 0 10 [some (vR z), some (vI (nI p)), some (vL part), none, some (vL set), none, some (vL (if b then res ||| (c0 &&& set) else res)), none, some (vL (left &&& ((c0 &&& set) ^^^ (-1)))), none, some (vI (nI (i + 1))), none, none] [] (n, T, I, L, P) (vlQ n T I L P (fun u => tb set u = true ∧ belP (cTi ce F W nf (I (z + 1))) cvP cn p (fun v => tb set v = true) (fun v => tb part v = true) u)) := by
        intro c0 hc0 b hb v1
        have hv := hset _ (hl _ v1)
        have hcs : ∀ u, tb (c0 &&& set) u = true ↔ cTi ce F W nf (I (z + 1)) p (lsb left) u ∧ tb set u = true := fun u => by rw [tb_andT, hc0 u]
        have hlt : cnt (left &&& ((c0 &&& set) ^^^ (-1))) 64 < cnt left 64 := by
          refine cnt_lt (j := lsb left) (fun i hi => (tb_dif.mp hi).1) (tb_lt v1) ?_ v1
          cases e : tb (left &&& ((c0 &&& set) ^^^ (-1))) (lsb left) with
          | false => rfl
          | true => exact absurd ((hcs _).mpr ⟨cTi_rf hW hv, hl _ v1⟩) (tb_dif.mp e).2
        refine ih (i + 1) _ _ (by omega) (by omega) (fun u => ?_) (fun v hv => hl v (tb_dif.mp hv).1)
        have hB := bel _ hv c0 hc0 u
        rw [tb_dif, hcs u]
        cases b with
        | true =>
          rw [if_pos rfl] at hb ⊢
          rw [tb_orT, inv u, hcs u]
          constructor
          · rintro (⟨a1, a2, a3⟩ | ⟨a1, a2⟩)
            · exact ⟨a1, fun q => a2 q.1, a3⟩
            · exact ⟨a2, fun q => q.2 ⟨a1, a2⟩, (hB a1).mpr hb⟩
          · rintro ⟨a1, a2, a3⟩
            by_cases q : tb left u = true
            · have : cTi ce F W nf (I (z + 1)) p (lsb left) u ∧ tb set u = true := Classical.byContradiction (fun z => a2 ⟨q, z⟩)
              exact Or.inr this
            · exact Or.inl ⟨a1, q, a3⟩
        | false =>
          rw [if_neg (by decide)] at hb ⊢
          rw [inv u]
          constructor
          · rintro ⟨a1, a2, a3⟩
            exact ⟨a1, fun q => a2 q.1, a3⟩
          · rintro ⟨a1, a2, a3⟩
            refine ⟨a1, fun q => ?_, a3⟩
            have : cTi ce F W nf (I (z + 1)) p (lsb left) u ∧ tb set u = true := Classical.byContradiction (fun z => a2 ⟨q, z⟩)
            exact hb ((hB this.1).mp a3)
      refine tk_iload10 dX6_believes_10 ?_
      refine tk_bipush dX6_believes_12 kc_bipush_64 ?_
      first | refine tk_icmp_geN dX6_believes_14 (by omega) (by omega) (fun h14 => ?_) (fun h14 => ?_) | refine tk_jcmp_ge dX6_believes_14 (fun h14 => ?_) (fun h14 => ?_)
      · first
          | exact tk_wk (by repeat' (first | exact trivial | refine ⟨Or.inl rfl, ?_⟩ | refine ⟨Or.inr rfl, ?_⟩)) (ends res (fun u => by rw [inv u, cnt_0 (x := left) (by omega)]; exact ⟨fun h => ⟨h.1, h.2.2⟩, fun h => ⟨h.1, (by rw [tb_0]; decide), h.2⟩⟩))
          | exact tk_wk (by repeat' (first | exact trivial | refine ⟨Or.inl rfl, ?_⟩ | refine ⟨Or.inr rfl, ?_⟩)) (ends res (fun u => by rw [inv u, (lgc0 _ _).mp h21]; exact ⟨fun h => ⟨h.1, h.2.2⟩, fun h => ⟨h.1, (by rw [tb_0]; decide), h.2⟩⟩))
      · refine tk_lload8 dX6_believes_17 ?_
        refine tk_lconst dX6_believes_19 (v := 0) (by decide) ?_
        refine tk_lcmp dX6_believes_20 ?_
        first | refine tk_jf_eqB dX6_believes_21 (fun h21 => ?_) (fun h21 => ?_) | refine tk_if_eq dX6_believes_21 (fun h21 => ?_) (fun h21 => ?_)
        · first
            | exact tk_wk (by repeat' (first | exact trivial | refine ⟨Or.inl rfl, ?_⟩ | refine ⟨Or.inr rfl, ?_⟩)) (ends res (fun u => by rw [inv u, cnt_0 (x := left) (by omega)]; exact ⟨fun h => ⟨h.1, h.2.2⟩, fun h => ⟨h.1, (by rw [tb_0]; decide), h.2⟩⟩))
            | exact tk_wk (by repeat' (first | exact trivial | refine ⟨Or.inl rfl, ?_⟩ | refine ⟨Or.inr rfl, ?_⟩)) (ends res (fun u => by rw [inv u, (lgc0 _ _).mp h21]; exact ⟨fun h => ⟨h.1, h.2.2⟩, fun h => ⟨h.1, (by rw [tb_0]; decide), h.2⟩⟩))
        · have h0 : ¬ left = 0 := fun e => h21 ((lgc0 _ _).mpr e)
          obtain ⟨v1, v2, v3⟩ := lsb_of h0
          have hvW := hset _ (hl _ v1)
          refine tk_aload0 dX6_believes_24 ?_
          refine tk_iload1 dX6_believes_25 ?_
          refine tk_lload8 dX6_believes_26 ?_
          refine tk_callSN1z dX6_believes_28 kX6_123 (c_least h0) (Nat.le_of_ble_eq_true rfl) (by omega) ?_
          refine tk_callV2q dX6_believes_31 kX6_127 (by first | assumption | exact va_up_self _ _ _ | exact (va_up_ne _ _ (by omega)).trans (by assumption) | exact congrArg Prod.fst (va_up_self _ _ _) | exact (congrArg Prod.fst (va_up_ne _ _ (by omega))).trans (by assumption) | exact (congrFun (va_up_ne _ _ (by omega)) _).trans (by assumption) | exact (va_up_ne _ _ (by omega)).trans (va_up_self _ _ _) | exact (va_up_ne _ _ (by omega)).trans ((va_up_ne _ _ (by omega)).trans (by assumption)) | exact (congrArg Prod.fst ((va_up_ne _ _ (by omega)).trans (va_up_ne _ _ (by omega)))).trans (by assumption) | exact (congrFun ((va_up_ne _ _ (by omega)).trans (va_up_ne _ _ (by omega))) _).trans (by assumption) | (rw [va_up_self, va_up_ne _ _ (by omega)]; assumption)) (c_cellOf hs hpw hw hW hnp hnf hp hvW ht1 ht2) (Nat.le_of_ble_eq_true rfl) (by omega) ?_
          rintro rr h1 ⟨c0, rfl, rfl, hc0⟩
          dsimp only [Option.toList, List.cons_append, List.nil_append]
          refine tk_lload4 dX6_believes_34 ?_
          refine tk_land dX6_believes_36 ?_
          refine tk_lstore11 dX6_believes_37 rfl ?_
          refine tk_aload0 dX6_believes_39 ?_
          refine tk_lload11 dX6_believes_40 ?_
          refine tk_iconst dX6_believes_42 kc_iconst_0 ?_
          refine tk_callV2z dX6_believes_43 kX6_87 (by first | assumption | exact va_up_self _ _ _ | exact (va_up_ne _ _ (by omega)).trans (by assumption) | exact congrArg Prod.fst (va_up_self _ _ _) | exact (congrArg Prod.fst (va_up_ne _ _ (by omega))).trans (by assumption) | exact (congrFun (va_up_ne _ _ (by omega)) _).trans (by assumption) | exact (va_up_ne _ _ (by omega)).trans (va_up_self _ _ _) | exact (va_up_ne _ _ (by omega)).trans ((va_up_ne _ _ (by omega)).trans (by assumption)) | exact (congrArg Prod.fst ((va_up_ne _ _ (by omega)).trans (va_up_ne _ _ (by omega)))).trans (by assumption) | exact (congrFun ((va_up_ne _ _ (by omega)).trans (va_up_ne _ _ (by omega))) _).trans (by assumption) | (rw [va_up_self, va_up_ne _ _ (by omega)]; assumption)) (c_remaining hs hpc hc hcn (by omega) (c0 &&& set)) (Nat.le_of_ble_eq_true rfl) (by omega) ?_
          refine tk_lload2 dX6_believes_46 ?_
          refine tk_ldc2 dX6_believes_47 klX6_58 ?_
          refine tk_lxor dX6_believes_50 ?_
          refine tk_land dX6_believes_51 ?_
          refine tk_lconst dX6_believes_52 (v := 0) (by decide) ?_
          refine tk_lcmp dX6_believes_53 ?_
          first | refine tk_jf_neB dX6_believes_54 (fun h54 => ?_) (fun h54 => ?_) | refine tk_if_ne dX6_believes_54 (fun h54 => ?_) (fun h54 => ?_)
          · refine tk_lload8 dX6_believes_64 ?_
            refine tk_lload11 dX6_believes_66 ?_
            refine tk_ldc2 dX6_believes_68 klX6_58 ?_
            refine tk_lxor dX6_believes_71 ?_
            refine tk_land dX6_believes_72 ?_
            refine tk_lstore8 dX6_believes_73 rfl ?_
            first | refine tk_iinc10 dX6_believes_75 (kc_inc _) rfl ?_ | refine tk_iinc10 dX6_believes_75 rfl rfl ?_
            refine tk_goto dX6_believes_78 ?_
            first
              | exact tk_wk (by repeat' (first | exact trivial | refine ⟨Or.inl rfl, ?_⟩ | refine ⟨Or.inr rfl, ?_⟩)) (nxt c0 hc0 true ((lgc0 _ _).mp h54) v1)
              | exact tk_wk (by repeat' (first | exact trivial | refine ⟨Or.inl rfl, ?_⟩ | refine ⟨Or.inr rfl, ?_⟩)) (nxt c0 hc0 false (fun e => h54 ((lgc0 _ _).mpr e)) v1)
          · refine tk_lload6 dX6_believes_57 ?_
            refine tk_lload11 dX6_believes_59 ?_
            refine tk_lor dX6_believes_61 ?_
            refine tk_lstore6 dX6_believes_62 rfl ?_
            refine tk_lload8 dX6_believes_64 ?_
            refine tk_lload11 dX6_believes_66 ?_
            refine tk_ldc2 dX6_believes_68 klX6_58 ?_
            refine tk_lxor dX6_believes_71 ?_
            refine tk_land dX6_believes_72 ?_
            refine tk_lstore8 dX6_believes_73 rfl ?_
            first | refine tk_iinc10 dX6_believes_75 (kc_inc _) rfl ?_ | refine tk_iinc10 dX6_believes_75 rfl rfl ?_
            refine tk_goto dX6_believes_78 ?_
            first
              | exact tk_wk (by repeat' (first | exact trivial | refine ⟨Or.inl rfl, ?_⟩ | refine ⟨Or.inr rfl, ?_⟩)) (nxt c0 hc0 true ((lgc0 _ _).mp h54) v1)
              | exact tk_wk (by repeat' (first | exact trivial | refine ⟨Or.inl rfl, ?_⟩ | refine ⟨Or.inr rfl, ?_⟩)) (nxt c0 hc0 false (fun e => h54 ((lgc0 _ _).mpr e)) v1)
  refine tkM.of (ls := [some _, some _, some _, none, some _, none, none, none, none, none, none, none, none]) (by decide +kernel) (by decide +kernel) (Nat.le_of_ble_eq_true rfl) rfl ?_
  refine tk_lconst dX6_believes_0 (v := 0) (by decide) ?_
  refine tk_lstore6 dX6_believes_1 rfl ?_
  refine tk_lload4 dX6_believes_3 ?_
  refine tk_lstore8 dX6_believes_5 rfl ?_
  refine tk_iconst dX6_believes_7 kc_iconst_0 ?_
  refine tk_istore10 dX6_believes_8 rfl ?_
  exact tk_wk (by repeat' (first | exact trivial | refine ⟨Or.inl rfl, ?_⟩ | refine ⟨Or.inr rfl, ?_⟩)) (loop 64 0 set 0 (cnt_le _ _) (by have := cnt_le set 64; omega) (fun u => ⟨fun h => (by rw [tb_0] at h; cases h), fun h => absurd h.1 h.2.1⟩) (fun v hv => hv))
theorem sub_dif {set part : Int64} {W : Nat} (h : ∀ v, tb set v = true → v < W) : ∀ v, tb (set &&& (part ^^^ (-1))) v = true → v < W := fun v hv => h v (tb_dif.mp hv).1
theorem c_knows {z wa np nf W r p : Nat} {F ce : Nat → Int32} (hs : sObj T P z) (hpw : P z 0 = some wa) (hw : cWld n T I L P wa np nf W r F ce) (hW : W ≤ 64) (hnp : np ≤ 4) (hnf : nf ≤ 4) (hta : tauN (I (z + 1))) (hp : p < np) (part : Int64) {set : Int64} (hset : ∀ v, tb set v = true → v < W) : tkM G mX6_knows 3 0 0 [vR z, vI (nI p), vL part, vL set] (n, T, I, L, P) (vlQ n T I L P (fun u => tb set u = true ∧ ∀ v, tb set v = true → cTi ce F W nf (I (z + 1)) p u v → tb part v = true)) := by
  have s1 := hs.1
  refine tkM.of (ls := [some _, some _, some _, none, some _, none]) (by decide +kernel) (by decide +kernel) (Nat.le_of_ble_eq_true rfl) rfl ?_
  refine tk_lload4 dX6_knows_0 ?_
  refine tk_aload0 dX6_knows_2 ?_
  refine tk_iconst dX6_knows_3 kc_iconst_1 ?_
  refine tk_iload1 dX6_knows_4 ?_
  refine tk_ishl dX6_knows_5 ?_
  refine tk_lload4 dX6_knows_6 ?_
  refine tk_lload2 dX6_knows_8 ?_
  refine tk_ldc2 dX6_knows_9 klX6_58 ?_
  refine tk_lxor dX6_knows_12 ?_
  refine tk_land dX6_knows_13 ?_
  refine tk_callV2q dX6_knows_14 kX6_60 (by first | assumption | exact va_up_self _ _ _ | exact (va_up_ne _ _ (by omega)).trans (by assumption) | exact congrArg Prod.fst (va_up_self _ _ _) | exact (congrArg Prod.fst (va_up_ne _ _ (by omega))).trans (by assumption) | exact (congrFun (va_up_ne _ _ (by omega)) _).trans (by assumption) | exact (va_up_ne _ _ (by omega)).trans (va_up_self _ _ _) | exact (va_up_ne _ _ (by omega)).trans ((va_up_ne _ _ (by omega)).trans (by assumption)) | exact (congrArg Prod.fst ((va_up_ne _ _ (by omega)).trans (va_up_ne _ _ (by omega)))).trans (by assumption) | exact (congrFun ((va_up_ne _ _ (by omega)).trans (va_up_ne _ _ (by omega))) _).trans (by assumption) | (rw [va_up_self, va_up_ne _ _ (by omega)]; assumption)) (c_touched hs hpw hw hW hnp hnf hta (kshl (nI 1) (nI p)) (sub_dif (part := part) hset)) (Nat.le_of_ble_eq_true rfl) (by omega) ?_
  rintro rr h1 ⟨x, rfl, rfl, hx⟩
  dsimp only [Option.toList, List.cons_append, List.nil_append]
  refine tk_ldc2 dX6_knows_17 klX6_58 ?_
  refine tk_lxor dX6_knows_20 ?_
  refine tk_land dX6_knows_21 ?_
  refine tk_lreturn dX6_knows_22 rfl ?_
  refine ⟨_, rfl, rfl, fun u => ?_⟩
  rw [tb_dif, hx u]
  refine and_congr_right (fun hu => ?_)
  constructor
  · intro h v hv ht
    apply Classical.byContradiction
    intro q
    exact h ⟨p, hp, by rw [one_sh p (by omega) p (by omega)]; exact decide_eq_true rfl, v, tb_dif.mpr ⟨hv, q⟩, cTi_sym hW (hset u hu) ht⟩
  · rintro h ⟨q, q1, q2, v, q3, q4⟩
    rw [one_sh p (by omega) q (by omega), decide_eq_true_eq] at q2
    subst q2
    have := tb_dif.mp q3
    exact this.2 (h v this.1 (cTi_sym hW (hset v this.1) q4))
theorem c_knowsWhether {z wa np nf W r p : Nat} {F ce : Nat → Int32} (hs : sObj T P z) (hpw : P z 0 = some wa) (hw : cWld n T I L P wa np nf W r F ce) (hW : W ≤ 64) (hnp : np ≤ 4) (hnf : nf ≤ 4) (hta : tauN (I (z + 1))) (hp : p < np) {part set : Int64} (hset : ∀ v, tb set v = true → v < W) (hpart : ∀ v, tb part v = true → tb set v = true) : tkM G mX6_knowsWhether 3 0 0 [vR z, vI (nI p), vL part, vL set] (n, T, I, L, P) (vlQ n T I L P (fun u => tb set u = true ∧ ((∀ v, tb set v = true → cTi ce F W nf (I (z + 1)) p u v → tb part v = true) ∨ ∀ v, tb set v = true → cTi ce F W nf (I (z + 1)) p u v → ¬ tb part v = true))) := by
  have s1 := hs.1
  have hpp : ∀ q, q < 4 → (rMem (kshl (nI 1) (nI p)) q = true ↔ q = p) := fun q hq => by rw [one_sh p (by omega) q hq, decide_eq_true_eq]
  refine tkM.of (ls := [some _, some _, some _, none, some _, none]) (by decide +kernel) (by decide +kernel) (Nat.le_of_ble_eq_true rfl) rfl ?_
  refine tk_lload4 dX6_knowsWhether_0 ?_
  refine tk_aload0 dX6_knowsWhether_2 ?_
  refine tk_iconst dX6_knowsWhether_3 kc_iconst_1 ?_
  refine tk_iload1 dX6_knowsWhether_4 ?_
  refine tk_ishl dX6_knowsWhether_5 ?_
  refine tk_lload2 dX6_knowsWhether_6 ?_
  refine tk_callV2q dX6_knowsWhether_7 kX6_60 (by first | assumption | exact va_up_self _ _ _ | exact (va_up_ne _ _ (by omega)).trans (by assumption) | exact congrArg Prod.fst (va_up_self _ _ _) | exact (congrArg Prod.fst (va_up_ne _ _ (by omega))).trans (by assumption) | exact (congrFun (va_up_ne _ _ (by omega)) _).trans (by assumption) | exact (va_up_ne _ _ (by omega)).trans (va_up_self _ _ _) | exact (va_up_ne _ _ (by omega)).trans ((va_up_ne _ _ (by omega)).trans (by assumption)) | exact (congrArg Prod.fst ((va_up_ne _ _ (by omega)).trans (va_up_ne _ _ (by omega)))).trans (by assumption) | exact (congrFun ((va_up_ne _ _ (by omega)).trans (va_up_ne _ _ (by omega))) _).trans (by assumption) | (rw [va_up_self, va_up_ne _ _ (by omega)]; assumption)) (c_touched hs hpw hw hW hnp hnf hta (kshl (nI 1) (nI p)) (part := part) (fun v hv => hset v (hpart v hv))) (Nat.le_of_ble_eq_true rfl) (by omega) ?_
  rintro rr h1 ⟨x, rfl, rfl, hx⟩
  dsimp only [Option.toList, List.cons_append, List.nil_append]
  refine tk_aload0 dX6_knowsWhether_10 ?_
  refine tk_iconst dX6_knowsWhether_11 kc_iconst_1 ?_
  refine tk_iload1 dX6_knowsWhether_12 ?_
  refine tk_ishl dX6_knowsWhether_13 ?_
  refine tk_lload4 dX6_knowsWhether_14 ?_
  refine tk_lload2 dX6_knowsWhether_16 ?_
  refine tk_ldc2 dX6_knowsWhether_17 klX6_58 ?_
  refine tk_lxor dX6_knowsWhether_20 ?_
  refine tk_land dX6_knowsWhether_21 ?_
  refine tk_callV2q dX6_knowsWhether_22 kX6_60 (by first | assumption | exact va_up_self _ _ _ | exact (va_up_ne _ _ (by omega)).trans (by assumption) | exact congrArg Prod.fst (va_up_self _ _ _) | exact (congrArg Prod.fst (va_up_ne _ _ (by omega))).trans (by assumption) | exact (congrFun (va_up_ne _ _ (by omega)) _).trans (by assumption) | exact (va_up_ne _ _ (by omega)).trans (va_up_self _ _ _) | exact (va_up_ne _ _ (by omega)).trans ((va_up_ne _ _ (by omega)).trans (by assumption)) | exact (congrArg Prod.fst ((va_up_ne _ _ (by omega)).trans (va_up_ne _ _ (by omega)))).trans (by assumption) | exact (congrFun ((va_up_ne _ _ (by omega)).trans (va_up_ne _ _ (by omega))) _).trans (by assumption) | (rw [va_up_self, va_up_ne _ _ (by omega)]; assumption)) (c_touched hs hpw hw hW hnp hnf hta (kshl (nI 1) (nI p)) (sub_dif (part := part) hset)) (Nat.le_of_ble_eq_true rfl) (by omega) ?_
  rintro rr h1 ⟨y, rfl, rfl, hy⟩
  dsimp only [Option.toList, List.cons_append, List.nil_append]
  refine tk_land dX6_knowsWhether_25 ?_
  refine tk_ldc2 dX6_knowsWhether_26 klX6_58 ?_
  refine tk_lxor dX6_knowsWhether_29 ?_
  refine tk_land dX6_knowsWhether_30 ?_
  refine tk_lreturn dX6_knowsWhether_31 rfl ?_
  refine ⟨_, rfl, rfl, fun u => ?_⟩
  rw [tb_dif, tb_andT, hx u, hy u]
  refine and_congr_right (fun hu => ?_)
  constructor
  · intro h
    apply Classical.byContradiction
    intro q
    rw [not_or] at q
    obtain ⟨q1, q2⟩ := q
    simp only [Classical.not_forall, Classical.not_not, not_imp] at q1 q2
    obtain ⟨v, a1, a2, a3⟩ := q1
    obtain ⟨v', b1, b2, b3⟩ := q2
    exact h ⟨⟨p, hp, (hpp p (by omega)).mpr rfl, v', b3, cTi_sym hW (hset u hu) b2⟩, ⟨p, hp, (hpp p (by omega)).mpr rfl, v, tb_dif.mpr ⟨a1, a3⟩, cTi_sym hW (hset u hu) a2⟩⟩
  · rintro h ⟨⟨q, q1, q2, v, q3, q4⟩, q', q1', q2', v', q3', q4'⟩
    obtain rfl := (hpp q (by omega)).mp q2
    obtain rfl := (hpp q' (by omega)).mp q2'
    have d := tb_dif.mp q3'
    rcases h with h | h
    · exact d.2 (h v' d.1 (cTi_sym hW (hset v' d.1) q4'))
    · exact h v (hpart v q3) (cTi_sym hW (hset v (hpart v q3)) q4) q3
end BEL
