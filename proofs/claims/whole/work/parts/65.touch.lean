/-! ===== the class: sight, whom a set touches ===== -/
theorem tb_ne0 {x : Int64} {u : Nat} (h : tb x u = true) : ¬ x = 0 := fun e => by rw [e, tb_0] at h; cases h
section TOUCH
variable {G : tkG} {n : Nat} {T : Nat → Nat × Nat} {I : Nat → Nat → Int32} {L : Nat → Nat → Int64} {P : Nat → Nat → Option Nat}
theorem c_tuIn {z wa np nf W r p t : Nat} {F ce : Nat → Int32} (hs : sObj T P z) (hpw : P z 0 = some wa) (hw : cWld n T I L P wa np nf W r F ce) (hW : W ≤ 64) (hnp : np ≤ 4) (hnf : nf ≤ 4) (hp : p < np) (ht16 : t < 16) (htp : I (z + 1) p = nI t) {g : Int32} {part part0 : Int64} (hpart : ∀ v, tb part v = true → v < W) {N0 : Nat → Prop} {Q : Option tkV → tkH → Prop} (fin : ∀ near, (∀ u, tb near u = true ↔ N0 u ∨ ∃ v, tb part v = true ∧ cTi ce F W nf (I (z + 1)) p v u) → ∀ l, tkle [some (vR z), some (vI g), some (vL part0), none, some (vL near), none, some (vI (nI p)), none, none, none, none, none] l → tkX G mX6_touched 2 0 0 89 l [] (n, T, I, L, P) Q) : ∀ (m i : Nat) (left near : Int64), cnt left 64 ≤ m → i + cnt left 64 ≤ 64 → (∀ u, tb near u = true ↔ N0 u ∨ ∃ v, tb part v = true ∧ ¬ tb left v = true ∧ cTi ce F W nf (I (z + 1)) p v u) → (∀ v, tb left v = true → tb part v = true) → tkX G mX6_touched 2 0 0 38 [some (vR z), some (vI g), some (vL part0), none, some (vL near), none, some (vI (nI p)), some (vL left), none, some (vI (nI i)), none, none] [] (n, T, I, L, P) Q := by
  have s1 := hs.1
  have done : ∀ left near, (∀ u, tb near u = true ↔ N0 u ∨ ∃ v, tb part v = true ∧ ¬ tb left v = true ∧ cTi ce F W nf (I (z + 1)) p v u) → left = 0 → ∀ u, tb near u = true ↔ N0 u ∨ ∃ v, tb part v = true ∧ cTi ce F W nf (I (z + 1)) p v u := by
    intro left near inv e u
    rw [inv u]
    subst e
    exact ⟨fun h => h.elim Or.inl (fun ⟨v, a, b, c⟩ => Or.inr ⟨v, a, c⟩), fun h => h.elim Or.inl (fun ⟨v, a, c⟩ => Or.inr ⟨v, a, by rw [tb_0]; decide, c⟩)⟩
  intro m
  induction m with
  | zero =>
    intro i left near hm hi inv hl
    have hz : left = 0 := cnt_0 (by omega)
    refine tk_iload9 dX6_touched_38 ?_
    refine tk_bipush dX6_touched_40 kc_bipush_64 ?_
    first | refine tk_icmp_geN dX6_touched_42 (by omega) (by omega) (fun h42 => ?_) (fun h42 => ?_) | refine tk_jcmp_ge dX6_touched_42 (fun h42 => ?_) (fun h42 => ?_)
    · exact fin near (done left near inv hz) _ (by repeat' (first | exact trivial | refine ⟨Or.inl rfl, ?_⟩ | refine ⟨Or.inr rfl, ?_⟩))
    · refine tk_lload7 dX6_touched_45 ?_
      refine tk_lconst dX6_touched_47 (v := 0) (by decide) ?_
      refine tk_lcmp dX6_touched_48 ?_
      first | refine tk_jf_eqB dX6_touched_49 (fun h49 => ?_) (fun h49 => ?_) | refine tk_if_eq dX6_touched_49 (fun h49 => ?_) (fun h49 => ?_)
      · exact fin near (done left near inv hz) _ (by repeat' (first | exact trivial | refine ⟨Or.inl rfl, ?_⟩ | refine ⟨Or.inr rfl, ?_⟩))
      · exact absurd ((lgc0 _ _).mpr hz) h49
  | succ m ih =>
    intro i left near hm hi inv hl
    refine tk_iload9 dX6_touched_38 ?_
    refine tk_bipush dX6_touched_40 kc_bipush_64 ?_
    first | refine tk_icmp_geN dX6_touched_42 (by omega) (by omega) (fun h42 => ?_) (fun h42 => ?_) | refine tk_jcmp_ge dX6_touched_42 (fun h42 => ?_) (fun h42 => ?_)
    · first
        | (have hz : left = 0 := cnt_0 (by omega)
           exact fin near (done left near inv hz) _ (by repeat' (first | exact trivial | refine ⟨Or.inl rfl, ?_⟩ | refine ⟨Or.inr rfl, ?_⟩)))
        | exact fin near (done left near inv ((lgc0 _ _).mp h49)) _ (by repeat' (first | exact trivial | refine ⟨Or.inl rfl, ?_⟩ | refine ⟨Or.inr rfl, ?_⟩))
    · refine tk_lload7 dX6_touched_45 ?_
      refine tk_lconst dX6_touched_47 (v := 0) (by decide) ?_
      refine tk_lcmp dX6_touched_48 ?_
      first | refine tk_jf_eqB dX6_touched_49 (fun h49 => ?_) (fun h49 => ?_) | refine tk_if_eq dX6_touched_49 (fun h49 => ?_) (fun h49 => ?_)
      · first
          | (have hz : left = 0 := cnt_0 (by omega)
             exact fin near (done left near inv hz) _ (by repeat' (first | exact trivial | refine ⟨Or.inl rfl, ?_⟩ | refine ⟨Or.inr rfl, ?_⟩)))
          | exact fin near (done left near inv ((lgc0 _ _).mp h49)) _ (by repeat' (first | exact trivial | refine ⟨Or.inl rfl, ?_⟩ | refine ⟨Or.inr rfl, ?_⟩))
      · have h0 : ¬ left = 0 := fun e => h49 ((lgc0 _ _).mpr e)
        obtain ⟨v1, v2, v3⟩ := lsb_of h0
        have hvW := hpart _ (hl _ v1)
        refine tk_aload0 dX6_touched_52 ?_
        refine tk_iload6 dX6_touched_53 ?_
        refine tk_lload7 dX6_touched_55 ?_
        refine tk_callSN1z dX6_touched_57 kX6_123 (c_least h0) (Nat.le_of_ble_eq_true rfl) (by omega) ?_
        refine tk_callV2q dX6_touched_60 kX6_127 (by first | assumption | exact va_up_self _ _ _ | exact (va_up_ne _ _ (by omega)).trans (by assumption) | exact congrArg Prod.fst (va_up_self _ _ _) | exact (congrArg Prod.fst (va_up_ne _ _ (by omega))).trans (by assumption) | exact (congrFun (va_up_ne _ _ (by omega)) _).trans (by assumption) | exact (va_up_ne _ _ (by omega)).trans (va_up_self _ _ _) | exact (va_up_ne _ _ (by omega)).trans ((va_up_ne _ _ (by omega)).trans (by assumption)) | exact (congrArg Prod.fst ((va_up_ne _ _ (by omega)).trans (va_up_ne _ _ (by omega)))).trans (by assumption) | exact (congrFun ((va_up_ne _ _ (by omega)).trans (va_up_ne _ _ (by omega))) _).trans (by assumption) | (rw [va_up_self, va_up_ne _ _ (by omega)]; assumption)) (c_cellOf hs hpw hw hW hnp hnf hp hvW ht16 htp) (Nat.le_of_ble_eq_true rfl) (by omega) ?_
        rintro rr h1 ⟨cell, rfl, rfl, hcell⟩
        dsimp only [Option.toList, List.cons_append, List.nil_append]
        obtain ⟨k1, k2, k3⟩ := sweep_step (E := cTi ce F W nf (I (z + 1)) p) (part := part) (fun v0 v hv0 hv u => cTi_eq hW (hpart _ hv0) hv u) (fun v hv => cTi_rf hW (hpart _ hv)) inv hl v1 hcell
        refine tk_lstore10 dX6_touched_63 rfl ?_
        refine tk_lload4 dX6_touched_65 ?_
        refine tk_lload10 dX6_touched_67 ?_
        refine tk_lor dX6_touched_69 ?_
        refine tk_lstore4 dX6_touched_70 rfl ?_
        refine tk_lload7 dX6_touched_72 ?_
        refine tk_lload10 dX6_touched_74 ?_
        refine tk_ldc2 dX6_touched_76 klX6_58 ?_
        refine tk_lxor dX6_touched_79 ?_
        refine tk_land dX6_touched_80 ?_
        refine tk_lstore7 dX6_touched_81 rfl ?_
        first | refine tk_iinc9 dX6_touched_83 (kc_inc _) rfl ?_ | refine tk_iinc9 dX6_touched_83 rfl rfl ?_
        refine tk_goto dX6_touched_86 ?_
        exact tk_wk (by repeat' (first | exact trivial | refine ⟨Or.inl rfl, ?_⟩ | refine ⟨Or.inr rfl, ?_⟩)) (ih (i + 1) _ _ (by omega) (by omega) k1 k2)
theorem c_touched {z wa np nf W r : Nat} {F ce : Nat → Int32} (hs : sObj T P z) (hpw : P z 0 = some wa) (hw : cWld n T I L P wa np nf W r F ce) (hW : W ≤ 64) (hnp : np ≤ 4) (hnf : nf ≤ 4) (hta : tauN (I (z + 1))) (g : Int32) {part : Int64} (hpart : ∀ v, tb part v = true → v < W) : tkM G mX6_touched 2 0 0 [vR z, vI g, vL part] (n, T, I, L, P) (vlQ n T I L P (fun u => ∃ p, p < np ∧ rMem g p = true ∧ ∃ v, tb part v = true ∧ cTi ce F W nf (I (z + 1)) p v u)) := by
  have hw' := hw
  obtain ⟨q1, q2, q3, -⟩ := hw'
  have hs' := hs
  obtain ⟨s1, s2, s3, s4, s5⟩ := hs'
  have loop : ∀ k p near, p + k = np → (∀ u, tb near u = true ↔ ∃ q, q < p ∧ rMem g q = true ∧ ∃ v, tb part v = true ∧ cTi ce F W nf (I (z + 1)) q v u) → tkX G mX6_touched 2 0 0 6 [some (vR z), some (vI g), some (vL part), none, some (vL near), none, some (vI (nI p)), none, none, none, none, none] [] (n, T, I, L, P) (vlQ n T I L P (fun u => ∃ p, p < np ∧ rMem g p = true ∧ ∃ v, tb part v = true ∧ cTi ce F W nf (I (z + 1)) p v u)) := by
    intro k
    induction k with
    | zero =>
      intro p near hp hi
      refine tk_iload6 dX6_touched_6 ?_
      refine tk_aload0 dX6_touched_8 ?_
      refine tk_getP dX6_touched_9 fX6_25 rfl (by first | assumption | exact va_up_self _ _ _ | exact (va_up_ne _ _ (by omega)).trans (by assumption) | exact congrArg Prod.fst (va_up_self _ _ _) | exact (congrArg Prod.fst (va_up_ne _ _ (by omega))).trans (by assumption) | exact (congrFun (va_up_ne _ _ (by omega)) _).trans (by assumption) | exact (va_up_ne _ _ (by omega)).trans (va_up_self _ _ _) | exact (va_up_ne _ _ (by omega)).trans ((va_up_ne _ _ (by omega)).trans (by assumption)) | exact (congrArg Prod.fst ((va_up_ne _ _ (by omega)).trans (va_up_ne _ _ (by omega)))).trans (by assumption) | exact (congrFun ((va_up_ne _ _ (by omega)).trans (va_up_ne _ _ (by omega))) _).trans (by assumption) | (rw [va_up_self, va_up_ne _ _ (by omega)]; assumption)) (by first | assumption | exact va_up_self _ _ _ | exact (va_up_ne _ _ (by omega)).trans (by assumption) | exact congrArg Prod.fst (va_up_self _ _ _) | exact (congrArg Prod.fst (va_up_ne _ _ (by omega))).trans (by assumption) | exact (congrFun (va_up_ne _ _ (by omega)) _).trans (by assumption) | exact (va_up_ne _ _ (by omega)).trans (va_up_self _ _ _) | exact (va_up_ne _ _ (by omega)).trans ((va_up_ne _ _ (by omega)).trans (by assumption)) | exact (congrArg Prod.fst ((va_up_ne _ _ (by omega)).trans (va_up_ne _ _ (by omega)))).trans (by assumption) | exact (congrFun ((va_up_ne _ _ (by omega)).trans (va_up_ne _ _ (by omega))) _).trans (by assumption) | (rw [va_up_self, va_up_ne _ _ (by omega)]; assumption)) ?_
      refine tk_getI dX6_touched_12 fX6_130 rfl (by first | assumption | exact va_up_self _ _ _ | exact (va_up_ne _ _ (by omega)).trans (by assumption) | exact congrArg Prod.fst (va_up_self _ _ _) | exact (congrArg Prod.fst (va_up_ne _ _ (by omega))).trans (by assumption) | exact (congrFun (va_up_ne _ _ (by omega)) _).trans (by assumption) | exact (va_up_ne _ _ (by omega)).trans (va_up_self _ _ _) | exact (va_up_ne _ _ (by omega)).trans ((va_up_ne _ _ (by omega)).trans (by assumption)) | exact (congrArg Prod.fst ((va_up_ne _ _ (by omega)).trans (va_up_ne _ _ (by omega)))).trans (by assumption) | exact (congrFun ((va_up_ne _ _ (by omega)).trans (va_up_ne _ _ (by omega))) _).trans (by assumption) | (rw [va_up_self, va_up_ne _ _ (by omega)]; assumption)) ?_
      rw [q3]
      first | refine tk_icmp_geN dX6_touched_15 (by omega) (by omega) (fun h15 => ?_) (fun h15 => ?_) | refine tk_jcmp_ge dX6_touched_15 (fun h15 => ?_) (fun h15 => ?_)
      · refine tk_lload4 dX6_touched_95 ?_
        refine tk_lreturn dX6_touched_97 rfl ?_
        refine ⟨near, rfl, rfl, fun u => ?_⟩
        rw [hi u, show p = np by omega]
      · exfalso; omega
    | succ k ih =>
      intro p near hp hi
      obtain ⟨t, ht1, ht2⟩ := hta p (by omega)
      have nxt : ∀ near2, (∀ u, tb near2 u = true ↔ ∃ q, q < p + 1 ∧ rMem g q = true ∧ ∃ v, tb part v = true ∧ cTi ce F W nf (I (z + 1)) q v u) → ∀ l, tkle [some (vR z), some (vI g), some (vL part), none, some (vL near2), none, some (vI (nI p)), none, none, none, none, none] l → tkX G mX6_touched 2 0 0 89 l [] (n, T, I, L, P) (vlQ n T I L P (fun u => ∃ p, p < np ∧ rMem g p = true ∧ ∃ v, tb part v = true ∧ cTi ce F W nf (I (z + 1)) p v u)) := by
        intro near2 hn2 l hl
        refine tk_wk hl ?_
        first | refine tk_iinc6 dX6_touched_89 (kc_inc _) rfl ?_ | refine tk_iinc6 dX6_touched_89 rfl rfl ?_
        refine tk_goto dX6_touched_92 ?_
        exact tk_wk (by repeat' (first | exact trivial | refine ⟨Or.inl rfl, ?_⟩ | refine ⟨Or.inr rfl, ?_⟩)) (ih (p + 1) near2 (by omega) hn2)
      have stepF : rMem g p = false → ∀ near2 : Int64, (∀ u, tb near2 u = true ↔ (∃ q, q < p ∧ rMem g q = true ∧ ∃ v, tb part v = true ∧ cTi ce F W nf (I (z + 1)) q v u) ∨ ∃ v, tb (0 : Int64) v = true ∧ cTi ce F W nf (I (z + 1)) p v u) → ∀ u, tb near2 u = true ↔ ∃ q, q < p + 1 ∧ rMem g q = true ∧ ∃ v, tb part v = true ∧ cTi ce F W nf (I (z + 1)) q v u := by
        intro hm near2 hn u
        rw [hn u]
        constructor
        · rintro (⟨q, a1, a2, a3⟩ | ⟨v, a1, a2⟩)
          · exact ⟨q, by omega, a2, a3⟩
          · rw [tb_0] at a1; cases a1
        · rintro ⟨q, a1, a2, a3⟩
          by_cases e : q = p
          · subst e; rw [hm] at a2; cases a2
          · exact Or.inl ⟨q, by omega, a2, a3⟩
      have stepT : rMem g p = true → ∀ near2 : Int64, (∀ u, tb near2 u = true ↔ (∃ q, q < p ∧ rMem g q = true ∧ ∃ v, tb part v = true ∧ cTi ce F W nf (I (z + 1)) q v u) ∨ ∃ v, tb part v = true ∧ cTi ce F W nf (I (z + 1)) p v u) → ∀ u, tb near2 u = true ↔ ∃ q, q < p + 1 ∧ rMem g q = true ∧ ∃ v, tb part v = true ∧ cTi ce F W nf (I (z + 1)) q v u := by
        intro hm near2 hn u
        rw [hn u]
        constructor
        · rintro (⟨q, a1, a2, a3⟩ | ⟨v, a1, a2⟩)
          · exact ⟨q, by omega, a2, a3⟩
          · exact ⟨p, by omega, hm, v, a1, a2⟩
        · rintro ⟨q, a1, a2, a3⟩
          by_cases e : q = p
          · subst e; exact Or.inr a3
          · exact Or.inl ⟨q, by omega, a2, a3⟩
      refine tk_iload6 dX6_touched_6 ?_
      refine tk_aload0 dX6_touched_8 ?_
      refine tk_getP dX6_touched_9 fX6_25 rfl (by first | assumption | exact va_up_self _ _ _ | exact (va_up_ne _ _ (by omega)).trans (by assumption) | exact congrArg Prod.fst (va_up_self _ _ _) | exact (congrArg Prod.fst (va_up_ne _ _ (by omega))).trans (by assumption) | exact (congrFun (va_up_ne _ _ (by omega)) _).trans (by assumption) | exact (va_up_ne _ _ (by omega)).trans (va_up_self _ _ _) | exact (va_up_ne _ _ (by omega)).trans ((va_up_ne _ _ (by omega)).trans (by assumption)) | exact (congrArg Prod.fst ((va_up_ne _ _ (by omega)).trans (va_up_ne _ _ (by omega)))).trans (by assumption) | exact (congrFun ((va_up_ne _ _ (by omega)).trans (va_up_ne _ _ (by omega))) _).trans (by assumption) | (rw [va_up_self, va_up_ne _ _ (by omega)]; assumption)) (by first | assumption | exact va_up_self _ _ _ | exact (va_up_ne _ _ (by omega)).trans (by assumption) | exact congrArg Prod.fst (va_up_self _ _ _) | exact (congrArg Prod.fst (va_up_ne _ _ (by omega))).trans (by assumption) | exact (congrFun (va_up_ne _ _ (by omega)) _).trans (by assumption) | exact (va_up_ne _ _ (by omega)).trans (va_up_self _ _ _) | exact (va_up_ne _ _ (by omega)).trans ((va_up_ne _ _ (by omega)).trans (by assumption)) | exact (congrArg Prod.fst ((va_up_ne _ _ (by omega)).trans (va_up_ne _ _ (by omega)))).trans (by assumption) | exact (congrFun ((va_up_ne _ _ (by omega)).trans (va_up_ne _ _ (by omega))) _).trans (by assumption) | (rw [va_up_self, va_up_ne _ _ (by omega)]; assumption)) ?_
      refine tk_getI dX6_touched_12 fX6_130 rfl (by first | assumption | exact va_up_self _ _ _ | exact (va_up_ne _ _ (by omega)).trans (by assumption) | exact congrArg Prod.fst (va_up_self _ _ _) | exact (congrArg Prod.fst (va_up_ne _ _ (by omega))).trans (by assumption) | exact (congrFun (va_up_ne _ _ (by omega)) _).trans (by assumption) | exact (va_up_ne _ _ (by omega)).trans (va_up_self _ _ _) | exact (va_up_ne _ _ (by omega)).trans ((va_up_ne _ _ (by omega)).trans (by assumption)) | exact (congrArg Prod.fst ((va_up_ne _ _ (by omega)).trans (va_up_ne _ _ (by omega)))).trans (by assumption) | exact (congrFun ((va_up_ne _ _ (by omega)).trans (va_up_ne _ _ (by omega))) _).trans (by assumption) | (rw [va_up_self, va_up_ne _ _ (by omega)]; assumption)) ?_
      rw [q3]
      first | refine tk_icmp_geN dX6_touched_15 (by omega) (by omega) (fun h15 => ?_) (fun h15 => ?_) | refine tk_jcmp_ge dX6_touched_15 (fun h15 => ?_) (fun h15 => ?_)
      · exfalso; omega
      · refine tk_iload6 dX6_touched_18 ?_
        refine tk_iload1 dX6_touched_20 ?_
        refine tk_i2l dX6_touched_21 ?_
        refine tk_callSN2z dX6_touched_22 kX6_133 (c_isIn (k := p) (by omega) _) (Nat.le_of_ble_eq_true rfl) (by omega) ?_
        rw [rMem_tb g (by omega)]
        first | refine tk_jf_eqB dX6_touched_25 (fun h25 => ?_) (fun h25 => ?_) | refine tk_if_eq dX6_touched_25 (fun h25 => ?_) (fun h25 => ?_)
        · refine tk_lconst dX6_touched_32 (v := 0) (by decide) ?_
          have hmem := h25
          refine tk_lstore7 dX6_touched_33 rfl ?_
          refine tk_iconst dX6_touched_35 kc_iconst_0 ?_
          refine tk_istore9 dX6_touched_36 rfl ?_
          first
            | (refine tk_wk (by repeat' (first | exact trivial | refine ⟨Or.inl rfl, ?_⟩ | refine ⟨Or.inr rfl, ?_⟩)) (c_tuIn hs hpw hw hW hnp hnf (by omega) ht1 ht2 (part := 0) (part0 := part) (N0 := fun u => ∃ q, q < p ∧ rMem g q = true ∧ ∃ v, tb part v = true ∧ cTi ce F W nf (I (z + 1)) q v u) (fun v hv => by rw [tb_0] at hv; cases hv) (fun near2 hn2 l hl => nxt near2 (stepF hmem near2 hn2) l hl) 64 0 0 near (cnt_le _ _) (by have := cnt_le 0 64; omega) (sweep_0 hi) (fun v hv => hv)))
            | (refine tk_wk (by repeat' (first | exact trivial | refine ⟨Or.inl rfl, ?_⟩ | refine ⟨Or.inr rfl, ?_⟩)) (c_tuIn hs hpw hw hW hnp hnf (by omega) ht1 ht2 (part := part) (part0 := part) (N0 := fun u => ∃ q, q < p ∧ rMem g q = true ∧ ∃ v, tb part v = true ∧ cTi ce F W nf (I (z + 1)) q v u) hpart (fun near2 hn2 l hl => nxt near2 (stepT hmem near2 hn2) l hl) 64 0 part near (cnt_le _ _) (by have := cnt_le part 64; omega) (sweep_0 hi) (fun v hv => hv)))
        · refine tk_lload2 dX6_touched_28 ?_
          have hmem := h25
          refine tk_goto dX6_touched_29 ?_
          refine tk_lstore7 dX6_touched_33 rfl ?_
          refine tk_iconst dX6_touched_35 kc_iconst_0 ?_
          refine tk_istore9 dX6_touched_36 rfl ?_
          first
            | (refine tk_wk (by repeat' (first | exact trivial | refine ⟨Or.inl rfl, ?_⟩ | refine ⟨Or.inr rfl, ?_⟩)) (c_tuIn hs hpw hw hW hnp hnf (by omega) ht1 ht2 (part := 0) (part0 := part) (N0 := fun u => ∃ q, q < p ∧ rMem g q = true ∧ ∃ v, tb part v = true ∧ cTi ce F W nf (I (z + 1)) q v u) (fun v hv => by rw [tb_0] at hv; cases hv) (fun near2 hn2 l hl => nxt near2 (stepF hmem near2 hn2) l hl) 64 0 0 near (cnt_le _ _) (by have := cnt_le 0 64; omega) (sweep_0 hi) (fun v hv => hv)))
            | (refine tk_wk (by repeat' (first | exact trivial | refine ⟨Or.inl rfl, ?_⟩ | refine ⟨Or.inr rfl, ?_⟩)) (c_tuIn hs hpw hw hW hnp hnf (by omega) ht1 ht2 (part := part) (part0 := part) (N0 := fun u => ∃ q, q < p ∧ rMem g q = true ∧ ∃ v, tb part v = true ∧ cTi ce F W nf (I (z + 1)) q v u) hpart (fun near2 hn2 l hl => nxt near2 (stepT hmem near2 hn2) l hl) 64 0 part near (cnt_le _ _) (by have := cnt_le part 64; omega) (sweep_0 hi) (fun v hv => hv)))
  refine tkM.of (ls := [some _, some _, some _, none, none, none, none, none, none, none, none, none]) (by decide +kernel) (by decide +kernel) (Nat.le_of_ble_eq_true rfl) rfl ?_
  refine tk_lconst dX6_touched_0 (v := 0) (by decide) ?_
  refine tk_lstore4 dX6_touched_1 rfl ?_
  refine tk_iconst dX6_touched_3 kc_iconst_0 ?_
  refine tk_istore6 dX6_touched_4 rfl ?_
  exact tk_wk (by repeat' (first | exact trivial | refine ⟨Or.inl rfl, ?_⟩ | refine ⟨Or.inr rfl, ?_⟩)) (loop np 0 0 (by omega) (fun u => ⟨fun h => (by rw [tb_0] at h; cases h), fun ⟨q, hq, _⟩ => (by omega)⟩))
end TOUCH
