/-! ===== the class: sight, groups and beliefs ===== -/
theorem cTi_sym {ce F : Nat → Int32} {W nf : Nat} {ta : Nat → Int32} {p w u : Nat} (hW : W ≤ 64) (hw : w < W) (h : cTi ce F W nf ta p w u) : cTi ce F W nf ta p u w := (cTi_eq hW hw h w).mpr (cTi_rf hW hw)
/-- who is in the cells of all of a group -/
def cSh (ce F : Nat → Int32) (W nf : Nat) (ta : Nat → Int32) (np : Nat) (g : Int32) (v u : Nat) : Prop := u < W ∧ ∀ p, p < np → rMem g p = true → cTi ce F W nf ta p v u
theorem cSh_eq {ce F : Nat → Int32} {W nf np : Nat} {ta : Nat → Int32} {g : Int32} {w v : Nat} (hW : W ≤ 64) (hw : w < W) (h : cSh ce F W nf ta np g w v) (u : Nat) : cSh ce F W nf ta np g v u ↔ cSh ce F W nf ta np g w u := and_congr_right (fun _ => forall_congr' (fun p => forall_congr' (fun hp => forall_congr' (fun hm => cTi_eq hW hw (h.2 p hp hm) u))))
theorem cSh_rf {ce F : Nat → Int32} {W nf np : Nat} {ta : Nat → Int32} {g : Int32} {w : Nat} (hW : W ≤ 64) (hw : w < W) : cSh ce F W nf ta np g w w := ⟨hw, fun _ _ _ => cTi_rf hW hw⟩
theorem sweep_end {E : Nat → Nat → Prop} {part left near : Int64} {N0 : Nat → Prop} (inv : ∀ u, tb near u = true ↔ N0 u ∨ ∃ v, tb part v = true ∧ ¬ tb left v = true ∧ E v u) (e : left = 0) : ∀ u, tb near u = true ↔ N0 u ∨ ∃ v, tb part v = true ∧ E v u := by
  intro u
  rw [inv u]
  subst e
  exact ⟨fun h => h.elim Or.inl (fun ⟨v, a, b, c⟩ => Or.inr ⟨v, a, c⟩), fun h => h.elim Or.inl (fun ⟨v, a, c⟩ => Or.inr ⟨v, a, (by rw [tb_0]; decide), c⟩)⟩
theorem sRem_congr {cv cv' : Nat → Nat → Prop} {dn : Nat} : ∀ (c : Nat) (r r' : Nat → Prop), (∀ u, r u ↔ r' u) → (∀ x, x < c → ∀ u, cv x u ↔ cv' x u) → ∀ u, sRem cv dn c r u ↔ sRem cv' dn c r' u := by
  intro c
  induction c with
  | zero => intro r r' h _ u; exact h u
  | succ c ih =>
    intro r r' h hc u
    rw [sRem, sRem]
    split
    · exact h u
    · refine ih _ _ (fun u => ?_) (fun x hx => hc x (by omega)) u
      have e : (∃ x, cv c x ∧ r x) ↔ ∃ x, cv' c x ∧ r' x := exists_congr (fun x => by rw [h x, hc c (by omega) x])
      rw [h u, e, hc c (by omega) u]
section GROUP
variable {G : tkG} {n : Nat} {T : Nat → Nat × Nat} {I : Nat → Nat → Int32} {L : Nat → Nat → Int64} {P : Nat → Nat → Option Nat}
theorem c_shIn {z wa np nf W r : Nat} {F ce : Nat → Int32} (hs : sObj T P z) (hpw : P z 0 = some wa) (hw : cWld n T I L P wa np nf W r F ce) (hW : W ≤ 64) (hnp : np ≤ 4) (hnf : nf ≤ 4) (hta : tauN (I (z + 1))) {g : Int32} {part near left : Int64} {i : Nat} (h0 : ¬ left = 0) (hvW : lsb left < W) {Q : Option tkV → tkH → Prop} (fin : ∀ cell, (∀ u, tb cell u = true ↔ cSh ce F W nf (I (z + 1)) np g (lsb left) u) → ∀ l, tkle [some (vR z), some (vI g), some (vL part), none, some (vL near), none, some (vL left), none, some (vI (nI i)), some (vL cell), none, none] l → tkX G mX6_shared 2 0 0 84 l [] (n, T, I, L, P) Q) : ∀ (k p : Nat) (cell : Int64), p + k = np → (∀ u, tb cell u = true ↔ u < W ∧ ∀ q, q < p → rMem g q = true → cTi ce F W nf (I (z + 1)) q (lsb left) u) → tkX G mX6_shared 2 0 0 35 [some (vR z), some (vI g), some (vL part), none, some (vL near), none, some (vL left), none, some (vI (nI i)), some (vL cell), none, some (vI (nI p))] [] (n, T, I, L, P) Q := by
  have hw' := hw
  obtain ⟨q1, q2, q3, -⟩ := hw'
  have s1 := hs.1
  intro k
  induction k with
  | zero =>
    intro p cell hp hc
    refine tk_iload11 dX6_shared_35 ?_
    refine tk_aload0 dX6_shared_37 ?_
    refine tk_getP dX6_shared_38 fX6_25 rfl (by first | assumption | exact va_up_self _ _ _ | exact (va_up_ne _ _ (by omega)).trans (by assumption) | exact congrArg Prod.fst (va_up_self _ _ _) | exact (congrArg Prod.fst (va_up_ne _ _ (by omega))).trans (by assumption) | exact (congrFun (va_up_ne _ _ (by omega)) _).trans (by assumption) | exact (va_up_ne _ _ (by omega)).trans (va_up_self _ _ _) | exact (va_up_ne _ _ (by omega)).trans ((va_up_ne _ _ (by omega)).trans (by assumption)) | exact (congrArg Prod.fst ((va_up_ne _ _ (by omega)).trans (va_up_ne _ _ (by omega)))).trans (by assumption) | exact (congrFun ((va_up_ne _ _ (by omega)).trans (va_up_ne _ _ (by omega))) _).trans (by assumption) | (rw [va_up_self, va_up_ne _ _ (by omega)]; assumption)) (by first | assumption | exact va_up_self _ _ _ | exact (va_up_ne _ _ (by omega)).trans (by assumption) | exact congrArg Prod.fst (va_up_self _ _ _) | exact (congrArg Prod.fst (va_up_ne _ _ (by omega))).trans (by assumption) | exact (congrFun (va_up_ne _ _ (by omega)) _).trans (by assumption) | exact (va_up_ne _ _ (by omega)).trans (va_up_self _ _ _) | exact (va_up_ne _ _ (by omega)).trans ((va_up_ne _ _ (by omega)).trans (by assumption)) | exact (congrArg Prod.fst ((va_up_ne _ _ (by omega)).trans (va_up_ne _ _ (by omega)))).trans (by assumption) | exact (congrFun ((va_up_ne _ _ (by omega)).trans (va_up_ne _ _ (by omega))) _).trans (by assumption) | (rw [va_up_self, va_up_ne _ _ (by omega)]; assumption)) ?_
    refine tk_getI dX6_shared_41 fX6_130 rfl (by first | assumption | exact va_up_self _ _ _ | exact (va_up_ne _ _ (by omega)).trans (by assumption) | exact congrArg Prod.fst (va_up_self _ _ _) | exact (congrArg Prod.fst (va_up_ne _ _ (by omega))).trans (by assumption) | exact (congrFun (va_up_ne _ _ (by omega)) _).trans (by assumption) | exact (va_up_ne _ _ (by omega)).trans (va_up_self _ _ _) | exact (va_up_ne _ _ (by omega)).trans ((va_up_ne _ _ (by omega)).trans (by assumption)) | exact (congrArg Prod.fst ((va_up_ne _ _ (by omega)).trans (va_up_ne _ _ (by omega)))).trans (by assumption) | exact (congrFun ((va_up_ne _ _ (by omega)).trans (va_up_ne _ _ (by omega))) _).trans (by assumption) | (rw [va_up_self, va_up_ne _ _ (by omega)]; assumption)) ?_
    rw [q3]
    first | refine tk_icmp_geN dX6_shared_44 (by omega) (by omega) (fun h44 => ?_) (fun h44 => ?_) | refine tk_jcmp_ge dX6_shared_44 (fun h44 => ?_) (fun h44 => ?_)
    · exact fin cell (fun u => by rw [hc u, show p = np by omega]; exact Iff.rfl) _ (by repeat' (first | exact trivial | refine ⟨Or.inl rfl, ?_⟩ | refine ⟨Or.inr rfl, ?_⟩))
    · exfalso; omega
  | succ k ih =>
    intro p cell hp hc
    obtain ⟨t, ht1, ht2⟩ := hta p (by omega)
    refine tk_iload11 dX6_shared_35 ?_
    refine tk_aload0 dX6_shared_37 ?_
    refine tk_getP dX6_shared_38 fX6_25 rfl (by first | assumption | exact va_up_self _ _ _ | exact (va_up_ne _ _ (by omega)).trans (by assumption) | exact congrArg Prod.fst (va_up_self _ _ _) | exact (congrArg Prod.fst (va_up_ne _ _ (by omega))).trans (by assumption) | exact (congrFun (va_up_ne _ _ (by omega)) _).trans (by assumption) | exact (va_up_ne _ _ (by omega)).trans (va_up_self _ _ _) | exact (va_up_ne _ _ (by omega)).trans ((va_up_ne _ _ (by omega)).trans (by assumption)) | exact (congrArg Prod.fst ((va_up_ne _ _ (by omega)).trans (va_up_ne _ _ (by omega)))).trans (by assumption) | exact (congrFun ((va_up_ne _ _ (by omega)).trans (va_up_ne _ _ (by omega))) _).trans (by assumption) | (rw [va_up_self, va_up_ne _ _ (by omega)]; assumption)) (by first | assumption | exact va_up_self _ _ _ | exact (va_up_ne _ _ (by omega)).trans (by assumption) | exact congrArg Prod.fst (va_up_self _ _ _) | exact (congrArg Prod.fst (va_up_ne _ _ (by omega))).trans (by assumption) | exact (congrFun (va_up_ne _ _ (by omega)) _).trans (by assumption) | exact (va_up_ne _ _ (by omega)).trans (va_up_self _ _ _) | exact (va_up_ne _ _ (by omega)).trans ((va_up_ne _ _ (by omega)).trans (by assumption)) | exact (congrArg Prod.fst ((va_up_ne _ _ (by omega)).trans (va_up_ne _ _ (by omega)))).trans (by assumption) | exact (congrFun ((va_up_ne _ _ (by omega)).trans (va_up_ne _ _ (by omega))) _).trans (by assumption) | (rw [va_up_self, va_up_ne _ _ (by omega)]; assumption)) ?_
    refine tk_getI dX6_shared_41 fX6_130 rfl (by first | assumption | exact va_up_self _ _ _ | exact (va_up_ne _ _ (by omega)).trans (by assumption) | exact congrArg Prod.fst (va_up_self _ _ _) | exact (congrArg Prod.fst (va_up_ne _ _ (by omega))).trans (by assumption) | exact (congrFun (va_up_ne _ _ (by omega)) _).trans (by assumption) | exact (va_up_ne _ _ (by omega)).trans (va_up_self _ _ _) | exact (va_up_ne _ _ (by omega)).trans ((va_up_ne _ _ (by omega)).trans (by assumption)) | exact (congrArg Prod.fst ((va_up_ne _ _ (by omega)).trans (va_up_ne _ _ (by omega)))).trans (by assumption) | exact (congrFun ((va_up_ne _ _ (by omega)).trans (va_up_ne _ _ (by omega))) _).trans (by assumption) | (rw [va_up_self, va_up_ne _ _ (by omega)]; assumption)) ?_
    rw [q3]
    first | refine tk_icmp_geN dX6_shared_44 (by omega) (by omega) (fun h44 => ?_) (fun h44 => ?_) | refine tk_jcmp_ge dX6_shared_44 (fun h44 => ?_) (fun h44 => ?_)
    · exfalso; omega
    · refine tk_lload9 dX6_shared_47 ?_
      refine tk_iload11 dX6_shared_49 ?_
      refine tk_iload1 dX6_shared_51 ?_
      refine tk_i2l dX6_shared_52 ?_
      refine tk_callSN2z dX6_shared_53 kX6_133 (c_isIn (k := p) (by omega) _) (Nat.le_of_ble_eq_true rfl) (by omega) ?_
      rw [rMem_tb g (by omega)]
      first | refine tk_jf_eqB dX6_shared_56 (fun h56 => ?_) (fun h56 => ?_) | refine tk_if_eq dX6_shared_56 (fun h56 => ?_) (fun h56 => ?_)
      · refine tk_lload9 dX6_shared_73 ?_
        refine tk_land dX6_shared_75 ?_
        refine tk_lstore9 dX6_shared_76 rfl ?_
        first | refine tk_iinc11 dX6_shared_78 (kc_inc _) rfl ?_ | refine tk_iinc11 dX6_shared_78 rfl rfl ?_
        refine tk_goto dX6_shared_81 ?_
        first
          | (refine tk_wk (by repeat' (first | exact trivial | refine ⟨Or.inl rfl, ?_⟩ | refine ⟨Or.inr rfl, ?_⟩)) (ih (p + 1) _ (by omega) (fun u => ?_))
             rw [tb_andT, hc u, hce u]
             constructor
             · rintro ⟨⟨a1, a2⟩, a3⟩
               refine ⟨a1, fun q hq hm => ?_⟩
               by_cases e : q = p
               · subst e; exact a3
               · exact a2 q (by omega) hm
             · rintro ⟨a1, a2⟩
               exact ⟨⟨a1, fun q hq => a2 q (by omega)⟩, a2 p (by omega) h56⟩)
          | (refine tk_wk (by repeat' (first | exact trivial | refine ⟨Or.inl rfl, ?_⟩ | refine ⟨Or.inr rfl, ?_⟩)) (ih (p + 1) _ (by omega) (fun u => ?_))
             rw [tb_andT, hc u]
             constructor
             · rintro ⟨⟨a1, a2⟩, a3⟩
               refine ⟨a1, fun q hq hm => ?_⟩
               by_cases e : q = p
               · subst e; rw [h56] at hm; cases hm
               · exact a2 q (by omega) hm
             · rintro ⟨a1, a2⟩
               exact ⟨⟨a1, fun q hq => a2 q (by omega)⟩, a1, fun q hq => a2 q (by omega)⟩)
      · refine tk_aload0 dX6_shared_59 ?_
        refine tk_iload11 dX6_shared_60 ?_
        refine tk_lload6 dX6_shared_62 ?_
        refine tk_callSN1z dX6_shared_64 kX6_123 (c_least h0) (Nat.le_of_ble_eq_true rfl) (by omega) ?_
        refine tk_callV2q dX6_shared_67 kX6_127 (by first | assumption | exact va_up_self _ _ _ | exact (va_up_ne _ _ (by omega)).trans (by assumption) | exact congrArg Prod.fst (va_up_self _ _ _) | exact (congrArg Prod.fst (va_up_ne _ _ (by omega))).trans (by assumption) | exact (congrFun (va_up_ne _ _ (by omega)) _).trans (by assumption) | exact (va_up_ne _ _ (by omega)).trans (va_up_self _ _ _) | exact (va_up_ne _ _ (by omega)).trans ((va_up_ne _ _ (by omega)).trans (by assumption)) | exact (congrArg Prod.fst ((va_up_ne _ _ (by omega)).trans (va_up_ne _ _ (by omega)))).trans (by assumption) | exact (congrFun ((va_up_ne _ _ (by omega)).trans (va_up_ne _ _ (by omega))) _).trans (by assumption) | (rw [va_up_self, va_up_ne _ _ (by omega)]; assumption)) (c_cellOf hs hpw hw hW hnp hnf (by omega) hvW ht1 ht2) (Nat.le_of_ble_eq_true rfl) (by omega) ?_
        rintro rr h1 ⟨ce2, rfl, rfl, hce⟩
        dsimp only [Option.toList, List.cons_append, List.nil_append]
        refine tk_goto dX6_shared_70 ?_
        refine tk_land dX6_shared_75 ?_
        refine tk_lstore9 dX6_shared_76 rfl ?_
        first | refine tk_iinc11 dX6_shared_78 (kc_inc _) rfl ?_ | refine tk_iinc11 dX6_shared_78 rfl rfl ?_
        refine tk_goto dX6_shared_81 ?_
        first
          | (refine tk_wk (by repeat' (first | exact trivial | refine ⟨Or.inl rfl, ?_⟩ | refine ⟨Or.inr rfl, ?_⟩)) (ih (p + 1) _ (by omega) (fun u => ?_))
             rw [tb_andT, hc u, hce u]
             constructor
             · rintro ⟨⟨a1, a2⟩, a3⟩
               refine ⟨a1, fun q hq hm => ?_⟩
               by_cases e : q = p
               · subst e; exact a3
               · exact a2 q (by omega) hm
             · rintro ⟨a1, a2⟩
               exact ⟨⟨a1, fun q hq => a2 q (by omega)⟩, a2 p (by omega) h56⟩)
          | (refine tk_wk (by repeat' (first | exact trivial | refine ⟨Or.inl rfl, ?_⟩ | refine ⟨Or.inr rfl, ?_⟩)) (ih (p + 1) _ (by omega) (fun u => ?_))
             rw [tb_andT, hc u]
             constructor
             · rintro ⟨⟨a1, a2⟩, a3⟩
               refine ⟨a1, fun q hq hm => ?_⟩
               by_cases e : q = p
               · subst e; rw [h56] at hm; cases hm
               · exact a2 q (by omega) hm
             · rintro ⟨a1, a2⟩
               exact ⟨⟨a1, fun q hq => a2 q (by omega)⟩, a1, fun q hq => a2 q (by omega)⟩)
theorem c_shared {z wa np nf W r : Nat} {F ce : Nat → Int32} (hs : sObj T P z) (hpw : P z 0 = some wa) (hw : cWld n T I L P wa np nf W r F ce) (hW1 : 1 ≤ W) (hW : W ≤ 64) (hnp : np ≤ 4) (hnf : nf ≤ 4) (hta : tauN (I (z + 1))) (g : Int32) {part : Int64} (hpart : ∀ v, tb part v = true → v < W) : tkM G mX6_shared 2 0 0 [vR z, vI g, vL part] (n, T, I, L, P) (vlQ n T I L P (fun u => ∃ v, tb part v = true ∧ cSh ce F W nf (I (z + 1)) np g v u)) := by
  have hw' := hw
  obtain ⟨q1, q2, q3, -⟩ := hw'
  have s1 := hs.1
  have ends : ∀ near : Int64, (∀ u, tb near u = true ↔ False ∨ ∃ v, tb part v = true ∧ cSh ce F W nf (I (z + 1)) np g v u) → tkX G mX6_shared 2 0 0 108 [none, none, none, none, some (vL near), none, none, none, none, none, none, none] [] (n, T, I, L, P) (vlQ n T I L P (fun u => ∃ v, tb part v = true ∧ cSh ce F W nf (I (z + 1)) np g v u)) := by
    intro near hn
    refine tk_lload4 dX6_shared_108 ?_
    refine tk_lreturn dX6_shared_110 rfl ?_
    refine ⟨near, rfl, rfl, fun u => ?_⟩
    rw [hn u]
    exact ⟨fun h => h.elim False.elim id, Or.inr⟩
  have loop : ∀ (m i : Nat) (left near : Int64), cnt left 64 ≤ m → i + cnt left 64 ≤ 64 → (∀ u, tb near u = true ↔ False ∨ ∃ v, tb part v = true ∧ ¬ tb left v = true ∧ cSh ce F W nf (I (z + 1)) np g v u) → (∀ v, tb left v = true → tb part v = true) → tkX G mX6_shared 2 0 0 9 [some (vR z), some (vI g), some (vL part), none, some (vL near), none, some (vL left), none, some (vI (nI i)), none, none, none] [] (n, T, I, L, P) (vlQ n T I L P (fun u => ∃ v, tb part v = true ∧ cSh ce F W nf (I (z + 1)) np g v u)) := by
    intro m
    induction m with
    | zero =>
      intro i left near hm hi inv hl
      have hz : left = 0 := cnt_0 (by omega)
      refine tk_iload8 dX6_shared_9 ?_
      refine tk_bipush dX6_shared_11 kc_bipush_64 ?_
      first | refine tk_icmp_geN dX6_shared_13 (by omega) (by omega) (fun h13 => ?_) (fun h13 => ?_) | refine tk_jcmp_ge dX6_shared_13 (fun h13 => ?_) (fun h13 => ?_)
      · exact tk_wk (by repeat' (first | exact trivial | refine ⟨Or.inl rfl, ?_⟩ | refine ⟨Or.inr rfl, ?_⟩)) (ends near (sweep_end inv hz))
      · refine tk_lload6 dX6_shared_16 ?_
        refine tk_lconst dX6_shared_18 (v := 0) (by decide) ?_
        refine tk_lcmp dX6_shared_19 ?_
        first | refine tk_jf_eqB dX6_shared_20 (fun h20 => ?_) (fun h20 => ?_) | refine tk_if_eq dX6_shared_20 (fun h20 => ?_) (fun h20 => ?_)
        · exact tk_wk (by repeat' (first | exact trivial | refine ⟨Or.inl rfl, ?_⟩ | refine ⟨Or.inr rfl, ?_⟩)) (ends near (sweep_end inv hz))
        · exact absurd ((lgc0 _ _).mpr hz) h20
    | succ m ih =>
      intro i left near hm hi inv hl
      refine tk_iload8 dX6_shared_9 ?_
      refine tk_bipush dX6_shared_11 kc_bipush_64 ?_
      first | refine tk_icmp_geN dX6_shared_13 (by omega) (by omega) (fun h13 => ?_) (fun h13 => ?_) | refine tk_jcmp_ge dX6_shared_13 (fun h13 => ?_) (fun h13 => ?_)
      · first
          | exact tk_wk (by repeat' (first | exact trivial | refine ⟨Or.inl rfl, ?_⟩ | refine ⟨Or.inr rfl, ?_⟩)) (ends near (sweep_end inv (cnt_0 (by omega))))
          | exact tk_wk (by repeat' (first | exact trivial | refine ⟨Or.inl rfl, ?_⟩ | refine ⟨Or.inr rfl, ?_⟩)) (ends near (sweep_end inv ((lgc0 _ _).mp h20)))
      · refine tk_lload6 dX6_shared_16 ?_
        refine tk_lconst dX6_shared_18 (v := 0) (by decide) ?_
        refine tk_lcmp dX6_shared_19 ?_
        first | refine tk_jf_eqB dX6_shared_20 (fun h20 => ?_) (fun h20 => ?_) | refine tk_if_eq dX6_shared_20 (fun h20 => ?_) (fun h20 => ?_)
        · first
            | exact tk_wk (by repeat' (first | exact trivial | refine ⟨Or.inl rfl, ?_⟩ | refine ⟨Or.inr rfl, ?_⟩)) (ends near (sweep_end inv (cnt_0 (by omega))))
            | exact tk_wk (by repeat' (first | exact trivial | refine ⟨Or.inl rfl, ?_⟩ | refine ⟨Or.inr rfl, ?_⟩)) (ends near (sweep_end inv ((lgc0 _ _).mp h20)))
        · have h0 : ¬ left = 0 := fun e => h20 ((lgc0 _ _).mpr e)
          obtain ⟨v1, v2, v3⟩ := lsb_of h0
          have hvW := hpart _ (hl _ v1)
          refine tk_aload0 dX6_shared_23 ?_
          refine tk_getP dX6_shared_24 fX6_25 rfl (by first | assumption | exact va_up_self _ _ _ | exact (va_up_ne _ _ (by omega)).trans (by assumption) | exact congrArg Prod.fst (va_up_self _ _ _) | exact (congrArg Prod.fst (va_up_ne _ _ (by omega))).trans (by assumption) | exact (congrFun (va_up_ne _ _ (by omega)) _).trans (by assumption) | exact (va_up_ne _ _ (by omega)).trans (va_up_self _ _ _) | exact (va_up_ne _ _ (by omega)).trans ((va_up_ne _ _ (by omega)).trans (by assumption)) | exact (congrArg Prod.fst ((va_up_ne _ _ (by omega)).trans (va_up_ne _ _ (by omega)))).trans (by assumption) | exact (congrFun ((va_up_ne _ _ (by omega)).trans (va_up_ne _ _ (by omega))) _).trans (by assumption) | (rw [va_up_self, va_up_ne _ _ (by omega)]; assumption)) (by first | assumption | exact va_up_self _ _ _ | exact (va_up_ne _ _ (by omega)).trans (by assumption) | exact congrArg Prod.fst (va_up_self _ _ _) | exact (congrArg Prod.fst (va_up_ne _ _ (by omega))).trans (by assumption) | exact (congrFun (va_up_ne _ _ (by omega)) _).trans (by assumption) | exact (va_up_ne _ _ (by omega)).trans (va_up_self _ _ _) | exact (va_up_ne _ _ (by omega)).trans ((va_up_ne _ _ (by omega)).trans (by assumption)) | exact (congrArg Prod.fst ((va_up_ne _ _ (by omega)).trans (va_up_ne _ _ (by omega)))).trans (by assumption) | exact (congrFun ((va_up_ne _ _ (by omega)).trans (va_up_ne _ _ (by omega))) _).trans (by assumption) | (rw [va_up_self, va_up_ne _ _ (by omega)]; assumption)) ?_
          refine tk_callV0z dX6_shared_27 kX6_70 (by first | assumption | exact va_up_self _ _ _ | exact (va_up_ne _ _ (by omega)).trans (by assumption) | exact congrArg Prod.fst (va_up_self _ _ _) | exact (congrArg Prod.fst (va_up_ne _ _ (by omega))).trans (by assumption) | exact (congrFun (va_up_ne _ _ (by omega)) _).trans (by assumption) | exact (va_up_ne _ _ (by omega)).trans (va_up_self _ _ _) | exact (va_up_ne _ _ (by omega)).trans ((va_up_ne _ _ (by omega)).trans (by assumption)) | exact (congrArg Prod.fst ((va_up_ne _ _ (by omega)).trans (va_up_ne _ _ (by omega)))).trans (by assumption) | exact (congrFun ((va_up_ne _ _ (by omega)).trans (va_up_ne _ _ (by omega))) _).trans (by assumption) | (rw [va_up_self, va_up_ne _ _ (by omega)]; assumption)) (c_every hw hW1 hW) (Nat.le_of_ble_eq_true rfl) (by omega) ?_
          refine tk_lstore9 dX6_shared_30 rfl ?_
          refine tk_iconst dX6_shared_32 kc_iconst_0 ?_
          refine tk_istore11 dX6_shared_33 rfl ?_
          refine tk_wk (by repeat' (first | exact trivial | refine ⟨Or.inl rfl, ?_⟩ | refine ⟨Or.inr rfl, ?_⟩)) (c_shIn hs hpw hw hW hnp hnf hta h0 hvW (fun cell hcell l hl2 => ?_) np 0 (evr W) (by omega) (fun u => by rw [tb_evrT hW]; exact ⟨fun h => ⟨h, fun q hq => by omega⟩, fun h => h.1⟩))
          refine tk_wk hl2 ?_
          obtain ⟨k1, k2, k3⟩ := sweep_step (E := cSh ce F W nf (I (z + 1)) np g) (part := part) (fun v0 v hv0 hv u => cSh_eq hW (hpart _ hv0) hv u) (fun v hv => cSh_rf hW (hpart _ hv)) inv hl v1 hcell
          refine tk_lload4 dX6_shared_84 ?_
          refine tk_lload9 dX6_shared_86 ?_
          refine tk_lor dX6_shared_88 ?_
          refine tk_lstore4 dX6_shared_89 rfl ?_
          refine tk_lload6 dX6_shared_91 ?_
          refine tk_lload9 dX6_shared_93 ?_
          refine tk_ldc2 dX6_shared_95 klX6_58 ?_
          refine tk_lxor dX6_shared_98 ?_
          refine tk_land dX6_shared_99 ?_
          refine tk_lstore6 dX6_shared_100 rfl ?_
          first | refine tk_iinc8 dX6_shared_102 (kc_inc _) rfl ?_ | refine tk_iinc8 dX6_shared_102 rfl rfl ?_
          refine tk_goto dX6_shared_105 ?_
          exact tk_wk (by repeat' (first | exact trivial | refine ⟨Or.inl rfl, ?_⟩ | refine ⟨Or.inr rfl, ?_⟩)) (ih (i + 1) _ _ (by omega) (by omega) k1 k2)
  refine tkM.of (ls := [some _, some _, some _, none, none, none, none, none, none, none, none, none]) (by decide +kernel) (by decide +kernel) (Nat.le_of_ble_eq_true rfl) rfl ?_
  refine tk_lconst dX6_shared_0 (v := 0) (by decide) ?_
  refine tk_lstore4 dX6_shared_1 rfl ?_
  refine tk_lload2 dX6_shared_3 ?_
  refine tk_lstore6 dX6_shared_4 rfl ?_
  refine tk_iconst dX6_shared_6 kc_iconst_0 ?_
  refine tk_istore8 dX6_shared_7 rfl ?_
  exact tk_wk (by repeat' (first | exact trivial | refine ⟨Or.inl rfl, ?_⟩ | refine ⟨Or.inr rfl, ?_⟩)) (loop 64 0 part 0 (cnt_le _ _) (by have := cnt_le part 64; omega) (sweep_0 (fun u => ⟨fun h => (by rw [tb_0] at h; cases h), False.elim⟩)) (fun v hv => hv))
theorem c_remaining {z c cn dn : Nat} (hs : sObj T P z) (hpc : P z 1 = some c) (hc : T c = (23, cn)) (hcn : cn ≤ 5) (hdn : dn ≤ 6) (cell : Int64) : tkM G mX6_remaining 0 0 0 [vR z, vL cell, vI (nI dn)] (n, T, I, L, P) (tkF (some (vL (rRe (L (z + 2)) dn cn cell))) (n, T, I, L, P)) := by
  obtain ⟨s1, s2, s3, s4, s5⟩ := hs
  have loop : ∀ (j : Nat) (rest : Int64), j ≤ cn → tkX G mX6_remaining 0 0 0 12 [some (vR z), some (vL cell), none, some (vI (nI dn)), some (vL rest), none, some (vI (ixm j))] [] (n, T, I, L, P) (tkF (some (vL (rRe (L (z + 2)) dn j rest))) (n, T, I, L, P)) := by
    intro j
    induction j with
    | zero =>
      intro rest hj
      refine tk_iload6 dX6_remaining_12 ?_
      refine tk_iload3 dX6_remaining_14 ?_
      first | refine tk_icmp_ltN dX6_remaining_15 (by omega) (by omega) (fun h15 => ?_) (fun h15 => ?_) | refine tk_jcmp_lt dX6_remaining_15 (fun h15 => ?_) (fun h15 => ?_)
      · refine tk_lload4 dX6_remaining_51 ?_
        refine tk_lreturn dX6_remaining_53 rfl ?_
        exact ⟨rfl, rfl⟩
      · exact absurd ((ixm_lt 0 (by omega) dn (by omega)).mpr (by omega)) (Int32.not_lt.mpr h15)
    | succ j ih =>
      intro rest hj
      have hx := ixm_lt (j + 1) (by omega) dn (by omega)
      rw [ixm_s] at hx ⊢
      by_cases hlt : j < dn
      · rw [show rRe (L (z + 2)) dn (j + 1) rest = rest from if_pos hlt]
        refine tk_iload6 dX6_remaining_12 ?_
        refine tk_iload3 dX6_remaining_14 ?_
        first | refine tk_icmp_ltN dX6_remaining_15 (by omega) (by omega) (fun h15 => ?_) (fun h15 => ?_) | refine tk_jcmp_lt dX6_remaining_15 (fun h15 => ?_) (fun h15 => ?_)
        · refine tk_lload4 dX6_remaining_51 ?_
          refine tk_lreturn dX6_remaining_53 rfl ?_
          exact ⟨rfl, rfl⟩
        · exfalso; omega
      · rw [show rRe (L (z + 2)) dn (j + 1) rest = rRe (L (z + 2)) dn j (if L (z + 2) j &&& rest = 0 then rest else L (z + 2) j &&& rest) from if_neg hlt]
        refine tk_iload6 dX6_remaining_12 ?_
        refine tk_iload3 dX6_remaining_14 ?_
        first | refine tk_icmp_ltN dX6_remaining_15 (by omega) (by omega) (fun h15 => ?_) (fun h15 => ?_) | refine tk_jcmp_lt dX6_remaining_15 (fun h15 => ?_) (fun h15 => ?_)
        · exfalso; omega
        · refine tk_lload4 dX6_remaining_18 ?_
          refine tk_aload0 dX6_remaining_20 ?_
          refine tk_getP dX6_remaining_21 fX6_15 rfl (by first | assumption | exact va_up_self _ _ _ | exact (va_up_ne _ _ (by omega)).trans (by assumption) | exact congrArg Prod.fst (va_up_self _ _ _) | exact (congrArg Prod.fst (va_up_ne _ _ (by omega))).trans (by assumption) | exact (congrFun (va_up_ne _ _ (by omega)) _).trans (by assumption) | exact (va_up_ne _ _ (by omega)).trans (va_up_self _ _ _) | exact (va_up_ne _ _ (by omega)).trans ((va_up_ne _ _ (by omega)).trans (by assumption)) | exact (congrArg Prod.fst ((va_up_ne _ _ (by omega)).trans (va_up_ne _ _ (by omega)))).trans (by assumption) | exact (congrFun ((va_up_ne _ _ (by omega)).trans (va_up_ne _ _ (by omega))) _).trans (by assumption) | (rw [va_up_self, va_up_ne _ _ (by omega)]; assumption)) (by first | assumption | exact va_up_self _ _ _ | exact (va_up_ne _ _ (by omega)).trans (by assumption) | exact congrArg Prod.fst (va_up_self _ _ _) | exact (congrArg Prod.fst (va_up_ne _ _ (by omega))).trans (by assumption) | exact (congrFun (va_up_ne _ _ (by omega)) _).trans (by assumption) | exact (va_up_ne _ _ (by omega)).trans (va_up_self _ _ _) | exact (va_up_ne _ _ (by omega)).trans ((va_up_ne _ _ (by omega)).trans (by assumption)) | exact (congrArg Prod.fst ((va_up_ne _ _ (by omega)).trans (va_up_ne _ _ (by omega)))).trans (by assumption) | exact (congrFun ((va_up_ne _ _ (by omega)).trans (va_up_ne _ _ (by omega))) _).trans (by assumption) | (rw [va_up_self, va_up_ne _ _ (by omega)]; assumption)) ?_
          refine tk_iload6 dX6_remaining_24 ?_
          refine tk_lald dX6_remaining_26 (by first | assumption | exact va_up_self _ _ _ | exact (va_up_ne _ _ (by omega)).trans (by assumption) | exact congrArg Prod.fst (va_up_self _ _ _) | exact (congrArg Prod.fst (va_up_ne _ _ (by omega))).trans (by assumption) | exact (congrFun (va_up_ne _ _ (by omega)) _).trans (by assumption) | exact (va_up_ne _ _ (by omega)).trans (va_up_self _ _ _) | exact (va_up_ne _ _ (by omega)).trans ((va_up_ne _ _ (by omega)).trans (by assumption)) | exact (congrArg Prod.fst ((va_up_ne _ _ (by omega)).trans (va_up_ne _ _ (by omega)))).trans (by assumption) | exact (congrFun ((va_up_ne _ _ (by omega)).trans (va_up_ne _ _ (by omega))) _).trans (by assumption) | (rw [va_up_self, va_up_ne _ _ (by omega)]; assumption)) (by omega) (by omega) ?_
          refine tk_land dX6_remaining_27 ?_
          rw [Int64.and_comm]
          refine tk_lconst dX6_remaining_28 (v := 0) (by decide) ?_
          refine tk_lcmp dX6_remaining_29 ?_
          first | refine tk_jf_eqB dX6_remaining_30 (fun h30 => ?_) (fun h30 => ?_) | refine tk_if_eq dX6_remaining_30 (fun h30 => ?_) (fun h30 => ?_)
          · refine tk_iinc6 dX6_remaining_45 (v := ixm j) (ixm_dec' j) rfl ?_
            refine tk_goto dX6_remaining_48 ?_
            first
              | (rw [if_pos ((lgc0 _ _).mp h30)]; exact tk_wk (by repeat' (first | exact trivial | refine ⟨Or.inl rfl, ?_⟩ | refine ⟨Or.inr rfl, ?_⟩)) (ih _ (by omega)))
              | (rw [if_neg (fun e => h30 ((lgc0 _ _).mpr e))]; exact tk_wk (by repeat' (first | exact trivial | refine ⟨Or.inl rfl, ?_⟩ | refine ⟨Or.inr rfl, ?_⟩)) (ih _ (by omega)))
          · refine tk_lload4 dX6_remaining_33 ?_
            refine tk_aload0 dX6_remaining_35 ?_
            refine tk_getP dX6_remaining_36 fX6_15 rfl (by first | assumption | exact va_up_self _ _ _ | exact (va_up_ne _ _ (by omega)).trans (by assumption) | exact congrArg Prod.fst (va_up_self _ _ _) | exact (congrArg Prod.fst (va_up_ne _ _ (by omega))).trans (by assumption) | exact (congrFun (va_up_ne _ _ (by omega)) _).trans (by assumption) | exact (va_up_ne _ _ (by omega)).trans (va_up_self _ _ _) | exact (va_up_ne _ _ (by omega)).trans ((va_up_ne _ _ (by omega)).trans (by assumption)) | exact (congrArg Prod.fst ((va_up_ne _ _ (by omega)).trans (va_up_ne _ _ (by omega)))).trans (by assumption) | exact (congrFun ((va_up_ne _ _ (by omega)).trans (va_up_ne _ _ (by omega))) _).trans (by assumption) | (rw [va_up_self, va_up_ne _ _ (by omega)]; assumption)) (by first | assumption | exact va_up_self _ _ _ | exact (va_up_ne _ _ (by omega)).trans (by assumption) | exact congrArg Prod.fst (va_up_self _ _ _) | exact (congrArg Prod.fst (va_up_ne _ _ (by omega))).trans (by assumption) | exact (congrFun (va_up_ne _ _ (by omega)) _).trans (by assumption) | exact (va_up_ne _ _ (by omega)).trans (va_up_self _ _ _) | exact (va_up_ne _ _ (by omega)).trans ((va_up_ne _ _ (by omega)).trans (by assumption)) | exact (congrArg Prod.fst ((va_up_ne _ _ (by omega)).trans (va_up_ne _ _ (by omega)))).trans (by assumption) | exact (congrFun ((va_up_ne _ _ (by omega)).trans (va_up_ne _ _ (by omega))) _).trans (by assumption) | (rw [va_up_self, va_up_ne _ _ (by omega)]; assumption)) ?_
            refine tk_iload6 dX6_remaining_39 ?_
            refine tk_lald dX6_remaining_41 (by first | assumption | exact va_up_self _ _ _ | exact (va_up_ne _ _ (by omega)).trans (by assumption) | exact congrArg Prod.fst (va_up_self _ _ _) | exact (congrArg Prod.fst (va_up_ne _ _ (by omega))).trans (by assumption) | exact (congrFun (va_up_ne _ _ (by omega)) _).trans (by assumption) | exact (va_up_ne _ _ (by omega)).trans (va_up_self _ _ _) | exact (va_up_ne _ _ (by omega)).trans ((va_up_ne _ _ (by omega)).trans (by assumption)) | exact (congrArg Prod.fst ((va_up_ne _ _ (by omega)).trans (va_up_ne _ _ (by omega)))).trans (by assumption) | exact (congrFun ((va_up_ne _ _ (by omega)).trans (va_up_ne _ _ (by omega))) _).trans (by assumption) | (rw [va_up_self, va_up_ne _ _ (by omega)]; assumption)) (by omega) (by omega) ?_
            refine tk_land dX6_remaining_42 ?_
            rw [Int64.and_comm]
            refine tk_lstore4 dX6_remaining_43 rfl ?_
            refine tk_iinc6 dX6_remaining_45 (v := ixm j) (ixm_dec' j) rfl ?_
            refine tk_goto dX6_remaining_48 ?_
            first
              | (rw [if_pos ((lgc0 _ _).mp h30)]; exact tk_wk (by repeat' (first | exact trivial | refine ⟨Or.inl rfl, ?_⟩ | refine ⟨Or.inr rfl, ?_⟩)) (ih _ (by omega)))
              | (rw [if_neg (fun e => h30 ((lgc0 _ _).mpr e))]; exact tk_wk (by repeat' (first | exact trivial | refine ⟨Or.inl rfl, ?_⟩ | refine ⟨Or.inr rfl, ?_⟩)) (ih _ (by omega)))
  refine tkM.of (ls := [some _, some _, none, some _, none, none, none]) (by decide +kernel) (by decide +kernel) (Nat.le_of_ble_eq_true rfl) rfl ?_
  refine tk_lload1 dX6_remaining_0 ?_
  refine tk_lstore4 dX6_remaining_1 rfl ?_
  refine tk_aload0 dX6_remaining_3 ?_
  refine tk_getP dX6_remaining_4 fX6_30 rfl (by first | assumption | exact va_up_self _ _ _ | exact (va_up_ne _ _ (by omega)).trans (by assumption) | exact congrArg Prod.fst (va_up_self _ _ _) | exact (congrArg Prod.fst (va_up_ne _ _ (by omega))).trans (by assumption) | exact (congrFun (va_up_ne _ _ (by omega)) _).trans (by assumption) | exact (va_up_ne _ _ (by omega)).trans (va_up_self _ _ _) | exact (va_up_ne _ _ (by omega)).trans ((va_up_ne _ _ (by omega)).trans (by assumption)) | exact (congrArg Prod.fst ((va_up_ne _ _ (by omega)).trans (va_up_ne _ _ (by omega)))).trans (by assumption) | exact (congrFun ((va_up_ne _ _ (by omega)).trans (va_up_ne _ _ (by omega))) _).trans (by assumption) | (rw [va_up_self, va_up_ne _ _ (by omega)]; assumption)) (by first | assumption | exact va_up_self _ _ _ | exact (va_up_ne _ _ (by omega)).trans (by assumption) | exact congrArg Prod.fst (va_up_self _ _ _) | exact (congrArg Prod.fst (va_up_ne _ _ (by omega))).trans (by assumption) | exact (congrFun (va_up_ne _ _ (by omega)) _).trans (by assumption) | exact (va_up_ne _ _ (by omega)).trans (va_up_self _ _ _) | exact (va_up_ne _ _ (by omega)).trans ((va_up_ne _ _ (by omega)).trans (by assumption)) | exact (congrArg Prod.fst ((va_up_ne _ _ (by omega)).trans (va_up_ne _ _ (by omega)))).trans (by assumption) | exact (congrFun ((va_up_ne _ _ (by omega)).trans (va_up_ne _ _ (by omega))) _).trans (by assumption) | (rw [va_up_self, va_up_ne _ _ (by omega)]; assumption)) ?_
  refine tk_alen dX6_remaining_7 (by first | assumption | exact va_up_self _ _ _ | exact (va_up_ne _ _ (by omega)).trans (by assumption) | exact congrArg Prod.fst (va_up_self _ _ _) | exact (congrArg Prod.fst (va_up_ne _ _ (by omega))).trans (by assumption) | exact (congrFun (va_up_ne _ _ (by omega)) _).trans (by assumption) | exact (va_up_ne _ _ (by omega)).trans (va_up_self _ _ _) | exact (va_up_ne _ _ (by omega)).trans ((va_up_ne _ _ (by omega)).trans (by assumption)) | exact (congrArg Prod.fst ((va_up_ne _ _ (by omega)).trans (va_up_ne _ _ (by omega)))).trans (by assumption) | exact (congrFun ((va_up_ne _ _ (by omega)).trans (va_up_ne _ _ (by omega))) _).trans (by assumption) | (rw [va_up_self, va_up_ne _ _ (by omega)]; assumption)) (by omega) ?_
  refine tk_iconst dX6_remaining_8 kc_iconst_1 ?_
  first | refine tk_isubN dX6_remaining_9 (by omega) ?_ | refine tk_isub dX6_remaining_9 ?_
  refine tk_istore6 dX6_remaining_10 rfl ?_
  exact tk_wk (by repeat' (first | exact trivial | refine ⟨Or.inl rfl, ?_⟩ | refine ⟨Or.inr rfl, ?_⟩)) (loop cn cell (Nat.le_refl _))
end GROUP
