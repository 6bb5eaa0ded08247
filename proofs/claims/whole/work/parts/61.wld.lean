/-! ===== the class: where a sentence begins; worlds ===== -/
theorem WF_SZ {np nf : Nat} {bl : Bool} {row : Nat → Int32} : ∀ (k a : Nat), WF np nf bl row k a → 1 ≤ SZ row k a ∧ SZ row k a ≤ a + 1 := by
  intro k
  induction k with
  | zero => intro a h; exact h.elim
  | succ k ih =>
    intro a h
    obtain ⟨v, hv, h40, h⟩ := h
    have hiv : ix (row a) = v := by rw [hv]; exact ix_nI (by omega)
    rcases h with ⟨h4, hnf⟩ | ⟨rfl, ha, hw⟩ | ⟨h11, h14, ha, hw, hsz, hw2⟩ | ⟨h20, h32, hvp, hb, ha, hw⟩ | ⟨h32, ha, hw⟩
    · rw [SZ_0 (by rw [hiv]; unfold rTkN; rw [if_pos (by omega)])]; omega
    · rw [SZ_1 (by rw [hiv]; rfl)]; have := ih _ hw; omega
    · rw [SZ_2 (by rw [hiv]; unfold rTkN; rw [if_neg (by omega), if_pos (by omega)])]; have := ih _ hw; have := ih _ hw2; omega
    · rw [SZ_1 (by rw [hiv]; unfold rTkN; rw [if_neg (by omega), if_neg (by omega)])]; have := ih _ hw; omega
    · rw [SZ_1 (by rw [hiv]; unfold rTkN; rw [if_neg (by omega), if_neg (by omega)])]; have := ih _ hw; omega
theorem due_nI {dd t : Nat} (h : 1 ≤ dd + t) : nI dd + (nI t - nI 1) = nI (dd + t - 1) := by
  rw [Int32.sub_eq_add_neg, ← Int32.add_assoc, nI_add, ← Int32.sub_eq_add_neg, pk_sub h]
section CWLD
variable {G : tkG} {n : Nat} {T : Nat → Nat × Nat} {I : Nat → Nat → Int32} {L : Nat → Nat → Int64} {P : Nat → Nat → Option Nat}
theorem so_scan {a l b np nf : Nat} {bl : Bool} {row : Nat → Int32} {arg : Int32} {Q : Option tkV → tkH → Prop} (r2 : (T a).1 = 4) (r4 : P a 0 = some b) (r5 : T b = (20, l)) (r7 : l ≤ 14) (r8 : ∀ i, i < l → I b i = row i ∧ rSign (row i) = true) : ∀ (k x : Nat), WF np nf bl row k x → x < l → ∀ dd, 1 ≤ dd → dd ≤ 100 - k → k ≤ 14 → (dd = 1 → Q (some (vI (nI (x + 1 - SZ row k x)))) (n, T, I, L, P)) → (2 ≤ dd → tkX G mX3_startOf 1 0 0 4 [some (vR a), some (vI arg), some (vI (nI (dd - 1))), some (vI (ixm (x + 1 - SZ row k x)))] [] (n, T, I, L, P) Q) → tkX G mX3_startOf 1 0 0 4 [some (vR a), some (vI arg), some (vI (nI dd)), some (vI (nI x))] [] (n, T, I, L, P) Q := by
  intro k
  induction k with
  | zero => intro x h; exact h.elim
  | succ k ih =>
    intro x hwf hx dd hd1 hd2 hk14 fin nx
    obtain ⟨v, hv, h40, hwf⟩ := hwf
    obtain ⟨e1, e2⟩ := r8 x hx
    have hiv : ix (row x) = v := by rw [hv]; exact ix_nI (by omega)
    have hvk : v ≤ 3 ∨ (10 ≤ v ∧ v ≤ 14) ∨ (20 ≤ v ∧ v ≤ 40) := by rcases hwf with h | h | h | h | h <;> omega
    have ht2 := rTkN_le v
    have key : (dd + rTkN v - 1 = 0 → rTkN v = 0 → Q (some (vI (nI x))) (n, T, I, L, P)) → (¬ dd + rTkN v - 1 = 0 → tkX G mX3_startOf 1 0 0 4 [some (vR a), some (vI arg), some (vI (nI (dd + rTkN v - 1))), some (vI (ixm x))] [] (n, T, I, L, P) Q) → tkX G mX3_startOf 1 0 0 4 [some (vR a), some (vI arg), some (vI (nI dd)), some (vI (nI x))] [] (n, T, I, L, P) Q := by
      intro fin0 nx0
      refine tk_iload3 dX3_startOf_4 ?_
      refine tk_jf_lt dX3_startOf_5 (fun h5 => ?_) (fun h5 => ?_)
      · exact absurd h5 (nI_pos (by omega))
      · refine tk_iload2 dX3_startOf_8 ?_
        refine tk_aload0 dX3_startOf_9 ?_
        refine tk_getP dX3_startOf_10 fX3_7 rfl (by first | assumption | exact va_up_self _ _ _ | exact (va_up_ne _ _ (by omega)).trans (by assumption) | exact congrArg Prod.fst (va_up_self _ _ _) | exact (congrArg Prod.fst (va_up_ne _ _ (by omega))).trans (by assumption) | exact (congrFun (va_up_ne _ _ (by omega)) _).trans (by assumption) | exact (va_up_ne _ _ (by omega)).trans (va_up_self _ _ _) | exact (va_up_ne _ _ (by omega)).trans ((va_up_ne _ _ (by omega)).trans (by assumption)) | exact (congrArg Prod.fst ((va_up_ne _ _ (by omega)).trans (va_up_ne _ _ (by omega)))).trans (by assumption) | exact (congrFun ((va_up_ne _ _ (by omega)).trans (va_up_ne _ _ (by omega))) _).trans (by assumption) | (rw [va_up_self, va_up_ne _ _ (by omega)]; assumption)) (by first | assumption | exact va_up_self _ _ _ | exact (va_up_ne _ _ (by omega)).trans (by assumption) | exact congrArg Prod.fst (va_up_self _ _ _) | exact (congrArg Prod.fst (va_up_ne _ _ (by omega))).trans (by assumption) | exact (congrFun (va_up_ne _ _ (by omega)) _).trans (by assumption) | exact (va_up_ne _ _ (by omega)).trans (va_up_self _ _ _) | exact (va_up_ne _ _ (by omega)).trans ((va_up_ne _ _ (by omega)).trans (by assumption)) | exact (congrArg Prod.fst ((va_up_ne _ _ (by omega)).trans (va_up_ne _ _ (by omega)))).trans (by assumption) | exact (congrFun ((va_up_ne _ _ (by omega)).trans (va_up_ne _ _ (by omega))) _).trans (by assumption) | (rw [va_up_self, va_up_ne _ _ (by omega)]; assumption)) ?_
        refine tk_iload3 dX3_startOf_13 ?_
        refine tk_iald dX3_startOf_14 (by first | assumption | exact va_up_self _ _ _ | exact (va_up_ne _ _ (by omega)).trans (by assumption) | exact congrArg Prod.fst (va_up_self _ _ _) | exact (congrArg Prod.fst (va_up_ne _ _ (by omega))).trans (by assumption) | exact (congrFun (va_up_ne _ _ (by omega)) _).trans (by assumption) | exact (va_up_ne _ _ (by omega)).trans (va_up_self _ _ _) | exact (va_up_ne _ _ (by omega)).trans ((va_up_ne _ _ (by omega)).trans (by assumption)) | exact (congrArg Prod.fst ((va_up_ne _ _ (by omega)).trans (va_up_ne _ _ (by omega)))).trans (by assumption) | exact (congrFun ((va_up_ne _ _ (by omega)).trans (va_up_ne _ _ (by omega))) _).trans (by assumption) | (rw [va_up_self, va_up_ne _ _ (by omega)]; assumption)) (by omega) (by omega) ?_
        rw [e1, hv]
        refine tk_callS1z dX3_startOf_15 kX3_26 (c_takesN hvk) (Nat.le_of_ble_eq_true rfl) (by omega) ?_
        refine tk_iconst dX3_startOf_18 kc_iconst_1 ?_
        first | refine tk_isubN dX3_startOf_19 (by omega) ?_ | refine tk_isub dX3_startOf_19 ?_
        refine tk_iadd dX3_startOf_20 ?_
        rw [due_nI (dd := dd) (t := rTkN v) (by omega)]
        refine tk_istore2 dX3_startOf_21 rfl ?_
        refine tk_iload2 dX3_startOf_22 ?_
        first | refine tk_jf_neB dX3_startOf_23 (fun h23 => ?_) (fun h23 => ?_) | refine tk_if_ne dX3_startOf_23 (fun h23 => ?_) (fun h23 => ?_)
        · refine tk_iinc3 dX3_startOf_28 (v := ixm x) (ixm_dec' x) rfl ?_
          refine tk_goto dX3_startOf_31 ?_
          refine tk_wk (by repeat' (first | exact trivial | refine ⟨Or.inl rfl, ?_⟩ | refine ⟨Or.inr rfl, ?_⟩)) (nx0 ?_)
          intro e
          exact h23 (by rw [e]; exact nI_0)
        · refine tk_iload3 dX3_startOf_26 ?_
          refine tk_ireturn dX3_startOf_27 rfl ?_
          have hz : dd + rTkN v - 1 = 0 := (nI_eq (by omega) (by omega)).mp (h23.trans nI_0.symm)
          exact fin0 (by omega) (by omega)
    rcases hwf with ⟨h4, hnf⟩ | ⟨h10, ha, hw⟩ | ⟨h11, h14, ha, hw, hsz, hw2⟩ | ⟨h20, h32, hvp, hb, ha, hw⟩ | ⟨h32, ha, hw⟩
    · have t0 : rTkN v = 0 := by unfold rTkN; rw [if_pos (by omega)]
      have z := SZ_0 (row := row) (k := k) (a := x) (by rw [hiv]; exact t0)
      rw [z] at fin nx
      refine key (fun h _ => fin (by omega)) (fun h => ?_)
      have q := nx (by omega)
      rw [show x + 1 - 1 = x by omega] at q
      rw [t0, show dd + 0 - 1 = dd - 1 by omega]; exact q
    all_goals first
      | (have t1 : rTkN v = 1 := by unfold rTkN; rw [if_neg (by omega), if_neg (by omega)]
         have z := SZ_1 (row := row) (k := k) (a := x) (by rw [hiv]; exact t1)
         have zb := WF_SZ k (x - 1) hw
         rw [z] at fin nx
         refine key (fun _ h => by omega) (fun h => ?_)
         rw [t1, show dd + 1 - 1 = dd by omega, show x = (x - 1) + 1 by omega, ixm_s]
         refine ih (x - 1) hw (by omega) dd hd1 (by omega) (by omega) (fun h => ?_) (fun h => ?_)
         · have q := fin h
           rw [show x + 1 - (1 + SZ row k (x - 1)) = x - 1 + 1 - SZ row k (x - 1) by omega] at q
           exact q
         · have q := nx h
           rw [show x + 1 - (1 + SZ row k (x - 1)) = x - 1 + 1 - SZ row k (x - 1) by omega] at q
           exact q)
      | (have t2 : rTkN v = 2 := by unfold rTkN; rw [if_neg (by omega), if_pos (by omega)]
         have z := SZ_2 (row := row) (k := k) (a := x) (by rw [hiv]; exact t2)
         have zb := WF_SZ k (x - 1) hw
         have zb2 := WF_SZ k (x - 1 - SZ row k (x - 1)) hw2
         rw [z] at fin nx
         refine key (fun _ h => by omega) (fun h => ?_)
         rw [t2, show dd + 2 - 1 = dd + 1 by omega, show x = (x - 1) + 1 by omega, ixm_s]
         refine ih (x - 1) hw (by omega) (dd + 1) (by omega) (by omega) (by omega) (fun h => by omega) (fun h => ?_)
         rw [show dd + 1 - 1 = dd by omega, show x - 1 + 1 - SZ row k (x - 1) = (x - 1 - SZ row k (x - 1)) + 1 by omega, ixm_s]
         refine ih _ hw2 (by omega) dd hd1 (by omega) (by omega) (fun h => ?_) (fun h => ?_)
         · have q := fin h
           rw [show x + 1 - (1 + SZ row k (x - 1) + SZ row k (x - 1 - SZ row k (x - 1))) = x - 1 - SZ row k (x - 1) + 1 - SZ row k (x - 1 - SZ row k (x - 1)) by omega] at q
           exact q
         · have q := nx h
           rw [show x + 1 - (1 + SZ row k (x - 1) + SZ row k (x - 1 - SZ row k (x - 1))) = x - 1 - SZ row k (x - 1) + 1 - SZ row k (x - 1 - SZ row k (x - 1)) by omega] at q
           exact q)
theorem c_startOf {a l np nf : Nat} {bl : Bool} {row : Nat → Int32} (hr : cRow n T I P a l row) {k x : Nat} (hw : WF np nf bl row k x) (hx : x < l) (hk : k ≤ 14) : tkM G mX3_startOf 1 0 0 [vR a, vI (nI x)] (n, T, I, L, P) (tkF (some (vI (nI (x + 1 - SZ row k x)))) (n, T, I, L, P)) := by
  obtain ⟨r1, r2, b, r3, r4, r5, r6, r7, r8⟩ := hr
  refine tkM.of (ls := [some _, some _, none, none]) (by decide +kernel) (by decide +kernel) (Nat.le_of_ble_eq_true rfl) rfl ?_
  refine tk_iconst dX3_startOf_0 kc_iconst_1 ?_
  refine tk_istore2 dX3_startOf_1 rfl ?_
  refine tk_iload1 dX3_startOf_2 ?_
  refine tk_istore3 dX3_startOf_3 rfl ?_
  exact so_scan r2 r4 r5 r7 r8 k x hw hx 1 (by omega) (by omega) hk (fun _ => ⟨rfl, rfl⟩) (fun h => by omega)
theorem evr_u {W : Nat} (h1 : 1 ≤ W) (h2 : W ≤ 64) : jushr (-1) (nI (64 - W)) = evr W := by
  apply tb_ext
  intro i hi
  rw [tb_ushr _ (by omega), tb_evr h2 hi]
  by_cases h : i < W
  · rw [tb_m1 (by omega), decide_eq_true h]
  · rw [tb_big (by omega), decide_eq_false h]
theorem c_every {a np nf W r : Nat} {F ce : Nat → Int32} (hw : cWld n T I L P a np nf W r F ce) (h1 : 1 ≤ W) (h2 : W ≤ 64) : tkM G mX9_every 0 0 0 [vR a] (n, T, I, L, P) (tkF (some (vL (evr W))) (n, T, I, L, P)) := by
  obtain ⟨q1, q2, q3, q4, q5, q6, b, c, q7, q8, q9, q10, q11, q12, q13, q14⟩ := hw
  refine tkM.of (ls := [some _]) (by decide +kernel) (by decide +kernel) (Nat.le_of_ble_eq_true rfl) rfl ?_
  refine tk_ldc2 dX9_every_0 klX9_44 ?_
  refine tk_bipush dX9_every_3 kc_bipush_64 ?_
  refine tk_aload0 dX9_every_5 ?_
  refine tk_getI dX9_every_6 fX9_18 rfl (by first | assumption | exact va_up_self _ _ _ | exact (va_up_ne _ _ (by omega)).trans (by assumption) | exact congrArg Prod.fst (va_up_self _ _ _) | exact (congrArg Prod.fst (va_up_ne _ _ (by omega))).trans (by assumption) | exact (congrFun (va_up_ne _ _ (by omega)) _).trans (by assumption) | exact (va_up_ne _ _ (by omega)).trans (va_up_self _ _ _) | exact (va_up_ne _ _ (by omega)).trans ((va_up_ne _ _ (by omega)).trans (by assumption)) | exact (congrArg Prod.fst ((va_up_ne _ _ (by omega)).trans (va_up_ne _ _ (by omega)))).trans (by assumption) | exact (congrFun ((va_up_ne _ _ (by omega)).trans (va_up_ne _ _ (by omega))) _).trans (by assumption) | (rw [va_up_self, va_up_ne _ _ (by omega)]; assumption)) ?_
  rw [q5]
  first | refine tk_isubN dX9_every_9 (by omega) ?_ | refine tk_isub dX9_every_9 ?_
  refine tk_lushr dX9_every_10 ?_
  refine tk_lreturn dX9_every_11 rfl ?_
  exact tkl (evr_u h1 h2)
theorem c_cell {a np nf W r p w : Nat} {F ce : Nat → Int32} (hw : cWld n T I L P a np nf W r F ce) (h2 : W ≤ 64) (hnp : np ≤ 4) (hp : p < np) (hw2 : w < W) : tkM G mX9_cell 0 0 0 [vR a, vI (nI p), vI (nI w)] (n, T, I, L, P) (tkF (some (vL (pB ce W (64 * p + w)))) (n, T, I, L, P)) := by
  obtain ⟨q1, q2, q3, q4, q5, q6, b, c, q7, q8, q9, q10, q11, q12, q13, q14⟩ := hw
  have hlt : p * W + w < np * W := by
    have : (p + 1) * W ≤ np * W := Nat.mul_le_mul_right W hp
    rw [Nat.succ_mul] at this
    omega
  have hle : np * W ≤ 4 * W := Nat.mul_le_mul_right W hnp
  refine tkM.of (ls := [some _, some _, some _]) (by decide +kernel) (by decide +kernel) (Nat.le_of_ble_eq_true rfl) rfl ?_
  refine tk_aload0 dX9_cell_0 ?_
  refine tk_getP dX9_cell_1 fX9_28 rfl (by first | assumption | exact va_up_self _ _ _ | exact (va_up_ne _ _ (by omega)).trans (by assumption) | exact congrArg Prod.fst (va_up_self _ _ _) | exact (congrArg Prod.fst (va_up_ne _ _ (by omega))).trans (by assumption) | exact (congrFun (va_up_ne _ _ (by omega)) _).trans (by assumption) | exact (va_up_ne _ _ (by omega)).trans (va_up_self _ _ _) | exact (va_up_ne _ _ (by omega)).trans ((va_up_ne _ _ (by omega)).trans (by assumption)) | exact (congrArg Prod.fst ((va_up_ne _ _ (by omega)).trans (va_up_ne _ _ (by omega)))).trans (by assumption) | exact (congrFun ((va_up_ne _ _ (by omega)).trans (va_up_ne _ _ (by omega))) _).trans (by assumption) | (rw [va_up_self, va_up_ne _ _ (by omega)]; assumption)) (by first | assumption | exact va_up_self _ _ _ | exact (va_up_ne _ _ (by omega)).trans (by assumption) | exact congrArg Prod.fst (va_up_self _ _ _) | exact (congrArg Prod.fst (va_up_ne _ _ (by omega))).trans (by assumption) | exact (congrFun (va_up_ne _ _ (by omega)) _).trans (by assumption) | exact (va_up_ne _ _ (by omega)).trans (va_up_self _ _ _) | exact (va_up_ne _ _ (by omega)).trans ((va_up_ne _ _ (by omega)).trans (by assumption)) | exact (congrArg Prod.fst ((va_up_ne _ _ (by omega)).trans (va_up_ne _ _ (by omega)))).trans (by assumption) | exact (congrFun ((va_up_ne _ _ (by omega)).trans (va_up_ne _ _ (by omega))) _).trans (by assumption) | (rw [va_up_self, va_up_ne _ _ (by omega)]; assumption)) ?_
  refine tk_iload1 dX9_cell_4 ?_
  refine tk_aload0 dX9_cell_5 ?_
  refine tk_getI dX9_cell_6 fX9_18 rfl (by first | assumption | exact va_up_self _ _ _ | exact (va_up_ne _ _ (by omega)).trans (by assumption) | exact congrArg Prod.fst (va_up_self _ _ _) | exact (congrArg Prod.fst (va_up_ne _ _ (by omega))).trans (by assumption) | exact (congrFun (va_up_ne _ _ (by omega)) _).trans (by assumption) | exact (va_up_ne _ _ (by omega)).trans (va_up_self _ _ _) | exact (va_up_ne _ _ (by omega)).trans ((va_up_ne _ _ (by omega)).trans (by assumption)) | exact (congrArg Prod.fst ((va_up_ne _ _ (by omega)).trans (va_up_ne _ _ (by omega)))).trans (by assumption) | exact (congrFun ((va_up_ne _ _ (by omega)).trans (va_up_ne _ _ (by omega))) _).trans (by assumption) | (rw [va_up_self, va_up_ne _ _ (by omega)]; assumption)) ?_
  rw [q5]
  first | refine tk_imulN dX9_cell_9 ?_ | refine tk_imul dX9_cell_9 ?_
  refine tk_iload2 dX9_cell_10 ?_
  first | refine tk_iaddN dX9_cell_11 ?_ | refine tk_iadd dX9_cell_11 ?_
  refine tk_lald dX9_cell_12 (by first | assumption | exact va_up_self _ _ _ | exact (va_up_ne _ _ (by omega)).trans (by assumption) | exact congrArg Prod.fst (va_up_self _ _ _) | exact (congrArg Prod.fst (va_up_ne _ _ (by omega))).trans (by assumption) | exact (congrFun (va_up_ne _ _ (by omega)) _).trans (by assumption) | exact (va_up_ne _ _ (by omega)).trans (va_up_self _ _ _) | exact (va_up_ne _ _ (by omega)).trans ((va_up_ne _ _ (by omega)).trans (by assumption)) | exact (congrArg Prod.fst ((va_up_ne _ _ (by omega)).trans (va_up_ne _ _ (by omega)))).trans (by assumption) | exact (congrFun ((va_up_ne _ _ (by omega)).trans (va_up_ne _ _ (by omega))) _).trans (by assumption) | (rw [va_up_self, va_up_ne _ _ (by omega)]; assumption)) (by omega) (by omega) ?_
  refine tk_lreturn dX9_cell_13 rfl ?_
  exact tkl (q14 p hp w hw2)
theorem c_hasReal {a np nf W r : Nat} {F ce : Nat → Int32} (hw : cWld n T I L P a np nf W r F ce) (hr : r < 64) (x : Int64) : tkM G mX9_hasReal 1 0 0 [vR a, vL x] (n, T, I, L, P) (tkF (some (vI (tkb (tb x r)))) (n, T, I, L, P)) := by
  obtain ⟨q1, q2, q3, q4, q5, q6, b, c, q7, q8, q9, q10, q11, q12, q13, q14⟩ := hw
  refine tkM.of (ls := [some _, some _, none]) (by decide +kernel) (by decide +kernel) (Nat.le_of_ble_eq_true rfl) rfl ?_
  refine tk_aload0 dX9_hasReal_0 ?_
  refine tk_getI dX9_hasReal_1 fX9_21 rfl (by first | assumption | exact va_up_self _ _ _ | exact (va_up_ne _ _ (by omega)).trans (by assumption) | exact congrArg Prod.fst (va_up_self _ _ _) | exact (congrArg Prod.fst (va_up_ne _ _ (by omega))).trans (by assumption) | exact (congrFun (va_up_ne _ _ (by omega)) _).trans (by assumption) | exact (va_up_ne _ _ (by omega)).trans (va_up_self _ _ _) | exact (va_up_ne _ _ (by omega)).trans ((va_up_ne _ _ (by omega)).trans (by assumption)) | exact (congrArg Prod.fst ((va_up_ne _ _ (by omega)).trans (va_up_ne _ _ (by omega)))).trans (by assumption) | exact (congrFun ((va_up_ne _ _ (by omega)).trans (va_up_ne _ _ (by omega))) _).trans (by assumption) | (rw [va_up_self, va_up_ne _ _ (by omega)]; assumption)) ?_
  rw [q6]
  refine tk_lload1 dX9_hasReal_4 ?_
  refine tk_callSN2z dX9_hasReal_5 kX9_31 (c_isIn hr x) (Nat.le_of_ble_eq_true rfl) (by omega) ?_
  first | refine tk_zreturn dX9_hasReal_8 rfl ?_ | refine tk_zret0 dX9_hasReal_8 rfl ?_ | refine tk_zret1 dX9_hasReal_8 rfl ?_
  exact ⟨rfl, rfl⟩
theorem c_factsOf {a np nf W r w x : Nat} {F ce : Nat → Int32} (hw : cWld n T I L P a np nf W r F ce) (hW : W ≤ 64) (hnf : nf ≤ 4) (hw2 : w < W) (hF : F w = nI x) (hx2 : x < 2 ^ nf) : tkM G mX9_factsOf 1 0 0 [vR a, vI (nI w)] (n, T, I, L, P) (tkF (some (vI (nI x))) (n, T, I, L, P)) := by
  obtain ⟨q1, q2, q3, q4, q5, q6, b, c, q7, q8, q9, q10, q11, q12, q13, q14⟩ := hw
  have hx : x < 16 := Nat.lt_of_lt_of_le hx2 (Nat.pow_le_pow_right (by omega) hnf)
  have hbit : ∀ f, tb (rSF F W f) w = true ↔ kshr (nI x) (nI f) &&& nI 1 = nI 1 := fun f => by
    unfold rSF
    rw [tb_mkT hW, decide_eq_true_eq, hF]
    exact ⟨fun q => q.2, fun q => ⟨hw2, q⟩⟩
  refine tkM.of (ls := [some _, some _, none, none]) (by decide +kernel) (by decide +kernel) (Nat.le_of_ble_eq_true rfl) rfl ?_
  refine tk_iconst dX9_factsOf_0 kc_iconst_0 ?_
  refine tk_istore2 dX9_factsOf_1 rfl ?_
  refine tk_iconst dX9_factsOf_2 kc_iconst_0 ?_
  refine tk_istore3 dX9_factsOf_3 rfl ?_
  refine tk_fr 0 nf (fun f => [some (vR a), some (vI (nI w)), some (vI (nI (x % 2 ^ f))), some (vI (nI f))]) (fun f => (n, T, I, L, P)) (by omega) (by rw [Nat.pow_zero, Nat.mod_one]; exact (by repeat' (first | exact trivial | refine ⟨Or.inl rfl, ?_⟩ | refine ⟨Or.inr rfl, ?_⟩))) rfl ?_ ?_
  · refine tk_iload3 dX9_factsOf_4 ?_
    refine tk_aload0 dX9_factsOf_5 ?_
    refine tk_getI dX9_factsOf_6 fX9_15 rfl (by first | assumption | exact va_up_self _ _ _ | exact (va_up_ne _ _ (by omega)).trans (by assumption) | exact congrArg Prod.fst (va_up_self _ _ _) | exact (congrArg Prod.fst (va_up_ne _ _ (by omega))).trans (by assumption) | exact (congrFun (va_up_ne _ _ (by omega)) _).trans (by assumption) | exact (va_up_ne _ _ (by omega)).trans (va_up_self _ _ _) | exact (va_up_ne _ _ (by omega)).trans ((va_up_ne _ _ (by omega)).trans (by assumption)) | exact (congrArg Prod.fst ((va_up_ne _ _ (by omega)).trans (va_up_ne _ _ (by omega)))).trans (by assumption) | exact (congrFun ((va_up_ne _ _ (by omega)).trans (va_up_ne _ _ (by omega))) _).trans (by assumption) | (rw [va_up_self, va_up_ne _ _ (by omega)]; assumption)) ?_
    rw [q4]
    first | refine tk_icmp_geN dX9_factsOf_9 (by omega) (by omega) (fun h9 => ?_) (fun h9 => ?_) | refine tk_jcmp_ge dX9_factsOf_9 (fun h9 => ?_) (fun h9 => ?_)
    · refine tk_iload2 dX9_factsOf_37 ?_
      refine tk_ireturn dX9_factsOf_38 rfl ?_
      refine tki ?_
      rw [Nat.mod_eq_of_lt hx2]
    · exfalso; omega
  · intro f _ hf k
    have hm := q13 f hf
    have ob := or_sh x hx f (by omega)
    refine tk_iload3 dX9_factsOf_4 ?_
    refine tk_aload0 dX9_factsOf_5 ?_
    refine tk_getI dX9_factsOf_6 fX9_15 rfl (by first | assumption | exact va_up_self _ _ _ | exact (va_up_ne _ _ (by omega)).trans (by assumption) | exact congrArg Prod.fst (va_up_self _ _ _) | exact (congrArg Prod.fst (va_up_ne _ _ (by omega))).trans (by assumption) | exact (congrFun (va_up_ne _ _ (by omega)) _).trans (by assumption) | exact (va_up_ne _ _ (by omega)).trans (va_up_self _ _ _) | exact (va_up_ne _ _ (by omega)).trans ((va_up_ne _ _ (by omega)).trans (by assumption)) | exact (congrArg Prod.fst ((va_up_ne _ _ (by omega)).trans (va_up_ne _ _ (by omega)))).trans (by assumption) | exact (congrFun ((va_up_ne _ _ (by omega)).trans (va_up_ne _ _ (by omega))) _).trans (by assumption) | (rw [va_up_self, va_up_ne _ _ (by omega)]; assumption)) ?_
    rw [q4]
    first | refine tk_icmp_geN dX9_factsOf_9 (by omega) (by omega) (fun h9 => ?_) (fun h9 => ?_) | refine tk_jcmp_ge dX9_factsOf_9 (fun h9 => ?_) (fun h9 => ?_)
    · exfalso; omega
    · refine tk_iload1 dX9_factsOf_12 ?_
      refine tk_aload0 dX9_factsOf_13 ?_
      refine tk_getP dX9_factsOf_14 fX9_24 rfl (by first | assumption | exact va_up_self _ _ _ | exact (va_up_ne _ _ (by omega)).trans (by assumption) | exact congrArg Prod.fst (va_up_self _ _ _) | exact (congrArg Prod.fst (va_up_ne _ _ (by omega))).trans (by assumption) | exact (congrFun (va_up_ne _ _ (by omega)) _).trans (by assumption) | exact (va_up_ne _ _ (by omega)).trans (va_up_self _ _ _) | exact (va_up_ne _ _ (by omega)).trans ((va_up_ne _ _ (by omega)).trans (by assumption)) | exact (congrArg Prod.fst ((va_up_ne _ _ (by omega)).trans (va_up_ne _ _ (by omega)))).trans (by assumption) | exact (congrFun ((va_up_ne _ _ (by omega)).trans (va_up_ne _ _ (by omega))) _).trans (by assumption) | (rw [va_up_self, va_up_ne _ _ (by omega)]; assumption)) (by first | assumption | exact va_up_self _ _ _ | exact (va_up_ne _ _ (by omega)).trans (by assumption) | exact congrArg Prod.fst (va_up_self _ _ _) | exact (congrArg Prod.fst (va_up_ne _ _ (by omega))).trans (by assumption) | exact (congrFun (va_up_ne _ _ (by omega)) _).trans (by assumption) | exact (va_up_ne _ _ (by omega)).trans (va_up_self _ _ _) | exact (va_up_ne _ _ (by omega)).trans ((va_up_ne _ _ (by omega)).trans (by assumption)) | exact (congrArg Prod.fst ((va_up_ne _ _ (by omega)).trans (va_up_ne _ _ (by omega)))).trans (by assumption) | exact (congrFun ((va_up_ne _ _ (by omega)).trans (va_up_ne _ _ (by omega))) _).trans (by assumption) | (rw [va_up_self, va_up_ne _ _ (by omega)]; assumption)) ?_
      refine tk_iload3 dX9_factsOf_17 ?_
      refine tk_lald dX9_factsOf_18 (by first | assumption | exact va_up_self _ _ _ | exact (va_up_ne _ _ (by omega)).trans (by assumption) | exact congrArg Prod.fst (va_up_self _ _ _) | exact (congrArg Prod.fst (va_up_ne _ _ (by omega))).trans (by assumption) | exact (congrFun (va_up_ne _ _ (by omega)) _).trans (by assumption) | exact (va_up_ne _ _ (by omega)).trans (va_up_self _ _ _) | exact (va_up_ne _ _ (by omega)).trans ((va_up_ne _ _ (by omega)).trans (by assumption)) | exact (congrArg Prod.fst ((va_up_ne _ _ (by omega)).trans (va_up_ne _ _ (by omega)))).trans (by assumption) | exact (congrFun ((va_up_ne _ _ (by omega)).trans (va_up_ne _ _ (by omega))) _).trans (by assumption) | (rw [va_up_self, va_up_ne _ _ (by omega)]; assumption)) (by omega) (by omega) ?_
      rw [hm]
      refine tk_callSN2z dX9_factsOf_19 kX9_31 (c_isIn (k := w) (by omega) _) (Nat.le_of_ble_eq_true rfl) (by omega) ?_
      first | refine tk_jf_eqB dX9_factsOf_22 (fun h22 => ?_) (fun h22 => ?_) | refine tk_if_eq dX9_factsOf_22 (fun h22 => ?_) (fun h22 => ?_)
      · first | refine tk_iinc3 dX9_factsOf_31 (kc_inc _) rfl ?_ | refine tk_iinc3 dX9_factsOf_31 rfl rfl ?_
        refine tk_goto dX9_factsOf_34 ?_
        refine k _ ?_
        first
          | rw [← ob.1 ((hbit f).mp h22)]; exact (by repeat' (first | exact trivial | refine ⟨Or.inl rfl, ?_⟩ | refine ⟨Or.inr rfl, ?_⟩))
          | rw [← ob.2 (fun e => by have := (hbit f).mpr e; rw [h22] at this; cases this)]; exact (by repeat' (first | exact trivial | refine ⟨Or.inl rfl, ?_⟩ | refine ⟨Or.inr rfl, ?_⟩))
      · refine tk_iload2 dX9_factsOf_25 ?_
        refine tk_iconst dX9_factsOf_26 kc_iconst_1 ?_
        refine tk_iload3 dX9_factsOf_27 ?_
        refine tk_ishl dX9_factsOf_28 ?_
        refine tk_ior dX9_factsOf_29 ?_
        refine tk_istore2 dX9_factsOf_30 rfl ?_
        first | refine tk_iinc3 dX9_factsOf_31 (kc_inc _) rfl ?_ | refine tk_iinc3 dX9_factsOf_31 rfl rfl ?_
        refine tk_goto dX9_factsOf_34 ?_
        refine k _ ?_
        first
          | rw [← ob.1 ((hbit f).mp h22)]; exact (by repeat' (first | exact trivial | refine ⟨Or.inl rfl, ?_⟩ | refine ⟨Or.inr rfl, ?_⟩))
          | rw [← ob.2 (fun e => by have := (hbit f).mpr e; rw [h22] at this; cases this)]; exact (by repeat' (first | exact trivial | refine ⟨Or.inl rfl, ?_⟩ | refine ⟨Or.inr rfl, ?_⟩))
theorem c_wldInit {a b c nf : Nat} {x1 x2 x3 : Int32} (h1 : (T a).1 = 9) (h2 : T b = (21, nf)) : tkM G mX9_init 1 0 0 [vR a, vI x1, vI x2, vI x3, vR b, vR c] (n, T, I, L, P) (tkF none (n, T, va_up I a (va_up (va_up (va_up (va_up (I a) 0 x1) 1 (nI nf)) 2 x2) 3 x3), L, va_up P a (va_up (va_up (P a) 4 (some b)) 5 (some c)))) := by
  refine tkM.of (ls := [some _, some _, some _, some _, some _, some _]) (by decide +kernel) (by decide +kernel) (Nat.le_of_ble_eq_true rfl) rfl ?_
  refine tk_aload0 dX9_init_0 ?_
  refine tk_objInit dX9_init_1 oiX9_3 (Nat.le_of_ble_eq_true rfl) (by omega) ?_
  refine tk_aload0 dX9_init_4 ?_
  refine tk_iload1 dX9_init_5 ?_
  refine tk_putI dX9_init_6 fX9_9 wX9_init_X9_0 rfl (by first | assumption | exact va_up_self _ _ _ | exact (va_up_ne _ _ (by omega)).trans (by assumption) | exact congrArg Prod.fst (va_up_self _ _ _) | exact (congrArg Prod.fst (va_up_ne _ _ (by omega))).trans (by assumption) | exact (congrFun (va_up_ne _ _ (by omega)) _).trans (by assumption) | exact (va_up_ne _ _ (by omega)).trans (va_up_self _ _ _) | exact (va_up_ne _ _ (by omega)).trans ((va_up_ne _ _ (by omega)).trans (by assumption)) | exact (congrArg Prod.fst ((va_up_ne _ _ (by omega)).trans (va_up_ne _ _ (by omega)))).trans (by assumption) | exact (congrFun ((va_up_ne _ _ (by omega)).trans (va_up_ne _ _ (by omega))) _).trans (by assumption) | (rw [va_up_self, va_up_ne _ _ (by omega)]; assumption)) ?_
  refine tk_aload0 dX9_init_9 ?_
  refine tk_aload4 dX9_init_10 ?_
  refine tk_alen dX9_init_12 (by first | assumption | exact va_up_self _ _ _ | exact (va_up_ne _ _ (by omega)).trans (by assumption) | exact congrArg Prod.fst (va_up_self _ _ _) | exact (congrArg Prod.fst (va_up_ne _ _ (by omega))).trans (by assumption) | exact (congrFun (va_up_ne _ _ (by omega)) _).trans (by assumption) | exact (va_up_ne _ _ (by omega)).trans (va_up_self _ _ _) | exact (va_up_ne _ _ (by omega)).trans ((va_up_ne _ _ (by omega)).trans (by assumption)) | exact (congrArg Prod.fst ((va_up_ne _ _ (by omega)).trans (va_up_ne _ _ (by omega)))).trans (by assumption) | exact (congrFun ((va_up_ne _ _ (by omega)).trans (va_up_ne _ _ (by omega))) _).trans (by assumption) | (rw [va_up_self, va_up_ne _ _ (by omega)]; assumption)) (by omega) ?_
  refine tk_putI dX9_init_13 fX9_15 wX9_init_X9_1 rfl (by first | assumption | exact va_up_self _ _ _ | exact (va_up_ne _ _ (by omega)).trans (by assumption) | exact congrArg Prod.fst (va_up_self _ _ _) | exact (congrArg Prod.fst (va_up_ne _ _ (by omega))).trans (by assumption) | exact (congrFun (va_up_ne _ _ (by omega)) _).trans (by assumption) | exact (va_up_ne _ _ (by omega)).trans (va_up_self _ _ _) | exact (va_up_ne _ _ (by omega)).trans ((va_up_ne _ _ (by omega)).trans (by assumption)) | exact (congrArg Prod.fst ((va_up_ne _ _ (by omega)).trans (va_up_ne _ _ (by omega)))).trans (by assumption) | exact (congrFun ((va_up_ne _ _ (by omega)).trans (va_up_ne _ _ (by omega))) _).trans (by assumption) | (rw [va_up_self, va_up_ne _ _ (by omega)]; assumption)) ?_
  refine tk_aload0 dX9_init_16 ?_
  refine tk_iload2 dX9_init_17 ?_
  refine tk_putI dX9_init_18 fX9_18 wX9_init_X9_2 rfl (by first | assumption | exact va_up_self _ _ _ | exact (va_up_ne _ _ (by omega)).trans (by assumption) | exact congrArg Prod.fst (va_up_self _ _ _) | exact (congrArg Prod.fst (va_up_ne _ _ (by omega))).trans (by assumption) | exact (congrFun (va_up_ne _ _ (by omega)) _).trans (by assumption) | exact (va_up_ne _ _ (by omega)).trans (va_up_self _ _ _) | exact (va_up_ne _ _ (by omega)).trans ((va_up_ne _ _ (by omega)).trans (by assumption)) | exact (congrArg Prod.fst ((va_up_ne _ _ (by omega)).trans (va_up_ne _ _ (by omega)))).trans (by assumption) | exact (congrFun ((va_up_ne _ _ (by omega)).trans (va_up_ne _ _ (by omega))) _).trans (by assumption) | (rw [va_up_self, va_up_ne _ _ (by omega)]; assumption)) ?_
  refine tk_aload0 dX9_init_21 ?_
  refine tk_iload3 dX9_init_22 ?_
  refine tk_putI dX9_init_23 fX9_21 wX9_init_X9_3 rfl (by first | assumption | exact va_up_self _ _ _ | exact (va_up_ne _ _ (by omega)).trans (by assumption) | exact congrArg Prod.fst (va_up_self _ _ _) | exact (congrArg Prod.fst (va_up_ne _ _ (by omega))).trans (by assumption) | exact (congrFun (va_up_ne _ _ (by omega)) _).trans (by assumption) | exact (va_up_ne _ _ (by omega)).trans (va_up_self _ _ _) | exact (va_up_ne _ _ (by omega)).trans ((va_up_ne _ _ (by omega)).trans (by assumption)) | exact (congrArg Prod.fst ((va_up_ne _ _ (by omega)).trans (va_up_ne _ _ (by omega)))).trans (by assumption) | exact (congrFun ((va_up_ne _ _ (by omega)).trans (va_up_ne _ _ (by omega))) _).trans (by assumption) | (rw [va_up_self, va_up_ne _ _ (by omega)]; assumption)) ?_
  refine tk_aload0 dX9_init_26 ?_
  refine tk_aload4 dX9_init_27 ?_
  refine tk_putP dX9_init_29 fX9_24 wX9_init_X9_4 rfl (by first | assumption | exact va_up_self _ _ _ | exact (va_up_ne _ _ (by omega)).trans (by assumption) | exact congrArg Prod.fst (va_up_self _ _ _) | exact (congrArg Prod.fst (va_up_ne _ _ (by omega))).trans (by assumption) | exact (congrFun (va_up_ne _ _ (by omega)) _).trans (by assumption) | exact (va_up_ne _ _ (by omega)).trans (va_up_self _ _ _) | exact (va_up_ne _ _ (by omega)).trans ((va_up_ne _ _ (by omega)).trans (by assumption)) | exact (congrArg Prod.fst ((va_up_ne _ _ (by omega)).trans (va_up_ne _ _ (by omega)))).trans (by assumption) | exact (congrFun ((va_up_ne _ _ (by omega)).trans (va_up_ne _ _ (by omega))) _).trans (by assumption) | (rw [va_up_self, va_up_ne _ _ (by omega)]; assumption)) ?_
  refine tk_aload0 dX9_init_32 ?_
  refine tk_aload5 dX9_init_33 ?_
  refine tk_putP dX9_init_35 fX9_28 wX9_init_X9_5 rfl (by first | assumption | exact va_up_self _ _ _ | exact (va_up_ne _ _ (by omega)).trans (by assumption) | exact congrArg Prod.fst (va_up_self _ _ _) | exact (congrArg Prod.fst (va_up_ne _ _ (by omega))).trans (by assumption) | exact (congrFun (va_up_ne _ _ (by omega)) _).trans (by assumption) | exact (va_up_ne _ _ (by omega)).trans (va_up_self _ _ _) | exact (va_up_ne _ _ (by omega)).trans ((va_up_ne _ _ (by omega)).trans (by assumption)) | exact (congrArg Prod.fst ((va_up_ne _ _ (by omega)).trans (va_up_ne _ _ (by omega)))).trans (by assumption) | exact (congrFun ((va_up_ne _ _ (by omega)).trans (va_up_ne _ _ (by omega))) _).trans (by assumption) | (rw [va_up_self, va_up_ne _ _ (by omega)]; assumption)) ?_
  refine tk_return dX9_init_38 rfl ?_
  refine ⟨rfl, ?_⟩
  simp only [bx_uu, va_up_self]
end CWLD
