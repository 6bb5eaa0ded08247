/-! ===== the class: sight, cells ===== -/
def sObj (T : Nat → Nat × Nat) (P : Nat → Nat → Option Nat) (z : Nat) : Prop := (T z).1 = 7 ∧ P z 3 = some (z + 1) ∧ P z 4 = some (z + 2) ∧ T (z + 1) = (20, 4) ∧ T (z + 2) = (21, 5)
/-- who can't be told apart, lessons being heard -/
def cTi (ce F : Nat → Int32) (W nf : Nat) (ta : Nat → Int32) : Nat → Nat → Nat → Prop := fun p w u => tieB (pB ce W) p w u ∧ ∀ f, f < nf → rMem (ta p) f = true → (faF F f w ↔ faF F f u)
def tauN (ta : Nat → Int32) : Prop := ∀ p, p < 4 → ∃ t, t < 16 ∧ ta p = nI t
theorem kut : ∀ t, t < 16 → ∀ f, f < 4 → (kushr (nI t) (nI f) &&& nI 1 = 0 ↔ rMem (nI t) f = false) := by decide +kernel
theorem rMem_0 : ∀ f, f < 4 → rMem (nI 0) f = false := by decide +kernel
theorem tie_lt {ce : Nat → Int32} {W p w u : Nat} (hW : W ≤ 64) (hw : w < W) : tieB (pB ce W) p w u ↔ u < W ∧ ce (64 * p + u) = ce (64 * p + w) := by
  unfold tieB
  exact tb_pB hW (by omega)
theorem rSF_T {F : Nat → Int32} {W f u : Nat} (hW : W ≤ 64) : tb (rSF F W f) u = true ↔ u < W ∧ faF F f u := by
  unfold rSF faF
  rw [tb_mkT hW, decide_eq_true_eq]
theorem cTi_rf {ce F : Nat → Int32} {W nf : Nat} {ta : Nat → Int32} {p w : Nat} (hW : W ≤ 64) (hw : w < W) : cTi ce F W nf ta p w w := ⟨(tie_lt hW hw).mpr ⟨hw, rfl⟩, fun _ _ _ => Iff.rfl⟩
theorem cTi_lt {ce F : Nat → Int32} {W nf : Nat} {ta : Nat → Int32} {p w u : Nat} (hW : W ≤ 64) (hw : w < W) (h : cTi ce F W nf ta p w u) : u < W := ((tie_lt hW hw).mp h.1).1
theorem cTi_eq {ce F : Nat → Int32} {W nf : Nat} {ta : Nat → Int32} {p w v : Nat} (hW : W ≤ 64) (hw : w < W) (h : cTi ce F W nf ta p w v) (u : Nat) : cTi ce F W nf ta p v u ↔ cTi ce F W nf ta p w u := by
  have hv := cTi_lt hW hw h
  have e := ((tie_lt hW hw).mp h.1).2
  unfold cTi
  rw [tie_lt hW hv, tie_lt hW hw, e]
  exact and_congr_right (fun _ => forall_congr' (fun f => forall_congr' (fun hf => forall_congr' (fun hm => by rw [h.2 f hf hm]))))
theorem sweep_step {E : Nat → Nat → Prop} {part left near cell : Int64} {N0 : Nat → Prop} (hE : ∀ v0 v, tb part v0 = true → E v0 v → ∀ u, E v u ↔ E v0 u) (hr : ∀ v, tb part v = true → E v v) (inv : ∀ u, tb near u = true ↔ N0 u ∨ ∃ v, tb part v = true ∧ ¬ tb left v = true ∧ E v u) (hl : ∀ v, tb left v = true → tb part v = true) {v0 : Nat} (h0 : tb left v0 = true) (hc : ∀ u, tb cell u = true ↔ E v0 u) : (∀ u, tb (near ||| cell) u = true ↔ N0 u ∨ ∃ v, tb part v = true ∧ ¬ tb (left &&& (cell ^^^ (-1))) v = true ∧ E v u) ∧ (∀ v, tb (left &&& (cell ^^^ (-1))) v = true → tb part v = true) ∧ cnt (left &&& (cell ^^^ (-1))) 64 < cnt left 64 := by
  refine ⟨fun u => ?_, fun v hv => hl v (tb_dif.mp hv).1, ?_⟩
  · rw [tb_orT, inv u, hc u]
    constructor
    · rintro ((h | ⟨v, h1, h2, h3⟩) | h)
      · exact Or.inl h
      · exact Or.inr ⟨v, h1, fun q => h2 (tb_dif.mp q).1, h3⟩
      · exact Or.inr ⟨v0, hl v0 h0, fun q => (tb_dif.mp q).2 ((hc v0).mpr (hr v0 (hl v0 h0))), h⟩
    · rintro (h | ⟨v, h1, h2, h3⟩)
      · exact Or.inl (Or.inl h)
      · by_cases q : tb left v = true
        · have hv : tb cell v = true := by
            apply Classical.byContradiction
            intro z
            exact h2 (tb_dif.mpr ⟨q, z⟩)
          exact Or.inr ((hE v0 v (hl v0 h0) ((hc v).mp hv) u).mp h3)
        · exact Or.inl (Or.inr ⟨v, h1, q, h3⟩)
  · refine cnt_lt (j := v0) (fun i hi => (tb_dif.mp hi).1) (tb_lt h0) ?_ h0
    cases e : tb (left &&& (cell ^^^ (-1))) v0 with
    | false => rfl
    | true => exact absurd ((hc v0).mpr (hr v0 (hl v0 h0))) (tb_dif.mp e).2
theorem sweep_0 {E : Nat → Nat → Prop} {part : Int64} {N0 : Nat → Prop} {near : Int64} (h : ∀ u, tb near u = true ↔ N0 u) : ∀ u, tb near u = true ↔ N0 u ∨ ∃ v, tb part v = true ∧ ¬ tb part v = true ∧ E v u := fun u => by
  rw [h u]
  exact ⟨Or.inl, fun q => q.elim id (fun ⟨v, a, b, c⟩ => absurd a b)⟩
theorem cnt_0 {x : Int64} (h : cnt x 64 = 0) : x = 0 := by
  apply Classical.byContradiction
  intro q
  obtain ⟨i, hi, ht⟩ := tb_nz.mp q
  have := cnt_lt (x := 0) (y := x) (fun j hj => by rw [tb_0] at hj; cases hj) hi (tb_0 i) ht
  omega
section SIGHT
variable {G : tkG} {n : Nat} {T : Nat → Nat × Nat} {I : Nat → Nat → Int32} {L : Nat → Nat → Int64} {P : Nat → Nat → Option Nat}
def vlQ (n : Nat) (T : Nat → Nat × Nat) (I : Nat → Nat → Int32) (L : Nat → Nat → Int64) (P : Nat → Nat → Option Nat) (A : Nat → Prop) : Option tkV → tkH → Prop := fun r h => ∃ x, r = some (vL x) ∧ h = (n, T, I, L, P) ∧ ∀ u, tb x u = true ↔ A u
theorem c_cellOf {z wa np nf W r p w t : Nat} {F ce : Nat → Int32} (hs : sObj T P z) (hpw : P z 0 = some wa) (hw : cWld n T I L P wa np nf W r F ce) (hW : W ≤ 64) (hnp : np ≤ 4) (hnf : nf ≤ 4) (hp : p < np) (hwW : w < W) (ht16 : t < 16) (ht : I (z + 1) p = nI t) : tkM G mX6_cellOf 0 0 0 [vR z, vI (nI p), vI (nI w)] (n, T, I, L, P) (vlQ n T I L P (cTi ce F W nf (I (z + 1)) p w)) := by
  obtain ⟨s1, s2, s3, s4, s5⟩ := hs
  obtain ⟨q1, q2, q3, q4, q5, q6, b, c, q7, q8, q9, q10, q11, q12, q13, q14⟩ := hw
  have hlt : p * W + w < np * W := by
    have : (p + 1) * W ≤ np * W := Nat.mul_le_mul_right W hp
    rw [Nat.succ_mul] at this
    omega
  have hle : np * W ≤ 4 * W := Nat.mul_le_mul_right W hnp
  have hcT : ∀ u, cTi ce F W nf (I (z + 1)) p w u ↔ tieB (pB ce W) p w u ∧ ∀ g, g < nf → rMem (nI t) g = true → (faF F g w ↔ faF F g u) := fun u => by unfold cTi; rw [ht]
  have done : ∀ x : Int64, (∀ u, tb x u = true ↔ cTi ce F W nf (I (z + 1)) p w u) → ∀ l, tkle [none, none, none, some (vL x), none, none, none, none, none] l → tkX G mX6_cellOf 0 0 0 101 l [] (n, T, I, L, P) (vlQ n T I L P (cTi ce F W nf (I (z + 1)) p w)) := by
    intro x hx l hl
    refine tk_wk hl ?_
    refine tk_lload3 dX6_cellOf_101 ?_
    refine tk_lreturn dX6_cellOf_102 rfl ?_
    exact ⟨x, rfl, rfl, hx⟩
  have loop : ∀ k f x, f + k = nf → (∀ u, tb x u = true ↔ tieB (pB ce W) p w u ∧ ∀ g, g < f → rMem (nI t) g = true → (faF F g w ↔ faF F g u)) → tkX G mX6_cellOf 0 0 0 31 [some (vR z), some (vI (nI p)), some (vI (nI w)), some (vL x), none, some (vI (nI t)), some (vI (nI f)), none, none] [] (n, T, I, L, P) (vlQ n T I L P (cTi ce F W nf (I (z + 1)) p w)) := by
    intro k
    induction k with
    | zero =>
      intro f x hf hi
      refine tk_iload6 dX6_cellOf_31 ?_
      refine tk_aload0 dX6_cellOf_33 ?_
      refine tk_getP dX6_cellOf_34 fX6_25 rfl (by first | assumption | exact va_up_self _ _ _ | exact (va_up_ne _ _ (by omega)).trans (by assumption) | exact congrArg Prod.fst (va_up_self _ _ _) | exact (congrArg Prod.fst (va_up_ne _ _ (by omega))).trans (by assumption) | exact (congrFun (va_up_ne _ _ (by omega)) _).trans (by assumption) | exact (va_up_ne _ _ (by omega)).trans (va_up_self _ _ _) | exact (va_up_ne _ _ (by omega)).trans ((va_up_ne _ _ (by omega)).trans (by assumption)) | exact (congrArg Prod.fst ((va_up_ne _ _ (by omega)).trans (va_up_ne _ _ (by omega)))).trans (by assumption) | exact (congrFun ((va_up_ne _ _ (by omega)).trans (va_up_ne _ _ (by omega))) _).trans (by assumption) | (rw [va_up_self, va_up_ne _ _ (by omega)]; assumption)) (by first | assumption | exact va_up_self _ _ _ | exact (va_up_ne _ _ (by omega)).trans (by assumption) | exact congrArg Prod.fst (va_up_self _ _ _) | exact (congrArg Prod.fst (va_up_ne _ _ (by omega))).trans (by assumption) | exact (congrFun (va_up_ne _ _ (by omega)) _).trans (by assumption) | exact (va_up_ne _ _ (by omega)).trans (va_up_self _ _ _) | exact (va_up_ne _ _ (by omega)).trans ((va_up_ne _ _ (by omega)).trans (by assumption)) | exact (congrArg Prod.fst ((va_up_ne _ _ (by omega)).trans (va_up_ne _ _ (by omega)))).trans (by assumption) | exact (congrFun ((va_up_ne _ _ (by omega)).trans (va_up_ne _ _ (by omega))) _).trans (by assumption) | (rw [va_up_self, va_up_ne _ _ (by omega)]; assumption)) ?_
      refine tk_getI dX6_cellOf_37 fX6_141 rfl (by first | assumption | exact va_up_self _ _ _ | exact (va_up_ne _ _ (by omega)).trans (by assumption) | exact congrArg Prod.fst (va_up_self _ _ _) | exact (congrArg Prod.fst (va_up_ne _ _ (by omega))).trans (by assumption) | exact (congrFun (va_up_ne _ _ (by omega)) _).trans (by assumption) | exact (va_up_ne _ _ (by omega)).trans (va_up_self _ _ _) | exact (va_up_ne _ _ (by omega)).trans ((va_up_ne _ _ (by omega)).trans (by assumption)) | exact (congrArg Prod.fst ((va_up_ne _ _ (by omega)).trans (va_up_ne _ _ (by omega)))).trans (by assumption) | exact (congrFun ((va_up_ne _ _ (by omega)).trans (va_up_ne _ _ (by omega))) _).trans (by assumption) | (rw [va_up_self, va_up_ne _ _ (by omega)]; assumption)) ?_
      rw [q4]
      first | refine tk_icmp_geN dX6_cellOf_40 (by omega) (by omega) (fun h40 => ?_) (fun h40 => ?_) | refine tk_jcmp_ge dX6_cellOf_40 (fun h40 => ?_) (fun h40 => ?_)
      · exact done x (fun u => by rw [hi u, hcT u, show f = nf by omega]) _ (by repeat' (first | exact trivial | refine ⟨Or.inl rfl, ?_⟩ | refine ⟨Or.inr rfl, ?_⟩))
      · exfalso; omega
    | succ k ih =>
      intro f x hf hi
      have hm := q13 f (by omega)
      have hk := kut t ht16 f (by omega)
      have hu : ∀ u, tb x u = true → u < W := fun u hu => ((tie_lt hW hwW).mp ((hi u).mp hu).1).1
      have nxt : ∀ y, (∀ u, tb y u = true ↔ tb x u = true ∧ (rMem (nI t) f = true → (faF F f w ↔ faF F f u))) → ∀ l, tkle [some (vR z), some (vI (nI p)), some (vI (nI w)), some (vL y), none, some (vI (nI t)), some (vI (nI f)), none, none] l → tkX G mX6_cellOf 0 0 0 95 l [] (n, T, I, L, P) (vlQ n T I L P (cTi ce F W nf (I (z + 1)) p w)) := by
        intro y hy l hl
        refine tk_wk hl ?_
        have hn : ∀ u, tb y u = true ↔ tieB (pB ce W) p w u ∧ ∀ g, g < f + 1 → rMem (nI t) g = true → (faF F g w ↔ faF F g u) := by
          intro u
          rw [hy u, hi u]
          constructor
          · rintro ⟨⟨a1, a2⟩, a3⟩
            refine ⟨a1, fun g hg => ?_⟩
            by_cases e : g = f
            · subst e; exact a3
            · exact a2 g (by omega)
          · rintro ⟨a1, a2⟩
            exact ⟨⟨a1, fun g hg => a2 g (by omega)⟩, a2 f (by omega)⟩
        first | refine tk_iinc6 dX6_cellOf_95 (kc_inc _) rfl ?_ | refine tk_iinc6 dX6_cellOf_95 rfl rfl ?_
        refine tk_goto dX6_cellOf_98 ?_
        exact tk_wk (by repeat' (first | exact trivial | refine ⟨Or.inl rfl, ?_⟩ | refine ⟨Or.inr rfl, ?_⟩)) (ih (f + 1) y (by omega) hn)
      refine tk_iload6 dX6_cellOf_31 ?_
      refine tk_aload0 dX6_cellOf_33 ?_
      refine tk_getP dX6_cellOf_34 fX6_25 rfl (by first | assumption | exact va_up_self _ _ _ | exact (va_up_ne _ _ (by omega)).trans (by assumption) | exact congrArg Prod.fst (va_up_self _ _ _) | exact (congrArg Prod.fst (va_up_ne _ _ (by omega))).trans (by assumption) | exact (congrFun (va_up_ne _ _ (by omega)) _).trans (by assumption) | exact (va_up_ne _ _ (by omega)).trans (va_up_self _ _ _) | exact (va_up_ne _ _ (by omega)).trans ((va_up_ne _ _ (by omega)).trans (by assumption)) | exact (congrArg Prod.fst ((va_up_ne _ _ (by omega)).trans (va_up_ne _ _ (by omega)))).trans (by assumption) | exact (congrFun ((va_up_ne _ _ (by omega)).trans (va_up_ne _ _ (by omega))) _).trans (by assumption) | (rw [va_up_self, va_up_ne _ _ (by omega)]; assumption)) (by first | assumption | exact va_up_self _ _ _ | exact (va_up_ne _ _ (by omega)).trans (by assumption) | exact congrArg Prod.fst (va_up_self _ _ _) | exact (congrArg Prod.fst (va_up_ne _ _ (by omega))).trans (by assumption) | exact (congrFun (va_up_ne _ _ (by omega)) _).trans (by assumption) | exact (va_up_ne _ _ (by omega)).trans (va_up_self _ _ _) | exact (va_up_ne _ _ (by omega)).trans ((va_up_ne _ _ (by omega)).trans (by assumption)) | exact (congrArg Prod.fst ((va_up_ne _ _ (by omega)).trans (va_up_ne _ _ (by omega)))).trans (by assumption) | exact (congrFun ((va_up_ne _ _ (by omega)).trans (va_up_ne _ _ (by omega))) _).trans (by assumption) | (rw [va_up_self, va_up_ne _ _ (by omega)]; assumption)) ?_
      refine tk_getI dX6_cellOf_37 fX6_141 rfl (by first | assumption | exact va_up_self _ _ _ | exact (va_up_ne _ _ (by omega)).trans (by assumption) | exact congrArg Prod.fst (va_up_self _ _ _) | exact (congrArg Prod.fst (va_up_ne _ _ (by omega))).trans (by assumption) | exact (congrFun (va_up_ne _ _ (by omega)) _).trans (by assumption) | exact (va_up_ne _ _ (by omega)).trans (va_up_self _ _ _) | exact (va_up_ne _ _ (by omega)).trans ((va_up_ne _ _ (by omega)).trans (by assumption)) | exact (congrArg Prod.fst ((va_up_ne _ _ (by omega)).trans (va_up_ne _ _ (by omega)))).trans (by assumption) | exact (congrFun ((va_up_ne _ _ (by omega)).trans (va_up_ne _ _ (by omega))) _).trans (by assumption) | (rw [va_up_self, va_up_ne _ _ (by omega)]; assumption)) ?_
      rw [q4]
      first | refine tk_icmp_geN dX6_cellOf_40 (by omega) (by omega) (fun h40 => ?_) (fun h40 => ?_) | refine tk_jcmp_ge dX6_cellOf_40 (fun h40 => ?_) (fun h40 => ?_)
      · first
          | (exfalso; omega)
          | (have t0 : t = 0 := (nI_eq (by omega) (by omega)).mp (h45.trans nI_0.symm)
             refine done x (fun u => ?_) _ (by repeat' (first | exact trivial | refine ⟨Or.inl rfl, ?_⟩ | refine ⟨Or.inr rfl, ?_⟩))
             rw [hi u, hcT u, t0]
             exact and_congr_right (fun _ => ⟨fun _ g hg q => by (rw [rMem_0 g (by omega)] at q; cases q), fun _ g hg q => by (rw [rMem_0 g (by omega)] at q; cases q)⟩))
      · refine tk_iload5 dX6_cellOf_43 ?_
        first | refine tk_jf_eqB dX6_cellOf_45 (fun h45 => ?_) (fun h45 => ?_) | refine tk_if_eq dX6_cellOf_45 (fun h45 => ?_) (fun h45 => ?_)
        · first
            | (exfalso; omega)
            | (have t0 : t = 0 := (nI_eq (by omega) (by omega)).mp (h45.trans nI_0.symm)
               refine done x (fun u => ?_) _ (by repeat' (first | exact trivial | refine ⟨Or.inl rfl, ?_⟩ | refine ⟨Or.inr rfl, ?_⟩))
               rw [hi u, hcT u, t0]
               exact and_congr_right (fun _ => ⟨fun _ g hg q => by (rw [rMem_0 g (by omega)] at q; cases q), fun _ g hg q => by (rw [rMem_0 g (by omega)] at q; cases q)⟩))
        · refine tk_iload5 dX6_cellOf_48 ?_
          refine tk_iload6 dX6_cellOf_50 ?_
          refine tk_iushr dX6_cellOf_52 ?_
          refine tk_iconst dX6_cellOf_53 kc_iconst_1 ?_
          refine tk_iand dX6_cellOf_54 ?_
          first | refine tk_jf_eqB dX6_cellOf_55 (fun h55 => ?_) (fun h55 => ?_) | refine tk_if_eq dX6_cellOf_55 (fun h55 => ?_) (fun h55 => ?_)
          · first
              | refine nxt x (fun u => ⟨fun h => ⟨h, fun q => by (rw [hk.mp h55] at q; cases q)⟩, fun h => h.1⟩) _ (by repeat' (first | exact trivial | refine ⟨Or.inl rfl, ?_⟩ | refine ⟨Or.inr rfl, ?_⟩))
              | (have hw0 : ¬ faF F f w := fun q => by (have := (rSF_T (F := F) (f := f) hW).mpr ⟨hwW, q⟩; rw [(tb_u0 _ (by omega)).mp h79] at this; cases this)
                 refine nxt _ (fun u => ?_) _ (by repeat' (first | exact trivial | refine ⟨Or.inl rfl, ?_⟩ | refine ⟨Or.inr rfl, ?_⟩))
                 rw [tb_dif]
                 refine and_congr_right (fun hx => ?_)
                 rw [rSF_T hW]
                 exact ⟨fun h _ => ⟨fun q => absurd q hw0, fun q => absurd ⟨hu u hx, q⟩ h⟩, fun h q => hw0 ((h (by cases e : rMem (nI t) f with | true => rfl | false => exact absurd (hk.mpr e) h55)).mpr q.2)⟩)
              | (have hw1 : faF F f w := ((rSF_T (F := F) (f := f) hW).mp (by cases e : tb (rSF F W f) w with | true => rfl | false => exact absurd ((tb_u0 _ (by omega)).mpr e) h79)).2
                 refine nxt _ (fun u => ?_) _ (by repeat' (first | exact trivial | refine ⟨Or.inl rfl, ?_⟩ | refine ⟨Or.inr rfl, ?_⟩))
                 rw [tb_andT]
                 refine and_congr_right (fun hx => ?_)
                 rw [rSF_T hW]
                 exact ⟨fun h _ => ⟨fun _ => h.2, fun _ => hw1⟩, fun h => ⟨hu u hx, (h (by cases e : rMem (nI t) f with | true => rfl | false => exact absurd (hk.mpr e) h55)).mp hw1⟩⟩)
          · refine tk_aload0 dX6_cellOf_58 ?_
            refine tk_getP dX6_cellOf_59 fX6_25 rfl (by first | assumption | exact va_up_self _ _ _ | exact (va_up_ne _ _ (by omega)).trans (by assumption) | exact congrArg Prod.fst (va_up_self _ _ _) | exact (congrArg Prod.fst (va_up_ne _ _ (by omega))).trans (by assumption) | exact (congrFun (va_up_ne _ _ (by omega)) _).trans (by assumption) | exact (va_up_ne _ _ (by omega)).trans (va_up_self _ _ _) | exact (va_up_ne _ _ (by omega)).trans ((va_up_ne _ _ (by omega)).trans (by assumption)) | exact (congrArg Prod.fst ((va_up_ne _ _ (by omega)).trans (va_up_ne _ _ (by omega)))).trans (by assumption) | exact (congrFun ((va_up_ne _ _ (by omega)).trans (va_up_ne _ _ (by omega))) _).trans (by assumption) | (rw [va_up_self, va_up_ne _ _ (by omega)]; assumption)) (by first | assumption | exact va_up_self _ _ _ | exact (va_up_ne _ _ (by omega)).trans (by assumption) | exact congrArg Prod.fst (va_up_self _ _ _) | exact (congrArg Prod.fst (va_up_ne _ _ (by omega))).trans (by assumption) | exact (congrFun (va_up_ne _ _ (by omega)) _).trans (by assumption) | exact (va_up_ne _ _ (by omega)).trans (va_up_self _ _ _) | exact (va_up_ne _ _ (by omega)).trans ((va_up_ne _ _ (by omega)).trans (by assumption)) | exact (congrArg Prod.fst ((va_up_ne _ _ (by omega)).trans (va_up_ne _ _ (by omega)))).trans (by assumption) | exact (congrFun ((va_up_ne _ _ (by omega)).trans (va_up_ne _ _ (by omega))) _).trans (by assumption) | (rw [va_up_self, va_up_ne _ _ (by omega)]; assumption)) ?_
            refine tk_getP dX6_cellOf_62 fX6_98 rfl (by first | assumption | exact va_up_self _ _ _ | exact (va_up_ne _ _ (by omega)).trans (by assumption) | exact congrArg Prod.fst (va_up_self _ _ _) | exact (congrArg Prod.fst (va_up_ne _ _ (by omega))).trans (by assumption) | exact (congrFun (va_up_ne _ _ (by omega)) _).trans (by assumption) | exact (va_up_ne _ _ (by omega)).trans (va_up_self _ _ _) | exact (va_up_ne _ _ (by omega)).trans ((va_up_ne _ _ (by omega)).trans (by assumption)) | exact (congrArg Prod.fst ((va_up_ne _ _ (by omega)).trans (va_up_ne _ _ (by omega)))).trans (by assumption) | exact (congrFun ((va_up_ne _ _ (by omega)).trans (va_up_ne _ _ (by omega))) _).trans (by assumption) | (rw [va_up_self, va_up_ne _ _ (by omega)]; assumption)) (by first | assumption | exact va_up_self _ _ _ | exact (va_up_ne _ _ (by omega)).trans (by assumption) | exact congrArg Prod.fst (va_up_self _ _ _) | exact (congrArg Prod.fst (va_up_ne _ _ (by omega))).trans (by assumption) | exact (congrFun (va_up_ne _ _ (by omega)) _).trans (by assumption) | exact (va_up_ne _ _ (by omega)).trans (va_up_self _ _ _) | exact (va_up_ne _ _ (by omega)).trans ((va_up_ne _ _ (by omega)).trans (by assumption)) | exact (congrArg Prod.fst ((va_up_ne _ _ (by omega)).trans (va_up_ne _ _ (by omega)))).trans (by assumption) | exact (congrFun ((va_up_ne _ _ (by omega)).trans (va_up_ne _ _ (by omega))) _).trans (by assumption) | (rw [va_up_self, va_up_ne _ _ (by omega)]; assumption)) ?_
            refine tk_iload6 dX6_cellOf_65 ?_
            refine tk_lald dX6_cellOf_67 (by first | assumption | exact va_up_self _ _ _ | exact (va_up_ne _ _ (by omega)).trans (by assumption) | exact congrArg Prod.fst (va_up_self _ _ _) | exact (congrArg Prod.fst (va_up_ne _ _ (by omega))).trans (by assumption) | exact (congrFun (va_up_ne _ _ (by omega)) _).trans (by assumption) | exact (va_up_ne _ _ (by omega)).trans (va_up_self _ _ _) | exact (va_up_ne _ _ (by omega)).trans ((va_up_ne _ _ (by omega)).trans (by assumption)) | exact (congrArg Prod.fst ((va_up_ne _ _ (by omega)).trans (va_up_ne _ _ (by omega)))).trans (by assumption) | exact (congrFun ((va_up_ne _ _ (by omega)).trans (va_up_ne _ _ (by omega))) _).trans (by assumption) | (rw [va_up_self, va_up_ne _ _ (by omega)]; assumption)) (by omega) (by omega) ?_
            rw [hm]
            refine tk_lstore7 dX6_cellOf_68 rfl ?_
            refine tk_lload3 dX6_cellOf_70 ?_
            refine tk_lload7 dX6_cellOf_71 ?_
            refine tk_iload2 dX6_cellOf_73 ?_
            refine tk_lushr dX6_cellOf_74 ?_
            refine tk_lconst dX6_cellOf_75 (v := 1) (by decide) ?_
            refine tk_land dX6_cellOf_76 ?_
            refine tk_lconst dX6_cellOf_77 (v := 0) (by decide) ?_
            refine tk_lcmp dX6_cellOf_78 ?_
            first | refine tk_jf_eqB dX6_cellOf_79 (fun h79 => ?_) (fun h79 => ?_) | refine tk_if_eq dX6_cellOf_79 (fun h79 => ?_) (fun h79 => ?_)
            · refine tk_lload7 dX6_cellOf_87 ?_
              refine tk_ldc2 dX6_cellOf_89 klX6_58 ?_
              refine tk_lxor dX6_cellOf_92 ?_
              refine tk_land dX6_cellOf_93 ?_
              refine tk_lstore3 dX6_cellOf_94 rfl ?_
              first
                | refine nxt x (fun u => ⟨fun h => ⟨h, fun q => by (rw [hk.mp h55] at q; cases q)⟩, fun h => h.1⟩) _ (by repeat' (first | exact trivial | refine ⟨Or.inl rfl, ?_⟩ | refine ⟨Or.inr rfl, ?_⟩))
                | (have hw0 : ¬ faF F f w := fun q => by (have := (rSF_T (F := F) (f := f) hW).mpr ⟨hwW, q⟩; rw [(tb_u0 _ (by omega)).mp h79] at this; cases this)
                   refine nxt _ (fun u => ?_) _ (by repeat' (first | exact trivial | refine ⟨Or.inl rfl, ?_⟩ | refine ⟨Or.inr rfl, ?_⟩))
                   rw [tb_dif]
                   refine and_congr_right (fun hx => ?_)
                   rw [rSF_T hW]
                   exact ⟨fun h _ => ⟨fun q => absurd q hw0, fun q => absurd ⟨hu u hx, q⟩ h⟩, fun h q => hw0 ((h (by cases e : rMem (nI t) f with | true => rfl | false => exact absurd (hk.mpr e) h55)).mpr q.2)⟩)
                | (have hw1 : faF F f w := ((rSF_T (F := F) (f := f) hW).mp (by cases e : tb (rSF F W f) w with | true => rfl | false => exact absurd ((tb_u0 _ (by omega)).mpr e) h79)).2
                   refine nxt _ (fun u => ?_) _ (by repeat' (first | exact trivial | refine ⟨Or.inl rfl, ?_⟩ | refine ⟨Or.inr rfl, ?_⟩))
                   rw [tb_andT]
                   refine and_congr_right (fun hx => ?_)
                   rw [rSF_T hW]
                   exact ⟨fun h _ => ⟨fun _ => h.2, fun _ => hw1⟩, fun h => ⟨hu u hx, (h (by cases e : rMem (nI t) f with | true => rfl | false => exact absurd (hk.mpr e) h55)).mp hw1⟩⟩)
            · refine tk_lload7 dX6_cellOf_82 ?_
              refine tk_goto dX6_cellOf_84 ?_
              refine tk_land dX6_cellOf_93 ?_
              refine tk_lstore3 dX6_cellOf_94 rfl ?_
              first
                | refine nxt x (fun u => ⟨fun h => ⟨h, fun q => by (rw [hk.mp h55] at q; cases q)⟩, fun h => h.1⟩) _ (by repeat' (first | exact trivial | refine ⟨Or.inl rfl, ?_⟩ | refine ⟨Or.inr rfl, ?_⟩))
                | (have hw0 : ¬ faF F f w := fun q => by (have := (rSF_T (F := F) (f := f) hW).mpr ⟨hwW, q⟩; rw [(tb_u0 _ (by omega)).mp h79] at this; cases this)
                   refine nxt _ (fun u => ?_) _ (by repeat' (first | exact trivial | refine ⟨Or.inl rfl, ?_⟩ | refine ⟨Or.inr rfl, ?_⟩))
                   rw [tb_dif]
                   refine and_congr_right (fun hx => ?_)
                   rw [rSF_T hW]
                   exact ⟨fun h _ => ⟨fun q => absurd q hw0, fun q => absurd ⟨hu u hx, q⟩ h⟩, fun h q => hw0 ((h (by cases e : rMem (nI t) f with | true => rfl | false => exact absurd (hk.mpr e) h55)).mpr q.2)⟩)
                | (have hw1 : faF F f w := ((rSF_T (F := F) (f := f) hW).mp (by cases e : tb (rSF F W f) w with | true => rfl | false => exact absurd ((tb_u0 _ (by omega)).mpr e) h79)).2
                   refine nxt _ (fun u => ?_) _ (by repeat' (first | exact trivial | refine ⟨Or.inl rfl, ?_⟩ | refine ⟨Or.inr rfl, ?_⟩))
                   rw [tb_andT]
                   refine and_congr_right (fun hx => ?_)
                   rw [rSF_T hW]
                   exact ⟨fun h _ => ⟨fun _ => h.2, fun _ => hw1⟩, fun h => ⟨hu u hx, (h (by cases e : rMem (nI t) f with | true => rfl | false => exact absurd (hk.mpr e) h55)).mp hw1⟩⟩)
  refine tkM.of (ls := [some _, some _, some _, none, none, none, none, none, none]) (by decide +kernel) (by decide +kernel) (Nat.le_of_ble_eq_true rfl) rfl ?_
  refine tk_aload0 dX6_cellOf_0 ?_
  refine tk_getP dX6_cellOf_1 fX6_25 rfl (by first | assumption | exact va_up_self _ _ _ | exact (va_up_ne _ _ (by omega)).trans (by assumption) | exact congrArg Prod.fst (va_up_self _ _ _) | exact (congrArg Prod.fst (va_up_ne _ _ (by omega))).trans (by assumption) | exact (congrFun (va_up_ne _ _ (by omega)) _).trans (by assumption) | exact (va_up_ne _ _ (by omega)).trans (va_up_self _ _ _) | exact (va_up_ne _ _ (by omega)).trans ((va_up_ne _ _ (by omega)).trans (by assumption)) | exact (congrArg Prod.fst ((va_up_ne _ _ (by omega)).trans (va_up_ne _ _ (by omega)))).trans (by assumption) | exact (congrFun ((va_up_ne _ _ (by omega)).trans (va_up_ne _ _ (by omega))) _).trans (by assumption) | (rw [va_up_self, va_up_ne _ _ (by omega)]; assumption)) (by first | assumption | exact va_up_self _ _ _ | exact (va_up_ne _ _ (by omega)).trans (by assumption) | exact congrArg Prod.fst (va_up_self _ _ _) | exact (congrArg Prod.fst (va_up_ne _ _ (by omega))).trans (by assumption) | exact (congrFun (va_up_ne _ _ (by omega)) _).trans (by assumption) | exact (va_up_ne _ _ (by omega)).trans (va_up_self _ _ _) | exact (va_up_ne _ _ (by omega)).trans ((va_up_ne _ _ (by omega)).trans (by assumption)) | exact (congrArg Prod.fst ((va_up_ne _ _ (by omega)).trans (va_up_ne _ _ (by omega)))).trans (by assumption) | exact (congrFun ((va_up_ne _ _ (by omega)).trans (va_up_ne _ _ (by omega))) _).trans (by assumption) | (rw [va_up_self, va_up_ne _ _ (by omega)]; assumption)) ?_
  refine tk_getP dX6_cellOf_4 fX6_137 rfl (by first | assumption | exact va_up_self _ _ _ | exact (va_up_ne _ _ (by omega)).trans (by assumption) | exact congrArg Prod.fst (va_up_self _ _ _) | exact (congrArg Prod.fst (va_up_ne _ _ (by omega))).trans (by assumption) | exact (congrFun (va_up_ne _ _ (by omega)) _).trans (by assumption) | exact (va_up_ne _ _ (by omega)).trans (va_up_self _ _ _) | exact (va_up_ne _ _ (by omega)).trans ((va_up_ne _ _ (by omega)).trans (by assumption)) | exact (congrArg Prod.fst ((va_up_ne _ _ (by omega)).trans (va_up_ne _ _ (by omega)))).trans (by assumption) | exact (congrFun ((va_up_ne _ _ (by omega)).trans (va_up_ne _ _ (by omega))) _).trans (by assumption) | (rw [va_up_self, va_up_ne _ _ (by omega)]; assumption)) (by first | assumption | exact va_up_self _ _ _ | exact (va_up_ne _ _ (by omega)).trans (by assumption) | exact congrArg Prod.fst (va_up_self _ _ _) | exact (congrArg Prod.fst (va_up_ne _ _ (by omega))).trans (by assumption) | exact (congrFun (va_up_ne _ _ (by omega)) _).trans (by assumption) | exact (va_up_ne _ _ (by omega)).trans (va_up_self _ _ _) | exact (va_up_ne _ _ (by omega)).trans ((va_up_ne _ _ (by omega)).trans (by assumption)) | exact (congrArg Prod.fst ((va_up_ne _ _ (by omega)).trans (va_up_ne _ _ (by omega)))).trans (by assumption) | exact (congrFun ((va_up_ne _ _ (by omega)).trans (va_up_ne _ _ (by omega))) _).trans (by assumption) | (rw [va_up_self, va_up_ne _ _ (by omega)]; assumption)) ?_
  refine tk_iload1 dX6_cellOf_7 ?_
  refine tk_aload0 dX6_cellOf_8 ?_
  refine tk_getP dX6_cellOf_9 fX6_25 rfl (by first | assumption | exact va_up_self _ _ _ | exact (va_up_ne _ _ (by omega)).trans (by assumption) | exact congrArg Prod.fst (va_up_self _ _ _) | exact (congrArg Prod.fst (va_up_ne _ _ (by omega))).trans (by assumption) | exact (congrFun (va_up_ne _ _ (by omega)) _).trans (by assumption) | exact (va_up_ne _ _ (by omega)).trans (va_up_self _ _ _) | exact (va_up_ne _ _ (by omega)).trans ((va_up_ne _ _ (by omega)).trans (by assumption)) | exact (congrArg Prod.fst ((va_up_ne _ _ (by omega)).trans (va_up_ne _ _ (by omega)))).trans (by assumption) | exact (congrFun ((va_up_ne _ _ (by omega)).trans (va_up_ne _ _ (by omega))) _).trans (by assumption) | (rw [va_up_self, va_up_ne _ _ (by omega)]; assumption)) (by first | assumption | exact va_up_self _ _ _ | exact (va_up_ne _ _ (by omega)).trans (by assumption) | exact congrArg Prod.fst (va_up_self _ _ _) | exact (congrArg Prod.fst (va_up_ne _ _ (by omega))).trans (by assumption) | exact (congrFun (va_up_ne _ _ (by omega)) _).trans (by assumption) | exact (va_up_ne _ _ (by omega)).trans (va_up_self _ _ _) | exact (va_up_ne _ _ (by omega)).trans ((va_up_ne _ _ (by omega)).trans (by assumption)) | exact (congrArg Prod.fst ((va_up_ne _ _ (by omega)).trans (va_up_ne _ _ (by omega)))).trans (by assumption) | exact (congrFun ((va_up_ne _ _ (by omega)).trans (va_up_ne _ _ (by omega))) _).trans (by assumption) | (rw [va_up_self, va_up_ne _ _ (by omega)]; assumption)) ?_
  refine tk_getI dX6_cellOf_12 fX6_140 rfl (by first | assumption | exact va_up_self _ _ _ | exact (va_up_ne _ _ (by omega)).trans (by assumption) | exact congrArg Prod.fst (va_up_self _ _ _) | exact (congrArg Prod.fst (va_up_ne _ _ (by omega))).trans (by assumption) | exact (congrFun (va_up_ne _ _ (by omega)) _).trans (by assumption) | exact (va_up_ne _ _ (by omega)).trans (va_up_self _ _ _) | exact (va_up_ne _ _ (by omega)).trans ((va_up_ne _ _ (by omega)).trans (by assumption)) | exact (congrArg Prod.fst ((va_up_ne _ _ (by omega)).trans (va_up_ne _ _ (by omega)))).trans (by assumption) | exact (congrFun ((va_up_ne _ _ (by omega)).trans (va_up_ne _ _ (by omega))) _).trans (by assumption) | (rw [va_up_self, va_up_ne _ _ (by omega)]; assumption)) ?_
  rw [q5]
  first | refine tk_imulN dX6_cellOf_15 ?_ | refine tk_imul dX6_cellOf_15 ?_
  refine tk_iload2 dX6_cellOf_16 ?_
  first | refine tk_iaddN dX6_cellOf_17 ?_ | refine tk_iadd dX6_cellOf_17 ?_
  refine tk_lald dX6_cellOf_18 (by first | assumption | exact va_up_self _ _ _ | exact (va_up_ne _ _ (by omega)).trans (by assumption) | exact congrArg Prod.fst (va_up_self _ _ _) | exact (congrArg Prod.fst (va_up_ne _ _ (by omega))).trans (by assumption) | exact (congrFun (va_up_ne _ _ (by omega)) _).trans (by assumption) | exact (va_up_ne _ _ (by omega)).trans (va_up_self _ _ _) | exact (va_up_ne _ _ (by omega)).trans ((va_up_ne _ _ (by omega)).trans (by assumption)) | exact (congrArg Prod.fst ((va_up_ne _ _ (by omega)).trans (va_up_ne _ _ (by omega)))).trans (by assumption) | exact (congrFun ((va_up_ne _ _ (by omega)).trans (va_up_ne _ _ (by omega))) _).trans (by assumption) | (rw [va_up_self, va_up_ne _ _ (by omega)]; assumption)) (by omega) (by omega) ?_
  rw [q14 p hp w hwW]
  refine tk_lstore3 dX6_cellOf_19 rfl ?_
  refine tk_aload0 dX6_cellOf_20 ?_
  refine tk_getP dX6_cellOf_21 fX6_9 rfl (by first | assumption | exact va_up_self _ _ _ | exact (va_up_ne _ _ (by omega)).trans (by assumption) | exact congrArg Prod.fst (va_up_self _ _ _) | exact (congrArg Prod.fst (va_up_ne _ _ (by omega))).trans (by assumption) | exact (congrFun (va_up_ne _ _ (by omega)) _).trans (by assumption) | exact (va_up_ne _ _ (by omega)).trans (va_up_self _ _ _) | exact (va_up_ne _ _ (by omega)).trans ((va_up_ne _ _ (by omega)).trans (by assumption)) | exact (congrArg Prod.fst ((va_up_ne _ _ (by omega)).trans (va_up_ne _ _ (by omega)))).trans (by assumption) | exact (congrFun ((va_up_ne _ _ (by omega)).trans (va_up_ne _ _ (by omega))) _).trans (by assumption) | (rw [va_up_self, va_up_ne _ _ (by omega)]; assumption)) (by first | assumption | exact va_up_self _ _ _ | exact (va_up_ne _ _ (by omega)).trans (by assumption) | exact congrArg Prod.fst (va_up_self _ _ _) | exact (congrArg Prod.fst (va_up_ne _ _ (by omega))).trans (by assumption) | exact (congrFun (va_up_ne _ _ (by omega)) _).trans (by assumption) | exact (va_up_ne _ _ (by omega)).trans (va_up_self _ _ _) | exact (va_up_ne _ _ (by omega)).trans ((va_up_ne _ _ (by omega)).trans (by assumption)) | exact (congrArg Prod.fst ((va_up_ne _ _ (by omega)).trans (va_up_ne _ _ (by omega)))).trans (by assumption) | exact (congrFun ((va_up_ne _ _ (by omega)).trans (va_up_ne _ _ (by omega))) _).trans (by assumption) | (rw [va_up_self, va_up_ne _ _ (by omega)]; assumption)) ?_
  refine tk_iload1 dX6_cellOf_24 ?_
  refine tk_iald dX6_cellOf_25 (by first | assumption | exact va_up_self _ _ _ | exact (va_up_ne _ _ (by omega)).trans (by assumption) | exact congrArg Prod.fst (va_up_self _ _ _) | exact (congrArg Prod.fst (va_up_ne _ _ (by omega))).trans (by assumption) | exact (congrFun (va_up_ne _ _ (by omega)) _).trans (by assumption) | exact (va_up_ne _ _ (by omega)).trans (va_up_self _ _ _) | exact (va_up_ne _ _ (by omega)).trans ((va_up_ne _ _ (by omega)).trans (by assumption)) | exact (congrArg Prod.fst ((va_up_ne _ _ (by omega)).trans (va_up_ne _ _ (by omega)))).trans (by assumption) | exact (congrFun ((va_up_ne _ _ (by omega)).trans (va_up_ne _ _ (by omega))) _).trans (by assumption) | (rw [va_up_self, va_up_ne _ _ (by omega)]; assumption)) (by omega) (by omega) ?_
  rw [ht]
  refine tk_istore5 dX6_cellOf_26 rfl ?_
  refine tk_iconst dX6_cellOf_28 kc_iconst_0 ?_
  refine tk_istore6 dX6_cellOf_29 rfl ?_
  exact tk_wk (by repeat' (first | exact trivial | refine ⟨Or.inl rfl, ?_⟩ | refine ⟨Or.inr rfl, ?_⟩)) (loop nf 0 _ (by omega) (fun u => ⟨fun h => ⟨h, fun g hg => by omega⟩, fun h => h.1⟩))
end SIGHT
