/-! ===== the reference: lessons ===== -/
def KP (dp : Nat) (I I' : Nat → Nat → Int32) : Prop := rSm I' I ∧ I' 40 31 = I 40 31 ∧ I' 67 = I 67 ∧ I' 68 = I 68 ∧ I' 69 = I 69 ∧ ∀ j, j < dp → I' 81 j = I 81 j ∧ I' 82 j = I 82 j ∧ I' 85 j = I 85 j ∧ (∀ k, k < 64 → I' 83 (64 * j + k) = I 83 (64 * j + k)) ∧ ∀ k, k < 256 → I' 84 (256 * j + k) = I 84 (256 * j + k)
theorem KP.rf {dp : Nat} {I : Nat → Nat → Int32} : KP dp I I := ⟨rSm.rf, rfl, rfl, rfl, rfl, fun _ _ => ⟨rfl, rfl, rfl, fun _ _ => rfl, fun _ _ => rfl⟩⟩
theorem KP.tr {dp : Nat} {I J K : Nat → Nat → Int32} (h : KP dp I J) (g : KP dp J K) : KP dp I K := by
  obtain ⟨h1, h2, h3, h4, h5, h6⟩ := h
  obtain ⟨g1, g2, g3, g4, g5, g6⟩ := g
  refine ⟨g1.tr h1, g2.trans h2, g3.trans h3, g4.trans h4, g5.trans h5, fun j hj => ?_⟩
  obtain ⟨a1, a2, a3, a4, a5⟩ := h6 j hj
  obtain ⟨b1, b2, b3, b4, b5⟩ := g6 j hj
  exact ⟨b1.trans a1, b2.trans a2, b3.trans a3, fun k hk => (b4 k hk).trans (a4 k hk), fun k hk => (b5 k hk).trans (a5 k hk)⟩
theorem KP.le {dp dp' : Nat} {I J : Nat → Nat → Int32} (h : KP dp I J) (q : dp' ≤ dp) : KP dp' I J := ⟨h.1, h.2.1, h.2.2.1, h.2.2.2.1, h.2.2.2.2.1, fun j hj => h.2.2.2.2.2 j (by omega)⟩
theorem KP_scr {dp : Nat} {I J : Nat → Nat → Int32} (h : ∀ a, ¬ a = 40 → ¬ a = 64 → ¬ a = 65 → ¬ (70 ≤ a ∧ a ≤ 80) → J a = I a) (h0 : J 40 20 = I 40 20) (h1 : J 40 24 = I 40 24) (h2 : J 40 31 = I 40 31) : KP dp I J := by
  refine ⟨⟨fun a ha => h a (by omega) (by omega) (by omega) (by omega), h0, h1⟩, h2, h 67 (by omega) (by omega) (by omega) (by omega), h 68 (by omega) (by omega) (by omega) (by omega), h 69 (by omega) (by omega) (by omega) (by omega), fun j hj => ?_⟩
  rw [h 81 (by omega) (by omega) (by omega) (by omega), h 82 (by omega) (by omega) (by omega) (by omega), h 83 (by omega) (by omega) (by omega) (by omega), h 84 (by omega) (by omega) (by omega) (by omega), h 85 (by omega) (by omega) (by omega) (by omega)]
  exact ⟨rfl, rfl, rfl, fun _ _ => rfl, fun _ _ => rfl⟩
theorem KP_mk {dp : Nat} {I : Nat → Nat → Int32} {M : Int64} {r w : Nat} {g : Nat → Int32} : KP dp I (mkI I M r w g) := by
  unfold mkI
  refine KP_scr (fun a h1 h2 h3 h4 => ?_) ?_ ?_ ?_
  · rw [va_up_ne _ _ (by omega), va_up_ne _ _ (by omega), va_up_ne _ _ (by omega), va_up_ne _ _ (by omega)]
  · simp only [va_up_self, bx_uu, tk_une, tk_usrt, not_false_eq_true, Nat.reduceEqDiff, Nat.reduceLT, Nat.reduceAdd, Nat.reduceMul, Nat.reduceLeDiff, reduceCtorEq]
  · simp only [va_up_self, bx_uu, tk_une, tk_usrt, not_false_eq_true, Nat.reduceEqDiff, Nat.reduceLT, Nat.reduceAdd, Nat.reduceMul, Nat.reduceLeDiff, reduceCtorEq]
  · simp only [va_up_self, bx_uu, tk_une, tk_usrt, not_false_eq_true, Nat.reduceEqDiff, Nat.reduceLT, Nat.reduceAdd, Nat.reduceMul, Nat.reduceLeDiff, reduceCtorEq]
theorem KP_lm {dp : Nat} {I : Nat → Nat → Int32} {N np : Nat} : KP dp I (lmI I N np) := by
  unfold lmI
  refine KP_scr (fun a h1 h2 h3 h4 => ?_) ?_ ?_ ?_
  · rw [va_up_ne _ _ (by omega), va_up_ne _ _ (by omega), va_up_ne _ _ (by omega)]
  · simp only [va_up_self, bx_uu, tk_une, tk_usrt, not_false_eq_true, Nat.reduceEqDiff, Nat.reduceLT, Nat.reduceAdd, Nat.reduceMul, Nat.reduceLeDiff, reduceCtorEq]
  · simp only [va_up_self, bx_uu, tk_une, tk_usrt, not_false_eq_true, Nat.reduceEqDiff, Nat.reduceLT, Nat.reduceAdd, Nat.reduceMul, Nat.reduceLeDiff, reduceCtorEq]
  · simp only [va_up_self, bx_uu, tk_une, tk_usrt, not_false_eq_true, Nat.reduceEqDiff, Nat.reduceLT, Nat.reduceAdd, Nat.reduceMul, Nat.reduceLeDiff, reduceCtorEq]
theorem KP_lb {dp : Nat} {I : Nat → Nat → Int32} {d : Nat} : KP dp I (lbI I d) := by
  unfold lbI
  refine KP_scr (fun a h1 h2 h3 h4 => ?_) ?_ ?_ ?_
  · rw [va_up_ne _ _ (by omega), va_up_ne _ _ (by omega), va_up_ne _ _ (by omega)]
  · simp only [va_up_self, bx_uu, tk_une, tk_usrt, not_false_eq_true, Nat.reduceEqDiff, Nat.reduceLT, Nat.reduceAdd, Nat.reduceMul, Nat.reduceLeDiff, reduceCtorEq]
  · simp only [va_up_self, bx_uu, tk_une, tk_usrt, not_false_eq_true, Nat.reduceEqDiff, Nat.reduceLT, Nat.reduceAdd, Nat.reduceMul, Nat.reduceLeDiff, reduceCtorEq]
  · simp only [va_up_self, bx_uu, tk_une, tk_usrt, not_false_eq_true, Nat.reduceEqDiff, Nat.reduceLT, Nat.reduceAdd, Nat.reduceMul, Nat.reduceLeDiff, reduceCtorEq]
theorem KP_ls {dp : Nat} {I : Nat → Nat → Int32} {x : Int32} : KP dp I (va_up I 85 (va_up (I 85) dp x)) := by
  refine ⟨rSm_up rSm.rf (by omega), by simp only [va_up_self, bx_uu, tk_une, tk_usrt, not_false_eq_true, Nat.reduceEqDiff, Nat.reduceLT, Nat.reduceAdd, Nat.reduceMul, Nat.reduceLeDiff, reduceCtorEq], by simp only [va_up_self, bx_uu, tk_une, tk_usrt, not_false_eq_true, Nat.reduceEqDiff, Nat.reduceLT, Nat.reduceAdd, Nat.reduceMul, Nat.reduceLeDiff, reduceCtorEq], by simp only [va_up_self, bx_uu, tk_une, tk_usrt, not_false_eq_true, Nat.reduceEqDiff, Nat.reduceLT, Nat.reduceAdd, Nat.reduceMul, Nat.reduceLeDiff, reduceCtorEq], by simp only [va_up_self, bx_uu, tk_une, tk_usrt, not_false_eq_true, Nat.reduceEqDiff, Nat.reduceLT, Nat.reduceAdd, Nat.reduceMul, Nat.reduceLeDiff, reduceCtorEq], fun j hj => ?_⟩
  simp only [va_up_self, bx_uu, tk_une, tk_usrt, not_false_eq_true, Nat.reduceEqDiff, Nat.reduceLT, Nat.reduceAdd, Nat.reduceMul, Nat.reduceLeDiff, reduceCtorEq]
  exact ⟨trivial, trivial, va_up_ne _ _ (by omega), fun _ _ => trivial, fun _ _ => trivial⟩
theorem KP_lk {dp : Nat} {I : Nat → Nat → Int32} : KP dp I (lkI I dp) := by
  unfold lkI
  refine ⟨rSm_up (rSm_up (rSm_up (rSm_up rSm.rf (by omega)) (by omega)) (by omega)) (by omega), by simp only [va_up_self, bx_uu, tk_une, tk_usrt, not_false_eq_true, Nat.reduceEqDiff, Nat.reduceLT, Nat.reduceAdd, Nat.reduceMul, Nat.reduceLeDiff, reduceCtorEq], by simp only [va_up_self, bx_uu, tk_une, tk_usrt, not_false_eq_true, Nat.reduceEqDiff, Nat.reduceLT, Nat.reduceAdd, Nat.reduceMul, Nat.reduceLeDiff, reduceCtorEq], by simp only [va_up_self, bx_uu, tk_une, tk_usrt, not_false_eq_true, Nat.reduceEqDiff, Nat.reduceLT, Nat.reduceAdd, Nat.reduceMul, Nat.reduceLeDiff, reduceCtorEq], by simp only [va_up_self, bx_uu, tk_une, tk_usrt, not_false_eq_true, Nat.reduceEqDiff, Nat.reduceLT, Nat.reduceAdd, Nat.reduceMul, Nat.reduceLeDiff, reduceCtorEq], fun j hj => ?_⟩
  simp only [va_up_self, bx_uu, tk_une, tk_usrt, not_false_eq_true, Nat.reduceEqDiff, Nat.reduceLT, Nat.reduceAdd, Nat.reduceMul, Nat.reduceLeDiff, reduceCtorEq]
  refine ⟨va_up_ne _ _ (by omega), va_up_ne _ _ (by omega), trivial, fun k hk => ?_, fun k hk => ?_⟩
  · unfold tkco; rw [if_neg (by omega)]
  · unfold tkco; rw [if_neg (by omega)]
/-- the view that lies kept at a depth -/
def DKV (dp : Nat) (I : Nat → Nat → Int32) (W r' : Nat) (f4 f5 : Nat → Int32) : Prop := I 81 dp = nI W ∧ I 82 dp = nI r' ∧ (∀ k, k < 64 → I 83 (64 * dp + k) = f4 k) ∧ ∀ k, k < 256 → I 84 (256 * dp + k) = f5 k
theorem DKV.kp {dp : Nat} {I J : Nat → Nat → Int32} {W r' : Nat} {f4 f5 : Nat → Int32} (h : DKV dp I W r' f4 f5) (g : KP (dp + 1) I J) : DKV dp J W r' f4 f5 := by
  obtain ⟨a1, a2, a3, a4, a5⟩ := g.2.2.2.2.2 dp (by omega)
  exact ⟨a1.trans h.1, a2.trans h.2.1, fun k hk => (a4 k hk).trans (h.2.2.1 k hk), fun k hk => (a5 k hk).trans (h.2.2.2 k hk)⟩
theorem DKV_lk {dp : Nat} {I : Nat → Nat → Int32} {W r' : Nat} (h1 : I 40 26 = nI W) (h2 : I 40 27 = nI r') : DKV dp (lkI I dp) W r' (I 64) (I 65) := by
  unfold lkI DKV
  simp only [va_up_self, bx_uu, tk_une, tk_usrt, not_false_eq_true, Nat.reduceEqDiff, Nat.reduceLT, Nat.reduceAdd, Nat.reduceMul, Nat.reduceLeDiff, reduceCtorEq]
  refine ⟨h1, h2, fun k hk => ?_, fun k hk => ?_⟩
  · unfold tkco; rw [if_pos (by omega)]; congr 1; omega
  · unfold tkco; rw [if_pos (by omega)]; congr 1; omega
/-- what stays over all lessons -/
def LCT (I : Nat → Nat → Int32) (np nf cn : Nat) (cl : Nat → Nat) (s l : Nat) (gr cs row st : Nat → Int32) : Prop := I 41 0 = nI np ∧ np ≤ 4 ∧ I 41 1 = nI nf ∧ nf ≤ 4 ∧ I 40 31 = nI cn ∧ cn ≤ 5 ∧ (∀ c, c < cn → I 68 c = nI (cl c) ∧ 1 ≤ cl c ∧ cl c ≤ 14 ∧ WF np nf false (fun i => cs (14 * c + i)) 14 (cl c - 1)) ∧ s < 6 ∧ I 48 s = nI l ∧ 1 ≤ l ∧ l ≤ 14 ∧ WF np nf true row 14 (l - 1) ∧ I 69 = gr ∧ I 67 = cs ∧ (fun i => I 47 (14 * s + i)) = row ∧ I 44 = st
theorem LCT.kp {dp : Nat} {I J : Nat → Nat → Int32} {np nf cn : Nat} {cl : Nat → Nat} {s l : Nat} {gr cs row st : Nat → Int32} (h : LCT I np nf cn cl s l gr cs row st) (g : KP dp I J) : LCT J np nf cn cl s l gr cs row st := by
  obtain ⟨g1, g2, g3, g4, g5, -⟩ := g
  unfold LCT
  rw [g1.1 41 (by omega), g1.1 48 (by omega), g1.1 47 (by omega), g1.1 44 (by omega), g2, g3, g4, g5]
  exact h
theorem LCT.vh {I : Nat → Nat → Int32} {np nf cn W : Nat} {cl : Nat → Nat} {s l : Nat} {gr cs row st : Nat → Int32} (h : LCT I np nf cn cl s l gr cs row st) (h1 : I 40 26 = nI W) (h2 : W ≤ 64) : VH I np nf W cn cl := by
  obtain ⟨t1, t2, t3, t4, t5, t6, t7, t8, t9, t10, t11, t12, t13, t14, t15, t16⟩ := h
  refine ⟨t1, t2, h1, h2, t5, t6, fun c hc => ?_⟩
  rw [t14]
  exact t7 c hc
theorem rFm_some {c : Nat → Bool} : ∀ (k m a : Nat), rFm c k m = some a → m ≤ a ∧ a < m + k ∧ c a = true ∧ ∀ b, m ≤ b → b < a → c b = false := by
  intro k
  induction k with
  | zero => intro m a h; cases h
  | succ k ih =>
    intro m a h
    rw [rFm] at h
    split at h
    · rename_i hm
      obtain rfl := Option.some.inj h
      exact ⟨Nat.le_refl _, by omega, hm, fun b h1 h2 => by omega⟩
    · rename_i hm
      obtain ⟨h1, h2, h3, h4⟩ := ih (m + 1) a h
      refine ⟨by omega, by omega, h3, fun b b1 b2 => ?_⟩
      by_cases e : b = m
      · subst e; cases e2 : c b with
        | false => rfl
        | true => exact absurd e2 hm
      · exact h4 b (by omega) b2
theorem rFm_none {c : Nat → Bool} : ∀ (k m : Nat), rFm c k m = none → ∀ b, m ≤ b → b < m + k → c b = false := by
  intro k
  induction k with
  | zero => intro m _ b h1 h2; omega
  | succ k ih =>
    intro m h b h1 h2
    rw [rFm] at h
    split at h
    · cases h
    · rename_i hm
      by_cases e : b = m
      · subst e; cases e2 : c b with
        | false => rfl
        | true => exact absurd e2 hm
      · exact ih (m + 1) h b (by omega) (by omega)
section LES
variable {np nf : Nat} {fa : Nat → Nat → Prop} {tie : Nat → Nat → Nat → Prop} {S : Nat → Prop} {r : Nat} {e : Nat → Nat} {W r' : Nat} {st : Nat → Int32}
theorem telQ_T {I : Nat → Nat → Int32} {L : Nat → Nat → Int64} (h : VWS I L np fa tie S r e W r') {p f a : Nat} (ha : a < np) (hf : f < 4) : telQ st (L 66) W r' p (rSF (I 64) W f) a = true ↔ tOK st fa tie S r p f a := by
  unfold telQ tOK
  rw [Bool.and_eq_true, Bool.and_eq_true, decide_eq_true_eq, h.kw ha hf h.2.2.2.1, h.2.2.2.2.1, Bool.not_eq_true', decide_eq_false_iff_not]
theorem tel_some {I : Nat → Nat → Int32} {L : Nat → Nat → Int64} (h : VWS I L np fa tie S r e W r') {p f a : Nat} (hf : f < 4) (q : rFm (telQ st (L 66) W r' p (rSF (I 64) W f)) np 0 = some a) : TELR np st fa tie S r p f a := by
  obtain ⟨h1, h2, h3, h4⟩ := rFm_some np 0 a q
  refine ⟨by omega, (telQ_T h (by omega) hf).mp h3, fun b hb hq => ?_⟩
  have := (telQ_T (st := st) (p := p) h (show b < np by omega) hf).mpr hq
  rw [h4 b (by omega) hb] at this
  cases this
theorem tel_none {I : Nat → Nat → Int32} {L : Nat → Nat → Int64} (h : VWS I L np fa tie S r e W r') {p f : Nat} (hf : f < 4) (q : rFm (telQ st (L 66) W r' p (rSF (I 64) W f)) np 0 = none) : ¬ ∃ a, TELR np st fa tie S r p f a := by
  rintro ⟨a, h1, h2, -⟩
  have := (telQ_T h h1 hf).mpr h2
  rw [rFm_none np 0 q a (by omega) (by omega)] at this
  cases this
/-- a lesson given: the view behind it -/
theorem les_step {I J1 : Nat → Nat → Int32} {L : Nat → Nat → Int64} (hnp : np ≤ 4) (h : VWS I L np fa tie S r e W r') {a p f : Nat} {M x : Int64} (hJ : ∀ b, ¬ b = 85 → J1 b = I b) (ha : a < np) (hp : p < np) (hf : f < 4) (hx : x = rSF (I 64) W f) (hM : M = rKa (L 66) W a x) (hkr : kWh fa tie S a f r) : tb M r' = true ∧ VWS (lmI (mkI J1 M r' W (rMp M (mFs (L 66) M (nI p) x) W (J1 71) np)) (cnt M W) np) (va_up L 66 (rTB (L 66) (lmI (mkI J1 M r' W (rMp M (mFs (L 66) M (nI p) x) W (J1 71) np)) (cnt M W) np 65) (cnt M W) np 0)) np fa (lT fa tie p f) (lS fa tie S a f) r (fun i => e (selM M W i)) (cnt M W) (cnt M r') := by
  subst hx
  have v := h
  obtain ⟨v1, v2, v3, v4, v5, v6, v7, v8, v9⟩ := v
  have hcw := cnt_le M W
  have hMr : tb M r' = true := by
    rw [hM]
    unfold rKa
    rw [tb_mkT v2]
    exact ⟨v4, (h.kw ha hf v4).mpr (by rw [v5]; exact hkr)⟩
  refine VWS_next hnp h ha hp hf hM hkr ?_ ?_ (fun w hw hm => ?_) (fun q hq w hw hm => ?_) (fun q hq i hi => ?_)
  · unfold lmI mkI; simp only [va_up_self, bx_uu, tk_une, tk_usrt, not_false_eq_true, Nat.reduceEqDiff, Nat.reduceLT, Nat.reduceAdd, Nat.reduceMul, Nat.reduceLeDiff, reduceCtorEq]
  · unfold lmI mkI; simp only [va_up_self, bx_uu, tk_une, tk_usrt, not_false_eq_true, Nat.reduceEqDiff, Nat.reduceLT, Nat.reduceAdd, Nat.reduceMul, Nat.reduceLeDiff, reduceCtorEq]; exact rMr_at v4 hMr
  · unfold lmI mkI; simp only [va_up_self, bx_uu, tk_une, tk_usrt, not_false_eq_true, Nat.reduceEqDiff, Nat.reduceLT, Nat.reduceAdd, Nat.reduceMul, Nat.reduceLeDiff, reduceCtorEq]
    rw [tkcp_lt (cnt_lt_of hw hm), rMf_at hw hm, hJ 64 (by omega)]
  · unfold lmI mkI; simp only [va_up_self, bx_uu, tk_une, tk_usrt, not_false_eq_true, Nat.reduceEqDiff, Nat.reduceLT, Nat.reduceAdd, Nat.reduceMul, Nat.reduceLeDiff, reduceCtorEq]
    rw [rLM_at hq (cnt_lt_of hw hm) (by omega), rMp_at v2 hq hw hm]
  · rw [va_up_self]
    exact rTB_pB hnp (by omega) (fun _ _ _ _ => rfl) q hq i hi
end LES
def LMQ (n : Nat) (T : Nat → Nat × Nat) (P : Nat → Nat → Option Nat) (I : Nat → Nat → Int32) (L : Nat → Nat → Int64) (dp k : Nat) (A : Prop) (B : (Nat → Nat) → Prop) : Option tkV → tkH → Prop := fun rv h => ∃ (b : Bool) (I' : Nat → Nat → Int32) (L' : Nat → Nat → Int64), rv = some (vI (tkb b)) ∧ h = (n, T, I', L', P) ∧ KP dp I I' ∧ rLm L L' ∧ (b = true ↔ A) ∧ (b = true → ∃ f, B f ∧ ∀ j, j < k → I' 85 (dp + j) = nI (f j))
section REFCN
variable {G : tkG} {n : Nat} {T : Nat → Nat × Nat} {P : Nat → Nat → Option Nat}
theorem r_makes (hR : tkRef T P) {np nf cn s l0 to r : Nat} {cl : Nat → Nat} {gr cs row st : Nat → Int32} {fa : Nat → Nat → Prop} {Gs : (Nat → Prop) → (Nat → Nat → Nat → Prop) → Prop} (hG : ∀ S tie, Gs S tie ↔ sSO np cn fa tie (memG gr) cs cl row l0 S r) : ∀ (k dp : Nat) (I : Nat → Nat → Int32) (L : Nat → Nat → Int64) (S : Nat → Prop) (tie : Nat → Nat → Nat → Prop) (e : Nat → Nat) (W r' : Nat), dp + k = to → to ≤ 2 → LCT I np nf cn cl s l0 gr cs row st → VWS I L np fa tie S r e W r' → tkM G mX11_makes (35 + k) 0 0 [vR 40, vI (nI s), vI (nI dp), vI (nI to)] (n, T, I, L, P) (LMQ n T P I L dp k (LOK np nf st fa r Gs k S tie) (LSR np nf st fa r Gs k S tie)) := by
  intro k
  induction k with
  | zero =>
    intro dp I L S tie e W r' hk hto hc hv
    have hv' := hv
    obtain ⟨v1, v2, v3, v4, v5, v6, v7, v8, v9⟩ := hv'
    have hc' := hc
    obtain ⟨c1, c2, c3, c4, c5, c6, c7, c8, c9, c10, c11, c12, c13, c14, c15, c16⟩ := hc'
    have hso : tb (SOV np W cn (I 64) (L 66) (I 69) (I 67) cl (fun i => I 47 (14 * s + i)) l0 (evr W)) r' = true ↔ LOK np nf st fa r Gs 0 S tie := by
      rw [c13, c14, c15, hv.so (fun c hc2 => (c7 c hc2).2.2.2) c12]
      exact (hG S tie).symm
    refine tkM.of (ls := [some _, some _, some _, some _, none, none, none, none]) (by decide +kernel) (by decide +kernel) (Nat.le_of_ble_eq_true rfl) rfl ?_
    refine tk_iload2 dX11_makes_0 ?_
    refine tk_iload3 dX11_makes_1 ?_
    first | refine tk_icmp_neN dX11_makes_2 (by omega) (by omega) (fun h2 => ?_) (fun h2 => ?_) | refine tk_icmp_ne dX11_makes_2 (fun h2 => ?_) (fun h2 => ?_)
    · exfalso; omega
    · refine tk_aload0 dX11_makes_5 ?_
      refine tk_iload1 dX11_makes_6 ?_
      refine tk_callV1z dX11_makes_7 kX11_299 hR.o (r_soOf hR (hc.vh v1 v2) c8 c9 c10 c11 (by rw [c15]; exact c12)) (Nat.le_of_ble_eq_true rfl) (by omega) ?_
      refine tk_aload0 dX11_makes_10 ?_
      refine tk_getI dX11_makes_11 fX11_220 rfl hR.o ?_
      rw [v3]
      refine tk_lshr dX11_makes_14 ?_
      refine tk_lconst dX11_makes_15 (v := 1) (by decide) ?_
      refine tk_land dX11_makes_16 ?_
      refine tk_lconst dX11_makes_17 (v := 1) (by decide) ?_
      refine tk_lcmp dX11_makes_18 ?_
      first | refine tk_jf_neB dX11_makes_19 (fun h19 => ?_) (fun h19 => ?_) | refine tk_if_ne dX11_makes_19 (fun h19 => ?_) (fun h19 => ?_)
      · refine tk_iconst dX11_makes_26 kc_iconst_0 ?_
        first | refine tk_zreturn dX11_makes_27 rfl ?_ | refine tk_zret0 dX11_makes_27 rfl ?_ | refine tk_zret1 dX11_makes_27 rfl ?_
        first
          | exact ⟨true, I, L, rfl, rfl, KP.rf, rLm.rf, ⟨fun _ => hso.mp ((tb_t1 _ (by omega)).mp h19), fun _ => rfl⟩, fun _ => ⟨fun j => j, trivial, fun j hj => by omega⟩⟩
          | exact ⟨false, I, L, rfl, rfl, KP.rf, rLm.rf, ⟨fun q => (by cases q), fun q => absurd (hso.mpr q) (fun z => h19 ((tb_t1 _ (by omega)).mpr z))⟩, fun q => (by cases q)⟩
      · refine tk_iconst dX11_makes_22 kc_iconst_1 ?_
        refine tk_goto dX11_makes_23 ?_
        first | refine tk_zreturn dX11_makes_27 rfl ?_ | refine tk_zret0 dX11_makes_27 rfl ?_ | refine tk_zret1 dX11_makes_27 rfl ?_
        first
          | exact ⟨true, I, L, rfl, rfl, KP.rf, rLm.rf, ⟨fun _ => hso.mp ((tb_t1 _ (by omega)).mp h19), fun _ => rfl⟩, fun _ => ⟨fun j => j, trivial, fun j hj => by omega⟩⟩
          | exact ⟨false, I, L, rfl, rfl, KP.rf, rLm.rf, ⟨fun q => (by cases q), fun q => absurd (hso.mpr q) (fun z => h19 ((tb_t1 _ (by omega)).mpr z))⟩, fun q => (by cases q)⟩
  | succ k ih =>
    intro dp I L S tie e W r' hk hto hc hv
    have hv' := hv
    obtain ⟨v1, v2, v3, v4, v5, v6, v7, v8, v9⟩ := hv'
    have hc' := hc
    obtain ⟨c1, c2, c3, c4, c5, c6, c7, c8, c9, c10, c11, c12, c13, c14, c15, c16⟩ := hc'
    have loop : ∀ (j l : Nat) (I1 : Nat → Nat → Int32) (L1 : Nat → Nat → Int64), l + j = 4 * np → KP dp I I1 → rLm L L1 → DKV dp I1 W r' (I 64) (I 65) → VWS I1 L1 np fa tie S r e W r' → (∀ l2, l2 < l → ¬ ∃ S2 t2, NXT np nf st fa r l2 S tie S2 t2 ∧ LOK np nf st fa r Gs k S2 t2) → tkX G mX11_makes (35 + (k + 1)) 0 0 36 [some (vR 40), some (vI (nI s)), some (vI (nI dp)), some (vI (nI to)), some (vI (nI l)), none, none, none] [] (n, T, I1, L1, P) (LMQ n T P I L dp (k + 1) (LOK np nf st fa r Gs (k + 1) S tie) (LSR np nf st fa r Gs (k + 1) S tie)) := by
      intro j
      induction j with
      | zero =>
        intro l I1 L1 hl i1 i2 i3 i4 i5
        have d1 := (hc.kp i1).1
        refine tk_iload4 dX11_makes_36 ?_
        refine tk_iconst dX11_makes_38 kc_iconst_4 ?_
        refine tk_aload0 dX11_makes_39 ?_
        refine tk_getP dX11_makes_40 fX11_7 rfl hR.o (hR.p 0 rfl) ?_
        refine tk_iconst dX11_makes_43 kc_iconst_0 ?_
        refine tk_iald dX11_makes_44 (hR.t 41 rfl) (by omega) (by omega) ?_
        rw [d1]
        first | refine tk_imulN dX11_makes_45 ?_ | refine tk_imul dX11_makes_45 ?_
        first | refine tk_icmp_geN dX11_makes_46 (by omega) (by omega) (fun h46 => ?_) (fun h46 => ?_) | refine tk_jcmp_ge dX11_makes_46 (fun h46 => ?_) (fun h46 => ?_)
        · refine tk_iconst dX11_makes_136 kc_iconst_0 ?_
          first | refine tk_zreturn dX11_makes_137 rfl ?_ | refine tk_zret0 dX11_makes_137 rfl ?_ | refine tk_zret1 dX11_makes_137 rfl ?_
          refine ⟨false, I1, L1, rfl, rfl, i1, i2, ⟨fun q => (by cases q), ?_⟩, fun q => (by cases q)⟩
          rintro ⟨l2, S2, t2, b1, b2, b3⟩
          exact absurd ⟨S2, t2, b2, b3⟩ (i5 l2 (by omega))
        · exfalso; omega
      | succ j ihj =>
        intro l I1 L1 hl i1 i2 i3 i4 i5
        have hc1 := hc.kp i1
        obtain ⟨d1, -, d3, -, -, -, -, -, -, -, -, -, -, -, -, d16⟩ := hc1
        have hc1 := hc.kp i1
        have hw' := i4
        obtain ⟨w1, w2, w3, w4, -⟩ := hw'
        have nxt : ∀ (I2 : Nat → Nat → Int32) (L2 : Nat → Nat → Int64), KP dp I I2 → rLm L L2 → DKV dp I2 W r' (I 64) (I 65) → VWS I2 L2 np fa tie S r e W r' → (¬ ∃ S2 t2, NXT np nf st fa r l S tie S2 t2 ∧ LOK np nf st fa r Gs k S2 t2) → ∀ ll, tkle [some (vR 40), some (vI (nI s)), some (vI (nI dp)), some (vI (nI to)), some (vI (nI l)), none, none, none] ll → tkX G mX11_makes (35 + (k + 1)) 0 0 130 ll [] (n, T, I2, L2, P) (LMQ n T P I L dp (k + 1) (LOK np nf st fa r Gs (k + 1) S tie) (LSR np nf st fa r Gs (k + 1) S tie)) := by
          intro I2 L2 a1 a2 a3 a4 a5 ll hll
          refine tk_wk hll ?_
          first | refine tk_iinc4 dX11_makes_130 (kc_inc _) rfl ?_ | refine tk_iinc4 dX11_makes_130 rfl rfl ?_
          refine tk_goto dX11_makes_133 ?_
          refine tk_wk (by repeat' (first | exact trivial | refine ⟨Or.inl rfl, ?_⟩ | refine ⟨Or.inr rfl, ?_⟩)) (ihj (l + 1) I2 L2 (by omega) a1 a2 a3 a4 (fun l2 hl2 => ?_))
          by_cases e2 : l2 = l
          · subst e2; exact a5
          · exact i5 l2 (by omega)
        have hdk2 : ∀ I2, KP dp I1 I2 → ∀ {M : Int64} {g : Nat → Int32} {N : Nat}, KP (dp + 1) (lmI (mkI (va_up I1 85 (va_up (I1 85) dp (nI l))) M r' W g) N np) I2 → KP (dp + 1) (va_up I1 85 (va_up (I1 85) dp (nI l))) (mkI (va_up I1 85 (va_up (I1 85) dp (nI l))) M r' W g) → KP (dp + 1) (mkI (va_up I1 85 (va_up (I1 85) dp (nI l))) M r' W g) (lmI (mkI (va_up I1 85 (va_up (I1 85) dp (nI l))) M r' W g) N np) → DKV dp I2 W r' (I 64) (I 65) := by
          intro I2 _ M g N q1 q2 q3
          have h0 : DKV dp (va_up I1 85 (va_up (I1 85) dp (nI l))) W r' (I 64) (I 65) := by unfold DKV; simp only [va_up_self, bx_uu, tk_une, tk_usrt, not_false_eq_true, Nat.reduceEqDiff, Nat.reduceLT, Nat.reduceAdd, Nat.reduceMul, Nat.reduceLeDiff, reduceCtorEq]; exact i3
          exact ((h0.kp q2).kp q3).kp q1
        have hvw : ∀ I2 L2, DKV dp I2 W r' (I 64) (I 65) → VWS (lbI I2 dp) (va_up L2 66 (rTB (L2 66) (lbI I2 dp 65) W np 0)) np fa tie S r e W r' := by
          intro I2 L2 q
          refine hv.congr c2 ?_ ?_ (fun i hi => ?_) (fun i hi => ?_) (fun p hp i hi => ?_)
          · unfold lbI; simp only [va_up_self, bx_uu, tk_une, tk_usrt, not_false_eq_true, Nat.reduceEqDiff, Nat.reduceLT, Nat.reduceAdd, Nat.reduceMul, Nat.reduceLeDiff, reduceCtorEq]; exact q.1
          · unfold lbI; simp only [va_up_self, bx_uu, tk_une, tk_usrt, not_false_eq_true, Nat.reduceEqDiff, Nat.reduceLT, Nat.reduceAdd, Nat.reduceMul, Nat.reduceLeDiff, reduceCtorEq]; exact q.2.1
          · unfold lbI; simp only [va_up_self, bx_uu, tk_une, tk_usrt, not_false_eq_true, Nat.reduceEqDiff, Nat.reduceLT, Nat.reduceAdd, Nat.reduceMul, Nat.reduceLeDiff, reduceCtorEq]; rw [tkcp_lt hi]; exact q.2.2.1 i hi
          · unfold lbI; simp only [va_up_self, bx_uu, tk_une, tk_usrt, not_false_eq_true, Nat.reduceEqDiff, Nat.reduceLT, Nat.reduceAdd, Nat.reduceMul, Nat.reduceLeDiff, reduceCtorEq]; rw [tkcp_lt hi]; exact q.2.2.2 i hi
          · rw [va_up_self]
            exact rTB_pB c2 v2 (fun _ _ _ _ => rfl) p hp i hi
        refine tk_iload4 dX11_makes_36 ?_
        refine tk_iconst dX11_makes_38 kc_iconst_4 ?_
        refine tk_aload0 dX11_makes_39 ?_
        refine tk_getP dX11_makes_40 fX11_7 rfl hR.o (hR.p 0 rfl) ?_
        refine tk_iconst dX11_makes_43 kc_iconst_0 ?_
        refine tk_iald dX11_makes_44 (hR.t 41 rfl) (by omega) (by omega) ?_
        rw [d1]
        first | refine tk_imulN dX11_makes_45 ?_ | refine tk_imul dX11_makes_45 ?_
        first | refine tk_icmp_geN dX11_makes_46 (by omega) (by omega) (fun h46 => ?_) (fun h46 => ?_) | refine tk_jcmp_ge dX11_makes_46 (fun h46 => ?_) (fun h46 => ?_)
        · exfalso; omega
        · refine tk_aload0 dX11_makes_49 ?_
          refine tk_iload4 dX11_makes_50 ?_
          refine tk_iconst dX11_makes_52 kc_iconst_4 ?_
          first | refine tk_iremN dX11_makes_53 (by omega) (by omega) (by omega) ?_ | refine tk_irem dX11_makes_53 (by decide) ?_
          refine tk_callV1z dX11_makes_54 kX11_209 hR.o (r_isFact hR _) (Nat.le_of_ble_eq_true rfl) (by omega) ?_
          rw [d3, rPer_nI (by omega) (by omega)]
          first | refine tk_jf_eqB dX11_makes_57 (fun h57 => ?_) (fun h57 => ?_) | refine tk_if_eq dX11_makes_57 (fun h57 => ?_) (fun h57 => ?_)
          · refine nxt I1 L1 i1 i2 i3 i4 ?_ _ (by repeat' (first | exact trivial | refine ⟨Or.inl rfl, ?_⟩ | refine ⟨Or.inr rfl, ?_⟩))
            rintro ⟨S2, t2, b1, b2⟩
            exact absurd b1.1 (of_decide_eq_false h57)
          · refine tk_aload0 dX11_makes_60 ?_
            refine tk_iload4 dX11_makes_61 ?_
            refine tk_iconst dX11_makes_63 kc_iconst_4 ?_
            first | refine tk_iremN dX11_makes_64 (by omega) (by omega) (by omega) ?_ | refine tk_irem dX11_makes_64 (by decide) ?_
            refine tk_callV1z dX11_makes_65 kX11_326 hR.o (r_soFact hR (f := l % 4) w1 w2) (Nat.le_of_ble_eq_true rfl) (by omega) ?_
            refine tk_lstore5 dX11_makes_68 rfl ?_
            refine tk_aload0 dX11_makes_70 ?_
            refine tk_iload4 dX11_makes_71 ?_
            refine tk_iconst dX11_makes_73 kc_iconst_4 ?_
            first | refine tk_idivN dX11_makes_74 (by omega) (by omega) (by omega) ?_ | refine tk_idiv dX11_makes_74 (by decide) ?_
            refine tk_lload5 dX11_makes_75 ?_
            refine tk_callV2z dX11_makes_77 kX11_333 hR.o (r_teller hR (p := l / 4) d1 c2 w1 w2 w3 w4 (by omega)) (Nat.le_of_ble_eq_true rfl) (by omega) ?_
            rw [d16]
            have hf4 : l % 4 < nf := of_decide_eq_true h57
            generalize hx : rSF (I1 64) W (l % 4) = x
            cases hq : rFm (telQ st (L1 66) W r' (l / 4) x) np 0 with
            | none =>
              subst hx
              have hno := tel_none i4 (by omega) hq
              refine tk_istore7 dX11_makes_80 rfl ?_
              refine tk_iload7 dX11_makes_82 ?_
              refine tk_jf_lt dX11_makes_84 (fun h84 => ?_) (fun h84 => ?_)
              · refine nxt I1 L1 i1 i2 i3 i4 ?_ _ (by repeat' (first | exact trivial | refine ⟨Or.inl rfl, ?_⟩ | refine ⟨Or.inr rfl, ?_⟩))
                rintro ⟨S2, t2, b1, b2⟩
                obtain ⟨-, a, z1, -⟩ := b1
                exact hno ⟨a, z1⟩
              · exact absurd (show (-1 : Int32) < 0 by decide) (Int32.not_lt.mpr h84)
            | some a =>
              have htl := tel_some (st := st) (p := l / 4) (f := l % 4) i4 (by omega) (by rw [hx]; exact hq)
              obtain ⟨ha, hok, hlst⟩ := htl
              obtain ⟨hMr, hv2⟩ := les_step (J1 := va_up I1 85 (va_up (I1 85) dp (nI l))) (M := rKa (L1 66) W a x) (x := x) (p := l / 4) (f := l % 4) c2 i4 (fun b hb => va_up_ne _ _ hb) ha (by omega) (by omega) hx.symm rfl hok.2.2
              have hcw := cnt_le (rKa (L1 66) W a x) W
              have hk2 : KP dp I1 (va_up I1 85 (va_up (I1 85) dp (nI l))) := KP_ls
              refine tk_istore7 dX11_makes_80 rfl ?_
              refine tk_iload7 dX11_makes_82 ?_
              refine tk_jf_lt dX11_makes_84 (fun h84 => ?_) (fun h84 => ?_)
              · first
                  | exact absurd h84 (nI_pos (by omega))
                  | refine nxt _ _ (i1.tr (hall.tr KP_lb)) (i2.tr (hLL.tr (rLm.up (by omega)))) ((hdk2 I2 hall j1 KP_mk KP_lm).kp KP_lb) (hvw I2 L2 (hdk2 I2 hall j1 KP_mk KP_lm)) ?_ _ (by repeat' (first | exact trivial | refine ⟨Or.inl rfl, ?_⟩ | refine ⟨Or.inr rfl, ?_⟩))
                    rintro ⟨S2, t2, b1, b2⟩
                    obtain ⟨rfl, rfl⟩ := NXT_uniq b1 ⟨by omega, a, ⟨ha, hok, hlst⟩, rfl, rfl⟩
                    exact Bool.noConfusion (h120.symm.trans (j3.mpr b2))
              · refine tk_aload0 dX11_makes_87 ?_
                refine tk_getP dX11_makes_88 fX11_145 rfl hR.o (hR.p 52 rfl) ?_
                refine tk_iload2 dX11_makes_91 ?_
                refine tk_iload4 dX11_makes_92 ?_
                refine tk_iast dX11_makes_94 (hR.t 85 rfl) (by omega) (by omega) ?_
                refine tk_aload0 dX11_makes_95 ?_
                refine tk_iload7 dX11_makes_96 ?_
                refine tk_iload4 dX11_makes_98 ?_
                refine tk_iconst dX11_makes_100 kc_iconst_4 ?_
                first | refine tk_idivN dX11_makes_101 (by omega) (by omega) (by omega) ?_ | refine tk_idiv dX11_makes_101 (by decide) ?_
                refine tk_lload5 dX11_makes_102 ?_
                refine tk_callV3y dX11_makes_104 kX11_312 hR.o (r_tellOpenlyG hR (np := np) (W := W) (r := r') (by simp only [va_up_self, bx_uu, tk_une, tk_usrt, not_false_eq_true, Nat.reduceEqDiff, Nat.reduceLT, Nat.reduceAdd, Nat.reduceMul, Nat.reduceLeDiff, reduceCtorEq]; exact d1) c2 (by simp only [va_up_self, bx_uu, tk_une, tk_usrt, not_false_eq_true, Nat.reduceEqDiff, Nat.reduceLT, Nat.reduceAdd, Nat.reduceMul, Nat.reduceLeDiff, reduceCtorEq]; exact w1) w2 (by simp only [va_up_self, bx_uu, tk_une, tk_usrt, not_false_eq_true, Nat.reduceEqDiff, Nat.reduceLT, Nat.reduceAdd, Nat.reduceMul, Nat.reduceLeDiff, reduceCtorEq]; exact w3) w4 (fun p hp w hw => i4.self hp hw) (by omega) (nI (l / 4)) x) (Nat.le_of_ble_eq_true rfl) (by omega) ?_
                refine tk_aload0 dX11_makes_107 ?_
                refine tk_callV0y dX11_makes_108 kX11_337 hR.o (r_layMade hR (N := cnt (rKa (L1 66) W a x) W) (np := np) (by unfold mkI; simp only [va_up_self, bx_uu, tk_une, tk_usrt, not_false_eq_true, Nat.reduceEqDiff, Nat.reduceLT, Nat.reduceAdd, Nat.reduceMul, Nat.reduceLeDiff, reduceCtorEq]; exact d1) c2 (by unfold mkI; simp only [va_up_self, bx_uu, tk_une, tk_usrt, not_false_eq_true, Nat.reduceEqDiff, Nat.reduceLT, Nat.reduceAdd, Nat.reduceMul, Nat.reduceLeDiff, reduceCtorEq]) (by omega)) (Nat.le_of_ble_eq_true rfl) (by omega) ?_
                refine tk_aload0 dX11_makes_111 ?_
                refine tk_iload1 dX11_makes_112 ?_
                refine tk_iload2 dX11_makes_113 ?_
                refine tk_iconst dX11_makes_114 kc_iconst_1 ?_
                first | refine tk_iaddN dX11_makes_115 ?_ | refine tk_iadd dX11_makes_115 ?_
                refine tk_iload3 dX11_makes_116 ?_
                refine tk_callV3q dX11_makes_117 kX11_340 hR.o (ih (dp + 1) _ _ _ _ _ _ _ (by omega) hto (((hc1.kp hk2).kp (KP_mk (dp := dp))).kp (KP_lm (dp := dp))) hv2) (Nat.le_of_ble_eq_true rfl) (by omega) ?_
                rintro rr h1 ⟨b, I2, L2, rfl, rfl, j1, j2, j3, j4⟩
                dsimp only [Option.toList, List.cons_append, List.nil_append]
                have hall : KP dp I1 I2 := hk2.tr (KP_mk.tr (KP_lm.tr (j1.le (by omega))))
                have hLL : rLm L1 L2 := (rLm.up (by omega)).tr j2
                first | refine tk_jf_eqB dX11_makes_120 (fun h120 => ?_) (fun h120 => ?_) | refine tk_if_eq dX11_makes_120 (fun h120 => ?_) (fun h120 => ?_)
                · refine tk_aload0 dX11_makes_125 ?_
                  refine tk_iload2 dX11_makes_126 ?_
                  refine tk_callV1y dX11_makes_127 kX11_343 hR.o (r_lessonBack hR (dp := dp) (np := np) (W := W) (by omega) ((hc1.kp hall).1) c2 (hdk2 I2 hall j1 KP_mk KP_lm).1 w2) (Nat.le_of_ble_eq_true rfl) (by omega) ?_
                  first
                    | exact absurd h84 (nI_pos (by omega))
                    | refine nxt _ _ (i1.tr (hall.tr KP_lb)) (i2.tr (hLL.tr (rLm.up (by omega)))) ((hdk2 I2 hall j1 KP_mk KP_lm).kp KP_lb) (hvw I2 L2 (hdk2 I2 hall j1 KP_mk KP_lm)) ?_ _ (by repeat' (first | exact trivial | refine ⟨Or.inl rfl, ?_⟩ | refine ⟨Or.inr rfl, ?_⟩))
                      rintro ⟨S2, t2, b1, b2⟩
                      obtain ⟨rfl, rfl⟩ := NXT_uniq b1 ⟨by omega, a, ⟨ha, hok, hlst⟩, rfl, rfl⟩
                      exact Bool.noConfusion (h120.symm.trans (j3.mpr b2))
                · refine tk_iconst dX11_makes_123 kc_iconst_1 ?_
                  have hb := h120
                  first | refine tk_zreturn dX11_makes_124 rfl ?_ | refine tk_zret0 dX11_makes_124 rfl ?_ | refine tk_zret1 dX11_makes_124 rfl ?_
                  refine ⟨true, I2, L2, rfl, rfl, i1.tr hall, i2.tr hLL, ⟨fun _ => ⟨l, _, _, by omega, ⟨by omega, a, ⟨ha, hok, hlst⟩, rfl, rfl⟩, j3.mp h120⟩, fun _ => rfl⟩, fun _ => ?_⟩
                  obtain ⟨f, f1, f2⟩ := j4 h120
                  refine ⟨fun j => if j = 0 then l else f (j - 1), ⟨_, _, by show l < _; omega, ⟨by show l % 4 < nf; omega, a, ⟨ha, hok, hlst⟩, rfl, rfl⟩, j3.mp h120, fun l2 hl2 => i5 l2 hl2, ?_⟩, fun j hj => ?_⟩
                  · have ef : (fun j => (fun j => if j = 0 then l else f (j - 1)) (j + 1)) = f := by funext j; show (if j + 1 = 0 then l else f (j + 1 - 1)) = f j; rw [if_neg (by omega)]; rfl
                    rw [ef]; exact f1
                  · by_cases e0 : j = 0
                    · subst e0
                      rw [Nat.add_zero, (j1.2.2.2.2.2 dp (by omega)).2.2.1]
                      unfold lmI mkI
                      simp only [va_up_self, bx_uu, tk_une, tk_usrt, not_false_eq_true, Nat.reduceEqDiff, Nat.reduceLT, Nat.reduceAdd, Nat.reduceMul, Nat.reduceLeDiff, reduceCtorEq]
                      rfl
                    · have := f2 (j - 1) (by omega)
                      rw [show dp + 1 + (j - 1) = dp + j by omega] at this
                      rw [this]
                      show nI (f (j - 1)) = nI (if j = 0 then l else f (j - 1))
                      rw [if_neg e0]
    refine tkM.of (ls := [some _, some _, some _, some _, none, none, none, none]) (by decide +kernel) (by decide +kernel) (Nat.le_of_ble_eq_true rfl) rfl ?_
    refine tk_iload2 dX11_makes_0 ?_
    refine tk_iload3 dX11_makes_1 ?_
    first | refine tk_icmp_neN dX11_makes_2 (by omega) (by omega) (fun h2 => ?_) (fun h2 => ?_) | refine tk_icmp_ne dX11_makes_2 (fun h2 => ?_) (fun h2 => ?_)
    · refine tk_aload0 dX11_makes_28 ?_
      refine tk_iload2 dX11_makes_29 ?_
      refine tk_callV1y dX11_makes_30 kX11_329 hR.o (r_lessonKeep hR (dp := dp) (by omega)) (Nat.le_of_ble_eq_true rfl) (by omega) ?_
      refine tk_iconst dX11_makes_33 kc_iconst_0 ?_
      refine tk_istore4 dX11_makes_34 rfl ?_
      refine tk_wk (by repeat' (first | exact trivial | refine ⟨Or.inl rfl, ?_⟩ | refine ⟨Or.inr rfl, ?_⟩)) (loop (4 * np) 0 (lkI I dp) L (by omega) KP_lk rLm.rf (DKV_lk v1 v3) (hv.congr c2 ?_ ?_ ?_ ?_ ?_) (fun l hl => by omega))
      · unfold lkI; simp only [va_up_self, bx_uu, tk_une, tk_usrt, not_false_eq_true, Nat.reduceEqDiff, Nat.reduceLT, Nat.reduceAdd, Nat.reduceMul, Nat.reduceLeDiff, reduceCtorEq]; exact v1
      · unfold lkI; simp only [va_up_self, bx_uu, tk_une, tk_usrt, not_false_eq_true, Nat.reduceEqDiff, Nat.reduceLT, Nat.reduceAdd, Nat.reduceMul, Nat.reduceLeDiff, reduceCtorEq]; exact v3
      · unfold lkI; simp only [va_up_self, bx_uu, tk_une, tk_usrt, not_false_eq_true, Nat.reduceEqDiff, Nat.reduceLT, Nat.reduceAdd, Nat.reduceMul, Nat.reduceLeDiff, reduceCtorEq]; exact fun _ _ => trivial
      · unfold lkI; simp only [va_up_self, bx_uu, tk_une, tk_usrt, not_false_eq_true, Nat.reduceEqDiff, Nat.reduceLT, Nat.reduceAdd, Nat.reduceMul, Nat.reduceLeDiff, reduceCtorEq]; exact fun _ _ => trivial
      · unfold lkI; simp only [va_up_self, bx_uu, tk_une, tk_usrt, not_false_eq_true, Nat.reduceEqDiff, Nat.reduceLT, Nat.reduceAdd, Nat.reduceMul, Nat.reduceLeDiff, reduceCtorEq]; exact v9
    · exfalso; omega
end REFCN
