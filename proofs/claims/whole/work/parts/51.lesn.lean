/-! ===== lessons, by worlds ===== -/
def kWh (fa : Nat → Nat → Prop) (tie : Nat → Nat → Nat → Prop) (S : Nat → Prop) (a f w : Nat) : Prop := (∀ u, S u → tie a w u → fa f u) ∨ (∀ u, S u → tie a w u → ¬ fa f u)
def tOK (st : Nat → Int32) (fa : Nat → Nat → Prop) (tie : Nat → Nat → Nat → Prop) (S : Nat → Prop) (r p f a : Nat) : Prop := ¬ a = p ∧ st a = st p ∧ kWh fa tie S a f r
def TELR (np : Nat) (st : Nat → Int32) (fa : Nat → Nat → Prop) (tie : Nat → Nat → Nat → Prop) (S : Nat → Prop) (r p f a : Nat) : Prop := a < np ∧ tOK st fa tie S r p f a ∧ ∀ b, b < a → ¬ tOK st fa tie S r p f b
def lS (fa : Nat → Nat → Prop) (tie : Nat → Nat → Nat → Prop) (S : Nat → Prop) (a f : Nat) : Nat → Prop := fun w => S w ∧ kWh fa tie S a f w
def lT (fa : Nat → Nat → Prop) (tie : Nat → Nat → Nat → Prop) (p f : Nat) : Nat → Nat → Nat → Prop := fun q w u => tie q w u ∧ (q = p → (fa f w ↔ fa f u))
def NXT (np nf : Nat) (st : Nat → Int32) (fa : Nat → Nat → Prop) (r l : Nat) (S : Nat → Prop) (tie : Nat → Nat → Nat → Prop) (S' : Nat → Prop) (tie' : Nat → Nat → Nat → Prop) : Prop := l % 4 < nf ∧ ∃ a, TELR np st fa tie S r (l / 4) (l % 4) a ∧ S' = lS fa tie S a (l % 4) ∧ tie' = lT fa tie (l / 4) (l % 4)
def LOK (np nf : Nat) (st : Nat → Int32) (fa : Nat → Nat → Prop) (r : Nat) (Gs : (Nat → Prop) → (Nat → Nat → Nat → Prop) → Prop) : Nat → (Nat → Prop) → (Nat → Nat → Nat → Prop) → Prop
  | 0, S, tie => Gs S tie
  | k + 1, S, tie => ∃ l S' tie', l < 4 * np ∧ NXT np nf st fa r l S tie S' tie' ∧ LOK np nf st fa r Gs k S' tie'
def LSR (np nf : Nat) (st : Nat → Int32) (fa : Nat → Nat → Prop) (r : Nat) (Gs : (Nat → Prop) → (Nat → Nat → Nat → Prop) → Prop) : Nat → (Nat → Prop) → (Nat → Nat → Nat → Prop) → (Nat → Nat) → Prop
  | 0, _, _, _ => True
  | k + 1, S, tie, f => ∃ S' tie', f 0 < 4 * np ∧ NXT np nf st fa r (f 0) S tie S' tie' ∧ LOK np nf st fa r Gs k S' tie' ∧ (∀ l, l < f 0 → ¬ ∃ S2 tie2, NXT np nf st fa r l S tie S2 tie2 ∧ LOK np nf st fa r Gs k S2 tie2) ∧ LSR np nf st fa r Gs k S' tie' (fun j => f (j + 1))
theorem TELR_uniq {np : Nat} {st : Nat → Int32} {fa : Nat → Nat → Prop} {tie : Nat → Nat → Nat → Prop} {S : Nat → Prop} {r p f a b : Nat} (h : TELR np st fa tie S r p f a) (h' : TELR np st fa tie S r p f b) : a = b := by
  rcases Nat.lt_trichotomy a b with q | q | q
  · exact absurd h.2.1 (h'.2.2 a q)
  · exact q
  · exact absurd h'.2.1 (h.2.2 b q)
theorem NXT_uniq {np nf : Nat} {st : Nat → Int32} {fa : Nat → Nat → Prop} {r l : Nat} {S S1 S2 : Nat → Prop} {tie t1 t2 : Nat → Nat → Nat → Prop} (h : NXT np nf st fa r l S tie S1 t1) (h' : NXT np nf st fa r l S tie S2 t2) : S1 = S2 ∧ t1 = t2 := by
  obtain ⟨-, a, h1, rfl, rfl⟩ := h
  obtain ⟨-, b, h2, rfl, rfl⟩ := h'
  rw [TELR_uniq h1 h2]
  exact ⟨rfl, rfl⟩
theorem LSR_uniq {np nf : Nat} {st : Nat → Int32} {fa : Nat → Nat → Prop} {r : Nat} {Gs : (Nat → Prop) → (Nat → Nat → Nat → Prop) → Prop} : ∀ (k : Nat) (S : Nat → Prop) (tie : Nat → Nat → Nat → Prop) (f g : Nat → Nat), LSR np nf st fa r Gs k S tie f → LSR np nf st fa r Gs k S tie g → ∀ j, j < k → f j = g j := by
  intro k
  induction k with
  | zero => intro _ _ _ _ _ _ j hj; omega
  | succ k ih =>
    intro S tie f g hf hg j hj
    obtain ⟨S1, t1, a1, a2, a3, a4, a5⟩ := hf
    obtain ⟨S2, t2, b1, b2, b3, b4, b5⟩ := hg
    have e : f 0 = g 0 := by
      rcases Nat.lt_trichotomy (f 0) (g 0) with q | q | q
      · exact absurd ⟨S1, t1, a2, a3⟩ (b4 _ q)
      · exact q
      · exact absurd ⟨S2, t2, b2, b3⟩ (a4 _ q)
    rw [← e] at b2
    obtain ⟨rfl, rfl⟩ := NXT_uniq a2 b2
    cases j with
    | zero => exact e
    | succ j => exact ih S1 t1 _ _ a5 b5 j (by omega)
/-- the reference's view at a row of lessons -/
def VWS (I : Nat → Nat → Int32) (L : Nat → Nat → Int64) (np : Nat) (fa : Nat → Nat → Prop) (tie : Nat → Nat → Nat → Prop) (S : Nat → Prop) (r : Nat) (e : Nat → Nat) (W r' : Nat) : Prop :=
  I 40 26 = nI W ∧ W ≤ 64 ∧ I 40 27 = nI r' ∧ r' < W ∧ e r' = r ∧ ISO e (fun i => i < W) S ∧ (∀ f, f < 4 → ∀ i, i < W → (faF (I 64) f i ↔ fa f (e i))) ∧ (∀ p, p < np → ∀ i, i < W → ∀ j, j < W → (I 65 (64 * p + j) = I 65 (64 * p + i) ↔ tie p (e i) (e j))) ∧ ∀ p, p < np → ∀ i, i < W → L 66 (64 * p + i) = pB (I 65) W (64 * p + i)
theorem tb_pB {ce : Nat → Int32} {W p i j : Nat} (hW : W ≤ 64) (hi : i < 64) : tb (pB ce W (64 * p + i)) j = true ↔ j < W ∧ ce (64 * p + j) = ce (64 * p + i) := by
  unfold pB
  rw [show (64 * p + i) / 64 = p by omega, show (64 * p + i) % 64 = i by omega, rSt_mk, tb_mkT hW, decide_eq_true_eq]
theorem tb_evrT {W i : Nat} (hW : W ≤ 64) : tb (evr W) i = true ↔ i < W := by
  constructor
  · intro h
    rw [tb_evr hW (tb_lt h), decide_eq_true_eq] at h
    exact h
  · intro h
    rw [tb_evr hW (by omega), decide_eq_true_eq]
    exact h
theorem VWS.congr {I J : Nat → Nat → Int32} {L L' : Nat → Nat → Int64} {np : Nat} {fa : Nat → Nat → Prop} {tie : Nat → Nat → Nat → Prop} {S : Nat → Prop} {r : Nat} {e : Nat → Nat} {W r' : Nat} (hnp : np ≤ 4) (h : VWS I L np fa tie S r e W r') (h1 : J 40 26 = nI W) (h2 : J 40 27 = nI r') (h3 : ∀ i, i < 64 → J 64 i = I 64 i) (h4 : ∀ k, k < 256 → J 65 k = I 65 k) (h5 : ∀ p, p < np → ∀ i, i < W → L' 66 (64 * p + i) = pB (J 65) W (64 * p + i)) : VWS J L' np fa tie S r e W r' := by
  obtain ⟨-, v2, -, v4, v5, v6, v7, v8, v9⟩ := h
  refine ⟨h1, v2, h2, v4, v5, v6, fun f hf i hi => ?_, fun p hp i hi j hj => ?_, h5⟩
  · rw [← v7 f hf i hi]
    unfold faF
    rw [h3 i (by omega)]
  · rw [h4 _ (by omega), h4 _ (by omega)]; exact v8 p hp i hi j hj
section VWSS
variable {I : Nat → Nat → Int32} {L : Nat → Nat → Int64} {np : Nat} {fa : Nat → Nat → Prop} {tie : Nat → Nat → Nat → Prop} {S : Nat → Prop} {r : Nat} {e : Nat → Nat} {W r' : Nat}
theorem VWS.ti (h : VWS I L np fa tie S r e W r') {p : Nat} (hp : p < np) {i j : Nat} (hi : i < W) (hj : j < W) : tieB (L 66) p i j ↔ tie p (e i) (e j) := by
  obtain ⟨-, v2, -, v4, v5, v6, v7, v8, v9⟩ := h
  unfold tieB
  rw [v9 p hp i hi, tb_pB v2 (by omega), ← v8 p hp i hi j hj]
  exact ⟨fun q => q.2, fun q => ⟨hj, q⟩⟩
theorem VWS.self (h : VWS I L np fa tie S r e W r') {p : Nat} (hp : p < np) {i : Nat} (hi : i < W) : tb (L 66 (64 * p + i)) i = true := by
  obtain ⟨-, v2, -, v4, v5, v6, v7, v8, v9⟩ := h
  rw [v9 p hp i hi]; exact pB_w hi v2
theorem VWS.kw (h : VWS I L np fa tie S r e W r') {a f : Nat} (ha : a < np) (hf : f < 4) {i : Nat} (hi : i < W) : rKw (L 66) W a i (rSF (I 64) W f) = true ↔ kWh fa tie S a f (e i) := by
  have ht := fun {j : Nat} (hj : j < W) => h.ti ha hi hj
  obtain ⟨-, v2, -, v4, v5, v6, v7, v8, v9⟩ := h
  have hx : ∀ u, tb (rSF (I 64) W f) u = true ↔ u < W ∧ faF (I 64) f u := fun u => by unfold rSF faF; rw [tb_mkT v2, decide_eq_true_eq]
  unfold rKw kWh
  rw [Bool.or_eq_true, rKn_T, rKn_T]
  refine or_congr ?_ ?_
  · constructor
    · intro q u hu hx2
      obtain ⟨j, hj, rfl⟩ := v6.2.1 u hu
      have := q j ((tb_evrT v2).mpr hj) ((ht hj).mpr hx2)
      exact (v7 f hf j hj).mp ((hx j).mp this).2
    · intro q u hu hb
      have hj := (tb_evrT v2).mp hu
      exact (hx u).mpr ⟨hj, (v7 f hf u hj).mpr (q _ (v6.1 u hj) ((ht hj).mp hb))⟩
  · constructor
    · intro q u hu hx2 hfa
      obtain ⟨j, hj, rfl⟩ := v6.2.1 u hu
      have := q j ((tb_evrT v2).mpr hj) ((ht hj).mpr hx2)
      rw [tb_dif] at this
      exact this.2 ((hx j).mpr ⟨hj, (v7 f hf j hj).mpr hfa⟩)
    · intro q u hu hb
      have hj := (tb_evrT v2).mp hu
      rw [tb_dif]
      exact ⟨hu, fun hfa => q _ (v6.1 u hj) ((ht hj).mp hb) ((v7 f hf u hj).mp ((hx u).mp hfa).2)⟩
theorem VWS.so (h : VWS I L np fa tie S r e W r') {nf cn : Nat} {gr cs : Nat → Int32} {cl : Nat → Nat} {row : Nat → Int32} {l : Nat} (hc : ∀ c, c < cn → WF np nf false (fun i => cs (14 * c + i)) 14 (cl c - 1)) (hw : WF np nf true row 14 (l - 1)) : tb (SOV np W cn (I 64) (L 66) gr cs cl row l (evr W)) r' = true ↔ sSO np cn fa tie (memG gr) cs cl row l S r := by
  have ht := fun {p : Nat} (hp : p < np) {i j : Nat} (hi : i < W) (hj : j < W) => h.ti hp hi hj
  obtain ⟨-, v2, -, v4, v5, v6, v7, v8, v9⟩ := h
  rw [SOV_T v2 hc hw (evr W) (fun u hu => (tb_evrT v2).mp hu) r']
  have e1 : (fun u => tb (evr W) u = true) = fun u => u < W := funext fun u => propext (tb_evrT v2)
  rw [e1, sSO_iso (fun _ _ _ _ => Iff.rfl) v6 v7 (fun p hp i j hi hj => ht hp hi hj) (fun c hc2 => ⟨fun _ _ => rfl, hc c hc2⟩) (fun _ _ => rfl) hw r' v4, v5]
end VWSS
/-- two of M have one first fellow just if they are fellows -/
theorem mFs_eq {ce : Nat → Int32} {W : Nat} {M S : Int64} {a : Int32} {p w u : Nat} (hW : W ≤ 64) (hw : w < W) (hu : u < W) (mw : tb M w = true) (mu : tb M u = true) : mFs (pB ce W) M a S p w = mFs (pB ce W) M a S p u ↔ ce (64 * p + u) = ce (64 * p + w) ∧ (nI p = a → (tb S w = true ↔ tb S u = true)) := by
  have side : ∀ x y, y < 64 → (tb (if nI p = a then (if tb S x then S else S ^^^ (-1)) else (-1)) y = true ↔ (nI p = a → (tb S x = true ↔ tb S y = true))) := by
    intro x y hy
    by_cases h1 : nI p = a
    · rw [if_pos h1]
      cases e : tb S x with
      | true => rw [if_pos rfl]; exact ⟨fun q _ => ⟨fun _ => q, fun _ => rfl⟩, fun q => (q h1).mp rfl⟩
      | false =>
        rw [if_neg (by decide), tb_notT hy]
        exact ⟨fun q _ => ⟨fun z => (by cases z), fun z => absurd z q⟩, fun q z => (by have := (q h1).mpr z; cases this)⟩
    · rw [if_neg h1, tb_m1 hy]
      exact ⟨fun _ q => absurd q h1, fun _ => rfl⟩
  have cl : ∀ x y, x < 64 → (tb (mCl (pB ce W) M a S p x) y = true ↔ (y < W ∧ ce (64 * p + y) = ce (64 * p + x)) ∧ tb M y = true ∧ (nI p = a → (tb S x = true ↔ tb S y = true))) := by
    intro x y hx
    unfold mCl
    rw [tb_andT, tb_andT, tb_pB hW hx]
    constructor
    · rintro ⟨⟨q1, q2⟩, q3⟩
      exact ⟨q1, q2, (side x y (by omega)).mp q3⟩
    · rintro ⟨q1, q2, q3⟩
      exact ⟨⟨q1, q2⟩, (side x y (by omega)).mpr q3⟩
  have sf : ∀ x, x < W → tb M x = true → tb (mCl (pB ce W) M a S p x) x = true := fun x hx mx => (cl x x (by omega)).mpr ⟨⟨hx, rfl⟩, mx, fun _ => Iff.rfl⟩
  obtain ⟨a1, a2, a3⟩ := lst_least (sf w hw mw)
  obtain ⟨b1, b2, b3⟩ := lst_least (sf u hu mu)
  have e1 : mFs (pB ce W) M a S p w = lst (tb (mCl (pB ce W) M a S p w)) w 0 := rfl
  have e2 : mFs (pB ce W) M a S p u = lst (tb (mCl (pB ce W) M a S p u)) u 0 := rfl
  constructor
  · intro h
    rw [e1, e2] at h
    rw [← h] at b1
    have c1 := (cl w _ (by omega)).mp a1
    have c2 := (cl u _ (by omega)).mp b1
    exact ⟨c2.1.2.symm.trans c1.1.2, fun q => (c1.2.2 q).trans (c2.2.2 q).symm⟩
  · rintro ⟨h1, h2⟩
    have es : ∀ y, tb (mCl (pB ce W) M a S p w) y = tb (mCl (pB ce W) M a S p u) y := by
      intro y
      rw [Bool.eq_iff_iff, cl w y (by omega), cl u y (by omega)]
      constructor
      · rintro ⟨q1, q2, q3⟩
        exact ⟨⟨q1.1, q1.2.trans h1.symm⟩, q2, fun q => (h2 q).symm.trans (q3 q)⟩
      · rintro ⟨q1, q2, q3⟩
        exact ⟨⟨q1.1, q1.2.trans h1⟩, q2, fun q => (h2 q).trans (q3 q)⟩
    rw [e1, e2]
    refine lst_eq (sf w hw mw) ?_ (fun j hj => ?_)
    · rw [es]; exact b1
    · rw [es]; exact b3 j hj
/-- the one of M that has number i -/
noncomputable def selM (M : Int64) (W i : Nat) : Nat := if h : i < cnt M W then Classical.choose (cnt_surj h) else 0
theorem selM_of {M : Int64} {W i : Nat} (h : i < cnt M W) : selM M W i < W ∧ tb M (selM M W i) = true ∧ cnt M (selM M W i) = i := by
  unfold selM
  rw [dif_pos h]
  exact Classical.choose_spec (cnt_surj h)
theorem selM_cnt {M : Int64} {W w : Nat} (hw : w < W) (h : tb M w = true) : selM M W (cnt M w) = w := by
  have h1 := selM_of (cnt_lt_of hw h)
  exact cnt_inj h1.2.1 h h1.2.2
/-- behind a lesson -/
theorem VWS_next {I J : Nat → Nat → Int32} {L L' : Nat → Nat → Int64} {np : Nat} {fa : Nat → Nat → Prop} {tie : Nat → Nat → Nat → Prop} {S : Nat → Prop} {r : Nat} {e : Nat → Nat} {W r' : Nat} (hnp : np ≤ 4) (h : VWS I L np fa tie S r e W r') {a p f : Nat} {M : Int64} (ha : a < np) (hp : p < np) (hf : f < 4) (hM : M = rKa (L 66) W a (rSF (I 64) W f)) (hkr : kWh fa tie S a f r) (h1 : J 40 26 = nI (cnt M W)) (h2 : J 40 27 = nI (cnt M r')) (h3 : ∀ w, w < W → tb M w = true → J 64 (cnt M w) = I 64 w) (h4 : ∀ q, q < np → ∀ w, w < W → tb M w = true → J 65 (64 * q + cnt M w) = nI (cnt M (mFs (L 66) M (nI p) (rSF (I 64) W f) q w))) (h5 : ∀ q, q < np → ∀ i, i < cnt M W → L' 66 (64 * q + i) = pB (J 65) (cnt M W) (64 * q + i)) : tb M r' = true ∧ VWS J L' np fa (lT fa tie p f) (lS fa tie S a f) r (fun i => e (selM M W i)) (cnt M W) (cnt M r') := by
  have hkw := fun {i : Nat} (hi : i < W) => h.kw ha hf hi
  obtain ⟨v1, v2, v3, v4, v5, v6, v7, v8, v9⟩ := h
  have hMT : ∀ w, tb M w = true ↔ w < W ∧ kWh fa tie S a f (e w) := by
    intro w
    rw [hM]
    unfold rKa
    rw [tb_mkT v2]
    exact ⟨fun q => ⟨q.1, (hkw q.1).mp q.2⟩, fun q => ⟨q.1, (hkw q.1).mpr q.2⟩⟩
  have hx : ∀ u, tb (rSF (I 64) W f) u = true ↔ u < W ∧ faF (I 64) f u := fun u => by unfold rSF faF; rw [tb_mkT v2, decide_eq_true_eq]
  have hMr : tb M r' = true := (hMT r').mpr ⟨v4, by rw [v5]; exact hkr⟩
  have hcw := cnt_le M W
  have hmm : ∀ q, q < np → ∀ w, w < W → mFs (L 66) M (nI p) (rSF (I 64) W f) q w = mFs (pB (I 65) W) M (nI p) (rSF (I 64) W f) q w := fun q hq w hw => by unfold mFs mCl; rw [v9 q hq w hw]
  refine ⟨hMr, h1, by omega, h2, cnt_lt_of v4 hMr, by show e (selM M W (cnt M r')) = r; rw [selM_cnt v4 hMr]; exact v5, ?_, fun g hg i hi => ?_, fun q hq i hi j hj => ?_, h5⟩
  · refine ⟨fun i hi => ?_, fun w hw => ?_, fun i j hi hj he => ?_⟩
    · obtain ⟨s1, s2, s3⟩ := selM_of hi
      exact ⟨v6.1 _ s1, ((hMT _).mp s2).2⟩
    · obtain ⟨i, hi, rfl⟩ := v6.2.1 w hw.1
      have hm := (hMT i).mpr ⟨hi, hw.2⟩
      exact ⟨cnt M i, cnt_lt_of hi hm, by show e (selM M W (cnt M i)) = e i; rw [selM_cnt hi hm]⟩
    · obtain ⟨s1, s2, s3⟩ := selM_of hi
      obtain ⟨z1, z2, z3⟩ := selM_of hj
      have := v6.2.2 _ _ s1 z1 he
      rw [← s3, ← z3, this]
  · obtain ⟨s1, s2, s3⟩ := selM_of hi
    show faF (J 64) g i ↔ fa g (e (selM M W i))
    rw [← v7 g hg _ s1]
    unfold faF
    have e3 := h3 _ s1 s2
    rw [s3] at e3
    rw [e3]
  · obtain ⟨s1, s2, s3⟩ := selM_of hi
    obtain ⟨z1, z2, z3⟩ := selM_of hj
    have e1 := h4 q hq _ s1 s2
    have e2 := h4 q hq _ z1 z2
    rw [s3, hmm q hq _ s1] at e1
    rw [z3, hmm q hq _ z1] at e2
    have c1 := cnt_le M (mFs (pB (I 65) W) M (nI p) (rSF (I 64) W f) q (selM M W i))
    have c2 := cnt_le M (mFs (pB (I 65) W) M (nI p) (rSF (I 64) W f) q (selM M W j))
    have m1 := mFs_of (B := pB (I 65) W) (a := nI p) (S := rSF (I 64) W f) (p := q) (show selM M W i < 64 by omega) (pB_w s1 v2) s2
    have m2 := mFs_of (B := pB (I 65) W) (a := nI p) (S := rSF (I 64) W f) (p := q) (show selM M W j < 64 by omega) (pB_w z1 v2) z2
    rw [e1, e2, nI_eq (by omega) (by omega)]
    show _ ↔ lT fa tie p f q (e (selM M W i)) (e (selM M W j))
    unfold lT
    rw [← v8 q hq _ s1 _ z1]
    have hpq : nI q = nI p ↔ q = p := nI_eq (by omega) (by omega)
    have key := mFs_eq (ce := I 65) (M := M) (S := rSF (I 64) W f) (a := nI p) (p := q) v2 s1 z1 s2 z2
    have e5 : cnt M (mFs (pB (I 65) W) M (nI p) (rSF (I 64) W f) q (selM M W j)) = cnt M (mFs (pB (I 65) W) M (nI p) (rSF (I 64) W f) q (selM M W i)) ↔ mFs (pB (I 65) W) M (nI p) (rSF (I 64) W f) q (selM M W i) = mFs (pB (I 65) W) M (nI p) (rSF (I 64) W f) q (selM M W j) := ⟨fun q => (cnt_inj m2.2.1 m1.2.1 q).symm, fun q => by rw [q]⟩
    rw [e5, key, hpq]
    refine and_congr_right (fun _ => forall_congr' (fun _ => ?_))
    rw [hx, hx, ← v7 f hf _ s1, ← v7 f hf _ z1]
    exact ⟨fun q => ⟨fun z => (q.mp ⟨s1, z⟩).2, fun z => (q.mpr ⟨z1, z⟩).2⟩, fun q => ⟨fun z => ⟨z1, q.mp z.2⟩, fun z => ⟨s1, q.mpr z.2⟩⟩⟩
