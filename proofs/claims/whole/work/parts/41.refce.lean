/-! ===== the reference: see ===== -/
theorem mk_cut {I1 : Nat → Nat → Int32} {B : Nat → Int64} {M S : Int64} {a : Int32} {np W r : Nat} (hW : W ≤ 64) (hB : ∀ p, p < np → ∀ w, w < W → tb (B (64 * p + w)) w = true) : (∀ p, p < np → ∀ i, i < cnt M W → mkI I1 M r W (rMp M (mFs B M a S) W (I1 71) np) 71 (128 * p + i) = nI (ix (mkI I1 M r W (rMp M (mFs B M a S) W (I1 71) np) 71 (128 * p + i))) ∧ ix (mkI I1 M r W (rMp M (mFs B M a S) W (I1 71) np) 71 (128 * p + i)) < cnt M W) ∧ MADE np W (I1 64) B M a S (fun p i => ix (mkI I1 M r W (rMp M (mFs B M a S) W (I1 71) np) 71 (128 * p + i))) (mkI I1 M r W (rMp M (mFs B M a S) W (I1 71) np) 70) := by
  have e1 : mkI I1 M r W (rMp M (mFs B M a S) W (I1 71) np) 71 = rMp M (mFs B M a S) W (I1 71) np := by unfold mkI; simp only [va_up_self, bx_uu, tk_une, tk_usrt, not_false_eq_true, Nat.reduceEqDiff, Nat.reduceLT, Nat.reduceAdd, Nat.reduceMul, Nat.reduceLeDiff, reduceCtorEq]
  have e2 : mkI I1 M r W (rMp M (mFs B M a S) W (I1 71) np) 70 = rMf M (I1 64) (I1 70) W := by unfold mkI; simp only [va_up_self, bx_uu, tk_une, tk_usrt, not_false_eq_true, Nat.reduceEqDiff, Nat.reduceLT, Nat.reduceAdd, Nat.reduceMul, Nat.reduceLeDiff, reduceCtorEq]
  rw [e1, e2]
  have key : ∀ p, p < np → ∀ w, w < W → tb M w = true → rMp M (mFs B M a S) W (I1 71) np (128 * p + cnt M w) = nI (cnt M (mFs B M a S p w)) ∧ cnt M (mFs B M a S p w) < cnt M W := by
    intro p hp w hw hm
    obtain ⟨f1, f2, f3⟩ := mFs_of (a := a) (S := S) (show w < 64 by omega) (hB p hp w hw) hm
    exact ⟨rMp_at hW hp hw hm, cnt_lt_of (by omega) f2⟩
  have hle := cnt_le M W
  refine ⟨fun p hp i hi => ?_, fun w hw hm => ⟨rMf_at hw hm, fun p hp => ?_⟩⟩
  · obtain ⟨w, h1, h2, rfl⟩ := cnt_surj hi
    obtain ⟨k1, k2⟩ := key p hp w h1 h2
    rw [k1, ix_nI (by omega)]
    exact ⟨rfl, k2⟩
  · obtain ⟨k1, k2⟩ := key p hp w hw hm
    show ix (rMp M (mFs B M a S) W (I1 71) np (128 * p + cnt M w)) = _
    rw [k1, ix_nI (by omega)]
def LQ (n : Nat) (T : Nat → Nat × Nat) (P : Nat → Nat → Option Nat) (L : Nat → Nat → Int64) (I : Nat → Nat → Int32) (m np W r : Nat) (vf : Nat → Int32) (B : Nat → Int64) (M : Int64) (a : Int32) (S : Int64) : Option tkV → tkH → Prop := fun v h => ∃ (I' : Nat → Nat → Int32) (L' : Nat → Nat → Int64) (W' r' : Nat) (f' c' ff : Nat → Int32) (cc : Nat → Nat → Nat), v = some (vI (nI W')) ∧ h = (n, T, I', L', P) ∧ rSm I' (rLay (rKp I m) (nI W') (nI r') f' c') ∧ rLm L L' ∧ MADE np W vf B M a S cc ff ∧ LAID (cnt M W) (cnt M r) np cc ff W' r' f' c'
theorem rSm_mkI {I J : Nat → Nat → Int32} {M : Int64} {r w : Nat} {g : Nat → Int32} (h : rSm I J) : rSm (mkI I M r w g) J := by
  unfold mkI
  refine ⟨fun a ha => ?_, ?_, ?_⟩
  · rw [va_up_ne _ _ (by omega), va_up_ne _ _ (by omega), va_up_ne _ _ (by omega), va_up_ne _ _ (by omega)]; exact h.1 a ha
  · simp only [va_up_self, bx_uu, tk_une, tk_usrt, not_false_eq_true, Nat.reduceEqDiff, Nat.reduceLT, Nat.reduceAdd, Nat.reduceMul, Nat.reduceLeDiff, reduceCtorEq]; exact h.2.1
  · simp only [va_up_self, bx_uu, tk_une, tk_usrt, not_false_eq_true, Nat.reduceEqDiff, Nat.reduceLT, Nat.reduceAdd, Nat.reduceMul, Nat.reduceLeDiff, reduceCtorEq]; exact h.2.2
theorem rSm_cutB {I J : Nat → Nat → Int32} {f0 f4 f5 g2 g3 g4 g5 g6 : Nat → Int32} (h : rSm I J) (h1 : f0 20 = I 40 20) (h2 : f0 24 = I 40 24) : rSm (cutB I f0 f4 f5 g2 g3 g4 g5 g6) J := by
  unfold cutB
  refine ⟨fun a ha => ?_, ?_, ?_⟩
  · rw [va_up_ne _ _ (by omega), va_up_ne _ _ (by omega), va_up_ne _ _ (by omega), va_up_ne _ _ (by omega), va_up_ne _ _ (by omega), va_up_ne _ _ (by omega), va_up_ne _ _ (by omega), va_up_ne _ _ (by omega)]; exact h.1 a ha
  · simp only [va_up_self, bx_uu, tk_une, tk_usrt, not_false_eq_true, Nat.reduceEqDiff, Nat.reduceLT, Nat.reduceAdd, Nat.reduceMul, Nat.reduceLeDiff, reduceCtorEq]; rw [h1]; exact h.2.1
  · simp only [va_up_self, bx_uu, tk_une, tk_usrt, not_false_eq_true, Nat.reduceEqDiff, Nat.reduceLT, Nat.reduceAdd, Nat.reduceMul, Nat.reduceLeDiff, reduceCtorEq]; rw [h2]; exact h.2.2
/-- behind cut: what lay lays -/
theorem LQ_of {n : Nat} {T : Nat → Nat × Nat} {P : Nat → Nat → Option Nat} {L L' : Nat → Nat → Int64} {I J : Nat → Nat → Int32} {m np W r W' r' : Nat} {vf ff : Nat → Int32} {B : Nat → Int64} {M S : Int64} {a : Int32} {cc : Nat → Nat → Nat} (h1 : rSm J I) (h2 : rLm L L') (hW : J 40 26 = nI W') (hr : J 40 27 = nI r') (h3 : MADE np W vf B M a S cc ff) (h4 : LAID (cnt M W) (cnt M r) np cc ff W' r' (J 64) (J 65)) : LQ n T P L I m np W r vf B M a S (some (vI (J 40 26))) (n, T, rLay (rKp J m) (J 40 26) (J 40 27) (J 64) (J 65), L', P) := by
  rw [hW, hr]
  exact ⟨_, L', W', r', J 64, J 65, ff, cc, rfl, rfl, rSm_Lay (rSm_Kp h1), h2, h3, h4⟩
