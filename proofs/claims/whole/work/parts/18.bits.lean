/-! ===== longs as sets of worlds ===== -/
def tb (x : Int64) (i : Nat) : Bool := x.toBitVec.getLsbD i
theorem tb_ext {x y : Int64} (h : ∀ i, i < 64 → tb x i = tb y i) : x = y := Int64.toBitVec_inj.mp (BitVec.eq_of_getLsbD_eq (fun i hi => h i hi))
theorem tb_big {x : Int64} {i : Nat} (h : 64 ≤ i) : tb x i = false := BitVec.getLsbD_of_ge _ _ h
theorem tb_and (x y : Int64) (i : Nat) : tb (x &&& y) i = (tb x i && tb y i) := by
  unfold tb
  rw [Int64.toBitVec_and, BitVec.getLsbD_and]
theorem tb_or (x y : Int64) (i : Nat) : tb (x ||| y) i = (tb x i || tb y i) := by
  unfold tb
  rw [Int64.toBitVec_or, BitVec.getLsbD_or]
theorem tb_0 (i : Nat) : tb 0 i = false := by
  unfold tb
  rw [show (0 : Int64).toBitVec = 0#64 by decide, BitVec.getLsbD_zero]
theorem tb_m1 {i : Nat} (h : i < 64) : tb (-1) i = true := by
  unfold tb
  rw [show (-1 : Int64).toBitVec = BitVec.allOnes 64 by decide, BitVec.getLsbD_allOnes, decide_eq_true h]
theorem tb_not (x : Int64) {i : Nat} (h : i < 64) : tb (x ^^^ (-1)) i = !tb x i := by
  have := tb_m1 h
  unfold tb at this ⊢
  rw [Int64.toBitVec_xor, BitVec.getLsbD_xor, this, Bool.xor_true]
theorem tb_1 (i : Nat) : tb 1 i = decide (i = 0) := by
  unfold tb
  rw [show (1 : Int64).toBitVec = 1#64 by decide]
  simp [BitVec.getLsbD_one]
theorem jsm : ∀ k, k < 64 → ((nI k).toInt64 &&& 63).toBitVec.smod 64 = BitVec.ofNat 64 k := by decide +kernel
theorem jsmu : ∀ k, k < 64 → ((nI k).toInt64.toUInt64 &&& Int64.toUInt64 63).toNat = k := by decide +kernel
theorem tb_shl (x : Int64) {k i : Nat} (hk : k < 64) (hi : i < 64) : tb (jshl x (nI k)) i = (decide (k ≤ i) && tb x (i - k)) := by
  unfold tb jshl
  rw [Int64.toBitVec_shiftLeft, jsm k hk, BitVec.shiftLeft_eq', BitVec.toNat_ofNat, Nat.mod_eq_of_lt (by omega), BitVec.getLsbD_shiftLeft]
  by_cases h : k ≤ i
  · simp [hi, h, show ¬ i < k by omega]
  · simp [hi, h, show i < k by omega]
theorem tb_b {k i : Nat} (hk : k < 64) (hi : i < 64) : tb (jshl 1 (nI k)) i = decide (i = k) := by
  rw [tb_shl 1 hk hi, tb_1]
  by_cases h : i = k
  · subst h; simp
  · simp [h]; omega
theorem tb_shr0 (x : Int64) {k : Nat} (hk : k < 64) : tb (jshr x (nI k)) 0 = tb x k := by
  unfold tb jshr
  rw [Int64.toBitVec_shiftRight, jsm k hk, BitVec.sshiftRight_eq', BitVec.toNat_ofNat, Nat.mod_eq_of_lt (by omega), BitVec.getLsbD_sshiftRight]
  simp [hk]
theorem tb_ushr (x : Int64) {k : Nat} (hk : k < 64) (i : Nat) : tb (jushr x (nI k)) i = tb x (k + i) := by
  have e : (jushr x (nI k)).toBitVec = x.toBitVec >>> k := by
    unfold jushr
    apply BitVec.eq_of_toNat_eq
    show (x.toUInt64 >>> ((nI k).toInt64.toUInt64 &&& Int64.toUInt64 63)).toNat = _
    rw [UInt64.toNat_shiftRight, jsmu k hk, Nat.mod_eq_of_lt hk, BitVec.toNat_ushiftRight]
    rfl
  unfold tb
  rw [e, BitVec.getLsbD_ushiftRight]
theorem tb_and1 (y : Int64) : y &&& 1 = if tb y 0 then 1 else 0 := by
  apply tb_ext
  intro i hi
  rw [tb_and, tb_1]
  by_cases h : i = 0
  · subst h
    cases tb y 0 <;> simp [tb_1, tb_0]
  · simp only [decide_eq_false h, Bool.and_false]
    split
    · rw [tb_1]; simp [h]
    · rw [tb_0]
theorem lgc0 (x y : Int64) : lg_cmp x y = 0 ↔ x = y := lg_cmp_eq x y
theorem tb_t1 (x : Int64) {k : Nat} (hk : k < 64) : lg_cmp (jshr x (nI k) &&& 1) 1 = 0 ↔ tb x k = true := by
  rw [lgc0, tb_and1, tb_shr0 x hk]
  cases tb x k <;> decide
theorem tb_t0 (x : Int64) {k : Nat} (hk : k < 64) : lg_cmp (jshr x (nI k) &&& 1) 0 = 0 ↔ tb x k = false := by
  rw [lgc0, tb_and1, tb_shr0 x hk]
  cases tb x k <;> decide
theorem tb_u0 (x : Int64) {k : Nat} (hk : k < 64) : lg_cmp (jushr x (nI k) &&& 1) 0 = 0 ↔ tb x k = false := by
  rw [lgc0, tb_and1, tb_ushr x hk]
  cases tb x (k + 0) <;> decide
theorem tb_sh1 (x : Int64) {k : Nat} (hk : k < 64) : jshr x (nI k) &&& 1 = if tb x k then 1 else 0 := by rw [tb_and1, tb_shr0 x hk]
theorem tb_z {x : Int64} : x = 0 ↔ ∀ i, i < 64 → tb x i = false := ⟨fun h i _ => by rw [h, tb_0], fun h => tb_ext (fun i hi => by rw [h i hi, tb_0])⟩
theorem tb_nz {x : Int64} : ¬ x = 0 ↔ ∃ i, i < 64 ∧ tb x i = true := by
  rw [tb_z]
  constructor
  · intro h
    by_cases q : ∃ i, i < 64 ∧ tb x i = true
    · exact q
    · exact absurd (fun i hi => by cases e : tb x i with
        | false => rfl
        | true => exact absurd ⟨i, hi, e⟩ q) h
  · rintro ⟨i, hi, h⟩ q
    rw [q i hi] at h
    cases h
theorem evr_sub : ∀ W, W < 64 → (BitVec.twoPow 64 W - 1#64) = BitVec.ofNat 64 (2 ^ W - 1) := by decide +kernel
theorem tb_evr {W i : Nat} (hW : W ≤ 64) (hi : i < 64) : tb (evr W) i = decide (i < W) := by
  unfold evr
  by_cases h : W = 64
  · rw [if_pos h, tb_m1 hi, decide_eq_true (by omega)]
  · rw [if_neg h]
    have e : (jshl 1 (nI W) - 1).toBitVec = BitVec.ofNat 64 (2 ^ W - 1) := by
      rw [Int64.toBitVec_sub]
      unfold jshl
      rw [Int64.toBitVec_shiftLeft, jsm W (by omega), BitVec.shiftLeft_eq', BitVec.toNat_ofNat, Nat.mod_eq_of_lt (by omega), ← evr_sub W (by omega)]
      congr 1
    unfold tb
    rw [e, BitVec.getLsbD_ofNat, Nat.testBit_two_pow_sub_one]
    simp [hi]
/-- the set of a truth about worlds below 64 -/
def mk (f : Nat → Bool) : Nat → Int64
  | 0 => 0
  | k + 1 => mk f k ||| (if f k then jshl 1 (nI k) else 0)
theorem tb_mk (f : Nat → Bool) {W i : Nat} (hW : W ≤ 64) (hi : i < 64) : tb (mk f W) i = (decide (i < W) && f i) := by
  induction W with
  | zero => rw [mk, tb_0]; simp
  | succ k ih =>
    rw [mk, tb_or, ih (by omega)]
    cases hf : f k with
    | true =>
      rw [if_pos rfl, tb_b (by omega) hi]
      by_cases h : i = k
      · subst h; simp [hf]
      · by_cases h2 : i < k
        · simp [h, h2, show i < k + 1 by omega]
        · simp [h, h2, show ¬ i < k + 1 by omega]
    | false =>
      rw [if_neg (by decide), tb_0, Bool.or_false]
      by_cases h : i = k
      · subst h; simp [hf]
      · by_cases h2 : i < k
        · simp [h2, show i < k + 1 by omega]
        · simp [h2, show ¬ i < k + 1 by omega]
theorem rSt_mk (c : Nat → Int32) (p w u : Nat) : rSt c p w u = mk (fun v => decide (c (64 * p + v) = c (64 * p + w))) u := by
  induction u with
  | zero => rfl
  | succ u ih =>
    rw [rSt, mk, ih]
    by_cases h : c (64 * p + u) = c (64 * p + w)
    · rw [if_pos h, if_pos (decide_eq_true h)]
    · rw [if_neg h, if_neg (by simp [h])]
