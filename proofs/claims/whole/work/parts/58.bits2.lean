/-! ===== the least of a set; bits of ints ===== -/
theorem lowbit {x : Int64} {k : Nat} (hk : tb x k = true) (hl : ∀ j, j < k → tb x j = false) : x &&& (-x) = jshl 1 (nI k) := by
  have h64 := tb_lt hk
  apply tb_ext
  intro i hi
  rw [tb_b h64 hi, tb_and]
  have hn : tb (-x) i = (tb x i ^^ (decide (i < 64) && decide (∃ j, j < i ∧ tb x j = true))) := by
    unfold tb
    rw [Int64.toBitVec_neg, BitVec.getLsbD_neg]
  rw [hn, decide_eq_true hi, Bool.true_and]
  rcases Nat.lt_trichotomy i k with h | h | h
  · rw [hl i h, Bool.false_and, decide_eq_false (show ¬ i = k by omega)]
  · subst h
    rw [hk, decide_eq_false (by rintro ⟨j, h1, h2⟩; rw [hl j h1] at h2; cases h2), decide_eq_true rfl]; rfl
  · rw [decide_eq_true ⟨k, h, hk⟩, decide_eq_false (show ¬ i = k by omega)]
    cases tb x i <;> rfl
theorem bc_mask : ∀ k, k < 64 → bc64 (jshl 1 (nI k) - 1) = nI k := by decide +kernel
def lsb (x : Int64) : Nat := lst (tb x) 64 0
theorem lsb_of {x : Int64} (h : ¬ x = 0) : tb x (lsb x) = true ∧ lsb x < 64 ∧ ∀ j, j < lsb x → tb x j = false := by
  obtain ⟨i, hi, ht⟩ := tb_nz.mp h
  obtain ⟨a1, a2, a3, a4⟩ := lst_spec (tb x) 64 0
  have hlt : lst (tb x) 64 0 < 64 := by
    apply Nat.lt_of_not_le
    intro q
    have := a3 i (by omega) (by omega)
    rw [ht] at this; cases this
  exact ⟨a4 (by omega), hlt, fun j hj => a3 j (by omega) hj⟩
theorem lsb_eq {x : Int64} {k : Nat} (hk : tb x k = true) (hl : ∀ j, j < k → tb x j = false) : lsb x = k := by
  have hx : ¬ x = 0 := fun e => by rw [e, tb_0] at hk; cases hk
  obtain ⟨a1, a2, a3⟩ := lsb_of hx
  rcases Nat.lt_trichotomy (lsb x) k with h | h | h
  · rw [hl _ h] at a1; cases a1
  · exact h
  · rw [a3 _ h] at hk; cases hk
theorem i64_0 (i : Nat) (x : Int32) (hi : i < 32) : tb x.toInt64 i = x.toBitVec.getLsbD i := by
  unfold tb
  rw [Int32.toBitVec_toInt64, BitVec.getLsbD_signExtend, decide_eq_true (show i < 64 by omega), Bool.true_and, if_pos hi]
theorem rMem_tb (g : Int32) {p : Nat} (hp : p < 32) : tb g.toInt64 p = rMem g p := by
  rw [i64_0 p g hp]
  unfold rMem
  have hs : ∀ k, k < 32 → (nI k &&& 31).toBitVec.smod 32 = BitVec.ofNat 32 k := by decide +kernel
  rw [Bool.eq_iff_iff, decide_eq_true_eq]
  have e : (kshr g (nI p) &&& nI 1) = nI 1 ↔ (kshr g (nI p)).toBitVec.getLsbD 0 = true := by
    rw [← Int32.toBitVec_inj, Int32.toBitVec_and]
    constructor
    · intro h
      have := congrArg (fun b => b.getLsbD 0) h
      simp only [BitVec.getLsbD_and] at this
      have h1 : (nI 1).toBitVec.getLsbD 0 = true := by decide +kernel
      rw [h1, Bool.and_true] at this
      exact this
    · intro h
      apply BitVec.eq_of_getLsbD_eq
      intro i hi
      rw [BitVec.getLsbD_and]
      by_cases h0 : i = 0
      · subst h0; rw [h, Bool.true_and]
      · have h1 : ∀ i, i < 32 → ¬ i = 0 → (nI 1).toBitVec.getLsbD i = false := by decide +kernel
        rw [h1 i hi h0, Bool.and_false]
  rw [e]
  unfold kshr
  rw [Int32.toBitVec_shiftRight, hs p hp, BitVec.sshiftRight_eq', BitVec.toNat_ofNat, BitVec.getLsbD_sshiftRight]
  have h1 : p % 2 ^ 32 = p := Nat.mod_eq_of_lt (by omega)
  rw [h1]
  simp [hp]
theorem tb_nI : ∀ k, k < 16 → ∀ f, f < 4 → tb (nI k).toInt64 f = decide (kshr (nI k) (nI f) &&& nI 1 = nI 1) := by decide +kernel
theorem one_sh : ∀ p, p < 4 → ∀ q, q < 4 → rMem (kshl (nI 1) (nI p)) q = decide (q = p) := by decide +kernel
theorem or_sh : ∀ x, x < 16 → ∀ f, f < 4 → (kshr (nI x) (nI f) &&& nI 1 = nI 1 → nI (x % 2 ^ f) ||| kshl (nI 1) (nI f) = nI (x % 2 ^ (f + 1))) ∧ (¬ kshr (nI x) (nI f) &&& nI 1 = nI 1 → nI (x % 2 ^ f) = nI (x % 2 ^ (f + 1))) := by decide +kernel
section LEAST
variable {G : tkG}
theorem c_least {x : Int64} (hx : ¬ x = 0) {h : tkH} : tkM G mX10_least 1 0 0 [vL x] h (tkF (some (vI (nI (lsb x)))) h) := by
  obtain ⟨a1, a2, a3⟩ := lsb_of hx
  refine tkM.of (ls := [some _, none]) (by decide +kernel) (by decide +kernel) (Nat.le_of_ble_eq_true rfl) rfl ?_
  refine tk_lload0 dX10_least_0 ?_
  refine tk_lload0 dX10_least_1 ?_
  refine tk_lneg dX10_least_2 ?_
  refine tk_land dX10_least_3 ?_
  refine tk_lconst dX10_least_4 (v := 1) (by decide) ?_
  refine tk_lsub dX10_least_5 ?_
  refine tk_callS1z dX10_least_6 kX10_309 (j_bc64 _) (Nat.le_of_ble_eq_true rfl) (by omega) ?_
  refine tk_ireturn dX10_least_9 rfl ?_
  exact tki (by rw [lowbit a1 a3, bc_mask _ a2])
end LEAST
