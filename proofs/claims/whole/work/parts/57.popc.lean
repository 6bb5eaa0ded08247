/-! ===== counting bits ===== -/
def bcA (i : Int64) : Int64 := i - (jushr i (nI 1) &&& 6148914691236517205)
def bcB (a : Int64) : Int64 := (a &&& 3689348814741910323) + (jushr a (nI 2) &&& 3689348814741910323)
def bcC (b : Int64) : Int64 := (b + jushr b (nI 4)) &&& 1085102592571150095
def bcD (c : Int64) (k : Nat) : Int64 := c + jushr c (nI k)
def bc64 (i : Int64) : Int32 := (bcD (bcD (bcD (bcC (bcB (bcA i))) 8) 16) 32).toInt32 &&& nI 127
def bc32 (i : Int32) : Int32 :=
  let a := i - (kushr i (nI 1) &&& nI 1431655765)
  let b := (a &&& nI 858993459) + (kushr a (nI 2) &&& nI 858993459)
  let c := (b + kushr b (nI 4)) &&& nI 252645135
  let d := c + kushr c (nI 8)
  let e := d + kushr d (nI 16)
  e &&& nI 63
section POPC
variable {G : tkG}
theorem j_bc64 (x : Int64) {h : tkH} : tkM G mJ13_bitCount_95d88 0 0 0 [vL x] h (tkF (some (vI (bc64 x))) h) := by
  refine tkM.of (ls := [some _, none]) (by decide +kernel) (by decide +kernel) (Nat.le_of_ble_eq_true rfl) rfl ?_
  refine tk_lload0 dJ13_bitCount_95d88_0 ?_
  refine tk_lload0 dJ13_bitCount_95d88_1 ?_
  refine tk_iconst dJ13_bitCount_95d88_2 kc_iconst_1 ?_
  refine tk_lushr dJ13_bitCount_95d88_3 ?_
  refine tk_ldc2 dJ13_bitCount_95d88_4 klJ13_314 ?_
  refine tk_land dJ13_bitCount_95d88_7 ?_
  refine tk_lsub dJ13_bitCount_95d88_8 ?_
  refine tk_lstore0 dJ13_bitCount_95d88_9 ?_
  refine tk_lload0 dJ13_bitCount_95d88_10 ?_
  refine tk_ldc2 dJ13_bitCount_95d88_11 klJ13_316 ?_
  refine tk_land dJ13_bitCount_95d88_14 ?_
  refine tk_lload0 dJ13_bitCount_95d88_15 ?_
  refine tk_iconst dJ13_bitCount_95d88_16 kc_iconst_2 ?_
  refine tk_lushr dJ13_bitCount_95d88_17 ?_
  refine tk_ldc2 dJ13_bitCount_95d88_18 klJ13_316 ?_
  refine tk_land dJ13_bitCount_95d88_21 ?_
  refine tk_ladd dJ13_bitCount_95d88_22 ?_
  refine tk_lstore0 dJ13_bitCount_95d88_23 ?_
  refine tk_lload0 dJ13_bitCount_95d88_24 ?_
  refine tk_lload0 dJ13_bitCount_95d88_25 ?_
  refine tk_iconst dJ13_bitCount_95d88_26 kc_iconst_4 ?_
  refine tk_lushr dJ13_bitCount_95d88_27 ?_
  refine tk_ladd dJ13_bitCount_95d88_28 ?_
  refine tk_ldc2 dJ13_bitCount_95d88_29 klJ13_318 ?_
  refine tk_land dJ13_bitCount_95d88_32 ?_
  refine tk_lstore0 dJ13_bitCount_95d88_33 ?_
  refine tk_lload0 dJ13_bitCount_95d88_34 ?_
  refine tk_lload0 dJ13_bitCount_95d88_35 ?_
  refine tk_bipush dJ13_bitCount_95d88_36 kc_bipush_8 ?_
  refine tk_lushr dJ13_bitCount_95d88_38 ?_
  refine tk_ladd dJ13_bitCount_95d88_39 ?_
  refine tk_lstore0 dJ13_bitCount_95d88_40 ?_
  refine tk_lload0 dJ13_bitCount_95d88_41 ?_
  refine tk_lload0 dJ13_bitCount_95d88_42 ?_
  refine tk_bipush dJ13_bitCount_95d88_43 kc_bipush_16 ?_
  refine tk_lushr dJ13_bitCount_95d88_45 ?_
  refine tk_ladd dJ13_bitCount_95d88_46 ?_
  refine tk_lstore0 dJ13_bitCount_95d88_47 ?_
  refine tk_lload0 dJ13_bitCount_95d88_48 ?_
  refine tk_lload0 dJ13_bitCount_95d88_49 ?_
  refine tk_bipush dJ13_bitCount_95d88_50 kc_bipush_32 ?_
  refine tk_lushr dJ13_bitCount_95d88_52 ?_
  refine tk_ladd dJ13_bitCount_95d88_53 ?_
  refine tk_lstore0 dJ13_bitCount_95d88_54 ?_
  refine tk_lload0 dJ13_bitCount_95d88_55 ?_
  refine tk_l2i dJ13_bitCount_95d88_56 ?_
  refine tk_bipush dJ13_bitCount_95d88_57 kc_bipush_127 ?_
  refine tk_iand dJ13_bitCount_95d88_59 ?_
  refine tk_ireturn dJ13_bitCount_95d88_60 rfl ?_
  exact ⟨rfl, rfl⟩
theorem j_bc32 (x : Int32) {h : tkH} : tkM G mJ6_bitCount_0f7a4 0 0 0 [vI x] h (tkF (some (vI (bc32 x))) h) := by
  refine tkM.of (ls := [some _]) (by decide +kernel) (by decide +kernel) (Nat.le_of_ble_eq_true rfl) rfl ?_
  refine tk_iload0 dJ6_bitCount_0f7a4_0 ?_
  refine tk_iload0 dJ6_bitCount_0f7a4_1 ?_
  refine tk_iconst dJ6_bitCount_0f7a4_2 kc_iconst_1 ?_
  refine tk_iushr dJ6_bitCount_0f7a4_3 ?_
  refine tk_ldcw dJ6_bitCount_0f7a4_4 klJ6_265 ?_
  refine tk_iand dJ6_bitCount_0f7a4_7 ?_
  first | refine tk_isubN dJ6_bitCount_0f7a4_8 (by omega) ?_ | refine tk_isub dJ6_bitCount_0f7a4_8 ?_
  refine tk_istore0 dJ6_bitCount_0f7a4_9 ?_
  refine tk_iload0 dJ6_bitCount_0f7a4_10 ?_
  refine tk_ldcw dJ6_bitCount_0f7a4_11 klJ6_266 ?_
  refine tk_iand dJ6_bitCount_0f7a4_14 ?_
  refine tk_iload0 dJ6_bitCount_0f7a4_15 ?_
  refine tk_iconst dJ6_bitCount_0f7a4_16 kc_iconst_2 ?_
  refine tk_iushr dJ6_bitCount_0f7a4_17 ?_
  refine tk_ldcw dJ6_bitCount_0f7a4_18 klJ6_266 ?_
  refine tk_iand dJ6_bitCount_0f7a4_21 ?_
  first | refine tk_iaddN dJ6_bitCount_0f7a4_22 ?_ | refine tk_iadd dJ6_bitCount_0f7a4_22 ?_
  refine tk_istore0 dJ6_bitCount_0f7a4_23 ?_
  refine tk_iload0 dJ6_bitCount_0f7a4_24 ?_
  refine tk_iload0 dJ6_bitCount_0f7a4_25 ?_
  refine tk_iconst dJ6_bitCount_0f7a4_26 kc_iconst_4 ?_
  refine tk_iushr dJ6_bitCount_0f7a4_27 ?_
  first | refine tk_iaddN dJ6_bitCount_0f7a4_28 ?_ | refine tk_iadd dJ6_bitCount_0f7a4_28 ?_
  refine tk_ldcw dJ6_bitCount_0f7a4_29 klJ6_267 ?_
  refine tk_iand dJ6_bitCount_0f7a4_32 ?_
  refine tk_istore0 dJ6_bitCount_0f7a4_33 ?_
  refine tk_iload0 dJ6_bitCount_0f7a4_34 ?_
  refine tk_iload0 dJ6_bitCount_0f7a4_35 ?_
  refine tk_bipush dJ6_bitCount_0f7a4_36 kc_bipush_8 ?_
  refine tk_iushr dJ6_bitCount_0f7a4_38 ?_
  first | refine tk_iaddN dJ6_bitCount_0f7a4_39 ?_ | refine tk_iadd dJ6_bitCount_0f7a4_39 ?_
  refine tk_istore0 dJ6_bitCount_0f7a4_40 ?_
  refine tk_iload0 dJ6_bitCount_0f7a4_41 ?_
  refine tk_iload0 dJ6_bitCount_0f7a4_42 ?_
  refine tk_bipush dJ6_bitCount_0f7a4_43 kc_bipush_16 ?_
  refine tk_iushr dJ6_bitCount_0f7a4_45 ?_
  first | refine tk_iaddN dJ6_bitCount_0f7a4_46 ?_ | refine tk_iadd dJ6_bitCount_0f7a4_46 ?_
  refine tk_istore0 dJ6_bitCount_0f7a4_47 ?_
  refine tk_iload0 dJ6_bitCount_0f7a4_48 ?_
  refine tk_bipush dJ6_bitCount_0f7a4_49 kc_bipush_63 ?_
  refine tk_iand dJ6_bitCount_0f7a4_51 ?_
  refine tk_ireturn dJ6_bitCount_0f7a4_52 rfl ?_
  exact ⟨rfl, rfl⟩
end POPC
theorem and_split (u M : Nat) : u &&& M = 256 * ((u / 256) &&& (M / 256)) + ((u % 256) &&& (M % 256)) := by
  have h1 := Nat.div_add_mod (u &&& M) 256
  have h2 : (u &&& M) / 2 ^ 8 = u / 2 ^ 8 &&& M / 2 ^ 8 := Nat.and_div_two_pow
  have h3 : (u &&& M) % 2 ^ 8 = (u % 2 ^ 8) &&& (M % 2 ^ 8) := Nat.and_mod_two_pow
  rw [show (2 : Nat) ^ 8 = 256 from rfl] at h2 h3
  rw [h2, h3] at h1
  exact h1.symm
def ps1 (M x : Nat) : Nat := x - ((x / 2) &&& M)
def ps2 (M x : Nat) : Nat := (x &&& M) + ((x / 4) &&& M)
def ps3 (M x : Nat) : Nat := (x + x / 16) &&& M
theorem ps1_d : ∀ a, a < 256 → ∀ b, b < 2 → (128 * b + a / 2) &&& 85 = (a / 2) &&& 85 := by decide +kernel
theorem ps2_d : ∀ a, a < 256 → ∀ b, b < 4 → (64 * b + a / 4) &&& 51 = (a / 4) &&& 51 := by decide +kernel
theorem ps3_d : ∀ a, a < 103 → ∀ b, b < 7 → (16 * b + a + a / 16) &&& 15 = (a + a / 16) &&& 15 := by decide +kernel
theorem ps2_b : ∀ a, a < 256 → ps2 51 a ≤ 102 ∧ ps2 51 a / 16 ≤ 6 := by decide +kernel
theorem ps1_split {M x a : Nat} (ha : a < 256) (hM : M % 256 = 85) : ps1 M (256 * x + a) = 256 * ps1 (M / 256) x + ps1 85 a := by
  unfold ps1
  rw [and_split ((256 * x + a) / 2) M, hM, show (256 * x + a) / 2 / 256 = x / 2 by omega, show (256 * x + a) / 2 % 256 = 128 * (x % 2) + a / 2 by omega, ps1_d a ha (x % 2) (by omega)]
  have h1 : (x / 2) &&& (M / 256) ≤ x / 2 := Nat.and_le_left
  have h2 : (a / 2) &&& 85 ≤ a / 2 := Nat.and_le_left
  omega
theorem ps2_split {M x a : Nat} (ha : a < 256) (hM : M % 256 = 51) : ps2 M (256 * x + a) = 256 * ps2 (M / 256) x + ps2 51 a := by
  unfold ps2
  rw [and_split (256 * x + a) M, and_split ((256 * x + a) / 4) M, hM, show (256 * x + a) / 256 = x by omega, show (256 * x + a) % 256 = a by omega, show (256 * x + a) / 4 / 256 = x / 4 by omega, show (256 * x + a) / 4 % 256 = 64 * (x % 4) + a / 4 by omega, ps2_d a ha (x % 4) (by omega)]
  omega
theorem ps3_split {M x a : Nat} (h1 : x % 16 ≤ 6) (h2 : a ≤ 102) (h3 : a / 16 ≤ 6) (hM : M % 256 = 15) : ps3 M (256 * x + a) = 256 * ps3 (M / 256) x + ps3 15 a := by
  unfold ps3
  rw [and_split (256 * x + a + (256 * x + a) / 16) M, hM, show (256 * x + a + (256 * x + a) / 16) / 256 = x + x / 16 by omega, show (256 * x + a + (256 * x + a) / 16) % 256 = 16 * (x % 16) + a + a / 16 by omega, ps3_d a (by omega) (x % 16) (by omega)]
theorem ps2_16 {M x : Nat} (hM : M % 16 = 3) : ps2 M x % 16 ≤ 6 := by
  unfold ps2
  have h1 : (x &&& M) % 2 ^ 4 = (x % 2 ^ 4) &&& (M % 2 ^ 4) := Nat.and_mod_two_pow
  have h2 : ((x / 4) &&& M) % 2 ^ 4 = ((x / 4) % 2 ^ 4) &&& (M % 2 ^ 4) := Nat.and_mod_two_pow
  rw [show (2 : Nat) ^ 4 = 16 from rfl, hM] at h1 h2
  have a1 : (x % 16) &&& 3 ≤ 3 := Nat.and_le_right
  have a2 : (x / 4 % 16) &&& 3 ≤ 3 := Nat.and_le_right
  omega
def psD (M5 M3 MF x : Nat) : Nat := ps3 MF (ps2 M3 (ps1 M5 x))
theorem psD_split {M5 M3 MF x a : Nat} (ha : a < 256) (h5 : M5 % 256 = 85) (h3 : M3 % 256 = 51) (hF : MF % 256 = 15) (h16 : M3 / 256 % 16 = 3) : psD M5 M3 MF (256 * x + a) = 256 * psD (M5 / 256) (M3 / 256) (MF / 256) x + psD 85 51 15 a := by
  unfold psD
  have hl : ps1 85 a < 256 := by unfold ps1; omega
  have hb := ps2_b _ hl
  rw [ps1_split ha h5, ps2_split hl h3, ps3_split (ps2_16 h16) hb.1 hb.2 hF]
def cntN (N : Nat) : Nat → Nat
  | 0 => 0
  | k + 1 => cntN N k + (if N.testBit k then 1 else 0)
theorem psD_byte : ∀ a, a < 256 → psD 85 51 15 a = cntN a 8 := by decide +kernel
theorem cntN_split {y a : Nat} (ha : a < 256) : ∀ k, cntN (256 * y + a) (8 + k) = cntN a 8 + cntN y k := by
  have tbt : ∀ j, (256 * y + a).testBit j = if j < 8 then a.testBit j else y.testBit (j - 8) := fun j => by
    have := Nat.testBit_two_pow_mul_add y (show a < 2 ^ 8 by omega) j
    rw [show (2 : Nat) ^ 8 = 256 from rfl] at this
    exact this
  have h8 : ∀ k, k ≤ 8 → cntN (256 * y + a) k = cntN a k := by
    intro k
    induction k with
    | zero => intro _; rfl
    | succ k ih =>
      intro hk
      have e := tbt k
      rw [if_pos (by omega)] at e
      rw [cntN, cntN, ih (by omega), e]
  intro k
  induction k with
  | zero => rw [cntN, Nat.add_zero, Nat.add_zero]; exact h8 8 (by omega)
  | succ k ih =>
    have e := tbt (8 + k)
    rw [if_neg (by omega), show 8 + k - 8 = k by omega] at e
    rw [show 8 + (k + 1) = (8 + k) + 1 by omega, cntN, ih, cntN.eq_2 y k, e]
    omega
theorem cntN_8 : ∀ a, a < 256 → cntN a 8 ≤ 8 := by decide +kernel
def toN (x : Int64) : Nat := x.toBitVec.toNat
theorem toN_lt (x : Int64) : toN x < 2 ^ 64 := x.toBitVec.isLt
theorem toN_tb (x : Int64) (i : Nat) : (toN x).testBit i = tb x i := rfl
theorem toN_and (x y : Int64) : toN (x &&& y) = toN x &&& toN y := by
  apply Nat.eq_of_testBit_eq
  intro i
  rw [Nat.testBit_and, toN_tb, toN_tb, toN_tb, tb_and]
theorem toN_ushr (x : Int64) {k : Nat} (hk : k < 64) : toN (jushr x (nI k)) = toN x / 2 ^ k := by
  rw [← Nat.shiftRight_eq_div_pow]
  apply Nat.eq_of_testBit_eq
  intro i
  rw [Nat.testBit_shiftRight, toN_tb, toN_tb, tb_ushr x hk]
theorem toN_add {x y : Int64} (h : toN x + toN y < 2 ^ 64) : toN (x + y) = toN x + toN y := by
  unfold toN at *
  rw [Int64.toBitVec_add, BitVec.toNat_add, Nat.mod_eq_of_lt h]
theorem toN_sub {x y : Int64} (h : toN y ≤ toN x) : toN (x - y) = toN x - toN y := by
  unfold toN at *
  rw [Int64.toBitVec_sub, BitVec.toNat_sub]
  have := x.toBitVec.isLt
  omega
theorem cnt_toN (x : Int64) (k : Nat) : cnt x k = cntN (toN x) k := by
  induction k with
  | zero => rfl
  | succ k ih => rw [cnt, cntN, ih, toN_tb]
theorem toN_127 (f : Int64) : f.toInt32 &&& nI 127 = nI (toN f % 128) := by
  apply Int32.toBitVec_inj.mp
  apply BitVec.eq_of_toNat_eq
  rw [Int32.toBitVec_and, BitVec.toNat_and]
  have e1 : (f.toInt32).toBitVec.toNat = toN f % 2 ^ 32 := by
    rw [Int64.toBitVec_toInt32, BitVec.signExtend_eq_setWidth_of_le _ (by omega), BitVec.toNat_setWidth]; rfl
  have e2 : (nI 127).toBitVec.toNat = 127 := by decide +kernel
  have e3 : (nI (toN f % 128)).toBitVec.toNat = toN f % 128 := by
    unfold nI
    rw [Int32.toBitVec_ofNat', BitVec.toNat_ofNat]
    omega
  rw [e1, e2, e3]
  have h3 : (toN f % 2 ^ 32) &&& (2 ^ 7 - 1) = (toN f % 2 ^ 32) % 2 ^ 7 := Nat.and_two_pow_sub_one_eq_mod _ _
  rw [show (2 : Nat) ^ 7 - 1 = 127 from rfl, show (2 : Nat) ^ 7 = 128 from rfl] at h3
  rw [h3]
  omega
theorem f8B {c K B y : Nat} (h : y = c + 256 * K) (h1 : c ≤ 8) (h2 : K ≤ B) : y ≤ 8 + 256 * B := by omega
theorem f8S {a b K1 K2 K3 : Nat} (h : K1 = a + 256 * K2) (h1 : K2 = b + 256 * K3) : K1 + K2 = (a + b) + 256 * (K2 + K3) := by omega
theorem f8T {a b u1 u2 u3 u4 : Nat} (h : u1 = a + 256 * u2) (h1 : u3 = b + 256 * u4) : u1 + u3 = (a + b) + 256 * (u2 + u4) := by omega
theorem f8D {c y K : Nat} (h : y = c + 256 * K) (h1 : c ≤ 40) : y / 256 = K := by omega
theorem f8L {c6 c7 K6 : Nat} (h : c6 + 256 * c7 = K6) : K6 + c7 = (c6 + c7) + 256 * c7 := by omega
theorem f8M {s1 s2 z1 z2 : Nat} (h : s1 + s2 ≤ 64) : (s1 + 256 * z1 + (s2 + 256 * z2)) % 128 = s1 + s2 := by omega
theorem fold8 {y c0 c1 c2 c3 c4 c5 c6 c7 : Nat} (h : y = c0 + 256 * (c1 + 256 * (c2 + 256 * (c3 + 256 * (c4 + 256 * (c5 + 256 * (c6 + 256 * c7))))))) (h0 : c0 ≤ 8) (h1 : c1 ≤ 8) (h2 : c2 ≤ 8) (h3 : c3 ≤ 8) (h4 : c4 ≤ 8) (h5 : c5 ≤ 8) (h6 : c6 ≤ 8) (h7 : c7 ≤ 8) : y < 2 ^ 60 ∧ y / 256 < 2 ^ 60 ∧ (y + y / 256) / 65536 < 2 ^ 60 ∧ ((y + y / 256) + (y + y / 256) / 65536) / 4294967296 < 2 ^ 60 ∧ (((y + y / 256) + (y + y / 256) / 65536) + ((y + y / 256) + (y + y / 256) / 65536) / 4294967296) % 128 = c0 + c1 + c2 + c3 + c4 + c5 + c6 + c7 := by
  generalize k6 : c6 + 256 * c7 = K6 at h
  generalize k5 : c5 + 256 * K6 = K5 at h
  generalize k4 : c4 + 256 * K5 = K4 at h
  generalize k3 : c3 + 256 * K4 = K3 at h
  generalize k2 : c2 + 256 * K3 = K2 at h
  generalize k1 : c1 + 256 * K2 = K1 at h
  have b6 := f8B k6.symm h6 h7
  have b5 := f8B k5.symm h5 b6
  have b4 := f8B k4.symm h4 b5
  have b3 := f8B k3.symm h3 b4
  have b2 := f8B k2.symm h2 b3
  have b1 := f8B k1.symm h1 b2
  have b0 := f8B h h0 b1
  have e1 : y / 256 = K1 := f8D h (Nat.le_trans h0 (by decide))
  have m1 : c0 + c1 ≤ 16 := Nat.add_le_add h0 h1
  have m2 : c1 + c2 ≤ 16 := Nat.add_le_add h1 h2
  have m3 : c2 + c3 ≤ 16 := Nat.add_le_add h2 h3
  have m4 : c3 + c4 ≤ 16 := Nat.add_le_add h3 h4
  have m5 : c4 + c5 ≤ 16 := Nat.add_le_add h4 h5
  have m6 : c5 + c6 ≤ 16 := Nat.add_le_add h5 h6
  have m7 : c6 + c7 ≤ 16 := Nat.add_le_add h6 h7
  have u0 := f8S h k1.symm
  have u1 := f8S k1.symm k2.symm
  have u2 := f8S k2.symm k3.symm
  have u3 := f8S k3.symm k4.symm
  have u4 := f8S k4.symm k5.symm
  have u5 := f8S (K3 := c7) k5.symm k6.symm
  have u6 : K6 + c7 = (c6 + c7) + 256 * c7 := f8L k6
  have e2 : (y + K1) / 65536 = K2 + K3 := by
    rw [show 65536 = 256 * 256 from rfl, ← Nat.div_div_eq_div_mul, f8D u0 (Nat.le_trans m1 (by decide)), f8D u1 (Nat.le_trans m2 (by decide))]
  have v0 := f8T u0 u2
  have v1 := f8T u1 u3
  have v2 := f8T u2 u4
  have v3 := f8T u3 u5
  have w := f8T u4 u6
  have e3 : (y + K1 + (K2 + K3)) / 4294967296 = K4 + K5 + (K6 + c7) := by
    rw [show 4294967296 = 256 * 256 * 256 * 256 from rfl, ← Nat.div_div_eq_div_mul, ← Nat.div_div_eq_div_mul, ← Nat.div_div_eq_div_mul, f8D v0 (Nat.le_trans (Nat.add_le_add m1 m3) (by decide)), f8D v1 (Nat.le_trans (Nat.add_le_add m2 m4) (by decide)), f8D v2 (Nat.le_trans (Nat.add_le_add m3 m5) (by decide)), f8D v3 (Nat.le_trans (Nat.add_le_add m4 m6) (by decide))]
  rw [e1, e2, e3]
  refine ⟨Nat.lt_of_le_of_lt b0 (by decide), Nat.lt_of_le_of_lt b1 (by decide), Nat.lt_of_le_of_lt (Nat.add_le_add b2 b3) (by decide), Nat.lt_of_le_of_lt (Nat.add_le_add (Nat.add_le_add b4 b5) (Nat.add_le_add b6 h7)) (by decide), ?_⟩
  rw [w, v0]
  generalize K1 + K2 + (K3 + K4) = z1
  generalize K5 + K6 + c7 = z2
  rw [f8M (Nat.add_le_add (Nat.add_le_add m1 m3) (Nat.add_le_add m5 m7))]
  simp only [Nat.add_assoc]
theorem bc_a (x : Int64) : toN (bcA x) = ps1 6148914691236517205 (toN x) := by
  have c5 : toN 6148914691236517205 = 6148914691236517205 := by decide +kernel
  have q : toN (jushr x (nI 1) &&& 6148914691236517205) = (toN x / 2) &&& 6148914691236517205 := by rw [toN_and, toN_ushr x (by omega), c5]
  have r : (toN x / 2) &&& 6148914691236517205 ≤ toN x / 2 := Nat.and_le_left
  unfold bcA
  rw [toN_sub (by rw [q]; exact Nat.le_trans r (Nat.div_le_self _ _)), q]
  rfl
theorem bc_b (a : Int64) : toN (bcB a) = ps2 3689348814741910323 (toN a) ∧ ps2 3689348814741910323 (toN a) ≤ 7378697629483820646 := by
  have c3 : toN 3689348814741910323 = 3689348814741910323 := by decide +kernel
  have q1 : toN (a &&& 3689348814741910323) = toN a &&& 3689348814741910323 := by rw [toN_and, c3]
  have q2 : toN (jushr a (nI 2) &&& 3689348814741910323) = (toN a / 4) &&& 3689348814741910323 := by rw [toN_and, toN_ushr a (by omega), c3]
  have r1 : toN a &&& 3689348814741910323 ≤ 3689348814741910323 := Nat.and_le_right
  have r2 : (toN a / 4) &&& 3689348814741910323 ≤ 3689348814741910323 := Nat.and_le_right
  generalize hz1 : toN a &&& 3689348814741910323 = z1 at *
  generalize hz2 : (toN a / 4) &&& 3689348814741910323 = z2 at *
  have e : ps2 3689348814741910323 (toN a) = z1 + z2 := by unfold ps2; rw [hz1, hz2]
  rw [e]
  clear hz1 hz2 e c3
  exact ⟨by unfold bcB; rw [toN_add (by rw [q1, q2]; clear q1 q2; omega), q1, q2], by clear q1 q2; omega⟩
theorem bc_c (b : Int64) (h : toN b ≤ 7378697629483820646) : toN (bcC b) = ps3 1085102592571150095 (toN b) := by
  have cF : toN 1085102592571150095 = 1085102592571150095 := by decide +kernel
  have q2 : toN (jushr b (nI 4)) = toN b / 16 := toN_ushr b (by omega)
  unfold bcC
  rw [toN_and, cF, toN_add (by rw [q2]; clear cF q2; omega), q2]
  rfl
theorem bc_d (c : Int64) {u : Nat} (k : Nat) (hk : k < 64) (h1 : toN c < 2 ^ 63) (hu : u = toN c / 2 ^ k) (h2 : u < 2 ^ 60) : toN (bcD c k) = toN c + u := by
  have q : toN (jushr c (nI k)) = u := by rw [toN_ushr c hk, hu]
  unfold bcD
  rw [toN_add (by rw [q]; clear q hu; omega), q]
theorem cnt_bytes {N : Nat} (hN : N < 2 ^ 64) : ∃ b0 b1 b2 b3 b4 b5 b6 b7, b0 < 256 ∧ b1 < 256 ∧ b2 < 256 ∧ b3 < 256 ∧ b4 < 256 ∧ b5 < 256 ∧ b6 < 256 ∧ b7 < 256 ∧ N = 256 * (256 * (256 * (256 * (256 * (256 * (256 * b7 + b6) + b5) + b4) + b3) + b2) + b1) + b0 := by
  have dec : ∀ (k N : Nat), N < 256 * k → ∃ q b, N = 256 * q + b ∧ b < 256 ∧ q < k := fun k N h => ⟨N / 256, N % 256, by omega, by omega, by omega⟩
  obtain ⟨n1, b0, d0, l0, r1⟩ := dec (2 ^ 56) N hN
  obtain ⟨n2, b1, d1, l1, r2⟩ := dec (2 ^ 48) n1 r1
  obtain ⟨n3, b2, d2, l2, r3⟩ := dec (2 ^ 40) n2 r2
  obtain ⟨n4, b3, d3, l3, r4⟩ := dec (2 ^ 32) n3 r3
  obtain ⟨n5, b4, d4, l4, r5⟩ := dec (2 ^ 24) n4 r4
  obtain ⟨n6, b5, d5, l5, r6⟩ := dec (2 ^ 16) n5 r5
  obtain ⟨b7, b6, d6, l6, r7⟩ := dec 256 n6 r6
  exact ⟨b0, b1, b2, b3, b4, b5, b6, b7, l0, l1, l2, l3, l4, l5, l6, r7, by rw [d0, d1, d2, d3, d4, d5, d6]⟩
theorem psD_8 {b0 b1 b2 b3 b4 b5 b6 b7 : Nat} (l0 : b0 < 256) (l1 : b1 < 256) (l2 : b2 < 256) (l3 : b3 < 256) (l4 : b4 < 256) (l5 : b5 < 256) (l6 : b6 < 256) (l7 : b7 < 256) : psD 6148914691236517205 3689348814741910323 1085102592571150095 (256 * (256 * (256 * (256 * (256 * (256 * (256 * b7 + b6) + b5) + b4) + b3) + b2) + b1) + b0) = cntN b0 8 + 256 * (cntN b1 8 + 256 * (cntN b2 8 + 256 * (cntN b3 8 + 256 * (cntN b4 8 + 256 * (cntN b5 8 + 256 * (cntN b6 8 + 256 * cntN b7 8)))))) := by
  have p7 := psD_byte b7 l7
  have p6 : psD 21845 13107 3855 (256 * b7 + b6) = 256 * cntN b7 8 + cntN b6 8 := by rw [psD_split l6 (by decide) (by decide) (by decide) (by decide), psD_byte b6 l6, ← p7]
  have p5 : psD 5592405 3355443 986895 (256 * (256 * b7 + b6) + b5) = 256 * (256 * cntN b7 8 + cntN b6 8) + cntN b5 8 := by rw [psD_split l5 (by decide) (by decide) (by decide) (by decide), psD_byte b5 l5, ← p6]
  have p4 : psD 1431655765 858993459 252645135 (256 * (256 * (256 * b7 + b6) + b5) + b4) = 256 * (256 * (256 * cntN b7 8 + cntN b6 8) + cntN b5 8) + cntN b4 8 := by rw [psD_split l4 (by decide) (by decide) (by decide) (by decide), psD_byte b4 l4, ← p5]
  have p3 : psD 366503875925 219902325555 64677154575 (256 * (256 * (256 * (256 * b7 + b6) + b5) + b4) + b3) = 256 * (256 * (256 * (256 * cntN b7 8 + cntN b6 8) + cntN b5 8) + cntN b4 8) + cntN b3 8 := by rw [psD_split l3 (by decide) (by decide) (by decide) (by decide), psD_byte b3 l3, ← p4]
  have p2 : psD 93824992236885 56294995342131 16557351571215 (256 * (256 * (256 * (256 * (256 * b7 + b6) + b5) + b4) + b3) + b2) = 256 * (256 * (256 * (256 * (256 * cntN b7 8 + cntN b6 8) + cntN b5 8) + cntN b4 8) + cntN b3 8) + cntN b2 8 := by rw [psD_split l2 (by decide) (by decide) (by decide) (by decide), psD_byte b2 l2, ← p3]
  have p1 : psD 24019198012642645 14411518807585587 4238682002231055 (256 * (256 * (256 * (256 * (256 * (256 * b7 + b6) + b5) + b4) + b3) + b2) + b1) = 256 * (256 * (256 * (256 * (256 * (256 * cntN b7 8 + cntN b6 8) + cntN b5 8) + cntN b4 8) + cntN b3 8) + cntN b2 8) + cntN b1 8 := by rw [psD_split l1 (by decide) (by decide) (by decide) (by decide), psD_byte b1 l1, ← p2]
  have p0 : psD 6148914691236517205 3689348814741910323 1085102592571150095 (256 * (256 * (256 * (256 * (256 * (256 * (256 * b7 + b6) + b5) + b4) + b3) + b2) + b1) + b0) = 256 * (256 * (256 * (256 * (256 * (256 * (256 * cntN b7 8 + cntN b6 8) + cntN b5 8) + cntN b4 8) + cntN b3 8) + cntN b2 8) + cntN b1 8) + cntN b0 8 := by rw [psD_split l0 (by decide) (by decide) (by decide) (by decide), psD_byte b0 l0, ← p1]
  rw [p0]
  clear p0 p1 p2 p3 p4 p5 p6 p7
  simp only [Nat.add_comm]
theorem cntN_64 {b0 b1 b2 b3 b4 b5 b6 b7 : Nat} (l0 : b0 < 256) (l1 : b1 < 256) (l2 : b2 < 256) (l3 : b3 < 256) (l4 : b4 < 256) (l5 : b5 < 256) (l6 : b6 < 256) (l7 : b7 < 256) : cntN (256 * (256 * (256 * (256 * (256 * (256 * (256 * b7 + b6) + b5) + b4) + b3) + b2) + b1) + b0) 64 = cntN b0 8 + cntN b1 8 + cntN b2 8 + cntN b3 8 + cntN b4 8 + cntN b5 8 + cntN b6 8 + cntN b7 8 := by
  have e0 := cntN_split (y := 256 * (256 * (256 * (256 * (256 * (256 * b7 + b6) + b5) + b4) + b3) + b2) + b1) l0 56
  have e1 := cntN_split (y := 256 * (256 * (256 * (256 * (256 * b7 + b6) + b5) + b4) + b3) + b2) l1 48
  have e2 := cntN_split (y := 256 * (256 * (256 * (256 * b7 + b6) + b5) + b4) + b3) l2 40
  have e3 := cntN_split (y := 256 * (256 * (256 * b7 + b6) + b5) + b4) l3 32
  have e4 := cntN_split (y := 256 * (256 * b7 + b6) + b5) l4 24
  have e5 := cntN_split (y := 256 * b7 + b6) l5 16
  have e6 := cntN_split (y := b7) l6 8
  simp only [Nat.reduceAdd] at e0 e1 e2 e3 e4 e5 e6
  rw [e0, e1, e2, e3, e4, e5, e6]
  simp only [Nat.add_assoc]
theorem bc64_cnt (x : Int64) : bc64 x = nI (cnt x 64) := by
  rw [cnt_toN]
  obtain ⟨b0, b1, b2, b3, b4, b5, b6, b7, l0, l1, l2, l3, l4, l5, l6, l7, hx⟩ := cnt_bytes (toN_lt x)
  have hD := psD_8 l0 l1 l2 l3 l4 l5 l6 l7
  have hC := cntN_64 l0 l1 l2 l3 l4 l5 l6 l7
  rw [← hx] at hD hC
  obtain ⟨f1, f2, f3, f4, f5⟩ := fold8 hD (cntN_8 b0 l0) (cntN_8 b1 l1) (cntN_8 b2 l2) (cntN_8 b3 l3) (cntN_8 b4 l4) (cntN_8 b5 l5) (cntN_8 b6 l6) (cntN_8 b7 l7)
  rw [← hC] at f5
  clear hD hC hx l0 l1 l2 l3 l4 l5 l6 l7
  unfold bc64
  have na := bc_a x
  generalize bcA x = a at *
  obtain ⟨nb, nb2⟩ := bc_b a
  generalize bcB a = b at *
  have nc := bc_c b (by rw [nb]; exact nb2)
  generalize bcC b = c at *
  have hcD : psD 6148914691236517205 3689348814741910323 1085102592571150095 (toN x) = toN c := by rw [nc, nb, na]; rfl
  rw [hcD] at f1 f2 f3 f4 f5
  clear hcD na nb nb2 nc
  have nd := bc_d c (u := toN c / 256) 8 (by omega) (Nat.lt_of_lt_of_le f1 (by decide)) rfl f2
  generalize bcD c 8 = d at *
  rw [← nd] at f3 f4 f5
  have hd : toN d < 2 ^ 62 := by rw [nd]; clear f3 f4 f5 nd; generalize toN c / 256 = z at *; generalize toN c = y at *; omega
  have ne := bc_d d (u := toN d / 65536) 16 (by omega) (Nat.lt_of_lt_of_le hd (by decide)) rfl f3
  generalize bcD d 16 = e at *
  rw [← ne] at f4 f5
  have he : toN e < 2 ^ 63 := by rw [ne]; clear f1 f2 f4 f5 nd ne; generalize toN d / 65536 = z at *; generalize toN d = y at *; omega
  have nf := bc_d e (u := toN e / 4294967296) 32 (by omega) he rfl f4
  rw [toN_127, nf, f5]
