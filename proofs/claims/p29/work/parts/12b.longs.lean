/-! ===== longs as ints ===== -/
def zcI (x y : Int) : Int := if y < x then 1 else if x = y then 0 else -1
section ZLG
variable {x y : Int}
theorem z64 (h1 : -9223372036854775808 ≤ x) (h2 : x < 9223372036854775808) : (Int64.ofInt x).toInt = x := Int64.toInt_ofInt_of_le h1 h2
theorem zcI_lt : zcI x y < 0 ↔ x < y := by
  unfold zcI
  split
  · omega
  · split <;> omega
theorem zcI_gt : 0 < zcI x y ↔ y < x := by
  unfold zcI
  split
  · omega
  · split <;> omega
theorem zcI_eq : zcI x y = 0 ↔ x = y := by
  unfold zcI
  split
  · omega
  · split <;> omega
theorem zlcmp_c (h1 : -9223372036854775808 ≤ x) (h2 : x < 9223372036854775808) (h3 : -9223372036854775808 ≤ y) (h4 : y < 9223372036854775808) : zlcmp (Int64.ofInt x) (Int64.ofInt y) = zcI x y := by
  have e1 : Int64.ofInt y < Int64.ofInt x ↔ y < x := by rw [Int64.lt_iff_toInt_lt, z64 h1 h2, z64 h3 h4]
  have e2 : Int64.ofInt x = Int64.ofInt y ↔ x = y := ⟨fun h => by rw [← z64 h1 h2, ← z64 h3 h4, h], fun h => by rw [h]⟩
  unfold zlcmp zcI
  by_cases q1 : y < x
  · rw [if_pos (e1.mpr q1), if_pos q1]
  · rw [if_neg (fun z => q1 (e1.mp z)), if_neg q1]
    by_cases q2 : x = y
    · rw [if_pos (e2.mpr q2), if_pos q2]
    · rw [if_neg (fun z => q2 (e2.mp z)), if_neg q2]
theorem zly0 (h3 : 0 < y) (h4 : y < 9223372036854775808) : Int64.ofInt y ≠ 0 := by
  intro h
  have e := congrArg Int64.toInt h
  rw [z64 (by omega) h4] at e
  have e2 : (0 : Int64).toInt = 0 := rfl
  omega
theorem zldiv (h1 : 0 ≤ x) (h2 : x < 9223372036854775808) (h3 : 0 < y) (h4 : y < 9223372036854775808) : Int64.ofInt (x / y) = Int64.ofInt x / Int64.ofInt y := by
  rw [← Int64.ofInt_tdiv (by rw [show Int64.minValue.toInt = -9223372036854775808 from rfl]; omega) (by rw [show Int64.maxValue.toInt = 9223372036854775807 from rfl]; omega) (by rw [show Int64.minValue.toInt = -9223372036854775808 from rfl]; omega) (by rw [show Int64.maxValue.toInt = 9223372036854775807 from rfl]; omega), Int.tdiv_eq_ediv_of_nonneg h1]
theorem zlrem (h1 : 0 ≤ x) (h2 : x < 9223372036854775808) (h3 : 0 < y) (h4 : y < 9223372036854775808) : Int64.ofInt (x % y) = Int64.ofInt x - Int64.ofInt x / Int64.ofInt y * Int64.ofInt y := by
  rw [← zldiv h1 h2 h3 h4, ← Int64.ofInt_mul, ← Int64.ofInt_sub, Int.emod_def, Int.mul_comm y]
theorem zland_m (n : Nat) (hn : n ≤ 63) : Int64.ofInt x &&& Int64.ofInt (2 ^ n - 1 : Nat) = Int64.ofInt (x % (2 ^ n : Nat)) := by
  have h2 : 0 < 2 ^ n := Nat.two_pow_pos n
  have h3 : 2 ^ n ≤ 2 ^ 63 := Nat.pow_le_pow_right (by decide) hn
  have h63 : (2 : Nat) ^ 63 = 9223372036854775808 := by decide
  apply Int64.toBitVec_inj.mp
  show BitVec.ofInt 64 x &&& BitVec.ofInt 64 ((2 ^ n - 1 : Nat) : Int) = BitVec.ofInt 64 (x % ((2 ^ n : Nat) : Int))
  apply BitVec.eq_of_toNat_eq
  have e64 : ((2 ^ 64 : Nat) : Int) = 18446744073709551616 := by decide
  rw [BitVec.toNat_and, BitVec.toNat_ofInt, BitVec.toNat_ofInt, BitVec.toNat_ofInt, e64]
  have e1 : (((2 ^ n - 1 : Nat) : Int) % 18446744073709551616).toNat = 2 ^ n - 1 := by omega
  rw [e1, Nat.and_two_pow_sub_one_eq_mod]
  have hp : (0 : Int) < ((2 ^ n : Nat) : Int) := by omega
  have e2 := Int.emod_nonneg x (show ((2 ^ n : Nat) : Int) ≠ 0 by omega)
  have e3 := Int.emod_lt_of_pos x hp
  have e5 : (x % ((2 ^ n : Nat) : Int) % 18446744073709551616) = x % ((2 ^ n : Nat) : Int) := Int.emod_eq_of_lt e2 (by omega)
  rw [e5]
  have e6 : (((x % 18446744073709551616).toNat % 2 ^ n : Nat) : Int) = x % ((2 ^ n : Nat) : Int) := by
    rw [Int.natCast_emod, Int.toNat_of_nonneg (by omega)]
    have hd : ((2 ^ n : Nat) : Int) ∣ 18446744073709551616 := by
      refine ⟨((2 ^ (64 - n) : Nat) : Int), ?_⟩
      rw [← e64, ← Int.natCast_mul, ← Nat.pow_add, show n + (64 - n) = 64 by omega]
    exact Int.emod_emod_of_dvd x hd
  omega
theorem zland_255 : Int64.ofInt x &&& Int64.ofInt 255 = Int64.ofInt (x % 256) := zland_m 8 (by decide)
theorem zland_1 : Int64.ofInt x &&& Int64.ofInt 1 = Int64.ofInt (x % 2) := zland_m 1 (by decide)
theorem zl2i_e (h1 : -2147483648 ≤ x) (h2 : x < 2147483648) : zl2i (Int64.ofInt x) = x := by
  unfold zl2i
  rw [Int64.toInt32_ofInt]
  exact Int32.toInt_ofInt_of_le h1 h2
theorem zsh63 (h1 : 0 ≤ y) (h2 : y < 64) : (Int32.ofInt y).toInt64 &&& 63 = Int64.ofInt y := by
  have e1 : (Int32.ofInt y).toInt64 = Int64.ofInt y := Int32.toInt64_ofInt (by rw [show Int32.minValue.toInt = -2147483648 from rfl]; omega) (by rw [show Int32.maxValue.toInt = 2147483647 from rfl]; omega)
  rw [e1]
  have e2 : (63 : Int64) = Int64.ofInt ((2 ^ 6 - 1 : Nat) : Int) := by decide
  rw [e2, zland_m 6 (by decide), Int.emod_eq_of_lt h1 (by omega)]
theorem zlsh_n (h1 : 0 ≤ y) (h2 : y < 64) : ((Int64.ofInt y).toBitVec.smod 64).toNat = y.toNat := by
  have e : ∀ n : Nat, n < 64 → ((Int64.ofInt (n : Int)).toBitVec.smod 64).toNat = n := by decide +kernel
  have := e y.toNat (by omega)
  rw [Int.toNat_of_nonneg h1] at this
  exact this
theorem zlshl_e (h1 : 0 ≤ y) (h2 : y < 64) : zlshl (Int64.ofInt x) y = Int64.ofInt (x * 2 ^ y.toNat) := by
  unfold zlshl
  rw [zsh63 h1 h2]
  apply Int64.toBitVec_inj.mp
  rw [Int64.toBitVec_shiftLeft]
  show (BitVec.ofInt 64 x) <<< ((Int64.ofInt y).toBitVec.smod 64) = BitVec.ofInt 64 (x * 2 ^ y.toNat)
  rw [BitVec.shiftLeft_eq', zlsh_n h1 h2, BitVec.shiftLeft_eq_mul_twoPow, BitVec.ofInt_mul]
  congr 1
  apply BitVec.eq_of_toNat_eq
  rw [BitVec.toNat_twoPow, BitVec.toNat_ofInt]
  have h3 : y.toNat < 64 := by omega
  have h4 : 2 ^ y.toNat < 2 ^ 64 := Nat.pow_lt_pow_right (by decide) h3
  rw [Nat.mod_eq_of_lt h4]
  have e5 : ((2 : Int) ^ y.toNat) = ((2 ^ y.toNat : Nat) : Int) := by rw [Int.natCast_pow]; rfl
  rw [e5]
  have h6 := Nat.two_pow_pos y.toNat
  have h7 : (2 : Nat) ^ 64 = 18446744073709551616 := by decide
  rw [h7] at h4 ⊢
  generalize 2 ^ y.toNat = q at h4 h6 ⊢
  rw [Int.emod_eq_of_lt (by omega) (by omega)]
  omega
theorem zlshr_e (h1 : 0 ≤ y) (h2 : y < 64) (h3 : -9223372036854775808 ≤ x) (h4 : x < 9223372036854775808) : zlshr (Int64.ofInt x) y = Int64.ofInt (x / 2 ^ y.toNat) := by
  unfold zlshr
  rw [zsh63 h1 h2]
  apply Int64.toInt_inj.mp
  have hx := z64 h3 h4
  have hb : (Int64.ofInt x).toBitVec.toInt = x := hx
  have h5 : (Int64.ofInt x >>> Int64.ofInt y).toInt = ((Int64.ofInt x).toBitVec.sshiftRight ((Int64.ofInt y).toBitVec.smod 64).toNat).toInt := by
    rw [← Int64.toInt_toBitVec, Int64.toBitVec_shiftRight]
    rfl
  rw [h5, zlsh_n h1 h2, BitVec.toInt_sshiftRight, hb, Int.shiftRight_eq_div_pow]
  have hp : (0 : Int) < ((2 ^ y.toNat : Nat) : Int) := by have := Nat.two_pow_pos y.toNat; omega
  have e5 : ((2 : Int) ^ y.toNat) = ((2 ^ y.toNat : Nat) : Int) := by rw [Int.natCast_pow]; rfl
  rw [e5]
  have g1 : -9223372036854775808 ≤ x / ((2 ^ y.toNat : Nat) : Int) := by
    by_cases q : 0 ≤ x
    · have := Int.ediv_nonneg q (show (0 : Int) ≤ ((2 ^ y.toNat : Nat) : Int) by omega)
      omega
    · have h8 : x * ((2 ^ y.toNat : Nat) : Int) ≤ x := by
        have h9 := Int.mul_le_mul_of_nonneg_left (show (1 : Int) ≤ ((2 ^ y.toNat : Nat) : Int) from hp) (show 0 ≤ -x by omega)
        rw [Int.mul_one, Int.neg_mul] at h9
        omega
      have := Int.le_ediv_of_mul_le hp h8
      omega
  have g2 : x / ((2 ^ y.toNat : Nat) : Int) < 9223372036854775808 := by
    by_cases q : 0 ≤ x
    · have := Int.ediv_le_self ((2 ^ y.toNat : Nat) : Int) q
      omega
    · have := Int.ediv_neg_of_neg_of_pos (show x < 0 by omega) hp
      omega
  exact (z64 g1 g2).symm
end ZLG
