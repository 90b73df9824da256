/-! ===== the law: numbers of its script, files, letters, widths ===== -/
def lfN (μ : ZU) (a j : Int) : Nat → Int → Int → Int
  | 0, _, s => s
  | n + 1, k, s => lfN μ a j n (k + 1) (if 0 ≤ μ 103 0 (4 * a + k) - 1 ∧ ¬ μ 101 0 (10 * (μ 103 0 (4 * a + k) - 1) + j) = 0 then μ 101 0 (10 * (μ 103 0 (4 * a + k) - 1) + j) else s)
def lfe (r : Int) : Int := if r < 0 then 0 else r
/-- what an image has of a file, as the law has it: 0, or 1 and its numbers -/
def lfv (μ : ZU) (a j : Int) : Int := lfe (lfN μ a j 3 1 0)
def rwB (μ : ZU) : Prop := (∀ k, 0 ≤ k → k < 52 → 0 ≤ μ 103 0 k ∧ (k % 4 = 0 ∨ μ 103 0 k ≤ 6)) ∧ ∀ q, 0 ≤ q → q < 60 → -1 ≤ μ 101 0 q ∧ μ 101 0 q < 2147483648
/-- a number of the script -/
def prt (μ : ZU) (k n : Int) : Int := zand (if k < ((μ 0 2 0).toNat : Int) then μ 1 0 k else 877 * k + 743 * k * k) 2147483647 % n
/-- a code of a word -/
def lcd (x j : Int) : Int := (x / 2 ^ (8 * j).toNat) % 256
abbrev lhs (μ : ZU) (a : Int) : Int → Bool := fun t => decide (0 < lfv μ a t)
def lsz (μ : ZU) (a : Int) : Int → Int := fun t => (lfv μ a t - 1) % 32
def ldt (μ : ZU) (a : Int) : Int → Int := fun t => (lfv μ a t - 1) / 32
section ZQA
variable {h : ZH} {μ ν : ZU} {ck sk : Nat} {Q : ZO → ZH → Prop} {a b c d e f i j k l m p r s t v w x y z : Int} {u u1 u2 u3 u4 : ZV}
theorem zand_m {n : Nat} (hn : n ≤ 31) : zand x (2 ^ n - 1 : Nat) = x % (2 ^ n : Nat) := by
  have h2 : 0 < 2 ^ n := Nat.two_pow_pos n
  have h3 : 2 ^ n ≤ 2 ^ 31 := Nat.pow_le_pow_right (by decide) hn
  have h31 : (2 : Nat) ^ 31 = 2147483648 := by decide
  unfold zand
  have e : (Int32.ofInt x &&& Int32.ofInt ((2 ^ n - 1 : Nat) : Int)).toInt = (BitVec.ofInt 32 x &&& BitVec.ofInt 32 ((2 ^ n - 1 : Nat) : Int)).toInt := rfl
  rw [e]
  have e64 : ((2 ^ 32 : Nat) : Int) = 4294967296 := by decide
  have ht : (BitVec.ofInt 32 x &&& BitVec.ofInt 32 ((2 ^ n - 1 : Nat) : Int)).toNat = (x % 4294967296).toNat % 2 ^ n := by
    rw [BitVec.toNat_and, BitVec.toNat_ofInt, BitVec.toNat_ofInt, e64]
    have e1 : (((2 ^ n - 1 : Nat) : Int) % 4294967296).toNat = 2 ^ n - 1 := by omega
    rw [e1, Nat.and_two_pow_sub_one_eq_mod]
  have hlt : (x % 4294967296).toNat % 2 ^ n < 2 ^ n := Nat.mod_lt _ h2
  rw [BitVec.toInt_eq_toNat_of_lt (by omega), ht, Int.natCast_emod, Int.toNat_of_nonneg (by omega)]
  have hd : ((2 ^ n : Nat) : Int) ∣ 4294967296 := by
    refine ⟨((2 ^ (32 - n) : Nat) : Int), ?_⟩
    rw [← e64, ← Int.natCast_mul, ← Nat.pow_add, show n + (32 - n) = 32 by omega]
  exact Int.emod_emod_of_dvd x hd
theorem zand_1 : zand x 1 = x % 2 := zand_m (n := 1) (by decide)
theorem zand_31 : zand x 2147483647 = x % 2147483648 := zand_m (n := 31) (by decide)
theorem zand_26 : zand x 67108863 = x % 67108864 := zand_m (n := 26) (by decide)
theorem zshr_e (h1 : 0 ≤ y) (h2 : y < 32) (h3 : -2147483648 ≤ x) (h4 : x < 2147483648) : zshr x y = x / 2 ^ y.toNat := by
  have key : ∀ n : Nat, n < 32 → (Int32.ofInt (n : Int) &&& 31).toBitVec.smod 32 = BitVec.ofNat 32 n := by decide +kernel
  have hy : Int32.ofInt y = Int32.ofInt ((y.toNat : Nat) : Int) := by rw [Int.toNat_of_nonneg h1]
  have e : zshr x y = ((Int32.ofInt x).toBitVec.sshiftRight ((Int32.ofInt y &&& 31).toBitVec.smod 32).toNat).toInt := by
    unfold zshr
    rw [← Int32.toInt_toBitVec, Int32.toBitVec_shiftRight]
    rfl
  have hb : (Int32.ofInt x).toBitVec.toInt = x := Int32.toInt_ofInt_of_le h3 h4
  rw [e, hy, key y.toNat (by omega), BitVec.toNat_ofNat, BitVec.toInt_sshiftRight, hb, Int.shiftRight_eq_div_pow, Nat.mod_eq_of_lt (by omega)]
  congr 1
theorem lfN_congr (h1 : μ 101 0 = ν 101 0) (h3 : μ 103 0 = ν 103 0) : ∀ (n : Nat) (k s : Int), lfN μ a j n k s = lfN ν a j n k s
  | 0, _, _ => rfl
  | n + 1, k, s => by
    unfold lfN
    rw [h1, h3]
    exact lfN_congr h1 h3 n _ _
theorem lfv_congr (h1 : μ 101 0 = ν 101 0) (h3 : μ 103 0 = ν 103 0) : lfv μ a = lfv ν a := by
  funext j
  unfold lfv
  rw [lfN_congr h1 h3]
theorem lfv_mu {k : Nat} (h1 : k ≠ 101) (h3 : k ≠ 103) : lfv (mu μ k i j v) a = lfv μ a := lfv_congr (by rw [mu_g h1.symm]) (by rw [mu_g h3.symm])
theorem lhs_mu {k : Nat} (h1 : k ≠ 101) (h3 : k ≠ 103) : lhs (mu μ k i j v) a = lhs μ a := by
  unfold lhs
  rw [lfv_mu h1 h3]
theorem lsz_mu {k : Nat} (h1 : k ≠ 101) (h3 : k ≠ 103) : lsz (mu μ k i j v) a = lsz μ a := by
  unfold lsz
  rw [lfv_mu h1 h3]
theorem ldt_mu {k : Nat} (h1 : k ≠ 101) (h3 : k ≠ 103) : ldt (mu μ k i j v) a = ldt μ a := by
  unfold ldt
  rw [lfv_mu h1 h3]
theorem rwB_mu {k : Nat} (h1 : k ≠ 101) (h3 : k ≠ 103) (h : rwB μ) : rwB (mu μ k i j v) := by
  unfold rwB
  rw [mu_g h1.symm, mu_g h3.symm]
  exact h
theorem lfN_b (hB : rwB μ) (ha : 0 ≤ a) (ha2 : a < 13) (hj : 0 ≤ j) (hj2 : j < 10) : ∀ (n : Nat) (k s : Int), 1 ≤ k → k + n = 4 → -1 ≤ s → s < 2147483648 → -1 ≤ lfN μ a j n k s ∧ lfN μ a j n k s < 2147483648
  | 0, k, s, h1, h2, h3, h4 => ⟨h3, h4⟩
  | n + 1, k, s, h1, h2, h3, h4 => by
    have i1 := hB.1 (4 * a + k) (by omega) (by omega)
    unfold lfN
    split
    · rename_i q
      have i2 := hB.2 (10 * (μ 103 0 (4 * a + k) - 1) + j) (by omega) (by omega)
      exact lfN_b hB ha ha2 hj hj2 n (k + 1) _ (by omega) (by omega) i2.1 i2.2
    · exact lfN_b hB ha ha2 hj hj2 n (k + 1) s (by omega) (by omega) h3 h4
theorem lfv_b (hB : rwB μ) (ha : 0 ≤ a) (ha2 : a < 13) (hj : 0 ≤ j) (hj2 : j < 10) : 0 ≤ lfv μ a j ∧ lfv μ a j < 2147483648 := by
  have := lfN_b hB ha ha2 hj hj2 3 1 0 (by omega) (by omega) (by omega) (by omega)
  unfold lfv lfe
  split <;> omega
theorem c91 (hk : 0 ≤ k) (hk2 : k < 200) (hn : 0 < m) : G 91 0 [zR 1 0, zI k, zI m, u] [] (HM μ) ck sk Q ↔ Q (.inl (some (zI (prt μ k m)))) (HM μ) := by
  have e1 : 0 ≤ 743 * k * k := Int.mul_nonneg (by omega) hk
  have e2 : 743 * k * k ≤ 743 * 200 * 200 := Int.mul_le_mul (by omega) (by omega) hk (by omega)
  unfold prt
  by_cases h1 : k < ((μ 0 2 0).toNat : Int)
  · have e3 : 0 ≤ zand (μ 1 0 k) 2147483647 := by rw [zand_31]; omega
    simp (disch := first | omega | (simp (disch := decide) only [zmu0, mu_g, List.length_nil, List.length_cons]; omega)) only [g91_0, g91_1, g91_2, g91_3, g91_6, g91_7, g91_8, g91_9, g91_12, g91_15, g91_16, g91_17, g91_20, g91_21, g91_22, g91_23, g91_24, g91_25, g91_26, g91_27, g91_29, g91_30, g91_31, g91_32, ln1, rd1, Int.reduceSub, Int.reduceAdd, Int.add_zero, Int.zero_add, Int.cast_ofNat_Int, Bool.false_eq_true, decide_true, decide_false, zbndI, zbwI, zbzI, zb1I, zoA_at, gback_v, gback_n, zem, zisr, zro_at, zrl_at, mu_g, mu_at, mu_mu, mu_self, not_true, not_false_iff, zb0, zb1, zbnd, zbw, zbz, zne1, zone, mrgI, List.length_nil, List.length_cons, Nat.reduceAdd, Nat.reduceSub, Nat.reduceLeDiff, Nat.zero_le, and_true, true_and, false_and, and_false, true_or, or_true, false_or, or_false, G_ite, z10, z1n, z1and, z1or, z0not, z0and, itn, if_true, if_false, reduceIte, Int.reduceEq, Int.reduceLT, Int.reduceNeg, Nat.reduceEqDiff, ite_self, h1]
  · have e3 : 0 ≤ zand (877 * k + 743 * k * k) 2147483647 := by rw [zand_31]; omega
    simp (disch := first | omega | (simp (disch := decide) only [zmu0, mu_g, List.length_nil, List.length_cons]; omega)) only [g91_0, g91_1, g91_2, g91_3, g91_6, g91_7, g91_8, g91_9, g91_12, g91_15, g91_16, g91_17, g91_20, g91_21, g91_22, g91_23, g91_24, g91_25, g91_26, g91_27, g91_29, g91_30, g91_31, g91_32, ln1, rd1, Int.reduceSub, Int.reduceAdd, Int.add_zero, Int.zero_add, Int.cast_ofNat_Int, Bool.false_eq_true, decide_true, decide_false, zbndI, zbwI, zbzI, zb1I, zoA_at, gback_v, gback_n, zem, zisr, zro_at, zrl_at, mu_g, mu_at, mu_mu, mu_self, not_true, not_false_iff, zb0, zb1, zbnd, zbw, zbz, zne1, zone, mrgI, List.length_nil, List.length_cons, Nat.reduceAdd, Nat.reduceSub, Nat.reduceLeDiff, Nat.zero_le, and_true, true_and, false_and, and_false, true_or, or_true, false_or, or_false, G_ite, z10, z1n, z1and, z1or, z0not, z0and, itn, if_true, if_false, reduceIte, Int.reduceEq, Int.reduceLT, Int.reduceNeg, Nat.reduceEqDiff, ite_self, h1]
theorem prt_b (hn : 0 < m) : 0 ≤ prt μ k m ∧ prt μ k m < m := by
  unfold prt
  exact ⟨Int.emod_nonneg _ (by omega), Int.emod_lt_of_pos _ hn⟩
theorem c94_l (hB : rwB μ) (ha : 0 ≤ a) (ha2 : a < 13) (hj : 0 ≤ j) (hj2 : j < 10) : ∀ (n : Nat) (k s : Int) (u : ZV), 1 ≤ k → k + n = 4 → -1 ≤ s → s < 2147483648 →
    (G 94 6 [zR 101 0, zR 103 0, zI a, zI j, zL (Int64.ofInt s), zJ, zI k, u] [] (HM μ) ck sk Q ↔ Q (.inl (some (zL (Int64.ofInt (lfe (lfN μ a j n k s)))))) (HM μ))
  | 0, k, s, u, h1, h2, h3, h4 => by
    have h5 : ¬ k < 4 := by omega
    rw [g94_6]
    simp (disch := first | omega | (simp (disch := decide) only [zmu0, mu_g, List.length_nil, List.length_cons]; omega)) only [g94_0, g94_1, g94_3, g94_4, g94_8, g94_9, g94_12, g94_13, g94_14, g94_15, g94_16, g94_18, g94_19, g94_20, g94_21, g94_22, g94_24, g94_26, g94_29, g94_30, g94_32, g94_34, g94_37, g94_38, g94_41, g94_43, g94_44, g94_45, g94_46, g94_47, g94_48, g94_49, g94_52, g94_53, g94_55, g94_57, g94_58, g94_59, g94_60, g94_61, g94_64, g94_66, g94_68, g94_71, g94_74, g94_76, g94_77, g94_78, g94_81, g94_82, g94_85, g94_87, Int.reduceSub, Int.reduceAdd, Int.add_zero, Int.zero_add, Int.cast_ofNat_Int, Bool.false_eq_true, decide_true, decide_false, zbndI, zbwI, zbzI, zb1I, zoA_at, gback_v, gback_n, zem, zisr, zro_at, zrl_at, mu_g, mu_at, mu_mu, mu_self, not_true, not_false_iff, zb0, zb1, zbnd, zbw, zbz, zne1, zone, mrgI, List.length_nil, List.length_cons, Nat.reduceAdd, Nat.reduceSub, Nat.reduceLeDiff, Nat.zero_le, and_true, true_and, false_and, and_false, true_or, or_true, false_or, or_false, G_ite, z10, z1n, z1and, z1or, z0not, z0and, itn, if_true, if_false, reduceIte, Int.reduceEq, Int.reduceLT, Int.reduceNeg, Nat.reduceEqDiff, ite_self, h5, zcI_lt, lfN, lfe]
    by_cases h6 : s < 0 <;> simp only [h6, if_true, if_false]
  | n + 1, k, s, u, h1, h2, h3, h4 => by
    have h5 : k < 4 := by omega
    have i1 := hB.1 (4 * a + k) (by omega) (by omega)
    rw [g94_6]
    unfold lfN
    by_cases h6 : μ 103 0 (4 * a + k) - 1 < 0
    · have ih := fun u => c94_l hB ha ha2 hj hj2 n (k + 1) s u (by omega) (by omega) h3 h4
      rw [if_neg (by omega)]
      simp (disch := first | omega | (simp (disch := decide) only [zmu0, mu_g, List.length_nil, List.length_cons]; omega)) only [g94_0, g94_1, g94_3, g94_4, g94_8, g94_9, g94_12, g94_13, g94_14, g94_15, g94_16, g94_18, g94_19, g94_20, g94_21, g94_22, g94_24, g94_26, g94_29, g94_30, g94_32, g94_34, g94_37, g94_38, g94_41, g94_43, g94_44, g94_45, g94_46, g94_47, g94_48, g94_49, g94_52, g94_53, g94_55, g94_57, g94_58, g94_59, g94_60, g94_61, g94_64, g94_66, g94_68, g94_71, g94_74, g94_76, g94_77, g94_78, g94_81, g94_82, g94_85, g94_87, rd101, wr101, rd103, wr103, Int.reduceSub, Int.reduceAdd, Int.add_zero, Int.zero_add, Int.cast_ofNat_Int, Bool.false_eq_true, decide_true, decide_false, zbndI, zbwI, zbzI, zb1I, zoA_at, gback_v, gback_n, zem, zisr, zro_at, zrl_at, mu_g, mu_at, mu_mu, mu_self, not_true, not_false_iff, zb0, zb1, zbnd, zbw, zbz, zne1, zone, mrgI, List.length_nil, List.length_cons, Nat.reduceAdd, Nat.reduceSub, Nat.reduceLeDiff, Nat.zero_le, and_true, true_and, false_and, and_false, true_or, or_true, false_or, or_false, G_ite, z10, z1n, z1and, z1or, z0not, z0and, itn, if_true, if_false, reduceIte, Int.reduceEq, Int.reduceLT, Int.reduceNeg, Nat.reduceEqDiff, ite_self, h5, h6, ih]
    · have i2 := hB.2 (10 * (μ 103 0 (4 * a + k) - 1) + j) (by omega) (by omega)
      by_cases h7 : μ 101 0 (10 * (μ 103 0 (4 * a + k) - 1) + j) = 0
      · have ih := fun u => c94_l hB ha ha2 hj hj2 n (k + 1) s u (by omega) (by omega) h3 h4
        rw [if_neg (fun q => q.2 h7)]
        simp (disch := first | omega | (simp (disch := decide) only [zmu0, mu_g, List.length_nil, List.length_cons]; omega)) only [g94_0, g94_1, g94_3, g94_4, g94_8, g94_9, g94_12, g94_13, g94_14, g94_15, g94_16, g94_18, g94_19, g94_20, g94_21, g94_22, g94_24, g94_26, g94_29, g94_30, g94_32, g94_34, g94_37, g94_38, g94_41, g94_43, g94_44, g94_45, g94_46, g94_47, g94_48, g94_49, g94_52, g94_53, g94_55, g94_57, g94_58, g94_59, g94_60, g94_61, g94_64, g94_66, g94_68, g94_71, g94_74, g94_76, g94_77, g94_78, g94_81, g94_82, g94_85, g94_87, rd101, wr101, rd103, wr103, Int.reduceSub, Int.reduceAdd, Int.add_zero, Int.zero_add, Int.cast_ofNat_Int, Bool.false_eq_true, decide_true, decide_false, zbndI, zbwI, zbzI, zb1I, zoA_at, gback_v, gback_n, zem, zisr, zro_at, zrl_at, mu_g, mu_at, mu_mu, mu_self, not_true, not_false_iff, zb0, zb1, zbnd, zbw, zbz, zne1, zone, mrgI, List.length_nil, List.length_cons, Nat.reduceAdd, Nat.reduceSub, Nat.reduceLeDiff, Nat.zero_le, and_true, true_and, false_and, and_false, true_or, or_true, false_or, or_false, G_ite, z10, z1n, z1and, z1or, z0not, z0and, itn, if_true, if_false, reduceIte, Int.reduceEq, Int.reduceLT, Int.reduceNeg, Nat.reduceEqDiff, ite_self, h5, h6, h7, ih, zcI_eq]
      · have ih := fun u => c94_l hB ha ha2 hj hj2 n (k + 1) (μ 101 0 (10 * (μ 103 0 (4 * a + k) - 1) + j)) u (by omega) (by omega) i2.1 i2.2
        rw [if_pos ⟨by omega, h7⟩]
        simp (disch := first | omega | (simp (disch := decide) only [zmu0, mu_g, List.length_nil, List.length_cons]; omega)) only [g94_0, g94_1, g94_3, g94_4, g94_8, g94_9, g94_12, g94_13, g94_14, g94_15, g94_16, g94_18, g94_19, g94_20, g94_21, g94_22, g94_24, g94_26, g94_29, g94_30, g94_32, g94_34, g94_37, g94_38, g94_41, g94_43, g94_44, g94_45, g94_46, g94_47, g94_48, g94_49, g94_52, g94_53, g94_55, g94_57, g94_58, g94_59, g94_60, g94_61, g94_64, g94_66, g94_68, g94_71, g94_74, g94_76, g94_77, g94_78, g94_81, g94_82, g94_85, g94_87, rd101, wr101, rd103, wr103, Int.reduceSub, Int.reduceAdd, Int.add_zero, Int.zero_add, Int.cast_ofNat_Int, Bool.false_eq_true, decide_true, decide_false, zbndI, zbwI, zbzI, zb1I, zoA_at, gback_v, gback_n, zem, zisr, zro_at, zrl_at, mu_g, mu_at, mu_mu, mu_self, not_true, not_false_iff, zb0, zb1, zbnd, zbw, zbz, zne1, zone, mrgI, List.length_nil, List.length_cons, Nat.reduceAdd, Nat.reduceSub, Nat.reduceLeDiff, Nat.zero_le, and_true, true_and, false_and, and_false, true_or, or_true, false_or, or_false, G_ite, z10, z1n, z1and, z1or, z0not, z0and, itn, if_true, if_false, reduceIte, Int.reduceEq, Int.reduceLT, Int.reduceNeg, Nat.reduceEqDiff, ite_self, h5, h6, h7, ih, zcI_eq]
theorem c94 (hB : rwB μ) (ha : 0 ≤ a) (ha2 : a < 13) (hj : 0 ≤ j) (hj2 : j < 10) : G 94 0 [zR 101 0, zR 103 0, zI a, zI j, u1, u2, u3, u4] [] (HM μ) ck sk Q ↔ Q (.inl (some (zL (Int64.ofInt (lfv μ a j))))) (HM μ) := by
  simp only [g94_0, g94_1, g94_3, g94_4, c94_l hB ha ha2 hj hj2 3 1 0 u4 (by omega) (by omega) (by omega) (by omega)]
  rfl
theorem lcd_b : 0 ≤ lcd x j ∧ lcd x j < 256 := by
  unfold lcd
  omega
theorem c95 (h1 : 0 ≤ j) (h2 : j < 8) (h3 : -9223372036854775808 ≤ x) (h4 : x < 9223372036854775808) : G 95 0 [zL (Int64.ofInt x), zJ, zI j] [] h ck sk Q ↔ Q (.inl (some (zI (lcd x j - 1)))) h := by
  have hb := lcd_b (x := x) (j := j)
  unfold lcd at hb ⊢
  simp (disch := first | omega | (simp (disch := decide) only [zmu0, mu_g, List.length_nil, List.length_cons]; omega)) only [g95_0, g95_1, g95_3, g95_4, g95_5, g95_6, g95_9, g95_10, g95_11, g95_12, g95_13, Int.reduceSub, Int.reduceAdd, Int.add_zero, Int.zero_add, Int.cast_ofNat_Int, Bool.false_eq_true, decide_true, decide_false, zbndI, zbwI, zbzI, zb1I, zoA_at, gback_v, gback_n, zem, zisr, zro_at, zrl_at, mu_g, mu_at, mu_mu, mu_self, not_true, not_false_iff, zb0, zb1, zbnd, zbw, zbz, zne1, zone, mrgI, List.length_nil, List.length_cons, Nat.reduceAdd, Nat.reduceSub, Nat.reduceLeDiff, Nat.zero_le, and_true, true_and, false_and, and_false, true_or, or_true, false_or, or_false, G_ite, z10, z1n, z1and, z1or, z0not, z0and, itn, if_true, if_false, reduceIte, Int.reduceEq, Int.reduceLT, Int.reduceNeg, Nat.reduceEqDiff, ite_self]
theorem c96_l (ha : 0 ≤ a) (ha2 : a < 13) (hf : 0 ≤ f) (hf2 : f < 5) (hl : 0 ≤ l) (hl2 : l < 32) : ∀ (n : Nat) (i : Int) (u1 u2 u3 : ZV) (μ : ZU), rwB μ → 0 ≤ i → i + n = 5 →
    (G 96 3 [zR 101 0, zR 103 0, zR 107 0, zI a, zI f, zI l, zI i, u1, u2, u3] [] (HM μ) ck sk Q ↔ Q (.inl (some (zI (lw (lhs μ a) (lsz μ a) (ldt μ a) f l n i (μ 107 0 4)).1))) (HM (mu μ 107 0 4 (lw (lhs μ a) (lsz μ a) (ldt μ a) f l n i (μ 107 0 4)).2)))
  | 0, i, u1, u2, u3, μ, hB, h0, hi => by
    have h1 : ¬ i < 5 := by omega
    rw [g96_3]
    simp (disch := first | omega | (simp (disch := decide) only [zmu0, mu_g, List.length_nil, List.length_cons]; omega)) only [g96_0, g96_1, g96_5, g96_6, g96_9, g96_11, g96_13, g96_14, g96_15, g96_16, g96_18, g96_19, g96_20, g96_21, g96_23, g96_26, g96_28, g96_29, g96_30, g96_31, g96_32, g96_33, g96_35, g96_36, g96_37, g96_38, g96_40, g96_41, g96_42, g96_45, g96_47, g96_48, g96_49, g96_52, g96_53, g96_55, g96_56, g96_57, g96_58, g96_59, g96_60, g96_63, g96_65, g96_66, g96_67, g96_70, g96_71, g96_72, g96_73, g96_76, g96_79, g96_81, Int.reduceSub, Int.reduceAdd, Int.add_zero, Int.zero_add, Int.cast_ofNat_Int, Bool.false_eq_true, decide_true, decide_false, zbndI, zbwI, zbzI, zb1I, zoA_at, gback_v, gback_n, zem, zisr, zro_at, zrl_at, mu_g, mu_at, mu_mu, mu_self, not_true, not_false_iff, zb0, zb1, zbnd, zbw, zbz, zne1, zone, mrgI, List.length_nil, List.length_cons, Nat.reduceAdd, Nat.reduceSub, Nat.reduceLeDiff, Nat.zero_le, and_true, true_and, false_and, and_false, true_or, or_true, false_or, or_false, G_ite, z10, z1n, z1and, z1or, z0not, z0and, itn, if_true, if_false, reduceIte, Int.reduceEq, Int.reduceLT, Int.reduceNeg, Nat.reduceEqDiff, ite_self, h1, lw, mu_self]
  | n + 1, i, u1, u2, u3, μ, hB, h0, hi => by
    have h1 : i < 5 := by omega
    have ht : 0 ≤ (f + i) % 5 ∧ (f + i) % 5 < 5 := by omega
    have hv := lfv_b hB ha ha2 (j := (f + i) % 5) (by omega) (by omega)
    have e5 := fun (ck sk : Nat) (Q : ZO → ZH → Prop) (u1 u2 u3 u4 : ZV) => c94 (ck := ck) (sk := sk) (Q := Q) (u1 := u1) (u2 := u2) (u3 := u3) (u4 := u4) hB ha ha2 (j := (f + i) % 5) (by omega) (by omega)
    have ih := fun u1 u2 u3 => c96_l ha ha2 hf hf2 hl hl2 n (i + 1) u1 u2 u3 (mu μ 107 0 4 (zor (μ 107 0 4) (zshl 1 ((f + i) % 5)))) (rwB_mu (by decide) (by decide) hB) (by omega) (by omega)
    simp (disch := decide) only [lhs_mu, lsz_mu, ldt_mu, mu_mu, mu_at] at ih
    rw [g96_3, lw_s]
    by_cases h2 : 0 < lfv μ a ((f + i) % 5)
    · have hd : 0 ≤ (lfv μ a ((f + i) % 5) - 1) / 32 ∧ (lfv μ a ((f + i) % 5) - 1) / 32 < 67108864 := by omega
      have e6 : zand (zshr (ldt μ a ((f + i) % 5)) l) 1 = (lfv μ a ((f + i) % 5) - 1) / 32 / 2 ^ l.toNat % 2 := by
        rw [zand_1, zshr_e hl hl2 (by unfold ldt; omega) (by unfold ldt; omega)]
        rfl
      rw [e6]
      generalize hbit : (lfv μ a ((f + i) % 5) - 1) / 32 / 2 ^ l.toNat % 2 = bit
      have hb : 0 ≤ bit ∧ bit < 2 := by omega
      have h2' : ¬ lfv μ a ((f + i) % 5) ≤ 0 := by omega
      by_cases h3 : bit = 0
      · have h3' : ¬ bit = 1 := by omega
        simp (disch := first | omega | (simp (disch := decide) only [zmu0, mu_g, List.length_nil, List.length_cons]; omega)) only [g96_0, g96_1, g96_5, g96_6, g96_9, g96_11, g96_13, g96_14, g96_15, g96_16, g96_18, g96_19, g96_20, g96_21, g96_23, g96_26, g96_28, g96_29, g96_30, g96_31, g96_32, g96_33, g96_35, g96_36, g96_37, g96_38, g96_40, g96_41, g96_42, g96_45, g96_47, g96_48, g96_49, g96_52, g96_53, g96_55, g96_56, g96_57, g96_58, g96_59, g96_60, g96_63, g96_65, g96_66, g96_67, g96_70, g96_71, g96_72, g96_73, g96_76, g96_79, g96_81, rd107, wr107, Int.reduceSub, Int.reduceAdd, Int.add_zero, Int.zero_add, Int.cast_ofNat_Int, Bool.false_eq_true, decide_true, decide_false, zbndI, zbwI, zbzI, zb1I, zoA_at, gback_v, gback_n, zem, zisr, zro_at, zrl_at, mu_g, mu_at, mu_mu, mu_self, not_true, not_false_iff, zb0, zb1, zbnd, zbw, zbz, zne1, zone, mrgI, List.length_nil, List.length_cons, Nat.reduceAdd, Nat.reduceSub, Nat.reduceLeDiff, Nat.zero_le, and_true, true_and, false_and, and_false, true_or, or_true, false_or, or_false, G_ite, z10, z1n, z1and, z1or, z0not, z0and, itn, if_true, if_false, reduceIte, Int.reduceEq, Int.reduceLT, Int.reduceNeg, Nat.reduceEqDiff, ite_self, h1, e5, zcI_lt, zcI_gt, zcI_eq, h2, hbit, h3', ih, h3]
      · have h3' : bit = 1 := by omega
        simp (disch := first | omega | (simp (disch := decide) only [zmu0, mu_g, List.length_nil, List.length_cons]; omega)) only [g96_0, g96_1, g96_5, g96_6, g96_9, g96_11, g96_13, g96_14, g96_15, g96_16, g96_18, g96_19, g96_20, g96_21, g96_23, g96_26, g96_28, g96_29, g96_30, g96_31, g96_32, g96_33, g96_35, g96_36, g96_37, g96_38, g96_40, g96_41, g96_42, g96_45, g96_47, g96_48, g96_49, g96_52, g96_53, g96_55, g96_56, g96_57, g96_58, g96_59, g96_60, g96_63, g96_65, g96_66, g96_67, g96_70, g96_71, g96_72, g96_73, g96_76, g96_79, g96_81, rd107, wr107, Int.reduceSub, Int.reduceAdd, Int.add_zero, Int.zero_add, Int.cast_ofNat_Int, Bool.false_eq_true, decide_true, decide_false, zbndI, zbwI, zbzI, zb1I, zoA_at, gback_v, gback_n, zem, zisr, zro_at, zrl_at, mu_g, mu_at, mu_mu, mu_self, not_true, not_false_iff, zb0, zb1, zbnd, zbw, zbz, zne1, zone, mrgI, List.length_nil, List.length_cons, Nat.reduceAdd, Nat.reduceSub, Nat.reduceLeDiff, Nat.zero_le, and_true, true_and, false_and, and_false, true_or, or_true, false_or, or_false, G_ite, z10, z1n, z1and, z1or, z0not, z0and, itn, if_true, if_false, reduceIte, Int.reduceEq, Int.reduceLT, Int.reduceNeg, Nat.reduceEqDiff, ite_self, h1, e5, zcI_lt, zcI_gt, zcI_eq, h2, hbit, h3']
        simp (disch := first | omega | (simp (disch := decide) only [zmu0, mu_g, List.length_nil, List.length_cons]; omega)) only [Int.reduceSub, Int.reduceAdd, Int.add_zero, Int.zero_add, Int.cast_ofNat_Int, Bool.false_eq_true, decide_true, decide_false, zbndI, zbwI, zbzI, zb1I, zoA_at, gback_v, gback_n, zem, zisr, zro_at, zrl_at, mu_g, mu_at, mu_mu, mu_self, not_true, not_false_iff, zb0, zb1, zbnd, zbw, zbz, zne1, zone, mrgI, List.length_nil, List.length_cons, Nat.reduceAdd, Nat.reduceSub, Nat.reduceLeDiff, Nat.zero_le, and_true, true_and, false_and, and_false, true_or, or_true, false_or, or_false, G_ite, z10, z1n, z1and, z1or, z0not, z0and, itn, if_true, if_false, reduceIte, Int.reduceEq, Int.reduceLT, Int.reduceNeg, Nat.reduceEqDiff, ite_self, lhs, lsz, h2]
    · rw [if_neg (fun z => h2 (of_decide_eq_true z.1))]
      simp (disch := first | omega | (simp (disch := decide) only [zmu0, mu_g, List.length_nil, List.length_cons]; omega)) only [g96_0, g96_1, g96_5, g96_6, g96_9, g96_11, g96_13, g96_14, g96_15, g96_16, g96_18, g96_19, g96_20, g96_21, g96_23, g96_26, g96_28, g96_29, g96_30, g96_31, g96_32, g96_33, g96_35, g96_36, g96_37, g96_38, g96_40, g96_41, g96_42, g96_45, g96_47, g96_48, g96_49, g96_52, g96_53, g96_55, g96_56, g96_57, g96_58, g96_59, g96_60, g96_63, g96_65, g96_66, g96_67, g96_70, g96_71, g96_72, g96_73, g96_76, g96_79, g96_81, rd107, wr107, Int.reduceSub, Int.reduceAdd, Int.add_zero, Int.zero_add, Int.cast_ofNat_Int, Bool.false_eq_true, decide_true, decide_false, zbndI, zbwI, zbzI, zb1I, zoA_at, gback_v, gback_n, zem, zisr, zro_at, zrl_at, mu_g, mu_at, mu_mu, mu_self, not_true, not_false_iff, zb0, zb1, zbnd, zbw, zbz, zne1, zone, mrgI, List.length_nil, List.length_cons, Nat.reduceAdd, Nat.reduceSub, Nat.reduceLeDiff, Nat.zero_le, and_true, true_and, false_and, and_false, true_or, or_true, false_or, or_false, G_ite, z10, z1n, z1and, z1or, z0not, z0and, itn, if_true, if_false, reduceIte, Int.reduceEq, Int.reduceLT, Int.reduceNeg, Nat.reduceEqDiff, ite_self, h1, e5, zcI_lt, zcI_gt, zcI_eq, h2, ih]
theorem c96 (hB : rwB μ) (ha : 0 ≤ a) (ha2 : a < 13) (hf : 0 ≤ f) (hf2 : f < 5) (hl : 0 ≤ l) (hl2 : l < 32) :
    G 96 0 [zR 101 0, zR 103 0, zR 107 0, zI a, zI f, zI l, u, u1, u2, u3] [] (HM μ) ck sk Q ↔ Q (.inl (some (zI (lw (lhs μ a) (lsz μ a) (ldt μ a) f l 5 0 (μ 107 0 4)).1))) (HM (mu μ 107 0 4 (lw (lhs μ a) (lsz μ a) (ldt μ a) f l 5 0 (μ 107 0 4)).2)) := by
  simp only [g96_0, g96_1, c96_l ha ha2 hf hf2 hl hl2 5 0 u1 u2 u3 μ hB (by omega) (by omega)]
/-- the law's lines: their paragraphs -/
abbrev lhm (μ : ZU) : Int → Int := fun l => μ 108 0 l % 16
def lnP (μ : ZU) : Prop := (∀ q, 0 ≤ q → q < 41 → 0 ≤ μ 108 0 q ∧ 0 ≤ μ 109 0 q) ∧ 0 ≤ μ 107 0 0 ∧ μ 107 0 0 ≤ 40
theorem c98 (hP : lnP μ) (h1 : 0 ≤ l) (h2 : l < 41) : G 98 0 [zR 108 0, zI l] [] (HM μ) ck sk Q ↔ Q (.inl (some (zI (if l = 0 ∨ ¬ lhm μ (l - 1) = lhm μ l then 1 else 0)))) (HM μ) := by
  have i1 := (hP.1 l h1 h2).1
  by_cases h3 : l = 0
  · subst h3
    simp (disch := first | omega | (simp (disch := decide) only [zmu0, mu_g, List.length_nil, List.length_cons]; omega)) only [g98_0, g98_1, g98_4, g98_5, g98_6, g98_7, g98_8, g98_9, g98_11, g98_12, g98_13, g98_14, g98_15, g98_17, g98_18, g98_21, g98_22, g98_25, g98_26, rd108, wr108, Int.reduceSub, Int.reduceAdd, Int.add_zero, Int.zero_add, Int.cast_ofNat_Int, Bool.false_eq_true, decide_true, decide_false, zbndI, zbwI, zbzI, zb1I, zoA_at, gback_v, gback_n, zem, zisr, zro_at, zrl_at, mu_g, mu_at, mu_mu, mu_self, not_true, not_false_iff, zb0, zb1, zbnd, zbw, zbz, zne1, zone, mrgI, List.length_nil, List.length_cons, Nat.reduceAdd, Nat.reduceSub, Nat.reduceLeDiff, Nat.zero_le, and_true, true_and, false_and, and_false, true_or, or_true, false_or, or_false, G_ite, z10, z1n, z1and, z1or, z0not, z0and, itn, if_true, if_false, reduceIte, Int.reduceEq, Int.reduceLT, Int.reduceNeg, Nat.reduceEqDiff, ite_self]
  · have i2 := (hP.1 (l - 1) (by omega) (by omega)).1
    by_cases h4 : μ 108 0 (l - 1) % 16 = μ 108 0 l % 16 <;> simp (disch := first | omega | (simp (disch := decide) only [zmu0, mu_g, List.length_nil, List.length_cons]; omega)) only [g98_0, g98_1, g98_4, g98_5, g98_6, g98_7, g98_8, g98_9, g98_11, g98_12, g98_13, g98_14, g98_15, g98_17, g98_18, g98_21, g98_22, g98_25, g98_26, rd108, wr108, Int.reduceSub, Int.reduceAdd, Int.add_zero, Int.zero_add, Int.cast_ofNat_Int, Bool.false_eq_true, decide_true, decide_false, zbndI, zbwI, zbzI, zb1I, zoA_at, gback_v, gback_n, zem, zisr, zro_at, zrl_at, mu_g, mu_at, mu_mu, mu_self, not_true, not_false_iff, zb0, zb1, zbnd, zbw, zbz, zne1, zone, mrgI, List.length_nil, List.length_cons, Nat.reduceAdd, Nat.reduceSub, Nat.reduceLeDiff, Nat.zero_le, and_true, true_and, false_and, and_false, true_or, or_true, false_or, or_false, G_ite, z10, z1n, z1and, z1or, z0not, z0and, itn, if_true, if_false, reduceIte, Int.reduceEq, Int.reduceLT, Int.reduceNeg, Nat.reduceEqDiff, ite_self, h3, h4, lhm]
theorem c99 (hP : lnP μ) (h1 : 0 ≤ l) (h2 : l < 40) : G 99 0 [zR 108 0, zR 107 0, zI l] [] (HM μ) ck sk Q ↔ Q (.inl (some (zI (if l = μ 107 0 0 - 1 ∨ ¬ lhm μ (l + 1) = lhm μ l then 1 else 0)))) (HM μ) := by
  have i1 := (hP.1 l h1 (by omega)).1
  have i2 := (hP.1 (l + 1) (by omega) (by omega)).1
  have i3 := hP.2
  by_cases h3 : l = μ 107 0 0 - 1
  · simp (disch := first | omega | (simp (disch := decide) only [zmu0, mu_g, List.length_nil, List.length_cons]; omega)) only [g99_0, g99_1, g99_2, g99_3, g99_4, g99_5, g99_6, g99_9, g99_10, g99_11, g99_12, g99_13, g99_14, g99_16, g99_17, g99_18, g99_19, g99_20, g99_22, g99_23, g99_26, g99_27, g99_30, g99_31, rd107, wr107, rd108, wr108, Int.reduceSub, Int.reduceAdd, Int.add_zero, Int.zero_add, Int.cast_ofNat_Int, Bool.false_eq_true, decide_true, decide_false, zbndI, zbwI, zbzI, zb1I, zoA_at, gback_v, gback_n, zem, zisr, zro_at, zrl_at, mu_g, mu_at, mu_mu, mu_self, not_true, not_false_iff, zb0, zb1, zbnd, zbw, zbz, zne1, zone, mrgI, List.length_nil, List.length_cons, Nat.reduceAdd, Nat.reduceSub, Nat.reduceLeDiff, Nat.zero_le, and_true, true_and, false_and, and_false, true_or, or_true, false_or, or_false, G_ite, z10, z1n, z1and, z1or, z0not, z0and, itn, if_true, if_false, reduceIte, Int.reduceEq, Int.reduceLT, Int.reduceNeg, Nat.reduceEqDiff, ite_self, h3]
  · by_cases h4 : μ 108 0 (l + 1) % 16 = μ 108 0 l % 16 <;> simp (disch := first | omega | (simp (disch := decide) only [zmu0, mu_g, List.length_nil, List.length_cons]; omega)) only [g99_0, g99_1, g99_2, g99_3, g99_4, g99_5, g99_6, g99_9, g99_10, g99_11, g99_12, g99_13, g99_14, g99_16, g99_17, g99_18, g99_19, g99_20, g99_22, g99_23, g99_26, g99_27, g99_30, g99_31, rd107, wr107, rd108, wr108, Int.reduceSub, Int.reduceAdd, Int.add_zero, Int.zero_add, Int.cast_ofNat_Int, Bool.false_eq_true, decide_true, decide_false, zbndI, zbwI, zbzI, zb1I, zoA_at, gback_v, gback_n, zem, zisr, zro_at, zrl_at, mu_g, mu_at, mu_mu, mu_self, not_true, not_false_iff, zb0, zb1, zbnd, zbw, zbz, zne1, zone, mrgI, List.length_nil, List.length_cons, Nat.reduceAdd, Nat.reduceSub, Nat.reduceLeDiff, Nat.zero_le, and_true, true_and, false_and, and_false, true_or, or_true, false_or, or_false, G_ite, z10, z1n, z1and, z1or, z0not, z0and, itn, if_true, if_false, reduceIte, Int.reduceEq, Int.reduceLT, Int.reduceNeg, Nat.reduceEqDiff, ite_self, h3, h4, lhm]
abbrev lpg (μ : ZU) : Int → Int := fun l => μ 109 0 l / 1024
theorem c101_l (hP : lnP μ) : ∀ (n : Nat) (k : Int), 0 ≤ k → k + n = μ 107 0 0 → (∀ q, 0 ≤ q → q < 41 → μ 109 0 q < 2147483648) → (G 101 3 [zR 107 0, zR 108 0, zR 109 0, zI p, zI k] [] (HM μ) ck sk Q ↔ Q (.inl (some (zI (fdG (lhm μ) (lpg μ) p 1 n k)))) (HM μ))
  | 0, k, h1, h2, hx => by
    have i3 := hP.2
    have h5 : ¬ k < μ 107 0 0 := by omega
    rw [g101_3]
    simp (disch := first | omega | (simp (disch := decide) only [zmu0, mu_g, List.length_nil, List.length_cons]; omega)) only [g101_0, g101_1, g101_5, g101_6, g101_7, g101_8, g101_11, g101_12, g101_14, g101_15, g101_17, g101_18, g101_19, g101_22, g101_23, g101_25, g101_26, g101_29, g101_30, g101_31, g101_32, g101_33, g101_36, g101_39, g101_40, rd107, wr107, Int.reduceSub, Int.reduceAdd, Int.add_zero, Int.zero_add, Int.cast_ofNat_Int, Bool.false_eq_true, decide_true, decide_false, zbndI, zbwI, zbzI, zb1I, zoA_at, gback_v, gback_n, zem, zisr, zro_at, zrl_at, mu_g, mu_at, mu_mu, mu_self, not_true, not_false_iff, zb0, zb1, zbnd, zbw, zbz, zne1, zone, mrgI, List.length_nil, List.length_cons, Nat.reduceAdd, Nat.reduceSub, Nat.reduceLeDiff, Nat.zero_le, and_true, true_and, false_and, and_false, true_or, or_true, false_or, or_false, G_ite, z10, z1n, z1and, z1or, z0not, z0and, itn, if_true, if_false, reduceIte, Int.reduceEq, Int.reduceLT, Int.reduceNeg, Nat.reduceEqDiff, ite_self, h5, fdG]
  | n + 1, k, h1, h2, hx => by
    have i3 := hP.2
    have i1 := hP.1 k (by omega) (by omega)
    have i2 := hx k (by omega) (by omega)
    have h5 : k < μ 107 0 0 := by omega
    have ih := c101_l hP n (k + 1) (by omega) (by omega) hx
    have i4 : 0 ≤ μ 109 0 k / 1024 ∧ μ 109 0 k / 1024 < 2097153 := by omega
    rw [g101_3]
    unfold fdG
    by_cases h6 : μ 108 0 k % 16 = p
    · simp (disch := first | omega | (simp (disch := decide) only [zmu0, mu_g, List.length_nil, List.length_cons]; omega)) only [g101_0, g101_1, g101_5, g101_6, g101_7, g101_8, g101_11, g101_12, g101_14, g101_15, g101_17, g101_18, g101_19, g101_22, g101_23, g101_25, g101_26, g101_29, g101_30, g101_31, g101_32, g101_33, g101_36, g101_39, g101_40, rd107, wr107, rd108, wr108, rd109, wr109, Int.reduceSub, Int.reduceAdd, Int.add_zero, Int.zero_add, Int.cast_ofNat_Int, Bool.false_eq_true, decide_true, decide_false, zbndI, zbwI, zbzI, zb1I, zoA_at, gback_v, gback_n, zem, zisr, zro_at, zrl_at, mu_g, mu_at, mu_mu, mu_self, not_true, not_false_iff, zb0, zb1, zbnd, zbw, zbz, zne1, zone, mrgI, List.length_nil, List.length_cons, Nat.reduceAdd, Nat.reduceSub, Nat.reduceLeDiff, Nat.zero_le, and_true, true_and, false_and, and_false, true_or, or_true, false_or, or_false, G_ite, z10, z1n, z1and, z1or, z0not, z0and, itn, if_true, if_false, reduceIte, Int.reduceEq, Int.reduceLT, Int.reduceNeg, Nat.reduceEqDiff, ite_self, h5, h6, lhm, lpg]
    · simp (disch := first | omega | (simp (disch := decide) only [zmu0, mu_g, List.length_nil, List.length_cons]; omega)) only [g101_0, g101_1, g101_5, g101_6, g101_7, g101_8, g101_11, g101_12, g101_14, g101_15, g101_17, g101_18, g101_19, g101_22, g101_23, g101_25, g101_26, g101_29, g101_30, g101_31, g101_32, g101_33, g101_36, g101_39, g101_40, rd107, wr107, rd108, wr108, rd109, wr109, Int.reduceSub, Int.reduceAdd, Int.add_zero, Int.zero_add, Int.cast_ofNat_Int, Bool.false_eq_true, decide_true, decide_false, zbndI, zbwI, zbzI, zb1I, zoA_at, gback_v, gback_n, zem, zisr, zro_at, zrl_at, mu_g, mu_at, mu_mu, mu_self, not_true, not_false_iff, zb0, zb1, zbnd, zbw, zbz, zne1, zone, mrgI, List.length_nil, List.length_cons, Nat.reduceAdd, Nat.reduceSub, Nat.reduceLeDiff, Nat.zero_le, and_true, true_and, false_and, and_false, true_or, or_true, false_or, or_false, G_ite, z10, z1n, z1and, z1or, z0not, z0and, itn, if_true, if_false, reduceIte, Int.reduceEq, Int.reduceLT, Int.reduceNeg, Nat.reduceEqDiff, ite_self, h5, h6, lhm, ih]
theorem c101 (hP : lnP μ) (hx : ∀ q, 0 ≤ q → q < 41 → μ 109 0 q < 2147483648) : G 101 0 [zR 107 0, zR 108 0, zR 109 0, zI p, u] [] (HM μ) ck sk Q ↔ Q (.inl (some (zI (fdG (lhm μ) (lpg μ) p 1 (μ 107 0 0).toNat 0)))) (HM μ) := by
  have i3 := hP.2
  simp only [g101_0, g101_1, c101_l hP (μ 107 0 0).toNat 0 (by omega) (by omega) hx]
end ZQA
