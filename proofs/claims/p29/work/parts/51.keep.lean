/-! ===== what stays true: where little changes ===== -/
section ZPG
variable {μ ν κ β : ZU} {a b c d e f g h i j k l m p r s t t' v w x y z L H M R : Int}
theorem RW_keep (h : RW μ t) (ht : t ≤ t') (ht2 : t' ≤ 100) (hk : ∀ q, 1 ≤ q → q < 50 → ν q = μ q) (h0 : ∀ i j, ¬ (i = 0 ∧ (j = 113 ∨ j = 115)) → ν 0 i j = μ 0 i j) (h13 : 0 ≤ ν 0 0 113) (h15 : 0 ≤ ν 0 0 115) (h1 : ∀ q, 101 ≤ q → q < 106 → ν q = μ q) (h11 : ν 111 = μ 111) (h12 : ν 112 = μ 112) (h6 : ∀ j, 0 ≤ j → j < 18 → ν 106 0 j = μ 106 0 j) (h5 : ∀ b, 0 ≤ b → b < μ 0 0 41 → ∀ k, 50 ≤ k → k ≤ 56 → ν k b = μ k b) (hE : lnE ν) : RW ν t' := by
  obtain ⟨r0, ra, rb, rc, rd, re, rf, rg, rh⟩ := h
  have c10 : ν 0 0 10 = μ 0 0 10 := h0 _ _ (by omega)
  have c20 : ν 0 0 20 = μ 0 0 20 := h0 _ _ (by omega)
  have c26 : ν 0 0 26 = μ 0 0 26 := h0 _ _ (by omega)
  have c30 : ν 0 0 30 = μ 0 0 30 := h0 _ _ (by omega)
  have c40 : ν 0 0 40 = μ 0 0 40 := h0 _ _ (by omega)
  have c41 : ν 0 0 41 = μ 0 0 41 := h0 _ _ (by omega)
  have c50 : ν 0 0 50 = μ 0 0 50 := h0 _ _ (by omega)
  have hf : ∀ i, lfv ν i = lfv μ i := fun i => lfv_congr (by rw [h1 101 (by omega) (by omega)]) (by rw [h1 103 (by omega) (by omega)])
  refine ⟨by omega, ?_, ?_, ?_, ?_, ?_, ?_, ?_, hE⟩
  · unfold RWa
    rw [c10, c20, c26, c30, c40, c41, c50, hk 2 (by omega) (by omega), h6 0 (by omega) (by omega), h6 1 (by omega) (by omega), h6 12 (by omega) (by omega), h6 13 (by omega) (by omega)]
    exact ⟨ra.1, ra.2.1, ra.2.2.1, ra.2.2.2.1, ra.2.2.2.2.1, ra.2.2.2.2.2.1, h13, h15⟩
  · exact RWb_of c10 (hk _ (by omega) (by omega)) (hk _ (by omega) (by omega)) (hk _ (by omega) (by omega)) (hk _ (by omega) (by omega)) (h1 _ (by omega) (by omega)) (h1 _ (by omega) (by omega)) rb
  · refine ⟨fun i i0 i1 => ?_, fun k k0 k1 => ?_⟩
    · rw [c20] at i1
      exact RWi_of c10 c26 (fun r => h0 _ _ (by omega)) (fun l q => by rw [hk 10 (by omega) (by omega)]; exact q) (by rw [hk 20 (by omega) (by omega)]) (hk _ (by omega) (by omega)) (by rw [hk 22 (by omega) (by omega)]) (by rw [hk 23 (by omega) (by omega)]) (by rw [hk 24 (by omega) (by omega)]) (hf i) (fun k _ _ => by rw [h1 103 (by omega) (by omega)]) ht (rc.1 i i0 i1)
    · rw [c20] at k0
      rw [h1 103 (by omega) (by omega)]
      exact rc.2 k k0 k1
  · exact RWd_of (hk _ (by omega) (by omega)) (hk _ (by omega) (by omega)) (hk _ (by omega) (by omega)) (hk _ (by omega) (by omega)) (hk _ (by omega) (by omega)) (hk _ (by omega) (by omega)) (h1 _ (by omega) (by omega)) (h1 _ (by omega) (by omega)) (fun j a b => h6 j a (by omega)) ht rd
  · exact RWe_of (hk _ (by omega) (by omega)) (fun j a b => h6 j (by omega) (by omega)) ht re
  · exact RWf_of c40 c41 (by omega) (hk _ (by omega) (by omega)) rf
  · exact RWg_of c41 (by omega) (hk _ (by omega) (by omega)) h5 h11 h12 (fun i _ _ => hf i) (by rw [hk 30 (by omega) (by omega)]; omega) (fun _ i _ _ => sfi_of (hk _ (by omega) (by omega)) (hk _ (by omega) (by omega)) (hk _ (by omega) (by omega)) (hk _ (by omega) (by omega)) (hk _ (by omega) (by omega)) (hk _ (by omega) (by omega)) (by rw [hk 22 (by omega) (by omega)]) (by rw [hk 23 (by omega) (by omega)]) (by rw [hk 24 (by omega) (by omega)])) rg
/-- the document changes -/
theorem RW_doc (h : RW μ t) (ht2 : t + 1 ≤ 100) (hk : ∀ q, (q < 30 ∨ 35 < q) → q ≠ 104 → q ≠ 105 → q ≠ 106 → ν q = μ q) (h6 : ∀ j, (0 ≤ j ∧ j < 2) ∨ (12 ≤ j ∧ j < 18) → ν 106 0 j = μ 106 0 j) (hv : μ 30 0 10 < ν 30 0 10) (hd : RWd ν (t + 1)) : RW ν (t + 1) := by
  obtain ⟨r0, ra, rb, rc, rd, re, rf, rg, rh⟩ := h
  have h0 : ν 0 = μ 0 := hk _ (by omega) (by decide) (by decide) (by decide)
  have hf : ∀ i, lfv ν i = lfv μ i := fun i => lfv_congr (by rw [hk 101 (by omega) (by decide) (by decide) (by decide)]) (by rw [hk 103 (by omega) (by decide) (by decide) (by decide)])
  refine ⟨by rw [h0]; omega, ?_, ?_, ?_, hd, ?_, ?_, ?_, ?_⟩
  · unfold RWa
    rw [h0, hk 2 (by omega) (by decide) (by decide) (by decide), h6 0 (by omega), h6 1 (by omega), h6 12 (by omega), h6 13 (by omega)]
    exact ra
  · exact RWb_of (by rw [h0]) (hk _ (by omega) (by decide) (by decide) (by decide)) (hk _ (by omega) (by decide) (by decide) (by decide)) (hk _ (by omega) (by decide) (by decide) (by decide)) (hk _ (by omega) (by decide) (by decide) (by decide)) (hk _ (by omega) (by decide) (by decide) (by decide)) (hk _ (by omega) (by decide) (by decide) (by decide)) rb
  · exact RWc_of h0 (hk _ (by omega) (by decide) (by decide) (by decide)) (hk _ (by omega) (by decide) (by decide) (by decide)) (hk _ (by omega) (by decide) (by decide) (by decide)) (hk _ (by omega) (by decide) (by decide) (by decide)) (hk _ (by omega) (by decide) (by decide) (by decide)) (hk _ (by omega) (by decide) (by decide) (by decide)) (hk _ (by omega) (by decide) (by decide) (by decide)) (hk _ (by omega) (by decide) (by decide) (by decide)) (by omega) rc
  · exact RWe_of (hk _ (by omega) (by decide) (by decide) (by decide)) (fun j a b => h6 j (by omega)) (by omega) re
  · exact RWf_of (by rw [h0]) (by rw [h0]) (by rw [h0]; omega) (hk _ (by omega) (by decide) (by decide) (by decide)) rf
  · exact RWg_of (by rw [h0]) (by rw [h0]; omega) (hk _ (by omega) (by decide) (by decide) (by decide)) (fun b _ _ k k0 k1 => by rw [hk k (by omega) (by omega) (by omega) (by omega)]) (hk _ (by omega) (by decide) (by decide) (by decide)) (hk _ (by omega) (by decide) (by decide) (by decide)) (fun i _ _ => hf i) (by omega) (fun z => by omega) rg
  · exact lnE_of (hk _ (by omega) (by decide) (by decide) (by decide)) (hk _ (by omega) (by decide) (by decide) (by decide)) rh
/-! bits of files -/
theorem z32n {n : Nat} (h0 : 0 ≤ x) (h1 : x < 2147483648) : (Int32.ofInt x).toBitVec.toNat = x.toNat := by
  have e : (Int32.ofInt x).toBitVec.toNat = (BitVec.ofInt 32 x).toNat := rfl
  have e64 : ((2 ^ 32 : Nat) : Int) = 4294967296 := by decide
  rw [e, BitVec.toNat_ofInt, e64]
  omega
theorem z32i {B : Int32} (h : B.toBitVec.toNat < 2147483648) : B.toInt = (B.toBitVec.toNat : Int) := by
  have e : B.toInt = B.toBitVec.toInt := rfl
  rw [e, BitVec.toInt_eq_toNat_of_lt (by omega)]
theorem zor_b (h0 : 0 ≤ x) (h1 : x < 1024) (h2 : 0 ≤ y) (h3 : y < 1024) : 0 ≤ zor x y ∧ zor x y < 1024 := by
  have e : (Int32.ofInt x ||| Int32.ofInt y).toBitVec.toNat < 1024 := by
    rw [Int32.toBitVec_or, BitVec.toNat_or, z32n (n := 0) h0 (by omega), z32n (n := 0) h2 (by omega)]
    exact Nat.or_lt_two_pow (n := 10) (by omega) (by omega)
  unfold zor
  rw [z32i (by omega)]
  omega
theorem zand_b (h0 : 0 ≤ x) (h1 : x < 1024) : 0 ≤ zand x y ∧ zand x y < 1024 := by
  have e : (Int32.ofInt x &&& Int32.ofInt y).toBitVec.toNat < 1024 := by
    rw [Int32.toBitVec_and, BitVec.toNat_and, z32n (n := 0) h0 (by omega)]
    exact Nat.lt_of_le_of_lt Nat.and_le_left (by omega)
  unfold zand
  rw [z32i (by omega)]
  omega
theorem zshl_b (h0 : 0 ≤ t) (h1 : t < 10) : 0 ≤ zshl 1 t ∧ zshl 1 t < 1024 := by
  have e : ∀ n : Nat, n < 10 → 0 ≤ zshl 1 (n : Int) ∧ zshl 1 (n : Int) < 1024 := by decide +kernel
  have := e t.toNat (by omega)
  rw [Int.toNat_of_nonneg h0] at this
  exact this
theorem lw_rb {hs : Int → Bool} {sz dt : Int → Int} (hf : 0 ≤ f) : ∀ (n : Nat) (i r : Int), 0 ≤ i → 0 ≤ r → r < 1024 → 0 ≤ (lw hs sz dt f l n i r).2 ∧ (lw hs sz dt f l n i r).2 < 1024
  | 0, i, r, _, h0, h1 => ⟨h0, h1⟩
  | n + 1, i, r, hi, h0, h1 => by
    have hb := zshl_b (t := (f + i) % 5) (by omega) (by omega)
    have ho := zor_b h0 h1 hb.1 hb.2
    rw [lw_s]
    split
    · exact ho
    · exact lw_rb hf n (i + 1) _ (by omega) ho.1 ho.2
theorem ww_rb {hs : Int → Bool} {sz dt cd : Int → Int} (hf : 0 ≤ f) : ∀ (n : Nat) (i s r : Int), 0 ≤ r → r < 1024 → 0 ≤ (ww hs sz dt cd f n i s r).2 ∧ (ww hs sz dt cd f n i s r).2 < 1024
  | 0, i, s, r, h0, h1 => ⟨h0, h1⟩
  | n + 1, i, s, r, h0, h1 => by
    have ho := lw_rb (hs := hs) (sz := sz) (dt := dt) (l := cd i - 1) hf 5 0 r (by omega) h0 h1
    rw [ww_s]
    exact ww_rb hf n (i + 1) _ _ ho.1 ho.2
theorem rfo_rb (hf : ∀ w, 0 ≤ w → w < μ 30 d 9 → 0 ≤ μ 31 d (μ 32 d (μ 33 d w))) : ∀ (n : Nat) (w r : Int), 0 ≤ w → w + n ≤ μ 30 d 9 → 0 ≤ r → r < 1024 → 0 ≤ rfo μ d b n w r ∧ rfo μ d b n w r < 1024
  | 0, w, r, _, _, h0, h1 => ⟨h0, h1⟩
  | n + 1, w, r, w0, wn, h0, h1 => by
    unfold rfo
    have hb : 0 ≤ brd μ d b w r ∧ brd μ d b w r < 1024 := by
      unfold brd
      split
      · exact ww_rb (hf w w0 (by omega)) _ _ _ _ h0 h1
      · exact ⟨h0, h1⟩
    exact rfo_rb hf n (w + 1) _ (by omega) (by omega) hb.1 hb.2
theorem RW.fo (h : RW μ t) : ∀ w, 0 ≤ w → w < μ 30 0 9 → 0 ≤ μ 31 0 (μ 32 0 (μ 33 0 w)) := fun w w0 w1 => by
  have a3 := h.2.1.2.2.1
  exact (((h.dcOK).2 0 (by omega) (by omega)).1.2.2 w w0 w1).2.2.1
theorem RW.rdb (h : RW μ t) : 0 ≤ rds μ 0 i ∧ rds μ 0 i < 1024 := by
  have hd := h.2.2.2.2.1
  obtain ⟨d1, d2, d3, d4, d5, -⟩ := hd
  have := d5.1
  unfold rds
  exact rfo_rb h.fo _ 0 _ (by omega) (by omega) (by omega) (by omega)
theorem zbit (X : BitVec 32) (k : Nat) (hk : k < 32) : (BitVec.sshiftRight X k &&& 1#32 = 1#32) ↔ ¬ X &&& (1#32 <<< k) = 0#32 := by
  have e1 : X &&& (1#32 <<< k) = if X.getLsbD k then 1#32 <<< k else 0#32 := by
    apply BitVec.eq_of_getLsbD_eq
    intro j hj
    by_cases hx : X.getLsbD k
    · rw [if_pos hx]
      simp only [BitVec.getLsbD_and, BitVec.getLsbD_shiftLeft, BitVec.getLsbD_one]
      by_cases hjk : j = k
      · subst hjk
        simp [hx]
      · have : ¬ j - k = 0 ∨ j < k := by omega
        rcases this with z | z <;> simp [z]
    · rw [if_neg hx]
      simp only [BitVec.getLsbD_and, BitVec.getLsbD_shiftLeft, BitVec.getLsbD_one, BitVec.getLsbD_zero]
      by_cases hjk : j = k
      · subst hjk
        simp [hx]
      · have : ¬ j - k = 0 ∨ j < k := by omega
        rcases this with z | z <;> simp [z]
  have e2 : BitVec.sshiftRight X k &&& 1#32 = if X.getLsbD k then 1#32 else 0#32 := by
    apply BitVec.eq_of_getLsbD_eq
    intro j hj
    by_cases hj0 : j = 0
    · subst hj0
      by_cases hx : X.getLsbD k
      · simp [hx, BitVec.getLsbD_sshiftRight, hk]
      · have hx' : X.getLsbD k = false := eq_false_of_ne_true hx
        have e3 : (BitVec.sshiftRight X k).getLsbD 0 = false := by
          rw [BitVec.getLsbD_sshiftRight, Nat.add_zero, hx']
          simp [hk]
        rw [if_neg hx, BitVec.getLsbD_and, e3]
        rfl
    · by_cases hx : X.getLsbD k
      · rw [if_pos hx]
        simp [hj0, BitVec.getLsbD_one]
      · rw [if_neg hx]
        simp [hj0, BitVec.getLsbD_one]
  rw [e1, e2]
  by_cases hx : X.getLsbD k
  · rw [if_pos hx, if_pos hx]
    refine ⟨fun _ hz => ?_, fun _ => rfl⟩
    have := congrArg (fun z => BitVec.getLsbD z k) hz
    simp [BitVec.getLsbD_shiftLeft, hk] at this
  · rw [if_neg hx, if_neg hx]
    exact ⟨fun z => absurd z (by decide), fun z => absurd rfl z⟩
theorem zinc (h : 5 ≤ f ∧ f ≤ 9) : zand (zshr x f) 1 = 1 ↔ ¬ zand x (zshl 1 f) = 0 := by
  have hf : f = 5 ∨ f = 6 ∨ f = 7 ∨ f = 8 ∨ f = 9 := by omega
  unfold zand zshr zshl
  rw [Int32.ofInt_toInt, Int32.ofInt_toInt]
  generalize Int32.ofInt x = X
  have i1 : ∀ A : Int32, A.toInt = 1 ↔ A.toBitVec = 1#32 := fun A => ⟨fun z => by
    have e : A = 1 := Int32.toInt_inj.mp z
    rw [e]
    rfl, fun z => by
    have e : A = 1 := Int32.toBitVec_inj.mp z
    rw [e]
    rfl⟩
  have i0 : ∀ A : Int32, A.toInt = 0 ↔ A.toBitVec = 0#32 := fun A => ⟨fun z => by
    have e : A = 0 := Int32.toInt_inj.mp z
    rw [e]
    rfl, fun z => by
    have e : A = 0 := Int32.toBitVec_inj.mp z
    rw [e]
    rfl⟩
  rw [i1, i0]
  rcases hf with rfl | rfl | rfl | rfl | rfl
  · exact zbit X.toBitVec 5 (by decide)
  · exact zbit X.toBitVec 6 (by decide)
  · exact zbit X.toBitVec 7 (by decide)
  · exact zbit X.toBitVec 8 (by decide)
  · exact zbit X.toBitVec 9 (by decide)
end ZPG
