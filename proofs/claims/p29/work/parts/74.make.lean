/-! ===== the law: isImage, a new one ===== -/
section ZPE1
variable {ck sk : Nat} {Q : ZO → ZH → Prop} {μ ν κ M Φ : ZU} {a b c d e f g i j k l m n o p r s t t' v w x z D R S T : Int} {y : Int64} {u u1 u2 u3 u4 u5 u6 u7 u8 u9 u10 u11 u12 : ZV}
theorem mu_cm {k k' : Nat} (h : k ≠ k') : mu (mu μ k i j v) k' p r w = mu (mu μ k' p r w) k i j v := by
  funext q
  by_cases q1 : q = k
  · subst q1
    rw [mu_g h]
    funext i' j'
    by_cases hi : i' = i
    · subst hi
      by_cases hj : j' = j
      · subst hj
        rw [mu_at, mu_at]
      · rw [mu_j hj, mu_j hj, mu_g h]
    · rw [mu_i hi, mu_i hi, mu_g h]
  · rw [mu_g q1]
    by_cases q2 : q = k'
    · subst q2
      funext i' j'
      by_cases hi : i' = p
      · subst hi
        by_cases hj : j' = r
        · subst hj
          rw [mu_at, mu_at]
        · rw [mu_j hj, mu_j hj, mu_g q1]
      · rw [mu_i hi, mu_i hi, mu_g q1]
    · rw [mu_g q2, mu_g q1, mu_g q2]
theorem kcd_row {r0 r1 r2 : Int} (h0 : 0 ≤ r0 ∧ r0 ≤ 7) (h1 : 0 ≤ r1 ∧ r1 ≤ 7) (h2 : 0 ≤ r2 ∧ r2 ≤ 7) (j0 : 0 ≤ j) (j1 : j < 8) : kcd (Int64.ofInt (r0 + 256 * r1 + 65536 * r2)) j = if j = 0 then r0 else if j = 1 then r1 else if j = 2 then r2 else 0 := by
  rw [kcd_lcd j0 j1 (by omega) (by omega)]
  unfold lcd
  have hj : j = 0 ∨ j = 1 ∨ j = 2 ∨ j = 3 ∨ j = 4 ∨ j = 5 ∨ j = 6 ∨ j = 7 := by omega
  rcases hj with rfl | rfl | rfl | rfl | rfl | rfl | rfl | rfl
  · rw [if_pos rfl, show (2 : Int) ^ (8 * (0 : Int)).toNat = 1 by decide]; omega
  · rw [if_neg (by decide), if_pos rfl, show (2 : Int) ^ (8 * (1 : Int)).toNat = 256 by decide]; omega
  · rw [if_neg (by decide), if_neg (by decide), if_pos rfl, show (2 : Int) ^ (8 * (2 : Int)).toNat = 65536 by decide]; omega
  · rw [if_neg (by decide), if_neg (by decide), if_neg (by decide), show (2 : Int) ^ (8 * (3 : Int)).toNat = 16777216 by decide]; omega
  · rw [if_neg (by decide), if_neg (by decide), if_neg (by decide), show (2 : Int) ^ (8 * (4 : Int)).toNat = 4294967296 by decide]; omega
  · rw [if_neg (by decide), if_neg (by decide), if_neg (by decide), show (2 : Int) ^ (8 * (5 : Int)).toNat = 1099511627776 by decide]; omega
  · rw [if_neg (by decide), if_neg (by decide), if_neg (by decide), show (2 : Int) ^ (8 * (6 : Int)).toNat = 281474976710656 by decide]; omega
  · rw [if_neg (by decide), if_neg (by decide), if_neg (by decide), show (2 : Int) ^ (8 * (7 : Int)).toNat = 72057594037927936 by decide]; omega
/-- the long y tells the row q of m layers -/
def yrw (y : Int64) (m : Int) (q : Int → Int) : Prop := (1 ≤ m ∧ m ≤ 3) ∧ (∀ j, 0 ≤ j → j < m → kcd y j = q j ∧ 1 ≤ q j ∧ q j ≤ 7) ∧ ∀ j, m ≤ j → j < 8 → kcd y j = 0
theorem yrw_of {q : Int → Int} (hm : 1 ≤ m ∧ m ≤ 3) (hq : ∀ j, 0 ≤ j → j < m → 1 ≤ q j ∧ q j ≤ 7) (hz : ∀ j, m ≤ j → j < 3 → q j = 0) : yrw (Int64.ofInt (q 0 + 256 * q 1 + 65536 * q 2)) m q := by
  have b : ∀ j, 0 ≤ j → j < 3 → 0 ≤ q j ∧ q j ≤ 7 := fun j j0 j1 => by
    by_cases h : j < m
    · have := hq j j0 h; omega
    · have := hz j (by omega) j1; omega
  have e := fun (j : Int) j0 j1 => kcd_row (r0 := q 0) (r1 := q 1) (r2 := q 2) (j := j) (b 0 (by omega) (by omega)) (b 1 (by omega) (by omega)) (b 2 (by omega) (by omega)) j0 j1
  have key : ∀ j, 0 ≤ j → j < 3 → (if j = 0 then q 0 else if j = 1 then q 1 else if j = 2 then q 2 else 0) = q j := fun j j0 j1 => by
    have hj : j = 0 ∨ j = 1 ∨ j = 2 := by omega
    rcases hj with rfl | rfl | rfl
    · rw [if_pos rfl]
    · rw [if_neg (by decide), if_pos rfl]
    · rw [if_neg (by decide), if_neg (by decide), if_pos rfl]
  refine ⟨hm, fun j j0 j1 => ⟨?_, hq j j0 j1⟩, fun j j0 j1 => ?_⟩
  · rw [e j j0 (by omega), key j j0 (by omega)]
  · rw [e j (by omega) j1]
    by_cases h : j < 3
    · rw [key j (by omega) h, hz j j0 h]
    · rw [if_neg (by omega), if_neg (by omega), if_neg (by omega)]
theorem yrw_len {q : Int → Int} (h : yrw y m q) : klen y = m := by
  obtain ⟨h1, h2, h3⟩ := h
  unfold klen
  refine zwh_v 8 0 (by omega) (by omega) (fun j j0 j1 => decide_eq_true ?_) (fun _ => decide_eq_false ?_)
  · have := h2 j j0 j1
    omega
  · have := h3 m (Int.le_refl _) (by omega)
    omega
theorem yrw_kall {q : Int → Int} (h : yrw y m q) : kall y g 6 ↔ ∀ j, 0 ≤ j → j < m → q j ≤ g := by
  have hl := yrw_len h
  obtain ⟨h1, h2, h3⟩ := h
  unfold kall
  rw [hl]
  constructor
  · intro z j j0 j1
    have e := of_decide_eq_true (zall_iff.mp z.2 j j0 (by omega))
    rw [if_pos j1] at e
    have := h2 j j0 j1
    omega
  · intro z
    refine ⟨by omega, zall_iff.mpr fun j j0 j1 => decide_eq_true ?_⟩
    by_cases hj : j < m
    · rw [if_pos hj]
      have := h2 j j0 hj
      have := z j j0 hj
      omega
    · rw [if_neg hj]
      have := h3 j (by omega) (by omega)
      omega
theorem hap_lkp {q : Int → Int} (h : RW M t) (hr : M 0 1 r = m) (hm : 1 ≤ m ∧ m ≤ 3) (h26 : ∀ j, 0 ≤ j → j < m → M 26 r j = q j - 1 ∧ 1 ≤ q j ∧ q j ≤ M 0 0 10) (e101 : ν 101 = M 101) (e103 : ν 103 = M 103) (e115 : ∀ j, 0 ≤ j → j < 3 → ν 115 n j = if j < m then q j else 0) (i0 : 0 ≤ i) (i1 : i < M 0 0 20) : hap M r i = lkp ν n i := by
  obtain ⟨r1, r2, r3, r4, r5, r6, -⟩ := h.2.2.2.1.1 i i0 i1
  unfold hap lkp
  rw [decide_eq_decide, e103, r1.1]
  have key : ral M (M 20 i 1) r = true ↔ zall (lkq ν n i) 3 0 = true := by
    have hal : ∀ j, 0 ≤ j → j < m → j < M 0 1 (M 20 i 1) → (lal M (M 26 (M 20 i 1) j) (M 26 r j) = true ↔ zall (lkm ν (M 26 (M 20 i 1) j + 1) (q j)) 10 0 = true) := fun j j0 jm jl => by
      have h6 := (r6 j j0 jl).1
      have hq := h26 j j0 jm
      rw [h.alike h6.1 h6.2 (by omega) (by omega)]
      have e : zall (fun x => decide (M 101 0 (10 * M 26 (M 20 i 1) j + x) = M 101 0 (10 * M 26 r j + x))) 10 0 = zall (lkm ν (M 26 (M 20 i 1) j + 1) (q j)) 10 0 := by
        refine zall_eq fun x _ _ => ?_
        unfold lkm
        rw [e101, hq.1, show M 26 (M 20 i 1) j + 1 - 1 = M 26 (M 20 i 1) j by omega]
      rw [e]
    unfold ral
    rw [hr]
    constructor
    · intro z
      obtain ⟨z1, z2⟩ := of_decide_eq_true z
      refine zall_iff.mpr fun j j0 j1 => decide_eq_true ?_
      have j1 : j < 3 := j1
      rw [e103, r5 j j0 j1, e115 j j0 j1]
      by_cases hj : j < m
      · have h2 := h26 j j0 hj
        have h6 := (r6 j j0 (by omega)).1
        rw [if_pos (by omega), if_pos hj]
        refine ⟨by omega, fun _ => ?_⟩
        exact (hal j j0 hj (by omega)).mp (zall_iff.mp z2 j j0 (by omega))
      · rw [if_neg (by omega), if_neg hj]
        exact ⟨by omega, fun z => by omega⟩
    · intro z
      have zz := fun j (j0 : 0 ≤ j) (j1 : j < 3) => of_decide_eq_true (zall_iff.mp z j j0 (by omega))
      have hiff : ∀ j, 0 ≤ j → j < 3 → (j < M 0 1 (M 20 i 1) ↔ j < m) := fun j j0 j1 => by
        have e := (zz j j0 j1).1
        rw [e103, r5 j j0 j1, e115 j j0 j1] at e
        by_cases a1 : j < M 0 1 (M 20 i 1)
        · have h6 := (r6 j j0 a1).1
          rw [if_pos a1] at e
          by_cases a2 : j < m
          · exact ⟨fun _ => a2, fun _ => a1⟩
          · rw [if_neg a2] at e
            omega
        · rw [if_neg a1] at e
          by_cases a2 : j < m
          · have h2 := h26 j j0 a2
            rw [if_pos a2] at e
            omega
          · exact ⟨fun z => absurd z a1, fun z => absurd z a2⟩
      have t1 := hiff 1 (by omega) (by omega)
      have t2 := hiff 2 (by omega) (by omega)
      have el : M 0 1 (M 20 i 1) = m := by omega
      refine decide_eq_true ⟨el, zall_iff.mpr fun j j0 j1 => ?_⟩
      have hj : j < m := by omega
      have e := (zz j j0 (by omega)).2
      have h6 := (r6 j j0 (by omega)).1
      rw [e103, r5 j j0 (by omega), e115 j j0 (by omega), if_pos (by omega), if_pos hj] at e
      exact (hal j j0 hj (by omega)).mpr (e (by omega))
  rw [key]
  exact ⟨fun z => z.2, fun z => ⟨i1, z⟩⟩
theorem like_eq {q : Int → Int} (h : RW M t) (hr : M 0 1 r = m) (hm : 1 ≤ m ∧ m ≤ 3) (h26 : ∀ j, 0 ≤ j → j < m → M 26 r j = q j - 1 ∧ 1 ≤ q j ∧ q j ≤ M 0 0 10) (e101 : ν 101 = M 101) (e103 : ν 103 = M 103) (e115 : ∀ j, 0 ≤ j → j < 3 → ν 115 n j = if j < m then q j else 0) : zdn (lkp ν n) (M 0 0 20).toNat (-1) = zff (hap M r) 12 0 := by
  have ha := h.2.1.2.1
  have e : 12 = (M 0 0 20).toNat + (12 - (M 0 0 20).toNat) := by omega
  rw [zdn_zff, e, zff_cut (p := hap M r) (12 - (M 0 0 20).toNat) (M 0 0 20).toNat (fun j j0 j1 => decide_eq_false fun z => by omega), zff_eq (p := hap M r) (q := lkp ν n) (M 0 0 20).toNat 0 (fun j j0 j1 => hap_lkp h hr hm h26 e101 e103 e115 j0 (by omega))]
  split
  · rename_i z
    exact z.symm
  · rfl
end ZPE1
