/-! ===== the law: one more job, one more build ===== -/
section ZPR
variable {μ ν κ β : ZU} {a b c d e f g h i j k l m n o p r s t t' v w x y z L H M R W C J B : Int}
theorem RW_job (h : RW μ t) (ht : t + 1 ≤ 100) (h40 : μ 0 0 40 < 40) (hi : 0 ≤ i ∧ i < μ 0 0 20) (hB : B = -1 ∨ (0 ≤ B ∧ B < ν 0 0 41))
    (h0 : ∀ p j, ¬ (p = 0 ∧ (j = 40 ∨ j = 41 ∨ j = 50)) → ν 0 p j = μ 0 p j) (c40 : ν 0 0 40 = μ 0 0 40 + 1) (c2 : ν 2 0 9 = μ 0 0 40 + 1) (c6 : ν 106 0 12 = μ 0 0 40 + 1) (h2 : ∀ j, (6 ≤ j ∧ j ≤ 8) → ν 2 0 j = μ 2 0 j) (h6 : ∀ j, j < 12 → ν 106 0 j = μ 106 0 j) (hk : ∀ q : Nat, (10 ≤ q ∧ q ≤ 35) ∨ (101 ≤ q ∧ q < 106) → ν q = μ q)
    (hjn : ν 40 (μ 0 0 40) 0 = 0 ∧ ν 40 (μ 0 0 40) 1 = i ∧ ν 40 (μ 0 0 40) 4 = B) (hjo : ∀ j, j ≠ μ 0 0 40 → ν 40 j = μ 40 j) (he : RWe ν (t + 1)) (hE : lnE ν)
    (h41 : (ν 0 0 41 = μ 0 0 41 ∧ ν 2 0 10 = μ 2 0 10 ∧ ν 106 0 13 = μ 106 0 13 ∧ ν 0 0 50 = μ 0 0 50) ∨ (ν 0 0 41 = μ 0 0 41 + 1 ∧ ν 2 0 10 = μ 0 0 41 + 1 ∧ ν 106 0 13 = μ 0 0 41 + 1 ∧ ν 0 0 50 = μ 0 0 41 + 2 ∧ B = μ 0 0 41 ∧ μ 0 0 41 < 6 ∧ RWk ν (μ 0 0 41)))
    (hb : ∀ b, 0 ≤ b → b < μ 0 0 41 → ν 41 b = μ 41 b ∧ (∀ k : Nat, 50 ≤ k → k ≤ 56 → ν k b = μ k b) ∧ ν 111 0 b = μ 111 0 b ∧ ∀ j, 0 ≤ j → j < 10 → ν 112 0 (10 * b + j) = μ 112 0 (10 * b + j)) : RW ν (t + 1) := by
  obtain ⟨r0, ra, rb, rc, rd, re, rf, rg, rh⟩ := h
  have c10 : ν 0 0 10 = μ 0 0 10 := h0 _ _ (by omega)
  have c20 : ν 0 0 20 = μ 0 0 20 := h0 _ _ (by omega)
  have c26 : ν 0 0 26 = μ 0 0 26 := h0 _ _ (by omega)
  have c30 : ν 0 0 30 = μ 0 0 30 := h0 _ _ (by omega)
  have c113 : ν 0 0 113 = μ 0 0 113 := h0 _ _ (by omega)
  have c115 : ν 0 0 115 = μ 0 0 115 := h0 _ _ (by omega)
  have c01 : ∀ r, ν 0 1 r = μ 0 1 r := fun r => h0 _ _ (by omega)
  have hf : ∀ i, lfv ν i = lfv μ i := fun i => lfv_congr (by rw [hk 101 (by omega)]) (by rw [hk 103 (by omega)])
  have hs : ∀ i, sfi μ ν 0 i := fun i => sfi_of (hk _ (by omega)) (hk _ (by omega)) (hk _ (by omega)) (hk _ (by omega)) (hk _ (by omega)) (hk _ (by omega)) (by rw [hk 22 (by omega)]) (by rw [hk 23 (by omega)]) (by rw [hk 24 (by omega)])
  refine ⟨by omega, ?_, ?_, ⟨fun i i0 i1 => ?_, fun k k0 k1 => ?_⟩, ?_, he, ⟨fun j j0 j1 => ?_, fun b b0 b1 => ?_⟩, fun b b0 b1 => ?_, hE⟩
  · obtain ⟨a1, a2, a3, a4, a5, a6, a7, a8⟩ := ra
    unfold RWa
    rw [c10, c20, c26, c30, c40, c113, c115, h2 6 (by omega), h2 7 (by omega), h2 8 (by omega), c2, c6, h6 0 (by omega), h6 1 (by omega)]
    exact ⟨a1, a2, a3, by omega, by omega, a6, a7, a8⟩
  · exact RWb_of c10 (hk _ (by omega)) (hk _ (by omega)) (hk _ (by omega)) (hk _ (by omega)) (hk _ (by omega)) (hk _ (by omega)) rb
  · rw [c20] at i1
    exact RWi_of c10 c26 c01 (fun l q => by rw [hk 10 (by omega)]; exact q) (by rw [hk 20 (by omega)]) (hk _ (by omega)) (by rw [hk 22 (by omega)]) (by rw [hk 23 (by omega)]) (by rw [hk 24 (by omega)]) (hf i) (fun k _ _ => by rw [hk 103 (by omega)]) (by omega) (rc.1 i i0 i1)
  · rw [c20] at k0
    rw [hk 103 (by omega)]
    exact rc.2 k k0 k1
  · exact RWd_of (hk _ (by omega)) (hk _ (by omega)) (hk _ (by omega)) (hk _ (by omega)) (hk _ (by omega)) (hk _ (by omega)) (hk _ (by omega)) (hk _ (by omega)) (fun j a b => h6 j b) (by omega) rd
  · rw [c20]
    by_cases q : j = μ 0 0 40
    · rw [q, hjn.1, hjn.2.1, hjn.2.2]
      exact ⟨rfl, hi, hB⟩
    · rw [hjo j q]
      have := rf.1 j j0 (by omega)
      omega
  · by_cases q : b < μ 0 0 41
    · obtain ⟨j, j0, j1, j2, j3⟩ := rf.2 b b0 q
      refine ⟨j, j0, by omega, by rw [hjo j (by omega)]; exact j2, fun j' p0 p1 => ?_⟩
      rw [hjo j' (by omega)]
      exact j3 j' p0 p1
    · refine ⟨μ 0 0 40, ra.2.2.2.1.2.2.1, by omega, by rw [hjn.2.2]; omega, fun j' p0 p1 => ?_⟩
      rw [hjo j' (by omega)]
      have := (rf.1 j' p0 p1).2.2
      omega
  · by_cases q : b < μ 0 0 41
    · obtain ⟨q1, q2, q3, q4, q5, q6, q7, q8, q9⟩ := rg b b0 q
      obtain ⟨e1, e2, e3, e4⟩ := hb b b0 q
      have e50 := e2 50 (by omega) (by omega)
      unfold RWk
      rw [e1, e3, e50, hf, hk 30 (by omega), c20]
      refine ⟨q1, q2, q3, q4, q5, q6, fun j a b => ?_, q8, fun z => ?_⟩
      · rw [e4 j a b]
        exact q7 j a b
      · exact SHT_of (SHT_sf (q9 z) (hs _)) e50 (e2 51 (by omega) (by omega)) (e2 52 (by omega) (by omega)) (e2 53 (by omega) (by omega)) (e2 54 (by omega) (by omega)) (e2 55 (by omega) (by omega)) (e2 56 (by omega) (by omega))
    · rcases h41 with z | z
      · omega
      · have e : b = μ 0 0 41 := by omega
        rw [e]
        exact z.2.2.2.2.2.2
/-- the law's counts and purses after a job of cost x -/
def mG (o x : Int) (μ : ZU) : ZU := mu (mu μ 106 0 12 (μ 106 0 12 + 1)) 106 0 (14 + o) (μ 106 0 (14 + o) - x)
theorem mG_g {k : Nat} (h : k ≠ 106) : mG o x μ k = μ k := by
  unfold mG
  rw [mu_g h, mu_g h]
theorem mG_12 (h : 0 ≤ o) : mG o x μ 106 0 12 = μ 106 0 12 + 1 := by
  unfold mG
  rw [mu_j (by omega), mu_at]
theorem mG_o : mG o x μ 106 0 (14 + o) = μ 106 0 (14 + o) - x := by
  unfold mG
  rw [mu_at]
theorem mG_j (h : j ≠ 12) (h1 : j ≠ 14 + o) : mG o x μ 106 0 j = μ 106 0 j := by
  unfold mG
  rw [mu_j h1, mu_j h]
theorem mJb_g {k : Nat} (h0 : k ≠ 0) (h1 : k ≠ 40) : mJb n d i e x b μ k = μ k := by
  funext p j
  show (if k = 0 then _ else if k = 40 ∧ p = n then _ else μ k p j) = _
  rw [if_neg h0, if_neg (fun z => h1 z.1)]
theorem mJb_0 (h : ¬ (p = 0 ∧ j = 40)) : mJb n d i e x b μ 0 p j = μ 0 p j := by
  show (if (0 : Nat) = 0 then (if p = 0 ∧ j = 40 then n + 1 else μ 0 p j) else _) = _
  rw [if_pos rfl, if_neg h]
theorem mJb_n : mJb n d i e x b μ 0 0 40 = n + 1 := rfl
theorem mJb_o (h : p ≠ n) : mJb n d i e x b μ 40 p = μ 40 p := by
  funext j
  show (if (40 : Nat) = 0 then _ else if (40 : Nat) = 40 ∧ p = n then _ else μ 40 p j) = _
  rw [if_neg (by decide), if_neg (fun z => h z.2)]
theorem mJb_at : mJb n d i e x b μ 40 n j = if j = 0 then d else if j = 1 then i else if j = 2 then e else if j = 3 then x else if j = 4 then b else 0 := by
  show (if (40 : Nat) = 0 then _ else if (40 : Nat) = 40 ∧ n = n then _ else μ 40 n j) = _
  rw [if_neg (by decide), if_pos ⟨rfl, rfl⟩]
theorem mBd_g {k : Nat} (h0 : k ≠ 0) (h1 : k ≠ 41) (h2 : ¬ (50 ≤ k ∧ k ≤ 56)) : mBd n d i v μ k = μ k := by
  funext p j
  show (if k = 0 then _ else if k = 41 ∧ p = n then _ else if (50 ≤ k ∧ k ≤ 56) ∧ p = n + 1 then 0 else μ k p j) = _
  rw [if_neg h0, if_neg (fun z => h1 z.1), if_neg (fun z => h2 z.1)]
theorem mBd_0 (h : ¬ (p = 0 ∧ (j = 41 ∨ j = 50))) : mBd n d i v μ 0 p j = μ 0 p j := by
  show (if (0 : Nat) = 0 then (if p = 0 ∧ j = 41 then n + 1 else if p = 0 ∧ j = 50 then n + 2 else μ 0 p j) else _) = _
  rw [if_pos rfl, if_neg (fun z => h ⟨z.1, Or.inl z.2⟩), if_neg (fun z => h ⟨z.1, Or.inr z.2⟩)]
theorem mBd_c : mBd n d i v μ 0 0 41 = n + 1 ∧ mBd n d i v μ 0 0 50 = n + 2 := ⟨rfl, rfl⟩
theorem mBd_41 : mBd n d i v μ 41 n j = if j = 0 then n else if j = 1 then v else if j = 2 then d else if j = 3 then i else 0 := by
  show (if (41 : Nat) = 0 then _ else if (41 : Nat) = 41 ∧ n = n then _ else _) = _
  rw [if_neg (by decide), if_pos ⟨rfl, rfl⟩]
theorem mBd_o (h : p ≠ n) : mBd n d i v μ 41 p = μ 41 p := by
  funext j
  show (if (41 : Nat) = 0 then _ else if (41 : Nat) = 41 ∧ p = n then _ else if (50 ≤ 41 ∧ 41 ≤ 56) ∧ p = n + 1 then 0 else μ 41 p j) = _
  rw [if_neg (by decide), if_neg (fun z => h z.2), if_neg (fun z => absurd z.1.1 (by decide))]
theorem mBd_s {k : Nat} (hk : 50 ≤ k ∧ k ≤ 56) (h : p ≠ n + 1) : mBd n d i v μ k p = μ k p := by
  funext j
  show (if k = 0 then _ else if k = 41 ∧ p = n then _ else if (50 ≤ k ∧ k ≤ 56) ∧ p = n + 1 then 0 else μ k p j) = _
  rw [if_neg (by omega), if_neg (fun z => by omega), if_neg (fun z => h z.2)]
end ZPR
