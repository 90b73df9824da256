/-! ===== the law: jobs kept, stopped, ran ===== -/
def fK (o i K : Int) (M : ZU) : ZU := mJb (M 0 0 40) 0 i 1 0 K (mu (mG o 0 M) 2 0 9 (M 0 0 40 + 1))
noncomputable def fS (o i : Int) (M : ZU) : ZU := mJb (M 0 0 40) 0 i 2 (M 7 0 o) (-1) (mu (mu (stt (M 0 0 50 - 1) 0 i (mG o (M 7 0 o) M)) 7 0 o 0) 2 0 9 (M 0 0 40 + 1))
noncomputable def fR (o i x : Int) (M : ZU) : ZU := mJb (M 0 0 40) 0 i 0 x (M 0 0 41) (mu (mBd (M 0 0 41) 0 i (M 30 0 10) (mu (mu (stt (M 0 0 50 - 1) 0 i (mG o x M)) 7 0 o (M 7 0 o - x)) 2 0 10 (M 0 0 41 + 1))) 2 0 9 (M 0 0 40 + 1))
def vN (m i : Int) : Nat → Int → ZU → ZU
  | 0, _, μ => μ
  | n + 1, k, μ => vN m i n (k + 1) (mu μ 112 0 (10 * m + k) (lfv μ i k))
noncomputable def fV (o i x : Int) (M : ZU) : ZU := mu (vN (M 0 0 41) i 10 0 (mu (fR o i x M) 111 0 (M 0 0 41) (M 106 0 4 + 1024 * M 107 0 4))) 106 0 13 (M 0 0 41 + 1)
section ZPS
variable {μ ν κ β M : ZU} {a b c d e f g h i j k l m o p q r s t t' v w x y z L H R W C J B K : Int}
theorem vN_g {q : Nat} (h : q ≠ 112) : ∀ (n : Nat) (k : Int) (μ : ZU), vN m i n k μ q = μ q
  | 0, _, _ => rfl
  | n + 1, k, μ => by
    unfold vN
    rw [vN_g h n, mu_g h]
theorem vN_l : lfv (mu μ 112 0 j x) = lfv μ := by
  funext i
  exact lfv_congr (by rw [mu_g (by decide)]) (by rw [mu_g (by decide)])
theorem vN_at : ∀ (n : Nat) (k : Int) (μ : ZU) (j : Int), vN m i n k μ 112 0 (10 * m + j) = if k ≤ j ∧ j < k + n then lfv μ i j else μ 112 0 (10 * m + j)
  | 0, k, μ, j => by
    rw [if_neg (by omega)]
    rfl
  | n + 1, k, μ, j => by
    unfold vN
    rw [vN_at n (k + 1) _ j, vN_l]
    by_cases q : j = k
    · rw [if_neg (by omega), if_pos (by omega), q, mu_at]
    · by_cases q2 : k ≤ j ∧ j < k + (n + 1 : Nat)
      · rw [if_pos (by omega), if_pos q2]
      · rw [if_neg (by omega), if_neg q2, mu_j (by omega)]
theorem vN_o : ∀ (n : Nat) (k : Int) (μ : ZU) (y : Int), 0 ≤ k → y < 10 * m → vN m i n k μ 112 0 y = μ 112 0 y
  | 0, k, μ, y, _, _ => rfl
  | n + 1, k, μ, y, k0, hy => by
    unfold vN
    rw [vN_o n (k + 1) _ y (by omega) hy, mu_j (by omega)]
theorem SLT_o (h6 : ν 106 0 2 = μ 106 0 2) (h4 : ν 104 = μ 104) (h7 : ν 107 = μ 107) (h8 : ν 108 = μ 108) (h9 : ν 109 = μ 109) (h10 : ν 110 = μ 110) (hs : sfi μ ν 0 i) (h : SLT μ μ i) : SLT ν ν i := by
  obtain ⟨e1, e2⟩ := inp_sf hs
  unfold SLT LR
  rw [e1, e2, h4, h6, h7, h8, h9, h10]
  exact h
theorem RW_fK (h : RW M t) (ht : t + 1 ≤ 100) (h40 : M 0 0 40 < 40) (hi : 0 ≤ i ∧ i < M 0 0 20) (ho : 0 ≤ o ∧ o < 4) (hK : 0 ≤ K ∧ K < M 0 0 41) : RW (fK o i K M) (t + 1) := by
  have g : ∀ q : Nat, q ≠ 0 → q ≠ 2 → q ≠ 40 → q ≠ 106 → fK o i K M q = M q := fun q h0 h2 h40 h6 => by
    unfold fK
    rw [mJb_g h0 h40, mu_g h2, mG_g h6]
  have g0 : ∀ p j, ¬ (p = 0 ∧ j = 40) → fK o i K M 0 p j = M 0 p j := fun p j hj => by
    unfold fK
    rw [mJb_0 hj, mu_g (by decide), mG_g (by decide)]
  have g2 : ∀ j, j ≠ 9 → fK o i K M 2 0 j = M 2 0 j := fun j hj => by
    unfold fK
    rw [mJb_g (by decide) (by decide), mu_j hj, mG_g (by decide)]
  have g6 : fK o i K M 106 = mG o 0 M 106 := by
    unfold fK
    rw [mJb_g (by decide) (by decide), mu_g (by decide)]
  have h13 : 0 ≤ M 0 0 41 := h.2.1.2.2.2.2.1.2.2.1
  refine RW_job (i := i) (B := K) h ht h40 hi (Or.inr (by rw [g0 _ _ (by omega)]; exact hK)) (fun p j hj => g0 p j (by omega)) ?_ ?_ ?_ (fun j hj => g2 j (by omega)) (fun j hj => by rw [g6, mG_j (by omega) (by omega)]) (fun q hq => g q (by omega) (by omega) (by omega) (by omega)) ?_ (fun j hj => ?_) (fun o' a b => ?_) (lnE_of (g _ (by decide) (by decide) (by decide) (by decide)) (g _ (by decide) (by decide) (by decide) (by decide)) h.2.2.2.2.2.2.2.2) (Or.inl ⟨g0 _ _ (by omega), g2 _ (by omega), by rw [g6, mG_j (by omega) (by omega)], g0 _ _ (by omega)⟩) (fun b b0 b1 => ⟨by rw [g 41 (by decide) (by decide) (by decide) (by decide)], fun k k0 k1 => by rw [g k (by omega) (by omega) (by omega) (by omega)], by rw [g 111 (by decide) (by decide) (by decide) (by decide)], fun j _ _ => by rw [g 112 (by decide) (by decide) (by decide) (by decide)]⟩)
  · exact mJb_n
  · unfold fK
    rw [mJb_g (by decide) (by decide), mu_at]
  · rw [g6, mG_12 ho.1, h.2.1.2.2.2.1.1]
  · unfold fK
    rw [mJb_at, mJb_at, mJb_at]
    exact ⟨rfl, rfl, rfl⟩
  · unfold fK
    rw [mJb_o hj, mu_g (by decide), mG_g (by decide)]
  · have e := h.2.2.2.2.2.1 o' a b
    rw [g6, g 7 (by decide) (by decide) (by decide) (by decide)]
    by_cases q : o' = o
    · rw [q, mG_o]
      rw [q] at e
      omega
    · rw [mG_j (by omega) (by omega)]
      omega
theorem AS_fK (h : RW M t) (ht : t + 1 ≤ 100) (h40 : M 0 0 40 < 40) (hi : 0 ≤ i ∧ i < M 0 0 20) (ho : 0 ≤ o ∧ o < 4) (hK : 0 ≤ K ∧ K < M 0 0 41) (hA : ¬ M 20 i 3 = 0) (hL : SLT M M i) (hP : lnP M) (hS : SHT M K M 0 i) : AS (fK o i K M) (t + 1) (M 0 0 40) K := by
  have hr := RW_fK h ht h40 hi ho hK
  have g : ∀ q : Nat, q ≠ 0 → q ≠ 2 → q ≠ 40 → q ≠ 106 → fK o i K M q = M q := fun q h0 h2 h40 h6 => by
    unfold fK
    rw [mJb_g h0 h40, mu_g h2, mG_g h6]
  have g0 : ∀ p j, ¬ (p = 0 ∧ j = 40) → fK o i K M 0 p j = M 0 p j := fun p j hj => by
    unfold fK
    rw [mJb_0 hj, mu_g (by decide), mG_g (by decide)]
  have g6 : fK o i K M 106 = mG o 0 M 106 := by
    unfold fK
    rw [mJb_g (by decide) (by decide), mu_g (by decide)]
  have c40 : fK o i K M 0 0 40 = M 0 0 40 + 1 := mJb_n
  have e1 : fK o i K M 40 (M 0 0 40) 1 = i := by
    unfold fK
    rw [mJb_at]
    rfl
  have e4 : fK o i K M 40 (M 0 0 40) 4 = K := by
    unfold fK
    rw [mJb_at]
    rfl
  have hn := h.2.1.2.2.2.1.2.2.1
  have hs : sfi M (fK o i K M) 0 i := sfi_of (g _ (by decide) (by decide) (by decide) (by decide)) (g _ (by decide) (by decide) (by decide) (by decide)) (g _ (by decide) (by decide) (by decide) (by decide)) (g _ (by decide) (by decide) (by decide) (by decide)) (g _ (by decide) (by decide) (by decide) (by decide)) (g _ (by decide) (by decide) (by decide) (by decide)) (by rw [g 22 (by decide) (by decide) (by decide) (by decide)]) (by rw [g 23 (by decide) (by decide) (by decide) (by decide)]) (by rw [g 24 (by decide) (by decide) (by decide) (by decide)])
  refine ⟨hr, by omega, e4, by rw [g0 _ _ (by omega)]; exact hK, by rw [e1, g 20 (by decide) (by decide) (by decide) (by decide)]; exact hA, ?_, ?_, lnP_of (g _ (by decide) (by decide) (by decide) (by decide)) (g _ (by decide) (by decide) (by decide) (by decide)) (g _ (by decide) (by decide) (by decide) (by decide)) hP⟩
  · rw [e1]
    have gs : ∀ q : Nat, 50 ≤ q → q ≤ 56 → fK o i K M q K = M q K := fun q a b => by rw [g q (by omega) (by omega) (by omega) (by omega)]
    exact SHT_of (SHT_sf hS hs) (gs _ (by omega) (by omega)) (gs _ (by omega) (by omega)) (gs _ (by omega) (by omega)) (gs _ (by omega) (by omega)) (gs _ (by omega) (by omega)) (gs _ (by omega) (by omega)) (gs _ (by omega) (by omega))
  · rw [e1]
    refine SLT_o ?_ (g _ (by decide) (by decide) (by decide) (by decide)) (g _ (by decide) (by decide) (by decide) (by decide)) (g _ (by decide) (by decide) (by decide) (by decide)) (g _ (by decide) (by decide) (by decide) (by decide)) (g _ (by decide) (by decide) (by decide) (by decide)) hs hL
    rw [g6, mG_j (by omega) (by omega)]
end ZPS
