/-! ===== the class: what a pass leaves as it was ===== -/
section ZL9
variable {ck sk : Nat} {Q : ZO → ZH → Prop} {a b c d e f l s v w x m H L : Int} {u u' u'' u''' : ZV}
theorem fbN_g {k : Nat} (h : k ≠ 66) : ∀ (n : Nat) (μ : ZU), fbN c n μ k = μ k
  | 0, _ => rfl
  | n + 1, μ => by
    unfold fbN
    rw [fbN_g h n, mu_g h]
theorem fbg_g {μ : ZU} {k : Nat} (h : k ≠ 66) : fbg c μ k = μ k := by
  unfold fbg
  rw [fbN_g h, fb0_g h]
theorem rnN_g {k : Nat} (h : k ≠ 51) : ∀ (n : Nat) (w r : Int) (μ : ZU), (rnN c d n w r μ).1 k = μ k
  | 0, _, _, _ => rfl
  | n + 1, w, r, μ => by
    unfold rnN
    split
    · exact rnN_g h n _ _ _
    · rw [rnN_g h n, mu_g h]
theorem bpz_g {μ : ZU} {k : Nat} (h1 : k ≠ 64) (h2 : k ≠ 65) (h3 : k ≠ 50) : bpz c H μ k = μ k := by
  unfold bpz
  rw [mu_g h3, bpg_g h1 h2]
theorem bps_g {μ : ZU} {k : Nat} (h1 : k ≠ 64) (h2 : k ≠ 65) (h3 : k ≠ 50) (h4 : k ≠ 56) : bps c H μ k = μ k := by
  unfold bps
  rw [npN_g h3 h4, mu_g h3, bpz_g h1 h2 h3]
theorem bps_j {μ : ZU} {i : Int} (hi : i ≠ 2) (hi2 : i ≠ 4) : bps c H μ 50 c i = μ 50 c i := by
  unfold bps bpz
  rw [npN_j hi, mu_j hi, mu_j hi2, bpg_g (by decide) (by decide)]
theorem blN_g {k : Nat} (h0 : k ≠ 50) (h1 : k ≠ 52) (h2 : k ≠ 53) (h3 : k ≠ 54) (h4 : k ≠ 55) : ∀ (n : Nat) (w : Int) (μ : ZU), blN c d n w μ k = μ k
  | 0, _, _ => rfl
  | n + 1, w, μ => by
    unfold blN
    rw [blN_g h0 h1 h2 h3 h4 n, bl1_g h0 h1 h2 h3 h4]
theorem bl1_j {μ : ZU} {i : Int} (hi : i ≠ 1) : bl1 μ c d w 50 c i = μ 50 c i := by
  unfold bl1 beg
  split
  · rw [mu_g (by decide), mu_g (by decide)]
  · rw [mu_j hi, mu_g (by decide), mu_g (by decide), mu_g (by decide), mu_g (by decide)]
theorem blN_j {i : Int} (hi : i ≠ 1) : ∀ (n : Nat) (w : Int) (μ : ZU), blN c d n w μ 50 c i = μ 50 c i
  | 0, _, _ => rfl
  | n + 1, w, μ => by
    unfold blN
    rw [blN_j hi n, bl1_j hi]
/-- the paragraphs of the lines -/
def blH (μ : ZU) (c : Int) : Prop := ∀ j, 0 ≤ j → j < μ 50 c 1 → 0 ≤ μ 52 c j ∧ μ 52 c j < 12
theorem bl1_H {μ : ZU} (h : blH μ c) (hw : 0 ≤ μ 33 d w ∧ μ 33 d w < 12) : blH (bl1 μ c d w) c := by
  unfold bl1
  split
  · intro j h1 h2
    rw [mu_g (by decide), mu_g (by decide)] at h2 ⊢
    exact h j h1 h2
  · intro j h1 h2
    unfold beg at h2 ⊢
    rw [mu_at] at h2
    rw [mu_g (by decide), mu_g (by decide), mu_g (by decide), mu_g (by decide)]
    by_cases hj : j = μ 50 c 1
    · rw [hj, mu_at]; exact hw
    · rw [mu_j hj]; exact h j h1 (by omega)
theorem blN_I : ∀ (n : Nat) (w : Int) (μ : ZU), 0 ≤ w → w + n = μ 30 d 9 → μ 30 d 0 ≤ 200 → (∀ w, 0 ≤ w → w < μ 30 d 9 → 0 ≤ μ 61 0 w ∧ μ 61 0 w ≤ 160) → (∀ w, 0 ≤ w → w < μ 30 d 9 → 0 ≤ μ 33 d w ∧ μ 33 d w < 12) → blI μ c w → blH μ c → blI (blN c d n w μ) c (μ 30 d 9) ∧ blH (blN c d n w μ) c
  | 0, w, μ, h0, hi, hm, hw, hh, hI, hH => by
    have e : w = μ 30 d 9 := by omega
    exact ⟨e ▸ hI, hH⟩
  | n + 1, w, μ, h0, hi, hm, hw, hh, hI, hH => by
    unfold blN
    have g : ∀ k, k ≠ 50 → k ≠ 52 → k ≠ 53 → k ≠ 54 → k ≠ 55 → bl1 μ c d w k = μ k := fun k h0 h1 h2 h3 h4 => bl1_g h0 h1 h2 h3 h4
    have g30 := g 30 (by decide) (by decide) (by decide) (by decide) (by decide)
    have g61 := g 61 (by decide) (by decide) (by decide) (by decide) (by decide)
    have g33 := g 33 (by decide) (by decide) (by decide) (by decide) (by decide)
    have := blN_I n (w + 1) (bl1 μ c d w) (by omega) (by rw [g30]; omega) (by rw [g30]; exact hm) (by rw [g30, g61]; exact hw) (by rw [g30, g33]; exact hh) (bl1_I hI hm (hw w h0 (by omega))) (bl1_H hH (hh w h0 (by omega)))
    rw [g30] at this
    exact this
end ZL9
