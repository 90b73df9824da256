/-! ===== one more job, one more build ===== -/
section ZDA1
variable {L t s v a b c d e x n i : Int} {μ ν : ZU}
theorem RLe_n (h : RLe μ) (hn : μ 0 0 40 = n) (h6 : n < 40) (c1 : ν 0 0 40 = n + 1) (c2 : ν 2 0 9 = n + 1) (c3 : ν 100 0 25 = n + 1) (h30 : μ 0 0 30 ≤ ν 0 0 30) (h20 : μ 0 0 20 ≤ ν 0 0 20) (h41 : ν 0 0 41 = μ 0 0 41 ∨ (ν 0 0 41 = μ 0 0 41 + 1 ∧ b = μ 0 0 41)) (hb : b = -1 ∨ (0 ≤ b ∧ b < ν 0 0 41)) (hd : 0 ≤ d ∧ d < ν 0 0 30) (hi : 0 ≤ i ∧ i < ν 0 0 20)
    (ho : ∀ j, j ≠ n → ν 40 j = μ 40 j ∧ ν 130 0 j = μ 130 0 j ∧ ν 131 0 j = μ 131 0 j ∧ ν 127 0 j = μ 127 0 j ∧ ν 128 0 j = μ 128 0 j ∧ ν 129 0 j = μ 129 0 j)
    (hw : (ν 40 n 0 = d ∧ ν 130 0 n = d) ∧ (ν 40 n 1 = i ∧ ν 131 0 n = i) ∧ ν 127 0 n = ν 40 n 2 ∧ ν 128 0 n = ν 40 n 3 ∧ ν 40 n 4 = b ∧ ν 129 0 n = b) : RLe ν := by
  obtain ⟨a1, a2, a3, a4, a5⟩ := h
  obtain ⟨⟨w1, w2⟩, ⟨w3, w4⟩, w5, w6, w7, w8⟩ := hw
  unfold RLe
  rw [c1, c2, c3]
  refine ⟨by omega, rfl, rfl, fun j j0 j1 => ?_, fun b' b0 b1 => ?_⟩
  · by_cases hj : j = n
    · rw [hj, w1, w2, w3, w4, w5, w6, w7, w8]
      refine ⟨hd, hi, hb, rfl, rfl, rfl, rfl, rfl, fun b' b0 b1 => ?_⟩
      obtain ⟨j', q0, q1, q2⟩ := a5 b' b0 (by omega)
      exact ⟨j', q0, by omega, by rw [(ho j' (by omega)).1]; exact q2⟩
    · obtain ⟨z1, z2, z3, z4, z5, z6⟩ := ho j hj
      obtain ⟨y1, y2, y3, y4, y5, y6, y7, y8, y9⟩ := a4 j j0 (by omega)
      rw [z1, z2, z3, z4, z5, z6]
      refine ⟨⟨y1.1, by omega⟩, ⟨y2.1, by omega⟩, by omega, y4, y5, y6, y7, y8, fun b' b0 b1 => ?_⟩
      obtain ⟨j', q0, q1, q2⟩ := y9 b' b0 b1
      exact ⟨j', q0, q1, by rw [(ho j' (by omega)).1]; exact q2⟩
  · by_cases hb' : b' < μ 0 0 41
    · obtain ⟨j', q0, q1, q2⟩ := a5 b' b0 hb'
      exact ⟨j', q0, by omega, by rw [(ho j' (by omega)).1]; exact q2⟩
    · exact ⟨n, by omega, by omega, by rw [w7]; omega⟩
theorem bldS_p (h : bldS μ b) (h4 : μ 0 0 30 ≤ ν 0 0 30) (h5 : μ 0 0 20 ≤ ν 0 0 20) (h41 : ν 41 b = μ 41 b) (hf : ∀ i, 0 ≤ i → i < μ 0 0 20 → ν 22 i = μ 22 i ∧ ν 23 i = μ 23 i ∧ ν 24 i = μ 24 i) (hs : ∀ k, (50 ≤ k ∧ k ≤ 56) → ν k b = μ k b) (hk : ∀ k, (k = 133 ∨ k = 134 ∨ k = 135 ∨ (139 ≤ k ∧ k ≤ 143)) → ν k 0 b = μ k 0 b) (h136 : ∀ f, 0 ≤ f → f < 10 → ν 136 0 (10 * b + f) = μ 136 0 (10 * b + f) ∧ ν 137 0 (10 * b + f) = μ 137 0 (10 * b + f) ∧ ν 138 0 (10 * b + f) = μ 138 0 (10 * b + f)) (h144 : ∀ x, 300 * b ≤ x → x < 300 * b + 300 → ν 144 0 x = μ 144 0 x) (h145 : ∀ x, 60 * b ≤ x → x < 60 * b + 60 → ν 145 0 x = μ 145 0 x) : bldS ν b := by
  obtain ⟨a1, a2, a3, a4, a5, a6, ⟨s1, s2, s3, ⟨s4, s5, s6, s7, s8, s9⟩, s10, s11, s12⟩⟩ := h
  obtain ⟨f1, f2, f3⟩ := hf _ a5.1 a5.2
  unfold bldS
  rw [h41, hk 133 (by decide), hk 134 (by decide), f1, f2, f3]
  refine ⟨a1, a2, a3, ⟨a4.1, by omega⟩, ⟨a5.1, by omega⟩, fun f f0 f1 => ?_, ?_⟩
  · obtain ⟨z1, z2, z3⟩ := h136 f f0 f1
    rw [z1, z2, z3]
    exact a6 f f0 f1
  · unfold shOK
    rw [hs 50 (by decide), hs 51 (by decide), hs 52 (by decide), hs 53 (by decide), hs 54 (by decide), hs 55 (by decide), hs 56 (by decide), hk 135 (by decide), hk 139 (by decide), hk 140 (by decide), hk 141 (by decide), hk 142 (by decide), hk 143 (by decide)]
    refine ⟨s1, s2, s3, ⟨s4, s5, s6, s7, s8, s9⟩, fun l l0 l1 => ?_, fun w w0 w1 => ?_, s12⟩
    · rw [h144 _ (by omega) (by omega), h144 _ (by omega) (by omega), h144 _ (by omega) (by omega), h144 _ (by omega) (by omega), h144 _ (by omega) (by omega)]
      exact s10 l l0 l1
    · rw [h145 _ (by omega) (by omega)]
      exact s11 w w0 w1
end ZDA1
