/-! ===== one more job, one more build ===== -/
section ZDA1
variable {L t s v a b c d e x n m i : Int} {μ ν : ZU}
theorem RLe_n (h : RLe μ) (hn : μ 0 0 40 = n) (h6 : n < 40) (c1 : ν 0 0 40 = n + 1) (c2 : ν 2 0 9 = n + 1) (c3 : ν 100 0 25 = n + 1) (h30 : μ 0 0 30 ≤ ν 0 0 30) (h20 : μ 0 0 20 ≤ ν 0 0 20) (h41 : ν 0 0 41 = μ 0 0 41 ∨ (ν 0 0 41 = μ 0 0 41 + 1 ∧ b = μ 0 0 41)) (hb : b = -1 ∨ (0 ≤ b ∧ b < ν 0 0 41)) (hd : 0 ≤ d ∧ d < ν 0 0 30) (hi : 0 ≤ i ∧ i < ν 0 0 20)
    (ho : ∀ j, j ≠ n → ν 40 j = μ 40 j ∧ ν 130 0 j = μ 130 0 j ∧ ν 131 0 j = μ 131 0 j ∧ ν 127 0 j = μ 127 0 j ∧ ν 128 0 j = μ 128 0 j ∧ ν 129 0 j = μ 129 0 j)
    (hw : (ν 40 n 0 = d ∧ ν 130 0 n = d) ∧ (ν 40 n 1 = i ∧ ν 131 0 n = i) ∧ ν 127 0 n = ν 40 n 2 ∧ ν 128 0 n = ν 40 n 3 ∧ ν 40 n 4 = b ∧ ν 129 0 n = b) : RLe ν := by
  obtain ⟨a1, a2, a3, a4, a5⟩ := h
  obtain ⟨⟨w1, w2⟩, ⟨w3, w4⟩, w5, w6, w7, w8⟩ := hw
  unfold RLe
  rw [c1, c2, c3]
  refine ⟨by omega, rfl, rfl, fun j j0 j1 => ?_, fun b' b0 b1 => ?_⟩
  · by_cases hj : j = n
    · rw [hj, w1, w2, w3, w4, w5, w6, w7, w8]
      refine ⟨hd, hi, hb, rfl, rfl, rfl, rfl, rfl, fun b' b0 b1 => ?_⟩
      obtain ⟨j', q0, q1, q2⟩ := a5 b' b0 (by omega)
      exact ⟨j', q0, by omega, by rw [(ho j' (by omega)).1]; exact q2⟩
    · obtain ⟨z1, z2, z3, z4, z5, z6⟩ := ho j hj
      obtain ⟨y1, y2, y3, y4, y5, y6, y7, y8, y9⟩ := a4 j j0 (by omega)
      rw [z1, z2, z3, z4, z5, z6]
      refine ⟨⟨y1.1, by omega⟩, ⟨y2.1, by omega⟩, by omega, y4, y5, y6, y7, y8, fun b' b0 b1 => ?_⟩
      obtain ⟨j', q0, q1, q2⟩ := y9 b' b0 b1
      exact ⟨j', q0, q1, by rw [(ho j' (by omega)).1]; exact q2⟩
  · by_cases hb' : b' < μ 0 0 41
    · obtain ⟨j', q0, q1, q2⟩ := a5 b' b0 hb'
      exact ⟨j', q0, by omega, by rw [(ho j' (by omega)).1]; exact q2⟩
    · exact ⟨n, by omega, by omega, by rw [w7]; omega⟩
theorem bldS_p (h : bldS μ b) (h4 : μ 0 0 30 ≤ ν 0 0 30) (h5 : μ 0 0 20 ≤ ν 0 0 20) (h41 : ν 41 b = μ 41 b) (hf : ∀ i, 0 ≤ i → i < μ 0 0 20 → ν 22 i = μ 22 i ∧ ν 23 i = μ 23 i ∧ ν 24 i = μ 24 i) (hs : ∀ k, (50 ≤ k ∧ k ≤ 56) → ν k b = μ k b) (hk : ∀ k, (k = 133 ∨ k = 134 ∨ k = 135 ∨ (139 ≤ k ∧ k ≤ 143)) → ν k 0 b = μ k 0 b) (h136 : ∀ f, 0 ≤ f → f < 10 → ν 136 0 (10 * b + f) = μ 136 0 (10 * b + f) ∧ ν 137 0 (10 * b + f) = μ 137 0 (10 * b + f) ∧ ν 138 0 (10 * b + f) = μ 138 0 (10 * b + f)) (h144 : ∀ x, 300 * b ≤ x → x < 300 * b + 300 → ν 144 0 x = μ 144 0 x) (h145 : ∀ x, 60 * b ≤ x → x < 60 * b + 60 → ν 145 0 x = μ 145 0 x) : bldS ν b := by
  obtain ⟨a1, a2, a3, a4, a5, a6, ⟨s1, s2, s3, ⟨s4, s5, s6, s7, s8, s9⟩, s10, s11, s12⟩⟩ := h
  obtain ⟨f1, f2, f3⟩ := hf _ a5.1 a5.2
  unfold bldS
  rw [h41, hk 133 (by decide), hk 134 (by decide), f1, f2, f3]
  refine ⟨a1, a2, a3, ⟨a4.1, by omega⟩, ⟨a5.1, by omega⟩, fun f f0 f1 => ?_, ?_⟩
  · obtain ⟨z1, z2, z3⟩ := h136 f f0 f1
    rw [z1, z2, z3]
    exact a6 f f0 f1
  · unfold shOK
    rw [hs 50 (by decide), hs 51 (by decide), hs 52 (by decide), hs 53 (by decide), hs 54 (by decide), hs 55 (by decide), hs 56 (by decide), hk 135 (by decide), hk 139 (by decide), hk 140 (by decide), hk 141 (by decide), hk 142 (by decide), hk 143 (by decide)]
    refine ⟨s1, s2, s3, ⟨s4, s5, s6, s7, s8, s9⟩, fun l l0 l1 => ?_, fun w w0 w1 => ?_, s12⟩
    · rw [h144 _ (by omega) (by omega), h144 _ (by omega) (by omega), h144 _ (by omega) (by omega), h144 _ (by omega) (by omega), h144 _ (by omega) (by omega)]
      exact s10 l l0 l1
    · rw [h145 _ (by omega) (by omega)]
      exact s11 w w0 w1
theorem RLf_n (h : RLf μ) (hm : μ 0 0 41 = m) (h6 : m < 40) (c1 : ν 0 0 41 = m + 1) (c2 : ν 2 0 10 = m + 1) (c3 : ν 100 0 31 = m + 1) (c4 : ν 0 0 50 = m + 2) (h4 : μ 0 0 30 ≤ ν 0 0 30) (h5 : μ 0 0 20 ≤ ν 0 0 20) (h41 : ∀ b, b ≠ m → ν 41 b = μ 41 b) (hf : ∀ i, 0 ≤ i → i < μ 0 0 20 → ν 22 i = μ 22 i ∧ ν 23 i = μ 23 i ∧ ν 24 i = μ 24 i) (hs : ∀ k, (50 ≤ k ∧ k ≤ 56) → ∀ b, 0 ≤ b → b < m → ν k b = μ k b) (hk : ∀ k, (k = 133 ∨ k = 134 ∨ k = 135 ∨ (139 ≤ k ∧ k ≤ 143)) → ∀ b, b ≠ m → ν k 0 b = μ k 0 b) (h136 : ∀ x, x < 10 * m → ν 136 0 x = μ 136 0 x ∧ ν 137 0 x = μ 137 0 x ∧ ν 138 0 x = μ 138 0 x) (h144 : ∀ x, x < 300 * m → ν 144 0 x = μ 144 0 x) (h145 : ∀ x, x < 60 * m → ν 145 0 x = μ 145 0 x) (hn : bldS ν m) : RLf ν := by
  obtain ⟨a1, a2, a3, a4, a5⟩ := h
  unfold RLf
  rw [c1, c2, c3, c4]
  refine ⟨by omega, rfl, rfl, by omega, fun b b0 b1 => ?_⟩
  by_cases hb : b = m
  · rw [hb]
    exact hn
  · exact bldS_p (a5 b b0 (by omega)) h4 h5 (h41 b hb) hf (fun k hk' => hs k hk' b b0 (by omega)) (fun k hk' => hk k hk' b hb) (fun f f0 f1 => h136 _ (by omega)) (fun x x0 x1 => h144 x (by omega)) (fun x x0 x1 => h145 x (by omega))
/-- layers, images and documents are as they were -/
theorem RV_x (h : RV L t μ) (h2 : ν 0 2 0 = μ 0 2 0) (h26 : ν 0 0 26 = μ 0 0 26) (h01 : ν 0 1 = μ 0 1) (h10 : ν 0 0 10 = μ 0 0 10) (h20 : ν 0 0 20 = μ 0 0 20) (h30 : ν 0 0 30 = μ 0 0 30) (hc : ∀ j, (6 ≤ j ∧ j ≤ 8) → ν 2 0 j = μ 2 0 j) (hr : ∀ j, j < 25 → ν 100 0 j = μ 100 0 j) (hk : ∀ k, ((10 ≤ k ∧ k ≤ 35) ∨ (102 ≤ k ∧ k ≤ 124)) → ν k = μ k) (hd : RLd ν) (he : RLe ν) (hf : RLf ν) (h8 : ν 0 0 41 ≤ ν 0 0 40) : RV L t ν := by
  obtain ⟨a1, a2, a3, a4, a5, a6, a7, a8⟩ := h
  exact ⟨by rw [h2]; exact a1, RLa_c a2 h10 (hc 6 (by decide)) (hr 0 (by decide)) fun k h => hk k (by omega), RLb_c a3 h20 (hc 7 (by decide)) (hr 5 (by decide)) h26 h01 (by rw [h10]; exact Int.le_refl _) fun k h => hk k (by omega), RLc_c a4 h30 (hc 8 (by decide)) (hr 12 (by decide)) fun k h => hk k (by omega), hd, he, hf, h8⟩
/-! a job in the class's memory -/
theorem mJb_g {k : Nat} (h0 : k ≠ 0) (h1 : k ≠ 40) : mJb n d i e x b μ k = μ k := by
  funext p j
  show (if k = 0 then _ else if k = 40 ∧ p = n then _ else μ k p j) = _
  rw [if_neg h0, if_neg (fun z => h1 z.1)]
theorem mJb_n : mJb n d i e x b μ 0 0 40 = n + 1 := rfl
theorem mJb_0 {p j : Int} (h : ¬ (p = 0 ∧ j = 40)) : mJb n d i e x b μ 0 p j = μ 0 p j := by
  show (if (0 : Nat) = 0 then (if p = 0 ∧ j = 40 then n + 1 else μ 0 p j) else _) = _
  rw [if_pos rfl, if_neg h]
theorem mJb_at {j : Int} : mJb n d i e x b μ 40 n j = if j = 0 then d else if j = 1 then i else if j = 2 then e else if j = 3 then x else if j = 4 then b else 0 := by
  show (if (40 : Nat) = 0 then _ else if (40 : Nat) = 40 ∧ n = n then _ else _) = _
  rw [if_neg (by decide), if_pos ⟨rfl, rfl⟩]
theorem mJb_o {p : Int} (h : p ≠ n) : mJb n d i e x b μ 40 p = μ 40 p := by
  funext j
  show (if (40 : Nat) = 0 then _ else if (40 : Nat) = 40 ∧ p = n then _ else _) = _
  rw [if_neg (by decide), if_neg (fun z => h z.2)]
theorem mBd_g {k : Nat} (h0 : k ≠ 0) (h1 : k ≠ 41) (h2 : ¬ (50 ≤ k ∧ k ≤ 56)) : mBd n d i v μ k = μ k := by
  funext p j
  show (if k = 0 then _ else if k = 41 ∧ p = n then _ else if (50 ≤ k ∧ k ≤ 56) ∧ p = n + 1 then 0 else μ k p j) = _
  rw [if_neg h0, if_neg (fun z => h1 z.1), if_neg (fun z => h2 z.1)]
theorem mBd_n : mBd n d i v μ 0 0 41 = n + 1 := rfl
theorem mBd_m : mBd n d i v μ 0 0 50 = n + 2 := rfl
theorem mBd_0 {p j : Int} (h : ¬ (p = 0 ∧ j = 41)) (h' : ¬ (p = 0 ∧ j = 50)) : mBd n d i v μ 0 p j = μ 0 p j := by
  show (if (0 : Nat) = 0 then (if p = 0 ∧ j = 41 then n + 1 else if p = 0 ∧ j = 50 then n + 2 else μ 0 p j) else _) = _
  rw [if_pos rfl, if_neg h, if_neg h']
theorem mBd_at {j : Int} : mBd n d i v μ 41 n j = if j = 0 then n else if j = 1 then v else if j = 2 then d else if j = 3 then i else 0 := by
  show (if (41 : Nat) = 0 then _ else if (41 : Nat) = 41 ∧ n = n then _ else _) = _
  rw [if_neg (by decide), if_pos ⟨rfl, rfl⟩]
theorem mBd_o {p : Int} (h : p ≠ n) : mBd n d i v μ 41 p = μ 41 p := by
  funext j
  show (if (41 : Nat) = 0 then _ else if (41 : Nat) = 41 ∧ p = n then _ else if (50 ≤ 41 ∧ 41 ≤ 56) ∧ p = n + 1 then 0 else _) = _
  rw [if_neg (by decide), if_neg (fun z => h z.2), if_neg (fun z => absurd z.1 (by decide))]
theorem mBd_s {k : Nat} {p : Int} (h0 : 50 ≤ k ∧ k ≤ 56) (h : p ≠ n + 1) : mBd n d i v μ k p = μ k p := by
  funext j
  show (if k = 0 then _ else if k = 41 ∧ p = n then _ else if (50 ≤ k ∧ k ≤ 56) ∧ p = n + 1 then 0 else μ k p j) = _
  rw [if_neg (by omega), if_neg (fun z => absurd z.1 (by omega)), if_neg (fun z => h z.2)]
/-! a job in the reference's -/
theorem rj0_g {k : Nat} (h0 : k ≠ 100) (h1 : ¬ (127 ≤ k ∧ k ≤ 131)) : rj0 μ n d i b k = μ k := by
  unfold rj0
  rw [mu_g (by omega), mu_g (by omega), mu_g (by omega), mu_g (by omega), mu_g (by omega), mu_g (by omega), thr, mu_g h0]
theorem rj0_n : rj0 μ n d i b 100 0 25 = n + 1 := by
  unfold rj0
  simp (disch := decide) only [mu_g, mu_at]
theorem rj0_e : rj0 μ n d i b 100 0 55 = 0 := by
  unfold rj0
  simp (disch := decide) only [thr, mu_g, mu_j, mu_at]
theorem rj0_r {j : Int} (h : j ≠ 25) (h' : j ≠ 55) : rj0 μ n d i b 100 0 j = μ 100 0 j := by
  unfold rj0
  rw [mu_g (by decide), mu_g (by decide), mu_g (by decide), mu_g (by decide), mu_g (by decide), mu_j h, thr, mu_j h']
theorem rj0_at : rj0 μ n d i b 130 0 n = d ∧ rj0 μ n d i b 131 0 n = i ∧ rj0 μ n d i b 129 0 n = b ∧ rj0 μ n d i b 127 0 n = 1 ∧ rj0 μ n d i b 128 0 n = 0 := by
  unfold rj0
  simp (disch := decide) only [mu_g, mu_at, and_self]
theorem rj0_o {k : Nat} {j : Int} (hk : 127 ≤ k ∧ k ≤ 131) (h : j ≠ n) : rj0 μ n d i b k 0 j = μ k 0 j := by
  have : k = 127 ∨ k = 128 ∨ k = 129 ∨ k = 130 ∨ k = 131 := by omega
  unfold rj0
  rcases this with rfl | rfl | rfl | rfl | rfl <;> simp (disch := first | decide | exact h) only [thr, mu_g, mu_j]
/-! a build in the reference's -/
theorem rbd_g {k : Nat} (h0 : k ≠ 100) (h1 : ¬ (133 ≤ k ∧ k ≤ 145)) : rbd μ b d i k = μ k := by
  unfold rbd rb1 rb0
  rw [mu_g h0, bsN_g (by omega), bcN_g (by omega), mu_g (by omega), mu_g (by omega), mu_g (by omega), mu_g (by omega), mu_g (by omega), bfN_g (by omega) (by omega) (by omega), mu_g (by omega), mu_g (by omega), mu_g (by omega)]
theorem rbd_n : rbd μ b d i 100 0 31 = b + 1 := mu_at ..
theorem rbd_r {j : Int} (h : j ≠ 31) : rbd μ b d i 100 0 j = μ 100 0 j := by
  unfold rbd rb1 rb0
  rw [mu_j h, bsN_g (by decide), bcN_g (by decide), mu_g (by decide), mu_g (by decide), mu_g (by decide), mu_g (by decide), mu_g (by decide), bfN_g (by decide) (by decide) (by decide), mu_g (by decide), mu_g (by decide), mu_g (by decide)]
theorem rbd_o {k : Nat} {j : Int} (hk : k = 133 ∨ k = 134 ∨ k = 135 ∨ (139 ≤ k ∧ k ≤ 143)) (h : j ≠ b) : rbd μ b d i k 0 j = μ k 0 j := by
  unfold rbd rb1 rb0
  rw [mu_g (by omega), bsN_g (by omega), bcN_g (by omega)]
  have : k = 133 ∨ k = 134 ∨ k = 135 ∨ k = 139 ∨ k = 140 ∨ k = 141 ∨ k = 142 ∨ k = 143 := by omega
  rcases this with rfl | rfl | rfl | rfl | rfl | rfl | rfl | rfl <;> simp (disch := first | decide | exact h) only [mu_g, mu_j, bfN_g]
theorem rbd_at : (rbd μ b d i 133 0 b = d ∧ rbd μ b d i 134 0 b = μ 116 0 d ∧ rbd μ b d i 135 0 b = μ 100 0 49) ∧ rbd μ b d i 139 0 b = μ 100 0 45 ∧ rbd μ b d i 140 0 b = μ 100 0 46 ∧ rbd μ b d i 141 0 b = μ 100 0 47 ∧ rbd μ b d i 142 0 b = μ 100 0 48 ∧ rbd μ b d i 143 0 b = μ 122 0 d := by
  unfold rbd rb1 rb0
  simp (disch := decide) only [mu_g, bsN_g, bcN_g, bfN_g, mu_at, and_self]
theorem rbd_f {x : Int} : rbd μ b d i 136 0 x = (if 10 * b + 0 ≤ x ∧ x < 10 * b + 0 + (10 : Nat) then μ 110 0 (10 * i + (x - 10 * b)) else μ 136 0 x) ∧ rbd μ b d i 137 0 x = (if 10 * b + 0 ≤ x ∧ x < 10 * b + 0 + (10 : Nat) then μ 111 0 (10 * i + (x - 10 * b)) else μ 137 0 x) ∧ rbd μ b d i 138 0 x = (if 10 * b + 0 ≤ x ∧ x < 10 * b + 0 + (10 : Nat) then μ 112 0 (10 * i + (x - 10 * b)) else μ 138 0 x) := by
  have h := bfN_at (b := b) (i := i) 10 0 (rb0 μ b d) x
  have g : ∀ k, (110 ≤ k ∧ k ≤ 112) ∨ (136 ≤ k ∧ k ≤ 138) → rb0 μ b d k = μ k := fun k hk => by
    unfold rb0
    rw [mu_g (by omega), mu_g (by omega), mu_g (by omega)]
  rw [g 110 (by omega), g 111 (by omega), g 112 (by omega), g 136 (by omega), g 137 (by omega), g 138 (by omega)] at h
  unfold rbd rb1
  simp (disch := decide) only [mu_g, bsN_g, bcN_g]
  exact h
theorem rbd_c {x : Int} : rbd μ b d i 144 0 x = if 300 * b + 0 ≤ x ∧ x < 300 * b + 0 + (300 : Nat) then μ 151 0 (x - 300 * b) else μ 144 0 x := by
  unfold rbd
  rw [mu_g (by decide), bsN_g (by decide), bcN_at]
  unfold rb1 rb0
  simp (disch := decide) only [mu_g, bfN_g]
theorem rbd_w {x : Int} : rbd μ b d i 145 0 x = if 60 * b + 0 ≤ x ∧ x < 60 * b + 0 + (μ 122 0 d).toNat then (if μ 124 0 (60 * d + (x - 60 * b)) = -1 then -1 else μ 152 0 (x - 60 * b)) else μ 145 0 x := by
  unfold rbd
  rw [mu_g (by decide), bsN_at]
  unfold rb1 rb0
  simp (disch := decide) only [mu_g, bfN_g, bcN_g]
end ZDA1
