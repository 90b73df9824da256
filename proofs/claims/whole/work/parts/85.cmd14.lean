/-! ===== the command image ===== -/
section ZIM2
variable {ck sk : Nat} {Q : ZO → ZH → Prop} {L t i a b c d e f g j k l m n o r s v w x p z : Int} {y : Int64} {u u' u1 u2 u3 u4 x5 x6 : ZV} {φ : ZTF} {μ ν κ M Φ : ZU}
theorem mIm_g {k : Nat} (h0 : k ≠ 0) (h1 : ¬ (20 ≤ k ∧ k ≤ 24)) : mIm n r φ μ k = μ k := by
  funext p j
  show (if k = 0 then _ else if p = n then (if k = 20 then _ else if k = 21 then _ else if k = 22 then _ else if k = 23 then _ else if k = 24 then _ else μ k p j) else μ k p j) = _
  rw [if_neg h0]
  by_cases hp : p = n
  · rw [if_pos hp, if_neg (by omega), if_neg (by omega), if_neg (by omega), if_neg (by omega), if_neg (by omega)]
  · rw [if_neg hp]
theorem mIm_o {k : Nat} (h0 : k ≠ 0) (h1 : p ≠ n) : mIm n r φ μ k p = μ k p := by
  funext j
  show (if k = 0 then _ else if p = n then _ else μ k p j) = _
  rw [if_neg h0, if_neg h1]
theorem mIm_0 (h : ¬ (p = 0 ∧ j = 20)) : mIm n r φ μ 0 p j = μ 0 p j := by
  show (if (0 : Nat) = 0 then (if p = 0 ∧ j = 20 then n + 1 else μ 0 p j) else _) = _
  rw [if_pos rfl, if_neg h]
theorem mIm_n : mIm n r φ μ 0 0 20 = n + 1 := rfl
theorem mIm_20 : mIm n r φ μ 20 n j = if j = 0 then n else if j = 1 then r else if j = 3 then 1 else 0 := by
  show (if n = n then (if j = 0 then n else if j = 1 then r else if j = 3 then 1 else 0) else μ 20 n j) = _
  rw [if_pos rfl]
theorem mIm_22 : mIm n r φ μ 22 n j = φ.1 j ∧ mIm n r φ μ 23 n j = φ.2.1 j ∧ mIm n r φ μ 24 n j = φ.2.2 j := by
  refine ⟨?_, ?_, ?_⟩
  · show (if n = n then φ.1 j else μ 22 n j) = _
    rw [if_pos rfl]
  · show (if n = n then φ.2.1 j else μ 23 n j) = _
    rw [if_pos rfl]
  · show (if n = n then φ.2.2 j else μ 24 n j) = _
    rw [if_pos rfl]
theorem RV_im (h : RV L t M) (ht : 0 ≤ t) (hn : M 0 0 20 = n) (h12 : n < 12) (hr : 0 ≤ r ∧ r < M 0 0 26) (hl : M 0 1 r = m) (hm : 1 ≤ m ∧ m ≤ 6) (h26 : ∀ k, 0 ≤ k → k < m → M 26 r k = kcd y k - 1 ∧ 0 ≤ M 26 r k ∧ M 26 r k < M 0 0 10) (hφ : stk M r m.toNat 0 z30 = φ) (hκ : mu (mIm n r φ (mu M 2 0 7 (n + 1))) 200 0 0 o = κ) : RV L (t + 1) (mu (rim y m (thr κ 0)) 100 0 5 (n + 1)) := by
  have hA := h.2.1
  have hB := h.2.2.1
  have k1 : ∀ k, k ≠ 0 → ¬ (20 ≤ k ∧ k ≤ 24) → k ≠ 2 → k ≠ 200 → κ k = M k := fun k h0 h1 h2 h3 => by
    rw [← hκ, mu_g h3, mIm_g h0 h1, mu_g h2]
  have k2 : ∀ j, j ≠ 7 → κ 2 0 j = M 2 0 j := fun j hj => by
    rw [← hκ, mu_g (by decide), mIm_g (by decide) (by decide), mu_j hj]
  have k27 : κ 2 0 7 = n + 1 := by rw [← hκ, mu_g (by decide), mIm_g (by decide) (by decide), mu_at]
  have k0 : ∀ p j, ¬ (p = 0 ∧ j = 20) → κ 0 p j = M 0 p j := fun p j hj => by
    rw [← hκ, mu_g (by decide), mIm_0 hj, mu_g (by decide)]
  have k020 : κ 0 0 20 = n + 1 := by rw [← hκ, mu_g (by decide), mIm_n]
  have ko : ∀ k, (20 ≤ k ∧ k ≤ 24) → ∀ p, p ≠ n → κ k p = M k p := fun k hk p hp => by
    rw [← hκ, mu_g (by omega), mIm_o (by omega) hp, mu_g (by omega)]
  have k20 : ∀ j, κ 20 n j = if j = 0 then n else if j = 1 then r else if j = 3 then 1 else 0 := fun j => by
    rw [← hκ, mu_g (by decide), mIm_20]
  have k22 : ∀ j, κ 22 n j = φ.1 j ∧ κ 23 n j = φ.2.1 j ∧ κ 24 n j = φ.2.2 j := fun j => by
    rw [← hκ, mu_g (by decide), mu_g (by decide), mu_g (by decide)]
    exact mIm_22
  have e5 : thr κ 0 100 0 5 = n := by
    rw [thr, mu_j (by decide), k1 100 (by decide) (by decide) (by decide) (by decide), hB.2.2.1, hn]
  have hB1 := hB.1
  generalize hη : rwN y n m.toNat 0 (mu (mu (thr κ 0) 107 0 n 1) 108 0 n m) = η
  have hΦ : rim y m (thr κ 0) = unA n 10 0 η := by
    unfold rim
    rw [e5, hη]
  have n1 : ∀ k, k ≠ 100 → k ≠ 107 → k ≠ 108 → k ≠ 109 → η k = κ k := fun k h0 h1 h2 h3 => by
    rw [← hη, rwN_g h3, mu_g h2, mu_g h1, thr, mu_g h0]
  have n100 : ∀ j, j ≠ 55 → η 100 0 j = M 100 0 j := fun j hj => by
    rw [← hη, rwN_g (by decide), mu_g (by decide), mu_g (by decide), thr, mu_j hj, k1 100 (by decide) (by decide) (by decide) (by decide)]
  have n107 : ∀ j, j ≠ n → η 107 0 j = M 107 0 j := fun j hj => by
    rw [← hη, rwN_g (by decide), mu_g (by decide), mu_j hj, thr, mu_g (by decide), k1 107 (by decide) (by decide) (by decide) (by decide)]
  have n107n : η 107 0 n = 1 := by rw [← hη, rwN_g (by decide), mu_g (by decide), mu_at]
  have n108 : ∀ j, j ≠ n → η 108 0 j = M 108 0 j := fun j hj => by
    rw [← hη, rwN_g (by decide), mu_j hj, mu_g (by decide), thr, mu_g (by decide), k1 108 (by decide) (by decide) (by decide) (by decide)]
  have n108n : η 108 0 n = m := by rw [← hη, rwN_g (by decide), mu_at]
  have n109 : ∀ x, x < 6 * n → η 109 0 x = M 109 0 x := fun x hx => by
    rw [← hη, rwN_at, if_neg (by omega), mu_g (by decide), mu_g (by decide), thr, mu_g (by decide), k1 109 (by decide) (by decide) (by decide) (by decide)]
  have n109n : ∀ k, 0 ≤ k → k < m → η 109 0 (6 * n + k) = kcd y k - 1 := fun k h0 h1 => by
    have e : 6 * n + k - 6 * n = k := by omega
    rw [← hη, rwN_at, if_pos (by omega), e]
  have hk := fun (k : Nat) (h1 : 102 ≤ k ∧ k ≤ 106) => (n1 k (by omega) (by omega) (by omega) (by omega)).trans (k1 k (by omega) (by omega) (by omega) (by omega))
  obtain ⟨u1, u2⟩ := unA_at (i := n) (M := M) (r := r) (c := M 0 0 10) hφ 10 0 η (Int.le_refl _) (by decide) n108n (fun k h0 h1 => by
    obtain ⟨d1, d2, d3⟩ := h26 k h0 h1
    rw [n109n k h0 h1]
    exact ⟨d1.symm, d2, d3⟩) (fun b f b0 b1 f0 f1 => by
    rw [hk 103 (by decide), hk 104 (by decide), hk 105 (by decide)]
    exact (hA.2.2.2.1 b b0 b1).2.2 f f0 f1)
  have u3 := fun (k : Nat) (h1 : k ≠ 110 ∧ k ≠ 111 ∧ k ≠ 112) => unA_g (i := n) h1.1 h1.2.1 h1.2.2 10 0 η
  rw [hΦ]
  generalize unA n 10 0 η = ψ at *
  have p1 : ∀ k, k ≠ 100 → mu ψ 100 0 5 (n + 1) k = ψ k := fun k hk => mu_g hk
  have p5 : mu ψ 100 0 5 (n + 1) 100 0 5 = n + 1 := mu_at ..
  have p2 : ∀ j, j ≠ 5 → mu ψ 100 0 5 (n + 1) 100 0 j = ψ 100 0 j := fun j hj => mu_j hj
  generalize mu ψ 100 0 5 (n + 1) = Φ at *
  have v1 : ∀ k, k ≠ 0 → ¬ (20 ≤ k ∧ k ≤ 24) → k ≠ 2 → k ≠ 200 → k ≠ 100 → ¬ (107 ≤ k ∧ k ≤ 112) → Φ k = M k := fun k h0 h1 h2 h3 h4 h5 => by
    rw [p1 k h4, u3 k (by omega), n1 k h4 (by omega) (by omega) (by omega), k1 k h0 h1 h2 h3]
  have v0 : ∀ p j, Φ 0 p j = κ 0 p j := fun p j => by
    rw [p1 0 (by decide), u3 0 (by decide), n1 0 (by decide) (by decide) (by decide) (by decide)]
  have v2 : ∀ j, Φ 2 0 j = κ 2 0 j := fun j => by
    rw [p1 2 (by decide), u3 2 (by decide), n1 2 (by decide) (by decide) (by decide) (by decide)]
  have v20 : ∀ k, (20 ≤ k ∧ k ≤ 24) → Φ k = κ k := fun k hk => by
    rw [p1 k (by omega), u3 k (by omega), n1 k (by omega) (by omega) (by omega) (by omega)]
  have v100 : ∀ j, j ≠ 5 → j ≠ 55 → Φ 100 0 j = M 100 0 j := fun j hj hj2 => by
    rw [p2 j hj, u3 100 (by decide), n100 j hj2]
  have v107 : ∀ k, (107 ≤ k ∧ k ≤ 109) → Φ k = η k := fun k hk => by
    rw [p1 k (by omega), u3 k (by omega)]
  have v110 : ∀ k, (110 ≤ k ∧ k ≤ 112) → Φ k = ψ k := fun k hk => p1 k (by omega)
  have o110 : ∀ k, (110 ≤ k ∧ k ≤ 112) → ∀ x, ¬ (10 * n + 0 ≤ x ∧ x < 10 * n + 0 + ((10 : Nat) : Int)) → Φ k 0 x = M k 0 x := fun k hk x hx => by
    rw [v110 k hk, u2 x hx, n1 k (by omega) (by omega) (by omega) (by omega), k1 k (by omega) (by omega) (by omega) (by omega)]
  obtain ⟨r1, r2, ⟨b1, b2, b3, b4, b5, b6⟩, r4, r5, r6, r7, r8⟩ := RV_1 h
  have z0 : ∀ j, j ≠ 20 → Φ 0 0 j = M 0 0 j := fun j hj => by rw [v0, k0 0 j (fun z => hj z.2)]
  have z1 : Φ 0 1 = M 0 1 := by
    funext j
    rw [v0, k0 1 j (fun z => absurd z.1 (by decide))]
  have z20 : Φ 0 0 20 = n + 1 := by rw [v0, k020]
  refine ⟨by rw [v0, k0 2 0 (by decide)]; exact r1, RLa_c r2 (z0 10 (by decide)) (by rw [v2, k2 6 (by decide)]) (v100 0 (by decide) (by decide)) (fun k hk => v1 k (by omega) (by omega) (by omega) (by omega) (by omega) (by omega)), ?_, RLc_c r4 (z0 30 (by decide)) (by rw [v2, k2 8 (by decide)]) (v100 12 (by decide) (by decide)) (fun k hk => v1 k (by omega) (by omega) (by omega) (by omega) (by omega) (by omega)), RLd_c r5 (v1 7 (by decide) (by decide) (by decide) (by decide) (by decide) (by decide)) (v1 125 (by decide) (by decide) (by decide) (by decide) (by decide) (by decide)), RLe_c r6 (z0 40 (by decide)) (by rw [v2, k2 9 (by decide)]) (v100 25 (by decide) (by decide)) (by rw [z0 30 (by decide)]; exact Int.le_refl _) (by rw [z20]; omega) (z0 41 (by decide)) (fun k hk => v1 k (by omega) (by omega) (by omega) (by omega) (by omega) (by omega)), RLf_c r7 (z0 41 (by decide)) (by rw [v2, k2 10 (by decide)]) (v100 31 (by decide) (by decide)) (z0 50 (by decide)) (by rw [z0 30 (by decide)]; exact Int.le_refl _) (by rw [z20]; omega) (v1 41 (by decide) (by decide) (by decide) (by decide) (by decide) (by decide)) (fun i i0 i1 => ⟨by rw [v20 22 (by decide), ko 22 (by decide) i (by omega)], by rw [v20 23 (by decide), ko 23 (by decide) i (by omega)], by rw [v20 24 (by decide), ko 24 (by decide) i (by omega)]⟩) (fun k hk b _ _ => by rw [v1 k (by omega) (by omega) (by omega) (by omega) (by omega) (by omega)]) (fun k hk => v1 k (by omega) (by omega) (by omega) (by omega) (by omega) (by omega)), by rw [z0 41 (by decide), z0 40 (by decide)]; exact r8⟩
  unfold RLb
  rw [z20, v2, k27, p5, z0 26 (by decide), z1, z0 10 (by decide), v20 20 (by decide), v1 26 (by decide) (by decide) (by decide) (by decide) (by decide) (by decide), v107 107 (by decide), v107 108 (by decide), v107 109 (by decide)]
  refine ⟨by omega, rfl, rfl, b4, fun i i0 i1 => ?_, fun x x0 x1 => ?_⟩
  · by_cases hi : i = n
    · rw [hi]
      have q0 : κ 20 n 0 = n := k20 0
      have q1 : κ 20 n 1 = r := k20 1
      have q3 : κ 20 n 3 = 1 := k20 3
      rw [q0, q1, q3, hl, n108n, n107n]
      refine ⟨⟨hr.1, hr.2, rfl⟩, rfl, hm, fun k k0 k1 => ?_, rfl, by omega, fun f f0 f1 => ?_⟩
      · obtain ⟨d1, d2, d3⟩ := h26 k k0 k1
        rw [n109n k k0 k1, ← d1]
        exact ⟨rfl, d2, d3⟩
      · obtain ⟨y1, y2, y3, y4, y5, y6, y7⟩ := u1 f f0 (by omega)
        obtain ⟨w1, w2, w3⟩ := k22 f
        rw [v20 22 (by decide), v20 23 (by decide), v20 24 (by decide), v110 110 (by decide), v110 111 (by decide), v110 112 (by decide), y1, y2, y3, w1, w2, w3]
        exact ⟨rfl, rfl, rfl, y4, y5, y6, y7⟩
    · obtain ⟨c1, c2, c3, c4, c5, c6, c7⟩ := b5 i i0 (by omega)
      rw [ko 20 (by decide) i hi, n107 i hi, n108 i hi]
      refine ⟨c1, c2, c3, fun k k0 k1 => ?_, c5, c6, fun f f0 f1 => ?_⟩
      · rw [n109 _ (by omega)]
        exact c4 k k0 k1
      · rw [v20 22 (by decide), v20 23 (by decide), v20 24 (by decide), ko 22 (by decide) i hi, ko 23 (by decide) i hi, ko 24 (by decide) i hi, o110 110 (by decide) _ (by omega), o110 111 (by decide) _ (by omega), o110 112 (by decide) _ (by omega)]
        exact c7 f f0 f1
  · by_cases hx : 10 * n + 0 ≤ x ∧ x < 10 * n + 0 + ((10 : Nat) : Int)
    · have e : x = 10 * n + (x - 10 * n) := by omega
      obtain ⟨y1, y2, y3, y4, -⟩ := u1 (x - 10 * n) (by omega) (by omega)
      rw [v110 110 (by decide), e, y1]
      exact y4
    · rw [o110 110 (by decide) x hx]
      exact b6 x x0 x1
theorem cm5 (h : RV L t μ) (h0 : 0 ≤ i) (h1 : i + 4 < L) (hL : L ≤ 2560) (ht0 : 0 ≤ t) (ht : t ≤ 1000) (hck : 13 ≤ ck) (hsk : 406 ≤ sk) (q : KT L t i ck sk Q) : G 174 448 [zR 1 0, zR 2 0, zR 100 0, zR 200 0, zI i, x5, x6] [] (HM μ) ck sk Q := by
  have h2 : i + 4 < μ 0 2 0 := by rw [h.1]; exact h1
  have h4 : i ≤ 100000 := by omega
  rw [k5 h0 h2 (by omega) (by omega) h4]
  have hA := h.2.1
  have hB := h.2.2.1
  generalize hy : zlshl (Int64.ofInt (μ 1 0 (i + 1))) 32 ||| Int64.ofInt (μ 1 0 (i + 2)) &&& Int64.ofNat 4294967295 = y
  have hka := kln_all (y := y) (a := μ 100 0 0) (b := 6)
  have e6 : μ 2 0 6 = μ 100 0 0 := by rw [hA.2.1, hA.2.2.1]
  have ht' : ∀ i, 0 ≤ i → i < μ 100 0 5 → 0 ≤ μ 107 0 i ∧ μ 107 0 i ≤ 100000 := fun i i0 i1 => by
    rw [hB.2.2.1] at i1
    obtain ⟨c1, c2, c3, c4, c5, c6, c7⟩ := hB.2.2.2.2.1 i i0 i1
    rw [c5]
    omega
  have hl0 : 0 ≤ μ 100 0 0 ∧ μ 100 0 0 ≤ 24 := by rw [hA.2.2.1]; exact hA.1
  by_cases g0 : kall y (μ 2 0 6) 6
  · have g1 := g0
    rw [e6, hka] at g1
    have hlen := kln_len g1.1
    have hcd := kln_cd g1.1
    rw [hlen] at g1 hcd
    have hM : RV L t (m49 y μ) := RV_rw h rfl
    have hl : m49 y μ 0 1 (μ 0 0 26) = klen y := mRw_l
    have eC : m49 y μ 0 0 10 = μ 0 0 10 := mRw_0 (fun z => absurd z.2 (by decide)) (fun z => absurd z.1 (by decide))
    have e26n : m49 y μ 0 0 26 = μ 0 0 26 + 1 := mRw_n
    have h26 : ∀ k, 0 ≤ k → k < klen y → m49 y μ 26 (μ 0 0 26) k = kcd y k - 1 ∧ 0 ≤ m49 y μ 26 (μ 0 0 26) k ∧ m49 y μ 26 (μ 0 0 26) k < m49 y μ 0 0 10 := fun k k0 k1 => by
      have q1 : m49 y μ 26 (μ 0 0 26) k = kcd y k - 1 := by
        exact (mRw_at).trans (if_pos ⟨k0, k1⟩)
      have q2 := hcd k k0 k1
      rw [q1, eC, ← hA.2.2.1]
      omega
    have hrow : rowOK (m49 y μ) (μ 0 0 26) := by
      refine ⟨⟨hB.2.2.2.1, by omega⟩, by omega, fun j j0 j1 => ?_⟩
      rw [hl] at j1
      exact (h26 j j0 j1).2
    have hsl : sl49 y μ = rsl (m49 y μ) y (klen y) := by
      unfold sl49
      rw [hl]
      exact sl_rsl hM h26
    have hha := hap_arp hM hl h26
    have eg : ∀ k, k ≠ 0 → k ≠ 26 → m49 y μ k = μ k := fun k z0 z1 => mRw_g z0 z1
    have e02 : m49 y μ 0 2 0 = μ 0 2 0 := mRw_0 (fun z => absurd z.1 (by decide)) (fun z => absurd z.1 (by decide))
    have e020 : m49 y μ 0 0 20 = μ 0 0 20 := mRw_0 (fun z => absurd z.2 (by decide)) (fun z => absurd z.1 (by decide))
    have hrim := RV_rim hM
    have himg := RV_img hM
    by_cases g2 : sl49 y μ = true
    · have g2' := g2
      rw [hsl] at g2'
      by_cases g3 : zff (hap (m49 y μ) (μ 0 0 26)) 12 0 = -1
      · have g3' := g3
        rw [hha, eg 100 (by decide) (by decide)] at g3'
        by_cases g4 : μ 0 0 20 < 12
        · refine c49_5 g0 hB.2.2.2.1 hA.1.2 hrow himg g2 g3 hB.2.1 rfl hB.1.1 g4 ?_
          rw [b153_v, hl]
          generalize ho : (Int64.ofInt (μ 0 0 20)).toInt = o
          generalize hφ : stk (m49 y μ) (μ 0 0 26) (klen y).toNat 0 z30 = φ
          generalize hκ : mu (mIm (μ 0 0 20) (μ 0 0 26) φ (mu (m49 y μ) 2 0 7 (μ 0 0 20 + 1))) 200 0 0 o = κ
          have hR := RV_im hM ht0 e020 g4 ⟨hB.2.2.2.1, by omega⟩ hl g1 h26 hφ hκ
          have k1 : ∀ k, k ≠ 0 → ¬ (20 ≤ k ∧ k ≤ 26) → k ≠ 2 → k ≠ 200 → κ k = μ k := fun k z0 z1 z2 z3 => by
            rw [← hκ, mu_g z3, mIm_g z0 (by omega), mu_g z2, eg k z0 (by omega)]
          have k2 : κ 0 2 0 = μ 0 2 0 := by rw [← hκ, mu_g (by decide), mIm_0 (fun z => absurd z.1 (by decide)), mu_g (by decide), e02]
          have k200 : κ 200 0 0 = o := by rw [← hκ]; exact mu_at ..
          have k100 : κ 100 = μ 100 := k1 100 (by decide) (by decide) (by decide) (by decide)
          have earp : arp κ y (klen y) = arp (m49 y μ) y (klen y) := arp_c fun k hk => by rw [k1 k (by omega) (by omega) (by omega) (by omega), eg k (by omega) (by omega)]
          have ersl : rsl κ y (klen y) = rsl (m49 y μ) y (klen y) := rsl_c (by rw [k1 102 (by decide) (by decide) (by decide) (by decide), eg 102 (by decide) (by decide)])
          rw [e5 h0 (by rw [k2]; exact h2) h4, k1 1 (by decide) (by decide) (by decide) (by decide), hy, c106 (by rw [k100]; exact hl0.1) (by rw [k100]; exact hl0.2) (rimOK_c (RV_rim h) (by rw [k100]) (k1 108 (by decide) (by decide) (by decide) (by decide)) (k1 109 (by decide) (by decide) (by decide) (by decide))) (by rw [k100, k1 107 (by decide) (by decide) (by decide) (by decide)]; exact ht'), k100, hlen, ersl, earp, if_pos g1, if_pos g2', if_pos g3', if_neg (by rw [hB.2.2.1]; omega), hB.2.2.1]
          refine r5 ?_ (fun _ => ?_) (q _ _ _ _ _ hR (by omega) (by omega))
          · rw [mu_j (by decide)]
            unfold rim
            rw [unA_g (by decide) (by decide) (by decide), rwN_g (by decide), mu_g (by decide), mu_g (by decide), thr, mu_at]
          · rw [mu_g (by decide)]
            unfold rim
            rw [unA_g (by decide) (by decide) (by decide), rwN_g (by decide), mu_g (by decide), mu_g (by decide), thr, mu_g (by decide), k200, ← ho]
        · refine c49_4 g0 hB.2.2.2.1 hA.1.2 hrow himg g2 g3 (by rw [hB.2.1]; exact g4) ?_
          rw [b153_2, e5 h0 (by rw [e02]; exact h2) h4, eg 1 (by decide) (by decide), hy, c106 (by rw [eg 100 (by decide) (by decide)]; exact hl0.1) (by rw [eg 100 (by decide) (by decide)]; exact hl0.2) hrim (by rw [eg 100 (by decide) (by decide), eg 107 (by decide) (by decide)]; exact ht'), eg 100 (by decide) (by decide), hlen, if_pos g1, if_pos g2', if_pos g3', if_pos (by rw [hB.2.2.1]; have := hB.1; omega)]
          exact r5 thr_e (fun z => absurd z (by decide)) (q _ _ _ _ _ (RV_1 (RV_t hM)) (by omega) (by omega))
      · have g3' := g3
        rw [hha, eg 100 (by decide) (by decide)] at g3'
        have hzb := zff_b (p := hap (m49 y μ) (μ 0 0 26)) 12 0
        refine c49_3 g0 hB.2.2.2.1 hA.1.2 hrow himg g2 g3 (fun i i0 i1 => by
          obtain ⟨c1, c2, c3, c4, c5, c6, c7⟩ := hB.2.2.2.2.1 i i0 i1
          omega) ?_
        rw [b153_v]
        rw [eg 100 (by decide) (by decide)] at hha
        generalize zff (hap (m49 y μ) (μ 0 0 26)) 12 0 = p at *
        have hp : 0 ≤ p ∧ p < μ 0 0 20 := by
          rcases hzb with z | ⟨z1, z2, z3⟩
          · exact absurd z g3
          · have z4 := of_decide_eq_true z3
            exact ⟨z1, by rw [← e020]; exact z4.1⟩
        obtain ⟨c1, c2, c3, c4, c5, c6, c7⟩ := hB.2.2.2.2.1 p hp.1 hp.2
        rw [c1.2.2]
        have e20 : m49 y μ 20 = μ 20 := eg 20 (by decide) (by decide)
        have hR := RV_d1 (o := (Int64.ofInt p).toInt) (a := p) (v := μ 20 p 3 + 1) (RV_1 hM) hp.1 (by rw [e020]; exact hp.2) (by omega)
        generalize hκ : mu (mu (m49 y μ) 20 p 3 (μ 20 p 3 + 1)) 200 0 0 (Int64.ofInt p).toInt = κ at *
        have k1 : ∀ k, k ≠ 0 → k ≠ 20 → k ≠ 26 → k ≠ 200 → κ k = μ k := fun k z0 z1 z2 z3 => by
          rw [← hκ, mu_g z3, mu_g z1, eg k z0 z2]
        have k2 : κ 0 2 0 = μ 0 2 0 := by rw [← hκ, mu_g (by decide), mu_g (by decide), e02]
        have k200 : κ 200 0 0 = (Int64.ofInt p).toInt := by rw [← hκ]; exact mu_at ..
        have k100 : κ 100 = μ 100 := k1 100 (by decide) (by decide) (by decide) (by decide)
        have earp : arp κ y (klen y) = arp (m49 y μ) y (klen y) := arp_c fun k hk => by rw [k1 k (by omega) (by omega) (by omega) (by omega), eg k (by omega) (by omega)]
        have ersl : rsl κ y (klen y) = rsl (m49 y μ) y (klen y) := rsl_c (by rw [k1 102 (by decide) (by decide) (by decide) (by decide), eg 102 (by decide) (by decide)])
        rw [e5 h0 (by rw [k2]; exact h2) h4, k1 1 (by decide) (by decide) (by decide) (by decide), hy, c106 (by rw [k100]; exact hl0.1) (by rw [k100]; exact hl0.2) (rimOK_c (RV_rim h) (by rw [k100]) (k1 108 (by decide) (by decide) (by decide) (by decide)) (k1 109 (by decide) (by decide) (by decide) (by decide))) (by rw [k100, k1 107 (by decide) (by decide) (by decide) (by decide)]; exact ht'), k100, hlen, ersl, earp, if_pos g1, if_pos g2', if_neg g3', ← hha, k1 107 (by decide) (by decide) (by decide) (by decide), c5]
        refine r5 ?_ (fun _ => ?_) (q _ _ _ _ _ hR (by omega) (by omega))
        · rw [mu_g (by decide), thr, mu_at]
        · rw [mu_g (by decide), thr, mu_g (by decide), k200]
    · have g2' : ¬ rsl (m49 y μ) y (klen y) = true := by rw [← hsl]; exact g2
      refine c49_2 g0 hB.2.2.2.1 hA.1.2 hrow g2 ?_
      rw [b153_2, e5 h0 (by rw [e02]; exact h2) h4, eg 1 (by decide) (by decide), hy, c106 (by rw [eg 100 (by decide) (by decide)]; exact hl0.1) (by rw [eg 100 (by decide) (by decide)]; exact hl0.2) hrim (by rw [eg 100 (by decide) (by decide), eg 107 (by decide) (by decide)]; exact ht'), eg 100 (by decide) (by decide), hlen, if_pos g1, if_neg g2']
      exact r5 thr_e (fun z => absurd z (by decide)) (q _ _ _ _ _ (RV_1 (RV_t hM)) (by omega) (by omega))
  · have g1 := g0
    rw [e6, hka] at g1
    rw [c49_1 g0, b153_0, e5 h0 h2 h4, hy, c106 hl0.1 hl0.2 (RV_rim h) ht', if_neg g1]
    exact r5 thr_e (fun z => absurd z (by decide)) (q _ _ _ _ _ (RV_1 (RV_t h)) (by omega) (by omega))
end ZIM2
