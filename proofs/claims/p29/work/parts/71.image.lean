/-! ===== the law: an image's files; a row, an image more ===== -/
def fE (φ : ZTF) (f s : Int) : Prop := (φ.1 f = 0 ∧ φ.2.1 f = 0 ∧ φ.2.2 f = 0 ∧ s ≤ 0) ∨ (φ.1 f = 1 ∧ s = 1 + φ.2.1 f + 32 * φ.2.2 f ∧ (0 ≤ φ.2.1 f ∧ φ.2.1 f ≤ 20) ∧ (5 ≤ f → φ.2.1 f ≤ 3) ∧ 0 ≤ φ.2.2 f ∧ φ.2.2 f ≤ 67108863)
section ZPB1
variable {L t t' s a b c d e f g j i k l m n o p r v w x : Int} {y : Int64} {φ : ZTF} {μ ν κ M Φ : ZU}
theorem ov1_n (h : f ≠ i) : (ov1 M b i φ).1 f = φ.1 f ∧ (ov1 M b i φ).2.1 f = φ.2.1 f ∧ (ov1 M b i φ).2.2 f = φ.2.2 f := by
  unfold ov1
  by_cases h1 : M 12 b i = 1
  · rw [if_pos h1]
    simp only [z3u, zui, if_neg h, and_self]
  · rw [if_neg h1]
    by_cases h2 : M 12 b i = 2
    · rw [if_pos h2]
      simp only [z3u, zui, if_neg h, and_self]
    · rw [if_neg h2]
      exact ⟨rfl, rfl, rfl⟩
theorem ov1_at : (ov1 M b i φ).1 i = (if M 12 b i = 1 then 1 else if M 12 b i = 2 then 0 else φ.1 i) ∧ (ov1 M b i φ).2.1 i = (if M 12 b i = 1 then M 13 b i else if M 12 b i = 2 then 0 else φ.2.1 i) ∧ (ov1 M b i φ).2.2 i = (if M 12 b i = 1 then M 14 b i else if M 12 b i = 2 then 0 else φ.2.2 i) := by
  unfold ov1
  by_cases h1 : M 12 b i = 1
  · simp only [if_pos h1]
    simp only [z3u, zui, if_true, and_self]
  · simp only [if_neg h1]
    by_cases h2 : M 12 b i = 2
    · simp only [if_pos h2]
      simp only [z3u, zui, if_true, and_self]
    · simp only [if_neg h2, and_self]
theorem ovN_at : ∀ (n : Nat) (i : Int) (φ : ZTF), ((i ≤ f ∧ f < i + n) → (ovN M b n i φ).1 f = (if M 12 b f = 1 then 1 else if M 12 b f = 2 then 0 else φ.1 f) ∧ (ovN M b n i φ).2.1 f = (if M 12 b f = 1 then M 13 b f else if M 12 b f = 2 then 0 else φ.2.1 f) ∧ (ovN M b n i φ).2.2 f = (if M 12 b f = 1 then M 14 b f else if M 12 b f = 2 then 0 else φ.2.2 f)) ∧ (¬ (i ≤ f ∧ f < i + n) → (ovN M b n i φ).1 f = φ.1 f ∧ (ovN M b n i φ).2.1 f = φ.2.1 f ∧ (ovN M b n i φ).2.2 f = φ.2.2 f)
  | 0, i, φ => ⟨fun z => by omega, fun _ => ⟨rfl, rfl, rfl⟩⟩
  | n + 1, i, φ => by
    obtain ⟨h1, h2⟩ := ovN_at n (i + 1) (ov1 M b i φ)
    have e : ovN M b (n + 1) i φ = ovN M b n (i + 1) (ov1 M b i φ) := rfl
    rw [e]
    by_cases hf : f = i
    · subst hf
      obtain ⟨q1, q2, q3⟩ := h2 (by omega)
      refine ⟨fun _ => ?_, fun z => absurd (by omega) z⟩
      rw [q1, q2, q3]
      exact ov1_at
    · obtain ⟨o1, o2, o3⟩ := ov1_n (M := M) (b := b) (φ := φ) hf
      rw [o1, o2, o3] at h1 h2
      exact ⟨fun z => h1 (by omega), fun z => h2 (by omega)⟩
theorem mRw_g {k : Nat} (h0 : k ≠ 0) (h1 : k ≠ 26) : mRw r m y μ k = μ k := by
  funext p j
  show (if k = 0 then _ else if k = 26 ∧ p = r then _ else μ k p j) = _
  rw [if_neg h0, if_neg (fun z => h1 z.1)]
theorem mRw_o (h : p ≠ r) : mRw r m y μ 26 p = μ 26 p := by
  funext j
  show (if (26 : Nat) = 0 then _ else if (26 : Nat) = 26 ∧ p = r then _ else μ 26 p j) = _
  rw [if_neg (by decide), if_neg (fun z => h z.2)]
theorem mRw_at : mRw r m y μ 26 r j = if 0 ≤ j ∧ j < m then kcd y j - 1 else 0 := by
  show (if (26 : Nat) = 0 then _ else if (26 : Nat) = 26 ∧ r = r then _ else _) = _
  rw [if_neg (by decide), if_pos ⟨rfl, rfl⟩]
theorem mRw_n : mRw r m y μ 0 0 26 = r + 1 := rfl
theorem mRw_l : mRw r m y μ 0 1 r = m := by
  show (if (0 : Nat) = 0 then (if (1 : Int) = 0 ∧ r = 26 then r + 1 else if (1 : Int) = 1 ∧ r = r then m else μ 0 1 r) else _) = _
  rw [if_pos rfl, if_neg (fun z => absurd z.1 (by decide)), if_pos ⟨rfl, rfl⟩]
theorem mRw_0 (h : ¬ (p = 0 ∧ j = 26)) (h' : ¬ (p = 1 ∧ j = r)) : mRw r m y μ 0 p j = μ 0 p j := by
  show (if (0 : Nat) = 0 then (if p = 0 ∧ j = 26 then r + 1 else if p = 1 ∧ j = r then m else μ 0 p j) else _) = _
  rw [if_pos rfl, if_neg h, if_neg h']
theorem mIm_g {k : Nat} (h0 : k ≠ 0) (h1 : ¬ (20 ≤ k ∧ k ≤ 24)) : mIm n r φ μ k = μ k := by
  funext p j
  show (if k = 0 then _ else if p = n then (if k = 20 then _ else if k = 21 then _ else if k = 22 then _ else if k = 23 then _ else if k = 24 then _ else μ k p j) else μ k p j) = _
  rw [if_neg h0]
  by_cases hp : p = n
  · rw [if_pos hp, if_neg (by omega), if_neg (by omega), if_neg (by omega), if_neg (by omega), if_neg (by omega)]
  · rw [if_neg hp]
theorem mIm_o {k : Nat} (h0 : k ≠ 0) (h1 : p ≠ n) : mIm n r φ μ k p = μ k p := by
  funext j
  show (if k = 0 then _ else if p = n then _ else μ k p j) = _
  rw [if_neg h0, if_neg h1]
theorem mIm_0 (h : ¬ (p = 0 ∧ j = 20)) : mIm n r φ μ 0 p j = μ 0 p j := by
  show (if (0 : Nat) = 0 then (if p = 0 ∧ j = 20 then n + 1 else μ 0 p j) else _) = _
  rw [if_pos rfl, if_neg h]
theorem mIm_n : mIm n r φ μ 0 0 20 = n + 1 := rfl
theorem mIm_20 : mIm n r φ μ 20 n j = if j = 0 then n else if j = 1 then r else if j = 3 then 1 else 0 := by
  show (if n = n then (if j = 0 then n else if j = 1 then r else if j = 3 then 1 else 0) else μ 20 n j) = _
  rw [if_pos rfl]
theorem mIm_22 : mIm n r φ μ 22 n j = φ.1 j ∧ mIm n r φ μ 23 n j = φ.2.1 j ∧ mIm n r φ μ 24 n j = φ.2.2 j := by
  refine ⟨?_, ?_, ?_⟩
  · show (if n = n then φ.1 j else μ 22 n j) = _
    rw [if_pos rfl]
  · show (if n = n then φ.2.1 j else μ 23 n j) = _
    rw [if_pos rfl]
  · show (if n = n then φ.2.2 j else μ 24 n j) = _
    rw [if_pos rfl]
theorem lfN_add : ∀ (n m : Nat) (k s : Int), lfN ν i j (n + m) k s = lfN ν i j m (k + n) (lfN ν i j n k s)
  | 0, m, k, s => by
    have e : k + ((0 : Nat) : Int) = k := by omega
    rw [e, Nat.zero_add]
    rfl
  | n + 1, m, k, s => by
    have e : n + 1 + m = (n + m) + 1 := by omega
    have e2 : k + ((n + 1 : Nat) : Int) = k + 1 + n := by omega
    have s1 : ∀ (n : Nat) (k s : Int), lfN ν i j (n + 1) k s = lfN ν i j n (k + 1) (if 0 ≤ ν 103 0 (4 * i + k) - 1 ∧ ¬ ν 101 0 (10 * (ν 103 0 (4 * i + k) - 1) + j) = 0 then ν 101 0 (10 * (ν 103 0 (4 * i + k) - 1) + j) else s) := fun _ _ _ => rfl
    rw [e, e2, s1, s1]
    exact lfN_add n m (k + 1) _
theorem lfN_z : ∀ (n : Nat) (k s : Int), (∀ k', k ≤ k' → k' < k + n → ν 103 0 (4 * i + k') = 0) → lfN ν i j n k s = s
  | 0, k, s, h => rfl
  | n + 1, k, s, h => by
    unfold lfN
    rw [h k (by omega) (by omega), if_neg (by omega)]
    exact lfN_z n (k + 1) s fun k' a b => h k' (by omega) (by omega)
theorem stk_lf (h1 : ν 101 = M 101) (f0 : 0 ≤ f ∧ f < 10) (hl : ∀ b, 0 ≤ b → b < c → enc3 (M 12 b f) (M 13 b f) (M 14 b f) (M 101 0 (10 * b + f)) f) : ∀ (n : Nat) (k : Int) (φ : ZTF) (s : Int), (∀ k', k ≤ k' → k' < k + n → ν 103 0 (4 * i + (k' + 1)) = M 26 r k' + 1 ∧ 0 ≤ M 26 r k' ∧ M 26 r k' < c) → fE φ f s → fE (stk M r n k φ) f (lfN ν i f n (k + 1) s)
  | 0, k, φ, s, hr, h => h
  | n + 1, k, φ, s, hr, h => by
    obtain ⟨r1, r2, r3⟩ := hr k (by omega) (by omega)
    have he := hl _ r2 r3
    have e : stk M r (n + 1) k φ = stk M r n (k + 1) (ovN M (M 26 r k) 10 0 φ) := rfl
    have e2 : M 26 r k + 1 - 1 = M 26 r k := by omega
    rw [e]
    unfold lfN
    rw [r1, h1, e2]
    refine stk_lf h1 f0 hl n (k + 1) _ _ (fun k' a b => hr k' (by omega) (by omega)) ?_
    obtain ⟨q1, q2, q3⟩ := (ovN_at (f := f) (M := M) (b := M 26 r k) (φ := φ) 10 0).1 ⟨f0.1, by omega⟩
    unfold fE at h ⊢
    rw [q1, q2, q3]
    generalize M 26 r k = b at *
    rcases he with ⟨c1, c2, c3, c4⟩ | ⟨c1, c2, c3, c4, c5, c6⟩ | ⟨c1, c2, c3, c4⟩
    · have i1 : ¬ M 12 b f = 1 := by omega
      have i2 : ¬ M 12 b f = 2 := by omega
      have i3 : ¬ (0 ≤ b ∧ ¬ M 101 0 (10 * b + f) = 0) := fun z => z.2 c4
      simp only [if_neg i1, if_neg i2, if_neg i3]
      exact h
    · have i3 : 0 ≤ b ∧ ¬ M 101 0 (10 * b + f) = 0 := ⟨r2, by omega⟩
      have hs : (if 0 ≤ b ∧ ¬ M 101 0 (10 * b + f) = 0 then M 101 0 (10 * b + f) else s) = M 101 0 (10 * b + f) := if_pos i3
      rw [hs, if_pos c1, if_pos c1, if_pos c1]
      exact Or.inr ⟨rfl, c2, c3, c4, c5, c6⟩
    · have i1 : ¬ M 12 b f = 1 := by omega
      have i3 : 0 ≤ b ∧ ¬ M 101 0 (10 * b + f) = 0 := ⟨r2, by omega⟩
      have hs : (if 0 ≤ b ∧ ¬ M 101 0 (10 * b + f) = 0 then M 101 0 (10 * b + f) else s) = M 101 0 (10 * b + f) := if_pos i3
      rw [hs, if_neg i1, if_neg i1, if_neg i1, if_pos c1, if_pos c1, if_pos c1]
      exact Or.inl ⟨rfl, rfl, rfl, by omega⟩
theorem enc2_of (h : fE φ f s) : enc2 (φ.1 f) (φ.2.1 f) (φ.2.2 f) (lfe s) f := by
  unfold fE at h
  unfold enc2 lfe
  rcases h with h | h
  · by_cases q : s < 0
    · rw [if_pos q]
      omega
    · rw [if_neg q]
      omega
  · rw [if_neg (by omega)]
    omega
theorem RW_rw (h : RW μ t) : RW (mRw (μ 0 0 26) m y μ) t := by
  obtain ⟨r0, ra, rb, rc, rd, re, rf, rg, rh⟩ := h
  have ek : ∀ k, k ≠ 0 → k ≠ 26 → mRw (μ 0 0 26) m y μ k = μ k := fun k h0 h1 => mRw_g h0 h1
  have e0 : ∀ j, j ≠ 26 → mRw (μ 0 0 26) m y μ 0 0 j = μ 0 0 j := fun j hj => mRw_0 (fun z => hj z.2) (fun z => absurd z.1 (by decide))
  have e1 : ∀ j, j ≠ μ 0 0 26 → mRw (μ 0 0 26) m y μ 0 1 j = μ 0 1 j := fun j hj => mRw_0 (fun z => absurd z.1 (by decide)) (fun z => hj z.2)
  have e26 : ∀ p, p ≠ μ 0 0 26 → mRw (μ 0 0 26) m y μ 26 p = μ 26 p := fun p hp => mRw_o hp
  have en : mRw (μ 0 0 26) m y μ 0 0 26 = μ 0 0 26 + 1 := mRw_n
  generalize mRw (μ 0 0 26) m y μ = ν at *
  have hf : ∀ i, 0 ≤ i → i < μ 0 0 20 → ∀ j, 0 ≤ j → j < 10 → lfv ν i j = lfv μ i j := fun i _ _ j _ _ => lfv_l (ek _ (by decide) (by decide)) fun k k0 k1 => by rw [ek 103 (by decide) (by decide)]
  have g := fun k h0 h1 => ek k h0 h1
  refine ⟨by rw [e0 10 (by decide)]; omega, ?_, RWb_of (e0 10 (by decide)) (g _ (by decide) (by decide)) (g _ (by decide) (by decide)) (g _ (by decide) (by decide)) (g _ (by decide) (by decide)) (g _ (by decide) (by decide)) (g _ (by decide) (by decide)) rb, ⟨fun i i0 i1 => ?_, fun k k0 k1 => ?_⟩, ?_, ?_, ?_, ?_, ?_⟩
  · unfold RWa
    rw [g 2 (by decide) (by decide), g 106 (by decide) (by decide), e0 10 (by decide), e0 20 (by decide), e0 30 (by decide), e0 40 (by decide), e0 41 (by decide), e0 50 (by decide), e0 113 (by decide), e0 115 (by decide), en]
    exact ⟨ra.1, ra.2.1, ra.2.2.1, ra.2.2.2.1, ra.2.2.2.2.1, by have := ra.2.2.2.2.2.1; omega, ra.2.2.2.2.2.2⟩
  · rw [e0 20 (by decide)] at i1
    have hi := rc.1 i i0 i1
    refine RWi_p (by rw [e0 10 (by decide)]; exact Int.le_refl _) (by rw [en]; omega) (fun r hr => e1 r (by omega)) (fun l _ _ z => by rw [g 10 (by decide) (by decide)]; exact z) (fun j hj => by rw [g 20 (by decide) (by decide)]) ?_ (fun r hr => e26 r (by omega)) (by rw [g 22 (by decide) (by decide)]) (by rw [g 23 (by decide) (by decide)]) (by rw [g 24 (by decide) (by decide)]) (hf i i0 i1) (fun k k0 k1 => by rw [g 103 (by decide) (by decide)]) hi
    rw [g 20 (by decide) (by decide), g 103 (by decide) (by decide)]
    exact hi.1
  · rw [e0 20 (by decide)] at k0
    rw [g 103 (by decide) (by decide)]
    exact rc.2 k k0 k1
  · exact RWd_of (g _ (by decide) (by decide)) (g _ (by decide) (by decide)) (g _ (by decide) (by decide)) (g _ (by decide) (by decide)) (g _ (by decide) (by decide)) (g _ (by decide) (by decide)) (g _ (by decide) (by decide)) (g _ (by decide) (by decide)) (fun j _ _ => by rw [g 106 (by decide) (by decide)]) (Int.le_refl _) rd
  · exact RWe_of (g _ (by decide) (by decide)) (fun j _ _ => by rw [g 106 (by decide) (by decide)]) (Int.le_refl _) re
  · exact RWf_of (e0 40 (by decide)) (e0 41 (by decide)) (by rw [e0 20 (by decide)]; exact Int.le_refl _) (g _ (by decide) (by decide)) rf
  · exact RWg_p (e0 41 (by decide)) (by rw [e0 20 (by decide)]; exact Int.le_refl _) (g _ (by decide) (by decide)) (fun b _ _ k k0 k1 => by rw [g k (by omega) (by omega)]) (g _ (by decide) (by decide)) (g _ (by decide) (by decide)) hf (g _ (by decide) (by decide)) (fun i _ _ => sfi_of (g _ (by decide) (by decide)) (g _ (by decide) (by decide)) (g _ (by decide) (by decide)) (g _ (by decide) (by decide)) (g _ (by decide) (by decide)) (g _ (by decide) (by decide)) (by rw [g 22 (by decide) (by decide)]) (by rw [g 23 (by decide) (by decide)]) (by rw [g 24 (by decide) (by decide)])) rg
  · exact lnE_of (g _ (by decide) (by decide)) (g _ (by decide) (by decide)) rh
theorem RW_im (h : RW M t) (ht : t + 1 ≤ 100) (hn : M 0 0 20 = n) (h12 : n < 12) (hr : 0 ≤ r ∧ r < M 0 0 26) (hl : 1 ≤ M 0 1 r ∧ M 0 1 r ≤ 3) (h26 : ∀ k, 0 ≤ k → k < M 0 1 r → (0 ≤ M 26 r k ∧ M 26 r k < M 0 0 10) ∧ M 10 (M 26 r k) 1 = 1)
    (c0 : ∀ p j, ¬ (p = 0 ∧ j = 20) → Φ 0 p j = M 0 p j) (c20 : Φ 0 0 20 = n + 1) (c2 : Φ 2 0 7 = n + 1) (c2' : ∀ j, j ≠ 7 → Φ 2 0 j = M 2 0 j) (c6 : Φ 106 0 1 = n + 1) (c6' : ∀ j, j ≠ 1 → Φ 106 0 j = M 106 0 j) (g : ∀ q : Nat, q ≠ 0 → q ≠ 2 → ¬ (20 ≤ q ∧ q ≤ 24) → q ≠ 103 → q ≠ 106 → Φ q = M q) (o : ∀ q : Nat, 20 ≤ q → q ≤ 24 → ∀ p, p ≠ n → Φ q p = M q p) (n20 : Φ 20 n 0 = n ∧ Φ 20 n 1 = r ∧ Φ 20 n 3 = 1) (n22 : ∀ j, Φ 22 n j = (stk M r (M 0 1 r).toNat 0 z30).1 j ∧ Φ 23 n j = (stk M r (M 0 1 r).toNat 0 z30).2.1 j ∧ Φ 24 n j = (stk M r (M 0 1 r).toNat 0 z30).2.2 j)
    (n3 : Φ 103 0 (4 * n) = 1) (n3' : ∀ k, 0 ≤ k → k < 3 → Φ 103 0 (4 * n + 1 + k) = if k < M 0 1 r then M 26 r k + 1 else 0) (o3 : ∀ x, ¬ (4 * n ≤ x ∧ x < 4 * n + 4) → Φ 103 0 x = M 103 0 x) : RW Φ (t + 1) := by
  obtain ⟨r0, ra, rb, rc, rd, re, rf, rg, rh⟩ := h
  have hn0 : 0 ≤ n := by have := ra.2.1; omega
  have b10 : Φ 0 0 10 = M 0 0 10 := c0 _ _ (by omega)
  have b26 : Φ 0 0 26 = M 0 0 26 := c0 _ _ (by omega)
  have hf : ∀ i, 0 ≤ i → i < M 0 0 20 → ∀ j, 0 ≤ j → j < 10 → lfv Φ i j = lfv M i j := fun i _ _ j _ _ => lfv_l (g _ (by decide) (by decide) (by decide) (by decide) (by decide)) fun k k0 k1 => o3 _ (by omega)
  refine ⟨by omega, ?_, RWb_of b10 (g _ (by decide) (by decide) (by decide) (by decide) (by decide)) (g _ (by decide) (by decide) (by decide) (by decide) (by decide)) (g _ (by decide) (by decide) (by decide) (by decide) (by decide)) (g _ (by decide) (by decide) (by decide) (by decide) (by decide)) (g _ (by decide) (by decide) (by decide) (by decide) (by decide)) (g _ (by decide) (by decide) (by decide) (by decide) (by decide)) rb, ⟨fun i i0 i1 => ?_, fun k k0 k1 => ?_⟩, ?_, ?_, ?_, ?_, ?_⟩
  · obtain ⟨a1, a2, a3, a4, a5, a6, a7⟩ := ra
    unfold RWa
    rw [b10, c20, b26, c0 0 30 (by omega), c0 0 40 (by omega), c0 0 41 (by omega), c0 0 50 (by omega), c0 0 113 (by omega), c0 0 115 (by omega), c2, c6, c2' 6 (by decide), c2' 8 (by decide), c2' 9 (by decide), c2' 10 (by decide), c6' 0 (by decide), c6' 12 (by decide), c6' 13 (by decide)]
    exact ⟨a1, by omega, a3, a4, a5, a6, a7⟩
  · by_cases q : i = n
    · rw [q]
      refine ⟨⟨by rw [n3, n20.2.2], by omega, by omega⟩, n20.1, ⟨by omega, by omega⟩, ?_, ?_, ?_, ?_⟩
      · rw [n20.2.1, c0 1 r (by omega)]
        exact hl
      · intro k k0 k1
        rw [n3' k k0 k1, n20.2.1, c0 1 r (by omega), g 26 (by decide) (by decide) (by decide) (by decide) (by decide)]
      · intro k k0 k1
        rw [n20.2.1, c0 1 r (by omega)] at k1
        rw [n20.2.1, g 26 (by decide) (by decide) (by decide) (by decide) (by decide), g 10 (by decide) (by decide) (by decide) (by decide) (by decide), b10]
        have := h26 k k0 k1
        omega
      · intro j j0 j1
        obtain ⟨x1, x2, x3⟩ := n22 j
        rw [x1, x2, x3]
        have e101 := g 101 (by decide) (by decide) (by decide) (by decide) (by decide)
        have hs := stk_lf (ν := Φ) (M := M) (f := j) (i := n) (r := r) (c := M 0 0 10) e101 ⟨j0, j1⟩ (fun b b0 b1 => ((rb b b0 (by have := ra.1; omega)).1 b1).2.2 j j0 j1) (M 0 1 r).toNat 0 z30 0 (fun k a b => by
          have b : k < M 0 1 r := by omega
          have e := n3' k a (by omega)
          rw [if_pos b, show 4 * n + 1 + k = 4 * n + (k + 1) by omega] at e
          exact ⟨e, (h26 k a b).1.1, (h26 k a b).1.2⟩) (Or.inl ⟨rfl, rfl, rfl, Int.le_refl _⟩)
        have e3 : lfN Φ n j 3 1 0 = lfN Φ n j (M 0 1 r).toNat (0 + 1) 0 := by
          have e : 3 = (M 0 1 r).toNat + (3 - (M 0 1 r).toNat) := by omega
          rw [e, lfN_add, lfN_z]
          · rfl
          · intro k' a b
            have e := n3' (k' - 1) (by omega) (by omega)
            rw [if_neg (by omega), show 4 * n + 1 + (k' - 1) = 4 * n + k' by omega] at e
            exact e
        unfold lfv
        rw [e3]
        exact enc2_of hs
    · rw [c20] at i1
      have i1 : i < M 0 0 20 := by omega
      have hi := rc.1 i i0 i1
      refine RWi_p (by omega) (by omega) (fun r hr => c0 1 r (by omega)) (fun l _ _ z => by rw [g 10 (by decide) (by decide) (by decide) (by decide) (by decide)]; exact z) (fun j hj => by rw [o 20 (by omega) (by omega) i q]) ?_ (fun r hr => by rw [g 26 (by decide) (by decide) (by decide) (by decide) (by decide)]) (o 22 (by omega) (by omega) i q) (o 23 (by omega) (by omega) i q) (o 24 (by omega) (by omega) i q) (hf i i0 i1) (fun k k0 k1 => o3 _ (by omega)) hi
      rw [o 20 (by omega) (by omega) i q, o3 _ (by omega)]
      have := hi.1
      omega
  · rw [c20] at k0
    rw [o3 k (by omega)]
    exact rc.2 k (by omega) k1
  · exact RWd_p (g _ (by decide) (by decide) (by decide) (by decide) (by decide)) (g _ (by decide) (by decide) (by decide) (by decide) (by decide)) (g _ (by decide) (by decide) (by decide) (by decide) (by decide)) (g _ (by decide) (by decide) (by decide) (by decide) (by decide)) (g _ (by decide) (by decide) (by decide) (by decide) (by decide)) (g _ (by decide) (by decide) (by decide) (by decide) (by decide)) (g _ (by decide) (by decide) (by decide) (by decide) (by decide)) (g _ (by decide) (by decide) (by decide) (by decide) (by decide)) (fun j _ _ => c6' j (by omega)) (by omega) rd
  · exact RWe_of (g _ (by decide) (by decide) (by decide) (by decide) (by decide)) (fun j _ _ => c6' j (by omega)) (by omega) re
  · exact RWf_of (c0 0 40 (by omega)) (c0 0 41 (by omega)) (by omega) (g _ (by decide) (by decide) (by decide) (by decide) (by decide)) rf
  · exact RWg_p (c0 0 41 (by omega)) (by omega) (g _ (by decide) (by decide) (by decide) (by decide) (by decide)) (fun b _ _ k k0 k1 => by rw [g k (by omega) (by omega) (by omega) (by omega) (by omega)]) (g _ (by decide) (by decide) (by decide) (by decide) (by decide)) (g _ (by decide) (by decide) (by decide) (by decide) (by decide)) hf (g _ (by decide) (by decide) (by decide) (by decide) (by decide)) (fun i _ i1 => sfi_of (g _ (by decide) (by decide) (by decide) (by decide) (by decide)) (g _ (by decide) (by decide) (by decide) (by decide) (by decide)) (g _ (by decide) (by decide) (by decide) (by decide) (by decide)) (g _ (by decide) (by decide) (by decide) (by decide) (by decide)) (g _ (by decide) (by decide) (by decide) (by decide) (by decide)) (g _ (by decide) (by decide) (by decide) (by decide) (by decide)) (o 22 (by omega) (by omega) i (by omega)) (o 23 (by omega) (by omega) i (by omega)) (o 24 (by omega) (by omega) i (by omega))) rg
  · exact lnE_of (g _ (by decide) (by decide) (by decide) (by decide) (by decide)) (g _ (by decide) (by decide) (by decide) (by decide) (by decide)) rh
end ZPB1
