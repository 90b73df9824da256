/-! ===== searches; layers that change ===== -/
def zdn (p : Int → Bool) : Nat → Int → Int
  | 0, s => s
  | n + 1, s => zdn p n (if p n = true then (n : Int) else s)
section ZEQ
variable {L t s v a b c d i j k x w e : Int} {p q : Int → Bool} {μ ν κ : ZU}
theorem zall_eq {n : Nat} (h : ∀ j, i ≤ j → j < i + n → p j = q j) : zall p n i = zall q n i := by
  rw [Bool.eq_iff_iff, zall_iff, zall_iff]
  exact ⟨fun z j j0 j1 => by rw [← h j j0 j1]; exact z j j0 j1, fun z j j0 j1 => by rw [h j j0 j1]; exact z j j0 j1⟩
theorem zff_s {n : Nat} : zff p (n + 1) i = if p i = true then i else zff p n (i + 1) := rfl
theorem zff_snoc : ∀ (n : Nat) (i : Int), 0 ≤ i → zff p (n + 1) i = if zff p n i = -1 then (if p (i + n) = true then i + n else -1) else zff p n i
  | 0, i, hi => by
    have e : i + ((0 : Nat) : Int) = i := by omega
    rw [zff_s, e]
    show (if p i = true then i else -1) = if (-1 : Int) = -1 then _ else _
    rw [if_pos rfl]
  | n + 1, i, hi => by
    have e : i + 1 + (n : Int) = i + ((n + 1 : Nat) : Int) := by omega
    rw [zff_s, zff_snoc n (i + 1) (by omega), e, zff_s (n := n)]
    by_cases h : p i = true
    · rw [if_pos h, if_pos h, if_neg (by omega)]
    · rw [if_neg h, if_neg h]
theorem zdn_zff : ∀ (n : Nat) (s : Int), zdn p n s = if zff p n 0 = -1 then s else zff p n 0
  | 0, s => by
    show s = if (-1 : Int) = -1 then s else -1
    rw [if_pos rfl]
  | n + 1, s => by
    have e : (0 : Int) + (n : Int) = n := by omega
    show zdn p n (if p n = true then (n : Int) else s) = _
    rw [zdn_zff n, zff_snoc n 0 (by omega), e]
    by_cases h : zff p n 0 = -1
    · rw [if_pos h, if_pos h]
      by_cases h2 : p n = true
      · rw [if_pos h2, if_pos h2, if_neg (by omega)]
      · rw [if_neg h2, if_neg h2, if_pos rfl]
    · rw [if_neg h, if_neg h, if_neg h]
theorem zff_eq : ∀ (n : Nat) (i : Int), (∀ j, i ≤ j → j < i + n → p j = q j) → zff p n i = zff q n i
  | 0, _, _ => rfl
  | n + 1, i, h => by rw [zff_s, zff_s, h i (by omega) (by omega), zff_eq n (i + 1) fun j j0 j1 => h j (by omega) (by omega)]
theorem zff_cut : ∀ (k m : Nat), (∀ j, (m : Int) ≤ j → j < m + k → p j = false) → zff p (m + k) 0 = zff p m 0
  | 0, _, _ => rfl
  | k + 1, m, h => by
    have e : m + (k + 1) = (m + k) + 1 := by omega
    have e2 : (0 : Int) + ((m + k : Nat) : Int) = m + k := by omega
    rw [e, zff_snoc _ 0 (by omega), zff_cut k m fun j j0 j1 => h j j0 (by omega), e2, h (m + k) (by omega) (by omega)]
    by_cases z : zff p m 0 = -1
    · rw [if_pos z, if_neg (by decide), z]
    · rw [if_neg z]
theorem zct_s {n : Nat} : zct p (n + 1) i s = zct p n (i + 1) (if p i = true then s + 1 else s) := rfl
theorem zct_eq : ∀ (n : Nat) (i s : Int), (∀ j, i ≤ j → j < i + n → p j = q j) → zct p n i s = zct q n i s
  | 0, _, _, _ => rfl
  | n + 1, i, s, h => by rw [zct_s, zct_s, h i (by omega) (by omega), zct_eq n (i + 1) _ fun j j0 j1 => h j (by omega) (by omega)]
theorem zct_0 : ∀ (n : Nat) (i s : Int), (∀ j, i ≤ j → j < i + n → p j = false) → zct p n i s = s
  | 0, _, _, _ => rfl
  | n + 1, i, s, h => by rw [zct_s, h i (by omega) (by omega), if_neg (by decide), zct_0 n (i + 1) s fun j j0 j1 => h j (by omega) (by omega)]
theorem zct_cut {k : Nat} : ∀ (m : Nat) (i s : Int), (∀ j, i + m ≤ j → j < i + m + k → p j = false) → zct p (m + k) i s = zct p m i s
  | 0, i, s, h => by
    have e : 0 + k = k := by omega
    rw [e]
    exact zct_0 k i s fun j j0 j1 => h j (by omega) (by omega)
  | m + 1, i, s, h => by
    have e : m + 1 + k = (m + k) + 1 := by omega
    rw [e, zct_s, zct_s]
    exact zct_cut m (i + 1) _ fun j j0 j1 => h j (by omega) (by omega)
theorem zwh_s {n : Nat} : zwh p (n + 1) i = if p i = true then zwh p n (i + 1) else i := rfl
theorem zwh_all : ∀ (n : Nat) (i j : Int), i ≤ j → j < zwh p n i → p j = true
  | 0, i, j, h1, h2 => by
    have h3 : j < i := h2
    omega
  | n + 1, i, j, h1, h2 => by
    rw [zwh_s] at h2
    by_cases h : p i = true
    · rw [if_pos h] at h2
      by_cases hj : j = i
      · rw [hj]
        exact h
      · exact zwh_all n (i + 1) j (by omega) h2
    · rw [if_neg h] at h2
      omega
theorem zwh_end : ∀ (n : Nat) (i : Int), zwh p n i < i + n → ¬ p (zwh p n i) = true
  | 0, i, h => by
    have h3 : i < i + ((0 : Nat) : Int) := h
    omega
  | n + 1, i, h => by
    rw [zwh_s] at h ⊢
    by_cases h2 : p i = true
    · rw [if_pos h2] at h ⊢
      exact zwh_end n (i + 1) (by omega)
    · rw [if_neg h2]
      exact h2
theorem zwh_is {n : Nat} (h1 : i ≤ e) (h2 : e ≤ i + n) (h3 : ∀ j, i ≤ j → j < e → p j = true) (h4 : e < i + n → ¬ p e = true) : zwh p n i = e := by
  have hg := zwh_ge (p := p) (n := n) (i := i)
  by_cases h5 : zwh p n i < e
  · exact absurd (h3 _ hg.1 h5) (zwh_end n i (by omega))
  · by_cases h6 : e < zwh p n i
    · exact absurd (zwh_all n i e h1 h6) (h4 (by omega))
    · omega
theorem z1023 (h0 : 0 ≤ i) (h1 : i < 10) : ¬ zand (zshr 1023 i) 1 = 0 := by
  have : i = 0 ∨ i = 1 ∨ i = 2 ∨ i = 3 ∨ i = 4 ∨ i = 5 ∨ i = 6 ∨ i = 7 ∨ i = 8 ∨ i = 9 := by omega
  rcases this with rfl | rfl | rfl | rfl | rfl | rfl | rfl | rfl | rfl | rfl <;> decide
end ZEQ
/-- what a layer has of a file changes: on the law's side, on the class's -/
def mLc (l f x y z v : Int) (μ : ZU) : ZU := mu (mu (mu (mu μ 101 0 (10 * l + f) v) 12 l f x) 13 l f y) 14 l f z
section ZPK
variable {ck sk : Nat} {Q : ZO → ZH → Prop} {μ ν κ β : ZU} {a b c d e f g h i j k l m p r s t t' v w x y z L H M R W : Int} {u u1 u2 u3 u4 u5 u6 u7 u8 u9 : ZV}
theorem RWi_p (hc : μ 0 0 10 ≤ ν 0 0 10) (h26 : μ 0 0 26 ≤ ν 0 0 26) (hl : ∀ r, r < μ 0 0 26 → ν 0 1 r = μ 0 1 r) (h1 : ∀ l, 0 ≤ l → l < μ 0 0 10 → 1 ≤ μ 10 l 1 → 1 ≤ ν 10 l 1) (h2 : ∀ j, j ≠ 3 → ν 20 i j = μ 20 i j) (ht3 : ν 103 0 (4 * i) = ν 20 i 3 ∧ 0 ≤ ν 20 i 3 ∧ ν 20 i 3 ≤ t') (h3 : ∀ r, r < μ 0 0 26 → ν 26 r = μ 26 r) (h4 : ν 22 i = μ 22 i) (h5 : ν 23 i = μ 23 i) (h6 : ν 24 i = μ 24 i) (h7 : ∀ j, 0 ≤ j → j < 10 → lfv ν i j = lfv μ i j) (h8 : ∀ k, 1 ≤ k → k < 4 → ν 103 0 (4 * i + k) = μ 103 0 (4 * i + k)) (h : RWi μ t i) : RWi ν t' i := by
  obtain ⟨⟨a1, a2, a3⟩, a4, a5, a6, a7, a8, a9⟩ := h
  unfold RWi
  rw [h2 0 (by decide), h2 1 (by decide), h4, h5, h6, hl _ a5.2, h3 _ a5.2]
  refine ⟨ht3, a4, by omega, a6, fun k k0 k1 => ?_, fun k k0 k1 => ?_, fun j j0 j1 => ?_⟩
  · have e := h8 (1 + k) (by omega) (by omega)
    rw [← Int.add_assoc] at e
    rw [e]
    exact a7 k k0 k1
  · have := a8 k k0 k1
    exact ⟨by omega, h1 _ this.1.1 this.1.2 this.2⟩
  · rw [h7 j j0 j1]
    exact a9 j j0 j1
theorem RWg_p (hb : ν 0 0 41 = μ 0 0 41) (hi : μ 0 0 20 ≤ ν 0 0 20) (h1 : ν 41 = μ 41) (h2 : ∀ b, 0 ≤ b → b < μ 0 0 41 → ∀ k, 50 ≤ k → k ≤ 56 → ν k b = μ k b) (h3 : ν 111 = μ 111) (h4 : ν 112 = μ 112) (h5 : ∀ i, 0 ≤ i → i < μ 0 0 20 → ∀ j, 0 ≤ j → j < 10 → lfv ν i j = lfv μ i j) (hv : ν 30 = μ 30) (hs : ∀ i, 0 ≤ i → i < μ 0 0 20 → sfi μ ν 0 i) (h : RWg μ) : RWg ν := by
  intro b b0 b1
  rw [hb] at b1
  obtain ⟨q1, q2, q3, q4, q5, q6, q7, q8, q9⟩ := h b b0 b1
  have e := h2 b b0 b1
  have e50 := e 50 (by omega) (by omega)
  unfold RWk
  rw [h1, h3, h4, e50, hv]
  refine ⟨q1, q2, by omega, q4, q5, q6, fun j j0 j1 => ?_, q8, fun z => ?_⟩
  · rw [h5 _ q3.1 q3.2 j j0 j1]
    exact q7 j j0 j1
  · exact SHT_of (SHT_sf (q9 z) (hs _ q3.1 q3.2)) e50 (e 51 (by omega) (by omega)) (e 52 (by omega) (by omega)) (e 53 (by omega) (by omega)) (e 54 (by omega) (by omega)) (e 55 (by omega) (by omega)) (e 56 (by omega) (by omega))
/-- only layers change -/
theorem RW_lyr (h : RW μ t) (ht2 : t + 1 ≤ 100) (hk : ∀ q, q ≠ 10 → q ≠ 12 → q ≠ 13 → q ≠ 14 → q ≠ 101 → q ≠ 102 → ν q = μ q) (hb : RWb ν) (h1 : ∀ l, 0 ≤ l → l < μ 0 0 10 → 1 ≤ μ 10 l 1 → 1 ≤ ν 10 l 1) (hf : ∀ i, 0 ≤ i → i < μ 0 0 20 → ∀ j, 0 ≤ j → j < 10 → lfv ν i j = lfv μ i j) : RW ν (t + 1) := by
  obtain ⟨r0, ra, rb, rc, rd, re, rf, rg, rh⟩ := h
  have g : ∀ q, q < 10 ∨ (14 < q ∧ q < 101) ∨ 102 < q → ν q = μ q := fun q hq => hk q (by omega) (by omega) (by omega) (by omega) (by omega) (by omega)
  have h0 : ν 0 = μ 0 := g _ (by omega)
  refine ⟨by rw [h0]; omega, ?_, hb, ⟨fun i i0 i1 => ?_, fun k k0 k1 => ?_⟩, ?_, ?_, ?_, ?_, ?_⟩
  · unfold RWa
    rw [h0, g 2 (by omega), g 106 (by omega)]
    exact ra
  · rw [h0] at i1
    have hi := rc.1 i i0 i1
    refine RWi_p (by rw [h0]; omega) (by rw [h0]; omega) (fun r _ => by rw [h0]) h1 (fun j _ => by rw [g 20 (by omega)]) ?_ (fun r _ => by rw [g 26 (by omega)]) (by rw [g 22 (by omega)]) (by rw [g 23 (by omega)]) (by rw [g 24 (by omega)]) (hf i i0 i1) (fun k _ _ => by rw [g 103 (by omega)]) hi
    rw [g 103 (by omega), g 20 (by omega)]
    have := hi.1
    omega
  · rw [h0] at k0
    rw [g 103 (by omega)]
    exact rc.2 k k0 k1
  · exact RWd_of (g _ (by omega)) (g _ (by omega)) (g _ (by omega)) (g _ (by omega)) (g _ (by omega)) (g _ (by omega)) (g _ (by omega)) (g _ (by omega)) (fun j a b => by rw [g 106 (by omega)]) (by omega) rd
  · exact RWe_of (g _ (by omega)) (fun j a b => by rw [g 106 (by omega)]) (by omega) re
  · exact RWf_of (by rw [h0]) (by rw [h0]) (by rw [h0]; omega) (g _ (by omega)) rf
  · exact RWg_p (by rw [h0]) (by rw [h0]; omega) (g _ (by omega)) (fun b _ _ k k0 k1 => by rw [g k (by omega)]) (g _ (by omega)) (g _ (by omega)) hf (g _ (by omega)) (fun i _ _ => sfi_of (g _ (by omega)) (g _ (by omega)) (g _ (by omega)) (g _ (by omega)) (g _ (by omega)) (g _ (by omega)) (by rw [g 22 (by omega)]) (by rw [g 23 (by omega)]) (by rw [g 24 (by omega)])) rg
  · exact lnE_of (g _ (by omega)) (g _ (by omega)) rh
theorem lfN_pt (hj : 0 ≤ j ∧ j < 10) (hf : 0 ≤ f ∧ f < 10) (hr : ∀ k, 1 ≤ k → k < 4 → ¬ μ 103 0 (4 * i + k) = l + 1) (h3 : ν 103 = μ 103) (h1 : ∀ q, q ≠ 10 * l + f → ν 101 0 q = μ 101 0 q) : ∀ (n : Nat) (k s : Int), 1 ≤ k → k + n = 4 → lfN ν i j n k s = lfN μ i j n k s
  | 0, _, _, _, _ => rfl
  | n + 1, k, s, k0, k1 => by
    have := hr k k0 (by omega)
    unfold lfN
    rw [h3, h1 _ (by omega)]
    exact lfN_pt hj hf hr h3 h1 n (k + 1) _ (by omega) (by omega)
theorem lfv_pt (hj : 0 ≤ j ∧ j < 10) (hf : 0 ≤ f ∧ f < 10) (hr : ∀ k, 1 ≤ k → k < 4 → ¬ μ 103 0 (4 * i + k) = l + 1) (h3 : ν 103 = μ 103) (h1 : ∀ q, q ≠ 10 * l + f → ν 101 0 q = μ 101 0 q) : lfv ν i j = lfv μ i j := by
  unfold lfv
  rw [lfN_pt hj hf hr h3 h1 3 1 0 (by omega) (by omega)]
/-- an open layer is in no image -/
theorem RW.op (h : RW μ t) (h0 : 0 ≤ i) (h1 : i < μ 0 0 20) (hl : 0 ≤ l) (ho : μ 10 l 1 = 0) : ∀ k, 1 ≤ k → k < 4 → ¬ μ 103 0 (4 * i + k) = l + 1 := fun k k0 k1 z => by
  obtain ⟨-, -, -, -, q5, q6, -⟩ := h.2.2.2.1.1 i h0 h1
  have e := q5 (k - 1) (by omega) (by omega)
  rw [show 4 * i + 1 + (k - 1) = 4 * i + k by omega, z] at e
  by_cases q : k - 1 < μ 0 1 (μ 20 i 1)
  · rw [if_pos q] at e
    have := q6 (k - 1) (by omega) q
    have e2 : μ 26 (μ 20 i 1) (k - 1) = l := by omega
    rw [e2, ho] at this
    omega
  · rw [if_neg q] at e
    omega
theorem RW_lc (h : RW μ t) (ht : t + 1 ≤ 100) (hl : 0 ≤ l) (hl2 : l < μ 0 0 10) (ho : μ 10 l 1 = 0) (hf : 0 ≤ f ∧ f < 10) (he : enc3 x y z v f) : RW (mLc l f x y z v μ) (t + 1) := by
  have ha := h.2.1.1
  have hb := h.2.2.1
  have n1 : ∀ q, q ≠ 10 * l + f → mLc l f x y z v μ 101 0 q = μ 101 0 q := fun q hq => by
    unfold mLc
    rw [mu_g (by decide), mu_g (by decide), mu_g (by decide), mu_j hq]
  have n1v : mLc l f x y z v μ 101 0 (10 * l + f) = v := by
    unfold mLc
    rw [mu_g (by decide), mu_g (by decide), mu_g (by decide), mu_at]
  have ng : ∀ q, q ≠ 12 → q ≠ 13 → q ≠ 14 → q ≠ 101 → mLc l f x y z v μ q = μ q := fun q h1 h2 h3 h4 => by
    unfold mLc
    rw [mu_g h3, mu_g h2, mu_g h1, mu_g h4]
  have n2 : ∀ l' j, mLc l f x y z v μ 12 l' j = if l' = l ∧ j = f then x else μ 12 l' j := fun l' j => by
    unfold mLc
    rw [mu_g (by decide), mu_g (by decide)]
    by_cases q : l' = l ∧ j = f
    · rw [if_pos q, q.1, q.2, mu_at]
    · rw [if_neg q]
      by_cases q2 : l' = l
      · rw [mu_j (fun z => q ⟨q2, z⟩), mu_g (by decide)]
      · rw [mu_i q2, mu_g (by decide)]
  have n3 : ∀ l' j, mLc l f x y z v μ 13 l' j = if l' = l ∧ j = f then y else μ 13 l' j := fun l' j => by
    unfold mLc
    rw [mu_g (by decide)]
    by_cases q : l' = l ∧ j = f
    · rw [if_pos q, q.1, q.2, mu_at]
    · rw [if_neg q]
      by_cases q2 : l' = l
      · rw [mu_j (fun z => q ⟨q2, z⟩), mu_g (by decide), mu_g (by decide)]
      · rw [mu_i q2, mu_g (by decide), mu_g (by decide)]
  have n4 : ∀ l' j, mLc l f x y z v μ 14 l' j = if l' = l ∧ j = f then z else μ 14 l' j := fun l' j => by
    unfold mLc
    by_cases q : l' = l ∧ j = f
    · rw [if_pos q, q.1, q.2, mu_at]
    · rw [if_neg q]
      by_cases q2 : l' = l
      · rw [mu_j (fun z => q ⟨q2, z⟩), mu_g (by decide), mu_g (by decide), mu_g (by decide)]
      · rw [mu_i q2, mu_g (by decide), mu_g (by decide), mu_g (by decide)]
  refine RW_lyr h ht (fun q _ h2 h3 h4 h5 _ => ng q h2 h3 h4 h5) ?_ (fun l' _ _ q => by rw [ng 10 (by decide) (by decide) (by decide) (by decide)]; exact q) (fun i i0 i1 j j0 j1 => lfv_pt ⟨j0, j1⟩ hf (h.op i0 i1 hl ho) (ng _ (by decide) (by decide) (by decide) (by decide)) n1)
  intro l' l0 l1
  obtain ⟨b1, b2⟩ := hb l' l0 l1
  rw [ng 0 (by decide) (by decide) (by decide) (by decide), ng 102 (by decide) (by decide) (by decide) (by decide), ng 10 (by decide) (by decide) (by decide) (by decide)]
  refine ⟨fun q => ?_, fun q => ?_⟩
  · obtain ⟨b3, b4, b5⟩ := b1 q
    refine ⟨b3, b4, fun j j0 j1 => ?_⟩
    rw [n2, n3, n4]
    by_cases q2 : l' = l ∧ j = f
    · rw [if_pos q2, if_pos q2, if_pos q2, q2.1, q2.2, n1v]
      exact he
    · rw [if_neg q2, if_neg q2, if_neg q2, n1 _ (by omega)]
      exact b5 j j0 j1
  · obtain ⟨b3, b4⟩ := b2 q
    refine ⟨b3, fun j j0 j1 => ?_⟩
    rw [n1 _ (by omega)]
    exact b4 j j0 j1
/-- a layer's state changes, from open or sealed up; the law's spare place too -/
theorem RW_ls (h : RW μ t) (ht : t + 1 ≤ 100) (hk : ∀ q, q ≠ 10 → q ≠ 102 → ν q = μ q) (h10 : ∀ l j, j ≠ 1 → ν 10 l j = μ 10 l j) (h1 : ∀ l, 0 ≤ l → l < μ 0 0 10 → ν 102 0 l = ν 10 l 1 ∧ (0 ≤ ν 10 l 1 ∧ ν 10 l 1 ≤ 2) ∧ (1 ≤ μ 10 l 1 → 1 ≤ ν 10 l 1)) (h2 : ∀ l, μ 0 0 10 ≤ l → l < 6 → ν 102 0 l = μ 102 0 l) : RW ν (t + 1) := by
  have hb := h.2.2.1
  refine RW_lyr h ht (fun q h1 _ _ _ _ h6 => hk q h1 h6) ?_ (fun l l0 l1 q => (h1 l l0 l1).2.2 q) (fun i i0 i1 j j0 j1 => by rw [lfv_congr (by rw [hk 101 (by decide) (by decide)]) (by rw [hk 103 (by decide) (by decide)])])
  intro l l0 l1
  obtain ⟨b1, b2⟩ := hb l l0 l1
  rw [hk 0 (by decide) (by decide), hk 101 (by decide) (by decide), hk 12 (by decide) (by decide), hk 13 (by decide) (by decide), hk 14 (by decide) (by decide)]
  refine ⟨fun q => ?_, fun q => ?_⟩
  · obtain ⟨b3, b4, b5⟩ := b1 q
    obtain ⟨c1, c2, -⟩ := h1 l l0 q
    exact ⟨c1, c2, b5⟩
  · rw [h2 l q l1]
    exact b2 q
end ZPK
