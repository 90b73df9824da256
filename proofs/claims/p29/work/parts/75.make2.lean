/-! ===== the law: isImage, what the class answers ===== -/
def IMC (ν : ZU) (t n m : Int) (q : Int → Int) : Prop := RW ν t ∧ (0 ≤ n ∧ n < ν 0 0 115) ∧ (1 ≤ m ∧ m ≤ 3) ∧ (∀ j, 0 ≤ j → j < 3 → ν 115 n j = q j) ∧ (∀ j, 0 ≤ j → j < m → 1 ≤ q j ∧ q j ≤ 7) ∧ ∀ j, m ≤ j → j < 3 → q j = 0
abbrev yq (q : Int → Int) : Int64 := Int64.ofInt (q 0 + 256 * q 1 + 65536 * q 2)
section ZPF1
variable {ck sk : Nat} {Q : ZO → ZH → Prop} {q : Int → Int} {μ ν κ M Φ : ZU} {a b c d e f g i j k l m n o p r s t t' v w x z D R S T : Int} {y : Int64} {u u1 u2 u3 u4 u5 u6 u7 u8 u9 u10 u11 u12 : ZV}
theorem IMC_y (h : IMC ν t n m q) : yrw (yq q) m q := yrw_of h.2.2.1 h.2.2.2.2.1 h.2.2.2.2.2
theorem IMC_k (h : IMC ν t n m q) : kall (yq q) (ν 2 0 6) 6 ↔ ∀ j, 0 ≤ j → j < m → q j ≤ ν 0 0 10 := by
  rw [h.1.2.1.1.2.1]
  exact yrw_kall (IMC_y h)
theorem d5x (h : IMC ν t n m q) (ht : ¬ ∀ j, 0 ≤ j → j < m → q j ≤ ν 0 0 10) : G 92 0 [zR 2 0, zI 5, zI (q 0), zI (q 1), zI (q 2), zI 0, u] [] (HM ν) 13 406 Q ↔ Q (.inl (some (zI (-2000)))) (HM ν) := by
  rw [w92_5, c49_1 (fun z => ht ((IMC_k h).mp z)), x92_5_0]
theorem IMC_M (h : IMC ν t n m q) (ht : ∀ j, 0 ≤ j → j < m → q j ≤ ν 0 0 10) : RW (m49 (yq q) ν) t ∧ m49 (yq q) ν 0 1 (ν 0 0 26) = m ∧ (∀ j, 0 ≤ j → j < m → m49 (yq q) ν 26 (ν 0 0 26) j = q j - 1 ∧ 1 ≤ q j ∧ q j ≤ m49 (yq q) ν 0 0 10) ∧ rowOK (m49 (yq q) ν) (ν 0 0 26) ∧ m49 (yq q) ν 0 0 26 = ν 0 0 26 + 1 := by
  have hy := IMC_y h
  have hl := yrw_len hy
  have h26 := h.1.2.1.2.2.2.2.2.1
  have e1 : m49 (yq q) ν 0 1 (ν 0 0 26) = m := by
    show mRw _ _ _ _ 0 1 _ = m
    rw [mRw_l, hl]
  have e2 : ∀ j, 0 ≤ j → j < m → m49 (yq q) ν 26 (ν 0 0 26) j = q j - 1 ∧ 1 ≤ q j ∧ q j ≤ m49 (yq q) ν 0 0 10 := fun j j0 j1 => by
    have e10 : m49 (yq q) ν 0 0 10 = ν 0 0 10 := mRw_0 (by omega) (by omega)
    have e26 : m49 (yq q) ν 26 (ν 0 0 26) j = kcd (yq q) j - 1 := by
      show mRw _ _ _ _ 26 _ j = _
      rw [mRw_at, if_pos ⟨j0, by rw [hl]; exact j1⟩]
    have hq := hy.2.1 j j0 j1
    have := ht j j0 j1
    rw [e26, e10]
    omega
  have e3 : m49 (yq q) ν 0 0 26 = ν 0 0 26 + 1 := mRw_n
  have hm := h.2.2.1
  refine ⟨RW_rw h.1, e1, e2, ⟨by omega, by omega, fun j j0 j1 => ?_⟩, e3⟩
  have := e2 j j0 (by omega)
  omega
theorem IMC_s (h : IMC ν t n m q) (ht : ∀ j, 0 ≤ j → j < m → q j ≤ ν 0 0 10) : sl49 (yq q) ν = true ↔ ∀ j, 0 ≤ j → j < m → ν 102 0 (q j - 1) = 1 := by
  obtain ⟨m1, m2, m3, m4, m5⟩ := IMC_M h ht
  unfold sl49
  rw [m2]
  have e10 : m49 (yq q) ν 10 = ν 10 := mRw_g (by decide) (by decide)
  have hb : ∀ j, 0 ≤ j → j < m → ν 102 0 (q j - 1) = ν 10 (q j - 1) 1 := fun j j0 j1 => by
    have := m3 j j0 j1
    have := ht j j0 j1
    have h6 := h.1.2.1.1
    exact ((h.1.2.2.1 (q j - 1) (by omega) (by omega)).1 (by omega)).1
  constructor
  · intro z j j0 j1
    have e := of_decide_eq_true (zall_iff.mp z j j0 (by omega))
    rw [(m3 j j0 j1).1, e10] at e
    rw [hb j j0 j1]
    exact e
  · intro z
    refine zall_iff.mpr fun j j0 j1 => decide_eq_true ?_
    have j1 : j < m := by omega
    rw [(m3 j j0 j1).1, e10, ← hb j j0 j1]
    exact z j j0 j1
theorem d5s (h : IMC ν t n m q) (ht : ∀ j, 0 ≤ j → j < m → q j ≤ ν 0 0 10) (hs : ¬ ∀ j, 0 ≤ j → j < m → ν 102 0 (q j - 1) = 1) (hQ : Q (.inl (some (zI (-1000)))) (HM (m49 (yq q) ν))) : G 92 0 [zR 2 0, zI 5, zI (q 0), zI (q 1), zI (q 2), zI 0, u] [] (HM ν) 13 406 Q := by
  obtain ⟨m1, m2, m3, m4, m5⟩ := IMC_M h ht
  have h6 := h.1.2.1.1
  rw [w92_5]
  refine c49_2 ((IMC_k h).mpr ht) h.1.2.1.2.2.2.2.2.1 (by omega) m4 (fun z => hs ((IMC_s h ht).mp z)) ?_
  rw [x92_5_2]
  exact hQ
theorem IMC_l (h : IMC ν t n m q) (ht : ∀ j, 0 ≤ j → j < m → q j ≤ ν 0 0 10) : zdn (lkp ν n) (ν 0 0 20).toNat (-1) = zff (hap (m49 (yq q) ν) (ν 0 0 26)) 12 0 := by
  obtain ⟨m1, m2, m3, m4, m5⟩ := IMC_M h ht
  have e20 : m49 (yq q) ν 0 0 20 = ν 0 0 20 := mRw_0 (by omega) (by omega)
  have e := like_eq (ν := ν) (n := n) m1 m2 h.2.2.1 m3 (mRw_g (by decide) (by decide)).symm (mRw_g (by decide) (by decide)).symm (fun j j0 j1 => by
    rw [h.2.2.2.1 j j0 j1]
    by_cases hj : j < m
    · rw [if_pos hj]
    · rw [if_neg hj]
      exact h.2.2.2.2.2 j (by omega) j1)
  rw [e20] at e
  exact e
theorem IMC_p (h : IMC ν t n m q) (ht : ∀ j, 0 ≤ j → j < m → q j ≤ ν 0 0 10) (hp : zdn (lkp ν n) (ν 0 0 20).toNat (-1) = p) : p = -1 ∨ (0 ≤ p ∧ p < ν 0 0 20) := by
  rw [IMC_l h ht] at hp
  rcases zff_b (p := hap (m49 (yq q) ν) (ν 0 0 26)) 12 0 with z | ⟨z1, z2, z3⟩
  · left
    omega
  · right
    have e20 : m49 (yq q) ν 0 0 20 = ν 0 0 20 := mRw_0 (by omega) (by omega)
    have := (of_decide_eq_true z3).1
    omega
theorem d5f (h : IMC ν t n m q) (ht : ∀ j, 0 ≤ j → j < m → q j ≤ ν 0 0 10) (hs : ∀ j, 0 ≤ j → j < m → ν 102 0 (q j - 1) = 1) (hp : zdn (lkp ν n) (ν 0 0 20).toNat (-1) = p) (hp1 : ¬ p = -1) (hQ : Q (.inl (some (zI p))) (HM (mu (m49 (yq q) ν) 20 p 3 (ν 20 p 3 + 1)))) : G 92 0 [zR 2 0, zI 5, zI (q 0), zI (q 1), zI (q 2), zI 0, u] [] (HM ν) 13 406 Q := by
  obtain ⟨m1, m2, m3, m4, m5⟩ := IMC_M h ht
  have h6 := h.1.2.1.1
  have ht0 := h.1.1
  have hpb := IMC_p h ht hp
  have hl := IMC_l h ht
  rw [hp] at hl
  rw [w92_5]
  refine c49_3 ((IMC_k h).mpr ht) h.1.2.1.2.2.2.2.2.1 (by omega) m4 m1.imgOK ((IMC_s h ht).mpr hs) (by rw [← hl]; exact hp1) (fun i i0 i1 => ?_) ?_
  · have := (h.1.2.2.2.1.1 i i0 i1).1
    omega
  · rw [← hl, v92_5, (h.1.2.2.2.1.1 p (by omega) (by omega)).2.1]
    exact hQ
theorem d5n (h : IMC ν t n m q) (ht : ∀ j, 0 ≤ j → j < m → q j ≤ ν 0 0 10) (hs : ∀ j, 0 ≤ j → j < m → ν 102 0 (q j - 1) = 1) (hp : zdn (lkp ν n) (ν 0 0 20).toNat (-1) = -1) (hn : ¬ ν 0 0 20 < 12) (hQ : Q (.inl (some (zI (-1000)))) (HM (m49 (yq q) ν))) : G 92 0 [zR 2 0, zI 5, zI (q 0), zI (q 1), zI (q 2), zI 0, u] [] (HM ν) 13 406 Q := by
  obtain ⟨m1, m2, m3, m4, m5⟩ := IMC_M h ht
  have h6 := h.1.2.1.1
  have h20 := h.1.2.1.2.1
  have hl := IMC_l h ht
  rw [hp] at hl
  rw [w92_5]
  refine c49_4 ((IMC_k h).mpr ht) h.1.2.1.2.2.2.2.2.1 (by omega) m4 m1.imgOK ((IMC_s h ht).mpr hs) hl.symm (by omega) ?_
  rw [x92_5_2]
  exact hQ
/-- a new image in the class's memory -/
def mNi (q : Int → Int) (ν : ZU) : ZU := mIm (ν 0 0 20) (ν 0 0 26) (stk (m49 (yq q) ν) (ν 0 0 26) (m49 (yq q) ν 0 1 (ν 0 0 26)).toNat 0 z30) (mu (m49 (yq q) ν) 2 0 7 (ν 0 0 20 + 1))
theorem d5m (h : IMC ν t n m q) (ht : ∀ j, 0 ≤ j → j < m → q j ≤ ν 0 0 10) (hs : ∀ j, 0 ≤ j → j < m → ν 102 0 (q j - 1) = 1) (hp : zdn (lkp ν n) (ν 0 0 20).toNat (-1) = -1) (hn : ν 0 0 20 < 12) (hQ : Q (.inl (some (zI (ν 0 0 20)))) (HM (mNi q ν))) : G 92 0 [zR 2 0, zI 5, zI (q 0), zI (q 1), zI (q 2), zI 0, u] [] (HM ν) 13 406 Q := by
  obtain ⟨m1, m2, m3, m4, m5⟩ := IMC_M h ht
  have h6 := h.1.2.1.1
  have h20 := h.1.2.1.2.1
  have hl := IMC_l h ht
  rw [hp] at hl
  rw [w92_5]
  refine c49_5 (n := ν 0 0 20) ((IMC_k h).mpr ht) h.1.2.1.2.2.2.2.2.1 (by omega) m4 m1.imgOK ((IMC_s h ht).mpr hs) hl.symm (by omega) rfl (by omega) hn ?_
  rw [v92_5]
  exact hQ
/-- the law's rows beside it -/
def mNj (q : Int → Int) (ν : ZU) : ZU := mu (mu (mu (mu (mu (mNi q ν) 103 0 (4 * ν 0 0 20) 1) 103 0 (4 * ν 0 0 20 + 1) (q 0)) 103 0 (4 * ν 0 0 20 + 1 + 1) (q 1)) 103 0 (4 * ν 0 0 20 + 1 + 2) (q 2)) 106 0 1 (ν 0 0 20 + 1)
theorem RW_ni (h : IMC ν t n m q) (ht : ∀ j, 0 ≤ j → j < m → q j ≤ ν 0 0 10) (hs : ∀ j, 0 ≤ j → j < m → ν 102 0 (q j - 1) = 1) (hn : ν 0 0 20 < 12) (ht2 : t + 1 ≤ 100) : RW (mNj q ν) (t + 1) := by
  obtain ⟨m1, m2, m3, m4, m5⟩ := IMC_M h ht
  have h6 := h.1.2.1.1
  have h20 := h.1.2.1.2.1
  have h26 := h.1.2.1.2.2.2.2.2.1
  have hm := h.2.2.1
  have hq := h.2.2.2.2.1
  have hz := h.2.2.2.2.2
  have e20 : m49 (yq q) ν 0 0 20 = ν 0 0 20 := mRw_0 (by omega) (by omega)
  have e10 : m49 (yq q) ν 10 = ν 10 := mRw_g (by decide) (by decide)
  have e010 : m49 (yq q) ν 0 0 10 = ν 0 0 10 := mRw_0 (by omega) (by omega)
  have g1 : ∀ x : Nat, x ≠ 103 → x ≠ 106 → mNj q ν x = mNi q ν x := fun x a b => by
    unfold mNj
    rw [mu_g b, mu_g a, mu_g a, mu_g a, mu_g a]
  have g2 : ∀ x : Nat, x ≠ 0 → x ≠ 2 → ¬ (20 ≤ x ∧ x ≤ 24) → mNi q ν x = m49 (yq q) ν x := fun x a b c => by
    unfold mNi
    rw [mIm_g a c, mu_g b]
  have n106 : mNj q ν 106 = mu (m49 (yq q) ν) 106 0 1 (ν 0 0 20 + 1) 106 := by
    funext i j
    unfold mNj
    by_cases z : i = 0 ∧ j = 1
    · obtain ⟨rfl, rfl⟩ := z
      rw [mu_at, mu_at]
    · by_cases z1 : i = 0
      · rw [z1, mu_j (fun w => z ⟨z1, w⟩), mu_j (fun w => z ⟨z1, w⟩), mu_g (by decide), mu_g (by decide), mu_g (by decide), mu_g (by decide), g2 106 (by decide) (by decide) (by decide)]
      · rw [mu_i z1, mu_i z1, mu_i z1, mu_i z1, mu_i z1, mu_i z1, g2 106 (by decide) (by decide) (by decide)]
  refine RW_im (M := m49 (yq q) ν) (n := ν 0 0 20) (r := ν 0 0 26) m1 ht2 e20 hn (by omega) (by omega) (fun k k0 k1 => ?_) (fun p j hj => ?_) ?_ ?_ (fun j hj => ?_) ?_ (fun j hj => ?_) (fun x x0 x2 x20 x3 x6 => ?_) (fun x x0 x1 p hp => ?_) ⟨?_, ?_, ?_⟩ (fun j => ?_) ?_ (fun k k0 k1 => ?_) (fun x hx => ?_)
  · have a := m3 k k0 (by omega)
    have b := hs k k0 (by omega)
    rw [a.1, e10, ← ((h.1.2.2.1 (q k - 1) (by omega) (by omega)).1 (by omega)).1]
    exact ⟨by omega, b⟩
  · rw [g1 0 (by decide) (by decide)]
    unfold mNi
    rw [mIm_0 hj, mu_g (by decide)]
  · rw [g1 0 (by decide) (by decide)]
    exact mIm_n
  · rw [g1 2 (by decide) (by decide)]
    unfold mNi
    rw [mIm_g (by decide) (by decide), mu_at]
  · rw [g1 2 (by decide) (by decide)]
    unfold mNi
    rw [mIm_g (by decide) (by decide), mu_j hj]
  · rw [n106, mu_at]
  · rw [n106, mu_j hj]
  · rw [g1 x x3 x6, g2 x x0 x2 x20]
  · rw [g1 x (by omega) (by omega)]
    unfold mNi
    rw [mIm_o (by omega) hp, mu_g (by omega)]
  · rw [g1 20 (by decide) (by decide)]
    unfold mNi
    rw [mIm_20]
    rfl
  · rw [g1 20 (by decide) (by decide)]
    unfold mNi
    rw [mIm_20]
    rfl
  · rw [g1 20 (by decide) (by decide)]
    unfold mNi
    rw [mIm_20]
    rfl
  · rw [g1 22 (by decide) (by decide), g1 23 (by decide) (by decide), g1 24 (by decide) (by decide)]
    unfold mNi
    exact mIm_22
  · unfold mNj
    rw [mu_g (by decide), mu_j (by omega), mu_j (by omega), mu_j (by omega), mu_at]
  · have e : mNj q ν 103 0 (4 * ν 0 0 20 + 1 + k) = q k := by
      unfold mNj
      have hk : k = 0 ∨ k = 1 ∨ k = 2 := by omega
      rcases hk with rfl | rfl | rfl
      · rw [Int.add_zero, mu_g (by decide), mu_j (by omega), mu_j (by omega), mu_at]
      · rw [mu_g (by decide), mu_j (by omega), mu_at]
      · rw [mu_g (by decide), mu_at]
    rw [e, m2]
    by_cases hk : k < m
    · rw [if_pos hk, (m3 k k0 hk).1]
      omega
    · rw [if_neg hk]
      exact hz k (by omega) k1
  · unfold mNj
    rw [mu_g (by decide), mu_j (by omega), mu_j (by omega), mu_j (by omega), mu_j (by omega), g2 103 (by decide) (by decide) (by decide)]
end ZPF1
