/-! ===== the two sides' tellings are one ===== -/
section ZEQ
variable {L t s v a b c d i j k x w e : Int} {p q : Int → Bool} {μ ν κ : ZU}
theorem zall_eq {n : Nat} (h : ∀ j, i ≤ j → j < i + n → p j = q j) : zall p n i = zall q n i := by
  rw [Bool.eq_iff_iff, zall_iff, zall_iff]
  exact ⟨fun z j j0 j1 => by rw [← h j j0 j1]; exact z j j0 j1, fun z j j0 j1 => by rw [h j j0 j1]; exact z j j0 j1⟩
theorem zff_s {n : Nat} : zff p (n + 1) i = if p i = true then i else zff p n (i + 1) := rfl
theorem zff_snoc : ∀ (n : Nat) (i : Int), 0 ≤ i → zff p (n + 1) i = if zff p n i = -1 then (if p (i + n) = true then i + n else -1) else zff p n i
  | 0, i, hi => by
    have e : i + ((0 : Nat) : Int) = i := by omega
    rw [zff_s, e]
    show (if p i = true then i else -1) = if (-1 : Int) = -1 then _ else _
    rw [if_pos rfl]
  | n + 1, i, hi => by
    have e : i + 1 + (n : Int) = i + ((n + 1 : Nat) : Int) := by omega
    rw [zff_s, zff_snoc n (i + 1) (by omega), e, zff_s (n := n)]
    by_cases h : p i = true
    · rw [if_pos h, if_pos h, if_neg (by omega)]
    · rw [if_neg h, if_neg h]
theorem zdn_zff : ∀ (n : Nat) (s : Int), zdn p n s = if zff p n 0 = -1 then s else zff p n 0
  | 0, s => by
    show s = if (-1 : Int) = -1 then s else -1
    rw [if_pos rfl]
  | n + 1, s => by
    have e : (0 : Int) + (n : Int) = n := by omega
    show zdn p n (if p n = true then (n : Int) else s) = _
    rw [zdn_zff n, zff_snoc n 0 (by omega), e]
    by_cases h : zff p n 0 = -1
    · rw [if_pos h, if_pos h]
      by_cases h2 : p n = true
      · rw [if_pos h2, if_pos h2, if_neg (by omega)]
      · rw [if_neg h2, if_neg h2, if_pos rfl]
    · rw [if_neg h, if_neg h, if_neg h]
theorem zff_eq : ∀ (n : Nat) (i : Int), (∀ j, i ≤ j → j < i + n → p j = q j) → zff p n i = zff q n i
  | 0, _, _ => rfl
  | n + 1, i, h => by rw [zff_s, zff_s, h i (by omega) (by omega), zff_eq n (i + 1) fun j j0 j1 => h j (by omega) (by omega)]
theorem zff_cut : ∀ (k m : Nat), (∀ j, (m : Int) ≤ j → j < m + k → p j = false) → zff p (m + k) 0 = zff p m 0
  | 0, _, _ => rfl
  | k + 1, m, h => by
    have e : m + (k + 1) = (m + k) + 1 := by omega
    have e2 : (0 : Int) + ((m + k : Nat) : Int) = m + k := by omega
    rw [e, zff_snoc _ 0 (by omega), zff_cut k m fun j j0 j1 => h j j0 (by omega), e2, h (m + k) (by omega) (by omega)]
    by_cases z : zff p m 0 = -1
    · rw [if_pos z, if_neg (by decide), z]
    · rw [if_neg z]
theorem zct_s {n : Nat} : zct p (n + 1) i s = zct p n (i + 1) (if p i = true then s + 1 else s) := rfl
theorem zct_eq : ∀ (n : Nat) (i s : Int), (∀ j, i ≤ j → j < i + n → p j = q j) → zct p n i s = zct q n i s
  | 0, _, _, _ => rfl
  | n + 1, i, s, h => by rw [zct_s, zct_s, h i (by omega) (by omega), zct_eq n (i + 1) _ fun j j0 j1 => h j (by omega) (by omega)]
theorem zct_0 : ∀ (n : Nat) (i s : Int), (∀ j, i ≤ j → j < i + n → p j = false) → zct p n i s = s
  | 0, _, _, _ => rfl
  | n + 1, i, s, h => by rw [zct_s, h i (by omega) (by omega), if_neg (by decide), zct_0 n (i + 1) s fun j j0 j1 => h j (by omega) (by omega)]
theorem zct_cut {k : Nat} : ∀ (m : Nat) (i s : Int), (∀ j, i + m ≤ j → j < i + m + k → p j = false) → zct p (m + k) i s = zct p m i s
  | 0, i, s, h => by
    have e : 0 + k = k := by omega
    rw [e]
    exact zct_0 k i s fun j j0 j1 => h j (by omega) (by omega)
  | m + 1, i, s, h => by
    have e : m + 1 + k = (m + k) + 1 := by omega
    rw [e, zct_s, zct_s]
    exact zct_cut m (i + 1) _ fun j j0 j1 => h j (by omega) (by omega)
theorem zwh_s {n : Nat} : zwh p (n + 1) i = if p i = true then zwh p n (i + 1) else i := rfl
theorem zwh_all : ∀ (n : Nat) (i j : Int), i ≤ j → j < zwh p n i → p j = true
  | 0, i, j, h1, h2 => by
    have h3 : j < i := h2
    omega
  | n + 1, i, j, h1, h2 => by
    rw [zwh_s] at h2
    by_cases h : p i = true
    · rw [if_pos h] at h2
      by_cases hj : j = i
      · rw [hj]
        exact h
      · exact zwh_all n (i + 1) j (by omega) h2
    · rw [if_neg h] at h2
      omega
theorem zwh_end : ∀ (n : Nat) (i : Int), zwh p n i < i + n → ¬ p (zwh p n i) = true
  | 0, i, h => by
    have h3 : i < i + ((0 : Nat) : Int) := h
    omega
  | n + 1, i, h => by
    rw [zwh_s] at h ⊢
    by_cases h2 : p i = true
    · rw [if_pos h2] at h ⊢
      exact zwh_end n (i + 1) (by omega)
    · rw [if_neg h2]
      exact h2
theorem zwh_is {n : Nat} (h1 : i ≤ e) (h2 : e ≤ i + n) (h3 : ∀ j, i ≤ j → j < e → p j = true) (h4 : e < i + n → ¬ p e = true) : zwh p n i = e := by
  have hg := zwh_ge (p := p) (n := n) (i := i)
  by_cases h5 : zwh p n i < e
  · exact absurd (h3 _ hg.1 h5) (zwh_end n i (by omega))
  · by_cases h6 : e < zwh p n i
    · exact absurd (zwh_all n i e h1 h6) (h4 (by omega))
    · omega
/-! layers -/
theorem z1023 (h0 : 0 ≤ i) (h1 : i < 10) : ¬ zand (zshr 1023 i) 1 = 0 := by
  have : i = 0 ∨ i = 1 ∨ i = 2 ∨ i = 3 ∨ i = 4 ∨ i = 5 ∨ i = 6 ∨ i = 7 ∨ i = 8 ∨ i = 9 := by omega
  rcases this with rfl | rfl | rfl | rfl | rfl | rfl | rfl | rfl | rfl | rfl <;> decide
theorem lal_lar (h : RLa μ) (a0 : 0 ≤ a) (a1 : a < μ 0 0 10) (b0 : 0 ≤ b) (b1 : b < μ 0 0 10) : lal μ a b = lar μ a b := by
  unfold lal lar
  refine zall_eq fun j j0 j1 => ?_
  have j2 : j < 10 := j1
  obtain ⟨x1, x2, x3, -⟩ := (h.2.2.2.1 a a0 a1).2.2 j j0 j2
  obtain ⟨y1, y2, y3, -⟩ := (h.2.2.2.1 b b0 b1).2.2 j j0 j2
  unfold ksm ksr
  rw [x1, x2, x3, y1, y2, y3, decide_eq_decide]
  exact ⟨fun z => z.elim id fun z => absurd z (z1023 j0 j2), Or.inl⟩
theorem slp_sfp (h : RLa μ) (a0 : 0 ≤ a) (a1 : a < μ 0 0 10) : zff (slp μ a) 24 0 = zdn (sfp μ a) (μ 0 0 10).toNat (-1) := by
  obtain ⟨h1, h2, h3, h4, h5⟩ := h
  have e : (24 : Nat) = (μ 0 0 10).toNat + (24 - (μ 0 0 10).toNat) := by omega
  rw [zdn_zff, e, zff_cut]
  · have e2 : zff (slp μ a) (μ 0 0 10).toNat 0 = zff (sfp μ a) (μ 0 0 10).toNat 0 := by
      refine zff_eq _ 0 fun j j0 j1 => ?_
      have j2 : j < μ 0 0 10 := by omega
      unfold slp sfp
      rw [(h4 j j0 j2).1, lal_lar ⟨h1, h2, h3, h4, h5⟩ j0 j2 a0 a1, decide_eq_decide]
      exact ⟨fun z => z.2, fun z => ⟨j2, z⟩⟩
    rw [e2]
    split
    · assumption
    · rfl
  · intro j j0 j1
    unfold slp
    exact decide_eq_false fun z => by have := z.1; omega
theorem hds_hrs (h : RLb t μ) (a0 : 0 ≤ a) : hds μ a = hrs μ a := by
  obtain ⟨h1, h2, h3, h4, h5, h6⟩ := h
  unfold hds hrs
  rw [h3]
  have e : (12 : Nat) = (μ 0 0 20).toNat + (12 - (μ 0 0 20).toNat) := by omega
  rw [e, zct_cut]
  · refine zct_eq _ 0 0 fun j j0 j1 => ?_
    have j2 : j < μ 0 0 20 := by omega
    obtain ⟨b1, b2, b3, b4, b5, b6, b7⟩ := h5 j j0 j2
    unfold hdp hdr
    have e2 : zall (fun k => decide (¬ μ 26 (μ 20 j 1) k = a)) (μ 0 1 (μ 20 j 1)).toNat 0 = zall (fun k => decide (¬ μ 109 0 (6 * j + k) = a)) (μ 108 0 j).toNat 0 := by
      rw [b2]
      refine zall_eq fun k k0 k1 => ?_
      show decide _ = decide _
      rw [(b4 k k0 (by omega)).1]
    rw [b5, e2, decide_eq_decide]
    exact ⟨fun z => z.2, fun z => ⟨j2, z⟩⟩
  · intro j j0 j1
    unfold hdp
    exact decide_eq_false fun z => by have := z.1; omega
theorem hrs_c (h1 : ν 100 0 5 = μ 100 0 5) (h2 : ν 107 = μ 107) (h3 : ν 108 = μ 108) (h4 : ν 109 = μ 109) : hrs ν a = hrs μ a := by
  unfold hrs hdr
  rw [h1, h2, h3, h4]
theorem hds_c (h1 : ν 0 = μ 0) (h2 : ν 20 = μ 20) (h3 : ν 26 = μ 26) : hds ν a = hds μ a := by
  unfold hds hdp
  rw [h1, h2, h3]
theorem lgN_s {r s : Int} {n : Nat} : lgN r (n + 1) k s μ = if μ 10 (μ 26 r k) 1 = 1 ∧ hds μ (μ 26 r k) = 0 then lgN r n (k + 1) (s + 1) (mu μ 10 (μ 26 r k) 1 2) else lgN r n (k + 1) s μ := rfl
theorem rgN_s {n : Nat} : rgN i (n + 1) k s μ = if μ 102 0 (μ 109 0 (6 * i + k)) = 1 ∧ hrs μ (μ 109 0 (6 * i + k)) = 0 then rgN i n (k + 1) (s + 1) (mu μ 102 0 (μ 109 0 (6 * i + k)) 2) else rgN i n (k + 1) s μ := rfl
theorem lgN_k {r : Int} {k' : Nat} (h : k' ≠ 10) : ∀ (n : Nat) (k s : Int) (μ : ZU), (lgN r n k s μ).1 k' = μ k'
  | 0, _, _, _ => rfl
  | n + 1, k, s, μ => by
    rw [lgN_s]
    split
    · rw [lgN_k h n, mu_g h]
    · exact lgN_k h n _ _ _
theorem lgN_j {r j : Int} (h : j ≠ 1) : ∀ (n : Nat) (k s : Int) (μ : ZU), (lgN r n k s μ).1 10 a j = μ 10 a j
  | 0, _, _, _ => rfl
  | n + 1, k, s, μ => by
    rw [lgN_s]
    split
    · rw [lgN_j h n, mu_j h]
    · exact lgN_j h n _ _ _
theorem rgN_k {k' : Nat} (h : k' ≠ 102) : ∀ (n : Nat) (k s : Int) (μ : ZU), (rgN i n k s μ).1 k' = μ k'
  | 0, _, _, _ => rfl
  | n + 1, k, s, μ => by
    rw [rgN_s]
    split
    · rw [rgN_k h n, mu_g h]
    · exact rgN_k h n _ _ _
theorem lg_rg {r c : Int} : ∀ (n : Nat) (k s : Int) (μ κ : ZU), 0 ≤ k → (∀ k', 0 ≤ k' → k' < k + n → μ 26 r k' = κ 109 0 (6 * i + k') ∧ 0 ≤ μ 26 r k' ∧ μ 26 r k' < c) → (∀ a, 0 ≤ a → a < c → hds μ a = hrs κ a) → (∀ a, 0 ≤ a → a < c → κ 102 0 a = μ 10 a 1 ∧ 0 ≤ μ 10 a 1 ∧ μ 10 a 1 ≤ 2) →
    (lgN r n k s μ).2 = (rgN i n k s κ).2 ∧ (∀ a, 0 ≤ a → a < c → (rgN i n k s κ).1 102 0 a = (lgN r n k s μ).1 10 a 1 ∧ 0 ≤ (lgN r n k s μ).1 10 a 1 ∧ (lgN r n k s μ).1 10 a 1 ≤ 2) ∧ ∀ a, c ≤ a → (rgN i n k s κ).1 102 0 a = κ 102 0 a
  | 0, k, s, μ, κ, _, _, _, ha => ⟨rfl, ha, fun _ _ => rfl⟩
  | n + 1, k, s, μ, κ, hk, hm, hh, ha => by
    obtain ⟨m1, m2, m3⟩ := hm k hk (by omega)
    obtain ⟨s1, s2, s3⟩ := ha _ m2 m3
    have hm' : ∀ k', 0 ≤ k' → k' < k + 1 + (n : Int) → μ 26 r k' = κ 109 0 (6 * i + k') ∧ 0 ≤ μ 26 r k' ∧ μ 26 r k' < c := fun k' h0 h1 => hm k' h0 (by omega)
    rw [lgN_s, rgN_s, ← m1, s1, ← hh _ m2 m3]
    by_cases h : μ 10 (μ 26 r k) 1 = 1 ∧ hds μ (μ 26 r k) = 0
    · rw [if_pos h, if_pos h]
      have := lg_rg n (k + 1) (s + 1) (mu μ 10 (μ 26 r k) 1 2) (mu κ 102 0 (μ 26 r k) 2) (by omega) (fun k' h0 h1 => by rw [mu_g (by decide), mu_g (by decide)]; exact hm' k' h0 h1) (fun a a0 a1 => by rw [hds_c (ν := mu μ 10 (μ 26 r k) 1 2) (μ := μ) (mu_g (by decide)) (mu_g (by decide)) (mu_g (by decide)), hrs_c (ν := mu κ 102 0 (μ 26 r k) 2) (μ := κ) (by rw [mu_g (by decide)]) (mu_g (by decide)) (mu_g (by decide)) (mu_g (by decide))]; exact hh a a0 a1) (fun a a0 a1 => by
        by_cases he : a = μ 26 r k
        · rw [he, mu_at, mu_at]
          exact ⟨rfl, by decide, by decide⟩
        · rw [mu_j he, mu_i he]
          exact ha a a0 a1)
      refine ⟨this.1, this.2.1, fun a hac => ?_⟩
      rw [this.2.2 a hac, mu_j (by omega)]
    · rw [if_neg h, if_neg h]
      exact lg_rg n (k + 1) s μ κ (by omega) hm' hh ha
/-! builds -/
theorem svd_kfp (h : RV L t μ) (b0 : 0 ≤ b) (b1 : b < μ 0 0 41) (d0 : 0 ≤ d) (d1 : d < μ 0 0 30) (i0 : 0 ≤ i) (i1 : i < μ 0 0 20) : svd μ b d i = kfp μ d i b := by
  obtain ⟨h1, h2, h3, h4, h5, h6, h7, h8⟩ := h
  obtain ⟨b2, b3, b4, b5, b6, b7, b8⟩ := h7.2.2.2.2 b b0 b1
  obtain ⟨-, -, -, b9, -⟩ := b8
  have e : zall (ksm μ 22 (μ 41 b 3) i (μ 50 b 5)) 10 0 = zall (ksf μ b i) 10 0 := by
    refine zall_eq fun f f0 f1 => ?_
    have f2 : f < 10 := f1
    obtain ⟨x1, x2, x3⟩ := b7 f f0 f2
    obtain ⟨y1, y2, y3, -⟩ := (h3.2.2.2.2.1 i i0 i1).2.2.2.2.2.2 f f0 f2
    unfold ksm ksf
    rw [x1, x2, x3, b9.2.2.2.2.2, ← y1, ← y2, ← y3, decide_eq_decide]
    exact ⟨fun z => z.elim (fun z => Or.inr ⟨z.1.symm, z.2.1.symm, z.2.2.symm⟩) Or.inl, fun z => z.elim Or.inr fun z => Or.inl ⟨z.1.symm, z.2.1.symm, z.2.2.symm⟩⟩
  unfold svd kfp
  rw [b4, b3, (h4.2.2.2.1 d d0 d1).2.2.1, e]
theorem rkb_zff (h : RV L t μ) : rkb μ d i = zff (kfp μ d i) (μ 0 0 41).toNat 0 := by
  unfold rkb
  rw [h.2.2.2.2.2.2.1.2.2.1, zdn_zff]
  split
  · rename_i z
    exact z.symm
  · rfl
theorem zff_is : ∀ (n : Nat) (i : Int), (zff p n i = -1 ∧ ∀ j, i ≤ j → j < i + n → ¬ p j = true) ∨ (i ≤ zff p n i ∧ zff p n i < i + n ∧ p (zff p n i) = true ∧ ∀ j, i ≤ j → j < zff p n i → ¬ p j = true)
  | 0, i => Or.inl ⟨rfl, fun j j0 j1 => absurd j1 (by omega)⟩
  | n + 1, i => by
    rw [zff_s]
    by_cases h : p i = true
    · rw [if_pos h]
      exact Or.inr ⟨by omega, by omega, h, fun j j0 j1 => absurd j1 (by omega)⟩
    · rw [if_neg h]
      have hj : ∀ j, i ≤ j → ¬ i + 1 ≤ j → ¬ p j = true := fun j h1 h2 => by
        have e : j = i := by omega
        rw [e]
        exact h
      rcases zff_is n (i + 1) with ⟨z1, z2⟩ | ⟨z1, z2, z3, z4⟩
      · exact Or.inl ⟨z1, fun j j0 j1 => by
          by_cases h2 : i + 1 ≤ j
          · exact z2 j h2 (by omega)
          · exact hj j j0 h2⟩
      · exact Or.inr ⟨by omega, by omega, z3, fun j j0 j1 => by
          by_cases h2 : i + 1 ≤ j
          · exact z4 j h2 j1
          · exact hj j j0 h2⟩
theorem kbi_rkb (h : RV L t μ) (d0 : 0 ≤ d) (d1 : d < μ 0 0 30) (i0 : 0 ≤ i) (i1 : i < μ 0 0 20) : rkb μ d i = if kbi μ d i = -1 then -1 else μ 40 (kbi μ d i) 4 := by
  rw [rkb_zff h]
  have hh := h
  obtain ⟨h1, h2, h3, h4, h5, ⟨⟨e0, e0'⟩, e1, e2, e3, e4⟩, h7, h8⟩ := h
  have hn := h7.1
  have hk : ∀ j, 0 ≤ j → j < μ 0 0 40 → 0 ≤ μ 40 j 4 → (kbp μ d i j = true ↔ kfp μ d i (μ 40 j 4) = true) := fun j j0 j1 jb => by
    have hb : μ 40 j 4 < μ 0 0 41 := by
      have := (e3 j j0 j1).2.2.1
      omega
    rw [← svd_kfp hh jb hb d0 d1 i0 i1]
    unfold kbp
    rw [decide_eq_true_iff]
    exact ⟨fun z => z.2.2, fun z => ⟨j1, by omega, z⟩⟩
  unfold kbi
  rcases zff_is (p := kbp μ d i) 40 0 with ⟨z1, z2⟩ | ⟨z1, z2, z3, z4⟩
  · rw [if_pos z1]
    rcases zff_is (p := kfp μ d i) (μ 0 0 41).toNat 0 with ⟨y1, -⟩ | ⟨y1, y2, y3, -⟩
    · exact y1
    · obtain ⟨j, j0, j1, j2⟩ := e4 _ y1 (by omega)
      have := (hk j j0 j1 (by omega)).mpr (by rw [j2]; exact y3)
      exact absurd this (z2 j j0 (by omega))
  · generalize zff (kbp μ d i) 40 0 = j at *
    rw [if_neg (by omega)]
    have zz : j < μ 0 0 40 ∧ ¬ μ 40 j 4 < 0 ∧ svd μ (μ 40 j 4) d i = true := by
      have := z3
      unfold kbp at this
      exact of_decide_eq_true this
    have q1 := (hk j z1 zz.1 (by omega)).mp z3
    obtain ⟨-, -, q2, -, -, -, -, -, q3⟩ := e3 j z1 zz.1
    have lo : ∀ b, 0 ≤ b → b < μ 40 j 4 → ¬ kfp μ d i b = true := fun b b0 b1 hb => by
      obtain ⟨j', j0, j1, j2⟩ := q3 b b0 b1
      exact z4 j' j0 j1 ((hk j' j0 (by omega) (by omega)).mpr (by rw [j2]; exact hb))
    rcases zff_is (p := kfp μ d i) (μ 0 0 41).toNat 0 with ⟨y1, y2⟩ | ⟨y1, y2, y3, y4⟩
    · exact absurd q1 (y2 _ (by omega) (by omega))
    · have w1 : ¬ zff (kfp μ d i) (μ 0 0 41).toNat 0 < μ 40 j 4 := fun z => lo _ y1 z y3
      have w2 : ¬ μ 40 j 4 < zff (kfp μ d i) (μ 0 0 41).toNat 0 := fun z => y4 _ (by omega) z q1
      omega
/-! differences -/
theorem bgn_is (h : shOK μ b) (v : Int) : bgn μ b v = zwh (fun l => decide (μ 56 b l < v)) (μ 50 b 1).toNat 0 := by
  obtain ⟨h1, h2, h3, h4, h5, h6, h7⟩ := h
  unfold bgn
  rw [h4.2.1]
  have hg := zwh_ge (p := fun l => decide (μ 56 b l < v)) (n := (μ 50 b 1).toNat) (i := 0)
  have hp : ∀ l, 0 ≤ l → l < μ 50 b 1 → bgp μ b v l = decide (μ 56 b l < v) := fun l l0 l1 => by
    have := (h5 l l0 l1).2.2.2.2
    have e : 300 * b + 240 + l = 300 * b + 60 * 4 + l := by omega
    unfold bgp
    rw [e, this]
  refine zwh_is hg.1 hg.2 (fun j j0 j1 => ?_) (fun hlt => ?_)
  · rw [hp j j0 (by omega)]
    exact zwh_all _ _ j j0 j1
  · rw [hp _ hg.1 (by omega)]
    exact zwh_end _ _ hlt
theorem bgn_f (h : shOK μ b) (v : Int) : (0 ≤ bgn μ b v ∧ bgn μ b v ≤ μ 50 b 1) ∧ (∀ l, 0 ≤ l → l < bgn μ b v → μ 56 b l < v) ∧ (bgn μ b v < μ 50 b 1 → v ≤ μ 56 b (bgn μ b v)) := by
  have e := bgn_is h v
  have hg := zwh_ge (p := fun l => decide (μ 56 b l < v)) (n := (μ 50 b 1).toNat) (i := 0)
  have h2 := h.2.1
  rw [← e] at hg
  refine ⟨⟨hg.1, by omega⟩, fun l l0 l1 => ?_, fun hl => ?_⟩
  · rw [e] at l1
    exact of_decide_eq_true (zwh_all (p := fun l => decide (μ 56 b l < v)) _ _ l l0 l1)
  · have := zwh_end (p := fun l => decide (μ 56 b l < v)) (μ 50 b 1).toNat 0 (by rw [← e]; omega)
    rw [← e] at this
    have := of_decide_eq_false (eq_false_of_ne_true this)
    omega
theorem eop_bgn (h : shOK μ b) (v : Int) : eop μ b v (bgn μ b v) = bgn μ b (v + 1) := by
  obtain ⟨⟨a1, a1'⟩, a2, a3⟩ := bgn_f h v
  obtain ⟨⟨b1, b1'⟩, b2, b3⟩ := bgn_f h (v + 1)
  have hm := h.2.2.2.2.2.2
  have hle : bgn μ b v ≤ bgn μ b (v + 1) := by
    by_cases hlt : bgn μ b (v + 1) < bgn μ b v
    · have x1 := a2 _ b1 hlt
      have x2 := b3 (by omega)
      omega
    · omega
  unfold eop
  refine zwh_is hle (by omega) (fun j j0 j1 => ?_) (fun hlt => ?_)
  · have x1 := b2 j (by omega) j1
    have x2 := hm _ _ a1 j0 (by omega)
    have x3 := a3 (by omega)
    exact decide_eq_true (by omega)
  · have x1 := b3 (by omega)
    intro z
    have := of_decide_eq_true z
    omega
theorem bgn_0 (h : shOK μ b) : bgn μ b 0 = 0 := by
  obtain ⟨⟨a1, a1'⟩, a2, a3⟩ := bgn_f h 0
  by_cases hz : 0 < bgn μ b 0
  · have x1 := a2 0 (by omega) hz
    have x2 := h.2.2.2.2.2.2 0 0 (by omega) (by omega) (by omega)
    omega
  · omega
theorem smd_sam (h : shOK μ b) (h' : shOK μ c) (v : Int) : smd μ b (bgn μ b v) (bgn μ b (v + 1)) c (bgn μ c v) (bgn μ c (v + 1)) = sam μ b c v := by
  obtain ⟨⟨a1, a1'⟩, -⟩ := bgn_f h v
  obtain ⟨⟨b1, b1'⟩, -⟩ := bgn_f h (v + 1)
  obtain ⟨⟨c1, c1'⟩, -⟩ := bgn_f h' v
  obtain ⟨⟨d1, d1'⟩, -⟩ := bgn_f h' (v + 1)
  have hl := h.2.2.2.2.1
  have hl' := h'.2.2.2.2.1
  unfold smd sam
  rw [decide_eq_decide]
  generalize bgn μ b v = x1 at *
  generalize bgn μ b (v + 1) = x2 at *
  generalize bgn μ c v = y1 at *
  generalize bgn μ c (v + 1) = y2 at *
  refine and_congr_right fun he => ?_
  rw [zall_iff, zall_iff]
  have key : ∀ k, 0 ≤ k → k < x2 - x1 → (ksl μ b c (y1 - x1) (x1 + k) = true ↔ eqp μ b c x1 y1 k = true) := fun k k0 k1 => by
    obtain ⟨p1, p2, p3, -⟩ := hl (x1 + k) (by omega) (by omega)
    obtain ⟨q1, q2, q3, -⟩ := hl' (y1 + k) (by omega) (by omega)
    have e1 : y1 - x1 + (x1 + k) = y1 + k := by omega
    have r1 : ∀ w, 300 * b + 60 * w + x1 + k = 300 * b + 60 * w + (x1 + k) := fun w => by omega
    have r2 : ∀ w, 300 * c + 60 * w + y1 + k = 300 * c + 60 * w + (y1 + k) := fun w => by omega
    unfold ksl eqp
    rw [e1, decide_eq_true_iff, zall_iff, ← p1, ← p2, ← p3, ← q1, ← q2, ← q3]
    constructor
    · rintro ⟨z1, z2, z3⟩ w w0 w1
      have : w = 0 ∨ w = 1 ∨ w = 2 := by omega
      unfold eqk
      rw [decide_eq_true_iff, r1, r2]
      rcases this with rfl | rfl | rfl
      · exact z1
      · exact z2
      · exact z3
    · intro z
      have z0 := z 0 (by omega) (by omega)
      have z1 := z 1 (by omega) (by omega)
      have z2 := z 2 (by omega) (by omega)
      unfold eqk at z0 z1 z2
      rw [decide_eq_true_iff, r1, r2] at z0 z1 z2
      exact ⟨z0, z1, z2⟩
  constructor
  · intro z k k0 k1
    exact (key k k0 (by omega)).mp (z (x1 + k) (by omega) (by omega))
  · intro z k k0 k1
    have e : k = x1 + (k - x1) := by omega
    rw [e]
    exact (key (k - x1) (by omega) (by omega)).mpr (z (k - x1) (by omega) (by omega))
theorem puN_rdN (h : shOK μ b) (h' : shOK μ c) : ∀ (n : Nat) (v s : Int), puN μ b c n v (bgn μ b v) (bgn μ c v) s = rdN μ b c n v s
  | 0, _, _ => rfl
  | n + 1, v, s => by
    show puN μ b c n (v + 1) (eop μ b v (bgn μ b v)) (eop μ c v (bgn μ c v)) (if smd μ b (bgn μ b v) (eop μ b v (bgn μ b v)) c (bgn μ c v) (eop μ c v (bgn μ c v)) = true then s else s + 1) = rdN μ b c n (v + 1) (if sam μ b c v = true then s else s + 1)
    rw [eop_bgn h, eop_bgn h', smd_sam h h', puN_rdN h h' n]
theorem pul_rdf (h : shOK μ b) (h' : shOK μ c) : pul μ b c = rdf μ b c := by
  unfold pul rdf
  rw [h.2.2.2.1.2.2.1, h'.2.2.2.1.2.2.1, ← puN_rdN h h', bgn_0 h, bgn_0 h']
/-! what the methods ask for -/
theorem RV_img (h : RV L t μ) : imgOK μ := by
  obtain ⟨h1, h2, h3, h4, h5, h6, h7, h8⟩ := h
  refine ⟨h3.1, fun i i0 i1 => ?_⟩
  obtain ⟨b1, b2, b3, b4, b5, b6, b7⟩ := h3.2.2.2.2.1 i i0 i1
  refine ⟨⟨b1.1, b1.2.1⟩, ⟨by omega, by omega⟩, fun j j0 j1 => ?_⟩
  obtain ⟨c1, c2, c3⟩ := b4 j j0 (by omega)
  rw [c1]
  exact ⟨c2, c3⟩
theorem RV_rim (h : RV L t μ) : rimOK μ := by
  obtain ⟨h1, h2, h3, h4, h5, h6, h7, h8⟩ := h
  have e := h3.2.2.1
  have ha := h2.1
  refine ⟨by rw [e]; exact h3.1, fun i i0 i1 => ?_⟩
  rw [e] at i1
  obtain ⟨b1, b2, b3, b4, b5, b6, b7⟩ := h3.2.2.2.2.1 i i0 i1
  refine ⟨⟨by omega, b3.2⟩, fun k k0 k1 => ?_⟩
  obtain ⟨c1, c2, c3⟩ := b4 k k0 k1
  exact ⟨c2, by omega⟩
theorem RV_job (h : RV L t μ) : jobOK μ := by
  obtain ⟨h1, h2, h3, h4, h5, h6, h7, h8⟩ := h
  refine ⟨h6.1, fun j j0 j1 => ?_⟩
  obtain ⟨b1, b2, b3, -⟩ := h6.2.2.2.1 j j0 j1
  exact ⟨b1, b2, b3⟩
theorem RV_bld (h : RV L t μ) : bldOK μ := by
  obtain ⟨h1, h2, h3, h4, h5, h6, h7, h8⟩ := h
  refine ⟨⟨h7.1.1, h7.1.2, h7.2.2.2.1⟩, fun b b0 b1 => ?_⟩
  obtain ⟨b2, b3, b4, b5, b6, b7, b8⟩ := h7.2.2.2.2 b b0 b1
  exact ⟨b5, b6, b8.1, b8.2.1, b8.2.2.1⟩
theorem RV_doc (h : RV L t μ) : dcOK μ t := by
  obtain ⟨h1, h2, h3, h4, h5, h6, h7, h8⟩ := h
  refine ⟨h4.1, fun d d0 d1 => ?_⟩
  obtain ⟨⟨s1, s2, ⟨s3, s4, s5, s6, s7⟩, s8, s9, s10, s11⟩, b2, b3, b4⟩ := h4.2.2.2.1 d d0 d1
  refine ⟨b2, by rw [s4]; exact s8.1, by rw [s5]; exact s8.2, fun w w0 w1 => ?_, by rw [s7]; exact s2, b4⟩
  have := s9 w w0 (by omega)
  exact this.2.2
theorem RV_fl (h : RV L t μ) (i0 : 0 ≤ i) (i1 : i < μ 0 0 20) : flOK μ i := by
  obtain ⟨h1, h2, h3, h4, h5, h6, h7, h8⟩ := h
  have := (h3.2.2.2.2.1 i i0 i1).2.2.2.2.2.2
  refine ⟨fun f f0 f1 => ?_, fun f f0 f1 => ?_⟩
  · obtain ⟨x1, x2, x3, x4, x5, x6, x7⟩ := this f f0 (by omega)
    exact ⟨x5, x6⟩
  · obtain ⟨x1, x2, x3, x4, x5, x6, x7⟩ := this f (by omega) f1
    exact ⟨x5, x7 f0⟩
theorem RV_rd (h : RV L t μ) : rdOK μ t := by
  obtain ⟨h1, h2, h3, h4, h5, h6, h7, h8⟩ := h
  refine ⟨by rw [h4.2.2.1]; exact h4.1, fun d d0 d1 => ?_⟩
  rw [h4.2.2.1] at d1
  obtain ⟨⟨s1, s2, -⟩, b2, b3, b4⟩ := h4.2.2.2.1 d d0 d1
  exact ⟨s2, s1, by rw [b3]; exact b4⟩
theorem RV_rj (h : RV L t μ) : rjOK μ := by
  obtain ⟨h1, h2, h3, h4, h5, h6, h7, h8⟩ := h
  refine ⟨by rw [h6.2.2.1]; exact h6.1, by rw [h7.2.2.1]; exact h7.1, fun j j0 j1 => ?_, fun b b0 b1 => ?_⟩
  · rw [h6.2.2.1] at j1
    obtain ⟨b1, b2, b3, b4, b5, b6, b7, b8, -⟩ := h6.2.2.2.1 j j0 j1
    have := h4.1
    have := h3.1
    have := h7.1
    rw [b4, b5, b8, h7.2.2.1]
    omega
  · rw [h7.2.2.1] at b1
    obtain ⟨b2, b3, b4, b5, b6, b7, b8⟩ := h7.2.2.2.2 b b0 b1
    obtain ⟨c1, c2, c3, ⟨c4, c5, c6, -⟩, -⟩ := b8
    rw [c5, c6, c4]
    exact ⟨c2, c3, c1⟩
theorem RV_sta (h : RV L t μ) (d0 : 0 ≤ d) (d1 : d < μ 0 0 30) (i0 : 0 ≤ i) (i1 : i < μ 0 0 20) : sta μ d i := by
  obtain ⟨h1, h2, h3, h4, h5, h6, h7, h8⟩ := h
  have x1 := h4.1
  have x2 := h3.1
  obtain ⟨⟨s1, s2, s3, s8, s9, s10, s11⟩, b2, b3, b4⟩ := h4.2.2.2.1 d d0 d1
  exact ⟨⟨d0, by omega⟩, ⟨i0, by omega⟩, s1, s2, s3, s8, s9, s10, s11, (h3.2.2.2.2.1 i i0 i1).2.2.2.2.2.2⟩
end ZEQ
