/-! ===== setting: what references find ===== -/
def fdG (hm pg : Int → Int) (p z : Int) : Nat → Int → Int
  | 0, _ => z
  | n + 1, l => if hm l = p then pg l + 1 else fdG hm pg p z n (l + 1)
section ZCH
variable {ck sk : Nat} {Q : ZO → ZH → Prop} {a b c d e f g h i j k l m p r r' s t v w x z fr en H L RF rd RD : Int} {y : Int64} {u u' u'' u1 u2 u3 u4 u5 u6 u7 u8 : ZV} {μ ν κ β F : ZU} {hm hm' pg pg' : Int → Int}
theorem fdN_G : ∀ (n : Nat) (l : Int), fdN hm pg p n l = fdG hm pg p 1 n l
  | 0, _ => rfl
  | n + 1, l => by
    unfold fdN fdG
    rw [fdN_G n (l + 1)]
theorem fdG_last : ∀ (n : Nat) (l : Int), fdG hm pg p z (n + 1) l = fdG hm pg p (if hm (l + n) = p then pg (l + n) + 1 else z) n l
  | 0, l => by
    have e : l + ((0 : Nat) : Int) = l := by omega
    rw [e]
    rfl
  | n + 1, l => by
    have e : l + ((n + 1 : Nat) : Int) = l + 1 + n := by omega
    have ih := fdG_last n (l + 1)
    show (if hm l = p then pg l + 1 else fdG hm pg p z (n + 1) (l + 1)) = (if hm l = p then pg l + 1 else _)
    rw [ih, e]
theorem fdG_congr : ∀ (n : Nat) (l : Int), (∀ j, l ≤ j → j < l + n → hm j = hm' j ∧ pg j = pg' j) → fdG hm pg p z n l = fdG hm' pg' p z n l
  | 0, _, _ => rfl
  | n + 1, l, h => by
    obtain ⟨h1, h2⟩ := h l (by omega) (by omega)
    unfold fdG
    rw [h1, h2, fdG_congr n (l + 1) (fun j a b => h j (by omega) (by omega))]
theorem fdG_b (hz : 1 ≤ z ∧ z ≤ 61) : ∀ (n : Nat) (l : Int), (∀ j, l ≤ j → j < l + n → 0 ≤ pg j ∧ pg j ≤ 60) → 1 ≤ fdG hm pg p z n l ∧ fdG hm pg p z n l ≤ 61
  | 0, _, _ => hz
  | n + 1, l, h => by
    have := h l (by omega) (by omega)
    unfold fdG
    split
    · omega
    · exact fdG_b hz n (l + 1) (fun j a b => h j (by omega) (by omega))
theorem fbN_66 : ∀ (n : Nat) (μ : ZU), fbN c n μ 66 0 p = fdG (μ 52 c) (μ 56 c) p (μ 66 0 p) n 0
  | 0, μ => rfl
  | n + 1, μ => by
    unfold fbN
    rw [fbN_66 n, mu_g (by decide), mu_g (k' := 56) (by decide), fdG_last, Int.zero_add]
    congr 1
    by_cases h : μ 52 c n = p
    · rw [if_pos h, h, mu_at]
    · rw [if_neg h, mu_j (fun z => h z.symm)]
theorem fb0_66 : ∀ (n : Nat) (q : Int) (μ : ZU) (j : Int), fb0 n q μ 66 0 j = if q ≤ j ∧ j < q + n then 1 else μ 66 0 j
  | 0, q, μ, j => by
    rw [if_neg (by omega)]
    rfl
  | n + 1, q, μ, j => by
    unfold fb0
    rw [fb0_66 n]
    by_cases h : j = q
    · subst h
      rw [if_neg (by omega), if_pos (by omega), mu_at]
    · rw [mu_j h]
      by_cases h2 : q + 1 ≤ j ∧ j < q + 1 + n
      · rw [if_pos h2, if_pos (by omega)]
      · rw [if_neg h2, if_neg (by omega)]
theorem fbg_66 (hp : 0 ≤ p ∧ p < 12) : fbg c μ 66 0 p = fdG (μ 52 c) (μ 56 c) p 1 (μ 50 c 1).toNat 0 := by
  unfold fbg
  rw [fbN_66, fb0_g (by decide), fb0_g (k := 56) (by decide), fb0_66, if_pos (by omega)]
/-- both sides find the same page -/
theorem fnd_eq (h : PS β c d i κ ν) (hp : 0 ≤ p ∧ p < 12) : fnd ν p = fbg c κ 66 0 p := by
  obtain ⟨⟨a1, a2, a3, ⟨a4, a4'⟩, a5, a6, a6'⟩, b1, b2, b3⟩ := h
  rw [fbg_66 hp]
  unfold fnd
  rw [fdN_G, ← a4]
  refine (fdG_congr _ _ fun j j0 j1 => ?_).symm
  exact ⟨(a5 j j0 (by omega)).1, b3 j j0 (by omega)⟩
theorem fnd_b (h : ∀ l, 0 ≤ l → l < ν 100 0 45 → 0 ≤ ν 151 0 (240 + l) ∧ ν 151 0 (240 + l) ≤ 60) : 1 ≤ fnd ν p ∧ fnd ν p ≤ 61 := by
  unfold fnd
  rw [fdN_G]
  exact fdG_b (by omega) _ _ fun j j0 j1 => h j j0 (by omega)
theorem rnN_51 : ∀ (n : Nat) (w r : Int) (μ : ZU) (j : Int), (rnN c d n w r μ).1 51 c j = if (w ≤ j ∧ j < w + n) ∧ ¬ μ 35 d j = -1 then μ 66 0 (μ 35 d j) else μ 51 c j
  | 0, w, r, μ, j => by
    rw [if_neg (by omega)]
    rfl
  | n + 1, w, r, μ, j => by
    unfold rnN
    by_cases h : μ 35 d w = -1 ∨ μ 51 c w = μ 66 0 (μ 35 d w)
    · rw [if_pos h, rnN_51 n]
      by_cases hj : j = w
      · subst hj
        rw [if_neg (by omega)]
        rcases h with h | h
        · rw [if_neg (fun z => z.2 h)]
        · by_cases h2 : μ 35 d j = -1
          · rw [if_neg (fun z => z.2 h2)]
          · rw [if_pos ⟨by omega, h2⟩, h]
      · by_cases h3 : (w + 1 ≤ j ∧ j < w + 1 + n) ∧ ¬ μ 35 d j = -1
        · rw [if_pos h3, if_pos ⟨by omega, h3.2⟩]
        · rw [if_neg h3, if_neg (fun z => h3 ⟨by omega, z.2⟩)]
    · rw [if_neg h, rnN_51 n, mu_g (by decide), mu_g (k' := 66) (by decide)]
      by_cases hj : j = w
      · subst hj
        rw [if_neg (by omega), mu_at, if_pos ⟨by omega, fun z => h (Or.inl z)⟩]
      · rw [mu_j hj]
        by_cases h3 : (w + 1 ≤ j ∧ j < w + 1 + n) ∧ ¬ μ 35 d j = -1
        · rw [if_pos h3, if_pos ⟨by omega, h3.2⟩]
        · rw [if_neg h3, if_neg (fun z => h3 ⟨by omega, z.2⟩)]
theorem rnN_2 : ∀ (n : Nat) (w r : Int) (μ : ZU), (rnN c d n w r μ).2 = 0 ↔ r = 0 ∧ ∀ j, w ≤ j → j < w + n → (μ 35 d j = -1 ∨ μ 51 c j = μ 66 0 (μ 35 d j))
  | 0, w, r, μ => ⟨fun h => ⟨h, fun j a b => by omega⟩, fun h => h.1⟩
  | n + 1, w, r, μ => by
    unfold rnN
    by_cases h : μ 35 d w = -1 ∨ μ 51 c w = μ 66 0 (μ 35 d w)
    · rw [if_pos h, rnN_2 n]
      constructor
      · rintro ⟨h1, h2⟩
        refine ⟨h1, fun j a b => ?_⟩
        by_cases hj : j = w
        · subst hj; exact h
        · exact h2 j (by omega) (by omega)
      · rintro ⟨h1, h2⟩
        exact ⟨h1, fun j a b => h2 j (by omega) (by omega)⟩
    · rw [if_neg h, rnN_2 n]
      constructor
      · rintro ⟨h1, -⟩; omega
      · rintro ⟨h1, h2⟩; exact absurd (h2 w (by omega) (by omega)) h
/-! the class measures -/
theorem wwd_s (h : sfr β μ) : wwd μ d b w r = wwd β d b w r := by
  unfold wwd fhs
  rw [h 22 (by omega), h 23 (by omega), h 24 (by omega), h 31 (by omega), h 32 (by omega), h 33 (by omega), h 34 (by omega)]
theorem mwN_f : ∀ (n : Nat) (w : Int) (μ : ZU), sfr β μ → mwN c d b n w μ 50 c 5 = rfo β d b n w (μ 50 c 5) ∧ ∀ j, mwN c d b n w μ 51 c j = (if w ≤ j ∧ j < w + n then (if β 35 d j = -1 then -1 else 1) else μ 51 c j) ∧ mwN c d b n w μ 61 0 j = (if w ≤ j ∧ j < w + n then (if β 35 d j = -1 then bwd β d b j else 0) else μ 61 0 j)
  | 0, w, μ, h => ⟨rfl, fun j => ⟨by rw [if_neg (by omega)]; rfl, by rw [if_neg (by omega)]; rfl⟩⟩
  | n + 1, w, μ, h => by
    have h' : sfr β (mw1 μ c d b w) := sfr_of h fun k hk => mw1_g (by omega) (by omega) (by omega)
    obtain ⟨i1, i2⟩ := mwN_f n (w + 1) (mw1 μ c d b w) h'
    have e35 : μ 35 = β 35 := h 35 (by omega)
    have m5 : mw1 μ c d b w 50 c 5 = brd β d b w (μ 50 c 5) := by
      unfold mw1 brd
      rw [e35, wwd_s h]
      split
      · rw [mu_g (by decide), mu_at]
      · rw [mu_g (by decide), mu_g (by decide)]
    have m51 : ∀ j, mw1 μ c d b w 51 c j = if j = w then (if β 35 d j = -1 then -1 else 1) else μ 51 c j := fun j => by
      unfold mw1
      rw [e35]
      by_cases hj : j = w
      · subst hj
        rw [if_pos rfl]
        split
        · rw [mu_g (by decide), mu_g (by decide), mu_at]
        · rw [mu_g (by decide), mu_at]
      · rw [if_neg hj]
        split
        · rw [mu_g (by decide), mu_g (by decide), mu_j hj]
        · rw [mu_g (by decide), mu_j hj]
    have m61 : ∀ j, mw1 μ c d b w 61 0 j = if j = w then (if β 35 d j = -1 then bwd β d b j else 0) else μ 61 0 j := fun j => by
      unfold mw1
      rw [e35, wwd_s h]
      by_cases hj : j = w
      · subst hj
        rw [if_pos rfl]
        split
        · rw [mu_at, bwd_eq]
        · rw [mu_at]
      · rw [if_neg hj]
        split
        · rw [mu_j hj, mu_g (by decide), mu_g (by decide)]
        · rw [mu_j hj, mu_g (by decide)]
    unfold mwN
    refine ⟨by rw [i1, m5]; rfl, fun j => ?_⟩
    rw [(i2 j).1, (i2 j).2, m51, m61]
    by_cases hj : j = w
    · subst hj
      have q1 : ¬ (j + 1 ≤ j ∧ j < j + 1 + (n : Int)) := by omega
      have q2 : j ≤ j ∧ j < j + ((n + 1 : Nat) : Int) := by omega
      simp only [q1, q2, if_true, if_false, and_self]
    · by_cases h3 : w + 1 ≤ j ∧ j < w + 1 + (n : Int)
      · have q2 : w ≤ j ∧ j < w + ((n + 1 : Nat) : Int) := by omega
        simp only [hj, h3, q2, if_true, if_false, and_self]
      · have q2 : ¬ (w ≤ j ∧ j < w + ((n + 1 : Nat) : Int)) := by omega
        simp only [hj, h3, q2, if_true, if_false, and_self]
theorem stN_j (h1 : j ≠ 1) (h2 : j ≠ 2) (h3 : j ≠ 3) (h4 : j ≠ 4) : ∀ (n : Nat) (μ : ZU), stN c d s n μ 50 c j = μ 50 c j
  | 0, μ => by
    unfold stN
    rw [ps1_j h1 h2 h4, mu_j h3]
  | n + 1, μ => by
    unfold stN
    split
    · rw [rnw_g (by decide) (by decide), ps1_j h1 h2 h4, mu_j h3]
    · rw [stN_j h1 h2 h3 h4 n, rnw_g (by decide) (by decide), ps1_j h1 h2 h4, mu_j h3]
end ZCH
