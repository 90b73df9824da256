/-! ===== the pages' numbers never fall ===== -/
section ZCZ
variable {a b c d e f h s l w x i v : Int} {μ ν : ZU} {k : Nat}
theorem npN_m : ∀ (n : Nat) (l en : Int) (μ : ZU), 0 ≤ l → (l = en ∨ 1 ≤ μ 50 c 2) → 0 ≤ μ 50 c 2 → (∀ j m, 0 ≤ j → j ≤ m → m < l → 0 ≤ μ 56 c j ∧ μ 56 c j ≤ μ 56 c m) → (∀ j, 0 ≤ j → j < l → μ 56 c j ≤ μ 50 c 2 - 1) →
    ∀ j m, 0 ≤ j → j ≤ m → m < l + n → 0 ≤ npN c n l en μ 56 c j ∧ npN c n l en μ 56 c j ≤ npN c n l en μ 56 c m
  | 0, l, en, μ, h0, h1, h2, h3, h4 => fun j m j0 j1 m1 => h3 j m j0 j1 (by omega)
  | n + 1, l, en, μ, h0, h1, h2, h3, h4 => by
    have st : ∀ (p v : Int) (κ : ZU), κ 50 c 2 = p → (v = p - 1 ∧ 1 ≤ p) → μ 50 c 2 ≤ p → (∀ j, κ 56 c j = if j = l then v else μ 56 c j) → (∀ j m, 0 ≤ j → j ≤ m → m < l + 1 → 0 ≤ κ 56 c j ∧ κ 56 c j ≤ κ 56 c m) ∧ ∀ j, 0 ≤ j → j < l + 1 → κ 56 c j ≤ κ 50 c 2 - 1 := fun p v κ hp hv hle hk => by
      refine ⟨fun j m j0 j1 m1 => ?_, fun j j0 j1 => ?_⟩
      · rw [hk, hk]
        by_cases e1 : j = l
        · rw [if_pos e1, if_pos (by omega)]
          omega
        · rw [if_neg e1]
          by_cases e2 : m = l
          · have := h3 j j j0 (by omega) (by omega)
            have := h4 j j0 (by omega)
            rw [if_pos e2]
            omega
          · rw [if_neg e2]
            exact h3 j m j0 j1 (by omega)
      · rw [hk, hp]
        by_cases e1 : j = l
        · rw [if_pos e1]
          omega
        · have := h4 j j0 (by omega)
          rw [if_neg e1]
          omega
    have el : l + ((n + 1 : Nat) : Int) = l + 1 + n := by omega
    rw [el]
    show ∀ j m, 0 ≤ j → j ≤ m → m < l + 1 + (n : Int) → 0 ≤ (if l = en then npN c n (l + 1) (μ 65 0 l) (mu (mu μ 50 c 2 (μ 50 c 2 + 1)) 56 c l (μ 50 c 2 + 1 - 1)) else npN c n (l + 1) en (mu μ 56 c l (μ 50 c 2 - 1))) 56 c j ∧ (if l = en then npN c n (l + 1) (μ 65 0 l) (mu (mu μ 50 c 2 (μ 50 c 2 + 1)) 56 c l (μ 50 c 2 + 1 - 1)) else npN c n (l + 1) en (mu μ 56 c l (μ 50 c 2 - 1))) 56 c j ≤ (if l = en then npN c n (l + 1) (μ 65 0 l) (mu (mu μ 50 c 2 (μ 50 c 2 + 1)) 56 c l (μ 50 c 2 + 1 - 1)) else npN c n (l + 1) en (mu μ 56 c l (μ 50 c 2 - 1))) 56 c m
    by_cases he : l = en
    · simp only [if_pos he]
      have e5 : mu (mu μ 50 c 2 (μ 50 c 2 + 1)) 56 c l (μ 50 c 2 + 1 - 1) 50 c 2 = μ 50 c 2 + 1 := by rw [mu_g (by decide), mu_at]
      obtain ⟨s1, s2⟩ := st (μ 50 c 2 + 1) (μ 50 c 2 + 1 - 1) (mu (mu μ 50 c 2 (μ 50 c 2 + 1)) 56 c l (μ 50 c 2 + 1 - 1)) e5 ⟨rfl, by omega⟩ (by omega) (fun j => by
        by_cases e1 : j = l
        · rw [if_pos e1, e1, mu_at]
        · rw [if_neg e1, mu_j e1, mu_g (by decide)])
      exact npN_m n (l + 1) _ _ (by omega) (Or.inr (by rw [e5]; omega)) (by rw [e5]; omega) s1 s2
    · simp only [if_neg he]
      have hp : 1 ≤ μ 50 c 2 := by omega
      have e5 : mu μ 56 c l (μ 50 c 2 - 1) 50 c 2 = μ 50 c 2 := by rw [mu_g (by decide)]
      obtain ⟨s1, s2⟩ := st (μ 50 c 2) (μ 50 c 2 - 1) (mu μ 56 c l (μ 50 c 2 - 1)) e5 ⟨rfl, hp⟩ (Int.le_refl _) (fun j => by
        by_cases e1 : j = l
        · rw [if_pos e1, e1, mu_at]
        · rw [if_neg e1, mu_j e1])
      exact npN_m n (l + 1) _ _ (by omega) (Or.inr (by rw [e5]; omega)) (by rw [e5]; omega) s1 s2
end ZCZ
