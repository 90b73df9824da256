/-! ===== the pages' numbers never fall ===== -/
section ZCZ
variable {a b c d e f h s l w x i v : Int} {μ ν : ZU} {k : Nat}
theorem npN_m : ∀ (n : Nat) (l en : Int) (μ : ZU), 0 ≤ l → (l = en ∨ 1 ≤ μ 50 c 2) → 0 ≤ μ 50 c 2 → (∀ j m, 0 ≤ j → j ≤ m → m < l → 0 ≤ μ 56 c j ∧ μ 56 c j ≤ μ 56 c m) → (∀ j, 0 ≤ j → j < l → μ 56 c j ≤ μ 50 c 2 - 1) →
    ∀ j m, 0 ≤ j → j ≤ m → m < l + n → 0 ≤ npN c n l en μ 56 c j ∧ npN c n l en μ 56 c j ≤ npN c n l en μ 56 c m
  | 0, l, en, μ, h0, h1, h2, h3, h4 => fun j m j0 j1 m1 => h3 j m j0 j1 (by omega)
  | n + 1, l, en, μ, h0, h1, h2, h3, h4 => by
    have st : ∀ (p v : Int) (κ : ZU), κ 50 c 2 = p → (v = p - 1 ∧ 1 ≤ p) → μ 50 c 2 ≤ p → (∀ j, κ 56 c j = if j = l then v else μ 56 c j) → (∀ j m, 0 ≤ j → j ≤ m → m < l + 1 → 0 ≤ κ 56 c j ∧ κ 56 c j ≤ κ 56 c m) ∧ ∀ j, 0 ≤ j → j < l + 1 → κ 56 c j ≤ κ 50 c 2 - 1 := fun p v κ hp hv hle hk => by
      refine ⟨fun j m j0 j1 m1 => ?_, fun j j0 j1 => ?_⟩
      · rw [hk, hk]
        by_cases e1 : j = l
        · rw [if_pos e1, if_pos (by omega)]
          omega
        · rw [if_neg e1]
          by_cases e2 : m = l
          · have := h3 j j j0 (by omega) (by omega)
            have := h4 j j0 (by omega)
            rw [if_pos e2]
            omega
          · rw [if_neg e2]
            exact h3 j m j0 j1 (by omega)
      · rw [hk, hp]
        by_cases e1 : j = l
        · rw [if_pos e1]
          omega
        · have := h4 j j0 (by omega)
          rw [if_neg e1]
          omega
    have el : l + ((n + 1 : Nat) : Int) = l + 1 + n := by omega
    rw [el]
    show ∀ j m, 0 ≤ j → j ≤ m → m < l + 1 + (n : Int) → 0 ≤ (if l = en then npN c n (l + 1) (μ 65 0 l) (mu (mu μ 50 c 2 (μ 50 c 2 + 1)) 56 c l (μ 50 c 2 + 1 - 1)) else npN c n (l + 1) en (mu μ 56 c l (μ 50 c 2 - 1))) 56 c j ∧ (if l = en then npN c n (l + 1) (μ 65 0 l) (mu (mu μ 50 c 2 (μ 50 c 2 + 1)) 56 c l (μ 50 c 2 + 1 - 1)) else npN c n (l + 1) en (mu μ 56 c l (μ 50 c 2 - 1))) 56 c j ≤ (if l = en then npN c n (l + 1) (μ 65 0 l) (mu (mu μ 50 c 2 (μ 50 c 2 + 1)) 56 c l (μ 50 c 2 + 1 - 1)) else npN c n (l + 1) en (mu μ 56 c l (μ 50 c 2 - 1))) 56 c m
    by_cases he : l = en
    · simp only [if_pos he]
      have e5 : mu (mu μ 50 c 2 (μ 50 c 2 + 1)) 56 c l (μ 50 c 2 + 1 - 1) 50 c 2 = μ 50 c 2 + 1 := by rw [mu_g (by decide), mu_at]
      obtain ⟨s1, s2⟩ := st (μ 50 c 2 + 1) (μ 50 c 2 + 1 - 1) (mu (mu μ 50 c 2 (μ 50 c 2 + 1)) 56 c l (μ 50 c 2 + 1 - 1)) e5 ⟨rfl, by omega⟩ (by omega) (fun j => by
        by_cases e1 : j = l
        · rw [if_pos e1, e1, mu_at]
        · rw [if_neg e1, mu_j e1, mu_g (by decide)])
      exact npN_m n (l + 1) _ _ (by omega) (Or.inr (by rw [e5]; omega)) (by rw [e5]; omega) s1 s2
    · simp only [if_neg he]
      have hp : 1 ≤ μ 50 c 2 := by omega
      have e5 : mu μ 56 c l (μ 50 c 2 - 1) 50 c 2 = μ 50 c 2 := by rw [mu_g (by decide)]
      obtain ⟨s1, s2⟩ := st (μ 50 c 2) (μ 50 c 2 - 1) (mu μ 56 c l (μ 50 c 2 - 1)) e5 ⟨rfl, hp⟩ (Int.le_refl _) (fun j => by
        by_cases e1 : j = l
        · rw [if_pos e1, e1, mu_at]
        · rw [if_neg e1, mu_j e1])
      exact npN_m n (l + 1) _ _ (by omega) (Or.inr (by rw [e5]; omega)) (by rw [e5]; omega) s1 s2
theorem ps1_m {j m : Int} (j0 : 0 ≤ j) (j1 : j ≤ m) (m1 : m < ps1 c d s μ 50 c 1) : 0 ≤ ps1 c d s μ 56 c j ∧ ps1 c d s μ 56 c j ≤ ps1 c d s μ 56 c m := by
  have eL : psw c d s μ 50 c 1 = psb c d μ 50 c 1 := by
    unfold psw
    rw [wlN_g (by decide) (by decide)]
  rw [ps1_L, ← eL] at m1
  exact npN_m (psw c d s μ 50 c 1).toNat 0 0 (mu (bpz c (μ 30 d 1) (psw c d s μ)) 50 c 2 0) (Int.le_refl _) (Or.inl rfl) (by rw [mu_at]; exact Int.le_refl _) (fun j m j0 j1 m1 => by omega) (fun j j0 j1 => by omega) j m j0 j1 (by omega)
theorem stt_m {t j m : Int} (hc : c = μ 0 0 50 - 1) (hc0 : 0 ≤ c) (hd : 0 ≤ d) (hd2 : d < μ 0 0 30) (hD : dcOK μ t) (hF : flOK μ b) (j0 : 0 ≤ j) (j1 : j ≤ m) (m1 : m < stt c d b μ 50 c 1) : 0 ≤ stt c d b μ 56 c j ∧ stt c d b μ 56 c j ≤ stt c d b μ 56 c m := by
  obtain ⟨ξ, x1, x2⟩ := stN_last 4 (mu (st0 c d b μ) 50 c 3 0) (stt_sI hc hc0 hd hd2 hD hF)
  unfold stt at *
  rw [x2 50 (by decide) (by decide)] at m1
  rw [x2 56 (by decide) (by decide)]
  exact ps1_m j0 j1 m1
end ZCZ
