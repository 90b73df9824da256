/-! ===== setting: lines, side by side ===== -/
def rbA (ν : ZU) (L w x r : Int) : ZU := mu (mu (mu ν 100 0 49 r) 151 0 (180 + L - 1) (ν 151 0 (180 + L - 1) + (4 + x))) 151 0 (120 + L - 1) w
def rbB (ν : ZU) (L p w x r : Int) : ZU := mu (mu (mu (mu (mu (mu (mu ν 100 0 49 r) 151 0 L p) 151 0 (60 + L) w) 151 0 (120 + L) w) 151 0 (180 + L) x) 153 0 L 1) 100 0 45 (L + 1)
def lnE (κ ν : ZU) (c : Int) : Prop := ∀ l, 0 ≤ l → l < κ 50 c 1 → κ 52 c l = ν 151 0 l ∧ κ 53 c l = ν 151 0 (60 + l) ∧ κ 54 c l = ν 151 0 (120 + l) ∧ κ 55 c l = ν 151 0 (180 + l)
/-- before the word w; F the class's memory in the end, RF what is read in the end -/
def CW (β : ZU) (c d i : Int) (F : ZU) (RF fr p s w : Int) (κ ν : ZU) : Prop :=
  sfr β κ ∧ rfr β ν ∧ SH β κ ν c d i ∧ blN c d (β 122 0 d - w).toNat w κ = F ∧ rfo β d i (β 122 0 d - w).toNat w (ν 100 0 49) = RF ∧ blI κ c w ∧ (κ 50 c 1 = ν 100 0 45 ∧ κ 50 c 3 = ν 100 0 47) ∧ lnE κ ν c ∧
  ((0 ≤ fr ∧ fr ≤ κ 50 c 1) ∧ (∀ l, 0 ≤ l → l < fr → κ 52 c l < p ∧ ν 153 0 l = hgt fr (κ 52 c) s l) ∧ ∀ l, fr ≤ l → l < κ 50 c 1 → κ 52 c l = p ∧ ν 153 0 l = 1)
section ZCB
variable {ck sk : Nat} {Q : ZO → ZH → Prop} {a b c d e f g i j k l m p r r' s t v w x z fr L RF : Int} {y : Int64} {u u' u'' : ZV} {μ ν κ β F : ZU}
theorem rbA_g {k : Nat} (h1 : k ≠ 100) (h2 : k ≠ 151) : rbA ν L w x r k = ν k := by
  unfold rbA
  rw [mu_g h2, mu_g h2, mu_g h1]
theorem rbB_g {k : Nat} (h1 : k ≠ 100) (h2 : k ≠ 151) (h3 : k ≠ 153) : rbB ν L p w x r k = ν k := by
  unfold rbB
  rw [mu_g h1, mu_g h3, mu_g h2, mu_g h2, mu_g h2, mu_g h2, mu_g h1]
theorem rbA_f (h : rfr β ν) : rfr β (rbA ν L w x r) := by
  refine ⟨fun k h1 h2 => by rw [rbA_g h1 (by omega)]; exact h.1 k h1 h2, fun a j hj => ?_⟩
  unfold rbA
  rw [mu_g (by decide), mu_g (by decide)]
  by_cases ha : a = 0
  · rw [mu_j (by omega)]; exact h.2 a j hj
  · rw [mu_i ha]; exact h.2 a j hj
theorem rbB_f (h : rfr β ν) : rfr β (rbB ν L p w x r) := by
  refine ⟨fun k h1 h2 => by rw [rbB_g h1 (by omega) (by omega)]; exact h.1 k h1 h2, fun a j hj => ?_⟩
  unfold rbB
  by_cases ha : a = 0
  · rw [mu_j (by omega), mu_g (by decide), mu_g (by decide), mu_g (by decide), mu_g (by decide), mu_g (by decide), mu_j (by omega)]; exact h.2 a j hj
  · rw [mu_i ha, mu_g (by decide), mu_g (by decide), mu_g (by decide), mu_g (by decide), mu_g (by decide), mu_i ha]; exact h.2 a j hj
theorem sfr_of (h : sfr β κ) {κ' : ZU} (h2 : ∀ k, (20 ≤ k ∧ k < 40) → κ' k = κ k) : sfr β κ' := fun k hk => (h2 k hk).trans (h k hk)
theorem SH_of {κ' ν' : ZU} (h : SH β κ ν c d i) (h1 : κ' 51 = κ 51) (h2 : κ' 61 = κ 61) (h3 : ν' 152 = ν 152) : SH β κ' ν' c d i := by
  unfold SH at *
  rw [h1, h2, h3]
  exact h
theorem rfo_s (h0 : 0 ≤ w) (h1 : w < z) : rfo β d i (z - w).toNat w r = rfo β d i (z - (w + 1)).toNat (w + 1) (brd β d i w r) := by
  have e : (z - w).toNat = (z - (w + 1)).toNat + 1 := by omega
  rw [e]
  rfl
theorem blN_s (h0 : 0 ≤ w) (h1 : w < z) : blN c d (z - w).toNat w κ = blN c d (z - (w + 1)).toNat (w + 1) (bl1 κ c d w) := by
  have e : (z - w).toNat = (z - (w + 1)).toNat + 1 := by omega
  rw [e]
  rfl
/-- a word goes on in its line -/
theorem CW_A (hst : sta β d i) (h : CW β c d i F RF fr p s w κ ν) (h0 : 0 ≤ w) (hN : w < β 122 0 d) (hp : β 33 d w = p) (hgo : fr < κ 50 c 1) (hm : κ 55 c (κ 50 c 1 - 1) + 4 + wdt κ c w ≤ β 114 0 d) :
    CW β c d i F RF fr p s (w + 1) (bl1 κ c d w) (rbA ν (κ 50 c 1) w (wdt κ c w) (brd β d i w (ν 100 0 49))) := by
  obtain ⟨a1, a2, a3, a4, a5, a6, ⟨a7, a8⟩, a9, ⟨b1, b2⟩, b3, b4⟩ := h
  obtain ⟨s1, s2, s3, s4, ⟨s5, s6, s7, s8, s9⟩, ⟨s10, s11⟩, sW, sP, sS, sF⟩ := hst
  have hL := a6.1
  have hL2 := a6.2.1
  have k30 : κ 30 = β 30 := a1 _ (by omega)
  have k33 : κ 33 = β 33 := a1 _ (by omega)
  have hq := b4 (κ 50 c 1 - 1) (by omega) (by omega)
  have hcond : 1 ≤ κ 50 c 1 ∧ κ 52 c (κ 50 c 1 - 1) = κ 33 d w ∧ κ 55 c (κ 50 c 1 - 1) + 4 + wdt κ c w ≤ κ 30 d 0 := by
    rw [k33, k30, hp, s6]
    exact ⟨by omega, hq.1, hm⟩
  have e : bl1 κ c d w = mu (mu κ 55 c (κ 50 c 1 - 1) (κ 55 c (κ 50 c 1 - 1) + (4 + wdt κ c w))) 54 c (κ 50 c 1 - 1) w := if_pos hcond
  have hI := bl1_I (d := d) a6 (by rw [k30, s6]; exact s10.2) (a3 w h0 hN).1
  rw [blN_s h0 hN] at a4
  rw [rfo_s h0 hN] at a5
  rw [e] at a4 hI ⊢
  have g50 : mu (mu κ 55 c (κ 50 c 1 - 1) (κ 55 c (κ 50 c 1 - 1) + (4 + wdt κ c w))) 54 c (κ 50 c 1 - 1) w 50 = κ 50 := by rw [mu_g (by decide), mu_g (by decide)]
  have g52 : mu (mu κ 55 c (κ 50 c 1 - 1) (κ 55 c (κ 50 c 1 - 1) + (4 + wdt κ c w))) 54 c (κ 50 c 1 - 1) w 52 = κ 52 := by rw [mu_g (by decide), mu_g (by decide)]
  refine ⟨sfr_of a1 fun k hk => by rw [mu_g (by omega), mu_g (by omega)], rbA_f a2, SH_of a3 (by rw [mu_g (by decide), mu_g (by decide)]) (by rw [mu_g (by decide), mu_g (by decide)]) (rbA_g (by decide) (by decide)), a4, ?_, hI, ?_, ?_, ?_⟩
  · unfold rbA
    rw [mu_g (by decide), mu_g (by decide), mu_at]
    exact a5
  · rw [g50]
    unfold rbA
    simp (disch := decide) only [mu_g, mu_j]
    exact ⟨a7, a8⟩
  · intro l l0 l1
    rw [g50] at l1
    obtain ⟨q1, q2, q3, q4⟩ := a9 l l0 l1
    rw [g52]
    unfold rbA
    refine ⟨?_, ?_, ?_, ?_⟩
    · rw [mu_j (by omega), mu_j (by omega), mu_g (by decide)]
      exact q1
    · rw [mu_g (by decide), mu_g (by decide), mu_j (by omega), mu_j (by omega), mu_g (by decide)]
      exact q2
    · by_cases hl : l = κ 50 c 1 - 1
      · rw [hl, mu_at, show 120 + (κ 50 c 1 - 1) = 120 + κ 50 c 1 - 1 by omega, mu_at]
      · rw [mu_j hl, mu_g (by decide), mu_j (by omega), mu_j (by omega), mu_g (by decide)]
        exact q3
    · rw [mu_g (by decide)]
      by_cases hl : l = κ 50 c 1 - 1
      · subst hl
        rw [mu_at, mu_j (by omega), show 180 + (κ 50 c 1 - 1) = 180 + κ 50 c 1 - 1 by omega, mu_at, q4, show 180 + (κ 50 c 1 - 1) = 180 + κ 50 c 1 - 1 by omega]
      · rw [mu_j hl, mu_j (by omega), mu_j (by omega), mu_g (by decide)]
        exact q4
  · rw [g50, g52, rbA_g (by decide) (by decide)]
    exact ⟨⟨b1, b2⟩, b3, b4⟩
/-- a word begins a line -/
theorem CW_B (hst : sta β d i) (h : CW β c d i F RF fr p s w κ ν) (h0 : 0 ≤ w) (hN : w < β 122 0 d) (hp : β 33 d w = p) (hgo : ¬ (fr < κ 50 c 1 ∧ κ 55 c (κ 50 c 1 - 1) + 4 + wdt κ c w ≤ β 114 0 d)) :
    CW β c d i F RF fr p s (w + 1) (bl1 κ c d w) (rbB ν (κ 50 c 1) p w (wdt κ c w) (brd β d i w (ν 100 0 49))) := by
  obtain ⟨a1, a2, a3, a4, a5, a6, ⟨a7, a8⟩, a9, ⟨b1, b2⟩, b3, b4⟩ := h
  obtain ⟨s1, s2, s3, s4, ⟨s5, s6, s7, s8, s9⟩, ⟨s10, s11⟩, sW, sP, sS, sF⟩ := hst
  have hL := a6.1
  have hL2 := a6.2.1
  have k30 : κ 30 = β 30 := a1 _ (by omega)
  have k33 : κ 33 = β 33 := a1 _ (by omega)
  have hcond : ¬ (1 ≤ κ 50 c 1 ∧ κ 52 c (κ 50 c 1 - 1) = κ 33 d w ∧ κ 55 c (κ 50 c 1 - 1) + 4 + wdt κ c w ≤ κ 30 d 0) := by
    rw [k33, k30, hp, s6]
    rintro ⟨q1, q2, q3⟩
    refine hgo ⟨?_, q3⟩
    by_cases hfr : fr < κ 50 c 1
    · exact hfr
    · have := (b3 (κ 50 c 1 - 1) (by omega) (by omega)).1
      omega
  have e : bl1 κ c d w = beg κ c (κ 33 d w) w (wdt κ c w) := if_neg hcond
  have hI := bl1_I (d := d) a6 (by rw [k30, s6]; exact s10.2) (a3 w h0 hN).1
  rw [blN_s h0 hN] at a4
  rw [rfo_s h0 hN] at a5
  rw [e, k33, hp] at a4 hI ⊢
  have gg : ∀ k, k ≠ 50 → k ≠ 52 → k ≠ 53 → k ≠ 54 → k ≠ 55 → beg κ c p w (wdt κ c w) k = κ k := fun k h0 h1 h2 h3 h4 => by
    unfold beg
    rw [mu_g h0, mu_g h4, mu_g h3, mu_g h2, mu_g h1]
  have g501 : beg κ c p w (wdt κ c w) 50 c 1 = κ 50 c 1 + 1 := by unfold beg; rw [mu_at]
  have g503 : beg κ c p w (wdt κ c w) 50 c 3 = κ 50 c 3 := by unfold beg; rw [mu_j (by decide), mu_g (by decide), mu_g (by decide), mu_g (by decide), mu_g (by decide)]
  have g52 : beg κ c p w (wdt κ c w) 52 = mu κ 52 c (κ 50 c 1) p 52 := by unfold beg; rw [mu_g (by decide), mu_g (by decide), mu_g (by decide), mu_g (by decide)]
  have g53 : beg κ c p w (wdt κ c w) 53 = mu κ 53 c (κ 50 c 1) w 53 := by
    funext a j
    unfold beg
    rw [mu_g (by decide), mu_g (by decide), mu_g (by decide)]
    unfold mu
    rfl
  have g54 : beg κ c p w (wdt κ c w) 54 = mu κ 54 c (κ 50 c 1) w 54 := by
    funext a j
    unfold beg
    rw [mu_g (by decide), mu_g (by decide)]
    unfold mu
    rfl
  have g55 : beg κ c p w (wdt κ c w) 55 = mu κ 55 c (κ 50 c 1) (wdt κ c w) 55 := by
    funext a j
    unfold beg
    rw [mu_g (by decide)]
    unfold mu
    rfl
  refine ⟨sfr_of a1 fun k hk => gg k (by omega) (by omega) (by omega) (by omega) (by omega), rbB_f a2, SH_of a3 (gg _ (by decide) (by decide) (by decide) (by decide) (by decide)) (gg _ (by decide) (by decide) (by decide) (by decide) (by decide)) (rbB_g (by decide) (by decide) (by decide)), a4, ?_, hI, ?_, ?_, ?_⟩
  · unfold rbB
    rw [mu_j (by decide), mu_g (by decide), mu_g (by decide), mu_g (by decide), mu_g (by decide), mu_g (by decide), mu_at]
    exact a5
  · rw [g501, g503]
    unfold rbB
    rw [mu_at, mu_j (by decide), mu_g (by decide), mu_g (by decide), mu_g (by decide), mu_g (by decide), mu_g (by decide), mu_j (by decide)]
    exact ⟨rfl, a8⟩
  · intro l l0 l1
    rw [g501] at l1
    rw [g52, g53, g54, g55]
    unfold rbB
    by_cases hl : l = κ 50 c 1
    · subst hl
      simp (disch := first | decide | omega) only [mu_g, mu_j, mu_at, and_self]
    · obtain ⟨q1, q2, q3, q4⟩ := a9 l l0 (by omega)
      simp (disch := first | decide | omega) only [mu_g, mu_j]
      exact ⟨q1, q2, q3, q4⟩
  · have t153 : ∀ l, l ≠ κ 50 c 1 → rbB ν (κ 50 c 1) p w (wdt κ c w) (brd β d i w (ν 100 0 49)) 153 0 l = ν 153 0 l := fun l hl => by
      unfold rbB
      rw [mu_g (by decide), mu_j hl, mu_g (by decide), mu_g (by decide), mu_g (by decide), mu_g (by decide), mu_g (by decide)]
    rw [g501, g52]
    refine ⟨⟨b1, by omega⟩, fun l l0 l1 => ?_, fun l l0 l1 => ?_⟩
    · obtain ⟨q1, q2⟩ := b3 l l0 l1
      rw [t153 l (by omega), mu_j (by omega)]
      refine ⟨q1, ?_⟩
      rw [q2]
      unfold hgt
      by_cases h9 : l = fr - 1
      · rw [if_pos (Or.inl h9), if_pos (Or.inl h9)]
      · have e9 : mu κ 52 c (κ 50 c 1) p 52 c (l + 1) = κ 52 c (l + 1) := mu_j (by omega)
        have e10 : mu κ 52 c (κ 50 c 1) p 52 c l = κ 52 c l := mu_j (by omega)
        rw [e9, e10]
    · by_cases hl : l = κ 50 c 1
      · subst hl
        rw [mu_at]
        refine ⟨rfl, ?_⟩
        unfold rbB
        rw [mu_g (by decide), mu_at]
      · rw [mu_j hl, t153 l hl]
        exact b4 l l0 (by omega)
end ZCB
