/-! ===== the class sets as the pure setting says ===== -/
def inp (μ : ZU) (d b : Int) : ZIn := (μ 30 d 0, μ 30 d 1, sps d b μ, (μ 30 d 9).toNat, μ 33 d, μ 35 d, fun k => if (0 ≤ k ∧ k < μ 30 d 9) ∧ μ 35 d k = -1 then bwd μ d b k else 0)
def rds (μ : ZU) (d b : Int) : Int := rfo μ d b (μ 30 d 9).toNat 0 (μ 30 d 7)
/-- the sheets c hold what the memory μ says of the document d, set with the image b -/
def SHT (κ : ZU) (c : Int) (μ : ZU) (d b : Int) : Prop := RC κ c (inp μ d b) (pEnd (inp μ d b)).1 ∧ κ 50 c 3 = (pEnd (inp μ d b)).2 ∧ (∀ k, 0 ≤ k → k < μ 30 d 9 → κ 51 c k = (if μ 35 d k = -1 then -1 else (pEnd (inp μ d b)).1 k)) ∧ κ 50 c 5 = rds μ d b ∧ κ 50 c 0 = μ 30 d 9
section ZPB
variable {μ ν κ β : ZU} {a b c d e f g h i j k l m p r s t v w x y z L H M : Int} {I : ZIn} {sh sh' : Int → Int} {S T : ZLn} {hf wf hf' wf' hg bd pe : Int → Int}
theorem pnN_b : ∀ (n : Nat) (k en : Int) (S : Int × (Int → Int)), 0 ≤ k → (k = en ∨ 1 ≤ S.1) → 0 ≤ S.1 → (∀ j, 0 ≤ j → j < k → 0 ≤ S.2 j ∧ S.2 j < S.1) → 0 ≤ (pnN pe n k en S).1 ∧ (pnN pe n k en S).1 ≤ S.1 + n ∧ ∀ j, 0 ≤ j → j < k + n → 0 ≤ (pnN pe n k en S).2 j ∧ (pnN pe n k en S).2 j < (pnN pe n k en S).1
  | 0, k, en, S, h0, h1, h2, h3 => ⟨h2, by show S.1 ≤ _; omega, fun j a b => h3 j a (by omega)⟩
  | n + 1, k, en, S, h0, h1, h2, h3 => by
    unfold pnN
    by_cases q : k = en
    · rw [if_pos q]
      have ih := pnN_b n (k + 1) (pe k) (S.1 + 1, zui S.2 k S.1) (by omega) (Or.inr (by show 1 ≤ S.1 + 1; omega)) (by show 0 ≤ S.1 + 1; omega) (fun j a b => by
        show 0 ≤ zui S.2 k S.1 j ∧ zui S.2 k S.1 j < S.1 + 1
        by_cases hj : j = k
        · rw [hj, zui_at]; omega
        · rw [zui_n hj]
          have := h3 j a (by omega)
          omega)
      obtain ⟨i1, i2, i3⟩ := ih
      have i2 : _ ≤ S.1 + 1 + (n : Int) := i2
      exact ⟨i1, by omega, fun j a b => i3 j a (by omega)⟩
    · rw [if_neg q]
      have ih := pnN_b n (k + 1) en (S.1, zui S.2 k (S.1 - 1)) (by omega) (Or.inr (by show 1 ≤ S.1; omega)) h2 (fun j a b => by
        show 0 ≤ zui S.2 k (S.1 - 1) j ∧ zui S.2 k (S.1 - 1) j < S.1
        by_cases hj : j = k
        · rw [hj, zui_at]; omega
        · rw [zui_n hj]
          exact h3 j a (by omega))
      obtain ⟨i1, i2, i3⟩ := ih
      have i2 : _ ≤ S.1 + (n : Int) := i2
      exact ⟨i1, by omega, fun j a b => i3 j a (by omega)⟩
theorem pNm_b : 0 ≤ (pNm I sh).1 ∧ (pNm I sh).1 ≤ ((pLn I sh).1.toNat : Int) ∧ ∀ l, 0 ≤ l → l < (pLn I sh).1 → 0 ≤ (pNm I sh).2 l ∧ (pNm I sh).2 l < (pNm I sh).1 := by
  have h := pnN_b (pe := (pPb I sh).2) (pLn I sh).1.toNat 0 0 (0, z0f) (by omega) (Or.inl rfl) (by show (0 : Int) ≤ 0; omega) (fun j a b => by omega)
  obtain ⟨h1, h2, h3⟩ := h
  have h2 : _ ≤ (0 : Int) + ((pLn I sh).1.toNat : Int) := h2
  exact ⟨h1, by unfold pNm; omega, fun l a b => h3 l a (by omega)⟩
theorem fdG_1 {hm pg : Int → Int} (hz : 1 ≤ z) : ∀ (n : Nat) (l : Int), (∀ j, l ≤ j → j < l + n → 0 ≤ pg j) → 1 ≤ fdG hm pg p z n l
  | 0, _, _ => hz
  | n + 1, l, h => by
    have := h l (by omega) (by omega)
    unfold fdG
    split
    · omega
    · exact fdG_1 hz n (l + 1) fun j a b => h j (by omega) (by omega)
theorem pFd_1 : 1 ≤ pFd I sh p := fdG_1 (by omega) _ _ fun j a b => (pNm_b.2.2 j (by omega) (by omega)).1
theorem ps1_51 {q : Nat} (hq : q = 51 ∨ q = 61 ∨ q = 30 ∨ q = 33 ∨ q = 35) : ps1 c d s κ q = κ q := by
  rcases hq with rfl | rfl | rfl | rfl | rfl <;> exact ps1_g (by decide) (by decide) (by decide) (by decide) (by decide) (by decide) (by decide) (by decide) (by decide) (by decide)
theorem RC_fd (h : RC κ c I sh) (hp : 0 ≤ p ∧ p < 12) : fbg c κ 66 0 p = pFd I sh p := by
  rw [fbg_66 hp, h.1.1]
  exact fdG_congr _ _ fun j a b => ⟨(h.1.2.2 j a (by omega)).1, h.2.2.2 j a (by omega)⟩
theorem RC_of (h : RC κ c I sh) (h1 : ν 50 = κ 50) (h2 : ν 52 = κ 52) (h3 : ν 53 = κ 53) (h4 : ν 54 = κ 54) (h5 : ν 55 = κ 55) (h6 : ν 56 = κ 56) : RC ν c I sh := by
  unfold RC lnQ
  rw [h1, h2, h3, h4, h5, h6]
  exact h
theorem stN_pure : ∀ (m : Nat) (κ : ZU) (sh : Int → Int) (p : Int), PC κ c d I sh → κ 50 c 3 = p → RC (stN c d (iS I) m κ) c I (pSh I m sh p).1 ∧ stN c d (iS I) m κ 50 c 3 = (pSh I m sh p).2 ∧ ∀ k, 0 ≤ k → k < (iN I : Int) → stN c d (iS I) m κ 51 c k = (if iTg I k = -1 then -1 else (pSh I m sh p).1 k)
  | 0, κ, sh, p, h, hp => by
    unfold stN pSh
    refine ⟨ps1_pure h rfl, ?_, fun k a b => ?_⟩
    · rw [ps1_j (by decide) (by decide) (by decide), mu_at, hp]
    · rw [ps1_51 (Or.inl rfl)]
      exact (h.2.2.2 k a b).2.2.2.1
  | m + 1, κ, sh, p, h, hp => by
    have hR := ps1_pure h (s := iS I) rfl
    have h3 : ps1 c d (iS I) κ 50 c 3 = p + 1 := by rw [ps1_j (by decide) (by decide) (by decide), mu_at, hp]
    have e51 : ps1 c d (iS I) κ 51 = κ 51 := ps1_51 (Or.inl rfl)
    have e61 : ps1 c d (iS I) κ 61 = κ 61 := ps1_51 (Or.inr (Or.inl rfl))
    have e30 : ps1 c d (iS I) κ 30 = κ 30 := ps1_51 (Or.inr (Or.inr (Or.inl rfl)))
    have e33 : ps1 c d (iS I) κ 33 = κ 33 := ps1_51 (Or.inr (Or.inr (Or.inr (Or.inl rfl))))
    have e35 : ps1 c d (iS I) κ 35 = κ 35 := ps1_51 (Or.inr (Or.inr (Or.inr (Or.inr rfl))))
    obtain ⟨q1, q2, q3, q4⟩ := h
    unfold stN pSh
    generalize hξ : ps1 c d (iS I) κ = ξ at *
    have en : (ξ 30 d 9).toNat = iN I := by rw [e30]; omega
    have g : ∀ k, k ≠ 66 → fbg c ξ k = ξ k := fun k hk => fbg_g hk
    have hfd : ∀ k, 0 ≤ k → k < (iN I : Int) → ¬ iTg I k = -1 → fbg c ξ 66 0 (iTg I k) = pFd I sh (iTg I k) := fun k a b z => by
      rcases (q4 k a b).2.2.1 with t | t
      · exact absurd t z
      · exact RC_fd hR t
    have h2 : (rnw c d ξ).2 = 0 ↔ pSt I sh := by
      unfold rnw
      rw [en, rnN_2, g 35 (by decide), g 51 (by decide), e35, e51]
      constructor
      · rintro ⟨-, z⟩ k a b
        obtain ⟨c1, c2, c3, c4, -⟩ := q4 k a b
        by_cases t : iTg I k = -1
        · exact Or.inl t
        · rcases z k a (by omega) with y | y
          · exact absurd (c2.symm.trans y) t
          · right
            rw [c2, c4, if_neg t, hfd k a b t] at y
            exact y
      · intro z
        refine ⟨rfl, fun k a b => ?_⟩
        have b : k < (iN I : Int) := by omega
        obtain ⟨c1, c2, c3, c4, -⟩ := q4 k a b
        by_cases t : iTg I k = -1
        · exact Or.inl (c2.trans t)
        · right
          rcases z k a b with y | y
          · exact absurd y t
          · rw [c2, c4, if_neg t, hfd k a b t]
            exact y
    have h51 : ∀ k, 0 ≤ k → k < (iN I : Int) → (rnw c d ξ).1 51 c k = if iTg I k = -1 then -1 else pFd I sh (iTg I k) := fun k a b => by
      obtain ⟨c1, c2, c3, c4, -⟩ := q4 k a b
      unfold rnw
      rw [en, rnN_51, g 35 (by decide), g 51 (by decide), e35, e51, c2]
      by_cases t : iTg I k = -1
      · rw [if_neg (fun z => z.2 t), if_pos t, c4, if_pos t]
      · rw [if_pos ⟨by omega, t⟩, if_neg t, hfd k a b t]
    have hg : ∀ q, q ≠ 51 → q ≠ 66 → (rnw c d ξ).1 q = ξ q := fun q a b => rnw_g a b
    by_cases hs : pSt I sh
    · rw [if_pos (h2.mpr hs), if_pos hs]
      refine ⟨RC_of hR (hg _ (by decide) (by decide)) (hg _ (by decide) (by decide)) (hg _ (by decide) (by decide)) (hg _ (by decide) (by decide)) (hg _ (by decide) (by decide)) (hg _ (by decide) (by decide)), ?_, fun k a b => ?_⟩
      · rw [hg 50 (by decide) (by decide)]
        exact h3
      · rw [h51 k a b]
        by_cases t : iTg I k = -1
        · rw [if_pos t, if_pos t]
        · rw [if_neg t, if_neg t]
          rcases hs k a b with y | y
          · exact absurd y t
          · exact y.symm
    · rw [if_neg (fun z => hs (h2.mp z)), if_neg hs]
      refine stN_pure m _ (pRn I sh) (p + 1) ⟨?_, ?_, ?_, fun k a b => ?_⟩ ?_
      · rw [hg 30 (by decide) (by decide), e30]; exact q1
      · rw [hg 30 (by decide) (by decide), e30]; exact q2
      · rw [hg 30 (by decide) (by decide), e30]; exact q3
      · obtain ⟨c1, c2, c3, c4, c5, c6⟩ := q4 k a b
        rw [hg 33 (by decide) (by decide), hg 35 (by decide) (by decide), hg 61 (by decide) (by decide), e33, e35, e61]
        exact ⟨c1, c2, c3, h51 k a b, c5, fun _ => pFd_1⟩
      · rw [hg 50 (by decide) (by decide)]
        exact h3
theorem iS_inp : iS (inp μ d b) = sps d b μ := rfl
theorem stt_SHT (h9 : 0 ≤ μ 30 d 9) (hT : ∀ k, 0 ≤ k → k < μ 30 d 9 → -1 ≤ μ 35 d k ∧ μ 35 d k < 12) : SHT (stt c d b μ) c μ d b := by
  have hsf : sfr μ (mu (mu μ 50 c 5 (μ 30 d 7)) 50 c 0 (μ 30 d 9)) := fun k hk => by rw [mu_g (by omega), mu_g (by omega)]
  have hm := mwN_f (c := c) (d := d) (b := b) (μ 30 d 9).toNat 0 _ hsf
  have e0 : st0 c d b μ = mwN c d b (μ 30 d 9).toNat 0 (mu (mu μ 50 c 5 (μ 30 d 7)) 50 c 0 (μ 30 d 9)) := rfl
  rw [← e0] at hm
  have hg : ∀ q, q ≠ 51 → q ≠ 50 → q ≠ 61 → mu (st0 c d b μ) 50 c 3 0 q = μ q := fun q h1 h2 h3 => by rw [mu_g h2, st0_g h1 h2 h3]
  have hN : ((iN (inp μ d b) : Nat) : Int) = μ 30 d 9 := by
    show (((μ 30 d 9).toNat : Nat) : Int) = _
    omega
  have hPC : PC (mu (st0 c d b μ) 50 c 3 0) c d (inp μ d b) (fun _ => 1) := by
    refine ⟨by rw [hg 30 (by decide) (by decide) (by decide)]; rfl, by rw [hg 30 (by decide) (by decide) (by decide)]; rfl, by rw [hg 30 (by decide) (by decide) (by decide)]; exact hN.symm, fun k a b' => ?_⟩
    rw [hN] at b'
    have ht := hT k a b'
    obtain ⟨m1, m2⟩ := hm.2 k
    have hr : 0 ≤ k ∧ k < 0 + (((μ 30 d 9).toNat : Nat) : Int) := by omega
    rw [if_pos hr] at m1 m2
    rw [hg 33 (by decide) (by decide) (by decide), hg 35 (by decide) (by decide) (by decide), mu_g (k' := 51) (by decide), mu_g (k' := 61) (by decide), m1, m2]
    refine ⟨rfl, rfl, ?_, rfl, fun z => ?_, fun _ => Int.le_refl _⟩
    · show μ 35 d k = -1 ∨ 0 ≤ μ 35 d k ∧ μ 35 d k < 12
      omega
    · have z : μ 35 d k = -1 := z
      show (if μ 35 d k = -1 then bwd μ d b k else 0) = if (0 ≤ k ∧ k < μ 30 d 9) ∧ μ 35 d k = -1 then bwd μ d b k else 0
      rw [if_pos z, if_pos ⟨⟨a, b'⟩, z⟩]
  have h := stN_pure 4 _ _ 0 hPC (mu_at _ _ _ _)
  have es : stt c d b μ = stN c d (iS (inp μ d b)) 4 (mu (st0 c d b μ) 50 c 3 0) := rfl
  rw [← es] at h
  refine ⟨h.1, h.2.1, fun k a b' => h.2.2 k a (by omega), ?_, ?_⟩
  · rw [es, stN_j (by decide) (by decide) (by decide) (by decide), mu_j (by decide), hm.1, mu_j (by decide), mu_at]
    rfl
  · rw [es, stN_j (by decide) (by decide) (by decide) (by decide), mu_j (by decide), e0, mwN_j (by decide), mu_at]
end ZPB
