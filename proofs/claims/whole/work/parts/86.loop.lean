/-! ===== the law's loop ===== -/
section ZLP
variable {Q : ZO → ZH → Prop} {L : Int}
theorem lp (hQ : ∀ h, Q (.inl (some (zI 1))) h) (hL : L ≤ 2560) (hL0 : 0 ≤ L) : ∀ (n : Nat) (i t : Int) (ck sk : Nat) (x5 x6 : ZV) (μ : ZU), RV L t μ → 0 ≤ t → t + n ≤ 1000 → 0 ≤ i → i ≤ 10000 → L < i + 5 * n + 5 → 13 * n ≤ ck → 406 * n ≤ sk → G 174 23 [zR 1 0, zR 2 0, zR 100 0, zR 200 0, zI i, x5, x6] [] (HM μ) ck sk Q
  | 0, i, t, ck, sk, x5, x6, μ, h, ht0, htn, h0, hi, hn, hck, hsk => by
    have h1 := h.1
    rw [g174_23, g174_25, g174_26, ln1, g174_27, g174_28 (by omega) (by omega), g174_29, if_pos (by omega), g174_1961, g174_1962]
    exact ⟨Or.inr rfl, hQ _⟩
  | n + 1, i, t, ck, sk, x5, x6, μ, h, ht0, htn, h0, hi, hn, hck, hsk => by
    have h1 := h.1
    rw [g174_23, g174_25, g174_26, ln1, g174_27, g174_28 (by omega) (by omega), g174_29]
    by_cases hx : L - 5 < i
    · rw [if_pos (by omega), g174_1961, g174_1962]
      exact ⟨Or.inr rfl, hQ _⟩
    · -- one turn
      rw [if_neg (by omega), g174_32, g174_33, g174_35, rd1]
      refine ⟨⟨h0, by omega⟩, ?_⟩
      rw [zro_at, g174_36, g174_38]
      generalize zand (μ 1 0 i) 31 = z
      have ht : t ≤ 1000 := by omega
      have q : KT L t i ck sk Q := fun ck' sk' x5 x6 μ' h' c1 c2 => by
        rw [g174_1955 (by omega) (by omega), g174_1958]
        exact lp hQ hL hL0 n (i + 5) (t + 1) ck' sk' x5 x6 μ' h' (by omega) (by omega) (by omega) (by omega) (by omega) (by omega) (by omega)
      by_cases hz : z < 0 ∨ 25 < z
      · rw [g174_39_d hz]
        exact q ck sk x5 x6 μ (RV_1 h) (by omega) (by omega)
      have hz2 : z = 0 ∨ z = 1 ∨ z = 2 ∨ z = 3 ∨ z = 4 ∨ z = 5 ∨ z = 6 ∨ z = 7 ∨ z = 8 ∨ z = 9 ∨ z = 10 ∨ z = 11 ∨ z = 12 ∨ z = 13 ∨ z = 14 ∨ z = 15 ∨ z = 16 ∨ z = 17 ∨ z = 18 ∨ z = 19 ∨ z = 20 ∨ z = 21 ∨ z = 22 ∨ z = 23 ∨ z = 24 ∨ z = 25 := by omega
      rcases hz2 with rfl | rfl | rfl | rfl | rfl | rfl | rfl | rfl | rfl | rfl | rfl | rfl | rfl | rfl | rfl | rfl | rfl | rfl | rfl | rfl | rfl | rfl | rfl | rfl | rfl | rfl
      · exact g174_39_0.mpr (cm0 h h0 (by omega) hL (by omega) (by omega) q)
      · exact g174_39_1.mpr (cm1 h h0 (by omega) hL (by omega) (by omega) q)
      · exact g174_39_2.mpr (cm2 h h0 (by omega) hL (by omega) (by omega) q)
      · exact g174_39_3.mpr (cm3 h h0 (by omega) hL (by omega) (by omega) q)
      · exact g174_39_4.mpr (cm4 h h0 (by omega) hL (by omega) (by omega) q)
      · exact g174_39_5.mpr (cm5 h h0 (by omega) hL ht0 ht (by omega) (by omega) q)
      · exact g174_39_6.mpr (cm6 h h0 (by omega) hL ht (by omega) (by omega) q)
      · exact g174_39_7.mpr (cm7 h h0 (by omega) hL (by omega) (by omega) q)
      · exact g174_39_8.mpr (cm8 h h0 (by omega) hL (by omega) (by omega) q)
      · exact g174_39_9.mpr (cm9 h h0 (by omega) hL ht0 (by omega) (by omega) q)
      · exact g174_39_10.mpr (cm10 h h0 (by omega) hL ht (by omega) (by omega) q)
      · exact g174_39_11.mpr (cm11 h h0 (by omega) hL ht (by omega) (by omega) q)
      · exact g174_39_12.mpr (cm12 h h0 (by omega) hL ht (by omega) (by omega) q)
      · exact g174_39_13.mpr (cm13 h h0 (by omega) hL ht (by omega) (by omega) q)
      · exact g174_39_14.mpr (cm14 h h0 (by omega) hL ht (by omega) (by omega) q)
      · exact g174_39_15.mpr (cm15 h h0 (by omega) hL (by omega) (by omega) q)
      · exact g174_39_16.mpr (cm16 h h0 (by omega) hL ht (by omega) (by omega) q)
      · exact g174_39_17.mpr (cm17 h h0 (by omega) hL (by omega) (by omega) q)
      · exact g174_39_18.mpr (cm18 h h0 (by omega) hL (by omega) (by omega) q)
      · exact g174_39_19.mpr (cm19 h h0 (by omega) hL (by omega) (by omega) q)
      · exact g174_39_20.mpr (cm20 h h0 (by omega) hL (by omega) (by omega) q)
      · exact g174_39_21.mpr (cm21 h h0 (by omega) hL (by omega) (by omega) q)
      · exact g174_39_22.mpr (cm22 h h0 (by omega) hL (by omega) (by omega) q)
      · exact g174_39_23.mpr (cm23 h h0 (by omega) hL (by omega) (by omega) q)
      · exact g174_39_24.mpr (cm24 h h0 (by omega) hL (by omega) (by omega) q)
      · exact g174_39_25.mpr (cm25 h h0 (by omega) hL (by omega) (by omega) q)
/-! the start -/
theorem RV_0 {L : Nat} {xs : Nat → Int32} : RV L 0 (mI L xs) := by
  have z0 : ∀ j, j ≠ 50 → mI L xs 0 0 j = 0 := fun j hj => by
    show (if (0 : Nat) = 0 then (if (0 : Int) = 0 ∧ j = 50 then 1 else if (0 : Int) = 2 ∧ j = 0 then (L : Int) else 0) else _) = _
    rw [if_pos rfl, if_neg (fun z => hj z.2), if_neg (fun z => absurd z.1 (by decide))]
  have z50 : mI L xs 0 0 50 = 1 := rfl
  have z2 : mI L xs 0 2 0 = L := rfl
  have zk : ∀ (k : Nat) (p j : Int), k ≠ 0 → k ≠ 1 → mI L xs k p j = 0 := fun k p j h0 h1 => by
    show (if k = 0 then _ else if k = 1 then _ else 0) = _
    rw [if_neg h0, if_neg h1]
  generalize mI L xs = μ at *
  refine ⟨z2, ?_, ?_, ?_, ?_, ?_, ?_, by rw [z0 41 (by decide), z0 40 (by decide)]; exact Int.le_refl _⟩
  · unfold RLa
    rw [z0 10 (by decide), zk 2 0 6 (by decide) (by decide), zk 100 0 0 (by decide) (by decide)]
    refine ⟨by omega, rfl, rfl, fun a a0 a1 => by omega, fun a a0 a1 => ⟨zk 102 0 a (by decide) (by decide), fun f f0 f1 => ⟨zk 103 0 _ (by decide) (by decide), zk 104 0 _ (by decide) (by decide), zk 105 0 _ (by decide) (by decide)⟩⟩⟩
  · unfold RLb
    rw [z0 20 (by decide), zk 2 0 7 (by decide) (by decide), zk 100 0 5 (by decide) (by decide), z0 26 (by decide)]
    exact ⟨by omega, rfl, rfl, by omega, fun a a0 a1 => by omega, fun k k0 k1 => Or.inl (zk 110 0 k (by decide) (by decide))⟩
  · unfold RLc
    rw [z0 30 (by decide), zk 2 0 8 (by decide) (by decide), zk 100 0 12 (by decide) (by decide)]
    exact ⟨by omega, rfl, rfl, fun a a0 a1 => by omega, fun d d0 d1 => ⟨zk 116 0 d (by decide) (by decide), zk 118 0 d (by decide) (by decide), zk 119 0 d (by decide) (by decide), zk 122 0 d (by decide) (by decide)⟩⟩
  · intro a a0 a1
    rw [zk 125 0 a (by decide) (by decide), zk 7 0 a (by decide) (by decide)]
    omega
  · unfold RLe
    rw [z0 40 (by decide), zk 2 0 9 (by decide) (by decide), zk 100 0 25 (by decide) (by decide), z0 41 (by decide)]
    exact ⟨by omega, rfl, rfl, fun a a0 a1 => by omega, fun a a0 a1 => by omega⟩
  · unfold RLf
    rw [z0 41 (by decide), zk 2 0 10 (by decide) (by decide), zk 100 0 31 (by decide) (by decide), z50]
    exact ⟨by omega, rfl, rfl, rfl, fun a a0 a1 => by omega⟩
theorem st_run {L : Nat} {xs : Nat → Int32} (hL : L ≤ 2560) (hQ : ∀ h, Q (.inl (some (zI 1))) h) : G 174 0 [zR 1 0, zJ, zJ, zJ, zJ, zJ, zJ] [] (zSC L xs) 601024 7293034 Q := by
  have hn : ∀ k (p : Int), k ≠ 1 → zSC L xs k p = none := fun k p hk => if_neg (fun z => hk z.1)
  rw [g174_0]
  refine ⟨⟨trivial, by decide, by decide⟩, 2, 0, by decide, hn 2 0 (by decide), ?_⟩
  rw [g174_3r, g174_4]
  refine ⟨⟨by decide, by decide, by simp only [List.length_cons, List.length_nil]; omega, zGO_s.mpr trivial⟩, ?_⟩
  refine i43 (fun k h1 h2 => hn k 0 (by omega)) ?_
  rw [gback_n, g174_7, g174_8]
  have hB : ∀ k, 67 ≤ k → zset (HBx (zSC L xs)) 2 0 (.inl (8, obB)) k 0 = none := fun k hk => by
    unfold HBx HPr HS
    simp (disch := omega) only [zset_k]
    exact hn k 0 (by omega)
  refine ⟨⟨trivial, by decide, by decide⟩, 100, 0, by decide, hB 100 (by decide), ?_⟩
  rw [g174_11r, g174_12]
  refine ⟨⟨by decide, by decide, by simp only [List.length_cons, List.length_nil]; omega, zGO_s.mpr trivial⟩, ?_⟩
  refine i91 (fun k h1 h2 => hB k (by omega)) ?_
  rw [gback_n, g174_15, g174_16, g174_17]
  refine ⟨⟨⟨by decide, by decide⟩, by decide, by decide⟩, 200, 0, by decide, ?_, ?_⟩
  · unfold HMd
    simp (disch := decide) only [zset_k]
    exact hB 200 (by decide)
  have e1 : (1 : Int).toNat = 1 := rfl
  rw [e1, g174_19, g174_20, g174_21, HM_st]
  exact lp (L := L) hQ (by omega) (by omega) 512 0 0 _ _ zJ zJ _ RV_0 (Int.le_refl _) (by decide) (Int.le_refl _) (by decide) (by omega) (by decide) (by decide)
end ZLP
