/-! ===== the law: its start ===== -/
section ZPK1
variable {Q : ZO → ZH → Prop} {i j n : Int} {u u' : ZV} {μ ν : ZU}
theorem st_77 {L : Nat} {xs : Nat → Int32} (q : ∀ (ck sk : Nat), 600000 ≤ ck → 7299000 ≤ sk → G 111 77 [zR 1 0, zR 2 0, zR 101 0, zR 102 0, zR 103 0, zR 104 0, zR 105 0, zR 106 0, zR 107 0, zR 108 0, zR 109 0, zR 110 0, zR 111 0, zR 112 0, zJ, zJ, zJ, zJ, zJ, zJ, zJ, zJ, zJ, zJ, zJ] [] (HM (mI L xs)) ck sk Q) : G 111 0 [zR 1 0, zJ, zJ, zJ, zJ, zJ, zJ, zJ, zJ, zJ, zJ, zJ, zJ, zJ, zJ, zJ, zJ, zJ, zJ, zJ, zJ, zJ, zJ, zJ, zJ] [] (zSC L xs) 600104 7301314 Q := by
  have hn : ∀ k (p : Int), k ≠ 1 → zSC L xs k p = none := fun k p hk => if_neg (fun z => hk z.1)
  rw [g111_0]
  refine ⟨⟨trivial, by decide, by decide⟩, 2, 0, by decide, hn 2 0 (by decide), ?_⟩
  rw [g111_3r, g111_4]
  refine ⟨⟨by decide, by decide, by simp only [List.length_cons, List.length_nil]; omega, zGO_s.mpr trivial⟩, ?_⟩
  refine i43 (fun k h1 h2 => hn k 0 (by omega)) ?_
  rw [gback_n, g111_7]
  have hB : ∀ k, 67 ≤ k → zset (HBx (zSC L xs)) 2 0 (.inl (8, obB)) k 0 = none := fun k hk => by
    unfold HBx HPr HS
    simp (disch := omega) only [zset_k]
    exact hn k 0 (by omega)
  rw [g111_8, g111_10]
  refine ⟨⟨⟨by decide, by decide⟩, by decide, by decide⟩, 101, 0, by decide, by exact hB 101 (by decide), ?_⟩
  rw [g111_12]
  rw [g111_13, g111_15]
  refine ⟨⟨⟨by decide, by decide⟩, by decide, by decide⟩, 102, 0, by decide, by simp (disch := decide) only [zset_k]; exact hB 102 (by decide), ?_⟩
  rw [g111_17]
  rw [g111_18, g111_20]
  refine ⟨⟨⟨by decide, by decide⟩, by decide, by decide⟩, 103, 0, by decide, by simp (disch := decide) only [zset_k]; exact hB 103 (by decide), ?_⟩
  rw [g111_22]
  rw [g111_24, g111_26]
  refine ⟨⟨⟨by decide, by decide⟩, by decide, by decide⟩, 104, 0, by decide, by simp (disch := decide) only [zset_k]; exact hB 104 (by decide), ?_⟩
  rw [g111_28]
  rw [g111_30, g111_32]
  refine ⟨⟨⟨by decide, by decide⟩, by decide, by decide⟩, 105, 0, by decide, by simp (disch := decide) only [zset_k]; exact hB 105 (by decide), ?_⟩
  rw [g111_34]
  rw [g111_36, g111_38]
  refine ⟨⟨⟨by decide, by decide⟩, by decide, by decide⟩, 106, 0, by decide, by simp (disch := decide) only [zset_k]; exact hB 106 (by decide), ?_⟩
  rw [g111_40]
  rw [g111_42, g111_43]
  refine ⟨⟨⟨by decide, by decide⟩, by decide, by decide⟩, 107, 0, by decide, by simp (disch := decide) only [zset_k]; exact hB 107 (by decide), ?_⟩
  rw [g111_45]
  rw [g111_47, g111_49]
  refine ⟨⟨⟨by decide, by decide⟩, by decide, by decide⟩, 108, 0, by decide, by simp (disch := decide) only [zset_k]; exact hB 108 (by decide), ?_⟩
  rw [g111_51]
  rw [g111_53, g111_55]
  refine ⟨⟨⟨by decide, by decide⟩, by decide, by decide⟩, 109, 0, by decide, by simp (disch := decide) only [zset_k]; exact hB 109 (by decide), ?_⟩
  rw [g111_57]
  rw [g111_59, g111_61]
  refine ⟨⟨⟨by decide, by decide⟩, by decide, by decide⟩, 110, 0, by decide, by simp (disch := decide) only [zset_k]; exact hB 110 (by decide), ?_⟩
  rw [g111_63]
  rw [g111_65, g111_67]
  refine ⟨⟨⟨by decide, by decide⟩, by decide, by decide⟩, 111, 0, by decide, by simp (disch := decide) only [zset_k]; exact hB 111 (by decide), ?_⟩
  rw [g111_69]
  rw [g111_71, g111_73]
  refine ⟨⟨⟨by decide, by decide⟩, by decide, by decide⟩, 112, 0, by decide, by simp (disch := decide) only [zset_k]; exact hB 112 (by decide), ?_⟩
  rw [g111_75]
  have e : HM (mI L xs) = HMd (zset (HBx (zSC L xs)) 2 0 (.inl (8, obB))) := HM_st.symm
  rw [e] at q
  exact q _ _ (by decide) (by decide)
/-- the law's document, then the class's -/
def mS1 (W H : Int) (μ : ZU) : ZU := mu (mu μ 106 0 10 W) 106 0 11 H
def mS2 (W H : Int) (μ : ZU) : ZU := mDc 0 W H (mu (mS1 W H μ) 2 0 8 1)
def mS3 (W H : Int) (μ : ZU) : ZU := mu (mu (mu (mu (mS2 W H μ) 106 0 6 0) 106 0 7 1) 106 0 8 2) 106 0 9 3
theorem RWz_0 {L : Nat} {xs : Nat → Int32} {W H : Int} (hW : 20 ≤ W ∧ W < 140) (hH : 3 ≤ H ∧ H < 13) : RWz (mS3 W H (mI L xs)) 0 := by
  have z0 : ∀ j, j ≠ 50 → j ≠ 30 → mS3 W H (mI L xs) 0 0 j = 0 := fun j hj h3 => by
    unfold mS3 mS2 mS1
    rw [mu_g (by decide), mu_g (by decide), mu_g (by decide), mu_g (by decide)]
    show (if (0 : Nat) = 0 then (if (0 : Int) = 0 ∧ j = 30 then 0 + 1 else mu (mu (mu (mI L xs) 106 0 10 W) 106 0 11 H) 2 0 8 1 0 0 j) else _) = 0
    rw [if_pos rfl, if_neg (fun z => h3 z.2), mu_g (by decide), mu_g (by decide), mu_g (by decide)]
    show (if (0 : Nat) = 0 then (if (0 : Int) = 0 ∧ j = 50 then 1 else if (0 : Int) = 2 ∧ j = 0 then (L : Int) else 0) else _) = 0
    rw [if_pos rfl, if_neg (fun z => hj z.2), if_neg (fun z => absurd z.1 (by decide))]
  have z50 : mS3 W H (mI L xs) 0 0 50 = 1 := by
    unfold mS3 mS2 mS1
    rw [mu_g (by decide), mu_g (by decide), mu_g (by decide), mu_g (by decide)]
    rfl
  have z30 : mS3 W H (mI L xs) 0 0 30 = 1 := by
    unfold mS3 mS2 mS1
    rw [mu_g (by decide), mu_g (by decide), mu_g (by decide), mu_g (by decide)]
    rfl
  have zk : ∀ (k : Nat) (p j : Int), k ≠ 0 → k ≠ 1 → k ≠ 2 → ¬ (30 ≤ k ∧ k ≤ 35) → k ≠ 106 → mS3 W H (mI L xs) k p j = 0 := fun k p j h0 h1 h2 h3 h6 => by
    unfold mS3 mS2 mS1
    rw [mu_g h6, mu_g h6, mu_g h6, mu_g h6]
    show (if k = 0 then _ else if p = 0 then (if k = 30 then _ else if k = 31 then _ else if 32 ≤ k ∧ k ≤ 35 then 0 else mu (mu (mu (mI L xs) 106 0 10 W) 106 0 11 H) 2 0 8 1 k p j) else mu (mu (mu (mI L xs) 106 0 10 W) 106 0 11 H) 2 0 8 1 k p j) = 0
    rw [if_neg h0, if_neg (show ¬ k = 30 by omega), if_neg (show ¬ k = 31 by omega), if_neg (show ¬ (32 ≤ k ∧ k ≤ 35) by omega), ite_self, mu_g h2, mu_g h6, mu_g h6]
    show (if k = 0 then _ else if k = 1 then _ else 0) = 0
    rw [if_neg h0, if_neg h1]
  have z2 : ∀ j, mS3 W H (mI L xs) 2 0 j = if j = 8 then 1 else 0 := fun j => by
    unfold mS3 mS2 mS1
    rw [mu_g (by decide), mu_g (by decide), mu_g (by decide), mu_g (by decide)]
    show mu (mu (mu (mI L xs) 106 0 10 W) 106 0 11 H) 2 0 8 1 2 0 j = _
    by_cases q : j = 8
    · rw [q, mu_at, if_pos rfl]
    · rw [mu_j q, if_neg q, mu_g (by decide), mu_g (by decide)]
      rfl
  have z6 : ∀ j, mS3 W H (mI L xs) 106 0 j = if j = 9 then 3 else if j = 8 then 2 else if j = 7 then 1 else if j = 6 then 0 else if j = 11 then H else if j = 10 then W else 0 := fun j => by
    unfold mS3
    have e : mS2 W H (mI L xs) 106 0 j = if j = 11 then H else if j = 10 then W else 0 := by
      unfold mS2 mS1
      show mu (mu (mu (mI L xs) 106 0 10 W) 106 0 11 H) 2 0 8 1 106 0 j = _
      rw [mu_g (by decide)]
      by_cases q : j = 11
      · rw [q, mu_at, if_pos rfl]
      · rw [mu_j q, if_neg q]
        by_cases q2 : j = 10
        · rw [q2, mu_at, if_pos rfl]
        · rw [mu_j q2, if_neg q2]
          rfl
    by_cases q9 : j = 9
    · rw [q9, mu_at, if_pos rfl]
    · rw [mu_j q9, if_neg q9]
      by_cases q8 : j = 8
      · rw [q8, mu_at, if_pos rfl]
      · rw [mu_j q8, if_neg q8]
        by_cases q7 : j = 7
        · rw [q7, mu_at, if_pos rfl]
        · rw [mu_j q7, if_neg q7]
          by_cases q6 : j = 6
          · rw [q6, mu_at, if_pos rfl]
          · rw [mu_j q6, if_neg q6, e]
  have d30 : ∀ j, mS3 W H (mI L xs) 30 0 j = if j = 0 then W else if j = 1 then H else 0 := fun j => by
    unfold mS3 mS2
    rw [mu_g (by decide), mu_g (by decide), mu_g (by decide), mu_g (by decide)]
    rfl
  have d31 : ∀ j, mS3 W H (mI L xs) 31 0 j = if 0 ≤ j ∧ j < 4 then j else 0 := fun j => by
    unfold mS3 mS2
    rw [mu_g (by decide), mu_g (by decide), mu_g (by decide), mu_g (by decide)]
    rfl
  generalize mS3 W H (mI L xs) = μ at *
  have g0 : ∀ j, j ≠ 6 → j ≠ 7 → j ≠ 8 → j ≠ 9 → j ≠ 10 → j ≠ 11 → μ 106 0 j = 0 := fun j a b c d e f => by rw [z6, if_neg d, if_neg c, if_neg b, if_neg a, if_neg f, if_neg e]
  have g10 : μ 106 0 10 = W := by rw [z6]; rfl
  have g11 : μ 106 0 11 = H := by rw [z6]; rfl
  have g6s : ∀ s, 0 ≤ s → s < 4 → μ 106 0 (6 + s) = s := fun s s0 s1 => by
    have hs : s = 0 ∨ s = 1 ∨ s = 2 ∨ s = 3 := by omega
    rcases hs with rfl | rfl | rfl | rfl <;> rw [z6] <;> rfl
  have hld : ldB μ := by
    unfold ldB
    rw [g0 2 (by decide) (by decide) (by decide) (by decide) (by decide) (by decide), g0 3 (by decide) (by decide) (by decide) (by decide) (by decide) (by decide), g10, g11]
    refine ⟨by omega, by omega, by omega, by omega, fun s s0 s1 => by rw [g6s s s0 s1]; omega, fun j _ _ => by rw [zk 105 0 j (by decide) (by decide) (by decide) (by decide) (by decide)]; omega, fun k _ _ => by rw [zk 104 0 k (by decide) (by decide) (by decide) (by decide) (by decide)]; exact ⟨by omega, by omega, fun z => absurd z (by omega)⟩⟩
  refine ⟨by omega, ?_, fun l l0 l1 => ?_, ⟨fun i i0 i1 => ?_, fun k k0 k1 => zk 103 0 k (by decide) (by decide) (by decide) (by decide) (by decide)⟩, ?_, fun o o0 o1 => ?_, ⟨fun j j0 j1 => ?_, fun b b0 b1 => ?_⟩, fun b b0 b1 => ?_, fun q _ _ => ?_⟩
  · unfold RWa
    rw [z0 10 (by decide) (by decide), z0 20 (by decide) (by decide), z0 40 (by decide) (by decide), z0 41 (by decide) (by decide), z0 26 (by decide) (by decide), z0 113 (by decide) (by decide), z0 115 (by decide) (by decide), z30, z50, z2, z2, z2, z2, z2, g0 0 (by decide) (by decide) (by decide) (by decide) (by decide) (by decide), g0 1 (by decide) (by decide) (by decide) (by decide) (by decide) (by decide), g0 12 (by decide) (by decide) (by decide) (by decide) (by decide) (by decide), g0 13 (by decide) (by decide) (by decide) (by decide) (by decide) (by decide)]
    decide
  · rw [z0 10 (by decide) (by decide), zk 102 0 l (by decide) (by decide) (by decide) (by decide) (by decide)]
    exact ⟨fun z => by omega, fun _ => ⟨rfl, fun j _ _ => zk 101 0 _ (by decide) (by decide) (by decide) (by decide) (by decide)⟩⟩
  · rw [z0 20 (by decide) (by decide)] at i1
    omega
  · unfold RWd
    rw [d30, d30, d30, d30, d30, d30, g10, g11, g0 2 (by decide) (by decide) (by decide) (by decide) (by decide) (by decide), g0 5 (by decide) (by decide) (by decide) (by decide) (by decide) (by decide), g0 3 (by decide) (by decide) (by decide) (by decide) (by decide) (by decide), g0 4 (by decide) (by decide) (by decide) (by decide) (by decide) (by decide)]
    refine ⟨⟨rfl, rfl, rfl, rfl, rfl, rfl⟩, by omega, by omega, fun s s0 s1 => ?_, hld, fun j j0 j1 => by omega, fun z => by omega, fun k k0 k1 => by omega⟩
    rw [d31, if_pos ⟨s0, s1⟩]
    have hs : s = 0 ∨ s = 1 ∨ s = 2 ∨ s = 3 := by omega
    rcases hs with rfl | rfl | rfl | rfl <;> rw [z6] <;> rfl
  · rw [g0 _ (by omega) (by omega) (by omega) (by omega) (by omega) (by omega), zk 7 0 o (by decide) (by decide) (by decide) (by decide) (by decide)]
    omega
  · rw [z0 40 (by decide) (by decide)] at j1
    omega
  · rw [z0 41 (by decide) (by decide)] at b1
    omega
  · rw [z0 41 (by decide) (by decide)] at b1
    omega
  · rw [zk 108 0 q (by decide) (by decide) (by decide) (by decide) (by decide), zk 109 0 q (by decide) (by decide) (by decide) (by decide) (by decide)]
    omega
end ZPK1
