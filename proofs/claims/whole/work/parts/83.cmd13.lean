/-! ===== the command run ===== -/
section ZDB1
variable {ck sk : Nat} {Q : ZO → ZH → Prop} {L t i a b c d e f j k l m n o s v w x : Int} {u u' u1 u2 u3 u4 x5 x6 : ZV} {μ ν κ M Φ : ZU}
theorem RV_j (h : RV L t M) (hn : M 0 0 40 = n) (h6 : n < 40) (f0 : ∀ p j, ¬ (p = 0 ∧ (j = 40 ∨ j = 41 ∨ j = 50)) → Φ 0 p j = M 0 p j) (c1 : Φ 0 0 40 = n + 1) (c2 : Φ 2 0 9 = n + 1) (f2 : ∀ j, (6 ≤ j ∧ j ≤ 8) → Φ 2 0 j = M 2 0 j) (c3 : Φ 100 0 25 = n + 1) (f3 : ∀ j, j < 25 → Φ 100 0 j = M 100 0 j) (hk : ∀ k, ((10 ≤ k ∧ k ≤ 35) ∨ (102 ≤ k ∧ k ≤ 124)) → Φ k = M k) (hd : RLd Φ) (hf : RLf Φ) (h41 : Φ 0 0 41 = M 0 0 41 ∨ (Φ 0 0 41 = M 0 0 41 + 1 ∧ b = M 0 0 41)) (hb : b = -1 ∨ (0 ≤ b ∧ b < Φ 0 0 41)) (hd' : 0 ≤ d ∧ d < M 0 0 30) (hi : 0 ≤ f ∧ f < M 0 0 20)
    (ho : ∀ j, j ≠ n → Φ 40 j = M 40 j ∧ Φ 130 0 j = M 130 0 j ∧ Φ 131 0 j = M 131 0 j ∧ Φ 127 0 j = M 127 0 j ∧ Φ 128 0 j = M 128 0 j ∧ Φ 129 0 j = M 129 0 j)
    (hw : (Φ 40 n 0 = d ∧ Φ 130 0 n = d) ∧ (Φ 40 n 1 = f ∧ Φ 131 0 n = f) ∧ Φ 127 0 n = Φ 40 n 2 ∧ Φ 128 0 n = Φ 40 n 3 ∧ Φ 40 n 4 = b ∧ Φ 129 0 n = b) : RV L t Φ := by
  have e30 : Φ 0 0 30 = M 0 0 30 := f0 0 30 (by decide)
  have e20 : Φ 0 0 20 = M 0 0 20 := f0 0 20 (by decide)
  have h8 := h.2.2.2.2.2.2.2
  exact RV_x h (f0 2 0 (by decide)) (f0 0 26 (by decide)) (by funext j; exact f0 1 j (fun z => absurd z.1 (by decide))) (f0 0 10 (by decide)) e20 e30 f2 f3 hk hd (RLe_n h.2.2.2.2.2.1 hn h6 c1 c2 c3 (by omega) (by omega) h41 hb (by omega) (by omega) ho hw) hf (by omega)
theorem RV_rk (h : RV L t M) (hn : M 0 0 40 = n) (h6 : n < 40) (hd : 0 ≤ d ∧ d < M 0 0 30) (hi : 0 ≤ f ∧ f < M 0 0 20) (hb : 0 ≤ b ∧ b < M 0 0 41) : RV L t (rj0 (mu (mJb n d f 1 0 b (mu M 2 0 9 (n + 1))) 200 0 0 o) n d f b) := by
  have a40 : rj0 (mu (mJb n d f 1 0 b (mu M 2 0 9 (n + 1))) 200 0 0 o) n d f b 40 = mJb n d f 1 0 b (mu M 2 0 9 (n + 1)) 40 := by rw [rj0_g (by decide) (by decide), mu_g (by decide)]
  have g0 : ∀ p j, ¬ (p = 0 ∧ j = 40) → rj0 (mu (mJb n d f 1 0 b (mu M 2 0 9 (n + 1))) 200 0 0 o) n d f b 0 p j = M 0 p j := fun p j hp => by
    rw [rj0_g (by decide) (by decide), mu_g (by decide), mJb_0 hp, mu_g (by decide)]
  have g : ∀ k, k ≠ 0 → k ≠ 2 → k ≠ 40 → k ≠ 100 → k ≠ 200 → ¬ (127 ≤ k ∧ k ≤ 131) → rj0 (mu (mJb n d f 1 0 b (mu M 2 0 9 (n + 1))) 200 0 0 o) n d f b k = M k := fun k h0 h2 h40 h100 h200 hr => by
    rw [rj0_g h100 hr, mu_g h200, mJb_g h0 h40, mu_g h2]
  have g2 : ∀ j, j ≠ 9 → rj0 (mu (mJb n d f 1 0 b (mu M 2 0 9 (n + 1))) 200 0 0 o) n d f b 2 0 j = M 2 0 j := fun j hj => by
    rw [rj0_g (by decide) (by decide), mu_g (by decide), mJb_g (by decide) (by decide), mu_j hj]
  have g3 : ∀ j, j ≠ 25 → j ≠ 55 → rj0 (mu (mJb n d f 1 0 b (mu M 2 0 9 (n + 1))) 200 0 0 o) n d f b 100 0 j = M 100 0 j := fun j h1 h2 => by
    rw [rj0_r h1 h2, mu_g (by decide), mJb_g (by decide) (by decide), mu_g (by decide)]
  have gr : ∀ k, (127 ≤ k ∧ k ≤ 131) → ∀ j, j ≠ n → rj0 (mu (mJb n d f 1 0 b (mu M 2 0 9 (n + 1))) 200 0 0 o) n d f b k 0 j = M k 0 j := fun k hk j hj => by
    rw [rj0_o hk hj, mu_g (by omega), mJb_g (by omega) (by omega), mu_g (by omega)]
  obtain ⟨r1, r2, r3, r4, r5⟩ := rj0_at (μ := mu (mJb n d f 1 0 b (mu M 2 0 9 (n + 1))) 200 0 0 o) (n := n) (d := d) (i := f) (b := b)
  have c1 : rj0 (mu (mJb n d f 1 0 b (mu M 2 0 9 (n + 1))) 200 0 0 o) n d f b 0 0 40 = n + 1 := by
    rw [rj0_g (by decide) (by decide), mu_g (by decide), mJb_n]
  have c2 : rj0 (mu (mJb n d f 1 0 b (mu M 2 0 9 (n + 1))) 200 0 0 o) n d f b 2 0 9 = n + 1 := by
    rw [rj0_g (by decide) (by decide), mu_g (by decide), mJb_g (by decide) (by decide), mu_at]
  have c3 : rj0 (mu (mJb n d f 1 0 b (mu M 2 0 9 (n + 1))) 200 0 0 o) n d f b 100 0 25 = n + 1 := rj0_n
  generalize rj0 (mu (mJb n d f 1 0 b (mu M 2 0 9 (n + 1))) 200 0 0 o) n d f b = Φ at *
  have e41 : Φ 0 0 41 = M 0 0 41 := g0 0 41 (by decide)
  refine RV_j (b := b) (d := d) (f := f) h hn h6 (fun p j hp => g0 p j (fun z => hp ⟨z.1, Or.inl z.2⟩)) c1 c2 (fun j hj => g2 j (by omega)) c3 (fun j hj => g3 j (by omega) (by omega)) (fun k hk => g k (by omega) (by omega) (by omega) (by omega) (by omega) (by omega)) (RLd_c h.2.2.2.2.1 (g 7 (by decide) (by decide) (by decide) (by decide) (by decide) (by decide)) (g 125 (by decide) (by decide) (by decide) (by decide) (by decide) (by decide))) ?_ (Or.inl e41) (Or.inr (by omega)) hd hi (fun j hj => ⟨by rw [a40, mJb_o hj, mu_g (by decide)], gr 130 (by omega) j hj, gr 131 (by omega) j hj, gr 127 (by omega) j hj, gr 128 (by omega) j hj, gr 129 (by omega) j hj⟩) ?_
  · refine RLf_c h.2.2.2.2.2.2.1 e41 (g2 10 (by decide)) (g3 31 (by decide) (by decide)) (g0 0 50 (by decide)) (by rw [g0 0 30 (by decide)]; exact Int.le_refl _) (by rw [g0 0 20 (by decide)]; exact Int.le_refl _) (g 41 (by decide) (by decide) (by decide) (by decide) (by decide) (by decide)) (fun i _ _ => ?_) (fun k hk b _ _ => ?_) (fun k hk => g k (by omega) (by omega) (by omega) (by omega) (by omega) (by omega))
    · rw [g 22 (by decide) (by decide) (by decide) (by decide) (by decide) (by decide), g 23 (by decide) (by decide) (by decide) (by decide) (by decide) (by decide), g 24 (by decide) (by decide) (by decide) (by decide) (by decide) (by decide)]
      exact ⟨rfl, rfl, rfl⟩
    · rw [g k (by omega) (by omega) (by omega) (by omega) (by omega) (by omega)]
  · rw [a40, mJb_at, mJb_at, mJb_at, mJb_at, mJb_at, r1, r2, r3, r4, r5]
    simp
theorem RV_rs (h : RV L t M) (hn : M 0 0 40 = n) (h6 : n < 40) (ha : 0 ≤ a ∧ a ≤ 3) (hd : 0 ≤ d ∧ d < M 0 0 30) (hi : 0 ≤ f ∧ f < M 0 0 20) (hκ : κ = mu (mJb n d f 2 (M 7 0 a) (-1) (mu (mu M 7 0 a 0) 2 0 9 (n + 1))) 200 0 0 o) (hr : rfr (rj0 κ n d f (-1)) ν) : RV L t (rjS ν n a) := by
  have a40 : rjS ν n a 40 = mJb n d f 2 (M 7 0 a) (-1) (mu (mu M 7 0 a 0) 2 0 9 (n + 1)) 40 := by
    unfold rjS
    rw [mu_g (by decide), mu_g (by decide), mu_g (by decide), mu_g (by decide), hr.1 40 (by decide) (by omega), rj0_g (by decide) (by decide), hκ, mu_g (by decide)]
  have g0 : ∀ p j, ¬ (p = 0 ∧ j = 40) → rjS ν n a 0 p j = M 0 p j := fun p j hp => by
    unfold rjS
    rw [mu_g (by decide), mu_g (by decide), mu_g (by decide), mu_g (by decide), hr.1 0 (by decide) (by omega), rj0_g (by decide) (by decide), hκ, mu_g (by decide), mJb_0 hp, mu_g (by decide), mu_g (by decide)]
  have gn : ∀ k, k ≠ 0 → k ≠ 2 → k ≠ 7 → k ≠ 40 → k ≠ 100 → k ≠ 200 → ¬ (127 ≤ k ∧ k ≤ 131) → (k < 151 ∨ 155 < k) → ν k = M k := fun k h0 h2 h7 h40 h100 h200 hr' h151 => by
    rw [hr.1 k h100 h151, rj0_g h100 hr', hκ, mu_g h200, mJb_g h0 h40, mu_g h2, mu_g h7]
  have g : ∀ k, k ≠ 0 → k ≠ 2 → k ≠ 7 → k ≠ 40 → k ≠ 100 → k ≠ 125 → k ≠ 200 → ¬ (127 ≤ k ∧ k ≤ 131) → (k < 151 ∨ 155 < k) → rjS ν n a k = M k := fun k h0 h2 h7 h40 h100 h125 h200 hr' h151 => by
    unfold rjS
    rw [mu_g (by omega), mu_g (by omega), mu_g (by omega), mu_g (by omega), gn k h0 h2 h7 h40 h100 h200 hr' h151]
  have g2 : ∀ j, j ≠ 9 → rjS ν n a 2 0 j = M 2 0 j := fun j hj => by
    unfold rjS
    rw [mu_g (by decide), mu_g (by decide), mu_g (by decide), mu_g (by decide), hr.1 2 (by decide) (by omega), rj0_g (by decide) (by decide), hκ, mu_g (by decide), mJb_g (by decide) (by decide), mu_j hj, mu_g (by decide)]
  have g3 : ∀ j, j ≠ 25 → j ≠ 55 → j < 45 → rjS ν n a 100 0 j = M 100 0 j := fun j h1 h2 h3 => by
    unfold rjS
    rw [mu_g (by decide), mu_g (by decide), mu_g (by decide), mu_g (by decide), hr.2 0 j (by omega), rj0_r h1 h2, hκ, mu_g (by decide), mJb_g (by decide) (by decide), mu_g (by decide), mu_g (by decide)]
  have gr : ∀ k, (127 ≤ k ∧ k ≤ 131) → ∀ j, j ≠ n → rjS ν n a k 0 j = M k 0 j := fun k hk j hj => by
    have e : rjS ν n a k 0 j = ν k 0 j := by
      unfold rjS
      have : k = 127 ∨ k = 128 ∨ k = 129 ∨ k = 130 ∨ k = 131 := by omega
      rcases this with rfl | rfl | rfl | rfl | rfl <;> simp (disch := first | decide | exact hj) only [mu_g, mu_j]
    rw [e, hr.1 k (by omega) (by omega), rj0_o hk hj, hκ, mu_g (by omega), mJb_g (by omega) (by omega), mu_g (by omega), mu_g (by omega)]
  obtain ⟨r1, r2, r3, r4, r5⟩ := rj0_at (μ := κ) (n := n) (d := d) (i := f) (b := -1)
  have c1 : rjS ν n a 0 0 40 = n + 1 := by
    unfold rjS
    rw [mu_g (by decide), mu_g (by decide), mu_g (by decide), mu_g (by decide), hr.1 0 (by decide) (by omega), rj0_g (by decide) (by decide), hκ, mu_g (by decide), mJb_n]
  have c2 : rjS ν n a 2 0 9 = n + 1 := by
    unfold rjS
    rw [mu_g (by decide), mu_g (by decide), mu_g (by decide), mu_g (by decide), hr.1 2 (by decide) (by omega), rj0_g (by decide) (by decide), hκ, mu_g (by decide), mJb_g (by decide) (by decide), mu_at]
  have c3 : rjS ν n a 100 0 25 = n + 1 := by
    unfold rjS
    rw [mu_g (by decide), mu_g (by decide), mu_g (by decide), mu_g (by decide), hr.2 0 25 (by omega)]
    exact rj0_n
  have q130 : rjS ν n a 130 0 n = d := by
    unfold rjS
    rw [mu_g (by decide), mu_g (by decide), mu_g (by decide), mu_g (by decide), hr.1 130 (by decide) (by omega), r1]
  have q131 : rjS ν n a 131 0 n = f := by
    unfold rjS
    rw [mu_g (by decide), mu_g (by decide), mu_g (by decide), mu_g (by decide), hr.1 131 (by decide) (by omega), r2]
  have e125 : ν 125 = M 125 := gn 125 (by decide) (by decide) (by decide) (by decide) (by decide) (by decide) (by decide) (by decide)
  have q127 : rjS ν n a 127 0 n = 2 := by
    unfold rjS
    simp (disch := decide) only [mu_g, mu_at]
  have q128 : rjS ν n a 128 0 n = M 7 0 a := by
    rw [← (h.2.2.2.2.1 a ha.1 ha.2).1, ← e125]
    unfold rjS
    simp (disch := decide) only [mu_g, mu_at]
  have q129 : rjS ν n a 129 0 n = -1 := mu_at ..
  have q7 : ∀ j, rjS ν n a 7 0 j = mu M 7 0 a 0 7 0 j := fun j => by
    unfold rjS
    rw [mu_g (by decide), mu_g (by decide), mu_g (by decide), mu_g (by decide), hr.1 7 (by decide) (by omega), rj0_g (by decide) (by decide), hκ, mu_g (by decide), mJb_g (by decide) (by decide), mu_g (by decide)]
  have q125 : ∀ j, rjS ν n a 125 0 j = mu M 125 0 a 0 125 0 j := fun j => by
    unfold rjS
    rw [mu_g (by decide)]
    by_cases hj : j = a
    · rw [hj, mu_at, mu_at]
      omega
    · rw [mu_j hj, mu_j hj, mu_g (by decide), mu_g (by decide), e125]
  generalize rjS ν n a = Φ at *
  have e41 : Φ 0 0 41 = M 0 0 41 := g0 0 41 (by decide)
  refine RV_j (b := -1) (d := d) (f := f) h hn h6 (fun p j hp => g0 p j (fun z => hp ⟨z.1, Or.inl z.2⟩)) c1 c2 (fun j hj => g2 j (by omega)) c3 (fun j hj => g3 j (by omega) (by omega) (by omega)) (fun k hk => g k (by omega) (by omega) (by omega) (by omega) (by omega) (by omega) (by omega) (by omega) (by omega)) ?_ ?_ (Or.inl e41) (Or.inl rfl) hd hi (fun j hj => ⟨by rw [a40, mJb_o hj, mu_g (by decide), mu_g (by decide)], gr 130 (by omega) j hj, gr 131 (by omega) j hj, gr 127 (by omega) j hj, gr 128 (by omega) j hj, gr 129 (by omega) j hj⟩) ?_
  · intro j j0 j1
    rw [q7, q125]
    by_cases hj : j = a
    · rw [hj, mu_at, mu_at]
      omega
    · rw [mu_j hj, mu_j hj]
      exact h.2.2.2.2.1 j j0 j1
  · refine RLf_c h.2.2.2.2.2.2.1 e41 (g2 10 (by decide)) (g3 31 (by decide) (by decide) (by decide)) (g0 0 50 (by decide)) (by rw [g0 0 30 (by decide)]; exact Int.le_refl _) (by rw [g0 0 20 (by decide)]; exact Int.le_refl _) (g 41 (by decide) (by decide) (by decide) (by decide) (by decide) (by decide) (by decide) (by decide) (by decide)) (fun i _ _ => ?_) (fun k hk b _ _ => ?_) (fun k hk => g k (by omega) (by omega) (by omega) (by omega) (by omega) (by omega) (by omega) (by omega) (by omega))
    · rw [g 22 (by decide) (by decide) (by decide) (by decide) (by decide) (by decide) (by decide) (by decide) (by decide), g 23 (by decide) (by decide) (by decide) (by decide) (by decide) (by decide) (by decide) (by decide) (by decide), g 24 (by decide) (by decide) (by decide) (by decide) (by decide) (by decide) (by decide) (by decide) (by decide)]
      exact ⟨rfl, rfl, rfl⟩
    · rw [g k (by omega) (by omega) (by omega) (by omega) (by omega) (by omega) (by omega) (by omega) (by omega)]
  · rw [a40, mJb_at, mJb_at, mJb_at, mJb_at, mJb_at, q127, q128, q129, q130, q131]
    simp
/-- what is new in a build -/
theorem bld_n (h : RV L t M) (hm : M 0 0 41 = m) (hd : 0 ≤ d ∧ d < M 0 0 30) (hi : 0 ≤ f ∧ f < M 0 0 20) (h35 : ∀ w, κ 35 d w = M 35 d w) (h122 : κ 122 0 d = M 122 0 d) (hP : PS κ m d f M ν) (p5 : M 50 m 5 = ν 100 0 49) (p0 : M 50 m 0 = M 122 0 d) (p1 : 0 ≤ M 50 m 1 ∧ M 50 m 1 ≤ 60) (p2 : 0 ≤ M 50 m 2 ∧ M 50 m 2 ≤ 60) (pm : ∀ l k, 0 ≤ l → l ≤ k → k < M 50 m 1 → 0 ≤ M 56 m l ∧ M 56 m l ≤ M 56 m k)
    (hν : ∀ k, (k = 110 ∨ k = 111 ∨ k = 112 ∨ k = 116 ∨ k = 122 ∨ k = 124) → ν k = M k) {ψ : ZU} (hψ : ∀ k, (k = 110 ∨ k = 111 ∨ k = 112 ∨ k = 116 ∨ k = 122 ∨ k = 124 ∨ k = 151 ∨ k = 152 ∨ k = 100) → ψ k = ν k) (hΦ : ∀ k, (133 ≤ k ∧ k ≤ 145) → Φ k = rbd ψ m d f k) (f41 : ∀ j, Φ 41 m j = if j = 0 then m else if j = 1 then M 30 d 10 else if j = 2 then d else if j = 3 then f else 0) (f30 : Φ 0 0 30 = M 0 0 30) (f20 : Φ 0 0 20 = M 0 0 20) (f22 : ∀ k, (22 ≤ k ∧ k ≤ 24) → Φ k = M k) (f50 : ∀ k, (50 ≤ k ∧ k ≤ 56) → Φ k m = M k m) : bldS Φ m := by
  have a41 : Φ 41 m 0 = m := f41 0
  have b41 : Φ 41 m 1 = M 30 d 10 := f41 1
  have c41 : Φ 41 m 2 = d := f41 2
  have d41 : Φ 41 m 3 = f := f41 3
  obtain ⟨⟨q1, q2, q3⟩, q4, q5, q6, q7, q8⟩ := rbd_at (μ := ψ) (b := m) (d := d) (i := f)
  obtain ⟨⟨z1, z2, z3, ⟨z4, z4'⟩, z5, -⟩, z6, z7, z8⟩ := hP
  have hD := h.2.2.2.1.2.2.2.1 d hd.1 hd.2
  have hN := hD.1.1
  have hW := hD.1.2.2.2.2.1
  have hF := (h.2.2.1.2.2.2.2.1 f hi.1 hi.2).2.2.2.2.2.2
  unfold bldS
  rw [a41, b41, c41, d41, hΦ 133 (by decide), hΦ 134 (by decide), hΦ 136 (by decide), hΦ 137 (by decide), hΦ 138 (by decide), q1, q2, hψ 116 (by decide), hν 116 (by decide), f22 22 (by decide), f22 23 (by decide), f22 24 (by decide), f30, f20]
  refine ⟨rfl, hD.2.2.1, rfl, hd, hi, fun x x0 x1 => ?_, ?_⟩
  · obtain ⟨y1, y2, y3⟩ := rbd_f (μ := ψ) (b := m) (d := d) (i := f) (x := 10 * m + x)
    obtain ⟨w1, w2, w3, -⟩ := hF x x0 x1
    have e : 10 * f + (10 * m + x - 10 * m) = 10 * f + x := by omega
    rw [y1, y2, y3, if_pos (by omega), if_pos (by omega), if_pos (by omega), e, hψ 110 (by decide), hψ 111 (by decide), hψ 112 (by decide), hν 110 (by decide), hν 111 (by decide), hν 112 (by decide), w1, w2, w3]
    exact ⟨rfl, rfl, rfl⟩
  · unfold shOK
    rw [f50 50 (by decide), f50 51 (by decide), f50 52 (by decide), f50 53 (by decide), f50 54 (by decide), f50 55 (by decide), f50 56 (by decide), hΦ 135 (by decide), hΦ 139 (by decide), hΦ 140 (by decide), hΦ 141 (by decide), hΦ 142 (by decide), hΦ 143 (by decide), hΦ 144 (by decide), hΦ 145 (by decide), q3, q4, q5, q6, q7, q8, hψ 100 (by decide), hψ 122 (by decide), hν 122 (by decide)]
    refine ⟨by omega, p1, p2, ⟨p0.symm, z4.symm, z6.symm, z4'.symm, z7.symm, p5.symm⟩, fun l l0 l1 => ?_, fun w w0 w1 => ?_, pm⟩
    · obtain ⟨y1, y2, y3, y4⟩ := z5 l l0 l1
      have y5 := z8 l l0 l1
      rw [rbd_c, rbd_c, rbd_c, rbd_c, rbd_c, if_pos (by omega), if_pos (by omega), if_pos (by omega), if_pos (by omega), if_pos (by omega), hψ 151 (by decide), y1, y2, y3, y4, y5]
      have e0 : 300 * m + 60 * 0 + l - 300 * m = l := by omega
      have e1 : 300 * m + 60 * 1 + l - 300 * m = 60 + l := by omega
      have e2 : 300 * m + 60 * 2 + l - 300 * m = 120 + l := by omega
      have e3 : 300 * m + 60 * 3 + l - 300 * m = 180 + l := by omega
      have e4 : 300 * m + 60 * 4 + l - 300 * m = 240 + l := by omega
      rw [e0, e1, e2, e3, e4]
      exact ⟨rfl, rfl, rfl, rfl, rfl⟩
    · rw [p0] at w1
      obtain ⟨-, y1, y2⟩ := z3 w w0 (by rw [h122]; exact w1)
      obtain ⟨-, w2, -⟩ := hW w w0 w1
      have e : 60 * m + w - 60 * m = w := by omega
      rw [rbd_w, hψ 122 (by decide), hν 122 (by decide), if_pos (by omega), e, hψ 124 (by decide), hν 124 (by decide), hψ 152 (by decide), ← w2]
      rw [h35] at y1 y2
      by_cases hz : M 35 d w = -1
      · rw [if_pos hz, y1 hz |>.1]
      · rw [if_neg hz, (y2 hz).1]
theorem RV_rr (h : RV L t M) (hn : M 0 0 40 = n) (h6 : n < 40) (hm : M 0 0 41 = m) (ha : 0 ≤ a ∧ a ≤ 3) (hd : 0 ≤ d ∧ d < M 0 0 30) (hi : 0 ≤ f ∧ f < M 0 0 20) (hx : 0 ≤ x ∧ x ≤ M 7 0 a) (hκ : κ = mu (mJb n d f 0 x m (mu (mBd m d f (M 30 d 10) (mu (mu M 7 0 a (M 7 0 a - x)) 2 0 10 (m + 1))) 2 0 9 (n + 1))) 200 0 0 o) (hr : rfr (rj0 κ n d f (-1)) ν) (hP : PS (rj0 κ n d f (-1)) m d f M ν) (p5 : M 50 m 5 = ν 100 0 49) (p0 : M 50 m 0 = M 122 0 d) (p1 : 0 ≤ M 50 m 1 ∧ M 50 m 1 ≤ 60) (p2 : 0 ≤ M 50 m 2 ∧ M 50 m 2 ≤ 60) (pm : ∀ l k, 0 ≤ l → l ≤ k → k < M 50 m 1 → 0 ≤ M 56 m l ∧ M 56 m l ≤ M 56 m k) : RV L t (rjR ν n a x d f) := by
  have h8 := h.2.2.2.2.2.2.2
  have hF := h.2.2.2.2.2.2.1
  have hF1 := hF.1
  have k1 : ∀ k, k ≠ 0 → k ≠ 40 → k ≠ 100 → k ≠ 200 → k ≠ 2 → ¬ (127 ≤ k ∧ k ≤ 131) → (k < 151 ∨ 155 < k) → ν k = mBd m d f (M 30 d 10) (mu (mu M 7 0 a (M 7 0 a - x)) 2 0 10 (m + 1)) k := fun k h0 h40 h100 h200 h2 hr' h151 => by
    rw [hr.1 k h100 h151, rj0_g h100 hr', hκ, mu_g h200, mJb_g h0 h40, mu_g h2]
  have k2 : ∀ k, k ≠ 0 → k ≠ 40 → k ≠ 41 → k ≠ 100 → k ≠ 200 → k ≠ 2 → k ≠ 7 → ¬ (50 ≤ k ∧ k ≤ 56) → ¬ (127 ≤ k ∧ k ≤ 131) → (k < 151 ∨ 155 < k) → ν k = M k := fun k h0 h40 h41 h100 h200 h2 h7 h50 hr' h151 => by
    rw [k1 k h0 h40 h100 h200 h2 hr' h151, mBd_g h0 h41 h50, mu_g h2, mu_g h7]
  have k3 : ∀ j, j ≠ 25 → j ≠ 55 → j < 45 → ν 100 0 j = M 100 0 j := fun j h1 h2 h3 => by
    rw [hr.2 0 j (by omega), rj0_r h1 h2, hκ, mu_g (by decide), mJb_g (by decide) (by decide), mu_g (by decide), mBd_g (by decide) (by decide) (by decide), mu_g (by decide), mu_g (by decide)]
  have k0 : ∀ p j, ¬ (p = 0 ∧ (j = 40 ∨ j = 41 ∨ j = 50)) → ν 0 p j = M 0 p j := fun p j hp => by
    rw [hr.1 0 (by decide) (by omega), rj0_g (by decide) (by decide), hκ, mu_g (by decide), mJb_0 (fun z => hp ⟨z.1, Or.inl z.2⟩), mu_g (by decide), mBd_0 (fun z => hp ⟨z.1, Or.inr (Or.inl z.2)⟩) (fun z => hp ⟨z.1, Or.inr (Or.inr z.2)⟩), mu_g (by decide), mu_g (by decide)]
  have e31 : ν 100 0 31 = m := by rw [k3 31 (by decide) (by decide) (by decide), hF.2.2.1, hm]
  have e125 : ν 125 = M 125 := k2 125 (by decide) (by decide) (by decide) (by decide) (by decide) (by decide) (by decide) (by decide) (by decide) (by decide)
  have e7 : ∀ j, ν 7 0 j = mu M 7 0 a (M 7 0 a - x) 7 0 j := fun j => by
    rw [k1 7 (by decide) (by decide) (by decide) (by decide) (by decide) (by decide) (by decide), mBd_g (by decide) (by decide) (by decide), mu_g (by decide)]
  have e0 : ν 0 0 40 = n + 1 ∧ ν 0 0 41 = m + 1 ∧ ν 0 0 50 = m + 2 := by
    rw [hr.1 0 (by decide) (by omega), rj0_g (by decide) (by decide), hκ, mu_g (by decide), mJb_n, mJb_0 (by decide), mJb_0 (by decide), mu_g (by decide), mBd_n, mBd_m]
    exact ⟨rfl, rfl, rfl⟩
  have e2 : ∀ j, ν 2 0 j = if j = 9 then n + 1 else if j = 10 then m + 1 else M 2 0 j := fun j => by
    rw [hr.1 2 (by decide) (by omega), rj0_g (by decide) (by decide), hκ, mu_g (by decide), mJb_g (by decide) (by decide)]
    by_cases h1 : j = 9
    · rw [if_pos h1, h1, mu_at]
    · rw [if_neg h1, mu_j h1, mBd_g (by decide) (by decide) (by decide)]
      by_cases h2 : j = 10
      · rw [if_pos h2, h2, mu_at]
      · rw [if_neg h2, mu_j h2, mu_g (by decide)]
  have e25 : ν 100 0 25 = n + 1 := by
    rw [hr.2 0 25 (by omega)]
    exact rj0_n
  have e40 : ∀ j, ν 40 n j = if j = 0 then d else if j = 1 then f else if j = 2 then 0 else if j = 3 then x else if j = 4 then m else 0 := fun j => by
    rw [hr.1 40 (by decide) (by omega), rj0_g (by decide) (by decide), hκ, mu_g (by decide), mJb_at]
  have e40' : ∀ p, p ≠ n → ν 40 p = M 40 p := fun p hp => by
    rw [hr.1 40 (by decide) (by omega), rj0_g (by decide) (by decide), hκ, mu_g (by decide), mJb_o hp, mu_g (by decide), mBd_g (by decide) (by decide) (by decide), mu_g (by decide), mu_g (by decide)]
  have e41 : ∀ j, ν 41 m j = if j = 0 then m else if j = 1 then M 30 d 10 else if j = 2 then d else if j = 3 then f else 0 := fun j => by
    rw [k1 41 (by decide) (by decide) (by decide) (by decide) (by decide) (by decide) (by decide), mBd_at]
  have e41' : ∀ p, p ≠ m → ν 41 p = M 41 p := fun p hp => by
    rw [k1 41 (by decide) (by decide) (by decide) (by decide) (by decide) (by decide) (by decide), mBd_o hp, mu_g (by decide), mu_g (by decide)]
  have e50 : ∀ k, (50 ≤ k ∧ k ≤ 56) → ∀ p, p ≠ m + 1 → ν k p = M k p := fun k hk p hp => by
    rw [k1 k (by omega) (by omega) (by omega) (by omega) (by omega) (by omega) (by omega), mBd_s hk hp, mu_g (by omega), mu_g (by omega)]
  obtain ⟨r1, r2, -⟩ := rj0_at (μ := κ) (n := n) (d := d) (i := f) (b := -1)
  have r1' : ν 130 0 n = d := by rw [hr.1 130 (by decide) (by omega), r1]
  have r2' : ν 131 0 n = f := by rw [hr.1 131 (by decide) (by omega), r2]
  have er : ∀ k, (127 ≤ k ∧ k ≤ 131) → ∀ j, j ≠ n → ν k 0 j = M k 0 j := fun k hk j hj => by
    rw [hr.1 k (by omega) (by omega), rj0_o hk hj, hκ, mu_g (by omega), mJb_g (by omega) (by omega), mu_g (by omega), mBd_g (by omega) (by omega) (by omega), mu_g (by omega), mu_g (by omega)]
  have h35 : ∀ w, rj0 κ n d f (-1) 35 d w = M 35 d w := fun w => by
    rw [rj0_g (by decide) (by decide), hκ, mu_g (by decide), mJb_g (by decide) (by decide), mu_g (by decide), mBd_g (by decide) (by decide) (by decide), mu_g (by decide), mu_g (by decide)]
  have h122 : rj0 κ n d f (-1) 122 0 d = M 122 0 d := by
    rw [rj0_g (by decide) (by decide), hκ, mu_g (by decide), mJb_g (by decide) (by decide), mu_g (by decide), mBd_g (by decide) (by decide) (by decide), mu_g (by decide), mu_g (by decide)]
  have hΦ : rjR ν n a x d f = mu (rbd (mu (mu (mu ν 127 0 n 0) 128 0 n x) 125 0 a (ν 125 0 a - x)) m d f) 129 0 n m := by
    unfold rjR
    rw [e31]
  have hψ : ∀ k, k ≠ 125 → k ≠ 127 → k ≠ 128 → mu (mu (mu ν 127 0 n 0) 128 0 n x) 125 0 a (ν 125 0 a - x) k = ν k := fun k h1 h2 h3 => by
    rw [mu_g h1, mu_g h3, mu_g h2]
  have s127 : mu (mu (mu ν 127 0 n 0) 128 0 n x) 125 0 a (ν 125 0 a - x) 127 0 n = 0 := by simp (disch := decide) only [mu_g, mu_at]
  have s128 : mu (mu (mu ν 127 0 n 0) 128 0 n x) 125 0 a (ν 125 0 a - x) 128 0 n = x := by simp (disch := decide) only [mu_g, mu_at]
  have s125 : ∀ j, mu (mu (mu ν 127 0 n 0) 128 0 n x) 125 0 a (ν 125 0 a - x) 125 0 j = mu M 125 0 a (M 125 0 a - x) 125 0 j := fun j => by
    by_cases hj : j = a
    · rw [hj, mu_at, mu_at, e125]
    · rw [mu_j hj, mu_j hj, mu_g (by decide), mu_g (by decide), e125]
  have sr : ∀ k, (k = 127 ∨ k = 128) → ∀ j, j ≠ n → mu (mu (mu ν 127 0 n 0) 128 0 n x) 125 0 a (ν 125 0 a - x) k 0 j = ν k 0 j := fun k hk j hj => by
    rcases hk with rfl | rfl <;> simp (disch := first | decide | exact hj) only [mu_g, mu_j]
  rw [hΦ]
  generalize mu (mu (mu ν 127 0 n 0) 128 0 n x) 125 0 a (ν 125 0 a - x) = ψ at *
  have w1 : ∀ k, k ≠ 100 → k ≠ 125 → ¬ (127 ≤ k ∧ k ≤ 129) → ¬ (133 ≤ k ∧ k ≤ 145) → mu (rbd ψ m d f) 129 0 n m k = ν k := fun k h100 h125 h127 h133 => by
    rw [mu_g (by omega), rbd_g h100 h133, hψ k h125 (by omega) (by omega)]
  have w2 : ∀ j, j ≠ 31 → mu (rbd ψ m d f) 129 0 n m 100 0 j = ν 100 0 j := fun j hj => by
    rw [mu_g (by decide), rbd_r hj, hψ 100 (by decide) (by decide) (by decide)]
  have w3 : mu (rbd ψ m d f) 129 0 n m 100 0 31 = m + 1 := by rw [mu_g (by decide), rbd_n]
  have w4 : ∀ k, (133 ≤ k ∧ k ≤ 145) → mu (rbd ψ m d f) 129 0 n m k = rbd ψ m d f k := fun k hk => mu_g (by omega)
  have w5 : ∀ k, (k = 125 ∨ k = 127 ∨ k = 128) → mu (rbd ψ m d f) 129 0 n m k = ψ k := fun k hk => by
    rw [mu_g (by omega), rbd_g (by omega) (by omega)]
  have w6 : mu (rbd ψ m d f) 129 0 n m 129 0 n = m := mu_at ..
  have w7 : ∀ j, j ≠ n → mu (rbd ψ m d f) 129 0 n m 129 0 j = ν 129 0 j := fun j hj => by
    rw [mu_j hj, rbd_g (by decide) (by decide), hψ 129 (by decide) (by decide) (by decide)]
  generalize mu (rbd ψ m d f) 129 0 n m = Φ at *
  have v0 : ∀ p j, ¬ (p = 0 ∧ (j = 40 ∨ j = 41 ∨ j = 50)) → Φ 0 p j = M 0 p j := fun p j hp => by
    rw [w1 0 (by decide) (by decide) (by decide) (by decide), k0 p j hp]
  have v1 : ∀ k, k ≠ 0 → k ≠ 40 → k ≠ 41 → k ≠ 100 → k ≠ 125 → k ≠ 200 → k ≠ 2 → k ≠ 7 → ¬ (50 ≤ k ∧ k ≤ 56) → ¬ (127 ≤ k ∧ k ≤ 131) → ¬ (133 ≤ k ∧ k ≤ 145) → (k < 151 ∨ 155 < k) → Φ k = M k := fun k h0 h40 h41 h100 h125 h200 h2 h7 h50 hr' h133 h151 => by
    rw [w1 k h100 h125 (by omega) h133, k2 k h0 h40 h41 h100 h200 h2 h7 h50 hr' h151]
  have v41 : Φ 0 0 41 = m + 1 := by rw [w1 0 (by decide) (by decide) (by decide) (by decide)]; exact e0.2.1
  have v2 : ∀ j, Φ 2 0 j = if j = 9 then n + 1 else if j = 10 then m + 1 else M 2 0 j := fun j => by
    rw [w1 2 (by decide) (by decide) (by decide) (by decide), e2]
  refine RV_j (b := m) (d := d) (f := f) h hn h6 v0 (by rw [w1 0 (by decide) (by decide) (by decide) (by decide)]; exact e0.1) (by rw [v2]; rfl) (fun j hj => by rw [v2, if_neg (by omega), if_neg (by omega)]) (by rw [w2 25 (by decide), e25]) (fun j hj => by rw [w2 j (by omega), k3 j (by omega) (by omega) (by omega)]) (fun k hk => v1 k (by omega) (by omega) (by omega) (by omega) (by omega) (by omega) (by omega) (by omega) (by omega) (by omega) (by omega) (by omega)) ?_ ?_ (Or.inr ⟨by omega, hm.symm⟩) (Or.inr (by omega)) hd hi (fun j hj => ?_) ?_
  · intro j j0 j1
    rw [w1 7 (by decide) (by decide) (by decide) (by decide), e7, w5 125 (by decide), s125]
    have q := h.2.2.2.2.1 j j0 j1
    by_cases hj : j = a
    · rw [hj] at q
      rw [hj, mu_at, mu_at]
      omega
    · rw [mu_j hj, mu_j hj]
      exact q
  · refine RLf_n (m := m) hF hm (by omega) v41 (by rw [v2]; rfl) w3 (by rw [w1 0 (by decide) (by decide) (by decide) (by decide)]; exact e0.2.2) (by rw [v0 0 30 (by decide)]; exact Int.le_refl _) (by rw [v0 0 20 (by decide)]; exact Int.le_refl _) (fun b hb => by rw [w1 41 (by decide) (by decide) (by decide) (by decide), e41' b hb]) (fun i _ _ => ?_) (fun k hk b b0 b1 => by rw [w1 k (by omega) (by omega) (by omega) (by omega), e50 k hk b (by omega)]) (fun k hk b hb => by rw [w4 k (by omega), rbd_o hk hb, hψ k (by omega) (by omega) (by omega), k2 k (by omega) (by omega) (by omega) (by omega) (by omega) (by omega) (by omega) (by omega) (by omega) (by omega)]) (fun x hx => ?_) (fun x hx => ?_) (fun x hx => ?_) ?_
    · rw [v1 22 (by decide) (by decide) (by decide) (by decide) (by decide) (by decide) (by decide) (by decide) (by decide) (by decide) (by decide) (by decide), v1 23 (by decide) (by decide) (by decide) (by decide) (by decide) (by decide) (by decide) (by decide) (by decide) (by decide) (by decide) (by decide), v1 24 (by decide) (by decide) (by decide) (by decide) (by decide) (by decide) (by decide) (by decide) (by decide) (by decide) (by decide) (by decide)]
      exact ⟨rfl, rfl, rfl⟩
    · obtain ⟨y1, y2, y3⟩ := rbd_f (μ := ψ) (b := m) (d := d) (i := f) (x := x)
      rw [w4 136 (by decide), w4 137 (by decide), w4 138 (by decide), y1, y2, y3, if_neg (by omega), if_neg (by omega), if_neg (by omega), hψ 136 (by decide) (by decide) (by decide), hψ 137 (by decide) (by decide) (by decide), hψ 138 (by decide) (by decide) (by decide), k2 136 (by decide) (by decide) (by decide) (by decide) (by decide) (by decide) (by decide) (by decide) (by decide) (by decide), k2 137 (by decide) (by decide) (by decide) (by decide) (by decide) (by decide) (by decide) (by decide) (by decide) (by decide), k2 138 (by decide) (by decide) (by decide) (by decide) (by decide) (by decide) (by decide) (by decide) (by decide) (by decide)]
      exact ⟨rfl, rfl, rfl⟩
    · rw [w4 144 (by decide), rbd_c, if_neg (by omega), hψ 144 (by decide) (by decide) (by decide), k2 144 (by decide) (by decide) (by decide) (by decide) (by decide) (by decide) (by decide) (by decide) (by decide) (by decide)]
    · rw [w4 145 (by decide), rbd_w, if_neg (by omega), hψ 145 (by decide) (by decide) (by decide), k2 145 (by decide) (by decide) (by decide) (by decide) (by decide) (by decide) (by decide) (by decide) (by decide) (by decide)]
    · refine bld_n (κ := rj0 κ n d f (-1)) (ψ := ψ) h hm hd hi h35 h122 hP p5 p0 p1 p2 pm (fun k hk => k2 k (by omega) (by omega) (by omega) (by omega) (by omega) (by omega) (by omega) (by omega) (by omega) (by omega)) (fun k hk => hψ k (by omega) (by omega) (by omega)) w4 (fun j => by rw [w1 41 (by decide) (by decide) (by decide) (by decide), e41]) (v0 0 30 (by decide)) (v0 0 20 (by decide)) (fun k hk => v1 k (by omega) (by omega) (by omega) (by omega) (by omega) (by omega) (by omega) (by omega) (by omega) (by omega) (by omega) (by omega)) (fun k hk => by rw [w1 k (by omega) (by omega) (by omega) (by omega), e50 k hk m (by omega)])
  · rw [w1 40 (by decide) (by decide) (by decide) (by decide), w1 130 (by decide) (by decide) (by decide) (by decide), w1 131 (by decide) (by decide) (by decide) (by decide), w5 127 (by decide), w5 128 (by decide), w7 j hj, e40' j hj, er 130 (by decide) j hj, er 131 (by decide) j hj, sr 127 (Or.inl rfl) j hj, sr 128 (Or.inr rfl) j hj, er 127 (by decide) j hj, er 128 (by decide) j hj, er 129 (by decide) j hj]
    exact ⟨rfl, rfl, rfl, rfl, rfl, rfl⟩
  · rw [w1 40 (by decide) (by decide) (by decide) (by decide), w1 130 (by decide) (by decide) (by decide) (by decide), w1 131 (by decide) (by decide) (by decide) (by decide), w5 127 (by decide), w5 128 (by decide), w6, e40, e40, e40, e40, e40, r1', r2', s127, s128]
    simp
theorem sta_c (h : sta μ d f) (hk : ∀ k, ((20 ≤ k ∧ k < 40) ∨ (110 ≤ k ∧ k ≤ 124)) → ν k = μ k) : sta ν d f := by
  obtain ⟨a1, a2, a3, a4, a5, a6, a7, a8, a9, a10⟩ := h
  have hD : staD μ d := ⟨a3, a4, a5, a6, a7, a8, a9⟩
  obtain ⟨b3, b4, b5, b6, b7, b8, b9⟩ := staD_c (ν := ν) hD fun k hk' => hk k (by omega)
  exact ⟨a1, a2, b3, b4, b5, b6, b7, b8, b9, stF_c a10 fun k hk' => hk k (by omega)⟩
theorem cm17 (h : RV L t μ) (h0 : 0 ≤ i) (h1 : i + 4 < L) (hL : L ≤ 2560) (hck : 13 ≤ ck) (hsk : 406 ≤ sk) (q : KT L t i ck sk Q) : G 174 1351 [zR 1 0, zR 2 0, zR 100 0, zR 200 0, zI i, x5, x6] [] (HM μ) ck sk Q := by
  have h2 : i + 4 < μ 0 2 0 := by rw [h.1]; exact h1
  have h4 : i ≤ 100000 := by omega
  rw [k17 h0 h2 hck hsk h4]
  have hI := h.2.2.1
  have hD := h.2.2.2.1
  have hJ := h.2.2.2.2.2.1
  have hB := h.2.2.2.2.2.2.1
  have hJ1 := hJ.1
  have h8 := h.2.2.2.2.2.2.2
  have r12 : 0 ≤ μ 100 0 12 ∧ μ 100 0 12 ≤ 6 := by rw [hD.2.2.1]; exact hD.1
  have r5 : 0 ≤ μ 100 0 5 ∧ μ 100 0 5 ≤ 12 := by rw [hI.2.2.1]; exact hI.1
  by_cases g0 : 0 ≤ (μ 1 0 (i + 1)) ∧ (μ 1 0 (i + 1)) ≤ 3
  · by_cases g1 : (0 ≤ (μ 1 0 (i + 2)) ∧ (μ 1 0 (i + 2)) < μ 0 0 30) ∧ 0 ≤ (μ 1 0 (i + 3)) ∧ (μ 1 0 (i + 3)) < μ 0 0 20
    · have gd : 0 ≤ (μ 1 0 (i + 2)) ∧ (μ 1 0 (i + 2)) < μ 100 0 12 := by rw [hD.2.2.1]; exact g1.1
      have gi : 0 ≤ (μ 1 0 (i + 3)) ∧ (μ 1 0 (i + 3)) < μ 100 0 5 := by rw [hI.2.2.1]; exact g1.2
      have e107 := (hI.2.2.2.2.1 (μ 1 0 (i + 3)) g1.2.1 g1.2.2).2.2.2.2.1
      by_cases g2 : μ 20 (μ 1 0 (i + 3)) 3 = 0 ∨ ¬ μ 2 0 9 < 40
      · rw [c61_3 hD.1.2 hI.1.2 g0 g1.1 g1.2 g2, b165_2, e17 h0 h2 h4, c136_3 r12 r5 g0 gd gi (by rw [e107, hJ.2.2.1]; rw [hJ.2.1] at g2; omega)]
        exact r17 thr_e (fun z => absurd z (by decide)) (q _ _ _ _ _ (RV_1 (RV_t h)) (by omega) (by omega))
      · have g3 : ¬ μ 20 (μ 1 0 (i + 3)) 3 = 0 := fun z => g2 (Or.inl z)
        have g4 : μ 0 0 40 < 40 := by rw [hJ.2.1] at g2; omega
        have hkr := kbi_rkb h g1.1.1 g1.1.2 g1.2.1 g1.2.2
        have r25 : 0 ≤ μ 100 0 25 ∧ μ 100 0 25 ≤ 40 := by rw [hJ.2.2.1]; exact hJ.1
        have r31 : 0 ≤ μ 100 0 31 ∧ μ 100 0 31 ≤ 40 := by rw [hB.2.2.1]; exact hB.1
        have g3' : ¬ μ 107 0 (μ 1 0 (i + 3)) = 0 := by rw [e107]; exact g3
        by_cases hk : kbi μ (μ 1 0 (i + 2)) (μ 1 0 (i + 3)) = -1
        · rw [if_pos hk] at hkr
          have hc0 : 0 ≤ μ 0 0 50 - 1 := by have := hB.2.2.2.1; have := hB.1; omega
          have em : μ 0 0 50 - 1 = μ 0 0 41 := by have := hB.2.2.2.1; omega
          have hS : RV L t (stt (μ 0 0 50 - 1) (μ 1 0 (i + 2)) (μ 1 0 (i + 3)) μ) := RV_st h rfl
          have hsI := stt_sI (μ := μ) (d := (μ 1 0 (i + 2))) (b := (μ 1 0 (i + 3))) rfl hc0 g1.1.1 g1.1.2 (RV_doc h) (RV_fl h g1.2.1 g1.2.2)
          have hSL := stt_L (μ := μ) (d := (μ 1 0 (i + 2))) (b := (μ 1 0 (i + 3))) rfl hc0 g1.1.1 g1.1.2 (RV_doc h) (RV_fl h g1.2.1 g1.2.2)
          have hS3 := stt_3 (c := μ 0 0 50 - 1) (μ := μ) (d := (μ 1 0 (i + 2))) (b := (μ 1 0 (i + 3)))
          have hSm := fun l k => stt_m (j := l) (m := k) (μ := μ) (d := (μ 1 0 (i + 2))) (b := (μ 1 0 (i + 3))) rfl hc0 g1.1.1 g1.1.2 (RV_doc h) (RV_fl h g1.2.1 g1.2.2)
          have hg : ∀ k, (k < 50 ∨ 66 < k) → stt (μ 0 0 50 - 1) (μ 1 0 (i + 2)) (μ 1 0 (i + 3)) μ k = μ k := fun k hk => stt_g hk
          have hsta := RV_sta h g1.1.1 g1.1.2 g1.2.1 g1.2.2
          have e7 := h.2.2.2.2.1 (μ 1 0 (i + 1)) g0.1 g0.2
          by_cases hx : μ 7 0 (μ 1 0 (i + 1)) < stt (μ 0 0 50 - 1) (μ 1 0 (i + 2)) (μ 1 0 (i + 3)) μ 50 (μ 0 0 50 - 1) 3 * (5 + stt (μ 0 0 50 - 1) (μ 1 0 (i + 2)) (μ 1 0 (i + 3)) μ 50 (μ 0 0 50 - 1) 1)
          · refine c61_S hD.1.2 hI.1.2 (RV_job h) (RV_bld h) g0 g1.1 g1.2 g3 hJ.2.1 rfl hJ.1.1 g4 hk (RV_doc h) (RV_fl h g1.2.1 g1.2.2) hx ?_
            rw [b165_v]
            generalize ho : (Int64.ofInt (μ 0 0 40)).toInt = o
            generalize hκ : mu (mJb (μ 0 0 40) (μ 1 0 (i + 2)) (μ 1 0 (i + 3)) 2 (μ 7 0 (μ 1 0 (i + 1))) (-1) (mu (mu (stt (μ 0 0 50 - 1) (μ 1 0 (i + 2)) (μ 1 0 (i + 3)) μ) 7 0 (μ 1 0 (i + 1)) 0) 2 0 9 (μ 0 0 40 + 1))) 200 0 0 o = κ
            have k1 : ∀ k, k ≠ 0 → k ≠ 2 → k ≠ 7 → k ≠ 40 → k ≠ 200 → (k < 50 ∨ 66 < k) → κ k = μ k := fun k z0 z2 z7 z40 z200 hk => by
              rw [← hκ, mu_g z200, mJb_g z0 z40, mu_g z2, mu_g z7, stt_g hk]
            have k2 : κ 0 2 0 = μ 0 2 0 := by
              rw [← hκ, mu_g (by decide), mJb_0 (by decide), mu_g (by decide), mu_g (by decide), stt_g (by decide)]
            have k200 : κ 200 0 0 = o := by rw [← hκ]; exact mu_at ..
            have k100 : κ 100 = μ 100 := k1 100 (by decide) (by decide) (by decide) (by decide) (by decide) (by decide)
            rw [e17 h0 (by rw [k2]; exact h2) h4, k1 1 (by decide) (by decide) (by decide) (by decide) (by decide) (by decide)]
            have k125 : κ 125 = μ 125 := k1 125 (by decide) (by decide) (by decide) (by decide) (by decide) (by decide)
            have k122 : κ 122 = μ 122 := k1 122 (by decide) (by decide) (by decide) (by decide) (by decide) (by decide)
            have krk : rkb κ (μ 1 0 (i + 2)) (μ 1 0 (i + 3)) = -1 := by
              rw [rkb_of (μ := μ) (by rw [k100]) (fun k hk => k1 k (by omega) (by omega) (by omega) (by omega) (by omega) (by omega))]
              exact hkr
            refine c136_5 (μ := μ) (c := μ 0 0 50 - 1) (by rw [k100]; exact r12) (by rw [k100]; exact r5) (by rw [k100]; exact r25) (by rw [k100]; exact r31) g0 (by rw [k100]; exact gd) (by rw [k100]; exact gi) (by rw [k1 107 (by decide) (by decide) (by decide) (by decide) (by decide) (by decide)]; exact g3') (by rw [k100, hJ.2.2.1]; omega) krk ?_ ?_ hsI (by rw [k1 110 (by decide) (by decide) (by decide) (by decide) (by decide) (by decide)]; exact hI.2.2.2.2.2) (by rw [k125, e7.1]; exact e7.2) (by rw [k100, hB.2.2.1]; omega) ?_
            · exact sta_c hsta fun k hk => by rw [rj0_g (by omega) (by omega), k1 k (by omega) (by omega) (by omega) (by omega) (by omega) (by omega)]
            · intro k hk
              rw [rj0_g (by omega) (by omega), k1 k (by omega) (by omega) (by omega) (by omega) (by omega) (by omega)]
            · intro ν' hr hP p5 p0
              refine ⟨fun _ => ?_, fun z => absurd (by rw [k125, e7.1]; exact hx) z⟩
              have kn : κ 100 0 25 = μ 0 0 40 := by rw [k100, hJ.2.2.1]
              rw [kn] at hr ⊢
              have hR := RV_rs (a := (μ 1 0 (i + 1))) (κ := κ) (o := o) hS (by rw [hg 0 (by decide)]) g4 g0 (by rw [hg 0 (by decide)]; exact g1.1) (by rw [hg 0 (by decide)]; exact g1.2) (by rw [← hκ, hg 7 (by decide)]) hr
              refine r17 ?_ (fun _ => ?_) (q _ _ _ _ _ (RV_1 hR) (by omega) (by omega))
              · unfold rjS
                rw [mu_g (by decide), mu_g (by decide), mu_g (by decide), mu_g (by decide), hr.2 0 55 (by omega)]
                exact rj0_e
              · unfold rjS
                rw [mu_g (by decide), mu_g (by decide), mu_g (by decide), mu_g (by decide), hr.1 200 (by decide) (by omega), rj0_g (by decide) (by decide), k200, ← ho]
          · refine c61_R hD.1.2 hI.1.2 (RV_job h) (RV_bld h) g0 g1.1 g1.2 g3 hJ.2.1 rfl hJ.1.1 g4 hk (RV_doc h) (RV_fl h g1.2.1 g1.2.2) e7.2 rfl hB.2.1 hx ?_
            rw [b165_v]
            generalize ho : (Int64.ofInt (μ 0 0 40)).toInt = o
            generalize hxx : stt (μ 0 0 50 - 1) (μ 1 0 (i + 2)) (μ 1 0 (i + 3)) μ 50 (μ 0 0 50 - 1) 3 * (5 + stt (μ 0 0 50 - 1) (μ 1 0 (i + 2)) (μ 1 0 (i + 3)) μ 50 (μ 0 0 50 - 1) 1) = xx at hx ⊢
            generalize hκ : mu (mJb (μ 0 0 40) (μ 1 0 (i + 2)) (μ 1 0 (i + 3)) 0 xx (μ 0 0 41) (mu (mBd (μ 0 0 41) (μ 1 0 (i + 2)) (μ 1 0 (i + 3)) (μ 30 (μ 1 0 (i + 2)) 10) (mu (mu (stt (μ 0 0 50 - 1) (μ 1 0 (i + 2)) (μ 1 0 (i + 3)) μ) 7 0 (μ 1 0 (i + 1)) (μ 7 0 (μ 1 0 (i + 1)) - xx)) 2 0 10 (μ 0 0 41 + 1))) 2 0 9 (μ 0 0 40 + 1))) 200 0 0 o = κ
            have k1 : ∀ k, k ≠ 0 → k ≠ 2 → k ≠ 7 → k ≠ 40 → k ≠ 41 → k ≠ 200 → (k < 50 ∨ 66 < k) → κ k = μ k := fun k z0 z2 z7 z40 z41 z200 hk => by
              rw [← hκ, mu_g z200, mJb_g z0 z40, mu_g z2, mBd_g z0 z41 (by omega), mu_g z2, mu_g z7, stt_g hk]
            have k2 : κ 0 2 0 = μ 0 2 0 := by
              rw [← hκ, mu_g (by decide), mJb_0 (by decide), mu_g (by decide), mBd_0 (by decide) (by decide), mu_g (by decide), mu_g (by decide), stt_g (by decide)]
            have k200 : κ 200 0 0 = o := by rw [← hκ]; exact mu_at ..
            have k100 : κ 100 = μ 100 := k1 100 (by decide) (by decide) (by decide) (by decide) (by decide) (by decide) (by decide)
            rw [e17 h0 (by rw [k2]; exact h2) h4, k1 1 (by decide) (by decide) (by decide) (by decide) (by decide) (by decide) (by decide)]
            have k125 : κ 125 = μ 125 := k1 125 (by decide) (by decide) (by decide) (by decide) (by decide) (by decide) (by decide)
            have k122 : κ 122 = μ 122 := k1 122 (by decide) (by decide) (by decide) (by decide) (by decide) (by decide) (by decide)
            have krk : rkb κ (μ 1 0 (i + 2)) (μ 1 0 (i + 3)) = -1 := by
              rw [rkb_of (μ := μ) (by rw [k100]) (fun k hk => k1 k (by omega) (by omega) (by omega) (by omega) (by omega) (by omega) (by omega))]
              exact hkr
            have hx0 : 0 ≤ xx := by
              rw [← hxx]
              exact Int.mul_nonneg (by omega) (by omega)
            refine c136_5 (μ := μ) (c := μ 0 0 50 - 1) (by rw [k100]; exact r12) (by rw [k100]; exact r5) (by rw [k100]; exact r25) (by rw [k100]; exact r31) g0 (by rw [k100]; exact gd) (by rw [k100]; exact gi) (by rw [k1 107 (by decide) (by decide) (by decide) (by decide) (by decide) (by decide) (by decide)]; exact g3') (by rw [k100, hJ.2.2.1]; omega) krk ?_ ?_ hsI (by rw [k1 110 (by decide) (by decide) (by decide) (by decide) (by decide) (by decide) (by decide)]; exact hI.2.2.2.2.2) (by rw [k125, e7.1]; exact e7.2) (by rw [k100, hB.2.2.1]; omega) ?_
            · exact sta_c hsta fun k hk => by rw [rj0_g (by omega) (by omega), k1 k (by omega) (by omega) (by omega) (by omega) (by omega) (by omega) (by omega)]
            · intro k hk
              rw [rj0_g (by omega) (by omega), k1 k (by omega) (by omega) (by omega) (by omega) (by omega) (by omega) (by omega)]
            · intro ν' hr hP p5 p0
              rw [hxx]
              refine ⟨fun z => absurd (by rw [k125, e7.1] at z; exact z) hx, fun _ => ?_⟩
              have kn : κ 100 0 25 = μ 0 0 40 := by rw [k100, hJ.2.2.1]
              rw [kn] at hr hP ⊢
              rw [k122] at p0
              rw [em] at *
              have hR := RV_rr (a := (μ 1 0 (i + 1))) (x := xx) (κ := κ) (o := o) hS (by rw [hg 0 (by decide)]) g4 (by rw [hg 0 (by decide)]) g0 (by rw [hg 0 (by decide)]; exact g1.1) (by rw [hg 0 (by decide)]; exact g1.2) (by rw [hg 7 (by decide)]; omega) (by rw [← hκ, hg 7 (by decide), hg 30 (by decide)]) hr hP p5 (by rw [hg 122 (by decide)]; exact p0) hSL.1 hSL.2 (fun l k l0 l1 l2 => hSm l k l0 l1 l2)
              refine r17 ?_ (fun _ => ?_) (q _ _ _ _ _ (RV_1 hR) (by omega) (by omega))
              · unfold rjR
                rw [mu_g (by decide), rbd_r (by decide), mu_g (by decide), mu_g (by decide), mu_g (by decide), hr.2 0 55 (by omega)]
                exact rj0_e
              · unfold rjR
                rw [mu_g (by decide), rbd_g (by decide) (by decide), mu_g (by decide), mu_g (by decide), mu_g (by decide), hr.1 200 (by decide) (by omega), rj0_g (by decide) (by decide), k200, ← ho]
        · rw [if_neg hk] at hkr
          have hkb := zff_b (p := kbp μ (μ 1 0 (i + 2)) (μ 1 0 (i + 3))) 40 0
          have hb : 0 ≤ kbi μ (μ 1 0 (i + 2)) (μ 1 0 (i + 3)) ∧ kbi μ (μ 1 0 (i + 2)) (μ 1 0 (i + 3)) < μ 0 0 40 ∧ ¬ μ 40 (kbi μ (μ 1 0 (i + 2)) (μ 1 0 (i + 3))) 4 < 0 := by
            rcases hkb with z | ⟨z1, -, z⟩
            · exact absurd z hk
            · have z' := of_decide_eq_true z
              exact ⟨z1, z'.1, z'.2.1⟩
          have hb2 := (hJ.2.2.2.1 _ hb.1 hb.2.1).2.2.1
          refine c61_K hD.1.2 hI.1.2 (RV_job h) (RV_bld h) g0 g1.1 g1.2 g3 hJ.2.1 rfl hJ.1.1 g4 hk ?_
          rw [b165_v]
          generalize μ 40 (kbi μ (μ 1 0 (i + 2)) (μ 1 0 (i + 3))) 4 = b at *
          generalize ho : (Int64.ofInt (μ 0 0 40)).toInt = o
          generalize hκ : mu (mJb (μ 0 0 40) (μ 1 0 (i + 2)) (μ 1 0 (i + 3)) 1 0 b (mu μ 2 0 9 (μ 0 0 40 + 1))) 200 0 0 o = κ
          have k1 : ∀ k, k ≠ 0 → k ≠ 2 → k ≠ 40 → k ≠ 200 → κ k = μ k := fun k z0 z2 z40 z200 => by
            rw [← hκ, mu_g z200, mJb_g z0 z40, mu_g z2]
          have k2 : κ 0 2 0 = μ 0 2 0 := by
            rw [← hκ, mu_g (by decide), mJb_0 (by decide), mu_g (by decide)]
          have k200 : κ 200 0 0 = o := by rw [← hκ]; exact mu_at ..
          have k100 : κ 100 = μ 100 := k1 100 (by decide) (by decide) (by decide) (by decide)
          have krk : rkb κ (μ 1 0 (i + 2)) (μ 1 0 (i + 3)) = b := by
            rw [rkb_of (μ := μ) (by rw [k100]) (fun k hk => k1 k (by omega) (by omega) (by omega) (by omega))]
            exact hkr
          rw [e17 h0 (by rw [k2]; exact h2) h4, k1 1 (by decide) (by decide) (by decide) (by decide), c136_4 (by rw [k100]; exact r12) (by rw [k100]; exact r5) (by rw [k100]; exact r25) (by rw [k100]; exact r31) g0 (by rw [k100]; exact gd) (by rw [k100]; exact gi) (by rw [k1 107 (by decide) (by decide) (by decide) (by decide)]; exact g3') (by rw [k100, hJ.2.2.1]; omega) (by rw [krk]; omega), krk, k100, hJ.2.2.1]
          have hR := RV_rk (o := o) h rfl g4 g1.1 g1.2 (by omega : 0 ≤ b ∧ b < μ 0 0 41)
          rw [hκ] at hR
          refine r17 rj0_e (fun _ => ?_) (q _ _ _ _ _ (RV_1 hR) (by omega) (by omega))
          rw [rj0_g (by decide) (by decide), k200, ← ho]
    · rw [c61_2 hD.1.2 hI.1.2 g0 g1, b165_1, e17 h0 h2 h4, c136_2 r12 r5 g0 (by rw [hD.2.2.1, hI.2.2.1]; exact g1)]
      exact r17 thr_e (fun z => absurd z (by decide)) (q _ _ _ _ _ (RV_1 (RV_t h)) (by omega) (by omega))
  · rw [c61_1 g0, b165_0, e17 h0 h2 h4, c136_1 r12 r5 g0]
    exact r17 thr_e (fun z => absurd z (by decide)) (q _ _ _ _ _ (RV_1 (RV_t h)) (by omega) (by omega))
end ZDB1
