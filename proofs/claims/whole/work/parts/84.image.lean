/-! ===== an image's files, on both sides ===== -/
section ZIM1
variable {L t i a b c d e f g j k l m n o r s v w x p : Int} {y : Int64} {φ : ZTF} {μ ν κ M : ZU}
theorem ov1_n (h : f ≠ i) : (ov1 M b i φ).1 f = φ.1 f ∧ (ov1 M b i φ).2.1 f = φ.2.1 f ∧ (ov1 M b i φ).2.2 f = φ.2.2 f := by
  unfold ov1
  by_cases h1 : M 12 b i = 1
  · rw [if_pos h1]
    simp only [z3u, zui, if_neg h, and_self]
  · rw [if_neg h1]
    by_cases h2 : M 12 b i = 2
    · rw [if_pos h2]
      simp only [z3u, zui, if_neg h, and_self]
    · rw [if_neg h2]
      exact ⟨rfl, rfl, rfl⟩
theorem ov1_at : (ov1 M b i φ).1 i = (if M 12 b i = 1 then 1 else if M 12 b i = 2 then 0 else φ.1 i) ∧ (ov1 M b i φ).2.1 i = (if M 12 b i = 1 then M 13 b i else if M 12 b i = 2 then 0 else φ.2.1 i) ∧ (ov1 M b i φ).2.2 i = (if M 12 b i = 1 then M 14 b i else if M 12 b i = 2 then 0 else φ.2.2 i) := by
  unfold ov1
  by_cases h1 : M 12 b i = 1
  · simp only [if_pos h1]
    simp only [z3u, zui, if_true, and_self]
  · simp only [if_neg h1]
    by_cases h2 : M 12 b i = 2
    · simp only [if_pos h2]
      simp only [z3u, zui, if_true, and_self]
    · simp only [if_neg h2, and_self]
theorem ovN_at : ∀ (n : Nat) (i : Int) (φ : ZTF), ((i ≤ f ∧ f < i + n) → (ovN M b n i φ).1 f = (if M 12 b f = 1 then 1 else if M 12 b f = 2 then 0 else φ.1 f) ∧ (ovN M b n i φ).2.1 f = (if M 12 b f = 1 then M 13 b f else if M 12 b f = 2 then 0 else φ.2.1 f) ∧ (ovN M b n i φ).2.2 f = (if M 12 b f = 1 then M 14 b f else if M 12 b f = 2 then 0 else φ.2.2 f)) ∧ (¬ (i ≤ f ∧ f < i + n) → (ovN M b n i φ).1 f = φ.1 f ∧ (ovN M b n i φ).2.1 f = φ.2.1 f ∧ (ovN M b n i φ).2.2 f = φ.2.2 f)
  | 0, i, φ => ⟨fun z => by omega, fun _ => ⟨rfl, rfl, rfl⟩⟩
  | n + 1, i, φ => by
    obtain ⟨h1, h2⟩ := ovN_at n (i + 1) (ov1 M b i φ)
    have e : ovN M b (n + 1) i φ = ovN M b n (i + 1) (ov1 M b i φ) := rfl
    rw [e]
    by_cases hf : f = i
    · subst hf
      obtain ⟨q1, q2, q3⟩ := h2 (by omega)
      refine ⟨fun _ => ?_, fun z => absurd (by omega) z⟩
      rw [q1, q2, q3]
      exact ov1_at
    · obtain ⟨o1, o2, o3⟩ := ov1_n (M := M) (b := b) (φ := φ) hf
      rw [o1, o2, o3] at h1 h2
      exact ⟨fun z => h1 (by omega), fun z => h2 (by omega)⟩
/-- one file while layers are laid one over the other -/
def fR (φ : ZTF) (κ : ZU) (x f : Int) : Prop := κ 110 0 x = φ.1 f ∧ ((φ.1 f = 1 ∧ κ 111 0 x = φ.2.1 f ∧ κ 112 0 x = φ.2.2 f ∧ (0 ≤ φ.2.1 f ∧ φ.2.1 f ≤ 20) ∧ (5 ≤ f → φ.2.1 f ≤ 3)) ∨ (φ.1 f = 0 ∧ φ.2.1 f = 0 ∧ φ.2.2 f = 0))
theorem fR_s (h : fR φ κ (10 * i + f) f) (f0 : 0 ≤ f) (f1 : f < 10) (hb : κ 109 0 (6 * i + j) = b) (h3 : κ 103 0 (10 * b + f) = M 12 b f ∧ κ 104 0 (10 * b + f) = M 13 b f ∧ κ 105 0 (10 * b + f) = M 14 b f ∧ (0 ≤ M 12 b f ∧ M 12 b f ≤ 2) ∧ (0 ≤ M 13 b f ∧ M 13 b f ≤ 20) ∧ (5 ≤ f → M 13 b f ≤ 3)) : fR (ovN M b 10 0 φ) (un1 i f j κ) (10 * i + f) f := by
  obtain ⟨h103, h104, h105, h2, hs, hs5⟩ := h3
  obtain ⟨q1, q2, q3⟩ := (ovN_at (f := f) (M := M) (b := b) 10 0 φ).1 ⟨f0, by omega⟩
  unfold fR un1
  rw [q1, q2, q3, hb, h103, h104, h105]
  by_cases c0 : M 12 b f = 0
  · have c1 : ¬ M 12 b f = 1 := by omega
    have c2 : ¬ M 12 b f = 2 := by omega
    simp only [if_pos c0, if_neg c1, if_neg c2]
    exact h
  · by_cases c1 : M 12 b f = 1
    · simp only [if_neg c0, if_pos c1]
      simp (disch := decide) only [mu_g, mu_at]
      exact ⟨trivial, Or.inl ⟨trivial, trivial, trivial, hs, hs5⟩⟩
    · have c2 : M 12 b f = 2 := by omega
      simp only [if_neg c0, if_neg c1, if_pos c2]
      simp (disch := decide) only [mu_g, mu_at]
      exact ⟨trivial, Or.inr ⟨trivial, trivial, trivial⟩⟩
theorem fR_N (f0 : 0 ≤ f) (f1 : f < 10) : ∀ (n : Nat) (k : Int) (φ : ZTF) (κ : ZU), (∀ k', k ≤ k' → k' < k + n → κ 109 0 (6 * i + k') = M 26 r k' ∧ 0 ≤ M 26 r k' ∧ M 26 r k' < c) → (∀ b, 0 ≤ b → b < c → κ 103 0 (10 * b + f) = M 12 b f ∧ κ 104 0 (10 * b + f) = M 13 b f ∧ κ 105 0 (10 * b + f) = M 14 b f ∧ (0 ≤ M 12 b f ∧ M 12 b f ≤ 2) ∧ (0 ≤ M 13 b f ∧ M 13 b f ≤ 20) ∧ (5 ≤ f → M 13 b f ≤ 3)) → fR φ κ (10 * i + f) f → fR (stk M r n k φ) (unN i f n k κ) (10 * i + f) f
  | 0, _, _, _, _, _, h => h
  | n + 1, k, φ, κ, hr, hl, h => by
    obtain ⟨x1, x2, x3⟩ := hr k (by omega) (by omega)
    have g := fun (k' : Nat) (h1 : k' ≠ 110 ∧ k' ≠ 111 ∧ k' ≠ 112) => un1_g (i := i) (f := f) (j := k) (μ := κ) h1.1 h1.2.1 h1.2.2
    exact fR_N f0 f1 n (k + 1) (ovN M (M 26 r k) 10 0 φ) (un1 i f k κ) (fun k' h0 h1 => by rw [g 109 (by decide)]; exact hr k' (by omega) (by omega)) (fun b b0 b1 => by rw [g 103 (by decide), g 104 (by decide), g 105 (by decide)]; exact hl b b0 b1) (fR_s h f0 f1 x1 (hl _ x2 x3))
theorem un1_o {k' : Nat} (h : x ≠ 10 * i + f) : un1 i f j κ k' 0 x = κ k' 0 x := by
  unfold un1
  split
  · rfl
  · rw [mu_j h, mu_j h, mu_j h]
theorem unN_o {k' : Nat} (h : x ≠ 10 * i + f) : ∀ (n : Nat) (j : Int) (κ : ZU), unN i f n j κ k' 0 x = κ k' 0 x
  | 0, _, _ => rfl
  | n + 1, j, κ => by
    unfold unN
    rw [unN_o h n, un1_o h]
theorem unt_o {k' : Nat} (h : x ≠ 10 * i + f) : unt i f κ k' 0 x = κ k' 0 x := by
  unfold unt unz
  split
  · rw [mu_j h, mu_j h, unN_o h, mu_j h]
  · rw [unN_o h, mu_j h]
theorem fR_t (f0 : 0 ≤ f) (f1 : f < 10) (hm : κ 108 0 i = m) (hr : ∀ k, 0 ≤ k → k < m → κ 109 0 (6 * i + k) = M 26 r k ∧ 0 ≤ M 26 r k ∧ M 26 r k < c) (hl : ∀ b, 0 ≤ b → b < c → κ 103 0 (10 * b + f) = M 12 b f ∧ κ 104 0 (10 * b + f) = M 13 b f ∧ κ 105 0 (10 * b + f) = M 14 b f ∧ (0 ≤ M 12 b f ∧ M 12 b f ≤ 2) ∧ (0 ≤ M 13 b f ∧ M 13 b f ≤ 20) ∧ (5 ≤ f → M 13 b f ≤ 3)) (hφ : stk M r m.toNat 0 z30 = φ) :
    unt i f κ 110 0 (10 * i + f) = φ.1 f ∧ unt i f κ 111 0 (10 * i + f) = φ.2.1 f ∧ unt i f κ 112 0 (10 * i + f) = φ.2.2 f ∧ (φ.1 f = 0 ∨ φ.1 f = 1) ∧ 0 ≤ φ.2.1 f ∧ φ.2.1 f ≤ 20 ∧ (5 ≤ f → φ.2.1 f ≤ 3) := by
  have h := fR_N (i := i) (f := f) (M := M) (r := r) (c := c) f0 f1 m.toNat 0 z30 (mu κ 110 0 (10 * i + f) 0) (fun k' h0 h1 => by rw [mu_g (by decide)]; exact hr k' h0 (by omega)) (fun b b0 b1 => by rw [mu_g (by decide), mu_g (by decide), mu_g (by decide)]; exact hl b b0 b1) ⟨mu_at .., Or.inr ⟨rfl, rfl, rfl⟩⟩
  unfold unt unz
  rw [hm]
  generalize unN i f m.toNat 0 (mu κ 110 0 (10 * i + f) 0) = η at *
  rw [hφ] at h
  obtain ⟨h1, ⟨h2, h3, h4, h5, h6⟩ | ⟨h2, h3, h4⟩⟩ := h
  · rw [if_neg (by omega)]
    exact ⟨h1, h3, h4, Or.inr h2, h5.1, h5.2, h6⟩
  · rw [if_pos (by omega)]
    simp (disch := decide) only [mu_g, mu_at]
    exact ⟨h1, h3.symm, h4.symm, Or.inl h2, by omega, by omega, fun _ => by omega⟩
theorem unA_at (hφ : stk M r m.toNat 0 z30 = φ) : ∀ (n : Nat) (f : Int) (κ : ZU), 0 ≤ f → f + n ≤ 10 → κ 108 0 i = m → (∀ k, 0 ≤ k → k < m → κ 109 0 (6 * i + k) = M 26 r k ∧ 0 ≤ M 26 r k ∧ M 26 r k < c) → (∀ b f, 0 ≤ b → b < c → 0 ≤ f → f < 10 → κ 103 0 (10 * b + f) = M 12 b f ∧ κ 104 0 (10 * b + f) = M 13 b f ∧ κ 105 0 (10 * b + f) = M 14 b f ∧ (0 ≤ M 12 b f ∧ M 12 b f ≤ 2) ∧ (0 ≤ M 13 b f ∧ M 13 b f ≤ 20) ∧ (5 ≤ f → M 13 b f ≤ 3)) →
    (∀ g, f ≤ g → g < f + n → unA i n f κ 110 0 (10 * i + g) = φ.1 g ∧ unA i n f κ 111 0 (10 * i + g) = φ.2.1 g ∧ unA i n f κ 112 0 (10 * i + g) = φ.2.2 g ∧ (φ.1 g = 0 ∨ φ.1 g = 1) ∧ 0 ≤ φ.2.1 g ∧ φ.2.1 g ≤ 20 ∧ (5 ≤ g → φ.2.1 g ≤ 3)) ∧ ∀ x, ¬ (10 * i + f ≤ x ∧ x < 10 * i + f + n) → ∀ k' : Nat, unA i n f κ k' 0 x = κ k' 0 x
  | 0, f, κ, f0, fn, hm, hr, hl => ⟨fun g g0 g1 => by omega, fun _ _ _ => rfl⟩
  | n + 1, f, κ, f0, fn, hm, hr, hl => by
    have g := fun (k' : Nat) (h1 : k' ≠ 110 ∧ k' ≠ 111 ∧ k' ≠ 112) => unt_g (i := i) (f := f) (μ := κ) h1.1 h1.2.1 h1.2.2
    obtain ⟨i1, i2⟩ := unA_at hφ n (f + 1) (unt i f κ) (by omega) (by omega) (by rw [g 108 (by decide)]; exact hm) (fun k k0 k1 => by rw [g 109 (by decide)]; exact hr k k0 k1) (fun b f b0 b1 f0 f1 => by rw [g 103 (by decide), g 104 (by decide), g 105 (by decide)]; exact hl b f b0 b1 f0 f1)
    have e : unA i (n + 1) f κ = unA i n (f + 1) (unt i f κ) := rfl
    rw [e]
    refine ⟨fun g g0 g1 => ?_, fun x hx k' => ?_⟩
    · by_cases hg : g = f
      · rw [hg, i2 _ (by omega), i2 _ (by omega), i2 _ (by omega)]
        exact fR_t f0 (by omega) hm hr (fun b b0 b1 => hl b f b0 b1 f0 (by omega)) hφ
      · exact i1 g (by omega) (by omega)
    · rw [i2 x (by omega), unt_o (by omega)]
/-! a row more -/
theorem mRw_g {k : Nat} (h0 : k ≠ 0) (h1 : k ≠ 26) : mRw r m y μ k = μ k := by
  funext p j
  show (if k = 0 then _ else if k = 26 ∧ p = r then _ else μ k p j) = _
  rw [if_neg h0, if_neg (fun z => h1 z.1)]
theorem mRw_o (h : p ≠ r) : mRw r m y μ 26 p = μ 26 p := by
  funext j
  show (if (26 : Nat) = 0 then _ else if (26 : Nat) = 26 ∧ p = r then _ else μ 26 p j) = _
  rw [if_neg (by decide), if_neg (fun z => h z.2)]
theorem mRw_at : mRw r m y μ 26 r j = if 0 ≤ j ∧ j < m then kcd y j - 1 else 0 := by
  show (if (26 : Nat) = 0 then _ else if (26 : Nat) = 26 ∧ r = r then _ else _) = _
  rw [if_neg (by decide), if_pos ⟨rfl, rfl⟩]
theorem mRw_n : mRw r m y μ 0 0 26 = r + 1 := rfl
theorem mRw_l : mRw r m y μ 0 1 r = m := by
  show (if (0 : Nat) = 0 then (if (1 : Int) = 0 ∧ r = 26 then r + 1 else if (1 : Int) = 1 ∧ r = r then m else μ 0 1 r) else _) = _
  rw [if_pos rfl, if_neg (fun z => absurd z.1 (by decide)), if_pos ⟨rfl, rfl⟩]
theorem mRw_0 (h : ¬ (p = 0 ∧ j = 26)) (h' : ¬ (p = 1 ∧ j = r)) : mRw r m y μ 0 p j = μ 0 p j := by
  show (if (0 : Nat) = 0 then (if p = 0 ∧ j = 26 then r + 1 else if p = 1 ∧ j = r then m else μ 0 p j) else _) = _
  rw [if_pos rfl, if_neg h, if_neg h']
theorem RV_rw (h : RV L t μ) (hr : μ 0 0 26 = r) : RV L t (mRw r m y μ) := by
  have ek : ∀ k, k ≠ 0 → k ≠ 26 → mRw r m y μ k = μ k := fun k h0 h1 => mRw_g h0 h1
  have e0 : ∀ j, j ≠ 26 → mRw r m y μ 0 0 j = μ 0 0 j := fun j hj => mRw_0 (fun z => hj z.2) (fun z => absurd z.1 (by decide))
  have e1 : ∀ j, j ≠ r → mRw r m y μ 0 1 j = μ 0 1 j := fun j hj => mRw_0 (fun z => absurd z.1 (by decide)) (fun z => hj z.2)
  have e2 : mRw r m y μ 0 2 0 = μ 0 2 0 := mRw_0 (fun z => absurd z.1 (by decide)) (fun z => absurd z.1 (by decide))
  have e26 : ∀ p, p ≠ r → mRw r m y μ 26 p = μ 26 p := fun p hp => mRw_o hp
  have en : mRw r m y μ 0 0 26 = r + 1 := mRw_n
  generalize mRw r m y μ = ν at *
  obtain ⟨r1, r2, ⟨b1, b2, b3, b4, b5, b6⟩, r4, r5, r6, r7, r8⟩ := h
  refine ⟨by rw [e2]; exact r1, RLa_c r2 (e0 10 (by decide)) (by rw [ek 2 (by decide) (by decide)]) (by rw [ek 100 (by decide) (by decide)]) (fun k hk => ek k (by omega) (by omega)), ?_, RLc_c r4 (e0 30 (by decide)) (by rw [ek 2 (by decide) (by decide)]) (by rw [ek 100 (by decide) (by decide)]) (fun k hk => ek k (by omega) (by omega)), RLd_c r5 (ek 7 (by decide) (by decide)) (ek 125 (by decide) (by decide)), RLe_c r6 (e0 40 (by decide)) (by rw [ek 2 (by decide) (by decide)]) (by rw [ek 100 (by decide) (by decide)]) (by rw [e0 30 (by decide)]; exact Int.le_refl _) (by rw [e0 20 (by decide)]; exact Int.le_refl _) (e0 41 (by decide)) (fun k hk => ek k (by omega) (by omega)), RLf_c r7 (e0 41 (by decide)) (by rw [ek 2 (by decide) (by decide)]) (by rw [ek 100 (by decide) (by decide)]) (e0 50 (by decide)) (by rw [e0 30 (by decide)]; exact Int.le_refl _) (by rw [e0 20 (by decide)]; exact Int.le_refl _) (ek 41 (by decide) (by decide)) (fun i _ _ => ⟨by rw [ek 22 (by decide) (by decide)], by rw [ek 23 (by decide) (by decide)], by rw [ek 24 (by decide) (by decide)]⟩) (fun k hk b _ _ => by rw [ek k (by omega) (by omega)]) (fun k hk => ek k (by omega) (by omega)), by rw [e0 41 (by decide), e0 40 (by decide)]; exact r8⟩
  unfold RLb
  rw [e0 20 (by decide), ek 2 (by decide) (by decide), ek 100 (by decide) (by decide), en, ek 20 (by decide) (by decide), ek 107 (by decide) (by decide), ek 108 (by decide) (by decide), ek 109 (by decide) (by decide), ek 110 (by decide) (by decide)]
  refine ⟨b1, b2, b3, by omega, fun i i0 i1 => ?_, b6⟩
  obtain ⟨c1, c2, c3, c4, c5, c6, c7⟩ := b5 i i0 i1
  rw [e1 _ (by omega), e26 _ (by omega), e0 10 (by decide)]
  exact ⟨⟨c1.1, by omega, c1.2.2⟩, c2, c3, c4, c5, c6, stF_c c7 fun k hk => ek k (by omega) (by omega)⟩
/-! what both sides see in a row -/
theorem hap_arp (h : RV L t M) (hl : M 0 1 r = m) (h26 : ∀ k, 0 ≤ k → k < m → M 26 r k = kcd y k - 1 ∧ 0 ≤ M 26 r k ∧ M 26 r k < M 0 0 10) : zff (hap M r) 12 0 = zdn (arp M y m) (M 100 0 5).toNat (-1) := by
  have hA := h.2.1
  obtain ⟨b1, b2, b3, b4, b5, b6⟩ := h.2.2.1
  rw [b3]
  have e : (12 : Nat) = (M 0 0 20).toNat + (12 - (M 0 0 20).toNat) := by omega
  rw [zdn_zff, e, zff_cut]
  · have e2 : zff (hap M r) (M 0 0 20).toNat 0 = zff (arp M y m) (M 0 0 20).toNat 0 := by
      refine zff_eq _ 0 fun j j0 j1 => ?_
      have j2 : j < M 0 0 20 := by omega
      obtain ⟨c1, c2, c3, c4, c5, c6, c7⟩ := b5 j j0 j2
      unfold hap arp ral
      rw [c5, c2, hl, decide_eq_decide, decide_eq_true_iff]
      by_cases hm : M 108 0 j = m
      · have ez : zall (rls M (M 20 j 1) r) (M 108 0 j).toNat 0 = zall (fun k => lar M (M 109 0 (6 * j + k)) (kcd y k - 1)) m.toNat 0 := by
          rw [hm]
          refine zall_eq fun k k0 k1 => ?_
          have k2 : k < m := by omega
          obtain ⟨d1, d2, d3⟩ := h26 k k0 k2
          obtain ⟨x1, x2, x3⟩ := c4 k k0 (by omega)
          unfold rls
          rw [x1, ← d1]
          exact lal_lar hA x2 x3 d2 d3
        rw [ez]
        exact ⟨fun z => ⟨z.2.1, hm, z.2.2.2⟩, fun z => ⟨j2, z.1, hm, z.2.2⟩⟩
      · exact ⟨fun z => absurd z.2.2.1 hm, fun z => absurd z.2.1 hm⟩
    rw [e2]
    split
    · assumption
    · rfl
  · intro j j0 j1
    unfold hap
    exact decide_eq_false fun z => by have := z.1; omega
theorem sl_rsl (h : RV L t M) (h26 : ∀ k, 0 ≤ k → k < m → M 26 r k = kcd y k - 1 ∧ 0 ≤ M 26 r k ∧ M 26 r k < M 0 0 10) : zall (fun j => decide (M 10 (M 26 r j) 1 = 1)) m.toNat 0 = rsl M y m := by
  unfold rsl
  refine zall_eq fun k k0 k1 => ?_
  obtain ⟨d1, d2, d3⟩ := h26 k k0 (by omega)
  obtain ⟨x1, -⟩ := h.2.1.2.2.2.1 _ d2 d3
  show decide (M 10 (M 26 r k) 1 = 1) = decide (M 102 0 (kcd y k - 1) = 1)
  rw [← d1, x1]
theorem arp_c (h : ∀ k, (102 ≤ k ∧ k ≤ 109) → ν k = μ k) : arp ν y m = arp μ y m := by
  funext j
  unfold arp lar ksr
  rw [h 103 (by decide), h 104 (by decide), h 105 (by decide), h 107 (by decide), h 108 (by decide), h 109 (by decide)]
theorem rsl_c (h : ν 102 = μ 102) : rsl ν y m = rsl μ y m := by
  unfold rsl
  rw [h]
end ZIM1
