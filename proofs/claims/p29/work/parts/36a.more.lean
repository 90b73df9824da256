/-! ===== the class: more of setting ===== -/
section ZXA
variable {ck sk : Nat} {Q : ZO → ZH → Prop} {a b c d e f g h i j k l m p r r' s t v w x z fr en H L RF rd RD : Int} {y : Int64} {u u' u'' : ZV} {μ ν κ β : ZU} {hs hs' : Int → Bool} {sz sz' dt dt' cd : Int → Int} {hm hm' pg pg' : Int → Int}
def sfr (β κ : ZU) : Prop := ∀ k, (20 ≤ k ∧ k < 40) → κ k = β k
def bwd (β : ZU) (d i w : Int) : Int := (wwd β d i w 0).1
def brd (β : ZU) (d i w r : Int) : Int := if β 35 d w = -1 then (wwd β d i w r).2 else r
def rfo (β : ZU) (d i : Int) : Nat → Int → Int → Int
  | 0, _, r => r
  | n + 1, w, r => rfo β d i n (w + 1) (brd β d i w r)
theorem sfr_of (h : sfr β κ) {κ' : ZU} (h2 : ∀ k, (20 ≤ k ∧ k < 40) → κ' k = κ k) : sfr β κ' := fun k hk => (h2 k hk).trans (h k hk)
theorem lw_congr (hf : 0 ≤ f) (h : ∀ t, 0 ≤ t → t < 5 → hs t = hs' t ∧ sz t = sz' t ∧ dt t = dt' t) : ∀ (n : Nat) (i r : Int), 0 ≤ i → lw hs sz dt f l n i r = lw hs' sz' dt' f l n i r
  | 0, _, _, _ => rfl
  | n + 1, i, r, hi => by
    obtain ⟨h1, h2, h3⟩ := h ((f + i) % 5) (by omega) (by omega)
    rw [lw_s, lw_s, h1, h2, h3, lw_congr hf h n (i + 1) _ (by omega)]
theorem ww_congr (hf : 0 ≤ f) (h : ∀ t, 0 ≤ t → t < 5 → hs t = hs' t ∧ sz t = sz' t ∧ dt t = dt' t) : ∀ (n : Nat) (i s r : Int), ww hs sz dt cd f n i s r = ww hs' sz' dt' cd f n i s r
  | 0, _, _, _ => rfl
  | n + 1, i, s, r => by
    rw [ww_s, ww_s, lw_congr hf h 5 0 r (by omega), ww_congr hf h n (i + 1)]
theorem lw_1 : ∀ (n : Nat) (i r r' : Int), (lw hs sz dt f l n i r).1 = (lw hs sz dt f l n i r').1
  | 0, _, _, _ => rfl
  | n + 1, i, r, r' => by
    rw [lw_s, lw_s]
    split
    · rfl
    · exact lw_1 n (i + 1) _ _
theorem ww_1 : ∀ (n : Nat) (i s r r' : Int), (ww hs sz dt cd f n i s r).1 = (ww hs sz dt cd f n i s r').1
  | 0, _, _, _, _ => rfl
  | n + 1, i, s, r, r' => by
    rw [ww_s, ww_s, lw_1 5 0 r r']
    exact ww_1 n (i + 1) _ _ _
theorem zor_assoc (a b c : Int) : zor (zor a b) c = zor a (zor b c) := by
  unfold zor
  rw [Int32.ofInt_toInt, Int32.ofInt_toInt, Int32.or_assoc]
theorem zor_self (a b : Int) : zor (zor a b) b = zor a b := by
  unfold zor
  rw [Int32.ofInt_toInt, Int32.or_assoc, Int32.or_self]
theorem zor_comm (a b : Int) : zor a b = zor b a := by
  unfold zor
  rw [Int32.or_comm]
theorem lw_2 : ∀ (n : Nat) (i : Int), (∀ r, (lw hs sz dt f l n i r).2 = r) ∨ ∃ m, ∀ r, (lw hs sz dt f l n i r).2 = zor r m
  | 0, _ => Or.inl fun _ => rfl
  | n + 1, i => by
    right
    by_cases h : hs ((f + i) % 5) = true ∧ ¬ zand (zshr (dt ((f + i) % 5)) l) 1 = 0
    · exact ⟨zshl 1 ((f + i) % 5), fun r => by rw [lw_s, if_pos h]⟩
    · rcases lw_2 n (i + 1) with q | ⟨m, q⟩
      · exact ⟨zshl 1 ((f + i) % 5), fun r => by rw [lw_s, if_neg h, q]⟩
      · exact ⟨zor (zshl 1 ((f + i) % 5)) m, fun r => by rw [lw_s, if_neg h, q, zor_assoc]⟩
def rdm (g : Int → Int) : Prop := (∀ r, g r = r) ∨ ∃ m, ∀ r, g r = zor r m
theorem rdm.comp {g g' : Int → Int} (h : rdm g) (h' : rdm g') : rdm fun r => g' (g r) := by
  rcases h with q | ⟨m, q⟩
  · rcases h' with q' | ⟨m', q'⟩
    · exact Or.inl fun r => by show g' (g r) = _; rw [q', q]
    · exact Or.inr ⟨m', fun r => by show g' (g r) = _; rw [q', q]⟩
  · rcases h' with q' | ⟨m', q'⟩
    · exact Or.inr ⟨m, fun r => by show g' (g r) = _; rw [q', q]⟩
    · exact Or.inr ⟨zor m m', fun r => by show g' (g r) = _; rw [q', q, zor_assoc]⟩
theorem rdm.idem {g : Int → Int} (h : rdm g) (r : Int) : g (g r) = g r := by
  rcases h with q | ⟨m, q⟩
  · rw [q, q]
  · rw [q, q, zor_self]
theorem ww_2 : ∀ (n : Nat) (i s : Int), rdm fun r => (ww hs sz dt cd f n i s r).2
  | 0, _, _ => Or.inl fun _ => rfl
  | n + 1, i, s => by
    have h1 : rdm fun r => (lw hs sz dt f (cd i - 1) 5 0 r).2 := lw_2 5 0
    have h2 := ww_2 n (i + 1) (s + (lw hs sz dt f (cd i - 1) 5 0 0).1)
    have h3 := h1.comp h2
    have e : (fun r => (ww hs sz dt cd f (n + 1) i s r).2) = fun r => (ww hs sz dt cd f n (i + 1) (s + (lw hs sz dt f (cd i - 1) 5 0 0).1) (lw hs sz dt f (cd i - 1) 5 0 r).2).2 := by
      funext r
      rw [ww_s, lw_1 5 0 r 0]
    rw [e]
    exact h3
theorem brd_m : rdm (brd β d i w) := by
  unfold brd
  by_cases h : β 35 d w = -1
  · have e : (fun r => if β 35 d w = -1 then (wwd β d i w r).2 else r) = fun r => (wwd β d i w r).2 := by funext r; rw [if_pos h]
    rw [e]
    exact ww_2 _ _ _
  · have e : (fun r => if β 35 d w = -1 then (wwd β d i w r).2 else r) = fun r => r := by funext r; rw [if_neg h]
    rw [e]
    exact Or.inl fun _ => rfl
theorem rfo_m : ∀ (n : Nat) (w : Int), rdm (rfo β d i n w)
  | 0, _ => Or.inl fun _ => rfl
  | n + 1, w => (brd_m (w := w)).comp (rfo_m n (w + 1))
theorem bwd_eq : (wwd β d i w r).1 = bwd β d i w := ww_1 _ _ _ _ _
theorem bdp_congr {hm hm' : Int → Int} (h : ∀ j, 0 ≤ j → j < L → hm j = hm' j) (h0 : 1 ≤ l) (h1 : l < L) : bdp L hm l = bdp L hm' l := by
  have e1 := h l (by omega) h1
  have e2 := h (l - 1) (by omega) (by omega)
  unfold bdp bd7 bd10
  have e3 : (l - 1 = 0 ∨ ¬ hm (l - 1 - 1) = hm (l - 1)) = (l - 1 = 0 ∨ ¬ hm' (l - 1 - 1) = hm' (l - 1)) := by
    by_cases q : l - 1 = 0
    · simp only [q, true_or]
    · rw [e2, h (l - 1 - 1) (by omega) (by omega)]
  have e4 : (l - 1 = L - 1 ∨ ¬ hm (l - 1 + 1) = hm (l - 1)) = (l - 1 = L - 1 ∨ ¬ hm' (l - 1 + 1) = hm' (l - 1)) := by
    rw [e2, show l - 1 + 1 = l by omega, e1]
  have e5 : (l = L - 1 ∨ ¬ hm (l + 1) = hm l) = (l = L - 1 ∨ ¬ hm' (l + 1) = hm' l) := by
    by_cases q : l = L - 1
    · simp only [q, true_or]
    · rw [e1, h (l + 1) (by omega) (by omega)]
  have e6 : (l = 0 ∨ ¬ hm (l - 1) = hm l) = (l = 0 ∨ ¬ hm' (l - 1) = hm' l) := by rw [e1, e2]
  simp only [e3, e4, e5, e6]
theorem pw_congr {bd bd' ls ls' : Int → Int} (h1 : e < L → bd e = bd' e) (h2 : e < L → ls e = ls' e) : pw L bd ls e m = pw L bd' ls' e m := by
  unfold pw
  by_cases h : e < L
  · rw [if_pos h, if_pos h, h1 h, h2 h]
  · rw [if_neg h, if_neg h]
theorem cpg_congr {hg hg' bd bd' ls ls' : Int → Int} (h1 : ∀ e, b ≤ e → e < L → hg e = hg' e) (h2 : ∀ e, b < e → e < L → bd e = bd' e) (h3 : ∀ e, b < e → e < L → ls e = ls' e) : ∀ (n : Nat) (e f lb pe : Int), b + 2 ≤ e → e + n = L + 1 → cpg L H hg bd ls n e f lb pe = cpg L H hg' bd' ls' n e f lb pe
  | 0, _, _, _, _, _, _ => rfl
  | n + 1, e, f, lb, pe, he, hn => by
    have e1 := h1 (e - 1) (by omega) (by omega)
    have e2 : ∀ m, pw L bd ls e m = pw L bd' ls' e m := fun m => pw_congr (h2 e (by omega)) (h3 e (by omega))
    unfold cpg
    rw [e1, e2, cpg_congr h1 h2 h3 n (e + 1) _ lb pe (by omega) (by omega), cpg_congr h1 h2 h3 n (e + 1) _ _ e (by omega) (by omega)]
theorem cpb_congr {hg hg' bd bd' ls ls' : Int → Int} (hb : b < L) (h1 : ∀ e, b ≤ e → e < L → hg e = hg' e) (h2 : ∀ e, b < e → e < L → bd e = bd' e) (h3 : ∀ e, b < e → e < L → ls e = ls' e) : cpb L H hg bd ls b = cpb L H hg' bd' ls' b := by
  unfold cpb
  rw [h1 b (by omega) hb, pw_congr (h2 (b + 1) (by omega)) (h3 (b + 1) (by omega))]
  exact cpg_congr h1 h2 h3 _ _ _ _ _ (by omega) (by omega)
def fdG (hm pg : Int → Int) (p z : Int) : Nat → Int → Int
  | 0, _ => z
  | n + 1, l => if hm l = p then pg l + 1 else fdG hm pg p z n (l + 1)
theorem fdG_last : ∀ (n : Nat) (l : Int), fdG hm pg p z (n + 1) l = fdG hm pg p (if hm (l + n) = p then pg (l + n) + 1 else z) n l
  | 0, l => by
    have e : l + ((0 : Nat) : Int) = l := by omega
    rw [e]
    rfl
  | n + 1, l => by
    have e : l + ((n + 1 : Nat) : Int) = l + 1 + n := by omega
    have ih := fdG_last n (l + 1)
    show (if hm l = p then pg l + 1 else fdG hm pg p z (n + 1) (l + 1)) = (if hm l = p then pg l + 1 else _)
    rw [ih, e]
theorem fdG_congr : ∀ (n : Nat) (l : Int), (∀ j, l ≤ j → j < l + n → hm j = hm' j ∧ pg j = pg' j) → fdG hm pg p z n l = fdG hm' pg' p z n l
  | 0, _, _ => rfl
  | n + 1, l, h => by
    obtain ⟨h1, h2⟩ := h l (by omega) (by omega)
    unfold fdG
    rw [h1, h2, fdG_congr n (l + 1) (fun j a b => h j (by omega) (by omega))]
theorem fdG_b (hz : 1 ≤ z ∧ z ≤ 61) : ∀ (n : Nat) (l : Int), (∀ j, l ≤ j → j < l + n → 0 ≤ pg j ∧ pg j ≤ 60) → 1 ≤ fdG hm pg p z n l ∧ fdG hm pg p z n l ≤ 61
  | 0, _, _ => hz
  | n + 1, l, h => by
    have := h l (by omega) (by omega)
    unfold fdG
    split
    · omega
    · exact fdG_b hz n (l + 1) (fun j a b => h j (by omega) (by omega))
theorem fbN_66 : ∀ (n : Nat) (μ : ZU), fbN c n μ 66 0 p = fdG (μ 52 c) (μ 56 c) p (μ 66 0 p) n 0
  | 0, μ => rfl
  | n + 1, μ => by
    unfold fbN
    rw [fbN_66 n, mu_g (by decide), mu_g (k' := 56) (by decide), fdG_last, Int.zero_add]
    congr 1
    by_cases h : μ 52 c n = p
    · rw [if_pos h, h, mu_at]
    · rw [if_neg h, mu_j (fun z => h z.symm)]
theorem fb0_66 : ∀ (n : Nat) (q : Int) (μ : ZU) (j : Int), fb0 n q μ 66 0 j = if q ≤ j ∧ j < q + n then 1 else μ 66 0 j
  | 0, q, μ, j => by
    rw [if_neg (by omega)]
    rfl
  | n + 1, q, μ, j => by
    unfold fb0
    rw [fb0_66 n]
    by_cases h : j = q
    · subst h
      rw [if_neg (by omega), if_pos (by omega), mu_at]
    · rw [mu_j h]
      by_cases h2 : q + 1 ≤ j ∧ j < q + 1 + n
      · rw [if_pos h2, if_pos (by omega)]
      · rw [if_neg h2, if_neg (by omega)]
theorem fbg_66 (hp : 0 ≤ p ∧ p < 12) : fbg c μ 66 0 p = fdG (μ 52 c) (μ 56 c) p 1 (μ 50 c 1).toNat 0 := by
  unfold fbg
  rw [fbN_66, fb0_g (by decide), fb0_g (k := 56) (by decide), fb0_66, if_pos (by omega)]
theorem rnN_51 : ∀ (n : Nat) (w r : Int) (μ : ZU) (j : Int), (rnN c d n w r μ).1 51 c j = if (w ≤ j ∧ j < w + n) ∧ ¬ μ 35 d j = -1 then μ 66 0 (μ 35 d j) else μ 51 c j
  | 0, w, r, μ, j => by
    rw [if_neg (by omega)]
    rfl
  | n + 1, w, r, μ, j => by
    unfold rnN
    by_cases h : μ 35 d w = -1 ∨ μ 51 c w = μ 66 0 (μ 35 d w)
    · rw [if_pos h, rnN_51 n]
      by_cases hj : j = w
      · subst hj
        rw [if_neg (by omega)]
        rcases h with h | h
        · rw [if_neg (fun z => z.2 h)]
        · by_cases h2 : μ 35 d j = -1
          · rw [if_neg (fun z => z.2 h2)]
          · rw [if_pos ⟨by omega, h2⟩, h]
      · by_cases h3 : (w + 1 ≤ j ∧ j < w + 1 + n) ∧ ¬ μ 35 d j = -1
        · rw [if_pos h3, if_pos ⟨by omega, h3.2⟩]
        · rw [if_neg h3, if_neg (fun z => h3 ⟨by omega, z.2⟩)]
    · rw [if_neg h, rnN_51 n, mu_g (by decide), mu_g (k' := 66) (by decide)]
      by_cases hj : j = w
      · subst hj
        rw [if_neg (by omega), mu_at, if_pos ⟨by omega, fun z => h (Or.inl z)⟩]
      · rw [mu_j hj]
        by_cases h3 : (w + 1 ≤ j ∧ j < w + 1 + n) ∧ ¬ μ 35 d j = -1
        · rw [if_pos h3, if_pos ⟨by omega, h3.2⟩]
        · rw [if_neg h3, if_neg (fun z => h3 ⟨by omega, z.2⟩)]
theorem rnN_2 : ∀ (n : Nat) (w r : Int) (μ : ZU), (rnN c d n w r μ).2 = 0 ↔ r = 0 ∧ ∀ j, w ≤ j → j < w + n → (μ 35 d j = -1 ∨ μ 51 c j = μ 66 0 (μ 35 d j))
  | 0, w, r, μ => ⟨fun h => ⟨h, fun j a b => by omega⟩, fun h => h.1⟩
  | n + 1, w, r, μ => by
    unfold rnN
    by_cases h : μ 35 d w = -1 ∨ μ 51 c w = μ 66 0 (μ 35 d w)
    · rw [if_pos h, rnN_2 n]
      constructor
      · rintro ⟨h1, h2⟩
        refine ⟨h1, fun j a b => ?_⟩
        by_cases hj : j = w
        · subst hj; exact h
        · exact h2 j (by omega) (by omega)
      · rintro ⟨h1, h2⟩
        exact ⟨h1, fun j a b => h2 j (by omega) (by omega)⟩
    · rw [if_neg h, rnN_2 n]
      constructor
      · rintro ⟨h1, -⟩; omega
      · rintro ⟨h1, h2⟩; exact absurd (h2 w (by omega) (by omega)) h
theorem wwd_s (h : sfr β μ) : wwd μ d b w r = wwd β d b w r := by
  unfold wwd fhs
  rw [h 22 (by omega), h 23 (by omega), h 24 (by omega), h 31 (by omega), h 32 (by omega), h 33 (by omega), h 34 (by omega)]
theorem mwN_f : ∀ (n : Nat) (w : Int) (μ : ZU), sfr β μ → mwN c d b n w μ 50 c 5 = rfo β d b n w (μ 50 c 5) ∧ ∀ j, mwN c d b n w μ 51 c j = (if w ≤ j ∧ j < w + n then (if β 35 d j = -1 then -1 else 1) else μ 51 c j) ∧ mwN c d b n w μ 61 0 j = (if w ≤ j ∧ j < w + n then (if β 35 d j = -1 then bwd β d b j else 0) else μ 61 0 j)
  | 0, w, μ, h => ⟨rfl, fun j => ⟨by rw [if_neg (by omega)]; rfl, by rw [if_neg (by omega)]; rfl⟩⟩
  | n + 1, w, μ, h => by
    have h' : sfr β (mw1 μ c d b w) := sfr_of h fun k hk => mw1_g (by omega) (by omega) (by omega)
    obtain ⟨i1, i2⟩ := mwN_f n (w + 1) (mw1 μ c d b w) h'
    have e35 : μ 35 = β 35 := h 35 (by omega)
    have m5 : mw1 μ c d b w 50 c 5 = brd β d b w (μ 50 c 5) := by
      unfold mw1 brd
      rw [e35, wwd_s h]
      split
      · rw [mu_g (by decide), mu_at]
      · rw [mu_g (by decide), mu_g (by decide)]
    have m51 : ∀ j, mw1 μ c d b w 51 c j = if j = w then (if β 35 d j = -1 then -1 else 1) else μ 51 c j := fun j => by
      unfold mw1
      rw [e35]
      by_cases hj : j = w
      · subst hj
        rw [if_pos rfl]
        split
        · rw [mu_g (by decide), mu_g (by decide), mu_at]
        · rw [mu_g (by decide), mu_at]
      · rw [if_neg hj]
        split
        · rw [mu_g (by decide), mu_g (by decide), mu_j hj]
        · rw [mu_g (by decide), mu_j hj]
    have m61 : ∀ j, mw1 μ c d b w 61 0 j = if j = w then (if β 35 d j = -1 then bwd β d b j else 0) else μ 61 0 j := fun j => by
      unfold mw1
      rw [e35, wwd_s h]
      by_cases hj : j = w
      · subst hj
        rw [if_pos rfl]
        split
        · rw [mu_at, bwd_eq]
        · rw [mu_at]
      · rw [if_neg hj]
        split
        · rw [mu_j hj, mu_g (by decide), mu_g (by decide)]
        · rw [mu_j hj, mu_g (by decide)]
    unfold mwN
    refine ⟨by rw [i1, m5]; rfl, fun j => ?_⟩
    rw [(i2 j).1, (i2 j).2, m51, m61]
    by_cases hj : j = w
    · subst hj
      have q1 : ¬ (j + 1 ≤ j ∧ j < j + 1 + (n : Int)) := by omega
      have q2 : j ≤ j ∧ j < j + ((n + 1 : Nat) : Int) := by omega
      simp only [q1, q2, if_true, if_false, and_self]
    · by_cases h3 : w + 1 ≤ j ∧ j < w + 1 + (n : Int)
      · have q2 : w ≤ j ∧ j < w + ((n + 1 : Nat) : Int) := by omega
        simp only [hj, h3, q2, if_true, if_false, and_self]
      · have q2 : ¬ (w ≤ j ∧ j < w + ((n + 1 : Nat) : Int)) := by omega
        simp only [hj, h3, q2, if_true, if_false, and_self]
theorem stN_j (h1 : j ≠ 1) (h2 : j ≠ 2) (h3 : j ≠ 3) (h4 : j ≠ 4) : ∀ (n : Nat) (μ : ZU), stN c d s n μ 50 c j = μ 50 c j
  | 0, μ => by
    unfold stN
    rw [ps1_j h1 h2 h4, mu_j h3]
  | n + 1, μ => by
    unfold stN
    split
    · rw [rnw_g (by decide) (by decide), ps1_j h1 h2 h4, mu_j h3]
    · rw [stN_j h1 h2 h3 h4 n, rnw_g (by decide) (by decide), ps1_j h1 h2 h4, mu_j h3]
theorem mwN_j (hj : j ≠ 5) : ∀ (n : Nat) (w : Int) (μ : ZU), mwN c d b n w μ 50 c j = μ 50 c j
  | 0, _, _ => rfl
  | n + 1, w, μ => by
    unfold mwN
    rw [mwN_j hj n]
    unfold mw1
    split
    · rw [mu_g (by decide), mu_j hj, mu_g (by decide)]
    · rw [mu_g (by decide), mu_g (by decide)]
theorem stN_3 : ∀ (n : Nat) (μ : ZU), 0 ≤ μ 50 c 3 → μ 50 c 3 + n = 4 → 1 ≤ stN c d s n μ 50 c 3 ∧ stN c d s n μ 50 c 3 ≤ 5
  | 0, μ, h0, hn => by
    unfold stN
    rw [ps1_j (by decide) (by decide) (by decide), mu_at]
    omega
  | n + 1, μ, h0, hn => by
    unfold stN
    have e : ps1 c d s μ 50 c 3 = μ 50 c 3 + 1 := by rw [ps1_j (by decide) (by decide) (by decide), mu_at]
    split
    · rw [rnw_g (by decide) (by decide), e]
      omega
    · exact stN_3 n _ (by rw [rnw_g (by decide) (by decide), e]; omega) (by rw [rnw_g (by decide) (by decide), e]; omega)
theorem stt_3 : 1 ≤ stt c d b μ 50 c 3 ∧ stt c d b μ 50 c 3 ≤ 5 := by
  unfold stt
  exact stN_3 4 _ (by rw [mu_at]; omega) (by rw [mu_at]; rfl)
end ZXA
/-! ===== setting writes one sheet only ===== -/
section ZCX
variable {b c d e f h s l w x i : Int} {μ ν : ZU} {k : Nat}
theorem mw1_o (hb : b ≠ c) (hk : 50 ≤ k ∧ k ≤ 56) : mw1 μ c d f w k b = μ k b := by
  funext j
  unfold mw1
  split
  · simp (disch := first | omega | assumption) only [mu_g, mu_i]
  · simp (disch := first | omega | assumption) only [mu_g, mu_i]
theorem mwN_o (hb : b ≠ c) (hk : 50 ≤ k ∧ k ≤ 56) : ∀ (n : Nat) (w : Int) (μ : ZU), mwN c d f n w μ k b = μ k b
  | 0, _, _ => rfl
  | n + 1, w, μ => by
    show mwN c d f n (w + 1) (mw1 μ c d f w) k b = _
    rw [mwN_o hb hk n, mw1_o hb hk]
theorem beg_o (hb : b ≠ c) (hk : 50 ≤ k ∧ k ≤ 56) : beg μ c h w x k b = μ k b := by
  funext j
  unfold beg
  simp (disch := first | omega | assumption) only [mu_g, mu_i]
theorem bl1_o (hb : b ≠ c) (hk : 50 ≤ k ∧ k ≤ 56) : bl1 μ c d w k b = μ k b := by
  unfold bl1
  split
  · funext j
    simp (disch := first | omega | assumption) only [mu_g, mu_i]
  · exact beg_o hb hk
theorem blN_o (hb : b ≠ c) (hk : 50 ≤ k ∧ k ≤ 56) : ∀ (n : Nat) (w : Int) (μ : ZU), blN c d n w μ k b = μ k b
  | 0, _, _ => rfl
  | n + 1, w, μ => by
    show blN c d n (w + 1) (bl1 μ c d w) k b = _
    rw [blN_o hb hk n, bl1_o hb hk]
theorem npN_o (hb : b ≠ c) (hk : 50 ≤ k ∧ k ≤ 56) : ∀ (n : Nat) (l en : Int) (μ : ZU), npN c n l en μ k b = μ k b
  | 0, _, _, _ => rfl
  | n + 1, l, en, μ => by
    show (if l = en then npN c n (l + 1) (μ 65 0 l) (mu (mu μ 50 c 2 (μ 50 c 2 + 1)) 56 c l (μ 50 c 2 + 1 - 1)) else npN c n (l + 1) en (mu μ 56 c l (μ 50 c 2 - 1))) k b = _
    split
    · rw [npN_o hb hk n]
      funext j
      simp (disch := first | omega | assumption) only [mu_g, mu_i]
    · rw [npN_o hb hk n]
      funext j
      simp (disch := first | omega | assumption) only [mu_g, mu_i]
theorem rnN_o (hb : b ≠ c) (hk : 50 ≤ k ∧ k ≤ 56) : ∀ (n : Nat) (w r : Int) (μ : ZU), (rnN c d n w r μ).1 k b = μ k b
  | 0, _, _, _ => rfl
  | n + 1, w, r, μ => by
    show (if μ 35 d w = -1 ∨ μ 51 c w = μ 66 0 (μ 35 d w) then rnN c d n (w + 1) r μ else rnN c d n (w + 1) 1 (mu μ 51 c w (μ 66 0 (μ 35 d w)))).1 k b = _
    split
    · exact rnN_o hb hk n _ _ _
    · rw [rnN_o hb hk n]
      funext j
      simp (disch := first | omega | assumption) only [mu_g, mu_i]
theorem ps1_o (hb : b ≠ c) (hk : 50 ≤ k ∧ k ≤ 56) : ps1 c d s μ k b = μ k b := by
  unfold ps1 bps
  rw [npN_o hb hk]
  have e1 : mu (bpz c (μ 30 d 1) (psw c d s μ)) 50 c 2 0 k b = psw c d s μ k b := by
    funext j
    unfold bpz
    simp (disch := first | omega | assumption) only [mu_g, mu_i]
    rw [bpg_g (by omega) (by omega)]
  rw [e1]
  unfold psw
  rw [wlN_g (by omega) (by omega)]
  unfold psb
  rw [blN_o hb hk]
  funext j
  simp (disch := first | omega | assumption) only [mu_g, mu_i]
theorem rnw_o (hb : b ≠ c) (hk : 50 ≤ k ∧ k ≤ 56) : (rnw c d μ).1 k b = μ k b := by
  unfold rnw
  rw [rnN_o hb hk]
  have e : fbg c μ k = μ k := by
    unfold fbg
    rw [fbN_g (by omega), fb0_g (by omega)]
  rw [e]
theorem stN_o (hb : b ≠ c) (hk : 50 ≤ k ∧ k ≤ 56) : ∀ (n : Nat) (μ : ZU), stN c d s n μ k b = μ k b
  | 0, μ => ps1_o hb hk
  | n + 1, μ => by
    show (if (rnw c d (ps1 c d s μ)).2 = 0 then (rnw c d (ps1 c d s μ)).1 else stN c d s n (rnw c d (ps1 c d s μ)).1) k b = _
    split
    · rw [rnw_o hb hk, ps1_o hb hk]
    · rw [stN_o hb hk n, rnw_o hb hk, ps1_o hb hk]
theorem stt_o (hb : b ≠ c) (hk : 50 ≤ k ∧ k ≤ 56) : stt c d f μ k b = μ k b := by
  unfold stt st0
  rw [stN_o hb hk]
  have e : mu (mwN c d f (μ 30 d 9).toNat 0 (mu (mu μ 50 c 5 (μ 30 d 7)) 50 c 0 (μ 30 d 9))) 50 c 3 0 k b = mwN c d f (μ 30 d 9).toNat 0 (mu (mu μ 50 c 5 (μ 30 d 7)) 50 c 0 (μ 30 d 9)) k b := by
    funext j
    simp (disch := first | omega | assumption) only [mu_g, mu_i]
  rw [e, mwN_o hb hk]
  funext j
  simp (disch := first | omega | assumption) only [mu_g, mu_i]
end ZCX
/-! ===== the pages' numbers never fall ===== -/
section ZCZ
variable {a b c d e f h s l w x i v : Int} {μ ν : ZU} {k : Nat}
theorem npN_m : ∀ (n : Nat) (l en : Int) (μ : ZU), 0 ≤ l → (l = en ∨ 1 ≤ μ 50 c 2) → 0 ≤ μ 50 c 2 → (∀ j m, 0 ≤ j → j ≤ m → m < l → 0 ≤ μ 56 c j ∧ μ 56 c j ≤ μ 56 c m) → (∀ j, 0 ≤ j → j < l → μ 56 c j ≤ μ 50 c 2 - 1) →
    ∀ j m, 0 ≤ j → j ≤ m → m < l + n → 0 ≤ npN c n l en μ 56 c j ∧ npN c n l en μ 56 c j ≤ npN c n l en μ 56 c m
  | 0, l, en, μ, h0, h1, h2, h3, h4 => fun j m j0 j1 m1 => h3 j m j0 j1 (by omega)
  | n + 1, l, en, μ, h0, h1, h2, h3, h4 => by
    have st : ∀ (p v : Int) (κ : ZU), κ 50 c 2 = p → (v = p - 1 ∧ 1 ≤ p) → μ 50 c 2 ≤ p → (∀ j, κ 56 c j = if j = l then v else μ 56 c j) → (∀ j m, 0 ≤ j → j ≤ m → m < l + 1 → 0 ≤ κ 56 c j ∧ κ 56 c j ≤ κ 56 c m) ∧ ∀ j, 0 ≤ j → j < l + 1 → κ 56 c j ≤ κ 50 c 2 - 1 := fun p v κ hp hv hle hk => by
      refine ⟨fun j m j0 j1 m1 => ?_, fun j j0 j1 => ?_⟩
      · rw [hk, hk]
        by_cases e1 : j = l
        · rw [if_pos e1, if_pos (by omega)]
          omega
        · rw [if_neg e1]
          by_cases e2 : m = l
          · have := h3 j j j0 (by omega) (by omega)
            have := h4 j j0 (by omega)
            rw [if_pos e2]
            omega
          · rw [if_neg e2]
            exact h3 j m j0 j1 (by omega)
      · rw [hk, hp]
        by_cases e1 : j = l
        · rw [if_pos e1]
          omega
        · have := h4 j j0 (by omega)
          rw [if_neg e1]
          omega
    have el : l + ((n + 1 : Nat) : Int) = l + 1 + n := by omega
    rw [el]
    show ∀ j m, 0 ≤ j → j ≤ m → m < l + 1 + (n : Int) → 0 ≤ (if l = en then npN c n (l + 1) (μ 65 0 l) (mu (mu μ 50 c 2 (μ 50 c 2 + 1)) 56 c l (μ 50 c 2 + 1 - 1)) else npN c n (l + 1) en (mu μ 56 c l (μ 50 c 2 - 1))) 56 c j ∧ (if l = en then npN c n (l + 1) (μ 65 0 l) (mu (mu μ 50 c 2 (μ 50 c 2 + 1)) 56 c l (μ 50 c 2 + 1 - 1)) else npN c n (l + 1) en (mu μ 56 c l (μ 50 c 2 - 1))) 56 c j ≤ (if l = en then npN c n (l + 1) (μ 65 0 l) (mu (mu μ 50 c 2 (μ 50 c 2 + 1)) 56 c l (μ 50 c 2 + 1 - 1)) else npN c n (l + 1) en (mu μ 56 c l (μ 50 c 2 - 1))) 56 c m
    by_cases he : l = en
    · simp only [if_pos he]
      have e5 : mu (mu μ 50 c 2 (μ 50 c 2 + 1)) 56 c l (μ 50 c 2 + 1 - 1) 50 c 2 = μ 50 c 2 + 1 := by rw [mu_g (by decide), mu_at]
      obtain ⟨s1, s2⟩ := st (μ 50 c 2 + 1) (μ 50 c 2 + 1 - 1) (mu (mu μ 50 c 2 (μ 50 c 2 + 1)) 56 c l (μ 50 c 2 + 1 - 1)) e5 ⟨rfl, by omega⟩ (by omega) (fun j => by
        by_cases e1 : j = l
        · rw [if_pos e1, e1, mu_at]
        · rw [if_neg e1, mu_j e1, mu_g (by decide)])
      exact npN_m n (l + 1) _ _ (by omega) (Or.inr (by rw [e5]; omega)) (by rw [e5]; omega) s1 s2
    · simp only [if_neg he]
      have hp : 1 ≤ μ 50 c 2 := by omega
      have e5 : mu μ 56 c l (μ 50 c 2 - 1) 50 c 2 = μ 50 c 2 := by rw [mu_g (by decide)]
      obtain ⟨s1, s2⟩ := st (μ 50 c 2) (μ 50 c 2 - 1) (mu μ 56 c l (μ 50 c 2 - 1)) e5 ⟨rfl, hp⟩ (Int.le_refl _) (fun j => by
        by_cases e1 : j = l
        · rw [if_pos e1, e1, mu_at]
        · rw [if_neg e1, mu_j e1])
      exact npN_m n (l + 1) _ _ (by omega) (Or.inr (by rw [e5]; omega)) (by rw [e5]; omega) s1 s2
theorem ps1_m {j m : Int} (j0 : 0 ≤ j) (j1 : j ≤ m) (m1 : m < ps1 c d s μ 50 c 1) : 0 ≤ ps1 c d s μ 56 c j ∧ ps1 c d s μ 56 c j ≤ ps1 c d s μ 56 c m := by
  have eL : psw c d s μ 50 c 1 = psb c d μ 50 c 1 := by
    unfold psw
    rw [wlN_g (by decide) (by decide)]
  rw [ps1_L, ← eL] at m1
  exact npN_m (psw c d s μ 50 c 1).toNat 0 0 (mu (bpz c (μ 30 d 1) (psw c d s μ)) 50 c 2 0) (Int.le_refl _) (Or.inl rfl) (by rw [mu_at]; exact Int.le_refl _) (fun j m j0 j1 m1 => by omega) (fun j j0 j1 => by omega) j m j0 j1 (by omega)
theorem stt_m {t j m : Int} (hc : c = μ 0 0 50 - 1) (hc0 : 0 ≤ c) (hd : 0 ≤ d) (hd2 : d < μ 0 0 30) (hD : dcOK μ t) (hF : flOK μ b) (j0 : 0 ≤ j) (j1 : j ≤ m) (m1 : m < stt c d b μ 50 c 1) : 0 ≤ stt c d b μ 56 c j ∧ stt c d b μ 56 c j ≤ stt c d b μ 56 c m := by
  obtain ⟨ξ, x1, x2⟩ := stN_last 4 (mu (st0 c d b μ) 50 c 3 0) (stt_sI hc hc0 hd hd2 hD hF)
  unfold stt at *
  rw [x2 50 (by decide) (by decide)] at m1
  rw [x2 56 (by decide) (by decide)]
  exact ps1_m j0 j1 m1
end ZCZ
