/-! ===== setting: the two sides side by side ===== -/
def sfr (β κ : ZU) : Prop := ∀ k, (20 ≤ k ∧ k < 40) → κ k = β k
def rfr (β ν : ZU) : Prop := (∀ k, k ≠ 100 → (k < 151 ∨ 155 < k) → ν k = β k) ∧ ∀ a j, ¬ (a = 0 ∧ 45 ≤ j ∧ j ≤ 49) → ν 100 a j = β 100 a j
def stW (β : ZU) (d : Int) : Prop := ∀ w, 0 ≤ w → w < β 122 0 d → β 34 d w = β 123 0 (60 * d + w) ∧ β 35 d w = β 124 0 (60 * d + w) ∧ -1 ≤ β 35 d w ∧ β 35 d w < 12
def stP (β : ZU) (d : Int) : Prop := (∀ p, 0 ≤ p → p < β 119 0 d → (β 32 d p = β 120 0 (12 * d + p) ∧ 0 ≤ β 120 0 (12 * d + p) ∧ β 120 0 (12 * d + p) < 4) ∧ (0 ≤ β 121 0 (12 * d + p) ∧ β 121 0 (12 * d + p) ≤ eof β d p ∧ eof β d p ≤ β 122 0 d) ∧ ∀ w, β 121 0 (12 * d + p) ≤ w → w < eof β d p → β 33 d w = p) ∧ (0 < β 119 0 d → β 121 0 (12 * d + 0) = 0) ∧ (β 119 0 d = 0 → β 122 0 d = 0)
def stS (β : ZU) (d : Int) : Prop := ∀ s, 0 ≤ s → s < 4 → β 31 d s = β 117 0 (4 * d + s) ∧ 0 ≤ β 117 0 (4 * d + s) ∧ β 117 0 (4 * d + s) < 5
def stF (β : ZU) (i : Int) : Prop := ∀ t, 0 ≤ t → t < 10 → β 22 i t = β 110 0 (10 * i + t) ∧ β 23 i t = β 111 0 (10 * i + t) ∧ β 24 i t = β 112 0 (10 * i + t) ∧ (β 22 i t = 0 ∨ β 22 i t = 1) ∧ 0 ≤ β 23 i t ∧ β 23 i t ≤ 20 ∧ (5 ≤ t → β 23 i t ≤ 3)
/-- a document and an image, told alike on both sides -/
def sta (β : ZU) (d i : Int) : Prop := (0 ≤ d ∧ d < 6) ∧ (0 ≤ i ∧ i < 12) ∧ (0 ≤ β 122 0 d ∧ β 122 0 d ≤ 60) ∧ (0 ≤ β 119 0 d ∧ β 119 0 d ≤ 12) ∧ (β 30 d 9 = β 122 0 d ∧ β 30 d 0 = β 114 0 d ∧ β 30 d 1 = β 115 0 d ∧ β 30 d 7 = β 118 0 d ∧ β 30 d 8 = β 119 0 d) ∧ ((20 ≤ β 114 0 d ∧ β 114 0 d ≤ 200) ∧ 3 ≤ β 115 0 d ∧ β 115 0 d ≤ 12) ∧ stW β d ∧ stP β d ∧ stS β d ∧ stF β i
def bwd (β : ZU) (d i w : Int) : Int := (wwd β d i w 0).1
def brd (β : ZU) (d i w r : Int) : Int := if β 35 d w = -1 then (wwd β d i w r).2 else r
def rfo (β : ZU) (d i : Int) : Nat → Int → Int → Int
  | 0, _, r => r
  | n + 1, w, r => rfo β d i n (w + 1) (brd β d i w r)
/-- what the words show -/
def SH (β κ ν : ZU) (c d i : Int) : Prop := ∀ w, 0 ≤ w → w < β 122 0 d → (0 ≤ κ 61 0 w ∧ κ 61 0 w ≤ 160) ∧ (β 35 d w = -1 → κ 51 c w = -1 ∧ κ 61 0 w = bwd β d i w) ∧ (¬ β 35 d w = -1 → κ 51 c w = ν 152 0 w ∧ 1 ≤ ν 152 0 w ∧ ν 152 0 w ≤ 61)
section ZCA
variable {ck sk : Nat} {Q : ZO → ZH → Prop} {a b c d e f g i j k l m p r r' s t v w x z : Int} {y : Int64} {u u' u'' : ZV} {μ ν κ β : ZU} {hs hs' : Int → Bool} {sz sz' dt dt' cd : Int → Int}
theorem lw_congr (hf : 0 ≤ f) (h : ∀ t, 0 ≤ t → t < 5 → hs t = hs' t ∧ sz t = sz' t ∧ dt t = dt' t) : ∀ (n : Nat) (i r : Int), 0 ≤ i → lw hs sz dt f l n i r = lw hs' sz' dt' f l n i r
  | 0, _, _, _ => rfl
  | n + 1, i, r, hi => by
    obtain ⟨h1, h2, h3⟩ := h ((f + i) % 5) (by omega) (by omega)
    rw [lw_s, lw_s, h1, h2, h3, lw_congr hf h n (i + 1) _ (by omega)]
theorem ww_congr (hf : 0 ≤ f) (h : ∀ t, 0 ≤ t → t < 5 → hs t = hs' t ∧ sz t = sz' t ∧ dt t = dt' t) : ∀ (n : Nat) (i s r : Int), ww hs sz dt cd f n i s r = ww hs' sz' dt' cd f n i s r
  | 0, _, _, _ => rfl
  | n + 1, i, s, r => by
    rw [ww_s, ww_s, lw_congr hf h 5 0 r (by omega), ww_congr hf h n (i + 1)]
theorem lw_1 : ∀ (n : Nat) (i r r' : Int), (lw hs sz dt f l n i r).1 = (lw hs sz dt f l n i r').1
  | 0, _, _, _ => rfl
  | n + 1, i, r, r' => by
    rw [lw_s, lw_s]
    split
    · rfl
    · exact lw_1 n (i + 1) _ _
theorem ww_1 : ∀ (n : Nat) (i s r r' : Int), (ww hs sz dt cd f n i s r).1 = (ww hs sz dt cd f n i s r').1
  | 0, _, _, _, _ => rfl
  | n + 1, i, s, r, r' => by
    rw [ww_s, ww_s, lw_1 5 0 r r']
    exact ww_1 n (i + 1) _ _ _
theorem zor_assoc (a b c : Int) : zor (zor a b) c = zor a (zor b c) := by
  unfold zor
  rw [Int32.ofInt_toInt, Int32.ofInt_toInt, Int32.or_assoc]
theorem zor_self (a b : Int) : zor (zor a b) b = zor a b := by
  unfold zor
  rw [Int32.ofInt_toInt, Int32.or_assoc, Int32.or_self]
theorem zor_comm (a b : Int) : zor a b = zor b a := by
  unfold zor
  rw [Int32.or_comm]
/-- what is read is told by a set: none, or one more -/
theorem lw_2 : ∀ (n : Nat) (i : Int), (∀ r, (lw hs sz dt f l n i r).2 = r) ∨ ∃ m, ∀ r, (lw hs sz dt f l n i r).2 = zor r m
  | 0, _ => Or.inl fun _ => rfl
  | n + 1, i => by
    right
    by_cases h : hs ((f + i) % 5) = true ∧ ¬ zand (zshr (dt ((f + i) % 5)) l) 1 = 0
    · exact ⟨zshl 1 ((f + i) % 5), fun r => by rw [lw_s, if_pos h]⟩
    · rcases lw_2 n (i + 1) with q | ⟨m, q⟩
      · exact ⟨zshl 1 ((f + i) % 5), fun r => by rw [lw_s, if_neg h, q]⟩
      · exact ⟨zor (zshl 1 ((f + i) % 5)) m, fun r => by rw [lw_s, if_neg h, q, zor_assoc]⟩
def rdm (g : Int → Int) : Prop := (∀ r, g r = r) ∨ ∃ m, ∀ r, g r = zor r m
theorem rdm.comp {g g' : Int → Int} (h : rdm g) (h' : rdm g') : rdm fun r => g' (g r) := by
  rcases h with q | ⟨m, q⟩
  · rcases h' with q' | ⟨m', q'⟩
    · exact Or.inl fun r => by show g' (g r) = _; rw [q', q]
    · exact Or.inr ⟨m', fun r => by show g' (g r) = _; rw [q', q]⟩
  · rcases h' with q' | ⟨m', q'⟩
    · exact Or.inr ⟨m, fun r => by show g' (g r) = _; rw [q', q]⟩
    · exact Or.inr ⟨zor m m', fun r => by show g' (g r) = _; rw [q', q, zor_assoc]⟩
theorem rdm.idem {g : Int → Int} (h : rdm g) (r : Int) : g (g r) = g r := by
  rcases h with q | ⟨m, q⟩
  · rw [q, q]
  · rw [q, q, zor_self]
theorem ww_2 : ∀ (n : Nat) (i s : Int), rdm fun r => (ww hs sz dt cd f n i s r).2
  | 0, _, _ => Or.inl fun _ => rfl
  | n + 1, i, s => by
    have h1 : rdm fun r => (lw hs sz dt f (cd i - 1) 5 0 r).2 := lw_2 5 0
    have h2 := ww_2 n (i + 1) (s + (lw hs sz dt f (cd i - 1) 5 0 0).1)
    have h3 := h1.comp h2
    have e : (fun r => (ww hs sz dt cd f (n + 1) i s r).2) = fun r => (ww hs sz dt cd f n (i + 1) (s + (lw hs sz dt f (cd i - 1) 5 0 0).1) (lw hs sz dt f (cd i - 1) 5 0 r).2).2 := by
      funext r
      rw [ww_s, lw_1 5 0 r 0]
    rw [e]
    exact h3
theorem brd_m : rdm (brd β d i w) := by
  unfold brd
  by_cases h : β 35 d w = -1
  · have e : (fun r => if β 35 d w = -1 then (wwd β d i w r).2 else r) = fun r => (wwd β d i w r).2 := by funext r; rw [if_pos h]
    rw [e]
    exact ww_2 _ _ _
  · have e : (fun r => if β 35 d w = -1 then (wwd β d i w r).2 else r) = fun r => r := by funext r; rw [if_neg h]
    rw [e]
    exact Or.inl fun _ => rfl
theorem rfo_m : ∀ (n : Nat) (w : Int), rdm (rfo β d i n w)
  | 0, _ => Or.inl fun _ => rfl
  | n + 1, w => (brd_m (w := w)).comp (rfo_m n (w + 1))
theorem bwd_eq : (wwd β d i w r).1 = bwd β d i w := ww_1 _ _ _ _ _
/-- a word of letters is as wide and reads as much on the side of the reference -/
theorem rww_eq (hF : stF β i) (hS : 0 ≤ f) (hν : rfr β ν) (hf : f = β 31 d (β 32 d (β 33 d w))) (hl : β 34 d w = β 123 0 (60 * d + w)) :
    ww (fhr ν i) (fsr ν i) (fdr ν i) (kcd (Int64.ofInt (ν 123 0 (60 * d + w)))) f (klen (Int64.ofInt (ν 123 0 (60 * d + w)))).toNat 0 0 r = wwd β d i w r := by
  have e1 : ν 123 = β 123 := hν.1 _ (by decide) (by omega)
  have e2 : ν 110 = β 110 := hν.1 _ (by decide) (by omega)
  have e3 : ν 111 = β 111 := hν.1 _ (by decide) (by omega)
  have e4 : ν 112 = β 112 := hν.1 _ (by decide) (by omega)
  unfold wwd
  rw [e1, ← hl, ← hf]
  refine ww_congr hS (fun t h0 h5 => ?_) _ _ _ _
  obtain ⟨q1, q2, q3, q4, -⟩ := hF t h0 (by omega)
  refine ⟨?_, ?_, ?_⟩
  · unfold fhr fhs
    rw [e2, ← q1]
    exact decide_eq_decide.mpr (by omega)
  · unfold fsr
    rw [e3, q2]
  · unfold fdr
    rw [e4, q3]
theorem rwd_eq (hF : stF β i) (hS : 0 ≤ f) (hν : rfr β ν) (hf : f = β 31 d (β 32 d (β 33 d w))) (hl : β 34 d w = β 123 0 (60 * d + w)) (ht : β 35 d w = β 124 0 (60 * d + w)) (hw0 : 0 ≤ w) (hwN : w < β 122 0 d) (hSH : SH β κ ν c d i) :
    rwd ν d i w f r = (wdt κ c w, brd β d i w r) := by
  have e1 : ν 124 = β 124 := hν.1 _ (by decide) (by omega)
  obtain ⟨-, q1, q2⟩ := hSH w hw0 hwN
  unfold rwd brd wdt
  rw [e1, ← ht]
  by_cases h : β 35 d w = -1
  · obtain ⟨q3, q4⟩ := q1 h
    rw [if_pos h, if_pos h, if_pos q3, q4, rww_eq hF hS hν hf hl, ← bwd_eq (r := r)]
  · obtain ⟨q3, q4, q5⟩ := q2 h
    have h2 : ¬ κ 51 c w = -1 := by omega
    rw [if_neg h, if_neg h, if_neg h2, q3]
    by_cases h3 : 9 < ν 152 0 w
    · rw [if_pos h3, if_neg (by omega)]
      rfl
    · rw [if_neg h3, if_pos (by omega)]
      rfl
end ZCA
