/-! ===== setting writes one sheet only ===== -/
section ZCX
variable {b c d e f h s l w x i : Int} {μ ν : ZU} {k : Nat}
theorem mw1_o (hb : b ≠ c) (hk : 50 ≤ k ∧ k ≤ 56) : mw1 μ c d f w k b = μ k b := by
  funext j
  unfold mw1
  split
  · simp (disch := first | omega | assumption) only [mu_g, mu_i]
  · simp (disch := first | omega | assumption) only [mu_g, mu_i]
theorem mwN_o (hb : b ≠ c) (hk : 50 ≤ k ∧ k ≤ 56) : ∀ (n : Nat) (w : Int) (μ : ZU), mwN c d f n w μ k b = μ k b
  | 0, _, _ => rfl
  | n + 1, w, μ => by
    show mwN c d f n (w + 1) (mw1 μ c d f w) k b = _
    rw [mwN_o hb hk n, mw1_o hb hk]
theorem beg_o (hb : b ≠ c) (hk : 50 ≤ k ∧ k ≤ 56) : beg μ c h w x k b = μ k b := by
  funext j
  unfold beg
  simp (disch := first | omega | assumption) only [mu_g, mu_i]
theorem bl1_o (hb : b ≠ c) (hk : 50 ≤ k ∧ k ≤ 56) : bl1 μ c d w k b = μ k b := by
  unfold bl1
  split
  · funext j
    simp (disch := first | omega | assumption) only [mu_g, mu_i]
  · exact beg_o hb hk
theorem blN_o (hb : b ≠ c) (hk : 50 ≤ k ∧ k ≤ 56) : ∀ (n : Nat) (w : Int) (μ : ZU), blN c d n w μ k b = μ k b
  | 0, _, _ => rfl
  | n + 1, w, μ => by
    show blN c d n (w + 1) (bl1 μ c d w) k b = _
    rw [blN_o hb hk n, bl1_o hb hk]
theorem npN_o (hb : b ≠ c) (hk : 50 ≤ k ∧ k ≤ 56) : ∀ (n : Nat) (l en : Int) (μ : ZU), npN c n l en μ k b = μ k b
  | 0, _, _, _ => rfl
  | n + 1, l, en, μ => by
    show (if l = en then npN c n (l + 1) (μ 65 0 l) (mu (mu μ 50 c 2 (μ 50 c 2 + 1)) 56 c l (μ 50 c 2 + 1 - 1)) else npN c n (l + 1) en (mu μ 56 c l (μ 50 c 2 - 1))) k b = _
    split
    · rw [npN_o hb hk n]
      funext j
      simp (disch := first | omega | assumption) only [mu_g, mu_i]
    · rw [npN_o hb hk n]
      funext j
      simp (disch := first | omega | assumption) only [mu_g, mu_i]
theorem rnN_o (hb : b ≠ c) (hk : 50 ≤ k ∧ k ≤ 56) : ∀ (n : Nat) (w r : Int) (μ : ZU), (rnN c d n w r μ).1 k b = μ k b
  | 0, _, _, _ => rfl
  | n + 1, w, r, μ => by
    show (if μ 35 d w = -1 ∨ μ 51 c w = μ 66 0 (μ 35 d w) then rnN c d n (w + 1) r μ else rnN c d n (w + 1) 1 (mu μ 51 c w (μ 66 0 (μ 35 d w)))).1 k b = _
    split
    · exact rnN_o hb hk n _ _ _
    · rw [rnN_o hb hk n]
      funext j
      simp (disch := first | omega | assumption) only [mu_g, mu_i]
theorem ps1_o (hb : b ≠ c) (hk : 50 ≤ k ∧ k ≤ 56) : ps1 c d s μ k b = μ k b := by
  unfold ps1 bps
  rw [npN_o hb hk]
  have e1 : mu (bpz c (μ 30 d 1) (psw c d s μ)) 50 c 2 0 k b = psw c d s μ k b := by
    funext j
    unfold bpz
    simp (disch := first | omega | assumption) only [mu_g, mu_i]
    rw [bpg_g (by omega) (by omega)]
  rw [e1]
  unfold psw
  rw [wlN_g (by omega) (by omega)]
  unfold psb
  rw [blN_o hb hk]
  funext j
  simp (disch := first | omega | assumption) only [mu_g, mu_i]
theorem rnw_o (hb : b ≠ c) (hk : 50 ≤ k ∧ k ≤ 56) : (rnw c d μ).1 k b = μ k b := by
  unfold rnw
  rw [rnN_o hb hk]
  have e : fbg c μ k = μ k := by
    unfold fbg
    rw [fbN_g (by omega), fb0_g (by omega)]
  rw [e]
theorem stN_o (hb : b ≠ c) (hk : 50 ≤ k ∧ k ≤ 56) : ∀ (n : Nat) (μ : ZU), stN c d s n μ k b = μ k b
  | 0, μ => ps1_o hb hk
  | n + 1, μ => by
    show (if (rnw c d (ps1 c d s μ)).2 = 0 then (rnw c d (ps1 c d s μ)).1 else stN c d s n (rnw c d (ps1 c d s μ)).1) k b = _
    split
    · rw [rnw_o hb hk, ps1_o hb hk]
    · rw [stN_o hb hk n, rnw_o hb hk, ps1_o hb hk]
theorem stt_o (hb : b ≠ c) (hk : 50 ≤ k ∧ k ≤ 56) : stt c d f μ k b = μ k b := by
  unfold stt st0
  rw [stN_o hb hk]
  have e : mu (mwN c d f (μ 30 d 9).toNat 0 (mu (mu μ 50 c 5 (μ 30 d 7)) 50 c 0 (μ 30 d 9))) 50 c 3 0 k b = mwN c d f (μ 30 d 9).toNat 0 (mu (mu μ 50 c 5 (μ 30 d 7)) 50 c 0 (μ 30 d 9)) k b := by
    funext j
    simp (disch := first | omega | assumption) only [mu_g, mu_i]
  rw [e, mwN_o hb hk]
  funext j
  simp (disch := first | omega | assumption) only [mu_g, mu_i]
end ZCX
