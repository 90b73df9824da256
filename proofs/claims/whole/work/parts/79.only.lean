/-! ===== setting writes one sheet only ===== -/
section ZCX
variable {b c d e f h s l w x i : Int} {μ ν : ZU} {k : Nat}
theorem mw1_o (hb : b ≠ c) (hk : 50 ≤ k ∧ k ≤ 56) : mw1 μ c d f w k b = μ k b := by
  funext j
  unfold mw1
  split
  · simp (disch := first | omega | assumption) only [mu_g, mu_i]
  · simp (disch := first | omega | assumption) only [mu_g, mu_i]
end ZCX
