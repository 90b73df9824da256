/-! ===== the command drop ===== -/
section ZCW
variable {ck sk : Nat} {Q : ZO → ZH → Prop} {L t i a b c d e j k l s v w x o f m n : Int} {y : Int64} {u u' u1 u2 u3 u4 x5 x6 : ZV} {μ ν κ : ZU}
theorem mu_kc {X Y : ZU} {k K : Nat} {p r : Int} (h : X k = Y k) : mu X K p r v k = mu Y K p r v k := by
  funext x y
  show (if _ then v else X k x y) = (if _ then v else Y k x y)
  rw [h]
theorem RV_d1 (h : RV L t μ) (a0 : 0 ≤ a) (a1 : a < μ 0 0 20) (hv : 0 ≤ v ∧ v ≤ t) : RV L t (mu (thr (mu (mu μ 20 a 3 v) 200 0 0 o) 0) 107 0 a v) := by
  obtain ⟨r1, r2, ⟨b1, b2, b3, b4, b5, b6⟩, r4, r5, r6, r7, r8⟩ := h
  generalize hν : mu (thr (mu (mu μ 20 a 3 v) 200 0 0 o) 0) 107 0 a v = ν
  have ek : ∀ k, ((k ≠ 20 ∧ k < 100) ∨ (102 ≤ k ∧ k ≤ 145 ∧ k ≠ 107)) → ν k = μ k := fun k hk => by subst hν; simp (disch := omega) only [thr, mu_g]
  have e100 : ∀ j, j < 45 → ν 100 0 j = μ 100 0 j := fun j hj => by subst hν; simp (disch := omega) only [thr, mu_g, mu_j]
  have e1 : ∀ x, ν 20 x 1 = μ 20 x 1 := fun x => by subst hν; simp (disch := omega) only [thr, mu_g, mu_j]
  have e3 : ∀ x, (x = a → ν 20 x 3 = v ∧ ν 107 0 x = v) ∧ (x ≠ a → ν 20 x 3 = μ 20 x 3 ∧ ν 107 0 x = μ 107 0 x) := fun x => ⟨fun z => by subst z; exact ⟨by subst hν; simp (disch := omega) only [thr, mu_g, mu_at], by subst hν; simp (disch := omega) only [thr, mu_g, mu_at]⟩, fun z => ⟨by subst hν; simp (disch := omega) only [thr, mu_g, mu_i], by subst hν; simp (disch := omega) only [thr, mu_g, mu_j]⟩⟩
  have w0 : ν 0 = μ 0 := ek 0 (by decide)
  have w2 : ν 2 = μ 2 := ek 2 (by decide)
  unfold RV
  rw [w0]
  refine ⟨r1, RLa_c r2 (by rw [w0]) (by rw [w2]) (e100 0 (by decide)) (fun k hk => ek k (by omega)), ?_, RLc_c r4 (by rw [w0]) (by rw [w2]) (e100 12 (by decide)) (fun k hk => ek k (by omega)), RLd_c r5 (ek 7 (by decide)) (ek 125 (by decide)), RLe_c r6 (by rw [w0]) (by rw [w2]) (e100 25 (by decide)) (by rw [w0]; exact Int.le_refl _) (by rw [w0]; exact Int.le_refl _) (by rw [w0]) (fun k hk => ek k (by omega)), RLf_c r7 (by rw [w0]) (by rw [w2]) (e100 31 (by decide)) (by rw [w0]) (by rw [w0]; exact Int.le_refl _) (by rw [w0]; exact Int.le_refl _) (ek 41 (by decide)) (fun i _ _ => ⟨by rw [ek 22 (by decide)], by rw [ek 23 (by decide)], by rw [ek 24 (by decide)]⟩) (fun k hk b _ _ => by rw [ek k (by omega)]) (fun k hk => ek k (by omega)), r8⟩
  unfold RLb
  rw [w0, w2, e100 5 (by decide), ek 26 (by decide), ek 108 (by decide), ek 109 (by decide), ek 110 (by decide)]
  refine ⟨b1, b2, b3, b4, fun x x0 x1 => ?_, b6⟩
  obtain ⟨c1, c2, c3, c4, c5, c6, c7⟩ := b5 x x0 x1
  rw [e1]
  refine ⟨c1, c2, c3, c4, ?_, ?_, stF_c c7 fun k hk => ek k (by omega)⟩
  · by_cases hx : x = a
    · rw [((e3 x).1 hx).1, ((e3 x).1 hx).2]
    · rw [((e3 x).2 hx).1, ((e3 x).2 hx).2]
      exact c5
  · by_cases hx : x = a
    · rw [((e3 x).1 hx).1]
      exact hv
    · rw [((e3 x).2 hx).1]
      exact c6
theorem RV_d2 (h : RV L t μ) (a0 : 0 ≤ a) (a1 : a < μ 0 0 20) (hv : 0 ≤ v ∧ v ≤ t) : (lgN (μ 20 a 1) (μ 0 1 (μ 20 a 1)).toNat 0 0 (mu μ 20 a 3 v)).2 = (rgN a (μ 108 0 a).toNat 0 0 (mu (thr (mu (lgN (μ 20 a 1) (μ 0 1 (μ 20 a 1)).toNat 0 0 (mu μ 20 a 3 v)).1 200 0 0 o) 0) 107 0 a v)).2 ∧ RV L t (rgN a (μ 108 0 a).toNat 0 0 (mu (thr (mu (lgN (μ 20 a 1) (μ 0 1 (μ 20 a 1)).toNat 0 0 (mu μ 20 a 3 v)).1 200 0 0 o) 0) 107 0 a v)).1 := by
  have hh := RV_d1 (o := o) h a0 a1 hv
  obtain ⟨b1, b2, b3, b4, b5, b6⟩ := h.2.2.1
  obtain ⟨c1, c2, c3, c4, c5, c6, c7⟩ := b5 a a0 a1
  obtain ⟨p1, p2, p3, p4, p5⟩ := h.2.1
  rw [c2]
  generalize hM : lgN (μ 20 a 1) (μ 108 0 a).toNat 0 0 (mu μ 20 a 3 v) = M
  have mk : ∀ k, k ≠ 10 → M.1 k = mu μ 20 a 3 v k := fun k hk => by subst hM; exact lgN_k hk _ _ _ _
  generalize hκ : mu (thr (mu M.1 200 0 0 o) 0) 107 0 a v = κ
  have kk : ∀ k, k ≠ 10 → κ k = mu (thr (mu (mu μ 20 a 3 v) 200 0 0 o) 0) 107 0 a v k := fun k hk => by
    subst hκ
    exact mu_kc (mu_kc (mu_kc (mk k hk)))
  have km : ∀ k, (k ≠ 10 ∧ k ≠ 20 ∧ k ≠ 107 ∧ k ≠ 100 ∧ k ≠ 200) → κ k = μ k := fun k hk => by
    rw [kk k hk.1]
    simp (disch := omega) only [thr, mu_g]
  have hx := lg_rg (i := a) (r := μ 20 a 1) (c := μ 0 0 10) (μ 108 0 a).toNat 0 0 (mu μ 20 a 3 v) κ (Int.le_refl _) (fun k' h0 h1 => by
    rw [mu_g (by decide), km 109 (by decide)]
    obtain ⟨z1, z2, z3⟩ := c4 k' h0 (by omega)
    rw [z1]
    exact ⟨rfl, z2, z3⟩) (fun x x0 x1 => by
    have e1 := hds_hrs hh.2.2.1 (a := x) x0
    have e2 := hds_c (a := x) (ν := mu (thr (mu (mu μ 20 a 3 v) 200 0 0 o) 0) 107 0 a v) (μ := mu μ 20 a 3 v) (by simp (disch := decide) only [thr, mu_g]) (by simp (disch := decide) only [thr, mu_g (k' := 20) (k := 107), mu_g (k' := 20) (k := 100), mu_g (k' := 20) (k := 200)]) (by simp (disch := decide) only [thr, mu_g])
    have e3 := hrs_c (a := x) (ν := κ) (μ := mu (thr (mu (mu μ 20 a 3 v) 200 0 0 o) 0) 107 0 a v) (by rw [kk 100 (by decide)]) (kk 107 (by decide)) (kk 108 (by decide)) (kk 109 (by decide))
    rw [← e2, e1, e3]) (fun x x0 x1 => by
    rw [mu_g (by decide), km 102 (by decide)]
    obtain ⟨z1, z2, -⟩ := p4 x x0 x1
    exact ⟨z1, z2⟩)
  rw [hM] at hx
  obtain ⟨x1, x2, x3⟩ := hx
  refine ⟨x1, ?_⟩
  generalize hν : (rgN a (μ 108 0 a).toNat 0 0 κ).1 = ν at x2 x3 ⊢
  have nk : ∀ k, k ≠ 102 → ν k = κ k := fun k hk => by subst hν; exact rgN_k hk _ _ _ _
  have n1 : ∀ k, k ≠ 10 → k ≠ 102 → ν k = mu (thr (mu (mu μ 20 a 3 v) 200 0 0 o) 0) 107 0 a v k := fun k h1 h2 => by rw [nk k h2, kk k h1]
  have nm : ∀ k, (k ≠ 10 ∧ k ≠ 20 ∧ k ≠ 107 ∧ k ≠ 100 ∧ k ≠ 200 ∧ k ≠ 102) → ν k = μ k := fun k hk => by rw [nk k (by omega), km k (by omega)]
  refine RV_la hh ?_ (n1 0 (by decide) (by decide)) (n1 2 (by decide) (by decide)) (fun j hj => by rw [n1 100 (by decide) (by decide)]) (fun k hk => n1 k (by omega) (by omega))
  have n100 : ν 100 0 0 = μ 100 0 0 := by rw [n1 100 (by decide) (by decide)]; simp (disch := decide) only [thr, mu_g, mu_j]
  have n10 : ν 10 = M.1 10 := by
    rw [nk 10 (by decide)]
    subst hκ
    simp (disch := decide) only [thr, mu_g]
  unfold RLa
  rw [nm 0 (by decide), nm 2 (by decide), n100, nm 12 (by decide), nm 13 (by decide), nm 14 (by decide), nm 103 (by decide), nm 104 (by decide), nm 105 (by decide), n10]
  refine ⟨p1, p2, p3, fun x q0 q1 => ?_, fun x q0 q1 => ?_⟩
  · obtain ⟨y1, y2, y3⟩ := x2 x q0 q1
    exact ⟨y1, ⟨y2, y3⟩, (p4 x q0 q1).2.2⟩
  · rw [x3 x q0, km 102 (by decide)]
    exact p5 x q0 q1
end ZCW
