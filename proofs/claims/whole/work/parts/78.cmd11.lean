/-! ===== the command drop ===== -/
section ZCW
variable {ck sk : Nat} {Q : ZO → ZH → Prop} {L t i a b c d e j k l s v w x o f m n : Int} {y : Int64} {u u' u1 u2 u3 u4 x5 x6 : ZV} {μ ν κ : ZU}
theorem mu_kc {X Y : ZU} {k K : Nat} {p r : Int} (h : X k = Y k) : mu X K p r v k = mu Y K p r v k := by
  funext x y
  show (if _ then v else X k x y) = (if _ then v else Y k x y)
  rw [h]
theorem RV_d1 (h : RV L t μ) (a0 : 0 ≤ a) (a1 : a < μ 0 0 20) (hv : 0 ≤ v ∧ v ≤ t) : RV L t (mu (thr (mu (mu μ 20 a 3 v) 200 0 0 o) 0) 107 0 a v) := by
  obtain ⟨r1, r2, ⟨b1, b2, b3, b4, b5, b6⟩, r4, r5, r6, r7, r8⟩ := h
  generalize hν : mu (thr (mu (mu μ 20 a 3 v) 200 0 0 o) 0) 107 0 a v = ν
  have ek : ∀ k, ((k ≠ 20 ∧ k < 100) ∨ (102 ≤ k ∧ k ≤ 145 ∧ k ≠ 107)) → ν k = μ k := fun k hk => by subst hν; simp (disch := omega) only [thr, mu_g]
  have e100 : ∀ j, j < 45 → ν 100 0 j = μ 100 0 j := fun j hj => by subst hν; simp (disch := omega) only [thr, mu_g, mu_j]
  have e1 : ∀ x, ν 20 x 1 = μ 20 x 1 := fun x => by subst hν; simp (disch := omega) only [thr, mu_g, mu_j]
  have e10 : ∀ x, ν 20 x 0 = μ 20 x 0 := fun x => by subst hν; simp (disch := omega) only [thr, mu_g, mu_j]
  have e3 : ∀ x, (x = a → ν 20 x 3 = v ∧ ν 107 0 x = v) ∧ (x ≠ a → ν 20 x 3 = μ 20 x 3 ∧ ν 107 0 x = μ 107 0 x) := fun x => ⟨fun z => by subst z; exact ⟨by subst hν; simp (disch := omega) only [thr, mu_g, mu_at], by subst hν; simp (disch := omega) only [thr, mu_g, mu_at]⟩, fun z => ⟨by subst hν; simp (disch := omega) only [thr, mu_g, mu_i], by subst hν; simp (disch := omega) only [thr, mu_g, mu_j]⟩⟩
  have w0 : ν 0 = μ 0 := ek 0 (by decide)
  have w2 : ν 2 = μ 2 := ek 2 (by decide)
  unfold RV
  rw [w0]
  refine ⟨r1, RLa_c r2 (by rw [w0]) (by rw [w2]) (e100 0 (by decide)) (fun k hk => ek k (by omega)), ?_, RLc_c r4 (by rw [w0]) (by rw [w2]) (e100 12 (by decide)) (fun k hk => ek k (by omega)), RLd_c r5 (ek 7 (by decide)) (ek 125 (by decide)), RLe_c r6 (by rw [w0]) (by rw [w2]) (e100 25 (by decide)) (by rw [w0]; exact Int.le_refl _) (by rw [w0]; exact Int.le_refl _) (by rw [w0]) (fun k hk => ek k (by omega)), RLf_c r7 (by rw [w0]) (by rw [w2]) (e100 31 (by decide)) (by rw [w0]) (by rw [w0]; exact Int.le_refl _) (by rw [w0]; exact Int.le_refl _) (ek 41 (by decide)) (fun i _ _ => ⟨by rw [ek 22 (by decide)], by rw [ek 23 (by decide)], by rw [ek 24 (by decide)]⟩) (fun k hk b _ _ => by rw [ek k (by omega)]) (fun k hk => ek k (by omega)), r8⟩
  unfold RLb
  rw [w0, w2, e100 5 (by decide), ek 26 (by decide), ek 108 (by decide), ek 109 (by decide), ek 110 (by decide)]
  refine ⟨b1, b2, b3, b4, fun x x0 x1 => ?_, b6⟩
  obtain ⟨c1, c2, c3, c4, c5, c6, c7⟩ := b5 x x0 x1
  rw [e1, e10]
  refine ⟨c1, c2, c3, c4, ?_, ?_, stF_c c7 fun k hk => ek k (by omega)⟩
  · by_cases hx : x = a
    · rw [((e3 x).1 hx).1, ((e3 x).1 hx).2]
    · rw [((e3 x).2 hx).1, ((e3 x).2 hx).2]
      exact c5
  · by_cases hx : x = a
    · rw [((e3 x).1 hx).1]
      exact hv
    · rw [((e3 x).2 hx).1]
      exact c6
theorem RV_d2 (h : RV L t μ) (a0 : 0 ≤ a) (a1 : a < μ 0 0 20) (hv : 0 ≤ v ∧ v ≤ t) : (lgN (μ 20 a 1) (μ 0 1 (μ 20 a 1)).toNat 0 0 (mu μ 20 a 3 v)).2 = (rgN a (μ 108 0 a).toNat 0 0 (mu (thr (mu (lgN (μ 20 a 1) (μ 0 1 (μ 20 a 1)).toNat 0 0 (mu μ 20 a 3 v)).1 200 0 0 o) 0) 107 0 a v)).2 ∧ RV L t (rgN a (μ 108 0 a).toNat 0 0 (mu (thr (mu (lgN (μ 20 a 1) (μ 0 1 (μ 20 a 1)).toNat 0 0 (mu μ 20 a 3 v)).1 200 0 0 o) 0) 107 0 a v)).1 := by
  have hh := RV_d1 (o := o) h a0 a1 hv
  obtain ⟨b1, b2, b3, b4, b5, b6⟩ := h.2.2.1
  obtain ⟨c1, c2, c3, c4, c5, c6, c7⟩ := b5 a a0 a1
  obtain ⟨p1, p2, p3, p4, p5⟩ := h.2.1
  rw [c2]
  generalize hM : lgN (μ 20 a 1) (μ 108 0 a).toNat 0 0 (mu μ 20 a 3 v) = M
  have mk : ∀ k, k ≠ 10 → M.1 k = mu μ 20 a 3 v k := fun k hk => by subst hM; exact lgN_k hk _ _ _ _
  generalize hκ : mu (thr (mu M.1 200 0 0 o) 0) 107 0 a v = κ
  have kk : ∀ k, k ≠ 10 → κ k = mu (thr (mu (mu μ 20 a 3 v) 200 0 0 o) 0) 107 0 a v k := fun k hk => by
    subst hκ
    exact mu_kc (mu_kc (mu_kc (mk k hk)))
  have km : ∀ k, (k ≠ 10 ∧ k ≠ 20 ∧ k ≠ 107 ∧ k ≠ 100 ∧ k ≠ 200) → κ k = μ k := fun k hk => by
    rw [kk k hk.1]
    simp (disch := omega) only [thr, mu_g]
  have hx := lg_rg (i := a) (r := μ 20 a 1) (c := μ 0 0 10) (μ 108 0 a).toNat 0 0 (mu μ 20 a 3 v) κ (Int.le_refl _) (fun k' h0 h1 => by
    rw [mu_g (by decide), km 109 (by decide)]
    obtain ⟨z1, z2, z3⟩ := c4 k' h0 (by omega)
    rw [z1]
    exact ⟨rfl, z2, z3⟩) (fun x x0 x1 => by
    have e1 := hds_hrs hh.2.2.1 (a := x) x0
    have e2 := hds_c (a := x) (ν := mu (thr (mu (mu μ 20 a 3 v) 200 0 0 o) 0) 107 0 a v) (μ := mu μ 20 a 3 v) (by simp (disch := decide) only [thr, mu_g]) (by simp (disch := decide) only [thr, mu_g (k' := 20) (k := 107), mu_g (k' := 20) (k := 100), mu_g (k' := 20) (k := 200)]) (by simp (disch := decide) only [thr, mu_g])
    have e3 := hrs_c (a := x) (ν := κ) (μ := mu (thr (mu (mu μ 20 a 3 v) 200 0 0 o) 0) 107 0 a v) (by rw [kk 100 (by decide)]) (kk 107 (by decide)) (kk 108 (by decide)) (kk 109 (by decide))
    rw [← e2, e1, e3]) (fun x x0 x1 => by
    rw [mu_g (by decide), km 102 (by decide)]
    obtain ⟨z1, z2, -⟩ := p4 x x0 x1
    exact ⟨z1, z2⟩)
  rw [hM] at hx
  obtain ⟨x1, x2, x3⟩ := hx
  refine ⟨x1, ?_⟩
  generalize hν : (rgN a (μ 108 0 a).toNat 0 0 κ).1 = ν at x2 x3 ⊢
  have nk : ∀ k, k ≠ 102 → ν k = κ k := fun k hk => by subst hν; exact rgN_k hk _ _ _ _
  have n1 : ∀ k, k ≠ 10 → k ≠ 102 → ν k = mu (thr (mu (mu μ 20 a 3 v) 200 0 0 o) 0) 107 0 a v k := fun k h1 h2 => by rw [nk k h2, kk k h1]
  have nm : ∀ k, (k ≠ 10 ∧ k ≠ 20 ∧ k ≠ 107 ∧ k ≠ 100 ∧ k ≠ 200 ∧ k ≠ 102) → ν k = μ k := fun k hk => by rw [nk k (by omega), km k (by omega)]
  refine RV_la hh ?_ (n1 0 (by decide) (by decide)) (n1 2 (by decide) (by decide)) (fun j hj => by rw [n1 100 (by decide) (by decide)]) (fun k hk => n1 k (by omega) (by omega))
  have n100 : ν 100 0 0 = μ 100 0 0 := by rw [n1 100 (by decide) (by decide)]; simp (disch := decide) only [thr, mu_g, mu_j]
  have n10 : ν 10 = M.1 10 := by
    rw [nk 10 (by decide)]
    subst hκ
    simp (disch := decide) only [thr, mu_g]
  unfold RLa
  rw [nm 0 (by decide), nm 2 (by decide), n100, nm 12 (by decide), nm 13 (by decide), nm 14 (by decide), nm 103 (by decide), nm 104 (by decide), nm 105 (by decide), n10]
  refine ⟨p1, p2, p3, fun x q0 q1 => ?_, fun x q0 q1 => ?_⟩
  · obtain ⟨y1, y2, y3⟩ := x2 x q0 q1
    exact ⟨y1, ⟨y2, y3⟩, (p4 x q0 q1).2.2⟩
  · rw [x3 x q0, km 102 (by decide)]
    exact p5 x q0 q1
theorem rimOK_c (h : rimOK μ) (h1 : ν 100 0 5 = μ 100 0 5) (h2 : ν 108 = μ 108) (h3 : ν 109 = μ 109) : rimOK ν := by
  unfold rimOK at *
  rw [h1, h2, h3]
  exact h
theorem cm6 (h : RV L t μ) (h0 : 0 ≤ i) (h1 : i + 4 < L) (hL : L ≤ 2560) (ht : t ≤ 1000) (hck : 13 ≤ ck) (hsk : 406 ≤ sk) (q : KT L t i ck sk Q) : G 174 536 [zR 1 0, zR 2 0, zR 100 0, zR 200 0, zI i, x5, x6] [] (HM μ) ck sk Q := by
  have h2 : i + 4 < μ 0 2 0 := by rw [h.1]; exact h1
  have h4 : i ≤ 100000 := by omega
  obtain ⟨b1, b2, b3, b4, b5, b6⟩ := h.2.2.1
  have hb : ∀ x, 0 ≤ x → x < μ 0 0 20 → μ 107 0 x = μ 20 x 3 ∧ 0 ≤ μ 20 x 3 ∧ μ 20 x 3 ≤ 1000 := fun x x0 x1 => by
    obtain ⟨c1, c2, c3, c4, c5, c6, c7⟩ := b5 x x0 x1
    omega
  rw [k6 h0 h2 (by omega) (by omega) h4, c50 h.2.1.1.2 (RV_img h) (fun x0 x1 => by have := hb _ x0 x1; omega)]
  by_cases g0 : 0 ≤ μ 1 0 (i + 1) ∧ μ 1 0 (i + 1) < μ 0 0 20
  · have hb0 := hb _ g0.1 g0.2
    by_cases g1 : μ 20 (μ 1 0 (i + 1)) 3 = 0
    · rw [if_pos g0, if_pos g1, b154_2, e6 h0 h2 h4, c110 (RV_rim h) (fun x0 x1 => by rw [b3] at x1; have := hb _ x0 x1; omega), b3, if_pos g0, hb0.1, if_pos g1]
      exact r6 thr_e (fun z => absurd z (by decide)) (q _ _ _ _ _ (RV_1 (RV_t h)) (by omega) (by omega))
    · by_cases g2 : 1 < μ 20 (μ 1 0 (i + 1)) 3
      · rw [if_pos g0, if_neg g1, if_pos g2, b154_v, e6 h0 (by simp (disch := decide) only [mu_g]; exact h2) h4]
        simp (disch := decide) only [mu_g (k' := 1)]
        rw [c110 (rimOK_c (RV_rim h) (by simp (disch := decide) only [mu_g]) (by simp (disch := decide) only [mu_g]) (by simp (disch := decide) only [mu_g])) (fun x0 x1 => by simp (disch := decide) only [mu_g] at x1 ⊢; rw [b3] at x1; have := hb _ x0 x1; omega)]
        simp (disch := decide) only [mu_g (k' := 100), mu_g (k' := 107), mu_g (k' := 108)]
        rw [b3, if_pos g0, hb0.1, if_neg g1, if_pos g2]
        have hR := RV_d1 (o := (Int64.ofInt 0).toInt) h (v := μ 20 (μ 1 0 (i + 1)) 3 - 1) g0.1 g0.2 (by obtain ⟨c1, c2, c3, c4, c5, c6, c7⟩ := b5 _ g0.1 g0.2; omega)
        exact r6 (by simp (disch := decide) only [thr, mu_g, mu_at]) (fun _ => by simp (disch := decide) only [thr, mu_g, mu_at]) (q _ _ _ _ _ (RV_1 hR) (by omega) (by omega))
      · obtain ⟨hz, hR⟩ := RV_d2 (o := (Int64.ofInt (lgN (μ 20 (μ 1 0 (i + 1)) 1) (μ 0 1 (μ 20 (μ 1 0 (i + 1)) 1)).toNat 0 0 (mu μ 20 (μ 1 0 (i + 1)) 3 (μ 20 (μ 1 0 (i + 1)) 3 - 1))).2).toInt) h (v := μ 20 (μ 1 0 (i + 1)) 3 - 1) g0.1 g0.2 (by obtain ⟨c1, c2, c3, c4, c5, c6, c7⟩ := b5 _ g0.1 g0.2; omega)
        rw [if_pos g0, if_neg g1, if_neg g2, b154_v]
        generalize hM : lgN (μ 20 (μ 1 0 (i + 1)) 1) (μ 0 1 (μ 20 (μ 1 0 (i + 1)) 1)).toNat 0 0 (mu μ 20 (μ 1 0 (i + 1)) 3 (μ 20 (μ 1 0 (i + 1)) 3 - 1)) = M at *
        have mk : ∀ k, k ≠ 10 → k ≠ 20 → M.1 k = μ k := fun k hk hk2 => by
          subst hM
          rw [lgN_k hk, mu_g hk2]
        have ek : ∀ k, k ≠ 10 → k ≠ 20 → k ≠ 200 → mu M.1 200 0 0 (Int64.ofInt M.2).toInt k = μ k := fun k hk hk2 hk3 => by rw [mu_g hk3, mk k hk hk2]
        rw [e6 h0 (by rw [ek 0 (by decide) (by decide) (by decide)]; exact h2) h4, ek 1 (by decide) (by decide) (by decide), c110 (rimOK_c (RV_rim h) (by rw [ek 100 (by decide) (by decide) (by decide)]) (ek 108 (by decide) (by decide) (by decide)) (ek 109 (by decide) (by decide) (by decide))) (fun x0 x1 => by rw [ek 100 (by decide) (by decide) (by decide), b3] at x1; rw [ek 107 (by decide) (by decide) (by decide)]; have := hb _ x0 x1; omega), ek 100 (by decide) (by decide) (by decide), ek 107 (by decide) (by decide) (by decide), ek 108 (by decide) (by decide) (by decide), b3, if_pos g0, hb0.1, if_neg g1, if_neg g2]
        refine r6 ?_ (fun _ => ?_) (q _ _ _ _ _ (RV_1 hR) (by omega) (by omega))
        · rw [rgN_k (by decide)]
          simp (disch := decide) only [thr, mu_g, mu_at]
        · rw [rgN_k (by decide), ← hz]
          simp (disch := decide) only [thr, mu_g, mu_at]
  · rw [if_neg g0, b154_1, e6 h0 h2 h4, c110 (RV_rim h) (fun x0 x1 => by rw [b3] at x1; have := hb _ x0 x1; omega), b3, if_neg g0]
    exact r6 thr_e (fun z => absurd z (by decide)) (q _ _ _ _ _ (RV_1 (RV_t h)) (by omega) (by omega))
end ZCW
