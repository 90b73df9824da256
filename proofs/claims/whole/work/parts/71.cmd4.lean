/-! ===== the commands on documents: style, paragraph, word, reference ===== -/
section ZCP
variable {ck sk : Nat} {Q : ZO → ZH → Prop} {L t i a b c d e j k l s v w x y o f : Int} {u u' u1 u2 u3 u4 x5 x6 : ZV} {μ ν : ZU}
theorem RV_sty (h : RV L t μ) (d0 : 0 ≤ d) (d1 : d < μ 0 0 30) (ha : 0 ≤ a ∧ a ≤ 3) (hb : 0 ≤ b ∧ b ≤ 4) : RV L (t + 1) (mu (mu (thr (mu (mu (mu μ 31 d a b) 30 d 10 (μ 30 d 10 + 1)) 200 0 0 o) 0) 117 0 (4 * d + a) b) 116 0 d (μ 116 0 d + 1)) := by
  have hd := h.2.2.2.1.2.2.2.1 d d0 d1
  obtain ⟨⟨s1, s2, ⟨s3, s4, s5, s6, s7⟩, s8, s9, ⟨s10, s11, s12⟩, s13⟩, ⟨b2, b2', b2''⟩, b3, b4, b5⟩ := hd
  generalize hν : mu (mu (thr (mu (mu (mu μ 31 d a b) 30 d 10 (μ 30 d 10 + 1)) 200 0 0 o) 0) 117 0 (4 * d + a) b) 116 0 d (μ 116 0 d + 1) = ν
  refine RV_lc (RV_1 h) (RLc_u (d := d) (RLc_s h.2.2.2.1 (by omega)) d0 d1 (by subst hν; simp (disch := omega) only [thr, mu_g, mu_i, mu_j, mu_at]) (by subst hν; simp (disch := omega) only [thr, mu_g, mu_i, mu_j, mu_at]) (by subst hν; simp (disch := omega) only [thr, mu_g, mu_i, mu_j, mu_at]) (fun x hx k k0 k1 => funext fun j => by subst hν; simp (disch := omega) only [thr, mu_g, mu_i, mu_j, mu_at]) (fun k hk j hj => by
    rcases hk with rfl | rfl | rfl | rfl | rfl | rfl <;> (subst hν; simp (disch := omega) only [thr, mu_g, mu_i, mu_j])) (fun j hj => by subst hν; simp (disch := omega) only [thr, mu_g, mu_i, mu_j, mu_at]) (fun j hj => ⟨by subst hν; simp (disch := omega) only [thr, mu_g, mu_i, mu_j, mu_at], by subst hν; simp (disch := omega) only [thr, mu_g, mu_i, mu_j, mu_at]⟩) (fun j hj => ⟨by subst hν; simp (disch := omega) only [thr, mu_g, mu_i, mu_j, mu_at], by subst hν; simp (disch := omega) only [thr, mu_g, mu_i, mu_j, mu_at]⟩) ?_) (by subst hν; simp (disch := omega) only [thr, mu_g, mu_i, mu_j, mu_at]) (by subst hν; simp (disch := omega) only [thr, mu_g, mu_i, mu_j, mu_at]) (fun j hj => by subst hν; simp (disch := omega) only [thr, mu_g, mu_i, mu_j, mu_at]) (fun k hk => by subst hν; simp (disch := omega) only [thr, mu_g, mu_i, mu_j, mu_at])
  have e30 : ∀ j, j ≠ 10 → ν 30 d j = μ 30 d j := fun j hj => by subst hν; simp (disch := omega) only [thr, mu_g, mu_i, mu_j, mu_at]
  have e10 : ν 30 d 10 = μ 30 d 10 + 1 := by subst hν; simp (disch := omega) only [thr, mu_g, mu_i, mu_j, mu_at]
  have e116 : ν 116 0 d = μ 116 0 d + 1 := by subst hν; simp (disch := omega) only [thr, mu_g, mu_i, mu_j, mu_at]
  have ek : ∀ k, (k = 32 ∨ k = 33 ∨ k = 34 ∨ k = 35 ∨ k = 114 ∨ k = 115 ∨ k = 118 ∨ k = 119 ∨ k = 120 ∨ k = 121 ∨ k = 122 ∨ k = 123 ∨ k = 124) → ν k = μ k := fun k hk => by subst hν; simp (disch := omega) only [thr, mu_g, mu_i, mu_j, mu_at]
  have e31 : ∀ x, (x = a → ν 31 d x = b) ∧ (x ≠ a → ν 31 d x = μ 31 d x) := fun x => ⟨fun z => by subst z; subst hν; simp (disch := omega) only [thr, mu_g, mu_i, mu_j, mu_at], fun z => by subst hν; simp (disch := omega) only [thr, mu_g, mu_i, mu_j, mu_at]⟩
  have e117 : ∀ x, (x = a → ν 117 0 (4 * d + x) = b) ∧ (x ≠ a → ν 117 0 (4 * d + x) = μ 117 0 (4 * d + x)) := fun x => ⟨fun z => by subst z; subst hν; simp (disch := omega) only [thr, mu_g, mu_i, mu_j, mu_at], fun z => by subst hν; simp (disch := omega) only [thr, mu_g, mu_i, mu_j, mu_at]⟩
  have f31 : ∀ x, 0 ≤ μ 31 d x ∧ μ 31 d x < 5 → 0 ≤ ν 31 d x ∧ ν 31 d x < 5 := fun x hx => by
    by_cases z : x = a
    · rw [(e31 x).1 z]
      omega
    · rw [(e31 x).2 z]
      exact hx
  refine ⟨?_, ?_, by rw [e10, e116, b3], by rw [e10]; omega, by rw [e10]; omega⟩
  · unfold staD stW stP eof
    rw [ek 122 (by decide), ek 119 (by decide), ek 114 (by decide), ek 115 (by decide), ek 118 (by decide), ek 34 (by decide), ek 35 (by decide), ek 123 (by decide), ek 124 (by decide), ek 120 (by decide), ek 121 (by decide), ek 32 (by decide), ek 33 (by decide), e30 9 (by decide), e30 0 (by decide), e30 1 (by decide), e30 7 (by decide), e30 8 (by decide)]
    refine ⟨s1, s2, ⟨s3, s4, s5, s6, s7⟩, s8, s9, ⟨s10, s11, s12⟩, fun s y0 y1 => ?_⟩
    obtain ⟨z1, z2, z3⟩ := s13 s y0 y1
    by_cases z : s = a
    · rw [(e31 s).1 z, (e117 s).1 z]
      omega
    · rw [(e31 s).2 z, (e117 s).2 z]
      exact ⟨z1, z2, z3⟩
  · unfold docOK
    rw [ek 32 (by decide), ek 33 (by decide), e30 9 (by decide)]
    refine ⟨b2, b2', fun w w0 w1 => ?_⟩
    obtain ⟨z1, z2, z3⟩ := b2'' w w0 w1
    exact ⟨z1, z2, f31 _ z3⟩
theorem RV_par (h : RV L t μ) (d0 : 0 ≤ d) (d1 : d < μ 0 0 30) (ha : 0 ≤ a ∧ a ≤ 3) (hn : μ 30 d 8 < 12) : RV L (t + 1) (rpa (thr (mu (mu (mu (mu μ 32 d (μ 30 d 8) a) 30 d 8 (μ 30 d 8 + 1)) 30 d 10 (μ 30 d 10 + 1)) 200 0 0 o) 0) d a) := by
  have hd := h.2.2.2.1.2.2.2.1 d d0 d1
  obtain ⟨⟨s1, s2, ⟨s3, s4, s5, s6, s7⟩, s8, s9, ⟨s10, s11, s12⟩, s13⟩, ⟨b2, b2', b2''⟩, b3, b4, b5⟩ := hd
  generalize hν : rpa (thr (mu (mu (mu (mu μ 32 d (μ 30 d 8) a) 30 d 8 (μ 30 d 8 + 1)) 30 d 10 (μ 30 d 10 + 1)) 200 0 0 o) 0) d a = ν
  refine RV_lc (RV_1 h) (RLc_u (d := d) (RLc_s h.2.2.2.1 (by omega)) d0 d1 (by subst hν; simp (disch := omega) only [rpa, thr, mu_g, mu_i, mu_j, mu_at]) (by subst hν; simp (disch := omega) only [rpa, thr, mu_g, mu_i, mu_j, mu_at]) (by subst hν; simp (disch := omega) only [rpa, thr, mu_g, mu_i, mu_j, mu_at]) (fun x hx k k0 k1 => funext fun j => by subst hν; simp (disch := omega) only [rpa, thr, mu_g, mu_i, mu_j, mu_at]) (fun k hk j hj => by
    rcases hk with rfl | rfl | rfl | rfl | rfl | rfl <;> (subst hν; simp (disch := omega) only [rpa, thr, mu_g, mu_i, mu_j])) (fun j hj => by subst hν; simp (disch := omega) only [rpa, thr, mu_g, mu_i, mu_j, mu_at]) (fun j hj => ⟨by subst hν; simp (disch := omega) only [rpa, thr, mu_g, mu_i, mu_j, mu_at], by subst hν; simp (disch := omega) only [rpa, thr, mu_g, mu_i, mu_j, mu_at]⟩) (fun j hj => ⟨by subst hν; simp (disch := omega) only [rpa, thr, mu_g, mu_i, mu_j, mu_at], by subst hν; simp (disch := omega) only [rpa, thr, mu_g, mu_i, mu_j, mu_at]⟩) ?_) (by subst hν; simp (disch := omega) only [rpa, thr, mu_g, mu_i, mu_j, mu_at]) (by subst hν; simp (disch := omega) only [rpa, thr, mu_g, mu_i, mu_j, mu_at]) (fun j hj => by subst hν; simp (disch := omega) only [rpa, thr, mu_g, mu_i, mu_j, mu_at]) (fun k hk => by subst hν; simp (disch := omega) only [rpa, thr, mu_g, mu_i, mu_j, mu_at])
  have e30 : ∀ j, j ≠ 10 → j ≠ 8 → ν 30 d j = μ 30 d j := fun j hj hj2 => by subst hν; simp (disch := omega) only [rpa, thr, mu_g, mu_i, mu_j, mu_at]
  have e10 : ν 30 d 10 = μ 30 d 10 + 1 := by subst hν; simp (disch := omega) only [rpa, thr, mu_g, mu_i, mu_j, mu_at]
  have e8 : ν 30 d 8 = μ 30 d 8 + 1 := by subst hν; simp (disch := omega) only [rpa, thr, mu_g, mu_i, mu_j, mu_at]
  have e116 : ν 116 0 d = μ 116 0 d + 1 := by subst hν; simp (disch := omega) only [rpa, thr, mu_g, mu_i, mu_j, mu_at]
  have e119 : ν 119 0 d = μ 119 0 d + 1 := by subst hν; simp (disch := omega) only [rpa, thr, mu_g, mu_i, mu_j, mu_at]
  have ek : ∀ k, (k = 31 ∨ k = 33 ∨ k = 34 ∨ k = 35 ∨ k = 114 ∨ k = 115 ∨ k = 117 ∨ k = 118 ∨ k = 122 ∨ k = 123 ∨ k = 124) → ν k = μ k := fun k hk => by subst hν; simp (disch := omega) only [rpa, thr, mu_g, mu_i, mu_j, mu_at]
  have e32 : ∀ x, (x = μ 30 d 8 → ν 32 d x = a) ∧ (x ≠ μ 30 d 8 → ν 32 d x = μ 32 d x) := fun x => ⟨fun z => by subst z; subst hν; simp (disch := omega) only [rpa, thr, mu_g, mu_i, mu_j, mu_at], fun z => by subst hν; simp (disch := omega) only [rpa, thr, mu_g, mu_i, mu_j, mu_at]⟩
  have e120 : ∀ x, (x = μ 119 0 d → ν 120 0 (12 * d + x) = a ∧ ν 121 0 (12 * d + x) = μ 122 0 d) ∧ (x ≠ μ 119 0 d → ν 120 0 (12 * d + x) = μ 120 0 (12 * d + x) ∧ ν 121 0 (12 * d + x) = μ 121 0 (12 * d + x)) := fun x => ⟨fun z => by subst z; exact ⟨by subst hν; simp (disch := omega) only [rpa, thr, mu_g, mu_i, mu_j, mu_at], by subst hν; simp (disch := omega) only [rpa, thr, mu_g, mu_i, mu_j, mu_at]⟩, fun z => ⟨by subst hν; simp (disch := omega) only [rpa, thr, mu_g, mu_i, mu_j, mu_at], by subst hν; simp (disch := omega) only [rpa, thr, mu_g, mu_i, mu_j, mu_at]⟩⟩
  have heof : ∀ p, 0 ≤ p → p < μ 119 0 d → eof ν d p = eof μ d p := fun p p0 p1 => by
    unfold eof
    rw [e119, ek 122 (by decide), show 12 * d + p + 1 = 12 * d + (p + 1) by omega, if_pos (show p + 1 < μ 119 0 d + 1 by omega)]
    by_cases hp : p + 1 < μ 119 0 d
    · rw [if_pos hp, ((e120 (p + 1)).2 (by omega)).2]
    · rw [if_neg hp, ((e120 (p + 1)).1 (by omega)).2]
  have heof2 : eof ν d (μ 119 0 d) = μ 122 0 d := by
    unfold eof
    rw [e119, ek 122 (by decide), if_neg (Int.lt_irrefl _)]
  refine ⟨?_, ?_, by rw [e10, e116, b3], by rw [e10]; omega, by rw [e10]; omega⟩
  · unfold staD stW stP stS
    rw [ek 122 (by decide), ek 114 (by decide), ek 115 (by decide), ek 118 (by decide), ek 34 (by decide), ek 35 (by decide), ek 123 (by decide), ek 124 (by decide), ek 33 (by decide), ek 31 (by decide), ek 117 (by decide), e30 9 (by decide) (by decide), e30 0 (by decide) (by decide), e30 1 (by decide) (by decide), e30 7 (by decide) (by decide), e8, e119]
    refine ⟨s1, by omega, ⟨s3, s4, s5, s6, by omega⟩, s8, s9, ⟨fun p p0 p1 => ?_, fun _ => ?_, fun z => by omega⟩, s13⟩
    · by_cases hp : p = μ 119 0 d
      · rw [(e32 p).1 (by omega), ((e120 p).1 hp).1, ((e120 p).1 hp).2, hp, heof2]
        exact ⟨⟨rfl, by omega, by omega⟩, ⟨s1.1, Int.le_refl _, Int.le_refl _⟩, fun w w0 w1 => by omega⟩
      · rw [(e32 p).2 (by omega), ((e120 p).2 hp).1, ((e120 p).2 hp).2, heof p p0 (by omega)]
        exact s10 p p0 (by omega)
    · by_cases hp : 0 = μ 119 0 d
      · rw [((e120 0).1 hp).2]
        exact s12 hp.symm
      · rw [((e120 0).2 hp).2]
        exact s11 (by omega)
  · unfold docOK
    rw [ek 31 (by decide), ek 33 (by decide), e30 9 (by decide) (by decide)]
    refine ⟨b2, b2', fun w w0 w1 => ?_⟩
    obtain ⟨z1, z2, z3⟩ := b2'' w w0 w1
    by_cases hp : μ 33 d w = μ 30 d 8
    · rw [(e32 _).1 hp]
      obtain ⟨y1, y2, y3⟩ := s13 a (by omega) (by omega)
      exact ⟨z1, by omega, by omega⟩
    · rw [(e32 _).2 hp]
      exact ⟨z1, z2, z3⟩
theorem RV_ad (h : RV L t μ) (d0 : 0 ≤ d) (d1 : d < μ 0 0 30) (hn : ¬ μ 30 d 8 = 0) (hw : μ 30 d 9 < 60) (hx : -1 ≤ x ∧ x < 12) : RV L (t + 1) (rad (thr (mu (mad μ d y x) 200 0 0 o) 0) d y x) := by
  have hd := h.2.2.2.1.2.2.2.1 d d0 d1
  obtain ⟨⟨s1, s2, ⟨s3, s4, s5, s6, s7⟩, s8, s9, ⟨s10, s11, s12⟩, s13⟩, ⟨b2, b2', b2''⟩, b3, b4, b5⟩ := hd
  generalize hν : rad (thr (mu (mad μ d y x) 200 0 0 o) 0) d y x = ν
  refine RV_lc (RV_1 h) (RLc_u (d := d) (RLc_s h.2.2.2.1 (by omega)) d0 d1 (by subst hν; simp (disch := omega) only [rad, mad, thr, mu_g, mu_i, mu_j, mu_at]) (by subst hν; simp (disch := omega) only [rad, mad, thr, mu_g, mu_i, mu_j, mu_at]) (by subst hν; simp (disch := omega) only [rad, mad, thr, mu_g, mu_i, mu_j, mu_at]) (fun x hx k k0 k1 => funext fun j => by subst hν; simp (disch := omega) only [rad, mad, thr, mu_g, mu_i, mu_j, mu_at]) (fun k hk j hj => by
    rcases hk with rfl | rfl | rfl | rfl | rfl | rfl <;> (subst hν; simp (disch := omega) only [rad, mad, thr, mu_g, mu_i, mu_j])) (fun j hj => by subst hν; simp (disch := omega) only [rad, mad, thr, mu_g, mu_i, mu_j, mu_at]) (fun j hj => ⟨by subst hν; simp (disch := omega) only [rad, mad, thr, mu_g, mu_i, mu_j, mu_at], by subst hν; simp (disch := omega) only [rad, mad, thr, mu_g, mu_i, mu_j, mu_at]⟩) (fun j hj => ⟨by subst hν; simp (disch := omega) only [rad, mad, thr, mu_g, mu_i, mu_j, mu_at], by subst hν; simp (disch := omega) only [rad, mad, thr, mu_g, mu_i, mu_j, mu_at]⟩) ?_) (by subst hν; simp (disch := omega) only [rad, mad, thr, mu_g, mu_i, mu_j, mu_at]) (by subst hν; simp (disch := omega) only [rad, mad, thr, mu_g, mu_i, mu_j, mu_at]) (fun j hj => by subst hν; simp (disch := omega) only [rad, mad, thr, mu_g, mu_i, mu_j, mu_at]) (fun k hk => by subst hν; simp (disch := omega) only [rad, mad, thr, mu_g, mu_i, mu_j, mu_at])
  have e30 : ∀ j, j ≠ 10 → j ≠ 9 → ν 30 d j = μ 30 d j := fun j hj hj2 => by subst hν; simp (disch := omega) only [rad, mad, thr, mu_g, mu_i, mu_j, mu_at]
  have e10 : ν 30 d 10 = μ 30 d 10 + 1 := by subst hν; simp (disch := omega) only [rad, mad, thr, mu_g, mu_i, mu_j, mu_at]
  have e9 : ν 30 d 9 = μ 30 d 9 + 1 := by subst hν; simp (disch := omega) only [rad, mad, thr, mu_g, mu_i, mu_j, mu_at]
  have e116 : ν 116 0 d = μ 116 0 d + 1 := by subst hν; simp (disch := omega) only [rad, mad, thr, mu_g, mu_i, mu_j, mu_at]
  have e122 : ν 122 0 d = μ 122 0 d + 1 := by subst hν; simp (disch := omega) only [rad, mad, thr, mu_g, mu_i, mu_j, mu_at]
  have ek : ∀ k, (k = 31 ∨ k = 32 ∨ k = 114 ∨ k = 115 ∨ k = 117 ∨ k = 118 ∨ k = 119 ∨ k = 120 ∨ k = 121) → ν k = μ k := fun k hk => by subst hν; simp (disch := omega) only [rad, mad, thr, mu_g, mu_i, mu_j, mu_at]
  have e33 : ∀ w, (w = μ 30 d 9 → ν 33 d w = μ 30 d 8 - 1 ∧ ν 34 d w = y ∧ ν 35 d w = x) ∧ (w ≠ μ 30 d 9 → ν 33 d w = μ 33 d w ∧ ν 34 d w = μ 34 d w ∧ ν 35 d w = μ 35 d w) := fun w => ⟨fun z => by subst z; exact ⟨by subst hν; simp (disch := omega) only [rad, mad, thr, mu_g, mu_i, mu_j, mu_at], by subst hν; simp (disch := omega) only [rad, mad, thr, mu_g, mu_i, mu_j, mu_at], by subst hν; simp (disch := omega) only [rad, mad, thr, mu_g, mu_i, mu_j, mu_at]⟩, fun z => ⟨by subst hν; simp (disch := omega) only [rad, mad, thr, mu_g, mu_i, mu_j, mu_at], by subst hν; simp (disch := omega) only [rad, mad, thr, mu_g, mu_i, mu_j, mu_at], by subst hν; simp (disch := omega) only [rad, mad, thr, mu_g, mu_i, mu_j, mu_at]⟩⟩
  have e123 : ∀ w, (w = μ 122 0 d → ν 123 0 (60 * d + w) = y ∧ ν 124 0 (60 * d + w) = x) ∧ (w ≠ μ 122 0 d → ν 123 0 (60 * d + w) = μ 123 0 (60 * d + w) ∧ ν 124 0 (60 * d + w) = μ 124 0 (60 * d + w)) := fun w => ⟨fun z => by subst z; exact ⟨by subst hν; simp (disch := omega) only [rad, mad, thr, mu_g, mu_i, mu_j, mu_at], by subst hν; simp (disch := omega) only [rad, mad, thr, mu_g, mu_i, mu_j, mu_at]⟩, fun z => ⟨by subst hν; simp (disch := omega) only [rad, mad, thr, mu_g, mu_i, mu_j, mu_at], by subst hν; simp (disch := omega) only [rad, mad, thr, mu_g, mu_i, mu_j, mu_at]⟩⟩
  have heof : ∀ p, p + 1 < μ 119 0 d → eof ν d p = eof μ d p := fun p p0 => by
    unfold eof
    rw [ek 119 (by decide), ek 121 (by decide), if_pos p0, if_pos p0]
  have heof2 : ∀ p, ¬ p + 1 < μ 119 0 d → eof ν d p = μ 122 0 d + 1 ∧ eof μ d p = μ 122 0 d := fun p p0 => by
    unfold eof
    rw [ek 119 (by decide), if_neg p0, if_neg p0, e122]
    exact ⟨rfl, rfl⟩
  refine ⟨?_, ?_, by rw [e10, e116, b3], by rw [e10]; omega, by rw [e10]; omega⟩
  · unfold staD stP stS
    rw [ek 114 (by decide), ek 115 (by decide), ek 118 (by decide), ek 119 (by decide), ek 120 (by decide), ek 121 (by decide), ek 31 (by decide), ek 32 (by decide), ek 117 (by decide), e30 0 (by decide) (by decide), e30 1 (by decide) (by decide), e30 7 (by decide) (by decide), e30 8 (by decide) (by decide), e9, e122]
    refine ⟨by omega, s2, ⟨by omega, s4, s5, s6, s7⟩, s8, fun w w0 w1 => ?_, ⟨fun p p0 p1 => ?_, s11, fun z => by omega⟩, s13⟩
    · by_cases hp : w = μ 122 0 d
      · rw [((e33 w).1 (by omega)).2.1, ((e33 w).1 (by omega)).2.2, ((e123 w).1 hp).1, ((e123 w).1 hp).2]
        exact ⟨rfl, rfl, hx⟩
      · rw [((e33 w).2 (by omega)).2.1, ((e33 w).2 (by omega)).2.2, ((e123 w).2 hp).1, ((e123 w).2 hp).2]
        rw [e122] at w1
        exact s9 w w0 (by omega)
    · obtain ⟨y1, y2, y3⟩ := s10 p p0 p1
      by_cases hp : p + 1 < μ 119 0 d
      · rw [heof p hp]
        refine ⟨y1, ⟨y2.1, y2.2.1, by omega⟩, fun w w0 w1 => ?_⟩
        rw [((e33 w).2 (by omega)).1]
        exact y3 w w0 w1
      · obtain ⟨z1, z2⟩ := heof2 p hp
        rw [z2] at y2 y3
        rw [z1]
        refine ⟨y1, ⟨y2.1, by omega, Int.le_refl _⟩, fun w w0 w1 => ?_⟩
        by_cases hq : w = μ 30 d 9
        · rw [((e33 w).1 hq).1]
          omega
        · rw [((e33 w).2 hq).1]
          exact y3 w w0 (by omega)
  · unfold docOK
    rw [ek 31 (by decide), ek 32 (by decide), e9]
    refine ⟨by omega, by omega, fun w w0 w1 => ?_⟩
    by_cases hq : w = μ 30 d 9
    · rw [((e33 w).1 hq).1]
      obtain ⟨⟨y1, y2, y3⟩, -⟩ := s10 (μ 30 d 8 - 1) (by omega) (by omega)
      obtain ⟨z1, z2, z3⟩ := s13 _ y2 y3
      rw [y1]
      exact ⟨by omega, ⟨y2, y3⟩, by omega⟩
    · rw [((e33 w).2 hq).1]
      exact b2'' w w0 (by omega)
end ZCP
