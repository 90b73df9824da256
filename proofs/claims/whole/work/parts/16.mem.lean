/-! ===== a memory of ints, and its heap ===== -/
abbrev ZU : Type := Nat → Int → Int → Int
def mu (μ : ZU) (k : Nat) (i j v : Int) : ZU := fun k' i' j' => if k' = k ∧ i' = i ∧ j' = j then v else μ k' i' j'
def zbd (μ : ZU) (c : Nat) : Int := match c with
  | 0 => 1
  | c + 1 => μ 0 0 (c + 1 : Nat)
def zkl {α : Type} : List (Nat × α) → Nat → Option α
  | [], _ => none
  | (p, x) :: r, k => match Nat.beq p k with
    | true => some x
    | false => zkl r k
def zKA : List (Nat × FieldType × Nat × Nat) := [(7, (.int, 4, 0)), (12, (.int, 10, 10)), (13, (.int, 10, 10)), (14, (.int, 10, 10)), (22, (.int, 10, 20)), (23, (.int, 10, 20)), (24, (.int, 10, 20)), (31, (.int, 4, 30)), (32, (.int, 12, 30)), (33, (.int, 60, 30)), (34, (.long, 60, 30)), (35, (.int, 60, 30)), (51, (.int, 60, 50)), (52, (.int, 60, 50)), (53, (.int, 60, 50)), (54, (.int, 60, 50)), (55, (.int, 60, 50)), (56, (.int, 60, 50)), (61, (.int, 60, 0)), (62, (.int, 60, 0)), (63, (.int, 60, 0)), (64, (.int, 61, 0)), (65, (.int, 60, 0)), (66, (.int, 12, 0)), (102, (.int, 24, 0)), (103, (.int, 240, 0)), (104, (.int, 240, 0)), (105, (.int, 240, 0)), (107, (.int, 12, 0)), (108, (.int, 12, 0)), (109, (.int, 72, 0)), (110, (.boolean, 120, 0)), (111, (.int, 120, 0)), (112, (.int, 120, 0)), (114, (.int, 6, 0)), (115, (.int, 6, 0)), (116, (.int, 6, 0)), (117, (.int, 24, 0)), (118, (.int, 6, 0)), (119, (.int, 6, 0)), (120, (.int, 72, 0)), (121, (.int, 72, 0)), (122, (.int, 6, 0)), (123, (.long, 360, 0)), (124, (.int, 360, 0)), (125, (.int, 4, 0)), (127, (.int, 40, 0)), (128, (.int, 40, 0)), (129, (.int, 40, 0)), (130, (.int, 40, 0)), (131, (.int, 40, 0)), (133, (.int, 40, 0)), (134, (.int, 40, 0)), (135, (.int, 40, 0)), (136, (.boolean, 400, 0)), (137, (.int, 400, 0)), (138, (.int, 400, 0)), (139, (.int, 40, 0)), (140, (.int, 40, 0)), (141, (.int, 40, 0)), (142, (.int, 40, 0)), (143, (.int, 40, 0)), (144, (.int, 12000, 0)), (145, (.int, 2400, 0)), (151, (.int, 300, 0)), (152, (.int, 60, 0)), (153, (.int, 60, 0)), (154, (.int, 61, 0)), (155, (.int, 61, 0)), (200, (.long, 1, 0))]
def zKO : List (Nat × Nat × Nat) := [(2, (8, 0)), (8, (6, 0)), (10, (5, 10)), (11, (2, 10)), (20, (3, 20)), (21, (2, 20)), (30, (1, 30)), (40, (4, 40)), (41, (0, 41)), (50, (7, 50)), (100, (9, 0))]
def zKB : List (Nat × Nat × Nat × Nat) := [(3, (5, 24, 10)), (4, (3, 12, 20)), (5, (1, 6, 30)), (6, (4, 40, 40))]
def zel (t : FieldType) (v : Int) : ZV := match t with
  | .long => zL (Int64.ofInt v)
  | _ => zI v
def zfl (μ : ZU) (k : Nat) (i : Int) (s : Nat) : ZV := match k, s with
  | 2, 0 => zR 3 0
  | 2, 1 => zR 4 0
  | 2, 2 => zR 5 0
  | 2, 3 => zR 6 0
  | 2, 4 => zR 7 0
  | 2, 5 => zR 8 0
  | 8, 0 => zR 50 (μ 0 0 50 - 1)
  | 8, 1 => zR 61 0
  | 8, 2 => zR 62 0
  | 8, 3 => zR 63 0
  | 8, 4 => zR 64 0
  | 8, 5 => zR 65 0
  | 8, 6 => zR 66 0
  | 10, 0 => zR 11 i
  | 11, 0 => zR 12 i
  | 11, 1 => zR 13 i
  | 11, 2 => zR 14 i
  | 20, 1 => zR 26 (μ 20 i 1)
  | 20, 2 => zR 21 i
  | 21, 0 => zR 22 i
  | 21, 1 => zR 23 i
  | 21, 2 => zR 24 i
  | 30, 2 => zR 31 i
  | 30, 3 => zR 32 i
  | 30, 4 => zR 33 i
  | 30, 5 => zR 34 i
  | 30, 6 => zR 35 i
  | 40, 0 => zR 30 (μ 40 i 0)
  | 40, 1 => zR 20 (μ 40 i 1)
  | 40, 4 => if μ 40 i 4 < 0 then zN else zR 41 (μ 40 i 4)
  | 41, 2 => zR 30 (μ 41 i 2)
  | 41, 3 => zR 21 (μ 41 i 3)
  | 41, 4 => zR 50 i
  | 50, 6 => zR 51 i
  | 50, 7 => zR 52 i
  | 50, 8 => zR 53 i
  | 50, 9 => zR 54 i
  | 50, 10 => zR 55 i
  | 50, 11 => zR 56 i
  | 100, 1 => zR 102 0
  | 100, 2 => zR 103 0
  | 100, 3 => zR 104 0
  | 100, 4 => zR 105 0
  | 100, 6 => zR 107 0
  | 100, 7 => zR 108 0
  | 100, 8 => zR 109 0
  | 100, 9 => zR 110 0
  | 100, 10 => zR 111 0
  | 100, 11 => zR 112 0
  | 100, 13 => zR 114 0
  | 100, 14 => zR 115 0
  | 100, 15 => zR 116 0
  | 100, 16 => zR 117 0
  | 100, 17 => zR 118 0
  | 100, 18 => zR 119 0
  | 100, 19 => zR 120 0
  | 100, 20 => zR 121 0
  | 100, 21 => zR 122 0
  | 100, 22 => zR 123 0
  | 100, 23 => zR 124 0
  | 100, 24 => zR 125 0
  | 100, 26 => zR 127 0
  | 100, 27 => zR 128 0
  | 100, 28 => zR 129 0
  | 100, 29 => zR 130 0
  | 100, 30 => zR 131 0
  | 100, 32 => zR 133 0
  | 100, 33 => zR 134 0
  | 100, 34 => zR 135 0
  | 100, 35 => zR 136 0
  | 100, 36 => zR 137 0
  | 100, 37 => zR 138 0
  | 100, 38 => zR 139 0
  | 100, 39 => zR 140 0
  | 100, 40 => zR 141 0
  | 100, 41 => zR 142 0
  | 100, 42 => zR 143 0
  | 100, 43 => zR 144 0
  | 100, 44 => zR 145 0
  | 100, 50 => zR 151 0
  | 100, 51 => zR 152 0
  | 100, 52 => zR 153 0
  | 100, 53 => zR 154 0
  | 100, 54 => zR 155 0
  | k, s => zI (μ k i s)
/-- an array of objects, null from the count on -/
def zoA (e : Nat) (c : Int) : Int → ZV := fun j => if 0 ≤ j ∧ j < c then zR e j else zN
theorem zoA_at {e : Nat} {c j : Int} (h : 0 ≤ j) : zoA e c j = if j < c then zR e j else zN := by
  unfold zoA
  by_cases h2 : j < c
  · rw [if_pos ⟨h, h2⟩, if_pos h2]
  · rw [if_neg (fun z => h2 z.2), if_neg h2]
theorem zoA_0 {e : Nat} : zoA e 0 = fun _ => zN := by
  funext j
  exact if_neg fun z => by omega
theorem zoA_s {e : Nat} {n : Int} (h : 0 ≤ n) : zup (zoA e n) n (zR e n) = zoA e (n + 1) := by
  funext j
  unfold zup zoA
  by_cases h1 : j = n
  · rw [if_pos h1, if_pos (by omega), h1]
  · by_cases h2 : 0 ≤ j ∧ j < n
    · rw [if_neg h1, if_pos h2, if_pos (by omega)]
    · rw [if_neg h1, if_neg h2, if_neg (by omega)]
def HM (μ : ZU) : ZH := fun k i => match zkl zKA k with
  | some (t, n, c) => if 0 ≤ i ∧ i < zbd μ c then some (.inr (t, n, fun j => zel t (μ k i j))) else none
  | none => match zkl zKO k with
    | some (c, n) => if 0 ≤ i ∧ i < zbd μ n then some (.inl (c, zfl μ k i)) else none
    | none => match zkl zKB k with
      | some (c, n, e) => if 0 ≤ i ∧ i < 1 then some (.inr (.object (zcn c), n, zoA e (μ 0 0 e))) else none
      | none => match k with
        | 1 => if 0 ≤ i ∧ i < 1 then some (.inr (.int, (μ 0 2 0).toNat, fun j => zI (μ 1 0 j))) else none
        | 26 => if 0 ≤ i ∧ i < μ 0 0 26 then some (.inr (.int, (μ 0 1 i).toNat, fun j => zI (μ 26 i j))) else none
        | _ => none
def zro (μ : ZU) (k : Nat) (i : Int) : Int → ZV := fun j => zI (μ k i j)
def zrl (μ : ZU) (k : Nat) (i : Int) : Int → ZV := fun j => zL (Int64.ofInt (μ k i j))
section ZHM
variable {μ ν : ZU} {k : Nat} {i j v : Int}
theorem mu_at (k : Nat) (i j v : Int) : mu μ k i j v k i j = v := if_pos ⟨rfl, rfl, rfl⟩
theorem mu_k {k' : Nat} {i' j' : Int} (h : k' ≠ k) : mu μ k i j v k' i' j' = μ k' i' j' := if_neg fun z => h z.1
theorem mu_i {k' : Nat} {i' j' : Int} (h : i' ≠ i) : mu μ k i j v k' i' j' = μ k' i' j' := if_neg fun z => h z.2.1
theorem mu_j {k' : Nat} {i' j' : Int} (h : j' ≠ j) : mu μ k i j v k' i' j' = μ k' i' j' := if_neg fun z => h z.2.2
theorem zro_at : zro μ k i j = zI (μ k i j) := rfl
theorem zrl_at : zrl μ k i j = zL (Int64.ofInt (μ k i j)) := rfl
theorem zup_mu : (fun j' => zI (mu μ k i j v k i j')) = zup (fun j => zI (μ k i j)) j (zI v) := by
  funext j'
  unfold zup mu
  by_cases hj : j' = j
  · rw [if_pos ⟨rfl, rfl, hj⟩, if_pos hj]
  · rw [if_neg (fun z => hj z.2.2), if_neg hj]
theorem zup_muL {y : Int64} : (fun j' => zL (Int64.ofInt (mu μ k i j y.toInt k i j'))) = zup (fun j => zL (Int64.ofInt (μ k i j))) j (zL y) := by
  funext j'
  unfold zup mu
  by_cases hj : j' = j
  · rw [if_pos ⟨rfl, rfl, hj⟩, if_pos hj, Int64.ofInt_toInt]
  · rw [if_neg (fun z => hj z.2.2), if_neg hj]
theorem zbd_congr (h : ∀ a b, μ 0 a b = ν 0 a b) (c : Nat) : zbd μ c = zbd ν c := by
  match c with
  | 0 => rfl
  | c + 1 => exact h _ _
theorem zfl_congr (h : ∀ a b, μ 0 a b = ν 0 a b) (h2 : ∀ j, μ k i j = ν k i j) : zfl μ k i = zfl ν k i := by
  funext s
  unfold zfl
  split <;> simp only [h, h2]
theorem HM_congr (h : ∀ a b, μ 0 a b = ν 0 a b) (h2 : ∀ j, μ k i j = ν k i j) : HM μ k i = HM ν k i := by
  unfold HM
  split
  · simp only [zbd_congr h, h2]
  · split
    · simp only [zbd_congr h, zfl_congr h h2]
    · split
      · simp only [h]
      · split
        · by_cases hi : 0 ≤ i ∧ i < 1
          · have e : i = 0 := by omega
            subst e
            simp only [h, h2]
          · rw [if_neg hi, if_neg hi]
        · simp only [h, h2]
        · rfl
theorem HM_set {e : ZE} (hk : k ≠ 0) (h : HM (mu μ k i j v) k i = some e) : zset (HM μ) k i e = HM (mu μ k i j v) := by
  funext k' i'
  unfold zset
  split
  · rename_i h2
    obtain ⟨rfl, rfl⟩ := h2
    exact h.symm
  · rename_i h2
    refine HM_congr (fun a b => (mu_k (fun z => hk z.symm)).symm) (fun j' => ?_)
    refine (if_neg fun z => h2 ⟨z.1, z.2.1⟩).symm
theorem HM_eq (h : ∀ k i j, μ k i j = ν k i j) : HM μ = HM ν := by
  have : μ = ν := by funext k i j; exact h k i j
  rw [this]
theorem rd7 {F : Nat → (Int → ZV) → Prop} (h1 : 0 ≤ i) (h2 : i < 1) : zAR (HM μ) 7 i .int F ↔ F 4 (zro μ 7 i) := by
  have e : HM μ 7 i = some (.inr (.int, 4, zro μ 7 i)) := if_pos ⟨h1, h2⟩
  unfold zAR
  rw [e]
  exact ⟨fun q => q.2, fun q => ⟨rfl, q⟩⟩
theorem wr7 (h1 : 0 ≤ i) (h2 : i < 1) : zset (HM μ) 7 i (.inr (.int, 4, zup (zro μ 7 i) j (zI v))) = HM (mu μ 7 i j v) := by
  refine HM_set (by decide) ?_
  have e : HM (mu μ 7 i j v) 7 i = some (.inr (.int, 4, zro (mu μ 7 i j v) 7 i)) := if_pos ⟨h1, h2⟩
  rw [e]
  exact congrArg (fun f : Int → ZV => (some (Sum.inr (FieldType.int, 4, f)) : Option ZE)) zup_mu
theorem rd12 {F : Nat → (Int → ZV) → Prop} (h1 : 0 ≤ i) (h2 : i < μ 0 0 10) : zAR (HM μ) 12 i .int F ↔ F 10 (zro μ 12 i) := by
  have e : HM μ 12 i = some (.inr (.int, 10, zro μ 12 i)) := if_pos ⟨h1, h2⟩
  unfold zAR
  rw [e]
  exact ⟨fun q => q.2, fun q => ⟨rfl, q⟩⟩
theorem wr12 (h1 : 0 ≤ i) (h2 : i < μ 0 0 10) : zset (HM μ) 12 i (.inr (.int, 10, zup (zro μ 12 i) j (zI v))) = HM (mu μ 12 i j v) := by
  refine HM_set (by decide) ?_
  have e : HM (mu μ 12 i j v) 12 i = some (.inr (.int, 10, zro (mu μ 12 i j v) 12 i)) := if_pos ⟨h1, h2⟩
  rw [e]
  exact congrArg (fun f : Int → ZV => (some (Sum.inr (FieldType.int, 10, f)) : Option ZE)) zup_mu
theorem rd13 {F : Nat → (Int → ZV) → Prop} (h1 : 0 ≤ i) (h2 : i < μ 0 0 10) : zAR (HM μ) 13 i .int F ↔ F 10 (zro μ 13 i) := by
  have e : HM μ 13 i = some (.inr (.int, 10, zro μ 13 i)) := if_pos ⟨h1, h2⟩
  unfold zAR
  rw [e]
  exact ⟨fun q => q.2, fun q => ⟨rfl, q⟩⟩
theorem wr13 (h1 : 0 ≤ i) (h2 : i < μ 0 0 10) : zset (HM μ) 13 i (.inr (.int, 10, zup (zro μ 13 i) j (zI v))) = HM (mu μ 13 i j v) := by
  refine HM_set (by decide) ?_
  have e : HM (mu μ 13 i j v) 13 i = some (.inr (.int, 10, zro (mu μ 13 i j v) 13 i)) := if_pos ⟨h1, h2⟩
  rw [e]
  exact congrArg (fun f : Int → ZV => (some (Sum.inr (FieldType.int, 10, f)) : Option ZE)) zup_mu
theorem rd14 {F : Nat → (Int → ZV) → Prop} (h1 : 0 ≤ i) (h2 : i < μ 0 0 10) : zAR (HM μ) 14 i .int F ↔ F 10 (zro μ 14 i) := by
  have e : HM μ 14 i = some (.inr (.int, 10, zro μ 14 i)) := if_pos ⟨h1, h2⟩
  unfold zAR
  rw [e]
  exact ⟨fun q => q.2, fun q => ⟨rfl, q⟩⟩
theorem wr14 (h1 : 0 ≤ i) (h2 : i < μ 0 0 10) : zset (HM μ) 14 i (.inr (.int, 10, zup (zro μ 14 i) j (zI v))) = HM (mu μ 14 i j v) := by
  refine HM_set (by decide) ?_
  have e : HM (mu μ 14 i j v) 14 i = some (.inr (.int, 10, zro (mu μ 14 i j v) 14 i)) := if_pos ⟨h1, h2⟩
  rw [e]
  exact congrArg (fun f : Int → ZV => (some (Sum.inr (FieldType.int, 10, f)) : Option ZE)) zup_mu
theorem rd22 {F : Nat → (Int → ZV) → Prop} (h1 : 0 ≤ i) (h2 : i < μ 0 0 20) : zAR (HM μ) 22 i .int F ↔ F 10 (zro μ 22 i) := by
  have e : HM μ 22 i = some (.inr (.int, 10, zro μ 22 i)) := if_pos ⟨h1, h2⟩
  unfold zAR
  rw [e]
  exact ⟨fun q => q.2, fun q => ⟨rfl, q⟩⟩
theorem wr22 (h1 : 0 ≤ i) (h2 : i < μ 0 0 20) : zset (HM μ) 22 i (.inr (.int, 10, zup (zro μ 22 i) j (zI v))) = HM (mu μ 22 i j v) := by
  refine HM_set (by decide) ?_
  have e : HM (mu μ 22 i j v) 22 i = some (.inr (.int, 10, zro (mu μ 22 i j v) 22 i)) := if_pos ⟨h1, h2⟩
  rw [e]
  exact congrArg (fun f : Int → ZV => (some (Sum.inr (FieldType.int, 10, f)) : Option ZE)) zup_mu
theorem rd23 {F : Nat → (Int → ZV) → Prop} (h1 : 0 ≤ i) (h2 : i < μ 0 0 20) : zAR (HM μ) 23 i .int F ↔ F 10 (zro μ 23 i) := by
  have e : HM μ 23 i = some (.inr (.int, 10, zro μ 23 i)) := if_pos ⟨h1, h2⟩
  unfold zAR
  rw [e]
  exact ⟨fun q => q.2, fun q => ⟨rfl, q⟩⟩
theorem wr23 (h1 : 0 ≤ i) (h2 : i < μ 0 0 20) : zset (HM μ) 23 i (.inr (.int, 10, zup (zro μ 23 i) j (zI v))) = HM (mu μ 23 i j v) := by
  refine HM_set (by decide) ?_
  have e : HM (mu μ 23 i j v) 23 i = some (.inr (.int, 10, zro (mu μ 23 i j v) 23 i)) := if_pos ⟨h1, h2⟩
  rw [e]
  exact congrArg (fun f : Int → ZV => (some (Sum.inr (FieldType.int, 10, f)) : Option ZE)) zup_mu
theorem rd24 {F : Nat → (Int → ZV) → Prop} (h1 : 0 ≤ i) (h2 : i < μ 0 0 20) : zAR (HM μ) 24 i .int F ↔ F 10 (zro μ 24 i) := by
  have e : HM μ 24 i = some (.inr (.int, 10, zro μ 24 i)) := if_pos ⟨h1, h2⟩
  unfold zAR
  rw [e]
  exact ⟨fun q => q.2, fun q => ⟨rfl, q⟩⟩
theorem wr24 (h1 : 0 ≤ i) (h2 : i < μ 0 0 20) : zset (HM μ) 24 i (.inr (.int, 10, zup (zro μ 24 i) j (zI v))) = HM (mu μ 24 i j v) := by
  refine HM_set (by decide) ?_
  have e : HM (mu μ 24 i j v) 24 i = some (.inr (.int, 10, zro (mu μ 24 i j v) 24 i)) := if_pos ⟨h1, h2⟩
  rw [e]
  exact congrArg (fun f : Int → ZV => (some (Sum.inr (FieldType.int, 10, f)) : Option ZE)) zup_mu
theorem rd31 {F : Nat → (Int → ZV) → Prop} (h1 : 0 ≤ i) (h2 : i < μ 0 0 30) : zAR (HM μ) 31 i .int F ↔ F 4 (zro μ 31 i) := by
  have e : HM μ 31 i = some (.inr (.int, 4, zro μ 31 i)) := if_pos ⟨h1, h2⟩
  unfold zAR
  rw [e]
  exact ⟨fun q => q.2, fun q => ⟨rfl, q⟩⟩
theorem wr31 (h1 : 0 ≤ i) (h2 : i < μ 0 0 30) : zset (HM μ) 31 i (.inr (.int, 4, zup (zro μ 31 i) j (zI v))) = HM (mu μ 31 i j v) := by
  refine HM_set (by decide) ?_
  have e : HM (mu μ 31 i j v) 31 i = some (.inr (.int, 4, zro (mu μ 31 i j v) 31 i)) := if_pos ⟨h1, h2⟩
  rw [e]
  exact congrArg (fun f : Int → ZV => (some (Sum.inr (FieldType.int, 4, f)) : Option ZE)) zup_mu
theorem rd32 {F : Nat → (Int → ZV) → Prop} (h1 : 0 ≤ i) (h2 : i < μ 0 0 30) : zAR (HM μ) 32 i .int F ↔ F 12 (zro μ 32 i) := by
  have e : HM μ 32 i = some (.inr (.int, 12, zro μ 32 i)) := if_pos ⟨h1, h2⟩
  unfold zAR
  rw [e]
  exact ⟨fun q => q.2, fun q => ⟨rfl, q⟩⟩
theorem wr32 (h1 : 0 ≤ i) (h2 : i < μ 0 0 30) : zset (HM μ) 32 i (.inr (.int, 12, zup (zro μ 32 i) j (zI v))) = HM (mu μ 32 i j v) := by
  refine HM_set (by decide) ?_
  have e : HM (mu μ 32 i j v) 32 i = some (.inr (.int, 12, zro (mu μ 32 i j v) 32 i)) := if_pos ⟨h1, h2⟩
  rw [e]
  exact congrArg (fun f : Int → ZV => (some (Sum.inr (FieldType.int, 12, f)) : Option ZE)) zup_mu
theorem rd33 {F : Nat → (Int → ZV) → Prop} (h1 : 0 ≤ i) (h2 : i < μ 0 0 30) : zAR (HM μ) 33 i .int F ↔ F 60 (zro μ 33 i) := by
  have e : HM μ 33 i = some (.inr (.int, 60, zro μ 33 i)) := if_pos ⟨h1, h2⟩
  unfold zAR
  rw [e]
  exact ⟨fun q => q.2, fun q => ⟨rfl, q⟩⟩
theorem wr33 (h1 : 0 ≤ i) (h2 : i < μ 0 0 30) : zset (HM μ) 33 i (.inr (.int, 60, zup (zro μ 33 i) j (zI v))) = HM (mu μ 33 i j v) := by
  refine HM_set (by decide) ?_
  have e : HM (mu μ 33 i j v) 33 i = some (.inr (.int, 60, zro (mu μ 33 i j v) 33 i)) := if_pos ⟨h1, h2⟩
  rw [e]
  exact congrArg (fun f : Int → ZV => (some (Sum.inr (FieldType.int, 60, f)) : Option ZE)) zup_mu
theorem rd34 {F : Nat → (Int → ZV) → Prop} (h1 : 0 ≤ i) (h2 : i < μ 0 0 30) : zAR (HM μ) 34 i .long F ↔ F 60 (zrl μ 34 i) := by
  have e : HM μ 34 i = some (.inr (.long, 60, zrl μ 34 i)) := if_pos ⟨h1, h2⟩
  unfold zAR
  rw [e]
  exact ⟨fun q => q.2, fun q => ⟨rfl, q⟩⟩
theorem wr34 {y : Int64} (h1 : 0 ≤ i) (h2 : i < μ 0 0 30) : zset (HM μ) 34 i (.inr (.long, 60, zup (zrl μ 34 i) j (zL y))) = HM (mu μ 34 i j y.toInt) := by
  refine HM_set (by decide) ?_
  have e : HM (mu μ 34 i j y.toInt) 34 i = some (.inr (.long, 60, zrl (mu μ 34 i j y.toInt) 34 i)) := if_pos ⟨h1, h2⟩
  rw [e]
  exact congrArg (fun f : Int → ZV => (some (Sum.inr (FieldType.long, 60, f)) : Option ZE)) zup_muL
theorem rd35 {F : Nat → (Int → ZV) → Prop} (h1 : 0 ≤ i) (h2 : i < μ 0 0 30) : zAR (HM μ) 35 i .int F ↔ F 60 (zro μ 35 i) := by
  have e : HM μ 35 i = some (.inr (.int, 60, zro μ 35 i)) := if_pos ⟨h1, h2⟩
  unfold zAR
  rw [e]
  exact ⟨fun q => q.2, fun q => ⟨rfl, q⟩⟩
theorem wr35 (h1 : 0 ≤ i) (h2 : i < μ 0 0 30) : zset (HM μ) 35 i (.inr (.int, 60, zup (zro μ 35 i) j (zI v))) = HM (mu μ 35 i j v) := by
  refine HM_set (by decide) ?_
  have e : HM (mu μ 35 i j v) 35 i = some (.inr (.int, 60, zro (mu μ 35 i j v) 35 i)) := if_pos ⟨h1, h2⟩
  rw [e]
  exact congrArg (fun f : Int → ZV => (some (Sum.inr (FieldType.int, 60, f)) : Option ZE)) zup_mu
theorem rd51 {F : Nat → (Int → ZV) → Prop} (h1 : 0 ≤ i) (h2 : i < μ 0 0 50) : zAR (HM μ) 51 i .int F ↔ F 60 (zro μ 51 i) := by
  have e : HM μ 51 i = some (.inr (.int, 60, zro μ 51 i)) := if_pos ⟨h1, h2⟩
  unfold zAR
  rw [e]
  exact ⟨fun q => q.2, fun q => ⟨rfl, q⟩⟩
theorem wr51 (h1 : 0 ≤ i) (h2 : i < μ 0 0 50) : zset (HM μ) 51 i (.inr (.int, 60, zup (zro μ 51 i) j (zI v))) = HM (mu μ 51 i j v) := by
  refine HM_set (by decide) ?_
  have e : HM (mu μ 51 i j v) 51 i = some (.inr (.int, 60, zro (mu μ 51 i j v) 51 i)) := if_pos ⟨h1, h2⟩
  rw [e]
  exact congrArg (fun f : Int → ZV => (some (Sum.inr (FieldType.int, 60, f)) : Option ZE)) zup_mu
theorem rd52 {F : Nat → (Int → ZV) → Prop} (h1 : 0 ≤ i) (h2 : i < μ 0 0 50) : zAR (HM μ) 52 i .int F ↔ F 60 (zro μ 52 i) := by
  have e : HM μ 52 i = some (.inr (.int, 60, zro μ 52 i)) := if_pos ⟨h1, h2⟩
  unfold zAR
  rw [e]
  exact ⟨fun q => q.2, fun q => ⟨rfl, q⟩⟩
theorem wr52 (h1 : 0 ≤ i) (h2 : i < μ 0 0 50) : zset (HM μ) 52 i (.inr (.int, 60, zup (zro μ 52 i) j (zI v))) = HM (mu μ 52 i j v) := by
  refine HM_set (by decide) ?_
  have e : HM (mu μ 52 i j v) 52 i = some (.inr (.int, 60, zro (mu μ 52 i j v) 52 i)) := if_pos ⟨h1, h2⟩
  rw [e]
  exact congrArg (fun f : Int → ZV => (some (Sum.inr (FieldType.int, 60, f)) : Option ZE)) zup_mu
theorem rd53 {F : Nat → (Int → ZV) → Prop} (h1 : 0 ≤ i) (h2 : i < μ 0 0 50) : zAR (HM μ) 53 i .int F ↔ F 60 (zro μ 53 i) := by
  have e : HM μ 53 i = some (.inr (.int, 60, zro μ 53 i)) := if_pos ⟨h1, h2⟩
  unfold zAR
  rw [e]
  exact ⟨fun q => q.2, fun q => ⟨rfl, q⟩⟩
theorem wr53 (h1 : 0 ≤ i) (h2 : i < μ 0 0 50) : zset (HM μ) 53 i (.inr (.int, 60, zup (zro μ 53 i) j (zI v))) = HM (mu μ 53 i j v) := by
  refine HM_set (by decide) ?_
  have e : HM (mu μ 53 i j v) 53 i = some (.inr (.int, 60, zro (mu μ 53 i j v) 53 i)) := if_pos ⟨h1, h2⟩
  rw [e]
  exact congrArg (fun f : Int → ZV => (some (Sum.inr (FieldType.int, 60, f)) : Option ZE)) zup_mu
theorem rd54 {F : Nat → (Int → ZV) → Prop} (h1 : 0 ≤ i) (h2 : i < μ 0 0 50) : zAR (HM μ) 54 i .int F ↔ F 60 (zro μ 54 i) := by
  have e : HM μ 54 i = some (.inr (.int, 60, zro μ 54 i)) := if_pos ⟨h1, h2⟩
  unfold zAR
  rw [e]
  exact ⟨fun q => q.2, fun q => ⟨rfl, q⟩⟩
theorem wr54 (h1 : 0 ≤ i) (h2 : i < μ 0 0 50) : zset (HM μ) 54 i (.inr (.int, 60, zup (zro μ 54 i) j (zI v))) = HM (mu μ 54 i j v) := by
  refine HM_set (by decide) ?_
  have e : HM (mu μ 54 i j v) 54 i = some (.inr (.int, 60, zro (mu μ 54 i j v) 54 i)) := if_pos ⟨h1, h2⟩
  rw [e]
  exact congrArg (fun f : Int → ZV => (some (Sum.inr (FieldType.int, 60, f)) : Option ZE)) zup_mu
theorem rd55 {F : Nat → (Int → ZV) → Prop} (h1 : 0 ≤ i) (h2 : i < μ 0 0 50) : zAR (HM μ) 55 i .int F ↔ F 60 (zro μ 55 i) := by
  have e : HM μ 55 i = some (.inr (.int, 60, zro μ 55 i)) := if_pos ⟨h1, h2⟩
  unfold zAR
  rw [e]
  exact ⟨fun q => q.2, fun q => ⟨rfl, q⟩⟩
theorem wr55 (h1 : 0 ≤ i) (h2 : i < μ 0 0 50) : zset (HM μ) 55 i (.inr (.int, 60, zup (zro μ 55 i) j (zI v))) = HM (mu μ 55 i j v) := by
  refine HM_set (by decide) ?_
  have e : HM (mu μ 55 i j v) 55 i = some (.inr (.int, 60, zro (mu μ 55 i j v) 55 i)) := if_pos ⟨h1, h2⟩
  rw [e]
  exact congrArg (fun f : Int → ZV => (some (Sum.inr (FieldType.int, 60, f)) : Option ZE)) zup_mu
theorem rd56 {F : Nat → (Int → ZV) → Prop} (h1 : 0 ≤ i) (h2 : i < μ 0 0 50) : zAR (HM μ) 56 i .int F ↔ F 60 (zro μ 56 i) := by
  have e : HM μ 56 i = some (.inr (.int, 60, zro μ 56 i)) := if_pos ⟨h1, h2⟩
  unfold zAR
  rw [e]
  exact ⟨fun q => q.2, fun q => ⟨rfl, q⟩⟩
theorem wr56 (h1 : 0 ≤ i) (h2 : i < μ 0 0 50) : zset (HM μ) 56 i (.inr (.int, 60, zup (zro μ 56 i) j (zI v))) = HM (mu μ 56 i j v) := by
  refine HM_set (by decide) ?_
  have e : HM (mu μ 56 i j v) 56 i = some (.inr (.int, 60, zro (mu μ 56 i j v) 56 i)) := if_pos ⟨h1, h2⟩
  rw [e]
  exact congrArg (fun f : Int → ZV => (some (Sum.inr (FieldType.int, 60, f)) : Option ZE)) zup_mu
theorem rd61 {F : Nat → (Int → ZV) → Prop} (h1 : 0 ≤ i) (h2 : i < 1) : zAR (HM μ) 61 i .int F ↔ F 60 (zro μ 61 i) := by
  have e : HM μ 61 i = some (.inr (.int, 60, zro μ 61 i)) := if_pos ⟨h1, h2⟩
  unfold zAR
  rw [e]
  exact ⟨fun q => q.2, fun q => ⟨rfl, q⟩⟩
theorem wr61 (h1 : 0 ≤ i) (h2 : i < 1) : zset (HM μ) 61 i (.inr (.int, 60, zup (zro μ 61 i) j (zI v))) = HM (mu μ 61 i j v) := by
  refine HM_set (by decide) ?_
  have e : HM (mu μ 61 i j v) 61 i = some (.inr (.int, 60, zro (mu μ 61 i j v) 61 i)) := if_pos ⟨h1, h2⟩
  rw [e]
  exact congrArg (fun f : Int → ZV => (some (Sum.inr (FieldType.int, 60, f)) : Option ZE)) zup_mu
theorem rd62 {F : Nat → (Int → ZV) → Prop} (h1 : 0 ≤ i) (h2 : i < 1) : zAR (HM μ) 62 i .int F ↔ F 60 (zro μ 62 i) := by
  have e : HM μ 62 i = some (.inr (.int, 60, zro μ 62 i)) := if_pos ⟨h1, h2⟩
  unfold zAR
  rw [e]
  exact ⟨fun q => q.2, fun q => ⟨rfl, q⟩⟩
theorem wr62 (h1 : 0 ≤ i) (h2 : i < 1) : zset (HM μ) 62 i (.inr (.int, 60, zup (zro μ 62 i) j (zI v))) = HM (mu μ 62 i j v) := by
  refine HM_set (by decide) ?_
  have e : HM (mu μ 62 i j v) 62 i = some (.inr (.int, 60, zro (mu μ 62 i j v) 62 i)) := if_pos ⟨h1, h2⟩
  rw [e]
  exact congrArg (fun f : Int → ZV => (some (Sum.inr (FieldType.int, 60, f)) : Option ZE)) zup_mu
theorem rd63 {F : Nat → (Int → ZV) → Prop} (h1 : 0 ≤ i) (h2 : i < 1) : zAR (HM μ) 63 i .int F ↔ F 60 (zro μ 63 i) := by
  have e : HM μ 63 i = some (.inr (.int, 60, zro μ 63 i)) := if_pos ⟨h1, h2⟩
  unfold zAR
  rw [e]
  exact ⟨fun q => q.2, fun q => ⟨rfl, q⟩⟩
theorem wr63 (h1 : 0 ≤ i) (h2 : i < 1) : zset (HM μ) 63 i (.inr (.int, 60, zup (zro μ 63 i) j (zI v))) = HM (mu μ 63 i j v) := by
  refine HM_set (by decide) ?_
  have e : HM (mu μ 63 i j v) 63 i = some (.inr (.int, 60, zro (mu μ 63 i j v) 63 i)) := if_pos ⟨h1, h2⟩
  rw [e]
  exact congrArg (fun f : Int → ZV => (some (Sum.inr (FieldType.int, 60, f)) : Option ZE)) zup_mu
theorem rd64 {F : Nat → (Int → ZV) → Prop} (h1 : 0 ≤ i) (h2 : i < 1) : zAR (HM μ) 64 i .int F ↔ F 61 (zro μ 64 i) := by
  have e : HM μ 64 i = some (.inr (.int, 61, zro μ 64 i)) := if_pos ⟨h1, h2⟩
  unfold zAR
  rw [e]
  exact ⟨fun q => q.2, fun q => ⟨rfl, q⟩⟩
theorem wr64 (h1 : 0 ≤ i) (h2 : i < 1) : zset (HM μ) 64 i (.inr (.int, 61, zup (zro μ 64 i) j (zI v))) = HM (mu μ 64 i j v) := by
  refine HM_set (by decide) ?_
  have e : HM (mu μ 64 i j v) 64 i = some (.inr (.int, 61, zro (mu μ 64 i j v) 64 i)) := if_pos ⟨h1, h2⟩
  rw [e]
  exact congrArg (fun f : Int → ZV => (some (Sum.inr (FieldType.int, 61, f)) : Option ZE)) zup_mu
theorem rd65 {F : Nat → (Int → ZV) → Prop} (h1 : 0 ≤ i) (h2 : i < 1) : zAR (HM μ) 65 i .int F ↔ F 60 (zro μ 65 i) := by
  have e : HM μ 65 i = some (.inr (.int, 60, zro μ 65 i)) := if_pos ⟨h1, h2⟩
  unfold zAR
  rw [e]
  exact ⟨fun q => q.2, fun q => ⟨rfl, q⟩⟩
theorem wr65 (h1 : 0 ≤ i) (h2 : i < 1) : zset (HM μ) 65 i (.inr (.int, 60, zup (zro μ 65 i) j (zI v))) = HM (mu μ 65 i j v) := by
  refine HM_set (by decide) ?_
  have e : HM (mu μ 65 i j v) 65 i = some (.inr (.int, 60, zro (mu μ 65 i j v) 65 i)) := if_pos ⟨h1, h2⟩
  rw [e]
  exact congrArg (fun f : Int → ZV => (some (Sum.inr (FieldType.int, 60, f)) : Option ZE)) zup_mu
theorem rd66 {F : Nat → (Int → ZV) → Prop} (h1 : 0 ≤ i) (h2 : i < 1) : zAR (HM μ) 66 i .int F ↔ F 12 (zro μ 66 i) := by
  have e : HM μ 66 i = some (.inr (.int, 12, zro μ 66 i)) := if_pos ⟨h1, h2⟩
  unfold zAR
  rw [e]
  exact ⟨fun q => q.2, fun q => ⟨rfl, q⟩⟩
theorem wr66 (h1 : 0 ≤ i) (h2 : i < 1) : zset (HM μ) 66 i (.inr (.int, 12, zup (zro μ 66 i) j (zI v))) = HM (mu μ 66 i j v) := by
  refine HM_set (by decide) ?_
  have e : HM (mu μ 66 i j v) 66 i = some (.inr (.int, 12, zro (mu μ 66 i j v) 66 i)) := if_pos ⟨h1, h2⟩
  rw [e]
  exact congrArg (fun f : Int → ZV => (some (Sum.inr (FieldType.int, 12, f)) : Option ZE)) zup_mu
theorem rd102 {F : Nat → (Int → ZV) → Prop} (h1 : 0 ≤ i) (h2 : i < 1) : zAR (HM μ) 102 i .int F ↔ F 24 (zro μ 102 i) := by
  have e : HM μ 102 i = some (.inr (.int, 24, zro μ 102 i)) := if_pos ⟨h1, h2⟩
  unfold zAR
  rw [e]
  exact ⟨fun q => q.2, fun q => ⟨rfl, q⟩⟩
theorem wr102 (h1 : 0 ≤ i) (h2 : i < 1) : zset (HM μ) 102 i (.inr (.int, 24, zup (zro μ 102 i) j (zI v))) = HM (mu μ 102 i j v) := by
  refine HM_set (by decide) ?_
  have e : HM (mu μ 102 i j v) 102 i = some (.inr (.int, 24, zro (mu μ 102 i j v) 102 i)) := if_pos ⟨h1, h2⟩
  rw [e]
  exact congrArg (fun f : Int → ZV => (some (Sum.inr (FieldType.int, 24, f)) : Option ZE)) zup_mu
theorem rd103 {F : Nat → (Int → ZV) → Prop} (h1 : 0 ≤ i) (h2 : i < 1) : zAR (HM μ) 103 i .int F ↔ F 240 (zro μ 103 i) := by
  have e : HM μ 103 i = some (.inr (.int, 240, zro μ 103 i)) := if_pos ⟨h1, h2⟩
  unfold zAR
  rw [e]
  exact ⟨fun q => q.2, fun q => ⟨rfl, q⟩⟩
theorem wr103 (h1 : 0 ≤ i) (h2 : i < 1) : zset (HM μ) 103 i (.inr (.int, 240, zup (zro μ 103 i) j (zI v))) = HM (mu μ 103 i j v) := by
  refine HM_set (by decide) ?_
  have e : HM (mu μ 103 i j v) 103 i = some (.inr (.int, 240, zro (mu μ 103 i j v) 103 i)) := if_pos ⟨h1, h2⟩
  rw [e]
  exact congrArg (fun f : Int → ZV => (some (Sum.inr (FieldType.int, 240, f)) : Option ZE)) zup_mu
theorem rd104 {F : Nat → (Int → ZV) → Prop} (h1 : 0 ≤ i) (h2 : i < 1) : zAR (HM μ) 104 i .int F ↔ F 240 (zro μ 104 i) := by
  have e : HM μ 104 i = some (.inr (.int, 240, zro μ 104 i)) := if_pos ⟨h1, h2⟩
  unfold zAR
  rw [e]
  exact ⟨fun q => q.2, fun q => ⟨rfl, q⟩⟩
theorem wr104 (h1 : 0 ≤ i) (h2 : i < 1) : zset (HM μ) 104 i (.inr (.int, 240, zup (zro μ 104 i) j (zI v))) = HM (mu μ 104 i j v) := by
  refine HM_set (by decide) ?_
  have e : HM (mu μ 104 i j v) 104 i = some (.inr (.int, 240, zro (mu μ 104 i j v) 104 i)) := if_pos ⟨h1, h2⟩
  rw [e]
  exact congrArg (fun f : Int → ZV => (some (Sum.inr (FieldType.int, 240, f)) : Option ZE)) zup_mu
theorem rd105 {F : Nat → (Int → ZV) → Prop} (h1 : 0 ≤ i) (h2 : i < 1) : zAR (HM μ) 105 i .int F ↔ F 240 (zro μ 105 i) := by
  have e : HM μ 105 i = some (.inr (.int, 240, zro μ 105 i)) := if_pos ⟨h1, h2⟩
  unfold zAR
  rw [e]
  exact ⟨fun q => q.2, fun q => ⟨rfl, q⟩⟩
theorem wr105 (h1 : 0 ≤ i) (h2 : i < 1) : zset (HM μ) 105 i (.inr (.int, 240, zup (zro μ 105 i) j (zI v))) = HM (mu μ 105 i j v) := by
  refine HM_set (by decide) ?_
  have e : HM (mu μ 105 i j v) 105 i = some (.inr (.int, 240, zro (mu μ 105 i j v) 105 i)) := if_pos ⟨h1, h2⟩
  rw [e]
  exact congrArg (fun f : Int → ZV => (some (Sum.inr (FieldType.int, 240, f)) : Option ZE)) zup_mu
theorem rd107 {F : Nat → (Int → ZV) → Prop} (h1 : 0 ≤ i) (h2 : i < 1) : zAR (HM μ) 107 i .int F ↔ F 12 (zro μ 107 i) := by
  have e : HM μ 107 i = some (.inr (.int, 12, zro μ 107 i)) := if_pos ⟨h1, h2⟩
  unfold zAR
  rw [e]
  exact ⟨fun q => q.2, fun q => ⟨rfl, q⟩⟩
theorem wr107 (h1 : 0 ≤ i) (h2 : i < 1) : zset (HM μ) 107 i (.inr (.int, 12, zup (zro μ 107 i) j (zI v))) = HM (mu μ 107 i j v) := by
  refine HM_set (by decide) ?_
  have e : HM (mu μ 107 i j v) 107 i = some (.inr (.int, 12, zro (mu μ 107 i j v) 107 i)) := if_pos ⟨h1, h2⟩
  rw [e]
  exact congrArg (fun f : Int → ZV => (some (Sum.inr (FieldType.int, 12, f)) : Option ZE)) zup_mu
theorem rd108 {F : Nat → (Int → ZV) → Prop} (h1 : 0 ≤ i) (h2 : i < 1) : zAR (HM μ) 108 i .int F ↔ F 12 (zro μ 108 i) := by
  have e : HM μ 108 i = some (.inr (.int, 12, zro μ 108 i)) := if_pos ⟨h1, h2⟩
  unfold zAR
  rw [e]
  exact ⟨fun q => q.2, fun q => ⟨rfl, q⟩⟩
theorem wr108 (h1 : 0 ≤ i) (h2 : i < 1) : zset (HM μ) 108 i (.inr (.int, 12, zup (zro μ 108 i) j (zI v))) = HM (mu μ 108 i j v) := by
  refine HM_set (by decide) ?_
  have e : HM (mu μ 108 i j v) 108 i = some (.inr (.int, 12, zro (mu μ 108 i j v) 108 i)) := if_pos ⟨h1, h2⟩
  rw [e]
  exact congrArg (fun f : Int → ZV => (some (Sum.inr (FieldType.int, 12, f)) : Option ZE)) zup_mu
theorem rd109 {F : Nat → (Int → ZV) → Prop} (h1 : 0 ≤ i) (h2 : i < 1) : zAR (HM μ) 109 i .int F ↔ F 72 (zro μ 109 i) := by
  have e : HM μ 109 i = some (.inr (.int, 72, zro μ 109 i)) := if_pos ⟨h1, h2⟩
  unfold zAR
  rw [e]
  exact ⟨fun q => q.2, fun q => ⟨rfl, q⟩⟩
theorem wr109 (h1 : 0 ≤ i) (h2 : i < 1) : zset (HM μ) 109 i (.inr (.int, 72, zup (zro μ 109 i) j (zI v))) = HM (mu μ 109 i j v) := by
  refine HM_set (by decide) ?_
  have e : HM (mu μ 109 i j v) 109 i = some (.inr (.int, 72, zro (mu μ 109 i j v) 109 i)) := if_pos ⟨h1, h2⟩
  rw [e]
  exact congrArg (fun f : Int → ZV => (some (Sum.inr (FieldType.int, 72, f)) : Option ZE)) zup_mu
theorem rd110 {F : Nat → (Int → ZV) → Prop} (h1 : 0 ≤ i) (h2 : i < 1) : zAR (HM μ) 110 i .boolean F ↔ F 120 (zro μ 110 i) := by
  have e : HM μ 110 i = some (.inr (.boolean, 120, zro μ 110 i)) := if_pos ⟨h1, h2⟩
  unfold zAR
  rw [e]
  exact ⟨fun q => q.2, fun q => ⟨rfl, q⟩⟩
theorem wr110 (h1 : 0 ≤ i) (h2 : i < 1) : zset (HM μ) 110 i (.inr (.boolean, 120, zup (zro μ 110 i) j (zI v))) = HM (mu μ 110 i j v) := by
  refine HM_set (by decide) ?_
  have e : HM (mu μ 110 i j v) 110 i = some (.inr (.boolean, 120, zro (mu μ 110 i j v) 110 i)) := if_pos ⟨h1, h2⟩
  rw [e]
  exact congrArg (fun f : Int → ZV => (some (Sum.inr (FieldType.boolean, 120, f)) : Option ZE)) zup_mu
theorem rd111 {F : Nat → (Int → ZV) → Prop} (h1 : 0 ≤ i) (h2 : i < 1) : zAR (HM μ) 111 i .int F ↔ F 120 (zro μ 111 i) := by
  have e : HM μ 111 i = some (.inr (.int, 120, zro μ 111 i)) := if_pos ⟨h1, h2⟩
  unfold zAR
  rw [e]
  exact ⟨fun q => q.2, fun q => ⟨rfl, q⟩⟩
theorem wr111 (h1 : 0 ≤ i) (h2 : i < 1) : zset (HM μ) 111 i (.inr (.int, 120, zup (zro μ 111 i) j (zI v))) = HM (mu μ 111 i j v) := by
  refine HM_set (by decide) ?_
  have e : HM (mu μ 111 i j v) 111 i = some (.inr (.int, 120, zro (mu μ 111 i j v) 111 i)) := if_pos ⟨h1, h2⟩
  rw [e]
  exact congrArg (fun f : Int → ZV => (some (Sum.inr (FieldType.int, 120, f)) : Option ZE)) zup_mu
theorem rd112 {F : Nat → (Int → ZV) → Prop} (h1 : 0 ≤ i) (h2 : i < 1) : zAR (HM μ) 112 i .int F ↔ F 120 (zro μ 112 i) := by
  have e : HM μ 112 i = some (.inr (.int, 120, zro μ 112 i)) := if_pos ⟨h1, h2⟩
  unfold zAR
  rw [e]
  exact ⟨fun q => q.2, fun q => ⟨rfl, q⟩⟩
theorem wr112 (h1 : 0 ≤ i) (h2 : i < 1) : zset (HM μ) 112 i (.inr (.int, 120, zup (zro μ 112 i) j (zI v))) = HM (mu μ 112 i j v) := by
  refine HM_set (by decide) ?_
  have e : HM (mu μ 112 i j v) 112 i = some (.inr (.int, 120, zro (mu μ 112 i j v) 112 i)) := if_pos ⟨h1, h2⟩
  rw [e]
  exact congrArg (fun f : Int → ZV => (some (Sum.inr (FieldType.int, 120, f)) : Option ZE)) zup_mu
theorem rd114 {F : Nat → (Int → ZV) → Prop} (h1 : 0 ≤ i) (h2 : i < 1) : zAR (HM μ) 114 i .int F ↔ F 6 (zro μ 114 i) := by
  have e : HM μ 114 i = some (.inr (.int, 6, zro μ 114 i)) := if_pos ⟨h1, h2⟩
  unfold zAR
  rw [e]
  exact ⟨fun q => q.2, fun q => ⟨rfl, q⟩⟩
theorem wr114 (h1 : 0 ≤ i) (h2 : i < 1) : zset (HM μ) 114 i (.inr (.int, 6, zup (zro μ 114 i) j (zI v))) = HM (mu μ 114 i j v) := by
  refine HM_set (by decide) ?_
  have e : HM (mu μ 114 i j v) 114 i = some (.inr (.int, 6, zro (mu μ 114 i j v) 114 i)) := if_pos ⟨h1, h2⟩
  rw [e]
  exact congrArg (fun f : Int → ZV => (some (Sum.inr (FieldType.int, 6, f)) : Option ZE)) zup_mu
theorem rd115 {F : Nat → (Int → ZV) → Prop} (h1 : 0 ≤ i) (h2 : i < 1) : zAR (HM μ) 115 i .int F ↔ F 6 (zro μ 115 i) := by
  have e : HM μ 115 i = some (.inr (.int, 6, zro μ 115 i)) := if_pos ⟨h1, h2⟩
  unfold zAR
  rw [e]
  exact ⟨fun q => q.2, fun q => ⟨rfl, q⟩⟩
theorem wr115 (h1 : 0 ≤ i) (h2 : i < 1) : zset (HM μ) 115 i (.inr (.int, 6, zup (zro μ 115 i) j (zI v))) = HM (mu μ 115 i j v) := by
  refine HM_set (by decide) ?_
  have e : HM (mu μ 115 i j v) 115 i = some (.inr (.int, 6, zro (mu μ 115 i j v) 115 i)) := if_pos ⟨h1, h2⟩
  rw [e]
  exact congrArg (fun f : Int → ZV => (some (Sum.inr (FieldType.int, 6, f)) : Option ZE)) zup_mu
theorem rd116 {F : Nat → (Int → ZV) → Prop} (h1 : 0 ≤ i) (h2 : i < 1) : zAR (HM μ) 116 i .int F ↔ F 6 (zro μ 116 i) := by
  have e : HM μ 116 i = some (.inr (.int, 6, zro μ 116 i)) := if_pos ⟨h1, h2⟩
  unfold zAR
  rw [e]
  exact ⟨fun q => q.2, fun q => ⟨rfl, q⟩⟩
theorem wr116 (h1 : 0 ≤ i) (h2 : i < 1) : zset (HM μ) 116 i (.inr (.int, 6, zup (zro μ 116 i) j (zI v))) = HM (mu μ 116 i j v) := by
  refine HM_set (by decide) ?_
  have e : HM (mu μ 116 i j v) 116 i = some (.inr (.int, 6, zro (mu μ 116 i j v) 116 i)) := if_pos ⟨h1, h2⟩
  rw [e]
  exact congrArg (fun f : Int → ZV => (some (Sum.inr (FieldType.int, 6, f)) : Option ZE)) zup_mu
theorem rd117 {F : Nat → (Int → ZV) → Prop} (h1 : 0 ≤ i) (h2 : i < 1) : zAR (HM μ) 117 i .int F ↔ F 24 (zro μ 117 i) := by
  have e : HM μ 117 i = some (.inr (.int, 24, zro μ 117 i)) := if_pos ⟨h1, h2⟩
  unfold zAR
  rw [e]
  exact ⟨fun q => q.2, fun q => ⟨rfl, q⟩⟩
theorem wr117 (h1 : 0 ≤ i) (h2 : i < 1) : zset (HM μ) 117 i (.inr (.int, 24, zup (zro μ 117 i) j (zI v))) = HM (mu μ 117 i j v) := by
  refine HM_set (by decide) ?_
  have e : HM (mu μ 117 i j v) 117 i = some (.inr (.int, 24, zro (mu μ 117 i j v) 117 i)) := if_pos ⟨h1, h2⟩
  rw [e]
  exact congrArg (fun f : Int → ZV => (some (Sum.inr (FieldType.int, 24, f)) : Option ZE)) zup_mu
theorem rd118 {F : Nat → (Int → ZV) → Prop} (h1 : 0 ≤ i) (h2 : i < 1) : zAR (HM μ) 118 i .int F ↔ F 6 (zro μ 118 i) := by
  have e : HM μ 118 i = some (.inr (.int, 6, zro μ 118 i)) := if_pos ⟨h1, h2⟩
  unfold zAR
  rw [e]
  exact ⟨fun q => q.2, fun q => ⟨rfl, q⟩⟩
theorem wr118 (h1 : 0 ≤ i) (h2 : i < 1) : zset (HM μ) 118 i (.inr (.int, 6, zup (zro μ 118 i) j (zI v))) = HM (mu μ 118 i j v) := by
  refine HM_set (by decide) ?_
  have e : HM (mu μ 118 i j v) 118 i = some (.inr (.int, 6, zro (mu μ 118 i j v) 118 i)) := if_pos ⟨h1, h2⟩
  rw [e]
  exact congrArg (fun f : Int → ZV => (some (Sum.inr (FieldType.int, 6, f)) : Option ZE)) zup_mu
theorem rd119 {F : Nat → (Int → ZV) → Prop} (h1 : 0 ≤ i) (h2 : i < 1) : zAR (HM μ) 119 i .int F ↔ F 6 (zro μ 119 i) := by
  have e : HM μ 119 i = some (.inr (.int, 6, zro μ 119 i)) := if_pos ⟨h1, h2⟩
  unfold zAR
  rw [e]
  exact ⟨fun q => q.2, fun q => ⟨rfl, q⟩⟩
theorem wr119 (h1 : 0 ≤ i) (h2 : i < 1) : zset (HM μ) 119 i (.inr (.int, 6, zup (zro μ 119 i) j (zI v))) = HM (mu μ 119 i j v) := by
  refine HM_set (by decide) ?_
  have e : HM (mu μ 119 i j v) 119 i = some (.inr (.int, 6, zro (mu μ 119 i j v) 119 i)) := if_pos ⟨h1, h2⟩
  rw [e]
  exact congrArg (fun f : Int → ZV => (some (Sum.inr (FieldType.int, 6, f)) : Option ZE)) zup_mu
theorem rd120 {F : Nat → (Int → ZV) → Prop} (h1 : 0 ≤ i) (h2 : i < 1) : zAR (HM μ) 120 i .int F ↔ F 72 (zro μ 120 i) := by
  have e : HM μ 120 i = some (.inr (.int, 72, zro μ 120 i)) := if_pos ⟨h1, h2⟩
  unfold zAR
  rw [e]
  exact ⟨fun q => q.2, fun q => ⟨rfl, q⟩⟩
theorem wr120 (h1 : 0 ≤ i) (h2 : i < 1) : zset (HM μ) 120 i (.inr (.int, 72, zup (zro μ 120 i) j (zI v))) = HM (mu μ 120 i j v) := by
  refine HM_set (by decide) ?_
  have e : HM (mu μ 120 i j v) 120 i = some (.inr (.int, 72, zro (mu μ 120 i j v) 120 i)) := if_pos ⟨h1, h2⟩
  rw [e]
  exact congrArg (fun f : Int → ZV => (some (Sum.inr (FieldType.int, 72, f)) : Option ZE)) zup_mu
theorem rd121 {F : Nat → (Int → ZV) → Prop} (h1 : 0 ≤ i) (h2 : i < 1) : zAR (HM μ) 121 i .int F ↔ F 72 (zro μ 121 i) := by
  have e : HM μ 121 i = some (.inr (.int, 72, zro μ 121 i)) := if_pos ⟨h1, h2⟩
  unfold zAR
  rw [e]
  exact ⟨fun q => q.2, fun q => ⟨rfl, q⟩⟩
theorem wr121 (h1 : 0 ≤ i) (h2 : i < 1) : zset (HM μ) 121 i (.inr (.int, 72, zup (zro μ 121 i) j (zI v))) = HM (mu μ 121 i j v) := by
  refine HM_set (by decide) ?_
  have e : HM (mu μ 121 i j v) 121 i = some (.inr (.int, 72, zro (mu μ 121 i j v) 121 i)) := if_pos ⟨h1, h2⟩
  rw [e]
  exact congrArg (fun f : Int → ZV => (some (Sum.inr (FieldType.int, 72, f)) : Option ZE)) zup_mu
theorem rd122 {F : Nat → (Int → ZV) → Prop} (h1 : 0 ≤ i) (h2 : i < 1) : zAR (HM μ) 122 i .int F ↔ F 6 (zro μ 122 i) := by
  have e : HM μ 122 i = some (.inr (.int, 6, zro μ 122 i)) := if_pos ⟨h1, h2⟩
  unfold zAR
  rw [e]
  exact ⟨fun q => q.2, fun q => ⟨rfl, q⟩⟩
theorem wr122 (h1 : 0 ≤ i) (h2 : i < 1) : zset (HM μ) 122 i (.inr (.int, 6, zup (zro μ 122 i) j (zI v))) = HM (mu μ 122 i j v) := by
  refine HM_set (by decide) ?_
  have e : HM (mu μ 122 i j v) 122 i = some (.inr (.int, 6, zro (mu μ 122 i j v) 122 i)) := if_pos ⟨h1, h2⟩
  rw [e]
  exact congrArg (fun f : Int → ZV => (some (Sum.inr (FieldType.int, 6, f)) : Option ZE)) zup_mu
theorem rd123 {F : Nat → (Int → ZV) → Prop} (h1 : 0 ≤ i) (h2 : i < 1) : zAR (HM μ) 123 i .long F ↔ F 360 (zrl μ 123 i) := by
  have e : HM μ 123 i = some (.inr (.long, 360, zrl μ 123 i)) := if_pos ⟨h1, h2⟩
  unfold zAR
  rw [e]
  exact ⟨fun q => q.2, fun q => ⟨rfl, q⟩⟩
theorem wr123 {y : Int64} (h1 : 0 ≤ i) (h2 : i < 1) : zset (HM μ) 123 i (.inr (.long, 360, zup (zrl μ 123 i) j (zL y))) = HM (mu μ 123 i j y.toInt) := by
  refine HM_set (by decide) ?_
  have e : HM (mu μ 123 i j y.toInt) 123 i = some (.inr (.long, 360, zrl (mu μ 123 i j y.toInt) 123 i)) := if_pos ⟨h1, h2⟩
  rw [e]
  exact congrArg (fun f : Int → ZV => (some (Sum.inr (FieldType.long, 360, f)) : Option ZE)) zup_muL
theorem rd124 {F : Nat → (Int → ZV) → Prop} (h1 : 0 ≤ i) (h2 : i < 1) : zAR (HM μ) 124 i .int F ↔ F 360 (zro μ 124 i) := by
  have e : HM μ 124 i = some (.inr (.int, 360, zro μ 124 i)) := if_pos ⟨h1, h2⟩
  unfold zAR
  rw [e]
  exact ⟨fun q => q.2, fun q => ⟨rfl, q⟩⟩
theorem wr124 (h1 : 0 ≤ i) (h2 : i < 1) : zset (HM μ) 124 i (.inr (.int, 360, zup (zro μ 124 i) j (zI v))) = HM (mu μ 124 i j v) := by
  refine HM_set (by decide) ?_
  have e : HM (mu μ 124 i j v) 124 i = some (.inr (.int, 360, zro (mu μ 124 i j v) 124 i)) := if_pos ⟨h1, h2⟩
  rw [e]
  exact congrArg (fun f : Int → ZV => (some (Sum.inr (FieldType.int, 360, f)) : Option ZE)) zup_mu
theorem rd125 {F : Nat → (Int → ZV) → Prop} (h1 : 0 ≤ i) (h2 : i < 1) : zAR (HM μ) 125 i .int F ↔ F 4 (zro μ 125 i) := by
  have e : HM μ 125 i = some (.inr (.int, 4, zro μ 125 i)) := if_pos ⟨h1, h2⟩
  unfold zAR
  rw [e]
  exact ⟨fun q => q.2, fun q => ⟨rfl, q⟩⟩
theorem wr125 (h1 : 0 ≤ i) (h2 : i < 1) : zset (HM μ) 125 i (.inr (.int, 4, zup (zro μ 125 i) j (zI v))) = HM (mu μ 125 i j v) := by
  refine HM_set (by decide) ?_
  have e : HM (mu μ 125 i j v) 125 i = some (.inr (.int, 4, zro (mu μ 125 i j v) 125 i)) := if_pos ⟨h1, h2⟩
  rw [e]
  exact congrArg (fun f : Int → ZV => (some (Sum.inr (FieldType.int, 4, f)) : Option ZE)) zup_mu
theorem rd127 {F : Nat → (Int → ZV) → Prop} (h1 : 0 ≤ i) (h2 : i < 1) : zAR (HM μ) 127 i .int F ↔ F 40 (zro μ 127 i) := by
  have e : HM μ 127 i = some (.inr (.int, 40, zro μ 127 i)) := if_pos ⟨h1, h2⟩
  unfold zAR
  rw [e]
  exact ⟨fun q => q.2, fun q => ⟨rfl, q⟩⟩
theorem wr127 (h1 : 0 ≤ i) (h2 : i < 1) : zset (HM μ) 127 i (.inr (.int, 40, zup (zro μ 127 i) j (zI v))) = HM (mu μ 127 i j v) := by
  refine HM_set (by decide) ?_
  have e : HM (mu μ 127 i j v) 127 i = some (.inr (.int, 40, zro (mu μ 127 i j v) 127 i)) := if_pos ⟨h1, h2⟩
  rw [e]
  exact congrArg (fun f : Int → ZV => (some (Sum.inr (FieldType.int, 40, f)) : Option ZE)) zup_mu
theorem rd128 {F : Nat → (Int → ZV) → Prop} (h1 : 0 ≤ i) (h2 : i < 1) : zAR (HM μ) 128 i .int F ↔ F 40 (zro μ 128 i) := by
  have e : HM μ 128 i = some (.inr (.int, 40, zro μ 128 i)) := if_pos ⟨h1, h2⟩
  unfold zAR
  rw [e]
  exact ⟨fun q => q.2, fun q => ⟨rfl, q⟩⟩
theorem wr128 (h1 : 0 ≤ i) (h2 : i < 1) : zset (HM μ) 128 i (.inr (.int, 40, zup (zro μ 128 i) j (zI v))) = HM (mu μ 128 i j v) := by
  refine HM_set (by decide) ?_
  have e : HM (mu μ 128 i j v) 128 i = some (.inr (.int, 40, zro (mu μ 128 i j v) 128 i)) := if_pos ⟨h1, h2⟩
  rw [e]
  exact congrArg (fun f : Int → ZV => (some (Sum.inr (FieldType.int, 40, f)) : Option ZE)) zup_mu
theorem rd129 {F : Nat → (Int → ZV) → Prop} (h1 : 0 ≤ i) (h2 : i < 1) : zAR (HM μ) 129 i .int F ↔ F 40 (zro μ 129 i) := by
  have e : HM μ 129 i = some (.inr (.int, 40, zro μ 129 i)) := if_pos ⟨h1, h2⟩
  unfold zAR
  rw [e]
  exact ⟨fun q => q.2, fun q => ⟨rfl, q⟩⟩
theorem wr129 (h1 : 0 ≤ i) (h2 : i < 1) : zset (HM μ) 129 i (.inr (.int, 40, zup (zro μ 129 i) j (zI v))) = HM (mu μ 129 i j v) := by
  refine HM_set (by decide) ?_
  have e : HM (mu μ 129 i j v) 129 i = some (.inr (.int, 40, zro (mu μ 129 i j v) 129 i)) := if_pos ⟨h1, h2⟩
  rw [e]
  exact congrArg (fun f : Int → ZV => (some (Sum.inr (FieldType.int, 40, f)) : Option ZE)) zup_mu
theorem rd130 {F : Nat → (Int → ZV) → Prop} (h1 : 0 ≤ i) (h2 : i < 1) : zAR (HM μ) 130 i .int F ↔ F 40 (zro μ 130 i) := by
  have e : HM μ 130 i = some (.inr (.int, 40, zro μ 130 i)) := if_pos ⟨h1, h2⟩
  unfold zAR
  rw [e]
  exact ⟨fun q => q.2, fun q => ⟨rfl, q⟩⟩
theorem wr130 (h1 : 0 ≤ i) (h2 : i < 1) : zset (HM μ) 130 i (.inr (.int, 40, zup (zro μ 130 i) j (zI v))) = HM (mu μ 130 i j v) := by
  refine HM_set (by decide) ?_
  have e : HM (mu μ 130 i j v) 130 i = some (.inr (.int, 40, zro (mu μ 130 i j v) 130 i)) := if_pos ⟨h1, h2⟩
  rw [e]
  exact congrArg (fun f : Int → ZV => (some (Sum.inr (FieldType.int, 40, f)) : Option ZE)) zup_mu
theorem rd131 {F : Nat → (Int → ZV) → Prop} (h1 : 0 ≤ i) (h2 : i < 1) : zAR (HM μ) 131 i .int F ↔ F 40 (zro μ 131 i) := by
  have e : HM μ 131 i = some (.inr (.int, 40, zro μ 131 i)) := if_pos ⟨h1, h2⟩
  unfold zAR
  rw [e]
  exact ⟨fun q => q.2, fun q => ⟨rfl, q⟩⟩
theorem wr131 (h1 : 0 ≤ i) (h2 : i < 1) : zset (HM μ) 131 i (.inr (.int, 40, zup (zro μ 131 i) j (zI v))) = HM (mu μ 131 i j v) := by
  refine HM_set (by decide) ?_
  have e : HM (mu μ 131 i j v) 131 i = some (.inr (.int, 40, zro (mu μ 131 i j v) 131 i)) := if_pos ⟨h1, h2⟩
  rw [e]
  exact congrArg (fun f : Int → ZV => (some (Sum.inr (FieldType.int, 40, f)) : Option ZE)) zup_mu
theorem rd133 {F : Nat → (Int → ZV) → Prop} (h1 : 0 ≤ i) (h2 : i < 1) : zAR (HM μ) 133 i .int F ↔ F 40 (zro μ 133 i) := by
  have e : HM μ 133 i = some (.inr (.int, 40, zro μ 133 i)) := if_pos ⟨h1, h2⟩
  unfold zAR
  rw [e]
  exact ⟨fun q => q.2, fun q => ⟨rfl, q⟩⟩
theorem wr133 (h1 : 0 ≤ i) (h2 : i < 1) : zset (HM μ) 133 i (.inr (.int, 40, zup (zro μ 133 i) j (zI v))) = HM (mu μ 133 i j v) := by
  refine HM_set (by decide) ?_
  have e : HM (mu μ 133 i j v) 133 i = some (.inr (.int, 40, zro (mu μ 133 i j v) 133 i)) := if_pos ⟨h1, h2⟩
  rw [e]
  exact congrArg (fun f : Int → ZV => (some (Sum.inr (FieldType.int, 40, f)) : Option ZE)) zup_mu
theorem rd134 {F : Nat → (Int → ZV) → Prop} (h1 : 0 ≤ i) (h2 : i < 1) : zAR (HM μ) 134 i .int F ↔ F 40 (zro μ 134 i) := by
  have e : HM μ 134 i = some (.inr (.int, 40, zro μ 134 i)) := if_pos ⟨h1, h2⟩
  unfold zAR
  rw [e]
  exact ⟨fun q => q.2, fun q => ⟨rfl, q⟩⟩
theorem wr134 (h1 : 0 ≤ i) (h2 : i < 1) : zset (HM μ) 134 i (.inr (.int, 40, zup (zro μ 134 i) j (zI v))) = HM (mu μ 134 i j v) := by
  refine HM_set (by decide) ?_
  have e : HM (mu μ 134 i j v) 134 i = some (.inr (.int, 40, zro (mu μ 134 i j v) 134 i)) := if_pos ⟨h1, h2⟩
  rw [e]
  exact congrArg (fun f : Int → ZV => (some (Sum.inr (FieldType.int, 40, f)) : Option ZE)) zup_mu
theorem rd135 {F : Nat → (Int → ZV) → Prop} (h1 : 0 ≤ i) (h2 : i < 1) : zAR (HM μ) 135 i .int F ↔ F 40 (zro μ 135 i) := by
  have e : HM μ 135 i = some (.inr (.int, 40, zro μ 135 i)) := if_pos ⟨h1, h2⟩
  unfold zAR
  rw [e]
  exact ⟨fun q => q.2, fun q => ⟨rfl, q⟩⟩
theorem wr135 (h1 : 0 ≤ i) (h2 : i < 1) : zset (HM μ) 135 i (.inr (.int, 40, zup (zro μ 135 i) j (zI v))) = HM (mu μ 135 i j v) := by
  refine HM_set (by decide) ?_
  have e : HM (mu μ 135 i j v) 135 i = some (.inr (.int, 40, zro (mu μ 135 i j v) 135 i)) := if_pos ⟨h1, h2⟩
  rw [e]
  exact congrArg (fun f : Int → ZV => (some (Sum.inr (FieldType.int, 40, f)) : Option ZE)) zup_mu
theorem rd136 {F : Nat → (Int → ZV) → Prop} (h1 : 0 ≤ i) (h2 : i < 1) : zAR (HM μ) 136 i .boolean F ↔ F 400 (zro μ 136 i) := by
  have e : HM μ 136 i = some (.inr (.boolean, 400, zro μ 136 i)) := if_pos ⟨h1, h2⟩
  unfold zAR
  rw [e]
  exact ⟨fun q => q.2, fun q => ⟨rfl, q⟩⟩
theorem wr136 (h1 : 0 ≤ i) (h2 : i < 1) : zset (HM μ) 136 i (.inr (.boolean, 400, zup (zro μ 136 i) j (zI v))) = HM (mu μ 136 i j v) := by
  refine HM_set (by decide) ?_
  have e : HM (mu μ 136 i j v) 136 i = some (.inr (.boolean, 400, zro (mu μ 136 i j v) 136 i)) := if_pos ⟨h1, h2⟩
  rw [e]
  exact congrArg (fun f : Int → ZV => (some (Sum.inr (FieldType.boolean, 400, f)) : Option ZE)) zup_mu
theorem rd137 {F : Nat → (Int → ZV) → Prop} (h1 : 0 ≤ i) (h2 : i < 1) : zAR (HM μ) 137 i .int F ↔ F 400 (zro μ 137 i) := by
  have e : HM μ 137 i = some (.inr (.int, 400, zro μ 137 i)) := if_pos ⟨h1, h2⟩
  unfold zAR
  rw [e]
  exact ⟨fun q => q.2, fun q => ⟨rfl, q⟩⟩
theorem wr137 (h1 : 0 ≤ i) (h2 : i < 1) : zset (HM μ) 137 i (.inr (.int, 400, zup (zro μ 137 i) j (zI v))) = HM (mu μ 137 i j v) := by
  refine HM_set (by decide) ?_
  have e : HM (mu μ 137 i j v) 137 i = some (.inr (.int, 400, zro (mu μ 137 i j v) 137 i)) := if_pos ⟨h1, h2⟩
  rw [e]
  exact congrArg (fun f : Int → ZV => (some (Sum.inr (FieldType.int, 400, f)) : Option ZE)) zup_mu
theorem rd138 {F : Nat → (Int → ZV) → Prop} (h1 : 0 ≤ i) (h2 : i < 1) : zAR (HM μ) 138 i .int F ↔ F 400 (zro μ 138 i) := by
  have e : HM μ 138 i = some (.inr (.int, 400, zro μ 138 i)) := if_pos ⟨h1, h2⟩
  unfold zAR
  rw [e]
  exact ⟨fun q => q.2, fun q => ⟨rfl, q⟩⟩
theorem wr138 (h1 : 0 ≤ i) (h2 : i < 1) : zset (HM μ) 138 i (.inr (.int, 400, zup (zro μ 138 i) j (zI v))) = HM (mu μ 138 i j v) := by
  refine HM_set (by decide) ?_
  have e : HM (mu μ 138 i j v) 138 i = some (.inr (.int, 400, zro (mu μ 138 i j v) 138 i)) := if_pos ⟨h1, h2⟩
  rw [e]
  exact congrArg (fun f : Int → ZV => (some (Sum.inr (FieldType.int, 400, f)) : Option ZE)) zup_mu
theorem rd139 {F : Nat → (Int → ZV) → Prop} (h1 : 0 ≤ i) (h2 : i < 1) : zAR (HM μ) 139 i .int F ↔ F 40 (zro μ 139 i) := by
  have e : HM μ 139 i = some (.inr (.int, 40, zro μ 139 i)) := if_pos ⟨h1, h2⟩
  unfold zAR
  rw [e]
  exact ⟨fun q => q.2, fun q => ⟨rfl, q⟩⟩
theorem wr139 (h1 : 0 ≤ i) (h2 : i < 1) : zset (HM μ) 139 i (.inr (.int, 40, zup (zro μ 139 i) j (zI v))) = HM (mu μ 139 i j v) := by
  refine HM_set (by decide) ?_
  have e : HM (mu μ 139 i j v) 139 i = some (.inr (.int, 40, zro (mu μ 139 i j v) 139 i)) := if_pos ⟨h1, h2⟩
  rw [e]
  exact congrArg (fun f : Int → ZV => (some (Sum.inr (FieldType.int, 40, f)) : Option ZE)) zup_mu
theorem rd140 {F : Nat → (Int → ZV) → Prop} (h1 : 0 ≤ i) (h2 : i < 1) : zAR (HM μ) 140 i .int F ↔ F 40 (zro μ 140 i) := by
  have e : HM μ 140 i = some (.inr (.int, 40, zro μ 140 i)) := if_pos ⟨h1, h2⟩
  unfold zAR
  rw [e]
  exact ⟨fun q => q.2, fun q => ⟨rfl, q⟩⟩
theorem wr140 (h1 : 0 ≤ i) (h2 : i < 1) : zset (HM μ) 140 i (.inr (.int, 40, zup (zro μ 140 i) j (zI v))) = HM (mu μ 140 i j v) := by
  refine HM_set (by decide) ?_
  have e : HM (mu μ 140 i j v) 140 i = some (.inr (.int, 40, zro (mu μ 140 i j v) 140 i)) := if_pos ⟨h1, h2⟩
  rw [e]
  exact congrArg (fun f : Int → ZV => (some (Sum.inr (FieldType.int, 40, f)) : Option ZE)) zup_mu
theorem rd141 {F : Nat → (Int → ZV) → Prop} (h1 : 0 ≤ i) (h2 : i < 1) : zAR (HM μ) 141 i .int F ↔ F 40 (zro μ 141 i) := by
  have e : HM μ 141 i = some (.inr (.int, 40, zro μ 141 i)) := if_pos ⟨h1, h2⟩
  unfold zAR
  rw [e]
  exact ⟨fun q => q.2, fun q => ⟨rfl, q⟩⟩
theorem wr141 (h1 : 0 ≤ i) (h2 : i < 1) : zset (HM μ) 141 i (.inr (.int, 40, zup (zro μ 141 i) j (zI v))) = HM (mu μ 141 i j v) := by
  refine HM_set (by decide) ?_
  have e : HM (mu μ 141 i j v) 141 i = some (.inr (.int, 40, zro (mu μ 141 i j v) 141 i)) := if_pos ⟨h1, h2⟩
  rw [e]
  exact congrArg (fun f : Int → ZV => (some (Sum.inr (FieldType.int, 40, f)) : Option ZE)) zup_mu
theorem rd142 {F : Nat → (Int → ZV) → Prop} (h1 : 0 ≤ i) (h2 : i < 1) : zAR (HM μ) 142 i .int F ↔ F 40 (zro μ 142 i) := by
  have e : HM μ 142 i = some (.inr (.int, 40, zro μ 142 i)) := if_pos ⟨h1, h2⟩
  unfold zAR
  rw [e]
  exact ⟨fun q => q.2, fun q => ⟨rfl, q⟩⟩
theorem wr142 (h1 : 0 ≤ i) (h2 : i < 1) : zset (HM μ) 142 i (.inr (.int, 40, zup (zro μ 142 i) j (zI v))) = HM (mu μ 142 i j v) := by
  refine HM_set (by decide) ?_
  have e : HM (mu μ 142 i j v) 142 i = some (.inr (.int, 40, zro (mu μ 142 i j v) 142 i)) := if_pos ⟨h1, h2⟩
  rw [e]
  exact congrArg (fun f : Int → ZV => (some (Sum.inr (FieldType.int, 40, f)) : Option ZE)) zup_mu
theorem rd143 {F : Nat → (Int → ZV) → Prop} (h1 : 0 ≤ i) (h2 : i < 1) : zAR (HM μ) 143 i .int F ↔ F 40 (zro μ 143 i) := by
  have e : HM μ 143 i = some (.inr (.int, 40, zro μ 143 i)) := if_pos ⟨h1, h2⟩
  unfold zAR
  rw [e]
  exact ⟨fun q => q.2, fun q => ⟨rfl, q⟩⟩
theorem wr143 (h1 : 0 ≤ i) (h2 : i < 1) : zset (HM μ) 143 i (.inr (.int, 40, zup (zro μ 143 i) j (zI v))) = HM (mu μ 143 i j v) := by
  refine HM_set (by decide) ?_
  have e : HM (mu μ 143 i j v) 143 i = some (.inr (.int, 40, zro (mu μ 143 i j v) 143 i)) := if_pos ⟨h1, h2⟩
  rw [e]
  exact congrArg (fun f : Int → ZV => (some (Sum.inr (FieldType.int, 40, f)) : Option ZE)) zup_mu
theorem rd144 {F : Nat → (Int → ZV) → Prop} (h1 : 0 ≤ i) (h2 : i < 1) : zAR (HM μ) 144 i .int F ↔ F 12000 (zro μ 144 i) := by
  have e : HM μ 144 i = some (.inr (.int, 12000, zro μ 144 i)) := if_pos ⟨h1, h2⟩
  unfold zAR
  rw [e]
  exact ⟨fun q => q.2, fun q => ⟨rfl, q⟩⟩
theorem wr144 (h1 : 0 ≤ i) (h2 : i < 1) : zset (HM μ) 144 i (.inr (.int, 12000, zup (zro μ 144 i) j (zI v))) = HM (mu μ 144 i j v) := by
  refine HM_set (by decide) ?_
  have e : HM (mu μ 144 i j v) 144 i = some (.inr (.int, 12000, zro (mu μ 144 i j v) 144 i)) := if_pos ⟨h1, h2⟩
  rw [e]
  exact congrArg (fun f : Int → ZV => (some (Sum.inr (FieldType.int, 12000, f)) : Option ZE)) zup_mu
theorem rd145 {F : Nat → (Int → ZV) → Prop} (h1 : 0 ≤ i) (h2 : i < 1) : zAR (HM μ) 145 i .int F ↔ F 2400 (zro μ 145 i) := by
  have e : HM μ 145 i = some (.inr (.int, 2400, zro μ 145 i)) := if_pos ⟨h1, h2⟩
  unfold zAR
  rw [e]
  exact ⟨fun q => q.2, fun q => ⟨rfl, q⟩⟩
theorem wr145 (h1 : 0 ≤ i) (h2 : i < 1) : zset (HM μ) 145 i (.inr (.int, 2400, zup (zro μ 145 i) j (zI v))) = HM (mu μ 145 i j v) := by
  refine HM_set (by decide) ?_
  have e : HM (mu μ 145 i j v) 145 i = some (.inr (.int, 2400, zro (mu μ 145 i j v) 145 i)) := if_pos ⟨h1, h2⟩
  rw [e]
  exact congrArg (fun f : Int → ZV => (some (Sum.inr (FieldType.int, 2400, f)) : Option ZE)) zup_mu
theorem rd151 {F : Nat → (Int → ZV) → Prop} (h1 : 0 ≤ i) (h2 : i < 1) : zAR (HM μ) 151 i .int F ↔ F 300 (zro μ 151 i) := by
  have e : HM μ 151 i = some (.inr (.int, 300, zro μ 151 i)) := if_pos ⟨h1, h2⟩
  unfold zAR
  rw [e]
  exact ⟨fun q => q.2, fun q => ⟨rfl, q⟩⟩
theorem wr151 (h1 : 0 ≤ i) (h2 : i < 1) : zset (HM μ) 151 i (.inr (.int, 300, zup (zro μ 151 i) j (zI v))) = HM (mu μ 151 i j v) := by
  refine HM_set (by decide) ?_
  have e : HM (mu μ 151 i j v) 151 i = some (.inr (.int, 300, zro (mu μ 151 i j v) 151 i)) := if_pos ⟨h1, h2⟩
  rw [e]
  exact congrArg (fun f : Int → ZV => (some (Sum.inr (FieldType.int, 300, f)) : Option ZE)) zup_mu
theorem rd152 {F : Nat → (Int → ZV) → Prop} (h1 : 0 ≤ i) (h2 : i < 1) : zAR (HM μ) 152 i .int F ↔ F 60 (zro μ 152 i) := by
  have e : HM μ 152 i = some (.inr (.int, 60, zro μ 152 i)) := if_pos ⟨h1, h2⟩
  unfold zAR
  rw [e]
  exact ⟨fun q => q.2, fun q => ⟨rfl, q⟩⟩
theorem wr152 (h1 : 0 ≤ i) (h2 : i < 1) : zset (HM μ) 152 i (.inr (.int, 60, zup (zro μ 152 i) j (zI v))) = HM (mu μ 152 i j v) := by
  refine HM_set (by decide) ?_
  have e : HM (mu μ 152 i j v) 152 i = some (.inr (.int, 60, zro (mu μ 152 i j v) 152 i)) := if_pos ⟨h1, h2⟩
  rw [e]
  exact congrArg (fun f : Int → ZV => (some (Sum.inr (FieldType.int, 60, f)) : Option ZE)) zup_mu
theorem rd153 {F : Nat → (Int → ZV) → Prop} (h1 : 0 ≤ i) (h2 : i < 1) : zAR (HM μ) 153 i .int F ↔ F 60 (zro μ 153 i) := by
  have e : HM μ 153 i = some (.inr (.int, 60, zro μ 153 i)) := if_pos ⟨h1, h2⟩
  unfold zAR
  rw [e]
  exact ⟨fun q => q.2, fun q => ⟨rfl, q⟩⟩
theorem wr153 (h1 : 0 ≤ i) (h2 : i < 1) : zset (HM μ) 153 i (.inr (.int, 60, zup (zro μ 153 i) j (zI v))) = HM (mu μ 153 i j v) := by
  refine HM_set (by decide) ?_
  have e : HM (mu μ 153 i j v) 153 i = some (.inr (.int, 60, zro (mu μ 153 i j v) 153 i)) := if_pos ⟨h1, h2⟩
  rw [e]
  exact congrArg (fun f : Int → ZV => (some (Sum.inr (FieldType.int, 60, f)) : Option ZE)) zup_mu
theorem rd154 {F : Nat → (Int → ZV) → Prop} (h1 : 0 ≤ i) (h2 : i < 1) : zAR (HM μ) 154 i .int F ↔ F 61 (zro μ 154 i) := by
  have e : HM μ 154 i = some (.inr (.int, 61, zro μ 154 i)) := if_pos ⟨h1, h2⟩
  unfold zAR
  rw [e]
  exact ⟨fun q => q.2, fun q => ⟨rfl, q⟩⟩
theorem wr154 (h1 : 0 ≤ i) (h2 : i < 1) : zset (HM μ) 154 i (.inr (.int, 61, zup (zro μ 154 i) j (zI v))) = HM (mu μ 154 i j v) := by
  refine HM_set (by decide) ?_
  have e : HM (mu μ 154 i j v) 154 i = some (.inr (.int, 61, zro (mu μ 154 i j v) 154 i)) := if_pos ⟨h1, h2⟩
  rw [e]
  exact congrArg (fun f : Int → ZV => (some (Sum.inr (FieldType.int, 61, f)) : Option ZE)) zup_mu
theorem rd155 {F : Nat → (Int → ZV) → Prop} (h1 : 0 ≤ i) (h2 : i < 1) : zAR (HM μ) 155 i .int F ↔ F 61 (zro μ 155 i) := by
  have e : HM μ 155 i = some (.inr (.int, 61, zro μ 155 i)) := if_pos ⟨h1, h2⟩
  unfold zAR
  rw [e]
  exact ⟨fun q => q.2, fun q => ⟨rfl, q⟩⟩
theorem wr155 (h1 : 0 ≤ i) (h2 : i < 1) : zset (HM μ) 155 i (.inr (.int, 61, zup (zro μ 155 i) j (zI v))) = HM (mu μ 155 i j v) := by
  refine HM_set (by decide) ?_
  have e : HM (mu μ 155 i j v) 155 i = some (.inr (.int, 61, zro (mu μ 155 i j v) 155 i)) := if_pos ⟨h1, h2⟩
  rw [e]
  exact congrArg (fun f : Int → ZV => (some (Sum.inr (FieldType.int, 61, f)) : Option ZE)) zup_mu
theorem rd200 {F : Nat → (Int → ZV) → Prop} (h1 : 0 ≤ i) (h2 : i < 1) : zAR (HM μ) 200 i .long F ↔ F 1 (zrl μ 200 i) := by
  have e : HM μ 200 i = some (.inr (.long, 1, zrl μ 200 i)) := if_pos ⟨h1, h2⟩
  unfold zAR
  rw [e]
  exact ⟨fun q => q.2, fun q => ⟨rfl, q⟩⟩
theorem wr200 {y : Int64} (h1 : 0 ≤ i) (h2 : i < 1) : zset (HM μ) 200 i (.inr (.long, 1, zup (zrl μ 200 i) j (zL y))) = HM (mu μ 200 i j y.toInt) := by
  refine HM_set (by decide) ?_
  have e : HM (mu μ 200 i j y.toInt) 200 i = some (.inr (.long, 1, zrl (mu μ 200 i j y.toInt) 200 i)) := if_pos ⟨h1, h2⟩
  rw [e]
  exact congrArg (fun f : Int → ZV => (some (Sum.inr (FieldType.long, 1, f)) : Option ZE)) zup_muL
theorem rd26 {F : Nat → (Int → ZV) → Prop} (h1 : 0 ≤ i) (h2 : i < μ 0 0 26) : zAR (HM μ) 26 i .int F ↔ F (μ 0 1 i).toNat (zro μ 26 i) := by
  have e : HM μ 26 i = some (.inr (.int, (μ 0 1 i).toNat, zro μ 26 i)) := if_pos ⟨h1, h2⟩
  unfold zAR
  rw [e]
  exact ⟨fun q => q.2, fun q => ⟨rfl, q⟩⟩
theorem ln26 {F : FieldType → Nat → (Int → ZV) → Prop} (h1 : 0 ≤ i) (h2 : i < μ 0 0 26) : zAY (HM μ) 26 i F ↔ F .int (μ 0 1 i).toNat (zro μ 26 i) := by
  have e : HM μ 26 i = some (.inr (.int, (μ 0 1 i).toNat, zro μ 26 i)) := if_pos ⟨h1, h2⟩
  unfold zAY
  rw [e]
theorem rd1 {F : Nat → (Int → ZV) → Prop} : zAR (HM μ) 1 0 .int F ↔ F (μ 0 2 0).toNat (zro μ 1 0) := by
  have e : HM μ 1 0 = some (.inr (.int, (μ 0 2 0).toNat, zro μ 1 0)) := rfl
  unfold zAR
  rw [e]
  exact ⟨fun q => q.2, fun q => ⟨rfl, q⟩⟩
theorem ln1 {F : FieldType → Nat → (Int → ZV) → Prop} : zAY (HM μ) 1 0 F ↔ F .int (μ 0 2 0).toNat (zro μ 1 0) := by
  have e : HM μ 1 0 = some (.inr (.int, (μ 0 2 0).toNat, zro μ 1 0)) := rfl
  unfold zAY
  rw [e]
theorem rd3 {F : FieldType → Nat → (Int → ZV) → Prop} : zAY (HM μ) 3 0 F ↔ F (.object (zcn 5)) 24 (zoA 10 (μ 0 0 10)) := by
  have e : HM μ 3 0 = some (.inr (.object (zcn 5), 24, zoA 10 (μ 0 0 10))) := rfl
  unfold zAY
  rw [e]
theorem rd4 {F : FieldType → Nat → (Int → ZV) → Prop} : zAY (HM μ) 4 0 F ↔ F (.object (zcn 3)) 12 (zoA 20 (μ 0 0 20)) := by
  have e : HM μ 4 0 = some (.inr (.object (zcn 3), 12, zoA 20 (μ 0 0 20))) := rfl
  unfold zAY
  rw [e]
theorem rd5 {F : FieldType → Nat → (Int → ZV) → Prop} : zAY (HM μ) 5 0 F ↔ F (.object (zcn 1)) 6 (zoA 30 (μ 0 0 30)) := by
  have e : HM μ 5 0 = some (.inr (.object (zcn 1), 6, zoA 30 (μ 0 0 30))) := rfl
  unfold zAY
  rw [e]
theorem rd6 {F : FieldType → Nat → (Int → ZV) → Prop} : zAY (HM μ) 6 0 F ↔ F (.object (zcn 4)) 40 (zoA 40 (μ 0 0 40)) := by
  have e : HM μ 6 0 = some (.inr (.object (zcn 4), 40, zoA 40 (μ 0 0 40))) := rfl
  unfold zAY
  rw [e]
theorem ob2 {F : (Nat → ZV) → Prop} (h1 : 0 ≤ i) (h2 : i < 1) : zGF (HM μ) 2 i 8 F ↔ F (zfl μ 2 i) := by
  have e : HM μ 2 i = some (.inl (8, zfl μ 2 i)) := if_pos ⟨h1, h2⟩
  unfold zGF
  rw [e]
  exact ⟨fun q => q.2, fun q => ⟨rfl, q⟩⟩
theorem oc2 (h1 : 0 ≤ i) (h2 : i < 1) : zGO (HM μ) 2 i 8 ↔ True := by
  have e : HM μ 2 i = some (.inl (8, zfl μ 2 i)) := if_pos ⟨h1, h2⟩
  exact ⟨fun _ => trivial, fun _ => ⟨_, e⟩⟩
theorem fl2_0 : zfl μ 2 i 0 = zR 3 0 := rfl
theorem fl2_1 : zfl μ 2 i 1 = zR 4 0 := rfl
theorem fl2_2 : zfl μ 2 i 2 = zR 5 0 := rfl
theorem fl2_3 : zfl μ 2 i 3 = zR 6 0 := rfl
theorem fl2_4 : zfl μ 2 i 4 = zR 7 0 := rfl
theorem fl2_5 : zfl μ 2 i 5 = zR 8 0 := rfl
theorem fl2_6 : zfl μ 2 i 6 = zI (μ 2 i 6) := rfl
theorem wo2_6 (h1 : 0 ≤ i) (h2 : i < 1) : zset (HM μ) 2 i (.inl (8, zupN (zfl μ 2 i) 6 (zI v))) = HM (mu μ 2 i 6 v) := by
  refine HM_set (by decide) ?_
  have e : HM (mu μ 2 i 6 v) 2 i = some (.inl (8, zfl (mu μ 2 i 6 v) 2 i)) := if_pos ⟨h1, h2⟩
  have key : zfl (mu μ 2 i 6 v) 2 i = zupN (zfl μ 2 i) 6 (zI v) := by
    funext s'
    unfold zupN
    by_cases hs : s' = 6
    · subst hs
      rw [if_pos rfl]
      exact congrArg zI (mu_at _ _ _ _)
    · rw [if_neg hs]
      have hne : ((s' : Nat) : Int) ≠ 6 := by omega
      have h0 : ∀ a b, mu μ 2 i 6 v 0 a b = μ 0 a b := fun a b => mu_k (by decide)
      have h9 : ∀ j, j ≠ 6 → mu μ 2 i 6 v 2 i j = μ 2 i j := fun j h => mu_j h
      unfold zfl
      split <;> first | rfl | (simp only [h0]) | (exact congrArg zI (h9 _ hne)) | (rw [h9 _ (by decide)]) | contradiction
  rw [e, key]
theorem fl2_7 : zfl μ 2 i 7 = zI (μ 2 i 7) := rfl
theorem wo2_7 (h1 : 0 ≤ i) (h2 : i < 1) : zset (HM μ) 2 i (.inl (8, zupN (zfl μ 2 i) 7 (zI v))) = HM (mu μ 2 i 7 v) := by
  refine HM_set (by decide) ?_
  have e : HM (mu μ 2 i 7 v) 2 i = some (.inl (8, zfl (mu μ 2 i 7 v) 2 i)) := if_pos ⟨h1, h2⟩
  have key : zfl (mu μ 2 i 7 v) 2 i = zupN (zfl μ 2 i) 7 (zI v) := by
    funext s'
    unfold zupN
    by_cases hs : s' = 7
    · subst hs
      rw [if_pos rfl]
      exact congrArg zI (mu_at _ _ _ _)
    · rw [if_neg hs]
      have hne : ((s' : Nat) : Int) ≠ 7 := by omega
      have h0 : ∀ a b, mu μ 2 i 7 v 0 a b = μ 0 a b := fun a b => mu_k (by decide)
      have h9 : ∀ j, j ≠ 7 → mu μ 2 i 7 v 2 i j = μ 2 i j := fun j h => mu_j h
      unfold zfl
      split <;> first | rfl | (simp only [h0]) | (exact congrArg zI (h9 _ hne)) | (rw [h9 _ (by decide)]) | contradiction
  rw [e, key]
theorem fl2_8 : zfl μ 2 i 8 = zI (μ 2 i 8) := rfl
theorem wo2_8 (h1 : 0 ≤ i) (h2 : i < 1) : zset (HM μ) 2 i (.inl (8, zupN (zfl μ 2 i) 8 (zI v))) = HM (mu μ 2 i 8 v) := by
  refine HM_set (by decide) ?_
  have e : HM (mu μ 2 i 8 v) 2 i = some (.inl (8, zfl (mu μ 2 i 8 v) 2 i)) := if_pos ⟨h1, h2⟩
  have key : zfl (mu μ 2 i 8 v) 2 i = zupN (zfl μ 2 i) 8 (zI v) := by
    funext s'
    unfold zupN
    by_cases hs : s' = 8
    · subst hs
      rw [if_pos rfl]
      exact congrArg zI (mu_at _ _ _ _)
    · rw [if_neg hs]
      have hne : ((s' : Nat) : Int) ≠ 8 := by omega
      have h0 : ∀ a b, mu μ 2 i 8 v 0 a b = μ 0 a b := fun a b => mu_k (by decide)
      have h9 : ∀ j, j ≠ 8 → mu μ 2 i 8 v 2 i j = μ 2 i j := fun j h => mu_j h
      unfold zfl
      split <;> first | rfl | (simp only [h0]) | (exact congrArg zI (h9 _ hne)) | (rw [h9 _ (by decide)]) | contradiction
  rw [e, key]
theorem fl2_9 : zfl μ 2 i 9 = zI (μ 2 i 9) := rfl
theorem wo2_9 (h1 : 0 ≤ i) (h2 : i < 1) : zset (HM μ) 2 i (.inl (8, zupN (zfl μ 2 i) 9 (zI v))) = HM (mu μ 2 i 9 v) := by
  refine HM_set (by decide) ?_
  have e : HM (mu μ 2 i 9 v) 2 i = some (.inl (8, zfl (mu μ 2 i 9 v) 2 i)) := if_pos ⟨h1, h2⟩
  have key : zfl (mu μ 2 i 9 v) 2 i = zupN (zfl μ 2 i) 9 (zI v) := by
    funext s'
    unfold zupN
    by_cases hs : s' = 9
    · subst hs
      rw [if_pos rfl]
      exact congrArg zI (mu_at _ _ _ _)
    · rw [if_neg hs]
      have hne : ((s' : Nat) : Int) ≠ 9 := by omega
      have h0 : ∀ a b, mu μ 2 i 9 v 0 a b = μ 0 a b := fun a b => mu_k (by decide)
      have h9 : ∀ j, j ≠ 9 → mu μ 2 i 9 v 2 i j = μ 2 i j := fun j h => mu_j h
      unfold zfl
      split <;> first | rfl | (simp only [h0]) | (exact congrArg zI (h9 _ hne)) | (rw [h9 _ (by decide)]) | contradiction
  rw [e, key]
theorem fl2_10 : zfl μ 2 i 10 = zI (μ 2 i 10) := rfl
theorem wo2_10 (h1 : 0 ≤ i) (h2 : i < 1) : zset (HM μ) 2 i (.inl (8, zupN (zfl μ 2 i) 10 (zI v))) = HM (mu μ 2 i 10 v) := by
  refine HM_set (by decide) ?_
  have e : HM (mu μ 2 i 10 v) 2 i = some (.inl (8, zfl (mu μ 2 i 10 v) 2 i)) := if_pos ⟨h1, h2⟩
  have key : zfl (mu μ 2 i 10 v) 2 i = zupN (zfl μ 2 i) 10 (zI v) := by
    funext s'
    unfold zupN
    by_cases hs : s' = 10
    · subst hs
      rw [if_pos rfl]
      exact congrArg zI (mu_at _ _ _ _)
    · rw [if_neg hs]
      have hne : ((s' : Nat) : Int) ≠ 10 := by omega
      have h0 : ∀ a b, mu μ 2 i 10 v 0 a b = μ 0 a b := fun a b => mu_k (by decide)
      have h9 : ∀ j, j ≠ 10 → mu μ 2 i 10 v 2 i j = μ 2 i j := fun j h => mu_j h
      unfold zfl
      split <;> first | rfl | (simp only [h0]) | (exact congrArg zI (h9 _ hne)) | (rw [h9 _ (by decide)]) | contradiction
  rw [e, key]
theorem ob8 {F : (Nat → ZV) → Prop} (h1 : 0 ≤ i) (h2 : i < 1) : zGF (HM μ) 8 i 6 F ↔ F (zfl μ 8 i) := by
  have e : HM μ 8 i = some (.inl (6, zfl μ 8 i)) := if_pos ⟨h1, h2⟩
  unfold zGF
  rw [e]
  exact ⟨fun q => q.2, fun q => ⟨rfl, q⟩⟩
theorem oc8 (h1 : 0 ≤ i) (h2 : i < 1) : zGO (HM μ) 8 i 6 ↔ True := by
  have e : HM μ 8 i = some (.inl (6, zfl μ 8 i)) := if_pos ⟨h1, h2⟩
  exact ⟨fun _ => trivial, fun _ => ⟨_, e⟩⟩
theorem fl8_0 : zfl μ 8 i 0 = zR 50 (μ 0 0 50 - 1) := rfl
theorem fl8_1 : zfl μ 8 i 1 = zR 61 0 := rfl
theorem fl8_2 : zfl μ 8 i 2 = zR 62 0 := rfl
theorem fl8_3 : zfl μ 8 i 3 = zR 63 0 := rfl
theorem fl8_4 : zfl μ 8 i 4 = zR 64 0 := rfl
theorem fl8_5 : zfl μ 8 i 5 = zR 65 0 := rfl
theorem fl8_6 : zfl μ 8 i 6 = zR 66 0 := rfl
theorem ob10 {F : (Nat → ZV) → Prop} (h1 : 0 ≤ i) (h2 : i < μ 0 0 10) : zGF (HM μ) 10 i 5 F ↔ F (zfl μ 10 i) := by
  have e : HM μ 10 i = some (.inl (5, zfl μ 10 i)) := if_pos ⟨h1, h2⟩
  unfold zGF
  rw [e]
  exact ⟨fun q => q.2, fun q => ⟨rfl, q⟩⟩
theorem oc10 (h1 : 0 ≤ i) (h2 : i < μ 0 0 10) : zGO (HM μ) 10 i 5 ↔ True := by
  have e : HM μ 10 i = some (.inl (5, zfl μ 10 i)) := if_pos ⟨h1, h2⟩
  exact ⟨fun _ => trivial, fun _ => ⟨_, e⟩⟩
theorem fl10_0 : zfl μ 10 i 0 = zR 11 i := rfl
theorem fl10_1 : zfl μ 10 i 1 = zI (μ 10 i 1) := rfl
theorem wo10_1 (h1 : 0 ≤ i) (h2 : i < μ 0 0 10) : zset (HM μ) 10 i (.inl (5, zupN (zfl μ 10 i) 1 (zI v))) = HM (mu μ 10 i 1 v) := by
  refine HM_set (by decide) ?_
  have e : HM (mu μ 10 i 1 v) 10 i = some (.inl (5, zfl (mu μ 10 i 1 v) 10 i)) := if_pos ⟨h1, h2⟩
  have key : zfl (mu μ 10 i 1 v) 10 i = zupN (zfl μ 10 i) 1 (zI v) := by
    funext s'
    unfold zupN
    by_cases hs : s' = 1
    · subst hs
      rw [if_pos rfl]
      exact congrArg zI (mu_at _ _ _ _)
    · rw [if_neg hs]
      have hne : ((s' : Nat) : Int) ≠ 1 := by omega
      have h0 : ∀ a b, mu μ 10 i 1 v 0 a b = μ 0 a b := fun a b => mu_k (by decide)
      have h9 : ∀ j, j ≠ 1 → mu μ 10 i 1 v 10 i j = μ 10 i j := fun j h => mu_j h
      unfold zfl
      split <;> first | rfl | (simp only [h0]) | (exact congrArg zI (h9 _ hne)) | (rw [h9 _ (by decide)]) | contradiction
  rw [e, key]
theorem ob11 {F : (Nat → ZV) → Prop} (h1 : 0 ≤ i) (h2 : i < μ 0 0 10) : zGF (HM μ) 11 i 2 F ↔ F (zfl μ 11 i) := by
  have e : HM μ 11 i = some (.inl (2, zfl μ 11 i)) := if_pos ⟨h1, h2⟩
  unfold zGF
  rw [e]
  exact ⟨fun q => q.2, fun q => ⟨rfl, q⟩⟩
theorem oc11 (h1 : 0 ≤ i) (h2 : i < μ 0 0 10) : zGO (HM μ) 11 i 2 ↔ True := by
  have e : HM μ 11 i = some (.inl (2, zfl μ 11 i)) := if_pos ⟨h1, h2⟩
  exact ⟨fun _ => trivial, fun _ => ⟨_, e⟩⟩
theorem fl11_0 : zfl μ 11 i 0 = zR 12 i := rfl
theorem fl11_1 : zfl μ 11 i 1 = zR 13 i := rfl
theorem fl11_2 : zfl μ 11 i 2 = zR 14 i := rfl
theorem ob20 {F : (Nat → ZV) → Prop} (h1 : 0 ≤ i) (h2 : i < μ 0 0 20) : zGF (HM μ) 20 i 3 F ↔ F (zfl μ 20 i) := by
  have e : HM μ 20 i = some (.inl (3, zfl μ 20 i)) := if_pos ⟨h1, h2⟩
  unfold zGF
  rw [e]
  exact ⟨fun q => q.2, fun q => ⟨rfl, q⟩⟩
theorem oc20 (h1 : 0 ≤ i) (h2 : i < μ 0 0 20) : zGO (HM μ) 20 i 3 ↔ True := by
  have e : HM μ 20 i = some (.inl (3, zfl μ 20 i)) := if_pos ⟨h1, h2⟩
  exact ⟨fun _ => trivial, fun _ => ⟨_, e⟩⟩
theorem fl20_0 : zfl μ 20 i 0 = zI (μ 20 i 0) := rfl
theorem wo20_0 (h1 : 0 ≤ i) (h2 : i < μ 0 0 20) : zset (HM μ) 20 i (.inl (3, zupN (zfl μ 20 i) 0 (zI v))) = HM (mu μ 20 i 0 v) := by
  refine HM_set (by decide) ?_
  have e : HM (mu μ 20 i 0 v) 20 i = some (.inl (3, zfl (mu μ 20 i 0 v) 20 i)) := if_pos ⟨h1, h2⟩
  have key : zfl (mu μ 20 i 0 v) 20 i = zupN (zfl μ 20 i) 0 (zI v) := by
    funext s'
    unfold zupN
    by_cases hs : s' = 0
    · subst hs
      rw [if_pos rfl]
      exact congrArg zI (mu_at _ _ _ _)
    · rw [if_neg hs]
      have hne : ((s' : Nat) : Int) ≠ 0 := by omega
      have h0 : ∀ a b, mu μ 20 i 0 v 0 a b = μ 0 a b := fun a b => mu_k (by decide)
      have h9 : ∀ j, j ≠ 0 → mu μ 20 i 0 v 20 i j = μ 20 i j := fun j h => mu_j h
      unfold zfl
      split <;> first | rfl | (simp only [h0]) | (exact congrArg zI (h9 _ hne)) | (rw [h9 _ (by decide)]) | contradiction
  rw [e, key]
theorem fl20_1 : zfl μ 20 i 1 = zR 26 (μ 20 i 1) := rfl
theorem fl20_2 : zfl μ 20 i 2 = zR 21 i := rfl
theorem fl20_3 : zfl μ 20 i 3 = zI (μ 20 i 3) := rfl
theorem wo20_3 (h1 : 0 ≤ i) (h2 : i < μ 0 0 20) : zset (HM μ) 20 i (.inl (3, zupN (zfl μ 20 i) 3 (zI v))) = HM (mu μ 20 i 3 v) := by
  refine HM_set (by decide) ?_
  have e : HM (mu μ 20 i 3 v) 20 i = some (.inl (3, zfl (mu μ 20 i 3 v) 20 i)) := if_pos ⟨h1, h2⟩
  have key : zfl (mu μ 20 i 3 v) 20 i = zupN (zfl μ 20 i) 3 (zI v) := by
    funext s'
    unfold zupN
    by_cases hs : s' = 3
    · subst hs
      rw [if_pos rfl]
      exact congrArg zI (mu_at _ _ _ _)
    · rw [if_neg hs]
      have hne : ((s' : Nat) : Int) ≠ 3 := by omega
      have h0 : ∀ a b, mu μ 20 i 3 v 0 a b = μ 0 a b := fun a b => mu_k (by decide)
      have h9 : ∀ j, j ≠ 3 → mu μ 20 i 3 v 20 i j = μ 20 i j := fun j h => mu_j h
      unfold zfl
      split <;> first | rfl | (simp only [h0]) | (exact congrArg zI (h9 _ hne)) | (rw [h9 _ (by decide)]) | contradiction
  rw [e, key]
theorem ob21 {F : (Nat → ZV) → Prop} (h1 : 0 ≤ i) (h2 : i < μ 0 0 20) : zGF (HM μ) 21 i 2 F ↔ F (zfl μ 21 i) := by
  have e : HM μ 21 i = some (.inl (2, zfl μ 21 i)) := if_pos ⟨h1, h2⟩
  unfold zGF
  rw [e]
  exact ⟨fun q => q.2, fun q => ⟨rfl, q⟩⟩
theorem oc21 (h1 : 0 ≤ i) (h2 : i < μ 0 0 20) : zGO (HM μ) 21 i 2 ↔ True := by
  have e : HM μ 21 i = some (.inl (2, zfl μ 21 i)) := if_pos ⟨h1, h2⟩
  exact ⟨fun _ => trivial, fun _ => ⟨_, e⟩⟩
theorem fl21_0 : zfl μ 21 i 0 = zR 22 i := rfl
theorem fl21_1 : zfl μ 21 i 1 = zR 23 i := rfl
theorem fl21_2 : zfl μ 21 i 2 = zR 24 i := rfl
theorem ob30 {F : (Nat → ZV) → Prop} (h1 : 0 ≤ i) (h2 : i < μ 0 0 30) : zGF (HM μ) 30 i 1 F ↔ F (zfl μ 30 i) := by
  have e : HM μ 30 i = some (.inl (1, zfl μ 30 i)) := if_pos ⟨h1, h2⟩
  unfold zGF
  rw [e]
  exact ⟨fun q => q.2, fun q => ⟨rfl, q⟩⟩
theorem oc30 (h1 : 0 ≤ i) (h2 : i < μ 0 0 30) : zGO (HM μ) 30 i 1 ↔ True := by
  have e : HM μ 30 i = some (.inl (1, zfl μ 30 i)) := if_pos ⟨h1, h2⟩
  exact ⟨fun _ => trivial, fun _ => ⟨_, e⟩⟩
theorem fl30_0 : zfl μ 30 i 0 = zI (μ 30 i 0) := rfl
theorem wo30_0 (h1 : 0 ≤ i) (h2 : i < μ 0 0 30) : zset (HM μ) 30 i (.inl (1, zupN (zfl μ 30 i) 0 (zI v))) = HM (mu μ 30 i 0 v) := by
  refine HM_set (by decide) ?_
  have e : HM (mu μ 30 i 0 v) 30 i = some (.inl (1, zfl (mu μ 30 i 0 v) 30 i)) := if_pos ⟨h1, h2⟩
  have key : zfl (mu μ 30 i 0 v) 30 i = zupN (zfl μ 30 i) 0 (zI v) := by
    funext s'
    unfold zupN
    by_cases hs : s' = 0
    · subst hs
      rw [if_pos rfl]
      exact congrArg zI (mu_at _ _ _ _)
    · rw [if_neg hs]
      have hne : ((s' : Nat) : Int) ≠ 0 := by omega
      have h0 : ∀ a b, mu μ 30 i 0 v 0 a b = μ 0 a b := fun a b => mu_k (by decide)
      have h9 : ∀ j, j ≠ 0 → mu μ 30 i 0 v 30 i j = μ 30 i j := fun j h => mu_j h
      unfold zfl
      split <;> first | rfl | (simp only [h0]) | (exact congrArg zI (h9 _ hne)) | (rw [h9 _ (by decide)]) | contradiction
  rw [e, key]
theorem fl30_1 : zfl μ 30 i 1 = zI (μ 30 i 1) := rfl
theorem wo30_1 (h1 : 0 ≤ i) (h2 : i < μ 0 0 30) : zset (HM μ) 30 i (.inl (1, zupN (zfl μ 30 i) 1 (zI v))) = HM (mu μ 30 i 1 v) := by
  refine HM_set (by decide) ?_
  have e : HM (mu μ 30 i 1 v) 30 i = some (.inl (1, zfl (mu μ 30 i 1 v) 30 i)) := if_pos ⟨h1, h2⟩
  have key : zfl (mu μ 30 i 1 v) 30 i = zupN (zfl μ 30 i) 1 (zI v) := by
    funext s'
    unfold zupN
    by_cases hs : s' = 1
    · subst hs
      rw [if_pos rfl]
      exact congrArg zI (mu_at _ _ _ _)
    · rw [if_neg hs]
      have hne : ((s' : Nat) : Int) ≠ 1 := by omega
      have h0 : ∀ a b, mu μ 30 i 1 v 0 a b = μ 0 a b := fun a b => mu_k (by decide)
      have h9 : ∀ j, j ≠ 1 → mu μ 30 i 1 v 30 i j = μ 30 i j := fun j h => mu_j h
      unfold zfl
      split <;> first | rfl | (simp only [h0]) | (exact congrArg zI (h9 _ hne)) | (rw [h9 _ (by decide)]) | contradiction
  rw [e, key]
theorem fl30_2 : zfl μ 30 i 2 = zR 31 i := rfl
theorem fl30_3 : zfl μ 30 i 3 = zR 32 i := rfl
theorem fl30_4 : zfl μ 30 i 4 = zR 33 i := rfl
theorem fl30_5 : zfl μ 30 i 5 = zR 34 i := rfl
theorem fl30_6 : zfl μ 30 i 6 = zR 35 i := rfl
theorem fl30_7 : zfl μ 30 i 7 = zI (μ 30 i 7) := rfl
theorem wo30_7 (h1 : 0 ≤ i) (h2 : i < μ 0 0 30) : zset (HM μ) 30 i (.inl (1, zupN (zfl μ 30 i) 7 (zI v))) = HM (mu μ 30 i 7 v) := by
  refine HM_set (by decide) ?_
  have e : HM (mu μ 30 i 7 v) 30 i = some (.inl (1, zfl (mu μ 30 i 7 v) 30 i)) := if_pos ⟨h1, h2⟩
  have key : zfl (mu μ 30 i 7 v) 30 i = zupN (zfl μ 30 i) 7 (zI v) := by
    funext s'
    unfold zupN
    by_cases hs : s' = 7
    · subst hs
      rw [if_pos rfl]
      exact congrArg zI (mu_at _ _ _ _)
    · rw [if_neg hs]
      have hne : ((s' : Nat) : Int) ≠ 7 := by omega
      have h0 : ∀ a b, mu μ 30 i 7 v 0 a b = μ 0 a b := fun a b => mu_k (by decide)
      have h9 : ∀ j, j ≠ 7 → mu μ 30 i 7 v 30 i j = μ 30 i j := fun j h => mu_j h
      unfold zfl
      split <;> first | rfl | (simp only [h0]) | (exact congrArg zI (h9 _ hne)) | (rw [h9 _ (by decide)]) | contradiction
  rw [e, key]
theorem fl30_8 : zfl μ 30 i 8 = zI (μ 30 i 8) := rfl
theorem wo30_8 (h1 : 0 ≤ i) (h2 : i < μ 0 0 30) : zset (HM μ) 30 i (.inl (1, zupN (zfl μ 30 i) 8 (zI v))) = HM (mu μ 30 i 8 v) := by
  refine HM_set (by decide) ?_
  have e : HM (mu μ 30 i 8 v) 30 i = some (.inl (1, zfl (mu μ 30 i 8 v) 30 i)) := if_pos ⟨h1, h2⟩
  have key : zfl (mu μ 30 i 8 v) 30 i = zupN (zfl μ 30 i) 8 (zI v) := by
    funext s'
    unfold zupN
    by_cases hs : s' = 8
    · subst hs
      rw [if_pos rfl]
      exact congrArg zI (mu_at _ _ _ _)
    · rw [if_neg hs]
      have hne : ((s' : Nat) : Int) ≠ 8 := by omega
      have h0 : ∀ a b, mu μ 30 i 8 v 0 a b = μ 0 a b := fun a b => mu_k (by decide)
      have h9 : ∀ j, j ≠ 8 → mu μ 30 i 8 v 30 i j = μ 30 i j := fun j h => mu_j h
      unfold zfl
      split <;> first | rfl | (simp only [h0]) | (exact congrArg zI (h9 _ hne)) | (rw [h9 _ (by decide)]) | contradiction
  rw [e, key]
theorem fl30_9 : zfl μ 30 i 9 = zI (μ 30 i 9) := rfl
theorem wo30_9 (h1 : 0 ≤ i) (h2 : i < μ 0 0 30) : zset (HM μ) 30 i (.inl (1, zupN (zfl μ 30 i) 9 (zI v))) = HM (mu μ 30 i 9 v) := by
  refine HM_set (by decide) ?_
  have e : HM (mu μ 30 i 9 v) 30 i = some (.inl (1, zfl (mu μ 30 i 9 v) 30 i)) := if_pos ⟨h1, h2⟩
  have key : zfl (mu μ 30 i 9 v) 30 i = zupN (zfl μ 30 i) 9 (zI v) := by
    funext s'
    unfold zupN
    by_cases hs : s' = 9
    · subst hs
      rw [if_pos rfl]
      exact congrArg zI (mu_at _ _ _ _)
    · rw [if_neg hs]
      have hne : ((s' : Nat) : Int) ≠ 9 := by omega
      have h0 : ∀ a b, mu μ 30 i 9 v 0 a b = μ 0 a b := fun a b => mu_k (by decide)
      have h9 : ∀ j, j ≠ 9 → mu μ 30 i 9 v 30 i j = μ 30 i j := fun j h => mu_j h
      unfold zfl
      split <;> first | rfl | (simp only [h0]) | (exact congrArg zI (h9 _ hne)) | (rw [h9 _ (by decide)]) | contradiction
  rw [e, key]
theorem fl30_10 : zfl μ 30 i 10 = zI (μ 30 i 10) := rfl
theorem wo30_10 (h1 : 0 ≤ i) (h2 : i < μ 0 0 30) : zset (HM μ) 30 i (.inl (1, zupN (zfl μ 30 i) 10 (zI v))) = HM (mu μ 30 i 10 v) := by
  refine HM_set (by decide) ?_
  have e : HM (mu μ 30 i 10 v) 30 i = some (.inl (1, zfl (mu μ 30 i 10 v) 30 i)) := if_pos ⟨h1, h2⟩
  have key : zfl (mu μ 30 i 10 v) 30 i = zupN (zfl μ 30 i) 10 (zI v) := by
    funext s'
    unfold zupN
    by_cases hs : s' = 10
    · subst hs
      rw [if_pos rfl]
      exact congrArg zI (mu_at _ _ _ _)
    · rw [if_neg hs]
      have hne : ((s' : Nat) : Int) ≠ 10 := by omega
      have h0 : ∀ a b, mu μ 30 i 10 v 0 a b = μ 0 a b := fun a b => mu_k (by decide)
      have h9 : ∀ j, j ≠ 10 → mu μ 30 i 10 v 30 i j = μ 30 i j := fun j h => mu_j h
      unfold zfl
      split <;> first | rfl | (simp only [h0]) | (exact congrArg zI (h9 _ hne)) | (rw [h9 _ (by decide)]) | contradiction
  rw [e, key]
theorem ob40 {F : (Nat → ZV) → Prop} (h1 : 0 ≤ i) (h2 : i < μ 0 0 40) : zGF (HM μ) 40 i 4 F ↔ F (zfl μ 40 i) := by
  have e : HM μ 40 i = some (.inl (4, zfl μ 40 i)) := if_pos ⟨h1, h2⟩
  unfold zGF
  rw [e]
  exact ⟨fun q => q.2, fun q => ⟨rfl, q⟩⟩
theorem oc40 (h1 : 0 ≤ i) (h2 : i < μ 0 0 40) : zGO (HM μ) 40 i 4 ↔ True := by
  have e : HM μ 40 i = some (.inl (4, zfl μ 40 i)) := if_pos ⟨h1, h2⟩
  exact ⟨fun _ => trivial, fun _ => ⟨_, e⟩⟩
theorem fl40_0 : zfl μ 40 i 0 = zR 30 (μ 40 i 0) := rfl
theorem fl40_1 : zfl μ 40 i 1 = zR 20 (μ 40 i 1) := rfl
theorem fl40_2 : zfl μ 40 i 2 = zI (μ 40 i 2) := rfl
theorem wo40_2 (h1 : 0 ≤ i) (h2 : i < μ 0 0 40) : zset (HM μ) 40 i (.inl (4, zupN (zfl μ 40 i) 2 (zI v))) = HM (mu μ 40 i 2 v) := by
  refine HM_set (by decide) ?_
  have e : HM (mu μ 40 i 2 v) 40 i = some (.inl (4, zfl (mu μ 40 i 2 v) 40 i)) := if_pos ⟨h1, h2⟩
  have key : zfl (mu μ 40 i 2 v) 40 i = zupN (zfl μ 40 i) 2 (zI v) := by
    funext s'
    unfold zupN
    by_cases hs : s' = 2
    · subst hs
      rw [if_pos rfl]
      exact congrArg zI (mu_at _ _ _ _)
    · rw [if_neg hs]
      have hne : ((s' : Nat) : Int) ≠ 2 := by omega
      have h0 : ∀ a b, mu μ 40 i 2 v 0 a b = μ 0 a b := fun a b => mu_k (by decide)
      have h9 : ∀ j, j ≠ 2 → mu μ 40 i 2 v 40 i j = μ 40 i j := fun j h => mu_j h
      unfold zfl
      split <;> first | rfl | (simp only [h0]) | (exact congrArg zI (h9 _ hne)) | (rw [h9 _ (by decide)]) | contradiction
  rw [e, key]
theorem fl40_3 : zfl μ 40 i 3 = zI (μ 40 i 3) := rfl
theorem wo40_3 (h1 : 0 ≤ i) (h2 : i < μ 0 0 40) : zset (HM μ) 40 i (.inl (4, zupN (zfl μ 40 i) 3 (zI v))) = HM (mu μ 40 i 3 v) := by
  refine HM_set (by decide) ?_
  have e : HM (mu μ 40 i 3 v) 40 i = some (.inl (4, zfl (mu μ 40 i 3 v) 40 i)) := if_pos ⟨h1, h2⟩
  have key : zfl (mu μ 40 i 3 v) 40 i = zupN (zfl μ 40 i) 3 (zI v) := by
    funext s'
    unfold zupN
    by_cases hs : s' = 3
    · subst hs
      rw [if_pos rfl]
      exact congrArg zI (mu_at _ _ _ _)
    · rw [if_neg hs]
      have hne : ((s' : Nat) : Int) ≠ 3 := by omega
      have h0 : ∀ a b, mu μ 40 i 3 v 0 a b = μ 0 a b := fun a b => mu_k (by decide)
      have h9 : ∀ j, j ≠ 3 → mu μ 40 i 3 v 40 i j = μ 40 i j := fun j h => mu_j h
      unfold zfl
      split <;> first | rfl | (simp only [h0]) | (exact congrArg zI (h9 _ hne)) | (rw [h9 _ (by decide)]) | contradiction
  rw [e, key]
theorem fl40_4 : zfl μ 40 i 4 = if μ 40 i 4 < 0 then zN else zR 41 (μ 40 i 4) := rfl
theorem ob41 {F : (Nat → ZV) → Prop} (h1 : 0 ≤ i) (h2 : i < μ 0 0 41) : zGF (HM μ) 41 i 0 F ↔ F (zfl μ 41 i) := by
  have e : HM μ 41 i = some (.inl (0, zfl μ 41 i)) := if_pos ⟨h1, h2⟩
  unfold zGF
  rw [e]
  exact ⟨fun q => q.2, fun q => ⟨rfl, q⟩⟩
theorem oc41 (h1 : 0 ≤ i) (h2 : i < μ 0 0 41) : zGO (HM μ) 41 i 0 ↔ True := by
  have e : HM μ 41 i = some (.inl (0, zfl μ 41 i)) := if_pos ⟨h1, h2⟩
  exact ⟨fun _ => trivial, fun _ => ⟨_, e⟩⟩
theorem fl41_0 : zfl μ 41 i 0 = zI (μ 41 i 0) := rfl
theorem wo41_0 (h1 : 0 ≤ i) (h2 : i < μ 0 0 41) : zset (HM μ) 41 i (.inl (0, zupN (zfl μ 41 i) 0 (zI v))) = HM (mu μ 41 i 0 v) := by
  refine HM_set (by decide) ?_
  have e : HM (mu μ 41 i 0 v) 41 i = some (.inl (0, zfl (mu μ 41 i 0 v) 41 i)) := if_pos ⟨h1, h2⟩
  have key : zfl (mu μ 41 i 0 v) 41 i = zupN (zfl μ 41 i) 0 (zI v) := by
    funext s'
    unfold zupN
    by_cases hs : s' = 0
    · subst hs
      rw [if_pos rfl]
      exact congrArg zI (mu_at _ _ _ _)
    · rw [if_neg hs]
      have hne : ((s' : Nat) : Int) ≠ 0 := by omega
      have h0 : ∀ a b, mu μ 41 i 0 v 0 a b = μ 0 a b := fun a b => mu_k (by decide)
      have h9 : ∀ j, j ≠ 0 → mu μ 41 i 0 v 41 i j = μ 41 i j := fun j h => mu_j h
      unfold zfl
      split <;> first | rfl | (simp only [h0]) | (exact congrArg zI (h9 _ hne)) | (rw [h9 _ (by decide)]) | contradiction
  rw [e, key]
theorem fl41_1 : zfl μ 41 i 1 = zI (μ 41 i 1) := rfl
theorem wo41_1 (h1 : 0 ≤ i) (h2 : i < μ 0 0 41) : zset (HM μ) 41 i (.inl (0, zupN (zfl μ 41 i) 1 (zI v))) = HM (mu μ 41 i 1 v) := by
  refine HM_set (by decide) ?_
  have e : HM (mu μ 41 i 1 v) 41 i = some (.inl (0, zfl (mu μ 41 i 1 v) 41 i)) := if_pos ⟨h1, h2⟩
  have key : zfl (mu μ 41 i 1 v) 41 i = zupN (zfl μ 41 i) 1 (zI v) := by
    funext s'
    unfold zupN
    by_cases hs : s' = 1
    · subst hs
      rw [if_pos rfl]
      exact congrArg zI (mu_at _ _ _ _)
    · rw [if_neg hs]
      have hne : ((s' : Nat) : Int) ≠ 1 := by omega
      have h0 : ∀ a b, mu μ 41 i 1 v 0 a b = μ 0 a b := fun a b => mu_k (by decide)
      have h9 : ∀ j, j ≠ 1 → mu μ 41 i 1 v 41 i j = μ 41 i j := fun j h => mu_j h
      unfold zfl
      split <;> first | rfl | (simp only [h0]) | (exact congrArg zI (h9 _ hne)) | (rw [h9 _ (by decide)]) | contradiction
  rw [e, key]
theorem fl41_2 : zfl μ 41 i 2 = zR 30 (μ 41 i 2) := rfl
theorem fl41_3 : zfl μ 41 i 3 = zR 21 (μ 41 i 3) := rfl
theorem fl41_4 : zfl μ 41 i 4 = zR 50 i := rfl
theorem ob50 {F : (Nat → ZV) → Prop} (h1 : 0 ≤ i) (h2 : i < μ 0 0 50) : zGF (HM μ) 50 i 7 F ↔ F (zfl μ 50 i) := by
  have e : HM μ 50 i = some (.inl (7, zfl μ 50 i)) := if_pos ⟨h1, h2⟩
  unfold zGF
  rw [e]
  exact ⟨fun q => q.2, fun q => ⟨rfl, q⟩⟩
theorem oc50 (h1 : 0 ≤ i) (h2 : i < μ 0 0 50) : zGO (HM μ) 50 i 7 ↔ True := by
  have e : HM μ 50 i = some (.inl (7, zfl μ 50 i)) := if_pos ⟨h1, h2⟩
  exact ⟨fun _ => trivial, fun _ => ⟨_, e⟩⟩
theorem fl50_0 : zfl μ 50 i 0 = zI (μ 50 i 0) := rfl
theorem wo50_0 (h1 : 0 ≤ i) (h2 : i < μ 0 0 50) : zset (HM μ) 50 i (.inl (7, zupN (zfl μ 50 i) 0 (zI v))) = HM (mu μ 50 i 0 v) := by
  refine HM_set (by decide) ?_
  have e : HM (mu μ 50 i 0 v) 50 i = some (.inl (7, zfl (mu μ 50 i 0 v) 50 i)) := if_pos ⟨h1, h2⟩
  have key : zfl (mu μ 50 i 0 v) 50 i = zupN (zfl μ 50 i) 0 (zI v) := by
    funext s'
    unfold zupN
    by_cases hs : s' = 0
    · subst hs
      rw [if_pos rfl]
      exact congrArg zI (mu_at _ _ _ _)
    · rw [if_neg hs]
      have hne : ((s' : Nat) : Int) ≠ 0 := by omega
      have h0 : ∀ a b, mu μ 50 i 0 v 0 a b = μ 0 a b := fun a b => mu_k (by decide)
      have h9 : ∀ j, j ≠ 0 → mu μ 50 i 0 v 50 i j = μ 50 i j := fun j h => mu_j h
      unfold zfl
      split <;> first | rfl | (simp only [h0]) | (exact congrArg zI (h9 _ hne)) | (rw [h9 _ (by decide)]) | contradiction
  rw [e, key]
theorem fl50_1 : zfl μ 50 i 1 = zI (μ 50 i 1) := rfl
theorem wo50_1 (h1 : 0 ≤ i) (h2 : i < μ 0 0 50) : zset (HM μ) 50 i (.inl (7, zupN (zfl μ 50 i) 1 (zI v))) = HM (mu μ 50 i 1 v) := by
  refine HM_set (by decide) ?_
  have e : HM (mu μ 50 i 1 v) 50 i = some (.inl (7, zfl (mu μ 50 i 1 v) 50 i)) := if_pos ⟨h1, h2⟩
  have key : zfl (mu μ 50 i 1 v) 50 i = zupN (zfl μ 50 i) 1 (zI v) := by
    funext s'
    unfold zupN
    by_cases hs : s' = 1
    · subst hs
      rw [if_pos rfl]
      exact congrArg zI (mu_at _ _ _ _)
    · rw [if_neg hs]
      have hne : ((s' : Nat) : Int) ≠ 1 := by omega
      have h0 : ∀ a b, mu μ 50 i 1 v 0 a b = μ 0 a b := fun a b => mu_k (by decide)
      have h9 : ∀ j, j ≠ 1 → mu μ 50 i 1 v 50 i j = μ 50 i j := fun j h => mu_j h
      unfold zfl
      split <;> first | rfl | (simp only [h0]) | (exact congrArg zI (h9 _ hne)) | (rw [h9 _ (by decide)]) | contradiction
  rw [e, key]
theorem fl50_2 : zfl μ 50 i 2 = zI (μ 50 i 2) := rfl
theorem wo50_2 (h1 : 0 ≤ i) (h2 : i < μ 0 0 50) : zset (HM μ) 50 i (.inl (7, zupN (zfl μ 50 i) 2 (zI v))) = HM (mu μ 50 i 2 v) := by
  refine HM_set (by decide) ?_
  have e : HM (mu μ 50 i 2 v) 50 i = some (.inl (7, zfl (mu μ 50 i 2 v) 50 i)) := if_pos ⟨h1, h2⟩
  have key : zfl (mu μ 50 i 2 v) 50 i = zupN (zfl μ 50 i) 2 (zI v) := by
    funext s'
    unfold zupN
    by_cases hs : s' = 2
    · subst hs
      rw [if_pos rfl]
      exact congrArg zI (mu_at _ _ _ _)
    · rw [if_neg hs]
      have hne : ((s' : Nat) : Int) ≠ 2 := by omega
      have h0 : ∀ a b, mu μ 50 i 2 v 0 a b = μ 0 a b := fun a b => mu_k (by decide)
      have h9 : ∀ j, j ≠ 2 → mu μ 50 i 2 v 50 i j = μ 50 i j := fun j h => mu_j h
      unfold zfl
      split <;> first | rfl | (simp only [h0]) | (exact congrArg zI (h9 _ hne)) | (rw [h9 _ (by decide)]) | contradiction
  rw [e, key]
theorem fl50_3 : zfl μ 50 i 3 = zI (μ 50 i 3) := rfl
theorem wo50_3 (h1 : 0 ≤ i) (h2 : i < μ 0 0 50) : zset (HM μ) 50 i (.inl (7, zupN (zfl μ 50 i) 3 (zI v))) = HM (mu μ 50 i 3 v) := by
  refine HM_set (by decide) ?_
  have e : HM (mu μ 50 i 3 v) 50 i = some (.inl (7, zfl (mu μ 50 i 3 v) 50 i)) := if_pos ⟨h1, h2⟩
  have key : zfl (mu μ 50 i 3 v) 50 i = zupN (zfl μ 50 i) 3 (zI v) := by
    funext s'
    unfold zupN
    by_cases hs : s' = 3
    · subst hs
      rw [if_pos rfl]
      exact congrArg zI (mu_at _ _ _ _)
    · rw [if_neg hs]
      have hne : ((s' : Nat) : Int) ≠ 3 := by omega
      have h0 : ∀ a b, mu μ 50 i 3 v 0 a b = μ 0 a b := fun a b => mu_k (by decide)
      have h9 : ∀ j, j ≠ 3 → mu μ 50 i 3 v 50 i j = μ 50 i j := fun j h => mu_j h
      unfold zfl
      split <;> first | rfl | (simp only [h0]) | (exact congrArg zI (h9 _ hne)) | (rw [h9 _ (by decide)]) | contradiction
  rw [e, key]
theorem fl50_4 : zfl μ 50 i 4 = zI (μ 50 i 4) := rfl
theorem wo50_4 (h1 : 0 ≤ i) (h2 : i < μ 0 0 50) : zset (HM μ) 50 i (.inl (7, zupN (zfl μ 50 i) 4 (zI v))) = HM (mu μ 50 i 4 v) := by
  refine HM_set (by decide) ?_
  have e : HM (mu μ 50 i 4 v) 50 i = some (.inl (7, zfl (mu μ 50 i 4 v) 50 i)) := if_pos ⟨h1, h2⟩
  have key : zfl (mu μ 50 i 4 v) 50 i = zupN (zfl μ 50 i) 4 (zI v) := by
    funext s'
    unfold zupN
    by_cases hs : s' = 4
    · subst hs
      rw [if_pos rfl]
      exact congrArg zI (mu_at _ _ _ _)
    · rw [if_neg hs]
      have hne : ((s' : Nat) : Int) ≠ 4 := by omega
      have h0 : ∀ a b, mu μ 50 i 4 v 0 a b = μ 0 a b := fun a b => mu_k (by decide)
      have h9 : ∀ j, j ≠ 4 → mu μ 50 i 4 v 50 i j = μ 50 i j := fun j h => mu_j h
      unfold zfl
      split <;> first | rfl | (simp only [h0]) | (exact congrArg zI (h9 _ hne)) | (rw [h9 _ (by decide)]) | contradiction
  rw [e, key]
theorem fl50_5 : zfl μ 50 i 5 = zI (μ 50 i 5) := rfl
theorem wo50_5 (h1 : 0 ≤ i) (h2 : i < μ 0 0 50) : zset (HM μ) 50 i (.inl (7, zupN (zfl μ 50 i) 5 (zI v))) = HM (mu μ 50 i 5 v) := by
  refine HM_set (by decide) ?_
  have e : HM (mu μ 50 i 5 v) 50 i = some (.inl (7, zfl (mu μ 50 i 5 v) 50 i)) := if_pos ⟨h1, h2⟩
  have key : zfl (mu μ 50 i 5 v) 50 i = zupN (zfl μ 50 i) 5 (zI v) := by
    funext s'
    unfold zupN
    by_cases hs : s' = 5
    · subst hs
      rw [if_pos rfl]
      exact congrArg zI (mu_at _ _ _ _)
    · rw [if_neg hs]
      have hne : ((s' : Nat) : Int) ≠ 5 := by omega
      have h0 : ∀ a b, mu μ 50 i 5 v 0 a b = μ 0 a b := fun a b => mu_k (by decide)
      have h9 : ∀ j, j ≠ 5 → mu μ 50 i 5 v 50 i j = μ 50 i j := fun j h => mu_j h
      unfold zfl
      split <;> first | rfl | (simp only [h0]) | (exact congrArg zI (h9 _ hne)) | (rw [h9 _ (by decide)]) | contradiction
  rw [e, key]
theorem fl50_6 : zfl μ 50 i 6 = zR 51 i := rfl
theorem fl50_7 : zfl μ 50 i 7 = zR 52 i := rfl
theorem fl50_8 : zfl μ 50 i 8 = zR 53 i := rfl
theorem fl50_9 : zfl μ 50 i 9 = zR 54 i := rfl
theorem fl50_10 : zfl μ 50 i 10 = zR 55 i := rfl
theorem fl50_11 : zfl μ 50 i 11 = zR 56 i := rfl
theorem ob100 {F : (Nat → ZV) → Prop} (h1 : 0 ≤ i) (h2 : i < 1) : zGF (HM μ) 100 i 9 F ↔ F (zfl μ 100 i) := by
  have e : HM μ 100 i = some (.inl (9, zfl μ 100 i)) := if_pos ⟨h1, h2⟩
  unfold zGF
  rw [e]
  exact ⟨fun q => q.2, fun q => ⟨rfl, q⟩⟩
theorem oc100 (h1 : 0 ≤ i) (h2 : i < 1) : zGO (HM μ) 100 i 9 ↔ True := by
  have e : HM μ 100 i = some (.inl (9, zfl μ 100 i)) := if_pos ⟨h1, h2⟩
  exact ⟨fun _ => trivial, fun _ => ⟨_, e⟩⟩
theorem fl100_0 : zfl μ 100 i 0 = zI (μ 100 i 0) := rfl
theorem wo100_0 (h1 : 0 ≤ i) (h2 : i < 1) : zset (HM μ) 100 i (.inl (9, zupN (zfl μ 100 i) 0 (zI v))) = HM (mu μ 100 i 0 v) := by
  refine HM_set (by decide) ?_
  have e : HM (mu μ 100 i 0 v) 100 i = some (.inl (9, zfl (mu μ 100 i 0 v) 100 i)) := if_pos ⟨h1, h2⟩
  have key : zfl (mu μ 100 i 0 v) 100 i = zupN (zfl μ 100 i) 0 (zI v) := by
    funext s'
    unfold zupN
    by_cases hs : s' = 0
    · subst hs
      rw [if_pos rfl]
      exact congrArg zI (mu_at _ _ _ _)
    · rw [if_neg hs]
      have hne : ((s' : Nat) : Int) ≠ 0 := by omega
      have h0 : ∀ a b, mu μ 100 i 0 v 0 a b = μ 0 a b := fun a b => mu_k (by decide)
      have h9 : ∀ j, j ≠ 0 → mu μ 100 i 0 v 100 i j = μ 100 i j := fun j h => mu_j h
      unfold zfl
      split <;> first | rfl | (simp only [h0]) | (exact congrArg zI (h9 _ hne)) | (rw [h9 _ (by decide)]) | contradiction
  rw [e, key]
theorem fl100_1 : zfl μ 100 i 1 = zR 102 0 := rfl
theorem fl100_2 : zfl μ 100 i 2 = zR 103 0 := rfl
theorem fl100_3 : zfl μ 100 i 3 = zR 104 0 := rfl
theorem fl100_4 : zfl μ 100 i 4 = zR 105 0 := rfl
theorem fl100_5 : zfl μ 100 i 5 = zI (μ 100 i 5) := rfl
theorem wo100_5 (h1 : 0 ≤ i) (h2 : i < 1) : zset (HM μ) 100 i (.inl (9, zupN (zfl μ 100 i) 5 (zI v))) = HM (mu μ 100 i 5 v) := by
  refine HM_set (by decide) ?_
  have e : HM (mu μ 100 i 5 v) 100 i = some (.inl (9, zfl (mu μ 100 i 5 v) 100 i)) := if_pos ⟨h1, h2⟩
  have key : zfl (mu μ 100 i 5 v) 100 i = zupN (zfl μ 100 i) 5 (zI v) := by
    funext s'
    unfold zupN
    by_cases hs : s' = 5
    · subst hs
      rw [if_pos rfl]
      exact congrArg zI (mu_at _ _ _ _)
    · rw [if_neg hs]
      have hne : ((s' : Nat) : Int) ≠ 5 := by omega
      have h0 : ∀ a b, mu μ 100 i 5 v 0 a b = μ 0 a b := fun a b => mu_k (by decide)
      have h9 : ∀ j, j ≠ 5 → mu μ 100 i 5 v 100 i j = μ 100 i j := fun j h => mu_j h
      unfold zfl
      split <;> first | rfl | (simp only [h0]) | (exact congrArg zI (h9 _ hne)) | (rw [h9 _ (by decide)]) | contradiction
  rw [e, key]
theorem fl100_6 : zfl μ 100 i 6 = zR 107 0 := rfl
theorem fl100_7 : zfl μ 100 i 7 = zR 108 0 := rfl
theorem fl100_8 : zfl μ 100 i 8 = zR 109 0 := rfl
theorem fl100_9 : zfl μ 100 i 9 = zR 110 0 := rfl
theorem fl100_10 : zfl μ 100 i 10 = zR 111 0 := rfl
theorem fl100_11 : zfl μ 100 i 11 = zR 112 0 := rfl
theorem fl100_12 : zfl μ 100 i 12 = zI (μ 100 i 12) := rfl
theorem wo100_12 (h1 : 0 ≤ i) (h2 : i < 1) : zset (HM μ) 100 i (.inl (9, zupN (zfl μ 100 i) 12 (zI v))) = HM (mu μ 100 i 12 v) := by
  refine HM_set (by decide) ?_
  have e : HM (mu μ 100 i 12 v) 100 i = some (.inl (9, zfl (mu μ 100 i 12 v) 100 i)) := if_pos ⟨h1, h2⟩
  have key : zfl (mu μ 100 i 12 v) 100 i = zupN (zfl μ 100 i) 12 (zI v) := by
    funext s'
    unfold zupN
    by_cases hs : s' = 12
    · subst hs
      rw [if_pos rfl]
      exact congrArg zI (mu_at _ _ _ _)
    · rw [if_neg hs]
      have hne : ((s' : Nat) : Int) ≠ 12 := by omega
      have h0 : ∀ a b, mu μ 100 i 12 v 0 a b = μ 0 a b := fun a b => mu_k (by decide)
      have h9 : ∀ j, j ≠ 12 → mu μ 100 i 12 v 100 i j = μ 100 i j := fun j h => mu_j h
      unfold zfl
      split <;> first | rfl | (simp only [h0]) | (exact congrArg zI (h9 _ hne)) | (rw [h9 _ (by decide)]) | contradiction
  rw [e, key]
theorem fl100_13 : zfl μ 100 i 13 = zR 114 0 := rfl
theorem fl100_14 : zfl μ 100 i 14 = zR 115 0 := rfl
theorem fl100_15 : zfl μ 100 i 15 = zR 116 0 := rfl
theorem fl100_16 : zfl μ 100 i 16 = zR 117 0 := rfl
theorem fl100_17 : zfl μ 100 i 17 = zR 118 0 := rfl
theorem fl100_18 : zfl μ 100 i 18 = zR 119 0 := rfl
theorem fl100_19 : zfl μ 100 i 19 = zR 120 0 := rfl
theorem fl100_20 : zfl μ 100 i 20 = zR 121 0 := rfl
theorem fl100_21 : zfl μ 100 i 21 = zR 122 0 := rfl
theorem fl100_22 : zfl μ 100 i 22 = zR 123 0 := rfl
theorem fl100_23 : zfl μ 100 i 23 = zR 124 0 := rfl
theorem fl100_24 : zfl μ 100 i 24 = zR 125 0 := rfl
theorem fl100_25 : zfl μ 100 i 25 = zI (μ 100 i 25) := rfl
theorem wo100_25 (h1 : 0 ≤ i) (h2 : i < 1) : zset (HM μ) 100 i (.inl (9, zupN (zfl μ 100 i) 25 (zI v))) = HM (mu μ 100 i 25 v) := by
  refine HM_set (by decide) ?_
  have e : HM (mu μ 100 i 25 v) 100 i = some (.inl (9, zfl (mu μ 100 i 25 v) 100 i)) := if_pos ⟨h1, h2⟩
  have key : zfl (mu μ 100 i 25 v) 100 i = zupN (zfl μ 100 i) 25 (zI v) := by
    funext s'
    unfold zupN
    by_cases hs : s' = 25
    · subst hs
      rw [if_pos rfl]
      exact congrArg zI (mu_at _ _ _ _)
    · rw [if_neg hs]
      have hne : ((s' : Nat) : Int) ≠ 25 := by omega
      have h0 : ∀ a b, mu μ 100 i 25 v 0 a b = μ 0 a b := fun a b => mu_k (by decide)
      have h9 : ∀ j, j ≠ 25 → mu μ 100 i 25 v 100 i j = μ 100 i j := fun j h => mu_j h
      unfold zfl
      split <;> first | rfl | (simp only [h0]) | (exact congrArg zI (h9 _ hne)) | (rw [h9 _ (by decide)]) | contradiction
  rw [e, key]
theorem fl100_26 : zfl μ 100 i 26 = zR 127 0 := rfl
theorem fl100_27 : zfl μ 100 i 27 = zR 128 0 := rfl
theorem fl100_28 : zfl μ 100 i 28 = zR 129 0 := rfl
theorem fl100_29 : zfl μ 100 i 29 = zR 130 0 := rfl
theorem fl100_30 : zfl μ 100 i 30 = zR 131 0 := rfl
theorem fl100_31 : zfl μ 100 i 31 = zI (μ 100 i 31) := rfl
theorem wo100_31 (h1 : 0 ≤ i) (h2 : i < 1) : zset (HM μ) 100 i (.inl (9, zupN (zfl μ 100 i) 31 (zI v))) = HM (mu μ 100 i 31 v) := by
  refine HM_set (by decide) ?_
  have e : HM (mu μ 100 i 31 v) 100 i = some (.inl (9, zfl (mu μ 100 i 31 v) 100 i)) := if_pos ⟨h1, h2⟩
  have key : zfl (mu μ 100 i 31 v) 100 i = zupN (zfl μ 100 i) 31 (zI v) := by
    funext s'
    unfold zupN
    by_cases hs : s' = 31
    · subst hs
      rw [if_pos rfl]
      exact congrArg zI (mu_at _ _ _ _)
    · rw [if_neg hs]
      have hne : ((s' : Nat) : Int) ≠ 31 := by omega
      have h0 : ∀ a b, mu μ 100 i 31 v 0 a b = μ 0 a b := fun a b => mu_k (by decide)
      have h9 : ∀ j, j ≠ 31 → mu μ 100 i 31 v 100 i j = μ 100 i j := fun j h => mu_j h
      unfold zfl
      split <;> first | rfl | (simp only [h0]) | (exact congrArg zI (h9 _ hne)) | (rw [h9 _ (by decide)]) | contradiction
  rw [e, key]
theorem fl100_32 : zfl μ 100 i 32 = zR 133 0 := rfl
theorem fl100_33 : zfl μ 100 i 33 = zR 134 0 := rfl
theorem fl100_34 : zfl μ 100 i 34 = zR 135 0 := rfl
theorem fl100_35 : zfl μ 100 i 35 = zR 136 0 := rfl
theorem fl100_36 : zfl μ 100 i 36 = zR 137 0 := rfl
theorem fl100_37 : zfl μ 100 i 37 = zR 138 0 := rfl
theorem fl100_38 : zfl μ 100 i 38 = zR 139 0 := rfl
theorem fl100_39 : zfl μ 100 i 39 = zR 140 0 := rfl
theorem fl100_40 : zfl μ 100 i 40 = zR 141 0 := rfl
theorem fl100_41 : zfl μ 100 i 41 = zR 142 0 := rfl
theorem fl100_42 : zfl μ 100 i 42 = zR 143 0 := rfl
theorem fl100_43 : zfl μ 100 i 43 = zR 144 0 := rfl
theorem fl100_44 : zfl μ 100 i 44 = zR 145 0 := rfl
theorem fl100_45 : zfl μ 100 i 45 = zI (μ 100 i 45) := rfl
theorem wo100_45 (h1 : 0 ≤ i) (h2 : i < 1) : zset (HM μ) 100 i (.inl (9, zupN (zfl μ 100 i) 45 (zI v))) = HM (mu μ 100 i 45 v) := by
  refine HM_set (by decide) ?_
  have e : HM (mu μ 100 i 45 v) 100 i = some (.inl (9, zfl (mu μ 100 i 45 v) 100 i)) := if_pos ⟨h1, h2⟩
  have key : zfl (mu μ 100 i 45 v) 100 i = zupN (zfl μ 100 i) 45 (zI v) := by
    funext s'
    unfold zupN
    by_cases hs : s' = 45
    · subst hs
      rw [if_pos rfl]
      exact congrArg zI (mu_at _ _ _ _)
    · rw [if_neg hs]
      have hne : ((s' : Nat) : Int) ≠ 45 := by omega
      have h0 : ∀ a b, mu μ 100 i 45 v 0 a b = μ 0 a b := fun a b => mu_k (by decide)
      have h9 : ∀ j, j ≠ 45 → mu μ 100 i 45 v 100 i j = μ 100 i j := fun j h => mu_j h
      unfold zfl
      split <;> first | rfl | (simp only [h0]) | (exact congrArg zI (h9 _ hne)) | (rw [h9 _ (by decide)]) | contradiction
  rw [e, key]
theorem fl100_46 : zfl μ 100 i 46 = zI (μ 100 i 46) := rfl
theorem wo100_46 (h1 : 0 ≤ i) (h2 : i < 1) : zset (HM μ) 100 i (.inl (9, zupN (zfl μ 100 i) 46 (zI v))) = HM (mu μ 100 i 46 v) := by
  refine HM_set (by decide) ?_
  have e : HM (mu μ 100 i 46 v) 100 i = some (.inl (9, zfl (mu μ 100 i 46 v) 100 i)) := if_pos ⟨h1, h2⟩
  have key : zfl (mu μ 100 i 46 v) 100 i = zupN (zfl μ 100 i) 46 (zI v) := by
    funext s'
    unfold zupN
    by_cases hs : s' = 46
    · subst hs
      rw [if_pos rfl]
      exact congrArg zI (mu_at _ _ _ _)
    · rw [if_neg hs]
      have hne : ((s' : Nat) : Int) ≠ 46 := by omega
      have h0 : ∀ a b, mu μ 100 i 46 v 0 a b = μ 0 a b := fun a b => mu_k (by decide)
      have h9 : ∀ j, j ≠ 46 → mu μ 100 i 46 v 100 i j = μ 100 i j := fun j h => mu_j h
      unfold zfl
      split <;> first | rfl | (simp only [h0]) | (exact congrArg zI (h9 _ hne)) | (rw [h9 _ (by decide)]) | contradiction
  rw [e, key]
theorem fl100_47 : zfl μ 100 i 47 = zI (μ 100 i 47) := rfl
theorem wo100_47 (h1 : 0 ≤ i) (h2 : i < 1) : zset (HM μ) 100 i (.inl (9, zupN (zfl μ 100 i) 47 (zI v))) = HM (mu μ 100 i 47 v) := by
  refine HM_set (by decide) ?_
  have e : HM (mu μ 100 i 47 v) 100 i = some (.inl (9, zfl (mu μ 100 i 47 v) 100 i)) := if_pos ⟨h1, h2⟩
  have key : zfl (mu μ 100 i 47 v) 100 i = zupN (zfl μ 100 i) 47 (zI v) := by
    funext s'
    unfold zupN
    by_cases hs : s' = 47
    · subst hs
      rw [if_pos rfl]
      exact congrArg zI (mu_at _ _ _ _)
    · rw [if_neg hs]
      have hne : ((s' : Nat) : Int) ≠ 47 := by omega
      have h0 : ∀ a b, mu μ 100 i 47 v 0 a b = μ 0 a b := fun a b => mu_k (by decide)
      have h9 : ∀ j, j ≠ 47 → mu μ 100 i 47 v 100 i j = μ 100 i j := fun j h => mu_j h
      unfold zfl
      split <;> first | rfl | (simp only [h0]) | (exact congrArg zI (h9 _ hne)) | (rw [h9 _ (by decide)]) | contradiction
  rw [e, key]
theorem fl100_48 : zfl μ 100 i 48 = zI (μ 100 i 48) := rfl
theorem wo100_48 (h1 : 0 ≤ i) (h2 : i < 1) : zset (HM μ) 100 i (.inl (9, zupN (zfl μ 100 i) 48 (zI v))) = HM (mu μ 100 i 48 v) := by
  refine HM_set (by decide) ?_
  have e : HM (mu μ 100 i 48 v) 100 i = some (.inl (9, zfl (mu μ 100 i 48 v) 100 i)) := if_pos ⟨h1, h2⟩
  have key : zfl (mu μ 100 i 48 v) 100 i = zupN (zfl μ 100 i) 48 (zI v) := by
    funext s'
    unfold zupN
    by_cases hs : s' = 48
    · subst hs
      rw [if_pos rfl]
      exact congrArg zI (mu_at _ _ _ _)
    · rw [if_neg hs]
      have hne : ((s' : Nat) : Int) ≠ 48 := by omega
      have h0 : ∀ a b, mu μ 100 i 48 v 0 a b = μ 0 a b := fun a b => mu_k (by decide)
      have h9 : ∀ j, j ≠ 48 → mu μ 100 i 48 v 100 i j = μ 100 i j := fun j h => mu_j h
      unfold zfl
      split <;> first | rfl | (simp only [h0]) | (exact congrArg zI (h9 _ hne)) | (rw [h9 _ (by decide)]) | contradiction
  rw [e, key]
theorem fl100_49 : zfl μ 100 i 49 = zI (μ 100 i 49) := rfl
theorem wo100_49 (h1 : 0 ≤ i) (h2 : i < 1) : zset (HM μ) 100 i (.inl (9, zupN (zfl μ 100 i) 49 (zI v))) = HM (mu μ 100 i 49 v) := by
  refine HM_set (by decide) ?_
  have e : HM (mu μ 100 i 49 v) 100 i = some (.inl (9, zfl (mu μ 100 i 49 v) 100 i)) := if_pos ⟨h1, h2⟩
  have key : zfl (mu μ 100 i 49 v) 100 i = zupN (zfl μ 100 i) 49 (zI v) := by
    funext s'
    unfold zupN
    by_cases hs : s' = 49
    · subst hs
      rw [if_pos rfl]
      exact congrArg zI (mu_at _ _ _ _)
    · rw [if_neg hs]
      have hne : ((s' : Nat) : Int) ≠ 49 := by omega
      have h0 : ∀ a b, mu μ 100 i 49 v 0 a b = μ 0 a b := fun a b => mu_k (by decide)
      have h9 : ∀ j, j ≠ 49 → mu μ 100 i 49 v 100 i j = μ 100 i j := fun j h => mu_j h
      unfold zfl
      split <;> first | rfl | (simp only [h0]) | (exact congrArg zI (h9 _ hne)) | (rw [h9 _ (by decide)]) | contradiction
  rw [e, key]
theorem fl100_50 : zfl μ 100 i 50 = zR 151 0 := rfl
theorem fl100_51 : zfl μ 100 i 51 = zR 152 0 := rfl
theorem fl100_52 : zfl μ 100 i 52 = zR 153 0 := rfl
theorem fl100_53 : zfl μ 100 i 53 = zR 154 0 := rfl
theorem fl100_54 : zfl μ 100 i 54 = zR 155 0 := rfl
theorem fl100_55 : zfl μ 100 i 55 = zI (μ 100 i 55) := rfl
theorem wo100_55 (h1 : 0 ≤ i) (h2 : i < 1) : zset (HM μ) 100 i (.inl (9, zupN (zfl μ 100 i) 55 (zI v))) = HM (mu μ 100 i 55 v) := by
  refine HM_set (by decide) ?_
  have e : HM (mu μ 100 i 55 v) 100 i = some (.inl (9, zfl (mu μ 100 i 55 v) 100 i)) := if_pos ⟨h1, h2⟩
  have key : zfl (mu μ 100 i 55 v) 100 i = zupN (zfl μ 100 i) 55 (zI v) := by
    funext s'
    unfold zupN
    by_cases hs : s' = 55
    · subst hs
      rw [if_pos rfl]
      exact congrArg zI (mu_at _ _ _ _)
    · rw [if_neg hs]
      have hne : ((s' : Nat) : Int) ≠ 55 := by omega
      have h0 : ∀ a b, mu μ 100 i 55 v 0 a b = μ 0 a b := fun a b => mu_k (by decide)
      have h9 : ∀ j, j ≠ 55 → mu μ 100 i 55 v 100 i j = μ 100 i j := fun j h => mu_j h
      unfold zfl
      split <;> first | rfl | (simp only [h0]) | (exact congrArg zI (h9 _ hne)) | (rw [h9 _ (by decide)]) | contradiction
  rw [e, key]
end ZHM
