/-! ===== a memory of ints, and its heap ===== -/
abbrev ZU : Type := Nat → Int → Int → Int
def mu (μ : ZU) (k : Nat) (i j v : Int) : ZU := fun k' i' j' => if k' = k ∧ i' = i ∧ j' = j then v else μ k' i' j'
def zbd (μ : ZU) (c : Nat) : Int := match c with
  | 0 => 1
  | c + 1 => μ 0 0 (c + 1 : Nat)
def zkl {α : Type} : List (Nat × α) → Nat → Option α
  | [], _ => none
  | (p, x) :: r, k => match Nat.beq p k with
    | true => some x
    | false => zkl r k
def zKA : List (Nat × FieldType × Nat × Nat) := [(7, (.int, 4, 0)), (12, (.int, 10, 10)), (13, (.int, 10, 10)), (14, (.int, 10, 10)), (22, (.int, 10, 20)), (23, (.int, 10, 20)), (24, (.int, 10, 20)), (31, (.int, 4, 30)), (32, (.int, 12, 30)), (33, (.int, 60, 30)), (34, (.long, 60, 30)), (35, (.int, 60, 30)), (51, (.int, 60, 50)), (52, (.int, 60, 50)), (53, (.int, 60, 50)), (54, (.int, 60, 50)), (55, (.int, 60, 50)), (56, (.int, 60, 50)), (61, (.int, 60, 0)), (62, (.int, 60, 0)), (63, (.int, 60, 0)), (64, (.int, 61, 0)), (65, (.int, 60, 0)), (66, (.int, 12, 0)), (101, (.long, 60, 0)), (102, (.int, 7, 0)), (103, (.int, 52, 0)), (104, (.long, 40, 0)), (105, (.int, 11, 0)), (106, (.int, 19, 0)), (107, (.int, 5, 0)), (108, (.int, 41, 0)), (109, (.int, 41, 0)), (110, (.int, 40, 0)), (111, (.int, 6, 0)), (112, (.long, 60, 0)), (113, (.int, 41, 113)), (114, (.int, 41, 113)), (115, (.int, 3, 115))]
def zKO : List (Nat × Nat × Nat) := [(2, (8, 0)), (8, (6, 0)), (10, (5, 10)), (11, (2, 10)), (20, (3, 20)), (21, (2, 20)), (30, (1, 30)), (40, (4, 40)), (41, (0, 41)), (50, (7, 50))]
def zKB : List (Nat × Nat × Nat × Nat) := [(3, (5, 24, 10)), (4, (3, 12, 20)), (5, (1, 6, 30)), (6, (4, 40, 40))]
def zel (t : FieldType) (v : Int) : ZV := match t with
  | .long => zL (Int64.ofInt v)
  | _ => zI v
def zfl (μ : ZU) (k : Nat) (i : Int) (s : Nat) : ZV := match k, s with
  | 2, 0 => zR 3 0
  | 2, 1 => zR 4 0
  | 2, 2 => zR 5 0
  | 2, 3 => zR 6 0
  | 2, 4 => zR 7 0
  | 2, 5 => zR 8 0
  | 8, 0 => zR 50 (μ 0 0 50 - 1)
  | 8, 1 => zR 61 0
  | 8, 2 => zR 62 0
  | 8, 3 => zR 63 0
  | 8, 4 => zR 64 0
  | 8, 5 => zR 65 0
  | 8, 6 => zR 66 0
  | 10, 0 => zR 11 i
  | 11, 0 => zR 12 i
  | 11, 1 => zR 13 i
  | 11, 2 => zR 14 i
  | 20, 1 => zR 26 (μ 20 i 1)
  | 20, 2 => zR 21 i
  | 21, 0 => zR 22 i
  | 21, 1 => zR 23 i
  | 21, 2 => zR 24 i
  | 30, 2 => zR 31 i
  | 30, 3 => zR 32 i
  | 30, 4 => zR 33 i
  | 30, 5 => zR 34 i
  | 30, 6 => zR 35 i
  | 40, 0 => zR 30 (μ 40 i 0)
  | 40, 1 => zR 20 (μ 40 i 1)
  | 40, 4 => if μ 40 i 4 < 0 then zN else zR 41 (μ 40 i 4)
  | 41, 2 => zR 30 (μ 41 i 2)
  | 41, 3 => zR 21 (μ 41 i 3)
  | 41, 4 => zR 50 i
  | 50, 6 => zR 51 i
  | 50, 7 => zR 52 i
  | 50, 8 => zR 53 i
  | 50, 9 => zR 54 i
  | 50, 10 => zR 55 i
  | 50, 11 => zR 56 i
  | k, s => zI (μ k i s)
/-- an array of objects, null from the count on -/
def zoA (e : Nat) (c : Int) : Int → ZV := fun j => if 0 ≤ j ∧ j < c then zR e j else zN
theorem zoA_at {e : Nat} {c j : Int} (h : 0 ≤ j) : zoA e c j = if j < c then zR e j else zN := by
  unfold zoA
  by_cases h2 : j < c
  · rw [if_pos ⟨h, h2⟩, if_pos h2]
  · rw [if_neg (fun z => h2 z.2), if_neg h2]
theorem zoA_0 {e : Nat} : zoA e 0 = fun _ => zN := by
  funext j
  exact if_neg fun z => by omega
theorem zoA_s {e : Nat} {n : Int} (h : 0 ≤ n) : zup (zoA e n) n (zR e n) = zoA e (n + 1) := by
  funext j
  unfold zup zoA
  by_cases h1 : j = n
  · rw [if_pos h1, if_pos (by omega), h1]
  · by_cases h2 : 0 ≤ j ∧ j < n
    · rw [if_neg h1, if_pos h2, if_pos (by omega)]
    · rw [if_neg h1, if_neg h2, if_neg (by omega)]
def HM (μ : ZU) : ZH := fun k i => match zkl zKA k with
  | some (t, n, c) => if 0 ≤ i ∧ i < zbd μ c then some (.inr (t, n, fun j => zel t (μ k i j))) else none
  | none => match zkl zKO k with
    | some (c, n) => if 0 ≤ i ∧ i < zbd μ n then some (.inl (c, zfl μ k i)) else none
    | none => match zkl zKB k with
      | some (c, n, e) => if 0 ≤ i ∧ i < 1 then some (.inr (.object (zcn c), n, zoA e (μ 0 0 e))) else none
      | none => match k with
        | 1 => if 0 ≤ i ∧ i < 1 then some (.inr (.int, (μ 0 2 0).toNat, fun j => zI (μ 1 0 j))) else none
        | 26 => if 0 ≤ i ∧ i < μ 0 0 26 then some (.inr (.int, (μ 0 1 i).toNat, fun j => zI (μ 26 i j))) else none
        | _ => none
def zro (μ : ZU) (k : Nat) (i : Int) : Int → ZV := fun j => zI (μ k i j)
def zrl (μ : ZU) (k : Nat) (i : Int) : Int → ZV := fun j => zL (Int64.ofInt (μ k i j))
section ZHM
variable {μ ν : ZU} {k : Nat} {i j v : Int}
theorem mu_at (k : Nat) (i j v : Int) : mu μ k i j v k i j = v := if_pos ⟨rfl, rfl, rfl⟩
theorem mu_k {k' : Nat} {i' j' : Int} (h : k' ≠ k) : mu μ k i j v k' i' j' = μ k' i' j' := if_neg fun z => h z.1
theorem mu_i {k' : Nat} {i' j' : Int} (h : i' ≠ i) : mu μ k i j v k' i' j' = μ k' i' j' := if_neg fun z => h z.2.1
theorem mu_j {k' : Nat} {i' j' : Int} (h : j' ≠ j) : mu μ k i j v k' i' j' = μ k' i' j' := if_neg fun z => h z.2.2
theorem zro_at : zro μ k i j = zI (μ k i j) := rfl
theorem zrl_at : zrl μ k i j = zL (Int64.ofInt (μ k i j)) := rfl
theorem zup_mu : (fun j' => zI (mu μ k i j v k i j')) = zup (fun j => zI (μ k i j)) j (zI v) := by
  funext j'
  unfold zup mu
  by_cases hj : j' = j
  · rw [if_pos ⟨rfl, rfl, hj⟩, if_pos hj]
  · rw [if_neg (fun z => hj z.2.2), if_neg hj]
theorem zup_muL {y : Int64} : (fun j' => zL (Int64.ofInt (mu μ k i j y.toInt k i j'))) = zup (fun j => zL (Int64.ofInt (μ k i j))) j (zL y) := by
  funext j'
  unfold zup mu
  by_cases hj : j' = j
  · rw [if_pos ⟨rfl, rfl, hj⟩, if_pos hj, Int64.ofInt_toInt]
  · rw [if_neg (fun z => hj z.2.2), if_neg hj]
theorem zup_muV : (fun j' => zL (Int64.ofInt (mu μ k i j v k i j'))) = zup (fun j => zL (Int64.ofInt (μ k i j))) j (zL (Int64.ofInt v)) := by
  funext j'
  unfold zup mu
  by_cases hj : j' = j
  · rw [if_pos ⟨rfl, rfl, hj⟩, if_pos hj]
  · rw [if_neg (fun z => hj z.2.2), if_neg hj]
theorem zbd_congr (h : ∀ a b, μ 0 a b = ν 0 a b) (c : Nat) : zbd μ c = zbd ν c := by
  match c with
  | 0 => rfl
  | c + 1 => exact h _ _
theorem zfl_congr (h : ∀ a b, μ 0 a b = ν 0 a b) (h2 : ∀ j, μ k i j = ν k i j) : zfl μ k i = zfl ν k i := by
  funext s
  unfold zfl
  split <;> simp only [h, h2]
theorem HM_congr (h : ∀ a b, μ 0 a b = ν 0 a b) (h2 : ∀ j, μ k i j = ν k i j) : HM μ k i = HM ν k i := by
  unfold HM
  split
  · simp only [zbd_congr h, h2]
  · split
    · simp only [zbd_congr h, zfl_congr h h2]
    · split
      · simp only [h]
      · split
        · by_cases hi : 0 ≤ i ∧ i < 1
          · have e : i = 0 := by omega
            subst e
            simp only [h, h2]
          · rw [if_neg hi, if_neg hi]
        · simp only [h, h2]
        · rfl
theorem HM_set {e : ZE} (hk : k ≠ 0) (h : HM (mu μ k i j v) k i = some e) : zset (HM μ) k i e = HM (mu μ k i j v) := by
  funext k' i'
  unfold zset
  split
  · rename_i h2
    obtain ⟨rfl, rfl⟩ := h2
    exact h.symm
  · rename_i h2
    refine HM_congr (fun a b => (mu_k (fun z => hk z.symm)).symm) (fun j' => ?_)
    refine (if_neg fun z => h2 ⟨z.1, z.2.1⟩).symm
theorem HM_eq (h : ∀ k i j, μ k i j = ν k i j) : HM μ = HM ν := by
  have : μ = ν := by funext k i j; exact h k i j
  rw [this]
theorem rd7 {F : Nat → (Int → ZV) → Prop} (h1 : 0 ≤ i) (h2 : i < 1) : zAR (HM μ) 7 i .int F ↔ F 4 (zro μ 7 i) := by
  have e : HM μ 7 i = some (.inr (.int, 4, zro μ 7 i)) := if_pos ⟨h1, h2⟩
  unfold zAR
  rw [e]
  exact ⟨fun q => q.2, fun q => ⟨rfl, q⟩⟩
theorem wr7 (h1 : 0 ≤ i) (h2 : i < 1) : zset (HM μ) 7 i (.inr (.int, 4, zup (zro μ 7 i) j (zI v))) = HM (mu μ 7 i j v) := by
  refine HM_set (by decide) ?_
  have e : HM (mu μ 7 i j v) 7 i = some (.inr (.int, 4, zro (mu μ 7 i j v) 7 i)) := if_pos ⟨h1, h2⟩
  rw [e]
  exact congrArg (fun f : Int → ZV => (some (Sum.inr (FieldType.int, 4, f)) : Option ZE)) zup_mu
theorem rd12 {F : Nat → (Int → ZV) → Prop} (h1 : 0 ≤ i) (h2 : i < μ 0 0 10) : zAR (HM μ) 12 i .int F ↔ F 10 (zro μ 12 i) := by
  have e : HM μ 12 i = some (.inr (.int, 10, zro μ 12 i)) := if_pos ⟨h1, h2⟩
  unfold zAR
  rw [e]
  exact ⟨fun q => q.2, fun q => ⟨rfl, q⟩⟩
theorem wr12 (h1 : 0 ≤ i) (h2 : i < μ 0 0 10) : zset (HM μ) 12 i (.inr (.int, 10, zup (zro μ 12 i) j (zI v))) = HM (mu μ 12 i j v) := by
  refine HM_set (by decide) ?_
  have e : HM (mu μ 12 i j v) 12 i = some (.inr (.int, 10, zro (mu μ 12 i j v) 12 i)) := if_pos ⟨h1, h2⟩
  rw [e]
  exact congrArg (fun f : Int → ZV => (some (Sum.inr (FieldType.int, 10, f)) : Option ZE)) zup_mu
theorem rd13 {F : Nat → (Int → ZV) → Prop} (h1 : 0 ≤ i) (h2 : i < μ 0 0 10) : zAR (HM μ) 13 i .int F ↔ F 10 (zro μ 13 i) := by
  have e : HM μ 13 i = some (.inr (.int, 10, zro μ 13 i)) := if_pos ⟨h1, h2⟩
  unfold zAR
  rw [e]
  exact ⟨fun q => q.2, fun q => ⟨rfl, q⟩⟩
theorem wr13 (h1 : 0 ≤ i) (h2 : i < μ 0 0 10) : zset (HM μ) 13 i (.inr (.int, 10, zup (zro μ 13 i) j (zI v))) = HM (mu μ 13 i j v) := by
  refine HM_set (by decide) ?_
  have e : HM (mu μ 13 i j v) 13 i = some (.inr (.int, 10, zro (mu μ 13 i j v) 13 i)) := if_pos ⟨h1, h2⟩
  rw [e]
  exact congrArg (fun f : Int → ZV => (some (Sum.inr (FieldType.int, 10, f)) : Option ZE)) zup_mu
theorem rd14 {F : Nat → (Int → ZV) → Prop} (h1 : 0 ≤ i) (h2 : i < μ 0 0 10) : zAR (HM μ) 14 i .int F ↔ F 10 (zro μ 14 i) := by
  have e : HM μ 14 i = some (.inr (.int, 10, zro μ 14 i)) := if_pos ⟨h1, h2⟩
  unfold zAR
  rw [e]
  exact ⟨fun q => q.2, fun q => ⟨rfl, q⟩⟩
theorem wr14 (h1 : 0 ≤ i) (h2 : i < μ 0 0 10) : zset (HM μ) 14 i (.inr (.int, 10, zup (zro μ 14 i) j (zI v))) = HM (mu μ 14 i j v) := by
  refine HM_set (by decide) ?_
  have e : HM (mu μ 14 i j v) 14 i = some (.inr (.int, 10, zro (mu μ 14 i j v) 14 i)) := if_pos ⟨h1, h2⟩
  rw [e]
  exact congrArg (fun f : Int → ZV => (some (Sum.inr (FieldType.int, 10, f)) : Option ZE)) zup_mu
theorem rd22 {F : Nat → (Int → ZV) → Prop} (h1 : 0 ≤ i) (h2 : i < μ 0 0 20) : zAR (HM μ) 22 i .int F ↔ F 10 (zro μ 22 i) := by
  have e : HM μ 22 i = some (.inr (.int, 10, zro μ 22 i)) := if_pos ⟨h1, h2⟩
  unfold zAR
  rw [e]
  exact ⟨fun q => q.2, fun q => ⟨rfl, q⟩⟩
theorem wr22 (h1 : 0 ≤ i) (h2 : i < μ 0 0 20) : zset (HM μ) 22 i (.inr (.int, 10, zup (zro μ 22 i) j (zI v))) = HM (mu μ 22 i j v) := by
  refine HM_set (by decide) ?_
  have e : HM (mu μ 22 i j v) 22 i = some (.inr (.int, 10, zro (mu μ 22 i j v) 22 i)) := if_pos ⟨h1, h2⟩
  rw [e]
  exact congrArg (fun f : Int → ZV => (some (Sum.inr (FieldType.int, 10, f)) : Option ZE)) zup_mu
theorem rd23 {F : Nat → (Int → ZV) → Prop} (h1 : 0 ≤ i) (h2 : i < μ 0 0 20) : zAR (HM μ) 23 i .int F ↔ F 10 (zro μ 23 i) := by
  have e : HM μ 23 i = some (.inr (.int, 10, zro μ 23 i)) := if_pos ⟨h1, h2⟩
  unfold zAR
  rw [e]
  exact ⟨fun q => q.2, fun q => ⟨rfl, q⟩⟩
theorem wr23 (h1 : 0 ≤ i) (h2 : i < μ 0 0 20) : zset (HM μ) 23 i (.inr (.int, 10, zup (zro μ 23 i) j (zI v))) = HM (mu μ 23 i j v) := by
  refine HM_set (by decide) ?_
  have e : HM (mu μ 23 i j v) 23 i = some (.inr (.int, 10, zro (mu μ 23 i j v) 23 i)) := if_pos ⟨h1, h2⟩
  rw [e]
  exact congrArg (fun f : Int → ZV => (some (Sum.inr (FieldType.int, 10, f)) : Option ZE)) zup_mu
theorem rd24 {F : Nat → (Int → ZV) → Prop} (h1 : 0 ≤ i) (h2 : i < μ 0 0 20) : zAR (HM μ) 24 i .int F ↔ F 10 (zro μ 24 i) := by
  have e : HM μ 24 i = some (.inr (.int, 10, zro μ 24 i)) := if_pos ⟨h1, h2⟩
  unfold zAR
  rw [e]
  exact ⟨fun q => q.2, fun q => ⟨rfl, q⟩⟩
theorem wr24 (h1 : 0 ≤ i) (h2 : i < μ 0 0 20) : zset (HM μ) 24 i (.inr (.int, 10, zup (zro μ 24 i) j (zI v))) = HM (mu μ 24 i j v) := by
  refine HM_set (by decide) ?_
  have e : HM (mu μ 24 i j v) 24 i = some (.inr (.int, 10, zro (mu μ 24 i j v) 24 i)) := if_pos ⟨h1, h2⟩
  rw [e]
  exact congrArg (fun f : Int → ZV => (some (Sum.inr (FieldType.int, 10, f)) : Option ZE)) zup_mu
theorem rd31 {F : Nat → (Int → ZV) → Prop} (h1 : 0 ≤ i) (h2 : i < μ 0 0 30) : zAR (HM μ) 31 i .int F ↔ F 4 (zro μ 31 i) := by
  have e : HM μ 31 i = some (.inr (.int, 4, zro μ 31 i)) := if_pos ⟨h1, h2⟩
  unfold zAR
  rw [e]
  exact ⟨fun q => q.2, fun q => ⟨rfl, q⟩⟩
theorem wr31 (h1 : 0 ≤ i) (h2 : i < μ 0 0 30) : zset (HM μ) 31 i (.inr (.int, 4, zup (zro μ 31 i) j (zI v))) = HM (mu μ 31 i j v) := by
  refine HM_set (by decide) ?_
  have e : HM (mu μ 31 i j v) 31 i = some (.inr (.int, 4, zro (mu μ 31 i j v) 31 i)) := if_pos ⟨h1, h2⟩
  rw [e]
  exact congrArg (fun f : Int → ZV => (some (Sum.inr (FieldType.int, 4, f)) : Option ZE)) zup_mu
theorem rd32 {F : Nat → (Int → ZV) → Prop} (h1 : 0 ≤ i) (h2 : i < μ 0 0 30) : zAR (HM μ) 32 i .int F ↔ F 12 (zro μ 32 i) := by
  have e : HM μ 32 i = some (.inr (.int, 12, zro μ 32 i)) := if_pos ⟨h1, h2⟩
  unfold zAR
  rw [e]
  exact ⟨fun q => q.2, fun q => ⟨rfl, q⟩⟩
theorem wr32 (h1 : 0 ≤ i) (h2 : i < μ 0 0 30) : zset (HM μ) 32 i (.inr (.int, 12, zup (zro μ 32 i) j (zI v))) = HM (mu μ 32 i j v) := by
  refine HM_set (by decide) ?_
  have e : HM (mu μ 32 i j v) 32 i = some (.inr (.int, 12, zro (mu μ 32 i j v) 32 i)) := if_pos ⟨h1, h2⟩
  rw [e]
  exact congrArg (fun f : Int → ZV => (some (Sum.inr (FieldType.int, 12, f)) : Option ZE)) zup_mu
theorem rd33 {F : Nat → (Int → ZV) → Prop} (h1 : 0 ≤ i) (h2 : i < μ 0 0 30) : zAR (HM μ) 33 i .int F ↔ F 60 (zro μ 33 i) := by
  have e : HM μ 33 i = some (.inr (.int, 60, zro μ 33 i)) := if_pos ⟨h1, h2⟩
  unfold zAR
  rw [e]
  exact ⟨fun q => q.2, fun q => ⟨rfl, q⟩⟩
theorem wr33 (h1 : 0 ≤ i) (h2 : i < μ 0 0 30) : zset (HM μ) 33 i (.inr (.int, 60, zup (zro μ 33 i) j (zI v))) = HM (mu μ 33 i j v) := by
  refine HM_set (by decide) ?_
  have e : HM (mu μ 33 i j v) 33 i = some (.inr (.int, 60, zro (mu μ 33 i j v) 33 i)) := if_pos ⟨h1, h2⟩
  rw [e]
  exact congrArg (fun f : Int → ZV => (some (Sum.inr (FieldType.int, 60, f)) : Option ZE)) zup_mu
theorem rd34 {F : Nat → (Int → ZV) → Prop} (h1 : 0 ≤ i) (h2 : i < μ 0 0 30) : zAR (HM μ) 34 i .long F ↔ F 60 (zrl μ 34 i) := by
  have e : HM μ 34 i = some (.inr (.long, 60, zrl μ 34 i)) := if_pos ⟨h1, h2⟩
  unfold zAR
  rw [e]
  exact ⟨fun q => q.2, fun q => ⟨rfl, q⟩⟩
theorem wr34 {y : Int64} (h1 : 0 ≤ i) (h2 : i < μ 0 0 30) : zset (HM μ) 34 i (.inr (.long, 60, zup (zrl μ 34 i) j (zL y))) = HM (mu μ 34 i j y.toInt) := by
  refine HM_set (by decide) ?_
  have e : HM (mu μ 34 i j y.toInt) 34 i = some (.inr (.long, 60, zrl (mu μ 34 i j y.toInt) 34 i)) := if_pos ⟨h1, h2⟩
  rw [e]
  exact congrArg (fun f : Int → ZV => (some (Sum.inr (FieldType.long, 60, f)) : Option ZE)) zup_muL
theorem rd35 {F : Nat → (Int → ZV) → Prop} (h1 : 0 ≤ i) (h2 : i < μ 0 0 30) : zAR (HM μ) 35 i .int F ↔ F 60 (zro μ 35 i) := by
  have e : HM μ 35 i = some (.inr (.int, 60, zro μ 35 i)) := if_pos ⟨h1, h2⟩
  unfold zAR
  rw [e]
  exact ⟨fun q => q.2, fun q => ⟨rfl, q⟩⟩
theorem wr35 (h1 : 0 ≤ i) (h2 : i < μ 0 0 30) : zset (HM μ) 35 i (.inr (.int, 60, zup (zro μ 35 i) j (zI v))) = HM (mu μ 35 i j v) := by
  refine HM_set (by decide) ?_
  have e : HM (mu μ 35 i j v) 35 i = some (.inr (.int, 60, zro (mu μ 35 i j v) 35 i)) := if_pos ⟨h1, h2⟩
  rw [e]
  exact congrArg (fun f : Int → ZV => (some (Sum.inr (FieldType.int, 60, f)) : Option ZE)) zup_mu
theorem rd51 {F : Nat → (Int → ZV) → Prop} (h1 : 0 ≤ i) (h2 : i < μ 0 0 50) : zAR (HM μ) 51 i .int F ↔ F 60 (zro μ 51 i) := by
  have e : HM μ 51 i = some (.inr (.int, 60, zro μ 51 i)) := if_pos ⟨h1, h2⟩
  unfold zAR
  rw [e]
  exact ⟨fun q => q.2, fun q => ⟨rfl, q⟩⟩
theorem wr51 (h1 : 0 ≤ i) (h2 : i < μ 0 0 50) : zset (HM μ) 51 i (.inr (.int, 60, zup (zro μ 51 i) j (zI v))) = HM (mu μ 51 i j v) := by
  refine HM_set (by decide) ?_
  have e : HM (mu μ 51 i j v) 51 i = some (.inr (.int, 60, zro (mu μ 51 i j v) 51 i)) := if_pos ⟨h1, h2⟩
  rw [e]
  exact congrArg (fun f : Int → ZV => (some (Sum.inr (FieldType.int, 60, f)) : Option ZE)) zup_mu
theorem rd52 {F : Nat → (Int → ZV) → Prop} (h1 : 0 ≤ i) (h2 : i < μ 0 0 50) : zAR (HM μ) 52 i .int F ↔ F 60 (zro μ 52 i) := by
  have e : HM μ 52 i = some (.inr (.int, 60, zro μ 52 i)) := if_pos ⟨h1, h2⟩
  unfold zAR
  rw [e]
  exact ⟨fun q => q.2, fun q => ⟨rfl, q⟩⟩
theorem wr52 (h1 : 0 ≤ i) (h2 : i < μ 0 0 50) : zset (HM μ) 52 i (.inr (.int, 60, zup (zro μ 52 i) j (zI v))) = HM (mu μ 52 i j v) := by
  refine HM_set (by decide) ?_
  have e : HM (mu μ 52 i j v) 52 i = some (.inr (.int, 60, zro (mu μ 52 i j v) 52 i)) := if_pos ⟨h1, h2⟩
  rw [e]
  exact congrArg (fun f : Int → ZV => (some (Sum.inr (FieldType.int, 60, f)) : Option ZE)) zup_mu
theorem rd53 {F : Nat → (Int → ZV) → Prop} (h1 : 0 ≤ i) (h2 : i < μ 0 0 50) : zAR (HM μ) 53 i .int F ↔ F 60 (zro μ 53 i) := by
  have e : HM μ 53 i = some (.inr (.int, 60, zro μ 53 i)) := if_pos ⟨h1, h2⟩
  unfold zAR
  rw [e]
  exact ⟨fun q => q.2, fun q => ⟨rfl, q⟩⟩
theorem wr53 (h1 : 0 ≤ i) (h2 : i < μ 0 0 50) : zset (HM μ) 53 i (.inr (.int, 60, zup (zro μ 53 i) j (zI v))) = HM (mu μ 53 i j v) := by
  refine HM_set (by decide) ?_
  have e : HM (mu μ 53 i j v) 53 i = some (.inr (.int, 60, zro (mu μ 53 i j v) 53 i)) := if_pos ⟨h1, h2⟩
  rw [e]
  exact congrArg (fun f : Int → ZV => (some (Sum.inr (FieldType.int, 60, f)) : Option ZE)) zup_mu
theorem rd54 {F : Nat → (Int → ZV) → Prop} (h1 : 0 ≤ i) (h2 : i < μ 0 0 50) : zAR (HM μ) 54 i .int F ↔ F 60 (zro μ 54 i) := by
  have e : HM μ 54 i = some (.inr (.int, 60, zro μ 54 i)) := if_pos ⟨h1, h2⟩
  unfold zAR
  rw [e]
  exact ⟨fun q => q.2, fun q => ⟨rfl, q⟩⟩
theorem wr54 (h1 : 0 ≤ i) (h2 : i < μ 0 0 50) : zset (HM μ) 54 i (.inr (.int, 60, zup (zro μ 54 i) j (zI v))) = HM (mu μ 54 i j v) := by
  refine HM_set (by decide) ?_
  have e : HM (mu μ 54 i j v) 54 i = some (.inr (.int, 60, zro (mu μ 54 i j v) 54 i)) := if_pos ⟨h1, h2⟩
  rw [e]
  exact congrArg (fun f : Int → ZV => (some (Sum.inr (FieldType.int, 60, f)) : Option ZE)) zup_mu
theorem rd55 {F : Nat → (Int → ZV) → Prop} (h1 : 0 ≤ i) (h2 : i < μ 0 0 50) : zAR (HM μ) 55 i .int F ↔ F 60 (zro μ 55 i) := by
  have e : HM μ 55 i = some (.inr (.int, 60, zro μ 55 i)) := if_pos ⟨h1, h2⟩
  unfold zAR
  rw [e]
  exact ⟨fun q => q.2, fun q => ⟨rfl, q⟩⟩
theorem wr55 (h1 : 0 ≤ i) (h2 : i < μ 0 0 50) : zset (HM μ) 55 i (.inr (.int, 60, zup (zro μ 55 i) j (zI v))) = HM (mu μ 55 i j v) := by
  refine HM_set (by decide) ?_
  have e : HM (mu μ 55 i j v) 55 i = some (.inr (.int, 60, zro (mu μ 55 i j v) 55 i)) := if_pos ⟨h1, h2⟩
  rw [e]
  exact congrArg (fun f : Int → ZV => (some (Sum.inr (FieldType.int, 60, f)) : Option ZE)) zup_mu
theorem rd56 {F : Nat → (Int → ZV) → Prop} (h1 : 0 ≤ i) (h2 : i < μ 0 0 50) : zAR (HM μ) 56 i .int F ↔ F 60 (zro μ 56 i) := by
  have e : HM μ 56 i = some (.inr (.int, 60, zro μ 56 i)) := if_pos ⟨h1, h2⟩
  unfold zAR
  rw [e]
  exact ⟨fun q => q.2, fun q => ⟨rfl, q⟩⟩
theorem wr56 (h1 : 0 ≤ i) (h2 : i < μ 0 0 50) : zset (HM μ) 56 i (.inr (.int, 60, zup (zro μ 56 i) j (zI v))) = HM (mu μ 56 i j v) := by
  refine HM_set (by decide) ?_
  have e : HM (mu μ 56 i j v) 56 i = some (.inr (.int, 60, zro (mu μ 56 i j v) 56 i)) := if_pos ⟨h1, h2⟩
  rw [e]
  exact congrArg (fun f : Int → ZV => (some (Sum.inr (FieldType.int, 60, f)) : Option ZE)) zup_mu
theorem rd61 {F : Nat → (Int → ZV) → Prop} (h1 : 0 ≤ i) (h2 : i < 1) : zAR (HM μ) 61 i .int F ↔ F 60 (zro μ 61 i) := by
  have e : HM μ 61 i = some (.inr (.int, 60, zro μ 61 i)) := if_pos ⟨h1, h2⟩
  unfold zAR
  rw [e]
  exact ⟨fun q => q.2, fun q => ⟨rfl, q⟩⟩
theorem wr61 (h1 : 0 ≤ i) (h2 : i < 1) : zset (HM μ) 61 i (.inr (.int, 60, zup (zro μ 61 i) j (zI v))) = HM (mu μ 61 i j v) := by
  refine HM_set (by decide) ?_
  have e : HM (mu μ 61 i j v) 61 i = some (.inr (.int, 60, zro (mu μ 61 i j v) 61 i)) := if_pos ⟨h1, h2⟩
  rw [e]
  exact congrArg (fun f : Int → ZV => (some (Sum.inr (FieldType.int, 60, f)) : Option ZE)) zup_mu
theorem rd62 {F : Nat → (Int → ZV) → Prop} (h1 : 0 ≤ i) (h2 : i < 1) : zAR (HM μ) 62 i .int F ↔ F 60 (zro μ 62 i) := by
  have e : HM μ 62 i = some (.inr (.int, 60, zro μ 62 i)) := if_pos ⟨h1, h2⟩
  unfold zAR
  rw [e]
  exact ⟨fun q => q.2, fun q => ⟨rfl, q⟩⟩
theorem wr62 (h1 : 0 ≤ i) (h2 : i < 1) : zset (HM μ) 62 i (.inr (.int, 60, zup (zro μ 62 i) j (zI v))) = HM (mu μ 62 i j v) := by
  refine HM_set (by decide) ?_
  have e : HM (mu μ 62 i j v) 62 i = some (.inr (.int, 60, zro (mu μ 62 i j v) 62 i)) := if_pos ⟨h1, h2⟩
  rw [e]
  exact congrArg (fun f : Int → ZV => (some (Sum.inr (FieldType.int, 60, f)) : Option ZE)) zup_mu
theorem rd63 {F : Nat → (Int → ZV) → Prop} (h1 : 0 ≤ i) (h2 : i < 1) : zAR (HM μ) 63 i .int F ↔ F 60 (zro μ 63 i) := by
  have e : HM μ 63 i = some (.inr (.int, 60, zro μ 63 i)) := if_pos ⟨h1, h2⟩
  unfold zAR
  rw [e]
  exact ⟨fun q => q.2, fun q => ⟨rfl, q⟩⟩
theorem wr63 (h1 : 0 ≤ i) (h2 : i < 1) : zset (HM μ) 63 i (.inr (.int, 60, zup (zro μ 63 i) j (zI v))) = HM (mu μ 63 i j v) := by
  refine HM_set (by decide) ?_
  have e : HM (mu μ 63 i j v) 63 i = some (.inr (.int, 60, zro (mu μ 63 i j v) 63 i)) := if_pos ⟨h1, h2⟩
  rw [e]
  exact congrArg (fun f : Int → ZV => (some (Sum.inr (FieldType.int, 60, f)) : Option ZE)) zup_mu
theorem rd64 {F : Nat → (Int → ZV) → Prop} (h1 : 0 ≤ i) (h2 : i < 1) : zAR (HM μ) 64 i .int F ↔ F 61 (zro μ 64 i) := by
  have e : HM μ 64 i = some (.inr (.int, 61, zro μ 64 i)) := if_pos ⟨h1, h2⟩
  unfold zAR
  rw [e]
  exact ⟨fun q => q.2, fun q => ⟨rfl, q⟩⟩
theorem wr64 (h1 : 0 ≤ i) (h2 : i < 1) : zset (HM μ) 64 i (.inr (.int, 61, zup (zro μ 64 i) j (zI v))) = HM (mu μ 64 i j v) := by
  refine HM_set (by decide) ?_
  have e : HM (mu μ 64 i j v) 64 i = some (.inr (.int, 61, zro (mu μ 64 i j v) 64 i)) := if_pos ⟨h1, h2⟩
  rw [e]
  exact congrArg (fun f : Int → ZV => (some (Sum.inr (FieldType.int, 61, f)) : Option ZE)) zup_mu
theorem rd65 {F : Nat → (Int → ZV) → Prop} (h1 : 0 ≤ i) (h2 : i < 1) : zAR (HM μ) 65 i .int F ↔ F 60 (zro μ 65 i) := by
  have e : HM μ 65 i = some (.inr (.int, 60, zro μ 65 i)) := if_pos ⟨h1, h2⟩
  unfold zAR
  rw [e]
  exact ⟨fun q => q.2, fun q => ⟨rfl, q⟩⟩
theorem wr65 (h1 : 0 ≤ i) (h2 : i < 1) : zset (HM μ) 65 i (.inr (.int, 60, zup (zro μ 65 i) j (zI v))) = HM (mu μ 65 i j v) := by
  refine HM_set (by decide) ?_
  have e : HM (mu μ 65 i j v) 65 i = some (.inr (.int, 60, zro (mu μ 65 i j v) 65 i)) := if_pos ⟨h1, h2⟩
  rw [e]
  exact congrArg (fun f : Int → ZV => (some (Sum.inr (FieldType.int, 60, f)) : Option ZE)) zup_mu
theorem rd66 {F : Nat → (Int → ZV) → Prop} (h1 : 0 ≤ i) (h2 : i < 1) : zAR (HM μ) 66 i .int F ↔ F 12 (zro μ 66 i) := by
  have e : HM μ 66 i = some (.inr (.int, 12, zro μ 66 i)) := if_pos ⟨h1, h2⟩
  unfold zAR
  rw [e]
  exact ⟨fun q => q.2, fun q => ⟨rfl, q⟩⟩
theorem wr66 (h1 : 0 ≤ i) (h2 : i < 1) : zset (HM μ) 66 i (.inr (.int, 12, zup (zro μ 66 i) j (zI v))) = HM (mu μ 66 i j v) := by
  refine HM_set (by decide) ?_
  have e : HM (mu μ 66 i j v) 66 i = some (.inr (.int, 12, zro (mu μ 66 i j v) 66 i)) := if_pos ⟨h1, h2⟩
  rw [e]
  exact congrArg (fun f : Int → ZV => (some (Sum.inr (FieldType.int, 12, f)) : Option ZE)) zup_mu
theorem rd101 {F : Nat → (Int → ZV) → Prop} (h1 : 0 ≤ i) (h2 : i < 1) : zAR (HM μ) 101 i .long F ↔ F 60 (zrl μ 101 i) := by
  have e : HM μ 101 i = some (.inr (.long, 60, zrl μ 101 i)) := if_pos ⟨h1, h2⟩
  unfold zAR
  rw [e]
  exact ⟨fun q => q.2, fun q => ⟨rfl, q⟩⟩
theorem wr101 (h1 : 0 ≤ i) (h2 : i < 1) : zset (HM μ) 101 i (.inr (.long, 60, zup (zrl μ 101 i) j (zL (Int64.ofInt v)))) = HM (mu μ 101 i j v) := by
  refine HM_set (by decide) ?_
  have e : HM (mu μ 101 i j v) 101 i = some (.inr (.long, 60, zrl (mu μ 101 i j v) 101 i)) := if_pos ⟨h1, h2⟩
  rw [e]
  exact congrArg (fun f : Int → ZV => (some (Sum.inr (FieldType.long, 60, f)) : Option ZE)) zup_muV
theorem rd102 {F : Nat → (Int → ZV) → Prop} (h1 : 0 ≤ i) (h2 : i < 1) : zAR (HM μ) 102 i .int F ↔ F 7 (zro μ 102 i) := by
  have e : HM μ 102 i = some (.inr (.int, 7, zro μ 102 i)) := if_pos ⟨h1, h2⟩
  unfold zAR
  rw [e]
  exact ⟨fun q => q.2, fun q => ⟨rfl, q⟩⟩
theorem wr102 (h1 : 0 ≤ i) (h2 : i < 1) : zset (HM μ) 102 i (.inr (.int, 7, zup (zro μ 102 i) j (zI v))) = HM (mu μ 102 i j v) := by
  refine HM_set (by decide) ?_
  have e : HM (mu μ 102 i j v) 102 i = some (.inr (.int, 7, zro (mu μ 102 i j v) 102 i)) := if_pos ⟨h1, h2⟩
  rw [e]
  exact congrArg (fun f : Int → ZV => (some (Sum.inr (FieldType.int, 7, f)) : Option ZE)) zup_mu
theorem rd103 {F : Nat → (Int → ZV) → Prop} (h1 : 0 ≤ i) (h2 : i < 1) : zAR (HM μ) 103 i .int F ↔ F 52 (zro μ 103 i) := by
  have e : HM μ 103 i = some (.inr (.int, 52, zro μ 103 i)) := if_pos ⟨h1, h2⟩
  unfold zAR
  rw [e]
  exact ⟨fun q => q.2, fun q => ⟨rfl, q⟩⟩
theorem wr103 (h1 : 0 ≤ i) (h2 : i < 1) : zset (HM μ) 103 i (.inr (.int, 52, zup (zro μ 103 i) j (zI v))) = HM (mu μ 103 i j v) := by
  refine HM_set (by decide) ?_
  have e : HM (mu μ 103 i j v) 103 i = some (.inr (.int, 52, zro (mu μ 103 i j v) 103 i)) := if_pos ⟨h1, h2⟩
  rw [e]
  exact congrArg (fun f : Int → ZV => (some (Sum.inr (FieldType.int, 52, f)) : Option ZE)) zup_mu
theorem rd104 {F : Nat → (Int → ZV) → Prop} (h1 : 0 ≤ i) (h2 : i < 1) : zAR (HM μ) 104 i .long F ↔ F 40 (zrl μ 104 i) := by
  have e : HM μ 104 i = some (.inr (.long, 40, zrl μ 104 i)) := if_pos ⟨h1, h2⟩
  unfold zAR
  rw [e]
  exact ⟨fun q => q.2, fun q => ⟨rfl, q⟩⟩
theorem wr104 (h1 : 0 ≤ i) (h2 : i < 1) : zset (HM μ) 104 i (.inr (.long, 40, zup (zrl μ 104 i) j (zL (Int64.ofInt v)))) = HM (mu μ 104 i j v) := by
  refine HM_set (by decide) ?_
  have e : HM (mu μ 104 i j v) 104 i = some (.inr (.long, 40, zrl (mu μ 104 i j v) 104 i)) := if_pos ⟨h1, h2⟩
  rw [e]
  exact congrArg (fun f : Int → ZV => (some (Sum.inr (FieldType.long, 40, f)) : Option ZE)) zup_muV
theorem rd105 {F : Nat → (Int → ZV) → Prop} (h1 : 0 ≤ i) (h2 : i < 1) : zAR (HM μ) 105 i .int F ↔ F 11 (zro μ 105 i) := by
  have e : HM μ 105 i = some (.inr (.int, 11, zro μ 105 i)) := if_pos ⟨h1, h2⟩
  unfold zAR
  rw [e]
  exact ⟨fun q => q.2, fun q => ⟨rfl, q⟩⟩
theorem wr105 (h1 : 0 ≤ i) (h2 : i < 1) : zset (HM μ) 105 i (.inr (.int, 11, zup (zro μ 105 i) j (zI v))) = HM (mu μ 105 i j v) := by
  refine HM_set (by decide) ?_
  have e : HM (mu μ 105 i j v) 105 i = some (.inr (.int, 11, zro (mu μ 105 i j v) 105 i)) := if_pos ⟨h1, h2⟩
  rw [e]
  exact congrArg (fun f : Int → ZV => (some (Sum.inr (FieldType.int, 11, f)) : Option ZE)) zup_mu
theorem rd106 {F : Nat → (Int → ZV) → Prop} (h1 : 0 ≤ i) (h2 : i < 1) : zAR (HM μ) 106 i .int F ↔ F 19 (zro μ 106 i) := by
  have e : HM μ 106 i = some (.inr (.int, 19, zro μ 106 i)) := if_pos ⟨h1, h2⟩
  unfold zAR
  rw [e]
  exact ⟨fun q => q.2, fun q => ⟨rfl, q⟩⟩
theorem wr106 (h1 : 0 ≤ i) (h2 : i < 1) : zset (HM μ) 106 i (.inr (.int, 19, zup (zro μ 106 i) j (zI v))) = HM (mu μ 106 i j v) := by
  refine HM_set (by decide) ?_
  have e : HM (mu μ 106 i j v) 106 i = some (.inr (.int, 19, zro (mu μ 106 i j v) 106 i)) := if_pos ⟨h1, h2⟩
  rw [e]
  exact congrArg (fun f : Int → ZV => (some (Sum.inr (FieldType.int, 19, f)) : Option ZE)) zup_mu
theorem rd107 {F : Nat → (Int → ZV) → Prop} (h1 : 0 ≤ i) (h2 : i < 1) : zAR (HM μ) 107 i .int F ↔ F 5 (zro μ 107 i) := by
  have e : HM μ 107 i = some (.inr (.int, 5, zro μ 107 i)) := if_pos ⟨h1, h2⟩
  unfold zAR
  rw [e]
  exact ⟨fun q => q.2, fun q => ⟨rfl, q⟩⟩
theorem wr107 (h1 : 0 ≤ i) (h2 : i < 1) : zset (HM μ) 107 i (.inr (.int, 5, zup (zro μ 107 i) j (zI v))) = HM (mu μ 107 i j v) := by
  refine HM_set (by decide) ?_
  have e : HM (mu μ 107 i j v) 107 i = some (.inr (.int, 5, zro (mu μ 107 i j v) 107 i)) := if_pos ⟨h1, h2⟩
  rw [e]
  exact congrArg (fun f : Int → ZV => (some (Sum.inr (FieldType.int, 5, f)) : Option ZE)) zup_mu
theorem rd108 {F : Nat → (Int → ZV) → Prop} (h1 : 0 ≤ i) (h2 : i < 1) : zAR (HM μ) 108 i .int F ↔ F 41 (zro μ 108 i) := by
  have e : HM μ 108 i = some (.inr (.int, 41, zro μ 108 i)) := if_pos ⟨h1, h2⟩
  unfold zAR
  rw [e]
  exact ⟨fun q => q.2, fun q => ⟨rfl, q⟩⟩
theorem wr108 (h1 : 0 ≤ i) (h2 : i < 1) : zset (HM μ) 108 i (.inr (.int, 41, zup (zro μ 108 i) j (zI v))) = HM (mu μ 108 i j v) := by
  refine HM_set (by decide) ?_
  have e : HM (mu μ 108 i j v) 108 i = some (.inr (.int, 41, zro (mu μ 108 i j v) 108 i)) := if_pos ⟨h1, h2⟩
  rw [e]
  exact congrArg (fun f : Int → ZV => (some (Sum.inr (FieldType.int, 41, f)) : Option ZE)) zup_mu
theorem rd109 {F : Nat → (Int → ZV) → Prop} (h1 : 0 ≤ i) (h2 : i < 1) : zAR (HM μ) 109 i .int F ↔ F 41 (zro μ 109 i) := by
  have e : HM μ 109 i = some (.inr (.int, 41, zro μ 109 i)) := if_pos ⟨h1, h2⟩
  unfold zAR
  rw [e]
  exact ⟨fun q => q.2, fun q => ⟨rfl, q⟩⟩
theorem wr109 (h1 : 0 ≤ i) (h2 : i < 1) : zset (HM μ) 109 i (.inr (.int, 41, zup (zro μ 109 i) j (zI v))) = HM (mu μ 109 i j v) := by
  refine HM_set (by decide) ?_
  have e : HM (mu μ 109 i j v) 109 i = some (.inr (.int, 41, zro (mu μ 109 i j v) 109 i)) := if_pos ⟨h1, h2⟩
  rw [e]
  exact congrArg (fun f : Int → ZV => (some (Sum.inr (FieldType.int, 41, f)) : Option ZE)) zup_mu
theorem rd110 {F : Nat → (Int → ZV) → Prop} (h1 : 0 ≤ i) (h2 : i < 1) : zAR (HM μ) 110 i .int F ↔ F 40 (zro μ 110 i) := by
  have e : HM μ 110 i = some (.inr (.int, 40, zro μ 110 i)) := if_pos ⟨h1, h2⟩
  unfold zAR
  rw [e]
  exact ⟨fun q => q.2, fun q => ⟨rfl, q⟩⟩
theorem wr110 (h1 : 0 ≤ i) (h2 : i < 1) : zset (HM μ) 110 i (.inr (.int, 40, zup (zro μ 110 i) j (zI v))) = HM (mu μ 110 i j v) := by
  refine HM_set (by decide) ?_
  have e : HM (mu μ 110 i j v) 110 i = some (.inr (.int, 40, zro (mu μ 110 i j v) 110 i)) := if_pos ⟨h1, h2⟩
  rw [e]
  exact congrArg (fun f : Int → ZV => (some (Sum.inr (FieldType.int, 40, f)) : Option ZE)) zup_mu
theorem rd111 {F : Nat → (Int → ZV) → Prop} (h1 : 0 ≤ i) (h2 : i < 1) : zAR (HM μ) 111 i .int F ↔ F 6 (zro μ 111 i) := by
  have e : HM μ 111 i = some (.inr (.int, 6, zro μ 111 i)) := if_pos ⟨h1, h2⟩
  unfold zAR
  rw [e]
  exact ⟨fun q => q.2, fun q => ⟨rfl, q⟩⟩
theorem wr111 (h1 : 0 ≤ i) (h2 : i < 1) : zset (HM μ) 111 i (.inr (.int, 6, zup (zro μ 111 i) j (zI v))) = HM (mu μ 111 i j v) := by
  refine HM_set (by decide) ?_
  have e : HM (mu μ 111 i j v) 111 i = some (.inr (.int, 6, zro (mu μ 111 i j v) 111 i)) := if_pos ⟨h1, h2⟩
  rw [e]
  exact congrArg (fun f : Int → ZV => (some (Sum.inr (FieldType.int, 6, f)) : Option ZE)) zup_mu
theorem rd112 {F : Nat → (Int → ZV) → Prop} (h1 : 0 ≤ i) (h2 : i < 1) : zAR (HM μ) 112 i .long F ↔ F 60 (zrl μ 112 i) := by
  have e : HM μ 112 i = some (.inr (.long, 60, zrl μ 112 i)) := if_pos ⟨h1, h2⟩
  unfold zAR
  rw [e]
  exact ⟨fun q => q.2, fun q => ⟨rfl, q⟩⟩
theorem wr112 (h1 : 0 ≤ i) (h2 : i < 1) : zset (HM μ) 112 i (.inr (.long, 60, zup (zrl μ 112 i) j (zL (Int64.ofInt v)))) = HM (mu μ 112 i j v) := by
  refine HM_set (by decide) ?_
  have e : HM (mu μ 112 i j v) 112 i = some (.inr (.long, 60, zrl (mu μ 112 i j v) 112 i)) := if_pos ⟨h1, h2⟩
  rw [e]
  exact congrArg (fun f : Int → ZV => (some (Sum.inr (FieldType.long, 60, f)) : Option ZE)) zup_muV
theorem rd113 {F : Nat → (Int → ZV) → Prop} (h1 : 0 ≤ i) (h2 : i < μ 0 0 113) : zAR (HM μ) 113 i .int F ↔ F 41 (zro μ 113 i) := by
  have e : HM μ 113 i = some (.inr (.int, 41, zro μ 113 i)) := if_pos ⟨h1, h2⟩
  unfold zAR
  rw [e]
  exact ⟨fun q => q.2, fun q => ⟨rfl, q⟩⟩
theorem wr113 (h1 : 0 ≤ i) (h2 : i < μ 0 0 113) : zset (HM μ) 113 i (.inr (.int, 41, zup (zro μ 113 i) j (zI v))) = HM (mu μ 113 i j v) := by
  refine HM_set (by decide) ?_
  have e : HM (mu μ 113 i j v) 113 i = some (.inr (.int, 41, zro (mu μ 113 i j v) 113 i)) := if_pos ⟨h1, h2⟩
  rw [e]
  exact congrArg (fun f : Int → ZV => (some (Sum.inr (FieldType.int, 41, f)) : Option ZE)) zup_mu
theorem rd114 {F : Nat → (Int → ZV) → Prop} (h1 : 0 ≤ i) (h2 : i < μ 0 0 113) : zAR (HM μ) 114 i .int F ↔ F 41 (zro μ 114 i) := by
  have e : HM μ 114 i = some (.inr (.int, 41, zro μ 114 i)) := if_pos ⟨h1, h2⟩
  unfold zAR
  rw [e]
  exact ⟨fun q => q.2, fun q => ⟨rfl, q⟩⟩
theorem wr114 (h1 : 0 ≤ i) (h2 : i < μ 0 0 113) : zset (HM μ) 114 i (.inr (.int, 41, zup (zro μ 114 i) j (zI v))) = HM (mu μ 114 i j v) := by
  refine HM_set (by decide) ?_
  have e : HM (mu μ 114 i j v) 114 i = some (.inr (.int, 41, zro (mu μ 114 i j v) 114 i)) := if_pos ⟨h1, h2⟩
  rw [e]
  exact congrArg (fun f : Int → ZV => (some (Sum.inr (FieldType.int, 41, f)) : Option ZE)) zup_mu
theorem rd115 {F : Nat → (Int → ZV) → Prop} (h1 : 0 ≤ i) (h2 : i < μ 0 0 115) : zAR (HM μ) 115 i .int F ↔ F 3 (zro μ 115 i) := by
  have e : HM μ 115 i = some (.inr (.int, 3, zro μ 115 i)) := if_pos ⟨h1, h2⟩
  unfold zAR
  rw [e]
  exact ⟨fun q => q.2, fun q => ⟨rfl, q⟩⟩
theorem wr115 (h1 : 0 ≤ i) (h2 : i < μ 0 0 115) : zset (HM μ) 115 i (.inr (.int, 3, zup (zro μ 115 i) j (zI v))) = HM (mu μ 115 i j v) := by
  refine HM_set (by decide) ?_
  have e : HM (mu μ 115 i j v) 115 i = some (.inr (.int, 3, zro (mu μ 115 i j v) 115 i)) := if_pos ⟨h1, h2⟩
  rw [e]
  exact congrArg (fun f : Int → ZV => (some (Sum.inr (FieldType.int, 3, f)) : Option ZE)) zup_mu
theorem rd26 {F : Nat → (Int → ZV) → Prop} (h1 : 0 ≤ i) (h2 : i < μ 0 0 26) : zAR (HM μ) 26 i .int F ↔ F (μ 0 1 i).toNat (zro μ 26 i) := by
  have e : HM μ 26 i = some (.inr (.int, (μ 0 1 i).toNat, zro μ 26 i)) := if_pos ⟨h1, h2⟩
  unfold zAR
  rw [e]
  exact ⟨fun q => q.2, fun q => ⟨rfl, q⟩⟩
theorem ln26 {F : FieldType → Nat → (Int → ZV) → Prop} (h1 : 0 ≤ i) (h2 : i < μ 0 0 26) : zAY (HM μ) 26 i F ↔ F .int (μ 0 1 i).toNat (zro μ 26 i) := by
  have e : HM μ 26 i = some (.inr (.int, (μ 0 1 i).toNat, zro μ 26 i)) := if_pos ⟨h1, h2⟩
  unfold zAY
  rw [e]
theorem rd1 {F : Nat → (Int → ZV) → Prop} : zAR (HM μ) 1 0 .int F ↔ F (μ 0 2 0).toNat (zro μ 1 0) := by
  have e : HM μ 1 0 = some (.inr (.int, (μ 0 2 0).toNat, zro μ 1 0)) := rfl
  unfold zAR
  rw [e]
  exact ⟨fun q => q.2, fun q => ⟨rfl, q⟩⟩
theorem ln1 {F : FieldType → Nat → (Int → ZV) → Prop} : zAY (HM μ) 1 0 F ↔ F .int (μ 0 2 0).toNat (zro μ 1 0) := by
  have e : HM μ 1 0 = some (.inr (.int, (μ 0 2 0).toNat, zro μ 1 0)) := rfl
  unfold zAY
  rw [e]
theorem rd3 {F : FieldType → Nat → (Int → ZV) → Prop} : zAY (HM μ) 3 0 F ↔ F (.object (zcn 5)) 24 (zoA 10 (μ 0 0 10)) := by
  have e : HM μ 3 0 = some (.inr (.object (zcn 5), 24, zoA 10 (μ 0 0 10))) := rfl
  unfold zAY
  rw [e]
theorem rd4 {F : FieldType → Nat → (Int → ZV) → Prop} : zAY (HM μ) 4 0 F ↔ F (.object (zcn 3)) 12 (zoA 20 (μ 0 0 20)) := by
  have e : HM μ 4 0 = some (.inr (.object (zcn 3), 12, zoA 20 (μ 0 0 20))) := rfl
  unfold zAY
  rw [e]
theorem rd5 {F : FieldType → Nat → (Int → ZV) → Prop} : zAY (HM μ) 5 0 F ↔ F (.object (zcn 1)) 6 (zoA 30 (μ 0 0 30)) := by
  have e : HM μ 5 0 = some (.inr (.object (zcn 1), 6, zoA 30 (μ 0 0 30))) := rfl
  unfold zAY
  rw [e]
theorem rd6 {F : FieldType → Nat → (Int → ZV) → Prop} : zAY (HM μ) 6 0 F ↔ F (.object (zcn 4)) 40 (zoA 40 (μ 0 0 40)) := by
  have e : HM μ 6 0 = some (.inr (.object (zcn 4), 40, zoA 40 (μ 0 0 40))) := rfl
  unfold zAY
  rw [e]
theorem ob2 {F : (Nat → ZV) → Prop} (h1 : 0 ≤ i) (h2 : i < 1) : zGF (HM μ) 2 i 8 F ↔ F (zfl μ 2 i) := by
  have e : HM μ 2 i = some (.inl (8, zfl μ 2 i)) := if_pos ⟨h1, h2⟩
  unfold zGF
  rw [e]
  exact ⟨fun q => q.2, fun q => ⟨rfl, q⟩⟩
theorem oc2 (h1 : 0 ≤ i) (h2 : i < 1) : zGO (HM μ) 2 i 8 ↔ True := by
  have e : HM μ 2 i = some (.inl (8, zfl μ 2 i)) := if_pos ⟨h1, h2⟩
  exact ⟨fun _ => trivial, fun _ => ⟨_, e⟩⟩
theorem fl2_0 : zfl μ 2 i 0 = zR 3 0 := rfl
theorem fl2_1 : zfl μ 2 i 1 = zR 4 0 := rfl
theorem fl2_2 : zfl μ 2 i 2 = zR 5 0 := rfl
theorem fl2_3 : zfl μ 2 i 3 = zR 6 0 := rfl
theorem fl2_4 : zfl μ 2 i 4 = zR 7 0 := rfl
theorem fl2_5 : zfl μ 2 i 5 = zR 8 0 := rfl
theorem fl2_6 : zfl μ 2 i 6 = zI (μ 2 i 6) := rfl
theorem wo2_6 (h1 : 0 ≤ i) (h2 : i < 1) : zset (HM μ) 2 i (.inl (8, zupN (zfl μ 2 i) 6 (zI v))) = HM (mu μ 2 i 6 v) := by
  refine HM_set (by decide) ?_
  have e : HM (mu μ 2 i 6 v) 2 i = some (.inl (8, zfl (mu μ 2 i 6 v) 2 i)) := if_pos ⟨h1, h2⟩
  have key : zfl (mu μ 2 i 6 v) 2 i = zupN (zfl μ 2 i) 6 (zI v) := by
    funext s'
    unfold zupN
    by_cases hs : s' = 6
    · subst hs
      rw [if_pos rfl]
      exact congrArg zI (mu_at _ _ _ _)
    · rw [if_neg hs]
      have hne : ((s' : Nat) : Int) ≠ 6 := by omega
      have h0 : ∀ a b, mu μ 2 i 6 v 0 a b = μ 0 a b := fun a b => mu_k (by decide)
      have h9 : ∀ j, j ≠ 6 → mu μ 2 i 6 v 2 i j = μ 2 i j := fun j h => mu_j h
      unfold zfl
      split <;> first | rfl | (simp only [h0]) | (exact congrArg zI (h9 _ hne)) | (rw [h9 _ (by decide)]) | contradiction
  rw [e, key]
theorem fl2_7 : zfl μ 2 i 7 = zI (μ 2 i 7) := rfl
theorem wo2_7 (h1 : 0 ≤ i) (h2 : i < 1) : zset (HM μ) 2 i (.inl (8, zupN (zfl μ 2 i) 7 (zI v))) = HM (mu μ 2 i 7 v) := by
  refine HM_set (by decide) ?_
  have e : HM (mu μ 2 i 7 v) 2 i = some (.inl (8, zfl (mu μ 2 i 7 v) 2 i)) := if_pos ⟨h1, h2⟩
  have key : zfl (mu μ 2 i 7 v) 2 i = zupN (zfl μ 2 i) 7 (zI v) := by
    funext s'
    unfold zupN
    by_cases hs : s' = 7
    · subst hs
      rw [if_pos rfl]
      exact congrArg zI (mu_at _ _ _ _)
    · rw [if_neg hs]
      have hne : ((s' : Nat) : Int) ≠ 7 := by omega
      have h0 : ∀ a b, mu μ 2 i 7 v 0 a b = μ 0 a b := fun a b => mu_k (by decide)
      have h9 : ∀ j, j ≠ 7 → mu μ 2 i 7 v 2 i j = μ 2 i j := fun j h => mu_j h
      unfold zfl
      split <;> first | rfl | (simp only [h0]) | (exact congrArg zI (h9 _ hne)) | (rw [h9 _ (by decide)]) | contradiction
  rw [e, key]
theorem fl2_8 : zfl μ 2 i 8 = zI (μ 2 i 8) := rfl
theorem wo2_8 (h1 : 0 ≤ i) (h2 : i < 1) : zset (HM μ) 2 i (.inl (8, zupN (zfl μ 2 i) 8 (zI v))) = HM (mu μ 2 i 8 v) := by
  refine HM_set (by decide) ?_
  have e : HM (mu μ 2 i 8 v) 2 i = some (.inl (8, zfl (mu μ 2 i 8 v) 2 i)) := if_pos ⟨h1, h2⟩
  have key : zfl (mu μ 2 i 8 v) 2 i = zupN (zfl μ 2 i) 8 (zI v) := by
    funext s'
    unfold zupN
    by_cases hs : s' = 8
    · subst hs
      rw [if_pos rfl]
      exact congrArg zI (mu_at _ _ _ _)
    · rw [if_neg hs]
      have hne : ((s' : Nat) : Int) ≠ 8 := by omega
      have h0 : ∀ a b, mu μ 2 i 8 v 0 a b = μ 0 a b := fun a b => mu_k (by decide)
      have h9 : ∀ j, j ≠ 8 → mu μ 2 i 8 v 2 i j = μ 2 i j := fun j h => mu_j h
      unfold zfl
      split <;> first | rfl | (simp only [h0]) | (exact congrArg zI (h9 _ hne)) | (rw [h9 _ (by decide)]) | contradiction
  rw [e, key]
theorem fl2_9 : zfl μ 2 i 9 = zI (μ 2 i 9) := rfl
theorem wo2_9 (h1 : 0 ≤ i) (h2 : i < 1) : zset (HM μ) 2 i (.inl (8, zupN (zfl μ 2 i) 9 (zI v))) = HM (mu μ 2 i 9 v) := by
  refine HM_set (by decide) ?_
  have e : HM (mu μ 2 i 9 v) 2 i = some (.inl (8, zfl (mu μ 2 i 9 v) 2 i)) := if_pos ⟨h1, h2⟩
  have key : zfl (mu μ 2 i 9 v) 2 i = zupN (zfl μ 2 i) 9 (zI v) := by
    funext s'
    unfold zupN
    by_cases hs : s' = 9
    · subst hs
      rw [if_pos rfl]
      exact congrArg zI (mu_at _ _ _ _)
    · rw [if_neg hs]
      have hne : ((s' : Nat) : Int) ≠ 9 := by omega
      have h0 : ∀ a b, mu μ 2 i 9 v 0 a b = μ 0 a b := fun a b => mu_k (by decide)
      have h9 : ∀ j, j ≠ 9 → mu μ 2 i 9 v 2 i j = μ 2 i j := fun j h => mu_j h
      unfold zfl
      split <;> first | rfl | (simp only [h0]) | (exact congrArg zI (h9 _ hne)) | (rw [h9 _ (by decide)]) | contradiction
  rw [e, key]
theorem fl2_10 : zfl μ 2 i 10 = zI (μ 2 i 10) := rfl
theorem wo2_10 (h1 : 0 ≤ i) (h2 : i < 1) : zset (HM μ) 2 i (.inl (8, zupN (zfl μ 2 i) 10 (zI v))) = HM (mu μ 2 i 10 v) := by
  refine HM_set (by decide) ?_
  have e : HM (mu μ 2 i 10 v) 2 i = some (.inl (8, zfl (mu μ 2 i 10 v) 2 i)) := if_pos ⟨h1, h2⟩
  have key : zfl (mu μ 2 i 10 v) 2 i = zupN (zfl μ 2 i) 10 (zI v) := by
    funext s'
    unfold zupN
    by_cases hs : s' = 10
    · subst hs
      rw [if_pos rfl]
      exact congrArg zI (mu_at _ _ _ _)
    · rw [if_neg hs]
      have hne : ((s' : Nat) : Int) ≠ 10 := by omega
      have h0 : ∀ a b, mu μ 2 i 10 v 0 a b = μ 0 a b := fun a b => mu_k (by decide)
      have h9 : ∀ j, j ≠ 10 → mu μ 2 i 10 v 2 i j = μ 2 i j := fun j h => mu_j h
      unfold zfl
      split <;> first | rfl | (simp only [h0]) | (exact congrArg zI (h9 _ hne)) | (rw [h9 _ (by decide)]) | contradiction
  rw [e, key]
theorem ob8 {F : (Nat → ZV) → Prop} (h1 : 0 ≤ i) (h2 : i < 1) : zGF (HM μ) 8 i 6 F ↔ F (zfl μ 8 i) := by
  have e : HM μ 8 i = some (.inl (6, zfl μ 8 i)) := if_pos ⟨h1, h2⟩
  unfold zGF
  rw [e]
  exact ⟨fun q => q.2, fun q => ⟨rfl, q⟩⟩
theorem oc8 (h1 : 0 ≤ i) (h2 : i < 1) : zGO (HM μ) 8 i 6 ↔ True := by
  have e : HM μ 8 i = some (.inl (6, zfl μ 8 i)) := if_pos ⟨h1, h2⟩
  exact ⟨fun _ => trivial, fun _ => ⟨_, e⟩⟩
theorem fl8_0 : zfl μ 8 i 0 = zR 50 (μ 0 0 50 - 1) := rfl
theorem fl8_1 : zfl μ 8 i 1 = zR 61 0 := rfl
theorem fl8_2 : zfl μ 8 i 2 = zR 62 0 := rfl
theorem fl8_3 : zfl μ 8 i 3 = zR 63 0 := rfl
theorem fl8_4 : zfl μ 8 i 4 = zR 64 0 := rfl
theorem fl8_5 : zfl μ 8 i 5 = zR 65 0 := rfl
theorem fl8_6 : zfl μ 8 i 6 = zR 66 0 := rfl
theorem ob10 {F : (Nat → ZV) → Prop} (h1 : 0 ≤ i) (h2 : i < μ 0 0 10) : zGF (HM μ) 10 i 5 F ↔ F (zfl μ 10 i) := by
  have e : HM μ 10 i = some (.inl (5, zfl μ 10 i)) := if_pos ⟨h1, h2⟩
  unfold zGF
  rw [e]
  exact ⟨fun q => q.2, fun q => ⟨rfl, q⟩⟩
theorem oc10 (h1 : 0 ≤ i) (h2 : i < μ 0 0 10) : zGO (HM μ) 10 i 5 ↔ True := by
  have e : HM μ 10 i = some (.inl (5, zfl μ 10 i)) := if_pos ⟨h1, h2⟩
  exact ⟨fun _ => trivial, fun _ => ⟨_, e⟩⟩
theorem fl10_0 : zfl μ 10 i 0 = zR 11 i := rfl
theorem fl10_1 : zfl μ 10 i 1 = zI (μ 10 i 1) := rfl
theorem wo10_1 (h1 : 0 ≤ i) (h2 : i < μ 0 0 10) : zset (HM μ) 10 i (.inl (5, zupN (zfl μ 10 i) 1 (zI v))) = HM (mu μ 10 i 1 v) := by
  refine HM_set (by decide) ?_
  have e : HM (mu μ 10 i 1 v) 10 i = some (.inl (5, zfl (mu μ 10 i 1 v) 10 i)) := if_pos ⟨h1, h2⟩
  have key : zfl (mu μ 10 i 1 v) 10 i = zupN (zfl μ 10 i) 1 (zI v) := by
    funext s'
    unfold zupN
    by_cases hs : s' = 1
    · subst hs
      rw [if_pos rfl]
      exact congrArg zI (mu_at _ _ _ _)
    · rw [if_neg hs]
      have hne : ((s' : Nat) : Int) ≠ 1 := by omega
      have h0 : ∀ a b, mu μ 10 i 1 v 0 a b = μ 0 a b := fun a b => mu_k (by decide)
      have h9 : ∀ j, j ≠ 1 → mu μ 10 i 1 v 10 i j = μ 10 i j := fun j h => mu_j h
      unfold zfl
      split <;> first | rfl | (simp only [h0]) | (exact congrArg zI (h9 _ hne)) | (rw [h9 _ (by decide)]) | contradiction
  rw [e, key]
theorem ob11 {F : (Nat → ZV) → Prop} (h1 : 0 ≤ i) (h2 : i < μ 0 0 10) : zGF (HM μ) 11 i 2 F ↔ F (zfl μ 11 i) := by
  have e : HM μ 11 i = some (.inl (2, zfl μ 11 i)) := if_pos ⟨h1, h2⟩
  unfold zGF
  rw [e]
  exact ⟨fun q => q.2, fun q => ⟨rfl, q⟩⟩
theorem oc11 (h1 : 0 ≤ i) (h2 : i < μ 0 0 10) : zGO (HM μ) 11 i 2 ↔ True := by
  have e : HM μ 11 i = some (.inl (2, zfl μ 11 i)) := if_pos ⟨h1, h2⟩
  exact ⟨fun _ => trivial, fun _ => ⟨_, e⟩⟩
theorem fl11_0 : zfl μ 11 i 0 = zR 12 i := rfl
theorem fl11_1 : zfl μ 11 i 1 = zR 13 i := rfl
theorem fl11_2 : zfl μ 11 i 2 = zR 14 i := rfl
theorem ob20 {F : (Nat → ZV) → Prop} (h1 : 0 ≤ i) (h2 : i < μ 0 0 20) : zGF (HM μ) 20 i 3 F ↔ F (zfl μ 20 i) := by
  have e : HM μ 20 i = some (.inl (3, zfl μ 20 i)) := if_pos ⟨h1, h2⟩
  unfold zGF
  rw [e]
  exact ⟨fun q => q.2, fun q => ⟨rfl, q⟩⟩
theorem oc20 (h1 : 0 ≤ i) (h2 : i < μ 0 0 20) : zGO (HM μ) 20 i 3 ↔ True := by
  have e : HM μ 20 i = some (.inl (3, zfl μ 20 i)) := if_pos ⟨h1, h2⟩
  exact ⟨fun _ => trivial, fun _ => ⟨_, e⟩⟩
theorem fl20_0 : zfl μ 20 i 0 = zI (μ 20 i 0) := rfl
theorem wo20_0 (h1 : 0 ≤ i) (h2 : i < μ 0 0 20) : zset (HM μ) 20 i (.inl (3, zupN (zfl μ 20 i) 0 (zI v))) = HM (mu μ 20 i 0 v) := by
  refine HM_set (by decide) ?_
  have e : HM (mu μ 20 i 0 v) 20 i = some (.inl (3, zfl (mu μ 20 i 0 v) 20 i)) := if_pos ⟨h1, h2⟩
  have key : zfl (mu μ 20 i 0 v) 20 i = zupN (zfl μ 20 i) 0 (zI v) := by
    funext s'
    unfold zupN
    by_cases hs : s' = 0
    · subst hs
      rw [if_pos rfl]
      exact congrArg zI (mu_at _ _ _ _)
    · rw [if_neg hs]
      have hne : ((s' : Nat) : Int) ≠ 0 := by omega
      have h0 : ∀ a b, mu μ 20 i 0 v 0 a b = μ 0 a b := fun a b => mu_k (by decide)
      have h9 : ∀ j, j ≠ 0 → mu μ 20 i 0 v 20 i j = μ 20 i j := fun j h => mu_j h
      unfold zfl
      split <;> first | rfl | (simp only [h0]) | (exact congrArg zI (h9 _ hne)) | (rw [h9 _ (by decide)]) | contradiction
  rw [e, key]
theorem fl20_1 : zfl μ 20 i 1 = zR 26 (μ 20 i 1) := rfl
theorem fl20_2 : zfl μ 20 i 2 = zR 21 i := rfl
theorem fl20_3 : zfl μ 20 i 3 = zI (μ 20 i 3) := rfl
theorem wo20_3 (h1 : 0 ≤ i) (h2 : i < μ 0 0 20) : zset (HM μ) 20 i (.inl (3, zupN (zfl μ 20 i) 3 (zI v))) = HM (mu μ 20 i 3 v) := by
  refine HM_set (by decide) ?_
  have e : HM (mu μ 20 i 3 v) 20 i = some (.inl (3, zfl (mu μ 20 i 3 v) 20 i)) := if_pos ⟨h1, h2⟩
  have key : zfl (mu μ 20 i 3 v) 20 i = zupN (zfl μ 20 i) 3 (zI v) := by
    funext s'
    unfold zupN
    by_cases hs : s' = 3
    · subst hs
      rw [if_pos rfl]
      exact congrArg zI (mu_at _ _ _ _)
    · rw [if_neg hs]
      have hne : ((s' : Nat) : Int) ≠ 3 := by omega
      have h0 : ∀ a b, mu μ 20 i 3 v 0 a b = μ 0 a b := fun a b => mu_k (by decide)
      have h9 : ∀ j, j ≠ 3 → mu μ 20 i 3 v 20 i j = μ 20 i j := fun j h => mu_j h
      unfold zfl
      split <;> first | rfl | (simp only [h0]) | (exact congrArg zI (h9 _ hne)) | (rw [h9 _ (by decide)]) | contradiction
  rw [e, key]
theorem ob21 {F : (Nat → ZV) → Prop} (h1 : 0 ≤ i) (h2 : i < μ 0 0 20) : zGF (HM μ) 21 i 2 F ↔ F (zfl μ 21 i) := by
  have e : HM μ 21 i = some (.inl (2, zfl μ 21 i)) := if_pos ⟨h1, h2⟩
  unfold zGF
  rw [e]
  exact ⟨fun q => q.2, fun q => ⟨rfl, q⟩⟩
theorem oc21 (h1 : 0 ≤ i) (h2 : i < μ 0 0 20) : zGO (HM μ) 21 i 2 ↔ True := by
  have e : HM μ 21 i = some (.inl (2, zfl μ 21 i)) := if_pos ⟨h1, h2⟩
  exact ⟨fun _ => trivial, fun _ => ⟨_, e⟩⟩
theorem fl21_0 : zfl μ 21 i 0 = zR 22 i := rfl
theorem fl21_1 : zfl μ 21 i 1 = zR 23 i := rfl
theorem fl21_2 : zfl μ 21 i 2 = zR 24 i := rfl
theorem ob30 {F : (Nat → ZV) → Prop} (h1 : 0 ≤ i) (h2 : i < μ 0 0 30) : zGF (HM μ) 30 i 1 F ↔ F (zfl μ 30 i) := by
  have e : HM μ 30 i = some (.inl (1, zfl μ 30 i)) := if_pos ⟨h1, h2⟩
  unfold zGF
  rw [e]
  exact ⟨fun q => q.2, fun q => ⟨rfl, q⟩⟩
theorem oc30 (h1 : 0 ≤ i) (h2 : i < μ 0 0 30) : zGO (HM μ) 30 i 1 ↔ True := by
  have e : HM μ 30 i = some (.inl (1, zfl μ 30 i)) := if_pos ⟨h1, h2⟩
  exact ⟨fun _ => trivial, fun _ => ⟨_, e⟩⟩
theorem fl30_0 : zfl μ 30 i 0 = zI (μ 30 i 0) := rfl
theorem wo30_0 (h1 : 0 ≤ i) (h2 : i < μ 0 0 30) : zset (HM μ) 30 i (.inl (1, zupN (zfl μ 30 i) 0 (zI v))) = HM (mu μ 30 i 0 v) := by
  refine HM_set (by decide) ?_
  have e : HM (mu μ 30 i 0 v) 30 i = some (.inl (1, zfl (mu μ 30 i 0 v) 30 i)) := if_pos ⟨h1, h2⟩
  have key : zfl (mu μ 30 i 0 v) 30 i = zupN (zfl μ 30 i) 0 (zI v) := by
    funext s'
    unfold zupN
    by_cases hs : s' = 0
    · subst hs
      rw [if_pos rfl]
      exact congrArg zI (mu_at _ _ _ _)
    · rw [if_neg hs]
      have hne : ((s' : Nat) : Int) ≠ 0 := by omega
      have h0 : ∀ a b, mu μ 30 i 0 v 0 a b = μ 0 a b := fun a b => mu_k (by decide)
      have h9 : ∀ j, j ≠ 0 → mu μ 30 i 0 v 30 i j = μ 30 i j := fun j h => mu_j h
      unfold zfl
      split <;> first | rfl | (simp only [h0]) | (exact congrArg zI (h9 _ hne)) | (rw [h9 _ (by decide)]) | contradiction
  rw [e, key]
theorem fl30_1 : zfl μ 30 i 1 = zI (μ 30 i 1) := rfl
theorem wo30_1 (h1 : 0 ≤ i) (h2 : i < μ 0 0 30) : zset (HM μ) 30 i (.inl (1, zupN (zfl μ 30 i) 1 (zI v))) = HM (mu μ 30 i 1 v) := by
  refine HM_set (by decide) ?_
  have e : HM (mu μ 30 i 1 v) 30 i = some (.inl (1, zfl (mu μ 30 i 1 v) 30 i)) := if_pos ⟨h1, h2⟩
  have key : zfl (mu μ 30 i 1 v) 30 i = zupN (zfl μ 30 i) 1 (zI v) := by
    funext s'
    unfold zupN
    by_cases hs : s' = 1
    · subst hs
      rw [if_pos rfl]
      exact congrArg zI (mu_at _ _ _ _)
    · rw [if_neg hs]
      have hne : ((s' : Nat) : Int) ≠ 1 := by omega
      have h0 : ∀ a b, mu μ 30 i 1 v 0 a b = μ 0 a b := fun a b => mu_k (by decide)
      have h9 : ∀ j, j ≠ 1 → mu μ 30 i 1 v 30 i j = μ 30 i j := fun j h => mu_j h
      unfold zfl
      split <;> first | rfl | (simp only [h0]) | (exact congrArg zI (h9 _ hne)) | (rw [h9 _ (by decide)]) | contradiction
  rw [e, key]
theorem fl30_2 : zfl μ 30 i 2 = zR 31 i := rfl
theorem fl30_3 : zfl μ 30 i 3 = zR 32 i := rfl
theorem fl30_4 : zfl μ 30 i 4 = zR 33 i := rfl
theorem fl30_5 : zfl μ 30 i 5 = zR 34 i := rfl
theorem fl30_6 : zfl μ 30 i 6 = zR 35 i := rfl
theorem fl30_7 : zfl μ 30 i 7 = zI (μ 30 i 7) := rfl
theorem wo30_7 (h1 : 0 ≤ i) (h2 : i < μ 0 0 30) : zset (HM μ) 30 i (.inl (1, zupN (zfl μ 30 i) 7 (zI v))) = HM (mu μ 30 i 7 v) := by
  refine HM_set (by decide) ?_
  have e : HM (mu μ 30 i 7 v) 30 i = some (.inl (1, zfl (mu μ 30 i 7 v) 30 i)) := if_pos ⟨h1, h2⟩
  have key : zfl (mu μ 30 i 7 v) 30 i = zupN (zfl μ 30 i) 7 (zI v) := by
    funext s'
    unfold zupN
    by_cases hs : s' = 7
    · subst hs
      rw [if_pos rfl]
      exact congrArg zI (mu_at _ _ _ _)
    · rw [if_neg hs]
      have hne : ((s' : Nat) : Int) ≠ 7 := by omega
      have h0 : ∀ a b, mu μ 30 i 7 v 0 a b = μ 0 a b := fun a b => mu_k (by decide)
      have h9 : ∀ j, j ≠ 7 → mu μ 30 i 7 v 30 i j = μ 30 i j := fun j h => mu_j h
      unfold zfl
      split <;> first | rfl | (simp only [h0]) | (exact congrArg zI (h9 _ hne)) | (rw [h9 _ (by decide)]) | contradiction
  rw [e, key]
theorem fl30_8 : zfl μ 30 i 8 = zI (μ 30 i 8) := rfl
theorem wo30_8 (h1 : 0 ≤ i) (h2 : i < μ 0 0 30) : zset (HM μ) 30 i (.inl (1, zupN (zfl μ 30 i) 8 (zI v))) = HM (mu μ 30 i 8 v) := by
  refine HM_set (by decide) ?_
  have e : HM (mu μ 30 i 8 v) 30 i = some (.inl (1, zfl (mu μ 30 i 8 v) 30 i)) := if_pos ⟨h1, h2⟩
  have key : zfl (mu μ 30 i 8 v) 30 i = zupN (zfl μ 30 i) 8 (zI v) := by
    funext s'
    unfold zupN
    by_cases hs : s' = 8
    · subst hs
      rw [if_pos rfl]
      exact congrArg zI (mu_at _ _ _ _)
    · rw [if_neg hs]
      have hne : ((s' : Nat) : Int) ≠ 8 := by omega
      have h0 : ∀ a b, mu μ 30 i 8 v 0 a b = μ 0 a b := fun a b => mu_k (by decide)
      have h9 : ∀ j, j ≠ 8 → mu μ 30 i 8 v 30 i j = μ 30 i j := fun j h => mu_j h
      unfold zfl
      split <;> first | rfl | (simp only [h0]) | (exact congrArg zI (h9 _ hne)) | (rw [h9 _ (by decide)]) | contradiction
  rw [e, key]
theorem fl30_9 : zfl μ 30 i 9 = zI (μ 30 i 9) := rfl
theorem wo30_9 (h1 : 0 ≤ i) (h2 : i < μ 0 0 30) : zset (HM μ) 30 i (.inl (1, zupN (zfl μ 30 i) 9 (zI v))) = HM (mu μ 30 i 9 v) := by
  refine HM_set (by decide) ?_
  have e : HM (mu μ 30 i 9 v) 30 i = some (.inl (1, zfl (mu μ 30 i 9 v) 30 i)) := if_pos ⟨h1, h2⟩
  have key : zfl (mu μ 30 i 9 v) 30 i = zupN (zfl μ 30 i) 9 (zI v) := by
    funext s'
    unfold zupN
    by_cases hs : s' = 9
    · subst hs
      rw [if_pos rfl]
      exact congrArg zI (mu_at _ _ _ _)
    · rw [if_neg hs]
      have hne : ((s' : Nat) : Int) ≠ 9 := by omega
      have h0 : ∀ a b, mu μ 30 i 9 v 0 a b = μ 0 a b := fun a b => mu_k (by decide)
      have h9 : ∀ j, j ≠ 9 → mu μ 30 i 9 v 30 i j = μ 30 i j := fun j h => mu_j h
      unfold zfl
      split <;> first | rfl | (simp only [h0]) | (exact congrArg zI (h9 _ hne)) | (rw [h9 _ (by decide)]) | contradiction
  rw [e, key]
theorem fl30_10 : zfl μ 30 i 10 = zI (μ 30 i 10) := rfl
theorem wo30_10 (h1 : 0 ≤ i) (h2 : i < μ 0 0 30) : zset (HM μ) 30 i (.inl (1, zupN (zfl μ 30 i) 10 (zI v))) = HM (mu μ 30 i 10 v) := by
  refine HM_set (by decide) ?_
  have e : HM (mu μ 30 i 10 v) 30 i = some (.inl (1, zfl (mu μ 30 i 10 v) 30 i)) := if_pos ⟨h1, h2⟩
  have key : zfl (mu μ 30 i 10 v) 30 i = zupN (zfl μ 30 i) 10 (zI v) := by
    funext s'
    unfold zupN
    by_cases hs : s' = 10
    · subst hs
      rw [if_pos rfl]
      exact congrArg zI (mu_at _ _ _ _)
    · rw [if_neg hs]
      have hne : ((s' : Nat) : Int) ≠ 10 := by omega
      have h0 : ∀ a b, mu μ 30 i 10 v 0 a b = μ 0 a b := fun a b => mu_k (by decide)
      have h9 : ∀ j, j ≠ 10 → mu μ 30 i 10 v 30 i j = μ 30 i j := fun j h => mu_j h
      unfold zfl
      split <;> first | rfl | (simp only [h0]) | (exact congrArg zI (h9 _ hne)) | (rw [h9 _ (by decide)]) | contradiction
  rw [e, key]
theorem ob40 {F : (Nat → ZV) → Prop} (h1 : 0 ≤ i) (h2 : i < μ 0 0 40) : zGF (HM μ) 40 i 4 F ↔ F (zfl μ 40 i) := by
  have e : HM μ 40 i = some (.inl (4, zfl μ 40 i)) := if_pos ⟨h1, h2⟩
  unfold zGF
  rw [e]
  exact ⟨fun q => q.2, fun q => ⟨rfl, q⟩⟩
theorem oc40 (h1 : 0 ≤ i) (h2 : i < μ 0 0 40) : zGO (HM μ) 40 i 4 ↔ True := by
  have e : HM μ 40 i = some (.inl (4, zfl μ 40 i)) := if_pos ⟨h1, h2⟩
  exact ⟨fun _ => trivial, fun _ => ⟨_, e⟩⟩
theorem fl40_0 : zfl μ 40 i 0 = zR 30 (μ 40 i 0) := rfl
theorem fl40_1 : zfl μ 40 i 1 = zR 20 (μ 40 i 1) := rfl
theorem fl40_2 : zfl μ 40 i 2 = zI (μ 40 i 2) := rfl
theorem wo40_2 (h1 : 0 ≤ i) (h2 : i < μ 0 0 40) : zset (HM μ) 40 i (.inl (4, zupN (zfl μ 40 i) 2 (zI v))) = HM (mu μ 40 i 2 v) := by
  refine HM_set (by decide) ?_
  have e : HM (mu μ 40 i 2 v) 40 i = some (.inl (4, zfl (mu μ 40 i 2 v) 40 i)) := if_pos ⟨h1, h2⟩
  have key : zfl (mu μ 40 i 2 v) 40 i = zupN (zfl μ 40 i) 2 (zI v) := by
    funext s'
    unfold zupN
    by_cases hs : s' = 2
    · subst hs
      rw [if_pos rfl]
      exact congrArg zI (mu_at _ _ _ _)
    · rw [if_neg hs]
      have hne : ((s' : Nat) : Int) ≠ 2 := by omega
      have h0 : ∀ a b, mu μ 40 i 2 v 0 a b = μ 0 a b := fun a b => mu_k (by decide)
      have h9 : ∀ j, j ≠ 2 → mu μ 40 i 2 v 40 i j = μ 40 i j := fun j h => mu_j h
      unfold zfl
      split <;> first | rfl | (simp only [h0]) | (exact congrArg zI (h9 _ hne)) | (rw [h9 _ (by decide)]) | contradiction
  rw [e, key]
theorem fl40_3 : zfl μ 40 i 3 = zI (μ 40 i 3) := rfl
theorem wo40_3 (h1 : 0 ≤ i) (h2 : i < μ 0 0 40) : zset (HM μ) 40 i (.inl (4, zupN (zfl μ 40 i) 3 (zI v))) = HM (mu μ 40 i 3 v) := by
  refine HM_set (by decide) ?_
  have e : HM (mu μ 40 i 3 v) 40 i = some (.inl (4, zfl (mu μ 40 i 3 v) 40 i)) := if_pos ⟨h1, h2⟩
  have key : zfl (mu μ 40 i 3 v) 40 i = zupN (zfl μ 40 i) 3 (zI v) := by
    funext s'
    unfold zupN
    by_cases hs : s' = 3
    · subst hs
      rw [if_pos rfl]
      exact congrArg zI (mu_at _ _ _ _)
    · rw [if_neg hs]
      have hne : ((s' : Nat) : Int) ≠ 3 := by omega
      have h0 : ∀ a b, mu μ 40 i 3 v 0 a b = μ 0 a b := fun a b => mu_k (by decide)
      have h9 : ∀ j, j ≠ 3 → mu μ 40 i 3 v 40 i j = μ 40 i j := fun j h => mu_j h
      unfold zfl
      split <;> first | rfl | (simp only [h0]) | (exact congrArg zI (h9 _ hne)) | (rw [h9 _ (by decide)]) | contradiction
  rw [e, key]
theorem fl40_4 : zfl μ 40 i 4 = if μ 40 i 4 < 0 then zN else zR 41 (μ 40 i 4) := rfl
theorem ob41 {F : (Nat → ZV) → Prop} (h1 : 0 ≤ i) (h2 : i < μ 0 0 41) : zGF (HM μ) 41 i 0 F ↔ F (zfl μ 41 i) := by
  have e : HM μ 41 i = some (.inl (0, zfl μ 41 i)) := if_pos ⟨h1, h2⟩
  unfold zGF
  rw [e]
  exact ⟨fun q => q.2, fun q => ⟨rfl, q⟩⟩
theorem oc41 (h1 : 0 ≤ i) (h2 : i < μ 0 0 41) : zGO (HM μ) 41 i 0 ↔ True := by
  have e : HM μ 41 i = some (.inl (0, zfl μ 41 i)) := if_pos ⟨h1, h2⟩
  exact ⟨fun _ => trivial, fun _ => ⟨_, e⟩⟩
theorem fl41_0 : zfl μ 41 i 0 = zI (μ 41 i 0) := rfl
theorem wo41_0 (h1 : 0 ≤ i) (h2 : i < μ 0 0 41) : zset (HM μ) 41 i (.inl (0, zupN (zfl μ 41 i) 0 (zI v))) = HM (mu μ 41 i 0 v) := by
  refine HM_set (by decide) ?_
  have e : HM (mu μ 41 i 0 v) 41 i = some (.inl (0, zfl (mu μ 41 i 0 v) 41 i)) := if_pos ⟨h1, h2⟩
  have key : zfl (mu μ 41 i 0 v) 41 i = zupN (zfl μ 41 i) 0 (zI v) := by
    funext s'
    unfold zupN
    by_cases hs : s' = 0
    · subst hs
      rw [if_pos rfl]
      exact congrArg zI (mu_at _ _ _ _)
    · rw [if_neg hs]
      have hne : ((s' : Nat) : Int) ≠ 0 := by omega
      have h0 : ∀ a b, mu μ 41 i 0 v 0 a b = μ 0 a b := fun a b => mu_k (by decide)
      have h9 : ∀ j, j ≠ 0 → mu μ 41 i 0 v 41 i j = μ 41 i j := fun j h => mu_j h
      unfold zfl
      split <;> first | rfl | (simp only [h0]) | (exact congrArg zI (h9 _ hne)) | (rw [h9 _ (by decide)]) | contradiction
  rw [e, key]
theorem fl41_1 : zfl μ 41 i 1 = zI (μ 41 i 1) := rfl
theorem wo41_1 (h1 : 0 ≤ i) (h2 : i < μ 0 0 41) : zset (HM μ) 41 i (.inl (0, zupN (zfl μ 41 i) 1 (zI v))) = HM (mu μ 41 i 1 v) := by
  refine HM_set (by decide) ?_
  have e : HM (mu μ 41 i 1 v) 41 i = some (.inl (0, zfl (mu μ 41 i 1 v) 41 i)) := if_pos ⟨h1, h2⟩
  have key : zfl (mu μ 41 i 1 v) 41 i = zupN (zfl μ 41 i) 1 (zI v) := by
    funext s'
    unfold zupN
    by_cases hs : s' = 1
    · subst hs
      rw [if_pos rfl]
      exact congrArg zI (mu_at _ _ _ _)
    · rw [if_neg hs]
      have hne : ((s' : Nat) : Int) ≠ 1 := by omega
      have h0 : ∀ a b, mu μ 41 i 1 v 0 a b = μ 0 a b := fun a b => mu_k (by decide)
      have h9 : ∀ j, j ≠ 1 → mu μ 41 i 1 v 41 i j = μ 41 i j := fun j h => mu_j h
      unfold zfl
      split <;> first | rfl | (simp only [h0]) | (exact congrArg zI (h9 _ hne)) | (rw [h9 _ (by decide)]) | contradiction
  rw [e, key]
theorem fl41_2 : zfl μ 41 i 2 = zR 30 (μ 41 i 2) := rfl
theorem fl41_3 : zfl μ 41 i 3 = zR 21 (μ 41 i 3) := rfl
theorem fl41_4 : zfl μ 41 i 4 = zR 50 i := rfl
theorem ob50 {F : (Nat → ZV) → Prop} (h1 : 0 ≤ i) (h2 : i < μ 0 0 50) : zGF (HM μ) 50 i 7 F ↔ F (zfl μ 50 i) := by
  have e : HM μ 50 i = some (.inl (7, zfl μ 50 i)) := if_pos ⟨h1, h2⟩
  unfold zGF
  rw [e]
  exact ⟨fun q => q.2, fun q => ⟨rfl, q⟩⟩
theorem oc50 (h1 : 0 ≤ i) (h2 : i < μ 0 0 50) : zGO (HM μ) 50 i 7 ↔ True := by
  have e : HM μ 50 i = some (.inl (7, zfl μ 50 i)) := if_pos ⟨h1, h2⟩
  exact ⟨fun _ => trivial, fun _ => ⟨_, e⟩⟩
theorem fl50_0 : zfl μ 50 i 0 = zI (μ 50 i 0) := rfl
theorem wo50_0 (h1 : 0 ≤ i) (h2 : i < μ 0 0 50) : zset (HM μ) 50 i (.inl (7, zupN (zfl μ 50 i) 0 (zI v))) = HM (mu μ 50 i 0 v) := by
  refine HM_set (by decide) ?_
  have e : HM (mu μ 50 i 0 v) 50 i = some (.inl (7, zfl (mu μ 50 i 0 v) 50 i)) := if_pos ⟨h1, h2⟩
  have key : zfl (mu μ 50 i 0 v) 50 i = zupN (zfl μ 50 i) 0 (zI v) := by
    funext s'
    unfold zupN
    by_cases hs : s' = 0
    · subst hs
      rw [if_pos rfl]
      exact congrArg zI (mu_at _ _ _ _)
    · rw [if_neg hs]
      have hne : ((s' : Nat) : Int) ≠ 0 := by omega
      have h0 : ∀ a b, mu μ 50 i 0 v 0 a b = μ 0 a b := fun a b => mu_k (by decide)
      have h9 : ∀ j, j ≠ 0 → mu μ 50 i 0 v 50 i j = μ 50 i j := fun j h => mu_j h
      unfold zfl
      split <;> first | rfl | (simp only [h0]) | (exact congrArg zI (h9 _ hne)) | (rw [h9 _ (by decide)]) | contradiction
  rw [e, key]
theorem fl50_1 : zfl μ 50 i 1 = zI (μ 50 i 1) := rfl
theorem wo50_1 (h1 : 0 ≤ i) (h2 : i < μ 0 0 50) : zset (HM μ) 50 i (.inl (7, zupN (zfl μ 50 i) 1 (zI v))) = HM (mu μ 50 i 1 v) := by
  refine HM_set (by decide) ?_
  have e : HM (mu μ 50 i 1 v) 50 i = some (.inl (7, zfl (mu μ 50 i 1 v) 50 i)) := if_pos ⟨h1, h2⟩
  have key : zfl (mu μ 50 i 1 v) 50 i = zupN (zfl μ 50 i) 1 (zI v) := by
    funext s'
    unfold zupN
    by_cases hs : s' = 1
    · subst hs
      rw [if_pos rfl]
      exact congrArg zI (mu_at _ _ _ _)
    · rw [if_neg hs]
      have hne : ((s' : Nat) : Int) ≠ 1 := by omega
      have h0 : ∀ a b, mu μ 50 i 1 v 0 a b = μ 0 a b := fun a b => mu_k (by decide)
      have h9 : ∀ j, j ≠ 1 → mu μ 50 i 1 v 50 i j = μ 50 i j := fun j h => mu_j h
      unfold zfl
      split <;> first | rfl | (simp only [h0]) | (exact congrArg zI (h9 _ hne)) | (rw [h9 _ (by decide)]) | contradiction
  rw [e, key]
theorem fl50_2 : zfl μ 50 i 2 = zI (μ 50 i 2) := rfl
theorem wo50_2 (h1 : 0 ≤ i) (h2 : i < μ 0 0 50) : zset (HM μ) 50 i (.inl (7, zupN (zfl μ 50 i) 2 (zI v))) = HM (mu μ 50 i 2 v) := by
  refine HM_set (by decide) ?_
  have e : HM (mu μ 50 i 2 v) 50 i = some (.inl (7, zfl (mu μ 50 i 2 v) 50 i)) := if_pos ⟨h1, h2⟩
  have key : zfl (mu μ 50 i 2 v) 50 i = zupN (zfl μ 50 i) 2 (zI v) := by
    funext s'
    unfold zupN
    by_cases hs : s' = 2
    · subst hs
      rw [if_pos rfl]
      exact congrArg zI (mu_at _ _ _ _)
    · rw [if_neg hs]
      have hne : ((s' : Nat) : Int) ≠ 2 := by omega
      have h0 : ∀ a b, mu μ 50 i 2 v 0 a b = μ 0 a b := fun a b => mu_k (by decide)
      have h9 : ∀ j, j ≠ 2 → mu μ 50 i 2 v 50 i j = μ 50 i j := fun j h => mu_j h
      unfold zfl
      split <;> first | rfl | (simp only [h0]) | (exact congrArg zI (h9 _ hne)) | (rw [h9 _ (by decide)]) | contradiction
  rw [e, key]
theorem fl50_3 : zfl μ 50 i 3 = zI (μ 50 i 3) := rfl
theorem wo50_3 (h1 : 0 ≤ i) (h2 : i < μ 0 0 50) : zset (HM μ) 50 i (.inl (7, zupN (zfl μ 50 i) 3 (zI v))) = HM (mu μ 50 i 3 v) := by
  refine HM_set (by decide) ?_
  have e : HM (mu μ 50 i 3 v) 50 i = some (.inl (7, zfl (mu μ 50 i 3 v) 50 i)) := if_pos ⟨h1, h2⟩
  have key : zfl (mu μ 50 i 3 v) 50 i = zupN (zfl μ 50 i) 3 (zI v) := by
    funext s'
    unfold zupN
    by_cases hs : s' = 3
    · subst hs
      rw [if_pos rfl]
      exact congrArg zI (mu_at _ _ _ _)
    · rw [if_neg hs]
      have hne : ((s' : Nat) : Int) ≠ 3 := by omega
      have h0 : ∀ a b, mu μ 50 i 3 v 0 a b = μ 0 a b := fun a b => mu_k (by decide)
      have h9 : ∀ j, j ≠ 3 → mu μ 50 i 3 v 50 i j = μ 50 i j := fun j h => mu_j h
      unfold zfl
      split <;> first | rfl | (simp only [h0]) | (exact congrArg zI (h9 _ hne)) | (rw [h9 _ (by decide)]) | contradiction
  rw [e, key]
theorem fl50_4 : zfl μ 50 i 4 = zI (μ 50 i 4) := rfl
theorem wo50_4 (h1 : 0 ≤ i) (h2 : i < μ 0 0 50) : zset (HM μ) 50 i (.inl (7, zupN (zfl μ 50 i) 4 (zI v))) = HM (mu μ 50 i 4 v) := by
  refine HM_set (by decide) ?_
  have e : HM (mu μ 50 i 4 v) 50 i = some (.inl (7, zfl (mu μ 50 i 4 v) 50 i)) := if_pos ⟨h1, h2⟩
  have key : zfl (mu μ 50 i 4 v) 50 i = zupN (zfl μ 50 i) 4 (zI v) := by
    funext s'
    unfold zupN
    by_cases hs : s' = 4
    · subst hs
      rw [if_pos rfl]
      exact congrArg zI (mu_at _ _ _ _)
    · rw [if_neg hs]
      have hne : ((s' : Nat) : Int) ≠ 4 := by omega
      have h0 : ∀ a b, mu μ 50 i 4 v 0 a b = μ 0 a b := fun a b => mu_k (by decide)
      have h9 : ∀ j, j ≠ 4 → mu μ 50 i 4 v 50 i j = μ 50 i j := fun j h => mu_j h
      unfold zfl
      split <;> first | rfl | (simp only [h0]) | (exact congrArg zI (h9 _ hne)) | (rw [h9 _ (by decide)]) | contradiction
  rw [e, key]
theorem fl50_5 : zfl μ 50 i 5 = zI (μ 50 i 5) := rfl
theorem wo50_5 (h1 : 0 ≤ i) (h2 : i < μ 0 0 50) : zset (HM μ) 50 i (.inl (7, zupN (zfl μ 50 i) 5 (zI v))) = HM (mu μ 50 i 5 v) := by
  refine HM_set (by decide) ?_
  have e : HM (mu μ 50 i 5 v) 50 i = some (.inl (7, zfl (mu μ 50 i 5 v) 50 i)) := if_pos ⟨h1, h2⟩
  have key : zfl (mu μ 50 i 5 v) 50 i = zupN (zfl μ 50 i) 5 (zI v) := by
    funext s'
    unfold zupN
    by_cases hs : s' = 5
    · subst hs
      rw [if_pos rfl]
      exact congrArg zI (mu_at _ _ _ _)
    · rw [if_neg hs]
      have hne : ((s' : Nat) : Int) ≠ 5 := by omega
      have h0 : ∀ a b, mu μ 50 i 5 v 0 a b = μ 0 a b := fun a b => mu_k (by decide)
      have h9 : ∀ j, j ≠ 5 → mu μ 50 i 5 v 50 i j = μ 50 i j := fun j h => mu_j h
      unfold zfl
      split <;> first | rfl | (simp only [h0]) | (exact congrArg zI (h9 _ hne)) | (rw [h9 _ (by decide)]) | contradiction
  rw [e, key]
theorem fl50_6 : zfl μ 50 i 6 = zR 51 i := rfl
theorem fl50_7 : zfl μ 50 i 7 = zR 52 i := rfl
theorem fl50_8 : zfl μ 50 i 8 = zR 53 i := rfl
theorem fl50_9 : zfl μ 50 i 9 = zR 54 i := rfl
theorem fl50_10 : zfl μ 50 i 10 = zR 55 i := rfl
theorem fl50_11 : zfl μ 50 i 11 = zR 56 i := rfl
end ZHM
