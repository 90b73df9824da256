/-! ===== every instruction of the tables is one that the small machine runs soundly ===== -/
def zcokB (k f : Nat) : Bool := zMLA.elem f && decide (zfr zZ f + 1 ≤ zfr zZ k) && decide (8 + (zmaxL zPr f + 11) + zlo zZ f ≤ zlo zZ k)
theorem zcokB.ok {k f : Nat} (h : zcokB k f = true) : zcok zPr zZ k f := by
  simp only [zcokB, Bool.and_eq_true, decide_eq_true_eq] at h
  obtain ⟨a, b, c, d⟩ := zML_all f (List.mem_of_elem_eq_true h.1.1)
  exact ⟨a, b, ⟨c, d⟩, h.1.2, h.2⟩
def zbrB (pc a : Nat) (o : Int) : Bool := decide ((pc : Int) + o = (a : Int))
def zlocB (k i : Nat) : Bool := decide (i < zmaxL zPr k) && (zlg zPr k).all (fun j => !(Nat.beq (j + 1) i))
theorem zlocB.ok {k i : Nat} (h : zlocB k i = true) : i < zmaxL zPr k ∧ ∀ j, j + 1 = i → j ∉ zlg zPr k := by
  simp only [zlocB, Bool.and_eq_true, decide_eq_true_eq] at h
  refine ⟨h.1, fun j e hj => ?_⟩
  have := List.all_eq_true.mp h.2 j hj
  rw [← e] at this
  simp at this
def zlocD (k a i : Nat) : Bool := decide (i < zmaxL zPr k) && (!(Nat.beq a 0) || (zlg zPr k).all (fun j => !(Nat.beq (j + 1) i)))
theorem zlocD.ok {k a i : Nat} (h : zlocD k a i = true) : i < zmaxL zPr k ∧ (a = 0 → ∀ j, j + 1 = i → j ∉ zlg zPr k) := by
  unfold zlocD at h
  have h := (Bool.and_eq_true _ _).mp h
  refine ⟨of_decide_eq_true h.1, fun ha => ?_⟩
  subst ha
  have h2 : zlocB k i = true := (Bool.and_eq_true _ _).mpr ⟨h.1, h.2⟩
  exact (zlocB.ok h2).2
def zlocL (k i : Nat) : Bool := decide (i + 1 < zmaxL zPr k) && ((zlg zPr k).elem i && zlocB k i)
theorem zlocL.ok {k i : Nat} (h : zlocL k i = true) : i + 1 < zmaxL zPr k ∧ i ∈ zlg zPr k ∧ ∀ j, j + 1 = i → j ∉ zlg zPr k := by
  have h := (Bool.and_eq_true _ _).mp h
  have h2 := (Bool.and_eq_true _ _).mp h.2
  exact ⟨of_decide_eq_true h.1, List.mem_of_elem_eq_true h2.1, (zlocB.ok h2.2).2⟩
def zfdB (a b v : Nat) : Bool := Nat.beq ((zfts.getD a []).getD b 9) v
def zfiB (k a b : Nat) : Bool := match vwCl[a]? with
  | some r => !(r.2.1 b).2.2.2 || (decide ((zyn zZ k).name = "<init>") && decide (zown zZ k = r.1))
  | none => false
theorem zfdB.ok0 {a b : Nat} (h : zfdB a b 0 = true) : zPr.2.2 a b = zI 0 := by
  show (if (zfts.getD a []).getD b 0 = 0 then zI 0 else zN) = zI 0
  have h := Nat.eq_of_beq_eq_true h
  rw [if_pos]
  rw [List.getD_eq_getElem?_getD] at h ⊢
  cases e : (zfts.getD a [])[b]? with
  | none => rfl
  | some v => rw [e] at h; exact h
theorem zfdB.ok1 {a b : Nat} (h : zfdB a b 1 = true) : zPr.2.2 a b = zN := by
  show (if (zfts.getD a []).getD b 0 = 0 then zI 0 else zN) = zN
  have h := Nat.eq_of_beq_eq_true h
  rw [if_neg]
  rw [List.getD_eq_getElem?_getD] at h ⊢
  cases e : (zfts.getD a [])[b]? with
  | none => rw [e] at h; exact absurd (show (9:Nat) = 1 from h) (by decide)
  | some v => rw [e] at h; rw [show v = 1 from h]; exact (by decide)
theorem zfiB.ok {k a b : Nat} {r : vw_C} (h : zfiB k a b = true) (e : vwCl[a]? = some r) : (r.2.1 b).2.2.2 = true → (zyn zZ k).name = "<init>" ∧ zown zZ k = r.1 := by
  intro q
  unfold zfiB at h
  rw [e] at h
  simp only [q, Bool.not_true, Bool.false_or, Bool.and_eq_true, decide_eq_true_eq] at h
  exact h
def zchk (k pc : Nat) (ig : Instr) (len a b : Nat) : Bool := match ig with
  | .aconst_null => Nat.beq len 1
  | .lconst _ => Nat.beq len 1
  | .iload_n _ => Nat.beq len 1
  | .lload_n _ => Nat.beq len 1
  | .aload_n _ => Nat.beq len 1
  | .dup => Nat.beq len 1
  | .dup2 => Nat.beq len 1
  | .iadd => Nat.beq len 1
  | .isub => Nat.beq len 1
  | .imul => Nat.beq len 1
  | .idiv => Nat.beq len 1
  | .ladd => Nat.beq len 1
  | .lsub => Nat.beq len 1
  | .lmul => Nat.beq len 1
  | .ldiv => Nat.beq len 1
  | .lrem => Nat.beq len 1
  | .irem => Nat.beq len 1
  | .iand => Nat.beq len 1
  | .ior => Nat.beq len 1
  | .ixor => Nat.beq len 1
  | .ishl => Nat.beq len 1
  | .ishr => Nat.beq len 1
  | .land => Nat.beq len 1
  | .lor => Nat.beq len 1
  | .lcmp => Nat.beq len 1
  | .lshl => Nat.beq len 1
  | .lshr => Nat.beq len 1
  | .lushr => Nat.beq len 1
  | .i2l => Nat.beq len 1
  | .l2i => Nat.beq len 1
  | .iaload => Nat.beq len 1
  | .laload => Nat.beq len 1
  | .baload => Nat.beq len 1
  | .aaload => Nat.beq len 1
  | .iastore => Nat.beq len 1
  | .lastore => Nat.beq len 1
  | .bastore => Nat.beq len 1
  | .aastore => Nat.beq len 1
  | .arraylength => Nat.beq len 1
  | .ireturn => Nat.beq len 1
  | .areturn => Nat.beq len 1
  | .lreturn => Nat.beq len 1
  | .return_ => Nat.beq len 1
  | .iload _ => Nat.beq len 2
  | .lload _ => Nat.beq len 2
  | .aload _ => Nat.beq len 2
  | .iconst i => Nat.beq len 1 && decide (-2147483648 ≤ i ∧ i < 2147483648)
  | .bipush i => Nat.beq len 2 && (decide (-2147483648 ≤ i ∧ i < 2147483648) && decide ((Int8.ofInt i).toInt32 = Int32.ofInt i))
  | .sipush i => Nat.beq len 3 && (decide (-2147483648 ≤ i ∧ i < 2147483648) && decide ((Int16.ofInt i).toInt32 = Int32.ofInt i))
  | .ldc i => Nat.beq len 2 && zCIA.elem (zoc k, i, a)
  | .ldc_w i => Nat.beq len 3 && zCIA.elem (zoc k, i, a)
  | .ldc2_w i => Nat.beq len 3 && zCJA.elem (zoc k, i, a)
  | .istore i => Nat.beq len 2 && zlocD k a i
  | .astore i => Nat.beq len 2 && zlocD k a i
  | .istore_n i => Nat.beq len 1 && zlocD k a i.val
  | .astore_n i => Nat.beq len 1 && zlocD k a i.val
  | .lstore i => Nat.beq len 2 && zlocL k i
  | .iinc i _ => Nat.beq len 3 && zlocB k i
  | .goto o => Nat.beq len 3 && zbrB pc a o
  | .ifCond .eq o => Nat.beq len 3 && zbrB pc a o
  | .if_icmp .eq o => Nat.beq len 3 && zbrB pc a o
  | .ifCond .ne o => Nat.beq len 3 && zbrB pc a o
  | .if_icmp .ne o => Nat.beq len 3 && zbrB pc a o
  | .ifCond .lt o => Nat.beq len 3 && zbrB pc a o
  | .if_icmp .lt o => Nat.beq len 3 && zbrB pc a o
  | .ifCond .ge o => Nat.beq len 3 && zbrB pc a o
  | .if_icmp .ge o => Nat.beq len 3 && zbrB pc a o
  | .ifCond .gt o => Nat.beq len 3 && zbrB pc a o
  | .if_icmp .gt o => Nat.beq len 3 && zbrB pc a o
  | .ifCond .le o => Nat.beq len 3 && zbrB pc a o
  | .if_icmp .le o => Nat.beq len 3 && zbrB pc a o
  | .if_acmp .eq o => Nat.beq len 3 && zbrB pc a o
  | .if_acmp .ne o => Nat.beq len 3 && zbrB pc a o
  | .ifnull o => Nat.beq len 3 && zbrB pc a o
  | .ifnonnull o => Nat.beq len 3 && zbrB pc a o
  | .tableswitch d _ _ offs => decide (0 ≤ (pc : Int) + d) && offs.toList.all (fun o => decide (0 ≤ (pc : Int) + o))
  | .getfield i => Nat.beq len 3 && zFLA.elem (zoc k, i, a, b)
  | .putfield i => Nat.beq len 3 && (if b < 1000 then zFLA.elem (zoc k, i, a, b) && (zfdB a b 0 && zfiB k a b) else zFLA.elem (zoc k, i, a, b - 1000) && (zfdB a (b - 1000) 1 && zfiB k a (b - 1000)))
  | .newarray t => Nat.beq len 2 && (decide (t = .int) || decide (t = .long))
  | .anewarray i => Nat.beq len 3 && zANA.elem (zoc k, i, a)
  | .new i => Nat.beq len 3 && (if a < 1000 then zNWA.elem (zoc k, i, a, b) else zTLA.elem (k, pc, a - 1000))
  | .invokevirtual i => Nat.beq len 3 && (zcokB k a && (zVMA.elem a && zVLA.elem (zoc k, i, a)))
  | .invokestatic i => Nat.beq len 3 && (match b with
    | 0 => zcokB k a && (zSMA.elem a && zSLA.elem (zoc k, i, a))
    | 1 => zcokB k a && (decide (zhh zZ a = []) && (zSMA.elem a && zNLA.elem (zoc k, i, a)))
    | 6 => Nat.beq (zoc k) 8 && Nat.beq i 265 && decide (1 ≤ zfr zZ k) && decide (21 ≤ zlo zZ k)
    | 7 => Nat.beq (zoc k) 6 && Nat.beq i 173 && decide (1 ≤ zfr zZ k) && decide (21 ≤ zlo zZ k)
    | _ => false)
  | .invokespecial i => Nat.beq len 3 && (match b with
    | 1 => zcokB k a && (zICA.elem a && zILA.elem (zoc k, i, a))
    | 2 => zcokB k a && (zICA.elem a && zNLA.elem (zoc k, i, a))
    | 8 => zOBA.elem (zoc k, i) && decide (1 ≤ zfr zZ k) && decide (20 ≤ zlo zZ k)
    | _ => false)
  | _ => false
set_option maxHeartbeats 8000000 in
theorem zchk.ok {k pc len a b : Nat} {ig : Instr} (h : zchk k pc ig len a b = true) : zsite zPr zZ k pc ig len a b := by
  unfold zchk at h
  split at h
  · exact ⟨Nat.eq_of_beq_eq_true h, trivial⟩
  · exact ⟨Nat.eq_of_beq_eq_true h, trivial⟩
  · exact ⟨Nat.eq_of_beq_eq_true h, trivial⟩
  · exact ⟨Nat.eq_of_beq_eq_true h, trivial⟩
  · exact ⟨Nat.eq_of_beq_eq_true h, trivial⟩
  · exact ⟨Nat.eq_of_beq_eq_true h, trivial⟩
  · exact ⟨Nat.eq_of_beq_eq_true h, trivial⟩
  · exact ⟨Nat.eq_of_beq_eq_true h, trivial⟩
  · exact ⟨Nat.eq_of_beq_eq_true h, trivial⟩
  · exact ⟨Nat.eq_of_beq_eq_true h, trivial⟩
  · exact ⟨Nat.eq_of_beq_eq_true h, trivial⟩
  · exact ⟨Nat.eq_of_beq_eq_true h, trivial⟩
  · exact ⟨Nat.eq_of_beq_eq_true h, trivial⟩
  · exact ⟨Nat.eq_of_beq_eq_true h, trivial⟩
  · exact ⟨Nat.eq_of_beq_eq_true h, trivial⟩
  · exact ⟨Nat.eq_of_beq_eq_true h, trivial⟩
  · exact ⟨Nat.eq_of_beq_eq_true h, trivial⟩
  · exact ⟨Nat.eq_of_beq_eq_true h, trivial⟩
  · exact ⟨Nat.eq_of_beq_eq_true h, trivial⟩
  · exact ⟨Nat.eq_of_beq_eq_true h, trivial⟩
  · exact ⟨Nat.eq_of_beq_eq_true h, trivial⟩
  · exact ⟨Nat.eq_of_beq_eq_true h, trivial⟩
  · exact ⟨Nat.eq_of_beq_eq_true h, trivial⟩
  · exact ⟨Nat.eq_of_beq_eq_true h, trivial⟩
  · exact ⟨Nat.eq_of_beq_eq_true h, trivial⟩
  · exact ⟨Nat.eq_of_beq_eq_true h, trivial⟩
  · exact ⟨Nat.eq_of_beq_eq_true h, trivial⟩
  · exact ⟨Nat.eq_of_beq_eq_true h, trivial⟩
  · exact ⟨Nat.eq_of_beq_eq_true h, trivial⟩
  · exact ⟨Nat.eq_of_beq_eq_true h, trivial⟩
  · exact ⟨Nat.eq_of_beq_eq_true h, trivial⟩
  · exact ⟨Nat.eq_of_beq_eq_true h, trivial⟩
  · exact ⟨Nat.eq_of_beq_eq_true h, trivial⟩
  · exact ⟨Nat.eq_of_beq_eq_true h, trivial⟩
  · exact ⟨Nat.eq_of_beq_eq_true h, trivial⟩
  · exact ⟨Nat.eq_of_beq_eq_true h, trivial⟩
  · exact ⟨Nat.eq_of_beq_eq_true h, trivial⟩
  · exact ⟨Nat.eq_of_beq_eq_true h, trivial⟩
  · exact ⟨Nat.eq_of_beq_eq_true h, trivial⟩
  · exact ⟨Nat.eq_of_beq_eq_true h, trivial⟩
  · exact ⟨Nat.eq_of_beq_eq_true h, trivial⟩
  · exact ⟨Nat.eq_of_beq_eq_true h, trivial⟩
  · exact ⟨Nat.eq_of_beq_eq_true h, trivial⟩
  · exact ⟨Nat.eq_of_beq_eq_true h, trivial⟩
  · exact ⟨Nat.eq_of_beq_eq_true h, trivial⟩
  · exact ⟨Nat.eq_of_beq_eq_true h, trivial⟩
  · have h := (Bool.and_eq_true _ _).mp h
    have h9 := of_decide_eq_true h.2
    exact ⟨Nat.eq_of_beq_eq_true h.1, h9⟩
  · have h := (Bool.and_eq_true _ _).mp h
    have h2 := (Bool.and_eq_true _ _).mp h.2
    have h9 := of_decide_eq_true h2.1
    exact ⟨Nat.eq_of_beq_eq_true h.1, h9, of_decide_eq_true h2.2⟩
  · have h := (Bool.and_eq_true _ _).mp h
    have h2 := (Bool.and_eq_true _ _).mp h.2
    have h9 := of_decide_eq_true h2.1
    exact ⟨Nat.eq_of_beq_eq_true h.1, h9, of_decide_eq_true h2.2⟩
  · have h := (Bool.and_eq_true _ _).mp h
    exact ⟨Nat.eq_of_beq_eq_true h.1, zCI_all (zoc k, _, a) (List.mem_of_elem_eq_true h.2)⟩
  · have h := (Bool.and_eq_true _ _).mp h
    exact ⟨Nat.eq_of_beq_eq_true h.1, zCI_all (zoc k, _, a) (List.mem_of_elem_eq_true h.2)⟩
  · have h := (Bool.and_eq_true _ _).mp h
    exact ⟨Nat.eq_of_beq_eq_true h.1, zCJ_all (zoc k, _, a) (List.mem_of_elem_eq_true h.2)⟩
  · have h := (Bool.and_eq_true _ _).mp h
    exact ⟨Nat.eq_of_beq_eq_true h.1, zlocD.ok h.2⟩
  · have h := (Bool.and_eq_true _ _).mp h
    exact ⟨Nat.eq_of_beq_eq_true h.1, zlocD.ok h.2⟩
  · have h := (Bool.and_eq_true _ _).mp h
    exact ⟨Nat.eq_of_beq_eq_true h.1, zlocD.ok h.2⟩
  · have h := (Bool.and_eq_true _ _).mp h
    exact ⟨Nat.eq_of_beq_eq_true h.1, zlocD.ok h.2⟩
  · have h := (Bool.and_eq_true _ _).mp h
    exact ⟨Nat.eq_of_beq_eq_true h.1, zlocL.ok h.2⟩
  · have h := (Bool.and_eq_true _ _).mp h
    exact ⟨Nat.eq_of_beq_eq_true h.1, zlocB.ok h.2⟩
  · have h := (Bool.and_eq_true _ _).mp h
    exact ⟨Nat.eq_of_beq_eq_true h.1, of_decide_eq_true h.2⟩
  · have h := (Bool.and_eq_true _ _).mp h
    exact ⟨Nat.eq_of_beq_eq_true h.1, of_decide_eq_true h.2⟩
  · have h := (Bool.and_eq_true _ _).mp h
    exact ⟨Nat.eq_of_beq_eq_true h.1, of_decide_eq_true h.2⟩
  · have h := (Bool.and_eq_true _ _).mp h
    exact ⟨Nat.eq_of_beq_eq_true h.1, of_decide_eq_true h.2⟩
  · have h := (Bool.and_eq_true _ _).mp h
    exact ⟨Nat.eq_of_beq_eq_true h.1, of_decide_eq_true h.2⟩
  · have h := (Bool.and_eq_true _ _).mp h
    exact ⟨Nat.eq_of_beq_eq_true h.1, of_decide_eq_true h.2⟩
  · have h := (Bool.and_eq_true _ _).mp h
    exact ⟨Nat.eq_of_beq_eq_true h.1, of_decide_eq_true h.2⟩
  · have h := (Bool.and_eq_true _ _).mp h
    exact ⟨Nat.eq_of_beq_eq_true h.1, of_decide_eq_true h.2⟩
  · have h := (Bool.and_eq_true _ _).mp h
    exact ⟨Nat.eq_of_beq_eq_true h.1, of_decide_eq_true h.2⟩
  · have h := (Bool.and_eq_true _ _).mp h
    exact ⟨Nat.eq_of_beq_eq_true h.1, of_decide_eq_true h.2⟩
  · have h := (Bool.and_eq_true _ _).mp h
    exact ⟨Nat.eq_of_beq_eq_true h.1, of_decide_eq_true h.2⟩
  · have h := (Bool.and_eq_true _ _).mp h
    exact ⟨Nat.eq_of_beq_eq_true h.1, of_decide_eq_true h.2⟩
  · have h := (Bool.and_eq_true _ _).mp h
    exact ⟨Nat.eq_of_beq_eq_true h.1, of_decide_eq_true h.2⟩
  · have h := (Bool.and_eq_true _ _).mp h
    exact ⟨Nat.eq_of_beq_eq_true h.1, of_decide_eq_true h.2⟩
  · have h := (Bool.and_eq_true _ _).mp h
    exact ⟨Nat.eq_of_beq_eq_true h.1, of_decide_eq_true h.2⟩
  · have h := (Bool.and_eq_true _ _).mp h
    exact ⟨Nat.eq_of_beq_eq_true h.1, of_decide_eq_true h.2⟩
  · have h := (Bool.and_eq_true _ _).mp h
    exact ⟨Nat.eq_of_beq_eq_true h.1, of_decide_eq_true h.2⟩
  · have h := (Bool.and_eq_true _ _).mp h
    intro o ho
    rcases ho with rfl | ho
    · exact of_decide_eq_true h.1
    · exact of_decide_eq_true (List.all_eq_true.mp h.2 o (Array.mem_toList_iff.mpr ho))
  · have h := (Bool.and_eq_true _ _).mp h
    exact ⟨Nat.eq_of_beq_eq_true h.1, zFL_all (zoc k, _, a, b) (List.mem_of_elem_eq_true h.2)⟩
  · have h := (Bool.and_eq_true _ _).mp h
    refine ⟨Nat.eq_of_beq_eq_true h.1, ?_⟩
    have h := h.2
    split at h
    · rename_i hb
      have h := (Bool.and_eq_true _ _).mp h
      have h2 := (Bool.and_eq_true _ _).mp h.2
      obtain ⟨r, r1, r2, r3⟩ := zFL_all (zoc k, _, a, b) (List.mem_of_elem_eq_true h.1)
      exact Or.inl ⟨hb, r, r1, r2, zfdB.ok0 h2.1, r3, zfiB.ok h2.2 r1⟩
    · rename_i hb
      have h := (Bool.and_eq_true _ _).mp h
      have h2 := (Bool.and_eq_true _ _).mp h.2
      obtain ⟨r, r1, r2, r3⟩ := zFL_all (zoc k, _, a, b - 1000) (List.mem_of_elem_eq_true h.1)
      exact Or.inr ⟨Nat.le_of_not_lt hb, r, r1, r2, zfdB.ok1 h2.1, r3, zfiB.ok h2.2 r1⟩
  · have h := (Bool.and_eq_true _ _).mp h
    refine ⟨Nat.eq_of_beq_eq_true h.1, ?_⟩
    have h := h.2
    simp only [Bool.or_eq_true, decide_eq_true_eq] at h
    rcases h with rfl | rfl
    · exact ⟨zac_int, Or.inl rfl⟩
    · exact ⟨zac_long, Or.inr (Or.inl rfl)⟩
  · have h := (Bool.and_eq_true _ _).mp h
    exact ⟨Nat.eq_of_beq_eq_true h.1, zAN_all (zoc k, _, a) (List.mem_of_elem_eq_true h.2)⟩
  · have h := (Bool.and_eq_true _ _).mp h
    refine ⟨Nat.eq_of_beq_eq_true h.1, ?_⟩
    have h := h.2
    split at h
    · rename_i hb
      exact Or.inl ⟨hb, zNW_all (zoc k, _, a, b) (List.mem_of_elem_eq_true h)⟩
    · rename_i hb
      exact Or.inr ⟨Nat.le_of_not_lt hb, zTL_all (k, pc, a - 1000) (List.mem_of_elem_eq_true h)⟩
  · have h := (Bool.and_eq_true _ _).mp h
    have h2 := (Bool.and_eq_true _ _).mp h.2
    have h3 := (Bool.and_eq_true _ _).mp h2.2
    obtain ⟨v1, v2, v3, v4, v5⟩ := zVM_all a (List.mem_of_elem_eq_true h3.1)
    exact ⟨Nat.eq_of_beq_eq_true h.1, zcokB.ok h2.1, v1, v2, zVL_all (zoc k, _, a) (List.mem_of_elem_eq_true h3.2), v3, v4, v5⟩
  · have h := (Bool.and_eq_true _ _).mp h
    refine ⟨Nat.eq_of_beq_eq_true h.1, ?_⟩
    have h := h.2
    split at h
    · have h2 := (Bool.and_eq_true _ _).mp h
      have h3 := (Bool.and_eq_true _ _).mp h2.2
      obtain ⟨v1, v2⟩ := zSM_all a (List.mem_of_elem_eq_true h3.1)
      exact Or.inl ⟨rfl, zcokB.ok h2.1, zSL_all (zoc k, _, a) (List.mem_of_elem_eq_true h3.2), v1, v2⟩
    · have h2 := (Bool.and_eq_true _ _).mp h
      have h3 := (Bool.and_eq_true _ _).mp h2.2
      have h4 := (Bool.and_eq_true _ _).mp h3.2
      obtain ⟨v1, v2⟩ := zSM_all a (List.mem_of_elem_eq_true h4.1)
      exact Or.inr (Or.inl ⟨rfl, zcokB.ok h2.1, of_decide_eq_true h3.1, zNL_all (zoc k, _, a) (List.mem_of_elem_eq_true h4.2), v1, v2⟩)
    · simp only [Bool.and_eq_true, decide_eq_true_eq] at h
      obtain ⟨⟨⟨e1, e2⟩, e3⟩, e4⟩ := h
      refine Or.inr (Or.inr (Or.inl ⟨rfl, ?_, zma_6.2.1, zma_6.2.2.1, zma_6.2.2.2, e3, e4⟩))
      have := zma_6.1
      rw [← Nat.eq_of_beq_eq_true e1, ← Nat.eq_of_beq_eq_true e2] at this
      exact this
    · simp only [Bool.and_eq_true, decide_eq_true_eq] at h
      obtain ⟨⟨⟨e1, e2⟩, e3⟩, e4⟩ := h
      refine Or.inr (Or.inr (Or.inr ⟨rfl, ?_, zma_7.2.1, zma_7.2.2.1, zma_7.2.2.2, e3, e4⟩))
      have := zma_7.1
      rw [← Nat.eq_of_beq_eq_true e1, ← Nat.eq_of_beq_eq_true e2] at this
      exact this
    · cases h
  · have h := (Bool.and_eq_true _ _).mp h
    refine ⟨Nat.eq_of_beq_eq_true h.1, ?_⟩
    have h := h.2
    split at h
    · have h2 := (Bool.and_eq_true _ _).mp h
      have h3 := (Bool.and_eq_true _ _).mp h2.2
      obtain ⟨v1, v2, v3, v4, v5, v6⟩ := zIC_all a (List.mem_of_elem_eq_true h3.1)
      exact Or.inl ⟨Or.inl rfl, zcokB.ok h2.1, v1, v2, v3, v4, Or.inl ⟨rfl, zIL_all (zoc k, _, a) (List.mem_of_elem_eq_true h3.2)⟩, v5, v6⟩
    · have h2 := (Bool.and_eq_true _ _).mp h
      have h3 := (Bool.and_eq_true _ _).mp h2.2
      obtain ⟨v1, v2, v3, v4, v5, v6⟩ := zIC_all a (List.mem_of_elem_eq_true h3.1)
      exact Or.inl ⟨Or.inr rfl, zcokB.ok h2.1, v1, v2, v3, v4, Or.inr ⟨rfl, zNL_all (zoc k, _, a) (List.mem_of_elem_eq_true h3.2)⟩, v5, v6⟩
    · simp only [Bool.and_eq_true, decide_eq_true_eq] at h
      obtain ⟨⟨e1, e2⟩, e3⟩ := h
      obtain ⟨v1, v2, v3⟩ := zOB_all (zoc k, _) (List.mem_of_elem_eq_true e1)
      exact Or.inr ⟨rfl, v1, v2, v3, e2, e3⟩
    · cases h
  · cases h
def zokI (k : Nat) (x : Nat × ZI) : Bool := decide (decode (zcc zZ k) x.1 = .ok (x.2.1, x.2.2.1)) && zchk k x.1 x.2.1 x.2.2.1 x.2.2.2.1 x.2.2.2.2
def zmtB (k : Nat) : Bool := (plainName (zyn zZ k).cls && decide ((zyn zZ k).cls = zown zZ k)) && (match zrk zPr k, zret zZ k with
  | 0, none => true
  | 1, some .int => true
  | 2, some .boolean => true
  | 3, some (.object _) => true
  | 3, some (.array _) => true
  | 4, some .long => true
  | _, _ => false)
theorem zmtB.ok {k : Nat} (h : zmtB k = true) : plainName (zyn zZ k).cls = true ∧ (zyn zZ k).cls = zown zZ k ∧ (zrk zPr k = 0 → zret zZ k = none) ∧ (zrk zPr k = 1 → zret zZ k = some .int) ∧ (zrk zPr k = 2 → zret zZ k = some .boolean) ∧ (zrk zPr k = 3 → ∃ rt, zret zZ k = some rt ∧ ((∃ n, rt = .object n) ∨ ∃ t, rt = .array t)) ∧ (zrk zPr k = 4 → zret zZ k = some .long) := by
  unfold zmtB at h
  have h := (Bool.and_eq_true _ _).mp h
  have h1 := (Bool.and_eq_true _ _).mp h.1
  refine ⟨h1.1, of_decide_eq_true h1.2, ?_⟩
  have h2 := h.2
  split at h2
  · rename_i e1 e2
    exact ⟨fun _ => e2, fun z => (by rw [e1] at z; cases z), fun z => (by rw [e1] at z; cases z), fun z => (by rw [e1] at z; cases z), fun z => (by rw [e1] at z; cases z)⟩
  · rename_i e1 e2
    exact ⟨fun z => (by rw [e1] at z; cases z), fun _ => e2, fun z => (by rw [e1] at z; cases z), fun z => (by rw [e1] at z; cases z), fun z => (by rw [e1] at z; cases z)⟩
  · rename_i e1 e2
    exact ⟨fun z => (by rw [e1] at z; cases z), fun z => (by rw [e1] at z; cases z), fun _ => e2, fun z => (by rw [e1] at z; cases z), fun z => (by rw [e1] at z; cases z)⟩
  · rename_i n e1 e2
    exact ⟨fun z => (by rw [e1] at z; cases z), fun z => (by rw [e1] at z; cases z), fun z => (by rw [e1] at z; cases z), fun _ => ⟨_, e2, Or.inl ⟨n, rfl⟩⟩, fun z => (by rw [e1] at z; cases z)⟩
  · rename_i n e1 e2
    exact ⟨fun z => (by rw [e1] at z; cases z), fun z => (by rw [e1] at z; cases z), fun z => (by rw [e1] at z; cases z), fun _ => ⟨_, e2, Or.inr ⟨n, rfl⟩⟩, fun z => (by rw [e1] at z; cases z)⟩
  · rename_i e1 e2
    exact ⟨fun z => (by rw [e1] at z; cases z), fun z => (by rw [e1] at z; cases z), fun z => (by rw [e1] at z; cases z), fun z => (by rw [e1] at z; cases z), fun _ => e2⟩
  · cases h2
def zokM (k : Nat) : Prop := (∀ x ∈ zcodes.getD k [], zokI k x = true) ∧ zmtB k = true ∧ zHDr (zown zZ k) zTB (zhd zPr k) (zhh zZ k)
