/-! ===== a method's body; every method's contract out of a run ===== -/
def zrok (P : ZP) (k : Nat) (ig : Instr) (v : Option ZV) : Prop :=
  (ig = .ireturn ∧ zrk P k = 1 ∧ ∃ z, v = some (zI z)) ∨ (ig = .ireturn ∧ zrk P k = 2 ∧ (v = some (zI 0) ∨ v = some (zI 1))) ∨ (ig = .areturn ∧ zrk P k = 3 ∧ ∃ x y, v = some (zR x y)) ∨ (ig = .return_ ∧ zrk P k = 0 ∧ v = none) ∨ (ig = .lreturn ∧ zrk P k = 4 ∧ ∃ x, v = some (zL x))
def znm : List String := ["java/lang/RuntimeException", "java/lang/Exception"]
def zTHOK (Z : ZT) (k pc E : Nat) : Prop := ∃ (ik is ic : Nat) (text : String),
  decode (zcc Z k) pc = .ok (.new ik, 3) ∧ decode (zcc Z k) (pc + 3) = .ok (.dup, 1) ∧
  ((decode (zcc Z k) (pc + 4) = .ok (.ldc is, 2) ∧ decode (zcc Z k) (pc + 6) = .ok (.invokespecial ic, 3) ∧ decode (zcc Z k) (pc + 9) = .ok (.athrow, 1)) ∨
   (decode (zcc Z k) (pc + 4) = .ok (.ldc_w is, 3) ∧ decode (zcc Z k) (pc + 7) = .ok (.invokespecial ic, 3) ∧ decode (zcc Z k) (pc + 10) = .ok (.athrow, 1))) ∧
  Jvm.Cond.classLink (zown Z k) ik (zen E) ∈ Z.2.1 ∧ Jvm.Cond.initialized (zen E) ∈ Z.2.1 ∧ (zown Z k, is, text) ∈ Z.2.2.2.1 ∧ (∀ w ∈ (vx_atS (zown Z k) ic (zen E) znm).filter goodWord, w ∈ Z.2.1) ∧
  (∀ w ∈ (vx_atS (zown Z k) ic (zen E) znm).filter (fun w => !goodWord w), w = Jvm.Cond.castable (zen E) (zen E) ∨ ∃ Y ∈ zdcl, w = Jvm.Cond.declares (Bundle.initS Y)) ∧ (∀ w ∈ vx_atS (zown Z k) ic (zen E) znm, vx_ot w = true) ∧
  Bundle.fit (zen E) = true ∧ 5 < zfr Z k ∧ 90 ≤ zlo Z k ∧ zhh Z k = [] ∧ E < 3
def zRET (P : ZP) (Z : ZT) (D : va_G) (lo k MC MS : Nat) (ρ0 : Nat → Int → Nat) (h0 : ZH) (Qm : ZO → ZH → Prop) (p : Program) (l : Launch) (e : Env) (R : Room) (s : State) (m : MethodId) (args : Array Value) (below : List Frame) (meth : Method) (c : Code) (Q : State → Prop) : Prop :=
  ∀ (v : Option ZV) (w : Option Value) (ρ : Nat → Int → Nat) (h : ZH) (H : Heap) (locs : List Loc) (cells slots pc : Nat) (L : Array Slot) (ig : Instr), Qm (.inl v) h → zOV ρ h v w → zRel D lo s ρ h H → zExt ρ0 h0 ρ h → va_S (fun q => lo ≤ q) s.heap H locs → cells ≤ MC → slots ≤ MS → decode (zcc Z k) pc = .ok (ig, 1) → zrok P k ig v → W p l e R s m args below meth c H locs cells slots Q (F0 m pc L w.toList)
def zTHO (P : ZP) (Z : ZT) (D : va_G) (lo k MC MS : Nat) (ρ0 : Nat → Int → Nat) (h0 : ZH) (Qm : ZO → ZH → Prop) (p : Program) (l : Launch) (e : Env) (R : Room) (s : State) (m : MethodId) (args : Array Value) (below : List Frame) (meth : Method) (c : Code) (Q : State → Prop) : Prop :=
  ∀ (E : Nat) (ρ : Nat → Int → Nat) (h : ZH) (H : Heap) (locs : List Loc) (cells slots pc : Nat) (L : Array Slot) (ST : List Value), Qm (.inr E) h → zRel D lo s ρ h H → zExt ρ0 h0 ρ h → va_S (fun q => lo ≤ q) s.heap H locs → cells + 1 ≤ MC → slots + 6 ≤ MS → L.size = zmaxL P k → ST.length ≤ 4 → zTHOK Z k pc E → W p l e R s m args below meth c H locs cells slots Q (F0 m pc L ST)
section ZRT
variable {p : Program} {l : Launch} {e : Env} {R : Room} {s : State} {m : MethodId} {args : Array Value} {below : List Frame} {meth : Method} {c : Code} {H : Heap} {locs : List Loc} {cells slots : Nat} {Q : State → Prop}
variable {P : ZP} {Z : ZT} {D : va_G} {lo k MC MS : Nat} {ρ0 ρ : Nat → Int → Nat} {h0 h : ZH} {K : Nat → ZS → (ZO → ZH → Prop) → Prop} {Qm : ZO → ZH → Prop} {pc a b ck sk : Nat} {ls st : List ZV} {L : Array Slot} {ST : List Value}
theorem zs_ireturn (C : zCtx P Z D lo k p s m args meth c) (I : zInv P D lo k s MC MS ρ0 h0 ρ ls st h ck sk H locs cells slots L ST) (RT : zRET P Z D lo k MC MS ρ0 h0 Qm p l e R s m args below meth c Q) (hdo : zdo P K k pc ls h ck sk Qm (zact P k pc (.ireturn) 1 a b ls st h ck sk)) (hd : decode (zcc Z k) pc = .ok (.ireturn, 1)) : W p l e R s m args below meth c H locs cells slots Q (F0 m pc L ST) := by
  simp only [zact] at hdo
  split at hdo
  · rename_i z
    obtain ⟨h1, h2⟩ := hdo
    obtain ⟨w, ST', rfl, h3, h4⟩ := I.2.2.1.cons
    cases h4.nil
    obtain ⟨i1, i2, i3, i4, i5, i6, i7⟩ := I
    refine RT (some (zI z)) (some w) ρ h H locs cells slots pc L .ireturn h2 h3 i1 i7 i4 (by omega) (by omega) hd ?_
    rcases h1 with h1 | ⟨h1, rfl | rfl⟩
    · exact Or.inl ⟨rfl, h1, z, rfl⟩
    · exact Or.inr (Or.inl ⟨rfl, h1, Or.inl rfl⟩)
    · exact Or.inr (Or.inl ⟨rfl, h1, Or.inr rfl⟩)
  · exact (zdo_bad hdo).elim
theorem zs_areturn (C : zCtx P Z D lo k p s m args meth c) (I : zInv P D lo k s MC MS ρ0 h0 ρ ls st h ck sk H locs cells slots L ST) (RT : zRET P Z D lo k MC MS ρ0 h0 Qm p l e R s m args below meth c Q) (hdo : zdo P K k pc ls h ck sk Qm (zact P k pc (.areturn) 1 a b ls st h ck sk)) (hd : decode (zcc Z k) pc = .ok (.areturn, 1)) : W p l e R s m args below meth c H locs cells slots Q (F0 m pc L ST) := by
  simp only [zact] at hdo
  split at hdo
  · rename_i x y
    obtain ⟨h1, h2⟩ := hdo
    obtain ⟨w, ST', rfl, h3, h4⟩ := I.2.2.1.cons
    cases h4.nil
    obtain ⟨i1, i2, i3, i4, i5, i6, i7⟩ := I
    exact RT (some (zR x y)) (some w) ρ h H locs cells slots pc L .areturn h2 h3 i1 i7 i4 (by omega) (by omega) hd (Or.inr (Or.inr (Or.inl ⟨rfl, h1, x, y, rfl⟩)))
  · exact (zdo_bad hdo).elim
theorem zs_lreturn (C : zCtx P Z D lo k p s m args meth c) (I : zInv P D lo k s MC MS ρ0 h0 ρ ls st h ck sk H locs cells slots L ST) (RT : zRET P Z D lo k MC MS ρ0 h0 Qm p l e R s m args below meth c Q) (hdo : zdo P K k pc ls h ck sk Qm (zact P k pc (.lreturn) 1 a b ls st h ck sk)) (hd : decode (zcc Z k) pc = .ok (.lreturn, 1)) : W p l e R s m args below meth c H locs cells slots Q (F0 m pc L ST) := by
  simp only [zact] at hdo
  split at hdo
  · rename_i x
    obtain ⟨h1, h2⟩ := hdo
    obtain ⟨w, ST', rfl, h3, h4⟩ := I.2.2.1.cons
    cases h4.nil
    obtain ⟨i1, i2, i3, i4, i5, i6, i7⟩ := I
    exact RT (some (zL x)) (some w) ρ h H locs cells slots pc L .lreturn h2 h3 i1 i7 i4 (by omega) (by omega) hd (Or.inr (Or.inr (Or.inr (Or.inr ⟨rfl, h1, x, rfl⟩))))
  · exact (zdo_bad hdo).elim
theorem zs_return (C : zCtx P Z D lo k p s m args meth c) (I : zInv P D lo k s MC MS ρ0 h0 ρ ls st h ck sk H locs cells slots L ST) (RT : zRET P Z D lo k MC MS ρ0 h0 Qm p l e R s m args below meth c Q) (hdo : zdo P K k pc ls h ck sk Qm (zact P k pc (.return_) 1 a b ls st h ck sk)) (hd : decode (zcc Z k) pc = .ok (.return_, 1)) : W p l e R s m args below meth c H locs cells slots Q (F0 m pc L ST) := by
  simp only [zact] at hdo
  split at hdo
  · obtain ⟨h1, h2⟩ := hdo
    cases I.2.2.1.nil
    obtain ⟨i1, i2, i3, i4, i5, i6, i7⟩ := I
    exact RT none none ρ h H locs cells slots pc L .return_ h2 trivial i1 i7 i4 (by omega) (by omega) hd (Or.inr (Or.inr (Or.inr (Or.inl ⟨rfl, h1, rfl⟩))))
  · exact (zdo_bad hdo).elim
theorem zs_throw {i : Nat} (C : zCtx P Z D lo k p s m args meth c) (I : zInv P D lo k s MC MS ρ0 h0 ρ ls st h ck sk H locs cells slots L ST) (TO : zTHO P Z D lo k MC MS ρ0 h0 Qm p l e R s m args below meth c Q) (hdo : zdo P K k pc ls h ck sk Qm (zact P k pc (.new i) 3 a b ls st h ck sk)) (hd : decode (zcc Z k) pc = .ok (.new i, 3)) (ha : 1000 ≤ a) (hi : zTHOK Z k pc (a - 1000)) : W p l e R s m args below meth c H locs cells slots Q (F0 m pc L ST) := by
  simp only [zact, if_neg (show ¬ a < 1000 by omega)] at hdo
  obtain ⟨⟨h1, h2, h3⟩, h4⟩ := hdo
  obtain ⟨i1, i2, i3, i4, i5, i6, i7⟩ := I
  exact TO _ _ _ _ _ _ _ _ _ _ h4 i1 i7 i4 (by omega) (by omega) (by obtain ⟨lw, z, -⟩ := i2; exact z.1) (by rw [i3.len]; exact h3) hi
end ZRT
/-- what a place of the code asks of the tables -/
def zsite (P : ZP) (Z : ZT) (k pc : Nat) (ig : Instr) (len a b : Nat) : Prop := match ig with
  | .aconst_null => len = 1 ∧ (True)
  | .iconst i => len = 1 ∧ (zInR i)
  | .bipush i => len = 2 ∧ (zInR i ∧ (Int8.ofInt i).toInt32 = Int32.ofInt i)
  | .sipush i => len = 3 ∧ (zInR i ∧ (Int16.ofInt i).toInt32 = Int32.ofInt i)
  | .ldc i => len = 2 ∧ (zInR a ∧ Jvm.Cond.constant (zown Z k) i (Int32.ofInt a) ∈ Z.2.1)
  | .ldc_w i => len = 3 ∧ (zInR a ∧ Jvm.Cond.constant (zown Z k) i (Int32.ofInt a) ∈ Z.2.1)
  | .ldc2_w i => len = 3 ∧ (Jvm.Cond.constantLong (zown Z k) i (Int64.ofNat a) ∈ Z.2.1)
  | .lconst n => len = 1 ∧ (True)
  | .iload i => len = 2 ∧ (True)
  | .iload_n i => len = 1 ∧ (True)
  | .lload i => len = 2 ∧ (True)
  | .lload_n i => len = 1 ∧ (True)
  | .aload i => len = 2 ∧ (True)
  | .aload_n i => len = 1 ∧ (True)
  | .istore i => len = 2 ∧ (i < zmaxL P k ∧ (a = 0 → ∀ j, j + 1 = i → j ∉ zlg P k))
  | .istore_n i => len = 1 ∧ (i.val < zmaxL P k ∧ (a = 0 → ∀ j, j + 1 = i.val → j ∉ zlg P k))
  | .astore i => len = 2 ∧ (i < zmaxL P k ∧ (a = 0 → ∀ j, j + 1 = i → j ∉ zlg P k))
  | .astore_n i => len = 1 ∧ (i.val < zmaxL P k ∧ (a = 0 → ∀ j, j + 1 = i.val → j ∉ zlg P k))
  | .lstore i => len = 2 ∧ (i + 1 < zmaxL P k ∧ i ∈ zlg P k ∧ ∀ j, j + 1 = i → j ∉ zlg P k)
  | .iinc i n => len = 3 ∧ (i < zmaxL P k ∧ ∀ j, j + 1 = i → j ∉ zlg P k)
  | .dup => len = 1 ∧ (True)
  | .dup2 => len = 1 ∧ (True)
  | .iadd => len = 1 ∧ (True)
  | .isub => len = 1 ∧ (True)
  | .imul => len = 1 ∧ (True)
  | .idiv => len = 1 ∧ (True)
  | .ladd => len = 1 ∧ (True)
  | .lsub => len = 1 ∧ (True)
  | .lmul => len = 1 ∧ (True)
  | .ldiv => len = 1 ∧ (True)
  | .lrem => len = 1 ∧ (True)
  | .irem => len = 1 ∧ (True)
  | .iand => len = 1 ∧ (True)
  | .ior => len = 1 ∧ (True)
  | .ixor => len = 1 ∧ (True)
  | .ishl => len = 1 ∧ (True)
  | .ishr => len = 1 ∧ (True)
  | .land => len = 1 ∧ (True)
  | .lor => len = 1 ∧ (True)
  | .lcmp => len = 1 ∧ (True)
  | .lshl => len = 1 ∧ (True)
  | .lshr => len = 1 ∧ (True)
  | .lushr => len = 1 ∧ (True)
  | .i2l => len = 1 ∧ (True)
  | .l2i => len = 1 ∧ (True)
  | .iaload => len = 1 ∧ (True)
  | .laload => len = 1 ∧ (True)
  | .baload => len = 1 ∧ (True)
  | .aaload => len = 1 ∧ (True)
  | .iastore => len = 1 ∧ (True)
  | .lastore => len = 1 ∧ (True)
  | .bastore => len = 1 ∧ (True)
  | .aastore => len = 1 ∧ (True)
  | .arraylength => len = 1 ∧ (True)
  | .goto o => len = 3 ∧ ((pc : Int) + o = (a : Int))
  | .ifCond .eq o => len = 3 ∧ ((pc : Int) + o = (a : Int))
  | .if_icmp .eq o => len = 3 ∧ ((pc : Int) + o = (a : Int))
  | .ifCond .ne o => len = 3 ∧ ((pc : Int) + o = (a : Int))
  | .if_icmp .ne o => len = 3 ∧ ((pc : Int) + o = (a : Int))
  | .ifCond .lt o => len = 3 ∧ ((pc : Int) + o = (a : Int))
  | .if_icmp .lt o => len = 3 ∧ ((pc : Int) + o = (a : Int))
  | .ifCond .ge o => len = 3 ∧ ((pc : Int) + o = (a : Int))
  | .if_icmp .ge o => len = 3 ∧ ((pc : Int) + o = (a : Int))
  | .ifCond .gt o => len = 3 ∧ ((pc : Int) + o = (a : Int))
  | .if_icmp .gt o => len = 3 ∧ ((pc : Int) + o = (a : Int))
  | .ifCond .le o => len = 3 ∧ ((pc : Int) + o = (a : Int))
  | .if_icmp .le o => len = 3 ∧ ((pc : Int) + o = (a : Int))
  | .if_acmp .eq o => len = 3 ∧ ((pc : Int) + o = (a : Int))
  | .if_acmp .ne o => len = 3 ∧ ((pc : Int) + o = (a : Int))
  | .ifnull o => len = 3 ∧ ((pc : Int) + o = (a : Int))
  | .ifnonnull o => len = 3 ∧ ((pc : Int) + o = (a : Int))
  | .tableswitch d0 l0 h1 offs => ∀ o, (o = d0 ∨ o ∈ offs) → 0 ≤ (pc : Int) + o
  | .getfield i => len = 3 ∧ (∃ r : vw_C, vwCl[a]? = some r ∧ b < r.2.2 ∧ Jvm.Cond.fieldLink (zown Z k) i r.1 (r.2.1 b).2.1 (r.2.1 b).2.2.1 ∈ Z.2.1)
  | .putfield i => len = 3 ∧ ((b < 1000 ∧ ∃ r : vw_C, vwCl[a]? = some r ∧ b < r.2.2 ∧ P.2.2 a b = zI 0 ∧ Jvm.Cond.fieldLink (zown Z k) i r.1 (r.2.1 b).2.1 (r.2.1 b).2.2.1 ∈ Z.2.1 ∧ ((r.2.1 b).2.2.2 = true → (zyn Z k).name = "<init>" ∧ zown Z k = r.1)) ∨ (1000 ≤ b ∧ ∃ r : vw_C, vwCl[a]? = some r ∧ (b - 1000) < r.2.2 ∧ P.2.2 a (b - 1000) = zN ∧ Jvm.Cond.fieldLink (zown Z k) i r.1 (r.2.1 (b - 1000)).2.1 (r.2.1 (b - 1000)).2.2.1 ∈ Z.2.1 ∧ ((r.2.1 (b - 1000)).2.2.2 = true → (zyn Z k).name = "<init>" ∧ zown Z k = r.1)))
  | .newarray t => len = 2 ∧ (Jvm.Cond.arrayClass (Op.newarray.typeOf t) ∈ Z.2.1 ∧ (t = .int ∨ t = .long ∨ t = .boolean))
  | .anewarray i => len = 3 ∧ (Jvm.Cond.classLink (zown Z k) i (zcn a) ∈ Z.2.1 ∧ zcn a ∈ Z.2.2.2.2.2)
  | .new i => len = 3 ∧ ((a < 1000 ∧ ∃ r : vw_C, vwCl[a]? = some r ∧ r.2.2 ≤ b ∧ Jvm.Cond.classLink (zown Z k) i r.1 ∈ Z.2.1 ∧ Jvm.Cond.instantiable r.1 b ∈ Z.2.1 ∧ Jvm.Cond.initialized r.1 ∈ Z.2.1) ∨ (1000 ≤ a ∧ zTHOK Z k pc (a - 1000)))
  | .invokevirtual i => len = 3 ∧ (zcok P Z k a ∧ zhh Z a = [] ∧ (∃ r : vw_C, 1 ≤ zrc P a ∧ vwCl[zrc P a - 1]? = some r ∧ r.1 = (zyn Z a).cls) ∧ Jvm.Cond.methodLink (zown Z k) i (zyn Z a) ∈ Z.2.1 ∧ Jvm.Cond.instanceMethod (zyn Z a) ∈ Z.2.1 ∧ Jvm.Cond.selects (zyn Z a).cls (zyn Z a) (zyn Z a) ∈ Z.2.1 ∧ (parseMethodDescriptor (zyn Z a).desc).map (fun d => d.parameters.length + 1) = some (zna P a))
  | .invokestatic i => len = 3 ∧ ((b = 0 ∧ zcok P Z k a ∧ Jvm.Cond.methodLink (zown Z k) i (zyn Z a) ∈ Z.2.1 ∧ Jvm.Cond.static (zyn Z a) ∈ Z.2.1 ∧ (parseMethodDescriptor (zyn Z a).desc).map (fun d => d.parameters.length) = some (zna P a)) ∨
    (b = 1 ∧ zcok P Z k a ∧ zhh Z a = [] ∧ (∃ ho, (zown Z k, i, zyn Z a, ho) ∈ Z.2.2.1) ∧ Jvm.Cond.static (zyn Z a) ∈ Z.2.1 ∧ (parseMethodDescriptor (zyn Z a).desc).map (fun d => d.parameters.length) = some (zna P a)) ∨
    (b = 6 ∧ Jvm.Cond.methodLink (zown Z k) i Lib.Math.min.name ∈ Z.2.1 ∧ Jvm.Cond.static Lib.Math.min.name ∈ Z.2.1 ∧ Jvm.Cond.initialized "java/lang/Math" ∈ Z.2.1 ∧ Jvm.Cond.code Lib.Math.min.name Lib.Math.min.code 2 (some .int) ∈ Z.2.1 ∧ 1 ≤ zfr Z k ∧ 21 ≤ zlo Z k) ∨
    (b = 7 ∧ Jvm.Cond.methodLink (zown Z k) i Lib.Math.max.name ∈ Z.2.1 ∧ Jvm.Cond.static Lib.Math.max.name ∈ Z.2.1 ∧ Jvm.Cond.initialized "java/lang/Math" ∈ Z.2.1 ∧ Jvm.Cond.code Lib.Math.max.name Lib.Math.max.code 2 (some .int) ∈ Z.2.1 ∧ 1 ≤ zfr Z k ∧ 21 ≤ zlo Z k))
  | .invokespecial i => len = 3 ∧ (((b = 1 ∨ b = 2) ∧ zcok P Z k a ∧ zhh Z a = [] ∧ zret Z a = none ∧ (zyn Z a).name = "<init>" ∧ Jvm.Cond.instanceMethod (zyn Z a) ∈ Z.2.1 ∧ ((b = 1 ∧ Jvm.Cond.methodLink (zown Z k) i (zyn Z a) ∈ Z.2.1) ∨ (b = 2 ∧ ∃ ho, (zown Z k, i, zyn Z a, ho) ∈ Z.2.2.1)) ∧ 1 ≤ zrc P a ∧ (parseMethodDescriptor (zyn Z a).desc).map (fun d => d.parameters.length + 1) = some (zna P a)) ∨
    (b = 8 ∧ Jvm.Cond.methodLink (zown Z k) i Lib.objectInit ∈ Z.2.1 ∧ Jvm.Cond.instanceMethod Lib.objectInit ∈ Z.2.1 ∧ Jvm.Cond.code Lib.objectInit ⟨#[0xb1]⟩ 1 none ∈ Z.2.1 ∧ 1 ≤ zfr Z k ∧ 20 ≤ zlo Z k))
  | .ireturn => len = 1 ∧ (True)
  | .areturn => len = 1 ∧ (True)
  | .lreturn => len = 1 ∧ (True)
  | .return_ => len = 1 ∧ (True)
  | _ => False
/-- the tables are right -/
def zTAB (P : ZP) (Z : ZT) : Prop := zCLS P Z ∧ (∀ w ∈ Z.2.1, goodWord w = true) ∧ (∀ E x, E < 3 → x < 3 → x ≠ E → (zen E, zen x) ∈ Z.2.2.2.2.1) ∧
  ∀ k pc ig len a b, P.1 k pc = some (ig, len, a, b) → decode (zcc Z k) pc = .ok (ig, len) ∧ zsite P Z k pc ig len a b ∧ zHDr (zown Z k) Z.2.1 (zhd P k) (zhh Z k) ∧ plainName (zyn Z k).cls = true ∧ (zyn Z k).cls = zown Z k ∧ (zrk P k = 0 → zret Z k = none) ∧ (zrk P k = 1 → zret Z k = some .int) ∧ (zrk P k = 2 → zret Z k = some .boolean) ∧ (zrk P k = 3 → ∃ rt, zret Z k = some rt ∧ ((∃ n, rt = .object n) ∨ ∃ t, rt = .array t)) ∧ (zrk P k = 4 → zret Z k = some .long)
section ZBD
variable {p : Program} {l : Launch} {e : Env} {R : Room} {s : State} {m : MethodId} {args : Array Value} {below : List Frame} {meth : Method} {c : Code} {H : Heap} {locs : List Loc} {cells slots : Nat} {Q : State → Prop}
variable {P : ZP} {Z : ZT} {D : va_G} {lo k MC MS : Nat} {ρ0 ρ : Nat → Int → Nat} {h0 h : ZH} {K : Nat → ZS → (ZO → ZH → Prop) → Prop} {Qm : ZO → ZH → Prop} {pc a b ck sk : Nat} {ls st : List ZV} {L : Array Slot} {ST : List Value}
set_option maxHeartbeats 4000000 in
theorem zstep {ig : Instr} {len : Nat} (C : zCtx P Z D lo k p s m args meth c) (G : zIH P D lo k MC MS ρ0 h0 K Qm p l e R s m args below meth c Q) (I : zInv P D lo k s MC MS ρ0 h0 ρ ls st h ck sk H locs cells slots L ST)
    (TH : zTHR P Z D lo k MC MS ρ0 h0 Qm p l e R s m args below meth c Q) (TO : zTHO P Z D lo k MC MS ρ0 h0 Qm p l e R s m args below meth c Q) (RT : zRET P Z D lo k MC MS ρ0 h0 Qm p l e R s m args below meth c Q) (IM : zIM l P Z D lo K)
    (hT : zTAB P Z) (hM : MC ≤ R.cells ∧ MS ≤ R.slots) (hF : zfr Z k ≤ R.frames ∧ zlo Z k ≤ R.locals) (hcode : P.1 k pc = some (ig, len, a, b))
    (hdo : zdo P K k pc ls h ck sk Qm (zact P k pc ig len a b ls st h ck sk)) : W p l e R s m args below meth c H locs cells slots Q (F0 m pc L ST) := by
  obtain ⟨hW, hgood, hNC, hTs⟩ := hT
  obtain ⟨hd, hs, hHD, -⟩ := hTs _ _ _ _ _ _ hcode
  unfold zsite at hs
  split at hs
  · obtain ⟨rfl, hs⟩ := hs
    exact zs_null C G I hdo hd
  · obtain ⟨rfl, hs⟩ := hs
    exact zs_iconst C G I hdo hd hs
  · obtain ⟨rfl, hs⟩ := hs
    exact zs_bipush C G I hdo hd hs
  · obtain ⟨rfl, hs⟩ := hs
    exact zs_sipush C G I hdo hd hs
  · obtain ⟨rfl, hs⟩ := hs
    exact zs_ldc C G I hdo hd hs
  · obtain ⟨rfl, hs⟩ := hs
    exact zs_ldcw C G I hdo hd hs
  · obtain ⟨rfl, hs⟩ := hs
    exact zs_ldc2 C G I hdo hd hs
  · obtain ⟨rfl, hs⟩ := hs
    exact zs_lconst C G I hdo hd
  · obtain ⟨rfl, hs⟩ := hs
    exact zs_iload C G I hdo hd
  · obtain ⟨rfl, hs⟩ := hs
    exact zs_iload_n C G I hdo hd
  · obtain ⟨rfl, hs⟩ := hs
    exact zs_lload C G I hdo hd
  · obtain ⟨rfl, hs⟩ := hs
    exact zs_lload_n C G I hdo hd
  · obtain ⟨rfl, hs⟩ := hs
    exact zs_aload C G I hdo hd
  · obtain ⟨rfl, hs⟩ := hs
    exact zs_aload_n C G I hdo hd
  · obtain ⟨rfl, hs⟩ := hs
    exact zs_istore C G I hdo hd hs
  · obtain ⟨rfl, hs⟩ := hs
    exact zs_istore_n C G I hdo hd hs
  · obtain ⟨rfl, hs⟩ := hs
    exact zs_astore C G I hdo hd hs
  · obtain ⟨rfl, hs⟩ := hs
    exact zs_astore_n C G I hdo hd hs
  · obtain ⟨rfl, hs⟩ := hs
    exact zs_lstore C G I hdo hd hs
  · obtain ⟨rfl, hs⟩ := hs
    exact zs_iinc C G I hdo hd hs
  · obtain ⟨rfl, hs⟩ := hs
    exact zs_dup C G I hdo hd
  · obtain ⟨rfl, hs⟩ := hs
    exact zs_dup2 C G I hdo hd
  · obtain ⟨rfl, hs⟩ := hs
    exact zs_iadd C G I hdo hd
  · obtain ⟨rfl, hs⟩ := hs
    exact zs_isub C G I hdo hd
  · obtain ⟨rfl, hs⟩ := hs
    exact zs_imul C G I hdo hd
  · obtain ⟨rfl, hs⟩ := hs
    exact zs_idiv C G I hdo hd
  · obtain ⟨rfl, hs⟩ := hs
    exact zs_ladd C G I hdo hd
  · obtain ⟨rfl, hs⟩ := hs
    exact zs_lsub C G I hdo hd
  · obtain ⟨rfl, hs⟩ := hs
    exact zs_lmul C G I hdo hd
  · obtain ⟨rfl, hs⟩ := hs
    exact zs_ldiv C G I hdo hd
  · obtain ⟨rfl, hs⟩ := hs
    exact zs_lrem C G I hdo hd
  · obtain ⟨rfl, hs⟩ := hs
    exact zs_irem C G I hdo hd
  · obtain ⟨rfl, hs⟩ := hs
    exact zs_iand C G I hdo hd
  · obtain ⟨rfl, hs⟩ := hs
    exact zs_ior C G I hdo hd
  · obtain ⟨rfl, hs⟩ := hs
    exact zs_ixor C G I hdo hd
  · obtain ⟨rfl, hs⟩ := hs
    exact zs_ishl C G I hdo hd
  · obtain ⟨rfl, hs⟩ := hs
    exact zs_ishr C G I hdo hd
  · obtain ⟨rfl, hs⟩ := hs
    exact zs_land C G I hdo hd
  · obtain ⟨rfl, hs⟩ := hs
    exact zs_lor C G I hdo hd
  · obtain ⟨rfl, hs⟩ := hs
    exact zs_lcmp C G I hdo hd
  · obtain ⟨rfl, hs⟩ := hs
    exact zs_lshl C G I hdo hd
  · obtain ⟨rfl, hs⟩ := hs
    exact zs_lshr C G I hdo hd
  · obtain ⟨rfl, hs⟩ := hs
    exact zs_lushr C G I hdo hd
  · obtain ⟨rfl, hs⟩ := hs
    exact zs_i2l C G I hdo hd
  · obtain ⟨rfl, hs⟩ := hs
    exact zs_l2i C G I hdo hd
  · obtain ⟨rfl, hs⟩ := hs
    exact zs_iaload C G I hdo hd
  · obtain ⟨rfl, hs⟩ := hs
    exact zs_laload C G I hdo hd
  · obtain ⟨rfl, hs⟩ := hs
    exact zs_baload C G I hdo hd
  · obtain ⟨rfl, hs⟩ := hs
    exact zs_aaload C G I hdo hd
  · obtain ⟨rfl, hs⟩ := hs
    exact zs_iastore C G I hdo hd
  · obtain ⟨rfl, hs⟩ := hs
    exact zs_lastore C G I hdo hd
  · obtain ⟨rfl, hs⟩ := hs
    exact zs_bastore C G I hdo hd
  · obtain ⟨rfl, hs⟩ := hs
    exact zs_aastore C G I hdo hd
  · obtain ⟨rfl, hs⟩ := hs
    exact zs_alen C G I hdo hd
  · obtain ⟨rfl, hs⟩ := hs
    exact zs_goto C G I hdo hd hs
  · obtain ⟨rfl, hs⟩ := hs
    exact zs_if_eq C G I hdo hd hs
  · obtain ⟨rfl, hs⟩ := hs
    exact zs_icmp_eq C G I hdo hd hs
  · obtain ⟨rfl, hs⟩ := hs
    exact zs_if_ne C G I hdo hd hs
  · obtain ⟨rfl, hs⟩ := hs
    exact zs_icmp_ne C G I hdo hd hs
  · obtain ⟨rfl, hs⟩ := hs
    exact zs_if_lt C G I hdo hd hs
  · obtain ⟨rfl, hs⟩ := hs
    exact zs_icmp_lt C G I hdo hd hs
  · obtain ⟨rfl, hs⟩ := hs
    exact zs_if_ge C G I hdo hd hs
  · obtain ⟨rfl, hs⟩ := hs
    exact zs_icmp_ge C G I hdo hd hs
  · obtain ⟨rfl, hs⟩ := hs
    exact zs_if_gt C G I hdo hd hs
  · obtain ⟨rfl, hs⟩ := hs
    exact zs_icmp_gt C G I hdo hd hs
  · obtain ⟨rfl, hs⟩ := hs
    exact zs_if_le C G I hdo hd hs
  · obtain ⟨rfl, hs⟩ := hs
    exact zs_icmp_le C G I hdo hd hs
  · obtain ⟨rfl, hs⟩ := hs
    exact zs_acmp_eq C G I hdo hd hs
  · obtain ⟨rfl, hs⟩ := hs
    exact zs_acmp_ne C G I hdo hd hs
  · obtain ⟨rfl, hs⟩ := hs
    exact zs_ifnull C G I hdo hd hs
  · obtain ⟨rfl, hs⟩ := hs
    exact zs_ifnonnull C G I hdo hd hs
  · exact zs_table C G I hdo hd hs
  · obtain ⟨rfl, hs⟩ := hs
    exact zs_getfield C G I hdo hd hW hs
  · obtain ⟨rfl, hs⟩ := hs
    rcases hs with ⟨hb, hs⟩ | ⟨hb, hs⟩
    · exact zs_putI C G I hdo hd hW hb hs
    · exact zs_putR C G I hdo hd hW hb hs
  · obtain ⟨rfl, hs⟩ := hs
    exact zs_newarray C G I hdo hd hM hs
  · obtain ⟨rfl, hs⟩ := hs
    exact zs_anewarray C G I hdo hd hM hs
  · obtain ⟨rfl, hs⟩ := hs
    rcases hs with ⟨hb, hs⟩ | ⟨hb, hs⟩
    · exact zs_new C G I hdo hd hM hW hb hs
    · exact zs_throw C I TO hdo hd hb hs
  · obtain ⟨rfl, hs⟩ := hs
    exact zs_invV C G I TH IM hNC hHD hgood hM hF hdo hd hs.1 hs.2
  · obtain ⟨rfl, hs⟩ := hs
    rcases hs with ⟨hb, hs⟩ | ⟨hb, hs⟩ | ⟨hb, hs⟩ | ⟨hb, hs⟩
    · exact zs_invS C G I TH IM hNC hHD hgood hM hF hdo hd hb hs.1 hs.2
    · exact zs_invSN C G I IM hgood hM hF hdo hd hb hs.1 hs.2
    · exact zs_min C G I hgood hM hF hdo hd hb hs
    · exact zs_max C G I hgood hM hF hdo hd hb hs
  · obtain ⟨rfl, hs⟩ := hs
    rcases hs with ⟨hb, hs⟩ | ⟨hb, hs⟩
    · exact zs_invI C G I IM hgood hM hF hdo hd hb hs.1 hs.2
    · exact zs_objInit C G I hgood hM hF hdo hd hb hs
  · obtain ⟨rfl, hs⟩ := hs
    exact zs_ireturn C I RT hdo hd
  · obtain ⟨rfl, hs⟩ := hs
    exact zs_areturn C I RT hdo hd
  · obtain ⟨rfl, hs⟩ := hs
    exact zs_lreturn C I RT hdo hd
  · obtain ⟨rfl, hs⟩ := hs
    exact zs_return C I RT hdo hd
  · exact hs.elim
end ZBD
