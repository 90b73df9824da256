/-! ===== the small machine: a method's code over an abstract heap of named cells ===== -/
abbrev ZV : Type := Int ⊕ (Int64 ⊕ ((Nat × Int) ⊕ Unit))
abbrev zI (z : Int) : ZV := Sum.inl z
abbrev zL (x : Int64) : ZV := Sum.inr (Sum.inl x)
abbrev zR (k : Nat) (i : Int) : ZV := Sum.inr (Sum.inr (Sum.inl (k, i)))
abbrev zN : ZV := zR 0 0
abbrev zJ : ZV := Sum.inr (Sum.inr (Sum.inr ()))
/-- a cell: an object (its kind, its fields), or an array (its component type, length, contents) -/
abbrev ZE : Type := (Nat × (Nat → ZV)) ⊕ (FieldType × Nat × (Int → ZV))
abbrev ZH : Type := Nat → Int → Option ZE
abbrev ZO : Type := Option ZV ⊕ Nat
abbrev ZI : Type := Instr × Nat × Nat × Nat
/-- maxLocals, cells, slots, kind of result (0 void, 1 int, 2 boolean, 3 reference), places of longs, handlers, number of arguments (the receiver counts), kind of class of the receiver + 1 (0: static) -/
abbrev ZM : Type := Nat × Nat × Nat × Nat × List Nat × List (Nat × Nat × Nat × Nat) × Nat × Nat
abbrev ZP : Type := (Nat → Nat → Option ZI) × (Nat → ZM) × (Nat → Nat → ZV)
abbrev ZS : Type := Nat × List ZV × List ZV × ZH × Nat × Nat
abbrev ZA : Type := (Prop × ZS) ⊕ ((Prop × Nat × List ZV × List ZV × ZE × Nat) ⊕ ((Prop × Nat × List ZV × List ZV × Nat × Nat) ⊕ (Prop × ZO)))
def zmaxL (P : ZP) (m : Nat) : Nat := (P.2.1 m).1
def zmc (P : ZP) (m : Nat) : Nat := (P.2.1 m).2.1
def zms (P : ZP) (m : Nat) : Nat := (P.2.1 m).2.2.1
def zrk (P : ZP) (m : Nat) : Nat := (P.2.1 m).2.2.2.1
def zlg (P : ZP) (m : Nat) : List Nat := (P.2.1 m).2.2.2.2.1
def zhd (P : ZP) (m : Nat) : List (Nat × Nat × Nat × Nat) := (P.2.1 m).2.2.2.2.2.1
def zna (P : ZP) (m : Nat) : Nat := (P.2.1 m).2.2.2.2.2.2.1
def zrc (P : ZP) (m : Nat) : Nat := (P.2.1 m).2.2.2.2.2.2.2
def zset (h : ZH) (k : Nat) (i : Int) (e : ZE) : ZH := fun k' i' => if k' = k ∧ i' = i then some e else h k' i'
def zup {α : Type} (f : Int → α) (j : Int) (v : α) : Int → α := fun j' => if j' = j then v else f j'
def zupN (f : Nat → ZV) (j : Nat) (v : ZV) : Nat → ZV := fun j' => if j' = j then v else f j'
def zcmp (c : Jvm.ClassFile.Cond) (x y : Int) : Bool := match c with
  | .eq => decide (x = y)
  | .ne => decide (¬ x = y)
  | .lt => decide (x < y)
  | .ge => decide (y ≤ x)
  | .gt => decide (y < x)
  | .le => decide (x ≤ y)
def zbad : ZA := .inr (.inr (.inr (False, .inr 0)))
def zgo (c : Prop) (pc : Nat) (ls st : List ZV) (h : ZH) (ck sk : Nat) : ZA := .inl (c, pc, ls, st, h, ck, sk)
def zpI (st : List ZV) (k : Int → List ZV → ZA) : ZA := match st with
  | .inl z :: r => k z r
  | _ => zbad
def zpL (st : List ZV) (k : Int64 → List ZV → ZA) : ZA := match st with
  | .inr (.inl x) :: r => k x r
  | _ => zbad
def zpR (st : List ZV) (k : Nat → Int → List ZV → ZA) : ZA := match st with
  | .inr (.inr (.inl (a, i))) :: r => k a i r
  | _ => zbad
def zlI (ls : List ZV) (i : Nat) (k : Int → ZA) : ZA := match ls[i]? with
  | some (.inl z) => k z
  | _ => zbad
def zlL (ls : List ZV) (i : Nat) (k : Int64 → ZA) : ZA := match ls[i]? with
  | some (.inr (.inl x)) => k x
  | _ => zbad
def zlR (ls : List ZV) (i : Nat) (k : Nat → Int → ZA) : ZA := match ls[i]? with
  | some (.inr (.inr (.inl (a, j)))) => k a j
  | _ => zbad
def zob (h : ZH) (k : Nat) (i : Int) (f : Nat → (Nat → ZV) → ZA) : ZA := match h k i with
  | some (.inl (c, g)) => f c g
  | _ => zbad
def zar (h : ZH) (k : Nat) (i : Int) (f : FieldType → Nat → (Int → ZV) → ZA) : ZA := match h k i with
  | some (.inr (t, n, g)) => f t n g
  | _ => zbad
def zInR (z : Int) : Prop := -2147483648 ≤ z ∧ z < 2147483648
def zand (x y : Int) : Int := (Int32.ofInt x &&& Int32.ofInt y).toInt
def zor (x y : Int) : Int := (Int32.ofInt x ||| Int32.ofInt y).toInt
def zxor (x y : Int) : Int := (Int32.ofInt x ^^^ Int32.ofInt y).toInt
def zshl (x y : Int) : Int := (Int32.ofInt x <<< (Int32.ofInt y &&& 31)).toInt
def zshr (x y : Int) : Int := (Int32.ofInt x >>> (Int32.ofInt y &&& 31)).toInt
def zlshl (x : Int64) (y : Int) : Int64 := x <<< ((Int32.ofInt y).toInt64 &&& 63)
def zlshr (x : Int64) (y : Int) : Int64 := x >>> ((Int32.ofInt y).toInt64 &&& 63)
def zlushr (x : Int64) (y : Int) : Int64 := (x.toUInt64 >>> ((Int32.ofInt y).toInt64.toUInt64 &&& Int64.toUInt64 63)).toInt64
def zlcmp (x y : Int64) : Int := if y < x then 1 else if x = y then 0 else -1
def zl2i (x : Int64) : Int := x.toInt32.toInt
def zcn (c : Nat) : String := match vwCl[c]? with
  | some q => q.1
  | none => ""
def zdef (t : FieldType) : ZV := match t with
  | .int => zI 0
  | .boolean => zI 0
  | .long => zL 0
  | _ => zJ
def zlgk : Nat → List ZV → List Nat → Prop
  | _, [], _ => True
  | j, v :: r, lg => (match v with
    | .inr (.inl _) => j ∈ lg
    | _ => True) ∧ zlgk (j + 1) r lg
def zent : List ZV → List ZV
  | [] => []
  | v :: r => match v with
    | .inr (.inl x) => zL x :: zJ :: zent r
    | v => v :: zent r
def zentry (n : Nat) (a : List ZV) : List ZV := zent a ++ List.replicate (n - (zent a).length) zJ
def znoj : List ZV → Prop
  | [] => True
  | v :: r => (match v with
    | .inr (.inr (.inr _)) => False
    | _ => True) ∧ znoj r
/-- the receiver is an object of the method's class -/
def zrecv (h : ZH) (c : Nat) (a : List ZV) : Prop := match c with
  | 0 => True
  | c + 1 => match a with
    | .inr (.inr (.inl (k, i))) :: _ => ∃ f, h k i = some (.inl (c, f))
    | _ => False
/-- no long among them -/
def znl : List ZV → Prop
  | [] => True
  | v :: r => (match v with
    | .inr (.inl _) => False
    | _ => True) ∧ znl r
def zcall (P : ZP) (f nt pc : Nat) (st : List ZV) (h : ZH) : ZA :=
  .inr (.inr (.inl (zna P f ≤ st.length ∧ ((st.drop (zna P f)).length ≤ 4 ∨ ((f = 18 ∨ f = 86 ∨ f = 95) ∧ (st.drop (zna P f)).length ≤ 8 ∧ znl (st.drop (zna P f)))) ∧ znoj (st.take (zna P f)).reverse ∧ (zent (st.take (zna P f)).reverse).length ≤ zmaxL P f ∧ zlgk 0 (zentry (zmaxL P f) (st.take (zna P f)).reverse) (zlg P f) ∧ zrecv h (zrc P f) (st.take (zna P f)).reverse, f, (st.take (zna P f)).reverse, st.drop (zna P f), pc + 3, nt)))
/-- a store ahead of which a long may lie: none lies there -/
def zdy (a : Nat) (ls : List ZV) (i : Nat) : Prop := match a with
  | 0 => True
  | _ => ∀ j, j + 1 = i → ∀ x : Int64, ls[j]? ≠ some (zL x)
def zoff (offs : Array Int) (z lo d : Int) : Int := if z < lo then d else match offs[(z - lo).toNat]? with
  | some o => o
  | none => d
/-- one instruction -/
def zact (P : ZP) (m pc : Nat) (ig : Instr) (len a b : Nat) (ls st : List ZV) (h : ZH) (ck sk : Nat) : ZA := match ig with
  | .aconst_null => zgo True (pc + len) ls (zN :: st) h ck sk
  | .iconst i => zgo True (pc + len) ls (zI i :: st) h ck sk
  | .bipush i => zgo True (pc + len) ls (zI i :: st) h ck sk
  | .sipush i => zgo True (pc + len) ls (zI i :: st) h ck sk
  | .ldc _ => zgo True (pc + len) ls (zI (a : Nat) :: st) h ck sk
  | .ldc_w _ => zgo True (pc + len) ls (zI (a : Nat) :: st) h ck sk
  | .ldc2_w _ => zgo True (pc + len) ls (zL (Int64.ofNat a) :: st) h ck sk
  | .lconst n => zgo True (pc + len) ls (zL (Int64.ofNat n.val) :: st) h ck sk
  | .iload i => zlI ls i fun z => zgo True (pc + len) ls (zI z :: st) h ck sk
  | .iload_n i => zlI ls i.val fun z => zgo True (pc + len) ls (zI z :: st) h ck sk
  | .lload i => zlL ls i fun z => zgo True (pc + len) ls (zL z :: st) h ck sk
  | .lload_n i => zlL ls i.val fun z => zgo True (pc + len) ls (zL z :: st) h ck sk
  | .aload i => zlR ls i fun k j => zgo True (pc + len) ls (zR k j :: st) h ck sk
  | .aload_n i => zlR ls i.val fun k j => zgo True (pc + len) ls (zR k j :: st) h ck sk
  | .istore i => zpI st fun z r => zgo (zdy a ls i) (pc + len) (ls.set i (zI z)) r h ck sk
  | .istore_n i => zpI st fun z r => zgo (zdy a ls i.val) (pc + len) (ls.set i.val (zI z)) r h ck sk
  | .astore i => match st with
    | .inr (.inr v) :: r => zgo (zdy a ls i) (pc + len) (ls.set i (.inr (.inr v))) r h ck sk
    | _ => zbad
  | .astore_n i => match st with
    | .inr (.inr v) :: r => zgo (zdy a ls i.val) (pc + len) (ls.set i.val (.inr (.inr v))) r h ck sk
    | _ => zbad
  | .lstore i => zpL st fun x r => zgo True (pc + len) ((ls.set i (zL x)).set (i + 1) zJ) r h ck sk
  | .iinc i c => zlI ls i fun z => zgo (zInR (z + c)) (pc + len) (ls.set i (zI (z + c))) st h ck sk
  | .dup => match st with
    | .inl z :: r => zgo True (pc + len) ls (zI z :: zI z :: r) h ck sk
    | .inr (.inr (.inl (k, i))) :: r => zgo True (pc + len) ls (zR k i :: zR k i :: r) h ck sk
    | _ => zbad
  | .dup2 => match st with
    | .inl z :: .inr (.inr (.inl (k, i))) :: r => zgo True (pc + len) ls (zI z :: zR k i :: zI z :: zR k i :: r) h ck sk
    | _ => zbad
  | .iadd => zpI st fun y r => zpI r fun x r => zgo (zInR (x + y)) (pc + len) ls (zI (x + y) :: r) h ck sk
  | .isub => zpI st fun y r => zpI r fun x r => zgo (zInR (x - y)) (pc + len) ls (zI (x - y) :: r) h ck sk
  | .imul => zpI st fun y r => zpI r fun x r => zgo (zInR (x * y)) (pc + len) ls (zI (x * y) :: r) h ck sk
  | .idiv => zpI st fun y r => zpI r fun x r => zgo (0 ≤ x ∧ 0 < y) (pc + len) ls (zI (x / y) :: r) h ck sk
  | .irem => zpI st fun y r => zpI r fun x r => zgo (0 ≤ x ∧ 0 < y) (pc + len) ls (zI (x % y) :: r) h ck sk
  | .iand => zpI st fun y r => zpI r fun x r => zgo True (pc + len) ls (zI (zand x y) :: r) h ck sk
  | .ior => zpI st fun y r => zpI r fun x r => zgo True (pc + len) ls (zI (zor x y) :: r) h ck sk
  | .ixor => zpI st fun y r => zpI r fun x r => zgo True (pc + len) ls (zI (zxor x y) :: r) h ck sk
  | .ishl => zpI st fun y r => zpI r fun x r => zgo True (pc + len) ls (zI (zshl x y) :: r) h ck sk
  | .ishr => zpI st fun y r => zpI r fun x r => zgo True (pc + len) ls (zI (zshr x y) :: r) h ck sk
  | .ladd => zpL st fun y r => zpL r fun x r => zgo True (pc + len) ls (zL (x + y) :: r) h ck sk
  | .lsub => zpL st fun y r => zpL r fun x r => zgo True (pc + len) ls (zL (x - y) :: r) h ck sk
  | .lmul => zpL st fun y r => zpL r fun x r => zgo True (pc + len) ls (zL (x * y) :: r) h ck sk
  | .ldiv => zpL st fun y r => zpL r fun x r => zgo (y ≠ 0) (pc + len) ls (zL (x / y) :: r) h ck sk
  | .lrem => zpL st fun y r => zpL r fun x r => zgo (y ≠ 0) (pc + len) ls (zL (x - x / y * y) :: r) h ck sk
  | .land => zpL st fun y r => zpL r fun x r => zgo True (pc + len) ls (zL (x &&& y) :: r) h ck sk
  | .lor => zpL st fun y r => zpL r fun x r => zgo True (pc + len) ls (zL (x ||| y) :: r) h ck sk
  | .lcmp => zpL st fun y r => zpL r fun x r => zgo True (pc + len) ls (zI (zlcmp x y) :: r) h ck sk
  | .lshl => zpI st fun y r => zpL r fun x r => zgo True (pc + len) ls (zL (zlshl x y) :: r) h ck sk
  | .lshr => zpI st fun y r => zpL r fun x r => zgo True (pc + len) ls (zL (zlshr x y) :: r) h ck sk
  | .lushr => zpI st fun y r => zpL r fun x r => zgo True (pc + len) ls (zL (zlushr x y) :: r) h ck sk
  | .i2l => zpI st fun z r => zgo True (pc + len) ls (zL (Int64.ofInt z) :: r) h ck sk
  | .l2i => zpL st fun z r => zgo True (pc + len) ls (zI (zl2i z) :: r) h ck sk
  | .goto _ => zgo True a ls st h ck sk
  | .ifCond c _ => zpI st fun z r => zgo True (if zcmp c z 0 = true then a else pc + len) ls r h ck sk
  | .if_icmp c _ => zpI st fun y r => zpI r fun x r => zgo True (if zcmp c x y = true then a else pc + len) ls r h ck sk
  | .if_acmp c _ => zpR st fun k2 i2 r => zpR r fun k1 i1 r => zgo True (if ((k1 = k2 ∧ (k1 = 0 ∨ i1 = i2)) ↔ c = .eq) then a else pc + len) ls r h ck sk
  | .ifnull _ => zpR st fun k _ r => zgo True (if k = 0 then a else pc + len) ls r h ck sk
  | .ifnonnull _ => zpR st fun k _ r => zgo True (if k = 0 then pc + len else a) ls r h ck sk
  | .tableswitch d lo hi offs => zpI st fun z r => zgo (lo ≤ hi ∧ hi + 1 = lo + offs.size) ((pc : Int) + zoff offs z lo d).toNat ls r h ck sk
  | .getfield _ => zpR st fun k i r => zob h k i fun c f => zgo (c = a) (pc + len) ls (f b :: r) h ck sk
  | .putfield _ => if b < 1000
    then zpI st fun z r => zpR r fun k i r => zob h k i fun c f => zgo (c = a ∧ k ≠ 1) (pc + len) ls r (zset h k i (.inl (c, zupN f b (zI z)))) ck sk
    else zpR st fun k2 i2 r => zpR r fun k i r => zob h k i fun c f => zgo (c = a ∧ k ≠ 1) (pc + len) ls r (zset h k i (.inl (c, zupN f (b - 1000) (zR k2 i2)))) ck sk
  | .iaload => zpI st fun j r => zpR r fun k i r => zar h k i fun t n f => zgo (t = .int ∧ 0 ≤ j ∧ j < n) (pc + len) ls (f j :: r) h ck sk
  | .laload => zpI st fun j r => zpR r fun k i r => zar h k i fun t n f => zgo (t = .long ∧ 0 ≤ j ∧ j < n) (pc + len) ls (f j :: r) h ck sk
  | .baload => zpI st fun j r => zpR r fun k i r => zar h k i fun t n f => zgo (t = .boolean ∧ 0 ≤ j ∧ j < n) (pc + len) ls (f j :: r) h ck sk
  | .aaload => zpI st fun j r => zpR r fun k i r => zar h k i fun t n f => zgo (t.isReference = true ∧ 0 ≤ j ∧ j < n) (pc + len) ls (f j :: r) h ck sk
  | .iastore => zpI st fun z r => zpI r fun j r => zpR r fun k i r => zar h k i fun t n f => zgo (k ≠ 1 ∧ t = .int ∧ 0 ≤ j ∧ j < n) (pc + len) ls r (zset h k i (.inr (t, n, zup f j (zI z)))) ck sk
  | .lastore => zpL st fun z r => zpI r fun j r => zpR r fun k i r => zar h k i fun t n f => zgo (k ≠ 1 ∧ t = .long ∧ 0 ≤ j ∧ j < n) (pc + len) ls r (zset h k i (.inr (t, n, zup f j (zL z)))) ck sk
  | .bastore => zpI st fun z r => zpI r fun j r => zpR r fun k i r => zar h k i fun t n f => zgo (k ≠ 1 ∧ t = .boolean ∧ 0 ≤ j ∧ j < n ∧ (z = 0 ∨ z = 1)) (pc + len) ls r (zset h k i (.inr (t, n, zup f j (zI z)))) ck sk
  | .aastore => zpR st fun k2 i2 r => zpI r fun j r => zpR r fun k i r => zar h k i fun t n f => zob h k2 i2 fun c _ => zgo (k ≠ 1 ∧ k2 ≠ 0 ∧ c < vwCl.length ∧ t = .object (zcn c) ∧ 0 ≤ j ∧ j < n) (pc + len) ls r (zset h k i (.inr (t, n, zup f j (zR k2 i2)))) ck sk
  | .arraylength => zpR st fun k i r => zar h k i fun _ n _ => zgo True (pc + len) ls (zI n :: r) h ck sk
  | .newarray t => zpI st fun z r => .inr (.inl (0 ≤ z ∧ z ≤ 20000, pc + len, ls, r, .inr (Op.newarray.typeOf t, z.toNat, fun _ => zdef (Op.newarray.typeOf t)), z.toNat))
  | .anewarray _ => zpI st fun z r => .inr (.inl (0 ≤ z ∧ z ≤ 20000, pc + len, ls, r, .inr (.object (zcn a), z.toNat, fun _ => zN), z.toNat))
  | .new _ => if a < 1000
    then .inr (.inl (True, pc + len, ls, st, .inl (a, P.2.2 a), b))
    else .inr (.inr (.inr (1 ≤ ck ∧ 6 ≤ sk ∧ st.length ≤ 4, .inr (a - 1000))))
  | .invokespecial _ => if b = 8 then zpR st fun x _ r => zgo (x ≠ 0 ∧ r.length ≤ 4) (pc + len) ls r h ck sk else zcall P a b pc st h
  | .invokestatic _ => if b = 6 then zpI st fun y r => zpI r fun x r => zgo (r.length ≤ 4) (pc + len) ls (zI (min x y) :: r) h ck sk
    else if b = 7 then zpI st fun y r => zpI r fun x r => zgo (r.length ≤ 4) (pc + len) ls (zI (max x y) :: r) h ck sk else zcall P a b pc st h
  | .invokevirtual _ => zcall P a 0 pc st h
  | .ireturn => match st with
    | [.inl z] => .inr (.inr (.inr (zrk P m = 1 ∨ (zrk P m = 2 ∧ (z = 0 ∨ z = 1)), .inl (some (zI z)))))
    | _ => zbad
  | .lreturn => match st with
    | [.inr (.inl x)] => .inr (.inr (.inr (zrk P m = 4, .inl (some (zL x)))))
    | _ => zbad
  | .areturn => match st with
    | [.inr (.inr (.inl (k, i)))] => .inr (.inr (.inr (zrk P m = 3, .inl (some (zR k i)))))
    | _ => zbad
  | .return_ => match st with
    | [] => .inr (.inr (.inr (zrk P m = 0, .inl none)))
    | _ => zbad
  | _ => zbad
def zcatch : List (Nat × Nat × Nat × Nat) → Nat → Nat → Option Nat
  | [], _, _ => none
  | (s, e, t, x) :: r, pc, E => if s ≤ pc ∧ pc < e ∧ x = E then some t else zcatch r pc E
def zback (P : ZP) (K : Nat → ZS → (ZO → ZH → Prop) → Prop) (Q : ZO → ZH → Prop) (m pc pc' nt ck sk : Nat) (ls rest : List ZV) : ZO → ZH → Prop := fun o h' => match o with
  | .inl v => K m (pc', ls, v.toList ++ rest, h', ck, sk) Q
  | .inr E => nt = 0 ∧ match zcatch (zhd P m) pc E with
    | some t => K m (t, ls, [zJ], h', ck, sk) Q
    | none => Q (.inr E) h'
def zdo (P : ZP) (K : Nat → ZS → (ZO → ZH → Prop) → Prop) (m pc : Nat) (ls : List ZV) (h : ZH) (ck sk : Nat) (Q : ZO → ZH → Prop) (A : ZA) : Prop := match A with
  | .inl (c, s) => c ∧ K m s Q
  | .inr (.inl (c, pc', ls', st', e, w)) => c ∧ 1 ≤ ck ∧ w ≤ sk ∧ ∃ (k : Nat) (i : Int), 2 ≤ k ∧ h k i = none ∧ K m (pc', ls', zR k i :: st', zset h k i e, ck - 1, sk - w) Q
  | .inr (.inr (.inl (c, f, av, rest, pc', nt))) => c ∧ zmc P f ≤ ck ∧ zms P f ≤ sk ∧ K f (0, zentry (zmaxL P f) av, [], h, zmc P f, zms P f) (zback P K Q m pc pc' nt (ck - zmc P f) (sk - zms P f) ls rest)
  | .inr (.inr (.inr (c, o))) => c ∧ Q o h
def zrun (P : ZP) : Nat → Nat → ZS → (ZO → ZH → Prop) → Prop
  | 0, _, _, _ => False
  | n + 1, m, (pc, ls, st, h, ck, sk), Q => match P.1 m pc with
    | none => False
    | some (ig, len, a, b) => zdo P (fun m s Q => zrun P n m s Q) m pc ls h ck sk Q (zact P m pc ig len a b ls st h ck sk)
section ZDO
variable {P : ZP} {K : Nat → ZS → (ZO → ZH → Prop) → Prop} {m pc : Nat} {ls : List ZV} {h : ZH} {ck sk : Nat} {Q : ZO → ZH → Prop}
theorem zdo_bad (H : zdo P K m pc ls h ck sk Q zbad) : False := H.1
theorem zdo_go {c : Prop} {pc' : Nat} {ls' st' : List ZV} {h' : ZH} {ck' sk' : Nat} (H : zdo P K m pc ls h ck sk Q (zgo c pc' ls' st' h' ck' sk')) : c ∧ K m (pc', ls', st', h', ck', sk') Q := H
theorem zdo_pI {st : List ZV} {f : Int → List ZV → ZA} (H : zdo P K m pc ls h ck sk Q (zpI st f)) : ∃ z r, st = zI z :: r ∧ zdo P K m pc ls h ck sk Q (f z r) := by
  unfold zpI at H
  split at H
  · exact ⟨_, _, rfl, H⟩
  · exact (zdo_bad H).elim
theorem zdo_pL {st : List ZV} {f : Int64 → List ZV → ZA} (H : zdo P K m pc ls h ck sk Q (zpL st f)) : ∃ z r, st = zL z :: r ∧ zdo P K m pc ls h ck sk Q (f z r) := by
  unfold zpL at H
  split at H
  · exact ⟨_, _, rfl, H⟩
  · exact (zdo_bad H).elim
theorem zdo_pR {st : List ZV} {f : Nat → Int → List ZV → ZA} (H : zdo P K m pc ls h ck sk Q (zpR st f)) : ∃ a i r, st = zR a i :: r ∧ zdo P K m pc ls h ck sk Q (f a i r) := by
  unfold zpR at H
  split at H
  · exact ⟨_, _, _, rfl, H⟩
  · exact (zdo_bad H).elim
theorem zdo_lI {lz : List ZV} {i : Nat} {f : Int → ZA} (H : zdo P K m pc ls h ck sk Q (zlI lz i f)) : ∃ z, lz[i]? = some (zI z) ∧ zdo P K m pc ls h ck sk Q (f z) := by
  unfold zlI at H
  split at H
  · exact ⟨_, by assumption, H⟩
  · exact (zdo_bad H).elim
theorem zdo_lL {lz : List ZV} {i : Nat} {f : Int64 → ZA} (H : zdo P K m pc ls h ck sk Q (zlL lz i f)) : ∃ z, lz[i]? = some (zL z) ∧ zdo P K m pc ls h ck sk Q (f z) := by
  unfold zlL at H
  split at H
  · exact ⟨_, by assumption, H⟩
  · exact (zdo_bad H).elim
theorem zdo_lR {lz : List ZV} {i : Nat} {f : Nat → Int → ZA} (H : zdo P K m pc ls h ck sk Q (zlR lz i f)) : ∃ a j, lz[i]? = some (zR a j) ∧ zdo P K m pc ls h ck sk Q (f a j) := by
  unfold zlR at H
  split at H
  · exact ⟨_, _, by assumption, H⟩
  · exact (zdo_bad H).elim
theorem zdo_ob {h2 : ZH} {k : Nat} {i : Int} {f : Nat → (Nat → ZV) → ZA} (H : zdo P K m pc ls h ck sk Q (zob h2 k i f)) : ∃ c g, h2 k i = some (.inl (c, g)) ∧ zdo P K m pc ls h ck sk Q (f c g) := by
  unfold zob at H
  split at H
  · exact ⟨_, _, by assumption, H⟩
  · exact (zdo_bad H).elim
theorem zdo_ar {h2 : ZH} {k : Nat} {i : Int} {f : FieldType → Nat → (Int → ZV) → ZA} (H : zdo P K m pc ls h ck sk Q (zar h2 k i f)) : ∃ t n g, h2 k i = some (.inr (t, n, g)) ∧ zdo P K m pc ls h ck sk Q (f t n g) := by
  unfold zar at H
  split at H
  · exact ⟨_, _, _, by assumption, H⟩
  · exact (zdo_bad H).elim
end ZDO
