/-! ===== from the law's entry to a run of the small machine ===== -/
def R_law : String := "PressBoxLaw"
def lw_P (b : Addr) (xs : List Int32) (args : Array Value) (s : State) : Prop := args = #[.ref b] ∧ s.IntsAt b xs ∧ xs.length ≤ 260 ∧ (Jvm.Cond.and given_1 narrow_1).before args s = true
def lw_Q (_ : Array Value) (s : State) (o : Outcome) (t : State) : Prop := o = .returned (some (.int 1)) ∧ Framed s o t [] 600104 7301314
def lw_Z (below : List Frame) (a : Array Value) (s : State) : State → Prop := fun t => ∃ o, t.status = .running ∧ Ended t below o ∧ lw_Q a s o t
/-- the law's own end, with 1 on the stack, nothing written that was there before, its room as the claim has it -/
theorem lw_ret {p : Program} {l : Launch} {e : Env} {s : State} {m : MethodId} {below : List Frame} {meth : Method} {c : Code} {b : Nat} (hx : p.tables.exec = Jvm.exec) (hb : c.code = code) (hr : meth.sig.returnType = ret) (hlocks : meth.locks = false) {pc : Nat} {H : Heap} {ls : Array Slot} (hdg : decode code pc = .ok (.ireturn, 1)) : W p l e room_1 s m #[Value.ref b] below meth c H [] 600104 7301314 (lw_Z below #[Value.ref b] s) (F0 m pc ls [.int 1]) := by
  intro T hT X
  obtain ⟨fs, hret, hrun, hended, hW, hframe⟩ := X.leave (v := some (.int 1)) (hlocks := hlocks) (fun h => by rw [hr] at h; cases h)
  have hmeth' : T.vm.method? m = some meth := X.method'
  refine ⟨T.setFrames fs, ?_, .returned (some (.int 1)), hrun, hended, rfl, ⟨_, rfl⟩, hW, hframe⟩
  jvm_step X.here [X.here.top, hx, hb, hdg, hmeth', hr, ret, narrow_b1]
  (try refine ⟨rfl, ?_⟩); (try refine ⟨rfl, ?_⟩)
  first | (intro acts; rw [hret _ acts rfl rfl rfl]) | rw [hret _ _ rfl rfl rfl]
  exact Steps.refl _
/-- what holds at the law's entry: the machine, the code, the tables' words (any of lw_tbl by 'hts w (by decide +kernel)'), the script of L ints xs at the cell b, what the Statement gives of the start (any of its parts by flat_of_before) -/
def lw_At (p : Program) (s : State) (m : MethodId) (meth : Method) (c : Code) (b L : Nat) (xs : Nat → Int32) : Prop :=
  p.tables.exec = Jvm.exec ∧ c.code = code ∧ meth.sig.returnType = ret ∧ c.maxLocals = 25 ∧ s.vm.findClass R_law = some m.cls ∧ (∀ w ∈ lw_tbl, w.before #[Value.ref b] s = true) ∧ va_X b L xs s s.heap ∧ b < s.heap.size ∧ meth.locks = false ∧ (Jvm.Cond.and given_1 narrow_1).before #[Value.ref b] s = true
section ZEN
variable {p : Program} {l : Launch} {e : Env} {s : State} {m : MethodId} {below : List Frame} {meth : Method} {c : Code} {b L : Nat} {xs : Nat → Int32} {args : Array Value}
def zSC (L : Nat) (xs : Nat → Int32) : ZH := fun k i => if k = 1 ∧ i = 0 then some (.inr (.int, L, fun j => zI (xs j.toNat).toInt)) else none
theorem zknown (hts : ∀ w ∈ lw_tbl, w.before args s = true) : ∃ D : va_G, va_K D vwCl [] s := by
  have h0 : ∀ w ∈ zTB, w.before args s = true := fun w h => hts w (List.mem_filter.mp h).1
  have key : ∀ c : Nat, ∃ x : ClassId × (Nat → Nat), ∀ q : vw_C, vwCl[c]? = some q → u_Kn s q.1 q.2.1 q.2.2 x.1 x.2 := by
    intro c
    cases h : vwCl[c]? with
    | none => exact ⟨(0, fun _ => 0), fun q hq => by cases hq⟩
    | some q =>
      have hin : ∀ w ∈ u_ws q.1 q.2.1 q.2.2, w ∈ zTB := (zclsA c q h).1
      have hi : ∃ n, (Jvm.Cond.instantiable q.1 n).before args s = true := by
        have : ∀ c : Nat, ∀ q : vw_C, vwCl[c]? = some q → ∃ n, Jvm.Cond.instantiable q.1 n ∈ zTB := by
          intro c q h
          match c, h with
          | 0, h => cases h; obtain ⟨r, r1, -, -, r2, -⟩ := zNW_e8; cases r1; exact ⟨_, r2⟩
          | 1, h => cases h; obtain ⟨r, r1, -, -, r2, -⟩ := zNW_e4; cases r1; exact ⟨_, r2⟩
          | 2, h => cases h; obtain ⟨r, r1, -, -, r2, -⟩ := zNW_e7; cases r1; exact ⟨_, r2⟩
          | 3, h => cases h; obtain ⟨r, r1, -, -, r2, -⟩ := zNW_e3; cases r1; exact ⟨_, r2⟩
          | 4, h => cases h; obtain ⟨r, r1, -, -, r2, -⟩ := zNW_e5; cases r1; exact ⟨_, r2⟩
          | 5, h => cases h; obtain ⟨r, r1, -, -, r2, -⟩ := zNW_e2; cases r1; exact ⟨_, r2⟩
          | 6, h => cases h; obtain ⟨r, r1, -, -, r2, -⟩ := zNW_e6; cases r1; exact ⟨_, r2⟩
          | 7, h => cases h; obtain ⟨r, r1, -, -, r2, -⟩ := zNW_e1; cases r1; exact ⟨_, r2⟩
          | 8, h => cases h; obtain ⟨r, r1, -, -, r2, -⟩ := zNW_e9; cases r1; exact ⟨_, r2⟩
          | (_ + 9), h => cases h
        obtain ⟨n, hn⟩ := this c q h
        exact ⟨n, h0 _ hn⟩
      obtain ⟨n, hn⟩ := hi
      obtain ⟨cC, iS, hk⟩ := u_known h0 hin hn
      exact ⟨(cC, iS), fun q' hq' => by cases hq'; exact hk⟩
  exact ⟨(fun c => (key c).choose.1, fun c => (key c).choose.2), fun c q hq => (key c).choose_spec q hq, fun k q hq => by simp at hq⟩
theorem zst_nest (hts : ∀ w ∈ lw_tbl, w.before args s = true) : ∀ q ∈ zNST, va_Nw (.methodLinkNest q.1 q.2.1 q.2.2.1 q.2.2.2) s :=
  List.forall_mem_cons.mpr ⟨va_Nw.of rfl (hts _ (List.mem_of_getElem? (i := 574) (by decide +kernel))), List.forall_mem_cons.mpr ⟨va_Nw.of rfl (hts _ (List.mem_of_getElem? (i := 575) (by decide +kernel))), List.forall_mem_cons.mpr ⟨va_Nw.of rfl (hts _ (List.mem_of_getElem? (i := 333) (by decide +kernel))), List.forall_mem_cons.mpr ⟨va_Nw.of rfl (hts _ (List.mem_of_getElem? (i := 55) (by decide +kernel))), List.forall_mem_cons.mpr ⟨va_Nw.of rfl (hts _ (List.mem_of_getElem? (i := 49) (by decide +kernel))), List.forall_mem_cons.mpr ⟨va_Nw.of rfl (hts _ (List.mem_of_getElem? (i := 327) (by decide +kernel))), List.forall_mem_cons.mpr ⟨va_Nw.of rfl (hts _ (List.mem_of_getElem? (i := 455) (by decide +kernel))), fun _ h => absurd h List.not_mem_nil⟩⟩⟩⟩⟩⟩⟩
theorem zst_one {own tx : String} {k cur : Nat} (hcur : s.vm.findClass own = some cur) (h : (Jvm.Cond.stringRef own k tx).before args s = true) : ∃ a, vk_R own k tx a s := by
  obtain ⟨_, _, _, a, _, _, _, _, _, h2⟩ := Cond.stringRef_spec hcur h
  exact ⟨a, vk_R.of h h2⟩
theorem zst_strs {cur : Nat} (hcur : s.vm.findClass RX8 = some cur) (hts : ∀ w ∈ lw_tbl, w.before args s = true) : ∀ q ∈ zSTR, ∃ a, vk_R q.1 q.2.1 q.2.2 a s :=
  List.forall_mem_cons.mpr ⟨zst_one hcur (hts _ (List.mem_of_getElem? (i := 319) (by decide +kernel))), List.forall_mem_cons.mpr ⟨zst_one hcur (hts _ (List.mem_of_getElem? (i := 368) (by decide +kernel))), List.forall_mem_cons.mpr ⟨zst_one hcur (hts _ (List.mem_of_getElem? (i := 385) (by decide +kernel))), List.forall_mem_cons.mpr ⟨zst_one hcur (hts _ (List.mem_of_getElem? (i := 390) (by decide +kernel))), List.forall_mem_cons.mpr ⟨zst_one hcur (hts _ (List.mem_of_getElem? (i := 448) (by decide +kernel))), List.forall_mem_cons.mpr ⟨zst_one hcur (hts _ (List.mem_of_getElem? (i := 259) (by decide +kernel))), List.forall_mem_cons.mpr ⟨zst_one hcur (hts _ (List.mem_of_getElem? (i := 503) (by decide +kernel))), List.forall_mem_cons.mpr ⟨zst_one hcur (hts _ (List.mem_of_getElem? (i := 714) (by decide +kernel))), List.forall_mem_cons.mpr ⟨zst_one hcur (hts _ (List.mem_of_getElem? (i := 715) (by decide +kernel))), List.forall_mem_cons.mpr ⟨zst_one hcur (hts _ (List.mem_of_getElem? (i := 512) (by decide +kernel))), List.forall_mem_cons.mpr ⟨zst_one hcur (hts _ (List.mem_of_getElem? (i := 521) (by decide +kernel))), List.forall_mem_cons.mpr ⟨zst_one hcur (hts _ (List.mem_of_getElem? (i := 522) (by decide +kernel))), List.forall_mem_cons.mpr ⟨zst_one hcur (hts _ (List.mem_of_getElem? (i := 864) (by decide +kernel))), List.forall_mem_cons.mpr ⟨zst_one hcur (hts _ (List.mem_of_getElem? (i := 865) (by decide +kernel))), List.forall_mem_cons.mpr ⟨zst_one hcur (hts _ (List.mem_of_getElem? (i := 527) (by decide +kernel))), List.forall_mem_cons.mpr ⟨zst_one hcur (hts _ (List.mem_of_getElem? (i := 528) (by decide +kernel))), List.forall_mem_cons.mpr ⟨zst_one hcur (hts _ (List.mem_of_getElem? (i := 541) (by decide +kernel))), List.forall_mem_cons.mpr ⟨zst_one hcur (hts _ (List.mem_of_getElem? (i := 543) (by decide +kernel))), List.forall_mem_cons.mpr ⟨zst_one hcur (hts _ (List.mem_of_getElem? (i := 548) (by decide +kernel))), List.forall_mem_cons.mpr ⟨zst_one hcur (hts _ (List.mem_of_getElem? (i := 399) (by decide +kernel))), List.forall_mem_cons.mpr ⟨zst_one hcur (hts _ (List.mem_of_getElem? (i := 372) (by decide +kernel))), List.forall_mem_cons.mpr ⟨zst_one hcur (hts _ (List.mem_of_getElem? (i := 494) (by decide +kernel))), List.forall_mem_cons.mpr ⟨zst_one hcur (hts _ (List.mem_of_getElem? (i := 540) (by decide +kernel))), List.forall_mem_cons.mpr ⟨zst_one hcur (hts _ (List.mem_of_getElem? (i := 705) (by decide +kernel))), List.forall_mem_cons.mpr ⟨zst_one hcur (hts _ (List.mem_of_getElem? (i := 223) (by decide +kernel))), List.forall_mem_cons.mpr ⟨zst_one hcur (hts _ (List.mem_of_getElem? (i := 490) (by decide +kernel))), List.forall_mem_cons.mpr ⟨zst_one hcur (hts _ (List.mem_of_getElem? (i := 282) (by decide +kernel))), List.forall_mem_cons.mpr ⟨zst_one hcur (hts _ (List.mem_of_getElem? (i := 291) (by decide +kernel))), List.forall_mem_cons.mpr ⟨zst_one hcur (hts _ (List.mem_of_getElem? (i := 434) (by decide +kernel))), List.forall_mem_cons.mpr ⟨zst_one hcur (hts _ (List.mem_of_getElem? (i := 439) (by decide +kernel))), fun _ h => absurd h List.not_mem_nil⟩⟩⟩⟩⟩⟩⟩⟩⟩⟩⟩⟩⟩⟩⟩⟩⟩⟩⟩⟩⟩⟩⟩⟩⟩⟩⟩⟩⟩⟩
theorem zst_nc (hf : ∀ w ∈ flatC (Jvm.Cond.and given_1 narrow_1), w.before args s = true) : ∀ q ∈ zNCS, va_Nc q.1 q.2 s :=
  List.forall_mem_cons.mpr ⟨va_Nc.of (hf _ (by decide +kernel)), List.forall_mem_cons.mpr ⟨va_Nc.of (hf _ (by decide +kernel)), List.forall_mem_cons.mpr ⟨va_Nc.of (hf _ (by decide +kernel)), List.forall_mem_cons.mpr ⟨va_Nc.of (hf _ (by decide +kernel)), List.forall_mem_cons.mpr ⟨va_Nc.of (hf _ (by decide +kernel)), List.forall_mem_cons.mpr ⟨va_Nc.of (hf _ (by decide +kernel)), fun _ h => absurd h List.not_mem_nil⟩⟩⟩⟩⟩⟩
theorem zst_cast (hts : ∀ w ∈ lw_tbl, w.before args s = true) : ∀ E, E < 3 → va_Nw (.castable (zen E) (zen E)) s := by
  intro E hE
  match E, hE with
  | 0, _ => exact va_Nw.of rfl (hts _ (List.mem_of_getElem? (i := 252) (by decide +kernel)))
  | 1, _ => exact va_Nw.of rfl (hts _ (List.mem_of_getElem? (i := 184) (by decide +kernel)))
  | 2, _ => exact va_Nw.of rfl (hts _ (List.mem_of_getElem? (i := 312) (by decide +kernel)))
  | (_ + 3), h => omega
theorem zst_decl (hts : ∀ w ∈ lw_tbl, w.before args s = true) : ∀ Y ∈ zdcl, va_Nw (.declares (Bundle.initS Y)) s :=
  List.forall_mem_cons.mpr ⟨va_Nw.of rfl (hts _ (List.mem_of_getElem? (i := 186) (by decide +kernel))), List.forall_mem_cons.mpr ⟨va_Nw.of rfl (hts _ (List.mem_of_getElem? (i := 188) (by decide +kernel))), List.forall_mem_cons.mpr ⟨va_Nw.of rfl (hts _ (List.mem_of_getElem? (i := 190) (by decide +kernel))), fun _ h => absurd h List.not_mem_nil⟩⟩⟩
theorem zst_ao (hts : ∀ w ∈ lw_tbl, w.before args s = true) : ∀ q ∈ zAOS, va_AO q s :=
  List.forall_mem_cons.mpr ⟨va_AO.of (A := args) (hts _ (List.mem_of_getElem? (i := 44) (by decide +kernel))), List.forall_mem_cons.mpr ⟨va_AO.of (A := args) (hts _ (List.mem_of_getElem? (i := 42) (by decide +kernel))), List.forall_mem_cons.mpr ⟨va_AO.of (A := args) (hts _ (List.mem_of_getElem? (i := 46) (by decide +kernel))), List.forall_mem_cons.mpr ⟨va_AO.of (A := args) (hts _ (List.mem_of_getElem? (i := 40) (by decide +kernel))), fun _ h => absurd h List.not_mem_nil⟩⟩⟩⟩
theorem whole_of (hflags : l.flags = flags0) (hL : L ≤ 260) (htab : c.exceptionTable.toList = []) (C0 : lw_At p s m meth c b L xs) (hrun : ∃ n, zrun zPr n 111 (0, zentry 25 [zR 1 0], [], zSC L xs, 600104, 7301314) (fun o _ => o = .inl (some (zI 1)))) :
    W p l e room_1 s m #[Value.ref b] below meth c s.heap [] 0 0 (lw_Z below #[Value.ref b] s) (entryFrame m ([Value.ref b] : List Value).toArray 25) := by
  obtain ⟨n, hrun⟩ := hrun
  have hl : l.stackTraces = false := by unfold Launch.stackTraces; rw [hflags]; decide
  obtain ⟨hexec, hcode, hret, hml, hown, hts, hX, hbl, hlk, hgv⟩ := C0
  have hf := flat_of_before _ hgv
  obtain ⟨D, hK⟩ := zknown hts
  obtain ⟨-, hfc8, -⟩ := hK.1 8 (RX8, TX8, 11) rfl
  have hWS : zWS zZ D s := ⟨hK, zst_nest hts, zst_strs hfc8 hts, zst_nc hf, ⟨zst_cast hts, zst_decl hts⟩, zst_ao hts⟩
  have hlo : ∀ a : Nat, a < s.heap.size → ¬ (s.heap.size ≤ a) := fun a h => by omega
  have hWH : zWH s.heap.size s s.heap := ⟨Nat.le_refl _, vx_Zqof (hts _ ((List.mem_of_getElem? (i := 209) (by decide +kernel)))) (hts _ ((List.mem_of_getElem? (i := 18) (by decide +kernel)))) (hf _ (by decide +kernel)) hlo, vx_Zqof (hts _ ((List.mem_of_getElem? (i := 211) (by decide +kernel)))) (hts _ ((List.mem_of_getElem? (i := 18) (by decide +kernel)))) (hf _ (by decide +kernel)) hlo⟩
  have C : zCtx zPr zZ D s.heap.size 111 p s m #[Value.ref b] meth c := ⟨hexec, hcode, hret, hml, hown, fun w h => hts w (List.mem_filter.mp h).1, hlk, (fun h => absurd h (show ¬ ((zyn zZ 111).name = "<init>") by decide +kernel)), htab, hWS, hWH⟩
  obtain ⟨scr, x1, x2, x3, x4, x5⟩ := hX
  let ρ0 : Nat → Int → Nat := fun _ _ => b
  have hrel : zRel D s.heap.size s ρ0 (zSC L xs) s.heap := by
    refine ⟨fun i => rfl, ?_, ?_⟩
    · intro k i e he
      by_cases hki : k = 1 ∧ i = 0
      · obtain ⟨rfl, rfl⟩ := hki
        have he := Option.some.inj he
        subst he
        exact ⟨Or.inl rfl, scr, x1, x2, x3, (fun C e => by cases e), x4, (by omega), fun j hj => ⟨_, x5 j hj, (by simp), (by simp; exact ⟨by have := Int32.le_toInt (xs j); omega, by have := Int32.toInt_lt (xs j); omega⟩)⟩⟩
      · have : zSC L xs k i = none := if_neg hki
        rw [this] at he
        cases he
    · intro k i k' i' h1 h2 _
      have hh : ∀ k i, (zSC L xs k i).isSome = true → k = 1 ∧ i = 0 := by
        intro k i h
        by_cases hki : k = 1 ∧ i = 0
        · exact hki
        · have : zSC L xs k i = none := if_neg hki
          rw [this] at h
          cases h
      obtain ⟨rfl, rfl⟩ := hh _ _ h1
      obtain ⟨rfl, rfl⟩ := hh _ _ h2
      exact ⟨rfl, rfl⟩
  have hIH := (zsound zTABA hl n).1 111 600104 7301314 ρ0 (zSC L xs) (fun o _ => o = .inl (some (zI 1))) p e room_1 s m #[Value.ref b] below meth c (lw_Z below #[Value.ref b] s) C
    (fun E ρ h H locs cells slots pc L rest q ce _ hE => by cases hE) (fun E ρ h H locs cells slots pc L ST hE => by cases hE)
    (by
      intro v w ρ h H locs cells slots pc L ig hQ hov hr hex hS hc hs hd hok
      have hv := Sum.inl.inj hQ
      subst hv
      match w, hov with
      | some w, hov =>
        obtain ⟨rfl, -⟩ := hov
        have hig : ig = .ireturn := by
          rcases hok with ⟨h1, -⟩ | ⟨h1, -⟩ | ⟨-, h1, -⟩ | ⟨-, h1, -⟩ | ⟨-, h1, -⟩
          · exact h1
          · exact h1
          · exact absurd h1 (by decide +kernel)
          · exact absurd h1 (by decide +kernel)
          · exact absurd h1 (by decide +kernel)
        subst hig
        refine va_forget (fun q hq => hS.2.2 q hq) ?_
        refine W.widen hc hs ?_
        exact lw_ret hexec hcode hret hlk hd)
    ⟨Nat.le_refl _, Nat.le_refl _⟩ (by decide +kernel)
  have hst : zStk ρ0 (zSC L xs) [zR 1 0] [Value.ref b] := ⟨Or.inr ⟨by decide, rfl, rfl⟩, trivial⟩
  obtain ⟨g1, g2⟩ := zent_args 0 hst ⟨trivial, trivial⟩
  have hLL := lv_entry [Value.ref b] (n := 25) (show 1 ≤ 25 by decide)
  have hlg : zlgk 0 (zentry 25 [zR 1 0]) (zlg zPr 111) := ⟨trivial, trivial, trivial, trivial, trivial, trivial, trivial, trivial, trivial, trivial, trivial, trivial, trivial, trivial, trivial, trivial, trivial, trivial, trivial, trivial, trivial, trivial, trivial, trivial, trivial, trivial⟩
  rw [lg_entry_eq]
  refine hIH 0 _ [] _ _ _ ρ0 s.heap [] 0 0 _ [] hrun ⟨hrel, ⟨_, hLL, rfl, fun i x hi => by have := zlgk_of 0 hlg i x hi; simpa using this, fun i v hi hv => ?_⟩, trivial, ⟨Nat.le_refl _, fun q _ _ => rfl, fun q hq => by cases hq⟩, Nat.le_of_eq (Nat.zero_add _), Nat.le_of_eq (Nat.zero_add _), zExt.rf⟩
  unfold zentry at hi
  by_cases hi2 : i < (zent [zR 1 0]).length
  · rw [List.getElem?_append_left hi2] at hi
    obtain ⟨w, h1, h2⟩ := g2 i v hi hv
    rw [Nat.zero_add] at h1
    exact ⟨w, h1, h2⟩
  · rw [List.getElem?_append_right (by omega), List.getElem?_replicate] at hi
    split at hi
    · exact absurd (Option.some.inj hi).symm hv
    · cases hi
end ZEN
