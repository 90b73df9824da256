/-! ===== the tables are right ===== -/
theorem tbi {w : Jvm.Cond} (i : Nat) (h : lw_tbl[i]? = some w) (g : goodWord w = true) : w ∈ zTB := List.mem_filter.mpr ⟨List.mem_of_getElem? h, g⟩
theorem tbi2 {w : Jvm.Cond} (i : Nat) (h : (decide (lw_tbl[i]? = some w) && goodWord w) = true) : w ∈ zTB := by
  rw [Bool.and_eq_true, decide_eq_true_eq] at h
  exact tbi i h.1 h.2
def zflOK (q : Nat × Nat × Nat × Nat) : Prop := ∃ r : vw_C, vwCl[q.2.2.1]? = some r ∧ q.2.2.2 < r.2.2 ∧ Jvm.Cond.fieldLink (zcnm q.1) q.2.1 r.1 (r.2.1 q.2.2.2).2.1 (r.2.1 q.2.2.2).2.2.1 ∈ zTB
abbrev zFL_T : Type := List (Nat × Nat × Nat × Nat)
set_option maxRecDepth 100000 in
theorem zFL_e0 : zflOK (0, 9, 0, 0) := ⟨_, rfl, by decide, (tbi2 795 (by decide +kernel))⟩
set_option maxRecDepth 100000 in
theorem zFL_e1 : zflOK (0, 15, 0, 2) := ⟨_, rfl, by decide, (tbi2 798 (by decide +kernel))⟩
set_option maxRecDepth 100000 in
theorem zFL_e2 : zflOK (0, 19, 1, 10) := ⟨_, rfl, by decide, (tbi2 557 (by decide +kernel))⟩
set_option maxRecDepth 100000 in
theorem zFL_e3 : zflOK (0, 24, 0, 1) := ⟨_, rfl, by decide, (tbi2 797 (by decide +kernel))⟩
set_option maxRecDepth 100000 in
theorem zFL_e4 : zflOK (0, 25, 0, 3) := ⟨_, rfl, by decide, (tbi2 799 (by decide +kernel))⟩
set_option maxRecDepth 100000 in
theorem zFL_e5 : zflOK (0, 29, 0, 4) := ⟨_, rfl, by decide, (tbi2 800 (by decide +kernel))⟩
set_option maxRecDepth 100000 in
theorem zFL_e6 : zflOK (0, 33, 7, 5) := ⟨_, rfl, by decide, (tbi2 100 (by decide +kernel))⟩
set_option maxRecDepth 100000 in
theorem zFL_e7 : zflOK (0, 44, 7, 2) := ⟨_, rfl, by decide, (tbi2 91 (by decide +kernel))⟩
set_option maxRecDepth 100000 in
theorem zFL_e8 : zflOK (0, 47, 7, 1) := ⟨_, rfl, by decide, (tbi2 89 (by decide +kernel))⟩
set_option maxRecDepth 100000 in
theorem zFL_e9 : zflOK (0, 50, 7, 3) := ⟨_, rfl, by decide, (tbi2 97 (by decide +kernel))⟩
set_option maxRecDepth 100000 in
theorem zFL_e10 : zflOK (1, 9, 1, 2) := ⟨_, rfl, by decide, (tbi2 538 (by decide +kernel))⟩
set_option maxRecDepth 100000 in
theorem zFL_e11 : zflOK (1, 15, 1, 3) := ⟨_, rfl, by decide, (tbi2 541 (by decide +kernel))⟩
set_option maxRecDepth 100000 in
theorem zFL_e12 : zflOK (1, 18, 1, 4) := ⟨_, rfl, by decide, (tbi2 544 (by decide +kernel))⟩
set_option maxRecDepth 100000 in
theorem zFL_e13 : zflOK (1, 21, 1, 5) := ⟨_, rfl, by decide, (tbi2 546 (by decide +kernel))⟩
set_option maxRecDepth 100000 in
theorem zFL_e14 : zflOK (1, 25, 1, 6) := ⟨_, rfl, by decide, (tbi2 548 (by decide +kernel))⟩
set_option maxRecDepth 100000 in
theorem zFL_e15 : zflOK (1, 28, 1, 0) := ⟨_, rfl, by decide, (tbi2 534 (by decide +kernel))⟩
set_option maxRecDepth 100000 in
theorem zFL_e16 : zflOK (1, 32, 1, 1) := ⟨_, rfl, by decide, (tbi2 536 (by decide +kernel))⟩
set_option maxRecDepth 100000 in
theorem zFL_e17 : zflOK (1, 35, 1, 9) := ⟨_, rfl, by decide, (tbi2 554 (by decide +kernel))⟩
set_option maxRecDepth 100000 in
theorem zFL_e18 : zflOK (1, 38, 1, 8) := ⟨_, rfl, by decide, (tbi2 552 (by decide +kernel))⟩
set_option maxRecDepth 100000 in
theorem zFL_e19 : zflOK (1, 41, 1, 10) := ⟨_, rfl, by decide, (tbi2 558 (by decide +kernel))⟩
set_option maxRecDepth 100000 in
theorem zFL_e20 : zflOK (2, 9, 2, 0) := ⟨_, rfl, by decide, (tbi2 285 (by decide +kernel))⟩
set_option maxRecDepth 100000 in
theorem zFL_e21 : zflOK (2, 15, 2, 1) := ⟨_, rfl, by decide, (tbi2 286 (by decide +kernel))⟩
set_option maxRecDepth 100000 in
theorem zFL_e22 : zflOK (2, 18, 2, 2) := ⟨_, rfl, by decide, (tbi2 289 (by decide +kernel))⟩
set_option maxRecDepth 100000 in
theorem zFL_e23 : zflOK (3, 7, 3, 3) := ⟨_, rfl, by decide, (tbi2 461 (by decide +kernel))⟩
set_option maxRecDepth 100000 in
theorem zFL_e24 : zflOK (3, 13, 3, 0) := ⟨_, rfl, by decide, (tbi2 455 (by decide +kernel))⟩
set_option maxRecDepth 100000 in
theorem zFL_e25 : zflOK (3, 16, 3, 1) := ⟨_, rfl, by decide, (tbi2 457 (by decide +kernel))⟩
set_option maxRecDepth 100000 in
theorem zFL_e26 : zflOK (3, 20, 3, 2) := ⟨_, rfl, by decide, (tbi2 459 (by decide +kernel))⟩
set_option maxRecDepth 100000 in
theorem zFL_e27 : zflOK (4, 7, 4, 0) := ⟨_, rfl, by decide, (tbi2 764 (by decide +kernel))⟩
set_option maxRecDepth 100000 in
theorem zFL_e28 : zflOK (4, 13, 4, 1) := ⟨_, rfl, by decide, (tbi2 766 (by decide +kernel))⟩
set_option maxRecDepth 100000 in
theorem zFL_e29 : zflOK (4, 17, 4, 2) := ⟨_, rfl, by decide, (tbi2 768 (by decide +kernel))⟩
set_option maxRecDepth 100000 in
theorem zFL_e30 : zflOK (4, 21, 4, 3) := ⟨_, rfl, by decide, (tbi2 770 (by decide +kernel))⟩
set_option maxRecDepth 100000 in
theorem zFL_e31 : zflOK (4, 24, 4, 4) := ⟨_, rfl, by decide, (tbi2 772 (by decide +kernel))⟩
set_option maxRecDepth 100000 in
theorem zFL_e32 : zflOK (5, 12, 5, 0) := ⟨_, rfl, by decide, (tbi2 299 (by decide +kernel))⟩
set_option maxRecDepth 100000 in
theorem zFL_e33 : zflOK (5, 18, 5, 1) := ⟨_, rfl, by decide, (tbi2 301 (by decide +kernel))⟩
set_option maxRecDepth 100000 in
theorem zFL_e34 : zflOK (6, 12, 6, 0) := ⟨_, rfl, by decide, (tbi2 141 (by decide +kernel))⟩
set_option maxRecDepth 100000 in
theorem zFL_e35 : zflOK (6, 18, 6, 1) := ⟨_, rfl, by decide, (tbi2 143 (by decide +kernel))⟩
set_option maxRecDepth 100000 in
theorem zFL_e36 : zflOK (6, 22, 6, 2) := ⟨_, rfl, by decide, (tbi2 144 (by decide +kernel))⟩
set_option maxRecDepth 100000 in
theorem zFL_e37 : zflOK (6, 25, 6, 3) := ⟨_, rfl, by decide, (tbi2 145 (by decide +kernel))⟩
set_option maxRecDepth 100000 in
theorem zFL_e38 : zflOK (6, 28, 6, 4) := ⟨_, rfl, by decide, (tbi2 146 (by decide +kernel))⟩
set_option maxRecDepth 100000 in
theorem zFL_e39 : zflOK (6, 31, 6, 5) := ⟨_, rfl, by decide, (tbi2 147 (by decide +kernel))⟩
def zFL_p0 : zFL_T := [(0, 9, 0, 0), (0, 15, 0, 2), (0, 19, 1, 10), (0, 24, 0, 1), (0, 25, 0, 3), (0, 29, 0, 4), (0, 33, 7, 5), (0, 44, 7, 2), (0, 47, 7, 1), (0, 50, 7, 3), (1, 9, 1, 2), (1, 15, 1, 3), (1, 18, 1, 4), (1, 21, 1, 5), (1, 25, 1, 6), (1, 28, 1, 0), (1, 32, 1, 1), (1, 35, 1, 9), (1, 38, 1, 8), (1, 41, 1, 10), (2, 9, 2, 0), (2, 15, 2, 1), (2, 18, 2, 2), (3, 7, 3, 3), (3, 13, 3, 0), (3, 16, 3, 1), (3, 20, 3, 2), (4, 7, 4, 0), (4, 13, 4, 1), (4, 17, 4, 2), (4, 21, 4, 3), (4, 24, 4, 4), (5, 12, 5, 0), (5, 18, 5, 1), (6, 12, 6, 0), (6, 18, 6, 1), (6, 22, 6, 2), (6, 25, 6, 3), (6, 28, 6, 4), (6, 31, 6, 5)]
theorem zFL_q0 : ∀ q ∈ zFL_p0, zflOK q := List.forall_mem_cons.mpr ⟨zFL_e0, List.forall_mem_cons.mpr ⟨zFL_e1, List.forall_mem_cons.mpr ⟨zFL_e2, List.forall_mem_cons.mpr ⟨zFL_e3, List.forall_mem_cons.mpr ⟨zFL_e4, List.forall_mem_cons.mpr ⟨zFL_e5, List.forall_mem_cons.mpr ⟨zFL_e6, List.forall_mem_cons.mpr ⟨zFL_e7, List.forall_mem_cons.mpr ⟨zFL_e8, List.forall_mem_cons.mpr ⟨zFL_e9, List.forall_mem_cons.mpr ⟨zFL_e10, List.forall_mem_cons.mpr ⟨zFL_e11, List.forall_mem_cons.mpr ⟨zFL_e12, List.forall_mem_cons.mpr ⟨zFL_e13, List.forall_mem_cons.mpr ⟨zFL_e14, List.forall_mem_cons.mpr ⟨zFL_e15, List.forall_mem_cons.mpr ⟨zFL_e16, List.forall_mem_cons.mpr ⟨zFL_e17, List.forall_mem_cons.mpr ⟨zFL_e18, List.forall_mem_cons.mpr ⟨zFL_e19, List.forall_mem_cons.mpr ⟨zFL_e20, List.forall_mem_cons.mpr ⟨zFL_e21, List.forall_mem_cons.mpr ⟨zFL_e22, List.forall_mem_cons.mpr ⟨zFL_e23, List.forall_mem_cons.mpr ⟨zFL_e24, List.forall_mem_cons.mpr ⟨zFL_e25, List.forall_mem_cons.mpr ⟨zFL_e26, List.forall_mem_cons.mpr ⟨zFL_e27, List.forall_mem_cons.mpr ⟨zFL_e28, List.forall_mem_cons.mpr ⟨zFL_e29, List.forall_mem_cons.mpr ⟨zFL_e30, List.forall_mem_cons.mpr ⟨zFL_e31, List.forall_mem_cons.mpr ⟨zFL_e32, List.forall_mem_cons.mpr ⟨zFL_e33, List.forall_mem_cons.mpr ⟨zFL_e34, List.forall_mem_cons.mpr ⟨zFL_e35, List.forall_mem_cons.mpr ⟨zFL_e36, List.forall_mem_cons.mpr ⟨zFL_e37, List.forall_mem_cons.mpr ⟨zFL_e38, List.forall_mem_cons.mpr ⟨zFL_e39, fun _ h => absurd h List.not_mem_nil⟩⟩⟩⟩⟩⟩⟩⟩⟩⟩⟩⟩⟩⟩⟩⟩⟩⟩⟩⟩⟩⟩⟩⟩⟩⟩⟩⟩⟩⟩⟩⟩⟩⟩⟩⟩⟩⟩⟩⟩
set_option maxRecDepth 100000 in
theorem zFL_e40 : zflOK (6, 34, 6, 6) := ⟨_, rfl, by decide, (tbi2 148 (by decide +kernel))⟩
set_option maxRecDepth 100000 in
theorem zFL_e41 : zflOK (6, 37, 1, 7) := ⟨_, rfl, by decide, (tbi2 550 (by decide +kernel))⟩
set_option maxRecDepth 100000 in
theorem zFL_e42 : zflOK (6, 43, 7, 5) := ⟨_, rfl, by decide, (tbi2 101 (by decide +kernel))⟩
set_option maxRecDepth 100000 in
theorem zFL_e43 : zflOK (6, 46, 1, 9) := ⟨_, rfl, by decide, (tbi2 555 (by decide +kernel))⟩
set_option maxRecDepth 100000 in
theorem zFL_e44 : zflOK (6, 49, 7, 0) := ⟨_, rfl, by decide, (tbi2 86 (by decide +kernel))⟩
set_option maxRecDepth 100000 in
theorem zFL_e45 : zflOK (6, 58, 7, 3) := ⟨_, rfl, by decide, (tbi2 96 (by decide +kernel))⟩
set_option maxRecDepth 100000 in
theorem zFL_e46 : zflOK (6, 69, 1, 1) := ⟨_, rfl, by decide, (tbi2 537 (by decide +kernel))⟩
set_option maxRecDepth 100000 in
theorem zFL_e47 : zflOK (6, 79, 1, 6) := ⟨_, rfl, by decide, (tbi2 549 (by decide +kernel))⟩
set_option maxRecDepth 100000 in
theorem zFL_e48 : zflOK (6, 82, 7, 6) := ⟨_, rfl, by decide, (tbi2 103 (by decide +kernel))⟩
set_option maxRecDepth 100000 in
theorem zFL_e49 : zflOK (6, 85, 1, 2) := ⟨_, rfl, by decide, (tbi2 539 (by decide +kernel))⟩
set_option maxRecDepth 100000 in
theorem zFL_e50 : zflOK (6, 88, 1, 3) := ⟨_, rfl, by decide, (tbi2 542 (by decide +kernel))⟩
set_option maxRecDepth 100000 in
theorem zFL_e51 : zflOK (6, 91, 1, 4) := ⟨_, rfl, by decide, (tbi2 545 (by decide +kernel))⟩
set_option maxRecDepth 100000 in
theorem zFL_e52 : zflOK (6, 94, 1, 5) := ⟨_, rfl, by decide, (tbi2 547 (by decide +kernel))⟩
set_option maxRecDepth 100000 in
theorem zFL_e53 : zflOK (6, 120, 2, 2) := ⟨_, rfl, by decide, (tbi2 290 (by decide +kernel))⟩
set_option maxRecDepth 100000 in
theorem zFL_e54 : zflOK (6, 123, 2, 1) := ⟨_, rfl, by decide, (tbi2 287 (by decide +kernel))⟩
set_option maxRecDepth 100000 in
theorem zFL_e55 : zflOK (6, 126, 7, 1) := ⟨_, rfl, by decide, (tbi2 90 (by decide +kernel))⟩
set_option maxRecDepth 100000 in
theorem zFL_e56 : zflOK (6, 133, 7, 7) := ⟨_, rfl, by decide, (tbi2 106 (by decide +kernel))⟩
set_option maxRecDepth 100000 in
theorem zFL_e57 : zflOK (6, 134, 7, 10) := ⟨_, rfl, by decide, (tbi2 112 (by decide +kernel))⟩
set_option maxRecDepth 100000 in
theorem zFL_e58 : zflOK (6, 137, 1, 0) := ⟨_, rfl, by decide, (tbi2 535 (by decide +kernel))⟩
set_option maxRecDepth 100000 in
theorem zFL_e59 : zflOK (6, 140, 7, 9) := ⟨_, rfl, by decide, (tbi2 110 (by decide +kernel))⟩
set_option maxRecDepth 100000 in
theorem zFL_e60 : zflOK (6, 147, 7, 8) := ⟨_, rfl, by decide, (tbi2 108 (by decide +kernel))⟩
set_option maxRecDepth 100000 in
theorem zFL_e61 : zflOK (6, 163, 7, 4) := ⟨_, rfl, by decide, (tbi2 98 (by decide +kernel))⟩
set_option maxRecDepth 100000 in
theorem zFL_e62 : zflOK (6, 178, 7, 2) := ⟨_, rfl, by decide, (tbi2 93 (by decide +kernel))⟩
set_option maxRecDepth 100000 in
theorem zFL_e63 : zflOK (6, 181, 7, 11) := ⟨_, rfl, by decide, (tbi2 114 (by decide +kernel))⟩
set_option maxRecDepth 100000 in
theorem zFL_e64 : zflOK (7, 9, 7, 6) := ⟨_, rfl, by decide, (tbi2 102 (by decide +kernel))⟩
set_option maxRecDepth 100000 in
theorem zFL_e65 : zflOK (7, 15, 7, 7) := ⟨_, rfl, by decide, (tbi2 105 (by decide +kernel))⟩
set_option maxRecDepth 100000 in
theorem zFL_e66 : zflOK (7, 18, 7, 8) := ⟨_, rfl, by decide, (tbi2 107 (by decide +kernel))⟩
set_option maxRecDepth 100000 in
theorem zFL_e67 : zflOK (7, 21, 7, 9) := ⟨_, rfl, by decide, (tbi2 109 (by decide +kernel))⟩
set_option maxRecDepth 100000 in
theorem zFL_e68 : zflOK (7, 24, 7, 10) := ⟨_, rfl, by decide, (tbi2 111 (by decide +kernel))⟩
set_option maxRecDepth 100000 in
theorem zFL_e69 : zflOK (7, 27, 7, 11) := ⟨_, rfl, by decide, (tbi2 113 (by decide +kernel))⟩
set_option maxRecDepth 100000 in
theorem zFL_e70 : zflOK (7, 30, 7, 3) := ⟨_, rfl, by decide, (tbi2 95 (by decide +kernel))⟩
set_option maxRecDepth 100000 in
theorem zFL_e71 : zflOK (7, 34, 7, 1) := ⟨_, rfl, by decide, (tbi2 88 (by decide +kernel))⟩
set_option maxRecDepth 100000 in
theorem zFL_e72 : zflOK (7, 37, 7, 2) := ⟨_, rfl, by decide, (tbi2 92 (by decide +kernel))⟩
set_option maxRecDepth 100000 in
theorem zFL_e73 : zflOK (8, 11, 8, 0) := ⟨_, rfl, by decide, (tbi2 164 (by decide +kernel))⟩
set_option maxRecDepth 100000 in
theorem zFL_e74 : zflOK (8, 17, 8, 1) := ⟨_, rfl, by decide, (tbi2 165 (by decide +kernel))⟩
set_option maxRecDepth 100000 in
theorem zFL_e75 : zflOK (8, 23, 8, 2) := ⟨_, rfl, by decide, (tbi2 166 (by decide +kernel))⟩
set_option maxRecDepth 100000 in
theorem zFL_e76 : zflOK (8, 29, 8, 3) := ⟨_, rfl, by decide, (tbi2 167 (by decide +kernel))⟩
set_option maxRecDepth 100000 in
theorem zFL_e77 : zflOK (8, 33, 8, 4) := ⟨_, rfl, by decide, (tbi2 168 (by decide +kernel))⟩
set_option maxRecDepth 100000 in
theorem zFL_e78 : zflOK (8, 40, 8, 5) := ⟨_, rfl, by decide, (tbi2 169 (by decide +kernel))⟩
set_option maxRecDepth 100000 in
theorem zFL_e79 : zflOK (8, 44, 8, 6) := ⟨_, rfl, by decide, (tbi2 170 (by decide +kernel))⟩
def zFL_p1 : zFL_T := [(6, 34, 6, 6), (6, 37, 1, 7), (6, 43, 7, 5), (6, 46, 1, 9), (6, 49, 7, 0), (6, 58, 7, 3), (6, 69, 1, 1), (6, 79, 1, 6), (6, 82, 7, 6), (6, 85, 1, 2), (6, 88, 1, 3), (6, 91, 1, 4), (6, 94, 1, 5), (6, 120, 2, 2), (6, 123, 2, 1), (6, 126, 7, 1), (6, 133, 7, 7), (6, 134, 7, 10), (6, 137, 1, 0), (6, 140, 7, 9), (6, 147, 7, 8), (6, 163, 7, 4), (6, 178, 7, 2), (6, 181, 7, 11), (7, 9, 7, 6), (7, 15, 7, 7), (7, 18, 7, 8), (7, 21, 7, 9), (7, 24, 7, 10), (7, 27, 7, 11), (7, 30, 7, 3), (7, 34, 7, 1), (7, 37, 7, 2), (8, 11, 8, 0), (8, 17, 8, 1), (8, 23, 8, 2), (8, 29, 8, 3), (8, 33, 8, 4), (8, 40, 8, 5), (8, 44, 8, 6)]
theorem zFL_q1 : ∀ q ∈ zFL_p1, zflOK q := List.forall_mem_cons.mpr ⟨zFL_e40, List.forall_mem_cons.mpr ⟨zFL_e41, List.forall_mem_cons.mpr ⟨zFL_e42, List.forall_mem_cons.mpr ⟨zFL_e43, List.forall_mem_cons.mpr ⟨zFL_e44, List.forall_mem_cons.mpr ⟨zFL_e45, List.forall_mem_cons.mpr ⟨zFL_e46, List.forall_mem_cons.mpr ⟨zFL_e47, List.forall_mem_cons.mpr ⟨zFL_e48, List.forall_mem_cons.mpr ⟨zFL_e49, List.forall_mem_cons.mpr ⟨zFL_e50, List.forall_mem_cons.mpr ⟨zFL_e51, List.forall_mem_cons.mpr ⟨zFL_e52, List.forall_mem_cons.mpr ⟨zFL_e53, List.forall_mem_cons.mpr ⟨zFL_e54, List.forall_mem_cons.mpr ⟨zFL_e55, List.forall_mem_cons.mpr ⟨zFL_e56, List.forall_mem_cons.mpr ⟨zFL_e57, List.forall_mem_cons.mpr ⟨zFL_e58, List.forall_mem_cons.mpr ⟨zFL_e59, List.forall_mem_cons.mpr ⟨zFL_e60, List.forall_mem_cons.mpr ⟨zFL_e61, List.forall_mem_cons.mpr ⟨zFL_e62, List.forall_mem_cons.mpr ⟨zFL_e63, List.forall_mem_cons.mpr ⟨zFL_e64, List.forall_mem_cons.mpr ⟨zFL_e65, List.forall_mem_cons.mpr ⟨zFL_e66, List.forall_mem_cons.mpr ⟨zFL_e67, List.forall_mem_cons.mpr ⟨zFL_e68, List.forall_mem_cons.mpr ⟨zFL_e69, List.forall_mem_cons.mpr ⟨zFL_e70, List.forall_mem_cons.mpr ⟨zFL_e71, List.forall_mem_cons.mpr ⟨zFL_e72, List.forall_mem_cons.mpr ⟨zFL_e73, List.forall_mem_cons.mpr ⟨zFL_e74, List.forall_mem_cons.mpr ⟨zFL_e75, List.forall_mem_cons.mpr ⟨zFL_e76, List.forall_mem_cons.mpr ⟨zFL_e77, List.forall_mem_cons.mpr ⟨zFL_e78, List.forall_mem_cons.mpr ⟨zFL_e79, fun _ h => absurd h List.not_mem_nil⟩⟩⟩⟩⟩⟩⟩⟩⟩⟩⟩⟩⟩⟩⟩⟩⟩⟩⟩⟩⟩⟩⟩⟩⟩⟩⟩⟩⟩⟩⟩⟩⟩⟩⟩⟩⟩⟩⟩⟩
set_option maxRecDepth 100000 in
theorem zFL_e80 : zflOK (8, 74, 5, 0) := ⟨_, rfl, by decide, (tbi2 300 (by decide +kernel))⟩
set_option maxRecDepth 100000 in
theorem zFL_e81 : zflOK (8, 92, 5, 1) := ⟨_, rfl, by decide, (tbi2 302 (by decide +kernel))⟩
set_option maxRecDepth 100000 in
theorem zFL_e82 : zflOK (8, 111, 3, 3) := ⟨_, rfl, by decide, (tbi2 462 (by decide +kernel))⟩
set_option maxRecDepth 100000 in
theorem zFL_e83 : zflOK (8, 114, 3, 0) := ⟨_, rfl, by decide, (tbi2 456 (by decide +kernel))⟩
set_option maxRecDepth 100000 in
theorem zFL_e84 : zflOK (8, 117, 8, 7) := ⟨_, rfl, by decide, (tbi2 171 (by decide +kernel))⟩
set_option maxRecDepth 100000 in
theorem zFL_e85 : zflOK (8, 137, 3, 1) := ⟨_, rfl, by decide, (tbi2 458 (by decide +kernel))⟩
set_option maxRecDepth 100000 in
theorem zFL_e86 : zflOK (8, 152, 3, 2) := ⟨_, rfl, by decide, (tbi2 460 (by decide +kernel))⟩
set_option maxRecDepth 100000 in
theorem zFL_e87 : zflOK (8, 157, 2, 1) := ⟨_, rfl, by decide, (tbi2 288 (by decide +kernel))⟩
set_option maxRecDepth 100000 in
theorem zFL_e88 : zflOK (8, 160, 2, 2) := ⟨_, rfl, by decide, (tbi2 291 (by decide +kernel))⟩
set_option maxRecDepth 100000 in
theorem zFL_e89 : zflOK (8, 165, 8, 8) := ⟨_, rfl, by decide, (tbi2 172 (by decide +kernel))⟩
set_option maxRecDepth 100000 in
theorem zFL_e90 : zflOK (8, 179, 1, 2) := ⟨_, rfl, by decide, (tbi2 540 (by decide +kernel))⟩
set_option maxRecDepth 100000 in
theorem zFL_e91 : zflOK (8, 182, 1, 10) := ⟨_, rfl, by decide, (tbi2 559 (by decide +kernel))⟩
set_option maxRecDepth 100000 in
theorem zFL_e92 : zflOK (8, 185, 1, 7) := ⟨_, rfl, by decide, (tbi2 551 (by decide +kernel))⟩
set_option maxRecDepth 100000 in
theorem zFL_e93 : zflOK (8, 190, 1, 8) := ⟨_, rfl, by decide, (tbi2 553 (by decide +kernel))⟩
set_option maxRecDepth 100000 in
theorem zFL_e94 : zflOK (8, 195, 1, 3) := ⟨_, rfl, by decide, (tbi2 543 (by decide +kernel))⟩
set_option maxRecDepth 100000 in
theorem zFL_e95 : zflOK (8, 204, 1, 9) := ⟨_, rfl, by decide, (tbi2 556 (by decide +kernel))⟩
set_option maxRecDepth 100000 in
theorem zFL_e96 : zflOK (8, 228, 8, 9) := ⟨_, rfl, by decide, (tbi2 173 (by decide +kernel))⟩
set_option maxRecDepth 100000 in
theorem zFL_e97 : zflOK (8, 248, 4, 4) := ⟨_, rfl, by decide, (tbi2 773 (by decide +kernel))⟩
set_option maxRecDepth 100000 in
theorem zFL_e98 : zflOK (8, 254, 0, 4) := ⟨_, rfl, by decide, (tbi2 801 (by decide +kernel))⟩
set_option maxRecDepth 100000 in
theorem zFL_e99 : zflOK (8, 260, 7, 2) := ⟨_, rfl, by decide, (tbi2 94 (by decide +kernel))⟩
set_option maxRecDepth 100000 in
theorem zFL_e100 : zflOK (8, 271, 0, 0) := ⟨_, rfl, by decide, (tbi2 796 (by decide +kernel))⟩
set_option maxRecDepth 100000 in
theorem zFL_e101 : zflOK (8, 272, 4, 2) := ⟨_, rfl, by decide, (tbi2 769 (by decide +kernel))⟩
set_option maxRecDepth 100000 in
theorem zFL_e102 : zflOK (8, 275, 4, 3) := ⟨_, rfl, by decide, (tbi2 771 (by decide +kernel))⟩
set_option maxRecDepth 100000 in
theorem zFL_e103 : zflOK (8, 287, 7, 0) := ⟨_, rfl, by decide, (tbi2 87 (by decide +kernel))⟩
set_option maxRecDepth 100000 in
theorem zFL_e104 : zflOK (8, 288, 7, 6) := ⟨_, rfl, by decide, (tbi2 104 (by decide +kernel))⟩
set_option maxRecDepth 100000 in
theorem zFL_e105 : zflOK (8, 291, 4, 1) := ⟨_, rfl, by decide, (tbi2 767 (by decide +kernel))⟩
set_option maxRecDepth 100000 in
theorem zFL_e106 : zflOK (8, 295, 4, 0) := ⟨_, rfl, by decide, (tbi2 765 (by decide +kernel))⟩
set_option maxRecDepth 100000 in
theorem zFL_e107 : zflOK (8, 302, 6, 0) := ⟨_, rfl, by decide, (tbi2 142 (by decide +kernel))⟩
set_option maxRecDepth 100000 in
theorem zFL_e108 : zflOK (8, 305, 7, 4) := ⟨_, rfl, by decide, (tbi2 99 (by decide +kernel))⟩
set_option maxRecDepth 100000 in
theorem zFL_e109 : zflOK (8, 357, 8, 10) := ⟨_, rfl, by decide, (tbi2 174 (by decide +kernel))⟩
set_option maxRecDepth 100000 in
theorem zFL_e110 : zflOK (9, 7, 9, 1) := ⟨_, rfl, by decide, (tbi2 909 (by decide +kernel))⟩
set_option maxRecDepth 100000 in
theorem zFL_e111 : zflOK (9, 13, 9, 2) := ⟨_, rfl, by decide, (tbi2 910 (by decide +kernel))⟩
set_option maxRecDepth 100000 in
theorem zFL_e112 : zflOK (9, 16, 9, 3) := ⟨_, rfl, by decide, (tbi2 911 (by decide +kernel))⟩
set_option maxRecDepth 100000 in
theorem zFL_e113 : zflOK (9, 19, 9, 4) := ⟨_, rfl, by decide, (tbi2 912 (by decide +kernel))⟩
set_option maxRecDepth 100000 in
theorem zFL_e114 : zflOK (9, 22, 9, 6) := ⟨_, rfl, by decide, (tbi2 914 (by decide +kernel))⟩
set_option maxRecDepth 100000 in
theorem zFL_e115 : zflOK (9, 25, 9, 7) := ⟨_, rfl, by decide, (tbi2 915 (by decide +kernel))⟩
set_option maxRecDepth 100000 in
theorem zFL_e116 : zflOK (9, 28, 9, 8) := ⟨_, rfl, by decide, (tbi2 916 (by decide +kernel))⟩
set_option maxRecDepth 100000 in
theorem zFL_e117 : zflOK (9, 31, 9, 9) := ⟨_, rfl, by decide, (tbi2 917 (by decide +kernel))⟩
set_option maxRecDepth 100000 in
theorem zFL_e118 : zflOK (9, 35, 9, 10) := ⟨_, rfl, by decide, (tbi2 918 (by decide +kernel))⟩
set_option maxRecDepth 100000 in
theorem zFL_e119 : zflOK (9, 38, 9, 11) := ⟨_, rfl, by decide, (tbi2 919 (by decide +kernel))⟩
def zFL_p2 : zFL_T := [(8, 74, 5, 0), (8, 92, 5, 1), (8, 111, 3, 3), (8, 114, 3, 0), (8, 117, 8, 7), (8, 137, 3, 1), (8, 152, 3, 2), (8, 157, 2, 1), (8, 160, 2, 2), (8, 165, 8, 8), (8, 179, 1, 2), (8, 182, 1, 10), (8, 185, 1, 7), (8, 190, 1, 8), (8, 195, 1, 3), (8, 204, 1, 9), (8, 228, 8, 9), (8, 248, 4, 4), (8, 254, 0, 4), (8, 260, 7, 2), (8, 271, 0, 0), (8, 272, 4, 2), (8, 275, 4, 3), (8, 287, 7, 0), (8, 288, 7, 6), (8, 291, 4, 1), (8, 295, 4, 0), (8, 302, 6, 0), (8, 305, 7, 4), (8, 357, 8, 10), (9, 7, 9, 1), (9, 13, 9, 2), (9, 16, 9, 3), (9, 19, 9, 4), (9, 22, 9, 6), (9, 25, 9, 7), (9, 28, 9, 8), (9, 31, 9, 9), (9, 35, 9, 10), (9, 38, 9, 11)]
theorem zFL_q2 : ∀ q ∈ zFL_p2, zflOK q := List.forall_mem_cons.mpr ⟨zFL_e80, List.forall_mem_cons.mpr ⟨zFL_e81, List.forall_mem_cons.mpr ⟨zFL_e82, List.forall_mem_cons.mpr ⟨zFL_e83, List.forall_mem_cons.mpr ⟨zFL_e84, List.forall_mem_cons.mpr ⟨zFL_e85, List.forall_mem_cons.mpr ⟨zFL_e86, List.forall_mem_cons.mpr ⟨zFL_e87, List.forall_mem_cons.mpr ⟨zFL_e88, List.forall_mem_cons.mpr ⟨zFL_e89, List.forall_mem_cons.mpr ⟨zFL_e90, List.forall_mem_cons.mpr ⟨zFL_e91, List.forall_mem_cons.mpr ⟨zFL_e92, List.forall_mem_cons.mpr ⟨zFL_e93, List.forall_mem_cons.mpr ⟨zFL_e94, List.forall_mem_cons.mpr ⟨zFL_e95, List.forall_mem_cons.mpr ⟨zFL_e96, List.forall_mem_cons.mpr ⟨zFL_e97, List.forall_mem_cons.mpr ⟨zFL_e98, List.forall_mem_cons.mpr ⟨zFL_e99, List.forall_mem_cons.mpr ⟨zFL_e100, List.forall_mem_cons.mpr ⟨zFL_e101, List.forall_mem_cons.mpr ⟨zFL_e102, List.forall_mem_cons.mpr ⟨zFL_e103, List.forall_mem_cons.mpr ⟨zFL_e104, List.forall_mem_cons.mpr ⟨zFL_e105, List.forall_mem_cons.mpr ⟨zFL_e106, List.forall_mem_cons.mpr ⟨zFL_e107, List.forall_mem_cons.mpr ⟨zFL_e108, List.forall_mem_cons.mpr ⟨zFL_e109, List.forall_mem_cons.mpr ⟨zFL_e110, List.forall_mem_cons.mpr ⟨zFL_e111, List.forall_mem_cons.mpr ⟨zFL_e112, List.forall_mem_cons.mpr ⟨zFL_e113, List.forall_mem_cons.mpr ⟨zFL_e114, List.forall_mem_cons.mpr ⟨zFL_e115, List.forall_mem_cons.mpr ⟨zFL_e116, List.forall_mem_cons.mpr ⟨zFL_e117, List.forall_mem_cons.mpr ⟨zFL_e118, List.forall_mem_cons.mpr ⟨zFL_e119, fun _ h => absurd h List.not_mem_nil⟩⟩⟩⟩⟩⟩⟩⟩⟩⟩⟩⟩⟩⟩⟩⟩⟩⟩⟩⟩⟩⟩⟩⟩⟩⟩⟩⟩⟩⟩⟩⟩⟩⟩⟩⟩⟩⟩⟩⟩
set_option maxRecDepth 100000 in
theorem zFL_e120 : zflOK (9, 41, 9, 13) := ⟨_, rfl, by decide, (tbi2 921 (by decide +kernel))⟩
set_option maxRecDepth 100000 in
theorem zFL_e121 : zflOK (9, 44, 9, 14) := ⟨_, rfl, by decide, (tbi2 922 (by decide +kernel))⟩
set_option maxRecDepth 100000 in
theorem zFL_e122 : zflOK (9, 47, 9, 15) := ⟨_, rfl, by decide, (tbi2 923 (by decide +kernel))⟩
set_option maxRecDepth 100000 in
theorem zFL_e123 : zflOK (9, 50, 9, 16) := ⟨_, rfl, by decide, (tbi2 924 (by decide +kernel))⟩
set_option maxRecDepth 100000 in
theorem zFL_e124 : zflOK (9, 53, 9, 17) := ⟨_, rfl, by decide, (tbi2 925 (by decide +kernel))⟩
set_option maxRecDepth 100000 in
theorem zFL_e125 : zflOK (9, 56, 9, 18) := ⟨_, rfl, by decide, (tbi2 926 (by decide +kernel))⟩
set_option maxRecDepth 100000 in
theorem zFL_e126 : zflOK (9, 59, 9, 19) := ⟨_, rfl, by decide, (tbi2 927 (by decide +kernel))⟩
set_option maxRecDepth 100000 in
theorem zFL_e127 : zflOK (9, 62, 9, 20) := ⟨_, rfl, by decide, (tbi2 928 (by decide +kernel))⟩
set_option maxRecDepth 100000 in
theorem zFL_e128 : zflOK (9, 65, 9, 21) := ⟨_, rfl, by decide, (tbi2 929 (by decide +kernel))⟩
set_option maxRecDepth 100000 in
theorem zFL_e129 : zflOK (9, 68, 9, 22) := ⟨_, rfl, by decide, (tbi2 930 (by decide +kernel))⟩
set_option maxRecDepth 100000 in
theorem zFL_e130 : zflOK (9, 72, 9, 23) := ⟨_, rfl, by decide, (tbi2 931 (by decide +kernel))⟩
set_option maxRecDepth 100000 in
theorem zFL_e131 : zflOK (9, 75, 9, 24) := ⟨_, rfl, by decide, (tbi2 932 (by decide +kernel))⟩
set_option maxRecDepth 100000 in
theorem zFL_e132 : zflOK (9, 78, 9, 26) := ⟨_, rfl, by decide, (tbi2 934 (by decide +kernel))⟩
set_option maxRecDepth 100000 in
theorem zFL_e133 : zflOK (9, 81, 9, 27) := ⟨_, rfl, by decide, (tbi2 935 (by decide +kernel))⟩
set_option maxRecDepth 100000 in
theorem zFL_e134 : zflOK (9, 84, 9, 28) := ⟨_, rfl, by decide, (tbi2 936 (by decide +kernel))⟩
set_option maxRecDepth 100000 in
theorem zFL_e135 : zflOK (9, 87, 9, 29) := ⟨_, rfl, by decide, (tbi2 937 (by decide +kernel))⟩
set_option maxRecDepth 100000 in
theorem zFL_e136 : zflOK (9, 90, 9, 30) := ⟨_, rfl, by decide, (tbi2 938 (by decide +kernel))⟩
set_option maxRecDepth 100000 in
theorem zFL_e137 : zflOK (9, 93, 9, 32) := ⟨_, rfl, by decide, (tbi2 940 (by decide +kernel))⟩
set_option maxRecDepth 100000 in
theorem zFL_e138 : zflOK (9, 96, 9, 33) := ⟨_, rfl, by decide, (tbi2 941 (by decide +kernel))⟩
set_option maxRecDepth 100000 in
theorem zFL_e139 : zflOK (9, 99, 9, 34) := ⟨_, rfl, by decide, (tbi2 942 (by decide +kernel))⟩
set_option maxRecDepth 100000 in
theorem zFL_e140 : zflOK (9, 102, 9, 35) := ⟨_, rfl, by decide, (tbi2 943 (by decide +kernel))⟩
set_option maxRecDepth 100000 in
theorem zFL_e141 : zflOK (9, 105, 9, 36) := ⟨_, rfl, by decide, (tbi2 944 (by decide +kernel))⟩
set_option maxRecDepth 100000 in
theorem zFL_e142 : zflOK (9, 108, 9, 37) := ⟨_, rfl, by decide, (tbi2 945 (by decide +kernel))⟩
set_option maxRecDepth 100000 in
theorem zFL_e143 : zflOK (9, 111, 9, 38) := ⟨_, rfl, by decide, (tbi2 946 (by decide +kernel))⟩
set_option maxRecDepth 100000 in
theorem zFL_e144 : zflOK (9, 114, 9, 39) := ⟨_, rfl, by decide, (tbi2 947 (by decide +kernel))⟩
set_option maxRecDepth 100000 in
theorem zFL_e145 : zflOK (9, 117, 9, 40) := ⟨_, rfl, by decide, (tbi2 948 (by decide +kernel))⟩
set_option maxRecDepth 100000 in
theorem zFL_e146 : zflOK (9, 120, 9, 41) := ⟨_, rfl, by decide, (tbi2 949 (by decide +kernel))⟩
set_option maxRecDepth 100000 in
theorem zFL_e147 : zflOK (9, 123, 9, 42) := ⟨_, rfl, by decide, (tbi2 950 (by decide +kernel))⟩
set_option maxRecDepth 100000 in
theorem zFL_e148 : zflOK (9, 126, 9, 43) := ⟨_, rfl, by decide, (tbi2 951 (by decide +kernel))⟩
set_option maxRecDepth 100000 in
theorem zFL_e149 : zflOK (9, 129, 9, 44) := ⟨_, rfl, by decide, (tbi2 952 (by decide +kernel))⟩
set_option maxRecDepth 100000 in
theorem zFL_e150 : zflOK (9, 132, 9, 50) := ⟨_, rfl, by decide, (tbi2 958 (by decide +kernel))⟩
set_option maxRecDepth 100000 in
theorem zFL_e151 : zflOK (9, 135, 9, 51) := ⟨_, rfl, by decide, (tbi2 959 (by decide +kernel))⟩
set_option maxRecDepth 100000 in
theorem zFL_e152 : zflOK (9, 138, 9, 52) := ⟨_, rfl, by decide, (tbi2 960 (by decide +kernel))⟩
set_option maxRecDepth 100000 in
theorem zFL_e153 : zflOK (9, 141, 9, 53) := ⟨_, rfl, by decide, (tbi2 961 (by decide +kernel))⟩
set_option maxRecDepth 100000 in
theorem zFL_e154 : zflOK (9, 144, 9, 54) := ⟨_, rfl, by decide, (tbi2 962 (by decide +kernel))⟩
set_option maxRecDepth 100000 in
theorem zFL_e155 : zflOK (9, 147, 9, 55) := ⟨_, rfl, by decide, (tbi2 963 (by decide +kernel))⟩
set_option maxRecDepth 100000 in
theorem zFL_e156 : zflOK (9, 151, 9, 0) := ⟨_, rfl, by decide, (tbi2 908 (by decide +kernel))⟩
set_option maxRecDepth 100000 in
theorem zFL_e157 : zflOK (9, 180, 9, 5) := ⟨_, rfl, by decide, (tbi2 913 (by decide +kernel))⟩
set_option maxRecDepth 100000 in
theorem zFL_e158 : zflOK (9, 199, 9, 12) := ⟨_, rfl, by decide, (tbi2 920 (by decide +kernel))⟩
set_option maxRecDepth 100000 in
theorem zFL_e159 : zflOK (9, 209, 9, 49) := ⟨_, rfl, by decide, (tbi2 957 (by decide +kernel))⟩
def zFL_p3 : zFL_T := [(9, 41, 9, 13), (9, 44, 9, 14), (9, 47, 9, 15), (9, 50, 9, 16), (9, 53, 9, 17), (9, 56, 9, 18), (9, 59, 9, 19), (9, 62, 9, 20), (9, 65, 9, 21), (9, 68, 9, 22), (9, 72, 9, 23), (9, 75, 9, 24), (9, 78, 9, 26), (9, 81, 9, 27), (9, 84, 9, 28), (9, 87, 9, 29), (9, 90, 9, 30), (9, 93, 9, 32), (9, 96, 9, 33), (9, 99, 9, 34), (9, 102, 9, 35), (9, 105, 9, 36), (9, 108, 9, 37), (9, 111, 9, 38), (9, 114, 9, 39), (9, 117, 9, 40), (9, 120, 9, 41), (9, 123, 9, 42), (9, 126, 9, 43), (9, 129, 9, 44), (9, 132, 9, 50), (9, 135, 9, 51), (9, 138, 9, 52), (9, 141, 9, 53), (9, 144, 9, 54), (9, 147, 9, 55), (9, 151, 9, 0), (9, 180, 9, 5), (9, 199, 9, 12), (9, 209, 9, 49)]
theorem zFL_q3 : ∀ q ∈ zFL_p3, zflOK q := List.forall_mem_cons.mpr ⟨zFL_e120, List.forall_mem_cons.mpr ⟨zFL_e121, List.forall_mem_cons.mpr ⟨zFL_e122, List.forall_mem_cons.mpr ⟨zFL_e123, List.forall_mem_cons.mpr ⟨zFL_e124, List.forall_mem_cons.mpr ⟨zFL_e125, List.forall_mem_cons.mpr ⟨zFL_e126, List.forall_mem_cons.mpr ⟨zFL_e127, List.forall_mem_cons.mpr ⟨zFL_e128, List.forall_mem_cons.mpr ⟨zFL_e129, List.forall_mem_cons.mpr ⟨zFL_e130, List.forall_mem_cons.mpr ⟨zFL_e131, List.forall_mem_cons.mpr ⟨zFL_e132, List.forall_mem_cons.mpr ⟨zFL_e133, List.forall_mem_cons.mpr ⟨zFL_e134, List.forall_mem_cons.mpr ⟨zFL_e135, List.forall_mem_cons.mpr ⟨zFL_e136, List.forall_mem_cons.mpr ⟨zFL_e137, List.forall_mem_cons.mpr ⟨zFL_e138, List.forall_mem_cons.mpr ⟨zFL_e139, List.forall_mem_cons.mpr ⟨zFL_e140, List.forall_mem_cons.mpr ⟨zFL_e141, List.forall_mem_cons.mpr ⟨zFL_e142, List.forall_mem_cons.mpr ⟨zFL_e143, List.forall_mem_cons.mpr ⟨zFL_e144, List.forall_mem_cons.mpr ⟨zFL_e145, List.forall_mem_cons.mpr ⟨zFL_e146, List.forall_mem_cons.mpr ⟨zFL_e147, List.forall_mem_cons.mpr ⟨zFL_e148, List.forall_mem_cons.mpr ⟨zFL_e149, List.forall_mem_cons.mpr ⟨zFL_e150, List.forall_mem_cons.mpr ⟨zFL_e151, List.forall_mem_cons.mpr ⟨zFL_e152, List.forall_mem_cons.mpr ⟨zFL_e153, List.forall_mem_cons.mpr ⟨zFL_e154, List.forall_mem_cons.mpr ⟨zFL_e155, List.forall_mem_cons.mpr ⟨zFL_e156, List.forall_mem_cons.mpr ⟨zFL_e157, List.forall_mem_cons.mpr ⟨zFL_e158, List.forall_mem_cons.mpr ⟨zFL_e159, fun _ h => absurd h List.not_mem_nil⟩⟩⟩⟩⟩⟩⟩⟩⟩⟩⟩⟩⟩⟩⟩⟩⟩⟩⟩⟩⟩⟩⟩⟩⟩⟩⟩⟩⟩⟩⟩⟩⟩⟩⟩⟩⟩⟩⟩⟩
set_option maxRecDepth 100000 in
theorem zFL_e160 : zflOK (9, 216, 9, 45) := ⟨_, rfl, by decide, (tbi2 953 (by decide +kernel))⟩
set_option maxRecDepth 100000 in
theorem zFL_e161 : zflOK (9, 236, 9, 48) := ⟨_, rfl, by decide, (tbi2 956 (by decide +kernel))⟩
set_option maxRecDepth 100000 in
theorem zFL_e162 : zflOK (9, 239, 9, 46) := ⟨_, rfl, by decide, (tbi2 954 (by decide +kernel))⟩
set_option maxRecDepth 100000 in
theorem zFL_e163 : zflOK (9, 242, 9, 47) := ⟨_, rfl, by decide, (tbi2 955 (by decide +kernel))⟩
set_option maxRecDepth 100000 in
theorem zFL_e164 : zflOK (9, 256, 9, 31) := ⟨_, rfl, by decide, (tbi2 939 (by decide +kernel))⟩
set_option maxRecDepth 100000 in
theorem zFL_e165 : zflOK (9, 262, 9, 25) := ⟨_, rfl, by decide, (tbi2 933 (by decide +kernel))⟩
def zFL_p4 : zFL_T := [(9, 216, 9, 45), (9, 236, 9, 48), (9, 239, 9, 46), (9, 242, 9, 47), (9, 256, 9, 31), (9, 262, 9, 25)]
theorem zFL_q4 : ∀ q ∈ zFL_p4, zflOK q := List.forall_mem_cons.mpr ⟨zFL_e160, List.forall_mem_cons.mpr ⟨zFL_e161, List.forall_mem_cons.mpr ⟨zFL_e162, List.forall_mem_cons.mpr ⟨zFL_e163, List.forall_mem_cons.mpr ⟨zFL_e164, List.forall_mem_cons.mpr ⟨zFL_e165, fun _ h => absurd h List.not_mem_nil⟩⟩⟩⟩⟩⟩
def zFLA : zFL_T := zFL_p0 ++ (zFL_p1 ++ (zFL_p2 ++ (zFL_p3 ++ (zFL_p4))))
theorem zFL_all : ∀ q ∈ zFLA, zflOK q := List.forall_mem_append.mpr ⟨zFL_q0, List.forall_mem_append.mpr ⟨zFL_q1, List.forall_mem_append.mpr ⟨zFL_q2, List.forall_mem_append.mpr ⟨zFL_q3, zFL_q4⟩⟩⟩⟩
def zmOK (f : Nat) : Prop := zcode zPr zZ f ∈ zTB ∧ Jvm.Cond.initialized (zyn zZ f).cls ∈ zTB ∧ (zyn zZ f).cls ≠ "java/lang/invoke/MethodHandle" ∧ (zyn zZ f).cls ≠ "java/lang/invoke/VarHandle"
abbrev zML_T : Type := List (Nat)
set_option maxRecDepth 100000 in
theorem zML_e0 : zmOK 0 := ⟨tbi 793 (show lw_tbl[793]? = some (Jvm.Cond.code yX0_init prog_2_method_1_code 5 (none)) from rfl) rfl, (tbi2 57 (by decide +kernel)), by decide +kernel, by decide +kernel⟩
set_option maxRecDepth 100000 in
theorem zML_e1 : zmOK 1 := ⟨tbi 671 (show lw_tbl[671]? = some (Jvm.Cond.code yX0_serves prog_2_method_2_code 3 (some .boolean)) from rfl) rfl, (tbi2 57 (by decide +kernel)), by decide +kernel, by decide +kernel⟩
set_option maxRecDepth 100000 in
theorem zML_e2 : zmOK 2 := ⟨tbi 839 (show lw_tbl[839]? = some (Jvm.Cond.code yX0_tell prog_2_method_3_code 2 (some .int)) from rfl) rfl, (tbi2 57 (by decide +kernel)), by decide +kernel, by decide +kernel⟩
set_option maxRecDepth 100000 in
theorem zML_e3 : zmOK 3 := ⟨tbi 532 (show lw_tbl[532]? = some (Jvm.Cond.code yX1_init prog_3_method_1_code 4 (none)) from rfl) rfl, (tbi2 54 (by decide +kernel)), by decide +kernel, by decide +kernel⟩
set_option maxRecDepth 100000 in
theorem zML_e4 : zmOK 4 := ⟨tbi 625 (show lw_tbl[625]? = some (Jvm.Cond.code yX1_add prog_3_method_2_code 4 (some .int)) from rfl) rfl, (tbi2 54 (by decide +kernel)), by decide +kernel, by decide +kernel⟩
set_option maxRecDepth 100000 in
theorem zML_e5 : zmOK 5 := ⟨tbi 283 (show lw_tbl[283]? = some (Jvm.Cond.code yX2_init prog_4_method_1_code 1 (none)) from rfl) rfl, (tbi2 50 (by decide +kernel)), by decide +kernel, by decide +kernel⟩
set_option maxRecDepth 100000 in
theorem zML_e6 : zmOK 6 := ⟨tbi 519 (show lw_tbl[519]? = some (Jvm.Cond.code yX2_has prog_4_method_2_code 2 (some .boolean)) from rfl) rfl, (tbi2 50 (by decide +kernel)), by decide +kernel, by decide +kernel⟩
set_option maxRecDepth 100000 in
theorem zML_e7 : zmOK 7 := ⟨tbi 364 (show lw_tbl[364]? = some (Jvm.Cond.code yX2_put prog_4_method_3_code 4 (none)) from rfl) rfl, (tbi2 50 (by decide +kernel)), by decide +kernel, by decide +kernel⟩
set_option maxRecDepth 100000 in
theorem zML_e8 : zmOK 8 := ⟨tbi 388 (show lw_tbl[388]? = some (Jvm.Cond.code yX2_conceal prog_4_method_4_code 2 (none)) from rfl) rfl, (tbi2 50 (by decide +kernel)), by decide +kernel, by decide +kernel⟩
set_option maxRecDepth 100000 in
theorem zML_e9 : zmOK 9 := ⟨tbi 368 (show lw_tbl[368]? = some (Jvm.Cond.code yX2_become prog_4_method_5_code 5 (none)) from rfl) rfl, (tbi2 50 (by decide +kernel)), by decide +kernel, by decide +kernel⟩
set_option maxRecDepth 100000 in
theorem zML_e10 : zmOK 10 := ⟨tbi 449 (show lw_tbl[449]? = some (Jvm.Cond.code yX2_layOver prog_4_method_6_code 3 (none)) from rfl) rfl, (tbi2 50 (by decide +kernel)), by decide +kernel, by decide +kernel⟩
set_option maxRecDepth 100000 in
theorem zML_e11 : zmOK 11 := ⟨tbi 399 (show lw_tbl[399]? = some (Jvm.Cond.code yX2_sameAs prog_4_method_7_code 2 (some .boolean)) from rfl) rfl, (tbi2 50 (by decide +kernel)), by decide +kernel, by decide +kernel⟩
set_option maxRecDepth 100000 in
theorem zML_e12 : zmOK 12 := ⟨tbi 403 (show lw_tbl[403]? = some (Jvm.Cond.code yX2_sameIn prog_4_method_8_code 5 (some .boolean)) from rfl) rfl, (tbi2 50 (by decide +kernel)), by decide +kernel, by decide +kernel⟩
set_option maxRecDepth 100000 in
theorem zML_e13 : zmOK 13 := ⟨tbi 453 (show lw_tbl[453]? = some (Jvm.Cond.code yX3_init prog_5_method_1_code 4 (none)) from rfl) rfl, (tbi2 53 (by decide +kernel)), by decide +kernel, by decide +kernel⟩
set_option maxRecDepth 100000 in
theorem zML_e14 : zmOK 14 := ⟨tbi 499 (show lw_tbl[499]? = some (Jvm.Cond.code yX3_holds prog_5_method_2_code 3 (some .boolean)) from rfl) rfl, (tbi2 53 (by decide +kernel)), by decide +kernel, by decide +kernel⟩
set_option maxRecDepth 100000 in
theorem zML_e15 : zmOK 15 := ⟨tbi 762 (show lw_tbl[762]? = some (Jvm.Cond.code yX4_init prog_6_method_1_code 6 (none)) from rfl) rfl, (tbi2 56 (by decide +kernel)), by decide +kernel, by decide +kernel⟩
set_option maxRecDepth 100000 in
theorem zML_e16 : zmOK 16 := ⟨tbi 277 (show lw_tbl[277]? = some (Jvm.Cond.code yX5_init prog_7_method_1_code 1 (none)) from rfl) rfl, (tbi2 49 (by decide +kernel)), by decide +kernel, by decide +kernel⟩
set_option maxRecDepth 100000 in
theorem zML_e17 : zmOK 17 := ⟨tbi 78 (show lw_tbl[78]? = some (Jvm.Cond.code yX6_init prog_8_method_1_code 1 (none)) from rfl) rfl, (tbi2 42 (by decide +kernel)), by decide +kernel, by decide +kernel⟩
set_option maxRecDepth 100000 in
theorem zML_e18 : zmOK 18 := ⟨tbi 790 (show lw_tbl[790]? = some (Jvm.Cond.code yX6_handOut prog_8_method_2_code 2 (some (.object "PressBox$Sheets"))) from rfl) rfl, (tbi2 42 (by decide +kernel)), by decide +kernel, by decide +kernel⟩
set_option maxRecDepth 100000 in
theorem zML_e19 : zmOK 19 := ⟨tbi 680 (show lw_tbl[680]? = some (Jvm.Cond.code yX6_set prog_8_method_3_code 4 (none)) from rfl) rfl, (tbi2 42 (by decide +kernel)), by decide +kernel, by decide +kernel⟩
set_option maxRecDepth 100000 in
theorem zML_e20 : zmOK 20 := ⟨tbi 684 (show lw_tbl[684]? = some (Jvm.Cond.code yX6_measureWords prog_8_method_4_code 6 (none)) from rfl) rfl, (tbi2 42 (by decide +kernel)), by decide +kernel, by decide +kernel⟩
set_option maxRecDepth 100000 in
theorem zML_e21 : zmOK 21 := ⟨tbi 688 (show lw_tbl[688]? = some (Jvm.Cond.code yX6_widthOf prog_8_method_5_code 8 (some .int)) from rfl) rfl, (tbi2 42 (by decide +kernel)), by decide +kernel, by decide +kernel⟩
set_option maxRecDepth 100000 in
theorem zML_e22 : zmOK 22 := ⟨tbi 694 (show lw_tbl[694]? = some (Jvm.Cond.code yX6_letterWidth prog_8_method_6_code 6 (some .int)) from rfl) rfl, (tbi2 42 (by decide +kernel)), by decide +kernel, by decide +kernel⟩
set_option maxRecDepth 100000 in
theorem zML_e23 : zmOK 23 := ⟨tbi 699 (show lw_tbl[699]? = some (Jvm.Cond.code yX6_spaceBehind prog_8_method_7_code 5 (some .int)) from rfl) rfl, (tbi2 42 (by decide +kernel)), by decide +kernel, by decide +kernel⟩
set_option maxRecDepth 100000 in
theorem zML_e24 : zmOK 24 := ⟨tbi 703 (show lw_tbl[703]? = some (Jvm.Cond.code yX6_breakLines prog_8_method_8_code 6 (none)) from rfl) rfl, (tbi2 42 (by decide +kernel)), by decide +kernel, by decide +kernel⟩
set_option maxRecDepth 100000 in
theorem zML_e25 : zmOK 25 := ⟨tbi 711 (show lw_tbl[711]? = some (Jvm.Cond.code yX6_beginLine prog_8_method_9_code 5 (none)) from rfl) rfl, (tbi2 42 (by decide +kernel)), by decide +kernel, by decide +kernel⟩
set_option maxRecDepth 100000 in
theorem zML_e26 : zmOK 26 := ⟨tbi 707 (show lw_tbl[707]? = some (Jvm.Cond.code yX6_figures prog_8_method_10_code 2 (some .int)) from rfl) rfl, (tbi2 42 (by decide +kernel)), by decide +kernel, by decide +kernel⟩
set_option maxRecDepth 100000 in
theorem zML_e27 : zmOK 27 := ⟨tbi 715 (show lw_tbl[715]? = some (Jvm.Cond.code yX6_weighLines prog_8_method_11_code 3 (none)) from rfl) rfl, (tbi2 42 (by decide +kernel)), by decide +kernel, by decide +kernel⟩
set_option maxRecDepth 100000 in
theorem zML_e28 : zmOK 28 := ⟨tbi 723 (show lw_tbl[723]? = some (Jvm.Cond.code yX6_borderPenalty prog_8_method_12_code 4 (some .int)) from rfl) rfl, (tbi2 42 (by decide +kernel)), by decide +kernel, by decide +kernel⟩
set_option maxRecDepth 100000 in
theorem zML_e29 : zmOK 29 := ⟨tbi 731 (show lw_tbl[731]? = some (Jvm.Cond.code yX6_breakPages prog_8_method_13_code 3 (none)) from rfl) rfl, (tbi2 42 (by decide +kernel)), by decide +kernel, by decide +kernel⟩
set_option maxRecDepth 100000 in
theorem zML_e30 : zmOK 30 := ⟨tbi 735 (show lw_tbl[735]? = some (Jvm.Cond.code yX6_choosePage prog_8_method_14_code 6 (none)) from rfl) rfl, (tbi2 42 (by decide +kernel)), by decide +kernel, by decide +kernel⟩
set_option maxRecDepth 100000 in
theorem zML_e31 : zmOK 31 := ⟨tbi 739 (show lw_tbl[739]? = some (Jvm.Cond.code yX6_penaltiesWith prog_8_method_15_code 4 (some .int)) from rfl) rfl, (tbi2 42 (by decide +kernel)), by decide +kernel, by decide +kernel⟩
set_option maxRecDepth 100000 in
theorem zML_e32 : zmOK 32 := ⟨tbi 746 (show lw_tbl[746]? = some (Jvm.Cond.code yX6_numberPages prog_8_method_16_code 3 (none)) from rfl) rfl, (tbi2 42 (by decide +kernel)), by decide +kernel, by decide +kernel⟩
set_option maxRecDepth 100000 in
theorem zML_e33 : zmOK 33 := ⟨tbi 750 (show lw_tbl[750]? = some (Jvm.Cond.code yX6_renewReferences prog_8_method_17_code 5 (some .boolean)) from rfl) rfl, (tbi2 42 (by decide +kernel)), by decide +kernel, by decide +kernel⟩
set_option maxRecDepth 100000 in
theorem zML_e34 : zmOK 34 := ⟨tbi 754 (show lw_tbl[754]? = some (Jvm.Cond.code yX6_findBegins prog_8_method_18_code 2 (none)) from rfl) rfl, (tbi2 42 (by decide +kernel)), by decide +kernel, by decide +kernel⟩
set_option maxRecDepth 100000 in
theorem zML_e35 : zmOK 35 := ⟨tbi 84 (show lw_tbl[84]? = some (Jvm.Cond.code yX7_init prog_9_method_1_code 1 (none)) from rfl) rfl, (tbi2 43 (by decide +kernel)), by decide +kernel, by decide +kernel⟩
set_option maxRecDepth 100000 in
theorem zML_e36 : zmOK 36 := ⟨tbi 758 (show lw_tbl[758]? = some (Jvm.Cond.code yX7_cost prog_9_method_2_code 1 (some .int)) from rfl) rfl, (tbi2 43 (by decide +kernel)), by decide +kernel, by decide +kernel⟩
set_option maxRecDepth 100000 in
theorem zML_e37 : zmOK 37 := ⟨tbi 854 (show lw_tbl[854]? = some (Jvm.Cond.code yX7_tellOfLine prog_9_method_3_code 3 (some .int)) from rfl) rfl, (tbi2 43 (by decide +kernel)), by decide +kernel, by decide +kernel⟩
set_option maxRecDepth 100000 in
theorem zML_e38 : zmOK 38 := ⟨tbi 727 (show lw_tbl[727]? = some (Jvm.Cond.code yX7_opensParagraph prog_9_method_4_code 2 (some .boolean)) from rfl) rfl, (tbi2 43 (by decide +kernel)), by decide +kernel, by decide +kernel⟩
set_option maxRecDepth 100000 in
theorem zML_e39 : zmOK 39 := ⟨tbi 719 (show lw_tbl[719]? = some (Jvm.Cond.code yX7_closesParagraph prog_9_method_5_code 2 (some .boolean)) from rfl) rfl, (tbi2 43 (by decide +kernel)), by decide +kernel, by decide +kernel⟩
def zML_p0 : zML_T := [0, 1, 2, 3, 4, 5, 6, 7, 8, 9, 10, 11, 12, 13, 14, 15, 16, 17, 18, 19, 20, 21, 22, 23, 24, 25, 26, 27, 28, 29, 30, 31, 32, 33, 34, 35, 36, 37, 38, 39]
theorem zML_q0 : ∀ q ∈ zML_p0, zmOK q := List.forall_mem_cons.mpr ⟨zML_e0, List.forall_mem_cons.mpr ⟨zML_e1, List.forall_mem_cons.mpr ⟨zML_e2, List.forall_mem_cons.mpr ⟨zML_e3, List.forall_mem_cons.mpr ⟨zML_e4, List.forall_mem_cons.mpr ⟨zML_e5, List.forall_mem_cons.mpr ⟨zML_e6, List.forall_mem_cons.mpr ⟨zML_e7, List.forall_mem_cons.mpr ⟨zML_e8, List.forall_mem_cons.mpr ⟨zML_e9, List.forall_mem_cons.mpr ⟨zML_e10, List.forall_mem_cons.mpr ⟨zML_e11, List.forall_mem_cons.mpr ⟨zML_e12, List.forall_mem_cons.mpr ⟨zML_e13, List.forall_mem_cons.mpr ⟨zML_e14, List.forall_mem_cons.mpr ⟨zML_e15, List.forall_mem_cons.mpr ⟨zML_e16, List.forall_mem_cons.mpr ⟨zML_e17, List.forall_mem_cons.mpr ⟨zML_e18, List.forall_mem_cons.mpr ⟨zML_e19, List.forall_mem_cons.mpr ⟨zML_e20, List.forall_mem_cons.mpr ⟨zML_e21, List.forall_mem_cons.mpr ⟨zML_e22, List.forall_mem_cons.mpr ⟨zML_e23, List.forall_mem_cons.mpr ⟨zML_e24, List.forall_mem_cons.mpr ⟨zML_e25, List.forall_mem_cons.mpr ⟨zML_e26, List.forall_mem_cons.mpr ⟨zML_e27, List.forall_mem_cons.mpr ⟨zML_e28, List.forall_mem_cons.mpr ⟨zML_e29, List.forall_mem_cons.mpr ⟨zML_e30, List.forall_mem_cons.mpr ⟨zML_e31, List.forall_mem_cons.mpr ⟨zML_e32, List.forall_mem_cons.mpr ⟨zML_e33, List.forall_mem_cons.mpr ⟨zML_e34, List.forall_mem_cons.mpr ⟨zML_e35, List.forall_mem_cons.mpr ⟨zML_e36, List.forall_mem_cons.mpr ⟨zML_e37, List.forall_mem_cons.mpr ⟨zML_e38, List.forall_mem_cons.mpr ⟨zML_e39, fun _ h => absurd h List.not_mem_nil⟩⟩⟩⟩⟩⟩⟩⟩⟩⟩⟩⟩⟩⟩⟩⟩⟩⟩⟩⟩⟩⟩⟩⟩⟩⟩⟩⟩⟩⟩⟩⟩⟩⟩⟩⟩⟩⟩⟩⟩
set_option maxRecDepth 100000 in
theorem zML_e40 : zmOK 40 := ⟨tbi 886 (show lw_tbl[886]? = some (Jvm.Cond.code yX7_pagesUnlike prog_9_method_6_code 8 (some .int)) from rfl) rfl, (tbi2 43 (by decide +kernel)), by decide +kernel, by decide +kernel⟩
set_option maxRecDepth 100000 in
theorem zML_e41 : zmOK 41 := ⟨tbi 890 (show lw_tbl[890]? = some (Jvm.Cond.code yX7_endOfPage prog_9_method_7_code 4 (some .int)) from rfl) rfl, (tbi2 43 (by decide +kernel)), by decide +kernel, by decide +kernel⟩
set_option maxRecDepth 100000 in
theorem zML_e42 : zmOK 42 := ⟨tbi 894 (show lw_tbl[894]? = some (Jvm.Cond.code yX7_sameLines prog_9_method_8_code 8 (some .boolean)) from rfl) rfl, (tbi2 43 (by decide +kernel)), by decide +kernel, by decide +kernel⟩
set_option maxRecDepth 100000 in
theorem zML_e43 : zmOK 43 := ⟨tbi 62 (show lw_tbl[62]? = some (Jvm.Cond.code yX8_init prog_1_method_1_code 1 (none)) from rfl) rfl, (tbi2 41 (by decide +kernel)), by decide +kernel, by decide +kernel⟩
set_option maxRecDepth 100000 in
theorem zML_e44 : zmOK 44 := ⟨tbi 205 (show lw_tbl[205]? = some (Jvm.Cond.code yX8_layer prog_1_method_2_code 1 (some .int)) from rfl) rfl, (tbi2 41 (by decide +kernel)), by decide +kernel, by decide +kernel⟩
set_option maxRecDepth 100000 in
theorem zML_e45 : zmOK 45 := ⟨tbi 316 (show lw_tbl[316]? = some (Jvm.Cond.code yX8_font prog_1_method_3_code 6 (none)) from rfl) rfl, (tbi2 41 (by decide +kernel)), by decide +kernel, by decide +kernel⟩
set_option maxRecDepth 100000 in
theorem zML_e46 : zmOK 46 := ⟨tbi 375 (show lw_tbl[375]? = some (Jvm.Cond.code yX8_pack prog_1_method_4_code 6 (none)) from rfl) rfl, (tbi2 41 (by decide +kernel)), by decide +kernel, by decide +kernel⟩
set_option maxRecDepth 100000 in
theorem zML_e47 : zmOK 47 := ⟨tbi 383 (show lw_tbl[383]? = some (Jvm.Cond.code yX8_hide prog_1_method_5_code 4 (none)) from rfl) rfl, (tbi2 41 (by decide +kernel)), by decide +kernel, by decide +kernel⟩
set_option maxRecDepth 100000 in
theorem zML_e48 : zmOK 48 := ⟨tbi 395 (show lw_tbl[395]? = some (Jvm.Cond.code yX8_seal prog_1_method_6_code 5 (some .int)) from rfl) rfl, (tbi2 41 (by decide +kernel)), by decide +kernel, by decide +kernel⟩
set_option maxRecDepth 100000 in
theorem zML_e49 : zmOK 49 := ⟨tbi 410 (show lw_tbl[410]? = some (Jvm.Cond.code yX8_image prog_1_method_7_code 5 (some .int)) from rfl) rfl, (tbi2 41 (by decide +kernel)), by decide +kernel, by decide +kernel⟩
set_option maxRecDepth 100000 in
theorem zML_e50 : zmOK 50 := ⟨tbi 478 (show lw_tbl[478]? = some (Jvm.Cond.code yX8_drop prog_1_method_8_code 3 (some .int)) from rfl) rfl, (tbi2 41 (by decide +kernel)), by decide +kernel, by decide +kernel⟩
set_option maxRecDepth 100000 in
theorem zML_e51 : zmOK 51 := ⟨tbi 506 (show lw_tbl[506]? = some (Jvm.Cond.code yX8_ofLayer prog_1_method_9_code 4 (some .int)) from rfl) rfl, (tbi2 41 (by decide +kernel)), by decide +kernel, by decide +kernel⟩
set_option maxRecDepth 100000 in
theorem zML_e52 : zmOK 52 := ⟨tbi 514 (show lw_tbl[514]? = some (Jvm.Cond.code yX8_file prog_1_method_10_code 5 (some .int)) from rfl) rfl, (tbi2 41 (by decide +kernel)), by decide +kernel, by decide +kernel⟩
set_option maxRecDepth 100000 in
theorem zML_e53 : zmOK 53 := ⟨tbi 526 (show lw_tbl[526]? = some (Jvm.Cond.code yX8_document prog_1_method_11_code 3 (some .int)) from rfl) rfl, (tbi2 41 (by decide +kernel)), by decide +kernel, by decide +kernel⟩
set_option maxRecDepth 100000 in
theorem zML_e54 : zmOK 54 := ⟨tbi 590 (show lw_tbl[590]? = some (Jvm.Cond.code yX8_style prog_1_method_12_code 6 (some .int)) from rfl) rfl, (tbi2 41 (by decide +kernel)), by decide +kernel, by decide +kernel⟩
set_option maxRecDepth 100000 in
theorem zML_e55 : zmOK 55 := ⟨tbi 603 (show lw_tbl[603]? = some (Jvm.Cond.code yX8_include prog_1_method_13_code 7 (some .boolean)) from rfl) rfl, (tbi2 41 (by decide +kernel)), by decide +kernel, by decide +kernel⟩
set_option maxRecDepth 100000 in
theorem zML_e56 : zmOK 56 := ⟨tbi 610 (show lw_tbl[610]? = some (Jvm.Cond.code yX8_paragraph prog_1_method_14_code 4 (some .int)) from rfl) rfl, (tbi2 41 (by decide +kernel)), by decide +kernel, by decide +kernel⟩
set_option maxRecDepth 100000 in
theorem zML_e57 : zmOK 57 := ⟨tbi 619 (show lw_tbl[619]? = some (Jvm.Cond.code yX8_word prog_1_method_15_code 5 (some .int)) from rfl) rfl, (tbi2 41 (by decide +kernel)), by decide +kernel, by decide +kernel⟩
set_option maxRecDepth 100000 in
theorem zML_e58 : zmOK 58 := ⟨tbi 632 (show lw_tbl[632]? = some (Jvm.Cond.code yX8_reference prog_1_method_16_code 4 (some .int)) from rfl) rfl, (tbi2 41 (by decide +kernel)), by decide +kernel, by decide +kernel⟩
set_option maxRecDepth 100000 in
theorem zML_e59 : zmOK 59 := ⟨tbi 641 (show lw_tbl[641]? = some (Jvm.Cond.code yX8_version prog_1_method_17_code 2 (some .int)) from rfl) rfl, (tbi2 41 (by decide +kernel)), by decide +kernel, by decide +kernel⟩
set_option maxRecDepth 100000 in
theorem zML_e60 : zmOK 60 := ⟨tbi 648 (show lw_tbl[648]? = some (Jvm.Cond.code yX8_quota prog_1_method_18_code 3 (some .int)) from rfl) rfl, (tbi2 41 (by decide +kernel)), by decide +kernel, by decide +kernel⟩
set_option maxRecDepth 100000 in
theorem zML_e61 : zmOK 61 := ⟨tbi 662 (show lw_tbl[662]? = some (Jvm.Cond.code yX8_run prog_1_method_19_code 7 (some .int)) from rfl) rfl, (tbi2 41 (by decide +kernel)), by decide +kernel, by decide +kernel⟩
set_option maxRecDepth 100000 in
theorem zML_e62 : zmOK 62 := ⟨tbi 819 (show lw_tbl[819]? = some (Jvm.Cond.code yX8_write prog_1_method_20_code 6 (none)) from rfl) rfl, (tbi2 41 (by decide +kernel)), by decide +kernel, by decide +kernel⟩
set_option maxRecDepth 100000 in
theorem zML_e63 : zmOK 63 := ⟨tbi 835 (show lw_tbl[835]? = some (Jvm.Cond.code yX8_job prog_1_method_21_code 4 (some .int)) from rfl) rfl, (tbi2 41 (by decide +kernel)), by decide +kernel, by decide +kernel⟩
set_option maxRecDepth 100000 in
theorem zML_e64 : zmOK 64 := ⟨tbi 846 (show lw_tbl[846]? = some (Jvm.Cond.code yX8_line prog_1_method_22_code 5 (some .int)) from rfl) rfl, (tbi2 41 (by decide +kernel)), by decide +kernel, by decide +kernel⟩
set_option maxRecDepth 100000 in
theorem zML_e65 : zmOK 65 := ⟨tbi 861 (show lw_tbl[861]? = some (Jvm.Cond.code yX8_shows prog_1_method_23_code 4 (some .int)) from rfl) rfl, (tbi2 41 (by decide +kernel)), by decide +kernel, by decide +kernel⟩
set_option maxRecDepth 100000 in
theorem zML_e66 : zmOK 66 := ⟨tbi 868 (show lw_tbl[868]? = some (Jvm.Cond.code yX8_anew prog_1_method_24_code 4 (some .int)) from rfl) rfl, (tbi2 41 (by decide +kernel)), by decide +kernel, by decide +kernel⟩
set_option maxRecDepth 100000 in
theorem zML_e67 : zmOK 67 := ⟨tbi 875 (show lw_tbl[875]? = some (Jvm.Cond.code yX8_penalties prog_1_method_25_code 3 (some .int)) from rfl) rfl, (tbi2 41 (by decide +kernel)), by decide +kernel, by decide +kernel⟩
set_option maxRecDepth 100000 in
theorem zML_e68 : zmOK 68 := ⟨tbi 882 (show lw_tbl[882]? = some (Jvm.Cond.code yX8_differences prog_1_method_26_code 5 (some .int)) from rfl) rfl, (tbi2 41 (by decide +kernel)), by decide +kernel, by decide +kernel⟩
set_option maxRecDepth 100000 in
theorem zML_e69 : zmOK 69 := ⟨tbi 901 (show lw_tbl[901]? = some (Jvm.Cond.code yX8_left prog_1_method_27_code 2 (some .int)) from rfl) rfl, (tbi2 41 (by decide +kernel)), by decide +kernel, by decide +kernel⟩
set_option maxRecDepth 100000 in
theorem zML_e70 : zmOK 70 := ⟨tbi 323 (show lw_tbl[323]? = some (Jvm.Cond.code yX8_within prog_1_method_28_code 3 (some .boolean)) from rfl) rfl, (tbi2 41 (by decide +kernel)), by decide +kernel, by decide +kernel⟩
set_option maxRecDepth 100000 in
theorem zML_e71 : zmOK 71 := ⟨tbi 359 (show lw_tbl[359]? = some (Jvm.Cond.code yX8_checkOpen prog_1_method_29_code 1 (none)) from rfl) rfl, (tbi2 41 (by decide +kernel)), by decide +kernel, by decide +kernel⟩
set_option maxRecDepth 100000 in
theorem zML_e72 : zmOK 72 := ⟨tbi 486 (show lw_tbl[486]? = some (Jvm.Cond.code yX8_checkHeld prog_1_method_30_code 1 (none)) from rfl) rfl, (tbi2 41 (by decide +kernel)), by decide +kernel, by decide +kernel⟩
set_option maxRecDepth 100000 in
theorem zML_e73 : zmOK 73 := ⟨tbi 651 (show lw_tbl[651]? = some (Jvm.Cond.code yX8_checkOwner prog_1_method_31_code 1 (none)) from rfl) rfl, (tbi2 41 (by decide +kernel)), by decide +kernel, by decide +kernel⟩
set_option maxRecDepth 100000 in
theorem zML_e74 : zmOK 74 := ⟨tbi 849 (show lw_tbl[849]? = some (Jvm.Cond.code yX8_checkFromZero prog_1_method_32_code 1 (none)) from rfl) rfl, (tbi2 41 (by decide +kernel)), by decide +kernel, by decide +kernel⟩
set_option maxRecDepth 100000 in
theorem zML_e75 : zmOK 75 := ⟨tbi 320 (show lw_tbl[320]? = some (Jvm.Cond.code yX8_layerAt prog_1_method_33_code 3 (some (.object "PressBox$Layer"))) from rfl) rfl, (tbi2 41 (by decide +kernel)), by decide +kernel, by decide +kernel⟩
set_option maxRecDepth 100000 in
theorem zML_e76 : zmOK 76 := ⟨tbi 482 (show lw_tbl[482]? = some (Jvm.Cond.code yX8_imageAt prog_1_method_34_code 3 (some (.object "PressBox$Image"))) from rfl) rfl, (tbi2 41 (by decide +kernel)), by decide +kernel, by decide +kernel⟩
set_option maxRecDepth 100000 in
theorem zML_e77 : zmOK 77 := ⟨tbi 594 (show lw_tbl[594]? = some (Jvm.Cond.code yX8_documentAt prog_1_method_35_code 3 (some (.object "PressBox$Document"))) from rfl) rfl, (tbi2 41 (by decide +kernel)), by decide +kernel, by decide +kernel⟩
set_option maxRecDepth 100000 in
theorem zML_e78 : zmOK 78 := ⟨tbi 823 (show lw_tbl[823]? = some (Jvm.Cond.code yX8_jobAt prog_1_method_36_code 3 (some (.object "PressBox$Job"))) from rfl) rfl, (tbi2 41 (by decide +kernel)), by decide +kernel, by decide +kernel⟩
set_option maxRecDepth 100000 in
theorem zML_e79 : zmOK 79 := ⟨tbi 423 (show lw_tbl[423]? = some (Jvm.Cond.code yX8_codeAt prog_1_method_37_code 3 (some .int)) from rfl) rfl, (tbi2 41 (by decide +kernel)), by decide +kernel, by decide +kernel⟩
def zML_p1 : zML_T := [40, 41, 42, 43, 44, 45, 46, 47, 48, 49, 50, 51, 52, 53, 54, 55, 56, 57, 58, 59, 60, 61, 62, 63, 64, 65, 66, 67, 68, 69, 70, 71, 72, 73, 74, 75, 76, 77, 78, 79]
theorem zML_q1 : ∀ q ∈ zML_p1, zmOK q := List.forall_mem_cons.mpr ⟨zML_e40, List.forall_mem_cons.mpr ⟨zML_e41, List.forall_mem_cons.mpr ⟨zML_e42, List.forall_mem_cons.mpr ⟨zML_e43, List.forall_mem_cons.mpr ⟨zML_e44, List.forall_mem_cons.mpr ⟨zML_e45, List.forall_mem_cons.mpr ⟨zML_e46, List.forall_mem_cons.mpr ⟨zML_e47, List.forall_mem_cons.mpr ⟨zML_e48, List.forall_mem_cons.mpr ⟨zML_e49, List.forall_mem_cons.mpr ⟨zML_e50, List.forall_mem_cons.mpr ⟨zML_e51, List.forall_mem_cons.mpr ⟨zML_e52, List.forall_mem_cons.mpr ⟨zML_e53, List.forall_mem_cons.mpr ⟨zML_e54, List.forall_mem_cons.mpr ⟨zML_e55, List.forall_mem_cons.mpr ⟨zML_e56, List.forall_mem_cons.mpr ⟨zML_e57, List.forall_mem_cons.mpr ⟨zML_e58, List.forall_mem_cons.mpr ⟨zML_e59, List.forall_mem_cons.mpr ⟨zML_e60, List.forall_mem_cons.mpr ⟨zML_e61, List.forall_mem_cons.mpr ⟨zML_e62, List.forall_mem_cons.mpr ⟨zML_e63, List.forall_mem_cons.mpr ⟨zML_e64, List.forall_mem_cons.mpr ⟨zML_e65, List.forall_mem_cons.mpr ⟨zML_e66, List.forall_mem_cons.mpr ⟨zML_e67, List.forall_mem_cons.mpr ⟨zML_e68, List.forall_mem_cons.mpr ⟨zML_e69, List.forall_mem_cons.mpr ⟨zML_e70, List.forall_mem_cons.mpr ⟨zML_e71, List.forall_mem_cons.mpr ⟨zML_e72, List.forall_mem_cons.mpr ⟨zML_e73, List.forall_mem_cons.mpr ⟨zML_e74, List.forall_mem_cons.mpr ⟨zML_e75, List.forall_mem_cons.mpr ⟨zML_e76, List.forall_mem_cons.mpr ⟨zML_e77, List.forall_mem_cons.mpr ⟨zML_e78, List.forall_mem_cons.mpr ⟨zML_e79, fun _ h => absurd h List.not_mem_nil⟩⟩⟩⟩⟩⟩⟩⟩⟩⟩⟩⟩⟩⟩⟩⟩⟩⟩⟩⟩⟩⟩⟩⟩⟩⟩⟩⟩⟩⟩⟩⟩⟩⟩⟩⟩⟩⟩⟩⟩
set_option maxRecDepth 100000 in
theorem zML_e80 : zmOK 80 := ⟨tbi 420 (show lw_tbl[420]? = some (Jvm.Cond.code yX8_codesIn prog_1_method_38_code 3 (some .int)) from rfl) rfl, (tbi2 41 (by decide +kernel)), by decide +kernel, by decide +kernel⟩
set_option maxRecDepth 100000 in
theorem zML_e81 : zmOK 81 := ⟨tbi 417 (show lw_tbl[417]? = some (Jvm.Cond.code yX8_allCodes prog_1_method_39_code 6 (some .boolean)) from rfl) rfl, (tbi2 41 (by decide +kernel)), by decide +kernel, by decide +kernel⟩
set_option maxRecDepth 100000 in
theorem zML_e82 : zmOK 82 := ⟨tbi 414 (show lw_tbl[414]? = some (Jvm.Cond.code yX8_rowOf prog_1_method_40_code 5 (some (.array .int))) from rfl) rfl, (tbi2 41 (by decide +kernel)), by decide +kernel, by decide +kernel⟩
set_option maxRecDepth 100000 in
theorem zML_e83 : zmOK 83 := ⟨tbi 428 (show lw_tbl[428]? = some (Jvm.Cond.code yX8_checkSealed prog_1_method_41_code 3 (none)) from rfl) rfl, (tbi2 41 (by decide +kernel)), by decide +kernel, by decide +kernel⟩
set_option maxRecDepth 100000 in
theorem zML_e84 : zmOK 84 := ⟨tbi 433 (show lw_tbl[433]? = some (Jvm.Cond.code yX8_heldAlike prog_1_method_42_code 4 (some (.object "PressBox$Image"))) from rfl) rfl, (tbi2 41 (by decide +kernel)), by decide +kernel, by decide +kernel⟩
set_option maxRecDepth 100000 in
theorem zML_e85 : zmOK 85 := ⟨tbi 437 (show lw_tbl[437]? = some (Jvm.Cond.code yX8_rowsAlike prog_1_method_43_code 4 (some .boolean)) from rfl) rfl, (tbi2 41 (by decide +kernel)), by decide +kernel, by decide +kernel⟩
set_option maxRecDepth 100000 in
theorem zML_e86 : zmOK 86 := ⟨tbi 443 (show lw_tbl[443]? = some (Jvm.Cond.code yX8_stack prog_1_method_44_code 4 (some (.object "PressBox$Files"))) from rfl) rfl, (tbi2 41 (by decide +kernel)), by decide +kernel, by decide +kernel⟩
set_option maxRecDepth 100000 in
theorem zML_e87 : zmOK 87 := ⟨tbi 495 (show lw_tbl[495]? = some (Jvm.Cond.code yX8_holders prog_1_method_45_code 5 (some .int)) from rfl) rfl, (tbi2 41 (by decide +kernel)), by decide +kernel, by decide +kernel⟩
set_option maxRecDepth 100000 in
theorem zML_e88 : zmOK 88 := ⟨tbi 491 (show lw_tbl[491]? = some (Jvm.Cond.code yX8_letGo prog_1_method_46_code 5 (some .int)) from rfl) rfl, (tbi2 41 (by decide +kernel)), by decide +kernel, by decide +kernel⟩
set_option maxRecDepth 100000 in
theorem zML_e89 : zmOK 89 := ⟨tbi 667 (show lw_tbl[667]? = some (Jvm.Cond.code yX8_keptBuild prog_1_method_47_code 5 (some (.object "PressBox$Build"))) from rfl) rfl, (tbi2 41 (by decide +kernel)), by decide +kernel, by decide +kernel⟩
set_option maxRecDepth 100000 in
theorem zML_e90 : zmOK 90 := ⟨tbi 676 (show lw_tbl[676]? = some (Jvm.Cond.code yX8_workedJob prog_1_method_48_code 6 (some (.object "PressBox$Job"))) from rfl) rfl, (tbi2 41 (by decide +kernel)), by decide +kernel, by decide +kernel⟩
set_option maxRecDepth 100000 in
theorem zML_e91 : zmOK 91 := ⟨tbi 906 (show lw_tbl[906]? = some (Jvm.Cond.code yX9_init prog_11_method_1_code 1 (none)) from rfl) rfl, (tbi2 44 (by decide +kernel)), by decide +kernel, by decide +kernel⟩
set_option maxRecDepth 100000 in
theorem zML_e92 : zmOK 92 := ⟨tbi 1081 (show lw_tbl[1081]? = some (Jvm.Cond.code yX9_thrown prog_11_method_2_code 1 (some .int)) from rfl) rfl, (tbi2 44 (by decide +kernel)), by decide +kernel, by decide +kernel⟩
set_option maxRecDepth 100000 in
theorem zML_e93 : zmOK 93 := ⟨tbi 1089 (show lw_tbl[1089]? = some (Jvm.Cond.code yX9_fails prog_11_method_3_code 2 (some .boolean)) from rfl) rfl, (tbi2 44 (by decide +kernel)), by decide +kernel, by decide +kernel⟩
set_option maxRecDepth 100000 in
theorem zML_e94 : zmOK 94 := ⟨tbi 1096 (show lw_tbl[1096]? = some (Jvm.Cond.code yX9_isIn prog_11_method_4_code 3 (some .boolean)) from rfl) rfl, (tbi2 44 (by decide +kernel)), by decide +kernel, by decide +kernel⟩
set_option maxRecDepth 100000 in
theorem zML_e95 : zmOK 95 := ⟨tbi 1101 (show lw_tbl[1101]? = some (Jvm.Cond.code yX9_isLayer prog_11_method_5_code 2 (some .boolean)) from rfl) rfl, (tbi2 44 (by decide +kernel)), by decide +kernel, by decide +kernel⟩
set_option maxRecDepth 100000 in
theorem zML_e96 : zmOK 96 := ⟨tbi 1085 (show lw_tbl[1085]? = some (Jvm.Cond.code yX9_layer prog_11_method_6_code 1 (some .int)) from rfl) rfl, (tbi2 44 (by decide +kernel)), by decide +kernel, by decide +kernel⟩
set_option maxRecDepth 100000 in
theorem zML_e97 : zmOK 97 := ⟨tbi 1105 (show lw_tbl[1105]? = some (Jvm.Cond.code yX9_puts prog_11_method_7_code 7 (none)) from rfl) rfl, (tbi2 44 (by decide +kernel)), by decide +kernel, by decide +kernel⟩
set_option maxRecDepth 100000 in
theorem zML_e98 : zmOK 98 := ⟨tbi 1093 (show lw_tbl[1093]? = some (Jvm.Cond.code yX9_font prog_11_method_8_code 6 (none)) from rfl) rfl, (tbi2 44 (by decide +kernel)), by decide +kernel, by decide +kernel⟩
set_option maxRecDepth 100000 in
theorem zML_e99 : zmOK 99 := ⟨tbi 1109 (show lw_tbl[1109]? = some (Jvm.Cond.code yX9_pack prog_11_method_9_code 6 (none)) from rfl) rfl, (tbi2 44 (by decide +kernel)), by decide +kernel, by decide +kernel⟩
set_option maxRecDepth 100000 in
theorem zML_e100 : zmOK 100 := ⟨tbi 1113 (show lw_tbl[1113]? = some (Jvm.Cond.code yX9_hide prog_11_method_10_code 3 (none)) from rfl) rfl, (tbi2 44 (by decide +kernel)), by decide +kernel, by decide +kernel⟩
set_option maxRecDepth 100000 in
theorem zML_e101 : zmOK 101 := ⟨tbi 1121 (show lw_tbl[1121]? = some (Jvm.Cond.code yX9_areAlike prog_11_method_11_code 7 (some .boolean)) from rfl) rfl, (tbi2 44 (by decide +kernel)), by decide +kernel, by decide +kernel⟩
set_option maxRecDepth 100000 in
theorem zML_e102 : zmOK 102 := ⟨tbi 1117 (show lw_tbl[1117]? = some (Jvm.Cond.code yX9_seal prog_11_method_12_code 4 (some .int)) from rfl) rfl, (tbi2 44 (by decide +kernel)), by decide +kernel, by decide +kernel⟩
set_option maxRecDepth 100000 in
theorem zML_e103 : zmOK 103 := ⟨tbi 1131 (show lw_tbl[1131]? = some (Jvm.Cond.code yX9_at prog_11_method_13_code 3 (some .int)) from rfl) rfl, (tbi2 44 (by decide +kernel)), by decide +kernel, by decide +kernel⟩
set_option maxRecDepth 100000 in
theorem zML_e104 : zmOK 104 := ⟨tbi 1128 (show lw_tbl[1128]? = some (Jvm.Cond.code yX9_length prog_11_method_14_code 6 (some .int)) from rfl) rfl, (tbi2 44 (by decide +kernel)), by decide +kernel, by decide +kernel⟩
set_option maxRecDepth 100000 in
theorem zML_e105 : zmOK 105 := ⟨tbi 1136 (show lw_tbl[1136]? = some (Jvm.Cond.code yX9_alike prog_11_method_15_code 8 (some .int)) from rfl) rfl, (tbi2 44 (by decide +kernel)), by decide +kernel, by decide +kernel⟩
set_option maxRecDepth 100000 in
theorem zML_e106 : zmOK 106 := ⟨tbi 1125 (show lw_tbl[1125]? = some (Jvm.Cond.code yX9_image prog_11_method_16_code 9 (some .int)) from rfl) rfl, (tbi2 44 (by decide +kernel)), by decide +kernel, by decide +kernel⟩
set_option maxRecDepth 100000 in
theorem zML_e107 : zmOK 107 := ⟨tbi 1140 (show lw_tbl[1140]? = some (Jvm.Cond.code yX9_unites prog_11_method_17_code 6 (none)) from rfl) rfl, (tbi2 44 (by decide +kernel)), by decide +kernel, by decide +kernel⟩
set_option maxRecDepth 100000 in
theorem zML_e108 : zmOK 108 := ⟨tbi 1148 (show lw_tbl[1148]? = some (Jvm.Cond.code yX9_isImage prog_11_method_18_code 2 (some .boolean)) from rfl) rfl, (tbi2 44 (by decide +kernel)), by decide +kernel, by decide +kernel⟩
set_option maxRecDepth 100000 in
theorem zML_e109 : zmOK 109 := ⟨tbi 1152 (show lw_tbl[1152]? = some (Jvm.Cond.code yX9_images prog_11_method_19_code 6 (some .int)) from rfl) rfl, (tbi2 44 (by decide +kernel)), by decide +kernel, by decide +kernel⟩
set_option maxRecDepth 100000 in
theorem zML_e110 : zmOK 110 := ⟨tbi 1144 (show lw_tbl[1144]? = some (Jvm.Cond.code yX9_drop prog_11_method_20_code 5 (some .int)) from rfl) rfl, (tbi2 44 (by decide +kernel)), by decide +kernel, by decide +kernel⟩
set_option maxRecDepth 100000 in
theorem zML_e111 : zmOK 111 := ⟨tbi 1156 (show lw_tbl[1156]? = some (Jvm.Cond.code yX9_ofLayer prog_11_method_21_code 3 (some .int)) from rfl) rfl, (tbi2 44 (by decide +kernel)), by decide +kernel, by decide +kernel⟩
set_option maxRecDepth 100000 in
theorem zML_e112 : zmOK 112 := ⟨tbi 1160 (show lw_tbl[1160]? = some (Jvm.Cond.code yX9_file prog_11_method_22_code 6 (some .int)) from rfl) rfl, (tbi2 44 (by decide +kernel)), by decide +kernel, by decide +kernel⟩
set_option maxRecDepth 100000 in
theorem zML_e113 : zmOK 113 := ⟨tbi 1172 (show lw_tbl[1172]? = some (Jvm.Cond.code yX9_isDocument prog_11_method_23_code 2 (some .boolean)) from rfl) rfl, (tbi2 44 (by decide +kernel)), by decide +kernel, by decide +kernel⟩
set_option maxRecDepth 100000 in
theorem zML_e114 : zmOK 114 := ⟨tbi 1164 (show lw_tbl[1164]? = some (Jvm.Cond.code yX9_document prog_11_method_24_code 6 (some .int)) from rfl) rfl, (tbi2 44 (by decide +kernel)), by decide +kernel, by decide +kernel⟩
set_option maxRecDepth 100000 in
theorem zML_e115 : zmOK 115 := ⟨tbi 1168 (show lw_tbl[1168]? = some (Jvm.Cond.code yX9_style prog_11_method_25_code 6 (some .int)) from rfl) rfl, (tbi2 44 (by decide +kernel)), by decide +kernel, by decide +kernel⟩
set_option maxRecDepth 100000 in
theorem zML_e116 : zmOK 116 := ⟨tbi 1176 (show lw_tbl[1176]? = some (Jvm.Cond.code yX9_include prog_11_method_26_code 5 (some .boolean)) from rfl) rfl, (tbi2 44 (by decide +kernel)), by decide +kernel, by decide +kernel⟩
set_option maxRecDepth 100000 in
theorem zML_e117 : zmOK 117 := ⟨tbi 1180 (show lw_tbl[1180]? = some (Jvm.Cond.code yX9_paragraph prog_11_method_27_code 3 (some .int)) from rfl) rfl, (tbi2 44 (by decide +kernel)), by decide +kernel, by decide +kernel⟩
set_option maxRecDepth 100000 in
theorem zML_e118 : zmOK 118 := ⟨tbi 1188 (show lw_tbl[1188]? = some (Jvm.Cond.code yX9_adds prog_11_method_28_code 5 (some .int)) from rfl) rfl, (tbi2 44 (by decide +kernel)), by decide +kernel, by decide +kernel⟩
set_option maxRecDepth 100000 in
theorem zML_e119 : zmOK 119 := ⟨tbi 1184 (show lw_tbl[1184]? = some (Jvm.Cond.code yX9_word prog_11_method_29_code 5 (some .int)) from rfl) rfl, (tbi2 44 (by decide +kernel)), by decide +kernel, by decide +kernel⟩
def zML_p2 : zML_T := [80, 81, 82, 83, 84, 85, 86, 87, 88, 89, 90, 91, 92, 93, 94, 95, 96, 97, 98, 99, 100, 101, 102, 103, 104, 105, 106, 107, 108, 109, 110, 111, 112, 113, 114, 115, 116, 117, 118, 119]
theorem zML_q2 : ∀ q ∈ zML_p2, zmOK q := List.forall_mem_cons.mpr ⟨zML_e80, List.forall_mem_cons.mpr ⟨zML_e81, List.forall_mem_cons.mpr ⟨zML_e82, List.forall_mem_cons.mpr ⟨zML_e83, List.forall_mem_cons.mpr ⟨zML_e84, List.forall_mem_cons.mpr ⟨zML_e85, List.forall_mem_cons.mpr ⟨zML_e86, List.forall_mem_cons.mpr ⟨zML_e87, List.forall_mem_cons.mpr ⟨zML_e88, List.forall_mem_cons.mpr ⟨zML_e89, List.forall_mem_cons.mpr ⟨zML_e90, List.forall_mem_cons.mpr ⟨zML_e91, List.forall_mem_cons.mpr ⟨zML_e92, List.forall_mem_cons.mpr ⟨zML_e93, List.forall_mem_cons.mpr ⟨zML_e94, List.forall_mem_cons.mpr ⟨zML_e95, List.forall_mem_cons.mpr ⟨zML_e96, List.forall_mem_cons.mpr ⟨zML_e97, List.forall_mem_cons.mpr ⟨zML_e98, List.forall_mem_cons.mpr ⟨zML_e99, List.forall_mem_cons.mpr ⟨zML_e100, List.forall_mem_cons.mpr ⟨zML_e101, List.forall_mem_cons.mpr ⟨zML_e102, List.forall_mem_cons.mpr ⟨zML_e103, List.forall_mem_cons.mpr ⟨zML_e104, List.forall_mem_cons.mpr ⟨zML_e105, List.forall_mem_cons.mpr ⟨zML_e106, List.forall_mem_cons.mpr ⟨zML_e107, List.forall_mem_cons.mpr ⟨zML_e108, List.forall_mem_cons.mpr ⟨zML_e109, List.forall_mem_cons.mpr ⟨zML_e110, List.forall_mem_cons.mpr ⟨zML_e111, List.forall_mem_cons.mpr ⟨zML_e112, List.forall_mem_cons.mpr ⟨zML_e113, List.forall_mem_cons.mpr ⟨zML_e114, List.forall_mem_cons.mpr ⟨zML_e115, List.forall_mem_cons.mpr ⟨zML_e116, List.forall_mem_cons.mpr ⟨zML_e117, List.forall_mem_cons.mpr ⟨zML_e118, List.forall_mem_cons.mpr ⟨zML_e119, fun _ h => absurd h List.not_mem_nil⟩⟩⟩⟩⟩⟩⟩⟩⟩⟩⟩⟩⟩⟩⟩⟩⟩⟩⟩⟩⟩⟩⟩⟩⟩⟩⟩⟩⟩⟩⟩⟩⟩⟩⟩⟩⟩⟩⟩⟩
set_option maxRecDepth 100000 in
theorem zML_e120 : zmOK 120 := ⟨tbi 1192 (show lw_tbl[1192]? = some (Jvm.Cond.code yX9_reference prog_11_method_30_code 4 (some .int)) from rfl) rfl, (tbi2 44 (by decide +kernel)), by decide +kernel, by decide +kernel⟩
set_option maxRecDepth 100000 in
theorem zML_e121 : zmOK 121 := ⟨tbi 1196 (show lw_tbl[1196]? = some (Jvm.Cond.code yX9_version prog_11_method_31_code 2 (some .int)) from rfl) rfl, (tbi2 44 (by decide +kernel)), by decide +kernel, by decide +kernel⟩
set_option maxRecDepth 100000 in
theorem zML_e122 : zmOK 122 := ⟨tbi 1233 (show lw_tbl[1233]? = some (Jvm.Cond.code yX9_widthOf prog_11_method_32_code 6 (some .int)) from rfl) rfl, (tbi2 44 (by decide +kernel)), by decide +kernel, by decide +kernel⟩
set_option maxRecDepth 100000 in
theorem zML_e123 : zmOK 123 := ⟨tbi 1229 (show lw_tbl[1229]? = some (Jvm.Cond.code yX9_width prog_11_method_33_code 8 (some .int)) from rfl) rfl, (tbi2 44 (by decide +kernel)), by decide +kernel, by decide +kernel⟩
set_option maxRecDepth 100000 in
theorem zML_e124 : zmOK 124 := ⟨tbi 1225 (show lw_tbl[1225]? = some (Jvm.Cond.code yX9_endOf prog_11_method_34_code 3 (some .int)) from rfl) rfl, (tbi2 44 (by decide +kernel)), by decide +kernel, by decide +kernel⟩
set_option maxRecDepth 100000 in
theorem zML_e125 : zmOK 125 := ⟨tbi 1221 (show lw_tbl[1221]? = some (Jvm.Cond.code yX9_breaks prog_11_method_35_code 10 (none)) from rfl) rfl, (tbi2 44 (by decide +kernel)), by decide +kernel, by decide +kernel⟩
set_option maxRecDepth 100000 in
theorem zML_e126 : zmOK 126 := ⟨tbi 1245 (show lw_tbl[1245]? = some (Jvm.Cond.code yX9_isFirst prog_11_method_36_code 2 (some .boolean)) from rfl) rfl, (tbi2 44 (by decide +kernel)), by decide +kernel, by decide +kernel⟩
set_option maxRecDepth 100000 in
theorem zML_e127 : zmOK 127 := ⟨tbi 1249 (show lw_tbl[1249]? = some (Jvm.Cond.code yX9_isLast prog_11_method_37_code 2 (some .boolean)) from rfl) rfl, (tbi2 44 (by decide +kernel)), by decide +kernel, by decide +kernel⟩
set_option maxRecDepth 100000 in
theorem zML_e128 : zmOK 128 := ⟨tbi 1241 (show lw_tbl[1241]? = some (Jvm.Cond.code yX9_border prog_11_method_38_code 3 (some .int)) from rfl) rfl, (tbi2 44 (by decide +kernel)), by decide +kernel, by decide +kernel⟩
set_option maxRecDepth 100000 in
theorem zML_e129 : zmOK 129 := ⟨tbi 1237 (show lw_tbl[1237]? = some (Jvm.Cond.code yX9_parts prog_11_method_39_code 8 (none)) from rfl) rfl, (tbi2 44 (by decide +kernel)), by decide +kernel, by decide +kernel⟩
set_option maxRecDepth 100000 in
theorem zML_e130 : zmOK 130 := ⟨tbi 1253 (show lw_tbl[1253]? = some (Jvm.Cond.code yX9_found prog_11_method_40_code 3 (some .int)) from rfl) rfl, (tbi2 44 (by decide +kernel)), by decide +kernel, by decide +kernel⟩
set_option maxRecDepth 100000 in
theorem zML_e131 : zmOK 131 := ⟨tbi 1217 (show lw_tbl[1217]? = some (Jvm.Cond.code yX9_sets prog_11_method_41_code 7 (none)) from rfl) rfl, (tbi2 44 (by decide +kernel)), by decide +kernel, by decide +kernel⟩
set_option maxRecDepth 100000 in
theorem zML_e132 : zmOK 132 := ⟨tbi 1200 (show lw_tbl[1200]? = some (Jvm.Cond.code yX9_quota prog_11_method_42_code 4 (some .int)) from rfl) rfl, (tbi2 44 (by decide +kernel)), by decide +kernel, by decide +kernel⟩
set_option maxRecDepth 100000 in
theorem zML_e133 : zmOK 133 := ⟨tbi 1213 (show lw_tbl[1213]? = some (Jvm.Cond.code yX9_isAsThen prog_11_method_43_code 8 (some .boolean)) from rfl) rfl, (tbi2 44 (by decide +kernel)), by decide +kernel, by decide +kernel⟩
set_option maxRecDepth 100000 in
theorem zML_e134 : zmOK 134 := ⟨tbi 1209 (show lw_tbl[1209]? = some (Jvm.Cond.code yX9_kept prog_11_method_44_code 6 (some .int)) from rfl) rfl, (tbi2 44 (by decide +kernel)), by decide +kernel, by decide +kernel⟩
set_option maxRecDepth 100000 in
theorem zML_e135 : zmOK 135 := ⟨tbi 1257 (show lw_tbl[1257]? = some (Jvm.Cond.code yX9_builds prog_11_method_45_code 5 (some .int)) from rfl) rfl, (tbi2 44 (by decide +kernel)), by decide +kernel, by decide +kernel⟩
set_option maxRecDepth 100000 in
theorem zML_e136 : zmOK 136 := ⟨tbi 1205 (show lw_tbl[1205]? = some (Jvm.Cond.code yX9_run prog_11_method_46_code 9 (some .int)) from rfl) rfl, (tbi2 44 (by decide +kernel)), by decide +kernel, by decide +kernel⟩
set_option maxRecDepth 100000 in
theorem zML_e137 : zmOK 137 := ⟨tbi 1265 (show lw_tbl[1265]? = some (Jvm.Cond.code yX9_isJob prog_11_method_47_code 2 (some .boolean)) from rfl) rfl, (tbi2 44 (by decide +kernel)), by decide +kernel, by decide +kernel⟩
set_option maxRecDepth 100000 in
theorem zML_e138 : zmOK 138 := ⟨tbi 1261 (show lw_tbl[1261]? = some (Jvm.Cond.code yX9_write prog_11_method_48_code 6 (none)) from rfl) rfl, (tbi2 44 (by decide +kernel)), by decide +kernel, by decide +kernel⟩
set_option maxRecDepth 100000 in
theorem zML_e139 : zmOK 139 := ⟨tbi 1269 (show lw_tbl[1269]? = some (Jvm.Cond.code yX9_job prog_11_method_49_code 4 (some .int)) from rfl) rfl, (tbi2 44 (by decide +kernel)), by decide +kernel, by decide +kernel⟩
set_option maxRecDepth 100000 in
theorem zML_e140 : zmOK 140 := ⟨tbi 1273 (show lw_tbl[1273]? = some (Jvm.Cond.code yX9_line prog_11_method_50_code 5 (some .int)) from rfl) rfl, (tbi2 44 (by decide +kernel)), by decide +kernel, by decide +kernel⟩
set_option maxRecDepth 100000 in
theorem zML_e141 : zmOK 141 := ⟨tbi 1277 (show lw_tbl[1277]? = some (Jvm.Cond.code yX9_shows prog_11_method_51_code 4 (some .int)) from rfl) rfl, (tbi2 44 (by decide +kernel)), by decide +kernel, by decide +kernel⟩
set_option maxRecDepth 100000 in
theorem zML_e142 : zmOK 142 := ⟨tbi 1281 (show lw_tbl[1281]? = some (Jvm.Cond.code yX9_anew prog_11_method_52_code 3 (some .int)) from rfl) rfl, (tbi2 44 (by decide +kernel)), by decide +kernel, by decide +kernel⟩
set_option maxRecDepth 100000 in
theorem zML_e143 : zmOK 143 := ⟨tbi 1285 (show lw_tbl[1285]? = some (Jvm.Cond.code yX9_penalties prog_11_method_53_code 2 (some .int)) from rfl) rfl, (tbi2 44 (by decide +kernel)), by decide +kernel, by decide +kernel⟩
set_option maxRecDepth 100000 in
theorem zML_e144 : zmOK 144 := ⟨tbi 1297 (show lw_tbl[1297]? = some (Jvm.Cond.code yX9_begin prog_11_method_54_code 4 (some .int)) from rfl) rfl, (tbi2 44 (by decide +kernel)), by decide +kernel, by decide +kernel⟩
set_option maxRecDepth 100000 in
theorem zML_e145 : zmOK 145 := ⟨tbi 1293 (show lw_tbl[1293]? = some (Jvm.Cond.code yX9_isSamePage prog_11_method_55_code 10 (some .boolean)) from rfl) rfl, (tbi2 44 (by decide +kernel)), by decide +kernel, by decide +kernel⟩
set_option maxRecDepth 100000 in
theorem zML_e146 : zmOK 146 := ⟨tbi 1289 (show lw_tbl[1289]? = some (Jvm.Cond.code yX9_differences prog_11_method_56_code 7 (some .int)) from rfl) rfl, (tbi2 44 (by decide +kernel)), by decide +kernel, by decide +kernel⟩
set_option maxRecDepth 100000 in
theorem zML_e147 : zmOK 147 := ⟨tbi 1301 (show lw_tbl[1301]? = some (Jvm.Cond.code yX9_left prog_11_method_57_code 2 (some .int)) from rfl) rfl, (tbi2 44 (by decide +kernel)), by decide +kernel, by decide +kernel⟩
set_option maxRecDepth 100000 in
theorem zML_e148 : zmOK 148 := ⟨tbi 200 (show lw_tbl[200]? = some (Jvm.Cond.codeWith yL_layer method_3_code 3 (some .int) [(0, 8, 11, 13)]) from rfl) rfl, (tbi2 40 (by decide +kernel)), by decide +kernel, by decide +kernel⟩
set_option maxRecDepth 100000 in
theorem zML_e149 : zmOK 149 := ⟨tbi 310 (show lw_tbl[310]? = some (Jvm.Cond.codeWith yL_font method_4_code 6 (some .int) [(0, 9, 12, 19), (0, 9, 16, 21), (0, 9, 20, 13)]) from rfl) rfl, (tbi2 40 (by decide +kernel)), by decide +kernel, by decide +kernel⟩
set_option maxRecDepth 100000 in
theorem zML_e150 : zmOK 150 := ⟨tbi 371 (show lw_tbl[371]? = some (Jvm.Cond.codeWith yL_pack method_5_code 6 (some .int) [(0, 9, 12, 19), (0, 9, 16, 21), (0, 9, 20, 13)]) from rfl) rfl, (tbi2 40 (by decide +kernel)), by decide +kernel, by decide +kernel⟩
set_option maxRecDepth 100000 in
theorem zML_e151 : zmOK 151 := ⟨tbi 379 (show lw_tbl[379]? = some (Jvm.Cond.codeWith yL_hide method_6_code 4 (some .int) [(0, 6, 9, 19), (0, 6, 12, 21), (0, 6, 15, 13)]) from rfl) rfl, (tbi2 40 (by decide +kernel)), by decide +kernel, by decide +kernel⟩
set_option maxRecDepth 100000 in
theorem zML_e152 : zmOK 152 := ⟨tbi 391 (show lw_tbl[391]? = some (Jvm.Cond.codeWith yL_seal method_7_code 4 (some .int) [(0, 9, 12, 19), (0, 9, 15, 13)]) from rfl) rfl, (tbi2 40 (by decide +kernel)), by decide +kernel, by decide +kernel⟩
set_option maxRecDepth 100000 in
theorem zML_e153 : zmOK 153 := ⟨tbi 406 (show lw_tbl[406]? = some (Jvm.Cond.codeWith yL_image method_8_code 5 (some .int) [(0, 9, 12, 21), (0, 9, 16, 13)]) from rfl) rfl, (tbi2 40 (by decide +kernel)), by decide +kernel, by decide +kernel⟩
set_option maxRecDepth 100000 in
theorem zML_e154 : zmOK 154 := ⟨tbi 474 (show lw_tbl[474]? = some (Jvm.Cond.codeWith yL_drop method_9_code 4 (some .int) [(0, 9, 12, 19), (0, 9, 15, 13)]) from rfl) rfl, (tbi2 40 (by decide +kernel)), by decide +kernel, by decide +kernel⟩
set_option maxRecDepth 100000 in
theorem zML_e155 : zmOK 155 := ⟨tbi 502 (show lw_tbl[502]? = some (Jvm.Cond.codeWith yL_ofLayer method_10_code 5 (some .int) [(0, 10, 13, 19), (0, 10, 17, 21)]) from rfl) rfl, (tbi2 40 (by decide +kernel)), by decide +kernel, by decide +kernel⟩
set_option maxRecDepth 100000 in
theorem zML_e156 : zmOK 156 := ⟨tbi 510 (show lw_tbl[510]? = some (Jvm.Cond.codeWith yL_file method_11_code 6 (some .int) [(0, 12, 15, 19), (0, 12, 19, 21), (0, 12, 23, 13)]) from rfl) rfl, (tbi2 40 (by decide +kernel)), by decide +kernel, by decide +kernel⟩
set_option maxRecDepth 100000 in
theorem zML_e157 : zmOK 157 := ⟨tbi 522 (show lw_tbl[522]? = some (Jvm.Cond.codeWith yL_document method_12_code 5 (some .int) [(0, 10, 13, 21), (0, 10, 17, 13)]) from rfl) rfl, (tbi2 40 (by decide +kernel)), by decide +kernel, by decide +kernel⟩
set_option maxRecDepth 100000 in
theorem zML_e158 : zmOK 158 := ⟨tbi 586 (show lw_tbl[586]? = some (Jvm.Cond.codeWith yL_style method_13_code 6 (some .int) [(0, 12, 15, 19), (0, 12, 19, 21)]) from rfl) rfl, (tbi2 40 (by decide +kernel)), by decide +kernel, by decide +kernel⟩
set_option maxRecDepth 100000 in
theorem zML_e159 : zmOK 159 := ⟨tbi 599 (show lw_tbl[599]? = some (Jvm.Cond.codeWith yL_include method_14_code 6 (some .int) [(0, 19, 22, 19), (0, 19, 26, 21)]) from rfl) rfl, (tbi2 40 (by decide +kernel)), by decide +kernel, by decide +kernel⟩
def zML_p3 : zML_T := [120, 121, 122, 123, 124, 125, 126, 127, 128, 129, 130, 131, 132, 133, 134, 135, 136, 137, 138, 139, 140, 141, 142, 143, 144, 145, 146, 147, 148, 149, 150, 151, 152, 153, 154, 155, 156, 157, 158, 159]
theorem zML_q3 : ∀ q ∈ zML_p3, zmOK q := List.forall_mem_cons.mpr ⟨zML_e120, List.forall_mem_cons.mpr ⟨zML_e121, List.forall_mem_cons.mpr ⟨zML_e122, List.forall_mem_cons.mpr ⟨zML_e123, List.forall_mem_cons.mpr ⟨zML_e124, List.forall_mem_cons.mpr ⟨zML_e125, List.forall_mem_cons.mpr ⟨zML_e126, List.forall_mem_cons.mpr ⟨zML_e127, List.forall_mem_cons.mpr ⟨zML_e128, List.forall_mem_cons.mpr ⟨zML_e129, List.forall_mem_cons.mpr ⟨zML_e130, List.forall_mem_cons.mpr ⟨zML_e131, List.forall_mem_cons.mpr ⟨zML_e132, List.forall_mem_cons.mpr ⟨zML_e133, List.forall_mem_cons.mpr ⟨zML_e134, List.forall_mem_cons.mpr ⟨zML_e135, List.forall_mem_cons.mpr ⟨zML_e136, List.forall_mem_cons.mpr ⟨zML_e137, List.forall_mem_cons.mpr ⟨zML_e138, List.forall_mem_cons.mpr ⟨zML_e139, List.forall_mem_cons.mpr ⟨zML_e140, List.forall_mem_cons.mpr ⟨zML_e141, List.forall_mem_cons.mpr ⟨zML_e142, List.forall_mem_cons.mpr ⟨zML_e143, List.forall_mem_cons.mpr ⟨zML_e144, List.forall_mem_cons.mpr ⟨zML_e145, List.forall_mem_cons.mpr ⟨zML_e146, List.forall_mem_cons.mpr ⟨zML_e147, List.forall_mem_cons.mpr ⟨zML_e148, List.forall_mem_cons.mpr ⟨zML_e149, List.forall_mem_cons.mpr ⟨zML_e150, List.forall_mem_cons.mpr ⟨zML_e151, List.forall_mem_cons.mpr ⟨zML_e152, List.forall_mem_cons.mpr ⟨zML_e153, List.forall_mem_cons.mpr ⟨zML_e154, List.forall_mem_cons.mpr ⟨zML_e155, List.forall_mem_cons.mpr ⟨zML_e156, List.forall_mem_cons.mpr ⟨zML_e157, List.forall_mem_cons.mpr ⟨zML_e158, List.forall_mem_cons.mpr ⟨zML_e159, fun _ h => absurd h List.not_mem_nil⟩⟩⟩⟩⟩⟩⟩⟩⟩⟩⟩⟩⟩⟩⟩⟩⟩⟩⟩⟩⟩⟩⟩⟩⟩⟩⟩⟩⟩⟩⟩⟩⟩⟩⟩⟩⟩⟩⟩⟩
set_option maxRecDepth 100000 in
theorem zML_e160 : zmOK 160 := ⟨tbi 606 (show lw_tbl[606]? = some (Jvm.Cond.codeWith yL_paragraph method_15_code 5 (some .int) [(0, 10, 13, 19), (0, 10, 17, 21), (0, 10, 21, 13)]) from rfl) rfl, (tbi2 40 (by decide +kernel)), by decide +kernel, by decide +kernel⟩
set_option maxRecDepth 100000 in
theorem zML_e161 : zmOK 161 := ⟨tbi 615 (show lw_tbl[615]? = some (Jvm.Cond.codeWith yL_word method_16_code 6 (some .int) [(0, 11, 14, 19), (0, 11, 18, 21), (0, 11, 22, 13)]) from rfl) rfl, (tbi2 40 (by decide +kernel)), by decide +kernel, by decide +kernel⟩
set_option maxRecDepth 100000 in
theorem zML_e162 : zmOK 162 := ⟨tbi 628 (show lw_tbl[628]? = some (Jvm.Cond.codeWith yL_reference method_17_code 5 (some .int) [(0, 10, 13, 19), (0, 10, 17, 13)]) from rfl) rfl, (tbi2 40 (by decide +kernel)), by decide +kernel, by decide +kernel⟩
set_option maxRecDepth 100000 in
theorem zML_e163 : zmOK 163 := ⟨tbi 637 (show lw_tbl[637]? = some (Jvm.Cond.codeWith yL_version method_18_code 4 (some .int) [(0, 9, 12, 19)]) from rfl) rfl, (tbi2 40 (by decide +kernel)), by decide +kernel, by decide +kernel⟩
set_option maxRecDepth 100000 in
theorem zML_e164 : zmOK 164 := ⟨tbi 644 (show lw_tbl[644]? = some (Jvm.Cond.codeWith yL_quota method_19_code 5 (some .int) [(0, 10, 13, 21), (0, 10, 17, 13)]) from rfl) rfl, (tbi2 40 (by decide +kernel)), by decide +kernel, by decide +kernel⟩
set_option maxRecDepth 100000 in
theorem zML_e165 : zmOK 165 := ⟨tbi 658 (show lw_tbl[658]? = some (Jvm.Cond.codeWith yL_run method_20_code 6 (some .int) [(0, 12, 15, 21), (0, 12, 19, 19), (0, 12, 23, 13)]) from rfl) rfl, (tbi2 40 (by decide +kernel)), by decide +kernel, by decide +kernel⟩
set_option maxRecDepth 100000 in
theorem zML_e166 : zmOK 166 := ⟨tbi 815 (show lw_tbl[815]? = some (Jvm.Cond.codeWith yL_write method_21_code 5 (some .int) [(0, 7, 10, 19), (0, 7, 14, 21), (0, 7, 18, 13)]) from rfl) rfl, (tbi2 40 (by decide +kernel)), by decide +kernel, by decide +kernel⟩
set_option maxRecDepth 100000 in
theorem zML_e167 : zmOK 167 := ⟨tbi 831 (show lw_tbl[831]? = some (Jvm.Cond.codeWith yL_job method_22_code 5 (some .int) [(0, 10, 13, 19), (0, 10, 17, 21)]) from rfl) rfl, (tbi2 40 (by decide +kernel)), by decide +kernel, by decide +kernel⟩
set_option maxRecDepth 100000 in
theorem zML_e168 : zmOK 168 := ⟨tbi 842 (show lw_tbl[842]? = some (Jvm.Cond.codeWith yL_line method_23_code 6 (some .int) [(0, 12, 15, 19), (0, 12, 19, 21)]) from rfl) rfl, (tbi2 40 (by decide +kernel)), by decide +kernel, by decide +kernel⟩
set_option maxRecDepth 100000 in
theorem zML_e169 : zmOK 169 := ⟨tbi 857 (show lw_tbl[857]? = some (Jvm.Cond.codeWith yL_shows method_24_code 5 (some .int) [(0, 10, 13, 19)]) from rfl) rfl, (tbi2 40 (by decide +kernel)), by decide +kernel, by decide +kernel⟩
set_option maxRecDepth 100000 in
theorem zML_e170 : zmOK 170 := ⟨tbi 864 (show lw_tbl[864]? = some (Jvm.Cond.codeWith yL_anew method_25_code 5 (some .int) [(0, 10, 13, 19)]) from rfl) rfl, (tbi2 40 (by decide +kernel)), by decide +kernel, by decide +kernel⟩
set_option maxRecDepth 100000 in
theorem zML_e171 : zmOK 171 := ⟨tbi 871 (show lw_tbl[871]? = some (Jvm.Cond.codeWith yL_penalties method_26_code 4 (some .int) [(0, 9, 12, 19)]) from rfl) rfl, (tbi2 40 (by decide +kernel)), by decide +kernel, by decide +kernel⟩
set_option maxRecDepth 100000 in
theorem zML_e172 : zmOK 172 := ⟨tbi 878 (show lw_tbl[878]? = some (Jvm.Cond.codeWith yL_differences method_27_code 5 (some .int) [(0, 10, 13, 19)]) from rfl) rfl, (tbi2 40 (by decide +kernel)), by decide +kernel, by decide +kernel⟩
set_option maxRecDepth 100000 in
theorem zML_e173 : zmOK 173 := ⟨tbi 897 (show lw_tbl[897]? = some (Jvm.Cond.codeWith yL_left method_28_code 4 (some .int) [(0, 9, 12, 21)]) from rfl) rfl, (tbi2 40 (by decide +kernel)), by decide +kernel, by decide +kernel⟩
set_option maxRecDepth 100000 in
theorem zML_e174 : zmOK 175 := ⟨tbi 320 (show lw_tbl[320]? = some (Jvm.Cond.code yX8_layerAt prog_1_method_33_code 3 (some (.object "PressBox$Layer"))) from rfl) rfl, (tbi2 41 (by decide +kernel)), by decide +kernel, by decide +kernel⟩
def zML_p4 : zML_T := [160, 161, 162, 163, 164, 165, 166, 167, 168, 169, 170, 171, 172, 173, 175]
theorem zML_q4 : ∀ q ∈ zML_p4, zmOK q := List.forall_mem_cons.mpr ⟨zML_e160, List.forall_mem_cons.mpr ⟨zML_e161, List.forall_mem_cons.mpr ⟨zML_e162, List.forall_mem_cons.mpr ⟨zML_e163, List.forall_mem_cons.mpr ⟨zML_e164, List.forall_mem_cons.mpr ⟨zML_e165, List.forall_mem_cons.mpr ⟨zML_e166, List.forall_mem_cons.mpr ⟨zML_e167, List.forall_mem_cons.mpr ⟨zML_e168, List.forall_mem_cons.mpr ⟨zML_e169, List.forall_mem_cons.mpr ⟨zML_e170, List.forall_mem_cons.mpr ⟨zML_e171, List.forall_mem_cons.mpr ⟨zML_e172, List.forall_mem_cons.mpr ⟨zML_e173, List.forall_mem_cons.mpr ⟨zML_e174, fun _ h => absurd h List.not_mem_nil⟩⟩⟩⟩⟩⟩⟩⟩⟩⟩⟩⟩⟩⟩⟩
def zMLA : zML_T := zML_p0 ++ (zML_p1 ++ (zML_p2 ++ (zML_p3 ++ (zML_p4))))
theorem zML_all : ∀ q ∈ zMLA, zmOK q := List.forall_mem_append.mpr ⟨zML_q0, List.forall_mem_append.mpr ⟨zML_q1, List.forall_mem_append.mpr ⟨zML_q2, List.forall_mem_append.mpr ⟨zML_q3, zML_q4⟩⟩⟩⟩
def zvOK (f : Nat) : Prop := zhh zZ f = [] ∧ (∃ r : vw_C, 1 ≤ zrc zPr f ∧ vwCl[zrc zPr f - 1]? = some r ∧ r.1 = (zyn zZ f).cls) ∧ Jvm.Cond.instanceMethod (zyn zZ f) ∈ zTB ∧ Jvm.Cond.selects (zyn zZ f).cls (zyn zZ f) (zyn zZ f) ∈ zTB ∧ (parseMethodDescriptor (zyn zZ f).desc).map (fun d => d.parameters.length + 1) = some (zna zPr f)
abbrev zVM_T : Type := List (Nat)
set_option maxRecDepth 100000 in
theorem zVM_e0 : zvOK 1 := ⟨rfl, ⟨_, by decide, rfl, rfl⟩, (tbi2 669 (by decide +kernel)), (tbi2 670 (by decide +kernel)), by decide +kernel⟩
set_option maxRecDepth 100000 in
theorem zVM_e1 : zvOK 2 := ⟨rfl, ⟨_, by decide, rfl, rfl⟩, (tbi2 837 (by decide +kernel)), (tbi2 838 (by decide +kernel)), by decide +kernel⟩
set_option maxRecDepth 100000 in
theorem zVM_e2 : zvOK 4 := ⟨rfl, ⟨_, by decide, rfl, rfl⟩, (tbi2 623 (by decide +kernel)), (tbi2 624 (by decide +kernel)), by decide +kernel⟩
set_option maxRecDepth 100000 in
theorem zVM_e3 : zvOK 6 := ⟨rfl, ⟨_, by decide, rfl, rfl⟩, (tbi2 517 (by decide +kernel)), (tbi2 518 (by decide +kernel)), by decide +kernel⟩
set_option maxRecDepth 100000 in
theorem zVM_e4 : zvOK 7 := ⟨rfl, ⟨_, by decide, rfl, rfl⟩, (tbi2 362 (by decide +kernel)), (tbi2 363 (by decide +kernel)), by decide +kernel⟩
set_option maxRecDepth 100000 in
theorem zVM_e5 : zvOK 8 := ⟨rfl, ⟨_, by decide, rfl, rfl⟩, (tbi2 386 (by decide +kernel)), (tbi2 387 (by decide +kernel)), by decide +kernel⟩
set_option maxRecDepth 100000 in
theorem zVM_e6 : zvOK 9 := ⟨rfl, ⟨_, by decide, rfl, rfl⟩, (tbi2 366 (by decide +kernel)), (tbi2 367 (by decide +kernel)), by decide +kernel⟩
set_option maxRecDepth 100000 in
theorem zVM_e7 : zvOK 10 := ⟨rfl, ⟨_, by decide, rfl, rfl⟩, (tbi2 447 (by decide +kernel)), (tbi2 448 (by decide +kernel)), by decide +kernel⟩
set_option maxRecDepth 100000 in
theorem zVM_e8 : zvOK 11 := ⟨rfl, ⟨_, by decide, rfl, rfl⟩, (tbi2 397 (by decide +kernel)), (tbi2 398 (by decide +kernel)), by decide +kernel⟩
set_option maxRecDepth 100000 in
theorem zVM_e9 : zvOK 12 := ⟨rfl, ⟨_, by decide, rfl, rfl⟩, (tbi2 401 (by decide +kernel)), (tbi2 402 (by decide +kernel)), by decide +kernel⟩
set_option maxRecDepth 100000 in
theorem zVM_e10 : zvOK 14 := ⟨rfl, ⟨_, by decide, rfl, rfl⟩, (tbi2 497 (by decide +kernel)), (tbi2 498 (by decide +kernel)), by decide +kernel⟩
set_option maxRecDepth 100000 in
theorem zVM_e11 : zvOK 18 := ⟨rfl, ⟨_, by decide, rfl, rfl⟩, (tbi2 788 (by decide +kernel)), (tbi2 789 (by decide +kernel)), by decide +kernel⟩
set_option maxRecDepth 100000 in
theorem zVM_e12 : zvOK 19 := ⟨rfl, ⟨_, by decide, rfl, rfl⟩, (tbi2 678 (by decide +kernel)), (tbi2 679 (by decide +kernel)), by decide +kernel⟩
set_option maxRecDepth 100000 in
theorem zVM_e13 : zvOK 20 := ⟨rfl, ⟨_, by decide, rfl, rfl⟩, (tbi2 682 (by decide +kernel)), (tbi2 683 (by decide +kernel)), by decide +kernel⟩
set_option maxRecDepth 100000 in
theorem zVM_e14 : zvOK 21 := ⟨rfl, ⟨_, by decide, rfl, rfl⟩, (tbi2 686 (by decide +kernel)), (tbi2 687 (by decide +kernel)), by decide +kernel⟩
set_option maxRecDepth 100000 in
theorem zVM_e15 : zvOK 22 := ⟨rfl, ⟨_, by decide, rfl, rfl⟩, (tbi2 692 (by decide +kernel)), (tbi2 693 (by decide +kernel)), by decide +kernel⟩
set_option maxRecDepth 100000 in
theorem zVM_e16 : zvOK 23 := ⟨rfl, ⟨_, by decide, rfl, rfl⟩, (tbi2 697 (by decide +kernel)), (tbi2 698 (by decide +kernel)), by decide +kernel⟩
set_option maxRecDepth 100000 in
theorem zVM_e17 : zvOK 24 := ⟨rfl, ⟨_, by decide, rfl, rfl⟩, (tbi2 701 (by decide +kernel)), (tbi2 702 (by decide +kernel)), by decide +kernel⟩
set_option maxRecDepth 100000 in
theorem zVM_e18 : zvOK 25 := ⟨rfl, ⟨_, by decide, rfl, rfl⟩, (tbi2 709 (by decide +kernel)), (tbi2 710 (by decide +kernel)), by decide +kernel⟩
set_option maxRecDepth 100000 in
theorem zVM_e19 : zvOK 26 := ⟨rfl, ⟨_, by decide, rfl, rfl⟩, (tbi2 705 (by decide +kernel)), (tbi2 706 (by decide +kernel)), by decide +kernel⟩
set_option maxRecDepth 100000 in
theorem zVM_e20 : zvOK 27 := ⟨rfl, ⟨_, by decide, rfl, rfl⟩, (tbi2 713 (by decide +kernel)), (tbi2 714 (by decide +kernel)), by decide +kernel⟩
set_option maxRecDepth 100000 in
theorem zVM_e21 : zvOK 28 := ⟨rfl, ⟨_, by decide, rfl, rfl⟩, (tbi2 721 (by decide +kernel)), (tbi2 722 (by decide +kernel)), by decide +kernel⟩
set_option maxRecDepth 100000 in
theorem zVM_e22 : zvOK 29 := ⟨rfl, ⟨_, by decide, rfl, rfl⟩, (tbi2 729 (by decide +kernel)), (tbi2 730 (by decide +kernel)), by decide +kernel⟩
set_option maxRecDepth 100000 in
theorem zVM_e23 : zvOK 30 := ⟨rfl, ⟨_, by decide, rfl, rfl⟩, (tbi2 733 (by decide +kernel)), (tbi2 734 (by decide +kernel)), by decide +kernel⟩
set_option maxRecDepth 100000 in
theorem zVM_e24 : zvOK 31 := ⟨rfl, ⟨_, by decide, rfl, rfl⟩, (tbi2 737 (by decide +kernel)), (tbi2 738 (by decide +kernel)), by decide +kernel⟩
set_option maxRecDepth 100000 in
theorem zVM_e25 : zvOK 32 := ⟨rfl, ⟨_, by decide, rfl, rfl⟩, (tbi2 744 (by decide +kernel)), (tbi2 745 (by decide +kernel)), by decide +kernel⟩
set_option maxRecDepth 100000 in
theorem zVM_e26 : zvOK 33 := ⟨rfl, ⟨_, by decide, rfl, rfl⟩, (tbi2 748 (by decide +kernel)), (tbi2 749 (by decide +kernel)), by decide +kernel⟩
set_option maxRecDepth 100000 in
theorem zVM_e27 : zvOK 34 := ⟨rfl, ⟨_, by decide, rfl, rfl⟩, (tbi2 752 (by decide +kernel)), (tbi2 753 (by decide +kernel)), by decide +kernel⟩
set_option maxRecDepth 100000 in
theorem zVM_e28 : zvOK 36 := ⟨rfl, ⟨_, by decide, rfl, rfl⟩, (tbi2 756 (by decide +kernel)), (tbi2 757 (by decide +kernel)), by decide +kernel⟩
set_option maxRecDepth 100000 in
theorem zVM_e29 : zvOK 37 := ⟨rfl, ⟨_, by decide, rfl, rfl⟩, (tbi2 852 (by decide +kernel)), (tbi2 853 (by decide +kernel)), by decide +kernel⟩
set_option maxRecDepth 100000 in
theorem zVM_e30 : zvOK 38 := ⟨rfl, ⟨_, by decide, rfl, rfl⟩, (tbi2 725 (by decide +kernel)), (tbi2 726 (by decide +kernel)), by decide +kernel⟩
set_option maxRecDepth 100000 in
theorem zVM_e31 : zvOK 39 := ⟨rfl, ⟨_, by decide, rfl, rfl⟩, (tbi2 717 (by decide +kernel)), (tbi2 718 (by decide +kernel)), by decide +kernel⟩
set_option maxRecDepth 100000 in
theorem zVM_e32 : zvOK 40 := ⟨rfl, ⟨_, by decide, rfl, rfl⟩, (tbi2 884 (by decide +kernel)), (tbi2 885 (by decide +kernel)), by decide +kernel⟩
set_option maxRecDepth 100000 in
theorem zVM_e33 : zvOK 41 := ⟨rfl, ⟨_, by decide, rfl, rfl⟩, (tbi2 888 (by decide +kernel)), (tbi2 889 (by decide +kernel)), by decide +kernel⟩
set_option maxRecDepth 100000 in
theorem zVM_e34 : zvOK 42 := ⟨rfl, ⟨_, by decide, rfl, rfl⟩, (tbi2 892 (by decide +kernel)), (tbi2 893 (by decide +kernel)), by decide +kernel⟩
set_option maxRecDepth 100000 in
theorem zVM_e35 : zvOK 44 := ⟨rfl, ⟨_, by decide, rfl, rfl⟩, (tbi2 203 (by decide +kernel)), (tbi2 204 (by decide +kernel)), by decide +kernel⟩
set_option maxRecDepth 100000 in
theorem zVM_e36 : zvOK 45 := ⟨rfl, ⟨_, by decide, rfl, rfl⟩, (tbi2 314 (by decide +kernel)), (tbi2 315 (by decide +kernel)), by decide +kernel⟩
set_option maxRecDepth 100000 in
theorem zVM_e37 : zvOK 46 := ⟨rfl, ⟨_, by decide, rfl, rfl⟩, (tbi2 373 (by decide +kernel)), (tbi2 374 (by decide +kernel)), by decide +kernel⟩
set_option maxRecDepth 100000 in
theorem zVM_e38 : zvOK 47 := ⟨rfl, ⟨_, by decide, rfl, rfl⟩, (tbi2 381 (by decide +kernel)), (tbi2 382 (by decide +kernel)), by decide +kernel⟩
set_option maxRecDepth 100000 in
theorem zVM_e39 : zvOK 48 := ⟨rfl, ⟨_, by decide, rfl, rfl⟩, (tbi2 393 (by decide +kernel)), (tbi2 394 (by decide +kernel)), by decide +kernel⟩
def zVM_p0 : zVM_T := [1, 2, 4, 6, 7, 8, 9, 10, 11, 12, 14, 18, 19, 20, 21, 22, 23, 24, 25, 26, 27, 28, 29, 30, 31, 32, 33, 34, 36, 37, 38, 39, 40, 41, 42, 44, 45, 46, 47, 48]
theorem zVM_q0 : ∀ q ∈ zVM_p0, zvOK q := List.forall_mem_cons.mpr ⟨zVM_e0, List.forall_mem_cons.mpr ⟨zVM_e1, List.forall_mem_cons.mpr ⟨zVM_e2, List.forall_mem_cons.mpr ⟨zVM_e3, List.forall_mem_cons.mpr ⟨zVM_e4, List.forall_mem_cons.mpr ⟨zVM_e5, List.forall_mem_cons.mpr ⟨zVM_e6, List.forall_mem_cons.mpr ⟨zVM_e7, List.forall_mem_cons.mpr ⟨zVM_e8, List.forall_mem_cons.mpr ⟨zVM_e9, List.forall_mem_cons.mpr ⟨zVM_e10, List.forall_mem_cons.mpr ⟨zVM_e11, List.forall_mem_cons.mpr ⟨zVM_e12, List.forall_mem_cons.mpr ⟨zVM_e13, List.forall_mem_cons.mpr ⟨zVM_e14, List.forall_mem_cons.mpr ⟨zVM_e15, List.forall_mem_cons.mpr ⟨zVM_e16, List.forall_mem_cons.mpr ⟨zVM_e17, List.forall_mem_cons.mpr ⟨zVM_e18, List.forall_mem_cons.mpr ⟨zVM_e19, List.forall_mem_cons.mpr ⟨zVM_e20, List.forall_mem_cons.mpr ⟨zVM_e21, List.forall_mem_cons.mpr ⟨zVM_e22, List.forall_mem_cons.mpr ⟨zVM_e23, List.forall_mem_cons.mpr ⟨zVM_e24, List.forall_mem_cons.mpr ⟨zVM_e25, List.forall_mem_cons.mpr ⟨zVM_e26, List.forall_mem_cons.mpr ⟨zVM_e27, List.forall_mem_cons.mpr ⟨zVM_e28, List.forall_mem_cons.mpr ⟨zVM_e29, List.forall_mem_cons.mpr ⟨zVM_e30, List.forall_mem_cons.mpr ⟨zVM_e31, List.forall_mem_cons.mpr ⟨zVM_e32, List.forall_mem_cons.mpr ⟨zVM_e33, List.forall_mem_cons.mpr ⟨zVM_e34, List.forall_mem_cons.mpr ⟨zVM_e35, List.forall_mem_cons.mpr ⟨zVM_e36, List.forall_mem_cons.mpr ⟨zVM_e37, List.forall_mem_cons.mpr ⟨zVM_e38, List.forall_mem_cons.mpr ⟨zVM_e39, fun _ h => absurd h List.not_mem_nil⟩⟩⟩⟩⟩⟩⟩⟩⟩⟩⟩⟩⟩⟩⟩⟩⟩⟩⟩⟩⟩⟩⟩⟩⟩⟩⟩⟩⟩⟩⟩⟩⟩⟩⟩⟩⟩⟩⟩⟩
set_option maxRecDepth 100000 in
theorem zVM_e40 : zvOK 49 := ⟨rfl, ⟨_, by decide, rfl, rfl⟩, (tbi2 408 (by decide +kernel)), (tbi2 409 (by decide +kernel)), by decide +kernel⟩
set_option maxRecDepth 100000 in
theorem zVM_e41 : zvOK 50 := ⟨rfl, ⟨_, by decide, rfl, rfl⟩, (tbi2 476 (by decide +kernel)), (tbi2 477 (by decide +kernel)), by decide +kernel⟩
set_option maxRecDepth 100000 in
theorem zVM_e42 : zvOK 51 := ⟨rfl, ⟨_, by decide, rfl, rfl⟩, (tbi2 504 (by decide +kernel)), (tbi2 505 (by decide +kernel)), by decide +kernel⟩
set_option maxRecDepth 100000 in
theorem zVM_e43 : zvOK 52 := ⟨rfl, ⟨_, by decide, rfl, rfl⟩, (tbi2 512 (by decide +kernel)), (tbi2 513 (by decide +kernel)), by decide +kernel⟩
set_option maxRecDepth 100000 in
theorem zVM_e44 : zvOK 53 := ⟨rfl, ⟨_, by decide, rfl, rfl⟩, (tbi2 524 (by decide +kernel)), (tbi2 525 (by decide +kernel)), by decide +kernel⟩
set_option maxRecDepth 100000 in
theorem zVM_e45 : zvOK 54 := ⟨rfl, ⟨_, by decide, rfl, rfl⟩, (tbi2 588 (by decide +kernel)), (tbi2 589 (by decide +kernel)), by decide +kernel⟩
set_option maxRecDepth 100000 in
theorem zVM_e46 : zvOK 55 := ⟨rfl, ⟨_, by decide, rfl, rfl⟩, (tbi2 601 (by decide +kernel)), (tbi2 602 (by decide +kernel)), by decide +kernel⟩
set_option maxRecDepth 100000 in
theorem zVM_e47 : zvOK 56 := ⟨rfl, ⟨_, by decide, rfl, rfl⟩, (tbi2 608 (by decide +kernel)), (tbi2 609 (by decide +kernel)), by decide +kernel⟩
set_option maxRecDepth 100000 in
theorem zVM_e48 : zvOK 57 := ⟨rfl, ⟨_, by decide, rfl, rfl⟩, (tbi2 617 (by decide +kernel)), (tbi2 618 (by decide +kernel)), by decide +kernel⟩
set_option maxRecDepth 100000 in
theorem zVM_e49 : zvOK 58 := ⟨rfl, ⟨_, by decide, rfl, rfl⟩, (tbi2 630 (by decide +kernel)), (tbi2 631 (by decide +kernel)), by decide +kernel⟩
set_option maxRecDepth 100000 in
theorem zVM_e50 : zvOK 59 := ⟨rfl, ⟨_, by decide, rfl, rfl⟩, (tbi2 639 (by decide +kernel)), (tbi2 640 (by decide +kernel)), by decide +kernel⟩
set_option maxRecDepth 100000 in
theorem zVM_e51 : zvOK 60 := ⟨rfl, ⟨_, by decide, rfl, rfl⟩, (tbi2 646 (by decide +kernel)), (tbi2 647 (by decide +kernel)), by decide +kernel⟩
set_option maxRecDepth 100000 in
theorem zVM_e52 : zvOK 61 := ⟨rfl, ⟨_, by decide, rfl, rfl⟩, (tbi2 660 (by decide +kernel)), (tbi2 661 (by decide +kernel)), by decide +kernel⟩
set_option maxRecDepth 100000 in
theorem zVM_e53 : zvOK 62 := ⟨rfl, ⟨_, by decide, rfl, rfl⟩, (tbi2 817 (by decide +kernel)), (tbi2 818 (by decide +kernel)), by decide +kernel⟩
set_option maxRecDepth 100000 in
theorem zVM_e54 : zvOK 63 := ⟨rfl, ⟨_, by decide, rfl, rfl⟩, (tbi2 833 (by decide +kernel)), (tbi2 834 (by decide +kernel)), by decide +kernel⟩
set_option maxRecDepth 100000 in
theorem zVM_e55 : zvOK 64 := ⟨rfl, ⟨_, by decide, rfl, rfl⟩, (tbi2 844 (by decide +kernel)), (tbi2 845 (by decide +kernel)), by decide +kernel⟩
set_option maxRecDepth 100000 in
theorem zVM_e56 : zvOK 65 := ⟨rfl, ⟨_, by decide, rfl, rfl⟩, (tbi2 859 (by decide +kernel)), (tbi2 860 (by decide +kernel)), by decide +kernel⟩
set_option maxRecDepth 100000 in
theorem zVM_e57 : zvOK 66 := ⟨rfl, ⟨_, by decide, rfl, rfl⟩, (tbi2 866 (by decide +kernel)), (tbi2 867 (by decide +kernel)), by decide +kernel⟩
set_option maxRecDepth 100000 in
theorem zVM_e58 : zvOK 67 := ⟨rfl, ⟨_, by decide, rfl, rfl⟩, (tbi2 873 (by decide +kernel)), (tbi2 874 (by decide +kernel)), by decide +kernel⟩
set_option maxRecDepth 100000 in
theorem zVM_e59 : zvOK 68 := ⟨rfl, ⟨_, by decide, rfl, rfl⟩, (tbi2 880 (by decide +kernel)), (tbi2 881 (by decide +kernel)), by decide +kernel⟩
set_option maxRecDepth 100000 in
theorem zVM_e60 : zvOK 69 := ⟨rfl, ⟨_, by decide, rfl, rfl⟩, (tbi2 899 (by decide +kernel)), (tbi2 900 (by decide +kernel)), by decide +kernel⟩
set_option maxRecDepth 100000 in
theorem zVM_e61 : zvOK 75 := ⟨rfl, ⟨_, by decide, rfl, rfl⟩, (tbi2 319 (by decide +kernel)), (tbi2 1 (by decide +kernel)), by decide +kernel⟩
set_option maxRecDepth 100000 in
theorem zVM_e62 : zvOK 76 := ⟨rfl, ⟨_, by decide, rfl, rfl⟩, (tbi2 481 (by decide +kernel)), (tbi2 7 (by decide +kernel)), by decide +kernel⟩
set_option maxRecDepth 100000 in
theorem zVM_e63 : zvOK 77 := ⟨rfl, ⟨_, by decide, rfl, rfl⟩, (tbi2 593 (by decide +kernel)), (tbi2 10 (by decide +kernel)), by decide +kernel⟩
set_option maxRecDepth 100000 in
theorem zVM_e64 : zvOK 78 := ⟨rfl, ⟨_, by decide, rfl, rfl⟩, (tbi2 822 (by decide +kernel)), (tbi2 13 (by decide +kernel)), by decide +kernel⟩
set_option maxRecDepth 100000 in
theorem zVM_e65 : zvOK 82 := ⟨rfl, ⟨_, by decide, rfl, rfl⟩, (tbi2 413 (by decide +kernel)), (tbi2 2 (by decide +kernel)), by decide +kernel⟩
set_option maxRecDepth 100000 in
theorem zVM_e66 : zvOK 83 := ⟨rfl, ⟨_, by decide, rfl, rfl⟩, (tbi2 427 (by decide +kernel)), (tbi2 3 (by decide +kernel)), by decide +kernel⟩
set_option maxRecDepth 100000 in
theorem zVM_e67 : zvOK 84 := ⟨rfl, ⟨_, by decide, rfl, rfl⟩, (tbi2 432 (by decide +kernel)), (tbi2 4 (by decide +kernel)), by decide +kernel⟩
set_option maxRecDepth 100000 in
theorem zVM_e68 : zvOK 85 := ⟨rfl, ⟨_, by decide, rfl, rfl⟩, (tbi2 436 (by decide +kernel)), (tbi2 5 (by decide +kernel)), by decide +kernel⟩
set_option maxRecDepth 100000 in
theorem zVM_e69 : zvOK 86 := ⟨rfl, ⟨_, by decide, rfl, rfl⟩, (tbi2 442 (by decide +kernel)), (tbi2 6 (by decide +kernel)), by decide +kernel⟩
set_option maxRecDepth 100000 in
theorem zVM_e70 : zvOK 87 := ⟨rfl, ⟨_, by decide, rfl, rfl⟩, (tbi2 494 (by decide +kernel)), (tbi2 9 (by decide +kernel)), by decide +kernel⟩
set_option maxRecDepth 100000 in
theorem zVM_e71 : zvOK 88 := ⟨rfl, ⟨_, by decide, rfl, rfl⟩, (tbi2 490 (by decide +kernel)), (tbi2 8 (by decide +kernel)), by decide +kernel⟩
set_option maxRecDepth 100000 in
theorem zVM_e72 : zvOK 89 := ⟨rfl, ⟨_, by decide, rfl, rfl⟩, (tbi2 666 (by decide +kernel)), (tbi2 11 (by decide +kernel)), by decide +kernel⟩
set_option maxRecDepth 100000 in
theorem zVM_e73 : zvOK 90 := ⟨rfl, ⟨_, by decide, rfl, rfl⟩, (tbi2 675 (by decide +kernel)), (tbi2 12 (by decide +kernel)), by decide +kernel⟩
set_option maxRecDepth 100000 in
theorem zVM_e74 : zvOK 92 := ⟨rfl, ⟨_, by decide, rfl, rfl⟩, (tbi2 1079 (by decide +kernel)), (tbi2 1080 (by decide +kernel)), by decide +kernel⟩
set_option maxRecDepth 100000 in
theorem zVM_e75 : zvOK 93 := ⟨rfl, ⟨_, by decide, rfl, rfl⟩, (tbi2 1088 (by decide +kernel)), (tbi2 14 (by decide +kernel)), by decide +kernel⟩
set_option maxRecDepth 100000 in
theorem zVM_e76 : zvOK 95 := ⟨rfl, ⟨_, by decide, rfl, rfl⟩, (tbi2 1100 (by decide +kernel)), (tbi2 15 (by decide +kernel)), by decide +kernel⟩
set_option maxRecDepth 100000 in
theorem zVM_e77 : zvOK 96 := ⟨rfl, ⟨_, by decide, rfl, rfl⟩, (tbi2 1083 (by decide +kernel)), (tbi2 1084 (by decide +kernel)), by decide +kernel⟩
set_option maxRecDepth 100000 in
theorem zVM_e78 : zvOK 97 := ⟨rfl, ⟨_, by decide, rfl, rfl⟩, (tbi2 1104 (by decide +kernel)), (tbi2 16 (by decide +kernel)), by decide +kernel⟩
set_option maxRecDepth 100000 in
theorem zVM_e79 : zvOK 98 := ⟨rfl, ⟨_, by decide, rfl, rfl⟩, (tbi2 1091 (by decide +kernel)), (tbi2 1092 (by decide +kernel)), by decide +kernel⟩
def zVM_p1 : zVM_T := [49, 50, 51, 52, 53, 54, 55, 56, 57, 58, 59, 60, 61, 62, 63, 64, 65, 66, 67, 68, 69, 75, 76, 77, 78, 82, 83, 84, 85, 86, 87, 88, 89, 90, 92, 93, 95, 96, 97, 98]
theorem zVM_q1 : ∀ q ∈ zVM_p1, zvOK q := List.forall_mem_cons.mpr ⟨zVM_e40, List.forall_mem_cons.mpr ⟨zVM_e41, List.forall_mem_cons.mpr ⟨zVM_e42, List.forall_mem_cons.mpr ⟨zVM_e43, List.forall_mem_cons.mpr ⟨zVM_e44, List.forall_mem_cons.mpr ⟨zVM_e45, List.forall_mem_cons.mpr ⟨zVM_e46, List.forall_mem_cons.mpr ⟨zVM_e47, List.forall_mem_cons.mpr ⟨zVM_e48, List.forall_mem_cons.mpr ⟨zVM_e49, List.forall_mem_cons.mpr ⟨zVM_e50, List.forall_mem_cons.mpr ⟨zVM_e51, List.forall_mem_cons.mpr ⟨zVM_e52, List.forall_mem_cons.mpr ⟨zVM_e53, List.forall_mem_cons.mpr ⟨zVM_e54, List.forall_mem_cons.mpr ⟨zVM_e55, List.forall_mem_cons.mpr ⟨zVM_e56, List.forall_mem_cons.mpr ⟨zVM_e57, List.forall_mem_cons.mpr ⟨zVM_e58, List.forall_mem_cons.mpr ⟨zVM_e59, List.forall_mem_cons.mpr ⟨zVM_e60, List.forall_mem_cons.mpr ⟨zVM_e61, List.forall_mem_cons.mpr ⟨zVM_e62, List.forall_mem_cons.mpr ⟨zVM_e63, List.forall_mem_cons.mpr ⟨zVM_e64, List.forall_mem_cons.mpr ⟨zVM_e65, List.forall_mem_cons.mpr ⟨zVM_e66, List.forall_mem_cons.mpr ⟨zVM_e67, List.forall_mem_cons.mpr ⟨zVM_e68, List.forall_mem_cons.mpr ⟨zVM_e69, List.forall_mem_cons.mpr ⟨zVM_e70, List.forall_mem_cons.mpr ⟨zVM_e71, List.forall_mem_cons.mpr ⟨zVM_e72, List.forall_mem_cons.mpr ⟨zVM_e73, List.forall_mem_cons.mpr ⟨zVM_e74, List.forall_mem_cons.mpr ⟨zVM_e75, List.forall_mem_cons.mpr ⟨zVM_e76, List.forall_mem_cons.mpr ⟨zVM_e77, List.forall_mem_cons.mpr ⟨zVM_e78, List.forall_mem_cons.mpr ⟨zVM_e79, fun _ h => absurd h List.not_mem_nil⟩⟩⟩⟩⟩⟩⟩⟩⟩⟩⟩⟩⟩⟩⟩⟩⟩⟩⟩⟩⟩⟩⟩⟩⟩⟩⟩⟩⟩⟩⟩⟩⟩⟩⟩⟩⟩⟩⟩⟩
set_option maxRecDepth 100000 in
theorem zVM_e80 : zvOK 99 := ⟨rfl, ⟨_, by decide, rfl, rfl⟩, (tbi2 1107 (by decide +kernel)), (tbi2 1108 (by decide +kernel)), by decide +kernel⟩
set_option maxRecDepth 100000 in
theorem zVM_e81 : zvOK 100 := ⟨rfl, ⟨_, by decide, rfl, rfl⟩, (tbi2 1111 (by decide +kernel)), (tbi2 1112 (by decide +kernel)), by decide +kernel⟩
set_option maxRecDepth 100000 in
theorem zVM_e82 : zvOK 101 := ⟨rfl, ⟨_, by decide, rfl, rfl⟩, (tbi2 1120 (by decide +kernel)), (tbi2 17 (by decide +kernel)), by decide +kernel⟩
set_option maxRecDepth 100000 in
theorem zVM_e83 : zvOK 102 := ⟨rfl, ⟨_, by decide, rfl, rfl⟩, (tbi2 1115 (by decide +kernel)), (tbi2 1116 (by decide +kernel)), by decide +kernel⟩
set_option maxRecDepth 100000 in
theorem zVM_e84 : zvOK 105 := ⟨rfl, ⟨_, by decide, rfl, rfl⟩, (tbi2 1135 (by decide +kernel)), (tbi2 18 (by decide +kernel)), by decide +kernel⟩
set_option maxRecDepth 100000 in
theorem zVM_e85 : zvOK 106 := ⟨rfl, ⟨_, by decide, rfl, rfl⟩, (tbi2 1123 (by decide +kernel)), (tbi2 1124 (by decide +kernel)), by decide +kernel⟩
set_option maxRecDepth 100000 in
theorem zVM_e86 : zvOK 107 := ⟨rfl, ⟨_, by decide, rfl, rfl⟩, (tbi2 1139 (by decide +kernel)), (tbi2 19 (by decide +kernel)), by decide +kernel⟩
set_option maxRecDepth 100000 in
theorem zVM_e87 : zvOK 108 := ⟨rfl, ⟨_, by decide, rfl, rfl⟩, (tbi2 1147 (by decide +kernel)), (tbi2 20 (by decide +kernel)), by decide +kernel⟩
set_option maxRecDepth 100000 in
theorem zVM_e88 : zvOK 109 := ⟨rfl, ⟨_, by decide, rfl, rfl⟩, (tbi2 1151 (by decide +kernel)), (tbi2 21 (by decide +kernel)), by decide +kernel⟩
set_option maxRecDepth 100000 in
theorem zVM_e89 : zvOK 110 := ⟨rfl, ⟨_, by decide, rfl, rfl⟩, (tbi2 1142 (by decide +kernel)), (tbi2 1143 (by decide +kernel)), by decide +kernel⟩
set_option maxRecDepth 100000 in
theorem zVM_e90 : zvOK 111 := ⟨rfl, ⟨_, by decide, rfl, rfl⟩, (tbi2 1154 (by decide +kernel)), (tbi2 1155 (by decide +kernel)), by decide +kernel⟩
set_option maxRecDepth 100000 in
theorem zVM_e91 : zvOK 112 := ⟨rfl, ⟨_, by decide, rfl, rfl⟩, (tbi2 1158 (by decide +kernel)), (tbi2 1159 (by decide +kernel)), by decide +kernel⟩
set_option maxRecDepth 100000 in
theorem zVM_e92 : zvOK 113 := ⟨rfl, ⟨_, by decide, rfl, rfl⟩, (tbi2 1171 (by decide +kernel)), (tbi2 22 (by decide +kernel)), by decide +kernel⟩
set_option maxRecDepth 100000 in
theorem zVM_e93 : zvOK 114 := ⟨rfl, ⟨_, by decide, rfl, rfl⟩, (tbi2 1162 (by decide +kernel)), (tbi2 1163 (by decide +kernel)), by decide +kernel⟩
set_option maxRecDepth 100000 in
theorem zVM_e94 : zvOK 115 := ⟨rfl, ⟨_, by decide, rfl, rfl⟩, (tbi2 1166 (by decide +kernel)), (tbi2 1167 (by decide +kernel)), by decide +kernel⟩
set_option maxRecDepth 100000 in
theorem zVM_e95 : zvOK 116 := ⟨rfl, ⟨_, by decide, rfl, rfl⟩, (tbi2 1174 (by decide +kernel)), (tbi2 1175 (by decide +kernel)), by decide +kernel⟩
set_option maxRecDepth 100000 in
theorem zVM_e96 : zvOK 117 := ⟨rfl, ⟨_, by decide, rfl, rfl⟩, (tbi2 1178 (by decide +kernel)), (tbi2 1179 (by decide +kernel)), by decide +kernel⟩
set_option maxRecDepth 100000 in
theorem zVM_e97 : zvOK 118 := ⟨rfl, ⟨_, by decide, rfl, rfl⟩, (tbi2 1187 (by decide +kernel)), (tbi2 23 (by decide +kernel)), by decide +kernel⟩
set_option maxRecDepth 100000 in
theorem zVM_e98 : zvOK 119 := ⟨rfl, ⟨_, by decide, rfl, rfl⟩, (tbi2 1182 (by decide +kernel)), (tbi2 1183 (by decide +kernel)), by decide +kernel⟩
set_option maxRecDepth 100000 in
theorem zVM_e99 : zvOK 120 := ⟨rfl, ⟨_, by decide, rfl, rfl⟩, (tbi2 1190 (by decide +kernel)), (tbi2 1191 (by decide +kernel)), by decide +kernel⟩
set_option maxRecDepth 100000 in
theorem zVM_e100 : zvOK 121 := ⟨rfl, ⟨_, by decide, rfl, rfl⟩, (tbi2 1194 (by decide +kernel)), (tbi2 1195 (by decide +kernel)), by decide +kernel⟩
set_option maxRecDepth 100000 in
theorem zVM_e101 : zvOK 122 := ⟨rfl, ⟨_, by decide, rfl, rfl⟩, (tbi2 1232 (by decide +kernel)), (tbi2 30 (by decide +kernel)), by decide +kernel⟩
set_option maxRecDepth 100000 in
theorem zVM_e102 : zvOK 123 := ⟨rfl, ⟨_, by decide, rfl, rfl⟩, (tbi2 1228 (by decide +kernel)), (tbi2 29 (by decide +kernel)), by decide +kernel⟩
set_option maxRecDepth 100000 in
theorem zVM_e103 : zvOK 124 := ⟨rfl, ⟨_, by decide, rfl, rfl⟩, (tbi2 1224 (by decide +kernel)), (tbi2 28 (by decide +kernel)), by decide +kernel⟩
set_option maxRecDepth 100000 in
theorem zVM_e104 : zvOK 125 := ⟨rfl, ⟨_, by decide, rfl, rfl⟩, (tbi2 1220 (by decide +kernel)), (tbi2 27 (by decide +kernel)), by decide +kernel⟩
set_option maxRecDepth 100000 in
theorem zVM_e105 : zvOK 126 := ⟨rfl, ⟨_, by decide, rfl, rfl⟩, (tbi2 1244 (by decide +kernel)), (tbi2 33 (by decide +kernel)), by decide +kernel⟩
set_option maxRecDepth 100000 in
theorem zVM_e106 : zvOK 127 := ⟨rfl, ⟨_, by decide, rfl, rfl⟩, (tbi2 1248 (by decide +kernel)), (tbi2 34 (by decide +kernel)), by decide +kernel⟩
set_option maxRecDepth 100000 in
theorem zVM_e107 : zvOK 128 := ⟨rfl, ⟨_, by decide, rfl, rfl⟩, (tbi2 1240 (by decide +kernel)), (tbi2 32 (by decide +kernel)), by decide +kernel⟩
set_option maxRecDepth 100000 in
theorem zVM_e108 : zvOK 129 := ⟨rfl, ⟨_, by decide, rfl, rfl⟩, (tbi2 1236 (by decide +kernel)), (tbi2 31 (by decide +kernel)), by decide +kernel⟩
set_option maxRecDepth 100000 in
theorem zVM_e109 : zvOK 130 := ⟨rfl, ⟨_, by decide, rfl, rfl⟩, (tbi2 1252 (by decide +kernel)), (tbi2 35 (by decide +kernel)), by decide +kernel⟩
set_option maxRecDepth 100000 in
theorem zVM_e110 : zvOK 131 := ⟨rfl, ⟨_, by decide, rfl, rfl⟩, (tbi2 1216 (by decide +kernel)), (tbi2 26 (by decide +kernel)), by decide +kernel⟩
set_option maxRecDepth 100000 in
theorem zVM_e111 : zvOK 132 := ⟨rfl, ⟨_, by decide, rfl, rfl⟩, (tbi2 1198 (by decide +kernel)), (tbi2 1199 (by decide +kernel)), by decide +kernel⟩
set_option maxRecDepth 100000 in
theorem zVM_e112 : zvOK 133 := ⟨rfl, ⟨_, by decide, rfl, rfl⟩, (tbi2 1212 (by decide +kernel)), (tbi2 25 (by decide +kernel)), by decide +kernel⟩
set_option maxRecDepth 100000 in
theorem zVM_e113 : zvOK 134 := ⟨rfl, ⟨_, by decide, rfl, rfl⟩, (tbi2 1208 (by decide +kernel)), (tbi2 24 (by decide +kernel)), by decide +kernel⟩
set_option maxRecDepth 100000 in
theorem zVM_e114 : zvOK 135 := ⟨rfl, ⟨_, by decide, rfl, rfl⟩, (tbi2 1256 (by decide +kernel)), (tbi2 36 (by decide +kernel)), by decide +kernel⟩
set_option maxRecDepth 100000 in
theorem zVM_e115 : zvOK 136 := ⟨rfl, ⟨_, by decide, rfl, rfl⟩, (tbi2 1203 (by decide +kernel)), (tbi2 1204 (by decide +kernel)), by decide +kernel⟩
set_option maxRecDepth 100000 in
theorem zVM_e116 : zvOK 137 := ⟨rfl, ⟨_, by decide, rfl, rfl⟩, (tbi2 1264 (by decide +kernel)), (tbi2 37 (by decide +kernel)), by decide +kernel⟩
set_option maxRecDepth 100000 in
theorem zVM_e117 : zvOK 138 := ⟨rfl, ⟨_, by decide, rfl, rfl⟩, (tbi2 1259 (by decide +kernel)), (tbi2 1260 (by decide +kernel)), by decide +kernel⟩
set_option maxRecDepth 100000 in
theorem zVM_e118 : zvOK 139 := ⟨rfl, ⟨_, by decide, rfl, rfl⟩, (tbi2 1267 (by decide +kernel)), (tbi2 1268 (by decide +kernel)), by decide +kernel⟩
set_option maxRecDepth 100000 in
theorem zVM_e119 : zvOK 140 := ⟨rfl, ⟨_, by decide, rfl, rfl⟩, (tbi2 1271 (by decide +kernel)), (tbi2 1272 (by decide +kernel)), by decide +kernel⟩
def zVM_p2 : zVM_T := [99, 100, 101, 102, 105, 106, 107, 108, 109, 110, 111, 112, 113, 114, 115, 116, 117, 118, 119, 120, 121, 122, 123, 124, 125, 126, 127, 128, 129, 130, 131, 132, 133, 134, 135, 136, 137, 138, 139, 140]
theorem zVM_q2 : ∀ q ∈ zVM_p2, zvOK q := List.forall_mem_cons.mpr ⟨zVM_e80, List.forall_mem_cons.mpr ⟨zVM_e81, List.forall_mem_cons.mpr ⟨zVM_e82, List.forall_mem_cons.mpr ⟨zVM_e83, List.forall_mem_cons.mpr ⟨zVM_e84, List.forall_mem_cons.mpr ⟨zVM_e85, List.forall_mem_cons.mpr ⟨zVM_e86, List.forall_mem_cons.mpr ⟨zVM_e87, List.forall_mem_cons.mpr ⟨zVM_e88, List.forall_mem_cons.mpr ⟨zVM_e89, List.forall_mem_cons.mpr ⟨zVM_e90, List.forall_mem_cons.mpr ⟨zVM_e91, List.forall_mem_cons.mpr ⟨zVM_e92, List.forall_mem_cons.mpr ⟨zVM_e93, List.forall_mem_cons.mpr ⟨zVM_e94, List.forall_mem_cons.mpr ⟨zVM_e95, List.forall_mem_cons.mpr ⟨zVM_e96, List.forall_mem_cons.mpr ⟨zVM_e97, List.forall_mem_cons.mpr ⟨zVM_e98, List.forall_mem_cons.mpr ⟨zVM_e99, List.forall_mem_cons.mpr ⟨zVM_e100, List.forall_mem_cons.mpr ⟨zVM_e101, List.forall_mem_cons.mpr ⟨zVM_e102, List.forall_mem_cons.mpr ⟨zVM_e103, List.forall_mem_cons.mpr ⟨zVM_e104, List.forall_mem_cons.mpr ⟨zVM_e105, List.forall_mem_cons.mpr ⟨zVM_e106, List.forall_mem_cons.mpr ⟨zVM_e107, List.forall_mem_cons.mpr ⟨zVM_e108, List.forall_mem_cons.mpr ⟨zVM_e109, List.forall_mem_cons.mpr ⟨zVM_e110, List.forall_mem_cons.mpr ⟨zVM_e111, List.forall_mem_cons.mpr ⟨zVM_e112, List.forall_mem_cons.mpr ⟨zVM_e113, List.forall_mem_cons.mpr ⟨zVM_e114, List.forall_mem_cons.mpr ⟨zVM_e115, List.forall_mem_cons.mpr ⟨zVM_e116, List.forall_mem_cons.mpr ⟨zVM_e117, List.forall_mem_cons.mpr ⟨zVM_e118, List.forall_mem_cons.mpr ⟨zVM_e119, fun _ h => absurd h List.not_mem_nil⟩⟩⟩⟩⟩⟩⟩⟩⟩⟩⟩⟩⟩⟩⟩⟩⟩⟩⟩⟩⟩⟩⟩⟩⟩⟩⟩⟩⟩⟩⟩⟩⟩⟩⟩⟩⟩⟩⟩⟩
set_option maxRecDepth 100000 in
theorem zVM_e120 : zvOK 141 := ⟨rfl, ⟨_, by decide, rfl, rfl⟩, (tbi2 1275 (by decide +kernel)), (tbi2 1276 (by decide +kernel)), by decide +kernel⟩
set_option maxRecDepth 100000 in
theorem zVM_e121 : zvOK 142 := ⟨rfl, ⟨_, by decide, rfl, rfl⟩, (tbi2 1279 (by decide +kernel)), (tbi2 1280 (by decide +kernel)), by decide +kernel⟩
set_option maxRecDepth 100000 in
theorem zVM_e122 : zvOK 143 := ⟨rfl, ⟨_, by decide, rfl, rfl⟩, (tbi2 1283 (by decide +kernel)), (tbi2 1284 (by decide +kernel)), by decide +kernel⟩
set_option maxRecDepth 100000 in
theorem zVM_e123 : zvOK 144 := ⟨rfl, ⟨_, by decide, rfl, rfl⟩, (tbi2 1296 (by decide +kernel)), (tbi2 39 (by decide +kernel)), by decide +kernel⟩
set_option maxRecDepth 100000 in
theorem zVM_e124 : zvOK 145 := ⟨rfl, ⟨_, by decide, rfl, rfl⟩, (tbi2 1292 (by decide +kernel)), (tbi2 38 (by decide +kernel)), by decide +kernel⟩
set_option maxRecDepth 100000 in
theorem zVM_e125 : zvOK 146 := ⟨rfl, ⟨_, by decide, rfl, rfl⟩, (tbi2 1287 (by decide +kernel)), (tbi2 1288 (by decide +kernel)), by decide +kernel⟩
set_option maxRecDepth 100000 in
theorem zVM_e126 : zvOK 147 := ⟨rfl, ⟨_, by decide, rfl, rfl⟩, (tbi2 1299 (by decide +kernel)), (tbi2 1300 (by decide +kernel)), by decide +kernel⟩
set_option maxRecDepth 100000 in
theorem zVM_e127 : zvOK 175 := ⟨rfl, ⟨_, by decide, rfl, rfl⟩, (tbi2 319 (by decide +kernel)), (tbi2 1 (by decide +kernel)), by decide +kernel⟩
def zVM_p3 : zVM_T := [141, 142, 143, 144, 145, 146, 147, 175]
theorem zVM_q3 : ∀ q ∈ zVM_p3, zvOK q := List.forall_mem_cons.mpr ⟨zVM_e120, List.forall_mem_cons.mpr ⟨zVM_e121, List.forall_mem_cons.mpr ⟨zVM_e122, List.forall_mem_cons.mpr ⟨zVM_e123, List.forall_mem_cons.mpr ⟨zVM_e124, List.forall_mem_cons.mpr ⟨zVM_e125, List.forall_mem_cons.mpr ⟨zVM_e126, List.forall_mem_cons.mpr ⟨zVM_e127, fun _ h => absurd h List.not_mem_nil⟩⟩⟩⟩⟩⟩⟩⟩
def zVMA : zVM_T := zVM_p0 ++ (zVM_p1 ++ (zVM_p2 ++ (zVM_p3)))
theorem zVM_all : ∀ q ∈ zVMA, zvOK q := List.forall_mem_append.mpr ⟨zVM_q0, List.forall_mem_append.mpr ⟨zVM_q1, List.forall_mem_append.mpr ⟨zVM_q2, zVM_q3⟩⟩⟩
def zvlOK (q : Nat × Nat × Nat) : Prop := Jvm.Cond.methodLink (zcnm q.1) q.2.1 (zyn zZ q.2.2) ∈ zTB
abbrev zVL_T : Type := List (Nat × Nat × Nat)
set_option maxRecDepth 100000 in
theorem zVL_e0 : zvlOK (0, 38, 12) := (tbi2 672 (by decide +kernel))
set_option maxRecDepth 100000 in
theorem zVL_e1 : zvlOK (2, 21, 9) := (tbi2 365 (by decide +kernel))
set_option maxRecDepth 100000 in
theorem zVL_e2 : zvlOK (2, 25, 7) := (tbi2 450 (by decide +kernel))
set_option maxRecDepth 100000 in
theorem zVL_e3 : zvlOK (2, 29, 12) := (tbi2 400 (by decide +kernel))
set_option maxRecDepth 100000 in
theorem zVL_e4 : zvlOK (6, 50, 20) := (tbi2 681 (by decide +kernel))
set_option maxRecDepth 100000 in
theorem zVL_e5 : zvlOK (6, 54, 23) := (tbi2 696 (by decide +kernel))
set_option maxRecDepth 100000 in
theorem zVL_e6 : zvlOK (6, 61, 24) := (tbi2 700 (by decide +kernel))
set_option maxRecDepth 100000 in
theorem zVL_e7 : zvlOK (6, 65, 27) := (tbi2 712 (by decide +kernel))
set_option maxRecDepth 100000 in
theorem zVL_e8 : zvlOK (6, 72, 29) := (tbi2 728 (by decide +kernel))
set_option maxRecDepth 100000 in
theorem zVL_e9 : zvlOK (6, 75, 33) := (tbi2 747 (by decide +kernel))
set_option maxRecDepth 100000 in
theorem zVL_e10 : zvlOK (6, 98, 21) := (tbi2 685 (by decide +kernel))
set_option maxRecDepth 100000 in
theorem zVL_e11 : zvlOK (6, 110, 22) := (tbi2 691 (by decide +kernel))
set_option maxRecDepth 100000 in
theorem zVL_e12 : zvlOK (6, 114, 6) := (tbi2 695 (by decide +kernel))
set_option maxRecDepth 100000 in
theorem zVL_e13 : zvlOK (6, 129, 26) := (tbi2 704 (by decide +kernel))
set_option maxRecDepth 100000 in
theorem zVL_e14 : zvlOK (6, 143, 25) := (tbi2 708 (by decide +kernel))
set_option maxRecDepth 100000 in
theorem zVL_e15 : zvlOK (6, 150, 39) := (tbi2 716 (by decide +kernel))
set_option maxRecDepth 100000 in
theorem zVL_e16 : zvlOK (6, 153, 28) := (tbi2 720 (by decide +kernel))
set_option maxRecDepth 100000 in
theorem zVL_e17 : zvlOK (6, 156, 38) := (tbi2 724 (by decide +kernel))
set_option maxRecDepth 100000 in
theorem zVL_e18 : zvlOK (6, 159, 30) := (tbi2 732 (by decide +kernel))
set_option maxRecDepth 100000 in
theorem zVL_e19 : zvlOK (6, 166, 32) := (tbi2 743 (by decide +kernel))
set_option maxRecDepth 100000 in
theorem zVL_e20 : zvlOK (6, 169, 31) := (tbi2 736 (by decide +kernel))
set_option maxRecDepth 100000 in
theorem zVL_e21 : zvlOK (6, 184, 34) := (tbi2 751 (by decide +kernel))
set_option maxRecDepth 100000 in
theorem zVL_e22 : zvlOK (7, 40, 41) := (tbi2 887 (by decide +kernel))
set_option maxRecDepth 100000 in
theorem zVL_e23 : zvlOK (7, 44, 42) := (tbi2 891 (by decide +kernel))
set_option maxRecDepth 100000 in
theorem zVL_e24 : zvlOK (8, 56, 75) := (tbi2 317 (by decide +kernel))
set_option maxRecDepth 100000 in
theorem zVL_e25 : zvlOK (8, 56, 175) := (tbi2 317 (by decide +kernel))
set_option maxRecDepth 100000 in
theorem zVL_e26 : zvlOK (8, 56, 175) := (tbi2 317 (by decide +kernel))
set_option maxRecDepth 100000 in
theorem zVL_e27 : zvlOK (8, 78, 7) := (tbi2 361 (by decide +kernel))
set_option maxRecDepth 100000 in
theorem zVL_e28 : zvlOK (8, 88, 8) := (tbi2 385 (by decide +kernel))
set_option maxRecDepth 100000 in
theorem zVL_e29 : zvlOK (8, 95, 11) := (tbi2 396 (by decide +kernel))
set_option maxRecDepth 100000 in
theorem zVL_e30 : zvlOK (8, 99, 82) := (tbi2 411 (by decide +kernel))
set_option maxRecDepth 100000 in
theorem zVL_e31 : zvlOK (8, 103, 83) := (tbi2 425 (by decide +kernel))
set_option maxRecDepth 100000 in
theorem zVL_e32 : zvlOK (8, 107, 84) := (tbi2 430 (by decide +kernel))
set_option maxRecDepth 100000 in
theorem zVL_e33 : zvlOK (8, 122, 86) := (tbi2 440 (by decide +kernel))
set_option maxRecDepth 100000 in
theorem zVL_e34 : zvlOK (8, 129, 76) := (tbi2 479 (by decide +kernel))
set_option maxRecDepth 100000 in
theorem zVL_e35 : zvlOK (8, 140, 88) := (tbi2 488 (by decide +kernel))
set_option maxRecDepth 100000 in
theorem zVL_e36 : zvlOK (8, 146, 87) := (tbi2 492 (by decide +kernel))
set_option maxRecDepth 100000 in
theorem zVL_e37 : zvlOK (8, 153, 6) := (tbi2 516 (by decide +kernel))
set_option maxRecDepth 100000 in
theorem zVL_e38 : zvlOK (8, 173, 77) := (tbi2 591 (by decide +kernel))
set_option maxRecDepth 100000 in
theorem zVL_e39 : zvlOK (8, 209, 4) := (tbi2 622 (by decide +kernel))
def zVL_p0 : zVL_T := [(0, 38, 12), (2, 21, 9), (2, 25, 7), (2, 29, 12), (6, 50, 20), (6, 54, 23), (6, 61, 24), (6, 65, 27), (6, 72, 29), (6, 75, 33), (6, 98, 21), (6, 110, 22), (6, 114, 6), (6, 129, 26), (6, 143, 25), (6, 150, 39), (6, 153, 28), (6, 156, 38), (6, 159, 30), (6, 166, 32), (6, 169, 31), (6, 184, 34), (7, 40, 41), (7, 44, 42), (8, 56, 75), (8, 56, 175), (8, 56, 175), (8, 78, 7), (8, 88, 8), (8, 95, 11), (8, 99, 82), (8, 103, 83), (8, 107, 84), (8, 122, 86), (8, 129, 76), (8, 140, 88), (8, 146, 87), (8, 153, 6), (8, 173, 77), (8, 209, 4)]
theorem zVL_q0 : ∀ q ∈ zVL_p0, zvlOK q := List.forall_mem_cons.mpr ⟨zVL_e0, List.forall_mem_cons.mpr ⟨zVL_e1, List.forall_mem_cons.mpr ⟨zVL_e2, List.forall_mem_cons.mpr ⟨zVL_e3, List.forall_mem_cons.mpr ⟨zVL_e4, List.forall_mem_cons.mpr ⟨zVL_e5, List.forall_mem_cons.mpr ⟨zVL_e6, List.forall_mem_cons.mpr ⟨zVL_e7, List.forall_mem_cons.mpr ⟨zVL_e8, List.forall_mem_cons.mpr ⟨zVL_e9, List.forall_mem_cons.mpr ⟨zVL_e10, List.forall_mem_cons.mpr ⟨zVL_e11, List.forall_mem_cons.mpr ⟨zVL_e12, List.forall_mem_cons.mpr ⟨zVL_e13, List.forall_mem_cons.mpr ⟨zVL_e14, List.forall_mem_cons.mpr ⟨zVL_e15, List.forall_mem_cons.mpr ⟨zVL_e16, List.forall_mem_cons.mpr ⟨zVL_e17, List.forall_mem_cons.mpr ⟨zVL_e18, List.forall_mem_cons.mpr ⟨zVL_e19, List.forall_mem_cons.mpr ⟨zVL_e20, List.forall_mem_cons.mpr ⟨zVL_e21, List.forall_mem_cons.mpr ⟨zVL_e22, List.forall_mem_cons.mpr ⟨zVL_e23, List.forall_mem_cons.mpr ⟨zVL_e24, List.forall_mem_cons.mpr ⟨zVL_e25, List.forall_mem_cons.mpr ⟨zVL_e26, List.forall_mem_cons.mpr ⟨zVL_e27, List.forall_mem_cons.mpr ⟨zVL_e28, List.forall_mem_cons.mpr ⟨zVL_e29, List.forall_mem_cons.mpr ⟨zVL_e30, List.forall_mem_cons.mpr ⟨zVL_e31, List.forall_mem_cons.mpr ⟨zVL_e32, List.forall_mem_cons.mpr ⟨zVL_e33, List.forall_mem_cons.mpr ⟨zVL_e34, List.forall_mem_cons.mpr ⟨zVL_e35, List.forall_mem_cons.mpr ⟨zVL_e36, List.forall_mem_cons.mpr ⟨zVL_e37, List.forall_mem_cons.mpr ⟨zVL_e38, List.forall_mem_cons.mpr ⟨zVL_e39, fun _ h => absurd h List.not_mem_nil⟩⟩⟩⟩⟩⟩⟩⟩⟩⟩⟩⟩⟩⟩⟩⟩⟩⟩⟩⟩⟩⟩⟩⟩⟩⟩⟩⟩⟩⟩⟩⟩⟩⟩⟩⟩⟩⟩⟩⟩
set_option maxRecDepth 100000 in
theorem zVL_e40 : zvlOK (8, 233, 89) := (tbi2 664 (by decide +kernel))
set_option maxRecDepth 100000 in
theorem zVL_e41 : zvlOK (8, 237, 90) := (tbi2 673 (by decide +kernel))
set_option maxRecDepth 100000 in
theorem zVL_e42 : zvlOK (8, 244, 78) := (tbi2 820 (by decide +kernel))
set_option maxRecDepth 100000 in
theorem zVL_e43 : zvlOK (8, 278, 2) := (tbi2 836 (by decide +kernel))
set_option maxRecDepth 100000 in
theorem zVL_e44 : zvlOK (8, 284, 37) := (tbi2 851 (by decide +kernel))
set_option maxRecDepth 100000 in
theorem zVL_e45 : zvlOK (8, 299, 19) := (tbi2 677 (by decide +kernel))
set_option maxRecDepth 100000 in
theorem zVL_e46 : zvlOK (8, 308, 40) := (tbi2 883 (by decide +kernel))
set_option maxRecDepth 100000 in
theorem zVL_e47 : zvlOK (8, 338, 85) := (tbi2 434 (by decide +kernel))
set_option maxRecDepth 100000 in
theorem zVL_e48 : zvlOK (8, 343, 10) := (tbi2 446 (by decide +kernel))
set_option maxRecDepth 100000 in
theorem zVL_e49 : zvlOK (8, 347, 14) := (tbi2 496 (by decide +kernel))
set_option maxRecDepth 100000 in
theorem zVL_e50 : zvlOK (8, 350, 1) := (tbi2 668 (by decide +kernel))
set_option maxRecDepth 100000 in
theorem zVL_e51 : zvlOK (8, 354, 36) := (tbi2 755 (by decide +kernel))
set_option maxRecDepth 100000 in
theorem zVL_e52 : zvlOK (8, 360, 18) := (tbi2 787 (by decide +kernel))
set_option maxRecDepth 100000 in
theorem zVL_e53 : zvlOK (9, 158, 93) := (tbi2 1086 (by decide +kernel))
set_option maxRecDepth 100000 in
theorem zVL_e54 : zvlOK (9, 163, 95) := (tbi2 1098 (by decide +kernel))
set_option maxRecDepth 100000 in
theorem zVL_e55 : zvlOK (9, 166, 97) := (tbi2 1102 (by decide +kernel))
set_option maxRecDepth 100000 in
theorem zVL_e56 : zvlOK (9, 170, 101) := (tbi2 1118 (by decide +kernel))
set_option maxRecDepth 100000 in
theorem zVL_e57 : zvlOK (9, 186, 105) := (tbi2 1133 (by decide +kernel))
set_option maxRecDepth 100000 in
theorem zVL_e58 : zvlOK (9, 189, 107) := (tbi2 1137 (by decide +kernel))
set_option maxRecDepth 100000 in
theorem zVL_e59 : zvlOK (9, 193, 108) := (tbi2 1145 (by decide +kernel))
set_option maxRecDepth 100000 in
theorem zVL_e60 : zvlOK (9, 196, 109) := (tbi2 1149 (by decide +kernel))
set_option maxRecDepth 100000 in
theorem zVL_e61 : zvlOK (9, 202, 113) := (tbi2 1169 (by decide +kernel))
set_option maxRecDepth 100000 in
theorem zVL_e62 : zvlOK (9, 205, 118) := (tbi2 1185 (by decide +kernel))
set_option maxRecDepth 100000 in
theorem zVL_e63 : zvlOK (9, 212, 122) := (tbi2 1230 (by decide +kernel))
set_option maxRecDepth 100000 in
theorem zVL_e64 : zvlOK (9, 219, 124) := (tbi2 1222 (by decide +kernel))
set_option maxRecDepth 100000 in
theorem zVL_e65 : zvlOK (9, 223, 123) := (tbi2 1226 (by decide +kernel))
set_option maxRecDepth 100000 in
theorem zVL_e66 : zvlOK (9, 227, 126) := (tbi2 1242 (by decide +kernel))
set_option maxRecDepth 100000 in
theorem zVL_e67 : zvlOK (9, 230, 127) := (tbi2 1246 (by decide +kernel))
set_option maxRecDepth 100000 in
theorem zVL_e68 : zvlOK (9, 233, 128) := (tbi2 1238 (by decide +kernel))
set_option maxRecDepth 100000 in
theorem zVL_e69 : zvlOK (9, 245, 125) := (tbi2 1218 (by decide +kernel))
set_option maxRecDepth 100000 in
theorem zVL_e70 : zvlOK (9, 248, 129) := (tbi2 1234 (by decide +kernel))
set_option maxRecDepth 100000 in
theorem zVL_e71 : zvlOK (9, 252, 130) := (tbi2 1250 (by decide +kernel))
set_option maxRecDepth 100000 in
theorem zVL_e72 : zvlOK (9, 259, 133) := (tbi2 1210 (by decide +kernel))
set_option maxRecDepth 100000 in
theorem zVL_e73 : zvlOK (9, 265, 134) := (tbi2 1206 (by decide +kernel))
set_option maxRecDepth 100000 in
theorem zVL_e74 : zvlOK (9, 268, 131) := (tbi2 1214 (by decide +kernel))
set_option maxRecDepth 100000 in
theorem zVL_e75 : zvlOK (9, 271, 135) := (tbi2 1254 (by decide +kernel))
set_option maxRecDepth 100000 in
theorem zVL_e76 : zvlOK (9, 273, 137) := (tbi2 1262 (by decide +kernel))
set_option maxRecDepth 100000 in
theorem zVL_e77 : zvlOK (9, 276, 144) := (tbi2 1294 (by decide +kernel))
set_option maxRecDepth 100000 in
theorem zVL_e78 : zvlOK (9, 279, 145) := (tbi2 1290 (by decide +kernel))
set_option maxRecDepth 100000 in
theorem zVL_e79 : zvlOK (10, 7, 44) := (tbi2 202 (by decide +kernel))
def zVL_p1 : zVL_T := [(8, 233, 89), (8, 237, 90), (8, 244, 78), (8, 278, 2), (8, 284, 37), (8, 299, 19), (8, 308, 40), (8, 338, 85), (8, 343, 10), (8, 347, 14), (8, 350, 1), (8, 354, 36), (8, 360, 18), (9, 158, 93), (9, 163, 95), (9, 166, 97), (9, 170, 101), (9, 186, 105), (9, 189, 107), (9, 193, 108), (9, 196, 109), (9, 202, 113), (9, 205, 118), (9, 212, 122), (9, 219, 124), (9, 223, 123), (9, 227, 126), (9, 230, 127), (9, 233, 128), (9, 245, 125), (9, 248, 129), (9, 252, 130), (9, 259, 133), (9, 265, 134), (9, 268, 131), (9, 271, 135), (9, 273, 137), (9, 276, 144), (9, 279, 145), (10, 7, 44)]
theorem zVL_q1 : ∀ q ∈ zVL_p1, zvlOK q := List.forall_mem_cons.mpr ⟨zVL_e40, List.forall_mem_cons.mpr ⟨zVL_e41, List.forall_mem_cons.mpr ⟨zVL_e42, List.forall_mem_cons.mpr ⟨zVL_e43, List.forall_mem_cons.mpr ⟨zVL_e44, List.forall_mem_cons.mpr ⟨zVL_e45, List.forall_mem_cons.mpr ⟨zVL_e46, List.forall_mem_cons.mpr ⟨zVL_e47, List.forall_mem_cons.mpr ⟨zVL_e48, List.forall_mem_cons.mpr ⟨zVL_e49, List.forall_mem_cons.mpr ⟨zVL_e50, List.forall_mem_cons.mpr ⟨zVL_e51, List.forall_mem_cons.mpr ⟨zVL_e52, List.forall_mem_cons.mpr ⟨zVL_e53, List.forall_mem_cons.mpr ⟨zVL_e54, List.forall_mem_cons.mpr ⟨zVL_e55, List.forall_mem_cons.mpr ⟨zVL_e56, List.forall_mem_cons.mpr ⟨zVL_e57, List.forall_mem_cons.mpr ⟨zVL_e58, List.forall_mem_cons.mpr ⟨zVL_e59, List.forall_mem_cons.mpr ⟨zVL_e60, List.forall_mem_cons.mpr ⟨zVL_e61, List.forall_mem_cons.mpr ⟨zVL_e62, List.forall_mem_cons.mpr ⟨zVL_e63, List.forall_mem_cons.mpr ⟨zVL_e64, List.forall_mem_cons.mpr ⟨zVL_e65, List.forall_mem_cons.mpr ⟨zVL_e66, List.forall_mem_cons.mpr ⟨zVL_e67, List.forall_mem_cons.mpr ⟨zVL_e68, List.forall_mem_cons.mpr ⟨zVL_e69, List.forall_mem_cons.mpr ⟨zVL_e70, List.forall_mem_cons.mpr ⟨zVL_e71, List.forall_mem_cons.mpr ⟨zVL_e72, List.forall_mem_cons.mpr ⟨zVL_e73, List.forall_mem_cons.mpr ⟨zVL_e74, List.forall_mem_cons.mpr ⟨zVL_e75, List.forall_mem_cons.mpr ⟨zVL_e76, List.forall_mem_cons.mpr ⟨zVL_e77, List.forall_mem_cons.mpr ⟨zVL_e78, List.forall_mem_cons.mpr ⟨zVL_e79, fun _ h => absurd h List.not_mem_nil⟩⟩⟩⟩⟩⟩⟩⟩⟩⟩⟩⟩⟩⟩⟩⟩⟩⟩⟩⟩⟩⟩⟩⟩⟩⟩⟩⟩⟩⟩⟩⟩⟩⟩⟩⟩⟩⟩⟩⟩
set_option maxRecDepth 100000 in
theorem zVL_e80 : zvlOK (10, 15, 45) := (tbi2 313 (by decide +kernel))
set_option maxRecDepth 100000 in
theorem zVL_e81 : zvlOK (10, 23, 46) := (tbi2 372 (by decide +kernel))
set_option maxRecDepth 100000 in
theorem zVL_e82 : zvlOK (10, 26, 47) := (tbi2 380 (by decide +kernel))
set_option maxRecDepth 100000 in
theorem zVL_e83 : zvlOK (10, 30, 48) := (tbi2 392 (by decide +kernel))
set_option maxRecDepth 100000 in
theorem zVL_e84 : zvlOK (10, 34, 49) := (tbi2 407 (by decide +kernel))
set_option maxRecDepth 100000 in
theorem zVL_e85 : zvlOK (10, 38, 50) := (tbi2 475 (by decide +kernel))
set_option maxRecDepth 100000 in
theorem zVL_e86 : zvlOK (10, 41, 51) := (tbi2 503 (by decide +kernel))
set_option maxRecDepth 100000 in
theorem zVL_e87 : zvlOK (10, 45, 52) := (tbi2 511 (by decide +kernel))
set_option maxRecDepth 100000 in
theorem zVL_e88 : zvlOK (10, 49, 53) := (tbi2 523 (by decide +kernel))
set_option maxRecDepth 100000 in
theorem zVL_e89 : zvlOK (10, 52, 54) := (tbi2 587 (by decide +kernel))
set_option maxRecDepth 100000 in
theorem zVL_e90 : zvlOK (10, 55, 55) := (tbi2 600 (by decide +kernel))
set_option maxRecDepth 100000 in
theorem zVL_e91 : zvlOK (10, 59, 56) := (tbi2 607 (by decide +kernel))
set_option maxRecDepth 100000 in
theorem zVL_e92 : zvlOK (10, 62, 57) := (tbi2 616 (by decide +kernel))
set_option maxRecDepth 100000 in
theorem zVL_e93 : zvlOK (10, 66, 58) := (tbi2 629 (by decide +kernel))
set_option maxRecDepth 100000 in
theorem zVL_e94 : zvlOK (10, 69, 59) := (tbi2 638 (by decide +kernel))
set_option maxRecDepth 100000 in
theorem zVL_e95 : zvlOK (10, 72, 60) := (tbi2 645 (by decide +kernel))
set_option maxRecDepth 100000 in
theorem zVL_e96 : zvlOK (10, 75, 61) := (tbi2 659 (by decide +kernel))
set_option maxRecDepth 100000 in
theorem zVL_e97 : zvlOK (10, 78, 62) := (tbi2 816 (by decide +kernel))
set_option maxRecDepth 100000 in
theorem zVL_e98 : zvlOK (10, 82, 63) := (tbi2 832 (by decide +kernel))
set_option maxRecDepth 100000 in
theorem zVL_e99 : zvlOK (10, 85, 64) := (tbi2 843 (by decide +kernel))
set_option maxRecDepth 100000 in
theorem zVL_e100 : zvlOK (10, 88, 65) := (tbi2 858 (by decide +kernel))
set_option maxRecDepth 100000 in
theorem zVL_e101 : zvlOK (10, 91, 66) := (tbi2 865 (by decide +kernel))
set_option maxRecDepth 100000 in
theorem zVL_e102 : zvlOK (10, 94, 67) := (tbi2 872 (by decide +kernel))
set_option maxRecDepth 100000 in
theorem zVL_e103 : zvlOK (10, 97, 68) := (tbi2 879 (by decide +kernel))
set_option maxRecDepth 100000 in
theorem zVL_e104 : zvlOK (10, 100, 69) := (tbi2 898 (by decide +kernel))
set_option maxRecDepth 100000 in
theorem zVL_e105 : zvlOK (10, 112, 96) := (tbi2 1082 (by decide +kernel))
set_option maxRecDepth 100000 in
theorem zVL_e106 : zvlOK (10, 113, 92) := (tbi2 1078 (by decide +kernel))
set_option maxRecDepth 100000 in
theorem zVL_e107 : zvlOK (10, 119, 98) := (tbi2 1090 (by decide +kernel))
set_option maxRecDepth 100000 in
theorem zVL_e108 : zvlOK (10, 122, 99) := (tbi2 1106 (by decide +kernel))
set_option maxRecDepth 100000 in
theorem zVL_e109 : zvlOK (10, 126, 100) := (tbi2 1110 (by decide +kernel))
set_option maxRecDepth 100000 in
theorem zVL_e110 : zvlOK (10, 130, 102) := (tbi2 1114 (by decide +kernel))
set_option maxRecDepth 100000 in
theorem zVL_e111 : zvlOK (10, 136, 106) := (tbi2 1122 (by decide +kernel))
set_option maxRecDepth 100000 in
theorem zVL_e112 : zvlOK (10, 139, 110) := (tbi2 1141 (by decide +kernel))
set_option maxRecDepth 100000 in
theorem zVL_e113 : zvlOK (10, 143, 111) := (tbi2 1153 (by decide +kernel))
set_option maxRecDepth 100000 in
theorem zVL_e114 : zvlOK (10, 147, 112) := (tbi2 1157 (by decide +kernel))
set_option maxRecDepth 100000 in
theorem zVL_e115 : zvlOK (10, 150, 114) := (tbi2 1161 (by decide +kernel))
set_option maxRecDepth 100000 in
theorem zVL_e116 : zvlOK (10, 153, 115) := (tbi2 1165 (by decide +kernel))
set_option maxRecDepth 100000 in
theorem zVL_e117 : zvlOK (10, 157, 116) := (tbi2 1173 (by decide +kernel))
set_option maxRecDepth 100000 in
theorem zVL_e118 : zvlOK (10, 160, 117) := (tbi2 1177 (by decide +kernel))
set_option maxRecDepth 100000 in
theorem zVL_e119 : zvlOK (10, 164, 119) := (tbi2 1181 (by decide +kernel))
def zVL_p2 : zVL_T := [(10, 15, 45), (10, 23, 46), (10, 26, 47), (10, 30, 48), (10, 34, 49), (10, 38, 50), (10, 41, 51), (10, 45, 52), (10, 49, 53), (10, 52, 54), (10, 55, 55), (10, 59, 56), (10, 62, 57), (10, 66, 58), (10, 69, 59), (10, 72, 60), (10, 75, 61), (10, 78, 62), (10, 82, 63), (10, 85, 64), (10, 88, 65), (10, 91, 66), (10, 94, 67), (10, 97, 68), (10, 100, 69), (10, 112, 96), (10, 113, 92), (10, 119, 98), (10, 122, 99), (10, 126, 100), (10, 130, 102), (10, 136, 106), (10, 139, 110), (10, 143, 111), (10, 147, 112), (10, 150, 114), (10, 153, 115), (10, 157, 116), (10, 160, 117), (10, 164, 119)]
theorem zVL_q2 : ∀ q ∈ zVL_p2, zvlOK q := List.forall_mem_cons.mpr ⟨zVL_e80, List.forall_mem_cons.mpr ⟨zVL_e81, List.forall_mem_cons.mpr ⟨zVL_e82, List.forall_mem_cons.mpr ⟨zVL_e83, List.forall_mem_cons.mpr ⟨zVL_e84, List.forall_mem_cons.mpr ⟨zVL_e85, List.forall_mem_cons.mpr ⟨zVL_e86, List.forall_mem_cons.mpr ⟨zVL_e87, List.forall_mem_cons.mpr ⟨zVL_e88, List.forall_mem_cons.mpr ⟨zVL_e89, List.forall_mem_cons.mpr ⟨zVL_e90, List.forall_mem_cons.mpr ⟨zVL_e91, List.forall_mem_cons.mpr ⟨zVL_e92, List.forall_mem_cons.mpr ⟨zVL_e93, List.forall_mem_cons.mpr ⟨zVL_e94, List.forall_mem_cons.mpr ⟨zVL_e95, List.forall_mem_cons.mpr ⟨zVL_e96, List.forall_mem_cons.mpr ⟨zVL_e97, List.forall_mem_cons.mpr ⟨zVL_e98, List.forall_mem_cons.mpr ⟨zVL_e99, List.forall_mem_cons.mpr ⟨zVL_e100, List.forall_mem_cons.mpr ⟨zVL_e101, List.forall_mem_cons.mpr ⟨zVL_e102, List.forall_mem_cons.mpr ⟨zVL_e103, List.forall_mem_cons.mpr ⟨zVL_e104, List.forall_mem_cons.mpr ⟨zVL_e105, List.forall_mem_cons.mpr ⟨zVL_e106, List.forall_mem_cons.mpr ⟨zVL_e107, List.forall_mem_cons.mpr ⟨zVL_e108, List.forall_mem_cons.mpr ⟨zVL_e109, List.forall_mem_cons.mpr ⟨zVL_e110, List.forall_mem_cons.mpr ⟨zVL_e111, List.forall_mem_cons.mpr ⟨zVL_e112, List.forall_mem_cons.mpr ⟨zVL_e113, List.forall_mem_cons.mpr ⟨zVL_e114, List.forall_mem_cons.mpr ⟨zVL_e115, List.forall_mem_cons.mpr ⟨zVL_e116, List.forall_mem_cons.mpr ⟨zVL_e117, List.forall_mem_cons.mpr ⟨zVL_e118, List.forall_mem_cons.mpr ⟨zVL_e119, fun _ h => absurd h List.not_mem_nil⟩⟩⟩⟩⟩⟩⟩⟩⟩⟩⟩⟩⟩⟩⟩⟩⟩⟩⟩⟩⟩⟩⟩⟩⟩⟩⟩⟩⟩⟩⟩⟩⟩⟩⟩⟩⟩⟩⟩⟩
set_option maxRecDepth 100000 in
theorem zVL_e120 : zvlOK (10, 167, 120) := (tbi2 1189 (by decide +kernel))
set_option maxRecDepth 100000 in
theorem zVL_e121 : zvlOK (10, 170, 121) := (tbi2 1193 (by decide +kernel))
set_option maxRecDepth 100000 in
theorem zVL_e122 : zvlOK (10, 173, 132) := (tbi2 1197 (by decide +kernel))
set_option maxRecDepth 100000 in
theorem zVL_e123 : zvlOK (10, 176, 136) := (tbi2 1202 (by decide +kernel))
set_option maxRecDepth 100000 in
theorem zVL_e124 : zvlOK (10, 180, 138) := (tbi2 1258 (by decide +kernel))
set_option maxRecDepth 100000 in
theorem zVL_e125 : zvlOK (10, 183, 139) := (tbi2 1266 (by decide +kernel))
set_option maxRecDepth 100000 in
theorem zVL_e126 : zvlOK (10, 186, 140) := (tbi2 1270 (by decide +kernel))
set_option maxRecDepth 100000 in
theorem zVL_e127 : zvlOK (10, 189, 141) := (tbi2 1274 (by decide +kernel))
set_option maxRecDepth 100000 in
theorem zVL_e128 : zvlOK (10, 192, 142) := (tbi2 1278 (by decide +kernel))
set_option maxRecDepth 100000 in
theorem zVL_e129 : zvlOK (10, 195, 143) := (tbi2 1282 (by decide +kernel))
set_option maxRecDepth 100000 in
theorem zVL_e130 : zvlOK (10, 198, 146) := (tbi2 1286 (by decide +kernel))
set_option maxRecDepth 100000 in
theorem zVL_e131 : zvlOK (10, 201, 147) := (tbi2 1298 (by decide +kernel))
def zVL_p3 : zVL_T := [(10, 167, 120), (10, 170, 121), (10, 173, 132), (10, 176, 136), (10, 180, 138), (10, 183, 139), (10, 186, 140), (10, 189, 141), (10, 192, 142), (10, 195, 143), (10, 198, 146), (10, 201, 147)]
theorem zVL_q3 : ∀ q ∈ zVL_p3, zvlOK q := List.forall_mem_cons.mpr ⟨zVL_e120, List.forall_mem_cons.mpr ⟨zVL_e121, List.forall_mem_cons.mpr ⟨zVL_e122, List.forall_mem_cons.mpr ⟨zVL_e123, List.forall_mem_cons.mpr ⟨zVL_e124, List.forall_mem_cons.mpr ⟨zVL_e125, List.forall_mem_cons.mpr ⟨zVL_e126, List.forall_mem_cons.mpr ⟨zVL_e127, List.forall_mem_cons.mpr ⟨zVL_e128, List.forall_mem_cons.mpr ⟨zVL_e129, List.forall_mem_cons.mpr ⟨zVL_e130, List.forall_mem_cons.mpr ⟨zVL_e131, fun _ h => absurd h List.not_mem_nil⟩⟩⟩⟩⟩⟩⟩⟩⟩⟩⟩⟩
def zVLA : zVL_T := zVL_p0 ++ (zVL_p1 ++ (zVL_p2 ++ (zVL_p3)))
theorem zVL_all : ∀ q ∈ zVLA, zvlOK q := List.forall_mem_append.mpr ⟨zVL_q0, List.forall_mem_append.mpr ⟨zVL_q1, List.forall_mem_append.mpr ⟨zVL_q2, zVL_q3⟩⟩⟩
def zsOK (f : Nat) : Prop := Jvm.Cond.static (zyn zZ f) ∈ zTB ∧ (parseMethodDescriptor (zyn zZ f).desc).map (fun d => d.parameters.length) = some (zna zPr f)
abbrev zSM_T : Type := List (Nat)
set_option maxRecDepth 100000 in
theorem zSM_e0 : zsOK 70 := ⟨(tbi2 322 (by decide +kernel)), by decide +kernel⟩
set_option maxRecDepth 100000 in
theorem zSM_e1 : zsOK 71 := ⟨(tbi2 358 (by decide +kernel)), by decide +kernel⟩
set_option maxRecDepth 100000 in
theorem zSM_e2 : zsOK 72 := ⟨(tbi2 485 (by decide +kernel)), by decide +kernel⟩
set_option maxRecDepth 100000 in
theorem zSM_e3 : zsOK 73 := ⟨(tbi2 650 (by decide +kernel)), by decide +kernel⟩
set_option maxRecDepth 100000 in
theorem zSM_e4 : zsOK 74 := ⟨(tbi2 848 (by decide +kernel)), by decide +kernel⟩
set_option maxRecDepth 100000 in
theorem zSM_e5 : zsOK 79 := ⟨(tbi2 422 (by decide +kernel)), by decide +kernel⟩
set_option maxRecDepth 100000 in
theorem zSM_e6 : zsOK 80 := ⟨(tbi2 419 (by decide +kernel)), by decide +kernel⟩
set_option maxRecDepth 100000 in
theorem zSM_e7 : zsOK 81 := ⟨(tbi2 416 (by decide +kernel)), by decide +kernel⟩
set_option maxRecDepth 100000 in
theorem zSM_e8 : zsOK 94 := ⟨(tbi2 1095 (by decide +kernel)), by decide +kernel⟩
set_option maxRecDepth 100000 in
theorem zSM_e9 : zsOK 103 := ⟨(tbi2 1130 (by decide +kernel)), by decide +kernel⟩
set_option maxRecDepth 100000 in
theorem zSM_e10 : zsOK 104 := ⟨(tbi2 1127 (by decide +kernel)), by decide +kernel⟩
set_option maxRecDepth 100000 in
theorem zSM_e11 : zsOK 148 := ⟨(tbi2 199 (by decide +kernel)), by decide +kernel⟩
set_option maxRecDepth 100000 in
theorem zSM_e12 : zsOK 149 := ⟨(tbi2 309 (by decide +kernel)), by decide +kernel⟩
set_option maxRecDepth 100000 in
theorem zSM_e13 : zsOK 150 := ⟨(tbi2 370 (by decide +kernel)), by decide +kernel⟩
set_option maxRecDepth 100000 in
theorem zSM_e14 : zsOK 151 := ⟨(tbi2 378 (by decide +kernel)), by decide +kernel⟩
set_option maxRecDepth 100000 in
theorem zSM_e15 : zsOK 152 := ⟨(tbi2 390 (by decide +kernel)), by decide +kernel⟩
set_option maxRecDepth 100000 in
theorem zSM_e16 : zsOK 153 := ⟨(tbi2 405 (by decide +kernel)), by decide +kernel⟩
set_option maxRecDepth 100000 in
theorem zSM_e17 : zsOK 154 := ⟨(tbi2 473 (by decide +kernel)), by decide +kernel⟩
set_option maxRecDepth 100000 in
theorem zSM_e18 : zsOK 155 := ⟨(tbi2 501 (by decide +kernel)), by decide +kernel⟩
set_option maxRecDepth 100000 in
theorem zSM_e19 : zsOK 156 := ⟨(tbi2 509 (by decide +kernel)), by decide +kernel⟩
set_option maxRecDepth 100000 in
theorem zSM_e20 : zsOK 157 := ⟨(tbi2 521 (by decide +kernel)), by decide +kernel⟩
set_option maxRecDepth 100000 in
theorem zSM_e21 : zsOK 158 := ⟨(tbi2 585 (by decide +kernel)), by decide +kernel⟩
set_option maxRecDepth 100000 in
theorem zSM_e22 : zsOK 159 := ⟨(tbi2 598 (by decide +kernel)), by decide +kernel⟩
set_option maxRecDepth 100000 in
theorem zSM_e23 : zsOK 160 := ⟨(tbi2 605 (by decide +kernel)), by decide +kernel⟩
set_option maxRecDepth 100000 in
theorem zSM_e24 : zsOK 161 := ⟨(tbi2 614 (by decide +kernel)), by decide +kernel⟩
set_option maxRecDepth 100000 in
theorem zSM_e25 : zsOK 162 := ⟨(tbi2 627 (by decide +kernel)), by decide +kernel⟩
set_option maxRecDepth 100000 in
theorem zSM_e26 : zsOK 163 := ⟨(tbi2 636 (by decide +kernel)), by decide +kernel⟩
set_option maxRecDepth 100000 in
theorem zSM_e27 : zsOK 164 := ⟨(tbi2 643 (by decide +kernel)), by decide +kernel⟩
set_option maxRecDepth 100000 in
theorem zSM_e28 : zsOK 165 := ⟨(tbi2 657 (by decide +kernel)), by decide +kernel⟩
set_option maxRecDepth 100000 in
theorem zSM_e29 : zsOK 166 := ⟨(tbi2 814 (by decide +kernel)), by decide +kernel⟩
set_option maxRecDepth 100000 in
theorem zSM_e30 : zsOK 167 := ⟨(tbi2 830 (by decide +kernel)), by decide +kernel⟩
set_option maxRecDepth 100000 in
theorem zSM_e31 : zsOK 168 := ⟨(tbi2 841 (by decide +kernel)), by decide +kernel⟩
set_option maxRecDepth 100000 in
theorem zSM_e32 : zsOK 169 := ⟨(tbi2 856 (by decide +kernel)), by decide +kernel⟩
set_option maxRecDepth 100000 in
theorem zSM_e33 : zsOK 170 := ⟨(tbi2 863 (by decide +kernel)), by decide +kernel⟩
set_option maxRecDepth 100000 in
theorem zSM_e34 : zsOK 171 := ⟨(tbi2 870 (by decide +kernel)), by decide +kernel⟩
set_option maxRecDepth 100000 in
theorem zSM_e35 : zsOK 172 := ⟨(tbi2 877 (by decide +kernel)), by decide +kernel⟩
set_option maxRecDepth 100000 in
theorem zSM_e36 : zsOK 173 := ⟨(tbi2 896 (by decide +kernel)), by decide +kernel⟩
def zSM_p0 : zSM_T := [70, 71, 72, 73, 74, 79, 80, 81, 94, 103, 104, 148, 149, 150, 151, 152, 153, 154, 155, 156, 157, 158, 159, 160, 161, 162, 163, 164, 165, 166, 167, 168, 169, 170, 171, 172, 173]
theorem zSM_q0 : ∀ q ∈ zSM_p0, zsOK q := List.forall_mem_cons.mpr ⟨zSM_e0, List.forall_mem_cons.mpr ⟨zSM_e1, List.forall_mem_cons.mpr ⟨zSM_e2, List.forall_mem_cons.mpr ⟨zSM_e3, List.forall_mem_cons.mpr ⟨zSM_e4, List.forall_mem_cons.mpr ⟨zSM_e5, List.forall_mem_cons.mpr ⟨zSM_e6, List.forall_mem_cons.mpr ⟨zSM_e7, List.forall_mem_cons.mpr ⟨zSM_e8, List.forall_mem_cons.mpr ⟨zSM_e9, List.forall_mem_cons.mpr ⟨zSM_e10, List.forall_mem_cons.mpr ⟨zSM_e11, List.forall_mem_cons.mpr ⟨zSM_e12, List.forall_mem_cons.mpr ⟨zSM_e13, List.forall_mem_cons.mpr ⟨zSM_e14, List.forall_mem_cons.mpr ⟨zSM_e15, List.forall_mem_cons.mpr ⟨zSM_e16, List.forall_mem_cons.mpr ⟨zSM_e17, List.forall_mem_cons.mpr ⟨zSM_e18, List.forall_mem_cons.mpr ⟨zSM_e19, List.forall_mem_cons.mpr ⟨zSM_e20, List.forall_mem_cons.mpr ⟨zSM_e21, List.forall_mem_cons.mpr ⟨zSM_e22, List.forall_mem_cons.mpr ⟨zSM_e23, List.forall_mem_cons.mpr ⟨zSM_e24, List.forall_mem_cons.mpr ⟨zSM_e25, List.forall_mem_cons.mpr ⟨zSM_e26, List.forall_mem_cons.mpr ⟨zSM_e27, List.forall_mem_cons.mpr ⟨zSM_e28, List.forall_mem_cons.mpr ⟨zSM_e29, List.forall_mem_cons.mpr ⟨zSM_e30, List.forall_mem_cons.mpr ⟨zSM_e31, List.forall_mem_cons.mpr ⟨zSM_e32, List.forall_mem_cons.mpr ⟨zSM_e33, List.forall_mem_cons.mpr ⟨zSM_e34, List.forall_mem_cons.mpr ⟨zSM_e35, List.forall_mem_cons.mpr ⟨zSM_e36, fun _ h => absurd h List.not_mem_nil⟩⟩⟩⟩⟩⟩⟩⟩⟩⟩⟩⟩⟩⟩⟩⟩⟩⟩⟩⟩⟩⟩⟩⟩⟩⟩⟩⟩⟩⟩⟩⟩⟩⟩⟩⟩⟩
def zSMA : zSM_T := zSM_p0
theorem zSM_all : ∀ q ∈ zSMA, zsOK q := zSM_q0
abbrev zSL_T : Type := List (Nat × Nat × Nat)
set_option maxRecDepth 100000 in
theorem zSL_e0 : zvlOK (8, 60, 70) := (tbi2 321 (by decide +kernel))
set_option maxRecDepth 100000 in
theorem zSL_e1 : zvlOK (8, 70, 71) := (tbi2 357 (by decide +kernel))
set_option maxRecDepth 100000 in
theorem zSL_e2 : zvlOK (8, 133, 72) := (tbi2 484 (by decide +kernel))
set_option maxRecDepth 100000 in
theorem zSL_e3 : zvlOK (8, 198, 81) := (tbi2 415 (by decide +kernel))
set_option maxRecDepth 100000 in
theorem zSL_e4 : zvlOK (8, 220, 73) := (tbi2 649 (by decide +kernel))
set_option maxRecDepth 100000 in
theorem zSL_e5 : zvlOK (8, 281, 74) := (tbi2 847 (by decide +kernel))
set_option maxRecDepth 100000 in
theorem zSL_e6 : zvlOK (8, 328, 79) := (tbi2 421 (by decide +kernel))
set_option maxRecDepth 100000 in
theorem zSL_e7 : zvlOK (8, 331, 80) := (tbi2 418 (by decide +kernel))
set_option maxRecDepth 100000 in
theorem zSL_e8 : zvlOK (9, 154, 94) := (tbi2 1094 (by decide +kernel))
set_option maxRecDepth 100000 in
theorem zSL_e9 : zvlOK (9, 176, 103) := (tbi2 1129 (by decide +kernel))
set_option maxRecDepth 100000 in
theorem zSL_e10 : zvlOK (9, 183, 104) := (tbi2 1126 (by decide +kernel))
set_option maxRecDepth 100000 in
theorem zSL_e11 : zvlOK (10, 107, 148) := (tbi2 198 (by decide +kernel))
set_option maxRecDepth 100000 in
theorem zSL_e12 : zvlOK (10, 116, 149) := (tbi2 308 (by decide +kernel))
set_option maxRecDepth 100000 in
theorem zSL_e13 : zvlOK (10, 120, 150) := (tbi2 369 (by decide +kernel))
set_option maxRecDepth 100000 in
theorem zSL_e14 : zvlOK (10, 123, 151) := (tbi2 377 (by decide +kernel))
set_option maxRecDepth 100000 in
theorem zSL_e15 : zvlOK (10, 127, 152) := (tbi2 389 (by decide +kernel))
set_option maxRecDepth 100000 in
theorem zSL_e16 : zvlOK (10, 133, 153) := (tbi2 404 (by decide +kernel))
set_option maxRecDepth 100000 in
theorem zSL_e17 : zvlOK (10, 137, 154) := (tbi2 472 (by decide +kernel))
set_option maxRecDepth 100000 in
theorem zSL_e18 : zvlOK (10, 140, 155) := (tbi2 500 (by decide +kernel))
set_option maxRecDepth 100000 in
theorem zSL_e19 : zvlOK (10, 144, 156) := (tbi2 508 (by decide +kernel))
set_option maxRecDepth 100000 in
theorem zSL_e20 : zvlOK (10, 148, 157) := (tbi2 520 (by decide +kernel))
set_option maxRecDepth 100000 in
theorem zSL_e21 : zvlOK (10, 151, 158) := (tbi2 584 (by decide +kernel))
set_option maxRecDepth 100000 in
theorem zSL_e22 : zvlOK (10, 154, 159) := (tbi2 597 (by decide +kernel))
set_option maxRecDepth 100000 in
theorem zSL_e23 : zvlOK (10, 158, 160) := (tbi2 604 (by decide +kernel))
set_option maxRecDepth 100000 in
theorem zSL_e24 : zvlOK (10, 161, 161) := (tbi2 613 (by decide +kernel))
set_option maxRecDepth 100000 in
theorem zSL_e25 : zvlOK (10, 165, 162) := (tbi2 626 (by decide +kernel))
set_option maxRecDepth 100000 in
theorem zSL_e26 : zvlOK (10, 168, 163) := (tbi2 635 (by decide +kernel))
set_option maxRecDepth 100000 in
theorem zSL_e27 : zvlOK (10, 171, 164) := (tbi2 642 (by decide +kernel))
set_option maxRecDepth 100000 in
theorem zSL_e28 : zvlOK (10, 174, 165) := (tbi2 656 (by decide +kernel))
set_option maxRecDepth 100000 in
theorem zSL_e29 : zvlOK (10, 177, 166) := (tbi2 813 (by decide +kernel))
set_option maxRecDepth 100000 in
theorem zSL_e30 : zvlOK (10, 181, 167) := (tbi2 829 (by decide +kernel))
set_option maxRecDepth 100000 in
theorem zSL_e31 : zvlOK (10, 184, 168) := (tbi2 840 (by decide +kernel))
set_option maxRecDepth 100000 in
theorem zSL_e32 : zvlOK (10, 187, 169) := (tbi2 855 (by decide +kernel))
set_option maxRecDepth 100000 in
theorem zSL_e33 : zvlOK (10, 190, 170) := (tbi2 862 (by decide +kernel))
set_option maxRecDepth 100000 in
theorem zSL_e34 : zvlOK (10, 193, 171) := (tbi2 869 (by decide +kernel))
set_option maxRecDepth 100000 in
theorem zSL_e35 : zvlOK (10, 196, 172) := (tbi2 876 (by decide +kernel))
set_option maxRecDepth 100000 in
theorem zSL_e36 : zvlOK (10, 199, 173) := (tbi2 895 (by decide +kernel))
def zSL_p0 : zSL_T := [(8, 60, 70), (8, 70, 71), (8, 133, 72), (8, 198, 81), (8, 220, 73), (8, 281, 74), (8, 328, 79), (8, 331, 80), (9, 154, 94), (9, 176, 103), (9, 183, 104), (10, 107, 148), (10, 116, 149), (10, 120, 150), (10, 123, 151), (10, 127, 152), (10, 133, 153), (10, 137, 154), (10, 140, 155), (10, 144, 156), (10, 148, 157), (10, 151, 158), (10, 154, 159), (10, 158, 160), (10, 161, 161), (10, 165, 162), (10, 168, 163), (10, 171, 164), (10, 174, 165), (10, 177, 166), (10, 181, 167), (10, 184, 168), (10, 187, 169), (10, 190, 170), (10, 193, 171), (10, 196, 172), (10, 199, 173)]
theorem zSL_q0 : ∀ q ∈ zSL_p0, zvlOK q := List.forall_mem_cons.mpr ⟨zSL_e0, List.forall_mem_cons.mpr ⟨zSL_e1, List.forall_mem_cons.mpr ⟨zSL_e2, List.forall_mem_cons.mpr ⟨zSL_e3, List.forall_mem_cons.mpr ⟨zSL_e4, List.forall_mem_cons.mpr ⟨zSL_e5, List.forall_mem_cons.mpr ⟨zSL_e6, List.forall_mem_cons.mpr ⟨zSL_e7, List.forall_mem_cons.mpr ⟨zSL_e8, List.forall_mem_cons.mpr ⟨zSL_e9, List.forall_mem_cons.mpr ⟨zSL_e10, List.forall_mem_cons.mpr ⟨zSL_e11, List.forall_mem_cons.mpr ⟨zSL_e12, List.forall_mem_cons.mpr ⟨zSL_e13, List.forall_mem_cons.mpr ⟨zSL_e14, List.forall_mem_cons.mpr ⟨zSL_e15, List.forall_mem_cons.mpr ⟨zSL_e16, List.forall_mem_cons.mpr ⟨zSL_e17, List.forall_mem_cons.mpr ⟨zSL_e18, List.forall_mem_cons.mpr ⟨zSL_e19, List.forall_mem_cons.mpr ⟨zSL_e20, List.forall_mem_cons.mpr ⟨zSL_e21, List.forall_mem_cons.mpr ⟨zSL_e22, List.forall_mem_cons.mpr ⟨zSL_e23, List.forall_mem_cons.mpr ⟨zSL_e24, List.forall_mem_cons.mpr ⟨zSL_e25, List.forall_mem_cons.mpr ⟨zSL_e26, List.forall_mem_cons.mpr ⟨zSL_e27, List.forall_mem_cons.mpr ⟨zSL_e28, List.forall_mem_cons.mpr ⟨zSL_e29, List.forall_mem_cons.mpr ⟨zSL_e30, List.forall_mem_cons.mpr ⟨zSL_e31, List.forall_mem_cons.mpr ⟨zSL_e32, List.forall_mem_cons.mpr ⟨zSL_e33, List.forall_mem_cons.mpr ⟨zSL_e34, List.forall_mem_cons.mpr ⟨zSL_e35, List.forall_mem_cons.mpr ⟨zSL_e36, fun _ h => absurd h List.not_mem_nil⟩⟩⟩⟩⟩⟩⟩⟩⟩⟩⟩⟩⟩⟩⟩⟩⟩⟩⟩⟩⟩⟩⟩⟩⟩⟩⟩⟩⟩⟩⟩⟩⟩⟩⟩⟩⟩
def zSLA : zSL_T := zSL_p0
theorem zSL_all : ∀ q ∈ zSLA, zvlOK q := zSL_q0
def ziOK (f : Nat) : Prop := zhh zZ f = [] ∧ zret zZ f = none ∧ (zyn zZ f).name = "<init>" ∧ Jvm.Cond.instanceMethod (zyn zZ f) ∈ zTB ∧ 1 ≤ zrc zPr f ∧ (parseMethodDescriptor (zyn zZ f).desc).map (fun d => d.parameters.length + 1) = some (zna zPr f)
abbrev zIC_T : Type := List (Nat)
set_option maxRecDepth 100000 in
theorem zIC_e0 : ziOK 0 := ⟨rfl, rfl, rfl, (tbi2 792 (by decide +kernel)), by decide, by decide +kernel⟩
set_option maxRecDepth 100000 in
theorem zIC_e1 : ziOK 3 := ⟨rfl, rfl, rfl, (tbi2 531 (by decide +kernel)), by decide, by decide +kernel⟩
set_option maxRecDepth 100000 in
theorem zIC_e2 : ziOK 5 := ⟨rfl, rfl, rfl, (tbi2 282 (by decide +kernel)), by decide, by decide +kernel⟩
set_option maxRecDepth 100000 in
theorem zIC_e3 : ziOK 13 := ⟨rfl, rfl, rfl, (tbi2 452 (by decide +kernel)), by decide, by decide +kernel⟩
set_option maxRecDepth 100000 in
theorem zIC_e4 : ziOK 15 := ⟨rfl, rfl, rfl, (tbi2 761 (by decide +kernel)), by decide, by decide +kernel⟩
set_option maxRecDepth 100000 in
theorem zIC_e5 : ziOK 16 := ⟨rfl, rfl, rfl, (tbi2 276 (by decide +kernel)), by decide, by decide +kernel⟩
set_option maxRecDepth 100000 in
theorem zIC_e6 : ziOK 17 := ⟨rfl, rfl, rfl, (tbi2 77 (by decide +kernel)), by decide, by decide +kernel⟩
set_option maxRecDepth 100000 in
theorem zIC_e7 : ziOK 35 := ⟨rfl, rfl, rfl, (tbi2 83 (by decide +kernel)), by decide, by decide +kernel⟩
set_option maxRecDepth 100000 in
theorem zIC_e8 : ziOK 43 := ⟨rfl, rfl, rfl, (tbi2 61 (by decide +kernel)), by decide, by decide +kernel⟩
set_option maxRecDepth 100000 in
theorem zIC_e9 : ziOK 91 := ⟨rfl, rfl, rfl, (tbi2 905 (by decide +kernel)), by decide, by decide +kernel⟩
def zIC_p0 : zIC_T := [0, 3, 5, 13, 15, 16, 17, 35, 43, 91]
theorem zIC_q0 : ∀ q ∈ zIC_p0, ziOK q := List.forall_mem_cons.mpr ⟨zIC_e0, List.forall_mem_cons.mpr ⟨zIC_e1, List.forall_mem_cons.mpr ⟨zIC_e2, List.forall_mem_cons.mpr ⟨zIC_e3, List.forall_mem_cons.mpr ⟨zIC_e4, List.forall_mem_cons.mpr ⟨zIC_e5, List.forall_mem_cons.mpr ⟨zIC_e6, List.forall_mem_cons.mpr ⟨zIC_e7, List.forall_mem_cons.mpr ⟨zIC_e8, List.forall_mem_cons.mpr ⟨zIC_e9, fun _ h => absurd h List.not_mem_nil⟩⟩⟩⟩⟩⟩⟩⟩⟩⟩
def zICA : zIC_T := zIC_p0
theorem zIC_all : ∀ q ∈ zICA, ziOK q := zIC_q0
abbrev zIL_T : Type := List (Nat × Nat × Nat)
set_option maxRecDepth 100000 in
theorem zIL_e0 : zvlOK (8, 126, 13) := (tbi2 451 (by decide +kernel))
set_option maxRecDepth 100000 in
theorem zIL_e1 : zvlOK (8, 170, 3) := (tbi2 530 (by decide +kernel))
set_option maxRecDepth 100000 in
theorem zIL_e2 : zvlOK (8, 241, 15) := (tbi2 760 (by decide +kernel))
set_option maxRecDepth 100000 in
theorem zIL_e3 : zvlOK (8, 364, 0) := (tbi2 791 (by decide +kernel))
set_option maxRecDepth 100000 in
theorem zIL_e4 : zvlOK (10, 103, 43) := (tbi2 60 (by decide +kernel))
set_option maxRecDepth 100000 in
theorem zIL_e5 : zvlOK (10, 106, 91) := (tbi2 904 (by decide +kernel))
def zIL_p0 : zIL_T := [(8, 126, 13), (8, 170, 3), (8, 241, 15), (8, 364, 0), (10, 103, 43), (10, 106, 91)]
theorem zIL_q0 : ∀ q ∈ zIL_p0, zvlOK q := List.forall_mem_cons.mpr ⟨zIL_e0, List.forall_mem_cons.mpr ⟨zIL_e1, List.forall_mem_cons.mpr ⟨zIL_e2, List.forall_mem_cons.mpr ⟨zIL_e3, List.forall_mem_cons.mpr ⟨zIL_e4, List.forall_mem_cons.mpr ⟨zIL_e5, fun _ h => absurd h List.not_mem_nil⟩⟩⟩⟩⟩⟩
def zILA : zIL_T := zIL_p0
theorem zIL_all : ∀ q ∈ zILA, zvlOK q := zIL_q0
def znlOK (q : Nat × Nat × Nat) : Prop := ∃ ho, (zcnm q.1, q.2.1, zyn zZ q.2.2, ho) ∈ zNST
abbrev zNL_T : Type := List (Nat × Nat × Nat)
set_option maxRecDepth 100000 in
theorem zNL_e0 : znlOK (6, 102, 80) := ⟨RX8, List.mem_of_getElem? (i := 0) rfl⟩
set_option maxRecDepth 100000 in
theorem zNL_e1 : znlOK (6, 106, 79) := ⟨RX8, List.mem_of_getElem? (i := 1) rfl⟩
set_option maxRecDepth 100000 in
theorem zNL_e2 : znlOK (5, 11, 5) := ⟨RX8, List.mem_of_getElem? (i := 2) rfl⟩
set_option maxRecDepth 100000 in
theorem zNL_e3 : znlOK (6, 11, 35) := ⟨RX8, List.mem_of_getElem? (i := 3) rfl⟩
set_option maxRecDepth 100000 in
theorem zNL_e4 : znlOK (8, 39, 17) := ⟨RX8, List.mem_of_getElem? (i := 4) rfl⟩
set_option maxRecDepth 100000 in
theorem zNL_e5 : znlOK (8, 55, 16) := ⟨RX8, List.mem_of_getElem? (i := 5) rfl⟩
set_option maxRecDepth 100000 in
theorem zNL_e6 : znlOK (8, 342, 5) := ⟨RX8, List.mem_of_getElem? (i := 6) rfl⟩
def zNL_p0 : zNL_T := [(6, 102, 80), (6, 106, 79), (5, 11, 5), (6, 11, 35), (8, 39, 17), (8, 55, 16), (8, 342, 5)]
theorem zNL_q0 : ∀ q ∈ zNL_p0, znlOK q := List.forall_mem_cons.mpr ⟨zNL_e0, List.forall_mem_cons.mpr ⟨zNL_e1, List.forall_mem_cons.mpr ⟨zNL_e2, List.forall_mem_cons.mpr ⟨zNL_e3, List.forall_mem_cons.mpr ⟨zNL_e4, List.forall_mem_cons.mpr ⟨zNL_e5, List.forall_mem_cons.mpr ⟨zNL_e6, fun _ h => absurd h List.not_mem_nil⟩⟩⟩⟩⟩⟩⟩
def zNLA : zNL_T := zNL_p0
theorem zNL_all : ∀ q ∈ zNLA, znlOK q := zNL_q0
def znwOK (q : Nat × Nat × Nat × Nat) : Prop := ∃ r : vw_C, vwCl[q.2.2.1]? = some r ∧ r.2.2 ≤ q.2.2.2 ∧ Jvm.Cond.classLink (zcnm q.1) q.2.1 r.1 ∈ zTB ∧ Jvm.Cond.instantiable r.1 q.2.2.2 ∈ zTB ∧ Jvm.Cond.initialized r.1 ∈ zTB
abbrev zNW_T : Type := List (Nat × Nat × Nat × Nat)
set_option maxRecDepth 100000 in
theorem zNW_e0 : znwOK (5, 9, 2, 3) := ⟨_, rfl, by decide, (tbi2 279 (by decide +kernel)), (tbi2 280 (by decide +kernel)), (tbi2 50 (by decide +kernel))⟩
set_option maxRecDepth 100000 in
theorem zNW_e1 : znwOK (6, 9, 7, 12) := ⟨_, rfl, by decide, (tbi2 80 (by decide +kernel)), (tbi2 81 (by decide +kernel)), (tbi2 43 (by decide +kernel))⟩
set_option maxRecDepth 100000 in
theorem zNW_e2 : znwOK (8, 9, 5, 2) := ⟨_, rfl, by decide, (tbi2 66 (by decide +kernel)), (tbi2 274 (by decide +kernel)), (tbi2 49 (by decide +kernel))⟩
set_option maxRecDepth 100000 in
theorem zNW_e3 : znwOK (8, 15, 3, 4) := ⟨_, rfl, by decide, (tbi2 68 (by decide +kernel)), (tbi2 439 (by decide +kernel)), (tbi2 53 (by decide +kernel))⟩
set_option maxRecDepth 100000 in
theorem zNW_e4 : znwOK (8, 21, 1, 11) := ⟨_, rfl, by decide, (tbi2 70 (by decide +kernel)), (tbi2 529 (by decide +kernel)), (tbi2 54 (by decide +kernel))⟩
set_option maxRecDepth 100000 in
theorem zNW_e5 : znwOK (8, 27, 4, 5) := ⟨_, rfl, by decide, (tbi2 72 (by decide +kernel)), (tbi2 759 (by decide +kernel)), (tbi2 56 (by decide +kernel))⟩
set_option maxRecDepth 100000 in
theorem zNW_e6 : znwOK (8, 37, 6, 7) := ⟨_, rfl, by decide, (tbi2 74 (by decide +kernel)), (tbi2 75 (by decide +kernel)), (tbi2 42 (by decide +kernel))⟩
set_option maxRecDepth 100000 in
theorem zNW_e7 : znwOK (8, 79, 2, 3) := ⟨_, rfl, by decide, (tbi2 444 (by decide +kernel)), (tbi2 280 (by decide +kernel)), (tbi2 50 (by decide +kernel))⟩
set_option maxRecDepth 100000 in
theorem zNW_e8 : znwOK (8, 255, 0, 5) := ⟨_, rfl, by decide, (tbi2 785 (by decide +kernel)), (tbi2 786 (by decide +kernel)), (tbi2 57 (by decide +kernel))⟩
set_option maxRecDepth 100000 in
theorem zNW_e9 : znwOK (10, 8, 8, 11) := ⟨_, rfl, by decide, (tbi2 58 (by decide +kernel)), (tbi2 59 (by decide +kernel)), (tbi2 41 (by decide +kernel))⟩
set_option maxRecDepth 100000 in
theorem zNW_e10 : znwOK (10, 104, 9, 56) := ⟨_, rfl, by decide, (tbi2 902 (by decide +kernel)), (tbi2 903 (by decide +kernel)), (tbi2 44 (by decide +kernel))⟩
def zNW_p0 : zNW_T := [(5, 9, 2, 3), (6, 9, 7, 12), (8, 9, 5, 2), (8, 15, 3, 4), (8, 21, 1, 11), (8, 27, 4, 5), (8, 37, 6, 7), (8, 79, 2, 3), (8, 255, 0, 5), (10, 8, 8, 11), (10, 104, 9, 56)]
theorem zNW_q0 : ∀ q ∈ zNW_p0, znwOK q := List.forall_mem_cons.mpr ⟨zNW_e0, List.forall_mem_cons.mpr ⟨zNW_e1, List.forall_mem_cons.mpr ⟨zNW_e2, List.forall_mem_cons.mpr ⟨zNW_e3, List.forall_mem_cons.mpr ⟨zNW_e4, List.forall_mem_cons.mpr ⟨zNW_e5, List.forall_mem_cons.mpr ⟨zNW_e6, List.forall_mem_cons.mpr ⟨zNW_e7, List.forall_mem_cons.mpr ⟨zNW_e8, List.forall_mem_cons.mpr ⟨zNW_e9, List.forall_mem_cons.mpr ⟨zNW_e10, fun _ h => absurd h List.not_mem_nil⟩⟩⟩⟩⟩⟩⟩⟩⟩⟩⟩
def zNWA : zNW_T := zNW_p0
theorem zNW_all : ∀ q ∈ zNWA, znwOK q := zNW_q0
def zanOK (q : Nat × Nat × Nat) : Prop := Jvm.Cond.classLink (zcnm q.1) q.2.1 (zcn q.2.2) ∈ zTB ∧ zcn q.2.2 ∈ zAOS
abbrev zAN_T : Type := List (Nat × Nat × Nat)
set_option maxRecDepth 100000 in
theorem zAN_e0 : zanOK (8, 9, 5) := ⟨(tbi2 66 (by decide +kernel)), List.mem_of_getElem? (i := 3) rfl⟩
set_option maxRecDepth 100000 in
theorem zAN_e1 : zanOK (8, 15, 3) := ⟨(tbi2 68 (by decide +kernel)), List.mem_of_getElem? (i := 1) rfl⟩
set_option maxRecDepth 100000 in
theorem zAN_e2 : zanOK (8, 21, 1) := ⟨(tbi2 70 (by decide +kernel)), List.mem_of_getElem? (i := 0) rfl⟩
set_option maxRecDepth 100000 in
theorem zAN_e3 : zanOK (8, 27, 4) := ⟨(tbi2 72 (by decide +kernel)), List.mem_of_getElem? (i := 2) rfl⟩
def zAN_p0 : zAN_T := [(8, 9, 5), (8, 15, 3), (8, 21, 1), (8, 27, 4)]
theorem zAN_q0 : ∀ q ∈ zAN_p0, zanOK q := List.forall_mem_cons.mpr ⟨zAN_e0, List.forall_mem_cons.mpr ⟨zAN_e1, List.forall_mem_cons.mpr ⟨zAN_e2, List.forall_mem_cons.mpr ⟨zAN_e3, fun _ h => absurd h List.not_mem_nil⟩⟩⟩⟩
def zANA : zAN_T := zAN_p0
theorem zAN_all : ∀ q ∈ zANA, zanOK q := zAN_q0
def zciOK (q : Nat × Nat × Nat) : Prop := zInR q.2.2 ∧ Jvm.Cond.constant (zcnm q.1) q.2.1 (Int32.ofInt q.2.2) ∈ zTB
abbrev zCI_T : Type := List (Nat × Nat × Nat)
set_option maxRecDepth 100000 in
theorem zCI_e0 : zciOK (8, 64, 67108863) := ⟨⟨by decide, by decide⟩, (tbi2 340 (by decide +kernel))⟩
set_option maxRecDepth 100000 in
theorem zCI_e1 : zciOK (8, 225, 1000000) := ⟨⟨by decide, by decide⟩, (tbi2 654 (by decide +kernel))⟩
set_option maxRecDepth 100000 in
theorem zCI_e2 : zciOK (9, 162, 67108863) := ⟨⟨by decide, by decide⟩, (tbi2 1097 (by decide +kernel))⟩
set_option maxRecDepth 100000 in
theorem zCI_e3 : zciOK (9, 255, 1000000) := ⟨⟨by decide, by decide⟩, (tbi2 1201 (by decide +kernel))⟩
def zCI_p0 : zCI_T := [(8, 64, 67108863), (8, 225, 1000000), (9, 162, 67108863), (9, 255, 1000000)]
theorem zCI_q0 : ∀ q ∈ zCI_p0, zciOK q := List.forall_mem_cons.mpr ⟨zCI_e0, List.forall_mem_cons.mpr ⟨zCI_e1, List.forall_mem_cons.mpr ⟨zCI_e2, List.forall_mem_cons.mpr ⟨zCI_e3, fun _ h => absurd h List.not_mem_nil⟩⟩⟩⟩
def zCIA : zCI_T := zCI_p0
theorem zCI_all : ∀ q ∈ zCIA, zciOK q := zCI_q0
def zcjOK (q : Nat × Nat × Nat) : Prop := Jvm.Cond.constantLong (zcnm q.1) q.2.1 (Int64.ofNat q.2.2) ∈ zTB
abbrev zCJ_T : Type := List (Nat × Nat × Nat)
set_option maxRecDepth 100000 in
theorem zCJ_e0 : zcjOK (9, 174, 255) := (tbi2 1132 (by decide +kernel))
set_option maxRecDepth 100000 in
theorem zCJ_e1 : zcjOK (10, 131, 4294967295) := (tbi2 1302 (by decide +kernel))
def zCJ_p0 : zCJ_T := [(9, 174, 255), (10, 131, 4294967295)]
theorem zCJ_q0 : ∀ q ∈ zCJ_p0, zcjOK q := List.forall_mem_cons.mpr ⟨zCJ_e0, List.forall_mem_cons.mpr ⟨zCJ_e1, fun _ h => absurd h List.not_mem_nil⟩⟩
def zCJA : zCJ_T := zCJ_p0
theorem zCJ_all : ∀ q ∈ zCJA, zcjOK q := zCJ_q0
def zobOK (q : Nat × Nat) : Prop := Jvm.Cond.methodLink (zcnm q.1) q.2 Lib.objectInit ∈ zTB ∧ Jvm.Cond.instanceMethod Lib.objectInit ∈ zTB ∧ Jvm.Cond.code Lib.objectInit ⟨#[0xb1]⟩ 1 none ∈ zTB
abbrev zOB_T : Type := List (Nat × Nat)
set_option maxRecDepth 100000 in
theorem zOB_e0 : zobOK (0, 3) := ⟨(tbi2 794 (by decide +kernel)), (tbi2 64 (by decide +kernel)), tbi 65 rfl rfl⟩
set_option maxRecDepth 100000 in
theorem zOB_e1 : zobOK (1, 3) := ⟨(tbi2 533 (by decide +kernel)), (tbi2 64 (by decide +kernel)), tbi 65 rfl rfl⟩
set_option maxRecDepth 100000 in
theorem zOB_e2 : zobOK (2, 3) := ⟨(tbi2 284 (by decide +kernel)), (tbi2 64 (by decide +kernel)), tbi 65 rfl rfl⟩
set_option maxRecDepth 100000 in
theorem zOB_e3 : zobOK (3, 1) := ⟨(tbi2 454 (by decide +kernel)), (tbi2 64 (by decide +kernel)), tbi 65 rfl rfl⟩
set_option maxRecDepth 100000 in
theorem zOB_e4 : zobOK (4, 1) := ⟨(tbi2 763 (by decide +kernel)), (tbi2 64 (by decide +kernel)), tbi 65 rfl rfl⟩
set_option maxRecDepth 100000 in
theorem zOB_e5 : zobOK (5, 3) := ⟨(tbi2 278 (by decide +kernel)), (tbi2 64 (by decide +kernel)), tbi 65 rfl rfl⟩
set_option maxRecDepth 100000 in
theorem zOB_e6 : zobOK (6, 3) := ⟨(tbi2 79 (by decide +kernel)), (tbi2 64 (by decide +kernel)), tbi 65 rfl rfl⟩
set_option maxRecDepth 100000 in
theorem zOB_e7 : zobOK (7, 3) := ⟨(tbi2 85 (by decide +kernel)), (tbi2 64 (by decide +kernel)), tbi 65 rfl rfl⟩
set_option maxRecDepth 100000 in
theorem zOB_e8 : zobOK (8, 3) := ⟨(tbi2 63 (by decide +kernel)), (tbi2 64 (by decide +kernel)), tbi 65 rfl rfl⟩
set_option maxRecDepth 100000 in
theorem zOB_e9 : zobOK (9, 1) := ⟨(tbi2 907 (by decide +kernel)), (tbi2 64 (by decide +kernel)), tbi 65 rfl rfl⟩
def zOB_p0 : zOB_T := [(0, 3), (1, 3), (2, 3), (3, 1), (4, 1), (5, 3), (6, 3), (7, 3), (8, 3), (9, 1)]
theorem zOB_q0 : ∀ q ∈ zOB_p0, zobOK q := List.forall_mem_cons.mpr ⟨zOB_e0, List.forall_mem_cons.mpr ⟨zOB_e1, List.forall_mem_cons.mpr ⟨zOB_e2, List.forall_mem_cons.mpr ⟨zOB_e3, List.forall_mem_cons.mpr ⟨zOB_e4, List.forall_mem_cons.mpr ⟨zOB_e5, List.forall_mem_cons.mpr ⟨zOB_e6, List.forall_mem_cons.mpr ⟨zOB_e7, List.forall_mem_cons.mpr ⟨zOB_e8, List.forall_mem_cons.mpr ⟨zOB_e9, fun _ h => absurd h List.not_mem_nil⟩⟩⟩⟩⟩⟩⟩⟩⟩⟩
def zOBA : zOB_T := zOB_p0
theorem zOB_all : ∀ q ∈ zOBA, zobOK q := zOB_q0
theorem zma_7 : Jvm.Cond.methodLink (zcnm 6) 173 Lib.Math.max.name ∈ zTB ∧ Jvm.Cond.static Lib.Math.max.name ∈ zTB ∧ Jvm.Cond.initialized "java/lang/Math" ∈ zTB ∧ Jvm.Cond.code Lib.Math.max.name Lib.Math.max.code 2 (some .int) ∈ zTB := ⟨(tbi2 740 (by decide +kernel)), (tbi2 741 (by decide +kernel)), (tbi2 55 (by decide +kernel)), (tbi2 742 (by decide +kernel))⟩
theorem zma_6 : Jvm.Cond.methodLink (zcnm 8) 265 Lib.Math.min.name ∈ zTB ∧ Jvm.Cond.static Lib.Math.min.name ∈ zTB ∧ Jvm.Cond.initialized "java/lang/Math" ∈ zTB ∧ Jvm.Cond.code Lib.Math.min.name Lib.Math.min.code 2 (some .int) ∈ zTB := ⟨(tbi2 826 (by decide +kernel)), (tbi2 827 (by decide +kernel)), (tbi2 55 (by decide +kernel)), (tbi2 828 (by decide +kernel))⟩
theorem zac_int : Jvm.Cond.arrayClass .int ∈ zTB := (tbi2 140 (by decide +kernel))
theorem zac_long : Jvm.Cond.arrayClass .long ∈ zTB := (tbi2 583 (by decide +kernel))
theorem zac_boolean : Jvm.Cond.arrayClass .boolean ∈ zTB := (tbi2 1077 (by decide +kernel))
def zthOK (q : Nat × Nat × Nat) : Prop := zTHOK zZ q.1 q.2.1 q.2.2
theorem zth_a0 : ∀ w ∈ (vx_atS (zcnm 8) 52 (zen 2) znm).filter goodWord, w ∈ zTB := fun w h => (List.mem_filter.mp h).elim fun h1 h2 => List.mem_filter.mpr ⟨(show ∀ w ∈ (vx_atS (zcnm 8) 52 (zen 2) znm).filter goodWord, w ∈ lw_tbl by decide +kernel) w h, h2⟩
theorem zth_b0 : ∀ w ∈ (vx_atS (zcnm 8) 52 (zen 2) znm).filter (fun w => !goodWord w), w = Jvm.Cond.castable (zen 2) (zen 2) ∨ ∃ Y ∈ zdcl, w = Jvm.Cond.declares (Bundle.initS Y) := by decide +kernel
theorem zth_c0 : ∀ w ∈ vx_atS (zcnm 8) 52 (zen 2) znm, vx_ot w = true := by decide +kernel
theorem zth_a1 : ∀ w ∈ (vx_atS (zcnm 8) 69 (zen 0) znm).filter goodWord, w ∈ zTB := fun w h => (List.mem_filter.mp h).elim fun h1 h2 => List.mem_filter.mpr ⟨(show ∀ w ∈ (vx_atS (zcnm 8) 69 (zen 0) znm).filter goodWord, w ∈ lw_tbl by decide +kernel) w h, h2⟩
theorem zth_b1 : ∀ w ∈ (vx_atS (zcnm 8) 69 (zen 0) znm).filter (fun w => !goodWord w), w = Jvm.Cond.castable (zen 0) (zen 0) ∨ ∃ Y ∈ zdcl, w = Jvm.Cond.declares (Bundle.initS Y) := by decide +kernel
theorem zth_c1 : ∀ w ∈ vx_atS (zcnm 8) 69 (zen 0) znm, vx_ot w = true := by decide +kernel
theorem zth_a2 : ∀ w ∈ (vx_atS (zcnm 8) 217 (zen 1) znm).filter goodWord, w ∈ zTB := fun w h => (List.mem_filter.mp h).elim fun h1 h2 => List.mem_filter.mpr ⟨(show ∀ w ∈ (vx_atS (zcnm 8) 217 (zen 1) znm).filter goodWord, w ∈ lw_tbl by decide +kernel) w h, h2⟩
theorem zth_b2 : ∀ w ∈ (vx_atS (zcnm 8) 217 (zen 1) znm).filter (fun w => !goodWord w), w = Jvm.Cond.castable (zen 1) (zen 1) ∨ ∃ Y ∈ zdcl, w = Jvm.Cond.declares (Bundle.initS Y) := by decide +kernel
theorem zth_c2 : ∀ w ∈ vx_atS (zcnm 8) 217 (zen 1) znm, vx_ot w = true := by decide +kernel
abbrev zTL_T : Type := List (Nat × Nat × Nat)
set_option maxRecDepth 100000 in
theorem zTL_e0 : zthOK (44, 9, 2) := ⟨48, 50, 52, "there are 24 layers", (by decide +kernel), (by decide +kernel), Or.inl ⟨(by decide +kernel), (by decide +kernel), (by decide +kernel)⟩, (tbi2 206 (by decide +kernel)), (tbi2 48 (by decide +kernel)), List.mem_of_getElem? (i := 0) rfl, zth_a0, zth_b0, zth_c0, by decide +kernel, by decide, by decide, rfl, by decide⟩
set_option maxRecDepth 100000 in
theorem zTL_e1 : zthOK (45, 37, 0) := ⟨65, 67, 69, "file, width or cover", (by decide +kernel), (by decide +kernel), Or.inl ⟨(by decide +kernel), (by decide +kernel), (by decide +kernel)⟩, (tbi2 341 (by decide +kernel)), (tbi2 52 (by decide +kernel)), List.mem_of_getElem? (i := 1) rfl, zth_a1, zth_b1, zth_c1, by decide +kernel, by decide, by decide, rfl, by decide⟩
set_option maxRecDepth 100000 in
theorem zTL_e2 : zthOK (46, 37, 0) := ⟨65, 84, 69, "file, space or version", (by decide +kernel), (by decide +kernel), Or.inl ⟨(by decide +kernel), (by decide +kernel), (by decide +kernel)⟩, (tbi2 341 (by decide +kernel)), (tbi2 52 (by decide +kernel)), List.mem_of_getElem? (i := 2) rfl, zth_a1, zth_b1, zth_c1, by decide +kernel, by decide, by decide, rfl, by decide⟩
set_option maxRecDepth 100000 in
theorem zTL_e3 : zthOK (47, 16, 0) := ⟨65, 86, 69, "file", (by decide +kernel), (by decide +kernel), Or.inl ⟨(by decide +kernel), (by decide +kernel), (by decide +kernel)⟩, (tbi2 341 (by decide +kernel)), (tbi2 52 (by decide +kernel)), List.mem_of_getElem? (i := 3) rfl, zth_a1, zth_b1, zth_c1, by decide +kernel, by decide, by decide, rfl, by decide⟩
set_option maxRecDepth 100000 in
theorem zTL_e4 : zthOK (49, 49, 2) := ⟨48, 120, 52, "there are 12 images", (by decide +kernel), (by decide +kernel), Or.inl ⟨(by decide +kernel), (by decide +kernel), (by decide +kernel)⟩, (tbi2 206 (by decide +kernel)), (tbi2 48 (by decide +kernel)), List.mem_of_getElem? (i := 4) rfl, zth_a0, zth_b0, zth_c0, by decide +kernel, by decide, by decide, rfl, by decide⟩
set_option maxRecDepth 100000 in
theorem zTL_e5 : zthOK (51, 15, 0) := ⟨65, 144, 69, "what", (by decide +kernel), (by decide +kernel), Or.inl ⟨(by decide +kernel), (by decide +kernel), (by decide +kernel)⟩, (tbi2 341 (by decide +kernel)), (tbi2 52 (by decide +kernel)), List.mem_of_getElem? (i := 5) rfl, zth_a1, zth_b1, zth_c1, by decide +kernel, by decide, by decide, rfl, by decide⟩
set_option maxRecDepth 100000 in
theorem zTL_e6 : zthOK (52, 26, 0) := ⟨65, 150, 69, "file or what", (by decide +kernel), (by decide +kernel), Or.inl ⟨(by decide +kernel), (by decide +kernel), (by decide +kernel)⟩, (tbi2 341 (by decide +kernel)), (tbi2 52 (by decide +kernel)), List.mem_of_getElem? (i := 6) rfl, zth_a1, zth_b1, zth_c1, by decide +kernel, by decide, by decide, rfl, by decide⟩
set_option maxRecDepth 100000 in
theorem zTL_e7 : zthOK (53, 22, 0) := ⟨65, 163, 69, "measure or height", (by decide +kernel), (by decide +kernel), Or.inl ⟨(by decide +kernel), (by decide +kernel), (by decide +kernel)⟩, (tbi2 341 (by decide +kernel)), (tbi2 52 (by decide +kernel)), List.mem_of_getElem? (i := 7) rfl, zth_a1, zth_b1, zth_c1, by decide +kernel, by decide, by decide, rfl, by decide⟩
set_option maxRecDepth 100000 in
theorem zTL_e8 : zthOK (53, 41, 2) := ⟨48, 168, 52, "there are 6 documents", (by decide +kernel), (by decide +kernel), Or.inl ⟨(by decide +kernel), (by decide +kernel), (by decide +kernel)⟩, (tbi2 206 (by decide +kernel)), (tbi2 48 (by decide +kernel)), List.mem_of_getElem? (i := 8) rfl, zth_a0, zth_b0, zth_c0, by decide +kernel, by decide, by decide, rfl, by decide⟩
set_option maxRecDepth 100000 in
theorem zTL_e9 : zthOK (54, 25, 0) := ⟨65, 177, 69, "style or font", (by decide +kernel), (by decide +kernel), Or.inl ⟨(by decide +kernel), (by decide +kernel), (by decide +kernel)⟩, (tbi2 341 (by decide +kernel)), (tbi2 52 (by decide +kernel)), List.mem_of_getElem? (i := 9) rfl, zth_a1, zth_b1, zth_c1, by decide +kernel, by decide, by decide, rfl, by decide⟩
set_option maxRecDepth 100000 in
theorem zTL_e10 : zthOK (55, 17, 0) := ⟨65, 86, 69, "file", (by decide +kernel), (by decide +kernel), Or.inl ⟨(by decide +kernel), (by decide +kernel), (by decide +kernel)⟩, (tbi2 341 (by decide +kernel)), (tbi2 52 (by decide +kernel)), List.mem_of_getElem? (i := 3) rfl, zth_a1, zth_b1, zth_c1, by decide +kernel, by decide, by decide, rfl, by decide⟩
set_option maxRecDepth 100000 in
theorem zTL_e11 : zthOK (56, 15, 0) := ⟨65, 188, 69, "style", (by decide +kernel), (by decide +kernel), Or.inl ⟨(by decide +kernel), (by decide +kernel), (by decide +kernel)⟩, (tbi2 341 (by decide +kernel)), (tbi2 52 (by decide +kernel)), List.mem_of_getElem? (i := 10) rfl, zth_a1, zth_b1, zth_c1, by decide +kernel, by decide, by decide, rfl, by decide⟩
set_option maxRecDepth 100000 in
theorem zTL_e12 : zthOK (56, 34, 2) := ⟨48, 193, 52, "it has 12 paragraphs", (by decide +kernel), (by decide +kernel), Or.inl ⟨(by decide +kernel), (by decide +kernel), (by decide +kernel)⟩, (tbi2 206 (by decide +kernel)), (tbi2 48 (by decide +kernel)), List.mem_of_getElem? (i := 11) rfl, zth_a0, zth_b0, zth_c0, by decide +kernel, by decide, by decide, rfl, by decide⟩
set_option maxRecDepth 100000 in
theorem zTL_e13 : zthOK (57, 18, 0) := ⟨65, 202, 69, "letters", (by decide +kernel), (by decide +kernel), Or.inl ⟨(by decide +kernel), (by decide +kernel), (by decide +kernel)⟩, (tbi2 341 (by decide +kernel)), (tbi2 52 (by decide +kernel)), List.mem_of_getElem? (i := 12) rfl, zth_a1, zth_b1, zth_c1, by decide +kernel, by decide, by decide, rfl, by decide⟩
set_option maxRecDepth 100000 in
theorem zTL_e14 : zthOK (57, 46, 2) := ⟨48, 207, 52, "no paragraph, or 60 words", (by decide +kernel), (by decide +kernel), Or.inl ⟨(by decide +kernel), (by decide +kernel), (by decide +kernel)⟩, (tbi2 206 (by decide +kernel)), (tbi2 48 (by decide +kernel)), List.mem_of_getElem? (i := 13) rfl, zth_a0, zth_b0, zth_c0, by decide +kernel, by decide, by decide, rfl, by decide⟩
set_option maxRecDepth 100000 in
theorem zTL_e15 : zthOK (58, 20, 1) := ⟨213, 215, 217, "no such paragraph", (by decide +kernel), (by decide +kernel), Or.inl ⟨(by decide +kernel), (by decide +kernel), (by decide +kernel)⟩, (tbi2 324 (by decide +kernel)), (tbi2 51 (by decide +kernel)), List.mem_of_getElem? (i := 14) rfl, zth_a2, zth_b2, zth_c2, by decide +kernel, by decide, by decide, rfl, by decide⟩
set_option maxRecDepth 100000 in
theorem zTL_e16 : zthOK (58, 39, 2) := ⟨48, 218, 52, "there are 60 words", (by decide +kernel), (by decide +kernel), Or.inl ⟨(by decide +kernel), (by decide +kernel), (by decide +kernel)⟩, (tbi2 206 (by decide +kernel)), (tbi2 48 (by decide +kernel)), List.mem_of_getElem? (i := 15) rfl, zth_a0, zth_b0, zth_c0, by decide +kernel, by decide, by decide, rfl, by decide⟩
set_option maxRecDepth 100000 in
theorem zTL_e17 : zthOK (60, 15, 0) := ⟨65, 223, 69, "more", (by decide +kernel), (by decide +kernel), Or.inl ⟨(by decide +kernel), (by decide +kernel), (by decide +kernel)⟩, (tbi2 341 (by decide +kernel)), (tbi2 52 (by decide +kernel)), List.mem_of_getElem? (i := 16) rfl, zth_a1, zth_b1, zth_c1, by decide +kernel, by decide, by decide, rfl, by decide⟩
set_option maxRecDepth 100000 in
theorem zTL_e18 : zthOK (60, 38, 2) := ⟨48, 226, 52, "above 1000000", (by decide +kernel), (by decide +kernel), Or.inl ⟨(by decide +kernel), (by decide +kernel), (by decide +kernel)⟩, (tbi2 206 (by decide +kernel)), (tbi2 48 (by decide +kernel)), List.mem_of_getElem? (i := 17) rfl, zth_a0, zth_b0, zth_c0, by decide +kernel, by decide, by decide, rfl, by decide⟩
set_option maxRecDepth 100000 in
theorem zTL_e19 : zthOK (61, 32, 2) := ⟨48, 231, 52, "there are 40 jobs", (by decide +kernel), (by decide +kernel), Or.inl ⟨(by decide +kernel), (by decide +kernel), (by decide +kernel)⟩, (tbi2 206 (by decide +kernel)), (tbi2 48 (by decide +kernel)), List.mem_of_getElem? (i := 18) rfl, zth_a0, zth_b0, zth_c0, by decide +kernel, by decide, by decide, rfl, by decide⟩
set_option maxRecDepth 100000 in
theorem zTL_e20 : zthOK (62, 27, 0) := ⟨65, 86, 69, "file", (by decide +kernel), (by decide +kernel), Or.inl ⟨(by decide +kernel), (by decide +kernel), (by decide +kernel)⟩, (tbi2 341 (by decide +kernel)), (tbi2 52 (by decide +kernel)), List.mem_of_getElem? (i := 3) rfl, zth_a1, zth_b1, zth_c1, by decide +kernel, by decide, by decide, rfl, by decide⟩
set_option maxRecDepth 100000 in
theorem zTL_e21 : zthOK (62, 42, 2) := ⟨48, 252, 52, "the job has no build", (by decide +kernel), (by decide +kernel), Or.inl ⟨(by decide +kernel), (by decide +kernel), (by decide +kernel)⟩, (tbi2 206 (by decide +kernel)), (tbi2 48 (by decide +kernel)), List.mem_of_getElem? (i := 19) rfl, zth_a0, zth_b0, zth_c0, by decide +kernel, by decide, by decide, rfl, by decide⟩
set_option maxRecDepth 100000 in
theorem zTL_e22 : zthOK (63, 16, 0) := ⟨65, 144, 69, "what", (by decide +kernel), (by decide +kernel), Or.inl ⟨(by decide +kernel), (by decide +kernel), (by decide +kernel)⟩, (tbi2 341 (by decide +kernel)), (tbi2 52 (by decide +kernel)), List.mem_of_getElem? (i := 5) rfl, zth_a1, zth_b1, zth_c1, by decide +kernel, by decide, by decide, rfl, by decide⟩
set_option maxRecDepth 100000 in
theorem zTL_e23 : zthOK (64, 23, 0) := ⟨65, 144, 69, "what", (by decide +kernel), (by decide +kernel), Or.inl ⟨(by decide +kernel), (by decide +kernel), (by decide +kernel)⟩, (tbi2 341 (by decide +kernel)), (tbi2 52 (by decide +kernel)), List.mem_of_getElem? (i := 5) rfl, zth_a1, zth_b1, zth_c1, by decide +kernel, by decide, by decide, rfl, by decide⟩
set_option maxRecDepth 100000 in
theorem zTL_e24 : zthOK (71, 7, 2) := ⟨48, 312, 52, "the layer is not open", (by decide +kernel), (by decide +kernel), Or.inr ⟨(by decide +kernel), (by decide +kernel), (by decide +kernel)⟩, (tbi2 206 (by decide +kernel)), (tbi2 48 (by decide +kernel)), List.mem_of_getElem? (i := 20) rfl, zth_a0, zth_b0, zth_c0, by decide +kernel, by decide, by decide, rfl, by decide⟩
set_option maxRecDepth 100000 in
theorem zTL_e25 : zthOK (72, 7, 2) := ⟨48, 314, 52, "the image is gone", (by decide +kernel), (by decide +kernel), Or.inr ⟨(by decide +kernel), (by decide +kernel), (by decide +kernel)⟩, (tbi2 206 (by decide +kernel)), (tbi2 48 (by decide +kernel)), List.mem_of_getElem? (i := 21) rfl, zth_a0, zth_b0, zth_c0, by decide +kernel, by decide, by decide, rfl, by decide⟩
set_option maxRecDepth 100000 in
theorem zTL_e26 : zthOK (73, 9, 0) := ⟨65, 316, 69, "owner", (by decide +kernel), (by decide +kernel), Or.inr ⟨(by decide +kernel), (by decide +kernel), (by decide +kernel)⟩, (tbi2 341 (by decide +kernel)), (tbi2 52 (by decide +kernel)), List.mem_of_getElem? (i := 22) rfl, zth_a1, zth_b1, zth_c1, by decide +kernel, by decide, by decide, rfl, by decide⟩
set_option maxRecDepth 100000 in
theorem zTL_e27 : zthOK (74, 4, 1) := ⟨213, 318, 217, "below 0", (by decide +kernel), (by decide +kernel), Or.inr ⟨(by decide +kernel), (by decide +kernel), (by decide +kernel)⟩, (tbi2 324 (by decide +kernel)), (tbi2 51 (by decide +kernel)), List.mem_of_getElem? (i := 23) rfl, zth_a2, zth_b2, zth_c2, by decide +kernel, by decide, by decide, rfl, by decide⟩
set_option maxRecDepth 100000 in
theorem zTL_e28 : zthOK (75, 25, 1) := ⟨213, 320, 217, "no such layer", (by decide +kernel), (by decide +kernel), Or.inr ⟨(by decide +kernel), (by decide +kernel), (by decide +kernel)⟩, (tbi2 324 (by decide +kernel)), (tbi2 51 (by decide +kernel)), List.mem_of_getElem? (i := 24) rfl, zth_a2, zth_b2, zth_c2, by decide +kernel, by decide, by decide, rfl, by decide⟩
set_option maxRecDepth 100000 in
theorem zTL_e29 : zthOK (76, 25, 1) := ⟨213, 322, 217, "no such image", (by decide +kernel), (by decide +kernel), Or.inr ⟨(by decide +kernel), (by decide +kernel), (by decide +kernel)⟩, (tbi2 324 (by decide +kernel)), (tbi2 51 (by decide +kernel)), List.mem_of_getElem? (i := 25) rfl, zth_a2, zth_b2, zth_c2, by decide +kernel, by decide, by decide, rfl, by decide⟩
set_option maxRecDepth 100000 in
theorem zTL_e30 : zthOK (77, 24, 1) := ⟨213, 324, 217, "no such document", (by decide +kernel), (by decide +kernel), Or.inr ⟨(by decide +kernel), (by decide +kernel), (by decide +kernel)⟩, (tbi2 324 (by decide +kernel)), (tbi2 51 (by decide +kernel)), List.mem_of_getElem? (i := 26) rfl, zth_a2, zth_b2, zth_c2, by decide +kernel, by decide, by decide, rfl, by decide⟩
set_option maxRecDepth 100000 in
theorem zTL_e31 : zthOK (78, 25, 1) := ⟨213, 326, 217, "no such job", (by decide +kernel), (by decide +kernel), Or.inr ⟨(by decide +kernel), (by decide +kernel), (by decide +kernel)⟩, (tbi2 324 (by decide +kernel)), (tbi2 51 (by decide +kernel)), List.mem_of_getElem? (i := 27) rfl, zth_a2, zth_b2, zth_c2, by decide +kernel, by decide, by decide, rfl, by decide⟩
set_option maxRecDepth 100000 in
theorem zTL_e32 : zthOK (82, 13, 0) := ⟨65, 335, 69, "layers", (by decide +kernel), (by decide +kernel), Or.inr ⟨(by decide +kernel), (by decide +kernel), (by decide +kernel)⟩, (tbi2 341 (by decide +kernel)), (tbi2 52 (by decide +kernel)), List.mem_of_getElem? (i := 28) rfl, zth_a1, zth_b1, zth_c1, by decide +kernel, by decide, by decide, rfl, by decide⟩
set_option maxRecDepth 100000 in
theorem zTL_e33 : zthOK (83, 22, 2) := ⟨48, 336, 52, "a layer is not sealed, or gone", (by decide +kernel), (by decide +kernel), Or.inr ⟨(by decide +kernel), (by decide +kernel), (by decide +kernel)⟩, (tbi2 206 (by decide +kernel)), (tbi2 48 (by decide +kernel)), List.mem_of_getElem? (i := 29) rfl, zth_a0, zth_b0, zth_c0, by decide +kernel, by decide, by decide, rfl, by decide⟩
set_option maxRecDepth 100000 in
theorem zTL_e34 : zthOK (175, 25, 1) := ⟨213, 320, 217, "no such layer", (by decide +kernel), (by decide +kernel), Or.inr ⟨(by decide +kernel), (by decide +kernel), (by decide +kernel)⟩, (tbi2 324 (by decide +kernel)), (tbi2 51 (by decide +kernel)), List.mem_of_getElem? (i := 24) rfl, zth_a2, zth_b2, zth_c2, by decide +kernel, by decide, by decide, rfl, by decide⟩
def zTL_p0 : zTL_T := [(44, 9, 2), (45, 37, 0), (46, 37, 0), (47, 16, 0), (49, 49, 2), (51, 15, 0), (52, 26, 0), (53, 22, 0), (53, 41, 2), (54, 25, 0), (55, 17, 0), (56, 15, 0), (56, 34, 2), (57, 18, 0), (57, 46, 2), (58, 20, 1), (58, 39, 2), (60, 15, 0), (60, 38, 2), (61, 32, 2), (62, 27, 0), (62, 42, 2), (63, 16, 0), (64, 23, 0), (71, 7, 2), (72, 7, 2), (73, 9, 0), (74, 4, 1), (75, 25, 1), (76, 25, 1), (77, 24, 1), (78, 25, 1), (82, 13, 0), (83, 22, 2), (175, 25, 1)]
theorem zTL_q0 : ∀ q ∈ zTL_p0, zthOK q := List.forall_mem_cons.mpr ⟨zTL_e0, List.forall_mem_cons.mpr ⟨zTL_e1, List.forall_mem_cons.mpr ⟨zTL_e2, List.forall_mem_cons.mpr ⟨zTL_e3, List.forall_mem_cons.mpr ⟨zTL_e4, List.forall_mem_cons.mpr ⟨zTL_e5, List.forall_mem_cons.mpr ⟨zTL_e6, List.forall_mem_cons.mpr ⟨zTL_e7, List.forall_mem_cons.mpr ⟨zTL_e8, List.forall_mem_cons.mpr ⟨zTL_e9, List.forall_mem_cons.mpr ⟨zTL_e10, List.forall_mem_cons.mpr ⟨zTL_e11, List.forall_mem_cons.mpr ⟨zTL_e12, List.forall_mem_cons.mpr ⟨zTL_e13, List.forall_mem_cons.mpr ⟨zTL_e14, List.forall_mem_cons.mpr ⟨zTL_e15, List.forall_mem_cons.mpr ⟨zTL_e16, List.forall_mem_cons.mpr ⟨zTL_e17, List.forall_mem_cons.mpr ⟨zTL_e18, List.forall_mem_cons.mpr ⟨zTL_e19, List.forall_mem_cons.mpr ⟨zTL_e20, List.forall_mem_cons.mpr ⟨zTL_e21, List.forall_mem_cons.mpr ⟨zTL_e22, List.forall_mem_cons.mpr ⟨zTL_e23, List.forall_mem_cons.mpr ⟨zTL_e24, List.forall_mem_cons.mpr ⟨zTL_e25, List.forall_mem_cons.mpr ⟨zTL_e26, List.forall_mem_cons.mpr ⟨zTL_e27, List.forall_mem_cons.mpr ⟨zTL_e28, List.forall_mem_cons.mpr ⟨zTL_e29, List.forall_mem_cons.mpr ⟨zTL_e30, List.forall_mem_cons.mpr ⟨zTL_e31, List.forall_mem_cons.mpr ⟨zTL_e32, List.forall_mem_cons.mpr ⟨zTL_e33, List.forall_mem_cons.mpr ⟨zTL_e34, fun _ h => absurd h List.not_mem_nil⟩⟩⟩⟩⟩⟩⟩⟩⟩⟩⟩⟩⟩⟩⟩⟩⟩⟩⟩⟩⟩⟩⟩⟩⟩⟩⟩⟩⟩⟩⟩⟩⟩⟩⟩
def zTLA : zTL_T := zTL_p0
theorem zTL_all : ∀ q ∈ zTLA, zthOK q := zTL_q0
