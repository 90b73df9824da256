/-! ===== the tables are right ===== -/
theorem tbi {w : Jvm.Cond} (i : Nat) (h : lw_tbl[i]? = some w) (g : goodWord w = true) : w ∈ zTB := List.mem_filter.mpr ⟨List.mem_of_getElem? h, g⟩
theorem tbi2 {w : Jvm.Cond} (i : Nat) (h : (decide (lw_tbl[i]? = some w) && goodWord w) = true) : w ∈ zTB := by
  rw [Bool.and_eq_true, decide_eq_true_eq] at h
  exact tbi i h.1 h.2
def zflOK (q : Nat × Nat × Nat × Nat) : Prop := ∃ r : vw_C, vwCl[q.2.2.1]? = some r ∧ q.2.2.2 < r.2.2 ∧ Jvm.Cond.fieldLink (zcnm q.1) q.2.1 r.1 (r.2.1 q.2.2.2).2.1 (r.2.1 q.2.2.2).2.2.1 ∈ zTB
abbrev zFL_T : Type := List (Nat × Nat × Nat × Nat)
set_option maxRecDepth 100000 in
theorem zFL_e0 : zflOK (0, 9, 0, 0) := ⟨_, rfl, by decide, (tbi2 680 (by decide +kernel))⟩
set_option maxRecDepth 100000 in
theorem zFL_e1 : zflOK (0, 15, 0, 2) := ⟨_, rfl, by decide, (tbi2 683 (by decide +kernel))⟩
set_option maxRecDepth 100000 in
theorem zFL_e2 : zflOK (0, 19, 1, 10) := ⟨_, rfl, by decide, (tbi2 744 (by decide +kernel))⟩
set_option maxRecDepth 100000 in
theorem zFL_e3 : zflOK (0, 24, 0, 1) := ⟨_, rfl, by decide, (tbi2 682 (by decide +kernel))⟩
set_option maxRecDepth 100000 in
theorem zFL_e4 : zflOK (0, 25, 0, 3) := ⟨_, rfl, by decide, (tbi2 684 (by decide +kernel))⟩
set_option maxRecDepth 100000 in
theorem zFL_e5 : zflOK (0, 29, 0, 4) := ⟨_, rfl, by decide, (tbi2 685 (by decide +kernel))⟩
set_option maxRecDepth 100000 in
theorem zFL_e6 : zflOK (0, 33, 7, 5) := ⟨_, rfl, by decide, (tbi2 73 (by decide +kernel))⟩
set_option maxRecDepth 100000 in
theorem zFL_e7 : zflOK (0, 44, 7, 2) := ⟨_, rfl, by decide, (tbi2 64 (by decide +kernel))⟩
set_option maxRecDepth 100000 in
theorem zFL_e8 : zflOK (0, 47, 7, 1) := ⟨_, rfl, by decide, (tbi2 62 (by decide +kernel))⟩
set_option maxRecDepth 100000 in
theorem zFL_e9 : zflOK (0, 50, 7, 3) := ⟨_, rfl, by decide, (tbi2 70 (by decide +kernel))⟩
set_option maxRecDepth 100000 in
theorem zFL_e10 : zflOK (1, 9, 1, 2) := ⟨_, rfl, by decide, (tbi2 725 (by decide +kernel))⟩
set_option maxRecDepth 100000 in
theorem zFL_e11 : zflOK (1, 15, 1, 3) := ⟨_, rfl, by decide, (tbi2 728 (by decide +kernel))⟩
set_option maxRecDepth 100000 in
theorem zFL_e12 : zflOK (1, 18, 1, 4) := ⟨_, rfl, by decide, (tbi2 731 (by decide +kernel))⟩
set_option maxRecDepth 100000 in
theorem zFL_e13 : zflOK (1, 21, 1, 5) := ⟨_, rfl, by decide, (tbi2 733 (by decide +kernel))⟩
set_option maxRecDepth 100000 in
theorem zFL_e14 : zflOK (1, 25, 1, 6) := ⟨_, rfl, by decide, (tbi2 735 (by decide +kernel))⟩
set_option maxRecDepth 100000 in
theorem zFL_e15 : zflOK (1, 28, 1, 0) := ⟨_, rfl, by decide, (tbi2 721 (by decide +kernel))⟩
set_option maxRecDepth 100000 in
theorem zFL_e16 : zflOK (1, 32, 1, 1) := ⟨_, rfl, by decide, (tbi2 723 (by decide +kernel))⟩
set_option maxRecDepth 100000 in
theorem zFL_e17 : zflOK (1, 35, 1, 9) := ⟨_, rfl, by decide, (tbi2 741 (by decide +kernel))⟩
set_option maxRecDepth 100000 in
theorem zFL_e18 : zflOK (1, 38, 1, 8) := ⟨_, rfl, by decide, (tbi2 739 (by decide +kernel))⟩
set_option maxRecDepth 100000 in
theorem zFL_e19 : zflOK (1, 41, 1, 10) := ⟨_, rfl, by decide, (tbi2 745 (by decide +kernel))⟩
set_option maxRecDepth 100000 in
theorem zFL_e20 : zflOK (2, 9, 2, 0) := ⟨_, rfl, by decide, (tbi2 337 (by decide +kernel))⟩
set_option maxRecDepth 100000 in
theorem zFL_e21 : zflOK (2, 15, 2, 1) := ⟨_, rfl, by decide, (tbi2 338 (by decide +kernel))⟩
set_option maxRecDepth 100000 in
theorem zFL_e22 : zflOK (2, 18, 2, 2) := ⟨_, rfl, by decide, (tbi2 341 (by decide +kernel))⟩
set_option maxRecDepth 100000 in
theorem zFL_e23 : zflOK (3, 7, 3, 3) := ⟨_, rfl, by decide, (tbi2 471 (by decide +kernel))⟩
set_option maxRecDepth 100000 in
theorem zFL_e24 : zflOK (3, 13, 3, 0) := ⟨_, rfl, by decide, (tbi2 465 (by decide +kernel))⟩
set_option maxRecDepth 100000 in
theorem zFL_e25 : zflOK (3, 16, 3, 1) := ⟨_, rfl, by decide, (tbi2 467 (by decide +kernel))⟩
set_option maxRecDepth 100000 in
theorem zFL_e26 : zflOK (3, 20, 3, 2) := ⟨_, rfl, by decide, (tbi2 469 (by decide +kernel))⟩
set_option maxRecDepth 100000 in
theorem zFL_e27 : zflOK (4, 7, 4, 0) := ⟨_, rfl, by decide, (tbi2 649 (by decide +kernel))⟩
set_option maxRecDepth 100000 in
theorem zFL_e28 : zflOK (4, 13, 4, 1) := ⟨_, rfl, by decide, (tbi2 651 (by decide +kernel))⟩
set_option maxRecDepth 100000 in
theorem zFL_e29 : zflOK (4, 17, 4, 2) := ⟨_, rfl, by decide, (tbi2 653 (by decide +kernel))⟩
set_option maxRecDepth 100000 in
theorem zFL_e30 : zflOK (4, 21, 4, 3) := ⟨_, rfl, by decide, (tbi2 655 (by decide +kernel))⟩
set_option maxRecDepth 100000 in
theorem zFL_e31 : zflOK (4, 24, 4, 4) := ⟨_, rfl, by decide, (tbi2 657 (by decide +kernel))⟩
set_option maxRecDepth 100000 in
theorem zFL_e32 : zflOK (5, 12, 5, 0) := ⟨_, rfl, by decide, (tbi2 351 (by decide +kernel))⟩
set_option maxRecDepth 100000 in
theorem zFL_e33 : zflOK (5, 18, 5, 1) := ⟨_, rfl, by decide, (tbi2 353 (by decide +kernel))⟩
set_option maxRecDepth 100000 in
theorem zFL_e34 : zflOK (6, 12, 6, 0) := ⟨_, rfl, by decide, (tbi2 114 (by decide +kernel))⟩
set_option maxRecDepth 100000 in
theorem zFL_e35 : zflOK (6, 18, 6, 1) := ⟨_, rfl, by decide, (tbi2 116 (by decide +kernel))⟩
set_option maxRecDepth 100000 in
theorem zFL_e36 : zflOK (6, 22, 6, 2) := ⟨_, rfl, by decide, (tbi2 117 (by decide +kernel))⟩
set_option maxRecDepth 100000 in
theorem zFL_e37 : zflOK (6, 25, 6, 3) := ⟨_, rfl, by decide, (tbi2 118 (by decide +kernel))⟩
set_option maxRecDepth 100000 in
theorem zFL_e38 : zflOK (6, 28, 6, 4) := ⟨_, rfl, by decide, (tbi2 119 (by decide +kernel))⟩
set_option maxRecDepth 100000 in
theorem zFL_e39 : zflOK (6, 31, 6, 5) := ⟨_, rfl, by decide, (tbi2 120 (by decide +kernel))⟩
def zFL_p0 : zFL_T := [(0, 9, 0, 0), (0, 15, 0, 2), (0, 19, 1, 10), (0, 24, 0, 1), (0, 25, 0, 3), (0, 29, 0, 4), (0, 33, 7, 5), (0, 44, 7, 2), (0, 47, 7, 1), (0, 50, 7, 3), (1, 9, 1, 2), (1, 15, 1, 3), (1, 18, 1, 4), (1, 21, 1, 5), (1, 25, 1, 6), (1, 28, 1, 0), (1, 32, 1, 1), (1, 35, 1, 9), (1, 38, 1, 8), (1, 41, 1, 10), (2, 9, 2, 0), (2, 15, 2, 1), (2, 18, 2, 2), (3, 7, 3, 3), (3, 13, 3, 0), (3, 16, 3, 1), (3, 20, 3, 2), (4, 7, 4, 0), (4, 13, 4, 1), (4, 17, 4, 2), (4, 21, 4, 3), (4, 24, 4, 4), (5, 12, 5, 0), (5, 18, 5, 1), (6, 12, 6, 0), (6, 18, 6, 1), (6, 22, 6, 2), (6, 25, 6, 3), (6, 28, 6, 4), (6, 31, 6, 5)]
theorem zFL_q0 : ∀ q ∈ zFL_p0, zflOK q := List.forall_mem_cons.mpr ⟨zFL_e0, List.forall_mem_cons.mpr ⟨zFL_e1, List.forall_mem_cons.mpr ⟨zFL_e2, List.forall_mem_cons.mpr ⟨zFL_e3, List.forall_mem_cons.mpr ⟨zFL_e4, List.forall_mem_cons.mpr ⟨zFL_e5, List.forall_mem_cons.mpr ⟨zFL_e6, List.forall_mem_cons.mpr ⟨zFL_e7, List.forall_mem_cons.mpr ⟨zFL_e8, List.forall_mem_cons.mpr ⟨zFL_e9, List.forall_mem_cons.mpr ⟨zFL_e10, List.forall_mem_cons.mpr ⟨zFL_e11, List.forall_mem_cons.mpr ⟨zFL_e12, List.forall_mem_cons.mpr ⟨zFL_e13, List.forall_mem_cons.mpr ⟨zFL_e14, List.forall_mem_cons.mpr ⟨zFL_e15, List.forall_mem_cons.mpr ⟨zFL_e16, List.forall_mem_cons.mpr ⟨zFL_e17, List.forall_mem_cons.mpr ⟨zFL_e18, List.forall_mem_cons.mpr ⟨zFL_e19, List.forall_mem_cons.mpr ⟨zFL_e20, List.forall_mem_cons.mpr ⟨zFL_e21, List.forall_mem_cons.mpr ⟨zFL_e22, List.forall_mem_cons.mpr ⟨zFL_e23, List.forall_mem_cons.mpr ⟨zFL_e24, List.forall_mem_cons.mpr ⟨zFL_e25, List.forall_mem_cons.mpr ⟨zFL_e26, List.forall_mem_cons.mpr ⟨zFL_e27, List.forall_mem_cons.mpr ⟨zFL_e28, List.forall_mem_cons.mpr ⟨zFL_e29, List.forall_mem_cons.mpr ⟨zFL_e30, List.forall_mem_cons.mpr ⟨zFL_e31, List.forall_mem_cons.mpr ⟨zFL_e32, List.forall_mem_cons.mpr ⟨zFL_e33, List.forall_mem_cons.mpr ⟨zFL_e34, List.forall_mem_cons.mpr ⟨zFL_e35, List.forall_mem_cons.mpr ⟨zFL_e36, List.forall_mem_cons.mpr ⟨zFL_e37, List.forall_mem_cons.mpr ⟨zFL_e38, List.forall_mem_cons.mpr ⟨zFL_e39, fun _ h => absurd h List.not_mem_nil⟩⟩⟩⟩⟩⟩⟩⟩⟩⟩⟩⟩⟩⟩⟩⟩⟩⟩⟩⟩⟩⟩⟩⟩⟩⟩⟩⟩⟩⟩⟩⟩⟩⟩⟩⟩⟩⟩⟩⟩
set_option maxRecDepth 100000 in
theorem zFL_e40 : zflOK (6, 34, 6, 6) := ⟨_, rfl, by decide, (tbi2 121 (by decide +kernel))⟩
set_option maxRecDepth 100000 in
theorem zFL_e41 : zflOK (6, 37, 1, 7) := ⟨_, rfl, by decide, (tbi2 737 (by decide +kernel))⟩
set_option maxRecDepth 100000 in
theorem zFL_e42 : zflOK (6, 43, 7, 5) := ⟨_, rfl, by decide, (tbi2 74 (by decide +kernel))⟩
set_option maxRecDepth 100000 in
theorem zFL_e43 : zflOK (6, 46, 1, 9) := ⟨_, rfl, by decide, (tbi2 742 (by decide +kernel))⟩
set_option maxRecDepth 100000 in
theorem zFL_e44 : zflOK (6, 49, 7, 0) := ⟨_, rfl, by decide, (tbi2 59 (by decide +kernel))⟩
set_option maxRecDepth 100000 in
theorem zFL_e45 : zflOK (6, 58, 7, 3) := ⟨_, rfl, by decide, (tbi2 69 (by decide +kernel))⟩
set_option maxRecDepth 100000 in
theorem zFL_e46 : zflOK (6, 69, 1, 1) := ⟨_, rfl, by decide, (tbi2 724 (by decide +kernel))⟩
set_option maxRecDepth 100000 in
theorem zFL_e47 : zflOK (6, 79, 1, 6) := ⟨_, rfl, by decide, (tbi2 736 (by decide +kernel))⟩
set_option maxRecDepth 100000 in
theorem zFL_e48 : zflOK (6, 82, 7, 6) := ⟨_, rfl, by decide, (tbi2 76 (by decide +kernel))⟩
set_option maxRecDepth 100000 in
theorem zFL_e49 : zflOK (6, 85, 1, 2) := ⟨_, rfl, by decide, (tbi2 726 (by decide +kernel))⟩
set_option maxRecDepth 100000 in
theorem zFL_e50 : zflOK (6, 88, 1, 3) := ⟨_, rfl, by decide, (tbi2 729 (by decide +kernel))⟩
set_option maxRecDepth 100000 in
theorem zFL_e51 : zflOK (6, 91, 1, 4) := ⟨_, rfl, by decide, (tbi2 732 (by decide +kernel))⟩
set_option maxRecDepth 100000 in
theorem zFL_e52 : zflOK (6, 94, 1, 5) := ⟨_, rfl, by decide, (tbi2 734 (by decide +kernel))⟩
set_option maxRecDepth 100000 in
theorem zFL_e53 : zflOK (6, 120, 2, 2) := ⟨_, rfl, by decide, (tbi2 342 (by decide +kernel))⟩
set_option maxRecDepth 100000 in
theorem zFL_e54 : zflOK (6, 123, 2, 1) := ⟨_, rfl, by decide, (tbi2 339 (by decide +kernel))⟩
set_option maxRecDepth 100000 in
theorem zFL_e55 : zflOK (6, 126, 7, 1) := ⟨_, rfl, by decide, (tbi2 63 (by decide +kernel))⟩
set_option maxRecDepth 100000 in
theorem zFL_e56 : zflOK (6, 133, 7, 7) := ⟨_, rfl, by decide, (tbi2 79 (by decide +kernel))⟩
set_option maxRecDepth 100000 in
theorem zFL_e57 : zflOK (6, 134, 7, 10) := ⟨_, rfl, by decide, (tbi2 85 (by decide +kernel))⟩
set_option maxRecDepth 100000 in
theorem zFL_e58 : zflOK (6, 137, 1, 0) := ⟨_, rfl, by decide, (tbi2 722 (by decide +kernel))⟩
set_option maxRecDepth 100000 in
theorem zFL_e59 : zflOK (6, 140, 7, 9) := ⟨_, rfl, by decide, (tbi2 83 (by decide +kernel))⟩
set_option maxRecDepth 100000 in
theorem zFL_e60 : zflOK (6, 147, 7, 8) := ⟨_, rfl, by decide, (tbi2 81 (by decide +kernel))⟩
set_option maxRecDepth 100000 in
theorem zFL_e61 : zflOK (6, 163, 7, 4) := ⟨_, rfl, by decide, (tbi2 71 (by decide +kernel))⟩
set_option maxRecDepth 100000 in
theorem zFL_e62 : zflOK (6, 178, 7, 2) := ⟨_, rfl, by decide, (tbi2 66 (by decide +kernel))⟩
set_option maxRecDepth 100000 in
theorem zFL_e63 : zflOK (6, 181, 7, 11) := ⟨_, rfl, by decide, (tbi2 87 (by decide +kernel))⟩
set_option maxRecDepth 100000 in
theorem zFL_e64 : zflOK (7, 9, 7, 6) := ⟨_, rfl, by decide, (tbi2 75 (by decide +kernel))⟩
set_option maxRecDepth 100000 in
theorem zFL_e65 : zflOK (7, 15, 7, 7) := ⟨_, rfl, by decide, (tbi2 78 (by decide +kernel))⟩
set_option maxRecDepth 100000 in
theorem zFL_e66 : zflOK (7, 18, 7, 8) := ⟨_, rfl, by decide, (tbi2 80 (by decide +kernel))⟩
set_option maxRecDepth 100000 in
theorem zFL_e67 : zflOK (7, 21, 7, 9) := ⟨_, rfl, by decide, (tbi2 82 (by decide +kernel))⟩
set_option maxRecDepth 100000 in
theorem zFL_e68 : zflOK (7, 24, 7, 10) := ⟨_, rfl, by decide, (tbi2 84 (by decide +kernel))⟩
set_option maxRecDepth 100000 in
theorem zFL_e69 : zflOK (7, 27, 7, 11) := ⟨_, rfl, by decide, (tbi2 86 (by decide +kernel))⟩
set_option maxRecDepth 100000 in
theorem zFL_e70 : zflOK (7, 30, 7, 3) := ⟨_, rfl, by decide, (tbi2 68 (by decide +kernel))⟩
set_option maxRecDepth 100000 in
theorem zFL_e71 : zflOK (7, 34, 7, 1) := ⟨_, rfl, by decide, (tbi2 61 (by decide +kernel))⟩
set_option maxRecDepth 100000 in
theorem zFL_e72 : zflOK (7, 37, 7, 2) := ⟨_, rfl, by decide, (tbi2 65 (by decide +kernel))⟩
set_option maxRecDepth 100000 in
theorem zFL_e73 : zflOK (8, 11, 8, 0) := ⟨_, rfl, by decide, (tbi2 137 (by decide +kernel))⟩
set_option maxRecDepth 100000 in
theorem zFL_e74 : zflOK (8, 17, 8, 1) := ⟨_, rfl, by decide, (tbi2 138 (by decide +kernel))⟩
set_option maxRecDepth 100000 in
theorem zFL_e75 : zflOK (8, 23, 8, 2) := ⟨_, rfl, by decide, (tbi2 139 (by decide +kernel))⟩
set_option maxRecDepth 100000 in
theorem zFL_e76 : zflOK (8, 29, 8, 3) := ⟨_, rfl, by decide, (tbi2 140 (by decide +kernel))⟩
set_option maxRecDepth 100000 in
theorem zFL_e77 : zflOK (8, 33, 8, 4) := ⟨_, rfl, by decide, (tbi2 141 (by decide +kernel))⟩
set_option maxRecDepth 100000 in
theorem zFL_e78 : zflOK (8, 40, 8, 5) := ⟨_, rfl, by decide, (tbi2 142 (by decide +kernel))⟩
set_option maxRecDepth 100000 in
theorem zFL_e79 : zflOK (8, 44, 8, 6) := ⟨_, rfl, by decide, (tbi2 143 (by decide +kernel))⟩
def zFL_p1 : zFL_T := [(6, 34, 6, 6), (6, 37, 1, 7), (6, 43, 7, 5), (6, 46, 1, 9), (6, 49, 7, 0), (6, 58, 7, 3), (6, 69, 1, 1), (6, 79, 1, 6), (6, 82, 7, 6), (6, 85, 1, 2), (6, 88, 1, 3), (6, 91, 1, 4), (6, 94, 1, 5), (6, 120, 2, 2), (6, 123, 2, 1), (6, 126, 7, 1), (6, 133, 7, 7), (6, 134, 7, 10), (6, 137, 1, 0), (6, 140, 7, 9), (6, 147, 7, 8), (6, 163, 7, 4), (6, 178, 7, 2), (6, 181, 7, 11), (7, 9, 7, 6), (7, 15, 7, 7), (7, 18, 7, 8), (7, 21, 7, 9), (7, 24, 7, 10), (7, 27, 7, 11), (7, 30, 7, 3), (7, 34, 7, 1), (7, 37, 7, 2), (8, 11, 8, 0), (8, 17, 8, 1), (8, 23, 8, 2), (8, 29, 8, 3), (8, 33, 8, 4), (8, 40, 8, 5), (8, 44, 8, 6)]
theorem zFL_q1 : ∀ q ∈ zFL_p1, zflOK q := List.forall_mem_cons.mpr ⟨zFL_e40, List.forall_mem_cons.mpr ⟨zFL_e41, List.forall_mem_cons.mpr ⟨zFL_e42, List.forall_mem_cons.mpr ⟨zFL_e43, List.forall_mem_cons.mpr ⟨zFL_e44, List.forall_mem_cons.mpr ⟨zFL_e45, List.forall_mem_cons.mpr ⟨zFL_e46, List.forall_mem_cons.mpr ⟨zFL_e47, List.forall_mem_cons.mpr ⟨zFL_e48, List.forall_mem_cons.mpr ⟨zFL_e49, List.forall_mem_cons.mpr ⟨zFL_e50, List.forall_mem_cons.mpr ⟨zFL_e51, List.forall_mem_cons.mpr ⟨zFL_e52, List.forall_mem_cons.mpr ⟨zFL_e53, List.forall_mem_cons.mpr ⟨zFL_e54, List.forall_mem_cons.mpr ⟨zFL_e55, List.forall_mem_cons.mpr ⟨zFL_e56, List.forall_mem_cons.mpr ⟨zFL_e57, List.forall_mem_cons.mpr ⟨zFL_e58, List.forall_mem_cons.mpr ⟨zFL_e59, List.forall_mem_cons.mpr ⟨zFL_e60, List.forall_mem_cons.mpr ⟨zFL_e61, List.forall_mem_cons.mpr ⟨zFL_e62, List.forall_mem_cons.mpr ⟨zFL_e63, List.forall_mem_cons.mpr ⟨zFL_e64, List.forall_mem_cons.mpr ⟨zFL_e65, List.forall_mem_cons.mpr ⟨zFL_e66, List.forall_mem_cons.mpr ⟨zFL_e67, List.forall_mem_cons.mpr ⟨zFL_e68, List.forall_mem_cons.mpr ⟨zFL_e69, List.forall_mem_cons.mpr ⟨zFL_e70, List.forall_mem_cons.mpr ⟨zFL_e71, List.forall_mem_cons.mpr ⟨zFL_e72, List.forall_mem_cons.mpr ⟨zFL_e73, List.forall_mem_cons.mpr ⟨zFL_e74, List.forall_mem_cons.mpr ⟨zFL_e75, List.forall_mem_cons.mpr ⟨zFL_e76, List.forall_mem_cons.mpr ⟨zFL_e77, List.forall_mem_cons.mpr ⟨zFL_e78, List.forall_mem_cons.mpr ⟨zFL_e79, fun _ h => absurd h List.not_mem_nil⟩⟩⟩⟩⟩⟩⟩⟩⟩⟩⟩⟩⟩⟩⟩⟩⟩⟩⟩⟩⟩⟩⟩⟩⟩⟩⟩⟩⟩⟩⟩⟩⟩⟩⟩⟩⟩⟩⟩⟩
set_option maxRecDepth 100000 in
theorem zFL_e80 : zflOK (8, 74, 5, 0) := ⟨_, rfl, by decide, (tbi2 352 (by decide +kernel))⟩
set_option maxRecDepth 100000 in
theorem zFL_e81 : zflOK (8, 92, 5, 1) := ⟨_, rfl, by decide, (tbi2 354 (by decide +kernel))⟩
set_option maxRecDepth 100000 in
theorem zFL_e82 : zflOK (8, 111, 3, 3) := ⟨_, rfl, by decide, (tbi2 472 (by decide +kernel))⟩
set_option maxRecDepth 100000 in
theorem zFL_e83 : zflOK (8, 114, 3, 0) := ⟨_, rfl, by decide, (tbi2 466 (by decide +kernel))⟩
set_option maxRecDepth 100000 in
theorem zFL_e84 : zflOK (8, 117, 8, 7) := ⟨_, rfl, by decide, (tbi2 144 (by decide +kernel))⟩
set_option maxRecDepth 100000 in
theorem zFL_e85 : zflOK (8, 137, 3, 1) := ⟨_, rfl, by decide, (tbi2 468 (by decide +kernel))⟩
set_option maxRecDepth 100000 in
theorem zFL_e86 : zflOK (8, 152, 3, 2) := ⟨_, rfl, by decide, (tbi2 470 (by decide +kernel))⟩
set_option maxRecDepth 100000 in
theorem zFL_e87 : zflOK (8, 157, 2, 1) := ⟨_, rfl, by decide, (tbi2 340 (by decide +kernel))⟩
set_option maxRecDepth 100000 in
theorem zFL_e88 : zflOK (8, 160, 2, 2) := ⟨_, rfl, by decide, (tbi2 343 (by decide +kernel))⟩
set_option maxRecDepth 100000 in
theorem zFL_e89 : zflOK (8, 165, 8, 8) := ⟨_, rfl, by decide, (tbi2 145 (by decide +kernel))⟩
set_option maxRecDepth 100000 in
theorem zFL_e90 : zflOK (8, 179, 1, 2) := ⟨_, rfl, by decide, (tbi2 727 (by decide +kernel))⟩
set_option maxRecDepth 100000 in
theorem zFL_e91 : zflOK (8, 182, 1, 10) := ⟨_, rfl, by decide, (tbi2 746 (by decide +kernel))⟩
set_option maxRecDepth 100000 in
theorem zFL_e92 : zflOK (8, 185, 1, 7) := ⟨_, rfl, by decide, (tbi2 738 (by decide +kernel))⟩
set_option maxRecDepth 100000 in
theorem zFL_e93 : zflOK (8, 190, 1, 8) := ⟨_, rfl, by decide, (tbi2 740 (by decide +kernel))⟩
set_option maxRecDepth 100000 in
theorem zFL_e94 : zflOK (8, 195, 1, 3) := ⟨_, rfl, by decide, (tbi2 730 (by decide +kernel))⟩
set_option maxRecDepth 100000 in
theorem zFL_e95 : zflOK (8, 204, 1, 9) := ⟨_, rfl, by decide, (tbi2 743 (by decide +kernel))⟩
set_option maxRecDepth 100000 in
theorem zFL_e96 : zflOK (8, 228, 8, 9) := ⟨_, rfl, by decide, (tbi2 146 (by decide +kernel))⟩
set_option maxRecDepth 100000 in
theorem zFL_e97 : zflOK (8, 248, 4, 4) := ⟨_, rfl, by decide, (tbi2 658 (by decide +kernel))⟩
set_option maxRecDepth 100000 in
theorem zFL_e98 : zflOK (8, 254, 0, 4) := ⟨_, rfl, by decide, (tbi2 686 (by decide +kernel))⟩
set_option maxRecDepth 100000 in
theorem zFL_e99 : zflOK (8, 260, 7, 2) := ⟨_, rfl, by decide, (tbi2 67 (by decide +kernel))⟩
set_option maxRecDepth 100000 in
theorem zFL_e100 : zflOK (8, 271, 0, 0) := ⟨_, rfl, by decide, (tbi2 681 (by decide +kernel))⟩
set_option maxRecDepth 100000 in
theorem zFL_e101 : zflOK (8, 272, 4, 2) := ⟨_, rfl, by decide, (tbi2 654 (by decide +kernel))⟩
set_option maxRecDepth 100000 in
theorem zFL_e102 : zflOK (8, 275, 4, 3) := ⟨_, rfl, by decide, (tbi2 656 (by decide +kernel))⟩
set_option maxRecDepth 100000 in
theorem zFL_e103 : zflOK (8, 287, 7, 0) := ⟨_, rfl, by decide, (tbi2 60 (by decide +kernel))⟩
set_option maxRecDepth 100000 in
theorem zFL_e104 : zflOK (8, 288, 7, 6) := ⟨_, rfl, by decide, (tbi2 77 (by decide +kernel))⟩
set_option maxRecDepth 100000 in
theorem zFL_e105 : zflOK (8, 291, 4, 1) := ⟨_, rfl, by decide, (tbi2 652 (by decide +kernel))⟩
set_option maxRecDepth 100000 in
theorem zFL_e106 : zflOK (8, 295, 4, 0) := ⟨_, rfl, by decide, (tbi2 650 (by decide +kernel))⟩
set_option maxRecDepth 100000 in
theorem zFL_e107 : zflOK (8, 302, 6, 0) := ⟨_, rfl, by decide, (tbi2 115 (by decide +kernel))⟩
set_option maxRecDepth 100000 in
theorem zFL_e108 : zflOK (8, 305, 7, 4) := ⟨_, rfl, by decide, (tbi2 72 (by decide +kernel))⟩
set_option maxRecDepth 100000 in
theorem zFL_e109 : zflOK (8, 357, 8, 10) := ⟨_, rfl, by decide, (tbi2 147 (by decide +kernel))⟩
def zFL_p2 : zFL_T := [(8, 74, 5, 0), (8, 92, 5, 1), (8, 111, 3, 3), (8, 114, 3, 0), (8, 117, 8, 7), (8, 137, 3, 1), (8, 152, 3, 2), (8, 157, 2, 1), (8, 160, 2, 2), (8, 165, 8, 8), (8, 179, 1, 2), (8, 182, 1, 10), (8, 185, 1, 7), (8, 190, 1, 8), (8, 195, 1, 3), (8, 204, 1, 9), (8, 228, 8, 9), (8, 248, 4, 4), (8, 254, 0, 4), (8, 260, 7, 2), (8, 271, 0, 0), (8, 272, 4, 2), (8, 275, 4, 3), (8, 287, 7, 0), (8, 288, 7, 6), (8, 291, 4, 1), (8, 295, 4, 0), (8, 302, 6, 0), (8, 305, 7, 4), (8, 357, 8, 10)]
theorem zFL_q2 : ∀ q ∈ zFL_p2, zflOK q := List.forall_mem_cons.mpr ⟨zFL_e80, List.forall_mem_cons.mpr ⟨zFL_e81, List.forall_mem_cons.mpr ⟨zFL_e82, List.forall_mem_cons.mpr ⟨zFL_e83, List.forall_mem_cons.mpr ⟨zFL_e84, List.forall_mem_cons.mpr ⟨zFL_e85, List.forall_mem_cons.mpr ⟨zFL_e86, List.forall_mem_cons.mpr ⟨zFL_e87, List.forall_mem_cons.mpr ⟨zFL_e88, List.forall_mem_cons.mpr ⟨zFL_e89, List.forall_mem_cons.mpr ⟨zFL_e90, List.forall_mem_cons.mpr ⟨zFL_e91, List.forall_mem_cons.mpr ⟨zFL_e92, List.forall_mem_cons.mpr ⟨zFL_e93, List.forall_mem_cons.mpr ⟨zFL_e94, List.forall_mem_cons.mpr ⟨zFL_e95, List.forall_mem_cons.mpr ⟨zFL_e96, List.forall_mem_cons.mpr ⟨zFL_e97, List.forall_mem_cons.mpr ⟨zFL_e98, List.forall_mem_cons.mpr ⟨zFL_e99, List.forall_mem_cons.mpr ⟨zFL_e100, List.forall_mem_cons.mpr ⟨zFL_e101, List.forall_mem_cons.mpr ⟨zFL_e102, List.forall_mem_cons.mpr ⟨zFL_e103, List.forall_mem_cons.mpr ⟨zFL_e104, List.forall_mem_cons.mpr ⟨zFL_e105, List.forall_mem_cons.mpr ⟨zFL_e106, List.forall_mem_cons.mpr ⟨zFL_e107, List.forall_mem_cons.mpr ⟨zFL_e108, List.forall_mem_cons.mpr ⟨zFL_e109, fun _ h => absurd h List.not_mem_nil⟩⟩⟩⟩⟩⟩⟩⟩⟩⟩⟩⟩⟩⟩⟩⟩⟩⟩⟩⟩⟩⟩⟩⟩⟩⟩⟩⟩⟩⟩
def zFLA : zFL_T := zFL_p0 ++ (zFL_p1 ++ (zFL_p2))
theorem zFL_all : ∀ q ∈ zFLA, zflOK q := List.forall_mem_append.mpr ⟨zFL_q0, List.forall_mem_append.mpr ⟨zFL_q1, zFL_q2⟩⟩
def zmOK (f : Nat) : Prop := zcode zPr zZ f ∈ zTB ∧ Jvm.Cond.initialized (zyn zZ f).cls ∈ zTB ∧ (zyn zZ f).cls ≠ "java/lang/invoke/MethodHandle" ∧ (zyn zZ f).cls ≠ "java/lang/invoke/VarHandle"
abbrev zML_T : Type := List (Nat)
set_option maxRecDepth 100000 in
theorem zML_e0 : zmOK 0 := ⟨tbi 678 (show lw_tbl[678]? = some (Jvm.Cond.code yX0_init prog_2_method_1_code 5 (none)) from rfl) rfl, (tbi2 29 (by decide +kernel)), by decide +kernel, by decide +kernel⟩
set_option maxRecDepth 100000 in
theorem zML_e1 : zmOK 1 := ⟨tbi 556 (show lw_tbl[556]? = some (Jvm.Cond.code yX0_serves prog_2_method_2_code 3 (some .boolean)) from rfl) rfl, (tbi2 29 (by decide +kernel)), by decide +kernel, by decide +kernel⟩
set_option maxRecDepth 100000 in
theorem zML_e2 : zmOK 2 := ⟨tbi 295 (show lw_tbl[295]? = some (Jvm.Cond.code yX0_tell prog_2_method_3_code 2 (some .int)) from rfl) rfl, (tbi2 29 (by decide +kernel)), by decide +kernel, by decide +kernel⟩
set_option maxRecDepth 100000 in
theorem zML_e3 : zmOK 3 := ⟨tbi 719 (show lw_tbl[719]? = some (Jvm.Cond.code yX1_init prog_3_method_1_code 4 (none)) from rfl) rfl, (tbi2 30 (by decide +kernel)), by decide +kernel, by decide +kernel⟩
set_option maxRecDepth 100000 in
theorem zML_e4 : zmOK 4 := ⟨tbi 532 (show lw_tbl[532]? = some (Jvm.Cond.code yX1_add prog_3_method_2_code 4 (some .int)) from rfl) rfl, (tbi2 30 (by decide +kernel)), by decide +kernel, by decide +kernel⟩
set_option maxRecDepth 100000 in
theorem zML_e5 : zmOK 5 := ⟨tbi 335 (show lw_tbl[335]? = some (Jvm.Cond.code yX2_init prog_4_method_1_code 1 (none)) from rfl) rfl, (tbi2 23 (by decide +kernel)), by decide +kernel, by decide +kernel⟩
set_option maxRecDepth 100000 in
theorem zML_e6 : zmOK 6 := ⟨tbi 507 (show lw_tbl[507]? = some (Jvm.Cond.code yX2_has prog_4_method_2_code 2 (some .boolean)) from rfl) rfl, (tbi2 23 (by decide +kernel)), by decide +kernel, by decide +kernel⟩
set_option maxRecDepth 100000 in
theorem zML_e7 : zmOK 7 := ⟨tbi 376 (show lw_tbl[376]? = some (Jvm.Cond.code yX2_put prog_4_method_3_code 4 (none)) from rfl) rfl, (tbi2 23 (by decide +kernel)), by decide +kernel, by decide +kernel⟩
set_option maxRecDepth 100000 in
theorem zML_e8 : zmOK 8 := ⟨tbi 394 (show lw_tbl[394]? = some (Jvm.Cond.code yX2_conceal prog_4_method_4_code 2 (none)) from rfl) rfl, (tbi2 23 (by decide +kernel)), by decide +kernel, by decide +kernel⟩
set_option maxRecDepth 100000 in
theorem zML_e9 : zmOK 9 := ⟨tbi 380 (show lw_tbl[380]? = some (Jvm.Cond.code yX2_become prog_4_method_5_code 5 (none)) from rfl) rfl, (tbi2 23 (by decide +kernel)), by decide +kernel, by decide +kernel⟩
set_option maxRecDepth 100000 in
theorem zML_e10 : zmOK 10 := ⟨tbi 459 (show lw_tbl[459]? = some (Jvm.Cond.code yX2_layOver prog_4_method_6_code 3 (none)) from rfl) rfl, (tbi2 23 (by decide +kernel)), by decide +kernel, by decide +kernel⟩
set_option maxRecDepth 100000 in
theorem zML_e11 : zmOK 11 := ⟨tbi 410 (show lw_tbl[410]? = some (Jvm.Cond.code yX2_sameAs prog_4_method_7_code 2 (some .boolean)) from rfl) rfl, (tbi2 23 (by decide +kernel)), by decide +kernel, by decide +kernel⟩
set_option maxRecDepth 100000 in
theorem zML_e12 : zmOK 12 := ⟨tbi 414 (show lw_tbl[414]? = some (Jvm.Cond.code yX2_sameIn prog_4_method_8_code 5 (some .boolean)) from rfl) rfl, (tbi2 23 (by decide +kernel)), by decide +kernel, by decide +kernel⟩
set_option maxRecDepth 100000 in
theorem zML_e13 : zmOK 13 := ⟨tbi 463 (show lw_tbl[463]? = some (Jvm.Cond.code yX3_init prog_5_method_1_code 4 (none)) from rfl) rfl, (tbi2 27 (by decide +kernel)), by decide +kernel, by decide +kernel⟩
set_option maxRecDepth 100000 in
theorem zML_e14 : zmOK 14 := ⟨tbi 273 (show lw_tbl[273]? = some (Jvm.Cond.code yX3_holds prog_5_method_2_code 3 (some .boolean)) from rfl) rfl, (tbi2 27 (by decide +kernel)), by decide +kernel, by decide +kernel⟩
set_option maxRecDepth 100000 in
theorem zML_e15 : zmOK 15 := ⟨tbi 647 (show lw_tbl[647]? = some (Jvm.Cond.code yX4_init prog_6_method_1_code 6 (none)) from rfl) rfl, (tbi2 28 (by decide +kernel)), by decide +kernel, by decide +kernel⟩
set_option maxRecDepth 100000 in
theorem zML_e16 : zmOK 16 := ⟨tbi 329 (show lw_tbl[329]? = some (Jvm.Cond.code yX5_init prog_7_method_1_code 1 (none)) from rfl) rfl, (tbi2 22 (by decide +kernel)), by decide +kernel, by decide +kernel⟩
set_option maxRecDepth 100000 in
theorem zML_e17 : zmOK 17 := ⟨tbi 51 (show lw_tbl[51]? = some (Jvm.Cond.code yX6_init prog_8_method_1_code 1 (none)) from rfl) rfl, (tbi2 16 (by decide +kernel)), by decide +kernel, by decide +kernel⟩
set_option maxRecDepth 100000 in
theorem zML_e18 : zmOK 18 := ⟨tbi 675 (show lw_tbl[675]? = some (Jvm.Cond.code yX6_handOut prog_8_method_2_code 2 (some (.object "PressBox$Sheets"))) from rfl) rfl, (tbi2 16 (by decide +kernel)), by decide +kernel, by decide +kernel⟩
set_option maxRecDepth 100000 in
theorem zML_e19 : zmOK 19 := ⟨tbi 565 (show lw_tbl[565]? = some (Jvm.Cond.code yX6_set prog_8_method_3_code 4 (none)) from rfl) rfl, (tbi2 16 (by decide +kernel)), by decide +kernel, by decide +kernel⟩
set_option maxRecDepth 100000 in
theorem zML_e20 : zmOK 20 := ⟨tbi 569 (show lw_tbl[569]? = some (Jvm.Cond.code yX6_measureWords prog_8_method_4_code 6 (none)) from rfl) rfl, (tbi2 16 (by decide +kernel)), by decide +kernel, by decide +kernel⟩
set_option maxRecDepth 100000 in
theorem zML_e21 : zmOK 21 := ⟨tbi 573 (show lw_tbl[573]? = some (Jvm.Cond.code yX6_widthOf prog_8_method_5_code 8 (some .int)) from rfl) rfl, (tbi2 16 (by decide +kernel)), by decide +kernel, by decide +kernel⟩
set_option maxRecDepth 100000 in
theorem zML_e22 : zmOK 22 := ⟨tbi 579 (show lw_tbl[579]? = some (Jvm.Cond.code yX6_letterWidth prog_8_method_6_code 6 (some .int)) from rfl) rfl, (tbi2 16 (by decide +kernel)), by decide +kernel, by decide +kernel⟩
set_option maxRecDepth 100000 in
theorem zML_e23 : zmOK 23 := ⟨tbi 584 (show lw_tbl[584]? = some (Jvm.Cond.code yX6_spaceBehind prog_8_method_7_code 5 (some .int)) from rfl) rfl, (tbi2 16 (by decide +kernel)), by decide +kernel, by decide +kernel⟩
set_option maxRecDepth 100000 in
theorem zML_e24 : zmOK 24 := ⟨tbi 588 (show lw_tbl[588]? = some (Jvm.Cond.code yX6_breakLines prog_8_method_8_code 6 (none)) from rfl) rfl, (tbi2 16 (by decide +kernel)), by decide +kernel, by decide +kernel⟩
set_option maxRecDepth 100000 in
theorem zML_e25 : zmOK 25 := ⟨tbi 596 (show lw_tbl[596]? = some (Jvm.Cond.code yX6_beginLine prog_8_method_9_code 5 (none)) from rfl) rfl, (tbi2 16 (by decide +kernel)), by decide +kernel, by decide +kernel⟩
set_option maxRecDepth 100000 in
theorem zML_e26 : zmOK 26 := ⟨tbi 592 (show lw_tbl[592]? = some (Jvm.Cond.code yX6_figures prog_8_method_10_code 2 (some .int)) from rfl) rfl, (tbi2 16 (by decide +kernel)), by decide +kernel, by decide +kernel⟩
set_option maxRecDepth 100000 in
theorem zML_e27 : zmOK 27 := ⟨tbi 600 (show lw_tbl[600]? = some (Jvm.Cond.code yX6_weighLines prog_8_method_11_code 3 (none)) from rfl) rfl, (tbi2 16 (by decide +kernel)), by decide +kernel, by decide +kernel⟩
set_option maxRecDepth 100000 in
theorem zML_e28 : zmOK 28 := ⟨tbi 608 (show lw_tbl[608]? = some (Jvm.Cond.code yX6_borderPenalty prog_8_method_12_code 4 (some .int)) from rfl) rfl, (tbi2 16 (by decide +kernel)), by decide +kernel, by decide +kernel⟩
set_option maxRecDepth 100000 in
theorem zML_e29 : zmOK 29 := ⟨tbi 616 (show lw_tbl[616]? = some (Jvm.Cond.code yX6_breakPages prog_8_method_13_code 3 (none)) from rfl) rfl, (tbi2 16 (by decide +kernel)), by decide +kernel, by decide +kernel⟩
set_option maxRecDepth 100000 in
theorem zML_e30 : zmOK 30 := ⟨tbi 620 (show lw_tbl[620]? = some (Jvm.Cond.code yX6_choosePage prog_8_method_14_code 6 (none)) from rfl) rfl, (tbi2 16 (by decide +kernel)), by decide +kernel, by decide +kernel⟩
set_option maxRecDepth 100000 in
theorem zML_e31 : zmOK 31 := ⟨tbi 624 (show lw_tbl[624]? = some (Jvm.Cond.code yX6_penaltiesWith prog_8_method_15_code 4 (some .int)) from rfl) rfl, (tbi2 16 (by decide +kernel)), by decide +kernel, by decide +kernel⟩
set_option maxRecDepth 100000 in
theorem zML_e32 : zmOK 32 := ⟨tbi 631 (show lw_tbl[631]? = some (Jvm.Cond.code yX6_numberPages prog_8_method_16_code 3 (none)) from rfl) rfl, (tbi2 16 (by decide +kernel)), by decide +kernel, by decide +kernel⟩
set_option maxRecDepth 100000 in
theorem zML_e33 : zmOK 33 := ⟨tbi 635 (show lw_tbl[635]? = some (Jvm.Cond.code yX6_renewReferences prog_8_method_17_code 5 (some .boolean)) from rfl) rfl, (tbi2 16 (by decide +kernel)), by decide +kernel, by decide +kernel⟩
set_option maxRecDepth 100000 in
theorem zML_e34 : zmOK 34 := ⟨tbi 639 (show lw_tbl[639]? = some (Jvm.Cond.code yX6_findBegins prog_8_method_18_code 2 (none)) from rfl) rfl, (tbi2 16 (by decide +kernel)), by decide +kernel, by decide +kernel⟩
set_option maxRecDepth 100000 in
theorem zML_e35 : zmOK 35 := ⟨tbi 57 (show lw_tbl[57]? = some (Jvm.Cond.code yX7_init prog_9_method_1_code 1 (none)) from rfl) rfl, (tbi2 17 (by decide +kernel)), by decide +kernel, by decide +kernel⟩
set_option maxRecDepth 100000 in
theorem zML_e36 : zmOK 36 := ⟨tbi 643 (show lw_tbl[643]? = some (Jvm.Cond.code yX7_cost prog_9_method_2_code 1 (some .int)) from rfl) rfl, (tbi2 17 (by decide +kernel)), by decide +kernel, by decide +kernel⟩
set_option maxRecDepth 100000 in
theorem zML_e37 : zmOK 37 := ⟨tbi 709 (show lw_tbl[709]? = some (Jvm.Cond.code yX7_tellOfLine prog_9_method_3_code 3 (some .int)) from rfl) rfl, (tbi2 17 (by decide +kernel)), by decide +kernel, by decide +kernel⟩
set_option maxRecDepth 100000 in
theorem zML_e38 : zmOK 38 := ⟨tbi 612 (show lw_tbl[612]? = some (Jvm.Cond.code yX7_opensParagraph prog_9_method_4_code 2 (some .boolean)) from rfl) rfl, (tbi2 17 (by decide +kernel)), by decide +kernel, by decide +kernel⟩
set_option maxRecDepth 100000 in
theorem zML_e39 : zmOK 39 := ⟨tbi 604 (show lw_tbl[604]? = some (Jvm.Cond.code yX7_closesParagraph prog_9_method_5_code 2 (some .boolean)) from rfl) rfl, (tbi2 17 (by decide +kernel)), by decide +kernel, by decide +kernel⟩
def zML_p0 : zML_T := [0, 1, 2, 3, 4, 5, 6, 7, 8, 9, 10, 11, 12, 13, 14, 15, 16, 17, 18, 19, 20, 21, 22, 23, 24, 25, 26, 27, 28, 29, 30, 31, 32, 33, 34, 35, 36, 37, 38, 39]
theorem zML_q0 : ∀ q ∈ zML_p0, zmOK q := List.forall_mem_cons.mpr ⟨zML_e0, List.forall_mem_cons.mpr ⟨zML_e1, List.forall_mem_cons.mpr ⟨zML_e2, List.forall_mem_cons.mpr ⟨zML_e3, List.forall_mem_cons.mpr ⟨zML_e4, List.forall_mem_cons.mpr ⟨zML_e5, List.forall_mem_cons.mpr ⟨zML_e6, List.forall_mem_cons.mpr ⟨zML_e7, List.forall_mem_cons.mpr ⟨zML_e8, List.forall_mem_cons.mpr ⟨zML_e9, List.forall_mem_cons.mpr ⟨zML_e10, List.forall_mem_cons.mpr ⟨zML_e11, List.forall_mem_cons.mpr ⟨zML_e12, List.forall_mem_cons.mpr ⟨zML_e13, List.forall_mem_cons.mpr ⟨zML_e14, List.forall_mem_cons.mpr ⟨zML_e15, List.forall_mem_cons.mpr ⟨zML_e16, List.forall_mem_cons.mpr ⟨zML_e17, List.forall_mem_cons.mpr ⟨zML_e18, List.forall_mem_cons.mpr ⟨zML_e19, List.forall_mem_cons.mpr ⟨zML_e20, List.forall_mem_cons.mpr ⟨zML_e21, List.forall_mem_cons.mpr ⟨zML_e22, List.forall_mem_cons.mpr ⟨zML_e23, List.forall_mem_cons.mpr ⟨zML_e24, List.forall_mem_cons.mpr ⟨zML_e25, List.forall_mem_cons.mpr ⟨zML_e26, List.forall_mem_cons.mpr ⟨zML_e27, List.forall_mem_cons.mpr ⟨zML_e28, List.forall_mem_cons.mpr ⟨zML_e29, List.forall_mem_cons.mpr ⟨zML_e30, List.forall_mem_cons.mpr ⟨zML_e31, List.forall_mem_cons.mpr ⟨zML_e32, List.forall_mem_cons.mpr ⟨zML_e33, List.forall_mem_cons.mpr ⟨zML_e34, List.forall_mem_cons.mpr ⟨zML_e35, List.forall_mem_cons.mpr ⟨zML_e36, List.forall_mem_cons.mpr ⟨zML_e37, List.forall_mem_cons.mpr ⟨zML_e38, List.forall_mem_cons.mpr ⟨zML_e39, fun _ h => absurd h List.not_mem_nil⟩⟩⟩⟩⟩⟩⟩⟩⟩⟩⟩⟩⟩⟩⟩⟩⟩⟩⟩⟩⟩⟩⟩⟩⟩⟩⟩⟩⟩⟩⟩⟩⟩⟩⟩⟩⟩⟩⟩⟩
set_option maxRecDepth 100000 in
theorem zML_e40 : zmOK 40 := ⟨tbi 823 (show lw_tbl[823]? = some (Jvm.Cond.code yX7_pagesUnlike prog_9_method_6_code 8 (some .int)) from rfl) rfl, (tbi2 17 (by decide +kernel)), by decide +kernel, by decide +kernel⟩
set_option maxRecDepth 100000 in
theorem zML_e41 : zmOK 41 := ⟨tbi 827 (show lw_tbl[827]? = some (Jvm.Cond.code yX7_endOfPage prog_9_method_7_code 4 (some .int)) from rfl) rfl, (tbi2 17 (by decide +kernel)), by decide +kernel, by decide +kernel⟩
set_option maxRecDepth 100000 in
theorem zML_e42 : zmOK 42 := ⟨tbi 831 (show lw_tbl[831]? = some (Jvm.Cond.code yX7_sameLines prog_9_method_8_code 8 (some .boolean)) from rfl) rfl, (tbi2 17 (by decide +kernel)), by decide +kernel, by decide +kernel⟩
set_option maxRecDepth 100000 in
theorem zML_e43 : zmOK 43 := ⟨tbi 35 (show lw_tbl[35]? = some (Jvm.Cond.code yX8_init prog_1_method_1_code 1 (none)) from rfl) rfl, (tbi2 15 (by decide +kernel)), by decide +kernel, by decide +kernel⟩
set_option maxRecDepth 100000 in
theorem zML_e44 : zmOK 44 := ⟨tbi 309 (show lw_tbl[309]? = some (Jvm.Cond.code yX8_layer prog_1_method_2_code 1 (some .int)) from rfl) rfl, (tbi2 15 (by decide +kernel)), by decide +kernel, by decide +kernel⟩
set_option maxRecDepth 100000 in
theorem zML_e45 : zmOK 45 := ⟨tbi 366 (show lw_tbl[366]? = some (Jvm.Cond.code yX8_font prog_1_method_3_code 6 (none)) from rfl) rfl, (tbi2 15 (by decide +kernel)), by decide +kernel, by decide +kernel⟩
set_option maxRecDepth 100000 in
theorem zML_e46 : zmOK 46 := ⟨tbi 384 (show lw_tbl[384]? = some (Jvm.Cond.code yX8_pack prog_1_method_4_code 6 (none)) from rfl) rfl, (tbi2 15 (by decide +kernel)), by decide +kernel, by decide +kernel⟩
set_option maxRecDepth 100000 in
theorem zML_e47 : zmOK 47 := ⟨tbi 389 (show lw_tbl[389]? = some (Jvm.Cond.code yX8_hide prog_1_method_5_code 4 (none)) from rfl) rfl, (tbi2 15 (by decide +kernel)), by decide +kernel, by decide +kernel⟩
set_option maxRecDepth 100000 in
theorem zML_e48 : zmOK 48 := ⟨tbi 406 (show lw_tbl[406]? = some (Jvm.Cond.code yX8_seal prog_1_method_6_code 5 (some .int)) from rfl) rfl, (tbi2 15 (by decide +kernel)), by decide +kernel, by decide +kernel⟩
set_option maxRecDepth 100000 in
theorem zML_e49 : zmOK 49 := ⟨tbi 420 (show lw_tbl[420]? = some (Jvm.Cond.code yX8_image prog_1_method_7_code 5 (some .int)) from rfl) rfl, (tbi2 15 (by decide +kernel)), by decide +kernel, by decide +kernel⟩
set_option maxRecDepth 100000 in
theorem zML_e50 : zmOK 50 := ⟨tbi 485 (show lw_tbl[485]? = some (Jvm.Cond.code yX8_drop prog_1_method_8_code 3 (some .int)) from rfl) rfl, (tbi2 15 (by decide +kernel)), by decide +kernel, by decide +kernel⟩
set_option maxRecDepth 100000 in
theorem zML_e51 : zmOK 51 := ⟨tbi 174 (show lw_tbl[174]? = some (Jvm.Cond.code yX8_ofLayer prog_1_method_9_code 4 (some .int)) from rfl) rfl, (tbi2 15 (by decide +kernel)), by decide +kernel, by decide +kernel⟩
set_option maxRecDepth 100000 in
theorem zML_e52 : zmOK 52 := ⟨tbi 502 (show lw_tbl[502]? = some (Jvm.Cond.code yX8_file prog_1_method_10_code 5 (some .int)) from rfl) rfl, (tbi2 15 (by decide +kernel)), by decide +kernel, by decide +kernel⟩
set_option maxRecDepth 100000 in
theorem zML_e53 : zmOK 53 := ⟨tbi 713 (show lw_tbl[713]? = some (Jvm.Cond.code yX8_document prog_1_method_11_code 3 (some .int)) from rfl) rfl, (tbi2 15 (by decide +kernel)), by decide +kernel, by decide +kernel⟩
set_option maxRecDepth 100000 in
theorem zML_e54 : zmOK 54 := ⟨tbi 511 (show lw_tbl[511]? = some (Jvm.Cond.code yX8_style prog_1_method_12_code 6 (some .int)) from rfl) rfl, (tbi2 15 (by decide +kernel)), by decide +kernel, by decide +kernel⟩
set_option maxRecDepth 100000 in
theorem zML_e55 : zmOK 55 := ⟨tbi 516 (show lw_tbl[516]? = some (Jvm.Cond.code yX8_include prog_1_method_13_code 7 (some .boolean)) from rfl) rfl, (tbi2 15 (by decide +kernel)), by decide +kernel, by decide +kernel⟩
set_option maxRecDepth 100000 in
theorem zML_e56 : zmOK 56 := ⟨tbi 520 (show lw_tbl[520]? = some (Jvm.Cond.code yX8_paragraph prog_1_method_14_code 4 (some .int)) from rfl) rfl, (tbi2 15 (by decide +kernel)), by decide +kernel, by decide +kernel⟩
set_option maxRecDepth 100000 in
theorem zML_e57 : zmOK 57 := ⟨tbi 863 (show lw_tbl[863]? = some (Jvm.Cond.code yX8_word prog_1_method_15_code 5 (some .int)) from rfl) rfl, (tbi2 15 (by decide +kernel)), by decide +kernel, by decide +kernel⟩
set_option maxRecDepth 100000 in
theorem zML_e58 : zmOK 58 := ⟨tbi 526 (show lw_tbl[526]? = some (Jvm.Cond.code yX8_reference prog_1_method_16_code 4 (some .int)) from rfl) rfl, (tbi2 15 (by decide +kernel)), by decide +kernel, by decide +kernel⟩
set_option maxRecDepth 100000 in
theorem zML_e59 : zmOK 59 := ⟨tbi 277 (show lw_tbl[277]? = some (Jvm.Cond.code yX8_version prog_1_method_17_code 2 (some .int)) from rfl) rfl, (tbi2 15 (by decide +kernel)), by decide +kernel, by decide +kernel⟩
set_option maxRecDepth 100000 in
theorem zML_e60 : zmOK 60 := ⟨tbi 536 (show lw_tbl[536]? = some (Jvm.Cond.code yX8_quota prog_1_method_18_code 3 (some .int)) from rfl) rfl, (tbi2 15 (by decide +kernel)), by decide +kernel, by decide +kernel⟩
set_option maxRecDepth 100000 in
theorem zML_e61 : zmOK 61 := ⟨tbi 547 (show lw_tbl[547]? = some (Jvm.Cond.code yX8_run prog_1_method_19_code 7 (some .int)) from rfl) rfl, (tbi2 15 (by decide +kernel)), by decide +kernel, by decide +kernel⟩
set_option maxRecDepth 100000 in
theorem zML_e62 : zmOK 62 := ⟨tbi 398 (show lw_tbl[398]? = some (Jvm.Cond.code yX8_write prog_1_method_20_code 6 (none)) from rfl) rfl, (tbi2 15 (by decide +kernel)), by decide +kernel, by decide +kernel⟩
set_option maxRecDepth 100000 in
theorem zML_e63 : zmOK 63 := ⟨tbi 286 (show lw_tbl[286]? = some (Jvm.Cond.code yX8_job prog_1_method_21_code 4 (some .int)) from rfl) rfl, (tbi2 15 (by decide +kernel)), by decide +kernel, by decide +kernel⟩
set_option maxRecDepth 100000 in
theorem zML_e64 : zmOK 64 := ⟨tbi 701 (show lw_tbl[701]? = some (Jvm.Cond.code yX8_line prog_1_method_22_code 5 (some .int)) from rfl) rfl, (tbi2 15 (by decide +kernel)), by decide +kernel, by decide +kernel⟩
set_option maxRecDepth 100000 in
theorem zML_e65 : zmOK 65 := ⟨tbi 842 (show lw_tbl[842]? = some (Jvm.Cond.code yX8_shows prog_1_method_23_code 4 (some .int)) from rfl) rfl, (tbi2 15 (by decide +kernel)), by decide +kernel, by decide +kernel⟩
set_option maxRecDepth 100000 in
theorem zML_e66 : zmOK 66 := ⟨tbi 835 (show lw_tbl[835]? = some (Jvm.Cond.code yX8_anew prog_1_method_24_code 4 (some .int)) from rfl) rfl, (tbi2 15 (by decide +kernel)), by decide +kernel, by decide +kernel⟩
set_option maxRecDepth 100000 in
theorem zML_e67 : zmOK 67 := ⟨tbi 815 (show lw_tbl[815]? = some (Jvm.Cond.code yX8_penalties prog_1_method_25_code 3 (some .int)) from rfl) rfl, (tbi2 15 (by decide +kernel)), by decide +kernel, by decide +kernel⟩
set_option maxRecDepth 100000 in
theorem zML_e68 : zmOK 68 := ⟨tbi 819 (show lw_tbl[819]? = some (Jvm.Cond.code yX8_differences prog_1_method_26_code 5 (some .int)) from rfl) rfl, (tbi2 15 (by decide +kernel)), by decide +kernel, by decide +kernel⟩
set_option maxRecDepth 100000 in
theorem zML_e69 : zmOK 69 := ⟨tbi 811 (show lw_tbl[811]? = some (Jvm.Cond.code yX8_left prog_1_method_27_code 2 (some .int)) from rfl) rfl, (tbi2 15 (by decide +kernel)), by decide +kernel, by decide +kernel⟩
set_option maxRecDepth 100000 in
theorem zML_e70 : zmOK 70 := ⟨tbi 181 (show lw_tbl[181]? = some (Jvm.Cond.code yX8_within prog_1_method_28_code 3 (some .boolean)) from rfl) rfl, (tbi2 15 (by decide +kernel)), by decide +kernel, by decide +kernel⟩
set_option maxRecDepth 100000 in
theorem zML_e71 : zmOK 71 := ⟨tbi 371 (show lw_tbl[371]? = some (Jvm.Cond.code yX8_checkOpen prog_1_method_29_code 1 (none)) from rfl) rfl, (tbi2 15 (by decide +kernel)), by decide +kernel, by decide +kernel⟩
set_option maxRecDepth 100000 in
theorem zML_e72 : zmOK 72 := ⟨tbi 493 (show lw_tbl[493]? = some (Jvm.Cond.code yX8_checkHeld prog_1_method_30_code 1 (none)) from rfl) rfl, (tbi2 15 (by decide +kernel)), by decide +kernel, by decide +kernel⟩
set_option maxRecDepth 100000 in
theorem zML_e73 : zmOK 73 := ⟨tbi 539 (show lw_tbl[539]? = some (Jvm.Cond.code yX8_checkOwner prog_1_method_31_code 1 (none)) from rfl) rfl, (tbi2 15 (by decide +kernel)), by decide +kernel, by decide +kernel⟩
set_option maxRecDepth 100000 in
theorem zML_e74 : zmOK 74 := ⟨tbi 704 (show lw_tbl[704]? = some (Jvm.Cond.code yX8_checkFromZero prog_1_method_32_code 1 (none)) from rfl) rfl, (tbi2 15 (by decide +kernel)), by decide +kernel, by decide +kernel⟩
set_option maxRecDepth 100000 in
theorem zML_e75 : zmOK 75 := ⟨tbi 178 (show lw_tbl[178]? = some (Jvm.Cond.code yX8_layerAt prog_1_method_33_code 3 (some (.object "PressBox$Layer"))) from rfl) rfl, (tbi2 15 (by decide +kernel)), by decide +kernel, by decide +kernel⟩
set_option maxRecDepth 100000 in
theorem zML_e76 : zmOK 76 := ⟨tbi 489 (show lw_tbl[489]? = some (Jvm.Cond.code yX8_imageAt prog_1_method_34_code 3 (some (.object "PressBox$Image"))) from rfl) rfl, (tbi2 15 (by decide +kernel)), by decide +kernel, by decide +kernel⟩
set_option maxRecDepth 100000 in
theorem zML_e77 : zmOK 77 := ⟨tbi 281 (show lw_tbl[281]? = some (Jvm.Cond.code yX8_documentAt prog_1_method_35_code 3 (some (.object "PressBox$Document"))) from rfl) rfl, (tbi2 15 (by decide +kernel)), by decide +kernel, by decide +kernel⟩
set_option maxRecDepth 100000 in
theorem zML_e78 : zmOK 78 := ⟨tbi 290 (show lw_tbl[290]? = some (Jvm.Cond.code yX8_jobAt prog_1_method_36_code 3 (some (.object "PressBox$Job"))) from rfl) rfl, (tbi2 15 (by decide +kernel)), by decide +kernel, by decide +kernel⟩
set_option maxRecDepth 100000 in
theorem zML_e79 : zmOK 79 := ⟨tbi 433 (show lw_tbl[433]? = some (Jvm.Cond.code yX8_codeAt prog_1_method_37_code 3 (some .int)) from rfl) rfl, (tbi2 15 (by decide +kernel)), by decide +kernel, by decide +kernel⟩
def zML_p1 : zML_T := [40, 41, 42, 43, 44, 45, 46, 47, 48, 49, 50, 51, 52, 53, 54, 55, 56, 57, 58, 59, 60, 61, 62, 63, 64, 65, 66, 67, 68, 69, 70, 71, 72, 73, 74, 75, 76, 77, 78, 79]
theorem zML_q1 : ∀ q ∈ zML_p1, zmOK q := List.forall_mem_cons.mpr ⟨zML_e40, List.forall_mem_cons.mpr ⟨zML_e41, List.forall_mem_cons.mpr ⟨zML_e42, List.forall_mem_cons.mpr ⟨zML_e43, List.forall_mem_cons.mpr ⟨zML_e44, List.forall_mem_cons.mpr ⟨zML_e45, List.forall_mem_cons.mpr ⟨zML_e46, List.forall_mem_cons.mpr ⟨zML_e47, List.forall_mem_cons.mpr ⟨zML_e48, List.forall_mem_cons.mpr ⟨zML_e49, List.forall_mem_cons.mpr ⟨zML_e50, List.forall_mem_cons.mpr ⟨zML_e51, List.forall_mem_cons.mpr ⟨zML_e52, List.forall_mem_cons.mpr ⟨zML_e53, List.forall_mem_cons.mpr ⟨zML_e54, List.forall_mem_cons.mpr ⟨zML_e55, List.forall_mem_cons.mpr ⟨zML_e56, List.forall_mem_cons.mpr ⟨zML_e57, List.forall_mem_cons.mpr ⟨zML_e58, List.forall_mem_cons.mpr ⟨zML_e59, List.forall_mem_cons.mpr ⟨zML_e60, List.forall_mem_cons.mpr ⟨zML_e61, List.forall_mem_cons.mpr ⟨zML_e62, List.forall_mem_cons.mpr ⟨zML_e63, List.forall_mem_cons.mpr ⟨zML_e64, List.forall_mem_cons.mpr ⟨zML_e65, List.forall_mem_cons.mpr ⟨zML_e66, List.forall_mem_cons.mpr ⟨zML_e67, List.forall_mem_cons.mpr ⟨zML_e68, List.forall_mem_cons.mpr ⟨zML_e69, List.forall_mem_cons.mpr ⟨zML_e70, List.forall_mem_cons.mpr ⟨zML_e71, List.forall_mem_cons.mpr ⟨zML_e72, List.forall_mem_cons.mpr ⟨zML_e73, List.forall_mem_cons.mpr ⟨zML_e74, List.forall_mem_cons.mpr ⟨zML_e75, List.forall_mem_cons.mpr ⟨zML_e76, List.forall_mem_cons.mpr ⟨zML_e77, List.forall_mem_cons.mpr ⟨zML_e78, List.forall_mem_cons.mpr ⟨zML_e79, fun _ h => absurd h List.not_mem_nil⟩⟩⟩⟩⟩⟩⟩⟩⟩⟩⟩⟩⟩⟩⟩⟩⟩⟩⟩⟩⟩⟩⟩⟩⟩⟩⟩⟩⟩⟩⟩⟩⟩⟩⟩⟩⟩⟩⟩⟩
set_option maxRecDepth 100000 in
theorem zML_e80 : zmOK 80 := ⟨tbi 430 (show lw_tbl[430]? = some (Jvm.Cond.code yX8_codesIn prog_1_method_38_code 3 (some .int)) from rfl) rfl, (tbi2 15 (by decide +kernel)), by decide +kernel, by decide +kernel⟩
set_option maxRecDepth 100000 in
theorem zML_e81 : zmOK 81 := ⟨tbi 427 (show lw_tbl[427]? = some (Jvm.Cond.code yX8_allCodes prog_1_method_39_code 6 (some .boolean)) from rfl) rfl, (tbi2 15 (by decide +kernel)), by decide +kernel, by decide +kernel⟩
set_option maxRecDepth 100000 in
theorem zML_e82 : zmOK 82 := ⟨tbi 424 (show lw_tbl[424]? = some (Jvm.Cond.code yX8_rowOf prog_1_method_40_code 5 (some (.array .int))) from rfl) rfl, (tbi2 15 (by decide +kernel)), by decide +kernel, by decide +kernel⟩
set_option maxRecDepth 100000 in
theorem zML_e83 : zmOK 83 := ⟨tbi 438 (show lw_tbl[438]? = some (Jvm.Cond.code yX8_checkSealed prog_1_method_41_code 3 (none)) from rfl) rfl, (tbi2 15 (by decide +kernel)), by decide +kernel, by decide +kernel⟩
set_option maxRecDepth 100000 in
theorem zML_e84 : zmOK 84 := ⟨tbi 443 (show lw_tbl[443]? = some (Jvm.Cond.code yX8_heldAlike prog_1_method_42_code 4 (some (.object "PressBox$Image"))) from rfl) rfl, (tbi2 15 (by decide +kernel)), by decide +kernel, by decide +kernel⟩
set_option maxRecDepth 100000 in
theorem zML_e85 : zmOK 85 := ⟨tbi 447 (show lw_tbl[447]? = some (Jvm.Cond.code yX8_rowsAlike prog_1_method_43_code 4 (some .boolean)) from rfl) rfl, (tbi2 15 (by decide +kernel)), by decide +kernel, by decide +kernel⟩
set_option maxRecDepth 100000 in
theorem zML_e86 : zmOK 86 := ⟨tbi 453 (show lw_tbl[453]? = some (Jvm.Cond.code yX8_stack prog_1_method_44_code 4 (some (.object "PressBox$Files"))) from rfl) rfl, (tbi2 15 (by decide +kernel)), by decide +kernel, by decide +kernel⟩
set_option maxRecDepth 100000 in
theorem zML_e87 : zmOK 87 := ⟨tbi 269 (show lw_tbl[269]? = some (Jvm.Cond.code yX8_holders prog_1_method_45_code 5 (some .int)) from rfl) rfl, (tbi2 15 (by decide +kernel)), by decide +kernel, by decide +kernel⟩
set_option maxRecDepth 100000 in
theorem zML_e88 : zmOK 88 := ⟨tbi 498 (show lw_tbl[498]? = some (Jvm.Cond.code yX8_letGo prog_1_method_46_code 5 (some .int)) from rfl) rfl, (tbi2 15 (by decide +kernel)), by decide +kernel, by decide +kernel⟩
set_option maxRecDepth 100000 in
theorem zML_e89 : zmOK 89 := ⟨tbi 552 (show lw_tbl[552]? = some (Jvm.Cond.code yX8_keptBuild prog_1_method_47_code 5 (some (.object "PressBox$Build"))) from rfl) rfl, (tbi2 15 (by decide +kernel)), by decide +kernel, by decide +kernel⟩
set_option maxRecDepth 100000 in
theorem zML_e90 : zmOK 90 := ⟨tbi 561 (show lw_tbl[561]? = some (Jvm.Cond.code yX8_workedJob prog_1_method_48_code 6 (some (.object "PressBox$Job"))) from rfl) rfl, (tbi2 15 (by decide +kernel)), by decide +kernel, by decide +kernel⟩
set_option maxRecDepth 100000 in
theorem zML_e91 : zmOK 91 := ⟨tbi 298 (show lw_tbl[298]? = some (Jvm.Cond.code yL_part method_2_code 4 (some .int)) from rfl) rfl, (tbi2 14 (by decide +kernel)), by decide +kernel, by decide +kernel⟩
set_option maxRecDepth 100000 in
theorem zML_e92 : zmOK 92 := ⟨tbi 302 (show lw_tbl[302]? = some (Jvm.Cond.codeWith yL_does method_3_code 7 (some .int) [(0, 327, 328, 71), (0, 327, 334, 73), (0, 327, 340, 75)]) from rfl) rfl, (tbi2 14 (by decide +kernel)), by decide +kernel, by decide +kernel⟩
set_option maxRecDepth 100000 in
theorem zML_e93 : zmOK 93 := ⟨tbi 362 (show lw_tbl[362]? = some (Jvm.Cond.code yL_told method_4_code 6 (some .int)) from rfl) rfl, (tbi2 14 (by decide +kernel)), by decide +kernel, by decide +kernel⟩
set_option maxRecDepth 100000 in
theorem zML_e94 : zmOK 94 := ⟨tbi 773 (show lw_tbl[773]? = some (Jvm.Cond.code yL_file method_5_code 8 (some .long)) from rfl) rfl, (tbi2 14 (by decide +kernel)), by decide +kernel, by decide +kernel⟩
set_option maxRecDepth 100000 in
theorem zML_e95 : zmOK 95 := ⟨tbi 789 (show lw_tbl[789]? = some (Jvm.Cond.code yL_letter method_6_code 3 (some .int)) from rfl) rfl, (tbi2 14 (by decide +kernel)), by decide +kernel, by decide +kernel⟩
set_option maxRecDepth 100000 in
theorem zML_e96 : zmOK 96 := ⟨tbi 793 (show lw_tbl[793]? = some (Jvm.Cond.code yL_width method_7_code 10 (some .int)) from rfl) rfl, (tbi2 14 (by decide +kernel)), by decide +kernel, by decide +kernel⟩
set_option maxRecDepth 100000 in
theorem zML_e97 : zmOK 97 := ⟨tbi 786 (show lw_tbl[786]? = some (Jvm.Cond.code yL_breaks method_8_code 14 (none)) from rfl) rfl, (tbi2 14 (by decide +kernel)), by decide +kernel, by decide +kernel⟩
set_option maxRecDepth 100000 in
theorem zML_e98 : zmOK 98 := ⟨tbi 803 (show lw_tbl[803]? = some (Jvm.Cond.code yL_isFirst method_9_code 2 (some .boolean)) from rfl) rfl, (tbi2 14 (by decide +kernel)), by decide +kernel, by decide +kernel⟩
set_option maxRecDepth 100000 in
theorem zML_e99 : zmOK 99 := ⟨tbi 800 (show lw_tbl[800]? = some (Jvm.Cond.code yL_isLast method_10_code 3 (some .boolean)) from rfl) rfl, (tbi2 14 (by decide +kernel)), by decide +kernel, by decide +kernel⟩
set_option maxRecDepth 100000 in
theorem zML_e100 : zmOK 100 := ⟨tbi 796 (show lw_tbl[796]? = some (Jvm.Cond.code yL_parts method_11_code 13 (none)) from rfl) rfl, (tbi2 14 (by decide +kernel)), by decide +kernel, by decide +kernel⟩
set_option maxRecDepth 100000 in
theorem zML_e101 : zmOK 101 := ⟨tbi 807 (show lw_tbl[807]? = some (Jvm.Cond.code yL_page method_12_code 5 (some .int)) from rfl) rfl, (tbi2 14 (by decide +kernel)), by decide +kernel, by decide +kernel⟩
set_option maxRecDepth 100000 in
theorem zML_e102 : zmOK 102 := ⟨tbi 782 (show lw_tbl[782]? = some (Jvm.Cond.code yL_sets method_13_code 14 (none)) from rfl) rfl, (tbi2 14 (by decide +kernel)), by decide +kernel, by decide +kernel⟩
set_option maxRecDepth 100000 in
theorem zML_e103 : zmOK 103 := ⟨tbi 838 (show lw_tbl[838]? = some (Jvm.Cond.code yL_isSet method_14_code 10 (some .boolean)) from rfl) rfl, (tbi2 14 (by decide +kernel)), by decide +kernel, by decide +kernel⟩
set_option maxRecDepth 100000 in
theorem zML_e104 : zmOK 104 := ⟨tbi 779 (show lw_tbl[779]? = some (Jvm.Cond.code yL_build method_15_code 9 (some .int)) from rfl) rfl, (tbi2 14 (by decide +kernel)), by decide +kernel, by decide +kernel⟩
set_option maxRecDepth 100000 in
theorem zML_e105 : zmOK 105 := ⟨tbi 776 (show lw_tbl[776]? = some (Jvm.Cond.code yL_isJob method_16_code 25 (some .boolean)) from rfl) rfl, (tbi2 14 (by decide +kernel)), by decide +kernel, by decide +kernel⟩
set_option maxRecDepth 100000 in
theorem zML_e106 : zmOK 106 := ⟨tbi 845 (show lw_tbl[845]? = some (Jvm.Cond.code yL_isLayer method_17_code 17 (some .boolean)) from rfl) rfl, (tbi2 14 (by decide +kernel)), by decide +kernel, by decide +kernel⟩
set_option maxRecDepth 100000 in
theorem zML_e107 : zmOK 107 := ⟨tbi 852 (show lw_tbl[852]? = some (Jvm.Cond.code yL_isIn method_18_code 5 (some .boolean)) from rfl) rfl, (tbi2 14 (by decide +kernel)), by decide +kernel, by decide +kernel⟩
set_option maxRecDepth 100000 in
theorem zML_e108 : zmOK 108 := ⟨tbi 849 (show lw_tbl[849]? = some (Jvm.Cond.code yL_isImage method_19_code 18 (some .boolean)) from rfl) rfl, (tbi2 14 (by decide +kernel)), by decide +kernel, by decide +kernel⟩
set_option maxRecDepth 100000 in
theorem zML_e109 : zmOK 109 := ⟨tbi 859 (show lw_tbl[859]? = some (Jvm.Cond.codeWith yL_word method_20_code 4 (some .int) [(0, 6, 7, 73), (0, 6, 12, 75)]) from rfl) rfl, (tbi2 14 (by decide +kernel)), by decide +kernel, by decide +kernel⟩
set_option maxRecDepth 100000 in
theorem zML_e110 : zmOK 110 := ⟨tbi 855 (show lw_tbl[855]? = some (Jvm.Cond.code yL_isText method_21_code 12 (some .boolean)) from rfl) rfl, (tbi2 14 (by decide +kernel)), by decide +kernel, by decide +kernel⟩
set_option maxRecDepth 100000 in
theorem zML_e111 : zmOK 112 := ⟨tbi 178 (show lw_tbl[178]? = some (Jvm.Cond.code yX8_layerAt prog_1_method_33_code 3 (some (.object "PressBox$Layer"))) from rfl) rfl, (tbi2 15 (by decide +kernel)), by decide +kernel, by decide +kernel⟩
def zML_p2 : zML_T := [80, 81, 82, 83, 84, 85, 86, 87, 88, 89, 90, 91, 92, 93, 94, 95, 96, 97, 98, 99, 100, 101, 102, 103, 104, 105, 106, 107, 108, 109, 110, 112]
theorem zML_q2 : ∀ q ∈ zML_p2, zmOK q := List.forall_mem_cons.mpr ⟨zML_e80, List.forall_mem_cons.mpr ⟨zML_e81, List.forall_mem_cons.mpr ⟨zML_e82, List.forall_mem_cons.mpr ⟨zML_e83, List.forall_mem_cons.mpr ⟨zML_e84, List.forall_mem_cons.mpr ⟨zML_e85, List.forall_mem_cons.mpr ⟨zML_e86, List.forall_mem_cons.mpr ⟨zML_e87, List.forall_mem_cons.mpr ⟨zML_e88, List.forall_mem_cons.mpr ⟨zML_e89, List.forall_mem_cons.mpr ⟨zML_e90, List.forall_mem_cons.mpr ⟨zML_e91, List.forall_mem_cons.mpr ⟨zML_e92, List.forall_mem_cons.mpr ⟨zML_e93, List.forall_mem_cons.mpr ⟨zML_e94, List.forall_mem_cons.mpr ⟨zML_e95, List.forall_mem_cons.mpr ⟨zML_e96, List.forall_mem_cons.mpr ⟨zML_e97, List.forall_mem_cons.mpr ⟨zML_e98, List.forall_mem_cons.mpr ⟨zML_e99, List.forall_mem_cons.mpr ⟨zML_e100, List.forall_mem_cons.mpr ⟨zML_e101, List.forall_mem_cons.mpr ⟨zML_e102, List.forall_mem_cons.mpr ⟨zML_e103, List.forall_mem_cons.mpr ⟨zML_e104, List.forall_mem_cons.mpr ⟨zML_e105, List.forall_mem_cons.mpr ⟨zML_e106, List.forall_mem_cons.mpr ⟨zML_e107, List.forall_mem_cons.mpr ⟨zML_e108, List.forall_mem_cons.mpr ⟨zML_e109, List.forall_mem_cons.mpr ⟨zML_e110, List.forall_mem_cons.mpr ⟨zML_e111, fun _ h => absurd h List.not_mem_nil⟩⟩⟩⟩⟩⟩⟩⟩⟩⟩⟩⟩⟩⟩⟩⟩⟩⟩⟩⟩⟩⟩⟩⟩⟩⟩⟩⟩⟩⟩⟩⟩
def zMLA : zML_T := zML_p0 ++ (zML_p1 ++ (zML_p2))
theorem zML_all : ∀ q ∈ zMLA, zmOK q := List.forall_mem_append.mpr ⟨zML_q0, List.forall_mem_append.mpr ⟨zML_q1, zML_q2⟩⟩
def zvOK (f : Nat) : Prop := zhh zZ f = [] ∧ (∃ r : vw_C, 1 ≤ zrc zPr f ∧ vwCl[zrc zPr f - 1]? = some r ∧ r.1 = (zyn zZ f).cls) ∧ Jvm.Cond.instanceMethod (zyn zZ f) ∈ zTB ∧ Jvm.Cond.selects (zyn zZ f).cls (zyn zZ f) (zyn zZ f) ∈ zTB ∧ (parseMethodDescriptor (zyn zZ f).desc).map (fun d => d.parameters.length + 1) = some (zna zPr f)
abbrev zVM_T : Type := List (Nat)
set_option maxRecDepth 100000 in
theorem zVM_e0 : zvOK 1 := ⟨rfl, ⟨_, by decide, rfl, rfl⟩, (tbi2 554 (by decide +kernel)), (tbi2 555 (by decide +kernel)), by decide +kernel⟩
set_option maxRecDepth 100000 in
theorem zVM_e1 : zvOK 2 := ⟨rfl, ⟨_, by decide, rfl, rfl⟩, (tbi2 293 (by decide +kernel)), (tbi2 294 (by decide +kernel)), by decide +kernel⟩
set_option maxRecDepth 100000 in
theorem zVM_e2 : zvOK 4 := ⟨rfl, ⟨_, by decide, rfl, rfl⟩, (tbi2 530 (by decide +kernel)), (tbi2 531 (by decide +kernel)), by decide +kernel⟩
set_option maxRecDepth 100000 in
theorem zVM_e3 : zvOK 6 := ⟨rfl, ⟨_, by decide, rfl, rfl⟩, (tbi2 505 (by decide +kernel)), (tbi2 506 (by decide +kernel)), by decide +kernel⟩
set_option maxRecDepth 100000 in
theorem zVM_e4 : zvOK 7 := ⟨rfl, ⟨_, by decide, rfl, rfl⟩, (tbi2 374 (by decide +kernel)), (tbi2 375 (by decide +kernel)), by decide +kernel⟩
set_option maxRecDepth 100000 in
theorem zVM_e5 : zvOK 8 := ⟨rfl, ⟨_, by decide, rfl, rfl⟩, (tbi2 392 (by decide +kernel)), (tbi2 393 (by decide +kernel)), by decide +kernel⟩
set_option maxRecDepth 100000 in
theorem zVM_e6 : zvOK 9 := ⟨rfl, ⟨_, by decide, rfl, rfl⟩, (tbi2 378 (by decide +kernel)), (tbi2 379 (by decide +kernel)), by decide +kernel⟩
set_option maxRecDepth 100000 in
theorem zVM_e7 : zvOK 10 := ⟨rfl, ⟨_, by decide, rfl, rfl⟩, (tbi2 457 (by decide +kernel)), (tbi2 458 (by decide +kernel)), by decide +kernel⟩
set_option maxRecDepth 100000 in
theorem zVM_e8 : zvOK 11 := ⟨rfl, ⟨_, by decide, rfl, rfl⟩, (tbi2 408 (by decide +kernel)), (tbi2 409 (by decide +kernel)), by decide +kernel⟩
set_option maxRecDepth 100000 in
theorem zVM_e9 : zvOK 12 := ⟨rfl, ⟨_, by decide, rfl, rfl⟩, (tbi2 412 (by decide +kernel)), (tbi2 413 (by decide +kernel)), by decide +kernel⟩
set_option maxRecDepth 100000 in
theorem zVM_e10 : zvOK 14 := ⟨rfl, ⟨_, by decide, rfl, rfl⟩, (tbi2 271 (by decide +kernel)), (tbi2 272 (by decide +kernel)), by decide +kernel⟩
set_option maxRecDepth 100000 in
theorem zVM_e11 : zvOK 18 := ⟨rfl, ⟨_, by decide, rfl, rfl⟩, (tbi2 673 (by decide +kernel)), (tbi2 674 (by decide +kernel)), by decide +kernel⟩
set_option maxRecDepth 100000 in
theorem zVM_e12 : zvOK 19 := ⟨rfl, ⟨_, by decide, rfl, rfl⟩, (tbi2 563 (by decide +kernel)), (tbi2 564 (by decide +kernel)), by decide +kernel⟩
set_option maxRecDepth 100000 in
theorem zVM_e13 : zvOK 20 := ⟨rfl, ⟨_, by decide, rfl, rfl⟩, (tbi2 567 (by decide +kernel)), (tbi2 568 (by decide +kernel)), by decide +kernel⟩
set_option maxRecDepth 100000 in
theorem zVM_e14 : zvOK 21 := ⟨rfl, ⟨_, by decide, rfl, rfl⟩, (tbi2 571 (by decide +kernel)), (tbi2 572 (by decide +kernel)), by decide +kernel⟩
set_option maxRecDepth 100000 in
theorem zVM_e15 : zvOK 22 := ⟨rfl, ⟨_, by decide, rfl, rfl⟩, (tbi2 577 (by decide +kernel)), (tbi2 578 (by decide +kernel)), by decide +kernel⟩
set_option maxRecDepth 100000 in
theorem zVM_e16 : zvOK 23 := ⟨rfl, ⟨_, by decide, rfl, rfl⟩, (tbi2 582 (by decide +kernel)), (tbi2 583 (by decide +kernel)), by decide +kernel⟩
set_option maxRecDepth 100000 in
theorem zVM_e17 : zvOK 24 := ⟨rfl, ⟨_, by decide, rfl, rfl⟩, (tbi2 586 (by decide +kernel)), (tbi2 587 (by decide +kernel)), by decide +kernel⟩
set_option maxRecDepth 100000 in
theorem zVM_e18 : zvOK 25 := ⟨rfl, ⟨_, by decide, rfl, rfl⟩, (tbi2 594 (by decide +kernel)), (tbi2 595 (by decide +kernel)), by decide +kernel⟩
set_option maxRecDepth 100000 in
theorem zVM_e19 : zvOK 26 := ⟨rfl, ⟨_, by decide, rfl, rfl⟩, (tbi2 590 (by decide +kernel)), (tbi2 591 (by decide +kernel)), by decide +kernel⟩
set_option maxRecDepth 100000 in
theorem zVM_e20 : zvOK 27 := ⟨rfl, ⟨_, by decide, rfl, rfl⟩, (tbi2 598 (by decide +kernel)), (tbi2 599 (by decide +kernel)), by decide +kernel⟩
set_option maxRecDepth 100000 in
theorem zVM_e21 : zvOK 28 := ⟨rfl, ⟨_, by decide, rfl, rfl⟩, (tbi2 606 (by decide +kernel)), (tbi2 607 (by decide +kernel)), by decide +kernel⟩
set_option maxRecDepth 100000 in
theorem zVM_e22 : zvOK 29 := ⟨rfl, ⟨_, by decide, rfl, rfl⟩, (tbi2 614 (by decide +kernel)), (tbi2 615 (by decide +kernel)), by decide +kernel⟩
set_option maxRecDepth 100000 in
theorem zVM_e23 : zvOK 30 := ⟨rfl, ⟨_, by decide, rfl, rfl⟩, (tbi2 618 (by decide +kernel)), (tbi2 619 (by decide +kernel)), by decide +kernel⟩
set_option maxRecDepth 100000 in
theorem zVM_e24 : zvOK 31 := ⟨rfl, ⟨_, by decide, rfl, rfl⟩, (tbi2 622 (by decide +kernel)), (tbi2 623 (by decide +kernel)), by decide +kernel⟩
set_option maxRecDepth 100000 in
theorem zVM_e25 : zvOK 32 := ⟨rfl, ⟨_, by decide, rfl, rfl⟩, (tbi2 629 (by decide +kernel)), (tbi2 630 (by decide +kernel)), by decide +kernel⟩
set_option maxRecDepth 100000 in
theorem zVM_e26 : zvOK 33 := ⟨rfl, ⟨_, by decide, rfl, rfl⟩, (tbi2 633 (by decide +kernel)), (tbi2 634 (by decide +kernel)), by decide +kernel⟩
set_option maxRecDepth 100000 in
theorem zVM_e27 : zvOK 34 := ⟨rfl, ⟨_, by decide, rfl, rfl⟩, (tbi2 637 (by decide +kernel)), (tbi2 638 (by decide +kernel)), by decide +kernel⟩
set_option maxRecDepth 100000 in
theorem zVM_e28 : zvOK 36 := ⟨rfl, ⟨_, by decide, rfl, rfl⟩, (tbi2 641 (by decide +kernel)), (tbi2 642 (by decide +kernel)), by decide +kernel⟩
set_option maxRecDepth 100000 in
theorem zVM_e29 : zvOK 37 := ⟨rfl, ⟨_, by decide, rfl, rfl⟩, (tbi2 707 (by decide +kernel)), (tbi2 708 (by decide +kernel)), by decide +kernel⟩
set_option maxRecDepth 100000 in
theorem zVM_e30 : zvOK 38 := ⟨rfl, ⟨_, by decide, rfl, rfl⟩, (tbi2 610 (by decide +kernel)), (tbi2 611 (by decide +kernel)), by decide +kernel⟩
set_option maxRecDepth 100000 in
theorem zVM_e31 : zvOK 39 := ⟨rfl, ⟨_, by decide, rfl, rfl⟩, (tbi2 602 (by decide +kernel)), (tbi2 603 (by decide +kernel)), by decide +kernel⟩
set_option maxRecDepth 100000 in
theorem zVM_e32 : zvOK 40 := ⟨rfl, ⟨_, by decide, rfl, rfl⟩, (tbi2 821 (by decide +kernel)), (tbi2 822 (by decide +kernel)), by decide +kernel⟩
set_option maxRecDepth 100000 in
theorem zVM_e33 : zvOK 41 := ⟨rfl, ⟨_, by decide, rfl, rfl⟩, (tbi2 825 (by decide +kernel)), (tbi2 826 (by decide +kernel)), by decide +kernel⟩
set_option maxRecDepth 100000 in
theorem zVM_e34 : zvOK 42 := ⟨rfl, ⟨_, by decide, rfl, rfl⟩, (tbi2 829 (by decide +kernel)), (tbi2 830 (by decide +kernel)), by decide +kernel⟩
set_option maxRecDepth 100000 in
theorem zVM_e35 : zvOK 44 := ⟨rfl, ⟨_, by decide, rfl, rfl⟩, (tbi2 307 (by decide +kernel)), (tbi2 308 (by decide +kernel)), by decide +kernel⟩
set_option maxRecDepth 100000 in
theorem zVM_e36 : zvOK 45 := ⟨rfl, ⟨_, by decide, rfl, rfl⟩, (tbi2 364 (by decide +kernel)), (tbi2 365 (by decide +kernel)), by decide +kernel⟩
set_option maxRecDepth 100000 in
theorem zVM_e37 : zvOK 46 := ⟨rfl, ⟨_, by decide, rfl, rfl⟩, (tbi2 382 (by decide +kernel)), (tbi2 383 (by decide +kernel)), by decide +kernel⟩
set_option maxRecDepth 100000 in
theorem zVM_e38 : zvOK 47 := ⟨rfl, ⟨_, by decide, rfl, rfl⟩, (tbi2 387 (by decide +kernel)), (tbi2 388 (by decide +kernel)), by decide +kernel⟩
set_option maxRecDepth 100000 in
theorem zVM_e39 : zvOK 48 := ⟨rfl, ⟨_, by decide, rfl, rfl⟩, (tbi2 404 (by decide +kernel)), (tbi2 405 (by decide +kernel)), by decide +kernel⟩
def zVM_p0 : zVM_T := [1, 2, 4, 6, 7, 8, 9, 10, 11, 12, 14, 18, 19, 20, 21, 22, 23, 24, 25, 26, 27, 28, 29, 30, 31, 32, 33, 34, 36, 37, 38, 39, 40, 41, 42, 44, 45, 46, 47, 48]
theorem zVM_q0 : ∀ q ∈ zVM_p0, zvOK q := List.forall_mem_cons.mpr ⟨zVM_e0, List.forall_mem_cons.mpr ⟨zVM_e1, List.forall_mem_cons.mpr ⟨zVM_e2, List.forall_mem_cons.mpr ⟨zVM_e3, List.forall_mem_cons.mpr ⟨zVM_e4, List.forall_mem_cons.mpr ⟨zVM_e5, List.forall_mem_cons.mpr ⟨zVM_e6, List.forall_mem_cons.mpr ⟨zVM_e7, List.forall_mem_cons.mpr ⟨zVM_e8, List.forall_mem_cons.mpr ⟨zVM_e9, List.forall_mem_cons.mpr ⟨zVM_e10, List.forall_mem_cons.mpr ⟨zVM_e11, List.forall_mem_cons.mpr ⟨zVM_e12, List.forall_mem_cons.mpr ⟨zVM_e13, List.forall_mem_cons.mpr ⟨zVM_e14, List.forall_mem_cons.mpr ⟨zVM_e15, List.forall_mem_cons.mpr ⟨zVM_e16, List.forall_mem_cons.mpr ⟨zVM_e17, List.forall_mem_cons.mpr ⟨zVM_e18, List.forall_mem_cons.mpr ⟨zVM_e19, List.forall_mem_cons.mpr ⟨zVM_e20, List.forall_mem_cons.mpr ⟨zVM_e21, List.forall_mem_cons.mpr ⟨zVM_e22, List.forall_mem_cons.mpr ⟨zVM_e23, List.forall_mem_cons.mpr ⟨zVM_e24, List.forall_mem_cons.mpr ⟨zVM_e25, List.forall_mem_cons.mpr ⟨zVM_e26, List.forall_mem_cons.mpr ⟨zVM_e27, List.forall_mem_cons.mpr ⟨zVM_e28, List.forall_mem_cons.mpr ⟨zVM_e29, List.forall_mem_cons.mpr ⟨zVM_e30, List.forall_mem_cons.mpr ⟨zVM_e31, List.forall_mem_cons.mpr ⟨zVM_e32, List.forall_mem_cons.mpr ⟨zVM_e33, List.forall_mem_cons.mpr ⟨zVM_e34, List.forall_mem_cons.mpr ⟨zVM_e35, List.forall_mem_cons.mpr ⟨zVM_e36, List.forall_mem_cons.mpr ⟨zVM_e37, List.forall_mem_cons.mpr ⟨zVM_e38, List.forall_mem_cons.mpr ⟨zVM_e39, fun _ h => absurd h List.not_mem_nil⟩⟩⟩⟩⟩⟩⟩⟩⟩⟩⟩⟩⟩⟩⟩⟩⟩⟩⟩⟩⟩⟩⟩⟩⟩⟩⟩⟩⟩⟩⟩⟩⟩⟩⟩⟩⟩⟩⟩⟩
set_option maxRecDepth 100000 in
theorem zVM_e40 : zvOK 49 := ⟨rfl, ⟨_, by decide, rfl, rfl⟩, (tbi2 418 (by decide +kernel)), (tbi2 419 (by decide +kernel)), by decide +kernel⟩
set_option maxRecDepth 100000 in
theorem zVM_e41 : zvOK 50 := ⟨rfl, ⟨_, by decide, rfl, rfl⟩, (tbi2 483 (by decide +kernel)), (tbi2 484 (by decide +kernel)), by decide +kernel⟩
set_option maxRecDepth 100000 in
theorem zVM_e42 : zvOK 51 := ⟨rfl, ⟨_, by decide, rfl, rfl⟩, (tbi2 172 (by decide +kernel)), (tbi2 173 (by decide +kernel)), by decide +kernel⟩
set_option maxRecDepth 100000 in
theorem zVM_e43 : zvOK 52 := ⟨rfl, ⟨_, by decide, rfl, rfl⟩, (tbi2 500 (by decide +kernel)), (tbi2 501 (by decide +kernel)), by decide +kernel⟩
set_option maxRecDepth 100000 in
theorem zVM_e44 : zvOK 53 := ⟨rfl, ⟨_, by decide, rfl, rfl⟩, (tbi2 711 (by decide +kernel)), (tbi2 712 (by decide +kernel)), by decide +kernel⟩
set_option maxRecDepth 100000 in
theorem zVM_e45 : zvOK 54 := ⟨rfl, ⟨_, by decide, rfl, rfl⟩, (tbi2 509 (by decide +kernel)), (tbi2 510 (by decide +kernel)), by decide +kernel⟩
set_option maxRecDepth 100000 in
theorem zVM_e46 : zvOK 55 := ⟨rfl, ⟨_, by decide, rfl, rfl⟩, (tbi2 514 (by decide +kernel)), (tbi2 515 (by decide +kernel)), by decide +kernel⟩
set_option maxRecDepth 100000 in
theorem zVM_e47 : zvOK 56 := ⟨rfl, ⟨_, by decide, rfl, rfl⟩, (tbi2 518 (by decide +kernel)), (tbi2 519 (by decide +kernel)), by decide +kernel⟩
set_option maxRecDepth 100000 in
theorem zVM_e48 : zvOK 57 := ⟨rfl, ⟨_, by decide, rfl, rfl⟩, (tbi2 861 (by decide +kernel)), (tbi2 862 (by decide +kernel)), by decide +kernel⟩
set_option maxRecDepth 100000 in
theorem zVM_e49 : zvOK 58 := ⟨rfl, ⟨_, by decide, rfl, rfl⟩, (tbi2 524 (by decide +kernel)), (tbi2 525 (by decide +kernel)), by decide +kernel⟩
set_option maxRecDepth 100000 in
theorem zVM_e50 : zvOK 59 := ⟨rfl, ⟨_, by decide, rfl, rfl⟩, (tbi2 275 (by decide +kernel)), (tbi2 276 (by decide +kernel)), by decide +kernel⟩
set_option maxRecDepth 100000 in
theorem zVM_e51 : zvOK 60 := ⟨rfl, ⟨_, by decide, rfl, rfl⟩, (tbi2 534 (by decide +kernel)), (tbi2 535 (by decide +kernel)), by decide +kernel⟩
set_option maxRecDepth 100000 in
theorem zVM_e52 : zvOK 61 := ⟨rfl, ⟨_, by decide, rfl, rfl⟩, (tbi2 545 (by decide +kernel)), (tbi2 546 (by decide +kernel)), by decide +kernel⟩
set_option maxRecDepth 100000 in
theorem zVM_e53 : zvOK 62 := ⟨rfl, ⟨_, by decide, rfl, rfl⟩, (tbi2 396 (by decide +kernel)), (tbi2 397 (by decide +kernel)), by decide +kernel⟩
set_option maxRecDepth 100000 in
theorem zVM_e54 : zvOK 63 := ⟨rfl, ⟨_, by decide, rfl, rfl⟩, (tbi2 284 (by decide +kernel)), (tbi2 285 (by decide +kernel)), by decide +kernel⟩
set_option maxRecDepth 100000 in
theorem zVM_e55 : zvOK 64 := ⟨rfl, ⟨_, by decide, rfl, rfl⟩, (tbi2 699 (by decide +kernel)), (tbi2 700 (by decide +kernel)), by decide +kernel⟩
set_option maxRecDepth 100000 in
theorem zVM_e56 : zvOK 65 := ⟨rfl, ⟨_, by decide, rfl, rfl⟩, (tbi2 840 (by decide +kernel)), (tbi2 841 (by decide +kernel)), by decide +kernel⟩
set_option maxRecDepth 100000 in
theorem zVM_e57 : zvOK 66 := ⟨rfl, ⟨_, by decide, rfl, rfl⟩, (tbi2 833 (by decide +kernel)), (tbi2 834 (by decide +kernel)), by decide +kernel⟩
set_option maxRecDepth 100000 in
theorem zVM_e58 : zvOK 67 := ⟨rfl, ⟨_, by decide, rfl, rfl⟩, (tbi2 813 (by decide +kernel)), (tbi2 814 (by decide +kernel)), by decide +kernel⟩
set_option maxRecDepth 100000 in
theorem zVM_e59 : zvOK 68 := ⟨rfl, ⟨_, by decide, rfl, rfl⟩, (tbi2 817 (by decide +kernel)), (tbi2 818 (by decide +kernel)), by decide +kernel⟩
set_option maxRecDepth 100000 in
theorem zVM_e60 : zvOK 69 := ⟨rfl, ⟨_, by decide, rfl, rfl⟩, (tbi2 809 (by decide +kernel)), (tbi2 810 (by decide +kernel)), by decide +kernel⟩
set_option maxRecDepth 100000 in
theorem zVM_e61 : zvOK 75 := ⟨rfl, ⟨_, by decide, rfl, rfl⟩, (tbi2 177 (by decide +kernel)), (tbi2 0 (by decide +kernel)), by decide +kernel⟩
set_option maxRecDepth 100000 in
theorem zVM_e62 : zvOK 76 := ⟨rfl, ⟨_, by decide, rfl, rfl⟩, (tbi2 488 (by decide +kernel)), (tbi2 10 (by decide +kernel)), by decide +kernel⟩
set_option maxRecDepth 100000 in
theorem zVM_e63 : zvOK 77 := ⟨rfl, ⟨_, by decide, rfl, rfl⟩, (tbi2 280 (by decide +kernel)), (tbi2 3 (by decide +kernel)), by decide +kernel⟩
set_option maxRecDepth 100000 in
theorem zVM_e64 : zvOK 78 := ⟨rfl, ⟨_, by decide, rfl, rfl⟩, (tbi2 289 (by decide +kernel)), (tbi2 4 (by decide +kernel)), by decide +kernel⟩
set_option maxRecDepth 100000 in
theorem zVM_e65 : zvOK 82 := ⟨rfl, ⟨_, by decide, rfl, rfl⟩, (tbi2 423 (by decide +kernel)), (tbi2 5 (by decide +kernel)), by decide +kernel⟩
set_option maxRecDepth 100000 in
theorem zVM_e66 : zvOK 83 := ⟨rfl, ⟨_, by decide, rfl, rfl⟩, (tbi2 437 (by decide +kernel)), (tbi2 6 (by decide +kernel)), by decide +kernel⟩
set_option maxRecDepth 100000 in
theorem zVM_e67 : zvOK 84 := ⟨rfl, ⟨_, by decide, rfl, rfl⟩, (tbi2 442 (by decide +kernel)), (tbi2 7 (by decide +kernel)), by decide +kernel⟩
set_option maxRecDepth 100000 in
theorem zVM_e68 : zvOK 85 := ⟨rfl, ⟨_, by decide, rfl, rfl⟩, (tbi2 446 (by decide +kernel)), (tbi2 8 (by decide +kernel)), by decide +kernel⟩
set_option maxRecDepth 100000 in
theorem zVM_e69 : zvOK 86 := ⟨rfl, ⟨_, by decide, rfl, rfl⟩, (tbi2 452 (by decide +kernel)), (tbi2 9 (by decide +kernel)), by decide +kernel⟩
set_option maxRecDepth 100000 in
theorem zVM_e70 : zvOK 87 := ⟨rfl, ⟨_, by decide, rfl, rfl⟩, (tbi2 268 (by decide +kernel)), (tbi2 2 (by decide +kernel)), by decide +kernel⟩
set_option maxRecDepth 100000 in
theorem zVM_e71 : zvOK 88 := ⟨rfl, ⟨_, by decide, rfl, rfl⟩, (tbi2 497 (by decide +kernel)), (tbi2 11 (by decide +kernel)), by decide +kernel⟩
set_option maxRecDepth 100000 in
theorem zVM_e72 : zvOK 89 := ⟨rfl, ⟨_, by decide, rfl, rfl⟩, (tbi2 551 (by decide +kernel)), (tbi2 12 (by decide +kernel)), by decide +kernel⟩
set_option maxRecDepth 100000 in
theorem zVM_e73 : zvOK 90 := ⟨rfl, ⟨_, by decide, rfl, rfl⟩, (tbi2 560 (by decide +kernel)), (tbi2 13 (by decide +kernel)), by decide +kernel⟩
set_option maxRecDepth 100000 in
theorem zVM_e74 : zvOK 112 := ⟨rfl, ⟨_, by decide, rfl, rfl⟩, (tbi2 177 (by decide +kernel)), (tbi2 0 (by decide +kernel)), by decide +kernel⟩
def zVM_p1 : zVM_T := [49, 50, 51, 52, 53, 54, 55, 56, 57, 58, 59, 60, 61, 62, 63, 64, 65, 66, 67, 68, 69, 75, 76, 77, 78, 82, 83, 84, 85, 86, 87, 88, 89, 90, 112]
theorem zVM_q1 : ∀ q ∈ zVM_p1, zvOK q := List.forall_mem_cons.mpr ⟨zVM_e40, List.forall_mem_cons.mpr ⟨zVM_e41, List.forall_mem_cons.mpr ⟨zVM_e42, List.forall_mem_cons.mpr ⟨zVM_e43, List.forall_mem_cons.mpr ⟨zVM_e44, List.forall_mem_cons.mpr ⟨zVM_e45, List.forall_mem_cons.mpr ⟨zVM_e46, List.forall_mem_cons.mpr ⟨zVM_e47, List.forall_mem_cons.mpr ⟨zVM_e48, List.forall_mem_cons.mpr ⟨zVM_e49, List.forall_mem_cons.mpr ⟨zVM_e50, List.forall_mem_cons.mpr ⟨zVM_e51, List.forall_mem_cons.mpr ⟨zVM_e52, List.forall_mem_cons.mpr ⟨zVM_e53, List.forall_mem_cons.mpr ⟨zVM_e54, List.forall_mem_cons.mpr ⟨zVM_e55, List.forall_mem_cons.mpr ⟨zVM_e56, List.forall_mem_cons.mpr ⟨zVM_e57, List.forall_mem_cons.mpr ⟨zVM_e58, List.forall_mem_cons.mpr ⟨zVM_e59, List.forall_mem_cons.mpr ⟨zVM_e60, List.forall_mem_cons.mpr ⟨zVM_e61, List.forall_mem_cons.mpr ⟨zVM_e62, List.forall_mem_cons.mpr ⟨zVM_e63, List.forall_mem_cons.mpr ⟨zVM_e64, List.forall_mem_cons.mpr ⟨zVM_e65, List.forall_mem_cons.mpr ⟨zVM_e66, List.forall_mem_cons.mpr ⟨zVM_e67, List.forall_mem_cons.mpr ⟨zVM_e68, List.forall_mem_cons.mpr ⟨zVM_e69, List.forall_mem_cons.mpr ⟨zVM_e70, List.forall_mem_cons.mpr ⟨zVM_e71, List.forall_mem_cons.mpr ⟨zVM_e72, List.forall_mem_cons.mpr ⟨zVM_e73, List.forall_mem_cons.mpr ⟨zVM_e74, fun _ h => absurd h List.not_mem_nil⟩⟩⟩⟩⟩⟩⟩⟩⟩⟩⟩⟩⟩⟩⟩⟩⟩⟩⟩⟩⟩⟩⟩⟩⟩⟩⟩⟩⟩⟩⟩⟩⟩⟩⟩
def zVMA : zVM_T := zVM_p0 ++ (zVM_p1)
theorem zVM_all : ∀ q ∈ zVMA, zvOK q := List.forall_mem_append.mpr ⟨zVM_q0, zVM_q1⟩
def zvlOK (q : Nat × Nat × Nat) : Prop := Jvm.Cond.methodLink (zcnm q.1) q.2.1 (zyn zZ q.2.2) ∈ zTB
abbrev zVL_T : Type := List (Nat × Nat × Nat)
set_option maxRecDepth 100000 in
theorem zVL_e0 : zvlOK (0, 38, 12) := (tbi2 557 (by decide +kernel))
set_option maxRecDepth 100000 in
theorem zVL_e1 : zvlOK (2, 21, 9) := (tbi2 377 (by decide +kernel))
set_option maxRecDepth 100000 in
theorem zVL_e2 : zvlOK (2, 25, 7) := (tbi2 460 (by decide +kernel))
set_option maxRecDepth 100000 in
theorem zVL_e3 : zvlOK (2, 29, 12) := (tbi2 411 (by decide +kernel))
set_option maxRecDepth 100000 in
theorem zVL_e4 : zvlOK (6, 50, 20) := (tbi2 566 (by decide +kernel))
set_option maxRecDepth 100000 in
theorem zVL_e5 : zvlOK (6, 54, 23) := (tbi2 581 (by decide +kernel))
set_option maxRecDepth 100000 in
theorem zVL_e6 : zvlOK (6, 61, 24) := (tbi2 585 (by decide +kernel))
set_option maxRecDepth 100000 in
theorem zVL_e7 : zvlOK (6, 65, 27) := (tbi2 597 (by decide +kernel))
set_option maxRecDepth 100000 in
theorem zVL_e8 : zvlOK (6, 72, 29) := (tbi2 613 (by decide +kernel))
set_option maxRecDepth 100000 in
theorem zVL_e9 : zvlOK (6, 75, 33) := (tbi2 632 (by decide +kernel))
set_option maxRecDepth 100000 in
theorem zVL_e10 : zvlOK (6, 98, 21) := (tbi2 570 (by decide +kernel))
set_option maxRecDepth 100000 in
theorem zVL_e11 : zvlOK (6, 110, 22) := (tbi2 576 (by decide +kernel))
set_option maxRecDepth 100000 in
theorem zVL_e12 : zvlOK (6, 114, 6) := (tbi2 580 (by decide +kernel))
set_option maxRecDepth 100000 in
theorem zVL_e13 : zvlOK (6, 129, 26) := (tbi2 589 (by decide +kernel))
set_option maxRecDepth 100000 in
theorem zVL_e14 : zvlOK (6, 143, 25) := (tbi2 593 (by decide +kernel))
set_option maxRecDepth 100000 in
theorem zVL_e15 : zvlOK (6, 150, 39) := (tbi2 601 (by decide +kernel))
set_option maxRecDepth 100000 in
theorem zVL_e16 : zvlOK (6, 153, 28) := (tbi2 605 (by decide +kernel))
set_option maxRecDepth 100000 in
theorem zVL_e17 : zvlOK (6, 156, 38) := (tbi2 609 (by decide +kernel))
set_option maxRecDepth 100000 in
theorem zVL_e18 : zvlOK (6, 159, 30) := (tbi2 617 (by decide +kernel))
set_option maxRecDepth 100000 in
theorem zVL_e19 : zvlOK (6, 166, 32) := (tbi2 628 (by decide +kernel))
set_option maxRecDepth 100000 in
theorem zVL_e20 : zvlOK (6, 169, 31) := (tbi2 621 (by decide +kernel))
set_option maxRecDepth 100000 in
theorem zVL_e21 : zvlOK (6, 184, 34) := (tbi2 636 (by decide +kernel))
set_option maxRecDepth 100000 in
theorem zVL_e22 : zvlOK (7, 40, 41) := (tbi2 824 (by decide +kernel))
set_option maxRecDepth 100000 in
theorem zVL_e23 : zvlOK (7, 44, 42) := (tbi2 828 (by decide +kernel))
set_option maxRecDepth 100000 in
theorem zVL_e24 : zvlOK (8, 56, 75) := (tbi2 175 (by decide +kernel))
set_option maxRecDepth 100000 in
theorem zVL_e25 : zvlOK (8, 56, 112) := (tbi2 175 (by decide +kernel))
set_option maxRecDepth 100000 in
theorem zVL_e26 : zvlOK (8, 56, 112) := (tbi2 175 (by decide +kernel))
set_option maxRecDepth 100000 in
theorem zVL_e27 : zvlOK (8, 78, 7) := (tbi2 373 (by decide +kernel))
set_option maxRecDepth 100000 in
theorem zVL_e28 : zvlOK (8, 88, 8) := (tbi2 391 (by decide +kernel))
set_option maxRecDepth 100000 in
theorem zVL_e29 : zvlOK (8, 95, 11) := (tbi2 407 (by decide +kernel))
set_option maxRecDepth 100000 in
theorem zVL_e30 : zvlOK (8, 99, 82) := (tbi2 421 (by decide +kernel))
set_option maxRecDepth 100000 in
theorem zVL_e31 : zvlOK (8, 103, 83) := (tbi2 435 (by decide +kernel))
set_option maxRecDepth 100000 in
theorem zVL_e32 : zvlOK (8, 107, 84) := (tbi2 440 (by decide +kernel))
set_option maxRecDepth 100000 in
theorem zVL_e33 : zvlOK (8, 122, 86) := (tbi2 450 (by decide +kernel))
set_option maxRecDepth 100000 in
theorem zVL_e34 : zvlOK (8, 129, 76) := (tbi2 486 (by decide +kernel))
set_option maxRecDepth 100000 in
theorem zVL_e35 : zvlOK (8, 140, 88) := (tbi2 495 (by decide +kernel))
set_option maxRecDepth 100000 in
theorem zVL_e36 : zvlOK (8, 146, 87) := (tbi2 266 (by decide +kernel))
set_option maxRecDepth 100000 in
theorem zVL_e37 : zvlOK (8, 153, 6) := (tbi2 504 (by decide +kernel))
set_option maxRecDepth 100000 in
theorem zVL_e38 : zvlOK (8, 173, 77) := (tbi2 278 (by decide +kernel))
set_option maxRecDepth 100000 in
theorem zVL_e39 : zvlOK (8, 209, 4) := (tbi2 529 (by decide +kernel))
def zVL_p0 : zVL_T := [(0, 38, 12), (2, 21, 9), (2, 25, 7), (2, 29, 12), (6, 50, 20), (6, 54, 23), (6, 61, 24), (6, 65, 27), (6, 72, 29), (6, 75, 33), (6, 98, 21), (6, 110, 22), (6, 114, 6), (6, 129, 26), (6, 143, 25), (6, 150, 39), (6, 153, 28), (6, 156, 38), (6, 159, 30), (6, 166, 32), (6, 169, 31), (6, 184, 34), (7, 40, 41), (7, 44, 42), (8, 56, 75), (8, 56, 112), (8, 56, 112), (8, 78, 7), (8, 88, 8), (8, 95, 11), (8, 99, 82), (8, 103, 83), (8, 107, 84), (8, 122, 86), (8, 129, 76), (8, 140, 88), (8, 146, 87), (8, 153, 6), (8, 173, 77), (8, 209, 4)]
theorem zVL_q0 : ∀ q ∈ zVL_p0, zvlOK q := List.forall_mem_cons.mpr ⟨zVL_e0, List.forall_mem_cons.mpr ⟨zVL_e1, List.forall_mem_cons.mpr ⟨zVL_e2, List.forall_mem_cons.mpr ⟨zVL_e3, List.forall_mem_cons.mpr ⟨zVL_e4, List.forall_mem_cons.mpr ⟨zVL_e5, List.forall_mem_cons.mpr ⟨zVL_e6, List.forall_mem_cons.mpr ⟨zVL_e7, List.forall_mem_cons.mpr ⟨zVL_e8, List.forall_mem_cons.mpr ⟨zVL_e9, List.forall_mem_cons.mpr ⟨zVL_e10, List.forall_mem_cons.mpr ⟨zVL_e11, List.forall_mem_cons.mpr ⟨zVL_e12, List.forall_mem_cons.mpr ⟨zVL_e13, List.forall_mem_cons.mpr ⟨zVL_e14, List.forall_mem_cons.mpr ⟨zVL_e15, List.forall_mem_cons.mpr ⟨zVL_e16, List.forall_mem_cons.mpr ⟨zVL_e17, List.forall_mem_cons.mpr ⟨zVL_e18, List.forall_mem_cons.mpr ⟨zVL_e19, List.forall_mem_cons.mpr ⟨zVL_e20, List.forall_mem_cons.mpr ⟨zVL_e21, List.forall_mem_cons.mpr ⟨zVL_e22, List.forall_mem_cons.mpr ⟨zVL_e23, List.forall_mem_cons.mpr ⟨zVL_e24, List.forall_mem_cons.mpr ⟨zVL_e25, List.forall_mem_cons.mpr ⟨zVL_e26, List.forall_mem_cons.mpr ⟨zVL_e27, List.forall_mem_cons.mpr ⟨zVL_e28, List.forall_mem_cons.mpr ⟨zVL_e29, List.forall_mem_cons.mpr ⟨zVL_e30, List.forall_mem_cons.mpr ⟨zVL_e31, List.forall_mem_cons.mpr ⟨zVL_e32, List.forall_mem_cons.mpr ⟨zVL_e33, List.forall_mem_cons.mpr ⟨zVL_e34, List.forall_mem_cons.mpr ⟨zVL_e35, List.forall_mem_cons.mpr ⟨zVL_e36, List.forall_mem_cons.mpr ⟨zVL_e37, List.forall_mem_cons.mpr ⟨zVL_e38, List.forall_mem_cons.mpr ⟨zVL_e39, fun _ h => absurd h List.not_mem_nil⟩⟩⟩⟩⟩⟩⟩⟩⟩⟩⟩⟩⟩⟩⟩⟩⟩⟩⟩⟩⟩⟩⟩⟩⟩⟩⟩⟩⟩⟩⟩⟩⟩⟩⟩⟩⟩⟩⟩⟩
set_option maxRecDepth 100000 in
theorem zVL_e40 : zvlOK (8, 233, 89) := (tbi2 549 (by decide +kernel))
set_option maxRecDepth 100000 in
theorem zVL_e41 : zvlOK (8, 237, 90) := (tbi2 558 (by decide +kernel))
set_option maxRecDepth 100000 in
theorem zVL_e42 : zvlOK (8, 244, 78) := (tbi2 287 (by decide +kernel))
set_option maxRecDepth 100000 in
theorem zVL_e43 : zvlOK (8, 278, 2) := (tbi2 292 (by decide +kernel))
set_option maxRecDepth 100000 in
theorem zVL_e44 : zvlOK (8, 284, 37) := (tbi2 706 (by decide +kernel))
set_option maxRecDepth 100000 in
theorem zVL_e45 : zvlOK (8, 299, 19) := (tbi2 562 (by decide +kernel))
set_option maxRecDepth 100000 in
theorem zVL_e46 : zvlOK (8, 308, 40) := (tbi2 820 (by decide +kernel))
set_option maxRecDepth 100000 in
theorem zVL_e47 : zvlOK (8, 338, 85) := (tbi2 444 (by decide +kernel))
set_option maxRecDepth 100000 in
theorem zVL_e48 : zvlOK (8, 343, 10) := (tbi2 456 (by decide +kernel))
set_option maxRecDepth 100000 in
theorem zVL_e49 : zvlOK (8, 347, 14) := (tbi2 270 (by decide +kernel))
set_option maxRecDepth 100000 in
theorem zVL_e50 : zvlOK (8, 350, 1) := (tbi2 553 (by decide +kernel))
set_option maxRecDepth 100000 in
theorem zVL_e51 : zvlOK (8, 354, 36) := (tbi2 640 (by decide +kernel))
set_option maxRecDepth 100000 in
theorem zVL_e52 : zvlOK (8, 360, 18) := (tbi2 672 (by decide +kernel))
set_option maxRecDepth 100000 in
theorem zVL_e53 : zvlOK (10, 8, 44) := (tbi2 306 (by decide +kernel))
set_option maxRecDepth 100000 in
theorem zVL_e54 : zvlOK (10, 20, 48) := (tbi2 403 (by decide +kernel))
set_option maxRecDepth 100000 in
theorem zVL_e55 : zvlOK (10, 28, 49) := (tbi2 417 (by decide +kernel))
set_option maxRecDepth 100000 in
theorem zVL_e56 : zvlOK (10, 32, 50) := (tbi2 482 (by decide +kernel))
set_option maxRecDepth 100000 in
theorem zVL_e57 : zvlOK (10, 35, 52) := (tbi2 499 (by decide +kernel))
set_option maxRecDepth 100000 in
theorem zVL_e58 : zvlOK (10, 39, 54) := (tbi2 508 (by decide +kernel))
set_option maxRecDepth 100000 in
theorem zVL_e59 : zvlOK (10, 42, 55) := (tbi2 513 (by decide +kernel))
set_option maxRecDepth 100000 in
theorem zVL_e60 : zvlOK (10, 46, 56) := (tbi2 517 (by decide +kernel))
set_option maxRecDepth 100000 in
theorem zVL_e61 : zvlOK (10, 50, 58) := (tbi2 523 (by decide +kernel))
set_option maxRecDepth 100000 in
theorem zVL_e62 : zvlOK (10, 53, 60) := (tbi2 533 (by decide +kernel))
set_option maxRecDepth 100000 in
theorem zVL_e63 : zvlOK (10, 56, 61) := (tbi2 544 (by decide +kernel))
set_option maxRecDepth 100000 in
theorem zVL_e64 : zvlOK (10, 59, 63) := (tbi2 283 (by decide +kernel))
set_option maxRecDepth 100000 in
theorem zVL_e65 : zvlOK (10, 62, 64) := (tbi2 698 (by decide +kernel))
set_option maxRecDepth 100000 in
theorem zVL_e66 : zvlOK (10, 65, 51) := (tbi2 171 (by decide +kernel))
set_option maxRecDepth 100000 in
theorem zVL_e67 : zvlOK (10, 68, 53) := (tbi2 710 (by decide +kernel))
set_option maxRecDepth 100000 in
theorem zVL_e68 : zvlOK (10, 77, 45) := (tbi2 363 (by decide +kernel))
set_option maxRecDepth 100000 in
theorem zVL_e69 : zvlOK (10, 81, 46) := (tbi2 381 (by decide +kernel))
set_option maxRecDepth 100000 in
theorem zVL_e70 : zvlOK (10, 84, 47) := (tbi2 386 (by decide +kernel))
set_option maxRecDepth 100000 in
theorem zVL_e71 : zvlOK (10, 88, 62) := (tbi2 395 (by decide +kernel))
set_option maxRecDepth 100000 in
theorem zVL_e72 : zvlOK (10, 130, 67) := (tbi2 812 (by decide +kernel))
set_option maxRecDepth 100000 in
theorem zVL_e73 : zvlOK (10, 133, 68) := (tbi2 816 (by decide +kernel))
set_option maxRecDepth 100000 in
theorem zVL_e74 : zvlOK (10, 136, 66) := (tbi2 832 (by decide +kernel))
set_option maxRecDepth 100000 in
theorem zVL_e75 : zvlOK (10, 139, 65) := (tbi2 839 (by decide +kernel))
set_option maxRecDepth 100000 in
theorem zVL_e76 : zvlOK (10, 152, 69) := (tbi2 808 (by decide +kernel))
set_option maxRecDepth 100000 in
theorem zVL_e77 : zvlOK (10, 163, 57) := (tbi2 860 (by decide +kernel))
set_option maxRecDepth 100000 in
theorem zVL_e78 : zvlOK (10, 193, 59) := (tbi2 274 (by decide +kernel))
def zVL_p1 : zVL_T := [(8, 233, 89), (8, 237, 90), (8, 244, 78), (8, 278, 2), (8, 284, 37), (8, 299, 19), (8, 308, 40), (8, 338, 85), (8, 343, 10), (8, 347, 14), (8, 350, 1), (8, 354, 36), (8, 360, 18), (10, 8, 44), (10, 20, 48), (10, 28, 49), (10, 32, 50), (10, 35, 52), (10, 39, 54), (10, 42, 55), (10, 46, 56), (10, 50, 58), (10, 53, 60), (10, 56, 61), (10, 59, 63), (10, 62, 64), (10, 65, 51), (10, 68, 53), (10, 77, 45), (10, 81, 46), (10, 84, 47), (10, 88, 62), (10, 130, 67), (10, 133, 68), (10, 136, 66), (10, 139, 65), (10, 152, 69), (10, 163, 57), (10, 193, 59)]
theorem zVL_q1 : ∀ q ∈ zVL_p1, zvlOK q := List.forall_mem_cons.mpr ⟨zVL_e40, List.forall_mem_cons.mpr ⟨zVL_e41, List.forall_mem_cons.mpr ⟨zVL_e42, List.forall_mem_cons.mpr ⟨zVL_e43, List.forall_mem_cons.mpr ⟨zVL_e44, List.forall_mem_cons.mpr ⟨zVL_e45, List.forall_mem_cons.mpr ⟨zVL_e46, List.forall_mem_cons.mpr ⟨zVL_e47, List.forall_mem_cons.mpr ⟨zVL_e48, List.forall_mem_cons.mpr ⟨zVL_e49, List.forall_mem_cons.mpr ⟨zVL_e50, List.forall_mem_cons.mpr ⟨zVL_e51, List.forall_mem_cons.mpr ⟨zVL_e52, List.forall_mem_cons.mpr ⟨zVL_e53, List.forall_mem_cons.mpr ⟨zVL_e54, List.forall_mem_cons.mpr ⟨zVL_e55, List.forall_mem_cons.mpr ⟨zVL_e56, List.forall_mem_cons.mpr ⟨zVL_e57, List.forall_mem_cons.mpr ⟨zVL_e58, List.forall_mem_cons.mpr ⟨zVL_e59, List.forall_mem_cons.mpr ⟨zVL_e60, List.forall_mem_cons.mpr ⟨zVL_e61, List.forall_mem_cons.mpr ⟨zVL_e62, List.forall_mem_cons.mpr ⟨zVL_e63, List.forall_mem_cons.mpr ⟨zVL_e64, List.forall_mem_cons.mpr ⟨zVL_e65, List.forall_mem_cons.mpr ⟨zVL_e66, List.forall_mem_cons.mpr ⟨zVL_e67, List.forall_mem_cons.mpr ⟨zVL_e68, List.forall_mem_cons.mpr ⟨zVL_e69, List.forall_mem_cons.mpr ⟨zVL_e70, List.forall_mem_cons.mpr ⟨zVL_e71, List.forall_mem_cons.mpr ⟨zVL_e72, List.forall_mem_cons.mpr ⟨zVL_e73, List.forall_mem_cons.mpr ⟨zVL_e74, List.forall_mem_cons.mpr ⟨zVL_e75, List.forall_mem_cons.mpr ⟨zVL_e76, List.forall_mem_cons.mpr ⟨zVL_e77, List.forall_mem_cons.mpr ⟨zVL_e78, fun _ h => absurd h List.not_mem_nil⟩⟩⟩⟩⟩⟩⟩⟩⟩⟩⟩⟩⟩⟩⟩⟩⟩⟩⟩⟩⟩⟩⟩⟩⟩⟩⟩⟩⟩⟩⟩⟩⟩⟩⟩⟩⟩⟩⟩
def zVLA : zVL_T := zVL_p0 ++ (zVL_p1)
theorem zVL_all : ∀ q ∈ zVLA, zvlOK q := List.forall_mem_append.mpr ⟨zVL_q0, zVL_q1⟩
def zsOK (f : Nat) : Prop := Jvm.Cond.static (zyn zZ f) ∈ zTB ∧ (parseMethodDescriptor (zyn zZ f).desc).map (fun d => d.parameters.length) = some (zna zPr f)
abbrev zSM_T : Type := List (Nat)
set_option maxRecDepth 100000 in
theorem zSM_e0 : zsOK 70 := ⟨(tbi2 180 (by decide +kernel)), by decide +kernel⟩
set_option maxRecDepth 100000 in
theorem zSM_e1 : zsOK 71 := ⟨(tbi2 370 (by decide +kernel)), by decide +kernel⟩
set_option maxRecDepth 100000 in
theorem zSM_e2 : zsOK 72 := ⟨(tbi2 492 (by decide +kernel)), by decide +kernel⟩
set_option maxRecDepth 100000 in
theorem zSM_e3 : zsOK 73 := ⟨(tbi2 538 (by decide +kernel)), by decide +kernel⟩
set_option maxRecDepth 100000 in
theorem zSM_e4 : zsOK 74 := ⟨(tbi2 703 (by decide +kernel)), by decide +kernel⟩
set_option maxRecDepth 100000 in
theorem zSM_e5 : zsOK 79 := ⟨(tbi2 432 (by decide +kernel)), by decide +kernel⟩
set_option maxRecDepth 100000 in
theorem zSM_e6 : zsOK 80 := ⟨(tbi2 429 (by decide +kernel)), by decide +kernel⟩
set_option maxRecDepth 100000 in
theorem zSM_e7 : zsOK 81 := ⟨(tbi2 426 (by decide +kernel)), by decide +kernel⟩
set_option maxRecDepth 100000 in
theorem zSM_e8 : zsOK 91 := ⟨(tbi2 297 (by decide +kernel)), by decide +kernel⟩
set_option maxRecDepth 100000 in
theorem zSM_e9 : zsOK 92 := ⟨(tbi2 301 (by decide +kernel)), by decide +kernel⟩
set_option maxRecDepth 100000 in
theorem zSM_e10 : zsOK 93 := ⟨(tbi2 361 (by decide +kernel)), by decide +kernel⟩
set_option maxRecDepth 100000 in
theorem zSM_e11 : zsOK 94 := ⟨(tbi2 772 (by decide +kernel)), by decide +kernel⟩
set_option maxRecDepth 100000 in
theorem zSM_e12 : zsOK 95 := ⟨(tbi2 788 (by decide +kernel)), by decide +kernel⟩
set_option maxRecDepth 100000 in
theorem zSM_e13 : zsOK 96 := ⟨(tbi2 792 (by decide +kernel)), by decide +kernel⟩
set_option maxRecDepth 100000 in
theorem zSM_e14 : zsOK 97 := ⟨(tbi2 785 (by decide +kernel)), by decide +kernel⟩
set_option maxRecDepth 100000 in
theorem zSM_e15 : zsOK 98 := ⟨(tbi2 802 (by decide +kernel)), by decide +kernel⟩
set_option maxRecDepth 100000 in
theorem zSM_e16 : zsOK 99 := ⟨(tbi2 799 (by decide +kernel)), by decide +kernel⟩
set_option maxRecDepth 100000 in
theorem zSM_e17 : zsOK 100 := ⟨(tbi2 795 (by decide +kernel)), by decide +kernel⟩
set_option maxRecDepth 100000 in
theorem zSM_e18 : zsOK 101 := ⟨(tbi2 806 (by decide +kernel)), by decide +kernel⟩
set_option maxRecDepth 100000 in
theorem zSM_e19 : zsOK 102 := ⟨(tbi2 781 (by decide +kernel)), by decide +kernel⟩
set_option maxRecDepth 100000 in
theorem zSM_e20 : zsOK 103 := ⟨(tbi2 837 (by decide +kernel)), by decide +kernel⟩
set_option maxRecDepth 100000 in
theorem zSM_e21 : zsOK 104 := ⟨(tbi2 778 (by decide +kernel)), by decide +kernel⟩
set_option maxRecDepth 100000 in
theorem zSM_e22 : zsOK 105 := ⟨(tbi2 775 (by decide +kernel)), by decide +kernel⟩
set_option maxRecDepth 100000 in
theorem zSM_e23 : zsOK 106 := ⟨(tbi2 844 (by decide +kernel)), by decide +kernel⟩
set_option maxRecDepth 100000 in
theorem zSM_e24 : zsOK 107 := ⟨(tbi2 851 (by decide +kernel)), by decide +kernel⟩
set_option maxRecDepth 100000 in
theorem zSM_e25 : zsOK 108 := ⟨(tbi2 848 (by decide +kernel)), by decide +kernel⟩
set_option maxRecDepth 100000 in
theorem zSM_e26 : zsOK 109 := ⟨(tbi2 858 (by decide +kernel)), by decide +kernel⟩
set_option maxRecDepth 100000 in
theorem zSM_e27 : zsOK 110 := ⟨(tbi2 854 (by decide +kernel)), by decide +kernel⟩
def zSM_p0 : zSM_T := [70, 71, 72, 73, 74, 79, 80, 81, 91, 92, 93, 94, 95, 96, 97, 98, 99, 100, 101, 102, 103, 104, 105, 106, 107, 108, 109, 110]
theorem zSM_q0 : ∀ q ∈ zSM_p0, zsOK q := List.forall_mem_cons.mpr ⟨zSM_e0, List.forall_mem_cons.mpr ⟨zSM_e1, List.forall_mem_cons.mpr ⟨zSM_e2, List.forall_mem_cons.mpr ⟨zSM_e3, List.forall_mem_cons.mpr ⟨zSM_e4, List.forall_mem_cons.mpr ⟨zSM_e5, List.forall_mem_cons.mpr ⟨zSM_e6, List.forall_mem_cons.mpr ⟨zSM_e7, List.forall_mem_cons.mpr ⟨zSM_e8, List.forall_mem_cons.mpr ⟨zSM_e9, List.forall_mem_cons.mpr ⟨zSM_e10, List.forall_mem_cons.mpr ⟨zSM_e11, List.forall_mem_cons.mpr ⟨zSM_e12, List.forall_mem_cons.mpr ⟨zSM_e13, List.forall_mem_cons.mpr ⟨zSM_e14, List.forall_mem_cons.mpr ⟨zSM_e15, List.forall_mem_cons.mpr ⟨zSM_e16, List.forall_mem_cons.mpr ⟨zSM_e17, List.forall_mem_cons.mpr ⟨zSM_e18, List.forall_mem_cons.mpr ⟨zSM_e19, List.forall_mem_cons.mpr ⟨zSM_e20, List.forall_mem_cons.mpr ⟨zSM_e21, List.forall_mem_cons.mpr ⟨zSM_e22, List.forall_mem_cons.mpr ⟨zSM_e23, List.forall_mem_cons.mpr ⟨zSM_e24, List.forall_mem_cons.mpr ⟨zSM_e25, List.forall_mem_cons.mpr ⟨zSM_e26, List.forall_mem_cons.mpr ⟨zSM_e27, fun _ h => absurd h List.not_mem_nil⟩⟩⟩⟩⟩⟩⟩⟩⟩⟩⟩⟩⟩⟩⟩⟩⟩⟩⟩⟩⟩⟩⟩⟩⟩⟩⟩⟩
def zSMA : zSM_T := zSM_p0
theorem zSM_all : ∀ q ∈ zSMA, zsOK q := zSM_q0
abbrev zSL_T : Type := List (Nat × Nat × Nat)
set_option maxRecDepth 100000 in
theorem zSL_e0 : zvlOK (8, 60, 70) := (tbi2 179 (by decide +kernel))
set_option maxRecDepth 100000 in
theorem zSL_e1 : zvlOK (8, 70, 71) := (tbi2 369 (by decide +kernel))
set_option maxRecDepth 100000 in
theorem zSL_e2 : zvlOK (8, 133, 72) := (tbi2 491 (by decide +kernel))
set_option maxRecDepth 100000 in
theorem zSL_e3 : zvlOK (8, 198, 81) := (tbi2 425 (by decide +kernel))
set_option maxRecDepth 100000 in
theorem zSL_e4 : zvlOK (8, 220, 73) := (tbi2 537 (by decide +kernel))
set_option maxRecDepth 100000 in
theorem zSL_e5 : zvlOK (8, 281, 74) := (tbi2 702 (by decide +kernel))
set_option maxRecDepth 100000 in
theorem zSL_e6 : zvlOK (8, 328, 79) := (tbi2 431 (by decide +kernel))
set_option maxRecDepth 100000 in
theorem zSL_e7 : zvlOK (8, 331, 80) := (tbi2 428 (by decide +kernel))
set_option maxRecDepth 100000 in
theorem zSL_e8 : zvlOK (10, 14, 93) := (tbi2 360 (by decide +kernel))
set_option maxRecDepth 100000 in
theorem zSL_e9 : zvlOK (10, 94, 94) := (tbi2 771 (by decide +kernel))
set_option maxRecDepth 100000 in
theorem zSL_e10 : zvlOK (10, 99, 95) := (tbi2 787 (by decide +kernel))
set_option maxRecDepth 100000 in
theorem zSL_e11 : zvlOK (10, 103, 96) := (tbi2 791 (by decide +kernel))
set_option maxRecDepth 100000 in
theorem zSL_e12 : zvlOK (10, 108, 99) := (tbi2 798 (by decide +kernel))
set_option maxRecDepth 100000 in
theorem zSL_e13 : zvlOK (10, 112, 98) := (tbi2 801 (by decide +kernel))
set_option maxRecDepth 100000 in
theorem zSL_e14 : zvlOK (10, 116, 97) := (tbi2 784 (by decide +kernel))
set_option maxRecDepth 100000 in
theorem zSL_e15 : zvlOK (10, 120, 100) := (tbi2 794 (by decide +kernel))
set_option maxRecDepth 100000 in
theorem zSL_e16 : zvlOK (10, 126, 101) := (tbi2 805 (by decide +kernel))
set_option maxRecDepth 100000 in
theorem zSL_e17 : zvlOK (10, 142, 92) := (tbi2 300 (by decide +kernel))
set_option maxRecDepth 100000 in
theorem zSL_e18 : zvlOK (10, 145, 104) := (tbi2 777 (by decide +kernel))
set_option maxRecDepth 100000 in
theorem zSL_e19 : zvlOK (10, 149, 102) := (tbi2 780 (by decide +kernel))
set_option maxRecDepth 100000 in
theorem zSL_e20 : zvlOK (10, 155, 103) := (tbi2 836 (by decide +kernel))
set_option maxRecDepth 100000 in
theorem zSL_e21 : zvlOK (10, 160, 107) := (tbi2 850 (by decide +kernel))
set_option maxRecDepth 100000 in
theorem zSL_e22 : zvlOK (10, 169, 109) := (tbi2 857 (by decide +kernel))
set_option maxRecDepth 100000 in
theorem zSL_e23 : zvlOK (10, 173, 91) := (tbi2 296 (by decide +kernel))
set_option maxRecDepth 100000 in
theorem zSL_e24 : zvlOK (10, 178, 106) := (tbi2 843 (by decide +kernel))
set_option maxRecDepth 100000 in
theorem zSL_e25 : zvlOK (10, 182, 108) := (tbi2 847 (by decide +kernel))
set_option maxRecDepth 100000 in
theorem zSL_e26 : zvlOK (10, 186, 110) := (tbi2 853 (by decide +kernel))
set_option maxRecDepth 100000 in
theorem zSL_e27 : zvlOK (10, 189, 105) := (tbi2 774 (by decide +kernel))
def zSL_p0 : zSL_T := [(8, 60, 70), (8, 70, 71), (8, 133, 72), (8, 198, 81), (8, 220, 73), (8, 281, 74), (8, 328, 79), (8, 331, 80), (10, 14, 93), (10, 94, 94), (10, 99, 95), (10, 103, 96), (10, 108, 99), (10, 112, 98), (10, 116, 97), (10, 120, 100), (10, 126, 101), (10, 142, 92), (10, 145, 104), (10, 149, 102), (10, 155, 103), (10, 160, 107), (10, 169, 109), (10, 173, 91), (10, 178, 106), (10, 182, 108), (10, 186, 110), (10, 189, 105)]
theorem zSL_q0 : ∀ q ∈ zSL_p0, zvlOK q := List.forall_mem_cons.mpr ⟨zSL_e0, List.forall_mem_cons.mpr ⟨zSL_e1, List.forall_mem_cons.mpr ⟨zSL_e2, List.forall_mem_cons.mpr ⟨zSL_e3, List.forall_mem_cons.mpr ⟨zSL_e4, List.forall_mem_cons.mpr ⟨zSL_e5, List.forall_mem_cons.mpr ⟨zSL_e6, List.forall_mem_cons.mpr ⟨zSL_e7, List.forall_mem_cons.mpr ⟨zSL_e8, List.forall_mem_cons.mpr ⟨zSL_e9, List.forall_mem_cons.mpr ⟨zSL_e10, List.forall_mem_cons.mpr ⟨zSL_e11, List.forall_mem_cons.mpr ⟨zSL_e12, List.forall_mem_cons.mpr ⟨zSL_e13, List.forall_mem_cons.mpr ⟨zSL_e14, List.forall_mem_cons.mpr ⟨zSL_e15, List.forall_mem_cons.mpr ⟨zSL_e16, List.forall_mem_cons.mpr ⟨zSL_e17, List.forall_mem_cons.mpr ⟨zSL_e18, List.forall_mem_cons.mpr ⟨zSL_e19, List.forall_mem_cons.mpr ⟨zSL_e20, List.forall_mem_cons.mpr ⟨zSL_e21, List.forall_mem_cons.mpr ⟨zSL_e22, List.forall_mem_cons.mpr ⟨zSL_e23, List.forall_mem_cons.mpr ⟨zSL_e24, List.forall_mem_cons.mpr ⟨zSL_e25, List.forall_mem_cons.mpr ⟨zSL_e26, List.forall_mem_cons.mpr ⟨zSL_e27, fun _ h => absurd h List.not_mem_nil⟩⟩⟩⟩⟩⟩⟩⟩⟩⟩⟩⟩⟩⟩⟩⟩⟩⟩⟩⟩⟩⟩⟩⟩⟩⟩⟩⟩
def zSLA : zSL_T := zSL_p0
theorem zSL_all : ∀ q ∈ zSLA, zvlOK q := zSL_q0
def ziOK (f : Nat) : Prop := zhh zZ f = [] ∧ zret zZ f = none ∧ (zyn zZ f).name = "<init>" ∧ Jvm.Cond.instanceMethod (zyn zZ f) ∈ zTB ∧ 1 ≤ zrc zPr f ∧ (parseMethodDescriptor (zyn zZ f).desc).map (fun d => d.parameters.length + 1) = some (zna zPr f)
abbrev zIC_T : Type := List (Nat)
set_option maxRecDepth 100000 in
theorem zIC_e0 : ziOK 0 := ⟨rfl, rfl, rfl, (tbi2 677 (by decide +kernel)), by decide, by decide +kernel⟩
set_option maxRecDepth 100000 in
theorem zIC_e1 : ziOK 3 := ⟨rfl, rfl, rfl, (tbi2 718 (by decide +kernel)), by decide, by decide +kernel⟩
set_option maxRecDepth 100000 in
theorem zIC_e2 : ziOK 5 := ⟨rfl, rfl, rfl, (tbi2 334 (by decide +kernel)), by decide, by decide +kernel⟩
set_option maxRecDepth 100000 in
theorem zIC_e3 : ziOK 13 := ⟨rfl, rfl, rfl, (tbi2 462 (by decide +kernel)), by decide, by decide +kernel⟩
set_option maxRecDepth 100000 in
theorem zIC_e4 : ziOK 15 := ⟨rfl, rfl, rfl, (tbi2 646 (by decide +kernel)), by decide, by decide +kernel⟩
set_option maxRecDepth 100000 in
theorem zIC_e5 : ziOK 16 := ⟨rfl, rfl, rfl, (tbi2 328 (by decide +kernel)), by decide, by decide +kernel⟩
set_option maxRecDepth 100000 in
theorem zIC_e6 : ziOK 17 := ⟨rfl, rfl, rfl, (tbi2 50 (by decide +kernel)), by decide, by decide +kernel⟩
set_option maxRecDepth 100000 in
theorem zIC_e7 : ziOK 35 := ⟨rfl, rfl, rfl, (tbi2 56 (by decide +kernel)), by decide, by decide +kernel⟩
set_option maxRecDepth 100000 in
theorem zIC_e8 : ziOK 43 := ⟨rfl, rfl, rfl, (tbi2 34 (by decide +kernel)), by decide, by decide +kernel⟩
def zIC_p0 : zIC_T := [0, 3, 5, 13, 15, 16, 17, 35, 43]
theorem zIC_q0 : ∀ q ∈ zIC_p0, ziOK q := List.forall_mem_cons.mpr ⟨zIC_e0, List.forall_mem_cons.mpr ⟨zIC_e1, List.forall_mem_cons.mpr ⟨zIC_e2, List.forall_mem_cons.mpr ⟨zIC_e3, List.forall_mem_cons.mpr ⟨zIC_e4, List.forall_mem_cons.mpr ⟨zIC_e5, List.forall_mem_cons.mpr ⟨zIC_e6, List.forall_mem_cons.mpr ⟨zIC_e7, List.forall_mem_cons.mpr ⟨zIC_e8, fun _ h => absurd h List.not_mem_nil⟩⟩⟩⟩⟩⟩⟩⟩⟩
def zICA : zIC_T := zIC_p0
theorem zIC_all : ∀ q ∈ zICA, ziOK q := zIC_q0
abbrev zIL_T : Type := List (Nat × Nat × Nat)
set_option maxRecDepth 100000 in
theorem zIL_e0 : zvlOK (8, 126, 13) := (tbi2 461 (by decide +kernel))
set_option maxRecDepth 100000 in
theorem zIL_e1 : zvlOK (8, 170, 3) := (tbi2 717 (by decide +kernel))
set_option maxRecDepth 100000 in
theorem zIL_e2 : zvlOK (8, 241, 15) := (tbi2 645 (by decide +kernel))
set_option maxRecDepth 100000 in
theorem zIL_e3 : zvlOK (8, 364, 0) := (tbi2 676 (by decide +kernel))
set_option maxRecDepth 100000 in
theorem zIL_e4 : zvlOK (10, 172, 43) := (tbi2 33 (by decide +kernel))
def zIL_p0 : zIL_T := [(8, 126, 13), (8, 170, 3), (8, 241, 15), (8, 364, 0), (10, 172, 43)]
theorem zIL_q0 : ∀ q ∈ zIL_p0, zvlOK q := List.forall_mem_cons.mpr ⟨zIL_e0, List.forall_mem_cons.mpr ⟨zIL_e1, List.forall_mem_cons.mpr ⟨zIL_e2, List.forall_mem_cons.mpr ⟨zIL_e3, List.forall_mem_cons.mpr ⟨zIL_e4, fun _ h => absurd h List.not_mem_nil⟩⟩⟩⟩⟩
def zILA : zIL_T := zIL_p0
theorem zIL_all : ∀ q ∈ zILA, zvlOK q := zIL_q0
def znlOK (q : Nat × Nat × Nat) : Prop := ∃ ho, (zcnm q.1, q.2.1, zyn zZ q.2.2, ho) ∈ zNST
abbrev zNL_T : Type := List (Nat × Nat × Nat)
set_option maxRecDepth 100000 in
theorem zNL_e0 : znlOK (6, 102, 80) := ⟨RX8, List.mem_of_getElem? (i := 0) rfl⟩
set_option maxRecDepth 100000 in
theorem zNL_e1 : znlOK (6, 106, 79) := ⟨RX8, List.mem_of_getElem? (i := 1) rfl⟩
set_option maxRecDepth 100000 in
theorem zNL_e2 : znlOK (5, 11, 5) := ⟨RX8, List.mem_of_getElem? (i := 2) rfl⟩
set_option maxRecDepth 100000 in
theorem zNL_e3 : znlOK (6, 11, 35) := ⟨RX8, List.mem_of_getElem? (i := 3) rfl⟩
set_option maxRecDepth 100000 in
theorem zNL_e4 : znlOK (8, 39, 17) := ⟨RX8, List.mem_of_getElem? (i := 4) rfl⟩
set_option maxRecDepth 100000 in
theorem zNL_e5 : znlOK (8, 55, 16) := ⟨RX8, List.mem_of_getElem? (i := 5) rfl⟩
set_option maxRecDepth 100000 in
theorem zNL_e6 : znlOK (8, 342, 5) := ⟨RX8, List.mem_of_getElem? (i := 6) rfl⟩
def zNL_p0 : zNL_T := [(6, 102, 80), (6, 106, 79), (5, 11, 5), (6, 11, 35), (8, 39, 17), (8, 55, 16), (8, 342, 5)]
theorem zNL_q0 : ∀ q ∈ zNL_p0, znlOK q := List.forall_mem_cons.mpr ⟨zNL_e0, List.forall_mem_cons.mpr ⟨zNL_e1, List.forall_mem_cons.mpr ⟨zNL_e2, List.forall_mem_cons.mpr ⟨zNL_e3, List.forall_mem_cons.mpr ⟨zNL_e4, List.forall_mem_cons.mpr ⟨zNL_e5, List.forall_mem_cons.mpr ⟨zNL_e6, fun _ h => absurd h List.not_mem_nil⟩⟩⟩⟩⟩⟩⟩
def zNLA : zNL_T := zNL_p0
theorem zNL_all : ∀ q ∈ zNLA, znlOK q := zNL_q0
def znwOK (q : Nat × Nat × Nat × Nat) : Prop := ∃ r : vw_C, vwCl[q.2.2.1]? = some r ∧ r.2.2 ≤ q.2.2.2 ∧ Jvm.Cond.classLink (zcnm q.1) q.2.1 r.1 ∈ zTB ∧ Jvm.Cond.instantiable r.1 q.2.2.2 ∈ zTB ∧ Jvm.Cond.initialized r.1 ∈ zTB
abbrev zNW_T : Type := List (Nat × Nat × Nat × Nat)
set_option maxRecDepth 100000 in
theorem zNW_e0 : znwOK (5, 9, 2, 3) := ⟨_, rfl, by decide, (tbi2 331 (by decide +kernel)), (tbi2 332 (by decide +kernel)), (tbi2 23 (by decide +kernel))⟩
set_option maxRecDepth 100000 in
theorem zNW_e1 : znwOK (6, 9, 7, 12) := ⟨_, rfl, by decide, (tbi2 53 (by decide +kernel)), (tbi2 54 (by decide +kernel)), (tbi2 17 (by decide +kernel))⟩
set_option maxRecDepth 100000 in
theorem zNW_e2 : znwOK (8, 9, 5, 2) := ⟨_, rfl, by decide, (tbi2 39 (by decide +kernel)), (tbi2 326 (by decide +kernel)), (tbi2 22 (by decide +kernel))⟩
set_option maxRecDepth 100000 in
theorem zNW_e3 : znwOK (8, 15, 3, 4) := ⟨_, rfl, by decide, (tbi2 41 (by decide +kernel)), (tbi2 449 (by decide +kernel)), (tbi2 27 (by decide +kernel))⟩
set_option maxRecDepth 100000 in
theorem zNW_e4 : znwOK (8, 21, 1, 11) := ⟨_, rfl, by decide, (tbi2 43 (by decide +kernel)), (tbi2 716 (by decide +kernel)), (tbi2 30 (by decide +kernel))⟩
set_option maxRecDepth 100000 in
theorem zNW_e5 : znwOK (8, 27, 4, 5) := ⟨_, rfl, by decide, (tbi2 45 (by decide +kernel)), (tbi2 644 (by decide +kernel)), (tbi2 28 (by decide +kernel))⟩
set_option maxRecDepth 100000 in
theorem zNW_e6 : znwOK (8, 37, 6, 7) := ⟨_, rfl, by decide, (tbi2 47 (by decide +kernel)), (tbi2 48 (by decide +kernel)), (tbi2 16 (by decide +kernel))⟩
set_option maxRecDepth 100000 in
theorem zNW_e7 : znwOK (8, 79, 2, 3) := ⟨_, rfl, by decide, (tbi2 454 (by decide +kernel)), (tbi2 332 (by decide +kernel)), (tbi2 23 (by decide +kernel))⟩
set_option maxRecDepth 100000 in
theorem zNW_e8 : znwOK (8, 255, 0, 5) := ⟨_, rfl, by decide, (tbi2 670 (by decide +kernel)), (tbi2 671 (by decide +kernel)), (tbi2 29 (by decide +kernel))⟩
set_option maxRecDepth 100000 in
theorem zNW_e9 : znwOK (10, 9, 8, 11) := ⟨_, rfl, by decide, (tbi2 31 (by decide +kernel)), (tbi2 32 (by decide +kernel)), (tbi2 15 (by decide +kernel))⟩
def zNW_p0 : zNW_T := [(5, 9, 2, 3), (6, 9, 7, 12), (8, 9, 5, 2), (8, 15, 3, 4), (8, 21, 1, 11), (8, 27, 4, 5), (8, 37, 6, 7), (8, 79, 2, 3), (8, 255, 0, 5), (10, 9, 8, 11)]
theorem zNW_q0 : ∀ q ∈ zNW_p0, znwOK q := List.forall_mem_cons.mpr ⟨zNW_e0, List.forall_mem_cons.mpr ⟨zNW_e1, List.forall_mem_cons.mpr ⟨zNW_e2, List.forall_mem_cons.mpr ⟨zNW_e3, List.forall_mem_cons.mpr ⟨zNW_e4, List.forall_mem_cons.mpr ⟨zNW_e5, List.forall_mem_cons.mpr ⟨zNW_e6, List.forall_mem_cons.mpr ⟨zNW_e7, List.forall_mem_cons.mpr ⟨zNW_e8, List.forall_mem_cons.mpr ⟨zNW_e9, fun _ h => absurd h List.not_mem_nil⟩⟩⟩⟩⟩⟩⟩⟩⟩⟩
def zNWA : zNW_T := zNW_p0
theorem zNW_all : ∀ q ∈ zNWA, znwOK q := zNW_q0
def zanOK (q : Nat × Nat × Nat) : Prop := Jvm.Cond.classLink (zcnm q.1) q.2.1 (zcn q.2.2) ∈ zTB ∧ zcn q.2.2 ∈ zAOS
abbrev zAN_T : Type := List (Nat × Nat × Nat)
set_option maxRecDepth 100000 in
theorem zAN_e0 : zanOK (8, 9, 5) := ⟨(tbi2 39 (by decide +kernel)), List.mem_of_getElem? (i := 3) rfl⟩
set_option maxRecDepth 100000 in
theorem zAN_e1 : zanOK (8, 15, 3) := ⟨(tbi2 41 (by decide +kernel)), List.mem_of_getElem? (i := 1) rfl⟩
set_option maxRecDepth 100000 in
theorem zAN_e2 : zanOK (8, 21, 1) := ⟨(tbi2 43 (by decide +kernel)), List.mem_of_getElem? (i := 0) rfl⟩
set_option maxRecDepth 100000 in
theorem zAN_e3 : zanOK (8, 27, 4) := ⟨(tbi2 45 (by decide +kernel)), List.mem_of_getElem? (i := 2) rfl⟩
def zAN_p0 : zAN_T := [(8, 9, 5), (8, 15, 3), (8, 21, 1), (8, 27, 4)]
theorem zAN_q0 : ∀ q ∈ zAN_p0, zanOK q := List.forall_mem_cons.mpr ⟨zAN_e0, List.forall_mem_cons.mpr ⟨zAN_e1, List.forall_mem_cons.mpr ⟨zAN_e2, List.forall_mem_cons.mpr ⟨zAN_e3, fun _ h => absurd h List.not_mem_nil⟩⟩⟩⟩
def zANA : zAN_T := zAN_p0
theorem zAN_all : ∀ q ∈ zANA, zanOK q := zAN_q0
def zciOK (q : Nat × Nat × Nat) : Prop := zInR q.2.2 ∧ Jvm.Cond.constant (zcnm q.1) q.2.1 (Int32.ofInt q.2.2) ∈ zTB
abbrev zCI_T : Type := List (Nat × Nat × Nat)
set_option maxRecDepth 100000 in
theorem zCI_e0 : zciOK (8, 64, 67108863) := ⟨⟨by decide, by decide⟩, (tbi2 367 (by decide +kernel))⟩
set_option maxRecDepth 100000 in
theorem zCI_e1 : zciOK (8, 225, 1000000) := ⟨⟨by decide, by decide⟩, (tbi2 542 (by decide +kernel))⟩
set_option maxRecDepth 100000 in
theorem zCI_e2 : zciOK (10, 7, 2147483647) := ⟨⟨by decide, by decide⟩, (tbi2 299 (by decide +kernel))⟩
set_option maxRecDepth 100000 in
theorem zCI_e3 : zciOK (10, 107, 1000000) := ⟨⟨by decide, by decide⟩, (tbi2 797 (by decide +kernel))⟩
set_option maxRecDepth 100000 in
theorem zCI_e4 : zciOK (10, 159, 67108863) := ⟨⟨by decide, by decide⟩, (tbi2 846 (by decide +kernel))⟩
set_option maxRecDepth 100000 in
theorem zCI_e5 : zciOK (10, 177, 60000) := ⟨⟨by decide, by decide⟩, (tbi2 866 (by decide +kernel))⟩
def zCI_p0 : zCI_T := [(8, 64, 67108863), (8, 225, 1000000), (10, 7, 2147483647), (10, 107, 1000000), (10, 159, 67108863), (10, 177, 60000)]
theorem zCI_q0 : ∀ q ∈ zCI_p0, zciOK q := List.forall_mem_cons.mpr ⟨zCI_e0, List.forall_mem_cons.mpr ⟨zCI_e1, List.forall_mem_cons.mpr ⟨zCI_e2, List.forall_mem_cons.mpr ⟨zCI_e3, List.forall_mem_cons.mpr ⟨zCI_e4, List.forall_mem_cons.mpr ⟨zCI_e5, fun _ h => absurd h List.not_mem_nil⟩⟩⟩⟩⟩⟩
def zCIA : zCI_T := zCI_p0
theorem zCI_all : ∀ q ∈ zCIA, zciOK q := zCI_q0
def zcjOK (q : Nat × Nat × Nat) : Prop := Jvm.Cond.constantLong (zcnm q.1) q.2.1 (Int64.ofNat q.2.2) ∈ zTB
abbrev zCJ_T : Type := List (Nat × Nat × Nat)
set_option maxRecDepth 100000 in
theorem zCJ_e0 : zcjOK (10, 24, 256) := (tbi2 415 (by decide +kernel))
set_option maxRecDepth 100000 in
theorem zCJ_e1 : zcjOK (10, 26, 65536) := (tbi2 416 (by decide +kernel))
set_option maxRecDepth 100000 in
theorem zCJ_e2 : zcjOK (10, 92, 255) := (tbi2 790 (by decide +kernel))
set_option maxRecDepth 100000 in
theorem zCJ_e3 : zcjOK (10, 97, 32) := (tbi2 783 (by decide +kernel))
set_option maxRecDepth 100000 in
theorem zCJ_e4 : zcjOK (10, 124, 18446744073709551615) := (tbi2 804 (by decide +kernel))
set_option maxRecDepth 100000 in
theorem zCJ_e5 : zcjOK (10, 167, 6913) := (tbi2 856 (by decide +kernel))
def zCJ_p0 : zCJ_T := [(10, 24, 256), (10, 26, 65536), (10, 92, 255), (10, 97, 32), (10, 124, 18446744073709551615), (10, 167, 6913)]
theorem zCJ_q0 : ∀ q ∈ zCJ_p0, zcjOK q := List.forall_mem_cons.mpr ⟨zCJ_e0, List.forall_mem_cons.mpr ⟨zCJ_e1, List.forall_mem_cons.mpr ⟨zCJ_e2, List.forall_mem_cons.mpr ⟨zCJ_e3, List.forall_mem_cons.mpr ⟨zCJ_e4, List.forall_mem_cons.mpr ⟨zCJ_e5, fun _ h => absurd h List.not_mem_nil⟩⟩⟩⟩⟩⟩
def zCJA : zCJ_T := zCJ_p0
theorem zCJ_all : ∀ q ∈ zCJA, zcjOK q := zCJ_q0
def zobOK (q : Nat × Nat) : Prop := Jvm.Cond.methodLink (zcnm q.1) q.2 Lib.objectInit ∈ zTB ∧ Jvm.Cond.instanceMethod Lib.objectInit ∈ zTB ∧ Jvm.Cond.code Lib.objectInit ⟨#[0xb1]⟩ 1 none ∈ zTB
abbrev zOB_T : Type := List (Nat × Nat)
set_option maxRecDepth 100000 in
theorem zOB_e0 : zobOK (0, 3) := ⟨(tbi2 679 (by decide +kernel)), (tbi2 37 (by decide +kernel)), tbi 38 rfl rfl⟩
set_option maxRecDepth 100000 in
theorem zOB_e1 : zobOK (1, 3) := ⟨(tbi2 720 (by decide +kernel)), (tbi2 37 (by decide +kernel)), tbi 38 rfl rfl⟩
set_option maxRecDepth 100000 in
theorem zOB_e2 : zobOK (2, 3) := ⟨(tbi2 336 (by decide +kernel)), (tbi2 37 (by decide +kernel)), tbi 38 rfl rfl⟩
set_option maxRecDepth 100000 in
theorem zOB_e3 : zobOK (3, 1) := ⟨(tbi2 464 (by decide +kernel)), (tbi2 37 (by decide +kernel)), tbi 38 rfl rfl⟩
set_option maxRecDepth 100000 in
theorem zOB_e4 : zobOK (4, 1) := ⟨(tbi2 648 (by decide +kernel)), (tbi2 37 (by decide +kernel)), tbi 38 rfl rfl⟩
set_option maxRecDepth 100000 in
theorem zOB_e5 : zobOK (5, 3) := ⟨(tbi2 330 (by decide +kernel)), (tbi2 37 (by decide +kernel)), tbi 38 rfl rfl⟩
set_option maxRecDepth 100000 in
theorem zOB_e6 : zobOK (6, 3) := ⟨(tbi2 52 (by decide +kernel)), (tbi2 37 (by decide +kernel)), tbi 38 rfl rfl⟩
set_option maxRecDepth 100000 in
theorem zOB_e7 : zobOK (7, 3) := ⟨(tbi2 58 (by decide +kernel)), (tbi2 37 (by decide +kernel)), tbi 38 rfl rfl⟩
set_option maxRecDepth 100000 in
theorem zOB_e8 : zobOK (8, 3) := ⟨(tbi2 36 (by decide +kernel)), (tbi2 37 (by decide +kernel)), tbi 38 rfl rfl⟩
def zOB_p0 : zOB_T := [(0, 3), (1, 3), (2, 3), (3, 1), (4, 1), (5, 3), (6, 3), (7, 3), (8, 3)]
theorem zOB_q0 : ∀ q ∈ zOB_p0, zobOK q := List.forall_mem_cons.mpr ⟨zOB_e0, List.forall_mem_cons.mpr ⟨zOB_e1, List.forall_mem_cons.mpr ⟨zOB_e2, List.forall_mem_cons.mpr ⟨zOB_e3, List.forall_mem_cons.mpr ⟨zOB_e4, List.forall_mem_cons.mpr ⟨zOB_e5, List.forall_mem_cons.mpr ⟨zOB_e6, List.forall_mem_cons.mpr ⟨zOB_e7, List.forall_mem_cons.mpr ⟨zOB_e8, fun _ h => absurd h List.not_mem_nil⟩⟩⟩⟩⟩⟩⟩⟩⟩
def zOBA : zOB_T := zOB_p0
theorem zOB_all : ∀ q ∈ zOBA, zobOK q := zOB_q0
theorem zma_7 : Jvm.Cond.methodLink (zcnm 6) 173 Lib.Math.max.name ∈ zTB ∧ Jvm.Cond.static Lib.Math.max.name ∈ zTB ∧ Jvm.Cond.initialized "java/lang/Math" ∈ zTB ∧ Jvm.Cond.code Lib.Math.max.name Lib.Math.max.code 2 (some .int) ∈ zTB := ⟨(tbi2 625 (by decide +kernel)), (tbi2 626 (by decide +kernel)), (tbi2 26 (by decide +kernel)), (tbi2 627 (by decide +kernel))⟩
theorem zma_6 : Jvm.Cond.methodLink (zcnm 8) 265 Lib.Math.min.name ∈ zTB ∧ Jvm.Cond.static Lib.Math.min.name ∈ zTB ∧ Jvm.Cond.initialized "java/lang/Math" ∈ zTB ∧ Jvm.Cond.code Lib.Math.min.name Lib.Math.min.code 2 (some .int) ∈ zTB := ⟨(tbi2 400 (by decide +kernel)), (tbi2 401 (by decide +kernel)), (tbi2 26 (by decide +kernel)), (tbi2 402 (by decide +kernel))⟩
theorem zac_int : Jvm.Cond.arrayClass .int ∈ zTB := (tbi2 113 (by decide +kernel))
theorem zac_long : Jvm.Cond.arrayClass .long ∈ zTB := (tbi2 770 (by decide +kernel))
def zthOK (q : Nat × Nat × Nat) : Prop := zTHOK zZ q.1 q.2.1 q.2.2
theorem zth_a0 : ∀ w ∈ (vx_atS (zcnm 8) 52 (zen 2) znm).filter goodWord, w ∈ zTB := fun w h => (List.mem_filter.mp h).elim fun h1 h2 => List.mem_filter.mpr ⟨(show ∀ w ∈ (vx_atS (zcnm 8) 52 (zen 2) znm).filter goodWord, w ∈ lw_tbl by decide +kernel) w h, h2⟩
theorem zth_b0 : ∀ w ∈ (vx_atS (zcnm 8) 52 (zen 2) znm).filter (fun w => !goodWord w), w = Jvm.Cond.castable (zen 2) (zen 2) ∨ ∃ Y ∈ zdcl, w = Jvm.Cond.declares (Bundle.initS Y) := by decide +kernel
theorem zth_c0 : ∀ w ∈ vx_atS (zcnm 8) 52 (zen 2) znm, vx_ot w = true := by decide +kernel
theorem zth_a1 : ∀ w ∈ (vx_atS (zcnm 8) 69 (zen 0) znm).filter goodWord, w ∈ zTB := fun w h => (List.mem_filter.mp h).elim fun h1 h2 => List.mem_filter.mpr ⟨(show ∀ w ∈ (vx_atS (zcnm 8) 69 (zen 0) znm).filter goodWord, w ∈ lw_tbl by decide +kernel) w h, h2⟩
theorem zth_b1 : ∀ w ∈ (vx_atS (zcnm 8) 69 (zen 0) znm).filter (fun w => !goodWord w), w = Jvm.Cond.castable (zen 0) (zen 0) ∨ ∃ Y ∈ zdcl, w = Jvm.Cond.declares (Bundle.initS Y) := by decide +kernel
theorem zth_c1 : ∀ w ∈ vx_atS (zcnm 8) 69 (zen 0) znm, vx_ot w = true := by decide +kernel
theorem zth_a2 : ∀ w ∈ (vx_atS (zcnm 8) 217 (zen 1) znm).filter goodWord, w ∈ zTB := fun w h => (List.mem_filter.mp h).elim fun h1 h2 => List.mem_filter.mpr ⟨(show ∀ w ∈ (vx_atS (zcnm 8) 217 (zen 1) znm).filter goodWord, w ∈ lw_tbl by decide +kernel) w h, h2⟩
theorem zth_b2 : ∀ w ∈ (vx_atS (zcnm 8) 217 (zen 1) znm).filter (fun w => !goodWord w), w = Jvm.Cond.castable (zen 1) (zen 1) ∨ ∃ Y ∈ zdcl, w = Jvm.Cond.declares (Bundle.initS Y) := by decide +kernel
theorem zth_c2 : ∀ w ∈ vx_atS (zcnm 8) 217 (zen 1) znm, vx_ot w = true := by decide +kernel
abbrev zTL_T : Type := List (Nat × Nat × Nat)
set_option maxRecDepth 100000 in
theorem zTL_e0 : zthOK (44, 9, 2) := ⟨48, 50, 52, "there are 24 layers", (by decide +kernel), (by decide +kernel), Or.inl ⟨(by decide +kernel), (by decide +kernel), (by decide +kernel)⟩, (tbi2 310 (by decide +kernel)), (tbi2 21 (by decide +kernel)), List.mem_of_getElem? (i := 0) rfl, zth_a0, zth_b0, zth_c0, by decide +kernel, by decide, by decide, rfl, by decide⟩
set_option maxRecDepth 100000 in
theorem zTL_e1 : zthOK (45, 37, 0) := ⟨65, 67, 69, "file, width or cover", (by decide +kernel), (by decide +kernel), Or.inl ⟨(by decide +kernel), (by decide +kernel), (by decide +kernel)⟩, (tbi2 250 (by decide +kernel)), (tbi2 25 (by decide +kernel)), List.mem_of_getElem? (i := 1) rfl, zth_a1, zth_b1, zth_c1, by decide +kernel, by decide, by decide, rfl, by decide⟩
set_option maxRecDepth 100000 in
theorem zTL_e2 : zthOK (46, 37, 0) := ⟨65, 84, 69, "file, space or version", (by decide +kernel), (by decide +kernel), Or.inl ⟨(by decide +kernel), (by decide +kernel), (by decide +kernel)⟩, (tbi2 250 (by decide +kernel)), (tbi2 25 (by decide +kernel)), List.mem_of_getElem? (i := 2) rfl, zth_a1, zth_b1, zth_c1, by decide +kernel, by decide, by decide, rfl, by decide⟩
set_option maxRecDepth 100000 in
theorem zTL_e3 : zthOK (47, 16, 0) := ⟨65, 86, 69, "file", (by decide +kernel), (by decide +kernel), Or.inl ⟨(by decide +kernel), (by decide +kernel), (by decide +kernel)⟩, (tbi2 250 (by decide +kernel)), (tbi2 25 (by decide +kernel)), List.mem_of_getElem? (i := 3) rfl, zth_a1, zth_b1, zth_c1, by decide +kernel, by decide, by decide, rfl, by decide⟩
set_option maxRecDepth 100000 in
theorem zTL_e4 : zthOK (49, 49, 2) := ⟨48, 120, 52, "there are 12 images", (by decide +kernel), (by decide +kernel), Or.inl ⟨(by decide +kernel), (by decide +kernel), (by decide +kernel)⟩, (tbi2 310 (by decide +kernel)), (tbi2 21 (by decide +kernel)), List.mem_of_getElem? (i := 4) rfl, zth_a0, zth_b0, zth_c0, by decide +kernel, by decide, by decide, rfl, by decide⟩
set_option maxRecDepth 100000 in
theorem zTL_e5 : zthOK (51, 15, 0) := ⟨65, 144, 69, "what", (by decide +kernel), (by decide +kernel), Or.inl ⟨(by decide +kernel), (by decide +kernel), (by decide +kernel)⟩, (tbi2 250 (by decide +kernel)), (tbi2 25 (by decide +kernel)), List.mem_of_getElem? (i := 5) rfl, zth_a1, zth_b1, zth_c1, by decide +kernel, by decide, by decide, rfl, by decide⟩
set_option maxRecDepth 100000 in
theorem zTL_e6 : zthOK (52, 26, 0) := ⟨65, 150, 69, "file or what", (by decide +kernel), (by decide +kernel), Or.inl ⟨(by decide +kernel), (by decide +kernel), (by decide +kernel)⟩, (tbi2 250 (by decide +kernel)), (tbi2 25 (by decide +kernel)), List.mem_of_getElem? (i := 6) rfl, zth_a1, zth_b1, zth_c1, by decide +kernel, by decide, by decide, rfl, by decide⟩
set_option maxRecDepth 100000 in
theorem zTL_e7 : zthOK (53, 22, 0) := ⟨65, 163, 69, "measure or height", (by decide +kernel), (by decide +kernel), Or.inl ⟨(by decide +kernel), (by decide +kernel), (by decide +kernel)⟩, (tbi2 250 (by decide +kernel)), (tbi2 25 (by decide +kernel)), List.mem_of_getElem? (i := 7) rfl, zth_a1, zth_b1, zth_c1, by decide +kernel, by decide, by decide, rfl, by decide⟩
set_option maxRecDepth 100000 in
theorem zTL_e8 : zthOK (53, 41, 2) := ⟨48, 168, 52, "there are 6 documents", (by decide +kernel), (by decide +kernel), Or.inl ⟨(by decide +kernel), (by decide +kernel), (by decide +kernel)⟩, (tbi2 310 (by decide +kernel)), (tbi2 21 (by decide +kernel)), List.mem_of_getElem? (i := 8) rfl, zth_a0, zth_b0, zth_c0, by decide +kernel, by decide, by decide, rfl, by decide⟩
set_option maxRecDepth 100000 in
theorem zTL_e9 : zthOK (54, 25, 0) := ⟨65, 177, 69, "style or font", (by decide +kernel), (by decide +kernel), Or.inl ⟨(by decide +kernel), (by decide +kernel), (by decide +kernel)⟩, (tbi2 250 (by decide +kernel)), (tbi2 25 (by decide +kernel)), List.mem_of_getElem? (i := 9) rfl, zth_a1, zth_b1, zth_c1, by decide +kernel, by decide, by decide, rfl, by decide⟩
set_option maxRecDepth 100000 in
theorem zTL_e10 : zthOK (55, 17, 0) := ⟨65, 86, 69, "file", (by decide +kernel), (by decide +kernel), Or.inl ⟨(by decide +kernel), (by decide +kernel), (by decide +kernel)⟩, (tbi2 250 (by decide +kernel)), (tbi2 25 (by decide +kernel)), List.mem_of_getElem? (i := 3) rfl, zth_a1, zth_b1, zth_c1, by decide +kernel, by decide, by decide, rfl, by decide⟩
set_option maxRecDepth 100000 in
theorem zTL_e11 : zthOK (56, 15, 0) := ⟨65, 188, 69, "style", (by decide +kernel), (by decide +kernel), Or.inl ⟨(by decide +kernel), (by decide +kernel), (by decide +kernel)⟩, (tbi2 250 (by decide +kernel)), (tbi2 25 (by decide +kernel)), List.mem_of_getElem? (i := 10) rfl, zth_a1, zth_b1, zth_c1, by decide +kernel, by decide, by decide, rfl, by decide⟩
set_option maxRecDepth 100000 in
theorem zTL_e12 : zthOK (56, 34, 2) := ⟨48, 193, 52, "it has 12 paragraphs", (by decide +kernel), (by decide +kernel), Or.inl ⟨(by decide +kernel), (by decide +kernel), (by decide +kernel)⟩, (tbi2 310 (by decide +kernel)), (tbi2 21 (by decide +kernel)), List.mem_of_getElem? (i := 11) rfl, zth_a0, zth_b0, zth_c0, by decide +kernel, by decide, by decide, rfl, by decide⟩
set_option maxRecDepth 100000 in
theorem zTL_e13 : zthOK (57, 18, 0) := ⟨65, 202, 69, "letters", (by decide +kernel), (by decide +kernel), Or.inl ⟨(by decide +kernel), (by decide +kernel), (by decide +kernel)⟩, (tbi2 250 (by decide +kernel)), (tbi2 25 (by decide +kernel)), List.mem_of_getElem? (i := 12) rfl, zth_a1, zth_b1, zth_c1, by decide +kernel, by decide, by decide, rfl, by decide⟩
set_option maxRecDepth 100000 in
theorem zTL_e14 : zthOK (57, 46, 2) := ⟨48, 207, 52, "no paragraph, or 60 words", (by decide +kernel), (by decide +kernel), Or.inl ⟨(by decide +kernel), (by decide +kernel), (by decide +kernel)⟩, (tbi2 310 (by decide +kernel)), (tbi2 21 (by decide +kernel)), List.mem_of_getElem? (i := 13) rfl, zth_a0, zth_b0, zth_c0, by decide +kernel, by decide, by decide, rfl, by decide⟩
set_option maxRecDepth 100000 in
theorem zTL_e15 : zthOK (58, 20, 1) := ⟨213, 215, 217, "no such paragraph", (by decide +kernel), (by decide +kernel), Or.inl ⟨(by decide +kernel), (by decide +kernel), (by decide +kernel)⟩, (tbi2 182 (by decide +kernel)), (tbi2 24 (by decide +kernel)), List.mem_of_getElem? (i := 14) rfl, zth_a2, zth_b2, zth_c2, by decide +kernel, by decide, by decide, rfl, by decide⟩
set_option maxRecDepth 100000 in
theorem zTL_e16 : zthOK (58, 39, 2) := ⟨48, 218, 52, "there are 60 words", (by decide +kernel), (by decide +kernel), Or.inl ⟨(by decide +kernel), (by decide +kernel), (by decide +kernel)⟩, (tbi2 310 (by decide +kernel)), (tbi2 21 (by decide +kernel)), List.mem_of_getElem? (i := 15) rfl, zth_a0, zth_b0, zth_c0, by decide +kernel, by decide, by decide, rfl, by decide⟩
set_option maxRecDepth 100000 in
theorem zTL_e17 : zthOK (60, 15, 0) := ⟨65, 223, 69, "more", (by decide +kernel), (by decide +kernel), Or.inl ⟨(by decide +kernel), (by decide +kernel), (by decide +kernel)⟩, (tbi2 250 (by decide +kernel)), (tbi2 25 (by decide +kernel)), List.mem_of_getElem? (i := 16) rfl, zth_a1, zth_b1, zth_c1, by decide +kernel, by decide, by decide, rfl, by decide⟩
set_option maxRecDepth 100000 in
theorem zTL_e18 : zthOK (60, 38, 2) := ⟨48, 226, 52, "above 1000000", (by decide +kernel), (by decide +kernel), Or.inl ⟨(by decide +kernel), (by decide +kernel), (by decide +kernel)⟩, (tbi2 310 (by decide +kernel)), (tbi2 21 (by decide +kernel)), List.mem_of_getElem? (i := 17) rfl, zth_a0, zth_b0, zth_c0, by decide +kernel, by decide, by decide, rfl, by decide⟩
set_option maxRecDepth 100000 in
theorem zTL_e19 : zthOK (61, 32, 2) := ⟨48, 231, 52, "there are 40 jobs", (by decide +kernel), (by decide +kernel), Or.inl ⟨(by decide +kernel), (by decide +kernel), (by decide +kernel)⟩, (tbi2 310 (by decide +kernel)), (tbi2 21 (by decide +kernel)), List.mem_of_getElem? (i := 18) rfl, zth_a0, zth_b0, zth_c0, by decide +kernel, by decide, by decide, rfl, by decide⟩
set_option maxRecDepth 100000 in
theorem zTL_e20 : zthOK (62, 27, 0) := ⟨65, 86, 69, "file", (by decide +kernel), (by decide +kernel), Or.inl ⟨(by decide +kernel), (by decide +kernel), (by decide +kernel)⟩, (tbi2 250 (by decide +kernel)), (tbi2 25 (by decide +kernel)), List.mem_of_getElem? (i := 3) rfl, zth_a1, zth_b1, zth_c1, by decide +kernel, by decide, by decide, rfl, by decide⟩
set_option maxRecDepth 100000 in
theorem zTL_e21 : zthOK (62, 42, 2) := ⟨48, 252, 52, "the job has no build", (by decide +kernel), (by decide +kernel), Or.inl ⟨(by decide +kernel), (by decide +kernel), (by decide +kernel)⟩, (tbi2 310 (by decide +kernel)), (tbi2 21 (by decide +kernel)), List.mem_of_getElem? (i := 19) rfl, zth_a0, zth_b0, zth_c0, by decide +kernel, by decide, by decide, rfl, by decide⟩
set_option maxRecDepth 100000 in
theorem zTL_e22 : zthOK (63, 16, 0) := ⟨65, 144, 69, "what", (by decide +kernel), (by decide +kernel), Or.inl ⟨(by decide +kernel), (by decide +kernel), (by decide +kernel)⟩, (tbi2 250 (by decide +kernel)), (tbi2 25 (by decide +kernel)), List.mem_of_getElem? (i := 5) rfl, zth_a1, zth_b1, zth_c1, by decide +kernel, by decide, by decide, rfl, by decide⟩
set_option maxRecDepth 100000 in
theorem zTL_e23 : zthOK (64, 23, 0) := ⟨65, 144, 69, "what", (by decide +kernel), (by decide +kernel), Or.inl ⟨(by decide +kernel), (by decide +kernel), (by decide +kernel)⟩, (tbi2 250 (by decide +kernel)), (tbi2 25 (by decide +kernel)), List.mem_of_getElem? (i := 5) rfl, zth_a1, zth_b1, zth_c1, by decide +kernel, by decide, by decide, rfl, by decide⟩
set_option maxRecDepth 100000 in
theorem zTL_e24 : zthOK (71, 7, 2) := ⟨48, 312, 52, "the layer is not open", (by decide +kernel), (by decide +kernel), Or.inr ⟨(by decide +kernel), (by decide +kernel), (by decide +kernel)⟩, (tbi2 310 (by decide +kernel)), (tbi2 21 (by decide +kernel)), List.mem_of_getElem? (i := 20) rfl, zth_a0, zth_b0, zth_c0, by decide +kernel, by decide, by decide, rfl, by decide⟩
set_option maxRecDepth 100000 in
theorem zTL_e25 : zthOK (72, 7, 2) := ⟨48, 314, 52, "the image is gone", (by decide +kernel), (by decide +kernel), Or.inr ⟨(by decide +kernel), (by decide +kernel), (by decide +kernel)⟩, (tbi2 310 (by decide +kernel)), (tbi2 21 (by decide +kernel)), List.mem_of_getElem? (i := 21) rfl, zth_a0, zth_b0, zth_c0, by decide +kernel, by decide, by decide, rfl, by decide⟩
set_option maxRecDepth 100000 in
theorem zTL_e26 : zthOK (73, 9, 0) := ⟨65, 316, 69, "owner", (by decide +kernel), (by decide +kernel), Or.inr ⟨(by decide +kernel), (by decide +kernel), (by decide +kernel)⟩, (tbi2 250 (by decide +kernel)), (tbi2 25 (by decide +kernel)), List.mem_of_getElem? (i := 22) rfl, zth_a1, zth_b1, zth_c1, by decide +kernel, by decide, by decide, rfl, by decide⟩
set_option maxRecDepth 100000 in
theorem zTL_e27 : zthOK (74, 4, 1) := ⟨213, 318, 217, "below 0", (by decide +kernel), (by decide +kernel), Or.inr ⟨(by decide +kernel), (by decide +kernel), (by decide +kernel)⟩, (tbi2 182 (by decide +kernel)), (tbi2 24 (by decide +kernel)), List.mem_of_getElem? (i := 23) rfl, zth_a2, zth_b2, zth_c2, by decide +kernel, by decide, by decide, rfl, by decide⟩
set_option maxRecDepth 100000 in
theorem zTL_e28 : zthOK (75, 25, 1) := ⟨213, 320, 217, "no such layer", (by decide +kernel), (by decide +kernel), Or.inr ⟨(by decide +kernel), (by decide +kernel), (by decide +kernel)⟩, (tbi2 182 (by decide +kernel)), (tbi2 24 (by decide +kernel)), List.mem_of_getElem? (i := 24) rfl, zth_a2, zth_b2, zth_c2, by decide +kernel, by decide, by decide, rfl, by decide⟩
set_option maxRecDepth 100000 in
theorem zTL_e29 : zthOK (76, 25, 1) := ⟨213, 322, 217, "no such image", (by decide +kernel), (by decide +kernel), Or.inr ⟨(by decide +kernel), (by decide +kernel), (by decide +kernel)⟩, (tbi2 182 (by decide +kernel)), (tbi2 24 (by decide +kernel)), List.mem_of_getElem? (i := 25) rfl, zth_a2, zth_b2, zth_c2, by decide +kernel, by decide, by decide, rfl, by decide⟩
set_option maxRecDepth 100000 in
theorem zTL_e30 : zthOK (77, 24, 1) := ⟨213, 324, 217, "no such document", (by decide +kernel), (by decide +kernel), Or.inr ⟨(by decide +kernel), (by decide +kernel), (by decide +kernel)⟩, (tbi2 182 (by decide +kernel)), (tbi2 24 (by decide +kernel)), List.mem_of_getElem? (i := 26) rfl, zth_a2, zth_b2, zth_c2, by decide +kernel, by decide, by decide, rfl, by decide⟩
set_option maxRecDepth 100000 in
theorem zTL_e31 : zthOK (78, 25, 1) := ⟨213, 326, 217, "no such job", (by decide +kernel), (by decide +kernel), Or.inr ⟨(by decide +kernel), (by decide +kernel), (by decide +kernel)⟩, (tbi2 182 (by decide +kernel)), (tbi2 24 (by decide +kernel)), List.mem_of_getElem? (i := 27) rfl, zth_a2, zth_b2, zth_c2, by decide +kernel, by decide, by decide, rfl, by decide⟩
set_option maxRecDepth 100000 in
theorem zTL_e32 : zthOK (82, 13, 0) := ⟨65, 335, 69, "layers", (by decide +kernel), (by decide +kernel), Or.inr ⟨(by decide +kernel), (by decide +kernel), (by decide +kernel)⟩, (tbi2 250 (by decide +kernel)), (tbi2 25 (by decide +kernel)), List.mem_of_getElem? (i := 28) rfl, zth_a1, zth_b1, zth_c1, by decide +kernel, by decide, by decide, rfl, by decide⟩
set_option maxRecDepth 100000 in
theorem zTL_e33 : zthOK (83, 22, 2) := ⟨48, 336, 52, "a layer is not sealed, or gone", (by decide +kernel), (by decide +kernel), Or.inr ⟨(by decide +kernel), (by decide +kernel), (by decide +kernel)⟩, (tbi2 310 (by decide +kernel)), (tbi2 21 (by decide +kernel)), List.mem_of_getElem? (i := 29) rfl, zth_a0, zth_b0, zth_c0, by decide +kernel, by decide, by decide, rfl, by decide⟩
set_option maxRecDepth 100000 in
theorem zTL_e34 : zthOK (112, 25, 1) := ⟨213, 320, 217, "no such layer", (by decide +kernel), (by decide +kernel), Or.inr ⟨(by decide +kernel), (by decide +kernel), (by decide +kernel)⟩, (tbi2 182 (by decide +kernel)), (tbi2 24 (by decide +kernel)), List.mem_of_getElem? (i := 24) rfl, zth_a2, zth_b2, zth_c2, by decide +kernel, by decide, by decide, rfl, by decide⟩
def zTL_p0 : zTL_T := [(44, 9, 2), (45, 37, 0), (46, 37, 0), (47, 16, 0), (49, 49, 2), (51, 15, 0), (52, 26, 0), (53, 22, 0), (53, 41, 2), (54, 25, 0), (55, 17, 0), (56, 15, 0), (56, 34, 2), (57, 18, 0), (57, 46, 2), (58, 20, 1), (58, 39, 2), (60, 15, 0), (60, 38, 2), (61, 32, 2), (62, 27, 0), (62, 42, 2), (63, 16, 0), (64, 23, 0), (71, 7, 2), (72, 7, 2), (73, 9, 0), (74, 4, 1), (75, 25, 1), (76, 25, 1), (77, 24, 1), (78, 25, 1), (82, 13, 0), (83, 22, 2), (112, 25, 1)]
theorem zTL_q0 : ∀ q ∈ zTL_p0, zthOK q := List.forall_mem_cons.mpr ⟨zTL_e0, List.forall_mem_cons.mpr ⟨zTL_e1, List.forall_mem_cons.mpr ⟨zTL_e2, List.forall_mem_cons.mpr ⟨zTL_e3, List.forall_mem_cons.mpr ⟨zTL_e4, List.forall_mem_cons.mpr ⟨zTL_e5, List.forall_mem_cons.mpr ⟨zTL_e6, List.forall_mem_cons.mpr ⟨zTL_e7, List.forall_mem_cons.mpr ⟨zTL_e8, List.forall_mem_cons.mpr ⟨zTL_e9, List.forall_mem_cons.mpr ⟨zTL_e10, List.forall_mem_cons.mpr ⟨zTL_e11, List.forall_mem_cons.mpr ⟨zTL_e12, List.forall_mem_cons.mpr ⟨zTL_e13, List.forall_mem_cons.mpr ⟨zTL_e14, List.forall_mem_cons.mpr ⟨zTL_e15, List.forall_mem_cons.mpr ⟨zTL_e16, List.forall_mem_cons.mpr ⟨zTL_e17, List.forall_mem_cons.mpr ⟨zTL_e18, List.forall_mem_cons.mpr ⟨zTL_e19, List.forall_mem_cons.mpr ⟨zTL_e20, List.forall_mem_cons.mpr ⟨zTL_e21, List.forall_mem_cons.mpr ⟨zTL_e22, List.forall_mem_cons.mpr ⟨zTL_e23, List.forall_mem_cons.mpr ⟨zTL_e24, List.forall_mem_cons.mpr ⟨zTL_e25, List.forall_mem_cons.mpr ⟨zTL_e26, List.forall_mem_cons.mpr ⟨zTL_e27, List.forall_mem_cons.mpr ⟨zTL_e28, List.forall_mem_cons.mpr ⟨zTL_e29, List.forall_mem_cons.mpr ⟨zTL_e30, List.forall_mem_cons.mpr ⟨zTL_e31, List.forall_mem_cons.mpr ⟨zTL_e32, List.forall_mem_cons.mpr ⟨zTL_e33, List.forall_mem_cons.mpr ⟨zTL_e34, fun _ h => absurd h List.not_mem_nil⟩⟩⟩⟩⟩⟩⟩⟩⟩⟩⟩⟩⟩⟩⟩⟩⟩⟩⟩⟩⟩⟩⟩⟩⟩⟩⟩⟩⟩⟩⟩⟩⟩⟩⟩
def zTLA : zTL_T := zTL_p0
theorem zTL_all : ∀ q ∈ zTLA, zthOK q := zTL_q0
