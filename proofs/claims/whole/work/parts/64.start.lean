/-! ===== making: PressBox and the reference ===== -/
section ZDK
variable {ck sk : Nat} {Q : ZO → ZH → Prop} {i j n : Int} {u u' : ZV} {μ ν : ZU} {h X : ZH} {f g : Nat → ZV}
theorem zset_s3 {k k' : Nat} {i i' : Int} {e e' e'' : ZE} (hk : k ≠ k') : zset (zset (zset h k i e) k' i' e') k i e'' = zset (zset h k' i' e') k i e'' := by
  funext p q
  unfold zset
  by_cases h1 : p = k ∧ q = i
  · rw [if_pos h1, if_pos h1]
  · rw [if_neg h1, if_neg h1, if_neg h1]
theorem s91_1 (hX : X 102 0 = none) (hc : 1 ≤ ck) (hs : 24 ≤ sk) (q : G 91 12 [zR 100 0] [] (zset (zset X 102 0 (.inr (.int, 24, fun _ => zI 0))) 100 0 (.inl (9, zupN f 1 (zR 102 0)))) (ck - 1) (sk - 24) Q) : G 91 4 [zR 100 0] [] (zset X 100 0 (.inl (9, f))) ck sk Q := by
  rw [g91_4, g91_5, g91_7]
  refine ⟨⟨⟨by decide, by decide⟩, hc, hs⟩, 102, 0, by decide, by rw [zset_k (by decide)]; exact hX, ?_⟩
  rw [g91_9, zGF_n (by decide), zGF_s]
  refine ⟨by decide, ?_⟩
  rw [zset_s3 (by decide)]
  exact q
theorem s91_2 (hX : X 103 0 = none) (hc : 1 ≤ ck) (hs : 240 ≤ sk) (q : G 91 21 [zR 100 0] [] (zset (zset X 103 0 (.inr (.int, 240, fun _ => zI 0))) 100 0 (.inl (9, zupN f 2 (zR 103 0)))) (ck - 1) (sk - 240) Q) : G 91 12 [zR 100 0] [] (zset X 100 0 (.inl (9, f))) ck sk Q := by
  rw [g91_12, g91_13, g91_16]
  refine ⟨⟨⟨by decide, by decide⟩, hc, hs⟩, 103, 0, by decide, by rw [zset_k (by decide)]; exact hX, ?_⟩
  rw [g91_18, zGF_n (by decide), zGF_s]
  refine ⟨by decide, ?_⟩
  rw [zset_s3 (by decide)]
  exact q
theorem s91_3 (hX : X 104 0 = none) (hc : 1 ≤ ck) (hs : 240 ≤ sk) (q : G 91 30 [zR 100 0] [] (zset (zset X 104 0 (.inr (.int, 240, fun _ => zI 0))) 100 0 (.inl (9, zupN f 3 (zR 104 0)))) (ck - 1) (sk - 240) Q) : G 91 21 [zR 100 0] [] (zset X 100 0 (.inl (9, f))) ck sk Q := by
  rw [g91_21, g91_22, g91_25]
  refine ⟨⟨⟨by decide, by decide⟩, hc, hs⟩, 104, 0, by decide, by rw [zset_k (by decide)]; exact hX, ?_⟩
  rw [g91_27, zGF_n (by decide), zGF_s]
  refine ⟨by decide, ?_⟩
  rw [zset_s3 (by decide)]
  exact q
theorem s91_4 (hX : X 105 0 = none) (hc : 1 ≤ ck) (hs : 240 ≤ sk) (q : G 91 39 [zR 100 0] [] (zset (zset X 105 0 (.inr (.int, 240, fun _ => zI 0))) 100 0 (.inl (9, zupN f 4 (zR 105 0)))) (ck - 1) (sk - 240) Q) : G 91 30 [zR 100 0] [] (zset X 100 0 (.inl (9, f))) ck sk Q := by
  rw [g91_30, g91_31, g91_34]
  refine ⟨⟨⟨by decide, by decide⟩, hc, hs⟩, 105, 0, by decide, by rw [zset_k (by decide)]; exact hX, ?_⟩
  rw [g91_36, zGF_n (by decide), zGF_s]
  refine ⟨by decide, ?_⟩
  rw [zset_s3 (by decide)]
  exact q
theorem s91_6 (hX : X 107 0 = none) (hc : 1 ≤ ck) (hs : 12 ≤ sk) (q : G 91 47 [zR 100 0] [] (zset (zset X 107 0 (.inr (.int, 12, fun _ => zI 0))) 100 0 (.inl (9, zupN f 6 (zR 107 0)))) (ck - 1) (sk - 12) Q) : G 91 39 [zR 100 0] [] (zset X 100 0 (.inl (9, f))) ck sk Q := by
  rw [g91_39, g91_40, g91_42]
  refine ⟨⟨⟨by decide, by decide⟩, hc, hs⟩, 107, 0, by decide, by rw [zset_k (by decide)]; exact hX, ?_⟩
  rw [g91_44, zGF_n (by decide), zGF_s]
  refine ⟨by decide, ?_⟩
  rw [zset_s3 (by decide)]
  exact q
theorem s91_7 (hX : X 108 0 = none) (hc : 1 ≤ ck) (hs : 12 ≤ sk) (q : G 91 55 [zR 100 0] [] (zset (zset X 108 0 (.inr (.int, 12, fun _ => zI 0))) 100 0 (.inl (9, zupN f 7 (zR 108 0)))) (ck - 1) (sk - 12) Q) : G 91 47 [zR 100 0] [] (zset X 100 0 (.inl (9, f))) ck sk Q := by
  rw [g91_47, g91_48, g91_50]
  refine ⟨⟨⟨by decide, by decide⟩, hc, hs⟩, 108, 0, by decide, by rw [zset_k (by decide)]; exact hX, ?_⟩
  rw [g91_52, zGF_n (by decide), zGF_s]
  refine ⟨by decide, ?_⟩
  rw [zset_s3 (by decide)]
  exact q
theorem s91_8 (hX : X 109 0 = none) (hc : 1 ≤ ck) (hs : 72 ≤ sk) (q : G 91 63 [zR 100 0] [] (zset (zset X 109 0 (.inr (.int, 72, fun _ => zI 0))) 100 0 (.inl (9, zupN f 8 (zR 109 0)))) (ck - 1) (sk - 72) Q) : G 91 55 [zR 100 0] [] (zset X 100 0 (.inl (9, f))) ck sk Q := by
  rw [g91_55, g91_56, g91_58]
  refine ⟨⟨⟨by decide, by decide⟩, hc, hs⟩, 109, 0, by decide, by rw [zset_k (by decide)]; exact hX, ?_⟩
  rw [g91_60, zGF_n (by decide), zGF_s]
  refine ⟨by decide, ?_⟩
  rw [zset_s3 (by decide)]
  exact q
theorem s91_9 (hX : X 110 0 = none) (hc : 1 ≤ ck) (hs : 120 ≤ sk) (q : G 91 71 [zR 100 0] [] (zset (zset X 110 0 (.inr (.boolean, 120, fun _ => zI 0))) 100 0 (.inl (9, zupN f 9 (zR 110 0)))) (ck - 1) (sk - 120) Q) : G 91 63 [zR 100 0] [] (zset X 100 0 (.inl (9, f))) ck sk Q := by
  rw [g91_63, g91_64, g91_66]
  refine ⟨⟨⟨by decide, by decide⟩, hc, hs⟩, 110, 0, by decide, by rw [zset_k (by decide)]; exact hX, ?_⟩
  rw [g91_68, zGF_n (by decide), zGF_s]
  refine ⟨by decide, ?_⟩
  rw [zset_s3 (by decide)]
  exact q
theorem s91_10 (hX : X 111 0 = none) (hc : 1 ≤ ck) (hs : 120 ≤ sk) (q : G 91 79 [zR 100 0] [] (zset (zset X 111 0 (.inr (.int, 120, fun _ => zI 0))) 100 0 (.inl (9, zupN f 10 (zR 111 0)))) (ck - 1) (sk - 120) Q) : G 91 71 [zR 100 0] [] (zset X 100 0 (.inl (9, f))) ck sk Q := by
  rw [g91_71, g91_72, g91_74]
  refine ⟨⟨⟨by decide, by decide⟩, hc, hs⟩, 111, 0, by decide, by rw [zset_k (by decide)]; exact hX, ?_⟩
  rw [g91_76, zGF_n (by decide), zGF_s]
  refine ⟨by decide, ?_⟩
  rw [zset_s3 (by decide)]
  exact q
theorem s91_11 (hX : X 112 0 = none) (hc : 1 ≤ ck) (hs : 120 ≤ sk) (q : G 91 87 [zR 100 0] [] (zset (zset X 112 0 (.inr (.int, 120, fun _ => zI 0))) 100 0 (.inl (9, zupN f 11 (zR 112 0)))) (ck - 1) (sk - 120) Q) : G 91 79 [zR 100 0] [] (zset X 100 0 (.inl (9, f))) ck sk Q := by
  rw [g91_79, g91_80, g91_82]
  refine ⟨⟨⟨by decide, by decide⟩, hc, hs⟩, 112, 0, by decide, by rw [zset_k (by decide)]; exact hX, ?_⟩
  rw [g91_84, zGF_n (by decide), zGF_s]
  refine ⟨by decide, ?_⟩
  rw [zset_s3 (by decide)]
  exact q
theorem s91_13 (hX : X 114 0 = none) (hc : 1 ≤ ck) (hs : 6 ≤ sk) (q : G 91 95 [zR 100 0] [] (zset (zset X 114 0 (.inr (.int, 6, fun _ => zI 0))) 100 0 (.inl (9, zupN f 13 (zR 114 0)))) (ck - 1) (sk - 6) Q) : G 91 87 [zR 100 0] [] (zset X 100 0 (.inl (9, f))) ck sk Q := by
  rw [g91_87, g91_88, g91_90]
  refine ⟨⟨⟨by decide, by decide⟩, hc, hs⟩, 114, 0, by decide, by rw [zset_k (by decide)]; exact hX, ?_⟩
  rw [g91_92, zGF_n (by decide), zGF_s]
  refine ⟨by decide, ?_⟩
  rw [zset_s3 (by decide)]
  exact q
theorem s91_14 (hX : X 115 0 = none) (hc : 1 ≤ ck) (hs : 6 ≤ sk) (q : G 91 103 [zR 100 0] [] (zset (zset X 115 0 (.inr (.int, 6, fun _ => zI 0))) 100 0 (.inl (9, zupN f 14 (zR 115 0)))) (ck - 1) (sk - 6) Q) : G 91 95 [zR 100 0] [] (zset X 100 0 (.inl (9, f))) ck sk Q := by
  rw [g91_95, g91_96, g91_98]
  refine ⟨⟨⟨by decide, by decide⟩, hc, hs⟩, 115, 0, by decide, by rw [zset_k (by decide)]; exact hX, ?_⟩
  rw [g91_100, zGF_n (by decide), zGF_s]
  refine ⟨by decide, ?_⟩
  rw [zset_s3 (by decide)]
  exact q
theorem s91_15 (hX : X 116 0 = none) (hc : 1 ≤ ck) (hs : 6 ≤ sk) (q : G 91 111 [zR 100 0] [] (zset (zset X 116 0 (.inr (.int, 6, fun _ => zI 0))) 100 0 (.inl (9, zupN f 15 (zR 116 0)))) (ck - 1) (sk - 6) Q) : G 91 103 [zR 100 0] [] (zset X 100 0 (.inl (9, f))) ck sk Q := by
  rw [g91_103, g91_104, g91_106]
  refine ⟨⟨⟨by decide, by decide⟩, hc, hs⟩, 116, 0, by decide, by rw [zset_k (by decide)]; exact hX, ?_⟩
  rw [g91_108, zGF_n (by decide), zGF_s]
  refine ⟨by decide, ?_⟩
  rw [zset_s3 (by decide)]
  exact q
theorem s91_16 (hX : X 117 0 = none) (hc : 1 ≤ ck) (hs : 24 ≤ sk) (q : G 91 119 [zR 100 0] [] (zset (zset X 117 0 (.inr (.int, 24, fun _ => zI 0))) 100 0 (.inl (9, zupN f 16 (zR 117 0)))) (ck - 1) (sk - 24) Q) : G 91 111 [zR 100 0] [] (zset X 100 0 (.inl (9, f))) ck sk Q := by
  rw [g91_111, g91_112, g91_114]
  refine ⟨⟨⟨by decide, by decide⟩, hc, hs⟩, 117, 0, by decide, by rw [zset_k (by decide)]; exact hX, ?_⟩
  rw [g91_116, zGF_n (by decide), zGF_s]
  refine ⟨by decide, ?_⟩
  rw [zset_s3 (by decide)]
  exact q
theorem s91_17 (hX : X 118 0 = none) (hc : 1 ≤ ck) (hs : 6 ≤ sk) (q : G 91 127 [zR 100 0] [] (zset (zset X 118 0 (.inr (.int, 6, fun _ => zI 0))) 100 0 (.inl (9, zupN f 17 (zR 118 0)))) (ck - 1) (sk - 6) Q) : G 91 119 [zR 100 0] [] (zset X 100 0 (.inl (9, f))) ck sk Q := by
  rw [g91_119, g91_120, g91_122]
  refine ⟨⟨⟨by decide, by decide⟩, hc, hs⟩, 118, 0, by decide, by rw [zset_k (by decide)]; exact hX, ?_⟩
  rw [g91_124, zGF_n (by decide), zGF_s]
  refine ⟨by decide, ?_⟩
  rw [zset_s3 (by decide)]
  exact q
theorem s91_18 (hX : X 119 0 = none) (hc : 1 ≤ ck) (hs : 6 ≤ sk) (q : G 91 135 [zR 100 0] [] (zset (zset X 119 0 (.inr (.int, 6, fun _ => zI 0))) 100 0 (.inl (9, zupN f 18 (zR 119 0)))) (ck - 1) (sk - 6) Q) : G 91 127 [zR 100 0] [] (zset X 100 0 (.inl (9, f))) ck sk Q := by
  rw [g91_127, g91_128, g91_130]
  refine ⟨⟨⟨by decide, by decide⟩, hc, hs⟩, 119, 0, by decide, by rw [zset_k (by decide)]; exact hX, ?_⟩
  rw [g91_132, zGF_n (by decide), zGF_s]
  refine ⟨by decide, ?_⟩
  rw [zset_s3 (by decide)]
  exact q
theorem s91_19 (hX : X 120 0 = none) (hc : 1 ≤ ck) (hs : 72 ≤ sk) (q : G 91 143 [zR 100 0] [] (zset (zset X 120 0 (.inr (.int, 72, fun _ => zI 0))) 100 0 (.inl (9, zupN f 19 (zR 120 0)))) (ck - 1) (sk - 72) Q) : G 91 135 [zR 100 0] [] (zset X 100 0 (.inl (9, f))) ck sk Q := by
  rw [g91_135, g91_136, g91_138]
  refine ⟨⟨⟨by decide, by decide⟩, hc, hs⟩, 120, 0, by decide, by rw [zset_k (by decide)]; exact hX, ?_⟩
  rw [g91_140, zGF_n (by decide), zGF_s]
  refine ⟨by decide, ?_⟩
  rw [zset_s3 (by decide)]
  exact q
theorem s91_20 (hX : X 121 0 = none) (hc : 1 ≤ ck) (hs : 72 ≤ sk) (q : G 91 151 [zR 100 0] [] (zset (zset X 121 0 (.inr (.int, 72, fun _ => zI 0))) 100 0 (.inl (9, zupN f 20 (zR 121 0)))) (ck - 1) (sk - 72) Q) : G 91 143 [zR 100 0] [] (zset X 100 0 (.inl (9, f))) ck sk Q := by
  rw [g91_143, g91_144, g91_146]
  refine ⟨⟨⟨by decide, by decide⟩, hc, hs⟩, 121, 0, by decide, by rw [zset_k (by decide)]; exact hX, ?_⟩
  rw [g91_148, zGF_n (by decide), zGF_s]
  refine ⟨by decide, ?_⟩
  rw [zset_s3 (by decide)]
  exact q
theorem s91_21 (hX : X 122 0 = none) (hc : 1 ≤ ck) (hs : 6 ≤ sk) (q : G 91 159 [zR 100 0] [] (zset (zset X 122 0 (.inr (.int, 6, fun _ => zI 0))) 100 0 (.inl (9, zupN f 21 (zR 122 0)))) (ck - 1) (sk - 6) Q) : G 91 151 [zR 100 0] [] (zset X 100 0 (.inl (9, f))) ck sk Q := by
  rw [g91_151, g91_152, g91_154]
  refine ⟨⟨⟨by decide, by decide⟩, hc, hs⟩, 122, 0, by decide, by rw [zset_k (by decide)]; exact hX, ?_⟩
  rw [g91_156, zGF_n (by decide), zGF_s]
  refine ⟨by decide, ?_⟩
  rw [zset_s3 (by decide)]
  exact q
theorem s91_22 (hX : X 123 0 = none) (hc : 1 ≤ ck) (hs : 360 ≤ sk) (q : G 91 168 [zR 100 0] [] (zset (zset X 123 0 (.inr (.long, 360, fun _ => zL 0))) 100 0 (.inl (9, zupN f 22 (zR 123 0)))) (ck - 1) (sk - 360) Q) : G 91 159 [zR 100 0] [] (zset X 100 0 (.inl (9, f))) ck sk Q := by
  rw [g91_159, g91_160, g91_163]
  refine ⟨⟨⟨by decide, by decide⟩, hc, hs⟩, 123, 0, by decide, by rw [zset_k (by decide)]; exact hX, ?_⟩
  rw [g91_165, zGF_n (by decide), zGF_s]
  refine ⟨by decide, ?_⟩
  rw [zset_s3 (by decide)]
  exact q
theorem s91_23 (hX : X 124 0 = none) (hc : 1 ≤ ck) (hs : 360 ≤ sk) (q : G 91 177 [zR 100 0] [] (zset (zset X 124 0 (.inr (.int, 360, fun _ => zI 0))) 100 0 (.inl (9, zupN f 23 (zR 124 0)))) (ck - 1) (sk - 360) Q) : G 91 168 [zR 100 0] [] (zset X 100 0 (.inl (9, f))) ck sk Q := by
  rw [g91_168, g91_169, g91_172]
  refine ⟨⟨⟨by decide, by decide⟩, hc, hs⟩, 124, 0, by decide, by rw [zset_k (by decide)]; exact hX, ?_⟩
  rw [g91_174, zGF_n (by decide), zGF_s]
  refine ⟨by decide, ?_⟩
  rw [zset_s3 (by decide)]
  exact q
theorem s91_24 (hX : X 125 0 = none) (hc : 1 ≤ ck) (hs : 4 ≤ sk) (q : G 91 184 [zR 100 0] [] (zset (zset X 125 0 (.inr (.int, 4, fun _ => zI 0))) 100 0 (.inl (9, zupN f 24 (zR 125 0)))) (ck - 1) (sk - 4) Q) : G 91 177 [zR 100 0] [] (zset X 100 0 (.inl (9, f))) ck sk Q := by
  rw [g91_177, g91_178, g91_179]
  refine ⟨⟨⟨by decide, by decide⟩, hc, hs⟩, 125, 0, by decide, by rw [zset_k (by decide)]; exact hX, ?_⟩
  rw [g91_181, zGF_n (by decide), zGF_s]
  refine ⟨by decide, ?_⟩
  rw [zset_s3 (by decide)]
  exact q
theorem s91_26 (hX : X 127 0 = none) (hc : 1 ≤ ck) (hs : 40 ≤ sk) (q : G 91 192 [zR 100 0] [] (zset (zset X 127 0 (.inr (.int, 40, fun _ => zI 0))) 100 0 (.inl (9, zupN f 26 (zR 127 0)))) (ck - 1) (sk - 40) Q) : G 91 184 [zR 100 0] [] (zset X 100 0 (.inl (9, f))) ck sk Q := by
  rw [g91_184, g91_185, g91_187]
  refine ⟨⟨⟨by decide, by decide⟩, hc, hs⟩, 127, 0, by decide, by rw [zset_k (by decide)]; exact hX, ?_⟩
  rw [g91_189, zGF_n (by decide), zGF_s]
  refine ⟨by decide, ?_⟩
  rw [zset_s3 (by decide)]
  exact q
theorem s91_27 (hX : X 128 0 = none) (hc : 1 ≤ ck) (hs : 40 ≤ sk) (q : G 91 200 [zR 100 0] [] (zset (zset X 128 0 (.inr (.int, 40, fun _ => zI 0))) 100 0 (.inl (9, zupN f 27 (zR 128 0)))) (ck - 1) (sk - 40) Q) : G 91 192 [zR 100 0] [] (zset X 100 0 (.inl (9, f))) ck sk Q := by
  rw [g91_192, g91_193, g91_195]
  refine ⟨⟨⟨by decide, by decide⟩, hc, hs⟩, 128, 0, by decide, by rw [zset_k (by decide)]; exact hX, ?_⟩
  rw [g91_197, zGF_n (by decide), zGF_s]
  refine ⟨by decide, ?_⟩
  rw [zset_s3 (by decide)]
  exact q
theorem s91_28 (hX : X 129 0 = none) (hc : 1 ≤ ck) (hs : 40 ≤ sk) (q : G 91 208 [zR 100 0] [] (zset (zset X 129 0 (.inr (.int, 40, fun _ => zI 0))) 100 0 (.inl (9, zupN f 28 (zR 129 0)))) (ck - 1) (sk - 40) Q) : G 91 200 [zR 100 0] [] (zset X 100 0 (.inl (9, f))) ck sk Q := by
  rw [g91_200, g91_201, g91_203]
  refine ⟨⟨⟨by decide, by decide⟩, hc, hs⟩, 129, 0, by decide, by rw [zset_k (by decide)]; exact hX, ?_⟩
  rw [g91_205, zGF_n (by decide), zGF_s]
  refine ⟨by decide, ?_⟩
  rw [zset_s3 (by decide)]
  exact q
theorem s91_29 (hX : X 130 0 = none) (hc : 1 ≤ ck) (hs : 40 ≤ sk) (q : G 91 216 [zR 100 0] [] (zset (zset X 130 0 (.inr (.int, 40, fun _ => zI 0))) 100 0 (.inl (9, zupN f 29 (zR 130 0)))) (ck - 1) (sk - 40) Q) : G 91 208 [zR 100 0] [] (zset X 100 0 (.inl (9, f))) ck sk Q := by
  rw [g91_208, g91_209, g91_211]
  refine ⟨⟨⟨by decide, by decide⟩, hc, hs⟩, 130, 0, by decide, by rw [zset_k (by decide)]; exact hX, ?_⟩
  rw [g91_213, zGF_n (by decide), zGF_s]
  refine ⟨by decide, ?_⟩
  rw [zset_s3 (by decide)]
  exact q
theorem s91_30 (hX : X 131 0 = none) (hc : 1 ≤ ck) (hs : 40 ≤ sk) (q : G 91 224 [zR 100 0] [] (zset (zset X 131 0 (.inr (.int, 40, fun _ => zI 0))) 100 0 (.inl (9, zupN f 30 (zR 131 0)))) (ck - 1) (sk - 40) Q) : G 91 216 [zR 100 0] [] (zset X 100 0 (.inl (9, f))) ck sk Q := by
  rw [g91_216, g91_217, g91_219]
  refine ⟨⟨⟨by decide, by decide⟩, hc, hs⟩, 131, 0, by decide, by rw [zset_k (by decide)]; exact hX, ?_⟩
  rw [g91_221, zGF_n (by decide), zGF_s]
  refine ⟨by decide, ?_⟩
  rw [zset_s3 (by decide)]
  exact q
theorem s91_32 (hX : X 133 0 = none) (hc : 1 ≤ ck) (hs : 40 ≤ sk) (q : G 91 232 [zR 100 0] [] (zset (zset X 133 0 (.inr (.int, 40, fun _ => zI 0))) 100 0 (.inl (9, zupN f 32 (zR 133 0)))) (ck - 1) (sk - 40) Q) : G 91 224 [zR 100 0] [] (zset X 100 0 (.inl (9, f))) ck sk Q := by
  rw [g91_224, g91_225, g91_227]
  refine ⟨⟨⟨by decide, by decide⟩, hc, hs⟩, 133, 0, by decide, by rw [zset_k (by decide)]; exact hX, ?_⟩
  rw [g91_229, zGF_n (by decide), zGF_s]
  refine ⟨by decide, ?_⟩
  rw [zset_s3 (by decide)]
  exact q
theorem s91_33 (hX : X 134 0 = none) (hc : 1 ≤ ck) (hs : 40 ≤ sk) (q : G 91 240 [zR 100 0] [] (zset (zset X 134 0 (.inr (.int, 40, fun _ => zI 0))) 100 0 (.inl (9, zupN f 33 (zR 134 0)))) (ck - 1) (sk - 40) Q) : G 91 232 [zR 100 0] [] (zset X 100 0 (.inl (9, f))) ck sk Q := by
  rw [g91_232, g91_233, g91_235]
  refine ⟨⟨⟨by decide, by decide⟩, hc, hs⟩, 134, 0, by decide, by rw [zset_k (by decide)]; exact hX, ?_⟩
  rw [g91_237, zGF_n (by decide), zGF_s]
  refine ⟨by decide, ?_⟩
  rw [zset_s3 (by decide)]
  exact q
theorem s91_34 (hX : X 135 0 = none) (hc : 1 ≤ ck) (hs : 40 ≤ sk) (q : G 91 248 [zR 100 0] [] (zset (zset X 135 0 (.inr (.int, 40, fun _ => zI 0))) 100 0 (.inl (9, zupN f 34 (zR 135 0)))) (ck - 1) (sk - 40) Q) : G 91 240 [zR 100 0] [] (zset X 100 0 (.inl (9, f))) ck sk Q := by
  rw [g91_240, g91_241, g91_243]
  refine ⟨⟨⟨by decide, by decide⟩, hc, hs⟩, 135, 0, by decide, by rw [zset_k (by decide)]; exact hX, ?_⟩
  rw [g91_245, zGF_n (by decide), zGF_s]
  refine ⟨by decide, ?_⟩
  rw [zset_s3 (by decide)]
  exact q
theorem s91_35 (hX : X 136 0 = none) (hc : 1 ≤ ck) (hs : 400 ≤ sk) (q : G 91 257 [zR 100 0] [] (zset (zset X 136 0 (.inr (.boolean, 400, fun _ => zI 0))) 100 0 (.inl (9, zupN f 35 (zR 136 0)))) (ck - 1) (sk - 400) Q) : G 91 248 [zR 100 0] [] (zset X 100 0 (.inl (9, f))) ck sk Q := by
  rw [g91_248, g91_249, g91_252]
  refine ⟨⟨⟨by decide, by decide⟩, hc, hs⟩, 136, 0, by decide, by rw [zset_k (by decide)]; exact hX, ?_⟩
  rw [g91_254, zGF_n (by decide), zGF_s]
  refine ⟨by decide, ?_⟩
  rw [zset_s3 (by decide)]
  exact q
theorem s91_36 (hX : X 137 0 = none) (hc : 1 ≤ ck) (hs : 400 ≤ sk) (q : G 91 266 [zR 100 0] [] (zset (zset X 137 0 (.inr (.int, 400, fun _ => zI 0))) 100 0 (.inl (9, zupN f 36 (zR 137 0)))) (ck - 1) (sk - 400) Q) : G 91 257 [zR 100 0] [] (zset X 100 0 (.inl (9, f))) ck sk Q := by
  rw [g91_257, g91_258, g91_261]
  refine ⟨⟨⟨by decide, by decide⟩, hc, hs⟩, 137, 0, by decide, by rw [zset_k (by decide)]; exact hX, ?_⟩
  rw [g91_263, zGF_n (by decide), zGF_s]
  refine ⟨by decide, ?_⟩
  rw [zset_s3 (by decide)]
  exact q
theorem s91_37 (hX : X 138 0 = none) (hc : 1 ≤ ck) (hs : 400 ≤ sk) (q : G 91 275 [zR 100 0] [] (zset (zset X 138 0 (.inr (.int, 400, fun _ => zI 0))) 100 0 (.inl (9, zupN f 37 (zR 138 0)))) (ck - 1) (sk - 400) Q) : G 91 266 [zR 100 0] [] (zset X 100 0 (.inl (9, f))) ck sk Q := by
  rw [g91_266, g91_267, g91_270]
  refine ⟨⟨⟨by decide, by decide⟩, hc, hs⟩, 138, 0, by decide, by rw [zset_k (by decide)]; exact hX, ?_⟩
  rw [g91_272, zGF_n (by decide), zGF_s]
  refine ⟨by decide, ?_⟩
  rw [zset_s3 (by decide)]
  exact q
theorem s91_38 (hX : X 139 0 = none) (hc : 1 ≤ ck) (hs : 40 ≤ sk) (q : G 91 283 [zR 100 0] [] (zset (zset X 139 0 (.inr (.int, 40, fun _ => zI 0))) 100 0 (.inl (9, zupN f 38 (zR 139 0)))) (ck - 1) (sk - 40) Q) : G 91 275 [zR 100 0] [] (zset X 100 0 (.inl (9, f))) ck sk Q := by
  rw [g91_275, g91_276, g91_278]
  refine ⟨⟨⟨by decide, by decide⟩, hc, hs⟩, 139, 0, by decide, by rw [zset_k (by decide)]; exact hX, ?_⟩
  rw [g91_280, zGF_n (by decide), zGF_s]
  refine ⟨by decide, ?_⟩
  rw [zset_s3 (by decide)]
  exact q
theorem s91_39 (hX : X 140 0 = none) (hc : 1 ≤ ck) (hs : 40 ≤ sk) (q : G 91 291 [zR 100 0] [] (zset (zset X 140 0 (.inr (.int, 40, fun _ => zI 0))) 100 0 (.inl (9, zupN f 39 (zR 140 0)))) (ck - 1) (sk - 40) Q) : G 91 283 [zR 100 0] [] (zset X 100 0 (.inl (9, f))) ck sk Q := by
  rw [g91_283, g91_284, g91_286]
  refine ⟨⟨⟨by decide, by decide⟩, hc, hs⟩, 140, 0, by decide, by rw [zset_k (by decide)]; exact hX, ?_⟩
  rw [g91_288, zGF_n (by decide), zGF_s]
  refine ⟨by decide, ?_⟩
  rw [zset_s3 (by decide)]
  exact q
theorem s91_40 (hX : X 141 0 = none) (hc : 1 ≤ ck) (hs : 40 ≤ sk) (q : G 91 299 [zR 100 0] [] (zset (zset X 141 0 (.inr (.int, 40, fun _ => zI 0))) 100 0 (.inl (9, zupN f 40 (zR 141 0)))) (ck - 1) (sk - 40) Q) : G 91 291 [zR 100 0] [] (zset X 100 0 (.inl (9, f))) ck sk Q := by
  rw [g91_291, g91_292, g91_294]
  refine ⟨⟨⟨by decide, by decide⟩, hc, hs⟩, 141, 0, by decide, by rw [zset_k (by decide)]; exact hX, ?_⟩
  rw [g91_296, zGF_n (by decide), zGF_s]
  refine ⟨by decide, ?_⟩
  rw [zset_s3 (by decide)]
  exact q
theorem s91_41 (hX : X 142 0 = none) (hc : 1 ≤ ck) (hs : 40 ≤ sk) (q : G 91 307 [zR 100 0] [] (zset (zset X 142 0 (.inr (.int, 40, fun _ => zI 0))) 100 0 (.inl (9, zupN f 41 (zR 142 0)))) (ck - 1) (sk - 40) Q) : G 91 299 [zR 100 0] [] (zset X 100 0 (.inl (9, f))) ck sk Q := by
  rw [g91_299, g91_300, g91_302]
  refine ⟨⟨⟨by decide, by decide⟩, hc, hs⟩, 142, 0, by decide, by rw [zset_k (by decide)]; exact hX, ?_⟩
  rw [g91_304, zGF_n (by decide), zGF_s]
  refine ⟨by decide, ?_⟩
  rw [zset_s3 (by decide)]
  exact q
theorem s91_42 (hX : X 143 0 = none) (hc : 1 ≤ ck) (hs : 40 ≤ sk) (q : G 91 315 [zR 100 0] [] (zset (zset X 143 0 (.inr (.int, 40, fun _ => zI 0))) 100 0 (.inl (9, zupN f 42 (zR 143 0)))) (ck - 1) (sk - 40) Q) : G 91 307 [zR 100 0] [] (zset X 100 0 (.inl (9, f))) ck sk Q := by
  rw [g91_307, g91_308, g91_310]
  refine ⟨⟨⟨by decide, by decide⟩, hc, hs⟩, 143, 0, by decide, by rw [zset_k (by decide)]; exact hX, ?_⟩
  rw [g91_312, zGF_n (by decide), zGF_s]
  refine ⟨by decide, ?_⟩
  rw [zset_s3 (by decide)]
  exact q
theorem s91_43 (hX : X 144 0 = none) (hc : 1 ≤ ck) (hs : 12000 ≤ sk) (q : G 91 324 [zR 100 0] [] (zset (zset X 144 0 (.inr (.int, 12000, fun _ => zI 0))) 100 0 (.inl (9, zupN f 43 (zR 144 0)))) (ck - 1) (sk - 12000) Q) : G 91 315 [zR 100 0] [] (zset X 100 0 (.inl (9, f))) ck sk Q := by
  rw [g91_315, g91_316, g91_319]
  refine ⟨⟨⟨by decide, by decide⟩, hc, hs⟩, 144, 0, by decide, by rw [zset_k (by decide)]; exact hX, ?_⟩
  rw [g91_321, zGF_n (by decide), zGF_s]
  refine ⟨by decide, ?_⟩
  rw [zset_s3 (by decide)]
  exact q
theorem s91_44 (hX : X 145 0 = none) (hc : 1 ≤ ck) (hs : 2400 ≤ sk) (q : G 91 333 [zR 100 0] [] (zset (zset X 145 0 (.inr (.int, 2400, fun _ => zI 0))) 100 0 (.inl (9, zupN f 44 (zR 145 0)))) (ck - 1) (sk - 2400) Q) : G 91 324 [zR 100 0] [] (zset X 100 0 (.inl (9, f))) ck sk Q := by
  rw [g91_324, g91_325, g91_328]
  refine ⟨⟨⟨by decide, by decide⟩, hc, hs⟩, 145, 0, by decide, by rw [zset_k (by decide)]; exact hX, ?_⟩
  rw [g91_330, zGF_n (by decide), zGF_s]
  refine ⟨by decide, ?_⟩
  rw [zset_s3 (by decide)]
  exact q
theorem s91_50 (hX : X 151 0 = none) (hc : 1 ≤ ck) (hs : 300 ≤ sk) (q : G 91 342 [zR 100 0] [] (zset (zset X 151 0 (.inr (.int, 300, fun _ => zI 0))) 100 0 (.inl (9, zupN f 50 (zR 151 0)))) (ck - 1) (sk - 300) Q) : G 91 333 [zR 100 0] [] (zset X 100 0 (.inl (9, f))) ck sk Q := by
  rw [g91_333, g91_334, g91_337]
  refine ⟨⟨⟨by decide, by decide⟩, hc, hs⟩, 151, 0, by decide, by rw [zset_k (by decide)]; exact hX, ?_⟩
  rw [g91_339, zGF_n (by decide), zGF_s]
  refine ⟨by decide, ?_⟩
  rw [zset_s3 (by decide)]
  exact q
theorem s91_51 (hX : X 152 0 = none) (hc : 1 ≤ ck) (hs : 60 ≤ sk) (q : G 91 350 [zR 100 0] [] (zset (zset X 152 0 (.inr (.int, 60, fun _ => zI 0))) 100 0 (.inl (9, zupN f 51 (zR 152 0)))) (ck - 1) (sk - 60) Q) : G 91 342 [zR 100 0] [] (zset X 100 0 (.inl (9, f))) ck sk Q := by
  rw [g91_342, g91_343, g91_345]
  refine ⟨⟨⟨by decide, by decide⟩, hc, hs⟩, 152, 0, by decide, by rw [zset_k (by decide)]; exact hX, ?_⟩
  rw [g91_347, zGF_n (by decide), zGF_s]
  refine ⟨by decide, ?_⟩
  rw [zset_s3 (by decide)]
  exact q
theorem s91_52 (hX : X 153 0 = none) (hc : 1 ≤ ck) (hs : 60 ≤ sk) (q : G 91 358 [zR 100 0] [] (zset (zset X 153 0 (.inr (.int, 60, fun _ => zI 0))) 100 0 (.inl (9, zupN f 52 (zR 153 0)))) (ck - 1) (sk - 60) Q) : G 91 350 [zR 100 0] [] (zset X 100 0 (.inl (9, f))) ck sk Q := by
  rw [g91_350, g91_351, g91_353]
  refine ⟨⟨⟨by decide, by decide⟩, hc, hs⟩, 153, 0, by decide, by rw [zset_k (by decide)]; exact hX, ?_⟩
  rw [g91_355, zGF_n (by decide), zGF_s]
  refine ⟨by decide, ?_⟩
  rw [zset_s3 (by decide)]
  exact q
theorem s91_53 (hX : X 154 0 = none) (hc : 1 ≤ ck) (hs : 61 ≤ sk) (q : G 91 366 [zR 100 0] [] (zset (zset X 154 0 (.inr (.int, 61, fun _ => zI 0))) 100 0 (.inl (9, zupN f 53 (zR 154 0)))) (ck - 1) (sk - 61) Q) : G 91 358 [zR 100 0] [] (zset X 100 0 (.inl (9, f))) ck sk Q := by
  rw [g91_358, g91_359, g91_361]
  refine ⟨⟨⟨by decide, by decide⟩, hc, hs⟩, 154, 0, by decide, by rw [zset_k (by decide)]; exact hX, ?_⟩
  rw [g91_363, zGF_n (by decide), zGF_s]
  refine ⟨by decide, ?_⟩
  rw [zset_s3 (by decide)]
  exact q
theorem s91_54 (hX : X 155 0 = none) (hc : 1 ≤ ck) (hs : 61 ≤ sk) (q : G 91 374 [zR 100 0] [] (zset (zset X 155 0 (.inr (.int, 61, fun _ => zI 0))) 100 0 (.inl (9, zupN f 54 (zR 155 0)))) (ck - 1) (sk - 61) Q) : G 91 366 [zR 100 0] [] (zset X 100 0 (.inl (9, f))) ck sk Q := by
  rw [g91_366, g91_367, g91_369]
  refine ⟨⟨⟨by decide, by decide⟩, hc, hs⟩, 155, 0, by decide, by rw [zset_k (by decide)]; exact hX, ?_⟩
  rw [g91_371, zGF_n (by decide), zGF_s]
  refine ⟨by decide, ?_⟩
  rw [zset_s3 (by decide)]
  exact q
def HMd (h : ZH) : ZH := zset (zset (zset (zset (zset (zset (zset (zset (zset (zset (zset (zset (zset (zset (zset (zset (zset (zset (zset (zset (zset (zset (zset (zset (zset (zset (zset (zset (zset (zset (zset (zset (zset (zset (zset (zset (zset (zset (zset (zset (zset (zset (zset (zset (zset (h) 102 0 (.inr (.int, 24, fun _ => zI 0))) 103 0 (.inr (.int, 240, fun _ => zI 0))) 104 0 (.inr (.int, 240, fun _ => zI 0))) 105 0 (.inr (.int, 240, fun _ => zI 0))) 107 0 (.inr (.int, 12, fun _ => zI 0))) 108 0 (.inr (.int, 12, fun _ => zI 0))) 109 0 (.inr (.int, 72, fun _ => zI 0))) 110 0 (.inr (.boolean, 120, fun _ => zI 0))) 111 0 (.inr (.int, 120, fun _ => zI 0))) 112 0 (.inr (.int, 120, fun _ => zI 0))) 114 0 (.inr (.int, 6, fun _ => zI 0))) 115 0 (.inr (.int, 6, fun _ => zI 0))) 116 0 (.inr (.int, 6, fun _ => zI 0))) 117 0 (.inr (.int, 24, fun _ => zI 0))) 118 0 (.inr (.int, 6, fun _ => zI 0))) 119 0 (.inr (.int, 6, fun _ => zI 0))) 120 0 (.inr (.int, 72, fun _ => zI 0))) 121 0 (.inr (.int, 72, fun _ => zI 0))) 122 0 (.inr (.int, 6, fun _ => zI 0))) 123 0 (.inr (.long, 360, fun _ => zL 0))) 124 0 (.inr (.int, 360, fun _ => zI 0))) 125 0 (.inr (.int, 4, fun _ => zI 0))) 127 0 (.inr (.int, 40, fun _ => zI 0))) 128 0 (.inr (.int, 40, fun _ => zI 0))) 129 0 (.inr (.int, 40, fun _ => zI 0))) 130 0 (.inr (.int, 40, fun _ => zI 0))) 131 0 (.inr (.int, 40, fun _ => zI 0))) 133 0 (.inr (.int, 40, fun _ => zI 0))) 134 0 (.inr (.int, 40, fun _ => zI 0))) 135 0 (.inr (.int, 40, fun _ => zI 0))) 136 0 (.inr (.boolean, 400, fun _ => zI 0))) 137 0 (.inr (.int, 400, fun _ => zI 0))) 138 0 (.inr (.int, 400, fun _ => zI 0))) 139 0 (.inr (.int, 40, fun _ => zI 0))) 140 0 (.inr (.int, 40, fun _ => zI 0))) 141 0 (.inr (.int, 40, fun _ => zI 0))) 142 0 (.inr (.int, 40, fun _ => zI 0))) 143 0 (.inr (.int, 40, fun _ => zI 0))) 144 0 (.inr (.int, 12000, fun _ => zI 0))) 145 0 (.inr (.int, 2400, fun _ => zI 0))) 151 0 (.inr (.int, 300, fun _ => zI 0))) 152 0 (.inr (.int, 60, fun _ => zI 0))) 153 0 (.inr (.int, 60, fun _ => zI 0))) 154 0 (.inr (.int, 61, fun _ => zI 0))) 155 0 (.inr (.int, 61, fun _ => zI 0))
def obM : Nat → ZV := zupN (zupN (zupN (zupN (zupN (zupN (zupN (zupN (zupN (zupN (zupN (zupN (zupN (zupN (zupN (zupN (zupN (zupN (zupN (zupN (zupN (zupN (zupN (zupN (zupN (zupN (zupN (zupN (zupN (zupN (zupN (zupN (zupN (zupN (zupN (zupN (zupN (zupN (zupN (zupN (zupN (zupN (zupN (zupN (zupN (zfd 9) 1 (zR 102 0)) 2 (zR 103 0)) 3 (zR 104 0)) 4 (zR 105 0)) 6 (zR 107 0)) 7 (zR 108 0)) 8 (zR 109 0)) 9 (zR 110 0)) 10 (zR 111 0)) 11 (zR 112 0)) 13 (zR 114 0)) 14 (zR 115 0)) 15 (zR 116 0)) 16 (zR 117 0)) 17 (zR 118 0)) 18 (zR 119 0)) 19 (zR 120 0)) 20 (zR 121 0)) 21 (zR 122 0)) 22 (zR 123 0)) 23 (zR 124 0)) 24 (zR 125 0)) 26 (zR 127 0)) 27 (zR 128 0)) 28 (zR 129 0)) 29 (zR 130 0)) 30 (zR 131 0)) 32 (zR 133 0)) 33 (zR 134 0)) 34 (zR 135 0)) 35 (zR 136 0)) 36 (zR 137 0)) 37 (zR 138 0)) 38 (zR 139 0)) 39 (zR 140 0)) 40 (zR 141 0)) 41 (zR 142 0)) 42 (zR 143 0)) 43 (zR 144 0)) 44 (zR 145 0)) 50 (zR 151 0)) 51 (zR 152 0)) 52 (zR 153 0)) 53 (zR 154 0)) 54 (zR 155 0)
theorem i91 (hf : ∀ k, 101 ≤ k → k ≤ 199 → h k 0 = none) (q : Q (.inl none) (zset (HMd h) 100 0 (.inl (9, obM)))) : G 91 0 [zR 100 0] [] (zset h 100 0 (.inl (9, zfd 9))) 45 18790 Q := by
  rw [g91_0, g91_1 (by decide) (by decide)]
  refine s91_1 (by exact hf 102 (by decide) (by decide)) (by decide) (by decide) ?_
  refine s91_2 (by simp (disch := decide) only [zset_k]; exact hf 103 (by decide) (by decide)) (by decide) (by decide) ?_
  refine s91_3 (by simp (disch := decide) only [zset_k]; exact hf 104 (by decide) (by decide)) (by decide) (by decide) ?_
  refine s91_4 (by simp (disch := decide) only [zset_k]; exact hf 105 (by decide) (by decide)) (by decide) (by decide) ?_
  refine s91_6 (by simp (disch := decide) only [zset_k]; exact hf 107 (by decide) (by decide)) (by decide) (by decide) ?_
  refine s91_7 (by simp (disch := decide) only [zset_k]; exact hf 108 (by decide) (by decide)) (by decide) (by decide) ?_
  refine s91_8 (by simp (disch := decide) only [zset_k]; exact hf 109 (by decide) (by decide)) (by decide) (by decide) ?_
  refine s91_9 (by simp (disch := decide) only [zset_k]; exact hf 110 (by decide) (by decide)) (by decide) (by decide) ?_
  refine s91_10 (by simp (disch := decide) only [zset_k]; exact hf 111 (by decide) (by decide)) (by decide) (by decide) ?_
  refine s91_11 (by simp (disch := decide) only [zset_k]; exact hf 112 (by decide) (by decide)) (by decide) (by decide) ?_
  refine s91_13 (by simp (disch := decide) only [zset_k]; exact hf 114 (by decide) (by decide)) (by decide) (by decide) ?_
  refine s91_14 (by simp (disch := decide) only [zset_k]; exact hf 115 (by decide) (by decide)) (by decide) (by decide) ?_
  refine s91_15 (by simp (disch := decide) only [zset_k]; exact hf 116 (by decide) (by decide)) (by decide) (by decide) ?_
  refine s91_16 (by simp (disch := decide) only [zset_k]; exact hf 117 (by decide) (by decide)) (by decide) (by decide) ?_
  refine s91_17 (by simp (disch := decide) only [zset_k]; exact hf 118 (by decide) (by decide)) (by decide) (by decide) ?_
  refine s91_18 (by simp (disch := decide) only [zset_k]; exact hf 119 (by decide) (by decide)) (by decide) (by decide) ?_
  refine s91_19 (by simp (disch := decide) only [zset_k]; exact hf 120 (by decide) (by decide)) (by decide) (by decide) ?_
  refine s91_20 (by simp (disch := decide) only [zset_k]; exact hf 121 (by decide) (by decide)) (by decide) (by decide) ?_
  refine s91_21 (by simp (disch := decide) only [zset_k]; exact hf 122 (by decide) (by decide)) (by decide) (by decide) ?_
  refine s91_22 (by simp (disch := decide) only [zset_k]; exact hf 123 (by decide) (by decide)) (by decide) (by decide) ?_
  refine s91_23 (by simp (disch := decide) only [zset_k]; exact hf 124 (by decide) (by decide)) (by decide) (by decide) ?_
  refine s91_24 (by simp (disch := decide) only [zset_k]; exact hf 125 (by decide) (by decide)) (by decide) (by decide) ?_
  refine s91_26 (by simp (disch := decide) only [zset_k]; exact hf 127 (by decide) (by decide)) (by decide) (by decide) ?_
  refine s91_27 (by simp (disch := decide) only [zset_k]; exact hf 128 (by decide) (by decide)) (by decide) (by decide) ?_
  refine s91_28 (by simp (disch := decide) only [zset_k]; exact hf 129 (by decide) (by decide)) (by decide) (by decide) ?_
  refine s91_29 (by simp (disch := decide) only [zset_k]; exact hf 130 (by decide) (by decide)) (by decide) (by decide) ?_
  refine s91_30 (by simp (disch := decide) only [zset_k]; exact hf 131 (by decide) (by decide)) (by decide) (by decide) ?_
  refine s91_32 (by simp (disch := decide) only [zset_k]; exact hf 133 (by decide) (by decide)) (by decide) (by decide) ?_
  refine s91_33 (by simp (disch := decide) only [zset_k]; exact hf 134 (by decide) (by decide)) (by decide) (by decide) ?_
  refine s91_34 (by simp (disch := decide) only [zset_k]; exact hf 135 (by decide) (by decide)) (by decide) (by decide) ?_
  refine s91_35 (by simp (disch := decide) only [zset_k]; exact hf 136 (by decide) (by decide)) (by decide) (by decide) ?_
  refine s91_36 (by simp (disch := decide) only [zset_k]; exact hf 137 (by decide) (by decide)) (by decide) (by decide) ?_
  refine s91_37 (by simp (disch := decide) only [zset_k]; exact hf 138 (by decide) (by decide)) (by decide) (by decide) ?_
  refine s91_38 (by simp (disch := decide) only [zset_k]; exact hf 139 (by decide) (by decide)) (by decide) (by decide) ?_
  refine s91_39 (by simp (disch := decide) only [zset_k]; exact hf 140 (by decide) (by decide)) (by decide) (by decide) ?_
  refine s91_40 (by simp (disch := decide) only [zset_k]; exact hf 141 (by decide) (by decide)) (by decide) (by decide) ?_
  refine s91_41 (by simp (disch := decide) only [zset_k]; exact hf 142 (by decide) (by decide)) (by decide) (by decide) ?_
  refine s91_42 (by simp (disch := decide) only [zset_k]; exact hf 143 (by decide) (by decide)) (by decide) (by decide) ?_
  refine s91_43 (by simp (disch := decide) only [zset_k]; exact hf 144 (by decide) (by decide)) (by decide) (by decide) ?_
  refine s91_44 (by simp (disch := decide) only [zset_k]; exact hf 145 (by decide) (by decide)) (by decide) (by decide) ?_
  refine s91_50 (by simp (disch := decide) only [zset_k]; exact hf 151 (by decide) (by decide)) (by decide) (by decide) ?_
  refine s91_51 (by simp (disch := decide) only [zset_k]; exact hf 152 (by decide) (by decide)) (by decide) (by decide) ?_
  refine s91_52 (by simp (disch := decide) only [zset_k]; exact hf 153 (by decide) (by decide)) (by decide) (by decide) ?_
  refine s91_53 (by simp (disch := decide) only [zset_k]; exact hf 154 (by decide) (by decide)) (by decide) (by decide) ?_
  refine s91_54 (by simp (disch := decide) only [zset_k]; exact hf 155 (by decide) (by decide)) (by decide) (by decide) ?_
  rw [g91_374]
  exact q
def HPr (h : ZH) : ZH := zset (zset (zset (zset (zset (zset (HS h 0) 61 0 a60) 62 0 a60) 63 0 a60) 64 0 (.inr (.int, 61, fun _ => zI 0))) 65 0 a60) 66 0 (.inr (.int, 12, fun _ => zI 0))
def obP : Nat → ZV := zupN (zupN (zupN (zupN (zupN (zupN (zupN (zfd 6) 0 (zR 50 0)) 1 (zR 61 0)) 2 (zR 62 0)) 3 (zR 63 0)) 4 (zR 64 0)) 5 (zR 65 0)) 6 (zR 66 0)
theorem i17 (hf : ∀ k, 50 ≤ k → k ≤ 66 → h k 0 = none) (q : Q (.inl none) (zset (HPr (zset h 8 0 (.inl (6, zfd 6)))) 8 0 (.inl (6, obP)))) : G 17 0 [zR 8 0] [] (zset h 8 0 (.inl (6, zfd 6))) 13 685 Q := by
  have f1 : ∀ k, 50 ≤ k → k ≤ 66 → zset h 8 0 (.inl (6, zfd 6)) k 0 = none := fun k h1 h2 => by rw [zset_k (by omega)]; exact hf k h1 h2
  simp (disch := first | omega | (simp (disch := decide) only [zmu0, mu_g, List.length_nil, List.length_cons]; omega)) only [g17_0, g17_1, g17_4, g17_8, g17_8r, g17_9, g17_12, g17_15, g17_16, g17_20, g17_23, g17_24, g17_28, g17_31, g17_32, g17_36, g17_39, g17_40, g17_44, g17_47, g17_48, g17_52, g17_55, g17_56, g17_60, g17_63, Int.reduceSub, Int.reduceAdd, Int.add_zero, Int.zero_add, Int.cast_ofNat_Int, Bool.false_eq_true, decide_true, decide_false, zbndI, zbwI, zbzI, zb1I, zoA_at, gback_v, gback_n, zem, zisr, zro_at, zrl_at, mu_g, mu_at, mu_mu, mu_self, not_true, not_false_iff, zb0, zb1, zbnd, zbw, zbz, zne1, zone, mrgI, List.length_nil, List.length_cons, Nat.reduceAdd, Nat.reduceSub, Nat.reduceLeDiff, Nat.zero_le, and_true, true_and, false_and, and_false, true_or, or_true, false_or, or_false, G_ite, z10, z1n, z1and, z1or, z0not, z0and, itn, if_true, if_false, reduceIte, Int.reduceEq, Int.reduceLT, Int.reduceNeg, Nat.reduceEqDiff, ite_self]
  rw [g17_5]
  refine ⟨⟨trivial, by decide, by decide⟩, 50, 0, by decide, f1 50 (by decide) (by decide), ?_⟩
  simp (disch := first | omega | (simp (disch := decide) only [zmu0, mu_g, List.length_nil, List.length_cons]; omega)) only [g17_0, g17_1, g17_4, g17_8, g17_8r, g17_9, g17_12, g17_15, g17_16, g17_20, g17_23, g17_24, g17_28, g17_31, g17_32, g17_36, g17_39, g17_40, g17_44, g17_47, g17_48, g17_52, g17_55, g17_56, g17_60, g17_63, Int.reduceSub, Int.reduceAdd, Int.add_zero, Int.zero_add, Int.cast_ofNat_Int, Bool.false_eq_true, decide_true, decide_false, zbndI, zbwI, zbzI, zb1I, zoA_at, gback_v, gback_n, zem, zisr, zro_at, zrl_at, mu_g, mu_at, mu_mu, mu_self, not_true, not_false_iff, zb0, zb1, zbnd, zbw, zbz, zne1, zone, mrgI, List.length_nil, List.length_cons, Nat.reduceAdd, Nat.reduceSub, Nat.reduceLeDiff, Nat.zero_le, and_true, true_and, false_and, and_false, true_or, or_true, false_or, or_false, G_ite, z10, z1n, z1and, z1or, z0not, z0and, itn, if_true, if_false, reduceIte, Int.reduceEq, Int.reduceLT, Int.reduceNeg, Nat.reduceEqDiff, ite_self, zGO_s]
  refine i35 zset_at (by rw [zset_k (by decide)]; exact f1 51 (by decide) (by decide)) (by rw [zset_k (by decide)]; exact f1 52 (by decide) (by decide)) (by rw [zset_k (by decide)]; exact f1 53 (by decide) (by decide)) (by rw [zset_k (by decide)]; exact f1 54 (by decide) (by decide)) (by rw [zset_k (by decide)]; exact f1 55 (by decide) (by decide)) (by rw [zset_k (by decide)]; exact f1 56 (by decide) (by decide)) ?_
  rw [gback_n, zset_zset]
  have eS : zset (zset (zset (zset (zset (zset (zset (zset h 8 0 (.inl (6, zfd 6))) 50 0 (zfS 0)) 51 0 a60) 52 0 a60) 53 0 a60) 54 0 a60) 55 0 a60) 56 0 a60 = HS (zset h 8 0 (.inl (6, zfd 6))) 0 := rfl
  rw [eS]
  have g8 : HS (zset h 8 0 (.inl (6, zfd 6))) 0 8 0 = some (.inl (6, zfd 6)) := by
    unfold HS
    simp (disch := decide) only [zset_k]
    exact zset_at
  have gS : ∀ k, 57 ≤ k → k ≤ 66 → HS (zset h 8 0 (.inl (6, zfd 6))) 0 k 0 = none := fun k h1 h2 => by
    unfold HS
    rw [zset_k (by omega), zset_k (by omega), zset_k (by omega), zset_k (by omega), zset_k (by omega), zset_k (by omega), zset_k (by omega)]
    exact f1 k (by omega) h2
  generalize hH : HS (zset h 8 0 (.inl (6, zfd 6))) 0 = H at *
  simp (disch := first | omega | (simp (disch := decide) only [zmu0, mu_g, List.length_nil, List.length_cons]; omega)) only [g17_0, g17_1, g17_4, g17_8, g17_8r, g17_9, g17_12, g17_15, g17_16, g17_20, g17_23, g17_24, g17_28, g17_31, g17_32, g17_36, g17_39, g17_40, g17_44, g17_47, g17_48, g17_52, g17_55, g17_56, g17_60, g17_63, Int.reduceSub, Int.reduceAdd, Int.add_zero, Int.zero_add, Int.cast_ofNat_Int, Bool.false_eq_true, decide_true, decide_false, zbndI, zbwI, zbzI, zb1I, zoA_at, gback_v, gback_n, zem, zisr, zro_at, zrl_at, mu_g, mu_at, mu_mu, mu_self, not_true, not_false_iff, zb0, zb1, zbnd, zbw, zbz, zne1, zone, mrgI, List.length_nil, List.length_cons, Nat.reduceAdd, Nat.reduceSub, Nat.reduceLeDiff, Nat.zero_le, and_true, true_and, false_and, and_false, true_or, or_true, false_or, or_false, G_ite, z10, z1n, z1and, z1or, z0not, z0and, itn, if_true, if_false, reduceIte, Int.reduceEq, Int.reduceLT, Int.reduceNeg, Nat.reduceEqDiff, ite_self, zGF_o g8]
  rw [g17_18]
  refine ⟨⟨⟨by decide, by decide⟩, by decide, by decide⟩, 61, 0, by decide, by simp (disch := decide) only [zset_k]; exact gS 61 (by decide) (by decide), ?_⟩
  simp (disch := first | omega | (simp (disch := decide) only [zmu0, mu_g, List.length_nil, List.length_cons]; omega)) only [g17_0, g17_1, g17_4, g17_8, g17_8r, g17_9, g17_12, g17_15, g17_16, g17_20, g17_23, g17_24, g17_28, g17_31, g17_32, g17_36, g17_39, g17_40, g17_44, g17_47, g17_48, g17_52, g17_55, g17_56, g17_60, g17_63, Int.reduceSub, Int.reduceAdd, Int.add_zero, Int.zero_add, Int.cast_ofNat_Int, Bool.false_eq_true, decide_true, decide_false, zbndI, zbwI, zbzI, zb1I, zoA_at, gback_v, gback_n, zem, zisr, zro_at, zrl_at, mu_g, mu_at, mu_mu, mu_self, not_true, not_false_iff, zb0, zb1, zbnd, zbw, zbz, zne1, zone, mrgI, List.length_nil, List.length_cons, Nat.reduceAdd, Nat.reduceSub, Nat.reduceLeDiff, Nat.zero_le, and_true, true_and, false_and, and_false, true_or, or_true, false_or, or_false, G_ite, z10, z1n, z1and, z1or, z0not, z0and, itn, if_true, if_false, reduceIte, Int.reduceEq, Int.reduceLT, Int.reduceNeg, Nat.reduceEqDiff, ite_self, zGF_n, zGF_s, zset_s3, Int.reduceToNat]
  rw [g17_26]
  refine ⟨⟨⟨by decide, by decide⟩, by decide, by decide⟩, 62, 0, by decide, by simp (disch := decide) only [zset_k]; exact gS 62 (by decide) (by decide), ?_⟩
  simp (disch := first | omega | (simp (disch := decide) only [zmu0, mu_g, List.length_nil, List.length_cons]; omega)) only [g17_0, g17_1, g17_4, g17_8, g17_8r, g17_9, g17_12, g17_15, g17_16, g17_20, g17_23, g17_24, g17_28, g17_31, g17_32, g17_36, g17_39, g17_40, g17_44, g17_47, g17_48, g17_52, g17_55, g17_56, g17_60, g17_63, Int.reduceSub, Int.reduceAdd, Int.add_zero, Int.zero_add, Int.cast_ofNat_Int, Bool.false_eq_true, decide_true, decide_false, zbndI, zbwI, zbzI, zb1I, zoA_at, gback_v, gback_n, zem, zisr, zro_at, zrl_at, mu_g, mu_at, mu_mu, mu_self, not_true, not_false_iff, zb0, zb1, zbnd, zbw, zbz, zne1, zone, mrgI, List.length_nil, List.length_cons, Nat.reduceAdd, Nat.reduceSub, Nat.reduceLeDiff, Nat.zero_le, and_true, true_and, false_and, and_false, true_or, or_true, false_or, or_false, G_ite, z10, z1n, z1and, z1or, z0not, z0and, itn, if_true, if_false, reduceIte, Int.reduceEq, Int.reduceLT, Int.reduceNeg, Nat.reduceEqDiff, ite_self, zGF_n, zGF_s, zset_s3, Int.reduceToNat]
  rw [g17_34]
  refine ⟨⟨⟨by decide, by decide⟩, by decide, by decide⟩, 63, 0, by decide, by simp (disch := decide) only [zset_k]; exact gS 63 (by decide) (by decide), ?_⟩
  simp (disch := first | omega | (simp (disch := decide) only [zmu0, mu_g, List.length_nil, List.length_cons]; omega)) only [g17_0, g17_1, g17_4, g17_8, g17_8r, g17_9, g17_12, g17_15, g17_16, g17_20, g17_23, g17_24, g17_28, g17_31, g17_32, g17_36, g17_39, g17_40, g17_44, g17_47, g17_48, g17_52, g17_55, g17_56, g17_60, g17_63, Int.reduceSub, Int.reduceAdd, Int.add_zero, Int.zero_add, Int.cast_ofNat_Int, Bool.false_eq_true, decide_true, decide_false, zbndI, zbwI, zbzI, zb1I, zoA_at, gback_v, gback_n, zem, zisr, zro_at, zrl_at, mu_g, mu_at, mu_mu, mu_self, not_true, not_false_iff, zb0, zb1, zbnd, zbw, zbz, zne1, zone, mrgI, List.length_nil, List.length_cons, Nat.reduceAdd, Nat.reduceSub, Nat.reduceLeDiff, Nat.zero_le, and_true, true_and, false_and, and_false, true_or, or_true, false_or, or_false, G_ite, z10, z1n, z1and, z1or, z0not, z0and, itn, if_true, if_false, reduceIte, Int.reduceEq, Int.reduceLT, Int.reduceNeg, Nat.reduceEqDiff, ite_self, zGF_n, zGF_s, zset_s3, Int.reduceToNat]
  rw [g17_42]
  refine ⟨⟨⟨by decide, by decide⟩, by decide, by decide⟩, 64, 0, by decide, by simp (disch := decide) only [zset_k]; exact gS 64 (by decide) (by decide), ?_⟩
  simp (disch := first | omega | (simp (disch := decide) only [zmu0, mu_g, List.length_nil, List.length_cons]; omega)) only [g17_0, g17_1, g17_4, g17_8, g17_8r, g17_9, g17_12, g17_15, g17_16, g17_20, g17_23, g17_24, g17_28, g17_31, g17_32, g17_36, g17_39, g17_40, g17_44, g17_47, g17_48, g17_52, g17_55, g17_56, g17_60, g17_63, Int.reduceSub, Int.reduceAdd, Int.add_zero, Int.zero_add, Int.cast_ofNat_Int, Bool.false_eq_true, decide_true, decide_false, zbndI, zbwI, zbzI, zb1I, zoA_at, gback_v, gback_n, zem, zisr, zro_at, zrl_at, mu_g, mu_at, mu_mu, mu_self, not_true, not_false_iff, zb0, zb1, zbnd, zbw, zbz, zne1, zone, mrgI, List.length_nil, List.length_cons, Nat.reduceAdd, Nat.reduceSub, Nat.reduceLeDiff, Nat.zero_le, and_true, true_and, false_and, and_false, true_or, or_true, false_or, or_false, G_ite, z10, z1n, z1and, z1or, z0not, z0and, itn, if_true, if_false, reduceIte, Int.reduceEq, Int.reduceLT, Int.reduceNeg, Nat.reduceEqDiff, ite_self, zGF_n, zGF_s, zset_s3, Int.reduceToNat]
  rw [g17_50]
  refine ⟨⟨⟨by decide, by decide⟩, by decide, by decide⟩, 65, 0, by decide, by simp (disch := decide) only [zset_k]; exact gS 65 (by decide) (by decide), ?_⟩
  simp (disch := first | omega | (simp (disch := decide) only [zmu0, mu_g, List.length_nil, List.length_cons]; omega)) only [g17_0, g17_1, g17_4, g17_8, g17_8r, g17_9, g17_12, g17_15, g17_16, g17_20, g17_23, g17_24, g17_28, g17_31, g17_32, g17_36, g17_39, g17_40, g17_44, g17_47, g17_48, g17_52, g17_55, g17_56, g17_60, g17_63, Int.reduceSub, Int.reduceAdd, Int.add_zero, Int.zero_add, Int.cast_ofNat_Int, Bool.false_eq_true, decide_true, decide_false, zbndI, zbwI, zbzI, zb1I, zoA_at, gback_v, gback_n, zem, zisr, zro_at, zrl_at, mu_g, mu_at, mu_mu, mu_self, not_true, not_false_iff, zb0, zb1, zbnd, zbw, zbz, zne1, zone, mrgI, List.length_nil, List.length_cons, Nat.reduceAdd, Nat.reduceSub, Nat.reduceLeDiff, Nat.zero_le, and_true, true_and, false_and, and_false, true_or, or_true, false_or, or_false, G_ite, z10, z1n, z1and, z1or, z0not, z0and, itn, if_true, if_false, reduceIte, Int.reduceEq, Int.reduceLT, Int.reduceNeg, Nat.reduceEqDiff, ite_self, zGF_n, zGF_s, zset_s3, Int.reduceToNat]
  rw [g17_58]
  refine ⟨⟨⟨by decide, by decide⟩, by decide, by decide⟩, 66, 0, by decide, by simp (disch := decide) only [zset_k]; exact gS 66 (by decide) (by decide), ?_⟩
  simp (disch := first | omega | (simp (disch := decide) only [zmu0, mu_g, List.length_nil, List.length_cons]; omega)) only [g17_0, g17_1, g17_4, g17_8, g17_8r, g17_9, g17_12, g17_15, g17_16, g17_20, g17_23, g17_24, g17_28, g17_31, g17_32, g17_36, g17_39, g17_40, g17_44, g17_47, g17_48, g17_52, g17_55, g17_56, g17_60, g17_63, Int.reduceSub, Int.reduceAdd, Int.add_zero, Int.zero_add, Int.cast_ofNat_Int, Bool.false_eq_true, decide_true, decide_false, zbndI, zbwI, zbzI, zb1I, zoA_at, gback_v, gback_n, zem, zisr, zro_at, zrl_at, mu_g, mu_at, mu_mu, mu_self, not_true, not_false_iff, zb0, zb1, zbnd, zbw, zbz, zne1, zone, mrgI, List.length_nil, List.length_cons, Nat.reduceAdd, Nat.reduceSub, Nat.reduceLeDiff, Nat.zero_le, and_true, true_and, false_and, and_false, true_or, or_true, false_or, or_false, G_ite, z10, z1n, z1and, z1or, z0not, z0and, itn, if_true, if_false, reduceIte, Int.reduceEq, Int.reduceLT, Int.reduceNeg, Nat.reduceEqDiff, ite_self, zGF_n, zGF_s, zset_s3, Int.reduceToNat]
  unfold HPr at q
  rw [hH] at q
  exact q
abbrev oar (c m : Nat) : ZE := .inr (.object (zcn c), m, fun _ => zN)
def obB5 : Nat → ZV := zupN (zupN (zupN (zupN (zupN (zfd 8) 0 (zR 3 0)) 1 (zR 4 0)) 2 (zR 5 0)) 3 (zR 6 0)) 4 (zR 7 0)
def obB : Nat → ZV := zupN (zupN (zupN (zupN (zupN (zupN (zfd 8) 0 (zR 3 0)) 1 (zR 4 0)) 2 (zR 5 0)) 3 (zR 6 0)) 4 (zR 7 0)) 5 (zR 8 0)
def HBx (h : ZH) : ZH := zset (HPr (zset (zset (zset (zset (zset (zset (zset h 3 0 (oar 5 24)) 4 0 (oar 3 12)) 5 0 (oar 1 6)) 6 0 (oar 4 40)) 7 0 (.inr (.int, 4, fun _ => zI 0))) 2 0 (.inl (8, obB5))) 8 0 (.inl (6, zfd 6)))) 8 0 (.inl (6, obP))
theorem HPr_GF {k c : Nat} {F : (Nat → ZV) → Prop} (hk : k < 50) : zGF (HPr h) k i c F ↔ zGF h k i c F := by
  unfold HPr HS
  rw [zGF_n (by omega), zGF_n (by omega), zGF_n (by omega), zGF_n (by omega), zGF_n (by omega), zGF_n (by omega), zGF_n (by omega), zGF_n (by omega), zGF_n (by omega), zGF_n (by omega), zGF_n (by omega), zGF_n (by omega), zGF_n (by omega)]
theorem i43 (hf : ∀ k, 3 ≤ k → k ≤ 66 → h k 0 = none) (q : Q (.inl none) (zset (HBx h) 2 0 (.inl (8, obB)))) : G 43 0 [zR 2 0] [] (zset h 2 0 (.inl (8, zfd 8))) 19 778 Q := by
  simp (disch := first | omega | (simp (disch := decide) only [zmu0, mu_g, List.length_nil, List.length_cons]; omega)) only [g43_0, g43_1, g43_4, g43_5, g43_10, g43_13, g43_14, g43_19, g43_22, g43_23, g43_28, g43_31, g43_32, g43_37, g43_40, g43_41, g43_44, g43_47, g43_51, g43_51r, g43_55, g43_58, Int.reduceSub, Int.reduceAdd, Int.add_zero, Int.zero_add, Int.cast_ofNat_Int, Bool.false_eq_true, decide_true, decide_false, zbndI, zbwI, zbzI, zb1I, zoA_at, gback_v, gback_n, zem, zisr, zro_at, zrl_at, mu_g, mu_at, mu_mu, mu_self, not_true, not_false_iff, zb0, zb1, zbnd, zbw, zbz, zne1, zone, mrgI, List.length_nil, List.length_cons, Nat.reduceAdd, Nat.reduceSub, Nat.reduceLeDiff, Nat.zero_le, and_true, true_and, false_and, and_false, true_or, or_true, false_or, or_false, G_ite, z10, z1n, z1and, z1or, z0not, z0and, itn, if_true, if_false, reduceIte, Int.reduceEq, Int.reduceLT, Int.reduceNeg, Nat.reduceEqDiff, ite_self]
  rw [g43_7]
  refine ⟨⟨⟨by decide, by decide⟩, by decide, by decide⟩, 3, 0, by decide, by simp (disch := decide) only [zset_k]; exact hf 3 (by decide) (by decide), ?_⟩
  simp (disch := first | omega | (simp (disch := decide) only [zmu0, mu_g, List.length_nil, List.length_cons]; omega)) only [g43_0, g43_1, g43_4, g43_5, g43_10, g43_13, g43_14, g43_19, g43_22, g43_23, g43_28, g43_31, g43_32, g43_37, g43_40, g43_41, g43_44, g43_47, g43_51, g43_51r, g43_55, g43_58, Int.reduceSub, Int.reduceAdd, Int.add_zero, Int.zero_add, Int.cast_ofNat_Int, Bool.false_eq_true, decide_true, decide_false, zbndI, zbwI, zbzI, zb1I, zoA_at, gback_v, gback_n, zem, zisr, zro_at, zrl_at, mu_g, mu_at, mu_mu, mu_self, not_true, not_false_iff, zb0, zb1, zbnd, zbw, zbz, zne1, zone, mrgI, List.length_nil, List.length_cons, Nat.reduceAdd, Nat.reduceSub, Nat.reduceLeDiff, Nat.zero_le, and_true, true_and, false_and, and_false, true_or, or_true, false_or, or_false, G_ite, z10, z1n, z1and, z1or, z0not, z0and, itn, if_true, if_false, reduceIte, Int.reduceEq, Int.reduceLT, Int.reduceNeg, Nat.reduceEqDiff, ite_self, zGF_n, zGF_s, zset_s3, Int.reduceToNat]
  rw [g43_16]
  refine ⟨⟨⟨by decide, by decide⟩, by decide, by decide⟩, 4, 0, by decide, by simp (disch := decide) only [zset_k]; exact hf 4 (by decide) (by decide), ?_⟩
  simp (disch := first | omega | (simp (disch := decide) only [zmu0, mu_g, List.length_nil, List.length_cons]; omega)) only [g43_0, g43_1, g43_4, g43_5, g43_10, g43_13, g43_14, g43_19, g43_22, g43_23, g43_28, g43_31, g43_32, g43_37, g43_40, g43_41, g43_44, g43_47, g43_51, g43_51r, g43_55, g43_58, Int.reduceSub, Int.reduceAdd, Int.add_zero, Int.zero_add, Int.cast_ofNat_Int, Bool.false_eq_true, decide_true, decide_false, zbndI, zbwI, zbzI, zb1I, zoA_at, gback_v, gback_n, zem, zisr, zro_at, zrl_at, mu_g, mu_at, mu_mu, mu_self, not_true, not_false_iff, zb0, zb1, zbnd, zbw, zbz, zne1, zone, mrgI, List.length_nil, List.length_cons, Nat.reduceAdd, Nat.reduceSub, Nat.reduceLeDiff, Nat.zero_le, and_true, true_and, false_and, and_false, true_or, or_true, false_or, or_false, G_ite, z10, z1n, z1and, z1or, z0not, z0and, itn, if_true, if_false, reduceIte, Int.reduceEq, Int.reduceLT, Int.reduceNeg, Nat.reduceEqDiff, ite_self, zGF_n, zGF_s, zset_s3, Int.reduceToNat]
  rw [g43_25]
  refine ⟨⟨⟨by decide, by decide⟩, by decide, by decide⟩, 5, 0, by decide, by simp (disch := decide) only [zset_k]; exact hf 5 (by decide) (by decide), ?_⟩
  simp (disch := first | omega | (simp (disch := decide) only [zmu0, mu_g, List.length_nil, List.length_cons]; omega)) only [g43_0, g43_1, g43_4, g43_5, g43_10, g43_13, g43_14, g43_19, g43_22, g43_23, g43_28, g43_31, g43_32, g43_37, g43_40, g43_41, g43_44, g43_47, g43_51, g43_51r, g43_55, g43_58, Int.reduceSub, Int.reduceAdd, Int.add_zero, Int.zero_add, Int.cast_ofNat_Int, Bool.false_eq_true, decide_true, decide_false, zbndI, zbwI, zbzI, zb1I, zoA_at, gback_v, gback_n, zem, zisr, zro_at, zrl_at, mu_g, mu_at, mu_mu, mu_self, not_true, not_false_iff, zb0, zb1, zbnd, zbw, zbz, zne1, zone, mrgI, List.length_nil, List.length_cons, Nat.reduceAdd, Nat.reduceSub, Nat.reduceLeDiff, Nat.zero_le, and_true, true_and, false_and, and_false, true_or, or_true, false_or, or_false, G_ite, z10, z1n, z1and, z1or, z0not, z0and, itn, if_true, if_false, reduceIte, Int.reduceEq, Int.reduceLT, Int.reduceNeg, Nat.reduceEqDiff, ite_self, zGF_n, zGF_s, zset_s3, Int.reduceToNat]
  rw [g43_34]
  refine ⟨⟨⟨by decide, by decide⟩, by decide, by decide⟩, 6, 0, by decide, by simp (disch := decide) only [zset_k]; exact hf 6 (by decide) (by decide), ?_⟩
  simp (disch := first | omega | (simp (disch := decide) only [zmu0, mu_g, List.length_nil, List.length_cons]; omega)) only [g43_0, g43_1, g43_4, g43_5, g43_10, g43_13, g43_14, g43_19, g43_22, g43_23, g43_28, g43_31, g43_32, g43_37, g43_40, g43_41, g43_44, g43_47, g43_51, g43_51r, g43_55, g43_58, Int.reduceSub, Int.reduceAdd, Int.add_zero, Int.zero_add, Int.cast_ofNat_Int, Bool.false_eq_true, decide_true, decide_false, zbndI, zbwI, zbzI, zb1I, zoA_at, gback_v, gback_n, zem, zisr, zro_at, zrl_at, mu_g, mu_at, mu_mu, mu_self, not_true, not_false_iff, zb0, zb1, zbnd, zbw, zbz, zne1, zone, mrgI, List.length_nil, List.length_cons, Nat.reduceAdd, Nat.reduceSub, Nat.reduceLeDiff, Nat.zero_le, and_true, true_and, false_and, and_false, true_or, or_true, false_or, or_false, G_ite, z10, z1n, z1and, z1or, z0not, z0and, itn, if_true, if_false, reduceIte, Int.reduceEq, Int.reduceLT, Int.reduceNeg, Nat.reduceEqDiff, ite_self, zGF_n, zGF_s, zset_s3, Int.reduceToNat]
  rw [g43_42]
  refine ⟨⟨⟨by decide, by decide⟩, by decide, by decide⟩, 7, 0, by decide, by simp (disch := decide) only [zset_k]; exact hf 7 (by decide) (by decide), ?_⟩
  simp (disch := first | omega | (simp (disch := decide) only [zmu0, mu_g, List.length_nil, List.length_cons]; omega)) only [g43_0, g43_1, g43_4, g43_5, g43_10, g43_13, g43_14, g43_19, g43_22, g43_23, g43_28, g43_31, g43_32, g43_37, g43_40, g43_41, g43_44, g43_47, g43_51, g43_51r, g43_55, g43_58, Int.reduceSub, Int.reduceAdd, Int.add_zero, Int.zero_add, Int.cast_ofNat_Int, Bool.false_eq_true, decide_true, decide_false, zbndI, zbwI, zbzI, zb1I, zoA_at, gback_v, gback_n, zem, zisr, zro_at, zrl_at, mu_g, mu_at, mu_mu, mu_self, not_true, not_false_iff, zb0, zb1, zbnd, zbw, zbz, zne1, zone, mrgI, List.length_nil, List.length_cons, Nat.reduceAdd, Nat.reduceSub, Nat.reduceLeDiff, Nat.zero_le, and_true, true_and, false_and, and_false, true_or, or_true, false_or, or_false, G_ite, z10, z1n, z1and, z1or, z0not, z0and, itn, if_true, if_false, reduceIte, Int.reduceEq, Int.reduceLT, Int.reduceNeg, Nat.reduceEqDiff, ite_self, zGF_n, zGF_s, zset_s3, Int.reduceToNat]
  rw [g43_48]
  refine ⟨⟨trivial, by decide, by decide⟩, 8, 0, by decide, by simp (disch := decide) only [zset_k]; exact hf 8 (by decide) (by decide), ?_⟩
  rw [g43_51r, g43_52]
  refine ⟨⟨by decide, by decide, by simp only [List.length_cons, List.length_nil]; omega, zGO_s.mpr trivial⟩, ?_⟩
  refine i17 (fun k h1 h2 => by
    rw [zset_k (by omega), zset_k (by omega), zset_k (by omega), zset_k (by omega), zset_k (by omega), zset_k (by omega)]
    exact hf k (by omega) h2) ?_
  rw [gback_n, g43_55, zGF_n (by decide), HPr_GF (by decide), zGF_n (by decide), zGF_s]
  refine ⟨by decide, ?_⟩
  rw [g43_58]
  exact q
def mI (L : Nat) (xs : Nat → Int32) : ZU := fun k p j => if k = 0 then (if p = 0 ∧ j = 50 then 1 else if p = 2 ∧ j = 0 then (L : Int) else 0) else if k = 1 then (xs j.toNat).toInt else 0
theorem zbdI {L : Nat} {xs : Nat → Int32} {c : Nat} {p : Int} (h0 : 0 ≤ p) (h1 : p < zbd (mI L xs) c) : p = 0 ∧ (c = 0 ∨ c = 50) := by
  match c with
  | 0 => exact ⟨by have h2 : p < 1 := h1; omega, Or.inl rfl⟩
  | c + 1 =>
    have h2 : p < (if (0 : Nat) = 0 then (if (0 : Int) = 0 ∧ ((c + 1 : Nat) : Int) = 50 then 1 else if (0 : Int) = 2 ∧ ((c + 1 : Nat) : Int) = 0 then (L : Int) else 0) else 0) := h1
    rw [if_pos rfl] at h2
    by_cases h3 : ((c + 1 : Nat) : Int) = 50
    · rw [if_pos ⟨rfl, h3⟩] at h2
      omega
    · rw [if_neg (fun z => h3 z.2), if_neg (fun z => absurd z.1 (by decide))] at h2
      omega
theorem HM_a {μ : ZU} {k : Nat} {t : FieldType} {n : Nat} {c : Nat} {i : Int} (h : zkl zKA k = some (t, n, c)) (hb : 0 ≤ i ∧ i < zbd μ c) : HM μ k i = some (.inr (t, n, fun j => zel t (μ k i j))) := by
  unfold HM
  rw [h]
  exact if_pos hb
theorem HM_o {μ : ZU} {k n c : Nat} {i : Int} (h : zkl zKO k = some (c, n)) (hb : 0 ≤ i ∧ i < zbd μ n) (ha : zkl zKA k = none := by rfl) : HM μ k i = some (.inl (c, zfl μ k i)) := by
  unfold HM
  rw [ha, h]
  exact if_pos hb
theorem HM_st {L : Nat} {xs : Nat → Int32} : zset (zset (HMd (zset (HBx (zSC L xs)) 2 0 (.inl (8, obB)))) 100 0 (.inl (9, obM))) 200 0 (.inr (.long, 1, fun _ => zL 0)) = HM (mI L xs) := by
  have e7 : HM (mI L xs) 7 0 = some (.inr (.int, 4, fun _ => zI 0)) := HM_a rfl ⟨by decide, by show (0 : Int) < 1; decide⟩
  have e51 : HM (mI L xs) 51 0 = some (.inr (.int, 60, fun _ => zI 0)) := HM_a rfl ⟨by decide, by show (0 : Int) < 1; decide⟩
  have e52 : HM (mI L xs) 52 0 = some (.inr (.int, 60, fun _ => zI 0)) := HM_a rfl ⟨by decide, by show (0 : Int) < 1; decide⟩
  have e53 : HM (mI L xs) 53 0 = some (.inr (.int, 60, fun _ => zI 0)) := HM_a rfl ⟨by decide, by show (0 : Int) < 1; decide⟩
  have e54 : HM (mI L xs) 54 0 = some (.inr (.int, 60, fun _ => zI 0)) := HM_a rfl ⟨by decide, by show (0 : Int) < 1; decide⟩
  have e55 : HM (mI L xs) 55 0 = some (.inr (.int, 60, fun _ => zI 0)) := HM_a rfl ⟨by decide, by show (0 : Int) < 1; decide⟩
  have e56 : HM (mI L xs) 56 0 = some (.inr (.int, 60, fun _ => zI 0)) := HM_a rfl ⟨by decide, by show (0 : Int) < 1; decide⟩
  have e61 : HM (mI L xs) 61 0 = some (.inr (.int, 60, fun _ => zI 0)) := HM_a rfl ⟨by decide, by show (0 : Int) < 1; decide⟩
  have e62 : HM (mI L xs) 62 0 = some (.inr (.int, 60, fun _ => zI 0)) := HM_a rfl ⟨by decide, by show (0 : Int) < 1; decide⟩
  have e63 : HM (mI L xs) 63 0 = some (.inr (.int, 60, fun _ => zI 0)) := HM_a rfl ⟨by decide, by show (0 : Int) < 1; decide⟩
  have e64 : HM (mI L xs) 64 0 = some (.inr (.int, 61, fun _ => zI 0)) := HM_a rfl ⟨by decide, by show (0 : Int) < 1; decide⟩
  have e65 : HM (mI L xs) 65 0 = some (.inr (.int, 60, fun _ => zI 0)) := HM_a rfl ⟨by decide, by show (0 : Int) < 1; decide⟩
  have e66 : HM (mI L xs) 66 0 = some (.inr (.int, 12, fun _ => zI 0)) := HM_a rfl ⟨by decide, by show (0 : Int) < 1; decide⟩
  have e102 : HM (mI L xs) 102 0 = some (.inr (.int, 24, fun _ => zI 0)) := HM_a rfl ⟨by decide, by show (0 : Int) < 1; decide⟩
  have e103 : HM (mI L xs) 103 0 = some (.inr (.int, 240, fun _ => zI 0)) := HM_a rfl ⟨by decide, by show (0 : Int) < 1; decide⟩
  have e104 : HM (mI L xs) 104 0 = some (.inr (.int, 240, fun _ => zI 0)) := HM_a rfl ⟨by decide, by show (0 : Int) < 1; decide⟩
  have e105 : HM (mI L xs) 105 0 = some (.inr (.int, 240, fun _ => zI 0)) := HM_a rfl ⟨by decide, by show (0 : Int) < 1; decide⟩
  have e107 : HM (mI L xs) 107 0 = some (.inr (.int, 12, fun _ => zI 0)) := HM_a rfl ⟨by decide, by show (0 : Int) < 1; decide⟩
  have e108 : HM (mI L xs) 108 0 = some (.inr (.int, 12, fun _ => zI 0)) := HM_a rfl ⟨by decide, by show (0 : Int) < 1; decide⟩
  have e109 : HM (mI L xs) 109 0 = some (.inr (.int, 72, fun _ => zI 0)) := HM_a rfl ⟨by decide, by show (0 : Int) < 1; decide⟩
  have e110 : HM (mI L xs) 110 0 = some (.inr (.boolean, 120, fun _ => zI 0)) := HM_a rfl ⟨by decide, by show (0 : Int) < 1; decide⟩
  have e111 : HM (mI L xs) 111 0 = some (.inr (.int, 120, fun _ => zI 0)) := HM_a rfl ⟨by decide, by show (0 : Int) < 1; decide⟩
  have e112 : HM (mI L xs) 112 0 = some (.inr (.int, 120, fun _ => zI 0)) := HM_a rfl ⟨by decide, by show (0 : Int) < 1; decide⟩
  have e114 : HM (mI L xs) 114 0 = some (.inr (.int, 6, fun _ => zI 0)) := HM_a rfl ⟨by decide, by show (0 : Int) < 1; decide⟩
  have e115 : HM (mI L xs) 115 0 = some (.inr (.int, 6, fun _ => zI 0)) := HM_a rfl ⟨by decide, by show (0 : Int) < 1; decide⟩
  have e116 : HM (mI L xs) 116 0 = some (.inr (.int, 6, fun _ => zI 0)) := HM_a rfl ⟨by decide, by show (0 : Int) < 1; decide⟩
  have e117 : HM (mI L xs) 117 0 = some (.inr (.int, 24, fun _ => zI 0)) := HM_a rfl ⟨by decide, by show (0 : Int) < 1; decide⟩
  have e118 : HM (mI L xs) 118 0 = some (.inr (.int, 6, fun _ => zI 0)) := HM_a rfl ⟨by decide, by show (0 : Int) < 1; decide⟩
  have e119 : HM (mI L xs) 119 0 = some (.inr (.int, 6, fun _ => zI 0)) := HM_a rfl ⟨by decide, by show (0 : Int) < 1; decide⟩
  have e120 : HM (mI L xs) 120 0 = some (.inr (.int, 72, fun _ => zI 0)) := HM_a rfl ⟨by decide, by show (0 : Int) < 1; decide⟩
  have e121 : HM (mI L xs) 121 0 = some (.inr (.int, 72, fun _ => zI 0)) := HM_a rfl ⟨by decide, by show (0 : Int) < 1; decide⟩
  have e122 : HM (mI L xs) 122 0 = some (.inr (.int, 6, fun _ => zI 0)) := HM_a rfl ⟨by decide, by show (0 : Int) < 1; decide⟩
  have e123 : HM (mI L xs) 123 0 = some (.inr (.long, 360, fun _ => zL 0)) := HM_a rfl ⟨by decide, by show (0 : Int) < 1; decide⟩
  have e124 : HM (mI L xs) 124 0 = some (.inr (.int, 360, fun _ => zI 0)) := HM_a rfl ⟨by decide, by show (0 : Int) < 1; decide⟩
  have e125 : HM (mI L xs) 125 0 = some (.inr (.int, 4, fun _ => zI 0)) := HM_a rfl ⟨by decide, by show (0 : Int) < 1; decide⟩
  have e127 : HM (mI L xs) 127 0 = some (.inr (.int, 40, fun _ => zI 0)) := HM_a rfl ⟨by decide, by show (0 : Int) < 1; decide⟩
  have e128 : HM (mI L xs) 128 0 = some (.inr (.int, 40, fun _ => zI 0)) := HM_a rfl ⟨by decide, by show (0 : Int) < 1; decide⟩
  have e129 : HM (mI L xs) 129 0 = some (.inr (.int, 40, fun _ => zI 0)) := HM_a rfl ⟨by decide, by show (0 : Int) < 1; decide⟩
  have e130 : HM (mI L xs) 130 0 = some (.inr (.int, 40, fun _ => zI 0)) := HM_a rfl ⟨by decide, by show (0 : Int) < 1; decide⟩
  have e131 : HM (mI L xs) 131 0 = some (.inr (.int, 40, fun _ => zI 0)) := HM_a rfl ⟨by decide, by show (0 : Int) < 1; decide⟩
  have e133 : HM (mI L xs) 133 0 = some (.inr (.int, 40, fun _ => zI 0)) := HM_a rfl ⟨by decide, by show (0 : Int) < 1; decide⟩
  have e134 : HM (mI L xs) 134 0 = some (.inr (.int, 40, fun _ => zI 0)) := HM_a rfl ⟨by decide, by show (0 : Int) < 1; decide⟩
  have e135 : HM (mI L xs) 135 0 = some (.inr (.int, 40, fun _ => zI 0)) := HM_a rfl ⟨by decide, by show (0 : Int) < 1; decide⟩
  have e136 : HM (mI L xs) 136 0 = some (.inr (.boolean, 400, fun _ => zI 0)) := HM_a rfl ⟨by decide, by show (0 : Int) < 1; decide⟩
  have e137 : HM (mI L xs) 137 0 = some (.inr (.int, 400, fun _ => zI 0)) := HM_a rfl ⟨by decide, by show (0 : Int) < 1; decide⟩
  have e138 : HM (mI L xs) 138 0 = some (.inr (.int, 400, fun _ => zI 0)) := HM_a rfl ⟨by decide, by show (0 : Int) < 1; decide⟩
  have e139 : HM (mI L xs) 139 0 = some (.inr (.int, 40, fun _ => zI 0)) := HM_a rfl ⟨by decide, by show (0 : Int) < 1; decide⟩
  have e140 : HM (mI L xs) 140 0 = some (.inr (.int, 40, fun _ => zI 0)) := HM_a rfl ⟨by decide, by show (0 : Int) < 1; decide⟩
  have e141 : HM (mI L xs) 141 0 = some (.inr (.int, 40, fun _ => zI 0)) := HM_a rfl ⟨by decide, by show (0 : Int) < 1; decide⟩
  have e142 : HM (mI L xs) 142 0 = some (.inr (.int, 40, fun _ => zI 0)) := HM_a rfl ⟨by decide, by show (0 : Int) < 1; decide⟩
  have e143 : HM (mI L xs) 143 0 = some (.inr (.int, 40, fun _ => zI 0)) := HM_a rfl ⟨by decide, by show (0 : Int) < 1; decide⟩
  have e144 : HM (mI L xs) 144 0 = some (.inr (.int, 12000, fun _ => zI 0)) := HM_a rfl ⟨by decide, by show (0 : Int) < 1; decide⟩
  have e145 : HM (mI L xs) 145 0 = some (.inr (.int, 2400, fun _ => zI 0)) := HM_a rfl ⟨by decide, by show (0 : Int) < 1; decide⟩
  have e151 : HM (mI L xs) 151 0 = some (.inr (.int, 300, fun _ => zI 0)) := HM_a rfl ⟨by decide, by show (0 : Int) < 1; decide⟩
  have e152 : HM (mI L xs) 152 0 = some (.inr (.int, 60, fun _ => zI 0)) := HM_a rfl ⟨by decide, by show (0 : Int) < 1; decide⟩
  have e153 : HM (mI L xs) 153 0 = some (.inr (.int, 60, fun _ => zI 0)) := HM_a rfl ⟨by decide, by show (0 : Int) < 1; decide⟩
  have e154 : HM (mI L xs) 154 0 = some (.inr (.int, 61, fun _ => zI 0)) := HM_a rfl ⟨by decide, by show (0 : Int) < 1; decide⟩
  have e155 : HM (mI L xs) 155 0 = some (.inr (.int, 61, fun _ => zI 0)) := HM_a rfl ⟨by decide, by show (0 : Int) < 1; decide⟩
  have e200 : HM (mI L xs) 200 0 = some (.inr (.long, 1, fun _ => zL 0)) := HM_a rfl ⟨by decide, by show (0 : Int) < 1; decide⟩
  have e3 : HM (mI L xs) 3 0 = some (oar 5 24) := by
    have e : HM (mI L xs) 3 0 = some (.inr (.object (zcn 5), 24, zoA 10 0)) := rfl
    rw [e, zoA_0]
  have e4 : HM (mI L xs) 4 0 = some (oar 3 12) := by
    have e : HM (mI L xs) 4 0 = some (.inr (.object (zcn 3), 12, zoA 20 0)) := rfl
    rw [e, zoA_0]
  have e5 : HM (mI L xs) 5 0 = some (oar 1 6) := by
    have e : HM (mI L xs) 5 0 = some (.inr (.object (zcn 1), 6, zoA 30 0)) := rfl
    rw [e, zoA_0]
  have e6 : HM (mI L xs) 6 0 = some (oar 4 40) := by
    have e : HM (mI L xs) 6 0 = some (.inr (.object (zcn 4), 40, zoA 40 0)) := rfl
    rw [e, zoA_0]
  have e2 : HM (mI L xs) 2 0 = some (.inl (8, obB)) := by
    have e : HM (mI L xs) 2 0 = some (.inl (8, zfl (mI L xs) 2 0)) := HM_o rfl ⟨by decide, by show (0 : Int) < 1; decide⟩
    rw [e]
    have e2 : zfl (mI L xs) 2 0 = obB := by
      funext s
      match s with
      | 0 => rfl
      | 1 => rfl
      | 2 => rfl
      | 3 => rfl
      | 4 => rfl
      | 5 => rfl
      | 6 => rfl
      | 7 => rfl
      | 8 => rfl
      | 9 => rfl
      | 10 => rfl
      | s + 11 =>
        unfold obB
        rw [zupN_n (by omega), zupN_n (by omega), zupN_n (by omega), zupN_n (by omega), zupN_n (by omega), zupN_n (by omega)]
        rfl
    rw [e2]
  have e8 : HM (mI L xs) 8 0 = some (.inl (6, obP)) := by
    have e : HM (mI L xs) 8 0 = some (.inl (6, zfl (mI L xs) 8 0)) := HM_o rfl ⟨by decide, by show (0 : Int) < 1; decide⟩
    rw [e]
    have e2 : zfl (mI L xs) 8 0 = obP := by
      funext s
      match s with
      | 0 => rfl
      | 1 => rfl
      | 2 => rfl
      | 3 => rfl
      | 4 => rfl
      | 5 => rfl
      | 6 => rfl
      | s + 7 =>
        unfold obP
        rw [zupN_n (by omega), zupN_n (by omega), zupN_n (by omega), zupN_n (by omega), zupN_n (by omega), zupN_n (by omega), zupN_n (by omega)]
        rfl
    rw [e2]
  have e50 : HM (mI L xs) 50 0 = some (.inl (7, zupN (zupN (zupN (zupN (zupN (zupN (zfd 7) 6 (zR 51 0)) 7 (zR 52 0)) 8 (zR 53 0)) 9 (zR 54 0)) 10 (zR 55 0)) 11 (zR 56 0))) := by
    have e : HM (mI L xs) 50 0 = some (.inl (7, zfl (mI L xs) 50 0)) := HM_o rfl ⟨by decide, by show (0 : Int) < 1; decide⟩
    rw [e]
    have e2 : zfl (mI L xs) 50 0 = zupN (zupN (zupN (zupN (zupN (zupN (zfd 7) 6 (zR 51 0)) 7 (zR 52 0)) 8 (zR 53 0)) 9 (zR 54 0)) 10 (zR 55 0)) 11 (zR 56 0) := by
      funext s
      match s with
      | 0 => rfl
      | 1 => rfl
      | 2 => rfl
      | 3 => rfl
      | 4 => rfl
      | 5 => rfl
      | 6 => rfl
      | 7 => rfl
      | 8 => rfl
      | 9 => rfl
      | 10 => rfl
      | 11 => rfl
      | s + 12 =>
        rw [zupN_n (by omega), zupN_n (by omega), zupN_n (by omega), zupN_n (by omega), zupN_n (by omega), zupN_n (by omega)]
        rfl
    rw [e2]
  have e100 : HM (mI L xs) 100 0 = some (.inl (9, obM)) := by
    have e : HM (mI L xs) 100 0 = some (.inl (9, zfl (mI L xs) 100 0)) := HM_o rfl ⟨by decide, by show (0 : Int) < 1; decide⟩
    rw [e]
    have e2 : zfl (mI L xs) 100 0 = obM := by
      funext s
      match s with
      | 0 => rfl
      | 1 => rfl
      | 2 => rfl
      | 3 => rfl
      | 4 => rfl
      | 5 => rfl
      | 6 => rfl
      | 7 => rfl
      | 8 => rfl
      | 9 => rfl
      | 10 => rfl
      | 11 => rfl
      | 12 => rfl
      | 13 => rfl
      | 14 => rfl
      | 15 => rfl
      | 16 => rfl
      | 17 => rfl
      | 18 => rfl
      | 19 => rfl
      | 20 => rfl
      | 21 => rfl
      | 22 => rfl
      | 23 => rfl
      | 24 => rfl
      | 25 => rfl
      | 26 => rfl
      | 27 => rfl
      | 28 => rfl
      | 29 => rfl
      | 30 => rfl
      | 31 => rfl
      | 32 => rfl
      | 33 => rfl
      | 34 => rfl
      | 35 => rfl
      | 36 => rfl
      | 37 => rfl
      | 38 => rfl
      | 39 => rfl
      | 40 => rfl
      | 41 => rfl
      | 42 => rfl
      | 43 => rfl
      | 44 => rfl
      | 45 => rfl
      | 46 => rfl
      | 47 => rfl
      | 48 => rfl
      | 49 => rfl
      | 50 => rfl
      | 51 => rfl
      | 52 => rfl
      | 53 => rfl
      | 54 => rfl
      | 55 => rfl
      | s + 56 =>
        unfold obM
        rw [zupN_n (by omega), zupN_n (by omega), zupN_n (by omega), zupN_n (by omega), zupN_n (by omega), zupN_n (by omega), zupN_n (by omega), zupN_n (by omega), zupN_n (by omega), zupN_n (by omega), zupN_n (by omega), zupN_n (by omega), zupN_n (by omega), zupN_n (by omega), zupN_n (by omega), zupN_n (by omega), zupN_n (by omega), zupN_n (by omega), zupN_n (by omega), zupN_n (by omega), zupN_n (by omega), zupN_n (by omega), zupN_n (by omega), zupN_n (by omega), zupN_n (by omega), zupN_n (by omega), zupN_n (by omega), zupN_n (by omega), zupN_n (by omega), zupN_n (by omega), zupN_n (by omega), zupN_n (by omega), zupN_n (by omega), zupN_n (by omega), zupN_n (by omega), zupN_n (by omega), zupN_n (by omega), zupN_n (by omega), zupN_n (by omega), zupN_n (by omega), zupN_n (by omega), zupN_n (by omega), zupN_n (by omega), zupN_n (by omega), zupN_n (by omega)]
        rfl
    rw [e2]
  have hz : ∀ k (p : Int), ¬ (k = 1 ∧ p = 0) → zSC L xs k p = none := fun k p hk => if_neg hk
  unfold HMd HBx HPr HS
  funext k p
  refine zset_pt e200 fun n200 => zset_pt e100 fun n100 => zset_pt e155 fun n155 => zset_pt e154 fun n154 => zset_pt e153 fun n153 => zset_pt e152 fun n152 => zset_pt e151 fun n151 => zset_pt e145 fun n145 => zset_pt e144 fun n144 => zset_pt e143 fun n143 => zset_pt e142 fun n142 => zset_pt e141 fun n141 => zset_pt e140 fun n140 => zset_pt e139 fun n139 => zset_pt e138 fun n138 => zset_pt e137 fun n137 => zset_pt e136 fun n136 => zset_pt e135 fun n135 => zset_pt e134 fun n134 => zset_pt e133 fun n133 => zset_pt e131 fun n131 => zset_pt e130 fun n130 => zset_pt e129 fun n129 => zset_pt e128 fun n128 => zset_pt e127 fun n127 => zset_pt e125 fun n125 => zset_pt e124 fun n124 => zset_pt e123 fun n123 => zset_pt e122 fun n122 => zset_pt e121 fun n121 => zset_pt e120 fun n120 => zset_pt e119 fun n119 => zset_pt e118 fun n118 => zset_pt e117 fun n117 => zset_pt e116 fun n116 => zset_pt e115 fun n115 => zset_pt e114 fun n114 => zset_pt e112 fun n112 => zset_pt e111 fun n111 => zset_pt e110 fun n110 => zset_pt e109 fun n109 => zset_pt e108 fun n108 => zset_pt e107 fun n107 => zset_pt e105 fun n105 => zset_pt e104 fun n104 => zset_pt e103 fun n103 => zset_pt e102 fun n102 => zset_pt e2 fun n2 => zset_pt e8 fun n8 => zset_pt e66 fun n66 => zset_pt e65 fun n65 => zset_pt e64 fun n64 => zset_pt e63 fun n63 => zset_pt e62 fun n62 => zset_pt e61 fun n61 => zset_pt e56 fun n56 => zset_pt e55 fun n55 => zset_pt e54 fun n54 => zset_pt e53 fun n53 => zset_pt e52 fun n52 => zset_pt e51 fun n51 => zset_pt e50 fun n50 => (zset_ne n8).trans ((zset_ne n2).trans (zset_pt e7 fun n7 => zset_pt e6 fun n6 => zset_pt e5 fun n5 => zset_pt e4 fun n4 => zset_pt e3 fun n3 => ?_))
  by_cases h1 : k = 1 ∧ p = 0
  · obtain ⟨rfl, rfl⟩ := h1
    rfl
  · rw [hz k p h1]
    symm
    unfold HM
    split
    · rename_i t m c hc
      refine if_neg fun z => ?_
      obtain ⟨rfl, h3⟩ := zbdI z.1 z.2
      have hm := (show ∀ x ∈ zKA, (x.2.2.2 = 0 ∨ x.2.2.2 = 50) → x.1 ∈ [7, 51, 52, 53, 54, 55, 56, 61, 62, 63, 64, 65, 66, 102, 103, 104, 105, 107, 108, 109, 110, 111, 112, 114, 115, 116, 117, 118, 119, 120, 121, 122, 123, 124, 125, 127, 128, 129, 130, 131, 133, 134, 135, 136, 137, 138, 139, 140, 141, 142, 143, 144, 145, 151, 152, 153, 154, 155, 200] by decide) _ (zkl_mem hc) h3
      simp only [List.mem_cons, List.not_mem_nil, or_false] at hm
      omega
    · split
      · rename_i c m hc
        refine if_neg fun z => ?_
        obtain ⟨rfl, h3⟩ := zbdI z.1 z.2
        have hm := (show ∀ x ∈ zKO, (x.2.2 = 0 ∨ x.2.2 = 50) → x.1 ∈ [2, 8, 50, 100] by decide) _ (zkl_mem hc) h3
        simp only [List.mem_cons, List.not_mem_nil, or_false] at hm
        omega
      · split
        · rename_i c m e hc
          refine if_neg fun z => ?_
          have hm := (show ∀ x ∈ zKB, x.1 ∈ [3, 4, 5, 6] by decide) _ (zkl_mem hc)
          simp only [List.mem_cons, List.not_mem_nil, or_false] at hm
          omega
        · split
          · exact if_neg fun z => h1 ⟨rfl, by omega⟩
          · exact if_neg fun z => by have h2 : p < 0 := z.2; omega
          · rfl
end ZDK
