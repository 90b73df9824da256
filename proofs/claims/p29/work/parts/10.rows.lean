/-! ===== every row of every method ===== -/
set_option maxRecDepth 100000 in
theorem zk_0 : zokM 0 := ⟨List.all_eq_true.mp (show (zl_0.all (zokI 0)) = true by decide +kernel), by decide +kernel, trivial⟩
set_option maxRecDepth 100000 in
theorem zk_1 : zokM 1 := ⟨List.all_eq_true.mp (show (zl_1.all (zokI 1)) = true by decide +kernel), by decide +kernel, trivial⟩
set_option maxRecDepth 100000 in
theorem zk_2 : zokM 2 := ⟨List.all_eq_true.mp (show (zl_2.all (zokI 2)) = true by decide +kernel), by decide +kernel, trivial⟩
set_option maxRecDepth 100000 in
theorem zk_3 : zokM 3 := ⟨List.all_eq_true.mp (show (zl_3.all (zokI 3)) = true by decide +kernel), by decide +kernel, trivial⟩
set_option maxRecDepth 100000 in
theorem zk_4 : zokM 4 := ⟨List.all_eq_true.mp (show (zl_4.all (zokI 4)) = true by decide +kernel), by decide +kernel, trivial⟩
set_option maxRecDepth 100000 in
theorem zk_5 : zokM 5 := ⟨List.all_eq_true.mp (show (zl_5.all (zokI 5)) = true by decide +kernel), by decide +kernel, trivial⟩
set_option maxRecDepth 100000 in
theorem zk_6 : zokM 6 := ⟨List.all_eq_true.mp (show (zl_6.all (zokI 6)) = true by decide +kernel), by decide +kernel, trivial⟩
set_option maxRecDepth 100000 in
theorem zk_7 : zokM 7 := ⟨List.all_eq_true.mp (show (zl_7.all (zokI 7)) = true by decide +kernel), by decide +kernel, trivial⟩
set_option maxRecDepth 100000 in
theorem zk_8 : zokM 8 := ⟨List.all_eq_true.mp (show (zl_8.all (zokI 8)) = true by decide +kernel), by decide +kernel, trivial⟩
set_option maxRecDepth 100000 in
theorem zk_9 : zokM 9 := ⟨List.all_eq_true.mp (show (zl_9.all (zokI 9)) = true by decide +kernel), by decide +kernel, trivial⟩
set_option maxRecDepth 100000 in
theorem zk_10 : zokM 10 := ⟨List.all_eq_true.mp (show (zl_10.all (zokI 10)) = true by decide +kernel), by decide +kernel, trivial⟩
set_option maxRecDepth 100000 in
theorem zk_11 : zokM 11 := ⟨List.all_eq_true.mp (show (zl_11.all (zokI 11)) = true by decide +kernel), by decide +kernel, trivial⟩
set_option maxRecDepth 100000 in
theorem zk_12 : zokM 12 := ⟨List.all_eq_true.mp (show (zl_12.all (zokI 12)) = true by decide +kernel), by decide +kernel, trivial⟩
set_option maxRecDepth 100000 in
theorem zk_13 : zokM 13 := ⟨List.all_eq_true.mp (show (zl_13.all (zokI 13)) = true by decide +kernel), by decide +kernel, trivial⟩
set_option maxRecDepth 100000 in
theorem zk_14 : zokM 14 := ⟨List.all_eq_true.mp (show (zl_14.all (zokI 14)) = true by decide +kernel), by decide +kernel, trivial⟩
set_option maxRecDepth 100000 in
theorem zk_15 : zokM 15 := ⟨List.all_eq_true.mp (show (zl_15.all (zokI 15)) = true by decide +kernel), by decide +kernel, trivial⟩
set_option maxRecDepth 100000 in
theorem zk_16 : zokM 16 := ⟨List.all_eq_true.mp (show (zl_16.all (zokI 16)) = true by decide +kernel), by decide +kernel, trivial⟩
set_option maxRecDepth 100000 in
theorem zk_17 : zokM 17 := ⟨List.all_eq_true.mp (show (zl_17.all (zokI 17)) = true by decide +kernel), by decide +kernel, trivial⟩
set_option maxRecDepth 100000 in
theorem zk_18 : zokM 18 := ⟨List.all_eq_true.mp (show (zl_18.all (zokI 18)) = true by decide +kernel), by decide +kernel, trivial⟩
set_option maxRecDepth 100000 in
theorem zk_19 : zokM 19 := ⟨List.all_eq_true.mp (show (zl_19.all (zokI 19)) = true by decide +kernel), by decide +kernel, trivial⟩
set_option maxRecDepth 100000 in
theorem zk_20 : zokM 20 := ⟨List.all_eq_true.mp (show (zl_20.all (zokI 20)) = true by decide +kernel), by decide +kernel, trivial⟩
set_option maxRecDepth 100000 in
theorem zk_21 : zokM 21 := ⟨List.all_eq_true.mp (show (zl_21.all (zokI 21)) = true by decide +kernel), by decide +kernel, trivial⟩
set_option maxRecDepth 100000 in
theorem zk_22 : zokM 22 := ⟨List.all_eq_true.mp (show (zl_22.all (zokI 22)) = true by decide +kernel), by decide +kernel, trivial⟩
set_option maxRecDepth 100000 in
theorem zk_23 : zokM 23 := ⟨List.all_eq_true.mp (show (zl_23.all (zokI 23)) = true by decide +kernel), by decide +kernel, trivial⟩
set_option maxRecDepth 100000 in
theorem zk_24 : zokM 24 := ⟨List.all_eq_true.mp (show (zl_24.all (zokI 24)) = true by decide +kernel), by decide +kernel, trivial⟩
set_option maxRecDepth 100000 in
theorem zk_25 : zokM 25 := ⟨List.all_eq_true.mp (show (zl_25.all (zokI 25)) = true by decide +kernel), by decide +kernel, trivial⟩
set_option maxRecDepth 100000 in
theorem zk_26 : zokM 26 := ⟨List.all_eq_true.mp (show (zl_26.all (zokI 26)) = true by decide +kernel), by decide +kernel, trivial⟩
set_option maxRecDepth 100000 in
theorem zk_27 : zokM 27 := ⟨List.all_eq_true.mp (show (zl_27.all (zokI 27)) = true by decide +kernel), by decide +kernel, trivial⟩
set_option maxRecDepth 100000 in
theorem zk_28 : zokM 28 := ⟨List.all_eq_true.mp (show (zl_28.all (zokI 28)) = true by decide +kernel), by decide +kernel, trivial⟩
set_option maxRecDepth 100000 in
theorem zk_29 : zokM 29 := ⟨List.all_eq_true.mp (show (zl_29.all (zokI 29)) = true by decide +kernel), by decide +kernel, trivial⟩
set_option maxRecDepth 100000 in
theorem zk_30 : zokM 30 := ⟨List.all_eq_true.mp (show (zl_30.all (zokI 30)) = true by decide +kernel), by decide +kernel, trivial⟩
set_option maxRecDepth 100000 in
theorem zk_31 : zokM 31 := ⟨List.all_eq_true.mp (show (zl_31.all (zokI 31)) = true by decide +kernel), by decide +kernel, trivial⟩
set_option maxRecDepth 100000 in
theorem zk_32 : zokM 32 := ⟨List.all_eq_true.mp (show (zl_32.all (zokI 32)) = true by decide +kernel), by decide +kernel, trivial⟩
set_option maxRecDepth 100000 in
theorem zk_33 : zokM 33 := ⟨List.all_eq_true.mp (show (zl_33.all (zokI 33)) = true by decide +kernel), by decide +kernel, trivial⟩
set_option maxRecDepth 100000 in
theorem zk_34 : zokM 34 := ⟨List.all_eq_true.mp (show (zl_34.all (zokI 34)) = true by decide +kernel), by decide +kernel, trivial⟩
set_option maxRecDepth 100000 in
theorem zk_35 : zokM 35 := ⟨List.all_eq_true.mp (show (zl_35.all (zokI 35)) = true by decide +kernel), by decide +kernel, trivial⟩
set_option maxRecDepth 100000 in
theorem zk_36 : zokM 36 := ⟨List.all_eq_true.mp (show (zl_36.all (zokI 36)) = true by decide +kernel), by decide +kernel, trivial⟩
set_option maxRecDepth 100000 in
theorem zk_37 : zokM 37 := ⟨List.all_eq_true.mp (show (zl_37.all (zokI 37)) = true by decide +kernel), by decide +kernel, trivial⟩
set_option maxRecDepth 100000 in
theorem zk_38 : zokM 38 := ⟨List.all_eq_true.mp (show (zl_38.all (zokI 38)) = true by decide +kernel), by decide +kernel, trivial⟩
set_option maxRecDepth 100000 in
theorem zk_39 : zokM 39 := ⟨List.all_eq_true.mp (show (zl_39.all (zokI 39)) = true by decide +kernel), by decide +kernel, trivial⟩
set_option maxRecDepth 100000 in
theorem zk_40 : zokM 40 := ⟨List.all_eq_true.mp (show (zl_40.all (zokI 40)) = true by decide +kernel), by decide +kernel, trivial⟩
set_option maxRecDepth 100000 in
theorem zk_41 : zokM 41 := ⟨List.all_eq_true.mp (show (zl_41.all (zokI 41)) = true by decide +kernel), by decide +kernel, trivial⟩
set_option maxRecDepth 100000 in
theorem zk_42 : zokM 42 := ⟨List.all_eq_true.mp (show (zl_42.all (zokI 42)) = true by decide +kernel), by decide +kernel, trivial⟩
set_option maxRecDepth 100000 in
theorem zk_43 : zokM 43 := ⟨List.all_eq_true.mp (show (zl_43.all (zokI 43)) = true by decide +kernel), by decide +kernel, trivial⟩
set_option maxRecDepth 100000 in
theorem zk_44 : zokM 44 := ⟨List.all_eq_true.mp (show (zl_44.all (zokI 44)) = true by decide +kernel), by decide +kernel, trivial⟩
set_option maxRecDepth 100000 in
theorem zk_45 : zokM 45 := ⟨List.all_eq_true.mp (show (zl_45.all (zokI 45)) = true by decide +kernel), by decide +kernel, trivial⟩
set_option maxRecDepth 100000 in
theorem zk_46 : zokM 46 := ⟨List.all_eq_true.mp (show (zl_46.all (zokI 46)) = true by decide +kernel), by decide +kernel, trivial⟩
set_option maxRecDepth 100000 in
theorem zk_47 : zokM 47 := ⟨List.all_eq_true.mp (show (zl_47.all (zokI 47)) = true by decide +kernel), by decide +kernel, trivial⟩
set_option maxRecDepth 100000 in
theorem zk_48 : zokM 48 := ⟨List.all_eq_true.mp (show (zl_48.all (zokI 48)) = true by decide +kernel), by decide +kernel, trivial⟩
set_option maxRecDepth 100000 in
theorem zk_49 : zokM 49 := ⟨List.all_eq_true.mp (show (zl_49.all (zokI 49)) = true by decide +kernel), by decide +kernel, trivial⟩
set_option maxRecDepth 100000 in
theorem zk_50 : zokM 50 := ⟨List.all_eq_true.mp (show (zl_50.all (zokI 50)) = true by decide +kernel), by decide +kernel, trivial⟩
set_option maxRecDepth 100000 in
theorem zk_51 : zokM 51 := ⟨List.all_eq_true.mp (show (zl_51.all (zokI 51)) = true by decide +kernel), by decide +kernel, trivial⟩
set_option maxRecDepth 100000 in
theorem zk_52 : zokM 52 := ⟨List.all_eq_true.mp (show (zl_52.all (zokI 52)) = true by decide +kernel), by decide +kernel, trivial⟩
set_option maxRecDepth 100000 in
theorem zk_53 : zokM 53 := ⟨List.all_eq_true.mp (show (zl_53.all (zokI 53)) = true by decide +kernel), by decide +kernel, trivial⟩
set_option maxRecDepth 100000 in
theorem zk_54 : zokM 54 := ⟨List.all_eq_true.mp (show (zl_54.all (zokI 54)) = true by decide +kernel), by decide +kernel, trivial⟩
set_option maxRecDepth 100000 in
theorem zk_55 : zokM 55 := ⟨List.all_eq_true.mp (show (zl_55.all (zokI 55)) = true by decide +kernel), by decide +kernel, trivial⟩
set_option maxRecDepth 100000 in
theorem zk_56 : zokM 56 := ⟨List.all_eq_true.mp (show (zl_56.all (zokI 56)) = true by decide +kernel), by decide +kernel, trivial⟩
set_option maxRecDepth 100000 in
theorem zk_57 : zokM 57 := ⟨List.all_eq_true.mp (show (zl_57.all (zokI 57)) = true by decide +kernel), by decide +kernel, trivial⟩
set_option maxRecDepth 100000 in
theorem zk_58 : zokM 58 := ⟨List.all_eq_true.mp (show (zl_58.all (zokI 58)) = true by decide +kernel), by decide +kernel, trivial⟩
set_option maxRecDepth 100000 in
theorem zk_59 : zokM 59 := ⟨List.all_eq_true.mp (show (zl_59.all (zokI 59)) = true by decide +kernel), by decide +kernel, trivial⟩
set_option maxRecDepth 100000 in
theorem zk_60 : zokM 60 := ⟨List.all_eq_true.mp (show (zl_60.all (zokI 60)) = true by decide +kernel), by decide +kernel, trivial⟩
set_option maxRecDepth 100000 in
theorem zk_61 : zokM 61 := ⟨List.all_eq_true.mp (show (zl_61.all (zokI 61)) = true by decide +kernel), by decide +kernel, trivial⟩
set_option maxRecDepth 100000 in
theorem zk_62 : zokM 62 := ⟨List.all_eq_true.mp (show (zl_62.all (zokI 62)) = true by decide +kernel), by decide +kernel, trivial⟩
set_option maxRecDepth 100000 in
theorem zk_63 : zokM 63 := ⟨List.all_eq_true.mp (show (zl_63.all (zokI 63)) = true by decide +kernel), by decide +kernel, trivial⟩
set_option maxRecDepth 100000 in
theorem zk_64 : zokM 64 := ⟨List.all_eq_true.mp (show (zl_64.all (zokI 64)) = true by decide +kernel), by decide +kernel, trivial⟩
set_option maxRecDepth 100000 in
theorem zk_65 : zokM 65 := ⟨List.all_eq_true.mp (show (zl_65.all (zokI 65)) = true by decide +kernel), by decide +kernel, trivial⟩
set_option maxRecDepth 100000 in
theorem zk_66 : zokM 66 := ⟨List.all_eq_true.mp (show (zl_66.all (zokI 66)) = true by decide +kernel), by decide +kernel, trivial⟩
set_option maxRecDepth 100000 in
theorem zk_67 : zokM 67 := ⟨List.all_eq_true.mp (show (zl_67.all (zokI 67)) = true by decide +kernel), by decide +kernel, trivial⟩
set_option maxRecDepth 100000 in
theorem zk_68 : zokM 68 := ⟨List.all_eq_true.mp (show (zl_68.all (zokI 68)) = true by decide +kernel), by decide +kernel, trivial⟩
set_option maxRecDepth 100000 in
theorem zk_69 : zokM 69 := ⟨List.all_eq_true.mp (show (zl_69.all (zokI 69)) = true by decide +kernel), by decide +kernel, trivial⟩
set_option maxRecDepth 100000 in
theorem zk_70 : zokM 70 := ⟨List.all_eq_true.mp (show (zl_70.all (zokI 70)) = true by decide +kernel), by decide +kernel, trivial⟩
set_option maxRecDepth 100000 in
theorem zk_71 : zokM 71 := ⟨List.all_eq_true.mp (show (zl_71.all (zokI 71)) = true by decide +kernel), by decide +kernel, trivial⟩
set_option maxRecDepth 100000 in
theorem zk_72 : zokM 72 := ⟨List.all_eq_true.mp (show (zl_72.all (zokI 72)) = true by decide +kernel), by decide +kernel, trivial⟩
set_option maxRecDepth 100000 in
theorem zk_73 : zokM 73 := ⟨List.all_eq_true.mp (show (zl_73.all (zokI 73)) = true by decide +kernel), by decide +kernel, trivial⟩
set_option maxRecDepth 100000 in
theorem zk_74 : zokM 74 := ⟨List.all_eq_true.mp (show (zl_74.all (zokI 74)) = true by decide +kernel), by decide +kernel, trivial⟩
set_option maxRecDepth 100000 in
theorem zk_75 : zokM 75 := ⟨List.all_eq_true.mp (show (zl_75.all (zokI 75)) = true by decide +kernel), by decide +kernel, trivial⟩
set_option maxRecDepth 100000 in
theorem zk_76 : zokM 76 := ⟨List.all_eq_true.mp (show (zl_76.all (zokI 76)) = true by decide +kernel), by decide +kernel, trivial⟩
set_option maxRecDepth 100000 in
theorem zk_77 : zokM 77 := ⟨List.all_eq_true.mp (show (zl_77.all (zokI 77)) = true by decide +kernel), by decide +kernel, trivial⟩
set_option maxRecDepth 100000 in
theorem zk_78 : zokM 78 := ⟨List.all_eq_true.mp (show (zl_78.all (zokI 78)) = true by decide +kernel), by decide +kernel, trivial⟩
set_option maxRecDepth 100000 in
theorem zk_79 : zokM 79 := ⟨List.all_eq_true.mp (show (zl_79.all (zokI 79)) = true by decide +kernel), by decide +kernel, trivial⟩
set_option maxRecDepth 100000 in
theorem zk_80 : zokM 80 := ⟨List.all_eq_true.mp (show (zl_80.all (zokI 80)) = true by decide +kernel), by decide +kernel, trivial⟩
set_option maxRecDepth 100000 in
theorem zk_81 : zokM 81 := ⟨List.all_eq_true.mp (show (zl_81.all (zokI 81)) = true by decide +kernel), by decide +kernel, trivial⟩
set_option maxRecDepth 100000 in
theorem zk_82 : zokM 82 := ⟨List.all_eq_true.mp (show (zl_82.all (zokI 82)) = true by decide +kernel), by decide +kernel, trivial⟩
set_option maxRecDepth 100000 in
theorem zk_83 : zokM 83 := ⟨List.all_eq_true.mp (show (zl_83.all (zokI 83)) = true by decide +kernel), by decide +kernel, trivial⟩
set_option maxRecDepth 100000 in
theorem zk_84 : zokM 84 := ⟨List.all_eq_true.mp (show (zl_84.all (zokI 84)) = true by decide +kernel), by decide +kernel, trivial⟩
set_option maxRecDepth 100000 in
theorem zk_85 : zokM 85 := ⟨List.all_eq_true.mp (show (zl_85.all (zokI 85)) = true by decide +kernel), by decide +kernel, trivial⟩
set_option maxRecDepth 100000 in
theorem zk_86 : zokM 86 := ⟨List.all_eq_true.mp (show (zl_86.all (zokI 86)) = true by decide +kernel), by decide +kernel, trivial⟩
set_option maxRecDepth 100000 in
theorem zk_87 : zokM 87 := ⟨List.all_eq_true.mp (show (zl_87.all (zokI 87)) = true by decide +kernel), by decide +kernel, trivial⟩
set_option maxRecDepth 100000 in
theorem zk_88 : zokM 88 := ⟨List.all_eq_true.mp (show (zl_88.all (zokI 88)) = true by decide +kernel), by decide +kernel, trivial⟩
set_option maxRecDepth 100000 in
theorem zk_89 : zokM 89 := ⟨List.all_eq_true.mp (show (zl_89.all (zokI 89)) = true by decide +kernel), by decide +kernel, trivial⟩
set_option maxRecDepth 100000 in
theorem zk_90 : zokM 90 := ⟨List.all_eq_true.mp (show (zl_90.all (zokI 90)) = true by decide +kernel), by decide +kernel, trivial⟩
set_option maxRecDepth 100000 in
theorem zk_91 : zokM 91 := ⟨List.all_eq_true.mp (show (zl_91.all (zokI 91)) = true by decide +kernel), by decide +kernel, trivial⟩
set_option maxRecDepth 100000 in
theorem zk_92 : zokM 92 := ⟨List.all_eq_true.mp (show (zl_92.all (zokI 92)) = true by decide +kernel), by decide +kernel, ⟨rfl, rfl, rfl, by decide, by decide, (tbi2 303 (by decide +kernel)), ⟨rfl, rfl, rfl, by decide, by decide, (tbi2 304 (by decide +kernel)), ⟨rfl, rfl, rfl, by decide, by decide, (tbi2 305 (by decide +kernel)), trivial⟩⟩⟩⟩
set_option maxRecDepth 100000 in
theorem zk_93 : zokM 93 := ⟨List.all_eq_true.mp (show (zl_93.all (zokI 93)) = true by decide +kernel), by decide +kernel, trivial⟩
set_option maxRecDepth 100000 in
theorem zk_94 : zokM 94 := ⟨List.all_eq_true.mp (show (zl_94.all (zokI 94)) = true by decide +kernel), by decide +kernel, trivial⟩
set_option maxRecDepth 100000 in
theorem zk_95 : zokM 95 := ⟨List.all_eq_true.mp (show (zl_95.all (zokI 95)) = true by decide +kernel), by decide +kernel, trivial⟩
set_option maxRecDepth 100000 in
theorem zk_96 : zokM 96 := ⟨List.all_eq_true.mp (show (zl_96.all (zokI 96)) = true by decide +kernel), by decide +kernel, trivial⟩
set_option maxRecDepth 100000 in
theorem zk_97 : zokM 97 := ⟨List.all_eq_true.mp (show (zl_97.all (zokI 97)) = true by decide +kernel), by decide +kernel, trivial⟩
set_option maxRecDepth 100000 in
theorem zk_98 : zokM 98 := ⟨List.all_eq_true.mp (show (zl_98.all (zokI 98)) = true by decide +kernel), by decide +kernel, trivial⟩
set_option maxRecDepth 100000 in
theorem zk_99 : zokM 99 := ⟨List.all_eq_true.mp (show (zl_99.all (zokI 99)) = true by decide +kernel), by decide +kernel, trivial⟩
set_option maxRecDepth 100000 in
theorem zk_100_0 : ∀ x ∈ zl_100_0, zokI 100 x = true := List.all_eq_true.mp (show (zl_100_0.all (zokI 100)) = true by decide +kernel)
set_option maxRecDepth 100000 in
theorem zk_100_1 : ∀ x ∈ zl_100_1, zokI 100 x = true := List.all_eq_true.mp (show (zl_100_1.all (zokI 100)) = true by decide +kernel)
set_option maxRecDepth 100000 in
theorem zk_100_2 : ∀ x ∈ zl_100_2, zokI 100 x = true := List.all_eq_true.mp (show (zl_100_2.all (zokI 100)) = true by decide +kernel)
theorem zk_100 : zokM 100 := ⟨show ∀ x ∈ zl_100, zokI 100 x = true from List.forall_mem_append.mpr ⟨zk_100_0, List.forall_mem_append.mpr ⟨zk_100_1, zk_100_2⟩⟩, by decide +kernel, trivial⟩
set_option maxRecDepth 100000 in
theorem zk_101 : zokM 101 := ⟨List.all_eq_true.mp (show (zl_101.all (zokI 101)) = true by decide +kernel), by decide +kernel, trivial⟩
set_option maxRecDepth 100000 in
theorem zk_102 : zokM 102 := ⟨List.all_eq_true.mp (show (zl_102.all (zokI 102)) = true by decide +kernel), by decide +kernel, trivial⟩
set_option maxRecDepth 100000 in
theorem zk_103 : zokM 103 := ⟨List.all_eq_true.mp (show (zl_103.all (zokI 103)) = true by decide +kernel), by decide +kernel, trivial⟩
set_option maxRecDepth 100000 in
theorem zk_104 : zokM 104 := ⟨List.all_eq_true.mp (show (zl_104.all (zokI 104)) = true by decide +kernel), by decide +kernel, trivial⟩
set_option maxRecDepth 100000 in
theorem zk_105_0 : ∀ x ∈ zl_105_0, zokI 105 x = true := List.all_eq_true.mp (show (zl_105_0.all (zokI 105)) = true by decide +kernel)
set_option maxRecDepth 100000 in
theorem zk_105_1 : ∀ x ∈ zl_105_1, zokI 105 x = true := List.all_eq_true.mp (show (zl_105_1.all (zokI 105)) = true by decide +kernel)
set_option maxRecDepth 100000 in
theorem zk_105_2 : ∀ x ∈ zl_105_2, zokI 105 x = true := List.all_eq_true.mp (show (zl_105_2.all (zokI 105)) = true by decide +kernel)
set_option maxRecDepth 100000 in
theorem zk_105_3 : ∀ x ∈ zl_105_3, zokI 105 x = true := List.all_eq_true.mp (show (zl_105_3.all (zokI 105)) = true by decide +kernel)
theorem zk_105 : zokM 105 := ⟨show ∀ x ∈ zl_105, zokI 105 x = true from List.forall_mem_append.mpr ⟨zk_105_0, List.forall_mem_append.mpr ⟨zk_105_1, List.forall_mem_append.mpr ⟨zk_105_2, zk_105_3⟩⟩⟩, by decide +kernel, trivial⟩
set_option maxRecDepth 100000 in
theorem zk_106_0 : ∀ x ∈ zl_106_0, zokI 106 x = true := List.all_eq_true.mp (show (zl_106_0.all (zokI 106)) = true by decide +kernel)
set_option maxRecDepth 100000 in
theorem zk_106_1 : ∀ x ∈ zl_106_1, zokI 106 x = true := List.all_eq_true.mp (show (zl_106_1.all (zokI 106)) = true by decide +kernel)
set_option maxRecDepth 100000 in
theorem zk_106_2 : ∀ x ∈ zl_106_2, zokI 106 x = true := List.all_eq_true.mp (show (zl_106_2.all (zokI 106)) = true by decide +kernel)
set_option maxRecDepth 100000 in
theorem zk_106_3 : ∀ x ∈ zl_106_3, zokI 106 x = true := List.all_eq_true.mp (show (zl_106_3.all (zokI 106)) = true by decide +kernel)
theorem zk_106 : zokM 106 := ⟨show ∀ x ∈ zl_106, zokI 106 x = true from List.forall_mem_append.mpr ⟨zk_106_0, List.forall_mem_append.mpr ⟨zk_106_1, List.forall_mem_append.mpr ⟨zk_106_2, zk_106_3⟩⟩⟩, by decide +kernel, trivial⟩
set_option maxRecDepth 100000 in
theorem zk_107 : zokM 107 := ⟨List.all_eq_true.mp (show (zl_107.all (zokI 107)) = true by decide +kernel), by decide +kernel, trivial⟩
set_option maxRecDepth 100000 in
theorem zk_108_0 : ∀ x ∈ zl_108_0, zokI 108 x = true := List.all_eq_true.mp (show (zl_108_0.all (zokI 108)) = true by decide +kernel)
set_option maxRecDepth 100000 in
theorem zk_108_1 : ∀ x ∈ zl_108_1, zokI 108 x = true := List.all_eq_true.mp (show (zl_108_1.all (zokI 108)) = true by decide +kernel)
set_option maxRecDepth 100000 in
theorem zk_108_2 : ∀ x ∈ zl_108_2, zokI 108 x = true := List.all_eq_true.mp (show (zl_108_2.all (zokI 108)) = true by decide +kernel)
set_option maxRecDepth 100000 in
theorem zk_108_3 : ∀ x ∈ zl_108_3, zokI 108 x = true := List.all_eq_true.mp (show (zl_108_3.all (zokI 108)) = true by decide +kernel)
set_option maxRecDepth 100000 in
theorem zk_108_4 : ∀ x ∈ zl_108_4, zokI 108 x = true := List.all_eq_true.mp (show (zl_108_4.all (zokI 108)) = true by decide +kernel)
theorem zk_108 : zokM 108 := ⟨show ∀ x ∈ zl_108, zokI 108 x = true from List.forall_mem_append.mpr ⟨zk_108_0, List.forall_mem_append.mpr ⟨zk_108_1, List.forall_mem_append.mpr ⟨zk_108_2, List.forall_mem_append.mpr ⟨zk_108_3, zk_108_4⟩⟩⟩⟩, by decide +kernel, trivial⟩
set_option maxRecDepth 100000 in
theorem zk_109 : zokM 109 := ⟨List.all_eq_true.mp (show (zl_109.all (zokI 109)) = true by decide +kernel), by decide +kernel, ⟨rfl, rfl, rfl, by decide, by decide, (tbi2 304 (by decide +kernel)), ⟨rfl, rfl, rfl, by decide, by decide, (tbi2 305 (by decide +kernel)), trivial⟩⟩⟩
set_option maxRecDepth 100000 in
theorem zk_110_0 : ∀ x ∈ zl_110_0, zokI 110 x = true := List.all_eq_true.mp (show (zl_110_0.all (zokI 110)) = true by decide +kernel)
set_option maxRecDepth 100000 in
theorem zk_110_1 : ∀ x ∈ zl_110_1, zokI 110 x = true := List.all_eq_true.mp (show (zl_110_1.all (zokI 110)) = true by decide +kernel)
set_option maxRecDepth 100000 in
theorem zk_110_2 : ∀ x ∈ zl_110_2, zokI 110 x = true := List.all_eq_true.mp (show (zl_110_2.all (zokI 110)) = true by decide +kernel)
set_option maxRecDepth 100000 in
theorem zk_110_3 : ∀ x ∈ zl_110_3, zokI 110 x = true := List.all_eq_true.mp (show (zl_110_3.all (zokI 110)) = true by decide +kernel)
set_option maxRecDepth 100000 in
theorem zk_110_4 : ∀ x ∈ zl_110_4, zokI 110 x = true := List.all_eq_true.mp (show (zl_110_4.all (zokI 110)) = true by decide +kernel)
theorem zk_110 : zokM 110 := ⟨show ∀ x ∈ zl_110, zokI 110 x = true from List.forall_mem_append.mpr ⟨zk_110_0, List.forall_mem_append.mpr ⟨zk_110_1, List.forall_mem_append.mpr ⟨zk_110_2, List.forall_mem_append.mpr ⟨zk_110_3, zk_110_4⟩⟩⟩⟩, by decide +kernel, trivial⟩
set_option maxRecDepth 100000 in
theorem zk_111_0 : ∀ x ∈ zl_111_0, zokI 111 x = true := List.all_eq_true.mp (show (zl_111_0.all (zokI 111)) = true by decide +kernel)
set_option maxRecDepth 100000 in
theorem zk_111_1 : ∀ x ∈ zl_111_1, zokI 111 x = true := List.all_eq_true.mp (show (zl_111_1.all (zokI 111)) = true by decide +kernel)
set_option maxRecDepth 100000 in
theorem zk_111_2 : ∀ x ∈ zl_111_2, zokI 111 x = true := List.all_eq_true.mp (show (zl_111_2.all (zokI 111)) = true by decide +kernel)
set_option maxRecDepth 100000 in
theorem zk_111_3 : ∀ x ∈ zl_111_3, zokI 111 x = true := List.all_eq_true.mp (show (zl_111_3.all (zokI 111)) = true by decide +kernel)
set_option maxRecDepth 100000 in
theorem zk_111_4 : ∀ x ∈ zl_111_4, zokI 111 x = true := List.all_eq_true.mp (show (zl_111_4.all (zokI 111)) = true by decide +kernel)
set_option maxRecDepth 100000 in
theorem zk_111_5 : ∀ x ∈ zl_111_5, zokI 111 x = true := List.all_eq_true.mp (show (zl_111_5.all (zokI 111)) = true by decide +kernel)
theorem zk_111 : zokM 111 := ⟨show ∀ x ∈ zl_111, zokI 111 x = true from List.forall_mem_append.mpr ⟨zk_111_0, List.forall_mem_append.mpr ⟨zk_111_1, List.forall_mem_append.mpr ⟨zk_111_2, List.forall_mem_append.mpr ⟨zk_111_3, List.forall_mem_append.mpr ⟨zk_111_4, zk_111_5⟩⟩⟩⟩⟩, by decide +kernel, trivial⟩
set_option maxRecDepth 100000 in
theorem zk_112 : zokM 112 := ⟨List.all_eq_true.mp (show (zl_75.all (zokI 112)) = true by decide +kernel), by decide +kernel, trivial⟩
theorem zka_0 : ∀ k ∈ [0, 1, 2, 3, 4, 5, 6, 7, 8, 9, 10, 11, 12, 13, 14, 15, 16, 17, 18, 19, 20, 21], zokM k := List.forall_mem_cons.mpr ⟨zk_0, List.forall_mem_cons.mpr ⟨zk_1, List.forall_mem_cons.mpr ⟨zk_2, List.forall_mem_cons.mpr ⟨zk_3, List.forall_mem_cons.mpr ⟨zk_4, List.forall_mem_cons.mpr ⟨zk_5, List.forall_mem_cons.mpr ⟨zk_6, List.forall_mem_cons.mpr ⟨zk_7, List.forall_mem_cons.mpr ⟨zk_8, List.forall_mem_cons.mpr ⟨zk_9, List.forall_mem_cons.mpr ⟨zk_10, List.forall_mem_cons.mpr ⟨zk_11, List.forall_mem_cons.mpr ⟨zk_12, List.forall_mem_cons.mpr ⟨zk_13, List.forall_mem_cons.mpr ⟨zk_14, List.forall_mem_cons.mpr ⟨zk_15, List.forall_mem_cons.mpr ⟨zk_16, List.forall_mem_cons.mpr ⟨zk_17, List.forall_mem_cons.mpr ⟨zk_18, List.forall_mem_cons.mpr ⟨zk_19, List.forall_mem_cons.mpr ⟨zk_20, List.forall_mem_cons.mpr ⟨zk_21, fun _ h => absurd h List.not_mem_nil⟩⟩⟩⟩⟩⟩⟩⟩⟩⟩⟩⟩⟩⟩⟩⟩⟩⟩⟩⟩⟩⟩
theorem zka_1 : ∀ k ∈ [22, 23, 24, 25, 26, 27, 28, 29, 30, 31, 32, 33, 34, 35, 36, 37, 38, 39, 40, 41, 42, 43], zokM k := List.forall_mem_cons.mpr ⟨zk_22, List.forall_mem_cons.mpr ⟨zk_23, List.forall_mem_cons.mpr ⟨zk_24, List.forall_mem_cons.mpr ⟨zk_25, List.forall_mem_cons.mpr ⟨zk_26, List.forall_mem_cons.mpr ⟨zk_27, List.forall_mem_cons.mpr ⟨zk_28, List.forall_mem_cons.mpr ⟨zk_29, List.forall_mem_cons.mpr ⟨zk_30, List.forall_mem_cons.mpr ⟨zk_31, List.forall_mem_cons.mpr ⟨zk_32, List.forall_mem_cons.mpr ⟨zk_33, List.forall_mem_cons.mpr ⟨zk_34, List.forall_mem_cons.mpr ⟨zk_35, List.forall_mem_cons.mpr ⟨zk_36, List.forall_mem_cons.mpr ⟨zk_37, List.forall_mem_cons.mpr ⟨zk_38, List.forall_mem_cons.mpr ⟨zk_39, List.forall_mem_cons.mpr ⟨zk_40, List.forall_mem_cons.mpr ⟨zk_41, List.forall_mem_cons.mpr ⟨zk_42, List.forall_mem_cons.mpr ⟨zk_43, fun _ h => absurd h List.not_mem_nil⟩⟩⟩⟩⟩⟩⟩⟩⟩⟩⟩⟩⟩⟩⟩⟩⟩⟩⟩⟩⟩⟩
theorem zka_2 : ∀ k ∈ [44, 45, 46, 47, 48, 49, 50, 51, 52, 53, 54, 55, 56, 57, 58, 59, 60, 61, 62, 63, 64, 65], zokM k := List.forall_mem_cons.mpr ⟨zk_44, List.forall_mem_cons.mpr ⟨zk_45, List.forall_mem_cons.mpr ⟨zk_46, List.forall_mem_cons.mpr ⟨zk_47, List.forall_mem_cons.mpr ⟨zk_48, List.forall_mem_cons.mpr ⟨zk_49, List.forall_mem_cons.mpr ⟨zk_50, List.forall_mem_cons.mpr ⟨zk_51, List.forall_mem_cons.mpr ⟨zk_52, List.forall_mem_cons.mpr ⟨zk_53, List.forall_mem_cons.mpr ⟨zk_54, List.forall_mem_cons.mpr ⟨zk_55, List.forall_mem_cons.mpr ⟨zk_56, List.forall_mem_cons.mpr ⟨zk_57, List.forall_mem_cons.mpr ⟨zk_58, List.forall_mem_cons.mpr ⟨zk_59, List.forall_mem_cons.mpr ⟨zk_60, List.forall_mem_cons.mpr ⟨zk_61, List.forall_mem_cons.mpr ⟨zk_62, List.forall_mem_cons.mpr ⟨zk_63, List.forall_mem_cons.mpr ⟨zk_64, List.forall_mem_cons.mpr ⟨zk_65, fun _ h => absurd h List.not_mem_nil⟩⟩⟩⟩⟩⟩⟩⟩⟩⟩⟩⟩⟩⟩⟩⟩⟩⟩⟩⟩⟩⟩
theorem zka_3 : ∀ k ∈ [66, 67, 68, 69, 70, 71, 72, 73, 74, 75, 76, 77, 78, 79, 80, 81, 82, 83, 84, 85, 86, 87], zokM k := List.forall_mem_cons.mpr ⟨zk_66, List.forall_mem_cons.mpr ⟨zk_67, List.forall_mem_cons.mpr ⟨zk_68, List.forall_mem_cons.mpr ⟨zk_69, List.forall_mem_cons.mpr ⟨zk_70, List.forall_mem_cons.mpr ⟨zk_71, List.forall_mem_cons.mpr ⟨zk_72, List.forall_mem_cons.mpr ⟨zk_73, List.forall_mem_cons.mpr ⟨zk_74, List.forall_mem_cons.mpr ⟨zk_75, List.forall_mem_cons.mpr ⟨zk_76, List.forall_mem_cons.mpr ⟨zk_77, List.forall_mem_cons.mpr ⟨zk_78, List.forall_mem_cons.mpr ⟨zk_79, List.forall_mem_cons.mpr ⟨zk_80, List.forall_mem_cons.mpr ⟨zk_81, List.forall_mem_cons.mpr ⟨zk_82, List.forall_mem_cons.mpr ⟨zk_83, List.forall_mem_cons.mpr ⟨zk_84, List.forall_mem_cons.mpr ⟨zk_85, List.forall_mem_cons.mpr ⟨zk_86, List.forall_mem_cons.mpr ⟨zk_87, fun _ h => absurd h List.not_mem_nil⟩⟩⟩⟩⟩⟩⟩⟩⟩⟩⟩⟩⟩⟩⟩⟩⟩⟩⟩⟩⟩⟩
theorem zka_4 : ∀ k ∈ [88, 89, 90, 91, 92, 93, 94, 95, 96, 97, 98, 99, 100, 101, 102, 103, 104, 105, 106, 107, 108, 109], zokM k := List.forall_mem_cons.mpr ⟨zk_88, List.forall_mem_cons.mpr ⟨zk_89, List.forall_mem_cons.mpr ⟨zk_90, List.forall_mem_cons.mpr ⟨zk_91, List.forall_mem_cons.mpr ⟨zk_92, List.forall_mem_cons.mpr ⟨zk_93, List.forall_mem_cons.mpr ⟨zk_94, List.forall_mem_cons.mpr ⟨zk_95, List.forall_mem_cons.mpr ⟨zk_96, List.forall_mem_cons.mpr ⟨zk_97, List.forall_mem_cons.mpr ⟨zk_98, List.forall_mem_cons.mpr ⟨zk_99, List.forall_mem_cons.mpr ⟨zk_100, List.forall_mem_cons.mpr ⟨zk_101, List.forall_mem_cons.mpr ⟨zk_102, List.forall_mem_cons.mpr ⟨zk_103, List.forall_mem_cons.mpr ⟨zk_104, List.forall_mem_cons.mpr ⟨zk_105, List.forall_mem_cons.mpr ⟨zk_106, List.forall_mem_cons.mpr ⟨zk_107, List.forall_mem_cons.mpr ⟨zk_108, List.forall_mem_cons.mpr ⟨zk_109, fun _ h => absurd h List.not_mem_nil⟩⟩⟩⟩⟩⟩⟩⟩⟩⟩⟩⟩⟩⟩⟩⟩⟩⟩⟩⟩⟩⟩
theorem zka_5 : ∀ k ∈ [110, 111, 112], zokM k := List.forall_mem_cons.mpr ⟨zk_110, List.forall_mem_cons.mpr ⟨zk_111, List.forall_mem_cons.mpr ⟨zk_112, fun _ h => absurd h List.not_mem_nil⟩⟩⟩
theorem zka : ∀ k ∈ [0, 1, 2, 3, 4, 5, 6, 7, 8, 9, 10, 11, 12, 13, 14, 15, 16, 17, 18, 19, 20, 21] ++ ([22, 23, 24, 25, 26, 27, 28, 29, 30, 31, 32, 33, 34, 35, 36, 37, 38, 39, 40, 41, 42, 43] ++ ([44, 45, 46, 47, 48, 49, 50, 51, 52, 53, 54, 55, 56, 57, 58, 59, 60, 61, 62, 63, 64, 65] ++ ([66, 67, 68, 69, 70, 71, 72, 73, 74, 75, 76, 77, 78, 79, 80, 81, 82, 83, 84, 85, 86, 87] ++ ([88, 89, 90, 91, 92, 93, 94, 95, 96, 97, 98, 99, 100, 101, 102, 103, 104, 105, 106, 107, 108, 109] ++ ([110, 111, 112]))))), zokM k := List.forall_mem_append.mpr ⟨zka_0, List.forall_mem_append.mpr ⟨zka_1, List.forall_mem_append.mpr ⟨zka_2, List.forall_mem_append.mpr ⟨zka_3, List.forall_mem_append.mpr ⟨zka_4, zka_5⟩⟩⟩⟩⟩
def zfkB (c k : Nat) (t : FieldType) : Bool := match t with
  | .int => zfdB c k 0
  | .object _ => zfdB c k 1
  | .array _ => zfdB c k 1
  | _ => false
theorem zfkB.ok {c N : Nat} {T : u_T} {ty : Nat → FieldType} (h1 : ∀ k, k < N → parseFieldDescriptor (T k).2.2.1 = some (ty k)) (h2 : ∀ k, k < N → zfkB c k (ty k) = true) :
    ∀ k, k < N → ∃ t, parseFieldDescriptor (T k).2.2.1 = some t ∧ ((t = .int ∧ zPr.2.2 c k = zI 0) ∨ (((∃ C, t = .object C) ∨ ∃ u, t = .array u) ∧ zPr.2.2 c k = zN)) := by
  intro k hk
  refine ⟨ty k, h1 k hk, ?_⟩
  have h := h2 k hk
  unfold zfkB at h
  split at h
  · rename_i e; exact Or.inl ⟨e, zfdB.ok0 h⟩
  · rename_i C e; exact Or.inr ⟨Or.inl ⟨C, e⟩, zfdB.ok1 h⟩
  · rename_i u e; exact Or.inr ⟨Or.inr ⟨u, e⟩, zfdB.ok1 h⟩
  · cases h
theorem zwsOK {C : String} {T : u_T} {N : Nat} (h : ∀ w ∈ (List.range N).map (u_lay C T), w ∈ zTB) : ∀ w ∈ u_ws C T N, w ∈ zTB := h
theorem zly0_0 : u_lay RX0 TX0 0 ∈ zTB := tbi2 687 (by decide +kernel)
theorem zly0_1 : u_lay RX0 TX0 1 ∈ zTB := tbi2 689 (by decide +kernel)
theorem zly0_2 : u_lay RX0 TX0 2 ∈ zTB := tbi2 691 (by decide +kernel)
theorem zly0_3 : u_lay RX0 TX0 3 ∈ zTB := tbi2 693 (by decide +kernel)
theorem zly0_4 : u_lay RX0 TX0 4 ∈ zTB := tbi2 695 (by decide +kernel)
set_option maxRecDepth 100000 in
theorem zcl_0 : (∀ w ∈ u_ws RX0 TX0 5, w ∈ zTB) ∧ (∀ k, k < 5 → (TX0 k).1 = RX0) ∧ (∀ k, k < 5 → ∃ t, parseFieldDescriptor (TX0 k).2.2.1 = some t ∧ ((t = .int ∧ zPr.2.2 0 k = zI 0) ∨ (((∃ C, t = .object C) ∨ ∃ u, t = .array u) ∧ zPr.2.2 0 k = zN))) ∧ ∀ a, a < 5 → ∀ b, b < 5 → a ≠ b → (TX0 a).2.1 ≠ (TX0 b).2.1 :=
  ⟨zwsOK (show ∀ w ∈ [u_lay RX0 TX0 0, u_lay RX0 TX0 1, u_lay RX0 TX0 2, u_lay RX0 TX0 3, u_lay RX0 TX0 4], w ∈ zTB from List.forall_mem_cons.mpr ⟨zly0_0, List.forall_mem_cons.mpr ⟨zly0_1, List.forall_mem_cons.mpr ⟨zly0_2, List.forall_mem_cons.mpr ⟨zly0_3, List.forall_mem_cons.mpr ⟨zly0_4, fun _ h => absurd h List.not_mem_nil⟩⟩⟩⟩⟩), by decide +kernel, zfkB.ok tyX0_ok (by decide +kernel), by decide +kernel⟩
theorem zly1_0 : u_lay RX1 TX1 0 ∈ zTB := tbi2 747 (by decide +kernel)
theorem zly1_1 : u_lay RX1 TX1 1 ∈ zTB := tbi2 749 (by decide +kernel)
theorem zly1_2 : u_lay RX1 TX1 2 ∈ zTB := tbi2 751 (by decide +kernel)
theorem zly1_3 : u_lay RX1 TX1 3 ∈ zTB := tbi2 753 (by decide +kernel)
theorem zly1_4 : u_lay RX1 TX1 4 ∈ zTB := tbi2 755 (by decide +kernel)
theorem zly1_5 : u_lay RX1 TX1 5 ∈ zTB := tbi2 757 (by decide +kernel)
theorem zly1_6 : u_lay RX1 TX1 6 ∈ zTB := tbi2 759 (by decide +kernel)
theorem zly1_7 : u_lay RX1 TX1 7 ∈ zTB := tbi2 761 (by decide +kernel)
theorem zly1_8 : u_lay RX1 TX1 8 ∈ zTB := tbi2 763 (by decide +kernel)
theorem zly1_9 : u_lay RX1 TX1 9 ∈ zTB := tbi2 765 (by decide +kernel)
theorem zly1_10 : u_lay RX1 TX1 10 ∈ zTB := tbi2 767 (by decide +kernel)
set_option maxRecDepth 100000 in
theorem zcl_1 : (∀ w ∈ u_ws RX1 TX1 11, w ∈ zTB) ∧ (∀ k, k < 11 → (TX1 k).1 = RX1) ∧ (∀ k, k < 11 → ∃ t, parseFieldDescriptor (TX1 k).2.2.1 = some t ∧ ((t = .int ∧ zPr.2.2 1 k = zI 0) ∨ (((∃ C, t = .object C) ∨ ∃ u, t = .array u) ∧ zPr.2.2 1 k = zN))) ∧ ∀ a, a < 11 → ∀ b, b < 11 → a ≠ b → (TX1 a).2.1 ≠ (TX1 b).2.1 :=
  ⟨zwsOK (show ∀ w ∈ [u_lay RX1 TX1 0, u_lay RX1 TX1 1, u_lay RX1 TX1 2, u_lay RX1 TX1 3, u_lay RX1 TX1 4, u_lay RX1 TX1 5, u_lay RX1 TX1 6, u_lay RX1 TX1 7, u_lay RX1 TX1 8, u_lay RX1 TX1 9, u_lay RX1 TX1 10], w ∈ zTB from List.forall_mem_cons.mpr ⟨zly1_0, List.forall_mem_cons.mpr ⟨zly1_1, List.forall_mem_cons.mpr ⟨zly1_2, List.forall_mem_cons.mpr ⟨zly1_3, List.forall_mem_cons.mpr ⟨zly1_4, List.forall_mem_cons.mpr ⟨zly1_5, List.forall_mem_cons.mpr ⟨zly1_6, List.forall_mem_cons.mpr ⟨zly1_7, List.forall_mem_cons.mpr ⟨zly1_8, List.forall_mem_cons.mpr ⟨zly1_9, List.forall_mem_cons.mpr ⟨zly1_10, fun _ h => absurd h List.not_mem_nil⟩⟩⟩⟩⟩⟩⟩⟩⟩⟩⟩), by decide +kernel, zfkB.ok tyX1_ok (by decide +kernel), by decide +kernel⟩
theorem zly2_0 : u_lay RX2 TX2 0 ∈ zTB := tbi2 344 (by decide +kernel)
theorem zly2_1 : u_lay RX2 TX2 1 ∈ zTB := tbi2 346 (by decide +kernel)
theorem zly2_2 : u_lay RX2 TX2 2 ∈ zTB := tbi2 348 (by decide +kernel)
set_option maxRecDepth 100000 in
theorem zcl_2 : (∀ w ∈ u_ws RX2 TX2 3, w ∈ zTB) ∧ (∀ k, k < 3 → (TX2 k).1 = RX2) ∧ (∀ k, k < 3 → ∃ t, parseFieldDescriptor (TX2 k).2.2.1 = some t ∧ ((t = .int ∧ zPr.2.2 2 k = zI 0) ∨ (((∃ C, t = .object C) ∨ ∃ u, t = .array u) ∧ zPr.2.2 2 k = zN))) ∧ ∀ a, a < 3 → ∀ b, b < 3 → a ≠ b → (TX2 a).2.1 ≠ (TX2 b).2.1 :=
  ⟨zwsOK (show ∀ w ∈ [u_lay RX2 TX2 0, u_lay RX2 TX2 1, u_lay RX2 TX2 2], w ∈ zTB from List.forall_mem_cons.mpr ⟨zly2_0, List.forall_mem_cons.mpr ⟨zly2_1, List.forall_mem_cons.mpr ⟨zly2_2, fun _ h => absurd h List.not_mem_nil⟩⟩⟩), by decide +kernel, zfkB.ok tyX2_ok (by decide +kernel), by decide +kernel⟩
theorem zly3_0 : u_lay RX3 TX3 0 ∈ zTB := tbi2 473 (by decide +kernel)
theorem zly3_1 : u_lay RX3 TX3 1 ∈ zTB := tbi2 475 (by decide +kernel)
theorem zly3_2 : u_lay RX3 TX3 2 ∈ zTB := tbi2 477 (by decide +kernel)
theorem zly3_3 : u_lay RX3 TX3 3 ∈ zTB := tbi2 479 (by decide +kernel)
set_option maxRecDepth 100000 in
theorem zcl_3 : (∀ w ∈ u_ws RX3 TX3 4, w ∈ zTB) ∧ (∀ k, k < 4 → (TX3 k).1 = RX3) ∧ (∀ k, k < 4 → ∃ t, parseFieldDescriptor (TX3 k).2.2.1 = some t ∧ ((t = .int ∧ zPr.2.2 3 k = zI 0) ∨ (((∃ C, t = .object C) ∨ ∃ u, t = .array u) ∧ zPr.2.2 3 k = zN))) ∧ ∀ a, a < 4 → ∀ b, b < 4 → a ≠ b → (TX3 a).2.1 ≠ (TX3 b).2.1 :=
  ⟨zwsOK (show ∀ w ∈ [u_lay RX3 TX3 0, u_lay RX3 TX3 1, u_lay RX3 TX3 2, u_lay RX3 TX3 3], w ∈ zTB from List.forall_mem_cons.mpr ⟨zly3_0, List.forall_mem_cons.mpr ⟨zly3_1, List.forall_mem_cons.mpr ⟨zly3_2, List.forall_mem_cons.mpr ⟨zly3_3, fun _ h => absurd h List.not_mem_nil⟩⟩⟩⟩), by decide +kernel, zfkB.ok tyX3_ok (by decide +kernel), by decide +kernel⟩
theorem zly4_0 : u_lay RX4 TX4 0 ∈ zTB := tbi2 659 (by decide +kernel)
theorem zly4_1 : u_lay RX4 TX4 1 ∈ zTB := tbi2 661 (by decide +kernel)
theorem zly4_2 : u_lay RX4 TX4 2 ∈ zTB := tbi2 663 (by decide +kernel)
theorem zly4_3 : u_lay RX4 TX4 3 ∈ zTB := tbi2 665 (by decide +kernel)
theorem zly4_4 : u_lay RX4 TX4 4 ∈ zTB := tbi2 667 (by decide +kernel)
set_option maxRecDepth 100000 in
theorem zcl_4 : (∀ w ∈ u_ws RX4 TX4 5, w ∈ zTB) ∧ (∀ k, k < 5 → (TX4 k).1 = RX4) ∧ (∀ k, k < 5 → ∃ t, parseFieldDescriptor (TX4 k).2.2.1 = some t ∧ ((t = .int ∧ zPr.2.2 4 k = zI 0) ∨ (((∃ C, t = .object C) ∨ ∃ u, t = .array u) ∧ zPr.2.2 4 k = zN))) ∧ ∀ a, a < 5 → ∀ b, b < 5 → a ≠ b → (TX4 a).2.1 ≠ (TX4 b).2.1 :=
  ⟨zwsOK (show ∀ w ∈ [u_lay RX4 TX4 0, u_lay RX4 TX4 1, u_lay RX4 TX4 2, u_lay RX4 TX4 3, u_lay RX4 TX4 4], w ∈ zTB from List.forall_mem_cons.mpr ⟨zly4_0, List.forall_mem_cons.mpr ⟨zly4_1, List.forall_mem_cons.mpr ⟨zly4_2, List.forall_mem_cons.mpr ⟨zly4_3, List.forall_mem_cons.mpr ⟨zly4_4, fun _ h => absurd h List.not_mem_nil⟩⟩⟩⟩⟩), by decide +kernel, zfkB.ok tyX4_ok (by decide +kernel), by decide +kernel⟩
theorem zly5_0 : u_lay RX5 TX5 0 ∈ zTB := tbi2 355 (by decide +kernel)
theorem zly5_1 : u_lay RX5 TX5 1 ∈ zTB := tbi2 357 (by decide +kernel)
set_option maxRecDepth 100000 in
theorem zcl_5 : (∀ w ∈ u_ws RX5 TX5 2, w ∈ zTB) ∧ (∀ k, k < 2 → (TX5 k).1 = RX5) ∧ (∀ k, k < 2 → ∃ t, parseFieldDescriptor (TX5 k).2.2.1 = some t ∧ ((t = .int ∧ zPr.2.2 5 k = zI 0) ∨ (((∃ C, t = .object C) ∨ ∃ u, t = .array u) ∧ zPr.2.2 5 k = zN))) ∧ ∀ a, a < 2 → ∀ b, b < 2 → a ≠ b → (TX5 a).2.1 ≠ (TX5 b).2.1 :=
  ⟨zwsOK (show ∀ w ∈ [u_lay RX5 TX5 0, u_lay RX5 TX5 1], w ∈ zTB from List.forall_mem_cons.mpr ⟨zly5_0, List.forall_mem_cons.mpr ⟨zly5_1, fun _ h => absurd h List.not_mem_nil⟩⟩), by decide +kernel, zfkB.ok tyX5_ok (by decide +kernel), by decide +kernel⟩
theorem zly6_0 : u_lay RX6 TX6 0 ∈ zTB := tbi2 122 (by decide +kernel)
theorem zly6_1 : u_lay RX6 TX6 1 ∈ zTB := tbi2 124 (by decide +kernel)
theorem zly6_2 : u_lay RX6 TX6 2 ∈ zTB := tbi2 126 (by decide +kernel)
theorem zly6_3 : u_lay RX6 TX6 3 ∈ zTB := tbi2 128 (by decide +kernel)
theorem zly6_4 : u_lay RX6 TX6 4 ∈ zTB := tbi2 130 (by decide +kernel)
theorem zly6_5 : u_lay RX6 TX6 5 ∈ zTB := tbi2 132 (by decide +kernel)
theorem zly6_6 : u_lay RX6 TX6 6 ∈ zTB := tbi2 134 (by decide +kernel)
set_option maxRecDepth 100000 in
theorem zcl_6 : (∀ w ∈ u_ws RX6 TX6 7, w ∈ zTB) ∧ (∀ k, k < 7 → (TX6 k).1 = RX6) ∧ (∀ k, k < 7 → ∃ t, parseFieldDescriptor (TX6 k).2.2.1 = some t ∧ ((t = .int ∧ zPr.2.2 6 k = zI 0) ∨ (((∃ C, t = .object C) ∨ ∃ u, t = .array u) ∧ zPr.2.2 6 k = zN))) ∧ ∀ a, a < 7 → ∀ b, b < 7 → a ≠ b → (TX6 a).2.1 ≠ (TX6 b).2.1 :=
  ⟨zwsOK (show ∀ w ∈ [u_lay RX6 TX6 0, u_lay RX6 TX6 1, u_lay RX6 TX6 2, u_lay RX6 TX6 3, u_lay RX6 TX6 4, u_lay RX6 TX6 5, u_lay RX6 TX6 6], w ∈ zTB from List.forall_mem_cons.mpr ⟨zly6_0, List.forall_mem_cons.mpr ⟨zly6_1, List.forall_mem_cons.mpr ⟨zly6_2, List.forall_mem_cons.mpr ⟨zly6_3, List.forall_mem_cons.mpr ⟨zly6_4, List.forall_mem_cons.mpr ⟨zly6_5, List.forall_mem_cons.mpr ⟨zly6_6, fun _ h => absurd h List.not_mem_nil⟩⟩⟩⟩⟩⟩⟩), by decide +kernel, zfkB.ok tyX6_ok (by decide +kernel), by decide +kernel⟩
theorem zly7_0 : u_lay RX7 TX7 0 ∈ zTB := tbi2 88 (by decide +kernel)
theorem zly7_1 : u_lay RX7 TX7 1 ∈ zTB := tbi2 90 (by decide +kernel)
theorem zly7_2 : u_lay RX7 TX7 2 ∈ zTB := tbi2 92 (by decide +kernel)
theorem zly7_3 : u_lay RX7 TX7 3 ∈ zTB := tbi2 94 (by decide +kernel)
theorem zly7_4 : u_lay RX7 TX7 4 ∈ zTB := tbi2 96 (by decide +kernel)
theorem zly7_5 : u_lay RX7 TX7 5 ∈ zTB := tbi2 98 (by decide +kernel)
theorem zly7_6 : u_lay RX7 TX7 6 ∈ zTB := tbi2 100 (by decide +kernel)
theorem zly7_7 : u_lay RX7 TX7 7 ∈ zTB := tbi2 102 (by decide +kernel)
theorem zly7_8 : u_lay RX7 TX7 8 ∈ zTB := tbi2 104 (by decide +kernel)
theorem zly7_9 : u_lay RX7 TX7 9 ∈ zTB := tbi2 106 (by decide +kernel)
theorem zly7_10 : u_lay RX7 TX7 10 ∈ zTB := tbi2 108 (by decide +kernel)
theorem zly7_11 : u_lay RX7 TX7 11 ∈ zTB := tbi2 110 (by decide +kernel)
set_option maxRecDepth 100000 in
theorem zcl_7 : (∀ w ∈ u_ws RX7 TX7 12, w ∈ zTB) ∧ (∀ k, k < 12 → (TX7 k).1 = RX7) ∧ (∀ k, k < 12 → ∃ t, parseFieldDescriptor (TX7 k).2.2.1 = some t ∧ ((t = .int ∧ zPr.2.2 7 k = zI 0) ∨ (((∃ C, t = .object C) ∨ ∃ u, t = .array u) ∧ zPr.2.2 7 k = zN))) ∧ ∀ a, a < 12 → ∀ b, b < 12 → a ≠ b → (TX7 a).2.1 ≠ (TX7 b).2.1 :=
  ⟨zwsOK (show ∀ w ∈ [u_lay RX7 TX7 0, u_lay RX7 TX7 1, u_lay RX7 TX7 2, u_lay RX7 TX7 3, u_lay RX7 TX7 4, u_lay RX7 TX7 5, u_lay RX7 TX7 6, u_lay RX7 TX7 7, u_lay RX7 TX7 8, u_lay RX7 TX7 9, u_lay RX7 TX7 10, u_lay RX7 TX7 11], w ∈ zTB from List.forall_mem_cons.mpr ⟨zly7_0, List.forall_mem_cons.mpr ⟨zly7_1, List.forall_mem_cons.mpr ⟨zly7_2, List.forall_mem_cons.mpr ⟨zly7_3, List.forall_mem_cons.mpr ⟨zly7_4, List.forall_mem_cons.mpr ⟨zly7_5, List.forall_mem_cons.mpr ⟨zly7_6, List.forall_mem_cons.mpr ⟨zly7_7, List.forall_mem_cons.mpr ⟨zly7_8, List.forall_mem_cons.mpr ⟨zly7_9, List.forall_mem_cons.mpr ⟨zly7_10, List.forall_mem_cons.mpr ⟨zly7_11, fun _ h => absurd h List.not_mem_nil⟩⟩⟩⟩⟩⟩⟩⟩⟩⟩⟩⟩), by decide +kernel, zfkB.ok tyX7_ok (by decide +kernel), by decide +kernel⟩
theorem zly8_0 : u_lay RX8 TX8 0 ∈ zTB := tbi2 148 (by decide +kernel)
theorem zly8_1 : u_lay RX8 TX8 1 ∈ zTB := tbi2 150 (by decide +kernel)
theorem zly8_2 : u_lay RX8 TX8 2 ∈ zTB := tbi2 152 (by decide +kernel)
theorem zly8_3 : u_lay RX8 TX8 3 ∈ zTB := tbi2 154 (by decide +kernel)
theorem zly8_4 : u_lay RX8 TX8 4 ∈ zTB := tbi2 156 (by decide +kernel)
theorem zly8_5 : u_lay RX8 TX8 5 ∈ zTB := tbi2 158 (by decide +kernel)
theorem zly8_6 : u_lay RX8 TX8 6 ∈ zTB := tbi2 160 (by decide +kernel)
theorem zly8_7 : u_lay RX8 TX8 7 ∈ zTB := tbi2 162 (by decide +kernel)
theorem zly8_8 : u_lay RX8 TX8 8 ∈ zTB := tbi2 164 (by decide +kernel)
theorem zly8_9 : u_lay RX8 TX8 9 ∈ zTB := tbi2 166 (by decide +kernel)
theorem zly8_10 : u_lay RX8 TX8 10 ∈ zTB := tbi2 168 (by decide +kernel)
set_option maxRecDepth 100000 in
theorem zcl_8 : (∀ w ∈ u_ws RX8 TX8 11, w ∈ zTB) ∧ (∀ k, k < 11 → (TX8 k).1 = RX8) ∧ (∀ k, k < 11 → ∃ t, parseFieldDescriptor (TX8 k).2.2.1 = some t ∧ ((t = .int ∧ zPr.2.2 8 k = zI 0) ∨ (((∃ C, t = .object C) ∨ ∃ u, t = .array u) ∧ zPr.2.2 8 k = zN))) ∧ ∀ a, a < 11 → ∀ b, b < 11 → a ≠ b → (TX8 a).2.1 ≠ (TX8 b).2.1 :=
  ⟨zwsOK (show ∀ w ∈ [u_lay RX8 TX8 0, u_lay RX8 TX8 1, u_lay RX8 TX8 2, u_lay RX8 TX8 3, u_lay RX8 TX8 4, u_lay RX8 TX8 5, u_lay RX8 TX8 6, u_lay RX8 TX8 7, u_lay RX8 TX8 8, u_lay RX8 TX8 9, u_lay RX8 TX8 10], w ∈ zTB from List.forall_mem_cons.mpr ⟨zly8_0, List.forall_mem_cons.mpr ⟨zly8_1, List.forall_mem_cons.mpr ⟨zly8_2, List.forall_mem_cons.mpr ⟨zly8_3, List.forall_mem_cons.mpr ⟨zly8_4, List.forall_mem_cons.mpr ⟨zly8_5, List.forall_mem_cons.mpr ⟨zly8_6, List.forall_mem_cons.mpr ⟨zly8_7, List.forall_mem_cons.mpr ⟨zly8_8, List.forall_mem_cons.mpr ⟨zly8_9, List.forall_mem_cons.mpr ⟨zly8_10, fun _ h => absurd h List.not_mem_nil⟩⟩⟩⟩⟩⟩⟩⟩⟩⟩⟩), by decide +kernel, zfkB.ok tyX8_ok (by decide +kernel), by decide +kernel⟩
theorem zclsA : zCLS zPr zZ := by
  intro c q h
  match c, h with
  | 0, h => cases h; exact zcl_0
  | 1, h => cases h; exact zcl_1
  | 2, h => cases h; exact zcl_2
  | 3, h => cases h; exact zcl_3
  | 4, h => cases h; exact zcl_4
  | 5, h => cases h; exact zcl_5
  | 6, h => cases h; exact zcl_6
  | 7, h => cases h; exact zcl_7
  | 8, h => cases h; exact zcl_8
  | (_ + 9), h => cases h
theorem zokMs {k : Nat} (h : k < 113) : zokM k := zka k (by
  have : List.range 113 = [0, 1, 2, 3, 4, 5, 6, 7, 8, 9, 10, 11, 12, 13, 14, 15, 16, 17, 18, 19, 20, 21] ++ ([22, 23, 24, 25, 26, 27, 28, 29, 30, 31, 32, 33, 34, 35, 36, 37, 38, 39, 40, 41, 42, 43] ++ ([44, 45, 46, 47, 48, 49, 50, 51, 52, 53, 54, 55, 56, 57, 58, 59, 60, 61, 62, 63, 64, 65] ++ ([66, 67, 68, 69, 70, 71, 72, 73, 74, 75, 76, 77, 78, 79, 80, 81, 82, 83, 84, 85, 86, 87] ++ ([88, 89, 90, 91, 92, 93, 94, 95, 96, 97, 98, 99, 100, 101, 102, 103, 104, 105, 106, 107, 108, 109] ++ ([110, 111, 112]))))) := by decide +kernel
  rw [← this]
  exact List.mem_range.mpr h)
theorem zlk_mem {L : List (Nat × ZI)} {pc : Nat} {x : ZI} (h : zlk L pc = some x) : (pc, x) ∈ L := by
  induction L with
  | nil => cases h
  | cons y r ih =>
    obtain ⟨p, z⟩ := y
    unfold zlk at h
    split at h
    · rename_i e
      rw [← Nat.eq_of_beq_eq_true e, Option.some.inj h]
      exact List.mem_cons_self
    · exact List.mem_cons_of_mem _ (ih h)
theorem zTABA : zTAB zPr zZ := by
  refine ⟨zclsA, fun w h => (List.mem_filter.mp h).2, ?_, ?_⟩
  · intro E x hE hx hne
    match E, x, hE, hx, hne with
    | 0, 1, _, _, _ => exact List.mem_of_getElem? (i := 0) rfl
    | 0, 2, _, _, _ => exact List.mem_of_getElem? (i := 1) rfl
    | 1, 0, _, _, _ => exact List.mem_of_getElem? (i := 2) rfl
    | 1, 2, _, _, _ => exact List.mem_of_getElem? (i := 3) rfl
    | 2, 0, _, _, _ => exact List.mem_of_getElem? (i := 4) rfl
    | 2, 1, _, _, _ => exact List.mem_of_getElem? (i := 5) rfl
    | 0, 0, _, _, h => exact absurd rfl h
    | 1, 1, _, _, h => exact absurd rfl h
    | 2, 2, _, _, h => exact absurd rfl h
    | (_ + 3), _, h, _, _ => omega
    | 0, (_ + 3), _, h, _ => omega
    | 1, (_ + 3), _, h, _ => omega
    | 2, (_ + 3), _, h, _ => omega
  · intro k pc ig len a b h
    have hk : k < 113 := by
      by_cases hk : k < 113
      · exact hk
      · have e : zcodes.getD k [] = [] := by
          rw [List.getD_eq_getElem?_getD, List.getElem?_eq_none (by rw [show zcodes.length = 113 by decide +kernel]; omega)]; rfl
        have h : zlk (zcodes.getD k []) pc = some (ig, len, a, b) := h
        rw [e] at h
        cases h
    obtain ⟨h1, h2, h3⟩ := zokMs hk
    have h4 := (Bool.and_eq_true _ _).mp (h1 _ (zlk_mem (show zlk (zcodes.getD k []) pc = some (ig, len, a, b) from h)))
    exact ⟨of_decide_eq_true h4.1, zchk.ok h4.2, h3, zmtB.ok h2⟩
