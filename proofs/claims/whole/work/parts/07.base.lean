theorem zT0_of {y : MethodName} {k i : Nat} (h : lw_privs[i]? = some (y, k)) : Cond.selects y.cls y y ∈ zTW := List.mem_filter.mpr ⟨List.mem_append_left _ (List.mem_map.mpr ⟨_, List.mem_of_getElem? h, rfl⟩), rfl⟩
theorem zT1_of {w : Cond} {i : Nat} (h : tables_1_1[i]? = some w) (hg : goodWord w = true) : w ∈ zTW := List.mem_filter.mpr ⟨List.mem_append_right _ (List.mem_append_left _ (List.mem_of_getElem? h)), hg⟩
theorem zT2_of {w : Cond} {i : Nat} (h : tables_1_2[i]? = some w) (hg : goodWord w = true) : w ∈ zTW := List.mem_filter.mpr ⟨List.mem_append_right _ (List.mem_append_right _ (List.mem_append_left _ (List.mem_of_getElem? h))), hg⟩
theorem zT3_of {w : Cond} {i : Nat} (h : tables_1_3[i]? = some w) (hg : goodWord w = true) : w ∈ zTW := List.mem_filter.mpr ⟨List.mem_append_right _ (List.mem_append_right _ (List.mem_append_right _ (List.mem_append_left _ (List.mem_of_getElem? h)))), hg⟩
theorem zT4_of {w : Cond} {i : Nat} (h : tables_1_4[i]? = some w) (hg : goodWord w = true) : w ∈ zTW := List.mem_filter.mpr ⟨List.mem_append_right _ (List.mem_append_right _ (List.mem_append_right _ (List.mem_append_right _ (List.mem_append_left _ (List.mem_of_getElem? h))))), hg⟩
theorem zT5_of {w : Cond} {i : Nat} (h : tables_1_5[i]? = some w) (hg : goodWord w = true) : w ∈ zTW := List.mem_filter.mpr ⟨List.mem_append_right _ (List.mem_append_right _ (List.mem_append_right _ (List.mem_append_right _ (List.mem_append_right _ (List.mem_append_left _ (List.mem_of_getElem? h)))))), hg⟩
theorem zT6_of {w : Cond} {i : Nat} (h : tables_1_6[i]? = some w) (hg : goodWord w = true) : w ∈ zTW := List.mem_filter.mpr ⟨List.mem_append_right _ (List.mem_append_right _ (List.mem_append_right _ (List.mem_append_right _ (List.mem_append_right _ (List.mem_append_right _ (List.mem_of_getElem? h)))))), hg⟩
theorem zTW_ofs {ws : List Cond} (ps : List Nat) (h : ws = ps.filterMap (fun i => lw_tbl[i]?)) (hg : ws.all goodWord = true) : ∀ w ∈ ws, w ∈ zTW := fun w hw => by
  have h1 := List.all_eq_true.mp hg w hw
  rw [h] at hw
  obtain ⟨i, -, hi⟩ := List.mem_filterMap.mp hw
  exact zTW_of hi h1
theorem zcf_0 : zCf 0 RX0 TX0 13 := ⟨rfl, zTW_ofs [525, 527, 529, 531, 533, 535, 537, 539, 541, 543, 545, 547, 549] (by decide +kernel) (by decide +kernel), nmX0, tyX0, tyX0_ok⟩
abbrev zf0 : List zVal := [zi 0, zi 0, zi 0, zn, zi 0, zi 0, zi 0, zi 0, zi 0, zi 0, zi 0, zi 0, zl 0]
theorem zfs_0 : zFs 0 zf0 := ⟨RX0, TX0, 13, rfl, tyX0, fun k hk => ⟨tyX0_ok k hk, (by decide +kernel : ∀ k, k < 13 → tyX0 k ≠ .float) k hk, (by decide +kernel : ∀ k, k < 13 → tyX0 k ≠ .double) k hk⟩, by decide +kernel⟩
theorem zcf_1 : zCf 1 RX1 TX1 5 := ⟨rfl, zTW_ofs [140, 142, 144, 146, 148] (by decide +kernel) (by decide +kernel), nmX1, tyX1, tyX1_ok⟩
abbrev zf1 : List zVal := [zi 0, zn, zn, zn, zn]
theorem zfs_1 : zFs 1 zf1 := ⟨RX1, TX1, 5, rfl, tyX1, fun k hk => ⟨tyX1_ok k hk, (by decide +kernel : ∀ k, k < 5 → tyX1 k ≠ .float) k hk, (by decide +kernel : ∀ k, k < 5 → tyX1 k ≠ .double) k hk⟩, by decide +kernel⟩
theorem zcf_2 : zCf 2 RX2 TX2 3 := ⟨rfl, zTW_ofs [730, 732, 734] (by decide +kernel) (by decide +kernel), nmX2, tyX2, tyX2_ok⟩
abbrev zf2 : List zVal := [zi 0, zi 0, zn]
theorem zfs_2 : zFs 2 zf2 := ⟨RX2, TX2, 3, rfl, tyX2, fun k hk => ⟨tyX2_ok k hk, (by decide +kernel : ∀ k, k < 3 → tyX2 k ≠ .float) k hk, (by decide +kernel : ∀ k, k < 3 → tyX2 k ≠ .double) k hk⟩, by decide +kernel⟩
theorem zcf_3 : zCf 3 RX3 TX3 5 := ⟨rfl, zTW_ofs [187, 189, 191, 193, 195] (by decide +kernel) (by decide +kernel), nmX3, tyX3, tyX3_ok⟩
abbrev zf3 : List zVal := [zn, zn, zi 0, zi 0, zi 0]
theorem zfs_3 : zFs 3 zf3 := ⟨RX3, TX3, 5, rfl, tyX3, fun k hk => ⟨tyX3_ok k hk, (by decide +kernel : ∀ k, k < 5 → tyX3 k ≠ .float) k hk, (by decide +kernel : ∀ k, k < 5 → tyX3 k ≠ .double) k hk⟩, by decide +kernel⟩
theorem zcf_4 : zCf 4 RX4 TX4 3 := ⟨rfl, zTW_ofs [115, 117, 119] (by decide +kernel) (by decide +kernel), nmX4, tyX4, tyX4_ok⟩
abbrev zf4 : List zVal := [zi 0, zi 0, zi 0]
theorem zfs_4 : zFs 4 zf4 := ⟨RX4, TX4, 3, rfl, tyX4, fun k hk => ⟨tyX4_ok k hk, (by decide +kernel : ∀ k, k < 3 → tyX4 k ≠ .float) k hk, (by decide +kernel : ∀ k, k < 3 → tyX4 k ≠ .double) k hk⟩, by decide +kernel⟩
theorem zcf_5 : zCf 5 RX5 TX5 3 := ⟨rfl, zTW_ofs [238, 240, 242] (by decide +kernel) (by decide +kernel), nmX5, tyX5, tyX5_ok⟩
abbrev zf5 : List zVal := [zi 0, zi 0, zn]
theorem zfs_5 : zFs 5 zf5 := ⟨RX5, TX5, 3, rfl, tyX5, fun k hk => ⟨tyX5_ok k hk, (by decide +kernel : ∀ k, k < 3 → tyX5 k ≠ .float) k hk, (by decide +kernel : ∀ k, k < 3 → tyX5 k ≠ .double) k hk⟩, by decide +kernel⟩
theorem zcf_6 : zCf 6 RX6 TX6 2 := ⟨rfl, zTW_ofs [206, 208] (by decide +kernel) (by decide +kernel), nmX6, tyX6, tyX6_ok⟩
abbrev zf6 : List zVal := [zn, zi 0]
theorem zfs_6 : zFs 6 zf6 := ⟨RX6, TX6, 2, rfl, tyX6, fun k hk => ⟨tyX6_ok k hk, (by decide +kernel : ∀ k, k < 2 → tyX6 k ≠ .float) k hk, (by decide +kernel : ∀ k, k < 2 → tyX6 k ≠ .double) k hk⟩, by decide +kernel⟩
theorem zcf_7 : zCf 7 RX7 TX7 5 := ⟨rfl, zTW_ofs [164, 166, 168, 170, 172] (by decide +kernel) (by decide +kernel), nmX7, tyX7, tyX7_ok⟩
abbrev zf7 : List zVal := [zn, zn, zn, zi 0, zi 0]
theorem zfs_7 : zFs 7 zf7 := ⟨RX7, TX7, 5, rfl, tyX7, fun k hk => ⟨tyX7_ok k hk, (by decide +kernel : ∀ k, k < 5 → tyX7 k ≠ .float) k hk, (by decide +kernel : ∀ k, k < 5 → tyX7 k ≠ .double) k hk⟩, by decide +kernel⟩
theorem zcf_8 : zCf 8 RX8 TX8 4 := ⟨rfl, zTW_ofs [220, 222, 224, 226] (by decide +kernel) (by decide +kernel), nmX8, tyX8, tyX8_ok⟩
abbrev zf8 : List zVal := [zn, zn, zi 0, zi 0]
theorem zfs_8 : zFs 8 zf8 := ⟨RX8, TX8, 4, rfl, tyX8, fun k hk => ⟨tyX8_ok k hk, (by decide +kernel : ∀ k, k < 4 → tyX8 k ≠ .float) k hk, (by decide +kernel : ∀ k, k < 4 → tyX8 k ≠ .double) k hk⟩, by decide +kernel⟩
theorem zcf_9 : zCf 9 RX9 TX9 8 := ⟨rfl, zTW_ofs [630, 632, 634, 636, 638, 640, 642, 644] (by decide +kernel) (by decide +kernel), nmX9, tyX9, tyX9_ok⟩
abbrev zf9 : List zVal := [zi 0, zi 0, zn, zi 0, zi 0, zi 0, zi 0, zi 0]
theorem zfs_9 : zFs 9 zf9 := ⟨RX9, TX9, 8, rfl, tyX9, fun k hk => ⟨tyX9_ok k hk, (by decide +kernel : ∀ k, k < 8 → tyX9 k ≠ .float) k hk, (by decide +kernel : ∀ k, k < 8 → tyX9 k ≠ .double) k hk⟩, by decide +kernel⟩
theorem zcf_10 : zCf 10 RX10 TX10 16 := ⟨rfl, zTW_ofs [455, 457, 459, 461, 463, 465, 467, 469, 471, 473, 475, 477, 479, 481, 483, 485] (by decide +kernel) (by decide +kernel), nmX10, tyX10, tyX10_ok⟩
abbrev zf10 : List zVal := [zn, zn, zn, zn, zn, zn, zn, zn, zn, zn, zn, zi 0, zi 0, zi 0, zi 0, zi 0]
theorem zfs_10 : zFs 10 zf10 := ⟨RX10, TX10, 16, rfl, tyX10, fun k hk => ⟨tyX10_ok k hk, (by decide +kernel : ∀ k, k < 16 → tyX10 k ≠ .float) k hk, (by decide +kernel : ∀ k, k < 16 → tyX10 k ≠ .double) k hk⟩, by decide +kernel⟩
theorem zcf_11 : zCf 11 RX11 TX11 59 := ⟨rfl, zTW_ofs [997, 999, 1001, 1003, 1005, 1007, 1009, 1011, 1013, 1015, 1017, 1019, 1021, 1023, 1025, 1027, 1029, 1031, 1033, 1035, 1037, 1039, 1041, 1043, 1045, 1047, 1049, 1051, 1053, 1055, 1057, 1059, 1061, 1063, 1065, 1067, 1069, 1071, 1073, 1075, 1077, 1079, 1081, 1083, 1085, 1087, 1089, 1091, 1093, 1095, 1097, 1099, 1101, 1103, 1105, 1107, 1109, 1111, 1113] (by decide +kernel) (by decide +kernel), nmX11, tyX11, tyX11_ok⟩
abbrev zf11 : List zVal := [zi 0, zi 0, zn, zn, zn, zn, zn, zn, zn, zn, zn, zn, zn, zn, zn, zi 0, zn, zn, zn, zn, zn, zn, zn, zi 0, zi 0, zi 0, zn, zn, zi 0, zi 0, zn, zi 0, zi 0, zi 0, zi 0, zi 0, zl 0, zi 0, zi 0, zi 0, zi 0, zi 0, zi 0, zi 0, zi 0, zi 0, zi 0, zi 0, zn, zn, zn, zi 0, zn, zn, zn, zn, zn, zn, zn]
theorem zfs_11 : zFs 11 zf11 := ⟨RX11, TX11, 59, rfl, tyX11, fun k hk => ⟨tyX11_ok k hk, (by decide +kernel : ∀ k, k < 59 → tyX11 k ≠ .float) k hk, (by decide +kernel : ∀ k, k < 59 → tyX11 k ≠ .double) k hk⟩, by decide +kernel⟩
theorem zac_int : Cond.arrayClass .int ∈ zTW := zT1_of (i := 84) rfl rfl
theorem zac_long : Cond.arrayClass .long ∈ zTW := zT5_of (i := 89) rfl rfl
theorem zac_byte : Cond.arrayClass .byte ∈ zTW := zT1_of (i := 108) rfl rfl
theorem zac_boolean : Cond.arrayClass .boolean ∈ zTW := zT5_of (i := 90) rfl rfl
abbrev zX0_init : zY := (yX0_init, cX0_init, 6, none)
theorem zmX0_init : zMi zX0_init 5 := ⟨zT2_of (i := 190) rfl rfl, zT1_of (i := 14) rfl rfl, zT2_of (i := 191) rfl rfl, ⟨by decide, by decide, by decide +kernel⟩, by decide, rfl, rfl⟩
abbrev zX0_wearInAll : zY := (yX0_wearInAll, cX0_wearInAll, 1, (some .long))
theorem zmX0_wearInAll : zMv zX0_wearInAll 0 0 := ⟨zT3_of (i := 19) rfl rfl, zT3_of (i := 20) rfl rfl, zT1_of (i := 14) rfl rfl, zT3_of (i := 21) rfl rfl, ⟨by decide, by decide, by decide +kernel⟩, by decide, _, _, rfl⟩
abbrev zX0_isMoreUsedThan : zY := (yX0_isMoreUsedThan, cX0_isMoreUsedThan, 2, (some .boolean))
theorem zmX0_isMoreUsedThan : zMv zX0_isMoreUsedThan 0 1 := ⟨zT4_of (i := 1) rfl rfl, zT4_of (i := 2) rfl rfl, zT1_of (i := 14) rfl rfl, zT4_of (i := 3) rfl rfl, ⟨by decide, by decide, by decide +kernel⟩, by decide, _, _, rfl⟩
abbrev zX0_renew : zY := (yX0_renew, cX0_renew, 1, none)
theorem zmX0_renew : zMv zX0_renew 0 0 := ⟨zT3_of (i := 41) rfl rfl, zT3_of (i := 42) rfl rfl, zT1_of (i := 14) rfl rfl, zT3_of (i := 43) rfl rfl, ⟨by decide, by decide, by decide +kernel⟩, by decide, _, _, rfl⟩
abbrev zX0_cutBy : zY := (yX0_cutBy, cX0_cutBy, 4, none)
theorem zmX0_cutBy : zMv zX0_cutBy 0 3 := ⟨zT4_of (i := 6) rfl rfl, zT4_of (i := 7) rfl rfl, zT1_of (i := 14) rfl rfl, zT4_of (i := 8) rfl rfl, ⟨by decide, by decide, by decide +kernel⟩, by decide, _, _, rfl⟩
abbrev zX0_trailAt : zY := (yX0_trailAt, cX0_trailAt, 2, (some .int))
theorem zmX0_trailAt : zMv zX0_trailAt 0 1 := ⟨zT3_of (i := 53) rfl rfl, zT3_of (i := 54) rfl rfl, zT1_of (i := 14) rfl rfl, zT3_of (i := 55) rfl rfl, ⟨by decide, by decide, by decide +kernel⟩, by decide, _, _, rfl⟩
abbrev zX0_follow : zY := (yX0_follow, cX0_follow, 3, none)
theorem zmX0_follow : zMv zX0_follow 0 1 := ⟨zT4_of (i := 11) rfl rfl, zT4_of (i := 12) rfl rfl, zT1_of (i := 14) rfl rfl, zT4_of (i := 13) rfl rfl, ⟨by decide, by decide, by decide +kernel⟩, by decide, _, _, rfl⟩
abbrev zX1_init : zY := (yX1_init, cX1_init, 1, none)
theorem zmX1_init : zMi zX1_init 0 := ⟨zT1_of (i := 58) rfl rfl, zT1_of (i := 3) rfl rfl, zT1_of (i := 59) rfl rfl, ⟨by decide, by decide, by decide +kernel⟩, by decide, rfl, rfl⟩
abbrev zX1_forget : zY := (yX1_forget, cX1_forget, 2, none)
theorem zmX1_forget : zMv zX1_forget 1 0 := ⟨zT1_of (i := 65) rfl rfl, zT0_of (i := 0) rfl, zT1_of (i := 3) rfl rfl, zT1_of (i := 66) rfl rfl, ⟨by decide, by decide, by decide +kernel⟩, by decide, _, _, rfl⟩
abbrev zX1_add : zY := (yX1_add, cX1_add, 2, (some .int))
theorem zmX1_add : zMv zX1_add 1 1 := ⟨zT4_of (i := 26) rfl rfl, zT4_of (i := 27) rfl rfl, zT1_of (i := 3) rfl rfl, zT4_of (i := 28) rfl rfl, ⟨by decide, by decide, by decide +kernel⟩, by decide, _, _, rfl⟩
abbrev zX1_wantsAt : zY := (yX1_wantsAt, cX1_wantsAt, 3, (some .int))
theorem zmX1_wantsAt : zMv zX1_wantsAt 1 1 := ⟨zT4_of (i := 44) rfl rfl, zT0_of (i := 26) rfl, zT1_of (i := 3) rfl rfl, zT4_of (i := 45) rfl rfl, ⟨by decide, by decide, by decide +kernel⟩, by decide, _, _, rfl⟩
abbrev zX1_readOrder : zY := (yX1_readOrder, cX1_readOrder, 8, (some .boolean))
theorem zmX1_readOrder : zMv zX1_readOrder 1 1 := ⟨zT4_of (i := 34) rfl rfl, zT4_of (i := 35) rfl rfl, zT1_of (i := 3) rfl rfl, zT4_of (i := 36) rfl rfl, ⟨by decide, by decide, by decide +kernel⟩, by decide, _, _, rfl⟩
abbrev zX1_changesOfRow : zY := (yX1_changesOfRow, cX1_changesOfRow, 7, (some .int))
theorem zmX1_changesOfRow : zMv zX1_changesOfRow 1 1 := ⟨zT4_of (i := 39) rfl rfl, zT4_of (i := 40) rfl rfl, zT1_of (i := 3) rfl rfl, zT4_of (i := 41) rfl rfl, ⟨by decide, by decide, by decide +kernel⟩, by decide, _, _, rfl⟩
abbrev zX1_outgoing : zY := (yX1_outgoing, cX1_outgoing, 6, (some .int))
theorem zmX1_outgoing : zMv zX1_outgoing 1 2 := ⟨zT4_of (i := 49) rfl rfl, zT0_of (i := 27) rfl, zT1_of (i := 3) rfl rfl, zT4_of (i := 50) rfl rfl, ⟨by decide, by decide, by decide +kernel⟩, by decide, _, _, rfl⟩
abbrev zX1_greatestOf : zY := (yX1_greatestOf, cX1_greatestOf, 2, (some .int))
theorem zmX1_greatestOf : zMs zX1_greatestOf 1 := ⟨zT4_of (i := 52) rfl rfl, zT1_of (i := 3) rfl rfl, zT4_of (i := 53) rfl rfl, ⟨by decide, by decide, by decide +kernel⟩, by decide⟩
abbrev zX1_fewestChanges : zY := (yX1_fewestChanges, cX1_fewestChanges, 2, (some .int))
theorem zmX1_fewestChanges : zMv zX1_fewestChanges 1 1 := ⟨zT4_of (i := 59) rfl rfl, zT4_of (i := 60) rfl rfl, zT1_of (i := 3) rfl rfl, zT4_of (i := 61) rfl rfl, ⟨by decide, by decide, by decide +kernel⟩, by decide, _, _, rfl⟩
abbrev zX1_bestAt : zY := (yX1_bestAt, cX1_bestAt, 3, (some .int))
theorem zmX1_bestAt : zMv zX1_bestAt 1 2 := ⟨zT4_of (i := 80) rfl rfl, zT4_of (i := 81) rfl rfl, zT1_of (i := 3) rfl rfl, zT4_of (i := 82) rfl rfl, ⟨by decide, by decide, by decide +kernel⟩, by decide, _, _, rfl⟩
abbrev zX1_findBest : zY := (yX1_findBest, cX1_findBest, 4, none)
theorem zmX1_findBest : zMv zX1_findBest 1 1 := ⟨zT4_of (i := 64) rfl rfl, zT0_of (i := 28) rfl, zT1_of (i := 3) rfl rfl, zT4_of (i := 65) rfl rfl, ⟨by decide, by decide, by decide +kernel⟩, by decide, _, _, rfl⟩
abbrev zX1_keepRow : zY := (yX1_keepRow, cX1_keepRow, 4, none)
theorem zmX1_keepRow : zMv zX1_keepRow 1 2 := ⟨zT4_of (i := 69) rfl rfl, zT0_of (i := 29) rfl, zT1_of (i := 3) rfl rfl, zT4_of (i := 70) rfl rfl, ⟨by decide, by decide, by decide +kernel⟩, by decide, _, _, rfl⟩
abbrev zX1_nextRow : zY := (yX1_nextRow, cX1_nextRow, 5, (some .boolean))
theorem zmX1_nextRow : zMv zX1_nextRow 1 0 := ⟨zT4_of (i := 73) rfl rfl, zT0_of (i := 30) rfl, zT1_of (i := 3) rfl rfl, zT4_of (i := 74) rfl rfl, ⟨by decide, by decide, by decide +kernel⟩, by decide, _, _, rfl⟩
abbrev zX1_swap : zY := (yX1_swap, cX1_swap, 4, none)
theorem zmX1_swap : zMv zX1_swap 1 2 := ⟨zT4_of (i := 77) rfl rfl, zT0_of (i := 31) rfl, zT1_of (i := 3) rfl rfl, zT4_of (i := 78) rfl rfl, ⟨by decide, by decide, by decide +kernel⟩, by decide, _, _, rfl⟩
abbrev zX2_init : zY := (yX2_init, cX2_init, 4, none)
theorem zmX2_init : zMi zX2_init 2 := ⟨zT3_of (i := 176) rfl rfl, zT1_of (i := 17) rfl rfl, zT3_of (i := 177) rfl rfl, ⟨by decide, by decide, by decide +kernel⟩, by decide, rfl, rfl⟩
abbrev zX2_hasPlace : zY := (yX2_hasPlace, cX2_hasPlace, 2, (some .boolean))
theorem zmX2_hasPlace : zMv zX2_hasPlace 2 1 := ⟨zT3_of (i := 199) rfl rfl, zT3_of (i := 200) rfl rfl, zT1_of (i := 17) rfl rfl, zT3_of (i := 201) rfl rfl, ⟨by decide, by decide, by decide +kernel⟩, by decide, _, _, rfl⟩
abbrev zX2_heldAt : zY := (yX2_heldAt, cX2_heldAt, 2, (some .int))
theorem zmX2_heldAt : zMv zX2_heldAt 2 1 := ⟨zT3_of (i := 220) rfl rfl, zT3_of (i := 221) rfl rfl, zT1_of (i := 17) rfl rfl, zT3_of (i := 222) rfl rfl, ⟨by decide, by decide, by decide +kernel⟩, by decide, _, _, rfl⟩
abbrev zX2_hasRoom : zY := (yX2_hasRoom, cX2_hasRoom, 4, (some .boolean))
theorem zmX2_hasRoom : zMv zX2_hasRoom 2 2 := ⟨zT3_of (i := 203) rfl rfl, zT3_of (i := 204) rfl rfl, zT1_of (i := 17) rfl rfl, zT3_of (i := 205) rfl rfl, ⟨by decide, by decide, by decide +kernel⟩, by decide, _, _, rfl⟩
abbrev zX2_leastRoom : zY := (yX2_leastRoom, cX2_leastRoom, 3, (some .int))
theorem zmX2_leastRoom : zMv zX2_leastRoom 2 1 := ⟨zT3_of (i := 228) rfl rfl, zT3_of (i := 229) rfl rfl, zT1_of (i := 17) rfl rfl, zT3_of (i := 230) rfl rfl, ⟨by decide, by decide, by decide +kernel⟩, by decide, _, _, rfl⟩
abbrev zX2_hold : zY := (yX2_hold, cX2_hold, 5, none)
theorem zmX2_hold : zMv zX2_hold 2 3 := ⟨zT3_of (i := 208) rfl rfl, zT3_of (i := 209) rfl rfl, zT1_of (i := 17) rfl rfl, zT3_of (i := 210) rfl rfl, ⟨by decide, by decide, by decide +kernel⟩, by decide, _, _, rfl⟩
abbrev zX3_init : zY := (yX3_init, cX3_init, 2, none)
theorem zmX3_init : zMi zX3_init 1 := ⟨zT1_of (i := 112) rfl rfl, zT1_of (i := 5) rfl rfl, zT1_of (i := 113) rfl rfl, ⟨by decide, by decide, by decide +kernel⟩, by decide, rfl, rfl⟩
abbrev zX3_readInto : zY := (yX3_readInto, cX3_readInto, 2, (some .int))
theorem zmX3_readInto : zMv zX3_readInto 3 1 := ⟨zT1_of (i := 239) rfl rfl, zT2_of (i := 0) rfl rfl, zT1_of (i := 5) rfl rfl, zT2_of (i := 1) rfl rfl, ⟨by decide, by decide, by decide +kernel⟩, by decide, _, _, rfl⟩
abbrev zX3_readPart : zY := (yX3_readPart, cX3_readPart, 2, none)
theorem zmX3_readPart : zMv zX3_readPart 3 1 := ⟨zT2_of (i := 70) rfl rfl, zT0_of (i := 9) rfl, zT1_of (i := 5) rfl rfl, zT2_of (i := 71) rfl rfl, ⟨by decide, by decide, by decide +kernel⟩, by decide, _, _, rfl⟩
abbrev zX3_readEither : zY := (yX3_readEither, cX3_readEither, 3, none)
theorem zmX3_readEither : zMv zX3_readEither 3 1 := ⟨zT2_of (i := 90) rfl rfl, zT0_of (i := 13) rfl, zT1_of (i := 5) rfl rfl, zT2_of (i := 91) rfl rfl, ⟨by decide, by decide, by decide +kernel⟩, by decide, _, _, rfl⟩
abbrev zX3_readBoth : zY := (yX3_readBoth, cX3_readBoth, 3, none)
theorem zmX3_readBoth : zMv zX3_readBoth 3 1 := ⟨zT2_of (i := 94) rfl rfl, zT0_of (i := 14) rfl, zT1_of (i := 5) rfl rfl, zT2_of (i := 95) rfl rfl, ⟨by decide, by decide, by decide +kernel⟩, by decide, _, _, rfl⟩
abbrev zX3_readNot : zY := (yX3_readNot, cX3_readNot, 2, none)
theorem zmX3_readNot : zMv zX3_readNot 3 1 := ⟨zT2_of (i := 98) rfl rfl, zT0_of (i := 15) rfl, zT1_of (i := 5) rfl rfl, zT2_of (i := 99) rfl rfl, ⟨by decide, by decide, by decide +kernel⟩, by decide, _, _, rfl⟩
abbrev zX3_readSum : zY := (yX3_readSum, cX3_readSum, 4, none)
theorem zmX3_readSum : zMv zX3_readSum 3 1 := ⟨zT2_of (i := 110) rfl rfl, zT0_of (i := 17) rfl, zT1_of (i := 5) rfl rfl, zT2_of (i := 111) rfl rfl, ⟨by decide, by decide, by decide +kernel⟩, by decide, _, _, rfl⟩
abbrev zX3_readTerm : zY := (yX3_readTerm, cX3_readTerm, 3, none)
theorem zmX3_readTerm : zMv zX3_readTerm 3 1 := ⟨zT2_of (i := 114) rfl rfl, zT0_of (i := 18) rfl, zT1_of (i := 5) rfl rfl, zT2_of (i := 115) rfl rfl, ⟨by decide, by decide, by decide +kernel⟩, by decide, _, _, rfl⟩
abbrev zX3_readOne : zY := (yX3_readOne, cX3_readOne, 2, none)
theorem zmX3_readOne : zMv zX3_readOne 3 1 := ⟨zT2_of (i := 118) rfl rfl, zT0_of (i := 19) rfl, zT1_of (i := 5) rfl rfl, zT2_of (i := 119) rfl rfl, ⟨by decide, by decide, by decide +kernel⟩, by decide, _, _, rfl⟩
abbrev zX3_mayOpen : zY := (yX3_mayOpen, cX3_mayOpen, 2, (some .boolean))
theorem zmX3_mayOpen : zMv zX3_mayOpen 3 1 := ⟨zT2_of (i := 102) rfl rfl, zT0_of (i := 16) rfl, zT1_of (i := 5) rfl rfl, zT2_of (i := 103) rfl rfl, ⟨by decide, by decide, by decide +kernel⟩, by decide, _, _, rfl⟩
abbrev zX3_accept : zY := (yX3_accept, cX3_accept, 2, (some .boolean))
theorem zmX3_accept : zMv zX3_accept 3 1 := ⟨zT2_of (i := 122) rfl rfl, zT0_of (i := 20) rfl, zT1_of (i := 5) rfl rfl, zT2_of (i := 123) rfl rfl, ⟨by decide, by decide, by decide +kernel⟩, by decide, _, _, rfl⟩
abbrev zX3_expect : zY := (yX3_expect, cX3_expect, 2, none)
theorem zmX3_expect : zMv zX3_expect 3 1 := ⟨zT2_of (i := 74) rfl rfl, zT0_of (i := 10) rfl, zT1_of (i := 5) rfl rfl, zT2_of (i := 75) rfl rfl, ⟨by decide, by decide, by decide +kernel⟩, by decide, _, _, rfl⟩
abbrev zX3_refuse : zY := (yX3_refuse, cX3_refuse, 1, none)
theorem zmX3_refuse : zMv zX3_refuse 3 0 := ⟨zT2_of (i := 82) rfl rfl, zT0_of (i := 12) rfl, zT1_of (i := 5) rfl rfl, zT2_of (i := 83) rfl rfl, ⟨by decide, by decide, by decide +kernel⟩, by decide, _, _, rfl⟩
abbrev zX3_advance : zY := (yX3_advance, cX3_advance, 1, none)
theorem zmX3_advance : zMv zX3_advance 3 0 := ⟨zT2_of (i := 78) rfl rfl, zT0_of (i := 11) rfl, zT1_of (i := 5) rfl rfl, zT2_of (i := 79) rfl rfl, ⟨by decide, by decide, by decide +kernel⟩, by decide, _, _, rfl⟩
abbrev zX4_init : zY := (yX4_init, cX4_init, 1, none)
theorem zmX4_init : zMi zX4_init 0 := ⟨zT1_of (i := 40) rfl rfl, zT1_of (i := 2) rfl rfl, zT1_of (i := 41) rfl rfl, ⟨by decide, by decide, by decide +kernel⟩, by decide, rfl, rfl⟩
abbrev zX4_reads : zY := (yX4_reads, cX4_reads, 2, (some .int))
theorem zmX4_reads : zMv zX4_reads 4 1 := ⟨zT3_of (i := 121) rfl rfl, zT3_of (i := 122) rfl rfl, zT1_of (i := 2) rfl rfl, zT3_of (i := 123) rfl rfl, ⟨by decide, by decide, by decide +kernel⟩, by decide, _, _, rfl⟩
abbrev zX5_init : zY := (yX5_init, cX5_init, 1, none)
theorem zmX5_init : zMi zX5_init 0 := ⟨zT1_of (i := 164) rfl rfl, zT1_of (i := 8) rfl rfl, zT1_of (i := 165) rfl rfl, ⟨by decide, by decide, by decide +kernel⟩, by decide, rfl, rfl⟩
abbrev zX5_become : zY := (yX5_become, cX5_become, 4, none)
theorem zmX5_become : zMv zX5_become 5 2 := ⟨zT4_of (i := 100) rfl rfl, zT4_of (i := 101) rfl rfl, zT1_of (i := 8) rfl rfl, zT4_of (i := 102) rfl rfl, ⟨by decide, by decide, by decide +kernel⟩, by decide, _, _, rfl⟩
abbrev zX5_has : zY := (yX5_has, cX5_has, 2, (some .boolean))
theorem zmX5_has : zMv zX5_has 5 1 := ⟨zT4_of (i := 108) rfl rfl, zT4_of (i := 109) rfl rfl, zT1_of (i := 8) rfl rfl, zT4_of (i := 110) rfl rfl, ⟨by decide, by decide, by decide +kernel⟩, by decide, _, _, rfl⟩
abbrev zX5_get : zY := (yX5_get, cX5_get, 2, (some .int))
theorem zmX5_get : zMv zX5_get 5 1 := ⟨zT4_of (i := 125) rfl rfl, zT4_of (i := 126) rfl rfl, zT1_of (i := 8) rfl rfl, zT4_of (i := 127) rfl rfl, ⟨by decide, by decide, by decide +kernel⟩, by decide, _, _, rfl⟩
abbrev zX5_set : zY := (yX5_set, cX5_set, 3, none)
theorem zmX5_set : zMv zX5_set 5 2 := ⟨zT4_of (i := 112) rfl rfl, zT4_of (i := 113) rfl rfl, zT1_of (i := 8) rfl rfl, zT4_of (i := 114) rfl rfl, ⟨by decide, by decide, by decide +kernel⟩, by decide, _, _, rfl⟩
abbrev zX6_init : zY := (yX6_init, cX6_init, 1, none)
theorem zmX6_init : zMi zX6_init 0 := ⟨zT1_of (i := 134) rfl rfl, zT1_of (i := 6) rfl rfl, zT1_of (i := 135) rfl rfl, ⟨by decide, by decide, by decide +kernel⟩, by decide, rfl, rfl⟩
abbrev zX6_clear : zY := (yX6_clear, cX6_clear, 1, none)
theorem zmX6_clear : zMv zX6_clear 6 0 := ⟨zT3_of (i := 153) rfl rfl, zT3_of (i := 154) rfl rfl, zT1_of (i := 6) rfl rfl, zT3_of (i := 155) rfl rfl, ⟨by decide, by decide, by decide +kernel⟩, by decide, _, _, rfl⟩
abbrev zX6_push : zY := (yX6_push, cX6_push, 2, none)
theorem zmX6_push : zMv zX6_push 6 1 := ⟨zT3_of (i := 167) rfl rfl, zT3_of (i := 168) rfl rfl, zT1_of (i := 6) rfl rfl, zT3_of (i := 169) rfl rfl, ⟨by decide, by decide, by decide +kernel⟩, by decide, _, _, rfl⟩
abbrev zX6_pop : zY := (yX6_pop, cX6_pop, 1, (some .int))
theorem zmX6_pop : zMv zX6_pop 6 0 := ⟨zT3_of (i := 160) rfl rfl, zT3_of (i := 161) rfl rfl, zT1_of (i := 6) rfl rfl, zT3_of (i := 162) rfl rfl, ⟨by decide, by decide, by decide +kernel⟩, by decide, _, _, rfl⟩
abbrev zX7_init : zY := (yX7_init, cX7_init, 1, none)
theorem zmX7_init : zMi zX7_init 0 := ⟨zT1_of (i := 88) rfl rfl, zT1_of (i := 4) rfl rfl, zT1_of (i := 89) rfl rfl, ⟨by decide, by decide, by decide +kernel⟩, by decide, rfl, rfl⟩
abbrev zX7_add : zY := (yX7_add, cX7_add, 2, none)
theorem zmX7_add : zMv zX7_add 7 1 := ⟨zT1_of (i := 228) rfl rfl, zT1_of (i := 229) rfl rfl, zT1_of (i := 4) rfl rfl, zT1_of (i := 230) rfl rfl, ⟨by decide, by decide, by decide +kernel⟩, by decide, _, _, rfl⟩
abbrev zX7_empty : zY := (yX7_empty, cX7_empty, 1, none)
theorem zmX7_empty : zMv zX7_empty 7 0 := ⟨zT2_of (i := 129) rfl rfl, zT2_of (i := 130) rfl rfl, zT1_of (i := 4) rfl rfl, zT2_of (i := 131) rfl rfl, ⟨by decide, by decide, by decide +kernel⟩, by decide, _, _, rfl⟩
abbrev zX7_split : zY := (yX7_split, cX7_split, 2, none)
theorem zmX7_split : zMv zX7_split 7 0 := ⟨zT2_of (i := 7) rfl rfl, zT2_of (i := 8) rfl rfl, zT1_of (i := 4) rfl rfl, zT2_of (i := 9) rfl rfl, ⟨by decide, by decide, by decide +kernel⟩, by decide, _, _, rfl⟩
abbrev zX7_keep : zY := (yX7_keep, cX7_keep, 3, none)
theorem zmX7_keep : zMv zX7_keep 7 2 := ⟨zT2_of (i := 62) rfl rfl, zT0_of (i := 8) rfl, zT1_of (i := 4) rfl rfl, zT2_of (i := 63) rfl rfl, ⟨by decide, by decide, by decide +kernel⟩, by decide, _, _, rfl⟩
abbrev zX7_tokenAt : zY := (yX7_tokenAt, cX7_tokenAt, 2, (some .int))
theorem zmX7_tokenAt : zMv zX7_tokenAt 7 1 := ⟨zT2_of (i := 65) rfl rfl, zT2_of (i := 66) rfl rfl, zT1_of (i := 4) rfl rfl, zT2_of (i := 67) rfl rfl, ⟨by decide, by decide, by decide +kernel⟩, by decide, _, _, rfl⟩
abbrev zX7_placeAt : zY := (yX7_placeAt, cX7_placeAt, 2, (some .int))
theorem zmX7_placeAt : zMv zX7_placeAt 7 1 := ⟨zT2_of (i := 85) rfl rfl, zT2_of (i := 86) rfl rfl, zT1_of (i := 4) rfl rfl, zT2_of (i := 87) rfl rfl, ⟨by decide, by decide, by decide +kernel⟩, by decide, _, _, rfl⟩
abbrev zX7_byteAt : zY := (yX7_byteAt, cX7_byteAt, 2, (some .int))
theorem zmX7_byteAt : zMv zX7_byteAt 7 1 := ⟨zT2_of (i := 16) rfl rfl, zT0_of (i := 3) rfl, zT1_of (i := 4) rfl rfl, zT2_of (i := 17) rfl rfl, ⟨by decide, by decide, by decide +kernel⟩, by decide, _, _, rfl⟩
abbrev zX7_isBegin : zY := (yX7_isBegin, cX7_isBegin, 3, (some .boolean))
theorem zmX7_isBegin : zMv zX7_isBegin 7 1 := ⟨zT2_of (i := 12) rfl rfl, zT0_of (i := 2) rfl, zT1_of (i := 4) rfl rfl, zT2_of (i := 13) rfl rfl, ⟨by decide, by decide, by decide +kernel⟩, by decide, _, _, rfl⟩
abbrev zX7_isOneRun : zY := (yX7_isOneRun, cX7_isOneRun, 2, (some .boolean))
theorem zmX7_isOneRun : zMs zX7_isOneRun 2 := ⟨zT2_of (i := 19) rfl rfl, zT1_of (i := 4) rfl rfl, zT2_of (i := 20) rfl rfl, ⟨by decide, by decide, by decide +kernel⟩, by decide⟩
abbrev zX7_isLetter : zY := (yX7_isLetter, cX7_isLetter, 1, (some .boolean))
theorem zmX7_isLetter : zMs zX7_isLetter 1 := ⟨zT2_of (i := 22) rfl rfl, zT1_of (i := 4) rfl rfl, zT2_of (i := 23) rfl rfl, ⟨by decide, by decide, by decide +kernel⟩, by decide⟩
abbrev zX7_isDigit : zY := (yX7_isDigit, cX7_isDigit, 1, (some .boolean))
theorem zmX7_isDigit : zMs zX7_isDigit 1 := ⟨zT2_of (i := 25) rfl rfl, zT1_of (i := 4) rfl rfl, zT2_of (i := 26) rfl rfl, ⟨by decide, by decide, by decide +kernel⟩, by decide⟩
abbrev zX7_tokenFrom : zY := (yX7_tokenFrom, cX7_tokenFrom, 4, (some .int))
theorem zmX7_tokenFrom : zMv zX7_tokenFrom 7 1 := ⟨zT2_of (i := 29) rfl rfl, zT0_of (i := 4) rfl, zT1_of (i := 4) rfl rfl, zT2_of (i := 30) rfl rfl, ⟨by decide, by decide, by decide +kernel⟩, by decide, _, _, rfl⟩
abbrev zX7_numberOf : zY := (yX7_numberOf, cX7_numberOf, 5, (some .int))
theorem zmX7_numberOf : zMv zX7_numberOf 7 2 := ⟨zT2_of (i := 55) rfl rfl, zT0_of (i := 7) rfl, zT1_of (i := 4) rfl rfl, zT2_of (i := 56) rfl rfl, ⟨by decide, by decide, by decide +kernel⟩, by decide, _, _, rfl⟩
abbrev zX7_signOf : zY := (yX7_signOf, cX7_signOf, 1, (some .int))
theorem zmX7_signOf : zMs zX7_signOf 1 := ⟨zT2_of (i := 58) rfl rfl, zT1_of (i := 4) rfl rfl, zT2_of (i := 59) rfl rfl, ⟨by decide, by decide, by decide +kernel⟩, by decide⟩
abbrev zX7_wordOf : zY := (yX7_wordOf, cX7_wordOf, 3, (some .int))
theorem zmX7_wordOf : zMv zX7_wordOf 7 2 := ⟨zT2_of (i := 33) rfl rfl, zT0_of (i := 5) rfl, zT1_of (i := 4) rfl rfl, zT2_of (i := 34) rfl rfl, ⟨by decide, by decide, by decide +kernel⟩, by decide, _, _, rfl⟩
abbrev zX7_isWord : zY := (yX7_isWord, cX7_isWord, 5, (some .boolean))
theorem zmX7_isWord : zMv zX7_isWord 7 3 := ⟨zT2_of (i := 38) rfl rfl, zT0_of (i := 6) rfl, zT1_of (i := 4) rfl rfl, zT2_of (i := 39) rfl rfl, ⟨by decide, by decide, by decide +kernel⟩, by decide, _, _, rfl⟩
abbrev zX8_init : zY := (yX8_init, cX8_init, 1, none)
theorem zmX8_init : zMi zX8_init 0 := ⟨zT1_of (i := 146) rfl rfl, zT1_of (i := 7) rfl rfl, zT1_of (i := 147) rfl rfl, ⟨by decide, by decide, by decide +kernel⟩, by decide, rfl, rfl⟩
abbrev zX8_clear : zY := (yX8_clear, cX8_clear, 1, none)
theorem zmX8_clear : zMv zX8_clear 8 0 := ⟨zT2_of (i := 3) rfl rfl, zT2_of (i := 4) rfl rfl, zT1_of (i := 7) rfl rfl, zT2_of (i := 5) rfl rfl, ⟨by decide, by decide, by decide +kernel⟩, by decide, _, _, rfl⟩
abbrev zX8_add : zY := (yX8_add, cX8_add, 2, none)
theorem zmX8_add : zMv zX8_add 8 1 := ⟨zT2_of (i := 105) rfl rfl, zT2_of (i := 106) rfl rfl, zT1_of (i := 7) rfl rfl, zT2_of (i := 107) rfl rfl, ⟨by decide, by decide, by decide +kernel⟩, by decide, _, _, rfl⟩
abbrev zX8_closePart : zY := (yX8_closePart, cX8_closePart, 1, none)
theorem zmX8_closePart : zMv zX8_closePart 8 0 := ⟨zT2_of (i := 125) rfl rfl, zT2_of (i := 126) rfl rfl, zT1_of (i := 7) rfl rfl, zT2_of (i := 127) rfl rfl, ⟨by decide, by decide, by decide +kernel⟩, by decide, _, _, rfl⟩
abbrev zX8_valueOf : zY := (yX8_valueOf, cX8_valueOf, 6, (some .int))
theorem zmX8_valueOf : zMv zX8_valueOf 8 3 := ⟨zT3_of (i := 149) rfl rfl, zT3_of (i := 150) rfl rfl, zT1_of (i := 7) rfl rfl, zT3_of (i := 151) rfl rfl, ⟨by decide, by decide, by decide +kernel⟩, by decide, _, _, rfl⟩
abbrev zX8_resultOf : zY := (yX8_resultOf, cX8_resultOf, 5, (some .int))
theorem zmX8_resultOf : zMs zX8_resultOf 3 := ⟨zT3_of (i := 157) rfl rfl, zT1_of (i := 7) rfl rfl, zT3_of (i := 158) rfl rfl, ⟨by decide, by decide, by decide +kernel⟩, by decide⟩
abbrev zX8_joined : zY := (yX8_joined, cX8_joined, 3, (some .int))
theorem zmX8_joined : zMs zX8_joined 3 := ⟨zT3_of (i := 164) rfl rfl, zT1_of (i := 7) rfl rfl, zT3_of (i := 165) rfl rfl, ⟨by decide, by decide, by decide +kernel⟩, by decide⟩
abbrev zX9_init : zY := (yX9_init, cX9_init, 6, none)
theorem zmX9_init : zMi zX9_init 5 := ⟨zT3_of (i := 65) rfl rfl, zT1_of (i := 16) rfl rfl, zT3_of (i := 66) rfl rfl, ⟨by decide, by decide, by decide +kernel⟩, by decide, rfl, rfl⟩
abbrev zX9_nominal : zY := (yX9_nominal, cX9_nominal, 1, (some .int))
theorem zmX9_nominal : zMv zX9_nominal 9 0 := ⟨zT3_of (i := 109) rfl rfl, zT3_of (i := 110) rfl rfl, zT1_of (i := 16) rfl rfl, zT3_of (i := 111) rfl rfl, ⟨by decide, by decide, by decide +kernel⟩, by decide, _, _, rfl⟩
abbrev zX10_init : zY := (yX10_init, cX10_init, 2, none)
theorem zmX10_init : zMi zX10_init 0 := ⟨zT1_of (i := 22) rfl rfl, zT1_of (i := 1) rfl rfl, zT1_of (i := 23) rfl rfl, ⟨by decide, by decide, by decide +kernel⟩, by decide, rfl, rfl⟩
abbrev zX10_edge : zY := (yX10_edge, cX10_edge, 7, (some .int))
theorem zmX10_edge : zMv zX10_edge 10 5 := ⟨zT2_of (i := 182) rfl rfl, zT2_of (i := 183) rfl rfl, zT1_of (i := 1) rfl rfl, zT2_of (i := 184) rfl rfl, ⟨by decide, by decide, by decide +kernel⟩, by decide, _, _, rfl⟩
abbrev zX10_edgeTold : zY := (yX10_edgeTold, cX10_edgeTold, 4, (some .int))
theorem zmX10_edgeTold : zMv zX10_edgeTold 10 2 := ⟨zT3_of (i := 6) rfl rfl, zT3_of (i := 7) rfl rfl, zT1_of (i := 1) rfl rfl, zT3_of (i := 8) rfl rfl, ⟨by decide, by decide, by decide +kernel⟩, by decide, _, _, rfl⟩
abbrev zX10_used : zY := (yX10_used, cX10_used, 6, (some .long))
theorem zmX10_used : zMv zX10_used 10 2 := ⟨zT3_of (i := 14) rfl rfl, zT3_of (i := 15) rfl rfl, zT1_of (i := 1) rfl rfl, zT3_of (i := 16) rfl rfl, ⟨by decide, by decide, by decide +kernel⟩, by decide, _, _, rfl⟩
abbrev zX10_wear : zY := (yX10_wear, cX10_wear, 5, (some .int))
theorem zmX10_wear : zMv zX10_wear 10 3 := ⟨zT3_of (i := 27) rfl rfl, zT3_of (i := 28) rfl rfl, zT1_of (i := 1) rfl rfl, zT3_of (i := 29) rfl rfl, ⟨by decide, by decide, by decide +kernel⟩, by decide, _, _, rfl⟩
abbrev zX10_turn : zY := (yX10_turn, cX10_turn, 3, (some .int))
theorem zmX10_turn : zMv zX10_turn 10 1 := ⟨zT3_of (i := 37) rfl rfl, zT3_of (i := 38) rfl rfl, zT1_of (i := 1) rfl rfl, zT3_of (i := 39) rfl rfl, ⟨by decide, by decide, by decide +kernel⟩, by decide, _, _, rfl⟩
abbrev zX10_grind : zY := (yX10_grind, cX10_grind, 4, (some .int))
theorem zmX10_grind : zMv zX10_grind 10 2 := ⟨zT3_of (i := 45) rfl rfl, zT3_of (i := 46) rfl rfl, zT1_of (i := 1) rfl rfl, zT3_of (i := 47) rfl rfl, ⟨by decide, by decide, by decide +kernel⟩, by decide, _, _, rfl⟩
abbrev zX10_trail : zY := (yX10_trail, cX10_trail, 4, (some .int))
theorem zmX10_trail : zMv zX10_trail 10 2 := ⟨zT3_of (i := 49) rfl rfl, zT3_of (i := 50) rfl rfl, zT1_of (i := 1) rfl rfl, zT3_of (i := 51) rfl rfl, ⟨by decide, by decide, by decide +kernel⟩, by decide, _, _, rfl⟩
abbrev zX10_tool : zY := (yX10_tool, cX10_tool, 6, (some .int))
theorem zmX10_tool : zMv zX10_tool 10 4 := ⟨zT3_of (i := 57) rfl rfl, zT3_of (i := 58) rfl rfl, zT1_of (i := 1) rfl rfl, zT3_of (i := 59) rfl rfl, ⟨by decide, by decide, by decide +kernel⟩, by decide, _, _, rfl⟩
abbrev zX10_toolTold : zY := (yX10_toolTold, cX10_toolTold, 4, (some .int))
theorem zmX10_toolTold : zMv zX10_toolTold 10 2 := ⟨zT3_of (i := 101) rfl rfl, zT3_of (i := 102) rfl rfl, zT1_of (i := 1) rfl rfl, zT3_of (i := 103) rfl rfl, ⟨by decide, by decide, by decide +kernel⟩, by decide, _, _, rfl⟩
abbrev zX10_setter : zY := (yX10_setter, cX10_setter, 3, (some .int))
theorem zmX10_setter : zMv zX10_setter 10 2 := ⟨zT3_of (i := 113) rfl rfl, zT3_of (i := 114) rfl rfl, zT1_of (i := 1) rfl rfl, zT3_of (i := 115) rfl rfl, ⟨by decide, by decide, by decide +kernel⟩, by decide, _, _, rfl⟩
abbrev zX10_calibrate : zY := (yX10_calibrate, cX10_calibrate, 2, (some .int))
theorem zmX10_calibrate : zMv zX10_calibrate 10 1 := ⟨zT3_of (i := 117) rfl rfl, zT3_of (i := 118) rfl rfl, zT1_of (i := 1) rfl rfl, zT3_of (i := 119) rfl rfl, ⟨by decide, by decide, by decide +kernel⟩, by decide, _, _, rfl⟩
abbrev zX10_measure : zY := (yX10_measure, cX10_measure, 3, (some .int))
theorem zmX10_measure : zMv zX10_measure 10 1 := ⟨zT3_of (i := 125) rfl rfl, zT3_of (i := 126) rfl rfl, zT1_of (i := 1) rfl rfl, zT3_of (i := 127) rfl rfl, ⟨by decide, by decide, by decide +kernel⟩, by decide, _, _, rfl⟩
abbrev zX10_feed : zY := (yX10_feed, cX10_feed, 5, (some .int))
theorem zmX10_feed : zMv zX10_feed 10 2 := ⟨zT3_of (i := 129) rfl rfl, zT3_of (i := 130) rfl rfl, zT1_of (i := 1) rfl rfl, zT3_of (i := 131) rfl rfl, ⟨by decide, by decide, by decide +kernel⟩, by decide, _, _, rfl⟩
abbrev zX10_text : zY := (yX10_text, cX10_text, 2, (some .int))
theorem zmX10_text : zMv zX10_text 10 0 := ⟨zT3_of (i := 133) rfl rfl, zT3_of (i := 134) rfl rfl, zT1_of (i := 1) rfl rfl, zT3_of (i := 135) rfl rfl, ⟨by decide, by decide, by decide +kernel⟩, by decide, _, _, rfl⟩
abbrev zX10_force : zY := (yX10_force, cX10_force, 3, (some .int))
theorem zmX10_force : zMv zX10_force 10 1 := ⟨zT3_of (i := 137) rfl rfl, zT3_of (i := 138) rfl rfl, zT1_of (i := 1) rfl rfl, zT3_of (i := 139) rfl rfl, ⟨by decide, by decide, by decide +kernel⟩, by decide, _, _, rfl⟩
abbrev zX10_says : zY := (yX10_says, cX10_says, 4, (some .long))
theorem zmX10_says : zMv zX10_says 10 2 := ⟨zT3_of (i := 141) rfl rfl, zT3_of (i := 142) rfl rfl, zT1_of (i := 1) rfl rfl, zT3_of (i := 143) rfl rfl, ⟨by decide, by decide, by decide +kernel⟩, by decide, _, _, rfl⟩
abbrev zX10_machine : zY := (yX10_machine, cX10_machine, 3, (some .int))
theorem zmX10_machine : zMv zX10_machine 10 2 := ⟨zT3_of (i := 171) rfl rfl, zT3_of (i := 172) rfl rfl, zT1_of (i := 1) rfl rfl, zT3_of (i := 173) rfl rfl, ⟨by decide, by decide, by decide +kernel⟩, by decide, _, _, rfl⟩
abbrev zX10_put : zY := (yX10_put, cX10_put, 6, (some .int))
theorem zmX10_put : zMv zX10_put 10 3 := ⟨zT3_of (i := 191) rfl rfl, zT3_of (i := 192) rfl rfl, zT1_of (i := 1) rfl rfl, zT3_of (i := 193) rfl rfl, ⟨by decide, by decide, by decide +kernel⟩, by decide, _, _, rfl⟩
abbrev zX10_take : zY := (yX10_take, cX10_take, 5, (some .int))
theorem zmX10_take : zMv zX10_take 10 1 := ⟨zT3_of (i := 212) rfl rfl, zT3_of (i := 213) rfl rfl, zT1_of (i := 1) rfl rfl, zT3_of (i := 214) rfl rfl, ⟨by decide, by decide, by decide +kernel⟩, by decide, _, _, rfl⟩
abbrev zX10_at : zY := (yX10_at, cX10_at, 4, (some .int))
theorem zmX10_at : zMv zX10_at 10 2 := ⟨zT3_of (i := 216) rfl rfl, zT3_of (i := 217) rfl rfl, zT1_of (i := 1) rfl rfl, zT3_of (i := 218) rfl rfl, ⟨by decide, by decide, by decide +kernel⟩, by decide, _, _, rfl⟩
abbrev zX10_room : zY := (yX10_room, cX10_room, 5, (some .int))
theorem zmX10_room : zMv zX10_room 10 2 := ⟨zT3_of (i := 224) rfl rfl, zT3_of (i := 225) rfl rfl, zT1_of (i := 1) rfl rfl, zT3_of (i := 226) rfl rfl, ⟨by decide, by decide, by decide +kernel⟩, by decide, _, _, rfl⟩
abbrev zX10_cut : zY := (yX10_cut, cX10_cut, 9, (some .int))
theorem zmX10_cut : zMv zX10_cut 10 4 := ⟨zT3_of (i := 233) rfl rfl, zT3_of (i := 234) rfl rfl, zT1_of (i := 1) rfl rfl, zT3_of (i := 235) rfl rfl, ⟨by decide, by decide, by decide +kernel⟩, by decide, _, _, rfl⟩
abbrev zX10_job : zY := (yX10_job, cX10_job, 2, (some .int))
theorem zmX10_job : zMv zX10_job 10 1 := ⟨zT4_of (i := 16) rfl rfl, zT4_of (i := 17) rfl rfl, zT1_of (i := 1) rfl rfl, zT4_of (i := 18) rfl rfl, ⟨by decide, by decide, by decide +kernel⟩, by decide, _, _, rfl⟩
abbrev zX10_changes : zY := (yX10_changes, cX10_changes, 4, (some .int))
theorem zmX10_changes : zMv zX10_changes 10 2 := ⟨zT4_of (i := 30) rfl rfl, zT4_of (i := 31) rfl rfl, zT1_of (i := 1) rfl rfl, zT4_of (i := 32) rfl rfl, ⟨by decide, by decide, by decide +kernel⟩, by decide, _, _, rfl⟩
abbrev zX10_order : zY := (yX10_order, cX10_order, 4, (some .int))
theorem zmX10_order : zMv zX10_order 10 2 := ⟨zT4_of (i := 55) rfl rfl, zT4_of (i := 56) rfl rfl, zT1_of (i := 1) rfl rfl, zT4_of (i := 57) rfl rfl, ⟨by decide, by decide, by decide +kernel⟩, by decide, _, _, rfl⟩
abbrev zX10_count : zY := (yX10_count, cX10_count, 2, (some .int))
theorem zmX10_count : zMv zX10_count 10 1 := ⟨zT4_of (i := 84) rfl rfl, zT4_of (i := 85) rfl rfl, zT1_of (i := 1) rfl rfl, zT4_of (i := 86) rfl rfl, ⟨by decide, by decide, by decide +kernel⟩, by decide, _, _, rfl⟩
abbrev zX10_sheet : zY := (yX10_sheet, cX10_sheet, 5, (some .int))
theorem zmX10_sheet : zMv zX10_sheet 10 3 := ⟨zT4_of (i := 92) rfl rfl, zT4_of (i := 93) rfl rfl, zT1_of (i := 1) rfl rfl, zT4_of (i := 94) rfl rfl, ⟨by decide, by decide, by decide +kernel⟩, by decide, _, _, rfl⟩
abbrev zX10_cell : zY := (yX10_cell, cX10_cell, 5, (some .int))
theorem zmX10_cell : zMv zX10_cell 10 3 := ⟨zT4_of (i := 104) rfl rfl, zT4_of (i := 105) rfl rfl, zT1_of (i := 1) rfl rfl, zT4_of (i := 106) rfl rfl, ⟨by decide, by decide, by decide +kernel⟩, by decide, _, _, rfl⟩
abbrev zX10_cuts : zY := (yX10_cuts, cX10_cuts, 7, (some .int))
theorem zmX10_cuts : zMv zX10_cuts 10 5 := ⟨zT4_of (i := 117) rfl rfl, zT4_of (i := 118) rfl rfl, zT1_of (i := 1) rfl rfl, zT4_of (i := 119) rfl rfl, ⟨by decide, by decide, by decide +kernel⟩, by decide, _, _, rfl⟩
abbrev zX10_taken : zY := (yX10_taken, cX10_taken, 4, (some .int))
theorem zmX10_taken : zMv zX10_taken 10 2 := ⟨zT4_of (i := 130) rfl rfl, zT4_of (i := 131) rfl rfl, zT1_of (i := 1) rfl rfl, zT4_of (i := 132) rfl rfl, ⟨by decide, by decide, by decide +kernel⟩, by decide, _, _, rfl⟩
abbrev zX10_within : zY := (yX10_within, cX10_within, 3, (some .boolean))
theorem zmX10_within : zMs zX10_within 3 := ⟨zT1_of (i := 236) rfl rfl, zT1_of (i := 1) rfl rfl, zT1_of (i := 237) rfl rfl, ⟨by decide, by decide, by decide +kernel⟩, by decide⟩
abbrev zX10_isFamily : zY := (yX10_isFamily, cX10_isFamily, 1, (some .boolean))
theorem zmX10_isFamily : zMs zX10_isFamily 1 := ⟨zT3_of (i := 61) rfl rfl, zT1_of (i := 1) rfl rfl, zT3_of (i := 62) rfl rfl, ⟨by decide, by decide, by decide +kernel⟩, by decide⟩
abbrev zX10_edgeOf : zY := (yX10_edgeOf, cX10_edgeOf, 2, (some (.object "ToolCrib$Edge")))
theorem zmX10_edgeOf : zMv zX10_edgeOf 10 1 := ⟨zT3_of (i := 11) rfl rfl, zT0_of (i := 21) rfl, zT1_of (i := 1) rfl rfl, zT3_of (i := 12) rfl rfl, ⟨by decide, by decide, by decide +kernel⟩, by decide, _, _, rfl⟩
abbrev zX10_toolOf : zY := (yX10_toolOf, cX10_toolOf, 2, (some (.object "ToolCrib$Tool")))
theorem zmX10_toolOf : zMv zX10_toolOf 10 1 := ⟨zT3_of (i := 106) rfl rfl, zT0_of (i := 22) rfl, zT1_of (i := 1) rfl rfl, zT3_of (i := 107) rfl rfl, ⟨by decide, by decide, by decide +kernel⟩, by decide, _, _, rfl⟩
abbrev zX10_textOf : zY := (yX10_textOf, cX10_textOf, 2, (some (.object "ToolCrib$Text")))
theorem zmX10_textOf : zMv zX10_textOf 10 1 := ⟨zT1_of (i := 233) rfl rfl, zT0_of (i := 1) rfl, zT1_of (i := 1) rfl rfl, zT1_of (i := 234) rfl rfl, ⟨by decide, by decide, by decide +kernel⟩, by decide, _, _, rfl⟩
abbrev zX10_machineOf : zY := (yX10_machineOf, cX10_machineOf, 2, (some (.object "ToolCrib$Machine")))
theorem zmX10_machineOf : zMv zX10_machineOf 10 1 := ⟨zT3_of (i := 196) rfl rfl, zT0_of (i := 24) rfl, zT1_of (i := 1) rfl rfl, zT3_of (i := 197) rfl rfl, ⟨by decide, by decide, by decide +kernel⟩, by decide, _, _, rfl⟩
abbrev zX10_sheetOf : zY := (yX10_sheetOf, cX10_sheetOf, 2, (some (.object "ToolCrib$Sheet")))
theorem zmX10_sheetOf : zMv zX10_sheetOf 10 1 := ⟨zT4_of (i := 97) rfl rfl, zT0_of (i := 33) rfl, zT1_of (i := 1) rfl rfl, zT4_of (i := 98) rfl rfl, ⟨by decide, by decide, by decide +kernel⟩, by decide, _, _, rfl⟩
abbrev zX10_isUnder : zY := (yX10_isUnder, cX10_isUnder, 2, (some .boolean))
theorem zmX10_isUnder : zMs zX10_isUnder 2 := ⟨zT2_of (i := 186) rfl rfl, zT1_of (i := 1) rfl rfl, zT2_of (i := 187) rfl rfl, ⟨by decide, by decide, by decide +kernel⟩, by decide⟩
abbrev zX10_wearOf : zY := (yX10_wearOf, cX10_wearOf, 4, (some .int))
theorem zmX10_wearOf : zMs zX10_wearOf 3 := ⟨zT3_of (i := 31) rfl rfl, zT1_of (i := 1) rfl rfl, zT3_of (i := 32) rfl rfl, ⟨by decide, by decide, by decide +kernel⟩, by decide⟩
abbrev zX10_commonDivisor : zY := (yX10_commonDivisor, cX10_commonDivisor, 11, (some .long))
theorem zmX10_commonDivisor : zMs zX10_commonDivisor 2 := ⟨zT3_of (i := 24) rfl rfl, zT1_of (i := 1) rfl rfl, zT3_of (i := 25) rfl rfl, ⟨by decide, by decide, by decide +kernel⟩, by decide⟩
abbrev zX10_edgesNotGood : zY := (yX10_edgesNotGood, cX10_edgesNotGood, 4, (some .int))
theorem zmX10_edgesNotGood : zMv zX10_edgesNotGood 10 0 := ⟨zT4_of (i := 89) rfl rfl, zT0_of (i := 32) rfl, zT1_of (i := 1) rfl rfl, zT4_of (i := 90) rfl rfl, ⟨by decide, by decide, by decide +kernel⟩, by decide, _, _, rfl⟩
abbrev zX10_ruleFor : zY := (yX10_ruleFor, cX10_ruleFor, 5, (some .int))
theorem zmX10_ruleFor : zMv zX10_ruleFor 10 2 := ⟨zT3_of (i := 146) rfl rfl, zT0_of (i := 23) rfl, zT1_of (i := 1) rfl rfl, zT3_of (i := 147) rfl rfl, ⟨by decide, by decide, by decide +kernel⟩, by decide, _, _, rfl⟩
abbrev zX10_takerOf : zY := (yX10_takerOf, cX10_takerOf, 7, (some .int))
theorem zmX10_takerOf : zMv zX10_takerOf 10 2 := ⟨zT3_of (i := 238) rfl rfl, zT0_of (i := 25) rfl, zT1_of (i := 1) rfl rfl, zT3_of (i := 239) rfl rfl, ⟨by decide, by decide, by decide +kernel⟩, by decide, _, _, rfl⟩
abbrev zX10_cutBySheet : zY := (yX10_cutBySheet, cX10_cutBySheet, 8, (some .int))
theorem zmX10_cutBySheet : zMv zX10_cutBySheet 10 4 := ⟨zT4_of (i := 122) rfl rfl, zT0_of (i := 34) rfl, zT1_of (i := 1) rfl rfl, zT4_of (i := 123) rfl rfl, ⟨by decide, by decide, by decide +kernel⟩, by decide, _, _, rfl⟩
abbrev zX11_in : zY := (yX11_in, cX11_in, 3, (some .boolean))
theorem zmX11_in : zMs zX11_in 3 := ⟨zT5_of (i := 96) rfl rfl, zT1_of (i := 13) rfl rfl, zT5_of (i := 97) rfl rfl, ⟨by decide, by decide, by decide +kernel⟩, by decide⟩
abbrev zX11_init : zY := (yX11_init, cX11_init, 1, none)
theorem zmX11_init : zMi zX11_init 0 := ⟨zT4_of (i := 136) rfl rfl, zT1_of (i := 13) rfl rfl, zT4_of (i := 137) rfl rfl, ⟨by decide, by decide, by decide +kernel⟩, by decide, rfl, rfl⟩
abbrev zX11_spell : zY := (yX11_spell, cX11_spell, 5, none)
theorem zmX11_spell : zMv zX11_spell 11 2 := ⟨zT4_of (i := 142) rfl rfl, zT0_of (i := 35) rfl, zT1_of (i := 13) rfl rfl, zT4_of (i := 143) rfl rfl, ⟨by decide, by decide, by decide +kernel⟩, by decide, _, _, rfl⟩
abbrev zX11_isEdge : zY := (yX11_isEdge, cX11_isEdge, 2, (some .boolean))
theorem zmX11_isEdge : zMv zX11_isEdge 11 1 := ⟨zT5_of (i := 107) rfl rfl, zT0_of (i := 36) rfl, zT1_of (i := 13) rfl rfl, zT5_of (i := 108) rfl rfl, ⟨by decide, by decide, by decide +kernel⟩, by decide, _, _, rfl⟩
abbrev zX11_hasCorners : zY := (yX11_hasCorners, cX11_hasCorners, 1, (some .boolean))
theorem zmX11_hasCorners : zMs zX11_hasCorners 1 := ⟨zT5_of (i := 99) rfl rfl, zT1_of (i := 13) rfl rfl, zT5_of (i := 100) rfl rfl, ⟨by decide, by decide, by decide +kernel⟩, by decide⟩
abbrev zX11_edge : zY := (yX11_edge, cX11_edge, 7, (some .int))
theorem zmX11_edge : zMv zX11_edge 11 5 := ⟨zT5_of (i := 92) rfl rfl, zT5_of (i := 93) rfl rfl, zT1_of (i := 13) rfl rfl, zT5_of (i := 94) rfl rfl, ⟨by decide, by decide, by decide +kernel⟩, by decide, _, _, rfl⟩
abbrev zX11_edgeTold : zY := (yX11_edgeTold, cX11_edgeTold, 3, (some .int))
theorem zmX11_edgeTold : zMv zX11_edgeTold 11 2 := ⟨zT5_of (i := 102) rfl rfl, zT5_of (i := 103) rfl rfl, zT1_of (i := 13) rfl rfl, zT5_of (i := 104) rfl rfl, ⟨by decide, by decide, by decide +kernel⟩, by decide, _, _, rfl⟩
abbrev zX11_divisor : zY := (yX11_divisor, cX11_divisor, 10, (some .long))
theorem zmX11_divisor : zMs zX11_divisor 2 := ⟨zT5_of (i := 116) rfl rfl, zT1_of (i := 13) rfl rfl, zT5_of (i := 117) rfl rfl, ⟨by decide, by decide, by decide +kernel⟩, by decide⟩
abbrev zX11_used : zY := (yX11_used, cX11_used, 7, (some .long))
theorem zmX11_used : zMv zX11_used 11 2 := ⟨zT5_of (i := 110) rfl rfl, zT5_of (i := 111) rfl rfl, zT1_of (i := 13) rfl rfl, zT5_of (i := 112) rfl rfl, ⟨by decide, by decide, by decide +kernel⟩, by decide, _, _, rfl⟩
abbrev zX11_wearOf : zY := (yX11_wearOf, cX11_wearOf, 4, (some .int))
theorem zmX11_wearOf : zMv zX11_wearOf 11 3 := ⟨zT5_of (i := 124) rfl rfl, zT0_of (i := 37) rfl, zT1_of (i := 13) rfl rfl, zT5_of (i := 125) rfl rfl, ⟨by decide, by decide, by decide +kernel⟩, by decide, _, _, rfl⟩
abbrev zX11_wear : zY := (yX11_wear, cX11_wear, 4, (some .int))
theorem zmX11_wear : zMv zX11_wear 11 3 := ⟨zT5_of (i := 119) rfl rfl, zT5_of (i := 120) rfl rfl, zT1_of (i := 13) rfl rfl, zT5_of (i := 121) rfl rfl, ⟨by decide, by decide, by decide +kernel⟩, by decide, _, _, rfl⟩
abbrev zX11_fresh : zY := (yX11_fresh, cX11_fresh, 2, none)
theorem zmX11_fresh : zMv zX11_fresh 11 1 := ⟨zT5_of (i := 132) rfl rfl, zT0_of (i := 38) rfl, zT1_of (i := 13) rfl rfl, zT5_of (i := 133) rfl rfl, ⟨by decide, by decide, by decide +kernel⟩, by decide, _, _, rfl⟩
abbrev zX11_turn : zY := (yX11_turn, cX11_turn, 2, (some .int))
theorem zmX11_turn : zMv zX11_turn 11 1 := ⟨zT5_of (i := 127) rfl rfl, zT5_of (i := 128) rfl rfl, zT1_of (i := 13) rfl rfl, zT5_of (i := 129) rfl rfl, ⟨by decide, by decide, by decide +kernel⟩, by decide, _, _, rfl⟩
abbrev zX11_grind : zY := (yX11_grind, cX11_grind, 3, (some .int))
theorem zmX11_grind : zMv zX11_grind 11 2 := ⟨zT5_of (i := 135) rfl rfl, zT5_of (i := 136) rfl rfl, zT1_of (i := 13) rfl rfl, zT5_of (i := 137) rfl rfl, ⟨by decide, by decide, by decide +kernel⟩, by decide, _, _, rfl⟩
abbrev zX11_trail : zY := (yX11_trail, cX11_trail, 3, (some .int))
theorem zmX11_trail : zMv zX11_trail 11 2 := ⟨zT5_of (i := 139) rfl rfl, zT5_of (i := 140) rfl rfl, zT1_of (i := 13) rfl rfl, zT5_of (i := 141) rfl rfl, ⟨by decide, by decide, by decide +kernel⟩, by decide, _, _, rfl⟩
abbrev zX11_goesOn : zY := (yX11_goesOn, cX11_goesOn, 5, none)
theorem zmX11_goesOn : zMv zX11_goesOn 11 2 := ⟨zT6_of (i := 78) rfl rfl, zT0_of (i := 62) rfl, zT1_of (i := 13) rfl rfl, zT6_of (i := 79) rfl rfl, ⟨by decide, by decide, by decide +kernel⟩, by decide, _, _, rfl⟩
abbrev zX11_isTool : zY := (yX11_isTool, cX11_isTool, 2, (some .boolean))
theorem zmX11_isTool : zMv zX11_isTool 11 1 := ⟨zT5_of (i := 152) rfl rfl, zT0_of (i := 39) rfl, zT1_of (i := 13) rfl rfl, zT5_of (i := 153) rfl rfl, ⟨by decide, by decide, by decide +kernel⟩, by decide, _, _, rfl⟩
abbrev zX11_tool : zY := (yX11_tool, cX11_tool, 5, (some .int))
theorem zmX11_tool : zMv zX11_tool 11 4 := ⟨zT5_of (i := 143) rfl rfl, zT5_of (i := 144) rfl rfl, zT1_of (i := 13) rfl rfl, zT5_of (i := 145) rfl rfl, ⟨by decide, by decide, by decide +kernel⟩, by decide, _, _, rfl⟩
abbrev zX11_nominal : zY := (yX11_nominal, cX11_nominal, 2, (some .int))
theorem zmX11_nominal : zMv zX11_nominal 11 1 := ⟨zT5_of (i := 156) rfl rfl, zT0_of (i := 40) rfl, zT1_of (i := 13) rfl rfl, zT5_of (i := 157) rfl rfl, ⟨by decide, by decide, by decide +kernel⟩, by decide, _, _, rfl⟩
abbrev zX11_toolTold : zY := (yX11_toolTold, cX11_toolTold, 3, (some .int))
theorem zmX11_toolTold : zMv zX11_toolTold 11 2 := ⟨zT5_of (i := 147) rfl rfl, zT5_of (i := 148) rfl rfl, zT1_of (i := 13) rfl rfl, zT5_of (i := 149) rfl rfl, ⟨by decide, by decide, by decide +kernel⟩, by decide, _, _, rfl⟩
abbrev zX11_setter : zY := (yX11_setter, cX11_setter, 3, (some .int))
theorem zmX11_setter : zMv zX11_setter 11 2 := ⟨zT5_of (i := 159) rfl rfl, zT5_of (i := 160) rfl rfl, zT1_of (i := 13) rfl rfl, zT5_of (i := 161) rfl rfl, ⟨by decide, by decide, by decide +kernel⟩, by decide, _, _, rfl⟩
abbrev zX11_reads : zY := (yX11_reads, cX11_reads, 2, (some .int))
theorem zmX11_reads : zMv zX11_reads 11 1 := ⟨zT5_of (i := 168) rfl rfl, zT0_of (i := 41) rfl, zT1_of (i := 13) rfl rfl, zT5_of (i := 169) rfl rfl, ⟨by decide, by decide, by decide +kernel⟩, by decide, _, _, rfl⟩
abbrev zX11_calibrate : zY := (yX11_calibrate, cX11_calibrate, 2, (some .int))
theorem zmX11_calibrate : zMv zX11_calibrate 11 1 := ⟨zT5_of (i := 163) rfl rfl, zT5_of (i := 164) rfl rfl, zT1_of (i := 13) rfl rfl, zT5_of (i := 165) rfl rfl, ⟨by decide, by decide, by decide +kernel⟩, by decide, _, _, rfl⟩
abbrev zX11_measure : zY := (yX11_measure, cX11_measure, 2, (some .int))
theorem zmX11_measure : zMv zX11_measure 11 1 := ⟨zT5_of (i := 171) rfl rfl, zT5_of (i := 172) rfl rfl, zT1_of (i := 13) rfl rfl, zT5_of (i := 173) rfl rfl, ⟨by decide, by decide, by decide +kernel⟩, by decide, _, _, rfl⟩
abbrev zX11_feed : zY := (yX11_feed, cX11_feed, 5, (some .int))
theorem zmX11_feed : zMv zX11_feed 11 2 := ⟨zT5_of (i := 175) rfl rfl, zT5_of (i := 176) rfl rfl, zT1_of (i := 13) rfl rfl, zT5_of (i := 177) rfl rfl, ⟨by decide, by decide, by decide +kernel⟩, by decide, _, _, rfl⟩
abbrev zX11_byteAt : zY := (yX11_byteAt, cX11_byteAt, 2, (some .int))
theorem zmX11_byteAt : zMv zX11_byteAt 11 1 := ⟨zT5_of (i := 192) rfl rfl, zT0_of (i := 44) rfl, zT1_of (i := 13) rfl rfl, zT5_of (i := 193) rfl rfl, ⟨by decide, by decide, by decide +kernel⟩, by decide, _, _, rfl⟩
abbrev zX11_next : zY := (yX11_next, cX11_next, 3, none)
theorem zmX11_next : zMv zX11_next 11 0 := ⟨zT5_of (i := 188) rfl rfl, zT0_of (i := 43) rfl, zT1_of (i := 13) rfl rfl, zT5_of (i := 189) rfl rfl, ⟨by decide, by decide, by decide +kernel⟩, by decide, _, _, rfl⟩
abbrev zX11_fail : zY := (yX11_fail, cX11_fail, 1, none)
theorem zmX11_fail : zMv zX11_fail 11 0 := ⟨zT5_of (i := 210) rfl rfl, zT0_of (i := 47) rfl, zT1_of (i := 13) rfl rfl, zT5_of (i := 211) rfl rfl, ⟨by decide, by decide, by decide +kernel⟩, by decide, _, _, rfl⟩
abbrev zX11_isWord : zY := (yX11_isWord, cX11_isWord, 3, (some .boolean))
theorem zmX11_isWord : zMv zX11_isWord 11 1 := ⟨zT5_of (i := 206) rfl rfl, zT0_of (i := 46) rfl, zT1_of (i := 13) rfl rfl, zT5_of (i := 207) rfl rfl, ⟨by decide, by decide, by decide +kernel⟩, by decide, _, _, rfl⟩
abbrev zX11_isSign : zY := (yX11_isSign, cX11_isSign, 2, (some .boolean))
theorem zmX11_isSign : zMv zX11_isSign 11 1 := ⟨zT6_of (i := 3) rfl rfl, zT0_of (i := 55) rfl, zT1_of (i := 13) rfl rfl, zT6_of (i := 4) rfl rfl, ⟨by decide, by decide, by decide +kernel⟩, by decide, _, _, rfl⟩
abbrev zX11_opens : zY := (yX11_opens, cX11_opens, 1, (some .boolean))
theorem zmX11_opens : zMv zX11_opens 11 0 := ⟨zT5_of (i := 227) rfl rfl, zT0_of (i := 51) rfl, zT1_of (i := 13) rfl rfl, zT5_of (i := 228) rfl rfl, ⟨by decide, by decide, by decide +kernel⟩, by decide, _, _, rfl⟩
abbrev zX11_name : zY := (yX11_name, cX11_name, 1, (some .int))
theorem zmX11_name : zMv zX11_name 11 0 := ⟨zT6_of (i := 7) rfl rfl, zT0_of (i := 56) rfl, zT1_of (i := 13) rfl rfl, zT6_of (i := 8) rfl rfl, ⟨by decide, by decide, by decide +kernel⟩, by decide, _, _, rfl⟩
abbrev zX11_one : zY := (yX11_one, cX11_one, 2, (some .int))
theorem zmX11_one : zMv zX11_one 11 0 := ⟨zT5_of (i := 239) rfl rfl, zT0_of (i := 54) rfl, zT1_of (i := 13) rfl rfl, zT6_of (i := 0) rfl rfl, ⟨by decide, by decide, by decide +kernel⟩, by decide, _, _, rfl⟩
abbrev zX11_term : zY := (yX11_term, cX11_term, 2, (some .int))
theorem zmX11_term : zMv zX11_term 11 0 := ⟨zT5_of (i := 235) rfl rfl, zT0_of (i := 53) rfl, zT1_of (i := 13) rfl rfl, zT5_of (i := 236) rfl rfl, ⟨by decide, by decide, by decide +kernel⟩, by decide, _, _, rfl⟩
abbrev zX11_added : zY := (yX11_added, cX11_added, 4, (some .int))
theorem zmX11_added : zMv zX11_added 11 0 := ⟨zT5_of (i := 231) rfl rfl, zT0_of (i := 52) rfl, zT1_of (i := 13) rfl rfl, zT5_of (i := 232) rfl rfl, ⟨by decide, by decide, by decide +kernel⟩, by decide, _, _, rfl⟩
abbrev zX11_not : zY := (yX11_not, cX11_not, 4, (some .int))
theorem zmX11_not : zMv zX11_not 11 0 := ⟨zT5_of (i := 222) rfl rfl, zT0_of (i := 50) rfl, zT1_of (i := 13) rfl rfl, zT5_of (i := 223) rfl rfl, ⟨by decide, by decide, by decide +kernel⟩, by decide, _, _, rfl⟩
abbrev zX11_both : zY := (yX11_both, cX11_both, 3, (some .int))
theorem zmX11_both : zMv zX11_both 11 0 := ⟨zT5_of (i := 218) rfl rfl, zT0_of (i := 49) rfl, zT1_of (i := 13) rfl rfl, zT5_of (i := 219) rfl rfl, ⟨by decide, by decide, by decide +kernel⟩, by decide, _, _, rfl⟩
abbrev zX11_either : zY := (yX11_either, cX11_either, 3, (some .int))
theorem zmX11_either : zMv zX11_either 11 0 := ⟨zT5_of (i := 214) rfl rfl, zT0_of (i := 48) rfl, zT1_of (i := 13) rfl rfl, zT5_of (i := 215) rfl rfl, ⟨by decide, by decide, by decide +kernel⟩, by decide, _, _, rfl⟩
abbrev zX11_part : zY := (yX11_part, cX11_part, 4, (some .int))
theorem zmX11_part : zMv zX11_part 11 1 := ⟨zT5_of (i := 202) rfl rfl, zT0_of (i := 45) rfl, zT1_of (i := 13) rfl rfl, zT5_of (i := 203) rfl rfl, ⟨by decide, by decide, by decide +kernel⟩, by decide, _, _, rfl⟩
abbrev zX11_read : zY := (yX11_read, cX11_read, 6, (some .int))
theorem zmX11_read : zMv zX11_read 11 2 := ⟨zT5_of (i := 184) rfl rfl, zT0_of (i := 42) rfl, zT1_of (i := 13) rfl rfl, zT5_of (i := 185) rfl rfl, ⟨by decide, by decide, by decide +kernel⟩, by decide, _, _, rfl⟩
abbrev zX11_saysOf : zY := (yX11_saysOf, cX11_saysOf, 4, (some .int))
theorem zmX11_saysOf : zMv zX11_saysOf 11 2 := ⟨zT6_of (i := 31) rfl rfl, zT0_of (i := 57) rfl, zT1_of (i := 13) rfl rfl, zT6_of (i := 32) rfl rfl, ⟨by decide, by decide, by decide +kernel⟩, by decide, _, _, rfl⟩
abbrev zX11_text : zY := (yX11_text, cX11_text, 2, (some .int))
theorem zmX11_text : zMv zX11_text 11 0 := ⟨zT5_of (i := 179) rfl rfl, zT5_of (i := 180) rfl rfl, zT1_of (i := 13) rfl rfl, zT5_of (i := 181) rfl rfl, ⟨by decide, by decide, by decide +kernel⟩, by decide, _, _, rfl⟩
abbrev zX11_force : zY := (yX11_force, cX11_force, 3, (some .int))
theorem zmX11_force : zMv zX11_force 11 1 := ⟨zT6_of (i := 22) rfl rfl, zT6_of (i := 23) rfl rfl, zT1_of (i := 13) rfl rfl, zT6_of (i := 24) rfl rfl, ⟨by decide, by decide, by decide +kernel⟩, by decide, _, _, rfl⟩
abbrev zX11_says : zY := (yX11_says, cX11_says, 3, (some .long))
theorem zmX11_says : zMv zX11_says 11 2 := ⟨zT6_of (i := 26) rfl rfl, zT6_of (i := 27) rfl rfl, zT1_of (i := 13) rfl rfl, zT6_of (i := 28) rfl rfl, ⟨by decide, by decide, by decide +kernel⟩, by decide, _, _, rfl⟩
abbrev zX11_isMachine : zY := (yX11_isMachine, cX11_isMachine, 2, (some .boolean))
theorem zmX11_isMachine : zMv zX11_isMachine 11 1 := ⟨zT6_of (i := 43) rfl rfl, zT0_of (i := 58) rfl, zT1_of (i := 13) rfl rfl, zT6_of (i := 44) rfl rfl, ⟨by decide, by decide, by decide +kernel⟩, by decide, _, _, rfl⟩
abbrev zX11_machine : zY := (yX11_machine, cX11_machine, 3, (some .int))
theorem zmX11_machine : zMv zX11_machine 11 2 := ⟨zT6_of (i := 34) rfl rfl, zT6_of (i := 35) rfl rfl, zT1_of (i := 13) rfl rfl, zT6_of (i := 36) rfl rfl, ⟨by decide, by decide, by decide +kernel⟩, by decide, _, _, rfl⟩
abbrev zX11_isFree : zY := (yX11_isFree, cX11_isFree, 5, (some .boolean))
theorem zmX11_isFree : zMv zX11_isFree 11 3 := ⟨zT6_of (i := 47) rfl rfl, zT0_of (i := 59) rfl, zT1_of (i := 13) rfl rfl, zT6_of (i := 48) rfl rfl, ⟨by decide, by decide, by decide +kernel⟩, by decide, _, _, rfl⟩
abbrev zX11_put : zY := (yX11_put, cX11_put, 5, (some .int))
theorem zmX11_put : zMv zX11_put 11 3 := ⟨zT6_of (i := 38) rfl rfl, zT6_of (i := 39) rfl rfl, zT1_of (i := 13) rfl rfl, zT6_of (i := 40) rfl rfl, ⟨by decide, by decide, by decide +kernel⟩, by decide, _, _, rfl⟩
abbrev zX11_take : zY := (yX11_take, cX11_take, 4, (some .int))
theorem zmX11_take : zMv zX11_take 11 1 := ⟨zT6_of (i := 50) rfl rfl, zT6_of (i := 51) rfl rfl, zT1_of (i := 13) rfl rfl, zT6_of (i := 52) rfl rfl, ⟨by decide, by decide, by decide +kernel⟩, by decide, _, _, rfl⟩
abbrev zX11_at : zY := (yX11_at, cX11_at, 3, (some .int))
theorem zmX11_at : zMv zX11_at 11 2 := ⟨zT6_of (i := 54) rfl rfl, zT6_of (i := 55) rfl rfl, zT1_of (i := 13) rfl rfl, zT6_of (i := 56) rfl rfl, ⟨by decide, by decide, by decide +kernel⟩, by decide, _, _, rfl⟩
abbrev zX11_room : zY := (yX11_room, cX11_room, 4, (some .int))
theorem zmX11_room : zMv zX11_room 11 2 := ⟨zT6_of (i := 58) rfl rfl, zT6_of (i := 59) rfl rfl, zT1_of (i := 13) rfl rfl, zT6_of (i := 60) rfl rfl, ⟨by decide, by decide, by decide +kernel⟩, by decide, _, _, rfl⟩
abbrev zX11_isMore : zY := (yX11_isMore, cX11_isMore, 3, (some .boolean))
theorem zmX11_isMore : zMv zX11_isMore 11 2 := ⟨zT6_of (i := 74) rfl rfl, zT0_of (i := 61) rfl, zT1_of (i := 13) rfl rfl, zT6_of (i := 75) rfl rfl, ⟨by decide, by decide, by decide +kernel⟩, by decide, _, _, rfl⟩
abbrev zX11_cutBy : zY := (yX11_cutBy, cX11_cutBy, 7, (some .int))
theorem zmX11_cutBy : zMv zX11_cutBy 11 4 := ⟨zT6_of (i := 70) rfl rfl, zT0_of (i := 60) rfl, zT1_of (i := 13) rfl rfl, zT6_of (i := 71) rfl rfl, ⟨by decide, by decide, by decide +kernel⟩, by decide, _, _, rfl⟩
abbrev zX11_isCut : zY := (yX11_isCut, cX11_isCut, 3, (some .boolean))
theorem zmX11_isCut : zMs zX11_isCut 3 := ⟨zT6_of (i := 66) rfl rfl, zT1_of (i := 13) rfl rfl, zT6_of (i := 67) rfl rfl, ⟨by decide, by decide, by decide +kernel⟩, by decide⟩
abbrev zX11_cut : zY := (yX11_cut, cX11_cut, 5, (some .int))
theorem zmX11_cut : zMv zX11_cut 11 4 := ⟨zT6_of (i := 62) rfl rfl, zT6_of (i := 63) rfl rfl, zT1_of (i := 13) rfl rfl, zT6_of (i := 64) rfl rfl, ⟨by decide, by decide, by decide +kernel⟩, by decide, _, _, rfl⟩
abbrev zX11_bits : zY := (yX11_bits, cX11_bits, 3, (some .int))
theorem zmX11_bits : zMs zX11_bits 1 := ⟨zT6_of (i := 85) rfl rfl, zT1_of (i := 13) rfl rfl, zT6_of (i := 86) rfl rfl, ⟨by decide, by decide, by decide +kernel⟩, by decide⟩
abbrev zX11_job : zY := (yX11_job, cX11_job, 2, (some .int))
theorem zmX11_job : zMv zX11_job 11 1 := ⟨zT6_of (i := 81) rfl rfl, zT6_of (i := 82) rfl rfl, zT1_of (i := 13) rfl rfl, zT6_of (i := 83) rfl rfl, ⟨by decide, by decide, by decide +kernel⟩, by decide, _, _, rfl⟩
abbrev zX11_isRoom : zY := (yX11_isRoom, cX11_isRoom, 3, (some .boolean))
theorem zmX11_isRoom : zMv zX11_isRoom 11 1 := ⟨zT6_of (i := 94) rfl rfl, zT0_of (i := 63) rfl, zT1_of (i := 13) rfl rfl, zT6_of (i := 95) rfl rfl, ⟨by decide, by decide, by decide +kernel⟩, by decide, _, _, rfl⟩
abbrev zX11_nextOf : zY := (yX11_nextOf, cX11_nextOf, 4, (some .int))
theorem zmX11_nextOf : zMv zX11_nextOf 11 2 := ⟨zT6_of (i := 102) rfl rfl, zT0_of (i := 65) rfl, zT1_of (i := 13) rfl rfl, zT6_of (i := 103) rfl rfl, ⟨by decide, by decide, by decide +kernel⟩, by decide, _, _, rfl⟩
abbrev zX11_changesOf : zY := (yX11_changesOf, cX11_changesOf, 9, (some .int))
theorem zmX11_changesOf : zMv zX11_changesOf 11 1 := ⟨zT6_of (i := 98) rfl rfl, zT0_of (i := 64) rfl, zT1_of (i := 13) rfl rfl, zT6_of (i := 99) rfl rfl, ⟨by decide, by decide, by decide +kernel⟩, by decide, _, _, rfl⟩
abbrev zX11_changes : zY := (yX11_changes, cX11_changes, 8, (some .int))
theorem zmX11_changes : zMv zX11_changes 11 2 := ⟨zT6_of (i := 88) rfl rfl, zT6_of (i := 89) rfl rfl, zT1_of (i := 13) rfl rfl, zT6_of (i := 90) rfl rfl, ⟨by decide, by decide, by decide +kernel⟩, by decide, _, _, rfl⟩
abbrev zX11_goesUp : zY := (yX11_goesUp, cX11_goesUp, 6, (some .boolean))
theorem zmX11_goesUp : zMv zX11_goesUp 11 0 := ⟨zT6_of (i := 110) rfl rfl, zT0_of (i := 66) rfl, zT1_of (i := 13) rfl rfl, zT6_of (i := 111) rfl rfl, ⟨by decide, by decide, by decide +kernel⟩, by decide, _, _, rfl⟩
abbrev zX11_order : zY := (yX11_order, cX11_order, 7, (some .int))
theorem zmX11_order : zMv zX11_order 11 2 := ⟨zT6_of (i := 105) rfl rfl, zT6_of (i := 106) rfl rfl, zT1_of (i := 13) rfl rfl, zT6_of (i := 107) rfl rfl, ⟨by decide, by decide, by decide +kernel⟩, by decide, _, _, rfl⟩
abbrev zX11_count : zY := (yX11_count, cX11_count, 4, (some .int))
theorem zmX11_count : zMv zX11_count 11 1 := ⟨zT6_of (i := 113) rfl rfl, zT6_of (i := 114) rfl rfl, zT1_of (i := 13) rfl rfl, zT6_of (i := 115) rfl rfl, ⟨by decide, by decide, by decide +kernel⟩, by decide, _, _, rfl⟩
abbrev zX11_isSheet : zY := (yX11_isSheet, cX11_isSheet, 1, (some .boolean))
theorem zmX11_isSheet : zMs zX11_isSheet 1 := ⟨zT6_of (i := 121) rfl rfl, zT1_of (i := 13) rfl rfl, zT6_of (i := 122) rfl rfl, ⟨by decide, by decide, by decide +kernel⟩, by decide⟩
abbrev zX11_sheet : zY := (yX11_sheet, cX11_sheet, 5, (some .int))
theorem zmX11_sheet : zMv zX11_sheet 11 3 := ⟨zT6_of (i := 117) rfl rfl, zT6_of (i := 118) rfl rfl, zT1_of (i := 13) rfl rfl, zT6_of (i := 119) rfl rfl, ⟨by decide, by decide, by decide +kernel⟩, by decide, _, _, rfl⟩
abbrev zX11_cell : zY := (yX11_cell, cX11_cell, 4, (some .int))
theorem zmX11_cell : zMv zX11_cell 11 3 := ⟨zT6_of (i := 124) rfl rfl, zT6_of (i := 125) rfl rfl, zT1_of (i := 13) rfl rfl, zT6_of (i := 126) rfl rfl, ⟨by decide, by decide, by decide +kernel⟩, by decide, _, _, rfl⟩
abbrev zX11_cuts : zY := (yX11_cuts, cX11_cuts, 9, (some .int))
theorem zmX11_cuts : zMv zX11_cuts 11 5 := ⟨zT6_of (i := 128) rfl rfl, zT6_of (i := 129) rfl rfl, zT1_of (i := 13) rfl rfl, zT6_of (i := 130) rfl rfl, ⟨by decide, by decide, by decide +kernel⟩, by decide, _, _, rfl⟩
abbrev zX11_over : zY := (yX11_over, cX11_over, 1, (some .int))
theorem zmX11_over : zMs zX11_over 1 := ⟨zT6_of (i := 136) rfl rfl, zT1_of (i := 13) rfl rfl, zT6_of (i := 137) rfl rfl, ⟨by decide, by decide, by decide +kernel⟩, by decide⟩
abbrev zX11_taken : zY := (yX11_taken, cX11_taken, 4, (some .int))
theorem zmX11_taken : zMv zX11_taken 11 2 := ⟨zT6_of (i := 132) rfl rfl, zT6_of (i := 133) rfl rfl, zT1_of (i := 13) rfl rfl, zT6_of (i := 134) rfl rfl, ⟨by decide, by decide, by decide +kernel⟩, by decide, _, _, rfl⟩
abbrev zJ6_bitCount_0f7a4 : zY := (yJ6_bitCount_0f7a4, cJ6_bitCount_0f7a4, 1, (some .int))
theorem zmJ6_bitCount_0f7a4 : zMs zJ6_bitCount_0f7a4 1 := ⟨zT4_of (i := 20) rfl rfl, zT1_of (i := 18) rfl rfl, zT4_of (i := 21) rfl rfl, ⟨by decide, by decide, by decide +kernel⟩, by decide⟩
abbrev zJ9_max_7cf53 : zY := (yJ9_max_7cf53, cJ9_max_7cf53, 2, (some .int))
theorem zmJ9_max_7cf53 : zMs zJ9_max_7cf53 2 := ⟨zT3_of (i := 34) rfl rfl, zT1_of (i := 15) rfl rfl, zT3_of (i := 35) rfl rfl, ⟨by decide, by decide, by decide +kernel⟩, by decide⟩
abbrev zJ0_length_8abf5 : zY := (yJ0_length_8abf5, cJ0_length_8abf5, 1, (some .int))
abbrev zJ0_charAt_5068e : zY := (yJ0_charAt_5068e, cJ0_charAt_5068e, 2, (some .char))
abbrev zJ0_coder_7d493 : zY := (yJ0_coder_7d493, cJ0_coder_7d493, 1, (some .byte))
abbrev zJ0_isLatin1_aae02 : zY := (yJ0_isLatin1_aae02, cJ0_isLatin1_aae02, 1, (some .boolean))
abbrev zJ0_checkIndex_df160 : zY := (yJ0_checkIndex_df160, cJ0_checkIndex_df160, 2, none)
abbrev zJ1_charAt_3b067 : zY := (yJ1_charAt_3b067, cJ1_charAt_3b067, 2, (some .char))
abbrev zJ2_getChar_3b067 : zY := (yJ2_getChar_3b067, cJ2_getChar_3b067, 2, (some .char))
abbrev zJ2_length_9d52b : zY := (yJ2_length_9d52b, cJ2_length_9d52b, 1, (some .int))
abbrev zJ2_charAt_3b067 : zY := (yJ2_charAt_3b067, cJ2_charAt_3b067, 2, (some .char))
abbrev zJ2_checkIndex_2214a : zY := (yJ2_checkIndex_2214a, cJ2_checkIndex_2214a, 2, none)
abbrev zJ3_checkIndex_8e157 : zY := (yJ3_checkIndex_8e157, cJ3_checkIndex_8e157, 3, (some .int))
abbrev zL_law : zY := (x, code, 4, ret)
