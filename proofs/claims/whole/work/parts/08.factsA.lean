theorem iX0_init_0 : zAl zX0_init 0 0 1 := Or.inl ⟨0, rfl, by decide +kernel, rfl⟩
theorem iX0_init_1 : zOi zX0_init 1 4 := ⟨3, by decide +kernel, rfl, zT2_of (i := 192) rfl rfl, zT1_of (i := 25) rfl rfl, zT1_of (i := 26) rfl rfl⟩
theorem iX0_init_4 : zAl zX0_init 4 0 5 := Or.inl ⟨0, rfl, by decide +kernel, rfl⟩
theorem iX0_init_5 : zCo zX0_init 5 (8) 7 := Or.inr (Or.inl ⟨8, by decide, by decide +kernel, rfl⟩)
theorem iX0_init_7 : zD zX0_init 7 2 (.newarray .int) 9 := ⟨by decide +kernel, rfl⟩
theorem iX0_init_9 : zPf zX0_init 9 0 3 (.array .int) 12 := ⟨9, _, _, _, zcf_0, by decide, by decide +kernel, rfl, zT2_of (i := 199) rfl rfl, by decide +kernel, Or.inr ⟨rfl, rfl, rfl⟩⟩
theorem iX0_init_12 : zAl zX0_init 12 0 13 := Or.inl ⟨0, rfl, by decide +kernel, rfl⟩
theorem iX0_init_13 : zCo zX0_init 13 (0) 14 := Or.inl ⟨0, by decide, by decide +kernel, rfl⟩
theorem iX0_init_14 : zPf zX0_init 14 0 7 .int 17 := ⟨15, _, _, _, zcf_0, by decide, by decide +kernel, rfl, zT2_of (i := 206) rfl rfl, by decide +kernel, Or.inl rfl⟩
theorem iX0_init_17 : zAl zX0_init 17 0 18 := Or.inl ⟨0, rfl, by decide +kernel, rfl⟩
theorem iX0_init_18 : zCo zX0_init 18 (-1) 19 := Or.inl ⟨-1, by decide, by decide +kernel, rfl⟩
theorem iX0_init_19 : zPf zX0_init 19 0 11 .int 22 := ⟨19, _, _, _, zcf_0, by decide, by decide +kernel, rfl, zT2_of (i := 214) rfl rfl, by decide +kernel, Or.inl rfl⟩
theorem iX0_init_22 : zAl zX0_init 22 0 23 := Or.inl ⟨0, rfl, by decide +kernel, rfl⟩
theorem iX0_init_23 : zIl zX0_init 23 1 24 := Or.inl ⟨1, rfl, by decide +kernel, rfl⟩
theorem iX0_init_24 : zPf zX0_init 24 0 0 .int 27 := ⟨22, _, _, _, zcf_0, by decide, by decide +kernel, rfl, zT2_of (i := 193) rfl rfl, by decide +kernel, Or.inr ⟨rfl, rfl, rfl⟩⟩
theorem iX0_init_27 : zAl zX0_init 27 0 28 := Or.inl ⟨0, rfl, by decide +kernel, rfl⟩
theorem iX0_init_28 : zIl zX0_init 28 2 29 := Or.inl ⟨2, rfl, by decide +kernel, rfl⟩
theorem iX0_init_29 : zPf zX0_init 29 0 5 .int 32 := ⟨25, _, _, _, zcf_0, by decide, by decide +kernel, rfl, zT2_of (i := 201) rfl rfl, by decide +kernel, Or.inl rfl⟩
theorem iX0_init_32 : zAl zX0_init 32 0 33 := Or.inl ⟨0, rfl, by decide +kernel, rfl⟩
theorem iX0_init_33 : zIl zX0_init 33 3 34 := Or.inl ⟨3, rfl, by decide +kernel, rfl⟩
theorem iX0_init_34 : zPf zX0_init 34 0 1 .int 37 := ⟨28, _, _, _, zcf_0, by decide, by decide +kernel, rfl, zT2_of (i := 195) rfl rfl, by decide +kernel, Or.inr ⟨rfl, rfl, rfl⟩⟩
theorem iX0_init_37 : zAl zX0_init 37 0 38 := Or.inl ⟨0, rfl, by decide +kernel, rfl⟩
theorem iX0_init_38 : zIl zX0_init 38 4 40 := Or.inr ⟨by decide +kernel, rfl⟩
theorem iX0_init_40 : zPf zX0_init 40 0 6 .int 43 := ⟨31, _, _, _, zcf_0, by decide, by decide +kernel, rfl, zT2_of (i := 204) rfl rfl, by decide +kernel, Or.inl rfl⟩
theorem iX0_init_43 : zAl zX0_init 43 0 44 := Or.inl ⟨0, rfl, by decide +kernel, rfl⟩
theorem iX0_init_44 : zIl zX0_init 44 5 46 := Or.inr ⟨by decide +kernel, rfl⟩
theorem iX0_init_46 : zPf zX0_init 46 0 2 .int 49 := ⟨34, _, _, _, zcf_0, by decide, by decide +kernel, rfl, zT2_of (i := 197) rfl rfl, by decide +kernel, Or.inr ⟨rfl, rfl, rfl⟩⟩
theorem iX0_init_49 : zD zX0_init 49 1 (.return_) 50 := ⟨by decide +kernel, rfl⟩
theorem iX0_wearInAll_0 : zCL zX0_wearInAll 0 (100) 3 := Or.inr ⟨37, zT3_of (i := 22) rfl rfl, by decide +kernel, rfl⟩
theorem iX0_wearInAll_3 : zAl zX0_wearInAll 3 0 4 := Or.inl ⟨0, rfl, by decide +kernel, rfl⟩
theorem iX0_wearInAll_4 : zGf zX0_wearInAll 4 0 2 7 := ⟨34, _, _, _, zcf_0, by decide, by decide +kernel, rfl, zT2_of (i := 197) rfl rfl⟩
theorem iX0_wearInAll_7 : zD zX0_wearInAll 7 1 (.i2l) 8 := ⟨by decide +kernel, rfl⟩
theorem iX0_wearInAll_8 : zD zX0_wearInAll 8 1 (.lmul) 9 := ⟨by decide +kernel, rfl⟩
theorem iX0_wearInAll_9 : zD zX0_wearInAll 9 1 (.lreturn) 10 := ⟨by decide +kernel, rfl⟩
theorem iX0_isMoreUsedThan_0 : zAl zX0_isMoreUsedThan 0 0 1 := Or.inl ⟨0, rfl, by decide +kernel, rfl⟩
theorem iX0_isMoreUsedThan_1 : zGf zX0_isMoreUsedThan 1 0 12 4 := ⟨39, _, _, _, zcf_0, by decide, by decide +kernel, rfl, zT2_of (i := 216) rfl rfl⟩
theorem iX0_isMoreUsedThan_4 : zAl zX0_isMoreUsedThan 4 1 5 := Or.inl ⟨1, rfl, by decide +kernel, rfl⟩
theorem iX0_isMoreUsedThan_5 : zCl zX0_isMoreUsedThan 5 .invokevirtual zX0_wearInAll 8 := ⟨43, by decide +kernel, rfl, Or.inl (zT4_of (i := 4) rfl rfl)⟩
theorem iX0_isMoreUsedThan_8 : zD zX0_isMoreUsedThan 8 1 (.lmul) 9 := ⟨by decide +kernel, rfl⟩
theorem iX0_isMoreUsedThan_9 : zAl zX0_isMoreUsedThan 9 1 10 := Or.inl ⟨1, rfl, by decide +kernel, rfl⟩
theorem iX0_isMoreUsedThan_10 : zGf zX0_isMoreUsedThan 10 0 12 13 := ⟨39, _, _, _, zcf_0, by decide, by decide +kernel, rfl, zT2_of (i := 216) rfl rfl⟩
theorem iX0_isMoreUsedThan_13 : zAl zX0_isMoreUsedThan 13 0 14 := Or.inl ⟨0, rfl, by decide +kernel, rfl⟩
theorem iX0_isMoreUsedThan_14 : zCl zX0_isMoreUsedThan 14 .invokevirtual zX0_wearInAll 17 := ⟨43, by decide +kernel, rfl, Or.inl (zT4_of (i := 4) rfl rfl)⟩
theorem iX0_isMoreUsedThan_17 : zD zX0_isMoreUsedThan 17 1 (.lmul) 18 := ⟨by decide +kernel, rfl⟩
theorem iX0_isMoreUsedThan_18 : zD zX0_isMoreUsedThan 18 1 (.lcmp) 19 := ⟨by decide +kernel, rfl⟩
theorem iX0_isMoreUsedThan_19 : zB zX0_isMoreUsedThan 19 (.ifCond .le) 22 26 := ⟨7, by decide +kernel, rfl, by decide⟩
theorem iX0_isMoreUsedThan_22 : zCo zX0_isMoreUsedThan 22 (1) 23 := Or.inl ⟨1, by decide, by decide +kernel, rfl⟩
theorem iX0_isMoreUsedThan_23 : zB zX0_isMoreUsedThan 23 .goto 26 27 := ⟨4, by decide +kernel, rfl, by decide⟩
theorem iX0_isMoreUsedThan_26 : zCo zX0_isMoreUsedThan 26 (0) 27 := Or.inl ⟨0, by decide, by decide +kernel, rfl⟩
theorem iX0_isMoreUsedThan_27 : zD zX0_isMoreUsedThan 27 1 (.ireturn) 28 := ⟨by decide +kernel, rfl⟩
theorem iX0_renew_0 : zAl zX0_renew 0 0 1 := Or.inl ⟨0, rfl, by decide +kernel, rfl⟩
theorem iX0_renew_1 : zCL zX0_renew 1 0 2 := Or.inl ⟨0, by decide, by decide +kernel, rfl⟩
theorem iX0_renew_2 : zPf zX0_renew 2 0 12 .long 5 := ⟨39, _, _, _, zcf_0, by decide, by decide +kernel, rfl, zT2_of (i := 216) rfl rfl, by decide +kernel, Or.inl rfl⟩
theorem iX0_renew_5 : zAl zX0_renew 5 0 6 := Or.inl ⟨0, rfl, by decide +kernel, rfl⟩
theorem iX0_renew_6 : zCo zX0_renew 6 (0) 7 := Or.inl ⟨0, by decide, by decide +kernel, rfl⟩
theorem iX0_renew_7 : zPf zX0_renew 7 0 8 .int 10 := ⟨47, _, _, _, zcf_0, by decide, by decide +kernel, rfl, zT2_of (i := 209) rfl rfl, by decide +kernel, Or.inl rfl⟩
theorem iX0_renew_10 : zAl zX0_renew 10 0 11 := Or.inl ⟨0, rfl, by decide +kernel, rfl⟩
theorem iX0_renew_11 : zCo zX0_renew 11 (0) 12 := Or.inl ⟨0, by decide, by decide +kernel, rfl⟩
theorem iX0_renew_12 : zPf zX0_renew 12 0 7 .int 15 := ⟨15, _, _, _, zcf_0, by decide, by decide +kernel, rfl, zT2_of (i := 206) rfl rfl, by decide +kernel, Or.inl rfl⟩
theorem iX0_renew_15 : zD zX0_renew 15 1 (.return_) 16 := ⟨by decide +kernel, rfl⟩
theorem iX0_cutBy_0 : zAl zX0_cutBy 0 0 1 := Or.inl ⟨0, rfl, by decide +kernel, rfl⟩
theorem iX0_cutBy_1 : zD zX0_cutBy 1 1 (.dup) 2 := ⟨by decide +kernel, rfl⟩
theorem iX0_cutBy_2 : zGf zX0_cutBy 2 0 8 5 := ⟨47, _, _, _, zcf_0, by decide, by decide +kernel, rfl, zT2_of (i := 209) rfl rfl⟩
theorem iX0_cutBy_5 : zIl zX0_cutBy 5 1 6 := Or.inl ⟨1, rfl, by decide +kernel, rfl⟩
theorem iX0_cutBy_6 : zD zX0_cutBy 6 1 (.iadd) 7 := ⟨by decide +kernel, rfl⟩
theorem iX0_cutBy_7 : zPf zX0_cutBy 7 0 8 .int 10 := ⟨47, _, _, _, zcf_0, by decide, by decide +kernel, rfl, zT2_of (i := 209) rfl rfl, by decide +kernel, Or.inl rfl⟩
theorem iX0_cutBy_10 : zAl zX0_cutBy 10 0 11 := Or.inl ⟨0, rfl, by decide +kernel, rfl⟩
theorem iX0_cutBy_11 : zD zX0_cutBy 11 1 (.dup) 12 := ⟨by decide +kernel, rfl⟩
theorem iX0_cutBy_12 : zGf zX0_cutBy 12 0 12 15 := ⟨39, _, _, _, zcf_0, by decide, by decide +kernel, rfl, zT2_of (i := 216) rfl rfl⟩
theorem iX0_cutBy_15 : zIl zX0_cutBy 15 1 16 := Or.inl ⟨1, rfl, by decide +kernel, rfl⟩
theorem iX0_cutBy_16 : zD zX0_cutBy 16 1 (.i2l) 17 := ⟨by decide +kernel, rfl⟩
theorem iX0_cutBy_17 : zAl zX0_cutBy 17 0 18 := Or.inl ⟨0, rfl, by decide +kernel, rfl⟩
theorem iX0_cutBy_18 : zGf zX0_cutBy 18 0 0 21 := ⟨22, _, _, _, zcf_0, by decide, by decide +kernel, rfl, zT2_of (i := 193) rfl rfl⟩
theorem iX0_cutBy_21 : zIl zX0_cutBy 21 2 22 := Or.inl ⟨2, rfl, by decide +kernel, rfl⟩
theorem iX0_cutBy_22 : zIl zX0_cutBy 22 3 23 := Or.inl ⟨3, rfl, by decide +kernel, rfl⟩
theorem iX0_cutBy_23 : zCl zX0_cutBy 23 .invokestatic zX10_wearOf 26 := ⟨50, by decide +kernel, rfl, Or.inr ⟨"ToolCrib", by decide +kernel⟩⟩
theorem iX0_cutBy_26 : zD zX0_cutBy 26 1 (.i2l) 27 := ⟨by decide +kernel, rfl⟩
theorem iX0_cutBy_27 : zD zX0_cutBy 27 1 (.lmul) 28 := ⟨by decide +kernel, rfl⟩
theorem iX0_cutBy_28 : zD zX0_cutBy 28 1 (.ladd) 29 := ⟨by decide +kernel, rfl⟩
theorem iX0_cutBy_29 : zPf zX0_cutBy 29 0 12 .long 32 := ⟨39, _, _, _, zcf_0, by decide, by decide +kernel, rfl, zT2_of (i := 216) rfl rfl, by decide +kernel, Or.inl rfl⟩
theorem iX0_cutBy_32 : zAl zX0_cutBy 32 0 33 := Or.inl ⟨0, rfl, by decide +kernel, rfl⟩
theorem iX0_cutBy_33 : zIl zX0_cutBy 33 2 34 := Or.inl ⟨2, rfl, by decide +kernel, rfl⟩
theorem iX0_cutBy_34 : zPf zX0_cutBy 34 0 9 .int 37 := ⟨54, _, _, _, zcf_0, by decide, by decide +kernel, rfl, zT2_of (i := 210) rfl rfl, by decide +kernel, Or.inl rfl⟩
theorem iX0_cutBy_37 : zAl zX0_cutBy 37 0 38 := Or.inl ⟨0, rfl, by decide +kernel, rfl⟩
theorem iX0_cutBy_38 : zIl zX0_cutBy 38 3 39 := Or.inl ⟨3, rfl, by decide +kernel, rfl⟩
theorem iX0_cutBy_39 : zPf zX0_cutBy 39 0 10 .int 42 := ⟨57, _, _, _, zcf_0, by decide, by decide +kernel, rfl, zT2_of (i := 212) rfl rfl, by decide +kernel, Or.inl rfl⟩
theorem iX0_cutBy_42 : zD zX0_cutBy 42 1 (.return_) 43 := ⟨by decide +kernel, rfl⟩
theorem iX0_trailAt_0 : zIl zX0_trailAt 0 1 1 := Or.inl ⟨1, rfl, by decide +kernel, rfl⟩
theorem iX0_trailAt_1 : zB zX0_trailAt 1 (.ifCond .lt) 4 27 := ⟨26, by decide +kernel, rfl, by decide⟩
theorem iX0_trailAt_4 : zIl zX0_trailAt 4 1 5 := Or.inl ⟨1, rfl, by decide +kernel, rfl⟩
theorem iX0_trailAt_5 : zAl zX0_trailAt 5 0 6 := Or.inl ⟨0, rfl, by decide +kernel, rfl⟩
theorem iX0_trailAt_6 : zGf zX0_trailAt 6 0 4 9 := ⟨60, _, _, _, zcf_0, by decide, by decide +kernel, rfl, zT2_of (i := 200) rfl rfl⟩
theorem iX0_trailAt_9 : zB zX0_trailAt 9 (.if_icmp .ge) 12 27 := ⟨18, by decide +kernel, rfl, by decide⟩
theorem iX0_trailAt_12 : zIl zX0_trailAt 12 1 13 := Or.inl ⟨1, rfl, by decide +kernel, rfl⟩
theorem iX0_trailAt_13 : zCo zX0_trailAt 13 (8) 15 := Or.inr (Or.inl ⟨8, by decide, by decide +kernel, rfl⟩)
theorem iX0_trailAt_15 : zB zX0_trailAt 15 (.if_icmp .ge) 18 27 := ⟨12, by decide +kernel, rfl, by decide⟩
theorem iX0_trailAt_18 : zAl zX0_trailAt 18 0 19 := Or.inl ⟨0, rfl, by decide +kernel, rfl⟩
theorem iX0_trailAt_19 : zGf zX0_trailAt 19 0 3 22 := ⟨9, _, _, _, zcf_0, by decide, by decide +kernel, rfl, zT2_of (i := 199) rfl rfl⟩
theorem iX0_trailAt_22 : zIl zX0_trailAt 22 1 23 := Or.inl ⟨1, rfl, by decide +kernel, rfl⟩
theorem iX0_trailAt_23 : zD zX0_trailAt 23 1 (.iaload) 24 := ⟨by decide +kernel, rfl⟩
theorem iX0_trailAt_24 : zB zX0_trailAt 24 .goto 27 28 := ⟨4, by decide +kernel, rfl, by decide⟩
theorem iX0_trailAt_27 : zCo zX0_trailAt 27 (-1) 28 := Or.inl ⟨-1, by decide, by decide +kernel, rfl⟩
theorem iX0_trailAt_28 : zD zX0_trailAt 28 1 (.ireturn) 29 := ⟨by decide +kernel, rfl⟩
theorem iX0_follow_0 : zAl zX0_follow 0 0 1 := Or.inl ⟨0, rfl, by decide +kernel, rfl⟩
theorem iX0_follow_1 : zAl zX0_follow 1 0 2 := Or.inl ⟨0, rfl, by decide +kernel, rfl⟩
theorem iX0_follow_2 : zGf zX0_follow 2 0 4 5 := ⟨60, _, _, _, zcf_0, by decide, by decide +kernel, rfl, zT2_of (i := 200) rfl rfl⟩
theorem iX0_follow_5 : zCo zX0_follow 5 (1) 6 := Or.inl ⟨1, by decide, by decide +kernel, rfl⟩
theorem iX0_follow_6 : zD zX0_follow 6 1 (.isub) 7 := ⟨by decide +kernel, rfl⟩
theorem iX0_follow_7 : zCl zX0_follow 7 .invokevirtual zX0_trailAt 10 := ⟨63, by decide +kernel, rfl, Or.inl (zT4_of (i := 14) rfl rfl)⟩
theorem iX0_follow_10 : zIl zX0_follow 10 1 11 := Or.inl ⟨1, rfl, by decide +kernel, rfl⟩
theorem iX0_follow_11 : zB zX0_follow 11 (.if_icmp .ne) 14 15 := ⟨4, by decide +kernel, rfl, by decide⟩
theorem iX0_follow_14 : zD zX0_follow 14 1 (.return_) 15 := ⟨by decide +kernel, rfl⟩
theorem iX0_follow_15 : zAl zX0_follow 15 0 16 := Or.inl ⟨0, rfl, by decide +kernel, rfl⟩
theorem iX0_follow_16 : zGf zX0_follow 16 0 4 19 := ⟨60, _, _, _, zcf_0, by decide, by decide +kernel, rfl, zT2_of (i := 200) rfl rfl⟩
theorem iX0_follow_19 : zCo zX0_follow 19 (8) 21 := Or.inr (Or.inl ⟨8, by decide, by decide +kernel, rfl⟩)
theorem iX0_follow_21 : zB zX0_follow 21 (.if_icmp .lt) 24 58 := ⟨37, by decide +kernel, rfl, by decide⟩
theorem iX0_follow_24 : zCo zX0_follow 24 (1) 25 := Or.inl ⟨1, by decide, by decide +kernel, rfl⟩
theorem iX0_follow_25 : zIs zX0_follow 25 2 26 := ⟨by decide, Or.inl ⟨2, rfl, by decide +kernel, rfl⟩⟩
theorem iX0_follow_26 : zIl zX0_follow 26 2 27 := Or.inl ⟨2, rfl, by decide +kernel, rfl⟩
theorem iX0_follow_27 : zCo zX0_follow 27 (8) 29 := Or.inr (Or.inl ⟨8, by decide, by decide +kernel, rfl⟩)
theorem iX0_follow_29 : zB zX0_follow 29 (.if_icmp .ge) 32 52 := ⟨23, by decide +kernel, rfl, by decide⟩
theorem iX0_follow_32 : zAl zX0_follow 32 0 33 := Or.inl ⟨0, rfl, by decide +kernel, rfl⟩
theorem iX0_follow_33 : zGf zX0_follow 33 0 3 36 := ⟨9, _, _, _, zcf_0, by decide, by decide +kernel, rfl, zT2_of (i := 199) rfl rfl⟩
theorem iX0_follow_36 : zIl zX0_follow 36 2 37 := Or.inl ⟨2, rfl, by decide +kernel, rfl⟩
theorem iX0_follow_37 : zCo zX0_follow 37 (1) 38 := Or.inl ⟨1, by decide, by decide +kernel, rfl⟩
theorem iX0_follow_38 : zD zX0_follow 38 1 (.isub) 39 := ⟨by decide +kernel, rfl⟩
theorem iX0_follow_39 : zAl zX0_follow 39 0 40 := Or.inl ⟨0, rfl, by decide +kernel, rfl⟩
theorem iX0_follow_40 : zGf zX0_follow 40 0 3 43 := ⟨9, _, _, _, zcf_0, by decide, by decide +kernel, rfl, zT2_of (i := 199) rfl rfl⟩
theorem iX0_follow_43 : zIl zX0_follow 43 2 44 := Or.inl ⟨2, rfl, by decide +kernel, rfl⟩
theorem iX0_follow_44 : zD zX0_follow 44 1 (.iaload) 45 := ⟨by decide +kernel, rfl⟩
theorem iX0_follow_45 : zD zX0_follow 45 1 (.iastore) 46 := ⟨by decide +kernel, rfl⟩
theorem iX0_follow_46 : zIn zX0_follow 46 2 (1) 49 := ⟨by decide, 1, by decide, by decide +kernel, rfl⟩
theorem iX0_follow_49 : zB zX0_follow 49 .goto 52 26 := ⟨-23, by decide +kernel, rfl, by decide⟩
theorem iX0_follow_52 : zAl zX0_follow 52 0 53 := Or.inl ⟨0, rfl, by decide +kernel, rfl⟩
theorem iX0_follow_53 : zCo zX0_follow 53 (7) 55 := Or.inr (Or.inl ⟨7, by decide, by decide +kernel, rfl⟩)
theorem iX0_follow_55 : zPf zX0_follow 55 0 4 .int 58 := ⟨60, _, _, _, zcf_0, by decide, by decide +kernel, rfl, zT2_of (i := 200) rfl rfl, by decide +kernel, Or.inl rfl⟩
theorem iX0_follow_58 : zAl zX0_follow 58 0 59 := Or.inl ⟨0, rfl, by decide +kernel, rfl⟩
theorem iX0_follow_59 : zGf zX0_follow 59 0 3 62 := ⟨9, _, _, _, zcf_0, by decide, by decide +kernel, rfl, zT2_of (i := 199) rfl rfl⟩
theorem iX0_follow_62 : zAl zX0_follow 62 0 63 := Or.inl ⟨0, rfl, by decide +kernel, rfl⟩
theorem iX0_follow_63 : zGf zX0_follow 63 0 4 66 := ⟨60, _, _, _, zcf_0, by decide, by decide +kernel, rfl, zT2_of (i := 200) rfl rfl⟩
theorem iX0_follow_66 : zIl zX0_follow 66 1 67 := Or.inl ⟨1, rfl, by decide +kernel, rfl⟩
theorem iX0_follow_67 : zD zX0_follow 67 1 (.iastore) 68 := ⟨by decide +kernel, rfl⟩
theorem iX0_follow_68 : zAl zX0_follow 68 0 69 := Or.inl ⟨0, rfl, by decide +kernel, rfl⟩
theorem iX0_follow_69 : zD zX0_follow 69 1 (.dup) 70 := ⟨by decide +kernel, rfl⟩
theorem iX0_follow_70 : zGf zX0_follow 70 0 4 73 := ⟨60, _, _, _, zcf_0, by decide, by decide +kernel, rfl, zT2_of (i := 200) rfl rfl⟩
theorem iX0_follow_73 : zCo zX0_follow 73 (1) 74 := Or.inl ⟨1, by decide, by decide +kernel, rfl⟩
theorem iX0_follow_74 : zD zX0_follow 74 1 (.iadd) 75 := ⟨by decide +kernel, rfl⟩
theorem iX0_follow_75 : zPf zX0_follow 75 0 4 .int 78 := ⟨60, _, _, _, zcf_0, by decide, by decide +kernel, rfl, zT2_of (i := 200) rfl rfl, by decide +kernel, Or.inl rfl⟩
theorem iX0_follow_78 : zD zX0_follow 78 1 (.return_) 79 := ⟨by decide +kernel, rfl⟩
theorem iX1_init_0 : zAl zX1_init 0 0 1 := Or.inl ⟨0, rfl, by decide +kernel, rfl⟩
theorem iX1_init_1 : zOi zX1_init 1 4 := ⟨3, by decide +kernel, rfl, zT1_of (i := 60) rfl rfl, zT1_of (i := 25) rfl rfl, zT1_of (i := 26) rfl rfl⟩
theorem iX1_init_4 : zAl zX1_init 4 0 5 := Or.inl ⟨0, rfl, by decide +kernel, rfl⟩
theorem iX1_init_5 : zCo zX1_init 5 (6) 7 := Or.inr (Or.inl ⟨6, by decide, by decide +kernel, rfl⟩)
theorem iX1_init_7 : zD zX1_init 7 2 (.newarray .int) 9 := ⟨by decide +kernel, rfl⟩
theorem iX1_init_9 : zPf zX1_init 9 1 1 (.array .int) 12 := ⟨9, _, _, _, zcf_1, by decide, by decide +kernel, rfl, zT1_of (i := 69) rfl rfl, by decide +kernel, Or.inr ⟨rfl, rfl, rfl⟩⟩
theorem iX1_init_12 : zAl zX1_init 12 0 13 := Or.inl ⟨0, rfl, by decide +kernel, rfl⟩
theorem iX1_init_13 : zCo zX1_init 13 (6) 15 := Or.inr (Or.inl ⟨6, by decide, by decide +kernel, rfl⟩)
theorem iX1_init_15 : zD zX1_init 15 2 (.newarray .int) 17 := ⟨by decide +kernel, rfl⟩
theorem iX1_init_17 : zPf zX1_init 17 1 2 (.array .int) 20 := ⟨15, _, _, _, zcf_1, by decide, by decide +kernel, rfl, zT1_of (i := 70) rfl rfl, by decide +kernel, Or.inr ⟨rfl, rfl, rfl⟩⟩
theorem iX1_init_20 : zAl zX1_init 20 0 21 := Or.inl ⟨0, rfl, by decide +kernel, rfl⟩
theorem iX1_init_21 : zCo zX1_init 21 (10) 23 := Or.inr (Or.inl ⟨10, by decide, by decide +kernel, rfl⟩)
theorem iX1_init_23 : zD zX1_init 23 2 (.newarray .int) 25 := ⟨by decide +kernel, rfl⟩
theorem iX1_init_25 : zPf zX1_init 25 1 3 (.array .int) 28 := ⟨18, _, _, _, zcf_1, by decide, by decide +kernel, rfl, zT1_of (i := 71) rfl rfl, by decide +kernel, Or.inr ⟨rfl, rfl, rfl⟩⟩
theorem iX1_init_28 : zAl zX1_init 28 0 29 := Or.inl ⟨0, rfl, by decide +kernel, rfl⟩
theorem iX1_init_29 : zCo zX1_init 29 (10) 31 := Or.inr (Or.inl ⟨10, by decide, by decide +kernel, rfl⟩)
theorem iX1_init_31 : zCo zX1_init 31 (6) 33 := Or.inr (Or.inl ⟨6, by decide, by decide +kernel, rfl⟩)
theorem iX1_init_33 : zMa zX1_init 33 37 := ⟨21, by decide +kernel, rfl, zT1_of (i := 61) rfl rfl⟩
theorem iX1_init_37 : zPf zX1_init 37 1 4 (.array (.array .int)) 40 := ⟨23, _, _, _, zcf_1, by decide, by decide +kernel, rfl, zT1_of (i := 72) rfl rfl, by decide +kernel, Or.inr ⟨rfl, rfl, rfl⟩⟩
theorem iX1_init_40 : zAl zX1_init 40 0 41 := Or.inl ⟨0, rfl, by decide +kernel, rfl⟩
theorem iX1_init_41 : zCl zX1_init 41 .invokevirtual zX1_forget 44 := ⟨26, by decide +kernel, rfl, Or.inl (zT1_of (i := 63) rfl rfl)⟩
theorem iX1_init_44 : zD zX1_init 44 1 (.return_) 45 := ⟨by decide +kernel, rfl⟩
theorem iX1_forget_0 : zCo zX1_forget 0 (0) 1 := Or.inl ⟨0, by decide, by decide +kernel, rfl⟩
theorem iX1_forget_1 : zIs zX1_forget 1 1 2 := ⟨by decide, Or.inl ⟨1, rfl, by decide +kernel, rfl⟩⟩
theorem iX1_forget_2 : zIl zX1_forget 2 1 3 := Or.inl ⟨1, rfl, by decide +kernel, rfl⟩
theorem iX1_forget_3 : zCo zX1_forget 3 (9) 5 := Or.inr (Or.inl ⟨9, by decide, by decide +kernel, rfl⟩)
theorem iX1_forget_5 : zB zX1_forget 5 (.if_icmp .gt) 8 22 := ⟨17, by decide +kernel, rfl, by decide⟩
theorem iX1_forget_8 : zAl zX1_forget 8 0 9 := Or.inl ⟨0, rfl, by decide +kernel, rfl⟩
theorem iX1_forget_9 : zGf zX1_forget 9 1 3 12 := ⟨18, _, _, _, zcf_1, by decide, by decide +kernel, rfl, zT1_of (i := 71) rfl rfl⟩
theorem iX1_forget_12 : zIl zX1_forget 12 1 13 := Or.inl ⟨1, rfl, by decide +kernel, rfl⟩
theorem iX1_forget_13 : zCo zX1_forget 13 (-2) 15 := Or.inr (Or.inl ⟨-2, by decide, by decide +kernel, rfl⟩)
theorem iX1_forget_15 : zD zX1_forget 15 1 (.iastore) 16 := ⟨by decide +kernel, rfl⟩
theorem iX1_forget_16 : zIn zX1_forget 16 1 (1) 19 := ⟨by decide, 1, by decide, by decide +kernel, rfl⟩
theorem iX1_forget_19 : zB zX1_forget 19 .goto 22 2 := ⟨-17, by decide +kernel, rfl, by decide⟩
theorem iX1_forget_22 : zD zX1_forget 22 1 (.return_) 23 := ⟨by decide +kernel, rfl⟩
theorem iX1_add_0 : zAl zX1_add 0 0 1 := Or.inl ⟨0, rfl, by decide +kernel, rfl⟩
theorem iX1_add_1 : zGf zX1_add 1 1 0 4 := ⟨29, _, _, _, zcf_1, by decide, by decide +kernel, rfl, zT1_of (i := 67) rfl rfl⟩
theorem iX1_add_4 : zCo zX1_add 4 (6) 6 := Or.inr (Or.inl ⟨6, by decide, by decide +kernel, rfl⟩)
theorem iX1_add_6 : zB zX1_add 6 (.if_icmp .lt) 9 12 := ⟨6, by decide +kernel, rfl, by decide⟩
theorem iX1_add_9 : zCo zX1_add 9 (-4) 11 := Or.inr (Or.inl ⟨-4, by decide, by decide +kernel, rfl⟩)
theorem iX1_add_11 : zD zX1_add 11 1 (.ireturn) 12 := ⟨by decide +kernel, rfl⟩
theorem iX1_add_12 : zAl zX1_add 12 0 13 := Or.inl ⟨0, rfl, by decide +kernel, rfl⟩
theorem iX1_add_13 : zGf zX1_add 13 1 1 16 := ⟨9, _, _, _, zcf_1, by decide, by decide +kernel, rfl, zT1_of (i := 69) rfl rfl⟩
theorem iX1_add_16 : zAl zX1_add 16 0 17 := Or.inl ⟨0, rfl, by decide +kernel, rfl⟩
theorem iX1_add_17 : zGf zX1_add 17 1 0 20 := ⟨29, _, _, _, zcf_1, by decide, by decide +kernel, rfl, zT1_of (i := 67) rfl rfl⟩
theorem iX1_add_20 : zIl zX1_add 20 1 21 := Or.inl ⟨1, rfl, by decide +kernel, rfl⟩
theorem iX1_add_21 : zD zX1_add 21 1 (.iastore) 22 := ⟨by decide +kernel, rfl⟩
theorem iX1_add_22 : zAl zX1_add 22 0 23 := Or.inl ⟨0, rfl, by decide +kernel, rfl⟩
theorem iX1_add_23 : zD zX1_add 23 1 (.dup) 24 := ⟨by decide +kernel, rfl⟩
theorem iX1_add_24 : zGf zX1_add 24 1 0 27 := ⟨29, _, _, _, zcf_1, by decide, by decide +kernel, rfl, zT1_of (i := 67) rfl rfl⟩
theorem iX1_add_27 : zCo zX1_add 27 (1) 28 := Or.inl ⟨1, by decide, by decide +kernel, rfl⟩
theorem iX1_add_28 : zD zX1_add 28 1 (.iadd) 29 := ⟨by decide +kernel, rfl⟩
theorem iX1_add_29 : zPf zX1_add 29 1 0 .int 32 := ⟨29, _, _, _, zcf_1, by decide, by decide +kernel, rfl, zT1_of (i := 67) rfl rfl, by decide +kernel, Or.inl rfl⟩
theorem iX1_add_32 : zAl zX1_add 32 0 33 := Or.inl ⟨0, rfl, by decide +kernel, rfl⟩
theorem iX1_add_33 : zCl zX1_add 33 .invokevirtual zX1_forget 36 := ⟨26, by decide +kernel, rfl, Or.inl (zT1_of (i := 63) rfl rfl)⟩
theorem iX1_add_36 : zAl zX1_add 36 0 37 := Or.inl ⟨0, rfl, by decide +kernel, rfl⟩
theorem iX1_add_37 : zGf zX1_add 37 1 0 40 := ⟨29, _, _, _, zcf_1, by decide, by decide +kernel, rfl, zT1_of (i := 67) rfl rfl⟩
theorem iX1_add_40 : zCo zX1_add 40 (1) 41 := Or.inl ⟨1, by decide, by decide +kernel, rfl⟩
theorem iX1_add_41 : zD zX1_add 41 1 (.isub) 42 := ⟨by decide +kernel, rfl⟩
theorem iX1_add_42 : zD zX1_add 42 1 (.ireturn) 43 := ⟨by decide +kernel, rfl⟩
theorem iX1_wantsAt_0 : zIl zX1_wantsAt 0 1 1 := Or.inl ⟨1, rfl, by decide +kernel, rfl⟩
theorem iX1_wantsAt_1 : zB zX1_wantsAt 1 (.ifCond .lt) 4 10 := ⟨9, by decide +kernel, rfl, by decide⟩
theorem iX1_wantsAt_4 : zIl zX1_wantsAt 4 1 5 := Or.inl ⟨1, rfl, by decide +kernel, rfl⟩
theorem iX1_wantsAt_5 : zCo zX1_wantsAt 5 (6) 7 := Or.inr (Or.inl ⟨6, by decide, by decide +kernel, rfl⟩)
theorem iX1_wantsAt_7 : zB zX1_wantsAt 7 (.if_icmp .lt) 10 12 := ⟨5, by decide +kernel, rfl, by decide⟩
theorem iX1_wantsAt_10 : zCo zX1_wantsAt 10 (0) 11 := Or.inl ⟨0, by decide, by decide +kernel, rfl⟩
theorem iX1_wantsAt_11 : zD zX1_wantsAt 11 1 (.ireturn) 12 := ⟨by decide +kernel, rfl⟩
theorem iX1_wantsAt_12 : zAl zX1_wantsAt 12 0 13 := Or.inl ⟨0, rfl, by decide +kernel, rfl⟩
theorem iX1_wantsAt_13 : zGf zX1_wantsAt 13 1 2 16 := ⟨15, _, _, _, zcf_1, by decide, by decide +kernel, rfl, zT1_of (i := 70) rfl rfl⟩
theorem iX1_wantsAt_16 : zIl zX1_wantsAt 16 1 17 := Or.inl ⟨1, rfl, by decide +kernel, rfl⟩
theorem iX1_wantsAt_17 : zD zX1_wantsAt 17 1 (.iaload) 18 := ⟨by decide +kernel, rfl⟩
theorem iX1_wantsAt_18 : zIs zX1_wantsAt 18 2 19 := ⟨by decide, Or.inl ⟨2, rfl, by decide +kernel, rfl⟩⟩
theorem iX1_wantsAt_19 : zIl zX1_wantsAt 19 2 20 := Or.inl ⟨2, rfl, by decide +kernel, rfl⟩
theorem iX1_wantsAt_20 : zB zX1_wantsAt 20 (.ifCond .lt) 23 38 := ⟨18, by decide +kernel, rfl, by decide⟩
theorem iX1_wantsAt_23 : zIl zX1_wantsAt 23 2 24 := Or.inl ⟨2, rfl, by decide +kernel, rfl⟩
theorem iX1_wantsAt_24 : zCo zX1_wantsAt 24 (6) 26 := Or.inr (Or.inl ⟨6, by decide, by decide +kernel, rfl⟩)
theorem iX1_wantsAt_26 : zB zX1_wantsAt 26 (.if_icmp .ge) 29 38 := ⟨12, by decide +kernel, rfl, by decide⟩
theorem iX1_wantsAt_29 : zAl zX1_wantsAt 29 0 30 := Or.inl ⟨0, rfl, by decide +kernel, rfl⟩
theorem iX1_wantsAt_30 : zGf zX1_wantsAt 30 1 1 33 := ⟨9, _, _, _, zcf_1, by decide, by decide +kernel, rfl, zT1_of (i := 69) rfl rfl⟩
theorem iX1_wantsAt_33 : zIl zX1_wantsAt 33 2 34 := Or.inl ⟨2, rfl, by decide +kernel, rfl⟩
theorem iX1_wantsAt_34 : zD zX1_wantsAt 34 1 (.iaload) 35 := ⟨by decide +kernel, rfl⟩
theorem iX1_wantsAt_35 : zB zX1_wantsAt 35 .goto 38 39 := ⟨4, by decide +kernel, rfl, by decide⟩
theorem iX1_wantsAt_38 : zCo zX1_wantsAt 38 (0) 39 := Or.inl ⟨0, by decide, by decide +kernel, rfl⟩
theorem iX1_wantsAt_39 : zD zX1_wantsAt 39 1 (.ireturn) 40 := ⟨by decide +kernel, rfl⟩
theorem iX1_readOrder_0 : zLl zX1_readOrder 0 1 1 := Or.inl ⟨1, rfl, by decide +kernel, rfl⟩
theorem iX1_readOrder_1 : zLS zX1_readOrder 1 3 2 := ⟨by decide, Or.inl ⟨3, rfl, by decide +kernel, rfl⟩⟩
theorem iX1_readOrder_2 : zCo zX1_readOrder 2 (0) 3 := Or.inl ⟨0, by decide, by decide +kernel, rfl⟩
theorem iX1_readOrder_3 : zIs zX1_readOrder 3 5 5 := ⟨by decide, Or.inr ⟨by decide +kernel, rfl⟩⟩
theorem iX1_readOrder_5 : zCo zX1_readOrder 5 (0) 6 := Or.inl ⟨0, by decide, by decide +kernel, rfl⟩
theorem iX1_readOrder_6 : zIs zX1_readOrder 6 6 8 := ⟨by decide, Or.inr ⟨by decide +kernel, rfl⟩⟩
theorem iX1_readOrder_8 : zIl zX1_readOrder 8 6 10 := Or.inr ⟨by decide +kernel, rfl⟩
theorem iX1_readOrder_10 : zAl zX1_readOrder 10 0 11 := Or.inl ⟨0, rfl, by decide +kernel, rfl⟩
theorem iX1_readOrder_11 : zGf zX1_readOrder 11 1 0 14 := ⟨29, _, _, _, zcf_1, by decide, by decide +kernel, rfl, zT1_of (i := 67) rfl rfl⟩
theorem iX1_readOrder_14 : zB zX1_readOrder 14 (.if_icmp .ge) 17 88 := ⟨74, by decide +kernel, rfl, by decide⟩
theorem iX1_readOrder_17 : zIl zX1_readOrder 17 6 19 := Or.inr ⟨by decide +kernel, rfl⟩
theorem iX1_readOrder_19 : zCo zX1_readOrder 19 (6) 21 := Or.inr (Or.inl ⟨6, by decide, by decide +kernel, rfl⟩)
theorem iX1_readOrder_21 : zB zX1_readOrder 21 (.if_icmp .ge) 24 88 := ⟨67, by decide +kernel, rfl, by decide⟩
theorem iX1_readOrder_24 : zLl zX1_readOrder 24 3 25 := Or.inl ⟨3, rfl, by decide +kernel, rfl⟩
theorem iX1_readOrder_25 : zCL zX1_readOrder 25 (6) 28 := Or.inr ⟨33, zT4_of (i := 37) rfl rfl, by decide +kernel, rfl⟩
theorem iX1_readOrder_28 : zD zX1_readOrder 28 1 (.lrem) 29 := ⟨by decide +kernel, rfl⟩
theorem iX1_readOrder_29 : zD zX1_readOrder 29 1 (.l2i) 30 := ⟨by decide +kernel, rfl⟩
theorem iX1_readOrder_30 : zIs zX1_readOrder 30 7 32 := ⟨by decide, Or.inr ⟨by decide +kernel, rfl⟩⟩
theorem iX1_readOrder_32 : zLl zX1_readOrder 32 3 33 := Or.inl ⟨3, rfl, by decide +kernel, rfl⟩
theorem iX1_readOrder_33 : zCL zX1_readOrder 33 (6) 36 := Or.inr ⟨33, zT4_of (i := 37) rfl rfl, by decide +kernel, rfl⟩
theorem iX1_readOrder_36 : zD zX1_readOrder 36 1 (.ldiv) 37 := ⟨by decide +kernel, rfl⟩
theorem iX1_readOrder_37 : zLS zX1_readOrder 37 3 38 := ⟨by decide, Or.inl ⟨3, rfl, by decide +kernel, rfl⟩⟩
theorem iX1_readOrder_38 : zIl zX1_readOrder 38 7 40 := Or.inr ⟨by decide +kernel, rfl⟩
theorem iX1_readOrder_40 : zB zX1_readOrder 40 (.ifCond .lt) 43 62 := ⟨22, by decide +kernel, rfl, by decide⟩
theorem iX1_readOrder_43 : zIl zX1_readOrder 43 7 45 := Or.inr ⟨by decide +kernel, rfl⟩
theorem iX1_readOrder_45 : zAl zX1_readOrder 45 0 46 := Or.inl ⟨0, rfl, by decide +kernel, rfl⟩
theorem iX1_readOrder_46 : zGf zX1_readOrder 46 1 0 49 := ⟨29, _, _, _, zcf_1, by decide, by decide +kernel, rfl, zT1_of (i := 67) rfl rfl⟩
theorem iX1_readOrder_49 : zB zX1_readOrder 49 (.if_icmp .ge) 52 62 := ⟨13, by decide +kernel, rfl, by decide⟩
theorem iX1_readOrder_52 : zIl zX1_readOrder 52 5 54 := Or.inr ⟨by decide +kernel, rfl⟩
theorem iX1_readOrder_54 : zIl zX1_readOrder 54 7 56 := Or.inr ⟨by decide +kernel, rfl⟩
theorem iX1_readOrder_56 : zD zX1_readOrder 56 1 (.ishr) 57 := ⟨by decide +kernel, rfl⟩
theorem iX1_readOrder_57 : zCo zX1_readOrder 57 (1) 58 := Or.inl ⟨1, by decide, by decide +kernel, rfl⟩
theorem iX1_readOrder_58 : zD zX1_readOrder 58 1 (.iand) 59 := ⟨by decide +kernel, rfl⟩
theorem iX1_readOrder_59 : zB zX1_readOrder 59 (.ifCond .eq) 62 64 := ⟨5, by decide +kernel, rfl, by decide⟩
theorem iX1_readOrder_62 : zCo zX1_readOrder 62 (0) 63 := Or.inl ⟨0, by decide, by decide +kernel, rfl⟩
theorem iX1_readOrder_63 : zD zX1_readOrder 63 1 (.ireturn) 64 := ⟨by decide +kernel, rfl⟩
theorem iX1_readOrder_64 : zIl zX1_readOrder 64 5 66 := Or.inr ⟨by decide +kernel, rfl⟩
theorem iX1_readOrder_66 : zCo zX1_readOrder 66 (1) 67 := Or.inl ⟨1, by decide, by decide +kernel, rfl⟩
theorem iX1_readOrder_67 : zIl zX1_readOrder 67 7 69 := Or.inr ⟨by decide +kernel, rfl⟩
theorem iX1_readOrder_69 : zD zX1_readOrder 69 1 (.ishl) 70 := ⟨by decide +kernel, rfl⟩
theorem iX1_readOrder_70 : zD zX1_readOrder 70 1 (.ior) 71 := ⟨by decide +kernel, rfl⟩
theorem iX1_readOrder_71 : zIs zX1_readOrder 71 5 73 := ⟨by decide, Or.inr ⟨by decide +kernel, rfl⟩⟩
theorem iX1_readOrder_73 : zAl zX1_readOrder 73 0 74 := Or.inl ⟨0, rfl, by decide +kernel, rfl⟩
theorem iX1_readOrder_74 : zGf zX1_readOrder 74 1 2 77 := ⟨15, _, _, _, zcf_1, by decide, by decide +kernel, rfl, zT1_of (i := 70) rfl rfl⟩
theorem iX1_readOrder_77 : zIl zX1_readOrder 77 6 79 := Or.inr ⟨by decide +kernel, rfl⟩
theorem iX1_readOrder_79 : zIl zX1_readOrder 79 7 81 := Or.inr ⟨by decide +kernel, rfl⟩
theorem iX1_readOrder_81 : zD zX1_readOrder 81 1 (.iastore) 82 := ⟨by decide +kernel, rfl⟩
theorem iX1_readOrder_82 : zIn zX1_readOrder 82 6 (1) 85 := ⟨by decide, 1, by decide, by decide +kernel, rfl⟩
theorem iX1_readOrder_85 : zB zX1_readOrder 85 .goto 88 8 := ⟨-77, by decide +kernel, rfl, by decide⟩
theorem iX1_readOrder_88 : zLl zX1_readOrder 88 3 89 := Or.inl ⟨3, rfl, by decide +kernel, rfl⟩
theorem iX1_readOrder_89 : zCL zX1_readOrder 89 0 90 := Or.inl ⟨0, by decide, by decide +kernel, rfl⟩
theorem iX1_readOrder_90 : zD zX1_readOrder 90 1 (.lcmp) 91 := ⟨by decide +kernel, rfl⟩
theorem iX1_readOrder_91 : zB zX1_readOrder 91 (.ifCond .ne) 94 98 := ⟨7, by decide +kernel, rfl, by decide⟩
theorem iX1_readOrder_94 : zCo zX1_readOrder 94 (1) 95 := Or.inl ⟨1, by decide, by decide +kernel, rfl⟩
theorem iX1_readOrder_95 : zB zX1_readOrder 95 .goto 98 99 := ⟨4, by decide +kernel, rfl, by decide⟩
theorem iX1_readOrder_98 : zCo zX1_readOrder 98 (0) 99 := Or.inl ⟨0, by decide, by decide +kernel, rfl⟩
theorem iX1_readOrder_99 : zD zX1_readOrder 99 1 (.ireturn) 100 := ⟨by decide +kernel, rfl⟩
theorem iX1_changesOfRow_0 : zCo zX1_changesOfRow 0 (0) 1 := Or.inl ⟨0, by decide, by decide +kernel, rfl⟩
theorem iX1_changesOfRow_1 : zIs zX1_changesOfRow 1 2 2 := ⟨by decide, Or.inl ⟨2, rfl, by decide +kernel, rfl⟩⟩
theorem iX1_changesOfRow_2 : zCo zX1_changesOfRow 2 (0) 3 := Or.inl ⟨0, by decide, by decide +kernel, rfl⟩
theorem iX1_changesOfRow_3 : zIs zX1_changesOfRow 3 3 4 := ⟨by decide, Or.inl ⟨3, rfl, by decide +kernel, rfl⟩⟩
theorem iX1_changesOfRow_4 : zCo zX1_changesOfRow 4 (0) 5 := Or.inl ⟨0, by decide, by decide +kernel, rfl⟩
theorem iX1_changesOfRow_5 : zIs zX1_changesOfRow 5 4 7 := ⟨by decide, Or.inr ⟨by decide +kernel, rfl⟩⟩
theorem iX1_changesOfRow_7 : zIl zX1_changesOfRow 7 4 9 := Or.inr ⟨by decide +kernel, rfl⟩
theorem iX1_changesOfRow_9 : zAl zX1_changesOfRow 9 0 10 := Or.inl ⟨0, rfl, by decide +kernel, rfl⟩
theorem iX1_changesOfRow_10 : zGf zX1_changesOfRow 10 1 0 13 := ⟨29, _, _, _, zcf_1, by decide, by decide +kernel, rfl, zT1_of (i := 67) rfl rfl⟩
theorem iX1_changesOfRow_13 : zB zX1_changesOfRow 13 (.if_icmp .ge) 16 96 := ⟨83, by decide +kernel, rfl, by decide⟩
theorem iX1_changesOfRow_16 : zAl zX1_changesOfRow 16 0 17 := Or.inl ⟨0, rfl, by decide +kernel, rfl⟩
theorem iX1_changesOfRow_17 : zIl zX1_changesOfRow 17 4 19 := Or.inr ⟨by decide +kernel, rfl⟩
theorem iX1_changesOfRow_19 : zCl zX1_changesOfRow 19 .invokevirtual zX1_wantsAt 22 := ⟨35, by decide +kernel, rfl, Or.inl (zT4_of (i := 42) rfl rfl)⟩
theorem iX1_changesOfRow_22 : zIs zX1_changesOfRow 22 5 24 := ⟨by decide, Or.inr ⟨by decide +kernel, rfl⟩⟩
theorem iX1_changesOfRow_24 : zIl zX1_changesOfRow 24 5 26 := Or.inr ⟨by decide +kernel, rfl⟩
theorem iX1_changesOfRow_26 : zCl zX1_changesOfRow 26 .invokestatic zJ6_bitCount_0f7a4 29 := ⟨39, by decide +kernel, rfl, Or.inl (zT4_of (i := 46) rfl rfl)⟩
theorem iX1_changesOfRow_29 : zIl zX1_changesOfRow 29 1 30 := Or.inl ⟨1, rfl, by decide +kernel, rfl⟩
theorem iX1_changesOfRow_30 : zB zX1_changesOfRow 30 (.if_icmp .le) 33 35 := ⟨5, by decide +kernel, rfl, by decide⟩
theorem iX1_changesOfRow_33 : zCo zX1_changesOfRow 33 (-1) 34 := Or.inl ⟨-1, by decide, by decide +kernel, rfl⟩
theorem iX1_changesOfRow_34 : zD zX1_changesOfRow 34 1 (.ireturn) 35 := ⟨by decide +kernel, rfl⟩
theorem iX1_changesOfRow_35 : zIl zX1_changesOfRow 35 3 36 := Or.inl ⟨3, rfl, by decide +kernel, rfl⟩
theorem iX1_changesOfRow_36 : zIl zX1_changesOfRow 36 5 38 := Or.inr ⟨by decide +kernel, rfl⟩
theorem iX1_changesOfRow_38 : zIl zX1_changesOfRow 38 2 39 := Or.inl ⟨2, rfl, by decide +kernel, rfl⟩
theorem iX1_changesOfRow_39 : zCo zX1_changesOfRow 39 (-1) 40 := Or.inl ⟨-1, by decide, by decide +kernel, rfl⟩
theorem iX1_changesOfRow_40 : zD zX1_changesOfRow 40 1 (.ixor) 41 := ⟨by decide +kernel, rfl⟩
theorem iX1_changesOfRow_41 : zD zX1_changesOfRow 41 1 (.iand) 42 := ⟨by decide +kernel, rfl⟩
theorem iX1_changesOfRow_42 : zCl zX1_changesOfRow 42 .invokestatic zJ6_bitCount_0f7a4 45 := ⟨39, by decide +kernel, rfl, Or.inl (zT4_of (i := 46) rfl rfl)⟩
theorem iX1_changesOfRow_45 : zD zX1_changesOfRow 45 1 (.iadd) 46 := ⟨by decide +kernel, rfl⟩
theorem iX1_changesOfRow_46 : zIs zX1_changesOfRow 46 3 47 := ⟨by decide, Or.inl ⟨3, rfl, by decide +kernel, rfl⟩⟩
theorem iX1_changesOfRow_47 : zIl zX1_changesOfRow 47 2 48 := Or.inl ⟨2, rfl, by decide +kernel, rfl⟩
theorem iX1_changesOfRow_48 : zIl zX1_changesOfRow 48 5 50 := Or.inr ⟨by decide +kernel, rfl⟩
theorem iX1_changesOfRow_50 : zD zX1_changesOfRow 50 1 (.ior) 51 := ⟨by decide +kernel, rfl⟩
theorem iX1_changesOfRow_51 : zIs zX1_changesOfRow 51 2 52 := ⟨by decide, Or.inl ⟨2, rfl, by decide +kernel, rfl⟩⟩
theorem iX1_changesOfRow_52 : zIl zX1_changesOfRow 52 2 53 := Or.inl ⟨2, rfl, by decide +kernel, rfl⟩
theorem iX1_changesOfRow_53 : zCl zX1_changesOfRow 53 .invokestatic zJ6_bitCount_0f7a4 56 := ⟨39, by decide +kernel, rfl, Or.inl (zT4_of (i := 46) rfl rfl)⟩
theorem iX1_changesOfRow_56 : zIl zX1_changesOfRow 56 1 57 := Or.inl ⟨1, rfl, by decide +kernel, rfl⟩
theorem iX1_changesOfRow_57 : zD zX1_changesOfRow 57 1 (.isub) 58 := ⟨by decide +kernel, rfl⟩
theorem iX1_changesOfRow_58 : zIs zX1_changesOfRow 58 6 60 := ⟨by decide, Or.inr ⟨by decide +kernel, rfl⟩⟩
theorem iX1_changesOfRow_60 : zIl zX1_changesOfRow 60 6 62 := Or.inr ⟨by decide +kernel, rfl⟩
theorem iX1_changesOfRow_62 : zB zX1_changesOfRow 62 (.ifCond .le) 65 90 := ⟨28, by decide +kernel, rfl, by decide⟩
theorem iX1_changesOfRow_65 : zIl zX1_changesOfRow 65 2 66 := Or.inl ⟨2, rfl, by decide +kernel, rfl⟩
theorem iX1_changesOfRow_66 : zAl zX1_changesOfRow 66 0 67 := Or.inl ⟨0, rfl, by decide +kernel, rfl⟩
theorem iX1_changesOfRow_67 : zIl zX1_changesOfRow 67 2 68 := Or.inl ⟨2, rfl, by decide +kernel, rfl⟩
theorem iX1_changesOfRow_68 : zIl zX1_changesOfRow 68 5 70 := Or.inr ⟨by decide +kernel, rfl⟩
theorem iX1_changesOfRow_70 : zCo zX1_changesOfRow 70 (-1) 71 := Or.inl ⟨-1, by decide, by decide +kernel, rfl⟩
theorem iX1_changesOfRow_71 : zD zX1_changesOfRow 71 1 (.ixor) 72 := ⟨by decide +kernel, rfl⟩
theorem iX1_changesOfRow_72 : zD zX1_changesOfRow 72 1 (.iand) 73 := ⟨by decide +kernel, rfl⟩
theorem iX1_changesOfRow_73 : zIl zX1_changesOfRow 73 4 75 := Or.inr ⟨by decide +kernel, rfl⟩
theorem iX1_changesOfRow_75 : zCo zX1_changesOfRow 75 (1) 76 := Or.inl ⟨1, by decide, by decide +kernel, rfl⟩
theorem iX1_changesOfRow_76 : zD zX1_changesOfRow 76 1 (.iadd) 77 := ⟨by decide +kernel, rfl⟩
theorem iX1_changesOfRow_77 : zCl zX1_changesOfRow 77 .invokevirtual zX1_outgoing 80 := ⟨44, by decide +kernel, rfl, Or.inl (zT4_of (i := 47) rfl rfl)⟩
theorem iX1_changesOfRow_80 : zCo zX1_changesOfRow 80 (-1) 81 := Or.inl ⟨-1, by decide, by decide +kernel, rfl⟩
theorem iX1_changesOfRow_81 : zD zX1_changesOfRow 81 1 (.ixor) 82 := ⟨by decide +kernel, rfl⟩
theorem iX1_changesOfRow_82 : zD zX1_changesOfRow 82 1 (.iand) 83 := ⟨by decide +kernel, rfl⟩
theorem iX1_changesOfRow_83 : zIs zX1_changesOfRow 83 2 84 := ⟨by decide, Or.inl ⟨2, rfl, by decide +kernel, rfl⟩⟩
theorem iX1_changesOfRow_84 : zIn zX1_changesOfRow 84 6 (-1) 87 := ⟨by decide, -1, by decide, by decide +kernel, rfl⟩
theorem iX1_changesOfRow_87 : zB zX1_changesOfRow 87 .goto 90 60 := ⟨-27, by decide +kernel, rfl, by decide⟩
theorem iX1_changesOfRow_90 : zIn zX1_changesOfRow 90 4 (1) 93 := ⟨by decide, 1, by decide, by decide +kernel, rfl⟩
theorem iX1_changesOfRow_93 : zB zX1_changesOfRow 93 .goto 96 7 := ⟨-86, by decide +kernel, rfl, by decide⟩
theorem iX1_changesOfRow_96 : zIl zX1_changesOfRow 96 3 97 := Or.inl ⟨3, rfl, by decide +kernel, rfl⟩
theorem iX1_changesOfRow_97 : zD zX1_changesOfRow 97 1 (.ireturn) 98 := ⟨by decide +kernel, rfl⟩
theorem iX1_outgoing_0 : zIl zX1_outgoing 0 1 1 := Or.inl ⟨1, rfl, by decide +kernel, rfl⟩
theorem iX1_outgoing_1 : zIs zX1_outgoing 1 3 2 := ⟨by decide, Or.inl ⟨3, rfl, by decide +kernel, rfl⟩⟩
theorem iX1_outgoing_2 : zIl zX1_outgoing 2 2 3 := Or.inl ⟨2, rfl, by decide +kernel, rfl⟩
theorem iX1_outgoing_3 : zIs zX1_outgoing 3 4 5 := ⟨by decide, Or.inr ⟨by decide +kernel, rfl⟩⟩
theorem iX1_outgoing_5 : zIl zX1_outgoing 5 4 7 := Or.inr ⟨by decide +kernel, rfl⟩
theorem iX1_outgoing_7 : zAl zX1_outgoing 7 0 8 := Or.inl ⟨0, rfl, by decide +kernel, rfl⟩
theorem iX1_outgoing_8 : zGf zX1_outgoing 8 1 0 11 := ⟨29, _, _, _, zcf_1, by decide, by decide +kernel, rfl, zT1_of (i := 67) rfl rfl⟩
theorem iX1_outgoing_11 : zB zX1_outgoing 11 (.if_icmp .ge) 14 43 := ⟨32, by decide +kernel, rfl, by decide⟩
theorem iX1_outgoing_14 : zIl zX1_outgoing 14 3 15 := Or.inl ⟨3, rfl, by decide +kernel, rfl⟩
theorem iX1_outgoing_15 : zAl zX1_outgoing 15 0 16 := Or.inl ⟨0, rfl, by decide +kernel, rfl⟩
theorem iX1_outgoing_16 : zIl zX1_outgoing 16 4 18 := Or.inr ⟨by decide +kernel, rfl⟩
theorem iX1_outgoing_18 : zCl zX1_outgoing 18 .invokevirtual zX1_wantsAt 21 := ⟨35, by decide +kernel, rfl, Or.inl (zT4_of (i := 42) rfl rfl)⟩
theorem iX1_outgoing_21 : zCo zX1_outgoing 21 (-1) 22 := Or.inl ⟨-1, by decide, by decide +kernel, rfl⟩
theorem iX1_outgoing_22 : zD zX1_outgoing 22 1 (.ixor) 23 := ⟨by decide +kernel, rfl⟩
theorem iX1_outgoing_23 : zD zX1_outgoing 23 1 (.iand) 24 := ⟨by decide +kernel, rfl⟩
theorem iX1_outgoing_24 : zIs zX1_outgoing 24 5 26 := ⟨by decide, Or.inr ⟨by decide +kernel, rfl⟩⟩
theorem iX1_outgoing_26 : zIl zX1_outgoing 26 5 28 := Or.inr ⟨by decide +kernel, rfl⟩
theorem iX1_outgoing_28 : zB zX1_outgoing 28 (.ifCond .ne) 31 34 := ⟨6, by decide +kernel, rfl, by decide⟩
theorem iX1_outgoing_31 : zB zX1_outgoing 31 .goto 34 43 := ⟨12, by decide +kernel, rfl, by decide⟩
theorem iX1_outgoing_34 : zIl zX1_outgoing 34 5 36 := Or.inr ⟨by decide +kernel, rfl⟩
theorem iX1_outgoing_36 : zIs zX1_outgoing 36 3 37 := ⟨by decide, Or.inl ⟨3, rfl, by decide +kernel, rfl⟩⟩
theorem iX1_outgoing_37 : zIn zX1_outgoing 37 4 (1) 40 := ⟨by decide, 1, by decide, by decide +kernel, rfl⟩
theorem iX1_outgoing_40 : zB zX1_outgoing 40 .goto 43 5 := ⟨-35, by decide +kernel, rfl, by decide⟩
theorem iX1_outgoing_43 : zIl zX1_outgoing 43 3 44 := Or.inl ⟨3, rfl, by decide +kernel, rfl⟩
theorem iX1_outgoing_44 : zCl zX1_outgoing 44 .invokestatic zX1_greatestOf 47 := ⟨48, by decide +kernel, rfl, Or.inl (zT4_of (i := 51) rfl rfl)⟩
theorem iX1_outgoing_47 : zD zX1_outgoing 47 1 (.ireturn) 48 := ⟨by decide +kernel, rfl⟩
theorem iX1_greatestOf_0 : zCo zX1_greatestOf 0 (9) 2 := Or.inr (Or.inl ⟨9, by decide, by decide +kernel, rfl⟩)
theorem iX1_greatestOf_2 : zIs zX1_greatestOf 2 1 3 := ⟨by decide, Or.inl ⟨1, rfl, by decide +kernel, rfl⟩⟩
theorem iX1_greatestOf_3 : zIl zX1_greatestOf 3 1 4 := Or.inl ⟨1, rfl, by decide +kernel, rfl⟩
theorem iX1_greatestOf_4 : zB zX1_greatestOf 4 (.ifCond .le) 7 25 := ⟨21, by decide +kernel, rfl, by decide⟩
theorem iX1_greatestOf_7 : zIl zX1_greatestOf 7 0 8 := Or.inl ⟨0, rfl, by decide +kernel, rfl⟩
theorem iX1_greatestOf_8 : zIl zX1_greatestOf 8 1 9 := Or.inl ⟨1, rfl, by decide +kernel, rfl⟩
theorem iX1_greatestOf_9 : zD zX1_greatestOf 9 1 (.ishr) 10 := ⟨by decide +kernel, rfl⟩
theorem iX1_greatestOf_10 : zCo zX1_greatestOf 10 (1) 11 := Or.inl ⟨1, by decide, by decide +kernel, rfl⟩
theorem iX1_greatestOf_11 : zD zX1_greatestOf 11 1 (.iand) 12 := ⟨by decide +kernel, rfl⟩
theorem iX1_greatestOf_12 : zB zX1_greatestOf 12 (.ifCond .eq) 15 19 := ⟨7, by decide +kernel, rfl, by decide⟩
theorem iX1_greatestOf_15 : zCo zX1_greatestOf 15 (1) 16 := Or.inl ⟨1, by decide, by decide +kernel, rfl⟩
theorem iX1_greatestOf_16 : zIl zX1_greatestOf 16 1 17 := Or.inl ⟨1, rfl, by decide +kernel, rfl⟩
theorem iX1_greatestOf_17 : zD zX1_greatestOf 17 1 (.ishl) 18 := ⟨by decide +kernel, rfl⟩
theorem iX1_greatestOf_18 : zD zX1_greatestOf 18 1 (.ireturn) 19 := ⟨by decide +kernel, rfl⟩
theorem iX1_greatestOf_19 : zIn zX1_greatestOf 19 1 (-1) 22 := ⟨by decide, -1, by decide, by decide +kernel, rfl⟩
theorem iX1_greatestOf_22 : zB zX1_greatestOf 22 .goto 25 3 := ⟨-19, by decide +kernel, rfl, by decide⟩
theorem iX1_greatestOf_25 : zCo zX1_greatestOf 25 (1) 26 := Or.inl ⟨1, by decide, by decide +kernel, rfl⟩
theorem iX1_greatestOf_26 : zD zX1_greatestOf 26 1 (.ireturn) 27 := ⟨by decide +kernel, rfl⟩
theorem iX1_fewestChanges_0 : zIl zX1_fewestChanges 0 1 1 := Or.inl ⟨1, rfl, by decide +kernel, rfl⟩
theorem iX1_fewestChanges_1 : zCo zX1_fewestChanges 1 (1) 2 := Or.inl ⟨1, by decide, by decide +kernel, rfl⟩
theorem iX1_fewestChanges_2 : zB zX1_fewestChanges 2 (.if_icmp .lt) 5 11 := ⟨9, by decide +kernel, rfl, by decide⟩
theorem iX1_fewestChanges_5 : zIl zX1_fewestChanges 5 1 6 := Or.inl ⟨1, rfl, by decide +kernel, rfl⟩
theorem iX1_fewestChanges_6 : zCo zX1_fewestChanges 6 (9) 8 := Or.inr (Or.inl ⟨9, by decide, by decide +kernel, rfl⟩)
theorem iX1_fewestChanges_8 : zB zX1_fewestChanges 8 (.if_icmp .le) 11 13 := ⟨5, by decide +kernel, rfl, by decide⟩
theorem iX1_fewestChanges_11 : zCo zX1_fewestChanges 11 (-1) 12 := Or.inl ⟨-1, by decide, by decide +kernel, rfl⟩
theorem iX1_fewestChanges_12 : zD zX1_fewestChanges 12 1 (.ireturn) 13 := ⟨by decide +kernel, rfl⟩
theorem iX1_fewestChanges_13 : zAl zX1_fewestChanges 13 0 14 := Or.inl ⟨0, rfl, by decide +kernel, rfl⟩
theorem iX1_fewestChanges_14 : zGf zX1_fewestChanges 14 1 3 17 := ⟨18, _, _, _, zcf_1, by decide, by decide +kernel, rfl, zT1_of (i := 71) rfl rfl⟩
theorem iX1_fewestChanges_17 : zIl zX1_fewestChanges 17 1 18 := Or.inl ⟨1, rfl, by decide +kernel, rfl⟩
theorem iX1_fewestChanges_18 : zD zX1_fewestChanges 18 1 (.iaload) 19 := ⟨by decide +kernel, rfl⟩
theorem iX1_fewestChanges_19 : zCo zX1_fewestChanges 19 (-2) 21 := Or.inr (Or.inl ⟨-2, by decide, by decide +kernel, rfl⟩)
theorem iX1_fewestChanges_21 : zB zX1_fewestChanges 21 (.if_icmp .ne) 24 29 := ⟨8, by decide +kernel, rfl, by decide⟩
theorem iX1_fewestChanges_24 : zAl zX1_fewestChanges 24 0 25 := Or.inl ⟨0, rfl, by decide +kernel, rfl⟩
theorem iX1_fewestChanges_25 : zIl zX1_fewestChanges 25 1 26 := Or.inl ⟨1, rfl, by decide +kernel, rfl⟩
theorem iX1_fewestChanges_26 : zCl zX1_fewestChanges 26 .invokevirtual zX1_findBest 29 := ⟨51, by decide +kernel, rfl, Or.inl (zT4_of (i := 62) rfl rfl)⟩
theorem iX1_fewestChanges_29 : zAl zX1_fewestChanges 29 0 30 := Or.inl ⟨0, rfl, by decide +kernel, rfl⟩
theorem iX1_fewestChanges_30 : zGf zX1_fewestChanges 30 1 3 33 := ⟨18, _, _, _, zcf_1, by decide, by decide +kernel, rfl, zT1_of (i := 71) rfl rfl⟩
theorem iX1_fewestChanges_33 : zIl zX1_fewestChanges 33 1 34 := Or.inl ⟨1, rfl, by decide +kernel, rfl⟩
theorem iX1_fewestChanges_34 : zD zX1_fewestChanges 34 1 (.iaload) 35 := ⟨by decide +kernel, rfl⟩
theorem iX1_fewestChanges_35 : zD zX1_fewestChanges 35 1 (.ireturn) 36 := ⟨by decide +kernel, rfl⟩
theorem iX1_bestAt_0 : zIl zX1_bestAt 0 1 1 := Or.inl ⟨1, rfl, by decide +kernel, rfl⟩
theorem iX1_bestAt_1 : zCo zX1_bestAt 1 (1) 2 := Or.inl ⟨1, by decide, by decide +kernel, rfl⟩
theorem iX1_bestAt_2 : zB zX1_bestAt 2 (.if_icmp .lt) 5 40 := ⟨38, by decide +kernel, rfl, by decide⟩
theorem iX1_bestAt_5 : zIl zX1_bestAt 5 1 6 := Or.inl ⟨1, rfl, by decide +kernel, rfl⟩
theorem iX1_bestAt_6 : zCo zX1_bestAt 6 (9) 8 := Or.inr (Or.inl ⟨9, by decide, by decide +kernel, rfl⟩)
theorem iX1_bestAt_8 : zB zX1_bestAt 8 (.if_icmp .gt) 11 40 := ⟨32, by decide +kernel, rfl, by decide⟩
theorem iX1_bestAt_11 : zIl zX1_bestAt 11 2 12 := Or.inl ⟨2, rfl, by decide +kernel, rfl⟩
theorem iX1_bestAt_12 : zB zX1_bestAt 12 (.ifCond .lt) 15 40 := ⟨28, by decide +kernel, rfl, by decide⟩
theorem iX1_bestAt_15 : zIl zX1_bestAt 15 2 16 := Or.inl ⟨2, rfl, by decide +kernel, rfl⟩
theorem iX1_bestAt_16 : zAl zX1_bestAt 16 0 17 := Or.inl ⟨0, rfl, by decide +kernel, rfl⟩
theorem iX1_bestAt_17 : zGf zX1_bestAt 17 1 0 20 := ⟨29, _, _, _, zcf_1, by decide, by decide +kernel, rfl, zT1_of (i := 67) rfl rfl⟩
theorem iX1_bestAt_20 : zB zX1_bestAt 20 (.if_icmp .ge) 23 40 := ⟨20, by decide +kernel, rfl, by decide⟩
theorem iX1_bestAt_23 : zIl zX1_bestAt 23 2 24 := Or.inl ⟨2, rfl, by decide +kernel, rfl⟩
theorem iX1_bestAt_24 : zCo zX1_bestAt 24 (6) 26 := Or.inr (Or.inl ⟨6, by decide, by decide +kernel, rfl⟩)
theorem iX1_bestAt_26 : zB zX1_bestAt 26 (.if_icmp .ge) 29 40 := ⟨14, by decide +kernel, rfl, by decide⟩
theorem iX1_bestAt_29 : zAl zX1_bestAt 29 0 30 := Or.inl ⟨0, rfl, by decide +kernel, rfl⟩
theorem iX1_bestAt_30 : zGf zX1_bestAt 30 1 4 33 := ⟨23, _, _, _, zcf_1, by decide, by decide +kernel, rfl, zT1_of (i := 72) rfl rfl⟩
theorem iX1_bestAt_33 : zIl zX1_bestAt 33 1 34 := Or.inl ⟨1, rfl, by decide +kernel, rfl⟩
theorem iX1_bestAt_34 : zD zX1_bestAt 34 1 (.aaload) 35 := ⟨by decide +kernel, rfl⟩
theorem iX1_bestAt_35 : zIl zX1_bestAt 35 2 36 := Or.inl ⟨2, rfl, by decide +kernel, rfl⟩
theorem iX1_bestAt_36 : zD zX1_bestAt 36 1 (.iaload) 37 := ⟨by decide +kernel, rfl⟩
theorem iX1_bestAt_37 : zB zX1_bestAt 37 .goto 40 41 := ⟨4, by decide +kernel, rfl, by decide⟩
theorem iX1_bestAt_40 : zCo zX1_bestAt 40 (-1) 41 := Or.inl ⟨-1, by decide, by decide +kernel, rfl⟩
theorem iX1_bestAt_41 : zD zX1_bestAt 41 1 (.ireturn) 42 := ⟨by decide +kernel, rfl⟩
theorem iX1_findBest_0 : zCo zX1_findBest 0 (0) 1 := Or.inl ⟨0, by decide, by decide +kernel, rfl⟩
theorem iX1_findBest_1 : zIs zX1_findBest 1 2 2 := ⟨by decide, Or.inl ⟨2, rfl, by decide +kernel, rfl⟩⟩
theorem iX1_findBest_2 : zIl zX1_findBest 2 2 3 := Or.inl ⟨2, rfl, by decide +kernel, rfl⟩
theorem iX1_findBest_3 : zCo zX1_findBest 3 (6) 5 := Or.inr (Or.inl ⟨6, by decide, by decide +kernel, rfl⟩)
theorem iX1_findBest_5 : zB zX1_findBest 5 (.if_icmp .ge) 8 21 := ⟨16, by decide +kernel, rfl, by decide⟩
theorem iX1_findBest_8 : zAl zX1_findBest 8 0 9 := Or.inl ⟨0, rfl, by decide +kernel, rfl⟩
theorem iX1_findBest_9 : zGf zX1_findBest 9 1 2 12 := ⟨15, _, _, _, zcf_1, by decide, by decide +kernel, rfl, zT1_of (i := 70) rfl rfl⟩
theorem iX1_findBest_12 : zIl zX1_findBest 12 2 13 := Or.inl ⟨2, rfl, by decide +kernel, rfl⟩
theorem iX1_findBest_13 : zIl zX1_findBest 13 2 14 := Or.inl ⟨2, rfl, by decide +kernel, rfl⟩
theorem iX1_findBest_14 : zD zX1_findBest 14 1 (.iastore) 15 := ⟨by decide +kernel, rfl⟩
theorem iX1_findBest_15 : zIn zX1_findBest 15 2 (1) 18 := ⟨by decide, 1, by decide, by decide +kernel, rfl⟩
theorem iX1_findBest_18 : zB zX1_findBest 18 .goto 21 2 := ⟨-16, by decide +kernel, rfl, by decide⟩
theorem iX1_findBest_21 : zAl zX1_findBest 21 0 22 := Or.inl ⟨0, rfl, by decide +kernel, rfl⟩
theorem iX1_findBest_22 : zIl zX1_findBest 22 1 23 := Or.inl ⟨1, rfl, by decide +kernel, rfl⟩
theorem iX1_findBest_23 : zAl zX1_findBest 23 0 24 := Or.inl ⟨0, rfl, by decide +kernel, rfl⟩
theorem iX1_findBest_24 : zIl zX1_findBest 24 1 25 := Or.inl ⟨1, rfl, by decide +kernel, rfl⟩
theorem iX1_findBest_25 : zCl zX1_findBest 25 .invokevirtual zX1_changesOfRow 28 := ⟨55, by decide +kernel, rfl, Or.inl (zT4_of (i := 66) rfl rfl)⟩
theorem iX1_findBest_28 : zCl zX1_findBest 28 .invokevirtual zX1_keepRow 31 := ⟨58, by decide +kernel, rfl, Or.inl (zT4_of (i := 67) rfl rfl)⟩
theorem iX1_findBest_31 : zCo zX1_findBest 31 (1) 32 := Or.inl ⟨1, by decide, by decide +kernel, rfl⟩
theorem iX1_findBest_32 : zIs zX1_findBest 32 2 33 := ⟨by decide, Or.inl ⟨2, rfl, by decide +kernel, rfl⟩⟩
theorem iX1_findBest_33 : zIl zX1_findBest 33 2 34 := Or.inl ⟨2, rfl, by decide +kernel, rfl⟩
theorem iX1_findBest_34 : zCo zX1_findBest 34 (720) 37 := Or.inr (Or.inr (Or.inl ⟨720, by decide, by decide +kernel, rfl⟩))
theorem iX1_findBest_37 : zB zX1_findBest 37 (.if_icmp .ge) 40 84 := ⟨47, by decide +kernel, rfl, by decide⟩
theorem iX1_findBest_40 : zAl zX1_findBest 40 0 41 := Or.inl ⟨0, rfl, by decide +kernel, rfl⟩
theorem iX1_findBest_41 : zGf zX1_findBest 41 1 3 44 := ⟨18, _, _, _, zcf_1, by decide, by decide +kernel, rfl, zT1_of (i := 71) rfl rfl⟩
theorem iX1_findBest_44 : zIl zX1_findBest 44 1 45 := Or.inl ⟨1, rfl, by decide +kernel, rfl⟩
theorem iX1_findBest_45 : zD zX1_findBest 45 1 (.iaload) 46 := ⟨by decide +kernel, rfl⟩
theorem iX1_findBest_46 : zB zX1_findBest 46 (.ifCond .le) 49 84 := ⟨38, by decide +kernel, rfl, by decide⟩
theorem iX1_findBest_49 : zAl zX1_findBest 49 0 50 := Or.inl ⟨0, rfl, by decide +kernel, rfl⟩
theorem iX1_findBest_50 : zCl zX1_findBest 50 .invokevirtual zX1_nextRow 53 := ⟨62, by decide +kernel, rfl, Or.inl (zT4_of (i := 71) rfl rfl)⟩
theorem iX1_findBest_53 : zB zX1_findBest 53 (.ifCond .eq) 56 84 := ⟨31, by decide +kernel, rfl, by decide⟩
theorem iX1_findBest_56 : zAl zX1_findBest 56 0 57 := Or.inl ⟨0, rfl, by decide +kernel, rfl⟩
theorem iX1_findBest_57 : zIl zX1_findBest 57 1 58 := Or.inl ⟨1, rfl, by decide +kernel, rfl⟩
theorem iX1_findBest_58 : zCl zX1_findBest 58 .invokevirtual zX1_changesOfRow 61 := ⟨55, by decide +kernel, rfl, Or.inl (zT4_of (i := 66) rfl rfl)⟩
theorem iX1_findBest_61 : zIs zX1_findBest 61 3 62 := ⟨by decide, Or.inl ⟨3, rfl, by decide +kernel, rfl⟩⟩
theorem iX1_findBest_62 : zIl zX1_findBest 62 3 63 := Or.inl ⟨3, rfl, by decide +kernel, rfl⟩
theorem iX1_findBest_63 : zAl zX1_findBest 63 0 64 := Or.inl ⟨0, rfl, by decide +kernel, rfl⟩
theorem iX1_findBest_64 : zGf zX1_findBest 64 1 3 67 := ⟨18, _, _, _, zcf_1, by decide, by decide +kernel, rfl, zT1_of (i := 71) rfl rfl⟩
theorem iX1_findBest_67 : zIl zX1_findBest 67 1 68 := Or.inl ⟨1, rfl, by decide +kernel, rfl⟩
theorem iX1_findBest_68 : zD zX1_findBest 68 1 (.iaload) 69 := ⟨by decide +kernel, rfl⟩
theorem iX1_findBest_69 : zB zX1_findBest 69 (.if_icmp .ge) 72 78 := ⟨9, by decide +kernel, rfl, by decide⟩
theorem iX1_findBest_72 : zAl zX1_findBest 72 0 73 := Or.inl ⟨0, rfl, by decide +kernel, rfl⟩
theorem iX1_findBest_73 : zIl zX1_findBest 73 1 74 := Or.inl ⟨1, rfl, by decide +kernel, rfl⟩
theorem iX1_findBest_74 : zIl zX1_findBest 74 3 75 := Or.inl ⟨3, rfl, by decide +kernel, rfl⟩
theorem iX1_findBest_75 : zCl zX1_findBest 75 .invokevirtual zX1_keepRow 78 := ⟨58, by decide +kernel, rfl, Or.inl (zT4_of (i := 67) rfl rfl)⟩
theorem iX1_findBest_78 : zIn zX1_findBest 78 2 (1) 81 := ⟨by decide, 1, by decide, by decide +kernel, rfl⟩
theorem iX1_findBest_81 : zB zX1_findBest 81 .goto 84 33 := ⟨-48, by decide +kernel, rfl, by decide⟩
theorem iX1_findBest_84 : zD zX1_findBest 84 1 (.return_) 85 := ⟨by decide +kernel, rfl⟩
theorem iX1_keepRow_0 : zAl zX1_keepRow 0 0 1 := Or.inl ⟨0, rfl, by decide +kernel, rfl⟩
theorem iX1_keepRow_1 : zGf zX1_keepRow 1 1 3 4 := ⟨18, _, _, _, zcf_1, by decide, by decide +kernel, rfl, zT1_of (i := 71) rfl rfl⟩
theorem iX1_keepRow_4 : zIl zX1_keepRow 4 1 5 := Or.inl ⟨1, rfl, by decide +kernel, rfl⟩
theorem iX1_keepRow_5 : zIl zX1_keepRow 5 2 6 := Or.inl ⟨2, rfl, by decide +kernel, rfl⟩
theorem iX1_keepRow_6 : zD zX1_keepRow 6 1 (.iastore) 7 := ⟨by decide +kernel, rfl⟩
theorem iX1_keepRow_7 : zCo zX1_keepRow 7 (0) 8 := Or.inl ⟨0, by decide, by decide +kernel, rfl⟩
theorem iX1_keepRow_8 : zIs zX1_keepRow 8 3 9 := ⟨by decide, Or.inl ⟨3, rfl, by decide +kernel, rfl⟩⟩
theorem iX1_keepRow_9 : zIl zX1_keepRow 9 3 10 := Or.inl ⟨3, rfl, by decide +kernel, rfl⟩
theorem iX1_keepRow_10 : zCo zX1_keepRow 10 (6) 12 := Or.inr (Or.inl ⟨6, by decide, by decide +kernel, rfl⟩)
theorem iX1_keepRow_12 : zB zX1_keepRow 12 (.if_icmp .ge) 15 35 := ⟨23, by decide +kernel, rfl, by decide⟩
theorem iX1_keepRow_15 : zAl zX1_keepRow 15 0 16 := Or.inl ⟨0, rfl, by decide +kernel, rfl⟩
theorem iX1_keepRow_16 : zGf zX1_keepRow 16 1 4 19 := ⟨23, _, _, _, zcf_1, by decide, by decide +kernel, rfl, zT1_of (i := 72) rfl rfl⟩
theorem iX1_keepRow_19 : zIl zX1_keepRow 19 1 20 := Or.inl ⟨1, rfl, by decide +kernel, rfl⟩
theorem iX1_keepRow_20 : zD zX1_keepRow 20 1 (.aaload) 21 := ⟨by decide +kernel, rfl⟩
theorem iX1_keepRow_21 : zIl zX1_keepRow 21 3 22 := Or.inl ⟨3, rfl, by decide +kernel, rfl⟩
theorem iX1_keepRow_22 : zAl zX1_keepRow 22 0 23 := Or.inl ⟨0, rfl, by decide +kernel, rfl⟩
theorem iX1_keepRow_23 : zGf zX1_keepRow 23 1 2 26 := ⟨15, _, _, _, zcf_1, by decide, by decide +kernel, rfl, zT1_of (i := 70) rfl rfl⟩
theorem iX1_keepRow_26 : zIl zX1_keepRow 26 3 27 := Or.inl ⟨3, rfl, by decide +kernel, rfl⟩
theorem iX1_keepRow_27 : zD zX1_keepRow 27 1 (.iaload) 28 := ⟨by decide +kernel, rfl⟩
theorem iX1_keepRow_28 : zD zX1_keepRow 28 1 (.iastore) 29 := ⟨by decide +kernel, rfl⟩
theorem iX1_keepRow_29 : zIn zX1_keepRow 29 3 (1) 32 := ⟨by decide, 1, by decide, by decide +kernel, rfl⟩
theorem iX1_keepRow_32 : zB zX1_keepRow 32 .goto 35 9 := ⟨-23, by decide +kernel, rfl, by decide⟩
theorem iX1_keepRow_35 : zD zX1_keepRow 35 1 (.return_) 36 := ⟨by decide +kernel, rfl⟩
theorem iX1_nextRow_0 : zAl zX1_nextRow 0 0 1 := Or.inl ⟨0, rfl, by decide +kernel, rfl⟩
theorem iX1_nextRow_1 : zGf zX1_nextRow 1 1 0 4 := ⟨29, _, _, _, zcf_1, by decide, by decide +kernel, rfl, zT1_of (i := 67) rfl rfl⟩
theorem iX1_nextRow_4 : zCo zX1_nextRow 4 (2) 5 := Or.inl ⟨2, by decide, by decide +kernel, rfl⟩
theorem iX1_nextRow_5 : zD zX1_nextRow 5 1 (.isub) 6 := ⟨by decide +kernel, rfl⟩
theorem iX1_nextRow_6 : zIs zX1_nextRow 6 1 7 := ⟨by decide, Or.inl ⟨1, rfl, by decide +kernel, rfl⟩⟩
theorem iX1_nextRow_7 : zIl zX1_nextRow 7 1 8 := Or.inl ⟨1, rfl, by decide +kernel, rfl⟩
theorem iX1_nextRow_8 : zB zX1_nextRow 8 (.ifCond .lt) 11 34 := ⟨26, by decide +kernel, rfl, by decide⟩
theorem iX1_nextRow_11 : zAl zX1_nextRow 11 0 12 := Or.inl ⟨0, rfl, by decide +kernel, rfl⟩
theorem iX1_nextRow_12 : zGf zX1_nextRow 12 1 2 15 := ⟨15, _, _, _, zcf_1, by decide, by decide +kernel, rfl, zT1_of (i := 70) rfl rfl⟩
theorem iX1_nextRow_15 : zIl zX1_nextRow 15 1 16 := Or.inl ⟨1, rfl, by decide +kernel, rfl⟩
theorem iX1_nextRow_16 : zD zX1_nextRow 16 1 (.iaload) 17 := ⟨by decide +kernel, rfl⟩
theorem iX1_nextRow_17 : zAl zX1_nextRow 17 0 18 := Or.inl ⟨0, rfl, by decide +kernel, rfl⟩
theorem iX1_nextRow_18 : zGf zX1_nextRow 18 1 2 21 := ⟨15, _, _, _, zcf_1, by decide, by decide +kernel, rfl, zT1_of (i := 70) rfl rfl⟩
theorem iX1_nextRow_21 : zIl zX1_nextRow 21 1 22 := Or.inl ⟨1, rfl, by decide +kernel, rfl⟩
theorem iX1_nextRow_22 : zCo zX1_nextRow 22 (1) 23 := Or.inl ⟨1, by decide, by decide +kernel, rfl⟩
theorem iX1_nextRow_23 : zD zX1_nextRow 23 1 (.iadd) 24 := ⟨by decide +kernel, rfl⟩
theorem iX1_nextRow_24 : zD zX1_nextRow 24 1 (.iaload) 25 := ⟨by decide +kernel, rfl⟩
theorem iX1_nextRow_25 : zB zX1_nextRow 25 (.if_icmp .le) 28 34 := ⟨9, by decide +kernel, rfl, by decide⟩
theorem iX1_nextRow_28 : zIn zX1_nextRow 28 1 (-1) 31 := ⟨by decide, -1, by decide, by decide +kernel, rfl⟩
theorem iX1_nextRow_31 : zB zX1_nextRow 31 .goto 34 7 := ⟨-24, by decide +kernel, rfl, by decide⟩
theorem iX1_nextRow_34 : zIl zX1_nextRow 34 1 35 := Or.inl ⟨1, rfl, by decide +kernel, rfl⟩
theorem iX1_nextRow_35 : zB zX1_nextRow 35 (.ifCond .ge) 38 40 := ⟨5, by decide +kernel, rfl, by decide⟩
theorem iX1_nextRow_38 : zCo zX1_nextRow 38 (0) 39 := Or.inl ⟨0, by decide, by decide +kernel, rfl⟩
theorem iX1_nextRow_39 : zD zX1_nextRow 39 1 (.ireturn) 40 := ⟨by decide +kernel, rfl⟩
theorem iX1_nextRow_40 : zAl zX1_nextRow 40 0 41 := Or.inl ⟨0, rfl, by decide +kernel, rfl⟩
theorem iX1_nextRow_41 : zGf zX1_nextRow 41 1 0 44 := ⟨29, _, _, _, zcf_1, by decide, by decide +kernel, rfl, zT1_of (i := 67) rfl rfl⟩
theorem iX1_nextRow_44 : zCo zX1_nextRow 44 (1) 45 := Or.inl ⟨1, by decide, by decide +kernel, rfl⟩
theorem iX1_nextRow_45 : zD zX1_nextRow 45 1 (.isub) 46 := ⟨by decide +kernel, rfl⟩
theorem iX1_nextRow_46 : zIs zX1_nextRow 46 2 47 := ⟨by decide, Or.inl ⟨2, rfl, by decide +kernel, rfl⟩⟩
theorem iX1_nextRow_47 : zIl zX1_nextRow 47 2 48 := Or.inl ⟨2, rfl, by decide +kernel, rfl⟩
theorem iX1_nextRow_48 : zIl zX1_nextRow 48 1 49 := Or.inl ⟨1, rfl, by decide +kernel, rfl⟩
theorem iX1_nextRow_49 : zB zX1_nextRow 49 (.if_icmp .le) 52 73 := ⟨24, by decide +kernel, rfl, by decide⟩
theorem iX1_nextRow_52 : zAl zX1_nextRow 52 0 53 := Or.inl ⟨0, rfl, by decide +kernel, rfl⟩
theorem iX1_nextRow_53 : zGf zX1_nextRow 53 1 2 56 := ⟨15, _, _, _, zcf_1, by decide, by decide +kernel, rfl, zT1_of (i := 70) rfl rfl⟩
theorem iX1_nextRow_56 : zIl zX1_nextRow 56 2 57 := Or.inl ⟨2, rfl, by decide +kernel, rfl⟩
theorem iX1_nextRow_57 : zD zX1_nextRow 57 1 (.iaload) 58 := ⟨by decide +kernel, rfl⟩
theorem iX1_nextRow_58 : zAl zX1_nextRow 58 0 59 := Or.inl ⟨0, rfl, by decide +kernel, rfl⟩
theorem iX1_nextRow_59 : zGf zX1_nextRow 59 1 2 62 := ⟨15, _, _, _, zcf_1, by decide, by decide +kernel, rfl, zT1_of (i := 70) rfl rfl⟩
theorem iX1_nextRow_62 : zIl zX1_nextRow 62 1 63 := Or.inl ⟨1, rfl, by decide +kernel, rfl⟩
theorem iX1_nextRow_63 : zD zX1_nextRow 63 1 (.iaload) 64 := ⟨by decide +kernel, rfl⟩
theorem iX1_nextRow_64 : zB zX1_nextRow 64 (.if_icmp .ge) 67 73 := ⟨9, by decide +kernel, rfl, by decide⟩
theorem iX1_nextRow_67 : zIn zX1_nextRow 67 2 (-1) 70 := ⟨by decide, -1, by decide, by decide +kernel, rfl⟩
theorem iX1_nextRow_70 : zB zX1_nextRow 70 .goto 73 47 := ⟨-23, by decide +kernel, rfl, by decide⟩
theorem iX1_nextRow_73 : zAl zX1_nextRow 73 0 74 := Or.inl ⟨0, rfl, by decide +kernel, rfl⟩
theorem iX1_nextRow_74 : zIl zX1_nextRow 74 1 75 := Or.inl ⟨1, rfl, by decide +kernel, rfl⟩
theorem iX1_nextRow_75 : zIl zX1_nextRow 75 2 76 := Or.inl ⟨2, rfl, by decide +kernel, rfl⟩
theorem iX1_nextRow_76 : zCl zX1_nextRow 76 .invokevirtual zX1_swap 79 := ⟨66, by decide +kernel, rfl, Or.inl (zT4_of (i := 75) rfl rfl)⟩
theorem iX1_nextRow_79 : zIl zX1_nextRow 79 1 80 := Or.inl ⟨1, rfl, by decide +kernel, rfl⟩
theorem iX1_nextRow_80 : zCo zX1_nextRow 80 (1) 81 := Or.inl ⟨1, by decide, by decide +kernel, rfl⟩
theorem iX1_nextRow_81 : zD zX1_nextRow 81 1 (.iadd) 82 := ⟨by decide +kernel, rfl⟩
theorem iX1_nextRow_82 : zIs zX1_nextRow 82 3 83 := ⟨by decide, Or.inl ⟨3, rfl, by decide +kernel, rfl⟩⟩
theorem iX1_nextRow_83 : zAl zX1_nextRow 83 0 84 := Or.inl ⟨0, rfl, by decide +kernel, rfl⟩
theorem iX1_nextRow_84 : zGf zX1_nextRow 84 1 0 87 := ⟨29, _, _, _, zcf_1, by decide, by decide +kernel, rfl, zT1_of (i := 67) rfl rfl⟩
theorem iX1_nextRow_87 : zCo zX1_nextRow 87 (1) 88 := Or.inl ⟨1, by decide, by decide +kernel, rfl⟩
theorem iX1_nextRow_88 : zD zX1_nextRow 88 1 (.isub) 89 := ⟨by decide +kernel, rfl⟩
theorem iX1_nextRow_89 : zIs zX1_nextRow 89 4 91 := ⟨by decide, Or.inr ⟨by decide +kernel, rfl⟩⟩
theorem iX1_nextRow_91 : zIl zX1_nextRow 91 3 92 := Or.inl ⟨3, rfl, by decide +kernel, rfl⟩
theorem iX1_nextRow_92 : zIl zX1_nextRow 92 4 94 := Or.inr ⟨by decide +kernel, rfl⟩
theorem iX1_nextRow_94 : zB zX1_nextRow 94 (.if_icmp .ge) 97 113 := ⟨19, by decide +kernel, rfl, by decide⟩
theorem iX1_nextRow_97 : zAl zX1_nextRow 97 0 98 := Or.inl ⟨0, rfl, by decide +kernel, rfl⟩
theorem iX1_nextRow_98 : zIl zX1_nextRow 98 3 99 := Or.inl ⟨3, rfl, by decide +kernel, rfl⟩
theorem iX1_nextRow_99 : zIl zX1_nextRow 99 4 101 := Or.inr ⟨by decide +kernel, rfl⟩
theorem iX1_nextRow_101 : zCl zX1_nextRow 101 .invokevirtual zX1_swap 104 := ⟨66, by decide +kernel, rfl, Or.inl (zT4_of (i := 75) rfl rfl)⟩
theorem iX1_nextRow_104 : zIn zX1_nextRow 104 3 (1) 107 := ⟨by decide, 1, by decide, by decide +kernel, rfl⟩
theorem iX1_nextRow_107 : zIn zX1_nextRow 107 4 (-1) 110 := ⟨by decide, -1, by decide, by decide +kernel, rfl⟩
theorem iX1_nextRow_110 : zB zX1_nextRow 110 .goto 113 91 := ⟨-19, by decide +kernel, rfl, by decide⟩
theorem iX1_nextRow_113 : zCo zX1_nextRow 113 (1) 114 := Or.inl ⟨1, by decide, by decide +kernel, rfl⟩
theorem iX1_nextRow_114 : zD zX1_nextRow 114 1 (.ireturn) 115 := ⟨by decide +kernel, rfl⟩
theorem iX1_swap_0 : zAl zX1_swap 0 0 1 := Or.inl ⟨0, rfl, by decide +kernel, rfl⟩
theorem iX1_swap_1 : zGf zX1_swap 1 1 2 4 := ⟨15, _, _, _, zcf_1, by decide, by decide +kernel, rfl, zT1_of (i := 70) rfl rfl⟩
theorem iX1_swap_4 : zIl zX1_swap 4 1 5 := Or.inl ⟨1, rfl, by decide +kernel, rfl⟩
theorem iX1_swap_5 : zD zX1_swap 5 1 (.iaload) 6 := ⟨by decide +kernel, rfl⟩
theorem iX1_swap_6 : zIs zX1_swap 6 3 7 := ⟨by decide, Or.inl ⟨3, rfl, by decide +kernel, rfl⟩⟩
theorem iX1_swap_7 : zAl zX1_swap 7 0 8 := Or.inl ⟨0, rfl, by decide +kernel, rfl⟩
theorem iX1_swap_8 : zGf zX1_swap 8 1 2 11 := ⟨15, _, _, _, zcf_1, by decide, by decide +kernel, rfl, zT1_of (i := 70) rfl rfl⟩
theorem iX1_swap_11 : zIl zX1_swap 11 1 12 := Or.inl ⟨1, rfl, by decide +kernel, rfl⟩
theorem iX1_swap_12 : zAl zX1_swap 12 0 13 := Or.inl ⟨0, rfl, by decide +kernel, rfl⟩
theorem iX1_swap_13 : zGf zX1_swap 13 1 2 16 := ⟨15, _, _, _, zcf_1, by decide, by decide +kernel, rfl, zT1_of (i := 70) rfl rfl⟩
theorem iX1_swap_16 : zIl zX1_swap 16 2 17 := Or.inl ⟨2, rfl, by decide +kernel, rfl⟩
theorem iX1_swap_17 : zD zX1_swap 17 1 (.iaload) 18 := ⟨by decide +kernel, rfl⟩
theorem iX1_swap_18 : zD zX1_swap 18 1 (.iastore) 19 := ⟨by decide +kernel, rfl⟩
theorem iX1_swap_19 : zAl zX1_swap 19 0 20 := Or.inl ⟨0, rfl, by decide +kernel, rfl⟩
theorem iX1_swap_20 : zGf zX1_swap 20 1 2 23 := ⟨15, _, _, _, zcf_1, by decide, by decide +kernel, rfl, zT1_of (i := 70) rfl rfl⟩
theorem iX1_swap_23 : zIl zX1_swap 23 2 24 := Or.inl ⟨2, rfl, by decide +kernel, rfl⟩
theorem iX1_swap_24 : zIl zX1_swap 24 3 25 := Or.inl ⟨3, rfl, by decide +kernel, rfl⟩
theorem iX1_swap_25 : zD zX1_swap 25 1 (.iastore) 26 := ⟨by decide +kernel, rfl⟩
theorem iX1_swap_26 : zD zX1_swap 26 1 (.return_) 27 := ⟨by decide +kernel, rfl⟩
theorem iX2_init_0 : zAl zX2_init 0 0 1 := Or.inl ⟨0, rfl, by decide +kernel, rfl⟩
theorem iX2_init_1 : zOi zX2_init 1 4 := ⟨3, by decide +kernel, rfl, zT3_of (i := 178) rfl rfl, zT1_of (i := 25) rfl rfl, zT1_of (i := 26) rfl rfl⟩
theorem iX2_init_4 : zAl zX2_init 4 0 5 := Or.inl ⟨0, rfl, by decide +kernel, rfl⟩
theorem iX2_init_5 : zCo zX2_init 5 (16) 7 := Or.inr (Or.inl ⟨16, by decide, by decide +kernel, rfl⟩)
theorem iX2_init_7 : zD zX2_init 7 2 (.newarray .int) 9 := ⟨by decide +kernel, rfl⟩
theorem iX2_init_9 : zPf zX2_init 9 2 2 (.array .int) 12 := ⟨9, _, _, _, zcf_2, by decide, by decide +kernel, rfl, zT3_of (i := 182) rfl rfl, by decide +kernel, Or.inr ⟨rfl, rfl, rfl⟩⟩
theorem iX2_init_12 : zAl zX2_init 12 0 13 := Or.inl ⟨0, rfl, by decide +kernel, rfl⟩
theorem iX2_init_13 : zIl zX2_init 13 1 14 := Or.inl ⟨1, rfl, by decide +kernel, rfl⟩
theorem iX2_init_14 : zPf zX2_init 14 2 0 .int 17 := ⟨15, _, _, _, zcf_2, by decide, by decide +kernel, rfl, zT3_of (i := 179) rfl rfl, by decide +kernel, Or.inr ⟨rfl, rfl, rfl⟩⟩
theorem iX2_init_17 : zAl zX2_init 17 0 18 := Or.inl ⟨0, rfl, by decide +kernel, rfl⟩
theorem iX2_init_18 : zIl zX2_init 18 2 19 := Or.inl ⟨2, rfl, by decide +kernel, rfl⟩
theorem iX2_init_19 : zPf zX2_init 19 2 1 .int 22 := ⟨19, _, _, _, zcf_2, by decide, by decide +kernel, rfl, zT3_of (i := 181) rfl rfl, by decide +kernel, Or.inr ⟨rfl, rfl, rfl⟩⟩
theorem iX2_init_22 : zCo zX2_init 22 (0) 23 := Or.inl ⟨0, by decide, by decide +kernel, rfl⟩
theorem iX2_init_23 : zIs zX2_init 23 3 24 := ⟨by decide, Or.inl ⟨3, rfl, by decide +kernel, rfl⟩⟩
theorem iX2_init_24 : zIl zX2_init 24 3 25 := Or.inl ⟨3, rfl, by decide +kernel, rfl⟩
theorem iX2_init_25 : zCo zX2_init 25 (16) 27 := Or.inr (Or.inl ⟨16, by decide, by decide +kernel, rfl⟩)
theorem iX2_init_27 : zB zX2_init 27 (.if_icmp .ge) 30 43 := ⟨16, by decide +kernel, rfl, by decide⟩
theorem iX2_init_30 : zAl zX2_init 30 0 31 := Or.inl ⟨0, rfl, by decide +kernel, rfl⟩
theorem iX2_init_31 : zGf zX2_init 31 2 2 34 := ⟨9, _, _, _, zcf_2, by decide, by decide +kernel, rfl, zT3_of (i := 182) rfl rfl⟩
theorem iX2_init_34 : zIl zX2_init 34 3 35 := Or.inl ⟨3, rfl, by decide +kernel, rfl⟩
theorem iX2_init_35 : zCo zX2_init 35 (-1) 36 := Or.inl ⟨-1, by decide, by decide +kernel, rfl⟩
theorem iX2_init_36 : zD zX2_init 36 1 (.iastore) 37 := ⟨by decide +kernel, rfl⟩
theorem iX2_init_37 : zIn zX2_init 37 3 (1) 40 := ⟨by decide, 1, by decide, by decide +kernel, rfl⟩
theorem iX2_init_40 : zB zX2_init 40 .goto 43 24 := ⟨-16, by decide +kernel, rfl, by decide⟩
theorem iX2_init_43 : zD zX2_init 43 1 (.return_) 44 := ⟨by decide +kernel, rfl⟩
theorem iX2_hasPlace_0 : zIl zX2_hasPlace 0 1 1 := Or.inl ⟨1, rfl, by decide +kernel, rfl⟩
theorem iX2_hasPlace_1 : zB zX2_hasPlace 1 (.ifCond .lt) 4 22 := ⟨21, by decide +kernel, rfl, by decide⟩
theorem iX2_hasPlace_4 : zIl zX2_hasPlace 4 1 5 := Or.inl ⟨1, rfl, by decide +kernel, rfl⟩
theorem iX2_hasPlace_5 : zAl zX2_hasPlace 5 0 6 := Or.inl ⟨0, rfl, by decide +kernel, rfl⟩
theorem iX2_hasPlace_6 : zGf zX2_hasPlace 6 2 1 9 := ⟨19, _, _, _, zcf_2, by decide, by decide +kernel, rfl, zT3_of (i := 181) rfl rfl⟩
theorem iX2_hasPlace_9 : zB zX2_hasPlace 9 (.if_icmp .ge) 12 22 := ⟨13, by decide +kernel, rfl, by decide⟩
theorem iX2_hasPlace_12 : zIl zX2_hasPlace 12 1 13 := Or.inl ⟨1, rfl, by decide +kernel, rfl⟩
theorem iX2_hasPlace_13 : zCo zX2_hasPlace 13 (16) 15 := Or.inr (Or.inl ⟨16, by decide, by decide +kernel, rfl⟩)
theorem iX2_hasPlace_15 : zB zX2_hasPlace 15 (.if_icmp .ge) 18 22 := ⟨7, by decide +kernel, rfl, by decide⟩
theorem iX2_hasPlace_18 : zCo zX2_hasPlace 18 (1) 19 := Or.inl ⟨1, by decide, by decide +kernel, rfl⟩
theorem iX2_hasPlace_19 : zB zX2_hasPlace 19 .goto 22 23 := ⟨4, by decide +kernel, rfl, by decide⟩
theorem iX2_hasPlace_22 : zCo zX2_hasPlace 22 (0) 23 := Or.inl ⟨0, by decide, by decide +kernel, rfl⟩
theorem iX2_hasPlace_23 : zD zX2_hasPlace 23 1 (.ireturn) 24 := ⟨by decide +kernel, rfl⟩
theorem iX2_heldAt_0 : zAl zX2_heldAt 0 0 1 := Or.inl ⟨0, rfl, by decide +kernel, rfl⟩
theorem iX2_heldAt_1 : zIl zX2_heldAt 1 1 2 := Or.inl ⟨1, rfl, by decide +kernel, rfl⟩
theorem iX2_heldAt_2 : zCl zX2_heldAt 2 .invokevirtual zX2_hasPlace 5 := ⟨22, by decide +kernel, rfl, Or.inl (zT3_of (i := 206) rfl rfl)⟩
theorem iX2_heldAt_5 : zB zX2_heldAt 5 (.ifCond .eq) 8 17 := ⟨12, by decide +kernel, rfl, by decide⟩
theorem iX2_heldAt_8 : zAl zX2_heldAt 8 0 9 := Or.inl ⟨0, rfl, by decide +kernel, rfl⟩
theorem iX2_heldAt_9 : zGf zX2_heldAt 9 2 2 12 := ⟨9, _, _, _, zcf_2, by decide, by decide +kernel, rfl, zT3_of (i := 182) rfl rfl⟩
theorem iX2_heldAt_12 : zIl zX2_heldAt 12 1 13 := Or.inl ⟨1, rfl, by decide +kernel, rfl⟩
theorem iX2_heldAt_13 : zD zX2_heldAt 13 1 (.iaload) 14 := ⟨by decide +kernel, rfl⟩
theorem iX2_heldAt_14 : zB zX2_heldAt 14 .goto 17 18 := ⟨4, by decide +kernel, rfl, by decide⟩
theorem iX2_heldAt_17 : zCo zX2_heldAt 17 (-1) 18 := Or.inl ⟨-1, by decide, by decide +kernel, rfl⟩
theorem iX2_heldAt_18 : zD zX2_heldAt 18 1 (.ireturn) 19 := ⟨by decide +kernel, rfl⟩
theorem iX2_hasRoom_0 : zCo zX2_hasRoom 0 (0) 1 := Or.inl ⟨0, by decide, by decide +kernel, rfl⟩
theorem iX2_hasRoom_1 : zIs zX2_hasRoom 1 3 2 := ⟨by decide, Or.inl ⟨3, rfl, by decide +kernel, rfl⟩⟩
theorem iX2_hasRoom_2 : zIl zX2_hasRoom 2 3 3 := Or.inl ⟨3, rfl, by decide +kernel, rfl⟩
theorem iX2_hasRoom_3 : zIl zX2_hasRoom 3 2 4 := Or.inl ⟨2, rfl, by decide +kernel, rfl⟩
theorem iX2_hasRoom_4 : zB zX2_hasRoom 4 (.if_icmp .ge) 7 37 := ⟨33, by decide +kernel, rfl, by decide⟩
theorem iX2_hasRoom_7 : zAl zX2_hasRoom 7 0 8 := Or.inl ⟨0, rfl, by decide +kernel, rfl⟩
theorem iX2_hasRoom_8 : zIl zX2_hasRoom 8 1 9 := Or.inl ⟨1, rfl, by decide +kernel, rfl⟩
theorem iX2_hasRoom_9 : zIl zX2_hasRoom 9 3 10 := Or.inl ⟨3, rfl, by decide +kernel, rfl⟩
theorem iX2_hasRoom_10 : zD zX2_hasRoom 10 1 (.iadd) 11 := ⟨by decide +kernel, rfl⟩
theorem iX2_hasRoom_11 : zCl zX2_hasRoom 11 .invokevirtual zX2_hasPlace 14 := ⟨22, by decide +kernel, rfl, Or.inl (zT3_of (i := 206) rfl rfl)⟩
theorem iX2_hasRoom_14 : zB zX2_hasRoom 14 (.ifCond .eq) 17 29 := ⟨15, by decide +kernel, rfl, by decide⟩
theorem iX2_hasRoom_17 : zAl zX2_hasRoom 17 0 18 := Or.inl ⟨0, rfl, by decide +kernel, rfl⟩
theorem iX2_hasRoom_18 : zGf zX2_hasRoom 18 2 2 21 := ⟨9, _, _, _, zcf_2, by decide, by decide +kernel, rfl, zT3_of (i := 182) rfl rfl⟩
theorem iX2_hasRoom_21 : zIl zX2_hasRoom 21 1 22 := Or.inl ⟨1, rfl, by decide +kernel, rfl⟩
theorem iX2_hasRoom_22 : zIl zX2_hasRoom 22 3 23 := Or.inl ⟨3, rfl, by decide +kernel, rfl⟩
theorem iX2_hasRoom_23 : zD zX2_hasRoom 23 1 (.iadd) 24 := ⟨by decide +kernel, rfl⟩
theorem iX2_hasRoom_24 : zD zX2_hasRoom 24 1 (.iaload) 25 := ⟨by decide +kernel, rfl⟩
theorem iX2_hasRoom_25 : zCo zX2_hasRoom 25 (-1) 26 := Or.inl ⟨-1, by decide, by decide +kernel, rfl⟩
theorem iX2_hasRoom_26 : zB zX2_hasRoom 26 (.if_icmp .eq) 29 31 := ⟨5, by decide +kernel, rfl, by decide⟩
theorem iX2_hasRoom_29 : zCo zX2_hasRoom 29 (0) 30 := Or.inl ⟨0, by decide, by decide +kernel, rfl⟩
theorem iX2_hasRoom_30 : zD zX2_hasRoom 30 1 (.ireturn) 31 := ⟨by decide +kernel, rfl⟩
theorem iX2_hasRoom_31 : zIn zX2_hasRoom 31 3 (1) 34 := ⟨by decide, 1, by decide, by decide +kernel, rfl⟩
theorem iX2_hasRoom_34 : zB zX2_hasRoom 34 .goto 37 2 := ⟨-32, by decide +kernel, rfl, by decide⟩
theorem iX2_hasRoom_37 : zCo zX2_hasRoom 37 (1) 38 := Or.inl ⟨1, by decide, by decide +kernel, rfl⟩
theorem iX2_hasRoom_38 : zD zX2_hasRoom 38 1 (.ireturn) 39 := ⟨by decide +kernel, rfl⟩
theorem iX2_leastRoom_0 : zCo zX2_leastRoom 0 (0) 1 := Or.inl ⟨0, by decide, by decide +kernel, rfl⟩
theorem iX2_leastRoom_1 : zIs zX2_leastRoom 1 2 2 := ⟨by decide, Or.inl ⟨2, rfl, by decide +kernel, rfl⟩⟩
theorem iX2_leastRoom_2 : zIl zX2_leastRoom 2 2 3 := Or.inl ⟨2, rfl, by decide +kernel, rfl⟩
theorem iX2_leastRoom_3 : zAl zX2_leastRoom 3 0 4 := Or.inl ⟨0, rfl, by decide +kernel, rfl⟩
theorem iX2_leastRoom_4 : zGf zX2_leastRoom 4 2 1 7 := ⟨19, _, _, _, zcf_2, by decide, by decide +kernel, rfl, zT3_of (i := 181) rfl rfl⟩
theorem iX2_leastRoom_7 : zB zX2_leastRoom 7 (.if_icmp .ge) 10 27 := ⟨20, by decide +kernel, rfl, by decide⟩
theorem iX2_leastRoom_10 : zAl zX2_leastRoom 10 0 11 := Or.inl ⟨0, rfl, by decide +kernel, rfl⟩
theorem iX2_leastRoom_11 : zIl zX2_leastRoom 11 2 12 := Or.inl ⟨2, rfl, by decide +kernel, rfl⟩
theorem iX2_leastRoom_12 : zIl zX2_leastRoom 12 1 13 := Or.inl ⟨1, rfl, by decide +kernel, rfl⟩
theorem iX2_leastRoom_13 : zCl zX2_leastRoom 13 .invokevirtual zX2_hasRoom 16 := ⟨26, by decide +kernel, rfl, Or.inl (zT3_of (i := 231) rfl rfl)⟩
theorem iX2_leastRoom_16 : zB zX2_leastRoom 16 (.ifCond .eq) 19 21 := ⟨5, by decide +kernel, rfl, by decide⟩
theorem iX2_leastRoom_19 : zIl zX2_leastRoom 19 2 20 := Or.inl ⟨2, rfl, by decide +kernel, rfl⟩
theorem iX2_leastRoom_20 : zD zX2_leastRoom 20 1 (.ireturn) 21 := ⟨by decide +kernel, rfl⟩
theorem iX2_leastRoom_21 : zIn zX2_leastRoom 21 2 (1) 24 := ⟨by decide, 1, by decide, by decide +kernel, rfl⟩
theorem iX2_leastRoom_24 : zB zX2_leastRoom 24 .goto 27 2 := ⟨-22, by decide +kernel, rfl, by decide⟩
theorem iX2_leastRoom_27 : zCo zX2_leastRoom 27 (-1) 28 := Or.inl ⟨-1, by decide, by decide +kernel, rfl⟩
theorem iX2_leastRoom_28 : zD zX2_leastRoom 28 1 (.ireturn) 29 := ⟨by decide +kernel, rfl⟩
theorem iX2_hold_0 : zCo zX2_hold 0 (0) 1 := Or.inl ⟨0, by decide, by decide +kernel, rfl⟩
theorem iX2_hold_1 : zIs zX2_hold 1 4 3 := ⟨by decide, Or.inr ⟨by decide +kernel, rfl⟩⟩
theorem iX2_hold_3 : zIl zX2_hold 3 4 5 := Or.inr ⟨by decide +kernel, rfl⟩
theorem iX2_hold_5 : zIl zX2_hold 5 2 6 := Or.inl ⟨2, rfl, by decide +kernel, rfl⟩
theorem iX2_hold_6 : zB zX2_hold 6 (.if_icmp .ge) 9 36 := ⟨30, by decide +kernel, rfl, by decide⟩
theorem iX2_hold_9 : zAl zX2_hold 9 0 10 := Or.inl ⟨0, rfl, by decide +kernel, rfl⟩
theorem iX2_hold_10 : zIl zX2_hold 10 1 11 := Or.inl ⟨1, rfl, by decide +kernel, rfl⟩
theorem iX2_hold_11 : zIl zX2_hold 11 4 13 := Or.inr ⟨by decide +kernel, rfl⟩
theorem iX2_hold_13 : zD zX2_hold 13 1 (.iadd) 14 := ⟨by decide +kernel, rfl⟩
theorem iX2_hold_14 : zCl zX2_hold 14 .invokevirtual zX2_hasPlace 17 := ⟨22, by decide +kernel, rfl, Or.inl (zT3_of (i := 206) rfl rfl)⟩
theorem iX2_hold_17 : zB zX2_hold 17 (.ifCond .eq) 20 30 := ⟨13, by decide +kernel, rfl, by decide⟩
theorem iX2_hold_20 : zAl zX2_hold 20 0 21 := Or.inl ⟨0, rfl, by decide +kernel, rfl⟩
theorem iX2_hold_21 : zGf zX2_hold 21 2 2 24 := ⟨9, _, _, _, zcf_2, by decide, by decide +kernel, rfl, zT3_of (i := 182) rfl rfl⟩
theorem iX2_hold_24 : zIl zX2_hold 24 1 25 := Or.inl ⟨1, rfl, by decide +kernel, rfl⟩
theorem iX2_hold_25 : zIl zX2_hold 25 4 27 := Or.inr ⟨by decide +kernel, rfl⟩
theorem iX2_hold_27 : zD zX2_hold 27 1 (.iadd) 28 := ⟨by decide +kernel, rfl⟩
theorem iX2_hold_28 : zIl zX2_hold 28 3 29 := Or.inl ⟨3, rfl, by decide +kernel, rfl⟩
theorem iX2_hold_29 : zD zX2_hold 29 1 (.iastore) 30 := ⟨by decide +kernel, rfl⟩
theorem iX2_hold_30 : zIn zX2_hold 30 4 (1) 33 := ⟨by decide, 1, by decide, by decide +kernel, rfl⟩
theorem iX2_hold_33 : zB zX2_hold 33 .goto 36 3 := ⟨-30, by decide +kernel, rfl, by decide⟩
theorem iX2_hold_36 : zD zX2_hold 36 1 (.return_) 37 := ⟨by decide +kernel, rfl⟩
theorem iX3_init_0 : zAl zX3_init 0 0 1 := Or.inl ⟨0, rfl, by decide +kernel, rfl⟩
theorem iX3_init_1 : zOi zX3_init 1 4 := ⟨3, by decide +kernel, rfl, zT1_of (i := 114) rfl rfl, zT1_of (i := 25) rfl rfl, zT1_of (i := 26) rfl rfl⟩
theorem iX3_init_4 : zAl zX3_init 4 0 5 := Or.inl ⟨0, rfl, by decide +kernel, rfl⟩
theorem iX3_init_5 : zAl zX3_init 5 1 6 := Or.inl ⟨1, rfl, by decide +kernel, rfl⟩
theorem iX3_init_6 : zPf zX3_init 6 3 0 (.object "ToolCrib$Tape") 9 := ⟨9, _, _, _, zcf_3, by decide, by decide +kernel, rfl, zT1_of (i := 115) rfl rfl, by decide +kernel, Or.inr ⟨rfl, rfl, rfl⟩⟩
theorem iX3_init_9 : zD zX3_init 9 1 (.return_) 10 := ⟨by decide +kernel, rfl⟩
theorem iX3_readInto_0 : zAl zX3_readInto 0 1 1 := Or.inl ⟨1, rfl, by decide +kernel, rfl⟩
theorem iX3_readInto_1 : zB zX3_readInto 1 .ifnonnull 4 6 := ⟨5, by decide +kernel, rfl, by decide⟩
theorem iX3_readInto_4 : zCo zX3_readInto 4 (0) 5 := Or.inl ⟨0, by decide, by decide +kernel, rfl⟩
theorem iX3_readInto_5 : zD zX3_readInto 5 1 (.ireturn) 6 := ⟨by decide +kernel, rfl⟩
theorem iX3_readInto_6 : zAl zX3_readInto 6 0 7 := Or.inl ⟨0, rfl, by decide +kernel, rfl⟩
theorem iX3_readInto_7 : zAl zX3_readInto 7 1 8 := Or.inl ⟨1, rfl, by decide +kernel, rfl⟩
theorem iX3_readInto_8 : zPf zX3_readInto 8 3 1 (.object "ToolCrib$Text") 11 := ⟨15, _, _, _, zcf_3, by decide, by decide +kernel, rfl, zT1_of (i := 116) rfl rfl, by decide +kernel, Or.inl rfl⟩
theorem iX3_readInto_11 : zAl zX3_readInto 11 0 12 := Or.inl ⟨0, rfl, by decide +kernel, rfl⟩
theorem iX3_readInto_12 : zGf zX3_readInto 12 3 1 15 := ⟨15, _, _, _, zcf_3, by decide, by decide +kernel, rfl, zT1_of (i := 116) rfl rfl⟩
theorem iX3_readInto_15 : zCl zX3_readInto 15 .invokevirtual zX8_clear 18 := ⟨19, by decide +kernel, rfl, Or.inl (zT2_of (i := 2) rfl rfl)⟩
theorem iX3_readInto_18 : zAl zX3_readInto 18 0 19 := Or.inl ⟨0, rfl, by decide +kernel, rfl⟩
theorem iX3_readInto_19 : zGf zX3_readInto 19 3 0 22 := ⟨9, _, _, _, zcf_3, by decide, by decide +kernel, rfl, zT1_of (i := 115) rfl rfl⟩
theorem iX3_readInto_22 : zCl zX3_readInto 22 .invokevirtual zX7_split 25 := ⟨24, by decide +kernel, rfl, Or.inl (zT2_of (i := 6) rfl rfl)⟩
theorem iX3_readInto_25 : zAl zX3_readInto 25 0 26 := Or.inl ⟨0, rfl, by decide +kernel, rfl⟩
theorem iX3_readInto_26 : zCo zX3_readInto 26 (-1) 27 := Or.inl ⟨-1, by decide, by decide +kernel, rfl⟩
theorem iX3_readInto_27 : zPf zX3_readInto 27 3 4 .int 30 := ⟨29, _, _, _, zcf_3, by decide, by decide +kernel, rfl, zT1_of (i := 119) rfl rfl, by decide +kernel, Or.inl rfl⟩
theorem iX3_readInto_30 : zAl zX3_readInto 30 0 31 := Or.inl ⟨0, rfl, by decide +kernel, rfl⟩
theorem iX3_readInto_31 : zCo zX3_readInto 31 (0) 32 := Or.inl ⟨0, by decide, by decide +kernel, rfl⟩
theorem iX3_readInto_32 : zPf zX3_readInto 32 3 2 .int 35 := ⟨33, _, _, _, zcf_3, by decide, by decide +kernel, rfl, zT1_of (i := 117) rfl rfl, by decide +kernel, Or.inl rfl⟩
theorem iX3_readInto_35 : zAl zX3_readInto 35 0 36 := Or.inl ⟨0, rfl, by decide +kernel, rfl⟩
theorem iX3_readInto_36 : zAl zX3_readInto 36 0 37 := Or.inl ⟨0, rfl, by decide +kernel, rfl⟩
theorem iX3_readInto_37 : zGf zX3_readInto 37 3 0 40 := ⟨9, _, _, _, zcf_3, by decide, by decide +kernel, rfl, zT1_of (i := 115) rfl rfl⟩
theorem iX3_readInto_40 : zCo zX3_readInto 40 (0) 41 := Or.inl ⟨0, by decide, by decide +kernel, rfl⟩
theorem iX3_readInto_41 : zCl zX3_readInto 41 .invokevirtual zX7_tokenAt 44 := ⟨36, by decide +kernel, rfl, Or.inl (zT2_of (i := 64) rfl rfl)⟩
theorem iX3_readInto_44 : zPf zX3_readInto 44 3 3 .int 47 := ⟨40, _, _, _, zcf_3, by decide, by decide +kernel, rfl, zT1_of (i := 118) rfl rfl, by decide +kernel, Or.inl rfl⟩
theorem iX3_readInto_47 : zAl zX3_readInto 47 0 48 := Or.inl ⟨0, rfl, by decide +kernel, rfl⟩
theorem iX3_readInto_48 : zCo zX3_readInto 48 (-22) 50 := Or.inr (Or.inl ⟨-22, by decide, by decide +kernel, rfl⟩)
theorem iX3_readInto_50 : zCl zX3_readInto 50 .invokevirtual zX3_readPart 53 := ⟨43, by decide +kernel, rfl, Or.inl (zT2_of (i := 68) rfl rfl)⟩
theorem iX3_readInto_53 : zAl zX3_readInto 53 0 54 := Or.inl ⟨0, rfl, by decide +kernel, rfl⟩
theorem iX3_readInto_54 : zCo zX3_readInto 54 (-23) 56 := Or.inr (Or.inl ⟨-23, by decide, by decide +kernel, rfl⟩)
theorem iX3_readInto_56 : zCl zX3_readInto 56 .invokevirtual zX3_readPart 59 := ⟨43, by decide +kernel, rfl, Or.inl (zT2_of (i := 68) rfl rfl)⟩
theorem iX3_readInto_59 : zAl zX3_readInto 59 0 60 := Or.inl ⟨0, rfl, by decide +kernel, rfl⟩
theorem iX3_readInto_60 : zCo zX3_readInto 60 (-24) 62 := Or.inr (Or.inl ⟨-24, by decide, by decide +kernel, rfl⟩)
theorem iX3_readInto_62 : zCl zX3_readInto 62 .invokevirtual zX3_readPart 65 := ⟨43, by decide +kernel, rfl, Or.inl (zT2_of (i := 68) rfl rfl)⟩
theorem iX3_readInto_65 : zAl zX3_readInto 65 0 66 := Or.inl ⟨0, rfl, by decide +kernel, rfl⟩
theorem iX3_readInto_66 : zCo zX3_readInto 66 (-20) 68 := Or.inr (Or.inl ⟨-20, by decide, by decide +kernel, rfl⟩)
theorem iX3_readInto_68 : zCl zX3_readInto 68 .invokevirtual zX3_expect 71 := ⟨47, by decide +kernel, rfl, Or.inl (zT2_of (i := 72) rfl rfl)⟩
theorem iX3_readInto_71 : zAl zX3_readInto 71 0 72 := Or.inl ⟨0, rfl, by decide +kernel, rfl⟩
theorem iX3_readInto_72 : zGf zX3_readInto 72 3 4 75 := ⟨29, _, _, _, zcf_3, by decide, by decide +kernel, rfl, zT1_of (i := 119) rfl rfl⟩
theorem iX3_readInto_75 : zD zX3_readInto 75 1 (.ireturn) 76 := ⟨by decide +kernel, rfl⟩
theorem iX3_readPart_0 : zAl zX3_readPart 0 0 1 := Or.inl ⟨0, rfl, by decide +kernel, rfl⟩
theorem iX3_readPart_1 : zIl zX3_readPart 1 1 2 := Or.inl ⟨1, rfl, by decide +kernel, rfl⟩
theorem iX3_readPart_2 : zCl zX3_readPart 2 .invokevirtual zX3_expect 5 := ⟨47, by decide +kernel, rfl, Or.inl (zT2_of (i := 72) rfl rfl)⟩
theorem iX3_readPart_5 : zAl zX3_readPart 5 0 6 := Or.inl ⟨0, rfl, by decide +kernel, rfl⟩
theorem iX3_readPart_6 : zCo zX3_readPart 6 (0) 7 := Or.inl ⟨0, by decide, by decide +kernel, rfl⟩
theorem iX3_readPart_7 : zCl zX3_readPart 7 .invokevirtual zX3_readEither 10 := ⟨50, by decide +kernel, rfl, Or.inl (zT2_of (i := 88) rfl rfl)⟩
theorem iX3_readPart_10 : zAl zX3_readPart 10 0 11 := Or.inl ⟨0, rfl, by decide +kernel, rfl⟩
theorem iX3_readPart_11 : zCo zX3_readPart 11 (-59) 13 := Or.inr (Or.inl ⟨-59, by decide, by decide +kernel, rfl⟩)
theorem iX3_readPart_13 : zCl zX3_readPart 13 .invokevirtual zX3_expect 16 := ⟨47, by decide +kernel, rfl, Or.inl (zT2_of (i := 72) rfl rfl)⟩
theorem iX3_readPart_16 : zAl zX3_readPart 16 0 17 := Or.inl ⟨0, rfl, by decide +kernel, rfl⟩
theorem iX3_readPart_17 : zGf zX3_readPart 17 3 1 20 := ⟨15, _, _, _, zcf_3, by decide, by decide +kernel, rfl, zT1_of (i := 116) rfl rfl⟩
theorem iX3_readPart_20 : zCl zX3_readPart 20 .invokevirtual zX8_closePart 23 := ⟨53, by decide +kernel, rfl, Or.inl (zT2_of (i := 124) rfl rfl)⟩
theorem iX3_readPart_23 : zD zX3_readPart 23 1 (.return_) 24 := ⟨by decide +kernel, rfl⟩
theorem iX3_readEither_0 : zAl zX3_readEither 0 0 1 := Or.inl ⟨0, rfl, by decide +kernel, rfl⟩
theorem iX3_readEither_1 : zIl zX3_readEither 1 1 2 := Or.inl ⟨1, rfl, by decide +kernel, rfl⟩
theorem iX3_readEither_2 : zCl zX3_readEither 2 .invokevirtual zX3_readBoth 5 := ⟨56, by decide +kernel, rfl, Or.inl (zT2_of (i := 92) rfl rfl)⟩
theorem iX3_readEither_5 : zCo zX3_readEither 5 (0) 6 := Or.inl ⟨0, by decide, by decide +kernel, rfl⟩
theorem iX3_readEither_6 : zIs zX3_readEither 6 2 7 := ⟨by decide, Or.inl ⟨2, rfl, by decide +kernel, rfl⟩⟩
theorem iX3_readEither_7 : zIl zX3_readEither 7 2 8 := Or.inl ⟨2, rfl, by decide +kernel, rfl⟩
theorem iX3_readEither_8 : zCo zX3_readEither 8 (160) 11 := Or.inr (Or.inr (Or.inl ⟨160, by decide, by decide +kernel, rfl⟩))
theorem iX3_readEither_11 : zB zX3_readEither 11 (.if_icmp .ge) 14 43 := ⟨32, by decide +kernel, rfl, by decide⟩
theorem iX3_readEither_14 : zAl zX3_readEither 14 0 15 := Or.inl ⟨0, rfl, by decide +kernel, rfl⟩
theorem iX3_readEither_15 : zCo zX3_readEither 15 (-15) 17 := Or.inr (Or.inl ⟨-15, by decide, by decide +kernel, rfl⟩)
theorem iX3_readEither_17 : zCl zX3_readEither 17 .invokevirtual zX3_accept 20 := ⟨59, by decide +kernel, rfl, Or.inl (zT2_of (i := 120) rfl rfl)⟩
theorem iX3_readEither_20 : zB zX3_readEither 20 (.ifCond .eq) 23 43 := ⟨23, by decide +kernel, rfl, by decide⟩
theorem iX3_readEither_23 : zAl zX3_readEither 23 0 24 := Or.inl ⟨0, rfl, by decide +kernel, rfl⟩
theorem iX3_readEither_24 : zIl zX3_readEither 24 1 25 := Or.inl ⟨1, rfl, by decide +kernel, rfl⟩
theorem iX3_readEither_25 : zCl zX3_readEither 25 .invokevirtual zX3_readBoth 28 := ⟨56, by decide +kernel, rfl, Or.inl (zT2_of (i := 92) rfl rfl)⟩
theorem iX3_readEither_28 : zAl zX3_readEither 28 0 29 := Or.inl ⟨0, rfl, by decide +kernel, rfl⟩
theorem iX3_readEither_29 : zGf zX3_readEither 29 3 1 32 := ⟨15, _, _, _, zcf_3, by decide, by decide +kernel, rfl, zT1_of (i := 116) rfl rfl⟩
theorem iX3_readEither_32 : zCo zX3_readEither 32 (-15) 34 := Or.inr (Or.inl ⟨-15, by decide, by decide +kernel, rfl⟩)
theorem iX3_readEither_34 : zCl zX3_readEither 34 .invokevirtual zX8_add 37 := ⟨63, by decide +kernel, rfl, Or.inl (zT2_of (i := 104) rfl rfl)⟩
theorem iX3_readEither_37 : zIn zX3_readEither 37 2 (1) 40 := ⟨by decide, 1, by decide, by decide +kernel, rfl⟩
theorem iX3_readEither_40 : zB zX3_readEither 40 .goto 43 7 := ⟨-33, by decide +kernel, rfl, by decide⟩
theorem iX3_readEither_43 : zD zX3_readEither 43 1 (.return_) 44 := ⟨by decide +kernel, rfl⟩
theorem iX3_readBoth_0 : zAl zX3_readBoth 0 0 1 := Or.inl ⟨0, rfl, by decide +kernel, rfl⟩
theorem iX3_readBoth_1 : zIl zX3_readBoth 1 1 2 := Or.inl ⟨1, rfl, by decide +kernel, rfl⟩
theorem iX3_readBoth_2 : zCl zX3_readBoth 2 .invokevirtual zX3_readNot 5 := ⟨66, by decide +kernel, rfl, Or.inl (zT2_of (i := 96) rfl rfl)⟩
theorem iX3_readBoth_5 : zCo zX3_readBoth 5 (0) 6 := Or.inl ⟨0, by decide, by decide +kernel, rfl⟩
theorem iX3_readBoth_6 : zIs zX3_readBoth 6 2 7 := ⟨by decide, Or.inl ⟨2, rfl, by decide +kernel, rfl⟩⟩
theorem iX3_readBoth_7 : zIl zX3_readBoth 7 2 8 := Or.inl ⟨2, rfl, by decide +kernel, rfl⟩
theorem iX3_readBoth_8 : zCo zX3_readBoth 8 (160) 11 := Or.inr (Or.inr (Or.inl ⟨160, by decide, by decide +kernel, rfl⟩))
theorem iX3_readBoth_11 : zB zX3_readBoth 11 (.if_icmp .ge) 14 43 := ⟨32, by decide +kernel, rfl, by decide⟩
theorem iX3_readBoth_14 : zAl zX3_readBoth 14 0 15 := Or.inl ⟨0, rfl, by decide +kernel, rfl⟩
theorem iX3_readBoth_15 : zCo zX3_readBoth 15 (-14) 17 := Or.inr (Or.inl ⟨-14, by decide, by decide +kernel, rfl⟩)
theorem iX3_readBoth_17 : zCl zX3_readBoth 17 .invokevirtual zX3_accept 20 := ⟨59, by decide +kernel, rfl, Or.inl (zT2_of (i := 120) rfl rfl)⟩
theorem iX3_readBoth_20 : zB zX3_readBoth 20 (.ifCond .eq) 23 43 := ⟨23, by decide +kernel, rfl, by decide⟩
theorem iX3_readBoth_23 : zAl zX3_readBoth 23 0 24 := Or.inl ⟨0, rfl, by decide +kernel, rfl⟩
theorem iX3_readBoth_24 : zIl zX3_readBoth 24 1 25 := Or.inl ⟨1, rfl, by decide +kernel, rfl⟩
theorem iX3_readBoth_25 : zCl zX3_readBoth 25 .invokevirtual zX3_readNot 28 := ⟨66, by decide +kernel, rfl, Or.inl (zT2_of (i := 96) rfl rfl)⟩
theorem iX3_readBoth_28 : zAl zX3_readBoth 28 0 29 := Or.inl ⟨0, rfl, by decide +kernel, rfl⟩
theorem iX3_readBoth_29 : zGf zX3_readBoth 29 3 1 32 := ⟨15, _, _, _, zcf_3, by decide, by decide +kernel, rfl, zT1_of (i := 116) rfl rfl⟩
theorem iX3_readBoth_32 : zCo zX3_readBoth 32 (-14) 34 := Or.inr (Or.inl ⟨-14, by decide, by decide +kernel, rfl⟩)
theorem iX3_readBoth_34 : zCl zX3_readBoth 34 .invokevirtual zX8_add 37 := ⟨63, by decide +kernel, rfl, Or.inl (zT2_of (i := 104) rfl rfl)⟩
theorem iX3_readBoth_37 : zIn zX3_readBoth 37 2 (1) 40 := ⟨by decide, 1, by decide, by decide +kernel, rfl⟩
theorem iX3_readBoth_40 : zB zX3_readBoth 40 .goto 43 7 := ⟨-33, by decide +kernel, rfl, by decide⟩
theorem iX3_readBoth_43 : zD zX3_readBoth 43 1 (.return_) 44 := ⟨by decide +kernel, rfl⟩
theorem iX3_readNot_0 : zAl zX3_readNot 0 0 1 := Or.inl ⟨0, rfl, by decide +kernel, rfl⟩
theorem iX3_readNot_1 : zGf zX3_readNot 1 3 3 4 := ⟨40, _, _, _, zcf_3, by decide, by decide +kernel, rfl, zT1_of (i := 118) rfl rfl⟩
theorem iX3_readNot_4 : zCo zX3_readNot 4 (-8) 6 := Or.inr (Or.inl ⟨-8, by decide, by decide +kernel, rfl⟩)
theorem iX3_readNot_6 : zB zX3_readNot 6 (.if_icmp .ne) 9 34 := ⟨28, by decide +kernel, rfl, by decide⟩
theorem iX3_readNot_9 : zAl zX3_readNot 9 0 10 := Or.inl ⟨0, rfl, by decide +kernel, rfl⟩
theorem iX3_readNot_10 : zIl zX3_readNot 10 1 11 := Or.inl ⟨1, rfl, by decide +kernel, rfl⟩
theorem iX3_readNot_11 : zCl zX3_readNot 11 .invokevirtual zX3_mayOpen 14 := ⟨69, by decide +kernel, rfl, Or.inl (zT2_of (i := 100) rfl rfl)⟩
theorem iX3_readNot_14 : zB zX3_readNot 14 (.ifCond .eq) 17 33 := ⟨19, by decide +kernel, rfl, by decide⟩
theorem iX3_readNot_17 : zAl zX3_readNot 17 0 18 := Or.inl ⟨0, rfl, by decide +kernel, rfl⟩
theorem iX3_readNot_18 : zIl zX3_readNot 18 1 19 := Or.inl ⟨1, rfl, by decide +kernel, rfl⟩
theorem iX3_readNot_19 : zCo zX3_readNot 19 (1) 20 := Or.inl ⟨1, by decide, by decide +kernel, rfl⟩
theorem iX3_readNot_20 : zD zX3_readNot 20 1 (.iadd) 21 := ⟨by decide +kernel, rfl⟩
theorem iX3_readNot_21 : zCl zX3_readNot 21 .invokevirtual zX3_readNot 24 := ⟨66, by decide +kernel, rfl, Or.inl (zT2_of (i := 96) rfl rfl)⟩
theorem iX3_readNot_24 : zAl zX3_readNot 24 0 25 := Or.inl ⟨0, rfl, by decide +kernel, rfl⟩
theorem iX3_readNot_25 : zGf zX3_readNot 25 3 1 28 := ⟨15, _, _, _, zcf_3, by decide, by decide +kernel, rfl, zT1_of (i := 116) rfl rfl⟩
theorem iX3_readNot_28 : zCo zX3_readNot 28 (-8) 30 := Or.inr (Or.inl ⟨-8, by decide, by decide +kernel, rfl⟩)
theorem iX3_readNot_30 : zCl zX3_readNot 30 .invokevirtual zX8_add 33 := ⟨63, by decide +kernel, rfl, Or.inl (zT2_of (i := 104) rfl rfl)⟩
theorem iX3_readNot_33 : zD zX3_readNot 33 1 (.return_) 34 := ⟨by decide +kernel, rfl⟩
theorem iX3_readNot_34 : zAl zX3_readNot 34 0 35 := Or.inl ⟨0, rfl, by decide +kernel, rfl⟩
theorem iX3_readNot_35 : zIl zX3_readNot 35 1 36 := Or.inl ⟨1, rfl, by decide +kernel, rfl⟩
theorem iX3_readNot_36 : zCl zX3_readNot 36 .invokevirtual zX3_readSum 39 := ⟨72, by decide +kernel, rfl, Or.inl (zT2_of (i := 108) rfl rfl)⟩
theorem iX3_readNot_39 : zAl zX3_readNot 39 0 40 := Or.inl ⟨0, rfl, by decide +kernel, rfl⟩
theorem iX3_readNot_40 : zCo zX3_readNot 40 (-60) 42 := Or.inr (Or.inl ⟨-60, by decide, by decide +kernel, rfl⟩)
theorem iX3_readNot_42 : zCl zX3_readNot 42 .invokevirtual zX3_accept 45 := ⟨59, by decide +kernel, rfl, Or.inl (zT2_of (i := 120) rfl rfl)⟩
theorem iX3_readNot_45 : zB zX3_readNot 45 (.ifCond .eq) 48 65 := ⟨20, by decide +kernel, rfl, by decide⟩
theorem iX3_readNot_48 : zAl zX3_readNot 48 0 49 := Or.inl ⟨0, rfl, by decide +kernel, rfl⟩
theorem iX3_readNot_49 : zIl zX3_readNot 49 1 50 := Or.inl ⟨1, rfl, by decide +kernel, rfl⟩
theorem iX3_readNot_50 : zCl zX3_readNot 50 .invokevirtual zX3_readSum 53 := ⟨72, by decide +kernel, rfl, Or.inl (zT2_of (i := 108) rfl rfl)⟩
theorem iX3_readNot_53 : zAl zX3_readNot 53 0 54 := Or.inl ⟨0, rfl, by decide +kernel, rfl⟩
theorem iX3_readNot_54 : zGf zX3_readNot 54 3 1 57 := ⟨15, _, _, _, zcf_3, by decide, by decide +kernel, rfl, zT1_of (i := 116) rfl rfl⟩
theorem iX3_readNot_57 : zCo zX3_readNot 57 (-12) 59 := Or.inr (Or.inl ⟨-12, by decide, by decide +kernel, rfl⟩)
theorem iX3_readNot_59 : zCl zX3_readNot 59 .invokevirtual zX8_add 62 := ⟨63, by decide +kernel, rfl, Or.inl (zT2_of (i := 104) rfl rfl)⟩
theorem iX3_readNot_62 : zB zX3_readNot 62 .goto 65 88 := ⟨26, by decide +kernel, rfl, by decide⟩
theorem iX3_readNot_65 : zAl zX3_readNot 65 0 66 := Or.inl ⟨0, rfl, by decide +kernel, rfl⟩
theorem iX3_readNot_66 : zCo zX3_readNot 66 (-61) 68 := Or.inr (Or.inl ⟨-61, by decide, by decide +kernel, rfl⟩)
theorem iX3_readNot_68 : zCl zX3_readNot 68 .invokevirtual zX3_accept 71 := ⟨59, by decide +kernel, rfl, Or.inl (zT2_of (i := 120) rfl rfl)⟩
theorem iX3_readNot_71 : zB zX3_readNot 71 (.ifCond .eq) 74 88 := ⟨17, by decide +kernel, rfl, by decide⟩
theorem iX3_readNot_74 : zAl zX3_readNot 74 0 75 := Or.inl ⟨0, rfl, by decide +kernel, rfl⟩
theorem iX3_readNot_75 : zIl zX3_readNot 75 1 76 := Or.inl ⟨1, rfl, by decide +kernel, rfl⟩
theorem iX3_readNot_76 : zCl zX3_readNot 76 .invokevirtual zX3_readSum 79 := ⟨72, by decide +kernel, rfl, Or.inl (zT2_of (i := 108) rfl rfl)⟩
theorem iX3_readNot_79 : zAl zX3_readNot 79 0 80 := Or.inl ⟨0, rfl, by decide +kernel, rfl⟩
theorem iX3_readNot_80 : zGf zX3_readNot 80 3 1 83 := ⟨15, _, _, _, zcf_3, by decide, by decide +kernel, rfl, zT1_of (i := 116) rfl rfl⟩
theorem iX3_readNot_83 : zCo zX3_readNot 83 (-13) 85 := Or.inr (Or.inl ⟨-13, by decide, by decide +kernel, rfl⟩)
theorem iX3_readNot_85 : zCl zX3_readNot 85 .invokevirtual zX8_add 88 := ⟨63, by decide +kernel, rfl, Or.inl (zT2_of (i := 104) rfl rfl)⟩
theorem iX3_readNot_88 : zD zX3_readNot 88 1 (.return_) 89 := ⟨by decide +kernel, rfl⟩
theorem iX3_readSum_0 : zAl zX3_readSum 0 0 1 := Or.inl ⟨0, rfl, by decide +kernel, rfl⟩
theorem iX3_readSum_1 : zIl zX3_readSum 1 1 2 := Or.inl ⟨1, rfl, by decide +kernel, rfl⟩
theorem iX3_readSum_2 : zCl zX3_readSum 2 .invokevirtual zX3_readTerm 5 := ⟨75, by decide +kernel, rfl, Or.inl (zT2_of (i := 112) rfl rfl)⟩
theorem iX3_readSum_5 : zCo zX3_readSum 5 (0) 6 := Or.inl ⟨0, by decide, by decide +kernel, rfl⟩
theorem iX3_readSum_6 : zIs zX3_readSum 6 2 7 := ⟨by decide, Or.inl ⟨2, rfl, by decide +kernel, rfl⟩⟩
theorem iX3_readSum_7 : zIl zX3_readSum 7 2 8 := Or.inl ⟨2, rfl, by decide +kernel, rfl⟩
theorem iX3_readSum_8 : zCo zX3_readSum 8 (160) 11 := Or.inr (Or.inr (Or.inl ⟨160, by decide, by decide +kernel, rfl⟩))
theorem iX3_readSum_11 : zB zX3_readSum 11 (.if_icmp .ge) 14 72 := ⟨61, by decide +kernel, rfl, by decide⟩
theorem iX3_readSum_14 : zAl zX3_readSum 14 0 15 := Or.inl ⟨0, rfl, by decide +kernel, rfl⟩
theorem iX3_readSum_15 : zGf zX3_readSum 15 3 3 18 := ⟨40, _, _, _, zcf_3, by decide, by decide +kernel, rfl, zT1_of (i := 118) rfl rfl⟩
theorem iX3_readSum_18 : zCo zX3_readSum 18 (-43) 20 := Or.inr (Or.inl ⟨-43, by decide, by decide +kernel, rfl⟩)
theorem iX3_readSum_20 : zB zX3_readSum 20 (.if_icmp .eq) 23 32 := ⟨12, by decide +kernel, rfl, by decide⟩
theorem iX3_readSum_23 : zAl zX3_readSum 23 0 24 := Or.inl ⟨0, rfl, by decide +kernel, rfl⟩
theorem iX3_readSum_24 : zGf zX3_readSum 24 3 3 27 := ⟨40, _, _, _, zcf_3, by decide, by decide +kernel, rfl, zT1_of (i := 118) rfl rfl⟩
theorem iX3_readSum_27 : zCo zX3_readSum 27 (-45) 29 := Or.inr (Or.inl ⟨-45, by decide, by decide +kernel, rfl⟩)
theorem iX3_readSum_29 : zB zX3_readSum 29 (.if_icmp .ne) 32 72 := ⟨43, by decide +kernel, rfl, by decide⟩
theorem iX3_readSum_32 : zAl zX3_readSum 32 0 33 := Or.inl ⟨0, rfl, by decide +kernel, rfl⟩
theorem iX3_readSum_33 : zGf zX3_readSum 33 3 3 36 := ⟨40, _, _, _, zcf_3, by decide, by decide +kernel, rfl, zT1_of (i := 118) rfl rfl⟩
theorem iX3_readSum_36 : zCo zX3_readSum 36 (-43) 38 := Or.inr (Or.inl ⟨-43, by decide, by decide +kernel, rfl⟩)
theorem iX3_readSum_38 : zB zX3_readSum 38 (.if_icmp .ne) 41 46 := ⟨8, by decide +kernel, rfl, by decide⟩
theorem iX3_readSum_41 : zCo zX3_readSum 41 (-10) 43 := Or.inr (Or.inl ⟨-10, by decide, by decide +kernel, rfl⟩)
theorem iX3_readSum_43 : zB zX3_readSum 43 .goto 46 48 := ⟨5, by decide +kernel, rfl, by decide⟩
theorem iX3_readSum_46 : zCo zX3_readSum 46 (-11) 48 := Or.inr (Or.inl ⟨-11, by decide, by decide +kernel, rfl⟩)
theorem iX3_readSum_48 : zIs zX3_readSum 48 3 49 := ⟨by decide, Or.inl ⟨3, rfl, by decide +kernel, rfl⟩⟩
theorem iX3_readSum_49 : zAl zX3_readSum 49 0 50 := Or.inl ⟨0, rfl, by decide +kernel, rfl⟩
theorem iX3_readSum_50 : zCl zX3_readSum 50 .invokevirtual zX3_advance 53 := ⟨78, by decide +kernel, rfl, Or.inl (zT2_of (i := 76) rfl rfl)⟩
theorem iX3_readSum_53 : zAl zX3_readSum 53 0 54 := Or.inl ⟨0, rfl, by decide +kernel, rfl⟩
theorem iX3_readSum_54 : zIl zX3_readSum 54 1 55 := Or.inl ⟨1, rfl, by decide +kernel, rfl⟩
theorem iX3_readSum_55 : zCl zX3_readSum 55 .invokevirtual zX3_readTerm 58 := ⟨75, by decide +kernel, rfl, Or.inl (zT2_of (i := 112) rfl rfl)⟩
theorem iX3_readSum_58 : zAl zX3_readSum 58 0 59 := Or.inl ⟨0, rfl, by decide +kernel, rfl⟩
theorem iX3_readSum_59 : zGf zX3_readSum 59 3 1 62 := ⟨15, _, _, _, zcf_3, by decide, by decide +kernel, rfl, zT1_of (i := 116) rfl rfl⟩
theorem iX3_readSum_62 : zIl zX3_readSum 62 3 63 := Or.inl ⟨3, rfl, by decide +kernel, rfl⟩
theorem iX3_readSum_63 : zCl zX3_readSum 63 .invokevirtual zX8_add 66 := ⟨63, by decide +kernel, rfl, Or.inl (zT2_of (i := 104) rfl rfl)⟩
theorem iX3_readSum_66 : zIn zX3_readSum 66 2 (1) 69 := ⟨by decide, 1, by decide, by decide +kernel, rfl⟩
theorem iX3_readSum_69 : zB zX3_readSum 69 .goto 72 7 := ⟨-62, by decide +kernel, rfl, by decide⟩
theorem iX3_readSum_72 : zD zX3_readSum 72 1 (.return_) 73 := ⟨by decide +kernel, rfl⟩
theorem iX3_readTerm_0 : zAl zX3_readTerm 0 0 1 := Or.inl ⟨0, rfl, by decide +kernel, rfl⟩
theorem iX3_readTerm_1 : zIl zX3_readTerm 1 1 2 := Or.inl ⟨1, rfl, by decide +kernel, rfl⟩
theorem iX3_readTerm_2 : zCl zX3_readTerm 2 .invokevirtual zX3_readOne 5 := ⟨81, by decide +kernel, rfl, Or.inl (zT2_of (i := 116) rfl rfl)⟩
theorem iX3_readTerm_5 : zCo zX3_readTerm 5 (0) 6 := Or.inl ⟨0, by decide, by decide +kernel, rfl⟩
theorem iX3_readTerm_6 : zIs zX3_readTerm 6 2 7 := ⟨by decide, Or.inl ⟨2, rfl, by decide +kernel, rfl⟩⟩
theorem iX3_readTerm_7 : zIl zX3_readTerm 7 2 8 := Or.inl ⟨2, rfl, by decide +kernel, rfl⟩
theorem iX3_readTerm_8 : zCo zX3_readTerm 8 (160) 11 := Or.inr (Or.inr (Or.inl ⟨160, by decide, by decide +kernel, rfl⟩))
theorem iX3_readTerm_11 : zB zX3_readTerm 11 (.if_icmp .ge) 14 43 := ⟨32, by decide +kernel, rfl, by decide⟩
theorem iX3_readTerm_14 : zAl zX3_readTerm 14 0 15 := Or.inl ⟨0, rfl, by decide +kernel, rfl⟩
theorem iX3_readTerm_15 : zCo zX3_readTerm 15 (-42) 17 := Or.inr (Or.inl ⟨-42, by decide, by decide +kernel, rfl⟩)
theorem iX3_readTerm_17 : zCl zX3_readTerm 17 .invokevirtual zX3_accept 20 := ⟨59, by decide +kernel, rfl, Or.inl (zT2_of (i := 120) rfl rfl)⟩
theorem iX3_readTerm_20 : zB zX3_readTerm 20 (.ifCond .eq) 23 43 := ⟨23, by decide +kernel, rfl, by decide⟩
theorem iX3_readTerm_23 : zAl zX3_readTerm 23 0 24 := Or.inl ⟨0, rfl, by decide +kernel, rfl⟩
theorem iX3_readTerm_24 : zIl zX3_readTerm 24 1 25 := Or.inl ⟨1, rfl, by decide +kernel, rfl⟩
theorem iX3_readTerm_25 : zCl zX3_readTerm 25 .invokevirtual zX3_readOne 28 := ⟨81, by decide +kernel, rfl, Or.inl (zT2_of (i := 116) rfl rfl)⟩
theorem iX3_readTerm_28 : zAl zX3_readTerm 28 0 29 := Or.inl ⟨0, rfl, by decide +kernel, rfl⟩
theorem iX3_readTerm_29 : zGf zX3_readTerm 29 3 1 32 := ⟨15, _, _, _, zcf_3, by decide, by decide +kernel, rfl, zT1_of (i := 116) rfl rfl⟩
theorem iX3_readTerm_32 : zCo zX3_readTerm 32 (-9) 34 := Or.inr (Or.inl ⟨-9, by decide, by decide +kernel, rfl⟩)
theorem iX3_readTerm_34 : zCl zX3_readTerm 34 .invokevirtual zX8_add 37 := ⟨63, by decide +kernel, rfl, Or.inl (zT2_of (i := 104) rfl rfl)⟩
theorem iX3_readTerm_37 : zIn zX3_readTerm 37 2 (1) 40 := ⟨by decide, 1, by decide, by decide +kernel, rfl⟩
theorem iX3_readTerm_40 : zB zX3_readTerm 40 .goto 43 7 := ⟨-33, by decide +kernel, rfl, by decide⟩
theorem iX3_readTerm_43 : zD zX3_readTerm 43 1 (.return_) 44 := ⟨by decide +kernel, rfl⟩
theorem iX3_readOne_0 : zAl zX3_readOne 0 0 1 := Or.inl ⟨0, rfl, by decide +kernel, rfl⟩
theorem iX3_readOne_1 : zGf zX3_readOne 1 3 3 4 := ⟨40, _, _, _, zcf_3, by decide, by decide +kernel, rfl, zT1_of (i := 118) rfl rfl⟩
theorem iX3_readOne_4 : zCo zX3_readOne 4 (-6) 6 := Or.inr (Or.inl ⟨-6, by decide, by decide +kernel, rfl⟩)
theorem iX3_readOne_6 : zB zX3_readOne 6 (.if_icmp .lt) 9 27 := ⟨21, by decide +kernel, rfl, by decide⟩
theorem iX3_readOne_9 : zAl zX3_readOne 9 0 10 := Or.inl ⟨0, rfl, by decide +kernel, rfl⟩
theorem iX3_readOne_10 : zGf zX3_readOne 10 3 1 13 := ⟨15, _, _, _, zcf_3, by decide, by decide +kernel, rfl, zT1_of (i := 116) rfl rfl⟩
theorem iX3_readOne_13 : zAl zX3_readOne 13 0 14 := Or.inl ⟨0, rfl, by decide +kernel, rfl⟩
theorem iX3_readOne_14 : zGf zX3_readOne 14 3 3 17 := ⟨40, _, _, _, zcf_3, by decide, by decide +kernel, rfl, zT1_of (i := 118) rfl rfl⟩
theorem iX3_readOne_17 : zCl zX3_readOne 17 .invokevirtual zX8_add 20 := ⟨63, by decide +kernel, rfl, Or.inl (zT2_of (i := 104) rfl rfl)⟩
theorem iX3_readOne_20 : zAl zX3_readOne 20 0 21 := Or.inl ⟨0, rfl, by decide +kernel, rfl⟩
theorem iX3_readOne_21 : zCl zX3_readOne 21 .invokevirtual zX3_advance 24 := ⟨78, by decide +kernel, rfl, Or.inl (zT2_of (i := 76) rfl rfl)⟩
theorem iX3_readOne_24 : zB zX3_readOne 24 .goto 27 100 := ⟨76, by decide +kernel, rfl, by decide⟩
theorem iX3_readOne_27 : zAl zX3_readOne 27 0 28 := Or.inl ⟨0, rfl, by decide +kernel, rfl⟩
theorem iX3_readOne_28 : zGf zX3_readOne 28 3 3 31 := ⟨40, _, _, _, zcf_3, by decide, by decide +kernel, rfl, zT1_of (i := 118) rfl rfl⟩
theorem iX3_readOne_31 : zCo zX3_readOne 31 (-45) 33 := Or.inr (Or.inl ⟨-45, by decide, by decide +kernel, rfl⟩)
theorem iX3_readOne_33 : zB zX3_readOne 33 (.if_icmp .ne) 36 63 := ⟨30, by decide +kernel, rfl, by decide⟩
theorem iX3_readOne_36 : zAl zX3_readOne 36 0 37 := Or.inl ⟨0, rfl, by decide +kernel, rfl⟩
theorem iX3_readOne_37 : zIl zX3_readOne 37 1 38 := Or.inl ⟨1, rfl, by decide +kernel, rfl⟩
theorem iX3_readOne_38 : zCl zX3_readOne 38 .invokevirtual zX3_mayOpen 41 := ⟨69, by decide +kernel, rfl, Or.inl (zT2_of (i := 100) rfl rfl)⟩
theorem iX3_readOne_41 : zB zX3_readOne 41 (.ifCond .eq) 44 100 := ⟨59, by decide +kernel, rfl, by decide⟩
theorem iX3_readOne_44 : zAl zX3_readOne 44 0 45 := Or.inl ⟨0, rfl, by decide +kernel, rfl⟩
theorem iX3_readOne_45 : zIl zX3_readOne 45 1 46 := Or.inl ⟨1, rfl, by decide +kernel, rfl⟩
theorem iX3_readOne_46 : zCo zX3_readOne 46 (1) 47 := Or.inl ⟨1, by decide, by decide +kernel, rfl⟩
theorem iX3_readOne_47 : zD zX3_readOne 47 1 (.iadd) 48 := ⟨by decide +kernel, rfl⟩
theorem iX3_readOne_48 : zCl zX3_readOne 48 .invokevirtual zX3_readOne 51 := ⟨81, by decide +kernel, rfl, Or.inl (zT2_of (i := 116) rfl rfl)⟩
theorem iX3_readOne_51 : zAl zX3_readOne 51 0 52 := Or.inl ⟨0, rfl, by decide +kernel, rfl⟩
theorem iX3_readOne_52 : zGf zX3_readOne 52 3 1 55 := ⟨15, _, _, _, zcf_3, by decide, by decide +kernel, rfl, zT1_of (i := 116) rfl rfl⟩
theorem iX3_readOne_55 : zCo zX3_readOne 55 (-7) 57 := Or.inr (Or.inl ⟨-7, by decide, by decide +kernel, rfl⟩)
theorem iX3_readOne_57 : zCl zX3_readOne 57 .invokevirtual zX8_add 60 := ⟨63, by decide +kernel, rfl, Or.inl (zT2_of (i := 104) rfl rfl)⟩
theorem iX3_readOne_60 : zB zX3_readOne 60 .goto 63 100 := ⟨40, by decide +kernel, rfl, by decide⟩
theorem iX3_readOne_63 : zAl zX3_readOne 63 0 64 := Or.inl ⟨0, rfl, by decide +kernel, rfl⟩
theorem iX3_readOne_64 : zGf zX3_readOne 64 3 3 67 := ⟨40, _, _, _, zcf_3, by decide, by decide +kernel, rfl, zT1_of (i := 118) rfl rfl⟩
theorem iX3_readOne_67 : zCo zX3_readOne 67 (-40) 69 := Or.inr (Or.inl ⟨-40, by decide, by decide +kernel, rfl⟩)
theorem iX3_readOne_69 : zB zX3_readOne 69 (.if_icmp .ne) 72 96 := ⟨27, by decide +kernel, rfl, by decide⟩
theorem iX3_readOne_72 : zAl zX3_readOne 72 0 73 := Or.inl ⟨0, rfl, by decide +kernel, rfl⟩
theorem iX3_readOne_73 : zIl zX3_readOne 73 1 74 := Or.inl ⟨1, rfl, by decide +kernel, rfl⟩
theorem iX3_readOne_74 : zCl zX3_readOne 74 .invokevirtual zX3_mayOpen 77 := ⟨69, by decide +kernel, rfl, Or.inl (zT2_of (i := 100) rfl rfl)⟩
theorem iX3_readOne_77 : zB zX3_readOne 77 (.ifCond .eq) 80 100 := ⟨23, by decide +kernel, rfl, by decide⟩
theorem iX3_readOne_80 : zAl zX3_readOne 80 0 81 := Or.inl ⟨0, rfl, by decide +kernel, rfl⟩
theorem iX3_readOne_81 : zIl zX3_readOne 81 1 82 := Or.inl ⟨1, rfl, by decide +kernel, rfl⟩
theorem iX3_readOne_82 : zCo zX3_readOne 82 (1) 83 := Or.inl ⟨1, by decide, by decide +kernel, rfl⟩
theorem iX3_readOne_83 : zD zX3_readOne 83 1 (.iadd) 84 := ⟨by decide +kernel, rfl⟩
theorem iX3_readOne_84 : zCl zX3_readOne 84 .invokevirtual zX3_readEither 87 := ⟨50, by decide +kernel, rfl, Or.inl (zT2_of (i := 88) rfl rfl)⟩
theorem iX3_readOne_87 : zAl zX3_readOne 87 0 88 := Or.inl ⟨0, rfl, by decide +kernel, rfl⟩
theorem iX3_readOne_88 : zCo zX3_readOne 88 (-41) 90 := Or.inr (Or.inl ⟨-41, by decide, by decide +kernel, rfl⟩)
theorem iX3_readOne_90 : zCl zX3_readOne 90 .invokevirtual zX3_expect 93 := ⟨47, by decide +kernel, rfl, Or.inl (zT2_of (i := 72) rfl rfl)⟩
theorem iX3_readOne_93 : zB zX3_readOne 93 .goto 96 100 := ⟨7, by decide +kernel, rfl, by decide⟩
theorem iX3_readOne_96 : zAl zX3_readOne 96 0 97 := Or.inl ⟨0, rfl, by decide +kernel, rfl⟩
theorem iX3_readOne_97 : zCl zX3_readOne 97 .invokevirtual zX3_refuse 100 := ⟨84, by decide +kernel, rfl, Or.inl (zT2_of (i := 80) rfl rfl)⟩
theorem iX3_readOne_100 : zD zX3_readOne 100 1 (.return_) 101 := ⟨by decide +kernel, rfl⟩
theorem iX3_mayOpen_0 : zIl zX3_mayOpen 0 1 1 := Or.inl ⟨1, rfl, by decide +kernel, rfl⟩
theorem iX3_mayOpen_1 : zCo zX3_mayOpen 1 (5) 2 := Or.inl ⟨5, by decide, by decide +kernel, rfl⟩
theorem iX3_mayOpen_2 : zB zX3_mayOpen 2 (.if_icmp .lt) 5 11 := ⟨9, by decide +kernel, rfl, by decide⟩
theorem iX3_mayOpen_5 : zAl zX3_mayOpen 5 0 6 := Or.inl ⟨0, rfl, by decide +kernel, rfl⟩
theorem iX3_mayOpen_6 : zCl zX3_mayOpen 6 .invokevirtual zX3_refuse 9 := ⟨84, by decide +kernel, rfl, Or.inl (zT2_of (i := 80) rfl rfl)⟩
theorem iX3_mayOpen_9 : zCo zX3_mayOpen 9 (0) 10 := Or.inl ⟨0, by decide, by decide +kernel, rfl⟩
theorem iX3_mayOpen_10 : zD zX3_mayOpen 10 1 (.ireturn) 11 := ⟨by decide +kernel, rfl⟩
theorem iX3_mayOpen_11 : zAl zX3_mayOpen 11 0 12 := Or.inl ⟨0, rfl, by decide +kernel, rfl⟩
theorem iX3_mayOpen_12 : zCl zX3_mayOpen 12 .invokevirtual zX3_advance 15 := ⟨78, by decide +kernel, rfl, Or.inl (zT2_of (i := 76) rfl rfl)⟩
theorem iX3_mayOpen_15 : zCo zX3_mayOpen 15 (1) 16 := Or.inl ⟨1, by decide, by decide +kernel, rfl⟩
theorem iX3_mayOpen_16 : zD zX3_mayOpen 16 1 (.ireturn) 17 := ⟨by decide +kernel, rfl⟩
theorem iX3_accept_0 : zAl zX3_accept 0 0 1 := Or.inl ⟨0, rfl, by decide +kernel, rfl⟩
theorem iX3_accept_1 : zGf zX3_accept 1 3 3 4 := ⟨40, _, _, _, zcf_3, by decide, by decide +kernel, rfl, zT1_of (i := 118) rfl rfl⟩
theorem iX3_accept_4 : zIl zX3_accept 4 1 5 := Or.inl ⟨1, rfl, by decide +kernel, rfl⟩
theorem iX3_accept_5 : zB zX3_accept 5 (.if_icmp .eq) 8 10 := ⟨5, by decide +kernel, rfl, by decide⟩
theorem iX3_accept_8 : zCo zX3_accept 8 (0) 9 := Or.inl ⟨0, by decide, by decide +kernel, rfl⟩
theorem iX3_accept_9 : zD zX3_accept 9 1 (.ireturn) 10 := ⟨by decide +kernel, rfl⟩
theorem iX3_accept_10 : zAl zX3_accept 10 0 11 := Or.inl ⟨0, rfl, by decide +kernel, rfl⟩
theorem iX3_accept_11 : zCl zX3_accept 11 .invokevirtual zX3_advance 14 := ⟨78, by decide +kernel, rfl, Or.inl (zT2_of (i := 76) rfl rfl)⟩
theorem iX3_accept_14 : zCo zX3_accept 14 (1) 15 := Or.inl ⟨1, by decide, by decide +kernel, rfl⟩
theorem iX3_accept_15 : zD zX3_accept 15 1 (.ireturn) 16 := ⟨by decide +kernel, rfl⟩
theorem iX3_expect_0 : zAl zX3_expect 0 0 1 := Or.inl ⟨0, rfl, by decide +kernel, rfl⟩
theorem iX3_expect_1 : zGf zX3_expect 1 3 3 4 := ⟨40, _, _, _, zcf_3, by decide, by decide +kernel, rfl, zT1_of (i := 118) rfl rfl⟩
theorem iX3_expect_4 : zIl zX3_expect 4 1 5 := Or.inl ⟨1, rfl, by decide +kernel, rfl⟩
theorem iX3_expect_5 : zB zX3_expect 5 (.if_icmp .ne) 8 15 := ⟨10, by decide +kernel, rfl, by decide⟩
theorem iX3_expect_8 : zAl zX3_expect 8 0 9 := Or.inl ⟨0, rfl, by decide +kernel, rfl⟩
theorem iX3_expect_9 : zCl zX3_expect 9 .invokevirtual zX3_advance 12 := ⟨78, by decide +kernel, rfl, Or.inl (zT2_of (i := 76) rfl rfl)⟩
theorem iX3_expect_12 : zB zX3_expect 12 .goto 15 19 := ⟨7, by decide +kernel, rfl, by decide⟩
theorem iX3_expect_15 : zAl zX3_expect 15 0 16 := Or.inl ⟨0, rfl, by decide +kernel, rfl⟩
theorem iX3_expect_16 : zCl zX3_expect 16 .invokevirtual zX3_refuse 19 := ⟨84, by decide +kernel, rfl, Or.inl (zT2_of (i := 80) rfl rfl)⟩
theorem iX3_expect_19 : zD zX3_expect 19 1 (.return_) 20 := ⟨by decide +kernel, rfl⟩
theorem iX3_refuse_0 : zAl zX3_refuse 0 0 1 := Or.inl ⟨0, rfl, by decide +kernel, rfl⟩
theorem iX3_refuse_1 : zGf zX3_refuse 1 3 4 4 := ⟨29, _, _, _, zcf_3, by decide, by decide +kernel, rfl, zT1_of (i := 119) rfl rfl⟩
theorem iX3_refuse_4 : zCo zX3_refuse 4 (-1) 5 := Or.inl ⟨-1, by decide, by decide +kernel, rfl⟩
theorem iX3_refuse_5 : zB zX3_refuse 5 (.if_icmp .ne) 8 23 := ⟨18, by decide +kernel, rfl, by decide⟩
theorem iX3_refuse_8 : zAl zX3_refuse 8 0 9 := Or.inl ⟨0, rfl, by decide +kernel, rfl⟩
theorem iX3_refuse_9 : zAl zX3_refuse 9 0 10 := Or.inl ⟨0, rfl, by decide +kernel, rfl⟩
theorem iX3_refuse_10 : zGf zX3_refuse 10 3 0 13 := ⟨9, _, _, _, zcf_3, by decide, by decide +kernel, rfl, zT1_of (i := 115) rfl rfl⟩
theorem iX3_refuse_13 : zAl zX3_refuse 13 0 14 := Or.inl ⟨0, rfl, by decide +kernel, rfl⟩
theorem iX3_refuse_14 : zGf zX3_refuse 14 3 2 17 := ⟨33, _, _, _, zcf_3, by decide, by decide +kernel, rfl, zT1_of (i := 117) rfl rfl⟩
theorem iX3_refuse_17 : zCl zX3_refuse 17 .invokevirtual zX7_placeAt 20 := ⟨87, by decide +kernel, rfl, Or.inl (zT2_of (i := 84) rfl rfl)⟩
theorem iX3_refuse_20 : zPf zX3_refuse 20 3 4 .int 23 := ⟨29, _, _, _, zcf_3, by decide, by decide +kernel, rfl, zT1_of (i := 119) rfl rfl, by decide +kernel, Or.inl rfl⟩
theorem iX3_refuse_23 : zAl zX3_refuse 23 0 24 := Or.inl ⟨0, rfl, by decide +kernel, rfl⟩
theorem iX3_refuse_24 : zCo zX3_refuse 24 (-21) 26 := Or.inr (Or.inl ⟨-21, by decide, by decide +kernel, rfl⟩)
theorem iX3_refuse_26 : zPf zX3_refuse 26 3 3 .int 29 := ⟨40, _, _, _, zcf_3, by decide, by decide +kernel, rfl, zT1_of (i := 118) rfl rfl, by decide +kernel, Or.inl rfl⟩
theorem iX3_refuse_29 : zD zX3_refuse 29 1 (.return_) 30 := ⟨by decide +kernel, rfl⟩
theorem iX3_advance_0 : zAl zX3_advance 0 0 1 := Or.inl ⟨0, rfl, by decide +kernel, rfl⟩
theorem iX3_advance_1 : zD zX3_advance 1 1 (.dup) 2 := ⟨by decide +kernel, rfl⟩
theorem iX3_advance_2 : zGf zX3_advance 2 3 2 5 := ⟨33, _, _, _, zcf_3, by decide, by decide +kernel, rfl, zT1_of (i := 117) rfl rfl⟩
theorem iX3_advance_5 : zCo zX3_advance 5 (1) 6 := Or.inl ⟨1, by decide, by decide +kernel, rfl⟩
theorem iX3_advance_6 : zD zX3_advance 6 1 (.iadd) 7 := ⟨by decide +kernel, rfl⟩
theorem iX3_advance_7 : zPf zX3_advance 7 3 2 .int 10 := ⟨33, _, _, _, zcf_3, by decide, by decide +kernel, rfl, zT1_of (i := 117) rfl rfl, by decide +kernel, Or.inl rfl⟩
theorem iX3_advance_10 : zAl zX3_advance 10 0 11 := Or.inl ⟨0, rfl, by decide +kernel, rfl⟩
theorem iX3_advance_11 : zAl zX3_advance 11 0 12 := Or.inl ⟨0, rfl, by decide +kernel, rfl⟩
theorem iX3_advance_12 : zGf zX3_advance 12 3 0 15 := ⟨9, _, _, _, zcf_3, by decide, by decide +kernel, rfl, zT1_of (i := 115) rfl rfl⟩
theorem iX3_advance_15 : zAl zX3_advance 15 0 16 := Or.inl ⟨0, rfl, by decide +kernel, rfl⟩
theorem iX3_advance_16 : zGf zX3_advance 16 3 2 19 := ⟨33, _, _, _, zcf_3, by decide, by decide +kernel, rfl, zT1_of (i := 117) rfl rfl⟩
theorem iX3_advance_19 : zCl zX3_advance 19 .invokevirtual zX7_tokenAt 22 := ⟨36, by decide +kernel, rfl, Or.inl (zT2_of (i := 64) rfl rfl)⟩
theorem iX3_advance_22 : zPf zX3_advance 22 3 3 .int 25 := ⟨40, _, _, _, zcf_3, by decide, by decide +kernel, rfl, zT1_of (i := 118) rfl rfl, by decide +kernel, Or.inl rfl⟩
theorem iX3_advance_25 : zD zX3_advance 25 1 (.return_) 26 := ⟨by decide +kernel, rfl⟩
theorem iX4_init_0 : zAl zX4_init 0 0 1 := Or.inl ⟨0, rfl, by decide +kernel, rfl⟩
theorem iX4_init_1 : zOi zX4_init 1 4 := ⟨1, by decide +kernel, rfl, zT1_of (i := 42) rfl rfl, zT1_of (i := 25) rfl rfl, zT1_of (i := 26) rfl rfl⟩
theorem iX4_init_4 : zD zX4_init 4 1 (.return_) 5 := ⟨by decide +kernel, rfl⟩
theorem iX4_reads_0 : zIl zX4_reads 0 1 1 := Or.inl ⟨1, rfl, by decide +kernel, rfl⟩
theorem iX4_reads_1 : zAl zX4_reads 1 0 2 := Or.inl ⟨0, rfl, by decide +kernel, rfl⟩
theorem iX4_reads_2 : zGf zX4_reads 2 4 0 5 := ⟨7, _, _, _, zcf_4, by decide, by decide +kernel, rfl, zT1_of (i := 43) rfl rfl⟩
theorem iX4_reads_5 : zD zX4_reads 5 1 (.isub) 6 := ⟨by decide +kernel, rfl⟩
theorem iX4_reads_6 : zCo zX4_reads 6 (1000) 9 := Or.inr (Or.inr (Or.inl ⟨1000, by decide, by decide +kernel, rfl⟩))
theorem iX4_reads_9 : zAl zX4_reads 9 0 10 := Or.inl ⟨0, rfl, by decide +kernel, rfl⟩
theorem iX4_reads_10 : zGf zX4_reads 10 4 1 13 := ⟨13, _, _, _, zcf_4, by decide, by decide +kernel, rfl, zT1_of (i := 45) rfl rfl⟩
theorem iX4_reads_13 : zD zX4_reads 13 1 (.iadd) 14 := ⟨by decide +kernel, rfl⟩
theorem iX4_reads_14 : zD zX4_reads 14 1 (.imul) 15 := ⟨by decide +kernel, rfl⟩
theorem iX4_reads_15 : zCo zX4_reads 15 (1000) 18 := Or.inr (Or.inr (Or.inl ⟨1000, by decide, by decide +kernel, rfl⟩))
theorem iX4_reads_18 : zD zX4_reads 18 1 (.idiv) 19 := ⟨by decide +kernel, rfl⟩
theorem iX4_reads_19 : zD zX4_reads 19 1 (.ireturn) 20 := ⟨by decide +kernel, rfl⟩
theorem iX5_init_0 : zAl zX5_init 0 0 1 := Or.inl ⟨0, rfl, by decide +kernel, rfl⟩
theorem iX5_init_1 : zOi zX5_init 1 4 := ⟨3, by decide +kernel, rfl, zT1_of (i := 166) rfl rfl, zT1_of (i := 25) rfl rfl, zT1_of (i := 26) rfl rfl⟩
theorem iX5_init_4 : zAl zX5_init 4 0 5 := Or.inl ⟨0, rfl, by decide +kernel, rfl⟩
theorem iX5_init_5 : zCo zX5_init 5 (-1) 6 := Or.inl ⟨-1, by decide, by decide +kernel, rfl⟩
theorem iX5_init_6 : zPf zX5_init 6 5 0 .int 9 := ⟨9, _, _, _, zcf_5, by decide, by decide +kernel, rfl, zT1_of (i := 167) rfl rfl, by decide +kernel, Or.inl rfl⟩
theorem iX5_init_9 : zAl zX5_init 9 0 10 := Or.inl ⟨0, rfl, by decide +kernel, rfl⟩
theorem iX5_init_10 : zCo zX5_init 10 (40) 12 := Or.inr (Or.inl ⟨40, by decide, by decide +kernel, rfl⟩)
theorem iX5_init_12 : zD zX5_init 12 2 (.newarray .int) 14 := ⟨by decide +kernel, rfl⟩
theorem iX5_init_14 : zPf zX5_init 14 5 2 (.array .int) 17 := ⟨15, _, _, _, zcf_5, by decide, by decide +kernel, rfl, zT1_of (i := 170) rfl rfl, by decide +kernel, Or.inr ⟨rfl, rfl, rfl⟩⟩
theorem iX5_init_17 : zD zX5_init 17 1 (.return_) 18 := ⟨by decide +kernel, rfl⟩
theorem iX5_become_0 : zAl zX5_become 0 0 1 := Or.inl ⟨0, rfl, by decide +kernel, rfl⟩
theorem iX5_become_1 : zIl zX5_become 1 1 2 := Or.inl ⟨1, rfl, by decide +kernel, rfl⟩
theorem iX5_become_2 : zPf zX5_become 2 5 0 .int 5 := ⟨9, _, _, _, zcf_5, by decide, by decide +kernel, rfl, zT1_of (i := 167) rfl rfl, by decide +kernel, Or.inl rfl⟩
theorem iX5_become_5 : zAl zX5_become 5 0 6 := Or.inl ⟨0, rfl, by decide +kernel, rfl⟩
theorem iX5_become_6 : zIl zX5_become 6 2 7 := Or.inl ⟨2, rfl, by decide +kernel, rfl⟩
theorem iX5_become_7 : zPf zX5_become 7 5 1 .int 10 := ⟨19, _, _, _, zcf_5, by decide, by decide +kernel, rfl, zT1_of (i := 169) rfl rfl, by decide +kernel, Or.inl rfl⟩
theorem iX5_become_10 : zCo zX5_become 10 (0) 11 := Or.inl ⟨0, by decide, by decide +kernel, rfl⟩
theorem iX5_become_11 : zIs zX5_become 11 3 12 := ⟨by decide, Or.inl ⟨3, rfl, by decide +kernel, rfl⟩⟩
theorem iX5_become_12 : zIl zX5_become 12 3 13 := Or.inl ⟨3, rfl, by decide +kernel, rfl⟩
theorem iX5_become_13 : zCo zX5_become 13 (40) 15 := Or.inr (Or.inl ⟨40, by decide, by decide +kernel, rfl⟩)
theorem iX5_become_15 : zB zX5_become 15 (.if_icmp .ge) 18 31 := ⟨16, by decide +kernel, rfl, by decide⟩
theorem iX5_become_18 : zAl zX5_become 18 0 19 := Or.inl ⟨0, rfl, by decide +kernel, rfl⟩
theorem iX5_become_19 : zGf zX5_become 19 5 2 22 := ⟨15, _, _, _, zcf_5, by decide, by decide +kernel, rfl, zT1_of (i := 170) rfl rfl⟩
theorem iX5_become_22 : zIl zX5_become 22 3 23 := Or.inl ⟨3, rfl, by decide +kernel, rfl⟩
theorem iX5_become_23 : zCo zX5_become 23 (0) 24 := Or.inl ⟨0, by decide, by decide +kernel, rfl⟩
theorem iX5_become_24 : zD zX5_become 24 1 (.iastore) 25 := ⟨by decide +kernel, rfl⟩
theorem iX5_become_25 : zIn zX5_become 25 3 (1) 28 := ⟨by decide, 1, by decide, by decide +kernel, rfl⟩
theorem iX5_become_28 : zB zX5_become 28 .goto 31 12 := ⟨-16, by decide +kernel, rfl, by decide⟩
theorem iX5_become_31 : zD zX5_become 31 1 (.return_) 32 := ⟨by decide +kernel, rfl⟩
theorem iX5_has_0 : zIl zX5_has 0 1 1 := Or.inl ⟨1, rfl, by decide +kernel, rfl⟩
theorem iX5_has_1 : zB zX5_has 1 (.ifCond .lt) 4 22 := ⟨21, by decide +kernel, rfl, by decide⟩
theorem iX5_has_4 : zIl zX5_has 4 1 5 := Or.inl ⟨1, rfl, by decide +kernel, rfl⟩
theorem iX5_has_5 : zAl zX5_has 5 0 6 := Or.inl ⟨0, rfl, by decide +kernel, rfl⟩
theorem iX5_has_6 : zGf zX5_has 6 5 1 9 := ⟨19, _, _, _, zcf_5, by decide, by decide +kernel, rfl, zT1_of (i := 169) rfl rfl⟩
theorem iX5_has_9 : zB zX5_has 9 (.if_icmp .ge) 12 22 := ⟨13, by decide +kernel, rfl, by decide⟩
theorem iX5_has_12 : zIl zX5_has 12 1 13 := Or.inl ⟨1, rfl, by decide +kernel, rfl⟩
theorem iX5_has_13 : zCo zX5_has 13 (40) 15 := Or.inr (Or.inl ⟨40, by decide, by decide +kernel, rfl⟩)
theorem iX5_has_15 : zB zX5_has 15 (.if_icmp .ge) 18 22 := ⟨7, by decide +kernel, rfl, by decide⟩
theorem iX5_has_18 : zCo zX5_has 18 (1) 19 := Or.inl ⟨1, by decide, by decide +kernel, rfl⟩
theorem iX5_has_19 : zB zX5_has 19 .goto 22 23 := ⟨4, by decide +kernel, rfl, by decide⟩
theorem iX5_has_22 : zCo zX5_has 22 (0) 23 := Or.inl ⟨0, by decide, by decide +kernel, rfl⟩
theorem iX5_has_23 : zD zX5_has 23 1 (.ireturn) 24 := ⟨by decide +kernel, rfl⟩
theorem iX5_get_0 : zAl zX5_get 0 0 1 := Or.inl ⟨0, rfl, by decide +kernel, rfl⟩
theorem iX5_get_1 : zIl zX5_get 1 1 2 := Or.inl ⟨1, rfl, by decide +kernel, rfl⟩
theorem iX5_get_2 : zCl zX5_get 2 .invokevirtual zX5_has 5 := ⟨22, by decide +kernel, rfl, Or.inl (zT4_of (i := 115) rfl rfl)⟩
theorem iX5_get_5 : zB zX5_get 5 (.ifCond .eq) 8 17 := ⟨12, by decide +kernel, rfl, by decide⟩
theorem iX5_get_8 : zAl zX5_get 8 0 9 := Or.inl ⟨0, rfl, by decide +kernel, rfl⟩
theorem iX5_get_9 : zGf zX5_get 9 5 2 12 := ⟨15, _, _, _, zcf_5, by decide, by decide +kernel, rfl, zT1_of (i := 170) rfl rfl⟩
theorem iX5_get_12 : zIl zX5_get 12 1 13 := Or.inl ⟨1, rfl, by decide +kernel, rfl⟩
theorem iX5_get_13 : zD zX5_get 13 1 (.iaload) 14 := ⟨by decide +kernel, rfl⟩
theorem iX5_get_14 : zB zX5_get 14 .goto 17 18 := ⟨4, by decide +kernel, rfl, by decide⟩
theorem iX5_get_17 : zCo zX5_get 17 (0) 18 := Or.inl ⟨0, by decide, by decide +kernel, rfl⟩
theorem iX5_get_18 : zD zX5_get 18 1 (.ireturn) 19 := ⟨by decide +kernel, rfl⟩
theorem iX5_set_0 : zAl zX5_set 0 0 1 := Or.inl ⟨0, rfl, by decide +kernel, rfl⟩
theorem iX5_set_1 : zIl zX5_set 1 1 2 := Or.inl ⟨1, rfl, by decide +kernel, rfl⟩
theorem iX5_set_2 : zCl zX5_set 2 .invokevirtual zX5_has 5 := ⟨22, by decide +kernel, rfl, Or.inl (zT4_of (i := 115) rfl rfl)⟩
theorem iX5_set_5 : zB zX5_set 5 (.ifCond .ne) 8 9 := ⟨4, by decide +kernel, rfl, by decide⟩
theorem iX5_set_8 : zD zX5_set 8 1 (.return_) 9 := ⟨by decide +kernel, rfl⟩
theorem iX5_set_9 : zAl zX5_set 9 0 10 := Or.inl ⟨0, rfl, by decide +kernel, rfl⟩
theorem iX5_set_10 : zGf zX5_set 10 5 0 13 := ⟨9, _, _, _, zcf_5, by decide, by decide +kernel, rfl, zT1_of (i := 167) rfl rfl⟩
theorem iX5_set_13 : zB zX5_set 13 (.ifCond .ne) 16 27 := ⟨14, by decide +kernel, rfl, by decide⟩
theorem iX5_set_16 : zAl zX5_set 16 0 17 := Or.inl ⟨0, rfl, by decide +kernel, rfl⟩
theorem iX5_set_17 : zGf zX5_set 17 5 2 20 := ⟨15, _, _, _, zcf_5, by decide, by decide +kernel, rfl, zT1_of (i := 170) rfl rfl⟩
theorem iX5_set_20 : zIl zX5_set 20 1 21 := Or.inl ⟨1, rfl, by decide +kernel, rfl⟩
theorem iX5_set_21 : zIl zX5_set 21 2 22 := Or.inl ⟨2, rfl, by decide +kernel, rfl⟩
theorem iX5_set_22 : zD zX5_set 22 1 (.i2b) 23 := ⟨by decide +kernel, rfl⟩
theorem iX5_set_23 : zD zX5_set 23 1 (.iastore) 24 := ⟨by decide +kernel, rfl⟩
theorem iX5_set_24 : zB zX5_set 24 .goto 27 53 := ⟨29, by decide +kernel, rfl, by decide⟩
theorem iX5_set_27 : zAl zX5_set 27 0 28 := Or.inl ⟨0, rfl, by decide +kernel, rfl⟩
theorem iX5_set_28 : zGf zX5_set 28 5 0 31 := ⟨9, _, _, _, zcf_5, by decide, by decide +kernel, rfl, zT1_of (i := 167) rfl rfl⟩
theorem iX5_set_31 : zCo zX5_set 31 (1) 32 := Or.inl ⟨1, by decide, by decide +kernel, rfl⟩
theorem iX5_set_32 : zB zX5_set 32 (.if_icmp .ne) 35 46 := ⟨14, by decide +kernel, rfl, by decide⟩
theorem iX5_set_35 : zAl zX5_set 35 0 36 := Or.inl ⟨0, rfl, by decide +kernel, rfl⟩
theorem iX5_set_36 : zGf zX5_set 36 5 2 39 := ⟨15, _, _, _, zcf_5, by decide, by decide +kernel, rfl, zT1_of (i := 170) rfl rfl⟩
theorem iX5_set_39 : zIl zX5_set 39 1 40 := Or.inl ⟨1, rfl, by decide +kernel, rfl⟩
theorem iX5_set_40 : zIl zX5_set 40 2 41 := Or.inl ⟨2, rfl, by decide +kernel, rfl⟩
theorem iX5_set_41 : zD zX5_set 41 1 (.i2s) 42 := ⟨by decide +kernel, rfl⟩
theorem iX5_set_42 : zD zX5_set 42 1 (.iastore) 43 := ⟨by decide +kernel, rfl⟩
theorem iX5_set_43 : zB zX5_set 43 .goto 46 53 := ⟨10, by decide +kernel, rfl, by decide⟩
theorem iX5_set_46 : zAl zX5_set 46 0 47 := Or.inl ⟨0, rfl, by decide +kernel, rfl⟩
theorem iX5_set_47 : zGf zX5_set 47 5 2 50 := ⟨15, _, _, _, zcf_5, by decide, by decide +kernel, rfl, zT1_of (i := 170) rfl rfl⟩
theorem iX5_set_50 : zIl zX5_set 50 1 51 := Or.inl ⟨1, rfl, by decide +kernel, rfl⟩
theorem iX5_set_51 : zIl zX5_set 51 2 52 := Or.inl ⟨2, rfl, by decide +kernel, rfl⟩
theorem iX5_set_52 : zD zX5_set 52 1 (.iastore) 53 := ⟨by decide +kernel, rfl⟩
theorem iX5_set_53 : zD zX5_set 53 1 (.return_) 54 := ⟨by decide +kernel, rfl⟩
theorem iX6_init_0 : zAl zX6_init 0 0 1 := Or.inl ⟨0, rfl, by decide +kernel, rfl⟩
theorem iX6_init_1 : zOi zX6_init 1 4 := ⟨1, by decide +kernel, rfl, zT1_of (i := 136) rfl rfl, zT1_of (i := 25) rfl rfl, zT1_of (i := 26) rfl rfl⟩
theorem iX6_init_4 : zAl zX6_init 4 0 5 := Or.inl ⟨0, rfl, by decide +kernel, rfl⟩
theorem iX6_init_5 : zCo zX6_init 5 (64) 7 := Or.inr (Or.inl ⟨64, by decide, by decide +kernel, rfl⟩)
theorem iX6_init_7 : zD zX6_init 7 2 (.newarray .int) 9 := ⟨by decide +kernel, rfl⟩
theorem iX6_init_9 : zPf zX6_init 9 6 0 (.array .int) 12 := ⟨9, _, _, _, zcf_6, by decide, by decide +kernel, rfl, zT1_of (i := 137) rfl rfl, by decide +kernel, Or.inr ⟨rfl, rfl, rfl⟩⟩
theorem iX6_init_12 : zD zX6_init 12 1 (.return_) 13 := ⟨by decide +kernel, rfl⟩
theorem iX6_clear_0 : zAl zX6_clear 0 0 1 := Or.inl ⟨0, rfl, by decide +kernel, rfl⟩
theorem iX6_clear_1 : zCo zX6_clear 1 (0) 2 := Or.inl ⟨0, by decide, by decide +kernel, rfl⟩
theorem iX6_clear_2 : zPf zX6_clear 2 6 1 .int 5 := ⟨13, _, _, _, zcf_6, by decide, by decide +kernel, rfl, zT1_of (i := 138) rfl rfl, by decide +kernel, Or.inl rfl⟩
theorem iX6_clear_5 : zD zX6_clear 5 1 (.return_) 6 := ⟨by decide +kernel, rfl⟩
theorem iX6_push_0 : zAl zX6_push 0 0 1 := Or.inl ⟨0, rfl, by decide +kernel, rfl⟩
theorem iX6_push_1 : zGf zX6_push 1 6 1 4 := ⟨13, _, _, _, zcf_6, by decide, by decide +kernel, rfl, zT1_of (i := 138) rfl rfl⟩
theorem iX6_push_4 : zCo zX6_push 4 (64) 6 := Or.inr (Or.inl ⟨64, by decide, by decide +kernel, rfl⟩)
theorem iX6_push_6 : zB zX6_push 6 (.if_icmp .ge) 9 29 := ⟨23, by decide +kernel, rfl, by decide⟩
theorem iX6_push_9 : zAl zX6_push 9 0 10 := Or.inl ⟨0, rfl, by decide +kernel, rfl⟩
theorem iX6_push_10 : zGf zX6_push 10 6 0 13 := ⟨9, _, _, _, zcf_6, by decide, by decide +kernel, rfl, zT1_of (i := 137) rfl rfl⟩
theorem iX6_push_13 : zAl zX6_push 13 0 14 := Or.inl ⟨0, rfl, by decide +kernel, rfl⟩
theorem iX6_push_14 : zGf zX6_push 14 6 1 17 := ⟨13, _, _, _, zcf_6, by decide, by decide +kernel, rfl, zT1_of (i := 138) rfl rfl⟩
theorem iX6_push_17 : zIl zX6_push 17 1 18 := Or.inl ⟨1, rfl, by decide +kernel, rfl⟩
theorem iX6_push_18 : zD zX6_push 18 1 (.iastore) 19 := ⟨by decide +kernel, rfl⟩
theorem iX6_push_19 : zAl zX6_push 19 0 20 := Or.inl ⟨0, rfl, by decide +kernel, rfl⟩
theorem iX6_push_20 : zD zX6_push 20 1 (.dup) 21 := ⟨by decide +kernel, rfl⟩
theorem iX6_push_21 : zGf zX6_push 21 6 1 24 := ⟨13, _, _, _, zcf_6, by decide, by decide +kernel, rfl, zT1_of (i := 138) rfl rfl⟩
theorem iX6_push_24 : zCo zX6_push 24 (1) 25 := Or.inl ⟨1, by decide, by decide +kernel, rfl⟩
theorem iX6_push_25 : zD zX6_push 25 1 (.iadd) 26 := ⟨by decide +kernel, rfl⟩
theorem iX6_push_26 : zPf zX6_push 26 6 1 .int 29 := ⟨13, _, _, _, zcf_6, by decide, by decide +kernel, rfl, zT1_of (i := 138) rfl rfl, by decide +kernel, Or.inl rfl⟩
theorem iX6_push_29 : zD zX6_push 29 1 (.return_) 30 := ⟨by decide +kernel, rfl⟩
theorem iX6_pop_0 : zAl zX6_pop 0 0 1 := Or.inl ⟨0, rfl, by decide +kernel, rfl⟩
theorem iX6_pop_1 : zGf zX6_pop 1 6 1 4 := ⟨13, _, _, _, zcf_6, by decide, by decide +kernel, rfl, zT1_of (i := 138) rfl rfl⟩
theorem iX6_pop_4 : zB zX6_pop 4 (.ifCond .gt) 7 9 := ⟨5, by decide +kernel, rfl, by decide⟩
theorem iX6_pop_7 : zCo zX6_pop 7 (0) 8 := Or.inl ⟨0, by decide, by decide +kernel, rfl⟩
theorem iX6_pop_8 : zD zX6_pop 8 1 (.ireturn) 9 := ⟨by decide +kernel, rfl⟩
theorem iX6_pop_9 : zAl zX6_pop 9 0 10 := Or.inl ⟨0, rfl, by decide +kernel, rfl⟩
theorem iX6_pop_10 : zD zX6_pop 10 1 (.dup) 11 := ⟨by decide +kernel, rfl⟩
theorem iX6_pop_11 : zGf zX6_pop 11 6 1 14 := ⟨13, _, _, _, zcf_6, by decide, by decide +kernel, rfl, zT1_of (i := 138) rfl rfl⟩
theorem iX6_pop_14 : zCo zX6_pop 14 (1) 15 := Or.inl ⟨1, by decide, by decide +kernel, rfl⟩
theorem iX6_pop_15 : zD zX6_pop 15 1 (.isub) 16 := ⟨by decide +kernel, rfl⟩
theorem iX6_pop_16 : zPf zX6_pop 16 6 1 .int 19 := ⟨13, _, _, _, zcf_6, by decide, by decide +kernel, rfl, zT1_of (i := 138) rfl rfl, by decide +kernel, Or.inl rfl⟩
theorem iX6_pop_19 : zAl zX6_pop 19 0 20 := Or.inl ⟨0, rfl, by decide +kernel, rfl⟩
theorem iX6_pop_20 : zGf zX6_pop 20 6 0 23 := ⟨9, _, _, _, zcf_6, by decide, by decide +kernel, rfl, zT1_of (i := 137) rfl rfl⟩
theorem iX6_pop_23 : zAl zX6_pop 23 0 24 := Or.inl ⟨0, rfl, by decide +kernel, rfl⟩
theorem iX6_pop_24 : zGf zX6_pop 24 6 1 27 := ⟨13, _, _, _, zcf_6, by decide, by decide +kernel, rfl, zT1_of (i := 138) rfl rfl⟩
theorem iX6_pop_27 : zD zX6_pop 27 1 (.iaload) 28 := ⟨by decide +kernel, rfl⟩
theorem iX6_pop_28 : zD zX6_pop 28 1 (.ireturn) 29 := ⟨by decide +kernel, rfl⟩
theorem iX7_init_0 : zAl zX7_init 0 0 1 := Or.inl ⟨0, rfl, by decide +kernel, rfl⟩
theorem iX7_init_1 : zOi zX7_init 1 4 := ⟨3, by decide +kernel, rfl, zT1_of (i := 90) rfl rfl, zT1_of (i := 25) rfl rfl, zT1_of (i := 26) rfl rfl⟩
theorem iX7_init_4 : zAl zX7_init 4 0 5 := Or.inl ⟨0, rfl, by decide +kernel, rfl⟩
theorem iX7_init_5 : zCo zX7_init 5 (160) 8 := Or.inr (Or.inr (Or.inl ⟨160, by decide, by decide +kernel, rfl⟩))
theorem iX7_init_8 : zD zX7_init 8 2 (.newarray .byte) 10 := ⟨by decide +kernel, rfl⟩
theorem iX7_init_10 : zPf zX7_init 10 7 0 (.array .byte) 13 := ⟨9, _, _, _, zcf_7, by decide, by decide +kernel, rfl, zT1_of (i := 91) rfl rfl, by decide +kernel, Or.inr ⟨rfl, rfl, rfl⟩⟩
theorem iX7_init_13 : zAl zX7_init 13 0 14 := Or.inl ⟨0, rfl, by decide +kernel, rfl⟩
theorem iX7_init_14 : zCo zX7_init 14 (160) 17 := Or.inr (Or.inr (Or.inl ⟨160, by decide, by decide +kernel, rfl⟩))
theorem iX7_init_17 : zD zX7_init 17 2 (.newarray .int) 19 := ⟨by decide +kernel, rfl⟩
theorem iX7_init_19 : zPf zX7_init 19 7 1 (.array .int) 22 := ⟨15, _, _, _, zcf_7, by decide, by decide +kernel, rfl, zT1_of (i := 92) rfl rfl, by decide +kernel, Or.inr ⟨rfl, rfl, rfl⟩⟩
theorem iX7_init_22 : zAl zX7_init 22 0 23 := Or.inl ⟨0, rfl, by decide +kernel, rfl⟩
theorem iX7_init_23 : zCo zX7_init 23 (160) 26 := Or.inr (Or.inr (Or.inl ⟨160, by decide, by decide +kernel, rfl⟩))
theorem iX7_init_26 : zD zX7_init 26 2 (.newarray .int) 28 := ⟨by decide +kernel, rfl⟩
theorem iX7_init_28 : zPf zX7_init 28 7 2 (.array .int) 31 := ⟨19, _, _, _, zcf_7, by decide, by decide +kernel, rfl, zT1_of (i := 93) rfl rfl, by decide +kernel, Or.inr ⟨rfl, rfl, rfl⟩⟩
theorem iX7_init_31 : zD zX7_init 31 1 (.return_) 32 := ⟨by decide +kernel, rfl⟩
theorem iX7_add_0 : zAl zX7_add 0 0 1 := Or.inl ⟨0, rfl, by decide +kernel, rfl⟩
theorem iX7_add_1 : zGf zX7_add 1 7 3 4 := ⟨22, _, _, _, zcf_7, by decide, by decide +kernel, rfl, zT1_of (i := 94) rfl rfl⟩
theorem iX7_add_4 : zCo zX7_add 4 (160) 7 := Or.inr (Or.inr (Or.inl ⟨160, by decide, by decide +kernel, rfl⟩))
theorem iX7_add_7 : zB zX7_add 7 (.if_icmp .ge) 10 30 := ⟨23, by decide +kernel, rfl, by decide⟩
theorem iX7_add_10 : zAl zX7_add 10 0 11 := Or.inl ⟨0, rfl, by decide +kernel, rfl⟩
theorem iX7_add_11 : zGf zX7_add 11 7 0 14 := ⟨9, _, _, _, zcf_7, by decide, by decide +kernel, rfl, zT1_of (i := 91) rfl rfl⟩
theorem iX7_add_14 : zAl zX7_add 14 0 15 := Or.inl ⟨0, rfl, by decide +kernel, rfl⟩
theorem iX7_add_15 : zGf zX7_add 15 7 3 18 := ⟨22, _, _, _, zcf_7, by decide, by decide +kernel, rfl, zT1_of (i := 94) rfl rfl⟩
theorem iX7_add_18 : zIl zX7_add 18 1 19 := Or.inl ⟨1, rfl, by decide +kernel, rfl⟩
theorem iX7_add_19 : zD zX7_add 19 1 (.bastore) 20 := ⟨by decide +kernel, rfl⟩
theorem iX7_add_20 : zAl zX7_add 20 0 21 := Or.inl ⟨0, rfl, by decide +kernel, rfl⟩
theorem iX7_add_21 : zD zX7_add 21 1 (.dup) 22 := ⟨by decide +kernel, rfl⟩
theorem iX7_add_22 : zGf zX7_add 22 7 3 25 := ⟨22, _, _, _, zcf_7, by decide, by decide +kernel, rfl, zT1_of (i := 94) rfl rfl⟩
theorem iX7_add_25 : zCo zX7_add 25 (1) 26 := Or.inl ⟨1, by decide, by decide +kernel, rfl⟩
theorem iX7_add_26 : zD zX7_add 26 1 (.iadd) 27 := ⟨by decide +kernel, rfl⟩
theorem iX7_add_27 : zPf zX7_add 27 7 3 .int 30 := ⟨22, _, _, _, zcf_7, by decide, by decide +kernel, rfl, zT1_of (i := 94) rfl rfl, by decide +kernel, Or.inl rfl⟩
theorem iX7_add_30 : zD zX7_add 30 1 (.return_) 31 := ⟨by decide +kernel, rfl⟩
theorem iX7_empty_0 : zAl zX7_empty 0 0 1 := Or.inl ⟨0, rfl, by decide +kernel, rfl⟩
theorem iX7_empty_1 : zCo zX7_empty 1 (0) 2 := Or.inl ⟨0, by decide, by decide +kernel, rfl⟩
theorem iX7_empty_2 : zPf zX7_empty 2 7 3 .int 5 := ⟨22, _, _, _, zcf_7, by decide, by decide +kernel, rfl, zT1_of (i := 94) rfl rfl, by decide +kernel, Or.inl rfl⟩
theorem iX7_empty_5 : zD zX7_empty 5 1 (.return_) 6 := ⟨by decide +kernel, rfl⟩
theorem iX7_split_0 : zAl zX7_split 0 0 1 := Or.inl ⟨0, rfl, by decide +kernel, rfl⟩
theorem iX7_split_1 : zCo zX7_split 1 (0) 2 := Or.inl ⟨0, by decide, by decide +kernel, rfl⟩
theorem iX7_split_2 : zPf zX7_split 2 7 4 .int 5 := ⟨26, _, _, _, zcf_7, by decide, by decide +kernel, rfl, zT1_of (i := 96) rfl rfl, by decide +kernel, Or.inl rfl⟩
theorem iX7_split_5 : zCo zX7_split 5 (0) 6 := Or.inl ⟨0, by decide, by decide +kernel, rfl⟩
theorem iX7_split_6 : zIs zX7_split 6 1 7 := ⟨by decide, Or.inl ⟨1, rfl, by decide +kernel, rfl⟩⟩
theorem iX7_split_7 : zIl zX7_split 7 1 8 := Or.inl ⟨1, rfl, by decide +kernel, rfl⟩
theorem iX7_split_8 : zAl zX7_split 8 0 9 := Or.inl ⟨0, rfl, by decide +kernel, rfl⟩
theorem iX7_split_9 : zGf zX7_split 9 7 3 12 := ⟨22, _, _, _, zcf_7, by decide, by decide +kernel, rfl, zT1_of (i := 94) rfl rfl⟩
theorem iX7_split_12 : zB zX7_split 12 (.if_icmp .ge) 15 39 := ⟨27, by decide +kernel, rfl, by decide⟩
theorem iX7_split_15 : zAl zX7_split 15 0 16 := Or.inl ⟨0, rfl, by decide +kernel, rfl⟩
theorem iX7_split_16 : zIl zX7_split 16 1 17 := Or.inl ⟨1, rfl, by decide +kernel, rfl⟩
theorem iX7_split_17 : zCl zX7_split 17 .invokevirtual zX7_isBegin 20 := ⟨29, by decide +kernel, rfl, Or.inl (zT2_of (i := 10) rfl rfl)⟩
theorem iX7_split_20 : zB zX7_split 20 (.ifCond .eq) 23 33 := ⟨13, by decide +kernel, rfl, by decide⟩
theorem iX7_split_23 : zAl zX7_split 23 0 24 := Or.inl ⟨0, rfl, by decide +kernel, rfl⟩
theorem iX7_split_24 : zAl zX7_split 24 0 25 := Or.inl ⟨0, rfl, by decide +kernel, rfl⟩
theorem iX7_split_25 : zIl zX7_split 25 1 26 := Or.inl ⟨1, rfl, by decide +kernel, rfl⟩
theorem iX7_split_26 : zCl zX7_split 26 .invokevirtual zX7_tokenFrom 29 := ⟨33, by decide +kernel, rfl, Or.inl (zT2_of (i := 27) rfl rfl)⟩
theorem iX7_split_29 : zIl zX7_split 29 1 30 := Or.inl ⟨1, rfl, by decide +kernel, rfl⟩
theorem iX7_split_30 : zCl zX7_split 30 .invokevirtual zX7_keep 33 := ⟨37, by decide +kernel, rfl, Or.inl (zT2_of (i := 60) rfl rfl)⟩
theorem iX7_split_33 : zIn zX7_split 33 1 (1) 36 := ⟨by decide, 1, by decide, by decide +kernel, rfl⟩
theorem iX7_split_36 : zB zX7_split 36 .goto 39 7 := ⟨-29, by decide +kernel, rfl, by decide⟩
theorem iX7_split_39 : zD zX7_split 39 1 (.return_) 40 := ⟨by decide +kernel, rfl⟩
theorem iX7_keep_0 : zAl zX7_keep 0 0 1 := Or.inl ⟨0, rfl, by decide +kernel, rfl⟩
theorem iX7_keep_1 : zGf zX7_keep 1 7 4 4 := ⟨26, _, _, _, zcf_7, by decide, by decide +kernel, rfl, zT1_of (i := 96) rfl rfl⟩
theorem iX7_keep_4 : zCo zX7_keep 4 (160) 7 := Or.inr (Or.inr (Or.inl ⟨160, by decide, by decide +kernel, rfl⟩))
theorem iX7_keep_7 : zB zX7_keep 7 (.if_icmp .ge) 10 40 := ⟨33, by decide +kernel, rfl, by decide⟩
theorem iX7_keep_10 : zAl zX7_keep 10 0 11 := Or.inl ⟨0, rfl, by decide +kernel, rfl⟩
theorem iX7_keep_11 : zGf zX7_keep 11 7 1 14 := ⟨15, _, _, _, zcf_7, by decide, by decide +kernel, rfl, zT1_of (i := 92) rfl rfl⟩
theorem iX7_keep_14 : zAl zX7_keep 14 0 15 := Or.inl ⟨0, rfl, by decide +kernel, rfl⟩
theorem iX7_keep_15 : zGf zX7_keep 15 7 4 18 := ⟨26, _, _, _, zcf_7, by decide, by decide +kernel, rfl, zT1_of (i := 96) rfl rfl⟩
theorem iX7_keep_18 : zIl zX7_keep 18 1 19 := Or.inl ⟨1, rfl, by decide +kernel, rfl⟩
theorem iX7_keep_19 : zD zX7_keep 19 1 (.iastore) 20 := ⟨by decide +kernel, rfl⟩
theorem iX7_keep_20 : zAl zX7_keep 20 0 21 := Or.inl ⟨0, rfl, by decide +kernel, rfl⟩
theorem iX7_keep_21 : zGf zX7_keep 21 7 2 24 := ⟨19, _, _, _, zcf_7, by decide, by decide +kernel, rfl, zT1_of (i := 93) rfl rfl⟩
theorem iX7_keep_24 : zAl zX7_keep 24 0 25 := Or.inl ⟨0, rfl, by decide +kernel, rfl⟩
theorem iX7_keep_25 : zGf zX7_keep 25 7 4 28 := ⟨26, _, _, _, zcf_7, by decide, by decide +kernel, rfl, zT1_of (i := 96) rfl rfl⟩
theorem iX7_keep_28 : zIl zX7_keep 28 2 29 := Or.inl ⟨2, rfl, by decide +kernel, rfl⟩
theorem iX7_keep_29 : zD zX7_keep 29 1 (.iastore) 30 := ⟨by decide +kernel, rfl⟩
theorem iX7_keep_30 : zAl zX7_keep 30 0 31 := Or.inl ⟨0, rfl, by decide +kernel, rfl⟩
theorem iX7_keep_31 : zD zX7_keep 31 1 (.dup) 32 := ⟨by decide +kernel, rfl⟩
theorem iX7_keep_32 : zGf zX7_keep 32 7 4 35 := ⟨26, _, _, _, zcf_7, by decide, by decide +kernel, rfl, zT1_of (i := 96) rfl rfl⟩
theorem iX7_keep_35 : zCo zX7_keep 35 (1) 36 := Or.inl ⟨1, by decide, by decide +kernel, rfl⟩
theorem iX7_keep_36 : zD zX7_keep 36 1 (.iadd) 37 := ⟨by decide +kernel, rfl⟩
theorem iX7_keep_37 : zPf zX7_keep 37 7 4 .int 40 := ⟨26, _, _, _, zcf_7, by decide, by decide +kernel, rfl, zT1_of (i := 96) rfl rfl, by decide +kernel, Or.inl rfl⟩
theorem iX7_keep_40 : zD zX7_keep 40 1 (.return_) 41 := ⟨by decide +kernel, rfl⟩
theorem iX7_tokenAt_0 : zIl zX7_tokenAt 0 1 1 := Or.inl ⟨1, rfl, by decide +kernel, rfl⟩
theorem iX7_tokenAt_1 : zB zX7_tokenAt 1 (.ifCond .lt) 4 28 := ⟨27, by decide +kernel, rfl, by decide⟩
theorem iX7_tokenAt_4 : zIl zX7_tokenAt 4 1 5 := Or.inl ⟨1, rfl, by decide +kernel, rfl⟩
theorem iX7_tokenAt_5 : zAl zX7_tokenAt 5 0 6 := Or.inl ⟨0, rfl, by decide +kernel, rfl⟩
theorem iX7_tokenAt_6 : zGf zX7_tokenAt 6 7 4 9 := ⟨26, _, _, _, zcf_7, by decide, by decide +kernel, rfl, zT1_of (i := 96) rfl rfl⟩
theorem iX7_tokenAt_9 : zB zX7_tokenAt 9 (.if_icmp .ge) 12 28 := ⟨19, by decide +kernel, rfl, by decide⟩
theorem iX7_tokenAt_12 : zIl zX7_tokenAt 12 1 13 := Or.inl ⟨1, rfl, by decide +kernel, rfl⟩
theorem iX7_tokenAt_13 : zCo zX7_tokenAt 13 (160) 16 := Or.inr (Or.inr (Or.inl ⟨160, by decide, by decide +kernel, rfl⟩))
theorem iX7_tokenAt_16 : zB zX7_tokenAt 16 (.if_icmp .ge) 19 28 := ⟨12, by decide +kernel, rfl, by decide⟩
theorem iX7_tokenAt_19 : zAl zX7_tokenAt 19 0 20 := Or.inl ⟨0, rfl, by decide +kernel, rfl⟩
theorem iX7_tokenAt_20 : zGf zX7_tokenAt 20 7 1 23 := ⟨15, _, _, _, zcf_7, by decide, by decide +kernel, rfl, zT1_of (i := 92) rfl rfl⟩
theorem iX7_tokenAt_23 : zIl zX7_tokenAt 23 1 24 := Or.inl ⟨1, rfl, by decide +kernel, rfl⟩
theorem iX7_tokenAt_24 : zD zX7_tokenAt 24 1 (.iaload) 25 := ⟨by decide +kernel, rfl⟩
theorem iX7_tokenAt_25 : zB zX7_tokenAt 25 .goto 28 30 := ⟨5, by decide +kernel, rfl, by decide⟩
theorem iX7_tokenAt_28 : zCo zX7_tokenAt 28 (-20) 30 := Or.inr (Or.inl ⟨-20, by decide, by decide +kernel, rfl⟩)
theorem iX7_tokenAt_30 : zD zX7_tokenAt 30 1 (.ireturn) 31 := ⟨by decide +kernel, rfl⟩
theorem iX7_placeAt_0 : zIl zX7_placeAt 0 1 1 := Or.inl ⟨1, rfl, by decide +kernel, rfl⟩
theorem iX7_placeAt_1 : zB zX7_placeAt 1 (.ifCond .lt) 4 28 := ⟨27, by decide +kernel, rfl, by decide⟩
theorem iX7_placeAt_4 : zIl zX7_placeAt 4 1 5 := Or.inl ⟨1, rfl, by decide +kernel, rfl⟩
theorem iX7_placeAt_5 : zAl zX7_placeAt 5 0 6 := Or.inl ⟨0, rfl, by decide +kernel, rfl⟩
theorem iX7_placeAt_6 : zGf zX7_placeAt 6 7 4 9 := ⟨26, _, _, _, zcf_7, by decide, by decide +kernel, rfl, zT1_of (i := 96) rfl rfl⟩
theorem iX7_placeAt_9 : zB zX7_placeAt 9 (.if_icmp .ge) 12 28 := ⟨19, by decide +kernel, rfl, by decide⟩
theorem iX7_placeAt_12 : zIl zX7_placeAt 12 1 13 := Or.inl ⟨1, rfl, by decide +kernel, rfl⟩
theorem iX7_placeAt_13 : zCo zX7_placeAt 13 (160) 16 := Or.inr (Or.inr (Or.inl ⟨160, by decide, by decide +kernel, rfl⟩))
theorem iX7_placeAt_16 : zB zX7_placeAt 16 (.if_icmp .ge) 19 28 := ⟨12, by decide +kernel, rfl, by decide⟩
theorem iX7_placeAt_19 : zAl zX7_placeAt 19 0 20 := Or.inl ⟨0, rfl, by decide +kernel, rfl⟩
theorem iX7_placeAt_20 : zGf zX7_placeAt 20 7 2 23 := ⟨19, _, _, _, zcf_7, by decide, by decide +kernel, rfl, zT1_of (i := 93) rfl rfl⟩
theorem iX7_placeAt_23 : zIl zX7_placeAt 23 1 24 := Or.inl ⟨1, rfl, by decide +kernel, rfl⟩
theorem iX7_placeAt_24 : zD zX7_placeAt 24 1 (.iaload) 25 := ⟨by decide +kernel, rfl⟩
theorem iX7_placeAt_25 : zB zX7_placeAt 25 .goto 28 32 := ⟨7, by decide +kernel, rfl, by decide⟩
theorem iX7_placeAt_28 : zAl zX7_placeAt 28 0 29 := Or.inl ⟨0, rfl, by decide +kernel, rfl⟩
theorem iX7_placeAt_29 : zGf zX7_placeAt 29 7 3 32 := ⟨22, _, _, _, zcf_7, by decide, by decide +kernel, rfl, zT1_of (i := 94) rfl rfl⟩
theorem iX7_placeAt_32 : zD zX7_placeAt 32 1 (.ireturn) 33 := ⟨by decide +kernel, rfl⟩
theorem iX7_byteAt_0 : zIl zX7_byteAt 0 1 1 := Or.inl ⟨1, rfl, by decide +kernel, rfl⟩
theorem iX7_byteAt_1 : zB zX7_byteAt 1 (.ifCond .lt) 4 28 := ⟨27, by decide +kernel, rfl, by decide⟩
theorem iX7_byteAt_4 : zIl zX7_byteAt 4 1 5 := Or.inl ⟨1, rfl, by decide +kernel, rfl⟩
theorem iX7_byteAt_5 : zAl zX7_byteAt 5 0 6 := Or.inl ⟨0, rfl, by decide +kernel, rfl⟩
theorem iX7_byteAt_6 : zGf zX7_byteAt 6 7 3 9 := ⟨22, _, _, _, zcf_7, by decide, by decide +kernel, rfl, zT1_of (i := 94) rfl rfl⟩
theorem iX7_byteAt_9 : zB zX7_byteAt 9 (.if_icmp .ge) 12 28 := ⟨19, by decide +kernel, rfl, by decide⟩
theorem iX7_byteAt_12 : zIl zX7_byteAt 12 1 13 := Or.inl ⟨1, rfl, by decide +kernel, rfl⟩
theorem iX7_byteAt_13 : zCo zX7_byteAt 13 (160) 16 := Or.inr (Or.inr (Or.inl ⟨160, by decide, by decide +kernel, rfl⟩))
theorem iX7_byteAt_16 : zB zX7_byteAt 16 (.if_icmp .ge) 19 28 := ⟨12, by decide +kernel, rfl, by decide⟩
theorem iX7_byteAt_19 : zAl zX7_byteAt 19 0 20 := Or.inl ⟨0, rfl, by decide +kernel, rfl⟩
theorem iX7_byteAt_20 : zGf zX7_byteAt 20 7 0 23 := ⟨9, _, _, _, zcf_7, by decide, by decide +kernel, rfl, zT1_of (i := 91) rfl rfl⟩
theorem iX7_byteAt_23 : zIl zX7_byteAt 23 1 24 := Or.inl ⟨1, rfl, by decide +kernel, rfl⟩
theorem iX7_byteAt_24 : zD zX7_byteAt 24 1 (.baload) 25 := ⟨by decide +kernel, rfl⟩
theorem iX7_byteAt_25 : zB zX7_byteAt 25 .goto 28 29 := ⟨4, by decide +kernel, rfl, by decide⟩
theorem iX7_byteAt_28 : zCo zX7_byteAt 28 (0) 29 := Or.inl ⟨0, by decide, by decide +kernel, rfl⟩
theorem iX7_byteAt_29 : zD zX7_byteAt 29 1 (.ireturn) 30 := ⟨by decide +kernel, rfl⟩
theorem iX7_isBegin_0 : zAl zX7_isBegin 0 0 1 := Or.inl ⟨0, rfl, by decide +kernel, rfl⟩
theorem iX7_isBegin_1 : zIl zX7_isBegin 1 1 2 := Or.inl ⟨1, rfl, by decide +kernel, rfl⟩
theorem iX7_isBegin_2 : zCl zX7_isBegin 2 .invokevirtual zX7_byteAt 5 := ⟨41, by decide +kernel, rfl, Or.inl (zT2_of (i := 14) rfl rfl)⟩
theorem iX7_isBegin_5 : zIs zX7_isBegin 5 2 6 := ⟨by decide, Or.inl ⟨2, rfl, by decide +kernel, rfl⟩⟩
theorem iX7_isBegin_6 : zIl zX7_isBegin 6 2 7 := Or.inl ⟨2, rfl, by decide +kernel, rfl⟩
theorem iX7_isBegin_7 : zCo zX7_isBegin 7 (32) 9 := Or.inr (Or.inl ⟨32, by decide, by decide +kernel, rfl⟩)
theorem iX7_isBegin_9 : zB zX7_isBegin 9 (.if_icmp .eq) 12 36 := ⟨27, by decide +kernel, rfl, by decide⟩
theorem iX7_isBegin_12 : zIl zX7_isBegin 12 2 13 := Or.inl ⟨2, rfl, by decide +kernel, rfl⟩
theorem iX7_isBegin_13 : zCo zX7_isBegin 13 (10) 15 := Or.inr (Or.inl ⟨10, by decide, by decide +kernel, rfl⟩)
theorem iX7_isBegin_15 : zB zX7_isBegin 15 (.if_icmp .eq) 18 36 := ⟨21, by decide +kernel, rfl, by decide⟩
theorem iX7_isBegin_18 : zAl zX7_isBegin 18 0 19 := Or.inl ⟨0, rfl, by decide +kernel, rfl⟩
theorem iX7_isBegin_19 : zIl zX7_isBegin 19 1 20 := Or.inl ⟨1, rfl, by decide +kernel, rfl⟩
theorem iX7_isBegin_20 : zCo zX7_isBegin 20 (1) 21 := Or.inl ⟨1, by decide, by decide +kernel, rfl⟩
theorem iX7_isBegin_21 : zD zX7_isBegin 21 1 (.isub) 22 := ⟨by decide +kernel, rfl⟩
theorem iX7_isBegin_22 : zCl zX7_isBegin 22 .invokevirtual zX7_byteAt 25 := ⟨41, by decide +kernel, rfl, Or.inl (zT2_of (i := 14) rfl rfl)⟩
theorem iX7_isBegin_25 : zIl zX7_isBegin 25 2 26 := Or.inl ⟨2, rfl, by decide +kernel, rfl⟩
theorem iX7_isBegin_26 : zCl zX7_isBegin 26 .invokestatic zX7_isOneRun 29 := ⟨44, by decide +kernel, rfl, Or.inl (zT2_of (i := 18) rfl rfl)⟩
theorem iX7_isBegin_29 : zB zX7_isBegin 29 (.ifCond .ne) 32 36 := ⟨7, by decide +kernel, rfl, by decide⟩
theorem iX7_isBegin_32 : zCo zX7_isBegin 32 (1) 33 := Or.inl ⟨1, by decide, by decide +kernel, rfl⟩
theorem iX7_isBegin_33 : zB zX7_isBegin 33 .goto 36 37 := ⟨4, by decide +kernel, rfl, by decide⟩
theorem iX7_isBegin_36 : zCo zX7_isBegin 36 (0) 37 := Or.inl ⟨0, by decide, by decide +kernel, rfl⟩
theorem iX7_isBegin_37 : zD zX7_isBegin 37 1 (.ireturn) 38 := ⟨by decide +kernel, rfl⟩
theorem iX7_isOneRun_0 : zIl zX7_isOneRun 0 0 1 := Or.inl ⟨0, rfl, by decide +kernel, rfl⟩
theorem iX7_isOneRun_1 : zCl zX7_isOneRun 1 .invokestatic zX7_isLetter 4 := ⟨48, by decide +kernel, rfl, Or.inl (zT2_of (i := 21) rfl rfl)⟩
theorem iX7_isOneRun_4 : zB zX7_isOneRun 4 (.ifCond .eq) 7 14 := ⟨10, by decide +kernel, rfl, by decide⟩
theorem iX7_isOneRun_7 : zIl zX7_isOneRun 7 1 8 := Or.inl ⟨1, rfl, by decide +kernel, rfl⟩
theorem iX7_isOneRun_8 : zCl zX7_isOneRun 8 .invokestatic zX7_isLetter 11 := ⟨48, by decide +kernel, rfl, Or.inl (zT2_of (i := 21) rfl rfl)⟩
theorem iX7_isOneRun_11 : zB zX7_isOneRun 11 (.ifCond .ne) 14 28 := ⟨17, by decide +kernel, rfl, by decide⟩
theorem iX7_isOneRun_14 : zIl zX7_isOneRun 14 0 15 := Or.inl ⟨0, rfl, by decide +kernel, rfl⟩
theorem iX7_isOneRun_15 : zCl zX7_isOneRun 15 .invokestatic zX7_isDigit 18 := ⟨51, by decide +kernel, rfl, Or.inl (zT2_of (i := 24) rfl rfl)⟩
theorem iX7_isOneRun_18 : zB zX7_isOneRun 18 (.ifCond .eq) 21 32 := ⟨14, by decide +kernel, rfl, by decide⟩
theorem iX7_isOneRun_21 : zIl zX7_isOneRun 21 1 22 := Or.inl ⟨1, rfl, by decide +kernel, rfl⟩
theorem iX7_isOneRun_22 : zCl zX7_isOneRun 22 .invokestatic zX7_isDigit 25 := ⟨51, by decide +kernel, rfl, Or.inl (zT2_of (i := 24) rfl rfl)⟩
theorem iX7_isOneRun_25 : zB zX7_isOneRun 25 (.ifCond .eq) 28 32 := ⟨7, by decide +kernel, rfl, by decide⟩
theorem iX7_isOneRun_28 : zCo zX7_isOneRun 28 (1) 29 := Or.inl ⟨1, by decide, by decide +kernel, rfl⟩
theorem iX7_isOneRun_29 : zB zX7_isOneRun 29 .goto 32 33 := ⟨4, by decide +kernel, rfl, by decide⟩
theorem iX7_isOneRun_32 : zCo zX7_isOneRun 32 (0) 33 := Or.inl ⟨0, by decide, by decide +kernel, rfl⟩
theorem iX7_isOneRun_33 : zD zX7_isOneRun 33 1 (.ireturn) 34 := ⟨by decide +kernel, rfl⟩
theorem iX7_isLetter_0 : zIl zX7_isLetter 0 0 1 := Or.inl ⟨0, rfl, by decide +kernel, rfl⟩
theorem iX7_isLetter_1 : zCo zX7_isLetter 1 (97) 3 := Or.inr (Or.inl ⟨97, by decide, by decide +kernel, rfl⟩)
theorem iX7_isLetter_3 : zB zX7_isLetter 3 (.if_icmp .lt) 6 16 := ⟨13, by decide +kernel, rfl, by decide⟩
theorem iX7_isLetter_6 : zIl zX7_isLetter 6 0 7 := Or.inl ⟨0, rfl, by decide +kernel, rfl⟩
theorem iX7_isLetter_7 : zCo zX7_isLetter 7 (122) 9 := Or.inr (Or.inl ⟨122, by decide, by decide +kernel, rfl⟩)
theorem iX7_isLetter_9 : zB zX7_isLetter 9 (.if_icmp .gt) 12 16 := ⟨7, by decide +kernel, rfl, by decide⟩
theorem iX7_isLetter_12 : zCo zX7_isLetter 12 (1) 13 := Or.inl ⟨1, by decide, by decide +kernel, rfl⟩
theorem iX7_isLetter_13 : zB zX7_isLetter 13 .goto 16 17 := ⟨4, by decide +kernel, rfl, by decide⟩
theorem iX7_isLetter_16 : zCo zX7_isLetter 16 (0) 17 := Or.inl ⟨0, by decide, by decide +kernel, rfl⟩
theorem iX7_isLetter_17 : zD zX7_isLetter 17 1 (.ireturn) 18 := ⟨by decide +kernel, rfl⟩
theorem iX7_isDigit_0 : zIl zX7_isDigit 0 0 1 := Or.inl ⟨0, rfl, by decide +kernel, rfl⟩
theorem iX7_isDigit_1 : zCo zX7_isDigit 1 (48) 3 := Or.inr (Or.inl ⟨48, by decide, by decide +kernel, rfl⟩)
theorem iX7_isDigit_3 : zB zX7_isDigit 3 (.if_icmp .lt) 6 16 := ⟨13, by decide +kernel, rfl, by decide⟩
theorem iX7_isDigit_6 : zIl zX7_isDigit 6 0 7 := Or.inl ⟨0, rfl, by decide +kernel, rfl⟩
theorem iX7_isDigit_7 : zCo zX7_isDigit 7 (57) 9 := Or.inr (Or.inl ⟨57, by decide, by decide +kernel, rfl⟩)
theorem iX7_isDigit_9 : zB zX7_isDigit 9 (.if_icmp .gt) 12 16 := ⟨7, by decide +kernel, rfl, by decide⟩
theorem iX7_isDigit_12 : zCo zX7_isDigit 12 (1) 13 := Or.inl ⟨1, by decide, by decide +kernel, rfl⟩
theorem iX7_isDigit_13 : zB zX7_isDigit 13 .goto 16 17 := ⟨4, by decide +kernel, rfl, by decide⟩
theorem iX7_isDigit_16 : zCo zX7_isDigit 16 (0) 17 := Or.inl ⟨0, by decide, by decide +kernel, rfl⟩
theorem iX7_isDigit_17 : zD zX7_isDigit 17 1 (.ireturn) 18 := ⟨by decide +kernel, rfl⟩
theorem iX7_tokenFrom_0 : zAl zX7_tokenFrom 0 0 1 := Or.inl ⟨0, rfl, by decide +kernel, rfl⟩
theorem iX7_tokenFrom_1 : zIl zX7_tokenFrom 1 1 2 := Or.inl ⟨1, rfl, by decide +kernel, rfl⟩
theorem iX7_tokenFrom_2 : zCl zX7_tokenFrom 2 .invokevirtual zX7_byteAt 5 := ⟨41, by decide +kernel, rfl, Or.inl (zT2_of (i := 14) rfl rfl)⟩
theorem iX7_tokenFrom_5 : zIs zX7_tokenFrom 5 2 6 := ⟨by decide, Or.inl ⟨2, rfl, by decide +kernel, rfl⟩⟩
theorem iX7_tokenFrom_6 : zIl zX7_tokenFrom 6 1 7 := Or.inl ⟨1, rfl, by decide +kernel, rfl⟩
theorem iX7_tokenFrom_7 : zCo zX7_tokenFrom 7 (1) 8 := Or.inl ⟨1, by decide, by decide +kernel, rfl⟩
theorem iX7_tokenFrom_8 : zD zX7_tokenFrom 8 1 (.iadd) 9 := ⟨by decide +kernel, rfl⟩
theorem iX7_tokenFrom_9 : zIs zX7_tokenFrom 9 3 10 := ⟨by decide, Or.inl ⟨3, rfl, by decide +kernel, rfl⟩⟩
theorem iX7_tokenFrom_10 : zIl zX7_tokenFrom 10 3 11 := Or.inl ⟨3, rfl, by decide +kernel, rfl⟩
theorem iX7_tokenFrom_11 : zAl zX7_tokenFrom 11 0 12 := Or.inl ⟨0, rfl, by decide +kernel, rfl⟩
theorem iX7_tokenFrom_12 : zGf zX7_tokenFrom 12 7 3 15 := ⟨22, _, _, _, zcf_7, by decide, by decide +kernel, rfl, zT1_of (i := 94) rfl rfl⟩
theorem iX7_tokenFrom_15 : zB zX7_tokenFrom 15 (.if_icmp .ge) 18 36 := ⟨21, by decide +kernel, rfl, by decide⟩
theorem iX7_tokenFrom_18 : zIl zX7_tokenFrom 18 2 19 := Or.inl ⟨2, rfl, by decide +kernel, rfl⟩
theorem iX7_tokenFrom_19 : zAl zX7_tokenFrom 19 0 20 := Or.inl ⟨0, rfl, by decide +kernel, rfl⟩
theorem iX7_tokenFrom_20 : zIl zX7_tokenFrom 20 3 21 := Or.inl ⟨3, rfl, by decide +kernel, rfl⟩
theorem iX7_tokenFrom_21 : zCl zX7_tokenFrom 21 .invokevirtual zX7_byteAt 24 := ⟨41, by decide +kernel, rfl, Or.inl (zT2_of (i := 14) rfl rfl)⟩
theorem iX7_tokenFrom_24 : zCl zX7_tokenFrom 24 .invokestatic zX7_isOneRun 27 := ⟨44, by decide +kernel, rfl, Or.inl (zT2_of (i := 18) rfl rfl)⟩
theorem iX7_tokenFrom_27 : zB zX7_tokenFrom 27 (.ifCond .eq) 30 36 := ⟨9, by decide +kernel, rfl, by decide⟩
theorem iX7_tokenFrom_30 : zIn zX7_tokenFrom 30 3 (1) 33 := ⟨by decide, 1, by decide, by decide +kernel, rfl⟩
theorem iX7_tokenFrom_33 : zB zX7_tokenFrom 33 .goto 36 10 := ⟨-23, by decide +kernel, rfl, by decide⟩
theorem iX7_tokenFrom_36 : zIl zX7_tokenFrom 36 2 37 := Or.inl ⟨2, rfl, by decide +kernel, rfl⟩
theorem iX7_tokenFrom_37 : zCl zX7_tokenFrom 37 .invokestatic zX7_isLetter 40 := ⟨48, by decide +kernel, rfl, Or.inl (zT2_of (i := 21) rfl rfl)⟩
theorem iX7_tokenFrom_40 : zB zX7_tokenFrom 40 (.ifCond .eq) 43 52 := ⟨12, by decide +kernel, rfl, by decide⟩
theorem iX7_tokenFrom_43 : zAl zX7_tokenFrom 43 0 44 := Or.inl ⟨0, rfl, by decide +kernel, rfl⟩
theorem iX7_tokenFrom_44 : zIl zX7_tokenFrom 44 1 45 := Or.inl ⟨1, rfl, by decide +kernel, rfl⟩
theorem iX7_tokenFrom_45 : zIl zX7_tokenFrom 45 3 46 := Or.inl ⟨3, rfl, by decide +kernel, rfl⟩
theorem iX7_tokenFrom_46 : zIl zX7_tokenFrom 46 1 47 := Or.inl ⟨1, rfl, by decide +kernel, rfl⟩
theorem iX7_tokenFrom_47 : zD zX7_tokenFrom 47 1 (.isub) 48 := ⟨by decide +kernel, rfl⟩
theorem iX7_tokenFrom_48 : zCl zX7_tokenFrom 48 .invokevirtual zX7_wordOf 51 := ⟨54, by decide +kernel, rfl, Or.inl (zT2_of (i := 31) rfl rfl)⟩
theorem iX7_tokenFrom_51 : zD zX7_tokenFrom 51 1 (.ireturn) 52 := ⟨by decide +kernel, rfl⟩
theorem iX7_tokenFrom_52 : zIl zX7_tokenFrom 52 2 53 := Or.inl ⟨2, rfl, by decide +kernel, rfl⟩
theorem iX7_tokenFrom_53 : zCl zX7_tokenFrom 53 .invokestatic zX7_isDigit 56 := ⟨51, by decide +kernel, rfl, Or.inl (zT2_of (i := 24) rfl rfl)⟩
theorem iX7_tokenFrom_56 : zB zX7_tokenFrom 56 (.ifCond .eq) 59 68 := ⟨12, by decide +kernel, rfl, by decide⟩
theorem iX7_tokenFrom_59 : zAl zX7_tokenFrom 59 0 60 := Or.inl ⟨0, rfl, by decide +kernel, rfl⟩
theorem iX7_tokenFrom_60 : zIl zX7_tokenFrom 60 1 61 := Or.inl ⟨1, rfl, by decide +kernel, rfl⟩
theorem iX7_tokenFrom_61 : zIl zX7_tokenFrom 61 3 62 := Or.inl ⟨3, rfl, by decide +kernel, rfl⟩
theorem iX7_tokenFrom_62 : zIl zX7_tokenFrom 62 1 63 := Or.inl ⟨1, rfl, by decide +kernel, rfl⟩
theorem iX7_tokenFrom_63 : zD zX7_tokenFrom 63 1 (.isub) 64 := ⟨by decide +kernel, rfl⟩
theorem iX7_tokenFrom_64 : zCl zX7_tokenFrom 64 .invokevirtual zX7_numberOf 67 := ⟨58, by decide +kernel, rfl, Or.inl (zT2_of (i := 53) rfl rfl)⟩
theorem iX7_tokenFrom_67 : zD zX7_tokenFrom 67 1 (.ireturn) 68 := ⟨by decide +kernel, rfl⟩
theorem iX7_tokenFrom_68 : zIl zX7_tokenFrom 68 2 69 := Or.inl ⟨2, rfl, by decide +kernel, rfl⟩
theorem iX7_tokenFrom_69 : zCl zX7_tokenFrom 69 .invokestatic zX7_signOf 72 := ⟨61, by decide +kernel, rfl, Or.inl (zT2_of (i := 57) rfl rfl)⟩
theorem iX7_tokenFrom_72 : zD zX7_tokenFrom 72 1 (.ireturn) 73 := ⟨by decide +kernel, rfl⟩
theorem iX7_numberOf_0 : zIl zX7_numberOf 0 2 1 := Or.inl ⟨2, rfl, by decide +kernel, rfl⟩
theorem iX7_numberOf_1 : zCo zX7_numberOf 1 (4) 2 := Or.inl ⟨4, by decide, by decide +kernel, rfl⟩
theorem iX7_numberOf_2 : zB zX7_numberOf 2 (.if_icmp .le) 5 8 := ⟨6, by decide +kernel, rfl, by decide⟩
theorem iX7_numberOf_5 : zCo zX7_numberOf 5 (-21) 7 := Or.inr (Or.inl ⟨-21, by decide, by decide +kernel, rfl⟩)
theorem iX7_numberOf_7 : zD zX7_numberOf 7 1 (.ireturn) 8 := ⟨by decide +kernel, rfl⟩
theorem iX7_numberOf_8 : zCo zX7_numberOf 8 (0) 9 := Or.inl ⟨0, by decide, by decide +kernel, rfl⟩
theorem iX7_numberOf_9 : zIs zX7_numberOf 9 3 10 := ⟨by decide, Or.inl ⟨3, rfl, by decide +kernel, rfl⟩⟩
theorem iX7_numberOf_10 : zCo zX7_numberOf 10 (0) 11 := Or.inl ⟨0, by decide, by decide +kernel, rfl⟩
theorem iX7_numberOf_11 : zIs zX7_numberOf 11 4 13 := ⟨by decide, Or.inr ⟨by decide +kernel, rfl⟩⟩
theorem iX7_numberOf_13 : zIl zX7_numberOf 13 4 15 := Or.inr ⟨by decide +kernel, rfl⟩
theorem iX7_numberOf_15 : zIl zX7_numberOf 15 2 16 := Or.inl ⟨2, rfl, by decide +kernel, rfl⟩
theorem iX7_numberOf_16 : zB zX7_numberOf 16 (.if_icmp .ge) 19 42 := ⟨26, by decide +kernel, rfl, by decide⟩
theorem iX7_numberOf_19 : zIl zX7_numberOf 19 3 20 := Or.inl ⟨3, rfl, by decide +kernel, rfl⟩
theorem iX7_numberOf_20 : zCo zX7_numberOf 20 (10) 22 := Or.inr (Or.inl ⟨10, by decide, by decide +kernel, rfl⟩)
theorem iX7_numberOf_22 : zD zX7_numberOf 22 1 (.imul) 23 := ⟨by decide +kernel, rfl⟩
theorem iX7_numberOf_23 : zAl zX7_numberOf 23 0 24 := Or.inl ⟨0, rfl, by decide +kernel, rfl⟩
theorem iX7_numberOf_24 : zIl zX7_numberOf 24 1 25 := Or.inl ⟨1, rfl, by decide +kernel, rfl⟩
theorem iX7_numberOf_25 : zIl zX7_numberOf 25 4 27 := Or.inr ⟨by decide +kernel, rfl⟩
theorem iX7_numberOf_27 : zD zX7_numberOf 27 1 (.iadd) 28 := ⟨by decide +kernel, rfl⟩
theorem iX7_numberOf_28 : zCl zX7_numberOf 28 .invokevirtual zX7_byteAt 31 := ⟨41, by decide +kernel, rfl, Or.inl (zT2_of (i := 14) rfl rfl)⟩
theorem iX7_numberOf_31 : zCo zX7_numberOf 31 (48) 33 := Or.inr (Or.inl ⟨48, by decide, by decide +kernel, rfl⟩)
theorem iX7_numberOf_33 : zD zX7_numberOf 33 1 (.isub) 34 := ⟨by decide +kernel, rfl⟩
theorem iX7_numberOf_34 : zD zX7_numberOf 34 1 (.iadd) 35 := ⟨by decide +kernel, rfl⟩
theorem iX7_numberOf_35 : zIs zX7_numberOf 35 3 36 := ⟨by decide, Or.inl ⟨3, rfl, by decide +kernel, rfl⟩⟩
theorem iX7_numberOf_36 : zIn zX7_numberOf 36 4 (1) 39 := ⟨by decide, 1, by decide, by decide +kernel, rfl⟩
theorem iX7_numberOf_39 : zB zX7_numberOf 39 .goto 42 13 := ⟨-26, by decide +kernel, rfl, by decide⟩
theorem iX7_numberOf_42 : zIl zX7_numberOf 42 3 43 := Or.inl ⟨3, rfl, by decide +kernel, rfl⟩
theorem iX7_numberOf_43 : zD zX7_numberOf 43 1 (.ireturn) 44 := ⟨by decide +kernel, rfl⟩
theorem iX7_signOf_0 : zIl zX7_signOf 0 0 1 := Or.inl ⟨0, rfl, by decide +kernel, rfl⟩
theorem iX7_signOf_1 : zSw zX7_signOf 1 (40) [104, 104, 104, 104, 107, 104, 107, 107, 107, 107, 107, 107, 107, 107, 107, 107, 107, 107, 107, 104, 104, 104] 107 := ⟨61, #[103, 103, 103, 103, 106, 103, 106, 106, 106, 106, 106, 106, 106, 106, 106, 106, 106, 106, 106, 103, 103, 103], 106, 103, by decide +kernel, by decide, by decide, by decide⟩
theorem iX7_signOf_104 : zIl zX7_signOf 104 0 105 := Or.inl ⟨0, rfl, by decide +kernel, rfl⟩
theorem iX7_signOf_105 : zD zX7_signOf 105 1 (.ineg) 106 := ⟨by decide +kernel, rfl⟩
theorem iX7_signOf_106 : zD zX7_signOf 106 1 (.ireturn) 107 := ⟨by decide +kernel, rfl⟩
theorem iX7_signOf_107 : zCo zX7_signOf 107 (-21) 109 := Or.inr (Or.inl ⟨-21, by decide, by decide +kernel, rfl⟩)
theorem iX7_signOf_109 : zD zX7_signOf 109 1 (.ireturn) 110 := ⟨by decide +kernel, rfl⟩
theorem iX7_wordOf_0 : zAl zX7_wordOf 0 0 1 := Or.inl ⟨0, rfl, by decide +kernel, rfl⟩
theorem iX7_wordOf_1 : zLd zX7_wordOf 1 1 3 := ⟨64, "cuts", by decide +kernel, by decide +kernel, rfl⟩
theorem iX7_wordOf_3 : zIl zX7_wordOf 3 1 4 := Or.inl ⟨1, rfl, by decide +kernel, rfl⟩
theorem iX7_wordOf_4 : zIl zX7_wordOf 4 2 5 := Or.inl ⟨2, rfl, by decide +kernel, rfl⟩
theorem iX7_wordOf_5 : zCl zX7_wordOf 5 .invokevirtual zX7_isWord 8 := ⟨66, by decide +kernel, rfl, Or.inl (zT2_of (i := 36) rfl rfl)⟩
theorem iX7_wordOf_8 : zB zX7_wordOf 8 (.ifCond .eq) 11 13 := ⟨5, by decide +kernel, rfl, by decide⟩
theorem iX7_wordOf_11 : zCo zX7_wordOf 11 (-1) 12 := Or.inl ⟨-1, by decide, by decide +kernel, rfl⟩
theorem iX7_wordOf_12 : zD zX7_wordOf 12 1 (.ireturn) 13 := ⟨by decide +kernel, rfl⟩
theorem iX7_wordOf_13 : zAl zX7_wordOf 13 0 14 := Or.inl ⟨0, rfl, by decide +kernel, rfl⟩
theorem iX7_wordOf_14 : zLd zX7_wordOf 14 2 16 := ⟨72, "speed", by decide +kernel, by decide +kernel, rfl⟩
theorem iX7_wordOf_16 : zIl zX7_wordOf 16 1 17 := Or.inl ⟨1, rfl, by decide +kernel, rfl⟩
theorem iX7_wordOf_17 : zIl zX7_wordOf 17 2 18 := Or.inl ⟨2, rfl, by decide +kernel, rfl⟩
theorem iX7_wordOf_18 : zCl zX7_wordOf 18 .invokevirtual zX7_isWord 21 := ⟨66, by decide +kernel, rfl, Or.inl (zT2_of (i := 36) rfl rfl)⟩
theorem iX7_wordOf_21 : zB zX7_wordOf 21 (.ifCond .eq) 24 27 := ⟨6, by decide +kernel, rfl, by decide⟩
theorem iX7_wordOf_24 : zCo zX7_wordOf 24 (-2) 26 := Or.inr (Or.inl ⟨-2, by decide, by decide +kernel, rfl⟩)
theorem iX7_wordOf_26 : zD zX7_wordOf 26 1 (.ireturn) 27 := ⟨by decide +kernel, rfl⟩
theorem iX7_wordOf_27 : zAl zX7_wordOf 27 0 28 := Or.inl ⟨0, rfl, by decide +kernel, rfl⟩
theorem iX7_wordOf_28 : zLd zX7_wordOf 28 3 30 := ⟨74, "stuff", by decide +kernel, by decide +kernel, rfl⟩
theorem iX7_wordOf_30 : zIl zX7_wordOf 30 1 31 := Or.inl ⟨1, rfl, by decide +kernel, rfl⟩
theorem iX7_wordOf_31 : zIl zX7_wordOf 31 2 32 := Or.inl ⟨2, rfl, by decide +kernel, rfl⟩
theorem iX7_wordOf_32 : zCl zX7_wordOf 32 .invokevirtual zX7_isWord 35 := ⟨66, by decide +kernel, rfl, Or.inl (zT2_of (i := 36) rfl rfl)⟩
theorem iX7_wordOf_35 : zB zX7_wordOf 35 (.ifCond .eq) 38 41 := ⟨6, by decide +kernel, rfl, by decide⟩
theorem iX7_wordOf_38 : zCo zX7_wordOf 38 (-3) 40 := Or.inr (Or.inl ⟨-3, by decide, by decide +kernel, rfl⟩)
theorem iX7_wordOf_40 : zD zX7_wordOf 40 1 (.ireturn) 41 := ⟨by decide +kernel, rfl⟩
theorem iX7_wordOf_41 : zAl zX7_wordOf 41 0 42 := Or.inl ⟨0, rfl, by decide +kernel, rfl⟩
theorem iX7_wordOf_42 : zLd zX7_wordOf 42 4 44 := ⟨76, "life", by decide +kernel, by decide +kernel, rfl⟩
theorem iX7_wordOf_44 : zIl zX7_wordOf 44 1 45 := Or.inl ⟨1, rfl, by decide +kernel, rfl⟩
theorem iX7_wordOf_45 : zIl zX7_wordOf 45 2 46 := Or.inl ⟨2, rfl, by decide +kernel, rfl⟩
theorem iX7_wordOf_46 : zCl zX7_wordOf 46 .invokevirtual zX7_isWord 49 := ⟨66, by decide +kernel, rfl, Or.inl (zT2_of (i := 36) rfl rfl)⟩
theorem iX7_wordOf_49 : zB zX7_wordOf 49 (.ifCond .eq) 52 55 := ⟨6, by decide +kernel, rfl, by decide⟩
theorem iX7_wordOf_52 : zCo zX7_wordOf 52 (-4) 54 := Or.inr (Or.inl ⟨-4, by decide, by decide +kernel, rfl⟩)
theorem iX7_wordOf_54 : zD zX7_wordOf 54 1 (.ireturn) 55 := ⟨by decide +kernel, rfl⟩
theorem iX7_wordOf_55 : zAl zX7_wordOf 55 0 56 := Or.inl ⟨0, rfl, by decide +kernel, rfl⟩
theorem iX7_wordOf_56 : zLd zX7_wordOf 56 5 58 := ⟨78, "reading", by decide +kernel, by decide +kernel, rfl⟩
theorem iX7_wordOf_58 : zIl zX7_wordOf 58 1 59 := Or.inl ⟨1, rfl, by decide +kernel, rfl⟩
theorem iX7_wordOf_59 : zIl zX7_wordOf 59 2 60 := Or.inl ⟨2, rfl, by decide +kernel, rfl⟩
theorem iX7_wordOf_60 : zCl zX7_wordOf 60 .invokevirtual zX7_isWord 63 := ⟨66, by decide +kernel, rfl, Or.inl (zT2_of (i := 36) rfl rfl)⟩
theorem iX7_wordOf_63 : zB zX7_wordOf 63 (.ifCond .eq) 66 69 := ⟨6, by decide +kernel, rfl, by decide⟩
theorem iX7_wordOf_66 : zCo zX7_wordOf 66 (-5) 68 := Or.inr (Or.inl ⟨-5, by decide, by decide +kernel, rfl⟩)
theorem iX7_wordOf_68 : zD zX7_wordOf 68 1 (.ireturn) 69 := ⟨by decide +kernel, rfl⟩
theorem iX7_wordOf_69 : zAl zX7_wordOf 69 0 70 := Or.inl ⟨0, rfl, by decide +kernel, rfl⟩
theorem iX7_wordOf_70 : zLd zX7_wordOf 70 6 72 := ⟨80, "nominal", by decide +kernel, by decide +kernel, rfl⟩
theorem iX7_wordOf_72 : zIl zX7_wordOf 72 1 73 := Or.inl ⟨1, rfl, by decide +kernel, rfl⟩
theorem iX7_wordOf_73 : zIl zX7_wordOf 73 2 74 := Or.inl ⟨2, rfl, by decide +kernel, rfl⟩
theorem iX7_wordOf_74 : zCl zX7_wordOf 74 .invokevirtual zX7_isWord 77 := ⟨66, by decide +kernel, rfl, Or.inl (zT2_of (i := 36) rfl rfl)⟩
theorem iX7_wordOf_77 : zB zX7_wordOf 77 (.ifCond .eq) 80 83 := ⟨6, by decide +kernel, rfl, by decide⟩
theorem iX7_wordOf_80 : zCo zX7_wordOf 80 (-6) 82 := Or.inr (Or.inl ⟨-6, by decide, by decide +kernel, rfl⟩)
theorem iX7_wordOf_82 : zD zX7_wordOf 82 1 (.ireturn) 83 := ⟨by decide +kernel, rfl⟩
theorem iX7_wordOf_83 : zAl zX7_wordOf 83 0 84 := Or.inl ⟨0, rfl, by decide +kernel, rfl⟩
theorem iX7_wordOf_84 : zLd zX7_wordOf 84 7 86 := ⟨82, "worn", by decide +kernel, by decide +kernel, rfl⟩
theorem iX7_wordOf_86 : zIl zX7_wordOf 86 1 87 := Or.inl ⟨1, rfl, by decide +kernel, rfl⟩
theorem iX7_wordOf_87 : zIl zX7_wordOf 87 2 88 := Or.inl ⟨2, rfl, by decide +kernel, rfl⟩
theorem iX7_wordOf_88 : zCl zX7_wordOf 88 .invokevirtual zX7_isWord 91 := ⟨66, by decide +kernel, rfl, Or.inl (zT2_of (i := 36) rfl rfl)⟩
theorem iX7_wordOf_91 : zB zX7_wordOf 91 (.ifCond .eq) 94 97 := ⟨6, by decide +kernel, rfl, by decide⟩
theorem iX7_wordOf_94 : zCo zX7_wordOf 94 (-22) 96 := Or.inr (Or.inl ⟨-22, by decide, by decide +kernel, rfl⟩)
theorem iX7_wordOf_96 : zD zX7_wordOf 96 1 (.ireturn) 97 := ⟨by decide +kernel, rfl⟩
theorem iX7_wordOf_97 : zAl zX7_wordOf 97 0 98 := Or.inl ⟨0, rfl, by decide +kernel, rfl⟩
theorem iX7_wordOf_98 : zLd zX7_wordOf 98 8 100 := ⟨84, "broken", by decide +kernel, by decide +kernel, rfl⟩
theorem iX7_wordOf_100 : zIl zX7_wordOf 100 1 101 := Or.inl ⟨1, rfl, by decide +kernel, rfl⟩
theorem iX7_wordOf_101 : zIl zX7_wordOf 101 2 102 := Or.inl ⟨2, rfl, by decide +kernel, rfl⟩
theorem iX7_wordOf_102 : zCl zX7_wordOf 102 .invokevirtual zX7_isWord 105 := ⟨66, by decide +kernel, rfl, Or.inl (zT2_of (i := 36) rfl rfl)⟩
theorem iX7_wordOf_105 : zB zX7_wordOf 105 (.ifCond .eq) 108 111 := ⟨6, by decide +kernel, rfl, by decide⟩
theorem iX7_wordOf_108 : zCo zX7_wordOf 108 (-23) 110 := Or.inr (Or.inl ⟨-23, by decide, by decide +kernel, rfl⟩)
theorem iX7_wordOf_110 : zD zX7_wordOf 110 1 (.ireturn) 111 := ⟨by decide +kernel, rfl⟩
theorem iX7_wordOf_111 : zAl zX7_wordOf 111 0 112 := Or.inl ⟨0, rfl, by decide +kernel, rfl⟩
theorem iX7_wordOf_112 : zLd zX7_wordOf 112 9 114 := ⟨86, "check", by decide +kernel, by decide +kernel, rfl⟩
theorem iX7_wordOf_114 : zIl zX7_wordOf 114 1 115 := Or.inl ⟨1, rfl, by decide +kernel, rfl⟩
theorem iX7_wordOf_115 : zIl zX7_wordOf 115 2 116 := Or.inl ⟨2, rfl, by decide +kernel, rfl⟩
theorem iX7_wordOf_116 : zCl zX7_wordOf 116 .invokevirtual zX7_isWord 119 := ⟨66, by decide +kernel, rfl, Or.inl (zT2_of (i := 36) rfl rfl)⟩
theorem iX7_wordOf_119 : zB zX7_wordOf 119 (.ifCond .eq) 122 125 := ⟨6, by decide +kernel, rfl, by decide⟩
theorem iX7_wordOf_122 : zCo zX7_wordOf 122 (-24) 124 := Or.inr (Or.inl ⟨-24, by decide, by decide +kernel, rfl⟩)
theorem iX7_wordOf_124 : zD zX7_wordOf 124 1 (.ireturn) 125 := ⟨by decide +kernel, rfl⟩
theorem iX7_wordOf_125 : zAl zX7_wordOf 125 0 126 := Or.inl ⟨0, rfl, by decide +kernel, rfl⟩
theorem iX7_wordOf_126 : zLd zX7_wordOf 126 10 128 := ⟨88, "or", by decide +kernel, by decide +kernel, rfl⟩
theorem iX7_wordOf_128 : zIl zX7_wordOf 128 1 129 := Or.inl ⟨1, rfl, by decide +kernel, rfl⟩
theorem iX7_wordOf_129 : zIl zX7_wordOf 129 2 130 := Or.inl ⟨2, rfl, by decide +kernel, rfl⟩
theorem iX7_wordOf_130 : zCl zX7_wordOf 130 .invokevirtual zX7_isWord 133 := ⟨66, by decide +kernel, rfl, Or.inl (zT2_of (i := 36) rfl rfl)⟩
theorem iX7_wordOf_133 : zB zX7_wordOf 133 (.ifCond .eq) 136 139 := ⟨6, by decide +kernel, rfl, by decide⟩
theorem iX7_wordOf_136 : zCo zX7_wordOf 136 (-15) 138 := Or.inr (Or.inl ⟨-15, by decide, by decide +kernel, rfl⟩)
theorem iX7_wordOf_138 : zD zX7_wordOf 138 1 (.ireturn) 139 := ⟨by decide +kernel, rfl⟩
theorem iX7_wordOf_139 : zAl zX7_wordOf 139 0 140 := Or.inl ⟨0, rfl, by decide +kernel, rfl⟩
theorem iX7_wordOf_140 : zLd zX7_wordOf 140 11 142 := ⟨90, "and", by decide +kernel, by decide +kernel, rfl⟩
theorem iX7_wordOf_142 : zIl zX7_wordOf 142 1 143 := Or.inl ⟨1, rfl, by decide +kernel, rfl⟩
theorem iX7_wordOf_143 : zIl zX7_wordOf 143 2 144 := Or.inl ⟨2, rfl, by decide +kernel, rfl⟩
theorem iX7_wordOf_144 : zCl zX7_wordOf 144 .invokevirtual zX7_isWord 147 := ⟨66, by decide +kernel, rfl, Or.inl (zT2_of (i := 36) rfl rfl)⟩
theorem iX7_wordOf_147 : zB zX7_wordOf 147 (.ifCond .eq) 150 153 := ⟨6, by decide +kernel, rfl, by decide⟩
theorem iX7_wordOf_150 : zCo zX7_wordOf 150 (-14) 152 := Or.inr (Or.inl ⟨-14, by decide, by decide +kernel, rfl⟩)
theorem iX7_wordOf_152 : zD zX7_wordOf 152 1 (.ireturn) 153 := ⟨by decide +kernel, rfl⟩
theorem iX7_wordOf_153 : zAl zX7_wordOf 153 0 154 := Or.inl ⟨0, rfl, by decide +kernel, rfl⟩
theorem iX7_wordOf_154 : zLd zX7_wordOf 154 12 156 := ⟨92, "not", by decide +kernel, by decide +kernel, rfl⟩
theorem iX7_wordOf_156 : zIl zX7_wordOf 156 1 157 := Or.inl ⟨1, rfl, by decide +kernel, rfl⟩
theorem iX7_wordOf_157 : zIl zX7_wordOf 157 2 158 := Or.inl ⟨2, rfl, by decide +kernel, rfl⟩
theorem iX7_wordOf_158 : zCl zX7_wordOf 158 .invokevirtual zX7_isWord 161 := ⟨66, by decide +kernel, rfl, Or.inl (zT2_of (i := 36) rfl rfl)⟩
theorem iX7_wordOf_161 : zB zX7_wordOf 161 (.ifCond .eq) 164 167 := ⟨6, by decide +kernel, rfl, by decide⟩
theorem iX7_wordOf_164 : zCo zX7_wordOf 164 (-8) 166 := Or.inr (Or.inl ⟨-8, by decide, by decide +kernel, rfl⟩)
theorem iX7_wordOf_166 : zD zX7_wordOf 166 1 (.ireturn) 167 := ⟨by decide +kernel, rfl⟩
theorem iX7_wordOf_167 : zCo zX7_wordOf 167 (-21) 169 := Or.inr (Or.inl ⟨-21, by decide, by decide +kernel, rfl⟩)
theorem iX7_wordOf_169 : zD zX7_wordOf 169 1 (.ireturn) 170 := ⟨by decide +kernel, rfl⟩
theorem iX7_isWord_0 : zIl zX7_isWord 0 3 1 := Or.inl ⟨3, rfl, by decide +kernel, rfl⟩
theorem iX7_isWord_1 : zAl zX7_isWord 1 1 2 := Or.inl ⟨1, rfl, by decide +kernel, rfl⟩
theorem iX7_isWord_2 : zCl zX7_isWord 2 .invokevirtual zJ0_length_8abf5 5 := ⟨94, by decide +kernel, rfl, Or.inl (zT2_of (i := 40) rfl rfl)⟩
theorem iX7_isWord_5 : zB zX7_isWord 5 (.if_icmp .eq) 8 10 := ⟨5, by decide +kernel, rfl, by decide⟩
theorem iX7_isWord_8 : zCo zX7_isWord 8 (0) 9 := Or.inl ⟨0, by decide, by decide +kernel, rfl⟩
theorem iX7_isWord_9 : zD zX7_isWord 9 1 (.ireturn) 10 := ⟨by decide +kernel, rfl⟩
theorem iX7_isWord_10 : zCo zX7_isWord 10 (0) 11 := Or.inl ⟨0, by decide, by decide +kernel, rfl⟩
theorem iX7_isWord_11 : zIs zX7_isWord 11 4 13 := ⟨by decide, Or.inr ⟨by decide +kernel, rfl⟩⟩
theorem iX7_isWord_13 : zIl zX7_isWord 13 4 15 := Or.inr ⟨by decide +kernel, rfl⟩
theorem iX7_isWord_15 : zAl zX7_isWord 15 1 16 := Or.inl ⟨1, rfl, by decide +kernel, rfl⟩
theorem iX7_isWord_16 : zCl zX7_isWord 16 .invokevirtual zJ0_length_8abf5 19 := ⟨94, by decide +kernel, rfl, Or.inl (zT2_of (i := 40) rfl rfl)⟩
theorem iX7_isWord_19 : zB zX7_isWord 19 (.if_icmp .ge) 22 47 := ⟨28, by decide +kernel, rfl, by decide⟩
theorem iX7_isWord_22 : zAl zX7_isWord 22 0 23 := Or.inl ⟨0, rfl, by decide +kernel, rfl⟩
theorem iX7_isWord_23 : zIl zX7_isWord 23 2 24 := Or.inl ⟨2, rfl, by decide +kernel, rfl⟩
theorem iX7_isWord_24 : zIl zX7_isWord 24 4 26 := Or.inr ⟨by decide +kernel, rfl⟩
theorem iX7_isWord_26 : zD zX7_isWord 26 1 (.iadd) 27 := ⟨by decide +kernel, rfl⟩
theorem iX7_isWord_27 : zCl zX7_isWord 27 .invokevirtual zX7_byteAt 30 := ⟨41, by decide +kernel, rfl, Or.inl (zT2_of (i := 14) rfl rfl)⟩
theorem iX7_isWord_30 : zAl zX7_isWord 30 1 31 := Or.inl ⟨1, rfl, by decide +kernel, rfl⟩
theorem iX7_isWord_31 : zIl zX7_isWord 31 4 33 := Or.inr ⟨by decide +kernel, rfl⟩
theorem iX7_isWord_33 : zCl zX7_isWord 33 .invokevirtual zJ0_charAt_5068e 36 := ⟨100, by decide +kernel, rfl, Or.inl (zT2_of (i := 41) rfl rfl)⟩
theorem iX7_isWord_36 : zB zX7_isWord 36 (.if_icmp .eq) 39 41 := ⟨5, by decide +kernel, rfl, by decide⟩
theorem iX7_isWord_39 : zCo zX7_isWord 39 (0) 40 := Or.inl ⟨0, by decide, by decide +kernel, rfl⟩
theorem iX7_isWord_40 : zD zX7_isWord 40 1 (.ireturn) 41 := ⟨by decide +kernel, rfl⟩
theorem iX7_isWord_41 : zIn zX7_isWord 41 4 (1) 44 := ⟨by decide, 1, by decide, by decide +kernel, rfl⟩
theorem iX7_isWord_44 : zB zX7_isWord 44 .goto 47 13 := ⟨-31, by decide +kernel, rfl, by decide⟩
theorem iX7_isWord_47 : zCo zX7_isWord 47 (1) 48 := Or.inl ⟨1, by decide, by decide +kernel, rfl⟩
theorem iX7_isWord_48 : zD zX7_isWord 48 1 (.ireturn) 49 := ⟨by decide +kernel, rfl⟩
theorem iX8_init_0 : zAl zX8_init 0 0 1 := Or.inl ⟨0, rfl, by decide +kernel, rfl⟩
theorem iX8_init_1 : zOi zX8_init 1 4 := ⟨3, by decide +kernel, rfl, zT1_of (i := 148) rfl rfl, zT1_of (i := 25) rfl rfl, zT1_of (i := 26) rfl rfl⟩
theorem iX8_init_4 : zAl zX8_init 4 0 5 := Or.inl ⟨0, rfl, by decide +kernel, rfl⟩
theorem iX8_init_5 : zCo zX8_init 5 (160) 8 := Or.inr (Or.inr (Or.inl ⟨160, by decide, by decide +kernel, rfl⟩))
theorem iX8_init_8 : zD zX8_init 8 2 (.newarray .int) 10 := ⟨by decide +kernel, rfl⟩
theorem iX8_init_10 : zPf zX8_init 10 8 0 (.array .int) 13 := ⟨9, _, _, _, zcf_8, by decide, by decide +kernel, rfl, zT1_of (i := 149) rfl rfl, by decide +kernel, Or.inr ⟨rfl, rfl, rfl⟩⟩
theorem iX8_init_13 : zAl zX8_init 13 0 14 := Or.inl ⟨0, rfl, by decide +kernel, rfl⟩
theorem iX8_init_14 : zCo zX8_init 14 (3) 15 := Or.inl ⟨3, by decide, by decide +kernel, rfl⟩
theorem iX8_init_15 : zD zX8_init 15 2 (.newarray .int) 17 := ⟨by decide +kernel, rfl⟩
theorem iX8_init_17 : zPf zX8_init 17 8 1 (.array .int) 20 := ⟨15, _, _, _, zcf_8, by decide, by decide +kernel, rfl, zT1_of (i := 150) rfl rfl, by decide +kernel, Or.inr ⟨rfl, rfl, rfl⟩⟩
theorem iX8_init_20 : zD zX8_init 20 1 (.return_) 21 := ⟨by decide +kernel, rfl⟩
theorem iX8_clear_0 : zAl zX8_clear 0 0 1 := Or.inl ⟨0, rfl, by decide +kernel, rfl⟩
theorem iX8_clear_1 : zCo zX8_clear 1 (0) 2 := Or.inl ⟨0, by decide, by decide +kernel, rfl⟩
theorem iX8_clear_2 : zPf zX8_clear 2 8 2 .int 5 := ⟨18, _, _, _, zcf_8, by decide, by decide +kernel, rfl, zT1_of (i := 151) rfl rfl, by decide +kernel, Or.inl rfl⟩
theorem iX8_clear_5 : zAl zX8_clear 5 0 6 := Or.inl ⟨0, rfl, by decide +kernel, rfl⟩
theorem iX8_clear_6 : zCo zX8_clear 6 (0) 7 := Or.inl ⟨0, by decide, by decide +kernel, rfl⟩
theorem iX8_clear_7 : zPf zX8_clear 7 8 3 .int 10 := ⟨22, _, _, _, zcf_8, by decide, by decide +kernel, rfl, zT1_of (i := 152) rfl rfl, by decide +kernel, Or.inl rfl⟩
theorem iX8_clear_10 : zD zX8_clear 10 1 (.return_) 11 := ⟨by decide +kernel, rfl⟩
theorem iX8_add_0 : zAl zX8_add 0 0 1 := Or.inl ⟨0, rfl, by decide +kernel, rfl⟩
theorem iX8_add_1 : zGf zX8_add 1 8 2 4 := ⟨18, _, _, _, zcf_8, by decide, by decide +kernel, rfl, zT1_of (i := 151) rfl rfl⟩
theorem iX8_add_4 : zCo zX8_add 4 (160) 7 := Or.inr (Or.inr (Or.inl ⟨160, by decide, by decide +kernel, rfl⟩))
theorem iX8_add_7 : zB zX8_add 7 (.if_icmp .ge) 10 30 := ⟨23, by decide +kernel, rfl, by decide⟩
theorem iX8_add_10 : zAl zX8_add 10 0 11 := Or.inl ⟨0, rfl, by decide +kernel, rfl⟩
theorem iX8_add_11 : zGf zX8_add 11 8 0 14 := ⟨9, _, _, _, zcf_8, by decide, by decide +kernel, rfl, zT1_of (i := 149) rfl rfl⟩
theorem iX8_add_14 : zAl zX8_add 14 0 15 := Or.inl ⟨0, rfl, by decide +kernel, rfl⟩
theorem iX8_add_15 : zGf zX8_add 15 8 2 18 := ⟨18, _, _, _, zcf_8, by decide, by decide +kernel, rfl, zT1_of (i := 151) rfl rfl⟩
theorem iX8_add_18 : zIl zX8_add 18 1 19 := Or.inl ⟨1, rfl, by decide +kernel, rfl⟩
theorem iX8_add_19 : zD zX8_add 19 1 (.iastore) 20 := ⟨by decide +kernel, rfl⟩
theorem iX8_add_20 : zAl zX8_add 20 0 21 := Or.inl ⟨0, rfl, by decide +kernel, rfl⟩
theorem iX8_add_21 : zD zX8_add 21 1 (.dup) 22 := ⟨by decide +kernel, rfl⟩
theorem iX8_add_22 : zGf zX8_add 22 8 2 25 := ⟨18, _, _, _, zcf_8, by decide, by decide +kernel, rfl, zT1_of (i := 151) rfl rfl⟩
theorem iX8_add_25 : zCo zX8_add 25 (1) 26 := Or.inl ⟨1, by decide, by decide +kernel, rfl⟩
theorem iX8_add_26 : zD zX8_add 26 1 (.iadd) 27 := ⟨by decide +kernel, rfl⟩
theorem iX8_add_27 : zPf zX8_add 27 8 2 .int 30 := ⟨18, _, _, _, zcf_8, by decide, by decide +kernel, rfl, zT1_of (i := 151) rfl rfl, by decide +kernel, Or.inl rfl⟩
theorem iX8_add_30 : zD zX8_add 30 1 (.return_) 31 := ⟨by decide +kernel, rfl⟩
theorem iX8_closePart_0 : zAl zX8_closePart 0 0 1 := Or.inl ⟨0, rfl, by decide +kernel, rfl⟩
theorem iX8_closePart_1 : zGf zX8_closePart 1 8 3 4 := ⟨22, _, _, _, zcf_8, by decide, by decide +kernel, rfl, zT1_of (i := 152) rfl rfl⟩
theorem iX8_closePart_4 : zCo zX8_closePart 4 (3) 5 := Or.inl ⟨3, by decide, by decide +kernel, rfl⟩
theorem iX8_closePart_5 : zB zX8_closePart 5 (.if_icmp .ge) 8 31 := ⟨26, by decide +kernel, rfl, by decide⟩
theorem iX8_closePart_8 : zAl zX8_closePart 8 0 9 := Or.inl ⟨0, rfl, by decide +kernel, rfl⟩
theorem iX8_closePart_9 : zGf zX8_closePart 9 8 1 12 := ⟨15, _, _, _, zcf_8, by decide, by decide +kernel, rfl, zT1_of (i := 150) rfl rfl⟩
theorem iX8_closePart_12 : zAl zX8_closePart 12 0 13 := Or.inl ⟨0, rfl, by decide +kernel, rfl⟩
theorem iX8_closePart_13 : zGf zX8_closePart 13 8 3 16 := ⟨22, _, _, _, zcf_8, by decide, by decide +kernel, rfl, zT1_of (i := 152) rfl rfl⟩
theorem iX8_closePart_16 : zAl zX8_closePart 16 0 17 := Or.inl ⟨0, rfl, by decide +kernel, rfl⟩
theorem iX8_closePart_17 : zGf zX8_closePart 17 8 2 20 := ⟨18, _, _, _, zcf_8, by decide, by decide +kernel, rfl, zT1_of (i := 151) rfl rfl⟩
theorem iX8_closePart_20 : zD zX8_closePart 20 1 (.iastore) 21 := ⟨by decide +kernel, rfl⟩
theorem iX8_closePart_21 : zAl zX8_closePart 21 0 22 := Or.inl ⟨0, rfl, by decide +kernel, rfl⟩
theorem iX8_closePart_22 : zD zX8_closePart 22 1 (.dup) 23 := ⟨by decide +kernel, rfl⟩
theorem iX8_closePart_23 : zGf zX8_closePart 23 8 3 26 := ⟨22, _, _, _, zcf_8, by decide, by decide +kernel, rfl, zT1_of (i := 152) rfl rfl⟩
theorem iX8_closePart_26 : zCo zX8_closePart 26 (1) 27 := Or.inl ⟨1, by decide, by decide +kernel, rfl⟩
theorem iX8_closePart_27 : zD zX8_closePart 27 1 (.iadd) 28 := ⟨by decide +kernel, rfl⟩
theorem iX8_closePart_28 : zPf zX8_closePart 28 8 3 .int 31 := ⟨22, _, _, _, zcf_8, by decide, by decide +kernel, rfl, zT1_of (i := 152) rfl rfl, by decide +kernel, Or.inl rfl⟩
theorem iX8_closePart_31 : zD zX8_closePart 31 1 (.return_) 32 := ⟨by decide +kernel, rfl⟩
theorem iX8_valueOf_0 : zIl zX8_valueOf 0 1 1 := Or.inl ⟨1, rfl, by decide +kernel, rfl⟩
theorem iX8_valueOf_1 : zB zX8_valueOf 1 (.ifCond .lt) 4 17 := ⟨16, by decide +kernel, rfl, by decide⟩
theorem iX8_valueOf_4 : zIl zX8_valueOf 4 1 5 := Or.inl ⟨1, rfl, by decide +kernel, rfl⟩
theorem iX8_valueOf_5 : zAl zX8_valueOf 5 0 6 := Or.inl ⟨0, rfl, by decide +kernel, rfl⟩
theorem iX8_valueOf_6 : zGf zX8_valueOf 6 8 3 9 := ⟨22, _, _, _, zcf_8, by decide, by decide +kernel, rfl, zT1_of (i := 152) rfl rfl⟩
theorem iX8_valueOf_9 : zB zX8_valueOf 9 (.if_icmp .ge) 12 17 := ⟨8, by decide +kernel, rfl, by decide⟩
theorem iX8_valueOf_12 : zIl zX8_valueOf 12 1 13 := Or.inl ⟨1, rfl, by decide +kernel, rfl⟩
theorem iX8_valueOf_13 : zCo zX8_valueOf 13 (3) 14 := Or.inl ⟨3, by decide, by decide +kernel, rfl⟩
theorem iX8_valueOf_14 : zB zX8_valueOf 14 (.if_icmp .lt) 17 19 := ⟨5, by decide +kernel, rfl, by decide⟩
theorem iX8_valueOf_17 : zCo zX8_valueOf 17 (0) 18 := Or.inl ⟨0, by decide, by decide +kernel, rfl⟩
theorem iX8_valueOf_18 : zD zX8_valueOf 18 1 (.ireturn) 19 := ⟨by decide +kernel, rfl⟩
theorem iX8_valueOf_19 : zIl zX8_valueOf 19 1 20 := Or.inl ⟨1, rfl, by decide +kernel, rfl⟩
theorem iX8_valueOf_20 : zB zX8_valueOf 20 (.ifCond .ne) 23 27 := ⟨7, by decide +kernel, rfl, by decide⟩
theorem iX8_valueOf_23 : zCo zX8_valueOf 23 (0) 24 := Or.inl ⟨0, by decide, by decide +kernel, rfl⟩
theorem iX8_valueOf_24 : zB zX8_valueOf 24 .goto 27 35 := ⟨11, by decide +kernel, rfl, by decide⟩
theorem iX8_valueOf_27 : zAl zX8_valueOf 27 0 28 := Or.inl ⟨0, rfl, by decide +kernel, rfl⟩
theorem iX8_valueOf_28 : zGf zX8_valueOf 28 8 1 31 := ⟨15, _, _, _, zcf_8, by decide, by decide +kernel, rfl, zT1_of (i := 150) rfl rfl⟩
theorem iX8_valueOf_31 : zIl zX8_valueOf 31 1 32 := Or.inl ⟨1, rfl, by decide +kernel, rfl⟩
theorem iX8_valueOf_32 : zCo zX8_valueOf 32 (1) 33 := Or.inl ⟨1, by decide, by decide +kernel, rfl⟩
theorem iX8_valueOf_33 : zD zX8_valueOf 33 1 (.isub) 34 := ⟨by decide +kernel, rfl⟩
theorem iX8_valueOf_34 : zD zX8_valueOf 34 1 (.iaload) 35 := ⟨by decide +kernel, rfl⟩
theorem iX8_valueOf_35 : zIs zX8_valueOf 35 4 37 := ⟨by decide, Or.inr ⟨by decide +kernel, rfl⟩⟩
theorem iX8_valueOf_37 : zAl zX8_valueOf 37 3 38 := Or.inl ⟨3, rfl, by decide +kernel, rfl⟩
theorem iX8_valueOf_38 : zCl zX8_valueOf 38 .invokevirtual zX6_clear 41 := ⟨25, by decide +kernel, rfl, Or.inl (zT3_of (i := 152) rfl rfl)⟩
theorem iX8_valueOf_41 : zIl zX8_valueOf 41 4 43 := Or.inr ⟨by decide +kernel, rfl⟩
theorem iX8_valueOf_43 : zIs zX8_valueOf 43 5 45 := ⟨by decide, Or.inr ⟨by decide +kernel, rfl⟩⟩
theorem iX8_valueOf_45 : zIl zX8_valueOf 45 5 47 := Or.inr ⟨by decide +kernel, rfl⟩
theorem iX8_valueOf_47 : zAl zX8_valueOf 47 0 48 := Or.inl ⟨0, rfl, by decide +kernel, rfl⟩
theorem iX8_valueOf_48 : zGf zX8_valueOf 48 8 1 51 := ⟨15, _, _, _, zcf_8, by decide, by decide +kernel, rfl, zT1_of (i := 150) rfl rfl⟩
theorem iX8_valueOf_51 : zIl zX8_valueOf 51 1 52 := Or.inl ⟨1, rfl, by decide +kernel, rfl⟩
theorem iX8_valueOf_52 : zD zX8_valueOf 52 1 (.iaload) 53 := ⟨by decide +kernel, rfl⟩
theorem iX8_valueOf_53 : zB zX8_valueOf 53 (.if_icmp .ge) 56 86 := ⟨33, by decide +kernel, rfl, by decide⟩
theorem iX8_valueOf_56 : zIl zX8_valueOf 56 5 58 := Or.inr ⟨by decide +kernel, rfl⟩
theorem iX8_valueOf_58 : zCo zX8_valueOf 58 (160) 61 := Or.inr (Or.inr (Or.inl ⟨160, by decide, by decide +kernel, rfl⟩))
theorem iX8_valueOf_61 : zB zX8_valueOf 61 (.if_icmp .ge) 64 86 := ⟨25, by decide +kernel, rfl, by decide⟩
theorem iX8_valueOf_64 : zAl zX8_valueOf 64 3 65 := Or.inl ⟨3, rfl, by decide +kernel, rfl⟩
theorem iX8_valueOf_65 : zAl zX8_valueOf 65 0 66 := Or.inl ⟨0, rfl, by decide +kernel, rfl⟩
theorem iX8_valueOf_66 : zGf zX8_valueOf 66 8 0 69 := ⟨9, _, _, _, zcf_8, by decide, by decide +kernel, rfl, zT1_of (i := 149) rfl rfl⟩
theorem iX8_valueOf_69 : zIl zX8_valueOf 69 5 71 := Or.inr ⟨by decide +kernel, rfl⟩
theorem iX8_valueOf_71 : zD zX8_valueOf 71 1 (.iaload) 72 := ⟨by decide +kernel, rfl⟩
theorem iX8_valueOf_72 : zAl zX8_valueOf 72 2 73 := Or.inl ⟨2, rfl, by decide +kernel, rfl⟩
theorem iX8_valueOf_73 : zAl zX8_valueOf 73 3 74 := Or.inl ⟨3, rfl, by decide +kernel, rfl⟩
theorem iX8_valueOf_74 : zCl zX8_valueOf 74 .invokestatic zX8_resultOf 77 := ⟨30, by decide +kernel, rfl, Or.inl (zT3_of (i := 156) rfl rfl)⟩
theorem iX8_valueOf_77 : zCl zX8_valueOf 77 .invokevirtual zX6_push 80 := ⟨34, by decide +kernel, rfl, Or.inl (zT3_of (i := 166) rfl rfl)⟩
theorem iX8_valueOf_80 : zIn zX8_valueOf 80 5 (1) 83 := ⟨by decide, 1, by decide, by decide +kernel, rfl⟩
theorem iX8_valueOf_83 : zB zX8_valueOf 83 .goto 86 45 := ⟨-38, by decide +kernel, rfl, by decide⟩
theorem iX8_valueOf_86 : zAl zX8_valueOf 86 3 87 := Or.inl ⟨3, rfl, by decide +kernel, rfl⟩
theorem iX8_valueOf_87 : zCl zX8_valueOf 87 .invokevirtual zX6_pop 90 := ⟨38, by decide +kernel, rfl, Or.inl (zT3_of (i := 159) rfl rfl)⟩
theorem iX8_valueOf_90 : zD zX8_valueOf 90 1 (.ireturn) 91 := ⟨by decide +kernel, rfl⟩
theorem iX8_resultOf_0 : zIl zX8_resultOf 0 0 1 := Or.inl ⟨0, rfl, by decide +kernel, rfl⟩
theorem iX8_resultOf_1 : zB zX8_resultOf 1 (.ifCond .lt) 4 6 := ⟨5, by decide +kernel, rfl, by decide⟩
theorem iX8_resultOf_4 : zIl zX8_resultOf 4 0 5 := Or.inl ⟨0, rfl, by decide +kernel, rfl⟩
theorem iX8_resultOf_5 : zD zX8_resultOf 5 1 (.ireturn) 6 := ⟨by decide +kernel, rfl⟩
theorem iX8_resultOf_6 : zCo zX8_resultOf 6 (-1) 7 := Or.inl ⟨-1, by decide, by decide +kernel, rfl⟩
theorem iX8_resultOf_7 : zIl zX8_resultOf 7 0 8 := Or.inl ⟨0, rfl, by decide +kernel, rfl⟩
theorem iX8_resultOf_8 : zD zX8_resultOf 8 1 (.isub) 9 := ⟨by decide +kernel, rfl⟩
theorem iX8_resultOf_9 : zIs zX8_resultOf 9 3 10 := ⟨by decide, Or.inl ⟨3, rfl, by decide +kernel, rfl⟩⟩
theorem iX8_resultOf_10 : zIl zX8_resultOf 10 3 11 := Or.inl ⟨3, rfl, by decide +kernel, rfl⟩
theorem iX8_resultOf_11 : zCo zX8_resultOf 11 (6) 13 := Or.inr (Or.inl ⟨6, by decide, by decide +kernel, rfl⟩)
theorem iX8_resultOf_13 : zB zX8_resultOf 13 (.if_icmp .ge) 16 26 := ⟨13, by decide +kernel, rfl, by decide⟩
theorem iX8_resultOf_16 : zIl zX8_resultOf 16 3 17 := Or.inl ⟨3, rfl, by decide +kernel, rfl⟩
theorem iX8_resultOf_17 : zAl zX8_resultOf 17 1 18 := Or.inl ⟨1, rfl, by decide +kernel, rfl⟩
theorem iX8_resultOf_18 : zD zX8_resultOf 18 1 (.arraylength) 19 := ⟨by decide +kernel, rfl⟩
theorem iX8_resultOf_19 : zB zX8_resultOf 19 (.if_icmp .ge) 22 26 := ⟨7, by decide +kernel, rfl, by decide⟩
theorem iX8_resultOf_22 : zAl zX8_resultOf 22 1 23 := Or.inl ⟨1, rfl, by decide +kernel, rfl⟩
theorem iX8_resultOf_23 : zIl zX8_resultOf 23 3 24 := Or.inl ⟨3, rfl, by decide +kernel, rfl⟩
theorem iX8_resultOf_24 : zD zX8_resultOf 24 1 (.iaload) 25 := ⟨by decide +kernel, rfl⟩
theorem iX8_resultOf_25 : zD zX8_resultOf 25 1 (.ireturn) 26 := ⟨by decide +kernel, rfl⟩
theorem iX8_resultOf_26 : zAl zX8_resultOf 26 2 27 := Or.inl ⟨2, rfl, by decide +kernel, rfl⟩
theorem iX8_resultOf_27 : zCl zX8_resultOf 27 .invokevirtual zX6_pop 30 := ⟨38, by decide +kernel, rfl, Or.inl (zT3_of (i := 159) rfl rfl)⟩
theorem iX8_resultOf_30 : zIs zX8_resultOf 30 4 32 := ⟨by decide, Or.inr ⟨by decide +kernel, rfl⟩⟩
theorem iX8_resultOf_32 : zIl zX8_resultOf 32 0 33 := Or.inl ⟨0, rfl, by decide +kernel, rfl⟩
theorem iX8_resultOf_33 : zCo zX8_resultOf 33 (-7) 35 := Or.inr (Or.inl ⟨-7, by decide, by decide +kernel, rfl⟩)
theorem iX8_resultOf_35 : zB zX8_resultOf 35 (.if_icmp .ne) 38 42 := ⟨7, by decide +kernel, rfl, by decide⟩
theorem iX8_resultOf_38 : zIl zX8_resultOf 38 4 40 := Or.inr ⟨by decide +kernel, rfl⟩
theorem iX8_resultOf_40 : zD zX8_resultOf 40 1 (.ineg) 41 := ⟨by decide +kernel, rfl⟩
theorem iX8_resultOf_41 : zD zX8_resultOf 41 1 (.ireturn) 42 := ⟨by decide +kernel, rfl⟩
theorem iX8_resultOf_42 : zIl zX8_resultOf 42 0 43 := Or.inl ⟨0, rfl, by decide +kernel, rfl⟩
theorem iX8_resultOf_43 : zCo zX8_resultOf 43 (-8) 45 := Or.inr (Or.inl ⟨-8, by decide, by decide +kernel, rfl⟩)
theorem iX8_resultOf_45 : zB zX8_resultOf 45 (.if_icmp .ne) 48 59 := ⟨14, by decide +kernel, rfl, by decide⟩
theorem iX8_resultOf_48 : zIl zX8_resultOf 48 4 50 := Or.inr ⟨by decide +kernel, rfl⟩
theorem iX8_resultOf_50 : zB zX8_resultOf 50 (.ifCond .ne) 53 57 := ⟨7, by decide +kernel, rfl, by decide⟩
theorem iX8_resultOf_53 : zCo zX8_resultOf 53 (1) 54 := Or.inl ⟨1, by decide, by decide +kernel, rfl⟩
theorem iX8_resultOf_54 : zB zX8_resultOf 54 .goto 57 58 := ⟨4, by decide +kernel, rfl, by decide⟩
theorem iX8_resultOf_57 : zCo zX8_resultOf 57 (0) 58 := Or.inl ⟨0, by decide, by decide +kernel, rfl⟩
theorem iX8_resultOf_58 : zD zX8_resultOf 58 1 (.ireturn) 59 := ⟨by decide +kernel, rfl⟩
theorem iX8_resultOf_59 : zIl zX8_resultOf 59 0 60 := Or.inl ⟨0, rfl, by decide +kernel, rfl⟩
theorem iX8_resultOf_60 : zAl zX8_resultOf 60 2 61 := Or.inl ⟨2, rfl, by decide +kernel, rfl⟩
theorem iX8_resultOf_61 : zCl zX8_resultOf 61 .invokevirtual zX6_pop 64 := ⟨38, by decide +kernel, rfl, Or.inl (zT3_of (i := 159) rfl rfl)⟩
theorem iX8_resultOf_64 : zIl zX8_resultOf 64 4 66 := Or.inr ⟨by decide +kernel, rfl⟩
theorem iX8_resultOf_66 : zCl zX8_resultOf 66 .invokestatic zX8_joined 69 := ⟨42, by decide +kernel, rfl, Or.inl (zT3_of (i := 163) rfl rfl)⟩
theorem iX8_resultOf_69 : zD zX8_resultOf 69 1 (.ireturn) 70 := ⟨by decide +kernel, rfl⟩
theorem iX8_joined_0 : zIl zX8_joined 0 0 1 := Or.inl ⟨0, rfl, by decide +kernel, rfl⟩
theorem iX8_joined_1 : zSw zX8_joined 1 (-15) [92, 78, 67, 56, 52, 48, 44] 106 := ⟨-9, #[91, 77, 66, 55, 51, 47, 43], 105, 43, by decide +kernel, by decide, by decide, by decide⟩
theorem iX8_joined_44 : zIl zX8_joined 44 1 45 := Or.inl ⟨1, rfl, by decide +kernel, rfl⟩
theorem iX8_joined_45 : zIl zX8_joined 45 2 46 := Or.inl ⟨2, rfl, by decide +kernel, rfl⟩
theorem iX8_joined_46 : zD zX8_joined 46 1 (.imul) 47 := ⟨by decide +kernel, rfl⟩
theorem iX8_joined_47 : zD zX8_joined 47 1 (.ireturn) 48 := ⟨by decide +kernel, rfl⟩
theorem iX8_joined_48 : zIl zX8_joined 48 1 49 := Or.inl ⟨1, rfl, by decide +kernel, rfl⟩
theorem iX8_joined_49 : zIl zX8_joined 49 2 50 := Or.inl ⟨2, rfl, by decide +kernel, rfl⟩
theorem iX8_joined_50 : zD zX8_joined 50 1 (.iadd) 51 := ⟨by decide +kernel, rfl⟩
theorem iX8_joined_51 : zD zX8_joined 51 1 (.ireturn) 52 := ⟨by decide +kernel, rfl⟩
theorem iX8_joined_52 : zIl zX8_joined 52 1 53 := Or.inl ⟨1, rfl, by decide +kernel, rfl⟩
theorem iX8_joined_53 : zIl zX8_joined 53 2 54 := Or.inl ⟨2, rfl, by decide +kernel, rfl⟩
theorem iX8_joined_54 : zD zX8_joined 54 1 (.isub) 55 := ⟨by decide +kernel, rfl⟩
theorem iX8_joined_55 : zD zX8_joined 55 1 (.ireturn) 56 := ⟨by decide +kernel, rfl⟩
theorem iX8_joined_56 : zIl zX8_joined 56 1 57 := Or.inl ⟨1, rfl, by decide +kernel, rfl⟩
theorem iX8_joined_57 : zIl zX8_joined 57 2 58 := Or.inl ⟨2, rfl, by decide +kernel, rfl⟩
theorem iX8_joined_58 : zB zX8_joined 58 (.if_icmp .ge) 61 65 := ⟨7, by decide +kernel, rfl, by decide⟩
theorem iX8_joined_61 : zCo zX8_joined 61 (1) 62 := Or.inl ⟨1, by decide, by decide +kernel, rfl⟩
theorem iX8_joined_62 : zB zX8_joined 62 .goto 65 66 := ⟨4, by decide +kernel, rfl, by decide⟩
theorem iX8_joined_65 : zCo zX8_joined 65 (0) 66 := Or.inl ⟨0, by decide, by decide +kernel, rfl⟩
theorem iX8_joined_66 : zD zX8_joined 66 1 (.ireturn) 67 := ⟨by decide +kernel, rfl⟩
theorem iX8_joined_67 : zIl zX8_joined 67 1 68 := Or.inl ⟨1, rfl, by decide +kernel, rfl⟩
theorem iX8_joined_68 : zIl zX8_joined 68 2 69 := Or.inl ⟨2, rfl, by decide +kernel, rfl⟩
theorem iX8_joined_69 : zB zX8_joined 69 (.if_icmp .ne) 72 76 := ⟨7, by decide +kernel, rfl, by decide⟩
theorem iX8_joined_72 : zCo zX8_joined 72 (1) 73 := Or.inl ⟨1, by decide, by decide +kernel, rfl⟩
theorem iX8_joined_73 : zB zX8_joined 73 .goto 76 77 := ⟨4, by decide +kernel, rfl, by decide⟩
theorem iX8_joined_76 : zCo zX8_joined 76 (0) 77 := Or.inl ⟨0, by decide, by decide +kernel, rfl⟩
theorem iX8_joined_77 : zD zX8_joined 77 1 (.ireturn) 78 := ⟨by decide +kernel, rfl⟩
theorem iX8_joined_78 : zIl zX8_joined 78 1 79 := Or.inl ⟨1, rfl, by decide +kernel, rfl⟩
theorem iX8_joined_79 : zB zX8_joined 79 (.ifCond .eq) 82 90 := ⟨11, by decide +kernel, rfl, by decide⟩
theorem iX8_joined_82 : zIl zX8_joined 82 2 83 := Or.inl ⟨2, rfl, by decide +kernel, rfl⟩
theorem iX8_joined_83 : zB zX8_joined 83 (.ifCond .eq) 86 90 := ⟨7, by decide +kernel, rfl, by decide⟩
theorem iX8_joined_86 : zCo zX8_joined 86 (1) 87 := Or.inl ⟨1, by decide, by decide +kernel, rfl⟩
theorem iX8_joined_87 : zB zX8_joined 87 .goto 90 91 := ⟨4, by decide +kernel, rfl, by decide⟩
theorem iX8_joined_90 : zCo zX8_joined 90 (0) 91 := Or.inl ⟨0, by decide, by decide +kernel, rfl⟩
theorem iX8_joined_91 : zD zX8_joined 91 1 (.ireturn) 92 := ⟨by decide +kernel, rfl⟩
theorem iX8_joined_92 : zIl zX8_joined 92 1 93 := Or.inl ⟨1, rfl, by decide +kernel, rfl⟩
theorem iX8_joined_93 : zB zX8_joined 93 (.ifCond .ne) 96 100 := ⟨7, by decide +kernel, rfl, by decide⟩
theorem iX8_joined_96 : zIl zX8_joined 96 2 97 := Or.inl ⟨2, rfl, by decide +kernel, rfl⟩
theorem iX8_joined_97 : zB zX8_joined 97 (.ifCond .eq) 100 104 := ⟨7, by decide +kernel, rfl, by decide⟩
theorem iX8_joined_100 : zCo zX8_joined 100 (1) 101 := Or.inl ⟨1, by decide, by decide +kernel, rfl⟩
theorem iX8_joined_101 : zB zX8_joined 101 .goto 104 105 := ⟨4, by decide +kernel, rfl, by decide⟩
theorem iX8_joined_104 : zCo zX8_joined 104 (0) 105 := Or.inl ⟨0, by decide, by decide +kernel, rfl⟩
theorem iX8_joined_105 : zD zX8_joined 105 1 (.ireturn) 106 := ⟨by decide +kernel, rfl⟩
theorem iX8_joined_106 : zCo zX8_joined 106 (0) 107 := Or.inl ⟨0, by decide, by decide +kernel, rfl⟩
theorem iX8_joined_107 : zD zX8_joined 107 1 (.ireturn) 108 := ⟨by decide +kernel, rfl⟩
theorem iX9_init_0 : zAl zX9_init 0 0 1 := Or.inl ⟨0, rfl, by decide +kernel, rfl⟩
theorem iX9_init_1 : zOi zX9_init 1 4 := ⟨3, by decide +kernel, rfl, zT3_of (i := 67) rfl rfl, zT1_of (i := 25) rfl rfl, zT1_of (i := 26) rfl rfl⟩
theorem iX9_init_4 : zAl zX9_init 4 0 5 := Or.inl ⟨0, rfl, by decide +kernel, rfl⟩
theorem iX9_init_5 : zCo zX9_init 5 (-1) 6 := Or.inl ⟨-1, by decide, by decide +kernel, rfl⟩
theorem iX9_init_6 : zPf zX9_init 6 9 6 .int 9 := ⟨9, _, _, _, zcf_9, by decide, by decide +kernel, rfl, zT3_of (i := 79) rfl rfl, by decide +kernel, Or.inl rfl⟩
theorem iX9_init_9 : zAl zX9_init 9 0 10 := Or.inl ⟨0, rfl, by decide +kernel, rfl⟩
theorem iX9_init_10 : zCo zX9_init 10 (-1) 11 := Or.inl ⟨-1, by decide, by decide +kernel, rfl⟩
theorem iX9_init_11 : zPf zX9_init 11 9 7 .int 14 := ⟨15, _, _, _, zcf_9, by decide, by decide +kernel, rfl, zT3_of (i := 81) rfl rfl, by decide +kernel, Or.inl rfl⟩
theorem iX9_init_14 : zAl zX9_init 14 0 15 := Or.inl ⟨0, rfl, by decide +kernel, rfl⟩
theorem iX9_init_15 : zIl zX9_init 15 1 16 := Or.inl ⟨1, rfl, by decide +kernel, rfl⟩
theorem iX9_init_16 : zPf zX9_init 16 9 0 .int 19 := ⟨18, _, _, _, zcf_9, by decide, by decide +kernel, rfl, zT3_of (i := 68) rfl rfl, by decide +kernel, Or.inr ⟨rfl, rfl, rfl⟩⟩
theorem iX9_init_19 : zAl zX9_init 19 0 20 := Or.inl ⟨0, rfl, by decide +kernel, rfl⟩
theorem iX9_init_20 : zIl zX9_init 20 2 21 := Or.inl ⟨2, rfl, by decide +kernel, rfl⟩
theorem iX9_init_21 : zPf zX9_init 21 9 1 .int 24 := ⟨21, _, _, _, zcf_9, by decide, by decide +kernel, rfl, zT3_of (i := 70) rfl rfl, by decide +kernel, Or.inr ⟨rfl, rfl, rfl⟩⟩
theorem iX9_init_24 : zAl zX9_init 24 0 25 := Or.inl ⟨0, rfl, by decide +kernel, rfl⟩
theorem iX9_init_25 : zAl zX9_init 25 3 26 := Or.inl ⟨3, rfl, by decide +kernel, rfl⟩
theorem iX9_init_26 : zPf zX9_init 26 9 2 (.object "ToolCrib$Edge") 29 := ⟨24, _, _, _, zcf_9, by decide, by decide +kernel, rfl, zT3_of (i := 72) rfl rfl, by decide +kernel, Or.inr ⟨rfl, rfl, rfl⟩⟩
theorem iX9_init_29 : zAl zX9_init 29 0 30 := Or.inl ⟨0, rfl, by decide +kernel, rfl⟩
theorem iX9_init_30 : zIl zX9_init 30 4 32 := Or.inr ⟨by decide +kernel, rfl⟩
theorem iX9_init_32 : zPf zX9_init 32 9 3 .int 35 := ⟨28, _, _, _, zcf_9, by decide, by decide +kernel, rfl, zT3_of (i := 74) rfl rfl, by decide +kernel, Or.inr ⟨rfl, rfl, rfl⟩⟩
theorem iX9_init_35 : zAl zX9_init 35 0 36 := Or.inl ⟨0, rfl, by decide +kernel, rfl⟩
theorem iX9_init_36 : zIl zX9_init 36 5 38 := Or.inr ⟨by decide +kernel, rfl⟩
theorem iX9_init_38 : zPf zX9_init 38 9 4 .int 41 := ⟨31, _, _, _, zcf_9, by decide, by decide +kernel, rfl, zT3_of (i := 76) rfl rfl, by decide +kernel, Or.inr ⟨rfl, rfl, rfl⟩⟩
theorem iX9_init_41 : zD zX9_init 41 1 (.return_) 42 := ⟨by decide +kernel, rfl⟩
theorem iX9_nominal_0 : zAl zX9_nominal 0 0 1 := Or.inl ⟨0, rfl, by decide +kernel, rfl⟩
theorem iX9_nominal_1 : zGf zX9_nominal 1 9 0 4 := ⟨18, _, _, _, zcf_9, by decide, by decide +kernel, rfl, zT3_of (i := 68) rfl rfl⟩
theorem iX9_nominal_4 : zAl zX9_nominal 4 0 5 := Or.inl ⟨0, rfl, by decide +kernel, rfl⟩
theorem iX9_nominal_5 : zGf zX9_nominal 5 9 2 8 := ⟨24, _, _, _, zcf_9, by decide, by decide +kernel, rfl, zT3_of (i := 72) rfl rfl⟩
theorem iX9_nominal_8 : zGf zX9_nominal 8 0 5 11 := ⟨34, _, _, _, zcf_0, by decide, by decide +kernel, rfl, zT2_of (i := 202) rfl rfl⟩
theorem iX9_nominal_11 : zD zX9_nominal 11 1 (.iadd) 12 := ⟨by decide +kernel, rfl⟩
theorem iX9_nominal_12 : zD zX9_nominal 12 1 (.ireturn) 13 := ⟨by decide +kernel, rfl⟩
