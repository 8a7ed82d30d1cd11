theorem iX10_init_0 : zAl zX10_init 0 0 1 := Or.inl ⟨0, rfl, by decide +kernel, rfl⟩
theorem iX10_init_1 : zOi zX10_init 1 4 := ⟨1, by decide +kernel, rfl, zT1_of (i := 24) rfl rfl, zT1_of (i := 25) rfl rfl, zT1_of (i := 26) rfl rfl⟩
theorem iX10_init_4 : zAl zX10_init 4 0 5 := Or.inl ⟨0, rfl, by decide +kernel, rfl⟩
theorem iX10_init_5 : zCo zX10_init 5 (24) 7 := Or.inr (Or.inl ⟨24, by decide, by decide +kernel, rfl⟩)
theorem iX10_init_7 : zNA zX10_init 7 4 10 := ⟨9, "ToolCrib$Edge", by decide, fun _ => rfl, by decide +kernel, rfl, zT1_of (i := 27) rfl rfl⟩
theorem iX10_init_10 : zPf zX10_init 10 10 0 (.array (.object "ToolCrib$Edge")) 13 := ⟨11, _, _, _, zcf_10, by decide, by decide +kernel, rfl, zT2_of (i := 132) rfl rfl, by decide +kernel, Or.inr ⟨rfl, rfl, rfl⟩⟩
theorem iX10_init_13 : zAl zX10_init 13 0 14 := Or.inl ⟨0, rfl, by decide +kernel, rfl⟩
theorem iX10_init_14 : zCo zX10_init 14 (10) 16 := Or.inr (Or.inl ⟨10, by decide, by decide +kernel, rfl⟩)
theorem iX10_init_16 : zNA zX10_init 16 5 19 := ⟨15, "ToolCrib$Tool", by decide, fun _ => rfl, by decide +kernel, rfl, zT1_of (i := 29) rfl rfl⟩
theorem iX10_init_19 : zPf zX10_init 19 10 1 (.array (.object "ToolCrib$Tool")) 22 := ⟨17, _, _, _, zcf_10, by decide, by decide +kernel, rfl, zT2_of (i := 133) rfl rfl, by decide +kernel, Or.inr ⟨rfl, rfl, rfl⟩⟩
theorem iX10_init_22 : zAl zX10_init 22 0 23 := Or.inl ⟨0, rfl, by decide +kernel, rfl⟩
theorem iX10_init_23 : zCo zX10_init 23 (3) 24 := Or.inl ⟨3, by decide, by decide +kernel, rfl⟩
theorem iX10_init_24 : zNA zX10_init 24 6 27 := ⟨21, "ToolCrib$Machine", by decide, fun _ => rfl, by decide +kernel, rfl, zT1_of (i := 31) rfl rfl⟩
theorem iX10_init_27 : zPf zX10_init 27 10 2 (.array (.object "ToolCrib$Machine")) 30 := ⟨23, _, _, _, zcf_10, by decide, by decide +kernel, rfl, zT2_of (i := 134) rfl rfl, by decide +kernel, Or.inr ⟨rfl, rfl, rfl⟩⟩
theorem iX10_init_30 : zAl zX10_init 30 0 31 := Or.inl ⟨0, rfl, by decide +kernel, rfl⟩
theorem iX10_init_31 : zCo zX10_init 31 (6) 33 := Or.inr (Or.inl ⟨6, by decide, by decide +kernel, rfl⟩)
theorem iX10_init_33 : zNA zX10_init 33 7 36 := ⟨27, "ToolCrib$Text", by decide, fun _ => rfl, by decide +kernel, rfl, zT1_of (i := 33) rfl rfl⟩
theorem iX10_init_36 : zPf zX10_init 36 10 3 (.array (.object "ToolCrib$Text")) 39 := ⟨29, _, _, _, zcf_10, by decide, by decide +kernel, rfl, zT2_of (i := 135) rfl rfl, by decide +kernel, Or.inr ⟨rfl, rfl, rfl⟩⟩
theorem iX10_init_39 : zAl zX10_init 39 0 40 := Or.inl ⟨0, rfl, by decide +kernel, rfl⟩
theorem iX10_init_40 : zCo zX10_init 40 (4) 41 := Or.inl ⟨4, by decide, by decide +kernel, rfl⟩
theorem iX10_init_41 : zNA zX10_init 41 8 44 := ⟨33, "ToolCrib$Sheet", by decide, fun _ => rfl, by decide +kernel, rfl, zT1_of (i := 35) rfl rfl⟩
theorem iX10_init_44 : zPf zX10_init 44 10 4 (.array (.object "ToolCrib$Sheet")) 47 := ⟨35, _, _, _, zcf_10, by decide, by decide +kernel, rfl, zT2_of (i := 136) rfl rfl, by decide +kernel, Or.inr ⟨rfl, rfl, rfl⟩⟩
theorem iX10_init_47 : zAl zX10_init 47 0 48 := Or.inl ⟨0, rfl, by decide +kernel, rfl⟩
theorem iX10_init_48 : zNw zX10_init 48 4 51 := ⟨39, _, _, _, zcf_4, by decide +kernel, rfl, zT1_of (i := 37) rfl rfl, zT1_of (i := 38) rfl rfl, zT1_of (i := 2) rfl rfl⟩
theorem iX10_init_51 : zD zX10_init 51 1 (.dup) 52 := ⟨by decide +kernel, rfl⟩
theorem iX10_init_52 : zCl zX10_init 52 .invokespecial zX4_init 55 := ⟨41, by decide +kernel, rfl, Or.inr ⟨"ToolCrib", by decide +kernel⟩⟩
theorem iX10_init_55 : zPf zX10_init 55 10 5 (.object "ToolCrib$Setter") 58 := ⟨42, _, _, _, zcf_10, by decide, by decide +kernel, rfl, zT2_of (i := 137) rfl rfl, by decide +kernel, Or.inr ⟨rfl, rfl, rfl⟩⟩
theorem iX10_init_58 : zAl zX10_init 58 0 59 := Or.inl ⟨0, rfl, by decide +kernel, rfl⟩
theorem iX10_init_59 : zNw zX10_init 59 1 62 := ⟨46, _, _, _, zcf_1, by decide +kernel, rfl, zT1_of (i := 55) rfl rfl, zT1_of (i := 56) rfl rfl, zT1_of (i := 3) rfl rfl⟩
theorem iX10_init_62 : zD zX10_init 62 1 (.dup) 63 := ⟨by decide +kernel, rfl⟩
theorem iX10_init_63 : zCl zX10_init 63 .invokespecial zX1_init 66 := ⟨48, by decide +kernel, rfl, Or.inl (zT1_of (i := 57) rfl rfl)⟩
theorem iX10_init_66 : zPf zX10_init 66 10 6 (.object "ToolCrib$Jobs") 69 := ⟨49, _, _, _, zcf_10, by decide, by decide +kernel, rfl, zT2_of (i := 138) rfl rfl, by decide +kernel, Or.inr ⟨rfl, rfl, rfl⟩⟩
theorem iX10_init_69 : zAl zX10_init 69 0 70 := Or.inl ⟨0, rfl, by decide +kernel, rfl⟩
theorem iX10_init_70 : zNw zX10_init 70 7 73 := ⟨53, _, _, _, zcf_7, by decide +kernel, rfl, zT1_of (i := 85) rfl rfl, zT1_of (i := 86) rfl rfl, zT1_of (i := 4) rfl rfl⟩
theorem iX10_init_73 : zD zX10_init 73 1 (.dup) 74 := ⟨by decide +kernel, rfl⟩
theorem iX10_init_74 : zCl zX10_init 74 .invokespecial zX7_init 77 := ⟨55, by decide +kernel, rfl, Or.inr ⟨"ToolCrib", by decide +kernel⟩⟩
theorem iX10_init_77 : zPf zX10_init 77 10 7 (.object "ToolCrib$Tape") 80 := ⟨56, _, _, _, zcf_10, by decide, by decide +kernel, rfl, zT2_of (i := 139) rfl rfl, by decide +kernel, Or.inr ⟨rfl, rfl, rfl⟩⟩
theorem iX10_init_80 : zAl zX10_init 80 0 81 := Or.inl ⟨0, rfl, by decide +kernel, rfl⟩
theorem iX10_init_81 : zNw zX10_init 81 3 84 := ⟨60, _, _, _, zcf_3, by decide +kernel, rfl, zT1_of (i := 109) rfl rfl, zT1_of (i := 110) rfl rfl, zT1_of (i := 5) rfl rfl⟩
theorem iX10_init_84 : zD zX10_init 84 1 (.dup) 85 := ⟨by decide +kernel, rfl⟩
theorem iX10_init_85 : zAl zX10_init 85 0 86 := Or.inl ⟨0, rfl, by decide +kernel, rfl⟩
theorem iX10_init_86 : zGf zX10_init 86 10 7 89 := ⟨56, _, _, _, zcf_10, by decide, by decide +kernel, rfl, zT2_of (i := 139) rfl rfl⟩
theorem iX10_init_89 : zCl zX10_init 89 .invokespecial zX3_init 92 := ⟨62, by decide +kernel, rfl, Or.inl (zT1_of (i := 111) rfl rfl)⟩
theorem iX10_init_92 : zPf zX10_init 92 10 8 (.object "ToolCrib$Reader") 95 := ⟨65, _, _, _, zcf_10, by decide, by decide +kernel, rfl, zT2_of (i := 140) rfl rfl, by decide +kernel, Or.inr ⟨rfl, rfl, rfl⟩⟩
theorem iX10_init_95 : zAl zX10_init 95 0 96 := Or.inl ⟨0, rfl, by decide +kernel, rfl⟩
theorem iX10_init_96 : zNw zX10_init 96 6 99 := ⟨69, _, _, _, zcf_6, by decide +kernel, rfl, zT1_of (i := 131) rfl rfl, zT1_of (i := 132) rfl rfl, zT1_of (i := 6) rfl rfl⟩
theorem iX10_init_99 : zD zX10_init 99 1 (.dup) 100 := ⟨by decide +kernel, rfl⟩
theorem iX10_init_100 : zCl zX10_init 100 .invokespecial zX6_init 103 := ⟨71, by decide +kernel, rfl, Or.inr ⟨"ToolCrib", by decide +kernel⟩⟩
theorem iX10_init_103 : zPf zX10_init 103 10 9 (.object "ToolCrib$Stack") 106 := ⟨72, _, _, _, zcf_10, by decide, by decide +kernel, rfl, zT2_of (i := 141) rfl rfl, by decide +kernel, Or.inr ⟨rfl, rfl, rfl⟩⟩
theorem iX10_init_106 : zAl zX10_init 106 0 107 := Or.inl ⟨0, rfl, by decide +kernel, rfl⟩
theorem iX10_init_107 : zCo zX10_init 107 (6) 109 := Or.inr (Or.inl ⟨6, by decide, by decide +kernel, rfl⟩)
theorem iX10_init_109 : zD zX10_init 109 2 (.newarray .int) 111 := ⟨by decide +kernel, rfl⟩
theorem iX10_init_111 : zPf zX10_init 111 10 10 (.array .int) 114 := ⟨76, _, _, _, zcf_10, by decide, by decide +kernel, rfl, zT2_of (i := 142) rfl rfl, by decide +kernel, Or.inr ⟨rfl, rfl, rfl⟩⟩
theorem iX10_init_114 : zCo zX10_init 114 (0) 115 := Or.inl ⟨0, by decide, by decide +kernel, rfl⟩
theorem iX10_init_115 : zIs zX10_init 115 1 116 := ⟨by decide, Or.inl ⟨1, rfl, by decide +kernel, rfl⟩⟩
theorem iX10_init_116 : zIl zX10_init 116 1 117 := Or.inl ⟨1, rfl, by decide +kernel, rfl⟩
theorem iX10_init_117 : zCo zX10_init 117 (6) 119 := Or.inr (Or.inl ⟨6, by decide, by decide +kernel, rfl⟩)
theorem iX10_init_119 : zB zX10_init 119 (.if_icmp .ge) 122 141 := ⟨22, by decide +kernel, rfl, by decide⟩
theorem iX10_init_122 : zAl zX10_init 122 0 123 := Or.inl ⟨0, rfl, by decide +kernel, rfl⟩
theorem iX10_init_123 : zGf zX10_init 123 10 3 126 := ⟨29, _, _, _, zcf_10, by decide, by decide +kernel, rfl, zT2_of (i := 135) rfl rfl⟩
theorem iX10_init_126 : zIl zX10_init 126 1 127 := Or.inl ⟨1, rfl, by decide +kernel, rfl⟩
theorem iX10_init_127 : zNw zX10_init 127 8 130 := ⟨27, _, _, _, zcf_8, by decide +kernel, rfl, zT1_of (i := 33) rfl rfl, zT1_of (i := 144) rfl rfl, zT1_of (i := 7) rfl rfl⟩
theorem iX10_init_130 : zD zX10_init 130 1 (.dup) 131 := ⟨by decide +kernel, rfl⟩
theorem iX10_init_131 : zCl zX10_init 131 .invokespecial zX8_init 134 := ⟨80, by decide +kernel, rfl, Or.inr ⟨"ToolCrib", by decide +kernel⟩⟩
theorem iX10_init_134 : zD zX10_init 134 1 (.aastore) 135 := ⟨by decide +kernel, rfl⟩
theorem iX10_init_135 : zIn zX10_init 135 1 (1) 138 := ⟨by decide, 1, by decide, by decide +kernel, rfl⟩
theorem iX10_init_138 : zB zX10_init 138 .goto 141 116 := ⟨-22, by decide +kernel, rfl, by decide⟩
theorem iX10_init_141 : zCo zX10_init 141 (0) 142 := Or.inl ⟨0, by decide, by decide +kernel, rfl⟩
theorem iX10_init_142 : zIs zX10_init 142 1 143 := ⟨by decide, Or.inl ⟨1, rfl, by decide +kernel, rfl⟩⟩
theorem iX10_init_143 : zIl zX10_init 143 1 144 := Or.inl ⟨1, rfl, by decide +kernel, rfl⟩
theorem iX10_init_144 : zCo zX10_init 144 (4) 145 := Or.inl ⟨4, by decide, by decide +kernel, rfl⟩
theorem iX10_init_145 : zB zX10_init 145 (.if_icmp .ge) 148 167 := ⟨22, by decide +kernel, rfl, by decide⟩
theorem iX10_init_148 : zAl zX10_init 148 0 149 := Or.inl ⟨0, rfl, by decide +kernel, rfl⟩
theorem iX10_init_149 : zGf zX10_init 149 10 4 152 := ⟨35, _, _, _, zcf_10, by decide, by decide +kernel, rfl, zT2_of (i := 136) rfl rfl⟩
theorem iX10_init_152 : zIl zX10_init 152 1 153 := Or.inl ⟨1, rfl, by decide +kernel, rfl⟩
theorem iX10_init_153 : zNw zX10_init 153 5 156 := ⟨33, _, _, _, zcf_5, by decide +kernel, rfl, zT1_of (i := 35) rfl rfl, zT1_of (i := 162) rfl rfl, zT1_of (i := 8) rfl rfl⟩
theorem iX10_init_156 : zD zX10_init 156 1 (.dup) 157 := ⟨by decide +kernel, rfl⟩
theorem iX10_init_157 : zCl zX10_init 157 .invokespecial zX5_init 160 := ⟨81, by decide +kernel, rfl, Or.inr ⟨"ToolCrib", by decide +kernel⟩⟩
theorem iX10_init_160 : zD zX10_init 160 1 (.aastore) 161 := ⟨by decide +kernel, rfl⟩
theorem iX10_init_161 : zIn zX10_init 161 1 (1) 164 := ⟨by decide, 1, by decide, by decide +kernel, rfl⟩
theorem iX10_init_164 : zB zX10_init 164 .goto 167 143 := ⟨-21, by decide +kernel, rfl, by decide⟩
theorem iX10_init_167 : zCo zX10_init 167 (0) 168 := Or.inl ⟨0, by decide, by decide +kernel, rfl⟩
theorem iX10_init_168 : zIs zX10_init 168 1 169 := ⟨by decide, Or.inl ⟨1, rfl, by decide +kernel, rfl⟩⟩
theorem iX10_init_169 : zIl zX10_init 169 1 170 := Or.inl ⟨1, rfl, by decide +kernel, rfl⟩
theorem iX10_init_170 : zLd zX10_init 170 0 172 := ⟨82, "worn life < cuts ; broken 500 < cuts * speed ; check reading = nominal ;", by decide +kernel, by decide +kernel, rfl⟩
theorem iX10_init_172 : zCl zX10_init 172 .invokevirtual zJ0_length_8abf5 175 := ⟨84, by decide +kernel, rfl, Or.inl (zT1_of (i := 179) rfl rfl)⟩
theorem iX10_init_175 : zB zX10_init 175 (.if_icmp .ge) 178 198 := ⟨23, by decide +kernel, rfl, by decide⟩
theorem iX10_init_178 : zAl zX10_init 178 0 179 := Or.inl ⟨0, rfl, by decide +kernel, rfl⟩
theorem iX10_init_179 : zGf zX10_init 179 10 7 182 := ⟨56, _, _, _, zcf_10, by decide, by decide +kernel, rfl, zT2_of (i := 139) rfl rfl⟩
theorem iX10_init_182 : zLd zX10_init 182 0 184 := ⟨82, "worn life < cuts ; broken 500 < cuts * speed ; check reading = nominal ;", by decide +kernel, by decide +kernel, rfl⟩
theorem iX10_init_184 : zIl zX10_init 184 1 185 := Or.inl ⟨1, rfl, by decide +kernel, rfl⟩
theorem iX10_init_185 : zCl zX10_init 185 .invokevirtual zJ0_charAt_5068e 188 := ⟨90, by decide +kernel, rfl, Or.inl (zT1_of (i := 189) rfl rfl)⟩
theorem iX10_init_188 : zD zX10_init 188 1 (.i2b) 189 := ⟨by decide +kernel, rfl⟩
theorem iX10_init_189 : zCl zX10_init 189 .invokevirtual zX7_add 192 := ⟨94, by decide +kernel, rfl, Or.inl (zT1_of (i := 227) rfl rfl)⟩
theorem iX10_init_192 : zIn zX10_init 192 1 (1) 195 := ⟨by decide, 1, by decide, by decide +kernel, rfl⟩
theorem iX10_init_195 : zB zX10_init 195 .goto 198 169 := ⟨-26, by decide +kernel, rfl, by decide⟩
theorem iX10_init_198 : zAl zX10_init 198 0 199 := Or.inl ⟨0, rfl, by decide +kernel, rfl⟩
theorem iX10_init_199 : zGf zX10_init 199 10 8 202 := ⟨65, _, _, _, zcf_10, by decide, by decide +kernel, rfl, zT2_of (i := 140) rfl rfl⟩
theorem iX10_init_202 : zAl zX10_init 202 0 203 := Or.inl ⟨0, rfl, by decide +kernel, rfl⟩
theorem iX10_init_203 : zCo zX10_init 203 (0) 204 := Or.inl ⟨0, by decide, by decide +kernel, rfl⟩
theorem iX10_init_204 : zCl zX10_init 204 .invokevirtual zX10_textOf 207 := ⟨98, by decide +kernel, rfl, Or.inl (zT1_of (i := 231) rfl rfl)⟩
theorem iX10_init_207 : zCl zX10_init 207 .invokevirtual zX3_readInto 210 := ⟨102, by decide +kernel, rfl, Or.inl (zT1_of (i := 238) rfl rfl)⟩
theorem iX10_init_210 : zD zX10_init 210 1 (.pop) 211 := ⟨by decide +kernel, rfl⟩
theorem iX10_init_211 : zAl zX10_init 211 0 212 := Or.inl ⟨0, rfl, by decide +kernel, rfl⟩
theorem iX10_init_212 : zGf zX10_init 212 10 7 215 := ⟨56, _, _, _, zcf_10, by decide, by decide +kernel, rfl, zT2_of (i := 139) rfl rfl⟩
theorem iX10_init_215 : zCl zX10_init 215 .invokevirtual zX7_empty 218 := ⟨106, by decide +kernel, rfl, Or.inl (zT2_of (i := 128) rfl rfl)⟩
theorem iX10_init_218 : zAl zX10_init 218 0 219 := Or.inl ⟨0, rfl, by decide +kernel, rfl⟩
theorem iX10_init_219 : zCo zX10_init 219 (1) 220 := Or.inl ⟨1, by decide, by decide +kernel, rfl⟩
theorem iX10_init_220 : zPf zX10_init 220 10 14 .int 223 := ⟨109, _, _, _, zcf_10, by decide, by decide +kernel, rfl, zT2_of (i := 146) rfl rfl, by decide +kernel, Or.inl rfl⟩
theorem iX10_init_223 : zD zX10_init 223 1 (.return_) 224 := ⟨by decide +kernel, rfl⟩
theorem iX10_edge_0 : zIl zX10_edge 0 1 1 := Or.inl ⟨1, rfl, by decide +kernel, rfl⟩
theorem iX10_edge_1 : zCo zX10_edge 1 (0) 2 := Or.inl ⟨0, by decide, by decide +kernel, rfl⟩
theorem iX10_edge_2 : zCo zX10_edge 2 (5) 3 := Or.inl ⟨5, by decide, by decide +kernel, rfl⟩
theorem iX10_edge_3 : zCl zX10_edge 3 .invokestatic zX10_within 6 := ⟨113, by decide +kernel, rfl, Or.inl (zT1_of (i := 235) rfl rfl)⟩
theorem iX10_edge_6 : zB zX10_edge 6 (.ifCond .eq) 9 30 := ⟨24, by decide +kernel, rfl, by decide⟩
theorem iX10_edge_9 : zIl zX10_edge 9 2 10 := Or.inl ⟨2, rfl, by decide +kernel, rfl⟩
theorem iX10_edge_10 : zCo zX10_edge 10 (10) 12 := Or.inr (Or.inl ⟨10, by decide, by decide +kernel, rfl⟩)
theorem iX10_edge_12 : zCo zX10_edge 12 (200) 15 := Or.inr (Or.inr (Or.inl ⟨200, by decide, by decide +kernel, rfl⟩))
theorem iX10_edge_15 : zCl zX10_edge 15 .invokestatic zX10_within 18 := ⟨113, by decide +kernel, rfl, Or.inl (zT1_of (i := 235) rfl rfl)⟩
theorem iX10_edge_18 : zB zX10_edge 18 (.ifCond .eq) 21 30 := ⟨12, by decide +kernel, rfl, by decide⟩
theorem iX10_edge_21 : zIl zX10_edge 21 3 22 := Or.inl ⟨3, rfl, by decide +kernel, rfl⟩
theorem iX10_edge_22 : zCo zX10_edge 22 (1) 23 := Or.inl ⟨1, by decide, by decide +kernel, rfl⟩
theorem iX10_edge_23 : zIl zX10_edge 23 2 24 := Or.inl ⟨2, rfl, by decide +kernel, rfl⟩
theorem iX10_edge_24 : zCl zX10_edge 24 .invokestatic zX10_within 27 := ⟨113, by decide +kernel, rfl, Or.inl (zT1_of (i := 235) rfl rfl)⟩
theorem iX10_edge_27 : zB zX10_edge 27 (.ifCond .ne) 30 33 := ⟨6, by decide +kernel, rfl, by decide⟩
theorem iX10_edge_30 : zCo zX10_edge 30 (-2) 32 := Or.inr (Or.inl ⟨-2, by decide, by decide +kernel, rfl⟩)
theorem iX10_edge_32 : zD zX10_edge 32 1 (.ireturn) 33 := ⟨by decide +kernel, rfl⟩
theorem iX10_edge_33 : zIl zX10_edge 33 1 34 := Or.inl ⟨1, rfl, by decide +kernel, rfl⟩
theorem iX10_edge_34 : zCo zX10_edge 34 (1) 35 := Or.inl ⟨1, by decide, by decide +kernel, rfl⟩
theorem iX10_edge_35 : zCl zX10_edge 35 .invokestatic zX10_isUnder 38 := ⟨117, by decide +kernel, rfl, Or.inl (zT2_of (i := 185) rfl rfl)⟩
theorem iX10_edge_38 : zIs zX10_edge 38 6 40 := ⟨by decide, Or.inr ⟨by decide +kernel, rfl⟩⟩
theorem iX10_edge_40 : zIl zX10_edge 40 6 42 := Or.inr ⟨by decide +kernel, rfl⟩
theorem iX10_edge_42 : zB zX10_edge 42 (.ifCond .eq) 45 59 := ⟨17, by decide +kernel, rfl, by decide⟩
theorem iX10_edge_45 : zIl zX10_edge 45 4 47 := Or.inr ⟨by decide +kernel, rfl⟩
theorem iX10_edge_47 : zCo zX10_edge 47 (1) 48 := Or.inl ⟨1, by decide, by decide +kernel, rfl⟩
theorem iX10_edge_48 : zCo zX10_edge 48 (8) 50 := Or.inr (Or.inl ⟨8, by decide, by decide +kernel, rfl⟩)
theorem iX10_edge_50 : zCl zX10_edge 50 .invokestatic zX10_within 53 := ⟨113, by decide +kernel, rfl, Or.inl (zT1_of (i := 235) rfl rfl)⟩
theorem iX10_edge_53 : zB zX10_edge 53 (.ifCond .ne) 56 59 := ⟨6, by decide +kernel, rfl, by decide⟩
theorem iX10_edge_56 : zCo zX10_edge 56 (-2) 58 := Or.inr (Or.inl ⟨-2, by decide, by decide +kernel, rfl⟩)
theorem iX10_edge_58 : zD zX10_edge 58 1 (.ireturn) 59 := ⟨by decide +kernel, rfl⟩
theorem iX10_edge_59 : zIl zX10_edge 59 5 61 := Or.inr ⟨by decide +kernel, rfl⟩
theorem iX10_edge_61 : zCo zX10_edge 61 (1) 62 := Or.inl ⟨1, by decide, by decide +kernel, rfl⟩
theorem iX10_edge_62 : zCo zX10_edge 62 (999) 65 := Or.inr (Or.inr (Or.inl ⟨999, by decide, by decide +kernel, rfl⟩))
theorem iX10_edge_65 : zCl zX10_edge 65 .invokestatic zX10_within 68 := ⟨113, by decide +kernel, rfl, Or.inl (zT1_of (i := 235) rfl rfl)⟩
theorem iX10_edge_68 : zB zX10_edge 68 (.ifCond .ne) 71 74 := ⟨6, by decide +kernel, rfl, by decide⟩
theorem iX10_edge_71 : zCo zX10_edge 71 (-2) 73 := Or.inr (Or.inl ⟨-2, by decide, by decide +kernel, rfl⟩)
theorem iX10_edge_73 : zD zX10_edge 73 1 (.ireturn) 74 := ⟨by decide +kernel, rfl⟩
theorem iX10_edge_74 : zAl zX10_edge 74 0 75 := Or.inl ⟨0, rfl, by decide +kernel, rfl⟩
theorem iX10_edge_75 : zGf zX10_edge 75 10 11 78 := ⟨121, _, _, _, zcf_10, by decide, by decide +kernel, rfl, zT2_of (i := 143) rfl rfl⟩
theorem iX10_edge_78 : zCo zX10_edge 78 (24) 80 := Or.inr (Or.inl ⟨24, by decide, by decide +kernel, rfl⟩)
theorem iX10_edge_80 : zB zX10_edge 80 (.if_icmp .lt) 83 86 := ⟨6, by decide +kernel, rfl, by decide⟩
theorem iX10_edge_83 : zCo zX10_edge 83 (-4) 85 := Or.inr (Or.inl ⟨-4, by decide, by decide +kernel, rfl⟩)
theorem iX10_edge_85 : zD zX10_edge 85 1 (.ireturn) 86 := ⟨by decide +kernel, rfl⟩
theorem iX10_edge_86 : zAl zX10_edge 86 0 87 := Or.inl ⟨0, rfl, by decide +kernel, rfl⟩
theorem iX10_edge_87 : zGf zX10_edge 87 10 0 90 := ⟨11, _, _, _, zcf_10, by decide, by decide +kernel, rfl, zT2_of (i := 132) rfl rfl⟩
theorem iX10_edge_90 : zAl zX10_edge 90 0 91 := Or.inl ⟨0, rfl, by decide +kernel, rfl⟩
theorem iX10_edge_91 : zGf zX10_edge 91 10 11 94 := ⟨121, _, _, _, zcf_10, by decide, by decide +kernel, rfl, zT2_of (i := 143) rfl rfl⟩
theorem iX10_edge_94 : zNw zX10_edge 94 0 97 := ⟨9, _, _, _, zcf_0, by decide +kernel, rfl, zT1_of (i := 27) rfl rfl, zT2_of (i := 188) rfl rfl, zT1_of (i := 14) rfl rfl⟩
theorem iX10_edge_97 : zD zX10_edge 97 1 (.dup) 98 := ⟨by decide +kernel, rfl⟩
theorem iX10_edge_98 : zIl zX10_edge 98 1 99 := Or.inl ⟨1, rfl, by decide +kernel, rfl⟩
theorem iX10_edge_99 : zIl zX10_edge 99 2 100 := Or.inl ⟨2, rfl, by decide +kernel, rfl⟩
theorem iX10_edge_100 : zIl zX10_edge 100 3 101 := Or.inl ⟨3, rfl, by decide +kernel, rfl⟩
theorem iX10_edge_101 : zIl zX10_edge 101 6 103 := Or.inr ⟨by decide +kernel, rfl⟩
theorem iX10_edge_103 : zB zX10_edge 103 (.ifCond .eq) 106 113 := ⟨10, by decide +kernel, rfl, by decide⟩
theorem iX10_edge_106 : zIl zX10_edge 106 4 108 := Or.inr ⟨by decide +kernel, rfl⟩
theorem iX10_edge_108 : zCo zX10_edge 108 (1) 109 := Or.inl ⟨1, by decide, by decide +kernel, rfl⟩
theorem iX10_edge_109 : zD zX10_edge 109 1 (.isub) 110 := ⟨by decide +kernel, rfl⟩
theorem iX10_edge_110 : zB zX10_edge 110 .goto 113 114 := ⟨4, by decide +kernel, rfl, by decide⟩
theorem iX10_edge_113 : zCo zX10_edge 113 (0) 114 := Or.inl ⟨0, by decide, by decide +kernel, rfl⟩
theorem iX10_edge_114 : zIl zX10_edge 114 5 116 := Or.inr ⟨by decide +kernel, rfl⟩
theorem iX10_edge_116 : zCl zX10_edge 116 .invokespecial zX0_init 119 := ⟨124, by decide +kernel, rfl, Or.inl (zT2_of (i := 189) rfl rfl)⟩
theorem iX10_edge_119 : zD zX10_edge 119 1 (.aastore) 120 := ⟨by decide +kernel, rfl⟩
theorem iX10_edge_120 : zAl zX10_edge 120 0 121 := Or.inl ⟨0, rfl, by decide +kernel, rfl⟩
theorem iX10_edge_121 : zD zX10_edge 121 1 (.dup) 122 := ⟨by decide +kernel, rfl⟩
theorem iX10_edge_122 : zGf zX10_edge 122 10 11 125 := ⟨121, _, _, _, zcf_10, by decide, by decide +kernel, rfl, zT2_of (i := 143) rfl rfl⟩
theorem iX10_edge_125 : zCo zX10_edge 125 (1) 126 := Or.inl ⟨1, by decide, by decide +kernel, rfl⟩
theorem iX10_edge_126 : zD zX10_edge 126 1 (.iadd) 127 := ⟨by decide +kernel, rfl⟩
theorem iX10_edge_127 : zPf zX10_edge 127 10 11 .int 130 := ⟨121, _, _, _, zcf_10, by decide, by decide +kernel, rfl, zT2_of (i := 143) rfl rfl, by decide +kernel, Or.inl rfl⟩
theorem iX10_edge_130 : zAl zX10_edge 130 0 131 := Or.inl ⟨0, rfl, by decide +kernel, rfl⟩
theorem iX10_edge_131 : zGf zX10_edge 131 10 11 134 := ⟨121, _, _, _, zcf_10, by decide, by decide +kernel, rfl, zT2_of (i := 143) rfl rfl⟩
theorem iX10_edge_134 : zCo zX10_edge 134 (1) 135 := Or.inl ⟨1, by decide, by decide +kernel, rfl⟩
theorem iX10_edge_135 : zD zX10_edge 135 1 (.isub) 136 := ⟨by decide +kernel, rfl⟩
theorem iX10_edge_136 : zD zX10_edge 136 1 (.ireturn) 137 := ⟨by decide +kernel, rfl⟩
theorem iX10_edgeTold_0 : zAl zX10_edgeTold 0 0 1 := Or.inl ⟨0, rfl, by decide +kernel, rfl⟩
theorem iX10_edgeTold_1 : zIl zX10_edgeTold 1 1 2 := Or.inl ⟨1, rfl, by decide +kernel, rfl⟩
theorem iX10_edgeTold_2 : zCl zX10_edgeTold 2 .invokevirtual zX10_edgeOf 5 := ⟨127, by decide +kernel, rfl, Or.inl (zT3_of (i := 9) rfl rfl)⟩
theorem iX10_edgeTold_5 : zAs zX10_edgeTold 5 3 6 := ⟨by decide, Or.inl ⟨3, rfl, by decide +kernel, rfl⟩⟩
theorem iX10_edgeTold_6 : zAl zX10_edgeTold 6 3 7 := Or.inl ⟨3, rfl, by decide +kernel, rfl⟩
theorem iX10_edgeTold_7 : zB zX10_edgeTold 7 .ifnonnull 10 13 := ⟨6, by decide +kernel, rfl, by decide⟩
theorem iX10_edgeTold_10 : zCo zX10_edgeTold 10 (-2) 12 := Or.inr (Or.inl ⟨-2, by decide, by decide +kernel, rfl⟩)
theorem iX10_edgeTold_12 : zD zX10_edgeTold 12 1 (.ireturn) 13 := ⟨by decide +kernel, rfl⟩
theorem iX10_edgeTold_13 : zIl zX10_edgeTold 13 2 14 := Or.inl ⟨2, rfl, by decide +kernel, rfl⟩
theorem iX10_edgeTold_14 : zSw zX10_edgeTold 14 (0) [60, 65, 70, 75, 80, 85, 90, 95] 100 := ⟨7, #[46, 51, 56, 61, 66, 71, 76, 81], 86, 46, by decide +kernel, by decide, by decide, by decide⟩
theorem iX10_edgeTold_60 : zAl zX10_edgeTold 60 3 61 := Or.inl ⟨3, rfl, by decide +kernel, rfl⟩
theorem iX10_edgeTold_61 : zGf zX10_edgeTold 61 0 0 64 := ⟨131, _, _, _, zcf_0, by decide, by decide +kernel, rfl, zT2_of (i := 194) rfl rfl⟩
theorem iX10_edgeTold_64 : zD zX10_edgeTold 64 1 (.ireturn) 65 := ⟨by decide +kernel, rfl⟩
theorem iX10_edgeTold_65 : zAl zX10_edgeTold 65 3 66 := Or.inl ⟨3, rfl, by decide +kernel, rfl⟩
theorem iX10_edgeTold_66 : zGf zX10_edgeTold 66 0 5 69 := ⟨134, _, _, _, zcf_0, by decide, by decide +kernel, rfl, zT2_of (i := 203) rfl rfl⟩
theorem iX10_edgeTold_69 : zD zX10_edgeTold 69 1 (.ireturn) 70 := ⟨by decide +kernel, rfl⟩
theorem iX10_edgeTold_70 : zAl zX10_edgeTold 70 3 71 := Or.inl ⟨3, rfl, by decide +kernel, rfl⟩
theorem iX10_edgeTold_71 : zGf zX10_edgeTold 71 0 1 74 := ⟨136, _, _, _, zcf_0, by decide, by decide +kernel, rfl, zT2_of (i := 196) rfl rfl⟩
theorem iX10_edgeTold_74 : zD zX10_edgeTold 74 1 (.ireturn) 75 := ⟨by decide +kernel, rfl⟩
theorem iX10_edgeTold_75 : zAl zX10_edgeTold 75 3 76 := Or.inl ⟨3, rfl, by decide +kernel, rfl⟩
theorem iX10_edgeTold_76 : zGf zX10_edgeTold 76 0 6 79 := ⟨139, _, _, _, zcf_0, by decide, by decide +kernel, rfl, zT2_of (i := 205) rfl rfl⟩
theorem iX10_edgeTold_79 : zD zX10_edgeTold 79 1 (.ireturn) 80 := ⟨by decide +kernel, rfl⟩
theorem iX10_edgeTold_80 : zAl zX10_edgeTold 80 3 81 := Or.inl ⟨3, rfl, by decide +kernel, rfl⟩
theorem iX10_edgeTold_81 : zGf zX10_edgeTold 81 0 2 84 := ⟨142, _, _, _, zcf_0, by decide, by decide +kernel, rfl, zT2_of (i := 198) rfl rfl⟩
theorem iX10_edgeTold_84 : zD zX10_edgeTold 84 1 (.ireturn) 85 := ⟨by decide +kernel, rfl⟩
theorem iX10_edgeTold_85 : zAl zX10_edgeTold 85 3 86 := Or.inl ⟨3, rfl, by decide +kernel, rfl⟩
theorem iX10_edgeTold_86 : zGf zX10_edgeTold 86 0 7 89 := ⟨145, _, _, _, zcf_0, by decide, by decide +kernel, rfl, zT2_of (i := 207) rfl rfl⟩
theorem iX10_edgeTold_89 : zD zX10_edgeTold 89 1 (.ireturn) 90 := ⟨by decide +kernel, rfl⟩
theorem iX10_edgeTold_90 : zAl zX10_edgeTold 90 3 91 := Or.inl ⟨3, rfl, by decide +kernel, rfl⟩
theorem iX10_edgeTold_91 : zGf zX10_edgeTold 91 0 8 94 := ⟨148, _, _, _, zcf_0, by decide, by decide +kernel, rfl, zT2_of (i := 208) rfl rfl⟩
theorem iX10_edgeTold_94 : zD zX10_edgeTold 94 1 (.ireturn) 95 := ⟨by decide +kernel, rfl⟩
theorem iX10_edgeTold_95 : zAl zX10_edgeTold 95 3 96 := Or.inl ⟨3, rfl, by decide +kernel, rfl⟩
theorem iX10_edgeTold_96 : zGf zX10_edgeTold 96 0 11 99 := ⟨151, _, _, _, zcf_0, by decide, by decide +kernel, rfl, zT2_of (i := 215) rfl rfl⟩
theorem iX10_edgeTold_99 : zD zX10_edgeTold 99 1 (.ireturn) 100 := ⟨by decide +kernel, rfl⟩
theorem iX10_edgeTold_100 : zCo zX10_edgeTold 100 (-2) 102 := Or.inr (Or.inl ⟨-2, by decide, by decide +kernel, rfl⟩)
theorem iX10_edgeTold_102 : zD zX10_edgeTold 102 1 (.ireturn) 103 := ⟨by decide +kernel, rfl⟩
theorem iX10_used_0 : zAl zX10_used 0 0 1 := Or.inl ⟨0, rfl, by decide +kernel, rfl⟩
theorem iX10_used_1 : zIl zX10_used 1 1 2 := Or.inl ⟨1, rfl, by decide +kernel, rfl⟩
theorem iX10_used_2 : zCl zX10_used 2 .invokevirtual zX10_edgeOf 5 := ⟨127, by decide +kernel, rfl, Or.inl (zT3_of (i := 9) rfl rfl)⟩
theorem iX10_used_5 : zAs zX10_used 5 3 6 := ⟨by decide, Or.inl ⟨3, rfl, by decide +kernel, rfl⟩⟩
theorem iX10_used_6 : zAl zX10_used 6 3 7 := Or.inl ⟨3, rfl, by decide +kernel, rfl⟩
theorem iX10_used_7 : zB zX10_used 7 .ifnull 10 19 := ⟨12, by decide +kernel, rfl, by decide⟩
theorem iX10_used_10 : zIl zX10_used 10 2 11 := Or.inl ⟨2, rfl, by decide +kernel, rfl⟩
theorem iX10_used_11 : zCo zX10_used 11 (0) 12 := Or.inl ⟨0, by decide, by decide +kernel, rfl⟩
theorem iX10_used_12 : zCo zX10_used 12 (1) 13 := Or.inl ⟨1, by decide, by decide +kernel, rfl⟩
theorem iX10_used_13 : zCl zX10_used 13 .invokestatic zX10_within 16 := ⟨113, by decide +kernel, rfl, Or.inl (zT1_of (i := 235) rfl rfl)⟩
theorem iX10_used_16 : zB zX10_used 16 (.ifCond .ne) 19 23 := ⟨7, by decide +kernel, rfl, by decide⟩
theorem iX10_used_19 : zCL zX10_used 19 (-4611686018427387904) 22 := Or.inr ⟨154, zT3_of (i := 17) rfl rfl, by decide +kernel, rfl⟩
theorem iX10_used_22 : zD zX10_used 22 1 (.lreturn) 23 := ⟨by decide +kernel, rfl⟩
theorem iX10_used_23 : zAl zX10_used 23 3 24 := Or.inl ⟨3, rfl, by decide +kernel, rfl⟩
theorem iX10_used_24 : zGf zX10_used 24 0 12 27 := ⟨156, _, _, _, zcf_0, by decide, by decide +kernel, rfl, zT2_of (i := 217) rfl rfl⟩
theorem iX10_used_27 : zAl zX10_used 27 3 28 := Or.inl ⟨3, rfl, by decide +kernel, rfl⟩
theorem iX10_used_28 : zCl zX10_used 28 .invokevirtual zX0_wearInAll 31 := ⟨160, by decide +kernel, rfl, Or.inl (zT3_of (i := 18) rfl rfl)⟩
theorem iX10_used_31 : zCl zX10_used 31 .invokestatic zX10_commonDivisor 34 := ⟨164, by decide +kernel, rfl, Or.inl (zT3_of (i := 23) rfl rfl)⟩
theorem iX10_used_34 : zLS zX10_used 34 4 36 := ⟨by decide, Or.inr ⟨by decide +kernel, rfl⟩⟩
theorem iX10_used_36 : zIl zX10_used 36 2 37 := Or.inl ⟨2, rfl, by decide +kernel, rfl⟩
theorem iX10_used_37 : zB zX10_used 37 (.ifCond .ne) 40 47 := ⟨10, by decide +kernel, rfl, by decide⟩
theorem iX10_used_40 : zAl zX10_used 40 3 41 := Or.inl ⟨3, rfl, by decide +kernel, rfl⟩
theorem iX10_used_41 : zGf zX10_used 41 0 12 44 := ⟨156, _, _, _, zcf_0, by decide, by decide +kernel, rfl, zT2_of (i := 217) rfl rfl⟩
theorem iX10_used_44 : zB zX10_used 44 .goto 47 51 := ⟨7, by decide +kernel, rfl, by decide⟩
theorem iX10_used_47 : zAl zX10_used 47 3 48 := Or.inl ⟨3, rfl, by decide +kernel, rfl⟩
theorem iX10_used_48 : zCl zX10_used 48 .invokevirtual zX0_wearInAll 51 := ⟨160, by decide +kernel, rfl, Or.inl (zT3_of (i := 18) rfl rfl)⟩
theorem iX10_used_51 : zLl zX10_used 51 4 53 := Or.inr ⟨by decide +kernel, rfl⟩
theorem iX10_used_53 : zD zX10_used 53 1 (.ldiv) 54 := ⟨by decide +kernel, rfl⟩
theorem iX10_used_54 : zD zX10_used 54 1 (.lreturn) 55 := ⟨by decide +kernel, rfl⟩
theorem iX10_wear_0 : zAl zX10_wear 0 0 1 := Or.inl ⟨0, rfl, by decide +kernel, rfl⟩
theorem iX10_wear_1 : zIl zX10_wear 1 1 2 := Or.inl ⟨1, rfl, by decide +kernel, rfl⟩
theorem iX10_wear_2 : zCl zX10_wear 2 .invokevirtual zX10_edgeOf 5 := ⟨127, by decide +kernel, rfl, Or.inl (zT3_of (i := 9) rfl rfl)⟩
theorem iX10_wear_5 : zAs zX10_wear 5 4 7 := ⟨by decide, Or.inr ⟨by decide +kernel, rfl⟩⟩
theorem iX10_wear_7 : zAl zX10_wear 7 4 9 := Or.inr ⟨by decide +kernel, rfl⟩
theorem iX10_wear_9 : zB zX10_wear 9 .ifnull 12 32 := ⟨23, by decide +kernel, rfl, by decide⟩
theorem iX10_wear_12 : zIl zX10_wear 12 2 13 := Or.inl ⟨2, rfl, by decide +kernel, rfl⟩
theorem iX10_wear_13 : zCo zX10_wear 13 (1) 14 := Or.inl ⟨1, by decide, by decide +kernel, rfl⟩
theorem iX10_wear_14 : zCo zX10_wear 14 (20) 16 := Or.inr (Or.inl ⟨20, by decide, by decide +kernel, rfl⟩)
theorem iX10_wear_16 : zCl zX10_wear 16 .invokestatic zX10_within 19 := ⟨113, by decide +kernel, rfl, Or.inl (zT1_of (i := 235) rfl rfl)⟩
theorem iX10_wear_19 : zB zX10_wear 19 (.ifCond .eq) 22 32 := ⟨13, by decide +kernel, rfl, by decide⟩
theorem iX10_wear_22 : zIl zX10_wear 22 3 23 := Or.inl ⟨3, rfl, by decide +kernel, rfl⟩
theorem iX10_wear_23 : zCo zX10_wear 23 (1) 24 := Or.inl ⟨1, by decide, by decide +kernel, rfl⟩
theorem iX10_wear_24 : zCo zX10_wear 24 (20) 26 := Or.inr (Or.inl ⟨20, by decide, by decide +kernel, rfl⟩)
theorem iX10_wear_26 : zCl zX10_wear 26 .invokestatic zX10_within 29 := ⟨113, by decide +kernel, rfl, Or.inl (zT1_of (i := 235) rfl rfl)⟩
theorem iX10_wear_29 : zB zX10_wear 29 (.ifCond .ne) 32 35 := ⟨6, by decide +kernel, rfl, by decide⟩
theorem iX10_wear_32 : zCo zX10_wear 32 (-2) 34 := Or.inr (Or.inl ⟨-2, by decide, by decide +kernel, rfl⟩)
theorem iX10_wear_34 : zD zX10_wear 34 1 (.ireturn) 35 := ⟨by decide +kernel, rfl⟩
theorem iX10_wear_35 : zAl zX10_wear 35 4 37 := Or.inr ⟨by decide +kernel, rfl⟩
theorem iX10_wear_37 : zGf zX10_wear 37 0 0 40 := ⟨131, _, _, _, zcf_0, by decide, by decide +kernel, rfl, zT2_of (i := 194) rfl rfl⟩
theorem iX10_wear_40 : zIl zX10_wear 40 2 41 := Or.inl ⟨2, rfl, by decide +kernel, rfl⟩
theorem iX10_wear_41 : zIl zX10_wear 41 3 42 := Or.inl ⟨3, rfl, by decide +kernel, rfl⟩
theorem iX10_wear_42 : zCl zX10_wear 42 .invokestatic zX10_wearOf 45 := ⟨168, by decide +kernel, rfl, Or.inl (zT3_of (i := 30) rfl rfl)⟩
theorem iX10_wear_45 : zD zX10_wear 45 1 (.ireturn) 46 := ⟨by decide +kernel, rfl⟩
theorem iX10_turn_0 : zAl zX10_turn 0 0 1 := Or.inl ⟨0, rfl, by decide +kernel, rfl⟩
theorem iX10_turn_1 : zIl zX10_turn 1 1 2 := Or.inl ⟨1, rfl, by decide +kernel, rfl⟩
theorem iX10_turn_2 : zCl zX10_turn 2 .invokevirtual zX10_edgeOf 5 := ⟨127, by decide +kernel, rfl, Or.inl (zT3_of (i := 9) rfl rfl)⟩
theorem iX10_turn_5 : zAs zX10_turn 5 2 6 := ⟨by decide, Or.inl ⟨2, rfl, by decide +kernel, rfl⟩⟩
theorem iX10_turn_6 : zAl zX10_turn 6 2 7 := Or.inl ⟨2, rfl, by decide +kernel, rfl⟩
theorem iX10_turn_7 : zB zX10_turn 7 .ifnonnull 10 13 := ⟨6, by decide +kernel, rfl, by decide⟩
theorem iX10_turn_10 : zCo zX10_turn 10 (-2) 12 := Or.inr (Or.inl ⟨-2, by decide, by decide +kernel, rfl⟩)
theorem iX10_turn_12 : zD zX10_turn 12 1 (.ireturn) 13 := ⟨by decide +kernel, rfl⟩
theorem iX10_turn_13 : zAl zX10_turn 13 2 14 := Or.inl ⟨2, rfl, by decide +kernel, rfl⟩
theorem iX10_turn_14 : zGf zX10_turn 14 0 0 17 := ⟨131, _, _, _, zcf_0, by decide, by decide +kernel, rfl, zT2_of (i := 194) rfl rfl⟩
theorem iX10_turn_17 : zCo zX10_turn 17 (1) 18 := Or.inl ⟨1, by decide, by decide +kernel, rfl⟩
theorem iX10_turn_18 : zCl zX10_turn 18 .invokestatic zX10_isUnder 21 := ⟨117, by decide +kernel, rfl, Or.inl (zT2_of (i := 185) rfl rfl)⟩
theorem iX10_turn_21 : zB zX10_turn 21 (.ifCond .ne) 24 27 := ⟨6, by decide +kernel, rfl, by decide⟩
theorem iX10_turn_24 : zCo zX10_turn 24 (-13) 26 := Or.inr (Or.inl ⟨-13, by decide, by decide +kernel, rfl⟩)
theorem iX10_turn_26 : zD zX10_turn 26 1 (.ireturn) 27 := ⟨by decide +kernel, rfl⟩
theorem iX10_turn_27 : zAl zX10_turn 27 2 28 := Or.inl ⟨2, rfl, by decide +kernel, rfl⟩
theorem iX10_turn_28 : zGf zX10_turn 28 0 7 31 := ⟨145, _, _, _, zcf_0, by decide, by decide +kernel, rfl, zT2_of (i := 207) rfl rfl⟩
theorem iX10_turn_31 : zCo zX10_turn 31 (2) 32 := Or.inl ⟨2, by decide, by decide +kernel, rfl⟩
theorem iX10_turn_32 : zB zX10_turn 32 (.if_icmp .eq) 35 42 := ⟨10, by decide +kernel, rfl, by decide⟩
theorem iX10_turn_35 : zAl zX10_turn 35 2 36 := Or.inl ⟨2, rfl, by decide +kernel, rfl⟩
theorem iX10_turn_36 : zGf zX10_turn 36 0 6 39 := ⟨139, _, _, _, zcf_0, by decide, by decide +kernel, rfl, zT2_of (i := 205) rfl rfl⟩
theorem iX10_turn_39 : zB zX10_turn 39 (.ifCond .ne) 42 45 := ⟨6, by decide +kernel, rfl, by decide⟩
theorem iX10_turn_42 : zCo zX10_turn 42 (-3) 44 := Or.inr (Or.inl ⟨-3, by decide, by decide +kernel, rfl⟩)
theorem iX10_turn_44 : zD zX10_turn 44 1 (.ireturn) 45 := ⟨by decide +kernel, rfl⟩
theorem iX10_turn_45 : zAl zX10_turn 45 2 46 := Or.inl ⟨2, rfl, by decide +kernel, rfl⟩
theorem iX10_turn_46 : zD zX10_turn 46 1 (.dup) 47 := ⟨by decide +kernel, rfl⟩
theorem iX10_turn_47 : zGf zX10_turn 47 0 6 50 := ⟨139, _, _, _, zcf_0, by decide, by decide +kernel, rfl, zT2_of (i := 205) rfl rfl⟩
theorem iX10_turn_50 : zCo zX10_turn 50 (1) 51 := Or.inl ⟨1, by decide, by decide +kernel, rfl⟩
theorem iX10_turn_51 : zD zX10_turn 51 1 (.isub) 52 := ⟨by decide +kernel, rfl⟩
theorem iX10_turn_52 : zPf zX10_turn 52 0 6 .int 55 := ⟨139, _, _, _, zcf_0, by decide, by decide +kernel, rfl, zT2_of (i := 205) rfl rfl, by decide +kernel, Or.inl rfl⟩
theorem iX10_turn_55 : zAl zX10_turn 55 2 56 := Or.inl ⟨2, rfl, by decide +kernel, rfl⟩
theorem iX10_turn_56 : zCl zX10_turn 56 .invokevirtual zX0_renew 59 := ⟨172, by decide +kernel, rfl, Or.inl (zT3_of (i := 40) rfl rfl)⟩
theorem iX10_turn_59 : zAl zX10_turn 59 2 60 := Or.inl ⟨2, rfl, by decide +kernel, rfl⟩
theorem iX10_turn_60 : zGf zX10_turn 60 0 6 63 := ⟨139, _, _, _, zcf_0, by decide, by decide +kernel, rfl, zT2_of (i := 205) rfl rfl⟩
theorem iX10_turn_63 : zD zX10_turn 63 1 (.ireturn) 64 := ⟨by decide +kernel, rfl⟩
theorem iX10_grind_0 : zAl zX10_grind 0 0 1 := Or.inl ⟨0, rfl, by decide +kernel, rfl⟩
theorem iX10_grind_1 : zIl zX10_grind 1 1 2 := Or.inl ⟨1, rfl, by decide +kernel, rfl⟩
theorem iX10_grind_2 : zCl zX10_grind 2 .invokevirtual zX10_edgeOf 5 := ⟨127, by decide +kernel, rfl, Or.inl (zT3_of (i := 9) rfl rfl)⟩
theorem iX10_grind_5 : zAs zX10_grind 5 3 6 := ⟨by decide, Or.inl ⟨3, rfl, by decide +kernel, rfl⟩⟩
theorem iX10_grind_6 : zAl zX10_grind 6 3 7 := Or.inl ⟨3, rfl, by decide +kernel, rfl⟩
theorem iX10_grind_7 : zB zX10_grind 7 .ifnull 10 20 := ⟨13, by decide +kernel, rfl, by decide⟩
theorem iX10_grind_10 : zIl zX10_grind 10 2 11 := Or.inl ⟨2, rfl, by decide +kernel, rfl⟩
theorem iX10_grind_11 : zCo zX10_grind 11 (1) 12 := Or.inl ⟨1, by decide, by decide +kernel, rfl⟩
theorem iX10_grind_12 : zCo zX10_grind 12 (50) 14 := Or.inr (Or.inl ⟨50, by decide, by decide +kernel, rfl⟩)
theorem iX10_grind_14 : zCl zX10_grind 14 .invokestatic zX10_within 17 := ⟨113, by decide +kernel, rfl, Or.inl (zT1_of (i := 235) rfl rfl)⟩
theorem iX10_grind_17 : zB zX10_grind 17 (.ifCond .ne) 20 23 := ⟨6, by decide +kernel, rfl, by decide⟩
theorem iX10_grind_20 : zCo zX10_grind 20 (-2) 22 := Or.inr (Or.inl ⟨-2, by decide, by decide +kernel, rfl⟩)
theorem iX10_grind_22 : zD zX10_grind 22 1 (.ireturn) 23 := ⟨by decide +kernel, rfl⟩
theorem iX10_grind_23 : zAl zX10_grind 23 3 24 := Or.inl ⟨3, rfl, by decide +kernel, rfl⟩
theorem iX10_grind_24 : zGf zX10_grind 24 0 0 27 := ⟨131, _, _, _, zcf_0, by decide, by decide +kernel, rfl, zT2_of (i := 194) rfl rfl⟩
theorem iX10_grind_27 : zCo zX10_grind 27 (1) 28 := Or.inl ⟨1, by decide, by decide +kernel, rfl⟩
theorem iX10_grind_28 : zCl zX10_grind 28 .invokestatic zX10_isUnder 31 := ⟨117, by decide +kernel, rfl, Or.inl (zT2_of (i := 185) rfl rfl)⟩
theorem iX10_grind_31 : zB zX10_grind 31 (.ifCond .eq) 34 37 := ⟨6, by decide +kernel, rfl, by decide⟩
theorem iX10_grind_34 : zCo zX10_grind 34 (-13) 36 := Or.inr (Or.inl ⟨-13, by decide, by decide +kernel, rfl⟩)
theorem iX10_grind_36 : zD zX10_grind 36 1 (.ireturn) 37 := ⟨by decide +kernel, rfl⟩
theorem iX10_grind_37 : zAl zX10_grind 37 3 38 := Or.inl ⟨3, rfl, by decide +kernel, rfl⟩
theorem iX10_grind_38 : zGf zX10_grind 38 0 7 41 := ⟨145, _, _, _, zcf_0, by decide, by decide +kernel, rfl, zT2_of (i := 207) rfl rfl⟩
theorem iX10_grind_41 : zCo zX10_grind 41 (2) 42 := Or.inl ⟨2, by decide, by decide +kernel, rfl⟩
theorem iX10_grind_42 : zB zX10_grind 42 (.if_icmp .eq) 45 58 := ⟨16, by decide +kernel, rfl, by decide⟩
theorem iX10_grind_45 : zAl zX10_grind 45 3 46 := Or.inl ⟨3, rfl, by decide +kernel, rfl⟩
theorem iX10_grind_46 : zGf zX10_grind 46 0 5 49 := ⟨134, _, _, _, zcf_0, by decide, by decide +kernel, rfl, zT2_of (i := 203) rfl rfl⟩
theorem iX10_grind_49 : zIl zX10_grind 49 2 50 := Or.inl ⟨2, rfl, by decide +kernel, rfl⟩
theorem iX10_grind_50 : zD zX10_grind 50 1 (.isub) 51 := ⟨by decide +kernel, rfl⟩
theorem iX10_grind_51 : zAl zX10_grind 51 3 52 := Or.inl ⟨3, rfl, by decide +kernel, rfl⟩
theorem iX10_grind_52 : zGf zX10_grind 52 0 1 55 := ⟨136, _, _, _, zcf_0, by decide, by decide +kernel, rfl, zT2_of (i := 196) rfl rfl⟩
theorem iX10_grind_55 : zB zX10_grind 55 (.if_icmp .ge) 58 61 := ⟨6, by decide +kernel, rfl, by decide⟩
theorem iX10_grind_58 : zCo zX10_grind 58 (-3) 60 := Or.inr (Or.inl ⟨-3, by decide, by decide +kernel, rfl⟩)
theorem iX10_grind_60 : zD zX10_grind 60 1 (.ireturn) 61 := ⟨by decide +kernel, rfl⟩
theorem iX10_grind_61 : zAl zX10_grind 61 3 62 := Or.inl ⟨3, rfl, by decide +kernel, rfl⟩
theorem iX10_grind_62 : zD zX10_grind 62 1 (.dup) 63 := ⟨by decide +kernel, rfl⟩
theorem iX10_grind_63 : zGf zX10_grind 63 0 5 66 := ⟨134, _, _, _, zcf_0, by decide, by decide +kernel, rfl, zT2_of (i := 203) rfl rfl⟩
theorem iX10_grind_66 : zIl zX10_grind 66 2 67 := Or.inl ⟨2, rfl, by decide +kernel, rfl⟩
theorem iX10_grind_67 : zD zX10_grind 67 1 (.isub) 68 := ⟨by decide +kernel, rfl⟩
theorem iX10_grind_68 : zPf zX10_grind 68 0 5 .int 71 := ⟨134, _, _, _, zcf_0, by decide, by decide +kernel, rfl, zT2_of (i := 203) rfl rfl, by decide +kernel, Or.inl rfl⟩
theorem iX10_grind_71 : zAl zX10_grind 71 3 72 := Or.inl ⟨3, rfl, by decide +kernel, rfl⟩
theorem iX10_grind_72 : zCl zX10_grind 72 .invokevirtual zX0_renew 75 := ⟨172, by decide +kernel, rfl, Or.inl (zT3_of (i := 40) rfl rfl)⟩
theorem iX10_grind_75 : zAl zX10_grind 75 3 76 := Or.inl ⟨3, rfl, by decide +kernel, rfl⟩
theorem iX10_grind_76 : zGf zX10_grind 76 0 5 79 := ⟨134, _, _, _, zcf_0, by decide, by decide +kernel, rfl, zT2_of (i := 203) rfl rfl⟩
theorem iX10_grind_79 : zD zX10_grind 79 1 (.ireturn) 80 := ⟨by decide +kernel, rfl⟩
theorem iX10_trail_0 : zAl zX10_trail 0 0 1 := Or.inl ⟨0, rfl, by decide +kernel, rfl⟩
theorem iX10_trail_1 : zIl zX10_trail 1 1 2 := Or.inl ⟨1, rfl, by decide +kernel, rfl⟩
theorem iX10_trail_2 : zCl zX10_trail 2 .invokevirtual zX10_edgeOf 5 := ⟨127, by decide +kernel, rfl, Or.inl (zT3_of (i := 9) rfl rfl)⟩
theorem iX10_trail_5 : zAs zX10_trail 5 3 6 := ⟨by decide, Or.inl ⟨3, rfl, by decide +kernel, rfl⟩⟩
theorem iX10_trail_6 : zAl zX10_trail 6 3 7 := Or.inl ⟨3, rfl, by decide +kernel, rfl⟩
theorem iX10_trail_7 : zB zX10_trail 7 .ifnonnull 10 13 := ⟨6, by decide +kernel, rfl, by decide⟩
theorem iX10_trail_10 : zCo zX10_trail 10 (-2) 12 := Or.inr (Or.inl ⟨-2, by decide, by decide +kernel, rfl⟩)
theorem iX10_trail_12 : zD zX10_trail 12 1 (.ireturn) 13 := ⟨by decide +kernel, rfl⟩
theorem iX10_trail_13 : zAl zX10_trail 13 3 14 := Or.inl ⟨3, rfl, by decide +kernel, rfl⟩
theorem iX10_trail_14 : zIl zX10_trail 14 2 15 := Or.inl ⟨2, rfl, by decide +kernel, rfl⟩
theorem iX10_trail_15 : zCl zX10_trail 15 .invokevirtual zX0_trailAt 18 := ⟨175, by decide +kernel, rfl, Or.inl (zT3_of (i := 52) rfl rfl)⟩
theorem iX10_trail_18 : zD zX10_trail 18 1 (.ireturn) 19 := ⟨by decide +kernel, rfl⟩
theorem iX10_tool_0 : zAl zX10_tool 0 0 1 := Or.inl ⟨0, rfl, by decide +kernel, rfl⟩
theorem iX10_tool_1 : zIl zX10_tool 1 2 2 := Or.inl ⟨2, rfl, by decide +kernel, rfl⟩
theorem iX10_tool_2 : zCl zX10_tool 2 .invokevirtual zX10_edgeOf 5 := ⟨127, by decide +kernel, rfl, Or.inl (zT3_of (i := 9) rfl rfl)⟩
theorem iX10_tool_5 : zAs zX10_tool 5 5 7 := ⟨by decide, Or.inr ⟨by decide +kernel, rfl⟩⟩
theorem iX10_tool_7 : zIl zX10_tool 7 1 8 := Or.inl ⟨1, rfl, by decide +kernel, rfl⟩
theorem iX10_tool_8 : zCo zX10_tool 8 (20) 10 := Or.inr (Or.inl ⟨20, by decide, by decide +kernel, rfl⟩)
theorem iX10_tool_10 : zCo zX10_tool 10 (300) 13 := Or.inr (Or.inr (Or.inl ⟨300, by decide, by decide +kernel, rfl⟩))
theorem iX10_tool_13 : zCl zX10_tool 13 .invokestatic zX10_within 16 := ⟨113, by decide +kernel, rfl, Or.inl (zT1_of (i := 235) rfl rfl)⟩
theorem iX10_tool_16 : zB zX10_tool 16 (.ifCond .eq) 19 41 := ⟨25, by decide +kernel, rfl, by decide⟩
theorem iX10_tool_19 : zAl zX10_tool 19 5 21 := Or.inr ⟨by decide +kernel, rfl⟩
theorem iX10_tool_21 : zB zX10_tool 21 .ifnull 24 41 := ⟨20, by decide +kernel, rfl, by decide⟩
theorem iX10_tool_24 : zIl zX10_tool 24 3 25 := Or.inl ⟨3, rfl, by decide +kernel, rfl⟩
theorem iX10_tool_25 : zCo zX10_tool 25 (1) 26 := Or.inl ⟨1, by decide, by decide +kernel, rfl⟩
theorem iX10_tool_26 : zCo zX10_tool 26 (3) 27 := Or.inl ⟨3, by decide, by decide +kernel, rfl⟩
theorem iX10_tool_27 : zCl zX10_tool 27 .invokestatic zX10_within 30 := ⟨113, by decide +kernel, rfl, Or.inl (zT1_of (i := 235) rfl rfl)⟩
theorem iX10_tool_30 : zB zX10_tool 30 (.ifCond .eq) 33 41 := ⟨11, by decide +kernel, rfl, by decide⟩
theorem iX10_tool_33 : zIl zX10_tool 33 4 35 := Or.inr ⟨by decide +kernel, rfl⟩
theorem iX10_tool_35 : zCl zX10_tool 35 .invokestatic zX10_isFamily 38 := ⟨179, by decide +kernel, rfl, Or.inl (zT3_of (i := 60) rfl rfl)⟩
theorem iX10_tool_38 : zB zX10_tool 38 (.ifCond .ne) 41 44 := ⟨6, by decide +kernel, rfl, by decide⟩
theorem iX10_tool_41 : zCo zX10_tool 41 (-2) 43 := Or.inr (Or.inl ⟨-2, by decide, by decide +kernel, rfl⟩)
theorem iX10_tool_43 : zD zX10_tool 43 1 (.ireturn) 44 := ⟨by decide +kernel, rfl⟩
theorem iX10_tool_44 : zAl zX10_tool 44 5 46 := Or.inr ⟨by decide +kernel, rfl⟩
theorem iX10_tool_46 : zGf zX10_tool 46 0 11 49 := ⟨151, _, _, _, zcf_0, by decide, by decide +kernel, rfl, zT2_of (i := 215) rfl rfl⟩
theorem iX10_tool_49 : zCo zX10_tool 49 (-1) 50 := Or.inl ⟨-1, by decide, by decide +kernel, rfl⟩
theorem iX10_tool_50 : zB zX10_tool 50 (.if_icmp .eq) 53 56 := ⟨6, by decide +kernel, rfl, by decide⟩
theorem iX10_tool_53 : zCo zX10_tool 53 (-3) 55 := Or.inr (Or.inl ⟨-3, by decide, by decide +kernel, rfl⟩)
theorem iX10_tool_55 : zD zX10_tool 55 1 (.ireturn) 56 := ⟨by decide +kernel, rfl⟩
theorem iX10_tool_56 : zAl zX10_tool 56 0 57 := Or.inl ⟨0, rfl, by decide +kernel, rfl⟩
theorem iX10_tool_57 : zGf zX10_tool 57 10 12 60 := ⟨183, _, _, _, zcf_10, by decide, by decide +kernel, rfl, zT2_of (i := 144) rfl rfl⟩
theorem iX10_tool_60 : zCo zX10_tool 60 (10) 62 := Or.inr (Or.inl ⟨10, by decide, by decide +kernel, rfl⟩)
theorem iX10_tool_62 : zB zX10_tool 62 (.if_icmp .lt) 65 68 := ⟨6, by decide +kernel, rfl, by decide⟩
theorem iX10_tool_65 : zCo zX10_tool 65 (-4) 67 := Or.inr (Or.inl ⟨-4, by decide, by decide +kernel, rfl⟩)
theorem iX10_tool_67 : zD zX10_tool 67 1 (.ireturn) 68 := ⟨by decide +kernel, rfl⟩
theorem iX10_tool_68 : zAl zX10_tool 68 0 69 := Or.inl ⟨0, rfl, by decide +kernel, rfl⟩
theorem iX10_tool_69 : zGf zX10_tool 69 10 1 72 := ⟨17, _, _, _, zcf_10, by decide, by decide +kernel, rfl, zT2_of (i := 133) rfl rfl⟩
theorem iX10_tool_72 : zAl zX10_tool 72 0 73 := Or.inl ⟨0, rfl, by decide +kernel, rfl⟩
theorem iX10_tool_73 : zGf zX10_tool 73 10 12 76 := ⟨183, _, _, _, zcf_10, by decide, by decide +kernel, rfl, zT2_of (i := 144) rfl rfl⟩
theorem iX10_tool_76 : zNw zX10_tool 76 9 79 := ⟨15, _, _, _, zcf_9, by decide +kernel, rfl, zT1_of (i := 29) rfl rfl, zT3_of (i := 63) rfl rfl, zT1_of (i := 16) rfl rfl⟩
theorem iX10_tool_79 : zD zX10_tool 79 1 (.dup) 80 := ⟨by decide +kernel, rfl⟩
theorem iX10_tool_80 : zIl zX10_tool 80 1 81 := Or.inl ⟨1, rfl, by decide +kernel, rfl⟩
theorem iX10_tool_81 : zIl zX10_tool 81 2 82 := Or.inl ⟨2, rfl, by decide +kernel, rfl⟩
theorem iX10_tool_82 : zAl zX10_tool 82 5 84 := Or.inr ⟨by decide +kernel, rfl⟩
theorem iX10_tool_84 : zIl zX10_tool 84 3 85 := Or.inl ⟨3, rfl, by decide +kernel, rfl⟩
theorem iX10_tool_85 : zIl zX10_tool 85 4 87 := Or.inr ⟨by decide +kernel, rfl⟩
theorem iX10_tool_87 : zCl zX10_tool 87 .invokespecial zX9_init 90 := ⟨186, by decide +kernel, rfl, Or.inl (zT3_of (i := 64) rfl rfl)⟩
theorem iX10_tool_90 : zD zX10_tool 90 1 (.aastore) 91 := ⟨by decide +kernel, rfl⟩
theorem iX10_tool_91 : zAl zX10_tool 91 5 93 := Or.inr ⟨by decide +kernel, rfl⟩
theorem iX10_tool_93 : zAl zX10_tool 93 0 94 := Or.inl ⟨0, rfl, by decide +kernel, rfl⟩
theorem iX10_tool_94 : zGf zX10_tool 94 10 12 97 := ⟨183, _, _, _, zcf_10, by decide, by decide +kernel, rfl, zT2_of (i := 144) rfl rfl⟩
theorem iX10_tool_97 : zPf zX10_tool 97 0 11 .int 100 := ⟨151, _, _, _, zcf_0, by decide, by decide +kernel, rfl, zT2_of (i := 215) rfl rfl, by decide +kernel, Or.inl rfl⟩
theorem iX10_tool_100 : zAl zX10_tool 100 0 101 := Or.inl ⟨0, rfl, by decide +kernel, rfl⟩
theorem iX10_tool_101 : zD zX10_tool 101 1 (.dup) 102 := ⟨by decide +kernel, rfl⟩
theorem iX10_tool_102 : zGf zX10_tool 102 10 12 105 := ⟨183, _, _, _, zcf_10, by decide, by decide +kernel, rfl, zT2_of (i := 144) rfl rfl⟩
theorem iX10_tool_105 : zCo zX10_tool 105 (1) 106 := Or.inl ⟨1, by decide, by decide +kernel, rfl⟩
theorem iX10_tool_106 : zD zX10_tool 106 1 (.iadd) 107 := ⟨by decide +kernel, rfl⟩
theorem iX10_tool_107 : zPf zX10_tool 107 10 12 .int 110 := ⟨183, _, _, _, zcf_10, by decide, by decide +kernel, rfl, zT2_of (i := 144) rfl rfl, by decide +kernel, Or.inl rfl⟩
theorem iX10_tool_110 : zAl zX10_tool 110 0 111 := Or.inl ⟨0, rfl, by decide +kernel, rfl⟩
theorem iX10_tool_111 : zGf zX10_tool 111 10 12 114 := ⟨183, _, _, _, zcf_10, by decide, by decide +kernel, rfl, zT2_of (i := 144) rfl rfl⟩
theorem iX10_tool_114 : zCo zX10_tool 114 (1) 115 := Or.inl ⟨1, by decide, by decide +kernel, rfl⟩
theorem iX10_tool_115 : zD zX10_tool 115 1 (.isub) 116 := ⟨by decide +kernel, rfl⟩
theorem iX10_tool_116 : zD zX10_tool 116 1 (.ireturn) 117 := ⟨by decide +kernel, rfl⟩
theorem iX10_toolTold_0 : zAl zX10_toolTold 0 0 1 := Or.inl ⟨0, rfl, by decide +kernel, rfl⟩
theorem iX10_toolTold_1 : zIl zX10_toolTold 1 1 2 := Or.inl ⟨1, rfl, by decide +kernel, rfl⟩
theorem iX10_toolTold_2 : zCl zX10_toolTold 2 .invokevirtual zX10_toolOf 5 := ⟨189, by decide +kernel, rfl, Or.inl (zT3_of (i := 104) rfl rfl)⟩
theorem iX10_toolTold_5 : zAs zX10_toolTold 5 3 6 := ⟨by decide, Or.inl ⟨3, rfl, by decide +kernel, rfl⟩⟩
theorem iX10_toolTold_6 : zAl zX10_toolTold 6 3 7 := Or.inl ⟨3, rfl, by decide +kernel, rfl⟩
theorem iX10_toolTold_7 : zB zX10_toolTold 7 .ifnonnull 10 13 := ⟨6, by decide +kernel, rfl, by decide⟩
theorem iX10_toolTold_10 : zCo zX10_toolTold 10 (-2) 12 := Or.inr (Or.inl ⟨-2, by decide, by decide +kernel, rfl⟩)
theorem iX10_toolTold_12 : zD zX10_toolTold 12 1 (.ireturn) 13 := ⟨by decide +kernel, rfl⟩
theorem iX10_toolTold_13 : zIl zX10_toolTold 13 2 14 := Or.inl ⟨2, rfl, by decide +kernel, rfl⟩
theorem iX10_toolTold_14 : zSw zX10_toolTold 14 (0) [60, 65, 70, 75, 80, 85, 90, 95] 100 := ⟨7, #[46, 51, 56, 61, 66, 71, 76, 81], 86, 46, by decide +kernel, by decide, by decide, by decide⟩
theorem iX10_toolTold_60 : zAl zX10_toolTold 60 3 61 := Or.inl ⟨3, rfl, by decide +kernel, rfl⟩
theorem iX10_toolTold_61 : zGf zX10_toolTold 61 9 0 64 := ⟨193, _, _, _, zcf_9, by decide, by decide +kernel, rfl, zT3_of (i := 69) rfl rfl⟩
theorem iX10_toolTold_64 : zD zX10_toolTold 64 1 (.ireturn) 65 := ⟨by decide +kernel, rfl⟩
theorem iX10_toolTold_65 : zAl zX10_toolTold 65 3 66 := Or.inl ⟨3, rfl, by decide +kernel, rfl⟩
theorem iX10_toolTold_66 : zGf zX10_toolTold 66 9 1 69 := ⟨196, _, _, _, zcf_9, by decide, by decide +kernel, rfl, zT3_of (i := 71) rfl rfl⟩
theorem iX10_toolTold_69 : zD zX10_toolTold 69 1 (.ireturn) 70 := ⟨by decide +kernel, rfl⟩
theorem iX10_toolTold_70 : zAl zX10_toolTold 70 3 71 := Or.inl ⟨3, rfl, by decide +kernel, rfl⟩
theorem iX10_toolTold_71 : zGf zX10_toolTold 71 9 3 74 := ⟨199, _, _, _, zcf_9, by decide, by decide +kernel, rfl, zT3_of (i := 75) rfl rfl⟩
theorem iX10_toolTold_74 : zD zX10_toolTold 74 1 (.ireturn) 75 := ⟨by decide +kernel, rfl⟩
theorem iX10_toolTold_75 : zAl zX10_toolTold 75 3 76 := Or.inl ⟨3, rfl, by decide +kernel, rfl⟩
theorem iX10_toolTold_76 : zGf zX10_toolTold 76 9 4 79 := ⟨202, _, _, _, zcf_9, by decide, by decide +kernel, rfl, zT3_of (i := 77) rfl rfl⟩
theorem iX10_toolTold_79 : zD zX10_toolTold 79 1 (.ireturn) 80 := ⟨by decide +kernel, rfl⟩
theorem iX10_toolTold_80 : zAl zX10_toolTold 80 3 81 := Or.inl ⟨3, rfl, by decide +kernel, rfl⟩
theorem iX10_toolTold_81 : zCl zX10_toolTold 81 .invokevirtual zX9_nominal 84 := ⟨205, by decide +kernel, rfl, Or.inl (zT3_of (i := 108) rfl rfl)⟩
theorem iX10_toolTold_84 : zD zX10_toolTold 84 1 (.ireturn) 85 := ⟨by decide +kernel, rfl⟩
theorem iX10_toolTold_85 : zAl zX10_toolTold 85 3 86 := Or.inl ⟨3, rfl, by decide +kernel, rfl⟩
theorem iX10_toolTold_86 : zGf zX10_toolTold 86 9 5 89 := ⟨208, _, _, _, zcf_9, by decide, by decide +kernel, rfl, zT3_of (i := 78) rfl rfl⟩
theorem iX10_toolTold_89 : zD zX10_toolTold 89 1 (.ireturn) 90 := ⟨by decide +kernel, rfl⟩
theorem iX10_toolTold_90 : zAl zX10_toolTold 90 3 91 := Or.inl ⟨3, rfl, by decide +kernel, rfl⟩
theorem iX10_toolTold_91 : zGf zX10_toolTold 91 9 6 94 := ⟨211, _, _, _, zcf_9, by decide, by decide +kernel, rfl, zT3_of (i := 80) rfl rfl⟩
theorem iX10_toolTold_94 : zD zX10_toolTold 94 1 (.ireturn) 95 := ⟨by decide +kernel, rfl⟩
theorem iX10_toolTold_95 : zAl zX10_toolTold 95 3 96 := Or.inl ⟨3, rfl, by decide +kernel, rfl⟩
theorem iX10_toolTold_96 : zGf zX10_toolTold 96 9 7 99 := ⟨214, _, _, _, zcf_9, by decide, by decide +kernel, rfl, zT3_of (i := 82) rfl rfl⟩
theorem iX10_toolTold_99 : zD zX10_toolTold 99 1 (.ireturn) 100 := ⟨by decide +kernel, rfl⟩
theorem iX10_toolTold_100 : zCo zX10_toolTold 100 (-2) 102 := Or.inr (Or.inl ⟨-2, by decide, by decide +kernel, rfl⟩)
theorem iX10_toolTold_102 : zD zX10_toolTold 102 1 (.ireturn) 103 := ⟨by decide +kernel, rfl⟩
theorem iX10_setter_0 : zIl zX10_setter 0 1 1 := Or.inl ⟨1, rfl, by decide +kernel, rfl⟩
theorem iX10_setter_1 : zCo zX10_setter 1 (-50) 3 := Or.inr (Or.inl ⟨-50, by decide, by decide +kernel, rfl⟩)
theorem iX10_setter_3 : zCo zX10_setter 3 (50) 5 := Or.inr (Or.inl ⟨50, by decide, by decide +kernel, rfl⟩)
theorem iX10_setter_5 : zCl zX10_setter 5 .invokestatic zX10_within 8 := ⟨113, by decide +kernel, rfl, Or.inl (zT1_of (i := 235) rfl rfl)⟩
theorem iX10_setter_8 : zB zX10_setter 8 (.ifCond .eq) 11 22 := ⟨14, by decide +kernel, rfl, by decide⟩
theorem iX10_setter_11 : zIl zX10_setter 11 2 12 := Or.inl ⟨2, rfl, by decide +kernel, rfl⟩
theorem iX10_setter_12 : zCo zX10_setter 12 (-20) 14 := Or.inr (Or.inl ⟨-20, by decide, by decide +kernel, rfl⟩)
theorem iX10_setter_14 : zCo zX10_setter 14 (20) 16 := Or.inr (Or.inl ⟨20, by decide, by decide +kernel, rfl⟩)
theorem iX10_setter_16 : zCl zX10_setter 16 .invokestatic zX10_within 19 := ⟨113, by decide +kernel, rfl, Or.inl (zT1_of (i := 235) rfl rfl)⟩
theorem iX10_setter_19 : zB zX10_setter 19 (.ifCond .ne) 22 25 := ⟨6, by decide +kernel, rfl, by decide⟩
theorem iX10_setter_22 : zCo zX10_setter 22 (-2) 24 := Or.inr (Or.inl ⟨-2, by decide, by decide +kernel, rfl⟩)
theorem iX10_setter_24 : zD zX10_setter 24 1 (.ireturn) 25 := ⟨by decide +kernel, rfl⟩
theorem iX10_setter_25 : zAl zX10_setter 25 0 26 := Or.inl ⟨0, rfl, by decide +kernel, rfl⟩
theorem iX10_setter_26 : zGf zX10_setter 26 10 5 29 := ⟨42, _, _, _, zcf_10, by decide, by decide +kernel, rfl, zT2_of (i := 137) rfl rfl⟩
theorem iX10_setter_29 : zIl zX10_setter 29 1 30 := Or.inl ⟨1, rfl, by decide +kernel, rfl⟩
theorem iX10_setter_30 : zPf zX10_setter 30 4 0 .int 33 := ⟨217, _, _, _, zcf_4, by decide, by decide +kernel, rfl, zT1_of (i := 44) rfl rfl, by decide +kernel, Or.inl rfl⟩
theorem iX10_setter_33 : zAl zX10_setter 33 0 34 := Or.inl ⟨0, rfl, by decide +kernel, rfl⟩
theorem iX10_setter_34 : zGf zX10_setter 34 10 5 37 := ⟨42, _, _, _, zcf_10, by decide, by decide +kernel, rfl, zT2_of (i := 137) rfl rfl⟩
theorem iX10_setter_37 : zIl zX10_setter 37 2 38 := Or.inl ⟨2, rfl, by decide +kernel, rfl⟩
theorem iX10_setter_38 : zPf zX10_setter 38 4 1 .int 41 := ⟨220, _, _, _, zcf_4, by decide, by decide +kernel, rfl, zT1_of (i := 46) rfl rfl, by decide +kernel, Or.inl rfl⟩
theorem iX10_setter_41 : zCo zX10_setter 41 (1) 42 := Or.inl ⟨1, by decide, by decide +kernel, rfl⟩
theorem iX10_setter_42 : zD zX10_setter 42 1 (.ireturn) 43 := ⟨by decide +kernel, rfl⟩
theorem iX10_calibrate_0 : zIl zX10_calibrate 0 1 1 := Or.inl ⟨1, rfl, by decide +kernel, rfl⟩
theorem iX10_calibrate_1 : zCo zX10_calibrate 1 (100) 3 := Or.inr (Or.inl ⟨100, by decide, by decide +kernel, rfl⟩)
theorem iX10_calibrate_3 : zCo zX10_calibrate 3 (400) 6 := Or.inr (Or.inr (Or.inl ⟨400, by decide, by decide +kernel, rfl⟩))
theorem iX10_calibrate_6 : zCl zX10_calibrate 6 .invokestatic zX10_within 9 := ⟨113, by decide +kernel, rfl, Or.inl (zT1_of (i := 235) rfl rfl)⟩
theorem iX10_calibrate_9 : zB zX10_calibrate 9 (.ifCond .ne) 12 15 := ⟨6, by decide +kernel, rfl, by decide⟩
theorem iX10_calibrate_12 : zCo zX10_calibrate 12 (-2) 14 := Or.inr (Or.inl ⟨-2, by decide, by decide +kernel, rfl⟩)
theorem iX10_calibrate_14 : zD zX10_calibrate 14 1 (.ireturn) 15 := ⟨by decide +kernel, rfl⟩
theorem iX10_calibrate_15 : zAl zX10_calibrate 15 0 16 := Or.inl ⟨0, rfl, by decide +kernel, rfl⟩
theorem iX10_calibrate_16 : zGf zX10_calibrate 16 10 5 19 := ⟨42, _, _, _, zcf_10, by decide, by decide +kernel, rfl, zT2_of (i := 137) rfl rfl⟩
theorem iX10_calibrate_19 : zIl zX10_calibrate 19 1 20 := Or.inl ⟨1, rfl, by decide +kernel, rfl⟩
theorem iX10_calibrate_20 : zAl zX10_calibrate 20 0 21 := Or.inl ⟨0, rfl, by decide +kernel, rfl⟩
theorem iX10_calibrate_21 : zGf zX10_calibrate 21 10 5 24 := ⟨42, _, _, _, zcf_10, by decide, by decide +kernel, rfl, zT2_of (i := 137) rfl rfl⟩
theorem iX10_calibrate_24 : zIl zX10_calibrate 24 1 25 := Or.inl ⟨1, rfl, by decide +kernel, rfl⟩
theorem iX10_calibrate_25 : zCl zX10_calibrate 25 .invokevirtual zX4_reads 28 := ⟨223, by decide +kernel, rfl, Or.inl (zT3_of (i := 120) rfl rfl)⟩
theorem iX10_calibrate_28 : zD zX10_calibrate 28 1 (.isub) 29 := ⟨by decide +kernel, rfl⟩
theorem iX10_calibrate_29 : zPf zX10_calibrate 29 4 2 .int 32 := ⟨226, _, _, _, zcf_4, by decide, by decide +kernel, rfl, zT1_of (i := 47) rfl rfl, by decide +kernel, Or.inl rfl⟩
theorem iX10_calibrate_32 : zAl zX10_calibrate 32 0 33 := Or.inl ⟨0, rfl, by decide +kernel, rfl⟩
theorem iX10_calibrate_33 : zGf zX10_calibrate 33 10 5 36 := ⟨42, _, _, _, zcf_10, by decide, by decide +kernel, rfl, zT2_of (i := 137) rfl rfl⟩
theorem iX10_calibrate_36 : zGf zX10_calibrate 36 4 2 39 := ⟨226, _, _, _, zcf_4, by decide, by decide +kernel, rfl, zT1_of (i := 47) rfl rfl⟩
theorem iX10_calibrate_39 : zD zX10_calibrate 39 1 (.ireturn) 40 := ⟨by decide +kernel, rfl⟩
theorem iX10_measure_0 : zAl zX10_measure 0 0 1 := Or.inl ⟨0, rfl, by decide +kernel, rfl⟩
theorem iX10_measure_1 : zIl zX10_measure 1 1 2 := Or.inl ⟨1, rfl, by decide +kernel, rfl⟩
theorem iX10_measure_2 : zCl zX10_measure 2 .invokevirtual zX10_toolOf 5 := ⟨189, by decide +kernel, rfl, Or.inl (zT3_of (i := 104) rfl rfl)⟩
theorem iX10_measure_5 : zAs zX10_measure 5 2 6 := ⟨by decide, Or.inl ⟨2, rfl, by decide +kernel, rfl⟩⟩
theorem iX10_measure_6 : zAl zX10_measure 6 2 7 := Or.inl ⟨2, rfl, by decide +kernel, rfl⟩
theorem iX10_measure_7 : zB zX10_measure 7 .ifnonnull 10 13 := ⟨6, by decide +kernel, rfl, by decide⟩
theorem iX10_measure_10 : zCo zX10_measure 10 (-2) 12 := Or.inr (Or.inl ⟨-2, by decide, by decide +kernel, rfl⟩)
theorem iX10_measure_12 : zD zX10_measure 12 1 (.ireturn) 13 := ⟨by decide +kernel, rfl⟩
theorem iX10_measure_13 : zAl zX10_measure 13 2 14 := Or.inl ⟨2, rfl, by decide +kernel, rfl⟩
theorem iX10_measure_14 : zAl zX10_measure 14 0 15 := Or.inl ⟨0, rfl, by decide +kernel, rfl⟩
theorem iX10_measure_15 : zGf zX10_measure 15 10 5 18 := ⟨42, _, _, _, zcf_10, by decide, by decide +kernel, rfl, zT2_of (i := 137) rfl rfl⟩
theorem iX10_measure_18 : zAl zX10_measure 18 2 19 := Or.inl ⟨2, rfl, by decide +kernel, rfl⟩
theorem iX10_measure_19 : zCl zX10_measure 19 .invokevirtual zX9_nominal 22 := ⟨205, by decide +kernel, rfl, Or.inl (zT3_of (i := 108) rfl rfl)⟩
theorem iX10_measure_22 : zCl zX10_measure 22 .invokevirtual zX4_reads 25 := ⟨223, by decide +kernel, rfl, Or.inl (zT3_of (i := 120) rfl rfl)⟩
theorem iX10_measure_25 : zAl zX10_measure 25 0 26 := Or.inl ⟨0, rfl, by decide +kernel, rfl⟩
theorem iX10_measure_26 : zGf zX10_measure 26 10 5 29 := ⟨42, _, _, _, zcf_10, by decide, by decide +kernel, rfl, zT2_of (i := 137) rfl rfl⟩
theorem iX10_measure_29 : zGf zX10_measure 29 4 2 32 := ⟨226, _, _, _, zcf_4, by decide, by decide +kernel, rfl, zT1_of (i := 47) rfl rfl⟩
theorem iX10_measure_32 : zD zX10_measure 32 1 (.iadd) 33 := ⟨by decide +kernel, rfl⟩
theorem iX10_measure_33 : zPf zX10_measure 33 9 5 .int 36 := ⟨208, _, _, _, zcf_9, by decide, by decide +kernel, rfl, zT3_of (i := 78) rfl rfl, by decide +kernel, Or.inl rfl⟩
theorem iX10_measure_36 : zAl zX10_measure 36 2 37 := Or.inl ⟨2, rfl, by decide +kernel, rfl⟩
theorem iX10_measure_37 : zGf zX10_measure 37 9 5 40 := ⟨208, _, _, _, zcf_9, by decide, by decide +kernel, rfl, zT3_of (i := 78) rfl rfl⟩
theorem iX10_measure_40 : zD zX10_measure 40 1 (.ireturn) 41 := ⟨by decide +kernel, rfl⟩
theorem iX10_feed_0 : zIl zX10_feed 0 1 1 := Or.inl ⟨1, rfl, by decide +kernel, rfl⟩
theorem iX10_feed_1 : zCo zX10_feed 1 (1) 2 := Or.inl ⟨1, by decide, by decide +kernel, rfl⟩
theorem iX10_feed_2 : zCo zX10_feed 2 (8) 4 := Or.inr (Or.inl ⟨8, by decide, by decide +kernel, rfl⟩)
theorem iX10_feed_4 : zCl zX10_feed 4 .invokestatic zX10_within 7 := ⟨113, by decide +kernel, rfl, Or.inl (zT1_of (i := 235) rfl rfl)⟩
theorem iX10_feed_7 : zB zX10_feed 7 (.ifCond .ne) 10 13 := ⟨6, by decide +kernel, rfl, by decide⟩
theorem iX10_feed_10 : zCo zX10_feed 10 (-2) 12 := Or.inr (Or.inl ⟨-2, by decide, by decide +kernel, rfl⟩)
theorem iX10_feed_12 : zD zX10_feed 12 1 (.ireturn) 13 := ⟨by decide +kernel, rfl⟩
theorem iX10_feed_13 : zAl zX10_feed 13 0 14 := Or.inl ⟨0, rfl, by decide +kernel, rfl⟩
theorem iX10_feed_14 : zGf zX10_feed 14 10 7 17 := ⟨56, _, _, _, zcf_10, by decide, by decide +kernel, rfl, zT2_of (i := 139) rfl rfl⟩
theorem iX10_feed_17 : zGf zX10_feed 17 7 3 20 := ⟨229, _, _, _, zcf_7, by decide, by decide +kernel, rfl, zT1_of (i := 95) rfl rfl⟩
theorem iX10_feed_20 : zIl zX10_feed 20 1 21 := Or.inl ⟨1, rfl, by decide +kernel, rfl⟩
theorem iX10_feed_21 : zD zX10_feed 21 1 (.iadd) 22 := ⟨by decide +kernel, rfl⟩
theorem iX10_feed_22 : zCo zX10_feed 22 (160) 25 := Or.inr (Or.inr (Or.inl ⟨160, by decide, by decide +kernel, rfl⟩))
theorem iX10_feed_25 : zB zX10_feed 25 (.if_icmp .le) 28 31 := ⟨6, by decide +kernel, rfl, by decide⟩
theorem iX10_feed_28 : zCo zX10_feed 28 (-4) 30 := Or.inr (Or.inl ⟨-4, by decide, by decide +kernel, rfl⟩)
theorem iX10_feed_30 : zD zX10_feed 30 1 (.ireturn) 31 := ⟨by decide +kernel, rfl⟩
theorem iX10_feed_31 : zCo zX10_feed 31 (0) 32 := Or.inl ⟨0, by decide, by decide +kernel, rfl⟩
theorem iX10_feed_32 : zIs zX10_feed 32 4 34 := ⟨by decide, Or.inr ⟨by decide +kernel, rfl⟩⟩
theorem iX10_feed_34 : zIl zX10_feed 34 4 36 := Or.inr ⟨by decide +kernel, rfl⟩
theorem iX10_feed_36 : zIl zX10_feed 36 1 37 := Or.inl ⟨1, rfl, by decide +kernel, rfl⟩
theorem iX10_feed_37 : zB zX10_feed 37 (.if_icmp .ge) 40 62 := ⟨25, by decide +kernel, rfl, by decide⟩
theorem iX10_feed_40 : zAl zX10_feed 40 0 41 := Or.inl ⟨0, rfl, by decide +kernel, rfl⟩
theorem iX10_feed_41 : zGf zX10_feed 41 10 7 44 := ⟨56, _, _, _, zcf_10, by decide, by decide +kernel, rfl, zT2_of (i := 139) rfl rfl⟩
theorem iX10_feed_44 : zLl zX10_feed 44 2 45 := Or.inl ⟨2, rfl, by decide +kernel, rfl⟩
theorem iX10_feed_45 : zCo zX10_feed 45 (8) 47 := Or.inr (Or.inl ⟨8, by decide, by decide +kernel, rfl⟩)
theorem iX10_feed_47 : zIl zX10_feed 47 4 49 := Or.inr ⟨by decide +kernel, rfl⟩
theorem iX10_feed_49 : zD zX10_feed 49 1 (.imul) 50 := ⟨by decide +kernel, rfl⟩
theorem iX10_feed_50 : zD zX10_feed 50 1 (.lshr) 51 := ⟨by decide +kernel, rfl⟩
theorem iX10_feed_51 : zD zX10_feed 51 1 (.l2i) 52 := ⟨by decide +kernel, rfl⟩
theorem iX10_feed_52 : zD zX10_feed 52 1 (.i2b) 53 := ⟨by decide +kernel, rfl⟩
theorem iX10_feed_53 : zCl zX10_feed 53 .invokevirtual zX7_add 56 := ⟨94, by decide +kernel, rfl, Or.inl (zT1_of (i := 227) rfl rfl)⟩
theorem iX10_feed_56 : zIn zX10_feed 56 4 (1) 59 := ⟨by decide, 1, by decide, by decide +kernel, rfl⟩
theorem iX10_feed_59 : zB zX10_feed 59 .goto 62 34 := ⟨-25, by decide +kernel, rfl, by decide⟩
theorem iX10_feed_62 : zAl zX10_feed 62 0 63 := Or.inl ⟨0, rfl, by decide +kernel, rfl⟩
theorem iX10_feed_63 : zGf zX10_feed 63 10 7 66 := ⟨56, _, _, _, zcf_10, by decide, by decide +kernel, rfl, zT2_of (i := 139) rfl rfl⟩
theorem iX10_feed_66 : zGf zX10_feed 66 7 3 69 := ⟨229, _, _, _, zcf_7, by decide, by decide +kernel, rfl, zT1_of (i := 95) rfl rfl⟩
theorem iX10_feed_69 : zD zX10_feed 69 1 (.ireturn) 70 := ⟨by decide +kernel, rfl⟩
theorem iX10_text_0 : zAl zX10_text 0 0 1 := Or.inl ⟨0, rfl, by decide +kernel, rfl⟩
theorem iX10_text_1 : zGf zX10_text 1 10 14 4 := ⟨109, _, _, _, zcf_10, by decide, by decide +kernel, rfl, zT2_of (i := 146) rfl rfl⟩
theorem iX10_text_4 : zCo zX10_text 4 (6) 6 := Or.inr (Or.inl ⟨6, by decide, by decide +kernel, rfl⟩)
theorem iX10_text_6 : zB zX10_text 6 (.if_icmp .lt) 9 12 := ⟨6, by decide +kernel, rfl, by decide⟩
theorem iX10_text_9 : zCo zX10_text 9 (-4) 11 := Or.inr (Or.inl ⟨-4, by decide, by decide +kernel, rfl⟩)
theorem iX10_text_11 : zD zX10_text 11 1 (.ireturn) 12 := ⟨by decide +kernel, rfl⟩
theorem iX10_text_12 : zAl zX10_text 12 0 13 := Or.inl ⟨0, rfl, by decide +kernel, rfl⟩
theorem iX10_text_13 : zGf zX10_text 13 10 8 16 := ⟨65, _, _, _, zcf_10, by decide, by decide +kernel, rfl, zT2_of (i := 140) rfl rfl⟩
theorem iX10_text_16 : zAl zX10_text 16 0 17 := Or.inl ⟨0, rfl, by decide +kernel, rfl⟩
theorem iX10_text_17 : zAl zX10_text 17 0 18 := Or.inl ⟨0, rfl, by decide +kernel, rfl⟩
theorem iX10_text_18 : zGf zX10_text 18 10 14 21 := ⟨109, _, _, _, zcf_10, by decide, by decide +kernel, rfl, zT2_of (i := 146) rfl rfl⟩
theorem iX10_text_21 : zCl zX10_text 21 .invokevirtual zX10_textOf 24 := ⟨98, by decide +kernel, rfl, Or.inl (zT1_of (i := 231) rfl rfl)⟩
theorem iX10_text_24 : zCl zX10_text 24 .invokevirtual zX3_readInto 27 := ⟨102, by decide +kernel, rfl, Or.inl (zT1_of (i := 238) rfl rfl)⟩
theorem iX10_text_27 : zIs zX10_text 27 1 28 := ⟨by decide, Or.inl ⟨1, rfl, by decide +kernel, rfl⟩⟩
theorem iX10_text_28 : zAl zX10_text 28 0 29 := Or.inl ⟨0, rfl, by decide +kernel, rfl⟩
theorem iX10_text_29 : zGf zX10_text 29 10 7 32 := ⟨56, _, _, _, zcf_10, by decide, by decide +kernel, rfl, zT2_of (i := 139) rfl rfl⟩
theorem iX10_text_32 : zCl zX10_text 32 .invokevirtual zX7_empty 35 := ⟨106, by decide +kernel, rfl, Or.inl (zT2_of (i := 128) rfl rfl)⟩
theorem iX10_text_35 : zIl zX10_text 35 1 36 := Or.inl ⟨1, rfl, by decide +kernel, rfl⟩
theorem iX10_text_36 : zCo zX10_text 36 (-1) 37 := Or.inl ⟨-1, by decide, by decide +kernel, rfl⟩
theorem iX10_text_37 : zB zX10_text 37 (.if_icmp .eq) 40 45 := ⟨8, by decide +kernel, rfl, by decide⟩
theorem iX10_text_40 : zCo zX10_text 40 (-100) 42 := Or.inr (Or.inl ⟨-100, by decide, by decide +kernel, rfl⟩)
theorem iX10_text_42 : zIl zX10_text 42 1 43 := Or.inl ⟨1, rfl, by decide +kernel, rfl⟩
theorem iX10_text_43 : zD zX10_text 43 1 (.isub) 44 := ⟨by decide +kernel, rfl⟩
theorem iX10_text_44 : zD zX10_text 44 1 (.ireturn) 45 := ⟨by decide +kernel, rfl⟩
theorem iX10_text_45 : zAl zX10_text 45 0 46 := Or.inl ⟨0, rfl, by decide +kernel, rfl⟩
theorem iX10_text_46 : zD zX10_text 46 1 (.dup) 47 := ⟨by decide +kernel, rfl⟩
theorem iX10_text_47 : zGf zX10_text 47 10 14 50 := ⟨109, _, _, _, zcf_10, by decide, by decide +kernel, rfl, zT2_of (i := 146) rfl rfl⟩
theorem iX10_text_50 : zCo zX10_text 50 (1) 51 := Or.inl ⟨1, by decide, by decide +kernel, rfl⟩
theorem iX10_text_51 : zD zX10_text 51 1 (.iadd) 52 := ⟨by decide +kernel, rfl⟩
theorem iX10_text_52 : zPf zX10_text 52 10 14 .int 55 := ⟨109, _, _, _, zcf_10, by decide, by decide +kernel, rfl, zT2_of (i := 146) rfl rfl, by decide +kernel, Or.inl rfl⟩
theorem iX10_text_55 : zAl zX10_text 55 0 56 := Or.inl ⟨0, rfl, by decide +kernel, rfl⟩
theorem iX10_text_56 : zGf zX10_text 56 10 14 59 := ⟨109, _, _, _, zcf_10, by decide, by decide +kernel, rfl, zT2_of (i := 146) rfl rfl⟩
theorem iX10_text_59 : zCo zX10_text 59 (1) 60 := Or.inl ⟨1, by decide, by decide +kernel, rfl⟩
theorem iX10_text_60 : zD zX10_text 60 1 (.isub) 61 := ⟨by decide +kernel, rfl⟩
theorem iX10_text_61 : zD zX10_text 61 1 (.ireturn) 62 := ⟨by decide +kernel, rfl⟩
theorem iX10_force_0 : zIl zX10_force 0 1 1 := Or.inl ⟨1, rfl, by decide +kernel, rfl⟩
theorem iX10_force_1 : zCo zX10_force 1 (0) 2 := Or.inl ⟨0, by decide, by decide +kernel, rfl⟩
theorem iX10_force_2 : zAl zX10_force 2 0 3 := Or.inl ⟨0, rfl, by decide +kernel, rfl⟩
theorem iX10_force_3 : zGf zX10_force 3 10 14 6 := ⟨109, _, _, _, zcf_10, by decide, by decide +kernel, rfl, zT2_of (i := 146) rfl rfl⟩
theorem iX10_force_6 : zCo zX10_force 6 (1) 7 := Or.inl ⟨1, by decide, by decide +kernel, rfl⟩
theorem iX10_force_7 : zD zX10_force 7 1 (.isub) 8 := ⟨by decide +kernel, rfl⟩
theorem iX10_force_8 : zCl zX10_force 8 .invokestatic zX10_within 11 := ⟨113, by decide +kernel, rfl, Or.inl (zT1_of (i := 235) rfl rfl)⟩
theorem iX10_force_11 : zB zX10_force 11 (.ifCond .ne) 14 17 := ⟨6, by decide +kernel, rfl, by decide⟩
theorem iX10_force_14 : zCo zX10_force 14 (-2) 16 := Or.inr (Or.inl ⟨-2, by decide, by decide +kernel, rfl⟩)
theorem iX10_force_16 : zD zX10_force 16 1 (.ireturn) 17 := ⟨by decide +kernel, rfl⟩
theorem iX10_force_17 : zAl zX10_force 17 0 18 := Or.inl ⟨0, rfl, by decide +kernel, rfl⟩
theorem iX10_force_18 : zGf zX10_force 18 10 15 21 := ⟨230, _, _, _, zcf_10, by decide, by decide +kernel, rfl, zT2_of (i := 147) rfl rfl⟩
theorem iX10_force_21 : zIs zX10_force 21 2 22 := ⟨by decide, Or.inl ⟨2, rfl, by decide +kernel, rfl⟩⟩
theorem iX10_force_22 : zAl zX10_force 22 0 23 := Or.inl ⟨0, rfl, by decide +kernel, rfl⟩
theorem iX10_force_23 : zIl zX10_force 23 1 24 := Or.inl ⟨1, rfl, by decide +kernel, rfl⟩
theorem iX10_force_24 : zPf zX10_force 24 10 15 .int 27 := ⟨230, _, _, _, zcf_10, by decide, by decide +kernel, rfl, zT2_of (i := 147) rfl rfl, by decide +kernel, Or.inl rfl⟩
theorem iX10_force_27 : zIl zX10_force 27 2 28 := Or.inl ⟨2, rfl, by decide +kernel, rfl⟩
theorem iX10_force_28 : zD zX10_force 28 1 (.ireturn) 29 := ⟨by decide +kernel, rfl⟩
theorem iX10_says_0 : zAl zX10_says 0 0 1 := Or.inl ⟨0, rfl, by decide +kernel, rfl⟩
theorem iX10_says_1 : zIl zX10_says 1 1 2 := Or.inl ⟨1, rfl, by decide +kernel, rfl⟩
theorem iX10_says_2 : zCl zX10_says 2 .invokevirtual zX10_toolOf 5 := ⟨189, by decide +kernel, rfl, Or.inl (zT3_of (i := 104) rfl rfl)⟩
theorem iX10_says_5 : zAs zX10_says 5 3 6 := ⟨by decide, Or.inl ⟨3, rfl, by decide +kernel, rfl⟩⟩
theorem iX10_says_6 : zAl zX10_says 6 3 7 := Or.inl ⟨3, rfl, by decide +kernel, rfl⟩
theorem iX10_says_7 : zB zX10_says 7 .ifnull 10 19 := ⟨12, by decide +kernel, rfl, by decide⟩
theorem iX10_says_10 : zIl zX10_says 10 2 11 := Or.inl ⟨2, rfl, by decide +kernel, rfl⟩
theorem iX10_says_11 : zCo zX10_says 11 (0) 12 := Or.inl ⟨0, by decide, by decide +kernel, rfl⟩
theorem iX10_says_12 : zCo zX10_says 12 (2) 13 := Or.inl ⟨2, by decide, by decide +kernel, rfl⟩
theorem iX10_says_13 : zCl zX10_says 13 .invokestatic zX10_within 16 := ⟨113, by decide +kernel, rfl, Or.inl (zT1_of (i := 235) rfl rfl)⟩
theorem iX10_says_16 : zB zX10_says 16 (.ifCond .ne) 19 23 := ⟨7, by decide +kernel, rfl, by decide⟩
theorem iX10_says_19 : zCL zX10_says 19 (-4611686018427387904) 22 := Or.inr ⟨154, zT3_of (i := 17) rfl rfl, by decide +kernel, rfl⟩
theorem iX10_says_22 : zD zX10_says 22 1 (.lreturn) 23 := ⟨by decide +kernel, rfl⟩
theorem iX10_says_23 : zAl zX10_says 23 0 24 := Or.inl ⟨0, rfl, by decide +kernel, rfl⟩
theorem iX10_says_24 : zAl zX10_says 24 3 25 := Or.inl ⟨3, rfl, by decide +kernel, rfl⟩
theorem iX10_says_25 : zIl zX10_says 25 2 26 := Or.inl ⟨2, rfl, by decide +kernel, rfl⟩
theorem iX10_says_26 : zCl zX10_says 26 .invokevirtual zX10_ruleFor 29 := ⟨233, by decide +kernel, rfl, Or.inl (zT3_of (i := 144) rfl rfl)⟩
theorem iX10_says_29 : zD zX10_says 29 1 (.i2l) 30 := ⟨by decide +kernel, rfl⟩
theorem iX10_says_30 : zD zX10_says 30 1 (.lreturn) 31 := ⟨by decide +kernel, rfl⟩
theorem iX10_machine_0 : zIl zX10_machine 0 1 1 := Or.inl ⟨1, rfl, by decide +kernel, rfl⟩
theorem iX10_machine_1 : zCo zX10_machine 1 (1) 2 := Or.inl ⟨1, by decide, by decide +kernel, rfl⟩
theorem iX10_machine_2 : zCo zX10_machine 2 (20) 4 := Or.inr (Or.inl ⟨20, by decide, by decide +kernel, rfl⟩)
theorem iX10_machine_4 : zCl zX10_machine 4 .invokestatic zX10_within 7 := ⟨113, by decide +kernel, rfl, Or.inl (zT1_of (i := 235) rfl rfl)⟩
theorem iX10_machine_7 : zB zX10_machine 7 (.ifCond .eq) 10 20 := ⟨13, by decide +kernel, rfl, by decide⟩
theorem iX10_machine_10 : zIl zX10_machine 10 2 11 := Or.inl ⟨2, rfl, by decide +kernel, rfl⟩
theorem iX10_machine_11 : zCo zX10_machine 11 (4) 12 := Or.inl ⟨4, by decide, by decide +kernel, rfl⟩
theorem iX10_machine_12 : zCo zX10_machine 12 (16) 14 := Or.inr (Or.inl ⟨16, by decide, by decide +kernel, rfl⟩)
theorem iX10_machine_14 : zCl zX10_machine 14 .invokestatic zX10_within 17 := ⟨113, by decide +kernel, rfl, Or.inl (zT1_of (i := 235) rfl rfl)⟩
theorem iX10_machine_17 : zB zX10_machine 17 (.ifCond .ne) 20 23 := ⟨6, by decide +kernel, rfl, by decide⟩
theorem iX10_machine_20 : zCo zX10_machine 20 (-2) 22 := Or.inr (Or.inl ⟨-2, by decide, by decide +kernel, rfl⟩)
theorem iX10_machine_22 : zD zX10_machine 22 1 (.ireturn) 23 := ⟨by decide +kernel, rfl⟩
theorem iX10_machine_23 : zAl zX10_machine 23 0 24 := Or.inl ⟨0, rfl, by decide +kernel, rfl⟩
theorem iX10_machine_24 : zGf zX10_machine 24 10 13 27 := ⟨237, _, _, _, zcf_10, by decide, by decide +kernel, rfl, zT2_of (i := 145) rfl rfl⟩
theorem iX10_machine_27 : zCo zX10_machine 27 (3) 28 := Or.inl ⟨3, by decide, by decide +kernel, rfl⟩
theorem iX10_machine_28 : zB zX10_machine 28 (.if_icmp .lt) 31 34 := ⟨6, by decide +kernel, rfl, by decide⟩
theorem iX10_machine_31 : zCo zX10_machine 31 (-4) 33 := Or.inr (Or.inl ⟨-4, by decide, by decide +kernel, rfl⟩)
theorem iX10_machine_33 : zD zX10_machine 33 1 (.ireturn) 34 := ⟨by decide +kernel, rfl⟩
theorem iX10_machine_34 : zAl zX10_machine 34 0 35 := Or.inl ⟨0, rfl, by decide +kernel, rfl⟩
theorem iX10_machine_35 : zGf zX10_machine 35 10 2 38 := ⟨23, _, _, _, zcf_10, by decide, by decide +kernel, rfl, zT2_of (i := 134) rfl rfl⟩
theorem iX10_machine_38 : zAl zX10_machine 38 0 39 := Or.inl ⟨0, rfl, by decide +kernel, rfl⟩
theorem iX10_machine_39 : zGf zX10_machine 39 10 13 42 := ⟨237, _, _, _, zcf_10, by decide, by decide +kernel, rfl, zT2_of (i := 145) rfl rfl⟩
theorem iX10_machine_42 : zNw zX10_machine 42 2 45 := ⟨21, _, _, _, zcf_2, by decide +kernel, rfl, zT1_of (i := 31) rfl rfl, zT3_of (i := 174) rfl rfl, zT1_of (i := 17) rfl rfl⟩
theorem iX10_machine_45 : zD zX10_machine 45 1 (.dup) 46 := ⟨by decide +kernel, rfl⟩
theorem iX10_machine_46 : zIl zX10_machine 46 1 47 := Or.inl ⟨1, rfl, by decide +kernel, rfl⟩
theorem iX10_machine_47 : zIl zX10_machine 47 2 48 := Or.inl ⟨2, rfl, by decide +kernel, rfl⟩
theorem iX10_machine_48 : zCl zX10_machine 48 .invokespecial zX2_init 51 := ⟨240, by decide +kernel, rfl, Or.inl (zT3_of (i := 175) rfl rfl)⟩
theorem iX10_machine_51 : zD zX10_machine 51 1 (.aastore) 52 := ⟨by decide +kernel, rfl⟩
theorem iX10_machine_52 : zAl zX10_machine 52 0 53 := Or.inl ⟨0, rfl, by decide +kernel, rfl⟩
theorem iX10_machine_53 : zD zX10_machine 53 1 (.dup) 54 := ⟨by decide +kernel, rfl⟩
theorem iX10_machine_54 : zGf zX10_machine 54 10 13 57 := ⟨237, _, _, _, zcf_10, by decide, by decide +kernel, rfl, zT2_of (i := 145) rfl rfl⟩
theorem iX10_machine_57 : zCo zX10_machine 57 (1) 58 := Or.inl ⟨1, by decide, by decide +kernel, rfl⟩
theorem iX10_machine_58 : zD zX10_machine 58 1 (.iadd) 59 := ⟨by decide +kernel, rfl⟩
theorem iX10_machine_59 : zPf zX10_machine 59 10 13 .int 62 := ⟨237, _, _, _, zcf_10, by decide, by decide +kernel, rfl, zT2_of (i := 145) rfl rfl, by decide +kernel, Or.inl rfl⟩
theorem iX10_machine_62 : zAl zX10_machine 62 0 63 := Or.inl ⟨0, rfl, by decide +kernel, rfl⟩
theorem iX10_machine_63 : zGf zX10_machine 63 10 13 66 := ⟨237, _, _, _, zcf_10, by decide, by decide +kernel, rfl, zT2_of (i := 145) rfl rfl⟩
theorem iX10_machine_66 : zCo zX10_machine 66 (1) 67 := Or.inl ⟨1, by decide, by decide +kernel, rfl⟩
theorem iX10_machine_67 : zD zX10_machine 67 1 (.isub) 68 := ⟨by decide +kernel, rfl⟩
theorem iX10_machine_68 : zD zX10_machine 68 1 (.ireturn) 69 := ⟨by decide +kernel, rfl⟩
theorem iX10_put_0 : zAl zX10_put 0 0 1 := Or.inl ⟨0, rfl, by decide +kernel, rfl⟩
theorem iX10_put_1 : zIl zX10_put 1 1 2 := Or.inl ⟨1, rfl, by decide +kernel, rfl⟩
theorem iX10_put_2 : zCl zX10_put 2 .invokevirtual zX10_machineOf 5 := ⟨243, by decide +kernel, rfl, Or.inl (zT3_of (i := 194) rfl rfl)⟩
theorem iX10_put_5 : zAs zX10_put 5 4 7 := ⟨by decide, Or.inr ⟨by decide +kernel, rfl⟩⟩
theorem iX10_put_7 : zAl zX10_put 7 0 8 := Or.inl ⟨0, rfl, by decide +kernel, rfl⟩
theorem iX10_put_8 : zIl zX10_put 8 2 9 := Or.inl ⟨2, rfl, by decide +kernel, rfl⟩
theorem iX10_put_9 : zCl zX10_put 9 .invokevirtual zX10_toolOf 12 := ⟨189, by decide +kernel, rfl, Or.inl (zT3_of (i := 104) rfl rfl)⟩
theorem iX10_put_12 : zAs zX10_put 12 5 14 := ⟨by decide, Or.inr ⟨by decide +kernel, rfl⟩⟩
theorem iX10_put_14 : zAl zX10_put 14 4 16 := Or.inr ⟨by decide +kernel, rfl⟩
theorem iX10_put_16 : zB zX10_put 16 .ifnull 19 33 := ⟨17, by decide +kernel, rfl, by decide⟩
theorem iX10_put_19 : zAl zX10_put 19 5 21 := Or.inr ⟨by decide +kernel, rfl⟩
theorem iX10_put_21 : zB zX10_put 21 .ifnull 24 33 := ⟨12, by decide +kernel, rfl, by decide⟩
theorem iX10_put_24 : zAl zX10_put 24 4 26 := Or.inr ⟨by decide +kernel, rfl⟩
theorem iX10_put_26 : zIl zX10_put 26 3 27 := Or.inl ⟨3, rfl, by decide +kernel, rfl⟩
theorem iX10_put_27 : zCl zX10_put 27 .invokevirtual zX2_hasPlace 30 := ⟨247, by decide +kernel, rfl, Or.inl (zT3_of (i := 198) rfl rfl)⟩
theorem iX10_put_30 : zB zX10_put 30 (.ifCond .ne) 33 36 := ⟨6, by decide +kernel, rfl, by decide⟩
theorem iX10_put_33 : zCo zX10_put 33 (-2) 35 := Or.inr (Or.inl ⟨-2, by decide, by decide +kernel, rfl⟩)
theorem iX10_put_35 : zD zX10_put 35 1 (.ireturn) 36 := ⟨by decide +kernel, rfl⟩
theorem iX10_put_36 : zAl zX10_put 36 5 38 := Or.inr ⟨by decide +kernel, rfl⟩
theorem iX10_put_38 : zGf zX10_put 38 9 6 41 := ⟨211, _, _, _, zcf_9, by decide, by decide +kernel, rfl, zT3_of (i := 80) rfl rfl⟩
theorem iX10_put_41 : zCo zX10_put 41 (-1) 42 := Or.inl ⟨-1, by decide, by decide +kernel, rfl⟩
theorem iX10_put_42 : zB zX10_put 42 (.if_icmp .ne) 45 59 := ⟨17, by decide +kernel, rfl, by decide⟩
theorem iX10_put_45 : zAl zX10_put 45 4 47 := Or.inr ⟨by decide +kernel, rfl⟩
theorem iX10_put_47 : zIl zX10_put 47 3 48 := Or.inl ⟨3, rfl, by decide +kernel, rfl⟩
theorem iX10_put_48 : zAl zX10_put 48 5 50 := Or.inr ⟨by decide +kernel, rfl⟩
theorem iX10_put_50 : zGf zX10_put 50 9 3 53 := ⟨199, _, _, _, zcf_9, by decide, by decide +kernel, rfl, zT3_of (i := 75) rfl rfl⟩
theorem iX10_put_53 : zCl zX10_put 53 .invokevirtual zX2_hasRoom 56 := ⟨250, by decide +kernel, rfl, Or.inl (zT3_of (i := 202) rfl rfl)⟩
theorem iX10_put_56 : zB zX10_put 56 (.ifCond .ne) 59 62 := ⟨6, by decide +kernel, rfl, by decide⟩
theorem iX10_put_59 : zCo zX10_put 59 (-3) 61 := Or.inr (Or.inl ⟨-3, by decide, by decide +kernel, rfl⟩)
theorem iX10_put_61 : zD zX10_put 61 1 (.ireturn) 62 := ⟨by decide +kernel, rfl⟩
theorem iX10_put_62 : zAl zX10_put 62 0 63 := Or.inl ⟨0, rfl, by decide +kernel, rfl⟩
theorem iX10_put_63 : zAl zX10_put 63 5 65 := Or.inr ⟨by decide +kernel, rfl⟩
theorem iX10_put_65 : zCo zX10_put 65 (2) 66 := Or.inl ⟨2, by decide, by decide +kernel, rfl⟩
theorem iX10_put_66 : zCl zX10_put 66 .invokevirtual zX10_ruleFor 69 := ⟨233, by decide +kernel, rfl, Or.inl (zT3_of (i := 144) rfl rfl)⟩
theorem iX10_put_69 : zB zX10_put 69 (.ifCond .ne) 72 75 := ⟨6, by decide +kernel, rfl, by decide⟩
theorem iX10_put_72 : zCo zX10_put 72 (-3) 74 := Or.inr (Or.inl ⟨-3, by decide, by decide +kernel, rfl⟩)
theorem iX10_put_74 : zD zX10_put 74 1 (.ireturn) 75 := ⟨by decide +kernel, rfl⟩
theorem iX10_put_75 : zAl zX10_put 75 4 77 := Or.inr ⟨by decide +kernel, rfl⟩
theorem iX10_put_77 : zIl zX10_put 77 3 78 := Or.inl ⟨3, rfl, by decide +kernel, rfl⟩
theorem iX10_put_78 : zAl zX10_put 78 5 80 := Or.inr ⟨by decide +kernel, rfl⟩
theorem iX10_put_80 : zGf zX10_put 80 9 3 83 := ⟨199, _, _, _, zcf_9, by decide, by decide +kernel, rfl, zT3_of (i := 75) rfl rfl⟩
theorem iX10_put_83 : zIl zX10_put 83 2 84 := Or.inl ⟨2, rfl, by decide +kernel, rfl⟩
theorem iX10_put_84 : zCl zX10_put 84 .invokevirtual zX2_hold 87 := ⟨253, by decide +kernel, rfl, Or.inl (zT3_of (i := 207) rfl rfl)⟩
theorem iX10_put_87 : zAl zX10_put 87 5 89 := Or.inr ⟨by decide +kernel, rfl⟩
theorem iX10_put_89 : zIl zX10_put 89 1 90 := Or.inl ⟨1, rfl, by decide +kernel, rfl⟩
theorem iX10_put_90 : zPf zX10_put 90 9 6 .int 93 := ⟨211, _, _, _, zcf_9, by decide, by decide +kernel, rfl, zT3_of (i := 80) rfl rfl, by decide +kernel, Or.inl rfl⟩
theorem iX10_put_93 : zAl zX10_put 93 5 95 := Or.inr ⟨by decide +kernel, rfl⟩
theorem iX10_put_95 : zIl zX10_put 95 3 96 := Or.inl ⟨3, rfl, by decide +kernel, rfl⟩
theorem iX10_put_96 : zPf zX10_put 96 9 7 .int 99 := ⟨214, _, _, _, zcf_9, by decide, by decide +kernel, rfl, zT3_of (i := 82) rfl rfl, by decide +kernel, Or.inl rfl⟩
theorem iX10_put_99 : zCo zX10_put 99 (1) 100 := Or.inl ⟨1, by decide, by decide +kernel, rfl⟩
theorem iX10_put_100 : zD zX10_put 100 1 (.ireturn) 101 := ⟨by decide +kernel, rfl⟩
theorem iX10_take_0 : zAl zX10_take 0 0 1 := Or.inl ⟨0, rfl, by decide +kernel, rfl⟩
theorem iX10_take_1 : zIl zX10_take 1 1 2 := Or.inl ⟨1, rfl, by decide +kernel, rfl⟩
theorem iX10_take_2 : zCl zX10_take 2 .invokevirtual zX10_toolOf 5 := ⟨189, by decide +kernel, rfl, Or.inl (zT3_of (i := 104) rfl rfl)⟩
theorem iX10_take_5 : zAs zX10_take 5 2 6 := ⟨by decide, Or.inl ⟨2, rfl, by decide +kernel, rfl⟩⟩
theorem iX10_take_6 : zAl zX10_take 6 2 7 := Or.inl ⟨2, rfl, by decide +kernel, rfl⟩
theorem iX10_take_7 : zB zX10_take 7 .ifnonnull 10 13 := ⟨6, by decide +kernel, rfl, by decide⟩
theorem iX10_take_10 : zCo zX10_take 10 (-2) 12 := Or.inr (Or.inl ⟨-2, by decide, by decide +kernel, rfl⟩)
theorem iX10_take_12 : zD zX10_take 12 1 (.ireturn) 13 := ⟨by decide +kernel, rfl⟩
theorem iX10_take_13 : zAl zX10_take 13 2 14 := Or.inl ⟨2, rfl, by decide +kernel, rfl⟩
theorem iX10_take_14 : zGf zX10_take 14 9 6 17 := ⟨211, _, _, _, zcf_9, by decide, by decide +kernel, rfl, zT3_of (i := 80) rfl rfl⟩
theorem iX10_take_17 : zIs zX10_take 17 3 18 := ⟨by decide, Or.inl ⟨3, rfl, by decide +kernel, rfl⟩⟩
theorem iX10_take_18 : zAl zX10_take 18 0 19 := Or.inl ⟨0, rfl, by decide +kernel, rfl⟩
theorem iX10_take_19 : zIl zX10_take 19 3 20 := Or.inl ⟨3, rfl, by decide +kernel, rfl⟩
theorem iX10_take_20 : zCl zX10_take 20 .invokevirtual zX10_machineOf 23 := ⟨243, by decide +kernel, rfl, Or.inl (zT3_of (i := 194) rfl rfl)⟩
theorem iX10_take_23 : zAs zX10_take 23 4 25 := ⟨by decide, Or.inr ⟨by decide +kernel, rfl⟩⟩
theorem iX10_take_25 : zAl zX10_take 25 4 27 := Or.inr ⟨by decide +kernel, rfl⟩
theorem iX10_take_27 : zB zX10_take 27 .ifnonnull 30 33 := ⟨6, by decide +kernel, rfl, by decide⟩
theorem iX10_take_30 : zCo zX10_take 30 (-3) 32 := Or.inr (Or.inl ⟨-3, by decide, by decide +kernel, rfl⟩)
theorem iX10_take_32 : zD zX10_take 32 1 (.ireturn) 33 := ⟨by decide +kernel, rfl⟩
theorem iX10_take_33 : zAl zX10_take 33 4 35 := Or.inr ⟨by decide +kernel, rfl⟩
theorem iX10_take_35 : zAl zX10_take 35 2 36 := Or.inl ⟨2, rfl, by decide +kernel, rfl⟩
theorem iX10_take_36 : zGf zX10_take 36 9 7 39 := ⟨214, _, _, _, zcf_9, by decide, by decide +kernel, rfl, zT3_of (i := 82) rfl rfl⟩
theorem iX10_take_39 : zAl zX10_take 39 2 40 := Or.inl ⟨2, rfl, by decide +kernel, rfl⟩
theorem iX10_take_40 : zGf zX10_take 40 9 3 43 := ⟨199, _, _, _, zcf_9, by decide, by decide +kernel, rfl, zT3_of (i := 75) rfl rfl⟩
theorem iX10_take_43 : zCo zX10_take 43 (-1) 44 := Or.inl ⟨-1, by decide, by decide +kernel, rfl⟩
theorem iX10_take_44 : zCl zX10_take 44 .invokevirtual zX2_hold 47 := ⟨253, by decide +kernel, rfl, Or.inl (zT3_of (i := 207) rfl rfl)⟩
theorem iX10_take_47 : zAl zX10_take 47 2 48 := Or.inl ⟨2, rfl, by decide +kernel, rfl⟩
theorem iX10_take_48 : zCo zX10_take 48 (-1) 49 := Or.inl ⟨-1, by decide, by decide +kernel, rfl⟩
theorem iX10_take_49 : zPf zX10_take 49 9 6 .int 52 := ⟨211, _, _, _, zcf_9, by decide, by decide +kernel, rfl, zT3_of (i := 80) rfl rfl, by decide +kernel, Or.inl rfl⟩
theorem iX10_take_52 : zAl zX10_take 52 2 53 := Or.inl ⟨2, rfl, by decide +kernel, rfl⟩
theorem iX10_take_53 : zCo zX10_take 53 (-1) 54 := Or.inl ⟨-1, by decide, by decide +kernel, rfl⟩
theorem iX10_take_54 : zPf zX10_take 54 9 7 .int 57 := ⟨214, _, _, _, zcf_9, by decide, by decide +kernel, rfl, zT3_of (i := 82) rfl rfl, by decide +kernel, Or.inl rfl⟩
theorem iX10_take_57 : zIl zX10_take 57 3 58 := Or.inl ⟨3, rfl, by decide +kernel, rfl⟩
theorem iX10_take_58 : zD zX10_take 58 1 (.ireturn) 59 := ⟨by decide +kernel, rfl⟩
theorem iX10_at_0 : zAl zX10_at 0 0 1 := Or.inl ⟨0, rfl, by decide +kernel, rfl⟩
theorem iX10_at_1 : zIl zX10_at 1 1 2 := Or.inl ⟨1, rfl, by decide +kernel, rfl⟩
theorem iX10_at_2 : zCl zX10_at 2 .invokevirtual zX10_machineOf 5 := ⟨243, by decide +kernel, rfl, Or.inl (zT3_of (i := 194) rfl rfl)⟩
theorem iX10_at_5 : zAs zX10_at 5 3 6 := ⟨by decide, Or.inl ⟨3, rfl, by decide +kernel, rfl⟩⟩
theorem iX10_at_6 : zAl zX10_at 6 3 7 := Or.inl ⟨3, rfl, by decide +kernel, rfl⟩
theorem iX10_at_7 : zB zX10_at 7 .ifnull 10 18 := ⟨11, by decide +kernel, rfl, by decide⟩
theorem iX10_at_10 : zAl zX10_at 10 3 11 := Or.inl ⟨3, rfl, by decide +kernel, rfl⟩
theorem iX10_at_11 : zIl zX10_at 11 2 12 := Or.inl ⟨2, rfl, by decide +kernel, rfl⟩
theorem iX10_at_12 : zCl zX10_at 12 .invokevirtual zX2_hasPlace 15 := ⟨247, by decide +kernel, rfl, Or.inl (zT3_of (i := 198) rfl rfl)⟩
theorem iX10_at_15 : zB zX10_at 15 (.ifCond .ne) 18 21 := ⟨6, by decide +kernel, rfl, by decide⟩
theorem iX10_at_18 : zCo zX10_at 18 (-2) 20 := Or.inr (Or.inl ⟨-2, by decide, by decide +kernel, rfl⟩)
theorem iX10_at_20 : zD zX10_at 20 1 (.ireturn) 21 := ⟨by decide +kernel, rfl⟩
theorem iX10_at_21 : zAl zX10_at 21 3 22 := Or.inl ⟨3, rfl, by decide +kernel, rfl⟩
theorem iX10_at_22 : zIl zX10_at 22 2 23 := Or.inl ⟨2, rfl, by decide +kernel, rfl⟩
theorem iX10_at_23 : zCl zX10_at 23 .invokevirtual zX2_heldAt 26 := ⟨257, by decide +kernel, rfl, Or.inl (zT3_of (i := 219) rfl rfl)⟩
theorem iX10_at_26 : zD zX10_at 26 1 (.ireturn) 27 := ⟨by decide +kernel, rfl⟩
theorem iX10_room_0 : zAl zX10_room 0 0 1 := Or.inl ⟨0, rfl, by decide +kernel, rfl⟩
theorem iX10_room_1 : zIl zX10_room 1 1 2 := Or.inl ⟨1, rfl, by decide +kernel, rfl⟩
theorem iX10_room_2 : zCl zX10_room 2 .invokevirtual zX10_machineOf 5 := ⟨243, by decide +kernel, rfl, Or.inl (zT3_of (i := 194) rfl rfl)⟩
theorem iX10_room_5 : zAs zX10_room 5 3 6 := ⟨by decide, Or.inl ⟨3, rfl, by decide +kernel, rfl⟩⟩
theorem iX10_room_6 : zAl zX10_room 6 0 7 := Or.inl ⟨0, rfl, by decide +kernel, rfl⟩
theorem iX10_room_7 : zIl zX10_room 7 2 8 := Or.inl ⟨2, rfl, by decide +kernel, rfl⟩
theorem iX10_room_8 : zCl zX10_room 8 .invokevirtual zX10_toolOf 11 := ⟨189, by decide +kernel, rfl, Or.inl (zT3_of (i := 104) rfl rfl)⟩
theorem iX10_room_11 : zAs zX10_room 11 4 13 := ⟨by decide, Or.inr ⟨by decide +kernel, rfl⟩⟩
theorem iX10_room_13 : zAl zX10_room 13 3 14 := Or.inl ⟨3, rfl, by decide +kernel, rfl⟩
theorem iX10_room_14 : zB zX10_room 14 .ifnull 17 22 := ⟨8, by decide +kernel, rfl, by decide⟩
theorem iX10_room_17 : zAl zX10_room 17 4 19 := Or.inr ⟨by decide +kernel, rfl⟩
theorem iX10_room_19 : zB zX10_room 19 .ifnonnull 22 25 := ⟨6, by decide +kernel, rfl, by decide⟩
theorem iX10_room_22 : zCo zX10_room 22 (-2) 24 := Or.inr (Or.inl ⟨-2, by decide, by decide +kernel, rfl⟩)
theorem iX10_room_24 : zD zX10_room 24 1 (.ireturn) 25 := ⟨by decide +kernel, rfl⟩
theorem iX10_room_25 : zAl zX10_room 25 3 26 := Or.inl ⟨3, rfl, by decide +kernel, rfl⟩
theorem iX10_room_26 : zAl zX10_room 26 4 28 := Or.inr ⟨by decide +kernel, rfl⟩
theorem iX10_room_28 : zGf zX10_room 28 9 3 31 := ⟨199, _, _, _, zcf_9, by decide, by decide +kernel, rfl, zT3_of (i := 75) rfl rfl⟩
theorem iX10_room_31 : zCl zX10_room 31 .invokevirtual zX2_leastRoom 34 := ⟨260, by decide +kernel, rfl, Or.inl (zT3_of (i := 227) rfl rfl)⟩
theorem iX10_room_34 : zD zX10_room 34 1 (.ireturn) 35 := ⟨by decide +kernel, rfl⟩
theorem iX10_cut_0 : zAl zX10_cut 0 0 1 := Or.inl ⟨0, rfl, by decide +kernel, rfl⟩
theorem iX10_cut_1 : zIl zX10_cut 1 1 2 := Or.inl ⟨1, rfl, by decide +kernel, rfl⟩
theorem iX10_cut_2 : zCl zX10_cut 2 .invokevirtual zX10_machineOf 5 := ⟨243, by decide +kernel, rfl, Or.inl (zT3_of (i := 194) rfl rfl)⟩
theorem iX10_cut_5 : zAs zX10_cut 5 5 7 := ⟨by decide, Or.inr ⟨by decide +kernel, rfl⟩⟩
theorem iX10_cut_7 : zAl zX10_cut 7 5 9 := Or.inr ⟨by decide +kernel, rfl⟩
theorem iX10_cut_9 : zB zX10_cut 9 .ifnull 12 40 := ⟨31, by decide +kernel, rfl, by decide⟩
theorem iX10_cut_12 : zIl zX10_cut 12 2 13 := Or.inl ⟨2, rfl, by decide +kernel, rfl⟩
theorem iX10_cut_13 : zCl zX10_cut 13 .invokestatic zX10_isFamily 16 := ⟨179, by decide +kernel, rfl, Or.inl (zT3_of (i := 60) rfl rfl)⟩
theorem iX10_cut_16 : zB zX10_cut 16 (.ifCond .eq) 19 40 := ⟨24, by decide +kernel, rfl, by decide⟩
theorem iX10_cut_19 : zIl zX10_cut 19 3 20 := Or.inl ⟨3, rfl, by decide +kernel, rfl⟩
theorem iX10_cut_20 : zCo zX10_cut 20 (1) 21 := Or.inl ⟨1, by decide, by decide +kernel, rfl⟩
theorem iX10_cut_21 : zCo zX10_cut 21 (99) 23 := Or.inr (Or.inl ⟨99, by decide, by decide +kernel, rfl⟩)
theorem iX10_cut_23 : zCl zX10_cut 23 .invokestatic zX10_within 26 := ⟨113, by decide +kernel, rfl, Or.inl (zT1_of (i := 235) rfl rfl)⟩
theorem iX10_cut_26 : zB zX10_cut 26 (.ifCond .eq) 29 40 := ⟨14, by decide +kernel, rfl, by decide⟩
theorem iX10_cut_29 : zIl zX10_cut 29 4 31 := Or.inr ⟨by decide +kernel, rfl⟩
theorem iX10_cut_31 : zCo zX10_cut 31 (1) 32 := Or.inl ⟨1, by decide, by decide +kernel, rfl⟩
theorem iX10_cut_32 : zCo zX10_cut 32 (20) 34 := Or.inr (Or.inl ⟨20, by decide, by decide +kernel, rfl⟩)
theorem iX10_cut_34 : zCl zX10_cut 34 .invokestatic zX10_within 37 := ⟨113, by decide +kernel, rfl, Or.inl (zT1_of (i := 235) rfl rfl)⟩
theorem iX10_cut_37 : zB zX10_cut 37 (.ifCond .ne) 40 43 := ⟨6, by decide +kernel, rfl, by decide⟩
theorem iX10_cut_40 : zCo zX10_cut 40 (-2) 42 := Or.inr (Or.inl ⟨-2, by decide, by decide +kernel, rfl⟩)
theorem iX10_cut_42 : zD zX10_cut 42 1 (.ireturn) 43 := ⟨by decide +kernel, rfl⟩
theorem iX10_cut_43 : zAl zX10_cut 43 0 44 := Or.inl ⟨0, rfl, by decide +kernel, rfl⟩
theorem iX10_cut_44 : zIl zX10_cut 44 1 45 := Or.inl ⟨1, rfl, by decide +kernel, rfl⟩
theorem iX10_cut_45 : zIl zX10_cut 45 2 46 := Or.inl ⟨2, rfl, by decide +kernel, rfl⟩
theorem iX10_cut_46 : zCl zX10_cut 46 .invokevirtual zX10_takerOf 49 := ⟨263, by decide +kernel, rfl, Or.inl (zT3_of (i := 236) rfl rfl)⟩
theorem iX10_cut_49 : zIs zX10_cut 49 6 51 := ⟨by decide, Or.inr ⟨by decide +kernel, rfl⟩⟩
theorem iX10_cut_51 : zAl zX10_cut 51 0 52 := Or.inl ⟨0, rfl, by decide +kernel, rfl⟩
theorem iX10_cut_52 : zIl zX10_cut 52 6 54 := Or.inr ⟨by decide +kernel, rfl⟩
theorem iX10_cut_54 : zCl zX10_cut 54 .invokevirtual zX10_toolOf 57 := ⟨189, by decide +kernel, rfl, Or.inl (zT3_of (i := 104) rfl rfl)⟩
theorem iX10_cut_57 : zAs zX10_cut 57 7 59 := ⟨by decide, Or.inr ⟨by decide +kernel, rfl⟩⟩
theorem iX10_cut_59 : zAl zX10_cut 59 7 61 := Or.inr ⟨by decide +kernel, rfl⟩
theorem iX10_cut_61 : zB zX10_cut 61 .ifnonnull 64 67 := ⟨6, by decide +kernel, rfl, by decide⟩
theorem iX10_cut_64 : zCo zX10_cut 64 (-3) 66 := Or.inr (Or.inl ⟨-3, by decide, by decide +kernel, rfl⟩)
theorem iX10_cut_66 : zD zX10_cut 66 1 (.ireturn) 67 := ⟨by decide +kernel, rfl⟩
theorem iX10_cut_67 : zAl zX10_cut 67 7 69 := Or.inr ⟨by decide +kernel, rfl⟩
theorem iX10_cut_69 : zGf zX10_cut 69 9 2 72 := ⟨267, _, _, _, zcf_9, by decide, by decide +kernel, rfl, zT3_of (i := 73) rfl rfl⟩
theorem iX10_cut_72 : zAs zX10_cut 72 8 74 := ⟨by decide, Or.inr ⟨by decide +kernel, rfl⟩⟩
theorem iX10_cut_74 : zAl zX10_cut 74 8 76 := Or.inr ⟨by decide +kernel, rfl⟩
theorem iX10_cut_76 : zIl zX10_cut 76 3 77 := Or.inl ⟨3, rfl, by decide +kernel, rfl⟩
theorem iX10_cut_77 : zAl zX10_cut 77 5 79 := Or.inr ⟨by decide +kernel, rfl⟩
theorem iX10_cut_79 : zGf zX10_cut 79 2 0 82 := ⟨271, _, _, _, zcf_2, by decide, by decide +kernel, rfl, zT3_of (i := 180) rfl rfl⟩
theorem iX10_cut_82 : zIl zX10_cut 82 4 84 := Or.inr ⟨by decide +kernel, rfl⟩
theorem iX10_cut_84 : zCl zX10_cut 84 .invokevirtual zX0_cutBy 87 := ⟨274, by decide +kernel, rfl, Or.inl (zT4_of (i := 5) rfl rfl)⟩
theorem iX10_cut_87 : zAl zX10_cut 87 8 89 := Or.inr ⟨by decide +kernel, rfl⟩
theorem iX10_cut_89 : zIl zX10_cut 89 1 90 := Or.inl ⟨1, rfl, by decide +kernel, rfl⟩
theorem iX10_cut_90 : zCl zX10_cut 90 .invokevirtual zX0_follow 93 := ⟨277, by decide +kernel, rfl, Or.inl (zT4_of (i := 10) rfl rfl)⟩
theorem iX10_cut_93 : zAl zX10_cut 93 0 94 := Or.inl ⟨0, rfl, by decide +kernel, rfl⟩
theorem iX10_cut_94 : zAl zX10_cut 94 7 96 := Or.inr ⟨by decide +kernel, rfl⟩
theorem iX10_cut_96 : zCo zX10_cut 96 (1) 97 := Or.inl ⟨1, by decide, by decide +kernel, rfl⟩
theorem iX10_cut_97 : zCl zX10_cut 97 .invokevirtual zX10_ruleFor 100 := ⟨233, by decide +kernel, rfl, Or.inl (zT3_of (i := 144) rfl rfl)⟩
theorem iX10_cut_100 : zB zX10_cut 100 (.ifCond .eq) 103 112 := ⟨12, by decide +kernel, rfl, by decide⟩
theorem iX10_cut_103 : zAl zX10_cut 103 8 105 := Or.inr ⟨by decide +kernel, rfl⟩
theorem iX10_cut_105 : zCo zX10_cut 105 (2) 106 := Or.inl ⟨2, by decide, by decide +kernel, rfl⟩
theorem iX10_cut_106 : zPf zX10_cut 106 0 7 .int 109 := ⟨145, _, _, _, zcf_0, by decide, by decide +kernel, rfl, zT2_of (i := 207) rfl rfl, by decide +kernel, Or.inl rfl⟩
theorem iX10_cut_109 : zB zX10_cut 109 .goto 112 142 := ⟨33, by decide +kernel, rfl, by decide⟩
theorem iX10_cut_112 : zAl zX10_cut 112 8 114 := Or.inr ⟨by decide +kernel, rfl⟩
theorem iX10_cut_114 : zGf zX10_cut 114 0 12 117 := ⟨156, _, _, _, zcf_0, by decide, by decide +kernel, rfl, zT2_of (i := 217) rfl rfl⟩
theorem iX10_cut_117 : zAl zX10_cut 117 8 119 := Or.inr ⟨by decide +kernel, rfl⟩
theorem iX10_cut_119 : zCl zX10_cut 119 .invokevirtual zX0_wearInAll 122 := ⟨160, by decide +kernel, rfl, Or.inl (zT3_of (i := 18) rfl rfl)⟩
theorem iX10_cut_122 : zD zX10_cut 122 1 (.lcmp) 123 := ⟨by decide +kernel, rfl⟩
theorem iX10_cut_123 : zB zX10_cut 123 (.ifCond .ge) 126 136 := ⟨13, by decide +kernel, rfl, by decide⟩
theorem iX10_cut_126 : zAl zX10_cut 126 0 127 := Or.inl ⟨0, rfl, by decide +kernel, rfl⟩
theorem iX10_cut_127 : zAl zX10_cut 127 7 129 := Or.inr ⟨by decide +kernel, rfl⟩
theorem iX10_cut_129 : zCo zX10_cut 129 (0) 130 := Or.inl ⟨0, by decide, by decide +kernel, rfl⟩
theorem iX10_cut_130 : zCl zX10_cut 130 .invokevirtual zX10_ruleFor 133 := ⟨233, by decide +kernel, rfl, Or.inl (zT3_of (i := 144) rfl rfl)⟩
theorem iX10_cut_133 : zB zX10_cut 133 (.ifCond .eq) 136 142 := ⟨9, by decide +kernel, rfl, by decide⟩
theorem iX10_cut_136 : zAl zX10_cut 136 8 138 := Or.inr ⟨by decide +kernel, rfl⟩
theorem iX10_cut_138 : zCo zX10_cut 138 (1) 139 := Or.inl ⟨1, by decide, by decide +kernel, rfl⟩
theorem iX10_cut_139 : zPf zX10_cut 139 0 7 .int 142 := ⟨145, _, _, _, zcf_0, by decide, by decide +kernel, rfl, zT2_of (i := 207) rfl rfl, by decide +kernel, Or.inl rfl⟩
theorem iX10_cut_142 : zIl zX10_cut 142 6 144 := Or.inr ⟨by decide +kernel, rfl⟩
theorem iX10_cut_144 : zD zX10_cut 144 1 (.ireturn) 145 := ⟨by decide +kernel, rfl⟩
theorem iX10_job_0 : zIl zX10_job 0 1 1 := Or.inl ⟨1, rfl, by decide +kernel, rfl⟩
theorem iX10_job_1 : zCo zX10_job 1 (1) 2 := Or.inl ⟨1, by decide, by decide +kernel, rfl⟩
theorem iX10_job_2 : zCo zX10_job 2 (1023) 5 := Or.inr (Or.inr (Or.inl ⟨1023, by decide, by decide +kernel, rfl⟩))
theorem iX10_job_5 : zCl zX10_job 5 .invokestatic zX10_within 8 := ⟨113, by decide +kernel, rfl, Or.inl (zT1_of (i := 235) rfl rfl)⟩
theorem iX10_job_8 : zB zX10_job 8 (.ifCond .eq) 11 19 := ⟨11, by decide +kernel, rfl, by decide⟩
theorem iX10_job_11 : zIl zX10_job 11 1 12 := Or.inl ⟨1, rfl, by decide +kernel, rfl⟩
theorem iX10_job_12 : zCl zX10_job 12 .invokestatic zJ6_bitCount_0f7a4 15 := ⟨281, by decide +kernel, rfl, Or.inl (zT4_of (i := 19) rfl rfl)⟩
theorem iX10_job_15 : zCo zX10_job 15 (5) 16 := Or.inl ⟨5, by decide, by decide +kernel, rfl⟩
theorem iX10_job_16 : zB zX10_job 16 (.if_icmp .le) 19 22 := ⟨6, by decide +kernel, rfl, by decide⟩
theorem iX10_job_19 : zCo zX10_job 19 (-2) 21 := Or.inr (Or.inl ⟨-2, by decide, by decide +kernel, rfl⟩)
theorem iX10_job_21 : zD zX10_job 21 1 (.ireturn) 22 := ⟨by decide +kernel, rfl⟩
theorem iX10_job_22 : zAl zX10_job 22 0 23 := Or.inl ⟨0, rfl, by decide +kernel, rfl⟩
theorem iX10_job_23 : zGf zX10_job 23 10 6 26 := ⟨49, _, _, _, zcf_10, by decide, by decide +kernel, rfl, zT2_of (i := 138) rfl rfl⟩
theorem iX10_job_26 : zIl zX10_job 26 1 27 := Or.inl ⟨1, rfl, by decide +kernel, rfl⟩
theorem iX10_job_27 : zCl zX10_job 27 .invokevirtual zX1_add 30 := ⟨286, by decide +kernel, rfl, Or.inl (zT4_of (i := 25) rfl rfl)⟩
theorem iX10_job_30 : zD zX10_job 30 1 (.ireturn) 31 := ⟨by decide +kernel, rfl⟩
theorem iX10_changes_0 : zIl zX10_changes 0 3 1 := Or.inl ⟨3, rfl, by decide +kernel, rfl⟩
theorem iX10_changes_1 : zCo zX10_changes 1 (1) 2 := Or.inl ⟨1, by decide, by decide +kernel, rfl⟩
theorem iX10_changes_2 : zCo zX10_changes 2 (9) 4 := Or.inr (Or.inl ⟨9, by decide, by decide +kernel, rfl⟩)
theorem iX10_changes_4 : zCl zX10_changes 4 .invokestatic zX10_within 7 := ⟨113, by decide +kernel, rfl, Or.inl (zT1_of (i := 235) rfl rfl)⟩
theorem iX10_changes_7 : zB zX10_changes 7 (.ifCond .eq) 10 21 := ⟨14, by decide +kernel, rfl, by decide⟩
theorem iX10_changes_10 : zAl zX10_changes 10 0 11 := Or.inl ⟨0, rfl, by decide +kernel, rfl⟩
theorem iX10_changes_11 : zGf zX10_changes 11 10 6 14 := ⟨49, _, _, _, zcf_10, by decide, by decide +kernel, rfl, zT2_of (i := 138) rfl rfl⟩
theorem iX10_changes_14 : zLl zX10_changes 14 1 15 := Or.inl ⟨1, rfl, by decide +kernel, rfl⟩
theorem iX10_changes_15 : zCl zX10_changes 15 .invokevirtual zX1_readOrder 18 := ⟨288, by decide +kernel, rfl, Or.inl (zT4_of (i := 33) rfl rfl)⟩
theorem iX10_changes_18 : zB zX10_changes 18 (.ifCond .ne) 21 24 := ⟨6, by decide +kernel, rfl, by decide⟩
theorem iX10_changes_21 : zCo zX10_changes 21 (-2) 23 := Or.inr (Or.inl ⟨-2, by decide, by decide +kernel, rfl⟩)
theorem iX10_changes_23 : zD zX10_changes 23 1 (.ireturn) 24 := ⟨by decide +kernel, rfl⟩
theorem iX10_changes_24 : zAl zX10_changes 24 0 25 := Or.inl ⟨0, rfl, by decide +kernel, rfl⟩
theorem iX10_changes_25 : zGf zX10_changes 25 10 6 28 := ⟨49, _, _, _, zcf_10, by decide, by decide +kernel, rfl, zT2_of (i := 138) rfl rfl⟩
theorem iX10_changes_28 : zIl zX10_changes 28 3 29 := Or.inl ⟨3, rfl, by decide +kernel, rfl⟩
theorem iX10_changes_29 : zCl zX10_changes 29 .invokevirtual zX1_changesOfRow 32 := ⟨292, by decide +kernel, rfl, Or.inl (zT4_of (i := 38) rfl rfl)⟩
theorem iX10_changes_32 : zD zX10_changes 32 1 (.ireturn) 33 := ⟨by decide +kernel, rfl⟩
theorem iX10_order_0 : zIl zX10_order 0 1 1 := Or.inl ⟨1, rfl, by decide +kernel, rfl⟩
theorem iX10_order_1 : zCo zX10_order 1 (1) 2 := Or.inl ⟨1, by decide, by decide +kernel, rfl⟩
theorem iX10_order_2 : zCo zX10_order 2 (9) 4 := Or.inr (Or.inl ⟨9, by decide, by decide +kernel, rfl⟩)
theorem iX10_order_4 : zCl zX10_order 4 .invokestatic zX10_within 7 := ⟨113, by decide +kernel, rfl, Or.inl (zT1_of (i := 235) rfl rfl)⟩
theorem iX10_order_7 : zB zX10_order 7 (.ifCond .ne) 10 13 := ⟨6, by decide +kernel, rfl, by decide⟩
theorem iX10_order_10 : zCo zX10_order 10 (-2) 12 := Or.inr (Or.inl ⟨-2, by decide, by decide +kernel, rfl⟩)
theorem iX10_order_12 : zD zX10_order 12 1 (.ireturn) 13 := ⟨by decide +kernel, rfl⟩
theorem iX10_order_13 : zAl zX10_order 13 0 14 := Or.inl ⟨0, rfl, by decide +kernel, rfl⟩
theorem iX10_order_14 : zGf zX10_order 14 10 6 17 := ⟨49, _, _, _, zcf_10, by decide, by decide +kernel, rfl, zT2_of (i := 138) rfl rfl⟩
theorem iX10_order_17 : zIl zX10_order 17 1 18 := Or.inl ⟨1, rfl, by decide +kernel, rfl⟩
theorem iX10_order_18 : zCl zX10_order 18 .invokevirtual zX1_fewestChanges 21 := ⟨295, by decide +kernel, rfl, Or.inl (zT4_of (i := 58) rfl rfl)⟩
theorem iX10_order_21 : zIs zX10_order 21 3 22 := ⟨by decide, Or.inl ⟨3, rfl, by decide +kernel, rfl⟩⟩
theorem iX10_order_22 : zIl zX10_order 22 2 23 := Or.inl ⟨2, rfl, by decide +kernel, rfl⟩
theorem iX10_order_23 : zCo zX10_order 23 (-1) 24 := Or.inl ⟨-1, by decide, by decide +kernel, rfl⟩
theorem iX10_order_24 : zB zX10_order 24 (.if_icmp .eq) 27 32 := ⟨8, by decide +kernel, rfl, by decide⟩
theorem iX10_order_27 : zIl zX10_order 27 3 28 := Or.inl ⟨3, rfl, by decide +kernel, rfl⟩
theorem iX10_order_28 : zCo zX10_order 28 (-1) 29 := Or.inl ⟨-1, by decide, by decide +kernel, rfl⟩
theorem iX10_order_29 : zB zX10_order 29 (.if_icmp .ne) 32 34 := ⟨5, by decide +kernel, rfl, by decide⟩
theorem iX10_order_32 : zIl zX10_order 32 3 33 := Or.inl ⟨3, rfl, by decide +kernel, rfl⟩
theorem iX10_order_33 : zD zX10_order 33 1 (.ireturn) 34 := ⟨by decide +kernel, rfl⟩
theorem iX10_order_34 : zAl zX10_order 34 0 35 := Or.inl ⟨0, rfl, by decide +kernel, rfl⟩
theorem iX10_order_35 : zGf zX10_order 35 10 6 38 := ⟨49, _, _, _, zcf_10, by decide, by decide +kernel, rfl, zT2_of (i := 138) rfl rfl⟩
theorem iX10_order_38 : zIl zX10_order 38 1 39 := Or.inl ⟨1, rfl, by decide +kernel, rfl⟩
theorem iX10_order_39 : zIl zX10_order 39 2 40 := Or.inl ⟨2, rfl, by decide +kernel, rfl⟩
theorem iX10_order_40 : zCl zX10_order 40 .invokevirtual zX1_bestAt 43 := ⟨298, by decide +kernel, rfl, Or.inl (zT4_of (i := 79) rfl rfl)⟩
theorem iX10_order_43 : zD zX10_order 43 1 (.ireturn) 44 := ⟨by decide +kernel, rfl⟩
theorem iX10_count_0 : zIl zX10_count 0 1 1 := Or.inl ⟨1, rfl, by decide +kernel, rfl⟩
theorem iX10_count_1 : zSw zX10_count 1 (0) [52, 57, 62, 67, 75, 80, 88, 93, 101] 106 := ⟨8, #[51, 56, 61, 66, 74, 79, 87, 92, 100], 105, 51, by decide +kernel, by decide, by decide, by decide⟩
theorem iX10_count_52 : zAl zX10_count 52 0 53 := Or.inl ⟨0, rfl, by decide +kernel, rfl⟩
theorem iX10_count_53 : zGf zX10_count 53 10 11 56 := ⟨121, _, _, _, zcf_10, by decide, by decide +kernel, rfl, zT2_of (i := 143) rfl rfl⟩
theorem iX10_count_56 : zD zX10_count 56 1 (.ireturn) 57 := ⟨by decide +kernel, rfl⟩
theorem iX10_count_57 : zAl zX10_count 57 0 58 := Or.inl ⟨0, rfl, by decide +kernel, rfl⟩
theorem iX10_count_58 : zGf zX10_count 58 10 12 61 := ⟨183, _, _, _, zcf_10, by decide, by decide +kernel, rfl, zT2_of (i := 144) rfl rfl⟩
theorem iX10_count_61 : zD zX10_count 61 1 (.ireturn) 62 := ⟨by decide +kernel, rfl⟩
theorem iX10_count_62 : zAl zX10_count 62 0 63 := Or.inl ⟨0, rfl, by decide +kernel, rfl⟩
theorem iX10_count_63 : zGf zX10_count 63 10 13 66 := ⟨237, _, _, _, zcf_10, by decide, by decide +kernel, rfl, zT2_of (i := 145) rfl rfl⟩
theorem iX10_count_66 : zD zX10_count 66 1 (.ireturn) 67 := ⟨by decide +kernel, rfl⟩
theorem iX10_count_67 : zAl zX10_count 67 0 68 := Or.inl ⟨0, rfl, by decide +kernel, rfl⟩
theorem iX10_count_68 : zGf zX10_count 68 10 6 71 := ⟨49, _, _, _, zcf_10, by decide, by decide +kernel, rfl, zT2_of (i := 138) rfl rfl⟩
theorem iX10_count_71 : zGf zX10_count 71 1 0 74 := ⟨301, _, _, _, zcf_1, by decide, by decide +kernel, rfl, zT1_of (i := 68) rfl rfl⟩
theorem iX10_count_74 : zD zX10_count 74 1 (.ireturn) 75 := ⟨by decide +kernel, rfl⟩
theorem iX10_count_75 : zAl zX10_count 75 0 76 := Or.inl ⟨0, rfl, by decide +kernel, rfl⟩
theorem iX10_count_76 : zGf zX10_count 76 10 14 79 := ⟨109, _, _, _, zcf_10, by decide, by decide +kernel, rfl, zT2_of (i := 146) rfl rfl⟩
theorem iX10_count_79 : zD zX10_count 79 1 (.ireturn) 80 := ⟨by decide +kernel, rfl⟩
theorem iX10_count_80 : zAl zX10_count 80 0 81 := Or.inl ⟨0, rfl, by decide +kernel, rfl⟩
theorem iX10_count_81 : zGf zX10_count 81 10 7 84 := ⟨56, _, _, _, zcf_10, by decide, by decide +kernel, rfl, zT2_of (i := 139) rfl rfl⟩
theorem iX10_count_84 : zGf zX10_count 84 7 3 87 := ⟨229, _, _, _, zcf_7, by decide, by decide +kernel, rfl, zT1_of (i := 95) rfl rfl⟩
theorem iX10_count_87 : zD zX10_count 87 1 (.ireturn) 88 := ⟨by decide +kernel, rfl⟩
theorem iX10_count_88 : zAl zX10_count 88 0 89 := Or.inl ⟨0, rfl, by decide +kernel, rfl⟩
theorem iX10_count_89 : zGf zX10_count 89 10 15 92 := ⟨230, _, _, _, zcf_10, by decide, by decide +kernel, rfl, zT2_of (i := 147) rfl rfl⟩
theorem iX10_count_92 : zD zX10_count 92 1 (.ireturn) 93 := ⟨by decide +kernel, rfl⟩
theorem iX10_count_93 : zAl zX10_count 93 0 94 := Or.inl ⟨0, rfl, by decide +kernel, rfl⟩
theorem iX10_count_94 : zGf zX10_count 94 10 5 97 := ⟨42, _, _, _, zcf_10, by decide, by decide +kernel, rfl, zT2_of (i := 137) rfl rfl⟩
theorem iX10_count_97 : zGf zX10_count 97 4 2 100 := ⟨226, _, _, _, zcf_4, by decide, by decide +kernel, rfl, zT1_of (i := 47) rfl rfl⟩
theorem iX10_count_100 : zD zX10_count 100 1 (.ireturn) 101 := ⟨by decide +kernel, rfl⟩
theorem iX10_count_101 : zAl zX10_count 101 0 102 := Or.inl ⟨0, rfl, by decide +kernel, rfl⟩
theorem iX10_count_102 : zCl zX10_count 102 .invokevirtual zX10_edgesNotGood 105 := ⟨304, by decide +kernel, rfl, Or.inl (zT4_of (i := 87) rfl rfl)⟩
theorem iX10_count_105 : zD zX10_count 105 1 (.ireturn) 106 := ⟨by decide +kernel, rfl⟩
theorem iX10_count_106 : zCo zX10_count 106 (-2) 108 := Or.inr (Or.inl ⟨-2, by decide, by decide +kernel, rfl⟩)
theorem iX10_count_108 : zD zX10_count 108 1 (.ireturn) 109 := ⟨by decide +kernel, rfl⟩
theorem iX10_sheet_0 : zAl zX10_sheet 0 0 1 := Or.inl ⟨0, rfl, by decide +kernel, rfl⟩
theorem iX10_sheet_1 : zIl zX10_sheet 1 1 2 := Or.inl ⟨1, rfl, by decide +kernel, rfl⟩
theorem iX10_sheet_2 : zCl zX10_sheet 2 .invokevirtual zX10_sheetOf 5 := ⟨307, by decide +kernel, rfl, Or.inl (zT4_of (i := 95) rfl rfl)⟩
theorem iX10_sheet_5 : zAs zX10_sheet 5 4 7 := ⟨by decide, Or.inr ⟨by decide +kernel, rfl⟩⟩
theorem iX10_sheet_7 : zAl zX10_sheet 7 4 9 := Or.inr ⟨by decide +kernel, rfl⟩
theorem iX10_sheet_9 : zB zX10_sheet 9 .ifnull 12 21 := ⟨12, by decide +kernel, rfl, by decide⟩
theorem iX10_sheet_12 : zIl zX10_sheet 12 2 13 := Or.inl ⟨2, rfl, by decide +kernel, rfl⟩
theorem iX10_sheet_13 : zCo zX10_sheet 13 (-1) 14 := Or.inl ⟨-1, by decide, by decide +kernel, rfl⟩
theorem iX10_sheet_14 : zCo zX10_sheet 14 (2) 15 := Or.inl ⟨2, by decide, by decide +kernel, rfl⟩
theorem iX10_sheet_15 : zCl zX10_sheet 15 .invokestatic zX10_within 18 := ⟨113, by decide +kernel, rfl, Or.inl (zT1_of (i := 235) rfl rfl)⟩
theorem iX10_sheet_18 : zB zX10_sheet 18 (.ifCond .ne) 21 24 := ⟨6, by decide +kernel, rfl, by decide⟩
theorem iX10_sheet_21 : zCo zX10_sheet 21 (-2) 23 := Or.inr (Or.inl ⟨-2, by decide, by decide +kernel, rfl⟩)
theorem iX10_sheet_23 : zD zX10_sheet 23 1 (.ireturn) 24 := ⟨by decide +kernel, rfl⟩
theorem iX10_sheet_24 : zIl zX10_sheet 24 2 25 := Or.inl ⟨2, rfl, by decide +kernel, rfl⟩
theorem iX10_sheet_25 : zCo zX10_sheet 25 (-1) 26 := Or.inl ⟨-1, by decide, by decide +kernel, rfl⟩
theorem iX10_sheet_26 : zB zX10_sheet 26 (.if_icmp .ne) 29 38 := ⟨12, by decide +kernel, rfl, by decide⟩
theorem iX10_sheet_29 : zAl zX10_sheet 29 4 31 := Or.inr ⟨by decide +kernel, rfl⟩
theorem iX10_sheet_31 : zCo zX10_sheet 31 (-1) 32 := Or.inl ⟨-1, by decide, by decide +kernel, rfl⟩
theorem iX10_sheet_32 : zCo zX10_sheet 32 (0) 33 := Or.inl ⟨0, by decide, by decide +kernel, rfl⟩
theorem iX10_sheet_33 : zCl zX10_sheet 33 .invokevirtual zX5_become 36 := ⟨311, by decide +kernel, rfl, Or.inl (zT4_of (i := 99) rfl rfl)⟩
theorem iX10_sheet_36 : zCo zX10_sheet 36 (1) 37 := Or.inl ⟨1, by decide, by decide +kernel, rfl⟩
theorem iX10_sheet_37 : zD zX10_sheet 37 1 (.ireturn) 38 := ⟨by decide +kernel, rfl⟩
theorem iX10_sheet_38 : zIl zX10_sheet 38 3 39 := Or.inl ⟨3, rfl, by decide +kernel, rfl⟩
theorem iX10_sheet_39 : zCo zX10_sheet 39 (40) 41 := Or.inr (Or.inl ⟨40, by decide, by decide +kernel, rfl⟩)
theorem iX10_sheet_41 : zB zX10_sheet 41 (.if_icmp .le) 44 47 := ⟨6, by decide +kernel, rfl, by decide⟩
theorem iX10_sheet_44 : zCo zX10_sheet 44 (-2) 46 := Or.inr (Or.inl ⟨-2, by decide, by decide +kernel, rfl⟩)
theorem iX10_sheet_46 : zD zX10_sheet 46 1 (.ireturn) 47 := ⟨by decide +kernel, rfl⟩
theorem iX10_sheet_47 : zIl zX10_sheet 47 3 48 := Or.inl ⟨3, rfl, by decide +kernel, rfl⟩
theorem iX10_sheet_48 : zB zX10_sheet 48 (.ifCond .ge) 51 54 := ⟨6, by decide +kernel, rfl, by decide⟩
theorem iX10_sheet_51 : zCo zX10_sheet 51 (-14) 53 := Or.inr (Or.inl ⟨-14, by decide, by decide +kernel, rfl⟩)
theorem iX10_sheet_53 : zD zX10_sheet 53 1 (.ireturn) 54 := ⟨by decide +kernel, rfl⟩
theorem iX10_sheet_54 : zAl zX10_sheet 54 4 56 := Or.inr ⟨by decide +kernel, rfl⟩
theorem iX10_sheet_56 : zIl zX10_sheet 56 2 57 := Or.inl ⟨2, rfl, by decide +kernel, rfl⟩
theorem iX10_sheet_57 : zIl zX10_sheet 57 3 58 := Or.inl ⟨3, rfl, by decide +kernel, rfl⟩
theorem iX10_sheet_58 : zCl zX10_sheet 58 .invokevirtual zX5_become 61 := ⟨311, by decide +kernel, rfl, Or.inl (zT4_of (i := 99) rfl rfl)⟩
theorem iX10_sheet_61 : zCo zX10_sheet 61 (1) 62 := Or.inl ⟨1, by decide, by decide +kernel, rfl⟩
theorem iX10_sheet_62 : zD zX10_sheet 62 1 (.ireturn) 63 := ⟨by decide +kernel, rfl⟩
theorem iX10_cell_0 : zAl zX10_cell 0 0 1 := Or.inl ⟨0, rfl, by decide +kernel, rfl⟩
theorem iX10_cell_1 : zIl zX10_cell 1 1 2 := Or.inl ⟨1, rfl, by decide +kernel, rfl⟩
theorem iX10_cell_2 : zCl zX10_cell 2 .invokevirtual zX10_sheetOf 5 := ⟨307, by decide +kernel, rfl, Or.inl (zT4_of (i := 95) rfl rfl)⟩
theorem iX10_cell_5 : zAs zX10_cell 5 4 7 := ⟨by decide, Or.inr ⟨by decide +kernel, rfl⟩⟩
theorem iX10_cell_7 : zAl zX10_cell 7 4 9 := Or.inr ⟨by decide +kernel, rfl⟩
theorem iX10_cell_9 : zB zX10_cell 9 .ifnonnull 12 15 := ⟨6, by decide +kernel, rfl, by decide⟩
theorem iX10_cell_12 : zCo zX10_cell 12 (-2) 14 := Or.inr (Or.inl ⟨-2, by decide, by decide +kernel, rfl⟩)
theorem iX10_cell_14 : zD zX10_cell 14 1 (.ireturn) 15 := ⟨by decide +kernel, rfl⟩
theorem iX10_cell_15 : zAl zX10_cell 15 4 17 := Or.inr ⟨by decide +kernel, rfl⟩
theorem iX10_cell_17 : zGf zX10_cell 17 5 0 20 := ⟨314, _, _, _, zcf_5, by decide, by decide +kernel, rfl, zT1_of (i := 168) rfl rfl⟩
theorem iX10_cell_20 : zCo zX10_cell 20 (-1) 21 := Or.inl ⟨-1, by decide, by decide +kernel, rfl⟩
theorem iX10_cell_21 : zB zX10_cell 21 (.if_icmp .ne) 24 27 := ⟨6, by decide +kernel, rfl, by decide⟩
theorem iX10_cell_24 : zCo zX10_cell 24 (-11) 26 := Or.inr (Or.inl ⟨-11, by decide, by decide +kernel, rfl⟩)
theorem iX10_cell_26 : zD zX10_cell 26 1 (.ireturn) 27 := ⟨by decide +kernel, rfl⟩
theorem iX10_cell_27 : zAl zX10_cell 27 4 29 := Or.inr ⟨by decide +kernel, rfl⟩
theorem iX10_cell_29 : zIl zX10_cell 29 2 30 := Or.inl ⟨2, rfl, by decide +kernel, rfl⟩
theorem iX10_cell_30 : zCl zX10_cell 30 .invokevirtual zX5_has 33 := ⟨317, by decide +kernel, rfl, Or.inl (zT4_of (i := 107) rfl rfl)⟩
theorem iX10_cell_33 : zB zX10_cell 33 (.ifCond .ne) 36 39 := ⟨6, by decide +kernel, rfl, by decide⟩
theorem iX10_cell_36 : zCo zX10_cell 36 (-12) 38 := Or.inr (Or.inl ⟨-12, by decide, by decide +kernel, rfl⟩)
theorem iX10_cell_38 : zD zX10_cell 38 1 (.ireturn) 39 := ⟨by decide +kernel, rfl⟩
theorem iX10_cell_39 : zAl zX10_cell 39 4 41 := Or.inr ⟨by decide +kernel, rfl⟩
theorem iX10_cell_41 : zIl zX10_cell 41 2 42 := Or.inl ⟨2, rfl, by decide +kernel, rfl⟩
theorem iX10_cell_42 : zIl zX10_cell 42 3 43 := Or.inl ⟨3, rfl, by decide +kernel, rfl⟩
theorem iX10_cell_43 : zCl zX10_cell 43 .invokevirtual zX5_set 46 := ⟨320, by decide +kernel, rfl, Or.inl (zT4_of (i := 111) rfl rfl)⟩
theorem iX10_cell_46 : zCo zX10_cell 46 (1) 47 := Or.inl ⟨1, by decide, by decide +kernel, rfl⟩
theorem iX10_cell_47 : zD zX10_cell 47 1 (.ireturn) 48 := ⟨by decide +kernel, rfl⟩
theorem iX10_cuts_0 : zAl zX10_cuts 0 0 1 := Or.inl ⟨0, rfl, by decide +kernel, rfl⟩
theorem iX10_cuts_1 : zIl zX10_cuts 1 2 2 := Or.inl ⟨2, rfl, by decide +kernel, rfl⟩
theorem iX10_cuts_2 : zCl zX10_cuts 2 .invokevirtual zX10_sheetOf 5 := ⟨307, by decide +kernel, rfl, Or.inl (zT4_of (i := 95) rfl rfl)⟩
theorem iX10_cuts_5 : zAs zX10_cuts 5 6 7 := ⟨by decide, Or.inr ⟨by decide +kernel, rfl⟩⟩
theorem iX10_cuts_7 : zAl zX10_cuts 7 0 8 := Or.inl ⟨0, rfl, by decide +kernel, rfl⟩
theorem iX10_cuts_8 : zIl zX10_cuts 8 1 9 := Or.inl ⟨1, rfl, by decide +kernel, rfl⟩
theorem iX10_cuts_9 : zCl zX10_cuts 9 .invokevirtual zX10_machineOf 12 := ⟨243, by decide +kernel, rfl, Or.inl (zT3_of (i := 194) rfl rfl)⟩
theorem iX10_cuts_12 : zB zX10_cuts 12 .ifnull 15 40 := ⟨28, by decide +kernel, rfl, by decide⟩
theorem iX10_cuts_15 : zAl zX10_cuts 15 6 17 := Or.inr ⟨by decide +kernel, rfl⟩
theorem iX10_cuts_17 : zB zX10_cuts 17 .ifnull 20 40 := ⟨23, by decide +kernel, rfl, by decide⟩
theorem iX10_cuts_20 : zIl zX10_cuts 20 3 21 := Or.inl ⟨3, rfl, by decide +kernel, rfl⟩
theorem iX10_cuts_21 : zCo zX10_cuts 21 (0) 22 := Or.inl ⟨0, by decide, by decide +kernel, rfl⟩
theorem iX10_cuts_22 : zCo zX10_cuts 22 (2) 23 := Or.inl ⟨2, by decide, by decide +kernel, rfl⟩
theorem iX10_cuts_23 : zCl zX10_cuts 23 .invokestatic zX10_within 26 := ⟨113, by decide +kernel, rfl, Or.inl (zT1_of (i := 235) rfl rfl)⟩
theorem iX10_cuts_26 : zB zX10_cuts 26 (.ifCond .eq) 29 40 := ⟨14, by decide +kernel, rfl, by decide⟩
theorem iX10_cuts_29 : zIl zX10_cuts 29 5 31 := Or.inr ⟨by decide +kernel, rfl⟩
theorem iX10_cuts_31 : zCo zX10_cuts 31 (0) 32 := Or.inl ⟨0, by decide, by decide +kernel, rfl⟩
theorem iX10_cuts_32 : zCo zX10_cuts 32 (13) 34 := Or.inr (Or.inl ⟨13, by decide, by decide +kernel, rfl⟩)
theorem iX10_cuts_34 : zCl zX10_cuts 34 .invokestatic zX10_within 37 := ⟨113, by decide +kernel, rfl, Or.inl (zT1_of (i := 235) rfl rfl)⟩
theorem iX10_cuts_37 : zB zX10_cuts 37 (.ifCond .ne) 40 43 := ⟨6, by decide +kernel, rfl, by decide⟩
theorem iX10_cuts_40 : zCo zX10_cuts 40 (-2) 42 := Or.inr (Or.inl ⟨-2, by decide, by decide +kernel, rfl⟩)
theorem iX10_cuts_42 : zD zX10_cuts 42 1 (.ireturn) 43 := ⟨by decide +kernel, rfl⟩
theorem iX10_cuts_43 : zAl zX10_cuts 43 6 45 := Or.inr ⟨by decide +kernel, rfl⟩
theorem iX10_cuts_45 : zGf zX10_cuts 45 5 0 48 := ⟨314, _, _, _, zcf_5, by decide, by decide +kernel, rfl, zT1_of (i := 168) rfl rfl⟩
theorem iX10_cuts_48 : zCo zX10_cuts 48 (-1) 49 := Or.inl ⟨-1, by decide, by decide +kernel, rfl⟩
theorem iX10_cuts_49 : zB zX10_cuts 49 (.if_icmp .ne) 52 55 := ⟨6, by decide +kernel, rfl, by decide⟩
theorem iX10_cuts_52 : zCo zX10_cuts 52 (-11) 54 := Or.inr (Or.inl ⟨-11, by decide, by decide +kernel, rfl⟩)
theorem iX10_cuts_54 : zD zX10_cuts 54 1 (.ireturn) 55 := ⟨by decide +kernel, rfl⟩
theorem iX10_cuts_55 : zAl zX10_cuts 55 6 57 := Or.inr ⟨by decide +kernel, rfl⟩
theorem iX10_cuts_57 : zGf zX10_cuts 57 5 0 60 := ⟨314, _, _, _, zcf_5, by decide, by decide +kernel, rfl, zT1_of (i := 168) rfl rfl⟩
theorem iX10_cuts_60 : zIl zX10_cuts 60 3 61 := Or.inl ⟨3, rfl, by decide +kernel, rfl⟩
theorem iX10_cuts_61 : zB zX10_cuts 61 (.if_icmp .eq) 64 67 := ⟨6, by decide +kernel, rfl, by decide⟩
theorem iX10_cuts_64 : zCo zX10_cuts 64 (-13) 66 := Or.inr (Or.inl ⟨-13, by decide, by decide +kernel, rfl⟩)
theorem iX10_cuts_66 : zD zX10_cuts 66 1 (.ireturn) 67 := ⟨by decide +kernel, rfl⟩
theorem iX10_cuts_67 : zAl zX10_cuts 67 0 68 := Or.inl ⟨0, rfl, by decide +kernel, rfl⟩
theorem iX10_cuts_68 : zIl zX10_cuts 68 1 69 := Or.inl ⟨1, rfl, by decide +kernel, rfl⟩
theorem iX10_cuts_69 : zAl zX10_cuts 69 6 71 := Or.inr ⟨by decide +kernel, rfl⟩
theorem iX10_cuts_71 : zIl zX10_cuts 71 4 73 := Or.inr ⟨by decide +kernel, rfl⟩
theorem iX10_cuts_73 : zIl zX10_cuts 73 5 75 := Or.inr ⟨by decide +kernel, rfl⟩
theorem iX10_cuts_75 : zCl zX10_cuts 75 .invokevirtual zX10_cutBySheet 78 := ⟨323, by decide +kernel, rfl, Or.inl (zT4_of (i := 120) rfl rfl)⟩
theorem iX10_cuts_78 : zD zX10_cuts 78 1 (.ireturn) 79 := ⟨by decide +kernel, rfl⟩
theorem iX10_taken_0 : zIl zX10_taken 0 2 1 := Or.inl ⟨2, rfl, by decide +kernel, rfl⟩
theorem iX10_taken_1 : zCo zX10_taken 1 (0) 2 := Or.inl ⟨0, by decide, by decide +kernel, rfl⟩
theorem iX10_taken_2 : zCo zX10_taken 2 (5) 3 := Or.inl ⟨5, by decide, by decide +kernel, rfl⟩
theorem iX10_taken_3 : zCl zX10_taken 3 .invokestatic zX10_within 6 := ⟨113, by decide +kernel, rfl, Or.inl (zT1_of (i := 235) rfl rfl)⟩
theorem iX10_taken_6 : zB zX10_taken 6 (.ifCond .ne) 9 12 := ⟨6, by decide +kernel, rfl, by decide⟩
theorem iX10_taken_9 : zCo zX10_taken 9 (-2) 11 := Or.inr (Or.inl ⟨-2, by decide, by decide +kernel, rfl⟩)
theorem iX10_taken_11 : zD zX10_taken 11 1 (.ireturn) 12 := ⟨by decide +kernel, rfl⟩
theorem iX10_taken_12 : zAl zX10_taken 12 0 13 := Or.inl ⟨0, rfl, by decide +kernel, rfl⟩
theorem iX10_taken_13 : zIl zX10_taken 13 1 14 := Or.inl ⟨1, rfl, by decide +kernel, rfl⟩
theorem iX10_taken_14 : zCl zX10_taken 14 .invokevirtual zX10_edgeOf 17 := ⟨127, by decide +kernel, rfl, Or.inl (zT3_of (i := 9) rfl rfl)⟩
theorem iX10_taken_17 : zAs zX10_taken 17 3 18 := ⟨by decide, Or.inl ⟨3, rfl, by decide +kernel, rfl⟩⟩
theorem iX10_taken_18 : zAl zX10_taken 18 3 19 := Or.inl ⟨3, rfl, by decide +kernel, rfl⟩
theorem iX10_taken_19 : zB zX10_taken 19 .ifnonnull 22 25 := ⟨6, by decide +kernel, rfl, by decide⟩
theorem iX10_taken_22 : zCo zX10_taken 22 (-11) 24 := Or.inr (Or.inl ⟨-11, by decide, by decide +kernel, rfl⟩)
theorem iX10_taken_24 : zD zX10_taken 24 1 (.ireturn) 25 := ⟨by decide +kernel, rfl⟩
theorem iX10_taken_25 : zAl zX10_taken 25 3 26 := Or.inl ⟨3, rfl, by decide +kernel, rfl⟩
theorem iX10_taken_26 : zGf zX10_taken 26 0 0 29 := ⟨131, _, _, _, zcf_0, by decide, by decide +kernel, rfl, zT2_of (i := 194) rfl rfl⟩
theorem iX10_taken_29 : zIl zX10_taken 29 2 30 := Or.inl ⟨2, rfl, by decide +kernel, rfl⟩
theorem iX10_taken_30 : zCl zX10_taken 30 .invokestatic zX10_isUnder 33 := ⟨117, by decide +kernel, rfl, Or.inl (zT2_of (i := 185) rfl rfl)⟩
theorem iX10_taken_33 : zB zX10_taken 33 (.ifCond .eq) 36 43 := ⟨10, by decide +kernel, rfl, by decide⟩
theorem iX10_taken_36 : zAl zX10_taken 36 3 37 := Or.inl ⟨3, rfl, by decide +kernel, rfl⟩
theorem iX10_taken_37 : zGf zX10_taken 37 0 5 40 := ⟨134, _, _, _, zcf_0, by decide, by decide +kernel, rfl, zT2_of (i := 203) rfl rfl⟩
theorem iX10_taken_40 : zB zX10_taken 40 .goto 43 45 := ⟨5, by decide +kernel, rfl, by decide⟩
theorem iX10_taken_43 : zCo zX10_taken 43 (-13) 45 := Or.inr (Or.inl ⟨-13, by decide, by decide +kernel, rfl⟩)
theorem iX10_taken_45 : zD zX10_taken 45 1 (.ireturn) 46 := ⟨by decide +kernel, rfl⟩
theorem iX10_within_0 : zIl zX10_within 0 0 1 := Or.inl ⟨0, rfl, by decide +kernel, rfl⟩
theorem iX10_within_1 : zIl zX10_within 1 1 2 := Or.inl ⟨1, rfl, by decide +kernel, rfl⟩
theorem iX10_within_2 : zB zX10_within 2 (.if_icmp .lt) 5 14 := ⟨12, by decide +kernel, rfl, by decide⟩
theorem iX10_within_5 : zIl zX10_within 5 0 6 := Or.inl ⟨0, rfl, by decide +kernel, rfl⟩
theorem iX10_within_6 : zIl zX10_within 6 2 7 := Or.inl ⟨2, rfl, by decide +kernel, rfl⟩
theorem iX10_within_7 : zB zX10_within 7 (.if_icmp .gt) 10 14 := ⟨7, by decide +kernel, rfl, by decide⟩
theorem iX10_within_10 : zCo zX10_within 10 (1) 11 := Or.inl ⟨1, by decide, by decide +kernel, rfl⟩
theorem iX10_within_11 : zB zX10_within 11 .goto 14 15 := ⟨4, by decide +kernel, rfl, by decide⟩
theorem iX10_within_14 : zCo zX10_within 14 (0) 15 := Or.inl ⟨0, by decide, by decide +kernel, rfl⟩
theorem iX10_within_15 : zD zX10_within 15 1 (.ireturn) 16 := ⟨by decide +kernel, rfl⟩
theorem iX10_isFamily_0 : zIl zX10_isFamily 0 0 1 := Or.inl ⟨0, rfl, by decide +kernel, rfl⟩
theorem iX10_isFamily_1 : zCo zX10_isFamily 1 (0) 2 := Or.inl ⟨0, by decide, by decide +kernel, rfl⟩
theorem iX10_isFamily_2 : zCo zX10_isFamily 2 (9) 4 := Or.inr (Or.inl ⟨9, by decide, by decide +kernel, rfl⟩)
theorem iX10_isFamily_4 : zCl zX10_isFamily 4 .invokestatic zX10_within 7 := ⟨113, by decide +kernel, rfl, Or.inl (zT1_of (i := 235) rfl rfl)⟩
theorem iX10_isFamily_7 : zD zX10_isFamily 7 1 (.ireturn) 8 := ⟨by decide +kernel, rfl⟩
theorem iX10_edgeOf_0 : zIl zX10_edgeOf 0 1 1 := Or.inl ⟨1, rfl, by decide +kernel, rfl⟩
theorem iX10_edgeOf_1 : zCo zX10_edgeOf 1 (0) 2 := Or.inl ⟨0, by decide, by decide +kernel, rfl⟩
theorem iX10_edgeOf_2 : zCo zX10_edgeOf 2 (23) 4 := Or.inr (Or.inl ⟨23, by decide, by decide +kernel, rfl⟩)
theorem iX10_edgeOf_4 : zCl zX10_edgeOf 4 .invokestatic zX10_within 7 := ⟨113, by decide +kernel, rfl, Or.inl (zT1_of (i := 235) rfl rfl)⟩
theorem iX10_edgeOf_7 : zB zX10_edgeOf 7 (.ifCond .eq) 10 19 := ⟨12, by decide +kernel, rfl, by decide⟩
theorem iX10_edgeOf_10 : zAl zX10_edgeOf 10 0 11 := Or.inl ⟨0, rfl, by decide +kernel, rfl⟩
theorem iX10_edgeOf_11 : zGf zX10_edgeOf 11 10 0 14 := ⟨11, _, _, _, zcf_10, by decide, by decide +kernel, rfl, zT2_of (i := 132) rfl rfl⟩
theorem iX10_edgeOf_14 : zIl zX10_edgeOf 14 1 15 := Or.inl ⟨1, rfl, by decide +kernel, rfl⟩
theorem iX10_edgeOf_15 : zD zX10_edgeOf 15 1 (.aaload) 16 := ⟨by decide +kernel, rfl⟩
theorem iX10_edgeOf_16 : zB zX10_edgeOf 16 .goto 19 20 := ⟨4, by decide +kernel, rfl, by decide⟩
theorem iX10_edgeOf_19 : zD zX10_edgeOf 19 1 (.aconst_null) 20 := ⟨by decide +kernel, rfl⟩
theorem iX10_edgeOf_20 : zD zX10_edgeOf 20 1 (.areturn) 21 := ⟨by decide +kernel, rfl⟩
theorem iX10_toolOf_0 : zIl zX10_toolOf 0 1 1 := Or.inl ⟨1, rfl, by decide +kernel, rfl⟩
theorem iX10_toolOf_1 : zCo zX10_toolOf 1 (0) 2 := Or.inl ⟨0, by decide, by decide +kernel, rfl⟩
theorem iX10_toolOf_2 : zCo zX10_toolOf 2 (9) 4 := Or.inr (Or.inl ⟨9, by decide, by decide +kernel, rfl⟩)
theorem iX10_toolOf_4 : zCl zX10_toolOf 4 .invokestatic zX10_within 7 := ⟨113, by decide +kernel, rfl, Or.inl (zT1_of (i := 235) rfl rfl)⟩
theorem iX10_toolOf_7 : zB zX10_toolOf 7 (.ifCond .eq) 10 19 := ⟨12, by decide +kernel, rfl, by decide⟩
theorem iX10_toolOf_10 : zAl zX10_toolOf 10 0 11 := Or.inl ⟨0, rfl, by decide +kernel, rfl⟩
theorem iX10_toolOf_11 : zGf zX10_toolOf 11 10 1 14 := ⟨17, _, _, _, zcf_10, by decide, by decide +kernel, rfl, zT2_of (i := 133) rfl rfl⟩
theorem iX10_toolOf_14 : zIl zX10_toolOf 14 1 15 := Or.inl ⟨1, rfl, by decide +kernel, rfl⟩
theorem iX10_toolOf_15 : zD zX10_toolOf 15 1 (.aaload) 16 := ⟨by decide +kernel, rfl⟩
theorem iX10_toolOf_16 : zB zX10_toolOf 16 .goto 19 20 := ⟨4, by decide +kernel, rfl, by decide⟩
theorem iX10_toolOf_19 : zD zX10_toolOf 19 1 (.aconst_null) 20 := ⟨by decide +kernel, rfl⟩
theorem iX10_toolOf_20 : zD zX10_toolOf 20 1 (.areturn) 21 := ⟨by decide +kernel, rfl⟩
theorem iX10_textOf_0 : zIl zX10_textOf 0 1 1 := Or.inl ⟨1, rfl, by decide +kernel, rfl⟩
theorem iX10_textOf_1 : zCo zX10_textOf 1 (0) 2 := Or.inl ⟨0, by decide, by decide +kernel, rfl⟩
theorem iX10_textOf_2 : zCo zX10_textOf 2 (5) 3 := Or.inl ⟨5, by decide, by decide +kernel, rfl⟩
theorem iX10_textOf_3 : zCl zX10_textOf 3 .invokestatic zX10_within 6 := ⟨113, by decide +kernel, rfl, Or.inl (zT1_of (i := 235) rfl rfl)⟩
theorem iX10_textOf_6 : zB zX10_textOf 6 (.ifCond .eq) 9 18 := ⟨12, by decide +kernel, rfl, by decide⟩
theorem iX10_textOf_9 : zAl zX10_textOf 9 0 10 := Or.inl ⟨0, rfl, by decide +kernel, rfl⟩
theorem iX10_textOf_10 : zGf zX10_textOf 10 10 3 13 := ⟨29, _, _, _, zcf_10, by decide, by decide +kernel, rfl, zT2_of (i := 135) rfl rfl⟩
theorem iX10_textOf_13 : zIl zX10_textOf 13 1 14 := Or.inl ⟨1, rfl, by decide +kernel, rfl⟩
theorem iX10_textOf_14 : zD zX10_textOf 14 1 (.aaload) 15 := ⟨by decide +kernel, rfl⟩
theorem iX10_textOf_15 : zB zX10_textOf 15 .goto 18 19 := ⟨4, by decide +kernel, rfl, by decide⟩
theorem iX10_textOf_18 : zD zX10_textOf 18 1 (.aconst_null) 19 := ⟨by decide +kernel, rfl⟩
theorem iX10_textOf_19 : zD zX10_textOf 19 1 (.areturn) 20 := ⟨by decide +kernel, rfl⟩
theorem iX10_machineOf_0 : zIl zX10_machineOf 0 1 1 := Or.inl ⟨1, rfl, by decide +kernel, rfl⟩
theorem iX10_machineOf_1 : zCo zX10_machineOf 1 (0) 2 := Or.inl ⟨0, by decide, by decide +kernel, rfl⟩
theorem iX10_machineOf_2 : zCo zX10_machineOf 2 (2) 3 := Or.inl ⟨2, by decide, by decide +kernel, rfl⟩
theorem iX10_machineOf_3 : zCl zX10_machineOf 3 .invokestatic zX10_within 6 := ⟨113, by decide +kernel, rfl, Or.inl (zT1_of (i := 235) rfl rfl)⟩
theorem iX10_machineOf_6 : zB zX10_machineOf 6 (.ifCond .eq) 9 18 := ⟨12, by decide +kernel, rfl, by decide⟩
theorem iX10_machineOf_9 : zAl zX10_machineOf 9 0 10 := Or.inl ⟨0, rfl, by decide +kernel, rfl⟩
theorem iX10_machineOf_10 : zGf zX10_machineOf 10 10 2 13 := ⟨23, _, _, _, zcf_10, by decide, by decide +kernel, rfl, zT2_of (i := 134) rfl rfl⟩
theorem iX10_machineOf_13 : zIl zX10_machineOf 13 1 14 := Or.inl ⟨1, rfl, by decide +kernel, rfl⟩
theorem iX10_machineOf_14 : zD zX10_machineOf 14 1 (.aaload) 15 := ⟨by decide +kernel, rfl⟩
theorem iX10_machineOf_15 : zB zX10_machineOf 15 .goto 18 19 := ⟨4, by decide +kernel, rfl, by decide⟩
theorem iX10_machineOf_18 : zD zX10_machineOf 18 1 (.aconst_null) 19 := ⟨by decide +kernel, rfl⟩
theorem iX10_machineOf_19 : zD zX10_machineOf 19 1 (.areturn) 20 := ⟨by decide +kernel, rfl⟩
theorem iX10_sheetOf_0 : zIl zX10_sheetOf 0 1 1 := Or.inl ⟨1, rfl, by decide +kernel, rfl⟩
theorem iX10_sheetOf_1 : zCo zX10_sheetOf 1 (0) 2 := Or.inl ⟨0, by decide, by decide +kernel, rfl⟩
theorem iX10_sheetOf_2 : zCo zX10_sheetOf 2 (3) 3 := Or.inl ⟨3, by decide, by decide +kernel, rfl⟩
theorem iX10_sheetOf_3 : zCl zX10_sheetOf 3 .invokestatic zX10_within 6 := ⟨113, by decide +kernel, rfl, Or.inl (zT1_of (i := 235) rfl rfl)⟩
theorem iX10_sheetOf_6 : zB zX10_sheetOf 6 (.ifCond .eq) 9 18 := ⟨12, by decide +kernel, rfl, by decide⟩
theorem iX10_sheetOf_9 : zAl zX10_sheetOf 9 0 10 := Or.inl ⟨0, rfl, by decide +kernel, rfl⟩
theorem iX10_sheetOf_10 : zGf zX10_sheetOf 10 10 4 13 := ⟨35, _, _, _, zcf_10, by decide, by decide +kernel, rfl, zT2_of (i := 136) rfl rfl⟩
theorem iX10_sheetOf_13 : zIl zX10_sheetOf 13 1 14 := Or.inl ⟨1, rfl, by decide +kernel, rfl⟩
theorem iX10_sheetOf_14 : zD zX10_sheetOf 14 1 (.aaload) 15 := ⟨by decide +kernel, rfl⟩
theorem iX10_sheetOf_15 : zB zX10_sheetOf 15 .goto 18 19 := ⟨4, by decide +kernel, rfl, by decide⟩
theorem iX10_sheetOf_18 : zD zX10_sheetOf 18 1 (.aconst_null) 19 := ⟨by decide +kernel, rfl⟩
theorem iX10_sheetOf_19 : zD zX10_sheetOf 19 1 (.areturn) 20 := ⟨by decide +kernel, rfl⟩
theorem iX10_isUnder_0 : zIl zX10_isUnder 0 1 1 := Or.inl ⟨1, rfl, by decide +kernel, rfl⟩
theorem iX10_isUnder_1 : zSw zX10_isUnder 1 (0) [32, 34, 71, 55] 71 := ⟨3, #[31, 33, 70, 54], 70, 31, by decide +kernel, by decide, by decide, by decide⟩
theorem iX10_isUnder_32 : zCo zX10_isUnder 32 (1) 33 := Or.inl ⟨1, by decide, by decide +kernel, rfl⟩
theorem iX10_isUnder_33 : zD zX10_isUnder 33 1 (.ireturn) 34 := ⟨by decide +kernel, rfl⟩
theorem iX10_isUnder_34 : zIl zX10_isUnder 34 0 35 := Or.inl ⟨0, rfl, by decide +kernel, rfl⟩
theorem iX10_isUnder_35 : zCo zX10_isUnder 35 (1) 36 := Or.inl ⟨1, by decide, by decide +kernel, rfl⟩
theorem iX10_isUnder_36 : zB zX10_isUnder 36 (.if_icmp .eq) 39 49 := ⟨13, by decide +kernel, rfl, by decide⟩
theorem iX10_isUnder_39 : zIl zX10_isUnder 39 0 40 := Or.inl ⟨0, rfl, by decide +kernel, rfl⟩
theorem iX10_isUnder_40 : zCo zX10_isUnder 40 (2) 41 := Or.inl ⟨2, by decide, by decide +kernel, rfl⟩
theorem iX10_isUnder_41 : zB zX10_isUnder 41 (.if_icmp .eq) 44 49 := ⟨8, by decide +kernel, rfl, by decide⟩
theorem iX10_isUnder_44 : zIl zX10_isUnder 44 0 45 := Or.inl ⟨0, rfl, by decide +kernel, rfl⟩
theorem iX10_isUnder_45 : zCo zX10_isUnder 45 (5) 46 := Or.inl ⟨5, by decide, by decide +kernel, rfl⟩
theorem iX10_isUnder_46 : zB zX10_isUnder 46 (.if_icmp .ne) 49 53 := ⟨7, by decide +kernel, rfl, by decide⟩
theorem iX10_isUnder_49 : zCo zX10_isUnder 49 (1) 50 := Or.inl ⟨1, by decide, by decide +kernel, rfl⟩
theorem iX10_isUnder_50 : zB zX10_isUnder 50 .goto 53 54 := ⟨4, by decide +kernel, rfl, by decide⟩
theorem iX10_isUnder_53 : zCo zX10_isUnder 53 (0) 54 := Or.inl ⟨0, by decide, by decide +kernel, rfl⟩
theorem iX10_isUnder_54 : zD zX10_isUnder 54 1 (.ireturn) 55 := ⟨by decide +kernel, rfl⟩
theorem iX10_isUnder_55 : zIl zX10_isUnder 55 0 56 := Or.inl ⟨0, rfl, by decide +kernel, rfl⟩
theorem iX10_isUnder_56 : zCo zX10_isUnder 56 (3) 57 := Or.inl ⟨3, by decide, by decide +kernel, rfl⟩
theorem iX10_isUnder_57 : zB zX10_isUnder 57 (.if_icmp .eq) 60 65 := ⟨8, by decide +kernel, rfl, by decide⟩
theorem iX10_isUnder_60 : zIl zX10_isUnder 60 0 61 := Or.inl ⟨0, rfl, by decide +kernel, rfl⟩
theorem iX10_isUnder_61 : zCo zX10_isUnder 61 (4) 62 := Or.inl ⟨4, by decide, by decide +kernel, rfl⟩
theorem iX10_isUnder_62 : zB zX10_isUnder 62 (.if_icmp .ne) 65 69 := ⟨7, by decide +kernel, rfl, by decide⟩
theorem iX10_isUnder_65 : zCo zX10_isUnder 65 (1) 66 := Or.inl ⟨1, by decide, by decide +kernel, rfl⟩
theorem iX10_isUnder_66 : zB zX10_isUnder 66 .goto 69 70 := ⟨4, by decide +kernel, rfl, by decide⟩
theorem iX10_isUnder_69 : zCo zX10_isUnder 69 (0) 70 := Or.inl ⟨0, by decide, by decide +kernel, rfl⟩
theorem iX10_isUnder_70 : zD zX10_isUnder 70 1 (.ireturn) 71 := ⟨by decide +kernel, rfl⟩
theorem iX10_isUnder_71 : zIl zX10_isUnder 71 0 72 := Or.inl ⟨0, rfl, by decide +kernel, rfl⟩
theorem iX10_isUnder_72 : zIl zX10_isUnder 72 1 73 := Or.inl ⟨1, rfl, by decide +kernel, rfl⟩
theorem iX10_isUnder_73 : zB zX10_isUnder 73 (.if_icmp .ne) 76 80 := ⟨7, by decide +kernel, rfl, by decide⟩
theorem iX10_isUnder_76 : zCo zX10_isUnder 76 (1) 77 := Or.inl ⟨1, by decide, by decide +kernel, rfl⟩
theorem iX10_isUnder_77 : zB zX10_isUnder 77 .goto 80 81 := ⟨4, by decide +kernel, rfl, by decide⟩
theorem iX10_isUnder_80 : zCo zX10_isUnder 80 (0) 81 := Or.inl ⟨0, by decide, by decide +kernel, rfl⟩
theorem iX10_isUnder_81 : zD zX10_isUnder 81 1 (.ireturn) 82 := ⟨by decide +kernel, rfl⟩
theorem iX10_wearOf_0 : zIl zX10_wearOf 0 1 1 := Or.inl ⟨1, rfl, by decide +kernel, rfl⟩
theorem iX10_wearOf_1 : zIl zX10_wearOf 1 2 2 := Or.inl ⟨2, rfl, by decide +kernel, rfl⟩
theorem iX10_wearOf_2 : zD zX10_wearOf 2 1 (.imul) 3 := ⟨by decide +kernel, rfl⟩
theorem iX10_wearOf_3 : zIs zX10_wearOf 3 3 4 := ⟨by decide, Or.inl ⟨3, rfl, by decide +kernel, rfl⟩⟩
theorem iX10_wearOf_4 : zIl zX10_wearOf 4 0 5 := Or.inl ⟨0, rfl, by decide +kernel, rfl⟩
theorem iX10_wearOf_5 : zSw zX10_wearOf 5 (1) [40, 44, 54, 58, 64] 70 := ⟨5, #[35, 39, 49, 53, 59], 65, 35, by decide +kernel, by decide, by decide, by decide⟩
theorem iX10_wearOf_40 : zIl zX10_wearOf 40 3 41 := Or.inl ⟨3, rfl, by decide +kernel, rfl⟩
theorem iX10_wearOf_41 : zIl zX10_wearOf 41 2 42 := Or.inl ⟨2, rfl, by decide +kernel, rfl⟩
theorem iX10_wearOf_42 : zD zX10_wearOf 42 1 (.iadd) 43 := ⟨by decide +kernel, rfl⟩
theorem iX10_wearOf_43 : zD zX10_wearOf 43 1 (.ireturn) 44 := ⟨by decide +kernel, rfl⟩
theorem iX10_wearOf_44 : zCo zX10_wearOf 44 (1) 45 := Or.inl ⟨1, by decide, by decide +kernel, rfl⟩
theorem iX10_wearOf_45 : zIl zX10_wearOf 45 3 46 := Or.inl ⟨3, rfl, by decide +kernel, rfl⟩
theorem iX10_wearOf_46 : zIl zX10_wearOf 46 2 47 := Or.inl ⟨2, rfl, by decide +kernel, rfl⟩
theorem iX10_wearOf_47 : zD zX10_wearOf 47 1 (.iadd) 48 := ⟨by decide +kernel, rfl⟩
theorem iX10_wearOf_48 : zIl zX10_wearOf 48 1 49 := Or.inl ⟨1, rfl, by decide +kernel, rfl⟩
theorem iX10_wearOf_49 : zD zX10_wearOf 49 1 (.isub) 50 := ⟨by decide +kernel, rfl⟩
theorem iX10_wearOf_50 : zCl zX10_wearOf 50 .invokestatic zJ9_max_7cf53 53 := ⟨327, by decide +kernel, rfl, Or.inl (zT3_of (i := 33) rfl rfl)⟩
theorem iX10_wearOf_53 : zD zX10_wearOf 53 1 (.ireturn) 54 := ⟨by decide +kernel, rfl⟩
theorem iX10_wearOf_54 : zCo zX10_wearOf 54 (2) 55 := Or.inl ⟨2, by decide, by decide +kernel, rfl⟩
theorem iX10_wearOf_55 : zIl zX10_wearOf 55 3 56 := Or.inl ⟨3, rfl, by decide +kernel, rfl⟩
theorem iX10_wearOf_56 : zD zX10_wearOf 56 1 (.imul) 57 := ⟨by decide +kernel, rfl⟩
theorem iX10_wearOf_57 : zD zX10_wearOf 57 1 (.ireturn) 58 := ⟨by decide +kernel, rfl⟩
theorem iX10_wearOf_58 : zCo zX10_wearOf 58 (2) 59 := Or.inl ⟨2, by decide, by decide +kernel, rfl⟩
theorem iX10_wearOf_59 : zIl zX10_wearOf 59 3 60 := Or.inl ⟨3, rfl, by decide +kernel, rfl⟩
theorem iX10_wearOf_60 : zD zX10_wearOf 60 1 (.imul) 61 := ⟨by decide +kernel, rfl⟩
theorem iX10_wearOf_61 : zIl zX10_wearOf 61 1 62 := Or.inl ⟨1, rfl, by decide +kernel, rfl⟩
theorem iX10_wearOf_62 : zD zX10_wearOf 62 1 (.iadd) 63 := ⟨by decide +kernel, rfl⟩
theorem iX10_wearOf_63 : zD zX10_wearOf 63 1 (.ireturn) 64 := ⟨by decide +kernel, rfl⟩
theorem iX10_wearOf_64 : zIl zX10_wearOf 64 3 65 := Or.inl ⟨3, rfl, by decide +kernel, rfl⟩
theorem iX10_wearOf_65 : zIl zX10_wearOf 65 2 66 := Or.inl ⟨2, rfl, by decide +kernel, rfl⟩
theorem iX10_wearOf_66 : zD zX10_wearOf 66 1 (.iadd) 67 := ⟨by decide +kernel, rfl⟩
theorem iX10_wearOf_67 : zIl zX10_wearOf 67 3 68 := Or.inl ⟨3, rfl, by decide +kernel, rfl⟩
theorem iX10_wearOf_68 : zD zX10_wearOf 68 1 (.iadd) 69 := ⟨by decide +kernel, rfl⟩
theorem iX10_wearOf_69 : zD zX10_wearOf 69 1 (.ireturn) 70 := ⟨by decide +kernel, rfl⟩
theorem iX10_wearOf_70 : zIl zX10_wearOf 70 3 71 := Or.inl ⟨3, rfl, by decide +kernel, rfl⟩
theorem iX10_wearOf_71 : zD zX10_wearOf 71 1 (.ireturn) 72 := ⟨by decide +kernel, rfl⟩
theorem iX10_commonDivisor_0 : zLl zX10_commonDivisor 0 2 1 := Or.inl ⟨2, rfl, by decide +kernel, rfl⟩
theorem iX10_commonDivisor_1 : zLS zX10_commonDivisor 1 4 3 := ⟨by decide, Or.inr ⟨by decide +kernel, rfl⟩⟩
theorem iX10_commonDivisor_3 : zLl zX10_commonDivisor 3 0 4 := Or.inl ⟨0, rfl, by decide +kernel, rfl⟩
theorem iX10_commonDivisor_4 : zLS zX10_commonDivisor 4 6 6 := ⟨by decide, Or.inr ⟨by decide +kernel, rfl⟩⟩
theorem iX10_commonDivisor_6 : zCo zX10_commonDivisor 6 (0) 7 := Or.inl ⟨0, by decide, by decide +kernel, rfl⟩
theorem iX10_commonDivisor_7 : zIs zX10_commonDivisor 7 8 9 := ⟨by decide, Or.inr ⟨by decide +kernel, rfl⟩⟩
theorem iX10_commonDivisor_9 : zIl zX10_commonDivisor 9 8 11 := Or.inr ⟨by decide +kernel, rfl⟩
theorem iX10_commonDivisor_11 : zCo zX10_commonDivisor 11 (200) 14 := Or.inr (Or.inr (Or.inl ⟨200, by decide, by decide +kernel, rfl⟩))
theorem iX10_commonDivisor_14 : zB zX10_commonDivisor 14 (.if_icmp .ge) 17 45 := ⟨31, by decide +kernel, rfl, by decide⟩
theorem iX10_commonDivisor_17 : zLl zX10_commonDivisor 17 6 19 := Or.inr ⟨by decide +kernel, rfl⟩
theorem iX10_commonDivisor_19 : zCL zX10_commonDivisor 19 0 20 := Or.inl ⟨0, by decide, by decide +kernel, rfl⟩
theorem iX10_commonDivisor_20 : zD zX10_commonDivisor 20 1 (.lcmp) 21 := ⟨by decide +kernel, rfl⟩
theorem iX10_commonDivisor_21 : zB zX10_commonDivisor 21 (.ifCond .eq) 24 45 := ⟨24, by decide +kernel, rfl, by decide⟩
theorem iX10_commonDivisor_24 : zLl zX10_commonDivisor 24 4 26 := Or.inr ⟨by decide +kernel, rfl⟩
theorem iX10_commonDivisor_26 : zLl zX10_commonDivisor 26 6 28 := Or.inr ⟨by decide +kernel, rfl⟩
theorem iX10_commonDivisor_28 : zD zX10_commonDivisor 28 1 (.lrem) 29 := ⟨by decide +kernel, rfl⟩
theorem iX10_commonDivisor_29 : zLS zX10_commonDivisor 29 9 31 := ⟨by decide, Or.inr ⟨by decide +kernel, rfl⟩⟩
theorem iX10_commonDivisor_31 : zLl zX10_commonDivisor 31 6 33 := Or.inr ⟨by decide +kernel, rfl⟩
theorem iX10_commonDivisor_33 : zLS zX10_commonDivisor 33 4 35 := ⟨by decide, Or.inr ⟨by decide +kernel, rfl⟩⟩
theorem iX10_commonDivisor_35 : zLl zX10_commonDivisor 35 9 37 := Or.inr ⟨by decide +kernel, rfl⟩
theorem iX10_commonDivisor_37 : zLS zX10_commonDivisor 37 6 39 := ⟨by decide, Or.inr ⟨by decide +kernel, rfl⟩⟩
theorem iX10_commonDivisor_39 : zIn zX10_commonDivisor 39 8 (1) 42 := ⟨by decide, 1, by decide, by decide +kernel, rfl⟩
theorem iX10_commonDivisor_42 : zB zX10_commonDivisor 42 .goto 45 9 := ⟨-33, by decide +kernel, rfl, by decide⟩
theorem iX10_commonDivisor_45 : zLl zX10_commonDivisor 45 4 47 := Or.inr ⟨by decide +kernel, rfl⟩
theorem iX10_commonDivisor_47 : zCL zX10_commonDivisor 47 0 48 := Or.inl ⟨0, by decide, by decide +kernel, rfl⟩
theorem iX10_commonDivisor_48 : zD zX10_commonDivisor 48 1 (.lcmp) 49 := ⟨by decide +kernel, rfl⟩
theorem iX10_commonDivisor_49 : zB zX10_commonDivisor 49 (.ifCond .ne) 52 56 := ⟨7, by decide +kernel, rfl, by decide⟩
theorem iX10_commonDivisor_52 : zCL zX10_commonDivisor 52 1 53 := Or.inl ⟨1, by decide, by decide +kernel, rfl⟩
theorem iX10_commonDivisor_53 : zB zX10_commonDivisor 53 .goto 56 58 := ⟨5, by decide +kernel, rfl, by decide⟩
theorem iX10_commonDivisor_56 : zLl zX10_commonDivisor 56 4 58 := Or.inr ⟨by decide +kernel, rfl⟩
theorem iX10_commonDivisor_58 : zD zX10_commonDivisor 58 1 (.lreturn) 59 := ⟨by decide +kernel, rfl⟩
theorem iX10_edgesNotGood_0 : zCo zX10_edgesNotGood 0 (0) 1 := Or.inl ⟨0, by decide, by decide +kernel, rfl⟩
theorem iX10_edgesNotGood_1 : zIs zX10_edgesNotGood 1 1 2 := ⟨by decide, Or.inl ⟨1, rfl, by decide +kernel, rfl⟩⟩
theorem iX10_edgesNotGood_2 : zCo zX10_edgesNotGood 2 (0) 3 := Or.inl ⟨0, by decide, by decide +kernel, rfl⟩
theorem iX10_edgesNotGood_3 : zIs zX10_edgesNotGood 3 2 4 := ⟨by decide, Or.inl ⟨2, rfl, by decide +kernel, rfl⟩⟩
theorem iX10_edgesNotGood_4 : zIl zX10_edgesNotGood 4 2 5 := Or.inl ⟨2, rfl, by decide +kernel, rfl⟩
theorem iX10_edgesNotGood_5 : zAl zX10_edgesNotGood 5 0 6 := Or.inl ⟨0, rfl, by decide +kernel, rfl⟩
theorem iX10_edgesNotGood_6 : zGf zX10_edgesNotGood 6 10 11 9 := ⟨121, _, _, _, zcf_10, by decide, by decide +kernel, rfl, zT2_of (i := 143) rfl rfl⟩
theorem iX10_edgesNotGood_9 : zB zX10_edgesNotGood 9 (.if_icmp .ge) 12 38 := ⟨29, by decide +kernel, rfl, by decide⟩
theorem iX10_edgesNotGood_12 : zAl zX10_edgesNotGood 12 0 13 := Or.inl ⟨0, rfl, by decide +kernel, rfl⟩
theorem iX10_edgesNotGood_13 : zIl zX10_edgesNotGood 13 2 14 := Or.inl ⟨2, rfl, by decide +kernel, rfl⟩
theorem iX10_edgesNotGood_14 : zCl zX10_edgesNotGood 14 .invokevirtual zX10_edgeOf 17 := ⟨127, by decide +kernel, rfl, Or.inl (zT3_of (i := 9) rfl rfl)⟩
theorem iX10_edgesNotGood_17 : zAs zX10_edgesNotGood 17 3 18 := ⟨by decide, Or.inl ⟨3, rfl, by decide +kernel, rfl⟩⟩
theorem iX10_edgesNotGood_18 : zAl zX10_edgesNotGood 18 3 19 := Or.inl ⟨3, rfl, by decide +kernel, rfl⟩
theorem iX10_edgesNotGood_19 : zB zX10_edgesNotGood 19 .ifnull 22 32 := ⟨13, by decide +kernel, rfl, by decide⟩
theorem iX10_edgesNotGood_22 : zAl zX10_edgesNotGood 22 3 23 := Or.inl ⟨3, rfl, by decide +kernel, rfl⟩
theorem iX10_edgesNotGood_23 : zGf zX10_edgesNotGood 23 0 7 26 := ⟨145, _, _, _, zcf_0, by decide, by decide +kernel, rfl, zT2_of (i := 207) rfl rfl⟩
theorem iX10_edgesNotGood_26 : zB zX10_edgesNotGood 26 (.ifCond .eq) 29 32 := ⟨6, by decide +kernel, rfl, by decide⟩
theorem iX10_edgesNotGood_29 : zIn zX10_edgesNotGood 29 1 (1) 32 := ⟨by decide, 1, by decide, by decide +kernel, rfl⟩
theorem iX10_edgesNotGood_32 : zIn zX10_edgesNotGood 32 2 (1) 35 := ⟨by decide, 1, by decide, by decide +kernel, rfl⟩
theorem iX10_edgesNotGood_35 : zB zX10_edgesNotGood 35 .goto 38 4 := ⟨-31, by decide +kernel, rfl, by decide⟩
theorem iX10_edgesNotGood_38 : zIl zX10_edgesNotGood 38 1 39 := Or.inl ⟨1, rfl, by decide +kernel, rfl⟩
theorem iX10_edgesNotGood_39 : zD zX10_edgesNotGood 39 1 (.ireturn) 40 := ⟨by decide +kernel, rfl⟩
theorem iX10_ruleFor_0 : zAl zX10_ruleFor 0 0 1 := Or.inl ⟨0, rfl, by decide +kernel, rfl⟩
theorem iX10_ruleFor_1 : zAl zX10_ruleFor 1 0 2 := Or.inl ⟨0, rfl, by decide +kernel, rfl⟩
theorem iX10_ruleFor_2 : zGf zX10_ruleFor 2 10 15 5 := ⟨230, _, _, _, zcf_10, by decide, by decide +kernel, rfl, zT2_of (i := 147) rfl rfl⟩
theorem iX10_ruleFor_5 : zCl zX10_ruleFor 5 .invokevirtual zX10_textOf 8 := ⟨98, by decide +kernel, rfl, Or.inl (zT1_of (i := 231) rfl rfl)⟩
theorem iX10_ruleFor_8 : zAs zX10_ruleFor 8 3 9 := ⟨by decide, Or.inl ⟨3, rfl, by decide +kernel, rfl⟩⟩
theorem iX10_ruleFor_9 : zAl zX10_ruleFor 9 3 10 := Or.inl ⟨3, rfl, by decide +kernel, rfl⟩
theorem iX10_ruleFor_10 : zB zX10_ruleFor 10 .ifnonnull 13 15 := ⟨5, by decide +kernel, rfl, by decide⟩
theorem iX10_ruleFor_13 : zCo zX10_ruleFor 13 (0) 14 := Or.inl ⟨0, by decide, by decide +kernel, rfl⟩
theorem iX10_ruleFor_14 : zD zX10_ruleFor 14 1 (.ireturn) 15 := ⟨by decide +kernel, rfl⟩
theorem iX10_ruleFor_15 : zAl zX10_ruleFor 15 1 16 := Or.inl ⟨1, rfl, by decide +kernel, rfl⟩
theorem iX10_ruleFor_16 : zGf zX10_ruleFor 16 9 2 19 := ⟨267, _, _, _, zcf_9, by decide, by decide +kernel, rfl, zT3_of (i := 73) rfl rfl⟩
theorem iX10_ruleFor_19 : zAs zX10_ruleFor 19 4 21 := ⟨by decide, Or.inr ⟨by decide +kernel, rfl⟩⟩
theorem iX10_ruleFor_21 : zAl zX10_ruleFor 21 0 22 := Or.inl ⟨0, rfl, by decide +kernel, rfl⟩
theorem iX10_ruleFor_22 : zGf zX10_ruleFor 22 10 10 25 := ⟨76, _, _, _, zcf_10, by decide, by decide +kernel, rfl, zT2_of (i := 142) rfl rfl⟩
theorem iX10_ruleFor_25 : zCo zX10_ruleFor 25 (0) 26 := Or.inl ⟨0, by decide, by decide +kernel, rfl⟩
theorem iX10_ruleFor_26 : zAl zX10_ruleFor 26 4 28 := Or.inr ⟨by decide +kernel, rfl⟩
theorem iX10_ruleFor_28 : zGf zX10_ruleFor 28 0 8 31 := ⟨148, _, _, _, zcf_0, by decide, by decide +kernel, rfl, zT2_of (i := 208) rfl rfl⟩
theorem iX10_ruleFor_31 : zD zX10_ruleFor 31 1 (.iastore) 32 := ⟨by decide +kernel, rfl⟩
theorem iX10_ruleFor_32 : zAl zX10_ruleFor 32 0 33 := Or.inl ⟨0, rfl, by decide +kernel, rfl⟩
theorem iX10_ruleFor_33 : zGf zX10_ruleFor 33 10 10 36 := ⟨76, _, _, _, zcf_10, by decide, by decide +kernel, rfl, zT2_of (i := 142) rfl rfl⟩
theorem iX10_ruleFor_36 : zCo zX10_ruleFor 36 (1) 37 := Or.inl ⟨1, by decide, by decide +kernel, rfl⟩
theorem iX10_ruleFor_37 : zAl zX10_ruleFor 37 4 39 := Or.inr ⟨by decide +kernel, rfl⟩
theorem iX10_ruleFor_39 : zGf zX10_ruleFor 39 0 9 42 := ⟨332, _, _, _, zcf_0, by decide, by decide +kernel, rfl, zT2_of (i := 211) rfl rfl⟩
theorem iX10_ruleFor_42 : zD zX10_ruleFor 42 1 (.iastore) 43 := ⟨by decide +kernel, rfl⟩
theorem iX10_ruleFor_43 : zAl zX10_ruleFor 43 0 44 := Or.inl ⟨0, rfl, by decide +kernel, rfl⟩
theorem iX10_ruleFor_44 : zGf zX10_ruleFor 44 10 10 47 := ⟨76, _, _, _, zcf_10, by decide, by decide +kernel, rfl, zT2_of (i := 142) rfl rfl⟩
theorem iX10_ruleFor_47 : zCo zX10_ruleFor 47 (2) 48 := Or.inl ⟨2, by decide, by decide +kernel, rfl⟩
theorem iX10_ruleFor_48 : zAl zX10_ruleFor 48 4 50 := Or.inr ⟨by decide +kernel, rfl⟩
theorem iX10_ruleFor_50 : zGf zX10_ruleFor 50 0 10 53 := ⟨335, _, _, _, zcf_0, by decide, by decide +kernel, rfl, zT2_of (i := 213) rfl rfl⟩
theorem iX10_ruleFor_53 : zD zX10_ruleFor 53 1 (.iastore) 54 := ⟨by decide +kernel, rfl⟩
theorem iX10_ruleFor_54 : zAl zX10_ruleFor 54 0 55 := Or.inl ⟨0, rfl, by decide +kernel, rfl⟩
theorem iX10_ruleFor_55 : zGf zX10_ruleFor 55 10 10 58 := ⟨76, _, _, _, zcf_10, by decide, by decide +kernel, rfl, zT2_of (i := 142) rfl rfl⟩
theorem iX10_ruleFor_58 : zCo zX10_ruleFor 58 (3) 59 := Or.inl ⟨3, by decide, by decide +kernel, rfl⟩
theorem iX10_ruleFor_59 : zAl zX10_ruleFor 59 4 61 := Or.inr ⟨by decide +kernel, rfl⟩
theorem iX10_ruleFor_61 : zGf zX10_ruleFor 61 0 2 64 := ⟨142, _, _, _, zcf_0, by decide, by decide +kernel, rfl, zT2_of (i := 198) rfl rfl⟩
theorem iX10_ruleFor_64 : zD zX10_ruleFor 64 1 (.iastore) 65 := ⟨by decide +kernel, rfl⟩
theorem iX10_ruleFor_65 : zAl zX10_ruleFor 65 0 66 := Or.inl ⟨0, rfl, by decide +kernel, rfl⟩
theorem iX10_ruleFor_66 : zGf zX10_ruleFor 66 10 10 69 := ⟨76, _, _, _, zcf_10, by decide, by decide +kernel, rfl, zT2_of (i := 142) rfl rfl⟩
theorem iX10_ruleFor_69 : zCo zX10_ruleFor 69 (4) 70 := Or.inl ⟨4, by decide, by decide +kernel, rfl⟩
theorem iX10_ruleFor_70 : zAl zX10_ruleFor 70 1 71 := Or.inl ⟨1, rfl, by decide +kernel, rfl⟩
theorem iX10_ruleFor_71 : zGf zX10_ruleFor 71 9 5 74 := ⟨208, _, _, _, zcf_9, by decide, by decide +kernel, rfl, zT3_of (i := 78) rfl rfl⟩
theorem iX10_ruleFor_74 : zD zX10_ruleFor 74 1 (.iastore) 75 := ⟨by decide +kernel, rfl⟩
theorem iX10_ruleFor_75 : zAl zX10_ruleFor 75 0 76 := Or.inl ⟨0, rfl, by decide +kernel, rfl⟩
theorem iX10_ruleFor_76 : zGf zX10_ruleFor 76 10 10 79 := ⟨76, _, _, _, zcf_10, by decide, by decide +kernel, rfl, zT2_of (i := 142) rfl rfl⟩
theorem iX10_ruleFor_79 : zCo zX10_ruleFor 79 (5) 80 := Or.inl ⟨5, by decide, by decide +kernel, rfl⟩
theorem iX10_ruleFor_80 : zAl zX10_ruleFor 80 1 81 := Or.inl ⟨1, rfl, by decide +kernel, rfl⟩
theorem iX10_ruleFor_81 : zCl zX10_ruleFor 81 .invokevirtual zX9_nominal 84 := ⟨205, by decide +kernel, rfl, Or.inl (zT3_of (i := 108) rfl rfl)⟩
theorem iX10_ruleFor_84 : zD zX10_ruleFor 84 1 (.iastore) 85 := ⟨by decide +kernel, rfl⟩
theorem iX10_ruleFor_85 : zAl zX10_ruleFor 85 3 86 := Or.inl ⟨3, rfl, by decide +kernel, rfl⟩
theorem iX10_ruleFor_86 : zIl zX10_ruleFor 86 2 87 := Or.inl ⟨2, rfl, by decide +kernel, rfl⟩
theorem iX10_ruleFor_87 : zAl zX10_ruleFor 87 0 88 := Or.inl ⟨0, rfl, by decide +kernel, rfl⟩
theorem iX10_ruleFor_88 : zGf zX10_ruleFor 88 10 10 91 := ⟨76, _, _, _, zcf_10, by decide, by decide +kernel, rfl, zT2_of (i := 142) rfl rfl⟩
theorem iX10_ruleFor_91 : zAl zX10_ruleFor 91 0 92 := Or.inl ⟨0, rfl, by decide +kernel, rfl⟩
theorem iX10_ruleFor_92 : zGf zX10_ruleFor 92 10 9 95 := ⟨72, _, _, _, zcf_10, by decide, by decide +kernel, rfl, zT2_of (i := 141) rfl rfl⟩
theorem iX10_ruleFor_95 : zCl zX10_ruleFor 95 .invokevirtual zX8_valueOf 98 := ⟨338, by decide +kernel, rfl, Or.inl (zT3_of (i := 148) rfl rfl)⟩
theorem iX10_ruleFor_98 : zD zX10_ruleFor 98 1 (.ireturn) 99 := ⟨by decide +kernel, rfl⟩
theorem iX10_takerOf_0 : zCo zX10_takerOf 0 (-1) 1 := Or.inl ⟨-1, by decide, by decide +kernel, rfl⟩
theorem iX10_takerOf_1 : zIs zX10_takerOf 1 3 2 := ⟨by decide, Or.inl ⟨3, rfl, by decide +kernel, rfl⟩⟩
theorem iX10_takerOf_2 : zD zX10_takerOf 2 1 (.aconst_null) 3 := ⟨by decide +kernel, rfl⟩
theorem iX10_takerOf_3 : zAs zX10_takerOf 3 4 5 := ⟨by decide, Or.inr ⟨by decide +kernel, rfl⟩⟩
theorem iX10_takerOf_5 : zCo zX10_takerOf 5 (0) 6 := Or.inl ⟨0, by decide, by decide +kernel, rfl⟩
theorem iX10_takerOf_6 : zIs zX10_takerOf 6 5 8 := ⟨by decide, Or.inr ⟨by decide +kernel, rfl⟩⟩
theorem iX10_takerOf_8 : zIl zX10_takerOf 8 5 10 := Or.inr ⟨by decide +kernel, rfl⟩
theorem iX10_takerOf_10 : zAl zX10_takerOf 10 0 11 := Or.inl ⟨0, rfl, by decide +kernel, rfl⟩
theorem iX10_takerOf_11 : zGf zX10_takerOf 11 10 12 14 := ⟨183, _, _, _, zcf_10, by decide, by decide +kernel, rfl, zT2_of (i := 144) rfl rfl⟩
theorem iX10_takerOf_14 : zB zX10_takerOf 14 (.if_icmp .ge) 17 96 := ⟨82, by decide +kernel, rfl, by decide⟩
theorem iX10_takerOf_17 : zAl zX10_takerOf 17 0 18 := Or.inl ⟨0, rfl, by decide +kernel, rfl⟩
theorem iX10_takerOf_18 : zIl zX10_takerOf 18 5 20 := Or.inr ⟨by decide +kernel, rfl⟩
theorem iX10_takerOf_20 : zCl zX10_takerOf 20 .invokevirtual zX10_toolOf 23 := ⟨189, by decide +kernel, rfl, Or.inl (zT3_of (i := 104) rfl rfl)⟩
theorem iX10_takerOf_23 : zAs zX10_takerOf 23 6 25 := ⟨by decide, Or.inr ⟨by decide +kernel, rfl⟩⟩
theorem iX10_takerOf_25 : zAl zX10_takerOf 25 6 27 := Or.inr ⟨by decide +kernel, rfl⟩
theorem iX10_takerOf_27 : zB zX10_takerOf 27 .ifnull 30 90 := ⟨63, by decide +kernel, rfl, by decide⟩
theorem iX10_takerOf_30 : zAl zX10_takerOf 30 6 32 := Or.inr ⟨by decide +kernel, rfl⟩
theorem iX10_takerOf_32 : zGf zX10_takerOf 32 9 6 35 := ⟨211, _, _, _, zcf_9, by decide, by decide +kernel, rfl, zT3_of (i := 80) rfl rfl⟩
theorem iX10_takerOf_35 : zIl zX10_takerOf 35 1 36 := Or.inl ⟨1, rfl, by decide +kernel, rfl⟩
theorem iX10_takerOf_36 : zB zX10_takerOf 36 (.if_icmp .ne) 39 90 := ⟨54, by decide +kernel, rfl, by decide⟩
theorem iX10_takerOf_39 : zAl zX10_takerOf 39 6 41 := Or.inr ⟨by decide +kernel, rfl⟩
theorem iX10_takerOf_41 : zGf zX10_takerOf 41 9 4 44 := ⟨202, _, _, _, zcf_9, by decide, by decide +kernel, rfl, zT3_of (i := 77) rfl rfl⟩
theorem iX10_takerOf_44 : zIl zX10_takerOf 44 2 45 := Or.inl ⟨2, rfl, by decide +kernel, rfl⟩
theorem iX10_takerOf_45 : zB zX10_takerOf 45 (.if_icmp .ne) 48 90 := ⟨45, by decide +kernel, rfl, by decide⟩
theorem iX10_takerOf_48 : zAl zX10_takerOf 48 6 50 := Or.inr ⟨by decide +kernel, rfl⟩
theorem iX10_takerOf_50 : zGf zX10_takerOf 50 9 2 53 := ⟨267, _, _, _, zcf_9, by decide, by decide +kernel, rfl, zT3_of (i := 73) rfl rfl⟩
theorem iX10_takerOf_53 : zGf zX10_takerOf 53 0 7 56 := ⟨145, _, _, _, zcf_0, by decide, by decide +kernel, rfl, zT2_of (i := 207) rfl rfl⟩
theorem iX10_takerOf_56 : zB zX10_takerOf 56 (.ifCond .eq) 59 62 := ⟨6, by decide +kernel, rfl, by decide⟩
theorem iX10_takerOf_59 : zB zX10_takerOf 59 .goto 62 90 := ⟨31, by decide +kernel, rfl, by decide⟩
theorem iX10_takerOf_62 : zAl zX10_takerOf 62 4 64 := Or.inr ⟨by decide +kernel, rfl⟩
theorem iX10_takerOf_64 : zB zX10_takerOf 64 .ifnull 67 80 := ⟨16, by decide +kernel, rfl, by decide⟩
theorem iX10_takerOf_67 : zAl zX10_takerOf 67 6 69 := Or.inr ⟨by decide +kernel, rfl⟩
theorem iX10_takerOf_69 : zGf zX10_takerOf 69 9 2 72 := ⟨267, _, _, _, zcf_9, by decide, by decide +kernel, rfl, zT3_of (i := 73) rfl rfl⟩
theorem iX10_takerOf_72 : zAl zX10_takerOf 72 4 74 := Or.inr ⟨by decide +kernel, rfl⟩
theorem iX10_takerOf_74 : zCl zX10_takerOf 74 .invokevirtual zX0_isMoreUsedThan 77 := ⟨342, by decide +kernel, rfl, Or.inl (zT4_of (i := 0) rfl rfl)⟩
theorem iX10_takerOf_77 : zB zX10_takerOf 77 (.ifCond .eq) 80 90 := ⟨13, by decide +kernel, rfl, by decide⟩
theorem iX10_takerOf_80 : zIl zX10_takerOf 80 5 82 := Or.inr ⟨by decide +kernel, rfl⟩
theorem iX10_takerOf_82 : zIs zX10_takerOf 82 3 83 := ⟨by decide, Or.inl ⟨3, rfl, by decide +kernel, rfl⟩⟩
theorem iX10_takerOf_83 : zAl zX10_takerOf 83 6 85 := Or.inr ⟨by decide +kernel, rfl⟩
theorem iX10_takerOf_85 : zGf zX10_takerOf 85 9 2 88 := ⟨267, _, _, _, zcf_9, by decide, by decide +kernel, rfl, zT3_of (i := 73) rfl rfl⟩
theorem iX10_takerOf_88 : zAs zX10_takerOf 88 4 90 := ⟨by decide, Or.inr ⟨by decide +kernel, rfl⟩⟩
theorem iX10_takerOf_90 : zIn zX10_takerOf 90 5 (1) 93 := ⟨by decide, 1, by decide, by decide +kernel, rfl⟩
theorem iX10_takerOf_93 : zB zX10_takerOf 93 .goto 96 8 := ⟨-85, by decide +kernel, rfl, by decide⟩
theorem iX10_takerOf_96 : zIl zX10_takerOf 96 3 97 := Or.inl ⟨3, rfl, by decide +kernel, rfl⟩
theorem iX10_takerOf_97 : zD zX10_takerOf 97 1 (.ireturn) 98 := ⟨by decide +kernel, rfl⟩
theorem iX10_cutBySheet_0 : zCo zX10_cutBySheet 0 (0) 1 := Or.inl ⟨0, by decide, by decide +kernel, rfl⟩
theorem iX10_cutBySheet_1 : zIs zX10_cutBySheet 1 5 3 := ⟨by decide, Or.inr ⟨by decide +kernel, rfl⟩⟩
theorem iX10_cutBySheet_3 : zIl zX10_cutBySheet 3 3 4 := Or.inl ⟨3, rfl, by decide +kernel, rfl⟩
theorem iX10_cutBySheet_4 : zIs zX10_cutBySheet 4 6 6 := ⟨by decide, Or.inr ⟨by decide +kernel, rfl⟩⟩
theorem iX10_cutBySheet_6 : zCo zX10_cutBySheet 6 (0) 7 := Or.inl ⟨0, by decide, by decide +kernel, rfl⟩
theorem iX10_cutBySheet_7 : zIs zX10_cutBySheet 7 7 9 := ⟨by decide, Or.inr ⟨by decide +kernel, rfl⟩⟩
theorem iX10_cutBySheet_9 : zIl zX10_cutBySheet 9 7 11 := Or.inr ⟨by decide +kernel, rfl⟩
theorem iX10_cutBySheet_11 : zIl zX10_cutBySheet 11 4 13 := Or.inr ⟨by decide +kernel, rfl⟩
theorem iX10_cutBySheet_13 : zB zX10_cutBySheet 13 (.if_icmp .ge) 16 81 := ⟨68, by decide +kernel, rfl, by decide⟩
theorem iX10_cutBySheet_16 : zAl zX10_cutBySheet 16 2 17 := Or.inl ⟨2, rfl, by decide +kernel, rfl⟩
theorem iX10_cutBySheet_17 : zIl zX10_cutBySheet 17 6 19 := Or.inr ⟨by decide +kernel, rfl⟩
theorem iX10_cutBySheet_19 : zCl zX10_cutBySheet 19 .invokevirtual zX5_has 22 := ⟨317, by decide +kernel, rfl, Or.inl (zT4_of (i := 107) rfl rfl)⟩
theorem iX10_cutBySheet_22 : zB zX10_cutBySheet 22 (.ifCond .eq) 25 36 := ⟨14, by decide +kernel, rfl, by decide⟩
theorem iX10_cutBySheet_25 : zAl zX10_cutBySheet 25 2 26 := Or.inl ⟨2, rfl, by decide +kernel, rfl⟩
theorem iX10_cutBySheet_26 : zIl zX10_cutBySheet 26 6 28 := Or.inr ⟨by decide +kernel, rfl⟩
theorem iX10_cutBySheet_28 : zCo zX10_cutBySheet 28 (2) 29 := Or.inl ⟨2, by decide, by decide +kernel, rfl⟩
theorem iX10_cutBySheet_29 : zD zX10_cutBySheet 29 1 (.iadd) 30 := ⟨by decide +kernel, rfl⟩
theorem iX10_cutBySheet_30 : zCl zX10_cutBySheet 30 .invokevirtual zX5_has 33 := ⟨317, by decide +kernel, rfl, Or.inl (zT4_of (i := 107) rfl rfl)⟩
theorem iX10_cutBySheet_33 : zB zX10_cutBySheet 33 (.ifCond .ne) 36 39 := ⟨6, by decide +kernel, rfl, by decide⟩
theorem iX10_cutBySheet_36 : zCo zX10_cutBySheet 36 (-12) 38 := Or.inr (Or.inl ⟨-12, by decide, by decide +kernel, rfl⟩)
theorem iX10_cutBySheet_38 : zD zX10_cutBySheet 38 1 (.ireturn) 39 := ⟨by decide +kernel, rfl⟩
theorem iX10_cutBySheet_39 : zAl zX10_cutBySheet 39 0 40 := Or.inl ⟨0, rfl, by decide +kernel, rfl⟩
theorem iX10_cutBySheet_40 : zIl zX10_cutBySheet 40 1 41 := Or.inl ⟨1, rfl, by decide +kernel, rfl⟩
theorem iX10_cutBySheet_41 : zAl zX10_cutBySheet 41 2 42 := Or.inl ⟨2, rfl, by decide +kernel, rfl⟩
theorem iX10_cutBySheet_42 : zIl zX10_cutBySheet 42 6 44 := Or.inr ⟨by decide +kernel, rfl⟩
theorem iX10_cutBySheet_44 : zCl zX10_cutBySheet 44 .invokevirtual zX5_get 47 := ⟨346, by decide +kernel, rfl, Or.inl (zT4_of (i := 124) rfl rfl)⟩
theorem iX10_cutBySheet_47 : zAl zX10_cutBySheet 47 2 48 := Or.inl ⟨2, rfl, by decide +kernel, rfl⟩
theorem iX10_cutBySheet_48 : zIl zX10_cutBySheet 48 6 50 := Or.inr ⟨by decide +kernel, rfl⟩
theorem iX10_cutBySheet_50 : zCo zX10_cutBySheet 50 (1) 51 := Or.inl ⟨1, by decide, by decide +kernel, rfl⟩
theorem iX10_cutBySheet_51 : zD zX10_cutBySheet 51 1 (.iadd) 52 := ⟨by decide +kernel, rfl⟩
theorem iX10_cutBySheet_52 : zCl zX10_cutBySheet 52 .invokevirtual zX5_get 55 := ⟨346, by decide +kernel, rfl, Or.inl (zT4_of (i := 124) rfl rfl)⟩
theorem iX10_cutBySheet_55 : zAl zX10_cutBySheet 55 2 56 := Or.inl ⟨2, rfl, by decide +kernel, rfl⟩
theorem iX10_cutBySheet_56 : zIl zX10_cutBySheet 56 6 58 := Or.inr ⟨by decide +kernel, rfl⟩
theorem iX10_cutBySheet_58 : zCo zX10_cutBySheet 58 (2) 59 := Or.inl ⟨2, by decide, by decide +kernel, rfl⟩
theorem iX10_cutBySheet_59 : zD zX10_cutBySheet 59 1 (.iadd) 60 := ⟨by decide +kernel, rfl⟩
theorem iX10_cutBySheet_60 : zCl zX10_cutBySheet 60 .invokevirtual zX5_get 63 := ⟨346, by decide +kernel, rfl, Or.inl (zT4_of (i := 124) rfl rfl)⟩
theorem iX10_cutBySheet_63 : zCl zX10_cutBySheet 63 .invokevirtual zX10_cut 66 := ⟨349, by decide +kernel, rfl, Or.inl (zT4_of (i := 128) rfl rfl)⟩
theorem iX10_cutBySheet_66 : zB zX10_cutBySheet 66 (.ifCond .lt) 69 72 := ⟨6, by decide +kernel, rfl, by decide⟩
theorem iX10_cutBySheet_69 : zIn zX10_cutBySheet 69 5 (1) 72 := ⟨by decide, 1, by decide, by decide +kernel, rfl⟩
theorem iX10_cutBySheet_72 : zIn zX10_cutBySheet 72 6 (3) 75 := ⟨by decide, 3, by decide, by decide +kernel, rfl⟩
theorem iX10_cutBySheet_75 : zIn zX10_cutBySheet 75 7 (1) 78 := ⟨by decide, 1, by decide, by decide +kernel, rfl⟩
theorem iX10_cutBySheet_78 : zB zX10_cutBySheet 78 .goto 81 9 := ⟨-69, by decide +kernel, rfl, by decide⟩
theorem iX10_cutBySheet_81 : zIl zX10_cutBySheet 81 5 83 := Or.inr ⟨by decide +kernel, rfl⟩
theorem iX10_cutBySheet_83 : zD zX10_cutBySheet 83 1 (.ireturn) 84 := ⟨by decide +kernel, rfl⟩
theorem iJ6_bitCount_0f7a4_0 : zIl zJ6_bitCount_0f7a4 0 0 1 := Or.inl ⟨0, rfl, by decide +kernel, rfl⟩
theorem iJ6_bitCount_0f7a4_1 : zIl zJ6_bitCount_0f7a4 1 0 2 := Or.inl ⟨0, rfl, by decide +kernel, rfl⟩
theorem iJ6_bitCount_0f7a4_2 : zCo zJ6_bitCount_0f7a4 2 (1) 3 := Or.inl ⟨1, by decide, by decide +kernel, rfl⟩
theorem iJ6_bitCount_0f7a4_3 : zD zJ6_bitCount_0f7a4 3 1 (.iushr) 4 := ⟨by decide +kernel, rfl⟩
theorem iJ6_bitCount_0f7a4_4 : zCo zJ6_bitCount_0f7a4 4 (1431655765) 7 := Or.inr (Or.inr (Or.inr ⟨265, zT4_of (i := 22) rfl rfl, by decide +kernel, rfl⟩))
theorem iJ6_bitCount_0f7a4_7 : zD zJ6_bitCount_0f7a4 7 1 (.iand) 8 := ⟨by decide +kernel, rfl⟩
theorem iJ6_bitCount_0f7a4_8 : zD zJ6_bitCount_0f7a4 8 1 (.isub) 9 := ⟨by decide +kernel, rfl⟩
theorem iJ6_bitCount_0f7a4_9 : zIs zJ6_bitCount_0f7a4 9 0 10 := ⟨by decide, Or.inl ⟨0, rfl, by decide +kernel, rfl⟩⟩
theorem iJ6_bitCount_0f7a4_10 : zIl zJ6_bitCount_0f7a4 10 0 11 := Or.inl ⟨0, rfl, by decide +kernel, rfl⟩
theorem iJ6_bitCount_0f7a4_11 : zCo zJ6_bitCount_0f7a4 11 (858993459) 14 := Or.inr (Or.inr (Or.inr ⟨266, zT4_of (i := 23) rfl rfl, by decide +kernel, rfl⟩))
theorem iJ6_bitCount_0f7a4_14 : zD zJ6_bitCount_0f7a4 14 1 (.iand) 15 := ⟨by decide +kernel, rfl⟩
theorem iJ6_bitCount_0f7a4_15 : zIl zJ6_bitCount_0f7a4 15 0 16 := Or.inl ⟨0, rfl, by decide +kernel, rfl⟩
theorem iJ6_bitCount_0f7a4_16 : zCo zJ6_bitCount_0f7a4 16 (2) 17 := Or.inl ⟨2, by decide, by decide +kernel, rfl⟩
theorem iJ6_bitCount_0f7a4_17 : zD zJ6_bitCount_0f7a4 17 1 (.iushr) 18 := ⟨by decide +kernel, rfl⟩
theorem iJ6_bitCount_0f7a4_18 : zCo zJ6_bitCount_0f7a4 18 (858993459) 21 := Or.inr (Or.inr (Or.inr ⟨266, zT4_of (i := 23) rfl rfl, by decide +kernel, rfl⟩))
theorem iJ6_bitCount_0f7a4_21 : zD zJ6_bitCount_0f7a4 21 1 (.iand) 22 := ⟨by decide +kernel, rfl⟩
theorem iJ6_bitCount_0f7a4_22 : zD zJ6_bitCount_0f7a4 22 1 (.iadd) 23 := ⟨by decide +kernel, rfl⟩
theorem iJ6_bitCount_0f7a4_23 : zIs zJ6_bitCount_0f7a4 23 0 24 := ⟨by decide, Or.inl ⟨0, rfl, by decide +kernel, rfl⟩⟩
theorem iJ6_bitCount_0f7a4_24 : zIl zJ6_bitCount_0f7a4 24 0 25 := Or.inl ⟨0, rfl, by decide +kernel, rfl⟩
theorem iJ6_bitCount_0f7a4_25 : zIl zJ6_bitCount_0f7a4 25 0 26 := Or.inl ⟨0, rfl, by decide +kernel, rfl⟩
theorem iJ6_bitCount_0f7a4_26 : zCo zJ6_bitCount_0f7a4 26 (4) 27 := Or.inl ⟨4, by decide, by decide +kernel, rfl⟩
theorem iJ6_bitCount_0f7a4_27 : zD zJ6_bitCount_0f7a4 27 1 (.iushr) 28 := ⟨by decide +kernel, rfl⟩
theorem iJ6_bitCount_0f7a4_28 : zD zJ6_bitCount_0f7a4 28 1 (.iadd) 29 := ⟨by decide +kernel, rfl⟩
theorem iJ6_bitCount_0f7a4_29 : zCo zJ6_bitCount_0f7a4 29 (252645135) 32 := Or.inr (Or.inr (Or.inr ⟨267, zT4_of (i := 24) rfl rfl, by decide +kernel, rfl⟩))
theorem iJ6_bitCount_0f7a4_32 : zD zJ6_bitCount_0f7a4 32 1 (.iand) 33 := ⟨by decide +kernel, rfl⟩
theorem iJ6_bitCount_0f7a4_33 : zIs zJ6_bitCount_0f7a4 33 0 34 := ⟨by decide, Or.inl ⟨0, rfl, by decide +kernel, rfl⟩⟩
theorem iJ6_bitCount_0f7a4_34 : zIl zJ6_bitCount_0f7a4 34 0 35 := Or.inl ⟨0, rfl, by decide +kernel, rfl⟩
theorem iJ6_bitCount_0f7a4_35 : zIl zJ6_bitCount_0f7a4 35 0 36 := Or.inl ⟨0, rfl, by decide +kernel, rfl⟩
theorem iJ6_bitCount_0f7a4_36 : zCo zJ6_bitCount_0f7a4 36 (8) 38 := Or.inr (Or.inl ⟨8, by decide, by decide +kernel, rfl⟩)
theorem iJ6_bitCount_0f7a4_38 : zD zJ6_bitCount_0f7a4 38 1 (.iushr) 39 := ⟨by decide +kernel, rfl⟩
theorem iJ6_bitCount_0f7a4_39 : zD zJ6_bitCount_0f7a4 39 1 (.iadd) 40 := ⟨by decide +kernel, rfl⟩
theorem iJ6_bitCount_0f7a4_40 : zIs zJ6_bitCount_0f7a4 40 0 41 := ⟨by decide, Or.inl ⟨0, rfl, by decide +kernel, rfl⟩⟩
theorem iJ6_bitCount_0f7a4_41 : zIl zJ6_bitCount_0f7a4 41 0 42 := Or.inl ⟨0, rfl, by decide +kernel, rfl⟩
theorem iJ6_bitCount_0f7a4_42 : zIl zJ6_bitCount_0f7a4 42 0 43 := Or.inl ⟨0, rfl, by decide +kernel, rfl⟩
theorem iJ6_bitCount_0f7a4_43 : zCo zJ6_bitCount_0f7a4 43 (16) 45 := Or.inr (Or.inl ⟨16, by decide, by decide +kernel, rfl⟩)
theorem iJ6_bitCount_0f7a4_45 : zD zJ6_bitCount_0f7a4 45 1 (.iushr) 46 := ⟨by decide +kernel, rfl⟩
theorem iJ6_bitCount_0f7a4_46 : zD zJ6_bitCount_0f7a4 46 1 (.iadd) 47 := ⟨by decide +kernel, rfl⟩
theorem iJ6_bitCount_0f7a4_47 : zIs zJ6_bitCount_0f7a4 47 0 48 := ⟨by decide, Or.inl ⟨0, rfl, by decide +kernel, rfl⟩⟩
theorem iJ6_bitCount_0f7a4_48 : zIl zJ6_bitCount_0f7a4 48 0 49 := Or.inl ⟨0, rfl, by decide +kernel, rfl⟩
theorem iJ6_bitCount_0f7a4_49 : zCo zJ6_bitCount_0f7a4 49 (63) 51 := Or.inr (Or.inl ⟨63, by decide, by decide +kernel, rfl⟩)
theorem iJ6_bitCount_0f7a4_51 : zD zJ6_bitCount_0f7a4 51 1 (.iand) 52 := ⟨by decide +kernel, rfl⟩
theorem iJ6_bitCount_0f7a4_52 : zD zJ6_bitCount_0f7a4 52 1 (.ireturn) 53 := ⟨by decide +kernel, rfl⟩
theorem iJ9_max_7cf53_0 : zIl zJ9_max_7cf53 0 0 1 := Or.inl ⟨0, rfl, by decide +kernel, rfl⟩
theorem iJ9_max_7cf53_1 : zIl zJ9_max_7cf53 1 1 2 := Or.inl ⟨1, rfl, by decide +kernel, rfl⟩
theorem iJ9_max_7cf53_2 : zB zJ9_max_7cf53 2 (.if_icmp .lt) 5 9 := ⟨7, by decide +kernel, rfl, by decide⟩
theorem iJ9_max_7cf53_5 : zIl zJ9_max_7cf53 5 0 6 := Or.inl ⟨0, rfl, by decide +kernel, rfl⟩
theorem iJ9_max_7cf53_6 : zB zJ9_max_7cf53 6 .goto 9 10 := ⟨4, by decide +kernel, rfl, by decide⟩
theorem iJ9_max_7cf53_9 : zIl zJ9_max_7cf53 9 1 10 := Or.inl ⟨1, rfl, by decide +kernel, rfl⟩
theorem iJ9_max_7cf53_10 : zD zJ9_max_7cf53 10 1 (.ireturn) 11 := ⟨by decide +kernel, rfl⟩
