theorem iX11_in_0 : zIl zX11_in 0 0 1 := Or.inl ⟨0, rfl, by decide +kernel, rfl⟩
theorem iX11_in_1 : zIl zX11_in 1 1 2 := Or.inl ⟨1, rfl, by decide +kernel, rfl⟩
theorem iX11_in_2 : zB zX11_in 2 (.if_icmp .lt) 5 14 := ⟨12, by decide +kernel, rfl, by decide⟩
theorem iX11_in_5 : zIl zX11_in 5 0 6 := Or.inl ⟨0, rfl, by decide +kernel, rfl⟩
theorem iX11_in_6 : zIl zX11_in 6 2 7 := Or.inl ⟨2, rfl, by decide +kernel, rfl⟩
theorem iX11_in_7 : zB zX11_in 7 (.if_icmp .gt) 10 14 := ⟨7, by decide +kernel, rfl, by decide⟩
theorem iX11_in_10 : zCo zX11_in 10 (1) 11 := Or.inl ⟨1, by decide, by decide +kernel, rfl⟩
theorem iX11_in_11 : zB zX11_in 11 .goto 14 15 := ⟨4, by decide +kernel, rfl, by decide⟩
theorem iX11_in_14 : zCo zX11_in 14 (0) 15 := Or.inl ⟨0, by decide, by decide +kernel, rfl⟩
theorem iX11_in_15 : zD zX11_in 15 1 (.ireturn) 16 := ⟨by decide +kernel, rfl⟩
theorem iX11_init_0 : zAl zX11_init 0 0 1 := Or.inl ⟨0, rfl, by decide +kernel, rfl⟩
theorem iX11_init_1 : zOi zX11_init 1 4 := ⟨7, by decide +kernel, rfl, zT4_of (i := 138) rfl rfl, zT1_of (i := 25) rfl rfl, zT1_of (i := 26) rfl rfl⟩
theorem iX11_init_4 : zAl zX11_init 4 0 5 := Or.inl ⟨0, rfl, by decide +kernel, rfl⟩
theorem iX11_init_5 : zCo zX11_init 5 (24) 7 := Or.inr (Or.inl ⟨24, by decide, by decide +kernel, rfl⟩)
theorem iX11_init_7 : zD zX11_init 7 2 (.newarray .int) 9 := ⟨by decide +kernel, rfl⟩
theorem iX11_init_9 : zPf zX11_init 9 11 2 (.array .int) 12 := ⟨13, _, _, _, zcf_11, by decide, by decide +kernel, rfl, zT4_of (i := 153) rfl rfl, by decide +kernel, Or.inr ⟨rfl, rfl, rfl⟩⟩
theorem iX11_init_12 : zAl zX11_init 12 0 13 := Or.inl ⟨0, rfl, by decide +kernel, rfl⟩
theorem iX11_init_13 : zCo zX11_init 13 (24) 15 := Or.inr (Or.inl ⟨24, by decide, by decide +kernel, rfl⟩)
theorem iX11_init_15 : zD zX11_init 15 2 (.newarray .int) 17 := ⟨by decide +kernel, rfl⟩
theorem iX11_init_17 : zPf zX11_init 17 11 3 (.array .int) 20 := ⟨17, _, _, _, zcf_11, by decide, by decide +kernel, rfl, zT4_of (i := 154) rfl rfl, by decide +kernel, Or.inr ⟨rfl, rfl, rfl⟩⟩
theorem iX11_init_20 : zAl zX11_init 20 0 21 := Or.inl ⟨0, rfl, by decide +kernel, rfl⟩
theorem iX11_init_21 : zCo zX11_init 21 (24) 23 := Or.inr (Or.inl ⟨24, by decide, by decide +kernel, rfl⟩)
theorem iX11_init_23 : zD zX11_init 23 2 (.newarray .int) 25 := ⟨by decide +kernel, rfl⟩
theorem iX11_init_25 : zPf zX11_init 25 11 4 (.array .int) 28 := ⟨20, _, _, _, zcf_11, by decide, by decide +kernel, rfl, zT4_of (i := 155) rfl rfl, by decide +kernel, Or.inr ⟨rfl, rfl, rfl⟩⟩
theorem iX11_init_28 : zAl zX11_init 28 0 29 := Or.inl ⟨0, rfl, by decide +kernel, rfl⟩
theorem iX11_init_29 : zCo zX11_init 29 (24) 31 := Or.inr (Or.inl ⟨24, by decide, by decide +kernel, rfl⟩)
theorem iX11_init_31 : zD zX11_init 31 2 (.newarray .int) 33 := ⟨by decide +kernel, rfl⟩
theorem iX11_init_33 : zPf zX11_init 33 11 5 (.array .int) 36 := ⟨23, _, _, _, zcf_11, by decide, by decide +kernel, rfl, zT4_of (i := 156) rfl rfl, by decide +kernel, Or.inr ⟨rfl, rfl, rfl⟩⟩
theorem iX11_init_36 : zAl zX11_init 36 0 37 := Or.inl ⟨0, rfl, by decide +kernel, rfl⟩
theorem iX11_init_37 : zCo zX11_init 37 (24) 39 := Or.inr (Or.inl ⟨24, by decide, by decide +kernel, rfl⟩)
theorem iX11_init_39 : zD zX11_init 39 2 (.newarray .int) 41 := ⟨by decide +kernel, rfl⟩
theorem iX11_init_41 : zPf zX11_init 41 11 6 (.array .int) 44 := ⟨26, _, _, _, zcf_11, by decide, by decide +kernel, rfl, zT4_of (i := 157) rfl rfl, by decide +kernel, Or.inr ⟨rfl, rfl, rfl⟩⟩
theorem iX11_init_44 : zAl zX11_init 44 0 45 := Or.inl ⟨0, rfl, by decide +kernel, rfl⟩
theorem iX11_init_45 : zCo zX11_init 45 (24) 47 := Or.inr (Or.inl ⟨24, by decide, by decide +kernel, rfl⟩)
theorem iX11_init_47 : zD zX11_init 47 2 (.newarray .int) 49 := ⟨by decide +kernel, rfl⟩
theorem iX11_init_49 : zPf zX11_init 49 11 7 (.array .int) 52 := ⟨29, _, _, _, zcf_11, by decide, by decide +kernel, rfl, zT4_of (i := 158) rfl rfl, by decide +kernel, Or.inr ⟨rfl, rfl, rfl⟩⟩
theorem iX11_init_52 : zAl zX11_init 52 0 53 := Or.inl ⟨0, rfl, by decide +kernel, rfl⟩
theorem iX11_init_53 : zCo zX11_init 53 (24) 55 := Or.inr (Or.inl ⟨24, by decide, by decide +kernel, rfl⟩)
theorem iX11_init_55 : zD zX11_init 55 2 (.newarray .int) 57 := ⟨by decide +kernel, rfl⟩
theorem iX11_init_57 : zPf zX11_init 57 11 8 (.array .int) 60 := ⟨32, _, _, _, zcf_11, by decide, by decide +kernel, rfl, zT4_of (i := 159) rfl rfl, by decide +kernel, Or.inr ⟨rfl, rfl, rfl⟩⟩
theorem iX11_init_60 : zAl zX11_init 60 0 61 := Or.inl ⟨0, rfl, by decide +kernel, rfl⟩
theorem iX11_init_61 : zCo zX11_init 61 (24) 63 := Or.inr (Or.inl ⟨24, by decide, by decide +kernel, rfl⟩)
theorem iX11_init_63 : zD zX11_init 63 2 (.newarray .long) 65 := ⟨by decide +kernel, rfl⟩
theorem iX11_init_65 : zPf zX11_init 65 11 9 (.array .long) 68 := ⟨35, _, _, _, zcf_11, by decide, by decide +kernel, rfl, zT4_of (i := 160) rfl rfl, by decide +kernel, Or.inr ⟨rfl, rfl, rfl⟩⟩
theorem iX11_init_68 : zAl zX11_init 68 0 69 := Or.inl ⟨0, rfl, by decide +kernel, rfl⟩
theorem iX11_init_69 : zCo zX11_init 69 (24) 71 := Or.inr (Or.inl ⟨24, by decide, by decide +kernel, rfl⟩)
theorem iX11_init_71 : zD zX11_init 71 2 (.newarray .int) 73 := ⟨by decide +kernel, rfl⟩
theorem iX11_init_73 : zPf zX11_init 73 11 10 (.array .int) 76 := ⟨39, _, _, _, zcf_11, by decide, by decide +kernel, rfl, zT4_of (i := 161) rfl rfl, by decide +kernel, Or.inr ⟨rfl, rfl, rfl⟩⟩
theorem iX11_init_76 : zAl zX11_init 76 0 77 := Or.inl ⟨0, rfl, by decide +kernel, rfl⟩
theorem iX11_init_77 : zCo zX11_init 77 (24) 79 := Or.inr (Or.inl ⟨24, by decide, by decide +kernel, rfl⟩)
theorem iX11_init_79 : zD zX11_init 79 2 (.newarray .int) 81 := ⟨by decide +kernel, rfl⟩
theorem iX11_init_81 : zPf zX11_init 81 11 11 (.array .int) 84 := ⟨42, _, _, _, zcf_11, by decide, by decide +kernel, rfl, zT4_of (i := 162) rfl rfl, by decide +kernel, Or.inr ⟨rfl, rfl, rfl⟩⟩
theorem iX11_init_84 : zAl zX11_init 84 0 85 := Or.inl ⟨0, rfl, by decide +kernel, rfl⟩
theorem iX11_init_85 : zCo zX11_init 85 (24) 87 := Or.inr (Or.inl ⟨24, by decide, by decide +kernel, rfl⟩)
theorem iX11_init_87 : zD zX11_init 87 2 (.newarray .int) 89 := ⟨by decide +kernel, rfl⟩
theorem iX11_init_89 : zPf zX11_init 89 11 12 (.array .int) 92 := ⟨45, _, _, _, zcf_11, by decide, by decide +kernel, rfl, zT4_of (i := 163) rfl rfl, by decide +kernel, Or.inr ⟨rfl, rfl, rfl⟩⟩
theorem iX11_init_92 : zAl zX11_init 92 0 93 := Or.inl ⟨0, rfl, by decide +kernel, rfl⟩
theorem iX11_init_93 : zCo zX11_init 93 (192) 96 := Or.inr (Or.inr (Or.inl ⟨192, by decide, by decide +kernel, rfl⟩))
theorem iX11_init_96 : zD zX11_init 96 2 (.newarray .int) 98 := ⟨by decide +kernel, rfl⟩
theorem iX11_init_98 : zPf zX11_init 98 11 13 (.array .int) 101 := ⟨48, _, _, _, zcf_11, by decide, by decide +kernel, rfl, zT4_of (i := 164) rfl rfl, by decide +kernel, Or.inr ⟨rfl, rfl, rfl⟩⟩
theorem iX11_init_101 : zAl zX11_init 101 0 102 := Or.inl ⟨0, rfl, by decide +kernel, rfl⟩
theorem iX11_init_102 : zCo zX11_init 102 (24) 104 := Or.inr (Or.inl ⟨24, by decide, by decide +kernel, rfl⟩)
theorem iX11_init_104 : zD zX11_init 104 2 (.newarray .int) 106 := ⟨by decide +kernel, rfl⟩
theorem iX11_init_106 : zPf zX11_init 106 11 14 (.array .int) 109 := ⟨51, _, _, _, zcf_11, by decide, by decide +kernel, rfl, zT4_of (i := 165) rfl rfl, by decide +kernel, Or.inr ⟨rfl, rfl, rfl⟩⟩
theorem iX11_init_109 : zAl zX11_init 109 0 110 := Or.inl ⟨0, rfl, by decide +kernel, rfl⟩
theorem iX11_init_110 : zCo zX11_init 110 (10) 112 := Or.inr (Or.inl ⟨10, by decide, by decide +kernel, rfl⟩)
theorem iX11_init_112 : zD zX11_init 112 2 (.newarray .int) 114 := ⟨by decide +kernel, rfl⟩
theorem iX11_init_114 : zPf zX11_init 114 11 16 (.array .int) 117 := ⟨54, _, _, _, zcf_11, by decide, by decide +kernel, rfl, zT4_of (i := 167) rfl rfl, by decide +kernel, Or.inr ⟨rfl, rfl, rfl⟩⟩
theorem iX11_init_117 : zAl zX11_init 117 0 118 := Or.inl ⟨0, rfl, by decide +kernel, rfl⟩
theorem iX11_init_118 : zCo zX11_init 118 (10) 120 := Or.inr (Or.inl ⟨10, by decide, by decide +kernel, rfl⟩)
theorem iX11_init_120 : zD zX11_init 120 2 (.newarray .int) 122 := ⟨by decide +kernel, rfl⟩
theorem iX11_init_122 : zPf zX11_init 122 11 17 (.array .int) 125 := ⟨57, _, _, _, zcf_11, by decide, by decide +kernel, rfl, zT4_of (i := 168) rfl rfl, by decide +kernel, Or.inr ⟨rfl, rfl, rfl⟩⟩
theorem iX11_init_125 : zAl zX11_init 125 0 126 := Or.inl ⟨0, rfl, by decide +kernel, rfl⟩
theorem iX11_init_126 : zCo zX11_init 126 (10) 128 := Or.inr (Or.inl ⟨10, by decide, by decide +kernel, rfl⟩)
theorem iX11_init_128 : zD zX11_init 128 2 (.newarray .int) 130 := ⟨by decide +kernel, rfl⟩
theorem iX11_init_130 : zPf zX11_init 130 11 18 (.array .int) 133 := ⟨60, _, _, _, zcf_11, by decide, by decide +kernel, rfl, zT4_of (i := 169) rfl rfl, by decide +kernel, Or.inr ⟨rfl, rfl, rfl⟩⟩
theorem iX11_init_133 : zAl zX11_init 133 0 134 := Or.inl ⟨0, rfl, by decide +kernel, rfl⟩
theorem iX11_init_134 : zCo zX11_init 134 (10) 136 := Or.inr (Or.inl ⟨10, by decide, by decide +kernel, rfl⟩)
theorem iX11_init_136 : zD zX11_init 136 2 (.newarray .int) 138 := ⟨by decide +kernel, rfl⟩
theorem iX11_init_138 : zPf zX11_init 138 11 19 (.array .int) 141 := ⟨63, _, _, _, zcf_11, by decide, by decide +kernel, rfl, zT4_of (i := 170) rfl rfl, by decide +kernel, Or.inr ⟨rfl, rfl, rfl⟩⟩
theorem iX11_init_141 : zAl zX11_init 141 0 142 := Or.inl ⟨0, rfl, by decide +kernel, rfl⟩
theorem iX11_init_142 : zCo zX11_init 142 (10) 144 := Or.inr (Or.inl ⟨10, by decide, by decide +kernel, rfl⟩)
theorem iX11_init_144 : zD zX11_init 144 2 (.newarray .int) 146 := ⟨by decide +kernel, rfl⟩
theorem iX11_init_146 : zPf zX11_init 146 11 20 (.array .int) 149 := ⟨66, _, _, _, zcf_11, by decide, by decide +kernel, rfl, zT4_of (i := 171) rfl rfl, by decide +kernel, Or.inr ⟨rfl, rfl, rfl⟩⟩
theorem iX11_init_149 : zAl zX11_init 149 0 150 := Or.inl ⟨0, rfl, by decide +kernel, rfl⟩
theorem iX11_init_150 : zCo zX11_init 150 (10) 152 := Or.inr (Or.inl ⟨10, by decide, by decide +kernel, rfl⟩)
theorem iX11_init_152 : zD zX11_init 152 2 (.newarray .int) 154 := ⟨by decide +kernel, rfl⟩
theorem iX11_init_154 : zPf zX11_init 154 11 21 (.array .int) 157 := ⟨69, _, _, _, zcf_11, by decide, by decide +kernel, rfl, zT4_of (i := 172) rfl rfl, by decide +kernel, Or.inr ⟨rfl, rfl, rfl⟩⟩
theorem iX11_init_157 : zAl zX11_init 157 0 158 := Or.inl ⟨0, rfl, by decide +kernel, rfl⟩
theorem iX11_init_158 : zCo zX11_init 158 (10) 160 := Or.inr (Or.inl ⟨10, by decide, by decide +kernel, rfl⟩)
theorem iX11_init_160 : zD zX11_init 160 2 (.newarray .int) 162 := ⟨by decide +kernel, rfl⟩
theorem iX11_init_162 : zPf zX11_init 162 11 22 (.array .int) 165 := ⟨72, _, _, _, zcf_11, by decide, by decide +kernel, rfl, zT4_of (i := 173) rfl rfl, by decide +kernel, Or.inr ⟨rfl, rfl, rfl⟩⟩
theorem iX11_init_165 : zAl zX11_init 165 0 166 := Or.inl ⟨0, rfl, by decide +kernel, rfl⟩
theorem iX11_init_166 : zCo zX11_init 166 (960) 169 := Or.inr (Or.inr (Or.inl ⟨960, by decide, by decide +kernel, rfl⟩))
theorem iX11_init_169 : zD zX11_init 169 2 (.newarray .int) 171 := ⟨by decide +kernel, rfl⟩
theorem iX11_init_171 : zPf zX11_init 171 11 26 (.array .int) 174 := ⟨75, _, _, _, zcf_11, by decide, by decide +kernel, rfl, zT4_of (i := 177) rfl rfl, by decide +kernel, Or.inr ⟨rfl, rfl, rfl⟩⟩
theorem iX11_init_174 : zAl zX11_init 174 0 175 := Or.inl ⟨0, rfl, by decide +kernel, rfl⟩
theorem iX11_init_175 : zCo zX11_init 175 (6) 177 := Or.inr (Or.inl ⟨6, by decide, by decide +kernel, rfl⟩)
theorem iX11_init_177 : zD zX11_init 177 2 (.newarray .int) 179 := ⟨by decide +kernel, rfl⟩
theorem iX11_init_179 : zPf zX11_init 179 11 27 (.array .int) 182 := ⟨78, _, _, _, zcf_11, by decide, by decide +kernel, rfl, zT4_of (i := 178) rfl rfl, by decide +kernel, Or.inr ⟨rfl, rfl, rfl⟩⟩
theorem iX11_init_182 : zAl zX11_init 182 0 183 := Or.inl ⟨0, rfl, by decide +kernel, rfl⟩
theorem iX11_init_183 : zCo zX11_init 183 (160) 186 := Or.inr (Or.inr (Or.inl ⟨160, by decide, by decide +kernel, rfl⟩))
theorem iX11_init_186 : zD zX11_init 186 2 (.newarray .int) 188 := ⟨by decide +kernel, rfl⟩
theorem iX11_init_188 : zPf zX11_init 188 11 30 (.array .int) 191 := ⟨81, _, _, _, zcf_11, by decide, by decide +kernel, rfl, zT4_of (i := 181) rfl rfl, by decide +kernel, Or.inr ⟨rfl, rfl, rfl⟩⟩
theorem iX11_init_191 : zAl zX11_init 191 0 192 := Or.inl ⟨0, rfl, by decide +kernel, rfl⟩
theorem iX11_init_192 : zCo zX11_init 192 (3) 193 := Or.inl ⟨3, by decide, by decide +kernel, rfl⟩
theorem iX11_init_193 : zD zX11_init 193 2 (.newarray .int) 195 := ⟨by decide +kernel, rfl⟩
theorem iX11_init_195 : zPf zX11_init 195 11 48 (.array .int) 198 := ⟨84, _, _, _, zcf_11, by decide, by decide +kernel, rfl, zT4_of (i := 199) rfl rfl, by decide +kernel, Or.inr ⟨rfl, rfl, rfl⟩⟩
theorem iX11_init_198 : zAl zX11_init 198 0 199 := Or.inl ⟨0, rfl, by decide +kernel, rfl⟩
theorem iX11_init_199 : zCo zX11_init 199 (3) 200 := Or.inl ⟨3, by decide, by decide +kernel, rfl⟩
theorem iX11_init_200 : zD zX11_init 200 2 (.newarray .int) 202 := ⟨by decide +kernel, rfl⟩
theorem iX11_init_202 : zPf zX11_init 202 11 49 (.array .int) 205 := ⟨87, _, _, _, zcf_11, by decide, by decide +kernel, rfl, zT4_of (i := 200) rfl rfl, by decide +kernel, Or.inr ⟨rfl, rfl, rfl⟩⟩
theorem iX11_init_205 : zAl zX11_init 205 0 206 := Or.inl ⟨0, rfl, by decide +kernel, rfl⟩
theorem iX11_init_206 : zCo zX11_init 206 (48) 208 := Or.inr (Or.inl ⟨48, by decide, by decide +kernel, rfl⟩)
theorem iX11_init_208 : zD zX11_init 208 2 (.newarray .int) 210 := ⟨by decide +kernel, rfl⟩
theorem iX11_init_210 : zD zX11_init 210 1 (.dup) 211 := ⟨by decide +kernel, rfl⟩
theorem iX11_init_211 : zCo zX11_init 211 (0) 212 := Or.inl ⟨0, by decide, by decide +kernel, rfl⟩
theorem iX11_init_212 : zCo zX11_init 212 (-1) 213 := Or.inl ⟨-1, by decide, by decide +kernel, rfl⟩
theorem iX11_init_213 : zD zX11_init 213 1 (.iastore) 214 := ⟨by decide +kernel, rfl⟩
theorem iX11_init_214 : zD zX11_init 214 1 (.dup) 215 := ⟨by decide +kernel, rfl⟩
theorem iX11_init_215 : zCo zX11_init 215 (1) 216 := Or.inl ⟨1, by decide, by decide +kernel, rfl⟩
theorem iX11_init_216 : zCo zX11_init 216 (-1) 217 := Or.inl ⟨-1, by decide, by decide +kernel, rfl⟩
theorem iX11_init_217 : zD zX11_init 217 1 (.iastore) 218 := ⟨by decide +kernel, rfl⟩
theorem iX11_init_218 : zD zX11_init 218 1 (.dup) 219 := ⟨by decide +kernel, rfl⟩
theorem iX11_init_219 : zCo zX11_init 219 (2) 220 := Or.inl ⟨2, by decide, by decide +kernel, rfl⟩
theorem iX11_init_220 : zCo zX11_init 220 (-1) 221 := Or.inl ⟨-1, by decide, by decide +kernel, rfl⟩
theorem iX11_init_221 : zD zX11_init 221 1 (.iastore) 222 := ⟨by decide +kernel, rfl⟩
theorem iX11_init_222 : zD zX11_init 222 1 (.dup) 223 := ⟨by decide +kernel, rfl⟩
theorem iX11_init_223 : zCo zX11_init 223 (3) 224 := Or.inl ⟨3, by decide, by decide +kernel, rfl⟩
theorem iX11_init_224 : zCo zX11_init 224 (-1) 225 := Or.inl ⟨-1, by decide, by decide +kernel, rfl⟩
theorem iX11_init_225 : zD zX11_init 225 1 (.iastore) 226 := ⟨by decide +kernel, rfl⟩
theorem iX11_init_226 : zD zX11_init 226 1 (.dup) 227 := ⟨by decide +kernel, rfl⟩
theorem iX11_init_227 : zCo zX11_init 227 (4) 228 := Or.inl ⟨4, by decide, by decide +kernel, rfl⟩
theorem iX11_init_228 : zCo zX11_init 228 (-1) 229 := Or.inl ⟨-1, by decide, by decide +kernel, rfl⟩
theorem iX11_init_229 : zD zX11_init 229 1 (.iastore) 230 := ⟨by decide +kernel, rfl⟩
theorem iX11_init_230 : zD zX11_init 230 1 (.dup) 231 := ⟨by decide +kernel, rfl⟩
theorem iX11_init_231 : zCo zX11_init 231 (5) 232 := Or.inl ⟨5, by decide, by decide +kernel, rfl⟩
theorem iX11_init_232 : zCo zX11_init 232 (-1) 233 := Or.inl ⟨-1, by decide, by decide +kernel, rfl⟩
theorem iX11_init_233 : zD zX11_init 233 1 (.iastore) 234 := ⟨by decide +kernel, rfl⟩
theorem iX11_init_234 : zD zX11_init 234 1 (.dup) 235 := ⟨by decide +kernel, rfl⟩
theorem iX11_init_235 : zCo zX11_init 235 (6) 237 := Or.inr (Or.inl ⟨6, by decide, by decide +kernel, rfl⟩)
theorem iX11_init_237 : zCo zX11_init 237 (-1) 238 := Or.inl ⟨-1, by decide, by decide +kernel, rfl⟩
theorem iX11_init_238 : zD zX11_init 238 1 (.iastore) 239 := ⟨by decide +kernel, rfl⟩
theorem iX11_init_239 : zD zX11_init 239 1 (.dup) 240 := ⟨by decide +kernel, rfl⟩
theorem iX11_init_240 : zCo zX11_init 240 (7) 242 := Or.inr (Or.inl ⟨7, by decide, by decide +kernel, rfl⟩)
theorem iX11_init_242 : zCo zX11_init 242 (-1) 243 := Or.inl ⟨-1, by decide, by decide +kernel, rfl⟩
theorem iX11_init_243 : zD zX11_init 243 1 (.iastore) 244 := ⟨by decide +kernel, rfl⟩
theorem iX11_init_244 : zD zX11_init 244 1 (.dup) 245 := ⟨by decide +kernel, rfl⟩
theorem iX11_init_245 : zCo zX11_init 245 (8) 247 := Or.inr (Or.inl ⟨8, by decide, by decide +kernel, rfl⟩)
theorem iX11_init_247 : zCo zX11_init 247 (-1) 248 := Or.inl ⟨-1, by decide, by decide +kernel, rfl⟩
theorem iX11_init_248 : zD zX11_init 248 1 (.iastore) 249 := ⟨by decide +kernel, rfl⟩
theorem iX11_init_249 : zD zX11_init 249 1 (.dup) 250 := ⟨by decide +kernel, rfl⟩
theorem iX11_init_250 : zCo zX11_init 250 (9) 252 := Or.inr (Or.inl ⟨9, by decide, by decide +kernel, rfl⟩)
theorem iX11_init_252 : zCo zX11_init 252 (-1) 253 := Or.inl ⟨-1, by decide, by decide +kernel, rfl⟩
theorem iX11_init_253 : zD zX11_init 253 1 (.iastore) 254 := ⟨by decide +kernel, rfl⟩
theorem iX11_init_254 : zD zX11_init 254 1 (.dup) 255 := ⟨by decide +kernel, rfl⟩
theorem iX11_init_255 : zCo zX11_init 255 (10) 257 := Or.inr (Or.inl ⟨10, by decide, by decide +kernel, rfl⟩)
theorem iX11_init_257 : zCo zX11_init 257 (-1) 258 := Or.inl ⟨-1, by decide, by decide +kernel, rfl⟩
theorem iX11_init_258 : zD zX11_init 258 1 (.iastore) 259 := ⟨by decide +kernel, rfl⟩
theorem iX11_init_259 : zD zX11_init 259 1 (.dup) 260 := ⟨by decide +kernel, rfl⟩
theorem iX11_init_260 : zCo zX11_init 260 (11) 262 := Or.inr (Or.inl ⟨11, by decide, by decide +kernel, rfl⟩)
theorem iX11_init_262 : zCo zX11_init 262 (-1) 263 := Or.inl ⟨-1, by decide, by decide +kernel, rfl⟩
theorem iX11_init_263 : zD zX11_init 263 1 (.iastore) 264 := ⟨by decide +kernel, rfl⟩
theorem iX11_init_264 : zD zX11_init 264 1 (.dup) 265 := ⟨by decide +kernel, rfl⟩
theorem iX11_init_265 : zCo zX11_init 265 (12) 267 := Or.inr (Or.inl ⟨12, by decide, by decide +kernel, rfl⟩)
theorem iX11_init_267 : zCo zX11_init 267 (-1) 268 := Or.inl ⟨-1, by decide, by decide +kernel, rfl⟩
theorem iX11_init_268 : zD zX11_init 268 1 (.iastore) 269 := ⟨by decide +kernel, rfl⟩
theorem iX11_init_269 : zD zX11_init 269 1 (.dup) 270 := ⟨by decide +kernel, rfl⟩
theorem iX11_init_270 : zCo zX11_init 270 (13) 272 := Or.inr (Or.inl ⟨13, by decide, by decide +kernel, rfl⟩)
theorem iX11_init_272 : zCo zX11_init 272 (-1) 273 := Or.inl ⟨-1, by decide, by decide +kernel, rfl⟩
theorem iX11_init_273 : zD zX11_init 273 1 (.iastore) 274 := ⟨by decide +kernel, rfl⟩
theorem iX11_init_274 : zD zX11_init 274 1 (.dup) 275 := ⟨by decide +kernel, rfl⟩
theorem iX11_init_275 : zCo zX11_init 275 (14) 277 := Or.inr (Or.inl ⟨14, by decide, by decide +kernel, rfl⟩)
theorem iX11_init_277 : zCo zX11_init 277 (-1) 278 := Or.inl ⟨-1, by decide, by decide +kernel, rfl⟩
theorem iX11_init_278 : zD zX11_init 278 1 (.iastore) 279 := ⟨by decide +kernel, rfl⟩
theorem iX11_init_279 : zD zX11_init 279 1 (.dup) 280 := ⟨by decide +kernel, rfl⟩
theorem iX11_init_280 : zCo zX11_init 280 (15) 282 := Or.inr (Or.inl ⟨15, by decide, by decide +kernel, rfl⟩)
theorem iX11_init_282 : zCo zX11_init 282 (-1) 283 := Or.inl ⟨-1, by decide, by decide +kernel, rfl⟩
theorem iX11_init_283 : zD zX11_init 283 1 (.iastore) 284 := ⟨by decide +kernel, rfl⟩
theorem iX11_init_284 : zD zX11_init 284 1 (.dup) 285 := ⟨by decide +kernel, rfl⟩
theorem iX11_init_285 : zCo zX11_init 285 (16) 287 := Or.inr (Or.inl ⟨16, by decide, by decide +kernel, rfl⟩)
theorem iX11_init_287 : zCo zX11_init 287 (-1) 288 := Or.inl ⟨-1, by decide, by decide +kernel, rfl⟩
theorem iX11_init_288 : zD zX11_init 288 1 (.iastore) 289 := ⟨by decide +kernel, rfl⟩
theorem iX11_init_289 : zD zX11_init 289 1 (.dup) 290 := ⟨by decide +kernel, rfl⟩
theorem iX11_init_290 : zCo zX11_init 290 (17) 292 := Or.inr (Or.inl ⟨17, by decide, by decide +kernel, rfl⟩)
theorem iX11_init_292 : zCo zX11_init 292 (-1) 293 := Or.inl ⟨-1, by decide, by decide +kernel, rfl⟩
theorem iX11_init_293 : zD zX11_init 293 1 (.iastore) 294 := ⟨by decide +kernel, rfl⟩
theorem iX11_init_294 : zD zX11_init 294 1 (.dup) 295 := ⟨by decide +kernel, rfl⟩
theorem iX11_init_295 : zCo zX11_init 295 (18) 297 := Or.inr (Or.inl ⟨18, by decide, by decide +kernel, rfl⟩)
theorem iX11_init_297 : zCo zX11_init 297 (-1) 298 := Or.inl ⟨-1, by decide, by decide +kernel, rfl⟩
theorem iX11_init_298 : zD zX11_init 298 1 (.iastore) 299 := ⟨by decide +kernel, rfl⟩
theorem iX11_init_299 : zD zX11_init 299 1 (.dup) 300 := ⟨by decide +kernel, rfl⟩
theorem iX11_init_300 : zCo zX11_init 300 (19) 302 := Or.inr (Or.inl ⟨19, by decide, by decide +kernel, rfl⟩)
theorem iX11_init_302 : zCo zX11_init 302 (-1) 303 := Or.inl ⟨-1, by decide, by decide +kernel, rfl⟩
theorem iX11_init_303 : zD zX11_init 303 1 (.iastore) 304 := ⟨by decide +kernel, rfl⟩
theorem iX11_init_304 : zD zX11_init 304 1 (.dup) 305 := ⟨by decide +kernel, rfl⟩
theorem iX11_init_305 : zCo zX11_init 305 (20) 307 := Or.inr (Or.inl ⟨20, by decide, by decide +kernel, rfl⟩)
theorem iX11_init_307 : zCo zX11_init 307 (-1) 308 := Or.inl ⟨-1, by decide, by decide +kernel, rfl⟩
theorem iX11_init_308 : zD zX11_init 308 1 (.iastore) 309 := ⟨by decide +kernel, rfl⟩
theorem iX11_init_309 : zD zX11_init 309 1 (.dup) 310 := ⟨by decide +kernel, rfl⟩
theorem iX11_init_310 : zCo zX11_init 310 (21) 312 := Or.inr (Or.inl ⟨21, by decide, by decide +kernel, rfl⟩)
theorem iX11_init_312 : zCo zX11_init 312 (-1) 313 := Or.inl ⟨-1, by decide, by decide +kernel, rfl⟩
theorem iX11_init_313 : zD zX11_init 313 1 (.iastore) 314 := ⟨by decide +kernel, rfl⟩
theorem iX11_init_314 : zD zX11_init 314 1 (.dup) 315 := ⟨by decide +kernel, rfl⟩
theorem iX11_init_315 : zCo zX11_init 315 (22) 317 := Or.inr (Or.inl ⟨22, by decide, by decide +kernel, rfl⟩)
theorem iX11_init_317 : zCo zX11_init 317 (-1) 318 := Or.inl ⟨-1, by decide, by decide +kernel, rfl⟩
theorem iX11_init_318 : zD zX11_init 318 1 (.iastore) 319 := ⟨by decide +kernel, rfl⟩
theorem iX11_init_319 : zD zX11_init 319 1 (.dup) 320 := ⟨by decide +kernel, rfl⟩
theorem iX11_init_320 : zCo zX11_init 320 (23) 322 := Or.inr (Or.inl ⟨23, by decide, by decide +kernel, rfl⟩)
theorem iX11_init_322 : zCo zX11_init 322 (-1) 323 := Or.inl ⟨-1, by decide, by decide +kernel, rfl⟩
theorem iX11_init_323 : zD zX11_init 323 1 (.iastore) 324 := ⟨by decide +kernel, rfl⟩
theorem iX11_init_324 : zD zX11_init 324 1 (.dup) 325 := ⟨by decide +kernel, rfl⟩
theorem iX11_init_325 : zCo zX11_init 325 (24) 327 := Or.inr (Or.inl ⟨24, by decide, by decide +kernel, rfl⟩)
theorem iX11_init_327 : zCo zX11_init 327 (-1) 328 := Or.inl ⟨-1, by decide, by decide +kernel, rfl⟩
theorem iX11_init_328 : zD zX11_init 328 1 (.iastore) 329 := ⟨by decide +kernel, rfl⟩
theorem iX11_init_329 : zD zX11_init 329 1 (.dup) 330 := ⟨by decide +kernel, rfl⟩
theorem iX11_init_330 : zCo zX11_init 330 (25) 332 := Or.inr (Or.inl ⟨25, by decide, by decide +kernel, rfl⟩)
theorem iX11_init_332 : zCo zX11_init 332 (-1) 333 := Or.inl ⟨-1, by decide, by decide +kernel, rfl⟩
theorem iX11_init_333 : zD zX11_init 333 1 (.iastore) 334 := ⟨by decide +kernel, rfl⟩
theorem iX11_init_334 : zD zX11_init 334 1 (.dup) 335 := ⟨by decide +kernel, rfl⟩
theorem iX11_init_335 : zCo zX11_init 335 (26) 337 := Or.inr (Or.inl ⟨26, by decide, by decide +kernel, rfl⟩)
theorem iX11_init_337 : zCo zX11_init 337 (-1) 338 := Or.inl ⟨-1, by decide, by decide +kernel, rfl⟩
theorem iX11_init_338 : zD zX11_init 338 1 (.iastore) 339 := ⟨by decide +kernel, rfl⟩
theorem iX11_init_339 : zD zX11_init 339 1 (.dup) 340 := ⟨by decide +kernel, rfl⟩
theorem iX11_init_340 : zCo zX11_init 340 (27) 342 := Or.inr (Or.inl ⟨27, by decide, by decide +kernel, rfl⟩)
theorem iX11_init_342 : zCo zX11_init 342 (-1) 343 := Or.inl ⟨-1, by decide, by decide +kernel, rfl⟩
theorem iX11_init_343 : zD zX11_init 343 1 (.iastore) 344 := ⟨by decide +kernel, rfl⟩
theorem iX11_init_344 : zD zX11_init 344 1 (.dup) 345 := ⟨by decide +kernel, rfl⟩
theorem iX11_init_345 : zCo zX11_init 345 (28) 347 := Or.inr (Or.inl ⟨28, by decide, by decide +kernel, rfl⟩)
theorem iX11_init_347 : zCo zX11_init 347 (-1) 348 := Or.inl ⟨-1, by decide, by decide +kernel, rfl⟩
theorem iX11_init_348 : zD zX11_init 348 1 (.iastore) 349 := ⟨by decide +kernel, rfl⟩
theorem iX11_init_349 : zD zX11_init 349 1 (.dup) 350 := ⟨by decide +kernel, rfl⟩
theorem iX11_init_350 : zCo zX11_init 350 (29) 352 := Or.inr (Or.inl ⟨29, by decide, by decide +kernel, rfl⟩)
theorem iX11_init_352 : zCo zX11_init 352 (-1) 353 := Or.inl ⟨-1, by decide, by decide +kernel, rfl⟩
theorem iX11_init_353 : zD zX11_init 353 1 (.iastore) 354 := ⟨by decide +kernel, rfl⟩
theorem iX11_init_354 : zD zX11_init 354 1 (.dup) 355 := ⟨by decide +kernel, rfl⟩
theorem iX11_init_355 : zCo zX11_init 355 (30) 357 := Or.inr (Or.inl ⟨30, by decide, by decide +kernel, rfl⟩)
theorem iX11_init_357 : zCo zX11_init 357 (-1) 358 := Or.inl ⟨-1, by decide, by decide +kernel, rfl⟩
theorem iX11_init_358 : zD zX11_init 358 1 (.iastore) 359 := ⟨by decide +kernel, rfl⟩
theorem iX11_init_359 : zD zX11_init 359 1 (.dup) 360 := ⟨by decide +kernel, rfl⟩
theorem iX11_init_360 : zCo zX11_init 360 (31) 362 := Or.inr (Or.inl ⟨31, by decide, by decide +kernel, rfl⟩)
theorem iX11_init_362 : zCo zX11_init 362 (-1) 363 := Or.inl ⟨-1, by decide, by decide +kernel, rfl⟩
theorem iX11_init_363 : zD zX11_init 363 1 (.iastore) 364 := ⟨by decide +kernel, rfl⟩
theorem iX11_init_364 : zD zX11_init 364 1 (.dup) 365 := ⟨by decide +kernel, rfl⟩
theorem iX11_init_365 : zCo zX11_init 365 (32) 367 := Or.inr (Or.inl ⟨32, by decide, by decide +kernel, rfl⟩)
theorem iX11_init_367 : zCo zX11_init 367 (-1) 368 := Or.inl ⟨-1, by decide, by decide +kernel, rfl⟩
theorem iX11_init_368 : zD zX11_init 368 1 (.iastore) 369 := ⟨by decide +kernel, rfl⟩
theorem iX11_init_369 : zD zX11_init 369 1 (.dup) 370 := ⟨by decide +kernel, rfl⟩
theorem iX11_init_370 : zCo zX11_init 370 (33) 372 := Or.inr (Or.inl ⟨33, by decide, by decide +kernel, rfl⟩)
theorem iX11_init_372 : zCo zX11_init 372 (-1) 373 := Or.inl ⟨-1, by decide, by decide +kernel, rfl⟩
theorem iX11_init_373 : zD zX11_init 373 1 (.iastore) 374 := ⟨by decide +kernel, rfl⟩
theorem iX11_init_374 : zD zX11_init 374 1 (.dup) 375 := ⟨by decide +kernel, rfl⟩
theorem iX11_init_375 : zCo zX11_init 375 (34) 377 := Or.inr (Or.inl ⟨34, by decide, by decide +kernel, rfl⟩)
theorem iX11_init_377 : zCo zX11_init 377 (-1) 378 := Or.inl ⟨-1, by decide, by decide +kernel, rfl⟩
theorem iX11_init_378 : zD zX11_init 378 1 (.iastore) 379 := ⟨by decide +kernel, rfl⟩
theorem iX11_init_379 : zD zX11_init 379 1 (.dup) 380 := ⟨by decide +kernel, rfl⟩
theorem iX11_init_380 : zCo zX11_init 380 (35) 382 := Or.inr (Or.inl ⟨35, by decide, by decide +kernel, rfl⟩)
theorem iX11_init_382 : zCo zX11_init 382 (-1) 383 := Or.inl ⟨-1, by decide, by decide +kernel, rfl⟩
theorem iX11_init_383 : zD zX11_init 383 1 (.iastore) 384 := ⟨by decide +kernel, rfl⟩
theorem iX11_init_384 : zD zX11_init 384 1 (.dup) 385 := ⟨by decide +kernel, rfl⟩
theorem iX11_init_385 : zCo zX11_init 385 (36) 387 := Or.inr (Or.inl ⟨36, by decide, by decide +kernel, rfl⟩)
theorem iX11_init_387 : zCo zX11_init 387 (-1) 388 := Or.inl ⟨-1, by decide, by decide +kernel, rfl⟩
theorem iX11_init_388 : zD zX11_init 388 1 (.iastore) 389 := ⟨by decide +kernel, rfl⟩
theorem iX11_init_389 : zD zX11_init 389 1 (.dup) 390 := ⟨by decide +kernel, rfl⟩
theorem iX11_init_390 : zCo zX11_init 390 (37) 392 := Or.inr (Or.inl ⟨37, by decide, by decide +kernel, rfl⟩)
theorem iX11_init_392 : zCo zX11_init 392 (-1) 393 := Or.inl ⟨-1, by decide, by decide +kernel, rfl⟩
theorem iX11_init_393 : zD zX11_init 393 1 (.iastore) 394 := ⟨by decide +kernel, rfl⟩
theorem iX11_init_394 : zD zX11_init 394 1 (.dup) 395 := ⟨by decide +kernel, rfl⟩
theorem iX11_init_395 : zCo zX11_init 395 (38) 397 := Or.inr (Or.inl ⟨38, by decide, by decide +kernel, rfl⟩)
theorem iX11_init_397 : zCo zX11_init 397 (-1) 398 := Or.inl ⟨-1, by decide, by decide +kernel, rfl⟩
theorem iX11_init_398 : zD zX11_init 398 1 (.iastore) 399 := ⟨by decide +kernel, rfl⟩
theorem iX11_init_399 : zD zX11_init 399 1 (.dup) 400 := ⟨by decide +kernel, rfl⟩
theorem iX11_init_400 : zCo zX11_init 400 (39) 402 := Or.inr (Or.inl ⟨39, by decide, by decide +kernel, rfl⟩)
theorem iX11_init_402 : zCo zX11_init 402 (-1) 403 := Or.inl ⟨-1, by decide, by decide +kernel, rfl⟩
theorem iX11_init_403 : zD zX11_init 403 1 (.iastore) 404 := ⟨by decide +kernel, rfl⟩
theorem iX11_init_404 : zD zX11_init 404 1 (.dup) 405 := ⟨by decide +kernel, rfl⟩
theorem iX11_init_405 : zCo zX11_init 405 (40) 407 := Or.inr (Or.inl ⟨40, by decide, by decide +kernel, rfl⟩)
theorem iX11_init_407 : zCo zX11_init 407 (-1) 408 := Or.inl ⟨-1, by decide, by decide +kernel, rfl⟩
theorem iX11_init_408 : zD zX11_init 408 1 (.iastore) 409 := ⟨by decide +kernel, rfl⟩
theorem iX11_init_409 : zD zX11_init 409 1 (.dup) 410 := ⟨by decide +kernel, rfl⟩
theorem iX11_init_410 : zCo zX11_init 410 (41) 412 := Or.inr (Or.inl ⟨41, by decide, by decide +kernel, rfl⟩)
theorem iX11_init_412 : zCo zX11_init 412 (-1) 413 := Or.inl ⟨-1, by decide, by decide +kernel, rfl⟩
theorem iX11_init_413 : zD zX11_init 413 1 (.iastore) 414 := ⟨by decide +kernel, rfl⟩
theorem iX11_init_414 : zD zX11_init 414 1 (.dup) 415 := ⟨by decide +kernel, rfl⟩
theorem iX11_init_415 : zCo zX11_init 415 (42) 417 := Or.inr (Or.inl ⟨42, by decide, by decide +kernel, rfl⟩)
theorem iX11_init_417 : zCo zX11_init 417 (-1) 418 := Or.inl ⟨-1, by decide, by decide +kernel, rfl⟩
theorem iX11_init_418 : zD zX11_init 418 1 (.iastore) 419 := ⟨by decide +kernel, rfl⟩
theorem iX11_init_419 : zD zX11_init 419 1 (.dup) 420 := ⟨by decide +kernel, rfl⟩
theorem iX11_init_420 : zCo zX11_init 420 (43) 422 := Or.inr (Or.inl ⟨43, by decide, by decide +kernel, rfl⟩)
theorem iX11_init_422 : zCo zX11_init 422 (-1) 423 := Or.inl ⟨-1, by decide, by decide +kernel, rfl⟩
theorem iX11_init_423 : zD zX11_init 423 1 (.iastore) 424 := ⟨by decide +kernel, rfl⟩
theorem iX11_init_424 : zD zX11_init 424 1 (.dup) 425 := ⟨by decide +kernel, rfl⟩
theorem iX11_init_425 : zCo zX11_init 425 (44) 427 := Or.inr (Or.inl ⟨44, by decide, by decide +kernel, rfl⟩)
theorem iX11_init_427 : zCo zX11_init 427 (-1) 428 := Or.inl ⟨-1, by decide, by decide +kernel, rfl⟩
theorem iX11_init_428 : zD zX11_init 428 1 (.iastore) 429 := ⟨by decide +kernel, rfl⟩
theorem iX11_init_429 : zD zX11_init 429 1 (.dup) 430 := ⟨by decide +kernel, rfl⟩
theorem iX11_init_430 : zCo zX11_init 430 (45) 432 := Or.inr (Or.inl ⟨45, by decide, by decide +kernel, rfl⟩)
theorem iX11_init_432 : zCo zX11_init 432 (-1) 433 := Or.inl ⟨-1, by decide, by decide +kernel, rfl⟩
theorem iX11_init_433 : zD zX11_init 433 1 (.iastore) 434 := ⟨by decide +kernel, rfl⟩
theorem iX11_init_434 : zD zX11_init 434 1 (.dup) 435 := ⟨by decide +kernel, rfl⟩
theorem iX11_init_435 : zCo zX11_init 435 (46) 437 := Or.inr (Or.inl ⟨46, by decide, by decide +kernel, rfl⟩)
theorem iX11_init_437 : zCo zX11_init 437 (-1) 438 := Or.inl ⟨-1, by decide, by decide +kernel, rfl⟩
theorem iX11_init_438 : zD zX11_init 438 1 (.iastore) 439 := ⟨by decide +kernel, rfl⟩
theorem iX11_init_439 : zD zX11_init 439 1 (.dup) 440 := ⟨by decide +kernel, rfl⟩
theorem iX11_init_440 : zCo zX11_init 440 (47) 442 := Or.inr (Or.inl ⟨47, by decide, by decide +kernel, rfl⟩)
theorem iX11_init_442 : zCo zX11_init 442 (-1) 443 := Or.inl ⟨-1, by decide, by decide +kernel, rfl⟩
theorem iX11_init_443 : zD zX11_init 443 1 (.iastore) 444 := ⟨by decide +kernel, rfl⟩
theorem iX11_init_444 : zPf zX11_init 444 11 50 (.array .int) 447 := ⟨90, _, _, _, zcf_11, by decide, by decide +kernel, rfl, zT4_of (i := 201) rfl rfl, by decide +kernel, Or.inr ⟨rfl, rfl, rfl⟩⟩
theorem iX11_init_447 : zAl zX11_init 447 0 448 := Or.inl ⟨0, rfl, by decide +kernel, rfl⟩
theorem iX11_init_448 : zCo zX11_init 448 (6) 450 := Or.inr (Or.inl ⟨6, by decide, by decide +kernel, rfl⟩)
theorem iX11_init_450 : zD zX11_init 450 2 (.newarray .int) 452 := ⟨by decide +kernel, rfl⟩
theorem iX11_init_452 : zPf zX11_init 452 11 52 (.array .int) 455 := ⟨93, _, _, _, zcf_11, by decide, by decide +kernel, rfl, zT4_of (i := 203) rfl rfl, by decide +kernel, Or.inr ⟨rfl, rfl, rfl⟩⟩
theorem iX11_init_455 : zAl zX11_init 455 0 456 := Or.inl ⟨0, rfl, by decide +kernel, rfl⟩
theorem iX11_init_456 : zCo zX11_init 456 (6) 458 := Or.inr (Or.inl ⟨6, by decide, by decide +kernel, rfl⟩)
theorem iX11_init_458 : zD zX11_init 458 2 (.newarray .int) 460 := ⟨by decide +kernel, rfl⟩
theorem iX11_init_460 : zPf zX11_init 460 11 53 (.array .int) 463 := ⟨96, _, _, _, zcf_11, by decide, by decide +kernel, rfl, zT4_of (i := 204) rfl rfl, by decide +kernel, Or.inr ⟨rfl, rfl, rfl⟩⟩
theorem iX11_init_463 : zAl zX11_init 463 0 464 := Or.inl ⟨0, rfl, by decide +kernel, rfl⟩
theorem iX11_init_464 : zCo zX11_init 464 (6) 466 := Or.inr (Or.inl ⟨6, by decide, by decide +kernel, rfl⟩)
theorem iX11_init_466 : zD zX11_init 466 2 (.newarray .int) 468 := ⟨by decide +kernel, rfl⟩
theorem iX11_init_468 : zPf zX11_init 468 11 54 (.array .int) 471 := ⟨99, _, _, _, zcf_11, by decide, by decide +kernel, rfl, zT4_of (i := 205) rfl rfl, by decide +kernel, Or.inr ⟨rfl, rfl, rfl⟩⟩
theorem iX11_init_471 : zAl zX11_init 471 0 472 := Or.inl ⟨0, rfl, by decide +kernel, rfl⟩
theorem iX11_init_472 : zCo zX11_init 472 (4) 473 := Or.inl ⟨4, by decide, by decide +kernel, rfl⟩
theorem iX11_init_473 : zD zX11_init 473 2 (.newarray .boolean) 475 := ⟨by decide +kernel, rfl⟩
theorem iX11_init_475 : zPf zX11_init 475 11 55 (.array .boolean) 478 := ⟨102, _, _, _, zcf_11, by decide, by decide +kernel, rfl, zT4_of (i := 206) rfl rfl, by decide +kernel, Or.inr ⟨rfl, rfl, rfl⟩⟩
theorem iX11_init_478 : zAl zX11_init 478 0 479 := Or.inl ⟨0, rfl, by decide +kernel, rfl⟩
theorem iX11_init_479 : zCo zX11_init 479 (4) 480 := Or.inl ⟨4, by decide, by decide +kernel, rfl⟩
theorem iX11_init_480 : zD zX11_init 480 2 (.newarray .int) 482 := ⟨by decide +kernel, rfl⟩
theorem iX11_init_482 : zPf zX11_init 482 11 56 (.array .int) 485 := ⟨106, _, _, _, zcf_11, by decide, by decide +kernel, rfl, zT4_of (i := 207) rfl rfl, by decide +kernel, Or.inr ⟨rfl, rfl, rfl⟩⟩
theorem iX11_init_485 : zAl zX11_init 485 0 486 := Or.inl ⟨0, rfl, by decide +kernel, rfl⟩
theorem iX11_init_486 : zCo zX11_init 486 (4) 487 := Or.inl ⟨4, by decide, by decide +kernel, rfl⟩
theorem iX11_init_487 : zD zX11_init 487 2 (.newarray .int) 489 := ⟨by decide +kernel, rfl⟩
theorem iX11_init_489 : zPf zX11_init 489 11 57 (.array .int) 492 := ⟨109, _, _, _, zcf_11, by decide, by decide +kernel, rfl, zT4_of (i := 208) rfl rfl, by decide +kernel, Or.inr ⟨rfl, rfl, rfl⟩⟩
theorem iX11_init_492 : zAl zX11_init 492 0 493 := Or.inl ⟨0, rfl, by decide +kernel, rfl⟩
theorem iX11_init_493 : zCo zX11_init 493 (160) 496 := Or.inr (Or.inr (Or.inl ⟨160, by decide, by decide +kernel, rfl⟩))
theorem iX11_init_496 : zD zX11_init 496 2 (.newarray .int) 498 := ⟨by decide +kernel, rfl⟩
theorem iX11_init_498 : zPf zX11_init 498 11 58 (.array .int) 501 := ⟨112, _, _, _, zcf_11, by decide, by decide +kernel, rfl, zT4_of (i := 209) rfl rfl, by decide +kernel, Or.inr ⟨rfl, rfl, rfl⟩⟩
theorem iX11_init_501 : zAl zX11_init 501 0 502 := Or.inl ⟨0, rfl, by decide +kernel, rfl⟩
theorem iX11_init_502 : zCo zX11_init 502 (0) 503 := Or.inl ⟨0, by decide, by decide +kernel, rfl⟩
theorem iX11_init_503 : zCL zX11_init 503 (8606223230244252006) 506 := Or.inr ⟨115, zT4_of (i := 139) rfl rfl, by decide +kernel, rfl⟩
theorem iX11_init_506 : zCl zX11_init 506 .invokevirtual zX11_spell 509 := ⟨117, by decide +kernel, rfl, Or.inl (zT4_of (i := 140) rfl rfl)⟩
theorem iX11_init_509 : zAl zX11_init 509 0 510 := Or.inl ⟨0, rfl, by decide +kernel, rfl⟩
theorem iX11_init_510 : zCo zX11_init 510 (8) 512 := Or.inr (Or.inl ⟨8, by decide, by decide +kernel, rfl⟩)
theorem iX11_init_512 : zCL zX11_init 512 (7294814852549393250) 515 := Or.inr ⟨121, zT4_of (i := 145) rfl rfl, by decide +kernel, rfl⟩
theorem iX11_init_515 : zCl zX11_init 515 .invokevirtual zX11_spell 518 := ⟨117, by decide +kernel, rfl, Or.inl (zT4_of (i := 140) rfl rfl)⟩
theorem iX11_init_518 : zAl zX11_init 518 0 519 := Or.inl ⟨0, rfl, by decide +kernel, rfl⟩
theorem iX11_init_519 : zCo zX11_init 519 (16) 521 := Or.inr (Or.inl ⟨16, by decide, by decide +kernel, rfl⟩)
theorem iX11_init_521 : zCL zX11_init 521 (8245927526122140976) 524 := Or.inr ⟨123, zT4_of (i := 146) rfl rfl, by decide +kernel, rfl⟩
theorem iX11_init_524 : zCl zX11_init 524 .invokevirtual zX11_spell 527 := ⟨117, by decide +kernel, rfl, Or.inl (zT4_of (i := 140) rfl rfl)⟩
theorem iX11_init_527 : zAl zX11_init 527 0 528 := Or.inl ⟨0, rfl, by decide +kernel, rfl⟩
theorem iX11_init_528 : zCo zX11_init 528 (24) 530 := Or.inr (Or.inl ⟨24, by decide, by decide +kernel, rfl⟩)
theorem iX11_init_530 : zCL zX11_init 530 (3475762368539208307) 533 := Or.inr ⟨125, zT4_of (i := 147) rfl rfl, by decide +kernel, rfl⟩
theorem iX11_init_533 : zCl zX11_init 533 .invokevirtual zX11_spell 536 := ⟨117, by decide +kernel, rfl, Or.inl (zT4_of (i := 140) rfl rfl)⟩
theorem iX11_init_536 : zAl zX11_init 536 0 537 := Or.inl ⟨0, rfl, by decide +kernel, rfl⟩
theorem iX11_init_537 : zCo zX11_init 537 (32) 539 := Or.inr (Or.inl ⟨32, by decide, by decide +kernel, rfl⟩)
theorem iX11_init_539 : zCL zX11_init 539 (8098990986063210597) 542 := Or.inr ⟨127, zT4_of (i := 148) rfl rfl, by decide +kernel, rfl⟩
theorem iX11_init_542 : zCl zX11_init 542 .invokevirtual zX11_spell 545 := ⟨117, by decide +kernel, rfl, Or.inl (zT4_of (i := 140) rfl rfl)⟩
theorem iX11_init_545 : zAl zX11_init 545 0 546 := Or.inl ⟨0, rfl, by decide +kernel, rfl⟩
theorem iX11_init_546 : zCo zX11_init 546 (40) 548 := Or.inr (Or.inl ⟨40, by decide, by decide +kernel, rfl⟩)
theorem iX11_init_548 : zCL zX11_init 548 (7163855307962147945) 551 := Or.inr ⟨129, zT4_of (i := 149) rfl rfl, by decide +kernel, rfl⟩
theorem iX11_init_551 : zCl zX11_init 551 .invokevirtual zX11_spell 554 := ⟨117, by decide +kernel, rfl, Or.inl (zT4_of (i := 140) rfl rfl)⟩
theorem iX11_init_554 : zAl zX11_init 554 0 555 := Or.inl ⟨0, rfl, by decide +kernel, rfl⟩
theorem iX11_init_555 : zCo zX11_init 555 (48) 557 := Or.inr (Or.inl ⟨48, by decide, by decide +kernel, rfl⟩)
theorem iX11_init_557 : zCL zX11_init 557 (7955394811298408814) 560 := Or.inr ⟨131, zT4_of (i := 150) rfl rfl, by decide +kernel, rfl⟩
theorem iX11_init_560 : zCl zX11_init 560 .invokevirtual zX11_spell 563 := ⟨117, by decide +kernel, rfl, Or.inl (zT4_of (i := 140) rfl rfl)⟩
theorem iX11_init_563 : zAl zX11_init 563 0 564 := Or.inl ⟨0, rfl, by decide +kernel, rfl⟩
theorem iX11_init_564 : zCo zX11_init 564 (56) 566 := Or.inr (Or.inl ⟨56, by decide, by decide +kernel, rfl⟩)
theorem iX11_init_566 : zCL zX11_init 566 (7020050928327729184) 569 := Or.inr ⟨133, zT4_of (i := 151) rfl rfl, by decide +kernel, rfl⟩
theorem iX11_init_569 : zCl zX11_init 569 .invokevirtual zX11_spell 572 := ⟨117, by decide +kernel, rfl, Or.inl (zT4_of (i := 140) rfl rfl)⟩
theorem iX11_init_572 : zAl zX11_init 572 0 573 := Or.inl ⟨0, rfl, by decide +kernel, rfl⟩
theorem iX11_init_573 : zGf zX11_init 573 11 27 576 := ⟨78, _, _, _, zcf_11, by decide, by decide +kernel, rfl, zT4_of (i := 178) rfl rfl⟩
theorem iX11_init_576 : zCo zX11_init 576 (0) 577 := Or.inl ⟨0, by decide, by decide +kernel, rfl⟩
theorem iX11_init_577 : zCo zX11_init 577 (64) 579 := Or.inr (Or.inl ⟨64, by decide, by decide +kernel, rfl⟩)
theorem iX11_init_579 : zD zX11_init 579 1 (.iastore) 580 := ⟨by decide +kernel, rfl⟩
theorem iX11_init_580 : zAl zX11_init 580 0 581 := Or.inl ⟨0, rfl, by decide +kernel, rfl⟩
theorem iX11_init_581 : zCo zX11_init 581 (1) 582 := Or.inl ⟨1, by decide, by decide +kernel, rfl⟩
theorem iX11_init_582 : zPf zX11_init 582 11 28 .int 585 := ⟨135, _, _, _, zcf_11, by decide, by decide +kernel, rfl, zT4_of (i := 179) rfl rfl, by decide +kernel, Or.inl rfl⟩
theorem iX11_init_585 : zD zX11_init 585 1 (.return_) 586 := ⟨by decide +kernel, rfl⟩
theorem iX11_spell_0 : zCo zX11_spell 0 (0) 1 := Or.inl ⟨0, by decide, by decide +kernel, rfl⟩
theorem iX11_spell_1 : zIs zX11_spell 1 4 3 := ⟨by decide, Or.inr ⟨by decide +kernel, rfl⟩⟩
theorem iX11_spell_3 : zIl zX11_spell 3 4 5 := Or.inr ⟨by decide +kernel, rfl⟩
theorem iX11_spell_5 : zCo zX11_spell 5 (8) 7 := Or.inr (Or.inl ⟨8, by decide, by decide +kernel, rfl⟩)
theorem iX11_spell_7 : zB zX11_spell 7 (.if_icmp .ge) 10 40 := ⟨33, by decide +kernel, rfl, by decide⟩
theorem iX11_spell_10 : zAl zX11_spell 10 0 11 := Or.inl ⟨0, rfl, by decide +kernel, rfl⟩
theorem iX11_spell_11 : zGf zX11_spell 11 11 26 14 := ⟨75, _, _, _, zcf_11, by decide, by decide +kernel, rfl, zT4_of (i := 177) rfl rfl⟩
theorem iX11_spell_14 : zIl zX11_spell 14 1 15 := Or.inl ⟨1, rfl, by decide +kernel, rfl⟩
theorem iX11_spell_15 : zIl zX11_spell 15 4 17 := Or.inr ⟨by decide +kernel, rfl⟩
theorem iX11_spell_17 : zD zX11_spell 17 1 (.iadd) 18 := ⟨by decide +kernel, rfl⟩
theorem iX11_spell_18 : zLl zX11_spell 18 2 19 := Or.inl ⟨2, rfl, by decide +kernel, rfl⟩
theorem iX11_spell_19 : zCo zX11_spell 19 (56) 21 := Or.inr (Or.inl ⟨56, by decide, by decide +kernel, rfl⟩)
theorem iX11_spell_21 : zCo zX11_spell 21 (8) 23 := Or.inr (Or.inl ⟨8, by decide, by decide +kernel, rfl⟩)
theorem iX11_spell_23 : zIl zX11_spell 23 4 25 := Or.inr ⟨by decide +kernel, rfl⟩
theorem iX11_spell_25 : zD zX11_spell 25 1 (.imul) 26 := ⟨by decide +kernel, rfl⟩
theorem iX11_spell_26 : zD zX11_spell 26 1 (.isub) 27 := ⟨by decide +kernel, rfl⟩
theorem iX11_spell_27 : zD zX11_spell 27 1 (.lshr) 28 := ⟨by decide +kernel, rfl⟩
theorem iX11_spell_28 : zCL zX11_spell 28 (255) 31 := Or.inr ⟨138, zT4_of (i := 144) rfl rfl, by decide +kernel, rfl⟩
theorem iX11_spell_31 : zD zX11_spell 31 1 (.land) 32 := ⟨by decide +kernel, rfl⟩
theorem iX11_spell_32 : zD zX11_spell 32 1 (.l2i) 33 := ⟨by decide +kernel, rfl⟩
theorem iX11_spell_33 : zD zX11_spell 33 1 (.iastore) 34 := ⟨by decide +kernel, rfl⟩
theorem iX11_spell_34 : zIn zX11_spell 34 4 (1) 37 := ⟨by decide, 1, by decide, by decide +kernel, rfl⟩
theorem iX11_spell_37 : zB zX11_spell 37 .goto 40 3 := ⟨-34, by decide +kernel, rfl, by decide⟩
theorem iX11_spell_40 : zD zX11_spell 40 1 (.return_) 41 := ⟨by decide +kernel, rfl⟩
theorem iX11_isEdge_0 : zIl zX11_isEdge 0 1 1 := Or.inl ⟨1, rfl, by decide +kernel, rfl⟩
theorem iX11_isEdge_1 : zCo zX11_isEdge 1 (0) 2 := Or.inl ⟨0, by decide, by decide +kernel, rfl⟩
theorem iX11_isEdge_2 : zAl zX11_isEdge 2 0 3 := Or.inl ⟨0, rfl, by decide +kernel, rfl⟩
theorem iX11_isEdge_3 : zGf zX11_isEdge 3 11 1 6 := ⟨140, _, _, _, zcf_11, by decide, by decide +kernel, rfl, zT4_of (i := 152) rfl rfl⟩
theorem iX11_isEdge_6 : zCo zX11_isEdge 6 (1) 7 := Or.inl ⟨1, by decide, by decide +kernel, rfl⟩
theorem iX11_isEdge_7 : zD zX11_isEdge 7 1 (.isub) 8 := ⟨by decide +kernel, rfl⟩
theorem iX11_isEdge_8 : zCl zX11_isEdge 8 .invokestatic zX11_in 11 := ⟨143, by decide +kernel, rfl, Or.inl (zT5_of (i := 95) rfl rfl)⟩
theorem iX11_isEdge_11 : zD zX11_isEdge 11 1 (.ireturn) 12 := ⟨by decide +kernel, rfl⟩
theorem iX11_hasCorners_0 : zIl zX11_hasCorners 0 0 1 := Or.inl ⟨0, rfl, by decide +kernel, rfl⟩
theorem iX11_hasCorners_1 : zCo zX11_hasCorners 1 (1) 2 := Or.inl ⟨1, by decide, by decide +kernel, rfl⟩
theorem iX11_hasCorners_2 : zB zX11_hasCorners 2 (.if_icmp .eq) 5 15 := ⟨13, by decide +kernel, rfl, by decide⟩
theorem iX11_hasCorners_5 : zIl zX11_hasCorners 5 0 6 := Or.inl ⟨0, rfl, by decide +kernel, rfl⟩
theorem iX11_hasCorners_6 : zCo zX11_hasCorners 6 (2) 7 := Or.inl ⟨2, by decide, by decide +kernel, rfl⟩
theorem iX11_hasCorners_7 : zB zX11_hasCorners 7 (.if_icmp .eq) 10 15 := ⟨8, by decide +kernel, rfl, by decide⟩
theorem iX11_hasCorners_10 : zIl zX11_hasCorners 10 0 11 := Or.inl ⟨0, rfl, by decide +kernel, rfl⟩
theorem iX11_hasCorners_11 : zCo zX11_hasCorners 11 (5) 12 := Or.inl ⟨5, by decide, by decide +kernel, rfl⟩
theorem iX11_hasCorners_12 : zB zX11_hasCorners 12 (.if_icmp .ne) 15 19 := ⟨7, by decide +kernel, rfl, by decide⟩
theorem iX11_hasCorners_15 : zCo zX11_hasCorners 15 (1) 16 := Or.inl ⟨1, by decide, by decide +kernel, rfl⟩
theorem iX11_hasCorners_16 : zB zX11_hasCorners 16 .goto 19 20 := ⟨4, by decide +kernel, rfl, by decide⟩
theorem iX11_hasCorners_19 : zCo zX11_hasCorners 19 (0) 20 := Or.inl ⟨0, by decide, by decide +kernel, rfl⟩
theorem iX11_hasCorners_20 : zD zX11_hasCorners 20 1 (.ireturn) 21 := ⟨by decide +kernel, rfl⟩
theorem iX11_edge_0 : zIl zX11_edge 0 1 1 := Or.inl ⟨1, rfl, by decide +kernel, rfl⟩
theorem iX11_edge_1 : zCo zX11_edge 1 (0) 2 := Or.inl ⟨0, by decide, by decide +kernel, rfl⟩
theorem iX11_edge_2 : zCo zX11_edge 2 (5) 3 := Or.inl ⟨5, by decide, by decide +kernel, rfl⟩
theorem iX11_edge_3 : zCl zX11_edge 3 .invokestatic zX11_in 6 := ⟨143, by decide +kernel, rfl, Or.inl (zT5_of (i := 95) rfl rfl)⟩
theorem iX11_edge_6 : zB zX11_edge 6 (.ifCond .eq) 9 60 := ⟨54, by decide +kernel, rfl, by decide⟩
theorem iX11_edge_9 : zIl zX11_edge 9 2 10 := Or.inl ⟨2, rfl, by decide +kernel, rfl⟩
theorem iX11_edge_10 : zCo zX11_edge 10 (10) 12 := Or.inr (Or.inl ⟨10, by decide, by decide +kernel, rfl⟩)
theorem iX11_edge_12 : zCo zX11_edge 12 (200) 15 := Or.inr (Or.inr (Or.inl ⟨200, by decide, by decide +kernel, rfl⟩))
theorem iX11_edge_15 : zCl zX11_edge 15 .invokestatic zX11_in 18 := ⟨143, by decide +kernel, rfl, Or.inl (zT5_of (i := 95) rfl rfl)⟩
theorem iX11_edge_18 : zB zX11_edge 18 (.ifCond .eq) 21 60 := ⟨42, by decide +kernel, rfl, by decide⟩
theorem iX11_edge_21 : zIl zX11_edge 21 3 22 := Or.inl ⟨3, rfl, by decide +kernel, rfl⟩
theorem iX11_edge_22 : zCo zX11_edge 22 (1) 23 := Or.inl ⟨1, by decide, by decide +kernel, rfl⟩
theorem iX11_edge_23 : zIl zX11_edge 23 2 24 := Or.inl ⟨2, rfl, by decide +kernel, rfl⟩
theorem iX11_edge_24 : zCl zX11_edge 24 .invokestatic zX11_in 27 := ⟨143, by decide +kernel, rfl, Or.inl (zT5_of (i := 95) rfl rfl)⟩
theorem iX11_edge_27 : zB zX11_edge 27 (.ifCond .eq) 30 60 := ⟨33, by decide +kernel, rfl, by decide⟩
theorem iX11_edge_30 : zIl zX11_edge 30 1 31 := Or.inl ⟨1, rfl, by decide +kernel, rfl⟩
theorem iX11_edge_31 : zCl zX11_edge 31 .invokestatic zX11_hasCorners 34 := ⟨147, by decide +kernel, rfl, Or.inl (zT5_of (i := 98) rfl rfl)⟩
theorem iX11_edge_34 : zB zX11_edge 34 (.ifCond .eq) 37 48 := ⟨14, by decide +kernel, rfl, by decide⟩
theorem iX11_edge_37 : zIl zX11_edge 37 4 39 := Or.inr ⟨by decide +kernel, rfl⟩
theorem iX11_edge_39 : zCo zX11_edge 39 (1) 40 := Or.inl ⟨1, by decide, by decide +kernel, rfl⟩
theorem iX11_edge_40 : zCo zX11_edge 40 (8) 42 := Or.inr (Or.inl ⟨8, by decide, by decide +kernel, rfl⟩)
theorem iX11_edge_42 : zCl zX11_edge 42 .invokestatic zX11_in 45 := ⟨143, by decide +kernel, rfl, Or.inl (zT5_of (i := 95) rfl rfl)⟩
theorem iX11_edge_45 : zB zX11_edge 45 (.ifCond .eq) 48 60 := ⟨15, by decide +kernel, rfl, by decide⟩
theorem iX11_edge_48 : zIl zX11_edge 48 5 50 := Or.inr ⟨by decide +kernel, rfl⟩
theorem iX11_edge_50 : zCo zX11_edge 50 (1) 51 := Or.inl ⟨1, by decide, by decide +kernel, rfl⟩
theorem iX11_edge_51 : zCo zX11_edge 51 (999) 54 := Or.inr (Or.inr (Or.inl ⟨999, by decide, by decide +kernel, rfl⟩))
theorem iX11_edge_54 : zCl zX11_edge 54 .invokestatic zX11_in 57 := ⟨143, by decide +kernel, rfl, Or.inl (zT5_of (i := 95) rfl rfl)⟩
theorem iX11_edge_57 : zB zX11_edge 57 (.ifCond .ne) 60 63 := ⟨6, by decide +kernel, rfl, by decide⟩
theorem iX11_edge_60 : zCo zX11_edge 60 (-2) 62 := Or.inr (Or.inl ⟨-2, by decide, by decide +kernel, rfl⟩)
theorem iX11_edge_62 : zD zX11_edge 62 1 (.ireturn) 63 := ⟨by decide +kernel, rfl⟩
theorem iX11_edge_63 : zAl zX11_edge 63 0 64 := Or.inl ⟨0, rfl, by decide +kernel, rfl⟩
theorem iX11_edge_64 : zGf zX11_edge 64 11 1 67 := ⟨140, _, _, _, zcf_11, by decide, by decide +kernel, rfl, zT4_of (i := 152) rfl rfl⟩
theorem iX11_edge_67 : zCo zX11_edge 67 (24) 69 := Or.inr (Or.inl ⟨24, by decide, by decide +kernel, rfl⟩)
theorem iX11_edge_69 : zB zX11_edge 69 (.if_icmp .ne) 72 75 := ⟨6, by decide +kernel, rfl, by decide⟩
theorem iX11_edge_72 : zCo zX11_edge 72 (-4) 74 := Or.inr (Or.inl ⟨-4, by decide, by decide +kernel, rfl⟩)
theorem iX11_edge_74 : zD zX11_edge 74 1 (.ireturn) 75 := ⟨by decide +kernel, rfl⟩
theorem iX11_edge_75 : zAl zX11_edge 75 0 76 := Or.inl ⟨0, rfl, by decide +kernel, rfl⟩
theorem iX11_edge_76 : zGf zX11_edge 76 11 1 79 := ⟨140, _, _, _, zcf_11, by decide, by decide +kernel, rfl, zT4_of (i := 152) rfl rfl⟩
theorem iX11_edge_79 : zIs zX11_edge 79 6 81 := ⟨by decide, Or.inr ⟨by decide +kernel, rfl⟩⟩
theorem iX11_edge_81 : zAl zX11_edge 81 0 82 := Or.inl ⟨0, rfl, by decide +kernel, rfl⟩
theorem iX11_edge_82 : zGf zX11_edge 82 11 2 85 := ⟨13, _, _, _, zcf_11, by decide, by decide +kernel, rfl, zT4_of (i := 153) rfl rfl⟩
theorem iX11_edge_85 : zIl zX11_edge 85 6 87 := Or.inr ⟨by decide +kernel, rfl⟩
theorem iX11_edge_87 : zIl zX11_edge 87 1 88 := Or.inl ⟨1, rfl, by decide +kernel, rfl⟩
theorem iX11_edge_88 : zD zX11_edge 88 1 (.iastore) 89 := ⟨by decide +kernel, rfl⟩
theorem iX11_edge_89 : zAl zX11_edge 89 0 90 := Or.inl ⟨0, rfl, by decide +kernel, rfl⟩
theorem iX11_edge_90 : zGf zX11_edge 90 11 3 93 := ⟨17, _, _, _, zcf_11, by decide, by decide +kernel, rfl, zT4_of (i := 154) rfl rfl⟩
theorem iX11_edge_93 : zIl zX11_edge 93 6 95 := Or.inr ⟨by decide +kernel, rfl⟩
theorem iX11_edge_95 : zIl zX11_edge 95 2 96 := Or.inl ⟨2, rfl, by decide +kernel, rfl⟩
theorem iX11_edge_96 : zD zX11_edge 96 1 (.iastore) 97 := ⟨by decide +kernel, rfl⟩
theorem iX11_edge_97 : zAl zX11_edge 97 0 98 := Or.inl ⟨0, rfl, by decide +kernel, rfl⟩
theorem iX11_edge_98 : zGf zX11_edge 98 11 4 101 := ⟨20, _, _, _, zcf_11, by decide, by decide +kernel, rfl, zT4_of (i := 155) rfl rfl⟩
theorem iX11_edge_101 : zIl zX11_edge 101 6 103 := Or.inr ⟨by decide +kernel, rfl⟩
theorem iX11_edge_103 : zIl zX11_edge 103 3 104 := Or.inl ⟨3, rfl, by decide +kernel, rfl⟩
theorem iX11_edge_104 : zD zX11_edge 104 1 (.iastore) 105 := ⟨by decide +kernel, rfl⟩
theorem iX11_edge_105 : zAl zX11_edge 105 0 106 := Or.inl ⟨0, rfl, by decide +kernel, rfl⟩
theorem iX11_edge_106 : zGf zX11_edge 106 11 5 109 := ⟨23, _, _, _, zcf_11, by decide, by decide +kernel, rfl, zT4_of (i := 156) rfl rfl⟩
theorem iX11_edge_109 : zIl zX11_edge 109 6 111 := Or.inr ⟨by decide +kernel, rfl⟩
theorem iX11_edge_111 : zIl zX11_edge 111 1 112 := Or.inl ⟨1, rfl, by decide +kernel, rfl⟩
theorem iX11_edge_112 : zCl zX11_edge 112 .invokestatic zX11_hasCorners 115 := ⟨147, by decide +kernel, rfl, Or.inl (zT5_of (i := 98) rfl rfl)⟩
theorem iX11_edge_115 : zB zX11_edge 115 (.ifCond .eq) 118 125 := ⟨10, by decide +kernel, rfl, by decide⟩
theorem iX11_edge_118 : zIl zX11_edge 118 4 120 := Or.inr ⟨by decide +kernel, rfl⟩
theorem iX11_edge_120 : zCo zX11_edge 120 (1) 121 := Or.inl ⟨1, by decide, by decide +kernel, rfl⟩
theorem iX11_edge_121 : zD zX11_edge 121 1 (.isub) 122 := ⟨by decide +kernel, rfl⟩
theorem iX11_edge_122 : zB zX11_edge 122 .goto 125 126 := ⟨4, by decide +kernel, rfl, by decide⟩
theorem iX11_edge_125 : zCo zX11_edge 125 (0) 126 := Or.inl ⟨0, by decide, by decide +kernel, rfl⟩
theorem iX11_edge_126 : zD zX11_edge 126 1 (.iastore) 127 := ⟨by decide +kernel, rfl⟩
theorem iX11_edge_127 : zAl zX11_edge 127 0 128 := Or.inl ⟨0, rfl, by decide +kernel, rfl⟩
theorem iX11_edge_128 : zGf zX11_edge 128 11 6 131 := ⟨26, _, _, _, zcf_11, by decide, by decide +kernel, rfl, zT4_of (i := 157) rfl rfl⟩
theorem iX11_edge_131 : zIl zX11_edge 131 6 133 := Or.inr ⟨by decide +kernel, rfl⟩
theorem iX11_edge_133 : zIl zX11_edge 133 5 135 := Or.inr ⟨by decide +kernel, rfl⟩
theorem iX11_edge_135 : zD zX11_edge 135 1 (.iastore) 136 := ⟨by decide +kernel, rfl⟩
theorem iX11_edge_136 : zAl zX11_edge 136 0 137 := Or.inl ⟨0, rfl, by decide +kernel, rfl⟩
theorem iX11_edge_137 : zGf zX11_edge 137 11 7 140 := ⟨29, _, _, _, zcf_11, by decide, by decide +kernel, rfl, zT4_of (i := 158) rfl rfl⟩
theorem iX11_edge_140 : zIl zX11_edge 140 6 142 := Or.inr ⟨by decide +kernel, rfl⟩
theorem iX11_edge_142 : zCo zX11_edge 142 (0) 143 := Or.inl ⟨0, by decide, by decide +kernel, rfl⟩
theorem iX11_edge_143 : zD zX11_edge 143 1 (.iastore) 144 := ⟨by decide +kernel, rfl⟩
theorem iX11_edge_144 : zAl zX11_edge 144 0 145 := Or.inl ⟨0, rfl, by decide +kernel, rfl⟩
theorem iX11_edge_145 : zGf zX11_edge 145 11 8 148 := ⟨32, _, _, _, zcf_11, by decide, by decide +kernel, rfl, zT4_of (i := 159) rfl rfl⟩
theorem iX11_edge_148 : zIl zX11_edge 148 6 150 := Or.inr ⟨by decide +kernel, rfl⟩
theorem iX11_edge_150 : zCo zX11_edge 150 (0) 151 := Or.inl ⟨0, by decide, by decide +kernel, rfl⟩
theorem iX11_edge_151 : zD zX11_edge 151 1 (.iastore) 152 := ⟨by decide +kernel, rfl⟩
theorem iX11_edge_152 : zAl zX11_edge 152 0 153 := Or.inl ⟨0, rfl, by decide +kernel, rfl⟩
theorem iX11_edge_153 : zGf zX11_edge 153 11 9 156 := ⟨35, _, _, _, zcf_11, by decide, by decide +kernel, rfl, zT4_of (i := 160) rfl rfl⟩
theorem iX11_edge_156 : zIl zX11_edge 156 6 158 := Or.inr ⟨by decide +kernel, rfl⟩
theorem iX11_edge_158 : zCL zX11_edge 158 0 159 := Or.inl ⟨0, by decide, by decide +kernel, rfl⟩
theorem iX11_edge_159 : zD zX11_edge 159 1 (.lastore) 160 := ⟨by decide +kernel, rfl⟩
theorem iX11_edge_160 : zAl zX11_edge 160 0 161 := Or.inl ⟨0, rfl, by decide +kernel, rfl⟩
theorem iX11_edge_161 : zGf zX11_edge 161 11 10 164 := ⟨39, _, _, _, zcf_11, by decide, by decide +kernel, rfl, zT4_of (i := 161) rfl rfl⟩
theorem iX11_edge_164 : zIl zX11_edge 164 6 166 := Or.inr ⟨by decide +kernel, rfl⟩
theorem iX11_edge_166 : zCo zX11_edge 166 (0) 167 := Or.inl ⟨0, by decide, by decide +kernel, rfl⟩
theorem iX11_edge_167 : zD zX11_edge 167 1 (.iastore) 168 := ⟨by decide +kernel, rfl⟩
theorem iX11_edge_168 : zAl zX11_edge 168 0 169 := Or.inl ⟨0, rfl, by decide +kernel, rfl⟩
theorem iX11_edge_169 : zGf zX11_edge 169 11 11 172 := ⟨42, _, _, _, zcf_11, by decide, by decide +kernel, rfl, zT4_of (i := 162) rfl rfl⟩
theorem iX11_edge_172 : zIl zX11_edge 172 6 174 := Or.inr ⟨by decide +kernel, rfl⟩
theorem iX11_edge_174 : zCo zX11_edge 174 (0) 175 := Or.inl ⟨0, by decide, by decide +kernel, rfl⟩
theorem iX11_edge_175 : zD zX11_edge 175 1 (.iastore) 176 := ⟨by decide +kernel, rfl⟩
theorem iX11_edge_176 : zAl zX11_edge 176 0 177 := Or.inl ⟨0, rfl, by decide +kernel, rfl⟩
theorem iX11_edge_177 : zGf zX11_edge 177 11 12 180 := ⟨45, _, _, _, zcf_11, by decide, by decide +kernel, rfl, zT4_of (i := 163) rfl rfl⟩
theorem iX11_edge_180 : zIl zX11_edge 180 6 182 := Or.inr ⟨by decide +kernel, rfl⟩
theorem iX11_edge_182 : zCo zX11_edge 182 (-1) 183 := Or.inl ⟨-1, by decide, by decide +kernel, rfl⟩
theorem iX11_edge_183 : zD zX11_edge 183 1 (.iastore) 184 := ⟨by decide +kernel, rfl⟩
theorem iX11_edge_184 : zAl zX11_edge 184 0 185 := Or.inl ⟨0, rfl, by decide +kernel, rfl⟩
theorem iX11_edge_185 : zGf zX11_edge 185 11 14 188 := ⟨51, _, _, _, zcf_11, by decide, by decide +kernel, rfl, zT4_of (i := 165) rfl rfl⟩
theorem iX11_edge_188 : zIl zX11_edge 188 6 190 := Or.inr ⟨by decide +kernel, rfl⟩
theorem iX11_edge_190 : zCo zX11_edge 190 (0) 191 := Or.inl ⟨0, by decide, by decide +kernel, rfl⟩
theorem iX11_edge_191 : zD zX11_edge 191 1 (.iastore) 192 := ⟨by decide +kernel, rfl⟩
theorem iX11_edge_192 : zAl zX11_edge 192 0 193 := Or.inl ⟨0, rfl, by decide +kernel, rfl⟩
theorem iX11_edge_193 : zD zX11_edge 193 1 (.dup) 194 := ⟨by decide +kernel, rfl⟩
theorem iX11_edge_194 : zGf zX11_edge 194 11 1 197 := ⟨140, _, _, _, zcf_11, by decide, by decide +kernel, rfl, zT4_of (i := 152) rfl rfl⟩
theorem iX11_edge_197 : zCo zX11_edge 197 (1) 198 := Or.inl ⟨1, by decide, by decide +kernel, rfl⟩
theorem iX11_edge_198 : zD zX11_edge 198 1 (.iadd) 199 := ⟨by decide +kernel, rfl⟩
theorem iX11_edge_199 : zPf zX11_edge 199 11 1 .int 202 := ⟨140, _, _, _, zcf_11, by decide, by decide +kernel, rfl, zT4_of (i := 152) rfl rfl, by decide +kernel, Or.inl rfl⟩
theorem iX11_edge_202 : zIl zX11_edge 202 6 204 := Or.inr ⟨by decide +kernel, rfl⟩
theorem iX11_edge_204 : zD zX11_edge 204 1 (.ireturn) 205 := ⟨by decide +kernel, rfl⟩
theorem iX11_edgeTold_0 : zAl zX11_edgeTold 0 0 1 := Or.inl ⟨0, rfl, by decide +kernel, rfl⟩
theorem iX11_edgeTold_1 : zIl zX11_edgeTold 1 1 2 := Or.inl ⟨1, rfl, by decide +kernel, rfl⟩
theorem iX11_edgeTold_2 : zCl zX11_edgeTold 2 .invokevirtual zX11_isEdge 5 := ⟨151, by decide +kernel, rfl, Or.inl (zT5_of (i := 105) rfl rfl)⟩
theorem iX11_edgeTold_5 : zB zX11_edgeTold 5 (.ifCond .ne) 8 11 := ⟨6, by decide +kernel, rfl, by decide⟩
theorem iX11_edgeTold_8 : zCo zX11_edgeTold 8 (-2) 10 := Or.inr (Or.inl ⟨-2, by decide, by decide +kernel, rfl⟩)
theorem iX11_edgeTold_10 : zD zX11_edgeTold 10 1 (.ireturn) 11 := ⟨by decide +kernel, rfl⟩
theorem iX11_edgeTold_11 : zIl zX11_edgeTold 11 2 12 := Or.inl ⟨2, rfl, by decide +kernel, rfl⟩
theorem iX11_edgeTold_12 : zSw zX11_edgeTold 12 (0) [60, 67, 74, 81, 88, 95, 102, 109] 116 := ⟨7, #[48, 55, 62, 69, 76, 83, 90, 97], 104, 48, by decide +kernel, by decide, by decide, by decide⟩
theorem iX11_edgeTold_60 : zAl zX11_edgeTold 60 0 61 := Or.inl ⟨0, rfl, by decide +kernel, rfl⟩
theorem iX11_edgeTold_61 : zGf zX11_edgeTold 61 11 2 64 := ⟨13, _, _, _, zcf_11, by decide, by decide +kernel, rfl, zT4_of (i := 153) rfl rfl⟩
theorem iX11_edgeTold_64 : zIl zX11_edgeTold 64 1 65 := Or.inl ⟨1, rfl, by decide +kernel, rfl⟩
theorem iX11_edgeTold_65 : zD zX11_edgeTold 65 1 (.iaload) 66 := ⟨by decide +kernel, rfl⟩
theorem iX11_edgeTold_66 : zD zX11_edgeTold 66 1 (.ireturn) 67 := ⟨by decide +kernel, rfl⟩
theorem iX11_edgeTold_67 : zAl zX11_edgeTold 67 0 68 := Or.inl ⟨0, rfl, by decide +kernel, rfl⟩
theorem iX11_edgeTold_68 : zGf zX11_edgeTold 68 11 3 71 := ⟨17, _, _, _, zcf_11, by decide, by decide +kernel, rfl, zT4_of (i := 154) rfl rfl⟩
theorem iX11_edgeTold_71 : zIl zX11_edgeTold 71 1 72 := Or.inl ⟨1, rfl, by decide +kernel, rfl⟩
theorem iX11_edgeTold_72 : zD zX11_edgeTold 72 1 (.iaload) 73 := ⟨by decide +kernel, rfl⟩
theorem iX11_edgeTold_73 : zD zX11_edgeTold 73 1 (.ireturn) 74 := ⟨by decide +kernel, rfl⟩
theorem iX11_edgeTold_74 : zAl zX11_edgeTold 74 0 75 := Or.inl ⟨0, rfl, by decide +kernel, rfl⟩
theorem iX11_edgeTold_75 : zGf zX11_edgeTold 75 11 4 78 := ⟨20, _, _, _, zcf_11, by decide, by decide +kernel, rfl, zT4_of (i := 155) rfl rfl⟩
theorem iX11_edgeTold_78 : zIl zX11_edgeTold 78 1 79 := Or.inl ⟨1, rfl, by decide +kernel, rfl⟩
theorem iX11_edgeTold_79 : zD zX11_edgeTold 79 1 (.iaload) 80 := ⟨by decide +kernel, rfl⟩
theorem iX11_edgeTold_80 : zD zX11_edgeTold 80 1 (.ireturn) 81 := ⟨by decide +kernel, rfl⟩
theorem iX11_edgeTold_81 : zAl zX11_edgeTold 81 0 82 := Or.inl ⟨0, rfl, by decide +kernel, rfl⟩
theorem iX11_edgeTold_82 : zGf zX11_edgeTold 82 11 5 85 := ⟨23, _, _, _, zcf_11, by decide, by decide +kernel, rfl, zT4_of (i := 156) rfl rfl⟩
theorem iX11_edgeTold_85 : zIl zX11_edgeTold 85 1 86 := Or.inl ⟨1, rfl, by decide +kernel, rfl⟩
theorem iX11_edgeTold_86 : zD zX11_edgeTold 86 1 (.iaload) 87 := ⟨by decide +kernel, rfl⟩
theorem iX11_edgeTold_87 : zD zX11_edgeTold 87 1 (.ireturn) 88 := ⟨by decide +kernel, rfl⟩
theorem iX11_edgeTold_88 : zAl zX11_edgeTold 88 0 89 := Or.inl ⟨0, rfl, by decide +kernel, rfl⟩
theorem iX11_edgeTold_89 : zGf zX11_edgeTold 89 11 6 92 := ⟨26, _, _, _, zcf_11, by decide, by decide +kernel, rfl, zT4_of (i := 157) rfl rfl⟩
theorem iX11_edgeTold_92 : zIl zX11_edgeTold 92 1 93 := Or.inl ⟨1, rfl, by decide +kernel, rfl⟩
theorem iX11_edgeTold_93 : zD zX11_edgeTold 93 1 (.iaload) 94 := ⟨by decide +kernel, rfl⟩
theorem iX11_edgeTold_94 : zD zX11_edgeTold 94 1 (.ireturn) 95 := ⟨by decide +kernel, rfl⟩
theorem iX11_edgeTold_95 : zAl zX11_edgeTold 95 0 96 := Or.inl ⟨0, rfl, by decide +kernel, rfl⟩
theorem iX11_edgeTold_96 : zGf zX11_edgeTold 96 11 7 99 := ⟨29, _, _, _, zcf_11, by decide, by decide +kernel, rfl, zT4_of (i := 158) rfl rfl⟩
theorem iX11_edgeTold_99 : zIl zX11_edgeTold 99 1 100 := Or.inl ⟨1, rfl, by decide +kernel, rfl⟩
theorem iX11_edgeTold_100 : zD zX11_edgeTold 100 1 (.iaload) 101 := ⟨by decide +kernel, rfl⟩
theorem iX11_edgeTold_101 : zD zX11_edgeTold 101 1 (.ireturn) 102 := ⟨by decide +kernel, rfl⟩
theorem iX11_edgeTold_102 : zAl zX11_edgeTold 102 0 103 := Or.inl ⟨0, rfl, by decide +kernel, rfl⟩
theorem iX11_edgeTold_103 : zGf zX11_edgeTold 103 11 8 106 := ⟨32, _, _, _, zcf_11, by decide, by decide +kernel, rfl, zT4_of (i := 159) rfl rfl⟩
theorem iX11_edgeTold_106 : zIl zX11_edgeTold 106 1 107 := Or.inl ⟨1, rfl, by decide +kernel, rfl⟩
theorem iX11_edgeTold_107 : zD zX11_edgeTold 107 1 (.iaload) 108 := ⟨by decide +kernel, rfl⟩
theorem iX11_edgeTold_108 : zD zX11_edgeTold 108 1 (.ireturn) 109 := ⟨by decide +kernel, rfl⟩
theorem iX11_edgeTold_109 : zAl zX11_edgeTold 109 0 110 := Or.inl ⟨0, rfl, by decide +kernel, rfl⟩
theorem iX11_edgeTold_110 : zGf zX11_edgeTold 110 11 12 113 := ⟨45, _, _, _, zcf_11, by decide, by decide +kernel, rfl, zT4_of (i := 163) rfl rfl⟩
theorem iX11_edgeTold_113 : zIl zX11_edgeTold 113 1 114 := Or.inl ⟨1, rfl, by decide +kernel, rfl⟩
theorem iX11_edgeTold_114 : zD zX11_edgeTold 114 1 (.iaload) 115 := ⟨by decide +kernel, rfl⟩
theorem iX11_edgeTold_115 : zD zX11_edgeTold 115 1 (.ireturn) 116 := ⟨by decide +kernel, rfl⟩
theorem iX11_edgeTold_116 : zCo zX11_edgeTold 116 (-2) 118 := Or.inr (Or.inl ⟨-2, by decide, by decide +kernel, rfl⟩)
theorem iX11_edgeTold_118 : zD zX11_edgeTold 118 1 (.ireturn) 119 := ⟨by decide +kernel, rfl⟩
theorem iX11_divisor_0 : zLl zX11_divisor 0 0 1 := Or.inl ⟨0, rfl, by decide +kernel, rfl⟩
theorem iX11_divisor_1 : zLS zX11_divisor 1 4 3 := ⟨by decide, Or.inr ⟨by decide +kernel, rfl⟩⟩
theorem iX11_divisor_3 : zLl zX11_divisor 3 2 4 := Or.inl ⟨2, rfl, by decide +kernel, rfl⟩
theorem iX11_divisor_4 : zLS zX11_divisor 4 6 6 := ⟨by decide, Or.inr ⟨by decide +kernel, rfl⟩⟩
theorem iX11_divisor_6 : zLl zX11_divisor 6 6 8 := Or.inr ⟨by decide +kernel, rfl⟩
theorem iX11_divisor_8 : zCL zX11_divisor 8 0 9 := Or.inl ⟨0, by decide, by decide +kernel, rfl⟩
theorem iX11_divisor_9 : zD zX11_divisor 9 1 (.lcmp) 10 := ⟨by decide +kernel, rfl⟩
theorem iX11_divisor_10 : zB zX11_divisor 10 (.ifCond .eq) 13 31 := ⟨21, by decide +kernel, rfl, by decide⟩
theorem iX11_divisor_13 : zLl zX11_divisor 13 4 15 := Or.inr ⟨by decide +kernel, rfl⟩
theorem iX11_divisor_15 : zLl zX11_divisor 15 6 17 := Or.inr ⟨by decide +kernel, rfl⟩
theorem iX11_divisor_17 : zD zX11_divisor 17 1 (.lrem) 18 := ⟨by decide +kernel, rfl⟩
theorem iX11_divisor_18 : zLS zX11_divisor 18 8 20 := ⟨by decide, Or.inr ⟨by decide +kernel, rfl⟩⟩
theorem iX11_divisor_20 : zLl zX11_divisor 20 6 22 := Or.inr ⟨by decide +kernel, rfl⟩
theorem iX11_divisor_22 : zLS zX11_divisor 22 4 24 := ⟨by decide, Or.inr ⟨by decide +kernel, rfl⟩⟩
theorem iX11_divisor_24 : zLl zX11_divisor 24 8 26 := Or.inr ⟨by decide +kernel, rfl⟩
theorem iX11_divisor_26 : zLS zX11_divisor 26 6 28 := ⟨by decide, Or.inr ⟨by decide +kernel, rfl⟩⟩
theorem iX11_divisor_28 : zB zX11_divisor 28 .goto 31 6 := ⟨-22, by decide +kernel, rfl, by decide⟩
theorem iX11_divisor_31 : zLl zX11_divisor 31 4 33 := Or.inr ⟨by decide +kernel, rfl⟩
theorem iX11_divisor_33 : zD zX11_divisor 33 1 (.lreturn) 34 := ⟨by decide +kernel, rfl⟩
theorem iX11_used_0 : zAl zX11_used 0 0 1 := Or.inl ⟨0, rfl, by decide +kernel, rfl⟩
theorem iX11_used_1 : zIl zX11_used 1 1 2 := Or.inl ⟨1, rfl, by decide +kernel, rfl⟩
theorem iX11_used_2 : zCl zX11_used 2 .invokevirtual zX11_isEdge 5 := ⟨151, by decide +kernel, rfl, Or.inl (zT5_of (i := 105) rfl rfl)⟩
theorem iX11_used_5 : zB zX11_used 5 (.ifCond .eq) 8 17 := ⟨12, by decide +kernel, rfl, by decide⟩
theorem iX11_used_8 : zIl zX11_used 8 2 9 := Or.inl ⟨2, rfl, by decide +kernel, rfl⟩
theorem iX11_used_9 : zCo zX11_used 9 (0) 10 := Or.inl ⟨0, by decide, by decide +kernel, rfl⟩
theorem iX11_used_10 : zCo zX11_used 10 (1) 11 := Or.inl ⟨1, by decide, by decide +kernel, rfl⟩
theorem iX11_used_11 : zCl zX11_used 11 .invokestatic zX11_in 14 := ⟨143, by decide +kernel, rfl, Or.inl (zT5_of (i := 95) rfl rfl)⟩
theorem iX11_used_14 : zB zX11_used 14 (.ifCond .ne) 17 21 := ⟨7, by decide +kernel, rfl, by decide⟩
theorem iX11_used_17 : zCL zX11_used 17 (-4611686018427387904) 20 := Or.inr ⟨154, zT5_of (i := 113) rfl rfl, by decide +kernel, rfl⟩
theorem iX11_used_20 : zD zX11_used 20 1 (.lreturn) 21 := ⟨by decide +kernel, rfl⟩
theorem iX11_used_21 : zCL zX11_used 21 (100) 24 := Or.inr ⟨156, zT5_of (i := 114) rfl rfl, by decide +kernel, rfl⟩
theorem iX11_used_24 : zAl zX11_used 24 0 25 := Or.inl ⟨0, rfl, by decide +kernel, rfl⟩
theorem iX11_used_25 : zGf zX11_used 25 11 6 28 := ⟨26, _, _, _, zcf_11, by decide, by decide +kernel, rfl, zT4_of (i := 157) rfl rfl⟩
theorem iX11_used_28 : zIl zX11_used 28 1 29 := Or.inl ⟨1, rfl, by decide +kernel, rfl⟩
theorem iX11_used_29 : zD zX11_used 29 1 (.iaload) 30 := ⟨by decide +kernel, rfl⟩
theorem iX11_used_30 : zD zX11_used 30 1 (.i2l) 31 := ⟨by decide +kernel, rfl⟩
theorem iX11_used_31 : zD zX11_used 31 1 (.lmul) 32 := ⟨by decide +kernel, rfl⟩
theorem iX11_used_32 : zLS zX11_used 32 3 33 := ⟨by decide, Or.inl ⟨3, rfl, by decide +kernel, rfl⟩⟩
theorem iX11_used_33 : zAl zX11_used 33 0 34 := Or.inl ⟨0, rfl, by decide +kernel, rfl⟩
theorem iX11_used_34 : zGf zX11_used 34 11 9 37 := ⟨35, _, _, _, zcf_11, by decide, by decide +kernel, rfl, zT4_of (i := 160) rfl rfl⟩
theorem iX11_used_37 : zIl zX11_used 37 1 38 := Or.inl ⟨1, rfl, by decide +kernel, rfl⟩
theorem iX11_used_38 : zD zX11_used 38 1 (.laload) 39 := ⟨by decide +kernel, rfl⟩
theorem iX11_used_39 : zLl zX11_used 39 3 40 := Or.inl ⟨3, rfl, by decide +kernel, rfl⟩
theorem iX11_used_40 : zCl zX11_used 40 .invokestatic zX11_divisor 43 := ⟨158, by decide +kernel, rfl, Or.inl (zT5_of (i := 115) rfl rfl)⟩
theorem iX11_used_43 : zLS zX11_used 43 5 45 := ⟨by decide, Or.inr ⟨by decide +kernel, rfl⟩⟩
theorem iX11_used_45 : zIl zX11_used 45 2 46 := Or.inl ⟨2, rfl, by decide +kernel, rfl⟩
theorem iX11_used_46 : zB zX11_used 46 (.ifCond .ne) 49 61 := ⟨15, by decide +kernel, rfl, by decide⟩
theorem iX11_used_49 : zAl zX11_used 49 0 50 := Or.inl ⟨0, rfl, by decide +kernel, rfl⟩
theorem iX11_used_50 : zGf zX11_used 50 11 9 53 := ⟨35, _, _, _, zcf_11, by decide, by decide +kernel, rfl, zT4_of (i := 160) rfl rfl⟩
theorem iX11_used_53 : zIl zX11_used 53 1 54 := Or.inl ⟨1, rfl, by decide +kernel, rfl⟩
theorem iX11_used_54 : zD zX11_used 54 1 (.laload) 55 := ⟨by decide +kernel, rfl⟩
theorem iX11_used_55 : zLl zX11_used 55 5 57 := Or.inr ⟨by decide +kernel, rfl⟩
theorem iX11_used_57 : zD zX11_used 57 1 (.ldiv) 58 := ⟨by decide +kernel, rfl⟩
theorem iX11_used_58 : zB zX11_used 58 .goto 61 65 := ⟨7, by decide +kernel, rfl, by decide⟩
theorem iX11_used_61 : zLl zX11_used 61 3 62 := Or.inl ⟨3, rfl, by decide +kernel, rfl⟩
theorem iX11_used_62 : zLl zX11_used 62 5 64 := Or.inr ⟨by decide +kernel, rfl⟩
theorem iX11_used_64 : zD zX11_used 64 1 (.ldiv) 65 := ⟨by decide +kernel, rfl⟩
theorem iX11_used_65 : zD zX11_used 65 1 (.lreturn) 66 := ⟨by decide +kernel, rfl⟩
theorem iX11_wearOf_0 : zAl zX11_wearOf 0 0 1 := Or.inl ⟨0, rfl, by decide +kernel, rfl⟩
theorem iX11_wearOf_1 : zGf zX11_wearOf 1 11 2 4 := ⟨13, _, _, _, zcf_11, by decide, by decide +kernel, rfl, zT4_of (i := 153) rfl rfl⟩
theorem iX11_wearOf_4 : zIl zX11_wearOf 4 1 5 := Or.inl ⟨1, rfl, by decide +kernel, rfl⟩
theorem iX11_wearOf_5 : zD zX11_wearOf 5 1 (.iaload) 6 := ⟨by decide +kernel, rfl⟩
theorem iX11_wearOf_6 : zSw zX11_wearOf 6 (1) [40, 46, 69, 75, 83] 91 := ⟨5, #[34, 40, 63, 69, 77], 85, 34, by decide +kernel, by decide, by decide, by decide⟩
theorem iX11_wearOf_40 : zIl zX11_wearOf 40 2 41 := Or.inl ⟨2, rfl, by decide +kernel, rfl⟩
theorem iX11_wearOf_41 : zIl zX11_wearOf 41 3 42 := Or.inl ⟨3, rfl, by decide +kernel, rfl⟩
theorem iX11_wearOf_42 : zD zX11_wearOf 42 1 (.imul) 43 := ⟨by decide +kernel, rfl⟩
theorem iX11_wearOf_43 : zIl zX11_wearOf 43 3 44 := Or.inl ⟨3, rfl, by decide +kernel, rfl⟩
theorem iX11_wearOf_44 : zD zX11_wearOf 44 1 (.iadd) 45 := ⟨by decide +kernel, rfl⟩
theorem iX11_wearOf_45 : zD zX11_wearOf 45 1 (.ireturn) 46 := ⟨by decide +kernel, rfl⟩
theorem iX11_wearOf_46 : zIl zX11_wearOf 46 2 47 := Or.inl ⟨2, rfl, by decide +kernel, rfl⟩
theorem iX11_wearOf_47 : zIl zX11_wearOf 47 3 48 := Or.inl ⟨3, rfl, by decide +kernel, rfl⟩
theorem iX11_wearOf_48 : zD zX11_wearOf 48 1 (.imul) 49 := ⟨by decide +kernel, rfl⟩
theorem iX11_wearOf_49 : zIl zX11_wearOf 49 3 50 := Or.inl ⟨3, rfl, by decide +kernel, rfl⟩
theorem iX11_wearOf_50 : zD zX11_wearOf 50 1 (.iadd) 51 := ⟨by decide +kernel, rfl⟩
theorem iX11_wearOf_51 : zIl zX11_wearOf 51 2 52 := Or.inl ⟨2, rfl, by decide +kernel, rfl⟩
theorem iX11_wearOf_52 : zD zX11_wearOf 52 1 (.isub) 53 := ⟨by decide +kernel, rfl⟩
theorem iX11_wearOf_53 : zCo zX11_wearOf 53 (1) 54 := Or.inl ⟨1, by decide, by decide +kernel, rfl⟩
theorem iX11_wearOf_54 : zB zX11_wearOf 54 (.if_icmp .ge) 57 61 := ⟨7, by decide +kernel, rfl, by decide⟩
theorem iX11_wearOf_57 : zCo zX11_wearOf 57 (1) 58 := Or.inl ⟨1, by decide, by decide +kernel, rfl⟩
theorem iX11_wearOf_58 : zB zX11_wearOf 58 .goto 61 68 := ⟨10, by decide +kernel, rfl, by decide⟩
theorem iX11_wearOf_61 : zIl zX11_wearOf 61 2 62 := Or.inl ⟨2, rfl, by decide +kernel, rfl⟩
theorem iX11_wearOf_62 : zIl zX11_wearOf 62 3 63 := Or.inl ⟨3, rfl, by decide +kernel, rfl⟩
theorem iX11_wearOf_63 : zD zX11_wearOf 63 1 (.imul) 64 := ⟨by decide +kernel, rfl⟩
theorem iX11_wearOf_64 : zIl zX11_wearOf 64 3 65 := Or.inl ⟨3, rfl, by decide +kernel, rfl⟩
theorem iX11_wearOf_65 : zD zX11_wearOf 65 1 (.iadd) 66 := ⟨by decide +kernel, rfl⟩
theorem iX11_wearOf_66 : zIl zX11_wearOf 66 2 67 := Or.inl ⟨2, rfl, by decide +kernel, rfl⟩
theorem iX11_wearOf_67 : zD zX11_wearOf 67 1 (.isub) 68 := ⟨by decide +kernel, rfl⟩
theorem iX11_wearOf_68 : zD zX11_wearOf 68 1 (.ireturn) 69 := ⟨by decide +kernel, rfl⟩
theorem iX11_wearOf_69 : zCo zX11_wearOf 69 (2) 70 := Or.inl ⟨2, by decide, by decide +kernel, rfl⟩
theorem iX11_wearOf_70 : zIl zX11_wearOf 70 2 71 := Or.inl ⟨2, rfl, by decide +kernel, rfl⟩
theorem iX11_wearOf_71 : zD zX11_wearOf 71 1 (.imul) 72 := ⟨by decide +kernel, rfl⟩
theorem iX11_wearOf_72 : zIl zX11_wearOf 72 3 73 := Or.inl ⟨3, rfl, by decide +kernel, rfl⟩
theorem iX11_wearOf_73 : zD zX11_wearOf 73 1 (.imul) 74 := ⟨by decide +kernel, rfl⟩
theorem iX11_wearOf_74 : zD zX11_wearOf 74 1 (.ireturn) 75 := ⟨by decide +kernel, rfl⟩
theorem iX11_wearOf_75 : zCo zX11_wearOf 75 (2) 76 := Or.inl ⟨2, by decide, by decide +kernel, rfl⟩
theorem iX11_wearOf_76 : zIl zX11_wearOf 76 2 77 := Or.inl ⟨2, rfl, by decide +kernel, rfl⟩
theorem iX11_wearOf_77 : zD zX11_wearOf 77 1 (.imul) 78 := ⟨by decide +kernel, rfl⟩
theorem iX11_wearOf_78 : zIl zX11_wearOf 78 3 79 := Or.inl ⟨3, rfl, by decide +kernel, rfl⟩
theorem iX11_wearOf_79 : zD zX11_wearOf 79 1 (.imul) 80 := ⟨by decide +kernel, rfl⟩
theorem iX11_wearOf_80 : zIl zX11_wearOf 80 2 81 := Or.inl ⟨2, rfl, by decide +kernel, rfl⟩
theorem iX11_wearOf_81 : zD zX11_wearOf 81 1 (.iadd) 82 := ⟨by decide +kernel, rfl⟩
theorem iX11_wearOf_82 : zD zX11_wearOf 82 1 (.ireturn) 83 := ⟨by decide +kernel, rfl⟩
theorem iX11_wearOf_83 : zCo zX11_wearOf 83 (2) 84 := Or.inl ⟨2, by decide, by decide +kernel, rfl⟩
theorem iX11_wearOf_84 : zIl zX11_wearOf 84 2 85 := Or.inl ⟨2, rfl, by decide +kernel, rfl⟩
theorem iX11_wearOf_85 : zD zX11_wearOf 85 1 (.imul) 86 := ⟨by decide +kernel, rfl⟩
theorem iX11_wearOf_86 : zIl zX11_wearOf 86 3 87 := Or.inl ⟨3, rfl, by decide +kernel, rfl⟩
theorem iX11_wearOf_87 : zD zX11_wearOf 87 1 (.imul) 88 := ⟨by decide +kernel, rfl⟩
theorem iX11_wearOf_88 : zIl zX11_wearOf 88 3 89 := Or.inl ⟨3, rfl, by decide +kernel, rfl⟩
theorem iX11_wearOf_89 : zD zX11_wearOf 89 1 (.iadd) 90 := ⟨by decide +kernel, rfl⟩
theorem iX11_wearOf_90 : zD zX11_wearOf 90 1 (.ireturn) 91 := ⟨by decide +kernel, rfl⟩
theorem iX11_wearOf_91 : zIl zX11_wearOf 91 2 92 := Or.inl ⟨2, rfl, by decide +kernel, rfl⟩
theorem iX11_wearOf_92 : zIl zX11_wearOf 92 3 93 := Or.inl ⟨3, rfl, by decide +kernel, rfl⟩
theorem iX11_wearOf_93 : zD zX11_wearOf 93 1 (.imul) 94 := ⟨by decide +kernel, rfl⟩
theorem iX11_wearOf_94 : zD zX11_wearOf 94 1 (.ireturn) 95 := ⟨by decide +kernel, rfl⟩
theorem iX11_wear_0 : zAl zX11_wear 0 0 1 := Or.inl ⟨0, rfl, by decide +kernel, rfl⟩
theorem iX11_wear_1 : zIl zX11_wear 1 1 2 := Or.inl ⟨1, rfl, by decide +kernel, rfl⟩
theorem iX11_wear_2 : zCl zX11_wear 2 .invokevirtual zX11_isEdge 5 := ⟨151, by decide +kernel, rfl, Or.inl (zT5_of (i := 105) rfl rfl)⟩
theorem iX11_wear_5 : zB zX11_wear 5 (.ifCond .eq) 8 38 := ⟨33, by decide +kernel, rfl, by decide⟩
theorem iX11_wear_8 : zIl zX11_wear 8 2 9 := Or.inl ⟨2, rfl, by decide +kernel, rfl⟩
theorem iX11_wear_9 : zCo zX11_wear 9 (1) 10 := Or.inl ⟨1, by decide, by decide +kernel, rfl⟩
theorem iX11_wear_10 : zCo zX11_wear 10 (20) 12 := Or.inr (Or.inl ⟨20, by decide, by decide +kernel, rfl⟩)
theorem iX11_wear_12 : zCl zX11_wear 12 .invokestatic zX11_in 15 := ⟨143, by decide +kernel, rfl, Or.inl (zT5_of (i := 95) rfl rfl)⟩
theorem iX11_wear_15 : zB zX11_wear 15 (.ifCond .eq) 18 38 := ⟨23, by decide +kernel, rfl, by decide⟩
theorem iX11_wear_18 : zIl zX11_wear 18 3 19 := Or.inl ⟨3, rfl, by decide +kernel, rfl⟩
theorem iX11_wear_19 : zCo zX11_wear 19 (1) 20 := Or.inl ⟨1, by decide, by decide +kernel, rfl⟩
theorem iX11_wear_20 : zCo zX11_wear 20 (20) 22 := Or.inr (Or.inl ⟨20, by decide, by decide +kernel, rfl⟩)
theorem iX11_wear_22 : zCl zX11_wear 22 .invokestatic zX11_in 25 := ⟨143, by decide +kernel, rfl, Or.inl (zT5_of (i := 95) rfl rfl)⟩
theorem iX11_wear_25 : zB zX11_wear 25 (.ifCond .eq) 28 38 := ⟨13, by decide +kernel, rfl, by decide⟩
theorem iX11_wear_28 : zAl zX11_wear 28 0 29 := Or.inl ⟨0, rfl, by decide +kernel, rfl⟩
theorem iX11_wear_29 : zIl zX11_wear 29 1 30 := Or.inl ⟨1, rfl, by decide +kernel, rfl⟩
theorem iX11_wear_30 : zIl zX11_wear 30 2 31 := Or.inl ⟨2, rfl, by decide +kernel, rfl⟩
theorem iX11_wear_31 : zIl zX11_wear 31 3 32 := Or.inl ⟨3, rfl, by decide +kernel, rfl⟩
theorem iX11_wear_32 : zCl zX11_wear 32 .invokevirtual zX11_wearOf 35 := ⟨162, by decide +kernel, rfl, Or.inl (zT5_of (i := 122) rfl rfl)⟩
theorem iX11_wear_35 : zB zX11_wear 35 .goto 38 40 := ⟨5, by decide +kernel, rfl, by decide⟩
theorem iX11_wear_38 : zCo zX11_wear 38 (-2) 40 := Or.inr (Or.inl ⟨-2, by decide, by decide +kernel, rfl⟩)
theorem iX11_wear_40 : zD zX11_wear 40 1 (.ireturn) 41 := ⟨by decide +kernel, rfl⟩
theorem iX11_fresh_0 : zAl zX11_fresh 0 0 1 := Or.inl ⟨0, rfl, by decide +kernel, rfl⟩
theorem iX11_fresh_1 : zGf zX11_fresh 1 11 8 4 := ⟨32, _, _, _, zcf_11, by decide, by decide +kernel, rfl, zT4_of (i := 159) rfl rfl⟩
theorem iX11_fresh_4 : zIl zX11_fresh 4 1 5 := Or.inl ⟨1, rfl, by decide +kernel, rfl⟩
theorem iX11_fresh_5 : zCo zX11_fresh 5 (0) 6 := Or.inl ⟨0, by decide, by decide +kernel, rfl⟩
theorem iX11_fresh_6 : zD zX11_fresh 6 1 (.iastore) 7 := ⟨by decide +kernel, rfl⟩
theorem iX11_fresh_7 : zAl zX11_fresh 7 0 8 := Or.inl ⟨0, rfl, by decide +kernel, rfl⟩
theorem iX11_fresh_8 : zGf zX11_fresh 8 11 9 11 := ⟨35, _, _, _, zcf_11, by decide, by decide +kernel, rfl, zT4_of (i := 160) rfl rfl⟩
theorem iX11_fresh_11 : zIl zX11_fresh 11 1 12 := Or.inl ⟨1, rfl, by decide +kernel, rfl⟩
theorem iX11_fresh_12 : zCL zX11_fresh 12 0 13 := Or.inl ⟨0, by decide, by decide +kernel, rfl⟩
theorem iX11_fresh_13 : zD zX11_fresh 13 1 (.lastore) 14 := ⟨by decide +kernel, rfl⟩
theorem iX11_fresh_14 : zAl zX11_fresh 14 0 15 := Or.inl ⟨0, rfl, by decide +kernel, rfl⟩
theorem iX11_fresh_15 : zGf zX11_fresh 15 11 7 18 := ⟨29, _, _, _, zcf_11, by decide, by decide +kernel, rfl, zT4_of (i := 158) rfl rfl⟩
theorem iX11_fresh_18 : zIl zX11_fresh 18 1 19 := Or.inl ⟨1, rfl, by decide +kernel, rfl⟩
theorem iX11_fresh_19 : zCo zX11_fresh 19 (0) 20 := Or.inl ⟨0, by decide, by decide +kernel, rfl⟩
theorem iX11_fresh_20 : zD zX11_fresh 20 1 (.iastore) 21 := ⟨by decide +kernel, rfl⟩
theorem iX11_fresh_21 : zD zX11_fresh 21 1 (.return_) 22 := ⟨by decide +kernel, rfl⟩
theorem iX11_turn_0 : zAl zX11_turn 0 0 1 := Or.inl ⟨0, rfl, by decide +kernel, rfl⟩
theorem iX11_turn_1 : zIl zX11_turn 1 1 2 := Or.inl ⟨1, rfl, by decide +kernel, rfl⟩
theorem iX11_turn_2 : zCl zX11_turn 2 .invokevirtual zX11_isEdge 5 := ⟨151, by decide +kernel, rfl, Or.inl (zT5_of (i := 105) rfl rfl)⟩
theorem iX11_turn_5 : zB zX11_turn 5 (.ifCond .ne) 8 11 := ⟨6, by decide +kernel, rfl, by decide⟩
theorem iX11_turn_8 : zCo zX11_turn 8 (-2) 10 := Or.inr (Or.inl ⟨-2, by decide, by decide +kernel, rfl⟩)
theorem iX11_turn_10 : zD zX11_turn 10 1 (.ireturn) 11 := ⟨by decide +kernel, rfl⟩
theorem iX11_turn_11 : zAl zX11_turn 11 0 12 := Or.inl ⟨0, rfl, by decide +kernel, rfl⟩
theorem iX11_turn_12 : zGf zX11_turn 12 11 2 15 := ⟨13, _, _, _, zcf_11, by decide, by decide +kernel, rfl, zT4_of (i := 153) rfl rfl⟩
theorem iX11_turn_15 : zIl zX11_turn 15 1 16 := Or.inl ⟨1, rfl, by decide +kernel, rfl⟩
theorem iX11_turn_16 : zD zX11_turn 16 1 (.iaload) 17 := ⟨by decide +kernel, rfl⟩
theorem iX11_turn_17 : zCl zX11_turn 17 .invokestatic zX11_hasCorners 20 := ⟨147, by decide +kernel, rfl, Or.inl (zT5_of (i := 98) rfl rfl)⟩
theorem iX11_turn_20 : zB zX11_turn 20 (.ifCond .ne) 23 26 := ⟨6, by decide +kernel, rfl, by decide⟩
theorem iX11_turn_23 : zCo zX11_turn 23 (-13) 25 := Or.inr (Or.inl ⟨-13, by decide, by decide +kernel, rfl⟩)
theorem iX11_turn_25 : zD zX11_turn 25 1 (.ireturn) 26 := ⟨by decide +kernel, rfl⟩
theorem iX11_turn_26 : zAl zX11_turn 26 0 27 := Or.inl ⟨0, rfl, by decide +kernel, rfl⟩
theorem iX11_turn_27 : zGf zX11_turn 27 11 7 30 := ⟨29, _, _, _, zcf_11, by decide, by decide +kernel, rfl, zT4_of (i := 158) rfl rfl⟩
theorem iX11_turn_30 : zIl zX11_turn 30 1 31 := Or.inl ⟨1, rfl, by decide +kernel, rfl⟩
theorem iX11_turn_31 : zD zX11_turn 31 1 (.iaload) 32 := ⟨by decide +kernel, rfl⟩
theorem iX11_turn_32 : zCo zX11_turn 32 (2) 33 := Or.inl ⟨2, by decide, by decide +kernel, rfl⟩
theorem iX11_turn_33 : zB zX11_turn 33 (.if_icmp .eq) 36 45 := ⟨12, by decide +kernel, rfl, by decide⟩
theorem iX11_turn_36 : zAl zX11_turn 36 0 37 := Or.inl ⟨0, rfl, by decide +kernel, rfl⟩
theorem iX11_turn_37 : zGf zX11_turn 37 11 5 40 := ⟨23, _, _, _, zcf_11, by decide, by decide +kernel, rfl, zT4_of (i := 156) rfl rfl⟩
theorem iX11_turn_40 : zIl zX11_turn 40 1 41 := Or.inl ⟨1, rfl, by decide +kernel, rfl⟩
theorem iX11_turn_41 : zD zX11_turn 41 1 (.iaload) 42 := ⟨by decide +kernel, rfl⟩
theorem iX11_turn_42 : zB zX11_turn 42 (.ifCond .ne) 45 48 := ⟨6, by decide +kernel, rfl, by decide⟩
theorem iX11_turn_45 : zCo zX11_turn 45 (-3) 47 := Or.inr (Or.inl ⟨-3, by decide, by decide +kernel, rfl⟩)
theorem iX11_turn_47 : zD zX11_turn 47 1 (.ireturn) 48 := ⟨by decide +kernel, rfl⟩
theorem iX11_turn_48 : zAl zX11_turn 48 0 49 := Or.inl ⟨0, rfl, by decide +kernel, rfl⟩
theorem iX11_turn_49 : zGf zX11_turn 49 11 5 52 := ⟨23, _, _, _, zcf_11, by decide, by decide +kernel, rfl, zT4_of (i := 156) rfl rfl⟩
theorem iX11_turn_52 : zIl zX11_turn 52 1 53 := Or.inl ⟨1, rfl, by decide +kernel, rfl⟩
theorem iX11_turn_53 : zD zX11_turn 53 1 (.dup2) 54 := ⟨by decide +kernel, rfl⟩
theorem iX11_turn_54 : zD zX11_turn 54 1 (.iaload) 55 := ⟨by decide +kernel, rfl⟩
theorem iX11_turn_55 : zCo zX11_turn 55 (1) 56 := Or.inl ⟨1, by decide, by decide +kernel, rfl⟩
theorem iX11_turn_56 : zD zX11_turn 56 1 (.isub) 57 := ⟨by decide +kernel, rfl⟩
theorem iX11_turn_57 : zD zX11_turn 57 1 (.iastore) 58 := ⟨by decide +kernel, rfl⟩
theorem iX11_turn_58 : zAl zX11_turn 58 0 59 := Or.inl ⟨0, rfl, by decide +kernel, rfl⟩
theorem iX11_turn_59 : zIl zX11_turn 59 1 60 := Or.inl ⟨1, rfl, by decide +kernel, rfl⟩
theorem iX11_turn_60 : zCl zX11_turn 60 .invokevirtual zX11_fresh 63 := ⟨166, by decide +kernel, rfl, Or.inl (zT5_of (i := 130) rfl rfl)⟩
theorem iX11_turn_63 : zAl zX11_turn 63 0 64 := Or.inl ⟨0, rfl, by decide +kernel, rfl⟩
theorem iX11_turn_64 : zGf zX11_turn 64 11 5 67 := ⟨23, _, _, _, zcf_11, by decide, by decide +kernel, rfl, zT4_of (i := 156) rfl rfl⟩
theorem iX11_turn_67 : zIl zX11_turn 67 1 68 := Or.inl ⟨1, rfl, by decide +kernel, rfl⟩
theorem iX11_turn_68 : zD zX11_turn 68 1 (.iaload) 69 := ⟨by decide +kernel, rfl⟩
theorem iX11_turn_69 : zD zX11_turn 69 1 (.ireturn) 70 := ⟨by decide +kernel, rfl⟩
theorem iX11_grind_0 : zAl zX11_grind 0 0 1 := Or.inl ⟨0, rfl, by decide +kernel, rfl⟩
theorem iX11_grind_1 : zIl zX11_grind 1 1 2 := Or.inl ⟨1, rfl, by decide +kernel, rfl⟩
theorem iX11_grind_2 : zCl zX11_grind 2 .invokevirtual zX11_isEdge 5 := ⟨151, by decide +kernel, rfl, Or.inl (zT5_of (i := 105) rfl rfl)⟩
theorem iX11_grind_5 : zB zX11_grind 5 (.ifCond .eq) 8 18 := ⟨13, by decide +kernel, rfl, by decide⟩
theorem iX11_grind_8 : zIl zX11_grind 8 2 9 := Or.inl ⟨2, rfl, by decide +kernel, rfl⟩
theorem iX11_grind_9 : zCo zX11_grind 9 (1) 10 := Or.inl ⟨1, by decide, by decide +kernel, rfl⟩
theorem iX11_grind_10 : zCo zX11_grind 10 (50) 12 := Or.inr (Or.inl ⟨50, by decide, by decide +kernel, rfl⟩)
theorem iX11_grind_12 : zCl zX11_grind 12 .invokestatic zX11_in 15 := ⟨143, by decide +kernel, rfl, Or.inl (zT5_of (i := 95) rfl rfl)⟩
theorem iX11_grind_15 : zB zX11_grind 15 (.ifCond .ne) 18 21 := ⟨6, by decide +kernel, rfl, by decide⟩
theorem iX11_grind_18 : zCo zX11_grind 18 (-2) 20 := Or.inr (Or.inl ⟨-2, by decide, by decide +kernel, rfl⟩)
theorem iX11_grind_20 : zD zX11_grind 20 1 (.ireturn) 21 := ⟨by decide +kernel, rfl⟩
theorem iX11_grind_21 : zAl zX11_grind 21 0 22 := Or.inl ⟨0, rfl, by decide +kernel, rfl⟩
theorem iX11_grind_22 : zGf zX11_grind 22 11 2 25 := ⟨13, _, _, _, zcf_11, by decide, by decide +kernel, rfl, zT4_of (i := 153) rfl rfl⟩
theorem iX11_grind_25 : zIl zX11_grind 25 1 26 := Or.inl ⟨1, rfl, by decide +kernel, rfl⟩
theorem iX11_grind_26 : zD zX11_grind 26 1 (.iaload) 27 := ⟨by decide +kernel, rfl⟩
theorem iX11_grind_27 : zCl zX11_grind 27 .invokestatic zX11_hasCorners 30 := ⟨147, by decide +kernel, rfl, Or.inl (zT5_of (i := 98) rfl rfl)⟩
theorem iX11_grind_30 : zB zX11_grind 30 (.ifCond .eq) 33 36 := ⟨6, by decide +kernel, rfl, by decide⟩
theorem iX11_grind_33 : zCo zX11_grind 33 (-13) 35 := Or.inr (Or.inl ⟨-13, by decide, by decide +kernel, rfl⟩)
theorem iX11_grind_35 : zD zX11_grind 35 1 (.ireturn) 36 := ⟨by decide +kernel, rfl⟩
theorem iX11_grind_36 : zAl zX11_grind 36 0 37 := Or.inl ⟨0, rfl, by decide +kernel, rfl⟩
theorem iX11_grind_37 : zGf zX11_grind 37 11 7 40 := ⟨29, _, _, _, zcf_11, by decide, by decide +kernel, rfl, zT4_of (i := 158) rfl rfl⟩
theorem iX11_grind_40 : zIl zX11_grind 40 1 41 := Or.inl ⟨1, rfl, by decide +kernel, rfl⟩
theorem iX11_grind_41 : zD zX11_grind 41 1 (.iaload) 42 := ⟨by decide +kernel, rfl⟩
theorem iX11_grind_42 : zCo zX11_grind 42 (2) 43 := Or.inl ⟨2, by decide, by decide +kernel, rfl⟩
theorem iX11_grind_43 : zB zX11_grind 43 (.if_icmp .eq) 46 63 := ⟨20, by decide +kernel, rfl, by decide⟩
theorem iX11_grind_46 : zAl zX11_grind 46 0 47 := Or.inl ⟨0, rfl, by decide +kernel, rfl⟩
theorem iX11_grind_47 : zGf zX11_grind 47 11 3 50 := ⟨17, _, _, _, zcf_11, by decide, by decide +kernel, rfl, zT4_of (i := 154) rfl rfl⟩
theorem iX11_grind_50 : zIl zX11_grind 50 1 51 := Or.inl ⟨1, rfl, by decide +kernel, rfl⟩
theorem iX11_grind_51 : zD zX11_grind 51 1 (.iaload) 52 := ⟨by decide +kernel, rfl⟩
theorem iX11_grind_52 : zIl zX11_grind 52 2 53 := Or.inl ⟨2, rfl, by decide +kernel, rfl⟩
theorem iX11_grind_53 : zD zX11_grind 53 1 (.isub) 54 := ⟨by decide +kernel, rfl⟩
theorem iX11_grind_54 : zAl zX11_grind 54 0 55 := Or.inl ⟨0, rfl, by decide +kernel, rfl⟩
theorem iX11_grind_55 : zGf zX11_grind 55 11 4 58 := ⟨20, _, _, _, zcf_11, by decide, by decide +kernel, rfl, zT4_of (i := 155) rfl rfl⟩
theorem iX11_grind_58 : zIl zX11_grind 58 1 59 := Or.inl ⟨1, rfl, by decide +kernel, rfl⟩
theorem iX11_grind_59 : zD zX11_grind 59 1 (.iaload) 60 := ⟨by decide +kernel, rfl⟩
theorem iX11_grind_60 : zB zX11_grind 60 (.if_icmp .ge) 63 66 := ⟨6, by decide +kernel, rfl, by decide⟩
theorem iX11_grind_63 : zCo zX11_grind 63 (-3) 65 := Or.inr (Or.inl ⟨-3, by decide, by decide +kernel, rfl⟩)
theorem iX11_grind_65 : zD zX11_grind 65 1 (.ireturn) 66 := ⟨by decide +kernel, rfl⟩
theorem iX11_grind_66 : zAl zX11_grind 66 0 67 := Or.inl ⟨0, rfl, by decide +kernel, rfl⟩
theorem iX11_grind_67 : zGf zX11_grind 67 11 3 70 := ⟨17, _, _, _, zcf_11, by decide, by decide +kernel, rfl, zT4_of (i := 154) rfl rfl⟩
theorem iX11_grind_70 : zIl zX11_grind 70 1 71 := Or.inl ⟨1, rfl, by decide +kernel, rfl⟩
theorem iX11_grind_71 : zD zX11_grind 71 1 (.dup2) 72 := ⟨by decide +kernel, rfl⟩
theorem iX11_grind_72 : zD zX11_grind 72 1 (.iaload) 73 := ⟨by decide +kernel, rfl⟩
theorem iX11_grind_73 : zIl zX11_grind 73 2 74 := Or.inl ⟨2, rfl, by decide +kernel, rfl⟩
theorem iX11_grind_74 : zD zX11_grind 74 1 (.isub) 75 := ⟨by decide +kernel, rfl⟩
theorem iX11_grind_75 : zD zX11_grind 75 1 (.iastore) 76 := ⟨by decide +kernel, rfl⟩
theorem iX11_grind_76 : zAl zX11_grind 76 0 77 := Or.inl ⟨0, rfl, by decide +kernel, rfl⟩
theorem iX11_grind_77 : zIl zX11_grind 77 1 78 := Or.inl ⟨1, rfl, by decide +kernel, rfl⟩
theorem iX11_grind_78 : zCl zX11_grind 78 .invokevirtual zX11_fresh 81 := ⟨166, by decide +kernel, rfl, Or.inl (zT5_of (i := 130) rfl rfl)⟩
theorem iX11_grind_81 : zAl zX11_grind 81 0 82 := Or.inl ⟨0, rfl, by decide +kernel, rfl⟩
theorem iX11_grind_82 : zGf zX11_grind 82 11 3 85 := ⟨17, _, _, _, zcf_11, by decide, by decide +kernel, rfl, zT4_of (i := 154) rfl rfl⟩
theorem iX11_grind_85 : zIl zX11_grind 85 1 86 := Or.inl ⟨1, rfl, by decide +kernel, rfl⟩
theorem iX11_grind_86 : zD zX11_grind 86 1 (.iaload) 87 := ⟨by decide +kernel, rfl⟩
theorem iX11_grind_87 : zD zX11_grind 87 1 (.ireturn) 88 := ⟨by decide +kernel, rfl⟩
theorem iX11_trail_0 : zAl zX11_trail 0 0 1 := Or.inl ⟨0, rfl, by decide +kernel, rfl⟩
theorem iX11_trail_1 : zIl zX11_trail 1 1 2 := Or.inl ⟨1, rfl, by decide +kernel, rfl⟩
theorem iX11_trail_2 : zCl zX11_trail 2 .invokevirtual zX11_isEdge 5 := ⟨151, by decide +kernel, rfl, Or.inl (zT5_of (i := 105) rfl rfl)⟩
theorem iX11_trail_5 : zB zX11_trail 5 (.ifCond .ne) 8 11 := ⟨6, by decide +kernel, rfl, by decide⟩
theorem iX11_trail_8 : zCo zX11_trail 8 (-2) 10 := Or.inr (Or.inl ⟨-2, by decide, by decide +kernel, rfl⟩)
theorem iX11_trail_10 : zD zX11_trail 10 1 (.ireturn) 11 := ⟨by decide +kernel, rfl⟩
theorem iX11_trail_11 : zIl zX11_trail 11 2 12 := Or.inl ⟨2, rfl, by decide +kernel, rfl⟩
theorem iX11_trail_12 : zCo zX11_trail 12 (0) 13 := Or.inl ⟨0, by decide, by decide +kernel, rfl⟩
theorem iX11_trail_13 : zAl zX11_trail 13 0 14 := Or.inl ⟨0, rfl, by decide +kernel, rfl⟩
theorem iX11_trail_14 : zGf zX11_trail 14 11 14 17 := ⟨51, _, _, _, zcf_11, by decide, by decide +kernel, rfl, zT4_of (i := 165) rfl rfl⟩
theorem iX11_trail_17 : zIl zX11_trail 17 1 18 := Or.inl ⟨1, rfl, by decide +kernel, rfl⟩
theorem iX11_trail_18 : zD zX11_trail 18 1 (.iaload) 19 := ⟨by decide +kernel, rfl⟩
theorem iX11_trail_19 : zCo zX11_trail 19 (1) 20 := Or.inl ⟨1, by decide, by decide +kernel, rfl⟩
theorem iX11_trail_20 : zD zX11_trail 20 1 (.isub) 21 := ⟨by decide +kernel, rfl⟩
theorem iX11_trail_21 : zCl zX11_trail 21 .invokestatic zX11_in 24 := ⟨143, by decide +kernel, rfl, Or.inl (zT5_of (i := 95) rfl rfl)⟩
theorem iX11_trail_24 : zB zX11_trail 24 (.ifCond .eq) 27 41 := ⟨17, by decide +kernel, rfl, by decide⟩
theorem iX11_trail_27 : zAl zX11_trail 27 0 28 := Or.inl ⟨0, rfl, by decide +kernel, rfl⟩
theorem iX11_trail_28 : zGf zX11_trail 28 11 13 31 := ⟨48, _, _, _, zcf_11, by decide, by decide +kernel, rfl, zT4_of (i := 164) rfl rfl⟩
theorem iX11_trail_31 : zCo zX11_trail 31 (8) 33 := Or.inr (Or.inl ⟨8, by decide, by decide +kernel, rfl⟩)
theorem iX11_trail_33 : zIl zX11_trail 33 1 34 := Or.inl ⟨1, rfl, by decide +kernel, rfl⟩
theorem iX11_trail_34 : zD zX11_trail 34 1 (.imul) 35 := ⟨by decide +kernel, rfl⟩
theorem iX11_trail_35 : zIl zX11_trail 35 2 36 := Or.inl ⟨2, rfl, by decide +kernel, rfl⟩
theorem iX11_trail_36 : zD zX11_trail 36 1 (.iadd) 37 := ⟨by decide +kernel, rfl⟩
theorem iX11_trail_37 : zD zX11_trail 37 1 (.iaload) 38 := ⟨by decide +kernel, rfl⟩
theorem iX11_trail_38 : zB zX11_trail 38 .goto 41 42 := ⟨4, by decide +kernel, rfl, by decide⟩
theorem iX11_trail_41 : zCo zX11_trail 41 (-1) 42 := Or.inl ⟨-1, by decide, by decide +kernel, rfl⟩
theorem iX11_trail_42 : zD zX11_trail 42 1 (.ireturn) 43 := ⟨by decide +kernel, rfl⟩
theorem iX11_goesOn_0 : zCo zX11_goesOn 0 (8) 2 := Or.inr (Or.inl ⟨8, by decide, by decide +kernel, rfl⟩)
theorem iX11_goesOn_2 : zIl zX11_goesOn 2 1 3 := Or.inl ⟨1, rfl, by decide +kernel, rfl⟩
theorem iX11_goesOn_3 : zD zX11_goesOn 3 1 (.imul) 4 := ⟨by decide +kernel, rfl⟩
theorem iX11_goesOn_4 : zIs zX11_goesOn 4 3 5 := ⟨by decide, Or.inl ⟨3, rfl, by decide +kernel, rfl⟩⟩
theorem iX11_goesOn_5 : zAl zX11_goesOn 5 0 6 := Or.inl ⟨0, rfl, by decide +kernel, rfl⟩
theorem iX11_goesOn_6 : zGf zX11_goesOn 6 11 14 9 := ⟨51, _, _, _, zcf_11, by decide, by decide +kernel, rfl, zT4_of (i := 165) rfl rfl⟩
theorem iX11_goesOn_9 : zIl zX11_goesOn 9 1 10 := Or.inl ⟨1, rfl, by decide +kernel, rfl⟩
theorem iX11_goesOn_10 : zD zX11_goesOn 10 1 (.iaload) 11 := ⟨by decide +kernel, rfl⟩
theorem iX11_goesOn_11 : zB zX11_goesOn 11 (.ifCond .le) 14 34 := ⟨23, by decide +kernel, rfl, by decide⟩
theorem iX11_goesOn_14 : zAl zX11_goesOn 14 0 15 := Or.inl ⟨0, rfl, by decide +kernel, rfl⟩
theorem iX11_goesOn_15 : zGf zX11_goesOn 15 11 13 18 := ⟨48, _, _, _, zcf_11, by decide, by decide +kernel, rfl, zT4_of (i := 164) rfl rfl⟩
theorem iX11_goesOn_18 : zIl zX11_goesOn 18 3 19 := Or.inl ⟨3, rfl, by decide +kernel, rfl⟩
theorem iX11_goesOn_19 : zAl zX11_goesOn 19 0 20 := Or.inl ⟨0, rfl, by decide +kernel, rfl⟩
theorem iX11_goesOn_20 : zGf zX11_goesOn 20 11 14 23 := ⟨51, _, _, _, zcf_11, by decide, by decide +kernel, rfl, zT4_of (i := 165) rfl rfl⟩
theorem iX11_goesOn_23 : zIl zX11_goesOn 23 1 24 := Or.inl ⟨1, rfl, by decide +kernel, rfl⟩
theorem iX11_goesOn_24 : zD zX11_goesOn 24 1 (.iaload) 25 := ⟨by decide +kernel, rfl⟩
theorem iX11_goesOn_25 : zD zX11_goesOn 25 1 (.iadd) 26 := ⟨by decide +kernel, rfl⟩
theorem iX11_goesOn_26 : zCo zX11_goesOn 26 (1) 27 := Or.inl ⟨1, by decide, by decide +kernel, rfl⟩
theorem iX11_goesOn_27 : zD zX11_goesOn 27 1 (.isub) 28 := ⟨by decide +kernel, rfl⟩
theorem iX11_goesOn_28 : zD zX11_goesOn 28 1 (.iaload) 29 := ⟨by decide +kernel, rfl⟩
theorem iX11_goesOn_29 : zIl zX11_goesOn 29 2 30 := Or.inl ⟨2, rfl, by decide +kernel, rfl⟩
theorem iX11_goesOn_30 : zB zX11_goesOn 30 (.if_icmp .ne) 33 34 := ⟨4, by decide +kernel, rfl, by decide⟩
theorem iX11_goesOn_33 : zD zX11_goesOn 33 1 (.return_) 34 := ⟨by decide +kernel, rfl⟩
theorem iX11_goesOn_34 : zAl zX11_goesOn 34 0 35 := Or.inl ⟨0, rfl, by decide +kernel, rfl⟩
theorem iX11_goesOn_35 : zGf zX11_goesOn 35 11 14 38 := ⟨51, _, _, _, zcf_11, by decide, by decide +kernel, rfl, zT4_of (i := 165) rfl rfl⟩
theorem iX11_goesOn_38 : zIl zX11_goesOn 38 1 39 := Or.inl ⟨1, rfl, by decide +kernel, rfl⟩
theorem iX11_goesOn_39 : zD zX11_goesOn 39 1 (.iaload) 40 := ⟨by decide +kernel, rfl⟩
theorem iX11_goesOn_40 : zCo zX11_goesOn 40 (8) 42 := Or.inr (Or.inl ⟨8, by decide, by decide +kernel, rfl⟩)
theorem iX11_goesOn_42 : zB zX11_goesOn 42 (.if_icmp .ne) 45 91 := ⟨49, by decide +kernel, rfl, by decide⟩
theorem iX11_goesOn_45 : zCo zX11_goesOn 45 (1) 46 := Or.inl ⟨1, by decide, by decide +kernel, rfl⟩
theorem iX11_goesOn_46 : zIs zX11_goesOn 46 4 48 := ⟨by decide, Or.inr ⟨by decide +kernel, rfl⟩⟩
theorem iX11_goesOn_48 : zIl zX11_goesOn 48 4 50 := Or.inr ⟨by decide +kernel, rfl⟩
theorem iX11_goesOn_50 : zCo zX11_goesOn 50 (8) 52 := Or.inr (Or.inl ⟨8, by decide, by decide +kernel, rfl⟩)
theorem iX11_goesOn_52 : zB zX11_goesOn 52 (.if_icmp .ge) 55 81 := ⟨29, by decide +kernel, rfl, by decide⟩
theorem iX11_goesOn_55 : zAl zX11_goesOn 55 0 56 := Or.inl ⟨0, rfl, by decide +kernel, rfl⟩
theorem iX11_goesOn_56 : zGf zX11_goesOn 56 11 13 59 := ⟨48, _, _, _, zcf_11, by decide, by decide +kernel, rfl, zT4_of (i := 164) rfl rfl⟩
theorem iX11_goesOn_59 : zIl zX11_goesOn 59 3 60 := Or.inl ⟨3, rfl, by decide +kernel, rfl⟩
theorem iX11_goesOn_60 : zIl zX11_goesOn 60 4 62 := Or.inr ⟨by decide +kernel, rfl⟩
theorem iX11_goesOn_62 : zD zX11_goesOn 62 1 (.iadd) 63 := ⟨by decide +kernel, rfl⟩
theorem iX11_goesOn_63 : zCo zX11_goesOn 63 (1) 64 := Or.inl ⟨1, by decide, by decide +kernel, rfl⟩
theorem iX11_goesOn_64 : zD zX11_goesOn 64 1 (.isub) 65 := ⟨by decide +kernel, rfl⟩
theorem iX11_goesOn_65 : zAl zX11_goesOn 65 0 66 := Or.inl ⟨0, rfl, by decide +kernel, rfl⟩
theorem iX11_goesOn_66 : zGf zX11_goesOn 66 11 13 69 := ⟨48, _, _, _, zcf_11, by decide, by decide +kernel, rfl, zT4_of (i := 164) rfl rfl⟩
theorem iX11_goesOn_69 : zIl zX11_goesOn 69 3 70 := Or.inl ⟨3, rfl, by decide +kernel, rfl⟩
theorem iX11_goesOn_70 : zIl zX11_goesOn 70 4 72 := Or.inr ⟨by decide +kernel, rfl⟩
theorem iX11_goesOn_72 : zD zX11_goesOn 72 1 (.iadd) 73 := ⟨by decide +kernel, rfl⟩
theorem iX11_goesOn_73 : zD zX11_goesOn 73 1 (.iaload) 74 := ⟨by decide +kernel, rfl⟩
theorem iX11_goesOn_74 : zD zX11_goesOn 74 1 (.iastore) 75 := ⟨by decide +kernel, rfl⟩
theorem iX11_goesOn_75 : zIn zX11_goesOn 75 4 (1) 78 := ⟨by decide, 1, by decide, by decide +kernel, rfl⟩
theorem iX11_goesOn_78 : zB zX11_goesOn 78 .goto 81 48 := ⟨-30, by decide +kernel, rfl, by decide⟩
theorem iX11_goesOn_81 : zAl zX11_goesOn 81 0 82 := Or.inl ⟨0, rfl, by decide +kernel, rfl⟩
theorem iX11_goesOn_82 : zGf zX11_goesOn 82 11 14 85 := ⟨51, _, _, _, zcf_11, by decide, by decide +kernel, rfl, zT4_of (i := 165) rfl rfl⟩
theorem iX11_goesOn_85 : zIl zX11_goesOn 85 1 86 := Or.inl ⟨1, rfl, by decide +kernel, rfl⟩
theorem iX11_goesOn_86 : zD zX11_goesOn 86 1 (.dup2) 87 := ⟨by decide +kernel, rfl⟩
theorem iX11_goesOn_87 : zD zX11_goesOn 87 1 (.iaload) 88 := ⟨by decide +kernel, rfl⟩
theorem iX11_goesOn_88 : zCo zX11_goesOn 88 (1) 89 := Or.inl ⟨1, by decide, by decide +kernel, rfl⟩
theorem iX11_goesOn_89 : zD zX11_goesOn 89 1 (.isub) 90 := ⟨by decide +kernel, rfl⟩
theorem iX11_goesOn_90 : zD zX11_goesOn 90 1 (.iastore) 91 := ⟨by decide +kernel, rfl⟩
theorem iX11_goesOn_91 : zAl zX11_goesOn 91 0 92 := Or.inl ⟨0, rfl, by decide +kernel, rfl⟩
theorem iX11_goesOn_92 : zGf zX11_goesOn 92 11 13 95 := ⟨48, _, _, _, zcf_11, by decide, by decide +kernel, rfl, zT4_of (i := 164) rfl rfl⟩
theorem iX11_goesOn_95 : zIl zX11_goesOn 95 3 96 := Or.inl ⟨3, rfl, by decide +kernel, rfl⟩
theorem iX11_goesOn_96 : zAl zX11_goesOn 96 0 97 := Or.inl ⟨0, rfl, by decide +kernel, rfl⟩
theorem iX11_goesOn_97 : zGf zX11_goesOn 97 11 14 100 := ⟨51, _, _, _, zcf_11, by decide, by decide +kernel, rfl, zT4_of (i := 165) rfl rfl⟩
theorem iX11_goesOn_100 : zIl zX11_goesOn 100 1 101 := Or.inl ⟨1, rfl, by decide +kernel, rfl⟩
theorem iX11_goesOn_101 : zD zX11_goesOn 101 1 (.iaload) 102 := ⟨by decide +kernel, rfl⟩
theorem iX11_goesOn_102 : zD zX11_goesOn 102 1 (.iadd) 103 := ⟨by decide +kernel, rfl⟩
theorem iX11_goesOn_103 : zIl zX11_goesOn 103 2 104 := Or.inl ⟨2, rfl, by decide +kernel, rfl⟩
theorem iX11_goesOn_104 : zD zX11_goesOn 104 1 (.iastore) 105 := ⟨by decide +kernel, rfl⟩
theorem iX11_goesOn_105 : zAl zX11_goesOn 105 0 106 := Or.inl ⟨0, rfl, by decide +kernel, rfl⟩
theorem iX11_goesOn_106 : zGf zX11_goesOn 106 11 14 109 := ⟨51, _, _, _, zcf_11, by decide, by decide +kernel, rfl, zT4_of (i := 165) rfl rfl⟩
theorem iX11_goesOn_109 : zIl zX11_goesOn 109 1 110 := Or.inl ⟨1, rfl, by decide +kernel, rfl⟩
theorem iX11_goesOn_110 : zD zX11_goesOn 110 1 (.dup2) 111 := ⟨by decide +kernel, rfl⟩
theorem iX11_goesOn_111 : zD zX11_goesOn 111 1 (.iaload) 112 := ⟨by decide +kernel, rfl⟩
theorem iX11_goesOn_112 : zCo zX11_goesOn 112 (1) 113 := Or.inl ⟨1, by decide, by decide +kernel, rfl⟩
theorem iX11_goesOn_113 : zD zX11_goesOn 113 1 (.iadd) 114 := ⟨by decide +kernel, rfl⟩
theorem iX11_goesOn_114 : zD zX11_goesOn 114 1 (.iastore) 115 := ⟨by decide +kernel, rfl⟩
theorem iX11_goesOn_115 : zD zX11_goesOn 115 1 (.return_) 116 := ⟨by decide +kernel, rfl⟩
theorem iX11_isTool_0 : zIl zX11_isTool 0 1 1 := Or.inl ⟨1, rfl, by decide +kernel, rfl⟩
theorem iX11_isTool_1 : zCo zX11_isTool 1 (0) 2 := Or.inl ⟨0, by decide, by decide +kernel, rfl⟩
theorem iX11_isTool_2 : zAl zX11_isTool 2 0 3 := Or.inl ⟨0, rfl, by decide +kernel, rfl⟩
theorem iX11_isTool_3 : zGf zX11_isTool 3 11 15 6 := ⟨170, _, _, _, zcf_11, by decide, by decide +kernel, rfl, zT4_of (i := 166) rfl rfl⟩
theorem iX11_isTool_6 : zCo zX11_isTool 6 (1) 7 := Or.inl ⟨1, by decide, by decide +kernel, rfl⟩
theorem iX11_isTool_7 : zD zX11_isTool 7 1 (.isub) 8 := ⟨by decide +kernel, rfl⟩
theorem iX11_isTool_8 : zCl zX11_isTool 8 .invokestatic zX11_in 11 := ⟨143, by decide +kernel, rfl, Or.inl (zT5_of (i := 95) rfl rfl)⟩
theorem iX11_isTool_11 : zD zX11_isTool 11 1 (.ireturn) 12 := ⟨by decide +kernel, rfl⟩
theorem iX11_tool_0 : zIl zX11_tool 0 1 1 := Or.inl ⟨1, rfl, by decide +kernel, rfl⟩
theorem iX11_tool_1 : zCo zX11_tool 1 (20) 3 := Or.inr (Or.inl ⟨20, by decide, by decide +kernel, rfl⟩)
theorem iX11_tool_3 : zCo zX11_tool 3 (300) 6 := Or.inr (Or.inr (Or.inl ⟨300, by decide, by decide +kernel, rfl⟩))
theorem iX11_tool_6 : zCl zX11_tool 6 .invokestatic zX11_in 9 := ⟨143, by decide +kernel, rfl, Or.inl (zT5_of (i := 95) rfl rfl)⟩
theorem iX11_tool_9 : zB zX11_tool 9 (.ifCond .eq) 12 40 := ⟨31, by decide +kernel, rfl, by decide⟩
theorem iX11_tool_12 : zAl zX11_tool 12 0 13 := Or.inl ⟨0, rfl, by decide +kernel, rfl⟩
theorem iX11_tool_13 : zIl zX11_tool 13 2 14 := Or.inl ⟨2, rfl, by decide +kernel, rfl⟩
theorem iX11_tool_14 : zCl zX11_tool 14 .invokevirtual zX11_isEdge 17 := ⟨151, by decide +kernel, rfl, Or.inl (zT5_of (i := 105) rfl rfl)⟩
theorem iX11_tool_17 : zB zX11_tool 17 (.ifCond .eq) 20 40 := ⟨23, by decide +kernel, rfl, by decide⟩
theorem iX11_tool_20 : zIl zX11_tool 20 3 21 := Or.inl ⟨3, rfl, by decide +kernel, rfl⟩
theorem iX11_tool_21 : zCo zX11_tool 21 (1) 22 := Or.inl ⟨1, by decide, by decide +kernel, rfl⟩
theorem iX11_tool_22 : zCo zX11_tool 22 (3) 23 := Or.inl ⟨3, by decide, by decide +kernel, rfl⟩
theorem iX11_tool_23 : zCl zX11_tool 23 .invokestatic zX11_in 26 := ⟨143, by decide +kernel, rfl, Or.inl (zT5_of (i := 95) rfl rfl)⟩
theorem iX11_tool_26 : zB zX11_tool 26 (.ifCond .eq) 29 40 := ⟨14, by decide +kernel, rfl, by decide⟩
theorem iX11_tool_29 : zIl zX11_tool 29 4 31 := Or.inr ⟨by decide +kernel, rfl⟩
theorem iX11_tool_31 : zCo zX11_tool 31 (0) 32 := Or.inl ⟨0, by decide, by decide +kernel, rfl⟩
theorem iX11_tool_32 : zCo zX11_tool 32 (9) 34 := Or.inr (Or.inl ⟨9, by decide, by decide +kernel, rfl⟩)
theorem iX11_tool_34 : zCl zX11_tool 34 .invokestatic zX11_in 37 := ⟨143, by decide +kernel, rfl, Or.inl (zT5_of (i := 95) rfl rfl)⟩
theorem iX11_tool_37 : zB zX11_tool 37 (.ifCond .ne) 40 43 := ⟨6, by decide +kernel, rfl, by decide⟩
theorem iX11_tool_40 : zCo zX11_tool 40 (-2) 42 := Or.inr (Or.inl ⟨-2, by decide, by decide +kernel, rfl⟩)
theorem iX11_tool_42 : zD zX11_tool 42 1 (.ireturn) 43 := ⟨by decide +kernel, rfl⟩
theorem iX11_tool_43 : zAl zX11_tool 43 0 44 := Or.inl ⟨0, rfl, by decide +kernel, rfl⟩
theorem iX11_tool_44 : zGf zX11_tool 44 11 12 47 := ⟨45, _, _, _, zcf_11, by decide, by decide +kernel, rfl, zT4_of (i := 163) rfl rfl⟩
theorem iX11_tool_47 : zIl zX11_tool 47 2 48 := Or.inl ⟨2, rfl, by decide +kernel, rfl⟩
theorem iX11_tool_48 : zD zX11_tool 48 1 (.iaload) 49 := ⟨by decide +kernel, rfl⟩
theorem iX11_tool_49 : zCo zX11_tool 49 (-1) 50 := Or.inl ⟨-1, by decide, by decide +kernel, rfl⟩
theorem iX11_tool_50 : zB zX11_tool 50 (.if_icmp .eq) 53 56 := ⟨6, by decide +kernel, rfl, by decide⟩
theorem iX11_tool_53 : zCo zX11_tool 53 (-3) 55 := Or.inr (Or.inl ⟨-3, by decide, by decide +kernel, rfl⟩)
theorem iX11_tool_55 : zD zX11_tool 55 1 (.ireturn) 56 := ⟨by decide +kernel, rfl⟩
theorem iX11_tool_56 : zAl zX11_tool 56 0 57 := Or.inl ⟨0, rfl, by decide +kernel, rfl⟩
theorem iX11_tool_57 : zGf zX11_tool 57 11 15 60 := ⟨170, _, _, _, zcf_11, by decide, by decide +kernel, rfl, zT4_of (i := 166) rfl rfl⟩
theorem iX11_tool_60 : zCo zX11_tool 60 (10) 62 := Or.inr (Or.inl ⟨10, by decide, by decide +kernel, rfl⟩)
theorem iX11_tool_62 : zB zX11_tool 62 (.if_icmp .ne) 65 68 := ⟨6, by decide +kernel, rfl, by decide⟩
theorem iX11_tool_65 : zCo zX11_tool 65 (-4) 67 := Or.inr (Or.inl ⟨-4, by decide, by decide +kernel, rfl⟩)
theorem iX11_tool_67 : zD zX11_tool 67 1 (.ireturn) 68 := ⟨by decide +kernel, rfl⟩
theorem iX11_tool_68 : zAl zX11_tool 68 0 69 := Or.inl ⟨0, rfl, by decide +kernel, rfl⟩
theorem iX11_tool_69 : zGf zX11_tool 69 11 16 72 := ⟨54, _, _, _, zcf_11, by decide, by decide +kernel, rfl, zT4_of (i := 167) rfl rfl⟩
theorem iX11_tool_72 : zAl zX11_tool 72 0 73 := Or.inl ⟨0, rfl, by decide +kernel, rfl⟩
theorem iX11_tool_73 : zGf zX11_tool 73 11 15 76 := ⟨170, _, _, _, zcf_11, by decide, by decide +kernel, rfl, zT4_of (i := 166) rfl rfl⟩
theorem iX11_tool_76 : zIl zX11_tool 76 1 77 := Or.inl ⟨1, rfl, by decide +kernel, rfl⟩
theorem iX11_tool_77 : zD zX11_tool 77 1 (.iastore) 78 := ⟨by decide +kernel, rfl⟩
theorem iX11_tool_78 : zAl zX11_tool 78 0 79 := Or.inl ⟨0, rfl, by decide +kernel, rfl⟩
theorem iX11_tool_79 : zGf zX11_tool 79 11 17 82 := ⟨57, _, _, _, zcf_11, by decide, by decide +kernel, rfl, zT4_of (i := 168) rfl rfl⟩
theorem iX11_tool_82 : zAl zX11_tool 82 0 83 := Or.inl ⟨0, rfl, by decide +kernel, rfl⟩
theorem iX11_tool_83 : zGf zX11_tool 83 11 15 86 := ⟨170, _, _, _, zcf_11, by decide, by decide +kernel, rfl, zT4_of (i := 166) rfl rfl⟩
theorem iX11_tool_86 : zIl zX11_tool 86 2 87 := Or.inl ⟨2, rfl, by decide +kernel, rfl⟩
theorem iX11_tool_87 : zD zX11_tool 87 1 (.iastore) 88 := ⟨by decide +kernel, rfl⟩
theorem iX11_tool_88 : zAl zX11_tool 88 0 89 := Or.inl ⟨0, rfl, by decide +kernel, rfl⟩
theorem iX11_tool_89 : zGf zX11_tool 89 11 18 92 := ⟨60, _, _, _, zcf_11, by decide, by decide +kernel, rfl, zT4_of (i := 169) rfl rfl⟩
theorem iX11_tool_92 : zAl zX11_tool 92 0 93 := Or.inl ⟨0, rfl, by decide +kernel, rfl⟩
theorem iX11_tool_93 : zGf zX11_tool 93 11 15 96 := ⟨170, _, _, _, zcf_11, by decide, by decide +kernel, rfl, zT4_of (i := 166) rfl rfl⟩
theorem iX11_tool_96 : zIl zX11_tool 96 3 97 := Or.inl ⟨3, rfl, by decide +kernel, rfl⟩
theorem iX11_tool_97 : zD zX11_tool 97 1 (.iastore) 98 := ⟨by decide +kernel, rfl⟩
theorem iX11_tool_98 : zAl zX11_tool 98 0 99 := Or.inl ⟨0, rfl, by decide +kernel, rfl⟩
theorem iX11_tool_99 : zGf zX11_tool 99 11 19 102 := ⟨63, _, _, _, zcf_11, by decide, by decide +kernel, rfl, zT4_of (i := 170) rfl rfl⟩
theorem iX11_tool_102 : zAl zX11_tool 102 0 103 := Or.inl ⟨0, rfl, by decide +kernel, rfl⟩
theorem iX11_tool_103 : zGf zX11_tool 103 11 15 106 := ⟨170, _, _, _, zcf_11, by decide, by decide +kernel, rfl, zT4_of (i := 166) rfl rfl⟩
theorem iX11_tool_106 : zIl zX11_tool 106 4 108 := Or.inr ⟨by decide +kernel, rfl⟩
theorem iX11_tool_108 : zD zX11_tool 108 1 (.iastore) 109 := ⟨by decide +kernel, rfl⟩
theorem iX11_tool_109 : zAl zX11_tool 109 0 110 := Or.inl ⟨0, rfl, by decide +kernel, rfl⟩
theorem iX11_tool_110 : zGf zX11_tool 110 11 20 113 := ⟨66, _, _, _, zcf_11, by decide, by decide +kernel, rfl, zT4_of (i := 171) rfl rfl⟩
theorem iX11_tool_113 : zAl zX11_tool 113 0 114 := Or.inl ⟨0, rfl, by decide +kernel, rfl⟩
theorem iX11_tool_114 : zGf zX11_tool 114 11 15 117 := ⟨170, _, _, _, zcf_11, by decide, by decide +kernel, rfl, zT4_of (i := 166) rfl rfl⟩
theorem iX11_tool_117 : zCo zX11_tool 117 (0) 118 := Or.inl ⟨0, by decide, by decide +kernel, rfl⟩
theorem iX11_tool_118 : zD zX11_tool 118 1 (.iastore) 119 := ⟨by decide +kernel, rfl⟩
theorem iX11_tool_119 : zAl zX11_tool 119 0 120 := Or.inl ⟨0, rfl, by decide +kernel, rfl⟩
theorem iX11_tool_120 : zGf zX11_tool 120 11 21 123 := ⟨69, _, _, _, zcf_11, by decide, by decide +kernel, rfl, zT4_of (i := 172) rfl rfl⟩
theorem iX11_tool_123 : zAl zX11_tool 123 0 124 := Or.inl ⟨0, rfl, by decide +kernel, rfl⟩
theorem iX11_tool_124 : zGf zX11_tool 124 11 15 127 := ⟨170, _, _, _, zcf_11, by decide, by decide +kernel, rfl, zT4_of (i := 166) rfl rfl⟩
theorem iX11_tool_127 : zCo zX11_tool 127 (-1) 128 := Or.inl ⟨-1, by decide, by decide +kernel, rfl⟩
theorem iX11_tool_128 : zD zX11_tool 128 1 (.iastore) 129 := ⟨by decide +kernel, rfl⟩
theorem iX11_tool_129 : zAl zX11_tool 129 0 130 := Or.inl ⟨0, rfl, by decide +kernel, rfl⟩
theorem iX11_tool_130 : zGf zX11_tool 130 11 22 133 := ⟨72, _, _, _, zcf_11, by decide, by decide +kernel, rfl, zT4_of (i := 173) rfl rfl⟩
theorem iX11_tool_133 : zAl zX11_tool 133 0 134 := Or.inl ⟨0, rfl, by decide +kernel, rfl⟩
theorem iX11_tool_134 : zGf zX11_tool 134 11 15 137 := ⟨170, _, _, _, zcf_11, by decide, by decide +kernel, rfl, zT4_of (i := 166) rfl rfl⟩
theorem iX11_tool_137 : zCo zX11_tool 137 (-1) 138 := Or.inl ⟨-1, by decide, by decide +kernel, rfl⟩
theorem iX11_tool_138 : zD zX11_tool 138 1 (.iastore) 139 := ⟨by decide +kernel, rfl⟩
theorem iX11_tool_139 : zAl zX11_tool 139 0 140 := Or.inl ⟨0, rfl, by decide +kernel, rfl⟩
theorem iX11_tool_140 : zGf zX11_tool 140 11 12 143 := ⟨45, _, _, _, zcf_11, by decide, by decide +kernel, rfl, zT4_of (i := 163) rfl rfl⟩
theorem iX11_tool_143 : zIl zX11_tool 143 2 144 := Or.inl ⟨2, rfl, by decide +kernel, rfl⟩
theorem iX11_tool_144 : zAl zX11_tool 144 0 145 := Or.inl ⟨0, rfl, by decide +kernel, rfl⟩
theorem iX11_tool_145 : zGf zX11_tool 145 11 15 148 := ⟨170, _, _, _, zcf_11, by decide, by decide +kernel, rfl, zT4_of (i := 166) rfl rfl⟩
theorem iX11_tool_148 : zD zX11_tool 148 1 (.iastore) 149 := ⟨by decide +kernel, rfl⟩
theorem iX11_tool_149 : zAl zX11_tool 149 0 150 := Or.inl ⟨0, rfl, by decide +kernel, rfl⟩
theorem iX11_tool_150 : zD zX11_tool 150 1 (.dup) 151 := ⟨by decide +kernel, rfl⟩
theorem iX11_tool_151 : zGf zX11_tool 151 11 15 154 := ⟨170, _, _, _, zcf_11, by decide, by decide +kernel, rfl, zT4_of (i := 166) rfl rfl⟩
theorem iX11_tool_154 : zCo zX11_tool 154 (1) 155 := Or.inl ⟨1, by decide, by decide +kernel, rfl⟩
theorem iX11_tool_155 : zD zX11_tool 155 1 (.iadd) 156 := ⟨by decide +kernel, rfl⟩
theorem iX11_tool_156 : zPf zX11_tool 156 11 15 .int 159 := ⟨170, _, _, _, zcf_11, by decide, by decide +kernel, rfl, zT4_of (i := 166) rfl rfl, by decide +kernel, Or.inl rfl⟩
theorem iX11_tool_159 : zAl zX11_tool 159 0 160 := Or.inl ⟨0, rfl, by decide +kernel, rfl⟩
theorem iX11_tool_160 : zGf zX11_tool 160 11 15 163 := ⟨170, _, _, _, zcf_11, by decide, by decide +kernel, rfl, zT4_of (i := 166) rfl rfl⟩
theorem iX11_tool_163 : zCo zX11_tool 163 (1) 164 := Or.inl ⟨1, by decide, by decide +kernel, rfl⟩
theorem iX11_tool_164 : zD zX11_tool 164 1 (.isub) 165 := ⟨by decide +kernel, rfl⟩
theorem iX11_tool_165 : zD zX11_tool 165 1 (.ireturn) 166 := ⟨by decide +kernel, rfl⟩
theorem iX11_nominal_0 : zAl zX11_nominal 0 0 1 := Or.inl ⟨0, rfl, by decide +kernel, rfl⟩
theorem iX11_nominal_1 : zGf zX11_nominal 1 11 16 4 := ⟨54, _, _, _, zcf_11, by decide, by decide +kernel, rfl, zT4_of (i := 167) rfl rfl⟩
theorem iX11_nominal_4 : zIl zX11_nominal 4 1 5 := Or.inl ⟨1, rfl, by decide +kernel, rfl⟩
theorem iX11_nominal_5 : zD zX11_nominal 5 1 (.iaload) 6 := ⟨by decide +kernel, rfl⟩
theorem iX11_nominal_6 : zAl zX11_nominal 6 0 7 := Or.inl ⟨0, rfl, by decide +kernel, rfl⟩
theorem iX11_nominal_7 : zGf zX11_nominal 7 11 3 10 := ⟨17, _, _, _, zcf_11, by decide, by decide +kernel, rfl, zT4_of (i := 154) rfl rfl⟩
theorem iX11_nominal_10 : zAl zX11_nominal 10 0 11 := Or.inl ⟨0, rfl, by decide +kernel, rfl⟩
theorem iX11_nominal_11 : zGf zX11_nominal 11 11 17 14 := ⟨57, _, _, _, zcf_11, by decide, by decide +kernel, rfl, zT4_of (i := 168) rfl rfl⟩
theorem iX11_nominal_14 : zIl zX11_nominal 14 1 15 := Or.inl ⟨1, rfl, by decide +kernel, rfl⟩
theorem iX11_nominal_15 : zD zX11_nominal 15 1 (.iaload) 16 := ⟨by decide +kernel, rfl⟩
theorem iX11_nominal_16 : zD zX11_nominal 16 1 (.iaload) 17 := ⟨by decide +kernel, rfl⟩
theorem iX11_nominal_17 : zD zX11_nominal 17 1 (.iadd) 18 := ⟨by decide +kernel, rfl⟩
theorem iX11_nominal_18 : zD zX11_nominal 18 1 (.ireturn) 19 := ⟨by decide +kernel, rfl⟩
theorem iX11_toolTold_0 : zAl zX11_toolTold 0 0 1 := Or.inl ⟨0, rfl, by decide +kernel, rfl⟩
theorem iX11_toolTold_1 : zIl zX11_toolTold 1 1 2 := Or.inl ⟨1, rfl, by decide +kernel, rfl⟩
theorem iX11_toolTold_2 : zCl zX11_toolTold 2 .invokevirtual zX11_isTool 5 := ⟨173, by decide +kernel, rfl, Or.inl (zT5_of (i := 150) rfl rfl)⟩
theorem iX11_toolTold_5 : zB zX11_toolTold 5 (.ifCond .ne) 8 11 := ⟨6, by decide +kernel, rfl, by decide⟩
theorem iX11_toolTold_8 : zCo zX11_toolTold 8 (-2) 10 := Or.inr (Or.inl ⟨-2, by decide, by decide +kernel, rfl⟩)
theorem iX11_toolTold_10 : zD zX11_toolTold 10 1 (.ireturn) 11 := ⟨by decide +kernel, rfl⟩
theorem iX11_toolTold_11 : zIl zX11_toolTold 11 2 12 := Or.inl ⟨2, rfl, by decide +kernel, rfl⟩
theorem iX11_toolTold_12 : zSw zX11_toolTold 12 (0) [60, 67, 74, 81, 88, 94, 101, 108] 115 := ⟨7, #[48, 55, 62, 69, 76, 82, 89, 96], 103, 48, by decide +kernel, by decide, by decide, by decide⟩
theorem iX11_toolTold_60 : zAl zX11_toolTold 60 0 61 := Or.inl ⟨0, rfl, by decide +kernel, rfl⟩
theorem iX11_toolTold_61 : zGf zX11_toolTold 61 11 16 64 := ⟨54, _, _, _, zcf_11, by decide, by decide +kernel, rfl, zT4_of (i := 167) rfl rfl⟩
theorem iX11_toolTold_64 : zIl zX11_toolTold 64 1 65 := Or.inl ⟨1, rfl, by decide +kernel, rfl⟩
theorem iX11_toolTold_65 : zD zX11_toolTold 65 1 (.iaload) 66 := ⟨by decide +kernel, rfl⟩
theorem iX11_toolTold_66 : zD zX11_toolTold 66 1 (.ireturn) 67 := ⟨by decide +kernel, rfl⟩
theorem iX11_toolTold_67 : zAl zX11_toolTold 67 0 68 := Or.inl ⟨0, rfl, by decide +kernel, rfl⟩
theorem iX11_toolTold_68 : zGf zX11_toolTold 68 11 17 71 := ⟨57, _, _, _, zcf_11, by decide, by decide +kernel, rfl, zT4_of (i := 168) rfl rfl⟩
theorem iX11_toolTold_71 : zIl zX11_toolTold 71 1 72 := Or.inl ⟨1, rfl, by decide +kernel, rfl⟩
theorem iX11_toolTold_72 : zD zX11_toolTold 72 1 (.iaload) 73 := ⟨by decide +kernel, rfl⟩
theorem iX11_toolTold_73 : zD zX11_toolTold 73 1 (.ireturn) 74 := ⟨by decide +kernel, rfl⟩
theorem iX11_toolTold_74 : zAl zX11_toolTold 74 0 75 := Or.inl ⟨0, rfl, by decide +kernel, rfl⟩
theorem iX11_toolTold_75 : zGf zX11_toolTold 75 11 18 78 := ⟨60, _, _, _, zcf_11, by decide, by decide +kernel, rfl, zT4_of (i := 169) rfl rfl⟩
theorem iX11_toolTold_78 : zIl zX11_toolTold 78 1 79 := Or.inl ⟨1, rfl, by decide +kernel, rfl⟩
theorem iX11_toolTold_79 : zD zX11_toolTold 79 1 (.iaload) 80 := ⟨by decide +kernel, rfl⟩
theorem iX11_toolTold_80 : zD zX11_toolTold 80 1 (.ireturn) 81 := ⟨by decide +kernel, rfl⟩
theorem iX11_toolTold_81 : zAl zX11_toolTold 81 0 82 := Or.inl ⟨0, rfl, by decide +kernel, rfl⟩
theorem iX11_toolTold_82 : zGf zX11_toolTold 82 11 19 85 := ⟨63, _, _, _, zcf_11, by decide, by decide +kernel, rfl, zT4_of (i := 170) rfl rfl⟩
theorem iX11_toolTold_85 : zIl zX11_toolTold 85 1 86 := Or.inl ⟨1, rfl, by decide +kernel, rfl⟩
theorem iX11_toolTold_86 : zD zX11_toolTold 86 1 (.iaload) 87 := ⟨by decide +kernel, rfl⟩
theorem iX11_toolTold_87 : zD zX11_toolTold 87 1 (.ireturn) 88 := ⟨by decide +kernel, rfl⟩
theorem iX11_toolTold_88 : zAl zX11_toolTold 88 0 89 := Or.inl ⟨0, rfl, by decide +kernel, rfl⟩
theorem iX11_toolTold_89 : zIl zX11_toolTold 89 1 90 := Or.inl ⟨1, rfl, by decide +kernel, rfl⟩
theorem iX11_toolTold_90 : zCl zX11_toolTold 90 .invokevirtual zX11_nominal 93 := ⟨176, by decide +kernel, rfl, Or.inl (zT5_of (i := 154) rfl rfl)⟩
theorem iX11_toolTold_93 : zD zX11_toolTold 93 1 (.ireturn) 94 := ⟨by decide +kernel, rfl⟩
theorem iX11_toolTold_94 : zAl zX11_toolTold 94 0 95 := Or.inl ⟨0, rfl, by decide +kernel, rfl⟩
theorem iX11_toolTold_95 : zGf zX11_toolTold 95 11 20 98 := ⟨66, _, _, _, zcf_11, by decide, by decide +kernel, rfl, zT4_of (i := 171) rfl rfl⟩
theorem iX11_toolTold_98 : zIl zX11_toolTold 98 1 99 := Or.inl ⟨1, rfl, by decide +kernel, rfl⟩
theorem iX11_toolTold_99 : zD zX11_toolTold 99 1 (.iaload) 100 := ⟨by decide +kernel, rfl⟩
theorem iX11_toolTold_100 : zD zX11_toolTold 100 1 (.ireturn) 101 := ⟨by decide +kernel, rfl⟩
theorem iX11_toolTold_101 : zAl zX11_toolTold 101 0 102 := Or.inl ⟨0, rfl, by decide +kernel, rfl⟩
theorem iX11_toolTold_102 : zGf zX11_toolTold 102 11 21 105 := ⟨69, _, _, _, zcf_11, by decide, by decide +kernel, rfl, zT4_of (i := 172) rfl rfl⟩
theorem iX11_toolTold_105 : zIl zX11_toolTold 105 1 106 := Or.inl ⟨1, rfl, by decide +kernel, rfl⟩
theorem iX11_toolTold_106 : zD zX11_toolTold 106 1 (.iaload) 107 := ⟨by decide +kernel, rfl⟩
theorem iX11_toolTold_107 : zD zX11_toolTold 107 1 (.ireturn) 108 := ⟨by decide +kernel, rfl⟩
theorem iX11_toolTold_108 : zAl zX11_toolTold 108 0 109 := Or.inl ⟨0, rfl, by decide +kernel, rfl⟩
theorem iX11_toolTold_109 : zGf zX11_toolTold 109 11 22 112 := ⟨72, _, _, _, zcf_11, by decide, by decide +kernel, rfl, zT4_of (i := 173) rfl rfl⟩
theorem iX11_toolTold_112 : zIl zX11_toolTold 112 1 113 := Or.inl ⟨1, rfl, by decide +kernel, rfl⟩
theorem iX11_toolTold_113 : zD zX11_toolTold 113 1 (.iaload) 114 := ⟨by decide +kernel, rfl⟩
theorem iX11_toolTold_114 : zD zX11_toolTold 114 1 (.ireturn) 115 := ⟨by decide +kernel, rfl⟩
theorem iX11_toolTold_115 : zCo zX11_toolTold 115 (-2) 117 := Or.inr (Or.inl ⟨-2, by decide, by decide +kernel, rfl⟩)
theorem iX11_toolTold_117 : zD zX11_toolTold 117 1 (.ireturn) 118 := ⟨by decide +kernel, rfl⟩
theorem iX11_setter_0 : zIl zX11_setter 0 1 1 := Or.inl ⟨1, rfl, by decide +kernel, rfl⟩
theorem iX11_setter_1 : zCo zX11_setter 1 (-50) 3 := Or.inr (Or.inl ⟨-50, by decide, by decide +kernel, rfl⟩)
theorem iX11_setter_3 : zCo zX11_setter 3 (50) 5 := Or.inr (Or.inl ⟨50, by decide, by decide +kernel, rfl⟩)
theorem iX11_setter_5 : zCl zX11_setter 5 .invokestatic zX11_in 8 := ⟨143, by decide +kernel, rfl, Or.inl (zT5_of (i := 95) rfl rfl)⟩
theorem iX11_setter_8 : zB zX11_setter 8 (.ifCond .eq) 11 22 := ⟨14, by decide +kernel, rfl, by decide⟩
theorem iX11_setter_11 : zIl zX11_setter 11 2 12 := Or.inl ⟨2, rfl, by decide +kernel, rfl⟩
theorem iX11_setter_12 : zCo zX11_setter 12 (-20) 14 := Or.inr (Or.inl ⟨-20, by decide, by decide +kernel, rfl⟩)
theorem iX11_setter_14 : zCo zX11_setter 14 (20) 16 := Or.inr (Or.inl ⟨20, by decide, by decide +kernel, rfl⟩)
theorem iX11_setter_16 : zCl zX11_setter 16 .invokestatic zX11_in 19 := ⟨143, by decide +kernel, rfl, Or.inl (zT5_of (i := 95) rfl rfl)⟩
theorem iX11_setter_19 : zB zX11_setter 19 (.ifCond .ne) 22 25 := ⟨6, by decide +kernel, rfl, by decide⟩
theorem iX11_setter_22 : zCo zX11_setter 22 (-2) 24 := Or.inr (Or.inl ⟨-2, by decide, by decide +kernel, rfl⟩)
theorem iX11_setter_24 : zD zX11_setter 24 1 (.ireturn) 25 := ⟨by decide +kernel, rfl⟩
theorem iX11_setter_25 : zAl zX11_setter 25 0 26 := Or.inl ⟨0, rfl, by decide +kernel, rfl⟩
theorem iX11_setter_26 : zIl zX11_setter 26 1 27 := Or.inl ⟨1, rfl, by decide +kernel, rfl⟩
theorem iX11_setter_27 : zPf zX11_setter 27 11 23 .int 30 := ⟨180, _, _, _, zcf_11, by decide, by decide +kernel, rfl, zT4_of (i := 174) rfl rfl, by decide +kernel, Or.inl rfl⟩
theorem iX11_setter_30 : zAl zX11_setter 30 0 31 := Or.inl ⟨0, rfl, by decide +kernel, rfl⟩
theorem iX11_setter_31 : zIl zX11_setter 31 2 32 := Or.inl ⟨2, rfl, by decide +kernel, rfl⟩
theorem iX11_setter_32 : zPf zX11_setter 32 11 24 .int 35 := ⟨183, _, _, _, zcf_11, by decide, by decide +kernel, rfl, zT4_of (i := 175) rfl rfl, by decide +kernel, Or.inl rfl⟩
theorem iX11_setter_35 : zCo zX11_setter 35 (1) 36 := Or.inl ⟨1, by decide, by decide +kernel, rfl⟩
theorem iX11_setter_36 : zD zX11_setter 36 1 (.ireturn) 37 := ⟨by decide +kernel, rfl⟩
theorem iX11_reads_0 : zIl zX11_reads 0 1 1 := Or.inl ⟨1, rfl, by decide +kernel, rfl⟩
theorem iX11_reads_1 : zAl zX11_reads 1 0 2 := Or.inl ⟨0, rfl, by decide +kernel, rfl⟩
theorem iX11_reads_2 : zGf zX11_reads 2 11 23 5 := ⟨180, _, _, _, zcf_11, by decide, by decide +kernel, rfl, zT4_of (i := 174) rfl rfl⟩
theorem iX11_reads_5 : zD zX11_reads 5 1 (.isub) 6 := ⟨by decide +kernel, rfl⟩
theorem iX11_reads_6 : zCo zX11_reads 6 (1000) 9 := Or.inr (Or.inr (Or.inl ⟨1000, by decide, by decide +kernel, rfl⟩))
theorem iX11_reads_9 : zAl zX11_reads 9 0 10 := Or.inl ⟨0, rfl, by decide +kernel, rfl⟩
theorem iX11_reads_10 : zGf zX11_reads 10 11 24 13 := ⟨183, _, _, _, zcf_11, by decide, by decide +kernel, rfl, zT4_of (i := 175) rfl rfl⟩
theorem iX11_reads_13 : zD zX11_reads 13 1 (.iadd) 14 := ⟨by decide +kernel, rfl⟩
theorem iX11_reads_14 : zD zX11_reads 14 1 (.imul) 15 := ⟨by decide +kernel, rfl⟩
theorem iX11_reads_15 : zCo zX11_reads 15 (1000) 18 := Or.inr (Or.inr (Or.inl ⟨1000, by decide, by decide +kernel, rfl⟩))
theorem iX11_reads_18 : zD zX11_reads 18 1 (.idiv) 19 := ⟨by decide +kernel, rfl⟩
theorem iX11_reads_19 : zD zX11_reads 19 1 (.ireturn) 20 := ⟨by decide +kernel, rfl⟩
theorem iX11_calibrate_0 : zIl zX11_calibrate 0 1 1 := Or.inl ⟨1, rfl, by decide +kernel, rfl⟩
theorem iX11_calibrate_1 : zCo zX11_calibrate 1 (100) 3 := Or.inr (Or.inl ⟨100, by decide, by decide +kernel, rfl⟩)
theorem iX11_calibrate_3 : zCo zX11_calibrate 3 (400) 6 := Or.inr (Or.inr (Or.inl ⟨400, by decide, by decide +kernel, rfl⟩))
theorem iX11_calibrate_6 : zCl zX11_calibrate 6 .invokestatic zX11_in 9 := ⟨143, by decide +kernel, rfl, Or.inl (zT5_of (i := 95) rfl rfl)⟩
theorem iX11_calibrate_9 : zB zX11_calibrate 9 (.ifCond .ne) 12 15 := ⟨6, by decide +kernel, rfl, by decide⟩
theorem iX11_calibrate_12 : zCo zX11_calibrate 12 (-2) 14 := Or.inr (Or.inl ⟨-2, by decide, by decide +kernel, rfl⟩)
theorem iX11_calibrate_14 : zD zX11_calibrate 14 1 (.ireturn) 15 := ⟨by decide +kernel, rfl⟩
theorem iX11_calibrate_15 : zAl zX11_calibrate 15 0 16 := Or.inl ⟨0, rfl, by decide +kernel, rfl⟩
theorem iX11_calibrate_16 : zIl zX11_calibrate 16 1 17 := Or.inl ⟨1, rfl, by decide +kernel, rfl⟩
theorem iX11_calibrate_17 : zAl zX11_calibrate 17 0 18 := Or.inl ⟨0, rfl, by decide +kernel, rfl⟩
theorem iX11_calibrate_18 : zIl zX11_calibrate 18 1 19 := Or.inl ⟨1, rfl, by decide +kernel, rfl⟩
theorem iX11_calibrate_19 : zCl zX11_calibrate 19 .invokevirtual zX11_reads 22 := ⟨186, by decide +kernel, rfl, Or.inl (zT5_of (i := 166) rfl rfl)⟩
theorem iX11_calibrate_22 : zD zX11_calibrate 22 1 (.isub) 23 := ⟨by decide +kernel, rfl⟩
theorem iX11_calibrate_23 : zPf zX11_calibrate 23 11 25 .int 26 := ⟨189, _, _, _, zcf_11, by decide, by decide +kernel, rfl, zT4_of (i := 176) rfl rfl, by decide +kernel, Or.inl rfl⟩
theorem iX11_calibrate_26 : zAl zX11_calibrate 26 0 27 := Or.inl ⟨0, rfl, by decide +kernel, rfl⟩
theorem iX11_calibrate_27 : zGf zX11_calibrate 27 11 25 30 := ⟨189, _, _, _, zcf_11, by decide, by decide +kernel, rfl, zT4_of (i := 176) rfl rfl⟩
theorem iX11_calibrate_30 : zD zX11_calibrate 30 1 (.ireturn) 31 := ⟨by decide +kernel, rfl⟩
theorem iX11_measure_0 : zAl zX11_measure 0 0 1 := Or.inl ⟨0, rfl, by decide +kernel, rfl⟩
theorem iX11_measure_1 : zIl zX11_measure 1 1 2 := Or.inl ⟨1, rfl, by decide +kernel, rfl⟩
theorem iX11_measure_2 : zCl zX11_measure 2 .invokevirtual zX11_isTool 5 := ⟨173, by decide +kernel, rfl, Or.inl (zT5_of (i := 150) rfl rfl)⟩
theorem iX11_measure_5 : zB zX11_measure 5 (.ifCond .ne) 8 11 := ⟨6, by decide +kernel, rfl, by decide⟩
theorem iX11_measure_8 : zCo zX11_measure 8 (-2) 10 := Or.inr (Or.inl ⟨-2, by decide, by decide +kernel, rfl⟩)
theorem iX11_measure_10 : zD zX11_measure 10 1 (.ireturn) 11 := ⟨by decide +kernel, rfl⟩
theorem iX11_measure_11 : zAl zX11_measure 11 0 12 := Or.inl ⟨0, rfl, by decide +kernel, rfl⟩
theorem iX11_measure_12 : zGf zX11_measure 12 11 20 15 := ⟨66, _, _, _, zcf_11, by decide, by decide +kernel, rfl, zT4_of (i := 171) rfl rfl⟩
theorem iX11_measure_15 : zIl zX11_measure 15 1 16 := Or.inl ⟨1, rfl, by decide +kernel, rfl⟩
theorem iX11_measure_16 : zAl zX11_measure 16 0 17 := Or.inl ⟨0, rfl, by decide +kernel, rfl⟩
theorem iX11_measure_17 : zAl zX11_measure 17 0 18 := Or.inl ⟨0, rfl, by decide +kernel, rfl⟩
theorem iX11_measure_18 : zIl zX11_measure 18 1 19 := Or.inl ⟨1, rfl, by decide +kernel, rfl⟩
theorem iX11_measure_19 : zCl zX11_measure 19 .invokevirtual zX11_nominal 22 := ⟨176, by decide +kernel, rfl, Or.inl (zT5_of (i := 154) rfl rfl)⟩
theorem iX11_measure_22 : zCl zX11_measure 22 .invokevirtual zX11_reads 25 := ⟨186, by decide +kernel, rfl, Or.inl (zT5_of (i := 166) rfl rfl)⟩
theorem iX11_measure_25 : zAl zX11_measure 25 0 26 := Or.inl ⟨0, rfl, by decide +kernel, rfl⟩
theorem iX11_measure_26 : zGf zX11_measure 26 11 25 29 := ⟨189, _, _, _, zcf_11, by decide, by decide +kernel, rfl, zT4_of (i := 176) rfl rfl⟩
theorem iX11_measure_29 : zD zX11_measure 29 1 (.iadd) 30 := ⟨by decide +kernel, rfl⟩
theorem iX11_measure_30 : zD zX11_measure 30 1 (.iastore) 31 := ⟨by decide +kernel, rfl⟩
theorem iX11_measure_31 : zAl zX11_measure 31 0 32 := Or.inl ⟨0, rfl, by decide +kernel, rfl⟩
theorem iX11_measure_32 : zGf zX11_measure 32 11 20 35 := ⟨66, _, _, _, zcf_11, by decide, by decide +kernel, rfl, zT4_of (i := 171) rfl rfl⟩
theorem iX11_measure_35 : zIl zX11_measure 35 1 36 := Or.inl ⟨1, rfl, by decide +kernel, rfl⟩
theorem iX11_measure_36 : zD zX11_measure 36 1 (.iaload) 37 := ⟨by decide +kernel, rfl⟩
theorem iX11_measure_37 : zD zX11_measure 37 1 (.ireturn) 38 := ⟨by decide +kernel, rfl⟩
theorem iX11_feed_0 : zIl zX11_feed 0 1 1 := Or.inl ⟨1, rfl, by decide +kernel, rfl⟩
theorem iX11_feed_1 : zCo zX11_feed 1 (1) 2 := Or.inl ⟨1, by decide, by decide +kernel, rfl⟩
theorem iX11_feed_2 : zCo zX11_feed 2 (8) 4 := Or.inr (Or.inl ⟨8, by decide, by decide +kernel, rfl⟩)
theorem iX11_feed_4 : zCl zX11_feed 4 .invokestatic zX11_in 7 := ⟨143, by decide +kernel, rfl, Or.inl (zT5_of (i := 95) rfl rfl)⟩
theorem iX11_feed_7 : zB zX11_feed 7 (.ifCond .ne) 10 13 := ⟨6, by decide +kernel, rfl, by decide⟩
theorem iX11_feed_10 : zCo zX11_feed 10 (-2) 12 := Or.inr (Or.inl ⟨-2, by decide, by decide +kernel, rfl⟩)
theorem iX11_feed_12 : zD zX11_feed 12 1 (.ireturn) 13 := ⟨by decide +kernel, rfl⟩
theorem iX11_feed_13 : zAl zX11_feed 13 0 14 := Or.inl ⟨0, rfl, by decide +kernel, rfl⟩
theorem iX11_feed_14 : zGf zX11_feed 14 11 31 17 := ⟨192, _, _, _, zcf_11, by decide, by decide +kernel, rfl, zT4_of (i := 182) rfl rfl⟩
theorem iX11_feed_17 : zIl zX11_feed 17 1 18 := Or.inl ⟨1, rfl, by decide +kernel, rfl⟩
theorem iX11_feed_18 : zD zX11_feed 18 1 (.iadd) 19 := ⟨by decide +kernel, rfl⟩
theorem iX11_feed_19 : zCo zX11_feed 19 (160) 22 := Or.inr (Or.inr (Or.inl ⟨160, by decide, by decide +kernel, rfl⟩))
theorem iX11_feed_22 : zB zX11_feed 22 (.if_icmp .le) 25 28 := ⟨6, by decide +kernel, rfl, by decide⟩
theorem iX11_feed_25 : zCo zX11_feed 25 (-4) 27 := Or.inr (Or.inl ⟨-4, by decide, by decide +kernel, rfl⟩)
theorem iX11_feed_27 : zD zX11_feed 27 1 (.ireturn) 28 := ⟨by decide +kernel, rfl⟩
theorem iX11_feed_28 : zCo zX11_feed 28 (0) 29 := Or.inl ⟨0, by decide, by decide +kernel, rfl⟩
theorem iX11_feed_29 : zIs zX11_feed 29 4 31 := ⟨by decide, Or.inr ⟨by decide +kernel, rfl⟩⟩
theorem iX11_feed_31 : zIl zX11_feed 31 4 33 := Or.inr ⟨by decide +kernel, rfl⟩
theorem iX11_feed_33 : zIl zX11_feed 33 1 34 := Or.inl ⟨1, rfl, by decide +kernel, rfl⟩
theorem iX11_feed_34 : zB zX11_feed 34 (.if_icmp .ge) 37 74 := ⟨40, by decide +kernel, rfl, by decide⟩
theorem iX11_feed_37 : zAl zX11_feed 37 0 38 := Or.inl ⟨0, rfl, by decide +kernel, rfl⟩
theorem iX11_feed_38 : zGf zX11_feed 38 11 30 41 := ⟨81, _, _, _, zcf_11, by decide, by decide +kernel, rfl, zT4_of (i := 181) rfl rfl⟩
theorem iX11_feed_41 : zAl zX11_feed 41 0 42 := Or.inl ⟨0, rfl, by decide +kernel, rfl⟩
theorem iX11_feed_42 : zGf zX11_feed 42 11 31 45 := ⟨192, _, _, _, zcf_11, by decide, by decide +kernel, rfl, zT4_of (i := 182) rfl rfl⟩
theorem iX11_feed_45 : zLl zX11_feed 45 2 46 := Or.inl ⟨2, rfl, by decide +kernel, rfl⟩
theorem iX11_feed_46 : zCo zX11_feed 46 (8) 48 := Or.inr (Or.inl ⟨8, by decide, by decide +kernel, rfl⟩)
theorem iX11_feed_48 : zIl zX11_feed 48 4 50 := Or.inr ⟨by decide +kernel, rfl⟩
theorem iX11_feed_50 : zD zX11_feed 50 1 (.imul) 51 := ⟨by decide +kernel, rfl⟩
theorem iX11_feed_51 : zD zX11_feed 51 1 (.lshr) 52 := ⟨by decide +kernel, rfl⟩
theorem iX11_feed_52 : zCL zX11_feed 52 (255) 55 := Or.inr ⟨138, zT4_of (i := 144) rfl rfl, by decide +kernel, rfl⟩
theorem iX11_feed_55 : zD zX11_feed 55 1 (.land) 56 := ⟨by decide +kernel, rfl⟩
theorem iX11_feed_56 : zD zX11_feed 56 1 (.l2i) 57 := ⟨by decide +kernel, rfl⟩
theorem iX11_feed_57 : zD zX11_feed 57 1 (.iastore) 58 := ⟨by decide +kernel, rfl⟩
theorem iX11_feed_58 : zAl zX11_feed 58 0 59 := Or.inl ⟨0, rfl, by decide +kernel, rfl⟩
theorem iX11_feed_59 : zD zX11_feed 59 1 (.dup) 60 := ⟨by decide +kernel, rfl⟩
theorem iX11_feed_60 : zGf zX11_feed 60 11 31 63 := ⟨192, _, _, _, zcf_11, by decide, by decide +kernel, rfl, zT4_of (i := 182) rfl rfl⟩
theorem iX11_feed_63 : zCo zX11_feed 63 (1) 64 := Or.inl ⟨1, by decide, by decide +kernel, rfl⟩
theorem iX11_feed_64 : zD zX11_feed 64 1 (.iadd) 65 := ⟨by decide +kernel, rfl⟩
theorem iX11_feed_65 : zPf zX11_feed 65 11 31 .int 68 := ⟨192, _, _, _, zcf_11, by decide, by decide +kernel, rfl, zT4_of (i := 182) rfl rfl, by decide +kernel, Or.inl rfl⟩
theorem iX11_feed_68 : zIn zX11_feed 68 4 (1) 71 := ⟨by decide, 1, by decide, by decide +kernel, rfl⟩
theorem iX11_feed_71 : zB zX11_feed 71 .goto 74 31 := ⟨-40, by decide +kernel, rfl, by decide⟩
theorem iX11_feed_74 : zAl zX11_feed 74 0 75 := Or.inl ⟨0, rfl, by decide +kernel, rfl⟩
theorem iX11_feed_75 : zGf zX11_feed 75 11 31 78 := ⟨192, _, _, _, zcf_11, by decide, by decide +kernel, rfl, zT4_of (i := 182) rfl rfl⟩
theorem iX11_feed_78 : zD zX11_feed 78 1 (.ireturn) 79 := ⟨by decide +kernel, rfl⟩
theorem iX11_byteAt_0 : zIl zX11_byteAt 0 1 1 := Or.inl ⟨1, rfl, by decide +kernel, rfl⟩
theorem iX11_byteAt_1 : zAl zX11_byteAt 1 0 2 := Or.inl ⟨0, rfl, by decide +kernel, rfl⟩
theorem iX11_byteAt_2 : zGf zX11_byteAt 2 11 33 5 := ⟨195, _, _, _, zcf_11, by decide, by decide +kernel, rfl, zT4_of (i := 184) rfl rfl⟩
theorem iX11_byteAt_5 : zB zX11_byteAt 5 (.if_icmp .ge) 8 22 := ⟨17, by decide +kernel, rfl, by decide⟩
theorem iX11_byteAt_8 : zAl zX11_byteAt 8 0 9 := Or.inl ⟨0, rfl, by decide +kernel, rfl⟩
theorem iX11_byteAt_9 : zGf zX11_byteAt 9 11 26 12 := ⟨75, _, _, _, zcf_11, by decide, by decide +kernel, rfl, zT4_of (i := 177) rfl rfl⟩
theorem iX11_byteAt_12 : zAl zX11_byteAt 12 0 13 := Or.inl ⟨0, rfl, by decide +kernel, rfl⟩
theorem iX11_byteAt_13 : zGf zX11_byteAt 13 11 32 16 := ⟨198, _, _, _, zcf_11, by decide, by decide +kernel, rfl, zT4_of (i := 183) rfl rfl⟩
theorem iX11_byteAt_16 : zIl zX11_byteAt 16 1 17 := Or.inl ⟨1, rfl, by decide +kernel, rfl⟩
theorem iX11_byteAt_17 : zD zX11_byteAt 17 1 (.iadd) 18 := ⟨by decide +kernel, rfl⟩
theorem iX11_byteAt_18 : zD zX11_byteAt 18 1 (.iaload) 19 := ⟨by decide +kernel, rfl⟩
theorem iX11_byteAt_19 : zB zX11_byteAt 19 .goto 22 23 := ⟨4, by decide +kernel, rfl, by decide⟩
theorem iX11_byteAt_22 : zCo zX11_byteAt 22 (-1) 23 := Or.inl ⟨-1, by decide, by decide +kernel, rfl⟩
theorem iX11_byteAt_23 : zD zX11_byteAt 23 1 (.ireturn) 24 := ⟨by decide +kernel, rfl⟩
theorem iX11_next_0 : zAl zX11_next 0 0 1 := Or.inl ⟨0, rfl, by decide +kernel, rfl⟩
theorem iX11_next_1 : zAl zX11_next 1 0 2 := Or.inl ⟨0, rfl, by decide +kernel, rfl⟩
theorem iX11_next_2 : zGf zX11_next 2 11 37 5 := ⟨201, _, _, _, zcf_11, by decide, by decide +kernel, rfl, zT4_of (i := 188) rfl rfl⟩
theorem iX11_next_5 : zCl zX11_next 5 .invokevirtual zX11_byteAt 8 := ⟨204, by decide +kernel, rfl, Or.inl (zT5_of (i := 190) rfl rfl)⟩
theorem iX11_next_8 : zCo zX11_next 8 (32) 10 := Or.inr (Or.inl ⟨32, by decide, by decide +kernel, rfl⟩)
theorem iX11_next_10 : zB zX11_next 10 (.if_icmp .eq) 13 26 := ⟨16, by decide +kernel, rfl, by decide⟩
theorem iX11_next_13 : zAl zX11_next 13 0 14 := Or.inl ⟨0, rfl, by decide +kernel, rfl⟩
theorem iX11_next_14 : zAl zX11_next 14 0 15 := Or.inl ⟨0, rfl, by decide +kernel, rfl⟩
theorem iX11_next_15 : zGf zX11_next 15 11 37 18 := ⟨201, _, _, _, zcf_11, by decide, by decide +kernel, rfl, zT4_of (i := 188) rfl rfl⟩
theorem iX11_next_18 : zCl zX11_next 18 .invokevirtual zX11_byteAt 21 := ⟨204, by decide +kernel, rfl, Or.inl (zT5_of (i := 190) rfl rfl)⟩
theorem iX11_next_21 : zCo zX11_next 21 (10) 23 := Or.inr (Or.inl ⟨10, by decide, by decide +kernel, rfl⟩)
theorem iX11_next_23 : zB zX11_next 23 (.if_icmp .ne) 26 39 := ⟨16, by decide +kernel, rfl, by decide⟩
theorem iX11_next_26 : zAl zX11_next 26 0 27 := Or.inl ⟨0, rfl, by decide +kernel, rfl⟩
theorem iX11_next_27 : zD zX11_next 27 1 (.dup) 28 := ⟨by decide +kernel, rfl⟩
theorem iX11_next_28 : zGf zX11_next 28 11 37 31 := ⟨201, _, _, _, zcf_11, by decide, by decide +kernel, rfl, zT4_of (i := 188) rfl rfl⟩
theorem iX11_next_31 : zCo zX11_next 31 (1) 32 := Or.inl ⟨1, by decide, by decide +kernel, rfl⟩
theorem iX11_next_32 : zD zX11_next 32 1 (.iadd) 33 := ⟨by decide +kernel, rfl⟩
theorem iX11_next_33 : zPf zX11_next 33 11 37 .int 36 := ⟨201, _, _, _, zcf_11, by decide, by decide +kernel, rfl, zT4_of (i := 188) rfl rfl, by decide +kernel, Or.inl rfl⟩
theorem iX11_next_36 : zB zX11_next 36 .goto 39 0 := ⟨-36, by decide +kernel, rfl, by decide⟩
theorem iX11_next_39 : zAl zX11_next 39 0 40 := Or.inl ⟨0, rfl, by decide +kernel, rfl⟩
theorem iX11_next_40 : zAl zX11_next 40 0 41 := Or.inl ⟨0, rfl, by decide +kernel, rfl⟩
theorem iX11_next_41 : zGf zX11_next 41 11 37 44 := ⟨201, _, _, _, zcf_11, by decide, by decide +kernel, rfl, zT4_of (i := 188) rfl rfl⟩
theorem iX11_next_44 : zPf zX11_next 44 11 35 .int 47 := ⟨207, _, _, _, zcf_11, by decide, by decide +kernel, rfl, zT4_of (i := 186) rfl rfl, by decide +kernel, Or.inl rfl⟩
theorem iX11_next_47 : zAl zX11_next 47 0 48 := Or.inl ⟨0, rfl, by decide +kernel, rfl⟩
theorem iX11_next_48 : zAl zX11_next 48 0 49 := Or.inl ⟨0, rfl, by decide +kernel, rfl⟩
theorem iX11_next_49 : zGf zX11_next 49 11 37 52 := ⟨201, _, _, _, zcf_11, by decide, by decide +kernel, rfl, zT4_of (i := 188) rfl rfl⟩
theorem iX11_next_52 : zCl zX11_next 52 .invokevirtual zX11_byteAt 55 := ⟨204, by decide +kernel, rfl, Or.inl (zT5_of (i := 190) rfl rfl)⟩
theorem iX11_next_55 : zIs zX11_next 55 1 56 := ⟨by decide, Or.inl ⟨1, rfl, by decide +kernel, rfl⟩⟩
theorem iX11_next_56 : zAl zX11_next 56 0 57 := Or.inl ⟨0, rfl, by decide +kernel, rfl⟩
theorem iX11_next_57 : zCo zX11_next 57 (4) 58 := Or.inl ⟨4, by decide, by decide +kernel, rfl⟩
theorem iX11_next_58 : zPf zX11_next 58 11 34 .int 61 := ⟨210, _, _, _, zcf_11, by decide, by decide +kernel, rfl, zT4_of (i := 185) rfl rfl, by decide +kernel, Or.inl rfl⟩
theorem iX11_next_61 : zIl zX11_next 61 1 62 := Or.inl ⟨1, rfl, by decide +kernel, rfl⟩
theorem iX11_next_62 : zB zX11_next 62 (.ifCond .ge) 65 81 := ⟨19, by decide +kernel, rfl, by decide⟩
theorem iX11_next_65 : zAl zX11_next 65 0 66 := Or.inl ⟨0, rfl, by decide +kernel, rfl⟩
theorem iX11_next_66 : zCo zX11_next 66 (0) 67 := Or.inl ⟨0, by decide, by decide +kernel, rfl⟩
theorem iX11_next_67 : zPf zX11_next 67 11 34 .int 70 := ⟨210, _, _, _, zcf_11, by decide, by decide +kernel, rfl, zT4_of (i := 185) rfl rfl, by decide +kernel, Or.inl rfl⟩
theorem iX11_next_70 : zAl zX11_next 70 0 71 := Or.inl ⟨0, rfl, by decide +kernel, rfl⟩
theorem iX11_next_71 : zAl zX11_next 71 0 72 := Or.inl ⟨0, rfl, by decide +kernel, rfl⟩
theorem iX11_next_72 : zGf zX11_next 72 11 33 75 := ⟨195, _, _, _, zcf_11, by decide, by decide +kernel, rfl, zT4_of (i := 184) rfl rfl⟩
theorem iX11_next_75 : zPf zX11_next 75 11 35 .int 78 := ⟨207, _, _, _, zcf_11, by decide, by decide +kernel, rfl, zT4_of (i := 186) rfl rfl, by decide +kernel, Or.inl rfl⟩
theorem iX11_next_78 : zB zX11_next 78 .goto 81 360 := ⟨282, by decide +kernel, rfl, by decide⟩
theorem iX11_next_81 : zIl zX11_next 81 1 82 := Or.inl ⟨1, rfl, by decide +kernel, rfl⟩
theorem iX11_next_82 : zCo zX11_next 82 (97) 84 := Or.inr (Or.inl ⟨97, by decide, by decide +kernel, rfl⟩)
theorem iX11_next_84 : zCo zX11_next 84 (122) 86 := Or.inr (Or.inl ⟨122, by decide, by decide +kernel, rfl⟩)
theorem iX11_next_86 : zCl zX11_next 86 .invokestatic zX11_in 89 := ⟨143, by decide +kernel, rfl, Or.inl (zT5_of (i := 95) rfl rfl)⟩
theorem iX11_next_89 : zB zX11_next 89 (.ifCond .eq) 92 179 := ⟨90, by decide +kernel, rfl, by decide⟩
theorem iX11_next_92 : zAl zX11_next 92 0 93 := Or.inl ⟨0, rfl, by decide +kernel, rfl⟩
theorem iX11_next_93 : zCo zX11_next 93 (1) 94 := Or.inl ⟨1, by decide, by decide +kernel, rfl⟩
theorem iX11_next_94 : zPf zX11_next 94 11 34 .int 97 := ⟨210, _, _, _, zcf_11, by decide, by decide +kernel, rfl, zT4_of (i := 185) rfl rfl, by decide +kernel, Or.inl rfl⟩
theorem iX11_next_97 : zAl zX11_next 97 0 98 := Or.inl ⟨0, rfl, by decide +kernel, rfl⟩
theorem iX11_next_98 : zCL zX11_next 98 0 99 := Or.inl ⟨0, by decide, by decide +kernel, rfl⟩
theorem iX11_next_99 : zPf zX11_next 99 11 36 .long 102 := ⟨213, _, _, _, zcf_11, by decide, by decide +kernel, rfl, zT4_of (i := 187) rfl rfl, by decide +kernel, Or.inl rfl⟩
theorem iX11_next_102 : zCo zX11_next 102 (0) 103 := Or.inl ⟨0, by decide, by decide +kernel, rfl⟩
theorem iX11_next_103 : zIs zX11_next 103 2 104 := ⟨by decide, Or.inl ⟨2, rfl, by decide +kernel, rfl⟩⟩
theorem iX11_next_104 : zAl zX11_next 104 0 105 := Or.inl ⟨0, rfl, by decide +kernel, rfl⟩
theorem iX11_next_105 : zAl zX11_next 105 0 106 := Or.inl ⟨0, rfl, by decide +kernel, rfl⟩
theorem iX11_next_106 : zGf zX11_next 106 11 37 109 := ⟨201, _, _, _, zcf_11, by decide, by decide +kernel, rfl, zT4_of (i := 188) rfl rfl⟩
theorem iX11_next_109 : zCl zX11_next 109 .invokevirtual zX11_byteAt 112 := ⟨204, by decide +kernel, rfl, Or.inl (zT5_of (i := 190) rfl rfl)⟩
theorem iX11_next_112 : zCo zX11_next 112 (97) 114 := Or.inr (Or.inl ⟨97, by decide, by decide +kernel, rfl⟩)
theorem iX11_next_114 : zCo zX11_next 114 (122) 116 := Or.inr (Or.inl ⟨122, by decide, by decide +kernel, rfl⟩)
theorem iX11_next_116 : zCl zX11_next 116 .invokestatic zX11_in 119 := ⟨143, by decide +kernel, rfl, Or.inl (zT5_of (i := 95) rfl rfl)⟩
theorem iX11_next_119 : zB zX11_next 119 (.ifCond .eq) 122 176 := ⟨57, by decide +kernel, rfl, by decide⟩
theorem iX11_next_122 : zAl zX11_next 122 0 123 := Or.inl ⟨0, rfl, by decide +kernel, rfl⟩
theorem iX11_next_123 : zIl zX11_next 123 2 124 := Or.inl ⟨2, rfl, by decide +kernel, rfl⟩
theorem iX11_next_124 : zCo zX11_next 124 (7) 126 := Or.inr (Or.inl ⟨7, by decide, by decide +kernel, rfl⟩)
theorem iX11_next_126 : zB zX11_next 126 (.if_icmp .ge) 129 154 := ⟨28, by decide +kernel, rfl, by decide⟩
theorem iX11_next_129 : zCL zX11_next 129 (27) 132 := Or.inr ⟨217, zT5_of (i := 194) rfl rfl, by decide +kernel, rfl⟩
theorem iX11_next_132 : zAl zX11_next 132 0 133 := Or.inl ⟨0, rfl, by decide +kernel, rfl⟩
theorem iX11_next_133 : zGf zX11_next 133 11 36 136 := ⟨213, _, _, _, zcf_11, by decide, by decide +kernel, rfl, zT4_of (i := 187) rfl rfl⟩
theorem iX11_next_136 : zD zX11_next 136 1 (.lmul) 137 := ⟨by decide +kernel, rfl⟩
theorem iX11_next_137 : zAl zX11_next 137 0 138 := Or.inl ⟨0, rfl, by decide +kernel, rfl⟩
theorem iX11_next_138 : zAl zX11_next 138 0 139 := Or.inl ⟨0, rfl, by decide +kernel, rfl⟩
theorem iX11_next_139 : zGf zX11_next 139 11 37 142 := ⟨201, _, _, _, zcf_11, by decide, by decide +kernel, rfl, zT4_of (i := 188) rfl rfl⟩
theorem iX11_next_142 : zCl zX11_next 142 .invokevirtual zX11_byteAt 145 := ⟨204, by decide +kernel, rfl, Or.inl (zT5_of (i := 190) rfl rfl)⟩
theorem iX11_next_145 : zD zX11_next 145 1 (.i2l) 146 := ⟨by decide +kernel, rfl⟩
theorem iX11_next_146 : zD zX11_next 146 1 (.ladd) 147 := ⟨by decide +kernel, rfl⟩
theorem iX11_next_147 : zCL zX11_next 147 (96) 150 := Or.inr ⟨219, zT5_of (i := 195) rfl rfl, by decide +kernel, rfl⟩
theorem iX11_next_150 : zD zX11_next 150 1 (.lsub) 151 := ⟨by decide +kernel, rfl⟩
theorem iX11_next_151 : zB zX11_next 151 .goto 154 157 := ⟨6, by decide +kernel, rfl, by decide⟩
theorem iX11_next_154 : zCL zX11_next 154 (-1) 157 := Or.inr ⟨221, zT5_of (i := 196) rfl rfl, by decide +kernel, rfl⟩
theorem iX11_next_157 : zPf zX11_next 157 11 36 .long 160 := ⟨213, _, _, _, zcf_11, by decide, by decide +kernel, rfl, zT4_of (i := 187) rfl rfl, by decide +kernel, Or.inl rfl⟩
theorem iX11_next_160 : zIn zX11_next 160 2 (1) 163 := ⟨by decide, 1, by decide, by decide +kernel, rfl⟩
theorem iX11_next_163 : zAl zX11_next 163 0 164 := Or.inl ⟨0, rfl, by decide +kernel, rfl⟩
theorem iX11_next_164 : zD zX11_next 164 1 (.dup) 165 := ⟨by decide +kernel, rfl⟩
theorem iX11_next_165 : zGf zX11_next 165 11 37 168 := ⟨201, _, _, _, zcf_11, by decide, by decide +kernel, rfl, zT4_of (i := 188) rfl rfl⟩
theorem iX11_next_168 : zCo zX11_next 168 (1) 169 := Or.inl ⟨1, by decide, by decide +kernel, rfl⟩
theorem iX11_next_169 : zD zX11_next 169 1 (.iadd) 170 := ⟨by decide +kernel, rfl⟩
theorem iX11_next_170 : zPf zX11_next 170 11 37 .int 173 := ⟨201, _, _, _, zcf_11, by decide, by decide +kernel, rfl, zT4_of (i := 188) rfl rfl, by decide +kernel, Or.inl rfl⟩
theorem iX11_next_173 : zB zX11_next 173 .goto 176 104 := ⟨-69, by decide +kernel, rfl, by decide⟩
theorem iX11_next_176 : zB zX11_next 176 .goto 179 360 := ⟨184, by decide +kernel, rfl, by decide⟩
theorem iX11_next_179 : zIl zX11_next 179 1 180 := Or.inl ⟨1, rfl, by decide +kernel, rfl⟩
theorem iX11_next_180 : zCo zX11_next 180 (48) 182 := Or.inr (Or.inl ⟨48, by decide, by decide +kernel, rfl⟩)
theorem iX11_next_182 : zCo zX11_next 182 (57) 184 := Or.inr (Or.inl ⟨57, by decide, by decide +kernel, rfl⟩)
theorem iX11_next_184 : zCl zX11_next 184 .invokestatic zX11_in 187 := ⟨143, by decide +kernel, rfl, Or.inl (zT5_of (i := 95) rfl rfl)⟩
theorem iX11_next_187 : zB zX11_next 187 (.ifCond .eq) 190 291 := ⟨104, by decide +kernel, rfl, by decide⟩
theorem iX11_next_190 : zAl zX11_next 190 0 191 := Or.inl ⟨0, rfl, by decide +kernel, rfl⟩
theorem iX11_next_191 : zCo zX11_next 191 (2) 192 := Or.inl ⟨2, by decide, by decide +kernel, rfl⟩
theorem iX11_next_192 : zPf zX11_next 192 11 34 .int 195 := ⟨210, _, _, _, zcf_11, by decide, by decide +kernel, rfl, zT4_of (i := 185) rfl rfl, by decide +kernel, Or.inl rfl⟩
theorem iX11_next_195 : zAl zX11_next 195 0 196 := Or.inl ⟨0, rfl, by decide +kernel, rfl⟩
theorem iX11_next_196 : zCL zX11_next 196 0 197 := Or.inl ⟨0, by decide, by decide +kernel, rfl⟩
theorem iX11_next_197 : zPf zX11_next 197 11 36 .long 200 := ⟨213, _, _, _, zcf_11, by decide, by decide +kernel, rfl, zT4_of (i := 187) rfl rfl, by decide +kernel, Or.inl rfl⟩
theorem iX11_next_200 : zCo zX11_next 200 (0) 201 := Or.inl ⟨0, by decide, by decide +kernel, rfl⟩
theorem iX11_next_201 : zIs zX11_next 201 2 202 := ⟨by decide, Or.inl ⟨2, rfl, by decide +kernel, rfl⟩⟩
theorem iX11_next_202 : zAl zX11_next 202 0 203 := Or.inl ⟨0, rfl, by decide +kernel, rfl⟩
theorem iX11_next_203 : zAl zX11_next 203 0 204 := Or.inl ⟨0, rfl, by decide +kernel, rfl⟩
theorem iX11_next_204 : zGf zX11_next 204 11 37 207 := ⟨201, _, _, _, zcf_11, by decide, by decide +kernel, rfl, zT4_of (i := 188) rfl rfl⟩
theorem iX11_next_207 : zCl zX11_next 207 .invokevirtual zX11_byteAt 210 := ⟨204, by decide +kernel, rfl, Or.inl (zT5_of (i := 190) rfl rfl)⟩
theorem iX11_next_210 : zCo zX11_next 210 (48) 212 := Or.inr (Or.inl ⟨48, by decide, by decide +kernel, rfl⟩)
theorem iX11_next_212 : zCo zX11_next 212 (57) 214 := Or.inr (Or.inl ⟨57, by decide, by decide +kernel, rfl⟩)
theorem iX11_next_214 : zCl zX11_next 214 .invokestatic zX11_in 217 := ⟨143, by decide +kernel, rfl, Or.inl (zT5_of (i := 95) rfl rfl)⟩
theorem iX11_next_217 : zB zX11_next 217 (.ifCond .eq) 220 274 := ⟨57, by decide +kernel, rfl, by decide⟩
theorem iX11_next_220 : zAl zX11_next 220 0 221 := Or.inl ⟨0, rfl, by decide +kernel, rfl⟩
theorem iX11_next_221 : zIl zX11_next 221 2 222 := Or.inl ⟨2, rfl, by decide +kernel, rfl⟩
theorem iX11_next_222 : zCo zX11_next 222 (4) 223 := Or.inl ⟨4, by decide, by decide +kernel, rfl⟩
theorem iX11_next_223 : zB zX11_next 223 (.if_icmp .ge) 226 251 := ⟨28, by decide +kernel, rfl, by decide⟩
theorem iX11_next_226 : zCL zX11_next 226 (10) 229 := Or.inr ⟨223, zT5_of (i := 197) rfl rfl, by decide +kernel, rfl⟩
theorem iX11_next_229 : zAl zX11_next 229 0 230 := Or.inl ⟨0, rfl, by decide +kernel, rfl⟩
theorem iX11_next_230 : zGf zX11_next 230 11 36 233 := ⟨213, _, _, _, zcf_11, by decide, by decide +kernel, rfl, zT4_of (i := 187) rfl rfl⟩
theorem iX11_next_233 : zD zX11_next 233 1 (.lmul) 234 := ⟨by decide +kernel, rfl⟩
theorem iX11_next_234 : zAl zX11_next 234 0 235 := Or.inl ⟨0, rfl, by decide +kernel, rfl⟩
theorem iX11_next_235 : zAl zX11_next 235 0 236 := Or.inl ⟨0, rfl, by decide +kernel, rfl⟩
theorem iX11_next_236 : zGf zX11_next 236 11 37 239 := ⟨201, _, _, _, zcf_11, by decide, by decide +kernel, rfl, zT4_of (i := 188) rfl rfl⟩
theorem iX11_next_239 : zCl zX11_next 239 .invokevirtual zX11_byteAt 242 := ⟨204, by decide +kernel, rfl, Or.inl (zT5_of (i := 190) rfl rfl)⟩
theorem iX11_next_242 : zD zX11_next 242 1 (.i2l) 243 := ⟨by decide +kernel, rfl⟩
theorem iX11_next_243 : zD zX11_next 243 1 (.ladd) 244 := ⟨by decide +kernel, rfl⟩
theorem iX11_next_244 : zCL zX11_next 244 (48) 247 := Or.inr ⟨225, zT5_of (i := 198) rfl rfl, by decide +kernel, rfl⟩
theorem iX11_next_247 : zD zX11_next 247 1 (.lsub) 248 := ⟨by decide +kernel, rfl⟩
theorem iX11_next_248 : zB zX11_next 248 .goto 251 255 := ⟨7, by decide +kernel, rfl, by decide⟩
theorem iX11_next_251 : zAl zX11_next 251 0 252 := Or.inl ⟨0, rfl, by decide +kernel, rfl⟩
theorem iX11_next_252 : zGf zX11_next 252 11 36 255 := ⟨213, _, _, _, zcf_11, by decide, by decide +kernel, rfl, zT4_of (i := 187) rfl rfl⟩
theorem iX11_next_255 : zPf zX11_next 255 11 36 .long 258 := ⟨213, _, _, _, zcf_11, by decide, by decide +kernel, rfl, zT4_of (i := 187) rfl rfl, by decide +kernel, Or.inl rfl⟩
theorem iX11_next_258 : zIn zX11_next 258 2 (1) 261 := ⟨by decide, 1, by decide, by decide +kernel, rfl⟩
theorem iX11_next_261 : zAl zX11_next 261 0 262 := Or.inl ⟨0, rfl, by decide +kernel, rfl⟩
theorem iX11_next_262 : zD zX11_next 262 1 (.dup) 263 := ⟨by decide +kernel, rfl⟩
theorem iX11_next_263 : zGf zX11_next 263 11 37 266 := ⟨201, _, _, _, zcf_11, by decide, by decide +kernel, rfl, zT4_of (i := 188) rfl rfl⟩
theorem iX11_next_266 : zCo zX11_next 266 (1) 267 := Or.inl ⟨1, by decide, by decide +kernel, rfl⟩
theorem iX11_next_267 : zD zX11_next 267 1 (.iadd) 268 := ⟨by decide +kernel, rfl⟩
theorem iX11_next_268 : zPf zX11_next 268 11 37 .int 271 := ⟨201, _, _, _, zcf_11, by decide, by decide +kernel, rfl, zT4_of (i := 188) rfl rfl, by decide +kernel, Or.inl rfl⟩
theorem iX11_next_271 : zB zX11_next 271 .goto 274 202 := ⟨-69, by decide +kernel, rfl, by decide⟩
theorem iX11_next_274 : zAl zX11_next 274 0 275 := Or.inl ⟨0, rfl, by decide +kernel, rfl⟩
theorem iX11_next_275 : zIl zX11_next 275 2 276 := Or.inl ⟨2, rfl, by decide +kernel, rfl⟩
theorem iX11_next_276 : zCo zX11_next 276 (4) 277 := Or.inl ⟨4, by decide, by decide +kernel, rfl⟩
theorem iX11_next_277 : zB zX11_next 277 (.if_icmp .le) 280 284 := ⟨7, by decide +kernel, rfl, by decide⟩
theorem iX11_next_280 : zCo zX11_next 280 (4) 281 := Or.inl ⟨4, by decide, by decide +kernel, rfl⟩
theorem iX11_next_281 : zB zX11_next 281 .goto 284 285 := ⟨4, by decide +kernel, rfl, by decide⟩
theorem iX11_next_284 : zCo zX11_next 284 (2) 285 := Or.inl ⟨2, by decide, by decide +kernel, rfl⟩
theorem iX11_next_285 : zPf zX11_next 285 11 34 .int 288 := ⟨210, _, _, _, zcf_11, by decide, by decide +kernel, rfl, zT4_of (i := 185) rfl rfl, by decide +kernel, Or.inl rfl⟩
theorem iX11_next_288 : zB zX11_next 288 .goto 291 360 := ⟨72, by decide +kernel, rfl, by decide⟩
theorem iX11_next_291 : zIl zX11_next 291 1 292 := Or.inl ⟨1, rfl, by decide +kernel, rfl⟩
theorem iX11_next_292 : zCo zX11_next 292 (40) 294 := Or.inr (Or.inl ⟨40, by decide, by decide +kernel, rfl⟩)
theorem iX11_next_294 : zB zX11_next 294 (.if_icmp .eq) 297 339 := ⟨45, by decide +kernel, rfl, by decide⟩
theorem iX11_next_297 : zIl zX11_next 297 1 298 := Or.inl ⟨1, rfl, by decide +kernel, rfl⟩
theorem iX11_next_298 : zCo zX11_next 298 (41) 300 := Or.inr (Or.inl ⟨41, by decide, by decide +kernel, rfl⟩)
theorem iX11_next_300 : zB zX11_next 300 (.if_icmp .eq) 303 339 := ⟨39, by decide +kernel, rfl, by decide⟩
theorem iX11_next_303 : zIl zX11_next 303 1 304 := Or.inl ⟨1, rfl, by decide +kernel, rfl⟩
theorem iX11_next_304 : zCo zX11_next 304 (59) 306 := Or.inr (Or.inl ⟨59, by decide, by decide +kernel, rfl⟩)
theorem iX11_next_306 : zB zX11_next 306 (.if_icmp .eq) 309 339 := ⟨33, by decide +kernel, rfl, by decide⟩
theorem iX11_next_309 : zIl zX11_next 309 1 310 := Or.inl ⟨1, rfl, by decide +kernel, rfl⟩
theorem iX11_next_310 : zCo zX11_next 310 (43) 312 := Or.inr (Or.inl ⟨43, by decide, by decide +kernel, rfl⟩)
theorem iX11_next_312 : zB zX11_next 312 (.if_icmp .eq) 315 339 := ⟨27, by decide +kernel, rfl, by decide⟩
theorem iX11_next_315 : zIl zX11_next 315 1 316 := Or.inl ⟨1, rfl, by decide +kernel, rfl⟩
theorem iX11_next_316 : zCo zX11_next 316 (45) 318 := Or.inr (Or.inl ⟨45, by decide, by decide +kernel, rfl⟩)
theorem iX11_next_318 : zB zX11_next 318 (.if_icmp .eq) 321 339 := ⟨21, by decide +kernel, rfl, by decide⟩
theorem iX11_next_321 : zIl zX11_next 321 1 322 := Or.inl ⟨1, rfl, by decide +kernel, rfl⟩
theorem iX11_next_322 : zCo zX11_next 322 (42) 324 := Or.inr (Or.inl ⟨42, by decide, by decide +kernel, rfl⟩)
theorem iX11_next_324 : zB zX11_next 324 (.if_icmp .eq) 327 339 := ⟨15, by decide +kernel, rfl, by decide⟩
theorem iX11_next_327 : zIl zX11_next 327 1 328 := Or.inl ⟨1, rfl, by decide +kernel, rfl⟩
theorem iX11_next_328 : zCo zX11_next 328 (60) 330 := Or.inr (Or.inl ⟨60, by decide, by decide +kernel, rfl⟩)
theorem iX11_next_330 : zB zX11_next 330 (.if_icmp .eq) 333 339 := ⟨9, by decide +kernel, rfl, by decide⟩
theorem iX11_next_333 : zIl zX11_next 333 1 334 := Or.inl ⟨1, rfl, by decide +kernel, rfl⟩
theorem iX11_next_334 : zCo zX11_next 334 (61) 336 := Or.inr (Or.inl ⟨61, by decide, by decide +kernel, rfl⟩)
theorem iX11_next_336 : zB zX11_next 336 (.if_icmp .ne) 339 360 := ⟨24, by decide +kernel, rfl, by decide⟩
theorem iX11_next_339 : zAl zX11_next 339 0 340 := Or.inl ⟨0, rfl, by decide +kernel, rfl⟩
theorem iX11_next_340 : zCo zX11_next 340 (3) 341 := Or.inl ⟨3, by decide, by decide +kernel, rfl⟩
theorem iX11_next_341 : zPf zX11_next 341 11 34 .int 344 := ⟨210, _, _, _, zcf_11, by decide, by decide +kernel, rfl, zT4_of (i := 185) rfl rfl, by decide +kernel, Or.inl rfl⟩
theorem iX11_next_344 : zAl zX11_next 344 0 345 := Or.inl ⟨0, rfl, by decide +kernel, rfl⟩
theorem iX11_next_345 : zIl zX11_next 345 1 346 := Or.inl ⟨1, rfl, by decide +kernel, rfl⟩
theorem iX11_next_346 : zD zX11_next 346 1 (.i2l) 347 := ⟨by decide +kernel, rfl⟩
theorem iX11_next_347 : zPf zX11_next 347 11 36 .long 350 := ⟨213, _, _, _, zcf_11, by decide, by decide +kernel, rfl, zT4_of (i := 187) rfl rfl, by decide +kernel, Or.inl rfl⟩
theorem iX11_next_350 : zAl zX11_next 350 0 351 := Or.inl ⟨0, rfl, by decide +kernel, rfl⟩
theorem iX11_next_351 : zD zX11_next 351 1 (.dup) 352 := ⟨by decide +kernel, rfl⟩
theorem iX11_next_352 : zGf zX11_next 352 11 37 355 := ⟨201, _, _, _, zcf_11, by decide, by decide +kernel, rfl, zT4_of (i := 188) rfl rfl⟩
theorem iX11_next_355 : zCo zX11_next 355 (1) 356 := Or.inl ⟨1, by decide, by decide +kernel, rfl⟩
theorem iX11_next_356 : zD zX11_next 356 1 (.iadd) 357 := ⟨by decide +kernel, rfl⟩
theorem iX11_next_357 : zPf zX11_next 357 11 37 .int 360 := ⟨201, _, _, _, zcf_11, by decide, by decide +kernel, rfl, zT4_of (i := 188) rfl rfl, by decide +kernel, Or.inl rfl⟩
theorem iX11_next_360 : zD zX11_next 360 1 (.return_) 361 := ⟨by decide +kernel, rfl⟩
theorem iX11_fail_0 : zAl zX11_fail 0 0 1 := Or.inl ⟨0, rfl, by decide +kernel, rfl⟩
theorem iX11_fail_1 : zGf zX11_fail 1 11 39 4 := ⟨227, _, _, _, zcf_11, by decide, by decide +kernel, rfl, zT4_of (i := 190) rfl rfl⟩
theorem iX11_fail_4 : zB zX11_fail 4 (.ifCond .ne) 7 20 := ⟨16, by decide +kernel, rfl, by decide⟩
theorem iX11_fail_7 : zAl zX11_fail 7 0 8 := Or.inl ⟨0, rfl, by decide +kernel, rfl⟩
theorem iX11_fail_8 : zCo zX11_fail 8 (1) 9 := Or.inl ⟨1, by decide, by decide +kernel, rfl⟩
theorem iX11_fail_9 : zPf zX11_fail 9 11 39 .boolean 12 := ⟨227, _, _, _, zcf_11, by decide, by decide +kernel, rfl, zT4_of (i := 190) rfl rfl, by decide +kernel, Or.inl rfl⟩
theorem iX11_fail_12 : zAl zX11_fail 12 0 13 := Or.inl ⟨0, rfl, by decide +kernel, rfl⟩
theorem iX11_fail_13 : zAl zX11_fail 13 0 14 := Or.inl ⟨0, rfl, by decide +kernel, rfl⟩
theorem iX11_fail_14 : zGf zX11_fail 14 11 35 17 := ⟨207, _, _, _, zcf_11, by decide, by decide +kernel, rfl, zT4_of (i := 186) rfl rfl⟩
theorem iX11_fail_17 : zPf zX11_fail 17 11 40 .int 20 := ⟨231, _, _, _, zcf_11, by decide, by decide +kernel, rfl, zT4_of (i := 191) rfl rfl, by decide +kernel, Or.inl rfl⟩
theorem iX11_fail_20 : zD zX11_fail 20 1 (.return_) 21 := ⟨by decide +kernel, rfl⟩
theorem iX11_isWord_0 : zAl zX11_isWord 0 0 1 := Or.inl ⟨0, rfl, by decide +kernel, rfl⟩
theorem iX11_isWord_1 : zGf zX11_isWord 1 11 39 4 := ⟨227, _, _, _, zcf_11, by decide, by decide +kernel, rfl, zT4_of (i := 190) rfl rfl⟩
theorem iX11_isWord_4 : zB zX11_isWord 4 (.ifCond .ne) 7 28 := ⟨24, by decide +kernel, rfl, by decide⟩
theorem iX11_isWord_7 : zAl zX11_isWord 7 0 8 := Or.inl ⟨0, rfl, by decide +kernel, rfl⟩
theorem iX11_isWord_8 : zGf zX11_isWord 8 11 34 11 := ⟨210, _, _, _, zcf_11, by decide, by decide +kernel, rfl, zT4_of (i := 185) rfl rfl⟩
theorem iX11_isWord_11 : zCo zX11_isWord 11 (1) 12 := Or.inl ⟨1, by decide, by decide +kernel, rfl⟩
theorem iX11_isWord_12 : zB zX11_isWord 12 (.if_icmp .ne) 15 28 := ⟨16, by decide +kernel, rfl, by decide⟩
theorem iX11_isWord_15 : zAl zX11_isWord 15 0 16 := Or.inl ⟨0, rfl, by decide +kernel, rfl⟩
theorem iX11_isWord_16 : zGf zX11_isWord 16 11 36 19 := ⟨213, _, _, _, zcf_11, by decide, by decide +kernel, rfl, zT4_of (i := 187) rfl rfl⟩
theorem iX11_isWord_19 : zLl zX11_isWord 19 1 20 := Or.inl ⟨1, rfl, by decide +kernel, rfl⟩
theorem iX11_isWord_20 : zD zX11_isWord 20 1 (.lcmp) 21 := ⟨by decide +kernel, rfl⟩
theorem iX11_isWord_21 : zB zX11_isWord 21 (.ifCond .ne) 24 28 := ⟨7, by decide +kernel, rfl, by decide⟩
theorem iX11_isWord_24 : zCo zX11_isWord 24 (1) 25 := Or.inl ⟨1, by decide, by decide +kernel, rfl⟩
theorem iX11_isWord_25 : zB zX11_isWord 25 .goto 28 29 := ⟨4, by decide +kernel, rfl, by decide⟩
theorem iX11_isWord_28 : zCo zX11_isWord 28 (0) 29 := Or.inl ⟨0, by decide, by decide +kernel, rfl⟩
theorem iX11_isWord_29 : zD zX11_isWord 29 1 (.ireturn) 30 := ⟨by decide +kernel, rfl⟩
theorem iX11_isSign_0 : zAl zX11_isSign 0 0 1 := Or.inl ⟨0, rfl, by decide +kernel, rfl⟩
theorem iX11_isSign_1 : zGf zX11_isSign 1 11 39 4 := ⟨227, _, _, _, zcf_11, by decide, by decide +kernel, rfl, zT4_of (i := 190) rfl rfl⟩
theorem iX11_isSign_4 : zB zX11_isSign 4 (.ifCond .ne) 7 29 := ⟨25, by decide +kernel, rfl, by decide⟩
theorem iX11_isSign_7 : zAl zX11_isSign 7 0 8 := Or.inl ⟨0, rfl, by decide +kernel, rfl⟩
theorem iX11_isSign_8 : zGf zX11_isSign 8 11 34 11 := ⟨210, _, _, _, zcf_11, by decide, by decide +kernel, rfl, zT4_of (i := 185) rfl rfl⟩
theorem iX11_isSign_11 : zCo zX11_isSign 11 (3) 12 := Or.inl ⟨3, by decide, by decide +kernel, rfl⟩
theorem iX11_isSign_12 : zB zX11_isSign 12 (.if_icmp .ne) 15 29 := ⟨17, by decide +kernel, rfl, by decide⟩
theorem iX11_isSign_15 : zAl zX11_isSign 15 0 16 := Or.inl ⟨0, rfl, by decide +kernel, rfl⟩
theorem iX11_isSign_16 : zGf zX11_isSign 16 11 36 19 := ⟨213, _, _, _, zcf_11, by decide, by decide +kernel, rfl, zT4_of (i := 187) rfl rfl⟩
theorem iX11_isSign_19 : zIl zX11_isSign 19 1 20 := Or.inl ⟨1, rfl, by decide +kernel, rfl⟩
theorem iX11_isSign_20 : zD zX11_isSign 20 1 (.i2l) 21 := ⟨by decide +kernel, rfl⟩
theorem iX11_isSign_21 : zD zX11_isSign 21 1 (.lcmp) 22 := ⟨by decide +kernel, rfl⟩
theorem iX11_isSign_22 : zB zX11_isSign 22 (.ifCond .ne) 25 29 := ⟨7, by decide +kernel, rfl, by decide⟩
theorem iX11_isSign_25 : zCo zX11_isSign 25 (1) 26 := Or.inl ⟨1, by decide, by decide +kernel, rfl⟩
theorem iX11_isSign_26 : zB zX11_isSign 26 .goto 29 30 := ⟨4, by decide +kernel, rfl, by decide⟩
theorem iX11_isSign_29 : zCo zX11_isSign 29 (0) 30 := Or.inl ⟨0, by decide, by decide +kernel, rfl⟩
theorem iX11_isSign_30 : zD zX11_isSign 30 1 (.ireturn) 31 := ⟨by decide +kernel, rfl⟩
theorem iX11_opens_0 : zAl zX11_opens 0 0 1 := Or.inl ⟨0, rfl, by decide +kernel, rfl⟩
theorem iX11_opens_1 : zGf zX11_opens 1 11 38 4 := ⟨234, _, _, _, zcf_11, by decide, by decide +kernel, rfl, zT4_of (i := 189) rfl rfl⟩
theorem iX11_opens_4 : zCo zX11_opens 4 (5) 5 := Or.inl ⟨5, by decide, by decide +kernel, rfl⟩
theorem iX11_opens_5 : zB zX11_opens 5 (.if_icmp .ne) 8 14 := ⟨9, by decide +kernel, rfl, by decide⟩
theorem iX11_opens_8 : zAl zX11_opens 8 0 9 := Or.inl ⟨0, rfl, by decide +kernel, rfl⟩
theorem iX11_opens_9 : zCl zX11_opens 9 .invokevirtual zX11_fail 12 := ⟨237, by decide +kernel, rfl, Or.inl (zT5_of (i := 208) rfl rfl)⟩
theorem iX11_opens_12 : zCo zX11_opens 12 (0) 13 := Or.inl ⟨0, by decide, by decide +kernel, rfl⟩
theorem iX11_opens_13 : zD zX11_opens 13 1 (.ireturn) 14 := ⟨by decide +kernel, rfl⟩
theorem iX11_opens_14 : zAl zX11_opens 14 0 15 := Or.inl ⟨0, rfl, by decide +kernel, rfl⟩
theorem iX11_opens_15 : zD zX11_opens 15 1 (.dup) 16 := ⟨by decide +kernel, rfl⟩
theorem iX11_opens_16 : zGf zX11_opens 16 11 38 19 := ⟨234, _, _, _, zcf_11, by decide, by decide +kernel, rfl, zT4_of (i := 189) rfl rfl⟩
theorem iX11_opens_19 : zCo zX11_opens 19 (1) 20 := Or.inl ⟨1, by decide, by decide +kernel, rfl⟩
theorem iX11_opens_20 : zD zX11_opens 20 1 (.iadd) 21 := ⟨by decide +kernel, rfl⟩
theorem iX11_opens_21 : zPf zX11_opens 21 11 38 .int 24 := ⟨234, _, _, _, zcf_11, by decide, by decide +kernel, rfl, zT4_of (i := 189) rfl rfl, by decide +kernel, Or.inl rfl⟩
theorem iX11_opens_24 : zAl zX11_opens 24 0 25 := Or.inl ⟨0, rfl, by decide +kernel, rfl⟩
theorem iX11_opens_25 : zCl zX11_opens 25 .invokevirtual zX11_next 28 := ⟨240, by decide +kernel, rfl, Or.inl (zT5_of (i := 186) rfl rfl)⟩
theorem iX11_opens_28 : zCo zX11_opens 28 (1) 29 := Or.inl ⟨1, by decide, by decide +kernel, rfl⟩
theorem iX11_opens_29 : zD zX11_opens 29 1 (.ireturn) 30 := ⟨by decide +kernel, rfl⟩
theorem iX11_name_0 : zAl zX11_name 0 0 1 := Or.inl ⟨0, rfl, by decide +kernel, rfl⟩
theorem iX11_name_1 : zCL zX11_name 1 (74917) 4 := Or.inr ⟨243, zT6_of (i := 9) rfl rfl, by decide +kernel, rfl⟩
theorem iX11_name_4 : zCl zX11_name 4 .invokevirtual zX11_isWord 7 := ⟨245, by decide +kernel, rfl, Or.inl (zT5_of (i := 204) rfl rfl)⟩
theorem iX11_name_7 : zB zX11_name 7 (.ifCond .eq) 10 15 := ⟨8, by decide +kernel, rfl, by decide⟩
theorem iX11_name_10 : zAl zX11_name 10 0 11 := Or.inl ⟨0, rfl, by decide +kernel, rfl⟩
theorem iX11_name_11 : zGf zX11_name 11 11 41 14 := ⟨249, _, _, _, zcf_11, by decide, by decide +kernel, rfl, zT4_of (i := 192) rfl rfl⟩
theorem iX11_name_14 : zD zX11_name 14 1 (.ireturn) 15 := ⟨by decide +kernel, rfl⟩
theorem iX11_name_15 : zAl zX11_name 15 0 16 := Or.inl ⟨0, rfl, by decide +kernel, rfl⟩
theorem iX11_name_16 : zCL zX11_name 16 (10416091) 19 := Or.inr ⟨252, zT6_of (i := 10) rfl rfl, by decide +kernel, rfl⟩
theorem iX11_name_19 : zCl zX11_name 19 .invokevirtual zX11_isWord 22 := ⟨245, by decide +kernel, rfl, Or.inl (zT5_of (i := 204) rfl rfl)⟩
theorem iX11_name_22 : zB zX11_name 22 (.ifCond .eq) 25 30 := ⟨8, by decide +kernel, rfl, by decide⟩
theorem iX11_name_25 : zAl zX11_name 25 0 26 := Or.inl ⟨0, rfl, by decide +kernel, rfl⟩
theorem iX11_name_26 : zGf zX11_name 26 11 42 29 := ⟨254, _, _, _, zcf_11, by decide, by decide +kernel, rfl, zT4_of (i := 193) rfl rfl⟩
theorem iX11_name_29 : zD zX11_name 29 1 (.ireturn) 30 := ⟨by decide +kernel, rfl⟩
theorem iX11_name_30 : zAl zX11_name 30 0 31 := Or.inl ⟨0, rfl, by decide +kernel, rfl⟩
theorem iX11_name_31 : zCL zX11_name 31 (10506516) 34 := Or.inr ⟨257, zT6_of (i := 11) rfl rfl, by decide +kernel, rfl⟩
theorem iX11_name_34 : zCl zX11_name 34 .invokevirtual zX11_isWord 37 := ⟨245, by decide +kernel, rfl, Or.inl (zT5_of (i := 204) rfl rfl)⟩
theorem iX11_name_37 : zB zX11_name 37 (.ifCond .eq) 40 45 := ⟨8, by decide +kernel, rfl, by decide⟩
theorem iX11_name_40 : zAl zX11_name 40 0 41 := Or.inl ⟨0, rfl, by decide +kernel, rfl⟩
theorem iX11_name_41 : zGf zX11_name 41 11 43 44 := ⟨259, _, _, _, zcf_11, by decide, by decide +kernel, rfl, zT4_of (i := 194) rfl rfl⟩
theorem iX11_name_44 : zD zX11_name 44 1 (.ireturn) 45 := ⟨by decide +kernel, rfl⟩
theorem iX11_name_45 : zAl zX11_name 45 0 46 := Or.inl ⟨0, rfl, by decide +kernel, rfl⟩
theorem iX11_name_46 : zCL zX11_name 46 (242924) 49 := Or.inr ⟨262, zT6_of (i := 12) rfl rfl, by decide +kernel, rfl⟩
theorem iX11_name_49 : zCl zX11_name 49 .invokevirtual zX11_isWord 52 := ⟨245, by decide +kernel, rfl, Or.inl (zT5_of (i := 204) rfl rfl)⟩
theorem iX11_name_52 : zB zX11_name 52 (.ifCond .eq) 55 60 := ⟨8, by decide +kernel, rfl, by decide⟩
theorem iX11_name_55 : zAl zX11_name 55 0 56 := Or.inl ⟨0, rfl, by decide +kernel, rfl⟩
theorem iX11_name_56 : zGf zX11_name 56 11 44 59 := ⟨264, _, _, _, zcf_11, by decide, by decide +kernel, rfl, zT4_of (i := 195) rfl rfl⟩
theorem iX11_name_59 : zD zX11_name 59 1 (.ireturn) 60 := ⟨by decide +kernel, rfl⟩
theorem iX11_name_60 : zAl zX11_name 60 0 61 := Or.inl ⟨0, rfl, by decide +kernel, rfl⟩
theorem iX11_name_61 : zCL zX11_name 61 (7045930456) 64 := Or.inr ⟨267, zT6_of (i := 13) rfl rfl, by decide +kernel, rfl⟩
theorem iX11_name_64 : zCl zX11_name 64 .invokevirtual zX11_isWord 67 := ⟨245, by decide +kernel, rfl, Or.inl (zT5_of (i := 204) rfl rfl)⟩
theorem iX11_name_67 : zB zX11_name 67 (.ifCond .eq) 70 75 := ⟨8, by decide +kernel, rfl, by decide⟩
theorem iX11_name_70 : zAl zX11_name 70 0 71 := Or.inl ⟨0, rfl, by decide +kernel, rfl⟩
theorem iX11_name_71 : zGf zX11_name 71 11 45 74 := ⟨269, _, _, _, zcf_11, by decide, by decide +kernel, rfl, zT4_of (i := 196) rfl rfl⟩
theorem iX11_name_74 : zD zX11_name 74 1 (.ireturn) 75 := ⟨by decide +kernel, rfl⟩
theorem iX11_name_75 : zAl zX11_name 75 0 76 := Or.inl ⟨0, rfl, by decide +kernel, rfl⟩
theorem iX11_name_76 : zCL zX11_name 76 (5646216576) 79 := Or.inr ⟨272, zT6_of (i := 14) rfl rfl, by decide +kernel, rfl⟩
theorem iX11_name_79 : zCl zX11_name 79 .invokevirtual zX11_isWord 82 := ⟨245, by decide +kernel, rfl, Or.inl (zT5_of (i := 204) rfl rfl)⟩
theorem iX11_name_82 : zB zX11_name 82 (.ifCond .eq) 85 90 := ⟨8, by decide +kernel, rfl, by decide⟩
theorem iX11_name_85 : zAl zX11_name 85 0 86 := Or.inl ⟨0, rfl, by decide +kernel, rfl⟩
theorem iX11_name_86 : zGf zX11_name 86 11 46 89 := ⟨274, _, _, _, zcf_11, by decide, by decide +kernel, rfl, zT4_of (i := 197) rfl rfl⟩
theorem iX11_name_89 : zD zX11_name 89 1 (.ireturn) 90 := ⟨by decide +kernel, rfl⟩
theorem iX11_name_90 : zAl zX11_name 90 0 91 := Or.inl ⟨0, rfl, by decide +kernel, rfl⟩
theorem iX11_name_91 : zCl zX11_name 91 .invokevirtual zX11_fail 94 := ⟨237, by decide +kernel, rfl, Or.inl (zT5_of (i := 208) rfl rfl)⟩
theorem iX11_name_94 : zCo zX11_name 94 (0) 95 := Or.inl ⟨0, by decide, by decide +kernel, rfl⟩
theorem iX11_name_95 : zD zX11_name 95 1 (.ireturn) 96 := ⟨by decide +kernel, rfl⟩
theorem iX11_one_0 : zCo zX11_one 0 (0) 1 := Or.inl ⟨0, by decide, by decide +kernel, rfl⟩
theorem iX11_one_1 : zIs zX11_one 1 1 2 := ⟨by decide, Or.inl ⟨1, rfl, by decide +kernel, rfl⟩⟩
theorem iX11_one_2 : zAl zX11_one 2 0 3 := Or.inl ⟨0, rfl, by decide +kernel, rfl⟩
theorem iX11_one_3 : zCo zX11_one 3 (45) 5 := Or.inr (Or.inl ⟨45, by decide, by decide +kernel, rfl⟩)
theorem iX11_one_5 : zCl zX11_one 5 .invokevirtual zX11_isSign 8 := ⟨277, by decide +kernel, rfl, Or.inl (zT6_of (i := 1) rfl rfl)⟩
theorem iX11_one_8 : zB zX11_one 8 (.ifCond .eq) 11 37 := ⟨29, by decide +kernel, rfl, by decide⟩
theorem iX11_one_11 : zAl zX11_one 11 0 12 := Or.inl ⟨0, rfl, by decide +kernel, rfl⟩
theorem iX11_one_12 : zCl zX11_one 12 .invokevirtual zX11_opens 15 := ⟨280, by decide +kernel, rfl, Or.inl (zT5_of (i := 225) rfl rfl)⟩
theorem iX11_one_15 : zB zX11_one 15 (.ifCond .eq) 18 161 := ⟨146, by decide +kernel, rfl, by decide⟩
theorem iX11_one_18 : zAl zX11_one 18 0 19 := Or.inl ⟨0, rfl, by decide +kernel, rfl⟩
theorem iX11_one_19 : zCl zX11_one 19 .invokevirtual zX11_one 22 := ⟨284, by decide +kernel, rfl, Or.inl (zT5_of (i := 237) rfl rfl)⟩
theorem iX11_one_22 : zD zX11_one 22 1 (.ineg) 23 := ⟨by decide +kernel, rfl⟩
theorem iX11_one_23 : zIs zX11_one 23 1 24 := ⟨by decide, Or.inl ⟨1, rfl, by decide +kernel, rfl⟩⟩
theorem iX11_one_24 : zAl zX11_one 24 0 25 := Or.inl ⟨0, rfl, by decide +kernel, rfl⟩
theorem iX11_one_25 : zD zX11_one 25 1 (.dup) 26 := ⟨by decide +kernel, rfl⟩
theorem iX11_one_26 : zGf zX11_one 26 11 38 29 := ⟨234, _, _, _, zcf_11, by decide, by decide +kernel, rfl, zT4_of (i := 189) rfl rfl⟩
theorem iX11_one_29 : zCo zX11_one 29 (1) 30 := Or.inl ⟨1, by decide, by decide +kernel, rfl⟩
theorem iX11_one_30 : zD zX11_one 30 1 (.isub) 31 := ⟨by decide +kernel, rfl⟩
theorem iX11_one_31 : zPf zX11_one 31 11 38 .int 34 := ⟨234, _, _, _, zcf_11, by decide, by decide +kernel, rfl, zT4_of (i := 189) rfl rfl, by decide +kernel, Or.inl rfl⟩
theorem iX11_one_34 : zB zX11_one 34 .goto 37 161 := ⟨127, by decide +kernel, rfl, by decide⟩
theorem iX11_one_37 : zAl zX11_one 37 0 38 := Or.inl ⟨0, rfl, by decide +kernel, rfl⟩
theorem iX11_one_38 : zCo zX11_one 38 (40) 40 := Or.inr (Or.inl ⟨40, by decide, by decide +kernel, rfl⟩)
theorem iX11_one_40 : zCl zX11_one 40 .invokevirtual zX11_isSign 43 := ⟨277, by decide +kernel, rfl, Or.inl (zT6_of (i := 1) rfl rfl)⟩
theorem iX11_one_43 : zB zX11_one 43 (.ifCond .eq) 46 95 := ⟨52, by decide +kernel, rfl, by decide⟩
theorem iX11_one_46 : zAl zX11_one 46 0 47 := Or.inl ⟨0, rfl, by decide +kernel, rfl⟩
theorem iX11_one_47 : zCl zX11_one 47 .invokevirtual zX11_opens 50 := ⟨280, by decide +kernel, rfl, Or.inl (zT5_of (i := 225) rfl rfl)⟩
theorem iX11_one_50 : zB zX11_one 50 (.ifCond .eq) 53 161 := ⟨111, by decide +kernel, rfl, by decide⟩
theorem iX11_one_53 : zAl zX11_one 53 0 54 := Or.inl ⟨0, rfl, by decide +kernel, rfl⟩
theorem iX11_one_54 : zCl zX11_one 54 .invokevirtual zX11_either 57 := ⟨288, by decide +kernel, rfl, Or.inl (zT5_of (i := 212) rfl rfl)⟩
theorem iX11_one_57 : zIs zX11_one 57 1 58 := ⟨by decide, Or.inl ⟨1, rfl, by decide +kernel, rfl⟩⟩
theorem iX11_one_58 : zAl zX11_one 58 0 59 := Or.inl ⟨0, rfl, by decide +kernel, rfl⟩
theorem iX11_one_59 : zCo zX11_one 59 (41) 61 := Or.inr (Or.inl ⟨41, by decide, by decide +kernel, rfl⟩)
theorem iX11_one_61 : zCl zX11_one 61 .invokevirtual zX11_isSign 64 := ⟨277, by decide +kernel, rfl, Or.inl (zT6_of (i := 1) rfl rfl)⟩
theorem iX11_one_64 : zB zX11_one 64 (.ifCond .ne) 67 71 := ⟨7, by decide +kernel, rfl, by decide⟩
theorem iX11_one_67 : zAl zX11_one 67 0 68 := Or.inl ⟨0, rfl, by decide +kernel, rfl⟩
theorem iX11_one_68 : zCl zX11_one 68 .invokevirtual zX11_fail 71 := ⟨237, by decide +kernel, rfl, Or.inl (zT5_of (i := 208) rfl rfl)⟩
theorem iX11_one_71 : zAl zX11_one 71 0 72 := Or.inl ⟨0, rfl, by decide +kernel, rfl⟩
theorem iX11_one_72 : zD zX11_one 72 1 (.dup) 73 := ⟨by decide +kernel, rfl⟩
theorem iX11_one_73 : zGf zX11_one 73 11 38 76 := ⟨234, _, _, _, zcf_11, by decide, by decide +kernel, rfl, zT4_of (i := 189) rfl rfl⟩
theorem iX11_one_76 : zCo zX11_one 76 (1) 77 := Or.inl ⟨1, by decide, by decide +kernel, rfl⟩
theorem iX11_one_77 : zD zX11_one 77 1 (.isub) 78 := ⟨by decide +kernel, rfl⟩
theorem iX11_one_78 : zPf zX11_one 78 11 38 .int 81 := ⟨234, _, _, _, zcf_11, by decide, by decide +kernel, rfl, zT4_of (i := 189) rfl rfl, by decide +kernel, Or.inl rfl⟩
theorem iX11_one_81 : zAl zX11_one 81 0 82 := Or.inl ⟨0, rfl, by decide +kernel, rfl⟩
theorem iX11_one_82 : zGf zX11_one 82 11 39 85 := ⟨227, _, _, _, zcf_11, by decide, by decide +kernel, rfl, zT4_of (i := 190) rfl rfl⟩
theorem iX11_one_85 : zB zX11_one 85 (.ifCond .ne) 88 161 := ⟨76, by decide +kernel, rfl, by decide⟩
theorem iX11_one_88 : zAl zX11_one 88 0 89 := Or.inl ⟨0, rfl, by decide +kernel, rfl⟩
theorem iX11_one_89 : zCl zX11_one 89 .invokevirtual zX11_next 92 := ⟨240, by decide +kernel, rfl, Or.inl (zT5_of (i := 186) rfl rfl)⟩
theorem iX11_one_92 : zB zX11_one 92 .goto 95 161 := ⟨69, by decide +kernel, rfl, by decide⟩
theorem iX11_one_95 : zAl zX11_one 95 0 96 := Or.inl ⟨0, rfl, by decide +kernel, rfl⟩
theorem iX11_one_96 : zGf zX11_one 96 11 39 99 := ⟨227, _, _, _, zcf_11, by decide, by decide +kernel, rfl, zT4_of (i := 190) rfl rfl⟩
theorem iX11_one_99 : zB zX11_one 99 (.ifCond .ne) 102 123 := ⟨24, by decide +kernel, rfl, by decide⟩
theorem iX11_one_102 : zAl zX11_one 102 0 103 := Or.inl ⟨0, rfl, by decide +kernel, rfl⟩
theorem iX11_one_103 : zGf zX11_one 103 11 34 106 := ⟨210, _, _, _, zcf_11, by decide, by decide +kernel, rfl, zT4_of (i := 185) rfl rfl⟩
theorem iX11_one_106 : zCo zX11_one 106 (2) 107 := Or.inl ⟨2, by decide, by decide +kernel, rfl⟩
theorem iX11_one_107 : zB zX11_one 107 (.if_icmp .ne) 110 123 := ⟨16, by decide +kernel, rfl, by decide⟩
theorem iX11_one_110 : zAl zX11_one 110 0 111 := Or.inl ⟨0, rfl, by decide +kernel, rfl⟩
theorem iX11_one_111 : zGf zX11_one 111 11 36 114 := ⟨213, _, _, _, zcf_11, by decide, by decide +kernel, rfl, zT4_of (i := 187) rfl rfl⟩
theorem iX11_one_114 : zD zX11_one 114 1 (.l2i) 115 := ⟨by decide +kernel, rfl⟩
theorem iX11_one_115 : zIs zX11_one 115 1 116 := ⟨by decide, Or.inl ⟨1, rfl, by decide +kernel, rfl⟩⟩
theorem iX11_one_116 : zAl zX11_one 116 0 117 := Or.inl ⟨0, rfl, by decide +kernel, rfl⟩
theorem iX11_one_117 : zCl zX11_one 117 .invokevirtual zX11_next 120 := ⟨240, by decide +kernel, rfl, Or.inl (zT5_of (i := 186) rfl rfl)⟩
theorem iX11_one_120 : zB zX11_one 120 .goto 123 161 := ⟨41, by decide +kernel, rfl, by decide⟩
theorem iX11_one_123 : zAl zX11_one 123 0 124 := Or.inl ⟨0, rfl, by decide +kernel, rfl⟩
theorem iX11_one_124 : zGf zX11_one 124 11 39 127 := ⟨227, _, _, _, zcf_11, by decide, by decide +kernel, rfl, zT4_of (i := 190) rfl rfl⟩
theorem iX11_one_127 : zB zX11_one 127 (.ifCond .ne) 130 157 := ⟨30, by decide +kernel, rfl, by decide⟩
theorem iX11_one_130 : zAl zX11_one 130 0 131 := Or.inl ⟨0, rfl, by decide +kernel, rfl⟩
theorem iX11_one_131 : zGf zX11_one 131 11 34 134 := ⟨210, _, _, _, zcf_11, by decide, by decide +kernel, rfl, zT4_of (i := 185) rfl rfl⟩
theorem iX11_one_134 : zCo zX11_one 134 (1) 135 := Or.inl ⟨1, by decide, by decide +kernel, rfl⟩
theorem iX11_one_135 : zB zX11_one 135 (.if_icmp .ne) 138 157 := ⟨22, by decide +kernel, rfl, by decide⟩
theorem iX11_one_138 : zAl zX11_one 138 0 139 := Or.inl ⟨0, rfl, by decide +kernel, rfl⟩
theorem iX11_one_139 : zCl zX11_one 139 .invokevirtual zX11_name 142 := ⟨291, by decide +kernel, rfl, Or.inl (zT6_of (i := 5) rfl rfl)⟩
theorem iX11_one_142 : zIs zX11_one 142 1 143 := ⟨by decide, Or.inl ⟨1, rfl, by decide +kernel, rfl⟩⟩
theorem iX11_one_143 : zAl zX11_one 143 0 144 := Or.inl ⟨0, rfl, by decide +kernel, rfl⟩
theorem iX11_one_144 : zGf zX11_one 144 11 39 147 := ⟨227, _, _, _, zcf_11, by decide, by decide +kernel, rfl, zT4_of (i := 190) rfl rfl⟩
theorem iX11_one_147 : zB zX11_one 147 (.ifCond .ne) 150 161 := ⟨14, by decide +kernel, rfl, by decide⟩
theorem iX11_one_150 : zAl zX11_one 150 0 151 := Or.inl ⟨0, rfl, by decide +kernel, rfl⟩
theorem iX11_one_151 : zCl zX11_one 151 .invokevirtual zX11_next 154 := ⟨240, by decide +kernel, rfl, Or.inl (zT5_of (i := 186) rfl rfl)⟩
theorem iX11_one_154 : zB zX11_one 154 .goto 157 161 := ⟨7, by decide +kernel, rfl, by decide⟩
theorem iX11_one_157 : zAl zX11_one 157 0 158 := Or.inl ⟨0, rfl, by decide +kernel, rfl⟩
theorem iX11_one_158 : zCl zX11_one 158 .invokevirtual zX11_fail 161 := ⟨237, by decide +kernel, rfl, Or.inl (zT5_of (i := 208) rfl rfl)⟩
theorem iX11_one_161 : zIl zX11_one 161 1 162 := Or.inl ⟨1, rfl, by decide +kernel, rfl⟩
theorem iX11_one_162 : zD zX11_one 162 1 (.ireturn) 163 := ⟨by decide +kernel, rfl⟩
theorem iX11_term_0 : zAl zX11_term 0 0 1 := Or.inl ⟨0, rfl, by decide +kernel, rfl⟩
theorem iX11_term_1 : zCl zX11_term 1 .invokevirtual zX11_one 4 := ⟨284, by decide +kernel, rfl, Or.inl (zT5_of (i := 237) rfl rfl)⟩
theorem iX11_term_4 : zIs zX11_term 4 1 5 := ⟨by decide, Or.inl ⟨1, rfl, by decide +kernel, rfl⟩⟩
theorem iX11_term_5 : zAl zX11_term 5 0 6 := Or.inl ⟨0, rfl, by decide +kernel, rfl⟩
theorem iX11_term_6 : zCo zX11_term 6 (42) 8 := Or.inr (Or.inl ⟨42, by decide, by decide +kernel, rfl⟩)
theorem iX11_term_8 : zCl zX11_term 8 .invokevirtual zX11_isSign 11 := ⟨277, by decide +kernel, rfl, Or.inl (zT6_of (i := 1) rfl rfl)⟩
theorem iX11_term_11 : zB zX11_term 11 (.ifCond .eq) 14 28 := ⟨17, by decide +kernel, rfl, by decide⟩
theorem iX11_term_14 : zAl zX11_term 14 0 15 := Or.inl ⟨0, rfl, by decide +kernel, rfl⟩
theorem iX11_term_15 : zCl zX11_term 15 .invokevirtual zX11_next 18 := ⟨240, by decide +kernel, rfl, Or.inl (zT5_of (i := 186) rfl rfl)⟩
theorem iX11_term_18 : zIl zX11_term 18 1 19 := Or.inl ⟨1, rfl, by decide +kernel, rfl⟩
theorem iX11_term_19 : zAl zX11_term 19 0 20 := Or.inl ⟨0, rfl, by decide +kernel, rfl⟩
theorem iX11_term_20 : zCl zX11_term 20 .invokevirtual zX11_one 23 := ⟨284, by decide +kernel, rfl, Or.inl (zT5_of (i := 237) rfl rfl)⟩
theorem iX11_term_23 : zD zX11_term 23 1 (.imul) 24 := ⟨by decide +kernel, rfl⟩
theorem iX11_term_24 : zIs zX11_term 24 1 25 := ⟨by decide, Or.inl ⟨1, rfl, by decide +kernel, rfl⟩⟩
theorem iX11_term_25 : zB zX11_term 25 .goto 28 5 := ⟨-20, by decide +kernel, rfl, by decide⟩
theorem iX11_term_28 : zIl zX11_term 28 1 29 := Or.inl ⟨1, rfl, by decide +kernel, rfl⟩
theorem iX11_term_29 : zD zX11_term 29 1 (.ireturn) 30 := ⟨by decide +kernel, rfl⟩
theorem iX11_added_0 : zAl zX11_added 0 0 1 := Or.inl ⟨0, rfl, by decide +kernel, rfl⟩
theorem iX11_added_1 : zCl zX11_added 1 .invokevirtual zX11_term 4 := ⟨294, by decide +kernel, rfl, Or.inl (zT5_of (i := 233) rfl rfl)⟩
theorem iX11_added_4 : zIs zX11_added 4 1 5 := ⟨by decide, Or.inl ⟨1, rfl, by decide +kernel, rfl⟩⟩
theorem iX11_added_5 : zAl zX11_added 5 0 6 := Or.inl ⟨0, rfl, by decide +kernel, rfl⟩
theorem iX11_added_6 : zCo zX11_added 6 (43) 8 := Or.inr (Or.inl ⟨43, by decide, by decide +kernel, rfl⟩)
theorem iX11_added_8 : zCl zX11_added 8 .invokevirtual zX11_isSign 11 := ⟨277, by decide +kernel, rfl, Or.inl (zT6_of (i := 1) rfl rfl)⟩
theorem iX11_added_11 : zB zX11_added 11 (.ifCond .ne) 14 23 := ⟨12, by decide +kernel, rfl, by decide⟩
theorem iX11_added_14 : zAl zX11_added 14 0 15 := Or.inl ⟨0, rfl, by decide +kernel, rfl⟩
theorem iX11_added_15 : zCo zX11_added 15 (45) 17 := Or.inr (Or.inl ⟨45, by decide, by decide +kernel, rfl⟩)
theorem iX11_added_17 : zCl zX11_added 17 .invokevirtual zX11_isSign 20 := ⟨277, by decide +kernel, rfl, Or.inl (zT6_of (i := 1) rfl rfl)⟩
theorem iX11_added_20 : zB zX11_added 20 (.ifCond .eq) 23 66 := ⟨46, by decide +kernel, rfl, by decide⟩
theorem iX11_added_23 : zAl zX11_added 23 0 24 := Or.inl ⟨0, rfl, by decide +kernel, rfl⟩
theorem iX11_added_24 : zGf zX11_added 24 11 36 27 := ⟨213, _, _, _, zcf_11, by decide, by decide +kernel, rfl, zT4_of (i := 187) rfl rfl⟩
theorem iX11_added_27 : zCL zX11_added 27 (43) 30 := Or.inr ⟨297, zT6_of (i := 15) rfl rfl, by decide +kernel, rfl⟩
theorem iX11_added_30 : zD zX11_added 30 1 (.lcmp) 31 := ⟨by decide +kernel, rfl⟩
theorem iX11_added_31 : zB zX11_added 31 (.ifCond .ne) 34 38 := ⟨7, by decide +kernel, rfl, by decide⟩
theorem iX11_added_34 : zCo zX11_added 34 (1) 35 := Or.inl ⟨1, by decide, by decide +kernel, rfl⟩
theorem iX11_added_35 : zB zX11_added 35 .goto 38 39 := ⟨4, by decide +kernel, rfl, by decide⟩
theorem iX11_added_38 : zCo zX11_added 38 (0) 39 := Or.inl ⟨0, by decide, by decide +kernel, rfl⟩
theorem iX11_added_39 : zIs zX11_added 39 2 40 := ⟨by decide, Or.inl ⟨2, rfl, by decide +kernel, rfl⟩⟩
theorem iX11_added_40 : zAl zX11_added 40 0 41 := Or.inl ⟨0, rfl, by decide +kernel, rfl⟩
theorem iX11_added_41 : zCl zX11_added 41 .invokevirtual zX11_next 44 := ⟨240, by decide +kernel, rfl, Or.inl (zT5_of (i := 186) rfl rfl)⟩
theorem iX11_added_44 : zAl zX11_added 44 0 45 := Or.inl ⟨0, rfl, by decide +kernel, rfl⟩
theorem iX11_added_45 : zCl zX11_added 45 .invokevirtual zX11_term 48 := ⟨294, by decide +kernel, rfl, Or.inl (zT5_of (i := 233) rfl rfl)⟩
theorem iX11_added_48 : zIs zX11_added 48 3 49 := ⟨by decide, Or.inl ⟨3, rfl, by decide +kernel, rfl⟩⟩
theorem iX11_added_49 : zIl zX11_added 49 2 50 := Or.inl ⟨2, rfl, by decide +kernel, rfl⟩
theorem iX11_added_50 : zB zX11_added 50 (.ifCond .eq) 53 59 := ⟨9, by decide +kernel, rfl, by decide⟩
theorem iX11_added_53 : zIl zX11_added 53 1 54 := Or.inl ⟨1, rfl, by decide +kernel, rfl⟩
theorem iX11_added_54 : zIl zX11_added 54 3 55 := Or.inl ⟨3, rfl, by decide +kernel, rfl⟩
theorem iX11_added_55 : zD zX11_added 55 1 (.iadd) 56 := ⟨by decide +kernel, rfl⟩
theorem iX11_added_56 : zB zX11_added 56 .goto 59 62 := ⟨6, by decide +kernel, rfl, by decide⟩
theorem iX11_added_59 : zIl zX11_added 59 1 60 := Or.inl ⟨1, rfl, by decide +kernel, rfl⟩
theorem iX11_added_60 : zIl zX11_added 60 3 61 := Or.inl ⟨3, rfl, by decide +kernel, rfl⟩
theorem iX11_added_61 : zD zX11_added 61 1 (.isub) 62 := ⟨by decide +kernel, rfl⟩
theorem iX11_added_62 : zIs zX11_added 62 1 63 := ⟨by decide, Or.inl ⟨1, rfl, by decide +kernel, rfl⟩⟩
theorem iX11_added_63 : zB zX11_added 63 .goto 66 5 := ⟨-58, by decide +kernel, rfl, by decide⟩
theorem iX11_added_66 : zIl zX11_added 66 1 67 := Or.inl ⟨1, rfl, by decide +kernel, rfl⟩
theorem iX11_added_67 : zD zX11_added 67 1 (.ireturn) 68 := ⟨by decide +kernel, rfl⟩
theorem iX11_not_0 : zAl zX11_not 0 0 1 := Or.inl ⟨0, rfl, by decide +kernel, rfl⟩
theorem iX11_not_1 : zCL zX11_not 1 (10631) 4 := Or.inr ⟨299, zT5_of (i := 224) rfl rfl, by decide +kernel, rfl⟩
theorem iX11_not_4 : zCl zX11_not 4 .invokevirtual zX11_isWord 7 := ⟨245, by decide +kernel, rfl, Or.inl (zT5_of (i := 204) rfl rfl)⟩
theorem iX11_not_7 : zB zX11_not 7 (.ifCond .eq) 10 44 := ⟨37, by decide +kernel, rfl, by decide⟩
theorem iX11_not_10 : zAl zX11_not 10 0 11 := Or.inl ⟨0, rfl, by decide +kernel, rfl⟩
theorem iX11_not_11 : zCl zX11_not 11 .invokevirtual zX11_opens 14 := ⟨280, by decide +kernel, rfl, Or.inl (zT5_of (i := 225) rfl rfl)⟩
theorem iX11_not_14 : zB zX11_not 14 (.ifCond .ne) 17 19 := ⟨5, by decide +kernel, rfl, by decide⟩
theorem iX11_not_17 : zCo zX11_not 17 (0) 18 := Or.inl ⟨0, by decide, by decide +kernel, rfl⟩
theorem iX11_not_18 : zD zX11_not 18 1 (.ireturn) 19 := ⟨by decide +kernel, rfl⟩
theorem iX11_not_19 : zAl zX11_not 19 0 20 := Or.inl ⟨0, rfl, by decide +kernel, rfl⟩
theorem iX11_not_20 : zCl zX11_not 20 .invokevirtual zX11_not 23 := ⟨301, by decide +kernel, rfl, Or.inl (zT5_of (i := 220) rfl rfl)⟩
theorem iX11_not_23 : zIs zX11_not 23 1 24 := ⟨by decide, Or.inl ⟨1, rfl, by decide +kernel, rfl⟩⟩
theorem iX11_not_24 : zAl zX11_not 24 0 25 := Or.inl ⟨0, rfl, by decide +kernel, rfl⟩
theorem iX11_not_25 : zD zX11_not 25 1 (.dup) 26 := ⟨by decide +kernel, rfl⟩
theorem iX11_not_26 : zGf zX11_not 26 11 38 29 := ⟨234, _, _, _, zcf_11, by decide, by decide +kernel, rfl, zT4_of (i := 189) rfl rfl⟩
theorem iX11_not_29 : zCo zX11_not 29 (1) 30 := Or.inl ⟨1, by decide, by decide +kernel, rfl⟩
theorem iX11_not_30 : zD zX11_not 30 1 (.isub) 31 := ⟨by decide +kernel, rfl⟩
theorem iX11_not_31 : zPf zX11_not 31 11 38 .int 34 := ⟨234, _, _, _, zcf_11, by decide, by decide +kernel, rfl, zT4_of (i := 189) rfl rfl, by decide +kernel, Or.inl rfl⟩
theorem iX11_not_34 : zIl zX11_not 34 1 35 := Or.inl ⟨1, rfl, by decide +kernel, rfl⟩
theorem iX11_not_35 : zB zX11_not 35 (.ifCond .ne) 38 42 := ⟨7, by decide +kernel, rfl, by decide⟩
theorem iX11_not_38 : zCo zX11_not 38 (1) 39 := Or.inl ⟨1, by decide, by decide +kernel, rfl⟩
theorem iX11_not_39 : zB zX11_not 39 .goto 42 43 := ⟨4, by decide +kernel, rfl, by decide⟩
theorem iX11_not_42 : zCo zX11_not 42 (0) 43 := Or.inl ⟨0, by decide, by decide +kernel, rfl⟩
theorem iX11_not_43 : zD zX11_not 43 1 (.ireturn) 44 := ⟨by decide +kernel, rfl⟩
theorem iX11_not_44 : zAl zX11_not 44 0 45 := Or.inl ⟨0, rfl, by decide +kernel, rfl⟩
theorem iX11_not_45 : zCl zX11_not 45 .invokevirtual zX11_added 48 := ⟨304, by decide +kernel, rfl, Or.inl (zT5_of (i := 229) rfl rfl)⟩
theorem iX11_not_48 : zIs zX11_not 48 1 49 := ⟨by decide, Or.inl ⟨1, rfl, by decide +kernel, rfl⟩⟩
theorem iX11_not_49 : zAl zX11_not 49 0 50 := Or.inl ⟨0, rfl, by decide +kernel, rfl⟩
theorem iX11_not_50 : zCo zX11_not 50 (60) 52 := Or.inr (Or.inl ⟨60, by decide, by decide +kernel, rfl⟩)
theorem iX11_not_52 : zCl zX11_not 52 .invokevirtual zX11_isSign 55 := ⟨277, by decide +kernel, rfl, Or.inl (zT6_of (i := 1) rfl rfl)⟩
theorem iX11_not_55 : zB zX11_not 55 (.ifCond .ne) 58 69 := ⟨14, by decide +kernel, rfl, by decide⟩
theorem iX11_not_58 : zAl zX11_not 58 0 59 := Or.inl ⟨0, rfl, by decide +kernel, rfl⟩
theorem iX11_not_59 : zCo zX11_not 59 (61) 61 := Or.inr (Or.inl ⟨61, by decide, by decide +kernel, rfl⟩)
theorem iX11_not_61 : zCl zX11_not 61 .invokevirtual zX11_isSign 64 := ⟨277, by decide +kernel, rfl, Or.inl (zT6_of (i := 1) rfl rfl)⟩
theorem iX11_not_64 : zB zX11_not 64 (.ifCond .ne) 67 69 := ⟨5, by decide +kernel, rfl, by decide⟩
theorem iX11_not_67 : zIl zX11_not 67 1 68 := Or.inl ⟨1, rfl, by decide +kernel, rfl⟩
theorem iX11_not_68 : zD zX11_not 68 1 (.ireturn) 69 := ⟨by decide +kernel, rfl⟩
theorem iX11_not_69 : zAl zX11_not 69 0 70 := Or.inl ⟨0, rfl, by decide +kernel, rfl⟩
theorem iX11_not_70 : zGf zX11_not 70 11 36 73 := ⟨213, _, _, _, zcf_11, by decide, by decide +kernel, rfl, zT4_of (i := 187) rfl rfl⟩
theorem iX11_not_73 : zCL zX11_not 73 (60) 76 := Or.inr ⟨307, zT6_of (i := 16) rfl rfl, by decide +kernel, rfl⟩
theorem iX11_not_76 : zD zX11_not 76 1 (.lcmp) 77 := ⟨by decide +kernel, rfl⟩
theorem iX11_not_77 : zB zX11_not 77 (.ifCond .ne) 80 84 := ⟨7, by decide +kernel, rfl, by decide⟩
theorem iX11_not_80 : zCo zX11_not 80 (1) 81 := Or.inl ⟨1, by decide, by decide +kernel, rfl⟩
theorem iX11_not_81 : zB zX11_not 81 .goto 84 85 := ⟨4, by decide +kernel, rfl, by decide⟩
theorem iX11_not_84 : zCo zX11_not 84 (0) 85 := Or.inl ⟨0, by decide, by decide +kernel, rfl⟩
theorem iX11_not_85 : zIs zX11_not 85 2 86 := ⟨by decide, Or.inl ⟨2, rfl, by decide +kernel, rfl⟩⟩
theorem iX11_not_86 : zAl zX11_not 86 0 87 := Or.inl ⟨0, rfl, by decide +kernel, rfl⟩
theorem iX11_not_87 : zCl zX11_not 87 .invokevirtual zX11_next 90 := ⟨240, by decide +kernel, rfl, Or.inl (zT5_of (i := 186) rfl rfl)⟩
theorem iX11_not_90 : zAl zX11_not 90 0 91 := Or.inl ⟨0, rfl, by decide +kernel, rfl⟩
theorem iX11_not_91 : zCl zX11_not 91 .invokevirtual zX11_added 94 := ⟨304, by decide +kernel, rfl, Or.inl (zT5_of (i := 229) rfl rfl)⟩
theorem iX11_not_94 : zIs zX11_not 94 3 95 := ⟨by decide, Or.inl ⟨3, rfl, by decide +kernel, rfl⟩⟩
theorem iX11_not_95 : zIl zX11_not 95 2 96 := Or.inl ⟨2, rfl, by decide +kernel, rfl⟩
theorem iX11_not_96 : zB zX11_not 96 (.ifCond .eq) 99 107 := ⟨11, by decide +kernel, rfl, by decide⟩
theorem iX11_not_99 : zIl zX11_not 99 1 100 := Or.inl ⟨1, rfl, by decide +kernel, rfl⟩
theorem iX11_not_100 : zIl zX11_not 100 3 101 := Or.inl ⟨3, rfl, by decide +kernel, rfl⟩
theorem iX11_not_101 : zB zX11_not 101 (.if_icmp .ge) 104 116 := ⟨15, by decide +kernel, rfl, by decide⟩
theorem iX11_not_104 : zB zX11_not 104 .goto 107 112 := ⟨8, by decide +kernel, rfl, by decide⟩
theorem iX11_not_107 : zIl zX11_not 107 1 108 := Or.inl ⟨1, rfl, by decide +kernel, rfl⟩
theorem iX11_not_108 : zIl zX11_not 108 3 109 := Or.inl ⟨3, rfl, by decide +kernel, rfl⟩
theorem iX11_not_109 : zB zX11_not 109 (.if_icmp .ne) 112 116 := ⟨7, by decide +kernel, rfl, by decide⟩
theorem iX11_not_112 : zCo zX11_not 112 (1) 113 := Or.inl ⟨1, by decide, by decide +kernel, rfl⟩
theorem iX11_not_113 : zB zX11_not 113 .goto 116 117 := ⟨4, by decide +kernel, rfl, by decide⟩
theorem iX11_not_116 : zCo zX11_not 116 (0) 117 := Or.inl ⟨0, by decide, by decide +kernel, rfl⟩
theorem iX11_not_117 : zD zX11_not 117 1 (.ireturn) 118 := ⟨by decide +kernel, rfl⟩
theorem iX11_both_0 : zAl zX11_both 0 0 1 := Or.inl ⟨0, rfl, by decide +kernel, rfl⟩
theorem iX11_both_1 : zCl zX11_both 1 .invokevirtual zX11_not 4 := ⟨301, by decide +kernel, rfl, Or.inl (zT5_of (i := 220) rfl rfl)⟩
theorem iX11_both_4 : zIs zX11_both 4 1 5 := ⟨by decide, Or.inl ⟨1, rfl, by decide +kernel, rfl⟩⟩
theorem iX11_both_5 : zAl zX11_both 5 0 6 := Or.inl ⟨0, rfl, by decide +kernel, rfl⟩
theorem iX11_both_6 : zCL zX11_both 6 (1111) 9 := Or.inr ⟨309, zT6_of (i := 17) rfl rfl, by decide +kernel, rfl⟩
theorem iX11_both_9 : zCl zX11_both 9 .invokevirtual zX11_isWord 12 := ⟨245, by decide +kernel, rfl, Or.inl (zT5_of (i := 204) rfl rfl)⟩
theorem iX11_both_12 : zB zX11_both 12 (.ifCond .eq) 15 41 := ⟨29, by decide +kernel, rfl, by decide⟩
theorem iX11_both_15 : zAl zX11_both 15 0 16 := Or.inl ⟨0, rfl, by decide +kernel, rfl⟩
theorem iX11_both_16 : zCl zX11_both 16 .invokevirtual zX11_next 19 := ⟨240, by decide +kernel, rfl, Or.inl (zT5_of (i := 186) rfl rfl)⟩
theorem iX11_both_19 : zAl zX11_both 19 0 20 := Or.inl ⟨0, rfl, by decide +kernel, rfl⟩
theorem iX11_both_20 : zCl zX11_both 20 .invokevirtual zX11_not 23 := ⟨301, by decide +kernel, rfl, Or.inl (zT5_of (i := 220) rfl rfl)⟩
theorem iX11_both_23 : zIs zX11_both 23 2 24 := ⟨by decide, Or.inl ⟨2, rfl, by decide +kernel, rfl⟩⟩
theorem iX11_both_24 : zIl zX11_both 24 1 25 := Or.inl ⟨1, rfl, by decide +kernel, rfl⟩
theorem iX11_both_25 : zB zX11_both 25 (.ifCond .eq) 28 36 := ⟨11, by decide +kernel, rfl, by decide⟩
theorem iX11_both_28 : zIl zX11_both 28 2 29 := Or.inl ⟨2, rfl, by decide +kernel, rfl⟩
theorem iX11_both_29 : zB zX11_both 29 (.ifCond .eq) 32 36 := ⟨7, by decide +kernel, rfl, by decide⟩
theorem iX11_both_32 : zCo zX11_both 32 (1) 33 := Or.inl ⟨1, by decide, by decide +kernel, rfl⟩
theorem iX11_both_33 : zB zX11_both 33 .goto 36 37 := ⟨4, by decide +kernel, rfl, by decide⟩
theorem iX11_both_36 : zCo zX11_both 36 (0) 37 := Or.inl ⟨0, by decide, by decide +kernel, rfl⟩
theorem iX11_both_37 : zIs zX11_both 37 1 38 := ⟨by decide, Or.inl ⟨1, rfl, by decide +kernel, rfl⟩⟩
theorem iX11_both_38 : zB zX11_both 38 .goto 41 5 := ⟨-33, by decide +kernel, rfl, by decide⟩
theorem iX11_both_41 : zIl zX11_both 41 1 42 := Or.inl ⟨1, rfl, by decide +kernel, rfl⟩
theorem iX11_both_42 : zD zX11_both 42 1 (.ireturn) 43 := ⟨by decide +kernel, rfl⟩
theorem iX11_either_0 : zAl zX11_either 0 0 1 := Or.inl ⟨0, rfl, by decide +kernel, rfl⟩
theorem iX11_either_1 : zCl zX11_either 1 .invokevirtual zX11_both 4 := ⟨311, by decide +kernel, rfl, Or.inl (zT5_of (i := 216) rfl rfl)⟩
theorem iX11_either_4 : zIs zX11_either 4 1 5 := ⟨by decide, Or.inl ⟨1, rfl, by decide +kernel, rfl⟩⟩
theorem iX11_either_5 : zAl zX11_either 5 0 6 := Or.inl ⟨0, rfl, by decide +kernel, rfl⟩
theorem iX11_either_6 : zCL zX11_either 6 (423) 9 := Or.inr ⟨314, zT6_of (i := 18) rfl rfl, by decide +kernel, rfl⟩
theorem iX11_either_9 : zCl zX11_either 9 .invokevirtual zX11_isWord 12 := ⟨245, by decide +kernel, rfl, Or.inl (zT5_of (i := 204) rfl rfl)⟩
theorem iX11_either_12 : zB zX11_either 12 (.ifCond .eq) 15 41 := ⟨29, by decide +kernel, rfl, by decide⟩
theorem iX11_either_15 : zAl zX11_either 15 0 16 := Or.inl ⟨0, rfl, by decide +kernel, rfl⟩
theorem iX11_either_16 : zCl zX11_either 16 .invokevirtual zX11_next 19 := ⟨240, by decide +kernel, rfl, Or.inl (zT5_of (i := 186) rfl rfl)⟩
theorem iX11_either_19 : zAl zX11_either 19 0 20 := Or.inl ⟨0, rfl, by decide +kernel, rfl⟩
theorem iX11_either_20 : zCl zX11_either 20 .invokevirtual zX11_both 23 := ⟨311, by decide +kernel, rfl, Or.inl (zT5_of (i := 216) rfl rfl)⟩
theorem iX11_either_23 : zIs zX11_either 23 2 24 := ⟨by decide, Or.inl ⟨2, rfl, by decide +kernel, rfl⟩⟩
theorem iX11_either_24 : zIl zX11_either 24 1 25 := Or.inl ⟨1, rfl, by decide +kernel, rfl⟩
theorem iX11_either_25 : zB zX11_either 25 (.ifCond .ne) 28 32 := ⟨7, by decide +kernel, rfl, by decide⟩
theorem iX11_either_28 : zIl zX11_either 28 2 29 := Or.inl ⟨2, rfl, by decide +kernel, rfl⟩
theorem iX11_either_29 : zB zX11_either 29 (.ifCond .eq) 32 36 := ⟨7, by decide +kernel, rfl, by decide⟩
theorem iX11_either_32 : zCo zX11_either 32 (1) 33 := Or.inl ⟨1, by decide, by decide +kernel, rfl⟩
theorem iX11_either_33 : zB zX11_either 33 .goto 36 37 := ⟨4, by decide +kernel, rfl, by decide⟩
theorem iX11_either_36 : zCo zX11_either 36 (0) 37 := Or.inl ⟨0, by decide, by decide +kernel, rfl⟩
theorem iX11_either_37 : zIs zX11_either 37 1 38 := ⟨by decide, Or.inl ⟨1, rfl, by decide +kernel, rfl⟩⟩
theorem iX11_either_38 : zB zX11_either 38 .goto 41 5 := ⟨-33, by decide +kernel, rfl, by decide⟩
theorem iX11_either_41 : zIl zX11_either 41 1 42 := Or.inl ⟨1, rfl, by decide +kernel, rfl⟩
theorem iX11_either_42 : zD zX11_either 42 1 (.ireturn) 43 := ⟨by decide +kernel, rfl⟩
theorem iX11_part_0 : zAl zX11_part 0 0 1 := Or.inl ⟨0, rfl, by decide +kernel, rfl⟩
theorem iX11_part_1 : zLl zX11_part 1 1 2 := Or.inl ⟨1, rfl, by decide +kernel, rfl⟩
theorem iX11_part_2 : zCl zX11_part 2 .invokevirtual zX11_isWord 5 := ⟨245, by decide +kernel, rfl, Or.inl (zT5_of (i := 204) rfl rfl)⟩
theorem iX11_part_5 : zB zX11_part 5 (.ifCond .ne) 8 12 := ⟨7, by decide +kernel, rfl, by decide⟩
theorem iX11_part_8 : zAl zX11_part 8 0 9 := Or.inl ⟨0, rfl, by decide +kernel, rfl⟩
theorem iX11_part_9 : zCl zX11_part 9 .invokevirtual zX11_fail 12 := ⟨237, by decide +kernel, rfl, Or.inl (zT5_of (i := 208) rfl rfl)⟩
theorem iX11_part_12 : zAl zX11_part 12 0 13 := Or.inl ⟨0, rfl, by decide +kernel, rfl⟩
theorem iX11_part_13 : zGf zX11_part 13 11 39 16 := ⟨227, _, _, _, zcf_11, by decide, by decide +kernel, rfl, zT4_of (i := 190) rfl rfl⟩
theorem iX11_part_16 : zB zX11_part 16 (.ifCond .ne) 19 23 := ⟨7, by decide +kernel, rfl, by decide⟩
theorem iX11_part_19 : zAl zX11_part 19 0 20 := Or.inl ⟨0, rfl, by decide +kernel, rfl⟩
theorem iX11_part_20 : zCl zX11_part 20 .invokevirtual zX11_next 23 := ⟨240, by decide +kernel, rfl, Or.inl (zT5_of (i := 186) rfl rfl)⟩
theorem iX11_part_23 : zAl zX11_part 23 0 24 := Or.inl ⟨0, rfl, by decide +kernel, rfl⟩
theorem iX11_part_24 : zGf zX11_part 24 11 39 27 := ⟨227, _, _, _, zcf_11, by decide, by decide +kernel, rfl, zT4_of (i := 190) rfl rfl⟩
theorem iX11_part_27 : zB zX11_part 27 (.ifCond .eq) 30 34 := ⟨7, by decide +kernel, rfl, by decide⟩
theorem iX11_part_30 : zCo zX11_part 30 (0) 31 := Or.inl ⟨0, by decide, by decide +kernel, rfl⟩
theorem iX11_part_31 : zB zX11_part 31 .goto 34 38 := ⟨7, by decide +kernel, rfl, by decide⟩
theorem iX11_part_34 : zAl zX11_part 34 0 35 := Or.inl ⟨0, rfl, by decide +kernel, rfl⟩
theorem iX11_part_35 : zCl zX11_part 35 .invokevirtual zX11_either 38 := ⟨288, by decide +kernel, rfl, Or.inl (zT5_of (i := 212) rfl rfl)⟩
theorem iX11_part_38 : zIs zX11_part 38 3 39 := ⟨by decide, Or.inl ⟨3, rfl, by decide +kernel, rfl⟩⟩
theorem iX11_part_39 : zAl zX11_part 39 0 40 := Or.inl ⟨0, rfl, by decide +kernel, rfl⟩
theorem iX11_part_40 : zCo zX11_part 40 (59) 42 := Or.inr (Or.inl ⟨59, by decide, by decide +kernel, rfl⟩)
theorem iX11_part_42 : zCl zX11_part 42 .invokevirtual zX11_isSign 45 := ⟨277, by decide +kernel, rfl, Or.inl (zT6_of (i := 1) rfl rfl)⟩
theorem iX11_part_45 : zB zX11_part 45 (.ifCond .ne) 48 52 := ⟨7, by decide +kernel, rfl, by decide⟩
theorem iX11_part_48 : zAl zX11_part 48 0 49 := Or.inl ⟨0, rfl, by decide +kernel, rfl⟩
theorem iX11_part_49 : zCl zX11_part 49 .invokevirtual zX11_fail 52 := ⟨237, by decide +kernel, rfl, Or.inl (zT5_of (i := 208) rfl rfl)⟩
theorem iX11_part_52 : zAl zX11_part 52 0 53 := Or.inl ⟨0, rfl, by decide +kernel, rfl⟩
theorem iX11_part_53 : zGf zX11_part 53 11 39 56 := ⟨227, _, _, _, zcf_11, by decide, by decide +kernel, rfl, zT4_of (i := 190) rfl rfl⟩
theorem iX11_part_56 : zB zX11_part 56 (.ifCond .ne) 59 63 := ⟨7, by decide +kernel, rfl, by decide⟩
theorem iX11_part_59 : zAl zX11_part 59 0 60 := Or.inl ⟨0, rfl, by decide +kernel, rfl⟩
theorem iX11_part_60 : zCl zX11_part 60 .invokevirtual zX11_next 63 := ⟨240, by decide +kernel, rfl, Or.inl (zT5_of (i := 186) rfl rfl)⟩
theorem iX11_part_63 : zIl zX11_part 63 3 64 := Or.inl ⟨3, rfl, by decide +kernel, rfl⟩
theorem iX11_part_64 : zD zX11_part 64 1 (.ireturn) 65 := ⟨by decide +kernel, rfl⟩
theorem iX11_read_0 : zAl zX11_read 0 0 1 := Or.inl ⟨0, rfl, by decide +kernel, rfl⟩
theorem iX11_read_1 : zCo zX11_read 1 (160) 4 := Or.inr (Or.inr (Or.inl ⟨160, by decide, by decide +kernel, rfl⟩))
theorem iX11_read_4 : zIl zX11_read 4 1 5 := Or.inl ⟨1, rfl, by decide +kernel, rfl⟩
theorem iX11_read_5 : zD zX11_read 5 1 (.imul) 6 := ⟨by decide +kernel, rfl⟩
theorem iX11_read_6 : zPf zX11_read 6 11 32 .int 9 := ⟨198, _, _, _, zcf_11, by decide, by decide +kernel, rfl, zT4_of (i := 183) rfl rfl, by decide +kernel, Or.inl rfl⟩
theorem iX11_read_9 : zAl zX11_read 9 0 10 := Or.inl ⟨0, rfl, by decide +kernel, rfl⟩
theorem iX11_read_10 : zAl zX11_read 10 0 11 := Or.inl ⟨0, rfl, by decide +kernel, rfl⟩
theorem iX11_read_11 : zGf zX11_read 11 11 27 14 := ⟨78, _, _, _, zcf_11, by decide, by decide +kernel, rfl, zT4_of (i := 178) rfl rfl⟩
theorem iX11_read_14 : zIl zX11_read 14 1 15 := Or.inl ⟨1, rfl, by decide +kernel, rfl⟩
theorem iX11_read_15 : zD zX11_read 15 1 (.iaload) 16 := ⟨by decide +kernel, rfl⟩
theorem iX11_read_16 : zPf zX11_read 16 11 33 .int 19 := ⟨195, _, _, _, zcf_11, by decide, by decide +kernel, rfl, zT4_of (i := 184) rfl rfl, by decide +kernel, Or.inl rfl⟩
theorem iX11_read_19 : zAl zX11_read 19 0 20 := Or.inl ⟨0, rfl, by decide +kernel, rfl⟩
theorem iX11_read_20 : zCo zX11_read 20 (0) 21 := Or.inl ⟨0, by decide, by decide +kernel, rfl⟩
theorem iX11_read_21 : zPf zX11_read 21 11 37 .int 24 := ⟨201, _, _, _, zcf_11, by decide, by decide +kernel, rfl, zT4_of (i := 188) rfl rfl, by decide +kernel, Or.inl rfl⟩
theorem iX11_read_24 : zAl zX11_read 24 0 25 := Or.inl ⟨0, rfl, by decide +kernel, rfl⟩
theorem iX11_read_25 : zCo zX11_read 25 (0) 26 := Or.inl ⟨0, by decide, by decide +kernel, rfl⟩
theorem iX11_read_26 : zPf zX11_read 26 11 38 .int 29 := ⟨234, _, _, _, zcf_11, by decide, by decide +kernel, rfl, zT4_of (i := 189) rfl rfl, by decide +kernel, Or.inl rfl⟩
theorem iX11_read_29 : zAl zX11_read 29 0 30 := Or.inl ⟨0, rfl, by decide +kernel, rfl⟩
theorem iX11_read_30 : zCo zX11_read 30 (0) 31 := Or.inl ⟨0, by decide, by decide +kernel, rfl⟩
theorem iX11_read_31 : zPf zX11_read 31 11 39 .boolean 34 := ⟨227, _, _, _, zcf_11, by decide, by decide +kernel, rfl, zT4_of (i := 190) rfl rfl, by decide +kernel, Or.inl rfl⟩
theorem iX11_read_34 : zAl zX11_read 34 0 35 := Or.inl ⟨0, rfl, by decide +kernel, rfl⟩
theorem iX11_read_35 : zCl zX11_read 35 .invokevirtual zX11_next 38 := ⟨240, by decide +kernel, rfl, Or.inl (zT5_of (i := 186) rfl rfl)⟩
theorem iX11_read_38 : zAl zX11_read 38 0 39 := Or.inl ⟨0, rfl, by decide +kernel, rfl⟩
theorem iX11_read_39 : zCL zX11_read 39 (464144) 42 := Or.inr ⟨316, zT5_of (i := 199) rfl rfl, by decide +kernel, rfl⟩
theorem iX11_read_42 : zCl zX11_read 42 .invokevirtual zX11_part 45 := ⟨318, by decide +kernel, rfl, Or.inl (zT5_of (i := 200) rfl rfl)⟩
theorem iX11_read_45 : zIs zX11_read 45 3 46 := ⟨by decide, Or.inl ⟨3, rfl, by decide +kernel, rfl⟩⟩
theorem iX11_read_46 : zAl zX11_read 46 0 47 := Or.inl ⟨0, rfl, by decide +kernel, rfl⟩
theorem iX11_read_47 : zGf zX11_read 47 11 39 50 := ⟨227, _, _, _, zcf_11, by decide, by decide +kernel, rfl, zT4_of (i := 190) rfl rfl⟩
theorem iX11_read_50 : zB zX11_read 50 (.ifCond .eq) 53 57 := ⟨7, by decide +kernel, rfl, by decide⟩
theorem iX11_read_53 : zCo zX11_read 53 (0) 54 := Or.inl ⟨0, by decide, by decide +kernel, rfl⟩
theorem iX11_read_54 : zB zX11_read 54 .goto 57 64 := ⟨10, by decide +kernel, rfl, by decide⟩
theorem iX11_read_57 : zAl zX11_read 57 0 58 := Or.inl ⟨0, rfl, by decide +kernel, rfl⟩
theorem iX11_read_58 : zCL zX11_read 58 (38567165) 61 := Or.inr ⟨322, zT6_of (i := 19) rfl rfl, by decide +kernel, rfl⟩
theorem iX11_read_61 : zCl zX11_read 61 .invokevirtual zX11_part 64 := ⟨318, by decide +kernel, rfl, Or.inl (zT5_of (i := 200) rfl rfl)⟩
theorem iX11_read_64 : zIs zX11_read 64 4 66 := ⟨by decide, Or.inr ⟨by decide +kernel, rfl⟩⟩
theorem iX11_read_66 : zAl zX11_read 66 0 67 := Or.inl ⟨0, rfl, by decide +kernel, rfl⟩
theorem iX11_read_67 : zGf zX11_read 67 11 39 70 := ⟨227, _, _, _, zcf_11, by decide, by decide +kernel, rfl, zT4_of (i := 190) rfl rfl⟩
theorem iX11_read_70 : zB zX11_read 70 (.ifCond .eq) 73 77 := ⟨7, by decide +kernel, rfl, by decide⟩
theorem iX11_read_73 : zCo zX11_read 73 (0) 74 := Or.inl ⟨0, by decide, by decide +kernel, rfl⟩
theorem iX11_read_74 : zB zX11_read 74 .goto 77 84 := ⟨10, by decide +kernel, rfl, by decide⟩
theorem iX11_read_77 : zAl zX11_read 77 0 78 := Or.inl ⟨0, rfl, by decide +kernel, rfl⟩
theorem iX11_read_78 : zCL zX11_read 78 (1755524) 81 := Or.inr ⟨324, zT6_of (i := 20) rfl rfl, by decide +kernel, rfl⟩
theorem iX11_read_81 : zCl zX11_read 81 .invokevirtual zX11_part 84 := ⟨318, by decide +kernel, rfl, Or.inl (zT5_of (i := 200) rfl rfl)⟩
theorem iX11_read_84 : zIs zX11_read 84 5 86 := ⟨by decide, Or.inr ⟨by decide +kernel, rfl⟩⟩
theorem iX11_read_86 : zAl zX11_read 86 0 87 := Or.inl ⟨0, rfl, by decide +kernel, rfl⟩
theorem iX11_read_87 : zGf zX11_read 87 11 39 90 := ⟨227, _, _, _, zcf_11, by decide, by decide +kernel, rfl, zT4_of (i := 190) rfl rfl⟩
theorem iX11_read_90 : zB zX11_read 90 (.ifCond .ne) 93 104 := ⟨14, by decide +kernel, rfl, by decide⟩
theorem iX11_read_93 : zAl zX11_read 93 0 94 := Or.inl ⟨0, rfl, by decide +kernel, rfl⟩
theorem iX11_read_94 : zGf zX11_read 94 11 34 97 := ⟨210, _, _, _, zcf_11, by decide, by decide +kernel, rfl, zT4_of (i := 185) rfl rfl⟩
theorem iX11_read_97 : zB zX11_read 97 (.ifCond .eq) 100 104 := ⟨7, by decide +kernel, rfl, by decide⟩
theorem iX11_read_100 : zAl zX11_read 100 0 101 := Or.inl ⟨0, rfl, by decide +kernel, rfl⟩
theorem iX11_read_101 : zCl zX11_read 101 .invokevirtual zX11_fail 104 := ⟨237, by decide +kernel, rfl, Or.inl (zT5_of (i := 208) rfl rfl)⟩
theorem iX11_read_104 : zIl zX11_read 104 2 105 := Or.inl ⟨2, rfl, by decide +kernel, rfl⟩
theorem iX11_read_105 : zB zX11_read 105 (.ifCond .ne) 108 112 := ⟨7, by decide +kernel, rfl, by decide⟩
theorem iX11_read_108 : zIl zX11_read 108 3 109 := Or.inl ⟨3, rfl, by decide +kernel, rfl⟩
theorem iX11_read_109 : zB zX11_read 109 .goto 112 124 := ⟨15, by decide +kernel, rfl, by decide⟩
theorem iX11_read_112 : zIl zX11_read 112 2 113 := Or.inl ⟨2, rfl, by decide +kernel, rfl⟩
theorem iX11_read_113 : zCo zX11_read 113 (1) 114 := Or.inl ⟨1, by decide, by decide +kernel, rfl⟩
theorem iX11_read_114 : zB zX11_read 114 (.if_icmp .ne) 117 122 := ⟨8, by decide +kernel, rfl, by decide⟩
theorem iX11_read_117 : zIl zX11_read 117 4 119 := Or.inr ⟨by decide +kernel, rfl⟩
theorem iX11_read_119 : zB zX11_read 119 .goto 122 124 := ⟨5, by decide +kernel, rfl, by decide⟩
theorem iX11_read_122 : zIl zX11_read 122 5 124 := Or.inr ⟨by decide +kernel, rfl⟩
theorem iX11_read_124 : zD zX11_read 124 1 (.ireturn) 125 := ⟨by decide +kernel, rfl⟩
theorem iX11_saysOf_0 : zAl zX11_saysOf 0 0 1 := Or.inl ⟨0, rfl, by decide +kernel, rfl⟩
theorem iX11_saysOf_1 : zGf zX11_saysOf 1 11 17 4 := ⟨57, _, _, _, zcf_11, by decide, by decide +kernel, rfl, zT4_of (i := 168) rfl rfl⟩
theorem iX11_saysOf_4 : zIl zX11_saysOf 4 1 5 := Or.inl ⟨1, rfl, by decide +kernel, rfl⟩
theorem iX11_saysOf_5 : zD zX11_saysOf 5 1 (.iaload) 6 := ⟨by decide +kernel, rfl⟩
theorem iX11_saysOf_6 : zIs zX11_saysOf 6 3 7 := ⟨by decide, Or.inl ⟨3, rfl, by decide +kernel, rfl⟩⟩
theorem iX11_saysOf_7 : zAl zX11_saysOf 7 0 8 := Or.inl ⟨0, rfl, by decide +kernel, rfl⟩
theorem iX11_saysOf_8 : zAl zX11_saysOf 8 0 9 := Or.inl ⟨0, rfl, by decide +kernel, rfl⟩
theorem iX11_saysOf_9 : zGf zX11_saysOf 9 11 8 12 := ⟨32, _, _, _, zcf_11, by decide, by decide +kernel, rfl, zT4_of (i := 159) rfl rfl⟩
theorem iX11_saysOf_12 : zIl zX11_saysOf 12 3 13 := Or.inl ⟨3, rfl, by decide +kernel, rfl⟩
theorem iX11_saysOf_13 : zD zX11_saysOf 13 1 (.iaload) 14 := ⟨by decide +kernel, rfl⟩
theorem iX11_saysOf_14 : zPf zX11_saysOf 14 11 41 .int 17 := ⟨249, _, _, _, zcf_11, by decide, by decide +kernel, rfl, zT4_of (i := 192) rfl rfl, by decide +kernel, Or.inl rfl⟩
theorem iX11_saysOf_17 : zAl zX11_saysOf 17 0 18 := Or.inl ⟨0, rfl, by decide +kernel, rfl⟩
theorem iX11_saysOf_18 : zAl zX11_saysOf 18 0 19 := Or.inl ⟨0, rfl, by decide +kernel, rfl⟩
theorem iX11_saysOf_19 : zGf zX11_saysOf 19 11 10 22 := ⟨39, _, _, _, zcf_11, by decide, by decide +kernel, rfl, zT4_of (i := 161) rfl rfl⟩
theorem iX11_saysOf_22 : zIl zX11_saysOf 22 3 23 := Or.inl ⟨3, rfl, by decide +kernel, rfl⟩
theorem iX11_saysOf_23 : zD zX11_saysOf 23 1 (.iaload) 24 := ⟨by decide +kernel, rfl⟩
theorem iX11_saysOf_24 : zPf zX11_saysOf 24 11 42 .int 27 := ⟨254, _, _, _, zcf_11, by decide, by decide +kernel, rfl, zT4_of (i := 193) rfl rfl, by decide +kernel, Or.inl rfl⟩
theorem iX11_saysOf_27 : zAl zX11_saysOf 27 0 28 := Or.inl ⟨0, rfl, by decide +kernel, rfl⟩
theorem iX11_saysOf_28 : zAl zX11_saysOf 28 0 29 := Or.inl ⟨0, rfl, by decide +kernel, rfl⟩
theorem iX11_saysOf_29 : zGf zX11_saysOf 29 11 11 32 := ⟨42, _, _, _, zcf_11, by decide, by decide +kernel, rfl, zT4_of (i := 162) rfl rfl⟩
theorem iX11_saysOf_32 : zIl zX11_saysOf 32 3 33 := Or.inl ⟨3, rfl, by decide +kernel, rfl⟩
theorem iX11_saysOf_33 : zD zX11_saysOf 33 1 (.iaload) 34 := ⟨by decide +kernel, rfl⟩
theorem iX11_saysOf_34 : zPf zX11_saysOf 34 11 43 .int 37 := ⟨259, _, _, _, zcf_11, by decide, by decide +kernel, rfl, zT4_of (i := 194) rfl rfl, by decide +kernel, Or.inl rfl⟩
theorem iX11_saysOf_37 : zAl zX11_saysOf 37 0 38 := Or.inl ⟨0, rfl, by decide +kernel, rfl⟩
theorem iX11_saysOf_38 : zAl zX11_saysOf 38 0 39 := Or.inl ⟨0, rfl, by decide +kernel, rfl⟩
theorem iX11_saysOf_39 : zGf zX11_saysOf 39 11 6 42 := ⟨26, _, _, _, zcf_11, by decide, by decide +kernel, rfl, zT4_of (i := 157) rfl rfl⟩
theorem iX11_saysOf_42 : zIl zX11_saysOf 42 3 43 := Or.inl ⟨3, rfl, by decide +kernel, rfl⟩
theorem iX11_saysOf_43 : zD zX11_saysOf 43 1 (.iaload) 44 := ⟨by decide +kernel, rfl⟩
theorem iX11_saysOf_44 : zPf zX11_saysOf 44 11 44 .int 47 := ⟨264, _, _, _, zcf_11, by decide, by decide +kernel, rfl, zT4_of (i := 195) rfl rfl, by decide +kernel, Or.inl rfl⟩
theorem iX11_saysOf_47 : zAl zX11_saysOf 47 0 48 := Or.inl ⟨0, rfl, by decide +kernel, rfl⟩
theorem iX11_saysOf_48 : zAl zX11_saysOf 48 0 49 := Or.inl ⟨0, rfl, by decide +kernel, rfl⟩
theorem iX11_saysOf_49 : zGf zX11_saysOf 49 11 20 52 := ⟨66, _, _, _, zcf_11, by decide, by decide +kernel, rfl, zT4_of (i := 171) rfl rfl⟩
theorem iX11_saysOf_52 : zIl zX11_saysOf 52 1 53 := Or.inl ⟨1, rfl, by decide +kernel, rfl⟩
theorem iX11_saysOf_53 : zD zX11_saysOf 53 1 (.iaload) 54 := ⟨by decide +kernel, rfl⟩
theorem iX11_saysOf_54 : zPf zX11_saysOf 54 11 45 .int 57 := ⟨269, _, _, _, zcf_11, by decide, by decide +kernel, rfl, zT4_of (i := 196) rfl rfl, by decide +kernel, Or.inl rfl⟩
theorem iX11_saysOf_57 : zAl zX11_saysOf 57 0 58 := Or.inl ⟨0, rfl, by decide +kernel, rfl⟩
theorem iX11_saysOf_58 : zAl zX11_saysOf 58 0 59 := Or.inl ⟨0, rfl, by decide +kernel, rfl⟩
theorem iX11_saysOf_59 : zIl zX11_saysOf 59 1 60 := Or.inl ⟨1, rfl, by decide +kernel, rfl⟩
theorem iX11_saysOf_60 : zCl zX11_saysOf 60 .invokevirtual zX11_nominal 63 := ⟨176, by decide +kernel, rfl, Or.inl (zT5_of (i := 154) rfl rfl)⟩
theorem iX11_saysOf_63 : zPf zX11_saysOf 63 11 46 .int 66 := ⟨274, _, _, _, zcf_11, by decide, by decide +kernel, rfl, zT4_of (i := 197) rfl rfl, by decide +kernel, Or.inl rfl⟩
theorem iX11_saysOf_66 : zAl zX11_saysOf 66 0 67 := Or.inl ⟨0, rfl, by decide +kernel, rfl⟩
theorem iX11_saysOf_67 : zAl zX11_saysOf 67 0 68 := Or.inl ⟨0, rfl, by decide +kernel, rfl⟩
theorem iX11_saysOf_68 : zGf zX11_saysOf 68 11 29 71 := ⟨326, _, _, _, zcf_11, by decide, by decide +kernel, rfl, zT4_of (i := 180) rfl rfl⟩
theorem iX11_saysOf_71 : zIl zX11_saysOf 71 2 72 := Or.inl ⟨2, rfl, by decide +kernel, rfl⟩
theorem iX11_saysOf_72 : zCl zX11_saysOf 72 .invokevirtual zX11_read 75 := ⟨329, by decide +kernel, rfl, Or.inl (zT5_of (i := 182) rfl rfl)⟩
theorem iX11_saysOf_75 : zD zX11_saysOf 75 1 (.ireturn) 76 := ⟨by decide +kernel, rfl⟩
theorem iX11_text_0 : zAl zX11_text 0 0 1 := Or.inl ⟨0, rfl, by decide +kernel, rfl⟩
theorem iX11_text_1 : zGf zX11_text 1 11 28 4 := ⟨135, _, _, _, zcf_11, by decide, by decide +kernel, rfl, zT4_of (i := 179) rfl rfl⟩
theorem iX11_text_4 : zCo zX11_text 4 (6) 6 := Or.inr (Or.inl ⟨6, by decide, by decide +kernel, rfl⟩)
theorem iX11_text_6 : zB zX11_text 6 (.if_icmp .ne) 9 12 := ⟨6, by decide +kernel, rfl, by decide⟩
theorem iX11_text_9 : zCo zX11_text 9 (-4) 11 := Or.inr (Or.inl ⟨-4, by decide, by decide +kernel, rfl⟩)
theorem iX11_text_11 : zD zX11_text 11 1 (.ireturn) 12 := ⟨by decide +kernel, rfl⟩
theorem iX11_text_12 : zCo zX11_text 12 (0) 13 := Or.inl ⟨0, by decide, by decide +kernel, rfl⟩
theorem iX11_text_13 : zIs zX11_text 13 1 14 := ⟨by decide, Or.inl ⟨1, rfl, by decide +kernel, rfl⟩⟩
theorem iX11_text_14 : zIl zX11_text 14 1 15 := Or.inl ⟨1, rfl, by decide +kernel, rfl⟩
theorem iX11_text_15 : zAl zX11_text 15 0 16 := Or.inl ⟨0, rfl, by decide +kernel, rfl⟩
theorem iX11_text_16 : zGf zX11_text 16 11 31 19 := ⟨192, _, _, _, zcf_11, by decide, by decide +kernel, rfl, zT4_of (i := 182) rfl rfl⟩
theorem iX11_text_19 : zB zX11_text 19 (.if_icmp .ge) 22 49 := ⟨30, by decide +kernel, rfl, by decide⟩
theorem iX11_text_22 : zAl zX11_text 22 0 23 := Or.inl ⟨0, rfl, by decide +kernel, rfl⟩
theorem iX11_text_23 : zGf zX11_text 23 11 26 26 := ⟨75, _, _, _, zcf_11, by decide, by decide +kernel, rfl, zT4_of (i := 177) rfl rfl⟩
theorem iX11_text_26 : zCo zX11_text 26 (160) 29 := Or.inr (Or.inr (Or.inl ⟨160, by decide, by decide +kernel, rfl⟩))
theorem iX11_text_29 : zAl zX11_text 29 0 30 := Or.inl ⟨0, rfl, by decide +kernel, rfl⟩
theorem iX11_text_30 : zGf zX11_text 30 11 28 33 := ⟨135, _, _, _, zcf_11, by decide, by decide +kernel, rfl, zT4_of (i := 179) rfl rfl⟩
theorem iX11_text_33 : zD zX11_text 33 1 (.imul) 34 := ⟨by decide +kernel, rfl⟩
theorem iX11_text_34 : zIl zX11_text 34 1 35 := Or.inl ⟨1, rfl, by decide +kernel, rfl⟩
theorem iX11_text_35 : zD zX11_text 35 1 (.iadd) 36 := ⟨by decide +kernel, rfl⟩
theorem iX11_text_36 : zAl zX11_text 36 0 37 := Or.inl ⟨0, rfl, by decide +kernel, rfl⟩
theorem iX11_text_37 : zGf zX11_text 37 11 30 40 := ⟨81, _, _, _, zcf_11, by decide, by decide +kernel, rfl, zT4_of (i := 181) rfl rfl⟩
theorem iX11_text_40 : zIl zX11_text 40 1 41 := Or.inl ⟨1, rfl, by decide +kernel, rfl⟩
theorem iX11_text_41 : zD zX11_text 41 1 (.iaload) 42 := ⟨by decide +kernel, rfl⟩
theorem iX11_text_42 : zD zX11_text 42 1 (.iastore) 43 := ⟨by decide +kernel, rfl⟩
theorem iX11_text_43 : zIn zX11_text 43 1 (1) 46 := ⟨by decide, 1, by decide, by decide +kernel, rfl⟩
theorem iX11_text_46 : zB zX11_text 46 .goto 49 14 := ⟨-32, by decide +kernel, rfl, by decide⟩
theorem iX11_text_49 : zAl zX11_text 49 0 50 := Or.inl ⟨0, rfl, by decide +kernel, rfl⟩
theorem iX11_text_50 : zGf zX11_text 50 11 27 53 := ⟨78, _, _, _, zcf_11, by decide, by decide +kernel, rfl, zT4_of (i := 178) rfl rfl⟩
theorem iX11_text_53 : zAl zX11_text 53 0 54 := Or.inl ⟨0, rfl, by decide +kernel, rfl⟩
theorem iX11_text_54 : zGf zX11_text 54 11 28 57 := ⟨135, _, _, _, zcf_11, by decide, by decide +kernel, rfl, zT4_of (i := 179) rfl rfl⟩
theorem iX11_text_57 : zAl zX11_text 57 0 58 := Or.inl ⟨0, rfl, by decide +kernel, rfl⟩
theorem iX11_text_58 : zGf zX11_text 58 11 31 61 := ⟨192, _, _, _, zcf_11, by decide, by decide +kernel, rfl, zT4_of (i := 182) rfl rfl⟩
theorem iX11_text_61 : zD zX11_text 61 1 (.iastore) 62 := ⟨by decide +kernel, rfl⟩
theorem iX11_text_62 : zAl zX11_text 62 0 63 := Or.inl ⟨0, rfl, by decide +kernel, rfl⟩
theorem iX11_text_63 : zCo zX11_text 63 (0) 64 := Or.inl ⟨0, by decide, by decide +kernel, rfl⟩
theorem iX11_text_64 : zPf zX11_text 64 11 31 .int 67 := ⟨192, _, _, _, zcf_11, by decide, by decide +kernel, rfl, zT4_of (i := 182) rfl rfl, by decide +kernel, Or.inl rfl⟩
theorem iX11_text_67 : zAl zX11_text 67 0 68 := Or.inl ⟨0, rfl, by decide +kernel, rfl⟩
theorem iX11_text_68 : zAl zX11_text 68 0 69 := Or.inl ⟨0, rfl, by decide +kernel, rfl⟩
theorem iX11_text_69 : zGf zX11_text 69 11 28 72 := ⟨135, _, _, _, zcf_11, by decide, by decide +kernel, rfl, zT4_of (i := 179) rfl rfl⟩
theorem iX11_text_72 : zCo zX11_text 72 (0) 73 := Or.inl ⟨0, by decide, by decide +kernel, rfl⟩
theorem iX11_text_73 : zCl zX11_text 73 .invokevirtual zX11_read 76 := ⟨329, by decide +kernel, rfl, Or.inl (zT5_of (i := 182) rfl rfl)⟩
theorem iX11_text_76 : zIs zX11_text 76 1 77 := ⟨by decide, Or.inl ⟨1, rfl, by decide +kernel, rfl⟩⟩
theorem iX11_text_77 : zAl zX11_text 77 0 78 := Or.inl ⟨0, rfl, by decide +kernel, rfl⟩
theorem iX11_text_78 : zGf zX11_text 78 11 39 81 := ⟨227, _, _, _, zcf_11, by decide, by decide +kernel, rfl, zT4_of (i := 190) rfl rfl⟩
theorem iX11_text_81 : zB zX11_text 81 (.ifCond .eq) 84 92 := ⟨11, by decide +kernel, rfl, by decide⟩
theorem iX11_text_84 : zCo zX11_text 84 (-100) 86 := Or.inr (Or.inl ⟨-100, by decide, by decide +kernel, rfl⟩)
theorem iX11_text_86 : zAl zX11_text 86 0 87 := Or.inl ⟨0, rfl, by decide +kernel, rfl⟩
theorem iX11_text_87 : zGf zX11_text 87 11 40 90 := ⟨231, _, _, _, zcf_11, by decide, by decide +kernel, rfl, zT4_of (i := 191) rfl rfl⟩
theorem iX11_text_90 : zD zX11_text 90 1 (.isub) 91 := ⟨by decide +kernel, rfl⟩
theorem iX11_text_91 : zD zX11_text 91 1 (.ireturn) 92 := ⟨by decide +kernel, rfl⟩
theorem iX11_text_92 : zAl zX11_text 92 0 93 := Or.inl ⟨0, rfl, by decide +kernel, rfl⟩
theorem iX11_text_93 : zD zX11_text 93 1 (.dup) 94 := ⟨by decide +kernel, rfl⟩
theorem iX11_text_94 : zGf zX11_text 94 11 28 97 := ⟨135, _, _, _, zcf_11, by decide, by decide +kernel, rfl, zT4_of (i := 179) rfl rfl⟩
theorem iX11_text_97 : zCo zX11_text 97 (1) 98 := Or.inl ⟨1, by decide, by decide +kernel, rfl⟩
theorem iX11_text_98 : zD zX11_text 98 1 (.iadd) 99 := ⟨by decide +kernel, rfl⟩
theorem iX11_text_99 : zPf zX11_text 99 11 28 .int 102 := ⟨135, _, _, _, zcf_11, by decide, by decide +kernel, rfl, zT4_of (i := 179) rfl rfl, by decide +kernel, Or.inl rfl⟩
theorem iX11_text_102 : zAl zX11_text 102 0 103 := Or.inl ⟨0, rfl, by decide +kernel, rfl⟩
theorem iX11_text_103 : zGf zX11_text 103 11 28 106 := ⟨135, _, _, _, zcf_11, by decide, by decide +kernel, rfl, zT4_of (i := 179) rfl rfl⟩
theorem iX11_text_106 : zCo zX11_text 106 (1) 107 := Or.inl ⟨1, by decide, by decide +kernel, rfl⟩
theorem iX11_text_107 : zD zX11_text 107 1 (.isub) 108 := ⟨by decide +kernel, rfl⟩
theorem iX11_text_108 : zD zX11_text 108 1 (.ireturn) 109 := ⟨by decide +kernel, rfl⟩
theorem iX11_force_0 : zIl zX11_force 0 1 1 := Or.inl ⟨1, rfl, by decide +kernel, rfl⟩
theorem iX11_force_1 : zCo zX11_force 1 (0) 2 := Or.inl ⟨0, by decide, by decide +kernel, rfl⟩
theorem iX11_force_2 : zAl zX11_force 2 0 3 := Or.inl ⟨0, rfl, by decide +kernel, rfl⟩
theorem iX11_force_3 : zGf zX11_force 3 11 28 6 := ⟨135, _, _, _, zcf_11, by decide, by decide +kernel, rfl, zT4_of (i := 179) rfl rfl⟩
theorem iX11_force_6 : zCo zX11_force 6 (1) 7 := Or.inl ⟨1, by decide, by decide +kernel, rfl⟩
theorem iX11_force_7 : zD zX11_force 7 1 (.isub) 8 := ⟨by decide +kernel, rfl⟩
theorem iX11_force_8 : zCl zX11_force 8 .invokestatic zX11_in 11 := ⟨143, by decide +kernel, rfl, Or.inl (zT5_of (i := 95) rfl rfl)⟩
theorem iX11_force_11 : zB zX11_force 11 (.ifCond .ne) 14 17 := ⟨6, by decide +kernel, rfl, by decide⟩
theorem iX11_force_14 : zCo zX11_force 14 (-2) 16 := Or.inr (Or.inl ⟨-2, by decide, by decide +kernel, rfl⟩)
theorem iX11_force_16 : zD zX11_force 16 1 (.ireturn) 17 := ⟨by decide +kernel, rfl⟩
theorem iX11_force_17 : zAl zX11_force 17 0 18 := Or.inl ⟨0, rfl, by decide +kernel, rfl⟩
theorem iX11_force_18 : zGf zX11_force 18 11 29 21 := ⟨326, _, _, _, zcf_11, by decide, by decide +kernel, rfl, zT4_of (i := 180) rfl rfl⟩
theorem iX11_force_21 : zIs zX11_force 21 2 22 := ⟨by decide, Or.inl ⟨2, rfl, by decide +kernel, rfl⟩⟩
theorem iX11_force_22 : zAl zX11_force 22 0 23 := Or.inl ⟨0, rfl, by decide +kernel, rfl⟩
theorem iX11_force_23 : zIl zX11_force 23 1 24 := Or.inl ⟨1, rfl, by decide +kernel, rfl⟩
theorem iX11_force_24 : zPf zX11_force 24 11 29 .int 27 := ⟨326, _, _, _, zcf_11, by decide, by decide +kernel, rfl, zT4_of (i := 180) rfl rfl, by decide +kernel, Or.inl rfl⟩
theorem iX11_force_27 : zIl zX11_force 27 2 28 := Or.inl ⟨2, rfl, by decide +kernel, rfl⟩
theorem iX11_force_28 : zD zX11_force 28 1 (.ireturn) 29 := ⟨by decide +kernel, rfl⟩
theorem iX11_says_0 : zAl zX11_says 0 0 1 := Or.inl ⟨0, rfl, by decide +kernel, rfl⟩
theorem iX11_says_1 : zIl zX11_says 1 1 2 := Or.inl ⟨1, rfl, by decide +kernel, rfl⟩
theorem iX11_says_2 : zCl zX11_says 2 .invokevirtual zX11_isTool 5 := ⟨173, by decide +kernel, rfl, Or.inl (zT5_of (i := 150) rfl rfl)⟩
theorem iX11_says_5 : zB zX11_says 5 (.ifCond .eq) 8 27 := ⟨22, by decide +kernel, rfl, by decide⟩
theorem iX11_says_8 : zIl zX11_says 8 2 9 := Or.inl ⟨2, rfl, by decide +kernel, rfl⟩
theorem iX11_says_9 : zCo zX11_says 9 (0) 10 := Or.inl ⟨0, by decide, by decide +kernel, rfl⟩
theorem iX11_says_10 : zCo zX11_says 10 (2) 11 := Or.inl ⟨2, by decide, by decide +kernel, rfl⟩
theorem iX11_says_11 : zCl zX11_says 11 .invokestatic zX11_in 14 := ⟨143, by decide +kernel, rfl, Or.inl (zT5_of (i := 95) rfl rfl)⟩
theorem iX11_says_14 : zB zX11_says 14 (.ifCond .eq) 17 27 := ⟨13, by decide +kernel, rfl, by decide⟩
theorem iX11_says_17 : zAl zX11_says 17 0 18 := Or.inl ⟨0, rfl, by decide +kernel, rfl⟩
theorem iX11_says_18 : zIl zX11_says 18 1 19 := Or.inl ⟨1, rfl, by decide +kernel, rfl⟩
theorem iX11_says_19 : zIl zX11_says 19 2 20 := Or.inl ⟨2, rfl, by decide +kernel, rfl⟩
theorem iX11_says_20 : zCl zX11_says 20 .invokevirtual zX11_saysOf 23 := ⟨333, by decide +kernel, rfl, Or.inl (zT6_of (i := 29) rfl rfl)⟩
theorem iX11_says_23 : zD zX11_says 23 1 (.i2l) 24 := ⟨by decide +kernel, rfl⟩
theorem iX11_says_24 : zB zX11_says 24 .goto 27 30 := ⟨6, by decide +kernel, rfl, by decide⟩
theorem iX11_says_27 : zCL zX11_says 27 (-4611686018427387904) 30 := Or.inr ⟨154, zT5_of (i := 113) rfl rfl, by decide +kernel, rfl⟩
theorem iX11_says_30 : zD zX11_says 30 1 (.lreturn) 31 := ⟨by decide +kernel, rfl⟩
theorem iX11_isMachine_0 : zIl zX11_isMachine 0 1 1 := Or.inl ⟨1, rfl, by decide +kernel, rfl⟩
theorem iX11_isMachine_1 : zCo zX11_isMachine 1 (0) 2 := Or.inl ⟨0, by decide, by decide +kernel, rfl⟩
theorem iX11_isMachine_2 : zAl zX11_isMachine 2 0 3 := Or.inl ⟨0, rfl, by decide +kernel, rfl⟩
theorem iX11_isMachine_3 : zGf zX11_isMachine 3 11 47 6 := ⟨336, _, _, _, zcf_11, by decide, by decide +kernel, rfl, zT4_of (i := 198) rfl rfl⟩
theorem iX11_isMachine_6 : zCo zX11_isMachine 6 (1) 7 := Or.inl ⟨1, by decide, by decide +kernel, rfl⟩
theorem iX11_isMachine_7 : zD zX11_isMachine 7 1 (.isub) 8 := ⟨by decide +kernel, rfl⟩
theorem iX11_isMachine_8 : zCl zX11_isMachine 8 .invokestatic zX11_in 11 := ⟨143, by decide +kernel, rfl, Or.inl (zT5_of (i := 95) rfl rfl)⟩
theorem iX11_isMachine_11 : zD zX11_isMachine 11 1 (.ireturn) 12 := ⟨by decide +kernel, rfl⟩
theorem iX11_machine_0 : zIl zX11_machine 0 1 1 := Or.inl ⟨1, rfl, by decide +kernel, rfl⟩
theorem iX11_machine_1 : zCo zX11_machine 1 (1) 2 := Or.inl ⟨1, by decide, by decide +kernel, rfl⟩
theorem iX11_machine_2 : zCo zX11_machine 2 (20) 4 := Or.inr (Or.inl ⟨20, by decide, by decide +kernel, rfl⟩)
theorem iX11_machine_4 : zCl zX11_machine 4 .invokestatic zX11_in 7 := ⟨143, by decide +kernel, rfl, Or.inl (zT5_of (i := 95) rfl rfl)⟩
theorem iX11_machine_7 : zB zX11_machine 7 (.ifCond .eq) 10 20 := ⟨13, by decide +kernel, rfl, by decide⟩
theorem iX11_machine_10 : zIl zX11_machine 10 2 11 := Or.inl ⟨2, rfl, by decide +kernel, rfl⟩
theorem iX11_machine_11 : zCo zX11_machine 11 (4) 12 := Or.inl ⟨4, by decide, by decide +kernel, rfl⟩
theorem iX11_machine_12 : zCo zX11_machine 12 (16) 14 := Or.inr (Or.inl ⟨16, by decide, by decide +kernel, rfl⟩)
theorem iX11_machine_14 : zCl zX11_machine 14 .invokestatic zX11_in 17 := ⟨143, by decide +kernel, rfl, Or.inl (zT5_of (i := 95) rfl rfl)⟩
theorem iX11_machine_17 : zB zX11_machine 17 (.ifCond .ne) 20 23 := ⟨6, by decide +kernel, rfl, by decide⟩
theorem iX11_machine_20 : zCo zX11_machine 20 (-2) 22 := Or.inr (Or.inl ⟨-2, by decide, by decide +kernel, rfl⟩)
theorem iX11_machine_22 : zD zX11_machine 22 1 (.ireturn) 23 := ⟨by decide +kernel, rfl⟩
theorem iX11_machine_23 : zAl zX11_machine 23 0 24 := Or.inl ⟨0, rfl, by decide +kernel, rfl⟩
theorem iX11_machine_24 : zGf zX11_machine 24 11 47 27 := ⟨336, _, _, _, zcf_11, by decide, by decide +kernel, rfl, zT4_of (i := 198) rfl rfl⟩
theorem iX11_machine_27 : zCo zX11_machine 27 (3) 28 := Or.inl ⟨3, by decide, by decide +kernel, rfl⟩
theorem iX11_machine_28 : zB zX11_machine 28 (.if_icmp .ne) 31 34 := ⟨6, by decide +kernel, rfl, by decide⟩
theorem iX11_machine_31 : zCo zX11_machine 31 (-4) 33 := Or.inr (Or.inl ⟨-4, by decide, by decide +kernel, rfl⟩)
theorem iX11_machine_33 : zD zX11_machine 33 1 (.ireturn) 34 := ⟨by decide +kernel, rfl⟩
theorem iX11_machine_34 : zAl zX11_machine 34 0 35 := Or.inl ⟨0, rfl, by decide +kernel, rfl⟩
theorem iX11_machine_35 : zGf zX11_machine 35 11 48 38 := ⟨84, _, _, _, zcf_11, by decide, by decide +kernel, rfl, zT4_of (i := 199) rfl rfl⟩
theorem iX11_machine_38 : zAl zX11_machine 38 0 39 := Or.inl ⟨0, rfl, by decide +kernel, rfl⟩
theorem iX11_machine_39 : zGf zX11_machine 39 11 47 42 := ⟨336, _, _, _, zcf_11, by decide, by decide +kernel, rfl, zT4_of (i := 198) rfl rfl⟩
theorem iX11_machine_42 : zIl zX11_machine 42 1 43 := Or.inl ⟨1, rfl, by decide +kernel, rfl⟩
theorem iX11_machine_43 : zD zX11_machine 43 1 (.iastore) 44 := ⟨by decide +kernel, rfl⟩
theorem iX11_machine_44 : zAl zX11_machine 44 0 45 := Or.inl ⟨0, rfl, by decide +kernel, rfl⟩
theorem iX11_machine_45 : zGf zX11_machine 45 11 49 48 := ⟨87, _, _, _, zcf_11, by decide, by decide +kernel, rfl, zT4_of (i := 200) rfl rfl⟩
theorem iX11_machine_48 : zAl zX11_machine 48 0 49 := Or.inl ⟨0, rfl, by decide +kernel, rfl⟩
theorem iX11_machine_49 : zGf zX11_machine 49 11 47 52 := ⟨336, _, _, _, zcf_11, by decide, by decide +kernel, rfl, zT4_of (i := 198) rfl rfl⟩
theorem iX11_machine_52 : zIl zX11_machine 52 2 53 := Or.inl ⟨2, rfl, by decide +kernel, rfl⟩
theorem iX11_machine_53 : zD zX11_machine 53 1 (.iastore) 54 := ⟨by decide +kernel, rfl⟩
theorem iX11_machine_54 : zAl zX11_machine 54 0 55 := Or.inl ⟨0, rfl, by decide +kernel, rfl⟩
theorem iX11_machine_55 : zD zX11_machine 55 1 (.dup) 56 := ⟨by decide +kernel, rfl⟩
theorem iX11_machine_56 : zGf zX11_machine 56 11 47 59 := ⟨336, _, _, _, zcf_11, by decide, by decide +kernel, rfl, zT4_of (i := 198) rfl rfl⟩
theorem iX11_machine_59 : zCo zX11_machine 59 (1) 60 := Or.inl ⟨1, by decide, by decide +kernel, rfl⟩
theorem iX11_machine_60 : zD zX11_machine 60 1 (.iadd) 61 := ⟨by decide +kernel, rfl⟩
theorem iX11_machine_61 : zPf zX11_machine 61 11 47 .int 64 := ⟨336, _, _, _, zcf_11, by decide, by decide +kernel, rfl, zT4_of (i := 198) rfl rfl, by decide +kernel, Or.inl rfl⟩
theorem iX11_machine_64 : zAl zX11_machine 64 0 65 := Or.inl ⟨0, rfl, by decide +kernel, rfl⟩
theorem iX11_machine_65 : zGf zX11_machine 65 11 47 68 := ⟨336, _, _, _, zcf_11, by decide, by decide +kernel, rfl, zT4_of (i := 198) rfl rfl⟩
theorem iX11_machine_68 : zCo zX11_machine 68 (1) 69 := Or.inl ⟨1, by decide, by decide +kernel, rfl⟩
theorem iX11_machine_69 : zD zX11_machine 69 1 (.isub) 70 := ⟨by decide +kernel, rfl⟩
theorem iX11_machine_70 : zD zX11_machine 70 1 (.ireturn) 71 := ⟨by decide +kernel, rfl⟩
theorem iX11_isFree_0 : zIl zX11_isFree 0 3 1 := Or.inl ⟨3, rfl, by decide +kernel, rfl⟩
theorem iX11_isFree_1 : zAl zX11_isFree 1 0 2 := Or.inl ⟨0, rfl, by decide +kernel, rfl⟩
theorem iX11_isFree_2 : zGf zX11_isFree 2 11 18 5 := ⟨60, _, _, _, zcf_11, by decide, by decide +kernel, rfl, zT4_of (i := 169) rfl rfl⟩
theorem iX11_isFree_5 : zIl zX11_isFree 5 2 6 := Or.inl ⟨2, rfl, by decide +kernel, rfl⟩
theorem iX11_isFree_6 : zD zX11_isFree 6 1 (.iaload) 7 := ⟨by decide +kernel, rfl⟩
theorem iX11_isFree_7 : zD zX11_isFree 7 1 (.iadd) 8 := ⟨by decide +kernel, rfl⟩
theorem iX11_isFree_8 : zAl zX11_isFree 8 0 9 := Or.inl ⟨0, rfl, by decide +kernel, rfl⟩
theorem iX11_isFree_9 : zGf zX11_isFree 9 11 49 12 := ⟨87, _, _, _, zcf_11, by decide, by decide +kernel, rfl, zT4_of (i := 200) rfl rfl⟩
theorem iX11_isFree_12 : zIl zX11_isFree 12 1 13 := Or.inl ⟨1, rfl, by decide +kernel, rfl⟩
theorem iX11_isFree_13 : zD zX11_isFree 13 1 (.iaload) 14 := ⟨by decide +kernel, rfl⟩
theorem iX11_isFree_14 : zB zX11_isFree 14 (.if_icmp .le) 17 19 := ⟨5, by decide +kernel, rfl, by decide⟩
theorem iX11_isFree_17 : zCo zX11_isFree 17 (0) 18 := Or.inl ⟨0, by decide, by decide +kernel, rfl⟩
theorem iX11_isFree_18 : zD zX11_isFree 18 1 (.ireturn) 19 := ⟨by decide +kernel, rfl⟩
theorem iX11_isFree_19 : zCo zX11_isFree 19 (0) 20 := Or.inl ⟨0, by decide, by decide +kernel, rfl⟩
theorem iX11_isFree_20 : zIs zX11_isFree 20 4 22 := ⟨by decide, Or.inr ⟨by decide +kernel, rfl⟩⟩
theorem iX11_isFree_22 : zIl zX11_isFree 22 4 24 := Or.inr ⟨by decide +kernel, rfl⟩
theorem iX11_isFree_24 : zAl zX11_isFree 24 0 25 := Or.inl ⟨0, rfl, by decide +kernel, rfl⟩
theorem iX11_isFree_25 : zGf zX11_isFree 25 11 18 28 := ⟨60, _, _, _, zcf_11, by decide, by decide +kernel, rfl, zT4_of (i := 169) rfl rfl⟩
theorem iX11_isFree_28 : zIl zX11_isFree 28 2 29 := Or.inl ⟨2, rfl, by decide +kernel, rfl⟩
theorem iX11_isFree_29 : zD zX11_isFree 29 1 (.iaload) 30 := ⟨by decide +kernel, rfl⟩
theorem iX11_isFree_30 : zB zX11_isFree 30 (.if_icmp .ge) 33 59 := ⟨29, by decide +kernel, rfl, by decide⟩
theorem iX11_isFree_33 : zAl zX11_isFree 33 0 34 := Or.inl ⟨0, rfl, by decide +kernel, rfl⟩
theorem iX11_isFree_34 : zGf zX11_isFree 34 11 50 37 := ⟨90, _, _, _, zcf_11, by decide, by decide +kernel, rfl, zT4_of (i := 201) rfl rfl⟩
theorem iX11_isFree_37 : zCo zX11_isFree 37 (16) 39 := Or.inr (Or.inl ⟨16, by decide, by decide +kernel, rfl⟩)
theorem iX11_isFree_39 : zIl zX11_isFree 39 1 40 := Or.inl ⟨1, rfl, by decide +kernel, rfl⟩
theorem iX11_isFree_40 : zD zX11_isFree 40 1 (.imul) 41 := ⟨by decide +kernel, rfl⟩
theorem iX11_isFree_41 : zIl zX11_isFree 41 3 42 := Or.inl ⟨3, rfl, by decide +kernel, rfl⟩
theorem iX11_isFree_42 : zD zX11_isFree 42 1 (.iadd) 43 := ⟨by decide +kernel, rfl⟩
theorem iX11_isFree_43 : zIl zX11_isFree 43 4 45 := Or.inr ⟨by decide +kernel, rfl⟩
theorem iX11_isFree_45 : zD zX11_isFree 45 1 (.iadd) 46 := ⟨by decide +kernel, rfl⟩
theorem iX11_isFree_46 : zD zX11_isFree 46 1 (.iaload) 47 := ⟨by decide +kernel, rfl⟩
theorem iX11_isFree_47 : zCo zX11_isFree 47 (-1) 48 := Or.inl ⟨-1, by decide, by decide +kernel, rfl⟩
theorem iX11_isFree_48 : zB zX11_isFree 48 (.if_icmp .eq) 51 53 := ⟨5, by decide +kernel, rfl, by decide⟩
theorem iX11_isFree_51 : zCo zX11_isFree 51 (0) 52 := Or.inl ⟨0, by decide, by decide +kernel, rfl⟩
theorem iX11_isFree_52 : zD zX11_isFree 52 1 (.ireturn) 53 := ⟨by decide +kernel, rfl⟩
theorem iX11_isFree_53 : zIn zX11_isFree 53 4 (1) 56 := ⟨by decide, 1, by decide, by decide +kernel, rfl⟩
theorem iX11_isFree_56 : zB zX11_isFree 56 .goto 59 22 := ⟨-34, by decide +kernel, rfl, by decide⟩
theorem iX11_isFree_59 : zCo zX11_isFree 59 (1) 60 := Or.inl ⟨1, by decide, by decide +kernel, rfl⟩
theorem iX11_isFree_60 : zD zX11_isFree 60 1 (.ireturn) 61 := ⟨by decide +kernel, rfl⟩
theorem iX11_put_0 : zAl zX11_put 0 0 1 := Or.inl ⟨0, rfl, by decide +kernel, rfl⟩
theorem iX11_put_1 : zIl zX11_put 1 1 2 := Or.inl ⟨1, rfl, by decide +kernel, rfl⟩
theorem iX11_put_2 : zCl zX11_put 2 .invokevirtual zX11_isMachine 5 := ⟨339, by decide +kernel, rfl, Or.inl (zT6_of (i := 41) rfl rfl)⟩
theorem iX11_put_5 : zB zX11_put 5 (.ifCond .eq) 8 32 := ⟨27, by decide +kernel, rfl, by decide⟩
theorem iX11_put_8 : zAl zX11_put 8 0 9 := Or.inl ⟨0, rfl, by decide +kernel, rfl⟩
theorem iX11_put_9 : zIl zX11_put 9 2 10 := Or.inl ⟨2, rfl, by decide +kernel, rfl⟩
theorem iX11_put_10 : zCl zX11_put 10 .invokevirtual zX11_isTool 13 := ⟨173, by decide +kernel, rfl, Or.inl (zT5_of (i := 150) rfl rfl)⟩
theorem iX11_put_13 : zB zX11_put 13 (.ifCond .eq) 16 32 := ⟨19, by decide +kernel, rfl, by decide⟩
theorem iX11_put_16 : zIl zX11_put 16 3 17 := Or.inl ⟨3, rfl, by decide +kernel, rfl⟩
theorem iX11_put_17 : zCo zX11_put 17 (0) 18 := Or.inl ⟨0, by decide, by decide +kernel, rfl⟩
theorem iX11_put_18 : zAl zX11_put 18 0 19 := Or.inl ⟨0, rfl, by decide +kernel, rfl⟩
theorem iX11_put_19 : zGf zX11_put 19 11 49 22 := ⟨87, _, _, _, zcf_11, by decide, by decide +kernel, rfl, zT4_of (i := 200) rfl rfl⟩
theorem iX11_put_22 : zIl zX11_put 22 1 23 := Or.inl ⟨1, rfl, by decide +kernel, rfl⟩
theorem iX11_put_23 : zD zX11_put 23 1 (.iaload) 24 := ⟨by decide +kernel, rfl⟩
theorem iX11_put_24 : zCo zX11_put 24 (1) 25 := Or.inl ⟨1, by decide, by decide +kernel, rfl⟩
theorem iX11_put_25 : zD zX11_put 25 1 (.isub) 26 := ⟨by decide +kernel, rfl⟩
theorem iX11_put_26 : zCl zX11_put 26 .invokestatic zX11_in 29 := ⟨143, by decide +kernel, rfl, Or.inl (zT5_of (i := 95) rfl rfl)⟩
theorem iX11_put_29 : zB zX11_put 29 (.ifCond .ne) 32 35 := ⟨6, by decide +kernel, rfl, by decide⟩
theorem iX11_put_32 : zCo zX11_put 32 (-2) 34 := Or.inr (Or.inl ⟨-2, by decide, by decide +kernel, rfl⟩)
theorem iX11_put_34 : zD zX11_put 34 1 (.ireturn) 35 := ⟨by decide +kernel, rfl⟩
theorem iX11_put_35 : zAl zX11_put 35 0 36 := Or.inl ⟨0, rfl, by decide +kernel, rfl⟩
theorem iX11_put_36 : zGf zX11_put 36 11 21 39 := ⟨69, _, _, _, zcf_11, by decide, by decide +kernel, rfl, zT4_of (i := 172) rfl rfl⟩
theorem iX11_put_39 : zIl zX11_put 39 2 40 := Or.inl ⟨2, rfl, by decide +kernel, rfl⟩
theorem iX11_put_40 : zD zX11_put 40 1 (.iaload) 41 := ⟨by decide +kernel, rfl⟩
theorem iX11_put_41 : zCo zX11_put 41 (-1) 42 := Or.inl ⟨-1, by decide, by decide +kernel, rfl⟩
theorem iX11_put_42 : zB zX11_put 42 (.if_icmp .ne) 45 64 := ⟨22, by decide +kernel, rfl, by decide⟩
theorem iX11_put_45 : zAl zX11_put 45 0 46 := Or.inl ⟨0, rfl, by decide +kernel, rfl⟩
theorem iX11_put_46 : zIl zX11_put 46 1 47 := Or.inl ⟨1, rfl, by decide +kernel, rfl⟩
theorem iX11_put_47 : zIl zX11_put 47 2 48 := Or.inl ⟨2, rfl, by decide +kernel, rfl⟩
theorem iX11_put_48 : zIl zX11_put 48 3 49 := Or.inl ⟨3, rfl, by decide +kernel, rfl⟩
theorem iX11_put_49 : zCl zX11_put 49 .invokevirtual zX11_isFree 52 := ⟨342, by decide +kernel, rfl, Or.inl (zT6_of (i := 45) rfl rfl)⟩
theorem iX11_put_52 : zB zX11_put 52 (.ifCond .eq) 55 64 := ⟨12, by decide +kernel, rfl, by decide⟩
theorem iX11_put_55 : zAl zX11_put 55 0 56 := Or.inl ⟨0, rfl, by decide +kernel, rfl⟩
theorem iX11_put_56 : zIl zX11_put 56 2 57 := Or.inl ⟨2, rfl, by decide +kernel, rfl⟩
theorem iX11_put_57 : zCo zX11_put 57 (2) 58 := Or.inl ⟨2, by decide, by decide +kernel, rfl⟩
theorem iX11_put_58 : zCl zX11_put 58 .invokevirtual zX11_saysOf 61 := ⟨333, by decide +kernel, rfl, Or.inl (zT6_of (i := 29) rfl rfl)⟩
theorem iX11_put_61 : zB zX11_put 61 (.ifCond .ne) 64 67 := ⟨6, by decide +kernel, rfl, by decide⟩
theorem iX11_put_64 : zCo zX11_put 64 (-3) 66 := Or.inr (Or.inl ⟨-3, by decide, by decide +kernel, rfl⟩)
theorem iX11_put_66 : zD zX11_put 66 1 (.ireturn) 67 := ⟨by decide +kernel, rfl⟩
theorem iX11_put_67 : zCo zX11_put 67 (0) 68 := Or.inl ⟨0, by decide, by decide +kernel, rfl⟩
theorem iX11_put_68 : zIs zX11_put 68 4 70 := ⟨by decide, Or.inr ⟨by decide +kernel, rfl⟩⟩
theorem iX11_put_70 : zIl zX11_put 70 4 72 := Or.inr ⟨by decide +kernel, rfl⟩
theorem iX11_put_72 : zAl zX11_put 72 0 73 := Or.inl ⟨0, rfl, by decide +kernel, rfl⟩
theorem iX11_put_73 : zGf zX11_put 73 11 18 76 := ⟨60, _, _, _, zcf_11, by decide, by decide +kernel, rfl, zT4_of (i := 169) rfl rfl⟩
theorem iX11_put_76 : zIl zX11_put 76 2 77 := Or.inl ⟨2, rfl, by decide +kernel, rfl⟩
theorem iX11_put_77 : zD zX11_put 77 1 (.iaload) 78 := ⟨by decide +kernel, rfl⟩
theorem iX11_put_78 : zB zX11_put 78 (.if_icmp .ge) 81 102 := ⟨24, by decide +kernel, rfl, by decide⟩
theorem iX11_put_81 : zAl zX11_put 81 0 82 := Or.inl ⟨0, rfl, by decide +kernel, rfl⟩
theorem iX11_put_82 : zGf zX11_put 82 11 50 85 := ⟨90, _, _, _, zcf_11, by decide, by decide +kernel, rfl, zT4_of (i := 201) rfl rfl⟩
theorem iX11_put_85 : zCo zX11_put 85 (16) 87 := Or.inr (Or.inl ⟨16, by decide, by decide +kernel, rfl⟩)
theorem iX11_put_87 : zIl zX11_put 87 1 88 := Or.inl ⟨1, rfl, by decide +kernel, rfl⟩
theorem iX11_put_88 : zD zX11_put 88 1 (.imul) 89 := ⟨by decide +kernel, rfl⟩
theorem iX11_put_89 : zIl zX11_put 89 3 90 := Or.inl ⟨3, rfl, by decide +kernel, rfl⟩
theorem iX11_put_90 : zD zX11_put 90 1 (.iadd) 91 := ⟨by decide +kernel, rfl⟩
theorem iX11_put_91 : zIl zX11_put 91 4 93 := Or.inr ⟨by decide +kernel, rfl⟩
theorem iX11_put_93 : zD zX11_put 93 1 (.iadd) 94 := ⟨by decide +kernel, rfl⟩
theorem iX11_put_94 : zIl zX11_put 94 2 95 := Or.inl ⟨2, rfl, by decide +kernel, rfl⟩
theorem iX11_put_95 : zD zX11_put 95 1 (.iastore) 96 := ⟨by decide +kernel, rfl⟩
theorem iX11_put_96 : zIn zX11_put 96 4 (1) 99 := ⟨by decide, 1, by decide, by decide +kernel, rfl⟩
theorem iX11_put_99 : zB zX11_put 99 .goto 102 70 := ⟨-29, by decide +kernel, rfl, by decide⟩
theorem iX11_put_102 : zAl zX11_put 102 0 103 := Or.inl ⟨0, rfl, by decide +kernel, rfl⟩
theorem iX11_put_103 : zGf zX11_put 103 11 21 106 := ⟨69, _, _, _, zcf_11, by decide, by decide +kernel, rfl, zT4_of (i := 172) rfl rfl⟩
theorem iX11_put_106 : zIl zX11_put 106 2 107 := Or.inl ⟨2, rfl, by decide +kernel, rfl⟩
theorem iX11_put_107 : zIl zX11_put 107 1 108 := Or.inl ⟨1, rfl, by decide +kernel, rfl⟩
theorem iX11_put_108 : zD zX11_put 108 1 (.iastore) 109 := ⟨by decide +kernel, rfl⟩
theorem iX11_put_109 : zAl zX11_put 109 0 110 := Or.inl ⟨0, rfl, by decide +kernel, rfl⟩
theorem iX11_put_110 : zGf zX11_put 110 11 22 113 := ⟨72, _, _, _, zcf_11, by decide, by decide +kernel, rfl, zT4_of (i := 173) rfl rfl⟩
theorem iX11_put_113 : zIl zX11_put 113 2 114 := Or.inl ⟨2, rfl, by decide +kernel, rfl⟩
theorem iX11_put_114 : zIl zX11_put 114 3 115 := Or.inl ⟨3, rfl, by decide +kernel, rfl⟩
theorem iX11_put_115 : zD zX11_put 115 1 (.iastore) 116 := ⟨by decide +kernel, rfl⟩
theorem iX11_put_116 : zCo zX11_put 116 (1) 117 := Or.inl ⟨1, by decide, by decide +kernel, rfl⟩
theorem iX11_put_117 : zD zX11_put 117 1 (.ireturn) 118 := ⟨by decide +kernel, rfl⟩
theorem iX11_take_0 : zAl zX11_take 0 0 1 := Or.inl ⟨0, rfl, by decide +kernel, rfl⟩
theorem iX11_take_1 : zIl zX11_take 1 1 2 := Or.inl ⟨1, rfl, by decide +kernel, rfl⟩
theorem iX11_take_2 : zCl zX11_take 2 .invokevirtual zX11_isTool 5 := ⟨173, by decide +kernel, rfl, Or.inl (zT5_of (i := 150) rfl rfl)⟩
theorem iX11_take_5 : zB zX11_take 5 (.ifCond .ne) 8 11 := ⟨6, by decide +kernel, rfl, by decide⟩
theorem iX11_take_8 : zCo zX11_take 8 (-2) 10 := Or.inr (Or.inl ⟨-2, by decide, by decide +kernel, rfl⟩)
theorem iX11_take_10 : zD zX11_take 10 1 (.ireturn) 11 := ⟨by decide +kernel, rfl⟩
theorem iX11_take_11 : zAl zX11_take 11 0 12 := Or.inl ⟨0, rfl, by decide +kernel, rfl⟩
theorem iX11_take_12 : zGf zX11_take 12 11 21 15 := ⟨69, _, _, _, zcf_11, by decide, by decide +kernel, rfl, zT4_of (i := 172) rfl rfl⟩
theorem iX11_take_15 : zIl zX11_take 15 1 16 := Or.inl ⟨1, rfl, by decide +kernel, rfl⟩
theorem iX11_take_16 : zD zX11_take 16 1 (.iaload) 17 := ⟨by decide +kernel, rfl⟩
theorem iX11_take_17 : zIs zX11_take 17 2 18 := ⟨by decide, Or.inl ⟨2, rfl, by decide +kernel, rfl⟩⟩
theorem iX11_take_18 : zIl zX11_take 18 2 19 := Or.inl ⟨2, rfl, by decide +kernel, rfl⟩
theorem iX11_take_19 : zCo zX11_take 19 (-1) 20 := Or.inl ⟨-1, by decide, by decide +kernel, rfl⟩
theorem iX11_take_20 : zB zX11_take 20 (.if_icmp .ne) 23 26 := ⟨6, by decide +kernel, rfl, by decide⟩
theorem iX11_take_23 : zCo zX11_take 23 (-3) 25 := Or.inr (Or.inl ⟨-3, by decide, by decide +kernel, rfl⟩)
theorem iX11_take_25 : zD zX11_take 25 1 (.ireturn) 26 := ⟨by decide +kernel, rfl⟩
theorem iX11_take_26 : zCo zX11_take 26 (0) 27 := Or.inl ⟨0, by decide, by decide +kernel, rfl⟩
theorem iX11_take_27 : zIs zX11_take 27 3 28 := ⟨by decide, Or.inl ⟨3, rfl, by decide +kernel, rfl⟩⟩
theorem iX11_take_28 : zIl zX11_take 28 3 29 := Or.inl ⟨3, rfl, by decide +kernel, rfl⟩
theorem iX11_take_29 : zAl zX11_take 29 0 30 := Or.inl ⟨0, rfl, by decide +kernel, rfl⟩
theorem iX11_take_30 : zGf zX11_take 30 11 18 33 := ⟨60, _, _, _, zcf_11, by decide, by decide +kernel, rfl, zT4_of (i := 169) rfl rfl⟩
theorem iX11_take_33 : zIl zX11_take 33 1 34 := Or.inl ⟨1, rfl, by decide +kernel, rfl⟩
theorem iX11_take_34 : zD zX11_take 34 1 (.iaload) 35 := ⟨by decide +kernel, rfl⟩
theorem iX11_take_35 : zB zX11_take 35 (.if_icmp .ge) 38 63 := ⟨28, by decide +kernel, rfl, by decide⟩
theorem iX11_take_38 : zAl zX11_take 38 0 39 := Or.inl ⟨0, rfl, by decide +kernel, rfl⟩
theorem iX11_take_39 : zGf zX11_take 39 11 50 42 := ⟨90, _, _, _, zcf_11, by decide, by decide +kernel, rfl, zT4_of (i := 201) rfl rfl⟩
theorem iX11_take_42 : zCo zX11_take 42 (16) 44 := Or.inr (Or.inl ⟨16, by decide, by decide +kernel, rfl⟩)
theorem iX11_take_44 : zIl zX11_take 44 2 45 := Or.inl ⟨2, rfl, by decide +kernel, rfl⟩
theorem iX11_take_45 : zD zX11_take 45 1 (.imul) 46 := ⟨by decide +kernel, rfl⟩
theorem iX11_take_46 : zAl zX11_take 46 0 47 := Or.inl ⟨0, rfl, by decide +kernel, rfl⟩
theorem iX11_take_47 : zGf zX11_take 47 11 22 50 := ⟨72, _, _, _, zcf_11, by decide, by decide +kernel, rfl, zT4_of (i := 173) rfl rfl⟩
theorem iX11_take_50 : zIl zX11_take 50 1 51 := Or.inl ⟨1, rfl, by decide +kernel, rfl⟩
theorem iX11_take_51 : zD zX11_take 51 1 (.iaload) 52 := ⟨by decide +kernel, rfl⟩
theorem iX11_take_52 : zD zX11_take 52 1 (.iadd) 53 := ⟨by decide +kernel, rfl⟩
theorem iX11_take_53 : zIl zX11_take 53 3 54 := Or.inl ⟨3, rfl, by decide +kernel, rfl⟩
theorem iX11_take_54 : zD zX11_take 54 1 (.iadd) 55 := ⟨by decide +kernel, rfl⟩
theorem iX11_take_55 : zCo zX11_take 55 (-1) 56 := Or.inl ⟨-1, by decide, by decide +kernel, rfl⟩
theorem iX11_take_56 : zD zX11_take 56 1 (.iastore) 57 := ⟨by decide +kernel, rfl⟩
theorem iX11_take_57 : zIn zX11_take 57 3 (1) 60 := ⟨by decide, 1, by decide, by decide +kernel, rfl⟩
theorem iX11_take_60 : zB zX11_take 60 .goto 63 28 := ⟨-32, by decide +kernel, rfl, by decide⟩
theorem iX11_take_63 : zAl zX11_take 63 0 64 := Or.inl ⟨0, rfl, by decide +kernel, rfl⟩
theorem iX11_take_64 : zGf zX11_take 64 11 21 67 := ⟨69, _, _, _, zcf_11, by decide, by decide +kernel, rfl, zT4_of (i := 172) rfl rfl⟩
theorem iX11_take_67 : zIl zX11_take 67 1 68 := Or.inl ⟨1, rfl, by decide +kernel, rfl⟩
theorem iX11_take_68 : zCo zX11_take 68 (-1) 69 := Or.inl ⟨-1, by decide, by decide +kernel, rfl⟩
theorem iX11_take_69 : zD zX11_take 69 1 (.iastore) 70 := ⟨by decide +kernel, rfl⟩
theorem iX11_take_70 : zAl zX11_take 70 0 71 := Or.inl ⟨0, rfl, by decide +kernel, rfl⟩
theorem iX11_take_71 : zGf zX11_take 71 11 22 74 := ⟨72, _, _, _, zcf_11, by decide, by decide +kernel, rfl, zT4_of (i := 173) rfl rfl⟩
theorem iX11_take_74 : zIl zX11_take 74 1 75 := Or.inl ⟨1, rfl, by decide +kernel, rfl⟩
theorem iX11_take_75 : zCo zX11_take 75 (-1) 76 := Or.inl ⟨-1, by decide, by decide +kernel, rfl⟩
theorem iX11_take_76 : zD zX11_take 76 1 (.iastore) 77 := ⟨by decide +kernel, rfl⟩
theorem iX11_take_77 : zIl zX11_take 77 2 78 := Or.inl ⟨2, rfl, by decide +kernel, rfl⟩
theorem iX11_take_78 : zD zX11_take 78 1 (.ireturn) 79 := ⟨by decide +kernel, rfl⟩
theorem iX11_at_0 : zAl zX11_at 0 0 1 := Or.inl ⟨0, rfl, by decide +kernel, rfl⟩
theorem iX11_at_1 : zIl zX11_at 1 1 2 := Or.inl ⟨1, rfl, by decide +kernel, rfl⟩
theorem iX11_at_2 : zCl zX11_at 2 .invokevirtual zX11_isMachine 5 := ⟨339, by decide +kernel, rfl, Or.inl (zT6_of (i := 41) rfl rfl)⟩
theorem iX11_at_5 : zB zX11_at 5 (.ifCond .eq) 8 38 := ⟨33, by decide +kernel, rfl, by decide⟩
theorem iX11_at_8 : zIl zX11_at 8 2 9 := Or.inl ⟨2, rfl, by decide +kernel, rfl⟩
theorem iX11_at_9 : zCo zX11_at 9 (0) 10 := Or.inl ⟨0, by decide, by decide +kernel, rfl⟩
theorem iX11_at_10 : zAl zX11_at 10 0 11 := Or.inl ⟨0, rfl, by decide +kernel, rfl⟩
theorem iX11_at_11 : zGf zX11_at 11 11 49 14 := ⟨87, _, _, _, zcf_11, by decide, by decide +kernel, rfl, zT4_of (i := 200) rfl rfl⟩
theorem iX11_at_14 : zIl zX11_at 14 1 15 := Or.inl ⟨1, rfl, by decide +kernel, rfl⟩
theorem iX11_at_15 : zD zX11_at 15 1 (.iaload) 16 := ⟨by decide +kernel, rfl⟩
theorem iX11_at_16 : zCo zX11_at 16 (1) 17 := Or.inl ⟨1, by decide, by decide +kernel, rfl⟩
theorem iX11_at_17 : zD zX11_at 17 1 (.isub) 18 := ⟨by decide +kernel, rfl⟩
theorem iX11_at_18 : zCl zX11_at 18 .invokestatic zX11_in 21 := ⟨143, by decide +kernel, rfl, Or.inl (zT5_of (i := 95) rfl rfl)⟩
theorem iX11_at_21 : zB zX11_at 21 (.ifCond .eq) 24 38 := ⟨17, by decide +kernel, rfl, by decide⟩
theorem iX11_at_24 : zAl zX11_at 24 0 25 := Or.inl ⟨0, rfl, by decide +kernel, rfl⟩
theorem iX11_at_25 : zGf zX11_at 25 11 50 28 := ⟨90, _, _, _, zcf_11, by decide, by decide +kernel, rfl, zT4_of (i := 201) rfl rfl⟩
theorem iX11_at_28 : zCo zX11_at 28 (16) 30 := Or.inr (Or.inl ⟨16, by decide, by decide +kernel, rfl⟩)
theorem iX11_at_30 : zIl zX11_at 30 1 31 := Or.inl ⟨1, rfl, by decide +kernel, rfl⟩
theorem iX11_at_31 : zD zX11_at 31 1 (.imul) 32 := ⟨by decide +kernel, rfl⟩
theorem iX11_at_32 : zIl zX11_at 32 2 33 := Or.inl ⟨2, rfl, by decide +kernel, rfl⟩
theorem iX11_at_33 : zD zX11_at 33 1 (.iadd) 34 := ⟨by decide +kernel, rfl⟩
theorem iX11_at_34 : zD zX11_at 34 1 (.iaload) 35 := ⟨by decide +kernel, rfl⟩
theorem iX11_at_35 : zB zX11_at 35 .goto 38 40 := ⟨5, by decide +kernel, rfl, by decide⟩
theorem iX11_at_38 : zCo zX11_at 38 (-2) 40 := Or.inr (Or.inl ⟨-2, by decide, by decide +kernel, rfl⟩)
theorem iX11_at_40 : zD zX11_at 40 1 (.ireturn) 41 := ⟨by decide +kernel, rfl⟩
theorem iX11_room_0 : zAl zX11_room 0 0 1 := Or.inl ⟨0, rfl, by decide +kernel, rfl⟩
theorem iX11_room_1 : zIl zX11_room 1 1 2 := Or.inl ⟨1, rfl, by decide +kernel, rfl⟩
theorem iX11_room_2 : zCl zX11_room 2 .invokevirtual zX11_isMachine 5 := ⟨339, by decide +kernel, rfl, Or.inl (zT6_of (i := 41) rfl rfl)⟩
theorem iX11_room_5 : zB zX11_room 5 (.ifCond .eq) 8 16 := ⟨11, by decide +kernel, rfl, by decide⟩
theorem iX11_room_8 : zAl zX11_room 8 0 9 := Or.inl ⟨0, rfl, by decide +kernel, rfl⟩
theorem iX11_room_9 : zIl zX11_room 9 2 10 := Or.inl ⟨2, rfl, by decide +kernel, rfl⟩
theorem iX11_room_10 : zCl zX11_room 10 .invokevirtual zX11_isTool 13 := ⟨173, by decide +kernel, rfl, Or.inl (zT5_of (i := 150) rfl rfl)⟩
theorem iX11_room_13 : zB zX11_room 13 (.ifCond .ne) 16 19 := ⟨6, by decide +kernel, rfl, by decide⟩
theorem iX11_room_16 : zCo zX11_room 16 (-2) 18 := Or.inr (Or.inl ⟨-2, by decide, by decide +kernel, rfl⟩)
theorem iX11_room_18 : zD zX11_room 18 1 (.ireturn) 19 := ⟨by decide +kernel, rfl⟩
theorem iX11_room_19 : zCo zX11_room 19 (0) 20 := Or.inl ⟨0, by decide, by decide +kernel, rfl⟩
theorem iX11_room_20 : zIs zX11_room 20 3 21 := ⟨by decide, Or.inl ⟨3, rfl, by decide +kernel, rfl⟩⟩
theorem iX11_room_21 : zIl zX11_room 21 3 22 := Or.inl ⟨3, rfl, by decide +kernel, rfl⟩
theorem iX11_room_22 : zAl zX11_room 22 0 23 := Or.inl ⟨0, rfl, by decide +kernel, rfl⟩
theorem iX11_room_23 : zGf zX11_room 23 11 49 26 := ⟨87, _, _, _, zcf_11, by decide, by decide +kernel, rfl, zT4_of (i := 200) rfl rfl⟩
theorem iX11_room_26 : zIl zX11_room 26 1 27 := Or.inl ⟨1, rfl, by decide +kernel, rfl⟩
theorem iX11_room_27 : zD zX11_room 27 1 (.iaload) 28 := ⟨by decide +kernel, rfl⟩
theorem iX11_room_28 : zB zX11_room 28 (.if_icmp .ge) 31 49 := ⟨21, by decide +kernel, rfl, by decide⟩
theorem iX11_room_31 : zAl zX11_room 31 0 32 := Or.inl ⟨0, rfl, by decide +kernel, rfl⟩
theorem iX11_room_32 : zIl zX11_room 32 1 33 := Or.inl ⟨1, rfl, by decide +kernel, rfl⟩
theorem iX11_room_33 : zIl zX11_room 33 2 34 := Or.inl ⟨2, rfl, by decide +kernel, rfl⟩
theorem iX11_room_34 : zIl zX11_room 34 3 35 := Or.inl ⟨3, rfl, by decide +kernel, rfl⟩
theorem iX11_room_35 : zCl zX11_room 35 .invokevirtual zX11_isFree 38 := ⟨342, by decide +kernel, rfl, Or.inl (zT6_of (i := 45) rfl rfl)⟩
theorem iX11_room_38 : zB zX11_room 38 (.ifCond .eq) 41 43 := ⟨5, by decide +kernel, rfl, by decide⟩
theorem iX11_room_41 : zIl zX11_room 41 3 42 := Or.inl ⟨3, rfl, by decide +kernel, rfl⟩
theorem iX11_room_42 : zD zX11_room 42 1 (.ireturn) 43 := ⟨by decide +kernel, rfl⟩
theorem iX11_room_43 : zIn zX11_room 43 3 (1) 46 := ⟨by decide, 1, by decide, by decide +kernel, rfl⟩
theorem iX11_room_46 : zB zX11_room 46 .goto 49 21 := ⟨-25, by decide +kernel, rfl, by decide⟩
theorem iX11_room_49 : zCo zX11_room 49 (-1) 50 := Or.inl ⟨-1, by decide, by decide +kernel, rfl⟩
theorem iX11_room_50 : zD zX11_room 50 1 (.ireturn) 51 := ⟨by decide +kernel, rfl⟩
theorem iX11_isMore_0 : zAl zX11_isMore 0 0 1 := Or.inl ⟨0, rfl, by decide +kernel, rfl⟩
theorem iX11_isMore_1 : zGf zX11_isMore 1 11 9 4 := ⟨35, _, _, _, zcf_11, by decide, by decide +kernel, rfl, zT4_of (i := 160) rfl rfl⟩
theorem iX11_isMore_4 : zIl zX11_isMore 4 1 5 := Or.inl ⟨1, rfl, by decide +kernel, rfl⟩
theorem iX11_isMore_5 : zD zX11_isMore 5 1 (.laload) 6 := ⟨by decide +kernel, rfl⟩
theorem iX11_isMore_6 : zAl zX11_isMore 6 0 7 := Or.inl ⟨0, rfl, by decide +kernel, rfl⟩
theorem iX11_isMore_7 : zGf zX11_isMore 7 11 6 10 := ⟨26, _, _, _, zcf_11, by decide, by decide +kernel, rfl, zT4_of (i := 157) rfl rfl⟩
theorem iX11_isMore_10 : zIl zX11_isMore 10 2 11 := Or.inl ⟨2, rfl, by decide +kernel, rfl⟩
theorem iX11_isMore_11 : zD zX11_isMore 11 1 (.iaload) 12 := ⟨by decide +kernel, rfl⟩
theorem iX11_isMore_12 : zD zX11_isMore 12 1 (.i2l) 13 := ⟨by decide +kernel, rfl⟩
theorem iX11_isMore_13 : zD zX11_isMore 13 1 (.lmul) 14 := ⟨by decide +kernel, rfl⟩
theorem iX11_isMore_14 : zAl zX11_isMore 14 0 15 := Or.inl ⟨0, rfl, by decide +kernel, rfl⟩
theorem iX11_isMore_15 : zGf zX11_isMore 15 11 9 18 := ⟨35, _, _, _, zcf_11, by decide, by decide +kernel, rfl, zT4_of (i := 160) rfl rfl⟩
theorem iX11_isMore_18 : zIl zX11_isMore 18 2 19 := Or.inl ⟨2, rfl, by decide +kernel, rfl⟩
theorem iX11_isMore_19 : zD zX11_isMore 19 1 (.laload) 20 := ⟨by decide +kernel, rfl⟩
theorem iX11_isMore_20 : zAl zX11_isMore 20 0 21 := Or.inl ⟨0, rfl, by decide +kernel, rfl⟩
theorem iX11_isMore_21 : zGf zX11_isMore 21 11 6 24 := ⟨26, _, _, _, zcf_11, by decide, by decide +kernel, rfl, zT4_of (i := 157) rfl rfl⟩
theorem iX11_isMore_24 : zIl zX11_isMore 24 1 25 := Or.inl ⟨1, rfl, by decide +kernel, rfl⟩
theorem iX11_isMore_25 : zD zX11_isMore 25 1 (.iaload) 26 := ⟨by decide +kernel, rfl⟩
theorem iX11_isMore_26 : zD zX11_isMore 26 1 (.i2l) 27 := ⟨by decide +kernel, rfl⟩
theorem iX11_isMore_27 : zD zX11_isMore 27 1 (.lmul) 28 := ⟨by decide +kernel, rfl⟩
theorem iX11_isMore_28 : zD zX11_isMore 28 1 (.lcmp) 29 := ⟨by decide +kernel, rfl⟩
theorem iX11_isMore_29 : zB zX11_isMore 29 (.ifCond .le) 32 36 := ⟨7, by decide +kernel, rfl, by decide⟩
theorem iX11_isMore_32 : zCo zX11_isMore 32 (1) 33 := Or.inl ⟨1, by decide, by decide +kernel, rfl⟩
theorem iX11_isMore_33 : zB zX11_isMore 33 .goto 36 37 := ⟨4, by decide +kernel, rfl, by decide⟩
theorem iX11_isMore_36 : zCo zX11_isMore 36 (0) 37 := Or.inl ⟨0, by decide, by decide +kernel, rfl⟩
theorem iX11_isMore_37 : zD zX11_isMore 37 1 (.ireturn) 38 := ⟨by decide +kernel, rfl⟩
theorem iX11_cutBy_0 : zCo zX11_cutBy 0 (-1) 1 := Or.inl ⟨-1, by decide, by decide +kernel, rfl⟩
theorem iX11_cutBy_1 : zIs zX11_cutBy 1 5 3 := ⟨by decide, Or.inr ⟨by decide +kernel, rfl⟩⟩
theorem iX11_cutBy_3 : zCo zX11_cutBy 3 (0) 4 := Or.inl ⟨0, by decide, by decide +kernel, rfl⟩
theorem iX11_cutBy_4 : zIs zX11_cutBy 4 6 6 := ⟨by decide, Or.inr ⟨by decide +kernel, rfl⟩⟩
theorem iX11_cutBy_6 : zIl zX11_cutBy 6 6 8 := Or.inr ⟨by decide +kernel, rfl⟩
theorem iX11_cutBy_8 : zAl zX11_cutBy 8 0 9 := Or.inl ⟨0, rfl, by decide +kernel, rfl⟩
theorem iX11_cutBy_9 : zGf zX11_cutBy 9 11 15 12 := ⟨170, _, _, _, zcf_11, by decide, by decide +kernel, rfl, zT4_of (i := 166) rfl rfl⟩
theorem iX11_cutBy_12 : zB zX11_cutBy 12 (.if_icmp .ge) 15 92 := ⟨80, by decide +kernel, rfl, by decide⟩
theorem iX11_cutBy_15 : zAl zX11_cutBy 15 0 16 := Or.inl ⟨0, rfl, by decide +kernel, rfl⟩
theorem iX11_cutBy_16 : zGf zX11_cutBy 16 11 21 19 := ⟨69, _, _, _, zcf_11, by decide, by decide +kernel, rfl, zT4_of (i := 172) rfl rfl⟩
theorem iX11_cutBy_19 : zIl zX11_cutBy 19 6 21 := Or.inr ⟨by decide +kernel, rfl⟩
theorem iX11_cutBy_21 : zD zX11_cutBy 21 1 (.iaload) 22 := ⟨by decide +kernel, rfl⟩
theorem iX11_cutBy_22 : zIl zX11_cutBy 22 1 23 := Or.inl ⟨1, rfl, by decide +kernel, rfl⟩
theorem iX11_cutBy_23 : zB zX11_cutBy 23 (.if_icmp .ne) 26 86 := ⟨63, by decide +kernel, rfl, by decide⟩
theorem iX11_cutBy_26 : zAl zX11_cutBy 26 0 27 := Or.inl ⟨0, rfl, by decide +kernel, rfl⟩
theorem iX11_cutBy_27 : zGf zX11_cutBy 27 11 19 30 := ⟨63, _, _, _, zcf_11, by decide, by decide +kernel, rfl, zT4_of (i := 170) rfl rfl⟩
theorem iX11_cutBy_30 : zIl zX11_cutBy 30 6 32 := Or.inr ⟨by decide +kernel, rfl⟩
theorem iX11_cutBy_32 : zD zX11_cutBy 32 1 (.iaload) 33 := ⟨by decide +kernel, rfl⟩
theorem iX11_cutBy_33 : zIl zX11_cutBy 33 2 34 := Or.inl ⟨2, rfl, by decide +kernel, rfl⟩
theorem iX11_cutBy_34 : zB zX11_cutBy 34 (.if_icmp .ne) 37 86 := ⟨52, by decide +kernel, rfl, by decide⟩
theorem iX11_cutBy_37 : zAl zX11_cutBy 37 0 38 := Or.inl ⟨0, rfl, by decide +kernel, rfl⟩
theorem iX11_cutBy_38 : zGf zX11_cutBy 38 11 7 41 := ⟨29, _, _, _, zcf_11, by decide, by decide +kernel, rfl, zT4_of (i := 158) rfl rfl⟩
theorem iX11_cutBy_41 : zAl zX11_cutBy 41 0 42 := Or.inl ⟨0, rfl, by decide +kernel, rfl⟩
theorem iX11_cutBy_42 : zGf zX11_cutBy 42 11 17 45 := ⟨57, _, _, _, zcf_11, by decide, by decide +kernel, rfl, zT4_of (i := 168) rfl rfl⟩
theorem iX11_cutBy_45 : zIl zX11_cutBy 45 6 47 := Or.inr ⟨by decide +kernel, rfl⟩
theorem iX11_cutBy_47 : zD zX11_cutBy 47 1 (.iaload) 48 := ⟨by decide +kernel, rfl⟩
theorem iX11_cutBy_48 : zD zX11_cutBy 48 1 (.iaload) 49 := ⟨by decide +kernel, rfl⟩
theorem iX11_cutBy_49 : zB zX11_cutBy 49 (.ifCond .eq) 52 55 := ⟨6, by decide +kernel, rfl, by decide⟩
theorem iX11_cutBy_52 : zB zX11_cutBy 52 .goto 55 86 := ⟨34, by decide +kernel, rfl, by decide⟩
theorem iX11_cutBy_55 : zIl zX11_cutBy 55 5 57 := Or.inr ⟨by decide +kernel, rfl⟩
theorem iX11_cutBy_57 : zCo zX11_cutBy 57 (-1) 58 := Or.inl ⟨-1, by decide, by decide +kernel, rfl⟩
theorem iX11_cutBy_58 : zB zX11_cutBy 58 (.if_icmp .eq) 61 82 := ⟨24, by decide +kernel, rfl, by decide⟩
theorem iX11_cutBy_61 : zAl zX11_cutBy 61 0 62 := Or.inl ⟨0, rfl, by decide +kernel, rfl⟩
theorem iX11_cutBy_62 : zAl zX11_cutBy 62 0 63 := Or.inl ⟨0, rfl, by decide +kernel, rfl⟩
theorem iX11_cutBy_63 : zGf zX11_cutBy 63 11 17 66 := ⟨57, _, _, _, zcf_11, by decide, by decide +kernel, rfl, zT4_of (i := 168) rfl rfl⟩
theorem iX11_cutBy_66 : zIl zX11_cutBy 66 6 68 := Or.inr ⟨by decide +kernel, rfl⟩
theorem iX11_cutBy_68 : zD zX11_cutBy 68 1 (.iaload) 69 := ⟨by decide +kernel, rfl⟩
theorem iX11_cutBy_69 : zAl zX11_cutBy 69 0 70 := Or.inl ⟨0, rfl, by decide +kernel, rfl⟩
theorem iX11_cutBy_70 : zGf zX11_cutBy 70 11 17 73 := ⟨57, _, _, _, zcf_11, by decide, by decide +kernel, rfl, zT4_of (i := 168) rfl rfl⟩
theorem iX11_cutBy_73 : zIl zX11_cutBy 73 5 75 := Or.inr ⟨by decide +kernel, rfl⟩
theorem iX11_cutBy_75 : zD zX11_cutBy 75 1 (.iaload) 76 := ⟨by decide +kernel, rfl⟩
theorem iX11_cutBy_76 : zCl zX11_cutBy 76 .invokevirtual zX11_isMore 79 := ⟨345, by decide +kernel, rfl, Or.inl (zT6_of (i := 72) rfl rfl)⟩
theorem iX11_cutBy_79 : zB zX11_cutBy 79 (.ifCond .eq) 82 86 := ⟨7, by decide +kernel, rfl, by decide⟩
theorem iX11_cutBy_82 : zIl zX11_cutBy 82 6 84 := Or.inr ⟨by decide +kernel, rfl⟩
theorem iX11_cutBy_84 : zIs zX11_cutBy 84 5 86 := ⟨by decide, Or.inr ⟨by decide +kernel, rfl⟩⟩
theorem iX11_cutBy_86 : zIn zX11_cutBy 86 6 (1) 89 := ⟨by decide, 1, by decide, by decide +kernel, rfl⟩
theorem iX11_cutBy_89 : zB zX11_cutBy 89 .goto 92 6 := ⟨-83, by decide +kernel, rfl, by decide⟩
theorem iX11_cutBy_92 : zIl zX11_cutBy 92 5 94 := Or.inr ⟨by decide +kernel, rfl⟩
theorem iX11_cutBy_94 : zCo zX11_cutBy 94 (-1) 95 := Or.inl ⟨-1, by decide, by decide +kernel, rfl⟩
theorem iX11_cutBy_95 : zB zX11_cutBy 95 (.if_icmp .ne) 98 101 := ⟨6, by decide +kernel, rfl, by decide⟩
theorem iX11_cutBy_98 : zCo zX11_cutBy 98 (-3) 100 := Or.inr (Or.inl ⟨-3, by decide, by decide +kernel, rfl⟩)
theorem iX11_cutBy_100 : zD zX11_cutBy 100 1 (.ireturn) 101 := ⟨by decide +kernel, rfl⟩
theorem iX11_cutBy_101 : zAl zX11_cutBy 101 0 102 := Or.inl ⟨0, rfl, by decide +kernel, rfl⟩
theorem iX11_cutBy_102 : zGf zX11_cutBy 102 11 17 105 := ⟨57, _, _, _, zcf_11, by decide, by decide +kernel, rfl, zT4_of (i := 168) rfl rfl⟩
theorem iX11_cutBy_105 : zIl zX11_cutBy 105 5 107 := Or.inr ⟨by decide +kernel, rfl⟩
theorem iX11_cutBy_107 : zD zX11_cutBy 107 1 (.iaload) 108 := ⟨by decide +kernel, rfl⟩
theorem iX11_cutBy_108 : zIs zX11_cutBy 108 6 110 := ⟨by decide, Or.inr ⟨by decide +kernel, rfl⟩⟩
theorem iX11_cutBy_110 : zAl zX11_cutBy 110 0 111 := Or.inl ⟨0, rfl, by decide +kernel, rfl⟩
theorem iX11_cutBy_111 : zGf zX11_cutBy 111 11 8 114 := ⟨32, _, _, _, zcf_11, by decide, by decide +kernel, rfl, zT4_of (i := 159) rfl rfl⟩
theorem iX11_cutBy_114 : zIl zX11_cutBy 114 6 116 := Or.inr ⟨by decide +kernel, rfl⟩
theorem iX11_cutBy_116 : zD zX11_cutBy 116 1 (.dup2) 117 := ⟨by decide +kernel, rfl⟩
theorem iX11_cutBy_117 : zD zX11_cutBy 117 1 (.iaload) 118 := ⟨by decide +kernel, rfl⟩
theorem iX11_cutBy_118 : zIl zX11_cutBy 118 3 119 := Or.inl ⟨3, rfl, by decide +kernel, rfl⟩
theorem iX11_cutBy_119 : zD zX11_cutBy 119 1 (.iadd) 120 := ⟨by decide +kernel, rfl⟩
theorem iX11_cutBy_120 : zD zX11_cutBy 120 1 (.iastore) 121 := ⟨by decide +kernel, rfl⟩
theorem iX11_cutBy_121 : zAl zX11_cutBy 121 0 122 := Or.inl ⟨0, rfl, by decide +kernel, rfl⟩
theorem iX11_cutBy_122 : zGf zX11_cutBy 122 11 9 125 := ⟨35, _, _, _, zcf_11, by decide, by decide +kernel, rfl, zT4_of (i := 160) rfl rfl⟩
theorem iX11_cutBy_125 : zIl zX11_cutBy 125 6 127 := Or.inr ⟨by decide +kernel, rfl⟩
theorem iX11_cutBy_127 : zD zX11_cutBy 127 1 (.dup2) 128 := ⟨by decide +kernel, rfl⟩
theorem iX11_cutBy_128 : zD zX11_cutBy 128 1 (.laload) 129 := ⟨by decide +kernel, rfl⟩
theorem iX11_cutBy_129 : zIl zX11_cutBy 129 3 130 := Or.inl ⟨3, rfl, by decide +kernel, rfl⟩
theorem iX11_cutBy_130 : zD zX11_cutBy 130 1 (.i2l) 131 := ⟨by decide +kernel, rfl⟩
theorem iX11_cutBy_131 : zAl zX11_cutBy 131 0 132 := Or.inl ⟨0, rfl, by decide +kernel, rfl⟩
theorem iX11_cutBy_132 : zIl zX11_cutBy 132 6 134 := Or.inr ⟨by decide +kernel, rfl⟩
theorem iX11_cutBy_134 : zAl zX11_cutBy 134 0 135 := Or.inl ⟨0, rfl, by decide +kernel, rfl⟩
theorem iX11_cutBy_135 : zGf zX11_cutBy 135 11 48 138 := ⟨84, _, _, _, zcf_11, by decide, by decide +kernel, rfl, zT4_of (i := 199) rfl rfl⟩
theorem iX11_cutBy_138 : zIl zX11_cutBy 138 1 139 := Or.inl ⟨1, rfl, by decide +kernel, rfl⟩
theorem iX11_cutBy_139 : zD zX11_cutBy 139 1 (.iaload) 140 := ⟨by decide +kernel, rfl⟩
theorem iX11_cutBy_140 : zIl zX11_cutBy 140 4 142 := Or.inr ⟨by decide +kernel, rfl⟩
theorem iX11_cutBy_142 : zCl zX11_cutBy 142 .invokevirtual zX11_wearOf 145 := ⟨162, by decide +kernel, rfl, Or.inl (zT5_of (i := 122) rfl rfl)⟩
theorem iX11_cutBy_145 : zD zX11_cutBy 145 1 (.i2l) 146 := ⟨by decide +kernel, rfl⟩
theorem iX11_cutBy_146 : zD zX11_cutBy 146 1 (.lmul) 147 := ⟨by decide +kernel, rfl⟩
theorem iX11_cutBy_147 : zD zX11_cutBy 147 1 (.ladd) 148 := ⟨by decide +kernel, rfl⟩
theorem iX11_cutBy_148 : zD zX11_cutBy 148 1 (.lastore) 149 := ⟨by decide +kernel, rfl⟩
theorem iX11_cutBy_149 : zAl zX11_cutBy 149 0 150 := Or.inl ⟨0, rfl, by decide +kernel, rfl⟩
theorem iX11_cutBy_150 : zGf zX11_cutBy 150 11 10 153 := ⟨39, _, _, _, zcf_11, by decide, by decide +kernel, rfl, zT4_of (i := 161) rfl rfl⟩
theorem iX11_cutBy_153 : zIl zX11_cutBy 153 6 155 := Or.inr ⟨by decide +kernel, rfl⟩
theorem iX11_cutBy_155 : zAl zX11_cutBy 155 0 156 := Or.inl ⟨0, rfl, by decide +kernel, rfl⟩
theorem iX11_cutBy_156 : zGf zX11_cutBy 156 11 48 159 := ⟨84, _, _, _, zcf_11, by decide, by decide +kernel, rfl, zT4_of (i := 199) rfl rfl⟩
theorem iX11_cutBy_159 : zIl zX11_cutBy 159 1 160 := Or.inl ⟨1, rfl, by decide +kernel, rfl⟩
theorem iX11_cutBy_160 : zD zX11_cutBy 160 1 (.iaload) 161 := ⟨by decide +kernel, rfl⟩
theorem iX11_cutBy_161 : zD zX11_cutBy 161 1 (.iastore) 162 := ⟨by decide +kernel, rfl⟩
theorem iX11_cutBy_162 : zAl zX11_cutBy 162 0 163 := Or.inl ⟨0, rfl, by decide +kernel, rfl⟩
theorem iX11_cutBy_163 : zGf zX11_cutBy 163 11 11 166 := ⟨42, _, _, _, zcf_11, by decide, by decide +kernel, rfl, zT4_of (i := 162) rfl rfl⟩
theorem iX11_cutBy_166 : zIl zX11_cutBy 166 6 168 := Or.inr ⟨by decide +kernel, rfl⟩
theorem iX11_cutBy_168 : zIl zX11_cutBy 168 4 170 := Or.inr ⟨by decide +kernel, rfl⟩
theorem iX11_cutBy_170 : zD zX11_cutBy 170 1 (.iastore) 171 := ⟨by decide +kernel, rfl⟩
theorem iX11_cutBy_171 : zAl zX11_cutBy 171 0 172 := Or.inl ⟨0, rfl, by decide +kernel, rfl⟩
theorem iX11_cutBy_172 : zIl zX11_cutBy 172 6 174 := Or.inr ⟨by decide +kernel, rfl⟩
theorem iX11_cutBy_174 : zIl zX11_cutBy 174 1 175 := Or.inl ⟨1, rfl, by decide +kernel, rfl⟩
theorem iX11_cutBy_175 : zCl zX11_cutBy 175 .invokevirtual zX11_goesOn 178 := ⟨349, by decide +kernel, rfl, Or.inl (zT6_of (i := 76) rfl rfl)⟩
theorem iX11_cutBy_178 : zAl zX11_cutBy 178 0 179 := Or.inl ⟨0, rfl, by decide +kernel, rfl⟩
theorem iX11_cutBy_179 : zIl zX11_cutBy 179 5 181 := Or.inr ⟨by decide +kernel, rfl⟩
theorem iX11_cutBy_181 : zCo zX11_cutBy 181 (1) 182 := Or.inl ⟨1, by decide, by decide +kernel, rfl⟩
theorem iX11_cutBy_182 : zCl zX11_cutBy 182 .invokevirtual zX11_saysOf 185 := ⟨333, by decide +kernel, rfl, Or.inl (zT6_of (i := 29) rfl rfl)⟩
theorem iX11_cutBy_185 : zB zX11_cutBy 185 (.ifCond .eq) 188 199 := ⟨14, by decide +kernel, rfl, by decide⟩
theorem iX11_cutBy_188 : zAl zX11_cutBy 188 0 189 := Or.inl ⟨0, rfl, by decide +kernel, rfl⟩
theorem iX11_cutBy_189 : zGf zX11_cutBy 189 11 7 192 := ⟨29, _, _, _, zcf_11, by decide, by decide +kernel, rfl, zT4_of (i := 158) rfl rfl⟩
theorem iX11_cutBy_192 : zIl zX11_cutBy 192 6 194 := Or.inr ⟨by decide +kernel, rfl⟩
theorem iX11_cutBy_194 : zCo zX11_cutBy 194 (2) 195 := Or.inl ⟨2, by decide, by decide +kernel, rfl⟩
theorem iX11_cutBy_195 : zD zX11_cutBy 195 1 (.iastore) 196 := ⟨by decide +kernel, rfl⟩
theorem iX11_cutBy_196 : zB zX11_cutBy 196 .goto 199 240 := ⟨44, by decide +kernel, rfl, by decide⟩
theorem iX11_cutBy_199 : zAl zX11_cutBy 199 0 200 := Or.inl ⟨0, rfl, by decide +kernel, rfl⟩
theorem iX11_cutBy_200 : zGf zX11_cutBy 200 11 9 203 := ⟨35, _, _, _, zcf_11, by decide, by decide +kernel, rfl, zT4_of (i := 160) rfl rfl⟩
theorem iX11_cutBy_203 : zIl zX11_cutBy 203 6 205 := Or.inr ⟨by decide +kernel, rfl⟩
theorem iX11_cutBy_205 : zD zX11_cutBy 205 1 (.laload) 206 := ⟨by decide +kernel, rfl⟩
theorem iX11_cutBy_206 : zCL zX11_cutBy 206 (100) 209 := Or.inr ⟨156, zT5_of (i := 114) rfl rfl, by decide +kernel, rfl⟩
theorem iX11_cutBy_209 : zAl zX11_cutBy 209 0 210 := Or.inl ⟨0, rfl, by decide +kernel, rfl⟩
theorem iX11_cutBy_210 : zGf zX11_cutBy 210 11 6 213 := ⟨26, _, _, _, zcf_11, by decide, by decide +kernel, rfl, zT4_of (i := 157) rfl rfl⟩
theorem iX11_cutBy_213 : zIl zX11_cutBy 213 6 215 := Or.inr ⟨by decide +kernel, rfl⟩
theorem iX11_cutBy_215 : zD zX11_cutBy 215 1 (.iaload) 216 := ⟨by decide +kernel, rfl⟩
theorem iX11_cutBy_216 : zD zX11_cutBy 216 1 (.i2l) 217 := ⟨by decide +kernel, rfl⟩
theorem iX11_cutBy_217 : zD zX11_cutBy 217 1 (.lmul) 218 := ⟨by decide +kernel, rfl⟩
theorem iX11_cutBy_218 : zD zX11_cutBy 218 1 (.lcmp) 219 := ⟨by decide +kernel, rfl⟩
theorem iX11_cutBy_219 : zB zX11_cutBy 219 (.ifCond .ge) 222 232 := ⟨13, by decide +kernel, rfl, by decide⟩
theorem iX11_cutBy_222 : zAl zX11_cutBy 222 0 223 := Or.inl ⟨0, rfl, by decide +kernel, rfl⟩
theorem iX11_cutBy_223 : zIl zX11_cutBy 223 5 225 := Or.inr ⟨by decide +kernel, rfl⟩
theorem iX11_cutBy_225 : zCo zX11_cutBy 225 (0) 226 := Or.inl ⟨0, by decide, by decide +kernel, rfl⟩
theorem iX11_cutBy_226 : zCl zX11_cutBy 226 .invokevirtual zX11_saysOf 229 := ⟨333, by decide +kernel, rfl, Or.inl (zT6_of (i := 29) rfl rfl)⟩
theorem iX11_cutBy_229 : zB zX11_cutBy 229 (.ifCond .eq) 232 240 := ⟨11, by decide +kernel, rfl, by decide⟩
theorem iX11_cutBy_232 : zAl zX11_cutBy 232 0 233 := Or.inl ⟨0, rfl, by decide +kernel, rfl⟩
theorem iX11_cutBy_233 : zGf zX11_cutBy 233 11 7 236 := ⟨29, _, _, _, zcf_11, by decide, by decide +kernel, rfl, zT4_of (i := 158) rfl rfl⟩
theorem iX11_cutBy_236 : zIl zX11_cutBy 236 6 238 := Or.inr ⟨by decide +kernel, rfl⟩
theorem iX11_cutBy_238 : zCo zX11_cutBy 238 (1) 239 := Or.inl ⟨1, by decide, by decide +kernel, rfl⟩
theorem iX11_cutBy_239 : zD zX11_cutBy 239 1 (.iastore) 240 := ⟨by decide +kernel, rfl⟩
theorem iX11_cutBy_240 : zIl zX11_cutBy 240 5 242 := Or.inr ⟨by decide +kernel, rfl⟩
theorem iX11_cutBy_242 : zD zX11_cutBy 242 1 (.ireturn) 243 := ⟨by decide +kernel, rfl⟩
theorem iX11_isCut_0 : zIl zX11_isCut 0 0 1 := Or.inl ⟨0, rfl, by decide +kernel, rfl⟩
theorem iX11_isCut_1 : zCo zX11_isCut 1 (0) 2 := Or.inl ⟨0, by decide, by decide +kernel, rfl⟩
theorem iX11_isCut_2 : zCo zX11_isCut 2 (9) 4 := Or.inr (Or.inl ⟨9, by decide, by decide +kernel, rfl⟩)
theorem iX11_isCut_4 : zCl zX11_isCut 4 .invokestatic zX11_in 7 := ⟨143, by decide +kernel, rfl, Or.inl (zT5_of (i := 95) rfl rfl)⟩
theorem iX11_isCut_7 : zB zX11_isCut 7 (.ifCond .eq) 10 34 := ⟨27, by decide +kernel, rfl, by decide⟩
theorem iX11_isCut_10 : zIl zX11_isCut 10 1 11 := Or.inl ⟨1, rfl, by decide +kernel, rfl⟩
theorem iX11_isCut_11 : zCo zX11_isCut 11 (1) 12 := Or.inl ⟨1, by decide, by decide +kernel, rfl⟩
theorem iX11_isCut_12 : zCo zX11_isCut 12 (99) 14 := Or.inr (Or.inl ⟨99, by decide, by decide +kernel, rfl⟩)
theorem iX11_isCut_14 : zCl zX11_isCut 14 .invokestatic zX11_in 17 := ⟨143, by decide +kernel, rfl, Or.inl (zT5_of (i := 95) rfl rfl)⟩
theorem iX11_isCut_17 : zB zX11_isCut 17 (.ifCond .eq) 20 34 := ⟨17, by decide +kernel, rfl, by decide⟩
theorem iX11_isCut_20 : zIl zX11_isCut 20 2 21 := Or.inl ⟨2, rfl, by decide +kernel, rfl⟩
theorem iX11_isCut_21 : zCo zX11_isCut 21 (1) 22 := Or.inl ⟨1, by decide, by decide +kernel, rfl⟩
theorem iX11_isCut_22 : zCo zX11_isCut 22 (20) 24 := Or.inr (Or.inl ⟨20, by decide, by decide +kernel, rfl⟩)
theorem iX11_isCut_24 : zCl zX11_isCut 24 .invokestatic zX11_in 27 := ⟨143, by decide +kernel, rfl, Or.inl (zT5_of (i := 95) rfl rfl)⟩
theorem iX11_isCut_27 : zB zX11_isCut 27 (.ifCond .eq) 30 34 := ⟨7, by decide +kernel, rfl, by decide⟩
theorem iX11_isCut_30 : zCo zX11_isCut 30 (1) 31 := Or.inl ⟨1, by decide, by decide +kernel, rfl⟩
theorem iX11_isCut_31 : zB zX11_isCut 31 .goto 34 35 := ⟨4, by decide +kernel, rfl, by decide⟩
theorem iX11_isCut_34 : zCo zX11_isCut 34 (0) 35 := Or.inl ⟨0, by decide, by decide +kernel, rfl⟩
theorem iX11_isCut_35 : zD zX11_isCut 35 1 (.ireturn) 36 := ⟨by decide +kernel, rfl⟩
theorem iX11_cut_0 : zAl zX11_cut 0 0 1 := Or.inl ⟨0, rfl, by decide +kernel, rfl⟩
theorem iX11_cut_1 : zIl zX11_cut 1 1 2 := Or.inl ⟨1, rfl, by decide +kernel, rfl⟩
theorem iX11_cut_2 : zCl zX11_cut 2 .invokevirtual zX11_isMachine 5 := ⟨339, by decide +kernel, rfl, Or.inl (zT6_of (i := 41) rfl rfl)⟩
theorem iX11_cut_5 : zB zX11_cut 5 (.ifCond .eq) 8 30 := ⟨25, by decide +kernel, rfl, by decide⟩
theorem iX11_cut_8 : zIl zX11_cut 8 2 9 := Or.inl ⟨2, rfl, by decide +kernel, rfl⟩
theorem iX11_cut_9 : zIl zX11_cut 9 3 10 := Or.inl ⟨3, rfl, by decide +kernel, rfl⟩
theorem iX11_cut_10 : zIl zX11_cut 10 4 12 := Or.inr ⟨by decide +kernel, rfl⟩
theorem iX11_cut_12 : zCl zX11_cut 12 .invokestatic zX11_isCut 15 := ⟨353, by decide +kernel, rfl, Or.inl (zT6_of (i := 65) rfl rfl)⟩
theorem iX11_cut_15 : zB zX11_cut 15 (.ifCond .eq) 18 30 := ⟨15, by decide +kernel, rfl, by decide⟩
theorem iX11_cut_18 : zAl zX11_cut 18 0 19 := Or.inl ⟨0, rfl, by decide +kernel, rfl⟩
theorem iX11_cut_19 : zIl zX11_cut 19 1 20 := Or.inl ⟨1, rfl, by decide +kernel, rfl⟩
theorem iX11_cut_20 : zIl zX11_cut 20 2 21 := Or.inl ⟨2, rfl, by decide +kernel, rfl⟩
theorem iX11_cut_21 : zIl zX11_cut 21 3 22 := Or.inl ⟨3, rfl, by decide +kernel, rfl⟩
theorem iX11_cut_22 : zIl zX11_cut 22 4 24 := Or.inr ⟨by decide +kernel, rfl⟩
theorem iX11_cut_24 : zCl zX11_cut 24 .invokevirtual zX11_cutBy 27 := ⟨356, by decide +kernel, rfl, Or.inl (zT6_of (i := 68) rfl rfl)⟩
theorem iX11_cut_27 : zB zX11_cut 27 .goto 30 32 := ⟨5, by decide +kernel, rfl, by decide⟩
theorem iX11_cut_30 : zCo zX11_cut 30 (-2) 32 := Or.inr (Or.inl ⟨-2, by decide, by decide +kernel, rfl⟩)
theorem iX11_cut_32 : zD zX11_cut 32 1 (.ireturn) 33 := ⟨by decide +kernel, rfl⟩
theorem iX11_bits_0 : zCo zX11_bits 0 (0) 1 := Or.inl ⟨0, by decide, by decide +kernel, rfl⟩
theorem iX11_bits_1 : zIs zX11_bits 1 1 2 := ⟨by decide, Or.inl ⟨1, rfl, by decide +kernel, rfl⟩⟩
theorem iX11_bits_2 : zIl zX11_bits 2 0 3 := Or.inl ⟨0, rfl, by decide +kernel, rfl⟩
theorem iX11_bits_3 : zIs zX11_bits 3 2 4 := ⟨by decide, Or.inl ⟨2, rfl, by decide +kernel, rfl⟩⟩
theorem iX11_bits_4 : zIl zX11_bits 4 2 5 := Or.inl ⟨2, rfl, by decide +kernel, rfl⟩
theorem iX11_bits_5 : zB zX11_bits 5 (.ifCond .eq) 8 20 := ⟨15, by decide +kernel, rfl, by decide⟩
theorem iX11_bits_8 : zIn zX11_bits 8 1 (1) 11 := ⟨by decide, 1, by decide, by decide +kernel, rfl⟩
theorem iX11_bits_11 : zIl zX11_bits 11 2 12 := Or.inl ⟨2, rfl, by decide +kernel, rfl⟩
theorem iX11_bits_12 : zIl zX11_bits 12 2 13 := Or.inl ⟨2, rfl, by decide +kernel, rfl⟩
theorem iX11_bits_13 : zCo zX11_bits 13 (1) 14 := Or.inl ⟨1, by decide, by decide +kernel, rfl⟩
theorem iX11_bits_14 : zD zX11_bits 14 1 (.isub) 15 := ⟨by decide +kernel, rfl⟩
theorem iX11_bits_15 : zD zX11_bits 15 1 (.iand) 16 := ⟨by decide +kernel, rfl⟩
theorem iX11_bits_16 : zIs zX11_bits 16 2 17 := ⟨by decide, Or.inl ⟨2, rfl, by decide +kernel, rfl⟩⟩
theorem iX11_bits_17 : zB zX11_bits 17 .goto 20 4 := ⟨-13, by decide +kernel, rfl, by decide⟩
theorem iX11_bits_20 : zIl zX11_bits 20 1 21 := Or.inl ⟨1, rfl, by decide +kernel, rfl⟩
theorem iX11_bits_21 : zD zX11_bits 21 1 (.ireturn) 22 := ⟨by decide +kernel, rfl⟩
theorem iX11_job_0 : zIl zX11_job 0 1 1 := Or.inl ⟨1, rfl, by decide +kernel, rfl⟩
theorem iX11_job_1 : zCo zX11_job 1 (1) 2 := Or.inl ⟨1, by decide, by decide +kernel, rfl⟩
theorem iX11_job_2 : zCo zX11_job 2 (1023) 5 := Or.inr (Or.inr (Or.inl ⟨1023, by decide, by decide +kernel, rfl⟩))
theorem iX11_job_5 : zCl zX11_job 5 .invokestatic zX11_in 8 := ⟨143, by decide +kernel, rfl, Or.inl (zT5_of (i := 95) rfl rfl)⟩
theorem iX11_job_8 : zB zX11_job 8 (.ifCond .eq) 11 19 := ⟨11, by decide +kernel, rfl, by decide⟩
theorem iX11_job_11 : zIl zX11_job 11 1 12 := Or.inl ⟨1, rfl, by decide +kernel, rfl⟩
theorem iX11_job_12 : zCl zX11_job 12 .invokestatic zX11_bits 15 := ⟨360, by decide +kernel, rfl, Or.inl (zT6_of (i := 84) rfl rfl)⟩
theorem iX11_job_15 : zCo zX11_job 15 (5) 16 := Or.inl ⟨5, by decide, by decide +kernel, rfl⟩
theorem iX11_job_16 : zB zX11_job 16 (.if_icmp .le) 19 22 := ⟨6, by decide +kernel, rfl, by decide⟩
theorem iX11_job_19 : zCo zX11_job 19 (-2) 21 := Or.inr (Or.inl ⟨-2, by decide, by decide +kernel, rfl⟩)
theorem iX11_job_21 : zD zX11_job 21 1 (.ireturn) 22 := ⟨by decide +kernel, rfl⟩
theorem iX11_job_22 : zAl zX11_job 22 0 23 := Or.inl ⟨0, rfl, by decide +kernel, rfl⟩
theorem iX11_job_23 : zGf zX11_job 23 11 51 26 := ⟨363, _, _, _, zcf_11, by decide, by decide +kernel, rfl, zT4_of (i := 202) rfl rfl⟩
theorem iX11_job_26 : zCo zX11_job 26 (6) 28 := Or.inr (Or.inl ⟨6, by decide, by decide +kernel, rfl⟩)
theorem iX11_job_28 : zB zX11_job 28 (.if_icmp .ne) 31 34 := ⟨6, by decide +kernel, rfl, by decide⟩
theorem iX11_job_31 : zCo zX11_job 31 (-4) 33 := Or.inr (Or.inl ⟨-4, by decide, by decide +kernel, rfl⟩)
theorem iX11_job_33 : zD zX11_job 33 1 (.ireturn) 34 := ⟨by decide +kernel, rfl⟩
theorem iX11_job_34 : zAl zX11_job 34 0 35 := Or.inl ⟨0, rfl, by decide +kernel, rfl⟩
theorem iX11_job_35 : zGf zX11_job 35 11 52 38 := ⟨93, _, _, _, zcf_11, by decide, by decide +kernel, rfl, zT4_of (i := 203) rfl rfl⟩
theorem iX11_job_38 : zAl zX11_job 38 0 39 := Or.inl ⟨0, rfl, by decide +kernel, rfl⟩
theorem iX11_job_39 : zGf zX11_job 39 11 51 42 := ⟨363, _, _, _, zcf_11, by decide, by decide +kernel, rfl, zT4_of (i := 202) rfl rfl⟩
theorem iX11_job_42 : zIl zX11_job 42 1 43 := Or.inl ⟨1, rfl, by decide +kernel, rfl⟩
theorem iX11_job_43 : zD zX11_job 43 1 (.iastore) 44 := ⟨by decide +kernel, rfl⟩
theorem iX11_job_44 : zAl zX11_job 44 0 45 := Or.inl ⟨0, rfl, by decide +kernel, rfl⟩
theorem iX11_job_45 : zD zX11_job 45 1 (.dup) 46 := ⟨by decide +kernel, rfl⟩
theorem iX11_job_46 : zGf zX11_job 46 11 51 49 := ⟨363, _, _, _, zcf_11, by decide, by decide +kernel, rfl, zT4_of (i := 202) rfl rfl⟩
theorem iX11_job_49 : zCo zX11_job 49 (1) 50 := Or.inl ⟨1, by decide, by decide +kernel, rfl⟩
theorem iX11_job_50 : zD zX11_job 50 1 (.iadd) 51 := ⟨by decide +kernel, rfl⟩
theorem iX11_job_51 : zPf zX11_job 51 11 51 .int 54 := ⟨363, _, _, _, zcf_11, by decide, by decide +kernel, rfl, zT4_of (i := 202) rfl rfl, by decide +kernel, Or.inl rfl⟩
theorem iX11_job_54 : zAl zX11_job 54 0 55 := Or.inl ⟨0, rfl, by decide +kernel, rfl⟩
theorem iX11_job_55 : zGf zX11_job 55 11 51 58 := ⟨363, _, _, _, zcf_11, by decide, by decide +kernel, rfl, zT4_of (i := 202) rfl rfl⟩
theorem iX11_job_58 : zCo zX11_job 58 (1) 59 := Or.inl ⟨1, by decide, by decide +kernel, rfl⟩
theorem iX11_job_59 : zD zX11_job 59 1 (.isub) 60 := ⟨by decide +kernel, rfl⟩
theorem iX11_job_60 : zD zX11_job 60 1 (.ireturn) 61 := ⟨by decide +kernel, rfl⟩
theorem iX11_isRoom_0 : zCo zX11_isRoom 0 (0) 1 := Or.inl ⟨0, by decide, by decide +kernel, rfl⟩
theorem iX11_isRoom_1 : zIs zX11_isRoom 1 2 2 := ⟨by decide, Or.inl ⟨2, rfl, by decide +kernel, rfl⟩⟩
theorem iX11_isRoom_2 : zIl zX11_isRoom 2 2 3 := Or.inl ⟨2, rfl, by decide +kernel, rfl⟩
theorem iX11_isRoom_3 : zAl zX11_isRoom 3 0 4 := Or.inl ⟨0, rfl, by decide +kernel, rfl⟩
theorem iX11_isRoom_4 : zGf zX11_isRoom 4 11 51 7 := ⟨363, _, _, _, zcf_11, by decide, by decide +kernel, rfl, zT4_of (i := 202) rfl rfl⟩
theorem iX11_isRoom_7 : zB zX11_isRoom 7 (.if_icmp .ge) 10 31 := ⟨24, by decide +kernel, rfl, by decide⟩
theorem iX11_isRoom_10 : zAl zX11_isRoom 10 0 11 := Or.inl ⟨0, rfl, by decide +kernel, rfl⟩
theorem iX11_isRoom_11 : zGf zX11_isRoom 11 11 52 14 := ⟨93, _, _, _, zcf_11, by decide, by decide +kernel, rfl, zT4_of (i := 203) rfl rfl⟩
theorem iX11_isRoom_14 : zIl zX11_isRoom 14 2 15 := Or.inl ⟨2, rfl, by decide +kernel, rfl⟩
theorem iX11_isRoom_15 : zD zX11_isRoom 15 1 (.iaload) 16 := ⟨by decide +kernel, rfl⟩
theorem iX11_isRoom_16 : zCl zX11_isRoom 16 .invokestatic zX11_bits 19 := ⟨360, by decide +kernel, rfl, Or.inl (zT6_of (i := 84) rfl rfl)⟩
theorem iX11_isRoom_19 : zIl zX11_isRoom 19 1 20 := Or.inl ⟨1, rfl, by decide +kernel, rfl⟩
theorem iX11_isRoom_20 : zB zX11_isRoom 20 (.if_icmp .le) 23 25 := ⟨5, by decide +kernel, rfl, by decide⟩
theorem iX11_isRoom_23 : zCo zX11_isRoom 23 (0) 24 := Or.inl ⟨0, by decide, by decide +kernel, rfl⟩
theorem iX11_isRoom_24 : zD zX11_isRoom 24 1 (.ireturn) 25 := ⟨by decide +kernel, rfl⟩
theorem iX11_isRoom_25 : zIn zX11_isRoom 25 2 (1) 28 := ⟨by decide, 1, by decide, by decide +kernel, rfl⟩
theorem iX11_isRoom_28 : zB zX11_isRoom 28 .goto 31 2 := ⟨-26, by decide +kernel, rfl, by decide⟩
theorem iX11_isRoom_31 : zCo zX11_isRoom 31 (1) 32 := Or.inl ⟨1, by decide, by decide +kernel, rfl⟩
theorem iX11_isRoom_32 : zD zX11_isRoom 32 1 (.ireturn) 33 := ⟨by decide +kernel, rfl⟩
theorem iX11_nextOf_0 : zIl zX11_nextOf 0 2 1 := Or.inl ⟨2, rfl, by decide +kernel, rfl⟩
theorem iX11_nextOf_1 : zCo zX11_nextOf 1 (1) 2 := Or.inl ⟨1, by decide, by decide +kernel, rfl⟩
theorem iX11_nextOf_2 : zD zX11_nextOf 2 1 (.iadd) 3 := ⟨by decide +kernel, rfl⟩
theorem iX11_nextOf_3 : zIs zX11_nextOf 3 3 4 := ⟨by decide, Or.inl ⟨3, rfl, by decide +kernel, rfl⟩⟩
theorem iX11_nextOf_4 : zIl zX11_nextOf 4 3 5 := Or.inl ⟨3, rfl, by decide +kernel, rfl⟩
theorem iX11_nextOf_5 : zAl zX11_nextOf 5 0 6 := Or.inl ⟨0, rfl, by decide +kernel, rfl⟩
theorem iX11_nextOf_6 : zGf zX11_nextOf 6 11 51 9 := ⟨363, _, _, _, zcf_11, by decide, by decide +kernel, rfl, zT4_of (i := 202) rfl rfl⟩
theorem iX11_nextOf_9 : zB zX11_nextOf 9 (.if_icmp .ge) 12 36 := ⟨27, by decide +kernel, rfl, by decide⟩
theorem iX11_nextOf_12 : zAl zX11_nextOf 12 0 13 := Or.inl ⟨0, rfl, by decide +kernel, rfl⟩
theorem iX11_nextOf_13 : zGf zX11_nextOf 13 11 52 16 := ⟨93, _, _, _, zcf_11, by decide, by decide +kernel, rfl, zT4_of (i := 203) rfl rfl⟩
theorem iX11_nextOf_16 : zAl zX11_nextOf 16 0 17 := Or.inl ⟨0, rfl, by decide +kernel, rfl⟩
theorem iX11_nextOf_17 : zGf zX11_nextOf 17 11 53 20 := ⟨96, _, _, _, zcf_11, by decide, by decide +kernel, rfl, zT4_of (i := 204) rfl rfl⟩
theorem iX11_nextOf_20 : zIl zX11_nextOf 20 3 21 := Or.inl ⟨3, rfl, by decide +kernel, rfl⟩
theorem iX11_nextOf_21 : zD zX11_nextOf 21 1 (.iaload) 22 := ⟨by decide +kernel, rfl⟩
theorem iX11_nextOf_22 : zD zX11_nextOf 22 1 (.iaload) 23 := ⟨by decide +kernel, rfl⟩
theorem iX11_nextOf_23 : zIl zX11_nextOf 23 1 24 := Or.inl ⟨1, rfl, by decide +kernel, rfl⟩
theorem iX11_nextOf_24 : zD zX11_nextOf 24 1 (.ishr) 25 := ⟨by decide +kernel, rfl⟩
theorem iX11_nextOf_25 : zCo zX11_nextOf 25 (1) 26 := Or.inl ⟨1, by decide, by decide +kernel, rfl⟩
theorem iX11_nextOf_26 : zD zX11_nextOf 26 1 (.iand) 27 := ⟨by decide +kernel, rfl⟩
theorem iX11_nextOf_27 : zB zX11_nextOf 27 (.ifCond .ne) 30 36 := ⟨9, by decide +kernel, rfl, by decide⟩
theorem iX11_nextOf_30 : zIn zX11_nextOf 30 3 (1) 33 := ⟨by decide, 1, by decide, by decide +kernel, rfl⟩
theorem iX11_nextOf_33 : zB zX11_nextOf 33 .goto 36 4 := ⟨-29, by decide +kernel, rfl, by decide⟩
theorem iX11_nextOf_36 : zIl zX11_nextOf 36 3 37 := Or.inl ⟨3, rfl, by decide +kernel, rfl⟩
theorem iX11_nextOf_37 : zD zX11_nextOf 37 1 (.ireturn) 38 := ⟨by decide +kernel, rfl⟩
theorem iX11_changesOf_0 : zCo zX11_changesOf 0 (0) 1 := Or.inl ⟨0, by decide, by decide +kernel, rfl⟩
theorem iX11_changesOf_1 : zIs zX11_changesOf 1 2 2 := ⟨by decide, Or.inl ⟨2, rfl, by decide +kernel, rfl⟩⟩
theorem iX11_changesOf_2 : zCo zX11_changesOf 2 (0) 3 := Or.inl ⟨0, by decide, by decide +kernel, rfl⟩
theorem iX11_changesOf_3 : zIs zX11_changesOf 3 3 4 := ⟨by decide, Or.inl ⟨3, rfl, by decide +kernel, rfl⟩⟩
theorem iX11_changesOf_4 : zCo zX11_changesOf 4 (0) 5 := Or.inl ⟨0, by decide, by decide +kernel, rfl⟩
theorem iX11_changesOf_5 : zIs zX11_changesOf 5 4 7 := ⟨by decide, Or.inr ⟨by decide +kernel, rfl⟩⟩
theorem iX11_changesOf_7 : zIl zX11_changesOf 7 4 9 := Or.inr ⟨by decide +kernel, rfl⟩
theorem iX11_changesOf_9 : zAl zX11_changesOf 9 0 10 := Or.inl ⟨0, rfl, by decide +kernel, rfl⟩
theorem iX11_changesOf_10 : zGf zX11_changesOf 10 11 51 13 := ⟨363, _, _, _, zcf_11, by decide, by decide +kernel, rfl, zT4_of (i := 202) rfl rfl⟩
theorem iX11_changesOf_13 : zB zX11_changesOf 13 (.if_icmp .ge) 16 170 := ⟨157, by decide +kernel, rfl, by decide⟩
theorem iX11_changesOf_16 : zAl zX11_changesOf 16 0 17 := Or.inl ⟨0, rfl, by decide +kernel, rfl⟩
theorem iX11_changesOf_17 : zGf zX11_changesOf 17 11 52 20 := ⟨93, _, _, _, zcf_11, by decide, by decide +kernel, rfl, zT4_of (i := 203) rfl rfl⟩
theorem iX11_changesOf_20 : zAl zX11_changesOf 20 0 21 := Or.inl ⟨0, rfl, by decide +kernel, rfl⟩
theorem iX11_changesOf_21 : zGf zX11_changesOf 21 11 53 24 := ⟨96, _, _, _, zcf_11, by decide, by decide +kernel, rfl, zT4_of (i := 204) rfl rfl⟩
theorem iX11_changesOf_24 : zIl zX11_changesOf 24 4 26 := Or.inr ⟨by decide +kernel, rfl⟩
theorem iX11_changesOf_26 : zD zX11_changesOf 26 1 (.iaload) 27 := ⟨by decide +kernel, rfl⟩
theorem iX11_changesOf_27 : zD zX11_changesOf 27 1 (.iaload) 28 := ⟨by decide +kernel, rfl⟩
theorem iX11_changesOf_28 : zIs zX11_changesOf 28 5 30 := ⟨by decide, Or.inr ⟨by decide +kernel, rfl⟩⟩
theorem iX11_changesOf_30 : zCo zX11_changesOf 30 (0) 31 := Or.inl ⟨0, by decide, by decide +kernel, rfl⟩
theorem iX11_changesOf_31 : zIs zX11_changesOf 31 6 33 := ⟨by decide, Or.inr ⟨by decide +kernel, rfl⟩⟩
theorem iX11_changesOf_33 : zIl zX11_changesOf 33 6 35 := Or.inr ⟨by decide +kernel, rfl⟩
theorem iX11_changesOf_35 : zCo zX11_changesOf 35 (10) 37 := Or.inr (Or.inl ⟨10, by decide, by decide +kernel, rfl⟩)
theorem iX11_changesOf_37 : zB zX11_changesOf 37 (.if_icmp .ge) 40 164 := ⟨127, by decide +kernel, rfl, by decide⟩
theorem iX11_changesOf_40 : zIl zX11_changesOf 40 5 42 := Or.inr ⟨by decide +kernel, rfl⟩
theorem iX11_changesOf_42 : zIl zX11_changesOf 42 6 44 := Or.inr ⟨by decide +kernel, rfl⟩
theorem iX11_changesOf_44 : zD zX11_changesOf 44 1 (.ishr) 45 := ⟨by decide +kernel, rfl⟩
theorem iX11_changesOf_45 : zCo zX11_changesOf 45 (1) 46 := Or.inl ⟨1, by decide, by decide +kernel, rfl⟩
theorem iX11_changesOf_46 : zD zX11_changesOf 46 1 (.iand) 47 := ⟨by decide +kernel, rfl⟩
theorem iX11_changesOf_47 : zB zX11_changesOf 47 (.ifCond .eq) 50 158 := ⟨111, by decide +kernel, rfl, by decide⟩
theorem iX11_changesOf_50 : zIl zX11_changesOf 50 2 51 := Or.inl ⟨2, rfl, by decide +kernel, rfl⟩
theorem iX11_changesOf_51 : zIl zX11_changesOf 51 6 53 := Or.inr ⟨by decide +kernel, rfl⟩
theorem iX11_changesOf_53 : zD zX11_changesOf 53 1 (.ishr) 54 := ⟨by decide +kernel, rfl⟩
theorem iX11_changesOf_54 : zCo zX11_changesOf 54 (1) 55 := Or.inl ⟨1, by decide, by decide +kernel, rfl⟩
theorem iX11_changesOf_55 : zD zX11_changesOf 55 1 (.iand) 56 := ⟨by decide +kernel, rfl⟩
theorem iX11_changesOf_56 : zCo zX11_changesOf 56 (1) 57 := Or.inl ⟨1, by decide, by decide +kernel, rfl⟩
theorem iX11_changesOf_57 : zB zX11_changesOf 57 (.if_icmp .ne) 60 63 := ⟨6, by decide +kernel, rfl, by decide⟩
theorem iX11_changesOf_60 : zB zX11_changesOf 60 .goto 63 158 := ⟨98, by decide +kernel, rfl, by decide⟩
theorem iX11_changesOf_63 : zIl zX11_changesOf 63 2 64 := Or.inl ⟨2, rfl, by decide +kernel, rfl⟩
theorem iX11_changesOf_64 : zCl zX11_changesOf 64 .invokestatic zX11_bits 67 := ⟨360, by decide +kernel, rfl, Or.inl (zT6_of (i := 84) rfl rfl)⟩
theorem iX11_changesOf_67 : zIl zX11_changesOf 67 1 68 := Or.inl ⟨1, rfl, by decide +kernel, rfl⟩
theorem iX11_changesOf_68 : zB zX11_changesOf 68 (.if_icmp .ne) 71 148 := ⟨80, by decide +kernel, rfl, by decide⟩
theorem iX11_changesOf_71 : zCo zX11_changesOf 71 (-1) 72 := Or.inl ⟨-1, by decide, by decide +kernel, rfl⟩
theorem iX11_changesOf_72 : zIs zX11_changesOf 72 7 74 := ⟨by decide, Or.inr ⟨by decide +kernel, rfl⟩⟩
theorem iX11_changesOf_74 : zCo zX11_changesOf 74 (0) 75 := Or.inl ⟨0, by decide, by decide +kernel, rfl⟩
theorem iX11_changesOf_75 : zIs zX11_changesOf 75 8 77 := ⟨by decide, Or.inr ⟨by decide +kernel, rfl⟩⟩
theorem iX11_changesOf_77 : zIl zX11_changesOf 77 8 79 := Or.inr ⟨by decide +kernel, rfl⟩
theorem iX11_changesOf_79 : zCo zX11_changesOf 79 (10) 81 := Or.inr (Or.inl ⟨10, by decide, by decide +kernel, rfl⟩)
theorem iX11_changesOf_81 : zB zX11_changesOf 81 (.if_icmp .ge) 84 139 := ⟨58, by decide +kernel, rfl, by decide⟩
theorem iX11_changesOf_84 : zIl zX11_changesOf 84 2 85 := Or.inl ⟨2, rfl, by decide +kernel, rfl⟩
theorem iX11_changesOf_85 : zIl zX11_changesOf 85 8 87 := Or.inr ⟨by decide +kernel, rfl⟩
theorem iX11_changesOf_87 : zD zX11_changesOf 87 1 (.ishr) 88 := ⟨by decide +kernel, rfl⟩
theorem iX11_changesOf_88 : zCo zX11_changesOf 88 (1) 89 := Or.inl ⟨1, by decide, by decide +kernel, rfl⟩
theorem iX11_changesOf_89 : zD zX11_changesOf 89 1 (.iand) 90 := ⟨by decide +kernel, rfl⟩
theorem iX11_changesOf_90 : zCo zX11_changesOf 90 (1) 91 := Or.inl ⟨1, by decide, by decide +kernel, rfl⟩
theorem iX11_changesOf_91 : zB zX11_changesOf 91 (.if_icmp .ne) 94 133 := ⟨42, by decide +kernel, rfl, by decide⟩
theorem iX11_changesOf_94 : zIl zX11_changesOf 94 5 96 := Or.inr ⟨by decide +kernel, rfl⟩
theorem iX11_changesOf_96 : zIl zX11_changesOf 96 8 98 := Or.inr ⟨by decide +kernel, rfl⟩
theorem iX11_changesOf_98 : zD zX11_changesOf 98 1 (.ishr) 99 := ⟨by decide +kernel, rfl⟩
theorem iX11_changesOf_99 : zCo zX11_changesOf 99 (1) 100 := Or.inl ⟨1, by decide, by decide +kernel, rfl⟩
theorem iX11_changesOf_100 : zD zX11_changesOf 100 1 (.iand) 101 := ⟨by decide +kernel, rfl⟩
theorem iX11_changesOf_101 : zB zX11_changesOf 101 (.ifCond .ne) 104 133 := ⟨32, by decide +kernel, rfl, by decide⟩
theorem iX11_changesOf_104 : zIl zX11_changesOf 104 7 106 := Or.inr ⟨by decide +kernel, rfl⟩
theorem iX11_changesOf_106 : zCo zX11_changesOf 106 (-1) 107 := Or.inl ⟨-1, by decide, by decide +kernel, rfl⟩
theorem iX11_changesOf_107 : zB zX11_changesOf 107 (.if_icmp .eq) 110 129 := ⟨22, by decide +kernel, rfl, by decide⟩
theorem iX11_changesOf_110 : zAl zX11_changesOf 110 0 111 := Or.inl ⟨0, rfl, by decide +kernel, rfl⟩
theorem iX11_changesOf_111 : zIl zX11_changesOf 111 8 113 := Or.inr ⟨by decide +kernel, rfl⟩
theorem iX11_changesOf_113 : zIl zX11_changesOf 113 4 115 := Or.inr ⟨by decide +kernel, rfl⟩
theorem iX11_changesOf_115 : zCl zX11_changesOf 115 .invokevirtual zX11_nextOf 118 := ⟨366, by decide +kernel, rfl, Or.inl (zT6_of (i := 100) rfl rfl)⟩
theorem iX11_changesOf_118 : zAl zX11_changesOf 118 0 119 := Or.inl ⟨0, rfl, by decide +kernel, rfl⟩
theorem iX11_changesOf_119 : zIl zX11_changesOf 119 7 121 := Or.inr ⟨by decide +kernel, rfl⟩
theorem iX11_changesOf_121 : zIl zX11_changesOf 121 4 123 := Or.inr ⟨by decide +kernel, rfl⟩
theorem iX11_changesOf_123 : zCl zX11_changesOf 123 .invokevirtual zX11_nextOf 126 := ⟨366, by decide +kernel, rfl, Or.inl (zT6_of (i := 100) rfl rfl)⟩
theorem iX11_changesOf_126 : zB zX11_changesOf 126 (.if_icmp .lt) 129 133 := ⟨7, by decide +kernel, rfl, by decide⟩
theorem iX11_changesOf_129 : zIl zX11_changesOf 129 8 131 := Or.inr ⟨by decide +kernel, rfl⟩
theorem iX11_changesOf_131 : zIs zX11_changesOf 131 7 133 := ⟨by decide, Or.inr ⟨by decide +kernel, rfl⟩⟩
theorem iX11_changesOf_133 : zIn zX11_changesOf 133 8 (1) 136 := ⟨by decide, 1, by decide, by decide +kernel, rfl⟩
theorem iX11_changesOf_136 : zB zX11_changesOf 136 .goto 139 77 := ⟨-59, by decide +kernel, rfl, by decide⟩
theorem iX11_changesOf_139 : zIl zX11_changesOf 139 2 140 := Or.inl ⟨2, rfl, by decide +kernel, rfl⟩
theorem iX11_changesOf_140 : zCo zX11_changesOf 140 (1) 141 := Or.inl ⟨1, by decide, by decide +kernel, rfl⟩
theorem iX11_changesOf_141 : zIl zX11_changesOf 141 7 143 := Or.inr ⟨by decide +kernel, rfl⟩
theorem iX11_changesOf_143 : zD zX11_changesOf 143 1 (.ishl) 144 := ⟨by decide +kernel, rfl⟩
theorem iX11_changesOf_144 : zCo zX11_changesOf 144 (-1) 145 := Or.inl ⟨-1, by decide, by decide +kernel, rfl⟩
theorem iX11_changesOf_145 : zD zX11_changesOf 145 1 (.ixor) 146 := ⟨by decide +kernel, rfl⟩
theorem iX11_changesOf_146 : zD zX11_changesOf 146 1 (.iand) 147 := ⟨by decide +kernel, rfl⟩
theorem iX11_changesOf_147 : zIs zX11_changesOf 147 2 148 := ⟨by decide, Or.inl ⟨2, rfl, by decide +kernel, rfl⟩⟩
theorem iX11_changesOf_148 : zIl zX11_changesOf 148 2 149 := Or.inl ⟨2, rfl, by decide +kernel, rfl⟩
theorem iX11_changesOf_149 : zCo zX11_changesOf 149 (1) 150 := Or.inl ⟨1, by decide, by decide +kernel, rfl⟩
theorem iX11_changesOf_150 : zIl zX11_changesOf 150 6 152 := Or.inr ⟨by decide +kernel, rfl⟩
theorem iX11_changesOf_152 : zD zX11_changesOf 152 1 (.ishl) 153 := ⟨by decide +kernel, rfl⟩
theorem iX11_changesOf_153 : zD zX11_changesOf 153 1 (.ior) 154 := ⟨by decide +kernel, rfl⟩
theorem iX11_changesOf_154 : zIs zX11_changesOf 154 2 155 := ⟨by decide, Or.inl ⟨2, rfl, by decide +kernel, rfl⟩⟩
theorem iX11_changesOf_155 : zIn zX11_changesOf 155 3 (1) 158 := ⟨by decide, 1, by decide, by decide +kernel, rfl⟩
theorem iX11_changesOf_158 : zIn zX11_changesOf 158 6 (1) 161 := ⟨by decide, 1, by decide, by decide +kernel, rfl⟩
theorem iX11_changesOf_161 : zB zX11_changesOf 161 .goto 164 33 := ⟨-128, by decide +kernel, rfl, by decide⟩
theorem iX11_changesOf_164 : zIn zX11_changesOf 164 4 (1) 167 := ⟨by decide, 1, by decide, by decide +kernel, rfl⟩
theorem iX11_changesOf_167 : zB zX11_changesOf 167 .goto 170 7 := ⟨-160, by decide +kernel, rfl, by decide⟩
theorem iX11_changesOf_170 : zIl zX11_changesOf 170 3 171 := Or.inl ⟨3, rfl, by decide +kernel, rfl⟩
theorem iX11_changesOf_171 : zD zX11_changesOf 171 1 (.ireturn) 172 := ⟨by decide +kernel, rfl⟩
theorem iX11_changes_0 : zIl zX11_changes 0 3 1 := Or.inl ⟨3, rfl, by decide +kernel, rfl⟩
theorem iX11_changes_1 : zCo zX11_changes 1 (1) 2 := Or.inl ⟨1, by decide, by decide +kernel, rfl⟩
theorem iX11_changes_2 : zCo zX11_changes 2 (9) 4 := Or.inr (Or.inl ⟨9, by decide, by decide +kernel, rfl⟩)
theorem iX11_changes_4 : zCl zX11_changes 4 .invokestatic zX11_in 7 := ⟨143, by decide +kernel, rfl, Or.inl (zT5_of (i := 95) rfl rfl)⟩
theorem iX11_changes_7 : zB zX11_changes 7 (.ifCond .eq) 10 16 := ⟨9, by decide +kernel, rfl, by decide⟩
theorem iX11_changes_10 : zLl zX11_changes 10 1 11 := Or.inl ⟨1, rfl, by decide +kernel, rfl⟩
theorem iX11_changes_11 : zCL zX11_changes 11 0 12 := Or.inl ⟨0, by decide, by decide +kernel, rfl⟩
theorem iX11_changes_12 : zD zX11_changes 12 1 (.lcmp) 13 := ⟨by decide +kernel, rfl⟩
theorem iX11_changes_13 : zB zX11_changes 13 (.ifCond .ge) 16 19 := ⟨6, by decide +kernel, rfl, by decide⟩
theorem iX11_changes_16 : zCo zX11_changes 16 (-2) 18 := Or.inr (Or.inl ⟨-2, by decide, by decide +kernel, rfl⟩)
theorem iX11_changes_18 : zD zX11_changes 18 1 (.ireturn) 19 := ⟨by decide +kernel, rfl⟩
theorem iX11_changes_19 : zLl zX11_changes 19 1 20 := Or.inl ⟨1, rfl, by decide +kernel, rfl⟩
theorem iX11_changes_20 : zLS zX11_changes 20 4 22 := ⟨by decide, Or.inr ⟨by decide +kernel, rfl⟩⟩
theorem iX11_changes_22 : zCo zX11_changes 22 (0) 23 := Or.inl ⟨0, by decide, by decide +kernel, rfl⟩
theorem iX11_changes_23 : zIs zX11_changes 23 6 25 := ⟨by decide, Or.inr ⟨by decide +kernel, rfl⟩⟩
theorem iX11_changes_25 : zCo zX11_changes 25 (0) 26 := Or.inl ⟨0, by decide, by decide +kernel, rfl⟩
theorem iX11_changes_26 : zIs zX11_changes 26 7 28 := ⟨by decide, Or.inr ⟨by decide +kernel, rfl⟩⟩
theorem iX11_changes_28 : zIl zX11_changes 28 7 30 := Or.inr ⟨by decide +kernel, rfl⟩
theorem iX11_changes_30 : zAl zX11_changes 30 0 31 := Or.inl ⟨0, rfl, by decide +kernel, rfl⟩
theorem iX11_changes_31 : zGf zX11_changes 31 11 51 34 := ⟨363, _, _, _, zcf_11, by decide, by decide +kernel, rfl, zT4_of (i := 202) rfl rfl⟩
theorem iX11_changes_34 : zB zX11_changes 34 (.if_icmp .ge) 37 96 := ⟨62, by decide +kernel, rfl, by decide⟩
theorem iX11_changes_37 : zAl zX11_changes 37 0 38 := Or.inl ⟨0, rfl, by decide +kernel, rfl⟩
theorem iX11_changes_38 : zGf zX11_changes 38 11 53 41 := ⟨96, _, _, _, zcf_11, by decide, by decide +kernel, rfl, zT4_of (i := 204) rfl rfl⟩
theorem iX11_changes_41 : zIl zX11_changes 41 7 43 := Or.inr ⟨by decide +kernel, rfl⟩
theorem iX11_changes_43 : zLl zX11_changes 43 4 45 := Or.inr ⟨by decide +kernel, rfl⟩
theorem iX11_changes_45 : zCL zX11_changes 45 (6) 48 := Or.inr ⟨369, zT6_of (i := 91) rfl rfl, by decide +kernel, rfl⟩
theorem iX11_changes_48 : zD zX11_changes 48 1 (.lrem) 49 := ⟨by decide +kernel, rfl⟩
theorem iX11_changes_49 : zD zX11_changes 49 1 (.l2i) 50 := ⟨by decide +kernel, rfl⟩
theorem iX11_changes_50 : zD zX11_changes 50 1 (.iastore) 51 := ⟨by decide +kernel, rfl⟩
theorem iX11_changes_51 : zLl zX11_changes 51 4 53 := Or.inr ⟨by decide +kernel, rfl⟩
theorem iX11_changes_53 : zCL zX11_changes 53 (6) 56 := Or.inr ⟨369, zT6_of (i := 91) rfl rfl, by decide +kernel, rfl⟩
theorem iX11_changes_56 : zD zX11_changes 56 1 (.ldiv) 57 := ⟨by decide +kernel, rfl⟩
theorem iX11_changes_57 : zLS zX11_changes 57 4 59 := ⟨by decide, Or.inr ⟨by decide +kernel, rfl⟩⟩
theorem iX11_changes_59 : zAl zX11_changes 59 0 60 := Or.inl ⟨0, rfl, by decide +kernel, rfl⟩
theorem iX11_changes_60 : zGf zX11_changes 60 11 53 63 := ⟨96, _, _, _, zcf_11, by decide, by decide +kernel, rfl, zT4_of (i := 204) rfl rfl⟩
theorem iX11_changes_63 : zIl zX11_changes 63 7 65 := Or.inr ⟨by decide +kernel, rfl⟩
theorem iX11_changes_65 : zD zX11_changes 65 1 (.iaload) 66 := ⟨by decide +kernel, rfl⟩
theorem iX11_changes_66 : zAl zX11_changes 66 0 67 := Or.inl ⟨0, rfl, by decide +kernel, rfl⟩
theorem iX11_changes_67 : zGf zX11_changes 67 11 51 70 := ⟨363, _, _, _, zcf_11, by decide, by decide +kernel, rfl, zT4_of (i := 202) rfl rfl⟩
theorem iX11_changes_70 : zB zX11_changes 70 (.if_icmp .lt) 73 76 := ⟨6, by decide +kernel, rfl, by decide⟩
theorem iX11_changes_73 : zCo zX11_changes 73 (-2) 75 := Or.inr (Or.inl ⟨-2, by decide, by decide +kernel, rfl⟩)
theorem iX11_changes_75 : zD zX11_changes 75 1 (.ireturn) 76 := ⟨by decide +kernel, rfl⟩
theorem iX11_changes_76 : zIl zX11_changes 76 6 78 := Or.inr ⟨by decide +kernel, rfl⟩
theorem iX11_changes_78 : zCo zX11_changes 78 (1) 79 := Or.inl ⟨1, by decide, by decide +kernel, rfl⟩
theorem iX11_changes_79 : zAl zX11_changes 79 0 80 := Or.inl ⟨0, rfl, by decide +kernel, rfl⟩
theorem iX11_changes_80 : zGf zX11_changes 80 11 53 83 := ⟨96, _, _, _, zcf_11, by decide, by decide +kernel, rfl, zT4_of (i := 204) rfl rfl⟩
theorem iX11_changes_83 : zIl zX11_changes 83 7 85 := Or.inr ⟨by decide +kernel, rfl⟩
theorem iX11_changes_85 : zD zX11_changes 85 1 (.iaload) 86 := ⟨by decide +kernel, rfl⟩
theorem iX11_changes_86 : zD zX11_changes 86 1 (.ishl) 87 := ⟨by decide +kernel, rfl⟩
theorem iX11_changes_87 : zD zX11_changes 87 1 (.ior) 88 := ⟨by decide +kernel, rfl⟩
theorem iX11_changes_88 : zIs zX11_changes 88 6 90 := ⟨by decide, Or.inr ⟨by decide +kernel, rfl⟩⟩
theorem iX11_changes_90 : zIn zX11_changes 90 7 (1) 93 := ⟨by decide, 1, by decide, by decide +kernel, rfl⟩
theorem iX11_changes_93 : zB zX11_changes 93 .goto 96 28 := ⟨-65, by decide +kernel, rfl, by decide⟩
theorem iX11_changes_96 : zLl zX11_changes 96 4 98 := Or.inr ⟨by decide +kernel, rfl⟩
theorem iX11_changes_98 : zCL zX11_changes 98 0 99 := Or.inl ⟨0, by decide, by decide +kernel, rfl⟩
theorem iX11_changes_99 : zD zX11_changes 99 1 (.lcmp) 100 := ⟨by decide +kernel, rfl⟩
theorem iX11_changes_100 : zB zX11_changes 100 (.ifCond .ne) 103 116 := ⟨16, by decide +kernel, rfl, by decide⟩
theorem iX11_changes_103 : zIl zX11_changes 103 6 105 := Or.inr ⟨by decide +kernel, rfl⟩
theorem iX11_changes_105 : zCo zX11_changes 105 (1) 106 := Or.inl ⟨1, by decide, by decide +kernel, rfl⟩
theorem iX11_changes_106 : zAl zX11_changes 106 0 107 := Or.inl ⟨0, rfl, by decide +kernel, rfl⟩
theorem iX11_changes_107 : zGf zX11_changes 107 11 51 110 := ⟨363, _, _, _, zcf_11, by decide, by decide +kernel, rfl, zT4_of (i := 202) rfl rfl⟩
theorem iX11_changes_110 : zD zX11_changes 110 1 (.ishl) 111 := ⟨by decide +kernel, rfl⟩
theorem iX11_changes_111 : zCo zX11_changes 111 (1) 112 := Or.inl ⟨1, by decide, by decide +kernel, rfl⟩
theorem iX11_changes_112 : zD zX11_changes 112 1 (.isub) 113 := ⟨by decide +kernel, rfl⟩
theorem iX11_changes_113 : zB zX11_changes 113 (.if_icmp .eq) 116 119 := ⟨6, by decide +kernel, rfl, by decide⟩
theorem iX11_changes_116 : zCo zX11_changes 116 (-2) 118 := Or.inr (Or.inl ⟨-2, by decide, by decide +kernel, rfl⟩)
theorem iX11_changes_118 : zD zX11_changes 118 1 (.ireturn) 119 := ⟨by decide +kernel, rfl⟩
theorem iX11_changes_119 : zAl zX11_changes 119 0 120 := Or.inl ⟨0, rfl, by decide +kernel, rfl⟩
theorem iX11_changes_120 : zIl zX11_changes 120 3 121 := Or.inl ⟨3, rfl, by decide +kernel, rfl⟩
theorem iX11_changes_121 : zCl zX11_changes 121 .invokevirtual zX11_isRoom 124 := ⟨371, by decide +kernel, rfl, Or.inl (zT6_of (i := 92) rfl rfl)⟩
theorem iX11_changes_124 : zB zX11_changes 124 (.ifCond .eq) 127 135 := ⟨11, by decide +kernel, rfl, by decide⟩
theorem iX11_changes_127 : zAl zX11_changes 127 0 128 := Or.inl ⟨0, rfl, by decide +kernel, rfl⟩
theorem iX11_changes_128 : zIl zX11_changes 128 3 129 := Or.inl ⟨3, rfl, by decide +kernel, rfl⟩
theorem iX11_changes_129 : zCl zX11_changes 129 .invokevirtual zX11_changesOf 132 := ⟨374, by decide +kernel, rfl, Or.inl (zT6_of (i := 96) rfl rfl)⟩
theorem iX11_changes_132 : zB zX11_changes 132 .goto 135 136 := ⟨4, by decide +kernel, rfl, by decide⟩
theorem iX11_changes_135 : zCo zX11_changes 135 (-1) 136 := Or.inl ⟨-1, by decide, by decide +kernel, rfl⟩
theorem iX11_changes_136 : zD zX11_changes 136 1 (.ireturn) 137 := ⟨by decide +kernel, rfl⟩
theorem iX11_goesUp_0 : zAl zX11_goesUp 0 0 1 := Or.inl ⟨0, rfl, by decide +kernel, rfl⟩
theorem iX11_goesUp_1 : zGf zX11_goesUp 1 11 51 4 := ⟨363, _, _, _, zcf_11, by decide, by decide +kernel, rfl, zT4_of (i := 202) rfl rfl⟩
theorem iX11_goesUp_4 : zCo zX11_goesUp 4 (2) 5 := Or.inl ⟨2, by decide, by decide +kernel, rfl⟩
theorem iX11_goesUp_5 : zD zX11_goesUp 5 1 (.isub) 6 := ⟨by decide +kernel, rfl⟩
theorem iX11_goesUp_6 : zIs zX11_goesUp 6 1 7 := ⟨by decide, Or.inl ⟨1, rfl, by decide +kernel, rfl⟩⟩
theorem iX11_goesUp_7 : zIl zX11_goesUp 7 1 8 := Or.inl ⟨1, rfl, by decide +kernel, rfl⟩
theorem iX11_goesUp_8 : zB zX11_goesUp 8 (.ifCond .lt) 11 34 := ⟨26, by decide +kernel, rfl, by decide⟩
theorem iX11_goesUp_11 : zAl zX11_goesUp 11 0 12 := Or.inl ⟨0, rfl, by decide +kernel, rfl⟩
theorem iX11_goesUp_12 : zGf zX11_goesUp 12 11 53 15 := ⟨96, _, _, _, zcf_11, by decide, by decide +kernel, rfl, zT4_of (i := 204) rfl rfl⟩
theorem iX11_goesUp_15 : zIl zX11_goesUp 15 1 16 := Or.inl ⟨1, rfl, by decide +kernel, rfl⟩
theorem iX11_goesUp_16 : zD zX11_goesUp 16 1 (.iaload) 17 := ⟨by decide +kernel, rfl⟩
theorem iX11_goesUp_17 : zAl zX11_goesUp 17 0 18 := Or.inl ⟨0, rfl, by decide +kernel, rfl⟩
theorem iX11_goesUp_18 : zGf zX11_goesUp 18 11 53 21 := ⟨96, _, _, _, zcf_11, by decide, by decide +kernel, rfl, zT4_of (i := 204) rfl rfl⟩
theorem iX11_goesUp_21 : zIl zX11_goesUp 21 1 22 := Or.inl ⟨1, rfl, by decide +kernel, rfl⟩
theorem iX11_goesUp_22 : zCo zX11_goesUp 22 (1) 23 := Or.inl ⟨1, by decide, by decide +kernel, rfl⟩
theorem iX11_goesUp_23 : zD zX11_goesUp 23 1 (.iadd) 24 := ⟨by decide +kernel, rfl⟩
theorem iX11_goesUp_24 : zD zX11_goesUp 24 1 (.iaload) 25 := ⟨by decide +kernel, rfl⟩
theorem iX11_goesUp_25 : zB zX11_goesUp 25 (.if_icmp .le) 28 34 := ⟨9, by decide +kernel, rfl, by decide⟩
theorem iX11_goesUp_28 : zIn zX11_goesUp 28 1 (-1) 31 := ⟨by decide, -1, by decide, by decide +kernel, rfl⟩
theorem iX11_goesUp_31 : zB zX11_goesUp 31 .goto 34 7 := ⟨-24, by decide +kernel, rfl, by decide⟩
theorem iX11_goesUp_34 : zIl zX11_goesUp 34 1 35 := Or.inl ⟨1, rfl, by decide +kernel, rfl⟩
theorem iX11_goesUp_35 : zB zX11_goesUp 35 (.ifCond .ge) 38 40 := ⟨5, by decide +kernel, rfl, by decide⟩
theorem iX11_goesUp_38 : zCo zX11_goesUp 38 (0) 39 := Or.inl ⟨0, by decide, by decide +kernel, rfl⟩
theorem iX11_goesUp_39 : zD zX11_goesUp 39 1 (.ireturn) 40 := ⟨by decide +kernel, rfl⟩
theorem iX11_goesUp_40 : zAl zX11_goesUp 40 0 41 := Or.inl ⟨0, rfl, by decide +kernel, rfl⟩
theorem iX11_goesUp_41 : zGf zX11_goesUp 41 11 51 44 := ⟨363, _, _, _, zcf_11, by decide, by decide +kernel, rfl, zT4_of (i := 202) rfl rfl⟩
theorem iX11_goesUp_44 : zCo zX11_goesUp 44 (1) 45 := Or.inl ⟨1, by decide, by decide +kernel, rfl⟩
theorem iX11_goesUp_45 : zD zX11_goesUp 45 1 (.isub) 46 := ⟨by decide +kernel, rfl⟩
theorem iX11_goesUp_46 : zIs zX11_goesUp 46 2 47 := ⟨by decide, Or.inl ⟨2, rfl, by decide +kernel, rfl⟩⟩
theorem iX11_goesUp_47 : zAl zX11_goesUp 47 0 48 := Or.inl ⟨0, rfl, by decide +kernel, rfl⟩
theorem iX11_goesUp_48 : zGf zX11_goesUp 48 11 53 51 := ⟨96, _, _, _, zcf_11, by decide, by decide +kernel, rfl, zT4_of (i := 204) rfl rfl⟩
theorem iX11_goesUp_51 : zIl zX11_goesUp 51 2 52 := Or.inl ⟨2, rfl, by decide +kernel, rfl⟩
theorem iX11_goesUp_52 : zD zX11_goesUp 52 1 (.iaload) 53 := ⟨by decide +kernel, rfl⟩
theorem iX11_goesUp_53 : zAl zX11_goesUp 53 0 54 := Or.inl ⟨0, rfl, by decide +kernel, rfl⟩
theorem iX11_goesUp_54 : zGf zX11_goesUp 54 11 53 57 := ⟨96, _, _, _, zcf_11, by decide, by decide +kernel, rfl, zT4_of (i := 204) rfl rfl⟩
theorem iX11_goesUp_57 : zIl zX11_goesUp 57 1 58 := Or.inl ⟨1, rfl, by decide +kernel, rfl⟩
theorem iX11_goesUp_58 : zD zX11_goesUp 58 1 (.iaload) 59 := ⟨by decide +kernel, rfl⟩
theorem iX11_goesUp_59 : zB zX11_goesUp 59 (.if_icmp .ge) 62 68 := ⟨9, by decide +kernel, rfl, by decide⟩
theorem iX11_goesUp_62 : zIn zX11_goesUp 62 2 (-1) 65 := ⟨by decide, -1, by decide, by decide +kernel, rfl⟩
theorem iX11_goesUp_65 : zB zX11_goesUp 65 .goto 68 47 := ⟨-18, by decide +kernel, rfl, by decide⟩
theorem iX11_goesUp_68 : zAl zX11_goesUp 68 0 69 := Or.inl ⟨0, rfl, by decide +kernel, rfl⟩
theorem iX11_goesUp_69 : zGf zX11_goesUp 69 11 53 72 := ⟨96, _, _, _, zcf_11, by decide, by decide +kernel, rfl, zT4_of (i := 204) rfl rfl⟩
theorem iX11_goesUp_72 : zIl zX11_goesUp 72 1 73 := Or.inl ⟨1, rfl, by decide +kernel, rfl⟩
theorem iX11_goesUp_73 : zD zX11_goesUp 73 1 (.iaload) 74 := ⟨by decide +kernel, rfl⟩
theorem iX11_goesUp_74 : zIs zX11_goesUp 74 3 75 := ⟨by decide, Or.inl ⟨3, rfl, by decide +kernel, rfl⟩⟩
theorem iX11_goesUp_75 : zAl zX11_goesUp 75 0 76 := Or.inl ⟨0, rfl, by decide +kernel, rfl⟩
theorem iX11_goesUp_76 : zGf zX11_goesUp 76 11 53 79 := ⟨96, _, _, _, zcf_11, by decide, by decide +kernel, rfl, zT4_of (i := 204) rfl rfl⟩
theorem iX11_goesUp_79 : zIl zX11_goesUp 79 1 80 := Or.inl ⟨1, rfl, by decide +kernel, rfl⟩
theorem iX11_goesUp_80 : zAl zX11_goesUp 80 0 81 := Or.inl ⟨0, rfl, by decide +kernel, rfl⟩
theorem iX11_goesUp_81 : zGf zX11_goesUp 81 11 53 84 := ⟨96, _, _, _, zcf_11, by decide, by decide +kernel, rfl, zT4_of (i := 204) rfl rfl⟩
theorem iX11_goesUp_84 : zIl zX11_goesUp 84 2 85 := Or.inl ⟨2, rfl, by decide +kernel, rfl⟩
theorem iX11_goesUp_85 : zD zX11_goesUp 85 1 (.iaload) 86 := ⟨by decide +kernel, rfl⟩
theorem iX11_goesUp_86 : zD zX11_goesUp 86 1 (.iastore) 87 := ⟨by decide +kernel, rfl⟩
theorem iX11_goesUp_87 : zAl zX11_goesUp 87 0 88 := Or.inl ⟨0, rfl, by decide +kernel, rfl⟩
theorem iX11_goesUp_88 : zGf zX11_goesUp 88 11 53 91 := ⟨96, _, _, _, zcf_11, by decide, by decide +kernel, rfl, zT4_of (i := 204) rfl rfl⟩
theorem iX11_goesUp_91 : zIl zX11_goesUp 91 2 92 := Or.inl ⟨2, rfl, by decide +kernel, rfl⟩
theorem iX11_goesUp_92 : zIl zX11_goesUp 92 3 93 := Or.inl ⟨3, rfl, by decide +kernel, rfl⟩
theorem iX11_goesUp_93 : zD zX11_goesUp 93 1 (.iastore) 94 := ⟨by decide +kernel, rfl⟩
theorem iX11_goesUp_94 : zIl zX11_goesUp 94 1 95 := Or.inl ⟨1, rfl, by decide +kernel, rfl⟩
theorem iX11_goesUp_95 : zCo zX11_goesUp 95 (1) 96 := Or.inl ⟨1, by decide, by decide +kernel, rfl⟩
theorem iX11_goesUp_96 : zD zX11_goesUp 96 1 (.iadd) 97 := ⟨by decide +kernel, rfl⟩
theorem iX11_goesUp_97 : zIs zX11_goesUp 97 4 99 := ⟨by decide, Or.inr ⟨by decide +kernel, rfl⟩⟩
theorem iX11_goesUp_99 : zAl zX11_goesUp 99 0 100 := Or.inl ⟨0, rfl, by decide +kernel, rfl⟩
theorem iX11_goesUp_100 : zGf zX11_goesUp 100 11 51 103 := ⟨363, _, _, _, zcf_11, by decide, by decide +kernel, rfl, zT4_of (i := 202) rfl rfl⟩
theorem iX11_goesUp_103 : zCo zX11_goesUp 103 (1) 104 := Or.inl ⟨1, by decide, by decide +kernel, rfl⟩
theorem iX11_goesUp_104 : zD zX11_goesUp 104 1 (.isub) 105 := ⟨by decide +kernel, rfl⟩
theorem iX11_goesUp_105 : zIs zX11_goesUp 105 5 107 := ⟨by decide, Or.inr ⟨by decide +kernel, rfl⟩⟩
theorem iX11_goesUp_107 : zIl zX11_goesUp 107 4 109 := Or.inr ⟨by decide +kernel, rfl⟩
theorem iX11_goesUp_109 : zIl zX11_goesUp 109 5 111 := Or.inr ⟨by decide +kernel, rfl⟩
theorem iX11_goesUp_111 : zB zX11_goesUp 111 (.if_icmp .ge) 114 153 := ⟨42, by decide +kernel, rfl, by decide⟩
theorem iX11_goesUp_114 : zAl zX11_goesUp 114 0 115 := Or.inl ⟨0, rfl, by decide +kernel, rfl⟩
theorem iX11_goesUp_115 : zGf zX11_goesUp 115 11 53 118 := ⟨96, _, _, _, zcf_11, by decide, by decide +kernel, rfl, zT4_of (i := 204) rfl rfl⟩
theorem iX11_goesUp_118 : zIl zX11_goesUp 118 4 120 := Or.inr ⟨by decide +kernel, rfl⟩
theorem iX11_goesUp_120 : zD zX11_goesUp 120 1 (.iaload) 121 := ⟨by decide +kernel, rfl⟩
theorem iX11_goesUp_121 : zIs zX11_goesUp 121 3 122 := ⟨by decide, Or.inl ⟨3, rfl, by decide +kernel, rfl⟩⟩
theorem iX11_goesUp_122 : zAl zX11_goesUp 122 0 123 := Or.inl ⟨0, rfl, by decide +kernel, rfl⟩
theorem iX11_goesUp_123 : zGf zX11_goesUp 123 11 53 126 := ⟨96, _, _, _, zcf_11, by decide, by decide +kernel, rfl, zT4_of (i := 204) rfl rfl⟩
theorem iX11_goesUp_126 : zIl zX11_goesUp 126 4 128 := Or.inr ⟨by decide +kernel, rfl⟩
theorem iX11_goesUp_128 : zAl zX11_goesUp 128 0 129 := Or.inl ⟨0, rfl, by decide +kernel, rfl⟩
theorem iX11_goesUp_129 : zGf zX11_goesUp 129 11 53 132 := ⟨96, _, _, _, zcf_11, by decide, by decide +kernel, rfl, zT4_of (i := 204) rfl rfl⟩
theorem iX11_goesUp_132 : zIl zX11_goesUp 132 5 134 := Or.inr ⟨by decide +kernel, rfl⟩
theorem iX11_goesUp_134 : zD zX11_goesUp 134 1 (.iaload) 135 := ⟨by decide +kernel, rfl⟩
theorem iX11_goesUp_135 : zD zX11_goesUp 135 1 (.iastore) 136 := ⟨by decide +kernel, rfl⟩
theorem iX11_goesUp_136 : zAl zX11_goesUp 136 0 137 := Or.inl ⟨0, rfl, by decide +kernel, rfl⟩
theorem iX11_goesUp_137 : zGf zX11_goesUp 137 11 53 140 := ⟨96, _, _, _, zcf_11, by decide, by decide +kernel, rfl, zT4_of (i := 204) rfl rfl⟩
theorem iX11_goesUp_140 : zIl zX11_goesUp 140 5 142 := Or.inr ⟨by decide +kernel, rfl⟩
theorem iX11_goesUp_142 : zIl zX11_goesUp 142 3 143 := Or.inl ⟨3, rfl, by decide +kernel, rfl⟩
theorem iX11_goesUp_143 : zD zX11_goesUp 143 1 (.iastore) 144 := ⟨by decide +kernel, rfl⟩
theorem iX11_goesUp_144 : zIn zX11_goesUp 144 4 (1) 147 := ⟨by decide, 1, by decide, by decide +kernel, rfl⟩
theorem iX11_goesUp_147 : zIn zX11_goesUp 147 5 (-1) 150 := ⟨by decide, -1, by decide, by decide +kernel, rfl⟩
theorem iX11_goesUp_150 : zB zX11_goesUp 150 .goto 153 107 := ⟨-43, by decide +kernel, rfl, by decide⟩
theorem iX11_goesUp_153 : zCo zX11_goesUp 153 (1) 154 := Or.inl ⟨1, by decide, by decide +kernel, rfl⟩
theorem iX11_goesUp_154 : zD zX11_goesUp 154 1 (.ireturn) 155 := ⟨by decide +kernel, rfl⟩
theorem iX11_order_0 : zIl zX11_order 0 1 1 := Or.inl ⟨1, rfl, by decide +kernel, rfl⟩
theorem iX11_order_1 : zCo zX11_order 1 (1) 2 := Or.inl ⟨1, by decide, by decide +kernel, rfl⟩
theorem iX11_order_2 : zCo zX11_order 2 (9) 4 := Or.inr (Or.inl ⟨9, by decide, by decide +kernel, rfl⟩)
theorem iX11_order_4 : zCl zX11_order 4 .invokestatic zX11_in 7 := ⟨143, by decide +kernel, rfl, Or.inl (zT5_of (i := 95) rfl rfl)⟩
theorem iX11_order_7 : zB zX11_order 7 (.ifCond .ne) 10 13 := ⟨6, by decide +kernel, rfl, by decide⟩
theorem iX11_order_10 : zCo zX11_order 10 (-2) 12 := Or.inr (Or.inl ⟨-2, by decide, by decide +kernel, rfl⟩)
theorem iX11_order_12 : zD zX11_order 12 1 (.ireturn) 13 := ⟨by decide +kernel, rfl⟩
theorem iX11_order_13 : zAl zX11_order 13 0 14 := Or.inl ⟨0, rfl, by decide +kernel, rfl⟩
theorem iX11_order_14 : zIl zX11_order 14 1 15 := Or.inl ⟨1, rfl, by decide +kernel, rfl⟩
theorem iX11_order_15 : zCl zX11_order 15 .invokevirtual zX11_isRoom 18 := ⟨371, by decide +kernel, rfl, Or.inl (zT6_of (i := 92) rfl rfl)⟩
theorem iX11_order_18 : zB zX11_order 18 (.ifCond .eq) 21 35 := ⟨17, by decide +kernel, rfl, by decide⟩
theorem iX11_order_21 : zIl zX11_order 21 2 22 := Or.inl ⟨2, rfl, by decide +kernel, rfl⟩
theorem iX11_order_22 : zCo zX11_order 22 (-1) 23 := Or.inl ⟨-1, by decide, by decide +kernel, rfl⟩
theorem iX11_order_23 : zAl zX11_order 23 0 24 := Or.inl ⟨0, rfl, by decide +kernel, rfl⟩
theorem iX11_order_24 : zGf zX11_order 24 11 51 27 := ⟨363, _, _, _, zcf_11, by decide, by decide +kernel, rfl, zT4_of (i := 202) rfl rfl⟩
theorem iX11_order_27 : zCo zX11_order 27 (1) 28 := Or.inl ⟨1, by decide, by decide +kernel, rfl⟩
theorem iX11_order_28 : zD zX11_order 28 1 (.isub) 29 := ⟨by decide +kernel, rfl⟩
theorem iX11_order_29 : zCl zX11_order 29 .invokestatic zX11_in 32 := ⟨143, by decide +kernel, rfl, Or.inl (zT5_of (i := 95) rfl rfl)⟩
theorem iX11_order_32 : zB zX11_order 32 (.ifCond .ne) 35 37 := ⟨5, by decide +kernel, rfl, by decide⟩
theorem iX11_order_35 : zCo zX11_order 35 (-1) 36 := Or.inl ⟨-1, by decide, by decide +kernel, rfl⟩
theorem iX11_order_36 : zD zX11_order 36 1 (.ireturn) 37 := ⟨by decide +kernel, rfl⟩
theorem iX11_order_37 : zCo zX11_order 37 (0) 38 := Or.inl ⟨0, by decide, by decide +kernel, rfl⟩
theorem iX11_order_38 : zIs zX11_order 38 3 39 := ⟨by decide, Or.inl ⟨3, rfl, by decide +kernel, rfl⟩⟩
theorem iX11_order_39 : zIl zX11_order 39 3 40 := Or.inl ⟨3, rfl, by decide +kernel, rfl⟩
theorem iX11_order_40 : zAl zX11_order 40 0 41 := Or.inl ⟨0, rfl, by decide +kernel, rfl⟩
theorem iX11_order_41 : zGf zX11_order 41 11 51 44 := ⟨363, _, _, _, zcf_11, by decide, by decide +kernel, rfl, zT4_of (i := 202) rfl rfl⟩
theorem iX11_order_44 : zB zX11_order 44 (.if_icmp .ge) 47 60 := ⟨16, by decide +kernel, rfl, by decide⟩
theorem iX11_order_47 : zAl zX11_order 47 0 48 := Or.inl ⟨0, rfl, by decide +kernel, rfl⟩
theorem iX11_order_48 : zGf zX11_order 48 11 53 51 := ⟨96, _, _, _, zcf_11, by decide, by decide +kernel, rfl, zT4_of (i := 204) rfl rfl⟩
theorem iX11_order_51 : zIl zX11_order 51 3 52 := Or.inl ⟨3, rfl, by decide +kernel, rfl⟩
theorem iX11_order_52 : zIl zX11_order 52 3 53 := Or.inl ⟨3, rfl, by decide +kernel, rfl⟩
theorem iX11_order_53 : zD zX11_order 53 1 (.iastore) 54 := ⟨by decide +kernel, rfl⟩
theorem iX11_order_54 : zIn zX11_order 54 3 (1) 57 := ⟨by decide, 1, by decide, by decide +kernel, rfl⟩
theorem iX11_order_57 : zB zX11_order 57 .goto 60 39 := ⟨-18, by decide +kernel, rfl, by decide⟩
theorem iX11_order_60 : zCo zX11_order 60 (-1) 61 := Or.inl ⟨-1, by decide, by decide +kernel, rfl⟩
theorem iX11_order_61 : zIs zX11_order 61 3 62 := ⟨by decide, Or.inl ⟨3, rfl, by decide +kernel, rfl⟩⟩
theorem iX11_order_62 : zCo zX11_order 62 (1) 63 := Or.inl ⟨1, by decide, by decide +kernel, rfl⟩
theorem iX11_order_63 : zIs zX11_order 63 4 65 := ⟨by decide, Or.inr ⟨by decide +kernel, rfl⟩⟩
theorem iX11_order_65 : zIl zX11_order 65 4 67 := Or.inr ⟨by decide +kernel, rfl⟩
theorem iX11_order_67 : zB zX11_order 67 (.ifCond .eq) 70 132 := ⟨65, by decide +kernel, rfl, by decide⟩
theorem iX11_order_70 : zAl zX11_order 70 0 71 := Or.inl ⟨0, rfl, by decide +kernel, rfl⟩
theorem iX11_order_71 : zIl zX11_order 71 1 72 := Or.inl ⟨1, rfl, by decide +kernel, rfl⟩
theorem iX11_order_72 : zCl zX11_order 72 .invokevirtual zX11_changesOf 75 := ⟨374, by decide +kernel, rfl, Or.inl (zT6_of (i := 96) rfl rfl)⟩
theorem iX11_order_75 : zIs zX11_order 75 5 77 := ⟨by decide, Or.inr ⟨by decide +kernel, rfl⟩⟩
theorem iX11_order_77 : zIl zX11_order 77 3 78 := Or.inl ⟨3, rfl, by decide +kernel, rfl⟩
theorem iX11_order_78 : zCo zX11_order 78 (-1) 79 := Or.inl ⟨-1, by decide, by decide +kernel, rfl⟩
theorem iX11_order_79 : zB zX11_order 79 (.if_icmp .eq) 82 88 := ⟨9, by decide +kernel, rfl, by decide⟩
theorem iX11_order_82 : zIl zX11_order 82 5 84 := Or.inr ⟨by decide +kernel, rfl⟩
theorem iX11_order_84 : zIl zX11_order 84 3 85 := Or.inl ⟨3, rfl, by decide +kernel, rfl⟩
theorem iX11_order_85 : zB zX11_order 85 (.if_icmp .ge) 88 123 := ⟨38, by decide +kernel, rfl, by decide⟩
theorem iX11_order_88 : zIl zX11_order 88 5 90 := Or.inr ⟨by decide +kernel, rfl⟩
theorem iX11_order_90 : zIs zX11_order 90 3 91 := ⟨by decide, Or.inl ⟨3, rfl, by decide +kernel, rfl⟩⟩
theorem iX11_order_91 : zCo zX11_order 91 (0) 92 := Or.inl ⟨0, by decide, by decide +kernel, rfl⟩
theorem iX11_order_92 : zIs zX11_order 92 6 94 := ⟨by decide, Or.inr ⟨by decide +kernel, rfl⟩⟩
theorem iX11_order_94 : zIl zX11_order 94 6 96 := Or.inr ⟨by decide +kernel, rfl⟩
theorem iX11_order_96 : zAl zX11_order 96 0 97 := Or.inl ⟨0, rfl, by decide +kernel, rfl⟩
theorem iX11_order_97 : zGf zX11_order 97 11 51 100 := ⟨363, _, _, _, zcf_11, by decide, by decide +kernel, rfl, zT4_of (i := 202) rfl rfl⟩
theorem iX11_order_100 : zB zX11_order 100 (.if_icmp .ge) 103 123 := ⟨23, by decide +kernel, rfl, by decide⟩
theorem iX11_order_103 : zAl zX11_order 103 0 104 := Or.inl ⟨0, rfl, by decide +kernel, rfl⟩
theorem iX11_order_104 : zGf zX11_order 104 11 54 107 := ⟨99, _, _, _, zcf_11, by decide, by decide +kernel, rfl, zT4_of (i := 205) rfl rfl⟩
theorem iX11_order_107 : zIl zX11_order 107 6 109 := Or.inr ⟨by decide +kernel, rfl⟩
theorem iX11_order_109 : zAl zX11_order 109 0 110 := Or.inl ⟨0, rfl, by decide +kernel, rfl⟩
theorem iX11_order_110 : zGf zX11_order 110 11 53 113 := ⟨96, _, _, _, zcf_11, by decide, by decide +kernel, rfl, zT4_of (i := 204) rfl rfl⟩
theorem iX11_order_113 : zIl zX11_order 113 6 115 := Or.inr ⟨by decide +kernel, rfl⟩
theorem iX11_order_115 : zD zX11_order 115 1 (.iaload) 116 := ⟨by decide +kernel, rfl⟩
theorem iX11_order_116 : zD zX11_order 116 1 (.iastore) 117 := ⟨by decide +kernel, rfl⟩
theorem iX11_order_117 : zIn zX11_order 117 6 (1) 120 := ⟨by decide, 1, by decide, by decide +kernel, rfl⟩
theorem iX11_order_120 : zB zX11_order 120 .goto 123 94 := ⟨-26, by decide +kernel, rfl, by decide⟩
theorem iX11_order_123 : zAl zX11_order 123 0 124 := Or.inl ⟨0, rfl, by decide +kernel, rfl⟩
theorem iX11_order_124 : zCl zX11_order 124 .invokevirtual zX11_goesUp 127 := ⟨377, by decide +kernel, rfl, Or.inl (zT6_of (i := 108) rfl rfl)⟩
theorem iX11_order_127 : zIs zX11_order 127 4 129 := ⟨by decide, Or.inr ⟨by decide +kernel, rfl⟩⟩
theorem iX11_order_129 : zB zX11_order 129 .goto 132 65 := ⟨-64, by decide +kernel, rfl, by decide⟩
theorem iX11_order_132 : zIl zX11_order 132 2 133 := Or.inl ⟨2, rfl, by decide +kernel, rfl⟩
theorem iX11_order_133 : zB zX11_order 133 (.ifCond .ge) 136 140 := ⟨7, by decide +kernel, rfl, by decide⟩
theorem iX11_order_136 : zIl zX11_order 136 3 137 := Or.inl ⟨3, rfl, by decide +kernel, rfl⟩
theorem iX11_order_137 : zB zX11_order 137 .goto 140 146 := ⟨9, by decide +kernel, rfl, by decide⟩
theorem iX11_order_140 : zAl zX11_order 140 0 141 := Or.inl ⟨0, rfl, by decide +kernel, rfl⟩
theorem iX11_order_141 : zGf zX11_order 141 11 54 144 := ⟨99, _, _, _, zcf_11, by decide, by decide +kernel, rfl, zT4_of (i := 205) rfl rfl⟩
theorem iX11_order_144 : zIl zX11_order 144 2 145 := Or.inl ⟨2, rfl, by decide +kernel, rfl⟩
theorem iX11_order_145 : zD zX11_order 145 1 (.iaload) 146 := ⟨by decide +kernel, rfl⟩
theorem iX11_order_146 : zD zX11_order 146 1 (.ireturn) 147 := ⟨by decide +kernel, rfl⟩
theorem iX11_count_0 : zCo zX11_count 0 (0) 1 := Or.inl ⟨0, by decide, by decide +kernel, rfl⟩
theorem iX11_count_1 : zIs zX11_count 1 2 2 := ⟨by decide, Or.inl ⟨2, rfl, by decide +kernel, rfl⟩⟩
theorem iX11_count_2 : zIl zX11_count 2 1 3 := Or.inl ⟨1, rfl, by decide +kernel, rfl⟩
theorem iX11_count_3 : zSw zX11_count 3 (0) [52, 57, 62, 67, 72, 77, 82, 87, 92] 127 := ⟨8, #[49, 54, 59, 64, 69, 74, 79, 84, 89], 124, 49, by decide +kernel, by decide, by decide, by decide⟩
theorem iX11_count_52 : zAl zX11_count 52 0 53 := Or.inl ⟨0, rfl, by decide +kernel, rfl⟩
theorem iX11_count_53 : zGf zX11_count 53 11 1 56 := ⟨140, _, _, _, zcf_11, by decide, by decide +kernel, rfl, zT4_of (i := 152) rfl rfl⟩
theorem iX11_count_56 : zD zX11_count 56 1 (.ireturn) 57 := ⟨by decide +kernel, rfl⟩
theorem iX11_count_57 : zAl zX11_count 57 0 58 := Or.inl ⟨0, rfl, by decide +kernel, rfl⟩
theorem iX11_count_58 : zGf zX11_count 58 11 15 61 := ⟨170, _, _, _, zcf_11, by decide, by decide +kernel, rfl, zT4_of (i := 166) rfl rfl⟩
theorem iX11_count_61 : zD zX11_count 61 1 (.ireturn) 62 := ⟨by decide +kernel, rfl⟩
theorem iX11_count_62 : zAl zX11_count 62 0 63 := Or.inl ⟨0, rfl, by decide +kernel, rfl⟩
theorem iX11_count_63 : zGf zX11_count 63 11 47 66 := ⟨336, _, _, _, zcf_11, by decide, by decide +kernel, rfl, zT4_of (i := 198) rfl rfl⟩
theorem iX11_count_66 : zD zX11_count 66 1 (.ireturn) 67 := ⟨by decide +kernel, rfl⟩
theorem iX11_count_67 : zAl zX11_count 67 0 68 := Or.inl ⟨0, rfl, by decide +kernel, rfl⟩
theorem iX11_count_68 : zGf zX11_count 68 11 51 71 := ⟨363, _, _, _, zcf_11, by decide, by decide +kernel, rfl, zT4_of (i := 202) rfl rfl⟩
theorem iX11_count_71 : zD zX11_count 71 1 (.ireturn) 72 := ⟨by decide +kernel, rfl⟩
theorem iX11_count_72 : zAl zX11_count 72 0 73 := Or.inl ⟨0, rfl, by decide +kernel, rfl⟩
theorem iX11_count_73 : zGf zX11_count 73 11 28 76 := ⟨135, _, _, _, zcf_11, by decide, by decide +kernel, rfl, zT4_of (i := 179) rfl rfl⟩
theorem iX11_count_76 : zD zX11_count 76 1 (.ireturn) 77 := ⟨by decide +kernel, rfl⟩
theorem iX11_count_77 : zAl zX11_count 77 0 78 := Or.inl ⟨0, rfl, by decide +kernel, rfl⟩
theorem iX11_count_78 : zGf zX11_count 78 11 31 81 := ⟨192, _, _, _, zcf_11, by decide, by decide +kernel, rfl, zT4_of (i := 182) rfl rfl⟩
theorem iX11_count_81 : zD zX11_count 81 1 (.ireturn) 82 := ⟨by decide +kernel, rfl⟩
theorem iX11_count_82 : zAl zX11_count 82 0 83 := Or.inl ⟨0, rfl, by decide +kernel, rfl⟩
theorem iX11_count_83 : zGf zX11_count 83 11 29 86 := ⟨326, _, _, _, zcf_11, by decide, by decide +kernel, rfl, zT4_of (i := 180) rfl rfl⟩
theorem iX11_count_86 : zD zX11_count 86 1 (.ireturn) 87 := ⟨by decide +kernel, rfl⟩
theorem iX11_count_87 : zAl zX11_count 87 0 88 := Or.inl ⟨0, rfl, by decide +kernel, rfl⟩
theorem iX11_count_88 : zGf zX11_count 88 11 25 91 := ⟨189, _, _, _, zcf_11, by decide, by decide +kernel, rfl, zT4_of (i := 176) rfl rfl⟩
theorem iX11_count_91 : zD zX11_count 91 1 (.ireturn) 92 := ⟨by decide +kernel, rfl⟩
theorem iX11_count_92 : zCo zX11_count 92 (0) 93 := Or.inl ⟨0, by decide, by decide +kernel, rfl⟩
theorem iX11_count_93 : zIs zX11_count 93 3 94 := ⟨by decide, Or.inl ⟨3, rfl, by decide +kernel, rfl⟩⟩
theorem iX11_count_94 : zIl zX11_count 94 3 95 := Or.inl ⟨3, rfl, by decide +kernel, rfl⟩
theorem iX11_count_95 : zAl zX11_count 95 0 96 := Or.inl ⟨0, rfl, by decide +kernel, rfl⟩
theorem iX11_count_96 : zGf zX11_count 96 11 1 99 := ⟨140, _, _, _, zcf_11, by decide, by decide +kernel, rfl, zT4_of (i := 152) rfl rfl⟩
theorem iX11_count_99 : zB zX11_count 99 (.if_icmp .ge) 102 125 := ⟨26, by decide +kernel, rfl, by decide⟩
theorem iX11_count_102 : zIl zX11_count 102 2 103 := Or.inl ⟨2, rfl, by decide +kernel, rfl⟩
theorem iX11_count_103 : zAl zX11_count 103 0 104 := Or.inl ⟨0, rfl, by decide +kernel, rfl⟩
theorem iX11_count_104 : zGf zX11_count 104 11 7 107 := ⟨29, _, _, _, zcf_11, by decide, by decide +kernel, rfl, zT4_of (i := 158) rfl rfl⟩
theorem iX11_count_107 : zIl zX11_count 107 3 108 := Or.inl ⟨3, rfl, by decide +kernel, rfl⟩
theorem iX11_count_108 : zD zX11_count 108 1 (.iaload) 109 := ⟨by decide +kernel, rfl⟩
theorem iX11_count_109 : zB zX11_count 109 (.ifCond .eq) 112 116 := ⟨7, by decide +kernel, rfl, by decide⟩
theorem iX11_count_112 : zCo zX11_count 112 (1) 113 := Or.inl ⟨1, by decide, by decide +kernel, rfl⟩
theorem iX11_count_113 : zB zX11_count 113 .goto 116 117 := ⟨4, by decide +kernel, rfl, by decide⟩
theorem iX11_count_116 : zCo zX11_count 116 (0) 117 := Or.inl ⟨0, by decide, by decide +kernel, rfl⟩
theorem iX11_count_117 : zD zX11_count 117 1 (.iadd) 118 := ⟨by decide +kernel, rfl⟩
theorem iX11_count_118 : zIs zX11_count 118 2 119 := ⟨by decide, Or.inl ⟨2, rfl, by decide +kernel, rfl⟩⟩
theorem iX11_count_119 : zIn zX11_count 119 3 (1) 122 := ⟨by decide, 1, by decide, by decide +kernel, rfl⟩
theorem iX11_count_122 : zB zX11_count 122 .goto 125 94 := ⟨-28, by decide +kernel, rfl, by decide⟩
theorem iX11_count_125 : zIl zX11_count 125 2 126 := Or.inl ⟨2, rfl, by decide +kernel, rfl⟩
theorem iX11_count_126 : zD zX11_count 126 1 (.ireturn) 127 := ⟨by decide +kernel, rfl⟩
theorem iX11_count_127 : zCo zX11_count 127 (-2) 129 := Or.inr (Or.inl ⟨-2, by decide, by decide +kernel, rfl⟩)
theorem iX11_count_129 : zD zX11_count 129 1 (.ireturn) 130 := ⟨by decide +kernel, rfl⟩
theorem iX11_isSheet_0 : zIl zX11_isSheet 0 0 1 := Or.inl ⟨0, rfl, by decide +kernel, rfl⟩
theorem iX11_isSheet_1 : zCo zX11_isSheet 1 (0) 2 := Or.inl ⟨0, by decide, by decide +kernel, rfl⟩
theorem iX11_isSheet_2 : zCo zX11_isSheet 2 (3) 3 := Or.inl ⟨3, by decide, by decide +kernel, rfl⟩
theorem iX11_isSheet_3 : zCl zX11_isSheet 3 .invokestatic zX11_in 6 := ⟨143, by decide +kernel, rfl, Or.inl (zT5_of (i := 95) rfl rfl)⟩
theorem iX11_isSheet_6 : zD zX11_isSheet 6 1 (.ireturn) 7 := ⟨by decide +kernel, rfl⟩
theorem iX11_sheet_0 : zIl zX11_sheet 0 1 1 := Or.inl ⟨1, rfl, by decide +kernel, rfl⟩
theorem iX11_sheet_1 : zCl zX11_sheet 1 .invokestatic zX11_isSheet 4 := ⟨380, by decide +kernel, rfl, Or.inl (zT6_of (i := 120) rfl rfl)⟩
theorem iX11_sheet_4 : zB zX11_sheet 4 (.ifCond .eq) 7 26 := ⟨22, by decide +kernel, rfl, by decide⟩
theorem iX11_sheet_7 : zIl zX11_sheet 7 2 8 := Or.inl ⟨2, rfl, by decide +kernel, rfl⟩
theorem iX11_sheet_8 : zCo zX11_sheet 8 (-1) 9 := Or.inl ⟨-1, by decide, by decide +kernel, rfl⟩
theorem iX11_sheet_9 : zCo zX11_sheet 9 (2) 10 := Or.inl ⟨2, by decide, by decide +kernel, rfl⟩
theorem iX11_sheet_10 : zCl zX11_sheet 10 .invokestatic zX11_in 13 := ⟨143, by decide +kernel, rfl, Or.inl (zT5_of (i := 95) rfl rfl)⟩
theorem iX11_sheet_13 : zB zX11_sheet 13 (.ifCond .eq) 16 26 := ⟨13, by decide +kernel, rfl, by decide⟩
theorem iX11_sheet_16 : zIl zX11_sheet 16 2 17 := Or.inl ⟨2, rfl, by decide +kernel, rfl⟩
theorem iX11_sheet_17 : zB zX11_sheet 17 (.ifCond .lt) 20 29 := ⟨12, by decide +kernel, rfl, by decide⟩
theorem iX11_sheet_20 : zIl zX11_sheet 20 3 21 := Or.inl ⟨3, rfl, by decide +kernel, rfl⟩
theorem iX11_sheet_21 : zCo zX11_sheet 21 (40) 23 := Or.inr (Or.inl ⟨40, by decide, by decide +kernel, rfl⟩)
theorem iX11_sheet_23 : zB zX11_sheet 23 (.if_icmp .le) 26 29 := ⟨6, by decide +kernel, rfl, by decide⟩
theorem iX11_sheet_26 : zCo zX11_sheet 26 (-2) 28 := Or.inr (Or.inl ⟨-2, by decide, by decide +kernel, rfl⟩)
theorem iX11_sheet_28 : zD zX11_sheet 28 1 (.ireturn) 29 := ⟨by decide +kernel, rfl⟩
theorem iX11_sheet_29 : zIl zX11_sheet 29 2 30 := Or.inl ⟨2, rfl, by decide +kernel, rfl⟩
theorem iX11_sheet_30 : zB zX11_sheet 30 (.ifCond .lt) 33 40 := ⟨10, by decide +kernel, rfl, by decide⟩
theorem iX11_sheet_33 : zIl zX11_sheet 33 3 34 := Or.inl ⟨3, rfl, by decide +kernel, rfl⟩
theorem iX11_sheet_34 : zB zX11_sheet 34 (.ifCond .ge) 37 40 := ⟨6, by decide +kernel, rfl, by decide⟩
theorem iX11_sheet_37 : zCo zX11_sheet 37 (-14) 39 := Or.inr (Or.inl ⟨-14, by decide, by decide +kernel, rfl⟩)
theorem iX11_sheet_39 : zD zX11_sheet 39 1 (.ireturn) 40 := ⟨by decide +kernel, rfl⟩
theorem iX11_sheet_40 : zAl zX11_sheet 40 0 41 := Or.inl ⟨0, rfl, by decide +kernel, rfl⟩
theorem iX11_sheet_41 : zGf zX11_sheet 41 11 55 44 := ⟨102, _, _, _, zcf_11, by decide, by decide +kernel, rfl, zT4_of (i := 206) rfl rfl⟩
theorem iX11_sheet_44 : zIl zX11_sheet 44 1 45 := Or.inl ⟨1, rfl, by decide +kernel, rfl⟩
theorem iX11_sheet_45 : zIl zX11_sheet 45 2 46 := Or.inl ⟨2, rfl, by decide +kernel, rfl⟩
theorem iX11_sheet_46 : zB zX11_sheet 46 (.ifCond .lt) 49 53 := ⟨7, by decide +kernel, rfl, by decide⟩
theorem iX11_sheet_49 : zCo zX11_sheet 49 (1) 50 := Or.inl ⟨1, by decide, by decide +kernel, rfl⟩
theorem iX11_sheet_50 : zB zX11_sheet 50 .goto 53 54 := ⟨4, by decide +kernel, rfl, by decide⟩
theorem iX11_sheet_53 : zCo zX11_sheet 53 (0) 54 := Or.inl ⟨0, by decide, by decide +kernel, rfl⟩
theorem iX11_sheet_54 : zD zX11_sheet 54 1 (.bastore) 55 := ⟨by decide +kernel, rfl⟩
theorem iX11_sheet_55 : zAl zX11_sheet 55 0 56 := Or.inl ⟨0, rfl, by decide +kernel, rfl⟩
theorem iX11_sheet_56 : zGf zX11_sheet 56 11 56 59 := ⟨106, _, _, _, zcf_11, by decide, by decide +kernel, rfl, zT4_of (i := 207) rfl rfl⟩
theorem iX11_sheet_59 : zIl zX11_sheet 59 1 60 := Or.inl ⟨1, rfl, by decide +kernel, rfl⟩
theorem iX11_sheet_60 : zIl zX11_sheet 60 2 61 := Or.inl ⟨2, rfl, by decide +kernel, rfl⟩
theorem iX11_sheet_61 : zD zX11_sheet 61 1 (.iastore) 62 := ⟨by decide +kernel, rfl⟩
theorem iX11_sheet_62 : zAl zX11_sheet 62 0 63 := Or.inl ⟨0, rfl, by decide +kernel, rfl⟩
theorem iX11_sheet_63 : zGf zX11_sheet 63 11 57 66 := ⟨109, _, _, _, zcf_11, by decide, by decide +kernel, rfl, zT4_of (i := 208) rfl rfl⟩
theorem iX11_sheet_66 : zIl zX11_sheet 66 1 67 := Or.inl ⟨1, rfl, by decide +kernel, rfl⟩
theorem iX11_sheet_67 : zIl zX11_sheet 67 3 68 := Or.inl ⟨3, rfl, by decide +kernel, rfl⟩
theorem iX11_sheet_68 : zD zX11_sheet 68 1 (.iastore) 69 := ⟨by decide +kernel, rfl⟩
theorem iX11_sheet_69 : zCo zX11_sheet 69 (0) 70 := Or.inl ⟨0, by decide, by decide +kernel, rfl⟩
theorem iX11_sheet_70 : zIs zX11_sheet 70 4 72 := ⟨by decide, Or.inr ⟨by decide +kernel, rfl⟩⟩
theorem iX11_sheet_72 : zIl zX11_sheet 72 4 74 := Or.inr ⟨by decide +kernel, rfl⟩
theorem iX11_sheet_74 : zIl zX11_sheet 74 3 75 := Or.inl ⟨3, rfl, by decide +kernel, rfl⟩
theorem iX11_sheet_75 : zB zX11_sheet 75 (.if_icmp .ge) 78 101 := ⟨26, by decide +kernel, rfl, by decide⟩
theorem iX11_sheet_78 : zIl zX11_sheet 78 2 79 := Or.inl ⟨2, rfl, by decide +kernel, rfl⟩
theorem iX11_sheet_79 : zB zX11_sheet 79 (.ifCond .lt) 82 101 := ⟨22, by decide +kernel, rfl, by decide⟩
theorem iX11_sheet_82 : zAl zX11_sheet 82 0 83 := Or.inl ⟨0, rfl, by decide +kernel, rfl⟩
theorem iX11_sheet_83 : zGf zX11_sheet 83 11 58 86 := ⟨112, _, _, _, zcf_11, by decide, by decide +kernel, rfl, zT4_of (i := 209) rfl rfl⟩
theorem iX11_sheet_86 : zCo zX11_sheet 86 (40) 88 := Or.inr (Or.inl ⟨40, by decide, by decide +kernel, rfl⟩)
theorem iX11_sheet_88 : zIl zX11_sheet 88 1 89 := Or.inl ⟨1, rfl, by decide +kernel, rfl⟩
theorem iX11_sheet_89 : zD zX11_sheet 89 1 (.imul) 90 := ⟨by decide +kernel, rfl⟩
theorem iX11_sheet_90 : zIl zX11_sheet 90 4 92 := Or.inr ⟨by decide +kernel, rfl⟩
theorem iX11_sheet_92 : zD zX11_sheet 92 1 (.iadd) 93 := ⟨by decide +kernel, rfl⟩
theorem iX11_sheet_93 : zCo zX11_sheet 93 (0) 94 := Or.inl ⟨0, by decide, by decide +kernel, rfl⟩
theorem iX11_sheet_94 : zD zX11_sheet 94 1 (.iastore) 95 := ⟨by decide +kernel, rfl⟩
theorem iX11_sheet_95 : zIn zX11_sheet 95 4 (1) 98 := ⟨by decide, 1, by decide, by decide +kernel, rfl⟩
theorem iX11_sheet_98 : zB zX11_sheet 98 .goto 101 72 := ⟨-26, by decide +kernel, rfl, by decide⟩
theorem iX11_sheet_101 : zCo zX11_sheet 101 (1) 102 := Or.inl ⟨1, by decide, by decide +kernel, rfl⟩
theorem iX11_sheet_102 : zD zX11_sheet 102 1 (.ireturn) 103 := ⟨by decide +kernel, rfl⟩
theorem iX11_cell_0 : zIl zX11_cell 0 1 1 := Or.inl ⟨1, rfl, by decide +kernel, rfl⟩
theorem iX11_cell_1 : zCl zX11_cell 1 .invokestatic zX11_isSheet 4 := ⟨380, by decide +kernel, rfl, Or.inl (zT6_of (i := 120) rfl rfl)⟩
theorem iX11_cell_4 : zB zX11_cell 4 (.ifCond .ne) 7 10 := ⟨6, by decide +kernel, rfl, by decide⟩
theorem iX11_cell_7 : zCo zX11_cell 7 (-2) 9 := Or.inr (Or.inl ⟨-2, by decide, by decide +kernel, rfl⟩)
theorem iX11_cell_9 : zD zX11_cell 9 1 (.ireturn) 10 := ⟨by decide +kernel, rfl⟩
theorem iX11_cell_10 : zAl zX11_cell 10 0 11 := Or.inl ⟨0, rfl, by decide +kernel, rfl⟩
theorem iX11_cell_11 : zGf zX11_cell 11 11 55 14 := ⟨102, _, _, _, zcf_11, by decide, by decide +kernel, rfl, zT4_of (i := 206) rfl rfl⟩
theorem iX11_cell_14 : zIl zX11_cell 14 1 15 := Or.inl ⟨1, rfl, by decide +kernel, rfl⟩
theorem iX11_cell_15 : zD zX11_cell 15 1 (.baload) 16 := ⟨by decide +kernel, rfl⟩
theorem iX11_cell_16 : zB zX11_cell 16 (.ifCond .ne) 19 22 := ⟨6, by decide +kernel, rfl, by decide⟩
theorem iX11_cell_19 : zCo zX11_cell 19 (-11) 21 := Or.inr (Or.inl ⟨-11, by decide, by decide +kernel, rfl⟩)
theorem iX11_cell_21 : zD zX11_cell 21 1 (.ireturn) 22 := ⟨by decide +kernel, rfl⟩
theorem iX11_cell_22 : zIl zX11_cell 22 2 23 := Or.inl ⟨2, rfl, by decide +kernel, rfl⟩
theorem iX11_cell_23 : zCo zX11_cell 23 (0) 24 := Or.inl ⟨0, by decide, by decide +kernel, rfl⟩
theorem iX11_cell_24 : zAl zX11_cell 24 0 25 := Or.inl ⟨0, rfl, by decide +kernel, rfl⟩
theorem iX11_cell_25 : zGf zX11_cell 25 11 57 28 := ⟨109, _, _, _, zcf_11, by decide, by decide +kernel, rfl, zT4_of (i := 208) rfl rfl⟩
theorem iX11_cell_28 : zIl zX11_cell 28 1 29 := Or.inl ⟨1, rfl, by decide +kernel, rfl⟩
theorem iX11_cell_29 : zD zX11_cell 29 1 (.iaload) 30 := ⟨by decide +kernel, rfl⟩
theorem iX11_cell_30 : zCo zX11_cell 30 (1) 31 := Or.inl ⟨1, by decide, by decide +kernel, rfl⟩
theorem iX11_cell_31 : zD zX11_cell 31 1 (.isub) 32 := ⟨by decide +kernel, rfl⟩
theorem iX11_cell_32 : zCl zX11_cell 32 .invokestatic zX11_in 35 := ⟨143, by decide +kernel, rfl, Or.inl (zT5_of (i := 95) rfl rfl)⟩
theorem iX11_cell_35 : zB zX11_cell 35 (.ifCond .ne) 38 41 := ⟨6, by decide +kernel, rfl, by decide⟩
theorem iX11_cell_38 : zCo zX11_cell 38 (-12) 40 := Or.inr (Or.inl ⟨-12, by decide, by decide +kernel, rfl⟩)
theorem iX11_cell_40 : zD zX11_cell 40 1 (.ireturn) 41 := ⟨by decide +kernel, rfl⟩
theorem iX11_cell_41 : zAl zX11_cell 41 0 42 := Or.inl ⟨0, rfl, by decide +kernel, rfl⟩
theorem iX11_cell_42 : zGf zX11_cell 42 11 58 45 := ⟨112, _, _, _, zcf_11, by decide, by decide +kernel, rfl, zT4_of (i := 209) rfl rfl⟩
theorem iX11_cell_45 : zCo zX11_cell 45 (40) 47 := Or.inr (Or.inl ⟨40, by decide, by decide +kernel, rfl⟩)
theorem iX11_cell_47 : zIl zX11_cell 47 1 48 := Or.inl ⟨1, rfl, by decide +kernel, rfl⟩
theorem iX11_cell_48 : zD zX11_cell 48 1 (.imul) 49 := ⟨by decide +kernel, rfl⟩
theorem iX11_cell_49 : zIl zX11_cell 49 2 50 := Or.inl ⟨2, rfl, by decide +kernel, rfl⟩
theorem iX11_cell_50 : zD zX11_cell 50 1 (.iadd) 51 := ⟨by decide +kernel, rfl⟩
theorem iX11_cell_51 : zAl zX11_cell 51 0 52 := Or.inl ⟨0, rfl, by decide +kernel, rfl⟩
theorem iX11_cell_52 : zGf zX11_cell 52 11 56 55 := ⟨106, _, _, _, zcf_11, by decide, by decide +kernel, rfl, zT4_of (i := 207) rfl rfl⟩
theorem iX11_cell_55 : zIl zX11_cell 55 1 56 := Or.inl ⟨1, rfl, by decide +kernel, rfl⟩
theorem iX11_cell_56 : zD zX11_cell 56 1 (.iaload) 57 := ⟨by decide +kernel, rfl⟩
theorem iX11_cell_57 : zB zX11_cell 57 (.ifCond .ne) 60 65 := ⟨8, by decide +kernel, rfl, by decide⟩
theorem iX11_cell_60 : zIl zX11_cell 60 3 61 := Or.inl ⟨3, rfl, by decide +kernel, rfl⟩
theorem iX11_cell_61 : zD zX11_cell 61 1 (.i2b) 62 := ⟨by decide +kernel, rfl⟩
theorem iX11_cell_62 : zB zX11_cell 62 .goto 65 81 := ⟨19, by decide +kernel, rfl, by decide⟩
theorem iX11_cell_65 : zAl zX11_cell 65 0 66 := Or.inl ⟨0, rfl, by decide +kernel, rfl⟩
theorem iX11_cell_66 : zGf zX11_cell 66 11 56 69 := ⟨106, _, _, _, zcf_11, by decide, by decide +kernel, rfl, zT4_of (i := 207) rfl rfl⟩
theorem iX11_cell_69 : zIl zX11_cell 69 1 70 := Or.inl ⟨1, rfl, by decide +kernel, rfl⟩
theorem iX11_cell_70 : zD zX11_cell 70 1 (.iaload) 71 := ⟨by decide +kernel, rfl⟩
theorem iX11_cell_71 : zCo zX11_cell 71 (1) 72 := Or.inl ⟨1, by decide, by decide +kernel, rfl⟩
theorem iX11_cell_72 : zB zX11_cell 72 (.if_icmp .ne) 75 80 := ⟨8, by decide +kernel, rfl, by decide⟩
theorem iX11_cell_75 : zIl zX11_cell 75 3 76 := Or.inl ⟨3, rfl, by decide +kernel, rfl⟩
theorem iX11_cell_76 : zD zX11_cell 76 1 (.i2s) 77 := ⟨by decide +kernel, rfl⟩
theorem iX11_cell_77 : zB zX11_cell 77 .goto 80 81 := ⟨4, by decide +kernel, rfl, by decide⟩
theorem iX11_cell_80 : zIl zX11_cell 80 3 81 := Or.inl ⟨3, rfl, by decide +kernel, rfl⟩
theorem iX11_cell_81 : zD zX11_cell 81 1 (.iastore) 82 := ⟨by decide +kernel, rfl⟩
theorem iX11_cell_82 : zCo zX11_cell 82 (1) 83 := Or.inl ⟨1, by decide, by decide +kernel, rfl⟩
theorem iX11_cell_83 : zD zX11_cell 83 1 (.ireturn) 84 := ⟨by decide +kernel, rfl⟩
theorem iX11_cuts_0 : zAl zX11_cuts 0 0 1 := Or.inl ⟨0, rfl, by decide +kernel, rfl⟩
theorem iX11_cuts_1 : zIl zX11_cuts 1 1 2 := Or.inl ⟨1, rfl, by decide +kernel, rfl⟩
theorem iX11_cuts_2 : zCl zX11_cuts 2 .invokevirtual zX11_isMachine 5 := ⟨339, by decide +kernel, rfl, Or.inl (zT6_of (i := 41) rfl rfl)⟩
theorem iX11_cuts_5 : zB zX11_cuts 5 (.ifCond .eq) 8 35 := ⟨30, by decide +kernel, rfl, by decide⟩
theorem iX11_cuts_8 : zIl zX11_cuts 8 2 9 := Or.inl ⟨2, rfl, by decide +kernel, rfl⟩
theorem iX11_cuts_9 : zCl zX11_cuts 9 .invokestatic zX11_isSheet 12 := ⟨380, by decide +kernel, rfl, Or.inl (zT6_of (i := 120) rfl rfl)⟩
theorem iX11_cuts_12 : zB zX11_cuts 12 (.ifCond .eq) 15 35 := ⟨23, by decide +kernel, rfl, by decide⟩
theorem iX11_cuts_15 : zIl zX11_cuts 15 3 16 := Or.inl ⟨3, rfl, by decide +kernel, rfl⟩
theorem iX11_cuts_16 : zCo zX11_cuts 16 (0) 17 := Or.inl ⟨0, by decide, by decide +kernel, rfl⟩
theorem iX11_cuts_17 : zCo zX11_cuts 17 (2) 18 := Or.inl ⟨2, by decide, by decide +kernel, rfl⟩
theorem iX11_cuts_18 : zCl zX11_cuts 18 .invokestatic zX11_in 21 := ⟨143, by decide +kernel, rfl, Or.inl (zT5_of (i := 95) rfl rfl)⟩
theorem iX11_cuts_21 : zB zX11_cuts 21 (.ifCond .eq) 24 35 := ⟨14, by decide +kernel, rfl, by decide⟩
theorem iX11_cuts_24 : zIl zX11_cuts 24 5 26 := Or.inr ⟨by decide +kernel, rfl⟩
theorem iX11_cuts_26 : zCo zX11_cuts 26 (0) 27 := Or.inl ⟨0, by decide, by decide +kernel, rfl⟩
theorem iX11_cuts_27 : zCo zX11_cuts 27 (13) 29 := Or.inr (Or.inl ⟨13, by decide, by decide +kernel, rfl⟩)
theorem iX11_cuts_29 : zCl zX11_cuts 29 .invokestatic zX11_in 32 := ⟨143, by decide +kernel, rfl, Or.inl (zT5_of (i := 95) rfl rfl)⟩
theorem iX11_cuts_32 : zB zX11_cuts 32 (.ifCond .ne) 35 38 := ⟨6, by decide +kernel, rfl, by decide⟩
theorem iX11_cuts_35 : zCo zX11_cuts 35 (-2) 37 := Or.inr (Or.inl ⟨-2, by decide, by decide +kernel, rfl⟩)
theorem iX11_cuts_37 : zD zX11_cuts 37 1 (.ireturn) 38 := ⟨by decide +kernel, rfl⟩
theorem iX11_cuts_38 : zAl zX11_cuts 38 0 39 := Or.inl ⟨0, rfl, by decide +kernel, rfl⟩
theorem iX11_cuts_39 : zGf zX11_cuts 39 11 55 42 := ⟨102, _, _, _, zcf_11, by decide, by decide +kernel, rfl, zT4_of (i := 206) rfl rfl⟩
theorem iX11_cuts_42 : zIl zX11_cuts 42 2 43 := Or.inl ⟨2, rfl, by decide +kernel, rfl⟩
theorem iX11_cuts_43 : zD zX11_cuts 43 1 (.baload) 44 := ⟨by decide +kernel, rfl⟩
theorem iX11_cuts_44 : zB zX11_cuts 44 (.ifCond .eq) 47 60 := ⟨16, by decide +kernel, rfl, by decide⟩
theorem iX11_cuts_47 : zAl zX11_cuts 47 0 48 := Or.inl ⟨0, rfl, by decide +kernel, rfl⟩
theorem iX11_cuts_48 : zGf zX11_cuts 48 11 56 51 := ⟨106, _, _, _, zcf_11, by decide, by decide +kernel, rfl, zT4_of (i := 207) rfl rfl⟩
theorem iX11_cuts_51 : zIl zX11_cuts 51 2 52 := Or.inl ⟨2, rfl, by decide +kernel, rfl⟩
theorem iX11_cuts_52 : zD zX11_cuts 52 1 (.iaload) 53 := ⟨by decide +kernel, rfl⟩
theorem iX11_cuts_53 : zIl zX11_cuts 53 3 54 := Or.inl ⟨3, rfl, by decide +kernel, rfl⟩
theorem iX11_cuts_54 : zB zX11_cuts 54 (.if_icmp .eq) 57 60 := ⟨6, by decide +kernel, rfl, by decide⟩
theorem iX11_cuts_57 : zCo zX11_cuts 57 (-13) 59 := Or.inr (Or.inl ⟨-13, by decide, by decide +kernel, rfl⟩)
theorem iX11_cuts_59 : zD zX11_cuts 59 1 (.ireturn) 60 := ⟨by decide +kernel, rfl⟩
theorem iX11_cuts_60 : zAl zX11_cuts 60 0 61 := Or.inl ⟨0, rfl, by decide +kernel, rfl⟩
theorem iX11_cuts_61 : zGf zX11_cuts 61 11 55 64 := ⟨102, _, _, _, zcf_11, by decide, by decide +kernel, rfl, zT4_of (i := 206) rfl rfl⟩
theorem iX11_cuts_64 : zIl zX11_cuts 64 2 65 := Or.inl ⟨2, rfl, by decide +kernel, rfl⟩
theorem iX11_cuts_65 : zD zX11_cuts 65 1 (.baload) 66 := ⟨by decide +kernel, rfl⟩
theorem iX11_cuts_66 : zB zX11_cuts 66 (.ifCond .ne) 69 72 := ⟨6, by decide +kernel, rfl, by decide⟩
theorem iX11_cuts_69 : zCo zX11_cuts 69 (-11) 71 := Or.inr (Or.inl ⟨-11, by decide, by decide +kernel, rfl⟩)
theorem iX11_cuts_71 : zD zX11_cuts 71 1 (.ireturn) 72 := ⟨by decide +kernel, rfl⟩
theorem iX11_cuts_72 : zIl zX11_cuts 72 5 74 := Or.inr ⟨by decide +kernel, rfl⟩
theorem iX11_cuts_74 : zB zX11_cuts 74 (.ifCond .le) 77 85 := ⟨11, by decide +kernel, rfl, by decide⟩
theorem iX11_cuts_77 : zIl zX11_cuts 77 4 79 := Or.inr ⟨by decide +kernel, rfl⟩
theorem iX11_cuts_79 : zB zX11_cuts 79 (.ifCond .ge) 82 85 := ⟨6, by decide +kernel, rfl, by decide⟩
theorem iX11_cuts_82 : zCo zX11_cuts 82 (-12) 84 := Or.inr (Or.inl ⟨-12, by decide, by decide +kernel, rfl⟩)
theorem iX11_cuts_84 : zD zX11_cuts 84 1 (.ireturn) 85 := ⟨by decide +kernel, rfl⟩
theorem iX11_cuts_85 : zCo zX11_cuts 85 (0) 86 := Or.inl ⟨0, by decide, by decide +kernel, rfl⟩
theorem iX11_cuts_86 : zIs zX11_cuts 86 6 88 := ⟨by decide, Or.inr ⟨by decide +kernel, rfl⟩⟩
theorem iX11_cuts_88 : zCo zX11_cuts 88 (0) 89 := Or.inl ⟨0, by decide, by decide +kernel, rfl⟩
theorem iX11_cuts_89 : zIs zX11_cuts 89 7 91 := ⟨by decide, Or.inr ⟨by decide +kernel, rfl⟩⟩
theorem iX11_cuts_91 : zIl zX11_cuts 91 7 93 := Or.inr ⟨by decide +kernel, rfl⟩
theorem iX11_cuts_93 : zIl zX11_cuts 93 5 95 := Or.inr ⟨by decide +kernel, rfl⟩
theorem iX11_cuts_95 : zB zX11_cuts 95 (.if_icmp .ge) 98 206 := ⟨111, by decide +kernel, rfl, by decide⟩
theorem iX11_cuts_98 : zIl zX11_cuts 98 4 100 := Or.inr ⟨by decide +kernel, rfl⟩
theorem iX11_cuts_100 : zAl zX11_cuts 100 0 101 := Or.inl ⟨0, rfl, by decide +kernel, rfl⟩
theorem iX11_cuts_101 : zGf zX11_cuts 101 11 57 104 := ⟨109, _, _, _, zcf_11, by decide, by decide +kernel, rfl, zT4_of (i := 208) rfl rfl⟩
theorem iX11_cuts_104 : zIl zX11_cuts 104 2 105 := Or.inl ⟨2, rfl, by decide +kernel, rfl⟩
theorem iX11_cuts_105 : zD zX11_cuts 105 1 (.iaload) 106 := ⟨by decide +kernel, rfl⟩
theorem iX11_cuts_106 : zCo zX11_cuts 106 (3) 107 := Or.inl ⟨3, by decide, by decide +kernel, rfl⟩
theorem iX11_cuts_107 : zIl zX11_cuts 107 7 109 := Or.inr ⟨by decide +kernel, rfl⟩
theorem iX11_cuts_109 : zD zX11_cuts 109 1 (.imul) 110 := ⟨by decide +kernel, rfl⟩
theorem iX11_cuts_110 : zD zX11_cuts 110 1 (.isub) 111 := ⟨by decide +kernel, rfl⟩
theorem iX11_cuts_111 : zCo zX11_cuts 111 (3) 112 := Or.inl ⟨3, by decide, by decide +kernel, rfl⟩
theorem iX11_cuts_112 : zD zX11_cuts 112 1 (.isub) 113 := ⟨by decide +kernel, rfl⟩
theorem iX11_cuts_113 : zB zX11_cuts 113 (.if_icmp .le) 116 119 := ⟨6, by decide +kernel, rfl, by decide⟩
theorem iX11_cuts_116 : zCo zX11_cuts 116 (-12) 118 := Or.inr (Or.inl ⟨-12, by decide, by decide +kernel, rfl⟩)
theorem iX11_cuts_118 : zD zX11_cuts 118 1 (.ireturn) 119 := ⟨by decide +kernel, rfl⟩
theorem iX11_cuts_119 : zCo zX11_cuts 119 (40) 121 := Or.inr (Or.inl ⟨40, by decide, by decide +kernel, rfl⟩)
theorem iX11_cuts_121 : zIl zX11_cuts 121 2 122 := Or.inl ⟨2, rfl, by decide +kernel, rfl⟩
theorem iX11_cuts_122 : zD zX11_cuts 122 1 (.imul) 123 := ⟨by decide +kernel, rfl⟩
theorem iX11_cuts_123 : zIl zX11_cuts 123 4 125 := Or.inr ⟨by decide +kernel, rfl⟩
theorem iX11_cuts_125 : zD zX11_cuts 125 1 (.iadd) 126 := ⟨by decide +kernel, rfl⟩
theorem iX11_cuts_126 : zCo zX11_cuts 126 (3) 127 := Or.inl ⟨3, by decide, by decide +kernel, rfl⟩
theorem iX11_cuts_127 : zIl zX11_cuts 127 7 129 := Or.inr ⟨by decide +kernel, rfl⟩
theorem iX11_cuts_129 : zD zX11_cuts 129 1 (.imul) 130 := ⟨by decide +kernel, rfl⟩
theorem iX11_cuts_130 : zD zX11_cuts 130 1 (.iadd) 131 := ⟨by decide +kernel, rfl⟩
theorem iX11_cuts_131 : zIs zX11_cuts 131 8 133 := ⟨by decide, Or.inr ⟨by decide +kernel, rfl⟩⟩
theorem iX11_cuts_133 : zAl zX11_cuts 133 0 134 := Or.inl ⟨0, rfl, by decide +kernel, rfl⟩
theorem iX11_cuts_134 : zGf zX11_cuts 134 11 58 137 := ⟨112, _, _, _, zcf_11, by decide, by decide +kernel, rfl, zT4_of (i := 209) rfl rfl⟩
theorem iX11_cuts_137 : zIl zX11_cuts 137 8 139 := Or.inr ⟨by decide +kernel, rfl⟩
theorem iX11_cuts_139 : zD zX11_cuts 139 1 (.iaload) 140 := ⟨by decide +kernel, rfl⟩
theorem iX11_cuts_140 : zAl zX11_cuts 140 0 141 := Or.inl ⟨0, rfl, by decide +kernel, rfl⟩
theorem iX11_cuts_141 : zGf zX11_cuts 141 11 58 144 := ⟨112, _, _, _, zcf_11, by decide, by decide +kernel, rfl, zT4_of (i := 209) rfl rfl⟩
theorem iX11_cuts_144 : zIl zX11_cuts 144 8 146 := Or.inr ⟨by decide +kernel, rfl⟩
theorem iX11_cuts_146 : zCo zX11_cuts 146 (1) 147 := Or.inl ⟨1, by decide, by decide +kernel, rfl⟩
theorem iX11_cuts_147 : zD zX11_cuts 147 1 (.iadd) 148 := ⟨by decide +kernel, rfl⟩
theorem iX11_cuts_148 : zD zX11_cuts 148 1 (.iaload) 149 := ⟨by decide +kernel, rfl⟩
theorem iX11_cuts_149 : zAl zX11_cuts 149 0 150 := Or.inl ⟨0, rfl, by decide +kernel, rfl⟩
theorem iX11_cuts_150 : zGf zX11_cuts 150 11 58 153 := ⟨112, _, _, _, zcf_11, by decide, by decide +kernel, rfl, zT4_of (i := 209) rfl rfl⟩
theorem iX11_cuts_153 : zIl zX11_cuts 153 8 155 := Or.inr ⟨by decide +kernel, rfl⟩
theorem iX11_cuts_155 : zCo zX11_cuts 155 (2) 156 := Or.inl ⟨2, by decide, by decide +kernel, rfl⟩
theorem iX11_cuts_156 : zD zX11_cuts 156 1 (.iadd) 157 := ⟨by decide +kernel, rfl⟩
theorem iX11_cuts_157 : zD zX11_cuts 157 1 (.iaload) 158 := ⟨by decide +kernel, rfl⟩
theorem iX11_cuts_158 : zCl zX11_cuts 158 .invokestatic zX11_isCut 161 := ⟨353, by decide +kernel, rfl, Or.inl (zT6_of (i := 65) rfl rfl)⟩
theorem iX11_cuts_161 : zB zX11_cuts 161 (.ifCond .eq) 164 200 := ⟨39, by decide +kernel, rfl, by decide⟩
theorem iX11_cuts_164 : zAl zX11_cuts 164 0 165 := Or.inl ⟨0, rfl, by decide +kernel, rfl⟩
theorem iX11_cuts_165 : zIl zX11_cuts 165 1 166 := Or.inl ⟨1, rfl, by decide +kernel, rfl⟩
theorem iX11_cuts_166 : zAl zX11_cuts 166 0 167 := Or.inl ⟨0, rfl, by decide +kernel, rfl⟩
theorem iX11_cuts_167 : zGf zX11_cuts 167 11 58 170 := ⟨112, _, _, _, zcf_11, by decide, by decide +kernel, rfl, zT4_of (i := 209) rfl rfl⟩
theorem iX11_cuts_170 : zIl zX11_cuts 170 8 172 := Or.inr ⟨by decide +kernel, rfl⟩
theorem iX11_cuts_172 : zD zX11_cuts 172 1 (.iaload) 173 := ⟨by decide +kernel, rfl⟩
theorem iX11_cuts_173 : zAl zX11_cuts 173 0 174 := Or.inl ⟨0, rfl, by decide +kernel, rfl⟩
theorem iX11_cuts_174 : zGf zX11_cuts 174 11 58 177 := ⟨112, _, _, _, zcf_11, by decide, by decide +kernel, rfl, zT4_of (i := 209) rfl rfl⟩
theorem iX11_cuts_177 : zIl zX11_cuts 177 8 179 := Or.inr ⟨by decide +kernel, rfl⟩
theorem iX11_cuts_179 : zCo zX11_cuts 179 (1) 180 := Or.inl ⟨1, by decide, by decide +kernel, rfl⟩
theorem iX11_cuts_180 : zD zX11_cuts 180 1 (.iadd) 181 := ⟨by decide +kernel, rfl⟩
theorem iX11_cuts_181 : zD zX11_cuts 181 1 (.iaload) 182 := ⟨by decide +kernel, rfl⟩
theorem iX11_cuts_182 : zAl zX11_cuts 182 0 183 := Or.inl ⟨0, rfl, by decide +kernel, rfl⟩
theorem iX11_cuts_183 : zGf zX11_cuts 183 11 58 186 := ⟨112, _, _, _, zcf_11, by decide, by decide +kernel, rfl, zT4_of (i := 209) rfl rfl⟩
theorem iX11_cuts_186 : zIl zX11_cuts 186 8 188 := Or.inr ⟨by decide +kernel, rfl⟩
theorem iX11_cuts_188 : zCo zX11_cuts 188 (2) 189 := Or.inl ⟨2, by decide, by decide +kernel, rfl⟩
theorem iX11_cuts_189 : zD zX11_cuts 189 1 (.iadd) 190 := ⟨by decide +kernel, rfl⟩
theorem iX11_cuts_190 : zD zX11_cuts 190 1 (.iaload) 191 := ⟨by decide +kernel, rfl⟩
theorem iX11_cuts_191 : zCl zX11_cuts 191 .invokevirtual zX11_cutBy 194 := ⟨356, by decide +kernel, rfl, Or.inl (zT6_of (i := 68) rfl rfl)⟩
theorem iX11_cuts_194 : zB zX11_cuts 194 (.ifCond .lt) 197 200 := ⟨6, by decide +kernel, rfl, by decide⟩
theorem iX11_cuts_197 : zIn zX11_cuts 197 6 (1) 200 := ⟨by decide, 1, by decide, by decide +kernel, rfl⟩
theorem iX11_cuts_200 : zIn zX11_cuts 200 7 (1) 203 := ⟨by decide, 1, by decide, by decide +kernel, rfl⟩
theorem iX11_cuts_203 : zB zX11_cuts 203 .goto 206 91 := ⟨-112, by decide +kernel, rfl, by decide⟩
theorem iX11_cuts_206 : zIl zX11_cuts 206 6 208 := Or.inr ⟨by decide +kernel, rfl⟩
theorem iX11_cuts_208 : zD zX11_cuts 208 1 (.ireturn) 209 := ⟨by decide +kernel, rfl⟩
theorem iX11_over_0 : zIl zX11_over 0 0 1 := Or.inl ⟨0, rfl, by decide +kernel, rfl⟩
theorem iX11_over_1 : zB zX11_over 1 (.ifCond .ne) 4 8 := ⟨7, by decide +kernel, rfl, by decide⟩
theorem iX11_over_4 : zCo zX11_over 4 (-1) 5 := Or.inl ⟨-1, by decide, by decide +kernel, rfl⟩
theorem iX11_over_5 : zB zX11_over 5 .goto 8 32 := ⟨27, by decide +kernel, rfl, by decide⟩
theorem iX11_over_8 : zIl zX11_over 8 0 9 := Or.inl ⟨0, rfl, by decide +kernel, rfl⟩
theorem iX11_over_9 : zCo zX11_over 9 (2) 10 := Or.inl ⟨2, by decide, by decide +kernel, rfl⟩
theorem iX11_over_10 : zB zX11_over 10 (.if_icmp .eq) 13 18 := ⟨8, by decide +kernel, rfl, by decide⟩
theorem iX11_over_13 : zIl zX11_over 13 0 14 := Or.inl ⟨0, rfl, by decide +kernel, rfl⟩
theorem iX11_over_14 : zCo zX11_over 14 (5) 15 := Or.inl ⟨5, by decide, by decide +kernel, rfl⟩
theorem iX11_over_15 : zB zX11_over 15 (.if_icmp .ne) 18 22 := ⟨7, by decide +kernel, rfl, by decide⟩
theorem iX11_over_18 : zCo zX11_over 18 (1) 19 := Or.inl ⟨1, by decide, by decide +kernel, rfl⟩
theorem iX11_over_19 : zB zX11_over 19 .goto 22 32 := ⟨13, by decide +kernel, rfl, by decide⟩
theorem iX11_over_22 : zIl zX11_over 22 0 23 := Or.inl ⟨0, rfl, by decide +kernel, rfl⟩
theorem iX11_over_23 : zCo zX11_over 23 (4) 24 := Or.inl ⟨4, by decide, by decide +kernel, rfl⟩
theorem iX11_over_24 : zB zX11_over 24 (.if_icmp .ne) 27 31 := ⟨7, by decide +kernel, rfl, by decide⟩
theorem iX11_over_27 : zCo zX11_over 27 (3) 28 := Or.inl ⟨3, by decide, by decide +kernel, rfl⟩
theorem iX11_over_28 : zB zX11_over 28 .goto 31 32 := ⟨4, by decide +kernel, rfl, by decide⟩
theorem iX11_over_31 : zCo zX11_over 31 (0) 32 := Or.inl ⟨0, by decide, by decide +kernel, rfl⟩
theorem iX11_over_32 : zD zX11_over 32 1 (.ireturn) 33 := ⟨by decide +kernel, rfl⟩
theorem iX11_taken_0 : zIl zX11_taken 0 2 1 := Or.inl ⟨2, rfl, by decide +kernel, rfl⟩
theorem iX11_taken_1 : zCo zX11_taken 1 (0) 2 := Or.inl ⟨0, by decide, by decide +kernel, rfl⟩
theorem iX11_taken_2 : zCo zX11_taken 2 (5) 3 := Or.inl ⟨5, by decide, by decide +kernel, rfl⟩
theorem iX11_taken_3 : zCl zX11_taken 3 .invokestatic zX11_in 6 := ⟨143, by decide +kernel, rfl, Or.inl (zT5_of (i := 95) rfl rfl)⟩
theorem iX11_taken_6 : zB zX11_taken 6 (.ifCond .ne) 9 12 := ⟨6, by decide +kernel, rfl, by decide⟩
theorem iX11_taken_9 : zCo zX11_taken 9 (-2) 11 := Or.inr (Or.inl ⟨-2, by decide, by decide +kernel, rfl⟩)
theorem iX11_taken_11 : zD zX11_taken 11 1 (.ireturn) 12 := ⟨by decide +kernel, rfl⟩
theorem iX11_taken_12 : zAl zX11_taken 12 0 13 := Or.inl ⟨0, rfl, by decide +kernel, rfl⟩
theorem iX11_taken_13 : zIl zX11_taken 13 1 14 := Or.inl ⟨1, rfl, by decide +kernel, rfl⟩
theorem iX11_taken_14 : zCl zX11_taken 14 .invokevirtual zX11_isEdge 17 := ⟨151, by decide +kernel, rfl, Or.inl (zT5_of (i := 105) rfl rfl)⟩
theorem iX11_taken_17 : zB zX11_taken 17 (.ifCond .ne) 20 23 := ⟨6, by decide +kernel, rfl, by decide⟩
theorem iX11_taken_20 : zCo zX11_taken 20 (-11) 22 := Or.inr (Or.inl ⟨-11, by decide, by decide +kernel, rfl⟩)
theorem iX11_taken_22 : zD zX11_taken 22 1 (.ireturn) 23 := ⟨by decide +kernel, rfl⟩
theorem iX11_taken_23 : zAl zX11_taken 23 0 24 := Or.inl ⟨0, rfl, by decide +kernel, rfl⟩
theorem iX11_taken_24 : zGf zX11_taken 24 11 2 27 := ⟨13, _, _, _, zcf_11, by decide, by decide +kernel, rfl, zT4_of (i := 153) rfl rfl⟩
theorem iX11_taken_27 : zIl zX11_taken 27 1 28 := Or.inl ⟨1, rfl, by decide +kernel, rfl⟩
theorem iX11_taken_28 : zD zX11_taken 28 1 (.iaload) 29 := ⟨by decide +kernel, rfl⟩
theorem iX11_taken_29 : zIs zX11_taken 29 3 30 := ⟨by decide, Or.inl ⟨3, rfl, by decide +kernel, rfl⟩⟩
theorem iX11_taken_30 : zIl zX11_taken 30 3 31 := Or.inl ⟨3, rfl, by decide +kernel, rfl⟩
theorem iX11_taken_31 : zCo zX11_taken 31 (-1) 32 := Or.inl ⟨-1, by decide, by decide +kernel, rfl⟩
theorem iX11_taken_32 : zB zX11_taken 32 (.if_icmp .eq) 35 48 := ⟨16, by decide +kernel, rfl, by decide⟩
theorem iX11_taken_35 : zIl zX11_taken 35 3 36 := Or.inl ⟨3, rfl, by decide +kernel, rfl⟩
theorem iX11_taken_36 : zIl zX11_taken 36 2 37 := Or.inl ⟨2, rfl, by decide +kernel, rfl⟩
theorem iX11_taken_37 : zB zX11_taken 37 (.if_icmp .eq) 40 48 := ⟨11, by decide +kernel, rfl, by decide⟩
theorem iX11_taken_40 : zIl zX11_taken 40 3 41 := Or.inl ⟨3, rfl, by decide +kernel, rfl⟩
theorem iX11_taken_41 : zCl zX11_taken 41 .invokestatic zX11_over 44 := ⟨383, by decide +kernel, rfl, Or.inl (zT6_of (i := 135) rfl rfl)⟩
theorem iX11_taken_44 : zIs zX11_taken 44 3 45 := ⟨by decide, Or.inl ⟨3, rfl, by decide +kernel, rfl⟩⟩
theorem iX11_taken_45 : zB zX11_taken 45 .goto 48 30 := ⟨-15, by decide +kernel, rfl, by decide⟩
theorem iX11_taken_48 : zIl zX11_taken 48 3 49 := Or.inl ⟨3, rfl, by decide +kernel, rfl⟩
theorem iX11_taken_49 : zIl zX11_taken 49 2 50 := Or.inl ⟨2, rfl, by decide +kernel, rfl⟩
theorem iX11_taken_50 : zB zX11_taken 50 (.if_icmp .ne) 53 62 := ⟨12, by decide +kernel, rfl, by decide⟩
theorem iX11_taken_53 : zAl zX11_taken 53 0 54 := Or.inl ⟨0, rfl, by decide +kernel, rfl⟩
theorem iX11_taken_54 : zGf zX11_taken 54 11 3 57 := ⟨17, _, _, _, zcf_11, by decide, by decide +kernel, rfl, zT4_of (i := 154) rfl rfl⟩
theorem iX11_taken_57 : zIl zX11_taken 57 1 58 := Or.inl ⟨1, rfl, by decide +kernel, rfl⟩
theorem iX11_taken_58 : zD zX11_taken 58 1 (.iaload) 59 := ⟨by decide +kernel, rfl⟩
theorem iX11_taken_59 : zB zX11_taken 59 .goto 62 64 := ⟨5, by decide +kernel, rfl, by decide⟩
theorem iX11_taken_62 : zCo zX11_taken 62 (-13) 64 := Or.inr (Or.inl ⟨-13, by decide, by decide +kernel, rfl⟩)
theorem iX11_taken_64 : zD zX11_taken 64 1 (.ireturn) 65 := ⟨by decide +kernel, rfl⟩
