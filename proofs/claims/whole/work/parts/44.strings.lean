theorem iJ0_length_8abf5_0 : zAl zJ0_length_8abf5 0 0 1 := Or.inl ⟨0, rfl, by decide +kernel, rfl⟩
theorem iJ0_length_8abf5_4 : zD zJ0_length_8abf5 4 1 (.arraylength) 5 := ⟨by decide +kernel, rfl⟩
theorem iJ0_length_8abf5_5 : zAl zJ0_length_8abf5 5 0 6 := Or.inl ⟨0, rfl, by decide +kernel, rfl⟩
theorem iJ0_length_8abf5_6 : zCl zJ0_length_8abf5 6 .invokevirtual zJ0_coder_7d493 9 := ⟨335, by decide +kernel, rfl, Or.inl (zT1_of (i := 183) rfl rfl)⟩
theorem iJ0_length_8abf5_9 : zD zJ0_length_8abf5 9 1 (.ishr) 10 := ⟨by decide +kernel, rfl⟩
theorem iJ0_length_8abf5_10 : zD zJ0_length_8abf5 10 1 (.ireturn) 11 := ⟨by decide +kernel, rfl⟩
theorem iJ0_coder_7d493_3 : zB zJ0_coder_7d493 3 (.ifCond .eq) 6 13 := ⟨10, by decide +kernel, rfl, by decide⟩
theorem iJ0_coder_7d493_6 : zAl zJ0_coder_7d493 6 0 7 := Or.inl ⟨0, rfl, by decide +kernel, rfl⟩
theorem iJ0_coder_7d493_10 : zB zJ0_coder_7d493 10 .goto 13 14 := ⟨4, by decide +kernel, rfl, by decide⟩
theorem iJ0_coder_7d493_13 : zCo zJ0_coder_7d493 13 (1) 14 := Or.inl ⟨1, by decide, by decide +kernel, rfl⟩
theorem iJ0_coder_7d493_14 : zD zJ0_coder_7d493 14 1 (.ireturn) 15 := ⟨by decide +kernel, rfl⟩
theorem iJ0_charAt_5068e_0 : zAl zJ0_charAt_5068e 0 0 1 := Or.inl ⟨0, rfl, by decide +kernel, rfl⟩
theorem iJ0_charAt_5068e_1 : zCl zJ0_charAt_5068e 1 .invokevirtual zJ0_isLatin1_aae02 4 := ⟨492, by decide +kernel, rfl, Or.inl (zT1_of (i := 193) rfl rfl)⟩
theorem iJ0_charAt_5068e_4 : zB zJ0_charAt_5068e 4 (.ifCond .eq) 7 16 := ⟨12, by decide +kernel, rfl, by decide⟩
theorem iJ0_charAt_5068e_7 : zAl zJ0_charAt_5068e 7 0 8 := Or.inl ⟨0, rfl, by decide +kernel, rfl⟩
theorem iJ0_charAt_5068e_11 : zIl zJ0_charAt_5068e 11 1 12 := Or.inl ⟨1, rfl, by decide +kernel, rfl⟩
theorem iJ0_charAt_5068e_12 : zCl zJ0_charAt_5068e 12 .invokestatic zJ1_charAt_3b067 15 := ⟨495, by decide +kernel, rfl, Or.inl (zT1_of (i := 197) rfl rfl)⟩
theorem iJ0_charAt_5068e_15 : zD zJ0_charAt_5068e 15 1 (.ireturn) 16 := ⟨by decide +kernel, rfl⟩
theorem iJ0_isLatin1_aae02_3 : zB zJ0_isLatin1_aae02 3 (.ifCond .eq) 6 17 := ⟨14, by decide +kernel, rfl, by decide⟩
theorem iJ0_isLatin1_aae02_6 : zAl zJ0_isLatin1_aae02 6 0 7 := Or.inl ⟨0, rfl, by decide +kernel, rfl⟩
theorem iJ0_isLatin1_aae02_10 : zB zJ0_isLatin1_aae02 10 (.ifCond .ne) 13 17 := ⟨7, by decide +kernel, rfl, by decide⟩
theorem iJ0_isLatin1_aae02_13 : zCo zJ0_isLatin1_aae02 13 (1) 14 := Or.inl ⟨1, by decide, by decide +kernel, rfl⟩
theorem iJ0_isLatin1_aae02_14 : zB zJ0_isLatin1_aae02 14 .goto 17 18 := ⟨4, by decide +kernel, rfl, by decide⟩
theorem iJ0_isLatin1_aae02_17 : zCo zJ0_isLatin1_aae02 17 (0) 18 := Or.inl ⟨0, by decide, by decide +kernel, rfl⟩
theorem iJ0_isLatin1_aae02_18 : zD zJ0_isLatin1_aae02 18 1 (.ireturn) 19 := ⟨by decide +kernel, rfl⟩
theorem iJ0_checkIndex_df160_0 : zIl zJ0_checkIndex_df160 0 0 1 := Or.inl ⟨0, rfl, by decide +kernel, rfl⟩
theorem iJ0_checkIndex_df160_1 : zIl zJ0_checkIndex_df160 1 1 2 := Or.inl ⟨1, rfl, by decide +kernel, rfl⟩
theorem iJ0_checkIndex_df160_5 : zCl zJ0_checkIndex_df160 5 .invokestatic zJ3_checkIndex_8e157 8 := ⟨1059, by decide +kernel, rfl, Or.inl (zT1_of (i := 205) rfl rfl)⟩
theorem iJ0_checkIndex_df160_8 : zD zJ0_checkIndex_df160 8 1 (.pop) 9 := ⟨by decide +kernel, rfl⟩
theorem iJ0_checkIndex_df160_9 : zD zJ0_checkIndex_df160 9 1 (.return_) 10 := ⟨by decide +kernel, rfl⟩
theorem iJ1_charAt_3b067_0 : zIl zJ1_charAt_3b067 0 1 1 := Or.inl ⟨1, rfl, by decide +kernel, rfl⟩
theorem iJ1_charAt_3b067_1 : zAl zJ1_charAt_3b067 1 0 2 := Or.inl ⟨0, rfl, by decide +kernel, rfl⟩
theorem iJ1_charAt_3b067_2 : zD zJ1_charAt_3b067 2 1 (.arraylength) 3 := ⟨by decide +kernel, rfl⟩
theorem iJ1_charAt_3b067_3 : zCl zJ1_charAt_3b067 3 .invokestatic zJ0_checkIndex_df160 6 := ⟨9, by decide +kernel, rfl, Or.inl (zT1_of (i := 200) rfl rfl)⟩
theorem iJ1_charAt_3b067_6 : zAl zJ1_charAt_3b067 6 0 7 := Or.inl ⟨0, rfl, by decide +kernel, rfl⟩
theorem iJ1_charAt_3b067_7 : zIl zJ1_charAt_3b067 7 1 8 := Or.inl ⟨1, rfl, by decide +kernel, rfl⟩
theorem iJ1_charAt_3b067_8 : zD zJ1_charAt_3b067 8 1 (.baload) 9 := ⟨by decide +kernel, rfl⟩
theorem iJ1_charAt_3b067_9 : zCo zJ1_charAt_3b067 9 (255) 12 := Or.inr (Or.inr (Or.inl ⟨255, by decide, by decide +kernel, rfl⟩))
theorem iJ1_charAt_3b067_12 : zD zJ1_charAt_3b067 12 1 (.iand) 13 := ⟨by decide +kernel, rfl⟩
theorem iJ1_charAt_3b067_13 : zD zJ1_charAt_3b067 13 1 (.i2c) 14 := ⟨by decide +kernel, rfl⟩
theorem iJ1_charAt_3b067_14 : zD zJ1_charAt_3b067 14 1 (.ireturn) 15 := ⟨by decide +kernel, rfl⟩
theorem iJ3_checkIndex_8e157_0 : zIl zJ3_checkIndex_8e157 0 0 1 := Or.inl ⟨0, rfl, by decide +kernel, rfl⟩
theorem iJ3_checkIndex_8e157_1 : zB zJ3_checkIndex_8e157 1 (.ifCond .lt) 4 9 := ⟨8, by decide +kernel, rfl, by decide⟩
theorem iJ3_checkIndex_8e157_4 : zIl zJ3_checkIndex_8e157 4 0 5 := Or.inl ⟨0, rfl, by decide +kernel, rfl⟩
theorem iJ3_checkIndex_8e157_5 : zIl zJ3_checkIndex_8e157 5 1 6 := Or.inl ⟨1, rfl, by decide +kernel, rfl⟩
theorem iJ3_checkIndex_8e157_6 : zB zJ3_checkIndex_8e157 6 (.if_icmp .lt) 9 16 := ⟨10, by decide +kernel, rfl, by decide⟩
theorem iJ3_checkIndex_8e157_16 : zIl zJ3_checkIndex_8e157 16 0 17 := Or.inl ⟨0, rfl, by decide +kernel, rfl⟩
theorem iJ3_checkIndex_8e157_17 : zD zJ3_checkIndex_8e157 17 1 (.ireturn) 18 := ⟨by decide +kernel, rfl⟩
theorem zmJ0_checkIndex_df160 : zMs zJ0_checkIndex_df160 2 := ⟨zT1_of (i := 201) rfl rfl, zT1_of (i := 9) rfl rfl, zT1_of (i := 202) rfl rfl, ⟨by decide, by decide, by decide +kernel⟩, by decide⟩
theorem zmJ1_charAt_3b067 : zMs zJ1_charAt_3b067 2 := ⟨zT1_of (i := 198) rfl rfl, zT1_of (i := 10) rfl rfl, zT1_of (i := 199) rfl rfl, ⟨by decide, by decide, by decide +kernel⟩, by decide⟩
theorem zmJ3_checkIndex_8e157 : zMs zJ3_checkIndex_8e157 3 := ⟨zT1_of (i := 206) rfl rfl, zT1_of (i := 11) rfl rfl, zT1_of (i := 207) rfl rfl, ⟨by decide, by decide, by decide +kernel⟩, by decide⟩
def zMvS (Y : zY) (na : Nat) : Prop := Cond.instanceMethod Y.1 ∈ zTW ∧ Cond.selects "java/lang/String" Y.1 Y.1 ∈ zTW ∧ Cond.initialized Y.1.cls ∈ zTW ∧ Cond.code Y.1 Y.2.1 Y.2.2.1 Y.2.2.2 ∈ zTW ∧ (Y.1.cls ≠ "java/lang/invoke/MethodHandle" ∧ Y.1.cls ≠ "java/lang/invoke/VarHandle" ∧ (parseMethodDescriptor Y.1.desc).map (fun d => d.parameters.length) = some na) ∧ Y.2.2.1 ≤ 22
theorem zmJ0_length_8abf5 : zMvS zJ0_length_8abf5 0 := ⟨zT1_of (i := 180) rfl rfl, zT1_of (i := 181) rfl rfl, zT1_of (i := 9) rfl rfl, zT1_of (i := 182) rfl rfl, ⟨by decide, by decide, by decide +kernel⟩, by decide⟩
theorem zmJ0_coder_7d493 : zMvS zJ0_coder_7d493 0 := ⟨zT1_of (i := 184) rfl rfl, zT1_of (i := 185) rfl rfl, zT1_of (i := 9) rfl rfl, zT1_of (i := 186) rfl rfl, ⟨by decide, by decide, by decide +kernel⟩, by decide⟩
theorem zmJ0_charAt_5068e : zMvS zJ0_charAt_5068e 1 := ⟨zT1_of (i := 190) rfl rfl, zT1_of (i := 191) rfl rfl, zT1_of (i := 9) rfl rfl, zT1_of (i := 192) rfl rfl, ⟨by decide, by decide, by decide +kernel⟩, by decide⟩
theorem zmJ0_isLatin1_aae02 : zMvS zJ0_isLatin1_aae02 0 := ⟨zT1_of (i := 194) rfl rfl, zT1_of (i := 195) rfl rfl, zT1_of (i := 9) rfl rfl, zT1_of (i := 196) rfl rfl, ⟨by decide, by decide, by decide +kernel⟩, by decide⟩
section ZJ
variable {Y Y' : zY} {fr fr' cm sm cm' sm' pc n na : Nat} {ls : zLs} {st : List zVal} {M : zM} {Q Q1 : Option zVal → zM → Prop} {As : List zVal}
/-- String.COMPACT_STRINGS -/
theorem z_gsC {idx : Nat} (hd : decode Y.2.1 pc = .ok (.getstatic idx, 3)) (hl : Cond.fieldLink Y.1.cls idx "java/lang/String" "COMPACT_STRINGS" "Z" ∈ zTW) (kk : zV Y fr cm sm (pc + 3) ls (zi 1 :: st) M Q) : zV Y fr cm sm pc ls st M Q :=
  z_pure kk (fun P k2 => va_gets P.x P.b P.1.2.2.2.2.2.2.2.2.2.1.2.1 P.2.2.1 P.o (P.w _ hl) (fun _ h => h) hd (k2 _ P.L (okS.c trivial P.sk)))
/-- fields of a literal -/
theorem z_gfS {idx k : Nat} (hk : k < 13) (hd : decode Y.2.1 pc = .ok (.getfield idx, 3)) (hl : Cond.fieldLink Y.1.cls idx "java/lang/String" "value" "[B" ∈ zTW) (kk : zV Y fr cm sm (pc + 3) ls (zr (0, 100 + k) :: st) M Q) : zV Y fr cm sm pc ls (zr (0, k) :: st) M Q := by
  refine z_pure kk (fun {G p l e s m args below meth c H locs cells slots θ0 M0 θ lsA R Z} P k2 => ?_)
  have h2 := k2 _ P.L (okS.c (Or.inl rfl) P.sk.t)
  have e1 : (zr (0, k) :: st).map (zc θ) = .ref (G.2.2.2.1 k) :: st.map (zc θ) := by rw [← P.2.2.2.2.1.2.2 k]; rfl
  have e2 : (zr (0, 100 + k) :: st).map (zc θ) = .ref (G.2.2.2.1 (100 + k)) :: st.map (zc θ) := by rw [← P.2.2.2.2.1.2.2 (100 + k)]; rfl
  rw [e1]
  rw [e2] at h2
  exact vk_getf P.x P.b (P.1.2.2.2.2.2.2.2.2.2.1.1.1 k hk).2.2.1 P.2.2.1 P.o (P.w _ hl) (fun _ h => h) hd h2
theorem z_gfC {idx k : Nat} (hk : k < 13) (hd : decode Y.2.1 pc = .ok (.getfield idx, 3)) (hl : Cond.fieldLink Y.1.cls idx "java/lang/String" "coder" "B" ∈ zTW) (kk : zV Y fr cm sm (pc + 3) ls (zi 0 :: st) M Q) : zV Y fr cm sm pc ls (zr (0, k) :: st) M Q := by
  refine z_pure kk (fun {G p l e s m args below meth c H locs cells slots θ0 M0 θ lsA R Z} P k2 => ?_)
  have h2 := k2 _ P.L (okS.c trivial P.sk.t)
  have e1 : (zr (0, k) :: st).map (zc θ) = .ref (G.2.2.2.1 k) :: st.map (zc θ) := by rw [← P.2.2.2.2.1.2.2 k]; rfl
  rw [e1]
  exact vk_getf P.x P.b (P.1.2.2.2.2.2.2.2.2.2.1.1.1 k hk).2.1 P.2.2.1 P.o (P.w _ hl) (fun _ h => h) hd h2
/-- a literal's bytes -/
theorem z_alenS {k : Nat} (hk : k < 13) (hd : zD Y pc 1 .arraylength n) (kk : zV Y fr cm sm n ls (zi (Int32.ofNat (zLen.getD k 0)) :: st) M Q) : zV Y fr cm sm pc ls (zr (0, 100 + k) :: st) M Q := by
  obtain ⟨hd, rfl⟩ := hd
  refine z_pure kk (fun {G p l e s m args below meth c H locs cells slots θ0 M0 θ lsA R Z} P k2 => ?_)
  have h2 := k2 _ P.L (okS.c trivial P.sk.t)
  have e2 : (zr (0, 100 + k) :: st).map (zc θ) = .ref (G.2.2.2.1 (100 + k)) :: st.map (zc θ) := by rw [← P.2.2.2.2.1.2.2 (100 + k)]; rfl
  rw [e2]
  exact va_tlen P.x P.b (P.1.2.2.2.2.2.2.2.2.2.1.1.1 k hk).2.2.2 P.2.2.1 rfl hd h2
theorem z_baldS {k j : Nat} {i : Int32} (hk : k < 13) (hd : zD Y pc 1 .baload n) (hi : i.toInt = (j : Int)) (hj : j < zLen.getD k 0) (kk : zV Y fr cm sm n ls (zi ((zByt.getD k []).getD j 0) :: st) M Q) : zV Y fr cm sm pc ls (zi i :: zr (0, 100 + k) :: st) M Q := by
  obtain ⟨hd, rfl⟩ := hd
  refine z_pure kk (fun {G p l e s m args below meth c H locs cells slots θ0 M0 θ lsA R Z} P k2 => ?_)
  have h2 := k2 _ P.L (okS.c trivial P.sk.t.t)
  have e2 : (zi i :: zr (0, 100 + k) :: st).map (zc θ) = .int i :: .ref (G.2.2.2.1 (100 + k)) :: st.map (zc θ) := by rw [← P.2.2.2.2.1.2.2 (100 + k)]; rfl
  rw [e2]
  rw [← z_clamp hi] at h2
  exact va_tb P.x P.b (P.1.2.2.2.2.2.2.2.2.2.1.1.1 k hk).2.2.2 P.2.2.1 (z_within hi hj) rfl hd h2
/-- a call of a method of a literal -/
theorem z_cvS {k : Nat} (hk : k < 13) (hd : zCl Y pc .invokevirtual Y' n) (hm : zMvS Y' na) (hY : Y'.1.cls = "java/lang/String") (hn : As.length = na) (hw : zWd st ≤ 8) (hfr : fr' + 1 ≤ fr) (hnest : ∀ q ∈ zNest, q.2.2.1 ≠ Y'.1) (hc : zC Y' fr' cm sm (zr (0, k) :: As) M Q1) (kk : ∀ r M1, Q1 r M1 → zV Y fr cm' sm' n ls (r.toList ++ st) M1 Q) : zV Y fr (cm + cm') (sm + sm') pc ls (As.reverse ++ zr (0, k) :: st) M Q := by
  obtain ⟨r, M1, hq, hc⟩ := hc
  obtain ⟨idx, hd, rfl, hl⟩ := hd
  obtain ⟨m1, m2, m3, m4, m5, m6⟩ := hm
  refine z_callG (kk r M1 hq) rfl (fun h => h.rev.2.2) (fun {G p l e s m args below meth c H locs cells slots θ0 M0 θ lsA R} P => ?_)
  obtain ⟨a1, a2, a3⟩ := P.sk.rev
  have hM' := hc G l θ (okS.c a2 a1)
  have hts := P.w
  have hrecv : ∃ cell : Cell, H[θ (0, k)]? = some cell ∧ cell.vm.isStatics = false ∧ s.vm.findClass "java/lang/String" = some cell.cls := by
    rw [P.2.2.2.2.1.2.2 k]
    exact vk_recv P.1.2.2.2.2.2.2.2.2.2.1.1 hk P.2.2.1
  have hroom : 2 * (F0 m pc lsA ((As.reverse ++ zr (0, k) :: st).map (zc θ))).monitorRoom + ((st.map (zc θ)).map fun v => v.category).sum ≤ 8 := lv_room (by rw [zWd_sum]; exact hw)
  rcases hl with hl | ⟨host, hl⟩
  · exact ⟨_, va_runV (b := θ (0, k)) (C := "java/lang/String") (As := As.map (zc θ)) (rest := st.map (zc θ)) ⟨P.x, P.b, P.1.2.2.1, P.o, hts⟩ hM' ⟨zCW hts m3 m4 hl m5 m6 ⟨hfr, P.2.1.1, P.2.1.2.1⟩, hts _ m1, hts _ m2⟩ ⟨z_blind, hrecv, P.hand _⟩ rfl (by rw [List.length_map]; exact hn) P.L.1 (by simp [zc, List.map_reverse]) hroom hd ⟨by have := P.2.1.2.2.1; omega, by have := P.2.1.2.2.2; omega⟩⟩
  · exact absurd rfl (hnest _ hl)
theorem z_cvS0 {k : Nat} {P : Int32 → zM → Prop} (hk : k < 13) (hd : zCl Y pc .invokevirtual Y' n) (hm : zMvS Y' 0) (hY : Y'.1.cls = "java/lang/String") (hnest : ∀ q ∈ zNest, q.2.2.1 ≠ Y'.1) (hc : zCi Y' fr' 0 0 [zr (0, k)] M P) (hfr : fr' + 1 ≤ fr) (hw : zWd st ≤ 8) (kk : ∀ x M1, P x M1 → zV Y fr cm sm n ls (zi x :: st) M1 Q) : zV Y fr cm sm pc ls (zr (0, k) :: st) M Q := by
  have h := z_cvS (As := []) (cm' := cm) (sm' := sm) (ls := ls) (Q := Q) hk hd hm hY rfl hw hfr hnest hc (fun r M1 ⟨x, e, hp⟩ => by subst e; exact kk x M1 hp)
  rw [Nat.zero_add, Nat.zero_add] at h
  exact h
theorem z_cvS1 {k : Nat} {v1 : zVal} {P : Int32 → zM → Prop} (hk : k < 13) (hd : zCl Y pc .invokevirtual Y' n) (hm : zMvS Y' 1) (hY : Y'.1.cls = "java/lang/String") (hnest : ∀ q ∈ zNest, q.2.2.1 ≠ Y'.1) (hc : zCi Y' fr' 0 0 [zr (0, k), v1] M P) (hfr : fr' + 1 ≤ fr) (hw : zWd st ≤ 8) (kk : ∀ x M1, P x M1 → zV Y fr cm sm n ls (zi x :: st) M1 Q) : zV Y fr cm sm pc ls (v1 :: zr (0, k) :: st) M Q := by
  have h := z_cvS (As := [v1]) (cm' := cm) (sm' := sm) (ls := ls) (Q := Q) hk hd hm hY rfl hw hfr hnest hc (fun r M1 ⟨x, e, hp⟩ => by subst e; exact kk x M1 hp)
  rw [Nat.zero_add, Nat.zero_add] at h
  exact h
/-- from a method's entry, one thing more handed over that nobody asks for -/
theorem z_enterX {L : List (Option zVal)} {w : Value} {r : Option zVal} {M' : zM} (hL : zen As = L) (hpn : plainName Y.1.cls = true) (hn : L.length + 1 ≤ Y.2.2.1) (hw : w.category = 1) (hk : zT Y fr cm sm 0 (zL L) [] M r M') : ∀ (G : zG) (l : Launch) (θ : zAd → Nat), okS M As → Met l Y.1 (zws Y) (zRm fr cm sm) (va_Pc (As.map (zc θ) ++ [w]) (fun U => zK G U ∧ zS G U U.heap ∧ zR G θ M U.heap ∧ G.2.2.1 ≤ U.heap.size)) (zQc G θ M r M') cm sm (zA G) := by
  subst hL
  intro G l θ hAs
  refine Met.ofW (cc := Y.2.1) (maxL := Y.2.2.1) (ret := Y.2.2.2) hpn rfl ?_
  intro p e s m args below meth c s₁ B hml hv
  obtain ⟨rfl, hK, hS, hR, hb0⟩ := hv
  have hts := atoms_spec (ws := zws Y) B.pre
  rw [lg_entry_eq]
  have e0 : (lg_sl (As.map (zc θ) ++ [w])).length = (lg_sl (As.map (zc θ))).length + 1 := by
    unfold lg_sl
    simp [hw]
  have hle : (lg_sl (As.map (zc θ) ++ [w])).length ≤ Y.2.2.1 := by rw [e0, zen_len]; exact hn
  have hl := lv_entry (As.map (zc θ) ++ [w]) (n := Y.2.2.1) hle
  have h9 := hk (G := G) (p := p) (l := l) (e := e) (s := s) (m := m) (args := (As.map (zc θ) ++ [w]).toArray) (below := below) (meth := meth) (c := c) (H := s.heap) (locs := []) (cells := 0) (slots := 0) (θ0 := θ) (M0 := M) (θ := θ) (lsA := (lg_sl (As.map (zc θ) ++ [w]) ++ List.replicate (Y.2.2.1 - (lg_sl (As.map (zc θ) ++ [w])).length) Slot.unset).toArray) (R := (headSpec (zws Y) (zRm fr cm sm)).room)
    ⟨⟨B.exec, B.bytes, hml, B.returns, findClass_of_methodNamed B.named, fun h => (name_of_methodNamed B.named B.method).1.trans h, fun w hw => hts w (List.mem_cons_of_mem _ hw), B.notSynchronized, hK, hS, hb0⟩,
      ⟨Nat.le_refl _, Nat.le_refl _, by rw [Nat.zero_add]; exact Nat.le_refl _, by rw [Nat.zero_add]; exact Nat.le_refl _⟩, va_S.rf, zExt.rf, hR, ⟨hl.1, hl.2.1, fun i v hv => ?_⟩, okS.nil⟩
  · rw [Nat.zero_add, Nat.zero_add] at h9
    exact h9
  · have hv2 : (zen As)[i]? = some (some v) := by
      unfold zL at hv
      cases hx : (zen As)[i]? with
      | none => rw [hx] at hv; cases hv
      | some o => rw [hx] at hv; exact congrArg some hv
    obtain ⟨h1, h2⟩ := zen_args θ 0 As i v hv2
    rw [Nat.zero_add] at h1
    have h3 : ∀ (b : List Value) (a : List Value) (j : Nat) (q : Nat × Value), q ∈ lv_args j a → q ∈ lv_args j (a ++ b) := by
      intro b a
      induction a with
      | nil => intro j q hq; exact absurd hq List.not_mem_nil
      | cons x xs ih =>
        intro j q hq
        simp only [lv_args, List.cons_append, List.mem_cons] at hq ⊢
        exact hq.imp id (ih _ _)
    exact ⟨hl.2.2 (i, zc θ v) (h3 [w] _ _ _ h1), hAs v h2⟩
end ZJ
set_option maxRecDepth 20000 in
set_option maxHeartbeats 4000000 in
theorem cj_check {fr : Nat} {M : zM} {x y : Int32} (h0 : 0 ≤ x) (hx : x < y) : zT zJ3_checkIndex_8e157 fr 0 0 0 (zL [some (zi x), some (zi y)]) [] M (some (zi x)) M := by
  have h : zV zJ3_checkIndex_8e157 fr 0 0 0 (zL [some (zi x), some (zi y)]) [] M (fun r M' => r = some (zi x) ∧ M' = M) := by
    refine z_il iJ3_checkIndex_8e157_0 rfl ?_
    refine z_if_lt iJ3_checkIndex_8e157_1 (fun h1 => ?_) (fun h1 => ?_)
    · exfalso
      simp only [zi_le, zi_lt, Int32.reduceToInt] at *
      omega
    · refine z_il iJ3_checkIndex_8e157_4 rfl ?_
      refine z_il iJ3_checkIndex_8e157_5 rfl ?_
      refine z_icmp_lt iJ3_checkIndex_8e157_6 (fun h2 => ?_) (fun h2 => ?_)
      · refine z_il iJ3_checkIndex_8e157_16 rfl ?_
        refine z_iret iJ3_checkIndex_8e157_17 rfl ?_
        exact ⟨rfl, rfl⟩
      · exact absurd hx h2
  obtain ⟨r, M', ⟨h1, h2⟩, h3⟩ := h
  subst h1
  subst h2
  exact @h3
set_option maxRecDepth 20000 in
set_option maxHeartbeats 4000000 in
theorem z_fmt {Y : zY} {fr fr' cm sm pc n : Nat} {ls : zLs} {st : List zVal} {M : zM} {Q : Option zVal → zM → Prop} {x y : Int32} {idx : Nat} (hd1 : decode Y.2.1 pc = .ok (.getstatic idx, 3)) (hl1 : Cond.fieldLink Y.1.cls idx "jdk/internal/util/Preconditions" "SIOOBE_FORMATTER" "Ljava/util/function/BiFunction;" ∈ zTW) (hd2 : zCl Y (pc + 3) .invokestatic zJ3_checkIndex_8e157 n) (h0 : 0 ≤ x) (hx : x < y) (hfr : fr' + 1 ≤ fr) (hw : zWd st ≤ 8) (k : zV Y fr cm sm n ls (zi x :: st) M Q) : zV Y fr cm sm pc ls (zi y :: zi x :: st) M Q := by
  obtain ⟨r2, M', hq, hk⟩ := k
  obtain ⟨idx2, hd2, rfl, hl⟩ := hd2
  refine ⟨r2, M', hq, fun {G p l e s m args below meth c H locs cells slots θ0 M0 θ lsA R} P => ?_⟩
  obtain ⟨v, hcat, hZ⟩ : ∃ v : Value, v.category = 1 ∧ va_Z "jdk/internal/util/Preconditions" "SIOOBE_FORMATTER" "Ljava/util/function/BiFunction;" v (zA G) s s.heap := by
    rcases P.1.2.2.2.2.2.2.2.2.2.1.2.2.1 with h | ⟨t, h⟩
    · exact ⟨_, rfl, h⟩
    · exact ⟨_, rfl, h⟩
  refine va_gets P.x P.b hZ P.2.2.1 P.o (P.w _ hl1) (fun _ h => h) hd1 ?_
  obtain ⟨m2, m3, m4, m5, m6⟩ := zmJ3_checkIndex_8e157
  have hl : Cond.methodLink Y.1.cls idx2 zJ3_checkIndex_8e157.1 ∈ zTW := by
    rcases hl with h | ⟨host, h⟩
    · exact h
    · exact absurd rfl ((by decide +kernel : ∀ q ∈ zNest, q.2.2.1 ≠ zJ3_checkIndex_8e157.1) _ h)
  have hts := P.w
  have hM' := z_enterX (Y := zJ3_checkIndex_8e157) (fr := fr') (cm := 0) (sm := 0) (As := [zi x, zi y]) (w := v) (L := [some (zi x), some (zi y)]) rfl (by decide +kernel) (Nat.le_of_ble_eq_true rfl) hcat (cj_check (M := M) h0 hx) G l θ (okS.c trivial (okS.c trivial okS.nil))
  have hroom : 2 * (F0 m (pc + 3) lsA (v :: .int y :: .int x :: st.map (zc θ))).monitorRoom + ((st.map (zc θ)).map fun v => v.category).sum ≤ 8 := lv_room (by rw [zWd_sum]; exact hw)
  have hr := va_runS (p := p) (l := l) (e := e) (below := below) (meth := meth) (cells := cells) (slots := slots) (locs := locs) (g := F0 m (pc + 3) lsA (v :: .int y :: .int x :: st.map (zc θ))) (As := [.int x, .int y, v]) (rest := st.map (zc θ)) ⟨P.x, P.b, P.1.2.2.1, P.o, hts⟩ hM' ⟨zCW hts m3 m4 hl m5 m6 ⟨hfr, P.2.1.1, P.2.1.2.1⟩, hts _ m2⟩ ⟨z_blind, P.hand _⟩ rfl rfl P.L.1 rfl hroom hd2 ⟨by have := P.2.1.2.2.1; omega, by have := P.2.1.2.2.2; omega⟩
  intro T hT X
  obtain ⟨v2, st₀, t, T', L, h0, X', hL, e1, e2, ⟨θ', hE, ho, hR, hok, hz, hkp⟩, hst⟩ := hr T hT X
  have hv : v2 = (some (zi x)).map (zc θ') := Outcome.returned.inj ho
  rw [h0] at hz hkp
  have hS1 : va_S (zA G) s.heap T'.heap (locs ++ L) := ⟨Nat.le_trans P.2.2.1.1 (by rw [e1]; exact hz), fun q g1 g2 => by rw [e1, hkp q (Nat.lt_of_lt_of_le g1 P.2.2.1.1) g2]; exact P.2.2.1.2.1 q g1 g2, fun q hq => by
    rcases List.mem_append.mp hq with h | h
    · exact P.2.2.1.2.2 q h
    · exact hL q h⟩
  have h9 := hk (G := G) (p := p) (l := l) (e := e) (s := s) (m := m) (args := args) (below := below) (meth := meth) (c := c) (H := T'.heap) (locs := locs ++ L) (cells := cells) (slots := slots) (θ0 := θ0) (M0 := M0) (θ := θ') (lsA := lsA) (R := R)
    ⟨P.1, P.2.1, hS1, P.2.2.2.1.tr hE, by rw [e1]; exact hR, P.L.ext hE, okS.c trivial (P.sk.t.t.up hE.1)⟩
  obtain ⟨t2, a1, b1⟩ := h9 T' rfl X'
  refine ⟨t2, hst t2 ?_, b1⟩
  have e9 : (zi x :: st).map (zc θ') = v2.toList ++ st.map (zc θ) := by
    show zc θ' (zi x) :: st.map (zc θ') = _
    rw [zc.exts hE P.sk.t.t, hv]
    rfl
  rw [e9] at a1
  exact a1
set_option maxRecDepth 20000 in
set_option maxHeartbeats 4000000 in
theorem cj_coder {fr k : Nat} {M : zM} (hk : k < 13) : zCi zJ0_coder_7d493 fr 0 0 [zr (0, k)] M (fun x M' => M' = M ∧ x = 0) := by
  refine z_enter (L := [some (zr (0, k))]) rfl (by decide +kernel) (Nat.le_of_ble_eq_true rfl) ?_
  refine z_gsC (idx := 38) (by decide +kernel) (zT1_of (i := 187) rfl rfl) ?_
  refine z_if_eq iJ0_coder_7d493_3 (fun h1 => absurd h1 (by decide)) (fun _ => ?_)
  refine z_al iJ0_coder_7d493_6 rfl ?_
  refine z_gfC (idx := 15) hk (by decide +kernel) (zT6_of (i := 140) rfl rfl) ?_
  refine z_goto iJ0_coder_7d493_10 ?_
  refine z_zret iJ0_coder_7d493_14 rfl rfl ?_
  exact ⟨_, rfl, rfl, rfl⟩
set_option maxRecDepth 20000 in
set_option maxHeartbeats 4000000 in
theorem cj_latin {fr k : Nat} {M : zM} (hk : k < 13) : zCi zJ0_isLatin1_aae02 fr 0 0 [zr (0, k)] M (fun x M' => M' = M ∧ x = 1) := by
  refine z_enter (L := [some (zr (0, k))]) rfl (by decide +kernel) (Nat.le_of_ble_eq_true rfl) ?_
  refine z_gsC (idx := 38) (by decide +kernel) (zT1_of (i := 187) rfl rfl) ?_
  refine z_if_eq iJ0_isLatin1_aae02_3 (fun h1 => absurd h1 (by decide)) (fun _ => ?_)
  refine z_al iJ0_isLatin1_aae02_6 rfl ?_
  refine z_gfC (idx := 15) hk (by decide +kernel) (zT6_of (i := 140) rfl rfl) ?_
  refine z_if_ne iJ0_isLatin1_aae02_10 (fun h1 => absurd rfl h1) (fun _ => ?_)
  refine z_co iJ0_isLatin1_aae02_13 ?_
  refine z_goto iJ0_isLatin1_aae02_14 ?_
  refine z_zret iJ0_isLatin1_aae02_18 rfl rfl ?_
  exact ⟨_, rfl, rfl, rfl⟩
set_option maxRecDepth 20000 in
set_option maxHeartbeats 4000000 in
theorem cj_length {fr k : Nat} {M : zM} (hk : k < 13) (hf : 1 ≤ fr) : zCi zJ0_length_8abf5 fr 0 0 [zr (0, k)] M (fun x M' => M' = M ∧ x = Int32.ofNat (zLen.getD k 0)) := by
  refine z_enter (L := [some (zr (0, k))]) rfl (by decide +kernel) (Nat.le_of_ble_eq_true rfl) ?_
  refine z_al iJ0_length_8abf5_0 rfl ?_
  refine z_gfS (idx := 9) hk (by decide +kernel) (zT6_of (i := 139) rfl rfl) ?_
  refine z_alenS hk iJ0_length_8abf5_4 ?_
  refine z_al iJ0_length_8abf5_5 rfl ?_
  refine z_cvS0 (fr' := fr - 1) hk iJ0_length_8abf5_6 zmJ0_coder_7d493 rfl (by decide +kernel : ∀ q ∈ zNest, q.2.2.1 ≠ zJ0_coder_7d493.1) (cj_coder hk) (by omega) (Nat.le_of_ble_eq_true rfl) (fun x M1 hq => ?_)
  obtain ⟨rfl, rfl⟩ := hq
  refine z_ishr iJ0_length_8abf5_9 ?_
  refine z_iret iJ0_length_8abf5_10 rfl ?_
  exact ⟨_, rfl, rfl, (by decide +kernel : ∀ k, k < 13 → (Int32.ofNat (zLen.getD k 0)) >>> ((0 : Int32) &&& 31) = Int32.ofNat (zLen.getD k 0)) k hk⟩
set_option maxRecDepth 20000 in
set_option maxHeartbeats 4000000 in
theorem cj_index {fr : Nat} {M : zM} {x y : Int32} (h0 : 0 ≤ x) (hx : x < y) (hf : 1 ≤ fr) : zCv zJ0_checkIndex_df160 fr 0 0 [zi x, zi y] M (fun M' => M' = M) := by
  refine z_enter (L := [some (zi x), some (zi y)]) rfl (by decide +kernel) (Nat.le_of_ble_eq_true rfl) ?_
  refine z_il iJ0_checkIndex_df160_0 rfl ?_
  refine z_il iJ0_checkIndex_df160_1 rfl ?_
  refine z_fmt (fr' := fr - 1) (idx := 1053) (by decide +kernel) (zT1_of (i := 203) rfl rfl) iJ0_checkIndex_df160_5 h0 hx (by omega) (Nat.le_of_ble_eq_true rfl) ?_
  refine z_pop_i iJ0_checkIndex_df160_8 ?_
  refine z_vret iJ0_checkIndex_df160_9 rfl ?_
  exact ⟨rfl, rfl⟩
set_option maxRecDepth 20000 in
set_option maxHeartbeats 4000000 in
theorem cj_charL {fr k j : Nat} {M : zM} (hk : k < 13) {i : Int32} (hi : i.toInt = (j : Int)) (hj : j < zLen.getD k 0) (hf : 2 ≤ fr) : zCi zJ1_charAt_3b067 fr 0 0 [zr (0, 100 + k), zi i] M (fun x M' => M' = M ∧ x = (zByt.getD k []).getD j 0) := by
  have hlen : (Int32.ofNat (zLen.getD k 0)).toInt = (zLen.getD k 0 : Int) ∧ zLen.getD k 0 ≤ 72 := (by decide +kernel : ∀ k, k < 13 → (Int32.ofNat (zLen.getD k 0)).toInt = (zLen.getD k 0 : Int) ∧ zLen.getD k 0 ≤ 72) k hk
  refine z_enter (L := [some (zr (0, 100 + k)), some (zi i)]) rfl (by decide +kernel) (Nat.le_of_ble_eq_true rfl) ?_
  refine z_il iJ1_charAt_3b067_0 rfl ?_
  refine z_al iJ1_charAt_3b067_1 rfl ?_
  refine z_alenS hk iJ1_charAt_3b067_2 ?_
  refine z_cs2v (fr' := fr - 1) iJ1_charAt_3b067_3 zmJ0_checkIndex_df160 (cj_index (zi_le.mpr (by rw [hi]; exact Int.natCast_nonneg _)) (zi_lt.mpr (by rw [hi, hlen.1]; exact Int.ofNat_lt.mpr hj)) (by omega)) (by omega) (Nat.le_of_ble_eq_true rfl) (fun M1 hq => ?_)
  obtain rfl := hq
  refine z_al iJ1_charAt_3b067_6 rfl ?_
  refine z_il iJ1_charAt_3b067_7 rfl ?_
  refine z_baldS hk iJ1_charAt_3b067_8 hi hj ?_
  refine z_co iJ1_charAt_3b067_9 ?_
  refine z_iand iJ1_charAt_3b067_12 ?_
  refine z_i2c iJ1_charAt_3b067_13 ?_
  have e1 : (((zByt.getD k []).getD j 0 &&& 255).toUInt32 % 65536).toInt32 = (zByt.getD k []).getD j 0 ∧ narrow .char (.int ((zByt.getD k []).getD j 0)) = .int ((zByt.getD k []).getD j 0) := (by decide +kernel : ∀ k, k < 13 → ∀ j, j < 73 → (((zByt.getD k []).getD j 0 &&& 255).toUInt32 % 65536).toInt32 = (zByt.getD k []).getD j 0 ∧ narrow .char (.int ((zByt.getD k []).getD j 0)) = .int ((zByt.getD k []).getD j 0)) k hk j (by omega)
  rw [e1.1]
  refine z_zret iJ1_charAt_3b067_14 rfl e1.2 ?_
  exact ⟨_, rfl, rfl, rfl⟩
set_option maxRecDepth 20000 in
set_option maxHeartbeats 4000000 in
theorem cj_charAt {fr k j : Nat} {M : zM} (hk : k < 13) {i : Int32} (hi : i.toInt = (j : Int)) (hj : j < zLen.getD k 0) (hf : 3 ≤ fr) : zCi zJ0_charAt_5068e fr 0 0 [zr (0, k), zi i] M (fun x M' => M' = M ∧ x = (zByt.getD k []).getD j 0) := by
  have hlen : zLen.getD k 0 ≤ 72 := (by decide +kernel : ∀ k, k < 13 → zLen.getD k 0 ≤ 72) k hk
  refine z_enter (L := [some (zr (0, k)), some (zi i)]) rfl (by decide +kernel) (Nat.le_of_ble_eq_true rfl) ?_
  refine z_al iJ0_charAt_5068e_0 rfl ?_
  refine z_cvS0 (fr' := fr - 1) hk iJ0_charAt_5068e_1 zmJ0_isLatin1_aae02 rfl (by decide +kernel : ∀ q ∈ zNest, q.2.2.1 ≠ zJ0_isLatin1_aae02.1) (cj_latin hk) (by omega) (Nat.le_of_ble_eq_true rfl) (fun x M1 hq => ?_)
  obtain ⟨rfl, rfl⟩ := hq
  refine z_if_eq iJ0_charAt_5068e_4 (fun h1 => absurd h1 (by decide)) (fun _ => ?_)
  refine z_al iJ0_charAt_5068e_7 rfl ?_
  refine z_gfS (idx := 9) hk (by decide +kernel) (zT6_of (i := 139) rfl rfl) ?_
  refine z_il iJ0_charAt_5068e_11 rfl ?_
  refine z_cs2i (fr' := fr - 1) iJ0_charAt_5068e_12 zmJ1_charAt_3b067 (cj_charL hk hi hj (by omega)) (by omega) (Nat.le_of_ble_eq_true rfl) (fun x M1 hq => ?_)
  obtain ⟨rfl, rfl⟩ := hq
  refine z_zret iJ0_charAt_5068e_15 rfl ((by decide +kernel : ∀ k, k < 13 → ∀ j, j < 73 → narrow .char (.int ((zByt.getD k []).getD j 0)) = .int ((zByt.getD k []).getD j 0)) k hk j (by omega)) ?_
  exact ⟨_, rfl, rfl, rfl⟩
