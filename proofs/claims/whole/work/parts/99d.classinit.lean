theorem iniF0.fr {M M' : zM} (h : iniF0 M) (hf : ∀ a : zAd, a.1 ≠ 2 → a.1 ≠ 10 → a.1 ≠ 11 → a.1 ≠ 19 → a.1 ≠ 20 → a.1 ≠ 21 → a ≠ (23, 0) → a ≠ (24, 0) → a ≠ (25, 0) → M' a = M a) : iniF0 M' := by
  have K : ∀ k i, k ≠ 2 ∧ k ≠ 10 ∧ k ≠ 11 ∧ k ≠ 19 ∧ k ≠ 20 ∧ k ≠ 21 ∧ k ≠ 23 ∧ k ≠ 24 ∧ k ≠ 25 → M' (k, i) = M (k, i) := fun k i h => hf (k, i) h.1 h.2.1 h.2.2.1 h.2.2.2.1 h.2.2.2.2.1 h.2.2.2.2.2.1 (fun q => h.2.2.2.2.2.2.1 (congrArg Prod.fst q)) (fun q => h.2.2.2.2.2.2.2.1 (congrArg Prod.fst q)) (fun q => h.2.2.2.2.2.2.2.2 (congrArg Prod.fst q))
  have T : ∀ k t, 1 ≤ t → k ≠ 2 ∧ k ≠ 10 ∧ k ≠ 11 ∧ k ≠ 19 ∧ k ≠ 20 ∧ k ≠ 21 → M' (k, t) = M (k, t) := fun k t h1 h => hf (k, t) h.1 h.2.1 h.2.2.1 h.2.2.2.1 h.2.2.2.2.1 h.2.2.2.2.2 (fun q => by have := congrArg Prod.snd q; simp only at this; omega) (fun q => by have := congrArg Prod.snd q; simp only at this; omega) (fun q => by have := congrArg Prod.snd q; simp only at this; omega)
  obtain ⟨h1, h2, h3, h4, h5, h6, h7, h8, h9, h10, h11, h12, h13, h14, h15, h16, h17⟩ := h
  exact ⟨(K 3 0 (by decide)).trans h1, (K 4 0 (by decide)).trans h2, (K 5 0 (by decide)).trans h3, (K 6 0 (by decide)).trans h4, (K 7 0 (by decide)).trans h5, (K 8 0 (by decide)).trans h6, (K 9 0 (by decide)).trans h7, (K 14 0 (by decide)).trans h8, (K 15 0 (by decide)).trans h9, (K 16 0 (by decide)).trans h10, (K 17 0 (by decide)).trans h11, fun r hr => (K 18 r (by decide)).trans (h12 r hr), (K 12 0 (by decide)).trans h13, (K 22 0 (by decide)).trans h14, (K 13 0 (by decide)).trans h15, fun t g1 g2 => ⟨(T 23 t g1 (by decide)).trans (h16 t g1 g2).1, (T 24 t g1 (by decide)).trans (h16 t g1 g2).2.1, (T 25 t g1 (by decide)).trans (h16 t g1 g2).2.2⟩, fun s hs => ⟨(K 26 s (by decide)).trans (h17 s hs).1, (K 27 s (by decide)).trans (h17 s hs).2⟩⟩
theorem iniT.add {M : zM} {i : Nat} (h : iniT M i u72) {f : Nat → Int32} (hi : i < 72) (hf : ∀ j, j < i → f j = (u72 j).toInt8.toInt32) : iniT (zupd (zupd M (19, 0) (.inl (2, 160, .inl (zup f i (u72 i).toInt8.toInt32.toInt8.toInt32)))) (10, 0) (.inr (7, [zr (19, 0), zr (20, 0), zr (21, 0), zi (nI (i + 1)), zi 0]))) (i + 1) u72 := by
  obtain ⟨h1, h2, -, h4, h5, h6, h7, h8, h9⟩ := h
  refine ⟨(zupd_k (by decide : (2 : Nat) ≠ 10)).trans ((zupd_k (by decide : (2 : Nat) ≠ 19)).trans h1), zupd_s, ⟨_, (zupd_k (by decide : (19 : Nat) ≠ 10)).trans zupd_s, fun j hj => ?_⟩, (zupd_k (by decide : (20 : Nat) ≠ 10)).trans ((zupd_k (by decide : (20 : Nat) ≠ 19)).trans h4), (zupd_k (by decide : (21 : Nat) ≠ 10)).trans ((zupd_k (by decide : (21 : Nat) ≠ 19)).trans h5), (zupd_k (by decide : (11 : Nat) ≠ 10)).trans ((zupd_k (by decide : (11 : Nat) ≠ 19)).trans h6), (zupd_k (by decide : (23 : Nat) ≠ 10)).trans ((zupd_k (by decide : (23 : Nat) ≠ 19)).trans h7), (zupd_k (by decide : (24 : Nat) ≠ 10)).trans ((zupd_k (by decide : (24 : Nat) ≠ 19)).trans h8), (zupd_k (by decide : (25 : Nat) ≠ 10)).trans ((zupd_k (by decide : (25 : Nat) ≠ 19)).trans h9)⟩
  by_cases z : j = i
  · rw [z, zup_s]; exact (u72_b i hi).2
  · rw [zup_n z]; exact hf j (by omega)
/-- the class's cells at the start -/
def I0c : zSI := zup (fun _ => 0) 5 1
def X0c (M : zM) : Prop := ∀ (A : zSA) (L : zSL), A 25 = (fun _ => 0) → (∀ s, s < 4 → ¬ A 26 s = 1) → (∀ j, j < 160 → A 19 j = u64 j) → A 20 0 = nI 64 → RepX TRc JRc M I0c A L
theorem xRefs_00 {k : Nat} : xRefs k 0 = fun _ => none := funext fun e => if_neg (by simp only [Int32.reduceToInt]; omega)
theorem TRc_0 {f g : Nat → Int32} {sz cl : Int32} {r r1 r2 r3 : pqS} (e1 : r1 = pqTx1 (tkT u72 72)) (e2 : r2 = pqTx2 (tkT u72 72)) (e3 : r3 = pqTx3 (tkT u72 72)) (e : r = pqTxt (tkT u72 72)) (hsz : sz = nI r.2.2.length) (hcl : cl = 3) (hf : ∀ j (h : j < r.2.2.length), f j = r.2.2[j]) (g0 : g 0 = nI r1.2.2.length) (g1 : g 1 = nI r2.2.2.length) (g2 : g 2 = nI r3.2.2.length) : TRc u64 (nI 64) f g sz cl := by
  have k1 := e1.trans (pqE_e tx0_1)
  have k2 := e2.trans (pqE_e tx0_2)
  have k3 := e3.trans (pqE_e tx0_3)
  have k4 := e.trans (pqE_e tx0_4)
  have n64 : zN (nI 64) = 64 := by decide
  have n64i : (nI 64).toInt = 64 := by decide
  have hb : r.2.1 = false := by rw [e]; exact tx0_good
  refine ⟨fun j hj => u64_b j (by omega), r, r1, r2, r3, ?_, ?_, ?_, ?_, hb, hsz, hcl, hf, g0, g1, g2⟩
  · rw [n64, k1]; rfl
  · rw [n64, k2, k1]; rfl
  · rw [n64, k3, k2]; rfl
  · rw [n64, k4, k3]; rfl
theorem X0c_of {M : zM} (hF : iniF0 M) (hn : ∀ a : zAd, 28 ≤ a.1 → a.1 < 40 → M a = none) (h2 : M (2, 0) = some (.inr (10, xObj I0c))) (h10 : ∃ tc, M (10, 0) = some (.inr (7, [zr (19, 0), zr (20, 0), zr (21, 0), zi 0, zi tc]))) (h19 : ∃ f, M (19, 0) = some (.inl (2, 160, .inl f))) (h20 : ∃ f, M (20, 0) = some (.inl (0, 160, .inl f))) (h21 : ∃ f, M (21, 0) = some (.inl (0, 160, .inl f))) (h11 : ∃ (ot : Option zAd) (a b c : Int32), M (11, 0) = some (.inr (3, [zr (10, 0), .inr (.inr ot), zi a, zi b, zi c])))
    (h23 : ∃ (f g : Nat → Int32) (sz cl : Int32), M (23, 0) = some (.inr (8, [zr (24, 0), zr (25, 0), zi sz, zi cl])) ∧ M (24, 0) = some (.inl (0, 160, .inl f)) ∧ M (25, 0) = some (.inl (0, 3, .inl g)) ∧ TRc u64 (nI 64) f g sz cl) : X0c M := by
  intro A L a25 a26 a19 a20
  obtain ⟨k1, k2, k3, k4, k5, k6, k7, k8, k9, k10, k11, k12, k13, k14, k15, k16, k17⟩ := hF
  have I0 : ∀ k, k ≠ 5 → I0c k = 0 := fun k hk => zup_n hk
  have z0 : ((0 : Int32)).toInt = 0 := by decide
  have z1 : ((1 : Int32)).toInt = 1 := by decide
  have i5 : I0c 5 = 1 := zup_s
  refine ⟨⟨h2, ?_, ?_, ?_, k4, k5, ?_⟩, ⟨fun e he => ?_, fun e he => ⟨hn _ (show 28 ≤ 28 by decide) (show 28 < 40 by decide), hn _ (show 28 ≤ 29 by decide) (show 29 < 40 by decide)⟩⟩, ⟨fun e he => ?_, fun e he => hn _ (show 28 ≤ 30 by decide) (show 30 < 40 by decide)⟩, ⟨fun e he => ?_, fun e he => ⟨hn _ (show 28 ≤ 31 by decide) (show 31 < 40 by decide), hn _ (show 28 ≤ 32 by decide) (show 32 < 40 by decide)⟩⟩, fun s hs => ?_, fun t ht => ?_, ?_, ⟨h11, ⟨_, _, k13, k14⟩, ⟨_, k15⟩⟩, ?_⟩
  · rw [I0 0 (by decide), xRefs_00]; exact k1
  · rw [I0 1 (by decide), xRefs_00]; exact k2
  · rw [I0 8 (by decide), xRefs_00]; exact k3
  · rw [I0 2 (by decide), I0 3 (by decide), I0 4 (by decide)]; exact k6
  · rw [I0 0 (by decide)] at he; omega
  · rw [I0 1 (by decide)] at he; omega
  · rw [I0 8 (by decide)] at he; omega
  · exact ⟨-1, 0, _, (k17 s hs).1, (k17 s hs).2, fun q => absurd q (a26 s hs), fun _ => ⟨rfl, rfl⟩⟩
  · by_cases z : t = 0
    · subst z
      obtain ⟨f, g, sz, cl, g1, g2, g3, g4⟩ := h23
      refine ⟨f, g, sz, cl, g1, g2, g3, fun _ => ?_⟩
      rw [a20]
      exact TRc.c (by decide) (fun j hj => by rw [Nat.mul_zero, Nat.zero_add]; exact (a19 j hj).symm) g4
    · obtain ⟨g1, g2, g3⟩ := k16 t (by omega) ht
      refine ⟨_, _, 0, 0, g1, g2, g3, fun q => ?_⟩
      rw [i5] at q
      omega
  · obtain ⟨tc, h10⟩ := h10
    obtain ⟨f, h19⟩ := h19
    obtain ⟨g, h20⟩ := h20
    obtain ⟨w, h21⟩ := h21
    refine ⟨tc, f, g, w, ?_, h19, h20, h21, fun j hj => ?_⟩
    · rw [I0 7 (by decide)]; exact h10
    · rw [I0 7 (by decide)] at hj; omega
  · refine ⟨_, _, _, ?_, ?_, k9, k10, k11, fun r hr => k12 r hr, fun R h1 h2 => Or.inl (if_pos (by omega))⟩
    · rw [I0 9 (by decide)]; exact k7
    · rw [a25]; exact k8
set_option maxRecDepth 20000 in
set_option maxHeartbeats 4000000 in
theorem kc10_textOf {fr : Nat} {M : zM} (hf : 1 ≤ fr) (h2 : M (2, 0) = some (.inr (10, xObj fun _ => 0))) (h6 : M (6, 0) = some (.inl (7, 6, .inr (.inr fun t => some (23, t))))) : zCa zX10_textOf fr 0 0 [zr (2, 0), zi 0] M (fun x M' => M' = M ∧ x = some (23, 0)) := by
  refine z_enter (L := [some (zr (2, 0)), some (zi 0)]) rfl (by decide +kernel) (Nat.le_of_ble_eq_true rfl) ?_
  refine z_il iX10_textOf_0 rfl ?_
  refine z_co iX10_textOf_1 ?_
  refine z_co iX10_textOf_2 ?_
  refine z_cs3i (fr' := fr - 1) iX10_textOf_3 zmX10_within (c10_within _ _ _) (by omega) (Nat.le_of_ble_eq_true rfl) (fun x M1 hq => ?_)
  obtain ⟨rfl, rfl⟩ := hq
  refine z_ib_eq iX10_textOf_6 (fun h1 => ?_) (fun h1 => ?_)
  · exact absurd (by decide) h1
  · refine z_al iX10_textOf_9 rfl ?_
    refine z_gf iX10_textOf_10 h2 rfl ?_
    refine z_il iX10_textOf_13 rfl ?_
    refine z_aald iX10_textOf_14 h6 ⟨by decide, by decide⟩ (show (0 : Int32).toInt = ((0 : Nat) : Int) from by decide) (by decide) ?_
    refine z_goto iX10_textOf_15 ?_
    refine z_aret iX10_textOf_19 rfl ?_
    exact ⟨_, rfl, rfl, rfl⟩
set_option maxRecDepth 20000 in
set_option maxHeartbeats 4000000 in
theorem l10_lit {fr : Nat} {M : zM} {Q : Option zVal → zM → Prop} (hf : 10 ≤ fr) (KK : ∀ M1 : zM, (∀ a : zAd, (a.1 < 2 ∨ 28 ≤ a.1) → M1 a = M a) → iniF0 M1 → iniT M1 72 u72 → zV zX10_init fr 0 0 198 (zL [some (zr (2, 0))]) [] M1 Q)  : ∀ (n i : Nat) (Ma : zM), i + n = 72 → (∀ a : zAd, (a.1 < 2 ∨ 28 ≤ a.1) → Ma a = M a) → iniF0 Ma → iniT Ma i u72 → zV zX10_init fr 0 0 169 (zL [some (zr (2, 0)), some (zi (nI i))]) [] Ma Q := by
  intro n
  induction n with
  | zero =>
    intro i Ma hn hK hF hT
    have ei := nI_toInt (n := i) (by omega)
    refine z_il iX10_init_169 rfl ?_
    refine z_lds iX10_init_170 ?_
    refine z_cvS0 (fr' := fr - 1) (k := 0) (by decide) iX10_init_172 zmJ0_length_8abf5 rfl (by decide +kernel : ∀ q ∈ zNest, q.2.2.1 ≠ zJ0_length_8abf5.1) (cj_length (by decide) (by omega)) (by omega) (Nat.le_of_ble_eq_true rfl) (fun x M1 hq => ?_)
    obtain ⟨rfl, rfl⟩ := hq
    refine z_icmp_ge iX10_init_175 (fun h1 => ?_) (fun h1 => ?_)
    · have hi72 : i = 72 := by omega
      subst hi72
      refine z_loc [some (zr (2, 0))] ⟨rfl, trivial⟩ (KK _ hK hF hT)
    · exfalso
      rw [zi_le, ei, show (Int32.ofNat (zLen.getD 0 0)).toInt = 72 from by decide] at h1
      omega
  | succ n ih =>
    intro i Ma hn hK hF hT
    have ei := nI_toInt (n := i) (by omega)
    refine z_il iX10_init_169 rfl ?_
    refine z_lds iX10_init_170 ?_
    refine z_cvS0 (fr' := fr - 1) (k := 0) (by decide) iX10_init_172 zmJ0_length_8abf5 rfl (by decide +kernel : ∀ q ∈ zNest, q.2.2.1 ≠ zJ0_length_8abf5.1) (cj_length (by decide) (by omega)) (by omega) (Nat.le_of_ble_eq_true rfl) (fun x M1 hq => ?_)
    obtain ⟨rfl, rfl⟩ := hq
    refine z_icmp_ge iX10_init_175 (fun h1 => ?_) (fun h1 => ?_)
    · exfalso
      rw [zi_le, ei, show (Int32.ofNat (zLen.getD 0 0)).toInt = 72 from by decide] at h1
      omega
    · have hi72 : i < 72 := by omega
      refine z_al iX10_init_178 rfl ?_
      refine z_gf iX10_init_179 hT.1 rfl ?_
      refine z_lds iX10_init_182 ?_
      refine z_il iX10_init_184 rfl ?_
      refine z_cvS1 (fr' := fr - 1) (k := 0) (by decide) iX10_init_185 zmJ0_charAt_5068e rfl (by decide +kernel : ∀ q ∈ zNest, q.2.2.1 ≠ zJ0_charAt_5068e.1) (cj_charAt (by decide) ei (show i < zLen.getD 0 0 from hi72) (by omega)) (by omega) (Nat.le_of_ble_eq_true rfl) (fun x M1 hq => ?_)
      obtain ⟨rfl, rfl⟩ := hq
      obtain ⟨f, h19, hf19⟩ := hT.2.2.1
      refine z_i2b iX10_init_188 ?_
      refine z_cv1v (fr' := fr - 1) iX10_init_189 zmX7_add hT.2.1 (c7_add hT.2.1 h19 (show i < 160 by omega) _) (by omega) (Nat.le_of_ble_eq_true rfl) (fun M1 hq => ?_)
      have hT2 := hT.add hi72 hf19
      refine z_in iX10_init_192 rfl ?_
      refine z_goto iX10_init_195 ?_
      refine z_loc [some (zr (2, 0)), some (zi (nI (i + 1)))] ⟨rfl, ?_, trivial⟩ (ih (i + 1) _ (by omega) (fun a ha => ?_) ?_ (hq ▸ hT2))
      · show some (zi (nI i + 1)) = _
        rw [nI_1]
      · rw [hq, zupd_k (show a.1 ≠ 10 by omega), zupd_k (show a.1 ≠ 19 by omega)]; exact hK a ha
      · rw [hq]
        exact hF.fr (fun a _ g10 _ g19 _ _ _ _ _ => (zupd_k g10).trans (zupd_k g19))
set_option maxRecDepth 20000 in
set_option maxHeartbeats 4000000 in
theorem k10_end {fr : Nat} {M M0 : zM} (hf : 50 ≤ fr) (hn : ∀ a : zAd, 28 ≤ a.1 → M0 a = none) (hK : ∀ a : zAd, (a.1 < 2 ∨ 28 ≤ a.1) → M a = M0 a) (hF : iniF0 M) (hT : iniT M 72 u72) : zV zX10_init fr 0 0 198 (zL [some (zr (2, 0))]) [] M (fun r M1 => r = none ∧ (∀ a : zAd, a.1 < 2 → M1 a = M0 a) ∧ (∀ a : zAd, 40 ≤ a.1 → M1 a = none) ∧ X0c M1) := by
  obtain ⟨f, h19, hb⟩ := hT.2.2.1
  refine z_al iX10_init_198 rfl ?_
  refine z_gf iX10_init_199 hT.1 rfl ?_
  refine z_al iX10_init_202 rfl ?_
  refine z_co iX10_init_203 ?_
  refine z_cv1a (fr' := fr - 1) iX10_init_204 zmX10_textOf hT.1 (kc10_textOf (by omega) hT.1 hF.2.2.2.1) (by omega) (Nat.le_of_ble_eq_true rfl) (fun x M1 hq => ?_)
  obtain ⟨rfl, rfl⟩ := hq
  refine z_cv1i (fr' := fr - 1) iX10_init_207 zmX3_readInto hT.2.2.2.2.2.1 (c3_readInto (u := u72) (N := 72) (t := 0) rfl rfl rfl rfl (by omega) hT.2.1 hT.2.2.2.1 hT.2.2.2.2.1 h19 (by decide) hb (fun j hj => (u72_b j hj).1) (ot := none) hT.2.2.2.2.2.1 hT.2.2.2.2.2.2.1 hT.2.2.2.2.2.2.2.1 hT.2.2.2.2.2.2.2.2) (by omega) (Nat.le_of_ble_eq_true rfl) (fun x M1 hq => ?_)
  obtain ⟨hx, hri⟩ := hq
  obtain ⟨⟨b0, b1, b2, i1⟩, ⟨tc, g, w, h10M, i3, i4⟩, i5, ⟨f5, i6, i7⟩, ⟨e5, i8, i9, i10, i11⟩, i12⟩ := hri
  have h2M := (i12 (2, 0) (by decide) (by decide) (by decide) (by decide) (by decide) (by decide) (by decide)).trans hT.1
  refine z_pop_i iX10_init_210 ?_
  refine z_al iX10_init_211 rfl ?_
  refine z_gf iX10_init_212 h2M rfl ?_
  refine z_cv0v (fr' := fr - 1) iX10_init_215 zmX7_empty h10M (c7_empty h10M) (by omega) (Nat.le_of_ble_eq_true rfl) (fun M1 hq => ?_)
  subst hq
  refine z_al iX10_init_218 rfl ?_
  refine z_co iX10_init_219 ?_
  refine z_pf iX10_init_220 ((zupd_k (Nat.ne_of_beq_eq_false rfl)).trans h2M) (show 2 ≤ 2 by decide) (Nat.le_of_ble_eq_true rfl) trivial ?_
  refine z_vret iX10_init_223 rfl ?_
  refine ⟨rfl, fun a ha => ?_, fun a ha => ?_, X0c_of ?_ (fun a g1 g2 => ?_) ?_ ⟨tc, ?_⟩ ⟨f, ?_⟩ ⟨g, ?_⟩ ⟨w, ?_⟩ ⟨some (23, 0), b0, b1, b2, ?_⟩ ⟨f5, e5, _, _, ?_, ?_, ?_, TRc_0 (r := pqTxt (tkT u72 72)) (r1 := pqTx1 (tkT u72 72)) (r2 := pqTx2 (tkT u72 72)) (r3 := pqTx3 (tkT u72 72)) rfl rfl rfl rfl rfl rfl i7 i9 i10 i11⟩⟩
  · rw [zupd_k (show a.1 ≠ 2 by omega), zupd_k (show a.1 ≠ 10 by omega), i12 a (by omega) (by omega) (by omega) (by omega) (zad1 (by omega)) (zad1 (by omega)) (zad1 (by omega))]
    exact hK a (Or.inl ha)
  · rw [zupd_k (show a.1 ≠ 2 by omega), zupd_k (show a.1 ≠ 10 by omega), i12 a (by omega) (by omega) (by omega) (by omega) (zad1 (by omega)) (zad1 (by omega)) (zad1 (by omega))]
    exact (hK a (Or.inr (by omega))).trans (hn a (by omega))
  · exact hF.fr (fun a g2 g10 g11 g19 g20 g21 g23 g24 g25 => (zupd_k g2).trans ((zupd_k g10).trans (i12 a g10 g11 g20 g21 g23 g24 g25)))
  · rw [zupd_k (show a.1 ≠ 2 by omega), zupd_k (show a.1 ≠ 10 by omega), i12 a (by omega) (by omega) (by omega) (by omega) (zad1 (by omega)) (zad1 (by omega)) (zad1 (by omega))]
    exact (hK a (Or.inr (by omega))).trans (hn a g1)
  · exact zupd_s
  · exact (zupd_k (by decide : (10 : Nat) ≠ 2)).trans zupd_s
  · exact (zupd_k (by decide : (19 : Nat) ≠ 2)).trans ((zupd_k (by decide : (19 : Nat) ≠ 10)).trans ((i12 (19, 0) (by decide) (by decide) (by decide) (by decide) (by decide) (by decide) (by decide)).trans h19))
  · exact (zupd_k (by decide : (20 : Nat) ≠ 2)).trans ((zupd_k (by decide : (20 : Nat) ≠ 10)).trans i3)
  · exact (zupd_k (by decide : (21 : Nat) ≠ 2)).trans ((zupd_k (by decide : (21 : Nat) ≠ 10)).trans i4)
  · exact (zupd_k (by decide : (11 : Nat) ≠ 2)).trans ((zupd_k (by decide : (11 : Nat) ≠ 10)).trans i1)
  · exact (zupd_k (by decide : (23 : Nat) ≠ 2)).trans ((zupd_k (by decide : (23 : Nat) ≠ 10)).trans i5)
  · exact (zupd_k (by decide : (24 : Nat) ≠ 2)).trans ((zupd_k (by decide : (24 : Nat) ≠ 10)).trans i6)
  · exact (zupd_k (by decide : (25 : Nat) ≠ 2)).trans ((zupd_k (by decide : (25 : Nat) ≠ 10)).trans i8)
set_option maxRecDepth 20000 in
set_option maxHeartbeats 4000000 in
theorem px_init {fr : Nat} {M : zM} (hf : 60 ≤ fr) (hthis : M (2, 0) = some (.inr (10, zf10))) (hn : ∀ a : zAd, 2 ≤ a.1 → a ≠ (2, 0) → M a = none) : zCv zX10_init fr 55 1883 [zr (2, 0)] M (fun M1 => (∀ a : zAd, a.1 < 2 → M1 a = M a) ∧ (∀ a : zAd, 40 ≤ a.1 → M1 a = none) ∧ X0c M1) := by
  refine z_enter (L := [some (zr (2, 0))]) rfl (by decide +kernel) (Nat.le_of_ble_eq_true rfl) ?_
  refine k10_start (by omega) hthis hn (fun M1 hK hF hT => ?_)
  refine z_co iX10_init_167 ?_
  refine z_is iX10_init_168 ?_
  refine z_loc [some (zr (2, 0)), some (zi (nI 0))] ⟨rfl, rfl, trivial⟩ ?_
  refine l10_lit (M := M) (by omega) (fun M2 hK2 hF2 hT2 => k10_end (by omega) (fun a ha => hn a (by omega) (fun q => by have := congrArg Prod.fst q; simp only at this; omega)) hK2 hF2 hT2) 72 0 M1 (by decide) hK hF ?_
  obtain ⟨g1, g2, ⟨f, g3, -⟩, g4⟩ := hT
  exact ⟨g1, g2, ⟨f, g3, fun j hj => absurd hj (Nat.not_lt_zero j)⟩, g4⟩
