theorem tpS.up {M : zM} {T : Nat → Int32} {P : Nat → Nat} {n N t : Nat} {e : zE} (h : tpS M T P n N) : tpS (zupd M (25, t) e) T P n N := by
  obtain ⟨g, w, h1, h2, h3, h4⟩ := h
  exact ⟨g, w, (zupd_k (show (10 : Nat) ≠ 25 by decide)).trans h1, (zupd_k (show (20 : Nat) ≠ 25 by decide)).trans h2, (zupd_k (show (21 : Nat) ≠ 25 by decide)).trans h3, h4⟩
/-- how a text's reading ends -/
def riS (M M' : zM) (t N : Nat) (T : Nat → Int32) (r r1 r2 r3 : pqS) : Prop :=
  (∃ a b c : Int32, M' (11, 0) = some (.inr (3, [zr (10, 0), zr (23, t), zi a, zi b, zi c]))) ∧ (∃ (tc : Int32) (g w : Nat → Int32), M' (10, 0) = some (.inr (7, [zr (19, 0), zr (20, 0), zr (21, 0), zi (nI N), zi tc])) ∧ M' (20, 0) = some (.inl (0, 160, .inl g)) ∧ M' (21, 0) = some (.inl (0, 160, .inl w))) ∧
  M' (23, t) = some (.inr (8, [zr (24, t), zr (25, t), zi (nI r.2.2.length), zi 3])) ∧ (∃ f : Nat → Int32, M' (24, t) = some (.inl (0, 160, .inl f)) ∧ ∀ j (h : j < r.2.2.length), f j = r.2.2[j]) ∧ (∃ e : Nat → Int32, M' (25, t) = some (.inl (0, 3, .inl e)) ∧ e 0 = nI r1.2.2.length ∧ e 1 = nI r2.2.2.length ∧ e 2 = nI r3.2.2.length) ∧
  ∀ a : zAd, a.1 ≠ 10 → a.1 ≠ 11 → a.1 ≠ 20 → a.1 ≠ 21 → a ≠ (23, t) → a ≠ (24, t) → a ≠ (25, t) → M' a = M a
theorem riS.of {M M1 M' : zM} {t N tc : Nat} {T : Nat → Int32} {P : Nat → Nat} {r r1 r2 r3 : pqS} {e : Nat → Int32} (hT : tpS M1 T P N tc) (hS : crS0 (zupd (zupd (zupd M1 (25, t) (.inl (0, 3, .inl (zup e 0 (nI r1.2.2.length))))) (25, t) (.inl (0, 3, .inl (zup (zup e 0 (nI r1.2.2.length)) 1 (nI r2.2.2.length))))) (25, t) (.inl (0, 3, .inl (zup (zup (zup e 0 (nI r1.2.2.length)) 1 (nI r2.2.2.length)) 2 (nI r3.2.2.length))))) M' t (nI 3) T P r)
    (hf : ∀ a : zAd, a.1 ≠ 10 → a.1 ≠ 11 → a.1 ≠ 20 → a.1 ≠ 21 → a ≠ (23, t) → M1 a = M a) : riS M M' t N T r r1 r2 r3 := by
  have hT2 := hS.tp hT.up.up.up
  obtain ⟨g, w, i1, i2, i3, -⟩ := hT2
  obtain ⟨h1, h2, ⟨f, h3, h4⟩, h5, h6⟩ := hS
  refine ⟨⟨_, _, _, h1⟩, ⟨_, g, w, i1, i2, i3⟩, h2, ⟨f, h3, h4⟩, ⟨_, (h6 _ (zad1 (by decide)) (zad1 (by decide)) (zad1 (by decide))).trans zupd_s, ?_, ?_, zup_s⟩, fun a a1 a2 a3 a4 a5 a6 a7 => ?_⟩
  · rw [zup_n (by decide), zup_n (by decide), zup_s]
  · rw [zup_n (by decide), zup_s]
  · rw [h6 a (fun q => a2 (congrArg Prod.fst q)) a5 a6, zupd_n a7, zupd_n a7, zupd_n a7]
    exact hf a a1 a2 a3 a4 a5
set_option maxRecDepth 20000 in
set_option maxHeartbeats 4000000 in
theorem q3_read {fr : Nat} {M : zM} {t nn N : Nat} {T : Nat → Int32} {P : Nat → Nat} {e : Nat → Int32} {r r1 r2 r3 : pqS} (hr1 : r1 = pqPart T (-22) (0, false, [])) (hr2 : r2 = pqPart T (-23) r1) (hr3 : r3 = pqPart T (-24) r2) (hr : r = pqExp T (-20) r3) (hf : 43 ≤ fr) (hS : crS M M t N (nI 0) T P (0, false, [])) (hT : tpS M T P nn N) (h25 : M (25, t) = some (.inl (0, 3, .inl e))) : zV zX3_readInto fr 0 0 47 (zL [some (zr (11, 0)), some (zr (23, t))]) [] M (fun q M' => ∃ x, q = some (zi x) ∧ x = (if r.2.1 = true then nI (P r.1) else -1) ∧ crS0 (zupd (zupd (zupd M (25, t) (.inl (0, 3, .inl (zup e 0 (nI r1.2.2.length))))) (25, t) (.inl (0, 3, .inl (zup (zup e 0 (nI r1.2.2.length)) 1 (nI r2.2.2.length))))) (25, t) (.inl (0, 3, .inl (zup (zup (zup e 0 (nI r1.2.2.length)) 1 (nI r2.2.2.length)) 2 (nI r3.2.2.length))))) M' t (nI 3) T P r) := by
  refine z_al iX3_readInto_47 rfl ?_
  refine z_co iX3_readInto_48 ?_
  refine z_cv1v (fr' := fr - 1) iX3_readInto_50 zmX3_readPart hS.1.1 (cr_part (cl := 0) (by omega) hS hT h25 (by decide) _ (by decide) (by decide)) (by omega) (Nat.le_of_ble_eq_true rfl) (fun M1 hq => ?_)
  have hS := hq
  rw [← hr1] at hS
  refine z_al iX3_readInto_53 rfl ?_
  refine z_co iX3_readInto_54 ?_
  refine z_cv1v (fr' := fr - 1) iX3_readInto_56 zmX3_readPart hS.1.1 (cr_part (cl := 1) (by omega) hS hT.up zupd_s (by decide) _ (by decide) (by decide)) (by omega) (Nat.le_of_ble_eq_true rfl) (fun M1 hq => ?_)
  have hS := hq
  rw [← hr2] at hS
  refine z_al iX3_readInto_59 rfl ?_
  refine z_co iX3_readInto_60 ?_
  refine z_cv1v (fr' := fr - 1) iX3_readInto_62 zmX3_readPart hS.1.1 (cr_part (cl := 2) (by omega) hS hT.up.up zupd_s (by decide) _ (by decide) (by decide)) (by omega) (Nat.le_of_ble_eq_true rfl) (fun M1 hq => ?_)
  have hS := hq
  rw [← hr3] at hS
  refine z_al iX3_readInto_65 rfl ?_
  refine z_co iX3_readInto_66 ?_
  refine z_cv1v (fr' := fr - 1) iX3_readInto_68 zmX3_expect hS.1.1 (cr_expect (by omega) hS hT.up.up.up (-20) (by decide)) (by omega) (Nat.le_of_ble_eq_true rfl) (fun M1 hq => ?_)
  have hS0 := hq
  rw [← hr] at hS0
  refine z_al iX3_readInto_71 rfl ?_
  refine z_gf iX3_readInto_72 hS0.1 rfl ?_
  refine z_iret iX3_readInto_75 rfl ?_
  exact ⟨_, rfl, rfl, hS0⟩
set_option maxRecDepth 20000 in
set_option maxHeartbeats 4000000 in
theorem c3_readInto {fr : Nat} {M : zM} {N t : Nat} {tc a0 a1 a2 sz cl : Int32} {ot : Option zAd} {b u g w f e : Nat → Int32} {r r1 r2 r3 : pqS} (hr1 : r1 = pqPart (tkT u N) (-22) (0, false, [])) (hr2 : r2 = pqPart (tkT u N) (-23) r1) (hr3 : r3 = pqPart (tkT u N) (-24) r2) (hr : r = pqExp (tkT u N) (-20) r3) (hf : 43 ≤ fr) (h10 : M (10, 0) = some (.inr (7, [zr (19, 0), zr (20, 0), zr (21, 0), zi (nI N), zi tc]))) (h20 : M (20, 0) = some (.inl (0, 160, .inl g))) (h21 : M (21, 0) = some (.inl (0, 160, .inl w))) (h19 : M (19, 0) = some (.inl (2, 160, .inl b))) (hN : N ≤ 160) (hb : ∀ j, j < N → b j = (u j).toInt8.toInt32) (hu : ∀ j, j < N → 0 ≤ (u j).toInt ∧ (u j).toInt ≤ 255) (h11 : M (11, 0) = some (.inr (3, [zr (10, 0), .inr (.inr ot), zi a0, zi a1, zi a2]))) (h23 : M (23, t) = some (.inr (8, [zr (24, t), zr (25, t), zi sz, zi cl]))) (h24 : M (24, t) = some (.inl (0, 160, .inl f))) (h25 : M (25, t) = some (.inl (0, 3, .inl e))) : zCi zX3_readInto fr 0 0 [zr (11, 0), zr (23, t)] M (fun x M' => x = (if r.2.1 = true then nI (tkP u N r.1) else -1) ∧ riS M M' t N (tkT u N) r r1 r2 r3) := by
  refine z_enter (L := [some (zr (11, 0)), some (zr (23, t))]) rfl (by decide +kernel) (Nat.le_of_ble_eq_true rfl) ?_
  refine z_al iX3_readInto_0 rfl ?_
  refine z_ifnonnull iX3_readInto_1 (fun x1 h1 => ?_) (fun h1 => ?_)
  · refine z_al iX3_readInto_6 rfl ?_
    refine z_al iX3_readInto_7 rfl ?_
    refine z_pf iX3_readInto_8 h11 (show 2 ≤ 11 by decide) (Nat.le_of_ble_eq_true rfl) trivial ?_
    refine z_al iX3_readInto_11 rfl ?_
    refine z_gf iX3_readInto_12 zupd_s rfl ?_
    refine z_cv0v (fr' := fr - 1) iX3_readInto_15 zmX8_clear ((zupd_k (show (23 : Nat) ≠ 11 by decide)).trans h23) (c8_clear ((zupd_k (show (23 : Nat) ≠ 11 by decide)).trans h23)) (by omega) (Nat.le_of_ble_eq_true rfl) (fun M1 hq => ?_)
    obtain rfl := hq
    refine z_al iX3_readInto_18 rfl ?_
    refine z_gf iX3_readInto_19 ((zupd_k (Nat.ne_of_beq_eq_false rfl)).trans zupd_s) rfl ?_
    refine z_cv0v (fr' := fr - 1) iX3_readInto_22 zmX7_split ((zupd_k (show (10 : Nat) ≠ 23 by decide)).trans ((zupd_k (show (10 : Nat) ≠ 11 by decide)).trans h10)) (c7_split (by omega) ((zupd_k (show (10 : Nat) ≠ 23 by decide)).trans ((zupd_k (show (10 : Nat) ≠ 11 by decide)).trans h10)) ((zupd_k (show (20 : Nat) ≠ 23 by decide)).trans ((zupd_k (show (20 : Nat) ≠ 11 by decide)).trans h20)) ((zupd_k (show (21 : Nat) ≠ 23 by decide)).trans ((zupd_k (show (21 : Nat) ≠ 11 by decide)).trans h21)) ((zupd_k (show (19 : Nat) ≠ 23 by decide)).trans ((zupd_k (show (19 : Nat) ≠ 11 by decide)).trans h19)) hN hb hu) (by omega) (Nat.le_of_ble_eq_true rfl) (fun M1 hq => ?_)
    obtain ⟨hT, hfr⟩ := hq
    have hthis : M1 (11, 0) = _ := (hfr _ (zad1 (by decide)) (zad1 (by decide)) (zad1 (by decide))).trans ((zupd_k (show (11 : Nat) ≠ 23 by decide)).trans zupd_s)
    obtain ⟨g2, w2, t1, t2, t3, t4, t5, t6⟩ := id hT
    refine z_al iX3_readInto_25 rfl ?_
    refine z_co iX3_readInto_26 ?_
    refine z_pf iX3_readInto_27 hthis (show 2 ≤ 11 by decide) (Nat.le_of_ble_eq_true rfl) trivial ?_
    refine z_al iX3_readInto_30 rfl ?_
    refine z_co iX3_readInto_31 ?_
    refine z_pf2 iX3_readInto_32 (show 2 ≤ 11 by decide) (Nat.le_of_ble_eq_true rfl) trivial ?_
    refine z_al iX3_readInto_35 rfl ?_
    refine z_al iX3_readInto_36 rfl ?_
    refine z_gf iX3_readInto_37 zupd_s rfl ?_
    refine z_co iX3_readInto_40 ?_
    refine z_cv1i (fr' := fr - 1) iX3_readInto_41 zmX7_tokenAt ((zupd_k (show (10 : Nat) ≠ 11 by decide)).trans t1) (c7_tokenAt ((zupd_k (show (10 : Nat) ≠ 11 by decide)).trans t1) ((zupd_k (show (20 : Nat) ≠ 11 by decide)).trans t2) t6 0 (by omega)) (by omega) (Nat.le_of_ble_eq_true rfl) (fun x M1 hq => ?_)
    obtain ⟨rfl, rfl⟩ := hq
    have et : (if 0 < tkC u N then g2 0 else -20) = tkT u N 0 := by
      by_cases z : 0 < tkC u N
      · rw [if_pos z]; exact (t4 0 z).1
      · rw [if_neg z]; exact (t5 0 (by omega)).1.symm
    rw [et]
    refine z_pf2 iX3_readInto_44 (show 2 ≤ 11 by decide) (Nat.le_of_ble_eq_true rfl) trivial ?_
    refine z_loc [some (zr (11, 0)), some (zr (23, t))] ⟨rfl, rfl, trivial⟩ ?_
    have hT2 : tpS (zupd M1 (11, 0) (.inr (3, [zr (10, 0), zr (23, t), zi 0, zi (tkT u N 0), zi (-1)]))) (tkT u N) (tkP u N) N (tkC u N) := ⟨g2, w2, (zupd_k (show (10 : Nat) ≠ 11 by decide)).trans t1, (zupd_k (show (20 : Nat) ≠ 11 by decide)).trans t2, (zupd_k (show (21 : Nat) ≠ 11 by decide)).trans t3, t4, t5, t6⟩
    have hfr2 : ∀ a : zAd, a.1 ≠ 10 → a.1 ≠ 11 → a.1 ≠ 20 → a.1 ≠ 21 → a ≠ (23, t) → zupd M1 (11, 0) (.inr (3, [zr (10, 0), zr (23, t), zi 0, zi (tkT u N 0), zi (-1)])) a = M a := fun a a1 a2 a3 a4 a5 => by
      rw [zupd_n (fun q => a2 (congrArg Prod.fst q)), hfr a (fun q => a1 (congrArg Prod.fst q)) (fun q => a3 (congrArg Prod.fst q)) (fun q => a4 (congrArg Prod.fst q)), zupd_n a5, zupd_n (fun q => a2 (congrArg Prod.fst q))]
    refine (q3_read hr1 hr2 hr3 hr hf ⟨⟨zupd_s, ?_, ⟨f, ?_, fun j hj => absurd hj (Nat.not_lt_zero j)⟩, Nat.zero_le _, fun a a1 a2 a3 => rfl⟩, Nat.zero_le _⟩ hT2 (e := e) ?_).mono (fun q M' ⟨x, i1, i2, i3⟩ => ⟨x, i1, i2, riS.of hT2 i3 hfr2⟩)
    · rw [zupd_k (show (23 : Nat) ≠ 11 by decide), hfr _ (zad1 (by decide)) (zad1 (by decide)) (zad1 (by decide)), zupd_s]
      rfl
    · exact (hfr2 (24, t) (show (24 : Nat) ≠ 10 by decide) (show (24 : Nat) ≠ 11 by decide) (show (24 : Nat) ≠ 20 by decide) (show (24 : Nat) ≠ 21 by decide) (zad1 (by decide))).trans h24
    · exact (hfr2 (25, t) (show (25 : Nat) ≠ 10 by decide) (show (25 : Nat) ≠ 11 by decide) (show (25 : Nat) ≠ 20 by decide) (show (25 : Nat) ≠ 21 by decide) (zad1 (by decide))).trans h25
  · cases h1
