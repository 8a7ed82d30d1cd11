set_option maxRecDepth 20000 in
set_option maxHeartbeats 4000000 in
theorem c7_keep {fr : Nat} {M : zM} {N c : Nat} {g w : Nat → Int32} (h10 : M (10, 0) = some (.inr (7, [zr (19, 0), zr (20, 0), zr (21, 0), zi (nI N), zi (nI c)]))) (h20 : M (20, 0) = some (.inl (0, 160, .inl g))) (h21 : M (21, 0) = some (.inl (0, 160, .inl w))) (hc : c < 160) (tk pl : Int32) : zCv zX7_keep fr 0 0 [zr (10, 0), zi tk, zi pl] M (fun M' => M' = zupd (zupd (zupd M (20, 0) (.inl (0, 160, .inl (zup g c tk)))) (21, 0) (.inl (0, 160, .inl (zup w c pl)))) (10, 0) (.inr (7, [zr (19, 0), zr (20, 0), zr (21, 0), zi (nI N), zi (nI (c + 1))]))) := by
  refine z_enter (L := [some (zr (10, 0)), some (zi tk), some (zi pl)]) rfl (by decide +kernel) (Nat.le_of_ble_eq_true rfl) ?_
  have e1 := nI_toInt (n := c) (by omega)
  refine z_al iX7_keep_0 rfl ?_
  refine z_gf iX7_keep_1 h10 rfl ?_
  refine z_co iX7_keep_4 ?_
  refine z_icmp_ge iX7_keep_7 (fun h1 => ?_) (fun h1 => ?_)
  · exfalso
    simp only [zi_le, Int32.reduceToInt, e1] at h1
    omega
  · refine z_al iX7_keep_10 rfl ?_
    refine z_gf iX7_keep_11 h10 rfl ?_
    refine z_al iX7_keep_14 rfl ?_
    refine z_gf iX7_keep_15 h10 rfl ?_
    refine z_il iX7_keep_18 rfl ?_
    refine z_iast iX7_keep_19 h20 (show 2 ≤ 20 by decide) e1 hc ?_
    refine z_al iX7_keep_20 rfl ?_
    refine z_gf iX7_keep_21 ((zupd_k (Nat.ne_of_beq_eq_false rfl)).trans h10) rfl ?_
    refine z_al iX7_keep_24 rfl ?_
    refine z_gf iX7_keep_25 ((zupd_k (Nat.ne_of_beq_eq_false rfl)).trans h10) rfl ?_
    refine z_il iX7_keep_28 rfl ?_
    refine z_iast iX7_keep_29 ((zupd_k (Nat.ne_of_beq_eq_false rfl)).trans h21) (show 2 ≤ 21 by decide) e1 hc ?_
    refine z_al iX7_keep_30 rfl ?_
    refine z_dup iX7_keep_31 ?_
    refine z_gf iX7_keep_32 ((zupd_k (Nat.ne_of_beq_eq_false rfl)).trans ((zupd_k (Nat.ne_of_beq_eq_false rfl)).trans h10)) rfl ?_
    refine z_co iX7_keep_35 ?_
    refine z_iadd iX7_keep_36 ?_
    refine z_pf iX7_keep_37 ((zupd_k (Nat.ne_of_beq_eq_false rfl)).trans ((zupd_k (Nat.ne_of_beq_eq_false rfl)).trans h10)) (show 2 ≤ 10 by decide) (Nat.le_of_ble_eq_true rfl) trivial ?_
    refine z_vret iX7_keep_40 rfl ?_
    refine ⟨rfl, ?_⟩
    rw [nI_succ]
    rfl
/-- the split under way: c tokens stand, the places below i are through -/
def spS (M0 M : zM) (u : Nat → Int32) (N i c : Nat) : Prop := ∃ g w : Nat → Int32, M (10, 0) = some (.inr (7, [zr (19, 0), zr (20, 0), zr (21, 0), zi (nI N), zi (nI c)])) ∧ M (20, 0) = some (.inl (0, 160, .inl g)) ∧ M (21, 0) = some (.inl (0, 160, .inl w)) ∧ (∀ k, k < c → g k = tkT u N k ∧ w k = nI (tkP u N k)) ∧ (∀ k, k < c → tkP u N k < i) ∧ i ≤ tkP u N c ∧ ∀ a : zAd, a ≠ (10, 0) → a ≠ (20, 0) → a ≠ (21, 0) → M a = M0 a
theorem spS.beg {M0 M : zM} {u : Nat → Int32} {N i c : Nat} (h : spS M0 M u N i c) (hi : i < N) : tkBeg u i ↔ i = tkP u N c := by
  obtain ⟨g, w, -, -, -, -, h5, h6, -⟩ := h
  cases c with
  | zero => exact tkBeg_0 h6 hi
  | succ c => exact tkBeg_s (h5 c (by omega)) h6 hi
theorem spS.skip {M0 M : zM} {u : Nat → Int32} {N i c : Nat} (h : spS M0 M u N i c) (hi : i < N) (hb : ¬ tkBeg u i) : spS M0 M u N (i + 1) c := by
  have h0 := h.beg hi
  obtain ⟨g, w, h1, h2, h3, h4, h5, h6, h7⟩ := h
  refine ⟨g, w, h1, h2, h3, h4, fun k hk => ?_, ?_, h7⟩
  · have := h5 k hk
    omega
  · have : ¬ i = tkP u N c := fun q => hb (h0.mpr q)
    omega
theorem spS.c {M0 M : zM} {u : Nat → Int32} {N i c : Nat} (h : spS M0 M u N i c) (hi : i < N) (hb : tkBeg u i) : i = tkP u N c ∧ tkP u N c < N ∧ c ≤ i := by
  have h0 := (h.beg hi).mp hb
  exact ⟨h0, by omega, by rw [h0]; exact tkP_k c (by omega)⟩
theorem spS.step {M0 M M' : zM} {u : Nat → Int32} {N i c : Nat} (h : spS M0 M u N i c) (hi : i < N) (hb : tkBeg u i) (hM : ∀ g w : Nat → Int32, M (20, 0) = some (.inl (0, 160, .inl g)) → M (21, 0) = some (.inl (0, 160, .inl w)) → M' = zupd (zupd (zupd M (20, 0) (.inl (0, 160, .inl (zup g c (tkCode u N i))))) (21, 0) (.inl (0, 160, .inl (zup w c (nI i))))) (10, 0) (.inr (7, [zr (19, 0), zr (20, 0), zr (21, 0), zi (nI N), zi (nI (c + 1))]))) : spS M0 M' u N (i + 1) (c + 1) := by
  have h0 := h.c hi hb
  obtain ⟨g, w, h1, h2, h3, h4, h5, h6, h7⟩ := h
  have hM := hM g w h2 h3
  subst hM
  refine ⟨_, _, zupd_s, (zupd_k (show (20 : Nat) ≠ 10 by decide)).trans ((zupd_k (show (20 : Nat) ≠ 21 by decide)).trans zupd_s), (zupd_k (show (21 : Nat) ≠ 10 by decide)).trans zupd_s, fun k hk => ?_, fun k hk => ?_, ?_, fun a a1 a2 a3 => (zupd_n a1).trans ((zupd_n a3).trans ((zupd_n a2).trans (h7 a a1 a2 a3)))⟩
  · by_cases z : k = c
    · subst z
      rw [zup_s, zup_s, tkT_s h0.2.1, ← h0.1]
      exact ⟨rfl, rfl⟩
    · rw [zup_n z, zup_n z]
      exact h4 k (by omega)
  · by_cases z : k = c
    · subst z; omega
    · have := h5 k (by omega)
      omega
  · have := tkP_lt h0.2.1
    omega
theorem spS.fin {M0 M : zM} {u : Nat → Int32} {N c : Nat} (hN : N ≤ 160) (h : spS M0 M u N N c) : tpS M (tkT u N) (tkP u N) N (tkC u N) ∧ ∀ a : zAd, a ≠ (10, 0) → a ≠ (20, 0) → a ≠ (21, 0) → M a = M0 a := by
  obtain ⟨g, w, h1, h2, h3, h4, h5, h6, h7⟩ := h
  have e1 : c = tkC u N := by
    have g1 : ¬ c < tkC u N := fun q => by have := tkC_iff.mpr q; omega
    have g2 : ¬ tkC u N < c := fun q => by
      have z1 := tkC_iff.mp (h5 _ q)
      omega
    omega
  subst e1
  refine ⟨⟨g, w, h1, h2, h3, h4, fun k hk => ⟨(tkT_E hN).2 k hk, tkP_end hk⟩, Nat.le_trans tkC_le hN⟩, h7⟩
set_option maxRecDepth 20000 in
set_option maxHeartbeats 4000000 in
theorem l7_split {fr : Nat} {M0 : zM} {N : Nat} {b : Nat → Int32} {u : Nat → Int32} (hf : 7 ≤ fr) (h19 : M0 (19, 0) = some (.inl (2, 160, .inl b))) (hN : N ≤ 160) (hb : ∀ j, j < N → b j = (u j).toInt8.toInt32) (hu : ∀ j, j < N → 0 ≤ (u j).toInt ∧ (u j).toInt ≤ 255)  : ∀ (n i : Nat) (M : zM) (c : Nat), i + n = N → spS M0 M u N i c → zV zX7_split fr 0 0 7 (zL [some (zr (10, 0)), some (zi (nI i))]) [] M (fun r M' => r = none ∧ ∃ c, spS M0 M' u N N c) := by
  intro n
  induction n with
  | zero =>
    intro i M c hn hS
    obtain ⟨g, w, g1, g2, g3, g4, g5, g6, g7⟩ := id hS
    have h19M : M (19, 0) = some (.inl (2, 160, .inl b)) := (g7 _ (zad1 (by decide)) (zad1 (by decide)) (zad1 (by decide))).trans h19
    refine z_il iX7_split_7 rfl ?_
    refine z_al iX7_split_8 rfl ?_
    refine z_gf iX7_split_9 g1 rfl ?_
    refine z_icmp_ge iX7_split_12 (fun h1 => ?_) (fun h1 => ?_)
    · refine z_vret iX7_split_39 rfl ?_
      refine ⟨rfl, c, ?_⟩
      rw [show i = N by omega] at hS
      exact hS
    · exfalso
      have e1 := nI_toInt (n := i) (by omega)
      have e2 := nI_toInt (n := N) (by omega)
      simp only [zi_le, e1, e2] at h1
      omega
  | succ n ih =>
    intro i M c hn hS
    obtain ⟨g, w, g1, g2, g3, g4, g5, g6, g7⟩ := id hS
    have h19M : M (19, 0) = some (.inl (2, 160, .inl b)) := (g7 _ (zad1 (by decide)) (zad1 (by decide)) (zad1 (by decide))).trans h19
    refine z_il iX7_split_7 rfl ?_
    refine z_al iX7_split_8 rfl ?_
    refine z_gf iX7_split_9 g1 rfl ?_
    refine z_icmp_ge iX7_split_12 (fun h1 => ?_) (fun h1 => ?_)
    · exfalso
      have e1 := nI_toInt (n := i) (by omega)
      have e2 := nI_toInt (n := N) (by omega)
      simp only [zi_le, e1, e2] at h1
      omega
    · refine z_al iX7_split_15 rfl ?_
      refine z_il iX7_split_16 rfl ?_
      refine z_cv1i (fr' := fr - 1) iX7_split_17 zmX7_isBegin g1 (c7_isBegin (by omega) g1 h19M hN hb hu (show i < N by omega)) (by omega) (Nat.le_of_ble_eq_true rfl) (fun x M1 hq => ?_)
      obtain ⟨rfl, rfl⟩ := hq
      refine z_ib_eq iX7_split_20 (fun h2 => ?_) (fun h2 => ?_)
      · have hS := hS.skip (show i < N by omega) h2
        refine z_in iX7_split_33 rfl ?_
        refine z_goto iX7_split_36 ?_
        refine z_loc [some (zr (10, 0)), some (zi (nI (i + 1)))] ⟨rfl, ?_, trivial⟩ (ih (i + 1) _ _ (by omega) hS)
        show some (zi (nI i + 1)) = _
        rw [nI_1]
      · refine z_al iX7_split_23 rfl ?_
        refine z_al iX7_split_24 rfl ?_
        refine z_il iX7_split_25 rfl ?_
        refine z_cv1i (fr' := fr - 1) iX7_split_26 zmX7_tokenFrom g1 (c7_tokenFrom (by omega) g1 h19M hN hb hu (show i < N by omega)) (by omega) (Nat.le_of_ble_eq_true rfl) (fun x M1 hq => ?_)
        obtain ⟨rfl, rfl⟩ := hq
        refine z_il iX7_split_29 rfl ?_
        refine z_cv2v (fr' := fr - 1) iX7_split_30 zmX7_keep g1 (c7_keep (w := w) g1 g2 g3 (show c < 160 by have := (hS.c (show i < N by omega) h2).2.2; omega) _ _) (by omega) (Nat.le_of_ble_eq_true rfl) (fun M1 hq => ?_)
        have hS := hS.step (M' := M1) (show i < N by omega) h2 (fun g' w' i1 i2 => by rw [g2] at i1; rw [g3] at i2; cases i1; cases i2; exact hq)
        refine z_in iX7_split_33 rfl ?_
        refine z_goto iX7_split_36 ?_
        refine z_loc [some (zr (10, 0)), some (zi (nI (i + 1)))] ⟨rfl, ?_, trivial⟩ (ih (i + 1) _ _ (by omega) hS)
        show some (zi (nI i + 1)) = _
        rw [nI_1]
set_option maxRecDepth 20000 in
set_option maxHeartbeats 4000000 in
theorem c7_split {fr : Nat} {M : zM} {tc : Int32} {g w : Nat → Int32} {N : Nat} {b : Nat → Int32} {u : Nat → Int32} (hf : 7 ≤ fr) (h10 : M (10, 0) = some (.inr (7, [zr (19, 0), zr (20, 0), zr (21, 0), zi (nI N), zi tc]))) (h20 : M (20, 0) = some (.inl (0, 160, .inl g))) (h21 : M (21, 0) = some (.inl (0, 160, .inl w))) (h19 : M (19, 0) = some (.inl (2, 160, .inl b))) (hN : N ≤ 160) (hb : ∀ j, j < N → b j = (u j).toInt8.toInt32) (hu : ∀ j, j < N → 0 ≤ (u j).toInt ∧ (u j).toInt ≤ 255) : zCv zX7_split fr 0 0 [zr (10, 0)] M (fun M' => tpS M' (tkT u N) (tkP u N) N (tkC u N) ∧ ∀ a : zAd, a ≠ (10, 0) → a ≠ (20, 0) → a ≠ (21, 0) → M' a = M a) := by
  refine z_enter (L := [some (zr (10, 0))]) rfl (by decide +kernel) (Nat.le_of_ble_eq_true rfl) ?_
  refine z_al iX7_split_0 rfl ?_
  refine z_co iX7_split_1 ?_
  refine z_pf iX7_split_2 h10 (show 2 ≤ 10 by decide) (Nat.le_of_ble_eq_true rfl) trivial ?_
  refine z_co iX7_split_5 ?_
  refine z_is iX7_split_6 ?_
  refine z_loc [some (zr (10, 0)), some (zi (nI 0))] ⟨rfl, rfl, trivial⟩ ?_
  refine (l7_split hf h19 hN hb hu N 0 _ 0 (by omega) ⟨g, w, zupd_s, (zupd_k (show (20 : Nat) ≠ 10 by decide)).trans h20, (zupd_k (show (21 : Nat) ≠ 10 by decide)).trans h21, fun k hk => absurd hk (Nat.not_lt_zero k), fun k hk => absurd hk (Nat.not_lt_zero k), Nat.zero_le _, fun a a1 a2 a3 => zupd_n a1⟩).mono (fun r M' ⟨hr, c, hc⟩ => ⟨hr, hc.fin hN⟩)
set_option maxRecDepth 20000 in
set_option maxHeartbeats 4000000 in
theorem c8_clear {fr : Nat} {M : zM} {t : Nat} {sz cl : Int32} (h23 : M (23, t) = some (.inr (8, [zr (24, t), zr (25, t), zi sz, zi cl]))) : zCv zX8_clear fr 0 0 [zr (23, t)] M (fun M' => M' = zupd M (23, t) (.inr (8, [zr (24, t), zr (25, t), zi 0, zi 0]))) := by
  refine z_enter (L := [some (zr (23, t))]) rfl (by decide +kernel) (Nat.le_of_ble_eq_true rfl) ?_
  refine z_al iX8_clear_0 rfl ?_
  refine z_co iX8_clear_1 ?_
  refine z_pf iX8_clear_2 h23 (show 2 ≤ 23 by decide) (Nat.le_of_ble_eq_true rfl) trivial ?_
  refine z_al iX8_clear_5 rfl ?_
  refine z_co iX8_clear_6 ?_
  refine z_pf2 iX8_clear_7 (show 2 ≤ 23 by decide) (Nat.le_of_ble_eq_true rfl) trivial ?_
  refine z_vret iX8_clear_10 rfl ?_
  exact ⟨rfl, rfl⟩
set_option maxRecDepth 20000 in
set_option maxHeartbeats 4000000 in
theorem c8_closePart {fr : Nat} {M : zM} {t cl : Nat} {sz : Int32} {e : Nat → Int32} (h23 : M (23, t) = some (.inr (8, [zr (24, t), zr (25, t), zi sz, zi (nI cl)]))) (h25 : M (25, t) = some (.inl (0, 3, .inl e))) (hc : cl < 3) : zCv zX8_closePart fr 0 0 [zr (23, t)] M (fun M' => M' = zupd (zupd M (25, t) (.inl (0, 3, .inl (zup e cl sz)))) (23, t) (.inr (8, [zr (24, t), zr (25, t), zi sz, zi (nI (cl + 1))]))) := by
  refine z_enter (L := [some (zr (23, t))]) rfl (by decide +kernel) (Nat.le_of_ble_eq_true rfl) ?_
  have e1 := nI_toInt (n := cl) (by omega)
  refine z_al iX8_closePart_0 rfl ?_
  refine z_gf iX8_closePart_1 h23 rfl ?_
  refine z_co iX8_closePart_4 ?_
  refine z_icmp_ge iX8_closePart_5 (fun h1 => ?_) (fun h1 => ?_)
  · exfalso
    simp only [zi_le, Int32.reduceToInt, e1] at h1
    omega
  · refine z_al iX8_closePart_8 rfl ?_
    refine z_gf iX8_closePart_9 h23 rfl ?_
    refine z_al iX8_closePart_12 rfl ?_
    refine z_gf iX8_closePart_13 h23 rfl ?_
    refine z_al iX8_closePart_16 rfl ?_
    refine z_gf iX8_closePart_17 h23 rfl ?_
    refine z_iast iX8_closePart_20 h25 (show 2 ≤ 25 by decide) e1 hc ?_
    refine z_al iX8_closePart_21 rfl ?_
    refine z_dup iX8_closePart_22 ?_
    refine z_gf iX8_closePart_23 ((zupd_k (show (23 : Nat) ≠ 25 by decide)).trans h23) rfl ?_
    refine z_co iX8_closePart_26 ?_
    refine z_iadd iX8_closePart_27 ?_
    refine z_pf iX8_closePart_28 ((zupd_k (show (23 : Nat) ≠ 25 by decide)).trans h23) (show 2 ≤ 23 by decide) (Nat.le_of_ble_eq_true rfl) trivial ?_
    refine z_vret iX8_closePart_31 rfl ?_
    refine ⟨rfl, ?_⟩
    rw [nI_succ]
    rfl
theorem pqExp_k {N : Nat} {T : Nat → Int32} (hE : pqE N T) {s : pqS} {w : Int32} (w1 : w ≠ -21) (w2 : w ≠ -20) (h : s.1 ≤ N) : (pqExp T w s).1 ≤ N := by
  unfold pqExp
  by_cases q : pqTk T s = w
  · rw [if_pos q]; exact (pqTk_lt hE q w1 w2).2.2
  · rw [if_neg q]; exact h
theorem crS0.close {M0 M : zM} {t cl : Nat} {T : Nat → Int32} {P : Nat → Nat} {s : pqS} {e : Nat → Int32} (h : crS0 M0 M t (nI cl) T P s) : crS0 (zupd M0 (25, t) (.inl (0, 3, .inl (zup e cl (nI s.2.2.length))))) (zupd (zupd M (25, t) (.inl (0, 3, .inl (zup e cl (nI s.2.2.length))))) (23, t) (.inr (8, [zr (24, t), zr (25, t), zi (nI s.2.2.length), zi (nI (cl + 1))]))) t (nI (cl + 1)) T P s := by
  obtain ⟨h1, h2, ⟨f, h3, h4⟩, h5, h6⟩ := h
  refine ⟨(zupd_k (show (11 : Nat) ≠ 23 by decide)).trans ((zupd_k (show (11 : Nat) ≠ 25 by decide)).trans h1), zupd_s, ⟨f, (zupd_k (show (24 : Nat) ≠ 23 by decide)).trans ((zupd_k (show (24 : Nat) ≠ 25 by decide)).trans h3), h4⟩, h5, fun a a1 a2 a3 => ?_⟩
  rw [zupd_n a2]
  by_cases z : a = (25, t)
  · rw [z, zupd_s, zupd_s]
  · rw [zupd_n z, zupd_n z]
    exact h6 a a1 a2 a3
set_option maxRecDepth 20000 in
set_option maxHeartbeats 4000000 in
theorem cr_part {fr : Nat} {M0 M : zM} {t nn N cl : Nat} {T : Nat → Int32} {P : Nat → Nat} {s : pqS} {e : Nat → Int32} (hf : 42 ≤ fr) (hS : crS M0 M t N (nI cl) T P s) (hT : tpS M0 T P nn N) (h25 : M0 (25, t) = some (.inl (0, 3, .inl e))) (hc : cl < 3) (key : Int32) (w1 : key ≠ -21) (w2 : key ≠ -20) : zCv zX3_readPart fr 0 0 [zr (11, 0), zi key] M (fun M' => crS (zupd M0 (25, t) (.inl (0, 3, .inl (zup e cl (nI (pqPart T key s).2.2.length))))) M' t N (nI (cl + 1)) T P (pqPart T key s)) := by
  refine z_enter (L := [some (zr (11, 0)), some (zi key)]) rfl (by decide +kernel) (Nat.le_of_ble_eq_true rfl) ?_
  refine z_al iX3_readPart_0 rfl ?_
  refine z_il iX3_readPart_1 rfl ?_
  refine z_cv1v (fr' := fr - 1) iX3_readPart_2 zmX3_expect hS.1.1 (cr_expectW (by omega) hS hT _ w1 w2) (by omega) (Nat.le_of_ble_eq_true rfl) (fun M1 hq => ?_)
  have hS := hq
  refine z_al iX3_readPart_5 rfl ?_
  refine z_co iX3_readPart_6 ?_
  refine z_cv1v (fr' := fr - 1) iX3_readPart_7 zmX3_readEither hS.1.1 (cr_either hT _ _ _ (by omega) hS) (by omega) (Nat.le_of_ble_eq_true rfl) (fun M1 hq => ?_)
  have hS := hq
  refine z_al iX3_readPart_10 rfl ?_
  refine z_co iX3_readPart_11 ?_
  refine z_cv1v (fr' := fr - 1) iX3_readPart_13 zmX3_expect hS.1.1 (cr_expectW (by omega) hS hT (-59) (by decide) (by decide)) (by omega) (Nat.le_of_ble_eq_true rfl) (fun M1 hq => ?_)
  have hS := hq
  refine z_al iX3_readPart_16 rfl ?_
  refine z_gf iX3_readPart_17 hS.1.1 rfl ?_
  refine z_cv0v (fr' := fr - 1) iX3_readPart_20 zmX8_closePart hS.1.2.1 (c8_closePart hS.1.2.1 ((hS.1.2.2.2.2 _ (zad1 (by decide)) (zad1 (by decide)) (zad1 (by decide))).trans h25) hc) (by omega) (Nat.le_of_ble_eq_true rfl) (fun M1 hq => ?_)
  obtain rfl := hq
  refine z_vret iX3_readPart_23 rfl ?_
  exact ⟨rfl, hS.1.close, hS.2⟩
