set_option maxRecDepth 20000 in
set_option maxHeartbeats 4000000 in
theorem c7_tokenAt {fr : Nat} {M : zM} {n N : Nat} {g : Nat → Int32} (h10 : M (10, 0) = some (.inr (7, [zr (19, 0), zr (20, 0), zr (21, 0), zi (nI n), zi (nI N)]))) (hrow : M (20, 0) = some (.inl (0, 160, .inl g))) (hN : N ≤ 160) (k : Nat) (hk : k ≤ 1000) : zCi zX7_tokenAt fr 0 0 [zr (10, 0), zi (nI k)] M (fun x M' => M' = M ∧ x = if k < N then g k else -20) := by
  refine z_enter (L := [some (zr (10, 0)), some (zi (nI k))]) rfl (by decide +kernel) (Nat.le_of_ble_eq_true rfl) ?_
  refine z_il iX7_tokenAt_0 rfl ?_
  refine z_if_lt iX7_tokenAt_1 (fun h1 => ?_) (fun h1 => ?_)
  · refine z_co iX7_tokenAt_28 ?_
    refine z_iret iX7_tokenAt_30 rfl ?_
    refine ⟨_, rfl, rfl, ?_⟩
    by_cases q : k < N
    · refine Eq.trans ?_ (if_pos q).symm
      first | rfl | (exfalso; have e1 := nI_toInt (n := k) (by omega); have e2 := nI_toInt (n := N) (by omega); simp only [zi_eq, zi_le, zi_lt, Int32.reduceToInt, e1, e2] at * <;> omega)
    · refine Eq.trans ?_ (if_neg q).symm
      first | rfl | (exfalso; have e1 := nI_toInt (n := k) (by omega); have e2 := nI_toInt (n := N) (by omega); simp only [zi_eq, zi_le, zi_lt, Int32.reduceToInt, e1, e2] at * <;> omega)
  · refine z_il iX7_tokenAt_4 rfl ?_
    refine z_al iX7_tokenAt_5 rfl ?_
    refine z_gf iX7_tokenAt_6 h10 rfl ?_
    refine z_icmp_ge iX7_tokenAt_9 (fun h2 => ?_) (fun h2 => ?_)
    · refine z_co iX7_tokenAt_28 ?_
      refine z_iret iX7_tokenAt_30 rfl ?_
      refine ⟨_, rfl, rfl, ?_⟩
      by_cases q : k < N
      · refine Eq.trans ?_ (if_pos q).symm
        first | rfl | (exfalso; have e1 := nI_toInt (n := k) (by omega); have e2 := nI_toInt (n := N) (by omega); simp only [zi_eq, zi_le, zi_lt, Int32.reduceToInt, e1, e2] at * <;> omega)
      · refine Eq.trans ?_ (if_neg q).symm
        first | rfl | (exfalso; have e1 := nI_toInt (n := k) (by omega); have e2 := nI_toInt (n := N) (by omega); simp only [zi_eq, zi_le, zi_lt, Int32.reduceToInt, e1, e2] at * <;> omega)
    · refine z_il iX7_tokenAt_12 rfl ?_
      refine z_co iX7_tokenAt_13 ?_
      refine z_icmp_ge iX7_tokenAt_16 (fun h3 => ?_) (fun h3 => ?_)
      · refine z_co iX7_tokenAt_28 ?_
        refine z_iret iX7_tokenAt_30 rfl ?_
        refine ⟨_, rfl, rfl, ?_⟩
        by_cases q : k < N
        · refine Eq.trans ?_ (if_pos q).symm
          first | rfl | (exfalso; have e1 := nI_toInt (n := k) (by omega); have e2 := nI_toInt (n := N) (by omega); simp only [zi_eq, zi_le, zi_lt, Int32.reduceToInt, e1, e2] at * <;> omega)
        · refine Eq.trans ?_ (if_neg q).symm
          first | rfl | (exfalso; have e1 := nI_toInt (n := k) (by omega); have e2 := nI_toInt (n := N) (by omega); simp only [zi_eq, zi_le, zi_lt, Int32.reduceToInt, e1, e2] at * <;> omega)
      · refine z_al iX7_tokenAt_19 rfl ?_
        refine z_gf iX7_tokenAt_20 h10 rfl ?_
        refine z_il iX7_tokenAt_23 rfl ?_
        refine z_iald iX7_tokenAt_24 hrow (nI_toInt (by omega)) (by have e1 := nI_toInt (n := k) (by omega); simp only [zi_eq, zi_le, zi_lt, Int32.reduceToInt, e1] at * <;> omega) ?_
        refine z_goto iX7_tokenAt_25 ?_
        refine z_iret iX7_tokenAt_30 rfl ?_
        refine ⟨_, rfl, rfl, ?_⟩
        by_cases q : k < N
        · refine Eq.trans ?_ (if_pos q).symm
          first | rfl | (exfalso; have e1 := nI_toInt (n := k) (by omega); have e2 := nI_toInt (n := N) (by omega); simp only [zi_eq, zi_le, zi_lt, Int32.reduceToInt, e1, e2] at * <;> omega)
        · refine Eq.trans ?_ (if_neg q).symm
          first | rfl | (exfalso; have e1 := nI_toInt (n := k) (by omega); have e2 := nI_toInt (n := N) (by omega); simp only [zi_eq, zi_le, zi_lt, Int32.reduceToInt, e1, e2] at * <;> omega)
set_option maxRecDepth 20000 in
set_option maxHeartbeats 4000000 in
theorem c7_placeAt {fr : Nat} {M : zM} {n N : Nat} {g : Nat → Int32} (h10 : M (10, 0) = some (.inr (7, [zr (19, 0), zr (20, 0), zr (21, 0), zi (nI n), zi (nI N)]))) (hrow : M (21, 0) = some (.inl (0, 160, .inl g))) (hN : N ≤ 160) (k : Nat) (hk : k ≤ 1000) : zCi zX7_placeAt fr 0 0 [zr (10, 0), zi (nI k)] M (fun x M' => M' = M ∧ x = if k < N then g k else nI n) := by
  refine z_enter (L := [some (zr (10, 0)), some (zi (nI k))]) rfl (by decide +kernel) (Nat.le_of_ble_eq_true rfl) ?_
  refine z_il iX7_placeAt_0 rfl ?_
  refine z_if_lt iX7_placeAt_1 (fun h1 => ?_) (fun h1 => ?_)
  · refine z_al iX7_placeAt_28 rfl ?_
    refine z_gf iX7_placeAt_29 h10 rfl ?_
    refine z_iret iX7_placeAt_32 rfl ?_
    refine ⟨_, rfl, rfl, ?_⟩
    by_cases q : k < N
    · refine Eq.trans ?_ (if_pos q).symm
      first | rfl | (exfalso; have e1 := nI_toInt (n := k) (by omega); have e2 := nI_toInt (n := N) (by omega); simp only [zi_eq, zi_le, zi_lt, Int32.reduceToInt, e1, e2] at * <;> omega)
    · refine Eq.trans ?_ (if_neg q).symm
      first | rfl | (exfalso; have e1 := nI_toInt (n := k) (by omega); have e2 := nI_toInt (n := N) (by omega); simp only [zi_eq, zi_le, zi_lt, Int32.reduceToInt, e1, e2] at * <;> omega)
  · refine z_il iX7_placeAt_4 rfl ?_
    refine z_al iX7_placeAt_5 rfl ?_
    refine z_gf iX7_placeAt_6 h10 rfl ?_
    refine z_icmp_ge iX7_placeAt_9 (fun h2 => ?_) (fun h2 => ?_)
    · refine z_al iX7_placeAt_28 rfl ?_
      refine z_gf iX7_placeAt_29 h10 rfl ?_
      refine z_iret iX7_placeAt_32 rfl ?_
      refine ⟨_, rfl, rfl, ?_⟩
      by_cases q : k < N
      · refine Eq.trans ?_ (if_pos q).symm
        first | rfl | (exfalso; have e1 := nI_toInt (n := k) (by omega); have e2 := nI_toInt (n := N) (by omega); simp only [zi_eq, zi_le, zi_lt, Int32.reduceToInt, e1, e2] at * <;> omega)
      · refine Eq.trans ?_ (if_neg q).symm
        first | rfl | (exfalso; have e1 := nI_toInt (n := k) (by omega); have e2 := nI_toInt (n := N) (by omega); simp only [zi_eq, zi_le, zi_lt, Int32.reduceToInt, e1, e2] at * <;> omega)
    · refine z_il iX7_placeAt_12 rfl ?_
      refine z_co iX7_placeAt_13 ?_
      refine z_icmp_ge iX7_placeAt_16 (fun h3 => ?_) (fun h3 => ?_)
      · refine z_al iX7_placeAt_28 rfl ?_
        refine z_gf iX7_placeAt_29 h10 rfl ?_
        refine z_iret iX7_placeAt_32 rfl ?_
        refine ⟨_, rfl, rfl, ?_⟩
        by_cases q : k < N
        · refine Eq.trans ?_ (if_pos q).symm
          first | rfl | (exfalso; have e1 := nI_toInt (n := k) (by omega); have e2 := nI_toInt (n := N) (by omega); simp only [zi_eq, zi_le, zi_lt, Int32.reduceToInt, e1, e2] at * <;> omega)
        · refine Eq.trans ?_ (if_neg q).symm
          first | rfl | (exfalso; have e1 := nI_toInt (n := k) (by omega); have e2 := nI_toInt (n := N) (by omega); simp only [zi_eq, zi_le, zi_lt, Int32.reduceToInt, e1, e2] at * <;> omega)
      · refine z_al iX7_placeAt_19 rfl ?_
        refine z_gf iX7_placeAt_20 h10 rfl ?_
        refine z_il iX7_placeAt_23 rfl ?_
        refine z_iald iX7_placeAt_24 hrow (nI_toInt (by omega)) (by have e1 := nI_toInt (n := k) (by omega); simp only [zi_eq, zi_le, zi_lt, Int32.reduceToInt, e1] at * <;> omega) ?_
        refine z_goto iX7_placeAt_25 ?_
        refine z_iret iX7_placeAt_32 rfl ?_
        refine ⟨_, rfl, rfl, ?_⟩
        by_cases q : k < N
        · refine Eq.trans ?_ (if_pos q).symm
          first | rfl | (exfalso; have e1 := nI_toInt (n := k) (by omega); have e2 := nI_toInt (n := N) (by omega); simp only [zi_eq, zi_le, zi_lt, Int32.reduceToInt, e1, e2] at * <;> omega)
        · refine Eq.trans ?_ (if_neg q).symm
          first | rfl | (exfalso; have e1 := nI_toInt (n := k) (by omega); have e2 := nI_toInt (n := N) (by omega); simp only [zi_eq, zi_le, zi_lt, Int32.reduceToInt, e1, e2] at * <;> omega)
set_option maxRecDepth 20000 in
set_option maxHeartbeats 4000000 in
theorem c8_add {fr : Nat} {M : zM} {t l : Nat} {cl : Int32} {f : Nat → Int32} (h23 : M (23, t) = some (.inr (8, [zr (24, t), zr (25, t), zi (nI l), zi cl]))) (h24 : M (24, t) = some (.inl (0, 160, .inl f))) (hl : l ≤ 160) (x : Int32) : zCv zX8_add fr 0 0 [zr (23, t), zi x] M (fun M' => M' = if l < 160 then zupd (zupd M (24, t) (.inl (0, 160, .inl (zup f l x)))) (23, t) (.inr (8, [zr (24, t), zr (25, t), zi (nI (l + 1)), zi cl])) else M) := by
  refine z_enter (L := [some (zr (23, t)), some (zi x)]) rfl (by decide +kernel) (Nat.le_of_ble_eq_true rfl) ?_
  refine z_al iX8_add_0 rfl ?_
  refine z_gf iX8_add_1 h23 rfl ?_
  refine z_co iX8_add_4 ?_
  refine z_icmp_ge iX8_add_7 (fun h1 => ?_) (fun h1 => ?_)
  · refine z_vret iX8_add_30 rfl ?_
    refine ⟨rfl, ?_⟩
    by_cases q : l < 160
    · refine Eq.trans ?_ (if_pos q).symm
      first | (rw [nI_succ]; rfl) | (exfalso; have e1 := nI_toInt (n := l) (by omega); simp only [zi_eq, zi_le, zi_lt, Int32.reduceToInt, e1] at * <;> omega)
    · refine Eq.trans ?_ (if_neg q).symm
      first | rfl | (exfalso; have e1 := nI_toInt (n := l) (by omega); simp only [zi_eq, zi_le, zi_lt, Int32.reduceToInt, e1] at * <;> omega)
  · refine z_al iX8_add_10 rfl ?_
    refine z_gf iX8_add_11 h23 rfl ?_
    refine z_al iX8_add_14 rfl ?_
    refine z_gf iX8_add_15 h23 rfl ?_
    refine z_il iX8_add_18 rfl ?_
    refine z_iast iX8_add_19 h24 (show 2 ≤ 24 by decide) (nI_toInt (by omega)) (by have e1 := nI_toInt (n := l) (by omega); simp only [zi_eq, zi_le, zi_lt, Int32.reduceToInt, e1] at * <;> omega) ?_
    refine z_al iX8_add_20 rfl ?_
    refine z_dup iX8_add_21 ?_
    refine z_gf iX8_add_22 ((zupd_k (show (23 : Nat) ≠ 24 by decide)).trans h23) rfl ?_
    refine z_co iX8_add_25 ?_
    refine z_iadd iX8_add_26 ?_
    refine z_pf iX8_add_27 ((zupd_k (show (23 : Nat) ≠ 24 by decide)).trans h23) (show 2 ≤ 23 by decide) (Nat.le_of_ble_eq_true rfl) trivial ?_
    refine z_vret iX8_add_30 rfl ?_
    refine ⟨rfl, ?_⟩
    by_cases q : l < 160
    · refine Eq.trans ?_ (if_pos q).symm
      first | (rw [nI_succ]; rfl) | (exfalso; have e1 := nI_toInt (n := l) (by omega); simp only [zi_eq, zi_le, zi_lt, Int32.reduceToInt, e1] at * <;> omega)
    · refine Eq.trans ?_ (if_neg q).symm
      first | rfl | (exfalso; have e1 := nI_toInt (n := l) (by omega); simp only [zi_eq, zi_le, zi_lt, Int32.reduceToInt, e1] at * <;> omega)
/-- the tape as the tokens' split leaves it -/
def tpS (M : zM) (T : Nat → Int32) (P : Nat → Nat) (n N : Nat) : Prop := ∃ g h : Nat → Int32, M (10, 0) = some (.inr (7, [zr (19, 0), zr (20, 0), zr (21, 0), zi (nI n), zi (nI N)])) ∧ M (20, 0) = some (.inl (0, 160, .inl g)) ∧ M (21, 0) = some (.inl (0, 160, .inl h)) ∧ (∀ k, k < N → g k = T k ∧ h k = nI (P k)) ∧ (∀ k, N ≤ k → T k = -20 ∧ P k = n) ∧ N ≤ 160
def crS0 (M0 M : zM) (t : Nat) (cl : Int32) (T : Nat → Int32) (P : Nat → Nat) (s : pqS) : Prop := M (11, 0) = some (.inr (3, [zr (10, 0), zr (23, t), zi (nI s.1), zi (pqTk T s), zi (if s.2.1 = true then nI (P s.1) else -1)])) ∧ M (23, t) = some (.inr (8, [zr (24, t), zr (25, t), zi (nI s.2.2.length), zi cl])) ∧ (∃ f : Nat → Int32, M (24, t) = some (.inl (0, 160, .inl f)) ∧ ∀ j (h : j < s.2.2.length), f j = s.2.2[j]) ∧ s.2.2.length ≤ 160 ∧ ∀ a : zAd, a ≠ (11, 0) → a ≠ (23, t) → a ≠ (24, t) → M a = M0 a
def crS (M0 M : zM) (t N : Nat) (cl : Int32) (T : Nat → Int32) (P : Nat → Nat) (s : pqS) : Prop := crS0 M0 M t cl T P s ∧ s.1 ≤ N
theorem zad1 {a b c d : Nat} (h : a ≠ c) : ((a, b) : zAd) ≠ (c, d) := fun q => h (congrArg Prod.fst q)
theorem crS.tape {M0 M : zM} {t n N : Nat} {cl : Int32} {T : Nat → Int32} {P : Nat → Nat} {s : pqS} (h : crS M0 M t N cl T P s) (hT : tpS M0 T P n N) : M (10, 0) = some (.inr (7, [zr (19, 0), zr (20, 0), zr (21, 0), zi (nI n), zi (nI N)])) := by
  obtain ⟨g, w, h1, -⟩ := hT
  rw [h.1.2.2.2.2 _ (zad1 (by decide)) (zad1 (by decide)) (zad1 (by decide))]
  exact h1
theorem crS0.tp {M0 M : zM} {t n N : Nat} {cl : Int32} {T : Nat → Int32} {P : Nat → Nat} {s : pqS} (h : crS0 M0 M t cl T P s) (hT : tpS M0 T P n N) : tpS M T P n N := by
  obtain ⟨g, w, h1, h2, h3, h4⟩ := hT
  have e := fun a b c d => h.2.2.2.2 a b c d
  refine ⟨g, w, ?_, ?_, ?_, h4⟩
  · rw [e _ (zad1 (by decide)) (zad1 (by decide)) (zad1 (by decide))]; exact h1
  · rw [e _ (zad1 (by decide)) (zad1 (by decide)) (zad1 (by decide))]; exact h2
  · rw [e _ (zad1 (by decide)) (zad1 (by decide)) (zad1 (by decide))]; exact h3
theorem crS0.rd {M0 M : zM} {t : Nat} {cl : Int32} {T : Nat → Int32} {P : Nat → Nat} {s s' : pqS} (h : crS0 M0 M t cl T P s) (ho : s'.2.2 = s.2.2) {fs : List zVal} (hfs : fs = [zr (10, 0), zr (23, t), zi (nI s'.1), zi (pqTk T s'), zi (if s'.2.1 = true then nI (P s'.1) else -1)]) : crS0 M0 (zupd M (11, 0) (.inr (3, fs))) t cl T P s' := by
  subst hfs
  obtain ⟨h1, h2, ⟨f, h3, h4⟩, h5, h6⟩ := h
  refine ⟨zupd_s, ?_, ⟨f, (zupd_k (show (24 : Nat) ≠ 11 by decide)).trans h3, ?_⟩, ?_, fun a a1 a2 a3 => (zupd_n a1).trans (h6 a a1 a2 a3)⟩
  · rw [zupd_k (show (23 : Nat) ≠ 11 by decide), ho]; exact h2
  · rw [ho]; exact h4
  · rw [ho]; exact h5
theorem crS0.add {M0 M M' : zM} {t : Nat} {cl : Int32} {T : Nat → Int32} {P : Nat → Nat} {s : pqS} {x : Int32} {f : Nat → Int32} (h : crS0 M0 M t cl T P s) (hf : M (24, t) = some (.inl (0, 160, .inl f)) ∧ ∀ j (h : j < s.2.2.length), f j = s.2.2[j]) (hM : M' = if s.2.2.length < 160 then zupd (zupd M (24, t) (.inl (0, 160, .inl (zup f s.2.2.length x)))) (23, t) (.inr (8, [zr (24, t), zr (25, t), zi (nI (s.2.2.length + 1)), zi cl])) else M) : crS0 M0 M' t cl T P (pqAdd x s) := by
  obtain ⟨h1, h2, -, h5, h6⟩ := h
  obtain ⟨h3, h4⟩ := hf
  unfold pqAdd
  by_cases q : s.2.2.length < 160
  · rw [if_pos q] at hM
    subst hM
    rw [if_pos q]
    refine ⟨(zupd_k (show (11 : Nat) ≠ 23 by decide)).trans ((zupd_k (show (11 : Nat) ≠ 24 by decide)).trans h1), ?_, ⟨_, (zupd_k (show (24 : Nat) ≠ 23 by decide)).trans zupd_s, fun j hj => ?_⟩, ?_, fun a a1 a2 a3 => (zupd_n a2).trans ((zupd_n a3).trans (h6 a a1 a2 a3))⟩
    · rw [zupd_s, List.length_append, List.length_singleton]
    · simp only [List.length_append, List.length_singleton] at hj
      by_cases z : j = s.2.2.length
      · subst z
        rw [zup_s]
        simp
      · rw [zup_n z, h4 j (by omega)]
        exact (List.getElem_append_left (by omega)).symm
    · simp only [List.length_append, List.length_singleton]
      omega
  · rw [if_neg q] at hM
    subst hM
    rw [if_neg q]
    exact ⟨h1, h2, ⟨f, h3, h4⟩, h5, h6⟩
set_option maxRecDepth 20000 in
set_option maxHeartbeats 4000000 in
theorem cr_add {fr : Nat} {M0 M : zM} {t N : Nat} {cl : Int32} {T : Nat → Int32} {P : Nat → Nat} {s : pqS} (hf : 1 ≤ fr) (hS : crS M0 M t N cl T P s) (x : Int32) : zCv zX8_add fr 0 0 [zr (23, t), zi x] M (fun M' => crS M0 M' t N cl T P  (pqAdd x s)) := by
  obtain ⟨f, h3⟩ := hS.1.2.2.1
  exact (c8_add hS.1.2.1 h3.1 hS.1.2.2.2.1 x).mono (fun M' hM => ⟨hS.1.add h3 hM, hS.2⟩)
set_option maxRecDepth 20000 in
set_option maxHeartbeats 4000000 in
theorem cr_advance {fr : Nat} {M0 M : zM} {t n N : Nat} {cl : Int32} {T : Nat → Int32} {P : Nat → Nat} {s : pqS} (hf : 2 ≤ fr) (hS : crS0 M0 M t cl T P s) (hk : s.1 ≤ N) (hT : tpS M0 T P n N) (hb : s.2.1 = false) : zCv zX3_advance fr 0 0 [zr (11, 0)] M (fun M' => crS0 M0 M' t cl T P (pqAdv s)) := by
  refine z_enter (L := [some (zr (11, 0))]) rfl (by decide +kernel) (Nat.le_of_ble_eq_true rfl) ?_
  obtain ⟨g, w, a1, a2, a3, a4, a5, hN⟩ := hS.tp hT
  refine z_al iX3_advance_0 rfl ?_
  refine z_dup iX3_advance_1 ?_
  refine z_gf iX3_advance_2 hS.1 rfl ?_
  refine z_co iX3_advance_5 ?_
  refine z_iadd iX3_advance_6 ?_
  refine z_pf iX3_advance_7 hS.1 (show 2 ≤ 11 by decide) (Nat.le_of_ble_eq_true rfl) trivial ?_
  rw [← nI_succ]
  refine z_al iX3_advance_10 rfl ?_
  refine z_al iX3_advance_11 rfl ?_
  refine z_gf iX3_advance_12 zupd_s rfl ?_
  refine z_al iX3_advance_15 rfl ?_
  refine z_gf iX3_advance_16 zupd_s rfl ?_
  refine z_cv1i (fr' := fr - 1) iX3_advance_19 zmX7_tokenAt ((zupd_k (show (10 : Nat) ≠ 11 by decide)).trans a1) (c7_tokenAt (n := n) (N := N) ((zupd_k (show (10 : Nat) ≠ 11 by decide)).trans a1) ((zupd_k (show (20 : Nat) ≠ 11 by decide)).trans a2) hN (s.1 + 1) (by omega)) (by omega) (Nat.le_of_ble_eq_true rfl) (fun x M1 hq => ?_)
  obtain ⟨rfl, rfl⟩ := hq
  refine z_pf2 iX3_advance_22 (show 2 ≤ 11 by decide) (Nat.le_of_ble_eq_true rfl) trivial ?_
  refine z_vret iX3_advance_25 rfl ?_
  refine ⟨rfl, hS.rd (s' := pqAdv s) rfl ?_⟩
  have e1 : (if s.1 + 1 < N then g (s.1 + 1) else -20) = T (s.1 + 1) := by
    by_cases q : s.1 + 1 < N
    · rw [if_pos q]; exact (a4 _ q).1
    · rw [if_neg q]; exact (a5 _ (by omega)).1.symm
  simp [pqAdv, pqTk, hb, e1]
set_option maxRecDepth 20000 in
set_option maxHeartbeats 4000000 in
theorem cr_refuse {fr : Nat} {M0 M : zM} {t n N : Nat} {cl : Int32} {T : Nat → Int32} {P : Nat → Nat} {s : pqS} (hf : 2 ≤ fr) (hS : crS0 M0 M t cl T P s) (hk : s.1 ≤ N) (hT : tpS M0 T P n N) : zCv zX3_refuse fr 0 0 [zr (11, 0)] M (fun M' => crS0 M0 M' t cl T P (pqBad s)) := by
  refine z_enter (L := [some (zr (11, 0))]) rfl (by decide +kernel) (Nat.le_of_ble_eq_true rfl) ?_
  obtain ⟨g, w, a1, a2, a3, a4, a5, hN⟩ := hS.tp hT
  refine z_al iX3_refuse_0 rfl ?_
  refine z_gf iX3_refuse_1 hS.1 rfl ?_
  refine z_co iX3_refuse_4 ?_
  refine z_icmp_ne iX3_refuse_5 (fun h1 => ?_) (fun h1 => ?_)
  · refine z_al iX3_refuse_23 rfl ?_
    refine z_co iX3_refuse_24 ?_
    refine z_pf iX3_refuse_26 hS.1 (show 2 ≤ 11 by decide) (Nat.le_of_ble_eq_true rfl) trivial ?_
    refine z_vret iX3_refuse_29 rfl ?_
    refine ⟨rfl, hS.rd (s' := pqBad s) rfl ?_⟩
    have e1 : (if s.1 < N then w s.1 else nI n) = nI (P s.1) := by
      by_cases q : s.1 < N
      · rw [if_pos q]; exact (a4 _ q).2
      · rw [if_neg q, (a5 _ (by omega)).2]
    first | (have e5 : s.2.1 = true := Decidable.byContradiction (fun z => h1 (if_neg z)); simp [pqBad, pqTk, e5]) | (simp [pqBad, pqTk, e1])
  · refine z_al iX3_refuse_8 rfl ?_
    refine z_al iX3_refuse_9 rfl ?_
    refine z_gf iX3_refuse_10 hS.1 rfl ?_
    refine z_al iX3_refuse_13 rfl ?_
    refine z_gf iX3_refuse_14 hS.1 rfl ?_
    refine z_cv1i (fr' := fr - 1) iX3_refuse_17 zmX7_placeAt a1 (c7_placeAt (n := n) (N := N) a1 a3 hN s.1 (by omega)) (by omega) (Nat.le_of_ble_eq_true rfl) (fun x M1 hq => ?_)
    obtain ⟨rfl, rfl⟩ := hq
    refine z_pf iX3_refuse_20 hS.1 (show 2 ≤ 11 by decide) (Nat.le_of_ble_eq_true rfl) trivial ?_
    refine z_al iX3_refuse_23 rfl ?_
    refine z_co iX3_refuse_24 ?_
    refine z_pf2 iX3_refuse_26 (show 2 ≤ 11 by decide) (Nat.le_of_ble_eq_true rfl) trivial ?_
    refine z_vret iX3_refuse_29 rfl ?_
    refine ⟨rfl, hS.rd (s' := pqBad s) rfl ?_⟩
    have e1 : (if s.1 < N then w s.1 else nI n) = nI (P s.1) := by
      by_cases q : s.1 < N
      · rw [if_pos q]; exact (a4 _ q).2
      · rw [if_neg q, (a5 _ (by omega)).2]
    first | (have e5 : s.2.1 = true := Decidable.byContradiction (fun z => h1 (if_neg z)); simp [pqBad, pqTk, e5]) | (simp [pqBad, pqTk, e1])
theorem tpS.E {M : zM} {T : Nat → Int32} {P : Nat → Nat} {n N : Nat} (h : tpS M T P n N) : pqE N T := by
  obtain ⟨g, w, -, -, -, -, h5, h6⟩ := h
  exact ⟨h6, fun k hk => (h5 k hk).1⟩
theorem tpS.lt {M : zM} {T : Nat → Int32} {P : Nat → Nat} {n N : Nat} (h : tpS M T P n N) {s : pqS} {w : Int32} (h1 : pqTk T s = w) (w1 : w ≠ -21) (w2 : w ≠ -20) : (pqAdv s).1 ≤ N := (pqTk_lt h.E h1 w1 w2).2.2
set_option maxRecDepth 20000 in
set_option maxHeartbeats 4000000 in
theorem cr_accept {fr : Nat} {M0 M : zM} {t n N : Nat} {cl : Int32} {T : Nat → Int32} {P : Nat → Nat} {s : pqS} (hf : 3 ≤ fr) (hS : crS M0 M t N cl T P s) (hT : tpS M0 T P n N) (w : Int32) (w1 : w ≠ -21) (w2 : w ≠ -20) : zCi zX3_accept fr 0 0 [zr (11, 0), zi w] M (fun x M' => x = zbo (pqTk T s = w) ∧ crS M0 M' t N cl T P  (if pqTk T s = w then pqAdv s else s)) := by
  refine z_enter (L := [some (zr (11, 0)), some (zi w)]) rfl (by decide +kernel) (Nat.le_of_ble_eq_true rfl) ?_
  refine z_al iX3_accept_0 rfl ?_
  refine z_gf iX3_accept_1 hS.1.1 rfl ?_
  refine z_il iX3_accept_4 rfl ?_
  refine z_icmp_eq iX3_accept_5 (fun h1 => ?_) (fun h1 => ?_)
  · refine z_al iX3_accept_10 rfl ?_
    refine z_cv0v (fr' := fr - 1) iX3_accept_11 zmX3_advance hS.1.1 (cr_advance (by omega) hS.1 hS.2 hT (pqTk_b h1 w1).1) (by omega) (Nat.le_of_ble_eq_true rfl) (fun M1 hq => ?_)
    have hS2 := hq
    refine z_co iX3_accept_14 ?_
    refine z_zret iX3_accept_15 rfl rfl ?_
    refine ⟨_, rfl, (zbo_1 h1).symm, ?_⟩
    rw [if_pos h1]
    exact ⟨hS2, tpS.lt hT h1 w1 w2⟩
  · refine z_co iX3_accept_8 ?_
    refine z_zret iX3_accept_9 rfl rfl ?_
    refine ⟨_, rfl, (zbo_0 h1).symm, ?_⟩
    rw [if_neg h1]
    exact hS
set_option maxRecDepth 20000 in
set_option maxHeartbeats 4000000 in
theorem cr_expect {fr : Nat} {M0 M : zM} {t n N : Nat} {cl : Int32} {T : Nat → Int32} {P : Nat → Nat} {s : pqS} (hf : 3 ≤ fr) (hS : crS M0 M t N cl T P s) (hT : tpS M0 T P n N) (w : Int32) (w1 : w ≠ -21) : zCv zX3_expect fr 0 0 [zr (11, 0), zi w] M (fun M' => crS0 M0 M' t cl T P (pqExp T w s)) := by
  refine z_enter (L := [some (zr (11, 0)), some (zi w)]) rfl (by decide +kernel) (Nat.le_of_ble_eq_true rfl) ?_
  refine z_al iX3_expect_0 rfl ?_
  refine z_gf iX3_expect_1 hS.1.1 rfl ?_
  refine z_il iX3_expect_4 rfl ?_
  refine z_icmp_ne iX3_expect_5 (fun h1 => ?_) (fun h1 => ?_)
  · refine z_al iX3_expect_15 rfl ?_
    refine z_cv0v (fr' := fr - 1) iX3_expect_16 zmX3_refuse hS.1.1 (cr_refuse (by omega) hS.1 hS.2 hT) (by omega) (Nat.le_of_ble_eq_true rfl) (fun M1 hq => ?_)
    have hS2 := hq
    refine z_vret iX3_expect_19 rfl ?_
    refine ⟨rfl, ?_⟩
    unfold pqExp
    first | (rw [if_pos h1]; exact hS2) | (rw [if_neg h1]; exact hS2)
  · refine z_al iX3_expect_8 rfl ?_
    refine z_cv0v (fr' := fr - 1) iX3_expect_9 zmX3_advance hS.1.1 (cr_advance (by omega) hS.1 hS.2 hT (pqTk_b h1 w1).1) (by omega) (Nat.le_of_ble_eq_true rfl) (fun M1 hq => ?_)
    have hS2 := hq
    refine z_goto iX3_expect_12 ?_
    refine z_vret iX3_expect_19 rfl ?_
    refine ⟨rfl, ?_⟩
    unfold pqExp
    first | (rw [if_pos h1]; exact hS2) | (rw [if_neg h1]; exact hS2)
set_option maxRecDepth 20000 in
set_option maxHeartbeats 4000000 in
theorem cr_expectW {fr : Nat} {M0 M : zM} {t n N : Nat} {cl : Int32} {T : Nat → Int32} {P : Nat → Nat} {s : pqS} (hf : 3 ≤ fr) (hS : crS M0 M t N cl T P s) (hT : tpS M0 T P n N) (w : Int32) (w1 : w ≠ -21) (w2 : w ≠ -20) : zCv zX3_expect fr 0 0 [zr (11, 0), zi w] M (fun M' => crS M0 M' t N cl T P  (pqExp T w s)) := by
  refine (cr_expect hf hS hT w w1).mono (fun M' h => ⟨h, ?_⟩)
  unfold pqExp
  by_cases q : pqTk T s = w
  · rw [if_pos q]; exact tpS.lt hT q w1 w2
  · rw [if_neg q]; exact hS.2
set_option maxRecDepth 20000 in
set_option maxHeartbeats 4000000 in
theorem cr_mayOpen {fr : Nat} {M0 M : zM} {t n N : Nat} {cl : Int32} {T : Nat → Int32} {P : Nat → Nat} {s : pqS} (hf : 3 ≤ fr) (hS : crS M0 M t N cl T P s) (hT : tpS M0 T P n N) (d : Int32) {w : Int32} (hw : pqTk T s = w) (w1 : w ≠ -21) (w2 : w ≠ -20) : zCi zX3_mayOpen fr 0 0 [zr (11, 0), zi d] M (fun x M' => x = zbo (d < 5) ∧ crS M0 M' t N cl T P  (if d < 5 then pqAdv s else pqBad s)) := by
  refine z_enter (L := [some (zr (11, 0)), some (zi d)]) rfl (by decide +kernel) (Nat.le_of_ble_eq_true rfl) ?_
  refine z_il iX3_mayOpen_0 rfl ?_
  refine z_co iX3_mayOpen_1 ?_
  refine z_icmp_lt iX3_mayOpen_2 (fun h1 => ?_) (fun h1 => ?_)
  · refine z_al iX3_mayOpen_11 rfl ?_
    refine z_cv0v (fr' := fr - 1) iX3_mayOpen_12 zmX3_advance hS.1.1 (cr_advance (by omega) hS.1 hS.2 hT (pqTk_b hw w1).1) (by omega) (Nat.le_of_ble_eq_true rfl) (fun M1 hq => ?_)
    have hS2 := hq
    refine z_co iX3_mayOpen_15 ?_
    refine z_zret iX3_mayOpen_16 rfl rfl ?_
    have h2 : d < 5 := h1
    refine ⟨_, rfl, (zbo_1 h2).symm, ?_⟩
    rw [if_pos h2]
    exact ⟨hS2, tpS.lt hT hw w1 w2⟩
  · refine z_al iX3_mayOpen_5 rfl ?_
    refine z_cv0v (fr' := fr - 1) iX3_mayOpen_6 zmX3_refuse hS.1.1 (cr_refuse (by omega) hS.1 hS.2 hT) (by omega) (Nat.le_of_ble_eq_true rfl) (fun M1 hq => ?_)
    have hS2 := hq
    refine z_co iX3_mayOpen_9 ?_
    refine z_zret iX3_mayOpen_10 rfl rfl ?_
    have h2 : ¬ d < 5 := h1
    refine ⟨_, rfl, (zbo_0 h2).symm, ?_⟩
    rw [if_neg h2]
    exact ⟨hS2, hS.2⟩
