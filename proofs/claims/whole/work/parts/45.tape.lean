theorem sb_all : ∀ k, k < 256 → (zBw (Int32.ofNat k).toInt8.toInt32 97 122 ↔ zBw (Int32.ofNat k) 97 122) ∧ (zBw (Int32.ofNat k).toInt8.toInt32 48 57 ↔ zBw (Int32.ofNat k) 48 57) ∧ ((Int32.ofNat k).toInt8.toInt32 = 32 ↔ Int32.ofNat k = 32) ∧ ((Int32.ofNat k).toInt8.toInt32 = 10 ↔ Int32.ofNat k = 10) ∧ tkSign (Int32.ofNat k).toInt8.toInt32 = tkSign (Int32.ofNat k) ∧ (zBw (Int32.ofNat k) 97 122 ∨ zBw (Int32.ofNat k) 48 57 → (Int32.ofNat k).toInt8.toInt32 = Int32.ofNat k) := by decide +kernel
theorem sb {x : Int32} (h : 0 ≤ x.toInt ∧ x.toInt ≤ 255) : (tkL x.toInt8.toInt32 ↔ tkL x) ∧ (tkD x.toInt8.toInt32 ↔ tkD x) ∧ (x.toInt8.toInt32 = 32 ↔ x = 32) ∧ (x.toInt8.toInt32 = 10 ↔ x = 10) ∧ tkSign x.toInt8.toInt32 = tkSign x ∧ (tkL x ∨ tkD x → x.toInt8.toInt32 = x) := by
  have e0 : zN x = x.toInt.toNat := rfl
  have e1 : x = Int32.ofNat (zN x) := by
    rw [← Int32.toInt_inj]
    have e2 := nI_toInt (n := zN x) (by omega)
    have e3 : (Int32.ofNat (zN x)).toInt = (zN x : Int) := e2
    rw [e3]
    omega
  have h1 := sb_all (zN x) (by omega)
  rw [← e1] at h1
  exact h1
theorem tkR_sb {x y : Int32} (hx : 0 ≤ x.toInt ∧ x.toInt ≤ 255) (hy : 0 ≤ y.toInt ∧ y.toInt ≤ 255) : tkR x.toInt8.toInt32 y.toInt8.toInt32 ↔ tkR x y := by
  have h1 := sb hx
  have h2 := sb hy
  show (tkL x.toInt8.toInt32 ∧ tkL y.toInt8.toInt32) ∨ (tkD x.toInt8.toInt32 ∧ tkD y.toInt8.toInt32) ↔ _
  rw [h1.1, h1.2.1, h2.1, h2.2.1]
set_option maxRecDepth 20000 in
set_option maxHeartbeats 4000000 in
theorem c7_byteAt {fr : Nat} {M : zM} {n : Nat} {tc : Int32} {b : Nat → Int32} (h10 : M (10, 0) = some (.inr (7, [zr (19, 0), zr (20, 0), zr (21, 0), zi (nI n), zi tc]))) (h19 : M (19, 0) = some (.inl (2, 160, .inl b))) (hn : n ≤ 160) (i : Int32) : zCi zX7_byteAt fr 0 0 [zr (10, 0), zi i] M (fun x M' => M' = M ∧ x = if 0 ≤ i.toInt ∧ i.toInt < n then b (zN i) else 0) := by
  refine z_enter (L := [some (zr (10, 0)), some (zi i)]) rfl (by decide +kernel) (Nat.le_of_ble_eq_true rfl) ?_
  have e1 := nI_toInt (n := n) (by omega)
  have e0 : zN i = i.toInt.toNat := rfl
  refine z_il iX7_byteAt_0 rfl ?_
  refine z_if_lt iX7_byteAt_1 (fun h1 => ?_) (fun h1 => ?_)
  · refine z_co iX7_byteAt_28 ?_
    refine z_iret iX7_byteAt_29 rfl ?_
    refine ⟨_, rfl, rfl, ?_⟩
    by_cases q : 0 ≤ i.toInt ∧ i.toInt < n
    · refine Eq.trans ?_ (if_pos q).symm
      first | rfl | (exfalso; simp only [zi_le, zi_lt, Int32.reduceToInt, e1] at * <;> omega)
    · refine Eq.trans ?_ (if_neg q).symm
      first | rfl | (exfalso; simp only [zi_le, zi_lt, Int32.reduceToInt, e1] at * <;> omega)
  · refine z_il iX7_byteAt_4 rfl ?_
    refine z_al iX7_byteAt_5 rfl ?_
    refine z_gf iX7_byteAt_6 h10 rfl ?_
    refine z_icmp_ge iX7_byteAt_9 (fun h2 => ?_) (fun h2 => ?_)
    · refine z_co iX7_byteAt_28 ?_
      refine z_iret iX7_byteAt_29 rfl ?_
      refine ⟨_, rfl, rfl, ?_⟩
      by_cases q : 0 ≤ i.toInt ∧ i.toInt < n
      · refine Eq.trans ?_ (if_pos q).symm
        first | rfl | (exfalso; simp only [zi_le, zi_lt, Int32.reduceToInt, e1] at * <;> omega)
      · refine Eq.trans ?_ (if_neg q).symm
        first | rfl | (exfalso; simp only [zi_le, zi_lt, Int32.reduceToInt, e1] at * <;> omega)
    · refine z_il iX7_byteAt_12 rfl ?_
      refine z_co iX7_byteAt_13 ?_
      refine z_icmp_ge iX7_byteAt_16 (fun h3 => ?_) (fun h3 => ?_)
      · refine z_co iX7_byteAt_28 ?_
        refine z_iret iX7_byteAt_29 rfl ?_
        refine ⟨_, rfl, rfl, ?_⟩
        by_cases q : 0 ≤ i.toInt ∧ i.toInt < n
        · refine Eq.trans ?_ (if_pos q).symm
          first | rfl | (exfalso; simp only [zi_le, zi_lt, Int32.reduceToInt, e1] at * <;> omega)
        · refine Eq.trans ?_ (if_neg q).symm
          first | rfl | (exfalso; simp only [zi_le, zi_lt, Int32.reduceToInt, e1] at * <;> omega)
      · refine z_al iX7_byteAt_19 rfl ?_
        refine z_gf iX7_byteAt_20 h10 rfl ?_
        refine z_il iX7_byteAt_23 rfl ?_
        refine z_bald iX7_byteAt_24 h19 (show i.toInt = (zN i : Int) by simp only [zi_lt, Int32.reduceToInt] at h1; omega) (by simp only [zi_lt, zi_le, Int32.reduceToInt] at *; have e9 : zN i = i.toInt.toNat := rfl; omega) ?_
        refine z_goto iX7_byteAt_25 ?_
        refine z_iret iX7_byteAt_29 rfl ?_
        refine ⟨_, rfl, rfl, ?_⟩
        by_cases q : 0 ≤ i.toInt ∧ i.toInt < n
        · refine Eq.trans ?_ (if_pos q).symm
          first | rfl | (exfalso; simp only [zi_le, zi_lt, Int32.reduceToInt, e1] at * <;> omega)
        · refine Eq.trans ?_ (if_neg q).symm
          first | rfl | (exfalso; simp only [zi_le, zi_lt, Int32.reduceToInt, e1] at * <;> omega)
theorem c7_byteN {fr : Nat} {M : zM} {n : Nat} {tc : Int32} {b : Nat → Int32} {u : Nat → Int32} (h10 : M (10, 0) = some (.inr (7, [zr (19, 0), zr (20, 0), zr (21, 0), zi (nI n), zi tc]))) (h19 : M (19, 0) = some (.inl (2, 160, .inl b))) (hn : n ≤ 160) (hb : ∀ j, j < n → b j = (u j).toInt8.toInt32) {i : Int32} {j : Nat} (hi : i.toInt = (j : Int)) (hj : j < n) : zCi zX7_byteAt fr 0 0 [zr (10, 0), zi i] M (fun x M' => M' = M ∧ x = (u j).toInt8.toInt32) := by
  refine (c7_byteAt h10 h19 hn i).mono (fun x M' ⟨h1, h2⟩ => ⟨h1, ?_⟩)
  rw [h2, if_pos (by omega), ← hb j hj]
  have e0 : zN i = i.toInt.toNat := rfl
  rw [show zN i = j by omega]
set_option maxRecDepth 20000 in
set_option maxHeartbeats 4000000 in
theorem c7_isLetter {fr : Nat} {M : zM} (x : Int32) : zCi zX7_isLetter fr 0 0 [zi x] M (fun y M' => M' = M ∧ y = zbo (tkL x)) := by
  refine z_enter (L := [some (zi x)]) rfl (by decide +kernel) (Nat.le_of_ble_eq_true rfl) ?_
  refine z_il iX7_isLetter_0 rfl ?_
  refine z_co iX7_isLetter_1 ?_
  refine z_icmp_lt iX7_isLetter_3 (fun h1 => ?_) (fun h1 => ?_)
  · refine z_co iX7_isLetter_16 ?_
    refine z_zret iX7_isLetter_17 rfl rfl ?_
    refine ⟨_, rfl, rfl, ?_⟩
    by_cases g : tkL x
    · first | exact (zbo_1 g).symm | (exfalso; simp only [tkL, tkD, zBw, zi_eq, zi_le, zi_lt, Int32.reduceToInt] at * <;> omega)
    · first | exact (zbo_0 g).symm | (exfalso; simp only [tkL, tkD, zBw, zi_eq, zi_le, zi_lt, Int32.reduceToInt] at * <;> omega)
  · refine z_il iX7_isLetter_6 rfl ?_
    refine z_co iX7_isLetter_7 ?_
    refine z_icmp_gt iX7_isLetter_9 (fun h2 => ?_) (fun h2 => ?_)
    · refine z_co iX7_isLetter_16 ?_
      refine z_zret iX7_isLetter_17 rfl rfl ?_
      refine ⟨_, rfl, rfl, ?_⟩
      by_cases g : tkL x
      · first | exact (zbo_1 g).symm | (exfalso; simp only [tkL, tkD, zBw, zi_eq, zi_le, zi_lt, Int32.reduceToInt] at * <;> omega)
      · first | exact (zbo_0 g).symm | (exfalso; simp only [tkL, tkD, zBw, zi_eq, zi_le, zi_lt, Int32.reduceToInt] at * <;> omega)
    · refine z_co iX7_isLetter_12 ?_
      refine z_goto iX7_isLetter_13 ?_
      refine z_zret iX7_isLetter_17 rfl rfl ?_
      refine ⟨_, rfl, rfl, ?_⟩
      by_cases g : tkL x
      · first | exact (zbo_1 g).symm | (exfalso; simp only [tkL, tkD, zBw, zi_eq, zi_le, zi_lt, Int32.reduceToInt] at * <;> omega)
      · first | exact (zbo_0 g).symm | (exfalso; simp only [tkL, tkD, zBw, zi_eq, zi_le, zi_lt, Int32.reduceToInt] at * <;> omega)
set_option maxRecDepth 20000 in
set_option maxHeartbeats 4000000 in
theorem c7_isDigit {fr : Nat} {M : zM} (x : Int32) : zCi zX7_isDigit fr 0 0 [zi x] M (fun y M' => M' = M ∧ y = zbo (tkD x)) := by
  refine z_enter (L := [some (zi x)]) rfl (by decide +kernel) (Nat.le_of_ble_eq_true rfl) ?_
  refine z_il iX7_isDigit_0 rfl ?_
  refine z_co iX7_isDigit_1 ?_
  refine z_icmp_lt iX7_isDigit_3 (fun h1 => ?_) (fun h1 => ?_)
  · refine z_co iX7_isDigit_16 ?_
    refine z_zret iX7_isDigit_17 rfl rfl ?_
    refine ⟨_, rfl, rfl, ?_⟩
    by_cases g : tkD x
    · first | exact (zbo_1 g).symm | (exfalso; simp only [tkL, tkD, zBw, zi_eq, zi_le, zi_lt, Int32.reduceToInt] at * <;> omega)
    · first | exact (zbo_0 g).symm | (exfalso; simp only [tkL, tkD, zBw, zi_eq, zi_le, zi_lt, Int32.reduceToInt] at * <;> omega)
  · refine z_il iX7_isDigit_6 rfl ?_
    refine z_co iX7_isDigit_7 ?_
    refine z_icmp_gt iX7_isDigit_9 (fun h2 => ?_) (fun h2 => ?_)
    · refine z_co iX7_isDigit_16 ?_
      refine z_zret iX7_isDigit_17 rfl rfl ?_
      refine ⟨_, rfl, rfl, ?_⟩
      by_cases g : tkD x
      · first | exact (zbo_1 g).symm | (exfalso; simp only [tkL, tkD, zBw, zi_eq, zi_le, zi_lt, Int32.reduceToInt] at * <;> omega)
      · first | exact (zbo_0 g).symm | (exfalso; simp only [tkL, tkD, zBw, zi_eq, zi_le, zi_lt, Int32.reduceToInt] at * <;> omega)
    · refine z_co iX7_isDigit_12 ?_
      refine z_goto iX7_isDigit_13 ?_
      refine z_zret iX7_isDigit_17 rfl rfl ?_
      refine ⟨_, rfl, rfl, ?_⟩
      by_cases g : tkD x
      · first | exact (zbo_1 g).symm | (exfalso; simp only [tkL, tkD, zBw, zi_eq, zi_le, zi_lt, Int32.reduceToInt] at * <;> omega)
      · first | exact (zbo_0 g).symm | (exfalso; simp only [tkL, tkD, zBw, zi_eq, zi_le, zi_lt, Int32.reduceToInt] at * <;> omega)
set_option maxRecDepth 20000 in
set_option maxHeartbeats 4000000 in
theorem c7_isOneRun {fr : Nat} {M : zM} (hf : 1 ≤ fr) (x y : Int32) : zCi zX7_isOneRun fr 0 0 [zi x, zi y] M (fun z M' => M' = M ∧ z = zbo (tkR x y)) := by
  refine z_enter (L := [some (zi x), some (zi y)]) rfl (by decide +kernel) (Nat.le_of_ble_eq_true rfl) ?_
  refine z_il iX7_isOneRun_0 rfl ?_
  refine z_cs1i (fr' := fr - 1) iX7_isOneRun_1 zmX7_isLetter (c7_isLetter _) (by omega) (Nat.le_of_ble_eq_true rfl) (fun x M1 hq => ?_)
  obtain ⟨rfl, rfl⟩ := hq
  refine z_ib_eq iX7_isOneRun_4 (fun h1 => ?_) (fun h1 => ?_)
  · refine z_il iX7_isOneRun_14 rfl ?_
    refine z_cs1i (fr' := fr - 1) iX7_isOneRun_15 zmX7_isDigit (c7_isDigit _) (by omega) (Nat.le_of_ble_eq_true rfl) (fun x M1 hq => ?_)
    obtain ⟨rfl, rfl⟩ := hq
    refine z_ib_eq iX7_isOneRun_18 (fun h2 => ?_) (fun h2 => ?_)
    · refine z_co iX7_isOneRun_32 ?_
      refine z_zret iX7_isOneRun_33 rfl rfl ?_
      refine ⟨_, rfl, rfl, ?_⟩
      by_cases g : tkR x y
      · first | exact (zbo_1 g).symm | (exfalso; rcases g with ⟨g1, g2⟩ | ⟨g1, g2⟩ <;> first | contradiction | (exact tkLD (by assumption) (by assumption)))
      · first | exact (zbo_0 g).symm | exact absurd (Or.inl ⟨by assumption, by assumption⟩) g | exact absurd (Or.inr ⟨by assumption, by assumption⟩) g
    · refine z_il iX7_isOneRun_21 rfl ?_
      refine z_cs1i (fr' := fr - 1) iX7_isOneRun_22 zmX7_isDigit (c7_isDigit _) (by omega) (Nat.le_of_ble_eq_true rfl) (fun x M1 hq => ?_)
      obtain ⟨rfl, rfl⟩ := hq
      refine z_ib_eq iX7_isOneRun_25 (fun h3 => ?_) (fun h3 => ?_)
      · refine z_co iX7_isOneRun_32 ?_
        refine z_zret iX7_isOneRun_33 rfl rfl ?_
        refine ⟨_, rfl, rfl, ?_⟩
        by_cases g : tkR x y
        · first | exact (zbo_1 g).symm | (exfalso; rcases g with ⟨g1, g2⟩ | ⟨g1, g2⟩ <;> first | contradiction | (exact tkLD (by assumption) (by assumption)))
        · first | exact (zbo_0 g).symm | exact absurd (Or.inl ⟨by assumption, by assumption⟩) g | exact absurd (Or.inr ⟨by assumption, by assumption⟩) g
      · refine z_co iX7_isOneRun_28 ?_
        refine z_goto iX7_isOneRun_29 ?_
        refine z_zret iX7_isOneRun_33 rfl rfl ?_
        refine ⟨_, rfl, rfl, ?_⟩
        by_cases g : tkR x y
        · first | exact (zbo_1 g).symm | (exfalso; rcases g with ⟨g1, g2⟩ | ⟨g1, g2⟩ <;> first | contradiction | (exact tkLD (by assumption) (by assumption)))
        · first | exact (zbo_0 g).symm | exact absurd (Or.inl ⟨by assumption, by assumption⟩) g | exact absurd (Or.inr ⟨by assumption, by assumption⟩) g
  · refine z_il iX7_isOneRun_7 rfl ?_
    refine z_cs1i (fr' := fr - 1) iX7_isOneRun_8 zmX7_isLetter (c7_isLetter _) (by omega) (Nat.le_of_ble_eq_true rfl) (fun x M1 hq => ?_)
    obtain ⟨rfl, rfl⟩ := hq
    refine z_ib_ne iX7_isOneRun_11 (fun h4 => ?_) (fun h4 => ?_)
    · refine z_co iX7_isOneRun_28 ?_
      refine z_goto iX7_isOneRun_29 ?_
      refine z_zret iX7_isOneRun_33 rfl rfl ?_
      refine ⟨_, rfl, rfl, ?_⟩
      by_cases g : tkR x y
      · first | exact (zbo_1 g).symm | (exfalso; rcases g with ⟨g1, g2⟩ | ⟨g1, g2⟩ <;> first | contradiction | (exact tkLD (by assumption) (by assumption)))
      · first | exact (zbo_0 g).symm | exact absurd (Or.inl ⟨by assumption, by assumption⟩) g | exact absurd (Or.inr ⟨by assumption, by assumption⟩) g
    · refine z_il iX7_isOneRun_14 rfl ?_
      refine z_cs1i (fr' := fr - 1) iX7_isOneRun_15 zmX7_isDigit (c7_isDigit _) (by omega) (Nat.le_of_ble_eq_true rfl) (fun x M1 hq => ?_)
      obtain ⟨rfl, rfl⟩ := hq
      refine z_ib_eq iX7_isOneRun_18 (fun h5 => ?_) (fun h5 => ?_)
      · refine z_co iX7_isOneRun_32 ?_
        refine z_zret iX7_isOneRun_33 rfl rfl ?_
        refine ⟨_, rfl, rfl, ?_⟩
        by_cases g : tkR x y
        · first | exact (zbo_1 g).symm | (exfalso; rcases g with ⟨g1, g2⟩ | ⟨g1, g2⟩ <;> first | contradiction | (exact tkLD (by assumption) (by assumption)))
        · first | exact (zbo_0 g).symm | exact absurd (Or.inl ⟨by assumption, by assumption⟩) g | exact absurd (Or.inr ⟨by assumption, by assumption⟩) g
      · refine z_il iX7_isOneRun_21 rfl ?_
        refine z_cs1i (fr' := fr - 1) iX7_isOneRun_22 zmX7_isDigit (c7_isDigit _) (by omega) (Nat.le_of_ble_eq_true rfl) (fun x M1 hq => ?_)
        obtain ⟨rfl, rfl⟩ := hq
        refine z_ib_eq iX7_isOneRun_25 (fun h6 => ?_) (fun h6 => ?_)
        · refine z_co iX7_isOneRun_32 ?_
          refine z_zret iX7_isOneRun_33 rfl rfl ?_
          refine ⟨_, rfl, rfl, ?_⟩
          by_cases g : tkR x y
          · first | exact (zbo_1 g).symm | (exfalso; rcases g with ⟨g1, g2⟩ | ⟨g1, g2⟩ <;> first | contradiction | (exact tkLD (by assumption) (by assumption)))
          · first | exact (zbo_0 g).symm | exact absurd (Or.inl ⟨by assumption, by assumption⟩) g | exact absurd (Or.inr ⟨by assumption, by assumption⟩) g
        · refine z_co iX7_isOneRun_28 ?_
          refine z_goto iX7_isOneRun_29 ?_
          refine z_zret iX7_isOneRun_33 rfl rfl ?_
          refine ⟨_, rfl, rfl, ?_⟩
          by_cases g : tkR x y
          · first | exact (zbo_1 g).symm | (exfalso; rcases g with ⟨g1, g2⟩ | ⟨g1, g2⟩ <;> first | contradiction | (exact tkLD (by assumption) (by assumption)))
          · first | exact (zbo_0 g).symm | exact absurd (Or.inl ⟨by assumption, by assumption⟩) g | exact absurd (Or.inr ⟨by assumption, by assumption⟩) g
set_option maxRecDepth 20000 in
set_option maxHeartbeats 4000000 in
theorem c7_isBegin {fr : Nat} {M : zM} {n : Nat} {tc : Int32} {b : Nat → Int32} {u : Nat → Int32} (hf : 2 ≤ fr) (h10 : M (10, 0) = some (.inr (7, [zr (19, 0), zr (20, 0), zr (21, 0), zi (nI n), zi tc]))) (h19 : M (19, 0) = some (.inl (2, 160, .inl b))) (hn : n ≤ 160) (hb : ∀ j, j < n → b j = (u j).toInt8.toInt32) (hu : ∀ j, j < n → 0 ≤ (u j).toInt ∧ (u j).toInt ≤ 255) {i : Nat} (hi : i < n) : zCi zX7_isBegin fr 0 0 [zr (10, 0), zi (nI i)] M (fun x M' => M' = M ∧ x = zbo (tkBeg u i)) := by
  refine z_enter (L := [some (zr (10, 0)), some (zi (nI i))]) rfl (by decide +kernel) (Nat.le_of_ble_eq_true rfl) ?_
  have s0 := sb (hu i hi)
  have s1 : 0 < i → (tkR (u (i - 1)).toInt8.toInt32 (u i).toInt8.toInt32 ↔ tkR (u (i - 1)) (u i)) := fun z => tkR_sb (hu (i - 1) (by omega)) (hu i hi)
  refine z_al iX7_isBegin_0 rfl ?_
  refine z_il iX7_isBegin_1 rfl ?_
  refine z_cv1i (fr' := fr - 1) iX7_isBegin_2 zmX7_byteAt h10 (c7_byteN h10 h19 hn hb (nI_toInt (n := i) (by omega)) hi) (by omega) (Nat.le_of_ble_eq_true rfl) (fun x M1 hq => ?_)
  obtain ⟨rfl, rfl⟩ := hq
  refine z_is iX7_isBegin_5 ?_
  refine z_il iX7_isBegin_6 rfl ?_
  refine z_co iX7_isBegin_7 ?_
  refine z_icmp_eq iX7_isBegin_9 (fun h1 => ?_) (fun h1 => ?_)
  · refine z_co iX7_isBegin_36 ?_
    refine z_zret iX7_isBegin_37 rfl rfl ?_
    refine ⟨_, rfl, rfl, ?_⟩
    by_cases g : tkBeg u i
    · first | exact (zbo_1 g).symm | (exfalso; exact g.1 (Or.inl (s0.2.2.1.mp h1))) | (exfalso; exact g.1 (Or.inr (s0.2.2.2.1.mp h2))) | (exfalso; refine g.2 ?_; by_cases z : 0 < i; (rw [if_pos z] at h3; exact ⟨z, (s1 z).mp h3⟩); (rw [if_neg z] at h3; exact absurd h3 (fun q => q.elim (fun w => absurd w.1 (by decide)) (fun w => absurd w.1 (by decide)))))
    · first | exact (zbo_0 g).symm | (exfalso; refine g ⟨fun q => q.elim (fun z => h1 (s0.2.2.1.mpr z)) (fun z => h2 (s0.2.2.2.1.mpr z)), fun q => h3 ?_⟩; rw [if_pos q.1]; exact (s1 q.1).mpr q.2)
  · refine z_il iX7_isBegin_12 rfl ?_
    refine z_co iX7_isBegin_13 ?_
    refine z_icmp_eq iX7_isBegin_15 (fun h2 => ?_) (fun h2 => ?_)
    · refine z_co iX7_isBegin_36 ?_
      refine z_zret iX7_isBegin_37 rfl rfl ?_
      refine ⟨_, rfl, rfl, ?_⟩
      by_cases g : tkBeg u i
      · first | exact (zbo_1 g).symm | (exfalso; exact g.1 (Or.inl (s0.2.2.1.mp h1))) | (exfalso; exact g.1 (Or.inr (s0.2.2.2.1.mp h2))) | (exfalso; refine g.2 ?_; by_cases z : 0 < i; (rw [if_pos z] at h3; exact ⟨z, (s1 z).mp h3⟩); (rw [if_neg z] at h3; exact absurd h3 (fun q => q.elim (fun w => absurd w.1 (by decide)) (fun w => absurd w.1 (by decide)))))
      · first | exact (zbo_0 g).symm | (exfalso; refine g ⟨fun q => q.elim (fun z => h1 (s0.2.2.1.mpr z)) (fun z => h2 (s0.2.2.2.1.mpr z)), fun q => h3 ?_⟩; rw [if_pos q.1]; exact (s1 q.1).mpr q.2)
    · refine z_al iX7_isBegin_18 rfl ?_
      refine z_il iX7_isBegin_19 rfl ?_
      refine z_co iX7_isBegin_20 ?_
      refine z_isub iX7_isBegin_21 ?_
      refine z_cv1i (fr' := fr - 1) iX7_isBegin_22 zmX7_byteAt h10 (c7_byteAt h10 h19 hn _) (by omega) (Nat.le_of_ble_eq_true rfl) (fun x M1 hq => ?_)
      obtain ⟨rfl, hq⟩ := hq
      have hq : x = if 0 < i then (u (i - 1)).toInt8.toInt32 else 0 := by
        by_cases z : 0 < i
        · rw [if_pos z, hq, show nI i - 1 = nI (i - 1) by rw [show i = (i - 1) + 1 by omega, nI_succ]; simp]
          have e9 := nI_toInt (n := i - 1) (by omega)
          have e8 : zN (nI (i - 1)) = (nI (i - 1)).toInt.toNat := rfl
          rw [if_pos (by omega), show zN (nI (i - 1)) = i - 1 by omega, hb _ (by omega)]
        · rw [if_neg z, hq, show i = 0 by omega, if_neg (fun q => absurd q.1 (by decide))]
      subst hq
      refine z_il iX7_isBegin_25 rfl ?_
      refine z_cs2i (fr' := fr - 1) iX7_isBegin_26 zmX7_isOneRun (c7_isOneRun (by omega) _ _) (by omega) (Nat.le_of_ble_eq_true rfl) (fun x M1 hq => ?_)
      obtain ⟨rfl, rfl⟩ := hq
      refine z_ib_ne iX7_isBegin_29 (fun h3 => ?_) (fun h3 => ?_)
      · refine z_co iX7_isBegin_36 ?_
        refine z_zret iX7_isBegin_37 rfl rfl ?_
        refine ⟨_, rfl, rfl, ?_⟩
        by_cases g : tkBeg u i
        · first | exact (zbo_1 g).symm | (exfalso; exact g.1 (Or.inl (s0.2.2.1.mp h1))) | (exfalso; exact g.1 (Or.inr (s0.2.2.2.1.mp h2))) | (exfalso; refine g.2 ?_; by_cases z : 0 < i; (rw [if_pos z] at h3; exact ⟨z, (s1 z).mp h3⟩); (rw [if_neg z] at h3; exact absurd h3 (fun q => q.elim (fun w => absurd w.1 (by decide)) (fun w => absurd w.1 (by decide)))))
        · first | exact (zbo_0 g).symm | (exfalso; refine g ⟨fun q => q.elim (fun z => h1 (s0.2.2.1.mpr z)) (fun z => h2 (s0.2.2.2.1.mpr z)), fun q => h3 ?_⟩; rw [if_pos q.1]; exact (s1 q.1).mpr q.2)
      · refine z_co iX7_isBegin_32 ?_
        refine z_goto iX7_isBegin_33 ?_
        refine z_zret iX7_isBegin_37 rfl rfl ?_
        refine ⟨_, rfl, rfl, ?_⟩
        by_cases g : tkBeg u i
        · first | exact (zbo_1 g).symm | (exfalso; exact g.1 (Or.inl (s0.2.2.1.mp h1))) | (exfalso; exact g.1 (Or.inr (s0.2.2.2.1.mp h2))) | (exfalso; refine g.2 ?_; by_cases z : 0 < i; (rw [if_pos z] at h3; exact ⟨z, (s1 z).mp h3⟩); (rw [if_neg z] at h3; exact absurd h3 (fun q => q.elim (fun w => absurd w.1 (by decide)) (fun w => absurd w.1 (by decide)))))
        · first | exact (zbo_0 g).symm | (exfalso; refine g ⟨fun q => q.elim (fun z => h1 (s0.2.2.1.mpr z)) (fun z => h2 (s0.2.2.2.1.mpr z)), fun q => h3 ?_⟩; rw [if_pos q.1]; exact (s1 q.1).mpr q.2)
set_option maxRecDepth 20000 in
set_option maxHeartbeats 4000000 in
theorem l7_numberOf {fr : Nat} {M : zM} {N : Nat} {tc : Int32} {b : Nat → Int32} {u : Nat → Int32} (hf : 1 ≤ fr) (h10 : M (10, 0) = some (.inr (7, [zr (19, 0), zr (20, 0), zr (21, 0), zi (nI N), zi tc]))) (h19 : M (19, 0) = some (.inl (2, 160, .inl b))) (hN : N ≤ 160) (hb : ∀ j, j < N → b j = (u j).toInt8.toInt32) (hu : ∀ j, j < N → 0 ≤ (u j).toInt ∧ (u j).toInt ≤ 255) {P : Int32} {p l : Nat} (hp : P.toInt = (p : Int)) (hpl : p + l ≤ N) (hd : ∀ i, i < l → tkD (u (p + i))) (h4 : l ≤ 4) : ∀ (n i : Nat), i + n = l → zV zX7_numberOf fr 0 0 13 (zL [some (zr (10, 0)), some (zi P), some (zi (nI l)), some (zi (tkNum u p i)), some (zi (nI i))]) [] M (fun r M' => ∃ x, r = some (zi x) ∧ M' = M ∧ x = tkNum u p l) := by
  intro n
  induction n with
  | zero =>
    intro i  hn 
    refine z_il iX7_numberOf_13 rfl ?_
    refine z_il iX7_numberOf_15 rfl ?_
    refine z_icmp_ge iX7_numberOf_16 (fun h1 => ?_) (fun h1 => ?_)
    · refine z_il iX7_numberOf_42 rfl ?_
      refine z_iret iX7_numberOf_43 rfl ?_
      exact ⟨_, rfl, rfl, by rw [show i = l by omega]⟩
    · exfalso
      have e1 := nI_toInt (n := i) (by omega)
      have e2 := nI_toInt (n := l) (by omega)
      simp only [zi_le, e1, e2] at h1
      omega
  | succ n ih =>
    intro i  hn 
    refine z_il iX7_numberOf_13 rfl ?_
    refine z_il iX7_numberOf_15 rfl ?_
    refine z_icmp_ge iX7_numberOf_16 (fun h1 => ?_) (fun h1 => ?_)
    · exfalso
      have e1 := nI_toInt (n := i) (by omega)
      have e2 := nI_toInt (n := l) (by omega)
      simp only [zi_le, e1, e2] at h1
      omega
    · refine z_il iX7_numberOf_19 rfl ?_
      refine z_co iX7_numberOf_20 ?_
      refine z_imul iX7_numberOf_22 ?_
      refine z_al iX7_numberOf_23 rfl ?_
      refine z_il iX7_numberOf_24 rfl ?_
      refine z_il iX7_numberOf_25 rfl ?_
      refine z_iadd iX7_numberOf_27 ?_
      refine z_cv1i (fr' := fr - 1) iX7_numberOf_28 zmX7_byteAt h10 (c7_byteN h10 h19 hN hb (zaddN hp (by omega) (show i < 100000 by omega)) (show p + i < N by omega)) (by omega) (Nat.le_of_ble_eq_true rfl) (fun x M1 hq => ?_)
      obtain ⟨rfl, rfl⟩ := hq
      refine z_co iX7_numberOf_31 ?_
      refine z_isub iX7_numberOf_33 ?_
      refine z_iadd iX7_numberOf_34 ?_
      refine z_is iX7_numberOf_35 ?_
      refine z_in iX7_numberOf_36 rfl ?_
      refine z_goto iX7_numberOf_39 ?_
      rw [(sb (hu (p + i) (by omega))).2.2.2.2.2 (Or.inr (hd i (by omega)))]
      refine z_loc [some (zr (10, 0)), some (zi P), some (zi (nI l)), some (zi (tkNum u p (i + 1))), some (zi (nI (i + 1)))] ⟨rfl, rfl, rfl, rfl, ?_, trivial⟩ (ih (i + 1) (by omega))
      show some (zi (nI i + 1)) = _
      rw [nI_1]
set_option maxRecDepth 20000 in
set_option maxHeartbeats 4000000 in
theorem c7_numberOf {fr : Nat} {M : zM} {N : Nat} {tc : Int32} {b : Nat → Int32} {u : Nat → Int32} (hf : 1 ≤ fr) (h10 : M (10, 0) = some (.inr (7, [zr (19, 0), zr (20, 0), zr (21, 0), zi (nI N), zi tc]))) (h19 : M (19, 0) = some (.inl (2, 160, .inl b))) (hN : N ≤ 160) (hb : ∀ j, j < N → b j = (u j).toInt8.toInt32) (hu : ∀ j, j < N → 0 ≤ (u j).toInt ∧ (u j).toInt ≤ 255) {P : Int32} {p l : Nat} (hp : P.toInt = (p : Int)) (hpl : p + l ≤ N) (hd : ∀ i, i < l → tkD (u (p + i))) : zCi zX7_numberOf fr 0 0 [zr (10, 0), zi P, zi (nI l)] M (fun x M' => M' = M ∧ x = if 4 < l then -21 else tkNum u p l) := by
  refine z_enter (L := [some (zr (10, 0)), some (zi P), some (zi (nI l))]) rfl (by decide +kernel) (Nat.le_of_ble_eq_true rfl) ?_
  have e1 := nI_toInt (n := l) (by omega)
  refine z_il iX7_numberOf_0 rfl ?_
  refine z_co iX7_numberOf_1 ?_
  refine z_icmp_le iX7_numberOf_2 (fun h1 => ?_) (fun h1 => ?_)
  · refine z_co iX7_numberOf_8 ?_
    refine z_is iX7_numberOf_9 ?_
    refine z_co iX7_numberOf_10 ?_
    refine z_is iX7_numberOf_11 ?_
    have h4 : l ≤ 4 := by
      simp only [zi_le, e1, Int32.reduceToInt] at h1
      omega
    refine z_loc [some (zr (10, 0)), some (zi P), some (zi (nI l)), some (zi (tkNum u p 0)), some (zi (nI 0))] ⟨rfl, rfl, rfl, rfl, rfl, trivial⟩ ?_
    refine (l7_numberOf hf h10 h19 hN hb hu hp hpl hd h4 l 0 (by omega)).mono (fun r M' ⟨x, hr, hm, hx⟩ => ⟨x, hr, hm, hx.trans (if_neg (by omega)).symm⟩)
  · refine z_co iX7_numberOf_5 ?_
    refine z_iret iX7_numberOf_7 rfl ?_
    refine ⟨_, rfl, rfl, (if_pos ?_).symm⟩
    simp only [zi_le, e1, Int32.reduceToInt] at h1
    omega
set_option maxRecDepth 20000 in
set_option maxHeartbeats 4000000 in
theorem c7_signOf {fr : Nat} {M : zM} (x : Int32) : zCi zX7_signOf fr 0 0 [zi x] M (fun y M' => M' = M ∧ y = tkSign x) := by
  refine z_enter (L := [some (zi x)]) rfl (by decide +kernel) (Nat.le_of_ble_eq_true rfl) ?_
  refine z_il iX7_signOf_0 rfl ?_
  refine z_sw iX7_signOf_1 ⟨fun h1 => ?_, fun h1 => ?_, fun h1 => ?_, fun h1 => ?_, fun h1 => ?_, fun h1 => ?_, fun h1 => ?_, fun h1 => ?_, fun h1 => ?_, fun h1 => ?_, fun h1 => ?_, fun h1 => ?_, fun h1 => ?_, fun h1 => ?_, fun h1 => ?_, fun h1 => ?_, fun h1 => ?_, fun h1 => ?_, fun h1 => ?_, fun h1 => ?_, fun h1 => ?_, fun h1 => ?_, trivial⟩ (fun h1 => ?_)
  · refine z_il iX7_signOf_104 rfl ?_
    refine z_ineg iX7_signOf_105 ?_
    refine z_iret iX7_signOf_106 rfl ?_
    refine ⟨_, rfl, rfl, ?_⟩
    unfold tkSign
    try simp only [List.length_cons, List.length_nil] at h1
    split
    · first | rfl | (exfalso; simp only [zi_eq, Int32.reduceToInt] at * <;> omega)
    · first | rfl | (exfalso; simp only [zi_eq, Int32.reduceToInt] at * <;> omega)
  · refine z_il iX7_signOf_104 rfl ?_
    refine z_ineg iX7_signOf_105 ?_
    refine z_iret iX7_signOf_106 rfl ?_
    refine ⟨_, rfl, rfl, ?_⟩
    unfold tkSign
    try simp only [List.length_cons, List.length_nil] at h1
    split
    · first | rfl | (exfalso; simp only [zi_eq, Int32.reduceToInt] at * <;> omega)
    · first | rfl | (exfalso; simp only [zi_eq, Int32.reduceToInt] at * <;> omega)
  · refine z_il iX7_signOf_104 rfl ?_
    refine z_ineg iX7_signOf_105 ?_
    refine z_iret iX7_signOf_106 rfl ?_
    refine ⟨_, rfl, rfl, ?_⟩
    unfold tkSign
    try simp only [List.length_cons, List.length_nil] at h1
    split
    · first | rfl | (exfalso; simp only [zi_eq, Int32.reduceToInt] at * <;> omega)
    · first | rfl | (exfalso; simp only [zi_eq, Int32.reduceToInt] at * <;> omega)
  · refine z_il iX7_signOf_104 rfl ?_
    refine z_ineg iX7_signOf_105 ?_
    refine z_iret iX7_signOf_106 rfl ?_
    refine ⟨_, rfl, rfl, ?_⟩
    unfold tkSign
    try simp only [List.length_cons, List.length_nil] at h1
    split
    · first | rfl | (exfalso; simp only [zi_eq, Int32.reduceToInt] at * <;> omega)
    · first | rfl | (exfalso; simp only [zi_eq, Int32.reduceToInt] at * <;> omega)
  · refine z_co iX7_signOf_107 ?_
    refine z_iret iX7_signOf_109 rfl ?_
    refine ⟨_, rfl, rfl, ?_⟩
    unfold tkSign
    try simp only [List.length_cons, List.length_nil] at h1
    split
    · first | rfl | (exfalso; simp only [zi_eq, Int32.reduceToInt] at * <;> omega)
    · first | rfl | (exfalso; simp only [zi_eq, Int32.reduceToInt] at * <;> omega)
  · refine z_il iX7_signOf_104 rfl ?_
    refine z_ineg iX7_signOf_105 ?_
    refine z_iret iX7_signOf_106 rfl ?_
    refine ⟨_, rfl, rfl, ?_⟩
    unfold tkSign
    try simp only [List.length_cons, List.length_nil] at h1
    split
    · first | rfl | (exfalso; simp only [zi_eq, Int32.reduceToInt] at * <;> omega)
    · first | rfl | (exfalso; simp only [zi_eq, Int32.reduceToInt] at * <;> omega)
  · refine z_co iX7_signOf_107 ?_
    refine z_iret iX7_signOf_109 rfl ?_
    refine ⟨_, rfl, rfl, ?_⟩
    unfold tkSign
    try simp only [List.length_cons, List.length_nil] at h1
    split
    · first | rfl | (exfalso; simp only [zi_eq, Int32.reduceToInt] at * <;> omega)
    · first | rfl | (exfalso; simp only [zi_eq, Int32.reduceToInt] at * <;> omega)
  · refine z_co iX7_signOf_107 ?_
    refine z_iret iX7_signOf_109 rfl ?_
    refine ⟨_, rfl, rfl, ?_⟩
    unfold tkSign
    try simp only [List.length_cons, List.length_nil] at h1
    split
    · first | rfl | (exfalso; simp only [zi_eq, Int32.reduceToInt] at * <;> omega)
    · first | rfl | (exfalso; simp only [zi_eq, Int32.reduceToInt] at * <;> omega)
  · refine z_co iX7_signOf_107 ?_
    refine z_iret iX7_signOf_109 rfl ?_
    refine ⟨_, rfl, rfl, ?_⟩
    unfold tkSign
    try simp only [List.length_cons, List.length_nil] at h1
    split
    · first | rfl | (exfalso; simp only [zi_eq, Int32.reduceToInt] at * <;> omega)
    · first | rfl | (exfalso; simp only [zi_eq, Int32.reduceToInt] at * <;> omega)
  · refine z_co iX7_signOf_107 ?_
    refine z_iret iX7_signOf_109 rfl ?_
    refine ⟨_, rfl, rfl, ?_⟩
    unfold tkSign
    try simp only [List.length_cons, List.length_nil] at h1
    split
    · first | rfl | (exfalso; simp only [zi_eq, Int32.reduceToInt] at * <;> omega)
    · first | rfl | (exfalso; simp only [zi_eq, Int32.reduceToInt] at * <;> omega)
  · refine z_co iX7_signOf_107 ?_
    refine z_iret iX7_signOf_109 rfl ?_
    refine ⟨_, rfl, rfl, ?_⟩
    unfold tkSign
    try simp only [List.length_cons, List.length_nil] at h1
    split
    · first | rfl | (exfalso; simp only [zi_eq, Int32.reduceToInt] at * <;> omega)
    · first | rfl | (exfalso; simp only [zi_eq, Int32.reduceToInt] at * <;> omega)
  · refine z_co iX7_signOf_107 ?_
    refine z_iret iX7_signOf_109 rfl ?_
    refine ⟨_, rfl, rfl, ?_⟩
    unfold tkSign
    try simp only [List.length_cons, List.length_nil] at h1
    split
    · first | rfl | (exfalso; simp only [zi_eq, Int32.reduceToInt] at * <;> omega)
    · first | rfl | (exfalso; simp only [zi_eq, Int32.reduceToInt] at * <;> omega)
  · refine z_co iX7_signOf_107 ?_
    refine z_iret iX7_signOf_109 rfl ?_
    refine ⟨_, rfl, rfl, ?_⟩
    unfold tkSign
    try simp only [List.length_cons, List.length_nil] at h1
    split
    · first | rfl | (exfalso; simp only [zi_eq, Int32.reduceToInt] at * <;> omega)
    · first | rfl | (exfalso; simp only [zi_eq, Int32.reduceToInt] at * <;> omega)
  · refine z_co iX7_signOf_107 ?_
    refine z_iret iX7_signOf_109 rfl ?_
    refine ⟨_, rfl, rfl, ?_⟩
    unfold tkSign
    try simp only [List.length_cons, List.length_nil] at h1
    split
    · first | rfl | (exfalso; simp only [zi_eq, Int32.reduceToInt] at * <;> omega)
    · first | rfl | (exfalso; simp only [zi_eq, Int32.reduceToInt] at * <;> omega)
  · refine z_co iX7_signOf_107 ?_
    refine z_iret iX7_signOf_109 rfl ?_
    refine ⟨_, rfl, rfl, ?_⟩
    unfold tkSign
    try simp only [List.length_cons, List.length_nil] at h1
    split
    · first | rfl | (exfalso; simp only [zi_eq, Int32.reduceToInt] at * <;> omega)
    · first | rfl | (exfalso; simp only [zi_eq, Int32.reduceToInt] at * <;> omega)
  · refine z_co iX7_signOf_107 ?_
    refine z_iret iX7_signOf_109 rfl ?_
    refine ⟨_, rfl, rfl, ?_⟩
    unfold tkSign
    try simp only [List.length_cons, List.length_nil] at h1
    split
    · first | rfl | (exfalso; simp only [zi_eq, Int32.reduceToInt] at * <;> omega)
    · first | rfl | (exfalso; simp only [zi_eq, Int32.reduceToInt] at * <;> omega)
  · refine z_co iX7_signOf_107 ?_
    refine z_iret iX7_signOf_109 rfl ?_
    refine ⟨_, rfl, rfl, ?_⟩
    unfold tkSign
    try simp only [List.length_cons, List.length_nil] at h1
    split
    · first | rfl | (exfalso; simp only [zi_eq, Int32.reduceToInt] at * <;> omega)
    · first | rfl | (exfalso; simp only [zi_eq, Int32.reduceToInt] at * <;> omega)
  · refine z_co iX7_signOf_107 ?_
    refine z_iret iX7_signOf_109 rfl ?_
    refine ⟨_, rfl, rfl, ?_⟩
    unfold tkSign
    try simp only [List.length_cons, List.length_nil] at h1
    split
    · first | rfl | (exfalso; simp only [zi_eq, Int32.reduceToInt] at * <;> omega)
    · first | rfl | (exfalso; simp only [zi_eq, Int32.reduceToInt] at * <;> omega)
  · refine z_co iX7_signOf_107 ?_
    refine z_iret iX7_signOf_109 rfl ?_
    refine ⟨_, rfl, rfl, ?_⟩
    unfold tkSign
    try simp only [List.length_cons, List.length_nil] at h1
    split
    · first | rfl | (exfalso; simp only [zi_eq, Int32.reduceToInt] at * <;> omega)
    · first | rfl | (exfalso; simp only [zi_eq, Int32.reduceToInt] at * <;> omega)
  · refine z_il iX7_signOf_104 rfl ?_
    refine z_ineg iX7_signOf_105 ?_
    refine z_iret iX7_signOf_106 rfl ?_
    refine ⟨_, rfl, rfl, ?_⟩
    unfold tkSign
    try simp only [List.length_cons, List.length_nil] at h1
    split
    · first | rfl | (exfalso; simp only [zi_eq, Int32.reduceToInt] at * <;> omega)
    · first | rfl | (exfalso; simp only [zi_eq, Int32.reduceToInt] at * <;> omega)
  · refine z_il iX7_signOf_104 rfl ?_
    refine z_ineg iX7_signOf_105 ?_
    refine z_iret iX7_signOf_106 rfl ?_
    refine ⟨_, rfl, rfl, ?_⟩
    unfold tkSign
    try simp only [List.length_cons, List.length_nil] at h1
    split
    · first | rfl | (exfalso; simp only [zi_eq, Int32.reduceToInt] at * <;> omega)
    · first | rfl | (exfalso; simp only [zi_eq, Int32.reduceToInt] at * <;> omega)
  · refine z_il iX7_signOf_104 rfl ?_
    refine z_ineg iX7_signOf_105 ?_
    refine z_iret iX7_signOf_106 rfl ?_
    refine ⟨_, rfl, rfl, ?_⟩
    unfold tkSign
    try simp only [List.length_cons, List.length_nil] at h1
    split
    · first | rfl | (exfalso; simp only [zi_eq, Int32.reduceToInt] at * <;> omega)
    · first | rfl | (exfalso; simp only [zi_eq, Int32.reduceToInt] at * <;> omega)
  · refine z_co iX7_signOf_107 ?_
    refine z_iret iX7_signOf_109 rfl ?_
    refine ⟨_, rfl, rfl, ?_⟩
    unfold tkSign
    try simp only [List.length_cons, List.length_nil] at h1
    split
    · first | rfl | (exfalso; simp only [zi_eq, Int32.reduceToInt] at * <;> omega)
    · first | rfl | (exfalso; simp only [zi_eq, Int32.reduceToInt] at * <;> omega)
