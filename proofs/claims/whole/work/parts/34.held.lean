theorem zaddN {p : Int32} {P i : Nat} (hp : p.toInt = (P : Int)) (hP : P < 100000) (hi : i < 100000) : (p + nI i).toInt = ((P + i : Nat) : Int) := by
  have e1 := nI_toInt (n := i) (by omega)
  rw [zadd (by omega) (by omega)]
  omega
/-- the first of the numbers from p on, n of them, that will do; -1: none -/
def zFirst (ok : Nat → Bool) : Nat → Nat → Int32
  | 0, _ => -1
  | n + 1, p => if ok p = true then nI p else zFirst ok n (p + 1)
theorem zFirst_c {ok ok' : Nat → Bool} : ∀ (n p : Nat), (∀ q, p ≤ q → q < p + n → ok q = ok' q) → zFirst ok n p = zFirst ok' n p
  | 0, _, _ => rfl
  | n + 1, p, h => by
    unfold zFirst
    rw [h p (by omega) (by omega), zFirst_c n (p + 1) (fun q h1 h2 => h q (by omega) (by omega))]
/-- v at the s places from p on -/
def zFill (f : Nat → Int32) (p s : Nat) (v : Int32) : Nat → Int32 := fun j => if p ≤ j ∧ j < p + s then v else f j
theorem zFill_0 {f : Nat → Int32} {p : Nat} {v : Int32} : zFill f p 0 v = f := by
  funext j
  unfold zFill
  rw [if_neg (by omega)]
theorem zFill_1 {f : Nat → Int32} {p s : Nat} {v : Int32} : zup (zFill f p s v) (p + s) v = zFill f p (s + 1) v := by
  funext j
  unfold zup zFill
  by_cases h : j = p + s
  · rw [if_pos h, if_pos (by omega)]
  · rw [if_neg h]
    by_cases h2 : p ≤ j ∧ j < p + s
    · rw [if_pos h2, if_pos (by omega)]
    · rw [if_neg h2, if_neg (by omega)]
theorem zFill_n {f : Nat → Int32} {p s j : Nat} {v : Int32} (h : ¬ (p ≤ j ∧ j < p + s)) : zFill f p s v j = f j := if_neg h
theorem zFill_s {f : Nat → Int32} {p s j : Nat} {v : Int32} (h : p ≤ j ∧ j < p + s) : zFill f p s v j = v := if_pos h
abbrev zFree (A : zSA) (m t P : Nat) : Prop := P + zN (A 14 t) ≤ zN (A 23 m) ∧ ∀ j, j < zN (A 14 t) → A 24 (16 * m + P + j) = -1
set_option maxRecDepth 20000 in
set_option maxHeartbeats 4000000 in
theorem c2_hasPlace {fr : Nat} {M : zM} {a h : zAd} {y0 y1 : Int32} (hy : zRg y1 4 16) (hthis : M a = some (.inr (2, [zi y0, zi y1, zr h]))) (p : Int32) : zCi zX2_hasPlace fr 0 0 [zr a, zi p] M (fun x M' => M' = M ∧ x = zbo (0 ≤ p.toInt ∧ p.toInt < y1.toInt)) := by
  refine z_enter (L := [some (zr a), some (zi p)]) rfl (by decide +kernel) (Nat.le_of_ble_eq_true rfl) ?_
  refine z_il iX2_hasPlace_0 rfl ?_
  refine z_if_lt iX2_hasPlace_1 (fun h1 => ?_) (fun h1 => ?_)
  · refine z_co iX2_hasPlace_22 ?_
    refine z_zret iX2_hasPlace_23 rfl rfl ?_
    refine ⟨_, rfl, rfl, ?_⟩
    obtain ⟨y3, y4⟩ := hy
    by_cases g : 0 ≤ p.toInt ∧ p.toInt < y1.toInt
    · first | exact (zbo_1 g).symm | (exfalso; simp only [true_and, and_true, false_and, and_false, true_or, or_true, false_or, or_false, not_true_eq_false, not_false_eq_true, zN, zBw, zUnd, zCor, zi_eq, zi_le, zi_lt, Int32.reduceToInt, List.length_cons, List.length_nil] at *; omega)
    · first | exact (zbo_0 g).symm | (exfalso; simp only [true_and, and_true, false_and, and_false, true_or, or_true, false_or, or_false, not_true_eq_false, not_false_eq_true, zN, zBw, zUnd, zCor, zi_eq, zi_le, zi_lt, Int32.reduceToInt, List.length_cons, List.length_nil] at *; omega)
  · refine z_il iX2_hasPlace_4 rfl ?_
    refine z_al iX2_hasPlace_5 rfl ?_
    refine z_gf iX2_hasPlace_6 hthis rfl ?_
    refine z_icmp_ge iX2_hasPlace_9 (fun h2 => ?_) (fun h2 => ?_)
    · refine z_co iX2_hasPlace_22 ?_
      refine z_zret iX2_hasPlace_23 rfl rfl ?_
      refine ⟨_, rfl, rfl, ?_⟩
      obtain ⟨y3, y4⟩ := hy
      by_cases g : 0 ≤ p.toInt ∧ p.toInt < y1.toInt
      · first | exact (zbo_1 g).symm | (exfalso; simp only [true_and, and_true, false_and, and_false, true_or, or_true, false_or, or_false, not_true_eq_false, not_false_eq_true, zN, zBw, zUnd, zCor, zi_eq, zi_le, zi_lt, Int32.reduceToInt, List.length_cons, List.length_nil] at *; omega)
      · first | exact (zbo_0 g).symm | (exfalso; simp only [true_and, and_true, false_and, and_false, true_or, or_true, false_or, or_false, not_true_eq_false, not_false_eq_true, zN, zBw, zUnd, zCor, zi_eq, zi_le, zi_lt, Int32.reduceToInt, List.length_cons, List.length_nil] at *; omega)
    · refine z_il iX2_hasPlace_12 rfl ?_
      refine z_co iX2_hasPlace_13 ?_
      refine z_icmp_ge iX2_hasPlace_15 (fun h3 => ?_) (fun h3 => ?_)
      · refine z_co iX2_hasPlace_22 ?_
        refine z_zret iX2_hasPlace_23 rfl rfl ?_
        refine ⟨_, rfl, rfl, ?_⟩
        obtain ⟨y3, y4⟩ := hy
        by_cases g : 0 ≤ p.toInt ∧ p.toInt < y1.toInt
        · first | exact (zbo_1 g).symm | (exfalso; simp only [true_and, and_true, false_and, and_false, true_or, or_true, false_or, or_false, not_true_eq_false, not_false_eq_true, zN, zBw, zUnd, zCor, zi_eq, zi_le, zi_lt, Int32.reduceToInt, List.length_cons, List.length_nil] at *; omega)
        · first | exact (zbo_0 g).symm | (exfalso; simp only [true_and, and_true, false_and, and_false, true_or, or_true, false_or, or_false, not_true_eq_false, not_false_eq_true, zN, zBw, zUnd, zCor, zi_eq, zi_le, zi_lt, Int32.reduceToInt, List.length_cons, List.length_nil] at *; omega)
      · refine z_co iX2_hasPlace_18 ?_
        refine z_goto iX2_hasPlace_19 ?_
        refine z_zret iX2_hasPlace_23 rfl rfl ?_
        refine ⟨_, rfl, rfl, ?_⟩
        obtain ⟨y3, y4⟩ := hy
        by_cases g : 0 ≤ p.toInt ∧ p.toInt < y1.toInt
        · first | exact (zbo_1 g).symm | (exfalso; simp only [true_and, and_true, false_and, and_false, true_or, or_true, false_or, or_false, not_true_eq_false, not_false_eq_true, zN, zBw, zUnd, zCor, zi_eq, zi_le, zi_lt, Int32.reduceToInt, List.length_cons, List.length_nil] at *; omega)
        · first | exact (zbo_0 g).symm | (exfalso; simp only [true_and, and_true, false_and, and_false, true_or, or_true, false_or, or_false, not_true_eq_false, not_false_eq_true, zN, zBw, zUnd, zCor, zi_eq, zi_le, zi_lt, Int32.reduceToInt, List.length_cons, List.length_nil] at *; omega)
set_option maxRecDepth 20000 in
set_option maxHeartbeats 4000000 in
theorem c2_heldAt {fr : Nat} {M : zM} {a h : zAd} {y0 y1 : Int32} {f : Nat → Int32} (hy : zRg y1 4 16) (hthis : M a = some (.inr (2, [zi y0, zi y1, zr h]))) (hh : M h = some (.inl (0, 16, .inl f))) (hf : 1 ≤ fr) (p : Int32) : zCi zX2_heldAt fr 0 0 [zr a, zi p] M (fun x M' => M' = M ∧ x = if 0 ≤ p.toInt ∧ p.toInt < y1.toInt then f (zN p) else -1) := by
  refine z_enter (L := [some (zr a), some (zi p)]) rfl (by decide +kernel) (Nat.le_of_ble_eq_true rfl) ?_
  refine z_al iX2_heldAt_0 rfl ?_
  refine z_il iX2_heldAt_1 rfl ?_
  refine z_cv1i (fr' := fr - 1) iX2_heldAt_2 zmX2_hasPlace hthis (c2_hasPlace hy hthis _) (by omega) (Nat.le_of_ble_eq_true rfl) (fun x M1 hq => ?_)
  obtain ⟨rfl, rfl⟩ := hq
  refine z_ib_eq iX2_heldAt_5 (fun h1 => ?_) (fun h1 => ?_)
  · refine z_co iX2_heldAt_17 ?_
    refine z_iret iX2_heldAt_18 rfl ?_
    refine ⟨_, rfl, rfl, ?_⟩
    first | exact (if_pos h1).symm | exact (if_neg h1).symm
  · refine z_al iX2_heldAt_8 rfl ?_
    refine z_gf iX2_heldAt_9 hthis rfl ?_
    refine z_il iX2_heldAt_12 rfl ?_
    refine z_iald iX2_heldAt_13 hh (show p.toInt = (zN p : Int) by have e0 : zN p = p.toInt.toNat := rfl; omega) (show zN p < 16 by have e0 : zN p = p.toInt.toNat := rfl; obtain ⟨y3, y4⟩ := hy; omega) ?_
    refine z_goto iX2_heldAt_14 ?_
    refine z_iret iX2_heldAt_18 rfl ?_
    refine ⟨_, rfl, rfl, ?_⟩
    first | exact (if_pos h1).symm | exact (if_neg h1).symm
set_option maxRecDepth 20000 in
set_option maxHeartbeats 4000000 in
theorem l2_hasRoom {fr : Nat} {M : zM} {a h : zAd} {y0 y1 : Int32} {f : Nat → Int32} (hy : zRg y1 4 16) (hthis : M a = some (.inr (2, [zi y0, zi y1, zr h]))) (hh : M h = some (.inl (0, 16, .inl f))) (hf : 1 ≤ fr) {p sz : Int32} {P S : Nat} (hp : p.toInt = (P : Int)) (hP : P < 100) (hs : sz.toInt = (S : Int)) (hS : S < 100)  : ∀ (n i : Nat), i + n = S → (∀ j, j < i → P + j < zN y1 ∧ f (P + j) = -1) → zV zX2_hasRoom fr 0 0 2 (zL [some (zr a), some (zi p), some (zi sz), some (zi (nI i))]) [] M (fun r M' => ∃ x, r = some (zi x) ∧ M' = M ∧ x = zbo (∀ j, j < S → P + j < zN y1 ∧ f (P + j) = -1)) := by
  intro n
  induction n with
  | zero =>
    intro i  hn hk
    refine z_il iX2_hasRoom_2 rfl ?_
    refine z_il iX2_hasRoom_3 rfl ?_
    refine z_icmp_ge iX2_hasRoom_4 (fun h1 => ?_) (fun h1 => ?_)
    · refine z_co iX2_hasRoom_37 ?_
      refine z_zret iX2_hasRoom_38 rfl rfl ?_
      exact ⟨_, rfl, rfl, (zbo_1 (fun j hj => hk j (by omega))).symm⟩
    · exact absurd (zi_le.mpr (by rw [nI_toInt (by omega)]; omega)) h1
  | succ n ih =>
    intro i  hn hk
    refine z_il iX2_hasRoom_2 rfl ?_
    refine z_il iX2_hasRoom_3 rfl ?_
    refine z_icmp_ge iX2_hasRoom_4 (fun h1 => ?_) (fun h1 => ?_)
    · exfalso
      have z1 := zi_le.mp h1
      rw [nI_toInt (by omega)] at z1
      omega
    · refine z_al iX2_hasRoom_7 rfl ?_
      refine z_il iX2_hasRoom_8 rfl ?_
      refine z_il iX2_hasRoom_9 rfl ?_
      refine z_iadd iX2_hasRoom_10 ?_
      refine z_cv1i (fr' := fr - 1) iX2_hasRoom_11 zmX2_hasPlace hthis (c2_hasPlace hy hthis _) (by omega) (Nat.le_of_ble_eq_true rfl) (fun x M1 hq => ?_)
      obtain ⟨rfl, rfl⟩ := hq
      refine z_ib_eq iX2_hasRoom_14 (fun h2 => ?_) (fun h2 => ?_)
      · refine z_co iX2_hasRoom_29 ?_
        refine z_zret iX2_hasRoom_30 rfl rfl ?_
        refine ⟨_, rfl, rfl, (zbo_0 (fun q => ?_)).symm⟩
        obtain ⟨q1, q2⟩ := q i (by omega)
        have ea := zaddN (i := i) hp (by omega) (by omega)
        have e0 : zN y1 = y1.toInt.toNat := rfl
        obtain ⟨y3, y4⟩ := hy
        first | exact absurd q2 (by assumption) | omega
      · refine z_al iX2_hasRoom_17 rfl ?_
        refine z_gf iX2_hasRoom_18 hthis rfl ?_
        refine z_il iX2_hasRoom_21 rfl ?_
        refine z_il iX2_hasRoom_22 rfl ?_
        refine z_iadd iX2_hasRoom_23 ?_
        refine z_iald iX2_hasRoom_24 hh (zaddN hp (by omega) (by omega)) (show P + i < 16 by have ea := zaddN (i := i) hp (by omega) (by omega); obtain ⟨y3, y4⟩ := hy; have e0 : zN y1 = y1.toInt.toNat := rfl; omega) ?_
        refine z_co iX2_hasRoom_25 ?_
        refine z_icmp_eq iX2_hasRoom_26 (fun h3 => ?_) (fun h3 => ?_)
        · refine z_in iX2_hasRoom_31 rfl ?_
          refine z_goto iX2_hasRoom_34 ?_
          refine z_loc [some (zr a), some (zi p), some (zi sz), some (zi (nI (i + 1)))] ⟨rfl, rfl, rfl, ?_, trivial⟩ (ih (i + 1) (by omega) (fun j hj => ?_))
          · show some (zi (nI i + 1)) = _
            rw [nI_1]
          · by_cases q : j = i
            · subst q
              have ea := zaddN (i := j) hp (by omega) (by omega)
              have e0 : zN y1 = y1.toInt.toNat := rfl
              exact ⟨by omega, by assumption⟩
            · exact hk j (by omega)
        · refine z_co iX2_hasRoom_29 ?_
          refine z_zret iX2_hasRoom_30 rfl rfl ?_
          refine ⟨_, rfl, rfl, (zbo_0 (fun q => ?_)).symm⟩
          obtain ⟨q1, q2⟩ := q i (by omega)
          have ea := zaddN (i := i) hp (by omega) (by omega)
          have e0 : zN y1 = y1.toInt.toNat := rfl
          obtain ⟨y3, y4⟩ := hy
          first | exact absurd q2 (by assumption) | omega
set_option maxRecDepth 20000 in
set_option maxHeartbeats 4000000 in
theorem c2_hasRoom {fr : Nat} {M : zM} {a h : zAd} {y0 y1 : Int32} {f : Nat → Int32} (hy : zRg y1 4 16) (hthis : M a = some (.inr (2, [zi y0, zi y1, zr h]))) (hh : M h = some (.inl (0, 16, .inl f))) (hf : 1 ≤ fr) (p sz : Int32) {P S : Nat} (hp : p.toInt = (P : Int)) (hP : P < 100) (hs : sz.toInt = (S : Int)) (hS : S < 100)  : zCi zX2_hasRoom fr 0 0 [zr a, zi p, zi sz] M (fun x M' => M' = M ∧ x = zbo (∀ j, j < S → P + j < zN y1 ∧ f (P + j) = -1)) := by
  refine z_enter (L := [some (zr a), some (zi p), some (zi sz)]) rfl (by decide +kernel) (Nat.le_of_ble_eq_true rfl) ?_
  refine z_co iX2_hasRoom_0 ?_
  refine z_is iX2_hasRoom_1 ?_
  refine z_loc [some (zr a), some (zi p), some (zi sz), some (zi (nI 0))] ⟨rfl, rfl, rfl, rfl, trivial⟩ ?_
  exact l2_hasRoom hy hthis hh hf hp hP hs hS S 0 (by omega) (fun j hj => absurd hj (Nat.not_lt_zero j))
set_option maxRecDepth 20000 in
set_option maxHeartbeats 4000000 in
theorem l2_leastRoom {fr : Nat} {M : zM} {a h : zAd} {y0 y1 : Int32} {f : Nat → Int32} (hy : zRg y1 4 16) (hthis : M a = some (.inr (2, [zi y0, zi y1, zr h]))) (hh : M h = some (.inl (0, 16, .inl f))) (hf : 2 ≤ fr) {sz : Int32} {S : Nat} (hs : sz.toInt = (S : Int)) (hS : S < 100) (ok : Nat → Bool) (hok : ∀ P, P < zN y1 → (ok P = true ↔ (∀ j, j < S → P + j < zN y1 ∧ f (P + j) = -1))) : ∀ (n i : Nat), i + n = zN y1 → zV zX2_leastRoom fr 0 0 2 (zL [some (zr a), some (zi sz), some (zi (nI i))]) [] M (fun r M' => ∃ x, r = some (zi x) ∧ M' = M ∧ x = zFirst ok n i) := by
  intro n
  induction n with
  | zero =>
    intro i  hn 
    obtain ⟨y3, y4⟩ := id hy
    have e0 : zN y1 = y1.toInt.toNat := rfl
    refine z_il iX2_leastRoom_2 rfl ?_
    refine z_al iX2_leastRoom_3 rfl ?_
    refine z_gf iX2_leastRoom_4 hthis rfl ?_
    refine z_icmp_ge iX2_leastRoom_7 (fun h1 => ?_) (fun h1 => ?_)
    · refine z_co iX2_leastRoom_27 ?_
      refine z_iret iX2_leastRoom_28 rfl ?_
      exact ⟨_, rfl, rfl, rfl⟩
    · exact absurd (zi_le.mpr (by rw [nI_toInt (by omega)]; omega)) h1
  | succ n ih =>
    intro i  hn 
    obtain ⟨y3, y4⟩ := id hy
    have e0 : zN y1 = y1.toInt.toNat := rfl
    refine z_il iX2_leastRoom_2 rfl ?_
    refine z_al iX2_leastRoom_3 rfl ?_
    refine z_gf iX2_leastRoom_4 hthis rfl ?_
    refine z_icmp_ge iX2_leastRoom_7 (fun h1 => ?_) (fun h1 => ?_)
    · exfalso
      have z1 := zi_le.mp h1
      rw [nI_toInt (by omega)] at z1
      omega
    · refine z_al iX2_leastRoom_10 rfl ?_
      refine z_il iX2_leastRoom_11 rfl ?_
      refine z_il iX2_leastRoom_12 rfl ?_
      refine z_cv2i (fr' := fr - 1) iX2_leastRoom_13 zmX2_hasRoom hthis (c2_hasRoom hy hthis hh (by omega) _ _ (P := i) (S := S) (nI_toInt (by omega)) (by omega) hs hS) (by omega) (Nat.le_of_ble_eq_true rfl) (fun x M1 hq => ?_)
      obtain ⟨rfl, rfl⟩ := hq
      refine z_ib_eq iX2_leastRoom_16 (fun h2 => ?_) (fun h2 => ?_)
      · refine z_in iX2_leastRoom_21 rfl ?_
        refine z_goto iX2_leastRoom_24 ?_
        refine z_loc [some (zr a), some (zi sz), some (zi (nI (i + 1)))] ⟨rfl, rfl, ?_, trivial⟩ ((ih (i + 1) (by omega)).mono (fun r M' ⟨x, hr, hm, hx⟩ => ⟨x, hr, hm, hx.trans (if_neg (fun q => h2 ((hok i (by omega)).mp q))).symm⟩))
        show some (zi (nI i + 1)) = _
        rw [nI_1]
      · refine z_il iX2_leastRoom_19 rfl ?_
        refine z_iret iX2_leastRoom_20 rfl ?_
        exact ⟨_, rfl, rfl, (if_pos ((hok i (by omega)).mpr h2)).symm⟩
set_option maxRecDepth 20000 in
set_option maxHeartbeats 4000000 in
theorem c2_leastRoom {fr : Nat} {M : zM} {a h : zAd} {y0 y1 : Int32} {f : Nat → Int32} (hy : zRg y1 4 16) (hthis : M a = some (.inr (2, [zi y0, zi y1, zr h]))) (hh : M h = some (.inl (0, 16, .inl f))) (hf : 2 ≤ fr) (sz : Int32) {S : Nat} (hs : sz.toInt = (S : Int)) (hS : S < 100) (ok : Nat → Bool) (hok : ∀ P, P < zN y1 → (ok P = true ↔ (∀ j, j < S → P + j < zN y1 ∧ f (P + j) = -1))) : zCi zX2_leastRoom fr 0 0 [zr a, zi sz] M (fun x M' => M' = M ∧ x = zFirst ok (zN y1) 0) := by
  refine z_enter (L := [some (zr a), some (zi sz)]) rfl (by decide +kernel) (Nat.le_of_ble_eq_true rfl) ?_
  refine z_co iX2_leastRoom_0 ?_
  refine z_is iX2_leastRoom_1 ?_
  refine z_loc [some (zr a), some (zi sz), some (zi (nI 0))] ⟨rfl, rfl, rfl, trivial⟩ ?_
  exact l2_leastRoom hy hthis hh hf hs hS ok hok (zN y1) 0 (by omega)
set_option maxRecDepth 20000 in
set_option maxHeartbeats 4000000 in
theorem l2_hold {fr : Nat} {M : zM} {a h : zAd} {y0 y1 : Int32} {f : Nat → Int32} (hy : zRg y1 4 16) (hw2 : 2 ≤ h.1) (hne : a.1 ≠ h.1) (hthis : M a = some (.inr (2, [zi y0, zi y1, zr h]))) (hf : 1 ≤ fr) {p sz v : Int32} {P S : Nat} (hp : p.toInt = (P : Int)) (hs : sz.toInt = (S : Int)) (hPS : P + S ≤ zN y1)  : ∀ (n i : Nat), i + n = S → zV zX2_hold fr 0 0 3 (zL [some (zr a), some (zi p), some (zi sz), some (zi v), some (zi (nI i))]) [] (zupd M h (.inl (0, 16, .inl (zFill f P i v)))) (fun r M' => r = none ∧ M' = zupd M h (.inl (0, 16, .inl (zFill f P S v)))) := by
  intro n
  induction n with
  | zero =>
    intro i  hn 
    obtain ⟨y3, y4⟩ := id hy
    have e0 : zN y1 = y1.toInt.toNat := rfl
    refine z_il iX2_hold_3 rfl ?_
    refine z_il iX2_hold_5 rfl ?_
    refine z_icmp_ge iX2_hold_6 (fun h1 => ?_) (fun h1 => ?_)
    · refine z_vret iX2_hold_36 rfl ?_
      exact ⟨rfl, by rw [show i = S by omega]⟩
    · exact absurd (zi_le.mpr (by rw [nI_toInt (by omega)]; omega)) h1
  | succ n ih =>
    intro i  hn 
    obtain ⟨y3, y4⟩ := id hy
    have e0 : zN y1 = y1.toInt.toNat := rfl
    refine z_il iX2_hold_3 rfl ?_
    refine z_il iX2_hold_5 rfl ?_
    refine z_icmp_ge iX2_hold_6 (fun h1 => ?_) (fun h1 => ?_)
    · exfalso
      have z1 := zi_le.mp h1
      rw [nI_toInt (by omega)] at z1
      omega
    · refine z_al iX2_hold_9 rfl ?_
      refine z_il iX2_hold_10 rfl ?_
      refine z_il iX2_hold_11 rfl ?_
      refine z_iadd iX2_hold_13 ?_
      refine z_cv1i (fr' := fr - 1) iX2_hold_14 zmX2_hasPlace ((zupd_k hne).trans hthis) (c2_hasPlace hy ((zupd_k hne).trans hthis) _) (by omega) (Nat.le_of_ble_eq_true rfl) (fun x M1 hq => ?_)
      obtain ⟨rfl, rfl⟩ := hq
      refine z_ib_eq iX2_hold_17 (fun h2 => ?_) (fun h2 => ?_)
      · exfalso
        have ea := zaddN (i := i) hp (by omega) (by omega)
        have e0 : zN y1 = y1.toInt.toNat := rfl
        omega
      · refine z_al iX2_hold_20 rfl ?_
        refine z_gf iX2_hold_21 ((zupd_k hne).trans hthis) rfl ?_
        refine z_il iX2_hold_24 rfl ?_
        refine z_il iX2_hold_25 rfl ?_
        refine z_iadd iX2_hold_27 ?_
        refine z_il iX2_hold_28 rfl ?_
        refine z_iast2 iX2_hold_29 hw2 (zaddN hp (by omega) (by omega)) (show P + i < 16 by omega) ?_
        refine z_in iX2_hold_30 rfl ?_
        refine z_goto iX2_hold_33 ?_
        rw [zFill_1]
        refine z_loc [some (zr a), some (zi p), some (zi sz), some (zi v), some (zi (nI (i + 1)))] ⟨rfl, rfl, rfl, rfl, ?_, trivial⟩ (ih (i + 1) (by omega))
        show some (zi (nI i + 1)) = _
        rw [nI_1]
set_option maxRecDepth 20000 in
set_option maxHeartbeats 4000000 in
theorem c2_hold {fr : Nat} {M : zM} {a h : zAd} {y0 y1 : Int32} {f : Nat → Int32} (hy : zRg y1 4 16) (hw2 : 2 ≤ h.1) (hne : a.1 ≠ h.1) (hthis : M a = some (.inr (2, [zi y0, zi y1, zr h]))) (hh : M h = some (.inl (0, 16, .inl f))) (hf : 1 ≤ fr) (p sz v : Int32) {P S : Nat} (hp : p.toInt = (P : Int)) (hs : sz.toInt = (S : Int)) (hPS : P + S ≤ zN y1)  : zCv zX2_hold fr 0 0 [zr a, zi p, zi sz, zi v] M (fun M' => M' = zupd M h (.inl (0, 16, .inl (zFill f P S v)))) := by
  refine z_enter (L := [some (zr a), some (zi p), some (zi sz), some (zi v)]) rfl (by decide +kernel) (Nat.le_of_ble_eq_true rfl) ?_
  refine z_co iX2_hold_0 ?_
  refine z_is iX2_hold_1 ?_
  refine z_loc [some (zr a), some (zi p), some (zi sz), some (zi v), some (zi (nI 0))] ⟨rfl, rfl, rfl, rfl, rfl, trivial⟩ ?_
  have h9 := l2_hold (M := M) (f := f) (fr := fr) hy hw2 hne hthis hf (v := v) hp hs hPS S 0 (by omega)
  rw [zFill_0, zupd_same hh] at h9
  exact h9
