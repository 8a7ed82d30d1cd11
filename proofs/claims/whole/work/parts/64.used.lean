abbrev n64 (x : Nat) : Int64 := Int64.ofNat x
theorem n64_rem {X Y : Nat} (hX : X < 2 ^ 62) (hY : Y < 2 ^ 62) : n64 X - n64 X / n64 Y * n64 Y = n64 (X % Y) := by
  have h1 : n64 X / n64 Y = n64 (X / Y) := (Int64.ofNat_div (by omega) (by omega)).symm
  rw [h1, ← Int64.ofNat_mul, ← Int64.ofNat_sub]
  · congr 1
    have := Nat.div_add_mod X Y
    rw [Nat.mul_comm] at this
    omega
  · exact Nat.div_mul_le_self X Y
theorem n64_0 {Y : Nat} (hY : Y < 2 ^ 62) : lg_cmp (n64 Y) 0 = 0 ↔ Y = 0 := by
  constructor
  · intro h
    have h1 := lg_cmp_0 h
    exact (i64_ofNat hY (by decide)).mp h1
  · intro h; subst h; exact lg_cmp_self
/-- enough turns are left -/
def gC (n X Y : Nat) : Prop := (Y ≤ X ∧ X * Y < 2 ^ n) ∨ (1 ≤ n ∧ X * Y < 2 ^ (n - 1))
theorem gC.step {n X Y : Nat} (h : gC (n + 1) X Y) (hY : 0 < Y) : gC n Y (X % Y) := by
  have h1 := Nat.mod_lt X hY
  rcases h with ⟨h2, h3⟩ | ⟨-, h3⟩
  · refine Or.inl ⟨Nat.le_of_lt h1, ?_⟩
    have h4 : 2 * (X % Y) ≤ X := by
      have h5 := Nat.div_add_mod X Y
      have h6 : 1 ≤ X / Y := (Nat.one_le_div_iff hY).mpr h2
      have h7 : Y * 1 ≤ Y * (X / Y) := Nat.mul_le_mul_left Y h6
      omega
    have h8 : Y * (2 * (X % Y)) ≤ Y * X := Nat.mul_le_mul_left Y h4
    rw [Nat.pow_succ] at h3
    rw [Nat.mul_comm X Y] at h3
    rw [Nat.mul_left_comm] at h8
    omega
  · refine Or.inl ⟨Nat.le_of_lt h1, ?_⟩
    have h4 : Y * (X % Y) ≤ Y * X := Nat.mul_le_mul_left Y (Nat.mod_le X Y)
    rw [Nat.mul_comm X Y] at h3
    simp only [Nat.add_sub_cancel] at h3
    omega
theorem gC.zero {X Y : Nat} (h : gC 0 X Y) : Nat.gcd X Y = X := by
  rcases h with ⟨h2, h3⟩ | ⟨h2, -⟩
  · have h4 : X * Y = 0 := by omega
    rcases Nat.mul_eq_zero.mp h4 with h5 | h5
    · have h6 : Y = 0 := by omega
      rw [h6]; exact Nat.gcd_zero_right X
    · rw [h5]; exact Nat.gcd_zero_right X
  · omega
theorem gcd_st (X Y : Nat) : Nat.gcd Y (X % Y) = Nat.gcd X Y := by
  rw [Nat.gcd_comm Y (X % Y), ← Nat.gcd_rec, Nat.gcd_comm]
set_option maxRecDepth 20000 in
set_option maxHeartbeats 4000000 in
theorem l10_gcd {fr : Nat} {M : zM} {a b : Int64} {G : Nat} (hG : 0 < G) : ∀ (n i : Nat) (X Y : Nat), i + n = 200 → gC n X Y → X < 2 ^ 62 → Y < 2 ^ 62 → Nat.gcd X Y = G → zV zX10_commonDivisor fr 0 0 9 (zL [some (zl a), none, some (zl b), none, some (zl (n64 X)), none, some (zl (n64 Y)), none, some (zi (nI i))]) [] M (fun r M' => ∃ x, r = some (zl x) ∧ M' = M ∧ x = n64 G) := by
  intro n
  induction n with
  | zero =>
    intro i X Y hn hc hX hY hg
    refine z_il iX10_commonDivisor_9 rfl ?_
    refine z_co iX10_commonDivisor_11 ?_
    refine z_icmp_ge iX10_commonDivisor_14 (fun h1 => ?_) (fun h1 => ?_)
    · refine z_ll iX10_commonDivisor_45 rfl ?_
      refine z_cl iX10_commonDivisor_47 ?_
      refine z_lcmp iX10_commonDivisor_48 ?_
      refine z_if_ne iX10_commonDivisor_49 (fun h2 => ?_) (fun h2 => ?_)
      · have hGX : X = G := by rw [← hg]; exact (gC.zero hc).symm
        rw [hGX]
        refine z_ll iX10_commonDivisor_56 rfl ?_
        refine z_lret iX10_commonDivisor_58 rfl ?_
        exact ⟨_, rfl, rfl, rfl⟩
      · have hGX : X = G := by rw [← hg]; exact (gC.zero hc).symm
        exfalso
        have z := (n64_0 hX).mp h2
        omega
    · exfalso
      have e1 := nI_toInt (n := i) (by omega)
      simp only [zi_le, Int32.reduceToInt, e1] at h1
      omega
  | succ n ih =>
    intro i X Y hn hc hX hY hg
    refine z_il iX10_commonDivisor_9 rfl ?_
    refine z_co iX10_commonDivisor_11 ?_
    refine z_icmp_ge iX10_commonDivisor_14 (fun h1 => ?_) (fun h1 => ?_)
    · exfalso
      have e1 := nI_toInt (n := i) (by omega)
      simp only [zi_le, Int32.reduceToInt, e1] at h1
      omega
    · refine z_ll iX10_commonDivisor_17 rfl ?_
      refine z_cl iX10_commonDivisor_19 ?_
      refine z_lcmp iX10_commonDivisor_20 ?_
      refine z_if_eq iX10_commonDivisor_21 (fun h2 => ?_) (fun h2 => ?_)
      · refine z_ll iX10_commonDivisor_45 rfl ?_
        refine z_cl iX10_commonDivisor_47 ?_
        refine z_lcmp iX10_commonDivisor_48 ?_
        refine z_if_ne iX10_commonDivisor_49 (fun h3 => ?_) (fun h3 => ?_)
        · have hGX : X = G := by rw [← hg, (n64_0 hY).mp h2, Nat.gcd_zero_right]
          rw [hGX]
          refine z_ll iX10_commonDivisor_56 rfl ?_
          refine z_lret iX10_commonDivisor_58 rfl ?_
          exact ⟨_, rfl, rfl, rfl⟩
        · have hGX : X = G := by rw [← hg, (n64_0 hY).mp h2, Nat.gcd_zero_right]
          exfalso
          have z := (n64_0 hX).mp h3
          omega
      · have hY0 : 0 < Y := by
          have : ¬ Y = 0 := fun q => h2 ((n64_0 hY).mpr q)
          omega
        refine z_ll iX10_commonDivisor_24 rfl ?_
        refine z_ll iX10_commonDivisor_26 rfl ?_
        refine z_lrem iX10_commonDivisor_28 (fun q => absurd ((i64_ofNat (b := 0) hY (by decide)).mp q) (by omega)) ?_
        refine z_ls iX10_commonDivisor_29 ?_
        refine z_ll iX10_commonDivisor_31 rfl ?_
        refine z_ls iX10_commonDivisor_33 ?_
        refine z_ll iX10_commonDivisor_35 rfl ?_
        refine z_ls iX10_commonDivisor_37 ?_
        refine z_in iX10_commonDivisor_39 rfl ?_
        refine z_goto iX10_commonDivisor_42 ?_
        rw [n64_rem hX hY]
        refine z_loc [some (zl a), none, some (zl b), none, some (zl (n64 Y)), none, some (zl (n64 (X % Y))), none, some (zi (nI (i + 1)))] ⟨rfl, rfl, rfl, rfl, ?_, trivial⟩ (ih (i + 1) Y (X % Y) (by omega) (hc.step hY0) hY (Nat.lt_of_le_of_lt (Nat.mod_le X Y) hX) ((gcd_st X Y).trans hg))
        show some (zi (nI i + 1)) = _
        rw [nI_1]
set_option maxRecDepth 20000 in
set_option maxHeartbeats 4000000 in
theorem c10_gcd {fr : Nat} {M : zM} {A B : Nat} (hA : A < 2 ^ 20) (hB : B < 2 ^ 20) (hB0 : 0 < B) : zCj zX10_commonDivisor fr 0 0 [zl (n64 A), zl (n64 B)] M (fun x M' => M' = M ∧ x = n64 (Nat.gcd A B)) := by
  refine z_enter (L := [some (zl (n64 A)), none, some (zl (n64 B)), none]) rfl (by decide +kernel) (Nat.le_of_ble_eq_true rfl) ?_
  refine z_ll iX10_commonDivisor_0 rfl ?_
  refine z_ls iX10_commonDivisor_1 ?_
  refine z_ll iX10_commonDivisor_3 rfl ?_
  refine z_ls iX10_commonDivisor_4 ?_
  refine z_co iX10_commonDivisor_6 ?_
  refine z_is iX10_commonDivisor_7 ?_
  refine z_loc [some (zl (n64 A)), none, some (zl (n64 B)), none, some (zl (n64 B)), none, some (zl (n64 A)), none, some (zi (nI 0))] ⟨rfl, rfl, rfl, rfl, rfl, trivial⟩ ?_
  refine (l10_gcd (a := n64 A) (b := n64 B) (G := Nat.gcd A B) (Nat.gcd_pos_of_pos_right A hB0) 200 0 B A rfl (Or.inr ⟨by decide, ?_⟩) (by omega) (by omega) (Nat.gcd_comm B A))
  have h1 : B * A ≤ 2 ^ 20 * 2 ^ 20 := Nat.mul_le_mul (Nat.le_of_lt hB) (Nat.le_of_lt hA)
  exact Nat.lt_of_le_of_lt h1 (by decide)
set_option maxRecDepth 20000 in
set_option maxHeartbeats 4000000 in
theorem l11_gcd {fr : Nat} {M : zM} {a b : Int64} {G : Nat} : ∀ (k X Y : Nat), Y ≤ k → X < 2 ^ 62 → Y < 2 ^ 62 → Nat.gcd X Y = G → zV zX11_divisor fr 0 0 6 (zL [some (zl a), none, some (zl b), none, some (zl (n64 X)), none, some (zl (n64 Y)), none]) [] M (fun r M' => ∃ x, r = some (zl x) ∧ M' = M ∧ x = n64 G) := by
  intro k
  induction k with
  | zero =>
    intro X Y hk hX hY hg
    refine z_ll iX11_divisor_6 rfl ?_
    refine z_cl iX11_divisor_8 ?_
    refine z_lcmp iX11_divisor_9 ?_
    refine z_if_eq iX11_divisor_10 (fun h1 => ?_) (fun h1 => ?_)
    · have hGX : X = G := by rw [← hg, (n64_0 hY).mp h1, Nat.gcd_zero_right]
      refine z_ll iX11_divisor_31 rfl ?_
      refine z_lret iX11_divisor_33 rfl ?_
      exact ⟨_, rfl, rfl, by rw [hGX]⟩
    · exact absurd ((n64_0 hY).mpr (by omega)) h1
  | succ k ih =>
    intro X Y hk hX hY hg
    refine z_ll iX11_divisor_6 rfl ?_
    refine z_cl iX11_divisor_8 ?_
    refine z_lcmp iX11_divisor_9 ?_
    refine z_if_eq iX11_divisor_10 (fun h1 => ?_) (fun h1 => ?_)
    · have hGX : X = G := by rw [← hg, (n64_0 hY).mp h1, Nat.gcd_zero_right]
      refine z_ll iX11_divisor_31 rfl ?_
      refine z_lret iX11_divisor_33 rfl ?_
      exact ⟨_, rfl, rfl, by rw [hGX]⟩
    · have hY0 : 0 < Y := by
        have : ¬ Y = 0 := fun q => h1 ((n64_0 hY).mpr q)
        omega
      refine z_ll iX11_divisor_13 rfl ?_
      refine z_ll iX11_divisor_15 rfl ?_
      refine z_lrem iX11_divisor_17 (fun q => absurd ((i64_ofNat (b := 0) hY (by decide)).mp q) (by omega)) ?_
      refine z_ls iX11_divisor_18 ?_
      refine z_ll iX11_divisor_20 rfl ?_
      refine z_ls iX11_divisor_22 ?_
      refine z_ll iX11_divisor_24 rfl ?_
      refine z_ls iX11_divisor_26 ?_
      refine z_goto iX11_divisor_28 ?_
      rw [n64_rem hX hY]
      refine z_loc [some (zl a), none, some (zl b), none, some (zl (n64 Y)), none, some (zl (n64 (X % Y))), none] ⟨rfl, rfl, rfl, rfl, trivial⟩ (ih Y (X % Y) (by have := Nat.mod_lt X hY0; omega) hY (Nat.lt_of_le_of_lt (Nat.mod_le X Y) hX) ((gcd_st X Y).trans hg))
set_option maxRecDepth 20000 in
set_option maxHeartbeats 4000000 in
theorem c11_gcd {fr : Nat} {M : zM} {A B : Nat} (hA : A < 2 ^ 20) (hB : B < 2 ^ 20) : zCj zX11_divisor fr 0 0 [zl (n64 A), zl (n64 B)] M (fun x M' => M' = M ∧ x = n64 (Nat.gcd A B)) := by
  refine z_enter (L := [some (zl (n64 A)), none, some (zl (n64 B)), none]) rfl (by decide +kernel) (Nat.le_of_ble_eq_true rfl) ?_
  refine z_ll iX11_divisor_0 rfl ?_
  refine z_ls iX11_divisor_1 ?_
  refine z_ll iX11_divisor_3 rfl ?_
  refine z_ls iX11_divisor_4 ?_
  refine z_loc [some (zl (n64 A)), none, some (zl (n64 B)), none, some (zl (n64 A)), none, some (zl (n64 B)), none] ⟨rfl, rfl, rfl, rfl, trivial⟩ ?_
  exact l11_gcd (a := n64 A) (b := n64 B) (G := Nat.gcd A B) B A B (Nat.le_refl _) (by omega) (by omega) rfl
def sp_used (I : zSI) (A : zSA) (L : zSL) (e w : Int32) : Int64 := if ¬ zBw e 0 (I 0 - 1) ∨ ¬ zBw w 0 1 then -4611686018427387904 else if w = 0 then L (zN e) / n64 (Nat.gcd (L (zN e)).toInt.toNat (100 * zN (A 4 (zN e)))) else 100 * (A 4 (zN e)).toInt64 / n64 (Nat.gcd (L (zN e)).toInt.toNat (100 * zN (A 4 (zN e))))
/-- wear and the wear in all, as numbers -/
theorem zUs {I : zSI} {A : zSA} {L : zSL} (hV : Val I A L) {e : Nat} (h : (e : Int) < (I 0).toInt) : L e = n64 (L e).toInt.toNat ∧ (L e).toInt.toNat < 2 ^ 20 ∧ 100 * (A 4 e).toInt64 = n64 (100 * zN (A 4 e)) ∧ 100 * zN (A 4 e) < 2 ^ 20 ∧ 0 < 100 * zN (A 4 e) := by
  obtain ⟨-, ⟨g1, g2⟩, -, ⟨g3, g4⟩, -⟩ := hV.2.1 e h
  have e0 : zN (A 4 e) = (A 4 e).toInt.toNat := rfl
  refine ⟨?_, by omega, ?_, by omega, by omega⟩
  · rw [← Int64.toInt_inj, Int64.toInt_ofNat_of_lt (by omega)]
    omega
  · have e1 : (A 4 e).toInt64 = n64 (zN (A 4 e)) := by
      rw [← Int64.toInt_inj, Int32.toInt_toInt64, Int64.toInt_ofNat_of_lt (by omega)]
      omega
    rw [e1, show n64 (100 * zN (A 4 e)) = n64 100 * n64 (zN (A 4 e)) from Int64.ofNat_mul ..]
    rfl
theorem n64_ne {a : Nat} (h : 0 < a) (h2 : a < 2 ^ 62) : ¬ n64 a = 0 := fun q => by
  have := (i64_ofNat (b := 0) h2 (by decide)).mp q
  omega
theorem zUg {I : zSI} {A : zSA} {L : zSL} (hV : Val I A L) {e : Nat} (h : (e : Int) < (I 0).toInt) : ¬ n64 (Nat.gcd (L e).toInt.toNat (100 * zN (A 4 e))) = 0 := by
  have h1 := zUs hV h
  refine n64_ne (Nat.gcd_pos_of_pos_right _ h1.2.2.2.2) ?_
  have := Nat.gcd_le_right (L e).toInt.toNat h1.2.2.2.2
  omega
set_option maxRecDepth 20000 in
set_option maxHeartbeats 4000000 in
theorem c0_inAll {fr : Nat} {M : zM} {a b : zAd} {y0 y1 y2 y4 y5 y6 y7 y8 y9 y10 y11 : Int32} {y12 : Int64} (hthis : M a = some (.inr (0, [zi y0, zi y1, zi y2, zr b, zi y4, zi y5, zi y6, zi y7, zi y8, zi y9, zi y10, zi y11, zl y12]))) : zCj zX0_wearInAll fr 0 0 [zr a] M (fun x M' => M' = M ∧ x = 100 * y2.toInt64) := by
  refine z_enter (L := [some (zr a)]) rfl (by decide +kernel) (Nat.le_of_ble_eq_true rfl) ?_
  refine z_cl iX0_wearInAll_0 ?_
  refine z_al iX0_wearInAll_3 rfl ?_
  refine z_gf iX0_wearInAll_4 hthis rfl ?_
  refine z_i2l iX0_wearInAll_7 ?_
  refine z_lmul iX0_wearInAll_8 ?_
  refine z_lret iX0_wearInAll_9 rfl ?_
  exact ⟨_, rfl, rfl, rfl⟩
set_option maxRecDepth 20000 in
set_option maxHeartbeats 4000000 in
theorem px_used {TR : zTR} {JR : zJR} {fr : Nat} {M : zM} {I : zSI} {A : zSA} {L : zSL} (hf : 4 ≤ fr) (hX : RepX TR JR M I A L) (hV : Val I A L) (e w : Int32) : zCj zX10_used fr 0 0 [zr (2, 0), zi e, zi w] M (fun x M' => M' = M ∧ x = sp_used I A L e w) := by
  refine z_enter (L := [some (zr (2, 0)), some (zi e), some (zi w)]) rfl (by decide +kernel) (Nat.le_of_ble_eq_true rfl) ?_
  refine z_al iX10_used_0 rfl ?_
  refine z_il iX10_used_1 rfl ?_
  refine z_cv1a (fr' := fr - 1) iX10_used_2 zmX10_edgeOf hX.1.1 (c10_edgeOf (by omega) hX hV _) (by omega) (Nat.le_of_ble_eq_true rfl) (fun x M1 hq => ?_)
  obtain ⟨rfl, rfl⟩ := hq
  refine z_as iX10_used_5 ?_
  refine z_alo iX10_used_6 rfl ?_
  refine z_ifnull iX10_used_7 (fun h1 => ?_) (fun x1 h1 => ?_)
  · refine z_cl iX10_used_19 ?_
    refine z_lret iX10_used_22 rfl ?_
    first | exact ⟨_, rfl, rfl, (if_pos (Or.inl (xo_n h1))).symm⟩ | exact ⟨_, rfl, rfl, (if_pos (Or.inr h2)).symm⟩
  · rw [h1]
    obtain ⟨qh1, rfl⟩ := xo_s h1
    have hedge := (hX.2.1.1 _ (zIdx qh1 hV.1.1 (by decide)).2.1).1
    refine z_il iX10_used_10 rfl ?_
    refine z_co iX10_used_11 ?_
    refine z_co iX10_used_12 ?_
    refine z_cs3i (fr' := fr - 1) iX10_used_13 zmX10_within (c10_within _ _ _) (by omega) (Nat.le_of_ble_eq_true rfl) (fun x M1 hq => ?_)
    obtain ⟨rfl, rfl⟩ := hq
    refine z_ib_ne iX10_used_16 (fun h2 => ?_) (fun h2 => ?_)
    · refine z_al iX10_used_23 rfl ?_
      refine z_gf iX10_used_24 hedge rfl ?_
      refine z_al iX10_used_27 rfl ?_
      refine z_cv0j (fr' := fr - 1) iX10_used_28 zmX0_wearInAll hedge (c0_inAll hedge) (by omega) (Nat.le_of_ble_eq_true rfl) (fun x M1 hq => ?_)
      obtain ⟨rfl, rfl⟩ := hq
      rw [(zUs hV (zIdx qh1 hV.1.1 (by decide)).2.1).1, (zUs hV (zIdx qh1 hV.1.1 (by decide)).2.1).2.2.1]
      refine z_cs2j (fr' := fr - 1) iX10_used_31 zmX10_commonDivisor (c10_gcd (zUs hV (zIdx qh1 hV.1.1 (by decide)).2.1).2.1 (zUs hV (zIdx qh1 hV.1.1 (by decide)).2.1).2.2.2.1 (zUs hV (zIdx qh1 hV.1.1 (by decide)).2.1).2.2.2.2) (by omega) (Nat.le_of_ble_eq_true rfl) (fun x M1 hq => ?_)
      obtain ⟨rfl, rfl⟩ := hq
      refine z_ls iX10_used_34 ?_
      refine z_il iX10_used_36 rfl ?_
      refine z_if_ne iX10_used_37 (fun h3 => ?_) (fun h3 => ?_)
      · refine z_al iX10_used_47 rfl ?_
        refine z_cv0j (fr' := fr - 1) iX10_used_48 zmX0_wearInAll hedge (c0_inAll hedge) (by omega) (Nat.le_of_ble_eq_true rfl) (fun x M1 hq => ?_)
        obtain ⟨rfl, rfl⟩ := hq
        refine z_ll iX10_used_51 rfl ?_
        refine z_ldiv iX10_used_53 (zUg hV (zIdx qh1 hV.1.1 (by decide)).2.1) ?_
        refine z_lret iX10_used_54 rfl ?_
        refine ⟨_, rfl, rfl, ?_⟩
        unfold sp_used
        rw [if_neg (fun q => q.elim (fun z => z qh1) (fun z => z h2))]
        first | (rw [if_neg h3]) | (rw [if_pos h3])
      · refine z_al iX10_used_40 rfl ?_
        refine z_gf iX10_used_41 hedge rfl ?_
        refine z_goto iX10_used_44 ?_
        refine z_ll iX10_used_51 rfl ?_
        refine z_ldiv iX10_used_53 (zUg hV (zIdx qh1 hV.1.1 (by decide)).2.1) ?_
        refine z_lret iX10_used_54 rfl ?_
        refine ⟨_, rfl, rfl, ?_⟩
        unfold sp_used
        rw [if_neg (fun q => q.elim (fun z => z qh1) (fun z => z h2))]
        first | (rw [if_neg h3]) | (rw [if_pos h3])
    · refine z_cl iX10_used_19 ?_
      refine z_lret iX10_used_22 rfl ?_
      first | exact ⟨_, rfl, rfl, (if_pos (Or.inl (xo_n h1))).symm⟩ | exact ⟨_, rfl, rfl, (if_pos (Or.inr h2)).symm⟩
set_option maxRecDepth 20000 in
set_option maxHeartbeats 4000000 in
theorem pm_used {fr : Nat} {M : zM} {I J : zSI} {A : zSA} {L : zSL} {K : Int64} (hf : 4 ≤ fr) (hR : RepM M I A L J K) (hV : Val I A L) (e w : Int32) : zCj zX11_used fr 0 0 [zr (40, 0), zi e, zi w] M (fun x M' => M' = M ∧ x = sp_used I A L e w) := by
  refine z_enter (L := [some (zr (40, 0)), some (zi e), some (zi w)]) rfl (by decide +kernel) (Nat.le_of_ble_eq_true rfl) ?_
  refine z_al iX11_used_0 rfl ?_
  refine z_il iX11_used_1 rfl ?_
  refine z_cv1i (fr' := fr - 1) iX11_used_2 zmX11_isEdge hR.1 (c11_isEdge (by omega) hR _) (by omega) (Nat.le_of_ble_eq_true rfl) (fun x M1 hq => ?_)
  obtain ⟨rfl, rfl⟩ := hq
  refine z_ib_eq iX11_used_5 (fun h1 => ?_) (fun h1 => ?_)
  · refine z_cl iX11_used_17 ?_
    refine z_lret iX11_used_20 rfl ?_
    first | exact ⟨_, rfl, rfl, (if_pos (Or.inl h1)).symm⟩ | exact ⟨_, rfl, rfl, (if_pos (Or.inr h2)).symm⟩
  · refine z_il iX11_used_8 rfl ?_
    refine z_co iX11_used_9 ?_
    refine z_co iX11_used_10 ?_
    refine z_cs3i (fr' := fr - 1) iX11_used_11 zmX11_in (c11_in _ _ _) (by omega) (Nat.le_of_ble_eq_true rfl) (fun x M1 hq => ?_)
    obtain ⟨rfl, rfl⟩ := hq
    refine z_ib_ne iX11_used_14 (fun h2 => ?_) (fun h2 => ?_)
    · refine z_cl iX11_used_21 ?_
      refine z_al iX11_used_24 rfl ?_
      refine z_gf iX11_used_25 hR.1 rfl ?_
      refine z_il iX11_used_28 rfl ?_
      refine z_iald iX11_used_29 (hR.2.1 4 (by decide)) (zIdx h1 hV.1.1 (by decide)).1 (zLt (zIdx h1 hV.1.1 (by decide)).2.2) ?_
      refine z_i2l iX11_used_30 ?_
      refine z_lmul iX11_used_31 ?_
      refine z_ls iX11_used_32 ?_
      refine z_al iX11_used_33 rfl ?_
      refine z_gf iX11_used_34 hR.1 rfl ?_
      refine z_il iX11_used_37 rfl ?_
      refine z_lald iX11_used_38 hR.2.2 (zIdx h1 hV.1.1 (by decide)).1 (zLt (zIdx h1 hV.1.1 (by decide)).2.2) ?_
      refine z_ll iX11_used_39 rfl ?_
      rw [show L e.toInt.toNat = n64 _ from (zUs hV (zIdx h1 hV.1.1 (by decide)).2.1).1, show 100 * (A 4 e.toInt.toNat).toInt64 = n64 _ from (zUs hV (zIdx h1 hV.1.1 (by decide)).2.1).2.2.1]
      refine z_cs2j (fr' := fr - 1) iX11_used_40 zmX11_divisor (c11_gcd (zUs hV (zIdx h1 hV.1.1 (by decide)).2.1).2.1 (zUs hV (zIdx h1 hV.1.1 (by decide)).2.1).2.2.2.1) (by omega) (Nat.le_of_ble_eq_true rfl) (fun x M1 hq => ?_)
      obtain ⟨rfl, rfl⟩ := hq
      refine z_ls iX11_used_43 ?_
      refine z_il iX11_used_45 rfl ?_
      refine z_if_ne iX11_used_46 (fun h3 => ?_) (fun h3 => ?_)
      · refine z_ll iX11_used_61 rfl ?_
        refine z_ll iX11_used_62 rfl ?_
        refine z_ldiv iX11_used_64 (zUg hV (zIdx h1 hV.1.1 (by decide)).2.1) ?_
        refine z_lret iX11_used_65 rfl ?_
        refine ⟨_, rfl, rfl, ?_⟩
        unfold sp_used
        rw [if_neg (fun q => q.elim (fun z => z h1) (fun z => z h2))]
        first | (rw [if_neg h3, (zUs hV (zIdx h1 hV.1.1 (by decide)).2.1).2.2.1]) | (rw [if_pos h3])
      · refine z_al iX11_used_49 rfl ?_
        refine z_gf iX11_used_50 hR.1 rfl ?_
        refine z_il iX11_used_53 rfl ?_
        refine z_lald iX11_used_54 hR.2.2 (zIdx h1 hV.1.1 (by decide)).1 (zLt (zIdx h1 hV.1.1 (by decide)).2.2) ?_
        refine z_ll iX11_used_55 rfl ?_
        refine z_ldiv iX11_used_57 (zUg hV (zIdx h1 hV.1.1 (by decide)).2.1) ?_
        refine z_goto iX11_used_58 ?_
        refine z_lret iX11_used_65 rfl ?_
        refine ⟨_, rfl, rfl, ?_⟩
        unfold sp_used
        rw [if_neg (fun q => q.elim (fun z => z h1) (fun z => z h2))]
        first | (rw [if_neg h3, (zUs hV (zIdx h1 hV.1.1 (by decide)).2.1).2.2.1]) | (rw [if_pos h3])
    · refine z_cl iX11_used_17 ?_
      refine z_lret iX11_used_20 rfl ?_
      first | exact ⟨_, rfl, rfl, (if_pos (Or.inl h1)).symm⟩ | exact ⟨_, rfl, rfl, (if_pos (Or.inr h2)).symm⟩
theorem zPJ_of {TR : zTR} {JR : zJR} {Yx Ym : zY} {as : List zVal} (sp : zSI → zSA → zSL → Int64)
    (hx : ∀ (fr : Nat) (M : zM) (I : zSI) (A : zSA) (L : zSL), 200 ≤ fr → RepX TR JR M I A L → Val I A L → zCj Yx fr 0 0 (zr (2, 0) :: as) M (fun x M' => M' = M ∧ x = sp I A L))
    (hm : ∀ (fr : Nat) (M : zM) (I J : zSI) (A : zSA) (L : zSL) (K : Int64), 200 ≤ fr → RepM M I A L J K → Val I A L → zCj Ym fr 0 0 (zr (40, 0) :: as) M (fun x M' => M' = M ∧ x = sp I A L)) : zPJ (zInv TR JR) Yx Ym 0 0 as := by
  intro fr M hf ⟨I, A, L, J, K, hV, hX, hM⟩
  refine ⟨⟨_, hX.1.1⟩, (hx fr M I A L hf hX hV).mono fun x M1 ⟨e0, e1⟩ => ?_⟩
  subst e0
  refine ⟨fun a ha => rfl, ⟨_, hM.1⟩, (hm fr M1 I J A L K hf hM hV).mono fun x2 M2 ⟨e2, e3⟩ => ?_⟩
  subst e2
  exact ⟨e3.trans e1.symm, fun a ha => rfl, I, A, L, J, K, hV, hX, hM⟩
theorem zp_used {TR : zTR} {JR : zJR} (e w : Int32) : zPJ (zInv TR JR) zX10_used zX11_used 0 0 [zi e, zi w] :=
  zPJ_of (fun I A L => sp_used I A L e w) (fun _ _ _ _ _ hf hX hV => px_used (by omega) hX hV e w) (fun _ _ _ _ _ _ _ hf hR hV => pm_used (by omega) hR hV e w)
