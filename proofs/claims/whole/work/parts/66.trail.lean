theorem zp_put {JR : zJR} (m t p : Int32) : zPI (zInv TRc JR) zX10_put zX11_put 0 0 [zi m, zi t, zi p] :=
  zPI_ofE (fun I A L => sp_put I A L m t p) (fun _ _ _ _ _ hf hX hV => px_put (by omega) hX hV m t p) (fun _ _ _ _ _ _ _ hf hR hV hE => pm_put (by omega) hR hV hE m t p) (fun I A L hV hE => by
    show Val (sp_put I A L m t p).2.1 (sp_put I A L m t p).2.2.1 (sp_put I A L m t p).2.2.2
    unfold sp_put
    generalize sVal I A (zN t) 2 = sv
    by_cases c1 : ¬ zBw m 0 (I 8 - 1) ∨ ¬ zBw t 0 (I 1 - 1) ∨ ¬ (0 ≤ p.toInt ∧ p.toInt < (A 23 (zN m)).toInt)
    · rw [if_pos c1]; exact hV
    · rw [if_neg c1]
      have d1 : zBw m 0 (I 8 - 1) := Decidable.of_not_not fun z => c1 (Or.inl z)
      have d2 : zBw t 0 (I 1 - 1) := Decidable.of_not_not fun z => c1 (Or.inr (Or.inl z))
      have d3 : 0 ≤ p.toInt ∧ p.toInt < (A 23 (zN m)).toInt := Decidable.of_not_not fun z => c1 (Or.inr (Or.inr z))
      by_cases c2 : ¬ A 17 (zN t) = -1 ∨ ¬ zFree A (zN m) (zN t) (zN p)
      · rw [if_pos c2]; exact hV
      · rw [if_neg c2]
        by_cases c3 : sv = 0
        · rw [if_pos c3]; exact hV
        · rw [if_neg c3]
          have d4 : zFree A (zN m) (zN t) (zN p) := Decidable.of_not_not fun z => c2 (Or.inr z)
          have k2 := zM3 hV d1
          have k3 := zP16 hV d1 d3
          have k4 := zW3 hV d2
          have k7 := zPl hV d1
          have k6 := k7.2
          have k8 := d4.1
          have e1 : zN (A 23 (zN m)) = (A 23 (zN m)).toInt.toNat := rfl
          obtain ⟨h1, h2, h3, h4, h5, h6, h7, h8⟩ := hV
          have r : ∀ k, k ≠ 24 → k ≠ 17 → k ≠ 18 → sA_put A m t p k = A k := fun k a b c => by
            unfold sA_put
            rw [zA2_row c, zA2_row b, zup_n a]
          have cc : ∀ k j, k ≠ 24 → j ≠ zN t → sA_put A m t p k j = A k j := fun k j a b => by
            unfold sA_put
            rw [zA2_col b, zA2_col b, zup_n a]
          show Val I (sA_put A m t p) L
          refine ⟨h1, ?_, fun u hu => ?_, ?_, ?_, ?_, ?_, fun q g1 g2 => ?_⟩
          · rw [r 0 (by decide) (by decide) (by decide), r 4 (by decide) (by decide) (by decide), r 5 (by decide) (by decide) (by decide), r 11 (by decide) (by decide) (by decide)]; exact h2
          · rw [r 13 (by decide) (by decide) (by decide), r 14 (by decide) (by decide) (by decide), r 23 (by decide) (by decide) (by decide)]
            by_cases z : u = zN t
            · have a17 : sA_put A m t p 17 u = m := by simp [sA_put, zA2, zup, z]
              have a18 : sA_put A m t p 18 u = p := by simp [sA_put, zA2, zup, z]
              rw [a17, a18]
              have g3 := h3 u hu
              refine ⟨g3.1, g3.2.1, ⟨by omega, by omega⟩, fun _ => ⟨d3.1, ?_⟩⟩
              rw [z]
              show p.toInt + (A 14 (zN t)).toInt ≤ (A 23 (zN m)).toInt
              omega
            · rw [cc 17 u (by decide) z, cc 18 u (by decide) z]
              exact h3 u hu
          · rw [r 23 (by decide) (by decide) (by decide), r 22 (by decide) (by decide) (by decide)]; exact h4
          · rw [r 20 (by decide) (by decide) (by decide)]; exact h5
          · rw [r 25 (by decide) (by decide) (by decide)]; exact h6
          · rw [r 26 (by decide) (by decide) (by decide), r 27 (by decide) (by decide) (by decide), r 28 (by decide) (by decide) (by decide)]; exact h7
          · have a24 : sA_put A m t p 24 = zFill (A 24) (16 * zN m + zN p) (zN (A 14 (zN t))) t := by simp [sA_put, zA2, zup]
            rw [a24, zFill_n (by omega)]
            exact h8 q g1 g2)
/-- a trail goes on -/
def goT (f : Nat → Int32) (n : Nat) (m : Int32) : Nat → Int32 := if 0 < n ∧ f (n - 1) = m then f else if n = 8 then (fun j => if j < 7 then f (j + 1) else if j = 7 then m else f j) else zup f n m
def goN (f : Nat → Int32) (n : Nat) (m : Int32) : Nat := if 0 < n ∧ f (n - 1) = m then n else if n = 8 then 8 else n + 1
def goR (a : Nat → Int32) (e n : Nat) (m : Int32) : Nat → Int32 := if 0 < n ∧ a (8 * e + (n - 1)) = m then a else if n = 8 then (fun j => if 8 * e ≤ j ∧ j < 8 * e + 7 then a (j + 1) else if j = 8 * e + 7 then m else a j) else zup a (8 * e + n) m
theorem goN_c {f g : Nat → Int32} {n : Nat} {m : Int32} (h : ∀ j, j < n → f j = g j) : goN f n m = goN g n m := by
  unfold goN
  by_cases c : 0 < n ∧ f (n - 1) = m
  · rw [if_pos c, if_pos ⟨c.1, by have c1 := c.1; rw [← h _ (by omega)]; exact c.2⟩]
  · rw [if_neg c, if_neg (fun q : 0 < n ∧ g (n - 1) = m => c ⟨q.1, by have q1 := q.1; rw [h _ (by omega)]; exact q.2⟩)]
theorem goN_8 {f : Nat → Int32} {n : Nat} {m : Int32} (h : n ≤ 8) : goN f n m ≤ 8 := by
  unfold goN
  split
  · exact h
  · split <;> omega
theorem goT_R {f a : Nat → Int32} {e n : Nat} {m : Int32} (hn : n ≤ 8) (h : ∀ j, j < n → f j = a (8 * e + j)) : ∀ j, j < goN f n m → goT f n m j = goR a e n m (8 * e + j) := by
  intro j hj
  unfold goN at hj
  unfold goT goR
  by_cases c : 0 < n ∧ f (n - 1) = m
  · rw [if_pos c] at hj ⊢
    rw [if_pos ⟨c.1, by have c1 := c.1; rw [← h _ (by omega)]; exact c.2⟩]
    exact h j hj
  · rw [if_neg c] at hj ⊢
    rw [if_neg (fun q : 0 < n ∧ a (8 * e + (n - 1)) = m => c ⟨q.1, by have q1 := q.1; rw [h _ (by omega)]; exact q.2⟩)]
    by_cases c2 : n = 8
    · rw [if_pos c2] at hj ⊢
      rw [if_pos c2]
      show (if j < 7 then f (j + 1) else if j = 7 then m else f j) = if 8 * e ≤ 8 * e + j ∧ 8 * e + j < 8 * e + 7 then a (8 * e + j + 1) else if 8 * e + j = 8 * e + 7 then m else a (8 * e + j)
      by_cases c3 : j < 7
      · rw [if_pos c3, if_pos (by omega), h _ (by omega), Nat.add_assoc]
      · exact ((if_neg c3).trans (if_pos (by omega))).trans ((if_neg (by omega)).trans (if_pos (by omega))).symm
    · rw [if_neg c2] at hj ⊢
      rw [if_neg c2]
      by_cases c3 : j = n
      · rw [c3, zup_s, zup_s]
      · rw [zup_n c3, zup_n (by omega)]
        exact h j (by omega)
theorem goR_n {a : Nat → Int32} {e n j : Nat} {m : Int32} (hn : n ≤ 8) (h : j < 8 * e ∨ 8 * e + 8 ≤ j) : goR a e n m j = a j := by
  unfold goR
  split
  · rfl
  · split
    · show (if 8 * e ≤ j ∧ j < 8 * e + 7 then a (j + 1) else if j = 8 * e + 7 then m else a j) = a j
      rw [if_neg (by omega), if_neg (by omega)]
    · exact zup_n (by omega)
/-- the first places moved down, up to i -/
def shF (f : Nat → Int32) (i : Nat) : Nat → Int32 := fun j => if j + 1 < i then f (j + 1) else f j
theorem shF_1 {f : Nat → Int32} {i : Nat} (hi : 1 ≤ i) : zup (shF f i) (i - 1) (shF f i i) = shF f (i + 1) := by
  funext j
  unfold zup shF
  by_cases z : j = i - 1
  · rw [if_pos z, if_neg (by omega), if_pos (by omega), show j + 1 = i by omega]
  · rw [if_neg z]
    by_cases z2 : j + 1 < i
    · rw [if_pos z2, if_pos (by omega)]
    · rw [if_neg z2, if_neg (by omega)]
theorem shF_0 {f : Nat → Int32} : shF f 1 = f := funext fun j => if_neg (by omega)
set_option maxRecDepth 20000 in
set_option maxHeartbeats 4000000 in
theorem l0_follow {fr : Nat} {M : zM} {e : Nat} {y0 y1 y2 y4 y5 y6 y7 y8 y9 y10 y11 m : Int32} {y12 : Int64} {f : Nat → Int32} {Q : Option zVal → zM → Prop} (hedge : M (28, e) = some (.inr (0, [zi y0, zi y1, zi y2, zr (29, e), zi y4, zi y5, zi y6, zi y7, zi y8, zi y9, zi y10, zi y11, zl y12]))) (htr : M (29, e) = some (.inl (0, 8, .inl f))) (KK : zV zX0_follow fr 0 0 52 (zL [some (zr (28, e)), some (zi m)]) [] (zupd M (29, e) (.inl (0, 8, .inl (shF f 8)))) Q)  : ∀ (n i : Nat), i + n = 8 → 1 ≤ i → zV zX0_follow fr 0 0 26 (zL [some (zr (28, e)), some (zi m), some (zi (nI i))]) [] (zupd M (29, e) (.inl (0, 8, .inl (shF f i)))) Q := by
  intro n
  induction n with
  | zero =>
    intro i  hn hi1
    refine z_il iX0_follow_26 rfl ?_
    refine z_co iX0_follow_27 ?_
    refine z_icmp_ge iX0_follow_29 (fun h1 => ?_) (fun h1 => ?_)
    · have hi : i = 8 := by omega
      subst hi
      refine z_loc [some (zr (28, e)), some (zi m)] ⟨rfl, rfl, trivial⟩ KK
    · exfalso
      have e1 := nI_toInt (n := i) (by omega)
      simp only [zi_le, Int32.reduceToInt, e1] at h1
      omega
  | succ n ih =>
    intro i  hn hi1
    refine z_il iX0_follow_26 rfl ?_
    refine z_co iX0_follow_27 ?_
    refine z_icmp_ge iX0_follow_29 (fun h1 => ?_) (fun h1 => ?_)
    · exfalso
      have e1 := nI_toInt (n := i) (by omega)
      simp only [zi_le, Int32.reduceToInt, e1] at h1
      omega
    · refine z_al iX0_follow_32 rfl ?_
      refine z_gf iX0_follow_33 ((zupd_k (Nat.ne_of_beq_eq_false rfl)).trans hedge) rfl ?_
      refine z_il iX0_follow_36 rfl ?_
      refine z_co iX0_follow_37 ?_
      refine z_isub iX0_follow_38 ?_
      refine z_al iX0_follow_39 rfl ?_
      refine z_gf iX0_follow_40 ((zupd_k (Nat.ne_of_beq_eq_false rfl)).trans hedge) rfl ?_
      refine z_il iX0_follow_43 rfl ?_
      refine z_iald iX0_follow_44 zupd_s (nI_toInt (n := i) (by omega)) (show i < 8 by omega) ?_
      refine z_iast2 iX0_follow_45 (show 2 ≤ 29 by decide) (show (nI i - 1).toInt = ((i - 1 : Nat) : Int) by have e1 := nI_toInt (n := i) (by omega); rw [zsub (by simp only [Int32.reduceToInt]; omega) (by simp only [Int32.reduceToInt]; omega)]; simp only [Int32.reduceToInt]; omega) (show i - 1 < 8 by omega) ?_
      refine z_in iX0_follow_46 rfl ?_
      refine z_goto iX0_follow_49 ?_
      rw [shF_1 hi1]
      refine z_loc [some (zr (28, e)), some (zi m), some (zi (nI (i + 1)))] ⟨rfl, rfl, ?_, trivial⟩ (ih (i + 1) (by omega) (by omega))
      show some (zi (nI i + 1)) = _
      rw [nI_1]
set_option maxRecDepth 20000 in
set_option maxHeartbeats 4000000 in
theorem t0_follow {fr : Nat} {M : zM} {e : Nat} {y0 y1 y2 y5 y6 y7 y8 y9 y10 y11 m : Int32} {y12 : Int64} {f : Nat → Int32} {n : Nat} (hedge : M (28, e) = some (.inr (0, [zi y0, zi y1, zi y2, zr (29, e), zi (nI n), zi y5, zi y6, zi y7, zi y8, zi y9, zi y10, zi y11, zl y12]))) (hn8 : n = 8) (hcc : ¬ (0 < n ∧ f (n - 1) = m)) : zV zX0_follow fr 0 0 52 (zL [some (zr (28, e)), some (zi m)]) [] (zupd M (29, e) (.inl (0, 8, .inl (shF f 8)))) (fun r M' => r = none ∧ (M' (28, e) = some (.inr (0, [zi y0, zi y1, zi y2, zr (29, e), zi (nI (goN f n m)), zi y5, zi y6, zi y7, zi y8, zi y9, zi y10, zi y11, zl y12])) ∧ M' (29, e) = some (.inl (0, 8, .inl (goT f n m))) ∧ ∀ a : zAd, a ≠ (28, e) → a ≠ (29, e) → M' a = M a)) := by
  refine z_al iX0_follow_52 rfl ?_
  refine z_co iX0_follow_53 ?_
  refine z_pf iX0_follow_55 ((zupd_k (Nat.ne_of_beq_eq_false rfl)).trans hedge) (show 2 ≤ 28 by decide) (Nat.le_of_ble_eq_true rfl) trivial ?_
  refine z_al iX0_follow_58 rfl ?_
  refine z_gf iX0_follow_59 zupd_s rfl ?_
  refine z_al iX0_follow_62 rfl ?_
  refine z_gf iX0_follow_63 zupd_s rfl ?_
  refine z_il iX0_follow_66 rfl ?_
  refine z_iast iX0_follow_67 ((zupd_k (Nat.ne_of_beq_eq_false rfl)).trans zupd_s) (show 2 ≤ 29 by decide) (by decide : (7 : Int32).toInt = ((7 : Nat) : Int)) (by decide : 7 < 8) ?_
  refine z_al iX0_follow_68 rfl ?_
  refine z_dup iX0_follow_69 ?_
  refine z_gf iX0_follow_70 ((zupd_k (Nat.ne_of_beq_eq_false rfl)).trans zupd_s) rfl ?_
  refine z_co iX0_follow_73 ?_
  refine z_iadd iX0_follow_74 ?_
  refine z_pf iX0_follow_75 ((zupd_k (Nat.ne_of_beq_eq_false rfl)).trans zupd_s) (show 2 ≤ 28 by decide) (Nat.le_of_ble_eq_true rfl) trivial ?_
  refine z_vret iX0_follow_78 rfl ?_
  refine ⟨rfl, ?_, ?_, fun a a1 a2 => (zupd_n a1).trans ((zupd_n a2).trans ((zupd_n a1).trans (zupd_n a2)))⟩
  · rw [zupd_s, show goN f n m = 8 by unfold goN; rw [if_neg hcc, if_pos hn8]]
    rfl
  · rw [zupd_k (show (29 : Nat) ≠ 28 by decide), zupd_s, show goT f n m = (fun j => if j < 7 then f (j + 1) else if j = 7 then m else f j) by unfold goT; rw [if_neg hcc, if_pos hn8]]
    refine congrArg (fun w : Nat → Int32 => (some (Sum.inl (0, 8, Sum.inl w)) : Option zE)) (funext fun j => ?_)
    unfold zup shF
    by_cases z : j = 7
    · rw [if_pos z, if_neg (by omega), if_pos z]
    · rw [if_neg z]
      by_cases z2 : j < 7
      · rw [if_pos z2, if_pos (by omega)]
      · rw [if_neg z2, if_neg (by omega), if_neg z]
set_option maxRecDepth 20000 in
set_option maxHeartbeats 4000000 in
theorem c0_follow {fr : Nat} {M : zM} {e : Nat} {y0 y1 y2 y5 y6 y7 y8 y9 y10 y11 m : Int32} {y12 : Int64} {f : Nat → Int32} {n : Nat} (hf : 1 ≤ fr) (hn : n ≤ 8) (hm0 : 0 ≤ m) (hedge : M (28, e) = some (.inr (0, [zi y0, zi y1, zi y2, zr (29, e), zi (nI n), zi y5, zi y6, zi y7, zi y8, zi y9, zi y10, zi y11, zl y12]))) (htr : M (29, e) = some (.inl (0, 8, .inl f))) : zCv zX0_follow fr 0 0 [zr (28, e), zi m] M (fun M' => M' (28, e) = some (.inr (0, [zi y0, zi y1, zi y2, zr (29, e), zi (nI (goN f n m)), zi y5, zi y6, zi y7, zi y8, zi y9, zi y10, zi y11, zl y12])) ∧ M' (29, e) = some (.inl (0, 8, .inl (goT f n m))) ∧ ∀ a : zAd, a ≠ (28, e) → a ≠ (29, e) → M' a = M a) := by
  refine z_enter (L := [some (zr (28, e)), some (zi m)]) rfl (by decide +kernel) (Nat.le_of_ble_eq_true rfl) ?_
  have en := nI_toInt (n := n) (by omega)
  have hy : zRg (nI n) 0 8 := ⟨by omega, by omega⟩
  refine z_al iX0_follow_0 rfl ?_
  refine z_al iX0_follow_1 rfl ?_
  refine z_gf iX0_follow_2 hedge rfl ?_
  refine z_co iX0_follow_5 ?_
  refine z_isub iX0_follow_6 ?_
  refine z_cv1i (fr' := fr - 1) iX0_follow_7 zmX0_trailAt hedge (c0_trailAt hy hedge htr _) (by omega) (Nat.le_of_ble_eq_true rfl) (fun x M1 hq => ?_)
  obtain ⟨rfl, hxe⟩ := hq
  have hxv : x = if 0 < n then f (n - 1) else -1 := by
    by_cases z : 0 < n
    · have e1 : nI n - 1 = nI (n - 1) := by rw [show n = (n - 1) + 1 by omega, nI_succ]; simp
      have e2 := nI_toInt (n := n - 1) (by omega)
      have e0 : zN (nI (n - 1)) = (nI (n - 1)).toInt.toNat := rfl
      rw [if_pos z, hxe, e1, if_pos ⟨zi_le.mpr (by rw [e2]; simp only [Int32.reduceToInt]; omega), zi_le.mpr (Int.le_refl _)⟩, show zN (nI (n - 1)) = n - 1 by omega]
    · rw [if_neg z, hxe, show n = 0 by omega, if_neg (fun q => absurd q.1 (by decide))]
  refine z_il iX0_follow_10 rfl ?_
  refine z_icmp_ne iX0_follow_11 (fun h1 => ?_) (fun h1 => ?_)
  · refine z_al iX0_follow_15 rfl ?_
    refine z_gf iX0_follow_16 hedge rfl ?_
    refine z_co iX0_follow_19 ?_
    refine z_icmp_lt iX0_follow_21 (fun h2 => ?_) (fun h2 => ?_)
    · refine z_al iX0_follow_58 rfl ?_
      refine z_gf iX0_follow_59 hedge rfl ?_
      refine z_al iX0_follow_62 rfl ?_
      refine z_gf iX0_follow_63 hedge rfl ?_
      refine z_il iX0_follow_66 rfl ?_
      refine z_iast iX0_follow_67 htr (show 2 ≤ 29 by decide) en (show n < 8 by simp only [zi_lt, Int32.reduceToInt, en] at h2; omega) ?_
      refine z_al iX0_follow_68 rfl ?_
      refine z_dup iX0_follow_69 ?_
      refine z_gf iX0_follow_70 ((zupd_k (Nat.ne_of_beq_eq_false rfl)).trans hedge) rfl ?_
      refine z_co iX0_follow_73 ?_
      refine z_iadd iX0_follow_74 ?_
      refine z_pf iX0_follow_75 ((zupd_k (Nat.ne_of_beq_eq_false rfl)).trans hedge) (show 2 ≤ 28 by decide) (Nat.le_of_ble_eq_true rfl) trivial ?_
      refine z_vret iX0_follow_78 rfl ?_
      have hcc : ¬ (0 < n ∧ f (n - 1) = m) := fun q => h1 (by rw [hxv, if_pos q.1]; exact q.2)
      have hn8 : ¬ n = 8 := by
        simp only [zi_lt, Int32.reduceToInt, en] at h2
        omega
      refine ⟨rfl, ?_, ?_, fun a a1 a2 => (zupd_n a1).trans (zupd_n a2)⟩
      · rw [zupd_s, show goN f n m = n + 1 by unfold goN; rw [if_neg hcc, if_neg hn8], nI_succ]
        rfl
      · rw [zupd_k (show (29 : Nat) ≠ 28 by decide), zupd_s, show goT f n m = zup f n m by unfold goT; rw [if_neg hcc, if_neg hn8]]
    · refine z_co iX0_follow_24 ?_
      refine z_is iX0_follow_25 ?_
      have hn8 : n = 8 := by
        simp only [zi_lt, Int32.reduceToInt, en] at h2
        omega
      refine z_loc [some (zr (28, e)), some (zi m), some (zi (nI 1))] ⟨rfl, rfl, rfl, trivial⟩ ?_
      have h9 := l0_follow (fr := fr) (m := m) hedge htr (Q := (fun r M' => r = none ∧ (M' (28, e) = some (.inr (0, [zi y0, zi y1, zi y2, zr (29, e), zi (nI (goN f n m)), zi y5, zi y6, zi y7, zi y8, zi y9, zi y10, zi y11, zl y12])) ∧ M' (29, e) = some (.inl (0, 8, .inl (goT f n m))) ∧ ∀ a : zAd, a ≠ (28, e) → a ≠ (29, e) → M' a = M1 a))) ?_ 7 1 (by decide) (by decide)
      · rw [shF_0, zupd_same htr] at h9
        exact h9
      · exact t0_follow hedge hn8 (fun q => h1 (by rw [hxv, if_pos q.1]; exact q.2))
  · refine z_vret iX0_follow_14 rfl ?_
    have hcc : 0 < n ∧ f (n - 1) = m := by
      rw [hxv] at h1
      by_cases z : 0 < n
      · rw [if_pos z] at h1; exact ⟨z, h1⟩
      · rw [if_neg z] at h1
        rw [← h1] at hm0
        exact absurd hm0 (by decide)
    refine ⟨rfl, ?_, ?_, fun _ _ _ => rfl⟩
    · rw [show goN f n m = n from if_pos hcc]; exact hedge
    · rw [show goT f n m = f from if_pos hcc]; exact htr
