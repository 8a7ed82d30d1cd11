set_option maxRecDepth 20000 in
set_option maxHeartbeats 4000000 in
theorem l11_up {fr : Nat} {M : zM} {I J : zSI} {A : zSA} {L : zSL} {K : Int64} (hR : RepM M I A L J K) {N : Nat} (hI9 : I 9 = nI N) (hN : N ≤ 6) {l : List Nat} (hl : rwR N (A 30) l) (KK : ∀ i, upI l (N - 1) = some i → i + 1 < N → zV zX11_goesUp fr 0 0 40 (zL [some (zr (40, 0)), some (zi (nI i))]) [] M (fun r M' => ∃ y, r = some (zi y) ∧ ∃ r2, M' = zupd M (41, 30) (.inl (0, 6, .inl r2)) ∧ (nxL N l = none ∧ y = 0 ∨ ∃ l2, nxL N l = some l2 ∧ y = 1 ∧ rwR N r2 l2)))  : ∀ (n i : Nat) (ii : Int32), i + n = N - 1 → upI l n = upI l (N - 1) → (n = 0 → ii.toInt < 0) → (0 < n → ii.toInt = (n : Int) - 1) → zV zX11_goesUp fr 0 0 7 (zL [some (zr (40, 0)), some (zi ii)]) [] M (fun r M' => ∃ y, r = some (zi y) ∧ ∃ r2, M' = zupd M (41, 30) (.inl (0, 6, .inl r2)) ∧ (nxL N l = none ∧ y = 0 ∨ ∃ l2, nxL N l = some l2 ∧ y = 1 ∧ rwR N r2 l2)) := by
  intro n
  induction n with
  | zero =>
    intro i ii hn hu hk0 hk1
    refine z_il iX11_goesUp_7 rfl ?_
    refine z_if_lt iX11_goesUp_8 (fun h1 => ?_) (fun h1 => ?_)
    · refine z_il iX11_goesUp_34 rfl ?_
      refine z_if_ge iX11_goesUp_35 (fun h2 => ?_) (fun h2 => ?_)
      · exfalso
        rw [zi_le] at h2
        simp only [Int32.reduceToInt] at h2
        omega
      · refine z_co iX11_goesUp_38 ?_
        refine z_zret iX11_goesUp_39 rfl rfl ?_
        refine ⟨_, rfl, A 30, (zupd_same (hR.2.1 30 (by decide))).symm, Or.inl ⟨?_, rfl⟩⟩
        unfold nxL
        rw [← hu]
        rfl
    · exfalso
      rw [zi_lt] at h1
      simp only [Int32.reduceToInt] at h1
      omega
  | succ n ih =>
    intro i ii hn hu hk0 hk1
    refine z_il iX11_goesUp_7 rfl ?_
    refine z_if_lt iX11_goesUp_8 (fun h1 => ?_) (fun h1 => ?_)
    · exfalso
      rw [zi_lt] at h1
      simp only [Int32.reduceToInt] at h1
      omega
    · have ri := hl.2.2 n (by omega)
      have rj := hl.2.2 (n + 1) (by omega)
      have li := hl.2.1 n (by omega)
      have lj := hl.2.1 (n + 1) (by omega)
      have ti := nI_toInt (n := l.getD n 0) (by omega)
      have tj := nI_toInt (n := l.getD (n + 1) 0) (by omega)
      refine z_al iX11_goesUp_11 rfl ?_
      refine z_gf iX11_goesUp_12 hR.1 rfl ?_
      refine z_il iX11_goesUp_15 rfl ?_
      refine z_iald iX11_goesUp_16 (hR.2.1 30 (by decide)) (show ii.toInt = (n : Int) by omega) (show n < 6 by omega) ?_
      refine z_al iX11_goesUp_17 rfl ?_
      refine z_gf iX11_goesUp_18 hR.1 rfl ?_
      refine z_il iX11_goesUp_21 rfl ?_
      refine z_co iX11_goesUp_22 ?_
      refine z_iadd iX11_goesUp_23 ?_
      refine z_iald iX11_goesUp_24 (hR.2.1 30 (by decide)) (show (ii + 1).toInt = ((n + 1 : Nat) : Int) by rw [zadd (by simp only [Int32.reduceToInt]; omega) (by simp only [Int32.reduceToInt]; omega)]; simp only [Int32.reduceToInt]; omega) (show n + 1 < 6 by omega) ?_
      refine z_icmp_le iX11_goesUp_25 (fun h2 => ?_) (fun h2 => ?_)
      · have hz : ¬ l.getD (n + 1) 0 < l.getD n 0 := by
          rw [ri, rj, zi_le, ti, tj] at h2
          omega
        have eu : upI l (n + 1) = some n := if_neg hz
        refine z_il iX11_goesUp_34 rfl ?_
        refine z_if_ge iX11_goesUp_35 (fun h3 => ?_) (fun h3 => ?_)
        · refine z_loc [some (zr (40, 0)), some (zi (nI n))] ⟨rfl, ?_, trivial⟩ (KK n (hu ▸ eu) (by omega))
          show some (zi ii) = _
          rw [show ii = nI n from Int32.toInt_inj.mp (by rw [nI_toInt (by omega)]; omega)]
        · exfalso
          rw [zi_le] at h3
          simp only [Int32.reduceToInt] at h3
          omega
      · refine z_in iX11_goesUp_28 rfl ?_
        refine z_goto iX11_goesUp_31 ?_
        have hz : l.getD (n + 1) 0 < l.getD n 0 := by
          rw [ri, rj, zi_le, ti, tj] at h2
          omega
        have eu : upI l (n + 1) = upI l n := if_pos hz
        refine z_loc [some (zr (40, 0)), some (zi (ii + -1))] ⟨rfl, rfl, trivial⟩ (ih (i + 1) (ii + -1) (by omega) (by rw [← eu]; exact hu) ?_ ?_)
        · intro q
          rw [zadd (by simp only [Int32.reduceToInt]; omega) (by simp only [Int32.reduceToInt]; omega)]
          simp only [Int32.reduceToInt]
          omega
        · intro q
          rw [zadd (by simp only [Int32.reduceToInt]; omega) (by simp only [Int32.reduceToInt]; omega)]
          simp only [Int32.reduceToInt]
          omega
set_option maxRecDepth 20000 in
set_option maxHeartbeats 4000000 in
theorem l11_upJ {fr : Nat} {M : zM} {Q : Option zVal → zM → Prop} {I J : zSI} {A : zSA} {L : zSL} {K : Int64} (hR : RepM M I A L J K) {N : Nat} (hI9 : I 9 = nI N) (hN : N ≤ 6) {l : List Nat} (hl : rwR N (A 30) l) {i : Nat} (hi : i + 1 < N) (hup : ¬ l.getD (i + 1) 0 < l.getD i 0) (KK : zV zX11_goesUp fr 0 0 68 (zL [some (zr (40, 0)), some (zi (nI i)), some (zi (nI (upJ l i (N - 1 - i))))]) [] M Q) : ∀ (n : Nat), i + n < N → 1 ≤ n → upJ l i n = upJ l i (N - 1 - i) → zV zX11_goesUp fr 0 0 47 (zL [some (zr (40, 0)), some (zi (nI i)), some (zi (nI (i + n)))]) [] M Q := by
  intro n
  induction n with
  | zero =>
    intro hn h1
    exact absurd h1 (by decide)
  | succ n ih =>
    intro hn h0 hu
    have ri := hl.2.2 i (by omega)
    have rj := hl.2.2 (i + n + 1) (by omega)
    have li := hl.2.1 i (by omega)
    have lj := hl.2.1 (i + n + 1) (by omega)
    have ti := nI_toInt (n := l.getD i 0) (by omega)
    have tj := nI_toInt (n := l.getD (i + n + 1) 0) (by omega)
    refine z_al iX11_goesUp_47 rfl ?_
    refine z_gf iX11_goesUp_48 hR.1 rfl ?_
    refine z_il iX11_goesUp_51 rfl ?_
    refine z_iald iX11_goesUp_52 (hR.2.1 30 (by decide)) (show (nI (i + (n + 1))).toInt = ((i + n + 1 : Nat) : Int) by rw [nI_toInt (by omega)]; rfl) (show i + n + 1 < 6 by omega) ?_
    refine z_al iX11_goesUp_53 rfl ?_
    refine z_gf iX11_goesUp_54 hR.1 rfl ?_
    refine z_il iX11_goesUp_57 rfl ?_
    refine z_iald iX11_goesUp_58 (hR.2.1 30 (by decide)) (nI_toInt (by omega)) (show i < 6 by omega) ?_
    refine z_icmp_ge iX11_goesUp_59 (fun h1 => ?_) (fun h1 => ?_)
    · have hz : ¬ l.getD (i + n + 1) 0 < l.getD i 0 := by
        rw [ri, rj, zi_le, ti, tj] at h1
        omega
      refine z_loc [some (zr (40, 0)), some (zi (nI i)), some (zi (nI (upJ l i (N - 1 - i))))] ⟨rfl, rfl, ?_, trivial⟩ KK
      show some (zi (nI (i + (n + 1)))) = _
      rw [← hu, show upJ l i (n + 1) = i + n + 1 from if_neg hz, Nat.add_assoc]
    · refine z_in iX11_goesUp_62 rfl ?_
      refine z_goto iX11_goesUp_65 ?_
      have hz : l.getD (i + n + 1) 0 < l.getD i 0 := by
        rw [ri, rj, zi_le, ti, tj] at h1
        omega
      have hn1 : 1 ≤ n := Decidable.byContradiction (fun q => by
        have q0 : n = 0 := by omega
        subst q0
        exact hup hz)
      refine z_loc [some (zr (40, 0)), some (zi (nI i)), some (zi (nI (i + n)))] ⟨rfl, rfl, ?_, trivial⟩ (ih (by omega) hn1 (by rw [← hu]; exact (if_pos hz).symm))
      show some (zi (nI (i + (n + 1)) + -1)) = _
      rw [show i + (n + 1) = i + n + 1 from rfl, nI_succ, Int32.add_assoc, show (1 : Int32) + -1 = 0 from rfl, Int32.add_zero]
set_option maxRecDepth 20000 in
set_option maxHeartbeats 4000000 in
theorem l11_turn {fr : Nat} {M : zM} {I J : zSI} {A : zSA} {L : zSL} {K : Int64} (hR : RepM M I A L J K) {N : Nat} (hI9 : I 9 = nI N) (hN : N ≤ 6) {xi xj : Int32} {lz : List Nat}  : ∀ (n i : Nat) (xv : Int32) (a b : Nat) (rr : Nat → Int32) (l : List Nat), i + n = 6 → rwR N rr l → b < N → a ≤ i + 6 → b ≤ a + n → rvl n l a b = lz → zV zX11_goesUp fr 0 0 107 (zL [some (zr (40, 0)), some (zi xi), some (zi xj), some (zi xv), some (zi (nI a)), some (zi (nI b))]) [] (zupd M (41, 30) (.inl (0, 6, .inl rr))) (fun r M' => ∃ y, r = some (zi y) ∧ ∃ r2, M' = zupd M (41, 30) (.inl (0, 6, .inl r2)) ∧ y = 1 ∧ rwR N r2 lz) := by
  intro n
  induction n with
  | zero =>
    intro i xv a b rr l hn hl hb ha hab0 hz
    refine z_il iX11_goesUp_107 rfl ?_
    refine z_il iX11_goesUp_109 rfl ?_
    refine z_icmp_ge iX11_goesUp_111 (fun h1 => ?_) (fun h1 => ?_)
    · refine z_co iX11_goesUp_153 ?_
      refine z_zret iX11_goesUp_154 rfl rfl ?_
      refine ⟨_, rfl, _, rfl, rfl, ?_⟩
      rw [← hz]
      exact hl
    · exfalso
      rw [zi_le, nI_toInt (by omega), nI_toInt (by omega)] at h1
      omega
  | succ n ih =>
    intro i xv a b rr l hn hl hb ha hab0 hz
    refine z_il iX11_goesUp_107 rfl ?_
    refine z_il iX11_goesUp_109 rfl ?_
    refine z_icmp_ge iX11_goesUp_111 (fun h1 => ?_) (fun h1 => ?_)
    · have hab : ¬ a < b := by
        rw [zi_le, nI_toInt (by omega), nI_toInt (by omega)] at h1
        omega
      refine z_co iX11_goesUp_153 ?_
      refine z_zret iX11_goesUp_154 rfl rfl ?_
      refine ⟨_, rfl, _, rfl, rfl, ?_⟩
      rw [← hz, show rvl (n + 1) l a b = l from if_neg hab]
      exact hl
    · have hab : a < b := by
        rw [zi_le, nI_toInt (by omega), nI_toInt (by omega)] at h1
        omega
      refine z_al iX11_goesUp_114 rfl ?_
      refine z_gf iX11_goesUp_115 ((zupd_k (Nat.ne_of_beq_eq_false rfl)).trans hR.1) rfl ?_
      refine z_il iX11_goesUp_118 rfl ?_
      refine z_iald iX11_goesUp_120 zupd_s (nI_toInt (by omega)) (show a < 6 by omega) ?_
      refine z_is iX11_goesUp_121 ?_
      refine z_al iX11_goesUp_122 rfl ?_
      refine z_gf iX11_goesUp_123 ((zupd_k (Nat.ne_of_beq_eq_false rfl)).trans hR.1) rfl ?_
      refine z_il iX11_goesUp_126 rfl ?_
      refine z_al iX11_goesUp_128 rfl ?_
      refine z_gf iX11_goesUp_129 ((zupd_k (Nat.ne_of_beq_eq_false rfl)).trans hR.1) rfl ?_
      refine z_il iX11_goesUp_132 rfl ?_
      refine z_iald iX11_goesUp_134 zupd_s (nI_toInt (by omega)) (show b < 6 by omega) ?_
      refine z_iast2 iX11_goesUp_135 (show 2 ≤ 41 by decide) (nI_toInt (by omega)) (show a < 6 by omega) ?_
      refine z_al iX11_goesUp_136 rfl ?_
      refine z_gf iX11_goesUp_137 ((zupd_k (Nat.ne_of_beq_eq_false rfl)).trans hR.1) rfl ?_
      refine z_il iX11_goesUp_140 rfl ?_
      refine z_il iX11_goesUp_142 rfl ?_
      refine z_iast2 iX11_goesUp_143 (show 2 ≤ 41 by decide) (nI_toInt (by omega)) (show b < 6 by omega) ?_
      refine z_in iX11_goesUp_144 rfl ?_
      refine z_in iX11_goesUp_147 rfl ?_
      refine z_goto iX11_goesUp_150 ?_
      refine z_loc [some (zr (40, 0)), some (zi xi), some (zi xj), some (zi _), some (zi (nI (a + 1))), some (zi (nI (b - 1)))] ⟨rfl, rfl, rfl, rfl, ?_, ?_, trivial⟩ (ih (i + 1) _ (a + 1) (b - 1) _ _ (by omega) (hl.swp (show a < N by omega) (show b < N by omega)) (by omega) (by omega) (by omega) (by rw [← hz]; exact (if_pos hab).symm))
      · show some (zi (nI a + 1)) = _
        rw [nI_1]
      · obtain ⟨b', rfl⟩ : ∃ b', b = b' + 1 := ⟨b - 1, by omega⟩
        show some (zi (nI (b' + 1) + -1)) = _
        rw [nI_succ, Int32.add_assoc, show (1 : Int32) + -1 = 0 from rfl, Int32.add_zero]
        rfl
set_option maxRecDepth 20000 in
set_option maxHeartbeats 4000000 in
theorem c11_goesUp {fr : Nat} {M : zM} {I J : zSI} {A : zSA} {L : zSL} {K : Int64} (hR : RepM M I A L J K) {N : Nat} (hI9 : I 9 = nI N) (hN : N ≤ 6) {l : List Nat} (hl : rwR N (A 30) l) : zCi zX11_goesUp fr 0 0 [zr (40, 0)] M (fun y M' => ∃ r2, M' = zupd M (41, 30) (.inl (0, 6, .inl r2)) ∧ (nxL N l = none ∧ y = 0 ∨ ∃ l2, nxL N l = some l2 ∧ y = 1 ∧ rwR N r2 l2)) := by
  refine z_enter (L := [some (zr (40, 0))]) rfl (by decide +kernel) (Nat.le_of_ble_eq_true rfl) ?_
  refine z_al iX11_goesUp_0 rfl ?_
  refine z_gf iX11_goesUp_1 hR.1 rfl ?_
  refine z_co iX11_goesUp_4 ?_
  refine z_isub iX11_goesUp_5 ?_
  refine z_is iX11_goesUp_6 ?_
  rw [hI9]
  refine z_loc [some (zr (40, 0)), some (zi (nI N - 2))] ⟨rfl, rfl, trivial⟩ (l11_up hR hI9 hN hl (fun i hu hi => ?_) (N - 1) 0 (nI N - 2) (by omega) rfl (fun q => ?_) (fun q => ?_))
  rotate_left
  · rw [zsub (by rw [nI_toInt (by omega)]; simp only [Int32.reduceToInt]; omega) (by rw [nI_toInt (by omega)]; simp only [Int32.reduceToInt]; omega), nI_toInt (by omega)]
    simp only [Int32.reduceToInt]
    omega
  · rw [zsub (by rw [nI_toInt (by omega)]; simp only [Int32.reduceToInt]; omega) (by rw [nI_toInt (by omega)]; simp only [Int32.reduceToInt]; omega), nI_toInt (by omega)]
    simp only [Int32.reduceToInt]
    omega
  · refine z_al iX11_goesUp_40 rfl ?_
    refine z_gf iX11_goesUp_41 hR.1 rfl ?_
    refine z_co iX11_goesUp_44 ?_
    refine z_isub iX11_goesUp_45 ?_
    refine z_is iX11_goesUp_46 ?_
    rw [hI9]
    have eN1 : nI N - 1 = nI (i + (N - 1 - i)) := by
      obtain ⟨N', rfl⟩ : ∃ N', N = N' + 1 := ⟨N - 1, by omega⟩
      rw [nI_succ, show nI N' + 1 - 1 = nI N' from Int32.add_sub_cancel _ _, show i + (N' + 1 - 1 - i) = N' by omega]
    have uj := upJ_f (l := l) (i := i) (N - 1 - i)
    refine z_loc [some (zr (40, 0)), some (zi (nI i)), some (zi (nI (i + (N - 1 - i))))] ⟨rfl, rfl, ?_, trivial⟩ (l11_upJ hR hI9 hN hl hi (upI_f hu).2 ?_ (N - 1 - i) (by omega) (by omega) rfl)
    · show some (zi (nI N - 1)) = _
      rw [eN1]
    · refine z_al iX11_goesUp_68 rfl ?_
      refine z_gf iX11_goesUp_69 hR.1 rfl ?_
      refine z_il iX11_goesUp_72 rfl ?_
      refine z_iald iX11_goesUp_73 (hR.2.1 30 (by decide)) (nI_toInt (by omega)) (show i < 6 by omega) ?_
      refine z_is iX11_goesUp_74 ?_
      refine z_al iX11_goesUp_75 rfl ?_
      refine z_gf iX11_goesUp_76 hR.1 rfl ?_
      refine z_il iX11_goesUp_79 rfl ?_
      refine z_al iX11_goesUp_80 rfl ?_
      refine z_gf iX11_goesUp_81 hR.1 rfl ?_
      refine z_il iX11_goesUp_84 rfl ?_
      refine z_iald iX11_goesUp_85 (hR.2.1 30 (by decide)) (nI_toInt (by omega)) (show upJ l i (N - 1 - i) < 6 by omega) ?_
      refine z_iast iX11_goesUp_86 (hR.2.1 30 (by decide)) (show 2 ≤ 41 by decide) (nI_toInt (by omega)) (show i < 6 by omega) ?_
      refine z_al iX11_goesUp_87 rfl ?_
      refine z_gf iX11_goesUp_88 ((zupd_k (Nat.ne_of_beq_eq_false rfl)).trans hR.1) rfl ?_
      refine z_il iX11_goesUp_91 rfl ?_
      refine z_il iX11_goesUp_92 rfl ?_
      refine z_iast2 iX11_goesUp_93 (show 2 ≤ 41 by decide) (nI_toInt (by omega)) (show upJ l i (N - 1 - i) < 6 by omega) ?_
      refine z_il iX11_goesUp_94 rfl ?_
      refine z_co iX11_goesUp_95 ?_
      refine z_iadd iX11_goesUp_96 ?_
      refine z_is iX11_goesUp_97 ?_
      refine z_al iX11_goesUp_99 rfl ?_
      refine z_gf iX11_goesUp_100 ((zupd_k (Nat.ne_of_beq_eq_false rfl)).trans hR.1) rfl ?_
      refine z_co iX11_goesUp_103 ?_
      refine z_isub iX11_goesUp_104 ?_
      refine z_is iX11_goesUp_105 ?_
      rw [hI9]
      refine z_loc [some (zr (40, 0)), some (zi (nI i)), some (zi (nI (upJ l i (N - 1 - i)))), some (zi (A 30 i)), some (zi (nI (i + 1))), some (zi (nI (N - 1)))] ⟨rfl, rfl, rfl, rfl, ?_, ?_, trivial⟩ ((l11_turn (lz := rvl 6 (swp l i (upJ l i (N - 1 - i))) (i + 1) (N - 1)) hR hI9 hN 6 0 _ (i + 1) (N - 1) _ _ (by omega) (hl.swp (show i < N by omega) (show upJ l i (N - 1 - i) < N by omega)) (by omega) (by omega) (by omega) rfl).mono (fun r M2 ⟨y, e1, r2, e2, e3, e4⟩ => ⟨y, e1, r2, e2, Or.inr ⟨_, ?_, e3, e4⟩⟩))
      · show some (zi (nI i + 1)) = _
        rw [nI_1]
      · show some (zi (nI N - 1)) = _
        rw [eN1, show i + (N - 1 - i) = N - 1 by omega]
      · unfold nxL
        rw [hu]
        rfl
