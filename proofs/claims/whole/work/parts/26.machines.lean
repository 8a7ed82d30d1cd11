theorem zupd_same {M : zM} {a : zAd} {e : zE} (h : M a = some e) : zupd M a e = M := by
  funext x
  unfold zupd
  by_cases q : x = a
  · rw [if_pos q, q, h]
  · rw [if_neg q]
theorem zp1 (x : Int32) : x + 1 - 1 = x := by grind
def sp_machine (I : zSI) (A : zSA) (L : zSL) (s n : Int32) : zRes := if ¬ zBw s 1 20 ∨ ¬ zBw n 4 16 then (-2, I, A, L) else if I 8 = 3 then (-4, I, A, L) else (I 8, zup I 8 (I 8 + 1), zA2 (zA2 A 22 (zN (I 8)) s) 23 (zN (I 8)) n, L)
theorem zCnt {n : Int32} {N : Int} {c : Int32} (h : zRg n 0 N) (hN : N ≤ 1000) (hc : c.toInt = N) (hn : ¬ n = c) : n.toInt = (zN n : Int) ∧ (zN n : Int) < N := by
  obtain ⟨h1, h2⟩ := h
  have h3 : n.toInt ≠ c.toInt := fun q => hn (Int32.toInt_inj.mp q)
  have e0 : zN n = n.toInt.toNat := rfl
  omega
theorem zLt2 {k N : Nat} (h : (k : Int) < (N : Int)) : k < N := by omega
set_option maxRecDepth 20000 in
set_option maxHeartbeats 4000000 in
theorem l2_init {fr : Nat} {M : zM} {a h : zAd} {x0 x1 : Int32} (h2 : 2 ≤ h.1) (hne : a.1 ≠ h.1) (hthis : M a = some (.inr (2, [zi x0, zi x1, zr h]))) : ∀ (n i : Nat) (f : Nat → Int32), i + n = 16 → (∀ j : Nat, j < i → f j = -1) → zV zX2_init fr 0 0 24 (zL [some (zr a), none, none, some (zi (nI i))]) [] (zupd M h (.inl (0, 16, .inl f))) (fun r M' => r = none ∧ ∃ g : Nat → Int32, (∀ j : Nat, j < 16 → g j = -1) ∧ M' = zupd M h (.inl (0, 16, .inl g))) := by
  intro n
  induction n with
  | zero =>
    intro i f hn hf
    refine z_il iX2_init_24 rfl ?_
    refine z_co iX2_init_25 ?_
    refine z_icmp_ge iX2_init_27 (fun h1 => ?_) (fun h1 => ?_)
    · refine z_vret iX2_init_43 rfl ?_
      exact ⟨rfl, f, fun j hj => hf j (by omega), rfl⟩
    · exact absurd (nI_le (a := 16) (b := i) (by omega) (by omega)) h1
  | succ n ih =>
    intro i f hn hf
    refine z_il iX2_init_24 rfl ?_
    refine z_co iX2_init_25 ?_
    refine z_icmp_ge iX2_init_27 (fun h1 => ?_) (fun h1 => ?_)
    · exact absurd h1 (nI_ge (a := i) (b := 16) (by omega) (by decide))
    · refine z_al iX2_init_30 rfl ?_
      refine z_gf iX2_init_31 ((zupd_k hne).trans hthis) rfl ?_
      refine z_il iX2_init_34 rfl ?_
      refine z_co iX2_init_35 ?_
      refine z_iast2 iX2_init_36 h2 (nI_toInt (by omega)) (by omega) ?_
      refine z_in iX2_init_37 rfl ?_
      refine z_goto iX2_init_40 ?_
      refine z_loc [some (zr a), none, none, some (zi (nI (i + 1)))] ⟨rfl, ?_, trivial⟩ (ih (i + 1) _ (by omega) (fun j hj => ?_))
      · show some (zi (nI i + 1)) = _
        rw [nI_1]
      · by_cases q : j = i
        · rw [q, zup_s]
        · rw [zup_n q]; exact hf j (by omega)
set_option maxRecDepth 20000 in
set_option maxHeartbeats 4000000 in
theorem c2_init {fr : Nat} {M : zM} {a h : zAd} (hf : 1 ≤ fr) (h2a : 2 ≤ a.1) (h2 : 2 ≤ h.1) (hne : a.1 ≠ h.1) (hne2 : h.1 ≠ a.1) (hthis : M a = some (.inr (2, zf2))) (nh : M h = none) (s n : Int32) : zCv zX2_init fr 1 16 [zr a, zi s, zi n] M (fun M' => ∃ g : Nat → Int32, (∀ j : Nat, j < 16 → g j = -1) ∧ M' = zupd (zupd (zupd M h (.inl (0, 16, .inl fun _ => 0))) a (.inr (2, [zi s, zi n, zr h]))) h (.inl (0, 16, .inl g))) := by
  refine z_enter (L := [some (zr a), some (zi s), some (zi n)]) rfl (by decide +kernel) (Nat.le_of_ble_eq_true rfl) ?_
  refine z_al iX2_init_0 rfl ?_
  refine z_oi iX2_init_1 (by omega) (by decide) ?_
  refine z_al iX2_init_4 rfl ?_
  refine z_co iX2_init_5 ?_
  refine z_newI (a := h) (N := 16) iX2_init_7 zac_int rfl (by decide) nh h2 ?_
  refine z_pf iX2_init_9 ((zupd_k hne).trans hthis) h2a (Nat.le_of_ble_eq_true rfl) trivial ?_
  refine z_al iX2_init_12 rfl ?_
  refine z_il iX2_init_13 rfl ?_
  refine z_pf2 iX2_init_14 h2a (Nat.le_of_ble_eq_true rfl) trivial ?_
  refine z_al iX2_init_17 rfl ?_
  refine z_il iX2_init_18 rfl ?_
  refine z_pf2 iX2_init_19 h2a (Nat.le_of_ble_eq_true rfl) trivial ?_
  refine z_co iX2_init_22 ?_
  refine z_is iX2_init_23 ?_
  refine z_loc [some (zr a), none, none, some (zi (nI 0))] ⟨rfl, rfl, trivial⟩ ?_
  have hh : (zupd (zupd M h (.inl (0, 16, .inl fun _ => 0))) a (.inr (2, [zi s, zi n, zr h]))) h = some (.inl (0, 16, .inl fun _ => 0)) := (zupd_k hne2).trans zupd_s
  have h9 := l2_init (fr := fr) (x0 := s) (x1 := n) h2 hne (M := (zupd (zupd M h (.inl (0, 16, .inl fun _ => 0))) a (.inr (2, [zi s, zi n, zr h])))) zupd_s 16 0 (fun _ => 0) (by decide) (fun j hj => absurd hj (Nat.not_lt_zero j))
  rw [zupd_same hh] at h9
  exact h9
set_option maxRecDepth 20000 in
set_option maxHeartbeats 4000000 in
theorem pm_machine {fr : Nat} {M : zM} {I J : zSI} {A : zSA} {L : zSL} {K : Int64} (hf : 3 ≤ fr) (hR : RepM M I A L J K) (hV : Val I A L) (s : Int32) (n : Int32) : zCi zX11_machine fr 0 0 [zr (40, 0), zi s, zi n] M (fun x M' => zEM M x (sp_machine I A L s n) M') := by
  refine z_enter (L := [some (zr (40, 0)), some (zi s), some (zi n)]) rfl (by decide +kernel) (Nat.le_of_ble_eq_true rfl) ?_
  refine z_il iX11_machine_0 rfl ?_
  refine z_co iX11_machine_1 ?_
  refine z_co iX11_machine_2 ?_
  refine z_cs3i (fr' := fr - 1) iX11_machine_4 zmX11_in (c11_in _ _ _) (by omega) (Nat.le_of_ble_eq_true rfl) (fun x M1 hq => ?_)
  obtain ⟨rfl, rfl⟩ := hq
  refine z_ib_eq iX11_machine_7 (fun h1 => ?_) (fun h1 => ?_)
  · refine z_co iX11_machine_20 ?_
    refine z_iret iX11_machine_22 rfl ?_
    refine ⟨_, rfl, ?_⟩
    unfold sp_machine
    repeat' split
    all_goals first | exact zEM.rd hR | (exfalso; simp only [true_and, and_true, false_and, and_false, true_or, or_true, false_or, or_false, not_true_eq_false, not_false_eq_true, zN, zBw, zUnd, zCor, zi_eq, zi_le, zi_lt, Int32.reduceToInt, List.length_cons, List.length_nil] at *; omega)
  · refine z_il iX11_machine_10 rfl ?_
    refine z_co iX11_machine_11 ?_
    refine z_co iX11_machine_12 ?_
    refine z_cs3i (fr' := fr - 1) iX11_machine_14 zmX11_in (c11_in _ _ _) (by omega) (Nat.le_of_ble_eq_true rfl) (fun x M1 hq => ?_)
    obtain ⟨rfl, rfl⟩ := hq
    refine z_ib_ne iX11_machine_17 (fun h2 => ?_) (fun h2 => ?_)
    · refine z_al iX11_machine_23 rfl ?_
      refine z_gf iX11_machine_24 hR.1 rfl ?_
      refine z_co iX11_machine_27 ?_
      refine z_icmp_ne iX11_machine_28 (fun h3 => ?_) (fun h3 => ?_)
      · refine z_al iX11_machine_34 rfl ?_
        refine z_gf iX11_machine_35 hR.1 rfl ?_
        refine z_al iX11_machine_38 rfl ?_
        refine z_gf iX11_machine_39 hR.1 rfl ?_
        refine z_il iX11_machine_42 rfl ?_
        refine z_iast iX11_machine_43 (hR.2.1 22 (by decide)) (by decide) (zCnt hV.1.2.2.2.2.2.1 (by decide) rfl h3).1 (zLt2 (N := 3) (zCnt hV.1.2.2.2.2.2.1 (by decide) rfl h3).2) ?_
        refine z_al iX11_machine_44 rfl ?_
        refine z_gf iX11_machine_45 ((zupd_k (Nat.ne_of_beq_eq_false rfl)).trans hR.1) rfl ?_
        refine z_al iX11_machine_48 rfl ?_
        refine z_gf iX11_machine_49 ((zupd_k (Nat.ne_of_beq_eq_false rfl)).trans hR.1) rfl ?_
        refine z_il iX11_machine_52 rfl ?_
        refine z_iast iX11_machine_53 ((zupd_i (Nat.ne_of_beq_eq_false rfl)).trans (hR.2.1 23 (by decide))) (by decide) (zCnt hV.1.2.2.2.2.2.1 (by decide) rfl h3).1 (zLt2 (N := 3) (zCnt hV.1.2.2.2.2.2.1 (by decide) rfl h3).2) ?_
        refine z_al iX11_machine_54 rfl ?_
        refine z_dup iX11_machine_55 ?_
        refine z_gf iX11_machine_56 ((zupd_k (Nat.ne_of_beq_eq_false rfl)).trans ((zupd_k (Nat.ne_of_beq_eq_false rfl)).trans hR.1)) rfl ?_
        refine z_co iX11_machine_59 ?_
        refine z_iadd iX11_machine_60 ?_
        refine z_pf iX11_machine_61 ((zupd_k (Nat.ne_of_beq_eq_false rfl)).trans ((zupd_k (Nat.ne_of_beq_eq_false rfl)).trans hR.1)) (by decide) (Nat.le_of_ble_eq_true rfl) trivial ?_
        refine z_al iX11_machine_64 rfl ?_
        refine z_gf iX11_machine_65 zupd_s rfl ?_
        refine z_co iX11_machine_68 ?_
        refine z_isub iX11_machine_69 ?_
        refine z_iret iX11_machine_70 rfl ?_
        refine ⟨_, rfl, ?_⟩
        unfold sp_machine
        repeat' split
        all_goals first | exact zEM.rd hR | exact ⟨zp1 _, zfr (zfr (zfr zfr_nil (by decide)) (by decide)) (by decide), _, _, _, fun _ _ => rfl, ((hR.arr 22 _).arr 23 _).obj (I' := zup I 8 (I 8 + 1)) (J' := J) (K' := K) rfl⟩ | (exfalso; simp only [true_and, and_true, false_and, and_false, true_or, or_true, false_or, or_false, not_true_eq_false, not_false_eq_true, zN, zBw, zUnd, zCor, zi_eq, zi_le, zi_lt, Int32.reduceToInt, List.length_cons, List.length_nil] at *; omega)
      · refine z_co iX11_machine_31 ?_
        refine z_iret iX11_machine_33 rfl ?_
        refine ⟨_, rfl, ?_⟩
        unfold sp_machine
        repeat' split
        all_goals first | exact zEM.rd hR | (exfalso; simp only [true_and, and_true, false_and, and_false, true_or, or_true, false_or, or_false, not_true_eq_false, not_false_eq_true, zN, zBw, zUnd, zCor, zi_eq, zi_le, zi_lt, Int32.reduceToInt, List.length_cons, List.length_nil] at *; omega)
    · refine z_co iX11_machine_20 ?_
      refine z_iret iX11_machine_22 rfl ?_
      refine ⟨_, rfl, ?_⟩
      unfold sp_machine
      repeat' split
      all_goals first | exact zEM.rd hR | (exfalso; simp only [true_and, and_true, false_and, and_false, true_or, or_true, false_or, or_false, not_true_eq_false, not_false_eq_true, zN, zBw, zUnd, zCor, zi_eq, zi_le, zi_lt, Int32.reduceToInt, List.length_cons, List.length_nil] at *; omega)
