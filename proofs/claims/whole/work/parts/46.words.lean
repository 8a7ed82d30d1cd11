theorem tkDs_get {u : Nat → Int32} {p : Nat} : ∀ (l i : Nat), i < l → (tkDs u p l)[i]? = some (zN (u (p + i) - 96))
  | 0, i, h => absurd h (by omega)
  | l + 1, i, h => by
    unfold tkDs
    by_cases q : i = l
    · subst q
      rw [List.getElem?_append_right (by rw [tkDs_len]; omega), tkDs_len, Nat.sub_self]
      rfl
    · rw [List.getElem?_append_left (by rw [tkDs_len]; omega)]
      exact tkDs_get l i (by omega)
/-- a run of letters against a row of letters -/
theorem tkDs_eq {u : Nat → Int32} {p l : Nat} (hl : ∀ i, i < l → tkL (u (p + i))) {B : List Int32} {D : List Nat} (hD : D = B.map (fun c => zN (c - 96))) (hB : ∀ c ∈ B, tkL c) : (l = B.length ∧ ∀ i, i < B.length → u (p + i) = B.getD i 0) ↔ tkDs u p l = D := by
  constructor
  · rintro ⟨h1, h2⟩
    refine List.ext_getElem? (fun i => ?_)
    rw [hD, List.getElem?_map]
    by_cases q : i < l
    · rw [tkDs_get l i q, h2 i (by omega)]
      have q2 : i < B.length := by omega
      rw [List.getElem?_eq_getElem q2, Option.map_some, List.getD_eq_getElem?_getD, List.getElem?_eq_getElem q2]
      rfl
    · rw [List.getElem?_eq_none (by rw [tkDs_len]; omega), List.getElem?_eq_none (by omega)]
      rfl
  · intro h
    have h1 : l = B.length := by
      have h2 := congrArg List.length h
      rwa [tkDs_len, hD, List.length_map] at h2
    refine ⟨h1, fun i hi => ?_⟩
    have h3 := tkDs_get (u := u) (p := p) l i (by omega)
    rw [h, hD, List.getElem?_map, List.getElem?_eq_getElem hi, Option.map_some] at h3
    have h4 := Option.some.inj h3
    have h5 := tkDg (hl i (by omega))
    have h6 := tkDg (hB _ (List.getElem_mem hi))
    rw [List.getD_eq_getElem?_getD, List.getElem?_eq_getElem hi]
    show u (p + i) = B[i]
    rw [← Int32.toInt_inj]
    omega
theorem zByt_ok : ∀ k, k < 13 → 0 < k → (zByt.getD k []).length = zLen.getD k 0 ∧ ∀ c ∈ zByt.getD k [], tkL c := by decide +kernel
set_option maxRecDepth 20000 in
set_option maxHeartbeats 4000000 in
theorem l7_isWord {fr : Nat} {M : zM} {N : Nat} {tc : Int32} {b : Nat → Int32} {u : Nat → Int32} (hf : 4 ≤ fr) (h10 : M (10, 0) = some (.inr (7, [zr (19, 0), zr (20, 0), zr (21, 0), zi (nI N), zi tc]))) (h19 : M (19, 0) = some (.inl (2, 160, .inl b))) (hN : N ≤ 160) (hb : ∀ j, j < N → b j = (u j).toInt8.toInt32) (hu : ∀ j, j < N → 0 ≤ (u j).toInt ∧ (u j).toInt ≤ 255) {P : Int32} {p l k : Nat} (hp : P.toInt = (p : Int)) (hpl : p + l ≤ N) (hd : ∀ i, i < l → tkL (u (p + i))) (hk : k < 13) (hl : l = zLen.getD k 0) : ∀ (n i : Nat), i + n = zLen.getD k 0 → (∀ j, j < i → u (p + j) = (zByt.getD k []).getD j 0) → zV zX7_isWord fr 0 0 13 (zL [some (zr (10, 0)), some (zr (0, k)), some (zi P), some (zi (nI l)), some (zi (nI i))]) [] M (fun r M' => ∃ x, r = some (zi x) ∧ M' = M ∧ x = zbo (l = zLen.getD k 0 ∧ ∀ i, i < zLen.getD k 0 → u (p + i) = (zByt.getD k []).getD i 0)) := by
  intro n
  induction n with
  | zero =>
    intro i hn hk2
    refine z_il iX7_isWord_13 rfl ?_
    refine z_al iX7_isWord_15 rfl ?_
    refine z_cvS0 (fr' := fr - 1) hk iX7_isWord_16 zmJ0_length_8abf5 rfl (by decide +kernel : ∀ q ∈ zNest, q.2.2.1 ≠ zJ0_length_8abf5.1) (cj_length hk (by omega)) (by omega) (Nat.le_of_ble_eq_true rfl) (fun x M1 hq => ?_)
    obtain ⟨rfl, rfl⟩ := hq
    refine z_icmp_ge iX7_isWord_19 (fun h1 => ?_) (fun h1 => ?_)
    · refine z_co iX7_isWord_47 ?_
      refine z_zret iX7_isWord_48 rfl rfl ?_
      exact ⟨_, rfl, rfl, (zbo_1 ⟨hl, fun j hj => hk2 j (by omega)⟩).symm⟩
    · exfalso; have e1 := nI_toInt (n := i) (by omega); have e2 := nI_toInt (n := zLen.getD k 0) (by omega); have h1 : ¬ nI (zLen.getD k 0) ≤ nI i := h1; simp only [zi_le, e1, e2] at h1; omega
  | succ n ih =>
    intro i hn hk2
    refine z_il iX7_isWord_13 rfl ?_
    refine z_al iX7_isWord_15 rfl ?_
    refine z_cvS0 (fr' := fr - 1) hk iX7_isWord_16 zmJ0_length_8abf5 rfl (by decide +kernel : ∀ q ∈ zNest, q.2.2.1 ≠ zJ0_length_8abf5.1) (cj_length hk (by omega)) (by omega) (Nat.le_of_ble_eq_true rfl) (fun x M1 hq => ?_)
    obtain ⟨rfl, rfl⟩ := hq
    refine z_icmp_ge iX7_isWord_19 (fun h1 => ?_) (fun h1 => ?_)
    · exfalso; have e1 := nI_toInt (n := i) (by omega); have e2 := nI_toInt (n := zLen.getD k 0) (by omega); have h1 : nI (zLen.getD k 0) ≤ nI i := h1; simp only [zi_le, e1, e2] at h1; omega
    · refine z_al iX7_isWord_22 rfl ?_
      refine z_il iX7_isWord_23 rfl ?_
      refine z_il iX7_isWord_24 rfl ?_
      refine z_iadd iX7_isWord_26 ?_
      refine z_cv1i (fr' := fr - 1) iX7_isWord_27 zmX7_byteAt h10 (c7_byteN h10 h19 hN hb (zaddN hp (by omega) (show i < 100000 by omega)) (show p + i < N by omega)) (by omega) (Nat.le_of_ble_eq_true rfl) (fun x M1 hq => ?_)
      obtain ⟨rfl, rfl⟩ := hq
      rw [(sb (hu (p + i) (by omega))).2.2.2.2.2 (Or.inl (hd i (by omega)))]
      refine z_al iX7_isWord_30 rfl ?_
      refine z_il iX7_isWord_31 rfl ?_
      refine z_cvS1 (fr' := fr - 1) hk iX7_isWord_33 zmJ0_charAt_5068e rfl (by decide +kernel : ∀ q ∈ zNest, q.2.2.1 ≠ zJ0_charAt_5068e.1) (cj_charAt hk (nI_toInt (n := i) (by omega)) (show i < zLen.getD k 0 by omega) (by omega)) (by omega) (Nat.le_of_ble_eq_true rfl) (fun x M1 hq => ?_)
      obtain ⟨rfl, rfl⟩ := hq
      refine z_icmp_eq iX7_isWord_36 (fun h2 => ?_) (fun h2 => ?_)
      · refine z_in iX7_isWord_41 rfl ?_
        refine z_goto iX7_isWord_44 ?_
        refine z_loc [some (zr (10, 0)), some (zr (0, k)), some (zi P), some (zi (nI l)), some (zi (nI (i + 1)))] ⟨rfl, rfl, rfl, rfl, ?_, trivial⟩ (ih (i + 1) (by omega) (fun j hj => ?_))
        · show some (zi (nI i + 1)) = _
          rw [nI_1]
        · by_cases z : j = i
          · rw [z]; exact h2
          · exact hk2 j (by omega)
      · refine z_co iX7_isWord_39 ?_
        refine z_zret iX7_isWord_40 rfl rfl ?_
        exact ⟨_, rfl, rfl, (zbo_0 (fun q => h2 (q.2 i (by omega)))).symm⟩
set_option maxRecDepth 20000 in
set_option maxHeartbeats 4000000 in
theorem c7_isWord {fr : Nat} {M : zM} {N : Nat} {tc : Int32} {b : Nat → Int32} {u : Nat → Int32} (hf : 4 ≤ fr) (h10 : M (10, 0) = some (.inr (7, [zr (19, 0), zr (20, 0), zr (21, 0), zi (nI N), zi tc]))) (h19 : M (19, 0) = some (.inl (2, 160, .inl b))) (hN : N ≤ 160) (hb : ∀ j, j < N → b j = (u j).toInt8.toInt32) (hu : ∀ j, j < N → 0 ≤ (u j).toInt ∧ (u j).toInt ≤ 255) {P : Int32} {p l k : Nat} (hp : P.toInt = (p : Int)) (hpl : p + l ≤ N) (hd : ∀ i, i < l → tkL (u (p + i))) (hk : k < 13) {D : List Nat} (h0 : 0 < k) (hD : D = (zByt.getD k []).map (fun c => zN (c - 96))) : zCi zX7_isWord fr 0 0 [zr (10, 0), zr (0, k), zi P, zi (nI l)] M (fun x M' => M' = M ∧ x = zbo (tkDs u p l = D)) := by
  refine z_enter (L := [some (zr (10, 0)), some (zr (0, k)), some (zi P), some (zi (nI l))]) rfl (by decide +kernel) (Nat.le_of_ble_eq_true rfl) ?_
  have hB := zByt_ok k hk h0
  have hw := tkDs_eq (u := u) (p := p) (l := l) hd hD hB.2
  rw [hB.1] at hw
  have hz : zLen.getD k 0 ≤ 72 := (by decide +kernel : ∀ k, k < 13 → zLen.getD k 0 ≤ 72) k hk
  refine z_il iX7_isWord_0 rfl ?_
  refine z_al iX7_isWord_1 rfl ?_
  refine z_cvS0 (fr' := fr - 1) hk iX7_isWord_2 zmJ0_length_8abf5 rfl (by decide +kernel : ∀ q ∈ zNest, q.2.2.1 ≠ zJ0_length_8abf5.1) (cj_length hk (by omega)) (by omega) (Nat.le_of_ble_eq_true rfl) (fun x M1 hq => ?_)
  obtain ⟨rfl, rfl⟩ := hq
  have e1 := nI_toInt (n := l) (by omega)
  have e2 : (Int32.ofNat (zLen.getD k 0)).toInt = (zLen.getD k 0 : Int) := nI_toInt (n := zLen.getD k 0) (by omega)
  refine z_icmp_eq iX7_isWord_5 (fun h1 => ?_) (fun h1 => ?_)
  · have hl : l = zLen.getD k 0 := by
      have h2 := congrArg Int32.toInt h1
      rw [e1, e2] at h2
      omega
    refine z_co iX7_isWord_10 ?_
    refine z_is iX7_isWord_11 ?_
    refine z_loc [some (zr (10, 0)), some (zr (0, k)), some (zi P), some (zi (nI l)), some (zi (nI 0))] ⟨rfl, rfl, rfl, rfl, rfl, trivial⟩ ?_
    refine (l7_isWord hf h10 h19 hN hb hu hp hpl hd hk hl (zLen.getD k 0) 0 (by omega) (fun j hj => absurd hj (Nat.not_lt_zero j))).mono (fun r M' ⟨x, hr, hm, hx⟩ => ⟨x, hr, hm, hx.trans (zbo_c hw)⟩)
  · refine z_co iX7_isWord_8 ?_
    refine z_zret iX7_isWord_9 rfl rfl ?_
    refine ⟨_, rfl, rfl, (zbo_0 (fun q => h1 ?_)).symm⟩
    have h2 := (hw.mpr q).1
    rw [h2]
    rfl
set_option maxRecDepth 20000 in
set_option maxHeartbeats 4000000 in
theorem c7_wordOf {fr : Nat} {M : zM} {N : Nat} {tc : Int32} {b : Nat → Int32} {u : Nat → Int32} (hf : 5 ≤ fr) (h10 : M (10, 0) = some (.inr (7, [zr (19, 0), zr (20, 0), zr (21, 0), zi (nI N), zi tc]))) (h19 : M (19, 0) = some (.inl (2, 160, .inl b))) (hN : N ≤ 160) (hb : ∀ j, j < N → b j = (u j).toInt8.toInt32) (hu : ∀ j, j < N → 0 ≤ (u j).toInt ∧ (u j).toInt ≤ 255) {P : Int32} {p l : Nat} (hp : P.toInt = (p : Int)) (hpl : p + l ≤ N) (hd : ∀ i, i < l → tkL (u (p + i))) : zCi zX7_wordOf fr 0 0 [zr (10, 0), zi P, zi (nI l)] M (fun x M' => M' = M ∧ x = tkWord (tkDs u p l)) := by
  refine z_enter (L := [some (zr (10, 0)), some (zi P), some (zi (nI l))]) rfl (by decide +kernel) (Nat.le_of_ble_eq_true rfl) ?_
  refine z_al iX7_wordOf_0 rfl ?_
  refine z_lds iX7_wordOf_1 ?_
  refine z_il iX7_wordOf_3 rfl ?_
  refine z_il iX7_wordOf_4 rfl ?_
  refine z_cv3i (fr' := fr - 1) iX7_wordOf_5 zmX7_isWord h10 (c7_isWord (k := 1) (D := [3, 21, 20, 19]) (by omega) h10 h19 hN hb hu hp hpl hd (by decide) (by decide) (by decide +kernel)) (by omega) (Nat.le_of_ble_eq_true rfl) (fun x M1 hq => ?_)
  obtain ⟨rfl, rfl⟩ := hq
  refine z_ib_eq iX7_wordOf_8 (fun k1 => ?_) (fun k1 => ?_)
  rotate_left
  · refine z_co iX7_wordOf_11 ?_
    refine z_iret iX7_wordOf_12 rfl ?_
    exact ⟨_, rfl, rfl, by unfold tkWord; rw [if_pos k1]⟩
  refine z_al iX7_wordOf_13 rfl ?_
  refine z_lds iX7_wordOf_14 ?_
  refine z_il iX7_wordOf_16 rfl ?_
  refine z_il iX7_wordOf_17 rfl ?_
  refine z_cv3i (fr' := fr - 1) iX7_wordOf_18 zmX7_isWord h10 (c7_isWord (k := 2) (D := [19, 16, 5, 5, 4]) (by omega) h10 h19 hN hb hu hp hpl hd (by decide) (by decide) (by decide +kernel)) (by omega) (Nat.le_of_ble_eq_true rfl) (fun x M1 hq => ?_)
  obtain ⟨rfl, rfl⟩ := hq
  refine z_ib_eq iX7_wordOf_21 (fun k2 => ?_) (fun k2 => ?_)
  rotate_left
  · refine z_co iX7_wordOf_24 ?_
    refine z_iret iX7_wordOf_26 rfl ?_
    exact ⟨_, rfl, rfl, by unfold tkWord; rw [if_neg k1, if_pos k2]⟩
  refine z_al iX7_wordOf_27 rfl ?_
  refine z_lds iX7_wordOf_28 ?_
  refine z_il iX7_wordOf_30 rfl ?_
  refine z_il iX7_wordOf_31 rfl ?_
  refine z_cv3i (fr' := fr - 1) iX7_wordOf_32 zmX7_isWord h10 (c7_isWord (k := 3) (D := [19, 20, 21, 6, 6]) (by omega) h10 h19 hN hb hu hp hpl hd (by decide) (by decide) (by decide +kernel)) (by omega) (Nat.le_of_ble_eq_true rfl) (fun x M1 hq => ?_)
  obtain ⟨rfl, rfl⟩ := hq
  refine z_ib_eq iX7_wordOf_35 (fun k3 => ?_) (fun k3 => ?_)
  rotate_left
  · refine z_co iX7_wordOf_38 ?_
    refine z_iret iX7_wordOf_40 rfl ?_
    exact ⟨_, rfl, rfl, by unfold tkWord; rw [if_neg k1, if_neg k2, if_pos k3]⟩
  refine z_al iX7_wordOf_41 rfl ?_
  refine z_lds iX7_wordOf_42 ?_
  refine z_il iX7_wordOf_44 rfl ?_
  refine z_il iX7_wordOf_45 rfl ?_
  refine z_cv3i (fr' := fr - 1) iX7_wordOf_46 zmX7_isWord h10 (c7_isWord (k := 4) (D := [12, 9, 6, 5]) (by omega) h10 h19 hN hb hu hp hpl hd (by decide) (by decide) (by decide +kernel)) (by omega) (Nat.le_of_ble_eq_true rfl) (fun x M1 hq => ?_)
  obtain ⟨rfl, rfl⟩ := hq
  refine z_ib_eq iX7_wordOf_49 (fun k4 => ?_) (fun k4 => ?_)
  rotate_left
  · refine z_co iX7_wordOf_52 ?_
    refine z_iret iX7_wordOf_54 rfl ?_
    exact ⟨_, rfl, rfl, by unfold tkWord; rw [if_neg k1, if_neg k2, if_neg k3, if_pos k4]⟩
  refine z_al iX7_wordOf_55 rfl ?_
  refine z_lds iX7_wordOf_56 ?_
  refine z_il iX7_wordOf_58 rfl ?_
  refine z_il iX7_wordOf_59 rfl ?_
  refine z_cv3i (fr' := fr - 1) iX7_wordOf_60 zmX7_isWord h10 (c7_isWord (k := 5) (D := [18, 5, 1, 4, 9, 14, 7]) (by omega) h10 h19 hN hb hu hp hpl hd (by decide) (by decide) (by decide +kernel)) (by omega) (Nat.le_of_ble_eq_true rfl) (fun x M1 hq => ?_)
  obtain ⟨rfl, rfl⟩ := hq
  refine z_ib_eq iX7_wordOf_63 (fun k5 => ?_) (fun k5 => ?_)
  rotate_left
  · refine z_co iX7_wordOf_66 ?_
    refine z_iret iX7_wordOf_68 rfl ?_
    exact ⟨_, rfl, rfl, by unfold tkWord; rw [if_neg k1, if_neg k2, if_neg k3, if_neg k4, if_pos k5]⟩
  refine z_al iX7_wordOf_69 rfl ?_
  refine z_lds iX7_wordOf_70 ?_
  refine z_il iX7_wordOf_72 rfl ?_
  refine z_il iX7_wordOf_73 rfl ?_
  refine z_cv3i (fr' := fr - 1) iX7_wordOf_74 zmX7_isWord h10 (c7_isWord (k := 6) (D := [14, 15, 13, 9, 14, 1, 12]) (by omega) h10 h19 hN hb hu hp hpl hd (by decide) (by decide) (by decide +kernel)) (by omega) (Nat.le_of_ble_eq_true rfl) (fun x M1 hq => ?_)
  obtain ⟨rfl, rfl⟩ := hq
  refine z_ib_eq iX7_wordOf_77 (fun k6 => ?_) (fun k6 => ?_)
  rotate_left
  · refine z_co iX7_wordOf_80 ?_
    refine z_iret iX7_wordOf_82 rfl ?_
    exact ⟨_, rfl, rfl, by unfold tkWord; rw [if_neg k1, if_neg k2, if_neg k3, if_neg k4, if_neg k5, if_pos k6]⟩
  refine z_al iX7_wordOf_83 rfl ?_
  refine z_lds iX7_wordOf_84 ?_
  refine z_il iX7_wordOf_86 rfl ?_
  refine z_il iX7_wordOf_87 rfl ?_
  refine z_cv3i (fr' := fr - 1) iX7_wordOf_88 zmX7_isWord h10 (c7_isWord (k := 7) (D := [23, 15, 18, 14]) (by omega) h10 h19 hN hb hu hp hpl hd (by decide) (by decide) (by decide +kernel)) (by omega) (Nat.le_of_ble_eq_true rfl) (fun x M1 hq => ?_)
  obtain ⟨rfl, rfl⟩ := hq
  refine z_ib_eq iX7_wordOf_91 (fun k7 => ?_) (fun k7 => ?_)
  rotate_left
  · refine z_co iX7_wordOf_94 ?_
    refine z_iret iX7_wordOf_96 rfl ?_
    exact ⟨_, rfl, rfl, by unfold tkWord; rw [if_neg k1, if_neg k2, if_neg k3, if_neg k4, if_neg k5, if_neg k6, if_pos k7]⟩
  refine z_al iX7_wordOf_97 rfl ?_
  refine z_lds iX7_wordOf_98 ?_
  refine z_il iX7_wordOf_100 rfl ?_
  refine z_il iX7_wordOf_101 rfl ?_
  refine z_cv3i (fr' := fr - 1) iX7_wordOf_102 zmX7_isWord h10 (c7_isWord (k := 8) (D := [2, 18, 15, 11, 5, 14]) (by omega) h10 h19 hN hb hu hp hpl hd (by decide) (by decide) (by decide +kernel)) (by omega) (Nat.le_of_ble_eq_true rfl) (fun x M1 hq => ?_)
  obtain ⟨rfl, rfl⟩ := hq
  refine z_ib_eq iX7_wordOf_105 (fun k8 => ?_) (fun k8 => ?_)
  rotate_left
  · refine z_co iX7_wordOf_108 ?_
    refine z_iret iX7_wordOf_110 rfl ?_
    exact ⟨_, rfl, rfl, by unfold tkWord; rw [if_neg k1, if_neg k2, if_neg k3, if_neg k4, if_neg k5, if_neg k6, if_neg k7, if_pos k8]⟩
  refine z_al iX7_wordOf_111 rfl ?_
  refine z_lds iX7_wordOf_112 ?_
  refine z_il iX7_wordOf_114 rfl ?_
  refine z_il iX7_wordOf_115 rfl ?_
  refine z_cv3i (fr' := fr - 1) iX7_wordOf_116 zmX7_isWord h10 (c7_isWord (k := 9) (D := [3, 8, 5, 3, 11]) (by omega) h10 h19 hN hb hu hp hpl hd (by decide) (by decide) (by decide +kernel)) (by omega) (Nat.le_of_ble_eq_true rfl) (fun x M1 hq => ?_)
  obtain ⟨rfl, rfl⟩ := hq
  refine z_ib_eq iX7_wordOf_119 (fun k9 => ?_) (fun k9 => ?_)
  rotate_left
  · refine z_co iX7_wordOf_122 ?_
    refine z_iret iX7_wordOf_124 rfl ?_
    exact ⟨_, rfl, rfl, by unfold tkWord; rw [if_neg k1, if_neg k2, if_neg k3, if_neg k4, if_neg k5, if_neg k6, if_neg k7, if_neg k8, if_pos k9]⟩
  refine z_al iX7_wordOf_125 rfl ?_
  refine z_lds iX7_wordOf_126 ?_
  refine z_il iX7_wordOf_128 rfl ?_
  refine z_il iX7_wordOf_129 rfl ?_
  refine z_cv3i (fr' := fr - 1) iX7_wordOf_130 zmX7_isWord h10 (c7_isWord (k := 10) (D := [15, 18]) (by omega) h10 h19 hN hb hu hp hpl hd (by decide) (by decide) (by decide +kernel)) (by omega) (Nat.le_of_ble_eq_true rfl) (fun x M1 hq => ?_)
  obtain ⟨rfl, rfl⟩ := hq
  refine z_ib_eq iX7_wordOf_133 (fun k10 => ?_) (fun k10 => ?_)
  rotate_left
  · refine z_co iX7_wordOf_136 ?_
    refine z_iret iX7_wordOf_138 rfl ?_
    exact ⟨_, rfl, rfl, by unfold tkWord; rw [if_neg k1, if_neg k2, if_neg k3, if_neg k4, if_neg k5, if_neg k6, if_neg k7, if_neg k8, if_neg k9, if_pos k10]⟩
  refine z_al iX7_wordOf_139 rfl ?_
  refine z_lds iX7_wordOf_140 ?_
  refine z_il iX7_wordOf_142 rfl ?_
  refine z_il iX7_wordOf_143 rfl ?_
  refine z_cv3i (fr' := fr - 1) iX7_wordOf_144 zmX7_isWord h10 (c7_isWord (k := 11) (D := [1, 14, 4]) (by omega) h10 h19 hN hb hu hp hpl hd (by decide) (by decide) (by decide +kernel)) (by omega) (Nat.le_of_ble_eq_true rfl) (fun x M1 hq => ?_)
  obtain ⟨rfl, rfl⟩ := hq
  refine z_ib_eq iX7_wordOf_147 (fun k11 => ?_) (fun k11 => ?_)
  rotate_left
  · refine z_co iX7_wordOf_150 ?_
    refine z_iret iX7_wordOf_152 rfl ?_
    exact ⟨_, rfl, rfl, by unfold tkWord; rw [if_neg k1, if_neg k2, if_neg k3, if_neg k4, if_neg k5, if_neg k6, if_neg k7, if_neg k8, if_neg k9, if_neg k10, if_pos k11]⟩
  refine z_al iX7_wordOf_153 rfl ?_
  refine z_lds iX7_wordOf_154 ?_
  refine z_il iX7_wordOf_156 rfl ?_
  refine z_il iX7_wordOf_157 rfl ?_
  refine z_cv3i (fr' := fr - 1) iX7_wordOf_158 zmX7_isWord h10 (c7_isWord (k := 12) (D := [14, 15, 20]) (by omega) h10 h19 hN hb hu hp hpl hd (by decide) (by decide) (by decide +kernel)) (by omega) (Nat.le_of_ble_eq_true rfl) (fun x M1 hq => ?_)
  obtain ⟨rfl, rfl⟩ := hq
  refine z_ib_eq iX7_wordOf_161 (fun k12 => ?_) (fun k12 => ?_)
  rotate_left
  · refine z_co iX7_wordOf_164 ?_
    refine z_iret iX7_wordOf_166 rfl ?_
    exact ⟨_, rfl, rfl, by unfold tkWord; rw [if_neg k1, if_neg k2, if_neg k3, if_neg k4, if_neg k5, if_neg k6, if_neg k7, if_neg k8, if_neg k9, if_neg k10, if_neg k11, if_pos k12]⟩
  refine z_co iX7_wordOf_167 ?_
  refine z_iret iX7_wordOf_169 rfl ?_
  exact ⟨_, rfl, rfl, by unfold tkWord; rw [if_neg k1, if_neg k2, if_neg k3, if_neg k4, if_neg k5, if_neg k6, if_neg k7, if_neg k8, if_neg k9, if_neg k10, if_neg k11, if_neg k12]⟩
set_option maxRecDepth 20000 in
set_option maxHeartbeats 4000000 in
theorem l7_tokenFrom {fr : Nat} {M : zM} {N : Nat} {tc : Int32} {b : Nat → Int32} {u : Nat → Int32} {cm sm : Nat} {Q : Option zVal → zM → Prop} (hf : 2 ≤ fr) (h10 : M (10, 0) = some (.inr (7, [zr (19, 0), zr (20, 0), zr (21, 0), zi (nI N), zi tc]))) (h19 : M (19, 0) = some (.inl (2, 160, .inl b))) (hN : N ≤ 160) (hb : ∀ j, j < N → b j = (u j).toInt8.toInt32) (hu : ∀ j, j < N → 0 ≤ (u j).toInt ∧ (u j).toInt ≤ 255) {p : Nat} (hp : p < N) : ∀ (m e : Nat), e + m = N → zV zX7_tokenFrom fr cm sm 36 (zL [some (zr (10, 0)), some (zi (nI p)), some (zi (u p).toInt8.toInt32), some (zi (nI (tkScan (fun i => decide (tkR (u p) (u i))) m e)))]) [] M Q → zV zX7_tokenFrom fr cm sm 10 (zL [some (zr (10, 0)), some (zi (nI p)), some (zi (u p).toInt8.toInt32), some (zi (nI e))]) [] M Q := by
  intro m
  induction m with
  | zero =>
    intro e hm K
    refine z_il iX7_tokenFrom_10 rfl ?_
    refine z_al iX7_tokenFrom_11 rfl ?_
    refine z_gf iX7_tokenFrom_12 h10 rfl ?_
    refine z_icmp_ge iX7_tokenFrom_15 (fun h1 => ?_) (fun h1 => ?_)
    · refine z_loc [some (zr (10, 0)), some (zi (nI p)), some (zi (u p).toInt8.toInt32), some (zi (nI e))] ⟨rfl, rfl, rfl, rfl, trivial⟩ ?_
      exact K
    · exfalso
      have e1 := nI_toInt (n := e) (by omega)
      have e2 := nI_toInt (n := N) (by omega)
      simp only [zi_le, e1, e2] at h1
      omega
  | succ m ih =>
    intro e hm K
    refine z_il iX7_tokenFrom_10 rfl ?_
    refine z_al iX7_tokenFrom_11 rfl ?_
    refine z_gf iX7_tokenFrom_12 h10 rfl ?_
    refine z_icmp_ge iX7_tokenFrom_15 (fun h1 => ?_) (fun h1 => ?_)
    · exfalso
      have e1 := nI_toInt (n := e) (by omega)
      have e2 := nI_toInt (n := N) (by omega)
      simp only [zi_le, e1, e2] at h1
      omega
    · refine z_il iX7_tokenFrom_18 rfl ?_
      refine z_al iX7_tokenFrom_19 rfl ?_
      refine z_il iX7_tokenFrom_20 rfl ?_
      refine z_cv1i (fr' := fr - 1) iX7_tokenFrom_21 zmX7_byteAt h10 (c7_byteN h10 h19 hN hb (nI_toInt (n := e) (by omega)) (show e < N by omega)) (by omega) (Nat.le_of_ble_eq_true rfl) (fun x M1 hq => ?_)
      obtain ⟨rfl, rfl⟩ := hq
      refine z_cs2i (fr' := fr - 1) iX7_tokenFrom_24 zmX7_isOneRun (c7_isOneRun (by omega) _ _) (by omega) (Nat.le_of_ble_eq_true rfl) (fun x M1 hq => ?_)
      obtain ⟨rfl, rfl⟩ := hq
      refine z_ib_eq iX7_tokenFrom_27 (fun h2 => ?_) (fun h2 => ?_)
      · have hz : ¬ tkR (u p) (u e) := fun q => h2 ((tkR_sb (hu p hp) (hu e (by omega))).mpr q)
        unfold tkScan at K
        rw [if_neg (fun q => hz (of_decide_eq_true q))] at K
        refine z_loc [some (zr (10, 0)), some (zi (nI p)), some (zi (u p).toInt8.toInt32), some (zi (nI e))] ⟨rfl, rfl, rfl, rfl, trivial⟩ ?_
        exact K
      · have hz : tkR (u p) (u e) := (tkR_sb (hu p hp) (hu e (by omega))).mp h2
        refine z_in iX7_tokenFrom_30 rfl ?_
        refine z_goto iX7_tokenFrom_33 ?_
        unfold tkScan at K
        rw [if_pos (decide_eq_true hz)] at K
        refine z_loc [some (zr (10, 0)), some (zi (nI p)), some (zi (u p).toInt8.toInt32), some (zi (nI (e + 1)))] ⟨rfl, rfl, rfl, ?_, trivial⟩ (ih (e + 1) (by omega) K)
        show some (zi (nI e + 1)) = _
        rw [nI_1]
theorem nI_sub {a b : Nat} (h : b ≤ a) : nI a - nI b = nI (a - b) := by
  have h1 : nI a = nI (a - b) + nI b := by
    conv => lhs; rw [show a = (a - b) + b by omega]
    show Int32.ofNat (a - b + b) = Int32.ofNat (a - b) + Int32.ofNat b
    rw [Int32.ofNat_add]
  rw [h1]
  grind
set_option maxRecDepth 20000 in
set_option maxHeartbeats 4000000 in
theorem q7_tokenFrom {fr : Nat} {M : zM} {N : Nat} {tc : Int32} {b : Nat → Int32} {u : Nat → Int32} (hf : 6 ≤ fr) (h10 : M (10, 0) = some (.inr (7, [zr (19, 0), zr (20, 0), zr (21, 0), zi (nI N), zi tc]))) (h19 : M (19, 0) = some (.inl (2, 160, .inl b))) (hN : N ≤ 160) (hb : ∀ j, j < N → b j = (u j).toInt8.toInt32) (hu : ∀ j, j < N → 0 ≤ (u j).toInt ∧ (u j).toInt ≤ 255) {p : Nat} (hp : p < N) : zV zX7_tokenFrom fr 0 0 36 (zL [some (zr (10, 0)), some (zi (nI p)), some (zi (u p).toInt8.toInt32), some (zi (nI (tkEnd u N p)))]) [] M (fun r M' => ∃ x, r = some (zi x) ∧ M' = M ∧ x = tkCode u N p) := by
  have s0 := sb (hu p hp)
  refine z_il iX7_tokenFrom_36 rfl ?_
  refine z_cs1i (fr' := fr - 1) iX7_tokenFrom_37 zmX7_isLetter (c7_isLetter _) (by omega) (Nat.le_of_ble_eq_true rfl) (fun x M1 hq => ?_)
  obtain ⟨rfl, rfl⟩ := hq
  refine z_ib_eq iX7_tokenFrom_40 (fun h1 => ?_) (fun h1 => ?_)
  · have hb1 := fun q => h1 (s0.1.mpr q)
    refine z_il iX7_tokenFrom_52 rfl ?_
    refine z_cs1i (fr' := fr - 1) iX7_tokenFrom_53 zmX7_isDigit (c7_isDigit _) (by omega) (Nat.le_of_ble_eq_true rfl) (fun x M1 hq => ?_)
    obtain ⟨rfl, rfl⟩ := hq
    refine z_ib_eq iX7_tokenFrom_56 (fun h2 => ?_) (fun h2 => ?_)
    · have hb2 := fun q => h2 (s0.2.1.mpr q)
      refine z_il iX7_tokenFrom_68 rfl ?_
      refine z_cs1i (fr' := fr - 1) iX7_tokenFrom_69 zmX7_signOf (c7_signOf _) (by omega) (Nat.le_of_ble_eq_true rfl) (fun x M1 hq => ?_)
      obtain ⟨rfl, rfl⟩ := hq
      refine z_iret iX7_tokenFrom_72 rfl ?_
      refine ⟨_, rfl, rfl, ?_⟩
      unfold tkCode
      rw [if_neg hb1, if_neg hb2, s0.2.2.2.2.1]
    · have hb0 := hb1
      have hb1 := s0.2.1.mp h2
      have hl1 : p + (tkEnd u N p - p) ≤ N := by have g1 := tkEnd_gt (u := u) (n := N) (p := p); have g2 := tkEnd_le (u := u) hp; omega
      have hlD : ∀ i, i < tkEnd u N p - p → tkD (u (p + i)) := fun i hi => by
        by_cases z : i = 0
        · rw [z]; exact hb1
        · rcases tkEnd_in (u := u) (n := N) (p := p) (j := p + i) (by omega) (by omega) with q | q
          · first | exact q.2 | exact (tkLD q.1 hb1).elim
          · first | exact q.2 | exact (tkLD hb1 q.1).elim
      refine z_al iX7_tokenFrom_59 rfl ?_
      refine z_il iX7_tokenFrom_60 rfl ?_
      refine z_il iX7_tokenFrom_61 rfl ?_
      refine z_il iX7_tokenFrom_62 rfl ?_
      refine z_isub iX7_tokenFrom_63 ?_
      rw [show nI (tkEnd u N p) - nI p = nI (tkEnd u N p - p) from nI_sub (Nat.le_of_lt tkEnd_gt)]
      refine z_cv2i (fr' := fr - 1) iX7_tokenFrom_64 zmX7_numberOf h10 (c7_numberOf (P := nI p) (by omega) h10 h19 hN hb hu (nI_toInt (n := p) (by omega)) hl1 hlD) (by omega) (Nat.le_of_ble_eq_true rfl) (fun x M1 hq => ?_)
      obtain ⟨rfl, rfl⟩ := hq
      refine z_iret iX7_tokenFrom_67 rfl ?_
      refine ⟨_, rfl, rfl, ?_⟩
      unfold tkCode
      rw [if_neg hb0, if_pos hb1]
  · have hb1 := s0.1.mp h1
    have hl1 : p + (tkEnd u N p - p) ≤ N := by have g1 := tkEnd_gt (u := u) (n := N) (p := p); have g2 := tkEnd_le (u := u) hp; omega
    have hlL : ∀ i, i < tkEnd u N p - p → tkL (u (p + i)) := fun i hi => by
      by_cases z : i = 0
      · rw [z]; exact hb1
      · rcases tkEnd_in (u := u) (n := N) (p := p) (j := p + i) (by omega) (by omega) with q | q
        · first | exact q.2 | exact (tkLD q.1 hb1).elim
        · first | exact q.2 | exact (tkLD hb1 q.1).elim
    refine z_al iX7_tokenFrom_43 rfl ?_
    refine z_il iX7_tokenFrom_44 rfl ?_
    refine z_il iX7_tokenFrom_45 rfl ?_
    refine z_il iX7_tokenFrom_46 rfl ?_
    refine z_isub iX7_tokenFrom_47 ?_
    rw [show nI (tkEnd u N p) - nI p = nI (tkEnd u N p - p) from nI_sub (Nat.le_of_lt tkEnd_gt)]
    refine z_cv2i (fr' := fr - 1) iX7_tokenFrom_48 zmX7_wordOf h10 (c7_wordOf (P := nI p) (by omega) h10 h19 hN hb hu (nI_toInt (n := p) (by omega)) hl1 hlL) (by omega) (Nat.le_of_ble_eq_true rfl) (fun x M1 hq => ?_)
    obtain ⟨rfl, rfl⟩ := hq
    refine z_iret iX7_tokenFrom_51 rfl ?_
    refine ⟨_, rfl, rfl, ?_⟩
    unfold tkCode
    rw [if_pos hb1]
set_option maxRecDepth 20000 in
set_option maxHeartbeats 4000000 in
theorem c7_tokenFrom {fr : Nat} {M : zM} {N : Nat} {tc : Int32} {b : Nat → Int32} {u : Nat → Int32} (hf : 6 ≤ fr) (h10 : M (10, 0) = some (.inr (7, [zr (19, 0), zr (20, 0), zr (21, 0), zi (nI N), zi tc]))) (h19 : M (19, 0) = some (.inl (2, 160, .inl b))) (hN : N ≤ 160) (hb : ∀ j, j < N → b j = (u j).toInt8.toInt32) (hu : ∀ j, j < N → 0 ≤ (u j).toInt ∧ (u j).toInt ≤ 255) {p : Nat} (hp : p < N) : zCi zX7_tokenFrom fr 0 0 [zr (10, 0), zi (nI p)] M (fun x M' => M' = M ∧ x = tkCode u N p) := by
  refine z_enter (L := [some (zr (10, 0)), some (zi (nI p))]) rfl (by decide +kernel) (Nat.le_of_ble_eq_true rfl) ?_
  have s0 := sb (hu p hp)
  refine z_al iX7_tokenFrom_0 rfl ?_
  refine z_il iX7_tokenFrom_1 rfl ?_
  refine z_cv1i (fr' := fr - 1) iX7_tokenFrom_2 zmX7_byteAt h10 (c7_byteN h10 h19 hN hb (nI_toInt (n := p) (by omega)) hp) (by omega) (Nat.le_of_ble_eq_true rfl) (fun x M1 hq => ?_)
  obtain ⟨rfl, rfl⟩ := hq
  refine z_is iX7_tokenFrom_5 ?_
  refine z_il iX7_tokenFrom_6 rfl ?_
  refine z_co iX7_tokenFrom_7 ?_
  refine z_iadd iX7_tokenFrom_8 ?_
  refine z_is iX7_tokenFrom_9 ?_
  refine z_loc [some (zr (10, 0)), some (zi (nI p)), some (zi (u p).toInt8.toInt32), some (zi (nI (p + 1)))] ⟨rfl, rfl, rfl, ?_, trivial⟩ (l7_tokenFrom (by omega) h10 h19 hN hb hu hp (N - (p + 1)) (p + 1) (by omega) ?_)
  · show some (zi (nI p + 1)) = _
    rw [nI_1]
  · exact q7_tokenFrom (by omega) h10 h19 hN hb hu hp
