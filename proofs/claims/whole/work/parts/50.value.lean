/-- the stack holds st, its top first -/
def skS (M0 M : zM) (st : List Int32) : Prop := M (12, 0) = some (.inr (6, [zr (22, 0), zi (nI st.length)])) ∧ (∃ f : Nat → Int32, M (22, 0) = some (.inl (0, 64, .inl f)) ∧ ∀ i (h : i < st.length), f (st.length - 1 - i) = st[i]) ∧ st.length ≤ 64 ∧ ∀ a : zAd, a ≠ (12, 0) → a ≠ (22, 0) → M a = M0 a
theorem skS.push {M0 M : zM} {st : List Int32} (h : skS M0 M st) {fr : Nat} (hl : st.length < 64) (x : Int32) : zCv zX6_push fr 0 0 [zr (12, 0), zi x] M (fun M' => skS M0 M' (x :: st)) := by
  obtain ⟨h1, ⟨f, h2, h3⟩, h4, h5⟩ := h
  refine (c6_push (show 2 ≤ 12 by decide) (show 2 ≤ 22 by decide) (show (12 : Nat) ≠ 22 by decide) hl h1 h2 x).mono (fun M' hM => ?_)
  subst hM
  refine ⟨?_, ⟨_, (zupd_k (show (22 : Nat) ≠ 12 by decide)).trans zupd_s, fun i hi => ?_⟩, hl, fun a a1 a2 => (zupd_n a1).trans ((zupd_n a2).trans (h5 a a1 a2))⟩
  · rw [zupd_s, List.length_cons, nI_succ]
  · cases i with
    | zero => exact zup_s
    | succ i =>
      simp only [List.length_cons] at hi ⊢
      rw [zup_n (by omega), show st.length + 1 - 1 - (i + 1) = st.length - 1 - i by omega, h3 i (by omega)]
      rfl
theorem skS.pop {M0 M : zM} {st : List Int32} {y : Int32} (h : skS M0 M (y :: st)) {fr : Nat} : zCi zX6_pop fr 0 0 [zr (12, 0)] M (fun x M' => x = y ∧ skS M0 M' st) := by
  obtain ⟨h1, ⟨f, h2, h3⟩, h4, h5⟩ := h
  simp only [List.length_cons] at h1 h4
  refine (c6_pop (show 2 ≤ 12 by decide) (show st.length < 64 by omega) h1 h2 (show (22 : Nat) ≠ 12 by decide)).mono (fun x M' hM => ?_)
  obtain ⟨rfl, rfl⟩ := hM
  refine ⟨?_, ?_, ⟨f, (zupd_k (show (22 : Nat) ≠ 12 by decide)).trans h2, fun i hi => ?_⟩, by omega, fun a a1 a2 => (zupd_n a1).trans (h5 a a1 a2)⟩
  · have := h3 0 (by simp only [List.length_cons]; omega)
    simp only [List.length_cons] at this
    rw [show st.length + 1 - 1 - 0 = st.length by omega] at this
    exact this
  · rw [zupd_s, nI_succ, zp1]
  · have := h3 (i + 1) (by simp only [List.length_cons]; omega)
    simp only [List.length_cons] at this
    rw [show st.length + 1 - 1 - (i + 1) = st.length - 1 - i by omega] at this
    exact this
theorem skS.clear {M0 : zM} {h : Int32} {f : Nat → Int32} (h1 : M0 (12, 0) = some (.inr (6, [zr (22, 0), zi h]))) (h2 : M0 (22, 0) = some (.inl (0, 64, .inl f))) {fr : Nat} : zCv zX6_clear fr 0 0 [zr (12, 0)] M0 (fun M' => skS M0 M' []) :=
  (c6_clear (show 2 ≤ 12 by decide) h1).mono (fun M' hM => by
    subst hM
    exact ⟨zupd_s, ⟨f, (zupd_k (show (22 : Nat) ≠ 12 by decide)).trans h2, fun i hi => absurd hi (Nat.not_lt_zero i)⟩, Nat.zero_le _, fun a a1 a2 => zupd_n a1⟩)
theorem pqStp_c {env : Nat → Int32} {x : Int32} {st st' : List Int32} (h : pqStp env x st = some st') : ∃ y r, st' = y :: r := by
  unfold pqStp at h
  split at h
  · split at h
    · exact ⟨_, _, (Option.some.inj h).symm⟩
    · cases h
  · split at h
    · split at h
      · exact ⟨_, _, (Option.some.inj h).symm⟩
      · cases h
    · split at h
      · split at h
        · exact ⟨_, _, (Option.some.inj h).symm⟩
        · cases h
      · split at h
        · exact ⟨_, _, (Option.some.inj h).symm⟩
        · cases h
set_option maxRecDepth 20000 in
set_option maxHeartbeats 4000000 in
theorem c8_joined {fr : Nat} {M : zM} (x a b : Int32) : zCi zX8_joined fr 0 0 [zi x, zi a, zi b] M (fun z M' => M' = M ∧ z = pqBin x a b) := by
  refine z_enter (L := [some (zi x), some (zi a), some (zi b)]) rfl (by decide +kernel) (Nat.le_of_ble_eq_true rfl) ?_
  refine z_il iX8_joined_0 rfl ?_
  refine z_sw iX8_joined_1 ⟨fun h1 => ?_, fun h1 => ?_, fun h1 => ?_, fun h1 => ?_, fun h1 => ?_, fun h1 => ?_, fun h1 => ?_, trivial⟩ (fun h1 => ?_)
  · refine z_il iX8_joined_92 rfl ?_
    refine z_if_ne iX8_joined_93 (fun h2 => ?_) (fun h2 => ?_)
    · refine z_co iX8_joined_100 ?_
      refine z_goto iX8_joined_101 ?_
      refine z_iret iX8_joined_105 rfl ?_
      refine ⟨_, rfl, rfl, ?_⟩
      unfold pqBin
      try simp only [List.length_cons, List.length_nil] at h1
      repeat' split
      all_goals first | rfl | (exfalso; simp only [zi_eq, zi_lt, Int32.reduceToInt] at * <;> omega) | (exfalso; simp only [zi_lt, zi_eq, Int32.reduceToInt, not_or, not_and, ne_eq, Decidable.not_not] at * <;> omega) | grind
    · refine z_il iX8_joined_96 rfl ?_
      refine z_if_eq iX8_joined_97 (fun h3 => ?_) (fun h3 => ?_)
      · refine z_co iX8_joined_104 ?_
        refine z_iret iX8_joined_105 rfl ?_
        refine ⟨_, rfl, rfl, ?_⟩
        unfold pqBin
        try simp only [List.length_cons, List.length_nil] at h1
        repeat' split
        all_goals first | rfl | (exfalso; simp only [zi_eq, zi_lt, Int32.reduceToInt] at * <;> omega) | (exfalso; simp only [zi_lt, zi_eq, Int32.reduceToInt, not_or, not_and, ne_eq, Decidable.not_not] at * <;> omega) | grind
      · refine z_co iX8_joined_100 ?_
        refine z_goto iX8_joined_101 ?_
        refine z_iret iX8_joined_105 rfl ?_
        refine ⟨_, rfl, rfl, ?_⟩
        unfold pqBin
        try simp only [List.length_cons, List.length_nil] at h1
        repeat' split
        all_goals first | rfl | (exfalso; simp only [zi_eq, zi_lt, Int32.reduceToInt] at * <;> omega) | (exfalso; simp only [zi_lt, zi_eq, Int32.reduceToInt, not_or, not_and, ne_eq, Decidable.not_not] at * <;> omega) | grind
  · refine z_il iX8_joined_78 rfl ?_
    refine z_if_eq iX8_joined_79 (fun h4 => ?_) (fun h4 => ?_)
    · refine z_co iX8_joined_90 ?_
      refine z_iret iX8_joined_91 rfl ?_
      refine ⟨_, rfl, rfl, ?_⟩
      unfold pqBin
      try simp only [List.length_cons, List.length_nil] at h1
      repeat' split
      all_goals first | rfl | (exfalso; simp only [zi_eq, zi_lt, Int32.reduceToInt] at * <;> omega) | (exfalso; simp only [zi_lt, zi_eq, Int32.reduceToInt, not_or, not_and, ne_eq, Decidable.not_not] at * <;> omega) | grind
    · refine z_il iX8_joined_82 rfl ?_
      refine z_if_eq iX8_joined_83 (fun h5 => ?_) (fun h5 => ?_)
      · refine z_co iX8_joined_90 ?_
        refine z_iret iX8_joined_91 rfl ?_
        refine ⟨_, rfl, rfl, ?_⟩
        unfold pqBin
        try simp only [List.length_cons, List.length_nil] at h1
        repeat' split
        all_goals first | rfl | (exfalso; simp only [zi_eq, zi_lt, Int32.reduceToInt] at * <;> omega) | (exfalso; simp only [zi_lt, zi_eq, Int32.reduceToInt, not_or, not_and, ne_eq, Decidable.not_not] at * <;> omega) | grind
      · refine z_co iX8_joined_86 ?_
        refine z_goto iX8_joined_87 ?_
        refine z_iret iX8_joined_91 rfl ?_
        refine ⟨_, rfl, rfl, ?_⟩
        unfold pqBin
        try simp only [List.length_cons, List.length_nil] at h1
        repeat' split
        all_goals first | rfl | (exfalso; simp only [zi_eq, zi_lt, Int32.reduceToInt] at * <;> omega) | (exfalso; simp only [zi_lt, zi_eq, Int32.reduceToInt, not_or, not_and, ne_eq, Decidable.not_not] at * <;> omega) | grind
  · refine z_il iX8_joined_67 rfl ?_
    refine z_il iX8_joined_68 rfl ?_
    refine z_icmp_ne iX8_joined_69 (fun h6 => ?_) (fun h6 => ?_)
    · refine z_co iX8_joined_76 ?_
      refine z_iret iX8_joined_77 rfl ?_
      refine ⟨_, rfl, rfl, ?_⟩
      unfold pqBin
      try simp only [List.length_cons, List.length_nil] at h1
      repeat' split
      all_goals first | rfl | (exfalso; simp only [zi_eq, zi_lt, Int32.reduceToInt] at * <;> omega) | (exfalso; simp only [zi_lt, zi_eq, Int32.reduceToInt, not_or, not_and, ne_eq, Decidable.not_not] at * <;> omega) | grind
    · refine z_co iX8_joined_72 ?_
      refine z_goto iX8_joined_73 ?_
      refine z_iret iX8_joined_77 rfl ?_
      refine ⟨_, rfl, rfl, ?_⟩
      unfold pqBin
      try simp only [List.length_cons, List.length_nil] at h1
      repeat' split
      all_goals first | rfl | (exfalso; simp only [zi_eq, zi_lt, Int32.reduceToInt] at * <;> omega) | (exfalso; simp only [zi_lt, zi_eq, Int32.reduceToInt, not_or, not_and, ne_eq, Decidable.not_not] at * <;> omega) | grind
  · refine z_il iX8_joined_56 rfl ?_
    refine z_il iX8_joined_57 rfl ?_
    refine z_icmp_ge iX8_joined_58 (fun h7 => ?_) (fun h7 => ?_)
    · refine z_co iX8_joined_65 ?_
      refine z_iret iX8_joined_66 rfl ?_
      refine ⟨_, rfl, rfl, ?_⟩
      unfold pqBin
      try simp only [List.length_cons, List.length_nil] at h1
      repeat' split
      all_goals first | rfl | (exfalso; simp only [zi_eq, zi_lt, Int32.reduceToInt] at * <;> omega) | (exfalso; simp only [zi_lt, zi_eq, Int32.reduceToInt, not_or, not_and, ne_eq, Decidable.not_not] at * <;> omega) | grind
    · refine z_co iX8_joined_61 ?_
      refine z_goto iX8_joined_62 ?_
      refine z_iret iX8_joined_66 rfl ?_
      refine ⟨_, rfl, rfl, ?_⟩
      unfold pqBin
      try simp only [List.length_cons, List.length_nil] at h1
      repeat' split
      all_goals first | rfl | (exfalso; simp only [zi_eq, zi_lt, Int32.reduceToInt] at * <;> omega) | (exfalso; simp only [zi_lt, zi_eq, Int32.reduceToInt, not_or, not_and, ne_eq, Decidable.not_not] at * <;> omega) | grind
  · refine z_il iX8_joined_52 rfl ?_
    refine z_il iX8_joined_53 rfl ?_
    refine z_isub iX8_joined_54 ?_
    refine z_iret iX8_joined_55 rfl ?_
    refine ⟨_, rfl, rfl, ?_⟩
    unfold pqBin
    try simp only [List.length_cons, List.length_nil] at h1
    repeat' split
    all_goals first | rfl | (exfalso; simp only [zi_eq, zi_lt, Int32.reduceToInt] at * <;> omega) | (exfalso; simp only [zi_lt, zi_eq, Int32.reduceToInt, not_or, not_and, ne_eq, Decidable.not_not] at * <;> omega) | grind
  · refine z_il iX8_joined_48 rfl ?_
    refine z_il iX8_joined_49 rfl ?_
    refine z_iadd iX8_joined_50 ?_
    refine z_iret iX8_joined_51 rfl ?_
    refine ⟨_, rfl, rfl, ?_⟩
    unfold pqBin
    try simp only [List.length_cons, List.length_nil] at h1
    repeat' split
    all_goals first | rfl | (exfalso; simp only [zi_eq, zi_lt, Int32.reduceToInt] at * <;> omega) | (exfalso; simp only [zi_lt, zi_eq, Int32.reduceToInt, not_or, not_and, ne_eq, Decidable.not_not] at * <;> omega) | grind
  · refine z_il iX8_joined_44 rfl ?_
    refine z_il iX8_joined_45 rfl ?_
    refine z_imul iX8_joined_46 ?_
    refine z_iret iX8_joined_47 rfl ?_
    refine ⟨_, rfl, rfl, ?_⟩
    unfold pqBin
    try simp only [List.length_cons, List.length_nil] at h1
    repeat' split
    all_goals first | rfl | (exfalso; simp only [zi_eq, zi_lt, Int32.reduceToInt] at * <;> omega) | (exfalso; simp only [zi_lt, zi_eq, Int32.reduceToInt, not_or, not_and, ne_eq, Decidable.not_not] at * <;> omega) | grind
  · refine z_co iX8_joined_106 ?_
    refine z_iret iX8_joined_107 rfl ?_
    refine ⟨_, rfl, rfl, ?_⟩
    unfold pqBin
    try simp only [List.length_cons, List.length_nil] at h1
    repeat' split
    all_goals first | rfl | (exfalso; simp only [zi_eq, zi_lt, Int32.reduceToInt] at * <;> omega) | (exfalso; simp only [zi_lt, zi_eq, Int32.reduceToInt, not_or, not_and, ne_eq, Decidable.not_not] at * <;> omega) | grind
set_option maxRecDepth 20000 in
set_option maxHeartbeats 4000000 in
theorem c8_resultOf {fr : Nat} {M0 M : zM} {nm : Nat → Int32} {st st2 : List Int32} {sp y : Int32} (hf : 1 ≤ fr) (hn : M (13, 0) = some (.inl (0, 6, .inl nm))) (hS : skS M0 M st) (hs : pqStp nm sp st = some (y :: st2)) : zCi zX8_resultOf fr 0 0 [zi sp, zr (13, 0), zr (12, 0)] M (fun z M' => z = y ∧ skS M0 M' st2) := by
  refine z_enter (L := [some (zi sp), some (zr (13, 0)), some (zr (12, 0))]) rfl (by decide +kernel) (Nat.le_of_ble_eq_true rfl) ?_
  unfold pqStp at hs
  refine z_il iX8_resultOf_0 rfl ?_
  refine z_if_lt iX8_resultOf_1 (fun h1 => ?_) (fun h1 => ?_)
  · have e1 : (-1 - sp).toInt = -1 - sp.toInt := zsub (by simp only [zi_lt, Int32.reduceToInt] at h1 ⊢; have := sp.le_toInt; omega) (by simp only [zi_lt, Int32.reduceToInt] at h1 ⊢; have := sp.le_toInt; omega)
    have g0 : ¬ (0 : Int32) ≤ sp := by simp only [zi_le, zi_lt, Int32.reduceToInt] at h1 ⊢; omega
    refine z_co iX8_resultOf_6 ?_
    refine z_il iX8_resultOf_7 rfl ?_
    refine z_isub iX8_resultOf_8 ?_
    refine z_is iX8_resultOf_9 ?_
    refine z_il iX8_resultOf_10 rfl ?_
    refine z_co iX8_resultOf_11 ?_
    refine z_icmp_ge iX8_resultOf_13 (fun h2 => ?_) (fun h2 => ?_)
    · have g5 : (6 : Int32) ≤ -1 - sp := by assumption
      have g6 : ¬ (-6 : Int32) ≤ sp := by
        simp only [zi_le, e1, Int32.reduceToInt] at g5 ⊢
        omega
      rw [if_neg g6] at hs
      have hne : st ≠ [] := fun q => by
        rw [q] at hs
        split at hs
        · cases hs
        · split at hs <;> cases hs
      obtain ⟨a, r, rfl⟩ : ∃ a r, st = a :: r := by
        cases st with
        | nil => exact absurd rfl hne
        | cons a r => exact ⟨a, r, rfl⟩
      have hS1 := hS
      refine z_al iX8_resultOf_26 rfl ?_
      refine z_cv0i (fr' := fr - 1) iX8_resultOf_27 zmX6_pop hS1.1 (hS1.pop) (by omega) (Nat.le_of_ble_eq_true rfl) (fun x M1 hq => ?_)
      obtain ⟨rfl, hS2⟩ := hq
      refine z_is iX8_resultOf_30 ?_
      refine z_il iX8_resultOf_32 rfl ?_
      refine z_co iX8_resultOf_33 ?_
      refine z_icmp_ne iX8_resultOf_35 (fun h3 => ?_) (fun h3 => ?_)
      · have k7 := h3
        rw [if_neg k7] at hs
        refine z_il iX8_resultOf_42 rfl ?_
        refine z_co iX8_resultOf_43 ?_
        refine z_icmp_ne iX8_resultOf_45 (fun h4 => ?_) (fun h4 => ?_)
        · have k8 := h4
          rw [if_neg k8] at hs
          obtain ⟨a2, r2, rfl⟩ : ∃ a2 r2, r = a2 :: r2 := by
            cases r with
            | nil => cases hs
            | cons a2 r2 => exact ⟨a2, r2, rfl⟩
          simp only [Option.some.injEq, List.cons.injEq] at hs
          obtain ⟨rfl, rfl⟩ := hs
          have hS3 := hS2
          refine z_il iX8_resultOf_59 rfl ?_
          refine z_al iX8_resultOf_60 rfl ?_
          refine z_cv0i (fr' := fr - 1) iX8_resultOf_61 zmX6_pop hS3.1 (hS3.pop) (by omega) (Nat.le_of_ble_eq_true rfl) (fun x M1 hq => ?_)
          obtain ⟨rfl, hS4⟩ := hq
          refine z_il iX8_resultOf_64 rfl ?_
          refine z_cs3i (fr' := fr - 1) iX8_resultOf_66 zmX8_joined (c8_joined _ _ _) (by omega) (Nat.le_of_ble_eq_true rfl) (fun x M1 hq => ?_)
          obtain ⟨rfl, rfl⟩ := hq
          refine z_iret iX8_resultOf_69 rfl ?_
          exact ⟨_, rfl, rfl, hS4⟩
        · have k8 := h4
          rw [if_pos k8] at hs
          simp only [Option.some.injEq, List.cons.injEq] at hs
          obtain ⟨rfl, rfl⟩ := hs
          refine z_il iX8_resultOf_48 rfl ?_
          refine z_if_ne iX8_resultOf_50 (fun h5 => ?_) (fun h5 => ?_)
          · refine z_co iX8_resultOf_57 ?_
            refine z_iret iX8_resultOf_58 rfl ?_
            first | exact ⟨_, rfl, (if_pos (by assumption)).symm, hS2⟩ | exact ⟨_, rfl, (if_neg (by assumption)).symm, hS2⟩
          · refine z_co iX8_resultOf_53 ?_
            refine z_goto iX8_resultOf_54 ?_
            refine z_iret iX8_resultOf_58 rfl ?_
            first | exact ⟨_, rfl, (if_pos (by assumption)).symm, hS2⟩ | exact ⟨_, rfl, (if_neg (by assumption)).symm, hS2⟩
      · have k7 := h3
        rw [if_pos k7] at hs
        simp only [Option.some.injEq, List.cons.injEq] at hs
        obtain ⟨rfl, rfl⟩ := hs
        refine z_il iX8_resultOf_38 rfl ?_
        refine z_ineg iX8_resultOf_40 ?_
        refine z_iret iX8_resultOf_41 rfl ?_
        exact ⟨_, rfl, rfl, hS2⟩
    · refine z_il iX8_resultOf_16 rfl ?_
      refine z_al iX8_resultOf_17 rfl ?_
      refine z_alen iX8_resultOf_18 hn (by decide) ?_
      refine z_icmp_ge iX8_resultOf_19 (fun h6 => ?_) (fun h6 => ?_)
      · have g5 : (6 : Int32) ≤ -1 - sp := by assumption
        have g6 : ¬ (-6 : Int32) ≤ sp := by
          simp only [zi_le, e1, Int32.reduceToInt] at g5 ⊢
          omega
        rw [if_neg g6] at hs
        have hne : st ≠ [] := fun q => by
          rw [q] at hs
          split at hs
          · cases hs
          · split at hs <;> cases hs
        obtain ⟨a, r, rfl⟩ : ∃ a r, st = a :: r := by
          cases st with
          | nil => exact absurd rfl hne
          | cons a r => exact ⟨a, r, rfl⟩
        have hS1 := hS
        refine z_al iX8_resultOf_26 rfl ?_
        refine z_cv0i (fr' := fr - 1) iX8_resultOf_27 zmX6_pop hS1.1 (hS1.pop) (by omega) (Nat.le_of_ble_eq_true rfl) (fun x M1 hq => ?_)
        obtain ⟨rfl, hS2⟩ := hq
        refine z_is iX8_resultOf_30 ?_
        refine z_il iX8_resultOf_32 rfl ?_
        refine z_co iX8_resultOf_33 ?_
        refine z_icmp_ne iX8_resultOf_35 (fun h7 => ?_) (fun h7 => ?_)
        · have k7 := h7
          rw [if_neg k7] at hs
          refine z_il iX8_resultOf_42 rfl ?_
          refine z_co iX8_resultOf_43 ?_
          refine z_icmp_ne iX8_resultOf_45 (fun h8 => ?_) (fun h8 => ?_)
          · have k8 := h8
            rw [if_neg k8] at hs
            obtain ⟨a2, r2, rfl⟩ : ∃ a2 r2, r = a2 :: r2 := by
              cases r with
              | nil => cases hs
              | cons a2 r2 => exact ⟨a2, r2, rfl⟩
            simp only [Option.some.injEq, List.cons.injEq] at hs
            obtain ⟨rfl, rfl⟩ := hs
            have hS3 := hS2
            refine z_il iX8_resultOf_59 rfl ?_
            refine z_al iX8_resultOf_60 rfl ?_
            refine z_cv0i (fr' := fr - 1) iX8_resultOf_61 zmX6_pop hS3.1 (hS3.pop) (by omega) (Nat.le_of_ble_eq_true rfl) (fun x M1 hq => ?_)
            obtain ⟨rfl, hS4⟩ := hq
            refine z_il iX8_resultOf_64 rfl ?_
            refine z_cs3i (fr' := fr - 1) iX8_resultOf_66 zmX8_joined (c8_joined _ _ _) (by omega) (Nat.le_of_ble_eq_true rfl) (fun x M1 hq => ?_)
            obtain ⟨rfl, rfl⟩ := hq
            refine z_iret iX8_resultOf_69 rfl ?_
            exact ⟨_, rfl, rfl, hS4⟩
          · have k8 := h8
            rw [if_pos k8] at hs
            simp only [Option.some.injEq, List.cons.injEq] at hs
            obtain ⟨rfl, rfl⟩ := hs
            refine z_il iX8_resultOf_48 rfl ?_
            refine z_if_ne iX8_resultOf_50 (fun h9 => ?_) (fun h9 => ?_)
            · refine z_co iX8_resultOf_57 ?_
              refine z_iret iX8_resultOf_58 rfl ?_
              first | exact ⟨_, rfl, (if_pos (by assumption)).symm, hS2⟩ | exact ⟨_, rfl, (if_neg (by assumption)).symm, hS2⟩
            · refine z_co iX8_resultOf_53 ?_
              refine z_goto iX8_resultOf_54 ?_
              refine z_iret iX8_resultOf_58 rfl ?_
              first | exact ⟨_, rfl, (if_pos (by assumption)).symm, hS2⟩ | exact ⟨_, rfl, (if_neg (by assumption)).symm, hS2⟩
        · have k7 := h7
          rw [if_pos k7] at hs
          simp only [Option.some.injEq, List.cons.injEq] at hs
          obtain ⟨rfl, rfl⟩ := hs
          refine z_il iX8_resultOf_38 rfl ?_
          refine z_ineg iX8_resultOf_40 ?_
          refine z_iret iX8_resultOf_41 rfl ?_
          exact ⟨_, rfl, rfl, hS2⟩
      · have g5 : ¬ (6 : Int32) ≤ -1 - sp := by assumption
        have g6 : (-6 : Int32) ≤ sp := by simp only [zi_le, e1, Int32.reduceToInt] at g5 ⊢; omega
        have e0 : zN (-1 - sp) = (-1 - sp).toInt.toNat := rfl
        have g7 : (-1 - sp).toInt = (zN (-1 - sp) : Int) ∧ zN (-1 - sp) < 6 := by
          have g9 : sp < 0 := h1
          simp only [zi_le, zi_lt, e1, Int32.reduceToInt] at g5 g9
          omega
        rw [if_pos g6] at hs
        refine z_al iX8_resultOf_22 rfl ?_
        refine z_il iX8_resultOf_23 rfl ?_
        refine z_iald iX8_resultOf_24 hn g7.1 g7.2 ?_
        refine z_iret iX8_resultOf_25 rfl ?_
        split at hs
        · cases hs
          exact ⟨_, rfl, (if_neg g0).symm, hS⟩
        · cases hs
  · have g0 : (0 : Int32) ≤ sp := by simp only [zi_le, zi_lt, Int32.reduceToInt] at h1 ⊢; omega
    have g6 : (-6 : Int32) ≤ sp := by simp only [zi_le, Int32.reduceToInt] at g0 ⊢; omega
    rw [if_pos g6] at hs
    refine z_il iX8_resultOf_4 rfl ?_
    refine z_iret iX8_resultOf_5 rfl ?_
    split at hs
    · cases hs
      exact ⟨_, rfl, (if_pos g0).symm, hS⟩
    · cases hs
theorem pqStp_l {env : Nat → Int32} {x y : Int32} {st r : List Int32} (h : pqStp env x st = some (y :: r)) (hl : st.length ≤ 64) : r.length < 64 := by
  unfold pqStp at h
  split at h
  · split at h
    · next q => cases h; exact q
    · cases h
  · split at h
    · split at h
      · cases h; simp only [List.length_cons] at hl; omega
      · cases h
    · split at h
      · split at h
        · cases h; simp only [List.length_cons] at hl; omega
        · cases h
      · split at h
        · cases h; simp only [List.length_cons] at hl; omega
        · cases h
set_option maxRecDepth 20000 in
set_option maxHeartbeats 4000000 in
theorem l8_valueOf {fr : Nat} {M0 : zM} {t : Nat} {sz : Int32} {f g nm : Nat → Int32} {pt : Int32} {k b : Nat} {v : Int32} (hf : 2 ≤ fr) (h23 : M0 (23, t) = some (.inr (8, [zr (24, t), zr (25, t), zi sz, zi 3]))) (h24 : M0 (24, t) = some (.inl (0, 160, .inl f))) (h25 : M0 (25, t) = some (.inl (0, 3, .inl g))) (hn : M0 (13, 0) = some (.inl (0, 6, .inl nm))) (hp : pt.toInt = (k : Int)) (hp3 : k < 3) (hgb : g k = nI b) (hb160 : b ≤ 160) : ∀ (ws : List Int32) (i : Nat) (M : zM) (st : List Int32), i + ws.length = b → (∀ j (h : j < ws.length), f (i + j) = ws[j]) → pqRun nm ws st = some [v] → skS M0 M st → zV zX8_valueOf fr 0 0 45 (zL [some (zr (23, t)), some (zi pt), some (zr (13, 0)), some (zr (12, 0)), none, some (zi (nI i))]) [] M (fun r M' => ∃ x, r = some (zi x) ∧ x = v ∧ skS M0 M' []) := by
  intro ws
  induction ws with
  | nil =>
    intro i M st hb hw hs hS
    refine z_il iX8_valueOf_45 rfl ?_
    refine z_al iX8_valueOf_47 rfl ?_
    refine z_gf iX8_valueOf_48 ((hS.2.2.2 _ (zad1 (by decide)) (zad1 (by decide))).trans h23) rfl ?_
    refine z_il iX8_valueOf_51 rfl ?_
    refine z_iald iX8_valueOf_52 ((hS.2.2.2 _ (zad1 (by decide)) (zad1 (by decide))).trans h25) hp hp3 ?_
    refine z_icmp_ge iX8_valueOf_53 (fun h1 => ?_) (fun h1 => ?_)
    · cases hs
      refine z_al iX8_valueOf_86 rfl ?_
      refine z_cv0i (fr' := fr - 1) iX8_valueOf_87 zmX6_pop hS.1 (hS.pop) (by omega) (Nat.le_of_ble_eq_true rfl) (fun x M1 hq => ?_)
      obtain ⟨rfl, hS2⟩ := hq
      refine z_iret iX8_valueOf_90 rfl ?_
      exact ⟨_, rfl, rfl, hS2⟩
    · exfalso
      have e1 := nI_toInt (n := i) (by omega)
      have e2 := nI_toInt (n := b) (by omega)
      rw [hgb] at h1
      simp only [zi_le, e1, e2] at h1
      simp only [List.length_nil, List.length_cons] at hb
      omega
  | cons w ws ih =>
    intro i M st hb hw hs hS
    refine z_il iX8_valueOf_45 rfl ?_
    refine z_al iX8_valueOf_47 rfl ?_
    refine z_gf iX8_valueOf_48 ((hS.2.2.2 _ (zad1 (by decide)) (zad1 (by decide))).trans h23) rfl ?_
    refine z_il iX8_valueOf_51 rfl ?_
    refine z_iald iX8_valueOf_52 ((hS.2.2.2 _ (zad1 (by decide)) (zad1 (by decide))).trans h25) hp hp3 ?_
    refine z_icmp_ge iX8_valueOf_53 (fun h1 => ?_) (fun h1 => ?_)
    · exfalso
      have e1 := nI_toInt (n := i) (by omega)
      have e2 := nI_toInt (n := b) (by omega)
      rw [hgb] at h1
      simp only [zi_le, e1, e2] at h1
      simp only [List.length_nil, List.length_cons] at hb
      omega
    · refine z_il iX8_valueOf_56 rfl ?_
      refine z_co iX8_valueOf_58 ?_
      refine z_icmp_ge iX8_valueOf_61 (fun h2 => ?_) (fun h2 => ?_)
      · exfalso
        have e1 := nI_toInt (n := i) (by omega)
        simp only [zi_le, e1, Int32.reduceToInt] at h2
        simp only [List.length_cons] at hb
        omega
      · simp only [List.length_cons] at hb
        refine z_al iX8_valueOf_64 rfl ?_
        refine z_al iX8_valueOf_65 rfl ?_
        refine z_gf iX8_valueOf_66 ((hS.2.2.2 _ (zad1 (by decide)) (zad1 (by decide))).trans h23) rfl ?_
        refine z_il iX8_valueOf_69 rfl ?_
        refine z_iald iX8_valueOf_71 ((hS.2.2.2 _ (zad1 (by decide)) (zad1 (by decide))).trans h24) (nI_toInt (n := i) (by omega)) (show i < 160 by omega) ?_
        refine z_al iX8_valueOf_72 rfl ?_
        refine z_al iX8_valueOf_73 rfl ?_
        have e0 : f i = w := hw 0 (by simp only [List.length_cons]; omega)
        rw [e0]
        unfold pqRun at hs
        cases hst : pqStp nm w st with
        | none => rw [hst] at hs; cases hs
        | some st' =>
        rw [hst] at hs
        obtain ⟨y, r, rfl⟩ := pqStp_c hst
        have hs2 := hs
        have hs := hst
        have hlt : r.length < 64 := pqStp_l hst hS.2.2.1
        refine z_cs3i (fr' := fr - 1) iX8_valueOf_74 zmX8_resultOf (c8_resultOf (by omega) ((hS.2.2.2 _ (zad1 (by decide)) (zad1 (by decide))).trans hn) hS hs) (by omega) (Nat.le_of_ble_eq_true rfl) (fun x M1 hq => ?_)
        obtain ⟨rfl, hS2⟩ := hq
        have hS0 := hS
        have hS := hS2
        refine z_cv1v (fr' := fr - 1) iX8_valueOf_77 zmX6_push hS.1 (hS.push hlt _) (by omega) (Nat.le_of_ble_eq_true rfl) (fun M1 hq => ?_)
        have hS := hq
        refine z_in iX8_valueOf_80 rfl ?_
        refine z_goto iX8_valueOf_83 ?_
        refine z_loc [some (zr (23, t)), some (zi pt), some (zr (13, 0)), some (zr (12, 0)), none, some (zi (nI (i + 1)))] ⟨rfl, rfl, rfl, rfl, ?_, trivial⟩ (ih (i + 1) _ _ (by omega) (fun j hj => ?_) hs2 hS)
        · show some (zi (nI i + 1)) = _
          rw [nI_1]
        · have := hw (j + 1) (by simp only [List.length_cons]; omega)
          rw [show i + 1 + j = i + (j + 1) by omega, this]
          rfl
set_option maxRecDepth 20000 in
set_option maxHeartbeats 4000000 in
theorem c8_valueOf {fr : Nat} {M : zM} {t : Nat} {sz : Int32} {f g nm : Nat → Int32} {pt : Int32} {k a b : Nat} {v h0 : Int32} {fw : Nat → Int32} {ws : List Int32} (hf : 2 ≤ fr) (h23 : M (23, t) = some (.inr (8, [zr (24, t), zr (25, t), zi sz, zi 3]))) (h24 : M (24, t) = some (.inl (0, 160, .inl f))) (h25 : M (25, t) = some (.inl (0, 3, .inl g))) (hn : M (13, 0) = some (.inl (0, 6, .inl nm))) (h12 : M (12, 0) = some (.inr (6, [zr (22, 0), zi h0]))) (h22 : M (22, 0) = some (.inl (0, 64, .inl fw))) (hp : pt.toInt = (k : Int)) (hp3 : k < 3) (ha1 : k = 0 → a = 0) (ha2 : ¬ k = 0 → g (k - 1) = nI a) (hgb : g k = nI b) (hb160 : b ≤ 160) (hab : a + ws.length = b) (hw : ∀ j (h : j < ws.length), f (a + j) = ws[j]) (hs : pqRun nm ws [] = some [v]) : zCi zX8_valueOf fr 0 0 [zr (23, t), zi pt, zr (13, 0), zr (12, 0)] M (fun x M' => x = v ∧ skS M M' []) := by
  refine z_enter (L := [some (zr (23, t)), some (zi pt), some (zr (13, 0)), some (zr (12, 0))]) rfl (by decide +kernel) (Nat.le_of_ble_eq_true rfl) ?_
  refine z_il iX8_valueOf_0 rfl ?_
  refine z_if_lt iX8_valueOf_1 (fun h1 => ?_) (fun h1 => ?_)
  · exfalso
    simp only [zi_le, zi_lt, Int32.reduceToInt] at h1
    omega
  · refine z_il iX8_valueOf_4 rfl ?_
    refine z_al iX8_valueOf_5 rfl ?_
    refine z_gf iX8_valueOf_6 h23 rfl ?_
    refine z_icmp_ge iX8_valueOf_9 (fun h2 => ?_) (fun h2 => ?_)
    · exfalso
      simp only [zi_le, zi_lt, Int32.reduceToInt] at h2
      omega
    · refine z_il iX8_valueOf_12 rfl ?_
      refine z_co iX8_valueOf_13 ?_
      refine z_icmp_lt iX8_valueOf_14 (fun h3 => ?_) (fun h3 => ?_)
      · refine z_il iX8_valueOf_19 rfl ?_
        refine z_if_ne iX8_valueOf_20 (fun h4 => ?_) (fun h4 => ?_)
        · refine z_al iX8_valueOf_27 rfl ?_
          refine z_gf iX8_valueOf_28 h23 rfl ?_
          have hk0 : ¬ k = 0 := fun q => by
            refine h4 ?_
            rw [← Int32.toInt_inj, hp, q]
            rfl
          refine z_il iX8_valueOf_31 rfl ?_
          refine z_co iX8_valueOf_32 ?_
          refine z_isub iX8_valueOf_33 ?_
          refine z_iald iX8_valueOf_34 h25 (show (pt - 1).toInt = ((k - 1 : Nat) : Int) by rw [zsub (by simp only [Int32.reduceToInt]; omega) (by simp only [Int32.reduceToInt]; omega)]; simp only [Int32.reduceToInt]; omega) (show k - 1 < 3 by omega) ?_
          refine z_is iX8_valueOf_35 ?_
          refine z_al iX8_valueOf_37 rfl ?_
          refine z_cv0v (fr' := fr - 1) iX8_valueOf_38 zmX6_clear h12 (skS.clear h12 h22) (by omega) (Nat.le_of_ble_eq_true rfl) (fun M1 hq => ?_)
          have hS := hq
          refine z_il iX8_valueOf_41 rfl ?_
          refine z_is iX8_valueOf_43 ?_
          have hk0 : ¬ k = 0 := fun q => by
            refine h4 ?_
            rw [← Int32.toInt_inj, hp, q]
            rfl
          rw [ha2 hk0]
          refine z_loc [some (zr (23, t)), some (zi pt), some (zr (13, 0)), some (zr (12, 0)), none, some (zi (nI a))] ⟨rfl, rfl, rfl, rfl, rfl, trivial⟩ (l8_valueOf hf h23 h24 h25 hn hp hp3 hgb (by omega) ws a _ _ hab hw hs hS)
        · refine z_co iX8_valueOf_23 ?_
          refine z_goto iX8_valueOf_24 ?_
          refine z_is iX8_valueOf_35 ?_
          refine z_al iX8_valueOf_37 rfl ?_
          refine z_cv0v (fr' := fr - 1) iX8_valueOf_38 zmX6_clear h12 (skS.clear h12 h22) (by omega) (Nat.le_of_ble_eq_true rfl) (fun M1 hq => ?_)
          have hS := hq
          refine z_il iX8_valueOf_41 rfl ?_
          refine z_is iX8_valueOf_43 ?_
          have hk0 : k = 0 := by
            have e9 := congrArg Int32.toInt h4
            rw [hp] at e9
            simp only [Int32.reduceToInt] at e9
            omega
          refine z_loc [some (zr (23, t)), some (zi pt), some (zr (13, 0)), some (zr (12, 0)), none, some (zi (nI a))] ⟨rfl, rfl, rfl, rfl, (by rw [ha1 hk0]; rfl), trivial⟩ (l8_valueOf hf h23 h24 h25 hn hp hp3 hgb (by omega) ws a _ _ hab hw hs hS)
      · exfalso
        simp only [zi_le, zi_lt, Int32.reduceToInt] at h3
        omega
