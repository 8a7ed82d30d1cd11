/-! the rows that follow one another -/
def swp (l : List Nat) (i j : Nat) : List Nat := (l.set i (l.getD j 0)).set j (l.getD i 0)
def upI (l : List Nat) : Nat → Option Nat
  | 0 => none
  | k + 1 => if l.getD (k + 1) 0 < l.getD k 0 then upI l k else some k
def upJ (l : List Nat) (i : Nat) : Nat → Nat
  | 0 => i
  | n + 1 => if l.getD (i + n + 1) 0 < l.getD i 0 then upJ l i n else i + n + 1
def rvl : Nat → List Nat → Nat → Nat → List Nat
  | 0, l, _, _ => l
  | n + 1, l, a, b => if a < b then rvl n (swp l a b) (a + 1) (b - 1) else l
def nxO (N : Nat) (l : List Nat) : Option Nat → Option (List Nat)
  | none => none
  | some i => some (rvl 6 (swp l i (upJ l i (N - 1 - i))) (i + 1) (N - 1))
def nxL (N : Nat) (l : List Nat) : Option (List Nat) := nxO N l (upI l (N - 1))
def runO (g : List Nat → Bool) : Option (List Nat) → Bool
  | none => true
  | some l => g l
def runL (N : Nat) : Nat → List Nat → Bool
  | 0, l => (nxL N l).isNone
  | k + 1, l => runO (runL N k) (nxL N l)
theorem runL_all : ∀ N, N ≤ 6 → runL N 719 (List.range N) = true := by decide +kernel
theorem upI_f {l : List Nat} {i : Nat} : ∀ {k : Nat}, upI l k = some i → i < k ∧ ¬ l.getD (i + 1) 0 < l.getD i 0
  | 0, h => by cases h
  | k + 1, h => by
    by_cases z : l.getD (k + 1) 0 < l.getD k 0
    · rw [show upI l (k + 1) = upI l k from if_pos z] at h
      obtain ⟨a, b⟩ := upI_f h
      exact ⟨by omega, b⟩
    · rw [show upI l (k + 1) = some k from if_neg z] at h
      cases h
      exact ⟨by omega, z⟩
theorem upJ_f {l : List Nat} {i : Nat} : ∀ n, i ≤ upJ l i n ∧ upJ l i n ≤ i + n
  | 0 => ⟨Nat.le_refl _, Nat.le_refl _⟩
  | n + 1 => by
    obtain ⟨a, b⟩ := upJ_f (l := l) (i := i) n
    by_cases z : l.getD (i + n + 1) 0 < l.getD i 0
    · rw [show upJ l i (n + 1) = upJ l i n from if_pos z]; omega
    · rw [show upJ l i (n + 1) = i + n + 1 from if_neg z]; omega
theorem swp_k {l : List Nat} {i j k : Nat} (hi : i < l.length) (hj : j < l.length) : (swp l i j).getD k 0 = if k = j then l.getD i 0 else if k = i then l.getD j 0 else l.getD k 0 := by
  unfold swp
  simp only [List.getD_eq_getElem?_getD, List.getElem?_set, List.length_set]
  by_cases h1 : j = k
  · subst h1
    simp [hj]
  · have h1' : ¬ k = j := fun q => h1 q.symm
    rw [if_neg h1, if_neg h1']
    by_cases h2 : i = k
    · subst h2; simp [hi]
    · have h2' : ¬ k = i := fun q => h2 q.symm
      rw [if_neg h2, if_neg h2']
theorem swp_l {l : List Nat} {i j : Nat} : (swp l i j).length = l.length := by
  unfold swp
  simp only [List.length_set]
/-- a cell holds a row -/
def rwR (N : Nat) (f : Nat → Int32) (l : List Nat) : Prop := l.length = N ∧ (∀ k, k < N → l.getD k 0 < N) ∧ ∀ k, k < N → f k = nI (l.getD k 0)
theorem rwR.swp {N i j : Nat} {f : Nat → Int32} {l : List Nat} (h : rwR N f l) (hi : i < N) (hj : j < N) : rwR N (zup (zup f i (f j)) j (f i)) (swp l i j) := by
  obtain ⟨h1, h2, h3⟩ := h
  have e := fun k => swp_k (l := l) (i := i) (j := j) (k := k) (by omega) (by omega)
  refine ⟨by rw [swp_l]; exact h1, fun k hk => ?_, fun k hk => ?_⟩
  · rw [e]
    split
    · exact h2 i hi
    · split
      · exact h2 j hj
      · exact h2 k hk
  · rw [e]
    by_cases z : k = j
    · rw [if_pos z, z, zup_s]; exact h3 i hi
    · rw [if_neg z, zup_n z]
      by_cases z2 : k = i
      · rw [if_pos z2, z2, zup_s]; exact h3 j hj
      · rw [if_neg z2, zup_n z2]; exact h3 k hk
theorem rwR.ext {N : Nat} {f g : Nat → Int32} {l : List Nat} (h : rwR N f l) (e : ∀ k, k < N → g k = f k) : rwR N g l := ⟨h.1, h.2.1, fun k hk => (e k hk).trans (h.2.2 k hk)⟩
theorem rwR_range {N : Nat} {f : Nat → Int32} (e : ∀ k, k < N → f k = nI k) : rwR N f (List.range N) := by
  have g : ∀ k, k < N → (List.range N).getD k 0 = k := fun k hk => by
    rw [List.getD_eq_getElem?_getD, List.getElem?_range hk]; rfl
  exact ⟨List.length_range, fun k hk => by rw [g k hk]; exact hk, fun k hk => by rw [g k hk]; exact e k hk⟩
/-- the search -/
def srN (c : List Nat → Nat) (s : Nat → List Nat → Nat → List Nat → Nat × List Nat) (k B : Nat) (bl : List Nat) : Option (List Nat) → Nat × List Nat
  | none => (B, bl)
  | some l => if c l < B then s k l (c l) l else s k l B bl
def srF (c : List Nat → Nat) (N : Nat) : Nat → List Nat → Nat → List Nat → Nat × List Nat
  | 0, _, B, bl => (B, bl)
  | k + 1, l, B, bl => srN c (fun _ => srF c N k) 0 B bl (nxL N l)
theorem srF_0 {c : List Nat → Nat} {N : Nat} : ∀ k (l bl : List Nat), srF c N k l 0 bl = (0, bl)
  | 0, _, _ => rfl
  | k + 1, l, bl => by
    show srN c (fun _ => srF c N k) 0 0 bl (nxL N l) = (0, bl)
    cases h : nxL N l with
    | none => rfl
    | some l' =>
      show (if c l' < 0 then srF c N k l' (c l') l' else srF c N k l' 0 bl) = (0, bl)
      rw [if_neg (Nat.not_lt_zero _)]
      exact srF_0 k l' bl
theorem srF_n {c : List Nat → Nat} {N k B : Nat} {l bl : List Nat} (h : nxL N l = none) : srF c N (k + 1) l B bl = (B, bl) := by
  show srN c (fun _ => srF c N k) 0 B bl (nxL N l) = (B, bl)
  rw [h]; rfl
theorem srF_l {c : List Nat → Nat} {N k B : Nat} {l l' bl : List Nat} (h : nxL N l = some l') (hc : c l' < B) : srF c N (k + 1) l B bl = srF c N k l' (c l') l' := by
  show srN c (fun _ => srF c N k) 0 B bl (nxL N l) = _
  rw [h]
  exact if_pos hc
theorem srF_g {c : List Nat → Nat} {N k B : Nat} {l l' bl : List Nat} (h : nxL N l = some l') (hc : ¬ c l' < B) : srF c N (k + 1) l B bl = srF c N k l' B bl := by
  show srN c (fun _ => srF c N k) 0 B bl (nxL N l) = _
  rw [h]
  exact if_neg hc
set_option maxRecDepth 20000 in
set_option maxHeartbeats 4000000 in
theorem c1_swap {fr : Nat} {M : zM} {N : Nat} {f : Nat → Int32} (hjobs : M (9, 0) = some (.inr (1, [zi (nI N), zr (14, 0), zr (15, 0), zr (16, 0), zr (17, 0)]))) (hrow : M (15, 0) = some (.inl (0, 6, .inl f))) {i j : Nat} (hi : i < 6) (hj : j < 6) : zCv zX1_swap fr 0 0 [zr (9, 0), zi (nI i), zi (nI j)] M (fun M' => M' = zupd M (15, 0) (.inl (0, 6, .inl (zup (zup f i (f j)) j (f i))))) := by
  refine z_enter (L := [some (zr (9, 0)), some (zi (nI i)), some (zi (nI j))]) rfl (by decide +kernel) (Nat.le_of_ble_eq_true rfl) ?_
  refine z_al iX1_swap_0 rfl ?_
  refine z_gf iX1_swap_1 hjobs rfl ?_
  refine z_il iX1_swap_4 rfl ?_
  refine z_iald iX1_swap_5 hrow (nI_toInt (by omega)) (show i < 6 by omega) ?_
  refine z_is iX1_swap_6 ?_
  refine z_al iX1_swap_7 rfl ?_
  refine z_gf iX1_swap_8 hjobs rfl ?_
  refine z_il iX1_swap_11 rfl ?_
  refine z_al iX1_swap_12 rfl ?_
  refine z_gf iX1_swap_13 hjobs rfl ?_
  refine z_il iX1_swap_16 rfl ?_
  refine z_iald iX1_swap_17 hrow (nI_toInt (by omega)) (show j < 6 by omega) ?_
  refine z_iast iX1_swap_18 hrow (show 2 ≤ 15 by decide) (nI_toInt (by omega)) (show i < 6 by omega) ?_
  refine z_al iX1_swap_19 rfl ?_
  refine z_gf iX1_swap_20 ((zupd_k (Nat.ne_of_beq_eq_false rfl)).trans hjobs) rfl ?_
  refine z_il iX1_swap_23 rfl ?_
  refine z_il iX1_swap_24 rfl ?_
  refine z_iast2 iX1_swap_25 (show 2 ≤ 15 by decide) (nI_toInt (by omega)) (show j < 6 by omega) ?_
  refine z_vret iX1_swap_26 rfl ?_
  exact ⟨rfl, rfl⟩
set_option maxRecDepth 20000 in
set_option maxHeartbeats 4000000 in
theorem l1_up {fr : Nat} {M : zM} {N : Nat} {f : Nat → Int32} (hjobs : M (9, 0) = some (.inr (1, [zi (nI N), zr (14, 0), zr (15, 0), zr (16, 0), zr (17, 0)]))) (hrow : M (15, 0) = some (.inl (0, 6, .inl f))) (hN : N ≤ 6) {l : List Nat} (hl : rwR N f l) (KK : ∀ i, upI l (N - 1) = some i → i + 1 < N → zV zX1_nextRow fr 0 0 40 (zL [some (zr (9, 0)), some (zi (nI i))]) [] M (fun r M' => ∃ y, r = some (zi y) ∧ ∃ r2, M' = zupd M (15, 0) (.inl (0, 6, .inl r2)) ∧ (nxL N l = none ∧ y = 0 ∨ ∃ l2, nxL N l = some l2 ∧ y = 1 ∧ rwR N r2 l2)))  : ∀ (n i : Nat) (ii : Int32), i + n = N - 1 → upI l n = upI l (N - 1) → (n = 0 → ii.toInt < 0) → (0 < n → ii.toInt = (n : Int) - 1) → zV zX1_nextRow fr 0 0 7 (zL [some (zr (9, 0)), some (zi ii)]) [] M (fun r M' => ∃ y, r = some (zi y) ∧ ∃ r2, M' = zupd M (15, 0) (.inl (0, 6, .inl r2)) ∧ (nxL N l = none ∧ y = 0 ∨ ∃ l2, nxL N l = some l2 ∧ y = 1 ∧ rwR N r2 l2)) := by
  intro n
  induction n with
  | zero =>
    intro i ii hn hu hk0 hk1
    refine z_il iX1_nextRow_7 rfl ?_
    refine z_if_lt iX1_nextRow_8 (fun h1 => ?_) (fun h1 => ?_)
    · refine z_il iX1_nextRow_34 rfl ?_
      refine z_if_ge iX1_nextRow_35 (fun h2 => ?_) (fun h2 => ?_)
      · exfalso
        rw [zi_le] at h2
        simp only [Int32.reduceToInt] at h2
        omega
      · refine z_co iX1_nextRow_38 ?_
        refine z_zret iX1_nextRow_39 rfl rfl ?_
        refine ⟨_, rfl, f, (zupd_same hrow).symm, Or.inl ⟨?_, rfl⟩⟩
        unfold nxL
        rw [← hu]
        rfl
    · exfalso
      rw [zi_lt] at h1
      simp only [Int32.reduceToInt] at h1
      omega
  | succ n ih =>
    intro i ii hn hu hk0 hk1
    refine z_il iX1_nextRow_7 rfl ?_
    refine z_if_lt iX1_nextRow_8 (fun h1 => ?_) (fun h1 => ?_)
    · exfalso
      rw [zi_lt] at h1
      simp only [Int32.reduceToInt] at h1
      omega
    · have ri := hl.2.2 n (by omega)
      have rj := hl.2.2 (n + 1) (by omega)
      have li := hl.2.1 n (by omega)
      have lj := hl.2.1 (n + 1) (by omega)
      have ti := nI_toInt (n := l.getD n 0) (by omega)
      have tj := nI_toInt (n := l.getD (n + 1) 0) (by omega)
      refine z_al iX1_nextRow_11 rfl ?_
      refine z_gf iX1_nextRow_12 hjobs rfl ?_
      refine z_il iX1_nextRow_15 rfl ?_
      refine z_iald iX1_nextRow_16 hrow (show ii.toInt = (n : Int) by omega) (show n < 6 by omega) ?_
      refine z_al iX1_nextRow_17 rfl ?_
      refine z_gf iX1_nextRow_18 hjobs rfl ?_
      refine z_il iX1_nextRow_21 rfl ?_
      refine z_co iX1_nextRow_22 ?_
      refine z_iadd iX1_nextRow_23 ?_
      refine z_iald iX1_nextRow_24 hrow (show (ii + 1).toInt = ((n + 1 : Nat) : Int) by rw [zadd (by simp only [Int32.reduceToInt]; omega) (by simp only [Int32.reduceToInt]; omega)]; simp only [Int32.reduceToInt]; omega) (show n + 1 < 6 by omega) ?_
      refine z_icmp_le iX1_nextRow_25 (fun h2 => ?_) (fun h2 => ?_)
      · have hz : ¬ l.getD (n + 1) 0 < l.getD n 0 := by
          rw [ri, rj, zi_le, ti, tj] at h2
          omega
        have eu : upI l (n + 1) = some n := if_neg hz
        refine z_il iX1_nextRow_34 rfl ?_
        refine z_if_ge iX1_nextRow_35 (fun h3 => ?_) (fun h3 => ?_)
        · refine z_loc [some (zr (9, 0)), some (zi (nI n))] ⟨rfl, ?_, trivial⟩ (KK n (hu ▸ eu) (by omega))
          show some (zi ii) = _
          rw [show ii = nI n from Int32.toInt_inj.mp (by rw [nI_toInt (by omega)]; omega)]
        · exfalso
          rw [zi_le] at h3
          simp only [Int32.reduceToInt] at h3
          omega
      · refine z_in iX1_nextRow_28 rfl ?_
        refine z_goto iX1_nextRow_31 ?_
        have hz : l.getD (n + 1) 0 < l.getD n 0 := by
          rw [ri, rj, zi_le, ti, tj] at h2
          omega
        have eu : upI l (n + 1) = upI l n := if_pos hz
        refine z_loc [some (zr (9, 0)), some (zi (ii + -1))] ⟨rfl, rfl, trivial⟩ (ih (i + 1) (ii + -1) (by omega) (by rw [← eu]; exact hu) ?_ ?_)
        · intro q
          rw [zadd (by simp only [Int32.reduceToInt]; omega) (by simp only [Int32.reduceToInt]; omega)]
          simp only [Int32.reduceToInt]
          omega
        · intro q
          rw [zadd (by simp only [Int32.reduceToInt]; omega) (by simp only [Int32.reduceToInt]; omega)]
          simp only [Int32.reduceToInt]
          omega
set_option maxRecDepth 20000 in
set_option maxHeartbeats 4000000 in
theorem l1_upJ {fr : Nat} {M : zM} {Q : Option zVal → zM → Prop} {N : Nat} {f : Nat → Int32} (hjobs : M (9, 0) = some (.inr (1, [zi (nI N), zr (14, 0), zr (15, 0), zr (16, 0), zr (17, 0)]))) (hrow : M (15, 0) = some (.inl (0, 6, .inl f))) (hN : N ≤ 6) {l : List Nat} (hl : rwR N f l) {i : Nat} (hi : i + 1 < N) (KK : zV zX1_nextRow fr 0 0 73 (zL [some (zr (9, 0)), some (zi (nI i)), some (zi (nI (upJ l i (N - 1 - i))))]) [] M Q)  : ∀ (n : Nat), i + n < N → upJ l i n = upJ l i (N - 1 - i) → zV zX1_nextRow fr 0 0 47 (zL [some (zr (9, 0)), some (zi (nI i)), some (zi (nI (i + n)))]) [] M Q := by
  intro n
  induction n with
  | zero =>
    intro hn hu
    refine z_il iX1_nextRow_47 rfl ?_
    refine z_il iX1_nextRow_48 rfl ?_
    refine z_icmp_le iX1_nextRow_49 (fun h1 => ?_) (fun h1 => ?_)
    · refine z_loc [some (zr (9, 0)), some (zi (nI i)), some (zi (nI (upJ l i (N - 1 - i))))] ⟨rfl, rfl, ?_, trivial⟩ KK
      show some (zi (nI (i + 0))) = _
      rw [← hu, show upJ l i 0 = i from rfl, Nat.add_zero]
    · exfalso
      exact h1 (zi_le.mpr (by rw [Nat.add_zero]; exact Int.le_refl _))
  | succ n ih =>
    intro hn hu
    refine z_il iX1_nextRow_47 rfl ?_
    refine z_il iX1_nextRow_48 rfl ?_
    refine z_icmp_le iX1_nextRow_49 (fun h1 => ?_) (fun h1 => ?_)
    · exfalso
      rw [zi_le, nI_toInt (by omega), nI_toInt (by omega)] at h1
      omega
    · have ri := hl.2.2 i (by omega)
      have rj := hl.2.2 (i + n + 1) (by omega)
      have li := hl.2.1 i (by omega)
      have lj := hl.2.1 (i + n + 1) (by omega)
      have ti := nI_toInt (n := l.getD i 0) (by omega)
      have tj := nI_toInt (n := l.getD (i + n + 1) 0) (by omega)
      refine z_al iX1_nextRow_52 rfl ?_
      refine z_gf iX1_nextRow_53 hjobs rfl ?_
      refine z_il iX1_nextRow_56 rfl ?_
      refine z_iald iX1_nextRow_57 hrow (show (nI (i + (n + 1))).toInt = ((i + n + 1 : Nat) : Int) by rw [nI_toInt (by omega)]; rfl) (show i + n + 1 < 6 by omega) ?_
      refine z_al iX1_nextRow_58 rfl ?_
      refine z_gf iX1_nextRow_59 hjobs rfl ?_
      refine z_il iX1_nextRow_62 rfl ?_
      refine z_iald iX1_nextRow_63 hrow (nI_toInt (by omega)) (show i < 6 by omega) ?_
      refine z_icmp_ge iX1_nextRow_64 (fun h2 => ?_) (fun h2 => ?_)
      · have hz : ¬ l.getD (i + n + 1) 0 < l.getD i 0 := by
          rw [ri, rj, zi_le, ti, tj] at h2
          omega
        refine z_loc [some (zr (9, 0)), some (zi (nI i)), some (zi (nI (upJ l i (N - 1 - i))))] ⟨rfl, rfl, ?_, trivial⟩ KK
        show some (zi (nI (i + (n + 1)))) = _
        rw [← hu, show upJ l i (n + 1) = i + n + 1 from if_neg hz, Nat.add_assoc]
      · refine z_in iX1_nextRow_67 rfl ?_
        refine z_goto iX1_nextRow_70 ?_
        have hz : l.getD (i + n + 1) 0 < l.getD i 0 := by
          rw [ri, rj, zi_le, ti, tj] at h2
          omega
        refine z_loc [some (zr (9, 0)), some (zi (nI i)), some (zi (nI (i + n)))] ⟨rfl, rfl, ?_, trivial⟩ (ih (by omega) (by rw [← hu]; exact (if_pos hz).symm))
        show some (zi (nI (i + (n + 1)) + -1)) = _
        rw [show i + (n + 1) = i + n + 1 from rfl, nI_succ, Int32.add_assoc, show (1 : Int32) + -1 = 0 from rfl, Int32.add_zero]
set_option maxRecDepth 20000 in
set_option maxHeartbeats 4000000 in
theorem l1_turn {fr : Nat} {M : zM} {N : Nat} {xi xj : Int32} {lz : List Nat} (hjobs : M (9, 0) = some (.inr (1, [zi (nI N), zr (14, 0), zr (15, 0), zr (16, 0), zr (17, 0)]))) (hf : 1 ≤ fr) (hN : N ≤ 6)  : ∀ (n i : Nat) (a b : Nat) (rr : Nat → Int32) (l : List Nat), i + n = 6 → rwR N rr l → b < N → a ≤ i + 6 → b ≤ a + n → rvl n l a b = lz → zV zX1_nextRow fr 0 0 91 (zL [some (zr (9, 0)), some (zi xi), some (zi xj), some (zi (nI a)), some (zi (nI b))]) [] (zupd M (15, 0) (.inl (0, 6, .inl rr))) (fun r M' => ∃ y, r = some (zi y) ∧ ∃ r2, M' = zupd M (15, 0) (.inl (0, 6, .inl r2)) ∧ y = 1 ∧ rwR N r2 lz) := by
  intro n
  induction n with
  | zero =>
    intro i a b rr l hn hl hb ha hab0 hz
    refine z_il iX1_nextRow_91 rfl ?_
    refine z_il iX1_nextRow_92 rfl ?_
    refine z_icmp_ge iX1_nextRow_94 (fun h1 => ?_) (fun h1 => ?_)
    · refine z_co iX1_nextRow_113 ?_
      refine z_zret iX1_nextRow_114 rfl rfl ?_
      refine ⟨_, rfl, _, rfl, rfl, ?_⟩
      rw [← hz]
      exact hl
    · exfalso
      rw [zi_le, nI_toInt (by omega), nI_toInt (by omega)] at h1
      omega
  | succ n ih =>
    intro i a b rr l hn hl hb ha hab0 hz
    refine z_il iX1_nextRow_91 rfl ?_
    refine z_il iX1_nextRow_92 rfl ?_
    refine z_icmp_ge iX1_nextRow_94 (fun h1 => ?_) (fun h1 => ?_)
    · have hab : ¬ a < b := by
        rw [zi_le, nI_toInt (by omega), nI_toInt (by omega)] at h1
        omega
      refine z_co iX1_nextRow_113 ?_
      refine z_zret iX1_nextRow_114 rfl rfl ?_
      refine ⟨_, rfl, _, rfl, rfl, ?_⟩
      rw [← hz, show rvl (n + 1) l a b = l from if_neg hab]
      exact hl
    · have hab : a < b := by
        rw [zi_le, nI_toInt (by omega), nI_toInt (by omega)] at h1
        omega
      refine z_al iX1_nextRow_97 rfl ?_
      refine z_il iX1_nextRow_98 rfl ?_
      refine z_il iX1_nextRow_99 rfl ?_
      refine z_cv2v (fr' := fr - 1) iX1_nextRow_101 zmX1_swap ((zupd_k (Nat.ne_of_beq_eq_false rfl)).trans hjobs) (c1_swap ((zupd_k (by decide : (9 : Nat) ≠ 15)).trans hjobs) zupd_s (show a < 6 by omega) (show b < 6 by omega)) (by omega) (Nat.le_of_ble_eq_true rfl) (fun M1 hq => ?_)
      subst hq
      rw [zupd_u]
      refine z_in iX1_nextRow_104 rfl ?_
      refine z_in iX1_nextRow_107 rfl ?_
      refine z_goto iX1_nextRow_110 ?_
      refine z_loc [some (zr (9, 0)), some (zi xi), some (zi xj), some (zi (nI (a + 1))), some (zi (nI (b - 1)))] ⟨rfl, rfl, rfl, ?_, ?_, trivial⟩ (ih (i + 1) (a + 1) (b - 1) _ _ (by omega) (hl.swp (by omega) (by omega)) (by omega) (by omega) (by omega) (by rw [← hz]; exact (if_pos hab).symm))
      · show some (zi (nI a + 1)) = _
        rw [nI_1]
      · obtain ⟨b', rfl⟩ : ∃ b', b = b' + 1 := ⟨b - 1, by omega⟩
        show some (zi (nI (b' + 1) + -1)) = _
        rw [nI_succ, Int32.add_assoc, show (1 : Int32) + -1 = 0 from rfl, Int32.add_zero]
        rfl
set_option maxRecDepth 20000 in
set_option maxHeartbeats 4000000 in
theorem c1_nextRow {fr : Nat} {M : zM} {N : Nat} {f : Nat → Int32} (hjobs : M (9, 0) = some (.inr (1, [zi (nI N), zr (14, 0), zr (15, 0), zr (16, 0), zr (17, 0)]))) (hrow : M (15, 0) = some (.inl (0, 6, .inl f))) (hN : N ≤ 6) {l : List Nat} (hl : rwR N f l) (hf : 1 ≤ fr) : zCi zX1_nextRow fr 0 0 [zr (9, 0)] M (fun y M' => ∃ r2, M' = zupd M (15, 0) (.inl (0, 6, .inl r2)) ∧ (nxL N l = none ∧ y = 0 ∨ ∃ l2, nxL N l = some l2 ∧ y = 1 ∧ rwR N r2 l2)) := by
  refine z_enter (L := [some (zr (9, 0))]) rfl (by decide +kernel) (Nat.le_of_ble_eq_true rfl) ?_
  refine z_al iX1_nextRow_0 rfl ?_
  refine z_gf iX1_nextRow_1 hjobs rfl ?_
  refine z_co iX1_nextRow_4 ?_
  refine z_isub iX1_nextRow_5 ?_
  refine z_is iX1_nextRow_6 ?_
  have hb := hl.1
  refine z_loc [some (zr (9, 0)), some (zi (nI N - 2))] ⟨rfl, rfl, trivial⟩ (l1_up hjobs hrow hN hl (fun i hu hi => ?_) (N - 1) 0 (nI N - 2) (by omega) rfl (fun q => ?_) (fun q => ?_))
  rotate_left
  · rw [zsub (by rw [nI_toInt (by omega)]; simp only [Int32.reduceToInt]; omega) (by rw [nI_toInt (by omega)]; simp only [Int32.reduceToInt]; omega), nI_toInt (by omega)]
    simp only [Int32.reduceToInt]
    omega
  · rw [zsub (by rw [nI_toInt (by omega)]; simp only [Int32.reduceToInt]; omega) (by rw [nI_toInt (by omega)]; simp only [Int32.reduceToInt]; omega), nI_toInt (by omega)]
    simp only [Int32.reduceToInt]
    omega
  · refine z_al iX1_nextRow_40 rfl ?_
    refine z_gf iX1_nextRow_41 hjobs rfl ?_
    refine z_co iX1_nextRow_44 ?_
    refine z_isub iX1_nextRow_45 ?_
    refine z_is iX1_nextRow_46 ?_
    have eN1 : nI N - 1 = nI (i + (N - 1 - i)) := by
      obtain ⟨N', rfl⟩ : ∃ N', N = N' + 1 := ⟨N - 1, by omega⟩
      rw [nI_succ, show nI N' + 1 - 1 = nI N' from Int32.add_sub_cancel _ _, show i + (N' + 1 - 1 - i) = N' by omega]
    have uj := upJ_f (l := l) (i := i) (N - 1 - i)
    refine z_loc [some (zr (9, 0)), some (zi (nI i)), some (zi (nI (i + (N - 1 - i))))] ⟨rfl, rfl, ?_, trivial⟩ (l1_upJ hjobs hrow hN hl hi ?_ (N - 1 - i) (by omega) rfl)
    · show some (zi (nI N - 1)) = _
      rw [eN1]
    · refine z_al iX1_nextRow_73 rfl ?_
      refine z_il iX1_nextRow_74 rfl ?_
      refine z_il iX1_nextRow_75 rfl ?_
      refine z_cv2v (fr' := fr - 1) iX1_nextRow_76 zmX1_swap hjobs (c1_swap hjobs hrow (show i < 6 by omega) (show upJ l i (N - 1 - i) < 6 by omega)) (by omega) (Nat.le_of_ble_eq_true rfl) (fun M1 hq => ?_)
      subst hq
      refine z_il iX1_nextRow_79 rfl ?_
      refine z_co iX1_nextRow_80 ?_
      refine z_iadd iX1_nextRow_81 ?_
      refine z_is iX1_nextRow_82 ?_
      refine z_al iX1_nextRow_83 rfl ?_
      refine z_gf iX1_nextRow_84 ((zupd_k (Nat.ne_of_beq_eq_false rfl)).trans hjobs) rfl ?_
      refine z_co iX1_nextRow_87 ?_
      refine z_isub iX1_nextRow_88 ?_
      refine z_is iX1_nextRow_89 ?_
      refine z_loc [some (zr (9, 0)), some (zi (nI i)), some (zi (nI (upJ l i (N - 1 - i)))), some (zi (nI (i + 1))), some (zi (nI (N - 1)))] ⟨rfl, rfl, rfl, ?_, ?_, trivial⟩ ((l1_turn (lz := rvl 6 (swp l i (upJ l i (N - 1 - i))) (i + 1) (N - 1)) hjobs (by omega) hN 6 0 (i + 1) (N - 1) _ _ (by omega) (hl.swp (show i < N by omega) (show upJ l i (N - 1 - i) < N by omega)) (by omega) (by omega) (by omega) rfl).mono (fun r M2 ⟨y, e1, r2, e2, e3, e4⟩ => ⟨y, e1, r2, e2, Or.inr ⟨_, ?_, e3, e4⟩⟩))
      · show some (zi (nI i + 1)) = _
        rw [nI_1]
      · show some (zi (nI N - 1)) = _
        rw [eN1, show i + (N - 1 - i) = N - 1 by omega]
      · unfold nxL
        rw [hu]
        rfl
