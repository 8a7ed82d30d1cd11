/-! TOKENS out of bytes: the same places and codes for both sides -/
abbrev tkL (b : Int32) : Prop := zBw b 97 122
abbrev tkD (b : Int32) : Prop := zBw b 48 57
abbrev tkB (b : Int32) : Prop := b = 32 ∨ b = 10
abbrev tkR (a b : Int32) : Prop := (tkL a ∧ tkL b) ∨ (tkD a ∧ tkD b)
theorem tkLD {b : Int32} (h : tkL b) (h2 : tkD b) : False := by
  obtain ⟨h3, h4⟩ := h
  obtain ⟨h5, h6⟩ := h2
  simp only [zi_le, Int32.reduceToInt] at *
  omega
theorem tkBL {b : Int32} (h : tkB b) : ¬ tkL b ∧ ¬ tkD b := by
  rcases h with h | h <;> subst h <;> decide
theorem tkR_t {a b c : Int32} (h : tkR a b) (h2 : tkR b c) : tkR a c := by
  rcases h with ⟨h3, h4⟩ | ⟨h3, h4⟩ <;> rcases h2 with ⟨h5, h6⟩ | ⟨h5, h6⟩
  · exact Or.inl ⟨h3, h6⟩
  · exact (tkLD h4 h5).elim
  · exact (tkLD h5 h4).elim
  · exact Or.inr ⟨h3, h6⟩
theorem tkR_s {a b : Int32} (h : tkR a b) : tkR b a := h.imp (fun q => ⟨q.2, q.1⟩) (fun q => ⟨q.2, q.1⟩)
theorem tkR_b {a b : Int32} (h : tkB a) : ¬ tkR a b := fun q => q.elim (fun z => (tkBL h).1 z.1) (fun z => (tkBL h).2 z.1)
def tkScan (ok : Nat → Bool) : Nat → Nat → Nat
  | 0, p => p
  | n + 1, p => if ok p = true then tkScan ok n (p + 1) else p
theorem tkScan_ge {ok : Nat → Bool} : ∀ (n p : Nat), p ≤ tkScan ok n p
  | 0, _ => Nat.le_refl _
  | n + 1, p => by
    unfold tkScan
    have := tkScan_ge (ok := ok) n (p + 1)
    split <;> omega
theorem tkScan_le {ok : Nat → Bool} : ∀ (n p : Nat), tkScan ok n p ≤ p + n
  | 0, _ => Nat.le_refl _
  | n + 1, p => by
    unfold tkScan
    have := tkScan_le (ok := ok) n (p + 1)
    split <;> omega
theorem tkScan_in {ok : Nat → Bool} : ∀ (n p j : Nat), p ≤ j → j < tkScan ok n p → ok j = true
  | 0, p, j, h, h2 => by unfold tkScan at h2; omega
  | n + 1, p, j, h, h2 => by
    unfold tkScan at h2
    by_cases q : ok p = true
    · rw [if_pos q] at h2
      by_cases z : j = p
      · rw [z]; exact q
      · exact tkScan_in n (p + 1) j (by omega) h2
    · rw [if_neg q] at h2
      omega
theorem tkScan_at {ok : Nat → Bool} : ∀ (n p : Nat), tkScan ok n p < p + n → ¬ ok (tkScan ok n p) = true
  | 0, p, h => by unfold tkScan at h; omega
  | n + 1, p, h => by
    unfold tkScan at h ⊢
    by_cases q : ok p = true
    · rw [if_pos q] at h ⊢
      exact tkScan_at n (p + 1) (by omega)
    · rw [if_neg q]; exact q
theorem tkScan_eq {ok : Nat → Bool} {n p q : Nat} (h1 : p ≤ q) (h2 : q ≤ p + n) (h3 : ∀ j, p ≤ j → j < q → ok j = true) (h4 : q < p + n → ¬ ok q = true) : tkScan ok n p = q := by
  have g1 := tkScan_ge (ok := ok) n p
  have g2 := tkScan_le (ok := ok) n p
  rcases Nat.lt_trichotomy (tkScan ok n p) q with h | h | h
  · exact absurd (h3 _ g1 h) (tkScan_at n p (by omega))
  · exact h
  · exact absurd (tkScan_in n p q h1 h) (h4 (by omega))
def tkSkip (u : Nat → Int32) (n p : Nat) : Nat := tkScan (fun i => decide (tkB (u i))) (n - p) p
def tkEnd (u : Nat → Int32) (n p : Nat) : Nat := tkScan (fun i => decide (tkR (u p) (u i))) (n - (p + 1)) (p + 1)
/-- where the k-th token begins; n: there is none -/
def tkP (u : Nat → Int32) (n : Nat) : Nat → Nat
  | 0 => tkSkip u n 0
  | k + 1 => if tkP u n k < n then tkSkip u n (tkEnd u n (tkP u n k)) else n
def tkSign (b : Int32) : Int32 := if b = 40 ∨ b = 41 ∨ b = 59 ∨ b = 43 ∨ b = 45 ∨ b = 42 ∨ b = 60 ∨ b = 61 then -b else -21
def tkDs (u : Nat → Int32) (p : Nat) : Nat → List Nat
  | 0 => []
  | l + 1 => tkDs u p l ++ [zN (u (p + l) - 96)]
def tkNum (u : Nat → Int32) (p : Nat) : Nat → Int32
  | 0 => 0
  | l + 1 => tkNum u p l * 10 + (u (p + l) - 48)
def tkWord (ds : List Nat) : Int32 := if ds = [3, 21, 20, 19] then -1 else if ds = [19, 16, 5, 5, 4] then -2 else if ds = [19, 20, 21, 6, 6] then -3 else if ds = [12, 9, 6, 5] then -4 else if ds = [18, 5, 1, 4, 9, 14, 7] then -5 else if ds = [14, 15, 13, 9, 14, 1, 12] then -6 else if ds = [23, 15, 18, 14] then -22 else if ds = [2, 18, 15, 11, 5, 14] then -23 else if ds = [3, 8, 5, 3, 11] then -24 else if ds = [15, 18] then -15 else if ds = [1, 14, 4] then -14 else if ds = [14, 15, 20] then -8 else -21
def tkCode (u : Nat → Int32) (n p : Nat) : Int32 := if tkL (u p) then tkWord (tkDs u p (tkEnd u n p - p)) else if tkD (u p) then (if 4 < tkEnd u n p - p then -21 else tkNum u p (tkEnd u n p - p)) else tkSign (u p)
def tkT (u : Nat → Int32) (n k : Nat) : Int32 := if tkP u n k < n then tkCode u n (tkP u n k) else -20
def tkC (u : Nat → Int32) (n : Nat) : Nat := tkScan (fun k => decide (tkP u n k < n)) n 0
section TK
variable {u : Nat → Int32} {n : Nat}
theorem tkSkip_ge {p : Nat} : p ≤ tkSkip u n p := tkScan_ge _ _
theorem tkSkip_le {p : Nat} (h : p ≤ n) : tkSkip u n p ≤ n := by
  have := tkScan_le (ok := fun i => decide (tkB (u i))) (n - p) p
  unfold tkSkip
  omega
theorem tkSkip_in {p j : Nat} (h : p ≤ j) (h2 : j < tkSkip u n p) : tkB (u j) := of_decide_eq_true (tkScan_in _ _ j h h2)
theorem tkSkip_at {p : Nat} (h : tkSkip u n p < n) : ¬ tkB (u (tkSkip u n p)) := by
  have g := tkScan_ge (ok := fun i => decide (tkB (u i))) (n - p) p
  have := tkScan_at (ok := fun i => decide (tkB (u i))) (n - p) p (by unfold tkSkip at h; omega)
  exact fun q => this (decide_eq_true q)
theorem tkEnd_gt {p : Nat} : p < tkEnd u n p := tkScan_ge _ _
theorem tkEnd_le {p : Nat} (h : p < n) : tkEnd u n p ≤ n := by
  have := tkScan_le (ok := fun i => decide (tkR (u p) (u i))) (n - (p + 1)) (p + 1)
  unfold tkEnd
  omega
theorem tkEnd_in {p j : Nat} (h : p < j) (h2 : j < tkEnd u n p) : tkR (u p) (u j) := of_decide_eq_true (tkScan_in _ _ j h h2)
theorem tkEnd_at {p : Nat} (h : tkEnd u n p < n) : ¬ tkR (u p) (u (tkEnd u n p)) := by
  have g := tkScan_ge (ok := fun i => decide (tkR (u p) (u i))) (n - (p + 1)) (p + 1)
  have := tkScan_at (ok := fun i => decide (tkR (u p) (u i))) (n - (p + 1)) (p + 1) (by unfold tkEnd at h; omega)
  exact fun q => this (decide_eq_true q)
theorem tkP_le : ∀ k, tkP u n k ≤ n
  | 0 => tkSkip_le (Nat.zero_le _)
  | k + 1 => by
    unfold tkP
    by_cases q : tkP u n k < n
    · rw [if_pos q]; exact tkSkip_le (tkEnd_le q)
    · rw [if_neg q]; exact Nat.le_refl _
theorem tkP_s {k : Nat} (h : tkP u n k < n) : tkP u n (k + 1) = tkSkip u n (tkEnd u n (tkP u n k)) := if_pos h
theorem tkP_lt {k : Nat} (h : tkP u n k < n) : tkP u n k < tkP u n (k + 1) := by
  rw [tkP_s h]
  exact Nat.lt_of_lt_of_le tkEnd_gt tkSkip_ge
theorem tkP_k : ∀ k, tkP u n k < n → k ≤ tkP u n k
  | 0, _ => Nat.zero_le _
  | k + 1, h => by
    have q : tkP u n k < n := Decidable.byContradiction fun q => by
      have : tkP u n (k + 1) = n := if_neg q
      omega
    have := tkP_k k q
    have := tkP_lt q
    omega
theorem tkP_dn {k : Nat} (h : tkP u n (k + 1) < n) : tkP u n k < n := Decidable.byContradiction fun q => by
  have : tkP u n (k + 1) = n := if_neg q
  omega
theorem tkP_mono {k : Nat} : ∀ j, tkP u n (k + j) < n → tkP u n k < n
  | 0, h => h
  | j + 1, h => tkP_mono j (tkP_dn h)
theorem tkC_le : tkC u n ≤ n := by
  have := tkScan_le (ok := fun k => decide (tkP u n k < n)) n 0
  unfold tkC
  omega
theorem tkC_iff {k : Nat} : tkP u n k < n ↔ k < tkC u n := by
  constructor
  · intro h
    refine Decidable.byContradiction fun q => ?_
    have h1 := tkP_k k h
    have h2 := tkP_mono (u := u) (n := n) (k := tkC u n) (k - tkC u n) (by rw [show tkC u n + (k - tkC u n) = k by omega]; exact h)
    exact tkScan_at (ok := fun k => decide (tkP u n k < n)) n 0 (by have : tkScan (fun k => decide (tkP u n k < n)) n 0 = tkC u n := rfl; omega) (decide_eq_true h2)
  · intro h
    exact of_decide_eq_true (tkScan_in (ok := fun k => decide (tkP u n k < n)) n 0 k (Nat.zero_le _) h)
theorem tkP_end {k : Nat} (h : tkC u n ≤ k) : tkP u n k = n := by
  have h1 := tkP_le (u := u) (n := n) k
  have h2 : ¬ tkP u n k < n := fun q => absurd (tkC_iff.mp q) (by omega)
  omega
theorem tkT_E (h : n ≤ 160) : pqE (tkC u n) (tkT u n) := ⟨Nat.le_trans tkC_le h, fun k hk => if_neg (by rw [tkP_end hk]; omega)⟩
theorem tkT_s {k : Nat} (h : tkP u n k < n) : tkT u n k = tkCode u n (tkP u n k) := if_pos h
/-- a place where a token begins, told as the class tells it -/
abbrev tkBeg (u : Nat → Int32) (i : Nat) : Prop := ¬ tkB (u i) ∧ ¬ (0 < i ∧ tkR (u (i - 1)) (u i))
theorem tkBeg_0 {i : Nat} (h : i ≤ tkP u n 0) (hi : i < n) : tkBeg u i ↔ i = tkP u n 0 := by
  constructor
  · intro q
    refine Decidable.byContradiction fun z => q.1 (tkSkip_in (p := 0) (n := n) (Nat.zero_le _) ?_)
    have : tkP u n 0 = tkSkip u n 0 := rfl
    omega
  · intro q
    subst q
    refine ⟨tkSkip_at hi, fun q => tkR_b (tkSkip_in (p := 0) (n := n) (Nat.zero_le _) ?_) q.2⟩
    have : tkP u n 0 = tkSkip u n 0 := rfl
    omega
theorem tkBeg_s {k i : Nat} (h0 : tkP u n k < i) (h : i ≤ tkP u n (k + 1)) (hi : i < n) : tkBeg u i ↔ i = tkP u n (k + 1) := by
  have hp : tkP u n k < n := by omega
  rw [tkP_s hp] at h ⊢
  have g1 := tkEnd_gt (u := u) (n := n) (p := tkP u n k)
  have g2 := tkSkip_ge (u := u) (n := n) (p := tkEnd u n (tkP u n k))
  constructor
  · intro q
    refine Decidable.byContradiction fun z => ?_
    by_cases c : i < tkEnd u n (tkP u n k)
    · refine q.2 ⟨by omega, ?_⟩
      have r1 := tkEnd_in h0 c
      by_cases c2 : i - 1 = tkP u n k
      · rw [c2]; exact r1
      · exact tkR_t (tkR_s (tkEnd_in (n := n) (p := tkP u n k) (by omega) (show i - 1 < tkEnd u n (tkP u n k) by omega))) r1
    · exact q.1 (tkSkip_in (n := n) (p := tkEnd u n (tkP u n k)) (by omega) (by omega))
  · intro q
    subst q
    refine ⟨tkSkip_at hi, fun z => ?_⟩
    have z2 := z.2
    by_cases c : tkSkip u n (tkEnd u n (tkP u n k)) = tkEnd u n (tkP u n k)
    · rw [c] at z2 hi
      have r1 := tkEnd_at hi
      by_cases c2 : tkEnd u n (tkP u n k) - 1 = tkP u n k
      · rw [c2] at z2; exact r1 z2
      · exact r1 (tkR_t (tkEnd_in (n := n) (p := tkP u n k) (by omega) (by omega)) z2)
    · exact tkR_b (tkSkip_in (n := n) (p := tkEnd u n (tkP u n k)) (by omega) (by omega)) z2
end TK
/-! words as numbers to the base 27 -/
def tkVal (ds : List Nat) : Nat := ds.foldl (fun w d => 27 * w + d) 0
theorem tkVal_s {ds : List Nat} {d : Nat} : tkVal (ds ++ [d]) = 27 * tkVal ds + d := by
  unfold tkVal
  rw [List.foldl_append]
  rfl
def tkDec : Nat → Nat → List Nat
  | 0, _ => []
  | f + 1, w => if w = 0 then [] else tkDec f (w / 27) ++ [w % 27]
theorem tkDec_0 : ∀ f, tkDec f 0 = []
  | 0 => rfl
  | _ + 1 => rfl
theorem tkDs_len {u : Nat → Int32} {p : Nat} : ∀ l, (tkDs u p l).length = l
  | 0 => rfl
  | l + 1 => by unfold tkDs; rw [List.length_append, tkDs_len l]; rfl
theorem tkDg {b : Int32} (h : tkL b) : 1 ≤ zN (b - 96) ∧ zN (b - 96) ≤ 26 ∧ (b - 96).toInt = (zN (b - 96) : Int) ∧ b.toInt = (zN (b - 96) : Int) + 96 := by
  obtain ⟨h3, h4⟩ := h
  simp only [zi_le, Int32.reduceToInt] at *
  have e1 : (b - 96).toInt = b.toInt - 96 := zsub (by simp only [Int32.reduceToInt]; omega) (by simp only [Int32.reduceToInt]; omega)
  have e0 : zN (b - 96) = (b - 96).toInt.toNat := rfl
  omega
theorem tkDec_e {u : Nat → Int32} {p : Nat} : ∀ (l f : Nat), l ≤ f → (∀ i, i < l → tkL (u (p + i))) → tkDec f (tkVal (tkDs u p l)) = tkDs u p l
  | 0, f, _, _ => tkDec_0 f
  | l + 1, 0, h, _ => absurd h (by omega)
  | l + 1, f + 1, h, hl => by
    have h1 := tkDec_e l f (by omega) (fun i hi => hl i (by omega))
    have h2 := tkDg (hl l (by omega))
    unfold tkDs
    rw [tkVal_s]
    unfold tkDec
    rw [if_neg (by omega), show (27 * tkVal (tkDs u p l) + zN (u (p + l) - 96)) / 27 = tkVal (tkDs u p l) by omega, show (27 * tkVal (tkDs u p l) + zN (u (p + l) - 96)) % 27 = zN (u (p + l) - 96) by omega, h1]
theorem tkVal_lt {u : Nat → Int32} {p : Nat} : ∀ (l : Nat), (∀ i, i < l → tkL (u (p + i))) → tkVal (tkDs u p l) < 27 ^ l
  | 0, _ => (by decide : (0 : Nat) < 1)
  | l + 1, hl => by
    have h1 := tkVal_lt l (fun i hi => hl i (by omega))
    have h2 := tkDg (hl l (by omega))
    unfold tkDs
    rw [tkVal_s, Nat.pow_succ]
    omega
theorem tkNum_b {u : Nat → Int32} {p : Nat} : ∀ (l : Nat), l ≤ 4 → (∀ i, i < l → tkD (u (p + i))) → 0 ≤ (tkNum u p l).toInt ∧ (tkNum u p l).toInt < 10 ^ l
  | 0, _, _ => (by decide : 0 ≤ (0 : Int32).toInt ∧ (0 : Int32).toInt < 1)
  | l + 1, h, hl => by
    obtain ⟨h1, h2⟩ := tkNum_b l (by omega) (fun i hi => hl i (by omega))
    obtain ⟨h3, h4⟩ := hl l (by omega)
    simp only [zi_le, Int32.reduceToInt] at h3 h4
    have h5 : (10 : Int) ^ l ≤ 10 ^ 3 := by
      have := Nat.pow_le_pow_right (n := 10) (by decide) (show l ≤ 3 by omega)
      exact_mod_cast this
    have h5 : (10 : Int) ^ l ≤ 1000 := h5
    have e1 : (u (p + l) - 48).toInt = (u (p + l)).toInt - 48 := zsub (by simp only [Int32.reduceToInt]; omega) (by simp only [Int32.reduceToInt]; omega)
    have e2 : (tkNum u p l * 10).toInt = (tkNum u p l).toInt * 10 := zmul (by simp only [Int32.reduceToInt]; omega) (by simp only [Int32.reduceToInt]; omega)
    have e3 : (tkNum u p (l + 1)).toInt = (tkNum u p l).toInt * 10 + ((u (p + l)).toInt - 48) := by
      show (tkNum u p l * 10 + (u (p + l) - 48)).toInt = _
      rw [zadd (by omega) (by omega), e1, e2]
    rw [e3, Int.pow_succ]
    omega
