/-! THE GRAMMAR: one reading of a row of tokens for both sides; a state: the token's number, whether a fault was met, the steps so far -/
abbrev pqS : Type := Nat × Bool × List Int32
def pqTk (T : Nat → Int32) (s : pqS) : Int32 := if s.2.1 = true then -21 else T s.1
def pqAdv (s : pqS) : pqS := (s.1 + 1, s.2.1, s.2.2)
def pqAdd (x : Int32) (s : pqS) : pqS := (s.1, s.2.1, if s.2.2.length < 160 then s.2.2 ++ [x] else s.2.2)
def pqBad (s : pqS) : pqS := (s.1, true, s.2.2)
def pqExp (T : Nat → Int32) (w : Int32) (s : pqS) : pqS := if pqTk T s = w then pqAdv s else pqBad s
def pqLp (T : Nat → Int32) (f : Int32 → Option Int32) (body : pqS → pqS) : Nat → pqS → pqS
  | 0, s => s
  | n + 1, s => match f (pqTk T s) with
    | none => s
    | some x => pqLp T f body n (pqAdd x (body (pqAdv s)))
def pqT (x : Int32) : Option Int32 := if x = -42 then some (-9) else none
def pqU (x : Int32) : Option Int32 := if x = -43 then some (-10) else if x = -45 then some (-11) else none
def pqA (x : Int32) : Option Int32 := if x = -14 then some (-14) else none
def pqO (x : Int32) : Option Int32 := if x = -15 then some (-15) else none
def pqTerm (T : Nat → Int32) (one : pqS → pqS) (s : pqS) : pqS := pqLp T pqT one 160 (one s)
def pqSum (T : Nat → Int32) (one : pqS → pqS) (s : pqS) : pqS := pqLp T pqU (pqTerm T one) 160 (pqTerm T one s)
def pqCmp2 (T : Nat → Int32) (one : pqS → pqS) (a : pqS) : pqS := if pqTk T a = -60 then pqAdd (-12) (pqSum T one (pqAdv a)) else if pqTk T a = -61 then pqAdd (-13) (pqSum T one (pqAdv a)) else a
def pqCmp (T : Nat → Int32) (one : pqS → pqS) (s : pqS) : pqS := pqCmp2 T one (pqSum T one s)
def pqBoth (T : Nat → Int32) (nt : pqS → pqS) (s : pqS) : pqS := pqLp T pqA nt 160 (nt s)
def pqEith (T : Nat → Int32) (nt : pqS → pqS) (s : pqS) : pqS := pqLp T pqO (pqBoth T nt) 160 (pqBoth T nt s)
def pqOne0 (T : Nat → Int32) (s : pqS) : pqS := if -6 ≤ pqTk T s then pqAdv (pqAdd (pqTk T s) s) else pqBad s
def pqOneS (T : Nat → Int32) (o e : pqS → pqS) (s : pqS) : pqS := if -6 ≤ pqTk T s then pqAdv (pqAdd (pqTk T s) s) else if pqTk T s = -45 then pqAdd (-7) (o (pqAdv s)) else if pqTk T s = -40 then pqExp T (-41) (e (pqAdv s)) else pqBad s
def pqNot0 (T : Nat → Int32) (one : pqS → pqS) (s : pqS) : pqS := if pqTk T s = -8 then pqBad s else pqCmp T one s
def pqNotS (T : Nat → Int32) (n one : pqS → pqS) (s : pqS) : pqS := if pqTk T s = -8 then pqAdd (-8) (n (pqAdv s)) else pqCmp T one s
/-- ONE and NOT where d more may be opened -/
def pqLv (T : Nat → Int32) : Nat → (pqS → pqS) × (pqS → pqS)
  | 0 => (pqOne0 T, pqNot0 T (pqOne0 T))
  | d + 1 => (pqOneS T (pqLv T d).1 (pqEith T (pqLv T d).2), pqNotS T (pqLv T d).2 (pqOneS T (pqLv T d).1 (pqEith T (pqLv T d).2)))
def pqPart (T : Nat → Int32) (key : Int32) (s : pqS) : pqS := pqExp T (-59) (pqEith T (pqLv T 5).2 (pqExp T key s))
def pqTx1 (T : Nat → Int32) : pqS := pqPart T (-22) (0, false, [])
def pqTx2 (T : Nat → Int32) : pqS := pqPart T (-23) (pqTx1 T)
def pqTx3 (T : Nat → Int32) : pqS := pqPart T (-24) (pqTx2 T)
def pqTxt (T : Nat → Int32) : pqS := pqExp T (-20) (pqTx3 T)
/-! what steps come to, over a stack of at most 64 -/
def pqBin (x a b : Int32) : Int32 := if x = -9 then a * b else if x = -10 then a + b else if x = -11 then a - b else if x = -12 then (if a < b then 1 else 0) else if x = -13 then (if a = b then 1 else 0) else if x = -14 then (if a ≠ 0 ∧ b ≠ 0 then 1 else 0) else if x = -15 then (if a ≠ 0 ∨ b ≠ 0 then 1 else 0) else 0
def pqAt (env : Nat → Int32) (x : Int32) : Int32 := if 0 ≤ x then x else env (zN (-1 - x))
def pqStp (env : Nat → Int32) (x : Int32) (st : List Int32) : Option (List Int32) :=
  if -6 ≤ x then (if st.length < 64 then some (pqAt env x :: st) else none)
  else if x = -7 then (match st with | a :: r => some (-a :: r) | _ => none)
  else if x = -8 then (match st with | a :: r => some ((if a = 0 then 1 else 0) :: r) | _ => none)
  else (match st with | b :: a :: r => some (pqBin x a b :: r) | _ => none)
def pqRun (env : Nat → Int32) : List Int32 → List Int32 → Option (List Int32)
  | [], st => some st
  | x :: xs, st => match pqStp env x st with
    | some st' => pqRun env xs st'
    | none => none
theorem pqRun_app {env : Nat → Int32} : ∀ {a b st st' : List Int32}, pqRun env a st = some st' → pqRun env (a ++ b) st = pqRun env b st'
  | [], b, st, st', h => by
    simp only [pqRun, Option.some.injEq] at h
    subst h
    rfl
  | x :: xs, b, st, st', h => by
    unfold pqRun at h
    rw [List.cons_append]
    conv => lhs; unfold pqRun
    cases h1 : pqStp env x st with
    | none => rw [h1] at h; cases h
    | some w => rw [h1] at h; exact pqRun_app h
/-- the steps s push v, in room for m -/
def pqG (m : Nat) (env : Nat → Int32) (s : List Int32) (v : Int32) : Prop := ∀ st : List Int32, st.length + m ≤ 64 → pqRun env s st = some (v :: st)
theorem pqG.up {m m' : Nat} {env : Nat → Int32} {s : List Int32} {v : Int32} (h : pqG m env s v) (hm : m ≤ m') : pqG m' env s v := fun st hs => h st (by omega)
theorem pqG.atom {env : Nat → Int32} {x : Int32} (h : -6 ≤ x) : pqG 1 env [x] (pqAt env x) := fun st hs => by
  unfold pqRun pqStp
  rw [if_pos h, if_pos (by omega)]
  rfl
theorem pqG.un {m : Nat} {env : Nat → Int32} {s : List Int32} {a : Int32} (h : pqG m env s a) {x : Int32} (hx : x = -7 ∨ x = -8) : pqG m env (s ++ [x]) (if x = -7 then -a else if a = 0 then 1 else 0) := fun st hs => by
  rw [pqRun_app (h st hs)]
  rcases hx with hx | hx
  · subst hx; rfl
  · subst hx; rfl
theorem pqG.bin {m m2 : Nat} {env : Nat → Int32} {s s2 : List Int32} {a b : Int32} (h : pqG m env s a) (h2 : pqG m2 env s2 b) (hm : m2 + 1 ≤ m) {x : Int32} (hx : x < -8) : pqG m env (s ++ (s2 ++ [x])) (pqBin x a b) := fun st hs => by
  rw [pqRun_app (h st hs), pqRun_app (h2 (a :: st) (by simp only [List.length_cons]; omega))]
  have h6 : ¬ (-6 : Int32) ≤ x := by rw [zi_le]; rw [zi_lt] at hx; simp only [Int32.reduceToInt] at *; omega
  have h7 : ¬ x = -7 := fun q => by subst q; exact absurd hx (by decide)
  have h8 : ¬ x = -8 := fun q => by subst q; exact absurd hx (by decide)
  unfold pqRun pqStp
  rw [if_neg h6, if_neg h7, if_neg h8]
  rfl
/-- from s to s' a thing was read that comes to x -/
def pqSem (N m : Nat) (env : Nat → Int32) (s s' : pqS) (x : Int32) : Prop := ∃ w, s'.2.2 = s.2.2 ++ w ∧ s.1 + w.length ≤ s'.1 ∧ s'.1 ≤ N ∧ (s'.2.1 = false → s.2.1 = false ∧ pqG m env w x)
def pqWf (N : Nat) (s : pqS) : Prop := s.2.2.length ≤ s.1 ∧ s.1 ≤ N
/-- behind the N-th token there is none -/
def pqE (N : Nat) (T : Nat → Int32) : Prop := N ≤ 160 ∧ ∀ k, N ≤ k → T k = -20
theorem pqSem.wf {N m : Nat} {env : Nat → Int32} {s s' : pqS} {x : Int32} (h : pqSem N m env s s' x) (hw : pqWf N s) : pqWf N s' := by
  obtain ⟨w, h1, h2, h3, -⟩ := h
  obtain ⟨h4, h5⟩ := hw
  refine ⟨?_, h3⟩
  rw [h1, List.length_append]
  omega
theorem pqSem.up {N m m' : Nat} {env : Nat → Int32} {s s' : pqS} {x : Int32} (h : pqSem N m env s s' x) (hm : m ≤ m') : pqSem N m' env s s' x := by
  obtain ⟨w, h1, h2, h3, h4⟩ := h
  exact ⟨w, h1, h2, h3, fun q => ⟨(h4 q).1, (h4 q).2.up hm⟩⟩
theorem pqTk_b {T : Nat → Int32} {s : pqS} {w : Int32} (h : pqTk T s = w) (h2 : w ≠ -21) : s.2.1 = false ∧ T s.1 = w := by
  unfold pqTk at h
  by_cases q : s.2.1 = true
  · rw [if_pos q] at h
    exact absurd h.symm h2
  · rw [if_neg q] at h
    exact ⟨by cases z : s.2.1 with
      | true => exact absurd z q
      | false => rfl, h⟩
theorem pqTk_lt {N : Nat} {T : Nat → Int32} (hE : pqE N T) {s : pqS} {w : Int32} (h : pqTk T s = w) (h2 : w ≠ -21) (h3 : w ≠ -20) : s.2.1 = false ∧ T s.1 = w ∧ s.1 < N := by
  have h4 := pqTk_b h h2
  refine ⟨h4.1, h4.2, Nat.lt_of_not_le fun q => ?_⟩
  rw [hE.2 _ q] at h4
  exact h3 h4.2.symm
theorem pqAdv_wf {N : Nat} {T : Nat → Int32} (hE : pqE N T) {s : pqS} {w : Int32} (h : pqTk T s = w) (h2 : w ≠ -21) (h3 : w ≠ -20) (hw : pqWf N s) : pqWf N (pqAdv s) := by
  have h4 := pqTk_lt hE h h2 h3
  obtain ⟨h5, h6⟩ := hw
  exact ⟨show s.2.2.length ≤ s.1 + 1 by omega, show s.1 + 1 ≤ N by omega⟩
theorem pqSem.bad {N m : Nat} {env : Nat → Int32} {s s' : pqS} {x y : Int32} (h : pqSem N m env s s' x) : pqSem N m env s (pqBad s') y := by
  obtain ⟨w, h1, h2, h3, h4⟩ := h
  exact ⟨w, h1, h2, h3, fun q => absurd (show true = false from q) (by decide)⟩
theorem pqSem.nil {N m : Nat} {env : Nat → Int32} {s : pqS} {y : Int32} (hw : pqWf N s) : pqSem N m env s (pqBad s) y :=
  ⟨[], (List.append_nil _).symm, Nat.le_refl _, hw.2, fun q => absurd (show true = false from q) (by decide)⟩
theorem pqSem.atom {N : Nat} {T : Nat → Int32} (hE : pqE N T) {env : Nat → Int32} {s : pqS} (h : -6 ≤ pqTk T s) (hw : pqWf N s) : pqSem N 1 env s (pqAdv (pqAdd (pqTk T s) s)) (pqAt env (pqTk T s)) := by
  have h4 := pqTk_lt hE (s := s) rfl (fun q => by rw [q] at h; exact absurd h (by decide)) (fun q => by rw [q] at h; exact absurd h (by decide))
  obtain ⟨h5, h6⟩ := hw
  have h7 := hE.1
  refine ⟨[pqTk T s], ?_, show s.1 + 1 ≤ s.1 + 1 by omega, show s.1 + 1 ≤ N by omega, fun q => ⟨q, pqG.atom h⟩⟩
  show (if s.2.2.length < 160 then s.2.2 ++ [pqTk T s] else s.2.2) = _
  rw [if_pos (by omega)]
theorem pqSem.un {N m : Nat} {T : Nat → Int32} (hE : pqE N T) {env : Nat → Int32} {s s' : pqS} {a x : Int32} (hw : pqWf N s) (h : pqSem N m env (pqAdv s) s' a) (hx : x = -7 ∨ x = -8) : pqSem N m env s (pqAdd x s') (if x = -7 then -a else if a = 0 then 1 else 0) := by
  obtain ⟨w, h1, h2, h3, h4⟩ := h
  obtain ⟨h5, h6⟩ := hw
  have h7 := hE.1
  have h1 : s'.2.2 = s.2.2 ++ w := h1
  have h2 : s.1 + 1 + w.length ≤ s'.1 := h2
  refine ⟨w ++ [x], ?_, ?_, h3, fun q => ⟨(h4 q).1, (h4 q).2.un hx⟩⟩
  · show (if s'.2.2.length < 160 then s'.2.2 ++ [x] else s'.2.2) = _
    rw [if_pos (by rw [h1, List.length_append]; omega), h1, List.append_assoc]
  · show s.1 + (w ++ [x]).length ≤ s'.1
    rw [List.length_append, List.length_singleton]
    omega
theorem pqSem.bin {N m m2 : Nat} {T : Nat → Int32} (hE : pqE N T) {env : Nat → Int32} {s s1 s2 : pqS} {a b x : Int32} (hw : pqWf N s) (h : pqSem N m env s s1 a) (h2 : pqSem N m2 env (pqAdv s1) s2 b) (hm : m2 + 1 ≤ m) (hx : x < -8) : pqSem N m env s (pqAdd x s2) (pqBin x a b) := by
  obtain ⟨w, g1, g2, g3, g4⟩ := h
  obtain ⟨w2, i1, i2, i3, i4⟩ := h2
  obtain ⟨h5, h6⟩ := hw
  have h7 := hE.1
  have i1 : s2.2.2 = s1.2.2 ++ w2 := i1
  have i2 : s1.1 + 1 + w2.length ≤ s2.1 := i2
  refine ⟨w ++ (w2 ++ [x]), ?_, ?_, i3, fun q => ⟨(g4 (i4 q).1).1, (g4 (i4 q).1).2.bin (i4 q).2 hm hx⟩⟩
  · show (if s2.2.2.length < 160 then s2.2.2 ++ [x] else s2.2.2) = _
    rw [if_pos (by rw [i1, g1, List.length_append, List.length_append]; omega), i1, g1]
    simp only [List.append_assoc]
  · show s.1 + (w ++ (w2 ++ [x])).length ≤ s2.1
    rw [List.length_append, List.length_append, List.length_singleton]
    omega
theorem pqSem.par {N m : Nat} {T : Nat → Int32} (hE : pqE N T) {env : Nat → Int32} {s s' : pqS} {a : Int32} (h : pqSem N m env (pqAdv s) s' a) : pqSem N m env s (pqExp T (-41) s') a := by
  obtain ⟨w, h1, h2, h3, h4⟩ := h
  have h1 : s'.2.2 = s.2.2 ++ w := h1
  have h2 : s.1 + 1 + w.length ≤ s'.1 := h2
  unfold pqExp
  by_cases q : pqTk T s' = -41
  · rw [if_pos q]
    have h8 := pqTk_lt hE q (by decide) (by decide)
    exact ⟨w, h1, show s.1 + w.length ≤ s'.1 + 1 by omega, show s'.1 + 1 ≤ N by omega, h4⟩
  · rw [if_neg q]
    exact ⟨w, h1, show s.1 + w.length ≤ s'.1 by omega, h3, fun q => absurd (show true = false from q) (by decide)⟩
/-! every reading comes to something -/
def pqX (N m : Nat) (X : pqS → pqS) : Prop := ∀ (env : Nat → Int32) (s : pqS), pqWf N s → ∃ x, pqSem N m env s (X s) x
/-- the steps that a loop adds -/
def pqF (f : Int32 → Option Int32) : Prop := ∀ w x, f w = some x → w ≠ -21 ∧ w ≠ -20 ∧ x < -8
theorem pqF_T : pqF pqT := fun w x h => by
  unfold pqT at h
  split at h
  · next q => subst q; cases h; decide
  · cases h
theorem pqF_U : pqF pqU := fun w x h => by
  unfold pqU at h
  split at h
  · next q => subst q; cases h; decide
  · split at h
    · next q => subst q; cases h; decide
    · cases h
theorem pqF_A : pqF pqA := fun w x h => by
  unfold pqA at h
  split at h
  · next q => subst q; cases h; decide
  · cases h
theorem pqF_O : pqF pqO := fun w x h => by
  unfold pqO at h
  split at h
  · next q => subst q; cases h; decide
  · cases h
theorem pqX.lp {N m m2 : Nat} {T : Nat → Int32} (hE : pqE N T) {f : Int32 → Option Int32} (hf : pqF f) {body : pqS → pqS} (hb : pqX N m2 body) (hm : m2 + 1 ≤ m) {env : Nat → Int32} {s : pqS} (hw : pqWf N s) : ∀ (n : Nat) (s1 : pqS) (a : Int32), pqSem N m env s s1 a → ∃ x, pqSem N m env s (pqLp T f body n s1) x
  | 0, s1, a, h => ⟨a, h⟩
  | n + 1, s1, a, h => by
    unfold pqLp
    cases g : f (pqTk T s1) with
    | none => exact ⟨a, h⟩
    | some x =>
      obtain ⟨q1, q2, q3⟩ := hf _ _ g
      obtain ⟨b, hb2⟩ := hb env (pqAdv s1) (pqAdv_wf hE rfl q1 q2 (h.wf hw))
      exact pqX.lp hE hf hb hm hw n _ _ (h.bin hE hw hb2 hm q3)
theorem pqX.term {N m : Nat} {T : Nat → Int32} (hE : pqE N T) {one : pqS → pqS} (h : pqX N m one) : pqX N (m + 1) (pqTerm T one) := fun env s hw => by
  obtain ⟨a, ha⟩ := h env s hw
  exact pqX.lp hE pqF_T h (Nat.le_refl _) hw 160 _ a (ha.up (by omega))
theorem pqX.sum {N m : Nat} {T : Nat → Int32} (hE : pqE N T) {one : pqS → pqS} (h : pqX N m one) : pqX N (m + 2) (pqSum T one) := fun env s hw => by
  have h2 := pqX.term hE h
  obtain ⟨a, ha⟩ := h2 env s hw
  exact pqX.lp hE pqF_U h2 (by omega) hw 160 _ a (ha.up (by omega))
theorem pqX.cmp {N m : Nat} {T : Nat → Int32} (hE : pqE N T) {one : pqS → pqS} (h : pqX N m one) : pqX N (m + 3) (pqCmp T one) := fun env s hw => by
  have h2 := pqX.sum hE h
  obtain ⟨a, ha⟩ := h2 env s hw
  unfold pqCmp pqCmp2
  by_cases q : pqTk T (pqSum T one s) = -60
  · rw [if_pos q]
    obtain ⟨b, hb⟩ := h2 env _ (pqAdv_wf hE q (by decide) (by decide) (ha.wf hw))
    exact ⟨_, (ha.up (by omega)).bin hE hw hb (by omega) (by decide)⟩
  · rw [if_neg q]
    by_cases q2 : pqTk T (pqSum T one s) = -61
    · rw [if_pos q2]
      obtain ⟨b, hb⟩ := h2 env _ (pqAdv_wf hE q2 (by decide) (by decide) (ha.wf hw))
      exact ⟨_, (ha.up (by omega)).bin hE hw hb (by omega) (by decide)⟩
    · rw [if_neg q2]
      exact ⟨a, ha.up (by omega)⟩
theorem pqX.both {N m : Nat} {T : Nat → Int32} (hE : pqE N T) {nt : pqS → pqS} (h : pqX N m nt) : pqX N (m + 1) (pqBoth T nt) := fun env s hw => by
  obtain ⟨a, ha⟩ := h env s hw
  exact pqX.lp hE pqF_A h (Nat.le_refl _) hw 160 _ a (ha.up (by omega))
theorem pqX.eith {N m : Nat} {T : Nat → Int32} (hE : pqE N T) {nt : pqS → pqS} (h : pqX N m nt) : pqX N (m + 2) (pqEith T nt) := fun env s hw => by
  have h2 := pqX.both hE h
  obtain ⟨a, ha⟩ := h2 env s hw
  exact pqX.lp hE pqF_O h2 (by omega) hw 160 _ a (ha.up (by omega))
theorem pqX.lv {N : Nat} {T : Nat → Int32} (hE : pqE N T) : ∀ d : Nat, pqX N (5 * d + 1) (pqLv T d).1 ∧ pqX N (5 * d + 4) (pqLv T d).2
  | 0 => by
    have h1 : pqX N 1 (pqOne0 T) := fun env s hw => by
      unfold pqOne0
      by_cases q : -6 ≤ pqTk T s
      · rw [if_pos q]; exact ⟨_, pqSem.atom hE q hw⟩
      · rw [if_neg q]; exact ⟨0, pqSem.nil hw⟩
    refine ⟨h1, fun env s hw => ?_⟩
    show ∃ x, pqSem N 4 env s (pqNot0 T (pqOne0 T) s) x
    unfold pqNot0
    by_cases q : pqTk T s = -8
    · rw [if_pos q]; exact ⟨0, pqSem.nil hw⟩
    · rw [if_neg q]; exact pqX.cmp hE h1 env s hw
  | d + 1 => by
    obtain ⟨i1, i2⟩ := pqX.lv hE d
    have h1 : pqX N (5 * (d + 1) + 1) (pqOneS T (pqLv T d).1 (pqEith T (pqLv T d).2)) := fun env s hw => by
      unfold pqOneS
      by_cases q : -6 ≤ pqTk T s
      · rw [if_pos q]; exact ⟨_, (pqSem.atom hE q hw).up (by omega)⟩
      · rw [if_neg q]
        by_cases q1 : pqTk T s = -45
        · rw [if_pos q1]
          obtain ⟨b, hb⟩ := i1 env _ (pqAdv_wf hE q1 (by decide) (by decide) hw)
          exact ⟨_, (hb.un hE hw (Or.inl rfl)).up (by omega)⟩
        · rw [if_neg q1]
          by_cases q2 : pqTk T s = -40
          · rw [if_pos q2]
            obtain ⟨b, hb⟩ := pqX.eith hE i2 env _ (pqAdv_wf hE q2 (by decide) (by decide) hw)
            exact ⟨b, (pqSem.par hE hb).up (by omega)⟩
          · rw [if_neg q2]; exact ⟨0, pqSem.nil hw⟩
    refine ⟨h1, fun env s hw => ?_⟩
    show ∃ x, pqSem N (5 * (d + 1) + 4) env s (pqNotS T (pqLv T d).2 (pqOneS T (pqLv T d).1 (pqEith T (pqLv T d).2)) s) x
    unfold pqNotS
    by_cases q : pqTk T s = -8
    · rw [if_pos q]
      obtain ⟨b, hb⟩ := i2 env _ (pqAdv_wf hE q (by decide) (by decide) hw)
      exact ⟨_, (hb.un hE hw (Or.inr rfl)).up (by omega)⟩
    · rw [if_neg q]; exact pqX.cmp hE h1 env s hw
/-- a part of a text: its key is passed, its value's steps lie behind one another -/
theorem pqSem.part {N : Nat} {T : Nat → Int32} (hE : pqE N T) {env : Nat → Int32} {s s' : pqS} {x key : Int32} (hw : pqWf N s) (hk : key ≠ -21 ∧ key ≠ -20) (h : pqSem N 31 env (pqExp T key s) s' x) : pqSem N 31 env s (pqExp T (-59) s') x := by
  obtain ⟨w, h1, h2, h3, h4⟩ := h
  have e1 : (pqExp T key s).2.2 = s.2.2 ∧ s.1 ≤ (pqExp T key s).1 ∧ ((pqExp T key s).2.1 = false → s.2.1 = false) := by
    unfold pqExp
    by_cases q : pqTk T s = key
    · rw [if_pos q]; exact ⟨rfl, show s.1 ≤ s.1 + 1 by omega, fun z => z⟩
    · rw [if_neg q]; exact ⟨rfl, Nat.le_refl _, fun z => absurd (show true = false from z) (by decide)⟩
  rw [e1.1] at h1
  unfold pqExp
  by_cases q : pqTk T s' = -59
  · rw [if_pos q]
    have h8 := pqTk_lt hE q (by decide) (by decide)
    exact ⟨w, h1, show s.1 + w.length ≤ s'.1 + 1 by omega, show s'.1 + 1 ≤ N by omega, fun z => ⟨e1.2.2 (h4 z).1, (h4 z).2⟩⟩
  · rw [if_neg q]
    exact ⟨w, h1, show s.1 + w.length ≤ s'.1 by omega, h3, fun q => absurd (show true = false from q) (by decide)⟩
theorem pqExp_wf {N : Nat} {T : Nat → Int32} (hE : pqE N T) {s : pqS} {w : Int32} (h2 : w ≠ -21) (h3 : w ≠ -20) (hw : pqWf N s) : pqWf N (pqExp T w s) := by
  unfold pqExp
  by_cases q : pqTk T s = w
  · rw [if_pos q]; exact pqAdv_wf hE q h2 h3 hw
  · rw [if_neg q]; exact hw
theorem pqX.part {N : Nat} {T : Nat → Int32} (hE : pqE N T) {key : Int32} (hk : key ≠ -21 ∧ key ≠ -20) : pqX N 31 (pqPart T key) := fun env s hw => by
  obtain ⟨x, hx⟩ := pqX.eith hE (pqX.lv hE 5).2 env _ (pqExp_wf hE (w := key) hk.1 hk.2 hw)
  exact ⟨x, pqSem.part hE hw hk hx⟩
theorem pqWf_0 {N : Nat} : pqWf N (0, false, []) := ⟨Nat.le_refl _, Nat.zero_le _⟩
theorem pqExp_b {T : Nat → Int32} {w : Int32} {s : pqS} (h : (pqExp T w s).2.1 = false) : s.2.1 = false ∧ pqTk T s = w := by
  unfold pqExp at h
  by_cases q : pqTk T s = w
  · rw [if_pos q] at h
    exact ⟨h, q⟩
  · rw [if_neg q] at h
    exact absurd (show true = false from h) (by decide)
theorem pqTxt_gen {N : Nat} {T : Nat → Int32} (hE : pqE N T) (env : Nat → Int32) {s1 s2 s3 : pqS} (h1 : s1 = pqPart T (-22) (0, false, [])) (h2 : s2 = pqPart T (-23) s1) (h3 : s3 = pqPart T (-24) s2) (hb : s3.2.1 = false) : ∃ w1 w2 w3 a b c, s1.2.2 = w1 ∧ s2.2.2 = w1 ++ w2 ∧ s3.2.2 = w1 ++ w2 ++ w3 ∧ (w1 ++ w2 ++ w3).length ≤ 160 ∧ pqG 31 env w1 a ∧ pqG 31 env w2 b ∧ pqG 31 env w3 c := by
  obtain ⟨a, ha⟩ := pqX.part hE (key := -22) ⟨by decide, by decide⟩ env _ pqWf_0
  rw [← h1] at ha
  have wf1 := ha.wf pqWf_0
  obtain ⟨b, hb2⟩ := pqX.part hE (key := -23) ⟨by decide, by decide⟩ env _ wf1
  rw [← h2] at hb2
  have wf2 := hb2.wf wf1
  obtain ⟨c, hc⟩ := pqX.part hE (key := -24) ⟨by decide, by decide⟩ env _ wf2
  rw [← h3] at hc
  have wf3 := hc.wf wf2
  obtain ⟨w1, g1, g2, g3, g4⟩ := ha
  obtain ⟨w2, i1, i2, i3, i4⟩ := hb2
  obtain ⟨w3, j1, j2, j3, j4⟩ := hc
  have c3 := j4 hb
  have c2 := i4 c3.1
  have c1 := g4 c2.1
  have e1 : s1.2.2 = w1 := g1
  have e2 : s2.2.2 = w1 ++ w2 := by rw [i1, e1]
  have e3 : s3.2.2 = w1 ++ w2 ++ w3 := by rw [j1, e2]
  refine ⟨w1, w2, w3, a, b, c, e1, e2, e3, ?_, c1.2, c2.2, c3.2⟩
  rw [← e3]
  have := hE.1
  exact Nat.le_trans wf3.1 (Nat.le_trans wf3.2 this)
/-- the three parts of a text that has no fault -/
theorem pqTxt_ok {N : Nat} {T : Nat → Int32} (hE : pqE N T) (hb : (pqTxt T).2.1 = false) (env : Nat → Int32) : ∃ w1 w2 w3 a b c, (pqTx1 T).2.2 = w1 ∧ (pqTx2 T).2.2 = w1 ++ w2 ∧ (pqTx3 T).2.2 = w1 ++ w2 ++ w3 ∧ (w1 ++ w2 ++ w3).length ≤ 160 ∧ pqG 31 env w1 a ∧ pqG 31 env w2 b ∧ pqG 31 env w3 c := by
  unfold pqTxt at hb
  exact pqTxt_gen hE env rfl rfl rfl (pqExp_b hb).1
