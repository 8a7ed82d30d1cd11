/-- behind a fault nothing moves -/
def pqK (X : pqS → pqS) : Prop := ∀ s : pqS, s.2.1 = true → (X s).1 = s.1 ∧ (X s).2.1 = true
theorem pqK_lp {T : Nat → Int32} {f : Int32 → Option Int32} (hf : pqF f) {b : pqS → pqS} {s : pqS} (h : s.2.1 = true) (n : Nat) : pqLp T f b n s = s := pqLp_n (by
  rw [pqTk_t h]
  cases z : f (-21) with
  | none => rfl
  | some x => exact absurd rfl (hf _ _ z).1) n
theorem pqK.term {T : Nat → Int32} {X : pqS → pqS} (h : pqK X) : pqK (pqTerm T X) := fun s hs => by
  unfold pqTerm
  rw [pqK_lp pqF_T (h s hs).2]
  exact h s hs
theorem pqK.sum {T : Nat → Int32} {X : pqS → pqS} (h : pqK X) : pqK (pqSum T X) := fun s hs => by
  unfold pqSum
  rw [pqK_lp pqF_U (h.term s hs).2]
  exact h.term s hs
theorem pqK.cmp {T : Nat → Int32} {X : pqS → pqS} (h : pqK X) : pqK (pqCmp T X) := fun s hs => by
  have h1 := h.sum (T := T) s hs
  unfold pqCmp pqCmp2
  rw [if_neg (by rw [pqTk_t h1.2]; decide), if_neg (by rw [pqTk_t h1.2]; decide)]
  exact h1
theorem pqK.both {T : Nat → Int32} {X : pqS → pqS} (h : pqK X) : pqK (pqBoth T X) := fun s hs => by
  unfold pqBoth
  rw [pqK_lp pqF_A (h s hs).2]
  exact h s hs
theorem pqK.eith {T : Nat → Int32} {X : pqS → pqS} (h : pqK X) : pqK (pqEith T X) := fun s hs => by
  unfold pqEith
  rw [pqK_lp pqF_O (h.both s hs).2]
  exact h.both s hs
theorem pqK.lv {T : Nat → Int32} : ∀ d : Nat, pqK (pqLv T d).1 ∧ pqK (pqLv T d).2
  | 0 => by
    have h1 : pqK (pqOne0 T) := fun s hs => by
      unfold pqOne0
      rw [if_neg (by rw [pqTk_t hs]; decide)]
      exact ⟨rfl, rfl⟩
    refine ⟨h1, fun s hs => ?_⟩
    show (pqNot0 T (pqOne0 T) s).1 = s.1 ∧ (pqNot0 T (pqOne0 T) s).2.1 = true
    unfold pqNot0
    rw [if_neg (by rw [pqTk_t hs]; decide)]
    exact h1.cmp s hs
  | d + 1 => by
    have h1 : pqK (pqOneS T (pqLv T d).1 (pqEith T (pqLv T d).2)) := fun s hs => by
      unfold pqOneS
      rw [if_neg (by rw [pqTk_t hs]; decide), if_neg (by rw [pqTk_t hs]; decide), if_neg (by rw [pqTk_t hs]; decide)]
      exact ⟨rfl, rfl⟩
    refine ⟨h1, fun s hs => ?_⟩
    show (pqNotS T (pqLv T d).2 (pqOneS T (pqLv T d).1 (pqEith T (pqLv T d).2)) s).1 = s.1 ∧ (pqNotS T (pqLv T d).2 (pqOneS T (pqLv T d).1 (pqEith T (pqLv T d).2)) s).2.1 = true
    unfold pqNotS
    rw [if_neg (by rw [pqTk_t hs]; decide)]
    exact h1.cmp s hs
theorem pqK.exp {T : Nat → Int32} {w : Int32} (h : w ≠ -21) : pqK (pqExp T w) := fun s hs => by
  unfold pqExp
  rw [if_neg (by rw [pqTk_t hs]; exact fun q => h q.symm)]
  exact ⟨rfl, rfl⟩
theorem pqK.part {T : Nat → Int32} {w : Int32} (h : w ≠ -21) : pqK (pqPart T w) := fun s hs => by
  have h1 := pqK.exp (T := T) h s hs
  have h2 := (pqK.lv (T := T) 5).2.eith (T := T) _ h1.2
  have h3 := pqK.exp (T := T) (w := -59) (by decide) _ h2.2
  exact ⟨h3.1.trans (h2.1.trans h1.1), h3.2⟩
theorem pqSem.any {N m : Nat} {env : Nat → Int32} {s s' : pqS} {x y : Int32} (h : pqSem N m env s s' x) (hb : s'.2.1 = true) : pqSem N m env s s' y := by
  obtain ⟨w, h1, h2, h3, -⟩ := h
  exact ⟨w, h1, h2, h3, fun q => by rw [hb] at q; exact absurd q (by decide)⟩
set_option maxRecDepth 20000 in
set_option maxHeartbeats 4000000 in
theorem cm_part {fr : Nat} {M : zM} {s : pqS} {t n : Nat} {M0 : zM} {I : zSI} {A : zSA} {env : Nat → Int32} (hE : pqE (tkC (zRow A t) n) (tkT (zRow A t) n)) (h19 : M0 (41, 19) = some (.inl (0, 960, .inl (A 19)))) (ht : t < 6) (hn16 : n ≤ 160) (hu : ∀ j, j < n → 0 ≤ (zRow A t j).toInt ∧ (zRow A t j).toInt ≤ 255) {W : Int64} {c : Int32} (hW : ∀ (T j3 : Int32) (K : Int64), mkTok T j3 K → ((j3 = 1 ∧ K = W) ↔ T = c)) (c1 : c ≠ -21) (c2 : c ≠ -20) (hf : 43 ≤ fr) (hS : mrS M0 I A t n env 0 s M) (hw : pqWf (tkC (zRow A t) n) s) : zCi zX11_part fr 0 0 [zr (40, 0), zl W] M (fun x M' => mrS M0 I A t n env 0 (pqPart (tkT (zRow A t) n) c s) M' ∧ pqSem (tkC (zRow A t) n) 31 env s (pqPart (tkT (zRow A t) n) c s) x) := by
  obtain ⟨J, K, rfl, hJ⟩ := id hS
  refine z_enter (L := [some (zr (40, 0)), some (zl W), none]) rfl (by decide +kernel) (Nat.le_of_ble_eq_true rfl) ?_
  refine z_al iX11_part_0 rfl ?_
  refine z_ll iX11_part_1 rfl ?_
  refine z_cv1i (fr' := fr - 1) iX11_part_2 zmX11_isWord zupd_s (cm_isWord hS hW c1) (by omega) (Nat.le_of_ble_eq_true rfl) (fun x M1 hq => ?_)
  obtain ⟨rfl, rfl⟩ := hq
  refine z_ib_ne iX11_part_5 (fun h1 => ?_) (fun h1 => ?_)
  · have hk := h1
    have e1 : pqExp (tkT (zRow A t) n) c s = pqAdv s := if_pos hk
    refine z_al iX11_part_12 rfl ?_
    refine z_gf iX11_part_13 zupd_s rfl ?_
    refine z_if_ne iX11_part_16 (fun h2 => ?_) (fun h2 => ?_)
    · exact absurd (hJ.tk.mpr (pqTk_b hk c1).1) h2
    · refine z_al iX11_part_19 rfl ?_
      refine z_cv0v (fr' := fr - 1) iX11_part_20 zmX11_next zupd_s (cm_next (by omega) h19 ht hn16 hu hS (by rw [hk]; exact c1) (by rw [hk]; exact c2)) (by omega) (Nat.le_of_ble_eq_true rfl) (fun M1 hq => ?_)
      have hw2 := pqAdv_wf hE hk c1 c2 hw
      have hb1 := (pqTk_b hk c1).1
      have hS := hq
      obtain ⟨J, K, rfl, hJ⟩ := id hS
      refine z_al iX11_part_23 rfl ?_
      refine z_gf iX11_part_24 zupd_s rfl ?_
      refine z_if_eq iX11_part_27 (fun h3 => ?_) (fun h3 => ?_)
      · refine z_al iX11_part_34 rfl ?_
        refine z_cv0i (fr' := fr - 1) iX11_part_35 zmX11_either zupd_s (cm_eith5 hE h19 ht hn16 hu _ _ _ (by omega) hS hw2) (by omega) (Nat.le_of_ble_eq_true rfl) (fun x M1 hq => ?_)
        obtain ⟨hS, hsem⟩ := hq
        obtain ⟨J, K, rfl, hJ⟩ := id hS
        refine z_is iX11_part_38 ?_
        refine z_al iX11_part_39 rfl ?_
        refine z_co iX11_part_40 ?_
        refine z_cv1i (fr' := fr - 1) iX11_part_42 zmX11_isSign zupd_s (cm_isSign (ch := 59) (c := -59) hS rfl (by decide)) (by omega) (Nat.le_of_ble_eq_true rfl) (fun x M1 hq => ?_)
        obtain ⟨rfl, rfl⟩ := hq
        refine z_ib_ne iX11_part_45 (fun h4 => ?_) (fun h4 => ?_)
        · have hc := h4
          have e2 : pqExp (tkT (zRow A t) n) (-59) (pqEith (tkT (zRow A t) n) (pqLv (tkT (zRow A t) n) 5).2 (pqAdv s)) = pqAdv (pqEith (tkT (zRow A t) n) (pqLv (tkT (zRow A t) n) 5).2 (pqAdv s)) := if_pos hc
          refine z_al iX11_part_52 rfl ?_
          refine z_gf iX11_part_53 zupd_s rfl ?_
          refine z_if_ne iX11_part_56 (fun h5 => ?_) (fun h5 => ?_)
          · exact absurd (hJ.tk.mpr (pqTk_b hc (by decide)).1) h5
          · refine z_al iX11_part_59 rfl ?_
            refine z_cv0v (fr' := fr - 1) iX11_part_60 zmX11_next zupd_s (cm_next (by omega) h19 ht hn16 hu hS (by rw [hc]; decide) (by rw [hc]; decide)) (by omega) (Nat.le_of_ble_eq_true rfl) (fun M1 hq => ?_)
            have hS := hq
            obtain ⟨J, K, rfl, hJ⟩ := id hS
            refine z_il iX11_part_63 rfl ?_
            refine z_iret iX11_part_64 rfl ?_
            have e : pqPart (tkT (zRow A t) n) c s = pqExp (tkT (zRow A t) n) (-59) (pqEith (tkT (zRow A t) n) (pqLv (tkT (zRow A t) n) 5).2 (pqAdv s)) := by unfold pqPart; rw [e1]
            have hp := pqSem.part (s := s) hE hw ⟨c1, c2⟩ (by rw [e1]; exact hsem)
            rw [← e] at hp
            exact ⟨_, rfl, by rw [e, e2]; exact hS, hp⟩
        · have hc := h4
          have e2 : pqExp (tkT (zRow A t) n) (-59) (pqEith (tkT (zRow A t) n) (pqLv (tkT (zRow A t) n) 5).2 (pqAdv s)) = pqBad (pqEith (tkT (zRow A t) n) (pqLv (tkT (zRow A t) n) 5).2 (pqAdv s)) := if_neg hc
          refine z_al iX11_part_48 rfl ?_
          refine z_cv0v (fr' := fr - 1) iX11_part_49 zmX11_fail zupd_s (cm_fail hS) (by omega) (Nat.le_of_ble_eq_true rfl) (fun M1 hq => ?_)
          have hS := hq
          obtain ⟨J, K, rfl, hJ⟩ := id hS
          refine z_al iX11_part_52 rfl ?_
          refine z_gf iX11_part_53 zupd_s rfl ?_
          refine z_if_ne iX11_part_56 (fun h6 => ?_) (fun h6 => ?_)
          · refine z_il iX11_part_63 rfl ?_
            refine z_iret iX11_part_64 rfl ?_
            have e : pqPart (tkT (zRow A t) n) c s = pqExp (tkT (zRow A t) n) (-59) (pqEith (tkT (zRow A t) n) (pqLv (tkT (zRow A t) n) 5).2 (pqAdv s)) := by unfold pqPart; rw [e1]
            have hp := pqSem.part (s := s) hE hw ⟨c1, c2⟩ (by rw [e1]; exact hsem)
            rw [← e] at hp
            exact ⟨_, rfl, by rw [e, e2]; exact hS, hp⟩
          · exact absurd (show true = false from hJ.tk.mp h6) (by decide)
      · exact absurd (hJ.tk.mpr (show (pqAdv s).2.1 = false from hb1)) h3
  · have hk := h1
    have e1 : pqExp (tkT (zRow A t) n) c s = pqBad s := if_neg hk
    refine z_al iX11_part_8 rfl ?_
    refine z_cv0v (fr' := fr - 1) iX11_part_9 zmX11_fail zupd_s (cm_fail hS) (by omega) (Nat.le_of_ble_eq_true rfl) (fun M1 hq => ?_)
    have hS := hq
    obtain ⟨J, K, rfl, hJ⟩ := id hS
    have hb : (pqBad s).2.1 = true := rfl
    refine z_al iX11_part_12 rfl ?_
    refine z_gf iX11_part_13 zupd_s rfl ?_
    refine z_if_ne iX11_part_16 (fun h7 => ?_) (fun h7 => ?_)
    · refine z_al iX11_part_23 rfl ?_
      refine z_gf iX11_part_24 zupd_s rfl ?_
      refine z_if_eq iX11_part_27 (fun h8 => ?_) (fun h8 => ?_)
      · exact absurd (show true = false from hJ.tk.mp h8) (by decide)
      · have hK := (pqK.lv (T := (tkT (zRow A t) n)) 5).2.eith (T := (tkT (zRow A t) n)) (pqBad s) rfl
        have hS := hS.of hK.1 hK.2
        refine z_co iX11_part_30 ?_
        refine z_goto iX11_part_31 ?_
        refine z_is iX11_part_38 ?_
        refine z_al iX11_part_39 rfl ?_
        refine z_co iX11_part_40 ?_
        refine z_cv1i (fr' := fr - 1) iX11_part_42 zmX11_isSign zupd_s (cm_isSign (ch := 59) (c := -59) hS rfl (by decide)) (by omega) (Nat.le_of_ble_eq_true rfl) (fun x M1 hq => ?_)
        obtain ⟨rfl, rfl⟩ := hq
        refine z_ib_ne iX11_part_45 (fun h9 => ?_) (fun h9 => ?_)
        · rw [pqTk_t hK.2] at h9
          exact absurd h9 (by decide)
        · have hc := h9
          have e2 : pqExp (tkT (zRow A t) n) (-59) (pqEith (tkT (zRow A t) n) (pqLv (tkT (zRow A t) n) 5).2 (pqBad s)) = pqBad (pqEith (tkT (zRow A t) n) (pqLv (tkT (zRow A t) n) 5).2 (pqBad s)) := if_neg hc
          refine z_al iX11_part_48 rfl ?_
          refine z_cv0v (fr' := fr - 1) iX11_part_49 zmX11_fail zupd_s (cm_fail hS) (by omega) (Nat.le_of_ble_eq_true rfl) (fun M1 hq => ?_)
          have hS := hq
          obtain ⟨J, K, rfl, hJ⟩ := id hS
          refine z_al iX11_part_52 rfl ?_
          refine z_gf iX11_part_53 zupd_s rfl ?_
          refine z_if_ne iX11_part_56 (fun h10 => ?_) (fun h10 => ?_)
          · refine z_il iX11_part_63 rfl ?_
            refine z_iret iX11_part_64 rfl ?_
            have e : pqPart (tkT (zRow A t) n) c s = pqExp (tkT (zRow A t) n) (-59) (pqEith (tkT (zRow A t) n) (pqLv (tkT (zRow A t) n) 5).2 (pqBad s)) := by unfold pqPart; rw [e1]
            obtain ⟨x0, hx0⟩ := pqX.part hE (key := c) ⟨c1, c2⟩ env s hw
            exact ⟨_, rfl, by rw [e, e2]; exact hS, hx0.any (by rw [e, e2]; rfl)⟩
          · exact absurd (show true = false from hJ.tk.mp h10) (by decide)
    · exact absurd (show true = false from hJ.tk.mp h7) (by decide)
theorem pvR_of {N : Nat} {env : Nat → Int32} {r1 r2 r3 : pqS} {a b c : Int32} (ha : pqSem N 31 env (0, false, []) r1 a) (hb : pqSem N 31 env r1 r2 b) (hc : pqSem N 31 env r2 r3 c) (h : r3.2.1 = false) : pvR r1 r2 r3 env 0 = a ∧ pvR r1 r2 r3 env 1 = b ∧ pvR r1 r2 r3 env 2 = c := by
  obtain ⟨w1, g1, -, -, g4⟩ := ha
  obtain ⟨w2, i1, -, -, i4⟩ := hb
  obtain ⟨w3, j1, -, -, j4⟩ := hc
  have c3 := j4 h
  have c2 := i4 c3.1
  have c1 := g4 c2.1
  have g1 : r1.2.2 = w1 := g1
  have p0 : pvW r1 r2 r3 0 = w1 := g1
  have p1 : pvW r1 r2 r3 1 = w2 := by
    show r2.2.2.drop r1.2.2.length = w2
    rw [i1, List.drop_left]
  have p2 : pvW r1 r2 r3 2 = w3 := by
    show r3.2.2.drop r2.2.2.length = w3
    rw [j1, List.drop_left]
  refine ⟨?_, ?_, ?_⟩
  · unfold pvR; rw [p0, c1.2 [] (by decide)]
  · unfold pvR; rw [p1, c2.2 [] (by decide)]
  · unfold pvR; rw [p2, c3.2 [] (by decide)]
set_option maxRecDepth 20000 in
set_option maxHeartbeats 4000000 in
theorem t_read {fr : Nat} {M : zM} {Q : Option zVal → zM → Prop} {tt w a b d : Int32} (hQ : Q (some (zi (if w = 0 then a else if w = 1 then b else d))) M) : zV zX11_read fr 0 0 104 (zL [some (zr (40, 0)), some (zi tt), some (zi w), some (zi a), some (zi b), some (zi d)]) [] M Q := by
  refine z_il iX11_read_104 rfl ?_
  refine z_if_ne iX11_read_105 (fun h1 => ?_) (fun h1 => ?_)
  · refine z_il iX11_read_112 rfl ?_
    refine z_co iX11_read_113 ?_
    refine z_icmp_ne iX11_read_114 (fun h2 => ?_) (fun h2 => ?_)
    · refine z_il iX11_read_122 rfl ?_
      refine z_iret iX11_read_124 rfl ?_
      first | (rw [if_pos h1] at hQ; exact hQ) | (rw [if_neg h1, if_pos h2] at hQ; exact hQ) | (rw [if_neg h1, if_neg h2] at hQ; exact hQ)
    · refine z_il iX11_read_117 rfl ?_
      refine z_goto iX11_read_119 ?_
      refine z_iret iX11_read_124 rfl ?_
      first | (rw [if_pos h1] at hQ; exact hQ) | (rw [if_neg h1, if_pos h2] at hQ; exact hQ) | (rw [if_neg h1, if_neg h2] at hQ; exact hQ)
  · refine z_il iX11_read_108 rfl ?_
    refine z_goto iX11_read_109 ?_
    refine z_iret iX11_read_124 rfl ?_
    first | (rw [if_pos h1] at hQ; exact hQ) | (rw [if_neg h1, if_pos h2] at hQ; exact hQ) | (rw [if_neg h1, if_neg h2] at hQ; exact hQ)
