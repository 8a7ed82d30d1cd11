/-! the class's search -/
def clF (W : Nat → Nat) (N R : Nat) (l : List Nat) : Nat := (chF (fun i => W (l.getD i 0)) N R N).2
def bsF (W : Nat → Nat) (N R : Nat) : Nat × List Nat := srF (clF W N R) N 719 (List.range N) (clF W N R (List.range N)) (List.range N)
abbrev rmP (W : Nat → Nat) (N R : Nat) : Prop := ∀ j, j < N → zPop (W j) ≤ R
def okR (W : Nat → Nat) (N R : Nat) (x : Int32) (bb : Nat → Int32) : Prop := (rmP W N R → x = nI (bsF W N R).1 ∧ rwR N bb (bsF W N R).2) ∧ (¬ rmP W N R → x = -1)
def JRc : zJR := fun c want fw b => ∀ R, 1 ≤ R → R ≤ 9 → fw R = -2 ∨ okR (fun j => zN (want j)) (zN c) R (fw R) (b R)
theorem clF_60 {W : Nat → Nat} {N R : Nat} {l : List Nat} (hN : N ≤ 6) : clF W N R l ≤ 60 := Nat.le_trans (chF_d N) (by omega)
theorem srF_le {c : List Nat → Nat} {N m : Nat} (hc : ∀ l, c l ≤ m) : ∀ k l B bl, B ≤ m → (srF c N k l B bl).1 ≤ m
  | 0, _, _, _, h => h
  | k + 1, l, B, bl, h => by
    cases hx : nxL N l with
    | none => rw [srF_n hx]; exact h
    | some l' =>
      by_cases z : c l' < B
      · rw [srF_l hx z]; exact srF_le hc k _ _ _ (hc l')
      · rw [srF_g hx z]; exact srF_le hc k _ _ _ h
theorem bsF_60 {W : Nat → Nat} {N R : Nat} (hN : N ≤ 6) : (bsF W N R).1 ≤ 60 := srF_le (fun _ => clF_60 hN) _ _ _ _ (clF_60 hN)
theorem nI_m1 {n : Nat} (h : n ≤ 60) : ¬ nI n = -1 := fun q => by
  have e := nI_toInt (n := n) (by omega)
  rw [q] at e
  simp only [Int32.reduceToInt] at e
  omega
/-- what a row comes to where there is room -/
theorem chV_room {W : Nat → Nat} {N R : Nat} {f : Nat → Int32} {l : List Nat} (h : rwR N f l) (hr : rmP W N R) : chV (fun i => W (l.getD i 0)) N R = nI (clF W N R l) := if_pos (fun i hi => hr _ (h.2.1 i hi))
theorem chV_range {W : Nat → Nat} {N R : Nat} (hr : ¬ rmP W N R) : chV (fun i => W ((List.range N).getD i 0)) N R = -1 := if_neg (fun q => hr (fun j hj => by
  have this : zPop (W ((List.range N).getD j 0)) ≤ R := q j hj
  rw [List.getD_eq_getElem?_getD, List.getElem?_range hj] at this
  exact this))
/-- the cells that the search writes -/
def fbS (M : zM) (R : Nat) (M1 : zM) (rr ff bb : Nat → Int32) : Prop := (∀ a : zAd, a ≠ (15, 0) → a ≠ (16, 0) → a ≠ (18, R) → M1 a = M a) ∧ M1 (15, 0) = some (.inl (0, 6, .inl rr)) ∧ M1 (16, 0) = some (.inl (0, 10, .inl ff)) ∧ M1 (18, R) = some (.inl (0, 6, .inl bb))
theorem fbS.fr {M M1 : zM} {R : Nat} {rr ff bb : Nat → Int32} (h : fbS M R M1 rr ff bb) {k i : Nat} (hk : k ≠ 15 ∧ k ≠ 16 ∧ k ≠ 18) : M1 (k, i) = M (k, i) := h.1 _ (fun q => hk.1 (congrArg Prod.fst q)) (fun q => hk.2.1 (congrArg Prod.fst q)) (fun q => hk.2.2 (congrArg Prod.fst q))
theorem fbS.rw {M M1 : zM} {R : Nat} {rr ff bb r2 : Nat → Int32} (h : fbS M R M1 rr ff bb) : fbS M R (zupd M1 (15, 0) (.inl (0, 6, .inl r2))) r2 ff bb := ⟨fun a a1 a2 a3 => (if_neg a1).trans (h.1 a a1 a2 a3), zupd_s, (zupd_k (by decide : (16 : Nat) ≠ 15)).trans h.2.2.1, (zupd_k (by decide : (18 : Nat) ≠ 15)).trans h.2.2.2⟩
theorem fbS.kp {M M1 : zM} {R : Nat} {rr ff bb f2 b2 : Nat → Int32} (h : fbS M R M1 rr ff bb) : fbS M R (zupd (zupd M1 (16, 0) (.inl (0, 10, .inl f2))) (18, R) (.inl (0, 6, .inl b2))) rr f2 b2 := ⟨fun a a1 a2 a3 => (if_neg a3).trans ((if_neg a2).trans (h.1 a a1 a2 a3)), (zupd_k (by decide : (15 : Nat) ≠ 18)).trans ((zupd_k (by decide : (15 : Nat) ≠ 16)).trans h.2.1), (zupd_k (by decide : (16 : Nat) ≠ 18)).trans zupd_s, zupd_s⟩
set_option maxRecDepth 20000 in
set_option maxHeartbeats 4000000 in
theorem l1_keep {fr : Nat} {M : zM} {N R : Nat} {f fw bb : Nat → Int32} {x : Int32} (hjobs : M (9, 0) = some (.inr (1, [zi (nI N), zr (14, 0), zr (15, 0), zr (16, 0), zr (17, 0)]))) (hbest : M (17, 0) = some (.inl (9, 10, .inr (.inr fun r => some (18, r))))) (hrow : M (15, 0) = some (.inl (0, 6, .inl f))) (hfw : M (16, 0) = some (.inl (0, 10, .inl fw))) (hb : M (18, R) = some (.inl (0, 6, .inl bb))) (hR : R < 10)  : ∀ (n i : Nat) (bc : Nat → Int32), i + n = 6 → (∀ j, j < i → bc j = f j) → zV zX1_keepRow fr 0 0 9 (zL [some (zr (9, 0)), some (zi (nI R)), some (zi x), some (zi (nI i))]) [] (zupd (zupd M (16, 0) (.inl (0, 10, .inl (zup fw R x)))) (18, R) (.inl (0, 6, .inl bc))) (fun r M' => r = none ∧ ∃ b2, M' = (zupd (zupd M (16, 0) (.inl (0, 10, .inl (zup fw R x)))) (18, R) (.inl (0, 6, .inl b2))) ∧ ∀ j, j < 6 → b2 j = f j) := by
  intro n
  induction n with
  | zero =>
    intro i bc hn hbc
    refine z_il iX1_keepRow_9 rfl ?_
    refine z_co iX1_keepRow_10 ?_
    refine z_icmp_ge iX1_keepRow_12 (fun h1 => ?_) (fun h1 => ?_)
    · refine z_vret iX1_keepRow_35 rfl ?_
      exact ⟨rfl, bc, rfl, fun j hj => hbc j (by omega)⟩
    · exfalso
      rw [zi_le, nI_toInt (by omega)] at h1
      simp only [Int32.reduceToInt] at h1
      omega
  | succ n ih =>
    intro i bc hn hbc
    refine z_il iX1_keepRow_9 rfl ?_
    refine z_co iX1_keepRow_10 ?_
    refine z_icmp_ge iX1_keepRow_12 (fun h1 => ?_) (fun h1 => ?_)
    · exfalso
      rw [zi_le, nI_toInt (by omega)] at h1
      simp only [Int32.reduceToInt] at h1
      omega
    · refine z_al iX1_keepRow_15 rfl ?_
      refine z_gf iX1_keepRow_16 ((zupd_k (Nat.ne_of_beq_eq_false rfl)).trans ((zupd_k (Nat.ne_of_beq_eq_false rfl)).trans hjobs)) rfl ?_
      refine z_il iX1_keepRow_19 rfl ?_
      refine z_aald iX1_keepRow_20 ((zupd_k (Nat.ne_of_beq_eq_false rfl)).trans ((zupd_k (Nat.ne_of_beq_eq_false rfl)).trans hbest)) ⟨by decide, by decide⟩ (nI_toInt (by omega)) (show R < 10 by omega) ?_
      refine z_il iX1_keepRow_21 rfl ?_
      refine z_al iX1_keepRow_22 rfl ?_
      refine z_gf iX1_keepRow_23 ((zupd_k (Nat.ne_of_beq_eq_false rfl)).trans ((zupd_k (Nat.ne_of_beq_eq_false rfl)).trans hjobs)) rfl ?_
      refine z_il iX1_keepRow_26 rfl ?_
      refine z_iald iX1_keepRow_27 ((zupd_k (Nat.ne_of_beq_eq_false rfl)).trans ((zupd_k (Nat.ne_of_beq_eq_false rfl)).trans hrow)) (nI_toInt (by omega)) (show i < 6 by omega) ?_
      refine z_iast2 iX1_keepRow_28 (show 2 ≤ 18 by decide) (nI_toInt (by omega)) (show i < 6 by omega) ?_
      refine z_in iX1_keepRow_29 rfl ?_
      refine z_goto iX1_keepRow_32 ?_
      refine z_loc [some (zr (9, 0)), some (zi (nI R)), some (zi x), some (zi (nI (i + 1)))] ⟨rfl, rfl, rfl, ?_, trivial⟩ (ih (i + 1) _ (by omega) (fun j hj => ?_))
      · show some (zi (nI i + 1)) = _
        rw [nI_1]
      · by_cases z : j = i
        · rw [z, zup_s]
        · rw [zup_n z]; exact hbc j (by omega)
set_option maxRecDepth 20000 in
set_option maxHeartbeats 4000000 in
theorem c1_keepRow {fr : Nat} {M : zM} {N R : Nat} {f fw bb : Nat → Int32} {x : Int32} (hjobs : M (9, 0) = some (.inr (1, [zi (nI N), zr (14, 0), zr (15, 0), zr (16, 0), zr (17, 0)]))) (hbest : M (17, 0) = some (.inl (9, 10, .inr (.inr fun r => some (18, r))))) (hrow : M (15, 0) = some (.inl (0, 6, .inl f))) (hfw : M (16, 0) = some (.inl (0, 10, .inl fw))) (hb : M (18, R) = some (.inl (0, 6, .inl bb))) (hR : R < 10) : zCv zX1_keepRow fr 0 0 [zr (9, 0), zi (nI R), zi x] M (fun M' => ∃ b2, M' = (zupd (zupd M (16, 0) (.inl (0, 10, .inl (zup fw R x)))) (18, R) (.inl (0, 6, .inl b2))) ∧ ∀ j, j < 6 → b2 j = f j) := by
  refine z_enter (L := [some (zr (9, 0)), some (zi (nI R)), some (zi x)]) rfl (by decide +kernel) (Nat.le_of_ble_eq_true rfl) ?_
  refine z_al iX1_keepRow_0 rfl ?_
  refine z_gf iX1_keepRow_1 hjobs rfl ?_
  refine z_il iX1_keepRow_4 rfl ?_
  refine z_il iX1_keepRow_5 rfl ?_
  refine z_iast iX1_keepRow_6 hfw (show 2 ≤ 16 by decide) (nI_toInt (by omega)) (show R < 10 by omega) ?_
  refine z_co iX1_keepRow_7 ?_
  refine z_is iX1_keepRow_8 ?_
  refine z_loc [some (zr (9, 0)), some (zi (nI R)), some (zi x), some (zi (nI 0))] ⟨rfl, rfl, rfl, rfl, trivial⟩ ?_
  have h9 := l1_keep (fr := fr) (x := x) hjobs hbest hrow hfw hb hR 6 0 bb (by omega) (fun j hj => absurd hj (Nat.not_lt_zero j))
  rw [zupd_same ((zupd_k (by decide : (18 : Nat) ≠ 16)).trans hb)] at h9
  exact h9
theorem srF_z {c : List Nat → Nat} {N B : Nat} {l bl : List Nat} : srF c N 0 l B bl = (B, bl) := rfl
set_option maxRecDepth 20000 in
set_option maxHeartbeats 4000000 in
theorem l1_search {fr : Nat} {M : zM} {N R : Nat} {W : Nat → Nat} {w fw : Nat → Int32} (hjobs : M (9, 0) = some (.inr (1, [zi (nI N), zr (14, 0), zr (15, 0), zr (16, 0), zr (17, 0)]))) (hbest : M (17, 0) = some (.inl (9, 10, .inr (.inr fun r => some (18, r))))) (hwa : M (14, 0) = some (.inl (0, 6, .inl w))) (hw : ∀ j, j < N → w j = nI (W j)) (hWl : ∀ j, j < N → W j < 1024) (hN : N ≤ 6) (hR1 : 1 ≤ R) (hR : R ≤ 9) (hf : 4 ≤ fr) (hroom : rmP W N R) {T : Nat × List Nat}  : ∀ (n i : Nat) (l : List Nat) (B : Nat) (bl : List Nat) (Ma : zM) (rr ff bb : Nat → Int32), i + n = 720 → 1 ≤ i → fbS M R Ma rr ff bb → rwR N rr l → ff R = nI B → B ≤ 60 → rwR N bb bl → (∀ k, k ≠ R → ff k = fw k) → srF (clF W N R) N n l B bl = T → zV zX1_findBest fr 0 0 33 (zL [some (zr (9, 0)), some (zi (nI R)), some (zi (nI i))]) [] Ma (fun r M' => r = none ∧ ∃ rr ff bb, fbS M R M' rr ff bb ∧ (∀ k, k ≠ R → ff k = fw k) ∧ ff R = nI T.1 ∧ rwR N bb T.2) := by
  intro n
  induction n with
  | zero =>
    intro i l B bl Ma rr ff bb hn hi1 S hl hB hB6 hbl hff hT
    refine z_il iX1_findBest_33 rfl ?_
    refine z_co iX1_findBest_34 ?_
    refine z_icmp_ge iX1_findBest_37 (fun h1 => ?_) (fun h1 => ?_)
    · refine z_vret iX1_findBest_84 rfl ?_
      first
      | exact ⟨rfl, rr, ff, bb, S, hff, by rw [← hT, srF_z]; exact hB, by rw [← hT, srF_z]; exact hbl⟩
      | (have hB0 : B = 0 := by
           have e2 := nI_toInt (n := B) (by omega)
           rw [hB, zi_le, e2] at h2
           simp only [Int32.reduceToInt] at h2
           omega
         subst hB0
         exact ⟨rfl, rr, ff, bb, S, hff, by rw [← hT, srF_0]; exact hB, by rw [← hT, srF_0]; exact hbl⟩)
      | (rcases hnx with ⟨hnl, -⟩ | ⟨l2, -, hy1, -⟩
         · exact ⟨rfl, r2, ff, bb, S2, hff, by rw [← hT, srF_n hnl]; exact hB, by rw [← hT, srF_n hnl]; exact hbl⟩
         · rw [hy1] at h3
           exact absurd h3 (by decide))
    · exfalso
      rw [zi_le, nI_toInt (by omega)] at h1
      simp only [Int32.reduceToInt] at h1
      omega
  | succ n ih =>
    intro i l B bl Ma rr ff bb hn hi1 S hl hB hB6 hbl hff hT
    refine z_il iX1_findBest_33 rfl ?_
    refine z_co iX1_findBest_34 ?_
    refine z_icmp_ge iX1_findBest_37 (fun h1 => ?_) (fun h1 => ?_)
    · exfalso
      rw [zi_le, nI_toInt (by omega)] at h1
      simp only [Int32.reduceToInt] at h1
      omega
    · refine z_al iX1_findBest_40 rfl ?_
      refine z_gf iX1_findBest_41 ((S.fr (by decide)).trans hjobs) rfl ?_
      refine z_il iX1_findBest_44 rfl ?_
      refine z_iald iX1_findBest_45 S.2.2.1 (nI_toInt (by omega)) (show R < 10 by omega) ?_
      refine z_if_le iX1_findBest_46 (fun h2 => ?_) (fun h2 => ?_)
      · refine z_vret iX1_findBest_84 rfl ?_
        first
        | exact ⟨rfl, rr, ff, bb, S, hff, by rw [← hT, srF_z]; exact hB, by rw [← hT, srF_z]; exact hbl⟩
        | (have hB0 : B = 0 := by
             have e2 := nI_toInt (n := B) (by omega)
             rw [hB, zi_le, e2] at h2
             simp only [Int32.reduceToInt] at h2
             omega
           subst hB0
           exact ⟨rfl, rr, ff, bb, S, hff, by rw [← hT, srF_0]; exact hB, by rw [← hT, srF_0]; exact hbl⟩)
        | (rcases hnx with ⟨hnl, -⟩ | ⟨l2, -, hy1, -⟩
           · exact ⟨rfl, r2, ff, bb, S2, hff, by rw [← hT, srF_n hnl]; exact hB, by rw [← hT, srF_n hnl]; exact hbl⟩
           · rw [hy1] at h3
             exact absurd h3 (by decide))
      · refine z_al iX1_findBest_49 rfl ?_
        refine z_cv0i (fr' := fr - 1) iX1_findBest_50 zmX1_nextRow ((S.fr (by decide)).trans hjobs) (c1_nextRow ((S.fr (by decide)).trans hjobs) S.2.1 hN hl (by omega)) (by omega) (Nat.le_of_ble_eq_true rfl) (fun x M1 hq => ?_)
        obtain ⟨r2, hM, hnx⟩ := hq
        have S2 : fbS M R M1 r2 ff bb := by rw [hM]; exact S.rw
        refine z_if_eq iX1_findBest_53 (fun h3 => ?_) (fun h3 => ?_)
        · refine z_vret iX1_findBest_84 rfl ?_
          first
          | exact ⟨rfl, rr, ff, bb, S, hff, by rw [← hT, srF_z]; exact hB, by rw [← hT, srF_z]; exact hbl⟩
          | (have hB0 : B = 0 := by
               have e2 := nI_toInt (n := B) (by omega)
               rw [hB, zi_le, e2] at h2
               simp only [Int32.reduceToInt] at h2
               omega
             subst hB0
             exact ⟨rfl, rr, ff, bb, S, hff, by rw [← hT, srF_0]; exact hB, by rw [← hT, srF_0]; exact hbl⟩)
          | (rcases hnx with ⟨hnl, -⟩ | ⟨l2, -, hy1, -⟩
             · exact ⟨rfl, r2, ff, bb, S2, hff, by rw [← hT, srF_n hnl]; exact hB, by rw [← hT, srF_n hnl]; exact hbl⟩
             · rw [hy1] at h3
               exact absurd h3 (by decide))
        · obtain ⟨l2, hnl, hl2⟩ : ∃ l2, nxL N l = some l2 ∧ rwR N r2 l2 := by
            rcases hnx with ⟨-, hy1⟩ | ⟨l2, hnl, -, hl2⟩
            · exact absurd hy1 h3
            · exact ⟨l2, hnl, hl2⟩
          refine z_al iX1_findBest_56 rfl ?_
          refine z_il iX1_findBest_57 rfl ?_
          refine z_cv1i (fr' := fr - 1) iX1_findBest_58 zmX1_changesOfRow ((S2.fr (by decide)).trans hjobs) (c1_changesOfRow (N := N) (R := R) (W := W) (P := fun i => l2.getD i 0) ⟨⟨w, _, (S2.fr (by decide)).trans hjobs, (S2.fr (by decide)).trans hwa, S2.2.1, hw, fun i hi => hl2.2.2 i hi⟩, hN, hWl, hl2.2.1⟩ (by omega) hR) (by omega) (Nat.le_of_ble_eq_true rfl) (fun x M1 hq => ?_)
          obtain ⟨rfl, hx⟩ := hq
          have hx2 := (chX_V (fun i hi => hWl _ (hl2.2.1 i hi)) hx).trans (chV_room hl2 hroom)
          subst hx2
          refine z_is iX1_findBest_61 ?_
          refine z_il iX1_findBest_62 rfl ?_
          refine z_al iX1_findBest_63 rfl ?_
          refine z_gf iX1_findBest_64 ((S2.fr (by decide)).trans hjobs) rfl ?_
          refine z_il iX1_findBest_67 rfl ?_
          refine z_iald iX1_findBest_68 S2.2.2.1 (nI_toInt (by omega)) (show R < 10 by omega) ?_
          refine z_icmp_ge iX1_findBest_69 (fun h4 => ?_) (fun h4 => ?_)
          · refine z_in iX1_findBest_78 rfl ?_
            refine z_goto iX1_findBest_81 ?_
            have hge : ¬ clF W N R l2 < B := by
              have e1 := nI_toInt (n := clF W N R l2) (by have := clF_60 (W := W) (R := R) (l := l2) hN; omega)
              have e2 := nI_toInt (n := B) (by omega)
              rw [hB, zi_le, e1, e2] at h4
              omega
            refine z_loc [some (zr (9, 0)), some (zi (nI R)), some (zi (nI (i + 1)))] ⟨rfl, rfl, ?_, trivial⟩ (ih (i + 1) l2 B bl _ r2 ff bb (by omega) (by omega) S2 hl2 hB hB6 hbl hff (by rw [← hT]; exact (srF_g hnl hge).symm))
            show some (zi (nI i + 1)) = _
            rw [nI_1]
          · refine z_al iX1_findBest_72 rfl ?_
            refine z_il iX1_findBest_73 rfl ?_
            refine z_il iX1_findBest_74 rfl ?_
            refine z_cv2v (fr' := fr - 1) iX1_findBest_75 zmX1_keepRow ((S2.fr (by decide)).trans hjobs) (c1_keepRow ((S2.fr (by decide)).trans hjobs) ((S2.fr (by decide)).trans hbest) S2.2.1 S2.2.2.1 S2.2.2.2 (by omega)) (by omega) (Nat.le_of_ble_eq_true rfl) (fun M1 hq => ?_)
            obtain ⟨b2, hM3, hb2⟩ := hq
            have S3 : fbS M R M1 r2 (zup ff R (nI (clF W N R l2))) b2 := by rw [hM3]; exact S2.kp
            refine z_in iX1_findBest_78 rfl ?_
            refine z_goto iX1_findBest_81 ?_
            have hlt : clF W N R l2 < B := by
              have e1 := nI_toInt (n := clF W N R l2) (by have := clF_60 (W := W) (R := R) (l := l2) hN; omega)
              have e2 := nI_toInt (n := B) (by omega)
              rw [hB, zi_le, e1, e2] at h4
              omega
            refine z_loc [some (zr (9, 0)), some (zi (nI R)), some (zi (nI (i + 1)))] ⟨rfl, rfl, ?_, trivial⟩ (ih (i + 1) l2 (clF W N R l2) l2 _ r2 _ b2 (by omega) (by omega) S3 hl2 zup_s (clF_60 hN) (hl2.ext (fun k hk => hb2 k (by omega))) (fun k hk => (zup_n hk).trans (hff k hk)) (by rw [← hT]; exact (srF_l hnl hlt).symm))
            show some (zi (nI i + 1)) = _
            rw [nI_1]
set_option maxRecDepth 20000 in
set_option maxHeartbeats 4000000 in
theorem l1_first {fr : Nat} {M : zM} {N R : Nat} {W : Nat → Nat} {w fw : Nat → Int32} (hjobs : M (9, 0) = some (.inr (1, [zi (nI N), zr (14, 0), zr (15, 0), zr (16, 0), zr (17, 0)]))) (hbest : M (17, 0) = some (.inl (9, 10, .inr (.inr fun r => some (18, r))))) (hwa : M (14, 0) = some (.inl (0, 6, .inl w))) (hw : ∀ j, j < N → w j = nI (W j)) (hWl : ∀ j, j < N → W j < 1024) (hN : N ≤ 6) (hR1 : 1 ≤ R) (hR : R ≤ 9) (hf : 4 ≤ fr) {f b0 : Nat → Int32} (hrow : M (15, 0) = some (.inl (0, 6, .inl f))) (hfw : M (16, 0) = some (.inl (0, 10, .inl fw))) (hb : M (18, R) = some (.inl (0, 6, .inl b0)))  : ∀ (n i : Nat) (rr : Nat → Int32), i + n = 6 → (∀ j, j < i → rr j = nI j) → zV zX1_findBest fr 0 0 2 (zL [some (zr (9, 0)), some (zi (nI R)), some (zi (nI i))]) [] (zupd M (15, 0) (.inl (0, 6, .inl rr))) (fun r M' => r = none ∧ ∃ rr ff bb, fbS M R M' rr ff bb ∧ (∀ k, k ≠ R → ff k = fw k) ∧ okR W N R (ff R) bb) := by
  intro n
  induction n with
  | zero =>
    intro i rr hn hrr
    refine z_il iX1_findBest_2 rfl ?_
    refine z_co iX1_findBest_3 ?_
    refine z_icmp_ge iX1_findBest_5 (fun h1 => ?_) (fun h1 => ?_)
    · have S := (show fbS M R (zupd M (15, 0) (.inl (0, 6, .inl rr))) rr fw b0 from fbS.rw (rr := f) ⟨fun _ _ _ _ => rfl, hrow, hfw, hb⟩)
      have hl : rwR N rr (List.range N) := rwR_range (fun k hk => hrr k (by omega))
      refine z_al iX1_findBest_21 rfl ?_
      refine z_il iX1_findBest_22 rfl ?_
      refine z_al iX1_findBest_23 rfl ?_
      refine z_il iX1_findBest_24 rfl ?_
      refine z_cv1i (fr' := fr - 1) iX1_findBest_25 zmX1_changesOfRow ((zupd_k (Nat.ne_of_beq_eq_false rfl)).trans hjobs) (c1_changesOfRow (N := N) (R := R) (W := W) (P := fun i => (List.range N).getD i 0) ⟨⟨w, _, (S.fr (by decide)).trans hjobs, (S.fr (by decide)).trans hwa, S.2.1, hw, fun i hi => hl.2.2 i hi⟩, hN, hWl, hl.2.1⟩ (by omega) hR) (by omega) (Nat.le_of_ble_eq_true rfl) (fun x M1 hq => ?_)
      obtain ⟨rfl, hx⟩ := hq
      have hx2 := chX_V (fun i hi => hWl _ (hl.2.1 i hi)) hx
      refine z_cv2v (fr' := fr - 1) iX1_findBest_28 zmX1_keepRow ((S.fr (by decide)).trans hjobs) (c1_keepRow ((S.fr (by decide)).trans hjobs) ((S.fr (by decide)).trans hbest) S.2.1 S.2.2.1 S.2.2.2 (by omega)) (by omega) (Nat.le_of_ble_eq_true rfl) (fun M1 hq => ?_)
      obtain ⟨b2, hM3, hb2⟩ := hq
      have S3 := S.kp (f2 := zup fw R x) (b2 := b2)
      rw [← hM3] at S3
      refine z_co iX1_findBest_31 ?_
      refine z_is iX1_findBest_32 ?_
      by_cases hroom : rmP W N R
      · have hx3 := hx2.trans (chV_room hl hroom)
        refine z_loc [some (zr (9, 0)), some (zi (nI R)), some (zi (nI 1))] ⟨rfl, rfl, rfl, trivial⟩ ((l1_search (T := bsF W N R) hjobs hbest hwa hw hWl hN hR1 hR hf hroom 719 1 (List.range N) (clF W N R (List.range N)) (List.range N) _ rr _ b2 (by omega) (by omega) S3 hl (zup_s.trans hx3) (clF_60 hN) (hl.ext (fun k hk => hb2 k (by omega))) (fun k hk => zup_n hk) rfl).mono (fun r M2 ⟨e1, r3, f3, b3, e2, e3, e4, e5⟩ => ⟨e1, r3, f3, b3, e2, e3, fun _ => ⟨e4, e5⟩, fun q => absurd hroom q⟩))
      · have hx3 := hx2.trans (chV_range hroom)
        refine z_il iX1_findBest_33 rfl ?_
        refine z_co iX1_findBest_34 ?_
        refine z_icmp_ge iX1_findBest_37 (fun h1 => ?_) (fun h1 => ?_)
        · exact absurd h1 (by decide)
        · refine z_al iX1_findBest_40 rfl ?_
          refine z_gf iX1_findBest_41 ((S3.fr (by decide)).trans hjobs) rfl ?_
          refine z_il iX1_findBest_44 rfl ?_
          refine z_iald iX1_findBest_45 S3.2.2.1 (nI_toInt (by omega)) (show R < 10 by omega) ?_
          refine z_if_le iX1_findBest_46 (fun h2 => ?_) (fun h2 => ?_)
          · refine z_vret iX1_findBest_84 rfl ?_
            exact ⟨rfl, rr, _, b2, S3, fun k hk => zup_n hk, fun q => absurd q hroom, fun _ => zup_s.trans hx3⟩
          · exact absurd (by rw [zup_s, hx3]; decide) h2
    · exfalso
      rw [zi_le, nI_toInt (by omega)] at h1
      simp only [Int32.reduceToInt] at h1
      omega
  | succ n ih =>
    intro i rr hn hrr
    refine z_il iX1_findBest_2 rfl ?_
    refine z_co iX1_findBest_3 ?_
    refine z_icmp_ge iX1_findBest_5 (fun h1 => ?_) (fun h1 => ?_)
    · exfalso
      rw [zi_le, nI_toInt (by omega)] at h1
      simp only [Int32.reduceToInt] at h1
      omega
    · refine z_al iX1_findBest_8 rfl ?_
      refine z_gf iX1_findBest_9 ((zupd_k (Nat.ne_of_beq_eq_false rfl)).trans hjobs) rfl ?_
      refine z_il iX1_findBest_12 rfl ?_
      refine z_il iX1_findBest_13 rfl ?_
      refine z_iast2 iX1_findBest_14 (show 2 ≤ 15 by decide) (nI_toInt (by omega)) (show i < 6 by omega) ?_
      refine z_in iX1_findBest_15 rfl ?_
      refine z_goto iX1_findBest_18 ?_
      refine z_loc [some (zr (9, 0)), some (zi (nI R)), some (zi (nI (i + 1)))] ⟨rfl, rfl, ?_, trivial⟩ (ih (i + 1) _ (by omega) (fun j hj => ?_))
      · show some (zi (nI i + 1)) = _
        rw [nI_1]
      · by_cases z : j = i
        · rw [z, zup_s]
        · rw [zup_n z]; exact hrr j (by omega)
set_option maxRecDepth 20000 in
set_option maxHeartbeats 4000000 in
theorem c1_findBest {fr : Nat} {M : zM} {N R : Nat} {W : Nat → Nat} {w fw : Nat → Int32} (hjobs : M (9, 0) = some (.inr (1, [zi (nI N), zr (14, 0), zr (15, 0), zr (16, 0), zr (17, 0)]))) (hbest : M (17, 0) = some (.inl (9, 10, .inr (.inr fun r => some (18, r))))) (hwa : M (14, 0) = some (.inl (0, 6, .inl w))) (hw : ∀ j, j < N → w j = nI (W j)) (hWl : ∀ j, j < N → W j < 1024) (hN : N ≤ 6) (hR1 : 1 ≤ R) (hR : R ≤ 9) (hf : 4 ≤ fr) {f b0 : Nat → Int32} (hrow : M (15, 0) = some (.inl (0, 6, .inl f))) (hfw : M (16, 0) = some (.inl (0, 10, .inl fw))) (hb : M (18, R) = some (.inl (0, 6, .inl b0))) : zCv zX1_findBest fr 0 0 [zr (9, 0), zi (nI R)] M (fun M' => ∃ rr ff bb, fbS M R M' rr ff bb ∧ (∀ k, k ≠ R → ff k = fw k) ∧ okR W N R (ff R) bb) := by
  refine z_enter (L := [some (zr (9, 0)), some (zi (nI R))]) rfl (by decide +kernel) (Nat.le_of_ble_eq_true rfl) ?_
  refine z_co iX1_findBest_0 ?_
  refine z_is iX1_findBest_1 ?_
  refine z_loc [some (zr (9, 0)), some (zi (nI R)), some (zi (nI 0))] ⟨rfl, rfl, rfl, trivial⟩ ?_
  have h9 := l1_first hjobs hbest hwa hw hWl hN hR1 hR hf hrow hfw hb 6 0 f (by omega) (fun j hj => absurd hj (Nat.not_lt_zero j))
  rw [zupd_same hrow] at h9
  exact h9
