/-- the best with one row more -/
def stB (c : List Nat → Nat) (l : List Nat) : Option (Nat × List Nat) → Nat × List Nat
  | none => (c l, l)
  | some q => if c l < q.1 then (c l, l) else q
def bI : Option (Nat × List Nat) → Int32
  | none => -1
  | some q => nI q.1
theorem stB_le {c : List Nat → Nat} {l : List Nat} {m : Nat} (hc : c l ≤ m) : ∀ {bo : Option (Nat × List Nat)}, (∀ q, bo = some q → q.1 ≤ m) → (stB c l bo).1 ≤ m
  | none, _ => hc
  | some q, h => by
    show (if c l < q.1 then (c l, l) else q).1 ≤ m
    split
    · exact hc
    · exact h q rfl
theorem srF_st {c : List Nat → Nat} {N k : Nat} {l l2 : List Nat} {q : Nat × List Nat} (h : nxL N l = some l2) : srF c N (k + 1) l q.1 q.2 = srF c N k l2 (stB c l2 (some q)).1 (stB c l2 (some q)).2 := by
  by_cases z : c l2 < q.1
  · rw [srF_l h z, show stB c l2 (some q) = (c l2, l2) from if_pos z]
  · rw [srF_g h z, show stB c l2 (some q) = q from if_neg z]
theorem runL_s {N k : Nat} {l l2 : List Nat} (h : runL N k l = true) (hn : nxL N l = some l2) : ∃ k2, k = k2 + 1 ∧ runL N k2 l2 = true := by
  cases k with
  | zero =>
    have a : (nxL N l).isNone = true := h
    rw [hn] at a
    exact absurd (show false = true from a) (by decide)
  | succ k =>
    refine ⟨k, rfl, ?_⟩
    have a : runO (runL N k) (nxL N l) = true := h
    rw [hn] at a
    exact a
theorem srF_e {c : List Nat → Nat} {N k B : Nat} {l bl : List Nat} (h : nxL N l = none) : srF c N k l B bl = (B, bl) := by
  cases k with
  | zero => rfl
  | succ k => exact srF_n h
set_option maxRecDepth 20000 in
set_option maxHeartbeats 4000000 in
theorem t11_go {fr : Nat} {M : zM} {Q : Option zVal → zM → Prop} {I J : zSI} {A : zSA} {L : zSL} {K : Int64} (hR : RepM M I A L J K) {N : Nat} (hI9 : I 9 = nI N) (hN : N ≤ 6) {l : List Nat} (hl : rwR N (A 30) l) {R : Nat} {i0 xb : Int32} (hf : 2 ≤ fr) (E0 : nxL N l = none → ∀ (Mc : zM) (A2 : zSA), (∀ a : zAd, a.1 < 40 → Mc a = M a) → RepM Mc I A2 L J K → (∀ k, k ≠ 30 → A2 k = A k) → zV zX11_order fr 0 0 132 (zL [some (zr (40, 0)), some (zi (nI R)), some (zi i0), some (zi xb)]) [] Mc Q) (E1 : ∀ l2, nxL N l = some l2 → ∀ (Mc : zM) (A2 : zSA), (∀ a : zAd, a.1 < 40 → Mc a = M a) → RepM Mc I A2 L J K → (∀ k, k ≠ 30 → A2 k = A k) → rwR N (A2 30) l2 → zV zX11_order fr 0 0 65 (zL [some (zr (40, 0)), some (zi (nI R)), some (zi i0), some (zi xb), some (zi 1)]) [] Mc Q) : zV zX11_order fr 0 0 123 (zL [some (zr (40, 0)), some (zi (nI R)), some (zi i0), some (zi xb)]) [] M Q := by
  refine z_al iX11_order_123 rfl ?_
  refine z_cv0i (fr' := fr - 1) iX11_order_124 zmX11_goesUp hR.1 (c11_goesUp hR hI9 hN hl) (by omega) (Nat.le_of_ble_eq_true rfl) (fun x M1 hq => ?_)
  obtain ⟨r2, rfl, hnx⟩ := hq
  have hRc := hR.arr 30 r2
  rcases hnx with ⟨hn, rfl⟩ | ⟨l2, hn, rfl, hl2⟩
  · refine z_is iX11_order_127 ?_
    refine z_goto iX11_order_129 ?_
    refine z_il iX11_order_65 rfl ?_
    refine z_if_eq iX11_order_67 (fun h1 => ?_) (fun h1 => ?_)
    · refine z_loc [some (zr (40, 0)), some (zi (nI R)), some (zi i0), some (zi xb)] ⟨rfl, rfl, rfl, rfl, trivial⟩ (E0 hn _ _ (zfr zfr_nil (by decide)) hRc (fun k hk => zup_n hk))
    · exact absurd rfl h1
  · refine z_is iX11_order_127 ?_
    refine z_goto iX11_order_129 ?_
    refine z_loc [some (zr (40, 0)), some (zi (nI R)), some (zi i0), some (zi xb), some (zi 1)] ⟨rfl, rfl, rfl, rfl, rfl, trivial⟩ (E1 l2 hn _ _ (zfr zfr_nil (by decide)) hRc (fun k hk => zup_n hk) (by rw [zup_s]; exact hl2))
set_option maxRecDepth 20000 in
set_option maxHeartbeats 4000000 in
theorem l11_keep {fr : Nat} {M : zM} {Q : Option zVal → zM → Prop} {I J : zSI} {A : zSA} {L : zSL} {K : Int64} (hR : RepM M I A L J K) {N : Nat} (hI9 : I 9 = nI N) (hN : N ≤ 6) {l : List Nat} (hl : rwR N (A 30) l) {R : Nat} {i0 xb : Int32} {xm xn : Int32} (KK : ∀ bc : Nat → Int32, (∀ j, j < N → bc j = A 30 j) → zV zX11_order fr 0 0 123 (zL [some (zr (40, 0)), some (zi (nI R)), some (zi i0), some (zi xb)]) [] (zupd M (41, 31) (.inl (0, 6, .inl bc))) Q)  : ∀ (n i : Nat) (bc : Nat → Int32), i + n = N → (∀ j, j < i → bc j = A 30 j) → zV zX11_order fr 0 0 94 (zL [some (zr (40, 0)), some (zi (nI R)), some (zi i0), some (zi xb), some (zi xm), some (zi xn), some (zi (nI i))]) [] (zupd M (41, 31) (.inl (0, 6, .inl bc))) Q := by
  intro n
  induction n with
  | zero =>
    intro i bc hn hbc
    have eN := nI_toInt (n := N) (by omega)
    have ei := nI_toInt (n := i) (by omega)
    refine z_il iX11_order_94 rfl ?_
    refine z_al iX11_order_96 rfl ?_
    refine z_gf iX11_order_97 ((zupd_k (Nat.ne_of_beq_eq_false rfl)).trans hR.1) rfl ?_
    refine z_icmp_ge iX11_order_100 (fun h1 => ?_) (fun h1 => ?_)
    · refine z_loc [some (zr (40, 0)), some (zi (nI R)), some (zi i0), some (zi xb)] ⟨rfl, rfl, rfl, rfl, trivial⟩ (KK bc (fun j hj => hbc j (by omega)))
    · exfalso
      simp only [hI9, zi_le, eN, ei] at h1
      omega
  | succ n ih =>
    intro i bc hn hbc
    have eN := nI_toInt (n := N) (by omega)
    have ei := nI_toInt (n := i) (by omega)
    refine z_il iX11_order_94 rfl ?_
    refine z_al iX11_order_96 rfl ?_
    refine z_gf iX11_order_97 ((zupd_k (Nat.ne_of_beq_eq_false rfl)).trans hR.1) rfl ?_
    refine z_icmp_ge iX11_order_100 (fun h1 => ?_) (fun h1 => ?_)
    · exfalso
      simp only [hI9, zi_le, eN, ei] at h1
      omega
    · refine z_al iX11_order_103 rfl ?_
      refine z_gf iX11_order_104 ((zupd_k (Nat.ne_of_beq_eq_false rfl)).trans hR.1) rfl ?_
      refine z_il iX11_order_107 rfl ?_
      refine z_al iX11_order_109 rfl ?_
      refine z_gf iX11_order_110 ((zupd_k (Nat.ne_of_beq_eq_false rfl)).trans hR.1) rfl ?_
      refine z_il iX11_order_113 rfl ?_
      refine z_iald iX11_order_115 ((zupd_i (by decide)).trans (hR.2.1 30 (by decide))) (nI_toInt (by omega)) (show i < 6 by omega) ?_
      refine z_iast2 iX11_order_116 (show 2 ≤ 41 by decide) (nI_toInt (by omega)) (show i < 6 by omega) ?_
      refine z_in iX11_order_117 rfl ?_
      refine z_goto iX11_order_120 ?_
      refine z_loc [some (zr (40, 0)), some (zi (nI R)), some (zi i0), some (zi xb), some (zi xm), some (zi xn), some (zi (nI (i + 1)))] ⟨rfl, rfl, rfl, rfl, rfl, rfl, ?_, trivial⟩ (ih (i + 1) _ (by omega) (fun j hj => ?_))
      · show some (zi (nI i + 1)) = _
        rw [nI_1]
      · by_cases z : j = i
        · rw [z, zup_s]
        · rw [zup_n z]; exact hbc j (by omega)
set_option maxRecDepth 20000 in
set_option maxHeartbeats 4000000 in
theorem l11_search {fr : Nat} {M : zM} {Q : Option zVal → zM → Prop} {I J : zSI} {A : zSA} {L : zSL} {K : Int64} {N : Nat} (hI9 : I 9 = nI N) (hN : N ≤ 6) {R : Nat} (hR9 : R ≤ 9) {i0 : Int32} (hf : 5 ≤ fr) {W : Nat → Nat} (hw : ∀ j, j < N → A 25 j = nI (W j)) (hWl : ∀ j, j < N → W j < 1024) (hroom : rmP W N R) {T : Nat × List Nat} (KK : ∀ (Mc : zM) (A2 : zSA), (∀ a : zAd, a.1 < 40 → Mc a = M a) → RepM Mc I A2 L J K → (∀ k, k < 30 → A2 k = A k) → T.1 ≤ 60 → rwR N (A2 31) T.2 → zV zX11_order fr 0 0 132 (zL [some (zr (40, 0)), some (zi (nI R)), some (zi i0), some (zi (nI T.1))]) [] Mc Q) : ∀ (k : Nat) {l : List Nat}, runL N k l = true → ∀ {bo : Option (Nat × List Nat)} {Ma : zM} {A1 : zSA}, (∀ a : zAd, a.1 < 40 → Ma a = M a) → RepM Ma I A1 L J K → (∀ k, k < 30 → A1 k = A k) → rwR N (A1 30) l → (∀ q, bo = some q → q.1 ≤ 60 ∧ rwR N (A1 31) q.2) → srF (clF W N R) N k l (stB (clF W N R) l bo).1 (stB (clF W N R) l bo).2 = T → zV zX11_order fr 0 0 65 (zL [some (zr (40, 0)), some (zi (nI R)), some (zi i0), some (zi (bI bo)), some (zi 1)]) [] Ma Q := by
  intro k
  induction k using Nat.strongRecOn with
  | ind k ihk =>
    intro l hrun bo Ma A1 hfa hRa hA1 hl hbo hT
    refine z_il iX11_order_65 rfl ?_
    refine z_if_eq iX11_order_67 (fun h1 => ?_) (fun h1 => ?_)
    · exact absurd h1 (by decide)
    · refine z_al iX11_order_70 rfl ?_
      refine z_il iX11_order_71 rfl ?_
      refine z_cv1i (fr' := fr - 1) iX11_order_72 zmX11_changesOf hRa.1 (c11_changesOf hRa (N := N) (R := R) (W := W) (P := fun i => l.getD i 0) ⟨hI9, fun j hj => (congrFun (hA1 25 (by decide)) j).trans (hw j hj), fun i hi => hl.2.2 i hi, hN, hWl, hl.2.1⟩ (by omega) (fun i hi => hroom _ (hl.2.1 i hi)) hR9) (by omega) (Nat.le_of_ble_eq_true rfl) (fun x M1 hq => ?_)
      obtain ⟨rfl, hx⟩ := hq
      subst hx
      refine z_is iX11_order_75 ?_
      refine z_il iX11_order_77 rfl ?_
      refine z_co iX11_order_78 ?_
      refine z_icmp_eq iX11_order_79 (fun h2 => ?_) (fun h2 => ?_)
      · have hbo0 : bo = none := by
          cases bo with
          | none => rfl
          | some q => exact absurd h2 (nI_m1 (hbo q rfl).1)
        have hst : stB (clF W N R) l bo = (clF W N R l, l) := by
          rw [hbo0]
          rfl
        have hq6 : (stB (clF W N R) l bo).1 ≤ 60 := stB_le (clF_60 hN) (fun q hq => (hbo q hq).1)
        refine z_il iX11_order_88 rfl ?_
        refine z_is iX11_order_90 ?_
        refine z_co iX11_order_91 ?_
        refine z_is iX11_order_92 ?_
        refine z_loc [some (zr (40, 0)), some (zi (nI R)), some (zi i0), some (zi (nI (clF W N R l))), some (zi 1), some (zi (nI (clF W N R l))), some (zi (nI 0))] ⟨rfl, rfl, rfl, rfl, rfl, rfl, rfl, trivial⟩ ?_
        have e31 := zupd_same (a := (41, 31)) (e := .inl (0, 6, .inl (A1 31))) (hRa.2.1 31 (by decide))
        rw [← e31]
        refine l11_keep hRa hI9 hN hl (fun bc hbc => ?_) N 0 (A1 31) (by omega) (fun j hj => absurd hj (Nat.not_lt_zero j))
        · have hRb := hRa.arr 31 bc
          have hlb : rwR N (zup A1 31 bc 30) l := by rw [zup_n (by decide)]; exact hl
          have hbb : rwR N (zup A1 31 bc 31) (stB (clF W N R) l bo).2 := by rw [zup_s, hst]; exact hl.ext (fun k hk => hbc k hk)
          have hfb := zfr hfa (b := (41, 31)) (e := .inl (0, 6, .inl bc)) (by decide)
          have hAb : ∀ k, k < 30 → zup A1 31 bc k = A k := fun k hk => (zup_n (by omega)).trans (hA1 k hk)
          rw [show nI (clF W N R l) = nI (stB (clF W N R) l bo).1 by rw [hst]]
          refine (t11_go hRb hI9 hN hlb (by omega) (fun hn Mc A3 f3 hR3 hA3 => ?_) (fun l2 hn Mc A3 f3 hR3 hA3 hl3 => ?_))
          · have eT : stB (clF W N R) l bo = T := by
              rw [← hT, srF_e hn]
            have hb3 : rwR N (A3 31) (stB (clF W N R) l bo).2 := by rw [hA3 31 (by decide)]; exact hbb
            rw [eT] at hq6 hb3 ⊢
            exact KK Mc A3 (fun a ha => (f3 a ha).trans (hfb a ha)) hR3 (fun k hk => (hA3 k (by omega)).trans (hAb k hk)) hq6 hb3
          · obtain ⟨k2, rfl, hrun2⟩ := runL_s hrun hn
            exact ihk k2 (by omega) hrun2 (bo := some (stB (clF W N R) l bo)) (fun a ha => (f3 a ha).trans (hfb a ha)) hR3 (fun k hk => (hA3 k (by omega)).trans (hAb k hk)) hl3 (fun q hq => by cases hq; exact ⟨hq6, by rw [hA3 31 (by decide)]; exact hbb⟩) (by rw [← hT]; exact (srF_st hn).symm)
      · obtain ⟨q, hbo0⟩ : ∃ q, bo = some q := by
          cases bo with
          | none => exact absurd rfl h2
          | some q => exact ⟨q, rfl⟩
        refine z_il iX11_order_82 rfl ?_
        refine z_il iX11_order_84 rfl ?_
        refine z_icmp_ge iX11_order_85 (fun h3 => ?_) (fun h3 => ?_)
        · have hst : stB (clF W N R) l bo = q := by
            rw [hbo0]
            refine if_neg (fun z => ?_)
            have e1 := nI_toInt (n := clF W N R l) (by have := clF_60 (W := W) (R := R) (l := l) hN; omega)
            have e2 := nI_toInt (n := q.1) (by have := (hbo q hbo0).1; omega)
            rw [hbo0, show bI (some q) = nI q.1 from rfl, zi_le, show nI (chF (fun i => W (l.getD i 0)) N R N).2 = nI (clF W N R l) from rfl, e1, e2] at h3
            omega
          have hq6 : (stB (clF W N R) l bo).1 ≤ 60 := stB_le (clF_60 hN) (fun q hq => (hbo q hq).1)
          have hRb := hRa
          have hlb := hl
          have hbb : rwR N (A1 31) (stB (clF W N R) l bo).2 := by rw [hst]; exact (hbo q hbo0).2
          have hfb := hfa
          have hAb := hA1
          rw [show bI bo = nI (stB (clF W N R) l bo).1 by rw [hst, hbo0]; rfl]
          refine z_loc [some (zr (40, 0)), some (zi (nI R)), some (zi i0), some (zi (nI (stB (clF W N R) l bo).1))] ⟨rfl, rfl, rfl, rfl, trivial⟩ (t11_go hRb hI9 hN hlb (by omega) (fun hn Mc A3 f3 hR3 hA3 => ?_) (fun l2 hn Mc A3 f3 hR3 hA3 hl3 => ?_))
          · have eT : stB (clF W N R) l bo = T := by
              rw [← hT, srF_e hn]
            have hb3 : rwR N (A3 31) (stB (clF W N R) l bo).2 := by rw [hA3 31 (by decide)]; exact hbb
            rw [eT] at hq6 hb3 ⊢
            exact KK Mc A3 (fun a ha => (f3 a ha).trans (hfb a ha)) hR3 (fun k hk => (hA3 k (by omega)).trans (hAb k hk)) hq6 hb3
          · obtain ⟨k2, rfl, hrun2⟩ := runL_s hrun hn
            exact ihk k2 (by omega) hrun2 (bo := some (stB (clF W N R) l bo)) (fun a ha => (f3 a ha).trans (hfb a ha)) hR3 (fun k hk => (hA3 k (by omega)).trans (hAb k hk)) hl3 (fun q hq => by cases hq; exact ⟨hq6, by rw [hA3 31 (by decide)]; exact hbb⟩) (by rw [← hT]; exact (srF_st hn).symm)
        · have hst : stB (clF W N R) l bo = (clF W N R l, l) := by
            rw [hbo0]
            refine if_pos ?_
            have e1 := nI_toInt (n := clF W N R l) (by have := clF_60 (W := W) (R := R) (l := l) hN; omega)
            have e2 := nI_toInt (n := q.1) (by have := (hbo q hbo0).1; omega)
            rw [hbo0, show bI (some q) = nI q.1 from rfl, zi_le, show nI (chF (fun i => W (l.getD i 0)) N R N).2 = nI (clF W N R l) from rfl, e1, e2] at h3
            omega
          have hq6 : (stB (clF W N R) l bo).1 ≤ 60 := stB_le (clF_60 hN) (fun q hq => (hbo q hq).1)
          refine z_il iX11_order_88 rfl ?_
          refine z_is iX11_order_90 ?_
          refine z_co iX11_order_91 ?_
          refine z_is iX11_order_92 ?_
          refine z_loc [some (zr (40, 0)), some (zi (nI R)), some (zi i0), some (zi (nI (clF W N R l))), some (zi 1), some (zi (nI (clF W N R l))), some (zi (nI 0))] ⟨rfl, rfl, rfl, rfl, rfl, rfl, rfl, trivial⟩ ?_
          have e31 := zupd_same (a := (41, 31)) (e := .inl (0, 6, .inl (A1 31))) (hRa.2.1 31 (by decide))
          rw [← e31]
          refine l11_keep hRa hI9 hN hl (fun bc hbc => ?_) N 0 (A1 31) (by omega) (fun j hj => absurd hj (Nat.not_lt_zero j))
          · have hRb := hRa.arr 31 bc
            have hlb : rwR N (zup A1 31 bc 30) l := by rw [zup_n (by decide)]; exact hl
            have hbb : rwR N (zup A1 31 bc 31) (stB (clF W N R) l bo).2 := by rw [zup_s, hst]; exact hl.ext (fun k hk => hbc k hk)
            have hfb := zfr hfa (b := (41, 31)) (e := .inl (0, 6, .inl bc)) (by decide)
            have hAb : ∀ k, k < 30 → zup A1 31 bc k = A k := fun k hk => (zup_n (by omega)).trans (hA1 k hk)
            rw [show nI (clF W N R l) = nI (stB (clF W N R) l bo).1 by rw [hst]]
            refine (t11_go hRb hI9 hN hlb (by omega) (fun hn Mc A3 f3 hR3 hA3 => ?_) (fun l2 hn Mc A3 f3 hR3 hA3 hl3 => ?_))
            · have eT : stB (clF W N R) l bo = T := by
                rw [← hT, srF_e hn]
              have hb3 : rwR N (A3 31) (stB (clF W N R) l bo).2 := by rw [hA3 31 (by decide)]; exact hbb
              rw [eT] at hq6 hb3 ⊢
              exact KK Mc A3 (fun a ha => (f3 a ha).trans (hfb a ha)) hR3 (fun k hk => (hA3 k (by omega)).trans (hAb k hk)) hq6 hb3
            · obtain ⟨k2, rfl, hrun2⟩ := runL_s hrun hn
              exact ihk k2 (by omega) hrun2 (bo := some (stB (clF W N R) l bo)) (fun a ha => (f3 a ha).trans (hfb a ha)) hR3 (fun k hk => (hA3 k (by omega)).trans (hAb k hk)) hl3 (fun q hq => by cases hq; exact ⟨hq6, by rw [hA3 31 (by decide)]; exact hbb⟩) (by rw [← hT]; exact (srF_st hn).symm)
set_option maxRecDepth 20000 in
set_option maxHeartbeats 4000000 in
theorem l11_id {fr : Nat} {M : zM} {Q : Option zVal → zM → Prop} {I J : zSI} {A : zSA} {L : zSL} {K : Int64} (hR : RepM M I A L J K) {N : Nat} (hI9 : I 9 = nI N) (hN : N ≤ 6) {R : Nat} {i0 : Int32} (KK : ∀ rr : Nat → Int32, (∀ j, j < N → rr j = nI j) → zV zX11_order fr 0 0 60 (zL [some (zr (40, 0)), some (zi (nI R)), some (zi i0)]) [] (zupd M (41, 30) (.inl (0, 6, .inl rr))) Q)  : ∀ (n i : Nat) (rr : Nat → Int32), i + n = N → (∀ j, j < i → rr j = nI j) → zV zX11_order fr 0 0 39 (zL [some (zr (40, 0)), some (zi (nI R)), some (zi i0), some (zi (nI i))]) [] (zupd M (41, 30) (.inl (0, 6, .inl rr))) Q := by
  intro n
  induction n with
  | zero =>
    intro i rr hn hrr
    have eN := nI_toInt (n := N) (by omega)
    have ei := nI_toInt (n := i) (by omega)
    refine z_il iX11_order_39 rfl ?_
    refine z_al iX11_order_40 rfl ?_
    refine z_gf iX11_order_41 ((zupd_k (Nat.ne_of_beq_eq_false rfl)).trans hR.1) rfl ?_
    refine z_icmp_ge iX11_order_44 (fun h1 => ?_) (fun h1 => ?_)
    · refine z_loc [some (zr (40, 0)), some (zi (nI R)), some (zi i0)] ⟨rfl, rfl, rfl, trivial⟩ (KK rr (fun j hj => hrr j (by omega)))
    · exfalso
      simp only [hI9, zi_le, eN, ei] at h1
      omega
  | succ n ih =>
    intro i rr hn hrr
    have eN := nI_toInt (n := N) (by omega)
    have ei := nI_toInt (n := i) (by omega)
    refine z_il iX11_order_39 rfl ?_
    refine z_al iX11_order_40 rfl ?_
    refine z_gf iX11_order_41 ((zupd_k (Nat.ne_of_beq_eq_false rfl)).trans hR.1) rfl ?_
    refine z_icmp_ge iX11_order_44 (fun h1 => ?_) (fun h1 => ?_)
    · exfalso
      simp only [hI9, zi_le, eN, ei] at h1
      omega
    · refine z_al iX11_order_47 rfl ?_
      refine z_gf iX11_order_48 ((zupd_k (Nat.ne_of_beq_eq_false rfl)).trans hR.1) rfl ?_
      refine z_il iX11_order_51 rfl ?_
      refine z_il iX11_order_52 rfl ?_
      refine z_iast2 iX11_order_53 (show 2 ≤ 41 by decide) (nI_toInt (by omega)) (show i < 6 by omega) ?_
      refine z_in iX11_order_54 rfl ?_
      refine z_goto iX11_order_57 ?_
      refine z_loc [some (zr (40, 0)), some (zi (nI R)), some (zi i0), some (zi (nI (i + 1)))] ⟨rfl, rfl, rfl, ?_, trivial⟩ (ih (i + 1) _ (by omega) (fun j hj => ?_))
      · show some (zi (nI i + 1)) = _
        rw [nI_1]
      · by_cases z : j = i
        · rw [z, zup_s]
        · rw [zup_n z]; exact hrr j (by omega)
set_option maxRecDepth 20000 in
set_option maxHeartbeats 4000000 in
theorem pm_order {fr : Nat} {M : zM} {I J : zSI} {A : zSA} {L : zSL} {K : Int64} (hf : 7 ≤ fr) (hR : RepM M I A L J K) (hV : Val I A L) (r i : Int32) : zCi zX11_order fr 0 0 [zr (40, 0), zi r, zi i] M (fun x M' => zEM M x (sp_order I A L r i) M') := by
  refine z_enter (L := [some (zr (40, 0)), some (zi r), some (zi i)]) rfl (by decide +kernel) (Nat.le_of_ble_eq_true rfl) ?_
  obtain ⟨j9, jN, jw⟩ := jv_f hV
  refine z_il iX11_order_0 rfl ?_
  refine z_co iX11_order_1 ?_
  refine z_co iX11_order_2 ?_
  refine z_cs3i (fr' := fr - 1) iX11_order_4 zmX11_in (c11_in _ _ _) (by omega) (Nat.le_of_ble_eq_true rfl) (fun x M1 hq => ?_)
  obtain ⟨rfl, rfl⟩ := hq
  refine z_ib_ne iX11_order_7 (fun h1 => ?_) (fun h1 => ?_)
  · refine z_al iX11_order_13 rfl ?_
    refine z_il (x := nI (zN r)) iX11_order_14 (by rw [← (zR9 h1).1]; rfl) ?_
    refine z_cv1i (fr' := fr - 1) iX11_order_15 zmX11_isRoom hR.1 (c11_isRoom hR (N := zN (I 9)) (R := zN r) (W := (fun j => zN (A 25 j))) j9 (fun j hj => (jw j hj).1) jN (fun j hj => (jw j hj).2) (by omega) (zR9 h1).2.2) (by omega) (Nat.le_of_ble_eq_true rfl) (fun x M1 hq => ?_)
    obtain ⟨rfl, rfl⟩ := hq
    refine z_ib_eq iX11_order_18 (fun h2 => ?_) (fun h2 => ?_)
    · refine z_co iX11_order_35 ?_
      refine z_iret iX11_order_36 rfl ?_
      refine ⟨_, rfl, ?_⟩
      unfold sp_order
      rw [if_pos h1]
      first
      | (rw [orV_0 h2]; exact zEM.rd hR)
      | (have eN := nI_toInt (n := zN (I 9)) (by omega)
         have e9 : (I 9 - 1).toInt = (zN (I 9) : Int) - 1 := by
           rw [zsub (by rw [(zI9 hV).1]; simp only [Int32.reduceToInt]; omega) (by rw [(zI9 hV).1]; simp only [Int32.reduceToInt]; omega), (zI9 hV).1]
           rfl
         simp only [zBw, zi_le, e9, Int32.reduceToInt] at h3
         have hi1 : ¬ i = -1 := fun q => by
           rw [q] at h3
           simp only [Int32.reduceToInt] at h3
           omega
         rw [orV_2 h2 hi1, if_neg (fun q => by omega)]
         exact zEM.rd hR)
    · refine z_il iX11_order_21 rfl ?_
      refine z_co iX11_order_22 ?_
      refine z_al iX11_order_23 rfl ?_
      refine z_gf iX11_order_24 hR.1 rfl ?_
      refine z_co iX11_order_27 ?_
      refine z_isub iX11_order_28 ?_
      refine z_cs3i (fr' := fr - 1) iX11_order_29 zmX11_in (c11_in _ _ _) (by omega) (Nat.le_of_ble_eq_true rfl) (fun x M1 hq => ?_)
      obtain ⟨rfl, rfl⟩ := hq
      refine z_ib_ne iX11_order_32 (fun h3 => ?_) (fun h3 => ?_)
      · refine z_co iX11_order_37 ?_
        refine z_is iX11_order_38 ?_
        have eN := nI_toInt (n := zN (I 9)) (by omega)
        have e9 : (I 9 - 1).toInt = (zN (I 9) : Int) - 1 := by
          rw [zsub (by rw [(zI9 hV).1]; simp only [Int32.reduceToInt]; omega) (by rw [(zI9 hV).1]; simp only [Int32.reduceToInt]; omega), (zI9 hV).1]
          rfl
        have h3b := h3
        simp only [zBw, zi_le, e9, Int32.reduceToInt] at h3b
        refine z_loc [some (zr (40, 0)), some (zi (nI (zN r))), some (zi i), some (zi (nI 0))] ⟨rfl, ?_, rfl, rfl, trivial⟩ ?_
        · show some (zi r) = _
          rw [← (zR9 h1).1]
        · have e30 := zupd_same (a := (41, 30)) (e := .inl (0, 6, .inl (A 30))) (hR.2.1 30 (by decide))
          rw [← e30]
          refine l11_id hR j9 jN (fun rr hrr => ?_) (zN (I 9)) 0 (A 30) (by omega) (fun j hj => absurd hj (Nat.not_lt_zero j))
          refine z_co iX11_order_60 ?_
          refine z_is iX11_order_61 ?_
          refine z_co iX11_order_62 ?_
          refine z_is iX11_order_63 ?_
          refine z_loc [some (zr (40, 0)), some (zi (nI (zN r))), some (zi i), some (zi (bI none)), some (zi 1)] ⟨rfl, rfl, rfl, rfl, rfl, trivial⟩ (l11_search j9 jN (zR9 h1).2.2 (by omega) (fun j hj => (jw j hj).1) (fun j hj => (jw j hj).2) h2 (T := bsF (fun j => zN (A 25 j)) (zN (I 9)) (zN r)) (fun Mc A2 hfc hRc hA2 hT6 hb2 => ?_) 719 (runL_all _ jN) (bo := none) (zfr zfr_nil (by decide)) (hR.arr 30 rr) (fun k hk => zup_n (by omega)) (by rw [zup_s]; exact rwR_range hrr) (fun q hq => by cases hq) rfl)
          rw [e30]
          refine z_il iX11_order_132 rfl ?_
          refine z_if_ge iX11_order_133 (fun h4 => ?_) (fun h4 => ?_)
          · have hi0 : ¬ i = -1 := fun q => by
              rw [q] at h4
              exact absurd h4 (by decide)
            rw [zi_le] at h4
            simp only [Int32.reduceToInt] at h4
            have e0 : zN i = i.toInt.toNat := rfl
            refine z_al iX11_order_140 rfl ?_
            refine z_gf iX11_order_141 hRc.1 rfl ?_
            refine z_il iX11_order_144 rfl ?_
            refine z_iald iX11_order_145 (hRc.2.1 31 (by decide)) (show i.toInt = (zN i : Int) by have e0 : zN i = i.toInt.toNat := rfl; omega) (show zN i < 6 by omega) ?_
            refine z_iret iX11_order_146 rfl ?_
            refine ⟨_, rfl, ?_⟩
            unfold sp_order
            rw [if_pos h1]
            first
            | (rw [orV_1 h2]
               exact ⟨rfl, hfc, A2, J, K, hA2, hRc⟩)
            | (rw [orV_2 h2 hi0, if_pos (by omega), hb2.2.2 _ (show zN i < zN (I 9) by omega)]
               exact ⟨rfl, hfc, A2, J, K, hA2, hRc⟩)
          · have hi0 : i = -1 := by
              rw [zi_le] at h4
              simp only [Int32.reduceToInt] at h4
              rw [← Int32.toInt_inj]
              simp only [Int32.reduceToInt]
              omega
            subst hi0
            refine z_il iX11_order_136 rfl ?_
            refine z_goto iX11_order_137 ?_
            refine z_iret iX11_order_146 rfl ?_
            refine ⟨_, rfl, ?_⟩
            unfold sp_order
            rw [if_pos h1]
            first
            | (rw [orV_1 h2]
               exact ⟨rfl, hfc, A2, J, K, hA2, hRc⟩)
            | (rw [orV_2 h2 hi0, if_pos (by omega), hb2.2.2 _ (show zN i < zN (I 9) by omega)]
               exact ⟨rfl, hfc, A2, J, K, hA2, hRc⟩)
      · refine z_co iX11_order_35 ?_
        refine z_iret iX11_order_36 rfl ?_
        refine ⟨_, rfl, ?_⟩
        unfold sp_order
        rw [if_pos h1]
        first
        | (rw [orV_0 h2]; exact zEM.rd hR)
        | (have eN := nI_toInt (n := zN (I 9)) (by omega)
           have e9 : (I 9 - 1).toInt = (zN (I 9) : Int) - 1 := by
             rw [zsub (by rw [(zI9 hV).1]; simp only [Int32.reduceToInt]; omega) (by rw [(zI9 hV).1]; simp only [Int32.reduceToInt]; omega), (zI9 hV).1]
             rfl
           simp only [zBw, zi_le, e9, Int32.reduceToInt] at h3
           have hi1 : ¬ i = -1 := fun q => by
             rw [q] at h3
             simp only [Int32.reduceToInt] at h3
             omega
           rw [orV_2 h2 hi1, if_neg (fun q => by omega)]
           exact zEM.rd hR)
  · refine z_co iX11_order_10 ?_
    refine z_iret iX11_order_12 rfl ?_
    refine ⟨_, rfl, ?_⟩
    unfold sp_order
    rw [if_neg h1]
    exact zEM.rd hR
theorem zp_order {TR : zTR} (r i : Int32) : zPI (zInv TR JRc) zX10_order zX11_order 0 0 [zi r, zi i] :=
  zPI_of (fun I A L => sp_order I A L r i) (fun _ _ _ _ _ hf hX hV => px_order (by omega) hX hV r i) (fun _ _ _ _ _ _ _ hf hR hV => pm_order (by omega) hR hV r i) (fun I A L hV => hV)
