def A1m_0 : zSA := A0m
def A1m_1 : zSA := zup A1m_0 19 (spF (A1m_0 19) 0 (8606223230244252006) 8)
def A1m_2 : zSA := zup A1m_1 19 (spF (A1m_1 19) 8 (7294814852549393250) 8)
def A1m_3 : zSA := zup A1m_2 19 (spF (A1m_2 19) 16 (8245927526122140976) 8)
def A1m_4 : zSA := zup A1m_3 19 (spF (A1m_3 19) 24 (3475762368539208307) 8)
def A1m_5 : zSA := zup A1m_4 19 (spF (A1m_4 19) 32 (8098990986063210597) 8)
def A1m_6 : zSA := zup A1m_5 19 (spF (A1m_5 19) 40 (7163855307962147945) 8)
def A1m_7 : zSA := zup A1m_6 19 (spF (A1m_6 19) 48 (7955394811298408814) 8)
def A1m_8 : zSA := zup A1m_7 19 (spF (A1m_7 19) 56 (7020050928327729184) 8)
def A1m : zSA := zup A1m_8 20 (zup (A1m_8 20) 0 64)
theorem A1m_t : ∀ j, j < 160 → A1m 19 j = u64 j := by decide +kernel
theorem A1m_h : ∀ q, q < 48 → A1m 24 q = -1 := by decide +kernel
theorem A1m_s : ∀ t, t < 6 → 0 ≤ (A1m 20 t).toInt ∧ (A1m 20 t).toInt ≤ 160 := by decide +kernel
theorem A1m_i : ∀ s, s < 4 → A1m 26 s = 0 := by decide +kernel
theorem A1m_V : Val I0c A1m (fun _ => 0) := by
  have I0 : ∀ k, k ≠ 5 → I0c k = 0 := fun k hk => zup_n hk
  have i5 : I0c 5 = 1 := zup_s
  have z0 : ((0 : Int32)).toInt = 0 := by decide
  have z1 : ((1 : Int32)).toInt = 1 := by decide
  unfold Val zRg
  rw [I0 0 (by decide), I0 1 (by decide), I0 6 (by decide), I0 7 (by decide), I0 8 (by decide), I0 9 (by decide), i5, z0, z1]
  refine ⟨by omega, fun e he => by omega, fun t ht => by omega, fun m hm => by omega, fun t ht => A1m_s t ht, fun j _ hj => by omega, fun s hs => ⟨Or.inl (A1m_i s hs), fun q => ?_⟩, fun q _ hq => A1m_h q hq⟩
  rw [A1m_i s hs] at q
  exact absurd q (by decide)
theorem inv_end {M M0 : zM} {J : zSI} {K : Int64} (hff : ∀ a : zAd, a.1 < 40 → M a = M0 a) (hR : RepM M I0c A1m (fun _ => 0) J K) (hX0 : X0c M0) : (∀ a : zAd, a.1 < 2 → M a = M0 a) ∧ zInv TRc JRc M :=
  ⟨fun a ha => hff a (by omega), I0c, A1m, fun _ => 0, J, K, A1m_V, (hX0 A1m (fun _ => 0) rfl (fun s hs => by rw [A1m_i s hs]; decide) A1m_t rfl).frame (fun a _ h2 => hff a h2), hR⟩
set_option maxRecDepth 20000 in
set_option maxHeartbeats 4000000 in
theorem k11_end {fr : Nat} {M M0 : zM} (hf : 10 ≤ fr) (hR0 : RepM M (fun _ => 0) A1m_0 (fun _ => 0) (fun _ => 0) 0) (hf0 : ∀ a : zAd, a.1 < 40 → M a = M0 a) (hX0 : X0c M0) : zV zX11_init fr 0 0 501 (zL [some (zr (40, 0))]) [] M (fun r M1 => r = none ∧ (∀ a : zAd, a.1 < 2 → M1 a = M0 a) ∧ zInv TRc JRc M1) := by
  refine z_al iX11_init_501 rfl ?_
  refine z_co iX11_init_502 ?_
  refine z_cl iX11_init_503 ?_
  refine z_cv2v (fr' := fr - 1) iX11_init_506 zmX11_spell hR0.1 (c11_spell (p := 0) hR0 (by decide)) (by omega) (Nat.le_of_ble_eq_true rfl) (fun M1 hq => ?_)
  obtain ⟨hf1, hR1⟩ := hq
  refine z_al iX11_init_509 rfl ?_
  refine z_co iX11_init_510 ?_
  refine z_cl iX11_init_512 ?_
  refine z_cv2v (fr' := fr - 1) iX11_init_515 zmX11_spell hR1.1 (c11_spell (p := 8) hR1 (by decide)) (by omega) (Nat.le_of_ble_eq_true rfl) (fun M1 hq => ?_)
  obtain ⟨hf2, hR2⟩ := hq
  refine z_al iX11_init_518 rfl ?_
  refine z_co iX11_init_519 ?_
  refine z_cl iX11_init_521 ?_
  refine z_cv2v (fr' := fr - 1) iX11_init_524 zmX11_spell hR2.1 (c11_spell (p := 16) hR2 (by decide)) (by omega) (Nat.le_of_ble_eq_true rfl) (fun M1 hq => ?_)
  obtain ⟨hf3, hR3⟩ := hq
  refine z_al iX11_init_527 rfl ?_
  refine z_co iX11_init_528 ?_
  refine z_cl iX11_init_530 ?_
  refine z_cv2v (fr' := fr - 1) iX11_init_533 zmX11_spell hR3.1 (c11_spell (p := 24) hR3 (by decide)) (by omega) (Nat.le_of_ble_eq_true rfl) (fun M1 hq => ?_)
  obtain ⟨hf4, hR4⟩ := hq
  refine z_al iX11_init_536 rfl ?_
  refine z_co iX11_init_537 ?_
  refine z_cl iX11_init_539 ?_
  refine z_cv2v (fr' := fr - 1) iX11_init_542 zmX11_spell hR4.1 (c11_spell (p := 32) hR4 (by decide)) (by omega) (Nat.le_of_ble_eq_true rfl) (fun M1 hq => ?_)
  obtain ⟨hf5, hR5⟩ := hq
  refine z_al iX11_init_545 rfl ?_
  refine z_co iX11_init_546 ?_
  refine z_cl iX11_init_548 ?_
  refine z_cv2v (fr' := fr - 1) iX11_init_551 zmX11_spell hR5.1 (c11_spell (p := 40) hR5 (by decide)) (by omega) (Nat.le_of_ble_eq_true rfl) (fun M1 hq => ?_)
  obtain ⟨hf6, hR6⟩ := hq
  refine z_al iX11_init_554 rfl ?_
  refine z_co iX11_init_555 ?_
  refine z_cl iX11_init_557 ?_
  refine z_cv2v (fr' := fr - 1) iX11_init_560 zmX11_spell hR6.1 (c11_spell (p := 48) hR6 (by decide)) (by omega) (Nat.le_of_ble_eq_true rfl) (fun M1 hq => ?_)
  obtain ⟨hf7, hR7⟩ := hq
  refine z_al iX11_init_563 rfl ?_
  refine z_co iX11_init_564 ?_
  refine z_cl iX11_init_566 ?_
  refine z_cv2v (fr' := fr - 1) iX11_init_569 zmX11_spell hR7.1 (c11_spell (p := 56) hR7 (by decide)) (by omega) (Nat.le_of_ble_eq_true rfl) (fun M1 hq => ?_)
  obtain ⟨hf8, hR8⟩ := hq
  refine z_al iX11_init_572 rfl ?_
  refine z_gf iX11_init_573 hR8.1 rfl ?_
  refine z_co iX11_init_576 ?_
  refine z_co iX11_init_577 ?_
  refine z_iast iX11_init_579 (hR8.2.1 20 (by decide)) (show 2 ≤ 41 by decide) (show (0 : Int32).toInt = ((0 : Nat) : Int) from by decide) (by decide) ?_
  refine z_al iX11_init_580 rfl ?_
  refine z_co iX11_init_581 ?_
  refine z_pf iX11_init_582 ((zupd_k (Nat.ne_of_beq_eq_false rfl)).trans hR8.1) (show 2 ≤ 40 by decide) (Nat.le_of_ble_eq_true rfl) trivial ?_
  refine z_vret iX11_init_585 rfl ?_
  have hRf : RepM _ I0c A1m (fun _ => 0) (fun _ => 0) 0 := (hR8.arr 20 (zup (A1m_8 20) 0 64)).obj (I' := I0c) (J' := fun _ => 0) (K' := 0) rfl
  refine ⟨rfl, inv_end (fun a ha => ?_) hRf hX0⟩
  exact (zupd_k (by omega)).trans ((zupd_k (by omega)).trans ((hf8 a ha).trans ((hf7 a ha).trans ((hf6 a ha).trans ((hf5 a ha).trans ((hf4 a ha).trans ((hf3 a ha).trans ((hf2 a ha).trans ((hf1 a ha).trans (hf0 a ha))))))))))
set_option maxRecDepth 20000 in
set_option maxHeartbeats 4000000 in
theorem pm_init {fr : Nat} {M : zM} (hf : 20 ≤ fr) (hthis : M (40, 0) = some (.inr (11, zf11))) (hn : ∀ a : zAd, 40 ≤ a.1 → a ≠ (40, 0) → M a = none) (hX0 : X0c M) : zCv zX11_init fr 33 1920 [zr (40, 0)] M (fun M1 => (∀ a : zAd, a.1 < 2 → M1 a = M a) ∧ zInv TRc JRc M1) := by
  refine z_enter (L := [some (zr (40, 0))]) rfl (by decide +kernel) (Nat.le_of_ble_eq_true rfl) ?_
  exact k11_start (by omega) hthis hn (fun M1 hR hf1 => k11_end (by omega) hR hf1 hX0)
theorem X0c_fr {M M' : zM} (hf : ∀ a : zAd, a.1 < 40 → M' a = M a) (h : X0c M) : X0c M' := fun A L h1 h2 h3 h4 => (h A L h1 h2 h3 h4).frame (fun a _ h9 => hf a h9)
