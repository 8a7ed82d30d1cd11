theorem zWear_b {k s h : Int32} (hs : 1 ≤ s.toInt ∧ s.toInt ≤ 20) (hh : 1 ≤ h.toInt ∧ h.toInt ≤ 20) : 0 ≤ (zWear k s h).toInt ∧ (zWear k s h).toInt ≤ 820 := by
  have q1 : 0 < s.toInt * h.toInt := Int.mul_pos (by omega) (by omega)
  have q2 : s.toInt * h.toInt ≤ 20 * 20 := Int.mul_le_mul hs.2 hh.2 (by omega) (by decide)
  have e1 : (s * h).toInt = s.toInt * h.toInt := zmul (by omega) (by omega)
  rw [← e1] at q1 q2
  unfold zWear
  generalize s * h = p at q1 q2
  have a1 : (p + h).toInt = p.toInt + h.toInt := zadd (by omega) (by omega)
  have a2 : (p + h - s).toInt = p.toInt + h.toInt - s.toInt := by rw [zsub (by omega) (by omega), a1]
  have a3 : (2 * p).toInt = 2 * p.toInt := zmul (by simp only [Int32.reduceToInt]; omega) (by simp only [Int32.reduceToInt]; omega)
  have a4 : (2 * p + s).toInt = 2 * p.toInt + s.toInt := by rw [zadd (by omega) (by omega), a3]
  have a5 : (p + h + p).toInt = p.toInt + h.toInt + p.toInt := by rw [zadd (by omega) (by omega), a1]
  by_cases c1 : k = 1
  · rw [if_pos c1]; omega
  rw [if_neg c1]
  by_cases c2 : k = 2
  · rw [if_pos c2]
    by_cases c : p + h - s < 1
    · rw [if_pos c]; exact ⟨by decide, by decide⟩
    · rw [if_neg c]
      rw [zi_lt] at c
      simp only [Int32.reduceToInt] at c
      omega
  rw [if_neg c2]
  by_cases c3 : k = 3
  · rw [if_pos c3]; omega
  rw [if_neg c3]
  by_cases c4 : k = 4
  · rw [if_pos c4]; omega
  rw [if_neg c4]
  by_cases c5 : k = 5
  · rw [if_pos c5]; omega
  rw [if_neg c5]
  omega
theorem lg_lt0 {x y : Int64} (h : ¬ 0 ≤ lg_cmp x y) : x < y := by
  unfold lg_cmp at h
  by_cases z : x > y
  · rw [if_pos z] at h; exact absurd (by decide) h
  · rw [if_neg z] at h
    by_cases z2 : x = y
    · rw [if_pos z2] at h; exact absurd (by decide) h
    · rw [Int64.lt_iff_toInt_lt] at *
      have z3 : ¬ x.toInt = y.toInt := fun q => z2 (Int64.toInt_inj.mp q)
      have z4 : ¬ y.toInt < x.toInt := fun q => z (Int64.lt_iff_toInt_lt.mpr q)
      omega
theorem Val.cutV {I : zSI} {A A' : zSA} {L : zSL} (hV : Val I A L) {m c s : Int32} {e : Nat} (hm : zBw m 0 (I 8 - 1)) (hc : zBw c 1 99) (hs : zBw s 1 20) (he : (e : Int) < (I 0).toInt) (h5 : A 5 e = 0) (hA : ∀ k, k ≠ 5 → A' k = sA_c A m c s e k) (hj : ∀ j, j ≠ e → A' 5 j = A 5 j) (h0 : A' 5 e = 0 → (sL_c A L m c s e e).toInt < 100 * (A 4 e).toInt) : Val I A' (sL_c A L m c s e) := by
  have k2 := zM3 hV hm
  have hsp := (hV.2.2.2.1 (zN m) k2.2.2).2
  obtain ⟨w1, w2⟩ := zWear_b (k := A 0 e) (s := A 22 (zN m)) (h := s) ⟨hsp.1, hsp.2⟩ ⟨zi_le.mp hs.1, zi_le.mp hs.2⟩
  have c1 := zi_le.mp hc.1
  have c2 := zi_le.mp hc.2
  simp only [Int32.reduceToInt] at c1 c2
  have g11 := zE11 hV he
  obtain ⟨l1, l2⟩ := (hV.2.1 e he).2.2.2.1
  have l3 := (hV.2.1 e he).2.2.2.2 h5
  have l4 := (hV.2.1 e he).2.1
  have l5 := l4.1
  have l6 := l4.2
  have m1 : (c.toInt64 * (zWear (A 0 e) (A 22 (zN m)) s).toInt64).toInt = c.toInt * (zWear (A 0 e) (A 22 (zN m)) s).toInt := by
    rw [mul64 (by rw [Int32.toInt_toInt64]; omega) (by rw [Int32.toInt_toInt64]; omega), Int32.toInt_toInt64, Int32.toInt_toInt64]
  have m2 : 0 ≤ c.toInt * (zWear (A 0 e) (A 22 (zN m)) s).toInt := Int.mul_nonneg (by omega) w1
  have m3 : c.toInt * (zWear (A 0 e) (A 22 (zN m)) s).toInt ≤ 99 * 820 := Int.mul_le_mul c2 w2 w1 (by decide)
  have hL : (sL_c A L m c s e e).toInt = (L e).toInt + c.toInt * (zWear (A 0 e) (A 22 (zN m)) s).toInt := by
    unfold sL_c
    rw [zup_s, Int64.toInt_add, m1]
    exact Int.bmod_eq_of_le (by omega) (by omega)
  have hLn : ∀ j, j ≠ e → sL_c A L m c s e j = L j := fun j z => zup_n z
  have r : ∀ k, k ≠ 5 → k ≠ 6 ∧ k ≠ 7 ∧ k ≠ 8 ∧ k ≠ 10 ∧ k ≠ 11 → A' k = A k := fun k a b => (hA k a).trans (sA_c_row b)
  obtain ⟨h1, h2, h3, h4, h5, h6, h7, h8⟩ := hV
  refine ⟨h1, fun u hu => ?_, ?_, ?_, ?_, ?_, ?_, ?_⟩
  · rw [r 0 (by decide) (by decide), r 4 (by decide) (by decide), hA 11 (by decide)]
    have g := h2 u hu
    by_cases z : u = e
    · rw [z] at g ⊢
      rw [sA_c_11]
      have g8 := goN_8 (f := fun j => A 10 (8 * e + j)) (m := m) g11.2
      refine ⟨g.1, g.2.1, ?_, ?_, h0⟩
      · unfold zRg
        rw [nI_toInt (by omega)]
        omega
      · rw [hL]; omega
    · rw [sA_c_col (by decide) z, hj u z, hLn u z]
      exact g
  · rw [r 13 (by decide) (by decide), r 14 (by decide) (by decide), r 17 (by decide) (by decide), r 18 (by decide) (by decide), r 23 (by decide) (by decide)]; exact h3
  · rw [r 23 (by decide) (by decide), r 22 (by decide) (by decide)]; exact h4
  · rw [r 20 (by decide) (by decide)]; exact h5
  · rw [r 25 (by decide) (by decide)]; exact h6
  · rw [r 26 (by decide) (by decide), r 27 (by decide) (by decide), r 28 (by decide) (by decide)]; exact h7
  · rw [r 24 (by decide) (by decide)]; exact h8
theorem sp_cutO_s {I : zSI} {A : zSA} {L : zSL} {m c s : Int32} {b : Nat} : sp_cutO I A L m c s (some b) = sp_cutB I (sA_c A m c s (zN (A 13 b))) (sL_c A L m c s (zN (A 13 b))) (zN (A 13 b)) b := rfl
theorem Val.cutB {I : zSI} {A : zSA} {L : zSL} {e b : Nat} (w2 : Val I (zA2 A 5 e 2) L) (w1 : Val I (zA2 A 5 e 1) L) (w0 : ¬ 0 ≤ lg_cmp (L e) (100 * (A 4 e).toInt64) → Val I A L) : Val (sp_cutB I A L e b).2.1 (sp_cutB I A L e b).2.2.1 (sp_cutB I A L e b).2.2.2 := by
  unfold sp_cutB
  generalize sVal I A b 1 = v1
  generalize sVal I A b 0 = v0
  by_cases z1 : ¬ v1 = 0
  · rw [if_pos z1]; exact w2
  · rw [if_neg z1]
    by_cases z2 : 0 ≤ lg_cmp (L e) (100 * (A 4 e).toInt64) ∨ ¬ v0 = 0
    · rw [if_pos z2]; exact w1
    · rw [if_neg z2]; exact w0 (fun q => z2 (Or.inl q))
theorem sp_cutB_row {I : zSI} {A : zSA} {L : zSL} {e b k : Nat} (h : k ≠ 5) : (sp_cutB I A L e b).2.2.1 k = A k ∧ (sp_cutB I A L e b).2.1 = I := by
  unfold sp_cutB
  generalize sVal I A b 1 = v1
  generalize sVal I A b 0 = v0
  by_cases z1 : ¬ v1 = 0
  · rw [if_pos z1]; exact ⟨zA2_row h, rfl⟩
  · rw [if_neg z1]
    by_cases z2 : 0 ≤ lg_cmp (L e) (100 * (A 4 e).toInt64) ∨ ¬ v0 = 0
    · rw [if_pos z2]; exact ⟨zA2_row h, rfl⟩
    · rw [if_neg z2]; exact ⟨rfl, rfl⟩
theorem sp_cut_row {I : zSI} {A : zSA} {L : zSL} {m fa c s : Int32} {k : Nat} (h : 12 ≤ k) : (sp_cut I A L m fa c s).2.2.1 k = A k ∧ (sp_cut I A L m fa c s).2.1 = I := by
  unfold sp_cut
  by_cases c1 : ¬ zBw m 0 (I 8 - 1) ∨ ¬ zBw fa 0 9 ∨ ¬ zBw c 1 99 ∨ ¬ zBw s 1 20
  · rw [if_pos c1]; exact ⟨rfl, rfl⟩
  · rw [if_neg c1]
    cases hb : tkr A L m fa (zN (I 1)) with
    | none => exact ⟨rfl, rfl⟩
    | some b =>
      rw [sp_cutO_s]
      have r := sp_cutB_row (I := I) (A := sA_c A m c s (zN (A 13 b))) (L := sL_c A L m c s (zN (A 13 b))) (e := zN (A 13 b)) (b := b) (show k ≠ 5 by omega)
      rw [r.1, r.2]
      exact ⟨sA_c_row (by omega), rfl⟩
theorem Val.cut {I : zSI} {A : zSA} {L : zSL} (hV : Val I A L) (m fa c s : Int32) : Val (sp_cut I A L m fa c s).2.1 (sp_cut I A L m fa c s).2.2.1 (sp_cut I A L m fa c s).2.2.2 := by
  unfold sp_cut
  by_cases c1 : ¬ zBw m 0 (I 8 - 1) ∨ ¬ zBw fa 0 9 ∨ ¬ zBw c 1 99 ∨ ¬ zBw s 1 20
  · rw [if_pos c1]; exact hV
  · rw [if_neg c1]
    have d1 : zBw m 0 (I 8 - 1) := Decidable.of_not_not fun z => c1 (Or.inl z)
    have d3 : zBw c 1 99 := Decidable.of_not_not fun z => c1 (Or.inr (Or.inr (Or.inl z)))
    have d4 : zBw s 1 20 := Decidable.of_not_not fun z => c1 (Or.inr (Or.inr (Or.inr z)))
    cases hb : tkr A L m fa (zN (I 1)) with
    | none => exact hV
    | some b =>
      have hbt : (b : Int) < (I 1).toInt := by have := (tkr_lt hb).1; have := hV.1.2.1.1; have e0 : zN (I 1) = (I 1).toInt.toNat := rfl; omega
      have he0 := (zEt hV hbt).2.2
      have h5 := (tkr_lt hb).2.2.2
      rw [sp_cutO_s]
      generalize zN (A 13 b) = e at he0 h5 ⊢
      have w : ∀ v : Int32, v ≠ 0 → Val I (zA2 (sA_c A m c s e) 5 e v) (sL_c A L m c s e) := fun v hv =>
        hV.cutV d1 d3 d4 he0 h5 (fun k z => zA2_row z) (fun j z => by rw [zA2_col z, sA_c_row (by decide)]) (fun q => absurd ((show zA2 (sA_c A m c s e) 5 e v 5 e = v by unfold zA2; rw [zup_s, zup_s]).symm.trans q) hv)
      refine Val.cutB (w 2 (by decide)) (w 1 (by decide)) (fun z => ?_)
      refine hV.cutV d1 d3 d4 he0 h5 (fun k _ => rfl) (fun j _ => by rw [sA_c_row (by decide)]) (fun _ => ?_)
      have z3 := Int64.lt_iff_toInt_lt.mp (lg_lt0 z)
      rw [sA_c_row (by decide), n100 (hV.2.1 e he0).2.1] at z3
      exact z3
theorem zp_cut {JR : zJR} (m fa c s : Int32) : zPI (zInv TRc JR) zX10_cut zX11_cut 0 0 [zi m, zi fa, zi c, zi s] :=
  zPI_ofE (fun I A L => sp_cut I A L m fa c s) (fun _ _ _ _ _ hf hX hV => px_cut (by omega) hX hV m fa c s) (fun _ _ _ _ _ _ _ hf hR hV hE => pm_cut (by omega) hR hV hE m fa c s) (fun I A L hV hE => hV.cut m fa c s)
