/-! the ranges are kept -/
theorem Val.upd {I : zSI} {A A' : zSA} {L L' : zSL} (h : Val I A L) (hA : ∀ k, k < 30 → k ≠ 1 → k ≠ 2 → k ≠ 3 → k ≠ 5 → k ≠ 6 → k ≠ 7 → k ≠ 8 → k ≠ 9 → k ≠ 16 → A' k = A k) (hL : ∀ j, (L' j = L j ∧ A' 5 j = A 5 j) ∨ L' j = 0) : Val I A' L' := by
  have q := fun k a b c d e f g h i j => hA k a b c d e f g h i j
  have q0 := q 0 (by decide) (by decide) (by decide) (by decide) (by decide) (by decide) (by decide) (by decide) (by decide) (by decide)
  have q4 := q 4 (by decide) (by decide) (by decide) (by decide) (by decide) (by decide) (by decide) (by decide) (by decide) (by decide)
  have q11 := q 11 (by decide) (by decide) (by decide) (by decide) (by decide) (by decide) (by decide) (by decide) (by decide) (by decide)
  have q13 := q 13 (by decide) (by decide) (by decide) (by decide) (by decide) (by decide) (by decide) (by decide) (by decide) (by decide)
  have q14 := q 14 (by decide) (by decide) (by decide) (by decide) (by decide) (by decide) (by decide) (by decide) (by decide) (by decide)
  have q17 := q 17 (by decide) (by decide) (by decide) (by decide) (by decide) (by decide) (by decide) (by decide) (by decide) (by decide)
  have q18 := q 18 (by decide) (by decide) (by decide) (by decide) (by decide) (by decide) (by decide) (by decide) (by decide) (by decide)
  have q20 := q 20 (by decide) (by decide) (by decide) (by decide) (by decide) (by decide) (by decide) (by decide) (by decide) (by decide)
  have q22 := q 22 (by decide) (by decide) (by decide) (by decide) (by decide) (by decide) (by decide) (by decide) (by decide) (by decide)
  have q23 := q 23 (by decide) (by decide) (by decide) (by decide) (by decide) (by decide) (by decide) (by decide) (by decide) (by decide)
  have q24 := q 24 (by decide) (by decide) (by decide) (by decide) (by decide) (by decide) (by decide) (by decide) (by decide) (by decide)
  have q25 := q 25 (by decide) (by decide) (by decide) (by decide) (by decide) (by decide) (by decide) (by decide) (by decide) (by decide)
  have q26 := q 26 (by decide) (by decide) (by decide) (by decide) (by decide) (by decide) (by decide) (by decide) (by decide) (by decide)
  have q27 := q 27 (by decide) (by decide) (by decide) (by decide) (by decide) (by decide) (by decide) (by decide) (by decide) (by decide)
  have q28 := q 28 (by decide) (by decide) (by decide) (by decide) (by decide) (by decide) (by decide) (by decide) (by decide) (by decide)
  obtain ⟨h1, h2, h3, h4, h5, h6, h7, h8⟩ := h
  refine ⟨h1, fun e he => ?_, ?_, ?_, ?_, ?_, ?_, ?_⟩
  · rw [q0, q4, q11]
    obtain ⟨g1, g2, g3, g4, g5⟩ := h2 e he
    refine ⟨g1, g2, g3, ?_⟩
    rcases hL e with ⟨z1, z2⟩ | z
    · rw [z1, z2]; exact ⟨g4, g5⟩
    · rw [z]
      refine ⟨⟨by decide, by decide⟩, fun _ => ?_⟩
      have g2a := g2.1
      simp only [Int64.reduceToInt]
      omega
  · rw [q13, q14, q17, q18, q23]; exact h3
  · rw [q23, q22]; exact h4
  · rw [q20]; exact h5
  · rw [q25]; exact h6
  · rw [q26, q27, q28]; exact h7
  · rw [q24]; exact h8
theorem zL0 {L : zSL} {A A' : zSA} {e : Nat} (h : ∀ j, j ≠ e → A' 5 j = A 5 j) : ∀ j, (zup L e 0 j = L j ∧ A' 5 j = A 5 j) ∨ zup L e 0 j = 0 := fun j => by
  by_cases q : j = e
  · subst q
    exact Or.inr zup_s
  · exact Or.inl ⟨zup_n q, h j q⟩
theorem zp_turn {TR : zTR} {JR : zJR} (e : Int32) : zPI (zInv TR JR) zX10_turn zX11_turn 0 0 [zi e] :=
  zPI_of (fun I A L => sp_turn I A L e) (fun _ _ _ _ _ hf hX hV => px_turn (by omega) hX hV e) (fun _ _ _ _ _ _ _ hf hR hV => pm_turn (by omega) hR hV e) (fun I A L hV => by
    show Val (sp_turn I A L e).2.1 (sp_turn I A L e).2.2.1 (sp_turn I A L e).2.2.2
    unfold sp_turn
    repeat' split
    all_goals first | exact hV | exact hV.upd (A' := zA2 (zA2 (zA2 A 3 (zN e) (A 3 (zN e) - 1)) 6 (zN e) 0) 5 (zN e) 0) (fun k a b c d e1 f g h i j => by rw [zA2_row e1, zA2_row f, zA2_row d]) (zL0 (fun j g => by rw [zA2_col g, zA2_col g, zA2_col g])))
theorem zp_grind {TR : zTR} {JR : zJR} (e n : Int32) : zPI (zInv TR JR) zX10_grind zX11_grind 0 0 [zi e, zi n] :=
  zPI_of (fun I A L => sp_grind I A L e n) (fun _ _ _ _ _ hf hX hV => px_grind (by omega) hX hV e n) (fun _ _ _ _ _ _ _ hf hR hV => pm_grind (by omega) hR hV e n) (fun I A L hV => by
    show Val (sp_grind I A L e n).2.1 (sp_grind I A L e n).2.2.1 (sp_grind I A L e n).2.2.2
    unfold sp_grind
    repeat' split
    all_goals first | exact hV | exact hV.upd (A' := zA2 (zA2 (zA2 A 1 (zN e) (A 1 (zN e) - n)) 6 (zN e) 0) 5 (zN e) 0) (fun k a b c d e1 f g h i j => by rw [zA2_row e1, zA2_row f, zA2_row b]) (zL0 (fun j g => by rw [zA2_col g, zA2_col g, zA2_col g])))
theorem zInc {n : Int32} {N : Int} {c : Int32} (h : zRg n 0 N) (hN : N ≤ 1000) (hc : c.toInt = N) (hn : ¬ n = c) : (n + 1).toInt = n.toInt + 1 ∧ n.toInt < N := by
  obtain ⟨h1, h2⟩ := zCnt h hN hc hn
  obtain ⟨h3, h4⟩ := h
  exact ⟨by rw [zadd (by simp only [Int32.reduceToInt]; omega) (by simp only [Int32.reduceToInt]; omega)]; rfl, by omega⟩
theorem zp_machine {TR : zTR} {JR : zJR} (s n : Int32) : zPI (zInv TR JR) zX10_machine zX11_machine 2 19 [zi s, zi n] :=
  zPI_of (fun I A L => sp_machine I A L s n) (fun _ _ _ _ _ hf hX hV => px_machine (by omega) hX hV s n) (fun _ _ _ _ _ _ _ hf hR hV => pm_machine (by omega) hR hV s n) (fun I A L hV => by
    show Val (sp_machine I A L s n).2.1 (sp_machine I A L s n).2.2.1 (sp_machine I A L s n).2.2.2
    unfold sp_machine
    by_cases c1 : ¬ zBw s 1 20 ∨ ¬ zBw n 4 16
    · rw [if_pos c1]; exact hV
    · rw [if_neg c1]
      by_cases c2 : I 8 = 3
      · rw [if_pos c2]; exact hV
      · rw [if_neg c2]
        obtain ⟨h1, h2, h3, h4, h5, h6, h7, h8⟩ := hV
        obtain ⟨e1, e2⟩ := zInc h1.2.2.2.2.2.1 (by decide) rfl c2
        obtain ⟨e3, e4⟩ := zCnt h1.2.2.2.2.2.1 (by decide) rfl c2
        have c3 : zBw n 4 16 := Decidable.of_not_not fun z => c1 (Or.inr z)
        have r : ∀ k, k ≠ 22 → k ≠ 23 → zA2 (zA2 A 22 (zN (I 8)) s) 23 (zN (I 8)) n k = A k := fun k a b => by rw [zA2_row b, zA2_row a]
        have cc : ∀ j, j ≠ zN (I 8) → zA2 (zA2 A 22 (zN (I 8)) s) 23 (zN (I 8)) n 23 j = A 23 j := fun j a => by rw [zA2_col a, zA2_col a]
        have cc2 : ∀ j, j ≠ zN (I 8) → zA2 (zA2 A 22 (zN (I 8)) s) 23 (zN (I 8)) n 22 j = A 22 j := fun j a => by rw [zA2_col a, zA2_col a]
        have c3s : zBw s 1 20 := Decidable.of_not_not fun z => c1 (Or.inl z)
        have cs2 : zA2 (zA2 A 22 (zN (I 8)) s) 23 (zN (I 8)) n 22 (zN (I 8)) = s := by rw [zA2_row (by decide)]; unfold zA2; rw [zup_s, zup_s]
        have cs : zA2 (zA2 A 22 (zN (I 8)) s) 23 (zN (I 8)) n 23 (zN (I 8)) = n := by unfold zA2; rw [zup_s, zup_s]
        show Val (zup I 8 (I 8 + 1)) (zA2 (zA2 A 22 (zN (I 8)) s) 23 (zN (I 8)) n) L
        refine ⟨⟨h1.1, h1.2.1, h1.2.2.1, h1.2.2.2.1, h1.2.2.2.2.1, ?_, h1.2.2.2.2.2.2⟩, ?_, fun t ht => ?_, fun m hm => ?_, ?_, ?_, ?_, fun q g1 g2 => ?_⟩
        · show zRg (I 8 + 1) 0 3
          have := h1.2.2.2.2.2.1.1
          exact ⟨by rw [e1]; omega, by rw [e1]; omega⟩
        · rw [r 0 (by decide) (by decide), r 4 (by decide) (by decide), r 5 (by decide) (by decide), r 11 (by decide) (by decide)]; exact h2
        · obtain ⟨g1, g2, g3, g4⟩ := h3 t ht
          rw [r 13 (by decide) (by decide), r 14 (by decide) (by decide), r 17 (by decide) (by decide), r 18 (by decide) (by decide)]
          refine ⟨g1, g2, ⟨g3.1, ?_⟩, fun z => ?_⟩
          · show (A 17 t).toInt < (I 8 + 1).toInt
            rw [e1]; omega
          · rw [cc _ (by omega)]; exact g4 z
        · have hm' : (m : Int) < (I 8 + 1).toInt := hm
          by_cases z : m = zN (I 8)
          · rw [z, cs, cs2]
            obtain ⟨z1, z2⟩ := c3
            obtain ⟨z3, z4⟩ := c3s
            rw [zi_le] at z1 z2 z3 z4
            exact ⟨⟨z1, z2⟩, ⟨z3, z4⟩⟩
          · rw [cc _ z, cc2 _ z]; exact h4 m (by omega)
        · rw [r 20 (by decide) (by decide)]; exact h5
        · rw [r 25 (by decide) (by decide)]; exact h6
        · rw [r 26 (by decide) (by decide), r 27 (by decide) (by decide), r 28 (by decide) (by decide)]; exact h7
        · have g1' : 16 * (I 8 + 1).toInt ≤ (q : Int) := g1
          rw [r 24 (by decide) (by decide)]
          exact h8 q (by omega) g2)
theorem zp_tool {TR : zTR} {JR : zJR} (h e s f : Int32) : zPI (zInv TR JR) zX10_tool zX11_tool 1 8 [zi h, zi e, zi s, zi f] :=
  zPI_of (fun I A L => sp_tool I A L h e s f) (fun _ _ _ _ _ hf hX hV => px_tool (by omega) hX hV h e s f) (fun _ _ _ _ _ _ _ hf hR hV => pm_tool (by omega) hR hV h e s f) (fun I A L hV => by
    show Val (sp_tool I A L h e s f).2.1 (sp_tool I A L h e s f).2.2.1 (sp_tool I A L h e s f).2.2.2
    unfold sp_tool
    by_cases c1 : ¬ zBw h 20 300 ∨ ¬ zBw e 0 (I 0 - 1) ∨ ¬ zBw s 1 3 ∨ ¬ zBw f 0 9
    · rw [if_pos c1]; exact hV
    · rw [if_neg c1]
      by_cases c0 : ¬ A 9 (zN e) = -1
      · rw [if_pos c0]; exact hV
      · rw [if_neg c0]
        by_cases c2 : I 1 = 10
        · rw [if_pos c2]; exact hV
        · rw [if_neg c2]
          have hv := hV.1.1
          obtain ⟨h1, h2, h3, h4, h5, h6, h7, h8⟩ := hV
          obtain ⟨e1, e2⟩ := zInc h1.2.1 (by decide) rfl c2
          obtain ⟨e3, e4⟩ := zCnt h1.2.1 (by decide) rfl c2
          have c3 : zBw e 0 (I 0 - 1) := Decidable.of_not_not fun z => c1 (Or.inr (Or.inl z))
          have c4 : zBw s 1 3 := Decidable.of_not_not fun z => c1 (Or.inr (Or.inr (Or.inl z)))
          have c5 := zIdx c3 hv (by decide)
          have r : ∀ k, k ≠ 9 → (k < 12 ∨ 18 < k) → sA_tool I A h e s f k = A k := fun k a b => by
            unfold sA_tool
            rw [zA2_row a, zA2_row (by omega), zA2_row (by omega), zA2_row (by omega), zA2_row (by omega), zA2_row (by omega), zA2_row (by omega), zA2_row (by omega)]
          have cc : ∀ k j, k ≠ 9 → j ≠ zN (I 1) → sA_tool I A h e s f k j = A k j := fun k j a b => by
            unfold sA_tool
            rw [zA2_row a, zA2_col b, zA2_col b, zA2_col b, zA2_col b, zA2_col b, zA2_col b, zA2_col b]
          show Val (zup I 1 (I 1 + 1)) (sA_tool I A h e s f) L
          refine ⟨⟨h1.1, ?_, h1.2.2⟩, ?_, fun t ht => ?_, ?_, ?_, ?_, ?_, ?_⟩
          · show zRg (I 1 + 1) 0 10
            have := h1.2.1.1
            exact ⟨by rw [e1]; omega, by rw [e1]; omega⟩
          · rw [r 0 (by decide) (by decide), r 4 (by decide) (by decide), r 5 (by decide) (by decide), r 11 (by decide) (by decide)]; exact h2
          · have ht' : (t : Int) < (I 1 + 1).toInt := ht
            by_cases z : t = zN (I 1)
            · subst z
              have a13 : sA_tool I A h e s f 13 (zN (I 1)) = e := by simp [sA_tool, zA2, zup]
              have a14 : sA_tool I A h e s f 14 (zN (I 1)) = s := by simp [sA_tool, zA2, zup]
              have a17 : sA_tool I A h e s f 17 (zN (I 1)) = -1 := by simp [sA_tool, zA2, zup]
              rw [a13, a14, a17]
              obtain ⟨z1, z2⟩ := c4
              rw [zi_le] at z1 z2
              refine ⟨?_, ⟨z1, z2⟩, ?_, fun g => absurd g (by decide)⟩
              · show 0 ≤ e.toInt ∧ e.toInt < (I 0).toInt
                omega
              · show -1 ≤ (-1 : Int32).toInt ∧ (-1 : Int32).toInt < (I 8).toInt
                have := h1.2.2.2.2.2.1.1
                simp only [Int32.reduceToInt]
                omega
            · rw [cc 13 t (by decide) z, cc 14 t (by decide) z, cc 17 t (by decide) z, cc 18 t (by decide) z, r 23 (by decide) (by decide)]
              exact h3 t (by omega)
          · rw [r 23 (by decide) (by decide), r 22 (by decide) (by decide)]; exact h4
          · rw [r 20 (by decide) (by decide)]; exact h5
          · rw [r 25 (by decide) (by decide)]; exact h6
          · rw [r 26 (by decide) (by decide), r 27 (by decide) (by decide), r 28 (by decide) (by decide)]; exact h7
          · rw [r 24 (by decide) (by decide)]; exact h8)
theorem zp_edge {TR : zTR} {JR : zJR} (k span sh c lives : Int32) : zPI (zInv TR JR) zX10_edge zX11_edge 2 21 [zi k, zi span, zi sh, zi c, zi lives] :=
  zPI_of (fun I A L => sp_edge I A L k span sh c lives) (fun _ _ _ _ _ hf hX hV => px_edge (by omega) hX hV k span sh c lives) (fun _ _ _ _ _ _ _ hf hR hV => pm_edge (by omega) hR hV k span sh c lives) (fun I A L hV => by
    show Val (sp_edge I A L k span sh c lives).2.1 (sp_edge I A L k span sh c lives).2.2.1 (sp_edge I A L k span sh c lives).2.2.2
    unfold sp_edge
    by_cases c1 : ¬ zBw k 0 5 ∨ ¬ zBw span 10 200 ∨ ¬ zBw sh 1 span ∨ (zCor k ∧ ¬ zBw c 1 8) ∨ ¬ zBw lives 1 999
    · rw [if_pos c1]; exact hV
    · rw [if_neg c1]
      by_cases c2 : I 0 = 24
      · rw [if_pos c2]; exact hV
      · rw [if_neg c2]
        obtain ⟨h1, h2, h3, h4, h5, h6, h7, h8⟩ := hV
        obtain ⟨e1, e2⟩ := zInc h1.1 (by decide) rfl c2
        obtain ⟨e3, e4⟩ := zCnt h1.1 (by decide) rfl c2
        have c3 : zBw k 0 5 := Decidable.of_not_not fun z => c1 (Or.inl z)
        have c4 : zBw lives 1 999 := Decidable.of_not_not fun z => c1 (Or.inr (Or.inr (Or.inr (Or.inr z))))
        have r : ∀ q, 12 ≤ q → sA_edge I A k span sh (zLeft k c) lives q = A q := fun q a => by
          unfold sA_edge
          rw [zA2_row (by omega), zA2_row (by omega), zA2_row (by omega), zA2_row (by omega), zA2_row (by omega), zA2_row (by omega), zA2_row (by omega), zA2_row (by omega), zA2_row (by omega), zA2_row (by omega), zA2_row (by omega)]
        have cc : ∀ q j, j ≠ zN (I 0) → sA_edge I A k span sh (zLeft k c) lives q j = A q j := fun q j b => by
          unfold sA_edge
          rw [zA2_col b, zA2_col b, zA2_col b, zA2_col b, zA2_col b, zA2_col b, zA2_col b, zA2_col b, zA2_col b, zA2_col b, zA2_col b]
        show Val (zup I 0 (I 0 + 1)) (sA_edge I A k span sh (zLeft k c) lives) (zup L (zN (I 0)) 0)
        refine ⟨⟨?_, h1.2⟩, fun e he => ?_, fun t ht => ?_, ?_, ?_, ?_, ?_, ?_⟩
        · show zRg (I 0 + 1) 0 24
          have := h1.1.1
          exact ⟨by rw [e1]; omega, by rw [e1]; omega⟩
        · have he' : (e : Int) < (I 0 + 1).toInt := he
          by_cases z : e = zN (I 0)
          · subst z
            have a0 : sA_edge I A k span sh (zLeft k c) lives 0 (zN (I 0)) = k := by simp [sA_edge, zA2, zup]
            have a4 : sA_edge I A k span sh (zLeft k c) lives 4 (zN (I 0)) = lives := by simp [sA_edge, zA2, zup]
            have a11 : sA_edge I A k span sh (zLeft k c) lives 11 (zN (I 0)) = 0 := by simp [sA_edge, zA2, zup]
            have a5 : sA_edge I A k span sh (zLeft k c) lives 5 (zN (I 0)) = 0 := by simp [sA_edge, zA2, zup]
            rw [a0, a4, a5, a11, zup_s]
            obtain ⟨z1, z2⟩ := c3
            obtain ⟨z3, z4⟩ := c4
            rw [zi_le] at z1 z2 z3 z4
            refine ⟨⟨z1, z2⟩, ⟨z3, z4⟩, ⟨by decide, by decide⟩, ⟨by decide, by decide⟩, fun _ => ?_⟩
            simp only [Int64.reduceToInt, Int32.reduceToInt] at *
            omega
          · rw [cc 0 e z, cc 4 e z, cc 5 e z, cc 11 e z, zup_n z]
            exact h2 e (by omega)
        · rw [r 13 (by decide), r 14 (by decide), r 17 (by decide), r 18 (by decide), r 23 (by decide)]
          obtain ⟨g1, g2⟩ := h3 t ht
          refine ⟨⟨g1.1, ?_⟩, g2⟩
          show (A 13 t).toInt < (I 0 + 1).toInt
          rw [e1]; omega
        · rw [r 23 (by decide), r 22 (by decide)]; exact h4
        · rw [r 20 (by decide)]; exact h5
        · rw [r 25 (by decide)]; exact h6
        · rw [r 26 (by decide), r 27 (by decide), r 28 (by decide)]; exact h7
        · rw [r 24 (by decide)]; exact h8)
