theorem zi_eq {a b : Int32} : a = b ↔ a.toInt = b.toInt := Int32.toInt_inj.symm
theorem zi_ne {a b : Int32} : a ≠ b ↔ ¬ a.toInt = b.toInt := not_congr zi_eq
abbrev zUnd (kind k : Int32) : Prop := k = 0 ∨ (k = 1 ∧ (kind = 1 ∨ kind = 2 ∨ kind = 5)) ∨ (k = 3 ∧ (kind = 3 ∨ kind = 4)) ∨ (¬ k = 0 ∧ ¬ k = 1 ∧ ¬ k = 3 ∧ kind = k)
abbrev zCor (k : Int32) : Prop := k = 1 ∨ k = 2 ∨ k = 5
set_option maxRecDepth 20000 in
set_option maxHeartbeats 4000000 in
theorem c10_within {fr : Nat} {M : zM} (v lo hi : Int32) : zCi zX10_within fr 0 0 [zi v, zi lo, zi hi] M (fun x M' => M' = M ∧ x = zbo (zBw v lo hi)) := by
  refine z_enter (L := [some (zi v), some (zi lo), some (zi hi)]) rfl (by decide +kernel) (Nat.le_of_ble_eq_true rfl) ?_
  refine z_il iX10_within_0 rfl ?_
  refine z_il iX10_within_1 rfl ?_
  refine z_icmp_lt iX10_within_2 (fun h1 => ?_) (fun h1 => ?_)
  · refine z_co iX10_within_14 ?_
    refine z_zret iX10_within_15 rfl rfl ?_
    refine ⟨_, rfl, rfl, ?_⟩
    by_cases g : zBw v lo hi
    · first | exact (zbo_1 g).symm | (exfalso; simp only [zBw, zUnd, zCor, zi_eq, zi_le, zi_lt, Int32.reduceToInt, List.length_cons, List.length_nil] at *; omega)
    · first | exact (zbo_0 g).symm | (exfalso; simp only [zBw, zUnd, zCor, zi_eq, zi_le, zi_lt, Int32.reduceToInt, List.length_cons, List.length_nil] at *; omega)
  · refine z_il iX10_within_5 rfl ?_
    refine z_il iX10_within_6 rfl ?_
    refine z_icmp_gt iX10_within_7 (fun h2 => ?_) (fun h2 => ?_)
    · refine z_co iX10_within_14 ?_
      refine z_zret iX10_within_15 rfl rfl ?_
      refine ⟨_, rfl, rfl, ?_⟩
      by_cases g : zBw v lo hi
      · first | exact (zbo_1 g).symm | (exfalso; simp only [zBw, zUnd, zCor, zi_eq, zi_le, zi_lt, Int32.reduceToInt, List.length_cons, List.length_nil] at *; omega)
      · first | exact (zbo_0 g).symm | (exfalso; simp only [zBw, zUnd, zCor, zi_eq, zi_le, zi_lt, Int32.reduceToInt, List.length_cons, List.length_nil] at *; omega)
    · refine z_co iX10_within_10 ?_
      refine z_goto iX10_within_11 ?_
      refine z_zret iX10_within_15 rfl rfl ?_
      refine ⟨_, rfl, rfl, ?_⟩
      by_cases g : zBw v lo hi
      · first | exact (zbo_1 g).symm | (exfalso; simp only [zBw, zUnd, zCor, zi_eq, zi_le, zi_lt, Int32.reduceToInt, List.length_cons, List.length_nil] at *; omega)
      · first | exact (zbo_0 g).symm | (exfalso; simp only [zBw, zUnd, zCor, zi_eq, zi_le, zi_lt, Int32.reduceToInt, List.length_cons, List.length_nil] at *; omega)
set_option maxRecDepth 20000 in
set_option maxHeartbeats 4000000 in
theorem c11_in {fr : Nat} {M : zM} (v lo hi : Int32) : zCi zX11_in fr 0 0 [zi v, zi lo, zi hi] M (fun x M' => M' = M ∧ x = zbo (zBw v lo hi)) := by
  refine z_enter (L := [some (zi v), some (zi lo), some (zi hi)]) rfl (by decide +kernel) (Nat.le_of_ble_eq_true rfl) ?_
  refine z_il iX11_in_0 rfl ?_
  refine z_il iX11_in_1 rfl ?_
  refine z_icmp_lt iX11_in_2 (fun h1 => ?_) (fun h1 => ?_)
  · refine z_co iX11_in_14 ?_
    refine z_zret iX11_in_15 rfl rfl ?_
    refine ⟨_, rfl, rfl, ?_⟩
    by_cases g : zBw v lo hi
    · first | exact (zbo_1 g).symm | (exfalso; simp only [zBw, zUnd, zCor, zi_eq, zi_le, zi_lt, Int32.reduceToInt, List.length_cons, List.length_nil] at *; omega)
    · first | exact (zbo_0 g).symm | (exfalso; simp only [zBw, zUnd, zCor, zi_eq, zi_le, zi_lt, Int32.reduceToInt, List.length_cons, List.length_nil] at *; omega)
  · refine z_il iX11_in_5 rfl ?_
    refine z_il iX11_in_6 rfl ?_
    refine z_icmp_gt iX11_in_7 (fun h2 => ?_) (fun h2 => ?_)
    · refine z_co iX11_in_14 ?_
      refine z_zret iX11_in_15 rfl rfl ?_
      refine ⟨_, rfl, rfl, ?_⟩
      by_cases g : zBw v lo hi
      · first | exact (zbo_1 g).symm | (exfalso; simp only [zBw, zUnd, zCor, zi_eq, zi_le, zi_lt, Int32.reduceToInt, List.length_cons, List.length_nil] at *; omega)
      · first | exact (zbo_0 g).symm | (exfalso; simp only [zBw, zUnd, zCor, zi_eq, zi_le, zi_lt, Int32.reduceToInt, List.length_cons, List.length_nil] at *; omega)
    · refine z_co iX11_in_10 ?_
      refine z_goto iX11_in_11 ?_
      refine z_zret iX11_in_15 rfl rfl ?_
      refine ⟨_, rfl, rfl, ?_⟩
      by_cases g : zBw v lo hi
      · first | exact (zbo_1 g).symm | (exfalso; simp only [zBw, zUnd, zCor, zi_eq, zi_le, zi_lt, Int32.reduceToInt, List.length_cons, List.length_nil] at *; omega)
      · first | exact (zbo_0 g).symm | (exfalso; simp only [zBw, zUnd, zCor, zi_eq, zi_le, zi_lt, Int32.reduceToInt, List.length_cons, List.length_nil] at *; omega)
set_option maxRecDepth 20000 in
set_option maxHeartbeats 4000000 in
theorem c10_isFamily {fr : Nat} {M : zM} (hf : 1 ≤ fr) (v : Int32) : zCi zX10_isFamily fr 0 0 [zi v] M (fun x M' => M' = M ∧ x = zbo (zBw v 0 9)) := by
  refine z_enter (L := [some (zi v)]) rfl (by decide +kernel) (Nat.le_of_ble_eq_true rfl) ?_
  refine z_il iX10_isFamily_0 rfl ?_
  refine z_co iX10_isFamily_1 ?_
  refine z_co iX10_isFamily_2 ?_
  refine z_cs3i (fr' := fr - 1) iX10_isFamily_4 zmX10_within (c10_within _ _ _) (by omega) (Nat.le_of_ble_eq_true rfl) (fun x M1 hq => ?_)
  obtain ⟨rfl, rfl⟩ := hq
  refine z_bret iX10_isFamily_7 rfl ?_
  exact ⟨_, rfl, rfl, rfl⟩
set_option maxRecDepth 20000 in
set_option maxHeartbeats 4000000 in
theorem c10_isUnder {fr : Nat} {M : zM} (kind k : Int32) : zCi zX10_isUnder fr 0 0 [zi kind, zi k] M (fun x M' => M' = M ∧ x = zbo (zUnd kind k)) := by
  refine z_enter (L := [some (zi kind), some (zi k)]) rfl (by decide +kernel) (Nat.le_of_ble_eq_true rfl) ?_
  refine z_il iX10_isUnder_0 rfl ?_
  refine z_sw iX10_isUnder_1 ⟨fun h1 => ?_, fun h1 => ?_, fun h1 => ?_, fun h1 => ?_, trivial⟩ (fun h1 => ?_)
  · refine z_co iX10_isUnder_32 ?_
    refine z_zret iX10_isUnder_33 rfl rfl ?_
    refine ⟨_, rfl, rfl, ?_⟩
    by_cases g : zUnd kind k
    · first | exact (zbo_1 g).symm | (exfalso; simp only [zBw, zUnd, zCor, zi_eq, zi_le, zi_lt, Int32.reduceToInt, List.length_cons, List.length_nil] at *; omega)
    · first | exact (zbo_0 g).symm | (exfalso; simp only [zBw, zUnd, zCor, zi_eq, zi_le, zi_lt, Int32.reduceToInt, List.length_cons, List.length_nil] at *; omega)
  · refine z_il iX10_isUnder_34 rfl ?_
    refine z_co iX10_isUnder_35 ?_
    refine z_icmp_eq iX10_isUnder_36 (fun h2 => ?_) (fun h2 => ?_)
    · refine z_co iX10_isUnder_49 ?_
      refine z_goto iX10_isUnder_50 ?_
      refine z_zret iX10_isUnder_54 rfl rfl ?_
      refine ⟨_, rfl, rfl, ?_⟩
      by_cases g : zUnd kind k
      · first | exact (zbo_1 g).symm | (exfalso; simp only [zBw, zUnd, zCor, zi_eq, zi_le, zi_lt, Int32.reduceToInt, List.length_cons, List.length_nil] at *; omega)
      · first | exact (zbo_0 g).symm | (exfalso; simp only [zBw, zUnd, zCor, zi_eq, zi_le, zi_lt, Int32.reduceToInt, List.length_cons, List.length_nil] at *; omega)
    · refine z_il iX10_isUnder_39 rfl ?_
      refine z_co iX10_isUnder_40 ?_
      refine z_icmp_eq iX10_isUnder_41 (fun h3 => ?_) (fun h3 => ?_)
      · refine z_co iX10_isUnder_49 ?_
        refine z_goto iX10_isUnder_50 ?_
        refine z_zret iX10_isUnder_54 rfl rfl ?_
        refine ⟨_, rfl, rfl, ?_⟩
        by_cases g : zUnd kind k
        · first | exact (zbo_1 g).symm | (exfalso; simp only [zBw, zUnd, zCor, zi_eq, zi_le, zi_lt, Int32.reduceToInt, List.length_cons, List.length_nil] at *; omega)
        · first | exact (zbo_0 g).symm | (exfalso; simp only [zBw, zUnd, zCor, zi_eq, zi_le, zi_lt, Int32.reduceToInt, List.length_cons, List.length_nil] at *; omega)
      · refine z_il iX10_isUnder_44 rfl ?_
        refine z_co iX10_isUnder_45 ?_
        refine z_icmp_ne iX10_isUnder_46 (fun h4 => ?_) (fun h4 => ?_)
        · refine z_co iX10_isUnder_53 ?_
          refine z_zret iX10_isUnder_54 rfl rfl ?_
          refine ⟨_, rfl, rfl, ?_⟩
          by_cases g : zUnd kind k
          · first | exact (zbo_1 g).symm | (exfalso; simp only [zBw, zUnd, zCor, zi_eq, zi_le, zi_lt, Int32.reduceToInt, List.length_cons, List.length_nil] at *; omega)
          · first | exact (zbo_0 g).symm | (exfalso; simp only [zBw, zUnd, zCor, zi_eq, zi_le, zi_lt, Int32.reduceToInt, List.length_cons, List.length_nil] at *; omega)
        · refine z_co iX10_isUnder_49 ?_
          refine z_goto iX10_isUnder_50 ?_
          refine z_zret iX10_isUnder_54 rfl rfl ?_
          refine ⟨_, rfl, rfl, ?_⟩
          by_cases g : zUnd kind k
          · first | exact (zbo_1 g).symm | (exfalso; simp only [zBw, zUnd, zCor, zi_eq, zi_le, zi_lt, Int32.reduceToInt, List.length_cons, List.length_nil] at *; omega)
          · first | exact (zbo_0 g).symm | (exfalso; simp only [zBw, zUnd, zCor, zi_eq, zi_le, zi_lt, Int32.reduceToInt, List.length_cons, List.length_nil] at *; omega)
  · refine z_il iX10_isUnder_71 rfl ?_
    refine z_il iX10_isUnder_72 rfl ?_
    refine z_icmp_ne iX10_isUnder_73 (fun h5 => ?_) (fun h5 => ?_)
    · refine z_co iX10_isUnder_80 ?_
      refine z_zret iX10_isUnder_81 rfl rfl ?_
      refine ⟨_, rfl, rfl, ?_⟩
      by_cases g : zUnd kind k
      · first | exact (zbo_1 g).symm | (exfalso; simp only [zBw, zUnd, zCor, zi_eq, zi_le, zi_lt, Int32.reduceToInt, List.length_cons, List.length_nil] at *; omega)
      · first | exact (zbo_0 g).symm | (exfalso; simp only [zBw, zUnd, zCor, zi_eq, zi_le, zi_lt, Int32.reduceToInt, List.length_cons, List.length_nil] at *; omega)
    · refine z_co iX10_isUnder_76 ?_
      refine z_goto iX10_isUnder_77 ?_
      refine z_zret iX10_isUnder_81 rfl rfl ?_
      refine ⟨_, rfl, rfl, ?_⟩
      by_cases g : zUnd kind k
      · first | exact (zbo_1 g).symm | (exfalso; simp only [zBw, zUnd, zCor, zi_eq, zi_le, zi_lt, Int32.reduceToInt, List.length_cons, List.length_nil] at *; omega)
      · first | exact (zbo_0 g).symm | (exfalso; simp only [zBw, zUnd, zCor, zi_eq, zi_le, zi_lt, Int32.reduceToInt, List.length_cons, List.length_nil] at *; omega)
  · refine z_il iX10_isUnder_55 rfl ?_
    refine z_co iX10_isUnder_56 ?_
    refine z_icmp_eq iX10_isUnder_57 (fun h6 => ?_) (fun h6 => ?_)
    · refine z_co iX10_isUnder_65 ?_
      refine z_goto iX10_isUnder_66 ?_
      refine z_zret iX10_isUnder_70 rfl rfl ?_
      refine ⟨_, rfl, rfl, ?_⟩
      by_cases g : zUnd kind k
      · first | exact (zbo_1 g).symm | (exfalso; simp only [zBw, zUnd, zCor, zi_eq, zi_le, zi_lt, Int32.reduceToInt, List.length_cons, List.length_nil] at *; omega)
      · first | exact (zbo_0 g).symm | (exfalso; simp only [zBw, zUnd, zCor, zi_eq, zi_le, zi_lt, Int32.reduceToInt, List.length_cons, List.length_nil] at *; omega)
    · refine z_il iX10_isUnder_60 rfl ?_
      refine z_co iX10_isUnder_61 ?_
      refine z_icmp_ne iX10_isUnder_62 (fun h7 => ?_) (fun h7 => ?_)
      · refine z_co iX10_isUnder_69 ?_
        refine z_zret iX10_isUnder_70 rfl rfl ?_
        refine ⟨_, rfl, rfl, ?_⟩
        by_cases g : zUnd kind k
        · first | exact (zbo_1 g).symm | (exfalso; simp only [zBw, zUnd, zCor, zi_eq, zi_le, zi_lt, Int32.reduceToInt, List.length_cons, List.length_nil] at *; omega)
        · first | exact (zbo_0 g).symm | (exfalso; simp only [zBw, zUnd, zCor, zi_eq, zi_le, zi_lt, Int32.reduceToInt, List.length_cons, List.length_nil] at *; omega)
      · refine z_co iX10_isUnder_65 ?_
        refine z_goto iX10_isUnder_66 ?_
        refine z_zret iX10_isUnder_70 rfl rfl ?_
        refine ⟨_, rfl, rfl, ?_⟩
        by_cases g : zUnd kind k
        · first | exact (zbo_1 g).symm | (exfalso; simp only [zBw, zUnd, zCor, zi_eq, zi_le, zi_lt, Int32.reduceToInt, List.length_cons, List.length_nil] at *; omega)
        · first | exact (zbo_0 g).symm | (exfalso; simp only [zBw, zUnd, zCor, zi_eq, zi_le, zi_lt, Int32.reduceToInt, List.length_cons, List.length_nil] at *; omega)
  · refine z_il iX10_isUnder_71 rfl ?_
    refine z_il iX10_isUnder_72 rfl ?_
    refine z_icmp_ne iX10_isUnder_73 (fun h8 => ?_) (fun h8 => ?_)
    · refine z_co iX10_isUnder_80 ?_
      refine z_zret iX10_isUnder_81 rfl rfl ?_
      refine ⟨_, rfl, rfl, ?_⟩
      by_cases g : zUnd kind k
      · first | exact (zbo_1 g).symm | (exfalso; simp only [zBw, zUnd, zCor, zi_eq, zi_le, zi_lt, Int32.reduceToInt, List.length_cons, List.length_nil] at *; omega)
      · first | exact (zbo_0 g).symm | (exfalso; simp only [zBw, zUnd, zCor, zi_eq, zi_le, zi_lt, Int32.reduceToInt, List.length_cons, List.length_nil] at *; omega)
    · refine z_co iX10_isUnder_76 ?_
      refine z_goto iX10_isUnder_77 ?_
      refine z_zret iX10_isUnder_81 rfl rfl ?_
      refine ⟨_, rfl, rfl, ?_⟩
      by_cases g : zUnd kind k
      · first | exact (zbo_1 g).symm | (exfalso; simp only [zBw, zUnd, zCor, zi_eq, zi_le, zi_lt, Int32.reduceToInt, List.length_cons, List.length_nil] at *; omega)
      · first | exact (zbo_0 g).symm | (exfalso; simp only [zBw, zUnd, zCor, zi_eq, zi_le, zi_lt, Int32.reduceToInt, List.length_cons, List.length_nil] at *; omega)
set_option maxRecDepth 20000 in
set_option maxHeartbeats 4000000 in
theorem c11_hasCorners {fr : Nat} {M : zM} (k : Int32) : zCi zX11_hasCorners fr 0 0 [zi k] M (fun x M' => M' = M ∧ x = zbo (zCor k)) := by
  refine z_enter (L := [some (zi k)]) rfl (by decide +kernel) (Nat.le_of_ble_eq_true rfl) ?_
  refine z_il iX11_hasCorners_0 rfl ?_
  refine z_co iX11_hasCorners_1 ?_
  refine z_icmp_eq iX11_hasCorners_2 (fun h1 => ?_) (fun h1 => ?_)
  · refine z_co iX11_hasCorners_15 ?_
    refine z_goto iX11_hasCorners_16 ?_
    refine z_zret iX11_hasCorners_20 rfl rfl ?_
    refine ⟨_, rfl, rfl, ?_⟩
    by_cases g : zCor k
    · first | exact (zbo_1 g).symm | (exfalso; simp only [zBw, zUnd, zCor, zi_eq, zi_le, zi_lt, Int32.reduceToInt, List.length_cons, List.length_nil] at *; omega)
    · first | exact (zbo_0 g).symm | (exfalso; simp only [zBw, zUnd, zCor, zi_eq, zi_le, zi_lt, Int32.reduceToInt, List.length_cons, List.length_nil] at *; omega)
  · refine z_il iX11_hasCorners_5 rfl ?_
    refine z_co iX11_hasCorners_6 ?_
    refine z_icmp_eq iX11_hasCorners_7 (fun h2 => ?_) (fun h2 => ?_)
    · refine z_co iX11_hasCorners_15 ?_
      refine z_goto iX11_hasCorners_16 ?_
      refine z_zret iX11_hasCorners_20 rfl rfl ?_
      refine ⟨_, rfl, rfl, ?_⟩
      by_cases g : zCor k
      · first | exact (zbo_1 g).symm | (exfalso; simp only [zBw, zUnd, zCor, zi_eq, zi_le, zi_lt, Int32.reduceToInt, List.length_cons, List.length_nil] at *; omega)
      · first | exact (zbo_0 g).symm | (exfalso; simp only [zBw, zUnd, zCor, zi_eq, zi_le, zi_lt, Int32.reduceToInt, List.length_cons, List.length_nil] at *; omega)
    · refine z_il iX11_hasCorners_10 rfl ?_
      refine z_co iX11_hasCorners_11 ?_
      refine z_icmp_ne iX11_hasCorners_12 (fun h3 => ?_) (fun h3 => ?_)
      · refine z_co iX11_hasCorners_19 ?_
        refine z_zret iX11_hasCorners_20 rfl rfl ?_
        refine ⟨_, rfl, rfl, ?_⟩
        by_cases g : zCor k
        · first | exact (zbo_1 g).symm | (exfalso; simp only [zBw, zUnd, zCor, zi_eq, zi_le, zi_lt, Int32.reduceToInt, List.length_cons, List.length_nil] at *; omega)
        · first | exact (zbo_0 g).symm | (exfalso; simp only [zBw, zUnd, zCor, zi_eq, zi_le, zi_lt, Int32.reduceToInt, List.length_cons, List.length_nil] at *; omega)
      · refine z_co iX11_hasCorners_15 ?_
        refine z_goto iX11_hasCorners_16 ?_
        refine z_zret iX11_hasCorners_20 rfl rfl ?_
        refine ⟨_, rfl, rfl, ?_⟩
        by_cases g : zCor k
        · first | exact (zbo_1 g).symm | (exfalso; simp only [zBw, zUnd, zCor, zi_eq, zi_le, zi_lt, Int32.reduceToInt, List.length_cons, List.length_nil] at *; omega)
        · first | exact (zbo_0 g).symm | (exfalso; simp only [zBw, zUnd, zCor, zi_eq, zi_le, zi_lt, Int32.reduceToInt, List.length_cons, List.length_nil] at *; omega)
theorem z_mmax {Y : zY} {fr cm sm pc n : Nat} {ls : zLs} {st : List zVal} {M : zM} {Q : Option zVal → zM → Prop} {x y : Int32} (hd : zCl Y pc .invokestatic zJ9_max_7cf53 n) (hfr : 1 ≤ fr) (hw : zWd st ≤ 8) (k : zV Y fr cm sm n ls (zi (if x < y then y else x) :: st) M Q) : zV Y fr cm sm pc ls (zi y :: zi x :: st) M Q := by
  obtain ⟨idx, hd, rfl, hl⟩ := hd
  have hl : Cond.methodLink Y.1.cls idx zJ9_max_7cf53.1 ∈ zTW := by
    rcases hl with h | ⟨host, h⟩
    · exact h
    · exact absurd rfl ((by decide +kernel : ∀ q ∈ zNest, q.2.2.1 ≠ zJ9_max_7cf53.1) _ h)
  refine z_pure k (fun {G p l e s m args below meth c H locs cells slots θ0 M0 θ lsA R Z} P kk => ?_)
  have hs : ((st.map (zc θ)).map fun v => v.category).sum ≤ 8 := by rw [zWd_sum]; exact hw
  exact va_mmax P.x P.b (P.1.2.2.1.trans P.L.1.symm) P.o (P.w _ hl) (P.w _ zmJ9_max_7cf53.1) (P.w _ zmJ9_max_7cf53.2.1) (P.w _ zmJ9_max_7cf53.2.2.1) (Nat.le_trans hfr P.2.1.1) (by have := P.2.1.2.1; omega) (by have := P.2.1.2.2.1; omega) (by have := P.2.1.2.2.2; omega) hd (kk _ P.L (okS.c trivial P.sk.t.t))
/-- WEAR of a cut -/
def zWear (k s h : Int32) : Int32 := if k = 1 then s * h + h else if k = 2 then (if s * h + h - s < 1 then 1 else s * h + h - s) else if k = 3 then 2 * (s * h) else if k = 4 then 2 * (s * h) + s else if k = 5 then s * h + h + s * h else s * h
set_option maxRecDepth 20000 in
set_option maxHeartbeats 4000000 in
theorem c10_wearOf {fr : Nat} {M : zM} (hf : 1 ≤ fr) (k s h : Int32) : zCi zX10_wearOf fr 0 0 [zi k, zi s, zi h] M (fun x M' => M' = M ∧ x = zWear k s h) := by
  refine z_enter (L := [some (zi k), some (zi s), some (zi h)]) rfl (by decide +kernel) (Nat.le_of_ble_eq_true rfl) ?_
  refine z_il iX10_wearOf_0 rfl ?_
  refine z_il iX10_wearOf_1 rfl ?_
  refine z_imul iX10_wearOf_2 ?_
  refine z_is iX10_wearOf_3 ?_
  refine z_il iX10_wearOf_4 rfl ?_
  refine z_sw iX10_wearOf_5 ⟨fun h1 => ?_, fun h1 => ?_, fun h1 => ?_, fun h1 => ?_, fun h1 => ?_, trivial⟩ (fun h1 => ?_)
  · refine z_il iX10_wearOf_40 rfl ?_
    refine z_il iX10_wearOf_41 rfl ?_
    refine z_iadd iX10_wearOf_42 ?_
    refine z_iret iX10_wearOf_43 rfl ?_
    refine ⟨_, rfl, rfl, ?_⟩
    unfold zWear
    try simp only [List.length_cons, List.length_nil] at *
    repeat' split
    all_goals first | rfl | (exfalso; simp only [zi_eq, Int32.reduceToInt] at *; omega) | (exfalso; simp only [zi_le, zi_lt, zi_eq, Int32.reduceToInt] at *; omega) | (refine Int32.toInt_inj.mp ?_; simp only [zi_le, zi_lt, zi_eq, Int32.reduceToInt] at *; omega)
  · refine z_co iX10_wearOf_44 ?_
    refine z_il iX10_wearOf_45 rfl ?_
    refine z_il iX10_wearOf_46 rfl ?_
    refine z_iadd iX10_wearOf_47 ?_
    refine z_il iX10_wearOf_48 rfl ?_
    refine z_isub iX10_wearOf_49 ?_
    refine z_mmax iX10_wearOf_50 (by omega) (by decide) ?_
    refine z_iret iX10_wearOf_53 rfl ?_
    refine ⟨_, rfl, rfl, ?_⟩
    unfold zWear
    try simp only [List.length_cons, List.length_nil] at *
    repeat' split
    all_goals first | rfl | (exfalso; simp only [zi_eq, Int32.reduceToInt] at *; omega) | (exfalso; simp only [zi_le, zi_lt, zi_eq, Int32.reduceToInt] at *; omega) | (refine Int32.toInt_inj.mp ?_; simp only [zi_le, zi_lt, zi_eq, Int32.reduceToInt] at *; omega)
  · refine z_co iX10_wearOf_54 ?_
    refine z_il iX10_wearOf_55 rfl ?_
    refine z_imul iX10_wearOf_56 ?_
    refine z_iret iX10_wearOf_57 rfl ?_
    refine ⟨_, rfl, rfl, ?_⟩
    unfold zWear
    try simp only [List.length_cons, List.length_nil] at *
    repeat' split
    all_goals first | rfl | (exfalso; simp only [zi_eq, Int32.reduceToInt] at *; omega) | (exfalso; simp only [zi_le, zi_lt, zi_eq, Int32.reduceToInt] at *; omega) | (refine Int32.toInt_inj.mp ?_; simp only [zi_le, zi_lt, zi_eq, Int32.reduceToInt] at *; omega)
  · refine z_co iX10_wearOf_58 ?_
    refine z_il iX10_wearOf_59 rfl ?_
    refine z_imul iX10_wearOf_60 ?_
    refine z_il iX10_wearOf_61 rfl ?_
    refine z_iadd iX10_wearOf_62 ?_
    refine z_iret iX10_wearOf_63 rfl ?_
    refine ⟨_, rfl, rfl, ?_⟩
    unfold zWear
    try simp only [List.length_cons, List.length_nil] at *
    repeat' split
    all_goals first | rfl | (exfalso; simp only [zi_eq, Int32.reduceToInt] at *; omega) | (exfalso; simp only [zi_le, zi_lt, zi_eq, Int32.reduceToInt] at *; omega) | (refine Int32.toInt_inj.mp ?_; simp only [zi_le, zi_lt, zi_eq, Int32.reduceToInt] at *; omega)
  · refine z_il iX10_wearOf_64 rfl ?_
    refine z_il iX10_wearOf_65 rfl ?_
    refine z_iadd iX10_wearOf_66 ?_
    refine z_il iX10_wearOf_67 rfl ?_
    refine z_iadd iX10_wearOf_68 ?_
    refine z_iret iX10_wearOf_69 rfl ?_
    refine ⟨_, rfl, rfl, ?_⟩
    unfold zWear
    try simp only [List.length_cons, List.length_nil] at *
    repeat' split
    all_goals first | rfl | (exfalso; simp only [zi_eq, Int32.reduceToInt] at *; omega) | (exfalso; simp only [zi_le, zi_lt, zi_eq, Int32.reduceToInt] at *; omega) | (refine Int32.toInt_inj.mp ?_; simp only [zi_le, zi_lt, zi_eq, Int32.reduceToInt] at *; omega)
  · refine z_il iX10_wearOf_70 rfl ?_
    refine z_iret iX10_wearOf_71 rfl ?_
    refine ⟨_, rfl, rfl, ?_⟩
    unfold zWear
    try simp only [List.length_cons, List.length_nil] at *
    repeat' split
    all_goals first | rfl | (exfalso; simp only [zi_eq, Int32.reduceToInt] at *; omega) | (exfalso; simp only [zi_le, zi_lt, zi_eq, Int32.reduceToInt] at *; omega) | (refine Int32.toInt_inj.mp ?_; simp only [zi_le, zi_lt, zi_eq, Int32.reduceToInt] at *; omega)
