set_option maxRecDepth 20000 in
set_option maxHeartbeats 4000000 in
theorem c10_within {fr : Nat} {M : zM} (v lo hi : Int32) : zCi zX10_within fr 0 0 [zi v, zi lo, zi hi] M (fun x M' => M' = M ∧ x = zbo (zBw v lo hi)) := by
  refine z_enter (L := [some (zi v), some (zi lo), some (zi hi)]) rfl (by decide +kernel) (by decide) ?_
  refine z_il iX10_within_0 rfl ?_
  refine z_il iX10_within_1 rfl ?_
  refine z_icmp_lt iX10_within_2 (fun h1 => ?_) (fun h1 => ?_)
  · refine z_co iX10_within_14 ?_
    refine z_zret iX10_within_15 rfl rfl ?_
    refine ⟨_, rfl, rfl, ?_⟩
    unfold zbo
    split <;> simp_all [zi_le, zi_lt] <;> omega
  · refine z_il iX10_within_5 rfl ?_
    refine z_il iX10_within_6 rfl ?_
    refine z_icmp_gt iX10_within_7 (fun h2 => ?_) (fun h2 => ?_)
    · refine z_co iX10_within_14 ?_
      refine z_zret iX10_within_15 rfl rfl ?_
      refine ⟨_, rfl, rfl, ?_⟩
      unfold zbo
      split <;> simp_all [zi_le, zi_lt] <;> omega
    · refine z_co iX10_within_10 ?_
      refine z_goto iX10_within_11 ?_
      refine z_zret iX10_within_15 rfl rfl ?_
      refine ⟨_, rfl, rfl, ?_⟩
      unfold zbo
      split <;> simp_all [zi_le, zi_lt] <;> omega
set_option maxRecDepth 20000 in
set_option maxHeartbeats 4000000 in
theorem c11_in {fr : Nat} {M : zM} (v lo hi : Int32) : zCi zX11_in fr 0 0 [zi v, zi lo, zi hi] M (fun x M' => M' = M ∧ x = zbo (zBw v lo hi)) := by
  refine z_enter (L := [some (zi v), some (zi lo), some (zi hi)]) rfl (by decide +kernel) (by decide) ?_
  refine z_il iX11_in_0 rfl ?_
  refine z_il iX11_in_1 rfl ?_
  refine z_icmp_lt iX11_in_2 (fun h1 => ?_) (fun h1 => ?_)
  · refine z_co iX11_in_14 ?_
    refine z_zret iX11_in_15 rfl rfl ?_
    refine ⟨_, rfl, rfl, ?_⟩
    unfold zbo
    split <;> simp_all [zi_le, zi_lt] <;> omega
  · refine z_il iX11_in_5 rfl ?_
    refine z_il iX11_in_6 rfl ?_
    refine z_icmp_gt iX11_in_7 (fun h2 => ?_) (fun h2 => ?_)
    · refine z_co iX11_in_14 ?_
      refine z_zret iX11_in_15 rfl rfl ?_
      refine ⟨_, rfl, rfl, ?_⟩
      unfold zbo
      split <;> simp_all [zi_le, zi_lt] <;> omega
    · refine z_co iX11_in_10 ?_
      refine z_goto iX11_in_11 ?_
      refine z_zret iX11_in_15 rfl rfl ?_
      refine ⟨_, rfl, rfl, ?_⟩
      unfold zbo
      split <;> simp_all [zi_le, zi_lt] <;> omega
set_option maxRecDepth 20000 in
set_option maxHeartbeats 4000000 in
theorem c10_isFamily {fr : Nat} {M : zM} (hf : 1 ≤ fr) (v : Int32) : zCi zX10_isFamily fr 0 0 [zi v] M (fun x M' => M' = M ∧ x = zbo (zBw v 0 9)) := by
  refine z_enter (L := [some (zi v)]) rfl (by decide +kernel) (by decide) ?_
  refine z_il iX10_isFamily_0 rfl ?_
  refine z_co iX10_isFamily_1 ?_
  refine z_co iX10_isFamily_2 ?_
  refine z_cs3i (fr' := fr - 1) iX10_isFamily_4 zmX10_within (c10_within _ _ _) (by omega) (by decide) (fun x M1 hq => ?_)
  obtain ⟨rfl, rfl⟩ := hq
  refine z_bret iX10_isFamily_7 rfl ?_
  exact ⟨_, rfl, rfl, rfl⟩
