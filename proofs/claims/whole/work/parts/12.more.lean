/-! more rows: writes behind one another, Math.max *-/
theorem zupd_k {M : zM} {a b : zAd} {e : zE} (h : b.1 ≠ a.1) : zupd M a e b = M b := if_neg (fun q => h (congrArg Prod.fst q))
theorem zupd_i {M : zM} {a b : zAd} {e : zE} (h : b.2 ≠ a.2) : zupd M a e b = M b := if_neg (fun q => h (congrArg Prod.snd q))
theorem zupd_u {M : zM} {a : zAd} {e e' : zE} : zupd (zupd M a e) a e' = zupd M a e' := by
  funext x
  unfold zupd
  by_cases q : x = a
  · rw [if_pos q, if_pos q]
  · rw [if_neg q, if_neg q, if_neg q]
theorem zupd_c {M : zM} {a b : zAd} {e e' : zE} (h : a ≠ b) : zupd (zupd M a e) b e' = zupd (zupd M b e') a e := by
  funext x
  unfold zupd
  by_cases q : x = a
  · by_cases q2 : x = b
    · exact absurd (q.symm.trans q2) h
    · rw [if_neg q2, if_pos q, if_pos q]
  · by_cases q2 : x = b
    · rw [if_pos q2, if_neg q, if_pos q2]
    · rw [if_neg q2, if_neg q, if_neg q, if_neg q2]
theorem zup_u {α : Type} {f : Nat → α} {k : Nat} {v w : α} : zup (zup f k v) k w = zup f k w := by
  funext j
  unfold zup
  by_cases q : j = k
  · rw [if_pos q, if_pos q]
  · rw [if_neg q, if_neg q, if_neg q]
section ZN
variable {Y : zY} {fr cm sm pc n : Nat} {ls : zLs} {st : List zVal} {M : zM} {Q : Option zVal → zM → Prop}
theorem z_pf2 {ci k : Nat} {a : zAd} {fs : List zVal} {v : zVal} {ty : FieldType} (hd : zPf Y pc ci k ty n) (ha : 2 ≤ a.1) (hl : k < fs.length) (hf : zFit ty v) (kk : zV Y fr cm sm n ls st (zupd M a (.inr (ci, fs.set k v))) Q) : zV Y fr cm sm pc ls (v :: zr a :: st) (zupd M a (.inr (ci, fs))) Q :=
  z_pf hd zupd_s ha hl hf (by rw [zupd_u]; exact kk)
theorem z_iast2 {a : zAd} {N j : Nat} {f : Nat → Int32} {i x : Int32} (hd : zD Y pc 1 .iastore n) (ha : 2 ≤ a.1) (hi : i.toInt = (j : Int)) (hj : j < N) (kk : zV Y fr cm sm n ls st (zupd M a (.inl (0, N, .inl (zup f j x)))) Q) : zV Y fr cm sm pc ls (zi x :: zi i :: zr a :: st) (zupd M a (.inl (0, N, .inl f))) Q :=
  z_iast hd zupd_s ha hi hj (by rw [zupd_u]; exact kk)
theorem z_last2 {a : zAd} {N j : Nat} {f : Nat → Int64} {i : Int32} {x : Int64} (hd : zD Y pc 1 .lastore n) (ha : 2 ≤ a.1) (hi : i.toInt = (j : Int)) (hj : j < N) (kk : zV Y fr cm sm n ls st (zupd M a (.inl (1, N, .inr (.inl (zup f j x))))) Q) : zV Y fr cm sm pc ls (zl x :: zi i :: zr a :: st) (zupd M a (.inl (1, N, .inr (.inl f)))) Q :=
  z_last hd zupd_s ha hi hj (by rw [zupd_u]; exact kk)
end ZN
theorem zi_le {a b : Int32} : a ≤ b ↔ a.toInt ≤ b.toInt := Int32.le_iff_toInt_le
theorem zi_lt {a b : Int32} : a < b ↔ a.toInt < b.toInt := Int32.lt_iff_toInt_lt
/-- v lies between -/
abbrev zBw (v lo hi : Int32) : Prop := lo ≤ v ∧ v ≤ hi
