/-! calls by the number of what is handed over and by what comes back -/
def zbo (p : Prop) [Decidable p] : Int32 := if p then 1 else 0
theorem zbo_f {p : Prop} [Decidable p] (h : zbo p = 0) : ¬ p := fun q => by unfold zbo at h; rw [if_pos q] at h; exact absurd h (by decide)
theorem zbo_t {p : Prop} [Decidable p] (h : ¬ zbo p = 0) : p := by
  by_cases q : p
  · exact q
  · exact absurd (if_neg q) h
theorem zbo_1 {p : Prop} [Decidable p] (h : p) : zbo p = 1 := if_pos h
theorem zbo_0 {p : Prop} [Decidable p] (h : ¬ p) : zbo p = 0 := if_neg h
theorem zbo_c {p q : Prop} [Decidable p] [Decidable q] (h : p ↔ q) : zbo p = zbo q := by
  by_cases g : p
  · rw [zbo_1 g, zbo_1 (h.mp g)]
  · rw [zbo_0 g, zbo_0 (fun x => g (h.mpr x))]
theorem zbo_n {p : Prop} [Decidable p] : narrow .boolean (.int (zbo p)) = .int (zbo p) := by
  by_cases g : p
  · rw [zbo_1 g]; rfl
  · rw [zbo_0 g]; rfl
theorem zbo_fit {p : Prop} [Decidable p] : zbo p = 0 ∨ zbo p = 1 := by
  by_cases g : p
  · exact Or.inr (zbo_1 g)
  · exact Or.inl (zbo_0 g)
/-- contracts by what comes back: an int, a long, a reference, nothing -/
def zCi (Y : zY) (fr cm sm : Nat) (As : List zVal) (M : zM) (P : Int32 → zM → Prop) : Prop := zC Y fr cm sm As M (fun r M' => ∃ x, r = some (zi x) ∧ P x M')
def zCj (Y : zY) (fr cm sm : Nat) (As : List zVal) (M : zM) (P : Int64 → zM → Prop) : Prop := zC Y fr cm sm As M (fun r M' => ∃ x, r = some (zl x) ∧ P x M')
def zCa (Y : zY) (fr cm sm : Nat) (As : List zVal) (M : zM) (P : Option zAd → zM → Prop) : Prop := zC Y fr cm sm As M (fun r M' => ∃ x, r = some (.inr (.inr x)) ∧ P x M')
def zCv (Y : zY) (fr cm sm : Nat) (As : List zVal) (M : zM) (P : zM → Prop) : Prop := zC Y fr cm sm As M (fun r M' => r = none ∧ P M')
/-- the same of places within a method -/
def zVi (Y : zY) (fr cm sm pc : Nat) (ls : zLs) (st : List zVal) (M : zM) (P : Int32 → zM → Prop) : Prop := zV Y fr cm sm pc ls st M (fun r M' => ∃ x, r = some (zi x) ∧ P x M')
theorem zCi.mono {Y : zY} {fr cm sm : Nat} {As : List zVal} {M : zM} {P P' : Int32 → zM → Prop} (h : zCi Y fr cm sm As M P) (hq : ∀ x M', P x M' → P' x M') : zCi Y fr cm sm As M P' := zC.mono h (fun r M' ⟨x, a, b⟩ => ⟨x, a, hq x M' b⟩)
theorem zCj.mono {Y : zY} {fr cm sm : Nat} {As : List zVal} {M : zM} {P P' : Int64 → zM → Prop} (h : zCj Y fr cm sm As M P) (hq : ∀ x M', P x M' → P' x M') : zCj Y fr cm sm As M P' := zC.mono h (fun r M' ⟨x, a, b⟩ => ⟨x, a, hq x M' b⟩)
theorem zCa.mono {Y : zY} {fr cm sm : Nat} {As : List zVal} {M : zM} {P P' : Option zAd → zM → Prop} (h : zCa Y fr cm sm As M P) (hq : ∀ x M', P x M' → P' x M') : zCa Y fr cm sm As M P' := zC.mono h (fun r M' ⟨x, a, b⟩ => ⟨x, a, hq x M' b⟩)
theorem zCv.mono {Y : zY} {fr cm sm : Nat} {As : List zVal} {M : zM} {P P' : zM → Prop} (h : zCv Y fr cm sm As M P) (hq : ∀ M', P M' → P' M') : zCv Y fr cm sm As M P' := zC.mono h (fun r M' ⟨a, b⟩ => ⟨a, hq M' b⟩)
section ZCC
variable {Y Y' : zY} {fr fr' cm sm cm' sm' pc n : Nat} {ls : zLs} {st : List zVal} {M : zM} {Q : Option zVal → zM → Prop}
theorem z_ib_eq {p : Prop} [Decidable p] {t : Nat} (hd : zB Y pc (.ifCond .eq) n t) (kt : ¬ p → zV Y fr cm sm t ls st M Q) (kf : p → zV Y fr cm sm n ls st M Q) : zV Y fr cm sm pc ls (zi (zbo p) :: st) M Q := z_if_eq hd (fun h => kt (zbo_f h)) (fun h => kf (zbo_t h))
theorem z_ib_ne {p : Prop} [Decidable p] {t : Nat} (hd : zB Y pc (.ifCond .ne) n t) (kt : p → zV Y fr cm sm t ls st M Q) (kf : ¬ p → zV Y fr cm sm n ls st M Q) : zV Y fr cm sm pc ls (zi (zbo p) :: st) M Q := z_if_ne hd (fun h => kt (zbo_t h)) (fun h => kf (zbo_f h))
theorem z_bret {p : Prop} [Decidable p] (hd : zD Y pc 1 .ireturn n) (hr : Y.2.2.2 = some .boolean) (hq : Q (some (zi (zbo p))) M) : zV Y fr cm sm pc ls [zi (zbo p)] M Q := z_zret hd hr zbo_n hq
theorem z_cv0i {a : zAd} {ci : Nat} {fs : List zVal} {P : Int32 → zM → Prop} (hd : zCl Y pc .invokevirtual Y' n) (hm : zMv Y' ci 0) (hM : M a = some (.inr (ci, fs))) (hc : zCi Y' fr' 0 0 [zr a] M P) (hfr : fr' + 1 ≤ fr) (hw : zWd st ≤ 8) (k : ∀ x M1, P x M1 → zV Y fr cm sm n ls (zi x :: st) M1 Q) : zV Y fr cm sm pc ls (zr a :: st) M Q := by
  have h := z_cv (As := []) (cm' := cm) (sm' := sm) (ls := ls) (Q := Q) hd hm hM rfl hw hfr hc (fun r M1 ⟨x, e, hp⟩ => by subst e; exact k x M1 hp)
  rw [Nat.zero_add, Nat.zero_add] at h
  exact h
theorem z_cv0j {a : zAd} {ci : Nat} {fs : List zVal} {P : Int64 → zM → Prop} (hd : zCl Y pc .invokevirtual Y' n) (hm : zMv Y' ci 0) (hM : M a = some (.inr (ci, fs))) (hc : zCj Y' fr' 0 0 [zr a] M P) (hfr : fr' + 1 ≤ fr) (hw : zWd st ≤ 8) (k : ∀ x M1, P x M1 → zV Y fr cm sm n ls (zl x :: st) M1 Q) : zV Y fr cm sm pc ls (zr a :: st) M Q := by
  have h := z_cv (As := []) (cm' := cm) (sm' := sm) (ls := ls) (Q := Q) hd hm hM rfl hw hfr hc (fun r M1 ⟨x, e, hp⟩ => by subst e; exact k x M1 hp)
  rw [Nat.zero_add, Nat.zero_add] at h
  exact h
theorem z_cv0a {a : zAd} {ci : Nat} {fs : List zVal} {P : Option zAd → zM → Prop} (hd : zCl Y pc .invokevirtual Y' n) (hm : zMv Y' ci 0) (hM : M a = some (.inr (ci, fs))) (hc : zCa Y' fr' 0 0 [zr a] M P) (hfr : fr' + 1 ≤ fr) (hw : zWd st ≤ 8) (k : ∀ x M1, P x M1 → zV Y fr cm sm n ls (.inr (.inr x) :: st) M1 Q) : zV Y fr cm sm pc ls (zr a :: st) M Q := by
  have h := z_cv (As := []) (cm' := cm) (sm' := sm) (ls := ls) (Q := Q) hd hm hM rfl hw hfr hc (fun r M1 ⟨x, e, hp⟩ => by subst e; exact k x M1 hp)
  rw [Nat.zero_add, Nat.zero_add] at h
  exact h
theorem z_cv0v {a : zAd} {ci : Nat} {fs : List zVal} {P : zM → Prop} (hd : zCl Y pc .invokevirtual Y' n) (hm : zMv Y' ci 0) (hM : M a = some (.inr (ci, fs))) (hc : zCv Y' fr' 0 0 [zr a] M P) (hfr : fr' + 1 ≤ fr) (hw : zWd st ≤ 8) (k : ∀ M1, P M1 → zV Y fr cm sm n ls st M1 Q) : zV Y fr cm sm pc ls (zr a :: st) M Q := by
  have h := z_cv (As := []) (cm' := cm) (sm' := sm) (ls := ls) (Q := Q) hd hm hM rfl hw hfr hc (fun r M1 ⟨e, hp⟩ => by subst e; exact k M1 hp)
  rw [Nat.zero_add, Nat.zero_add] at h
  exact h
theorem z_cv0vA {a : zAd} {ci : Nat} {fs : List zVal} {P : zM → Prop} (hd : zCl Y pc .invokevirtual Y' n) (hm : zMv Y' ci 0) (hM : M a = some (.inr (ci, fs))) (hc : zCv Y' fr' cm sm [zr a] M P) (hfr : fr' + 1 ≤ fr) (hw : zWd st ≤ 8) (k : ∀ M1, P M1 → zV Y fr cm' sm' n ls st M1 Q) : zV Y fr (cm + cm') (sm + sm') pc ls (zr a :: st) M Q :=
  z_cv (As := []) (cm' := cm') (sm' := sm') (ls := ls) (Q := Q) hd hm hM rfl hw hfr hc (fun r M1 ⟨e, hp⟩ => by subst e; exact k M1 hp)
theorem z_cs0i {P : Int32 → zM → Prop} (hd : zCl Y pc .invokestatic Y' n) (hm : zMs Y' 0) (hc : zCi Y' fr' 0 0 [] M P) (hfr : fr' + 1 ≤ fr) (hw : zWd st ≤ 8) (k : ∀ x M1, P x M1 → zV Y fr cm sm n ls (zi x :: st) M1 Q) : zV Y fr cm sm pc ls (st) M Q := by
  have h := z_cs (As := []) (cm' := cm) (sm' := sm) (ls := ls) (Q := Q) hd hm rfl hw hfr hc (fun r M1 ⟨x, e, hp⟩ => by subst e; exact k x M1 hp)
  rw [Nat.zero_add, Nat.zero_add] at h
  exact h
theorem z_cs0j {P : Int64 → zM → Prop} (hd : zCl Y pc .invokestatic Y' n) (hm : zMs Y' 0) (hc : zCj Y' fr' 0 0 [] M P) (hfr : fr' + 1 ≤ fr) (hw : zWd st ≤ 8) (k : ∀ x M1, P x M1 → zV Y fr cm sm n ls (zl x :: st) M1 Q) : zV Y fr cm sm pc ls (st) M Q := by
  have h := z_cs (As := []) (cm' := cm) (sm' := sm) (ls := ls) (Q := Q) hd hm rfl hw hfr hc (fun r M1 ⟨x, e, hp⟩ => by subst e; exact k x M1 hp)
  rw [Nat.zero_add, Nat.zero_add] at h
  exact h
theorem z_cs0a {P : Option zAd → zM → Prop} (hd : zCl Y pc .invokestatic Y' n) (hm : zMs Y' 0) (hc : zCa Y' fr' 0 0 [] M P) (hfr : fr' + 1 ≤ fr) (hw : zWd st ≤ 8) (k : ∀ x M1, P x M1 → zV Y fr cm sm n ls (.inr (.inr x) :: st) M1 Q) : zV Y fr cm sm pc ls (st) M Q := by
  have h := z_cs (As := []) (cm' := cm) (sm' := sm) (ls := ls) (Q := Q) hd hm rfl hw hfr hc (fun r M1 ⟨x, e, hp⟩ => by subst e; exact k x M1 hp)
  rw [Nat.zero_add, Nat.zero_add] at h
  exact h
theorem z_cs0v {P : zM → Prop} (hd : zCl Y pc .invokestatic Y' n) (hm : zMs Y' 0) (hc : zCv Y' fr' 0 0 [] M P) (hfr : fr' + 1 ≤ fr) (hw : zWd st ≤ 8) (k : ∀ M1, P M1 → zV Y fr cm sm n ls st M1 Q) : zV Y fr cm sm pc ls (st) M Q := by
  have h := z_cs (As := []) (cm' := cm) (sm' := sm) (ls := ls) (Q := Q) hd hm rfl hw hfr hc (fun r M1 ⟨e, hp⟩ => by subst e; exact k M1 hp)
  rw [Nat.zero_add, Nat.zero_add] at h
  exact h
theorem z_ci0v {a : zAd} {P : zM → Prop} (hd : zCl Y pc .invokespecial Y' n) (hm : zMi Y' 0) (hc : zCv Y' fr' 0 0 [zr a] M P) (hfr : fr' + 1 ≤ fr) (hw : zWd st ≤ 8) (k : ∀ M1, P M1 → zV Y fr cm sm n ls st M1 Q) : zV Y fr cm sm pc ls (zr a :: st) M Q := by
  have h := z_ci (As := []) (cm' := cm) (sm' := sm) (ls := ls) (Q := Q) hd hm rfl hw hfr hc (fun r M1 ⟨e, hp⟩ => by subst e; exact k M1 hp)
  rw [Nat.zero_add, Nat.zero_add] at h
  exact h
theorem z_ci0vA {a : zAd} {P : zM → Prop} (hd : zCl Y pc .invokespecial Y' n) (hm : zMi Y' 0) (hc : zCv Y' fr' cm sm [zr a] M P) (hfr : fr' + 1 ≤ fr) (hw : zWd st ≤ 8) (k : ∀ M1, P M1 → zV Y fr cm' sm' n ls st M1 Q) : zV Y fr (cm + cm') (sm + sm') pc ls (zr a :: st) M Q :=
  z_ci (As := []) (cm' := cm') (sm' := sm') (ls := ls) (Q := Q) hd hm rfl hw hfr hc (fun r M1 ⟨e, hp⟩ => by subst e; exact k M1 hp)
theorem z_cv1i {v1 : zVal} {a : zAd} {ci : Nat} {fs : List zVal} {P : Int32 → zM → Prop} (hd : zCl Y pc .invokevirtual Y' n) (hm : zMv Y' ci 1) (hM : M a = some (.inr (ci, fs))) (hc : zCi Y' fr' 0 0 [zr a, v1] M P) (hfr : fr' + 1 ≤ fr) (hw : zWd st ≤ 8) (k : ∀ x M1, P x M1 → zV Y fr cm sm n ls (zi x :: st) M1 Q) : zV Y fr cm sm pc ls (v1 :: zr a :: st) M Q := by
  have h := z_cv (As := [v1]) (cm' := cm) (sm' := sm) (ls := ls) (Q := Q) hd hm hM rfl hw hfr hc (fun r M1 ⟨x, e, hp⟩ => by subst e; exact k x M1 hp)
  rw [Nat.zero_add, Nat.zero_add] at h
  exact h
theorem z_cv1j {v1 : zVal} {a : zAd} {ci : Nat} {fs : List zVal} {P : Int64 → zM → Prop} (hd : zCl Y pc .invokevirtual Y' n) (hm : zMv Y' ci 1) (hM : M a = some (.inr (ci, fs))) (hc : zCj Y' fr' 0 0 [zr a, v1] M P) (hfr : fr' + 1 ≤ fr) (hw : zWd st ≤ 8) (k : ∀ x M1, P x M1 → zV Y fr cm sm n ls (zl x :: st) M1 Q) : zV Y fr cm sm pc ls (v1 :: zr a :: st) M Q := by
  have h := z_cv (As := [v1]) (cm' := cm) (sm' := sm) (ls := ls) (Q := Q) hd hm hM rfl hw hfr hc (fun r M1 ⟨x, e, hp⟩ => by subst e; exact k x M1 hp)
  rw [Nat.zero_add, Nat.zero_add] at h
  exact h
theorem z_cv1a {v1 : zVal} {a : zAd} {ci : Nat} {fs : List zVal} {P : Option zAd → zM → Prop} (hd : zCl Y pc .invokevirtual Y' n) (hm : zMv Y' ci 1) (hM : M a = some (.inr (ci, fs))) (hc : zCa Y' fr' 0 0 [zr a, v1] M P) (hfr : fr' + 1 ≤ fr) (hw : zWd st ≤ 8) (k : ∀ x M1, P x M1 → zV Y fr cm sm n ls (.inr (.inr x) :: st) M1 Q) : zV Y fr cm sm pc ls (v1 :: zr a :: st) M Q := by
  have h := z_cv (As := [v1]) (cm' := cm) (sm' := sm) (ls := ls) (Q := Q) hd hm hM rfl hw hfr hc (fun r M1 ⟨x, e, hp⟩ => by subst e; exact k x M1 hp)
  rw [Nat.zero_add, Nat.zero_add] at h
  exact h
theorem z_cv1v {v1 : zVal} {a : zAd} {ci : Nat} {fs : List zVal} {P : zM → Prop} (hd : zCl Y pc .invokevirtual Y' n) (hm : zMv Y' ci 1) (hM : M a = some (.inr (ci, fs))) (hc : zCv Y' fr' 0 0 [zr a, v1] M P) (hfr : fr' + 1 ≤ fr) (hw : zWd st ≤ 8) (k : ∀ M1, P M1 → zV Y fr cm sm n ls st M1 Q) : zV Y fr cm sm pc ls (v1 :: zr a :: st) M Q := by
  have h := z_cv (As := [v1]) (cm' := cm) (sm' := sm) (ls := ls) (Q := Q) hd hm hM rfl hw hfr hc (fun r M1 ⟨e, hp⟩ => by subst e; exact k M1 hp)
  rw [Nat.zero_add, Nat.zero_add] at h
  exact h
theorem z_cs1i {v1 : zVal} {P : Int32 → zM → Prop} (hd : zCl Y pc .invokestatic Y' n) (hm : zMs Y' 1) (hc : zCi Y' fr' 0 0 [v1] M P) (hfr : fr' + 1 ≤ fr) (hw : zWd st ≤ 8) (k : ∀ x M1, P x M1 → zV Y fr cm sm n ls (zi x :: st) M1 Q) : zV Y fr cm sm pc ls (v1 :: st) M Q := by
  have h := z_cs (As := [v1]) (cm' := cm) (sm' := sm) (ls := ls) (Q := Q) hd hm rfl hw hfr hc (fun r M1 ⟨x, e, hp⟩ => by subst e; exact k x M1 hp)
  rw [Nat.zero_add, Nat.zero_add] at h
  exact h
theorem z_cs1j {v1 : zVal} {P : Int64 → zM → Prop} (hd : zCl Y pc .invokestatic Y' n) (hm : zMs Y' 1) (hc : zCj Y' fr' 0 0 [v1] M P) (hfr : fr' + 1 ≤ fr) (hw : zWd st ≤ 8) (k : ∀ x M1, P x M1 → zV Y fr cm sm n ls (zl x :: st) M1 Q) : zV Y fr cm sm pc ls (v1 :: st) M Q := by
  have h := z_cs (As := [v1]) (cm' := cm) (sm' := sm) (ls := ls) (Q := Q) hd hm rfl hw hfr hc (fun r M1 ⟨x, e, hp⟩ => by subst e; exact k x M1 hp)
  rw [Nat.zero_add, Nat.zero_add] at h
  exact h
theorem z_cs1a {v1 : zVal} {P : Option zAd → zM → Prop} (hd : zCl Y pc .invokestatic Y' n) (hm : zMs Y' 1) (hc : zCa Y' fr' 0 0 [v1] M P) (hfr : fr' + 1 ≤ fr) (hw : zWd st ≤ 8) (k : ∀ x M1, P x M1 → zV Y fr cm sm n ls (.inr (.inr x) :: st) M1 Q) : zV Y fr cm sm pc ls (v1 :: st) M Q := by
  have h := z_cs (As := [v1]) (cm' := cm) (sm' := sm) (ls := ls) (Q := Q) hd hm rfl hw hfr hc (fun r M1 ⟨x, e, hp⟩ => by subst e; exact k x M1 hp)
  rw [Nat.zero_add, Nat.zero_add] at h
  exact h
theorem z_cs1v {v1 : zVal} {P : zM → Prop} (hd : zCl Y pc .invokestatic Y' n) (hm : zMs Y' 1) (hc : zCv Y' fr' 0 0 [v1] M P) (hfr : fr' + 1 ≤ fr) (hw : zWd st ≤ 8) (k : ∀ M1, P M1 → zV Y fr cm sm n ls st M1 Q) : zV Y fr cm sm pc ls (v1 :: st) M Q := by
  have h := z_cs (As := [v1]) (cm' := cm) (sm' := sm) (ls := ls) (Q := Q) hd hm rfl hw hfr hc (fun r M1 ⟨e, hp⟩ => by subst e; exact k M1 hp)
  rw [Nat.zero_add, Nat.zero_add] at h
  exact h
theorem z_ci1v {v1 : zVal} {a : zAd} {P : zM → Prop} (hd : zCl Y pc .invokespecial Y' n) (hm : zMi Y' 1) (hc : zCv Y' fr' 0 0 [zr a, v1] M P) (hfr : fr' + 1 ≤ fr) (hw : zWd st ≤ 8) (k : ∀ M1, P M1 → zV Y fr cm sm n ls st M1 Q) : zV Y fr cm sm pc ls (v1 :: zr a :: st) M Q := by
  have h := z_ci (As := [v1]) (cm' := cm) (sm' := sm) (ls := ls) (Q := Q) hd hm rfl hw hfr hc (fun r M1 ⟨e, hp⟩ => by subst e; exact k M1 hp)
  rw [Nat.zero_add, Nat.zero_add] at h
  exact h
theorem z_ci1vA {v1 : zVal} {a : zAd} {P : zM → Prop} (hd : zCl Y pc .invokespecial Y' n) (hm : zMi Y' 1) (hc : zCv Y' fr' cm sm [zr a, v1] M P) (hfr : fr' + 1 ≤ fr) (hw : zWd st ≤ 8) (k : ∀ M1, P M1 → zV Y fr cm' sm' n ls st M1 Q) : zV Y fr (cm + cm') (sm + sm') pc ls (v1 :: zr a :: st) M Q :=
  z_ci (As := [v1]) (cm' := cm') (sm' := sm') (ls := ls) (Q := Q) hd hm rfl hw hfr hc (fun r M1 ⟨e, hp⟩ => by subst e; exact k M1 hp)
theorem z_cv2i {v1 v2 : zVal} {a : zAd} {ci : Nat} {fs : List zVal} {P : Int32 → zM → Prop} (hd : zCl Y pc .invokevirtual Y' n) (hm : zMv Y' ci 2) (hM : M a = some (.inr (ci, fs))) (hc : zCi Y' fr' 0 0 [zr a, v1, v2] M P) (hfr : fr' + 1 ≤ fr) (hw : zWd st ≤ 8) (k : ∀ x M1, P x M1 → zV Y fr cm sm n ls (zi x :: st) M1 Q) : zV Y fr cm sm pc ls (v2 :: v1 :: zr a :: st) M Q := by
  have h := z_cv (As := [v1, v2]) (cm' := cm) (sm' := sm) (ls := ls) (Q := Q) hd hm hM rfl hw hfr hc (fun r M1 ⟨x, e, hp⟩ => by subst e; exact k x M1 hp)
  rw [Nat.zero_add, Nat.zero_add] at h
  exact h
theorem z_cv2iA {v1 v2 : zVal} {a : zAd} {ci : Nat} {fs : List zVal} {P : Int32 → zM → Prop} (hd : zCl Y pc .invokevirtual Y' n) (hm : zMv Y' ci 2) (hM : M a = some (.inr (ci, fs))) (hc : zCi Y' fr' cm sm [zr a, v1, v2] M P) (hfr : fr' + 1 ≤ fr) (hw : zWd st ≤ 8) (k : ∀ x M1, P x M1 → zV Y fr cm' sm' n ls (zi x :: st) M1 Q) : zV Y fr (cm + cm') (sm + sm') pc ls (v2 :: v1 :: zr a :: st) M Q :=
  z_cv (As := [v1, v2]) (cm' := cm') (sm' := sm') (ls := ls) (Q := Q) hd hm hM rfl hw hfr hc (fun r M1 ⟨x, e, hp⟩ => by subst e; exact k x M1 hp)
theorem z_cv2j {v1 v2 : zVal} {a : zAd} {ci : Nat} {fs : List zVal} {P : Int64 → zM → Prop} (hd : zCl Y pc .invokevirtual Y' n) (hm : zMv Y' ci 2) (hM : M a = some (.inr (ci, fs))) (hc : zCj Y' fr' 0 0 [zr a, v1, v2] M P) (hfr : fr' + 1 ≤ fr) (hw : zWd st ≤ 8) (k : ∀ x M1, P x M1 → zV Y fr cm sm n ls (zl x :: st) M1 Q) : zV Y fr cm sm pc ls (v2 :: v1 :: zr a :: st) M Q := by
  have h := z_cv (As := [v1, v2]) (cm' := cm) (sm' := sm) (ls := ls) (Q := Q) hd hm hM rfl hw hfr hc (fun r M1 ⟨x, e, hp⟩ => by subst e; exact k x M1 hp)
  rw [Nat.zero_add, Nat.zero_add] at h
  exact h
theorem z_cv2a {v1 v2 : zVal} {a : zAd} {ci : Nat} {fs : List zVal} {P : Option zAd → zM → Prop} (hd : zCl Y pc .invokevirtual Y' n) (hm : zMv Y' ci 2) (hM : M a = some (.inr (ci, fs))) (hc : zCa Y' fr' 0 0 [zr a, v1, v2] M P) (hfr : fr' + 1 ≤ fr) (hw : zWd st ≤ 8) (k : ∀ x M1, P x M1 → zV Y fr cm sm n ls (.inr (.inr x) :: st) M1 Q) : zV Y fr cm sm pc ls (v2 :: v1 :: zr a :: st) M Q := by
  have h := z_cv (As := [v1, v2]) (cm' := cm) (sm' := sm) (ls := ls) (Q := Q) hd hm hM rfl hw hfr hc (fun r M1 ⟨x, e, hp⟩ => by subst e; exact k x M1 hp)
  rw [Nat.zero_add, Nat.zero_add] at h
  exact h
theorem z_cv2v {v1 v2 : zVal} {a : zAd} {ci : Nat} {fs : List zVal} {P : zM → Prop} (hd : zCl Y pc .invokevirtual Y' n) (hm : zMv Y' ci 2) (hM : M a = some (.inr (ci, fs))) (hc : zCv Y' fr' 0 0 [zr a, v1, v2] M P) (hfr : fr' + 1 ≤ fr) (hw : zWd st ≤ 8) (k : ∀ M1, P M1 → zV Y fr cm sm n ls st M1 Q) : zV Y fr cm sm pc ls (v2 :: v1 :: zr a :: st) M Q := by
  have h := z_cv (As := [v1, v2]) (cm' := cm) (sm' := sm) (ls := ls) (Q := Q) hd hm hM rfl hw hfr hc (fun r M1 ⟨e, hp⟩ => by subst e; exact k M1 hp)
  rw [Nat.zero_add, Nat.zero_add] at h
  exact h
theorem z_cs2i {v1 v2 : zVal} {P : Int32 → zM → Prop} (hd : zCl Y pc .invokestatic Y' n) (hm : zMs Y' 2) (hc : zCi Y' fr' 0 0 [v1, v2] M P) (hfr : fr' + 1 ≤ fr) (hw : zWd st ≤ 8) (k : ∀ x M1, P x M1 → zV Y fr cm sm n ls (zi x :: st) M1 Q) : zV Y fr cm sm pc ls (v2 :: v1 :: st) M Q := by
  have h := z_cs (As := [v1, v2]) (cm' := cm) (sm' := sm) (ls := ls) (Q := Q) hd hm rfl hw hfr hc (fun r M1 ⟨x, e, hp⟩ => by subst e; exact k x M1 hp)
  rw [Nat.zero_add, Nat.zero_add] at h
  exact h
theorem z_cs2j {v1 v2 : zVal} {P : Int64 → zM → Prop} (hd : zCl Y pc .invokestatic Y' n) (hm : zMs Y' 2) (hc : zCj Y' fr' 0 0 [v1, v2] M P) (hfr : fr' + 1 ≤ fr) (hw : zWd st ≤ 8) (k : ∀ x M1, P x M1 → zV Y fr cm sm n ls (zl x :: st) M1 Q) : zV Y fr cm sm pc ls (v2 :: v1 :: st) M Q := by
  have h := z_cs (As := [v1, v2]) (cm' := cm) (sm' := sm) (ls := ls) (Q := Q) hd hm rfl hw hfr hc (fun r M1 ⟨x, e, hp⟩ => by subst e; exact k x M1 hp)
  rw [Nat.zero_add, Nat.zero_add] at h
  exact h
theorem z_cs2a {v1 v2 : zVal} {P : Option zAd → zM → Prop} (hd : zCl Y pc .invokestatic Y' n) (hm : zMs Y' 2) (hc : zCa Y' fr' 0 0 [v1, v2] M P) (hfr : fr' + 1 ≤ fr) (hw : zWd st ≤ 8) (k : ∀ x M1, P x M1 → zV Y fr cm sm n ls (.inr (.inr x) :: st) M1 Q) : zV Y fr cm sm pc ls (v2 :: v1 :: st) M Q := by
  have h := z_cs (As := [v1, v2]) (cm' := cm) (sm' := sm) (ls := ls) (Q := Q) hd hm rfl hw hfr hc (fun r M1 ⟨x, e, hp⟩ => by subst e; exact k x M1 hp)
  rw [Nat.zero_add, Nat.zero_add] at h
  exact h
theorem z_cs2v {v1 v2 : zVal} {P : zM → Prop} (hd : zCl Y pc .invokestatic Y' n) (hm : zMs Y' 2) (hc : zCv Y' fr' 0 0 [v1, v2] M P) (hfr : fr' + 1 ≤ fr) (hw : zWd st ≤ 8) (k : ∀ M1, P M1 → zV Y fr cm sm n ls st M1 Q) : zV Y fr cm sm pc ls (v2 :: v1 :: st) M Q := by
  have h := z_cs (As := [v1, v2]) (cm' := cm) (sm' := sm) (ls := ls) (Q := Q) hd hm rfl hw hfr hc (fun r M1 ⟨e, hp⟩ => by subst e; exact k M1 hp)
  rw [Nat.zero_add, Nat.zero_add] at h
  exact h
theorem z_ci2v {v1 v2 : zVal} {a : zAd} {P : zM → Prop} (hd : zCl Y pc .invokespecial Y' n) (hm : zMi Y' 2) (hc : zCv Y' fr' 0 0 [zr a, v1, v2] M P) (hfr : fr' + 1 ≤ fr) (hw : zWd st ≤ 8) (k : ∀ M1, P M1 → zV Y fr cm sm n ls st M1 Q) : zV Y fr cm sm pc ls (v2 :: v1 :: zr a :: st) M Q := by
  have h := z_ci (As := [v1, v2]) (cm' := cm) (sm' := sm) (ls := ls) (Q := Q) hd hm rfl hw hfr hc (fun r M1 ⟨e, hp⟩ => by subst e; exact k M1 hp)
  rw [Nat.zero_add, Nat.zero_add] at h
  exact h
theorem z_ci2vA {v1 v2 : zVal} {a : zAd} {P : zM → Prop} (hd : zCl Y pc .invokespecial Y' n) (hm : zMi Y' 2) (hc : zCv Y' fr' cm sm [zr a, v1, v2] M P) (hfr : fr' + 1 ≤ fr) (hw : zWd st ≤ 8) (k : ∀ M1, P M1 → zV Y fr cm' sm' n ls st M1 Q) : zV Y fr (cm + cm') (sm + sm') pc ls (v2 :: v1 :: zr a :: st) M Q :=
  z_ci (As := [v1, v2]) (cm' := cm') (sm' := sm') (ls := ls) (Q := Q) hd hm rfl hw hfr hc (fun r M1 ⟨e, hp⟩ => by subst e; exact k M1 hp)
theorem z_cv3i {v1 v2 v3 : zVal} {a : zAd} {ci : Nat} {fs : List zVal} {P : Int32 → zM → Prop} (hd : zCl Y pc .invokevirtual Y' n) (hm : zMv Y' ci 3) (hM : M a = some (.inr (ci, fs))) (hc : zCi Y' fr' 0 0 [zr a, v1, v2, v3] M P) (hfr : fr' + 1 ≤ fr) (hw : zWd st ≤ 8) (k : ∀ x M1, P x M1 → zV Y fr cm sm n ls (zi x :: st) M1 Q) : zV Y fr cm sm pc ls (v3 :: v2 :: v1 :: zr a :: st) M Q := by
  have h := z_cv (As := [v1, v2, v3]) (cm' := cm) (sm' := sm) (ls := ls) (Q := Q) hd hm hM rfl hw hfr hc (fun r M1 ⟨x, e, hp⟩ => by subst e; exact k x M1 hp)
  rw [Nat.zero_add, Nat.zero_add] at h
  exact h
theorem z_cv3j {v1 v2 v3 : zVal} {a : zAd} {ci : Nat} {fs : List zVal} {P : Int64 → zM → Prop} (hd : zCl Y pc .invokevirtual Y' n) (hm : zMv Y' ci 3) (hM : M a = some (.inr (ci, fs))) (hc : zCj Y' fr' 0 0 [zr a, v1, v2, v3] M P) (hfr : fr' + 1 ≤ fr) (hw : zWd st ≤ 8) (k : ∀ x M1, P x M1 → zV Y fr cm sm n ls (zl x :: st) M1 Q) : zV Y fr cm sm pc ls (v3 :: v2 :: v1 :: zr a :: st) M Q := by
  have h := z_cv (As := [v1, v2, v3]) (cm' := cm) (sm' := sm) (ls := ls) (Q := Q) hd hm hM rfl hw hfr hc (fun r M1 ⟨x, e, hp⟩ => by subst e; exact k x M1 hp)
  rw [Nat.zero_add, Nat.zero_add] at h
  exact h
theorem z_cv3v {v1 v2 v3 : zVal} {a : zAd} {ci : Nat} {fs : List zVal} {P : zM → Prop} (hd : zCl Y pc .invokevirtual Y' n) (hm : zMv Y' ci 3) (hM : M a = some (.inr (ci, fs))) (hc : zCv Y' fr' 0 0 [zr a, v1, v2, v3] M P) (hfr : fr' + 1 ≤ fr) (hw : zWd st ≤ 8) (k : ∀ M1, P M1 → zV Y fr cm sm n ls st M1 Q) : zV Y fr cm sm pc ls (v3 :: v2 :: v1 :: zr a :: st) M Q := by
  have h := z_cv (As := [v1, v2, v3]) (cm' := cm) (sm' := sm) (ls := ls) (Q := Q) hd hm hM rfl hw hfr hc (fun r M1 ⟨e, hp⟩ => by subst e; exact k M1 hp)
  rw [Nat.zero_add, Nat.zero_add] at h
  exact h
theorem z_cs3i {v1 v2 v3 : zVal} {P : Int32 → zM → Prop} (hd : zCl Y pc .invokestatic Y' n) (hm : zMs Y' 3) (hc : zCi Y' fr' 0 0 [v1, v2, v3] M P) (hfr : fr' + 1 ≤ fr) (hw : zWd st ≤ 8) (k : ∀ x M1, P x M1 → zV Y fr cm sm n ls (zi x :: st) M1 Q) : zV Y fr cm sm pc ls (v3 :: v2 :: v1 :: st) M Q := by
  have h := z_cs (As := [v1, v2, v3]) (cm' := cm) (sm' := sm) (ls := ls) (Q := Q) hd hm rfl hw hfr hc (fun r M1 ⟨x, e, hp⟩ => by subst e; exact k x M1 hp)
  rw [Nat.zero_add, Nat.zero_add] at h
  exact h
theorem z_cs3j {v1 v2 v3 : zVal} {P : Int64 → zM → Prop} (hd : zCl Y pc .invokestatic Y' n) (hm : zMs Y' 3) (hc : zCj Y' fr' 0 0 [v1, v2, v3] M P) (hfr : fr' + 1 ≤ fr) (hw : zWd st ≤ 8) (k : ∀ x M1, P x M1 → zV Y fr cm sm n ls (zl x :: st) M1 Q) : zV Y fr cm sm pc ls (v3 :: v2 :: v1 :: st) M Q := by
  have h := z_cs (As := [v1, v2, v3]) (cm' := cm) (sm' := sm) (ls := ls) (Q := Q) hd hm rfl hw hfr hc (fun r M1 ⟨x, e, hp⟩ => by subst e; exact k x M1 hp)
  rw [Nat.zero_add, Nat.zero_add] at h
  exact h
theorem z_cs3v {v1 v2 v3 : zVal} {P : zM → Prop} (hd : zCl Y pc .invokestatic Y' n) (hm : zMs Y' 3) (hc : zCv Y' fr' 0 0 [v1, v2, v3] M P) (hfr : fr' + 1 ≤ fr) (hw : zWd st ≤ 8) (k : ∀ M1, P M1 → zV Y fr cm sm n ls st M1 Q) : zV Y fr cm sm pc ls (v3 :: v2 :: v1 :: st) M Q := by
  have h := z_cs (As := [v1, v2, v3]) (cm' := cm) (sm' := sm) (ls := ls) (Q := Q) hd hm rfl hw hfr hc (fun r M1 ⟨e, hp⟩ => by subst e; exact k M1 hp)
  rw [Nat.zero_add, Nat.zero_add] at h
  exact h
theorem z_ci3v {v1 v2 v3 : zVal} {a : zAd} {P : zM → Prop} (hd : zCl Y pc .invokespecial Y' n) (hm : zMi Y' 3) (hc : zCv Y' fr' 0 0 [zr a, v1, v2, v3] M P) (hfr : fr' + 1 ≤ fr) (hw : zWd st ≤ 8) (k : ∀ M1, P M1 → zV Y fr cm sm n ls st M1 Q) : zV Y fr cm sm pc ls (v3 :: v2 :: v1 :: zr a :: st) M Q := by
  have h := z_ci (As := [v1, v2, v3]) (cm' := cm) (sm' := sm) (ls := ls) (Q := Q) hd hm rfl hw hfr hc (fun r M1 ⟨e, hp⟩ => by subst e; exact k M1 hp)
  rw [Nat.zero_add, Nat.zero_add] at h
  exact h
theorem z_ci3vA {v1 v2 v3 : zVal} {a : zAd} {P : zM → Prop} (hd : zCl Y pc .invokespecial Y' n) (hm : zMi Y' 3) (hc : zCv Y' fr' cm sm [zr a, v1, v2, v3] M P) (hfr : fr' + 1 ≤ fr) (hw : zWd st ≤ 8) (k : ∀ M1, P M1 → zV Y fr cm' sm' n ls st M1 Q) : zV Y fr (cm + cm') (sm + sm') pc ls (v3 :: v2 :: v1 :: zr a :: st) M Q :=
  z_ci (As := [v1, v2, v3]) (cm' := cm') (sm' := sm') (ls := ls) (Q := Q) hd hm rfl hw hfr hc (fun r M1 ⟨e, hp⟩ => by subst e; exact k M1 hp)
theorem z_cv4i {v1 v2 v3 v4 : zVal} {a : zAd} {ci : Nat} {fs : List zVal} {P : Int32 → zM → Prop} (hd : zCl Y pc .invokevirtual Y' n) (hm : zMv Y' ci 4) (hM : M a = some (.inr (ci, fs))) (hc : zCi Y' fr' 0 0 [zr a, v1, v2, v3, v4] M P) (hfr : fr' + 1 ≤ fr) (hw : zWd st ≤ 8) (k : ∀ x M1, P x M1 → zV Y fr cm sm n ls (zi x :: st) M1 Q) : zV Y fr cm sm pc ls (v4 :: v3 :: v2 :: v1 :: zr a :: st) M Q := by
  have h := z_cv (As := [v1, v2, v3, v4]) (cm' := cm) (sm' := sm) (ls := ls) (Q := Q) hd hm hM rfl hw hfr hc (fun r M1 ⟨x, e, hp⟩ => by subst e; exact k x M1 hp)
  rw [Nat.zero_add, Nat.zero_add] at h
  exact h
theorem z_cv4iA {v1 v2 v3 v4 : zVal} {a : zAd} {ci : Nat} {fs : List zVal} {P : Int32 → zM → Prop} (hd : zCl Y pc .invokevirtual Y' n) (hm : zMv Y' ci 4) (hM : M a = some (.inr (ci, fs))) (hc : zCi Y' fr' cm sm [zr a, v1, v2, v3, v4] M P) (hfr : fr' + 1 ≤ fr) (hw : zWd st ≤ 8) (k : ∀ x M1, P x M1 → zV Y fr cm' sm' n ls (zi x :: st) M1 Q) : zV Y fr (cm + cm') (sm + sm') pc ls (v4 :: v3 :: v2 :: v1 :: zr a :: st) M Q :=
  z_cv (As := [v1, v2, v3, v4]) (cm' := cm') (sm' := sm') (ls := ls) (Q := Q) hd hm hM rfl hw hfr hc (fun r M1 ⟨x, e, hp⟩ => by subst e; exact k x M1 hp)
theorem z_cv4v {v1 v2 v3 v4 : zVal} {a : zAd} {ci : Nat} {fs : List zVal} {P : zM → Prop} (hd : zCl Y pc .invokevirtual Y' n) (hm : zMv Y' ci 4) (hM : M a = some (.inr (ci, fs))) (hc : zCv Y' fr' 0 0 [zr a, v1, v2, v3, v4] M P) (hfr : fr' + 1 ≤ fr) (hw : zWd st ≤ 8) (k : ∀ M1, P M1 → zV Y fr cm sm n ls st M1 Q) : zV Y fr cm sm pc ls (v4 :: v3 :: v2 :: v1 :: zr a :: st) M Q := by
  have h := z_cv (As := [v1, v2, v3, v4]) (cm' := cm) (sm' := sm) (ls := ls) (Q := Q) hd hm hM rfl hw hfr hc (fun r M1 ⟨e, hp⟩ => by subst e; exact k M1 hp)
  rw [Nat.zero_add, Nat.zero_add] at h
  exact h
theorem z_ci4v {v1 v2 v3 v4 : zVal} {a : zAd} {P : zM → Prop} (hd : zCl Y pc .invokespecial Y' n) (hm : zMi Y' 4) (hc : zCv Y' fr' 0 0 [zr a, v1, v2, v3, v4] M P) (hfr : fr' + 1 ≤ fr) (hw : zWd st ≤ 8) (k : ∀ M1, P M1 → zV Y fr cm sm n ls st M1 Q) : zV Y fr cm sm pc ls (v4 :: v3 :: v2 :: v1 :: zr a :: st) M Q := by
  have h := z_ci (As := [v1, v2, v3, v4]) (cm' := cm) (sm' := sm) (ls := ls) (Q := Q) hd hm rfl hw hfr hc (fun r M1 ⟨e, hp⟩ => by subst e; exact k M1 hp)
  rw [Nat.zero_add, Nat.zero_add] at h
  exact h
theorem z_ci4vA {v1 v2 v3 v4 : zVal} {a : zAd} {P : zM → Prop} (hd : zCl Y pc .invokespecial Y' n) (hm : zMi Y' 4) (hc : zCv Y' fr' cm sm [zr a, v1, v2, v3, v4] M P) (hfr : fr' + 1 ≤ fr) (hw : zWd st ≤ 8) (k : ∀ M1, P M1 → zV Y fr cm' sm' n ls st M1 Q) : zV Y fr (cm + cm') (sm + sm') pc ls (v4 :: v3 :: v2 :: v1 :: zr a :: st) M Q :=
  z_ci (As := [v1, v2, v3, v4]) (cm' := cm') (sm' := sm') (ls := ls) (Q := Q) hd hm rfl hw hfr hc (fun r M1 ⟨e, hp⟩ => by subst e; exact k M1 hp)
theorem z_cv5i {v1 v2 v3 v4 v5 : zVal} {a : zAd} {ci : Nat} {fs : List zVal} {P : Int32 → zM → Prop} (hd : zCl Y pc .invokevirtual Y' n) (hm : zMv Y' ci 5) (hM : M a = some (.inr (ci, fs))) (hc : zCi Y' fr' 0 0 [zr a, v1, v2, v3, v4, v5] M P) (hfr : fr' + 1 ≤ fr) (hw : zWd st ≤ 8) (k : ∀ x M1, P x M1 → zV Y fr cm sm n ls (zi x :: st) M1 Q) : zV Y fr cm sm pc ls (v5 :: v4 :: v3 :: v2 :: v1 :: zr a :: st) M Q := by
  have h := z_cv (As := [v1, v2, v3, v4, v5]) (cm' := cm) (sm' := sm) (ls := ls) (Q := Q) hd hm hM rfl hw hfr hc (fun r M1 ⟨x, e, hp⟩ => by subst e; exact k x M1 hp)
  rw [Nat.zero_add, Nat.zero_add] at h
  exact h
theorem z_cv5iA {v1 v2 v3 v4 v5 : zVal} {a : zAd} {ci : Nat} {fs : List zVal} {P : Int32 → zM → Prop} (hd : zCl Y pc .invokevirtual Y' n) (hm : zMv Y' ci 5) (hM : M a = some (.inr (ci, fs))) (hc : zCi Y' fr' cm sm [zr a, v1, v2, v3, v4, v5] M P) (hfr : fr' + 1 ≤ fr) (hw : zWd st ≤ 8) (k : ∀ x M1, P x M1 → zV Y fr cm' sm' n ls (zi x :: st) M1 Q) : zV Y fr (cm + cm') (sm + sm') pc ls (v5 :: v4 :: v3 :: v2 :: v1 :: zr a :: st) M Q :=
  z_cv (As := [v1, v2, v3, v4, v5]) (cm' := cm') (sm' := sm') (ls := ls) (Q := Q) hd hm hM rfl hw hfr hc (fun r M1 ⟨x, e, hp⟩ => by subst e; exact k x M1 hp)
theorem z_cv5v {v1 v2 v3 v4 v5 : zVal} {a : zAd} {ci : Nat} {fs : List zVal} {P : zM → Prop} (hd : zCl Y pc .invokevirtual Y' n) (hm : zMv Y' ci 5) (hM : M a = some (.inr (ci, fs))) (hc : zCv Y' fr' 0 0 [zr a, v1, v2, v3, v4, v5] M P) (hfr : fr' + 1 ≤ fr) (hw : zWd st ≤ 8) (k : ∀ M1, P M1 → zV Y fr cm sm n ls st M1 Q) : zV Y fr cm sm pc ls (v5 :: v4 :: v3 :: v2 :: v1 :: zr a :: st) M Q := by
  have h := z_cv (As := [v1, v2, v3, v4, v5]) (cm' := cm) (sm' := sm) (ls := ls) (Q := Q) hd hm hM rfl hw hfr hc (fun r M1 ⟨e, hp⟩ => by subst e; exact k M1 hp)
  rw [Nat.zero_add, Nat.zero_add] at h
  exact h
theorem z_cv5vA {v1 v2 v3 v4 v5 : zVal} {a : zAd} {ci : Nat} {fs : List zVal} {P : zM → Prop} (hd : zCl Y pc .invokevirtual Y' n) (hm : zMv Y' ci 5) (hM : M a = some (.inr (ci, fs))) (hc : zCv Y' fr' cm sm [zr a, v1, v2, v3, v4, v5] M P) (hfr : fr' + 1 ≤ fr) (hw : zWd st ≤ 8) (k : ∀ M1, P M1 → zV Y fr cm' sm' n ls st M1 Q) : zV Y fr (cm + cm') (sm + sm') pc ls (v5 :: v4 :: v3 :: v2 :: v1 :: zr a :: st) M Q :=
  z_cv (As := [v1, v2, v3, v4, v5]) (cm' := cm') (sm' := sm') (ls := ls) (Q := Q) hd hm hM rfl hw hfr hc (fun r M1 ⟨e, hp⟩ => by subst e; exact k M1 hp)
theorem z_ci5v {v1 v2 v3 v4 v5 : zVal} {a : zAd} {P : zM → Prop} (hd : zCl Y pc .invokespecial Y' n) (hm : zMi Y' 5) (hc : zCv Y' fr' 0 0 [zr a, v1, v2, v3, v4, v5] M P) (hfr : fr' + 1 ≤ fr) (hw : zWd st ≤ 8) (k : ∀ M1, P M1 → zV Y fr cm sm n ls st M1 Q) : zV Y fr cm sm pc ls (v5 :: v4 :: v3 :: v2 :: v1 :: zr a :: st) M Q := by
  have h := z_ci (As := [v1, v2, v3, v4, v5]) (cm' := cm) (sm' := sm) (ls := ls) (Q := Q) hd hm rfl hw hfr hc (fun r M1 ⟨e, hp⟩ => by subst e; exact k M1 hp)
  rw [Nat.zero_add, Nat.zero_add] at h
  exact h
theorem z_ci5vA {v1 v2 v3 v4 v5 : zVal} {a : zAd} {P : zM → Prop} (hd : zCl Y pc .invokespecial Y' n) (hm : zMi Y' 5) (hc : zCv Y' fr' cm sm [zr a, v1, v2, v3, v4, v5] M P) (hfr : fr' + 1 ≤ fr) (hw : zWd st ≤ 8) (k : ∀ M1, P M1 → zV Y fr cm' sm' n ls st M1 Q) : zV Y fr (cm + cm') (sm + sm') pc ls (v5 :: v4 :: v3 :: v2 :: v1 :: zr a :: st) M Q :=
  z_ci (As := [v1, v2, v3, v4, v5]) (cm' := cm') (sm' := sm') (ls := ls) (Q := Q) hd hm rfl hw hfr hc (fun r M1 ⟨e, hp⟩ => by subst e; exact k M1 hp)
theorem z_cv6i {v1 v2 v3 v4 v5 v6 : zVal} {a : zAd} {ci : Nat} {fs : List zVal} {P : Int32 → zM → Prop} (hd : zCl Y pc .invokevirtual Y' n) (hm : zMv Y' ci 6) (hM : M a = some (.inr (ci, fs))) (hc : zCi Y' fr' 0 0 [zr a, v1, v2, v3, v4, v5, v6] M P) (hfr : fr' + 1 ≤ fr) (hw : zWd st ≤ 8) (k : ∀ x M1, P x M1 → zV Y fr cm sm n ls (zi x :: st) M1 Q) : zV Y fr cm sm pc ls (v6 :: v5 :: v4 :: v3 :: v2 :: v1 :: zr a :: st) M Q := by
  have h := z_cv (As := [v1, v2, v3, v4, v5, v6]) (cm' := cm) (sm' := sm) (ls := ls) (Q := Q) hd hm hM rfl hw hfr hc (fun r M1 ⟨x, e, hp⟩ => by subst e; exact k x M1 hp)
  rw [Nat.zero_add, Nat.zero_add] at h
  exact h
theorem z_cv6v {v1 v2 v3 v4 v5 v6 : zVal} {a : zAd} {ci : Nat} {fs : List zVal} {P : zM → Prop} (hd : zCl Y pc .invokevirtual Y' n) (hm : zMv Y' ci 6) (hM : M a = some (.inr (ci, fs))) (hc : zCv Y' fr' 0 0 [zr a, v1, v2, v3, v4, v5, v6] M P) (hfr : fr' + 1 ≤ fr) (hw : zWd st ≤ 8) (k : ∀ M1, P M1 → zV Y fr cm sm n ls st M1 Q) : zV Y fr cm sm pc ls (v6 :: v5 :: v4 :: v3 :: v2 :: v1 :: zr a :: st) M Q := by
  have h := z_cv (As := [v1, v2, v3, v4, v5, v6]) (cm' := cm) (sm' := sm) (ls := ls) (Q := Q) hd hm hM rfl hw hfr hc (fun r M1 ⟨e, hp⟩ => by subst e; exact k M1 hp)
  rw [Nat.zero_add, Nat.zero_add] at h
  exact h
theorem z_ci6v {v1 v2 v3 v4 v5 v6 : zVal} {a : zAd} {P : zM → Prop} (hd : zCl Y pc .invokespecial Y' n) (hm : zMi Y' 6) (hc : zCv Y' fr' 0 0 [zr a, v1, v2, v3, v4, v5, v6] M P) (hfr : fr' + 1 ≤ fr) (hw : zWd st ≤ 8) (k : ∀ M1, P M1 → zV Y fr cm sm n ls st M1 Q) : zV Y fr cm sm pc ls (v6 :: v5 :: v4 :: v3 :: v2 :: v1 :: zr a :: st) M Q := by
  have h := z_ci (As := [v1, v2, v3, v4, v5, v6]) (cm' := cm) (sm' := sm) (ls := ls) (Q := Q) hd hm rfl hw hfr hc (fun r M1 ⟨e, hp⟩ => by subst e; exact k M1 hp)
  rw [Nat.zero_add, Nat.zero_add] at h
  exact h
theorem z_ci6vA {v1 v2 v3 v4 v5 v6 : zVal} {a : zAd} {P : zM → Prop} (hd : zCl Y pc .invokespecial Y' n) (hm : zMi Y' 6) (hc : zCv Y' fr' cm sm [zr a, v1, v2, v3, v4, v5, v6] M P) (hfr : fr' + 1 ≤ fr) (hw : zWd st ≤ 8) (k : ∀ M1, P M1 → zV Y fr cm' sm' n ls st M1 Q) : zV Y fr (cm + cm') (sm + sm') pc ls (v6 :: v5 :: v4 :: v3 :: v2 :: v1 :: zr a :: st) M Q :=
  z_ci (As := [v1, v2, v3, v4, v5, v6]) (cm' := cm') (sm' := sm') (ls := ls) (Q := Q) hd hm rfl hw hfr hc (fun r M1 ⟨e, hp⟩ => by subst e; exact k M1 hp)
end ZCC
