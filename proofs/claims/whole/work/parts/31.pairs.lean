/-- the class's call and the model's behind it: both answer alike, and the invariant holds again -/
def zPI (Inv : zM → Prop) (Yx Ym : zY) (cm sm : Nat) (as : List zVal) : Prop := ∀ (fr : Nat) (M : zM), 200 ≤ fr → Inv M → (∃ fs, M (2, 0) = some (.inr (10, fs))) ∧ zCi Yx fr cm sm (zr (2, 0) :: as) M (fun x M1 => (∀ a : zAd, a.1 < 2 → M1 a = M a) ∧ (∃ fs, M1 (40, 0) = some (.inr (11, fs))) ∧ zCi Ym fr 0 0 (zr (40, 0) :: as) M1 (fun x2 M2 => x2 = x ∧ (∀ a : zAd, a.1 < 2 → M2 a = M a) ∧ Inv M2))
def zPJ (Inv : zM → Prop) (Yx Ym : zY) (cm sm : Nat) (as : List zVal) : Prop := ∀ (fr : Nat) (M : zM), 200 ≤ fr → Inv M → (∃ fs, M (2, 0) = some (.inr (10, fs))) ∧ zCj Yx fr cm sm (zr (2, 0) :: as) M (fun x M1 => (∀ a : zAd, a.1 < 2 → M1 a = M a) ∧ (∃ fs, M1 (40, 0) = some (.inr (11, fs))) ∧ zCj Ym fr 0 0 (zr (40, 0) :: as) M1 (fun x2 M2 => x2 = x ∧ (∀ a : zAd, a.1 < 2 → M2 a = M a) ∧ Inv M2))
theorem zPI_of {TR : zTR} {JR : zJR} {Yx Ym : zY} {cm sm : Nat} {as : List zVal} (sp : zSI → zSA → zSL → zRes)
    (hx : ∀ (fr : Nat) (M : zM) (I : zSI) (A : zSA) (L : zSL), 200 ≤ fr → RepX TR JR M I A L → Val I A L → zCi Yx fr cm sm (zr (2, 0) :: as) M (fun x M' => zEX TR JR M x (sp I A L) M'))
    (hm : ∀ (fr : Nat) (M : zM) (I J : zSI) (A : zSA) (L : zSL) (K : Int64), 200 ≤ fr → RepM M I A L J K → Val I A L → zCi Ym fr 0 0 (zr (40, 0) :: as) M (fun x M' => zEM M x (sp I A L) M'))
    (hv : ∀ (I : zSI) (A : zSA) (L : zSL), Val I A L → Val (sp I A L).2.1 (sp I A L).2.2.1 (sp I A L).2.2.2) : zPI (zInv TR JR) Yx Ym cm sm as := by
  intro fr M hf ⟨I, A, L, J, K, hV, hX, hM⟩
  refine ⟨⟨_, hX.1.1⟩, (hx fr M I A L hf hX hV).mono fun x M1 ⟨e1, f1, hX1⟩ => ?_⟩
  have hM1 := hM.frame (M' := M1) (fun a ha => f1 a (Or.inr ha))
  refine ⟨fun a ha => f1 a (Or.inl ha), ⟨_, hM1.1⟩, (hm fr M1 I J A L K hf hM1 hV).mono fun x2 M2 ⟨e2, f2, A', J', K', hA', hM2⟩ => ?_⟩
  exact ⟨e2.trans e1.symm, fun a ha => (f2 a (by omega)).trans (f1 a (Or.inl ha)), _, A', _, J', K', (hv I A L hV).congr hA', (hX1.frame (fun a _ h2 => f2 a h2)).congr hA', hM2⟩
theorem zp_setter {TR : zTR} {JR : zJR} (o d : Int32) : zPI (zInv TR JR) zX10_setter zX11_setter 0 0 [zi o, zi d] :=
  zPI_of (fun I A L => sp_setter I A L o d) (fun _ _ _ _ _ hf hX hV => px_setter (by omega) hX hV o d) (fun _ _ _ _ _ _ _ hf hR hV => pm_setter (by omega) hR hV o d) (fun I A L hV => by
    show Val (sp_setter I A L o d).2.1 (sp_setter I A L o d).2.2.1 (sp_setter I A L o d).2.2.2
    unfold sp_setter
    split <;> exact hV)
theorem zp_calibrate {TR : zTR} {JR : zJR} (m : Int32) : zPI (zInv TR JR) zX10_calibrate zX11_calibrate 0 0 [zi m] :=
  zPI_of (fun I A L => sp_calibrate I A L m) (fun _ _ _ _ _ hf hX hV => px_calibrate (by omega) hX hV m) (fun _ _ _ _ _ _ _ hf hR hV => pm_calibrate (by omega) hR hV m) (fun I A L hV => by
    show Val (sp_calibrate I A L m).2.1 (sp_calibrate I A L m).2.2.1 (sp_calibrate I A L m).2.2.2
    unfold sp_calibrate
    split <;> exact hV)
theorem zp_wear {TR : zTR} {JR : zJR} (e s h : Int32) : zPI (zInv TR JR) zX10_wear zX11_wear 0 0 [zi e, zi s, zi h] :=
  zPI_of (fun I A L => sp_wear I A L e s h) (fun _ _ _ _ _ hf hX hV => px_wear (by omega) hX hV e s h) (fun _ _ _ _ _ _ _ hf hR hV => pm_wear (by omega) hR hV e s h) (fun I A L hV => by
    show Val (sp_wear I A L e s h).2.1 (sp_wear I A L e s h).2.2.1 (sp_wear I A L e s h).2.2.2
    unfold sp_wear
    split <;> exact hV)
theorem zp_edgeTold {TR : zTR} {JR : zJR} (e w : Int32) : zPI (zInv TR JR) zX10_edgeTold zX11_edgeTold 0 0 [zi e, zi w] :=
  zPI_of (fun I A L => sp_edgeTold I A L e w) (fun _ _ _ _ _ hf hX hV => px_edgeTold (by omega) hX hV e w) (fun _ _ _ _ _ _ _ hf hR hV => pm_edgeTold (by omega) hR hV e w) (fun I A L hV => hV)
theorem zp_toolTold {TR : zTR} {JR : zJR} (t w : Int32) : zPI (zInv TR JR) zX10_toolTold zX11_toolTold 0 0 [zi t, zi w] :=
  zPI_of (fun I A L => sp_toolTold I A L t w) (fun _ _ _ _ _ hf hX hV => px_toolTold (by omega) hX hV t w) (fun _ _ _ _ _ _ _ hf hR hV => pm_toolTold (by omega) hR hV t w) (fun I A L hV => hV)
theorem zp_trail {TR : zTR} {JR : zJR} (e i : Int32) : zPI (zInv TR JR) zX10_trail zX11_trail 0 0 [zi e, zi i] :=
  zPI_of (fun I A L => sp_trail I A L e i) (fun _ _ _ _ _ hf hX hV => px_trail (by omega) hX hV e i) (fun _ _ _ _ _ _ _ hf hR hV => pm_trail (by omega) hR hV e i) (fun I A L hV => by
    show Val (sp_trail I A L e i).2.1 (sp_trail I A L e i).2.2.1 (sp_trail I A L e i).2.2.2
    unfold sp_trail
    repeat' split
    all_goals exact hV)
theorem zp_measure {TR : zTR} {JR : zJR} (t : Int32) : zPI (zInv TR JR) zX10_measure zX11_measure 0 0 [zi t] :=
  zPI_of (fun I A L => sp_measure I A L t) (fun _ _ _ _ _ hf hX hV => px_measure (by omega) hX hV t) (fun _ _ _ _ _ _ _ hf hR hV => pm_measure (by omega) hR hV t) (fun I A L hV => by
    show Val (sp_measure I A L t).2.1 (sp_measure I A L t).2.2.1 (sp_measure I A L t).2.2.2
    unfold sp_measure
    split <;> exact hV)
