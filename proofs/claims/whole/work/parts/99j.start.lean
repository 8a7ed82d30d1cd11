/-! from the law's entry: the tables' numbers, the literals, the first memory -/
def zTm (i : Nat) : Term := match zStrs[i]? with
  | some q => .string q.1 q.2.1
  | none => .string "" 0
def zFl : List Cond := flatC (Jvm.Cond.and given_1 narrow_1)
/-- x stands in l: a test that the kernel runs -/
def zMem (x : Cond) : List Cond → Bool
  | [] => false
  | c :: l => if x = c then true else zMem x l
theorem zMem_in {x : Cond} : ∀ {l : List Cond}, zMem x l = true → x ∈ l
  | [], h => by cases h
  | c :: l, h => by
    unfold zMem at h
    split at h
    · next q => rw [q]; exact List.mem_cons_self
    · exact List.mem_cons_of_mem _ (zMem_in h)
theorem zf_ex : ∀ i, i < 13 → zMem (Cond.exactly (zTm i) "java/lang/String") zFl = true := by decide +kernel
theorem zf_co : ∀ i, i < 13 → zMem (Cond.eq (.field (zTm i) "java/lang/String" "coder" "B") (.int 0)) zFl = true := by decide +kernel
theorem zf_ar : ∀ i, i < 13 → zMem (Cond.arrayOf (.field (zTm i) "java/lang/String" "value" "[B") .byte) zFl = true := by decide +kernel
theorem zf_le : ∀ i, i < 13 → zMem (Cond.eq (.length (.field (zTm i) "java/lang/String" "value" "[B")) (.int (Int32.ofNat (zLen.getD i 0)))) zFl = true := by decide +kernel
theorem zf_el : ∀ i, i < 13 → ∀ j, j < zLen.getD i 0 → zMem (Cond.eq (.elem (.field (zTm i) "java/lang/String" "value" "[B") (.int (Int32.ofNat j))) (.int ((zByt.getD i []).getD j 0))) zFl = true := by decide +kernel
theorem zf_ne : ∀ i, i < 13 → ∀ j, j < 13 → i ≠ j → (zMem (Cond.not (Cond.eq (zTm i) (zTm j))) zFl || zMem (Cond.not (Cond.eq (zTm j) (zTm i))) zFl) = true := by decide +kernel
theorem zf_cs : zMem (Cond.eq (.static "java/lang/String" "COMPACT_STRINGS" "Z") (.int 1)) zFl = true := by decide +kernel
theorem zf_fm : zMem (Cond.isRef (.static "jdk/internal/util/Preconditions" "SIOOBE_FORMATTER" "Ljava/util/function/BiFunction;")) zFl = true := by decide +kernel
theorem zf_st : ∀ q ∈ zStrs, zMem (Cond.stringRef q.1 q.2.1 q.2.2.1) lw_tbl = true ∧ zTm q.2.2.2 = .string q.1 q.2.1 ∧ q.2.2.2 < 13 := by decide +kernel
theorem zf_nl : ∀ q ∈ zNest, zMem (.methodLinkNest q.1 q.2.1 q.2.2.1 q.2.2.2) lw_tbl = true := by decide +kernel
theorem zf_ao : ∀ C ∈ zAO, zMem (.arrayOver (.object C)) lw_tbl = true := by decide +kernel
theorem zf_aa : zMem (.arrayOver (.array .int)) lw_tbl = true := by decide +kernel
theorem zf_ls : zMem (.laysStatic "java/lang/String" "COMPACT_STRINGS" "Z") lw_tbl = true ∧ zMem (.laysStatic "jdk/internal/util/Preconditions" "SIOOBE_FORMATTER" "Ljava/util/function/BiFunction;") lw_tbl = true ∧ zMem (.initialized "java/lang/String") lw_tbl = true ∧ zMem (.initialized "jdk/internal/util/Preconditions") lw_tbl = true := by decide +kernel
theorem zArr_prim {args : Array Value} {s : State} {ty : FieldType} (h : (Cond.arrayClass ty).before args s = true) (hr : ∀ cA, s.vm.findClass ("[" ++ ty.toString) = some cA → va_RA s cA ty) : ∃ cA, ArrOfT s cA ty ∧ va_RA s cA ty := by
  obtain ⟨c, k, comp, h1, h2, h3⟩ := Cond.arrayClass_spec h
  exact ⟨c, fun n z => ⟨fun q h => (by cases h), k, h2, comp, h3⟩, hr c h1⟩
theorem zArr_obj {args : Array Value} {s : State} {C : String} (h : (Cond.arrayOver (.object C)).before args s = true) : ∃ cA, ArrOfT s cA (.object C) ∧ va_RA s cA (.object C) := by
  obtain ⟨comp, c, k, h1, h2, h3, h4, h5⟩ := Cond.arrayOver_spec h
  exact ⟨c, fun n z => ⟨fun q h => (by cases h), k, h3, comp, h4⟩, k, comp, h3, h4, h1, h5⟩
theorem zArr_arr {args : Array Value} {s : State} (h : (Cond.arrayOver (.array .int)).before args s = true) : ∃ cA, ArrOfT s cA (.array .int) ∧ va_RA s cA (.array .int) := by
  have h9 : (Cond.arrayOver (.array .int)).holds args s none s [] = true := h
  simp only [Cond.holds, Cond.value, beq_iff_eq] at h9
  cases hc : s.vm.findClass (FieldType.array .int).toString with
  | none => simp [hc] at h9
  | some comp =>
    simp only [hc, Option.bind_some, Option.bind_eq_some_iff, Option.map_eq_some_iff] at h9
    obtain ⟨c, hi, k, hk, hb⟩ := h9
    cases hkk : k.kind with
    | array comp2 ty =>
      rw [hkk] at hb
      simp only [Bool.and_eq_true, decide_eq_true_eq] at hb
      obtain ⟨rfl, h2⟩ := hb
      exact ⟨c, fun n z => ⟨fun q h => (by cases h), k, hk, comp2, hkk⟩, h2⟩
    | _ => rw [hkk] at hb; cases hb
theorem zin_0 : Cond.instantiable RX0 13 ∈ zTW := zT2_of (i := 188) rfl rfl
theorem zin_1 : Cond.instantiable RX1 5 ∈ zTW := zT1_of (i := 56) rfl rfl
theorem zin_2 : Cond.instantiable RX2 3 ∈ zTW := zT3_of (i := 174) rfl rfl
theorem zin_3 : Cond.instantiable RX3 5 ∈ zTW := zT1_of (i := 110) rfl rfl
theorem zin_4 : Cond.instantiable RX4 3 ∈ zTW := zT1_of (i := 38) rfl rfl
theorem zin_5 : Cond.instantiable RX5 3 ∈ zTW := zT1_of (i := 162) rfl rfl
theorem zin_6 : Cond.instantiable RX6 2 ∈ zTW := zT1_of (i := 132) rfl rfl
theorem zin_7 : Cond.instantiable RX7 5 ∈ zTW := zT1_of (i := 86) rfl rfl
theorem zin_8 : Cond.instantiable RX8 4 ∈ zTW := zT1_of (i := 144) rfl rfl
theorem zin_9 : Cond.instantiable RX9 8 ∈ zTW := zT3_of (i := 63) rfl rfl
theorem zin_10 : Cond.instantiable RX10 16 ∈ zTW := zT1_of (i := 20) rfl rfl
theorem zin_11 : Cond.instantiable RX11 59 ∈ zTW := zT4_of (i := 134) rfl rfl
theorem zEvI {args : Array Value} {s : State} {t : Term} {x : Int32} (h : (Cond.eq t (.int x)).before args s = true) : t.eval args s none [] s = some (.int x) := by
  have e1 : (Term.int x).eval args s none [] s = some (.int x) := rfl
  cases hv : t.eval args s none [] s with
  | none => simp [Cond.before, Cond.holds, Cond.value, hv, e1] at h
  | some v => cases v <;> simp_all [Cond.before, Cond.holds, Cond.value]
set_option maxRecDepth 20000 in
set_option maxHeartbeats 8000000 in
theorem whole_open {p : Program} {e : Env} {s : State} {m : MethodId} {below : List Frame} {meth : Method} {c : Code} (l : Launch) {b L : Nat} {xs : Nat → Int32} (C0 : lw_At p s m meth c b L xs)
    (HV : ∀ M : zM, zLL L xs M → (∀ a : zAd, 2 ≤ a.1 → M a = none) → zV zL_law 2048 600000 7302250 0 (zL [some (zr (1, 0))]) [] M (fun r _ => r = some (zi 1))) : W p l e room_1 s m #[Value.ref b] below meth c s.heap [] 0 0 (lw_Z below #[Value.ref b] s) (entryFrame m ([Value.ref b] : List Value).toArray 4) := by
  obtain ⟨hx, hb, hr, hml, hown, hts, hX, hbl, hlocks, hgv⟩ := C0
  have htw : ∀ w ∈ zTW, w.before #[Value.ref b] s = true := fun w hw => hts w (List.mem_filter.mp hw).1
  have hfl := flat_of_before _ hgv
  have hA : ∀ a : Nat, a < s.heap.size → ¬ (fun q : Nat => s.heap.size ≤ q) a := fun a h => Nat.not_le.mpr h
  obtain ⟨c0, s0, k0⟩ := u_known (C := RX0) (T := TX0) (N := 13) (n := 13) htw zcf_0.2.1 (htw _ zin_0)
  obtain ⟨c1, s1, k1⟩ := u_known (C := RX1) (T := TX1) (N := 5) (n := 5) htw zcf_1.2.1 (htw _ zin_1)
  obtain ⟨c2, s2, k2⟩ := u_known (C := RX2) (T := TX2) (N := 3) (n := 3) htw zcf_2.2.1 (htw _ zin_2)
  obtain ⟨c3, s3, k3⟩ := u_known (C := RX3) (T := TX3) (N := 5) (n := 5) htw zcf_3.2.1 (htw _ zin_3)
  obtain ⟨c4, s4, k4⟩ := u_known (C := RX4) (T := TX4) (N := 3) (n := 3) htw zcf_4.2.1 (htw _ zin_4)
  obtain ⟨c5, s5, k5⟩ := u_known (C := RX5) (T := TX5) (N := 3) (n := 3) htw zcf_5.2.1 (htw _ zin_5)
  obtain ⟨c6, s6, k6⟩ := u_known (C := RX6) (T := TX6) (N := 2) (n := 2) htw zcf_6.2.1 (htw _ zin_6)
  obtain ⟨c7, s7, k7⟩ := u_known (C := RX7) (T := TX7) (N := 5) (n := 5) htw zcf_7.2.1 (htw _ zin_7)
  obtain ⟨c8, s8, k8⟩ := u_known (C := RX8) (T := TX8) (N := 4) (n := 4) htw zcf_8.2.1 (htw _ zin_8)
  obtain ⟨c9, s9, k9⟩ := u_known (C := RX9) (T := TX9) (N := 8) (n := 8) htw zcf_9.2.1 (htw _ zin_9)
  obtain ⟨c10, s10, k10⟩ := u_known (C := RX10) (T := TX10) (N := 16) (n := 16) htw zcf_10.2.1 (htw _ zin_10)
  obtain ⟨c11, s11, k11⟩ := u_known (C := RX11) (T := TX11) (N := 59) (n := 59) htw zcf_11.2.1 (htw _ zin_11)
  obtain ⟨dC, dI, hKc⟩ : ∃ (dC : Nat → ClassId) (dI : Nat → Nat → Nat), ∀ (k : Nat) (q : vw_C), vwCl[k]? = some q → u_Kn s q.1 q.2.1 q.2.2 (dC k) (dI k) := by
    refine ⟨fun k => if k = 0 then c0 else if k = 1 then c1 else if k = 2 then c2 else if k = 3 then c3 else if k = 4 then c4 else if k = 5 then c5 else if k = 6 then c6 else if k = 7 then c7 else if k = 8 then c8 else if k = 9 then c9 else if k = 10 then c10 else c11, fun k => if k = 0 then s0 else if k = 1 then s1 else if k = 2 then s2 else if k = 3 then s3 else if k = 4 then s4 else if k = 5 then s5 else if k = 6 then s6 else if k = 7 then s7 else if k = 8 then s8 else if k = 9 then s9 else if k = 10 then s10 else s11, ?_⟩
    intro k q hq
    match k, hq with
    | 0, hq => cases hq; exact k0
    | 1, hq => cases hq; exact k1
    | 2, hq => cases hq; exact k2
    | 3, hq => cases hq; exact k3
    | 4, hq => cases hq; exact k4
    | 5, hq => cases hq; exact k5
    | 6, hq => cases hq; exact k6
    | 7, hq => cases hq; exact k7
    | 8, hq => cases hq; exact k8
    | 9, hq => cases hq; exact k9
    | 10, hq => cases hq; exact k10
    | 11, hq => cases hq; exact k11
    | k + 12, hq => simp [vwCl] at hq
  obtain ⟨a0, w0⟩ := zArr_prim (ty := .int) (htw _ zac_int) (fun _ h => h)
  obtain ⟨a1, w1⟩ := zArr_prim (ty := .long) (htw _ zac_long) (fun _ h => h)
  obtain ⟨a2, w2⟩ := zArr_prim (ty := .byte) (htw _ zac_byte) (fun _ h => h)
  obtain ⟨a3, w3⟩ := zArr_prim (ty := .boolean) (htw _ zac_boolean) (fun _ h => h)
  obtain ⟨a4, w4⟩ := zArr_obj (hts _ (zMem_in (zf_ao "ToolCrib$Edge" (by decide))))
  obtain ⟨a5, w5⟩ := zArr_obj (hts _ (zMem_in (zf_ao "ToolCrib$Tool" (by decide))))
  obtain ⟨a6, w6⟩ := zArr_obj (hts _ (zMem_in (zf_ao "ToolCrib$Machine" (by decide))))
  obtain ⟨a7, w7⟩ := zArr_obj (hts _ (zMem_in (zf_ao "ToolCrib$Text" (by decide))))
  obtain ⟨a8, w8⟩ := zArr_obj (hts _ (zMem_in (zf_ao "ToolCrib$Sheet" (by decide))))
  obtain ⟨a9, w9⟩ := zArr_arr (hts _ (zMem_in zf_aa))
  obtain ⟨dA, hKa⟩ : ∃ dA : Nat → ClassId, ∀ (k : Nat) (q : ClassId × FieldType), (zTyL dA)[k]? = some q → ArrOfT s q.1 q.2 ∧ va_RA s q.1 q.2 := by
    refine ⟨fun k => if k = 0 then a0 else if k = 1 then a1 else if k = 2 then a2 else if k = 3 then a3 else if k = 4 then a4 else if k = 5 then a5 else if k = 6 then a6 else if k = 7 then a7 else if k = 8 then a8 else a9, ?_⟩
    intro k q hq
    match k, hq with
    | 0, hq => cases hq; exact w0
    | 1, hq => cases hq; exact w1
    | 2, hq => cases hq; exact w2
    | 3, hq => cases hq; exact w3
    | 4, hq => cases hq; exact w4
    | 5, hq => cases hq; exact w5
    | 6, hq => cases hq; exact w6
    | 7, hq => cases hq; exact w7
    | 8, hq => cases hq; exact w8
    | 9, hq => cases hq; exact w9
    | k + 10, hq => simp [zTyL] at hq
  obtain ⟨adK, adV, hvs, hev⟩ := vk_Sof (args := #[Value.ref b]) (s := s) (N := 13) (tm := zTm) (len := zLen) (byt := zByt) (A := fun q : Nat => s.heap.size ≤ q) (by decide +kernel) (fun i hi => hfl _ (zMem_in (zf_ex i hi))) (fun i hi => hfl _ (zMem_in (zf_co i hi))) (fun i hi => hfl _ (zMem_in (zf_ar i hi))) (fun i hi => hfl _ (zMem_in (zf_le i hi))) (fun i hi j hj => hfl _ (zMem_in (zf_el i hi j hj)))
    (fun i j hi hj hn => by
      have h9 := zf_ne i hi j hj hn
      rw [Bool.or_eq_true] at h9
      exact h9.imp (fun h => hfl _ (zMem_in h)) (fun h => hfl _ (zMem_in h))) hA
  have hcs := hfl _ (zMem_in zf_cs)
  have hev1 := zEvI hcs
  have hZ1 := va_Zof (A := fun q : Nat => s.heap.size ≤ q) (hts _ (zMem_in zf_ls.1)) (hts _ (zMem_in zf_ls.2.2.1)) hev1 hA
  have hZ2 := va_Zqof (A := fun q : Nat => s.heap.size ≤ q) (hts _ (zMem_in zf_ls.2.1)) (hts _ (zMem_in zf_ls.2.2.2)) (hfl _ (zMem_in zf_fm)) hA
  let G : zG := ((dC, dI), dA, s.heap.size, (fun i => if i < 100 then adK i else adV (i - 100)), (b, L, xs))
  have hS : zS G s s.heap := by
    refine ⟨⟨fun i hi => ?_, fun i j hi hj h => ?_⟩, hZ1, hZ2, hX, hbl, Nat.not_le.mpr hbl⟩
    · have h1 := hvs.1 i hi
      have e1 : (if i < 100 then adK i else adV (i - 100)) = adK i := if_pos (by omega)
      have e2 : (if 100 + i < 100 then adK (100 + i) else adV (100 + i - 100)) = adV i := by rw [if_neg (by omega), show 100 + i - 100 = i by omega]
      show va_O "java/lang/String" (if i < 100 then adK i else adV (i - 100)) _ s s.heap ∧ va_OF "java/lang/String" "coder" "B" (.int 0) (if i < 100 then adK i else adV (i - 100)) _ s s.heap ∧ va_OF "java/lang/String" "value" "[B" (.ref (if 100 + i < 100 then adK (100 + i) else adV (100 + i - 100))) (if i < 100 then adK i else adV (i - 100)) _ s s.heap ∧ va_T .byte (if 100 + i < 100 then adK (100 + i) else adV (100 + i - 100)) _ _ _ s s.heap
      rw [e1, e2]
      exact h1
    · have e1 : (if i < 100 then adK i else adV (i - 100)) = adK i := if_pos (by omega)
      have e2 : (if j < 100 then adK j else adV (j - 100)) = adK j := if_pos (by omega)
      have h' : (if i < 100 then adK i else adV (i - 100)) = (if j < 100 then adK j else adV (j - 100)) := h
      rw [e1, e2] at h'
      exact hvs.2 i j hi hj h'
  have hK : zK G s := by
    refine ⟨⟨hKc, hKa⟩, fun q hq => va_Nw.of rfl (hts _ (zMem_in (zf_nl q hq))), fun C hC => va_AO.of (hts _ (zMem_in (zf_ao C hC))), hts _ (zMem_in zf_aa), fun q hq => ?_⟩
    obtain ⟨g1, g2, g3⟩ := zf_st q hq
    have h9 := hev q.2.2.2 g3
    rw [g2] at h9
    show vk_R _ _ _ (if q.2.2.2 < 100 then adK q.2.2.2 else adV (q.2.2.2 - 100)) s
    rw [if_pos (by omega)]
    exact vk_R.of (hts _ (zMem_in g1)) h9
  obtain ⟨r, M', hq, hT⟩ := HV (fun a => if a = (1, 0) then some (.inl (0, L, .inl xs)) else none) (if_pos rfl) (fun a h => if_neg (fun q => by rw [q] at h; exact absurd h (by decide)))
  have hla := lv_entry ([.ref b]) (n := 4) (Nat.le_of_ble_eq_true rfl)
  rw [lg_entry_eq]
  have hXY : zX G zL_law p s m #[Value.ref b] meth c := ⟨hx, hb, hml, hr, hown, fun h => absurd h (by decide), htw, hlocks, hK, hS, Nat.le_refl _⟩
  have h9 := hT (G := G) (p := p) (l := l) (e := e) (s := s) (m := m) (args := #[Value.ref b]) (below := below) (meth := meth) (c := c) (H := s.heap) (locs := []) (cells := 0) (slots := 0) (θ0 := fun a => if a.1 = 0 then G.2.2.2.1 a.2 else b) (M0 := fun a => if a = (1, 0) then some (.inl (0, L, .inl xs)) else none) (θ := fun a => if a.1 = 0 then G.2.2.2.1 a.2 else b) (lsA := (lg_sl ([.ref b]) ++ List.replicate (4 - (lg_sl ([.ref b])).length) Slot.unset).toArray) (R := room_1)
    ⟨hXY, ⟨Nat.le_of_ble_eq_true rfl, Nat.le_of_ble_eq_true rfl, Nat.le_of_ble_eq_true rfl, Nat.le_of_ble_eq_true rfl⟩, va_S.rf, zExt.rf, ⟨fun a e he => ?_, fun a a' h1 h2 _ => ?_, fun i => if_pos rfl⟩, ⟨hla.1, hla.2.1, fun i v hv => ?_⟩, okS.nil⟩
  · intro T hT' X
    obtain ⟨t, st, o, g1, g2, ⟨θ', hE, ho, -⟩, Lc, hF, hL2⟩ := h9 T hT' X
    refine ⟨t, st, o, g1, g2, ?_, ?_⟩
    · subst hq
      exact ho
    · obtain ⟨f1, f2, f3⟩ := hF
      refine ⟨f1, f2, ?_⟩
      have f4 : s.sameButNew { t with vm := s.vm } ([] ++ Lc) (0 + 600000) (0 + 7302250) := f3
      have f5 := f4.drop_fresh hL2
      rwa [Nat.zero_add, Nat.zero_add] at f5
  · have he' : (if a = (1, 0) then some (.inl (0, L, .inl xs)) else none : Option zE) = some e := he
    by_cases q : a = (1, 0)
    · rw [if_pos q] at he'
      cases he'
      subst q
      refine ⟨?_, trivial, fun h => absurd h (by decide)⟩
      unfold zAt
      rw [if_pos rfl]
      exact ⟨rfl, rfl, hbl⟩
    · rw [if_neg q] at he'
      cases he'
  · have hs : ∀ a : zAd, (if a = (1, 0) then some (.inl (0, L, .inl xs)) else none : Option zE) ≠ none → a = (1, 0) := fun a h => by
      by_cases q : a = (1, 0)
      · exact q
      · rw [if_neg q] at h; exact absurd rfl h
    exact (hs a h1).trans (hs a' h2).symm
  · match i, hv with
    | 0, hv =>
      cases hv
      exact ⟨hla.2.2 (0, .ref b) (by simp [lv_args]), Or.inr (show (if ((1, 0) : zAd) = (1, 0) then some (.inl (0, L, .inl xs)) else none : Option zE) ≠ none by rw [if_pos rfl]; exact fun z => by cases z)⟩
    | i + 1, hv => simp [zL] at hv
