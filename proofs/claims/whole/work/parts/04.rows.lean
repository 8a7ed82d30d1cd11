/-- the judgement at a place, out of the judgement at the next, the memory as it was -/
theorem z_pure {Y : zY} {fr cm sm pc pc' : Nat} {ls ls' : zLs} {st st' : List zVal} {M : zM} {Q : Option zVal → zM → Prop} (k : zV Y fr cm sm pc' ls' st' M Q)
    (h : ∀ {G : zG} {p : Program} {l : Launch} {e : Env} {s : State} {m : MethodId} {args : Array Value} {below : List Frame} {meth : Method} {c : Code} {H : Heap} {locs : List Loc} {cells slots : Nat} {θ0 : zAd → Nat} {M0 : zM} {θ : zAd → Nat} {lsA : Array Slot} {R : Room} {Z : State → Prop},
      zPre Y fr cm sm ls st M G p s m args meth c H locs cells slots θ0 M0 θ lsA R → (∀ lsA' : Array Slot, zLr θ M ls' lsA' Y.2.2.1 → okS M st' → W p l e R s m args below meth c H locs cells slots Z (F0 m pc' lsA' (st'.map (zc θ)))) → W p l e R s m args below meth c H locs cells slots Z (F0 m pc lsA (st.map (zc θ)))) : zV Y fr cm sm pc ls st M Q := by
  obtain ⟨r, M', hq, hk⟩ := k
  exact ⟨r, M', hq, fun P => h P (fun lsA' hl hs => hk ⟨P.1, P.2.1, P.2.2.1, P.2.2.2.1, P.2.2.2.2.1, hl, hs⟩)⟩
def zD (Y : zY) (pc len : Nat) (i : Instr) (n : Nat) : Prop := decode Y.2.1 pc = .ok (i, len) ∧ pc + len = n
def zB (Y : zY) (pc : Nat) (i : Int → Instr) (n t : Nat) : Prop := ∃ off, decode Y.2.1 pc = .ok (i off, 3) ∧ pc + 3 = n ∧ (pc : Int) + off = (t : Int)
def zIl (Y : zY) (pc i n : Nat) : Prop := (∃ k : Fin 4, (k : Nat) = i ∧ decode Y.2.1 pc = .ok (.iload_n k, 1) ∧ pc + 1 = n) ∨ (decode Y.2.1 pc = .ok (.iload i, 2) ∧ pc + 2 = n)
def zLl (Y : zY) (pc i n : Nat) : Prop := (∃ k : Fin 4, (k : Nat) = i ∧ decode Y.2.1 pc = .ok (.lload_n k, 1) ∧ pc + 1 = n) ∨ (decode Y.2.1 pc = .ok (.lload i, 2) ∧ pc + 2 = n)
def zAl (Y : zY) (pc i n : Nat) : Prop := (∃ k : Fin 4, (k : Nat) = i ∧ decode Y.2.1 pc = .ok (.aload_n k, 1) ∧ pc + 1 = n) ∨ (decode Y.2.1 pc = .ok (.aload i, 2) ∧ pc + 2 = n)
def zIs (Y : zY) (pc i n : Nat) : Prop := i < Y.2.2.1 ∧ ((∃ k : Fin 4, (k : Nat) = i ∧ decode Y.2.1 pc = .ok (.istore_n k, 1) ∧ pc + 1 = n) ∨ (decode Y.2.1 pc = .ok (.istore i, 2) ∧ pc + 2 = n))
def zLS (Y : zY) (pc i n : Nat) : Prop := i + 1 < Y.2.2.1 ∧ ((∃ k : Fin 4, (k : Nat) = i ∧ decode Y.2.1 pc = .ok (.lstore_n k, 1) ∧ pc + 1 = n) ∨ (decode Y.2.1 pc = .ok (.lstore i, 2) ∧ pc + 2 = n))
def zAs (Y : zY) (pc i n : Nat) : Prop := i < Y.2.2.1 ∧ ((∃ k : Fin 4, (k : Nat) = i ∧ decode Y.2.1 pc = .ok (.astore_n k, 1) ∧ pc + 1 = n) ∨ (decode Y.2.1 pc = .ok (.astore i, 2) ∧ pc + 2 = n))
def zIn (Y : zY) (pc i : Nat) (d : Int32) (n : Nat) : Prop := i < Y.2.2.1 ∧ ∃ k : Int, Int32.ofInt k = d ∧ decode Y.2.1 pc = .ok (.iinc i k, 3) ∧ pc + 3 = n
def zCo (Y : zY) (pc : Nat) (v : Int32) (n : Nat) : Prop := (∃ k : Int, Int32.ofInt k = v ∧ decode Y.2.1 pc = .ok (.iconst k, 1) ∧ pc + 1 = n) ∨ (∃ k : Int, (Int8.ofInt k).toInt32 = v ∧ decode Y.2.1 pc = .ok (.bipush k, 2) ∧ pc + 2 = n) ∨ (∃ k : Int, (Int16.ofInt k).toInt32 = v ∧ decode Y.2.1 pc = .ok (.sipush k, 3) ∧ pc + 3 = n) ∨ (∃ k : Nat, (Cond.constant Y.1.cls k v) ∈ zTW ∧ decode Y.2.1 pc = .ok (.ldc_w k, 3) ∧ pc + 3 = n)
def zCL (Y : zY) (pc : Nat) (v : Int64) (n : Nat) : Prop := (∃ k : Fin 2, Int64.ofNat (k : Nat) = v ∧ decode Y.2.1 pc = .ok (.lconst k, 1) ∧ pc + 1 = n) ∨ (∃ k : Nat, (Cond.constantLong Y.1.cls k v) ∈ zTW ∧ decode Y.2.1 pc = .ok (.ldc2_w k, 3) ∧ pc + 3 = n)
section ZR
variable {Y : zY} {fr cm sm pc n : Nat} {ls : zLs} {st : List zVal} {M : zM} {Q : Option zVal → zM → Prop}
theorem zPre.x {ls : zLs} {st : List zVal} {G : zG} {p : Program} {s : State} {m : MethodId} {args : Array Value} {meth : Method} {c : Code} {H : Heap} {locs : List Loc} {cells slots : Nat} {θ0 : zAd → Nat} {M0 : zM} {θ : zAd → Nat} {lsA : Array Slot} {R : Room} (P : zPre Y fr cm sm ls st M G p s m args meth c H locs cells slots θ0 M0 θ lsA R) : p.tables.exec = Jvm.exec := P.1.1
theorem zPre.b {ls : zLs} {st : List zVal} {G : zG} {p : Program} {s : State} {m : MethodId} {args : Array Value} {meth : Method} {c : Code} {H : Heap} {locs : List Loc} {cells slots : Nat} {θ0 : zAd → Nat} {M0 : zM} {θ : zAd → Nat} {lsA : Array Slot} {R : Room} (P : zPre Y fr cm sm ls st M G p s m args meth c H locs cells slots θ0 M0 θ lsA R) : c.code = Y.2.1 := P.1.2.1
theorem zPre.o {ls : zLs} {st : List zVal} {G : zG} {p : Program} {s : State} {m : MethodId} {args : Array Value} {meth : Method} {c : Code} {H : Heap} {locs : List Loc} {cells slots : Nat} {θ0 : zAd → Nat} {M0 : zM} {θ : zAd → Nat} {lsA : Array Slot} {R : Room} (P : zPre Y fr cm sm ls st M G p s m args meth c H locs cells slots θ0 M0 θ lsA R) : s.vm.findClass Y.1.cls = some m.cls := P.1.2.2.2.2.1
theorem zPre.w {ls : zLs} {st : List zVal} {G : zG} {p : Program} {s : State} {m : MethodId} {args : Array Value} {meth : Method} {c : Code} {H : Heap} {locs : List Loc} {cells slots : Nat} {θ0 : zAd → Nat} {M0 : zM} {θ : zAd → Nat} {lsA : Array Slot} {R : Room} (P : zPre Y fr cm sm ls st M G p s m args meth c H locs cells slots θ0 M0 θ lsA R) : ∀ w ∈ zTW, w.before args s = true := P.1.2.2.2.2.2.2.1
theorem zPre.L {ls : zLs} {st : List zVal} {G : zG} {p : Program} {s : State} {m : MethodId} {args : Array Value} {meth : Method} {c : Code} {H : Heap} {locs : List Loc} {cells slots : Nat} {θ0 : zAd → Nat} {M0 : zM} {θ : zAd → Nat} {lsA : Array Slot} {R : Room} (P : zPre Y fr cm sm ls st M G p s m args meth c H locs cells slots θ0 M0 θ lsA R) : zLr θ M ls lsA Y.2.2.1 := P.2.2.2.2.2.1
theorem zPre.sk {ls : zLs} {st : List zVal} {G : zG} {p : Program} {s : State} {m : MethodId} {args : Array Value} {meth : Method} {c : Code} {H : Heap} {locs : List Loc} {cells slots : Nat} {θ0 : zAd → Nat} {M0 : zM} {θ : zAd → Nat} {lsA : Array Slot} {R : Room} (P : zPre Y fr cm sm ls st M G p s m args meth c H locs cells slots θ0 M0 θ lsA R) : okS M st := P.2.2.2.2.2.2
theorem z_iadd {x y : Int32} (hd : zD Y pc 1 .iadd n) (k : zV Y fr cm sm n ls (zi (x + y) :: st) M Q) : zV Y fr cm sm pc ls (zi y :: zi x :: st) M Q := by
  obtain ⟨hd, rfl⟩ := hd
  exact z_pure k (fun P kk => lv_iadd P.x P.b hd (kk _ P.L (okS.c trivial P.sk.t.t)))
theorem z_isub {x y : Int32} (hd : zD Y pc 1 .isub n) (k : zV Y fr cm sm n ls (zi (x - y) :: st) M Q) : zV Y fr cm sm pc ls (zi y :: zi x :: st) M Q := by
  obtain ⟨hd, rfl⟩ := hd
  exact z_pure k (fun P kk => lv_isub P.x P.b hd (kk _ P.L (okS.c trivial P.sk.t.t)))
theorem z_imul {x y : Int32} (hd : zD Y pc 1 .imul n) (k : zV Y fr cm sm n ls (zi (x * y) :: st) M Q) : zV Y fr cm sm pc ls (zi y :: zi x :: st) M Q := by
  obtain ⟨hd, rfl⟩ := hd
  exact z_pure k (fun P kk => lv_imul P.x P.b hd (kk _ P.L (okS.c trivial P.sk.t.t)))
theorem z_iand {x y : Int32} (hd : zD Y pc 1 .iand n) (k : zV Y fr cm sm n ls (zi (x &&& y) :: st) M Q) : zV Y fr cm sm pc ls (zi y :: zi x :: st) M Q := by
  obtain ⟨hd, rfl⟩ := hd
  exact z_pure k (fun P kk => lv_iand P.x P.b hd (kk _ P.L (okS.c trivial P.sk.t.t)))
theorem z_ior {x y : Int32} (hd : zD Y pc 1 .ior n) (k : zV Y fr cm sm n ls (zi (x ||| y) :: st) M Q) : zV Y fr cm sm pc ls (zi y :: zi x :: st) M Q := by
  obtain ⟨hd, rfl⟩ := hd
  exact z_pure k (fun P kk => lv_ior P.x P.b hd (kk _ P.L (okS.c trivial P.sk.t.t)))
theorem z_ixor {x y : Int32} (hd : zD Y pc 1 .ixor n) (k : zV Y fr cm sm n ls (zi (x ^^^ y) :: st) M Q) : zV Y fr cm sm pc ls (zi y :: zi x :: st) M Q := by
  obtain ⟨hd, rfl⟩ := hd
  exact z_pure k (fun P kk => lv_ixor P.x P.b hd (kk _ P.L (okS.c trivial P.sk.t.t)))
theorem z_ishl {x y : Int32} (hd : zD Y pc 1 .ishl n) (k : zV Y fr cm sm n ls (zi (x <<< (y &&& 31)) :: st) M Q) : zV Y fr cm sm pc ls (zi y :: zi x :: st) M Q := by
  obtain ⟨hd, rfl⟩ := hd
  exact z_pure k (fun P kk => lv_ishl P.x P.b hd (kk _ P.L (okS.c trivial P.sk.t.t)))
theorem z_ishr {x y : Int32} (hd : zD Y pc 1 .ishr n) (k : zV Y fr cm sm n ls (zi (x >>> (y &&& 31)) :: st) M Q) : zV Y fr cm sm pc ls (zi y :: zi x :: st) M Q := by
  obtain ⟨hd, rfl⟩ := hd
  exact z_pure k (fun P kk => lv_ishr P.x P.b hd (kk _ P.L (okS.c trivial P.sk.t.t)))
theorem z_ladd {x y : Int64} (hd : zD Y pc 1 .ladd n) (k : zV Y fr cm sm n ls (zl (x + y) :: st) M Q) : zV Y fr cm sm pc ls (zl y :: zl x :: st) M Q := by
  obtain ⟨hd, rfl⟩ := hd
  exact z_pure k (fun P kk => lv_ladd P.x P.b hd (kk _ P.L (okS.c trivial P.sk.t.t)))
theorem z_lsub {x y : Int64} (hd : zD Y pc 1 .lsub n) (k : zV Y fr cm sm n ls (zl (x - y) :: st) M Q) : zV Y fr cm sm pc ls (zl y :: zl x :: st) M Q := by
  obtain ⟨hd, rfl⟩ := hd
  exact z_pure k (fun P kk => lv_lsub P.x P.b hd (kk _ P.L (okS.c trivial P.sk.t.t)))
theorem z_lmul {x y : Int64} (hd : zD Y pc 1 .lmul n) (k : zV Y fr cm sm n ls (zl (x * y) :: st) M Q) : zV Y fr cm sm pc ls (zl y :: zl x :: st) M Q := by
  obtain ⟨hd, rfl⟩ := hd
  exact z_pure k (fun P kk => lv_lmul P.x P.b hd (kk _ P.L (okS.c trivial P.sk.t.t)))
theorem z_land {x y : Int64} (hd : zD Y pc 1 .land n) (k : zV Y fr cm sm n ls (zl (x &&& y) :: st) M Q) : zV Y fr cm sm pc ls (zl y :: zl x :: st) M Q := by
  obtain ⟨hd, rfl⟩ := hd
  exact z_pure k (fun P kk => lv_land P.x P.b hd (kk _ P.L (okS.c trivial P.sk.t.t)))
theorem z_lor {x y : Int64} (hd : zD Y pc 1 .lor n) (k : zV Y fr cm sm n ls (zl (x ||| y) :: st) M Q) : zV Y fr cm sm pc ls (zl y :: zl x :: st) M Q := by
  obtain ⟨hd, rfl⟩ := hd
  exact z_pure k (fun P kk => lv_lor P.x P.b hd (kk _ P.L (okS.c trivial P.sk.t.t)))
theorem z_idiv {x y : Int32} (hd : zD Y pc 1 .idiv n) (hne : ¬ y = 0) (k : zV Y fr cm sm n ls (zi (x / y) :: st) M Q) : zV Y fr cm sm pc ls (zi y :: zi x :: st) M Q := by
  obtain ⟨hd, rfl⟩ := hd
  exact z_pure k (fun P kk => lv_idiv P.x P.b hd hne (kk _ P.L (okS.c trivial P.sk.t.t)))
theorem z_ldiv {x y : Int64} (hd : zD Y pc 1 .ldiv n) (hne : ¬ y = 0) (k : zV Y fr cm sm n ls (zl (x / y) :: st) M Q) : zV Y fr cm sm pc ls (zl y :: zl x :: st) M Q := by
  obtain ⟨hd, rfl⟩ := hd
  exact z_pure k (fun P kk => lv_ldiv P.x P.b hd hne (kk _ P.L (okS.c trivial P.sk.t.t)))
theorem z_lrem {x y : Int64} (hd : zD Y pc 1 .lrem n) (hne : ¬ y = 0) (k : zV Y fr cm sm n ls (zl (x - x / y * y) :: st) M Q) : zV Y fr cm sm pc ls (zl y :: zl x :: st) M Q := by
  obtain ⟨hd, rfl⟩ := hd
  exact z_pure k (fun P kk => lv_lrem P.x P.b hd hne (kk _ P.L (okS.c trivial P.sk.t.t)))
theorem z_ineg {x : Int32} (hd : zD Y pc 1 .ineg n) (k : zV Y fr cm sm n ls (zi (-x) :: st) M Q) : zV Y fr cm sm pc ls (zi x :: st) M Q := by
  obtain ⟨hd, rfl⟩ := hd
  exact z_pure k (fun P kk => lv_ineg P.x P.b hd (kk _ P.L (okS.c trivial P.sk.t)))
theorem z_i2l {x : Int32} (hd : zD Y pc 1 .i2l n) (k : zV Y fr cm sm n ls (zl (x.toInt64) :: st) M Q) : zV Y fr cm sm pc ls (zi x :: st) M Q := by
  obtain ⟨hd, rfl⟩ := hd
  exact z_pure k (fun P kk => lv_i2l P.x P.b hd rfl (kk _ P.L (okS.c trivial P.sk.t)))
theorem z_l2i {x : Int64} (hd : zD Y pc 1 .l2i n) (k : zV Y fr cm sm n ls (zi (x.toInt32) :: st) M Q) : zV Y fr cm sm pc ls (zl x :: st) M Q := by
  obtain ⟨hd, rfl⟩ := hd
  exact z_pure k (fun P kk => lv_l2i P.x P.b hd rfl (kk _ P.L (okS.c trivial P.sk.t)))
theorem z_i2b {x : Int32} (hd : zD Y pc 1 .i2b n) (k : zV Y fr cm sm n ls (zi (x.toInt8.toInt32) :: st) M Q) : zV Y fr cm sm pc ls (zi x :: st) M Q := by
  obtain ⟨hd, rfl⟩ := hd
  exact z_pure k (fun P kk => lv_i2b P.x P.b hd rfl (kk _ P.L (okS.c trivial P.sk.t)))
theorem z_i2s {x : Int32} (hd : zD Y pc 1 .i2s n) (k : zV Y fr cm sm n ls (zi (x.toInt16.toInt32) :: st) M Q) : zV Y fr cm sm pc ls (zi x :: st) M Q := by
  obtain ⟨hd, rfl⟩ := hd
  exact z_pure k (fun P kk => lv_i2s P.x P.b hd rfl (kk _ P.L (okS.c trivial P.sk.t)))
theorem z_i2c {x : Int32} (hd : zD Y pc 1 .i2c n) (k : zV Y fr cm sm n ls (zi ((x.toUInt32 % 65536).toInt32) :: st) M Q) : zV Y fr cm sm pc ls (zi x :: st) M Q := by
  obtain ⟨hd, rfl⟩ := hd
  exact z_pure k (fun P kk => lv_i2c P.x P.b hd rfl (kk _ P.L (okS.c trivial P.sk.t)))
theorem z_iushr {x y : Int32} (hd : zD Y pc 1 .iushr n) (k : zV Y fr cm sm n ls (zi ((x.toUInt32 >>> (y.toUInt32 &&& Int32.toUInt32 31)).toInt32) :: st) M Q) : zV Y fr cm sm pc ls (zi y :: zi x :: st) M Q := by
  obtain ⟨hd, rfl⟩ := hd
  exact z_pure k (fun P kk => lv_iushr P.x P.b hd rfl (kk _ P.L (okS.c trivial P.sk.t.t)))
theorem z_lshl {x : Int64} {y : Int32} (hd : zD Y pc 1 .lshl n) (k : zV Y fr cm sm n ls (zl (x <<< (y.toInt64 &&& 63)) :: st) M Q) : zV Y fr cm sm pc ls (zi y :: zl x :: st) M Q := by
  obtain ⟨hd, rfl⟩ := hd
  exact z_pure k (fun P kk => lv_lshl P.x P.b hd rfl (kk _ P.L (okS.c trivial P.sk.t.t)))
theorem z_lshr {x : Int64} {y : Int32} (hd : zD Y pc 1 .lshr n) (k : zV Y fr cm sm n ls (zl (x >>> (y.toInt64 &&& 63)) :: st) M Q) : zV Y fr cm sm pc ls (zi y :: zl x :: st) M Q := by
  obtain ⟨hd, rfl⟩ := hd
  exact z_pure k (fun P kk => lv_lshr P.x P.b hd rfl (kk _ P.L (okS.c trivial P.sk.t.t)))
theorem z_lcmp {x y : Int64} (hd : zD Y pc 1 .lcmp n) (k : zV Y fr cm sm n ls (zi (lg_cmp x y) :: st) M Q) : zV Y fr cm sm pc ls (zl y :: zl x :: st) M Q := by
  obtain ⟨hd, rfl⟩ := hd
  exact z_pure k (fun P kk => W.lcmp P.x P.b hd (kk _ P.L (okS.c trivial P.sk.t.t)))
theorem z_co {v : Int32} (hd : zCo Y pc v n) (k : zV Y fr cm sm n ls (zi v :: st) M Q) : zV Y fr cm sm pc ls st M Q := by
  rcases hd with ⟨c0, hv, hd, rfl⟩ | ⟨c0, hv, hd, rfl⟩ | ⟨c0, hv, hd, rfl⟩ | ⟨c0, hv, hd, rfl⟩
  · exact z_pure k (fun P kk => lv_iconst P.x P.b hd hv (kk _ P.L (okS.c trivial P.sk)))
  · exact z_pure k (fun P kk => lv_bipush P.x P.b hd hv (kk _ P.L (okS.c trivial P.sk)))
  · exact z_pure k (fun P kk => lv_sipush P.x P.b hd hv (kk _ P.L (okS.c trivial P.sk)))
  · exact z_pure k (fun P kk => lv_ldcw P.x P.b P.o (P.w _ hv) hd (kk _ P.L (okS.c trivial P.sk)))
theorem z_cl {v : Int64} (hd : zCL Y pc v n) (k : zV Y fr cm sm n ls (zl v :: st) M Q) : zV Y fr cm sm pc ls st M Q := by
  rcases hd with ⟨c0, hv, hd, rfl⟩ | ⟨c0, hv, hd, rfl⟩
  · exact z_pure k (fun P kk => lv_lconst P.x P.b hd hv (kk _ P.L (okS.c trivial P.sk)))
  · exact z_pure k (fun P kk => W.ldc2 P.x P.b P.o (P.w _ hv) rfl hd (kk _ P.L (okS.c trivial P.sk)))
theorem z_null (hd : zD Y pc 1 .aconst_null n) (k : zV Y fr cm sm n ls (zn :: st) M Q) : zV Y fr cm sm pc ls st M Q := by
  obtain ⟨hd, rfl⟩ := hd
  exact z_pure k (fun P kk => lv_null P.x P.b hd (kk _ P.L (okS.c trivial P.sk)))
theorem z_goto {t : Nat} (hd : zB Y pc .goto n t) (k : zV Y fr cm sm t ls st M Q) : zV Y fr cm sm pc ls st M Q := by
  obtain ⟨off, hd, -, ht⟩ := hd
  exact z_pure k (fun P kk => lv_goto P.x P.b hd ht (kk _ P.L P.sk))
theorem z_il {i : Nat} {x : Int32} (hd : zIl Y pc i n) (hl : ls i = some (zi x)) (k : zV Y fr cm sm n ls (zi x :: st) M Q) : zV Y fr cm sm pc ls st M Q := by
  rcases hd with ⟨k0, hi, hd, rfl⟩ | ⟨hd, rfl⟩
  · exact z_pure k (fun P kk => lv_iload_n P.x P.b hd hi (P.L.2.2 _ _ hl).1 (kk _ P.L (okS.c trivial P.sk)))
  · exact z_pure k (fun P kk => lv_iload P.x P.b hd (P.L.2.2 _ _ hl).1 (kk _ P.L (okS.c trivial P.sk)))
theorem z_ll {i : Nat} {x : Int64} (hd : zLl Y pc i n) (hl : ls i = some (zl x)) (k : zV Y fr cm sm n ls (zl x :: st) M Q) : zV Y fr cm sm pc ls st M Q := by
  rcases hd with ⟨k0, hi, hd, rfl⟩ | ⟨hd, rfl⟩
  · exact z_pure k (fun P kk => lv_lload_n P.x P.b hd hi (P.L.2.2 _ _ hl).1 (kk _ P.L (okS.c trivial P.sk)))
  · exact z_pure k (fun P kk => lv_lload P.x P.b hd (P.L.2.2 _ _ hl).1 (kk _ P.L (okS.c trivial P.sk)))
theorem z_al {i : Nat} {x : zAd} (hd : zAl Y pc i n) (hl : ls i = some (zr x)) (k : zV Y fr cm sm n ls (zr x :: st) M Q) : zV Y fr cm sm pc ls st M Q := by
  rcases hd with ⟨k0, hi, hd, rfl⟩ | ⟨hd, rfl⟩
  · exact z_pure k (fun P kk => lv_aload_n P.x P.b hd hi (P.L.2.2 _ _ hl).1 (kk _ P.L (okS.c (P.L.2.2 _ _ hl).2 P.sk)))
  · exact z_pure k (fun P kk => lv_aload P.x P.b hd (P.L.2.2 _ _ hl).1 (kk _ P.L (okS.c (P.L.2.2 _ _ hl).2 P.sk)))
theorem zLr.has {θ : zAd → Nat} {ls : zLs} {lsA : Array Slot} {nL : Nat} (h : zLr θ M ls lsA nL) : lv_has lsA nL [] := ⟨h.1, h.2.1, fun _ q => absurd q List.not_mem_nil⟩
theorem zLr.has1 {θ : zAd → Nat} {ls : zLs} {lsA : Array Slot} {nL : Nat} (h : zLr θ M ls lsA nL) {j : Nat} {w : zVal} (hw : ls j = some w) : lv_has lsA nL [(j, zc θ w)] := ⟨h.1, h.2.1, fun q hq => by
  rw [List.mem_singleton.mp hq]
  exact (h.2.2 j w hw).1⟩
theorem zc_cat2 {θ : zAd → Nat} {v : zVal} (h : (zc θ v).category = 2) : ∃ x, v = zl x := by
  match v, h with
  | .inl x, h => cases h
  | .inr (.inl x), _ => exact ⟨x, rfl⟩
  | .inr (.inr none), h => cases h
  | .inr (.inr (some a)), h => cases h
/-- a store of one slot -/
theorem zLr.st1 {θ : zAd → Nat} {ls : zLs} {lsA ls2 : Array Slot} {nL i : Nat} {v : zVal} (h : zLr θ M ls lsA nL) (hi : i < nL) (hv : okV M v) (hc : (zc θ v).category = 1) (hs : storeLocals lsA i (zc θ v) = some ls2) : zLr θ M (zset ls i v) ls2 nL := by
  obtain ⟨l0, e0, h0⟩ := lv_store1 (v := zc θ v) h.has hi hc
  cases hs.symm.trans e0
  refine ⟨h0.1, h0.2.1, fun j w hj => ?_⟩
  have keep : ∀ w, ls j = some w → j ≠ i → ¬ (j + 1 = i ∧ (zc θ w).category = 2) → ls2[j]? = some (.val (zc θ w)) ∧ okV M w := fun w hw h1 h2 => by
    obtain ⟨l1, e1, q1⟩ := lv_store1 (v := zc θ v) (h.has1 hw) hi hc
    cases hs.symm.trans e1
    refine ⟨?_, (h.2.2 j w hw).2⟩
    refine q1.2.2 (j, zc θ w) (List.mem_cons_of_mem _ (List.mem_filter.mpr ⟨List.mem_singleton.mpr rfl, ?_⟩))
    simp only [Bool.and_eq_true, Bool.not_eq_true', beq_eq_false_iff_ne, ne_eq, Bool.and_eq_false_iff]
    refine ⟨h1, ?_⟩
    by_cases g : j + 1 = i
    · exact Or.inr (fun g2 => h2 ⟨g, g2⟩)
    · exact Or.inl g
  unfold zset at hj
  by_cases q : j = i
  · rw [if_pos q] at hj
    cases hj
    subst q
    exact ⟨h0.2.2 (j, zc θ v) List.mem_cons_self, hv⟩
  · rw [if_neg q] at hj
    by_cases q2 : j + 1 = i
    · rw [if_pos q2] at hj
      split at hj
      · cases hj
      · next z => exact keep w hj q (fun g => by
          obtain ⟨x, hx⟩ := zc_cat2 g.2
          exact z x (by rw [hj, hx]))
    · rw [if_neg q2] at hj
      exact keep w hj q (fun g => q2 g.1)
/-- a store of two -/
theorem zLr.st2 {θ : zAd → Nat} {ls : zLs} {lsA ls2 : Array Slot} {nL i : Nat} {v : zVal} (h : zLr θ M ls lsA nL) (hi : i + 1 < nL) (hv : okV M v) (hc : (zc θ v).category = 2) (hs : storeLocals lsA i (zc θ v) = some ls2) : zLr θ M (zsetL ls i v) ls2 nL := by
  obtain ⟨l0, e0, h0⟩ := lv_store2 (v := zc θ v) h.has hi hc
  cases hs.symm.trans e0
  refine ⟨h0.1, h0.2.1, fun j w hj => ?_⟩
  have keep : ∀ w, ls j = some w → j ≠ i → j ≠ i + 1 → ¬ (j + 1 = i ∧ (zc θ w).category = 2) → ls2[j]? = some (.val (zc θ w)) ∧ okV M w := fun w hw h1 h1' h2 => by
    obtain ⟨l1, e1, q1⟩ := lv_store2 (v := zc θ v) (h.has1 hw) hi hc
    cases hs.symm.trans e1
    refine ⟨?_, (h.2.2 j w hw).2⟩
    refine q1.2.2 (j, zc θ w) (List.mem_cons_of_mem _ (List.mem_filter.mpr ⟨List.mem_singleton.mpr rfl, ?_⟩))
    simp only [Bool.and_eq_true, Bool.not_eq_true', beq_eq_false_iff_ne, ne_eq, Bool.and_eq_false_iff]
    refine ⟨h1, h1', ?_⟩
    by_cases g : j + 1 = i
    · exact Or.inr (fun g2 => h2 ⟨g, g2⟩)
    · exact Or.inl g
  unfold zsetL at hj
  by_cases q : j = i
  · rw [if_pos q] at hj
    cases hj
    subst q
    exact ⟨h0.2.2 (j, zc θ v) List.mem_cons_self, hv⟩
  · rw [if_neg q] at hj
    by_cases q1 : j = i + 1
    · rw [if_pos q1] at hj
      cases hj
    · rw [if_neg q1] at hj
      by_cases q2 : j + 1 = i
      · rw [if_pos q2] at hj
        split at hj
        · cases hj
        · next z => exact keep w hj q q1 (fun g => by
            obtain ⟨x, hx⟩ := zc_cat2 g.2
            exact z x (by rw [hj, hx]))
      · rw [if_neg q2] at hj
        exact keep w hj q q1 (fun g => q2 g.1)
theorem lv_has.any {ls2 : Array Slot} {nL : Nat} {l : List (Nat × Value)} (h : lv_has ls2 nL l) : lv_has ls2 nL l := h
section ZSt
variable {p : Program} {l : Launch} {e : Env} {R : Room} {s : State} {m : MethodId} {args : Array Value} {below : List Frame} {meth : Method} {c : Code} {H : Heap} {locs : List Loc} {cells slots : Nat} {Z : State → Prop} {cc : ByteArray} {lsA : Array Slot} {rest : List Value} {θ : zAd → Nat}
theorem zs_i {i : Nat} {x : Int32} {ls' : zLs} (hexec : p.tables.exec = Jvm.exec) (hb : c.code = cc) (hd : (∃ k : Fin 4, (k : Nat) = i ∧ decode cc pc = .ok (.istore_n k, 1) ∧ pc + 1 = n) ∨ (decode cc pc = .ok (.istore i, 2) ∧ pc + 2 = n)) {nL : Nat} (hL : zLr θ M ls lsA nL) (hi : i < nL)
    (kk : ∀ ls2, zLr θ M (zset ls i (zi x)) ls2 nL → W p l e R s m args below meth c H locs cells slots Z (F0 m n ls2 rest)) : W p l e R s m args below meth c H locs cells slots Z (F0 m pc lsA (.int x :: rest)) := by
  obtain ⟨ls2, e1, -⟩ := lv_store1 (v := .int x) hL.has hi rfl
  have w := kk ls2 (hL.st1 (v := zi x) hi trivial rfl e1)
  rcases hd with ⟨k, hk, hd, rfl⟩ | ⟨hd, rfl⟩
  · subst hk
    intro T hT X
    obtain ⟨t, a, b⟩ := w T hT X
    refine ⟨t, ?_, b⟩
    jvm_step X.here [X.here.top, ↓top_set X.here.top, hexec, hb, hd, e1]
    exact a
  · intro T hT X
    obtain ⟨t, a, b⟩ := w T hT X
    refine ⟨t, ?_, b⟩
    jvm_step X.here [X.here.top, ↓top_set X.here.top, hexec, hb, hd, e1]
    exact a
theorem zs_l {i : Nat} {x : Int64} (hexec : p.tables.exec = Jvm.exec) (hb : c.code = cc) (hd : (∃ k : Fin 4, (k : Nat) = i ∧ decode cc pc = .ok (.lstore_n k, 1) ∧ pc + 1 = n) ∨ (decode cc pc = .ok (.lstore i, 2) ∧ pc + 2 = n)) {nL : Nat} (hL : zLr θ M ls lsA nL) (hi : i + 1 < nL)
    (kk : ∀ ls2, zLr θ M (zsetL ls i (zl x)) ls2 nL → W p l e R s m args below meth c H locs cells slots Z (F0 m n ls2 rest)) : W p l e R s m args below meth c H locs cells slots Z (F0 m pc lsA (.long x :: rest)) := by
  obtain ⟨ls2, e1, -⟩ := lv_store2 (v := .long x) hL.has hi rfl
  have w := kk ls2 (hL.st2 (v := zl x) hi trivial rfl e1)
  rcases hd with ⟨k, hk, hd, rfl⟩ | ⟨hd, rfl⟩
  · subst hk
    intro T hT X
    obtain ⟨t, a, b⟩ := w T hT X
    refine ⟨t, ?_, b⟩
    jvm_step X.here [X.here.top, ↓top_set X.here.top, hexec, hb, hd, e1]
    exact a
  · intro T hT X
    obtain ⟨t, a, b⟩ := w T hT X
    refine ⟨t, ?_, b⟩
    jvm_step X.here [X.here.top, ↓top_set X.here.top, hexec, hb, hd, e1]
    exact a
theorem zs_a {i : Nat} {v : zVal} (hv0 : zc θ v = .null ∨ ∃ a, zc θ v = .ref a) (hok : okV M v) (hexec : p.tables.exec = Jvm.exec) (hb : c.code = cc) (hd : (∃ k : Fin 4, (k : Nat) = i ∧ decode cc pc = .ok (.astore_n k, 1) ∧ pc + 1 = n) ∨ (decode cc pc = .ok (.astore i, 2) ∧ pc + 2 = n)) {nL : Nat} (hL : zLr θ M ls lsA nL) (hi : i < nL)
    (kk : ∀ ls2, zLr θ M (zset ls i v) ls2 nL → W p l e R s m args below meth c H locs cells slots Z (F0 m n ls2 rest)) : W p l e R s m args below meth c H locs cells slots Z (F0 m pc lsA (zc θ v :: rest)) := by
  have hc : (zc θ v).category = 1 := by rcases hv0 with h | ⟨a, h⟩ <;> rw [h] <;> rfl
  obtain ⟨ls2, e1, -⟩ := lv_store1 (v := zc θ v) hL.has hi hc
  have w := kk ls2 (hL.st1 (v := v) hi hok hc e1)
  rcases hv0 with h | ⟨a0, h⟩ <;> rw [h] at e1 ⊢ <;> rcases hd with ⟨k, hk, hd, rfl⟩ | ⟨hd, rfl⟩
  · subst hk
    intro T hT X
    obtain ⟨t, a, b⟩ := w T hT X
    refine ⟨t, ?_, b⟩
    jvm_step X.here [X.here.top, ↓top_set X.here.top, hexec, hb, hd, e1, Value.isRef]
    exact a
  · intro T hT X
    obtain ⟨t, a, b⟩ := w T hT X
    refine ⟨t, ?_, b⟩
    jvm_step X.here [X.here.top, ↓top_set X.here.top, hexec, hb, hd, e1, Value.isRef]
    exact a
  · subst hk
    intro T hT X
    obtain ⟨t, a, b⟩ := w T hT X
    refine ⟨t, ?_, b⟩
    jvm_step X.here [X.here.top, ↓top_set X.here.top, hexec, hb, hd, e1, Value.isRef]
    exact a
  · intro T hT X
    obtain ⟨t, a, b⟩ := w T hT X
    refine ⟨t, ?_, b⟩
    jvm_step X.here [X.here.top, ↓top_set X.here.top, hexec, hb, hd, e1, Value.isRef]
    exact a
theorem zs_inc {i : Nat} {x : Int32} {k : Int} (hexec : p.tables.exec = Jvm.exec) (hb : c.code = cc) (hd : decode cc pc = .ok (.iinc i k, 3)) {nL : Nat} (hL : zLr θ M ls lsA nL) (hx : ls i = some (zi x)) (hi : i < nL)
    (kk : ∀ ls2, zLr θ M (zset ls i (zi (x + Int32.ofInt k))) ls2 nL → W p l e R s m args below meth c H locs cells slots Z (F0 m (pc + 3) ls2 rest)) : W p l e R s m args below meth c H locs cells slots Z (F0 m pc lsA rest) := by
  obtain ⟨ls2, e1, -⟩ := lv_store1 (v := .int (x + Int32.ofInt k)) hL.has hi rfl
  have w := kk ls2 (hL.st1 (v := zi (x + Int32.ofInt k)) hi trivial rfl e1)
  have hg : lsA[i]? = some (.val (.int x)) := (hL.2.2 _ _ hx).1
  intro T hT X
  obtain ⟨t, a, b⟩ := w T hT X
  refine ⟨t, ?_, b⟩
  jvm_step X.here [X.here.top, ↓top_set X.here.top, hexec, hb, hd, hg, e1]
  exact a
end ZSt
theorem z_is {i : Nat} {x : Int32} (hd : zIs Y pc i n) (k : zV Y fr cm sm n (zset ls i (zi x)) st M Q) : zV Y fr cm sm pc ls (zi x :: st) M Q :=
  z_pure k (fun P kk => zs_i (ls' := ls) P.x P.b hd.2 P.L hd.1 (fun ls2 h2 => kk ls2 h2 P.sk.t))
theorem z_ls {i : Nat} {x : Int64} (hd : zLS Y pc i n) (k : zV Y fr cm sm n (zsetL ls i (zl x)) st M Q) : zV Y fr cm sm pc ls (zl x :: st) M Q :=
  z_pure k (fun P kk => zs_l P.x P.b hd.2 P.L hd.1 (fun ls2 h2 => kk ls2 h2 P.sk.t))
theorem z_as {i : Nat} {x : Option zAd} (hd : zAs Y pc i n) (k : zV Y fr cm sm n (zset ls i (.inr (.inr x))) st M Q) : zV Y fr cm sm pc ls (.inr (.inr x) :: st) M Q :=
  z_pure k (fun P kk => zs_a (v := .inr (.inr x)) (by cases x; exact Or.inl rfl; exact Or.inr ⟨_, rfl⟩) P.sk.h P.x P.b hd.2 P.L hd.1 (fun ls2 h2 => kk ls2 h2 P.sk.t))
theorem z_in {i : Nat} {x d : Int32} (hd : zIn Y pc i d n) (hx : ls i = some (zi x)) (k : zV Y fr cm sm n (zset ls i (zi (x + d))) st M Q) : zV Y fr cm sm pc ls st M Q := by
  obtain ⟨hi, k0, rfl, hd, rfl⟩ := hd
  exact z_pure k (fun P kk => zs_inc P.x P.b hd P.L hx hi (fun ls2 h2 => kk ls2 h2 P.sk))
theorem z_dup_i {x : Int32} (hd : zD Y pc 1 .dup n) (k : zV Y fr cm sm n ls (zi x :: zi x :: st) M Q) : zV Y fr cm sm pc ls (zi x :: st) M Q := by
  obtain ⟨hd, rfl⟩ := hd
  exact z_pure k (fun P kk => lv_dup P.x P.b hd rfl (kk _ P.L (okS.c P.sk.h P.sk)))
theorem z_dup {x : Option zAd} (hd : zD Y pc 1 .dup n) (k : zV Y fr cm sm n ls (.inr (.inr x) :: .inr (.inr x) :: st) M Q) : zV Y fr cm sm pc ls (.inr (.inr x) :: st) M Q := by
  obtain ⟨hd, rfl⟩ := hd
  exact z_pure k (fun P kk => lv_dup P.x P.b hd (by cases x <;> rfl) (kk _ P.L (okS.c P.sk.h P.sk)))
theorem z_dup2 {x : Int32} {a : zAd} (hd : zD Y pc 1 .dup2 n) (k : zV Y fr cm sm n ls (zi x :: zr a :: zi x :: zr a :: st) M Q) : zV Y fr cm sm pc ls (zi x :: zr a :: st) M Q := by
  obtain ⟨hd, rfl⟩ := hd
  exact z_pure k (fun P kk => lv_dup2_11 P.x P.b hd rfl rfl (kk _ P.L (okS.c P.sk.h (okS.c P.sk.t.h P.sk))))
theorem z_pop_i {x : Int32} (hd : zD Y pc 1 .pop n) (k : zV Y fr cm sm n ls st M Q) : zV Y fr cm sm pc ls (zi x :: st) M Q := by
  obtain ⟨hd, rfl⟩ := hd
  exact z_pure k (fun P kk => lv_pop P.x P.b hd rfl (kk _ P.L P.sk.t))
theorem z_if_eq {x : Int32} {t : Nat} (hd : zB Y pc (.ifCond .eq) n t) (kt : x = 0 → zV Y fr cm sm t ls st M Q) (kf : ¬ x = 0 → zV Y fr cm sm n ls st M Q) : zV Y fr cm sm pc ls (zi x :: st) M Q := by
  obtain ⟨off, hd, rfl, ht⟩ := hd
  by_cases h : x = 0
  · exact z_pure (kt h) (fun P kk => lv_if_eq P.x P.b hd ht (fun _ => kk _ P.L P.sk.t) (fun q => absurd h q))
  · exact z_pure (kf h) (fun P kk => lv_if_eq P.x P.b hd ht (fun q => absurd q h) (fun _ => kk _ P.L P.sk.t))
theorem z_icmp_eq {x y : Int32} {t : Nat} (hd : zB Y pc (.if_icmp .eq) n t) (kt : x = y → zV Y fr cm sm t ls st M Q) (kf : ¬ x = y → zV Y fr cm sm n ls st M Q) : zV Y fr cm sm pc ls (zi y :: zi x :: st) M Q := by
  obtain ⟨off, hd, rfl, ht⟩ := hd
  by_cases h : x = y
  · exact z_pure (kt h) (fun P kk => lv_icmp_eq P.x P.b hd ht (fun _ => kk _ P.L P.sk.t.t) (fun q => absurd h q))
  · exact z_pure (kf h) (fun P kk => lv_icmp_eq P.x P.b hd ht (fun q => absurd q h) (fun _ => kk _ P.L P.sk.t.t))
theorem z_if_ne {x : Int32} {t : Nat} (hd : zB Y pc (.ifCond .ne) n t) (kt : ¬ x = 0 → zV Y fr cm sm t ls st M Q) (kf : x = 0 → zV Y fr cm sm n ls st M Q) : zV Y fr cm sm pc ls (zi x :: st) M Q := by
  obtain ⟨off, hd, rfl, ht⟩ := hd
  by_cases h : x = 0
  · exact z_pure (kf h) (fun P kk => lv_if_ne P.x P.b hd ht (fun q => absurd h q) (fun _ => kk _ P.L P.sk.t))
  · exact z_pure (kt h) (fun P kk => lv_if_ne P.x P.b hd ht (fun _ => kk _ P.L P.sk.t) (fun q => absurd q h))
theorem z_icmp_ne {x y : Int32} {t : Nat} (hd : zB Y pc (.if_icmp .ne) n t) (kt : ¬ x = y → zV Y fr cm sm t ls st M Q) (kf : x = y → zV Y fr cm sm n ls st M Q) : zV Y fr cm sm pc ls (zi y :: zi x :: st) M Q := by
  obtain ⟨off, hd, rfl, ht⟩ := hd
  by_cases h : x = y
  · exact z_pure (kf h) (fun P kk => lv_icmp_ne P.x P.b hd ht (fun q => absurd h q) (fun _ => kk _ P.L P.sk.t.t))
  · exact z_pure (kt h) (fun P kk => lv_icmp_ne P.x P.b hd ht (fun _ => kk _ P.L P.sk.t.t) (fun q => absurd q h))
theorem z_if_lt {x : Int32} {t : Nat} (hd : zB Y pc (.ifCond .lt) n t) (kt : x < 0 → zV Y fr cm sm t ls st M Q) (kf : ¬ x < 0 → zV Y fr cm sm n ls st M Q) : zV Y fr cm sm pc ls (zi x :: st) M Q := by
  obtain ⟨off, hd, rfl, ht⟩ := hd
  by_cases h : x < 0
  · exact z_pure (kt h) (fun P kk => lv_if_lt P.x P.b hd ht (fun _ => kk _ P.L P.sk.t) (fun q => absurd h q))
  · exact z_pure (kf h) (fun P kk => lv_if_lt P.x P.b hd ht (fun q => absurd q h) (fun _ => kk _ P.L P.sk.t))
theorem z_icmp_lt {x y : Int32} {t : Nat} (hd : zB Y pc (.if_icmp .lt) n t) (kt : x < y → zV Y fr cm sm t ls st M Q) (kf : ¬ x < y → zV Y fr cm sm n ls st M Q) : zV Y fr cm sm pc ls (zi y :: zi x :: st) M Q := by
  obtain ⟨off, hd, rfl, ht⟩ := hd
  by_cases h : x < y
  · exact z_pure (kt h) (fun P kk => lv_icmp_lt P.x P.b hd ht (fun _ => kk _ P.L P.sk.t.t) (fun q => absurd h q))
  · exact z_pure (kf h) (fun P kk => lv_icmp_lt P.x P.b hd ht (fun q => absurd q h) (fun _ => kk _ P.L P.sk.t.t))
theorem z_if_ge {x : Int32} {t : Nat} (hd : zB Y pc (.ifCond .ge) n t) (kt : 0 ≤ x → zV Y fr cm sm t ls st M Q) (kf : ¬ 0 ≤ x → zV Y fr cm sm n ls st M Q) : zV Y fr cm sm pc ls (zi x :: st) M Q := by
  obtain ⟨off, hd, rfl, ht⟩ := hd
  by_cases h : 0 ≤ x
  · exact z_pure (kt h) (fun P kk => lv_if_ge P.x P.b hd ht (fun _ => kk _ P.L P.sk.t) (fun q => absurd h q))
  · exact z_pure (kf h) (fun P kk => lv_if_ge P.x P.b hd ht (fun q => absurd q h) (fun _ => kk _ P.L P.sk.t))
theorem z_icmp_ge {x y : Int32} {t : Nat} (hd : zB Y pc (.if_icmp .ge) n t) (kt : y ≤ x → zV Y fr cm sm t ls st M Q) (kf : ¬ y ≤ x → zV Y fr cm sm n ls st M Q) : zV Y fr cm sm pc ls (zi y :: zi x :: st) M Q := by
  obtain ⟨off, hd, rfl, ht⟩ := hd
  by_cases h : y ≤ x
  · exact z_pure (kt h) (fun P kk => lv_icmp_ge P.x P.b hd ht (fun _ => kk _ P.L P.sk.t.t) (fun q => absurd h q))
  · exact z_pure (kf h) (fun P kk => lv_icmp_ge P.x P.b hd ht (fun q => absurd q h) (fun _ => kk _ P.L P.sk.t.t))
theorem z_if_gt {x : Int32} {t : Nat} (hd : zB Y pc (.ifCond .gt) n t) (kt : 0 < x → zV Y fr cm sm t ls st M Q) (kf : ¬ 0 < x → zV Y fr cm sm n ls st M Q) : zV Y fr cm sm pc ls (zi x :: st) M Q := by
  obtain ⟨off, hd, rfl, ht⟩ := hd
  by_cases h : 0 < x
  · exact z_pure (kt h) (fun P kk => lv_if_gt P.x P.b hd ht (fun _ => kk _ P.L P.sk.t) (fun q => absurd h q))
  · exact z_pure (kf h) (fun P kk => lv_if_gt P.x P.b hd ht (fun q => absurd q h) (fun _ => kk _ P.L P.sk.t))
theorem z_icmp_gt {x y : Int32} {t : Nat} (hd : zB Y pc (.if_icmp .gt) n t) (kt : y < x → zV Y fr cm sm t ls st M Q) (kf : ¬ y < x → zV Y fr cm sm n ls st M Q) : zV Y fr cm sm pc ls (zi y :: zi x :: st) M Q := by
  obtain ⟨off, hd, rfl, ht⟩ := hd
  by_cases h : y < x
  · exact z_pure (kt h) (fun P kk => lv_icmp_gt P.x P.b hd ht (fun _ => kk _ P.L P.sk.t.t) (fun q => absurd h q))
  · exact z_pure (kf h) (fun P kk => lv_icmp_gt P.x P.b hd ht (fun q => absurd q h) (fun _ => kk _ P.L P.sk.t.t))
theorem z_if_le {x : Int32} {t : Nat} (hd : zB Y pc (.ifCond .le) n t) (kt : x ≤ 0 → zV Y fr cm sm t ls st M Q) (kf : ¬ x ≤ 0 → zV Y fr cm sm n ls st M Q) : zV Y fr cm sm pc ls (zi x :: st) M Q := by
  obtain ⟨off, hd, rfl, ht⟩ := hd
  by_cases h : x ≤ 0
  · exact z_pure (kt h) (fun P kk => lv_if_le P.x P.b hd ht (fun _ => kk _ P.L P.sk.t) (fun q => absurd h q))
  · exact z_pure (kf h) (fun P kk => lv_if_le P.x P.b hd ht (fun q => absurd q h) (fun _ => kk _ P.L P.sk.t))
theorem z_icmp_le {x y : Int32} {t : Nat} (hd : zB Y pc (.if_icmp .le) n t) (kt : x ≤ y → zV Y fr cm sm t ls st M Q) (kf : ¬ x ≤ y → zV Y fr cm sm n ls st M Q) : zV Y fr cm sm pc ls (zi y :: zi x :: st) M Q := by
  obtain ⟨off, hd, rfl, ht⟩ := hd
  by_cases h : x ≤ y
  · exact z_pure (kt h) (fun P kk => lv_icmp_le P.x P.b hd ht (fun _ => kk _ P.L P.sk.t.t) (fun q => absurd h q))
  · exact z_pure (kf h) (fun P kk => lv_icmp_le P.x P.b hd ht (fun q => absurd q h) (fun _ => kk _ P.L P.sk.t.t))
theorem z_ifnull {x : Option zAd} {t : Nat} (hd : zB Y pc .ifnull n t) (kt : x = none → zV Y fr cm sm t ls st M Q) (kf : ∀ a, x = some a → zV Y fr cm sm n ls st M Q) : zV Y fr cm sm pc ls (.inr (.inr x) :: st) M Q := by
  obtain ⟨off, hd, rfl, ht⟩ := hd
  cases x with
  | none => exact z_pure (kt rfl) (fun P kk => lv_ifnullN P.x P.b hd ht (kk _ P.L P.sk.t))
  | some a => exact z_pure (kf a rfl) (fun P kk => lv_ifnull P.x P.b hd (kk _ P.L P.sk.t))
theorem z_ifnonnull {x : Option zAd} {t : Nat} (hd : zB Y pc .ifnonnull n t) (kt : ∀ a, x = some a → zV Y fr cm sm t ls st M Q) (kf : x = none → zV Y fr cm sm n ls st M Q) : zV Y fr cm sm pc ls (.inr (.inr x) :: st) M Q := by
  obtain ⟨off, hd, rfl, ht⟩ := hd
  cases x with
  | none => exact z_pure (kf rfl) (fun P kk => lv_ifnonnullN P.x P.b hd (kk _ P.L P.sk.t))
  | some a => exact z_pure (kt a rfl) (fun P kk => lv_ifnonnull P.x P.b hd ht (kk _ P.L P.sk.t))
def zAll (P : Nat → Nat → Prop) : Nat → List Nat → Prop
  | _, [] => True
  | i, t :: ts => P i t ∧ zAll P (i + 1) ts
theorem zAll.at {P : Nat → Nat → Prop} : ∀ {ts : List Nat} {i : Nat}, zAll P i ts → ∀ j t, ts[j]? = some t → P (i + j) t
  | [], _, _, j, t, h => by simp at h
  | t0 :: ts, i, hh, 0, t, h => by
    simp at h
    subst h
    exact hh.1
  | t0 :: ts, i, hh, j + 1, t, h => by
    rw [List.getElem?_cons_succ] at h
    have := zAll.at hh.2 j t h
    rwa [show i + (j + 1) = i + 1 + j by omega]
def zSw (Y : zY) (pc : Nat) (lo : Int) (ts : List Nat) (td : Nat) : Prop := ∃ (hi : Int) (offs : Array Int) (dflt : Int) (len : Nat), decode Y.2.1 pc = .ok (.tableswitch dflt lo hi offs, len) ∧ hi = lo + ts.length - 1 ∧ (pc : Int) + dflt = (td : Int) ∧ offs.toList = ts.map (fun (t : Nat) => (t : Int) - pc)
theorem z_sw {x : Int32} {lo : Int} {ts : List Nat} {td : Nat} (hd : zSw Y pc lo ts td) (kin : zAll (fun i t => x.toInt = lo + i → zV Y fr cm sm t ls st M Q) 0 ts) (kout : x.toInt < lo ∨ lo + ts.length ≤ x.toInt → zV Y fr cm sm td ls st M Q) : zV Y fr cm sm pc ls (zi x :: st) M Q := by
  obtain ⟨hi, offs, dflt, len, hd, rfl, ht, ho⟩ := hd
  by_cases h : x.toInt < lo ∨ lo + ts.length ≤ x.toInt
  · exact z_pure (kout h) (fun P kk => lv_tableOut P.x P.b hd (by omega) ht (kk _ P.L P.sk.t))
  · have h1 : (x.toInt - lo).toNat < ts.length := by omega
    have h2 := zAll.at kin (x.toInt - lo).toNat ts[(x.toInt - lo).toNat] (List.getElem?_eq_getElem h1)
    have h3 : offs[(x.toInt - lo).toNat]? = some ((ts[(x.toInt - lo).toNat] : Int) - pc) := by
      rw [← Array.getElem?_toList, ho, List.getElem?_map, List.getElem?_eq_getElem h1]
      rfl
    exact z_pure (h2 (by omega)) (fun P kk => lv_tableIn P.x P.b hd (by omega) (by omega) h3 (by omega) (kk _ P.L P.sk.t))
end ZR
/-! the ends -/
section ZE
variable {Y : zY} {fr cm sm pc n : Nat} {ls : zLs} {st : List zVal} {M : zM} {Q : Option zVal → zM → Prop}
theorem zPre.q {st : List zVal} {r : Option zVal} {G : zG} {p : Program} {s : State} {m : MethodId} {args : Array Value} {meth : Method} {c : Code} {H : Heap} {locs : List Loc} {cells slots : Nat} {θ0 : zAd → Nat} {M0 : zM} {θ : zAd → Nat} {lsA : Array Slot} {R : Room} (P : zPre Y fr cm sm ls st M G p s m args meth c H locs cells slots θ0 M0 θ lsA R) (hr : ∀ v, r = some v → okV M v) (t : State) (ht : t.heap = H) : zQc G θ0 M0 r M args s (.returned (r.map (zc θ))) t :=
  ⟨θ, P.2.2.2.1, rfl, by rw [ht]; exact P.2.2.2.2.1, hr, P.2.2.1.F ht⟩
theorem z_iret {x : Int32} (hd : zD Y pc 1 .ireturn n) (hr : Y.2.2.2 = some .int) (hq : Q (some (zi x)) M) : zV Y fr cm sm pc ls [zi x] M Q :=
  ⟨some (zi x), M, hq, fun P => W.widen (Nat.le_add_right _ _) (Nat.le_add_right _ _) (W.iret P.x P.b (P.1.2.2.2.1.trans hr) (fun t ht _ => P.q (fun v hv => by cases hv; trivial) t ht) P.2.2.1.2.2 hd.1 P.1.2.2.2.2.2.2.2.1)⟩
theorem z_zret {x : Int32} {ty : FieldType} (hd : zD Y pc 1 .ireturn n) (hr : Y.2.2.2 = some ty) (hn : narrow ty (.int x) = .int x) (hq : Q (some (zi x)) M) : zV Y fr cm sm pc ls [zi x] M Q :=
  ⟨some (zi x), M, hq, fun P => W.widen (Nat.le_add_right _ _) (Nat.le_add_right _ _) (W.zret P.x P.b (P.1.2.2.2.1.trans hr) hn (fun t ht _ => P.q (fun v hv => by cases hv; trivial) t ht) P.2.2.1.2.2 hd.1 P.1.2.2.2.2.2.2.2.1)⟩
theorem z_lret {x : Int64} (hd : zD Y pc 1 .lreturn n) (hr : Y.2.2.2 = some .long) (hq : Q (some (zl x)) M) : zV Y fr cm sm pc ls [zl x] M Q :=
  ⟨some (zl x), M, hq, fun P => W.widen (Nat.le_add_right _ _) (Nat.le_add_right _ _) (W.lret P.x P.b (P.1.2.2.2.1.trans hr) (fun t ht _ => P.q (fun v hv => by cases hv; trivial) t ht) P.2.2.1.2.2 hd.1 P.1.2.2.2.2.2.2.2.1)⟩
theorem z_vret (hd : zD Y pc 1 .return_ n) (hr : Y.2.2.2 = none) (hq : Q none M) : zV Y fr cm sm pc ls [] M Q :=
  ⟨none, M, hq, fun P => W.widen (Nat.le_add_right _ _) (Nat.le_add_right _ _) (W.vret P.x P.b (P.1.2.2.2.1.trans hr) (fun t ht _ => P.q (r := none) (fun v hv => by cases hv) t ht) P.2.2.1.2.2 hd.1 P.1.2.2.2.2.2.2.2.1)⟩
theorem z_aret {x : Option zAd} {C : String} (hd : zD Y pc 1 .areturn n) (hr : Y.2.2.2 = some (.object C)) (hq : Q (some (.inr (.inr x))) M) : zV Y fr cm sm pc ls [.inr (.inr x)] M Q :=
  ⟨some (.inr (.inr x)), M, hq, fun P => W.widen (Nat.le_add_right _ _) (Nat.le_add_right _ _) (W.aret (v := zc _ (.inr (.inr x))) P.x P.b (P.1.2.2.2.1.trans hr) (Or.inl ⟨C, rfl⟩) (by cases x; exact Or.inl rfl; exact Or.inr ⟨_, rfl⟩) (fun t ht _ => P.q (r := some (.inr (.inr x))) (fun v hv => by cases hv; exact P.sk.h) t ht) P.2.2.1.2.2 hd.1 P.1.2.2.2.2.2.2.2.1)⟩
/-- the locals with which a method begins -/
def zen : List zVal → List (Option zVal)
  | [] => []
  | .inr (.inl x) :: vs => some (.inr (.inl x)) :: none :: zen vs
  | .inl x :: vs => some (.inl x) :: zen vs
  | .inr (.inr x) :: vs => some (.inr (.inr x)) :: zen vs
def zL (L : List (Option zVal)) : zLs := fun i => (L[i]?).getD none
theorem zen_args (θ : zAd → Nat) (i0 : Nat) : ∀ (vs : List zVal) (i : Nat) (v : zVal), (zen vs)[i]? = some (some v) → (i0 + i, zc θ v) ∈ lv_args i0 (vs.map (zc θ)) ∧ v ∈ vs
  | [], i, v, h => by simp [zen] at h
  | .inl x :: vs, 0, v, h => by
    simp [zen] at h
    subst h
    exact ⟨List.mem_cons_self, List.mem_cons_self⟩
  | .inl x :: vs, i + 1, v, h => by
    simp only [zen, List.getElem?_cons_succ] at h
    have := zen_args θ (i0 + 1) vs i v h
    refine ⟨?_, List.mem_cons_of_mem _ this.2⟩
    show _ ∈ (i0, Value.int x) :: lv_args (if (Value.int x).category = 2 then i0 + 2 else i0 + 1) (vs.map (zc θ))
    rw [if_neg (show ¬ (Value.int x).category = 2 from fun q => absurd q (by decide : ¬ (1 : Nat) = 2)), show i0 + (i + 1) = i0 + 1 + i by omega]
    exact List.mem_cons_of_mem _ this.1
  | .inr (.inl x) :: vs, 0, v, h => by
    simp [zen] at h
    subst h
    exact ⟨List.mem_cons_self, List.mem_cons_self⟩
  | .inr (.inl x) :: vs, 1, v, h => by
    simp [zen] at h
  | .inr (.inl x) :: vs, i + 2, v, h => by
    simp only [zen, List.getElem?_cons_succ] at h
    have := zen_args θ (i0 + 2) vs i v h
    refine ⟨?_, List.mem_cons_of_mem _ this.2⟩
    show _ ∈ (i0, Value.long x) :: lv_args (if (Value.long x).category = 2 then i0 + 2 else i0 + 1) (vs.map (zc θ))
    rw [if_pos (show (Value.long x).category = 2 from rfl), show i0 + (i + 2) = i0 + 2 + i by omega]
    exact List.mem_cons_of_mem _ this.1
  | .inr (.inr x) :: vs, 0, v, h => by
    simp [zen] at h
    subst h
    exact ⟨List.mem_cons_self, List.mem_cons_self⟩
  | .inr (.inr x) :: vs, i + 1, v, h => by
    simp only [zen, List.getElem?_cons_succ] at h
    have := zen_args θ (i0 + 1) vs i v h
    refine ⟨?_, List.mem_cons_of_mem _ this.2⟩
    show _ ∈ (i0, zc θ (.inr (.inr x))) :: lv_args (if (zc θ (.inr (.inr x))).category = 2 then i0 + 2 else i0 + 1) (vs.map (zc θ))
    rw [if_neg (by cases x <;> exact (by decide : ¬ (1 = 2))), show i0 + (i + 1) = i0 + 1 + i by omega]
    exact List.mem_cons_of_mem _ this.1
theorem zen_len (θ : zAd → Nat) : ∀ (vs : List zVal), (lg_sl (vs.map (zc θ))).length = (zen vs).length
  | [] => rfl
  | .inl x :: vs => by
    have := zen_len θ vs
    simp only [lg_sl, List.map_cons, List.flatMap_cons, List.length_append, zen, List.length_cons] at this ⊢
    rw [this]
    simp [zc, Value.category]
    omega
  | .inr (.inl x) :: vs => by
    have := zen_len θ vs
    simp only [lg_sl, List.map_cons, List.flatMap_cons, List.length_append, zen, List.length_cons] at this ⊢
    rw [this]
    simp [zc, Value.category]
    omega
  | .inr (.inr x) :: vs => by
    have := zen_len θ vs
    simp only [lg_sl, List.map_cons, List.flatMap_cons, List.length_append, zen, List.length_cons] at this ⊢
    rw [this]
    cases x <;> simp [zc, Value.category] <;> omega
/-- a contract out of a walk from the method's entry -/
theorem z_enter {As : List zVal} {L : List (Option zVal)} (hL : zen As = L) (hpn : plainName Y.1.cls = true) (hn : L.length ≤ Y.2.2.1) (k : zV Y fr cm sm 0 (zL L) [] M Q) : zC Y fr cm sm As M Q := by
  subst hL
  obtain ⟨r, M', hq, hk⟩ := k
  refine ⟨r, M', hq, fun G l θ hAs => ?_⟩
  refine Met.ofW (cc := Y.2.1) (maxL := Y.2.2.1) (ret := Y.2.2.2) hpn rfl ?_
  intro p e s m args below meth c s₁ B hml hv
  obtain ⟨rfl, hK, hS, hR, hb0⟩ := hv
  have hts := atoms_spec (ws := zws Y) B.pre
  rw [lg_entry_eq]
  have hle : (lg_sl (As.map (zc θ))).length ≤ Y.2.2.1 := by rw [zen_len]; exact hn
  have hl := lv_entry (As.map (zc θ)) (n := Y.2.2.1) hle
  have h9 := hk (G := G) (p := p) (l := l) (e := e) (s := s) (m := m) (args := (As.map (zc θ)).toArray) (below := below) (meth := meth) (c := c) (H := s.heap) (locs := []) (cells := 0) (slots := 0) (θ0 := θ) (M0 := M) (θ := θ) (lsA := (lg_sl (As.map (zc θ)) ++ List.replicate (Y.2.2.1 - (lg_sl (As.map (zc θ))).length) Slot.unset).toArray) (R := (headSpec (zws Y) (zRm fr cm sm)).room)
    ⟨⟨B.exec, B.bytes, hml, B.returns, findClass_of_methodNamed B.named, fun h => (name_of_methodNamed B.named B.method).1.trans h, fun w hw => hts w (List.mem_cons_of_mem _ hw), B.notSynchronized, hK, hS, hb0⟩,
      ⟨Nat.le_refl _, Nat.le_refl _, by rw [Nat.zero_add]; exact Nat.le_refl _, by rw [Nat.zero_add]; exact Nat.le_refl _⟩, va_S.rf, zExt.rf, hR, ⟨hl.1, hl.2.1, fun i v hv => ?_⟩, okS.nil⟩
  · rw [Nat.zero_add, Nat.zero_add] at h9
    exact h9
  · have hv2 : (zen As)[i]? = some (some v) := by
      unfold zL at hv
      cases hx : (zen As)[i]? with
      | none => rw [hx] at hv; cases hv
      | some o => rw [hx] at hv; exact congrArg some hv
    obtain ⟨h1, h2⟩ := zen_args θ 0 As i v hv2
    rw [Nat.zero_add] at h1
    exact ⟨hl.2.2 _ h1, hAs v h2⟩
end ZE
