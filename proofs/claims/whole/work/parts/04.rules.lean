/-! The rules of the clean world, one an instruction. -/
def zl (lv : List (Nat × Value)) (i : Nat) : Option Value := match lv with
  | [] => none
  | q :: t => if q.1 = i then some q.2 else zl t i
theorem zl_ix {lv : List (Nat × Value)} {i : Nat} {v : Value} (h : zl lv i = some v) : ∃ k : Nat, lv[k]? = some (i, v) := by
  induction lv with
  | nil => cases h
  | cons q t ih =>
    unfold zl at h
    split at h
    · rename_i e; cases h; exact ⟨0, by subst e; rfl⟩
    · obtain ⟨k, hk⟩ := ih h; exact ⟨k + 1, hk⟩
theorem zl_at {σ : Nat → Nat} {lv : List (Nat × Value)} {ls : Array Slot} {nL i : Nat} {v : Value} (hl : lv_has ls nL (zL σ lv)) (h : zl lv i = some v) : ls[i]? = some (.val (zv σ v)) := by
  obtain ⟨k, hk⟩ := zl_ix h
  exact zL_at hl k hk
/-- a heap with one cell changed -/
theorem zf_same {h h' : zH} {a : Nat} {c : zC} (e : zu h a c = h') : h' a = c := by rw [← e]; exact zu_same h a c
theorem zf_ne {h h' : zH} {a k : Nat} {c : zC} (e : zu h a c = h') (q : k ≠ a) : h' k = h k := by rw [← e]; exact zu_ne h c q
/-- two heaps alike but at S -/
def zFr (S : List Nat) (h h' : zH) : Prop := ∀ k, k ∉ S → h' k = h k
theorem zFr.rf {S : List Nat} {h : zH} : zFr S h h := fun _ _ => rfl
theorem zFr.put {S : List Nat} {h0 h h' : zH} {a : Nat} {c : zC} (f : zFr S h0 h) (e : zu h a c = h') (m : a ∈ S) : zFr S h0 h' := fun k hk => by
  rw [zf_ne (k := k) e (fun q => hk (by rw [q]; exact m))]; exact f k hk
theorem zFr.tr {S S' : List Nat} {h0 h h' : zH} (f : zFr S h0 h) (g : zFr S' h h') (m : ∀ x ∈ S', x ∈ S) : zFr S h0 h' := fun k hk => by
  rw [g k (fun q => hk (m k q))]; exact f k hk
theorem zFr.mono {S S' : List Nat} {h h' : zH} (g : zFr S' h h') (m : ∀ x ∈ S', x ∈ S) : zFr S h h' := fun k hk => g k (fun q => hk (m k q))
section
variable {X : zX} {Post : zP} {cc : ByteArray} {nL : Nat} {own : String} {ret : Option FieldType} {d MC MS pc : Nat} {lv : List (Nat × Value)} {st : List Value} {h : zH} {n cells slots : Nat}
theorem v_iadd {x : Int32} {y : Int32} (hd : decode cc pc = .ok (.iadd, 1)) (k : zV X Post cc nL own ret d MC MS (pc + 1) lv (.int (x + y) :: st) h n cells slots) : zV X Post cc nL own ret d MC MS pc lv (.int y :: .int x :: st) h n cells slots := by
  obtain ⟨p, l, e, R, s, m, args, below, meth, c, Q, D, A, σ0, n0, G⟩ := X
  intro C hn0 σ cy tys ls H locs h0 hO hl
  exact lv_iadd C.1 C.2.1 hd (k C hn0 σ cy tys ls H locs h0 hO hl)
theorem v_isub {x : Int32} {y : Int32} (hd : decode cc pc = .ok (.isub, 1)) (k : zV X Post cc nL own ret d MC MS (pc + 1) lv (.int (x - y) :: st) h n cells slots) : zV X Post cc nL own ret d MC MS pc lv (.int y :: .int x :: st) h n cells slots := by
  obtain ⟨p, l, e, R, s, m, args, below, meth, c, Q, D, A, σ0, n0, G⟩ := X
  intro C hn0 σ cy tys ls H locs h0 hO hl
  exact lv_isub C.1 C.2.1 hd (k C hn0 σ cy tys ls H locs h0 hO hl)
theorem v_imul {x : Int32} {y : Int32} (hd : decode cc pc = .ok (.imul, 1)) (k : zV X Post cc nL own ret d MC MS (pc + 1) lv (.int (x * y) :: st) h n cells slots) : zV X Post cc nL own ret d MC MS pc lv (.int y :: .int x :: st) h n cells slots := by
  obtain ⟨p, l, e, R, s, m, args, below, meth, c, Q, D, A, σ0, n0, G⟩ := X
  intro C hn0 σ cy tys ls H locs h0 hO hl
  exact lv_imul C.1 C.2.1 hd (k C hn0 σ cy tys ls H locs h0 hO hl)
theorem v_iand {x : Int32} {y : Int32} (hd : decode cc pc = .ok (.iand, 1)) (k : zV X Post cc nL own ret d MC MS (pc + 1) lv (.int (x &&& y) :: st) h n cells slots) : zV X Post cc nL own ret d MC MS pc lv (.int y :: .int x :: st) h n cells slots := by
  obtain ⟨p, l, e, R, s, m, args, below, meth, c, Q, D, A, σ0, n0, G⟩ := X
  intro C hn0 σ cy tys ls H locs h0 hO hl
  exact lv_iand C.1 C.2.1 hd (k C hn0 σ cy tys ls H locs h0 hO hl)
theorem v_ior {x : Int32} {y : Int32} (hd : decode cc pc = .ok (.ior, 1)) (k : zV X Post cc nL own ret d MC MS (pc + 1) lv (.int (x ||| y) :: st) h n cells slots) : zV X Post cc nL own ret d MC MS pc lv (.int y :: .int x :: st) h n cells slots := by
  obtain ⟨p, l, e, R, s, m, args, below, meth, c, Q, D, A, σ0, n0, G⟩ := X
  intro C hn0 σ cy tys ls H locs h0 hO hl
  exact lv_ior C.1 C.2.1 hd (k C hn0 σ cy tys ls H locs h0 hO hl)
theorem v_ixor {x : Int32} {y : Int32} (hd : decode cc pc = .ok (.ixor, 1)) (k : zV X Post cc nL own ret d MC MS (pc + 1) lv (.int (x ^^^ y) :: st) h n cells slots) : zV X Post cc nL own ret d MC MS pc lv (.int y :: .int x :: st) h n cells slots := by
  obtain ⟨p, l, e, R, s, m, args, below, meth, c, Q, D, A, σ0, n0, G⟩ := X
  intro C hn0 σ cy tys ls H locs h0 hO hl
  exact lv_ixor C.1 C.2.1 hd (k C hn0 σ cy tys ls H locs h0 hO hl)
theorem v_ishl {x : Int32} {y : Int32} (hd : decode cc pc = .ok (.ishl, 1)) (k : zV X Post cc nL own ret d MC MS (pc + 1) lv (.int (x <<< (y &&& 31)) :: st) h n cells slots) : zV X Post cc nL own ret d MC MS pc lv (.int y :: .int x :: st) h n cells slots := by
  obtain ⟨p, l, e, R, s, m, args, below, meth, c, Q, D, A, σ0, n0, G⟩ := X
  intro C hn0 σ cy tys ls H locs h0 hO hl
  exact lv_ishl C.1 C.2.1 hd (k C hn0 σ cy tys ls H locs h0 hO hl)
theorem v_ishr {x : Int32} {y : Int32} (hd : decode cc pc = .ok (.ishr, 1)) (k : zV X Post cc nL own ret d MC MS (pc + 1) lv (.int (x >>> (y &&& 31)) :: st) h n cells slots) : zV X Post cc nL own ret d MC MS pc lv (.int y :: .int x :: st) h n cells slots := by
  obtain ⟨p, l, e, R, s, m, args, below, meth, c, Q, D, A, σ0, n0, G⟩ := X
  intro C hn0 σ cy tys ls H locs h0 hO hl
  exact lv_ishr C.1 C.2.1 hd (k C hn0 σ cy tys ls H locs h0 hO hl)
theorem v_ladd {x : Int64} {y : Int64} (hd : decode cc pc = .ok (.ladd, 1)) (k : zV X Post cc nL own ret d MC MS (pc + 1) lv (.long (x + y) :: st) h n cells slots) : zV X Post cc nL own ret d MC MS pc lv (.long y :: .long x :: st) h n cells slots := by
  obtain ⟨p, l, e, R, s, m, args, below, meth, c, Q, D, A, σ0, n0, G⟩ := X
  intro C hn0 σ cy tys ls H locs h0 hO hl
  exact lv_ladd C.1 C.2.1 hd (k C hn0 σ cy tys ls H locs h0 hO hl)
theorem v_lsub {x : Int64} {y : Int64} (hd : decode cc pc = .ok (.lsub, 1)) (k : zV X Post cc nL own ret d MC MS (pc + 1) lv (.long (x - y) :: st) h n cells slots) : zV X Post cc nL own ret d MC MS pc lv (.long y :: .long x :: st) h n cells slots := by
  obtain ⟨p, l, e, R, s, m, args, below, meth, c, Q, D, A, σ0, n0, G⟩ := X
  intro C hn0 σ cy tys ls H locs h0 hO hl
  exact lv_lsub C.1 C.2.1 hd (k C hn0 σ cy tys ls H locs h0 hO hl)
theorem v_lmul {x : Int64} {y : Int64} (hd : decode cc pc = .ok (.lmul, 1)) (k : zV X Post cc nL own ret d MC MS (pc + 1) lv (.long (x * y) :: st) h n cells slots) : zV X Post cc nL own ret d MC MS pc lv (.long y :: .long x :: st) h n cells slots := by
  obtain ⟨p, l, e, R, s, m, args, below, meth, c, Q, D, A, σ0, n0, G⟩ := X
  intro C hn0 σ cy tys ls H locs h0 hO hl
  exact lv_lmul C.1 C.2.1 hd (k C hn0 σ cy tys ls H locs h0 hO hl)
theorem v_land {x : Int64} {y : Int64} (hd : decode cc pc = .ok (.land, 1)) (k : zV X Post cc nL own ret d MC MS (pc + 1) lv (.long (x &&& y) :: st) h n cells slots) : zV X Post cc nL own ret d MC MS pc lv (.long y :: .long x :: st) h n cells slots := by
  obtain ⟨p, l, e, R, s, m, args, below, meth, c, Q, D, A, σ0, n0, G⟩ := X
  intro C hn0 σ cy tys ls H locs h0 hO hl
  exact lv_land C.1 C.2.1 hd (k C hn0 σ cy tys ls H locs h0 hO hl)
theorem v_lor {x : Int64} {y : Int64} (hd : decode cc pc = .ok (.lor, 1)) (k : zV X Post cc nL own ret d MC MS (pc + 1) lv (.long (x ||| y) :: st) h n cells slots) : zV X Post cc nL own ret d MC MS pc lv (.long y :: .long x :: st) h n cells slots := by
  obtain ⟨p, l, e, R, s, m, args, below, meth, c, Q, D, A, σ0, n0, G⟩ := X
  intro C hn0 σ cy tys ls H locs h0 hO hl
  exact lv_lor C.1 C.2.1 hd (k C hn0 σ cy tys ls H locs h0 hO hl)
theorem v_lxor {x : Int64} {y : Int64} (hd : decode cc pc = .ok (.lxor, 1)) (k : zV X Post cc nL own ret d MC MS (pc + 1) lv (.long (x ^^^ y) :: st) h n cells slots) : zV X Post cc nL own ret d MC MS pc lv (.long y :: .long x :: st) h n cells slots := by
  obtain ⟨p, l, e, R, s, m, args, below, meth, c, Q, D, A, σ0, n0, G⟩ := X
  intro C hn0 σ cy tys ls H locs h0 hO hl
  exact lv_lxor C.1 C.2.1 hd (k C hn0 σ cy tys ls H locs h0 hO hl)
theorem v_iushr {x : Int32} {y : Int32} (hd : decode cc pc = .ok (.iushr, 1)) (k : zV X Post cc nL own ret d MC MS (pc + 1) lv (.int ((x.toUInt32 >>> (y.toUInt32 &&& Int32.toUInt32 31)).toInt32) :: st) h n cells slots) : zV X Post cc nL own ret d MC MS pc lv (.int y :: .int x :: st) h n cells slots := by
  obtain ⟨p, l, e, R, s, m, args, below, meth, c, Q, D, A, σ0, n0, G⟩ := X
  intro C hn0 σ cy tys ls H locs h0 hO hl
  exact lv_iushr C.1 C.2.1 hd rfl (k C hn0 σ cy tys ls H locs h0 hO hl)
theorem v_lushr {x : Int64} {y : Int32} (hd : decode cc pc = .ok (.lushr, 1)) (k : zV X Post cc nL own ret d MC MS (pc + 1) lv (.long ((x.toUInt64 >>> (y.toInt64.toUInt64 &&& Int64.toUInt64 63)).toInt64) :: st) h n cells slots) : zV X Post cc nL own ret d MC MS pc lv (.int y :: .long x :: st) h n cells slots := by
  obtain ⟨p, l, e, R, s, m, args, below, meth, c, Q, D, A, σ0, n0, G⟩ := X
  intro C hn0 σ cy tys ls H locs h0 hO hl
  exact lv_lushr C.1 C.2.1 hd rfl (k C hn0 σ cy tys ls H locs h0 hO hl)
theorem v_lshl {x : Int64} {y : Int32} (hd : decode cc pc = .ok (.lshl, 1)) (k : zV X Post cc nL own ret d MC MS (pc + 1) lv (.long (x <<< (y.toInt64 &&& 63)) :: st) h n cells slots) : zV X Post cc nL own ret d MC MS pc lv (.int y :: .long x :: st) h n cells slots := by
  obtain ⟨p, l, e, R, s, m, args, below, meth, c, Q, D, A, σ0, n0, G⟩ := X
  intro C hn0 σ cy tys ls H locs h0 hO hl
  exact lv_lshl C.1 C.2.1 hd rfl (k C hn0 σ cy tys ls H locs h0 hO hl)
theorem v_lshr {x : Int64} {y : Int32} (hd : decode cc pc = .ok (.lshr, 1)) (k : zV X Post cc nL own ret d MC MS (pc + 1) lv (.long (x >>> (y.toInt64 &&& 63)) :: st) h n cells slots) : zV X Post cc nL own ret d MC MS pc lv (.int y :: .long x :: st) h n cells slots := by
  obtain ⟨p, l, e, R, s, m, args, below, meth, c, Q, D, A, σ0, n0, G⟩ := X
  intro C hn0 σ cy tys ls H locs h0 hO hl
  exact lv_lshr C.1 C.2.1 hd rfl (k C hn0 σ cy tys ls H locs h0 hO hl)
theorem v_idiv {x : Int32} {y : Int32} (hd : decode cc pc = .ok (.idiv, 1)) (hne : ¬ y = 0) (k : zV X Post cc nL own ret d MC MS (pc + 1) lv (.int (x / y) :: st) h n cells slots) : zV X Post cc nL own ret d MC MS pc lv (.int y :: .int x :: st) h n cells slots := by
  obtain ⟨p, l, e, R, s, m, args, below, meth, c, Q, D, A, σ0, n0, G⟩ := X
  intro C hn0 σ cy tys ls H locs h0 hO hl
  exact lv_idiv C.1 C.2.1 hd hne (k C hn0 σ cy tys ls H locs h0 hO hl)
theorem v_irem {x : Int32} {y : Int32} (hd : decode cc pc = .ok (.irem, 1)) (hne : ¬ y = 0) (k : zV X Post cc nL own ret d MC MS (pc + 1) lv (.int (x - x / y * y) :: st) h n cells slots) : zV X Post cc nL own ret d MC MS pc lv (.int y :: .int x :: st) h n cells slots := by
  obtain ⟨p, l, e, R, s, m, args, below, meth, c, Q, D, A, σ0, n0, G⟩ := X
  intro C hn0 σ cy tys ls H locs h0 hO hl
  exact lv_irem C.1 C.2.1 hd hne (k C hn0 σ cy tys ls H locs h0 hO hl)
theorem v_ldiv {x : Int64} {y : Int64} (hd : decode cc pc = .ok (.ldiv, 1)) (hne : ¬ y = 0) (k : zV X Post cc nL own ret d MC MS (pc + 1) lv (.long (x / y) :: st) h n cells slots) : zV X Post cc nL own ret d MC MS pc lv (.long y :: .long x :: st) h n cells slots := by
  obtain ⟨p, l, e, R, s, m, args, below, meth, c, Q, D, A, σ0, n0, G⟩ := X
  intro C hn0 σ cy tys ls H locs h0 hO hl
  exact lv_ldiv C.1 C.2.1 hd hne (k C hn0 σ cy tys ls H locs h0 hO hl)
theorem v_lrem {x : Int64} {y : Int64} (hd : decode cc pc = .ok (.lrem, 1)) (hne : ¬ y = 0) (k : zV X Post cc nL own ret d MC MS (pc + 1) lv (.long (x - x / y * y) :: st) h n cells slots) : zV X Post cc nL own ret d MC MS pc lv (.long y :: .long x :: st) h n cells slots := by
  obtain ⟨p, l, e, R, s, m, args, below, meth, c, Q, D, A, σ0, n0, G⟩ := X
  intro C hn0 σ cy tys ls H locs h0 hO hl
  exact lv_lrem C.1 C.2.1 hd hne (k C hn0 σ cy tys ls H locs h0 hO hl)
theorem v_ineg {x : Int32} (hd : decode cc pc = .ok (.ineg, 1)) (k : zV X Post cc nL own ret d MC MS (pc + 1) lv (.int (-x) :: st) h n cells slots) : zV X Post cc nL own ret d MC MS pc lv (.int x :: st) h n cells slots := by
  obtain ⟨p, l, e, R, s, m, args, below, meth, c, Q, D, A, σ0, n0, G⟩ := X
  intro C hn0 σ cy tys ls H locs h0 hO hl
  exact lv_ineg C.1 C.2.1 hd (k C hn0 σ cy tys ls H locs h0 hO hl)
theorem v_lneg {x : Int64} (hd : decode cc pc = .ok (.lneg, 1)) (k : zV X Post cc nL own ret d MC MS (pc + 1) lv (.long (-x) :: st) h n cells slots) : zV X Post cc nL own ret d MC MS pc lv (.long x :: st) h n cells slots := by
  obtain ⟨p, l, e, R, s, m, args, below, meth, c, Q, D, A, σ0, n0, G⟩ := X
  intro C hn0 σ cy tys ls H locs h0 hO hl
  exact lv_lneg C.1 C.2.1 hd (k C hn0 σ cy tys ls H locs h0 hO hl)
theorem v_i2l {x : Int32} (hd : decode cc pc = .ok (.i2l, 1)) (k : zV X Post cc nL own ret d MC MS (pc + 1) lv (.long (x.toInt64) :: st) h n cells slots) : zV X Post cc nL own ret d MC MS pc lv (.int x :: st) h n cells slots := by
  obtain ⟨p, l, e, R, s, m, args, below, meth, c, Q, D, A, σ0, n0, G⟩ := X
  intro C hn0 σ cy tys ls H locs h0 hO hl
  exact lv_i2l C.1 C.2.1 hd rfl (k C hn0 σ cy tys ls H locs h0 hO hl)
theorem v_l2i {x : Int64} (hd : decode cc pc = .ok (.l2i, 1)) (k : zV X Post cc nL own ret d MC MS (pc + 1) lv (.int (x.toInt32) :: st) h n cells slots) : zV X Post cc nL own ret d MC MS pc lv (.long x :: st) h n cells slots := by
  obtain ⟨p, l, e, R, s, m, args, below, meth, c, Q, D, A, σ0, n0, G⟩ := X
  intro C hn0 σ cy tys ls H locs h0 hO hl
  exact lv_l2i C.1 C.2.1 hd rfl (k C hn0 σ cy tys ls H locs h0 hO hl)
theorem v_lcmp {x y : Int64} (hd : decode cc pc = .ok (.lcmp, 1)) (k : zV X Post cc nL own ret d MC MS (pc + 1) lv (.int (lg_cmp x y) :: st) h n cells slots) : zV X Post cc nL own ret d MC MS pc lv (.long y :: .long x :: st) h n cells slots := by
  obtain ⟨p, l, e, R, s, m, args, below, meth, c, Q, D, A, σ0, n0, G⟩ := X
  intro C hn0 σ cy tys ls H locs h0 hO hl
  exact W.lcmp C.1 C.2.1 hd (k C hn0 σ cy tys ls H locs h0 hO hl)
theorem v_iconst {i : Int} (v : Int32) (hd : decode cc pc = .ok (.iconst i, 1)) (hv : Int32.ofInt i = v) (k : zV X Post cc nL own ret d MC MS (pc + 1) lv (.int v :: st) h n cells slots) : zV X Post cc nL own ret d MC MS pc lv st h n cells slots := by
  obtain ⟨p, l, e, R, s, m, args, below, meth, c, Q, D, A, σ0, n0, G⟩ := X
  intro C hn0 σ cy tys ls H locs h0 hO hl
  exact lv_iconst C.1 C.2.1 hd hv (k C hn0 σ cy tys ls H locs h0 hO hl)
theorem v_bipush {i : Int} (v : Int32) (hd : decode cc pc = .ok (.bipush i, 2)) (hv : (Int8.ofInt i).toInt32 = v) (k : zV X Post cc nL own ret d MC MS (pc + 2) lv (.int v :: st) h n cells slots) : zV X Post cc nL own ret d MC MS pc lv st h n cells slots := by
  obtain ⟨p, l, e, R, s, m, args, below, meth, c, Q, D, A, σ0, n0, G⟩ := X
  intro C hn0 σ cy tys ls H locs h0 hO hl
  exact lv_bipush C.1 C.2.1 hd hv (k C hn0 σ cy tys ls H locs h0 hO hl)
theorem v_sipush {i : Int} (v : Int32) (hd : decode cc pc = .ok (.sipush i, 3)) (hv : (Int16.ofInt i).toInt32 = v) (k : zV X Post cc nL own ret d MC MS (pc + 3) lv (.int v :: st) h n cells slots) : zV X Post cc nL own ret d MC MS pc lv st h n cells slots := by
  obtain ⟨p, l, e, R, s, m, args, below, meth, c, Q, D, A, σ0, n0, G⟩ := X
  intro C hn0 σ cy tys ls H locs h0 hO hl
  exact lv_sipush C.1 C.2.1 hd hv (k C hn0 σ cy tys ls H locs h0 hO hl)
theorem v_lconst {i : Fin 2} (v : Int64) (hd : decode cc pc = .ok (.lconst i, 1)) (hv : Int64.ofNat (i : Nat) = v) (k : zV X Post cc nL own ret d MC MS (pc + 1) lv (.long v :: st) h n cells slots) : zV X Post cc nL own ret d MC MS pc lv st h n cells slots := by
  obtain ⟨p, l, e, R, s, m, args, below, meth, c, Q, D, A, σ0, n0, G⟩ := X
  intro C hn0 σ cy tys ls H locs h0 hO hl
  exact lv_lconst C.1 C.2.1 hd hv (k C hn0 σ cy tys ls H locs h0 hO hl)
theorem v_ldc {i : Nat} {v : Int32} (hw : Cond.constant own i v ∈ ALL) (hd : decode cc pc = .ok (.ldc i, 2)) (k : zV X Post cc nL own ret d MC MS (pc + 2) lv (.int v :: st) h n cells slots) : zV X Post cc nL own ret d MC MS pc lv st h n cells slots := by
  obtain ⟨p, l, e, R, s, m, args, below, meth, c, Q, D, A, σ0, n0, G⟩ := X
  intro C hn0 σ cy tys ls H locs h0 hO hl
  exact lv_ldc C.1 C.2.1 C.2.2.2.1 (C.2.2.2.2.1 _ hw) hd (k C hn0 σ cy tys ls H locs h0 hO hl)
theorem v_ldc_w {i : Nat} {v : Int32} (hw : Cond.constant own i v ∈ ALL) (hd : decode cc pc = .ok (.ldc_w i, 3)) (k : zV X Post cc nL own ret d MC MS (pc + 3) lv (.int v :: st) h n cells slots) : zV X Post cc nL own ret d MC MS pc lv st h n cells slots := by
  obtain ⟨p, l, e, R, s, m, args, below, meth, c, Q, D, A, σ0, n0, G⟩ := X
  intro C hn0 σ cy tys ls H locs h0 hO hl
  exact lv_ldcw C.1 C.2.1 C.2.2.2.1 (C.2.2.2.2.1 _ hw) hd (k C hn0 σ cy tys ls H locs h0 hO hl)
theorem v_ldc2_w {i : Nat} {v : Int64} (hw : Cond.constantLong own i v ∈ ALL) (hd : decode cc pc = .ok (.ldc2_w i, 3)) (k : zV X Post cc nL own ret d MC MS (pc + 3) lv (.long v :: st) h n cells slots) : zV X Post cc nL own ret d MC MS pc lv st h n cells slots := by
  obtain ⟨p, l, e, R, s, m, args, below, meth, c, Q, D, A, σ0, n0, G⟩ := X
  intro C hn0 σ cy tys ls H locs h0 hO hl
  exact lv_ldc2 C.1 C.2.1 C.2.2.2.1 (C.2.2.2.2.1 _ hw) hd (k C hn0 σ cy tys ls H locs h0 hO hl)
theorem v_iload_n {i : Fin 4} {x : Int32} (hd : decode cc pc = .ok (.iload_n i, 1)) (hq : zl lv (i : Nat) = some (.int x)) (k : zV X Post cc nL own ret d MC MS (pc + 1) lv (.int x :: st) h n cells slots) : zV X Post cc nL own ret d MC MS pc lv st h n cells slots := by
  obtain ⟨p, l, e, R, s, m, args, below, meth, c, Q, D, A, σ0, n0, G⟩ := X
  intro C hn0 σ cy tys ls H locs h0 hO hl
  exact lv_iload_n C.1 C.2.1 hd rfl (zl_at hl hq) (k C hn0 σ cy tys ls H locs h0 hO hl)
theorem v_iload {i : Nat} {x : Int32} (hd : decode cc pc = .ok (.iload i, 2)) (hq : zl lv i = some (.int x)) (k : zV X Post cc nL own ret d MC MS (pc + 2) lv (.int x :: st) h n cells slots) : zV X Post cc nL own ret d MC MS pc lv st h n cells slots := by
  obtain ⟨p, l, e, R, s, m, args, below, meth, c, Q, D, A, σ0, n0, G⟩ := X
  intro C hn0 σ cy tys ls H locs h0 hO hl
  exact lv_iload C.1 C.2.1 hd (zl_at hl hq) (k C hn0 σ cy tys ls H locs h0 hO hl)
theorem v_lload_n {i : Fin 4} {x : Int64} (hd : decode cc pc = .ok (.lload_n i, 1)) (hq : zl lv (i : Nat) = some (.long x)) (k : zV X Post cc nL own ret d MC MS (pc + 1) lv (.long x :: st) h n cells slots) : zV X Post cc nL own ret d MC MS pc lv st h n cells slots := by
  obtain ⟨p, l, e, R, s, m, args, below, meth, c, Q, D, A, σ0, n0, G⟩ := X
  intro C hn0 σ cy tys ls H locs h0 hO hl
  exact lv_lload_n C.1 C.2.1 hd rfl (zl_at hl hq) (k C hn0 σ cy tys ls H locs h0 hO hl)
theorem v_lload {i : Nat} {x : Int64} (hd : decode cc pc = .ok (.lload i, 2)) (hq : zl lv i = some (.long x)) (k : zV X Post cc nL own ret d MC MS (pc + 2) lv (.long x :: st) h n cells slots) : zV X Post cc nL own ret d MC MS pc lv st h n cells slots := by
  obtain ⟨p, l, e, R, s, m, args, below, meth, c, Q, D, A, σ0, n0, G⟩ := X
  intro C hn0 σ cy tys ls H locs h0 hO hl
  exact lv_lload C.1 C.2.1 hd (zl_at hl hq) (k C hn0 σ cy tys ls H locs h0 hO hl)
theorem v_aload_n {i : Fin 4} {x : Nat} (hd : decode cc pc = .ok (.aload_n i, 1)) (hq : zl lv (i : Nat) = some (.ref x)) (k : zV X Post cc nL own ret d MC MS (pc + 1) lv (.ref x :: st) h n cells slots) : zV X Post cc nL own ret d MC MS pc lv st h n cells slots := by
  obtain ⟨p, l, e, R, s, m, args, below, meth, c, Q, D, A, σ0, n0, G⟩ := X
  intro C hn0 σ cy tys ls H locs h0 hO hl
  exact lv_aload_n C.1 C.2.1 hd rfl (zl_at hl hq) (k C hn0 σ cy tys ls H locs h0 hO hl)
theorem v_aload {i : Nat} {x : Nat} (hd : decode cc pc = .ok (.aload i, 2)) (hq : zl lv i = some (.ref x)) (k : zV X Post cc nL own ret d MC MS (pc + 2) lv (.ref x :: st) h n cells slots) : zV X Post cc nL own ret d MC MS pc lv st h n cells slots := by
  obtain ⟨p, l, e, R, s, m, args, below, meth, c, Q, D, A, σ0, n0, G⟩ := X
  intro C hn0 σ cy tys ls H locs h0 hO hl
  exact lv_aload C.1 C.2.1 hd (zl_at hl hq) (k C hn0 σ cy tys ls H locs h0 hO hl)
theorem v_istore_n {j : Fin 4} {i : Nat} {x : Int32} {lv' : List (Nat × Value)} (hd : decode cc pc = .ok (.istore_n j, 1)) (hi : (j : Nat) = i) (hn : i < nL) (hq : (i, Value.int x) :: lv.filter (fun q => !(q.1 == i) && !(q.1 + 1 == i && q.2.category == 2)) = lv') (k : zV X Post cc nL own ret d MC MS (pc + 1) lv' st h n cells slots) : zV X Post cc nL own ret d MC MS pc lv (.int x :: st) h n cells slots := by
  obtain ⟨p, l, e, R, s, m, args, below, meth, c, Q, D, A, σ0, n0, G⟩ := X
  intro C hn0 σ cy tys ls H locs h0 hO hl
  refine lv_istore_n (lv' := zL σ lv') C.1 C.2.1 hd hi hl hn ?_ (fun ls hl => k C hn0 σ cy tys ls H locs h0 hO hl)
  rw [← hq, zL_filter σ lv (fun a b => !(a == i) && !(a + 1 == i && b == 2))]
  rfl
theorem v_istore {i : Nat} {x : Int32} {lv' : List (Nat × Value)} (hd : decode cc pc = .ok (.istore i, 2)) (hn : i < nL) (hq : (i, Value.int x) :: lv.filter (fun q => !(q.1 == i) && !(q.1 + 1 == i && q.2.category == 2)) = lv') (k : zV X Post cc nL own ret d MC MS (pc + 2) lv' st h n cells slots) : zV X Post cc nL own ret d MC MS pc lv (.int x :: st) h n cells slots := by
  obtain ⟨p, l, e, R, s, m, args, below, meth, c, Q, D, A, σ0, n0, G⟩ := X
  intro C hn0 σ cy tys ls H locs h0 hO hl
  refine lv_istore (lv' := zL σ lv') C.1 C.2.1 hd hl hn ?_ (fun ls hl => k C hn0 σ cy tys ls H locs h0 hO hl)
  rw [← hq, zL_filter σ lv (fun a b => !(a == i) && !(a + 1 == i && b == 2))]
  rfl
theorem v_lstore_n {j : Fin 4} {i : Nat} {x : Int64} {lv' : List (Nat × Value)} (hd : decode cc pc = .ok (.lstore_n j, 1)) (hi : (j : Nat) = i) (hn : i + 1 < nL) (hq : (i, Value.long x) :: lv.filter (fun q => !(q.1 == i) && (!(q.1 == i + 1) && !(q.1 + 1 == i && q.2.category == 2))) = lv') (k : zV X Post cc nL own ret d MC MS (pc + 1) lv' st h n cells slots) : zV X Post cc nL own ret d MC MS pc lv (.long x :: st) h n cells slots := by
  obtain ⟨p, l, e, R, s, m, args, below, meth, c, Q, D, A, σ0, n0, G⟩ := X
  intro C hn0 σ cy tys ls H locs h0 hO hl
  refine lv_lstore_n (lv' := zL σ lv') C.1 C.2.1 hd hi hl hn ?_ (fun ls hl => k C hn0 σ cy tys ls H locs h0 hO hl)
  rw [← hq, zL_filter σ lv (fun a b => !(a == i) && (!(a == i + 1) && !(a + 1 == i && b == 2)))]
  rfl
theorem v_lstore {i : Nat} {x : Int64} {lv' : List (Nat × Value)} (hd : decode cc pc = .ok (.lstore i, 2)) (hn : i + 1 < nL) (hq : (i, Value.long x) :: lv.filter (fun q => !(q.1 == i) && (!(q.1 == i + 1) && !(q.1 + 1 == i && q.2.category == 2))) = lv') (k : zV X Post cc nL own ret d MC MS (pc + 2) lv' st h n cells slots) : zV X Post cc nL own ret d MC MS pc lv (.long x :: st) h n cells slots := by
  obtain ⟨p, l, e, R, s, m, args, below, meth, c, Q, D, A, σ0, n0, G⟩ := X
  intro C hn0 σ cy tys ls H locs h0 hO hl
  refine lv_lstore (lv' := zL σ lv') C.1 C.2.1 hd hl hn ?_ (fun ls hl => k C hn0 σ cy tys ls H locs h0 hO hl)
  rw [← hq, zL_filter σ lv (fun a b => !(a == i) && (!(a == i + 1) && !(a + 1 == i && b == 2)))]
  rfl
theorem v_astore_n {j : Fin 4} {i : Nat} {x : Nat} {lv' : List (Nat × Value)} (hd : decode cc pc = .ok (.astore_n j, 1)) (hi : (j : Nat) = i) (hn : i < nL) (hq : (i, Value.ref x) :: lv.filter (fun q => !(q.1 == i) && !(q.1 + 1 == i && q.2.category == 2)) = lv') (k : zV X Post cc nL own ret d MC MS (pc + 1) lv' st h n cells slots) : zV X Post cc nL own ret d MC MS pc lv (.ref x :: st) h n cells slots := by
  obtain ⟨p, l, e, R, s, m, args, below, meth, c, Q, D, A, σ0, n0, G⟩ := X
  intro C hn0 σ cy tys ls H locs h0 hO hl
  refine lv_astore_n (lv' := zL σ lv') C.1 C.2.1 hd hi hl hn ?_ (fun ls hl => k C hn0 σ cy tys ls H locs h0 hO hl)
  rw [← hq, zL_filter σ lv (fun a b => !(a == i) && !(a + 1 == i && b == 2))]
  rfl
theorem v_astore {i : Nat} {x : Nat} {lv' : List (Nat × Value)} (hd : decode cc pc = .ok (.astore i, 2)) (hn : i < nL) (hq : (i, Value.ref x) :: lv.filter (fun q => !(q.1 == i) && !(q.1 + 1 == i && q.2.category == 2)) = lv') (k : zV X Post cc nL own ret d MC MS (pc + 2) lv' st h n cells slots) : zV X Post cc nL own ret d MC MS pc lv (.ref x :: st) h n cells slots := by
  obtain ⟨p, l, e, R, s, m, args, below, meth, c, Q, D, A, σ0, n0, G⟩ := X
  intro C hn0 σ cy tys ls H locs h0 hO hl
  refine lv_astore (lv' := zL σ lv') C.1 C.2.1 hd hl hn ?_ (fun ls hl => k C hn0 σ cy tys ls H locs h0 hO hl)
  rw [← hq, zL_filter σ lv (fun a b => !(a == i) && !(a + 1 == i && b == 2))]
  rfl
theorem v_iinc {i : Nat} {j : Int} {x : Int32} (v : Int32) {lv' : List (Nat × Value)} (hd : decode cc pc = .ok (.iinc i j, 3)) (hk : zl lv i = some (.int x)) (hv : x + Int32.ofInt j = v) (hn : i < nL) (hq : (i, Value.int v) :: lv.filter (fun q => !(q.1 == i) && !(q.1 + 1 == i && q.2.category == 2)) = lv') (k : zV X Post cc nL own ret d MC MS (pc + 3) lv' st h n cells slots) : zV X Post cc nL own ret d MC MS pc lv st h n cells slots := by
  obtain ⟨p, l, e, R, s, m, args, below, meth, c, Q, D, A, σ0, n0, G⟩ := X
  intro C hn0 σ cy tys ls H locs h0 hO hl
  obtain ⟨q, hq9⟩ := zl_ix hk
  refine lv_iinc (k := q) (x := x) (v := v) (lv' := zL σ lv') C.1 C.2.1 hd hl (by simp [zL, List.getElem?_map, hq9, zv]) hv hn ?_ (fun ls hl => k C hn0 σ cy tys ls H locs h0 hO hl)
  rw [← hq, zL_filter σ lv (fun a b => !(a == i) && !(a + 1 == i && b == 2))]
  rfl
theorem v_dup {v : Value} (hd : decode cc pc = .ok (.dup, 1)) (hv : v.category = 1) (k : zV X Post cc nL own ret d MC MS (pc + 1) lv (v :: v :: st) h n cells slots) : zV X Post cc nL own ret d MC MS pc lv (v :: st) h n cells slots := by
  obtain ⟨p, l, e, R, s, m, args, below, meth, c, Q, D, A, σ0, n0, G⟩ := X
  intro C hn0 σ cy tys ls H locs h0 hO hl
  exact lv_dup C.1 C.2.1 hd (by rw [zv_cat]; exact hv) (k C hn0 σ cy tys ls H locs h0 hO hl)
theorem v_pop {v : Value} (hd : decode cc pc = .ok (.pop, 1)) (hv : v.category = 1) (k : zV X Post cc nL own ret d MC MS (pc + 1) lv st h n cells slots) : zV X Post cc nL own ret d MC MS pc lv (v :: st) h n cells slots := by
  obtain ⟨p, l, e, R, s, m, args, below, meth, c, Q, D, A, σ0, n0, G⟩ := X
  intro C hn0 σ cy tys ls H locs h0 hO hl
  exact lv_pop C.1 C.2.1 hd (by rw [zv_cat]; exact hv) (k C hn0 σ cy tys ls H locs h0 hO hl)
theorem v_if_eq {x : Int32} {off : Int} (tgt : Nat) (hd : decode cc pc = .ok (.ifCond .eq off, 3)) (ht : (pc : Int) + off = (tgt : Int)) (kt : x = 0 → zV X Post cc nL own ret d MC MS tgt lv st h n cells slots) (kf : ¬ x = 0 → zV X Post cc nL own ret d MC MS (pc + 3) lv st h n cells slots) : zV X Post cc nL own ret d MC MS pc lv (.int x :: st) h n cells slots := by
  obtain ⟨p, l, e, R, s, m, args, below, meth, c, Q, D, A, σ0, n0, G⟩ := X
  intro C hn0 σ cy tys ls H locs h0 hO hl
  exact lv_if_eq C.1 C.2.1 hd ht (fun q => kt q C hn0 σ cy tys ls H locs h0 hO hl) (fun q => kf q C hn0 σ cy tys ls H locs h0 hO hl)
theorem v_icmp_eq {x y : Int32} {off : Int} (tgt : Nat) (hd : decode cc pc = .ok (.if_icmp .eq off, 3)) (ht : (pc : Int) + off = (tgt : Int)) (kt : x = y → zV X Post cc nL own ret d MC MS tgt lv st h n cells slots) (kf : ¬ x = y → zV X Post cc nL own ret d MC MS (pc + 3) lv st h n cells slots) : zV X Post cc nL own ret d MC MS pc lv (.int y :: .int x :: st) h n cells slots := by
  obtain ⟨p, l, e, R, s, m, args, below, meth, c, Q, D, A, σ0, n0, G⟩ := X
  intro C hn0 σ cy tys ls H locs h0 hO hl
  exact lv_icmp_eq C.1 C.2.1 hd ht (fun q => kt q C hn0 σ cy tys ls H locs h0 hO hl) (fun q => kf q C hn0 σ cy tys ls H locs h0 hO hl)
theorem v_if_ne {x : Int32} {off : Int} (tgt : Nat) (hd : decode cc pc = .ok (.ifCond .ne off, 3)) (ht : (pc : Int) + off = (tgt : Int)) (kt : ¬ x = 0 → zV X Post cc nL own ret d MC MS tgt lv st h n cells slots) (kf : x = 0 → zV X Post cc nL own ret d MC MS (pc + 3) lv st h n cells slots) : zV X Post cc nL own ret d MC MS pc lv (.int x :: st) h n cells slots := by
  obtain ⟨p, l, e, R, s, m, args, below, meth, c, Q, D, A, σ0, n0, G⟩ := X
  intro C hn0 σ cy tys ls H locs h0 hO hl
  exact lv_if_ne C.1 C.2.1 hd ht (fun q => kt q C hn0 σ cy tys ls H locs h0 hO hl) (fun q => kf q C hn0 σ cy tys ls H locs h0 hO hl)
theorem v_icmp_ne {x y : Int32} {off : Int} (tgt : Nat) (hd : decode cc pc = .ok (.if_icmp .ne off, 3)) (ht : (pc : Int) + off = (tgt : Int)) (kt : ¬ x = y → zV X Post cc nL own ret d MC MS tgt lv st h n cells slots) (kf : x = y → zV X Post cc nL own ret d MC MS (pc + 3) lv st h n cells slots) : zV X Post cc nL own ret d MC MS pc lv (.int y :: .int x :: st) h n cells slots := by
  obtain ⟨p, l, e, R, s, m, args, below, meth, c, Q, D, A, σ0, n0, G⟩ := X
  intro C hn0 σ cy tys ls H locs h0 hO hl
  exact lv_icmp_ne C.1 C.2.1 hd ht (fun q => kt q C hn0 σ cy tys ls H locs h0 hO hl) (fun q => kf q C hn0 σ cy tys ls H locs h0 hO hl)
theorem v_if_lt {x : Int32} {off : Int} (tgt : Nat) (hd : decode cc pc = .ok (.ifCond .lt off, 3)) (ht : (pc : Int) + off = (tgt : Int)) (kt : x < 0 → zV X Post cc nL own ret d MC MS tgt lv st h n cells slots) (kf : ¬ x < 0 → zV X Post cc nL own ret d MC MS (pc + 3) lv st h n cells slots) : zV X Post cc nL own ret d MC MS pc lv (.int x :: st) h n cells slots := by
  obtain ⟨p, l, e, R, s, m, args, below, meth, c, Q, D, A, σ0, n0, G⟩ := X
  intro C hn0 σ cy tys ls H locs h0 hO hl
  exact lv_if_lt C.1 C.2.1 hd ht (fun q => kt q C hn0 σ cy tys ls H locs h0 hO hl) (fun q => kf q C hn0 σ cy tys ls H locs h0 hO hl)
theorem v_icmp_lt {x y : Int32} {off : Int} (tgt : Nat) (hd : decode cc pc = .ok (.if_icmp .lt off, 3)) (ht : (pc : Int) + off = (tgt : Int)) (kt : x < y → zV X Post cc nL own ret d MC MS tgt lv st h n cells slots) (kf : ¬ x < y → zV X Post cc nL own ret d MC MS (pc + 3) lv st h n cells slots) : zV X Post cc nL own ret d MC MS pc lv (.int y :: .int x :: st) h n cells slots := by
  obtain ⟨p, l, e, R, s, m, args, below, meth, c, Q, D, A, σ0, n0, G⟩ := X
  intro C hn0 σ cy tys ls H locs h0 hO hl
  exact lv_icmp_lt C.1 C.2.1 hd ht (fun q => kt q C hn0 σ cy tys ls H locs h0 hO hl) (fun q => kf q C hn0 σ cy tys ls H locs h0 hO hl)
theorem v_if_ge {x : Int32} {off : Int} (tgt : Nat) (hd : decode cc pc = .ok (.ifCond .ge off, 3)) (ht : (pc : Int) + off = (tgt : Int)) (kt : 0 ≤ x → zV X Post cc nL own ret d MC MS tgt lv st h n cells slots) (kf : ¬ 0 ≤ x → zV X Post cc nL own ret d MC MS (pc + 3) lv st h n cells slots) : zV X Post cc nL own ret d MC MS pc lv (.int x :: st) h n cells slots := by
  obtain ⟨p, l, e, R, s, m, args, below, meth, c, Q, D, A, σ0, n0, G⟩ := X
  intro C hn0 σ cy tys ls H locs h0 hO hl
  exact lv_if_ge C.1 C.2.1 hd ht (fun q => kt q C hn0 σ cy tys ls H locs h0 hO hl) (fun q => kf q C hn0 σ cy tys ls H locs h0 hO hl)
theorem v_icmp_ge {x y : Int32} {off : Int} (tgt : Nat) (hd : decode cc pc = .ok (.if_icmp .ge off, 3)) (ht : (pc : Int) + off = (tgt : Int)) (kt : y ≤ x → zV X Post cc nL own ret d MC MS tgt lv st h n cells slots) (kf : ¬ y ≤ x → zV X Post cc nL own ret d MC MS (pc + 3) lv st h n cells slots) : zV X Post cc nL own ret d MC MS pc lv (.int y :: .int x :: st) h n cells slots := by
  obtain ⟨p, l, e, R, s, m, args, below, meth, c, Q, D, A, σ0, n0, G⟩ := X
  intro C hn0 σ cy tys ls H locs h0 hO hl
  exact lv_icmp_ge C.1 C.2.1 hd ht (fun q => kt q C hn0 σ cy tys ls H locs h0 hO hl) (fun q => kf q C hn0 σ cy tys ls H locs h0 hO hl)
theorem v_if_gt {x : Int32} {off : Int} (tgt : Nat) (hd : decode cc pc = .ok (.ifCond .gt off, 3)) (ht : (pc : Int) + off = (tgt : Int)) (kt : 0 < x → zV X Post cc nL own ret d MC MS tgt lv st h n cells slots) (kf : ¬ 0 < x → zV X Post cc nL own ret d MC MS (pc + 3) lv st h n cells slots) : zV X Post cc nL own ret d MC MS pc lv (.int x :: st) h n cells slots := by
  obtain ⟨p, l, e, R, s, m, args, below, meth, c, Q, D, A, σ0, n0, G⟩ := X
  intro C hn0 σ cy tys ls H locs h0 hO hl
  exact lv_if_gt C.1 C.2.1 hd ht (fun q => kt q C hn0 σ cy tys ls H locs h0 hO hl) (fun q => kf q C hn0 σ cy tys ls H locs h0 hO hl)
theorem v_icmp_gt {x y : Int32} {off : Int} (tgt : Nat) (hd : decode cc pc = .ok (.if_icmp .gt off, 3)) (ht : (pc : Int) + off = (tgt : Int)) (kt : y < x → zV X Post cc nL own ret d MC MS tgt lv st h n cells slots) (kf : ¬ y < x → zV X Post cc nL own ret d MC MS (pc + 3) lv st h n cells slots) : zV X Post cc nL own ret d MC MS pc lv (.int y :: .int x :: st) h n cells slots := by
  obtain ⟨p, l, e, R, s, m, args, below, meth, c, Q, D, A, σ0, n0, G⟩ := X
  intro C hn0 σ cy tys ls H locs h0 hO hl
  exact lv_icmp_gt C.1 C.2.1 hd ht (fun q => kt q C hn0 σ cy tys ls H locs h0 hO hl) (fun q => kf q C hn0 σ cy tys ls H locs h0 hO hl)
theorem v_if_le {x : Int32} {off : Int} (tgt : Nat) (hd : decode cc pc = .ok (.ifCond .le off, 3)) (ht : (pc : Int) + off = (tgt : Int)) (kt : x ≤ 0 → zV X Post cc nL own ret d MC MS tgt lv st h n cells slots) (kf : ¬ x ≤ 0 → zV X Post cc nL own ret d MC MS (pc + 3) lv st h n cells slots) : zV X Post cc nL own ret d MC MS pc lv (.int x :: st) h n cells slots := by
  obtain ⟨p, l, e, R, s, m, args, below, meth, c, Q, D, A, σ0, n0, G⟩ := X
  intro C hn0 σ cy tys ls H locs h0 hO hl
  exact lv_if_le C.1 C.2.1 hd ht (fun q => kt q C hn0 σ cy tys ls H locs h0 hO hl) (fun q => kf q C hn0 σ cy tys ls H locs h0 hO hl)
theorem v_icmp_le {x y : Int32} {off : Int} (tgt : Nat) (hd : decode cc pc = .ok (.if_icmp .le off, 3)) (ht : (pc : Int) + off = (tgt : Int)) (kt : x ≤ y → zV X Post cc nL own ret d MC MS tgt lv st h n cells slots) (kf : ¬ x ≤ y → zV X Post cc nL own ret d MC MS (pc + 3) lv st h n cells slots) : zV X Post cc nL own ret d MC MS pc lv (.int y :: .int x :: st) h n cells slots := by
  obtain ⟨p, l, e, R, s, m, args, below, meth, c, Q, D, A, σ0, n0, G⟩ := X
  intro C hn0 σ cy tys ls H locs h0 hO hl
  exact lv_icmp_le C.1 C.2.1 hd ht (fun q => kt q C hn0 σ cy tys ls H locs h0 hO hl) (fun q => kf q C hn0 σ cy tys ls H locs h0 hO hl)
theorem v_goto {off : Int} (tgt : Nat) (hd : decode cc pc = .ok (.goto off, 3)) (ht : (pc : Int) + off = (tgt : Int)) (k : zV X Post cc nL own ret d MC MS tgt lv st h n cells slots) : zV X Post cc nL own ret d MC MS pc lv st h n cells slots := by
  obtain ⟨p, l, e, R, s, m, args, below, meth, c, Q, D, A, σ0, n0, G⟩ := X
  intro C hn0 σ cy tys ls H locs h0 hO hl
  exact lv_goto C.1 C.2.1 hd ht (k C hn0 σ cy tys ls H locs h0 hO hl)
theorem v_topi {x : Int32} (k : ∀ y : Int32, y = x → zV X Post cc nL own ret d MC MS pc lv (.int y :: st) h n cells slots) : zV X Post cc nL own ret d MC MS pc lv (.int x :: st) h n cells slots := k x rfl
theorem v_topl {x : Int64} (k : ∀ y : Int64, y = x → zV X Post cc nL own ret d MC MS pc lv (.long y :: st) h n cells slots) : zV X Post cc nL own ret d MC MS pc lv (.long x :: st) h n cells slots := k x rfl
theorem v_ret {r : Option Value} (hd : zRd cc pc r) (hr : zRet ret r) (hc : cells ≤ MC) (hs : slots ≤ MS) (k : Post r h n) : zV X Post cc nL own ret d MC MS pc lv r.toList h n cells slots := by
  obtain ⟨p, l, e, R, s, m, args, below, meth, c, Q, D, A, σ0, n0, G⟩ := X
  intro C hn0 σ cy tys ls H locs h0 hO hl
  exact C.2.2.2.2.2.2.2.2.2.2 r h n pc cells slots σ cy tys ls H locs k hn0 hc hs hr hd h0 hO
theorem v_iret {x : Int32} (hd : decode cc pc = .ok (.ireturn, 1)) (hr : zRet ret (some (.int x))) (hc : cells ≤ MC) (hs : slots ≤ MS) (k : Post (some (.int x)) h n) : zV X Post cc nL own ret d MC MS pc lv [.int x] h n cells slots := v_ret (r := some (.int x)) hd hr hc hs k
theorem v_lret {x : Int64} (hd : decode cc pc = .ok (.lreturn, 1)) (hr : zRet ret (some (.long x))) (hc : cells ≤ MC) (hs : slots ≤ MS) (k : Post (some (.long x)) h n) : zV X Post cc nL own ret d MC MS pc lv [.long x] h n cells slots := v_ret (r := some (.long x)) hd hr hc hs k
theorem v_vret (hd : decode cc pc = .ok (.return_, 1)) (hr : zRet ret none) (hc : cells ≤ MC) (hs : slots ≤ MS) (k : Post none h n) : zV X Post cc nL own ret d MC MS pc lv [] h n cells slots := v_ret (r := none) hd hr hc hs k
theorem v_widen {c1 s1 : Nat} (hc : cells ≤ c1) (hs : slots ≤ s1) (k : zV X Post cc nL own ret d MC MS pc lv st h n c1 s1) : zV X Post cc nL own ret d MC MS pc lv st h n cells slots := by
  obtain ⟨p, l, e, R, s, m, args, below, meth, c, Q, D, A, σ0, n0, G⟩ := X
  intro C hn0 σ cy tys ls H locs h0 hO hl
  exact W.widen hc hs (k C hn0 σ cy tys ls H locs h0 hO hl)
end
/-- a field's place in the tables: in class own, pool number idx is field k of class ci, of type ty; fin: it is final -/
def zF (own : String) (idx ci k : Nat) (ty : FieldType) (fin : Bool) : Prop := ∃ (C : String) (T : u_T) (N : Nat) (ty0 : Nat → FieldType), vwCl[ci]? = some (C, T, N) ∧ k < N ∧ (∀ w ∈ u_ws C T N, w ∈ ALL) ∧ Cond.fieldLink own idx (T k).1 (T k).2.1 (T k).2.2.1 ∈ ALL ∧
  (∀ j, j < N → parseFieldDescriptor (T j).2.2.1 = some (ty0 j)) ∧ (∀ a, a < N → ∀ b, b < N → a ≠ b → (T a).2.1 ≠ (T b).2.1) ∧ (T k).2.2.2 = fin ∧ ty0 k = ty
/-- a final field that own writes in its constructor -/
def zFF (own : String) (idx ci k : Nat) (ty : FieldType) : Prop := ∃ (C : String) (T : u_T) (N : Nat) (ty0 : Nat → FieldType), vwCl[ci]? = some (C, T, N) ∧ k < N ∧ (∀ w ∈ u_ws C T N, w ∈ ALL) ∧ Cond.fieldLink own idx (T k).1 (T k).2.1 (T k).2.2.1 ∈ ALL ∧
  (∀ j, j < N → parseFieldDescriptor (T j).2.2.1 = some (ty0 j)) ∧ (∀ a, a < N → ∀ b, b < N → a ≠ b → (T a).2.1 ≠ (T b).2.1) ∧ (T k).2.2.2 = true ∧ ty0 k = ty ∧ (T k).1 = own
/-- the same by a nest mate's link -/
def zG (own : String) (idx ci k : Nat) (ty : FieldType) (fin : Bool) : Prop := ∃ (C : String) (T : u_T) (N : Nat) (ty0 : Nat → FieldType) (host : String), vwCl[ci]? = some (C, T, N) ∧ k < N ∧ (∀ w ∈ u_ws C T N, w ∈ ALL) ∧ Cond.fieldLinkNest own idx (T k).1 (T k).2.1 (T k).2.2.1 host ∈ NWL ∧
  (∀ j, j < N → parseFieldDescriptor (T j).2.2.1 = some (ty0 j)) ∧ (∀ a, a < N → ∀ b, b < N → a ≠ b → (T a).2.1 ≠ (T b).2.1) ∧ (T k).2.2.2 = fin ∧ ty0 k = ty
theorem zv_fit {σ : Nat → Nat} {ty : FieldType} {v : Value} (h1 : narrow ty v = v) (h2 : fits ty v = true) : narrow ty (zv σ v) = zv σ v ∧ fits ty (zv σ v) = true := by
  cases v with
  | ref a => cases ty <;> simp_all [narrow, fits, zv]
  | _ => exact ⟨h1, h2⟩
theorem nwl_tab : ∀ w ∈ NWL, w.onTables = true := fun w hw => List.all_eq_true.mp (show NWL.all (fun w => w.onTables) = true from by decide) w hw
section
variable {X : zX} {Post : zP} {cc : ByteArray} {nL : Nat} {own : String} {ret : Option FieldType} {d MC MS pc : Nat} {lv : List (Nat × Value)} {st : List Value} {h : zH} {n cells slots : Nat}
theorem v_get {a idx ci fk : Nat} {ty : FieldType} {fin : Bool} {fs : List Value} {v : Value} (hF : zF own idx ci fk ty fin) (hd : decode cc pc = .ok (.getfield idx, 3)) (ha : h a = .inr (ci, fs)) (hci : ci < 9999) (hv : fs[fk]? = some v) (k : zV X Post cc nL own ret d MC MS (pc + 3) lv (v :: st) h n cells slots) : zV X Post cc nL own ret d MC MS pc lv (.ref a :: st) h n cells slots := by
  obtain ⟨p, l, e, R, s, m, args, below, meth, c, Q, D, A, σ0, n0, G⟩ := X
  intro C hn0 σ cy tys ls H locs h0 hO hl
  obtain ⟨hz, hK, ht, hP, hD, hS⟩ := id hO
  obtain ⟨C1, T, N, ty0, hc, hk, hin, hlk, hty, hnm, hfin, hty1⟩ := hF
  have han : a < n := zn_lt hz (by rw [ha]; intro q; cases q; exact absurd hci (by decide))
  exact va_get C.1 C.2.1 C.2.2.2.2.1 hin C.2.2.2.1 hK hP a ((zw_get han).trans (by rw [ha]; rfl)) hc _ hk (C.2.2.2.2.1 _ hlk) (fun _ q => q) (by rw [List.getElem?_map, hv]; rfl) hd (k C hn0 σ cy tys ls H locs h0 hO hl)
theorem v_getN {a idx ci fk : Nat} {ty : FieldType} {fin : Bool} {fs : List Value} {v : Value} (hF : zG own idx ci fk ty fin) (hd : decode cc pc = .ok (.getfield idx, 3)) (ha : h a = .inr (ci, fs)) (hci : ci < 9999) (hv : fs[fk]? = some v) (k : zV X Post cc nL own ret d MC MS (pc + 3) lv (v :: st) h n cells slots) : zV X Post cc nL own ret d MC MS pc lv (.ref a :: st) h n cells slots := by
  obtain ⟨p, l, e, R, s, m, args, below, meth, c, Q, D, A, σ0, n0, G⟩ := X
  intro C hn0 σ cy tys ls H locs h0 hO hl
  obtain ⟨hz, hK, ht, hP, hD, hS⟩ := id hO
  obtain ⟨C1, T, N, ty0, host, hc, hk, hin, hlk, hty, hnm, hfin, hty1⟩ := hF
  have han : a < n := zn_lt hz (by rw [ha]; intro q; cases q; exact absurd hci (by decide))
  exact va_getN C.1 C.2.1 C.2.2.2.2.1 hin C.2.2.2.1 hK hP a ((zw_get han).trans (by rw [ha]; rfl)) hc _ hk (va_Nw.use (nwl_tab _ hlk) (C.2.2.2.2.2.2.2.1.1 _ hlk)) (fun _ q => q) (by rw [List.getElem?_map, hv]; rfl) hd (k C hn0 σ cy tys ls H locs h0 hO hl)
theorem v_put {a idx ci fk : Nat} {ty : FieldType} {fs fs' : List Value} {v : Value} (hF : zF own idx ci fk ty false) (hd : decode cc pc = .ok (.putfield idx, 3)) (ha : h a = .inr (ci, fs)) (hci : ci < 9999) (hl9 : fk < fs.length) (hv : narrow ty v = v) (hf : fits ty v = true) (hs : fs.set fk v = fs') (k : ∀ h1 : zH, zu h a (.inr (ci, fs')) = h1 → zV X Post cc nL own ret d MC MS (pc + 3) lv st h1 n cells slots) : zV X Post cc nL own ret d MC MS pc lv (v :: .ref a :: st) h n cells slots := by
  obtain ⟨p, l, e, R, s, m, args, below, meth, c, Q, D, A, σ0, n0, G⟩ := X
  intro C hn0 σ cy tys ls H locs h0 hO hl
  obtain ⟨hz, hK, ht, hP, hD, hS⟩ := id hO
  obtain ⟨C1, T, N, ty0, hc, hk, hin, hlk, hty, hnm, hfin, hty1⟩ := hF
  have han : a < n := zn_lt hz (by rw [ha]; intro q; cases q; exact absurd hci (by decide))
  obtain ⟨v1, v2⟩ := zv_fit (σ := σ) hv hf
  refine va_put C.1 C.2.1 C.2.2.2.2.1 hin ty0 hty hnm C.2.2.2.1 hK hP hD hS a ((zw_get han).trans (by rw [ha]; rfl)) hc _ hk (C.2.2.2.2.1 _ hlk) (fun _ q => q) hfin (by rw [hty _ hk, hty1]) v1 v2 (by rw [List.length_map]; exact hl9) hd (fun H1 locs1 hP hD hS => ?_)
  have e9 : (σ a, Sum.inr (ci, (List.map (zv σ) (ci, fs).snd).set fk (zv σ v))) = (σ a, ze σ (cy a) (.inr (ci, fs'))) := by rw [← hs]; simp only [ze, List.map_set]
  rw [e9, zw_set han] at hP hD
  exact k _ rfl C hn0 σ cy tys ls H1 locs1 h0 ⟨zn_set hz han, hK, zt_set ht (fun x hx => by cases hx), hP, hD, hS⟩ hl
theorem v_putN {a idx ci fk : Nat} {ty : FieldType} {fs fs' : List Value} {v : Value} (hF : zG own idx ci fk ty false) (hd : decode cc pc = .ok (.putfield idx, 3)) (ha : h a = .inr (ci, fs)) (hci : ci < 9999) (hl9 : fk < fs.length) (hv : narrow ty v = v) (hf : fits ty v = true) (hs : fs.set fk v = fs') (k : ∀ h1 : zH, zu h a (.inr (ci, fs')) = h1 → zV X Post cc nL own ret d MC MS (pc + 3) lv st h1 n cells slots) : zV X Post cc nL own ret d MC MS pc lv (v :: .ref a :: st) h n cells slots := by
  obtain ⟨p, l, e, R, s, m, args, below, meth, c, Q, D, A, σ0, n0, G⟩ := X
  intro C hn0 σ cy tys ls H locs h0 hO hl
  obtain ⟨hz, hK, ht, hP, hD, hS⟩ := id hO
  obtain ⟨C1, T, N, ty0, host, hc, hk, hin, hlk, hty, hnm, hfin, hty1⟩ := hF
  have han : a < n := zn_lt hz (by rw [ha]; intro q; cases q; exact absurd hci (by decide))
  obtain ⟨v1, v2⟩ := zv_fit (σ := σ) hv hf
  refine va_putN C.1 C.2.1 C.2.2.2.2.1 hin ty0 hty hnm C.2.2.2.1 hK hP hD hS a ((zw_get han).trans (by rw [ha]; rfl)) hc _ hk (va_Nw.use (nwl_tab _ hlk) (C.2.2.2.2.2.2.2.1.1 _ hlk)) (fun _ q => q) hfin (by rw [hty _ hk, hty1]) v1 v2 (by rw [List.length_map]; exact hl9) hd (fun H1 locs1 hP hD hS => ?_)
  have e9 : (σ a, Sum.inr (ci, (List.map (zv σ) (ci, fs).snd).set fk (zv σ v))) = (σ a, ze σ (cy a) (.inr (ci, fs'))) := by rw [← hs]; simp only [ze, List.map_set]
  rw [e9, zw_set han] at hP hD
  exact k _ rfl C hn0 σ cy tys ls H1 locs1 h0 ⟨zn_set hz han, hK, zt_set ht (fun x hx => by cases hx), hP, hD, hS⟩ hl
theorem v_iald {a N : Nat} {f : Nat → Int32} {i : Int32} (hd : decode cc pc = .ok (.iaload, 1)) (ha : h a = .inl (.int, N, .inl f)) (hin : vp_in i N) (k : zV X Post cc nL own ret d MC MS (pc + 1) lv (.int (f i.toNatClampNeg) :: st) h n cells slots) : zV X Post cc nL own ret d MC MS pc lv (.int i :: .ref a :: st) h n cells slots := by
  obtain ⟨p, l, e, R, s, m, args, below, meth, c, Q, D, A, σ0, n0, G⟩ := X
  intro C hn0 σ cy tys ls H locs h0 hO hl
  obtain ⟨hz, hK, ht, hP, hD, hS⟩ := id hO
  have han : a < n := zn_lt hz (by rw [ha]; intro q; cases q)
  obtain ⟨t0, ht0⟩ := ht a han _ ha
  exact va_iald C.1 C.2.1 hK hP a t0 ((zw_get han).trans (by rw [ha]; rfl)) ht0 hin hd (k C hn0 σ cy tys ls H locs h0 hO hl)
theorem v_lald {a N : Nat} {f : Nat → Int64} {i : Int32} (hd : decode cc pc = .ok (.laload, 1)) (ha : h a = .inl (.long, N, .inr (.inl f))) (hin : vp_in i N) (k : zV X Post cc nL own ret d MC MS (pc + 1) lv (.long (f i.toNatClampNeg) :: st) h n cells slots) : zV X Post cc nL own ret d MC MS pc lv (.int i :: .ref a :: st) h n cells slots := by
  obtain ⟨p, l, e, R, s, m, args, below, meth, c, Q, D, A, σ0, n0, G⟩ := X
  intro C hn0 σ cy tys ls H locs h0 hO hl
  obtain ⟨hz, hK, ht, hP, hD, hS⟩ := id hO
  have han : a < n := zn_lt hz (by rw [ha]; intro q; cases q)
  obtain ⟨t0, ht0⟩ := ht a han _ ha
  exact va_lald C.1 C.2.1 hK hP a t0 ((zw_get han).trans (by rw [ha]; rfl)) ht0 hin hd (k C hn0 σ cy tys ls H locs h0 hO hl)
theorem v_iast {a N : Nat} {f : Nat → Int32} {i : Int32} {x : Int32} (hd : decode cc pc = .ok (.iastore, 1)) (ha : h a = .inl (.int, N, .inl f)) (hin : vp_in i N) (k : ∀ h1 : zH, zu h a (.inl (.int, N, .inl (upd f i.toNatClampNeg x))) = h1 → zV X Post cc nL own ret d MC MS (pc + 1) lv st h1 n cells slots) : zV X Post cc nL own ret d MC MS pc lv (.int x :: .int i :: .ref a :: st) h n cells slots := by
  obtain ⟨p, l, e, R, s, m, args, below, meth, c, Q, D, A, σ0, n0, G⟩ := X
  intro C hn0 σ cy tys ls H locs h0 hO hl
  obtain ⟨hz, hK, ht, hP, hD, hS⟩ := id hO
  have han : a < n := zn_lt hz (by rw [ha]; intro q; cases q)
  obtain ⟨t0, ht0⟩ := ht a han _ ha
  refine va_iast C.1 C.2.1 hK hP hD hS a t0 ((zw_get han).trans (by rw [ha]; rfl)) ht0 hin hd (fun H1 locs1 hP hD hS => ?_)
  have e9 : (zw σ cy h n).set a (σ a, Sum.inl (cy a, N, .inl (upd f i.toNatClampNeg x))) = zw σ cy (zu h a (.inl (.int, N, .inl (upd f i.toNatClampNeg x)))) n := zw_set (c := .inl (.int, N, .inl (upd f i.toNatClampNeg x))) han
  rw [e9] at hP hD
  exact k _ rfl C hn0 σ cy tys ls H1 locs1 h0 ⟨zn_set hz han, hK, zt_set ht (fun y hy => by cases hy; exact ⟨_, ha, rfl⟩), hP, hD, hS⟩ hl
theorem v_last {a N : Nat} {f : Nat → Int64} {i : Int32} {x : Int64} (hd : decode cc pc = .ok (.lastore, 1)) (ha : h a = .inl (.long, N, .inr (.inl f))) (hin : vp_in i N) (k : ∀ h1 : zH, zu h a (.inl (.long, N, .inr (.inl (vp_updL f i.toNatClampNeg x)))) = h1 → zV X Post cc nL own ret d MC MS (pc + 1) lv st h1 n cells slots) : zV X Post cc nL own ret d MC MS pc lv (.long x :: .int i :: .ref a :: st) h n cells slots := by
  obtain ⟨p, l, e, R, s, m, args, below, meth, c, Q, D, A, σ0, n0, G⟩ := X
  intro C hn0 σ cy tys ls H locs h0 hO hl
  obtain ⟨hz, hK, ht, hP, hD, hS⟩ := id hO
  have han : a < n := zn_lt hz (by rw [ha]; intro q; cases q)
  obtain ⟨t0, ht0⟩ := ht a han _ ha
  refine va_last C.1 C.2.1 hK hP hD hS a t0 ((zw_get han).trans (by rw [ha]; rfl)) ht0 hin hd (fun H1 locs1 hP hD hS => ?_)
  have e9 : (zw σ cy h n).set a (σ a, Sum.inl (cy a, N, .inr (.inl (vp_updL f i.toNatClampNeg x)))) = zw σ cy (zu h a (.inl (.long, N, .inr (.inl (vp_updL f i.toNatClampNeg x))))) n := zw_set (c := .inl (.long, N, .inr (.inl (vp_updL f i.toNatClampNeg x)))) han
  rw [e9] at hP hD
  exact k _ rfl C hn0 σ cy tys ls H1 locs1 h0 ⟨zn_set hz han, hK, zt_set ht (fun y hy => by cases hy; exact ⟨_, ha, rfl⟩), hP, hD, hS⟩ hl
theorem v_alen {a : Nat} {b : FieldType × vp_A} {v : Int32} (hd : decode cc pc = .ok (.arraylength, 1)) (ha : h a = .inl b) (hv : Int32.ofNat b.2.1 = v) (k : zV X Post cc nL own ret d MC MS (pc + 1) lv (.int v :: st) h n cells slots) : zV X Post cc nL own ret d MC MS pc lv (.ref a :: st) h n cells slots := by
  obtain ⟨p, l, e, R, s, m, args, below, meth, c, Q, D, A, σ0, n0, G⟩ := X
  intro C hn0 σ cy tys ls H locs h0 hO hl
  obtain ⟨hz, hK, ht, hP, hD, hS⟩ := id hO
  have han : a < n := zn_lt hz (by rw [ha]; intro q; cases q)
  obtain ⟨t0, ht0⟩ := ht a han _ ha
  exact va_alen C.1 C.2.1 hK hP a t0 ((zw_get han).trans (by rw [ha]; rfl)) ht0 (by rw [← hv]; unfold za; split <;> rfl) hd (k C hn0 σ cy tys ls H locs h0 hO hl)
theorem v_aald {a N b : Nat} {C1 : String} {f : Nat → Option Nat} {i : Int32} (hd : decode cc pc = .ok (.aaload, 1)) (ha : h a = .inl (.object C1, N, .inr (.inr (.inr (.inr f))))) (hin : vp_in i N) (hb : f i.toNatClampNeg = some b) (k : zV X Post cc nL own ret d MC MS (pc + 1) lv (.ref b :: st) h n cells slots) : zV X Post cc nL own ret d MC MS pc lv (.int i :: .ref a :: st) h n cells slots := by
  obtain ⟨p, l, e, R, s, m, args, below, meth, c, Q, D, A, σ0, n0, G⟩ := X
  intro C hn0 σ cy tys ls H locs h0 hO hl
  obtain ⟨hz, hK, ht, hP, hD, hS⟩ := id hO
  have han : a < n := zn_lt hz (by rw [ha]; intro q; cases q)
  obtain ⟨t0, ht0⟩ := ht a han _ ha
  refine va_aldq C.1 C.2.1 hK hP a t0 ((zw_get han).trans (by rw [ha]; rfl)) ht0 hin hd ?_
  have e9 : va_rf ((f i.toNatClampNeg).map σ) = .ref (σ b) := by rw [hb]; rfl
  rw [e9]
  exact k C hn0 σ cy tys ls H locs h0 hO hl
end
