/-! THE CLEAN WORLD. A state of a method is (pc, locals, stack, h, n): h gives a cell to each number below n; references are numbers of cells, not addresses. zV says: from every machine state that such a state stands for, the method comes to its end as its post says. Each rule below turns zV at an instruction into zV at the next. -/
noncomputable def ALL : List Cond := lw_tbl.filter goodWord
theorem all_t {i : Nat} {w : Cond} (h : tables_1[i]? = some w) (g : goodWord w = true) : w ∈ ALL :=
  List.mem_filter.mpr ⟨List.mem_append_right _ (List.mem_of_getElem? h), g⟩
theorem all_p {i : Nat} {w : Cond} (h : (k2_sels lw_privs)[i]? = some w) (g : goodWord w = true) : w ∈ ALL :=
  List.mem_filter.mpr ⟨List.mem_append_left _ (List.mem_of_getElem? h), g⟩
theorem all_good : ALL.all goodWord = true := List.all_eq_true.mpr fun _ h => (List.mem_filter.mp h).2
theorem all_sub {y y' : MethodName} {c c' : ByteArray} {n n' : Nat} {r r' : Option FieldType} (h : Cond.code y' c' n' r' ∈ ALL) : GoodIn (Cond.code y c n r :: ALL) (Cond.code y' c' n' r' :: ALL) := by
  refine goodIn_sub (fun w hw => ?_) (List.all_eq_true.mpr fun w hw => ?_)
  · rcases List.mem_cons.mp hw with rfl | hw
    · exact List.mem_cons_of_mem _ h
    · exact List.mem_cons_of_mem _ hw
  · rcases List.mem_cons.mp hw with rfl | hw
    · exact List.all_eq_true.mp all_good _ h
    · exact List.all_eq_true.mp all_good _ hw
abbrev zC : Type := (FieldType × vp_A) ⊕ (Nat × List Value)
abbrev zH : Type := Nat → zC
abbrev zT : Type := List (ClassId × FieldType)
/-- the cell of a number that is none -/
def zN : zC := .inr (9999, [])
def zu (h : zH) (a : Nat) (c : zC) : zH := fun j => if j = a then c else h j
def zv (σ : Nat → Nat) : Value → Value
  | .ref i => .ref (σ i)
  | v => v
def za (σ : Nat → Nat) (a : vp_A) : vp_A := match a.2 with
  | .inr (.inr (.inr (.inr f))) => (a.1, .inr (.inr (.inr (.inr (fun j => (f j).map σ)))))
  | _ => a
def ze (σ : Nat → Nat) (k : ClassId) (c : zC) : va_E := match c with
  | .inl a => .inl (k, za σ a.2)
  | .inr o => .inr (o.1, o.2.map (zv σ))
def zw (σ : Nat → Nat) (cy : Nat → ClassId) (h : zH) (n : Nat) : va_W := (List.range n).map (fun k => (σ k, ze σ (cy k) (h k)))
def zt (tys : zT) (cy : Nat → ClassId) (h : zH) (n : Nat) : Prop := ∀ k, k < n → ∀ a, h k = .inl a → ∃ t0 : Nat, tys[t0]? = some (cy k, a.1)
def zn (h : zH) (n : Nat) : Prop := ∀ k, n ≤ k → h k = zN
def NWL : List Cond := [.fieldLinkNest "PositHouseModel" 209 "PositHouseModel$Nat" "d" "[I" "PositHouseModel", .fieldLinkNest "PositHouseModel$Sum" 16 "PositHouseModel$Nat" "len" "I" "PositHouseModel", .fieldLinkNest "PositHouseModel" 206 "PositHouseModel$Nat" "len" "I" "PositHouseModel", .fieldLinkNest "PositHouseModel" 97 "PositHouseModel$Sum" "size" "LPositHouseModel$Nat;" "PositHouseModel", .fieldLinkNest "PositHouseModel" 94 "PositHouseModel$Sum" "sign" "I" "PositHouseModel", .fieldLinkNest "PositHouseModel" 246 "PositHouseModel$Sum" "nar" "Z" "PositHouseModel", .methodLinkNest "PositHouseModel" 128 ⟨"PositHouseModel$Nat", "<init>", "()V"⟩ "PositHouseModel", .methodLinkNest "PositHouseModel" 133 ⟨"PositHouseModel$Sum", "<init>", "()V"⟩ "PositHouseModel", .methodLinkNest "PositHouseModel$Sum" 9 ⟨"PositHouseModel$Nat", "<init>", "()V"⟩ "PositHouseModel"]
def NW (U : State) : Prop := (∀ w ∈ NWL, va_Nw w U) ∧ va_AO "PositHouse$Quire" U ∧ va_AO "PositHouseModel$Sum" U
theorem NW.same {u U : State} (h : u.vm = U.vm) (H : NW u) : NW U :=
  ⟨fun w hw => va_Nw.same (List.all_eq_true.mp (show NWL.all (fun w => w.onTables) = true from by decide) w hw) h (H.1 w hw), va_AO.moved (by rw [h]; exact Vm.Alike.refl _) H.2.1, va_AO.moved (by rw [h]; exact Vm.Alike.refl _) H.2.2⟩
theorem NW.warm {s U : State} (hW : s.WarmedH U.vm) (H : NW s) : NW U := by
  refine ⟨fun w hw => ?_, va_AO.moved hW.alike H.2.1, va_AO.moved hW.alike H.2.2⟩
  have hz := H.1 w hw
  simp only [NWL, List.mem_cons, List.not_mem_nil, or_false] at hw
  rcases hw with rfl | rfl | rfl | rfl | rfl | rfl | rfl | rfl | rfl
  all_goals first | exact va_Nw.warmF hW hz | exact va_Nw.warmM hW hz
/-! the list of cells -/
section
variable {σ σ' : Nat → Nat} {cy cy' : Nat → ClassId} {h h' : zH} {n : Nat}
theorem zw_get {a : Nat} (ha : a < n) : (zw σ cy h n)[a]? = some (σ a, ze σ (cy a) (h a)) := by
  simp [zw, List.getElem?_map, List.getElem?_range ha]
theorem zw_len : (zw σ cy h n).length = n := by simp [zw]
theorem zu_same (h : zH) (a : Nat) (c : zC) : zu h a c a = c := if_pos rfl
theorem zu_ne (h : zH) {a j : Nat} (c : zC) (e : j ≠ a) : zu h a c j = h j := if_neg e
theorem zw_set {a : Nat} {c : zC} (ha : a < n) : (zw σ cy h n).set a (σ a, ze σ (cy a) c) = zw σ cy (zu h a c) n := by
  apply List.ext_getElem?
  intro i
  rw [List.getElem?_set]
  by_cases hi : i < n
  · by_cases e : a = i
    · subst e
      rw [if_pos rfl, if_pos (by rw [zw_len]; exact hi), zw_get hi, zu_same]
    · rw [if_neg e, zw_get hi, zw_get hi, zu_ne h c (fun q => e q.symm)]
  · have h1 : (zw σ cy h n)[i]? = none := List.getElem?_eq_none (by rw [zw_len]; omega)
    have h2 : (zw σ cy (zu h a c) n)[i]? = none := List.getElem?_eq_none (by rw [zw_len]; omega)
    rw [h1, h2]
    split
    · split
      · rename_i q; rw [zw_len] at q; omega
      · rfl
    · rfl
end
theorem zn_set {h : zH} {n a : Nat} {c : zC} (hz : zn h n) (ha : a < n) : zn (zu h a c) n := fun k hk => by rw [zu_ne h c (by omega)]; exact hz k hk
theorem zn_lt {h : zH} {n a : Nat} (hz : zn h n) (ha : h a ≠ zN) : a < n := by
  rcases Nat.lt_or_ge a n with q | q
  · exact q
  · exact absurd (hz a q) ha
theorem zt_set {tys : zT} {cy : Nat → ClassId} {h : zH} {n a : Nat} {c : zC} (ht : zt tys cy h n) (hc : ∀ x, c = .inl x → ∃ y, h a = .inl y ∧ y.1 = x.1) : zt tys cy (zu h a c) n := by
  intro k hk x hx
  by_cases e : k = a
  · subst e
    rw [zu_same] at hx
    obtain ⟨y, hy, e1⟩ := hc x hx
    obtain ⟨t0, q⟩ := ht k hk y hy
    exact ⟨t0, by rw [q, e1]⟩
  · rw [zu_ne h c e] at hx
    exact ht k hk x hx
/-! the judgement -/
abbrev zX : Type := Program × Launch × Env × Room × State × MethodId × Array Value × List Frame × Method × Code × (State → Prop) × va_G × (Nat → Prop) × (Nat → Nat) × Nat × Prop
abbrev zP : Type := Option Value → zH → Nat → Prop
/-- a world: the cells of h at the addresses σ in the heap H -/
def zO (D : va_G) (A : Nat → Prop) (s : State) (H0 : Heap) (σ : Nat → Nat) (cy : Nat → ClassId) (tys : zT) (h : zH) (n : Nat) (H : Heap) (locs : List Loc) : Prop :=
  zn h n ∧ va_K D vwCl tys s ∧ zt tys cy h n ∧ va_P D vwCl (zw σ cy h n) H ∧ va_D A (zw σ cy h n) ∧ va_S A H0 H locs
def zR (d mc ms : Nat) : Room := { frames := d, cells := mc, slots := ms, locals := 40 * d }
def zL (σ : Nat → Nat) (lv : List (Nat × Value)) : List (Nat × Value) := lv.map (fun q => (q.1, zv σ q.2))
def zS (σ : Nat → Nat) (st : List Value) : List Value := st.map (zv σ)
/-- the addresses σ behind n cells, where σ0 were those of n0 cells: only what came between is new -/
def zs (σ0 : Nat → Nat) (n0 : Nat) (σ : Nat → Nat) (n : Nat) : Prop := ∀ k, k < n0 ∨ n ≤ k → σ k = σ0 k
/-- an answer r of a method of type ret -/
def zRet (ret : Option FieldType) (r : Option Value) : Prop := match ret, r with
  | none, none => True
  | some .int, some (.int _) => True
  | some .boolean, some (.int x) => x = 0 ∨ x = 1
  | some .long, some (.long _) => True
  | _, _ => False
def zRd (cc : ByteArray) (pc : Nat) (r : Option Value) : Prop := match r with
  | none => decode cc pc = .ok (.return_, 1)
  | some (.long _) => decode cc pc = .ok (.lreturn, 1)
  | _ => decode cc pc = .ok (.ireturn, 1)
/-- what holds all through a method's run; the last one: how it may end -/
def zCx (X : zX) (Post : zP) (cc : ByteArray) (nL : Nat) (own : String) (ret : Option FieldType) (d MC MS : Nat) : Prop := match X with
  | (p, l, e, R, s, m, args, below, meth, c, Q, D, A, σ0, n0, G) =>
    p.tables.exec = Jvm.exec ∧ c.code = cc ∧ c.maxLocals = nL ∧ s.vm.findClass own = some m.cls ∧ (∀ w ∈ ALL, w.before args s = true) ∧ meth.locks = false ∧ (∀ q : Nat, s.heap.size ≤ q → A q) ∧ NW s ∧ R = zR d MC MS ∧ G ∧
    (∀ (r : Option Value) (h : zH) (n pc cells slots : Nat) (σ : Nat → Nat) (cy : Nat → ClassId) (tys : zT) (ls : Array Slot) (H : Heap) (locs : List Loc), Post r h n → n0 ≤ n → cells ≤ MC → slots ≤ MS →
      zRet ret r → zRd cc pc r → zs σ0 n0 σ n → zO D A s s.heap σ cy tys h n H locs → W p l e R s m args below meth c H locs cells slots Q (F0 m pc ls (zS σ r.toList)))
def zV (X : zX) (Post : zP) (cc : ByteArray) (nL : Nat) (own : String) (ret : Option FieldType) (d MC MS pc : Nat) (lv : List (Nat × Value)) (st : List Value) (h : zH) (n cells slots : Nat) : Prop := match X with
  | (p, l, e, R, s, m, args, below, meth, c, Q, D, A, σ0, n0, G) =>
    zCx (p, l, e, R, s, m, args, below, meth, c, Q, D, A, σ0, n0, G) Post cc nL own ret d MC MS → n0 ≤ n →
    ∀ (σ : Nat → Nat) (cy : Nat → ClassId) (tys : zT) (ls : Array Slot) (H : Heap) (locs : List Loc), zs σ0 n0 σ n → zO D A s s.heap σ cy tys h n H locs → lv_has ls nL (zL σ lv) →
      W p l e R s m args below meth c H locs cells slots Q (F0 m pc ls (zS σ st))
theorem zL_at {σ : Nat → Nat} {lv : List (Nat × Value)} {ls : Array Slot} {nL i : Nat} {v : Value} (hl : lv_has ls nL (zL σ lv)) (k : Nat) (hk : lv[k]? = some (i, v)) : ls[i]? = some (.val (zv σ v)) :=
  lv_at hl k (by simp [zL, List.getElem?_map, hk])
theorem zv_cat (σ : Nat → Nat) (v : Value) : (zv σ v).category = v.category := by cases v <;> rfl
theorem zL_filter (σ : Nat → Nat) (lv : List (Nat × Value)) (f : Nat → Nat → Bool) : (zL σ lv).filter (fun q => f q.1 q.2.category) = zL σ (lv.filter (fun q => f q.1 q.2.category)) := by
  induction lv with
  | nil => rfl
  | cons a t ih =>
    simp only [zL, List.map_cons, List.filter_cons, zv_cat] at ih ⊢
    split
    · rw [List.map_cons, ih]
    · exact ih
