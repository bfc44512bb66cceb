/-! Making cells, and dropping them. -/
/-- the cells below n speak of cells below n alone -/
def zk (h : zH) (n : Nat) : Prop := ∀ k, k < n → ∀ (σ σ' : Nat → Nat), (∀ i, i < n → σ i = σ' i) → ∀ c : ClassId, ze σ c (h k) = ze σ' c (h k)
theorem zS_fs {σ σ' : Nat → Nat} {n : Nat} {st : List Value} (hσ : ∀ i, i < n → σ i = σ' i) (h : zB n st) : st.map (zv σ) = st.map (zv σ') := by
  apply List.map_congr_left
  intro v hv
  cases v with
  | ref i => show Value.ref (σ i) = Value.ref (σ' i); rw [hσ i (h _ hv i rfl)]
  | _ => rfl
theorem zk_o {n ci : Nat} {fs : List Value} (h : zB n fs) : ∀ (σ σ' : Nat → Nat), (∀ i, i < n → σ i = σ' i) → ∀ c : ClassId, ze σ c (.inr (ci, fs)) = ze σ' c (.inr (ci, fs)) := fun σ σ' hσ c => by
  show Sum.inr (ci, fs.map (zv σ)) = Sum.inr (ci, fs.map (zv σ'))
  rw [zS_fs hσ h]
theorem zk_a {n : Nat} {ty : FieldType} {a : vp_A} (h : ∀ N f, a = (N, .inr (.inr (.inr (.inr f)))) → ∀ j i, f j = some i → i < n) : ∀ (σ σ' : Nat → Nat), (∀ i, i < n → σ i = σ' i) → ∀ c : ClassId, ze σ c (.inl (ty, a)) = ze σ' c (.inl (ty, a)) := fun σ σ' hσ c => by
  show Sum.inl (c, za σ a) = Sum.inl (c, za σ' a)
  obtain ⟨N, x⟩ := a
  rcases x with x | x | x | x | x
  all_goals first | rfl | skip
  have e : (fun j => (x j).map σ) = (fun j => (x j).map σ') := by
    funext j
    cases hj : x j with
    | none => rfl
    | some i => show some (σ i) = some (σ' i); rw [hσ i (h N x rfl j i hj)]
  show Sum.inl (c, N, Sum.inr (Sum.inr (Sum.inr (Sum.inr (fun j => (x j).map σ))))) = _
  rw [e]
  rfl
theorem zk_set {h : zH} {n a : Nat} {c : zC} (hk : zk h n) (hc : ∀ (σ σ' : Nat → Nat), (∀ i, i < n → σ i = σ' i) → ∀ k : ClassId, ze σ k c = ze σ' k c) : zk (zu h a c) n := fun k hkn σ σ' hσ c9 => by
  by_cases e : k = a
  · subst e; rw [zu_same]; exact hc σ σ' hσ c9
  · rw [zu_ne h c e]; exact hk k hkn σ σ' hσ c9
theorem zk_push {h : zH} {n : Nat} {c : zC} (hk : zk h n) (hc : ∀ (σ σ' : Nat → Nat), (∀ i, i < n + 1 → σ i = σ' i) → ∀ k : ClassId, ze σ k c = ze σ' k c) : zk (zu h n c) (n + 1) := fun k hkn σ σ' hσ c9 => by
  by_cases e : k = n
  · subst e; rw [zu_same]; exact hc σ σ' hσ c9
  · rw [zu_ne h c e]; exact hk k (by omega) σ σ' (fun i hi => hσ i (by omega)) c9
def zup {α : Type} (f : Nat → α) (k : Nat) (v : α) : Nat → α := fun j => if j = k then v else f j
theorem zw_push {σ : Nat → Nat} {cy : Nat → ClassId} {h : zH} {n q : Nat} {cA : ClassId} {c : zC} {e : va_E} (hk : zk h n) (he : e = ze (zup σ n q) cA c) : zw σ cy h n ++ [(q, e)] = zw (zup σ n q) (zup cy n cA) (zu h n c) (n + 1) := by
  have e1 : zw (zup σ n q) (zup cy n cA) (zu h n c) (n + 1) = (List.range n).map (fun k => (zup σ n q k, ze (zup σ n q) (zup cy n cA k) (zu h n c k))) ++ [(q, ze (zup σ n q) cA c)] := by
    simp only [zw, List.range_succ, List.map_append, List.map_cons, List.map_nil, zup, zu, if_true]
  rw [e1, he]
  congr 1
  apply List.map_congr_left
  intro k hkn
  have hkn : k < n := List.mem_range.mp hkn
  have e2 : k ≠ n := by omega
  simp only [zup, zu, if_neg e2]
  rw [hk k hkn σ (fun j => if j = n then q else σ j) (fun i hi => by show σ i = if i = n then q else σ i; rw [if_neg (by omega)])]
  rfl
theorem zs_push {σ0 σ : Nat → Nat} {n0 n q : Nat} (h0 : zs σ0 n0 σ n) (hn : n0 ≤ n) : zs σ0 n0 (zup σ n q) (n + 1) := fun k hk => by
  show (if k = n then q else σ k) = σ0 k
  rw [if_neg (by omega)]
  exact h0 k (by omega)
theorem zn_push {h : zH} {n : Nat} {c : zC} (hz : zn h n) : zn (zu h n c) (n + 1) := fun k hk => by rw [zu_ne h c (by omega)]; exact hz k (by omega)
theorem zt_push {tys : zT} {cy : Nat → ClassId} {h : zH} {n : Nat} {c : zC} {cA : ClassId} (ht : zt tys cy h n) (hc : ∀ a, c = .inl a → ∃ t0 : Nat, tys[t0]? = some (cA, a.1)) : zt tys (zup cy n cA) (zu h n c) (n + 1) := by
  intro k hk x hx
  by_cases e : k = n
  · subst e
    rw [zu_same] at hx
    simp only [zup, if_true]
    exact hc x hx
  · rw [zu_ne h c e] at hx
    simp only [zup, if_neg e]
    exact ht k (by omega) x hx
theorem zt_app {tys t2 : zT} {cy : Nat → ClassId} {h : zH} {n : Nat} (ht : zt tys cy h n) : zt (tys ++ t2) cy h n := fun k hk a ha => by
  obtain ⟨t0, e⟩ := ht k hk a ha
  exact ⟨t0, by rw [List.getElem?_append_left (List.getElem?_eq_some_iff.mp e).1]; exact e⟩
theorem zL_push {σ : Nat → Nat} {n q : Nat} {lv : List (Nat × Value)} (h : zB n (lv.map (fun q => q.2))) : zL (zup σ n q) lv = zL σ lv := by
  apply List.map_congr_left
  intro p hp
  obtain ⟨i9, v⟩ := p
  cases v with
  | ref i =>
    have hi : i < n := h _ (List.mem_map.mpr ⟨_, hp, rfl⟩) i rfl
    show (i9, Value.ref (if i = n then q else σ i)) = (i9, Value.ref (σ i))
    rw [if_neg (show ¬ i = n from Nat.ne_of_lt hi)]
  | _ => rfl
theorem zS_push {σ : Nat → Nat} {n q : Nat} {st : List Value} (h : zB n st) : zS (zup σ n q) st = zS σ st := by
  apply List.map_congr_left
  intro v hv
  cases v with
  | ref i =>
    have hi : i < n := h _ hv i rfl
    show Value.ref (if i = n then q else σ i) = Value.ref (σ i)
    rw [if_neg (show ¬ i = n from Nat.ne_of_lt hi)]
  | _ => rfl
section
variable {X : zX} {Post : zP} {cc : ByteArray} {nL : Nat} {own : String} {ret : Option FieldType} {d MC MS pc : Nat} {lv : List (Nat × Value)} {st : List Value} {h : zH} {n cells slots : Nat}
/-- new: what the tables say of a class that is made -/
def zKN (own : String) (idx ci : Nat) (fs : List Value) : Prop := ∃ (C : String) (T : u_T) (N : Nat) (ty0 : Nat → FieldType), vwCl[ci]? = some (C, T, N) ∧ (∀ w ∈ u_ws C T N, w ∈ ALL) ∧ (∀ j, j < N → parseFieldDescriptor (T j).2.2.1 = some (ty0 j)) ∧ Cond.classLink own idx C ∈ ALL ∧ Cond.instantiable C N ∈ ALL ∧ Cond.initialized C ∈ ALL ∧ (∀ j, j < N → defaultValue (ty0 j) = vp_V fs j) ∧ fs.length = N ∧ (∀ v ∈ fs, ∀ i, v ≠ .ref i)
theorem v_new {idx ci : Nat} {fs : List Value} (hK9 : zKN own idx ci fs) (hd : decode cc pc = .ok (.new idx, 3)) (hc : cells + 1 ≤ MC) (hs : slots + fs.length ≤ MS) (hk : zk h n) (hB : zB n (lv.map (fun q => q.2)) ∧ zB n st) (k : ∀ h1 : zH, zu h n (.inr (ci, fs)) = h1 → zV X Post cc nL own ret d MC MS (pc + 3) lv (.ref n :: st) h1 (n + 1) (cells + 1) (slots + fs.length)) : zV X Post cc nL own ret d MC MS pc lv st h n cells slots := by
  obtain ⟨p, l, e, R, s, m, args, below, meth, c, Q, D, A, σ0, n0, G⟩ := X
  intro C hn0 σ cy tys ls H locs h0 hO hl
  obtain ⟨hx, hb, hml, ho, hts, hlk, hA, hN, rfl, hG, hend⟩ := id C
  obtain ⟨hz, hK, ht, hP, hD, hS⟩ := id hO
  obtain ⟨C1, T, N, ty0, hci, hin, hty, hl1, hl2, hl3, hdf, hlen, hnr⟩ := hK9
  subst hlen
  refine va_new (ci := ci) (fs := fs) hx hb hts hin ty0 hty ho (hts _ hl1) (hts _ hl2) (hts _ hl3) hK hP hD hS hA hci hdf hc hs hd (fun q H1 hP hD hS => ?_)
  have e9 : (Sum.inr (ci, fs) : va_E) = ze (zup σ n q) 0 (.inr (ci, fs)) := by
    show Sum.inr (ci, fs) = Sum.inr (ci, fs.map (zv (zup σ n q)))
    rw [show fs.map (zv (zup σ n q)) = fs from by
      conv => rhs; rw [← List.map_id fs]
      apply List.map_congr_left
      intro v hv
      cases v with
      | ref i => exact absurd rfl (hnr _ hv i)
      | _ => rfl]
  rw [zw_push (cA := 0) (c := .inr (ci, fs)) hk e9] at hP hD
  have K := k _ rfl C (by omega) (zup σ n q) (zup cy n 0) tys ls H1 locs (zs_push h0 hn0) ⟨zn_push hz, hK, zt_push ht (fun a ha => by cases ha), hP, hD, hS⟩ (by rw [zL_push hB.1]; exact hl)
  have e3 : zS (zup σ n q) (.ref n :: st) = .ref q :: zS σ st := by
    show Value.ref (zup σ n q n) :: zS (zup σ n q) st = _
    rw [zS_push hB.2]; simp [zup]
  rw [e3] at K
  exact K
/-- an array of ints or longs -/
theorem v_newa {atype : ArrayType} {ty : FieldType} {a0 : vp_A} {i : Int32} {N : Nat} (hw : Cond.arrayClass ty ∈ ALL) (hty : newarray.typeOf atype = ty) (ha : ∀ cA : ClassId, vp_cell cA a0 = arrV cA N (fun _ => defaultValue ty)) (hz0 : ∀ σ, za σ a0 = a0) (hi : ¬ i < 0) (hN : i.toNatClampNeg = N) (hby : N * componentBytes ty ≤ 536870912) (hd : decode cc pc = .ok (.newarray atype, 2)) (hc : cells + 1 ≤ MC) (hs : slots + N ≤ MS) (hk : zk h n) (hB : zB n (lv.map (fun q => q.2)) ∧ zB n st)
    (k : ∀ h1 : zH, zu h n (.inl (ty, a0)) = h1 → zV X Post cc nL own ret d MC MS (pc + 2) lv (.ref n :: st) h1 (n + 1) (cells + 1) (slots + N)) : zV X Post cc nL own ret d MC MS pc lv (.int i :: st) h n cells slots := by
  obtain ⟨p, l, e, R, s, m, args, below, meth, c, Q, D, A, σ0, n0, G⟩ := X
  intro C hn0 σ cy tys ls H locs h0 hO hl
  obtain ⟨hx, hb, hml, ho, hts, hlk, hA, hNW, rfl, hG, hend⟩ := id C
  obtain ⟨hz, hK, ht, hP, hD, hS⟩ := id hO
  refine va_newa (rest := zS σ st) hx hb (by rw [hty]; exact hts _ hw) hty hK hP hD hS hA ha hi hN hby hc hs hd (fun q cA H1 hK hP hD hS => ?_)
  have e9 : (Sum.inl (cA, a0) : va_E) = ze (zup σ n q) cA (.inl (ty, a0)) := by
    show Sum.inl (cA, a0) = Sum.inl (cA, za (zup σ n q) a0)
    rw [hz0]
  rw [zw_push (cA := cA) (c := .inl (ty, a0)) hk e9] at hP hD
  have K := k _ rfl C (by omega) (zup σ n q) (zup cy n cA) (tys ++ [(cA, ty)]) ls H1 locs (zs_push h0 hn0) ⟨zn_push hz, hK, zt_push (zt_app ht) (fun a ha => by cases ha; exact ⟨tys.length, by simp⟩), hP, hD, hS⟩ (by rw [zL_push hB.1]; exact hl)
  have e3 : zS (zup σ n q) (.ref n :: st) = .ref q :: zS σ st := by
    show Value.ref (zup σ n q n) :: zS (zup σ n q) st = _
    rw [zS_push hB.2]; simp [zup]
  rw [e3] at K
  exact K
end
section
variable {X : zX} {Post : zP} {cc : ByteArray} {nL : Nat} {own : String} {ret : Option FieldType} {d MC MS pc : Nat} {lv : List (Nat × Value)} {st : List Value} {h : zH} {n cells slots : Nat}
/-- an array of objects -/
theorem v_newq {idx : Nat} {C1 : String} {i : Int32} {N : Nat} (hAO : C1 = "PositHouse$Quire" ∨ C1 = "PositHouseModel$Sum") (hw : Cond.classLink own idx C1 ∈ ALL) (hi : ¬ i < 0) (hN : i.toNatClampNeg = N) (hby : N * 4 ≤ 536870912) (hd : decode cc pc = .ok (.anewarray idx, 3)) (hc : cells + 1 ≤ MC) (hs : slots + N ≤ MS) (hk : zk h n) (hB : zB n (lv.map (fun q => q.2)) ∧ zB n st)
    (k : ∀ h1 : zH, zu h n (.inl (.object C1, N, .inr (.inr (.inr (.inr (fun _ => none)))))) = h1 → zV X Post cc nL own ret d MC MS (pc + 3) lv (.ref n :: st) h1 (n + 1) (cells + 1) (slots + N)) : zV X Post cc nL own ret d MC MS pc lv (.int i :: st) h n cells slots := by
  obtain ⟨p, l, e, R, s, m, args, below, meth, c, Q, D, A, σ0, n0, G⟩ := X
  intro C hn0 σ cy tys ls H locs h0 hO hl
  obtain ⟨hx, hb, hml, ho, hts, hlk, hA, hNW, rfl, hG, hend⟩ := id C
  obtain ⟨hz, hK, ht, hP, hD, hS⟩ := id hO
  have hao : va_AO C1 s := by rcases hAO with rfl | rfl
                              · exact hNW.2.1
                              · exact hNW.2.2
  refine va_newq (rest := zS σ st) hx hb ho (hts _ hw) hao hK hP hD hS hA hi hN hby hc hs hd (fun q cA H1 hK hP hD hS => ?_)
  have e9 : (Sum.inl (cA, N, .inr (.inr (.inr (.inr (fun _ => none))))) : va_E) = ze (zup σ n q) cA (.inl (.object C1, N, .inr (.inr (.inr (.inr (fun _ => none)))))) := rfl
  rw [zw_push (cA := cA) (c := .inl (.object C1, N, .inr (.inr (.inr (.inr (fun _ => none)))))) hk e9] at hP hD
  have K := k _ rfl C (by omega) (zup σ n q) (zup cy n cA) (tys ++ [(cA, .object C1)]) ls H1 locs (zs_push h0 hn0) ⟨zn_push hz, hK, zt_push (zt_app ht) (fun a ha => by cases ha; exact ⟨tys.length, by simp⟩), hP, hD, hS⟩ (by rw [zL_push hB.1]; exact hl)
  have e3 : zS (zup σ n q) (.ref n :: st) = .ref q :: zS σ st := by
    show Value.ref (zup σ n q n) :: zS (zup σ n q) st = _
    rw [zS_push hB.2]; simp [zup]
  rw [e3] at K
  exact K
theorem v_aast {a b ci N : Nat} {C1 : String} {T : u_T} {N9 : Nat} {vs : List Value} {f : Nat → Option Nat} {i : Int32} (hd : decode cc pc = .ok (.aastore, 1)) (ha : h a = .inl (.object C1, N, .inr (.inr (.inr (.inr f))))) (hb9 : h b = .inr (ci, vs)) (hci : vwCl[ci]? = some (C1, T, N9)) (hin : vp_in i N)
    (k : ∀ h1 : zH, zu h a (.inl (.object C1, N, .inr (.inr (.inr (.inr (va_up f i.toNatClampNeg (some b))))))) = h1 → zV X Post cc nL own ret d MC MS (pc + 1) lv st h1 n cells slots) : zV X Post cc nL own ret d MC MS pc lv (.ref b :: .int i :: .ref a :: st) h n cells slots := by
  obtain ⟨p, l, e, R, s, m, args, below, meth, c, Q, D, A, σ0, n0, G⟩ := X
  intro C hn0 σ cy tys ls H locs h0 hO hl
  obtain ⟨hz, hK, ht, hP, hD, hS⟩ := id hO
  have han : a < n := zn_lt hz (by rw [ha]; intro q; cases q)
  have hbn : b < n := zn_lt hz (by rw [hb9]; intro q; cases q; exact absurd (hci.symm.trans (show vwCl[9999]? = none from rfl)) (by simp))
  obtain ⟨t0, ht0⟩ := ht a han _ ha
  refine va_astq (r := (C1, T, N9)) C.1 C.2.1 hK hP hD hS a t0 b ci ((zw_get han).trans (by rw [ha]; rfl)) ht0 ((zw_get hbn).trans (by rw [hb9]; rfl)) hci hin hd (fun H1 locs1 hP hD hS => ?_)
  have e8 : va_up (fun j => (f j).map σ) i.toNatClampNeg (some (σ b)) = fun j => (va_up f i.toNatClampNeg (some b) j).map σ := by
    funext j; simp only [va_up]; split <;> rfl
  have e9 : (zw σ cy h n).set a (σ a, Sum.inl (cy a, N, .inr (.inr (.inr (.inr (va_up (fun j => (f j).map σ) i.toNatClampNeg (some (σ b)))))))) = zw σ cy (zu h a (.inl (.object C1, N, .inr (.inr (.inr (.inr (va_up f i.toNatClampNeg (some b)))))))) n := by
    rw [e8]; exact zw_set (c := .inl (.object C1, N, .inr (.inr (.inr (.inr (va_up f i.toNatClampNeg (some b))))))) han
  rw [e9] at hP hD
  exact k _ rfl C hn0 σ cy tys ls H1 locs1 h0 ⟨zn_set hz han, hK, zt_set ht (fun y hy => by cases hy; exact ⟨_, ha, rfl⟩), hP, hD, hS⟩ hl
/-- Object's constructor -/
theorem v_objInit {a idx : Nat} (hw : Cond.methodLink own idx objectInit ∈ ALL ∧ Cond.instanceMethod objectInit ∈ ALL ∧ Cond.code objectInit ⟨#[0xb1]⟩ 1 none ∈ ALL) (hd : decode cc pc = .ok (.invokespecial idx, 3)) (hdd : 1 ≤ d) (hW : (st.map fun v => v.category).sum ≤ 8) (k : zV X Post cc nL own ret d MC MS (pc + 3) lv st h n cells slots) : zV X Post cc nL own ret d MC MS pc lv (.ref a :: st) h n cells slots := by
  obtain ⟨p, l, e, R, s, m, args, below, meth, c, Q, D, A, σ0, n0, G⟩ := X
  intro C hn0 σ cy tys ls H locs h0 hO hl
  obtain ⟨hx, hb, hml, ho, hts, hlk, hA, hNW, rfl, hG, hend⟩ := id C
  refine W.objInit hx hb ho (hts _ hw.1) (hts _ hw.2.1) (hts _ hw.2.2) rfl (by rw [hml]; exact hl.1) rfl hd hdd ?_ ?_
  · have h8 : ((zS σ st).map fun v => v.category).sum ≤ 8 := by
      simp only [zS, List.map_map]; rw [show ((fun v => v.category) ∘ zv σ : Value → Nat) = fun v => v.category from funext (zv_cat σ)]; exact hW
    have h9 := lv_room (m := m) (pc := pc) (ls := ls) (rest := zS σ (.ref a :: st)) h8
    show 2 * (F0 m pc ls (zS σ (.ref a :: st))).monitorRoom + ((zS σ st).map fun v => v.category).sum + 12 ≤ 40 * d
    omega
  · exact k C hn0 σ cy tys ls H locs h0 hO hl
/-- a final field, in its own class' constructor -/
theorem v_putF {a idx ci fk : Nat} {ty : FieldType} {fs fs' : List Value} {v : Value} (hG9 : zI X "<init>") (hF : zFF own idx ci fk ty) (hd : decode cc pc = .ok (.putfield idx, 3)) (ha : h a = .inr (ci, fs)) (hci : ci < 9999) (hl9 : fk < fs.length) (hv : narrow ty v = v) (hf : fits ty v = true) (hs : fs.set fk v = fs') (k : ∀ h1 : zH, zu h a (.inr (ci, fs')) = h1 → zV X Post cc nL own ret d MC MS (pc + 3) lv st h1 n cells slots) : zV X Post cc nL own ret d MC MS pc lv (v :: .ref a :: st) h n cells slots := by
  obtain ⟨p, l, e, R, s, m, args, below, meth, c, Q, D, A, σ0, n0, G⟩ := X
  intro C hn0 σ cy tys ls H locs h0 hO hl
  obtain ⟨hx, hb, hml, ho, hts, hlk, hA, hNW, rfl, hG, hend⟩ := id C
  obtain ⟨hz, hK, ht, hP, hD, hS⟩ := id hO
  obtain ⟨C1, T, N, ty0, hc, hk, hin, hlk, hty, hnm, hfin, hty1, hown⟩ := hF
  have han : a < n := zn_lt hz (by rw [ha]; intro q; cases q; exact absurd hci (by decide))
  obtain ⟨v1, v2⟩ := zv_fit (σ := σ) hv hf
  refine va_putF hx hb hts hin ty0 hty hnm ho hK hP hD hS a ((zw_get han).trans (by rw [ha]; rfl)) hc _ hk (hts _ hlk) (fun _ q => q) hfin (hG9 hG) hown (by rw [hty _ hk, hty1]) v1 v2 (by rw [List.length_map]; exact hl9) hd (fun H1 locs1 hP hD hS => ?_)
  have e9 : (σ a, Sum.inr (ci, (List.map (zv σ) (ci, fs).snd).set fk (zv σ v))) = (σ a, ze σ (cy a) (.inr (ci, fs'))) := by rw [← hs]; simp only [ze, List.map_set]
  rw [e9, zw_set han] at hP hD
  exact k _ rfl C hn0 σ cy tys ls H1 locs1 h0 ⟨zn_set hz han, hK, zt_set ht (fun x hx => by cases hx), hP, hD, hS⟩ hl
/-- System.arraycopy between two int arrays -/
theorem v_copyi {a b idx N0 N1 : Nat} {f g : Nat → Int32} {sp dp cnt : Int32} (hw : Cond.methodLink own idx arraycopyName ∈ ALL ∧ Cond.native arraycopyName ∈ ALL ∧ Cond.static arraycopyName ∈ ALL ∧ Cond.initialized "java/lang/System" ∈ ALL) (hd : decode cc pc = .ok (.invokestatic idx, 3)) (hdd : 1 ≤ d) (hW : (st.map fun v => v.category).sum ≤ 8) (ha : h a = .inl (.int, N0, .inl f)) (hb9 : h b = .inl (.int, N1, .inl g)) (h1 : ¬ sp < 0) (h2 : ¬ dp < 0) (h3 : ¬ cnt < 0) (h4 : sp.toNatClampNeg + cnt.toNatClampNeg ≤ N0) (h5 : dp.toNatClampNeg + cnt.toNatClampNeg ≤ N1)
    (k : ∀ h1 : zH, zu h b (.inl (.int, N1, .inl (va_cpy f g sp.toNatClampNeg dp.toNatClampNeg cnt.toNatClampNeg))) = h1 → zV X Post cc nL own ret d MC MS (pc + 3) lv st h1 n cells slots) : zV X Post cc nL own ret d MC MS pc lv (.int cnt :: .int dp :: .ref b :: .int sp :: .ref a :: st) h n cells slots := by
  obtain ⟨p, l, e, R, s, m, args, below, meth, c, Q, D, A, σ0, n0, G⟩ := X
  intro C hn0 σ cy tys ls H locs h0 hO hl
  obtain ⟨hx, hb, hml, ho, hts, hlk, hA, hNW, rfl, hG, hend⟩ := id C
  obtain ⟨hz, hK, ht, hP, hD, hS⟩ := id hO
  have han : a < n := zn_lt hz (by rw [ha]; intro q; cases q)
  have hbn : b < n := zn_lt hz (by rw [hb9]; intro q; cases q)
  obtain ⟨t0, ht0⟩ := ht a han _ ha
  obtain ⟨t1, ht1⟩ := ht b hbn _ hb9
  refine va_copyi (rest := zS σ st) (ty := .int) hx hb (by rw [hml]; exact hl.1.symm) ho (hts _ hw.1) (hts _ hw.2.1) (hts _ hw.2.2.1) (hts _ hw.2.2.2) hK hP hD hS a b t0 t1 ((zw_get han).trans (by rw [ha]; rfl)) ((zw_get hbn).trans (by rw [hb9]; rfl)) ht0 ht1 rfl h1 h2 h3 h4 h5 (fun _ _ => rfl) hdd ?_ hd (fun H1 locs1 hP hD hS => ?_)
  · have h8 : ((zS σ st).map fun v => v.category).sum ≤ 8 := by
      simp only [zS, List.map_map]; rw [show ((fun v => v.category) ∘ zv σ : Value → Nat) = fun v => v.category from funext (zv_cat σ)]; exact hW
    have h9 : nativeFrameWords "java/lang/System" "arraycopy" 5 ≤ 20 := by decide
    show ((zS σ st).map fun v => v.category).sum + (nativeFrameWords "java/lang/System" "arraycopy" 5 + 11) ≤ 40 * d
    omega
  · have e9 : (zw σ cy h n).set b (σ b, Sum.inl (cy b, N1, .inl (va_cpy f g sp.toNatClampNeg dp.toNatClampNeg cnt.toNatClampNeg))) = zw σ cy (zu h b (.inl (.int, N1, .inl (va_cpy f g sp.toNatClampNeg dp.toNatClampNeg cnt.toNatClampNeg)))) n := zw_set (c := .inl (.int, N1, .inl (va_cpy f g sp.toNatClampNeg dp.toNatClampNeg cnt.toNatClampNeg))) hbn
    rw [e9] at hP hD
    exact k _ rfl C hn0 σ cy tys ls H1 locs1 h0 ⟨zn_set hz hbn, hK, zt_set ht (fun y hy => by cases hy; exact ⟨_, hb9, rfl⟩), hP, hD, hS⟩ hl
end
