/-! Contracts of methods in the clean world, and calls. -/
def zPc (D : va_G) (σ : Nat → Nat) (cy : Nat → ClassId) (tys : zT) (sz : Nat) (h : zH) (n : Nat) (av : List Value) : Array Value → State → Prop :=
  va_Pc (zS σ av) (fun U => U.heap.size = sz ∧ va_P D vwCl (zw σ cy h n) U.heap ∧ va_K D vwCl tys U ∧ va_D (fun _ => True) (zw σ cy h n) ∧ NW U)
def zQ (Post : zP) (D : va_G) (σ : Nat → Nat) (cy : Nat → ClassId) (sz : Nat) (h : zH) (n : Nat) : Array Value → State → Outcome → State → Prop := fun _ st oc t =>
  (∃ (r : Option Value) (h' : zH) (n' : Nat) (σ' : Nat → Nat) (cy' : Nat → ClassId) (tys' : zT), oc = .returned (r.map (zv σ')) ∧ Post r h' n' ∧ n ≤ n' ∧ zs σ n σ' n' ∧ zn h' n' ∧ zt tys' cy' h' n' ∧ va_P D vwCl (zw σ' cy' h' n') t.heap ∧ va_K D vwCl tys' t ∧ va_D (va_A (zw σ cy h n) sz) (zw σ' cy' h' n')) ∧ va_F (va_A (zw σ cy h n) sz) st t
/-- the contract: called with av in the world (h, n), y returns, and Post tells answer and world; at most mc cells of ms slots are new -/
def zM (y : MethodName) (cc : ByteArray) (nL : Nat) (ret : Option FieldType) (d mc ms : Nat) (av : List Value) (h : zH) (n : Nat) (Post : zP) : Prop :=
  ∀ (l : Launch) (D : va_G) (σ : Nat → Nat) (cy : Nat → ClassId) (tys : zT) (sz : Nat), zn h n → zt tys cy h n → Met l y (Cond.code y cc nL ret :: ALL) (zR d mc ms) (zPc D σ cy tys sz h n av) (zQ Post D σ cy sz h n) mc ms (va_A (zw σ cy h n) sz)
/-- what the tables say of a method -/
def zY (y : MethodName) (cc : ByteArray) (nL : Nat) (ret : Option FieldType) (np : Nat) : Prop := Cond.code y cc nL ret ∈ ALL ∧ Cond.initialized y.cls ∈ ALL ∧ (y.cls ≠ "java/lang/invoke/MethodHandle" ∧ y.cls ≠ "java/lang/invoke/VarHandle" ∧ (parseMethodDescriptor y.desc).map (fun d => d.parameters.length) = some np) ∧ (plainName y.cls = true ∨ plainFor y = true) ∧ nL ≤ 21
theorem lv_args_z (σ : Nat → Nat) : ∀ (av : List Value) (i : Nat), lv_args i (zS σ av) = zL σ (lv_args i av)
  | [], _ => rfl
  | v :: vs, i => by
    show (i, zv σ v) :: lv_args (if (zv σ v).category = 2 then i + 2 else i + 1) (zS σ vs) = (i, zv σ v) :: zL σ (lv_args (if v.category = 2 then i + 2 else i + 1) vs)
    rw [zv_cat, lv_args_z σ vs]
theorem lg_sl_z (σ : Nat → Nat) (av : List Value) : (lg_sl (zS σ av)).length = (lg_sl av).length := by
  induction av with
  | nil => rfl
  | cons v t ih =>
    simp only [zS, lg_sl, List.map_cons, List.flatMap_cons, List.length_append, zv_cat] at ih ⊢
    rw [ih]
    split <;> rfl
theorem zMet {l : Launch} {y : MethodName} {ws ws' : List Cond} {rm : Room} {Pc : Array Value → State → Prop} {Qc : Array Value → State → Outcome → State → Prop} {mc ms : Nat} {free : Addr → Prop} {cc : ByteArray} {maxL : Nat} {ret : Option FieldType}
    (hy : plainName y.cls = true ∨ plainFor y = true) (hw : ws = Cond.code y cc maxL ret :: ws')
    (body : ∀ p e s m args below meth c s₁, BodyLoose p l y (headSpec ws rm) cc maxL ret e s m args below meth c s₁ → c.maxLocals = maxL → Pc args s →
      W p l e (headSpec ws rm).room s m args below meth c s.heap [] 0 0 (MQ below Qc args s mc ms free) (entryFrame m args maxL)) : Met l y ws rm Pc Qc mc ms free := by
  rcases hy with hy | hy
  · exact Met.ofW hy hw body
  · exact va_MetF hy hw body
/-- the method's name -/
def zI (X : zX) (nm : String) : Prop := X.2.2.2.2.2.2.2.2.2.2.2.2.2.2.2 → X.2.2.2.2.2.2.2.2.1.name = nm
theorem zM_of {y : MethodName} {cc : ByteArray} {nL np : Nat} {ret : Option FieldType} {own : String} {d mc ms : Nat} {av : List Value} {h : zH} {n : Nat} {Post : zP} (hY : zY y cc nL ret np) (hown : y.cls = own) (hav : (lg_sl av).length ≤ nL)
    (body : ∀ X, zI X y.name → zV X Post cc nL own ret d mc ms 0 (lv_args 0 av) [] h n 0 0) : zM y cc nL ret d mc ms av h n Post := by
  intro l D σ cy tys sz hz ht
  refine zMet (cc := cc) (maxL := nL) (ret := ret) hY.2.2.2.1 rfl ?_
  intro p e s m args below meth c s₁ B hml hv
  obtain ⟨rfl, hsz, hP, hK, hD0, hN⟩ := hv
  subst hsz
  have hts := atoms_spec (ws := Cond.code y cc nL ret :: ALL) B.pre
  have hown9 : s.vm.findClass own = some m.cls := by rw [← hown]; exact findClass_of_methodNamed B.named
  have hD := hD0.self (sz := s.heap.size)
  rw [lg_entry_eq]
  have hl := lv_entry (zS σ av) (n := nL) (by rw [lg_sl_z]; exact hav)
  rw [lv_args_z] at hl
  have K := body (p, l, e, zR d mc ms, s, m, (zS σ av).toArray, below, meth, c, MQ below (zQ Post D σ cy s.heap.size h n) (zS σ av).toArray s mc ms (va_A (zw σ cy h n) s.heap.size), D, va_A (zw σ cy h n) s.heap.size, σ, n, True) (fun _ => (name_of_methodNamed B.named B.method).1)
  refine K ⟨B.exec, B.bytes, hml, hown9, fun w hw => hts w (List.mem_cons_of_mem _ hw), B.notSynchronized, fun q hq => Or.inr hq, hN, rfl, trivial, ?_⟩ (Nat.le_refl n) σ cy tys _ s.heap [] (fun _ _ => rfl) ⟨hz, hK, ht, hP, hD, va_S.rf⟩ hl
  intro r h' n' pc cells slots σ' cy' tys' ls H locs hp hn hc hs hr hrd h0 hO
  obtain ⟨hz', hK', ht', hP', hD', hS'⟩ := hO
  have hq : ∀ t : State, t.heap = H → s.WarmedH t.vm → zQ Post D σ cy s.heap.size h n (zS σ av).toArray s (.returned (r.map (zv σ'))) t := fun t ht9 hW =>
    ⟨⟨r, h', n', σ', cy', tys', rfl, hp, hn, h0, hz', ht', by rw [ht9]; exact hP', va_K.moved hW.alike hK', hD'⟩, hS'.F ht9⟩
  refine W.widen hc hs ?_
  have hret := B.returns
  have hlk := B.notSynchronized
  match ret, r, hr, hrd, hret, hq with
  | none, none, _, hrd, hret, hq => exact W.vret B.exec B.bytes hret hq hS'.2.2 hrd hlk
  | some .int, some (.int x), _, hrd, hret, hq => exact W.iret B.exec B.bytes hret hq hS'.2.2 hrd hlk
  | some .boolean, some (.int x), hr, hrd, hret, hq => exact W.zret B.exec B.bytes hret (by rcases hr with rfl | rfl <;> rfl) hq hS'.2.2 hrd hlk
  | some .long, some (.long x), _, hrd, hret, hq => exact W.lret B.exec B.bytes hret hq hS'.2.2 hrd hlk
/-- behind a call -/
theorem zcall {p : Program} {l : Launch} {e : Env} {R : Room} {s : State} {m : MethodId} {args : Array Value} {below : List Frame} {meth : Method} {c : Code} {H : Heap} {locs : List Loc} {cells slots mc ms pc : Nat} {Q : State → Prop} {D : va_G} {A : Nat → Prop} {σ : Nat → Nat} {cy : Nat → ClassId} {tys : zT} {h : zH} {n : Nat} {Post : zP} {ls : Array Slot} {st0 rest : List Value} {a : Array Value}
    (hr : va_Run p l e R s m args below meth c H locs cells slots mc ms (F0 m pc ls st0) rest (zQ Post D σ cy H.size h n a) (va_A (zw σ cy h n) H.size)) (hO : zO D A s s.heap σ cy tys h n H locs) (hA : ∀ q : Nat, s.heap.size ≤ q → A q)
    (kk : ∀ (r : Option Value) (h' : zH) (n' : Nat) (σ' : Nat → Nat) (cy' : Nat → ClassId) (tys' : zT) (H1 : Heap) (locs1 : List Loc), Post r h' n' → n ≤ n' → zs σ n σ' n' → zO D A s s.heap σ' cy' tys' h' n' H1 locs1 → W p l e R s m args below meth c H1 locs1 (cells + mc) (slots + ms) Q (F0 m (pc + 3) ls ((r.map (zv σ')).toList ++ rest))) : W p l e R s m args below meth c H locs cells slots Q (F0 m pc ls st0) := by
  intro T hT X
  obtain ⟨v, st₀, t, T', L, e0, X', hL, e1, e2, ⟨⟨r, h', n', σ', cy', tys', hv, hp, hn, hσ, hz', ht', hP', hK', hD'⟩, hz, hk⟩, go⟩ := hr T hT X
  obtain ⟨hz0, hK, ht, hP, hD, hS⟩ := hO
  cases hv
  rw [e0] at hz hk
  have hF : ∀ q, va_A (zw σ cy h n) H.size q → A q := by
    intro q hq
    rcases hq with ⟨k, e9, hq⟩ | hq
    · exact hD.2 k _ hq
    · exact hA q (Nat.le_trans hS.1 hq)
  obtain ⟨t2, a1, b1⟩ := kk r h' n' σ' cy' tys' T'.heap (locs ++ L) hp hn hσ
    ⟨hz', va_K.moved (by rw [← e2]; exact X'.warmed.alike.symm) hK', ht', by rw [e1]; exact hP', hD'.weaken (fun k q _ hq => hF _ hq),
      ⟨Nat.le_trans hS.1 (by rw [e1]; exact hz), fun q h1 h2 => by rw [e1, hk q (Nat.lt_of_lt_of_le h1 hS.1) (fun z => h2 (hF q z))]; exact hS.2.1 q h1 h2, fun q hq => by
        rcases List.mem_append.mp hq with h | h
        · exact hS.2.2 q h
        · exact hF _ (hL q h)⟩⟩ T' rfl X'
  exact ⟨t2, go t2 a1, b1⟩
theorem zPc_blind {D : va_G} {σ : Nat → Nat} {cy : Nat → ClassId} {tys : zT} {sz : Nat} {h : zH} {n : Nat} {av : List Value} : FrameBlind (zPc D σ cy tys sz h n av) := fun a U g mk q => by
  obtain ⟨q0, q1, qP, qK, qD, qN⟩ := q
  exact ⟨q0, q1, qP, va_K.moved (u := U) (U := U.calling g mk a) (Vm.Alike.refl U.vm) qK, qD, NW.same (u := U) rfl qN⟩
theorem zPc_at {D : va_G} {A : Nat → Prop} {σ : Nat → Nat} {cy : Nat → ClassId} {tys : zT} {h : zH} {n : Nat} {av : List Value} {s : State} {H0 H : Heap} {locs : List Loc} (hO : zO D A s H0 σ cy tys h n H locs) (hN : NW s) : ∀ U : State, U.heap = H → s.WarmedH U.vm → zPc D σ cy tys H.size h n av (zS σ av).toArray U := fun U hU hW => by
  obtain ⟨hz0, hK, ht, hP, hD, hS⟩ := hO
  exact ⟨rfl, by rw [hU], by rw [hU]; exact hP, va_K.moved hW.alike hK, hD.weaken (fun _ _ _ _ => trivial), NW.warm hW hN⟩
/-- the references of a list are below n -/
def zB (n : Nat) (st : List Value) : Prop := ∀ v ∈ st, ∀ i : Nat, v = .ref i → i < n
theorem zS_eq {σ σ' : Nat → Nat} {n n' : Nat} {st : List Value} (hσ : zs σ n σ' n') (h : n' = n ∨ zB n st) : zS σ' st = zS σ st := by
  apply List.map_congr_left
  intro v hv
  cases v with
  | ref i =>
    show Value.ref (σ' i) = Value.ref (σ i)
    rw [hσ i (by rcases h with h | h
                 · omega
                 · exact Or.inl (h _ hv i rfl))]
  | _ => rfl
theorem zL_eq {σ σ' : Nat → Nat} {n n' : Nat} {lv : List (Nat × Value)} (hσ : zs σ n σ' n') (h : n' = n ∨ zB n (lv.map (fun q => q.2))) : zL σ' lv = zL σ lv := by
  apply List.map_congr_left
  intro q hq
  obtain ⟨i9, v⟩ := q
  cases v with
  | ref i =>
    show (i9, Value.ref (σ' i)) = (i9, Value.ref (σ i))
    rw [hσ i (by rcases h with h | h
                 · omega
                 · exact Or.inl (h _ (List.mem_map.mpr ⟨_, hq, rfl⟩) i rfl))]
  | _ => rfl
theorem zs_trans {σ0 σ σ' : Nat → Nat} {n0 n n' : Nat} (h0 : zs σ0 n0 σ n) (h1 : zs σ n σ' n') (hn0 : n0 ≤ n) (hn : n ≤ n') : zs σ0 n0 σ' n' := fun k hk => by
  rw [h1 k (by omega), h0 k (by omega)]
def zKS (own : String) (idx : Nat) (y : MethodName) : Prop := Cond.methodLink own idx y ∈ ALL ∧ Cond.static y ∈ ALL
def zKV (own : String) (idx : Nat) (y : MethodName) : Prop := Cond.methodLink own idx y ∈ ALL ∧ Cond.instanceMethod y ∈ ALL ∧ Cond.selects y.cls y y ∈ ALL
def zKI (own : String) (idx : Nat) (y : MethodName) : Prop := Cond.methodLink own idx y ∈ ALL ∧ Cond.instanceMethod y ∈ ALL ∧ y.name = "<init>"
theorem all_in {y : MethodName} {c : ByteArray} {n : Nat} {r : Option FieldType} (h : Cond.code y c n r ∈ ALL) : GoodIn ALL (Cond.code y c n r :: ALL) := by
  refine goodIn_sub (fun w hw => ?_) (List.all_eq_true.mpr fun w hw => ?_)
  · rcases List.mem_cons.mp hw with rfl | hw
    · exact h
    · exact hw
  · rcases List.mem_cons.mp hw with rfl | hw
    · exact List.all_eq_true.mp all_good _ h
    · exact List.all_eq_true.mp all_good _ hw
section
variable {X : zX} {Post Post' : zP} {cc ccy : ByteArray} {nL nLy np : Nat} {own : String} {ret rety : Option FieldType} {d MC MS pc dy mc ms idx : Nat} {lv : List (Nat × Value)} {st av : List Value} {h : zH} {n cells slots : Nat} {y : MethodName}
theorem zroom {d dy mc ms MC MS nLy : Nat} (hdd : dy + 1 ≤ d) (hnL : nLy ≤ 21) : (zR dy mc ms).frames + 1 ≤ (zR d MC MS).frames ∧ 8 + (nLy + 11) + (zR dy mc ms).locals ≤ (zR d MC MS).locals := ⟨hdd, by show 8 + (nLy + 11) + 40 * dy ≤ 40 * d; omega⟩
/-- a static call -/
theorem v_cS {st0 : List Value} (hY : zY y ccy nLy rety np) (hK : zKS own idx y) (hM : zM y ccy nLy rety dy mc ms av h n Post') (hd : decode cc pc = .ok (.invokestatic idx, 3)) (hst : st0 = av.reverse ++ st) (hnp : av.length = np) (hW : (st.map fun v => v.category).sum ≤ 8) (hdd : dy + 1 ≤ d) (hc : cells + mc ≤ MC) (hs : slots + ms ≤ MS)
    (hrf : (∀ r h' n', Post' r h' n' → n' = n) ∨ (zB n (lv.map (fun q => q.2)) ∧ zB n st)) (k : ∀ r h' n', Post' r h' n' → zV X Post cc nL own ret d MC MS (pc + 3) lv (r.toList ++ st) h' n' (cells + mc) (slots + ms)) : zV X Post cc nL own ret d MC MS pc lv st0 h n cells slots := by
  obtain ⟨p, l, e, R, s, m, args, below, meth, c, Q, D, A, σ0, n0, G⟩ := X
  intro C hn0 σ cy tys ls H locs h0 hO hl
  obtain ⟨hx, hb, hml, ho, hts, hlk, hA, hN, rfl, hG, hend⟩ := id C
  subst hst
  have hcb := callB_of (R := zR d MC MS) (rm := zR dy mc ms) (mc := mc) (ms := ms) np hts (all_in hY.1) rfl rfl rfl (hts _ hY.2.1) (hts _ hK.1) hY.2.2.1 (zroom hdd hY.2.2.2.2)
  refine zcall (va_runS (As := zS σ av) (rest := zS σ st) ⟨hx, hb, hml, ho, hts⟩ (hM l D σ cy tys H.size hO.1 hO.2.2.1) ⟨hcb, hts _ hK.2⟩ ⟨zPc_blind, zPc_at hO hN⟩ rfl (by simp [zS, hnp]) hl.1 (by simp [zS, List.map_reverse]) (lv_room (by simp only [zS, List.map_map]; rw [show ((fun v => v.category) ∘ zv σ : Value → Nat) = fun v => v.category from funext (zv_cat σ)]; exact hW)) hd ⟨hc, hs⟩) hO hA ?_
  intro r h' n' σ' cy' tys' H1 locs1 hp hn hσ hO'
  have e1 : n' = n ∨ zB n (lv.map (fun q => q.2)) := hrf.elim (fun q => Or.inl (q r h' n' hp)) (fun q => Or.inr q.1)
  have e2 : n' = n ∨ zB n st := hrf.elim (fun q => Or.inl (q r h' n' hp)) (fun q => Or.inr q.2)
  have K := k r h' n' hp C (Nat.le_trans hn0 hn) σ' cy' tys' ls H1 locs1 (zs_trans h0 hσ hn0 hn) hO' (by rw [zL_eq hσ e1]; exact hl)
  have e3 : zS σ' (r.toList ++ st) = (r.map (zv σ')).toList ++ zS σ st := by
    rw [← zS_eq hσ e2]; cases r <;> simp [zS]
  rw [e3] at K
  exact K
/-- a virtual call -/
theorem v_cV {st0 : List Value} {a : Nat} {ci : Nat} {fs : List Value} {T : u_T} {N : Nat} (hY : zY y ccy nLy rety np) (hK : zKV own idx y) (ha : h a = .inr (ci, fs)) (hci : vwCl[ci]? = some (y.cls, T, N)) (hM : zM y ccy nLy rety dy mc ms (.ref a :: av) h n Post') (hd : decode cc pc = .ok (.invokevirtual idx, 3)) (hst : st0 = av.reverse ++ .ref a :: st) (hnp : av.length = np) (hW : (st.map fun v => v.category).sum ≤ 8) (hdd : dy + 1 ≤ d) (hc : cells + mc ≤ MC) (hs : slots + ms ≤ MS)
    (hrf : (∀ r h' n', Post' r h' n' → n' = n) ∨ (zB n (lv.map (fun q => q.2)) ∧ zB n st)) (k : ∀ r h' n', Post' r h' n' → zV X Post cc nL own ret d MC MS (pc + 3) lv (r.toList ++ st) h' n' (cells + mc) (slots + ms)) : zV X Post cc nL own ret d MC MS pc lv st0 h n cells slots := by
  obtain ⟨p, l, e, R, s, m, args, below, meth, c, Q, D, A, σ0, n0, G⟩ := X
  intro C hn0 σ cy tys ls H locs h0 hO hl
  obtain ⟨hx, hb, hml, ho, hts, hlk, hA, hN, rfl, hG, hend⟩ := id C
  subst hst
  have hcb := callB_of (R := zR d MC MS) (rm := zR dy mc ms) (mc := mc) (ms := ms) np hts (all_in hY.1) rfl rfl rfl (hts _ hY.2.1) (hts _ hK.1) hY.2.2.1 (zroom hdd hY.2.2.2.2)
  have han : a < n := zn_lt hO.1 (by rw [ha]; intro q; cases q; exact absurd (hci.symm.trans (show vwCl[9999]? = none from rfl)) (by simp))
  refine zcall (va_runV (As := zS σ av) (b := σ a) (rest := zS σ st) ⟨hx, hb, hml, ho, hts⟩ (hM l D σ cy tys H.size hO.1 hO.2.2.1) ⟨hcb, hts _ hK.2.1, hts _ hK.2.2⟩ ⟨zPc_blind, va_recv hO.2.1 hO.2.2.2.1 hci ((zw_get han).trans (by rw [ha]; rfl)), zPc_at hO hN⟩ rfl (by simp [zS, hnp]) hl.1 (by simp [zS, List.map_reverse, zv]) (lv_room (by simp only [zS, List.map_map]; rw [show ((fun v => v.category) ∘ zv σ : Value → Nat) = fun v => v.category from funext (zv_cat σ)]; exact hW)) hd ⟨hc, hs⟩) hO hA ?_
  intro r h' n' σ' cy' tys' H1 locs1 hp hn hσ hO'
  have e1 : n' = n ∨ zB n (lv.map (fun q => q.2)) := hrf.elim (fun q => Or.inl (q r h' n' hp)) (fun q => Or.inr q.1)
  have e2 : n' = n ∨ zB n st := hrf.elim (fun q => Or.inl (q r h' n' hp)) (fun q => Or.inr q.2)
  have K := k r h' n' hp C (Nat.le_trans hn0 hn) σ' cy' tys' ls H1 locs1 (zs_trans h0 hσ hn0 hn) hO' (by rw [zL_eq hσ e1]; exact hl)
  have e3 : zS σ' (r.toList ++ st) = (r.map (zv σ')).toList ++ zS σ st := by
    rw [← zS_eq hσ e2]; cases r <;> simp [zS]
  rw [e3] at K
  exact K
/-- a constructor called -/
theorem v_cI {st0 : List Value} {a : Nat} (hY : zY y ccy nLy none np) (hK : zKI own idx y) (hM : zM y ccy nLy none dy mc ms (.ref a :: av) h n Post') (hd : decode cc pc = .ok (.invokespecial idx, 3)) (hst : st0 = av.reverse ++ .ref a :: st) (hnp : av.length = np) (hW : (st.map fun v => v.category).sum ≤ 8) (hdd : dy + 1 ≤ d) (hc : cells + mc ≤ MC) (hs : slots + ms ≤ MS)
    (hrf : (∀ r h' n', Post' r h' n' → n' = n) ∨ (zB n (lv.map (fun q => q.2)) ∧ zB n st)) (k : ∀ r h' n', Post' r h' n' → zV X Post cc nL own ret d MC MS (pc + 3) lv (r.toList ++ st) h' n' (cells + mc) (slots + ms)) : zV X Post cc nL own ret d MC MS pc lv st0 h n cells slots := by
  obtain ⟨p, l, e, R, s, m, args, below, meth, c, Q, D, A, σ0, n0, G⟩ := X
  intro C hn0 σ cy tys ls H locs h0 hO hl
  obtain ⟨hx, hb, hml, ho, hts, hlk, hA, hN, rfl, hG, hend⟩ := id C
  subst hst
  have hcb := callB_of (R := zR d MC MS) (rm := zR dy mc ms) (mc := mc) (ms := ms) np hts (all_in hY.1) rfl rfl rfl (hts _ hY.2.1) (hts _ hK.1) hY.2.2.1 (zroom hdd hY.2.2.2.2)
  refine zcall (va_runI (As := zS σ av) (b := σ a) (rest := zS σ st) ⟨hx, hb, hml, ho, hts⟩ (hM l D σ cy tys H.size hO.1 hO.2.2.1) ⟨hcb, hK.2.2, hts _ hK.2.1⟩ ⟨zPc_blind, zPc_at hO hN⟩ rfl (by simp [zS, hnp]) hl.1 (by simp [zS, List.map_reverse, zv]) (lv_room (by simp only [zS, List.map_map]; rw [show ((fun v => v.category) ∘ zv σ : Value → Nat) = fun v => v.category from funext (zv_cat σ)]; exact hW)) hd ⟨hc, hs⟩) hO hA ?_
  intro r h' n' σ' cy' tys' H1 locs1 hp hn hσ hO'
  have e1 : n' = n ∨ zB n (lv.map (fun q => q.2)) := hrf.elim (fun q => Or.inl (q r h' n' hp)) (fun q => Or.inr q.1)
  have e2 : n' = n ∨ zB n st := hrf.elim (fun q => Or.inl (q r h' n' hp)) (fun q => Or.inr q.2)
  have K := k r h' n' hp C (Nat.le_trans hn0 hn) σ' cy' tys' ls H1 locs1 (zs_trans h0 hσ hn0 hn) hO' (by rw [zL_eq hσ e1]; exact hl)
  have e3 : zS σ' (r.toList ++ st) = (r.map (zv σ')).toList ++ zS σ st := by
    rw [← zS_eq hσ e2]; cases r <;> simp [zS]
  rw [e3] at K
  exact K
/-- a nest mate's constructor called -/
theorem v_cIN {st0 : List Value} {a : Nat} {host : String} (hY : zY y ccy nLy none np) (hK : Cond.methodLinkNest own idx y host ∈ NWL ∧ Cond.instanceMethod y ∈ ALL ∧ y.name = "<init>") (hM : zM y ccy nLy none dy mc ms (.ref a :: av) h n Post') (hd : decode cc pc = .ok (.invokespecial idx, 3)) (hst : st0 = av.reverse ++ .ref a :: st) (hnp : av.length = np) (hW : (st.map fun v => v.category).sum ≤ 8) (hdd : dy + 1 ≤ d) (hc : cells + mc ≤ MC) (hs : slots + ms ≤ MS)
    (hrf : (∀ r h' n', Post' r h' n' → n' = n) ∨ (zB n (lv.map (fun q => q.2)) ∧ zB n st)) (k : ∀ r h' n', Post' r h' n' → zV X Post cc nL own ret d MC MS (pc + 3) lv (r.toList ++ st) h' n' (cells + mc) (slots + ms)) : zV X Post cc nL own ret d MC MS pc lv st0 h n cells slots := by
  obtain ⟨p, l, e, R, s, m, args, below, meth, c, Q, D, A, σ0, n0, G⟩ := X
  intro C hn0 σ cy tys ls H locs h0 hO hl
  obtain ⟨hx, hb, hml, ho, hts, hlk, hA, hN, rfl, hG, hend⟩ := id C
  subst hst
  have hcb := va_cnB (R := zR d MC MS) (rm := zR dy mc ms) (mc := mc) (ms := ms) np hts (all_in hY.1) rfl rfl rfl (hN.1 _ hK.1) (hts _ hY.2.1) hY.2.2.1 (zroom hdd hY.2.2.2.2)
  refine zcall (va_runIN (As := zS σ av) (b := σ a) (rest := zS σ st) ⟨hx, hb, hml, ho, hts⟩ (hM l D σ cy tys H.size hO.1 hO.2.2.1) ⟨hcb, hK.2.2, hts _ hK.2.1⟩ ⟨zPc_blind, zPc_at hO hN⟩ rfl (by simp [zS, hnp]) hl.1 (by simp [zS, List.map_reverse, zv]) (lv_room (by simp only [zS, List.map_map]; rw [show ((fun v => v.category) ∘ zv σ : Value → Nat) = fun v => v.category from funext (zv_cat σ)]; exact hW)) hd ⟨hc, hs⟩) hO hA ?_
  intro r h' n' σ' cy' tys' H1 locs1 hp hn hσ hO'
  have e1 : n' = n ∨ zB n (lv.map (fun q => q.2)) := hrf.elim (fun q => Or.inl (q r h' n' hp)) (fun q => Or.inr q.1)
  have e2 : n' = n ∨ zB n st := hrf.elim (fun q => Or.inl (q r h' n' hp)) (fun q => Or.inr q.2)
  have K := k r h' n' hp C (Nat.le_trans hn0 hn) σ' cy' tys' ls H1 locs1 (zs_trans h0 hσ hn0 hn) hO' (by rw [zL_eq hσ e1]; exact hl)
  have e3 : zS σ' (r.toList ++ st) = (r.map (zv σ')).toList ++ zS σ st := by
    rw [← zS_eq hσ e2]; cases r <;> simp [zS]
  rw [e3] at K
  exact K
end
