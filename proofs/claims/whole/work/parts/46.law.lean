/-! The law's static methods: they call the class and catch what it throws. -/
/-- the contract of a method with a table of its own that always returns -/
def zMW (y : MethodName) (cc : ByteArray) (nL : Nat) (ret : Option FieldType) (hh : List (Nat × Nat × Nat × Nat)) (d mc ms : Nat) (av : List Value) (h : zH) (n : Nat) (Post : zP) : Prop :=
  ∀ (l : Launch) (D : va_G) (σ : Nat → Nat) (cy : Nat → ClassId) (tys : zT) (sz : Nat), l.stackTraces = false → zn h n → zt tys cy h n → Met l y (Cond.codeWith y cc nL ret hh :: ALL) (zR d mc ms) (zPcX D σ cy tys sz h n av) (zQ Post D σ cy sz h n) mc ms (va_A (zw σ cy h n) sz)
/-- what the tables say of such a method -/
def zYW (y : MethodName) (cc : ByteArray) (nL : Nat) (ret : Option FieldType) (hh : List (Nat × Nat × Nat × Nat)) (np : Nat) : Prop := Cond.codeWith y cc nL ret hh ∈ ALL ∧ Cond.initialized y.cls ∈ ALL ∧ (y.cls ≠ "java/lang/invoke/MethodHandle" ∧ y.cls ≠ "java/lang/invoke/VarHandle" ∧ (parseMethodDescriptor y.desc).map (fun d => d.parameters.length) = some np) ∧ plainName y.cls = true ∧ nL ≤ 21
/-- a run that may meet throws -/
def zLE (X : zX) : Prop := match X with
  | (_, l, _, _, s, _, _, _, _, _, _, _, A, _, _, _) => l.stackTraces = false ∧ zZ A s s.heap
def zWE (X : zX) (hh : List (Nat × Nat × Nat × Nat)) : Prop := match X with
  | (_, l, _, _, s, _, _, _, _, c, _, _, A, _, _, _) => (l.stackTraces = false ∧ zZ A s s.heap) ∧ c.exceptionTable.toList = tableOf hh
theorem zMW_of {y : MethodName} {cc : ByteArray} {nL np : Nat} {ret : Option FieldType} {hh : List (Nat × Nat × Nat × Nat)} {own : String} {d mc ms : Nat} {av : List Value} {h : zH} {n : Nat} {Post : zP} (hY : zYW y cc nL ret hh np) (hown : y.cls = own) (hav : (lg_sl av).length ≤ nL)
    (body : ∀ X, zI X y.name → zWE X hh → zV X Post cc nL own ret d mc ms 0 (lv_args 0 av) [] h n 0 0) : zMW y cc nL ret hh d mc ms av h n Post := by
  intro l D σ cy tys sz hst hz ht
  refine va_MetW (hh := hh) (cc := cc) (maxL := nL) (ret := ret) hY.2.2.2.1 rfl ?_
  intro p e s m args below meth c s₁ B hml hv
  obtain ⟨rfl, ⟨hsz, hP, hK, hD0, hN⟩, hZ⟩ := hv
  subst hsz
  have hts := atoms_spec (ws := Cond.codeWith y cc nL ret hh :: ALL) B.pre
  have hown9 : s.vm.findClass own = some m.cls := by rw [← hown]; exact findClass_of_methodNamed B.named
  have htab := vx_table (x := y) B (hts _ List.mem_cons_self)
  have hD := hD0.self (sz := s.heap.size)
  rw [lg_entry_eq]
  have hl := lv_entry (zS σ av) (n := nL) (by rw [lg_sl_z]; exact hav)
  rw [lv_args_z] at hl
  have K := body (p, l, e, zR d mc ms, s, m, (zS σ av).toArray, below, meth, c, MQ below (zQ Post D σ cy s.heap.size h n) (zS σ av).toArray s mc ms (va_A (zw σ cy h n) s.heap.size), D, va_A (zw σ cy h n) s.heap.size, σ, n, True) (fun _ => (name_of_methodNamed B.named B.method).1) ⟨⟨hst, hZ⟩, htab⟩
  refine K ⟨B.exec, B.bytes, hml, hown9, fun w hw => hts w (List.mem_cons_of_mem _ hw), B.notSynchronized, fun q hq => Or.inr hq, hN, rfl, trivial, ?_⟩ (Nat.le_refl n) σ cy tys _ s.heap [] (fun _ _ => rfl) ⟨hz, hK, ht, hP, hD, va_S.rf⟩ hl
  intro r h' n' pc cells slots σ' cy' tys' ls H locs hp hn hc hs hr hrd h0 hO
  obtain ⟨hz', hK', ht', hP', hD', hS'⟩ := hO
  have hq : ∀ t : State, t.heap = H → s.WarmedH t.vm → zQ Post D σ cy s.heap.size h n (zS σ av).toArray s (.returned (r.map (zv σ'))) t := fun t ht9 hW =>
    ⟨⟨r, h', n', σ', cy', tys', rfl, hp, hn, h0, hz', ht', by rw [ht9]; exact hP', va_K.moved hW.alike hK', hD'⟩, hS'.F ht9⟩
  refine W.widen hc hs ?_
  have hret := B.returns
  have hlk := B.notSynchronized
  match ret, r, hr, hrd, hret, hq with
  | none, none, _, hrd, hret, hq => exact W.vret B.exec B.bytes hret hq hS'.2.2 hrd hlk
  | some .int, some (.int x), _, hrd, hret, hq => exact W.iret B.exec B.bytes hret hq hS'.2.2 hrd hlk
  | some .boolean, some (.int x), hr, hrd, hret, hq => exact W.zret B.exec B.bytes hret (by rcases hr with rfl | rfl <;> rfl) hq hS'.2.2 hrd hlk
  | some .long, some (.long x), _, hrd, hret, hq => exact W.lret B.exec B.bytes hret hq hS'.2.2 hrd hlk
/-- what stands at a handler: it stores what came, and answers v -/
def zAs (cc : ByteArray) (nL hp : Nat) (v : Int) : Prop := (∃ k, decode cc hp = .ok (.astore k, 2) ∧ k < nL ∧ decode cc (hp + 2) = .ok (.iconst v, 1) ∧ decode cc (hp + 3) = .ok (.ireturn, 1)) ∨ (∃ k : Fin 4, decode cc hp = .ok (.astore_n k, 1) ∧ (k : Nat) < nL ∧ decode cc (hp + 1) = .ok (.iconst v, 1) ∧ decode cc (hp + 2) = .ok (.ireturn, 1))
/-- the row of the table that takes E, thrown at pc -/
def zHt (own E : String) (pc : Nat) (hh : List (Nat × Nat × Nat × Nat)) (hp : Nat) : Prop :=
  ∃ (pre : List (Nat × Nat × Nat × Nat)) (a b ct : Nat) (suf : List (Nat × Nat × Nat × Nat)), hh = pre ++ (a, b, hp, ct) :: suf ∧ (∀ z ∈ pre, z.2.2.2 ≠ 0 ∧ ∃ nm : String, Cond.classLink own z.2.2.2 nm ∈ ALL ∧ (E, nm) ∈ ZNc) ∧ covers (⟨a, b, hp, ct⟩ : ExceptionTableEntry) pc = true ∧ ct ≠ 0 ∧ Cond.classLink own ct E ∈ ALL ∧ Cond.castable E E ∈ ZB
section
variable {X : zX} {Post Post' : zP} {cc ccy : ByteArray} {nL nLy np : Nat} {own : String} {ret rety : Option FieldType} {d MC MS pc dy mc ms idx : Nat} {lv : List (Nat × Value)} {st av : List Value} {h : zH} {n cells slots : Nat} {y : MethodName} {E : String} {XP XP' : zH → Prop} {hh : List (Nat × Nat × Nat × Nat)}
/-- a virtual call that throws; it is caught here -/
theorem v_cVc {st0 : List Value} {a ci : Nat} {fs : List Value} {T : u_T} {N : Nat} {hp : Nat} {v : Int} (hE : zWE X hh) (hY : zY y ccy nLy rety np) (hK : zKV own idx y) (ha : h a = .inr (ci, fs)) (hci : vwCl[ci]? = some (y.cls, T, N)) (hM : zT9 y ccy nLy rety dy mc ms (.ref a :: av) h n E XP') (hd : decode cc pc = .ok (.invokevirtual idx, 3)) (hst : st0 = av.reverse ++ .ref a :: st) (hnp : av.length = np) (hW : (st.map fun v => v.category).sum ≤ 8) (hdd : dy + 1 ≤ d) (hc : cells + mc ≤ MC) (hs : slots + ms ≤ MS)
    (hht : zHt own E pc hh hp) (has : zAs cc nL hp v) (hret : ret = some .int) (k : ∀ h', XP' h' → Post (some (.int (Int32.ofInt v))) h' n) : zV X Post cc nL own ret d MC MS pc lv st0 h n cells slots := by
  obtain ⟨p, l, e, R, s, m, args, below, meth, c, Q, D, A, σ0, n0, G⟩ := X
  intro C hn0 σ cy tys ls H locs hσ hO hl
  obtain ⟨hx, hb, hml, ho, hts, hlk, hA, hN, rfl, hG, hend⟩ := id C
  obtain ⟨⟨hst9, hZ⟩, htab⟩ := hE
  subst hst
  subst hret
  have hcb := callB_of (R := zR d MC MS) (rm := zR dy mc ms) (mc := mc) (ms := ms) np hts (all_in hY.1) rfl rfl rfl (hts _ hY.2.1) (hts _ hK.1) hY.2.2.1 (zroom hdd hY.2.2.2.2)
  have han : a < n := zn_lt hO.1 (by rw [ha]; intro q; cases q; exact absurd (hci.symm.trans (show vwCl[9999]? = none from rfl)) (by simp))
  refine zxrun (vx_runV (As := zS σ av) (b := σ a) (rest := zS σ st) ⟨hx, hb, hml, ho, hts⟩ (hM l D σ cy tys H.size hst9 hO.1 hO.2.2.1) ⟨hcb, hts _ hK.2.1, hts _ hK.2.2⟩ ⟨zPcX_blind, va_recv hO.2.1 hO.2.2.2.1 hci ((zw_get han).trans (by rw [ha]; rfl)), zPcX_at hO hA hN hZ⟩ rfl (by simp [zS, hnp]) hl.1 (by simp [zS, List.map_reverse, zv]) (lv_room (zS_cat hW)) hd ⟨hc, hs⟩) hO hA ?_
  intro h' cy' tys' H1 locs1 q ce hxp hO' hce hcv hcl
  obtain ⟨pre, a9, b9, ct, suf, ehh, hpre, hcov, hct, hlk9, hcs⟩ := hht
  have hsp : c.exceptionTable.toList = tableOf pre ++ (⟨a9, b9, hp, ct⟩ : ExceptionTableEntry) :: tableOf suf := by
    rw [htab, ehh]; unfold tableOf; rw [List.map_append, List.map_cons]
  obtain ⟨-, -, -, hNc, hZB⟩ := hZ
  refine vx_catch (name := E) ho (tableOf pre) ⟨a9, b9, hp, ct⟩ (tableOf suf) hsp ?_ hcov hct (hts _ hlk9) (va_tabs (ZB_on _ hcs) rfl (hZB _ hcs)) hce hcv hcl ?_
  · intro z hz
    obtain ⟨w, hw, rfl⟩ := List.mem_map.mp hz
    obtain ⟨h1, nm, h2, h3⟩ := hpre w hw
    exact Or.inr ⟨h1, nm, hts _ h2, hNc _ h3⟩
  · rcases has with ⟨k9, d1, hk9, d2, d3⟩ | ⟨k9, d1, hk9, d2, d3⟩
    · refine lv_astore hx hb d1 hl hk9 rfl (fun ls' hl' => lv_iconst hx hb d2 rfl ?_)
      exact hend (some (.int (Int32.ofInt v))) h' n (hp + 3) (cells + mc) (slots + ms) σ cy' tys' ls' H1 locs1 (k h' hxp) hn0 hc hs trivial d3 hσ hO'
    · refine lv_astore_n hx hb d1 rfl hl hk9 rfl (fun ls' hl' => lv_iconst hx hb d2 rfl ?_)
      exact hend (some (.int (Int32.ofInt v))) h' n (hp + 2) (cells + mc) (slots + ms) σ cy' tys' ls' H1 locs1 (k h' hxp) hn0 hc hs trivial d3 hσ hO'
/-- a static call of a method with a table of its own -/
theorem v_cSW {st0 : List Value} (hE : zLE X) (hY : zYW y ccy nLy rety hh np) (hK : zKS own idx y) (hM : zMW y ccy nLy rety hh dy mc ms av h n Post') (hd : decode cc pc = .ok (.invokestatic idx, 3)) (hst : st0 = av.reverse ++ st) (hnp : av.length = np) (hW : (st.map fun v => v.category).sum ≤ 8) (hdd : dy + 1 ≤ d) (hc : cells + mc ≤ MC) (hs : slots + ms ≤ MS)
    (hrf : (∀ r h' n', Post' r h' n' → n' = n) ∨ (zB n (lv.map (fun q => q.2)) ∧ zB n st)) (k : ∀ r h' n', Post' r h' n' → zV X Post cc nL own ret d MC MS (pc + 3) lv (r.toList ++ st) h' n' (cells + mc) (slots + ms)) : zV X Post cc nL own ret d MC MS pc lv st0 h n cells slots := by
  obtain ⟨p, l, e, R, s, m, args, below, meth, c, Q, D, A, σ0, n0, G⟩ := X
  intro C hn0 σ cy tys ls H locs h0 hO hl
  obtain ⟨hx, hb, hml, ho, hts, hlk, hA, hN, rfl, hG, hend⟩ := id C
  obtain ⟨hst9, hZ⟩ := hE
  subst hst
  have hin : GoodIn ALL (va_wsS own idx y (Cond.codeWith y ccy nLy rety hh :: ALL)) := by
    have hmem : ∀ w ∈ va_wsS own idx y (Cond.codeWith y ccy nLy rety hh :: ALL), w ∈ ALL := fun w hw => by
      unfold va_wsS at hw
      rcases List.mem_append.mp hw with hw | hw
      · simp only [List.mem_cons, List.not_mem_nil, or_false] at hw
        rcases hw with rfl | rfl | rfl
        · exact hK.1
        · exact hK.2
        · exact hY.2.1
      · rcases List.mem_cons.mp hw with rfl | hw
        · exact hY.1
        · exact hw
    exact goodIn_sub hmem (List.all_eq_true.mpr fun w hw => List.all_eq_true.mp all_good _ (hmem w hw))
  have hcb := vx_cwSW (R := zR d MC MS) (rm := zR dy mc ms) (mc := mc) (ms := ms) (hh := hh) np hts hin rfl rfl rfl hY.2.2.1 (zroom (mc := mc) (ms := ms) (MC := MC) (MS := MS) hdd hY.2.2.2.2)
  refine zcall (vx_runSW (As := zS σ av) (rest := zS σ st) ⟨hx, hb, hml, ho, hts⟩ (hM l D σ cy tys H.size hst9 hO.1 hO.2.2.1) hcb ⟨zPcX_blind, zPcX_at hO hA hN hZ⟩ rfl (by simp [zS, hnp]) hl.1 (by simp [zS, List.map_reverse]) (lv_room (zS_cat hW)) hd ⟨hc, hs⟩) hO hA ?_
  intro r h' n' σ' cy' tys' H1 locs1 hp hn hσ hO'
  have e1 : n' = n ∨ zB n (lv.map (fun q => q.2)) := hrf.elim (fun q => Or.inl (q r h' n' hp)) (fun q => Or.inr q.1)
  have e2 : n' = n ∨ zB n st := hrf.elim (fun q => Or.inl (q r h' n' hp)) (fun q => Or.inr q.2)
  have K := k r h' n' hp C (Nat.le_trans hn0 hn) σ' cy' tys' ls H1 locs1 (zs_trans h0 hσ hn0 hn) hO' (by rw [zL_eq hσ e1]; exact hl)
  have e3 : zS σ' (r.toList ++ st) = (r.map (zv σ')).toList ++ zS σ st := by
    rw [← zS_eq hσ e2]; cases r <;> simp [zS]
  rw [e3] at K
  exact K
end
