/-! Throws in the clean world: methods that throw, and their catching. -/
def XI : String := "java/lang/IndexOutOfBoundsException"
def XA : String := "java/lang/IllegalArgumentException"
def XM : String := "java/lang/ArithmeticException"
def XN : List String := ["java/lang/RuntimeException", "java/lang/Exception"]
/-- the places of a throw's words in the tables -/
def ZI : List Nat := [12, 13, 14, 15, 16, 22, 29, 30] ++ (List.range 27).map (· + 283) ++ [311] ++ (List.range 11).map (· + 313) ++ (List.range 17).map (· + 325) ++ (List.range 9).map (· + 354) ++ (List.range 4).map (· + 364) ++ (List.range 9).map (· + 512) ++ (List.range 4).map (· + 522)
def ZW : List Cond := ZI.filterMap (fun i => tables_1[i]?)
theorem ZW_all {w : Cond} (h : w ∈ ZW) (g : goodWord w = true) : w ∈ ALL := by
  obtain ⟨i, -, hi⟩ := List.mem_filterMap.mp h
  exact all_t hi g
/-- words of a throw that are no steady ones -/
def ZB : List Cond := [.declares (Bundle.initS "java/lang/RuntimeException"), .declares (Bundle.initS "java/lang/Exception"), .declares (Bundle.initS Bundle.tN), .castable XI XI, .castable XA XA, .castable XM XM]
theorem ZB_on : ∀ w ∈ ZB, w.onTables = true := List.all_eq_true.mp (show ZB.all (fun w => w.onTables) = true from by decide)
theorem castW {C T : String} {s U : State} (hW : s.WarmedH U.vm) (hZ : va_Nw (.castable C T) s) : va_Nw (.castable C T) U := va_tabs rfl (rfl : (s.setVm U.vm).vm = U.vm) (by rw [Cond.castable_setVm hW.alike]; exact hZ)
theorem ZB_warm {s U : State} (hW : s.WarmedH U.vm) (h : ∀ w ∈ ZB, va_Nw w s) : ∀ w ∈ ZB, va_Nw w U := fun w hw => by
  have hz := h w hw
  simp only [ZB, List.mem_cons, List.not_mem_nil, or_false] at hw
  rcases hw with rfl | rfl | rfl | rfl | rfl | rfl
  all_goals first | exact va_Nw.warmD hW hz | exact castW hW hz
def zXw (L : List Cond) : Prop := ∀ w ∈ L, w ∈ ALL ∨ w ∈ ZB
theorem zXw_of {L : List Cond} (h : L.all (fun w => (decide (w ∈ ZW) && goodWord w) || decide (w ∈ ZB)) = true) : zXw L := fun w hw => by
  have := List.all_eq_true.mp h w hw
  rw [Bool.or_eq_true, Bool.and_eq_true] at this
  rcases this with q | q
  · exact Or.inl (ZW_all (of_decide_eq_true q.1) q.2)
  · exact Or.inr (of_decide_eq_true q)
theorem zX_I : zXw (vx_atS "PositHouse" 237 XI XN) := zXw_of (by decide +kernel)
theorem zX_A : zXw (vx_atS "PositHouse" 134 XA XN) := zXw_of (by decide +kernel)
theorem zX_M : zXw (vx_atS "PositHouse" 95 XM XN) := zXw_of (by decide +kernel)
theorem zX_i : Cond.initialized XI ∈ ALL ∧ Cond.initialized XA ∈ ALL ∧ Cond.initialized XM ∈ ALL := ⟨all_t (i := 15) rfl rfl, all_t (i := 16) rfl rfl, all_t (i := 22) rfl rfl⟩
theorem zX_k : Cond.classLink "PositHouse" 233 XI ∈ ALL ∧ Cond.classLink "PositHouse" 130 XA ∈ ALL ∧ Cond.classLink "PositHouse" 91 XM ∈ ALL := ⟨ct_2 (i := 43) rfl rfl, ct_2 (i := 114) rfl rfl, ct_3 (i := 32) rfl rfl⟩
theorem zX_l : Cond.classLink "PositHouseLaw" 13 XI ∈ ALL ∧ Cond.classLink "PositHouseLaw" 15 XA ∈ ALL ∧ Cond.classLink "PositHouseLaw" 35 XM ∈ ALL := ⟨ct_2 (i := 34) rfl rfl, ct_2 (i := 35) rfl rfl, ct_3 (i := 19) rfl rfl⟩
theorem zX_f : Bundle.fit XI = true ∧ Bundle.fit XA = true ∧ Bundle.fit XM = true ∧ ∀ n ∈ XN, Bundle.fit n = true := ⟨by decide +kernel, by decide +kernel, by decide +kernel, by decide +kernel⟩
/-- a throw's texts -/
def ZS : List (Nat × String) := [(235, "no such place"), (240, "no such width"), (93, "no whole number that a long holds"), (132, "no such root"), (145, "no such power"), (150, "no such turn"), (238, "no such quire"), (166, "no such count of products"), (172, "no such word of an image"), (182, "no such bytes, or no room for them")]
def ZNc : List (String × String) := [(XA, XI), (XM, XI)]
/-- what a throw wants of the state: the area A holds nothing of it -/
def zZ (A : Nat → Prop) (U : State) (H : Heap) : Prop := vx_Zq Bundle.tN "UNASSIGNED_STACK" Bundle.steD A U H ∧ vx_Zq Bundle.tN "SUPPRESSED_SENTINEL" Bundle.listD A U H ∧ (∀ q ∈ ZS, ∃ sa, vk_R "PositHouse" q.1 q.2 sa U) ∧ (∀ q ∈ ZNc, va_Nc q.1 q.2 U) ∧ ∀ w ∈ ZB, va_Nw w U
theorem zZ.moved {A : Nat → Prop} {s U : State} {H : Heap} (hW : s.WarmedH U.vm) (h : zZ A s H) : zZ A U H :=
  ⟨vx_Zq.moved hW.alike h.1, vx_Zq.moved hW.alike h.2.1, fun q hq => (h.2.2.1 q hq).elim fun sa hs => ⟨sa, vk_R.warm hW hs⟩, fun q hq => va_Nc.moved hW.alike (h.2.2.2.1 q hq), ZB_warm hW h.2.2.2.2⟩
theorem zZ.kept {A : Nat → Prop} {U : State} {H H1 : Heap} (h : zZ A U H) (hq : ∀ a : Nat, a < H.size → ¬ A a → H1[a]? = H[a]?) : zZ A U H1 := ⟨h.1.kept hq, h.2.1.kept hq, h.2.2⟩
theorem zZ.narrow {A B : Nat → Prop} {U : State} {H : Heap} (h : zZ A U H) (hAB : ∀ q, B q → A q) : zZ B U H := ⟨h.1.narrow hAB, h.2.1.narrow hAB, h.2.2⟩
def zPcX (D : va_G) (σ : Nat → Nat) (cy : Nat → ClassId) (tys : zT) (sz : Nat) (h : zH) (n : Nat) (av : List Value) : Array Value → State → Prop :=
  va_Pc (zS σ av) (fun U => (U.heap.size = sz ∧ va_P D vwCl (zw σ cy h n) U.heap ∧ va_K D vwCl tys U ∧ va_D (fun _ => True) (zw σ cy h n) ∧ NW U) ∧ zZ (va_A (zw σ cy h n) sz) U U.heap)
theorem zPcX_blind {D : va_G} {σ : Nat → Nat} {cy : Nat → ClassId} {tys : zT} {sz : Nat} {h : zH} {n : Nat} {av : List Value} : FrameBlind (zPcX D σ cy tys sz h n av) := fun a U g mk q => by
  obtain ⟨q0, ⟨q1, qP, qK, qD, qN⟩, qZ⟩ := q
  exact ⟨q0, ⟨q1, qP, va_K.moved (u := U) (U := U.calling g mk a) (Vm.Alike.refl U.vm) qK, qD, NW.same (u := U) rfl qN⟩, zZ.moved (s := U) (U := U.calling g mk a) (State.WarmedH.refl U) qZ⟩
theorem zA_in {D : va_G} {A : Nat → Prop} {σ : Nat → Nat} {cy : Nat → ClassId} {tys : zT} {h : zH} {n : Nat} {s : State} {H : Heap} {locs : List Loc} (hO : zO D A s s.heap σ cy tys h n H locs) (hA : ∀ q : Nat, s.heap.size ≤ q → A q) : ∀ q, va_A (zw σ cy h n) H.size q → A q := by
  obtain ⟨hz0, hK, ht, hP, hD, hS⟩ := hO
  intro q hq
  rcases hq with ⟨k, e9, hq⟩ | hq
  · exact hD.2 k _ hq
  · exact hA q (Nat.le_trans hS.1 hq)
theorem zPcX_at {D : va_G} {A : Nat → Prop} {σ : Nat → Nat} {cy : Nat → ClassId} {tys : zT} {h : zH} {n : Nat} {av : List Value} {s : State} {H : Heap} {locs : List Loc} (hO : zO D A s s.heap σ cy tys h n H locs) (hA : ∀ q : Nat, s.heap.size ≤ q → A q) (hN : NW s) (hZ : zZ A s s.heap) : ∀ U : State, U.heap = H → s.WarmedH U.vm → zPcX D σ cy tys H.size h n av (zS σ av).toArray U := fun U hU hW => by
  have hin := zA_in hO hA
  obtain ⟨hz0, hK, ht, hP, hD, hS⟩ := hO
  exact ⟨rfl, ⟨by rw [hU], by rw [hU]; exact hP, va_K.moved hW.alike hK, hD.weaken (fun _ _ _ _ => trivial), NW.warm hW hN⟩, by rw [hU]; exact zZ.moved hW ((hZ.kept hS.2.1).narrow hin)⟩
/-- thrown E, in a world as XP says -/
def zQXa (E : String) (XP : zH → Prop) (D : va_G) (A : Nat → Prop) (σ : Nat → Nat) (n : Nat) : String → State → State → Prop := fun E9 st t =>
  E9 = E ∧ (∃ (h' : zH) (cy' : Nat → ClassId) (tys' : zT), XP h' ∧ zn h' n ∧ zt tys' cy' h' n ∧ va_P D vwCl (zw σ cy' h' n) t.heap ∧ va_K D vwCl tys' t ∧ va_D A (zw σ cy' h' n)) ∧ va_F A st t
/-- the contract of a call that throws -/
def zT9 (y : MethodName) (cc : ByteArray) (nL : Nat) (ret : Option FieldType) (d mc ms : Nat) (av : List Value) (h : zH) (n : Nat) (E : String) (XP : zH → Prop) : Prop :=
  ∀ (l : Launch) (D : va_G) (σ : Nat → Nat) (cy : Nat → ClassId) (tys : zT) (sz : Nat), l.stackTraces = false → zn h n → zt tys cy h n → vx_Met l y (Cond.code y cc nL ret :: ALL) (zR d mc ms) (zPcX D σ cy tys sz h n av) (fun _ _ _ _ => False) (zQXa E XP D (va_A (zw σ cy h n) sz) σ n) mc ms (va_A (zw σ cy h n) sz)
def zTE (X : zX) (E : String) (XP : zH → Prop) (mc ms : Nat) : Prop := match X with
  | (_, l, _, _, s, _, args, below, _, c, Q, D, A, σ0, n0, _) => l.stackTraces = false ∧ (∀ x ∈ c.exceptionTable.toList, False) ∧ zZ A s s.heap ∧ Q = vx_MQ below (fun _ _ _ _ => False) (zQXa E XP D A σ0 n0) args s mc ms A
theorem zT_of {y : MethodName} {cc : ByteArray} {nL np : Nat} {ret : Option FieldType} {own : String} {d mc ms : Nat} {av : List Value} {h : zH} {n : Nat} {E : String} {XP : zH → Prop} (hY : zY y cc nL ret np) (hpl : plainName y.cls = true) (hown : y.cls = own) (hav : (lg_sl av).length ≤ nL)
    (body : ∀ X, zTE X E XP mc ms → z0 X = n → zV X (fun _ _ _ => False) cc nL own ret d mc ms 0 (lv_args 0 av) [] h n 0 0) : zT9 y cc nL ret d mc ms av h n E XP := by
  intro l D σ cy tys sz hst hz ht
  refine vx_ofW (cc := cc) (maxL := nL) (ret := ret) hpl rfl ?_
  intro p e s m args below meth c s₁ B hml htab hv
  obtain ⟨rfl, ⟨hsz, hP, hK, hD0, hN⟩, hZ⟩ := hv
  subst hsz
  have hts := atoms_spec (ws := Cond.code y cc nL ret :: ALL) B.pre
  have hown9 : s.vm.findClass own = some m.cls := by rw [← hown]; exact findClass_of_methodNamed B.named
  have hD := hD0.self (sz := s.heap.size)
  rw [lg_entry_eq]
  have hl := lv_entry (zS σ av) (n := nL) (by rw [lg_sl_z]; exact hav)
  rw [lv_args_z] at hl
  have K := body (p, l, e, zR d mc ms, s, m, (zS σ av).toArray, below, meth, c, vx_MQ below (fun _ _ _ _ => False) (zQXa E XP D (va_A (zw σ cy h n) s.heap.size) σ n) (zS σ av).toArray s mc ms (va_A (zw σ cy h n) s.heap.size), D, va_A (zw σ cy h n) s.heap.size, σ, n, True) ⟨hst, htab, hZ, rfl⟩ rfl
  exact K ⟨B.exec, B.bytes, hml, hown9, fun w hw => hts w (List.mem_cons_of_mem _ hw), B.notSynchronized, fun q hq => Or.inr hq, hN, rfl, trivial, fun _ _ _ _ _ _ _ _ _ _ _ _ hp => hp.elim⟩ (Nat.le_refl n) σ cy tys _ s.heap [] (fun _ _ => rfl) ⟨hz, hK, ht, hP, hD, va_S.rf⟩ hl
theorem zS_cat {σ : Nat → Nat} {st : List Value} {k : Nat} (hW : (st.map fun v => v.category).sum ≤ k) : ((zS σ st).map fun v => v.category).sum ≤ k := by
  simp only [zS, List.map_map]; rw [show ((fun v => v.category) ∘ zv σ : Value → Nat) = fun v => v.category from funext (zv_cat σ)]; exact hW
/-- behind a call that throws -/
theorem zxrun {p : Program} {l : Launch} {e : Env} {R : Room} {s : State} {m : MethodId} {args : Array Value} {below : List Frame} {meth : Method} {c : Code} {H : Heap} {locs : List Loc} {cells slots mc ms pc : Nat} {Q : State → Prop} {D : va_G} {A : Nat → Prop} {σ : Nat → Nat} {cy : Nat → ClassId} {tys : zT} {h : zH} {n : Nat} {E : String} {XP : zH → Prop} {ls : Array Slot} {st0 rest : List Value}
    (hr : vx_Run p l e R s m args below meth c H locs cells slots mc ms (F0 m pc ls st0) rest (fun _ _ _ => False) (zQXa E XP D (va_A (zw σ cy h n) H.size) σ n) (va_A (zw σ cy h n) H.size)) (hO : zO D A s s.heap σ cy tys h n H locs) (hA : ∀ q : Nat, s.heap.size ≤ q → A q)
    (kk : ∀ (h' : zH) (cy' : Nat → ClassId) (tys' : zT) (H1 : Heap) (locs1 : List Loc) (q : Addr) (ce : Cell), XP h' → zO D A s s.heap σ cy' tys' h' n H1 locs1 → H1[q]? = some ce → ce.vm = .none → s.vm.findClass E = some ce.cls → vx_W p l e R s m args below meth c H1 locs1 (cells + mc) (slots + ms) Q (F0 m pc ls rest) q) : W p l e R s m args below meth c H locs cells slots Q (F0 m pc ls st0) := by
  intro T hT X
  have hF := zA_in hO hA
  obtain ⟨hz0, hK, ht, hP, hD, hS⟩ := hO
  rcases hr T hT X with ⟨_, _, _, _, _, _, _, _, _, _, hf, _⟩ | ⟨q, st₀, t, T', L, E9, ce, e0, X', hL, e1, e2, ⟨hE, ⟨h', cy', tys', hxp, hz', ht', hP', hK', hD'⟩, hz, hk⟩, hce, hcv, hcl, st⟩
  · exact hf.elim
  · subst hE
    rw [e0] at hz hk
    obtain ⟨t2, a1, b1⟩ := kk h' cy' tys' T'.heap (locs ++ L) q ce hxp
      ⟨hz', va_K.moved (by rw [← e2]; exact X'.warmed.alike.symm) hK', ht', by rw [e1]; exact hP', hD'.weaken (fun k q _ hq => hF _ hq),
        ⟨Nat.le_trans hS.1 (by rw [e1]; exact hz), fun q h1 h2 => by rw [e1, hk q (Nat.lt_of_lt_of_le h1 hS.1) (fun z => h2 (hF q z))]; exact hS.2.1 q h1 h2, fun q hq => by
          rcases List.mem_append.mp hq with h | h
          · exact hS.2.2 q h
          · exact hF _ (hL q h)⟩⟩ (by rw [e1]; exact hce) hcv hcl T' rfl X'
    exact ⟨t2, st.trans a1, b1⟩
section
variable {X : zX} {Post : zP} {cc ccy : ByteArray} {nL nLy np : Nat} {own : String} {ret rety : Option FieldType} {d MC MS pc dy mc ms idx : Nat} {lv : List (Nat × Value)} {st av : List Value} {h : zH} {n cells slots : Nat} {y : MethodName} {E : String} {XP XP' : zH → Prop}
/-- a new exception is thrown -/
theorem v_thr {ik is ic : Nat} {text : String} (hE : zTE X E XP MC MS) (h0 : z0 X = n) (hxp : XP h) (ho8 : own = "PositHouse") (hf : Bundle.fit E = true) (hk : Cond.classLink "PositHouse" ik E ∈ ALL) (hi : Cond.initialized E ∈ ALL) (hs9 : (is, text) ∈ ZS) (hat : zXw (vx_atS "PositHouse" ic E XN))
    (d0 : decode cc pc = .ok (.new ik, 3)) (d3 : decode cc (pc + 3) = .ok (.dup, 1)) (d4 : decode cc (pc + 4) = .ok (.ldc is, 2)) (d6 : decode cc (pc + 6) = .ok (.invokespecial ic, 3)) (d9 : decode cc (pc + 9) = .ok (.athrow, 1))
    (hd : 6 ≤ d) (hst : (st.map fun v => v.category).sum ≤ 8) (hc : cells + 1 ≤ MC) (hs : slots + 6 ≤ MS) : zV X (fun _ _ _ => False) cc nL own ret d MC MS pc lv st h n cells slots := by
  subst ho8
  obtain ⟨p, l, e, R, s, m, args, below, meth, c, Q, D, A, σ0, n0, G⟩ := X
  intro C hn0 σ cy tys ls H locs hσ hO hl
  obtain ⟨hx, hb, hml, ho, hts, hlk, hA, hN, rfl, hG, hend⟩ := id C
  obtain ⟨hst9, htab, ⟨hU, hNl, hstr, -, hZB⟩, rfl⟩ := hE
  obtain ⟨hz0, hK, ht, hP, hD, hS⟩ := hO
  have e0 : n0 = n := h0
  have eσ : σ = σ0 := funext fun k => hσ k (by omega)
  subst eσ
  subst e0
  obtain ⟨sa, hsa⟩ := hstr _ hs9
  have hsum := zS_cat (σ := σ) hst
  refine vx_throwS (A := A) (names := XN) (text := text) (sa := sa) hx hb hst9 ho hf zX_f.2.2.2 (hts _ hk) (hts _ hi) hsa (fun w hw => (hat w hw).elim (fun q => hts w q) (fun q => va_tabs (ZB_on w q) rfl (hZB w q))) ?_ hU hNl hS (hl.1.trans hml.symm) d0 d3 d4 d6 d9 (fun x hx => (htab x hx).elim) ?_ ?_ hc hs hlk ?_ (fun z hz => hS.2.2 z hz) hc hs
  · intro w hw
    have hg : goodWord w = true ∨ w.onTables = true := by
      rcases List.mem_cons.mp hw with rfl | hw
      · exact Or.inl (List.all_eq_true.mp all_good _ hk)
      · rcases List.mem_cons.mp hw with rfl | hw
        · exact Or.inl (List.all_eq_true.mp all_good _ hi)
        · rcases hat w hw with q | q
          · exact Or.inl (List.all_eq_true.mp all_good _ q)
          · exact Or.inr (ZB_on w q)
    unfold vx_ot
    rcases hg with hg | hg
    · rw [hg, Bool.or_true]
    · rw [hg, Bool.true_or]
  · show 2 + 3 < d
    omega
  · show ((zS σ st).map fun v => v.category).sum + (13 * (2 + 1) + 43) ≤ 40 * d
    omega
  · intro t hal hsz hq
    exact ⟨rfl, ⟨h, cy, tys, hxp, hz0, ht, hP.kept (fun k q hk => hq q.1 (vx_lt hP hk)), va_K.moved hal hK, hD⟩, Nat.le_trans hS.1 hsz, fun q h1 h2 => by rw [hq q (Nat.lt_of_lt_of_le h1 hS.1)]; exact hS.2.1 q h1 h2⟩
/-- a static call that throws; it goes on to the caller -/
theorem v_cSx {st0 : List Value} (hE : zTE X E XP MC MS) (h0 : z0 X = n) (hY : zY y ccy nLy rety np) (hK : zKS own idx y) (hM : zT9 y ccy nLy rety dy mc ms av h n E XP') (hd : decode cc pc = .ok (.invokestatic idx, 3)) (hst : st0 = av.reverse ++ st) (hnp : av.length = np) (hW : (st.map fun v => v.category).sum ≤ 8) (hdd : dy + 1 ≤ d) (hc : cells + mc ≤ MC) (hs : slots + ms ≤ MS)
    (k : ∀ h', XP' h' → XP h') : zV X (fun _ _ _ => False) cc nL own ret d MC MS pc lv st0 h n cells slots := by
  obtain ⟨p, l, e, R, s, m, args, below, meth, c, Q, D, A, σ0, n0, G⟩ := X
  intro C hn0 σ cy tys ls H locs hσ hO hl
  obtain ⟨hx, hb, hml, ho, hts, hlk, hA, hN, rfl, hG, hend⟩ := id C
  obtain ⟨hst9, htab, hZ, rfl⟩ := hE
  have e0 : n0 = n := h0
  have eσ : σ = σ0 := funext fun k => hσ k (by omega)
  subst eσ
  subst e0
  subst hst
  have hcb := callB_of (R := zR d MC MS) (rm := zR dy mc ms) (mc := mc) (ms := ms) np hts (all_in hY.1) rfl rfl rfl (hts _ hY.2.1) (hts _ hK.1) hY.2.2.1 (zroom hdd hY.2.2.2.2)
  refine zxrun (vx_runS (As := zS σ av) (rest := zS σ st) ⟨hx, hb, hml, ho, hts⟩ (hM l D σ cy tys H.size hst9 hO.1 hO.2.2.1) ⟨hcb, hts _ hK.2⟩ ⟨zPcX_blind, zPcX_at hO hA hN hZ⟩ rfl (by simp [zS, hnp]) hl.1 (by simp [zS, List.map_reverse]) (lv_room (zS_cat hW)) hd ⟨hc, hs⟩) hO hA ?_
  intro h' cy' tys' H1 locs1 q ce hxp hO' hce hcv hcl
  obtain ⟨hz0, hK9, ht, hP, hD, hS⟩ := hO'
  exact vx_out (fun x hx => (htab x hx).elim) hlk hce hcv hcl (fun t ht9 hal => ⟨rfl, ⟨h', cy', tys', k h' hxp, hz0, ht, by rw [ht9]; exact hP, va_K.moved hal hK9, hD⟩, hS.F ht9⟩) (fun z hz => hS.2.2 z hz) hc hs
/-- a virtual call that throws; it goes on to the caller -/
theorem v_cVx {st0 : List Value} {a ci : Nat} {fs : List Value} {T : u_T} {N : Nat} (hE : zTE X E XP MC MS) (h0 : z0 X = n) (hY : zY y ccy nLy rety np) (hK : zKV own idx y) (ha : h a = .inr (ci, fs)) (hci : vwCl[ci]? = some (y.cls, T, N)) (hM : zT9 y ccy nLy rety dy mc ms (.ref a :: av) h n E XP') (hd : decode cc pc = .ok (.invokevirtual idx, 3)) (hst : st0 = av.reverse ++ .ref a :: st) (hnp : av.length = np) (hW : (st.map fun v => v.category).sum ≤ 8) (hdd : dy + 1 ≤ d) (hc : cells + mc ≤ MC) (hs : slots + ms ≤ MS)
    (k : ∀ h', XP' h' → XP h') : zV X (fun _ _ _ => False) cc nL own ret d MC MS pc lv st0 h n cells slots := by
  obtain ⟨p, l, e, R, s, m, args, below, meth, c, Q, D, A, σ0, n0, G⟩ := X
  intro C hn0 σ cy tys ls H locs hσ hO hl
  obtain ⟨hx, hb, hml, ho, hts, hlk, hA, hN, rfl, hG, hend⟩ := id C
  obtain ⟨hst9, htab, hZ, rfl⟩ := hE
  have e0 : n0 = n := h0
  have eσ : σ = σ0 := funext fun k => hσ k (by omega)
  subst eσ
  subst e0
  subst hst
  have hcb := callB_of (R := zR d MC MS) (rm := zR dy mc ms) (mc := mc) (ms := ms) np hts (all_in hY.1) rfl rfl rfl (hts _ hY.2.1) (hts _ hK.1) hY.2.2.1 (zroom hdd hY.2.2.2.2)
  have han : a < n0 := zn_lt hO.1 (by rw [ha]; intro q; cases q; exact absurd (hci.symm.trans (show vwCl[9999]? = none from rfl)) (by simp))
  refine zxrun (vx_runV (As := zS σ av) (b := σ a) (rest := zS σ st) ⟨hx, hb, hml, ho, hts⟩ (hM l D σ cy tys H.size hst9 hO.1 hO.2.2.1) ⟨hcb, hts _ hK.2.1, hts _ hK.2.2⟩ ⟨zPcX_blind, va_recv hO.2.1 hO.2.2.2.1 hci ((zw_get han).trans (by rw [ha]; rfl)), zPcX_at hO hA hN hZ⟩ rfl (by simp [zS, hnp]) hl.1 (by simp [zS, List.map_reverse, zv]) (lv_room (zS_cat hW)) hd ⟨hc, hs⟩) hO hA ?_
  intro h' cy' tys' H1 locs1 q ce hxp hO' hce hcv hcl
  obtain ⟨hz0, hK9, ht, hP, hD, hS⟩ := hO'
  exact vx_out (fun x hx => (htab x hx).elim) hlk hce hcv hcl (fun t ht9 hal => ⟨rfl, ⟨h', cy', tys', k h' hxp, hz0, ht, by rw [ht9]; exact hP, va_K.moved hal hK9, hD⟩, hS.F ht9⟩) (fun z hz => hS.2.2 z hz) hc hs
end
