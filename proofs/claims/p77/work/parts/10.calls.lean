/-! ===== contracts over G: the answer and the world behind, as functions of the start ===== -/
def gWd (E : gE) (A : Nat → Prop) (cs : List va_W) (U : State) : Prop := va_P E.1 vwCl cs.flatten U.heap ∧ va_K E.1 vwCl (gTy E) U ∧ va_D A cs.flatten
def gPre (E : gE) (sz : Nat) (cs : List va_W) (U : State) : Prop := U.heap.size = sz ∧ gWd E (fun _ => True) cs U ∧ gN U
def gPost (E : gE) (r : Option Value) (cs : List va_W) (A : Nat → Prop) : Array Value → State → Outcome → State → Prop := fun _ st oc t => (oc = .returned r ∧ gWd E A cs t) ∧ va_F A st t
def ws_ (y : MethodName) (cc : ByteArray) (nL : Nat) (ret : Option FieldType) : List Cond := .code y cc nL ret :: gU
def gRm (f lo : Nat) : Room := { frames := f, cells := 0, slots := 0, locals := lo }
/-- a method's contract: called with av over the world cs it returns r, the world is cs' -/
def MC (l : Launch) (E : gE) (y : MethodName) (cc : ByteArray) (nL : Nat) (ret : Option FieldType) (f lo : Nat) (av : List Value) (cs : List va_W) (r : Option Value) (cs' : List va_W) : Prop :=
  ∀ sz : Nat, Met l y (ws_ y cc nL ret) (gRm f lo) (va_Pc av (gPre E sz cs)) (gPost E r cs' (va_A cs.flatten sz)) 0 0 (va_A cs.flatten sz)
/-- what is owed at a return -/
def gEnd (X : gX) (k n : Nat) (r : Option Value) (cs : List va_W) : Prop :=
  match X with
  | (p, l, e, R, s, m, args, below, meth, c, E, A, Q) => ∀ (H : Heap) (locs : List Loc) (g : JFrame), W p l e R s m args below meth c H locs k n (MQ below (gPost E r cs A) args s k n A) g → W p l e R s m args below meth c H locs k n Q g
theorem gPre_blind {E : gE} {sz : Nat} {av : List Value} {cs : List va_W} : FrameBlind (va_Pc av (gPre E sz cs)) := by
  intro a U g mk h
  obtain ⟨h1, h2, ⟨hP, hK, hD⟩, hN⟩ := h
  exact ⟨h1, h2, ⟨hP, va_K.moved (u := U) (U := U.calling g mk a) (Vm.Alike.refl U.vm) hK, hD⟩, gN.same (u := U) rfl hN⟩
theorem mc_of {l : Launch} {E : gE} {y : MethodName} {cc : ByteArray} {nL f lo : Nat} {ret : Option FieldType} {av : List Value} {cs cs' : List va_W} {r : Option Value} (hy : plainName y.cls = true) (hav : (lg_sl av).length ≤ nL) {lv : List (Nat × Value)} (hlv : lv_args 0 av = lv)
    (body : ∀ X : gX, gC X cc nL y.cls ret l E (gRm f lo) → gEnd X 0 0 r cs' → G X 0 0 cs lv 0 []) : MC l E y cc nL ret f lo av cs r cs' := by
  intro sz
  refine Met.ofW (cc := cc) (maxL := nL) (ret := ret) hy rfl ?_
  intro p e s m args below meth c s₁ B hml hv
  obtain ⟨rfl, rfl, ⟨hP, hK, hD0⟩, hN⟩ := hv
  have hts := atoms_spec (ws := ws_ y cc nL ret) B.pre
  have hX := body (p, l, e, gRm f lo, s, m, av.toArray, below, meth, c, E, va_A cs.flatten s.heap.size, MQ below (gPost E r cs' (va_A cs.flatten s.heap.size)) av.toArray s 0 0 (va_A cs.flatten s.heap.size))
    ⟨⟨B.exec, B.bytes, hml, findClass_of_methodNamed B.named, fun w h => hts w (List.mem_cons_of_mem _ h)⟩, hK, fun q h => Or.inr h, B.returns, B.notSynchronized, hN, rfl, rfl, rfl⟩ (fun H locs g h => h)
  have hl := lv_entry av (n := nL) hav
  rw [lg_entry_eq]
  subst hml; subst hlv
  exact hX s.heap [] _ hP hD0.self va_S.rf hl
-- ends
theorem g_iret {X : gX} {cc : ByteArray} {nL : Nat} {own : String} {l : Launch} {E : gE} {R : Room} {k n pc : Nat} {cs cs1 : List va_W} {lv : List (Nat × Value)} {r : Option Value} {v : Int32} (C : gC X cc nL own (some .int) l E R) (hE : gEnd X k n r cs1) (hv : some (.int v) = r) (hcs : cs = cs1) (hd : decode cc pc = .ok (.ireturn, 1)) : G X k n cs lv pc [.int v] := by
  obtain ⟨p, l9, e, R9, s, m, args, below, meth, c, E9, A, Q⟩ := X
  obtain ⟨⟨hx, hb, hml, hown, hts⟩, hK, hA, hr, hlocks, hN, rfl, rfl, rfl⟩ := C
  intro H locs ls hP hD hS hl
  subst hv; subst hcs
  exact hE _ _ _ (W.iret hx hb hr (fun t ht hW => ⟨⟨rfl, by rw [ht]; exact hP, va_K.moved hW.alike hK, hD⟩, hS.F ht⟩) hS.2.2 hd hlocks)
theorem nar_b2i (b : Bool) : narrow .boolean (.int (b2i b)) = .int (b2i b) := by cases b <;> rfl
theorem g_zret {X : gX} {cc : ByteArray} {nL : Nat} {own : String} {l : Launch} {E : gE} {R : Room} {k n pc : Nat} {cs cs1 : List va_W} {lv : List (Nat × Value)} {r : Option Value} {v : Int32} {b : Bool} (C : gC X cc nL own (some .boolean) l E R) (hE : gEnd X k n r cs1) (hr1 : some (.int (b2i b)) = r) (hv : v = b2i b) (hcs : cs = cs1) (hd : decode cc pc = .ok (.ireturn, 1)) : G X k n cs lv pc [.int v] := by
  obtain ⟨p, l9, e, R9, s, m, args, below, meth, c, E9, A, Q⟩ := X
  obtain ⟨⟨hx, hb, hml, hown, hts⟩, hK, hA, hr, hlocks, hN, rfl, rfl, rfl⟩ := C
  intro H locs ls hP hD hS hl
  subst hv; subst hcs; subst hr1
  exact hE _ _ _ (W.zret hx hb hr (nar_b2i b) (fun t ht hW => ⟨⟨rfl, by rw [ht]; exact hP, va_K.moved hW.alike hK, hD⟩, hS.F ht⟩) hS.2.2 hd hlocks)
theorem g_lret {X : gX} {cc : ByteArray} {nL : Nat} {own : String} {l : Launch} {E : gE} {R : Room} {k n pc : Nat} {cs cs1 : List va_W} {lv : List (Nat × Value)} {r : Option Value} {v : Int64} (C : gC X cc nL own (some .long) l E R) (hE : gEnd X k n r cs1) (hv : some (.long v) = r) (hcs : cs = cs1) (hd : decode cc pc = .ok (.lreturn, 1)) : G X k n cs lv pc [.long v] := by
  obtain ⟨p, l9, e, R9, s, m, args, below, meth, c, E9, A, Q⟩ := X
  obtain ⟨⟨hx, hb, hml, hown, hts⟩, hK, hA, hr, hlocks, hN, rfl, rfl, rfl⟩ := C
  intro H locs ls hP hD hS hl
  subst hv; subst hcs
  exact hE _ _ _ (W.lret hx hb hr (fun t ht hW => ⟨⟨rfl, by rw [ht]; exact hP, va_K.moved hW.alike hK, hD⟩, hS.F ht⟩) hS.2.2 hd hlocks)
theorem g_dret {X : gX} {cc : ByteArray} {nL : Nat} {own : String} {l : Launch} {E : gE} {R : Room} {k n pc : Nat} {cs cs1 : List va_W} {lv : List (Nat × Value)} {r : Option Value} {v : UInt64} (C : gC X cc nL own (some .double) l E R) (hE : gEnd X k n r cs1) (hv : some (.double v) = r) (hcs : cs = cs1) (hd : decode cc pc = .ok (.dreturn, 1)) : G X k n cs lv pc [.double v] := by
  obtain ⟨p, l9, e, R9, s, m, args, below, meth, c, E9, A, Q⟩ := X
  obtain ⟨⟨hx, hb, hml, hown, hts⟩, hK, hA, hr, hlocks, hN, rfl, rfl, rfl⟩ := C
  intro H locs ls hP hD hS hl
  subst hv; subst hcs
  exact hE _ _ _ (W.dret hx hb hr (fun t ht hW => ⟨⟨rfl, by rw [ht]; exact hP, va_K.moved hW.alike hK, hD⟩, hS.F ht⟩) hS.2.2 hd hlocks)
theorem g_vret {X : gX} {cc : ByteArray} {nL : Nat} {own : String} {l : Launch} {E : gE} {R : Room} {k n pc : Nat} {cs cs1 : List va_W} {lv : List (Nat × Value)} {r : Option Value} (C : gC X cc nL own none l E R) (hE : gEnd X k n r cs1) (hv : none = r) (hcs : cs = cs1) (hd : decode cc pc = .ok (.return_, 1)) : G X k n cs lv pc [] := by
  obtain ⟨p, l9, e, R9, s, m, args, below, meth, c, E9, A, Q⟩ := X
  obtain ⟨⟨hx, hb, hml, hown, hts⟩, hK, hA, hr, hlocks, hN, rfl, rfl, rfl⟩ := C
  intro H locs ls hP hD hS hl
  subst hv; subst hcs
  exact hE _ _ _ (W.vret hx hb hr (fun t ht hW => ⟨⟨rfl, by rw [ht]; exact hP, va_K.moved hW.alike hK, hD⟩, hS.F ht⟩) hS.2.2 hd hlocks)
/-- the words of a callee among the walk's -/
theorem g_good {y : MethodName} {cc : ByteArray} {nL : Nat} {ret : Option FieldType} (qc : Cond.code y cc nL ret ∈ gU) : GoodIn gU (ws_ y cc nL ret) := fun w h => (List.mem_cons.mp h).elim (fun e => by rw [e]; exact gU_good _ qc) (fun h => gU_good w h)
/-- what is the same at every call of a method: its code, its class, how many arguments -/
def gCal (y : MethodName) (cc : ByteArray) (nL : Nat) (ret : Option FieldType) (z : Nat) : Prop := Cond.code y cc nL ret ∈ gU ∧ Cond.initialized y.cls ∈ gU ∧ (y.cls ≠ "java/lang/invoke/MethodHandle" ∧ y.cls ≠ "java/lang/invoke/VarHandle" ∧ (parseMethodDescriptor y.desc).map (fun d => d.parameters.length) = some z)
def gCalV (y : MethodName) (cc : ByteArray) (nL : Nat) (ret : Option FieldType) (z : Nat) : Prop := gCal y cc nL ret z ∧ Cond.instanceMethod y ∈ gU ∧ Cond.selects y.cls y y ∈ gU
def gCalS (y : MethodName) (cc : ByteArray) (nL : Nat) (ret : Option FieldType) (z : Nat) : Prop := gCal y cc nL ret z ∧ Cond.static y ∈ gU
/-- behind a call -/
theorem g_after {p : Program} {l : Launch} {e : Env} {R : Room} {s : State} {m : MethodId} {args : Array Value} {below : List Frame} {meth : Method} {c : Code} {E : gE} {A : Nat → Prop} {Q : State → Prop} {H : Heap} {locs : List Loc} {ls : Array Slot} {k n pc : Nat} {st0 st : List Value} {r : Option Value} {cs csc csd cs1 : List va_W} {lv : List (Nat × Value)} {a : Array Value} {is : List Nat}
    (hr : va_Run p l e R s m args below meth c H locs k n 0 0 (F0 m pc ls st0) st (gPost E r csd (va_A csc.flatten H.size) a) (va_A csc.flatten H.size)) (hP : va_P E.1 vwCl cs.flatten H) (hD : va_D A cs.flatten) (hS : va_S A s.heap H locs) (hA : ∀ q, s.heap.size ≤ q → A q) (hl : lv_has ls c.maxLocals lv)
    (hn : is.Nodup) (hi : is.map (fun i => cs[i]?) = csc.map some) (hlen : csd.length = is.length) (hcs : gRep cs is csd = cs1) (kk : G (p, l, e, R, s, m, args, below, meth, c, E, A, Q) k n cs1 lv (pc + 3) (r.toList ++ st)) : W p l e R s m args below meth c H locs k n Q (F0 m pc ls st0) := by
  intro T hT X
  obtain ⟨v, st₀, t, T', L, h0, X', hL, e1, e2, ⟨⟨hv, hP1, hK1, hD1⟩, hz, hk⟩, go⟩ := hr T hT X
  cases hv
  rw [h0] at hz hk
  have hp := gp_nil hn hi
  have hF : ∀ q, va_A csc.flatten H.size q → A q := by
    intro q hq
    rcases gm_Ain.mp hq with h | h
    · obtain ⟨x, hx, rfl⟩ := List.mem_map.mp h
      exact (gm_D.mp (gm_Dp hp hD)).2 x (List.mem_append_left _ hx)
    · exact hA q (Nat.le_trans hS.1 h)
  obtain ⟨hP2, hD2⟩ := g_join (H1 := t.heap) hp hP hD hk hF hP1 hD1
  have hq := (gp_rep (csd := csd) hn hi hlen).symm
  rw [hcs] at hq
  have hP3 := gm_Pp hq hP2
  have hD3 := gm_Dp hq hD2
  rw [← e1] at hP3 hz hk
  obtain ⟨t2, a1, b1⟩ := kk T'.heap (locs ++ L) ls hP3 hD3
    ⟨Nat.le_trans hS.1 hz, fun q h1 h2 => by rw [hk q (Nat.lt_of_lt_of_le h1 hS.1) (fun z => h2 (hF q z))]; exact hS.2.1 q h1 h2, fun q hq => by
      rcases List.mem_append.mp hq with h | h
      · exact hS.2.2 q h
      · exact hF _ (hL q h)⟩ hl T' rfl X'
  exact ⟨t2, go t2 a1, b1⟩
/-- what a callee asks of the machine, at a call -/
theorem g_pre {E : gE} {s : State} {H : Heap} {cs csc : List va_W} {is : List Nat} {A : Nat → Prop} (hP : va_P E.1 vwCl cs.flatten H) (hD : va_D A cs.flatten) (hK : va_K E.1 vwCl (gTy E) s) (hN : gN s) (hn : is.Nodup) (hi : is.map (fun i => cs[i]?) = csc.map some) (av : List Value) (U : State) (hU : U.heap = H) (hW : s.WarmedH U.vm) : va_Pc av (gPre E H.size csc) av.toArray U := by
  have hp := gp_nil hn hi
  have hP2 : va_P E.1 vwCl csc.flatten H := gm_P.mpr fun q hq => gm_P.mp (gm_Pp hp hP) q (List.mem_append_left _ hq)
  have hD2 : va_D (fun _ => True) csc.flatten := by
    have h := gm_D.mp (gm_Dp hp hD)
    have h1 := h.1
    rw [List.map_append, List.nodup_append] at h1
    exact gm_D.mpr ⟨h1.1, fun _ _ => trivial⟩
  exact ⟨rfl, by rw [hU], ⟨by rw [hU]; exact hP2, va_K.moved hW.alike hK, hD2⟩, gN.warm hW hN⟩
/-- a call of an instance method -/
theorem g_callV {X : gX} {cc : ByteArray} {nL : Nat} {own : String} {ret : Option FieldType} {l : Launch} {E : gE} {R : Room} {k n pc : Nat} {cs csc csd cs1 : List va_W} {lv : List (Nat × Value)} {st st0 : List Value} {y : MethodName} {ccy : ByteArray} {nLy f lo b z cix index : Nat} {rety : Option FieldType} {r : Option Value} {w : va_W} {fs : List Value} {q : vw_C}
    (C : gC X cc nL own ret l E R) (As : List Value) (is : List Nat) (hM : MC l E y ccy nLy rety f lo (.ref b :: As) csc r csd) (hcal : gCalV y ccy nLy rety z) (ql : Cond.methodLink own index y ∈ gU) (hz : As.length = z) (hR : f + 1 ≤ R.frames ∧ 8 + (nLy + 11) + lo ≤ R.locals) (hkn : k ≤ R.cells ∧ n ≤ R.slots)
    (ci q0 : Nat) (he : cs[ci]? = some w) (hw : w[q0]? = some (b, .inr (cix, fs))) (hc : vwCl[cix]? = some q) (hq : q.1 = y.cls)
    (hn : is.Nodup) (hi : is.map (fun i => cs[i]?) = csc.map some) (hlen : csd.length = is.length) (hcs : gRep cs is csd = cs1) (hst : st0 = As.reverse ++ .ref b :: st) (hcat : (st.map fun v => v.category).sum ≤ 8) (hd : decode cc pc = .ok (.invokevirtual index, 3)) {st1 : List Value} (hs1 : r.toList ++ st = st1) (kk : G X k n cs1 lv (pc + 3) st1) : G X k n cs lv pc st0 := by
  obtain ⟨p, l9, e, R9, s, m, args, below, meth, c, E9, A, Q⟩ := X
  obtain ⟨⟨hx, hb, hml, hown, hts⟩, hK, hA, hr, hlocks, hN, rfl, rfl, rfl⟩ := C
  obtain ⟨⟨qc, qn, hd9⟩, qi, qs⟩ := hcal
  intro H locs ls hP hD hS hl
  obtain ⟨j, hj, -⟩ := g_flat he hw
  refine g_after (a := (Value.ref b :: As).toArray) (va_runV (nL := nL) (own := own) (C := y.cls) (index := index) (n := z) (As := As) (rest := st) ⟨hx, hb, hml, hown, hts⟩ (hM H.size) ⟨callB_of z hts (g_good qc) rfl rfl rfl (hts _ qn) (hts _ ql) hd9 hR, hts _ qi, hts _ qs⟩ ⟨gPre_blind, ?_, fun U hU hW => g_pre hP hD hK hN hn hi _ U hU hW⟩ rfl hz (by rw [← hml]; exact hl.1) hst (lv_room hcat) hd hkn) hP hD hS hA hl hn hi hlen hcs (hs1 ▸ kk)
  have h := va_recv hK hP hc hj
  rw [hq] at h
  exact h
/-- a call of a static method -/
theorem g_callS {X : gX} {cc : ByteArray} {nL : Nat} {own : String} {ret : Option FieldType} {l : Launch} {E : gE} {R : Room} {k n pc : Nat} {cs csc csd cs1 : List va_W} {lv : List (Nat × Value)} {st st0 : List Value} {y : MethodName} {ccy : ByteArray} {nLy f lo z index : Nat} {rety : Option FieldType} {r : Option Value}
    (C : gC X cc nL own ret l E R) (As : List Value) (is : List Nat) (hM : MC l E y ccy nLy rety f lo As csc r csd) (hcal : gCalS y ccy nLy rety z) (ql : Cond.methodLink own index y ∈ gU) (hz : As.length = z) (hR : f + 1 ≤ R.frames ∧ 8 + (nLy + 11) + lo ≤ R.locals) (hkn : k ≤ R.cells ∧ n ≤ R.slots)
    (hn : is.Nodup) (hi : is.map (fun i => cs[i]?) = csc.map some) (hlen : csd.length = is.length) (hcs : gRep cs is csd = cs1) (hst : st0 = As.reverse ++ st) (hcat : (st.map fun v => v.category).sum ≤ 8) (hd : decode cc pc = .ok (.invokestatic index, 3)) {st1 : List Value} (hs1 : r.toList ++ st = st1) (kk : G X k n cs1 lv (pc + 3) st1) : G X k n cs lv pc st0 := by
  obtain ⟨p, l9, e, R9, s, m, args, below, meth, c, E9, A, Q⟩ := X
  obtain ⟨⟨hx, hb, hml, hown, hts⟩, hK, hA, hr, hlocks, hN, rfl, rfl, rfl⟩ := C
  obtain ⟨⟨qc, qn, hd9⟩, qs⟩ := hcal
  intro H locs ls hP hD hS hl
  exact g_after (a := As.toArray) (va_runS (nL := nL) (own := own) (index := index) (n := z) (As := As) (rest := st) ⟨hx, hb, hml, hown, hts⟩ (hM H.size) ⟨callB_of z hts (g_good qc) rfl rfl rfl (hts _ qn) (hts _ ql) hd9 hR, hts _ qs⟩ ⟨gPre_blind, fun U hU hW => g_pre hP hD hK hN hn hi _ U hU hW⟩ rfl hz (by rw [← hml]; exact hl.1) hst (lv_room hcat) hd hkn) hP hD hS hA hl hn hi hlen hcs (hs1 ▸ kk)
/-- a call of a private static method of a nest mate -/
theorem g_callSN {X : gX} {cc : ByteArray} {nL : Nat} {own : String} {ret : Option FieldType} {l : Launch} {E : gE} {R : Room} {k n pc : Nat} {cs csc csd cs1 : List va_W} {lv : List (Nat × Value)} {st st0 : List Value} {y : MethodName} {ccy : ByteArray} {nLy f lo z index : Nat} {rety : Option FieldType} {r : Option Value}
    (C : gC X cc nL own ret l E R) (As : List Value) (is : List Nat) (hM : MC l E y ccy nLy rety f lo As csc r csd) (hcal : gCalS y ccy nLy rety z) {host : String} (ql : Cond.methodLinkNest own index y host ∈ gNest) (hz : As.length = z) (hR : f + 1 ≤ R.frames ∧ 8 + (nLy + 11) + lo ≤ R.locals) (hkn : k ≤ R.cells ∧ n ≤ R.slots)
    (hn : is.Nodup) (hi : is.map (fun i => cs[i]?) = csc.map some) (hlen : csd.length = is.length) (hcs : gRep cs is csd = cs1) (hst : st0 = As.reverse ++ st) (hcat : (st.map fun v => v.category).sum ≤ 8) (hd : decode cc pc = .ok (.invokestatic index, 3)) {st1 : List Value} (hs1 : r.toList ++ st = st1) (kk : G X k n cs1 lv (pc + 3) st1) : G X k n cs lv pc st0 := by
  obtain ⟨p, l9, e, R9, s, m, args, below, meth, c, E9, A, Q⟩ := X
  obtain ⟨⟨hx, hb, hml, hown, hts⟩, hK, hA, hr, hlocks, hN, rfl, rfl, rfl⟩ := C
  obtain ⟨⟨qc, qn, hd9⟩, qs⟩ := hcal
  intro H locs ls hP hD hS hl
  exact g_after (a := As.toArray) (va_runSN (nL := nL) (own := own) (index := index) (n := z) (As := As) (rest := st) ⟨hx, hb, hml, hown, hts⟩ (hM H.size) ⟨va_cnB z hts (g_good qc) rfl rfl rfl (hN _ ql) (hts _ qn) hd9 hR, hts _ qs, trivial⟩ ⟨gPre_blind, fun U hU hW => g_pre hP hD hK hN hn hi _ U hU hW⟩ rfl hz (by rw [← hml]; exact hl.1) hst (lv_room hcat) hd hkn) hP hD hS hA hl hn hi hlen hcs (hs1 ▸ kk)
