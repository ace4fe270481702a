/-! ===== the law: methods with a table of handlers, the script, the out row ===== -/
def wO (E : gE) (ao : Nat) (o : Nat → Int64) : va_W := [(ao, .inl (E.2 3, 1, .inr (.inl o)))]
/-- the pairs of exceptions of which the one is not the other -/
def gNcl : List (String × String) := [(xIA, xIS), (xIA, xIO), (xIS, xIA), (xIS, xIO), (xIO, xIA), (xIO, xIS)]
def gNc (U : State) : Prop := ∀ q ∈ gNcl, va_Nc q.1 q.2 U
theorem gNc.moved {u U : State} (hvm : u.vm.Alike U.vm) (h : gNc u) : gNc U := fun q hq => (h q hq).moved hvm
/-- what came back of a call, put beside what stayed -/
theorem g_back {E : gE} {s : State} {A : Nat → Prop} {H H1 : Heap} {locs L : List Loc} {cs csc csd cs1 : List va_W} {is : List Nat} (hP : va_P E.1 vwCl cs.flatten H) (hD : va_D A cs.flatten) (hS : va_S A s.heap H locs) (hA : ∀ q, s.heap.size ≤ q → A q)
    (hn : is.Nodup) (hi : is.map (fun i => cs[i]?) = csc.map some) (hlen : csd.length = is.length) (hcs : gRep cs is csd = cs1) (hP1 : va_P E.1 vwCl csd.flatten H1) (hD1 : va_D (va_A csc.flatten H.size) csd.flatten) (hz : H.size ≤ H1.size) (hk : ∀ q : Nat, q < H.size → ¬ va_A csc.flatten H.size q → H1[q]? = H[q]?) (hL : ∀ q ∈ L, va_A csc.flatten H.size q.base) :
    va_P E.1 vwCl cs1.flatten H1 ∧ va_D A cs1.flatten ∧ va_S A s.heap H1 (locs ++ L) := by
  have hp := gp_nil hn hi
  have hF : ∀ q, va_A csc.flatten H.size q → A q := by
    intro q hq
    rcases gm_Ain.mp hq with h | h
    · obtain ⟨x, hx, rfl⟩ := List.mem_map.mp h
      exact (gm_D.mp (gm_Dp hp hD)).2 x (List.mem_append_left _ hx)
    · exact hA q (Nat.le_trans hS.1 h)
  obtain ⟨hP2, hD2⟩ := g_join (H1 := H1) hp hP hD hk hF hP1 hD1
  have hq := (gp_rep (csd := csd) hn hi hlen).symm
  rw [hcs] at hq
  refine ⟨gm_Pp hq hP2, gm_Dp hq hD2, Nat.le_trans hS.1 hz, fun q h1 h2 => ?_, fun q hq => ?_⟩
  · rw [hk q (Nat.lt_of_lt_of_le h1 hS.1) (fun z => h2 (hF q z))]
    exact hS.2.1 q h1 h2
  · rcases List.mem_append.mp hq with h | h
    · exact hS.2.2 q h
    · exact hF _ (hL q h)
/-- a helper's contract -/
def ws_H (y : MethodName) (cc : ByteArray) (nL : Nat) (hh : List (Nat × Nat × Nat × Nat)) : List Cond := .codeWith y cc nL (some .int) hh :: gU
def gPreH (E : gE) (sz : Nat) (cs : List va_W) (U : State) : Prop := gPreX E sz cs U ∧ gNc U
def MH (l : Launch) (E : gE) (y : MethodName) (cc : ByteArray) (nL : Nat) (hh : List (Nat × Nat × Nat × Nat)) (mc ms f lo : Nat) (av : List Value) (cs : List va_W) (r : Option Value) (cs' : List va_W) : Prop :=
  ∀ sz : Nat, Met l y (ws_H y cc nL hh) (gRmX f lo mc ms) (va_Pc av (gPreH E sz cs)) (gPost E r cs' (va_A cs.flatten sz)) mc ms (va_A cs.flatten sz)
theorem gPreH_blind {E : gE} {sz : Nat} {av : List Value} {cs : List va_W} : FrameBlind (va_Pc av (gPreH E sz cs)) := by
  intro a U g mk h
  obtain ⟨h1, h2, h3⟩ := h
  have h4 := (gPreX_blind (E := E) (sz := sz) (av := av) (cs := cs)) a U g mk ⟨h1, h2⟩
  exact ⟨h4.1, h4.2, h3.moved (u := U) (U := U.calling g mk a) (Vm.Alike.refl U.vm)⟩
/-- what a helper's walk has at hand -/
def gH (X : gX) (hh : List (Nat × Nat × Nat × Nat)) : Prop :=
  match X with
  | (_, _, _, _, s, _, _, _, _, c, _, A, _) => c.exceptionTable.toList = tableOf hh ∧ gZ A s s.heap ∧ gNc s
theorem met_ofWH {l : Launch} {y : MethodName} {ws ws' : List Cond} {rm : Room} {Pc : Array Value → State → Prop} {Qc : Array Value → State → Outcome → State → Prop} {mc ms : Nat} {free : Addr → Prop} {cc : ByteArray} {maxL : Nat} {ret : Option FieldType} {hh : List (Nat × Nat × Nat × Nat)}
    (hy : plainName y.cls = true) (hw : ws = Cond.codeWith y cc maxL ret hh :: ws')
    (body : ∀ p e s m args below meth c s₁, BodyLoose p l y (headSpec ws rm) cc maxL ret e s m args below meth c s₁ → c.maxLocals = maxL → Pc args s →
      W p l e (headSpec ws rm).room s m args below meth c s.heap [] 0 0 (MQ below Qc args s mc ms free) (entryFrame m args maxL)) : Met l y ws rm Pc Qc mc ms free := by
  refine MetFree.of_bodyS (code := cc) (maxLocals := maxL) (ret := ret) hy ?_ ?_
  · intro args s m h hn
    obtain ⟨m9, meth, c, hn9, h1, h2, h3, h4, -, h5, h6, -⟩ := Cond.codeWith_spec (atoms_spec (ws := ws) h _ (by rw [hw]; exact List.mem_cons_self))
    cases hn.symm.trans hn9
    exact ⟨meth, c, h1, h2, h3, h4, h5, h6⟩
  · intro p e s m args below meth c s₁ B hml hP _
    have hh0 : s₁.heap = s.heap := by rw [B.state]; rfl
    obtain ⟨t, a1, o, b1, b2, b3⟩ := body p e s m args below meth c s₁ B hml hP s₁ hh0 (Stand.of_body B)
    exact ⟨t, o, a1, b1, b2, ⟨b3.1, b3.2⟩⟩
theorem mh_of {l : Launch} {E : gE} {y : MethodName} {cc : ByteArray} {nL f lo mc ms : Nat} {hh : List (Nat × Nat × Nat × Nat)} {av : List Value} {cs cs' : List va_W} {r : Option Value} (hy : plainName y.cls = true) (hav : (lg_sl av).length ≤ nL) {lv : List (Nat × Value)} (hlv : lv_args 0 av = lv)
    (body : ∀ X : gX, gC X cc nL y.cls (some .int) l E (gRmX f lo mc ms) → gH X hh → gEnd X mc ms r cs' → G X 0 0 cs lv 0 []) : MH l E y cc nL hh mc ms f lo av cs r cs' := by
  intro sz
  refine met_ofWH (cc := cc) (maxL := nL) (ret := some .int) (hh := hh) hy rfl ?_
  intro p e s m args below meth c s₁ B hml hv
  obtain ⟨rfl, ⟨⟨rfl, ⟨hP, hK, hD0⟩, hN⟩, hZ⟩, hNc⟩ := hv
  have hts := atoms_spec (ws := ws_H y cc nL hh) B.pre
  have hX := body (p, l, e, gRmX f lo mc ms, s, m, av.toArray, below, meth, c, E, va_A cs.flatten s.heap.size, MQ below (gPost E r cs' (va_A cs.flatten s.heap.size)) av.toArray s mc ms (va_A cs.flatten s.heap.size))
    ⟨⟨B.exec, B.bytes, hml, findClass_of_methodNamed B.named, fun w h => hts w (List.mem_cons_of_mem _ h)⟩, hK, fun q h => Or.inr h, B.returns, B.notSynchronized, hN, rfl, rfl, rfl⟩ ⟨vx_table (x := y) B (hts _ List.mem_cons_self), hZ, hNc⟩ (fun H locs g h => h)
  have hl := lv_entry av (n := nL) hav
  rw [lg_entry_eq]
  subst hml; subst hlv
  exact hX s.heap [] _ hP hD0.self va_S.rf hl
/-- where an exception of class E8, thrown at pc, is caught -/
def gCat (hh : List (Nat × Nat × Nat × Nat)) (own : String) (pc : Nat) (E8 : String) (hpc : Nat) : Prop := ∃ (pre suf : List (Nat × Nat × Nat × Nat)) (x : Nat × Nat × Nat × Nat), hh = pre ++ x :: suf ∧ (∀ z ∈ pre, z.2.2.2 ≠ 0 ∧ ∃ nm, Cond.classLink own z.2.2.2 nm ∈ gU ∧ (E8, nm) ∈ gNcl) ∧ covers ⟨x.1, x.2.1, x.2.2.1, x.2.2.2⟩ pc = true ∧ x.2.2.2 ≠ 0 ∧ Cond.classLink own x.2.2.2 E8 ∈ gU ∧ Cond.castable E8 E8 ∈ gBad ∧ x.2.2.1 = hpc
/-- a call of an instance method that may throw: what it gives is known -/
theorem g_callXr {X : gX} {cc : ByteArray} {nL : Nat} {own : String} {ret : Option FieldType} {l : Launch} {E : gE} {R : Room} {hh : List (Nat × Nat × Nat × Nat)} {k n pc : Nat} {cs csc csd cs1 : List va_W} {lv : List (Nat × Value)} {st st0 : List Value} {y : MethodName} {ccy : ByteArray} {nLy f lo mc ms b z cix index : Nat} {rety : Option FieldType} {o : String ⊕ Option Value} {r : Option Value} {w : va_W} {fs : List Value} {q : vw_C}
    (C : gC X cc nL own ret l E R) (Hh : gH X hh) (As : List Value) (is : List Nat) (hM : MX l E y ccy nLy rety mc ms f lo (.ref b :: As) csc o csd) (ho : o = .inr r) (hcal : gCalV y ccy nLy rety z) (ql : Cond.methodLink own index y ∈ gU) (hz : As.length = z) (hR : f + 1 ≤ R.frames ∧ 8 + (nLy + 11) + lo ≤ R.locals) (hkn : k + mc ≤ R.cells ∧ n + ms ≤ R.slots)
    (ci q0 : Nat) (he : cs[ci]? = some w) (hw : w[q0]? = some (b, .inr (cix, fs))) (hc : vwCl[cix]? = some q) (hq : q.1 = y.cls)
    (hn : is.Nodup) (hi : is.map (fun i => cs[i]?) = csc.map some) (hlen : csd.length = is.length) (hcs : gRep cs is csd = cs1) (hst : st0 = As.reverse ++ .ref b :: st) (hcat : (st.map fun v => v.category).sum ≤ 8) (hd : decode cc pc = .ok (.invokevirtual index, 3)) {st1 : List Value} (hs1 : r.toList ++ st = st1) (kk : G X (k + mc) (n + ms) cs1 lv (pc + 3) st1) : G X k n cs lv pc st0 := by
  obtain ⟨p, l9, e, R9, s, m, args, below, meth, c, E9, A, Q⟩ := X
  obtain ⟨⟨hx, hb, hml, hown, hts⟩, hK, hA, hr, hlocks, hN, rfl, rfl, rfl⟩ := C
  obtain ⟨hT, hZ, hNc⟩ := Hh
  obtain ⟨⟨qc, qn, hd9⟩, qi, qs⟩ := hcal
  intro H locs ls hP hD hS hl
  obtain ⟨j, hj, -⟩ := g_flat he hw
  have hv := va_recv hK hP hc hj
  rw [hq] at hv
  have hrun := vx_runV (R := R9) (Ts := gU) (p := p) (e := e) (below := below) (meth := meth) (H := H) (locs := locs) (cells := k) (slots := n) (g := F0 m pc ls st0) (nL := nL) (own := own) (C := y.cls) (index := index) (n := z) (As := As) (rest := st) ⟨hx, hb, hml, hown, hts⟩ (hM H.size) ⟨callB_of z hts (g_good qc) rfl rfl rfl (hts _ qn) (hts _ ql) hd9 hR, hts _ qi, hts _ qs⟩ ⟨gPreX_blind, hv, fun U hU hW => g_preX hP hD hK hN hZ hS hA hn hi _ U hU hW⟩ rfl hz (by rw [← hml]; exact hl.1) hst (lv_room hcat) hd hkn
  intro T hT9 X
  rcases hrun T hT9 X with ⟨v, st₀, t, T', L, h0, X', hL, e1, e2, ⟨⟨r9, hr9, hv9, hP1, hK1, hD1⟩, hz9, hk⟩, go⟩ | ⟨q8, st₀, t, T', L, E8, ce, h0, X', hL, e1, e2, ⟨hE8, -, -, -⟩, hce, hcv, hcl, go⟩
  · rw [ho] at hr9
    cases hr9
    cases hv9
    rw [h0] at hz9 hk
    obtain ⟨hP3, hD3, hS3⟩ := g_back (locs := locs) (L := L) hP hD hS hA hn hi hlen hcs hP1 hD1 hz9 hk hL
    rw [← e1] at hP3 hS3
    subst hs1
    obtain ⟨t2, a1, b1⟩ := kk T'.heap (locs ++ L) ls hP3 hD3 hS3 hl T' rfl X'
    exact ⟨t2, go t2 a1, b1⟩
  · rw [ho] at hE8
    cases hE8
theorem g_callXt {X : gX} {cc : ByteArray} {nL : Nat} {own : String} {ret : Option FieldType} {l : Launch} {E : gE} {R : Room} {hh : List (Nat × Nat × Nat × Nat)} {k n pc : Nat} {cs csc csd cs1 : List va_W} {lv : List (Nat × Value)} {st st0 : List Value} {y : MethodName} {ccy : ByteArray} {nLy f lo mc ms b z cix index hpc : Nat} {rety : Option FieldType} {o : String ⊕ Option Value} {E8 : String} {w : va_W} {fs : List Value} {q : vw_C}
    (C : gC X cc nL own ret l E R) (Hh : gH X hh) (As : List Value) (is : List Nat) (hM : MX l E y ccy nLy rety mc ms f lo (.ref b :: As) csc o csd) (ho : o = .inl E8) (hcat8 : gCat hh own pc E8 hpc) (hcal : gCalV y ccy nLy rety z) (ql : Cond.methodLink own index y ∈ gU) (hz : As.length = z) (hR : f + 1 ≤ R.frames ∧ 8 + (nLy + 11) + lo ≤ R.locals) (hkn : k + mc ≤ R.cells ∧ n + ms ≤ R.slots)
    (ci q0 : Nat) (he : cs[ci]? = some w) (hw : w[q0]? = some (b, .inr (cix, fs))) (hc : vwCl[cix]? = some q) (hq : q.1 = y.cls)
    (hn : is.Nodup) (hi : is.map (fun i => cs[i]?) = csc.map some) (hlen : csd.length = is.length) (hcs : gRep cs is csd = cs1) (hst : st0 = As.reverse ++ .ref b :: st) (hcat : (st.map fun v => v.category).sum ≤ 8) (hd : decode cc pc = .ok (.invokevirtual index, 3)) (kk : ∀ q8 : Nat, G X (k + mc) (n + ms) cs1 lv hpc [.ref q8]) : G X k n cs lv pc st0 := by
  obtain ⟨p, l9, e, R9, s, m, args, below, meth, c, E9, A, Q⟩ := X
  obtain ⟨⟨hx, hb, hml, hown, hts⟩, hK, hA, hr, hlocks, hN, rfl, rfl, rfl⟩ := C
  obtain ⟨hT, hZ, hNc⟩ := Hh
  obtain ⟨⟨qc, qn, hd9⟩, qi, qs⟩ := hcal
  intro H locs ls hP hD hS hl
  obtain ⟨j, hj, -⟩ := g_flat he hw
  have hv := va_recv hK hP hc hj
  rw [hq] at hv
  have hrun := vx_runV (R := R9) (Ts := gU) (p := p) (e := e) (below := below) (meth := meth) (H := H) (locs := locs) (cells := k) (slots := n) (g := F0 m pc ls st0) (nL := nL) (own := own) (C := y.cls) (index := index) (n := z) (As := As) (rest := st) ⟨hx, hb, hml, hown, hts⟩ (hM H.size) ⟨callB_of z hts (g_good qc) rfl rfl rfl (hts _ qn) (hts _ ql) hd9 hR, hts _ qi, hts _ qs⟩ ⟨gPreX_blind, hv, fun U hU hW => g_preX hP hD hK hN hZ hS hA hn hi _ U hU hW⟩ rfl hz (by rw [← hml]; exact hl.1) hst (lv_room hcat) hd hkn
  intro T hT9 X
  rcases hrun T hT9 X with ⟨v, st₀, t, T', L, h0, X', hL, e1, e2, ⟨⟨r9, hr9, -, -, -, -⟩, hz9, hk⟩, go⟩ | ⟨q8, st₀, t, T', L, E7, ce, h0, X', hL, e1, e2, ⟨hE8, ⟨hP1, hK1, hD1⟩, hz9, hk⟩, hce, hcv, hcl, go⟩
  · rw [ho] at hr9
    cases hr9
  · rw [ho] at hE8
    cases hE8
    rw [h0] at hz9 hk
    obtain ⟨hP3, hD3, hS3⟩ := g_back (locs := locs) (L := L) hP hD hS hA hn hi hlen hcs hP1 hD1 hz9 hk hL
    rw [← e1] at hP3 hS3 hce
    obtain ⟨pre, suf, x, hsp, hpass, hcov, h0x, hlk, hca, rfl⟩ := hcat8
    have hcas : (Cond.castable E8 E8).before args s = true := va_Nw.use rfl (hZ.1.1 _ hca)
    obtain ⟨t2, a1, b1⟩ := vx_catch (rest := st) (cells := k + mc) (slots := n + ms) (locs := locs ++ L) (H := T'.heap) (Q := Q) (ls := ls) (pc := pc) (p := p) (l := l9) (e := e) (R := R9) (below := below) (meth := meth) hown (tableOf pre) ⟨x.1, x.2.1, x.2.2.1, x.2.2.2⟩ (tableOf suf) (by rw [hT, hsp]; simp [tableOf]) (fun z9 hz9 => by
      obtain ⟨y9, hy9, rfl⟩ := List.mem_map.mp hz9
      obtain ⟨g1, nm, g2, g3⟩ := hpass y9 hy9
      exact Or.inr ⟨g1, nm, hts _ g2, hNc _ g3⟩) hcov h0x (hts _ hlk) hcas hce hcv hcl (kk q8 T'.heap (locs ++ L) ls hP3 hD3 hS3 hl) T' rfl X'
    exact ⟨t2, go.trans a1, b1⟩
/-- a call of a helper -/
theorem g_callSW {X : gX} {cc : ByteArray} {nL : Nat} {own : String} {ret : Option FieldType} {l : Launch} {E : gE} {R : Room} {k n pc : Nat} {cs csc csd cs1 : List va_W} {lv : List (Nat × Value)} {st st0 : List Value} {y : MethodName} {ccy : ByteArray} {nLy f lo mc ms z index : Nat} {hh : List (Nat × Nat × Nat × Nat)} {r : Option Value}
    (C : gC X cc nL own ret l E R) (hZ : gZ X.2.2.2.2.2.2.2.2.2.2.2.1 X.2.2.2.2.1 X.2.2.2.2.1.heap) (hNc : gNc X.2.2.2.2.1) (As : List Value) (is : List Nat) (hM : MH l E y ccy nLy hh mc ms f lo As csc r csd) (qc : Cond.codeWith y ccy nLy (some .int) hh ∈ gU) (qn : Cond.initialized y.cls ∈ gU) (hd9 : y.cls ≠ "java/lang/invoke/MethodHandle" ∧ y.cls ≠ "java/lang/invoke/VarHandle" ∧ (parseMethodDescriptor y.desc).map (fun d => d.parameters.length) = some z) (qs : Cond.static y ∈ gU) (ql : Cond.methodLink own index y ∈ gU) (hz : As.length = z) (hR : f + 1 ≤ R.frames ∧ 8 + (nLy + 11) + lo ≤ R.locals) (hkn : k + mc ≤ R.cells ∧ n + ms ≤ R.slots)
    (hn : is.Nodup) (hi : is.map (fun i => cs[i]?) = csc.map some) (hlen : csd.length = is.length) (hcs : gRep cs is csd = cs1) (hst : st0 = As.reverse ++ st) (hcat : (st.map fun v => v.category).sum ≤ 8) (hd : decode cc pc = .ok (.invokestatic index, 3)) {st1 : List Value} (hs1 : r.toList ++ st = st1) (kk : G X (k + mc) (n + ms) cs1 lv (pc + 3) st1) : G X k n cs lv pc st0 := by
  obtain ⟨p, l9, e, R9, s, m, args, below, meth, c, E9, A, Q⟩ := X
  obtain ⟨⟨hx, hb, hml, hown, hts⟩, hK, hA, hr, hlocks, hN, rfl, rfl, rfl⟩ := C
  intro H locs ls hP hD hS hl
  have hG : GoodIn gU (va_wsS own index y (ws_H y ccy nLy hh)) := by
    intro w hw
    refine gU_good w ?_
    unfold va_wsS at hw
    simp only [List.mem_cons, List.mem_append, List.not_mem_nil, or_false] at hw
    unfold ws_H at hw
    rcases hw with hw | hw
    · rcases hw with rfl | rfl | rfl
      · exact ql
      · exact qs
      · exact qn
    · rcases List.mem_cons.mp hw with rfl | hw
      · exact qc
      · exact hw
  have hrun := vx_runSW (R := R9) (Ts := gU) (p := p) (l := l9) (e := e) (below := below) (meth := meth) (H := H) (locs := locs) (cells := k) (slots := n) (g := F0 m pc ls st0) (nL := nL) (own := own) (index := index) (n := z) (As := As) (rest := st) (hh := hh) ⟨hx, hb, hml, hown, hts⟩ (hM H.size) (vx_cwSW z hts hG rfl rfl rfl hd9 hR) ⟨gPreH_blind, fun U hU hW => by
    have h9 := g_preX hP hD hK hN hZ hS hA hn hi As U hU hW
    exact ⟨h9.1, h9.2, hNc.moved hW.alike⟩⟩ rfl hz (by rw [← hml]; exact hl.1) hst (lv_room hcat) hd hkn
  intro T hT9 X
  obtain ⟨v, st₀, t, T', L, h0, X', hL, e1, e2, ⟨⟨hv9, hP1, hK1, hD1⟩, hz9, hk⟩, go⟩ := hrun T hT9 X
  cases hv9
  rw [h0] at hz9 hk
  obtain ⟨hP3, hD3, hS3⟩ := g_back (locs := locs) (L := L) hP hD hS hA hn hi hlen hcs hP1 hD1 hz9 hk hL
  rw [← e1] at hP3 hS3
  subst hs1
  obtain ⟨t2, a1, b1⟩ := kk T'.heap (locs ++ L) ls hP3 hD3 hS3 hl T' rfl X'
  exact ⟨t2, go t2 a1, b1⟩
/-- the script of the law -/
def gS (X : gX) (b L : Nat) (xs : Nat → Int32) : Prop :=
  match X with
  | (_, _, _, _, s, _, _, _, _, _, _, A, _) => va_X b L xs s s.heap ∧ b < s.heap.size ∧ ¬ A b ∧ L ≤ 1536
theorem g_sld {X : gX} {cc : ByteArray} {nL : Nat} {own : String} {ret : Option FieldType} {l : Launch} {E : gE} {R : Room} {k n pc b L : Nat} {xs : Nat → Int32} {cs : List va_W} {lv : List (Nat × Value)} {st : List Value} {x : Int32} (C : gC X cc nL own ret l E R) (S : gS X b L xs) (i : Nat) (hx9 : x = nI i) (hi : i < L) (hd : decode cc pc = .ok (.iaload, 1)) (kk : G X k n cs lv (pc + 1) (.int (xs i) :: st)) : G X k n cs lv pc (.int x :: .ref b :: st) := by
  obtain ⟨p, l9, e, R9, s, m, args, below, meth, c, E9, A, Q⟩ := X
  obtain ⟨⟨hx, hb, hml, hown, hts⟩, hK, hA, hr, hlocks, hN, rfl, rfl, rfl⟩ := C
  obtain ⟨S1, S2, S3, S4⟩ := S
  intro H locs ls hP hD hS hl
  subst hx9
  refine va_sld hx hb S1 S2 S3 hS (vp_in_nI hi (by omega)) hd ?_
  rw [nI_clamp (by omega)]
  exact kk H locs ls hP hD hS hl
theorem g_slen {X : gX} {cc : ByteArray} {nL : Nat} {own : String} {ret : Option FieldType} {l : Launch} {E : gE} {R : Room} {k n pc b L : Nat} {xs : Nat → Int32} {cs : List va_W} {lv : List (Nat × Value)} {st : List Value} (C : gC X cc nL own ret l E R) (S : gS X b L xs) (hd : decode cc pc = .ok (.arraylength, 1)) (kk : G X k n cs lv (pc + 1) (.int (nI L) :: st)) : G X k n cs lv pc (.ref b :: st) := by
  obtain ⟨p, l9, e, R9, s, m, args, below, meth, c, E9, A, Q⟩ := X
  obtain ⟨⟨hx, hb, hml, hown, hts⟩, hK, hA, hr, hlocks, hN, rfl, rfl, rfl⟩ := C
  obtain ⟨S1, S2, S3, S4⟩ := S
  intro H locs ls hP hD hS hl
  exact va_slen hx hb S1 S2 S3 hS hd (kk H locs ls hP hD hS hl)
theorem g_lcmp {X : gX} {cc : ByteArray} {nL : Nat} {own : String} {ret : Option FieldType} {l : Launch} {E : gE} {R : Room} {k n pc : Nat} {cs : List va_W} {lv : List (Nat × Value)} {st : List Value} (C : gC X cc nL own ret l E R) {x y : Int64} (hd : decode cc pc = .ok (.lcmp, 1)) (kk : G X k n cs lv (pc + 1) (.int (lg_cmp x y) :: st)) : G X k n cs lv pc (.long y :: .long x :: st) := by
  obtain ⟨p, l9, e, R9, s, m, args, below, meth, c, E9, A, Q⟩ := X
  obtain ⟨⟨hx, hb, hml, hown, hts⟩, hK, hA, hr, hlocks, hN, rfl, rfl, rfl⟩ := C
  intro H locs ls hP hD hS hl
  exact W.lcmp hx hb hd (kk H locs ls hP hD hS hl)
theorem lg_cmp_self (x : Int64) : lg_cmp x x = 0 := by unfold lg_cmp; simp
