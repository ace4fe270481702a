/-! ===== exceptions: the three methods that throw, contracts of methods that may throw ===== -/
def vxNames : List String := ["java/lang/RuntimeException", "java/lang/Exception"]
def xIA : String := "java/lang/IllegalArgumentException"
def xIS : String := "java/lang/IllegalStateException"
def xIO : String := "java/lang/IndexOutOfBoundsException"
/-- what a throw asks of the tables beside the words that stay -/
def gBad : List Cond := [.declares (Bundle.initS "java/lang/RuntimeException"), .declares (Bundle.initS "java/lang/Exception"), .declares (Bundle.initS Bundle.tN), .castable xIA xIA, .castable xIS xIS, .castable xIO xIO]
theorem gBad_m : ∀ w ∈ gBad, (∃ x, w = .declares x) ∨ ∃ a b, w = .castable a b := by
  intro w hw
  simp only [gBad, List.mem_cons, List.not_mem_nil, or_false] at hw
  rcases hw with rfl | rfl | rfl | rfl | rfl | rfl
  · exact Or.inl ⟨_, rfl⟩
  · exact Or.inl ⟨_, rfl⟩
  · exact Or.inl ⟨_, rfl⟩
  · exact Or.inr ⟨_, _, rfl⟩
  · exact Or.inr ⟨_, _, rfl⟩
  · exact Or.inr ⟨_, _, rfl⟩
/-- what a throw asks of the machine: tables' words, its text, Throwable's two statics -/
def gZ0 (U : State) : Prop := (∀ w ∈ gBad, va_Nw w U) ∧ (∃ a, vk_R RX6 376 "no such number" a U) ∧ (∃ a, vk_R RX6 383 "not a fitting argument" a U) ∧ ∃ a, vk_R RX6 388 "not possible now" a U
def gZ (A : Nat → Prop) (U : State) (H : Heap) : Prop := gZ0 U ∧ vx_Zq Bundle.tN "UNASSIGNED_STACK" Bundle.steD A U H ∧ vx_Zq Bundle.tN "SUPPRESSED_SENTINEL" Bundle.listD A U H
theorem gZ0.warm {s U : State} (hW : s.WarmedH U.vm) (h : gZ0 s) : gZ0 U := by
  obtain ⟨h1, ⟨a, h2⟩, ⟨b, h3⟩, c, h4⟩ := h
  refine ⟨fun w hw => ?_, ⟨a, h2.warm hW⟩, ⟨b, h3.warm hW⟩, c, h4.warm hW⟩
  rcases gBad_m w hw with ⟨x, rfl⟩ | ⟨x, y, rfl⟩
  · exact va_Nw.warmD hW (h1 _ hw)
  · exact va_Nw.warmC hW (h1 _ hw)
theorem gZ0.same {u U : State} (e : u.vm = U.vm) (h : gZ0 u) : gZ0 U := by
  obtain ⟨h1, ⟨a, h2⟩, ⟨b, h3⟩, c, h4⟩ := h
  refine ⟨fun w hw => ?_, ⟨a, h2.same e.symm⟩, ⟨b, h3.same e.symm⟩, c, h4.same e.symm⟩
  rcases gBad_m w hw with ⟨x, rfl⟩ | ⟨x, y, rfl⟩
  · exact va_Nw.same rfl e (h1 _ hw)
  · exact va_Nw.same rfl e (h1 _ hw)
theorem gZ.to {A B : Nat → Prop} {s U : State} {H0 H : Heap} (h : gZ A s H0) (hW : s.WarmedH U.vm) (hk : ∀ a : Nat, a < H0.size → ¬ A a → H[a]? = H0[a]?) (hAB : ∀ q, B q → A q) : gZ B U H :=
  ⟨h.1.warm hW, ((h.2.1.kept hk).narrow hAB).moved hW.alike, ((h.2.2.kept hk).narrow hAB).moved hW.alike⟩
/-- a method's contract: it returns, or throws an exception of the class named; either way the world is cs' -/
def gRmX (f lo mc ms : Nat) : Room := { frames := f, cells := mc, slots := ms, locals := lo }
def gQx (E : gE) (o : String ⊕ Option Value) (cs : List va_W) (A : Nat → Prop) : Array Value → State → Outcome → State → Prop := fun _ st oc t => (∃ r, o = .inr r ∧ oc = .returned r ∧ gWd E A cs t) ∧ va_F A st t
def gXx (E : gE) (o : String ⊕ Option Value) (cs : List va_W) (A : Nat → Prop) : String → State → State → Prop := fun X st t => o = .inl X ∧ gWd E A cs t ∧ va_F A st t
def gPreX (E : gE) (sz : Nat) (cs : List va_W) (U : State) : Prop := gPre E sz cs U ∧ gZ (va_A cs.flatten sz) U U.heap
def MX (l : Launch) (E : gE) (y : MethodName) (cc : ByteArray) (nL : Nat) (ret : Option FieldType) (mc ms f lo : Nat) (av : List Value) (cs : List va_W) (o : String ⊕ Option Value) (cs' : List va_W) : Prop :=
  ∀ sz : Nat, vx_Met l y (ws_ y cc nL ret) (gRmX f lo mc ms) (va_Pc av (gPreX E sz cs)) (gQx E o cs' (va_A cs.flatten sz)) (gXx E o cs' (va_A cs.flatten sz)) mc ms (va_A cs.flatten sz)
theorem gPreX_blind {E : gE} {sz : Nat} {av : List Value} {cs : List va_W} : FrameBlind (va_Pc av (gPreX E sz cs)) := by
  intro a U g mk h
  obtain ⟨h1, h2, h3⟩ := h
  have h4 := (gPre_blind (E := E) (sz := sz) (av := av) (cs := cs)) a U g mk ⟨h1, h2⟩
  refine ⟨h4.1, h4.2, h3.1.same (u := U) rfl, h3.2.1.moved (u := U) (U := U.calling g mk a) (Vm.Alike.refl U.vm), h3.2.2.moved (u := U) (U := U.calling g mk a) (Vm.Alike.refl U.vm)⟩
/-- what a walk of a method that may throw has at hand -/
def gT (X : gX) (mc ms : Nat) (o : String ⊕ Option Value) (cs : List va_W) : Prop :=
  match X with
  | (p, l, e, R, s, m, args, below, meth, c, E, A, Q) => l.stackTraces = false ∧ gZ A s s.heap ∧ (∀ x ∈ c.exceptionTable.toList, False) ∧ Q = vx_MQ below (gQx E o cs A) (gXx E o cs A) args s mc ms A
theorem mx_of {l : Launch} {E : gE} {y : MethodName} {cc : ByteArray} {nL f lo mc ms : Nat} {ret : Option FieldType} {av : List Value} {cs cs' : List va_W} {o : String ⊕ Option Value} (hlt : l.stackTraces = false) (hy : plainName y.cls = true) (hav : (lg_sl av).length ≤ nL) {lv : List (Nat × Value)} (hlv : lv_args 0 av = lv)
    (body : ∀ X : gX, gC X cc nL y.cls ret l E (gRmX f lo mc ms) → gT X mc ms o cs' → G X 0 0 cs lv 0 []) : MX l E y cc nL ret mc ms f lo av cs o cs' := by
  intro sz
  refine vx_ofW (cc := cc) (maxL := nL) (ret := ret) hy rfl ?_
  intro p e s m args below meth c s₁ B hml hno hv
  obtain ⟨rfl, ⟨rfl, ⟨hP, hK, hD0⟩, hN⟩, hZ⟩ := hv
  have hts := atoms_spec (ws := ws_ y cc nL ret) B.pre
  have hX := body (p, l, e, gRmX f lo mc ms, s, m, av.toArray, below, meth, c, E, va_A cs.flatten s.heap.size, vx_MQ below (gQx E o cs' (va_A cs.flatten s.heap.size)) (gXx E o cs' (va_A cs.flatten s.heap.size)) av.toArray s mc ms (va_A cs.flatten s.heap.size))
    ⟨⟨B.exec, B.bytes, hml, findClass_of_methodNamed B.named, fun w h => hts w (List.mem_cons_of_mem _ h)⟩, hK, fun q h => Or.inr h, B.returns, B.notSynchronized, hN, rfl, rfl, rfl⟩ ⟨hlt, hZ, hno, rfl⟩
  have hl := lv_entry av (n := nL) hav
  rw [lg_entry_eq]
  subst hml; subst hlv
  exact hX s.heap [] _ hP hD0.self va_S.rf hl
/-- a return of a method that may throw -/
theorem gT_r {X : gX} {mc ms : Nat} {o : String ⊕ Option Value} {cs cs1 : List va_W} {r : Option Value} (h : gT X mc ms o cs) (ho : o = .inr r) (hc : cs = cs1) : gEnd X mc ms r cs1 := by
  obtain ⟨p, l9, e, R9, s, m, args, below, meth, c, E9, A, Q⟩ := X
  obtain ⟨-, -, -, rfl⟩ := h
  subst hc
  intro H locs g k
  refine vx_ret ?_
  intro T hT X
  obtain ⟨t, a1, o9, b1, b2, ⟨⟨b3, b4⟩, b5⟩, b6⟩ := k T hT X
  exact ⟨t, a1, o9, b1, b2, ⟨⟨r, ho, b3, b4⟩, b5⟩, b6⟩
theorem vxot : ∀ w ∈ (Cond.classLink RX6 381 xIA :: Cond.initialized xIA :: vx_atS RX6 385 xIA vxNames) ++ (Cond.classLink RX6 386 xIS :: Cond.initialized xIS :: vx_atS RX6 390 xIS vxNames) ++ (Cond.classLink RX6 374 xIO :: Cond.initialized xIO :: vx_atS RX6 378 xIO vxNames), vx_ot w = true := by decide +kernel
theorem vxgd : ∀ w ∈ (vx_atS RX6 385 xIA vxNames ++ vx_atS RX6 390 xIS vxNames ++ vx_atS RX6 378 xIO vxNames).filter goodWord, w ∈ lw_tbl := by decide +kernel
theorem vxbd : ∀ w ∈ (vx_atS RX6 385 xIA vxNames ++ vx_atS RX6 390 xIS vxNames ++ vx_atS RX6 378 xIO vxNames).filter (fun w => !goodWord w), w ∈ gBad := by decide +kernel

