/-- a method's contract: it returns, or throws an exception of the class named; either way the world is cs' -/
def gRmX (f lo mc ms : Nat) : Room := { frames := f, cells := mc, slots := ms, locals := lo }
/-! ===== constructors: what is made, and by whom ===== -/
/-- the parts in another order -/
theorem g_perm {X : gX} {k n pc : Nat} {cs cs1 : List va_W} {lv : List (Nat × Value)} {st : List Value} (h : cs.flatten.Perm cs1.flatten) (kk : G X k n cs1 lv pc st) : G X k n cs lv pc st := by
  obtain ⟨p, l9, e, R9, s, m, args, below, meth, c, E9, A, Q⟩ := X
  intro H locs ls hP hD hS hl
  exact kk H locs ls (gm_Pp h hP) (gm_Dp h hD) hS hl
/-- a constructor's own name; the array class of boards -/
def gI (X : gX) : Prop :=
  match X with
  | (_, _, _, _, s, _, _, _, meth, _, _, _, _) => meth.name = "<init>" ∧ va_AO RX0 s
theorem g_objinit {X : gX} {cc : ByteArray} {nL : Nat} {own : String} {ret : Option FieldType} {l : Launch} {E : gE} {R : Room} {k n pc : Nat} {cs : List va_W} {lv : List (Nat × Value)} {st : List Value} (C : gC X cc nL own ret l E R) {idx a : Nat} (hlink : Cond.methodLink own idx Lib.objectInit ∈ gU) (hinst : Cond.instanceMethod Lib.objectInit ∈ gU) (hcode : Cond.code Lib.objectInit ⟨#[0xb1]⟩ 1 none ∈ gU) (hf : 1 ≤ R.frames) (hlo : (st.map fun v => v.category).sum + 12 ≤ R.locals) (hd : decode cc pc = .ok (.invokespecial idx, 3)) (kk : G X k n cs lv (pc + 3) st) : G X k n cs lv pc (.ref a :: st) := by
  obtain ⟨p, l9, e, R9, s, m, args, below, meth, c, E9, A, Q⟩ := X
  obtain ⟨⟨hx, hb, hml, hown, hts⟩, hK, hA, hr, hlocks, hN, rfl, rfl, rfl⟩ := C
  intro H locs ls hP hD hS hl
  exact W.objInit hx hb hown (hts _ hlink) (hts _ hinst) (hts _ hcode) rfl (by rw [← hl.1]) rfl hd hf (by show 2 * 0 + _ + _ ≤ _; omega) (kk H locs ls hP hD hS hl)
theorem g_newa {X : gX} {cc : ByteArray} {nL : Nat} {own : String} {ret : Option FieldType} {l : Launch} {E : gE} {R : Room} {k n pc : Nat} {cs : List va_W} {lv : List (Nat × Value)} {st : List Value} (C : gC X cc nL own ret l E R) {atype : ArrayType} (harr : Cond.arrayClass (newarray.typeOf atype) ∈ gU) {ty : FieldType} (hty : newarray.typeOf atype = ty) (t : Nat) {cA : ClassId} (ht : (gTy E)[t]? = some (cA, ty)) (hpr : ∀ (U : State) (cB : ClassId), va_RA U cB ty → U.vm.findClass ("[" ++ ty.toString) = some cB) {z : Int32} {N' : Nat} {a0 : vp_A} (ha : ∀ cA : ClassId, vp_cell cA a0 = arrV cA N' (fun _ => defaultValue ty)) (hn : ¬ z < 0) (hN : z.toNatClampNeg = N') (hbytes : N' * componentBytes ty ≤ 536870912) (hcells : k + 1 ≤ R.cells) (hslots : n + N' ≤ R.slots) (hd : decode cc pc = .ok (.newarray atype, 2)) (kk : ∀ q : Nat, G X (k + 1) (n + N') (cs ++ [[(q, .inl (cA, a0))]]) lv (pc + 2) (.ref q :: st)) : G X k n cs lv pc (.int z :: st) := by
  obtain ⟨p, l9, e, R9, s, m, args, below, meth, c, E9, A, Q⟩ := X
  obtain ⟨⟨hx, hb, hml, hown, hts⟩, hK, hA, hr, hlocks, hN9, rfl, rfl, rfl⟩ := C
  intro H locs ls hP hD hS hl
  refine va_newa hx hb (hts _ harr) hty hK hP hD hS hA ha hn hN hbytes hcells hslots hd (fun q cB H1 hK1 hP1 hD1 hS1 => ?_)
  have h1 := (hK.2 t _ ht).2
  have h2 := (hK1.2 (gTy E9).length (cB, ty) (by rw [List.getElem?_append_right (Nat.le_refl _), Nat.sub_self]; rfl)).2
  obtain rfl : cA = cB := Option.some.inj ((hpr _ _ h1).symm.trans (hpr _ _ h2))
  have e1 : (cs ++ [[(q, (.inl (cA, a0) : va_E))]]).flatten = cs.flatten ++ [(q, .inl (cA, a0))] := by rw [List.flatten_append]; rfl
  exact kk q H1 locs ls (by rw [e1]; exact hP1) (by rw [e1]; exact hD1) hS1 hl
theorem g_newq {X : gX} {cc : ByteArray} {nL : Nat} {own : String} {ret : Option FieldType} {l : Launch} {E : gE} {R : Room} {k n pc : Nat} {cs : List va_W} {lv : List (Nat × Value)} {st : List Value} (C : gC X cc nL own ret l E R) (I : gI X) {index : Nat} (hcl : Cond.classLink own index RX0 ∈ gU) {z : Int32} {N' : Nat} (hn : ¬ z < 0) (hN : z.toNatClampNeg = N') (hbytes : N' * 4 ≤ 536870912) (hcells : k + 1 ≤ R.cells) (hslots : n + N' ≤ R.slots) (hd : decode cc pc = .ok (.anewarray index, 3)) (kk : ∀ q : Nat, G X (k + 1) (n + N') (cs ++ [[(q, .inl (E.2 4, N', .inr (.inr (.inr (.inr (fun _ => none))))))]]) lv (pc + 3) (.ref q :: st)) : G X k n cs lv pc (.int z :: st) := by
  obtain ⟨p, l9, e, R9, s, m, args, below, meth, c, E9, A, Q⟩ := X
  obtain ⟨⟨hx, hb, hml, hown, hts⟩, hK, hA, hr, hlocks, hN9, rfl, rfl, rfl⟩ := C
  intro H locs ls hP hD hS hl
  refine va_newq hx hb hown (hts _ hcl) I.2 hK hP hD hS hA hn hN hbytes hcells hslots hd (fun q cB H1 hK1 hP1 hD1 hS1 => ?_)
  have h1 := (hK.2 4 _ (rfl : (gTy E9)[4]? = some (E9.2 4, .object RX0))).2
  have h2 := (hK1.2 (gTy E9).length (cB, .object RX0) (by rw [List.getElem?_append_right (Nat.le_refl _), Nat.sub_self]; rfl)).2
  obtain ⟨_, _, _, _, _, h1⟩ := h1
  obtain ⟨_, _, _, _, _, h2⟩ := h2
  obtain e0 : E9.2 4 = cB := Option.some.inj (h1.symm.trans h2)
  subst e0
  have e1 : (cs ++ [[(q, (.inl (E9.2 4, N', .inr (.inr (.inr (.inr (fun _ => none))))) : va_E))]]).flatten = cs.flatten ++ [(q, .inl (E9.2 4, N', .inr (.inr (.inr (.inr (fun _ => none))))))] := by rw [List.flatten_append]; rfl
  exact kk q H1 locs ls (by rw [e1]; exact hP1) (by rw [e1]; exact hD1) hS1 hl
theorem g_new {X : gX} {cc : ByteArray} {nL : Nat} {own : String} {ret : Option FieldType} {l : Launch} {E : gE} {R : Room} {k n pc : Nat} {cs : List va_W} {lv : List (Nat × Value)} {st : List Value} (C : gC X cc nL own ret l E R) {C0 : String} {T : u_T} {N cix index : Nat} (hin : ∀ w ∈ u_ws C0 T N, w ∈ gU) (ty : Nat → FieldType) (hty : ∀ k, k < N → parseFieldDescriptor (T k).2.2.1 = some (ty k)) (hcl : Cond.classLink own index C0 ∈ gU) (hinst : Cond.instantiable C0 N ∈ gU) (hini : Cond.initialized C0 ∈ gU) (hc : vwCl[cix]? = some (C0, T, N)) {fs : List Value} (hfs : ∀ j, j < N → defaultValue (ty j) = vp_V fs j) (hcells : k + 1 ≤ R.cells) (hslots : n + N ≤ R.slots) (hd : decode cc pc = .ok (.new index, 3)) (kk : ∀ q : Nat, G X (k + 1) (n + N) (cs ++ [[(q, .inr (cix, fs))]]) lv (pc + 3) (.ref q :: st)) : G X k n cs lv pc st := by
  obtain ⟨p, l9, e, R9, s, m, args, below, meth, c, E9, A, Q⟩ := X
  obtain ⟨⟨hx, hb, hml, hown, hts⟩, hK, hA, hr, hlocks, hN9, rfl, rfl, rfl⟩ := C
  intro H locs ls hP hD hS hl
  refine va_new hx hb hts hin ty hty hown (hts _ hcl) (hts _ hinst) (hts _ hini) hK hP hD hS hA hc hfs hcells hslots hd (fun q H1 hP1 hD1 hS1 => ?_)
  have e1 : (cs ++ [[(q, (.inr (cix, fs) : va_E))]]).flatten = cs.flatten ++ [(q, .inr (cix, fs))] := by rw [List.flatten_append]; rfl
  exact kk q H1 locs ls (by rw [e1]; exact hP1) (by rw [e1]; exact hD1) hS1 hl
theorem g_putfF {X : gX} {cc : ByteArray} {nL : Nat} {own : String} {ret : Option FieldType} {l : Launch} {E : gE} {R : Room} {k n pc : Nat} {cs : List va_W} {lv : List (Nat × Value)} {st : List Value} (C : gC X cc nL own ret l E R) (I : gI X) {C0 : String} {T : u_T} {N cix index : Nat} {ty0 : Nat → FieldType} {ty : FieldType} {a : Nat} {w w1 : va_W} {cs1 : List va_W} {fs : List Value} {v : Value} (ci q0 : Nat) (he : cs[ci]? = some w) (hw : w[q0]? = some (a, .inr (cix, fs))) (hc : vwCl[cix]? = some (C0, T, N)) (hin : ∀ w ∈ u_ws C0 T N, w ∈ gU) (hty : ∀ k, k < N → parseFieldDescriptor (T k).2.2.1 = some (ty0 k)) (hnm : ∀ a, a < N → ∀ b, b < N → a ≠ b → (T a).2.1 ≠ (T b).2.1) (j : Nat) (hj : j < N) (hlink : Cond.fieldLink own index (T j).1 (T j).2.1 (T j).2.2.1 ∈ gU) (hfin : (T j).2.2.2 = true) (hdecl : (T j).1 = own) (hdsc : parseFieldDescriptor (T j).2.2.1 = some ty) (hnw : narrow ty v = v) (hfit : fits ty v = true) (hlen : j < fs.length) (hw1 : w.set q0 (a, .inr (cix, fs.set j v)) = w1) (hcs : cs.set ci w1 = cs1) (hd : decode cc pc = .ok (.putfield index, 3)) (kk : G X k n cs1 lv (pc + 3) st) : G X k n cs lv pc (v :: .ref a :: st) := by
  obtain ⟨p, l9, e, R9, s, m, args, below, meth, c, E9, A, Q⟩ := X
  obtain ⟨⟨hx, hb, hml, hown, hts⟩, hK, hA, hr, hlocks, hN, rfl, rfl, rfl⟩ := C
  intro H locs ls hP hD hS hl
  obtain ⟨z, hz, hz2⟩ := g_flat he hw
  refine va_putF hx hb hts hin ty0 hty hnm hown hK hP hD hS z hz hc j hj (hts _ hlink) (fun _ h => h) hfin I.1 hdecl hdsc hnw hfit hlen hd (fun H1 locs1 hP1 hD1 hS1 => ?_)
  rw [hz2, hw1, hcs] at hP1 hD1
  exact kk H1 locs1 ls hP1 hD1 hS1 hl
theorem g_aast {X : gX} {cc : ByteArray} {nL : Nat} {own : String} {ret : Option FieldType} {l : Launch} {E : gE} {R : Room} {k n pc : Nat} {cs : List va_W} {lv : List (Nat × Value)} {st : List Value} (C : gC X cc nL own ret l E R) {a z v cj : Nat} {w w1 wv : va_W} {cs1 : List va_W} {f : Nat → Option Nat} {vs : List Value} {r : vw_C} {x : Int32} (ci q0 i : Nat) (he : cs[ci]? = some w) (hw : w[q0]? = some (a, .inl (E.2 4, z, .inr (.inr (.inr (.inr f)))))) (hx9 : x = nI i) (hi : i < z) (hi2 : i < 100) (cv qv : Nat) (hev : cs[cv]? = some wv) (hwv : wv[qv]? = some (v, .inr (cj, vs))) (hc : vwCl[cj]? = some r) (hrn : r.1 = RX0) (hw1 : w.set q0 (a, .inl (E.2 4, z, .inr (.inr (.inr (.inr (va_up f i (some v))))))) = w1) (hcs : cs.set ci w1 = cs1) (hd : decode cc pc = .ok (.aastore, 1)) (kk : G X k n cs1 lv (pc + 1) st) : G X k n cs lv pc (.ref v :: .int x :: .ref a :: st) := by
  obtain ⟨p, l9, e, R9, s, m, args, below, meth, c, E9, A, Q⟩ := X
  obtain ⟨⟨hx, hb, hml, hown, hts⟩, hK, hA, hr, hlocks, hN, rfl, rfl, rfl⟩ := C
  intro H locs ls hP hD hS hl
  obtain ⟨z9, hz, hz2⟩ := g_flat he hw
  obtain ⟨zv, hzv, -⟩ := g_flat hev hwv
  subst hx9
  have hin : vp_in (nI i) z := by
    intro h
    rcases h with h | h
    · exact absurd (show nI i < nI 0 from h) (nI_nlt (Nat.zero_le _) (by omega))
    · rw [nI_clamp (by omega)] at h
      omega
  refine va_astq hx hb hK hP hD hS z9 4 zv cj hz (by rw [hrn]; rfl) hzv hc hin hd (fun H1 locs1 hP1 hD1 hS1 => ?_)
  rw [nI_clamp (by omega), hz2, hw1, hcs] at hP1 hD1
  exact kk H1 locs1 ls hP1 hD1 hS1 hl
/-- a constructor's contract: over the world cs it returns, the world behind is one of P's -/
def gPreN (E : gE) (sz : Nat) (cs : List va_W) (U : State) : Prop := gPre E sz cs U ∧ va_AO RX0 U
def gPostN (E : gE) (P : List va_W → Prop) (A : Nat → Prop) : Array Value → State → Outcome → State → Prop := fun _ st oc t => (∃ cs', P cs' ∧ oc = .returned none ∧ gWd E A cs' t) ∧ va_F A st t
def MN (l : Launch) (E : gE) (y : MethodName) (cc : ByteArray) (nL mc ms f lo : Nat) (av : List Value) (cs : List va_W) (P : List va_W → Prop) : Prop :=
  ∀ sz : Nat, Met l y (ws_ y cc nL none) (gRmX f lo mc ms) (va_Pc av (gPreN E sz cs)) (gPostN E P (va_A cs.flatten sz)) mc ms (va_A cs.flatten sz)
theorem gPreN_blind {E : gE} {sz : Nat} {av : List Value} {cs : List va_W} : FrameBlind (va_Pc av (gPreN E sz cs)) := by
  intro a U g mk h
  obtain ⟨h1, h2, h3⟩ := h
  have h4 := (gPre_blind (E := E) (sz := sz) (av := av) (cs := cs)) a U g mk ⟨h1, h2⟩
  exact ⟨h4.1, h4.2, h3.moved (u := U) (U := U.calling g mk a) (Vm.Alike.refl U.vm)⟩
def gEndN (X : gX) (mc ms : Nat) (P : List va_W → Prop) : Prop :=
  match X with
  | (_, _, _, _, s, _, args, below, _, _, E, A, Q) => Q = MQ below (gPostN E P A) args s mc ms A
theorem mn_of {l : Launch} {E : gE} {y : MethodName} {cc : ByteArray} {nL f lo mc ms : Nat} {av : List Value} {cs : List va_W} {P : List va_W → Prop} (hy : plainName y.cls = true) (hyn : y.name = "<init>") (hav : (lg_sl av).length ≤ nL) {lv : List (Nat × Value)} (hlv : lv_args 0 av = lv)
    (body : ∀ X : gX, gC X cc nL y.cls none l E (gRmX f lo mc ms) → gI X → gEndN X mc ms P → G X 0 0 cs lv 0 []) : MN l E y cc nL mc ms f lo av cs P := by
  intro sz
  refine Met.ofW (cc := cc) (maxL := nL) (ret := none) hy rfl ?_
  intro p e s m args below meth c s₁ B hml hv
  obtain ⟨rfl, ⟨rfl, ⟨hP, hK, hD0⟩, hN⟩, hO⟩ := hv
  have hts := atoms_spec (ws := ws_ y cc nL none) B.pre
  have hX := body (p, l, e, gRmX f lo mc ms, s, m, av.toArray, below, meth, c, E, va_A cs.flatten s.heap.size, MQ below (gPostN E P (va_A cs.flatten s.heap.size)) av.toArray s mc ms (va_A cs.flatten s.heap.size))
    ⟨⟨B.exec, B.bytes, hml, findClass_of_methodNamed B.named, fun w h => hts w (List.mem_cons_of_mem _ h)⟩, hK, fun q h => Or.inr h, B.returns, B.notSynchronized, hN, rfl, rfl, rfl⟩ ⟨(name_of_methodNamed B.named B.method).1.trans hyn, hO⟩ rfl
  have hl := lv_entry av (n := nL) hav
  rw [lg_entry_eq]
  subst hml; subst hlv
  exact hX s.heap [] _ hP hD0.self va_S.rf hl
theorem g_vretN {X : gX} {cc : ByteArray} {nL : Nat} {own : String} {l : Launch} {E : gE} {R : Room} {mc ms pc : Nat} {cs : List va_W} {P : List va_W → Prop} {lv : List (Nat × Value)} (C : gC X cc nL own none l E R) (hE : gEndN X mc ms P) (hp : P cs) (hd : decode cc pc = .ok (.return_, 1)) : G X mc ms cs lv pc [] := by
  obtain ⟨p, l9, e, R9, s, m, args, below, meth, c, E9, A, Q⟩ := X
  obtain ⟨⟨hx, hb, hml, hown, hts⟩, hK, hA, hr, hlocks, hN, rfl, rfl, rfl⟩ := C
  intro H locs ls hP hD hS hl
  cases hE
  exact W.vret hx hb hr (fun t ht hW => ⟨⟨cs, hp, rfl, by rw [ht]; exact hP, va_K.moved hW.alike hK, hD⟩, hS.F ht⟩) hS.2.2 hd hlocks
/-- behind a constructor -/
theorem g_afterN {p : Program} {l : Launch} {e : Env} {R : Room} {s : State} {m : MethodId} {args : Array Value} {below : List Frame} {meth : Method} {c : Code} {E : gE} {A : Nat → Prop} {Q : State → Prop} {H : Heap} {locs : List Loc} {ls : Array Slot} {k n mc ms pc ci : Nat} {st0 st : List Value} {cs : List va_W} {w : va_W} {P : List va_W → Prop} {lv : List (Nat × Value)} {a : Array Value}
    (hr : va_Run p l e R s m args below meth c H locs k n mc ms (F0 m pc ls st0) st (gPostN E P (va_A [w].flatten H.size) a) (va_A [w].flatten H.size)) (hP : va_P E.1 vwCl cs.flatten H) (hD : va_D A cs.flatten) (hS : va_S A s.heap H locs) (hA : ∀ q, s.heap.size ≤ q → A q) (hl : lv_has ls c.maxLocals lv)
    (he : cs[ci]? = some w) (kk : ∀ cs', P cs' → G (p, l, e, R, s, m, args, below, meth, c, E, A, Q) (k + mc) (n + ms) (cs.set ci cs'.flatten) lv (pc + 3) st) : W p l e R s m args below meth c H locs k n Q (F0 m pc ls st0) := by
  intro T hT X
  obtain ⟨v, st₀, t, T', L, h0, X', hL, e1, e2, ⟨⟨cs', hp', hv, hP1, hK1, hD1⟩, hz, hk⟩, go⟩ := hr T hT X
  cases hv
  rw [h0] at hz hk
  have hp : cs.flatten.Perm ([w].flatten ++ (cs.set ci []).flatten) := by
    have := gp_set he
    simpa using this
  have hF : ∀ q, va_A [w].flatten H.size q → A q := by
    intro q hq
    rcases gm_Ain.mp hq with h | h
    · obtain ⟨x, hx, rfl⟩ := List.mem_map.mp h
      exact (gm_D.mp (gm_Dp hp hD)).2 x (List.mem_append_left _ hx)
    · exact hA q (Nat.le_trans hS.1 h)
  obtain ⟨hP2, hD2⟩ := g_join (H1 := t.heap) hp hP hD hk hF hP1 hD1
  have hq : (cs'.flatten ++ (cs.set ci []).flatten).Perm (cs.set ci cs'.flatten).flatten := by
    have hl9 : ci < cs.length := (List.getElem?_eq_some_iff.mp he).1
    have h9 := gp_set (cs := cs.set ci cs'.flatten) (i := ci) (w := cs'.flatten) (by rw [List.getElem?_set, if_pos rfl, if_pos hl9])
    rw [List.set_set] at h9
    exact h9.symm
  have hP3 := gm_Pp hq hP2
  have hD3 := gm_Dp hq hD2
  rw [← e1] at hP3 hz hk
  obtain ⟨t2, a1, b1⟩ := kk cs' hp' T'.heap (locs ++ L) ls hP3 hD3
    ⟨Nat.le_trans hS.1 hz, fun q h1 h2 => by rw [hk q (Nat.lt_of_lt_of_le h1 hS.1) (fun z => h2 (hF q z))]; exact hS.2.1 q h1 h2, fun q hq => by
      rcases List.mem_append.mp hq with h | h
      · exact hS.2.2 q h
      · exact hF _ (hL q h)⟩ hl T' rfl X'
  exact ⟨t2, go t2 a1, b1⟩
/-- what a constructor asks, at its call -/
theorem g_preN {E : gE} {s : State} {H : Heap} {cs : List va_W} {w : va_W} {ci : Nat} {A : Nat → Prop} (hP : va_P E.1 vwCl cs.flatten H) (hD : va_D A cs.flatten) (hK : va_K E.1 vwCl (gTy E) s) (hN : gN s) (hO : va_AO RX0 s) (he : cs[ci]? = some w) (av : List Value) (U : State) (hU : U.heap = H) (hW : s.WarmedH U.vm) : va_Pc av (gPreN E H.size [w]) av.toArray U := by
  have h := g_pre (is := [ci]) (csc := [w]) hP hD hK hN (by simp) (by simp [he]) av U hU hW
  exact ⟨h.1, h.2, hO.moved hW.alike⟩
theorem g_initI {X : gX} {cc : ByteArray} {nL : Nat} {own : String} {ret : Option FieldType} {l : Launch} {E : gE} {R : Room} {k n pc : Nat} {cs : List va_W} {lv : List (Nat × Value)} {st : List Value} {y : MethodName} {ccy : ByteArray} {nLy f lo mc ms index q : Nat} {w : va_W} {P : List va_W → Prop} (C : gC X cc nL own ret l E R) (hO : va_AO RX0 X.2.2.2.2.1) (ci : Nat) (he : cs[ci]? = some w) (hM : MN l E y ccy nLy mc ms f lo [.ref q] [w] P) (qc : Cond.code y ccy nLy none ∈ gU) (qn : Cond.initialized y.cls ∈ gU) (hd9 : y.cls ≠ "java/lang/invoke/MethodHandle" ∧ y.cls ≠ "java/lang/invoke/VarHandle" ∧ (parseMethodDescriptor y.desc).map (fun d => d.parameters.length) = some 0) (qi : Cond.instanceMethod y ∈ gU) (hyn : y.name = "<init>") (ql : Cond.methodLink own index y ∈ gU) (hR : f + 1 ≤ R.frames ∧ 8 + (nLy + 11) + lo ≤ R.locals) (hkn : k + mc ≤ R.cells ∧ n + ms ≤ R.slots) (hcat : (st.map fun v => v.category).sum ≤ 8) (hd : decode cc pc = .ok (.invokespecial index, 3)) (kk : ∀ cs', P cs' → G X (k + mc) (n + ms) (cs.set ci cs'.flatten) lv (pc + 3) st) : G X k n cs lv pc (.ref q :: st) := by
  obtain ⟨p, l9, e, R9, s, m, args, below, meth, c, E9, A, Q⟩ := X
  obtain ⟨⟨hx, hb, hml, hown, hts⟩, hK, hA, hr, hlocks, hN, rfl, rfl, rfl⟩ := C
  intro H locs ls hP hD hS hl
  exact g_afterN (a := (Value.ref q :: []).toArray) (va_runI (nL := nL) (own := own) (index := index) (n := 0) (As := []) (rest := st) ⟨hx, hb, hml, hown, hts⟩ (hM H.size) ⟨callB_of 0 hts (g_good qc) rfl rfl rfl (hts _ qn) (hts _ ql) hd9 hR, hyn, hts _ qi⟩ ⟨gPreN_blind, fun U hU hW => g_preN hP hD hK hN hO he _ U hU hW⟩ rfl rfl (by rw [← hml]; exact hl.1) rfl (lv_room hcat) hd hkn) hP hD hS hA hl he kk
/-- the same, of a private constructor of a nest mate -/
theorem g_initN {X : gX} {cc : ByteArray} {nL : Nat} {own : String} {ret : Option FieldType} {l : Launch} {E : gE} {R : Room} {k n pc : Nat} {cs : List va_W} {lv : List (Nat × Value)} {st : List Value} {y : MethodName} {ccy : ByteArray} {nLy f lo mc ms index q : Nat} {w : va_W} {P : List va_W → Prop} (C : gC X cc nL own ret l E R) (hO : va_AO RX0 X.2.2.2.2.1) (ci : Nat) (he : cs[ci]? = some w) (hM : MN l E y ccy nLy mc ms f lo [.ref q] [w] P) (qc : Cond.code y ccy nLy none ∈ gU) (qn : Cond.initialized y.cls ∈ gU) (hd9 : y.cls ≠ "java/lang/invoke/MethodHandle" ∧ y.cls ≠ "java/lang/invoke/VarHandle" ∧ (parseMethodDescriptor y.desc).map (fun d => d.parameters.length) = some 0) (qi : Cond.instanceMethod y ∈ gU) (hyn : y.name = "<init>") {host : String} (ql : Cond.methodLinkNest own index y host ∈ gNest) (hR : f + 1 ≤ R.frames ∧ 8 + (nLy + 11) + lo ≤ R.locals) (hkn : k + mc ≤ R.cells ∧ n + ms ≤ R.slots) (hcat : (st.map fun v => v.category).sum ≤ 8) (hd : decode cc pc = .ok (.invokespecial index, 3)) (kk : ∀ cs', P cs' → G X (k + mc) (n + ms) (cs.set ci cs'.flatten) lv (pc + 3) st) : G X k n cs lv pc (.ref q :: st) := by
  obtain ⟨p, l9, e, R9, s, m, args, below, meth, c, E9, A, Q⟩ := X
  obtain ⟨⟨hx, hb, hml, hown, hts⟩, hK, hA, hr, hlocks, hN, rfl, rfl, rfl⟩ := C
  intro H locs ls hP hD hS hl
  exact g_afterN (a := (Value.ref q :: []).toArray) (va_runIN (nL := nL) (own := own) (index := index) (n := 0) (As := []) (rest := st) ⟨hx, hb, hml, hown, hts⟩ (hM H.size) ⟨va_cnB 0 hts (g_good qc) rfl rfl rfl (hN _ ql) (hts _ qn) hd9 hR, hyn, hts _ qi⟩ ⟨gPreN_blind, fun U hU hW => g_preN hP hD hK hN hO he _ U hU hW⟩ rfl rfl (by rw [← hml]; exact hl.1) rfl (lv_room hcat) hd hkn) hP hD hS hA hl he kk
