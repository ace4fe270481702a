/-- the script of the law -/
def gS (X : gX) (b L : Nat) (xs : Nat → Int32) : Prop :=
  match X with
  | (_, _, _, _, s, _, _, _, _, _, _, A, _) => va_X b L xs s s.heap ∧ b < s.heap.size ∧ ¬ A b ∧ L ≤ 1536
theorem g_sld {X : gX} {cc : ByteArray} {nL : Nat} {own : String} {ret : Option FieldType} {l : Launch} {E : gE} {R : Room} {k n pc b L : Nat} {xs : Nat → Int32} {cs : List va_W} {lv : List (Nat × Value)} {st : List Value} {x : Int32} (C : gC X cc nL own ret l E R) (S : gS X b L xs) (i : Nat) (hx9 : x = nI i) (hi : i < L) (hd : decode cc pc = .ok (.iaload, 1)) (kk : G X k n cs lv (pc + 1) (.int (xs i) :: st)) : G X k n cs lv pc (.int x :: .ref b :: st) := by
  obtain ⟨p, l9, e, R9, s, m, args, below, meth, c, E9, A, Q⟩ := X
  obtain ⟨⟨hx, hb, hml, hown, hts⟩, hK, hA, hr, hlocks, hN, rfl, rfl, rfl⟩ := C
  obtain ⟨S1, S2, S3, S4⟩ := S
  intro H locs ls hP hD hS hl
  subst hx9
  refine va_sld hx hb S1 S2 S3 hS (vp_in_nI hi (by omega)) hd ?_
  rw [nI_clamp (by omega)]
  exact kk H locs ls hP hD hS hl
theorem g_slen {X : gX} {cc : ByteArray} {nL : Nat} {own : String} {ret : Option FieldType} {l : Launch} {E : gE} {R : Room} {k n pc b L : Nat} {xs : Nat → Int32} {cs : List va_W} {lv : List (Nat × Value)} {st : List Value} (C : gC X cc nL own ret l E R) (S : gS X b L xs) (hd : decode cc pc = .ok (.arraylength, 1)) (kk : G X k n cs lv (pc + 1) (.int (nI L) :: st)) : G X k n cs lv pc (.ref b :: st) := by
  obtain ⟨p, l9, e, R9, s, m, args, below, meth, c, E9, A, Q⟩ := X
  obtain ⟨⟨hx, hb, hml, hown, hts⟩, hK, hA, hr, hlocks, hN, rfl, rfl, rfl⟩ := C
  obtain ⟨S1, S2, S3, S4⟩ := S
  intro H locs ls hP hD hS hl
  exact va_slen hx hb S1 S2 S3 hS hd (kk H locs ls hP hD hS hl)
theorem g_lcmp {X : gX} {cc : ByteArray} {nL : Nat} {own : String} {ret : Option FieldType} {l : Launch} {E : gE} {R : Room} {k n pc : Nat} {cs : List va_W} {lv : List (Nat × Value)} {st : List Value} (C : gC X cc nL own ret l E R) {x y : Int64} (hd : decode cc pc = .ok (.lcmp, 1)) (kk : G X k n cs lv (pc + 1) (.int (lg_cmp x y) :: st)) : G X k n cs lv pc (.long y :: .long x :: st) := by
  obtain ⟨p, l9, e, R9, s, m, args, below, meth, c, E9, A, Q⟩ := X
  obtain ⟨⟨hx, hb, hml, hown, hts⟩, hK, hA, hr, hlocks, hN, rfl, rfl, rfl⟩ := C
  intro H locs ls hP hD hS hl
  exact W.lcmp hx hb hd (kk H locs ls hP hD hS hl)
theorem lg_cmp_self (x : Int64) : lg_cmp x x = 0 := by unfold lg_cmp; simp
/-! ===== the law's script, read by its own cell ===== -/
theorem g_ldc {X : gX} {cc : ByteArray} {nL : Nat} {own : String} {ret : Option FieldType} {l : Launch} {E : gE} {R : Room} {k n pc : Nat} {cs : List va_W} {lv : List (Nat × Value)} {st : List Value} (C : gC X cc nL own ret l E R) {i : Nat} {v : Int32} (hc : Cond.constant own i v ∈ gU) (hd : decode cc pc = .ok (.ldc i, 2)) (kk : G X k n cs lv (pc + 2) (.int v :: st)) : G X k n cs lv pc st := by
  obtain ⟨p, l9, e, R9, s, m, args, below, meth, c, E9, A, Q⟩ := X
  obtain ⟨⟨hx, hb, hml, hown, hts⟩, hK, hA, hr, hlocks, hN, rfl, rfl, rfl⟩ := C
  intro H locs ls hP hD hS hl
  exact lv_ldc hx hb hown (hts _ hc) hd (kk H locs ls hP hD hS hl)
/-- a contract of a method that reads the script, of L ints xs at the cell b -/
def MCs (l : Launch) (E : gE) (y : MethodName) (cc : ByteArray) (nL : Nat) (ret : Option FieldType) (f lo : Nat) (av : List Value) (b L : Nat) (xs : Nat → Int32) (r : Option Value) : Prop :=
  ∀ sz : Nat, Met l y (ws_ y cc nL ret) (gRm f lo) (va_Pc av (fun U => gPre E sz [] U ∧ va_X b L xs U U.heap ∧ b < sz)) (gPost E r [] (va_A ([] : List va_W).flatten sz)) 0 0 (va_A ([] : List va_W).flatten sz)
theorem mcs_blind {E : gE} {sz b L : Nat} {xs : Nat → Int32} {av : List Value} : FrameBlind (va_Pc av (fun U => gPre E sz [] U ∧ va_X b L xs U U.heap ∧ b < sz)) := by
  intro a U g mk h
  obtain ⟨h1, h2, h3, h4⟩ := h
  have h5 := (gPre_blind (E := E) (sz := sz) (av := av) (cs := [])) a U g mk ⟨h1, h2⟩
  exact ⟨h5.1, h5.2, h3.moved (u := U) (U := U.calling g mk a) (Vm.Alike.refl U.vm), h4⟩
theorem mcs_of {l : Launch} {E : gE} {y : MethodName} {cc : ByteArray} {nL f lo : Nat} {ret : Option FieldType} {av : List Value} {b L : Nat} {xs : Nat → Int32} {r : Option Value} (hy : plainName y.cls = true) (hav : (lg_sl av).length ≤ nL) (hL : L ≤ 1536) {lv : List (Nat × Value)} (hlv : lv_args 0 av = lv)
    (body : ∀ X : gX, gC X cc nL y.cls ret l E (gRm f lo) → gS X b L xs → gEnd X 0 0 r [] → G X 0 0 [] lv 0 []) : MCs l E y cc nL ret f lo av b L xs r := by
  intro sz
  refine Met.ofW (cc := cc) (maxL := nL) (ret := ret) hy rfl ?_
  intro p e s m args below meth c s₁ B hml hv
  obtain ⟨rfl, ⟨rfl, ⟨hP, hK, hD0⟩, hN⟩, hX9, hb9⟩ := hv
  have hts := atoms_spec (ws := ws_ y cc nL ret) B.pre
  have hX := body (p, l, e, gRm f lo, s, m, av.toArray, below, meth, c, E, va_A ([] : List va_W).flatten s.heap.size, MQ below (gPost E r [] (va_A ([] : List va_W).flatten s.heap.size)) av.toArray s 0 0 (va_A ([] : List va_W).flatten s.heap.size))
    ⟨⟨B.exec, B.bytes, hml, findClass_of_methodNamed B.named, fun w h => hts w (List.mem_cons_of_mem _ h)⟩, hK, fun q h => Or.inr h, B.returns, B.notSynchronized, hN, rfl, rfl, rfl⟩ ⟨hX9, hb9, fun h => by
      rcases gm_Ain.mp h with h | h
      · simp at h
      · omega, hL⟩ (fun H locs g h => h)
  have hl := lv_entry av (n := nL) hav
  rw [lg_entry_eq]
  subst hml; subst hlv
  exact hX s.heap [] _ hP hD0.self va_S.rf hl
theorem g_callS0 {X : gX} {cc : ByteArray} {nL : Nat} {own : String} {ret : Option FieldType} {l : Launch} {E : gE} {R : Room} {k n pc : Nat} {cs : List va_W} {lv : List (Nat × Value)} {st st0 : List Value} {y : MethodName} {ccy : ByteArray} {nLy f lo z index b L : Nat} {xs : Nat → Int32} {rety : Option FieldType} {r : Option Value}
    (C : gC X cc nL own ret l E R) (S : gS X b L xs) (As : List Value) (hM : MCs l E y ccy nLy rety f lo As b L xs r) (hcal : gCalS y ccy nLy rety z) (ql : Cond.methodLink own index y ∈ gU) (hz : As.length = z) (hR : f + 1 ≤ R.frames ∧ 8 + (nLy + 11) + lo ≤ R.locals) (hkn : k ≤ R.cells ∧ n ≤ R.slots)
    (hst : st0 = As.reverse ++ st) (hcat : (st.map fun v => v.category).sum ≤ 8) (hd : decode cc pc = .ok (.invokestatic index, 3)) {st1 : List Value} (hs1 : r.toList ++ st = st1) (kk : G X k n cs lv (pc + 3) st1) : G X k n cs lv pc st0 := by
  obtain ⟨p, l9, e, R9, s, m, args, below, meth, c, E9, A, Q⟩ := X
  obtain ⟨⟨hx, hb, hml, hown, hts⟩, hK, hA, hr, hlocks, hN, rfl, rfl, rfl⟩ := C
  obtain ⟨⟨qc, qn, hd9⟩, qs⟩ := hcal
  obtain ⟨S1, S2, S3, S4⟩ := S
  intro H locs ls hP hD hS hl
  have hrun := va_runS (nL := nL) (own := own) (index := index) (n := z) (As := As) (rest := st) (p := p) (l := l9) (e := e) (R := R9) (below := below) (meth := meth) (H := H) (locs := locs) (cells := k) (slots := n) (g := F0 m pc ls st0) ⟨hx, hb, hml, hown, hts⟩ (hM H.size) ⟨callB_of z hts (g_good qc) rfl rfl rfl (hts _ qn) (hts _ ql) hd9 hR, hts _ qs⟩ ⟨mcs_blind, fun U hU hW => by
    have h9 := g_pre (is := []) (csc := []) hP hD hK hN List.nodup_nil rfl As U hU hW
    exact ⟨h9.1, h9.2, by rw [hU]; exact (va_X.moved hW.alike S1).kept (hS.2.1 b S2 S3), Nat.lt_of_lt_of_le S2 hS.1⟩⟩ rfl hz (by rw [← hml]; exact hl.1) hst (lv_room hcat) hd hkn
  exact g_after (a := As.toArray) (is := []) (csc := []) (csd := []) hrun hP hD hS hA hl List.nodup_nil rfl rfl rfl (hs1 ▸ kk)

def fL_cell (L : Nat) (xs : Nat → Int32) (j : Nat) : Int32 := if nI L ≤ nI j then (7919 * (nI j + 3)) * (nI j + 11) else xs j
theorem caL_cell : gCalS yL_cell cL_cell 2 (some .int) 2 := ⟨⟨q2_151, q1_0, by decide +kernel⟩, q2_150⟩
theorem kL_cell (l : Launch) (E : gE) (b L : Nat) (xs : Nat → Int32) (hL : L ≤ 1536) (j : Nat) (hj : j < 1000) : MCs l E yL_cell cL_cell 2 (some .int) 0 0 [.ref b, .int (nI j)] b L xs (some (.int (fL_cell L xs j))) := by
  refine mcs_of (by decide +kernel) (Nat.le_of_ble_eq_true rfl) hL (lv := [(0, .ref b), (1, .int (nI j))]) rfl (fun X C S hE => ?_)
  refine g_iload_n C dL_cell_0 rfl 1 rfl ?_
  refine g_aload_n C dL_cell_1 rfl 0 rfl ?_
  refine g_slen C S dL_cell_2 ?_
  refine g_icmp_ge C 12 dL_cell_3 (by decide) (fun c1 => ?_) (fun c1 => ?_)
  · refine g_sipush C (v := 7919) dL_cell_12 (by decide) ?_
    refine g_iload_n C dL_cell_15 rfl 1 rfl ?_
    refine g_iconst C (v := 3) dL_cell_16 (by decide) ?_
    refine g_iadd C dL_cell_17 ?_
    refine g_imul C dL_cell_18 ?_
    refine g_iload_n C dL_cell_19 rfl 1 rfl ?_
    refine g_bipush C (v := 11) dL_cell_20 (by decide) ?_
    refine g_iadd C dL_cell_22 ?_
    refine g_imul C dL_cell_23 ?_
    exact g_iret C hE (by rw [fL_cell, if_pos c1]) rfl dL_cell_24
  · have hlt : j < L := lc_ige rfl rfl (by omega) (by omega) c1
    refine g_aload_n C dL_cell_6 rfl 0 rfl ?_
    refine g_iload_n C dL_cell_7 rfl 1 rfl ?_
    refine g_sld C S j rfl hlt dL_cell_8 ?_
    refine g_goto C 24 dL_cell_9 (by decide) ?_
    exact g_iret C hE (by rw [fL_cell, if_neg c1]) rfl dL_cell_24
