/-- throw new E("text"), in the outer class -/
theorem g_throw {X : gX} {cc : ByteArray} {nL : Nat} {ret : Option FieldType} {l : Launch} {E : gE} {R : Room} {k n pc mc ms : Nat} {cs cs1 : List va_W} {lv : List (Nat × Value)} {st : List Value} {o : String ⊕ Option Value} {ik is ic : Nat} {cls text : String}
    (C : gC X cc nL RX6 ret l E R) (hT : gT X mc ms o cs1) (hcls : Bundle.fit cls = true) (hk : Cond.classLink RX6 ik cls ∈ gU) (hini : Cond.initialized cls ∈ gU) (hstr : ∀ U, gZ0 U → ∃ a, vk_R RX6 is text a U)
    (hot : ∀ w ∈ Cond.classLink RX6 ik cls :: Cond.initialized cls :: vx_atS RX6 ic cls vxNames, vx_ot w = true) (hgd : ∀ w ∈ (vx_atS RX6 ic cls vxNames).filter goodWord, w ∈ gU) (hbd : ∀ w ∈ (vx_atS RX6 ic cls vxNames).filter (fun w => !goodWord w), w ∈ gBad)
    (ho : o = .inl cls) (hcs : cs1 = cs) (hR : 5 < R.frames ∧ (st.map fun v => v.category).sum + 82 ≤ R.locals ∧ k + 1 ≤ R.cells ∧ n + 6 ≤ R.slots) (hm : k + 1 ≤ mc ∧ n + 6 ≤ ms)
    (d0 : decode cc pc = .ok (.new ik, 3)) (d3 : decode cc (pc + 3) = .ok (.dup, 1)) (d4 : decode cc (pc + 4) = .ok (.ldc_w is, 3)) (d7 : decode cc (pc + 7) = .ok (.invokespecial ic, 3)) (d10 : decode cc (pc + 10) = .ok (.athrow, 1)) : G X k n cs lv pc st := by
  obtain ⟨p, l9, e, R9, s, m, args, below, meth, c, E9, A, Q⟩ := X
  obtain ⟨⟨hx, hb, hml, hown, hts⟩, hK, hA, hr, hlocks, hN, rfl, rfl, rfl⟩ := C
  obtain ⟨hlt, hZ, hno, rfl⟩ := hT
  subst hcs
  intro H locs ls hP hD hS hl
  obtain ⟨a, ha⟩ := hstr s hZ.1
  have hat : ∀ w ∈ vx_atS RX6 ic cls vxNames, w.before args s = true := by
    refine vx_hat (B := gBad) (fun w hw => hts w (hgd w hw)) hbd (fun w hw => ?_)
    rcases gBad_m w hw with ⟨x, rfl⟩ | ⟨x, y, rfl⟩
    · exact va_Nw.use rfl (hZ.1.1 _ hw)
    · exact va_Nw.use rfl (hZ.1.1 _ hw)
  refine vx_throwSW (names := vxNames) (A := A) hx hb hlt hown hcls (by decide +kernel) (hts _ hk) (hts _ hini) ha hat hot hZ.2.1 hZ.2.2 hS hl.1 d0 d3 d4 d7 d10 (fun x hx9 => (hno x hx9).elim) hR.1 hR.2.1 hR.2.2.1 hR.2.2.2 hlocks (fun t hv hz hk9 => ?_) hS.2.2 hm.1 hm.2
  refine ⟨ho, ⟨?_, va_K.moved hv hK, hD⟩, Nat.le_trans hS.1 hz, fun q h1 h2 => ?_⟩
  · exact gm_P.mpr fun q hq => (gm_P.mp hP q hq).kept (hk9 _ (gm_P.mp hP q hq).lt)
  · rw [hk9 q (Nat.lt_of_lt_of_le h1 hS.1)]
    exact hS.2.1 q h1 h2
/-- the pre of a callee that may throw, at a call -/
theorem g_preX {E : gE} {s : State} {H : Heap} {locs : List Loc} {cs csc : List va_W} {is : List Nat} {A : Nat → Prop} (hP : va_P E.1 vwCl cs.flatten H) (hD : va_D A cs.flatten) (hK : va_K E.1 vwCl (gTy E) s) (hN : gN s) (hZ : gZ A s s.heap) (hS : va_S A s.heap H locs) (hA : ∀ q, s.heap.size ≤ q → A q) (hn : is.Nodup) (hi : is.map (fun i => cs[i]?) = csc.map some) (av : List Value) (U : State) (hU : U.heap = H) (hW : s.WarmedH U.vm) : va_Pc av (gPreX E H.size csc) av.toArray U := by
  have h1 := g_pre hP hD hK hN hn hi av U hU hW
  refine ⟨h1.1, h1.2, ?_⟩
  rw [hU]
  refine hZ.to hW hS.2.1 (fun q hq => ?_)
  rcases gm_Ain.mp hq with h | h
  · obtain ⟨x, hx, rfl⟩ := List.mem_map.mp h
    exact (gm_D.mp (gm_Dp (gp_nil hn hi) hD)).2 x (List.mem_append_left _ hx)
  · exact hA q (Nat.le_trans hS.1 h)
/-- a call of one of the three: a true argument returns, a false one throws on -/
theorem g_req {X : gX} {cc : ByteArray} {nL : Nat} {ret : Option FieldType} {l : Launch} {E : gE} {R : Room} {k n pc mc ms : Nat} {cs cs1 : List va_W} {lv : List (Nat × Value)} {st : List Value} {o : String ⊕ Option Value} {y : MethodName} {ccy : ByteArray} {f lo index : Nat} {Xn : String} {b : Bool}
    (C : gC X cc nL RX6 ret l E R) (hT : gT X mc ms o cs1) (hM : MX l E y ccy 1 none 1 6 f lo [.int (b2i b)] [] (if b then .inr none else .inl Xn) []) (hcal : gCalS y ccy 1 none 1) (ql : Cond.methodLink RX6 index y ∈ gU) (hR : f + 1 ≤ R.frames ∧ 8 + (1 + 11) + lo ≤ R.locals) (hkn : k + 1 ≤ R.cells ∧ n + 6 ≤ R.slots) (hm : k + 1 ≤ mc ∧ n + 6 ≤ ms)
    (ho : b = false → o = .inl Xn ∧ cs1 = cs) (hcat : (st.map fun v => v.category).sum ≤ 8) (hd : decode cc pc = .ok (.invokestatic index, 3)) (kk : b = true → G X (k + 1) (n + 6) cs lv (pc + 3) st) : G X k n cs lv pc (.int (b2i b) :: st) := by
  obtain ⟨p, l9, e, R9, s, m, args, below, meth, c, E9, A, Q⟩ := X
  obtain ⟨⟨hx, hb, hml, hown, hts⟩, hK, hA, hr, hlocks, hN, rfl, rfl, rfl⟩ := C
  obtain ⟨hlt, hZ, hno, rfl⟩ := hT
  obtain ⟨⟨qc, qn, hd9⟩, qs⟩ := hcal
  intro H locs ls hP hD hS hl
  have hrun := vx_runS (R := R9) (Ts := gU) (p := p) (e := e) (below := below) (meth := meth) (H := H) (locs := locs) (cells := k) (slots := n) (g := F0 m pc ls (.int (b2i b) :: st)) (nL := nL) (own := RX6) (index := index) (n := 1) (As := [.int (b2i b)]) (rest := st) ⟨hx, hb, hml, hown, hts⟩ (hM H.size) ⟨callB_of 1 hts (g_good qc) rfl rfl rfl (hts _ qn) (hts _ ql) hd9 hR, hts _ qs⟩ ⟨gPreX_blind, fun U hU hW => g_preX (is := []) (csc := []) hP hD hK hN hZ hS hA List.nodup_nil rfl _ U hU hW⟩ rfl rfl (by rw [← hml]; exact hl.1) rfl (lv_room hcat) hd hkn
  have hAf : ∀ q, va_A [] H.size q → A q := fun q hq => by
    rcases gm_Ain.mp hq with h | h
    · simp at h
    · exact hA q (Nat.le_trans hS.1 h)
  intro T hT X
  rcases hrun T hT X with ⟨v, st₀, t, T', L, h0, X', hL, e1, e2, ⟨⟨r9, hr9, hv, hP1, hK1, hD1⟩, hz, hk⟩, go⟩ | ⟨q, st₀, t, T', L, E8, ce, h0, X', hL, e1, e2, ⟨hE8, ⟨hP1, hK1, hD1⟩, hz, hk⟩, hce, hcv, hcl, go⟩
  · cases b with
    | false => simp at hr9
    | true =>
      simp at hr9
      subst hr9
      cases hv
      rw [h0] at hz hk
      rw [← e1] at hz hk
      have hP3 : va_P E9.1 vwCl cs.flatten T'.heap := gm_P.mpr fun q hq => (gm_P.mp hP q hq).kept (hk _ (gm_P.mp hP q hq).lt (fun h9 => by
        rcases gm_Ain.mp h9 with h | h
        · simp at h
        · exact absurd (gm_P.mp hP q hq).lt (Nat.not_lt.mpr h)))
      obtain ⟨t2, a1, b1⟩ := kk rfl T'.heap (locs ++ L) ls hP3 hD
        ⟨Nat.le_trans hS.1 hz, fun q h1 h2 => by rw [hk q (Nat.lt_of_lt_of_le h1 hS.1) (fun z => h2 (hAf q z))]; exact hS.2.1 q h1 h2, fun q hq => by
          rcases List.mem_append.mp hq with h | h
          · exact hS.2.2 q h
          · exact hAf _ (hL q h)⟩ hl T' rfl X'
      exact ⟨t2, go t2 a1, b1⟩
  · cases b with
    | true => simp at hE8
    | false =>
      simp at hE8
      subst hE8
      obtain ⟨ho1, rfl⟩ := ho rfl
      rw [h0] at hz hk
      rw [← e1] at hz hk
      have hkeep : ∀ q : Nat, q < H.size → T'.heap[q]? = H[q]? := fun q hq => hk q hq (fun h9 => by
        rcases gm_Ain.mp h9 with h | h
        · simp at h
        · omega)
      have hS2 : va_S A s.heap T'.heap (locs ++ L) := ⟨Nat.le_trans hS.1 hz, fun q h1 h2 => by rw [hkeep q (Nat.lt_of_lt_of_le h1 hS.1)]; exact hS.2.1 q h1 h2, fun q hq => by
          rcases List.mem_append.mp hq with h | h
          · exact hS.2.2 q h
          · exact hAf _ (hL q h)⟩
      obtain ⟨t2, a1, b1⟩ := vx_out (Qc := gQx E9 o cs1 A) (XC := gXx E9 o cs1 A) (args := args) (s := s) (mc := mc) (ms := ms) (free := A) (pc := pc) (rest := st) (ls := ls) (q := q) (H := T'.heap) (locs := locs ++ L) (cells := k + 1) (slots := n + 6) (fun x hx9 => (hno x hx9).elim) hlocks (by rw [e1]; exact hce) hcv hcl (fun t9 ht9 hal => ⟨ho1, ⟨by rw [ht9]; exact gm_P.mpr fun q hq => (gm_P.mp hP q hq).kept (hkeep _ (gm_P.mp hP q hq).lt), va_K.moved hal hK, hD⟩, hS2.F ht9⟩) hS2.2.2 hm.1 hm.2 T' rfl X'
      exact ⟨t2, go.trans a1, b1⟩
theorem caX6_requireIndex : gCalS yX6_requireIndex cX6_requireIndex 1 none 1 := ⟨⟨q3_197, q1_1, by decide +kernel⟩, q3_196⟩
theorem kX6_requireIndex (l : Launch) (E : gE) (hlt : l.stackTraces = false) (b : Bool) : MX l E yX6_requireIndex cX6_requireIndex 1 none 1 6 6 82 [.int (b2i b)] [] (if b then .inr none else .inl xIO) [] := by
  refine mx_of hlt (by decide +kernel) (Nat.le_of_ble_eq_true rfl) (lv := [(0, .int (b2i b))]) rfl (fun X C hT => ?_)
  refine g_iload_n C dX6_requireIndex_0 rfl 0 rfl ?_
  refine g_ifB_ne C 15 dX6_requireIndex_1 (by decide) (fun c1 => ?_) (fun c1 => ?_)
  · refine g_widen (k1 := 1) (n1 := 6) (by decide) (by decide) ?_
    exact g_vret C (gT_r hT (by rw [c1]; rfl) rfl) rfl rfl dX6_requireIndex_15
  · exact g_throw (cls := xIO) (text := "no such number") (ik := 374) (is := 376) (ic := 378) C hT (by decide +kernel) q3_198 q1_14 (fun U h => h.2.1)
      (fun w h => vxot w (List.mem_append_right _ h)) (fun w h => List.mem_filter.mpr ⟨vxgd w (List.mem_filter.mpr ⟨List.mem_append_right _ (List.mem_filter.mp h).1, (List.mem_filter.mp h).2⟩), (List.mem_filter.mp h).2⟩) (fun w h => vxbd w (List.mem_filter.mpr ⟨List.mem_append_right _ (List.mem_filter.mp h).1, (List.mem_filter.mp h).2⟩))
      (by rw [c1]; rfl) rfl ⟨Nat.le_of_ble_eq_true rfl, Nat.le_of_ble_eq_true rfl, Nat.le_of_ble_eq_true rfl, Nat.le_of_ble_eq_true rfl⟩ ⟨Nat.le_of_ble_eq_true rfl, Nat.le_of_ble_eq_true rfl⟩ dX6_requireIndex_4 dX6_requireIndex_7 dX6_requireIndex_8 dX6_requireIndex_11 dX6_requireIndex_14
theorem caX6_requireArgument : gCalS yX6_requireArgument cX6_requireArgument 1 none 1 := ⟨⟨q3_70, q1_1, by decide +kernel⟩, q3_69⟩
theorem kX6_requireArgument (l : Launch) (E : gE) (hlt : l.stackTraces = false) (b : Bool) : MX l E yX6_requireArgument cX6_requireArgument 1 none 1 6 6 82 [.int (b2i b)] [] (if b then .inr none else .inl xIA) [] := by
  refine mx_of hlt (by decide +kernel) (Nat.le_of_ble_eq_true rfl) (lv := [(0, .int (b2i b))]) rfl (fun X C hT => ?_)
  refine g_iload_n C dX6_requireArgument_0 rfl 0 rfl ?_
  refine g_ifB_ne C 15 dX6_requireArgument_1 (by decide) (fun c1 => ?_) (fun c1 => ?_)
  · refine g_widen (k1 := 1) (n1 := 6) (by decide) (by decide) ?_
    exact g_vret C (gT_r hT (by rw [c1]; rfl) rfl) rfl rfl dX6_requireArgument_15
  · exact g_throw (cls := xIA) (text := "not a fitting argument") (ik := 381) (is := 383) (ic := 385) C hT (by decide +kernel) q3_71 q1_10 (fun U h => h.2.2.1)
      (fun w h => vxot w (List.mem_append_left _ (List.mem_append_left _ h))) (fun w h => List.mem_filter.mpr ⟨vxgd w (List.mem_filter.mpr ⟨List.mem_append_left _ (List.mem_append_left _ (List.mem_filter.mp h).1), (List.mem_filter.mp h).2⟩), (List.mem_filter.mp h).2⟩) (fun w h => vxbd w (List.mem_filter.mpr ⟨List.mem_append_left _ (List.mem_append_left _ (List.mem_filter.mp h).1), (List.mem_filter.mp h).2⟩))
      (by rw [c1]; rfl) rfl ⟨Nat.le_of_ble_eq_true rfl, Nat.le_of_ble_eq_true rfl, Nat.le_of_ble_eq_true rfl, Nat.le_of_ble_eq_true rfl⟩ ⟨Nat.le_of_ble_eq_true rfl, Nat.le_of_ble_eq_true rfl⟩ dX6_requireArgument_4 dX6_requireArgument_7 dX6_requireArgument_8 dX6_requireArgument_11 dX6_requireArgument_14
theorem caX6_requireState : gCalS yX6_requireState cX6_requireState 1 none 1 := ⟨⟨q3_145, q1_1, by decide +kernel⟩, q3_144⟩
theorem kX6_requireState (l : Launch) (E : gE) (hlt : l.stackTraces = false) (b : Bool) : MX l E yX6_requireState cX6_requireState 1 none 1 6 6 82 [.int (b2i b)] [] (if b then .inr none else .inl xIS) [] := by
  refine mx_of hlt (by decide +kernel) (Nat.le_of_ble_eq_true rfl) (lv := [(0, .int (b2i b))]) rfl (fun X C hT => ?_)
  refine g_iload_n C dX6_requireState_0 rfl 0 rfl ?_
  refine g_ifB_ne C 15 dX6_requireState_1 (by decide) (fun c1 => ?_) (fun c1 => ?_)
  · refine g_widen (k1 := 1) (n1 := 6) (by decide) (by decide) ?_
    exact g_vret C (gT_r hT (by rw [c1]; rfl) rfl) rfl rfl dX6_requireState_15
  · exact g_throw (cls := xIS) (text := "not possible now") (ik := 386) (is := 388) (ic := 390) C hT (by decide +kernel) q3_146 q1_11 (fun U h => h.2.2.2)
      (fun w h => vxot w (List.mem_append_left _ (List.mem_append_right _ h))) (fun w h => List.mem_filter.mpr ⟨vxgd w (List.mem_filter.mpr ⟨List.mem_append_left _ (List.mem_append_right _ (List.mem_filter.mp h).1), (List.mem_filter.mp h).2⟩), (List.mem_filter.mp h).2⟩) (fun w h => vxbd w (List.mem_filter.mpr ⟨List.mem_append_left _ (List.mem_append_right _ (List.mem_filter.mp h).1), (List.mem_filter.mp h).2⟩))
      (by rw [c1]; rfl) rfl ⟨Nat.le_of_ble_eq_true rfl, Nat.le_of_ble_eq_true rfl, Nat.le_of_ble_eq_true rfl, Nat.le_of_ble_eq_true rfl⟩ ⟨Nat.le_of_ble_eq_true rfl, Nat.le_of_ble_eq_true rfl⟩ dX6_requireState_4 dX6_requireState_7 dX6_requireState_8 dX6_requireState_11 dX6_requireState_14

