/-! ===== the walk's own judgement G: heap, writes and the locals' array out of sight; a world is a list of parts ===== -/
abbrev vwCl : List vw_C := [(RX0, TX0, 17), (RX1, TX1, 4), (RX3, TX3, 5), (RX4, TX4, 7), (RX6, TX6, 5)]
abbrev gE : Type := va_G × (Nat → ClassId)
/-- the array classes that the worlds hold -/
def gTy (E : gE) : List (ClassId × FieldType) := [(E.2 0, .int), (E.2 1, .boolean), (E.2 2, .char), (E.2 3, .byte), (E.2 4, .object "TicketChains$Board")]
/-- the links of private methods across the nest -/
def gNest : List Cond := [.methodLinkNest RX0 92 yX6_isIn RX6, .methodLinkNest RX0 80 yX6_setOf RX6, .methodLinkNest RX1 33 yX6_isIn RX6, .methodLinkNest RX1 43 yX6_setOf RX6, .methodLinkNest RX6 21 yX1_init RX6, .methodLinkNest RX6 35 yX4_init RX6]
def gN (U : State) : Prop := ∀ w ∈ gNest, va_Nw w U
theorem gNest_m : ∀ w ∈ gNest, ∃ (a : String) (i : Nat) (x : MethodName) (h : String), w = .methodLinkNest a i x h := by
  intro w hw
  simp only [gNest, List.mem_cons, List.not_mem_nil, or_false] at hw
  rcases hw with rfl | rfl | rfl | rfl | rfl | rfl <;> exact ⟨_, _, _, _, rfl⟩
theorem gN.warm {s U : State} (hW : s.WarmedH U.vm) (h : gN s) : gN U := by
  intro w hw
  obtain ⟨a, i, x, h1, rfl⟩ := gNest_m w hw
  exact va_Nw.warmM hW (h _ hw)
theorem gN.same {u U : State} (e : u.vm = U.vm) (h : gN u) : gN U := by
  intro w hw
  obtain ⟨a, i, x, h1, rfl⟩ := gNest_m w hw
  exact va_Nw.same rfl e (h _ hw)
/-- the machine, the code, the method's start, what may change, what is owed -/
abbrev gX : Type := Program × Launch × Env × Room × State × MethodId × Array Value × List Frame × Method × Code × gE × (Nat → Prop) × (State → Prop)
def G (X : gX) (k n : Nat) (cs : List va_W) (lv : List (Nat × Value)) (pc : Nat) (st : List Value) : Prop :=
  match X with
  | (p, l, e, R, s, m, args, below, meth, c, E, A, Q) => ∀ (H : Heap) (locs : List Loc) (ls : Array Slot), va_P E.1 vwCl cs.flatten H → va_D A cs.flatten → va_S A s.heap H locs → lv_has ls c.maxLocals lv → W p l e R s m args below meth c H locs k n Q (F0 m pc ls st)
def gC (X : gX) (cc : ByteArray) (nL : Nat) (own : String) (ret : Option FieldType) (l : Launch) (E : gE) (R : Room) : Prop :=
  match X with
  | (p, l', e, R', s, m, args, below, meth, c, E', A, Q) => CallFix p m c cc nL s args gU own ∧ va_K E.1 vwCl (gTy E) s ∧ (∀ q, s.heap.size ≤ q → A q) ∧ meth.sig.returnType = ret ∧ meth.locks = false ∧ gN s ∧ l' = l ∧ E' = E ∧ R' = R
/-- parts set in place -/
def gRep : List va_W → List Nat → List va_W → List va_W
  | cs, i :: is, w :: ws => gRep (cs.set i w) is ws
  | cs, _, _ => cs
def gNil : List va_W → List Nat → List va_W
  | cs, i :: is => gNil (cs.set i []) is
  | cs, [] => cs
theorem gp_set {cs : List va_W} {i : Nat} {w : va_W} (h : cs[i]? = some w) : cs.flatten.Perm (w ++ (cs.set i []).flatten) := by
  induction cs generalizing i with
  | nil => simp at h
  | cons a cs ih =>
    cases i with
    | zero =>
      simp at h
      subst h
      simp
    | succ i =>
      have h2 : cs[i]? = some w := by simpa using h
      have h3 := (ih h2).append_left a
      simp only [List.set_cons_succ, List.flatten_cons]
      refine h3.trans ?_
      rw [← List.append_assoc, ← List.append_assoc]
      exact List.Perm.append_right _ List.perm_append_comm
theorem gp_nil {cs csc : List va_W} {is : List Nat} (hn : is.Nodup) (h : is.map (fun i => cs[i]?) = csc.map some) : cs.flatten.Perm (csc.flatten ++ (gNil cs is).flatten) := by
  induction is generalizing cs csc with
  | nil =>
    cases csc with
    | nil => simp [gNil]
    | cons w ws => simp at h
  | cons i is ih =>
    cases csc with
    | nil => simp at h
    | cons w ws =>
      simp only [List.map_cons, List.cons.injEq] at h
      obtain ⟨h1, h2⟩ := h
      obtain ⟨n1, n2⟩ := List.nodup_cons.mp hn
      have h3 : is.map (fun j => (cs.set i [])[j]?) = ws.map some := by
        rw [← h2]
        refine List.map_congr_left fun j hj => ?_
        rw [List.getElem?_set]
        rw [if_neg (fun e => n1 (by rw [e]; exact hj))]
      have h4 := ih n2 h3
      refine (gp_set h1).trans ?_
      simp only [List.flatten_cons, gNil, List.append_assoc]
      exact h4.append_left w
theorem gp_nil_set {cs : List va_W} {is : List Nat} {i : Nat} {w : va_W} (hi : i ∈ is) : gNil (cs.set i w) is = gNil cs is := by
  induction is generalizing cs with
  | nil => simp at hi
  | cons j is ih =>
    simp only [gNil]
    by_cases e : i = j
    · subst e
      rw [List.set_set]
    · have hi2 : i ∈ is := by
        rcases List.mem_cons.mp hi with q | q
        · exact absurd q e
        · exact q
      rw [List.set_comm _ _ e]
      exact ih hi2
theorem gp_rep_nil {cs csd : List va_W} {is js : List Nat} (hs : ∀ j ∈ js, j ∈ is) : gNil (gRep cs js csd) is = gNil cs is := by
  induction js generalizing cs csd with
  | nil => simp [gRep]
  | cons j js ih =>
    cases csd with
    | nil => simp [gRep]
    | cons w ws =>
      simp only [gRep]
      rw [ih (fun x hx => hs x (List.mem_cons_of_mem _ hx)), gp_nil_set (hs j List.mem_cons_self)]
theorem gp_rep_out {cs csd : List va_W} {is : List Nat} {i : Nat} (hi : i ∉ is) : (gRep cs is csd)[i]? = cs[i]? := by
  induction is generalizing cs csd with
  | nil => simp [gRep]
  | cons j js ih =>
    cases csd with
    | nil => simp [gRep]
    | cons w ws =>
      simp only [gRep]
      rw [ih (fun h => hi (List.mem_cons_of_mem _ h)), List.getElem?_set, if_neg (fun e => hi (by rw [e]; exact List.mem_cons_self))]
theorem gp_rep_in {cs csc csd : List va_W} {is : List Nat} (hn : is.Nodup) (h : is.map (fun i => cs[i]?) = csc.map some) (hl : csd.length = is.length) : is.map (fun i => (gRep cs is csd)[i]?) = csd.map some := by
  induction is generalizing cs csc csd with
  | nil =>
    cases csd with
    | nil => rfl
    | cons w ws => simp at hl
  | cons i is ih =>
    cases csc with
    | nil => simp at h
    | cons w ws =>
      cases csd with
      | nil => simp at hl
      | cons v vs =>
        simp only [List.map_cons, List.cons.injEq] at h
        obtain ⟨h1, h2⟩ := h
        obtain ⟨n1, n2⟩ := List.nodup_cons.mp hn
        have h3 : is.map (fun j => (cs.set i v)[j]?) = ws.map some := by
          rw [← h2]
          refine List.map_congr_left fun j hj => ?_
          rw [List.getElem?_set, if_neg (fun e => n1 (by rw [e]; exact hj))]
        simp only [List.map_cons, gRep, List.cons.injEq]
        refine ⟨?_, ih n2 h3 (by simpa using hl)⟩
        rw [gp_rep_out n1, List.getElem?_set, if_pos rfl, if_pos (List.getElem?_eq_some_iff.mp h1).1]
theorem gp_rep {cs csc csd : List va_W} {is : List Nat} (hn : is.Nodup) (h : is.map (fun i => cs[i]?) = csc.map some) (hl : csd.length = is.length) : (gRep cs is csd).flatten.Perm (csd.flatten ++ (gNil cs is).flatten) := by
  have h2 := gp_nil hn (gp_rep_in hn h hl)
  rw [gp_rep_nil (fun _ h => h)] at h2
  exact h2
-- a world's two facts by membership
theorem gm_P {D : va_G} {cl : List vw_C} {ws : va_W} {H : Heap} : va_P D cl ws H ↔ ∀ q ∈ ws, va_at D cl q H := by
  constructor
  · intro h q hq
    obtain ⟨k, hk⟩ := List.getElem?_of_mem hq
    exact h k q hk
  · intro h k q hk
    exact h q (List.mem_of_getElem? hk)
theorem gm_D {A : Nat → Prop} {ws : va_W} : va_D A ws ↔ (ws.map Prod.fst).Nodup ∧ ∀ q ∈ ws, A q.1 := by
  constructor
  · intro h
    refine ⟨?_, fun q hq => ?_⟩
    · rw [List.nodup_iff_pairwise_ne, List.pairwise_iff_getElem]
      intro i j hi hj hij e
      rw [List.length_map] at hi hj
      rw [List.getElem_map, List.getElem_map] at e
      have := h.1 i j _ _ (List.getElem?_eq_getElem hi) (List.getElem?_eq_getElem hj) e
      omega
    · obtain ⟨k, hk⟩ := List.getElem?_of_mem hq
      exact h.2 k q hk
  · intro h
    refine ⟨fun i j p q hp hq e => ?_, fun k q hk => h.2 q (List.mem_of_getElem? hk)⟩
    have h1 := h.1
    rw [List.nodup_iff_pairwise_ne, List.pairwise_iff_getElem] at h1
    obtain ⟨hi, ei⟩ := List.getElem?_eq_some_iff.mp hp
    obtain ⟨hj, ej⟩ := List.getElem?_eq_some_iff.mp hq
    subst ei; subst ej
    rcases Nat.lt_trichotomy i j with c | c | c
    · exact absurd (by rw [List.getElem_map, List.getElem_map]; exact e) (h1 i j (by rw [List.length_map]; exact hi) (by rw [List.length_map]; exact hj) c)
    · exact c
    · exact absurd (by rw [List.getElem_map, List.getElem_map]; exact e.symm) (h1 j i (by rw [List.length_map]; exact hj) (by rw [List.length_map]; exact hi) c)
theorem gm_Pp {D : va_G} {cl : List vw_C} {ws ws' : va_W} {H : Heap} (hp : ws.Perm ws') (h : va_P D cl ws H) : va_P D cl ws' H := gm_P.mpr fun q hq => gm_P.mp h q (hp.mem_iff.mpr hq)
theorem gm_Dp {A : Nat → Prop} {ws ws' : va_W} (hp : ws.Perm ws') (h : va_D A ws) : va_D A ws' := by
  have h2 := gm_D.mp h
  exact gm_D.mpr ⟨(hp.map Prod.fst).nodup_iff.mp h2.1, fun q hq => h2.2 q (hp.mem_iff.mpr hq)⟩
theorem gm_A {ws ws' : va_W} {sz : Nat} (hp : ws.Perm ws') (q : Nat) (h : va_A ws sz q) : va_A ws' sz q := by
  rcases h with ⟨k, e, h⟩ | h
  · obtain ⟨j, hj⟩ := List.getElem?_of_mem (hp.mem_iff.mp (List.mem_of_getElem? h))
    exact Or.inl ⟨j, e, hj⟩
  · exact Or.inr h
theorem gm_Ain {ws : va_W} {sz q : Nat} : va_A ws sz q ↔ q ∈ ws.map Prod.fst ∨ sz ≤ q := by
  constructor
  · rintro (⟨k, e, h⟩ | h)
    · exact Or.inl (List.mem_map.mpr ⟨(q, e), List.mem_of_getElem? h, rfl⟩)
    · exact Or.inr h
  · rintro (h | h)
    · obtain ⟨⟨q', e⟩, hm, rfl⟩ := List.mem_map.mp h
      obtain ⟨k, hk⟩ := List.getElem?_of_mem hm
      exact Or.inl ⟨k, e, hk⟩
    · exact Or.inr h
/-- the frame rule: a callee's part of the world changed, the rest stays -/
theorem g_join {A0 : Nat → Prop} {D : va_G} {cl : List vw_C} {ws wc wr w1 : va_W} {H H1 : Heap} (hp : ws.Perm (wc ++ wr)) (hP : va_P D cl ws H) (hD : va_D A0 ws)
    (hk : ∀ q : Nat, q < H.size → ¬ va_A wc H.size q → H1[q]? = H[q]?) (hF : ∀ q, va_A wc H.size q → A0 q) (hP1 : va_P D cl w1 H1) (hD1 : va_D (va_A wc H.size) w1) : va_P D cl (w1 ++ wr) H1 ∧ va_D A0 (w1 ++ wr) := by
  have hP2 := gm_P.mp (gm_Pp hp hP)
  have hD2 := gm_D.mp (gm_Dp hp hD)
  have hN := hD2.1
  rw [List.map_append, List.nodup_append] at hN
  obtain ⟨n1, n2, n3⟩ := hN
  have hD3 := gm_D.mp hD1
  have apart : ∀ q ∈ wr, q.1 < H.size ∧ ¬ va_A wc H.size q.1 := by
    intro q hq
    have hl := (hP2 q (List.mem_append_right _ hq)).lt
    refine ⟨hl, fun h => ?_⟩
    rcases gm_Ain.mp h with h | h
    · exact n3 q.1 h q.1 (List.mem_map.mpr ⟨q, hq, rfl⟩) rfl
    · omega
  refine ⟨gm_P.mpr fun q hq => ?_, gm_D.mpr ⟨?_, fun q hq => ?_⟩⟩
  · rcases List.mem_append.mp hq with h | h
    · exact gm_P.mp hP1 q h
    · obtain ⟨g1, g2⟩ := apart q h
      exact (hP2 q (List.mem_append_right _ h)).kept (hk q.1 g1 g2)
  · rw [List.map_append, List.nodup_append]
    refine ⟨hD3.1, n2, fun x hx y hy e => ?_⟩
    obtain ⟨qx, hqx, rfl⟩ := List.mem_map.mp hx
    obtain ⟨qy, hqy, rfl⟩ := List.mem_map.mp hy
    exact (apart qy hqy).2 (e ▸ hD3.2 qx hqx)
  · rcases List.mem_append.mp hq with h | h
    · exact hF _ (hD3.2 q h)
    · exact hD2.2 q (List.mem_append_right _ h)
/-- a cell of a part, by its place in the whole; setting it there -/
theorem g_flat {cs : List va_W} {ci q0 : Nat} {w : va_W} {x : Nat × va_E} (h : cs[ci]? = some w) (hw : w[q0]? = some x) : ∃ j : Nat, cs.flatten[j]? = some x ∧ ∀ y, cs.flatten.set j y = (cs.set ci (w.set q0 y)).flatten := by
  induction cs generalizing ci with
  | nil => simp at h
  | cons a cs ih =>
    cases ci with
    | zero =>
      simp at h
      subst h
      have hq := (List.getElem?_eq_some_iff.mp hw).1
      refine ⟨q0, ?_, fun y => ?_⟩
      · rw [List.flatten_cons, List.getElem?_append_left hq, hw]
      · rw [List.flatten_cons, List.set_append_left _ _ hq]
        rfl
    | succ ci =>
      obtain ⟨j, h1, h2⟩ := ih (ci := ci) (by simpa using h)
      refine ⟨a.length + j, ?_, fun y => ?_⟩
      · rw [List.flatten_cons, List.getElem?_append_right (Nat.le_add_right _ _), Nat.add_sub_cancel_left, h1]
      · rw [List.flatten_cons, List.set_append_right _ _ (Nat.le_add_right _ _), Nat.add_sub_cancel_left, h2]
        rfl
theorem g_iconst {X : gX} {cc : ByteArray} {nL : Nat} {own : String} {ret : Option FieldType} {l : Launch} {E : gE} {R : Room} {k n pc : Nat} {cs : List va_W} {lv : List (Nat × Value)} {st : List Value} (C : gC X cc nL own ret l E R) {v : Int32} {i : Int} (hd : decode cc pc = .ok (.iconst i, 1)) (hv : Int32.ofInt i = v) (kk : G X k n cs lv (pc + 1) (.int v :: st)) : G X k n cs lv pc (st) := by
  obtain ⟨p, l9, e, R9, s, m, args, below, meth, c, E9, A, Q⟩ := X
  obtain ⟨⟨hx, hb, hml, hown, hts⟩, hK, hA, hr, hlocks, hN, rfl, rfl, rfl⟩ := C
  intro H locs ls hP hD hS hl
  exact lv_iconst hx hb hd hv (kk H locs ls hP hD hS hl)
theorem g_bipush {X : gX} {cc : ByteArray} {nL : Nat} {own : String} {ret : Option FieldType} {l : Launch} {E : gE} {R : Room} {k n pc : Nat} {cs : List va_W} {lv : List (Nat × Value)} {st : List Value} (C : gC X cc nL own ret l E R) {v : Int32} {i : Int} (hd : decode cc pc = .ok (.bipush i, 2)) (hv : (Int8.ofInt i).toInt32 = v) (kk : G X k n cs lv (pc + 2) (.int v :: st)) : G X k n cs lv pc (st) := by
  obtain ⟨p, l9, e, R9, s, m, args, below, meth, c, E9, A, Q⟩ := X
  obtain ⟨⟨hx, hb, hml, hown, hts⟩, hK, hA, hr, hlocks, hN, rfl, rfl, rfl⟩ := C
  intro H locs ls hP hD hS hl
  exact lv_bipush hx hb hd hv (kk H locs ls hP hD hS hl)
theorem g_sipush {X : gX} {cc : ByteArray} {nL : Nat} {own : String} {ret : Option FieldType} {l : Launch} {E : gE} {R : Room} {k n pc : Nat} {cs : List va_W} {lv : List (Nat × Value)} {st : List Value} (C : gC X cc nL own ret l E R) {v : Int32} {i : Int} (hd : decode cc pc = .ok (.sipush i, 3)) (hv : (Int16.ofInt i).toInt32 = v) (kk : G X k n cs lv (pc + 3) (.int v :: st)) : G X k n cs lv pc (st) := by
  obtain ⟨p, l9, e, R9, s, m, args, below, meth, c, E9, A, Q⟩ := X
  obtain ⟨⟨hx, hb, hml, hown, hts⟩, hK, hA, hr, hlocks, hN, rfl, rfl, rfl⟩ := C
  intro H locs ls hP hD hS hl
  exact lv_sipush hx hb hd hv (kk H locs ls hP hD hS hl)
theorem g_lconst {X : gX} {cc : ByteArray} {nL : Nat} {own : String} {ret : Option FieldType} {l : Launch} {E : gE} {R : Room} {k n pc : Nat} {cs : List va_W} {lv : List (Nat × Value)} {st : List Value} (C : gC X cc nL own ret l E R) {v : Int64} {i : Fin 2} (hd : decode cc pc = .ok (.lconst i, 1)) (hv : Int64.ofNat (i : Nat) = v) (kk : G X k n cs lv (pc + 1) (.long v :: st)) : G X k n cs lv pc (st) := by
  obtain ⟨p, l9, e, R9, s, m, args, below, meth, c, E9, A, Q⟩ := X
  obtain ⟨⟨hx, hb, hml, hown, hts⟩, hK, hA, hr, hlocks, hN, rfl, rfl, rfl⟩ := C
  intro H locs ls hP hD hS hl
  exact lv_lconst hx hb hd hv (kk H locs ls hP hD hS hl)
theorem g_dconst0 {X : gX} {cc : ByteArray} {nL : Nat} {own : String} {ret : Option FieldType} {l : Launch} {E : gE} {R : Room} {k n pc : Nat} {cs : List va_W} {lv : List (Nat × Value)} {st : List Value} (C : gC X cc nL own ret l E R) (hd : decode cc pc = .ok (.dconst 0, 1)) (kk : G X k n cs lv (pc + 1) (.double 0 :: st)) : G X k n cs lv pc (st) := by
  obtain ⟨p, l9, e, R9, s, m, args, below, meth, c, E9, A, Q⟩ := X
  obtain ⟨⟨hx, hb, hml, hown, hts⟩, hK, hA, hr, hlocks, hN, rfl, rfl, rfl⟩ := C
  intro H locs ls hP hD hS hl
  exact lv_dconst0 hx hb hd (kk H locs ls hP hD hS hl)
theorem g_dconst1 {X : gX} {cc : ByteArray} {nL : Nat} {own : String} {ret : Option FieldType} {l : Launch} {E : gE} {R : Room} {k n pc : Nat} {cs : List va_W} {lv : List (Nat × Value)} {st : List Value} (C : gC X cc nL own ret l E R) (hd : decode cc pc = .ok (.dconst 1, 1)) (kk : G X k n cs lv (pc + 1) (.double FP.dconst1 :: st)) : G X k n cs lv pc (st) := by
  obtain ⟨p, l9, e, R9, s, m, args, below, meth, c, E9, A, Q⟩ := X
  obtain ⟨⟨hx, hb, hml, hown, hts⟩, hK, hA, hr, hlocks, hN, rfl, rfl, rfl⟩ := C
  intro H locs ls hP hD hS hl
  exact lv_dconst1 hx hb hd (kk H locs ls hP hD hS hl)
theorem g_ldcw {X : gX} {cc : ByteArray} {nL : Nat} {own : String} {ret : Option FieldType} {l : Launch} {E : gE} {R : Room} {k n pc : Nat} {cs : List va_W} {lv : List (Nat × Value)} {st : List Value} (C : gC X cc nL own ret l E R) {i : Nat} {v : Int32} (hc : Cond.constant own i v ∈ gU) (hd : decode cc pc = .ok (.ldc_w i, 3)) (kk : G X k n cs lv (pc + 3) (.int v :: st)) : G X k n cs lv pc (st) := by
  obtain ⟨p, l9, e, R9, s, m, args, below, meth, c, E9, A, Q⟩ := X
  obtain ⟨⟨hx, hb, hml, hown, hts⟩, hK, hA, hr, hlocks, hN, rfl, rfl, rfl⟩ := C
  intro H locs ls hP hD hS hl
  exact lv_ldcw hx hb hown (hts _ hc) hd (kk H locs ls hP hD hS hl)
theorem g_ldc2 {X : gX} {cc : ByteArray} {nL : Nat} {own : String} {ret : Option FieldType} {l : Launch} {E : gE} {R : Room} {k n pc : Nat} {cs : List va_W} {lv : List (Nat × Value)} {st : List Value} (C : gC X cc nL own ret l E R) {i : Nat} {v : Int64} (hc : Cond.constantLong own i v ∈ gU) (hd : decode cc pc = .ok (.ldc2_w i, 3)) (kk : G X k n cs lv (pc + 3) (.long v :: st)) : G X k n cs lv pc (st) := by
  obtain ⟨p, l9, e, R9, s, m, args, below, meth, c, E9, A, Q⟩ := X
  obtain ⟨⟨hx, hb, hml, hown, hts⟩, hK, hA, hr, hlocks, hN, rfl, rfl, rfl⟩ := C
  intro H locs ls hP hD hS hl
  exact lv_ldc2 hx hb hown (hts _ hc) hd (kk H locs ls hP hD hS hl)
theorem g_ldc2d {X : gX} {cc : ByteArray} {nL : Nat} {own : String} {ret : Option FieldType} {l : Launch} {E : gE} {R : Room} {k n pc : Nat} {cs : List va_W} {lv : List (Nat × Value)} {st : List Value} (C : gC X cc nL own ret l E R) {i : Nat} {v : UInt64} (hc : Cond.constantDouble own i v ∈ gU) (hd : decode cc pc = .ok (.ldc2_w i, 3)) (kk : G X k n cs lv (pc + 3) (.double v :: st)) : G X k n cs lv pc (st) := by
  obtain ⟨p, l9, e, R9, s, m, args, below, meth, c, E9, A, Q⟩ := X
  obtain ⟨⟨hx, hb, hml, hown, hts⟩, hK, hA, hr, hlocks, hN, rfl, rfl, rfl⟩ := C
  intro H locs ls hP hD hS hl
  exact lv_ldc2d hx hb hown (hts _ hc) hd (kk H locs ls hP hD hS hl)
theorem g_iload_n {X : gX} {cc : ByteArray} {nL : Nat} {own : String} {ret : Option FieldType} {l : Launch} {E : gE} {R : Room} {k n pc : Nat} {cs : List va_W} {lv : List (Nat × Value)} {st : List Value} (C : gC X cc nL own ret l E R) {q : Fin 4} {i : Nat} {x : Int32} (hd : decode cc pc = .ok (.iload_n q, 1)) (hi : (q : Nat) = i) (j : Nat) (hj : lv[j]? = some (i, .int x)) (kk : G X k n cs lv (pc + 1) (.int x :: st)) : G X k n cs lv pc (st) := by
  obtain ⟨p, l9, e, R9, s, m, args, below, meth, c, E9, A, Q⟩ := X
  obtain ⟨⟨hx, hb, hml, hown, hts⟩, hK, hA, hr, hlocks, hN, rfl, rfl, rfl⟩ := C
  intro H locs ls hP hD hS hl
  exact lv_iload_n hx hb hd hi (lv_at hl j hj) (kk H locs ls hP hD hS hl)
theorem g_iload {X : gX} {cc : ByteArray} {nL : Nat} {own : String} {ret : Option FieldType} {l : Launch} {E : gE} {R : Room} {k n pc : Nat} {cs : List va_W} {lv : List (Nat × Value)} {st : List Value} (C : gC X cc nL own ret l E R) {i : Nat} {x : Int32} (hd : decode cc pc = .ok (.iload i, 2)) (j : Nat) (hj : lv[j]? = some (i, .int x)) (kk : G X k n cs lv (pc + 2) (.int x :: st)) : G X k n cs lv pc (st) := by
  obtain ⟨p, l9, e, R9, s, m, args, below, meth, c, E9, A, Q⟩ := X
  obtain ⟨⟨hx, hb, hml, hown, hts⟩, hK, hA, hr, hlocks, hN, rfl, rfl, rfl⟩ := C
  intro H locs ls hP hD hS hl
  exact lv_iload hx hb hd (lv_at hl j hj) (kk H locs ls hP hD hS hl)
theorem g_istore_n {X : gX} {cc : ByteArray} {nL : Nat} {own : String} {ret : Option FieldType} {l : Launch} {E : gE} {R : Room} {k n pc : Nat} {cs : List va_W} {lv : List (Nat × Value)} {st : List Value} (C : gC X cc nL own ret l E R) {q : Fin 4} {i : Nat} {x : Int32} {lv1 : List (Nat × Value)} (hd : decode cc pc = .ok (.istore_n q, 1)) (hi : (q : Nat) = i) (hn : i < nL) (hv : (i, Value.int x) :: lv.filter (fun q => !(q.1 == i) && !(q.1 + 1 == i && q.2.category == 2)) = lv1) (kk : G X k n cs lv1 (pc + 1) st) : G X k n cs lv pc (.int x :: st) := by
  obtain ⟨p, l9, e, R9, s, m, args, below, meth, c, E9, A, Q⟩ := X
  obtain ⟨⟨hx, hb, hml, hown, hts⟩, hK, hA, hr, hlocks, hN, rfl, rfl, rfl⟩ := C
  intro H locs ls hP hD hS hl
  exact lv_istore_n hx hb hd hi hl (by rw [hml]; exact hn) hv (fun ls hl => kk H locs ls hP hD hS hl)
theorem g_istore {X : gX} {cc : ByteArray} {nL : Nat} {own : String} {ret : Option FieldType} {l : Launch} {E : gE} {R : Room} {k n pc : Nat} {cs : List va_W} {lv : List (Nat × Value)} {st : List Value} (C : gC X cc nL own ret l E R) {i : Nat} {x : Int32} {lv1 : List (Nat × Value)} (hd : decode cc pc = .ok (.istore i, 2)) (hn : i < nL) (hv : (i, Value.int x) :: lv.filter (fun q => !(q.1 == i) && !(q.1 + 1 == i && q.2.category == 2)) = lv1) (kk : G X k n cs lv1 (pc + 2) st) : G X k n cs lv pc (.int x :: st) := by
  obtain ⟨p, l9, e, R9, s, m, args, below, meth, c, E9, A, Q⟩ := X
  obtain ⟨⟨hx, hb, hml, hown, hts⟩, hK, hA, hr, hlocks, hN, rfl, rfl, rfl⟩ := C
  intro H locs ls hP hD hS hl
  exact lv_istore hx hb hd hl (by rw [hml]; exact hn) hv (fun ls hl => kk H locs ls hP hD hS hl)
theorem g_lload_n {X : gX} {cc : ByteArray} {nL : Nat} {own : String} {ret : Option FieldType} {l : Launch} {E : gE} {R : Room} {k n pc : Nat} {cs : List va_W} {lv : List (Nat × Value)} {st : List Value} (C : gC X cc nL own ret l E R) {q : Fin 4} {i : Nat} {x : Int64} (hd : decode cc pc = .ok (.lload_n q, 1)) (hi : (q : Nat) = i) (j : Nat) (hj : lv[j]? = some (i, .long x)) (kk : G X k n cs lv (pc + 1) (.long x :: st)) : G X k n cs lv pc (st) := by
  obtain ⟨p, l9, e, R9, s, m, args, below, meth, c, E9, A, Q⟩ := X
  obtain ⟨⟨hx, hb, hml, hown, hts⟩, hK, hA, hr, hlocks, hN, rfl, rfl, rfl⟩ := C
  intro H locs ls hP hD hS hl
  exact lv_lload_n hx hb hd hi (lv_at hl j hj) (kk H locs ls hP hD hS hl)
theorem g_lload {X : gX} {cc : ByteArray} {nL : Nat} {own : String} {ret : Option FieldType} {l : Launch} {E : gE} {R : Room} {k n pc : Nat} {cs : List va_W} {lv : List (Nat × Value)} {st : List Value} (C : gC X cc nL own ret l E R) {i : Nat} {x : Int64} (hd : decode cc pc = .ok (.lload i, 2)) (j : Nat) (hj : lv[j]? = some (i, .long x)) (kk : G X k n cs lv (pc + 2) (.long x :: st)) : G X k n cs lv pc (st) := by
  obtain ⟨p, l9, e, R9, s, m, args, below, meth, c, E9, A, Q⟩ := X
  obtain ⟨⟨hx, hb, hml, hown, hts⟩, hK, hA, hr, hlocks, hN, rfl, rfl, rfl⟩ := C
  intro H locs ls hP hD hS hl
  exact lv_lload hx hb hd (lv_at hl j hj) (kk H locs ls hP hD hS hl)
theorem g_lstore_n {X : gX} {cc : ByteArray} {nL : Nat} {own : String} {ret : Option FieldType} {l : Launch} {E : gE} {R : Room} {k n pc : Nat} {cs : List va_W} {lv : List (Nat × Value)} {st : List Value} (C : gC X cc nL own ret l E R) {q : Fin 4} {i : Nat} {x : Int64} {lv1 : List (Nat × Value)} (hd : decode cc pc = .ok (.lstore_n q, 1)) (hi : (q : Nat) = i) (hn : i + 1 < nL) (hv : (i, Value.long x) :: lv.filter (fun q => !(q.1 == i) && (!(q.1 == i + 1) && !(q.1 + 1 == i && q.2.category == 2))) = lv1) (kk : G X k n cs lv1 (pc + 1) st) : G X k n cs lv pc (.long x :: st) := by
  obtain ⟨p, l9, e, R9, s, m, args, below, meth, c, E9, A, Q⟩ := X
  obtain ⟨⟨hx, hb, hml, hown, hts⟩, hK, hA, hr, hlocks, hN, rfl, rfl, rfl⟩ := C
  intro H locs ls hP hD hS hl
  exact lv_lstore_n hx hb hd hi hl (by rw [hml]; exact hn) hv (fun ls hl => kk H locs ls hP hD hS hl)
theorem g_lstore {X : gX} {cc : ByteArray} {nL : Nat} {own : String} {ret : Option FieldType} {l : Launch} {E : gE} {R : Room} {k n pc : Nat} {cs : List va_W} {lv : List (Nat × Value)} {st : List Value} (C : gC X cc nL own ret l E R) {i : Nat} {x : Int64} {lv1 : List (Nat × Value)} (hd : decode cc pc = .ok (.lstore i, 2)) (hn : i + 1 < nL) (hv : (i, Value.long x) :: lv.filter (fun q => !(q.1 == i) && (!(q.1 == i + 1) && !(q.1 + 1 == i && q.2.category == 2))) = lv1) (kk : G X k n cs lv1 (pc + 2) st) : G X k n cs lv pc (.long x :: st) := by
  obtain ⟨p, l9, e, R9, s, m, args, below, meth, c, E9, A, Q⟩ := X
  obtain ⟨⟨hx, hb, hml, hown, hts⟩, hK, hA, hr, hlocks, hN, rfl, rfl, rfl⟩ := C
  intro H locs ls hP hD hS hl
  exact lv_lstore hx hb hd hl (by rw [hml]; exact hn) hv (fun ls hl => kk H locs ls hP hD hS hl)
theorem g_aload_n {X : gX} {cc : ByteArray} {nL : Nat} {own : String} {ret : Option FieldType} {l : Launch} {E : gE} {R : Room} {k n pc : Nat} {cs : List va_W} {lv : List (Nat × Value)} {st : List Value} (C : gC X cc nL own ret l E R) {q : Fin 4} {i : Nat} {x : Nat} (hd : decode cc pc = .ok (.aload_n q, 1)) (hi : (q : Nat) = i) (j : Nat) (hj : lv[j]? = some (i, .ref x)) (kk : G X k n cs lv (pc + 1) (.ref x :: st)) : G X k n cs lv pc (st) := by
  obtain ⟨p, l9, e, R9, s, m, args, below, meth, c, E9, A, Q⟩ := X
  obtain ⟨⟨hx, hb, hml, hown, hts⟩, hK, hA, hr, hlocks, hN, rfl, rfl, rfl⟩ := C
  intro H locs ls hP hD hS hl
  exact lv_aload_n hx hb hd hi (lv_at hl j hj) (kk H locs ls hP hD hS hl)
theorem g_aload {X : gX} {cc : ByteArray} {nL : Nat} {own : String} {ret : Option FieldType} {l : Launch} {E : gE} {R : Room} {k n pc : Nat} {cs : List va_W} {lv : List (Nat × Value)} {st : List Value} (C : gC X cc nL own ret l E R) {i : Nat} {x : Nat} (hd : decode cc pc = .ok (.aload i, 2)) (j : Nat) (hj : lv[j]? = some (i, .ref x)) (kk : G X k n cs lv (pc + 2) (.ref x :: st)) : G X k n cs lv pc (st) := by
  obtain ⟨p, l9, e, R9, s, m, args, below, meth, c, E9, A, Q⟩ := X
  obtain ⟨⟨hx, hb, hml, hown, hts⟩, hK, hA, hr, hlocks, hN, rfl, rfl, rfl⟩ := C
  intro H locs ls hP hD hS hl
  exact lv_aload hx hb hd (lv_at hl j hj) (kk H locs ls hP hD hS hl)
theorem g_astore_n {X : gX} {cc : ByteArray} {nL : Nat} {own : String} {ret : Option FieldType} {l : Launch} {E : gE} {R : Room} {k n pc : Nat} {cs : List va_W} {lv : List (Nat × Value)} {st : List Value} (C : gC X cc nL own ret l E R) {q : Fin 4} {i : Nat} {x : Nat} {lv1 : List (Nat × Value)} (hd : decode cc pc = .ok (.astore_n q, 1)) (hi : (q : Nat) = i) (hn : i < nL) (hv : (i, Value.ref x) :: lv.filter (fun q => !(q.1 == i) && !(q.1 + 1 == i && q.2.category == 2)) = lv1) (kk : G X k n cs lv1 (pc + 1) st) : G X k n cs lv pc (.ref x :: st) := by
  obtain ⟨p, l9, e, R9, s, m, args, below, meth, c, E9, A, Q⟩ := X
  obtain ⟨⟨hx, hb, hml, hown, hts⟩, hK, hA, hr, hlocks, hN, rfl, rfl, rfl⟩ := C
  intro H locs ls hP hD hS hl
  exact lv_astore_n hx hb hd hi hl (by rw [hml]; exact hn) hv (fun ls hl => kk H locs ls hP hD hS hl)
theorem g_astore {X : gX} {cc : ByteArray} {nL : Nat} {own : String} {ret : Option FieldType} {l : Launch} {E : gE} {R : Room} {k n pc : Nat} {cs : List va_W} {lv : List (Nat × Value)} {st : List Value} (C : gC X cc nL own ret l E R) {i : Nat} {x : Nat} {lv1 : List (Nat × Value)} (hd : decode cc pc = .ok (.astore i, 2)) (hn : i < nL) (hv : (i, Value.ref x) :: lv.filter (fun q => !(q.1 == i) && !(q.1 + 1 == i && q.2.category == 2)) = lv1) (kk : G X k n cs lv1 (pc + 2) st) : G X k n cs lv pc (.ref x :: st) := by
  obtain ⟨p, l9, e, R9, s, m, args, below, meth, c, E9, A, Q⟩ := X
  obtain ⟨⟨hx, hb, hml, hown, hts⟩, hK, hA, hr, hlocks, hN, rfl, rfl, rfl⟩ := C
  intro H locs ls hP hD hS hl
  exact lv_astore hx hb hd hl (by rw [hml]; exact hn) hv (fun ls hl => kk H locs ls hP hD hS hl)
theorem g_dload_n {X : gX} {cc : ByteArray} {nL : Nat} {own : String} {ret : Option FieldType} {l : Launch} {E : gE} {R : Room} {k n pc : Nat} {cs : List va_W} {lv : List (Nat × Value)} {st : List Value} (C : gC X cc nL own ret l E R) {q : Fin 4} {i : Nat} {x : UInt64} (hd : decode cc pc = .ok (.dload_n q, 1)) (hi : (q : Nat) = i) (j : Nat) (hj : lv[j]? = some (i, .double x)) (kk : G X k n cs lv (pc + 1) (.double x :: st)) : G X k n cs lv pc (st) := by
  obtain ⟨p, l9, e, R9, s, m, args, below, meth, c, E9, A, Q⟩ := X
  obtain ⟨⟨hx, hb, hml, hown, hts⟩, hK, hA, hr, hlocks, hN, rfl, rfl, rfl⟩ := C
  intro H locs ls hP hD hS hl
  exact lv_dload_n hx hb hd hi (lv_at hl j hj) (kk H locs ls hP hD hS hl)
theorem g_dload {X : gX} {cc : ByteArray} {nL : Nat} {own : String} {ret : Option FieldType} {l : Launch} {E : gE} {R : Room} {k n pc : Nat} {cs : List va_W} {lv : List (Nat × Value)} {st : List Value} (C : gC X cc nL own ret l E R) {i : Nat} {x : UInt64} (hd : decode cc pc = .ok (.dload i, 2)) (j : Nat) (hj : lv[j]? = some (i, .double x)) (kk : G X k n cs lv (pc + 2) (.double x :: st)) : G X k n cs lv pc (st) := by
  obtain ⟨p, l9, e, R9, s, m, args, below, meth, c, E9, A, Q⟩ := X
  obtain ⟨⟨hx, hb, hml, hown, hts⟩, hK, hA, hr, hlocks, hN, rfl, rfl, rfl⟩ := C
  intro H locs ls hP hD hS hl
  exact lv_dload hx hb hd (lv_at hl j hj) (kk H locs ls hP hD hS hl)
theorem g_dstore_n {X : gX} {cc : ByteArray} {nL : Nat} {own : String} {ret : Option FieldType} {l : Launch} {E : gE} {R : Room} {k n pc : Nat} {cs : List va_W} {lv : List (Nat × Value)} {st : List Value} (C : gC X cc nL own ret l E R) {q : Fin 4} {i : Nat} {x : UInt64} {lv1 : List (Nat × Value)} (hd : decode cc pc = .ok (.dstore_n q, 1)) (hi : (q : Nat) = i) (hn : i + 1 < nL) (hv : (i, Value.double x) :: lv.filter (fun q => !(q.1 == i) && (!(q.1 == i + 1) && !(q.1 + 1 == i && q.2.category == 2))) = lv1) (kk : G X k n cs lv1 (pc + 1) st) : G X k n cs lv pc (.double x :: st) := by
  obtain ⟨p, l9, e, R9, s, m, args, below, meth, c, E9, A, Q⟩ := X
  obtain ⟨⟨hx, hb, hml, hown, hts⟩, hK, hA, hr, hlocks, hN, rfl, rfl, rfl⟩ := C
  intro H locs ls hP hD hS hl
  exact lv_dstore_n hx hb hd hi hl (by rw [hml]; exact hn) hv (fun ls hl => kk H locs ls hP hD hS hl)
theorem g_dstore {X : gX} {cc : ByteArray} {nL : Nat} {own : String} {ret : Option FieldType} {l : Launch} {E : gE} {R : Room} {k n pc : Nat} {cs : List va_W} {lv : List (Nat × Value)} {st : List Value} (C : gC X cc nL own ret l E R) {i : Nat} {x : UInt64} {lv1 : List (Nat × Value)} (hd : decode cc pc = .ok (.dstore i, 2)) (hn : i + 1 < nL) (hv : (i, Value.double x) :: lv.filter (fun q => !(q.1 == i) && (!(q.1 == i + 1) && !(q.1 + 1 == i && q.2.category == 2))) = lv1) (kk : G X k n cs lv1 (pc + 2) st) : G X k n cs lv pc (.double x :: st) := by
  obtain ⟨p, l9, e, R9, s, m, args, below, meth, c, E9, A, Q⟩ := X
  obtain ⟨⟨hx, hb, hml, hown, hts⟩, hK, hA, hr, hlocks, hN, rfl, rfl, rfl⟩ := C
  intro H locs ls hP hD hS hl
  exact lv_dstore hx hb hd hl (by rw [hml]; exact hn) hv (fun ls hl => kk H locs ls hP hD hS hl)
theorem g_iinc {X : gX} {cc : ByteArray} {nL : Nat} {own : String} {ret : Option FieldType} {l : Launch} {E : gE} {R : Room} {k n pc : Nat} {cs : List va_W} {lv : List (Nat × Value)} {st : List Value} (C : gC X cc nL own ret l E R) {i : Nat} {z : Int} {x v : Int32} {lv1 : List (Nat × Value)} (hd : decode cc pc = .ok (.iinc i z, 3)) (j : Nat) (hj : lv[j]? = some (i, .int x)) (hv : x + Int32.ofInt z = v) (hn : i < nL) (hl1 : (i, Value.int v) :: lv.filter (fun q => !(q.1 == i) && !(q.1 + 1 == i && q.2.category == 2)) = lv1) (kk : G X k n cs lv1 (pc + 3) st) : G X k n cs lv pc (st) := by
  obtain ⟨p, l9, e, R9, s, m, args, below, meth, c, E9, A, Q⟩ := X
  obtain ⟨⟨hx, hb, hml, hown, hts⟩, hK, hA, hr, hlocks, hN, rfl, rfl, rfl⟩ := C
  intro H locs ls hP hD hS hl
  exact lv_iinc hx hb hd hl hj hv (by rw [hml]; exact hn) hl1 (fun ls hl => kk H locs ls hP hD hS hl)
theorem g_iadd {X : gX} {cc : ByteArray} {nL : Nat} {own : String} {ret : Option FieldType} {l : Launch} {E : gE} {R : Room} {k n pc : Nat} {cs : List va_W} {lv : List (Nat × Value)} {st : List Value} (C : gC X cc nL own ret l E R) {x y : Int32} (hd : decode cc pc = .ok (.iadd, 1)) (kk : G X k n cs lv (pc + 1) (.int (x + y) :: st)) : G X k n cs lv pc (.int y :: .int x :: st) := by
  obtain ⟨p, l9, e, R9, s, m, args, below, meth, c, E9, A, Q⟩ := X
  obtain ⟨⟨hx, hb, hml, hown, hts⟩, hK, hA, hr, hlocks, hN, rfl, rfl, rfl⟩ := C
  intro H locs ls hP hD hS hl
  exact lv_iadd hx hb hd (kk H locs ls hP hD hS hl)
theorem g_isub {X : gX} {cc : ByteArray} {nL : Nat} {own : String} {ret : Option FieldType} {l : Launch} {E : gE} {R : Room} {k n pc : Nat} {cs : List va_W} {lv : List (Nat × Value)} {st : List Value} (C : gC X cc nL own ret l E R) {x y : Int32} (hd : decode cc pc = .ok (.isub, 1)) (kk : G X k n cs lv (pc + 1) (.int (x - y) :: st)) : G X k n cs lv pc (.int y :: .int x :: st) := by
  obtain ⟨p, l9, e, R9, s, m, args, below, meth, c, E9, A, Q⟩ := X
  obtain ⟨⟨hx, hb, hml, hown, hts⟩, hK, hA, hr, hlocks, hN, rfl, rfl, rfl⟩ := C
  intro H locs ls hP hD hS hl
  exact lv_isub hx hb hd (kk H locs ls hP hD hS hl)
theorem g_imul {X : gX} {cc : ByteArray} {nL : Nat} {own : String} {ret : Option FieldType} {l : Launch} {E : gE} {R : Room} {k n pc : Nat} {cs : List va_W} {lv : List (Nat × Value)} {st : List Value} (C : gC X cc nL own ret l E R) {x y : Int32} (hd : decode cc pc = .ok (.imul, 1)) (kk : G X k n cs lv (pc + 1) (.int (x * y) :: st)) : G X k n cs lv pc (.int y :: .int x :: st) := by
  obtain ⟨p, l9, e, R9, s, m, args, below, meth, c, E9, A, Q⟩ := X
  obtain ⟨⟨hx, hb, hml, hown, hts⟩, hK, hA, hr, hlocks, hN, rfl, rfl, rfl⟩ := C
  intro H locs ls hP hD hS hl
  exact lv_imul hx hb hd (kk H locs ls hP hD hS hl)
theorem g_iand {X : gX} {cc : ByteArray} {nL : Nat} {own : String} {ret : Option FieldType} {l : Launch} {E : gE} {R : Room} {k n pc : Nat} {cs : List va_W} {lv : List (Nat × Value)} {st : List Value} (C : gC X cc nL own ret l E R) {x y : Int32} (hd : decode cc pc = .ok (.iand, 1)) (kk : G X k n cs lv (pc + 1) (.int (x &&& y) :: st)) : G X k n cs lv pc (.int y :: .int x :: st) := by
  obtain ⟨p, l9, e, R9, s, m, args, below, meth, c, E9, A, Q⟩ := X
  obtain ⟨⟨hx, hb, hml, hown, hts⟩, hK, hA, hr, hlocks, hN, rfl, rfl, rfl⟩ := C
  intro H locs ls hP hD hS hl
  exact lv_iand hx hb hd (kk H locs ls hP hD hS hl)
theorem g_ior {X : gX} {cc : ByteArray} {nL : Nat} {own : String} {ret : Option FieldType} {l : Launch} {E : gE} {R : Room} {k n pc : Nat} {cs : List va_W} {lv : List (Nat × Value)} {st : List Value} (C : gC X cc nL own ret l E R) {x y : Int32} (hd : decode cc pc = .ok (.ior, 1)) (kk : G X k n cs lv (pc + 1) (.int (x ||| y) :: st)) : G X k n cs lv pc (.int y :: .int x :: st) := by
  obtain ⟨p, l9, e, R9, s, m, args, below, meth, c, E9, A, Q⟩ := X
  obtain ⟨⟨hx, hb, hml, hown, hts⟩, hK, hA, hr, hlocks, hN, rfl, rfl, rfl⟩ := C
  intro H locs ls hP hD hS hl
  exact lv_ior hx hb hd (kk H locs ls hP hD hS hl)
theorem g_ixor {X : gX} {cc : ByteArray} {nL : Nat} {own : String} {ret : Option FieldType} {l : Launch} {E : gE} {R : Room} {k n pc : Nat} {cs : List va_W} {lv : List (Nat × Value)} {st : List Value} (C : gC X cc nL own ret l E R) {x y : Int32} (hd : decode cc pc = .ok (.ixor, 1)) (kk : G X k n cs lv (pc + 1) (.int (x ^^^ y) :: st)) : G X k n cs lv pc (.int y :: .int x :: st) := by
  obtain ⟨p, l9, e, R9, s, m, args, below, meth, c, E9, A, Q⟩ := X
  obtain ⟨⟨hx, hb, hml, hown, hts⟩, hK, hA, hr, hlocks, hN, rfl, rfl, rfl⟩ := C
  intro H locs ls hP hD hS hl
  exact lv_ixor hx hb hd (kk H locs ls hP hD hS hl)
theorem g_ishl {X : gX} {cc : ByteArray} {nL : Nat} {own : String} {ret : Option FieldType} {l : Launch} {E : gE} {R : Room} {k n pc : Nat} {cs : List va_W} {lv : List (Nat × Value)} {st : List Value} (C : gC X cc nL own ret l E R) {x y : Int32} (hd : decode cc pc = .ok (.ishl, 1)) (kk : G X k n cs lv (pc + 1) (.int (x <<< (y &&& 31)) :: st)) : G X k n cs lv pc (.int y :: .int x :: st) := by
  obtain ⟨p, l9, e, R9, s, m, args, below, meth, c, E9, A, Q⟩ := X
  obtain ⟨⟨hx, hb, hml, hown, hts⟩, hK, hA, hr, hlocks, hN, rfl, rfl, rfl⟩ := C
  intro H locs ls hP hD hS hl
  exact lv_ishl hx hb hd (kk H locs ls hP hD hS hl)
theorem g_ishr {X : gX} {cc : ByteArray} {nL : Nat} {own : String} {ret : Option FieldType} {l : Launch} {E : gE} {R : Room} {k n pc : Nat} {cs : List va_W} {lv : List (Nat × Value)} {st : List Value} (C : gC X cc nL own ret l E R) {x y : Int32} (hd : decode cc pc = .ok (.ishr, 1)) (kk : G X k n cs lv (pc + 1) (.int (x >>> (y &&& 31)) :: st)) : G X k n cs lv pc (.int y :: .int x :: st) := by
  obtain ⟨p, l9, e, R9, s, m, args, below, meth, c, E9, A, Q⟩ := X
  obtain ⟨⟨hx, hb, hml, hown, hts⟩, hK, hA, hr, hlocks, hN, rfl, rfl, rfl⟩ := C
  intro H locs ls hP hD hS hl
  exact lv_ishr hx hb hd (kk H locs ls hP hD hS hl)
theorem g_ladd {X : gX} {cc : ByteArray} {nL : Nat} {own : String} {ret : Option FieldType} {l : Launch} {E : gE} {R : Room} {k n pc : Nat} {cs : List va_W} {lv : List (Nat × Value)} {st : List Value} (C : gC X cc nL own ret l E R) {x y : Int64} (hd : decode cc pc = .ok (.ladd, 1)) (kk : G X k n cs lv (pc + 1) (.long (x + y) :: st)) : G X k n cs lv pc (.long y :: .long x :: st) := by
  obtain ⟨p, l9, e, R9, s, m, args, below, meth, c, E9, A, Q⟩ := X
  obtain ⟨⟨hx, hb, hml, hown, hts⟩, hK, hA, hr, hlocks, hN, rfl, rfl, rfl⟩ := C
  intro H locs ls hP hD hS hl
  exact lv_ladd hx hb hd (kk H locs ls hP hD hS hl)
theorem g_lsub {X : gX} {cc : ByteArray} {nL : Nat} {own : String} {ret : Option FieldType} {l : Launch} {E : gE} {R : Room} {k n pc : Nat} {cs : List va_W} {lv : List (Nat × Value)} {st : List Value} (C : gC X cc nL own ret l E R) {x y : Int64} (hd : decode cc pc = .ok (.lsub, 1)) (kk : G X k n cs lv (pc + 1) (.long (x - y) :: st)) : G X k n cs lv pc (.long y :: .long x :: st) := by
  obtain ⟨p, l9, e, R9, s, m, args, below, meth, c, E9, A, Q⟩ := X
  obtain ⟨⟨hx, hb, hml, hown, hts⟩, hK, hA, hr, hlocks, hN, rfl, rfl, rfl⟩ := C
  intro H locs ls hP hD hS hl
  exact lv_lsub hx hb hd (kk H locs ls hP hD hS hl)
theorem g_lmul {X : gX} {cc : ByteArray} {nL : Nat} {own : String} {ret : Option FieldType} {l : Launch} {E : gE} {R : Room} {k n pc : Nat} {cs : List va_W} {lv : List (Nat × Value)} {st : List Value} (C : gC X cc nL own ret l E R) {x y : Int64} (hd : decode cc pc = .ok (.lmul, 1)) (kk : G X k n cs lv (pc + 1) (.long (x * y) :: st)) : G X k n cs lv pc (.long y :: .long x :: st) := by
  obtain ⟨p, l9, e, R9, s, m, args, below, meth, c, E9, A, Q⟩ := X
  obtain ⟨⟨hx, hb, hml, hown, hts⟩, hK, hA, hr, hlocks, hN, rfl, rfl, rfl⟩ := C
  intro H locs ls hP hD hS hl
  exact lv_lmul hx hb hd (kk H locs ls hP hD hS hl)
theorem g_ineg {X : gX} {cc : ByteArray} {nL : Nat} {own : String} {ret : Option FieldType} {l : Launch} {E : gE} {R : Room} {k n pc : Nat} {cs : List va_W} {lv : List (Nat × Value)} {st : List Value} (C : gC X cc nL own ret l E R) {x : Int32} (hd : decode cc pc = .ok (.ineg, 1)) (kk : G X k n cs lv (pc + 1) (.int (-x) :: st)) : G X k n cs lv pc (.int x :: st) := by
  obtain ⟨p, l9, e, R9, s, m, args, below, meth, c, E9, A, Q⟩ := X
  obtain ⟨⟨hx, hb, hml, hown, hts⟩, hK, hA, hr, hlocks, hN, rfl, rfl, rfl⟩ := C
  intro H locs ls hP hD hS hl
  exact lv_ineg hx hb hd (kk H locs ls hP hD hS hl)
theorem g_idiv {X : gX} {cc : ByteArray} {nL : Nat} {own : String} {ret : Option FieldType} {l : Launch} {E : gE} {R : Room} {k n pc : Nat} {cs : List va_W} {lv : List (Nat × Value)} {st : List Value} (C : gC X cc nL own ret l E R) {x y : Int32} (hd : decode cc pc = .ok (.idiv, 1)) (hne : ¬ y = 0) (kk : G X k n cs lv (pc + 1) (.int (x / y) :: st)) : G X k n cs lv pc (.int y :: .int x :: st) := by
  obtain ⟨p, l9, e, R9, s, m, args, below, meth, c, E9, A, Q⟩ := X
  obtain ⟨⟨hx, hb, hml, hown, hts⟩, hK, hA, hr, hlocks, hN, rfl, rfl, rfl⟩ := C
  intro H locs ls hP hD hS hl
  exact lv_idiv hx hb hd hne (kk H locs ls hP hD hS hl)
theorem g_iushr {X : gX} {cc : ByteArray} {nL : Nat} {own : String} {ret : Option FieldType} {l : Launch} {E : gE} {R : Room} {k n pc : Nat} {cs : List va_W} {lv : List (Nat × Value)} {st : List Value} (C : gC X cc nL own ret l E R) {x y v : Int32} (hd : decode cc pc = .ok (.iushr, 1)) (hv : (x.toUInt32 >>> (y.toUInt32 &&& Int32.toUInt32 31)).toInt32 = v) (kk : G X k n cs lv (pc + 1) (.int v :: st)) : G X k n cs lv pc (.int y :: .int x :: st) := by
  obtain ⟨p, l9, e, R9, s, m, args, below, meth, c, E9, A, Q⟩ := X
  obtain ⟨⟨hx, hb, hml, hown, hts⟩, hK, hA, hr, hlocks, hN, rfl, rfl, rfl⟩ := C
  intro H locs ls hP hD hS hl
  exact lv_iushr hx hb hd hv (kk H locs ls hP hD hS hl)
theorem g_lshl {X : gX} {cc : ByteArray} {nL : Nat} {own : String} {ret : Option FieldType} {l : Launch} {E : gE} {R : Room} {k n pc : Nat} {cs : List va_W} {lv : List (Nat × Value)} {st : List Value} (C : gC X cc nL own ret l E R) {x v : Int64} {y : Int32} (hd : decode cc pc = .ok (.lshl, 1)) (hv : x <<< (y.toInt64 &&& 63) = v) (kk : G X k n cs lv (pc + 1) (.long v :: st)) : G X k n cs lv pc (.int y :: .long x :: st) := by
  obtain ⟨p, l9, e, R9, s, m, args, below, meth, c, E9, A, Q⟩ := X
  obtain ⟨⟨hx, hb, hml, hown, hts⟩, hK, hA, hr, hlocks, hN, rfl, rfl, rfl⟩ := C
  intro H locs ls hP hD hS hl
  exact lv_lshl hx hb hd hv (kk H locs ls hP hD hS hl)
theorem g_i2l {X : gX} {cc : ByteArray} {nL : Nat} {own : String} {ret : Option FieldType} {l : Launch} {E : gE} {R : Room} {k n pc : Nat} {cs : List va_W} {lv : List (Nat × Value)} {st : List Value} (C : gC X cc nL own ret l E R) {x : Int32} (hd : decode cc pc = .ok (.i2l, 1)) (kk : G X k n cs lv (pc + 1) (.long x.toInt64 :: st)) : G X k n cs lv pc (.int x :: st) := by
  obtain ⟨p, l9, e, R9, s, m, args, below, meth, c, E9, A, Q⟩ := X
  obtain ⟨⟨hx, hb, hml, hown, hts⟩, hK, hA, hr, hlocks, hN, rfl, rfl, rfl⟩ := C
  intro H locs ls hP hD hS hl
  exact lv_i2l hx hb hd rfl (kk H locs ls hP hD hS hl)
theorem g_i2c {X : gX} {cc : ByteArray} {nL : Nat} {own : String} {ret : Option FieldType} {l : Launch} {E : gE} {R : Room} {k n pc : Nat} {cs : List va_W} {lv : List (Nat × Value)} {st : List Value} (C : gC X cc nL own ret l E R) {x : Int32} (hd : decode cc pc = .ok (.i2c, 1)) (kk : G X k n cs lv (pc + 1) (.int (x.toUInt32 % 65536).toInt32 :: st)) : G X k n cs lv pc (.int x :: st) := by
  obtain ⟨p, l9, e, R9, s, m, args, below, meth, c, E9, A, Q⟩ := X
  obtain ⟨⟨hx, hb, hml, hown, hts⟩, hK, hA, hr, hlocks, hN, rfl, rfl, rfl⟩ := C
  intro H locs ls hP hD hS hl
  exact lv_i2c hx hb hd rfl (kk H locs ls hP hD hS hl)
theorem g_dup {X : gX} {cc : ByteArray} {nL : Nat} {own : String} {ret : Option FieldType} {l : Launch} {E : gE} {R : Room} {k n pc : Nat} {cs : List va_W} {lv : List (Nat × Value)} {st : List Value} (C : gC X cc nL own ret l E R) {va : Value} (hd : decode cc pc = .ok (.dup, 1)) (hva : va.category = 1) (kk : G X k n cs lv (pc + 1) (va :: va :: st)) : G X k n cs lv pc (va :: st) := by
  obtain ⟨p, l9, e, R9, s, m, args, below, meth, c, E9, A, Q⟩ := X
  obtain ⟨⟨hx, hb, hml, hown, hts⟩, hK, hA, hr, hlocks, hN, rfl, rfl, rfl⟩ := C
  intro H locs ls hP hD hS hl
  exact lv_dup hx hb hd hva (kk H locs ls hP hD hS hl)
theorem g_pop {X : gX} {cc : ByteArray} {nL : Nat} {own : String} {ret : Option FieldType} {l : Launch} {E : gE} {R : Room} {k n pc : Nat} {cs : List va_W} {lv : List (Nat × Value)} {st : List Value} (C : gC X cc nL own ret l E R) {va : Value} (hd : decode cc pc = .ok (.pop, 1)) (hva : va.category = 1) (kk : G X k n cs lv (pc + 1) (st)) : G X k n cs lv pc (va :: st) := by
  obtain ⟨p, l9, e, R9, s, m, args, below, meth, c, E9, A, Q⟩ := X
  obtain ⟨⟨hx, hb, hml, hown, hts⟩, hK, hA, hr, hlocks, hN, rfl, rfl, rfl⟩ := C
  intro H locs ls hP hD hS hl
  exact lv_pop hx hb hd hva (kk H locs ls hP hD hS hl)
theorem g_dup2 {X : gX} {cc : ByteArray} {nL : Nat} {own : String} {ret : Option FieldType} {l : Launch} {E : gE} {R : Room} {k n pc : Nat} {cs : List va_W} {lv : List (Nat × Value)} {st : List Value} (C : gC X cc nL own ret l E R) {va vb : Value} (hd : decode cc pc = .ok (.dup2, 1)) (hva : va.category = 1) (hvb : vb.category = 1) (kk : G X k n cs lv (pc + 1) (va :: vb :: va :: vb :: st)) : G X k n cs lv pc (va :: vb :: st) := by
  obtain ⟨p, l9, e, R9, s, m, args, below, meth, c, E9, A, Q⟩ := X
  obtain ⟨⟨hx, hb, hml, hown, hts⟩, hK, hA, hr, hlocks, hN, rfl, rfl, rfl⟩ := C
  intro H locs ls hP hD hS hl
  exact lv_dup2_11 hx hb hd hva hvb (kk H locs ls hP hD hS hl)
theorem g_if_eq {X : gX} {cc : ByteArray} {nL : Nat} {own : String} {ret : Option FieldType} {l : Launch} {E : gE} {R : Room} {k n pc : Nat} {cs : List va_W} {lv : List (Nat × Value)} {st : List Value} (C : gC X cc nL own ret l E R) {x : Int32} {off : Int} (tgt : Nat) (hd : decode cc pc = .ok (.ifCond .eq off, 3)) (ht : (pc : Int) + off = (tgt : Int)) (kt : x = 0 → G X k n cs lv tgt st) (kf : ¬ x = 0 → G X k n cs lv (pc + 3) st) : G X k n cs lv pc (.int x :: st) := by
  obtain ⟨p, l9, e, R9, s, m, args, below, meth, c, E9, A, Q⟩ := X
  obtain ⟨⟨hx, hb, hml, hown, hts⟩, hK, hA, hr, hlocks, hN, rfl, rfl, rfl⟩ := C
  intro H locs ls hP hD hS hl
  exact lv_if_eq hx hb hd ht (fun h => kt h H locs ls hP hD hS hl) (fun h => kf h H locs ls hP hD hS hl)
theorem g_icmp_eq {X : gX} {cc : ByteArray} {nL : Nat} {own : String} {ret : Option FieldType} {l : Launch} {E : gE} {R : Room} {k n pc : Nat} {cs : List va_W} {lv : List (Nat × Value)} {st : List Value} (C : gC X cc nL own ret l E R) {x y : Int32} {off : Int} (tgt : Nat) (hd : decode cc pc = .ok (.if_icmp .eq off, 3)) (ht : (pc : Int) + off = (tgt : Int)) (kt : x = y → G X k n cs lv tgt st) (kf : ¬ x = y → G X k n cs lv (pc + 3) st) : G X k n cs lv pc (.int y :: .int x :: st) := by
  obtain ⟨p, l9, e, R9, s, m, args, below, meth, c, E9, A, Q⟩ := X
  obtain ⟨⟨hx, hb, hml, hown, hts⟩, hK, hA, hr, hlocks, hN, rfl, rfl, rfl⟩ := C
  intro H locs ls hP hD hS hl
  exact lv_icmp_eq hx hb hd ht (fun h => kt h H locs ls hP hD hS hl) (fun h => kf h H locs ls hP hD hS hl)
theorem g_if_ne {X : gX} {cc : ByteArray} {nL : Nat} {own : String} {ret : Option FieldType} {l : Launch} {E : gE} {R : Room} {k n pc : Nat} {cs : List va_W} {lv : List (Nat × Value)} {st : List Value} (C : gC X cc nL own ret l E R) {x : Int32} {off : Int} (tgt : Nat) (hd : decode cc pc = .ok (.ifCond .ne off, 3)) (ht : (pc : Int) + off = (tgt : Int)) (kt : ¬ x = 0 → G X k n cs lv tgt st) (kf : x = 0 → G X k n cs lv (pc + 3) st) : G X k n cs lv pc (.int x :: st) := by
  obtain ⟨p, l9, e, R9, s, m, args, below, meth, c, E9, A, Q⟩ := X
  obtain ⟨⟨hx, hb, hml, hown, hts⟩, hK, hA, hr, hlocks, hN, rfl, rfl, rfl⟩ := C
  intro H locs ls hP hD hS hl
  exact lv_if_ne hx hb hd ht (fun h => kt h H locs ls hP hD hS hl) (fun h => kf h H locs ls hP hD hS hl)
theorem g_icmp_ne {X : gX} {cc : ByteArray} {nL : Nat} {own : String} {ret : Option FieldType} {l : Launch} {E : gE} {R : Room} {k n pc : Nat} {cs : List va_W} {lv : List (Nat × Value)} {st : List Value} (C : gC X cc nL own ret l E R) {x y : Int32} {off : Int} (tgt : Nat) (hd : decode cc pc = .ok (.if_icmp .ne off, 3)) (ht : (pc : Int) + off = (tgt : Int)) (kt : ¬ x = y → G X k n cs lv tgt st) (kf : x = y → G X k n cs lv (pc + 3) st) : G X k n cs lv pc (.int y :: .int x :: st) := by
  obtain ⟨p, l9, e, R9, s, m, args, below, meth, c, E9, A, Q⟩ := X
  obtain ⟨⟨hx, hb, hml, hown, hts⟩, hK, hA, hr, hlocks, hN, rfl, rfl, rfl⟩ := C
  intro H locs ls hP hD hS hl
  exact lv_icmp_ne hx hb hd ht (fun h => kt h H locs ls hP hD hS hl) (fun h => kf h H locs ls hP hD hS hl)
theorem g_if_lt {X : gX} {cc : ByteArray} {nL : Nat} {own : String} {ret : Option FieldType} {l : Launch} {E : gE} {R : Room} {k n pc : Nat} {cs : List va_W} {lv : List (Nat × Value)} {st : List Value} (C : gC X cc nL own ret l E R) {x : Int32} {off : Int} (tgt : Nat) (hd : decode cc pc = .ok (.ifCond .lt off, 3)) (ht : (pc : Int) + off = (tgt : Int)) (kt : x < 0 → G X k n cs lv tgt st) (kf : ¬ x < 0 → G X k n cs lv (pc + 3) st) : G X k n cs lv pc (.int x :: st) := by
  obtain ⟨p, l9, e, R9, s, m, args, below, meth, c, E9, A, Q⟩ := X
  obtain ⟨⟨hx, hb, hml, hown, hts⟩, hK, hA, hr, hlocks, hN, rfl, rfl, rfl⟩ := C
  intro H locs ls hP hD hS hl
  exact lv_if_lt hx hb hd ht (fun h => kt h H locs ls hP hD hS hl) (fun h => kf h H locs ls hP hD hS hl)
theorem g_icmp_lt {X : gX} {cc : ByteArray} {nL : Nat} {own : String} {ret : Option FieldType} {l : Launch} {E : gE} {R : Room} {k n pc : Nat} {cs : List va_W} {lv : List (Nat × Value)} {st : List Value} (C : gC X cc nL own ret l E R) {x y : Int32} {off : Int} (tgt : Nat) (hd : decode cc pc = .ok (.if_icmp .lt off, 3)) (ht : (pc : Int) + off = (tgt : Int)) (kt : x < y → G X k n cs lv tgt st) (kf : ¬ x < y → G X k n cs lv (pc + 3) st) : G X k n cs lv pc (.int y :: .int x :: st) := by
  obtain ⟨p, l9, e, R9, s, m, args, below, meth, c, E9, A, Q⟩ := X
  obtain ⟨⟨hx, hb, hml, hown, hts⟩, hK, hA, hr, hlocks, hN, rfl, rfl, rfl⟩ := C
  intro H locs ls hP hD hS hl
  exact lv_icmp_lt hx hb hd ht (fun h => kt h H locs ls hP hD hS hl) (fun h => kf h H locs ls hP hD hS hl)
theorem g_if_ge {X : gX} {cc : ByteArray} {nL : Nat} {own : String} {ret : Option FieldType} {l : Launch} {E : gE} {R : Room} {k n pc : Nat} {cs : List va_W} {lv : List (Nat × Value)} {st : List Value} (C : gC X cc nL own ret l E R) {x : Int32} {off : Int} (tgt : Nat) (hd : decode cc pc = .ok (.ifCond .ge off, 3)) (ht : (pc : Int) + off = (tgt : Int)) (kt : 0 ≤ x → G X k n cs lv tgt st) (kf : ¬ 0 ≤ x → G X k n cs lv (pc + 3) st) : G X k n cs lv pc (.int x :: st) := by
  obtain ⟨p, l9, e, R9, s, m, args, below, meth, c, E9, A, Q⟩ := X
  obtain ⟨⟨hx, hb, hml, hown, hts⟩, hK, hA, hr, hlocks, hN, rfl, rfl, rfl⟩ := C
  intro H locs ls hP hD hS hl
  exact lv_if_ge hx hb hd ht (fun h => kt h H locs ls hP hD hS hl) (fun h => kf h H locs ls hP hD hS hl)
theorem g_icmp_ge {X : gX} {cc : ByteArray} {nL : Nat} {own : String} {ret : Option FieldType} {l : Launch} {E : gE} {R : Room} {k n pc : Nat} {cs : List va_W} {lv : List (Nat × Value)} {st : List Value} (C : gC X cc nL own ret l E R) {x y : Int32} {off : Int} (tgt : Nat) (hd : decode cc pc = .ok (.if_icmp .ge off, 3)) (ht : (pc : Int) + off = (tgt : Int)) (kt : y ≤ x → G X k n cs lv tgt st) (kf : ¬ y ≤ x → G X k n cs lv (pc + 3) st) : G X k n cs lv pc (.int y :: .int x :: st) := by
  obtain ⟨p, l9, e, R9, s, m, args, below, meth, c, E9, A, Q⟩ := X
  obtain ⟨⟨hx, hb, hml, hown, hts⟩, hK, hA, hr, hlocks, hN, rfl, rfl, rfl⟩ := C
  intro H locs ls hP hD hS hl
  exact lv_icmp_ge hx hb hd ht (fun h => kt h H locs ls hP hD hS hl) (fun h => kf h H locs ls hP hD hS hl)
theorem g_if_gt {X : gX} {cc : ByteArray} {nL : Nat} {own : String} {ret : Option FieldType} {l : Launch} {E : gE} {R : Room} {k n pc : Nat} {cs : List va_W} {lv : List (Nat × Value)} {st : List Value} (C : gC X cc nL own ret l E R) {x : Int32} {off : Int} (tgt : Nat) (hd : decode cc pc = .ok (.ifCond .gt off, 3)) (ht : (pc : Int) + off = (tgt : Int)) (kt : 0 < x → G X k n cs lv tgt st) (kf : ¬ 0 < x → G X k n cs lv (pc + 3) st) : G X k n cs lv pc (.int x :: st) := by
  obtain ⟨p, l9, e, R9, s, m, args, below, meth, c, E9, A, Q⟩ := X
  obtain ⟨⟨hx, hb, hml, hown, hts⟩, hK, hA, hr, hlocks, hN, rfl, rfl, rfl⟩ := C
  intro H locs ls hP hD hS hl
  exact lv_if_gt hx hb hd ht (fun h => kt h H locs ls hP hD hS hl) (fun h => kf h H locs ls hP hD hS hl)
theorem g_icmp_gt {X : gX} {cc : ByteArray} {nL : Nat} {own : String} {ret : Option FieldType} {l : Launch} {E : gE} {R : Room} {k n pc : Nat} {cs : List va_W} {lv : List (Nat × Value)} {st : List Value} (C : gC X cc nL own ret l E R) {x y : Int32} {off : Int} (tgt : Nat) (hd : decode cc pc = .ok (.if_icmp .gt off, 3)) (ht : (pc : Int) + off = (tgt : Int)) (kt : y < x → G X k n cs lv tgt st) (kf : ¬ y < x → G X k n cs lv (pc + 3) st) : G X k n cs lv pc (.int y :: .int x :: st) := by
  obtain ⟨p, l9, e, R9, s, m, args, below, meth, c, E9, A, Q⟩ := X
  obtain ⟨⟨hx, hb, hml, hown, hts⟩, hK, hA, hr, hlocks, hN, rfl, rfl, rfl⟩ := C
  intro H locs ls hP hD hS hl
  exact lv_icmp_gt hx hb hd ht (fun h => kt h H locs ls hP hD hS hl) (fun h => kf h H locs ls hP hD hS hl)
theorem g_if_le {X : gX} {cc : ByteArray} {nL : Nat} {own : String} {ret : Option FieldType} {l : Launch} {E : gE} {R : Room} {k n pc : Nat} {cs : List va_W} {lv : List (Nat × Value)} {st : List Value} (C : gC X cc nL own ret l E R) {x : Int32} {off : Int} (tgt : Nat) (hd : decode cc pc = .ok (.ifCond .le off, 3)) (ht : (pc : Int) + off = (tgt : Int)) (kt : x ≤ 0 → G X k n cs lv tgt st) (kf : ¬ x ≤ 0 → G X k n cs lv (pc + 3) st) : G X k n cs lv pc (.int x :: st) := by
  obtain ⟨p, l9, e, R9, s, m, args, below, meth, c, E9, A, Q⟩ := X
  obtain ⟨⟨hx, hb, hml, hown, hts⟩, hK, hA, hr, hlocks, hN, rfl, rfl, rfl⟩ := C
  intro H locs ls hP hD hS hl
  exact lv_if_le hx hb hd ht (fun h => kt h H locs ls hP hD hS hl) (fun h => kf h H locs ls hP hD hS hl)
theorem g_icmp_le {X : gX} {cc : ByteArray} {nL : Nat} {own : String} {ret : Option FieldType} {l : Launch} {E : gE} {R : Room} {k n pc : Nat} {cs : List va_W} {lv : List (Nat × Value)} {st : List Value} (C : gC X cc nL own ret l E R) {x y : Int32} {off : Int} (tgt : Nat) (hd : decode cc pc = .ok (.if_icmp .le off, 3)) (ht : (pc : Int) + off = (tgt : Int)) (kt : x ≤ y → G X k n cs lv tgt st) (kf : ¬ x ≤ y → G X k n cs lv (pc + 3) st) : G X k n cs lv pc (.int y :: .int x :: st) := by
  obtain ⟨p, l9, e, R9, s, m, args, below, meth, c, E9, A, Q⟩ := X
  obtain ⟨⟨hx, hb, hml, hown, hts⟩, hK, hA, hr, hlocks, hN, rfl, rfl, rfl⟩ := C
  intro H locs ls hP hD hS hl
  exact lv_icmp_le hx hb hd ht (fun h => kt h H locs ls hP hD hS hl) (fun h => kf h H locs ls hP hD hS hl)
theorem g_goto {X : gX} {cc : ByteArray} {nL : Nat} {own : String} {ret : Option FieldType} {l : Launch} {E : gE} {R : Room} {k n pc : Nat} {cs : List va_W} {lv : List (Nat × Value)} {st : List Value} (C : gC X cc nL own ret l E R) {off : Int} (tgt : Nat) (hd : decode cc pc = .ok (.goto off, 3)) (ht : (pc : Int) + off = (tgt : Int)) (kk : G X k n cs lv (tgt) (st)) : G X k n cs lv pc (st) := by
  obtain ⟨p, l9, e, R9, s, m, args, below, meth, c, E9, A, Q⟩ := X
  obtain ⟨⟨hx, hb, hml, hown, hts⟩, hK, hA, hr, hlocks, hN, rfl, rfl, rfl⟩ := C
  intro H locs ls hP hD hS hl
  exact lv_goto hx hb hd ht (kk H locs ls hP hD hS hl)
/-- a truth value as the machine's int -/
def b2i (b : Bool) : Int32 := if b then 1 else 0
theorem b2i_0 {b : Bool} : b2i b = 0 ↔ b = false := by cases b <;> decide
theorem b2i_t : b2i true = 1 := rfl
theorem b2i_f : b2i false = 0 := rfl
theorem g_ifB_eq {X : gX} {cc : ByteArray} {nL : Nat} {own : String} {ret : Option FieldType} {l : Launch} {E : gE} {R : Room} {k n pc : Nat} {cs : List va_W} {lv : List (Nat × Value)} {st : List Value} (C : gC X cc nL own ret l E R) {b : Bool} {off : Int} (tgt : Nat) (hd : decode cc pc = .ok (.ifCond .eq off, 3)) (ht : (pc : Int) + off = (tgt : Int)) (kt : b = false → G X k n cs lv tgt st) (kf : b = true → G X k n cs lv (pc + 3) st) : G X k n cs lv pc (.int (b2i b) :: st) :=
  g_if_eq C tgt hd ht (fun h => kt (b2i_0.mp h)) (fun h => kf (by cases b with | true => rfl | false => exact absurd rfl h))
theorem g_ifB_ne {X : gX} {cc : ByteArray} {nL : Nat} {own : String} {ret : Option FieldType} {l : Launch} {E : gE} {R : Room} {k n pc : Nat} {cs : List va_W} {lv : List (Nat × Value)} {st : List Value} (C : gC X cc nL own ret l E R) {b : Bool} {off : Int} (tgt : Nat) (hd : decode cc pc = .ok (.ifCond .ne off, 3)) (ht : (pc : Int) + off = (tgt : Int)) (kt : b = true → G X k n cs lv tgt st) (kf : b = false → G X k n cs lv (pc + 3) st) : G X k n cs lv pc (.int (b2i b) :: st) :=
  g_if_ne C tgt hd ht (fun h => kt (by cases b with | true => rfl | false => exact absurd rfl h)) (fun h => kf (b2i_0.mp h))
theorem g_getf {X : gX} {cc : ByteArray} {nL : Nat} {own : String} {ret : Option FieldType} {l : Launch} {E : gE} {R : Room} {k n pc : Nat} {cs : List va_W} {lv : List (Nat × Value)} {st : List Value} (C : gC X cc nL own ret l E R) {C0 : String} {T : u_T} {N cix index : Nat} {a : Nat} {w : va_W} {fs : List Value} {v : Value} (ci q0 : Nat) (he : cs[ci]? = some w) (hw : w[q0]? = some (a, .inr (cix, fs))) (hc : vwCl[cix]? = some (C0, T, N)) (hin : ∀ w ∈ u_ws C0 T N, w ∈ gU) (j : Nat) (hj : j < N) (hlink : Cond.fieldLink own index (T j).1 (T j).2.1 (T j).2.2.1 ∈ gU) (hv : fs[j]? = some v) (hd : decode cc pc = .ok (.getfield index, 3)) (kk : G X k n cs lv (pc + 3) (v :: st)) : G X k n cs lv pc (.ref a :: st) := by
  obtain ⟨p, l9, e, R9, s, m, args, below, meth, c, E9, A, Q⟩ := X
  obtain ⟨⟨hx, hb, hml, hown, hts⟩, hK, hA, hr, hlocks, hN, rfl, rfl, rfl⟩ := C
  intro H locs ls hP hD hS hl
  obtain ⟨z, hz, -⟩ := g_flat he hw
  exact va_get hx hb hts hin hown hK hP z hz hc j hj (hts _ hlink) (fun _ h => h) hv hd (kk H locs ls hP hD hS hl)
theorem g_putf {X : gX} {cc : ByteArray} {nL : Nat} {own : String} {ret : Option FieldType} {l : Launch} {E : gE} {R : Room} {k n pc : Nat} {cs : List va_W} {lv : List (Nat × Value)} {st : List Value} (C : gC X cc nL own ret l E R) {C0 : String} {T : u_T} {N cix index : Nat} {ty0 : Nat → FieldType} {ty : FieldType} {a : Nat} {w w1 : va_W} {cs1 : List va_W} {fs : List Value} {v : Value} (ci q0 : Nat) (he : cs[ci]? = some w) (hw : w[q0]? = some (a, .inr (cix, fs))) (hc : vwCl[cix]? = some (C0, T, N)) (hin : ∀ w ∈ u_ws C0 T N, w ∈ gU) (hty : ∀ k, k < N → parseFieldDescriptor (T k).2.2.1 = some (ty0 k)) (hnm : ∀ a, a < N → ∀ b, b < N → a ≠ b → (T a).2.1 ≠ (T b).2.1) (j : Nat) (hj : j < N) (hlink : Cond.fieldLink own index (T j).1 (T j).2.1 (T j).2.2.1 ∈ gU) (hfin : (T j).2.2.2 = false) (hdsc : parseFieldDescriptor (T j).2.2.1 = some ty) (hnw : narrow ty v = v) (hfit : fits ty v = true) (hlen : j < fs.length) (hw1 : w.set q0 (a, .inr (cix, fs.set j v)) = w1) (hcs : cs.set ci w1 = cs1) (hd : decode cc pc = .ok (.putfield index, 3)) (kk : G X k n cs1 lv (pc + 3) (st)) : G X k n cs lv pc (v :: .ref a :: st) := by
  obtain ⟨p, l9, e, R9, s, m, args, below, meth, c, E9, A, Q⟩ := X
  obtain ⟨⟨hx, hb, hml, hown, hts⟩, hK, hA, hr, hlocks, hN, rfl, rfl, rfl⟩ := C
  intro H locs ls hP hD hS hl
  obtain ⟨z, hz, hz2⟩ := g_flat he hw
  refine va_put hx hb hts hin ty0 hty hnm hown hK hP hD hS z hz hc j hj (hts _ hlink) (fun _ h => h) hfin hdsc hnw hfit hlen hd (fun H1 locs1 hP1 hD1 hS1 => ?_)
  rw [hz2, hw1, hcs] at hP1 hD1
  exact kk H1 locs1 ls hP1 hD1 hS1 hl
theorem g_iald {X : gX} {cc : ByteArray} {nL : Nat} {own : String} {ret : Option FieldType} {l : Launch} {E : gE} {R : Room} {k n pc : Nat} {cs : List va_W} {lv : List (Nat × Value)} {st : List Value} (C : gC X cc nL own ret l E R) {a z : Nat} {w : va_W} {f : Nat → Int32} {i : Int32} (ci q0 : Nat) (he : cs[ci]? = some w) (hw : w[q0]? = some (a, .inl (E.2 0, z, .inl f))) (hi : vp_in i z) (hd : decode cc pc = .ok (.iaload, 1)) (kk : G X k n cs lv (pc + 1) (.int (f i.toNatClampNeg) :: st)) : G X k n cs lv pc (.int i :: .ref a :: st) := by
  obtain ⟨p, l9, e, R9, s, m, args, below, meth, c, E9, A, Q⟩ := X
  obtain ⟨⟨hx, hb, hml, hown, hts⟩, hK, hA, hr, hlocks, hN, rfl, rfl, rfl⟩ := C
  intro H locs ls hP hD hS hl
  obtain ⟨z9, hz, -⟩ := g_flat he hw
  exact va_iald hx hb hK hP z9 0 hz rfl hi hd (kk H locs ls hP hD hS hl)
theorem g_zald {X : gX} {cc : ByteArray} {nL : Nat} {own : String} {ret : Option FieldType} {l : Launch} {E : gE} {R : Room} {k n pc : Nat} {cs : List va_W} {lv : List (Nat × Value)} {st : List Value} (C : gC X cc nL own ret l E R) {a z : Nat} {w : va_W} {f : Nat → Int32} {i : Int32} (ci q0 : Nat) (he : cs[ci]? = some w) (hw : w[q0]? = some (a, .inl (E.2 1, z, .inl f))) (hi : vp_in i z) (hd : decode cc pc = .ok (.baload, 1)) (kk : G X k n cs lv (pc + 1) (.int (f i.toNatClampNeg) :: st)) : G X k n cs lv pc (.int i :: .ref a :: st) := by
  obtain ⟨p, l9, e, R9, s, m, args, below, meth, c, E9, A, Q⟩ := X
  obtain ⟨⟨hx, hb, hml, hown, hts⟩, hK, hA, hr, hlocks, hN, rfl, rfl, rfl⟩ := C
  intro H locs ls hP hD hS hl
  obtain ⟨z9, hz, -⟩ := g_flat he hw
  exact va_zald hx hb hK hP z9 1 hz rfl hi hd (kk H locs ls hP hD hS hl)
theorem g_cald {X : gX} {cc : ByteArray} {nL : Nat} {own : String} {ret : Option FieldType} {l : Launch} {E : gE} {R : Room} {k n pc : Nat} {cs : List va_W} {lv : List (Nat × Value)} {st : List Value} (C : gC X cc nL own ret l E R) {a z : Nat} {w : va_W} {f : Nat → Int32} {i : Int32} (ci q0 : Nat) (he : cs[ci]? = some w) (hw : w[q0]? = some (a, .inl (E.2 2, z, .inl f))) (hi : vp_in i z) (hd : decode cc pc = .ok (.caload, 1)) (kk : G X k n cs lv (pc + 1) (.int (f i.toNatClampNeg) :: st)) : G X k n cs lv pc (.int i :: .ref a :: st) := by
  obtain ⟨p, l9, e, R9, s, m, args, below, meth, c, E9, A, Q⟩ := X
  obtain ⟨⟨hx, hb, hml, hown, hts⟩, hK, hA, hr, hlocks, hN, rfl, rfl, rfl⟩ := C
  intro H locs ls hP hD hS hl
  obtain ⟨z9, hz, -⟩ := g_flat he hw
  exact va_cald hx hb hK hP z9 2 hz rfl hi hd (kk H locs ls hP hD hS hl)
theorem g_iast {X : gX} {cc : ByteArray} {nL : Nat} {own : String} {ret : Option FieldType} {l : Launch} {E : gE} {R : Room} {k n pc : Nat} {cs : List va_W} {lv : List (Nat × Value)} {st : List Value} (C : gC X cc nL own ret l E R) {a z : Nat} {w w1 : va_W} {cs1 : List va_W} {f : Nat → Int32} {i : Int32} {x : Int32} (ci q0 : Nat) (he : cs[ci]? = some w) (hw : w[q0]? = some (a, .inl (E.2 0, z, .inl f))) (hi : vp_in i z) (hw1 : w.set q0 (a, .inl (E.2 0, z, .inl (upd f i.toNatClampNeg x))) = w1) (hcs : cs.set ci w1 = cs1) (hd : decode cc pc = .ok (.iastore, 1)) (kk : G X k n cs1 lv (pc + 1) (st)) : G X k n cs lv pc (.int x :: .int i :: .ref a :: st) := by
  obtain ⟨p, l9, e, R9, s, m, args, below, meth, c, E9, A, Q⟩ := X
  obtain ⟨⟨hx, hb, hml, hown, hts⟩, hK, hA, hr, hlocks, hN, rfl, rfl, rfl⟩ := C
  intro H locs ls hP hD hS hl
  obtain ⟨z9, hz, hz2⟩ := g_flat he hw
  refine va_iast hx hb hK hP hD hS z9 0 hz rfl hi hd (fun H1 locs1 hP1 hD1 hS1 => ?_)
  rw [hz2, hw1, hcs] at hP1 hD1
  exact kk H1 locs1 ls hP1 hD1 hS1 hl
theorem g_zast {X : gX} {cc : ByteArray} {nL : Nat} {own : String} {ret : Option FieldType} {l : Launch} {E : gE} {R : Room} {k n pc : Nat} {cs : List va_W} {lv : List (Nat × Value)} {st : List Value} (C : gC X cc nL own ret l E R) {a z : Nat} {w w1 : va_W} {cs1 : List va_W} {f : Nat → Int32} {i : Int32} {x : Int32} (ci q0 : Nat) (he : cs[ci]? = some w) (hw : w[q0]? = some (a, .inl (E.2 1, z, .inl f))) (hi : vp_in i z) (hw1 : w.set q0 (a, .inl (E.2 1, z, .inl (upd f i.toNatClampNeg (vp_nar .boolean x)))) = w1) (hcs : cs.set ci w1 = cs1) (hd : decode cc pc = .ok (.bastore, 1)) (kk : G X k n cs1 lv (pc + 1) (st)) : G X k n cs lv pc (.int x :: .int i :: .ref a :: st) := by
  obtain ⟨p, l9, e, R9, s, m, args, below, meth, c, E9, A, Q⟩ := X
  obtain ⟨⟨hx, hb, hml, hown, hts⟩, hK, hA, hr, hlocks, hN, rfl, rfl, rfl⟩ := C
  intro H locs ls hP hD hS hl
  obtain ⟨z9, hz, hz2⟩ := g_flat he hw
  refine va_zast hx hb hK hP hD hS z9 1 hz rfl hi hd (fun H1 locs1 hP1 hD1 hS1 => ?_)
  rw [hz2, hw1, hcs] at hP1 hD1
  exact kk H1 locs1 ls hP1 hD1 hS1 hl
theorem g_cast {X : gX} {cc : ByteArray} {nL : Nat} {own : String} {ret : Option FieldType} {l : Launch} {E : gE} {R : Room} {k n pc : Nat} {cs : List va_W} {lv : List (Nat × Value)} {st : List Value} (C : gC X cc nL own ret l E R) {a z : Nat} {w w1 : va_W} {cs1 : List va_W} {f : Nat → Int32} {i : Int32} {x : Int32} (ci q0 : Nat) (he : cs[ci]? = some w) (hw : w[q0]? = some (a, .inl (E.2 2, z, .inl f))) (hi : vp_in i z) (hw1 : w.set q0 (a, .inl (E.2 2, z, .inl (upd f i.toNatClampNeg (vp_nar .char x)))) = w1) (hcs : cs.set ci w1 = cs1) (hd : decode cc pc = .ok (.castore, 1)) (kk : G X k n cs1 lv (pc + 1) (st)) : G X k n cs lv pc (.int x :: .int i :: .ref a :: st) := by
  obtain ⟨p, l9, e, R9, s, m, args, below, meth, c, E9, A, Q⟩ := X
  obtain ⟨⟨hx, hb, hml, hown, hts⟩, hK, hA, hr, hlocks, hN, rfl, rfl, rfl⟩ := C
  intro H locs ls hP hD hS hl
  obtain ⟨z9, hz, hz2⟩ := g_flat he hw
  refine va_cast hx hb hK hP hD hS z9 2 hz rfl hi hd (fun H1 locs1 hP1 hD1 hS1 => ?_)
  rw [hz2, hw1, hcs] at hP1 hD1
  exact kk H1 locs1 ls hP1 hD1 hS1 hl
theorem g_alen0 {X : gX} {cc : ByteArray} {nL : Nat} {own : String} {ret : Option FieldType} {l : Launch} {E : gE} {R : Room} {k n pc : Nat} {cs : List va_W} {lv : List (Nat × Value)} {st : List Value} (C : gC X cc nL own ret l E R) {a : Nat} {w : va_W} {x : vp_A} {v : Int32} (ci q0 : Nat) (he : cs[ci]? = some w) (hw : w[q0]? = some (a, .inl (E.2 0, x))) (hv : Int32.ofNat x.1 = v) (hd : decode cc pc = .ok (.arraylength, 1)) (kk : G X k n cs lv (pc + 1) (.int v :: st)) : G X k n cs lv pc (.ref a :: st) := by
  obtain ⟨p, l9, e, R9, s, m, args, below, meth, c, E9, A, Q⟩ := X
  obtain ⟨⟨hx, hb, hml, hown, hts⟩, hK, hA, hr, hlocks, hN, rfl, rfl, rfl⟩ := C
  intro H locs ls hP hD hS hl
  obtain ⟨z, hz, -⟩ := g_flat he hw
  exact va_alen hx hb hK hP z 0 hz rfl hv hd (kk H locs ls hP hD hS hl)
theorem g_alen1 {X : gX} {cc : ByteArray} {nL : Nat} {own : String} {ret : Option FieldType} {l : Launch} {E : gE} {R : Room} {k n pc : Nat} {cs : List va_W} {lv : List (Nat × Value)} {st : List Value} (C : gC X cc nL own ret l E R) {a : Nat} {w : va_W} {x : vp_A} {v : Int32} (ci q0 : Nat) (he : cs[ci]? = some w) (hw : w[q0]? = some (a, .inl (E.2 1, x))) (hv : Int32.ofNat x.1 = v) (hd : decode cc pc = .ok (.arraylength, 1)) (kk : G X k n cs lv (pc + 1) (.int v :: st)) : G X k n cs lv pc (.ref a :: st) := by
  obtain ⟨p, l9, e, R9, s, m, args, below, meth, c, E9, A, Q⟩ := X
  obtain ⟨⟨hx, hb, hml, hown, hts⟩, hK, hA, hr, hlocks, hN, rfl, rfl, rfl⟩ := C
  intro H locs ls hP hD hS hl
  obtain ⟨z, hz, -⟩ := g_flat he hw
  exact va_alen hx hb hK hP z 1 hz rfl hv hd (kk H locs ls hP hD hS hl)
theorem g_alen2 {X : gX} {cc : ByteArray} {nL : Nat} {own : String} {ret : Option FieldType} {l : Launch} {E : gE} {R : Room} {k n pc : Nat} {cs : List va_W} {lv : List (Nat × Value)} {st : List Value} (C : gC X cc nL own ret l E R) {a : Nat} {w : va_W} {x : vp_A} {v : Int32} (ci q0 : Nat) (he : cs[ci]? = some w) (hw : w[q0]? = some (a, .inl (E.2 2, x))) (hv : Int32.ofNat x.1 = v) (hd : decode cc pc = .ok (.arraylength, 1)) (kk : G X k n cs lv (pc + 1) (.int v :: st)) : G X k n cs lv pc (.ref a :: st) := by
  obtain ⟨p, l9, e, R9, s, m, args, below, meth, c, E9, A, Q⟩ := X
  obtain ⟨⟨hx, hb, hml, hown, hts⟩, hK, hA, hr, hlocks, hN, rfl, rfl, rfl⟩ := C
  intro H locs ls hP hD hS hl
  obtain ⟨z, hz, -⟩ := g_flat he hw
  exact va_alen hx hb hK hP z 2 hz rfl hv hd (kk H locs ls hP hD hS hl)
theorem g_ialdn {X : gX} {cc : ByteArray} {nL : Nat} {own : String} {ret : Option FieldType} {l : Launch} {E : gE} {R : Room} {k n pc : Nat} {cs : List va_W} {lv : List (Nat × Value)} {st : List Value} (C : gC X cc nL own ret l E R) {a z : Nat} {w : va_W} {f : Nat → Int32} {x : Int32} (ci q0 i : Nat) (he : cs[ci]? = some w) (hw : w[q0]? = some (a, .inl (E.2 0, z, .inl f))) (hi : x = nI i) (hlt : i < z) (hz : z < 2 ^ 31) (hd : decode cc pc = .ok (.iaload, 1)) (kk : G X k n cs lv (pc + 1) (.int (f i) :: st)) : G X k n cs lv pc (.int x :: .ref a :: st) := by
  subst hi
  refine g_iald C ci q0 he hw (vp_in_nI hlt hz) hd ?_
  rw [nI_clamp (Nat.lt_trans hlt hz)]
  exact kk
theorem g_zaldn {X : gX} {cc : ByteArray} {nL : Nat} {own : String} {ret : Option FieldType} {l : Launch} {E : gE} {R : Room} {k n pc : Nat} {cs : List va_W} {lv : List (Nat × Value)} {st : List Value} (C : gC X cc nL own ret l E R) {a z : Nat} {w : va_W} {f : Nat → Int32} {x : Int32} (ci q0 i : Nat) (he : cs[ci]? = some w) (hw : w[q0]? = some (a, .inl (E.2 1, z, .inl f))) (hi : x = nI i) (hlt : i < z) (hz : z < 2 ^ 31) (hd : decode cc pc = .ok (.baload, 1)) (kk : G X k n cs lv (pc + 1) (.int (f i) :: st)) : G X k n cs lv pc (.int x :: .ref a :: st) := by
  subst hi
  refine g_zald C ci q0 he hw (vp_in_nI hlt hz) hd ?_
  rw [nI_clamp (Nat.lt_trans hlt hz)]
  exact kk
theorem g_caldn {X : gX} {cc : ByteArray} {nL : Nat} {own : String} {ret : Option FieldType} {l : Launch} {E : gE} {R : Room} {k n pc : Nat} {cs : List va_W} {lv : List (Nat × Value)} {st : List Value} (C : gC X cc nL own ret l E R) {a z : Nat} {w : va_W} {f : Nat → Int32} {x : Int32} (ci q0 i : Nat) (he : cs[ci]? = some w) (hw : w[q0]? = some (a, .inl (E.2 2, z, .inl f))) (hi : x = nI i) (hlt : i < z) (hz : z < 2 ^ 31) (hd : decode cc pc = .ok (.caload, 1)) (kk : G X k n cs lv (pc + 1) (.int (f i) :: st)) : G X k n cs lv pc (.int x :: .ref a :: st) := by
  subst hi
  refine g_cald C ci q0 he hw (vp_in_nI hlt hz) hd ?_
  rw [nI_clamp (Nat.lt_trans hlt hz)]
  exact kk
theorem g_iastn {X : gX} {cc : ByteArray} {nL : Nat} {own : String} {ret : Option FieldType} {l : Launch} {E : gE} {R : Room} {k n pc : Nat} {cs : List va_W} {lv : List (Nat × Value)} {st : List Value} (C : gC X cc nL own ret l E R) {a z : Nat} {w w1 : va_W} {cs1 : List va_W} {f : Nat → Int32} {x : Int32} {v : Int32} (ci q0 i : Nat) (he : cs[ci]? = some w) (hw : w[q0]? = some (a, .inl (E.2 0, z, .inl f))) (hi : x = nI i) (hlt : i < z) (hz : z < 2 ^ 31) (hw1 : w.set q0 (a, .inl (E.2 0, z, .inl (upd f i v))) = w1) (hcs : cs.set ci w1 = cs1) (hd : decode cc pc = .ok (.iastore, 1)) (kk : G X k n cs1 lv (pc + 1) st) : G X k n cs lv pc (.int v :: .int x :: .ref a :: st) := by
  subst hi
  refine g_iast C ci q0 he hw (vp_in_nI hlt hz) ?_ hcs hd kk
  rw [nI_clamp (Nat.lt_trans hlt hz)]
  exact hw1
theorem g_zastn {X : gX} {cc : ByteArray} {nL : Nat} {own : String} {ret : Option FieldType} {l : Launch} {E : gE} {R : Room} {k n pc : Nat} {cs : List va_W} {lv : List (Nat × Value)} {st : List Value} (C : gC X cc nL own ret l E R) {a z : Nat} {w w1 : va_W} {cs1 : List va_W} {f : Nat → Int32} {x : Int32} {v : Int32} (ci q0 i : Nat) (he : cs[ci]? = some w) (hw : w[q0]? = some (a, .inl (E.2 1, z, .inl f))) (hi : x = nI i) (hlt : i < z) (hz : z < 2 ^ 31) (hw1 : w.set q0 (a, .inl (E.2 1, z, .inl (upd f i (vp_nar .boolean v)))) = w1) (hcs : cs.set ci w1 = cs1) (hd : decode cc pc = .ok (.bastore, 1)) (kk : G X k n cs1 lv (pc + 1) st) : G X k n cs lv pc (.int v :: .int x :: .ref a :: st) := by
  subst hi
  refine g_zast C ci q0 he hw (vp_in_nI hlt hz) ?_ hcs hd kk
  rw [nI_clamp (Nat.lt_trans hlt hz)]
  exact hw1
theorem g_castn {X : gX} {cc : ByteArray} {nL : Nat} {own : String} {ret : Option FieldType} {l : Launch} {E : gE} {R : Room} {k n pc : Nat} {cs : List va_W} {lv : List (Nat × Value)} {st : List Value} (C : gC X cc nL own ret l E R) {a z : Nat} {w w1 : va_W} {cs1 : List va_W} {f : Nat → Int32} {x : Int32} {v : Int32} (ci q0 i : Nat) (he : cs[ci]? = some w) (hw : w[q0]? = some (a, .inl (E.2 2, z, .inl f))) (hi : x = nI i) (hlt : i < z) (hz : z < 2 ^ 31) (hw1 : w.set q0 (a, .inl (E.2 2, z, .inl (upd f i (vp_nar .char v)))) = w1) (hcs : cs.set ci w1 = cs1) (hd : decode cc pc = .ok (.castore, 1)) (kk : G X k n cs1 lv (pc + 1) st) : G X k n cs lv pc (.int v :: .int x :: .ref a :: st) := by
  subst hi
  refine g_cast C ci q0 he hw (vp_in_nI hlt hz) ?_ hcs hd kk
  rw [nI_clamp (Nat.lt_trans hlt hz)]
  exact hw1
theorem g_mmax {X : gX} {cc : ByteArray} {nL : Nat} {own : String} {ret : Option FieldType} {l : Launch} {E : gE} {R : Room} {k n pc : Nat} {cs : List va_W} {lv : List (Nat × Value)} {st : List Value} (C : gC X cc nL own ret l E R) {index : Nat} {x y : Int32} (hlink : Cond.methodLink own index Lib.Math.max.name ∈ gU) (hstat : Cond.static Lib.Math.max.name ∈ gU) (hini : Cond.initialized "java/lang/Math" ∈ gU) (hcode : Cond.code Lib.Math.max.name Lib.Math.max.code 2 (some .int) ∈ gU) (hf : 1 ≤ R.frames) (hlo : (st.map fun v => v.category).sum + 13 ≤ R.locals) (hkn : k ≤ R.cells ∧ n ≤ R.slots) (hd : decode cc pc = .ok (.invokestatic index, 3)) (kk : G X k n cs lv (pc + 3) (.int (if x < y then y else x) :: st)) : G X k n cs lv pc (.int y :: .int x :: st) := by
  obtain ⟨p, l9, e, R9, s, m, args, below, meth, c, E9, A, Q⟩ := X
  obtain ⟨⟨hx, hb, hml, hown, hts⟩, hK, hA, hr, hlocks, hN, rfl, rfl, rfl⟩ := C
  intro H locs ls hP hD hS hl
  exact va_mmax hx hb (by rw [← hl.1]) hown (hts _ hlink) (hts _ hstat) (hts _ hini) (hts _ hcode) hf hlo hkn.1 hkn.2 hd (kk H locs ls hP hD hS hl)
theorem g_mmin {X : gX} {cc : ByteArray} {nL : Nat} {own : String} {ret : Option FieldType} {l : Launch} {E : gE} {R : Room} {k n pc : Nat} {cs : List va_W} {lv : List (Nat × Value)} {st : List Value} (C : gC X cc nL own ret l E R) {index : Nat} {x y : Int32} (hlink : Cond.methodLink own index Lib.Math.min.name ∈ gU) (hstat : Cond.static Lib.Math.min.name ∈ gU) (hini : Cond.initialized "java/lang/Math" ∈ gU) (hcode : Cond.code Lib.Math.min.name Lib.Math.min.code 2 (some .int) ∈ gU) (hf : 1 ≤ R.frames) (hlo : (st.map fun v => v.category).sum + 13 ≤ R.locals) (hkn : k ≤ R.cells ∧ n ≤ R.slots) (hd : decode cc pc = .ok (.invokestatic index, 3)) (kk : G X k n cs lv (pc + 3) (.int (if y < x then y else x) :: st)) : G X k n cs lv pc (.int y :: .int x :: st) := by
  obtain ⟨p, l9, e, R9, s, m, args, below, meth, c, E9, A, Q⟩ := X
  obtain ⟨⟨hx, hb, hml, hown, hts⟩, hK, hA, hr, hlocks, hN, rfl, rfl, rfl⟩ := C
  intro H locs ls hP hD hS hl
  exact va_mmin hx hb (by rw [← hl.1]) hown (hts _ hlink) (hts _ hstat) (hts _ hini) (hts _ hcode) hf hlo hkn.1 hkn.2 hd (kk H locs ls hP hD hS hl)
theorem g_i2d {X : gX} {cc : ByteArray} {nL : Nat} {own : String} {ret : Option FieldType} {l : Launch} {E : gE} {R : Room} {k n pc : Nat} {cs : List va_W} {lv : List (Nat × Value)} {st : List Value} (C : gC X cc nL own ret l E R) {x : Int32} (hd : decode cc pc = .ok (.i2d, 1)) (kk : G X k n cs lv (pc + 1) (.double (FP.i2d x) :: st)) : G X k n cs lv pc (.int x :: st) := by
  obtain ⟨p, l9, e, R9, s, m, args, below, meth, c, E9, A, Q⟩ := X
  obtain ⟨⟨hx, hb, hml, hown, hts⟩, hK, hA, hr, hlocks, hN, rfl, rfl, rfl⟩ := C
  intro H locs ls hP hD hS hl
  exact lv_i2d hx hb hd (kk H locs ls hP hD hS hl)
theorem g_d2l {X : gX} {cc : ByteArray} {nL : Nat} {own : String} {ret : Option FieldType} {l : Launch} {E : gE} {R : Room} {k n pc : Nat} {cs : List va_W} {lv : List (Nat × Value)} {st : List Value} (C : gC X cc nL own ret l E R) {x : UInt64} (hd : decode cc pc = .ok (.d2l, 1)) (kk : G X k n cs lv (pc + 1) (.long (FP.d2l x) :: st)) : G X k n cs lv pc (.double x :: st) := by
  obtain ⟨p, l9, e, R9, s, m, args, below, meth, c, E9, A, Q⟩ := X
  obtain ⟨⟨hx, hb, hml, hown, hts⟩, hK, hA, hr, hlocks, hN, rfl, rfl, rfl⟩ := C
  intro H locs ls hP hD hS hl
  exact lv_d2l hx hb hd (kk H locs ls hP hD hS hl)
theorem g_ddiv {X : gX} {cc : ByteArray} {nL : Nat} {own : String} {ret : Option FieldType} {l : Launch} {E : gE} {R : Room} {k n pc : Nat} {cs : List va_W} {lv : List (Nat × Value)} {st : List Value} (C : gC X cc nL own ret l E R) {x y : UInt64} (hd : decode cc pc = .ok (.ddiv, 1)) (hne : vf_n64 (FP.ddiv x y)) (kk : G X k n cs lv (pc + 1) (.double (FP.ddiv x y) :: st)) : G X k n cs lv pc (.double y :: .double x :: st) := by
  obtain ⟨p, l9, e, R9, s, m, args, below, meth, c, E9, A, Q⟩ := X
  obtain ⟨⟨hx, hb, hml, hown, hts⟩, hK, hA, hr, hlocks, hN, rfl, rfl, rfl⟩ := C
  intro H locs ls hP hD hS hl
  exact lv_ddiv hx hb hd hne (kk H locs ls hP hD hS hl)
theorem g_dmul {X : gX} {cc : ByteArray} {nL : Nat} {own : String} {ret : Option FieldType} {l : Launch} {E : gE} {R : Room} {k n pc : Nat} {cs : List va_W} {lv : List (Nat × Value)} {st : List Value} (C : gC X cc nL own ret l E R) {x y : UInt64} (hd : decode cc pc = .ok (.dmul, 1)) (hne : vf_n64 (FP.dmul x y)) (kk : G X k n cs lv (pc + 1) (.double (FP.dmul x y) :: st)) : G X k n cs lv pc (.double y :: .double x :: st) := by
  obtain ⟨p, l9, e, R9, s, m, args, below, meth, c, E9, A, Q⟩ := X
  obtain ⟨⟨hx, hb, hml, hown, hts⟩, hK, hA, hr, hlocks, hN, rfl, rfl, rfl⟩ := C
  intro H locs ls hP hD hS hl
  exact lv_dmul hx hb hd hne (kk H locs ls hP hD hS hl)
theorem g_dsub {X : gX} {cc : ByteArray} {nL : Nat} {own : String} {ret : Option FieldType} {l : Launch} {E : gE} {R : Room} {k n pc : Nat} {cs : List va_W} {lv : List (Nat × Value)} {st : List Value} (C : gC X cc nL own ret l E R) {x y : UInt64} (hd : decode cc pc = .ok (.dsub, 1)) (hne : vf_n64 (FP.dsub x y)) (kk : G X k n cs lv (pc + 1) (.double (FP.dsub x y) :: st)) : G X k n cs lv pc (.double y :: .double x :: st) := by
  obtain ⟨p, l9, e, R9, s, m, args, below, meth, c, E9, A, Q⟩ := X
  obtain ⟨⟨hx, hb, hml, hown, hts⟩, hK, hA, hr, hlocks, hN, rfl, rfl, rfl⟩ := C
  intro H locs ls hP hD hS hl
  exact lv_dsub hx hb hd hne (kk H locs ls hP hD hS hl)
theorem g_dcmp {X : gX} {cc : ByteArray} {nL : Nat} {own : String} {ret : Option FieldType} {l : Launch} {E : gE} {R : Room} {k n pc : Nat} {cs : List va_W} {lv : List (Nat × Value)} {st : List Value} (C : gC X cc nL own ret l E R) {x y : UInt64} {o : CmpOp} (hd : decode cc pc = .ok (.dcmp o, 1)) (kk : G X k n cs lv (pc + 1) (.int (Op.cmpValue (FP.dcmp x y) o) :: st)) : G X k n cs lv pc (.double y :: .double x :: st) := by
  obtain ⟨p, l9, e, R9, s, m, args, below, meth, c, E9, A, Q⟩ := X
  obtain ⟨⟨hx, hb, hml, hown, hts⟩, hK, hA, hr, hlocks, hN, rfl, rfl, rfl⟩ := C
  intro H locs ls hP hD hS hl
  exact lv_dcmp hx hb hd (kk H locs ls hP hD hS hl)
theorem g_copyi {X : gX} {cc : ByteArray} {nL : Nat} {own : String} {ret : Option FieldType} {l : Launch} {E : gE} {R : Room} {k n pc : Nat} {cs : List va_W} {lv : List (Nat × Value)} {st : List Value} (C : gC X cc nL own ret l E R) {index a a0 z : Nat} {w w9 w1 : va_W} {cs1 : List va_W} {f g : Nat → Int32} {L : Int32} (c0 c1 : Nat) (he0 : cs[c0]? = some w9) (hw0 : w9[0]? = some (a0, .inl (E.2 0, z, .inl f))) (he : cs[c1]? = some w) (hw : w[0]? = some (a, .inl (E.2 0, z, .inl g))) (hL : L = nI z) (hz : z < 2 ^ 31) (hlink : Cond.methodLink own index arraycopyName ∈ gU) (hnat : Cond.native arraycopyName ∈ gU) (hstat : Cond.static arraycopyName ∈ gU) (hini : Cond.initialized "java/lang/System" ∈ gU) (hf : 1 ≤ R.frames) (hlo : (st.map fun v => v.category).sum + 18 ≤ R.locals) (hw1 : w.set 0 (a, .inl (E.2 0, z, .inl (va_cpy f g 0 0 z))) = w1) (hcs : cs.set c1 w1 = cs1) (hd : decode cc pc = .ok (.invokestatic index, 3)) (kk : G X k n cs1 lv (pc + 3) (st)) : G X k n cs lv pc (.int L :: .int 0 :: .ref a :: .int 0 :: .ref a0 :: st) := by
  obtain ⟨p, l9, e, R9, s, m, args, below, meth, c, E9, A, Q⟩ := X
  obtain ⟨⟨hx, hb, hml, hown, hts⟩, hK, hA, hr, hlocks, hN, rfl, rfl, rfl⟩ := C
  intro H locs ls hP hD hS hl
  subst hL
  obtain ⟨z0, hz0, -⟩ := g_flat he0 hw0
  obtain ⟨z1, hz1, hz2⟩ := g_flat he hw
  have e0 : (0 : Int32).toNatClampNeg = 0 := by decide
  have ez : (nI z).toNatClampNeg = z := nI_clamp hz
  refine va_copyi hx hb (by rw [← hl.1]) hown (hts _ hlink) (hts _ hnat) (hts _ hstat) (hts _ hini) hK hP hD hS z0 z1 0 0 hz0 hz1 rfl rfl rfl (by decide) (by decide) (nI_pos hz) (by rw [e0, ez]; omega) (by rw [e0, ez]; omega) (fun i _ => rfl) hf hlo hd (fun H1 locs1 hP1 hD1 hS1 => ?_)
  rw [e0, ez] at hP1 hD1
  rw [hz2, hw1, hcs] at hP1 hD1
  exact kk H1 locs1 ls hP1 hD1 hS1 hl
theorem g_tblK {X : gX} {cc : ByteArray} {nL : Nat} {own : String} {ret : Option FieldType} {l : Launch} {E : gE} {R : Room} {k n pc : Nat} {cs : List va_W} {lv : List (Nat × Value)} {st : List Value} (C : gC X cc nL own ret l E R) {dflt lo hi : Int} {offs : Array Int} {len : Nat} {x kv : Int32} {off : Int} (tgt : Nat) (hd : decode cc pc = .ok (.tableswitch dflt lo hi offs, len)) (hx9 : x = kv) (h1 : ¬ kv.toInt < lo) (h2 : ¬ hi < kv.toInt) (ho : offs[(kv.toInt - lo).toNat]? = some off) (ht : (pc : Int) + off = (tgt : Int)) (kk : G X k n cs lv (tgt) (st)) : G X k n cs lv pc (.int x :: st) := by
  obtain ⟨p, l9, e, R9, s, m, args, below, meth, c, E9, A, Q⟩ := X
  obtain ⟨⟨hx, hb, hml, hown, hts⟩, hK, hA, hr, hlocks, hN, rfl, rfl, rfl⟩ := C
  intro H locs ls hP hD hS hl
  subst hx9
  exact lv_tableIn hx hb hd h1 h2 ho ht (kk H locs ls hP hD hS hl)
theorem g_tblD {X : gX} {cc : ByteArray} {nL : Nat} {own : String} {ret : Option FieldType} {l : Launch} {E : gE} {R : Room} {k n pc : Nat} {cs : List va_W} {lv : List (Nat × Value)} {st : List Value} (C : gC X cc nL own ret l E R) {dflt lo hi : Int} {offs : Array Int} {len : Nat} {x : Int32} (tgt : Nat) (ks : List Int32) (hd : decode cc pc = .ok (.tableswitch dflt lo hi offs, len)) (hne : ∀ q ∈ ks, ¬ x = q) (hsz : (offs.size : Int) = hi - lo + 1) (hdec : ∀ j : Nat, j < offs.size → offs[j]? = some dflt ∨ Int32.ofInt (lo + j) ∈ ks) (ht : (pc : Int) + dflt = (tgt : Int)) (kk : G X k n cs lv (tgt) (st)) : G X k n cs lv pc (.int x :: st) := by
  obtain ⟨p, l9, e, R9, s, m, args, below, meth, c, E9, A, Q⟩ := X
  obtain ⟨⟨hx, hb, hml, hown, hts⟩, hK, hA, hr, hlocks, hN, rfl, rfl, rfl⟩ := C
  intro H locs ls hP hD hS hl
  by_cases h : x.toInt < lo ∨ hi < x.toInt
  · exact lv_tableOut hx hb hd h ht (kk H locs ls hP hD hS hl)
  · have h1 : ¬ x.toInt < lo := fun z => h (Or.inl z)
    have h2 : ¬ hi < x.toInt := fun z => h (Or.inr z)
    rcases hdec (x.toInt - lo).toNat (by omega) with h3 | h3
    · exact lv_tableIn hx hb hd h1 h2 h3 ht (kk H locs ls hP hD hS hl)
    · refine absurd ?_ (hne _ h3)
      rw [show lo + ((x.toInt - lo).toNat : Int) = x.toInt by omega, Int32.ofInt_toInt]
theorem g_lookK {X : gX} {cc : ByteArray} {nL : Nat} {own : String} {ret : Option FieldType} {l : Launch} {E : gE} {R : Room} {k n pc : Nat} {cs : List va_W} {lv : List (Nat × Value)} {st : List Value} (C : gC X cc nL own ret l E R) {dflt : Int} {ps : Array (Int × Int)} {len : Nat} {x kv : Int32} {off : Int} (tgt : Nat) (hd : decode cc pc = .ok (.lookupswitch dflt ps, len)) (hx9 : x = kv) (hp : (ps.toList.zip (ps.toList.drop 1)).all (fun (a, next) => a.1 < next.1) = true) (ho : Op.lookupswitch.offset ps.toList dflt kv.toInt = off) (ht : (pc : Int) + off = (tgt : Int)) (kk : G X k n cs lv (tgt) (st)) : G X k n cs lv pc (.int x :: st) := by
  obtain ⟨p, l9, e, R9, s, m, args, below, meth, c, E9, A, Q⟩ := X
  obtain ⟨⟨hx, hb, hml, hown, hts⟩, hK, hA, hr, hlocks, hN, rfl, rfl, rfl⟩ := C
  intro H locs ls hP hD hS hl
  subst hx9
  exact lv_lookup hx hb hd hp ho ht (kk H locs ls hP hD hS hl)
theorem g_lookD {X : gX} {cc : ByteArray} {nL : Nat} {own : String} {ret : Option FieldType} {l : Launch} {E : gE} {R : Room} {k n pc : Nat} {cs : List va_W} {lv : List (Nat × Value)} {st : List Value} (C : gC X cc nL own ret l E R) {dflt : Int} {ps : Array (Int × Int)} {len : Nat} {x : Int32} (tgt : Nat) (hd : decode cc pc = .ok (.lookupswitch dflt ps, len)) (hp : (ps.toList.zip (ps.toList.drop 1)).all (fun (a, next) => a.1 < next.1) = true) (ho : Op.lookupswitch.offset ps.toList dflt x.toInt = dflt) (ht : (pc : Int) + dflt = (tgt : Int)) (kk : G X k n cs lv (tgt) (st)) : G X k n cs lv pc (.int x :: st) := by
  obtain ⟨p, l9, e, R9, s, m, args, below, meth, c, E9, A, Q⟩ := X
  obtain ⟨⟨hx, hb, hml, hown, hts⟩, hK, hA, hr, hlocks, hN, rfl, rfl, rfl⟩ := C
  intro H locs ls hP hD hS hl
  exact lv_lookup hx hb hd hp ho ht (kk H locs ls hP hD hS hl)
theorem g_irem {X : gX} {cc : ByteArray} {nL : Nat} {own : String} {ret : Option FieldType} {l : Launch} {E : gE} {R : Room} {k n pc : Nat} {cs : List va_W} {lv : List (Nat × Value)} {st : List Value} (C : gC X cc nL own ret l E R) {x y : Int32} (hd : decode cc pc = .ok (.irem, 1)) (hne : ¬ y = 0) (kk : G X k n cs lv (pc + 1) (.int (x - x / y * y) :: st)) : G X k n cs lv pc (.int y :: .int x :: st) := by
  obtain ⟨p, l9, e, R9, s, m, args, below, meth, c, E9, A, Q⟩ := X
  obtain ⟨⟨hx, hb, hml, hown, hts⟩, hK, hA, hr, hlocks, hN, rfl, rfl, rfl⟩ := C
  intro H locs ls hP hD hS hl
  exact lv_irem hx hb hd hne (kk H locs ls hP hD hS hl)
theorem g_aaldn {X : gX} {cc : ByteArray} {nL : Nat} {own : String} {ret : Option FieldType} {l : Launch} {E : gE} {R : Room} {k n pc : Nat} {cs : List va_W} {lv : List (Nat × Value)} {st : List Value} (C : gC X cc nL own ret l E R) {a b z : Nat} {w : va_W} {f : Nat → Option Nat} {x : Int32} (ci q0 i : Nat) (he : cs[ci]? = some w) (hw : w[q0]? = some (a, .inl (E.2 4, z, .inr (.inr (.inr (.inr f)))))) (hi : x = nI i) (hlt : i < z) (hz : z < 2 ^ 31) (hf : f i = some b) (hd : decode cc pc = .ok (.aaload, 1)) (kk : G X k n cs lv (pc + 1) (.ref b :: st)) : G X k n cs lv pc (.int x :: .ref a :: st) := by
  obtain ⟨p, l9, e, R9, s, m, args, below, meth, c, E9, A, Q⟩ := X
  obtain ⟨⟨hx, hb, hml, hown, hts⟩, hK, hA, hr, hlocks, hN, rfl, rfl, rfl⟩ := C
  intro H locs ls hP hD hS hl
  subst hi
  obtain ⟨z9, hz9, -⟩ := g_flat he hw
  refine va_aldq hx hb hK hP z9 4 hz9 rfl (vp_in_nI hlt hz) hd ?_
  rw [nI_clamp (Nat.lt_trans hlt hz), hf]
  exact kk H locs ls hP hD hS hl
theorem g_sub {X : gX} {k n pc : Nat} {cs : List va_W} {lv : List (Nat × Value)} {st : List Value} (is : List Nat) {lv1 : List (Nat × Value)} (h : lv_pick lv is = lv1) (kk : G X k n cs lv1 pc st) : G X k n cs lv pc st := by
  obtain ⟨p, l9, e, R9, s, m, args, below, meth, c, E9, A, Q⟩ := X
  intro H locs ls hP hD hS hl
  exact kk H locs ls hP hD hS (lv_sub hl is h)
theorem g_part {X : gX} {k n pc : Nat} {cs : List va_W} {lv : List (Nat × Value)} {st : List Value} {cs1 : List va_W} (h : cs.flatten = cs1.flatten) (kk : G X k n cs1 lv pc st) : G X k n cs lv pc st := by
  obtain ⟨p, l9, e, R9, s, m, args, below, meth, c, E9, A, Q⟩ := X
  intro H locs ls hP hD hS hl
  exact kk H locs ls (h ▸ hP) (h ▸ hD) hS hl
theorem va_at_rowc {D : va_G} {cl : List vw_C} {a : Nat} {c : ClassId} {n : Nat} {f f1 : Nat → Int32} {H : Heap} (h : ∀ j, j < n → f j = f1 j) (hP : va_at D cl (a, .inl (c, n, .inl f)) H) : va_at D cl (a, .inl (c, n, .inl f1)) H := by
  have e : vp_cell c (n, .inl f) = vp_cell c (n, .inl f1) := by
    rw [vp_cell_i, vp_cell_i, arrV, arrV]
    congr 1
    exact Array.ext (by simp) (fun i h1 h2 => by simp at h1; simp [h i h1])
  show H[a]? = some (vp_cell c (n, .inl f1))
  rw [← e]
  exact hP
theorem g_rowc {X : gX} {k n pc : Nat} {cs : List va_W} {lv : List (Nat × Value)} {st : List Value} {a : Nat} {c : ClassId} {z : Nat} {f f1 : Nat → Int32} {w w1 : va_W} {cs1 : List va_W} (ci q0 : Nat) (he : cs[ci]? = some w) (hw : w[q0]? = some (a, .inl (c, z, .inl f))) (h : ∀ j, j < z → f j = f1 j) (hw1 : w.set q0 (a, .inl (c, z, .inl f1)) = w1) (hcs : cs.set ci w1 = cs1) (kk : G X k n cs1 lv pc st) : G X k n cs lv pc st := by
  obtain ⟨p, l9, e, R9, s, m, args, below, meth, c9, E9, A, Q⟩ := X
  intro H locs ls hP hD hS hl
  obtain ⟨z9, hz, hz2⟩ := g_flat he hw
  have hP2 : va_P E9.1 vwCl (cs.flatten.set z9 (a, .inl (c, z, .inl f1))) H := by
    intro i q hq
    rw [List.getElem?_set] at hq
    split at hq
    · split at hq
      · cases hq
        exact va_at_rowc h (hP z9 _ hz)
      · cases hq
    · exact hP i q hq
  have hD2 : va_D A (cs.flatten.set z9 (a, .inl (c, z, .inl f1))) := hD.set hz
  rw [hz2, hw1, hcs] at hP2 hD2
  exact kk H locs ls hP2 hD2 hS hl
theorem g_widen {X : gX} {k n pc : Nat} {cs : List va_W} {lv : List (Nat × Value)} {st : List Value} {k1 n1 : Nat} (h1 : k ≤ k1) (h2 : n ≤ n1) (kk : G X k1 n1 cs lv pc st) : G X k n cs lv pc st := by
  obtain ⟨p, l9, e, R9, s, m, args, below, meth, c, E9, A, Q⟩ := X
  intro H locs ls hP hD hS hl
  exact W.widen h1 h2 (kk H locs ls hP hD hS hl)
theorem g_lv {X : gX} {k n pc : Nat} {cs : List va_W} {lv : List (Nat × Value)} {st : List Value} {lv1 : List (Nat × Value)} (h : lv = lv1) (kk : G X k n cs lv1 pc st) : G X k n cs lv pc st := by rw [h]; exact kk
theorem g_st {X : gX} {k n pc : Nat} {cs : List va_W} {lv : List (Nat × Value)} {st : List Value} {st1 : List Value} (h : st = st1) (kk : G X k n cs lv pc st1) : G X k n cs lv pc st := by rw [h]; exact kk
theorem g_cs {X : gX} {k n pc : Nat} {cs : List va_W} {lv : List (Nat × Value)} {st : List Value} {cs1 : List va_W} (h : cs = cs1) (kk : G X k n cs1 lv pc st) : G X k n cs lv pc st := by rw [h]; exact kk
