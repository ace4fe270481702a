/-! ===== the model: what its methods ask of its state ===== -/
theorem nx_add {x y : Int32} {a b : Nat} (hx : x = nI a) (hy : y = nI b) : x + y = nI (a + b) := by rw [hx, hy, nI_add]
theorem nx_mul {x y : Int32} {a b : Nat} (hx : x = nI a) (hy : y = nI b) : x * y = nI (a * b) := by rw [hx, hy, pk_mul]
theorem nx_sub {x y : Int32} {a b : Nat} (h : b ≤ a) (hx : x = nI a) (hy : y = nI b) : x - y = nI (a - b) := by rw [hx, hy, pk_sub h]
/-- how many tickets; the text's length; where the reading is; how many orders are read; how many states are saved -/
def cM (μ : BS) : Nat := (μ.2 0 0).toNatClampNeg
def tl (μ : BS) : Nat := (μ.1 2).toNatClampNeg
def ta (μ : BS) : Nat := (μ.1 3).toNatClampNeg
def rm (μ : BS) : Nat := (μ.1 5).toNatClampNeg
def sm (μ : BS) : Nat := (μ.1 1).toNatClampNeg
/-- a row that tells a tracker -/
def vS (f : Nat → Int32) : Prop := (f 0).toNatClampNeg ≤ 20 ∧ f 0 = nI (f 0).toNatClampNeg ∧ ∀ t : Nat, t < 20 → (∃ j : Nat, j < 6 ∧ f (13 + 10 * t + 3) = nI j) ∧ ∃ j : Nat, j < 5 ∧ f (13 + 10 * t + 4) = nI j
def vK (μ : BS) : Prop := vS (μ.2 1) ∧ (∀ r : Nat, r < 6 → vS (fun k => μ.2 2 (213 * r + k))) ∧ (∀ r : Nat, r < 2 → vS (fun k => μ.2 3 (213 * r + k))) ∧ sm μ ≤ 6 ∧ μ.1 1 = nI (sm μ) ∧ ∀ i : Nat, i < 2 → μ.2 4 i = b2i (i2b (μ.2 4 i))
def vL (μ : BS) : Prop := tl μ ≤ 60 ∧ μ.1 2 = nI (tl μ)
def vP (μ : BS) : Prop := ta μ ≤ 60 ∧ μ.1 3 = nI (ta μ) ∧ μ.1 4 = b2i (i2b (μ.1 4)) ∧ rm μ ≤ 31 ∧ μ.1 5 = nI (rm μ) ∧ ∀ k : Nat, k < rm μ → μ.2 6 (3 * k) = 97 → ∃ j : Nat, j < 5 ∧ μ.2 6 (3 * k + 2) = nI j
def vM (μ : BS) : Prop := vS (μ.2 0) ∧ vK μ ∧ vL μ ∧ vP μ
theorem vM_i0 {μ : BS} {v : Int32} (h : vM μ) : vM (sI μ 0 v) := h
theorem vM_e7 {μ : BS} {i : Nat} {v : Int32} (h : vM μ) : vM (sE μ 7 i v) := h
theorem vM_e8 {μ : BS} {i : Nat} {v : Int32} (h : vM μ) : vM (sE μ 8 i v) := h
theorem vM_s {μ : BS} {f : Nat → Int32} (h : vM μ) (hf : vS f) : vM (sA μ 0 f) := ⟨hf, h.2⟩
theorem vS_low {f : Nat → Int32} {i : Nat} {v : Int32} (h : vS f) (h0 : 0 < i) (h1 : i < 13) : vS (upd f i v) := by
  obtain ⟨h2, h3, h4⟩ := h
  have e0 : upd f i v 0 = f 0 := pk_un (by omega)
  refine ⟨by rw [e0]; exact h2, by rw [e0]; exact h3, fun t ht => ?_⟩
  rw [pk_un (show 13 + 10 * t + 3 ≠ i by omega), pk_un (show 13 + 10 * t + 4 ≠ i by omega)]
  exact h4 t ht
theorem vS_lay {f : Nat → Int32} {t w : Nat} {v : Int32} (h : vS f) (hw : w < 10) (h3 : w = 3 → ∃ j : Nat, j < 6 ∧ v = nI j) (h4 : w = 4 → ∃ j : Nat, j < 5 ∧ v = nI j) : vS (upd f (13 + 10 * t + w) v) := by
  obtain ⟨g1, g2, g3⟩ := h
  have e0 : upd f (13 + 10 * t + w) v 0 = f 0 := pk_un (by omega)
  refine ⟨by rw [e0]; exact g1, by rw [e0]; exact g2, fun u hu => ⟨?_, ?_⟩⟩
  · by_cases e : u = t ∧ w = 3
    · obtain ⟨rfl, rfl⟩ := e
      rw [pk_us]
      exact h3 rfl
    · rw [pk_un (by omega)]
      exact (g3 u hu).1
  · by_cases e : u = t ∧ w = 4
    · obtain ⟨rfl, rfl⟩ := e
      rw [pk_us]
      exact h4 rfl
    · rw [pk_un (by omega)]
      exact (g3 u hu).2
theorem vS_inc {f : Nat → Int32} {v : Int32} {c : Nat} (h : vS f) (hc : c ≤ 20) (hv : v = nI c) : vS (upd f 0 v) := by
  obtain ⟨g1, g2, g3⟩ := h
  have e0 : upd f 0 v 0 = nI c := hv
  refine ⟨by rw [e0, nI_clamp (by omega)]; exact hc, by rw [e0, nI_clamp (by omega)], fun t ht => ?_⟩
  rw [pk_un (show 13 + 10 * t + 3 ≠ 0 by omega), pk_un (show 13 + 10 * t + 4 ≠ 0 by omega)]
  exact g3 t ht
theorem vS_congr {f g : Nat → Int32} (h : vS f) (e : ∀ k, k < 213 → g k = f k) : vS g := by
  obtain ⟨g1, g2, g3⟩ := h
  have e0 := e 0 (by omega)
  refine ⟨by rw [e0]; exact g1, by rw [e0]; exact g2, fun t ht => ?_⟩
  rw [e _ (by omega), e _ (by omega)]
  exact g3 t ht
/-- the same but for one row -/
def eqX (k : Nat) (μ ν : BS) : Prop := ν.1 = μ.1 ∧ ∀ j : Nat, j ≠ k → ν.2 j = μ.2 j
theorem eqX_refl (k : Nat) (μ : BS) : eqX k μ μ := ⟨rfl, fun _ _ => rfl⟩
theorem eqX_e {k : Nat} {μ ν : BS} {i : Nat} {v : Int32} (h : eqX k μ ν) : eqX k μ (sE ν k i v) := ⟨h.1, fun j hj => (if_neg hj).trans (h.2 j hj)⟩
theorem vM_x {k : Nat} {μ ν : BS} (h : eqX k μ ν) (hk : 6 < k) (hv : vM μ) : vM ν := by
  obtain ⟨h1, h2⟩ := h
  unfold vM vS vK vL vP tl ta rm sm vS at *
  rw [h1, h2 0 (by omega), h2 1 (by omega), h2 2 (by omega), h2 3 (by omega), h2 4 (by omega), h2 6 (by omega)]
  exact hv
theorem vM_x8 {μ ν : BS} (h : eqX 8 μ ν) (hv : vM μ) : vM ν := vM_x h (by decide) hv
theorem vM_x7 {μ ν : BS} (h : eqX 7 μ ν) (hv : vM μ) : vM ν := vM_x h (by decide) hv

def fX7_thrown (μ : BS) : Int32 :=
  μ.1 0
theorem caX7_thrown : gCalV yX7_thrown cX7_thrown 1 (some .int) 0 := ⟨⟨q6_119, q1_6, by decide +kernel⟩, q6_117, q6_118⟩
set_option maxHeartbeats 4000000 in
set_option maxRecDepth 100000 in
theorem kX7_thrown (l : Launch) (E : gE) (am : Nat → Nat) (μ : BS)   : MC l E yX7_thrown cX7_thrown 1 (some .int) 0 0 [.ref (am 0)] [wM E am μ] (some (.int (fX7_thrown μ))) [wM E am μ] := by
  refine mc_of (by decide +kernel) (Nat.le_of_ble_eq_true rfl) (lv := [(0, .ref (am 0))]) rfl (fun X C hE => ?_)
  refine g_aload_n C dX7_thrown_0 rfl 0 rfl ?_
  refine g_getf C (v := .int (μ.1 0)) (T := TX7) (N := 15) 0 0 rfl rfl rfl inX7 0 (by decide) q6_70 rfl dX7_thrown_1 ?_
  have e_1 : fX7_thrown μ = μ.1 0 := by rw [fX7_thrown]
  exact g_iret C hE (by rw [e_1]) rfl dX7_thrown_4
def fX7_fails (μ : BS) (z : Int32) : Int32 × BS :=
  (0, sI μ 0 z)
theorem caX7_fails : gCalV yX7_fails cX7_fails 2 (some .int) 1 := ⟨⟨q6_130, q1_6, by decide +kernel⟩, q6_129, qs_18⟩
set_option maxHeartbeats 4000000 in
set_option maxRecDepth 100000 in
theorem kX7_fails (l : Launch) (E : gE) (am : Nat → Nat) (μ : BS)  (z : Int32) : MC l E yX7_fails cX7_fails 2 (some .int) 0 0 [.ref (am 0), .int z] [wM E am μ] (some (.int (fX7_fails μ z).1)) [wM E am ((fX7_fails μ z).2)] := by
  refine mc_of (by decide +kernel) (Nat.le_of_ble_eq_true rfl) (lv := [(0, .ref (am 0)), (1, .int z)]) rfl (fun X C hE => ?_)
  refine g_aload_n C dX7_fails_0 rfl 0 rfl ?_
  refine g_iload_n C dX7_fails_1 rfl 1 rfl ?_
  refine g_putf C (T := TX7) (N := 15) (ty := .int) (w1 := wM E am (sI μ 0 z)) (cs1 := [wM E am (sI μ 0 z)]) 0 0 rfl rfl rfl inX7 tyX7_ok nmX7 0 (by decide) q6_70 rfl (by decide +kernel) rfl rfl (Nat.le_of_ble_eq_true rfl) rfl rfl dX7_fails_2 ?_
  refine g_iconst C (v := 0) dX7_fails_5 (by decide) ?_
  have e_1 : fX7_fails μ z = (0, sI μ 0 z) := by rw [fX7_fails]
  exact g_iret C hE (by rw [e_1]) (by rw [e_1]) dX7_fails_6
def fX7_in (v : Int32) (a : Int32) (b : Int32) : Bool :=
  if v < a then false else (if b < v then false else true)
theorem caX7_in : gCalS yX7_in cX7_in 3 (some .boolean) 3 := ⟨⟨q6_126, q1_6, by decide +kernel⟩, q6_125⟩
set_option maxHeartbeats 4000000 in
set_option maxRecDepth 100000 in
theorem kX7_in (l : Launch) (E : gE)  (v : Int32) (a : Int32) (b : Int32) : MC l E yX7_in cX7_in 3 (some .boolean) 0 0 [.int v, .int a, .int b] [] (some (.int (b2i (fX7_in v a b)))) [] := by
  refine mc_of (by decide +kernel) (Nat.le_of_ble_eq_true rfl) (lv := [(0, .int v), (1, .int a), (2, .int b)]) rfl (fun X C hE => ?_)
  refine g_iload_n C dX7_in_0 rfl 0 rfl ?_
  refine g_iload_n C dX7_in_1 rfl 1 rfl ?_
  refine g_icmp_lt C 14 dX7_in_2 (by decide) (fun c_1 => ?_) (fun c_1 => ?_)
  · skip
    refine g_iconst C (v := 0) dX7_in_14 (by decide) ?_
    have e_2 : fX7_in v a b = false := by rw [fX7_in]; rw [if_pos c_1]
    exact g_zret (b := false) C hE (by rw [e_2]) rfl rfl dX7_in_15
  · skip
    refine g_iload_n C dX7_in_5 rfl 0 rfl ?_
    refine g_iload_n C dX7_in_6 rfl 2 rfl ?_
    refine g_icmp_gt C 14 dX7_in_7 (by decide) (fun c_3 => ?_) (fun c_3 => ?_)
    · skip
      refine g_iconst C (v := 0) dX7_in_14 (by decide) ?_
      have e_4 : fX7_in v a b = false := by rw [fX7_in]; rw [if_neg c_1, if_pos c_3]
      exact g_zret (b := false) C hE (by rw [e_4]) rfl rfl dX7_in_15
    · skip
      refine g_iconst C (v := 1) dX7_in_10 (by decide) ?_
      refine g_goto C 15 dX7_in_11 (by decide) ?_
      have e_5 : fX7_in v a b = true := by rw [fX7_in]; rw [if_neg c_1, if_neg c_3]
      exact g_zret (b := true) C hE (by rw [e_5]) rfl rfl dX7_in_15
def fX7_isOwner (v : Int32) : Bool :=
  (fX7_in v 0 4)
theorem caX7_isOwner : gCalS yX7_isOwner cX7_isOwner 1 (some .boolean) 1 := ⟨⟨q6_204, q1_6, by decide +kernel⟩, q6_203⟩
set_option maxHeartbeats 4000000 in
set_option maxRecDepth 100000 in
theorem kX7_isOwner (l : Launch) (E : gE)  (v : Int32) : MC l E yX7_isOwner cX7_isOwner 1 (some .boolean) 1 22 [.int v] [] (some (.int (b2i (fX7_isOwner v)))) [] := by
  refine mc_of (by decide +kernel) (Nat.le_of_ble_eq_true rfl) (lv := [(0, .int v)]) rfl (fun X C hE => ?_)
  refine g_iload_n C dX7_isOwner_0 rfl 0 rfl ?_
  refine g_iconst C (v := 0) dX7_isOwner_1 (by decide) ?_
  refine g_iconst C (v := 4) dX7_isOwner_2 (by decide) ?_
  refine g_callS C (cs1 := []) (st1 := [.int (b2i (fX7_in v 0 4))]) [.int v, .int 0, .int 4] [] (kX7_in l E v 0 4) caX7_in q6_124 rfl ⟨Nat.le_of_ble_eq_true rfl, Nat.le_of_ble_eq_true rfl⟩ ⟨Nat.zero_le _, Nat.zero_le _⟩ (by decide) rfl rfl rfl rfl (Nat.le_of_ble_eq_true rfl) dX7_isOwner_3 rfl ?_
  have e_1 : fX7_isOwner v = (fX7_in v 0 4) := by rw [fX7_isOwner]
  exact g_zret (b := (fX7_in v 0 4)) C hE (by rw [e_1]) rfl rfl dX7_isOwner_6
def fX7_isMilestone (v : Int32) : Bool :=
  (fX7_in v 0 3)
theorem caX7_isMilestone : gCalS yX7_isMilestone cX7_isMilestone 1 (some .boolean) 1 := ⟨⟨q6_227, q1_6, by decide +kernel⟩, q6_226⟩
set_option maxHeartbeats 4000000 in
set_option maxRecDepth 100000 in
theorem kX7_isMilestone (l : Launch) (E : gE)  (v : Int32) : MC l E yX7_isMilestone cX7_isMilestone 1 (some .boolean) 1 22 [.int v] [] (some (.int (b2i (fX7_isMilestone v)))) [] := by
  refine mc_of (by decide +kernel) (Nat.le_of_ble_eq_true rfl) (lv := [(0, .int v)]) rfl (fun X C hE => ?_)
  refine g_iload_n C dX7_isMilestone_0 rfl 0 rfl ?_
  refine g_iconst C (v := 0) dX7_isMilestone_1 (by decide) ?_
  refine g_iconst C (v := 3) dX7_isMilestone_2 (by decide) ?_
  refine g_callS C (cs1 := []) (st1 := [.int (b2i (fX7_in v 0 3))]) [.int v, .int 0, .int 3] [] (kX7_in l E v 0 3) caX7_in q6_124 rfl ⟨Nat.le_of_ble_eq_true rfl, Nat.le_of_ble_eq_true rfl⟩ ⟨Nat.zero_le _, Nat.zero_le _⟩ (by decide) rfl rfl rfl rfl (Nat.le_of_ble_eq_true rfl) dX7_isMilestone_3 rfl ?_
  have e_1 : fX7_isMilestone v = (fX7_in v 0 3) := by rw [fX7_isMilestone]
  exact g_zret (b := (fX7_in v 0 3)) C hE (by rw [e_1]) rfl rfl dX7_isMilestone_6
def fX7_isOrder (v : Int32) : Bool :=
  if v = 111 then true else (if v = 110 then true else (if v = 97 then true else (if v = 115 then true else (if v = 114 then true else (if v = 99 then true else (if v = 101 then true else false))))))
theorem caX7_isOrder : gCalS yX7_isOrder cX7_isOrder 1 (some .boolean) 1 := ⟨⟨q7_86, q1_6, by decide +kernel⟩, q7_85⟩
set_option maxHeartbeats 4000000 in
set_option maxRecDepth 100000 in
theorem kX7_isOrder (l : Launch) (E : gE)  (v : Int32) : MC l E yX7_isOrder cX7_isOrder 1 (some .boolean) 0 0 [.int v] [] (some (.int (b2i (fX7_isOrder v)))) [] := by
  refine mc_of (by decide +kernel) (Nat.le_of_ble_eq_true rfl) (lv := [(0, .int v)]) rfl (fun X C hE => ?_)
  refine g_iload_n C dX7_isOrder_0 rfl 0 rfl ?_
  refine g_bipush C (v := 111) dX7_isOrder_1 (by decide) ?_
  refine g_icmp_eq C 42 dX7_isOrder_3 (by decide) (fun c_1 => ?_) (fun c_1 => ?_)
  · skip
    refine g_iconst C (v := 1) dX7_isOrder_42 (by decide) ?_
    refine g_goto C 47 dX7_isOrder_43 (by decide) ?_
    have e_2 : fX7_isOrder v = true := by rw [fX7_isOrder]; rw [if_pos c_1]
    exact g_zret (b := true) C hE (by rw [e_2]) rfl rfl dX7_isOrder_47
  · skip
    refine g_iload_n C dX7_isOrder_6 rfl 0 rfl ?_
    refine g_bipush C (v := 110) dX7_isOrder_7 (by decide) ?_
    refine g_icmp_eq C 42 dX7_isOrder_9 (by decide) (fun c_3 => ?_) (fun c_3 => ?_)
    · skip
      refine g_iconst C (v := 1) dX7_isOrder_42 (by decide) ?_
      refine g_goto C 47 dX7_isOrder_43 (by decide) ?_
      have e_4 : fX7_isOrder v = true := by rw [fX7_isOrder]; rw [if_neg c_1, if_pos c_3]
      exact g_zret (b := true) C hE (by rw [e_4]) rfl rfl dX7_isOrder_47
    · skip
      refine g_iload_n C dX7_isOrder_12 rfl 0 rfl ?_
      refine g_bipush C (v := 97) dX7_isOrder_13 (by decide) ?_
      refine g_icmp_eq C 42 dX7_isOrder_15 (by decide) (fun c_5 => ?_) (fun c_5 => ?_)
      · skip
        refine g_iconst C (v := 1) dX7_isOrder_42 (by decide) ?_
        refine g_goto C 47 dX7_isOrder_43 (by decide) ?_
        have e_6 : fX7_isOrder v = true := by rw [fX7_isOrder]; rw [if_neg c_1, if_neg c_3, if_pos c_5]
        exact g_zret (b := true) C hE (by rw [e_6]) rfl rfl dX7_isOrder_47
      · skip
        refine g_iload_n C dX7_isOrder_18 rfl 0 rfl ?_
        refine g_bipush C (v := 115) dX7_isOrder_19 (by decide) ?_
        refine g_icmp_eq C 42 dX7_isOrder_21 (by decide) (fun c_7 => ?_) (fun c_7 => ?_)
        · skip
          refine g_iconst C (v := 1) dX7_isOrder_42 (by decide) ?_
          refine g_goto C 47 dX7_isOrder_43 (by decide) ?_
          have e_8 : fX7_isOrder v = true := by rw [fX7_isOrder]; rw [if_neg c_1, if_neg c_3, if_neg c_5, if_pos c_7]
          exact g_zret (b := true) C hE (by rw [e_8]) rfl rfl dX7_isOrder_47
        · skip
          refine g_iload_n C dX7_isOrder_24 rfl 0 rfl ?_
          refine g_bipush C (v := 114) dX7_isOrder_25 (by decide) ?_
          refine g_icmp_eq C 42 dX7_isOrder_27 (by decide) (fun c_9 => ?_) (fun c_9 => ?_)
          · skip
            refine g_iconst C (v := 1) dX7_isOrder_42 (by decide) ?_
            refine g_goto C 47 dX7_isOrder_43 (by decide) ?_
            have e_10 : fX7_isOrder v = true := by rw [fX7_isOrder]; rw [if_neg c_1, if_neg c_3, if_neg c_5, if_neg c_7, if_pos c_9]
            exact g_zret (b := true) C hE (by rw [e_10]) rfl rfl dX7_isOrder_47
          · skip
            refine g_iload_n C dX7_isOrder_30 rfl 0 rfl ?_
            refine g_bipush C (v := 99) dX7_isOrder_31 (by decide) ?_
            refine g_icmp_eq C 42 dX7_isOrder_33 (by decide) (fun c_11 => ?_) (fun c_11 => ?_)
            · skip
              refine g_iconst C (v := 1) dX7_isOrder_42 (by decide) ?_
              refine g_goto C 47 dX7_isOrder_43 (by decide) ?_
              have e_12 : fX7_isOrder v = true := by rw [fX7_isOrder]; rw [if_neg c_1, if_neg c_3, if_neg c_5, if_neg c_7, if_neg c_9, if_pos c_11]
              exact g_zret (b := true) C hE (by rw [e_12]) rfl rfl dX7_isOrder_47
            · skip
              refine g_iload_n C dX7_isOrder_36 rfl 0 rfl ?_
              refine g_bipush C (v := 101) dX7_isOrder_37 (by decide) ?_
              refine g_icmp_ne C 46 dX7_isOrder_39 (by decide) (fun c_13 => ?_) (fun c_13 => ?_)
              · skip
                refine g_iconst C (v := 0) dX7_isOrder_46 (by decide) ?_
                have e_14 : fX7_isOrder v = false := by rw [fX7_isOrder]; rw [if_neg c_1, if_neg c_3, if_neg c_5, if_neg c_7, if_neg c_9, if_neg c_11, if_neg c_13]
                exact g_zret (b := false) C hE (by rw [e_14]) rfl rfl dX7_isOrder_47
              · skip
                refine g_iconst C (v := 1) dX7_isOrder_42 (by decide) ?_
                refine g_goto C 47 dX7_isOrder_43 (by decide) ?_
                have e_15 : fX7_isOrder v = true := by rw [fX7_isOrder]; rw [if_neg c_1, if_neg c_3, if_neg c_5, if_neg c_7, if_neg c_9, if_neg c_11, if_pos c_13]
                exact g_zret (b := true) C hE (by rw [e_15]) rfl rfl dX7_isOrder_47
def fX7_bits_L4 (x : Int32) (i4 : Nat) (t4 : Int32) : Int32 :=
  t4 + ((x >>> ((nI i4) &&& 31)) &&& 1)
def fX7_bits (x : Int32) : Int32 :=
  (lpF (fX7_bits_L4 x) 0 20)
theorem caX7_bits : gCalS yX7_bits cX7_bits 3 (some .int) 1 := ⟨⟨q6_193, q1_6, by decide +kernel⟩, q6_192⟩
set_option maxHeartbeats 4000000 in
set_option maxRecDepth 100000 in
theorem kX7_bits (l : Launch) (E : gE)  (x : Int32) : MC l E yX7_bits cX7_bits 3 (some .int) 0 0 [.int x] [] (some (.int (fX7_bits x))) [] := by
  refine mc_of (by decide +kernel) (Nat.le_of_ble_eq_true rfl) (lv := [(0, .int x)]) rfl (fun X C hE => ?_)
  refine g_iconst C (v := 0) dX7_bits_0 (by decide) ?_
  refine g_istore_n C (lv1 := [(1, .int 0), (0, .int x)]) dX7_bits_1 rfl (by decide) rfl ?_
  refine g_iconst C (v := 0) dX7_bits_2 (by decide) ?_
  refine g_istore_n C (lv1 := [(2, .int 0), (1, .int 0), (0, .int x)]) dX7_bits_3 rfl (by decide) rfl ?_
  have hL_3 : ∀ d_1 i4 : Nat, i4 + d_1 = 20 → G X 0 0 [] [(0, .int x), (1, .int (lpF (fX7_bits_L4 x) 0 i4)), (2, .int (nI i4))] 4 [] := by
    intro d_1
    induction d_1 with
    | zero =>
      intro i4 hi_2
      obtain rfl : i4 = 20 := by omega
      refine g_iload_n C dX7_bits_4 rfl 2 rfl ?_
      refine g_bipush C (v := 20) dX7_bits_5 (by decide) ?_
      refine g_icmp_ge C 24 dX7_bits_7 (by decide) (fun c_5 => ?_) (fun c_5 => ?_)
      · skip
        refine g_iload_n C dX7_bits_24 rfl 1 rfl ?_
        have e_6 : fX7_bits x = (lpF (fX7_bits_L4 x) 0 20) := by rw [fX7_bits]
        exact g_iret C hE (by rw [e_6]) rfl dX7_bits_25
      · exact absurd (lc_le rfl nI_l20 (by omega) (by omega)) c_5
    | succ d_1 ih_4 =>
      intro i4 hi_2
      refine g_iload_n C dX7_bits_4 rfl 2 rfl ?_
      refine g_bipush C (v := 20) dX7_bits_5 (by decide) ?_
      refine g_icmp_ge C 24 dX7_bits_7 (by decide) (fun c_7 => ?_) (fun c_7 => ?_)
      · exact absurd c_7 (lc_nle rfl nI_l20 (by omega) (by omega))
      · skip
        refine g_iload_n C dX7_bits_10 rfl 1 rfl ?_
        refine g_iload_n C dX7_bits_11 rfl 0 rfl ?_
        refine g_iload_n C dX7_bits_12 rfl 2 rfl ?_
        refine g_ishr C dX7_bits_13 ?_
        refine g_iconst C (v := 1) dX7_bits_14 (by decide) ?_
        refine g_iand C dX7_bits_15 ?_
        refine g_iadd C dX7_bits_16 ?_
        refine g_istore_n C (lv1 := [(1, .int ((lpF (fX7_bits_L4 x) 0 i4) + ((x >>> ((nI i4) &&& 31)) &&& 1))), (0, .int x), (2, .int (nI i4))]) dX7_bits_17 rfl (by decide) rfl ?_
        refine g_iinc C (v := nI (i4 + 1)) (lv1 := [(2, .int (nI (i4 + 1))), (1, .int ((lpF (fX7_bits_L4 x) 0 i4) + ((x >>> ((nI i4) &&& 31)) &&& 1))), (0, .int x)]) dX7_bits_18 2 rfl (nI_1 i4) (by decide) rfl ?_
        refine g_goto C 4 dX7_bits_21 (by decide) ?_
        have e_8 : (lpF (fX7_bits_L4 x) 0 (i4 + 1)) = (lpF (fX7_bits_L4 x) 0 i4) + ((x >>> ((nI i4) &&& 31)) &&& 1) := by
          rw [lpF_1, fX7_bits_L4]
        have h_9 := ih_4 (i4 + 1) (by omega)
        rw [e_8] at h_9
        exact g_sub [2, 1, 0] rfl h_9
  refine g_sub [2, 1, 0] (lv1 := [(0, .int x), (1, .int 0), (2, .int 0)]) rfl ?_
  exact hL_3 20 0 (by omega)
def fX7_isTicket (μ : BS) (t : Int32) : Bool :=
  (fX7_in t 0 ((μ.2 0 0) - 1))
theorem caX7_isTicket : gCalV yX7_isTicket cX7_isTicket 2 (some .boolean) 1 := ⟨⟨q6_150, q1_6, by decide +kernel⟩, q6_149, qs_22⟩
set_option maxHeartbeats 4000000 in
set_option maxRecDepth 100000 in
theorem kX7_isTicket (l : Launch) (E : gE) (am : Nat → Nat) (μ : BS)  (t : Int32) : MC l E yX7_isTicket cX7_isTicket 2 (some .boolean) 1 22 [.ref (am 0), .int t] [wM E am μ] (some (.int (b2i (fX7_isTicket μ t)))) [wM E am μ] := by
  refine mc_of (by decide +kernel) (Nat.le_of_ble_eq_true rfl) (lv := [(0, .ref (am 0)), (1, .int t)]) rfl (fun X C hE => ?_)
  refine g_iload_n C dX7_isTicket_0 rfl 1 rfl ?_
  refine g_iconst C (v := 0) dX7_isTicket_1 (by decide) ?_
  refine g_aload_n C dX7_isTicket_2 rfl 0 rfl ?_
  refine g_getf C (T := TX7) (N := 15) 0 0 rfl rfl rfl inX7 1 (by decide) q6_71 rfl dX7_isTicket_3 ?_
  refine g_iconst C (v := 0) dX7_isTicket_6 (by decide) ?_
  refine g_ialdn C 0 1 0 rfl rfl rfl (by decide) (by decide) dX7_isTicket_7 ?_
  refine g_iconst C (v := 1) dX7_isTicket_8 (by decide) ?_
  refine g_isub C dX7_isTicket_9 ?_
  refine g_callS C (cs1 := [wM E am μ]) (st1 := [.int (b2i (fX7_in t 0 ((μ.2 0 0) - 1)))]) [.int t, .int 0, .int ((μ.2 0 0) - 1)] [] (kX7_in l E t 0 ((μ.2 0 0) - 1)) caX7_in q6_124 rfl ⟨Nat.le_of_ble_eq_true rfl, Nat.le_of_ble_eq_true rfl⟩ ⟨Nat.zero_le _, Nat.zero_le _⟩ (by decide) rfl rfl rfl rfl (Nat.le_of_ble_eq_true rfl) dX7_isTicket_10 rfl ?_
  have e_1 : fX7_isTicket μ t = (fX7_in t 0 ((μ.2 0 0) - 1)) := by rw [fX7_isTicket]
  exact g_zret (b := (fX7_in t 0 ((μ.2 0 0) - 1))) C hE (by rw [e_1]) rfl rfl dX7_isTicket_13
theorem in_i {v b : Int32} {N : Nat} (hb : b.toInt = N) (hN : N < 1000) (h : fX7_in v 0 b = true) : v = nI v.toNatClampNeg ∧ v.toNatClampNeg < N + 1 := within_i hb hN h
theorem in_i2 {v : Int32} (h : fX7_in v 0 1 = true) : v = nI v.toNatClampNeg ∧ v.toNatClampNeg < 2 := in_i (N := 1) (by decide) (by omega) h
theorem isOwnerM_i {v : Int32} (h : fX7_isOwner v = true) : v = nI v.toNatClampNeg ∧ v.toNatClampNeg < 5 := in_i (N := 4) (by decide) (by omega) h
theorem isMilestoneM_i {v : Int32} (h : fX7_isMilestone v = true) : v = nI v.toNatClampNeg ∧ v.toNatClampNeg < 4 := in_i (N := 3) (by decide) (by omega) h
theorem isTicket_i {μ : BS} (hv : vM μ) {t : Int32} (h : fX7_isTicket μ t = true) : t = nI t.toNatClampNeg ∧ t.toNatClampNeg < 20 ∧ t.toNatClampNeg < cM μ := by
  have h1 := within_pred hv.1.2.1 hv.1.1 h
  exact ⟨h1.1, by have := hv.1.1; omega, h1.2⟩
def fX7_of (μ : BS) (t : Nat) (w : Nat) : Int32 :=
  μ.2 0 ((13 + (10 * t)) + w)
theorem caX7_of : gCalV yX7_of cX7_of 3 (some .int) 2 := ⟨⟨q6_154, q1_6, by decide +kernel⟩, q6_153, qs_23⟩
set_option maxHeartbeats 4000000 in
set_option maxRecDepth 100000 in
theorem kX7_of (l : Launch) (E : gE) (am : Nat → Nat) (μ : BS)  (t : Nat) (ht : t < 20) (w : Nat) (hw : w < 10) : MC l E yX7_of cX7_of 3 (some .int) 0 0 [.ref (am 0), .int (nI t), .int (nI w)] [wM E am μ] (some (.int (fX7_of μ t w))) [wM E am μ] := by
  refine mc_of (by decide +kernel) (Nat.le_of_ble_eq_true rfl) (lv := [(0, .ref (am 0)), (1, .int (nI t)), (2, .int (nI w))]) rfl (fun X C hE => ?_)
  refine g_aload_n C dX7_of_0 rfl 0 rfl ?_
  refine g_getf C (T := TX7) (N := 15) 0 0 rfl rfl rfl inX7 1 (by decide) q6_71 rfl dX7_of_1 ?_
  refine g_bipush C (v := 13) dX7_of_4 (by decide) ?_
  refine g_bipush C (v := 10) dX7_of_6 (by decide) ?_
  refine g_iload_n C dX7_of_8 rfl 1 rfl ?_
  refine g_imul C dX7_of_9 ?_
  refine g_iadd C dX7_of_10 ?_
  refine g_iload_n C dX7_of_11 rfl 2 rfl ?_
  refine g_iadd C dX7_of_12 ?_
  refine g_ialdn C 0 1 ((13 + (10 * t)) + w) rfl rfl (nx_add (nx_add rfl (nx_mul rfl rfl)) rfl) (by omega) (by decide) dX7_of_13 ?_
  have e_1 : fX7_of μ t w = μ.2 0 ((13 + (10 * t)) + w) := by rw [fX7_of]
  exact g_iret C hE (by rw [e_1]) rfl dX7_of_14
def fX7_lay (μ : BS) (t : Nat) (w : Nat) (v : Int32) : BS :=
  sE μ 0 ((13 + (10 * t)) + w) v
theorem caX7_lay : gCalV yX7_lay cX7_lay 4 none 3 := ⟨⟨q6_142, q1_6, by decide +kernel⟩, q6_141, qs_21⟩
set_option maxHeartbeats 4000000 in
set_option maxRecDepth 100000 in
theorem kX7_lay (l : Launch) (E : gE) (am : Nat → Nat) (μ : BS)  (t : Nat) (ht : t < 20) (w : Nat) (hw : w < 10) (v : Int32) : MC l E yX7_lay cX7_lay 4 none 0 0 [.ref (am 0), .int (nI t), .int (nI w), .int v] [wM E am μ] none [wM E am (fX7_lay μ t w v)] := by
  refine mc_of (by decide +kernel) (Nat.le_of_ble_eq_true rfl) (lv := [(0, .ref (am 0)), (1, .int (nI t)), (2, .int (nI w)), (3, .int v)]) rfl (fun X C hE => ?_)
  refine g_aload_n C dX7_lay_0 rfl 0 rfl ?_
  refine g_getf C (T := TX7) (N := 15) 0 0 rfl rfl rfl inX7 1 (by decide) q6_71 rfl dX7_lay_1 ?_
  refine g_bipush C (v := 13) dX7_lay_4 (by decide) ?_
  refine g_bipush C (v := 10) dX7_lay_6 (by decide) ?_
  refine g_iload_n C dX7_lay_8 rfl 1 rfl ?_
  refine g_imul C dX7_lay_9 ?_
  refine g_iadd C dX7_lay_10 ?_
  refine g_iload_n C dX7_lay_11 rfl 2 rfl ?_
  refine g_iadd C dX7_lay_12 ?_
  refine g_iload_n C dX7_lay_13 rfl 3 rfl ?_
  refine g_iastn C (w1 := wM E am (sE μ 0 ((13 + (10 * t)) + w) v)) (cs1 := [wM E am (sE μ 0 ((13 + (10 * t)) + w) v)]) 0 1 ((13 + (10 * t)) + w) rfl rfl (nx_add (nx_add rfl (nx_mul rfl rfl)) rfl) (by omega) (by decide) rfl rfl dX7_lay_14 ?_
  have e_1 : fX7_lay μ t w v = sE μ 0 ((13 + (10 * t)) + w) v := by rw [fX7_lay]
  exact g_vret C hE rfl (by rw [e_1]) dX7_lay_15
theorem vM_lay {μ : BS} {t w : Nat} {v : Int32} (h : vM μ) (hw : w < 10) (h3 : w = 3 → ∃ j : Nat, j < 6 ∧ v = nI j) (h4 : w = 4 → ∃ j : Nat, j < 5 ∧ v = nI j) : vM (fX7_lay μ t w v) := vM_s h (vS_lay h.1 hw h3 h4)
theorem vM_layD {μ : BS} {t w : Nat} {v : Int32} (h : vM μ) (hw : decide (w < 10 ∧ w ≠ 3 ∧ w ≠ 4) = true) : vM (fX7_lay μ t w v) := by
  have h2 : w < 10 ∧ w ≠ 3 ∧ w ≠ 4 := of_decide_eq_true hw
  exact vM_lay h h2.1 (fun e => absurd e h2.2.1) (fun e => absurd e h2.2.2)
def fX7_isLeft (μ : BS) (t : Nat) : Bool :=
  if 3 ≤ (fX7_of μ t 2) then false else true
theorem caX7_isLeft : gCalV yX7_isLeft cX7_isLeft 2 (some .boolean) 1 := ⟨⟨q6_158, q1_6, by decide +kernel⟩, q6_157, qs_24⟩
set_option maxHeartbeats 4000000 in
set_option maxRecDepth 100000 in
theorem kX7_isLeft (l : Launch) (E : gE) (am : Nat → Nat) (μ : BS)  (t : Nat) (ht : t < 20) : MC l E yX7_isLeft cX7_isLeft 2 (some .boolean) 1 22 [.ref (am 0), .int (nI t)] [wM E am μ] (some (.int (b2i (fX7_isLeft μ t)))) [wM E am μ] := by
  refine mc_of (by decide +kernel) (Nat.le_of_ble_eq_true rfl) (lv := [(0, .ref (am 0)), (1, .int (nI t))]) rfl (fun X C hE => ?_)
  refine g_aload_n C dX7_isLeft_0 rfl 0 rfl ?_
  refine g_iload_n C dX7_isLeft_1 rfl 1 rfl ?_
  refine g_iconst C (v := 2) dX7_isLeft_2 (by decide) ?_
  refine g_callV C (cs1 := [wM E am μ]) (st1 := [.int (fX7_of μ t 2)]) [.int (nI t), .int 2] [0] (kX7_of l E am μ t (by omega) 2 (by decide)) caX7_of q6_151 rfl ⟨Nat.le_of_ble_eq_true rfl, Nat.le_of_ble_eq_true rfl⟩ ⟨Nat.zero_le _, Nat.zero_le _⟩ 0 0 rfl rfl rfl rfl (by decide) rfl rfl rfl rfl (Nat.le_of_ble_eq_true rfl) dX7_isLeft_3 rfl ?_
  refine g_iconst C (v := 3) dX7_isLeft_6 (by decide) ?_
  refine g_icmp_ge C 14 dX7_isLeft_7 (by decide) (fun c_1 => ?_) (fun c_1 => ?_)
  · skip
    refine g_iconst C (v := 0) dX7_isLeft_14 (by decide) ?_
    have e_2 : fX7_isLeft μ t = false := by rw [fX7_isLeft]; rw [if_pos c_1]
    exact g_zret (b := false) C hE (by rw [e_2]) rfl rfl dX7_isLeft_15
  · skip
    refine g_iconst C (v := 1) dX7_isLeft_10 (by decide) ?_
    refine g_goto C 15 dX7_isLeft_11 (by decide) ?_
    have e_3 : fX7_isLeft μ t = true := by rw [fX7_isLeft]; rw [if_neg c_1]
    exact g_zret (b := true) C hE (by rw [e_3]) rfl rfl dX7_isLeft_15
def fX7_left_L4 (μ : BS) (i4 : Nat) (t4 : Int32) : Int32 :=
  if (fX7_isLeft μ i4) = true then t4 ||| (1 <<< ((nI i4) &&& 31)) else t4 ||| 0
def fX7_left (μ : BS) : Int32 :=
  (lpF (fX7_left_L4 μ) 0 (cM μ))
theorem caX7_left : gCalV yX7_left cX7_left 3 (some .int) 0 := ⟨⟨q7_39, q1_6, by decide +kernel⟩, q7_38, qs_38⟩
set_option maxHeartbeats 4000000 in
set_option maxRecDepth 100000 in
theorem kX7_left (l : Launch) (E : gE) (am : Nat → Nat) (μ : BS) (hv : vM μ)   : MC l E yX7_left cX7_left 3 (some .int) 2 43 [.ref (am 0)] [wM E am μ] (some (.int (fX7_left μ))) [wM E am μ] := by
  have hv1 : cM μ ≤ 20 := hv.1.1
  have hc0 : μ.2 0 0 = nI (cM μ) := hv.1.2.1
  refine mc_of (by decide +kernel) (Nat.le_of_ble_eq_true rfl) (lv := [(0, .ref (am 0))]) rfl (fun X C hE => ?_)
  refine g_iconst C (v := 0) dX7_left_0 (by decide) ?_
  refine g_istore_n C (lv1 := [(1, .int 0), (0, .ref (am 0))]) dX7_left_1 rfl (by decide) rfl ?_
  refine g_iconst C (v := 0) dX7_left_2 (by decide) ?_
  refine g_istore_n C (lv1 := [(2, .int 0), (1, .int 0), (0, .ref (am 0))]) dX7_left_3 rfl (by decide) rfl ?_
  have hL_3 : ∀ d_1 i4 : Nat, i4 + d_1 = (cM μ) → G X 0 0 [wM E am μ] [(0, .ref (am 0)), (1, .int (lpF (fX7_left_L4 μ) 0 i4)), (2, .int (nI i4))] 4 [] := by
    intro d_1
    induction d_1 with
    | zero =>
      intro i4 hi_2
      obtain rfl : i4 = (cM μ) := by omega
      refine g_iload_n C dX7_left_4 rfl 2 rfl ?_
      refine g_aload_n C dX7_left_5 rfl 0 rfl ?_
      refine g_getf C (T := TX7) (N := 15) 0 0 rfl rfl rfl inX7 1 (by decide) q6_71 rfl dX7_left_6 ?_
      refine g_iconst C (v := 0) dX7_left_9 (by decide) ?_
      refine g_ialdn C 0 1 0 rfl rfl rfl (by decide) (by decide) dX7_left_10 ?_
      refine g_icmp_ge C 38 dX7_left_11 (by decide) (fun c_5 => ?_) (fun c_5 => ?_)
      · skip
        refine g_iload_n C dX7_left_38 rfl 1 rfl ?_
        have e_6 : fX7_left μ = (lpF (fX7_left_L4 μ) 0 (cM μ)) := by rw [fX7_left]
        exact g_iret C hE (by rw [e_6]) rfl dX7_left_39
      · exact absurd (lc_le rfl hc0 (by omega) (by omega)) c_5
    | succ d_1 ih_4 =>
      intro i4 hi_2
      refine g_iload_n C dX7_left_4 rfl 2 rfl ?_
      refine g_aload_n C dX7_left_5 rfl 0 rfl ?_
      refine g_getf C (T := TX7) (N := 15) 0 0 rfl rfl rfl inX7 1 (by decide) q6_71 rfl dX7_left_6 ?_
      refine g_iconst C (v := 0) dX7_left_9 (by decide) ?_
      refine g_ialdn C 0 1 0 rfl rfl rfl (by decide) (by decide) dX7_left_10 ?_
      refine g_icmp_ge C 38 dX7_left_11 (by decide) (fun c_7 => ?_) (fun c_7 => ?_)
      · exact absurd c_7 (lc_nle rfl hc0 (by omega) (by omega))
      · skip
        refine g_iload_n C dX7_left_14 rfl 1 rfl ?_
        refine g_aload_n C dX7_left_15 rfl 0 rfl ?_
        refine g_iload_n C dX7_left_16 rfl 2 rfl ?_
        refine g_callV C (cs1 := [wM E am μ]) (st1 := [.int (b2i (fX7_isLeft μ i4)), .int (lpF (fX7_left_L4 μ) 0 i4)]) [.int (nI i4)] [0] (kX7_isLeft l E am μ i4 (by omega)) caX7_isLeft q6_155 rfl ⟨Nat.le_of_ble_eq_true rfl, Nat.le_of_ble_eq_true rfl⟩ ⟨Nat.zero_le _, Nat.zero_le _⟩ 0 0 rfl rfl rfl rfl (by decide) rfl rfl rfl rfl (Nat.le_of_ble_eq_true rfl) dX7_left_17 rfl ?_
        refine g_ifB_eq C 29 dX7_left_20 (by decide) (fun c_8 => ?_) (fun c_8 => ?_)
        · skip
          refine g_iconst C (v := 0) dX7_left_29 (by decide) ?_
          refine g_ior C dX7_left_30 ?_
          refine g_istore_n C (lv1 := [(1, .int ((lpF (fX7_left_L4 μ) 0 i4) ||| 0)), (0, .ref (am 0)), (2, .int (nI i4))]) dX7_left_31 rfl (by decide) rfl ?_
          refine g_iinc C (v := nI (i4 + 1)) (lv1 := [(2, .int (nI (i4 + 1))), (1, .int ((lpF (fX7_left_L4 μ) 0 i4) ||| 0)), (0, .ref (am 0))]) dX7_left_32 2 rfl (nI_1 i4) (by decide) rfl ?_
          refine g_goto C 4 dX7_left_35 (by decide) ?_
          have e_9 : (lpF (fX7_left_L4 μ) 0 (i4 + 1)) = (lpF (fX7_left_L4 μ) 0 i4) ||| 0 := by
            rw [lpF_1, fX7_left_L4]; rw [if_neg (ne_true_of_eq_false c_8)]
          have h_10 := ih_4 (i4 + 1) (by omega)
          rw [e_9] at h_10
          exact g_sub [2, 1, 0] rfl h_10
        · skip
          refine g_iconst C (v := 1) dX7_left_23 (by decide) ?_
          refine g_iload_n C dX7_left_24 rfl 2 rfl ?_
          refine g_ishl C dX7_left_25 ?_
          refine g_goto C 30 dX7_left_26 (by decide) ?_
          refine g_ior C dX7_left_30 ?_
          refine g_istore_n C (lv1 := [(1, .int ((lpF (fX7_left_L4 μ) 0 i4) ||| (1 <<< ((nI i4) &&& 31)))), (0, .ref (am 0)), (2, .int (nI i4))]) dX7_left_31 rfl (by decide) rfl ?_
          refine g_iinc C (v := nI (i4 + 1)) (lv1 := [(2, .int (nI (i4 + 1))), (1, .int ((lpF (fX7_left_L4 μ) 0 i4) ||| (1 <<< ((nI i4) &&& 31)))), (0, .ref (am 0))]) dX7_left_32 2 rfl (nI_1 i4) (by decide) rfl ?_
          refine g_goto C 4 dX7_left_35 (by decide) ?_
          have e_11 : (lpF (fX7_left_L4 μ) 0 (i4 + 1)) = (lpF (fX7_left_L4 μ) 0 i4) ||| (1 <<< ((nI i4) &&& 31)) := by
            rw [lpF_1, fX7_left_L4]; rw [if_pos c_8]
          have h_12 := ih_4 (i4 + 1) (by omega)
          rw [e_11] at h_12
          exact g_sub [2, 1, 0] rfl h_12
  refine g_sub [2, 1, 0] (lv1 := [(0, .ref (am 0)), (1, .int 0), (2, .int 0)]) rfl ?_
  exact hL_3 (cM μ) 0 (by omega)
def fX7_blockers (μ : BS) (t : Nat) : Int32 :=
  (fX7_of μ t 9) &&& (fX7_left μ)
theorem caX7_blockers : gCalV yX7_blockers cX7_blockers 2 (some .int) 1 := ⟨⟨q7_35, q1_6, by decide +kernel⟩, q7_34, qs_37⟩
set_option maxHeartbeats 4000000 in
set_option maxRecDepth 100000 in
theorem kX7_blockers (l : Launch) (E : gE) (am : Nat → Nat) (μ : BS) (hv : vM μ)  (t : Nat) (ht : t < 20) : MC l E yX7_blockers cX7_blockers 2 (some .int) 3 65 [.ref (am 0), .int (nI t)] [wM E am μ] (some (.int (fX7_blockers μ t))) [wM E am μ] := by
  have hv1 : cM μ ≤ 20 := hv.1.1
  have hc0 : μ.2 0 0 = nI (cM μ) := hv.1.2.1
  refine mc_of (by decide +kernel) (Nat.le_of_ble_eq_true rfl) (lv := [(0, .ref (am 0)), (1, .int (nI t))]) rfl (fun X C hE => ?_)
  refine g_aload_n C dX7_blockers_0 rfl 0 rfl ?_
  refine g_iload_n C dX7_blockers_1 rfl 1 rfl ?_
  refine g_bipush C (v := 9) dX7_blockers_2 (by decide) ?_
  refine g_callV C (cs1 := [wM E am μ]) (st1 := [.int (fX7_of μ t 9)]) [.int (nI t), .int 9] [0] (kX7_of l E am μ t (by omega) 9 (by decide)) caX7_of q6_151 rfl ⟨Nat.le_of_ble_eq_true rfl, Nat.le_of_ble_eq_true rfl⟩ ⟨Nat.zero_le _, Nat.zero_le _⟩ 0 0 rfl rfl rfl rfl (by decide) rfl rfl rfl rfl (Nat.le_of_ble_eq_true rfl) dX7_blockers_4 rfl ?_
  refine g_aload_n C dX7_blockers_7 rfl 0 rfl ?_
  refine g_callV C (cs1 := [wM E am μ]) (st1 := [.int (fX7_left μ), .int (fX7_of μ t 9)]) [] [0] (kX7_left l E am μ hv) caX7_left q7_36 rfl ⟨Nat.le_of_ble_eq_true rfl, Nat.le_of_ble_eq_true rfl⟩ ⟨Nat.zero_le _, Nat.zero_le _⟩ 0 0 rfl rfl rfl rfl (by decide) rfl rfl rfl rfl (Nat.le_of_ble_eq_true rfl) dX7_blockers_8 rfl ?_
  refine g_iand C dX7_blockers_11 ?_
  have e_1 : fX7_blockers μ t = (fX7_of μ t 9) &&& (fX7_left μ) := by rw [fX7_blockers]
  exact g_iret C hE (by rw [e_1]) rfl dX7_blockers_12
def fX7_blocked_L4 (μ : BS) (i4 : Nat) (t4 : Int32) : Int32 :=
  if (fX7_blockers μ i4) = 0 then t4 ||| 0 else t4 ||| (1 <<< ((nI i4) &&& 31))
def fX7_blocked (μ : BS) : Int32 :=
  (lpF (fX7_blocked_L4 μ) 0 (cM μ))
theorem caX7_blocked : gCalV yX7_blocked cX7_blocked 3 (some .int) 0 := ⟨⟨q7_47, q1_6, by decide +kernel⟩, q7_46, qs_40⟩
set_option maxHeartbeats 4000000 in
set_option maxRecDepth 100000 in
theorem kX7_blocked (l : Launch) (E : gE) (am : Nat → Nat) (μ : BS) (hv : vM μ)   : MC l E yX7_blocked cX7_blocked 3 (some .int) 4 86 [.ref (am 0)] [wM E am μ] (some (.int (fX7_blocked μ))) [wM E am μ] := by
  have hv1 : cM μ ≤ 20 := hv.1.1
  have hc0 : μ.2 0 0 = nI (cM μ) := hv.1.2.1
  refine mc_of (by decide +kernel) (Nat.le_of_ble_eq_true rfl) (lv := [(0, .ref (am 0))]) rfl (fun X C hE => ?_)
  refine g_iconst C (v := 0) dX7_blocked_0 (by decide) ?_
  refine g_istore_n C (lv1 := [(1, .int 0), (0, .ref (am 0))]) dX7_blocked_1 rfl (by decide) rfl ?_
  refine g_iconst C (v := 0) dX7_blocked_2 (by decide) ?_
  refine g_istore_n C (lv1 := [(2, .int 0), (1, .int 0), (0, .ref (am 0))]) dX7_blocked_3 rfl (by decide) rfl ?_
  have hL_3 : ∀ d_1 i4 : Nat, i4 + d_1 = (cM μ) → G X 0 0 [wM E am μ] [(0, .ref (am 0)), (1, .int (lpF (fX7_blocked_L4 μ) 0 i4)), (2, .int (nI i4))] 4 [] := by
    intro d_1
    induction d_1 with
    | zero =>
      intro i4 hi_2
      obtain rfl : i4 = (cM μ) := by omega
      refine g_iload_n C dX7_blocked_4 rfl 2 rfl ?_
      refine g_aload_n C dX7_blocked_5 rfl 0 rfl ?_
      refine g_getf C (T := TX7) (N := 15) 0 0 rfl rfl rfl inX7 1 (by decide) q6_71 rfl dX7_blocked_6 ?_
      refine g_iconst C (v := 0) dX7_blocked_9 (by decide) ?_
      refine g_ialdn C 0 1 0 rfl rfl rfl (by decide) (by decide) dX7_blocked_10 ?_
      refine g_icmp_ge C 38 dX7_blocked_11 (by decide) (fun c_5 => ?_) (fun c_5 => ?_)
      · skip
        refine g_iload_n C dX7_blocked_38 rfl 1 rfl ?_
        have e_6 : fX7_blocked μ = (lpF (fX7_blocked_L4 μ) 0 (cM μ)) := by rw [fX7_blocked]
        exact g_iret C hE (by rw [e_6]) rfl dX7_blocked_39
      · exact absurd (lc_le rfl hc0 (by omega) (by omega)) c_5
    | succ d_1 ih_4 =>
      intro i4 hi_2
      refine g_iload_n C dX7_blocked_4 rfl 2 rfl ?_
      refine g_aload_n C dX7_blocked_5 rfl 0 rfl ?_
      refine g_getf C (T := TX7) (N := 15) 0 0 rfl rfl rfl inX7 1 (by decide) q6_71 rfl dX7_blocked_6 ?_
      refine g_iconst C (v := 0) dX7_blocked_9 (by decide) ?_
      refine g_ialdn C 0 1 0 rfl rfl rfl (by decide) (by decide) dX7_blocked_10 ?_
      refine g_icmp_ge C 38 dX7_blocked_11 (by decide) (fun c_7 => ?_) (fun c_7 => ?_)
      · exact absurd c_7 (lc_nle rfl hc0 (by omega) (by omega))
      · skip
        refine g_iload_n C dX7_blocked_14 rfl 1 rfl ?_
        refine g_aload_n C dX7_blocked_15 rfl 0 rfl ?_
        refine g_iload_n C dX7_blocked_16 rfl 2 rfl ?_
        refine g_callV C (cs1 := [wM E am μ]) (st1 := [.int (fX7_blockers μ i4), .int (lpF (fX7_blocked_L4 μ) 0 i4)]) [.int (nI i4)] [0] (kX7_blockers l E am μ hv i4 (by omega)) caX7_blockers q7_32 rfl ⟨Nat.le_of_ble_eq_true rfl, Nat.le_of_ble_eq_true rfl⟩ ⟨Nat.zero_le _, Nat.zero_le _⟩ 0 0 rfl rfl rfl rfl (by decide) rfl rfl rfl rfl (Nat.le_of_ble_eq_true rfl) dX7_blocked_17 rfl ?_
        refine g_if_eq C 29 dX7_blocked_20 (by decide) (fun c_8 => ?_) (fun c_8 => ?_)
        · skip
          refine g_iconst C (v := 0) dX7_blocked_29 (by decide) ?_
          refine g_ior C dX7_blocked_30 ?_
          refine g_istore_n C (lv1 := [(1, .int ((lpF (fX7_blocked_L4 μ) 0 i4) ||| 0)), (0, .ref (am 0)), (2, .int (nI i4))]) dX7_blocked_31 rfl (by decide) rfl ?_
          refine g_iinc C (v := nI (i4 + 1)) (lv1 := [(2, .int (nI (i4 + 1))), (1, .int ((lpF (fX7_blocked_L4 μ) 0 i4) ||| 0)), (0, .ref (am 0))]) dX7_blocked_32 2 rfl (nI_1 i4) (by decide) rfl ?_
          refine g_goto C 4 dX7_blocked_35 (by decide) ?_
          have e_9 : (lpF (fX7_blocked_L4 μ) 0 (i4 + 1)) = (lpF (fX7_blocked_L4 μ) 0 i4) ||| 0 := by
            rw [lpF_1, fX7_blocked_L4]; rw [if_pos c_8]
          have h_10 := ih_4 (i4 + 1) (by omega)
          rw [e_9] at h_10
          exact g_sub [2, 1, 0] rfl h_10
        · skip
          refine g_iconst C (v := 1) dX7_blocked_23 (by decide) ?_
          refine g_iload_n C dX7_blocked_24 rfl 2 rfl ?_
          refine g_ishl C dX7_blocked_25 ?_
          refine g_goto C 30 dX7_blocked_26 (by decide) ?_
          refine g_ior C dX7_blocked_30 ?_
          refine g_istore_n C (lv1 := [(1, .int ((lpF (fX7_blocked_L4 μ) 0 i4) ||| (1 <<< ((nI i4) &&& 31)))), (0, .ref (am 0)), (2, .int (nI i4))]) dX7_blocked_31 rfl (by decide) rfl ?_
          refine g_iinc C (v := nI (i4 + 1)) (lv1 := [(2, .int (nI (i4 + 1))), (1, .int ((lpF (fX7_blocked_L4 μ) 0 i4) ||| (1 <<< ((nI i4) &&& 31)))), (0, .ref (am 0))]) dX7_blocked_32 2 rfl (nI_1 i4) (by decide) rfl ?_
          refine g_goto C 4 dX7_blocked_35 (by decide) ?_
          have e_11 : (lpF (fX7_blocked_L4 μ) 0 (i4 + 1)) = (lpF (fX7_blocked_L4 μ) 0 i4) ||| (1 <<< ((nI i4) &&& 31)) := by
            rw [lpF_1, fX7_blocked_L4]; rw [if_neg c_8]
          have h_12 := ih_4 (i4 + 1) (by omega)
          rw [e_11] at h_12
          exact g_sub [2, 1, 0] rfl h_12
  refine g_sub [2, 1, 0] (lv1 := [(0, .ref (am 0)), (1, .int 0), (2, .int 0)]) rfl ?_
  exact hL_3 (cM μ) 0 (by omega)
def fX7_needsIt (μ : BS) (t : Nat) (u : Int32) : Bool :=
  if (((fX7_of μ t 9) >>> (u &&& 31)) &&& 1) = 1 then true else false
theorem caX7_needsIt : gCalV yX7_needsIt cX7_needsIt 3 (some .boolean) 2 := ⟨⟨q6_182, q1_6, by decide +kernel⟩, q6_181, qs_28⟩
set_option maxHeartbeats 4000000 in
set_option maxRecDepth 100000 in
theorem kX7_needsIt (l : Launch) (E : gE) (am : Nat → Nat) (μ : BS)  (t : Nat) (ht : t < 20) (u : Int32) : MC l E yX7_needsIt cX7_needsIt 3 (some .boolean) 1 22 [.ref (am 0), .int (nI t), .int u] [wM E am μ] (some (.int (b2i (fX7_needsIt μ t u)))) [wM E am μ] := by
  refine mc_of (by decide +kernel) (Nat.le_of_ble_eq_true rfl) (lv := [(0, .ref (am 0)), (1, .int (nI t)), (2, .int u)]) rfl (fun X C hE => ?_)
  refine g_aload_n C dX7_needsIt_0 rfl 0 rfl ?_
  refine g_iload_n C dX7_needsIt_1 rfl 1 rfl ?_
  refine g_bipush C (v := 9) dX7_needsIt_2 (by decide) ?_
  refine g_callV C (cs1 := [wM E am μ]) (st1 := [.int (fX7_of μ t 9)]) [.int (nI t), .int 9] [0] (kX7_of l E am μ t (by omega) 9 (by decide)) caX7_of q6_151 rfl ⟨Nat.le_of_ble_eq_true rfl, Nat.le_of_ble_eq_true rfl⟩ ⟨Nat.zero_le _, Nat.zero_le _⟩ 0 0 rfl rfl rfl rfl (by decide) rfl rfl rfl rfl (Nat.le_of_ble_eq_true rfl) dX7_needsIt_4 rfl ?_
  refine g_iload_n C dX7_needsIt_7 rfl 2 rfl ?_
  refine g_ishr C dX7_needsIt_8 ?_
  refine g_iconst C (v := 1) dX7_needsIt_9 (by decide) ?_
  refine g_iand C dX7_needsIt_10 ?_
  refine g_iconst C (v := 1) dX7_needsIt_11 (by decide) ?_
  refine g_icmp_ne C 19 dX7_needsIt_12 (by decide) (fun c_1 => ?_) (fun c_1 => ?_)
  · skip
    refine g_iconst C (v := 0) dX7_needsIt_19 (by decide) ?_
    have e_2 : fX7_needsIt μ t u = false := by rw [fX7_needsIt]; rw [if_neg c_1]
    exact g_zret (b := false) C hE (by rw [e_2]) rfl rfl dX7_needsIt_20
  · skip
    refine g_iconst C (v := 1) dX7_needsIt_15 (by decide) ?_
    refine g_goto C 20 dX7_needsIt_16 (by decide) ?_
    have e_3 : fX7_needsIt μ t u = true := by rw [fX7_needsIt]; rw [if_pos c_1]
    exact g_zret (b := true) C hE (by rw [e_3]) rfl rfl dX7_needsIt_20
