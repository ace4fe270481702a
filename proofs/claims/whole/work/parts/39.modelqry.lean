def fX7_tells (μ : BS) (t : Int32) (w : Nat) : Int32 × BS :=
  if (fX7_isTicket (sI μ 0 0) t) = true then ((fX7_of (sI μ 0 0) t.toNatClampNeg w), sI μ 0 0) else ((fX7_fails (sI μ 0 0) 1).1, (fX7_fails (sI μ 0 0) 1).2)
theorem caX7_tells : gCalV yX7_tells cX7_tells 3 (some .int) 2 := ⟨⟨q7_150, q1_6, by decide +kernel⟩, q7_149, qs_52⟩
set_option maxHeartbeats 4000000 in
set_option maxRecDepth 100000 in
theorem kX7_tells (l : Launch) (E : gE) (am : Nat → Nat) (μ : BS) (hv : vM μ)  (t : Int32) (w : Nat) (hw : w < 10) : MC l E yX7_tells cX7_tells 3 (some .int) 2 43 [.ref (am 0), .int t, .int (nI w)] [wM E am μ] (some (.int (fX7_tells μ t w).1)) [wM E am ((fX7_tells μ t w).2)] := by
  have hv1 : cM μ ≤ 20 := hv.1.1
  have hc0 : μ.2 0 0 = nI (cM μ) := hv.1.2.1
  refine mc_of (by decide +kernel) (Nat.le_of_ble_eq_true rfl) (lv := [(0, .ref (am 0)), (1, .int t), (2, .int (nI w))]) rfl (fun X C hE => ?_)
  refine g_aload_n C dX7_tells_0 rfl 0 rfl ?_
  refine g_iconst C (v := 0) dX7_tells_1 (by decide) ?_
  refine g_putf C (T := TX7) (N := 15) (ty := .int) (w1 := wM E am (sI μ 0 0)) (cs1 := [wM E am (sI μ 0 0)]) 0 0 rfl rfl rfl inX7 tyX7_ok nmX7 0 (by decide) q6_70 rfl (by decide +kernel) rfl rfl (Nat.le_of_ble_eq_true rfl) rfl rfl dX7_tells_2 ?_
  refine g_aload_n C dX7_tells_5 rfl 0 rfl ?_
  refine g_iload_n C dX7_tells_6 rfl 1 rfl ?_
  refine g_callV C (cs1 := [wM E am (sI μ 0 0)]) (st1 := [.int (b2i (fX7_isTicket (sI μ 0 0) t))]) [.int t] [0] (kX7_isTicket l E am (sI μ 0 0) t) caX7_isTicket q6_147 rfl ⟨Nat.le_of_ble_eq_true rfl, Nat.le_of_ble_eq_true rfl⟩ ⟨Nat.zero_le _, Nat.zero_le _⟩ 0 0 rfl rfl rfl rfl (by decide) rfl rfl rfl rfl (Nat.le_of_ble_eq_true rfl) dX7_tells_7 rfl ?_
  refine g_ifB_eq C 22 dX7_tells_10 (by decide) (fun c_1 => ?_) (fun c_1 => ?_)
  · skip
    refine g_aload_n C dX7_tells_22 rfl 0 rfl ?_
    refine g_iconst C (v := 1) dX7_tells_23 (by decide) ?_
    refine g_callV C (cs1 := [wM E am ((fX7_fails (sI μ 0 0) 1).2)]) (st1 := [.int ((fX7_fails (sI μ 0 0) 1).1)]) [.int 1] [0] (kX7_fails l E am (sI μ 0 0) 1) caX7_fails q6_127 rfl ⟨Nat.le_of_ble_eq_true rfl, Nat.le_of_ble_eq_true rfl⟩ ⟨Nat.zero_le _, Nat.zero_le _⟩ 0 0 rfl rfl rfl rfl (by decide) rfl rfl rfl rfl (Nat.le_of_ble_eq_true rfl) dX7_tells_24 rfl ?_
    have e_2 : fX7_tells μ t w = ((fX7_fails (sI μ 0 0) 1).1, (fX7_fails (sI μ 0 0) 1).2) := by rw [fX7_tells]; rw [if_neg (ne_true_of_eq_false c_1)]
    exact g_iret C hE (by rw [e_2]) (by rw [e_2]) dX7_tells_27
  · skip
    have hx_3 := isTicket_i (vM_i0 hv) c_1
    refine g_aload_n C dX7_tells_13 rfl 0 rfl ?_
    refine g_iload_n C dX7_tells_14 rfl 1 rfl ?_
    refine g_iload_n C dX7_tells_15 rfl 2 rfl ?_
    refine g_st (st1 := [.int (nI w), .int (nI t.toNatClampNeg), .ref (am 0)]) (by rw [← hx_3.1]) ?_
    refine g_callV C (cs1 := [wM E am (sI μ 0 0)]) (st1 := [.int (fX7_of (sI μ 0 0) t.toNatClampNeg w)]) [.int (nI t.toNatClampNeg), .int (nI w)] [0] (kX7_of l E am (sI μ 0 0) t.toNatClampNeg (by omega) w (by omega)) caX7_of q6_151 rfl ⟨Nat.le_of_ble_eq_true rfl, Nat.le_of_ble_eq_true rfl⟩ ⟨Nat.zero_le _, Nat.zero_le _⟩ 0 0 rfl rfl rfl rfl (by decide) rfl rfl rfl rfl (Nat.le_of_ble_eq_true rfl) dX7_tells_16 rfl ?_
    refine g_goto C 27 dX7_tells_19 (by decide) ?_
    have e_4 : fX7_tells μ t w = ((fX7_of (sI μ 0 0) t.toNatClampNeg w), sI μ 0 0) := by rw [fX7_tells]; rw [if_pos c_1]
    exact g_iret C hE (by rw [e_4]) (by rw [e_4]) dX7_tells_27
theorem vM_tells {μ : BS} {t : Int32} {w : Nat} (hv : vM μ) : vM (fX7_tells μ t w).2 := by
  unfold fX7_tells
  split <;> exact hv
def fX7_stateOf (μ : BS) (a : Int32) : Int32 × BS :=
  ((fX7_tells μ a 2).1, (fX7_tells μ a 2).2)
theorem caX7_stateOf : gCalV yX7_stateOf cX7_stateOf 2 (some .int) 1 := ⟨⟨q7_146, q1_6, by decide +kernel⟩, q7_144, q7_145⟩
set_option maxHeartbeats 4000000 in
set_option maxRecDepth 100000 in
theorem kX7_stateOf (l : Launch) (E : gE) (am : Nat → Nat) (μ : BS) (hv : vM μ)  (a : Int32) : MC l E yX7_stateOf cX7_stateOf 2 (some .int) 3 65 [.ref (am 0), .int a] [wM E am μ] (some (.int (fX7_stateOf μ a).1)) [wM E am ((fX7_stateOf μ a).2)] := by
  have hv1 : cM μ ≤ 20 := hv.1.1
  have hc0 : μ.2 0 0 = nI (cM μ) := hv.1.2.1
  refine mc_of (by decide +kernel) (Nat.le_of_ble_eq_true rfl) (lv := [(0, .ref (am 0)), (1, .int a)]) rfl (fun X C hE => ?_)
  refine g_aload_n C dX7_stateOf_0 rfl 0 rfl ?_
  refine g_iload_n C dX7_stateOf_1 rfl 1 rfl ?_
  refine g_iconst C (v := 2) dX7_stateOf_2 (by decide) ?_
  refine g_callV C (cs1 := [wM E am ((fX7_tells μ a 2).2)]) (st1 := [.int ((fX7_tells μ a 2).1)]) [.int a, .int 2] [0] (kX7_tells l E am μ hv a 2 (by decide)) caX7_tells q7_147 rfl ⟨Nat.le_of_ble_eq_true rfl, Nat.le_of_ble_eq_true rfl⟩ ⟨Nat.zero_le _, Nat.zero_le _⟩ 0 0 rfl rfl rfl rfl (by decide) rfl rfl rfl rfl (Nat.le_of_ble_eq_true rfl) dX7_stateOf_3 rfl ?_
  have e_1 : fX7_stateOf μ a = ((fX7_tells μ a 2).1, (fX7_tells μ a 2).2) := by rw [fX7_stateOf]
  exact g_iret C hE (by rw [e_1]) (by rw [e_1]) dX7_stateOf_6
def fX7_pointsOf (μ : BS) (a : Int32) : Int32 × BS :=
  ((fX7_tells μ a 0).1, (fX7_tells μ a 0).2)
theorem caX7_pointsOf : gCalV yX7_pointsOf cX7_pointsOf 2 (some .int) 1 := ⟨⟨q7_154, q1_6, by decide +kernel⟩, q7_152, q7_153⟩
set_option maxHeartbeats 4000000 in
set_option maxRecDepth 100000 in
theorem kX7_pointsOf (l : Launch) (E : gE) (am : Nat → Nat) (μ : BS) (hv : vM μ)  (a : Int32) : MC l E yX7_pointsOf cX7_pointsOf 2 (some .int) 3 65 [.ref (am 0), .int a] [wM E am μ] (some (.int (fX7_pointsOf μ a).1)) [wM E am ((fX7_pointsOf μ a).2)] := by
  have hv1 : cM μ ≤ 20 := hv.1.1
  have hc0 : μ.2 0 0 = nI (cM μ) := hv.1.2.1
  refine mc_of (by decide +kernel) (Nat.le_of_ble_eq_true rfl) (lv := [(0, .ref (am 0)), (1, .int a)]) rfl (fun X C hE => ?_)
  refine g_aload_n C dX7_pointsOf_0 rfl 0 rfl ?_
  refine g_iload_n C dX7_pointsOf_1 rfl 1 rfl ?_
  refine g_iconst C (v := 0) dX7_pointsOf_2 (by decide) ?_
  refine g_callV C (cs1 := [wM E am ((fX7_tells μ a 0).2)]) (st1 := [.int ((fX7_tells μ a 0).1)]) [.int a, .int 0] [0] (kX7_tells l E am μ hv a 0 (by decide)) caX7_tells q7_147 rfl ⟨Nat.le_of_ble_eq_true rfl, Nat.le_of_ble_eq_true rfl⟩ ⟨Nat.zero_le _, Nat.zero_le _⟩ 0 0 rfl rfl rfl rfl (by decide) rfl rfl rfl rfl (Nat.le_of_ble_eq_true rfl) dX7_pointsOf_3 rfl ?_
  have e_1 : fX7_pointsOf μ a = ((fX7_tells μ a 0).1, (fX7_tells μ a 0).2) := by rw [fX7_pointsOf]
  exact g_iret C hE (by rw [e_1]) (by rw [e_1]) dX7_pointsOf_6
def fX7_priorityOf (μ : BS) (a : Int32) : Int32 × BS :=
  ((fX7_tells μ a 1).1, (fX7_tells μ a 1).2)
theorem caX7_priorityOf : gCalV yX7_priorityOf cX7_priorityOf 2 (some .int) 1 := ⟨⟨q7_158, q1_6, by decide +kernel⟩, q7_156, q7_157⟩
set_option maxHeartbeats 4000000 in
set_option maxRecDepth 100000 in
theorem kX7_priorityOf (l : Launch) (E : gE) (am : Nat → Nat) (μ : BS) (hv : vM μ)  (a : Int32) : MC l E yX7_priorityOf cX7_priorityOf 2 (some .int) 3 65 [.ref (am 0), .int a] [wM E am μ] (some (.int (fX7_priorityOf μ a).1)) [wM E am ((fX7_priorityOf μ a).2)] := by
  have hv1 : cM μ ≤ 20 := hv.1.1
  have hc0 : μ.2 0 0 = nI (cM μ) := hv.1.2.1
  refine mc_of (by decide +kernel) (Nat.le_of_ble_eq_true rfl) (lv := [(0, .ref (am 0)), (1, .int a)]) rfl (fun X C hE => ?_)
  refine g_aload_n C dX7_priorityOf_0 rfl 0 rfl ?_
  refine g_iload_n C dX7_priorityOf_1 rfl 1 rfl ?_
  refine g_iconst C (v := 1) dX7_priorityOf_2 (by decide) ?_
  refine g_callV C (cs1 := [wM E am ((fX7_tells μ a 1).2)]) (st1 := [.int ((fX7_tells μ a 1).1)]) [.int a, .int 1] [0] (kX7_tells l E am μ hv a 1 (by decide)) caX7_tells q7_147 rfl ⟨Nat.le_of_ble_eq_true rfl, Nat.le_of_ble_eq_true rfl⟩ ⟨Nat.zero_le _, Nat.zero_le _⟩ 0 0 rfl rfl rfl rfl (by decide) rfl rfl rfl rfl (Nat.le_of_ble_eq_true rfl) dX7_priorityOf_3 rfl ?_
  have e_1 : fX7_priorityOf μ a = ((fX7_tells μ a 1).1, (fX7_tells μ a 1).2) := by rw [fX7_priorityOf]
  exact g_iret C hE (by rw [e_1]) (by rw [e_1]) dX7_priorityOf_6
def fX7_hasOwner (μ : BS) (a : Int32) : Bool × BS :=
  if ((fX7_tells μ a 3).1) ≤ 0 then (false, (fX7_tells μ a 3).2) else (true, (fX7_tells μ a 3).2)
theorem caX7_hasOwner : gCalV yX7_hasOwner cX7_hasOwner 2 (some .boolean) 1 := ⟨⟨q7_162, q1_6, by decide +kernel⟩, q7_160, q7_161⟩
set_option maxHeartbeats 4000000 in
set_option maxRecDepth 100000 in
theorem kX7_hasOwner (l : Launch) (E : gE) (am : Nat → Nat) (μ : BS) (hv : vM μ)  (a : Int32) : MC l E yX7_hasOwner cX7_hasOwner 2 (some .boolean) 3 65 [.ref (am 0), .int a] [wM E am μ] (some (.int (b2i (fX7_hasOwner μ a).1))) [wM E am ((fX7_hasOwner μ a).2)] := by
  have hv1 : cM μ ≤ 20 := hv.1.1
  have hc0 : μ.2 0 0 = nI (cM μ) := hv.1.2.1
  refine mc_of (by decide +kernel) (Nat.le_of_ble_eq_true rfl) (lv := [(0, .ref (am 0)), (1, .int a)]) rfl (fun X C hE => ?_)
  refine g_aload_n C dX7_hasOwner_0 rfl 0 rfl ?_
  refine g_iload_n C dX7_hasOwner_1 rfl 1 rfl ?_
  refine g_iconst C (v := 3) dX7_hasOwner_2 (by decide) ?_
  refine g_callV C (cs1 := [wM E am ((fX7_tells μ a 3).2)]) (st1 := [.int ((fX7_tells μ a 3).1)]) [.int a, .int 3] [0] (kX7_tells l E am μ hv a 3 (by decide)) caX7_tells q7_147 rfl ⟨Nat.le_of_ble_eq_true rfl, Nat.le_of_ble_eq_true rfl⟩ ⟨Nat.zero_le _, Nat.zero_le _⟩ 0 0 rfl rfl rfl rfl (by decide) rfl rfl rfl rfl (Nat.le_of_ble_eq_true rfl) dX7_hasOwner_3 rfl ?_
  refine g_if_le C 13 dX7_hasOwner_6 (by decide) (fun c_1 => ?_) (fun c_1 => ?_)
  · skip
    refine g_iconst C (v := 0) dX7_hasOwner_13 (by decide) ?_
    have e_2 : fX7_hasOwner μ a = (false, (fX7_tells μ a 3).2) := by rw [fX7_hasOwner]; rw [if_pos c_1]
    exact g_zret (b := false) C hE (by rw [e_2]) rfl (by rw [e_2]) dX7_hasOwner_14
  · skip
    refine g_iconst C (v := 1) dX7_hasOwner_9 (by decide) ?_
    refine g_goto C 14 dX7_hasOwner_10 (by decide) ?_
    have e_3 : fX7_hasOwner μ a = (true, (fX7_tells μ a 3).2) := by rw [fX7_hasOwner]; rw [if_neg c_1]
    exact g_zret (b := true) C hE (by rw [e_3]) rfl (by rw [e_3]) dX7_hasOwner_14
def fX7_ownerOf (μ : BS) (a : Int32) : Int32 × BS :=
  if (((fX7_tells μ a 3).2).1 0) ≤ 0 then (if ((fX7_tells μ a 3).1) = 0 then ((fX7_fails ((fX7_tells μ a 3).2) 2).1, (fX7_fails ((fX7_tells μ a 3).2) 2).2) else (((fX7_tells μ a 3).1) - 1, (fX7_tells μ a 3).2)) else (0, (fX7_tells μ a 3).2)
theorem caX7_ownerOf : gCalV yX7_ownerOf cX7_ownerOf 3 (some .int) 1 := ⟨⟨q7_166, q1_6, by decide +kernel⟩, q7_164, q7_165⟩
set_option maxHeartbeats 4000000 in
set_option maxRecDepth 100000 in
theorem kX7_ownerOf (l : Launch) (E : gE) (am : Nat → Nat) (μ : BS) (hv : vM μ)  (a : Int32) : MC l E yX7_ownerOf cX7_ownerOf 3 (some .int) 3 65 [.ref (am 0), .int a] [wM E am μ] (some (.int (fX7_ownerOf μ a).1)) [wM E am ((fX7_ownerOf μ a).2)] := by
  have hv1 : cM μ ≤ 20 := hv.1.1
  have hc0 : μ.2 0 0 = nI (cM μ) := hv.1.2.1
  refine mc_of (by decide +kernel) (Nat.le_of_ble_eq_true rfl) (lv := [(0, .ref (am 0)), (1, .int a)]) rfl (fun X C hE => ?_)
  refine g_aload_n C dX7_ownerOf_0 rfl 0 rfl ?_
  refine g_iload_n C dX7_ownerOf_1 rfl 1 rfl ?_
  refine g_iconst C (v := 3) dX7_ownerOf_2 (by decide) ?_
  refine g_callV C (cs1 := [wM E am ((fX7_tells μ a 3).2)]) (st1 := [.int ((fX7_tells μ a 3).1)]) [.int a, .int 3] [0] (kX7_tells l E am μ hv a 3 (by decide)) caX7_tells q7_147 rfl ⟨Nat.le_of_ble_eq_true rfl, Nat.le_of_ble_eq_true rfl⟩ ⟨Nat.zero_le _, Nat.zero_le _⟩ 0 0 rfl rfl rfl rfl (by decide) rfl rfl rfl rfl (Nat.le_of_ble_eq_true rfl) dX7_ownerOf_3 rfl ?_
  refine g_istore_n C (lv1 := [(2, .int ((fX7_tells μ a 3).1)), (0, .ref (am 0)), (1, .int a)]) dX7_ownerOf_6 rfl (by decide) rfl ?_
  refine g_aload_n C dX7_ownerOf_7 rfl 1 rfl ?_
  refine g_getf C (v := .int (((fX7_tells μ a 3).2).1 0)) (T := TX7) (N := 15) 0 0 rfl rfl rfl inX7 0 (by decide) q6_70 rfl dX7_ownerOf_8 ?_
  refine g_if_le C 18 dX7_ownerOf_11 (by decide) (fun c_1 => ?_) (fun c_1 => ?_)
  · skip
    refine g_iload_n C dX7_ownerOf_18 rfl 0 rfl ?_
    refine g_if_ne C 30 dX7_ownerOf_19 (by decide) (fun c_2 => ?_) (fun c_2 => ?_)
    · skip
      refine g_iload_n C dX7_ownerOf_30 rfl 0 rfl ?_
      refine g_iconst C (v := 1) dX7_ownerOf_31 (by decide) ?_
      refine g_isub C dX7_ownerOf_32 ?_
      have e_3 : fX7_ownerOf μ a = (((fX7_tells μ a 3).1) - 1, (fX7_tells μ a 3).2) := by rw [fX7_ownerOf]; rw [if_pos c_1, if_neg c_2]
      exact g_iret C hE (by rw [e_3]) (by rw [e_3]) dX7_ownerOf_33
    · skip
      refine g_aload_n C dX7_ownerOf_22 rfl 1 rfl ?_
      refine g_iconst C (v := 2) dX7_ownerOf_23 (by decide) ?_
      refine g_callV C (cs1 := [wM E am ((fX7_fails ((fX7_tells μ a 3).2) 2).2)]) (st1 := [.int ((fX7_fails ((fX7_tells μ a 3).2) 2).1)]) [.int 2] [0] (kX7_fails l E am ((fX7_tells μ a 3).2) 2) caX7_fails q6_127 rfl ⟨Nat.le_of_ble_eq_true rfl, Nat.le_of_ble_eq_true rfl⟩ ⟨Nat.zero_le _, Nat.zero_le _⟩ 0 0 rfl rfl rfl rfl (by decide) rfl rfl rfl rfl (Nat.le_of_ble_eq_true rfl) dX7_ownerOf_24 rfl ?_
      refine g_goto C 33 dX7_ownerOf_27 (by decide) ?_
      have e_4 : fX7_ownerOf μ a = ((fX7_fails ((fX7_tells μ a 3).2) 2).1, (fX7_fails ((fX7_tells μ a 3).2) 2).2) := by rw [fX7_ownerOf]; rw [if_pos c_1, if_pos c_2]
      exact g_iret C hE (by rw [e_4]) (by rw [e_4]) dX7_ownerOf_33
  · skip
    refine g_iconst C (v := 0) dX7_ownerOf_14 (by decide) ?_
    refine g_goto C 33 dX7_ownerOf_15 (by decide) ?_
    have e_5 : fX7_ownerOf μ a = (0, (fX7_tells μ a 3).2) := by rw [fX7_ownerOf]; rw [if_neg c_1]
    exact g_iret C hE (by rw [e_5]) (by rw [e_5]) dX7_ownerOf_33
def fX7_isPlanned (μ : BS) (a : Int32) : Bool × BS :=
  if ((fX7_tells μ a 4).1) ≤ 0 then (false, (fX7_tells μ a 4).2) else (true, (fX7_tells μ a 4).2)
theorem caX7_isPlanned : gCalV yX7_isPlanned cX7_isPlanned 2 (some .boolean) 1 := ⟨⟨q7_170, q1_6, by decide +kernel⟩, q7_168, q7_169⟩
set_option maxHeartbeats 4000000 in
set_option maxRecDepth 100000 in
theorem kX7_isPlanned (l : Launch) (E : gE) (am : Nat → Nat) (μ : BS) (hv : vM μ)  (a : Int32) : MC l E yX7_isPlanned cX7_isPlanned 2 (some .boolean) 3 65 [.ref (am 0), .int a] [wM E am μ] (some (.int (b2i (fX7_isPlanned μ a).1))) [wM E am ((fX7_isPlanned μ a).2)] := by
  have hv1 : cM μ ≤ 20 := hv.1.1
  have hc0 : μ.2 0 0 = nI (cM μ) := hv.1.2.1
  refine mc_of (by decide +kernel) (Nat.le_of_ble_eq_true rfl) (lv := [(0, .ref (am 0)), (1, .int a)]) rfl (fun X C hE => ?_)
  refine g_aload_n C dX7_isPlanned_0 rfl 0 rfl ?_
  refine g_iload_n C dX7_isPlanned_1 rfl 1 rfl ?_
  refine g_iconst C (v := 4) dX7_isPlanned_2 (by decide) ?_
  refine g_callV C (cs1 := [wM E am ((fX7_tells μ a 4).2)]) (st1 := [.int ((fX7_tells μ a 4).1)]) [.int a, .int 4] [0] (kX7_tells l E am μ hv a 4 (by decide)) caX7_tells q7_147 rfl ⟨Nat.le_of_ble_eq_true rfl, Nat.le_of_ble_eq_true rfl⟩ ⟨Nat.zero_le _, Nat.zero_le _⟩ 0 0 rfl rfl rfl rfl (by decide) rfl rfl rfl rfl (Nat.le_of_ble_eq_true rfl) dX7_isPlanned_3 rfl ?_
  refine g_if_le C 13 dX7_isPlanned_6 (by decide) (fun c_1 => ?_) (fun c_1 => ?_)
  · skip
    refine g_iconst C (v := 0) dX7_isPlanned_13 (by decide) ?_
    have e_2 : fX7_isPlanned μ a = (false, (fX7_tells μ a 4).2) := by rw [fX7_isPlanned]; rw [if_pos c_1]
    exact g_zret (b := false) C hE (by rw [e_2]) rfl (by rw [e_2]) dX7_isPlanned_14
  · skip
    refine g_iconst C (v := 1) dX7_isPlanned_9 (by decide) ?_
    refine g_goto C 14 dX7_isPlanned_10 (by decide) ?_
    have e_3 : fX7_isPlanned μ a = (true, (fX7_tells μ a 4).2) := by rw [fX7_isPlanned]; rw [if_neg c_1]
    exact g_zret (b := true) C hE (by rw [e_3]) rfl (by rw [e_3]) dX7_isPlanned_14
def fX7_milestoneOf (μ : BS) (a : Int32) : Int32 × BS :=
  if (((fX7_tells μ a 4).2).1 0) ≤ 0 then (if ((fX7_tells μ a 4).1) = 0 then ((fX7_fails ((fX7_tells μ a 4).2) 2).1, (fX7_fails ((fX7_tells μ a 4).2) 2).2) else (((fX7_tells μ a 4).1) - 1, (fX7_tells μ a 4).2)) else (0, (fX7_tells μ a 4).2)
theorem caX7_milestoneOf : gCalV yX7_milestoneOf cX7_milestoneOf 3 (some .int) 1 := ⟨⟨q7_174, q1_6, by decide +kernel⟩, q7_172, q7_173⟩
set_option maxHeartbeats 4000000 in
set_option maxRecDepth 100000 in
theorem kX7_milestoneOf (l : Launch) (E : gE) (am : Nat → Nat) (μ : BS) (hv : vM μ)  (a : Int32) : MC l E yX7_milestoneOf cX7_milestoneOf 3 (some .int) 3 65 [.ref (am 0), .int a] [wM E am μ] (some (.int (fX7_milestoneOf μ a).1)) [wM E am ((fX7_milestoneOf μ a).2)] := by
  have hv1 : cM μ ≤ 20 := hv.1.1
  have hc0 : μ.2 0 0 = nI (cM μ) := hv.1.2.1
  refine mc_of (by decide +kernel) (Nat.le_of_ble_eq_true rfl) (lv := [(0, .ref (am 0)), (1, .int a)]) rfl (fun X C hE => ?_)
  refine g_aload_n C dX7_milestoneOf_0 rfl 0 rfl ?_
  refine g_iload_n C dX7_milestoneOf_1 rfl 1 rfl ?_
  refine g_iconst C (v := 4) dX7_milestoneOf_2 (by decide) ?_
  refine g_callV C (cs1 := [wM E am ((fX7_tells μ a 4).2)]) (st1 := [.int ((fX7_tells μ a 4).1)]) [.int a, .int 4] [0] (kX7_tells l E am μ hv a 4 (by decide)) caX7_tells q7_147 rfl ⟨Nat.le_of_ble_eq_true rfl, Nat.le_of_ble_eq_true rfl⟩ ⟨Nat.zero_le _, Nat.zero_le _⟩ 0 0 rfl rfl rfl rfl (by decide) rfl rfl rfl rfl (Nat.le_of_ble_eq_true rfl) dX7_milestoneOf_3 rfl ?_
  refine g_istore_n C (lv1 := [(2, .int ((fX7_tells μ a 4).1)), (0, .ref (am 0)), (1, .int a)]) dX7_milestoneOf_6 rfl (by decide) rfl ?_
  refine g_aload_n C dX7_milestoneOf_7 rfl 1 rfl ?_
  refine g_getf C (v := .int (((fX7_tells μ a 4).2).1 0)) (T := TX7) (N := 15) 0 0 rfl rfl rfl inX7 0 (by decide) q6_70 rfl dX7_milestoneOf_8 ?_
  refine g_if_le C 18 dX7_milestoneOf_11 (by decide) (fun c_1 => ?_) (fun c_1 => ?_)
  · skip
    refine g_iload_n C dX7_milestoneOf_18 rfl 0 rfl ?_
    refine g_if_ne C 30 dX7_milestoneOf_19 (by decide) (fun c_2 => ?_) (fun c_2 => ?_)
    · skip
      refine g_iload_n C dX7_milestoneOf_30 rfl 0 rfl ?_
      refine g_iconst C (v := 1) dX7_milestoneOf_31 (by decide) ?_
      refine g_isub C dX7_milestoneOf_32 ?_
      have e_3 : fX7_milestoneOf μ a = (((fX7_tells μ a 4).1) - 1, (fX7_tells μ a 4).2) := by rw [fX7_milestoneOf]; rw [if_pos c_1, if_neg c_2]
      exact g_iret C hE (by rw [e_3]) (by rw [e_3]) dX7_milestoneOf_33
    · skip
      refine g_aload_n C dX7_milestoneOf_22 rfl 1 rfl ?_
      refine g_iconst C (v := 2) dX7_milestoneOf_23 (by decide) ?_
      refine g_callV C (cs1 := [wM E am ((fX7_fails ((fX7_tells μ a 4).2) 2).2)]) (st1 := [.int ((fX7_fails ((fX7_tells μ a 4).2) 2).1)]) [.int 2] [0] (kX7_fails l E am ((fX7_tells μ a 4).2) 2) caX7_fails q6_127 rfl ⟨Nat.le_of_ble_eq_true rfl, Nat.le_of_ble_eq_true rfl⟩ ⟨Nat.zero_le _, Nat.zero_le _⟩ 0 0 rfl rfl rfl rfl (by decide) rfl rfl rfl rfl (Nat.le_of_ble_eq_true rfl) dX7_milestoneOf_24 rfl ?_
      refine g_goto C 33 dX7_milestoneOf_27 (by decide) ?_
      have e_4 : fX7_milestoneOf μ a = ((fX7_fails ((fX7_tells μ a 4).2) 2).1, (fX7_fails ((fX7_tells μ a 4).2) 2).2) := by rw [fX7_milestoneOf]; rw [if_pos c_1, if_pos c_2]
      exact g_iret C hE (by rw [e_4]) (by rw [e_4]) dX7_milestoneOf_33
  · skip
    refine g_iconst C (v := 0) dX7_milestoneOf_14 (by decide) ?_
    refine g_goto C 33 dX7_milestoneOf_15 (by decide) ?_
    have e_5 : fX7_milestoneOf μ a = (0, (fX7_tells μ a 4).2) := by rw [fX7_milestoneOf]; rw [if_neg c_1]
    exact g_iret C hE (by rw [e_5]) (by rw [e_5]) dX7_milestoneOf_33
def fX7_openedOn (μ : BS) (a : Int32) : Int32 × BS :=
  ((fX7_tells μ a 5).1, (fX7_tells μ a 5).2)
theorem caX7_openedOn : gCalV yX7_openedOn cX7_openedOn 2 (some .int) 1 := ⟨⟨q7_178, q1_6, by decide +kernel⟩, q7_176, q7_177⟩
set_option maxHeartbeats 4000000 in
set_option maxRecDepth 100000 in
theorem kX7_openedOn (l : Launch) (E : gE) (am : Nat → Nat) (μ : BS) (hv : vM μ)  (a : Int32) : MC l E yX7_openedOn cX7_openedOn 2 (some .int) 3 65 [.ref (am 0), .int a] [wM E am μ] (some (.int (fX7_openedOn μ a).1)) [wM E am ((fX7_openedOn μ a).2)] := by
  have hv1 : cM μ ≤ 20 := hv.1.1
  have hc0 : μ.2 0 0 = nI (cM μ) := hv.1.2.1
  refine mc_of (by decide +kernel) (Nat.le_of_ble_eq_true rfl) (lv := [(0, .ref (am 0)), (1, .int a)]) rfl (fun X C hE => ?_)
  refine g_aload_n C dX7_openedOn_0 rfl 0 rfl ?_
  refine g_iload_n C dX7_openedOn_1 rfl 1 rfl ?_
  refine g_iconst C (v := 5) dX7_openedOn_2 (by decide) ?_
  refine g_callV C (cs1 := [wM E am ((fX7_tells μ a 5).2)]) (st1 := [.int ((fX7_tells μ a 5).1)]) [.int a, .int 5] [0] (kX7_tells l E am μ hv a 5 (by decide)) caX7_tells q7_147 rfl ⟨Nat.le_of_ble_eq_true rfl, Nat.le_of_ble_eq_true rfl⟩ ⟨Nat.zero_le _, Nat.zero_le _⟩ 0 0 rfl rfl rfl rfl (by decide) rfl rfl rfl rfl (Nat.le_of_ble_eq_true rfl) dX7_openedOn_3 rfl ?_
  have e_1 : fX7_openedOn μ a = ((fX7_tells μ a 5).1, (fX7_tells μ a 5).2) := by rw [fX7_openedOn]
  exact g_iret C hE (by rw [e_1]) (by rw [e_1]) dX7_openedOn_6
theorem tells_tk {μ : BS} {t : Int32} {w : Nat} (hv : vM μ) (h : ¬ 0 < (fX7_tells μ t w).2.1 0) : t = nI t.toNatClampNeg ∧ t.toNatClampNeg < 20 ∧ t.toNatClampNeg < cM μ := by
  unfold fX7_tells at h
  by_cases c : fX7_isTicket (sI μ 0 0) t = true
  · exact isTicket_i (vM_i0 hv) c
  · rw [if_neg c] at h
    exact absurd (show (0 : Int32) < 1 by decide) h
def fX7_closedOn (μ : BS) (a : Int32) : Int32 × BS :=
  if (((fX7_tells μ a 2).2).1 0) ≤ 0 then (if ((fX7_tells μ a 2).1) = 3 then ((fX7_of ((fX7_tells μ a 2).2) a.toNatClampNeg 6), (fX7_tells μ a 2).2) else ((fX7_fails ((fX7_tells μ a 2).2) 2).1, (fX7_fails ((fX7_tells μ a 2).2) 2).2)) else (0, (fX7_tells μ a 2).2)
theorem caX7_closedOn : gCalV yX7_closedOn cX7_closedOn 3 (some .int) 1 := ⟨⟨q7_182, q1_6, by decide +kernel⟩, q7_180, q7_181⟩
set_option maxHeartbeats 4000000 in
set_option maxRecDepth 100000 in
theorem kX7_closedOn (l : Launch) (E : gE) (am : Nat → Nat) (μ : BS) (hv : vM μ)  (a : Int32) : MC l E yX7_closedOn cX7_closedOn 3 (some .int) 3 65 [.ref (am 0), .int a] [wM E am μ] (some (.int (fX7_closedOn μ a).1)) [wM E am ((fX7_closedOn μ a).2)] := by
  have hv1 : cM μ ≤ 20 := hv.1.1
  have hc0 : μ.2 0 0 = nI (cM μ) := hv.1.2.1
  refine mc_of (by decide +kernel) (Nat.le_of_ble_eq_true rfl) (lv := [(0, .ref (am 0)), (1, .int a)]) rfl (fun X C hE => ?_)
  refine g_aload_n C dX7_closedOn_0 rfl 0 rfl ?_
  refine g_iload_n C dX7_closedOn_1 rfl 1 rfl ?_
  refine g_iconst C (v := 2) dX7_closedOn_2 (by decide) ?_
  refine g_callV C (cs1 := [wM E am ((fX7_tells μ a 2).2)]) (st1 := [.int ((fX7_tells μ a 2).1)]) [.int a, .int 2] [0] (kX7_tells l E am μ hv a 2 (by decide)) caX7_tells q7_147 rfl ⟨Nat.le_of_ble_eq_true rfl, Nat.le_of_ble_eq_true rfl⟩ ⟨Nat.zero_le _, Nat.zero_le _⟩ 0 0 rfl rfl rfl rfl (by decide) rfl rfl rfl rfl (Nat.le_of_ble_eq_true rfl) dX7_closedOn_3 rfl ?_
  refine g_istore_n C (lv1 := [(2, .int ((fX7_tells μ a 2).1)), (0, .ref (am 0)), (1, .int a)]) dX7_closedOn_6 rfl (by decide) rfl ?_
  refine g_aload_n C dX7_closedOn_7 rfl 1 rfl ?_
  refine g_getf C (v := .int (((fX7_tells μ a 2).2).1 0)) (T := TX7) (N := 15) 0 0 rfl rfl rfl inX7 0 (by decide) q6_70 rfl dX7_closedOn_8 ?_
  refine g_if_le C 18 dX7_closedOn_11 (by decide) (fun c_1 => ?_) (fun c_1 => ?_)
  · skip
    have ht9 := tells_tk hv (Int32.not_lt.mpr c_1)
    refine g_iload_n C dX7_closedOn_18 rfl 0 rfl ?_
    refine g_iconst C (v := 3) dX7_closedOn_19 (by decide) ?_
    refine g_icmp_eq C 31 dX7_closedOn_20 (by decide) (fun c_2 => ?_) (fun c_2 => ?_)
    · skip
      refine g_aload_n C dX7_closedOn_31 rfl 1 rfl ?_
      refine g_iload_n C dX7_closedOn_32 rfl 2 rfl ?_
      refine g_bipush C (v := 6) dX7_closedOn_33 (by decide) ?_
      refine g_st (st1 := [.int 6, .int (nI a.toNatClampNeg), .ref (am 0)]) (by rw [← ht9.1]) ?_
      refine g_callV C (cs1 := [wM E am ((fX7_tells μ a 2).2)]) (st1 := [.int (fX7_of ((fX7_tells μ a 2).2) a.toNatClampNeg 6)]) [.int (nI a.toNatClampNeg), .int 6] [0] (kX7_of l E am ((fX7_tells μ a 2).2) a.toNatClampNeg ht9.2.1 6 (by decide)) caX7_of q6_151 rfl ⟨Nat.le_of_ble_eq_true rfl, Nat.le_of_ble_eq_true rfl⟩ ⟨Nat.zero_le _, Nat.zero_le _⟩ 0 0 rfl rfl rfl rfl (by decide) rfl rfl rfl rfl (Nat.le_of_ble_eq_true rfl) dX7_closedOn_35 rfl ?_
      have e_3 : fX7_closedOn μ a = ((fX7_of ((fX7_tells μ a 2).2) a.toNatClampNeg 6), (fX7_tells μ a 2).2) := by rw [fX7_closedOn]; rw [if_pos c_1, if_pos c_2]
      exact g_iret C hE (by rw [e_3]) (by rw [e_3]) dX7_closedOn_38
    · skip
      refine g_aload_n C dX7_closedOn_23 rfl 1 rfl ?_
      refine g_iconst C (v := 2) dX7_closedOn_24 (by decide) ?_
      refine g_callV C (cs1 := [wM E am ((fX7_fails ((fX7_tells μ a 2).2) 2).2)]) (st1 := [.int ((fX7_fails ((fX7_tells μ a 2).2) 2).1)]) [.int 2] [0] (kX7_fails l E am ((fX7_tells μ a 2).2) 2) caX7_fails q6_127 rfl ⟨Nat.le_of_ble_eq_true rfl, Nat.le_of_ble_eq_true rfl⟩ ⟨Nat.zero_le _, Nat.zero_le _⟩ 0 0 rfl rfl rfl rfl (by decide) rfl rfl rfl rfl (Nat.le_of_ble_eq_true rfl) dX7_closedOn_25 rfl ?_
      refine g_goto C 38 dX7_closedOn_28 (by decide) ?_
      have e_4 : fX7_closedOn μ a = ((fX7_fails ((fX7_tells μ a 2).2) 2).1, (fX7_fails ((fX7_tells μ a 2).2) 2).2) := by rw [fX7_closedOn]; rw [if_pos c_1, if_neg c_2]
      exact g_iret C hE (by rw [e_4]) (by rw [e_4]) dX7_closedOn_38
  · skip
    refine g_iconst C (v := 0) dX7_closedOn_14 (by decide) ?_
    refine g_goto C 38 dX7_closedOn_15 (by decide) ?_
    have e_5 : fX7_closedOn μ a = (0, (fX7_tells μ a 2).2) := by rw [fX7_closedOn]; rw [if_neg c_1]
    exact g_iret C hE (by rw [e_5]) (by rw [e_5]) dX7_closedOn_38
def fX7_daysInProgress (μ : BS) (a : Int32) : Int32 × BS :=
  ((fX7_tells μ a 7).1, (fX7_tells μ a 7).2)
theorem caX7_daysInProgress : gCalV yX7_daysInProgress cX7_daysInProgress 2 (some .int) 1 := ⟨⟨q7_186, q1_6, by decide +kernel⟩, q7_184, q7_185⟩
set_option maxHeartbeats 4000000 in
set_option maxRecDepth 100000 in
theorem kX7_daysInProgress (l : Launch) (E : gE) (am : Nat → Nat) (μ : BS) (hv : vM μ)  (a : Int32) : MC l E yX7_daysInProgress cX7_daysInProgress 2 (some .int) 3 65 [.ref (am 0), .int a] [wM E am μ] (some (.int (fX7_daysInProgress μ a).1)) [wM E am ((fX7_daysInProgress μ a).2)] := by
  have hv1 : cM μ ≤ 20 := hv.1.1
  have hc0 : μ.2 0 0 = nI (cM μ) := hv.1.2.1
  refine mc_of (by decide +kernel) (Nat.le_of_ble_eq_true rfl) (lv := [(0, .ref (am 0)), (1, .int a)]) rfl (fun X C hE => ?_)
  refine g_aload_n C dX7_daysInProgress_0 rfl 0 rfl ?_
  refine g_iload_n C dX7_daysInProgress_1 rfl 1 rfl ?_
  refine g_bipush C (v := 7) dX7_daysInProgress_2 (by decide) ?_
  refine g_callV C (cs1 := [wM E am ((fX7_tells μ a 7).2)]) (st1 := [.int ((fX7_tells μ a 7).1)]) [.int a, .int 7] [0] (kX7_tells l E am μ hv a 7 (by decide)) caX7_tells q7_147 rfl ⟨Nat.le_of_ble_eq_true rfl, Nat.le_of_ble_eq_true rfl⟩ ⟨Nat.zero_le _, Nat.zero_le _⟩ 0 0 rfl rfl rfl rfl (by decide) rfl rfl rfl rfl (Nat.le_of_ble_eq_true rfl) dX7_daysInProgress_4 rfl ?_
  have e_1 : fX7_daysInProgress μ a = ((fX7_tells μ a 7).1, (fX7_tells μ a 7).2) := by rw [fX7_daysInProgress]
  exact g_iret C hE (by rw [e_1]) (by rw [e_1]) dX7_daysInProgress_7
def fX7_timesSentBack (μ : BS) (a : Int32) : Int32 × BS :=
  ((fX7_tells μ a 8).1, (fX7_tells μ a 8).2)
theorem caX7_timesSentBack : gCalV yX7_timesSentBack cX7_timesSentBack 2 (some .int) 1 := ⟨⟨q7_190, q1_6, by decide +kernel⟩, q7_188, q7_189⟩
set_option maxHeartbeats 4000000 in
set_option maxRecDepth 100000 in
theorem kX7_timesSentBack (l : Launch) (E : gE) (am : Nat → Nat) (μ : BS) (hv : vM μ)  (a : Int32) : MC l E yX7_timesSentBack cX7_timesSentBack 2 (some .int) 3 65 [.ref (am 0), .int a] [wM E am μ] (some (.int (fX7_timesSentBack μ a).1)) [wM E am ((fX7_timesSentBack μ a).2)] := by
  have hv1 : cM μ ≤ 20 := hv.1.1
  have hc0 : μ.2 0 0 = nI (cM μ) := hv.1.2.1
  refine mc_of (by decide +kernel) (Nat.le_of_ble_eq_true rfl) (lv := [(0, .ref (am 0)), (1, .int a)]) rfl (fun X C hE => ?_)
  refine g_aload_n C dX7_timesSentBack_0 rfl 0 rfl ?_
  refine g_iload_n C dX7_timesSentBack_1 rfl 1 rfl ?_
  refine g_bipush C (v := 8) dX7_timesSentBack_2 (by decide) ?_
  refine g_callV C (cs1 := [wM E am ((fX7_tells μ a 8).2)]) (st1 := [.int ((fX7_tells μ a 8).1)]) [.int a, .int 8] [0] (kX7_tells l E am μ hv a 8 (by decide)) caX7_tells q7_147 rfl ⟨Nat.le_of_ble_eq_true rfl, Nat.le_of_ble_eq_true rfl⟩ ⟨Nat.zero_le _, Nat.zero_le _⟩ 0 0 rfl rfl rfl rfl (by decide) rfl rfl rfl rfl (Nat.le_of_ble_eq_true rfl) dX7_timesSentBack_4 rfl ?_
  have e_1 : fX7_timesSentBack μ a = ((fX7_tells μ a 8).1, (fX7_tells μ a 8).2) := by rw [fX7_timesSentBack]
  exact g_iret C hE (by rw [e_1]) (by rw [e_1]) dX7_timesSentBack_7
def fX7_needs (μ : BS) (a : Int32) (b : Int32) : Bool × BS :=
  if (fX7_isTicket (sI μ 0 0) a) = true then (if (fX7_isTicket (sI μ 0 0) b) = true then ((fX7_needsIt (sI μ 0 0) a.toNatClampNeg b), sI μ 0 0) else (if ((fX7_fails (sI μ 0 0) 1).1) ≤ 0 then (false, (fX7_fails (sI μ 0 0) 1).2) else (true, (fX7_fails (sI μ 0 0) 1).2))) else (if ((fX7_fails (sI μ 0 0) 1).1) ≤ 0 then (false, (fX7_fails (sI μ 0 0) 1).2) else (true, (fX7_fails (sI μ 0 0) 1).2))
theorem caX7_needs : gCalV yX7_needs cX7_needs 3 (some .boolean) 2 := ⟨⟨q7_194, q1_6, by decide +kernel⟩, q7_192, q7_193⟩
set_option maxHeartbeats 4000000 in
set_option maxRecDepth 100000 in
theorem kX7_needs (l : Launch) (E : gE) (am : Nat → Nat) (μ : BS) (hv : vM μ)  (a : Int32) (b : Int32) : MC l E yX7_needs cX7_needs 3 (some .boolean) 2 44 [.ref (am 0), .int a, .int b] [wM E am μ] (some (.int (b2i (fX7_needs μ a b).1))) [wM E am ((fX7_needs μ a b).2)] := by
  have hv1 : cM μ ≤ 20 := hv.1.1
  have hc0 : μ.2 0 0 = nI (cM μ) := hv.1.2.1
  refine mc_of (by decide +kernel) (Nat.le_of_ble_eq_true rfl) (lv := [(0, .ref (am 0)), (1, .int a), (2, .int b)]) rfl (fun X C hE => ?_)
  refine g_aload_n C dX7_needs_0 rfl 0 rfl ?_
  refine g_iconst C (v := 0) dX7_needs_1 (by decide) ?_
  refine g_putf C (T := TX7) (N := 15) (ty := .int) (w1 := wM E am (sI μ 0 0)) (cs1 := [wM E am (sI μ 0 0)]) 0 0 rfl rfl rfl inX7 tyX7_ok nmX7 0 (by decide) q6_70 rfl (by decide +kernel) rfl rfl (Nat.le_of_ble_eq_true rfl) rfl rfl dX7_needs_2 ?_
  refine g_aload_n C dX7_needs_5 rfl 0 rfl ?_
  refine g_iload_n C dX7_needs_6 rfl 1 rfl ?_
  refine g_callV C (cs1 := [wM E am (sI μ 0 0)]) (st1 := [.int (b2i (fX7_isTicket (sI μ 0 0) a))]) [.int a] [0] (kX7_isTicket l E am (sI μ 0 0) a) caX7_isTicket q6_147 rfl ⟨Nat.le_of_ble_eq_true rfl, Nat.le_of_ble_eq_true rfl⟩ ⟨Nat.zero_le _, Nat.zero_le _⟩ 0 0 rfl rfl rfl rfl (by decide) rfl rfl rfl rfl (Nat.le_of_ble_eq_true rfl) dX7_needs_7 rfl ?_
  refine g_ifB_eq C 30 dX7_needs_10 (by decide) (fun c_1 => ?_) (fun c_1 => ?_)
  · skip
    refine g_aload_n C dX7_needs_30 rfl 0 rfl ?_
    refine g_iconst C (v := 1) dX7_needs_31 (by decide) ?_
    refine g_callV C (cs1 := [wM E am ((fX7_fails (sI μ 0 0) 1).2)]) (st1 := [.int ((fX7_fails (sI μ 0 0) 1).1)]) [.int 1] [0] (kX7_fails l E am (sI μ 0 0) 1) caX7_fails q6_127 rfl ⟨Nat.le_of_ble_eq_true rfl, Nat.le_of_ble_eq_true rfl⟩ ⟨Nat.zero_le _, Nat.zero_le _⟩ 0 0 rfl rfl rfl rfl (by decide) rfl rfl rfl rfl (Nat.le_of_ble_eq_true rfl) dX7_needs_32 rfl ?_
    refine g_if_le C 42 dX7_needs_35 (by decide) (fun c_2 => ?_) (fun c_2 => ?_)
    · skip
      refine g_iconst C (v := 0) dX7_needs_42 (by decide) ?_
      have e_3 : fX7_needs μ a b = (false, (fX7_fails (sI μ 0 0) 1).2) := by rw [fX7_needs]; rw [if_neg (ne_true_of_eq_false c_1), if_pos c_2]
      exact g_zret (b := false) C hE (by rw [e_3]) rfl (by rw [e_3]) dX7_needs_43
    · skip
      refine g_iconst C (v := 1) dX7_needs_38 (by decide) ?_
      refine g_goto C 43 dX7_needs_39 (by decide) ?_
      have e_4 : fX7_needs μ a b = (true, (fX7_fails (sI μ 0 0) 1).2) := by rw [fX7_needs]; rw [if_neg (ne_true_of_eq_false c_1), if_neg c_2]
      exact g_zret (b := true) C hE (by rw [e_4]) rfl (by rw [e_4]) dX7_needs_43
  · skip
    have hx_5 := isTicket_i (vM_i0 hv) c_1
    refine g_aload_n C dX7_needs_13 rfl 0 rfl ?_
    refine g_iload_n C dX7_needs_14 rfl 2 rfl ?_
    refine g_callV C (cs1 := [wM E am (sI μ 0 0)]) (st1 := [.int (b2i (fX7_isTicket (sI μ 0 0) b))]) [.int b] [0] (kX7_isTicket l E am (sI μ 0 0) b) caX7_isTicket q6_147 rfl ⟨Nat.le_of_ble_eq_true rfl, Nat.le_of_ble_eq_true rfl⟩ ⟨Nat.zero_le _, Nat.zero_le _⟩ 0 0 rfl rfl rfl rfl (by decide) rfl rfl rfl rfl (Nat.le_of_ble_eq_true rfl) dX7_needs_15 rfl ?_
    refine g_ifB_eq C 30 dX7_needs_18 (by decide) (fun c_6 => ?_) (fun c_6 => ?_)
    · skip
      refine g_aload_n C dX7_needs_30 rfl 0 rfl ?_
      refine g_iconst C (v := 1) dX7_needs_31 (by decide) ?_
      refine g_callV C (cs1 := [wM E am ((fX7_fails (sI μ 0 0) 1).2)]) (st1 := [.int ((fX7_fails (sI μ 0 0) 1).1)]) [.int 1] [0] (kX7_fails l E am (sI μ 0 0) 1) caX7_fails q6_127 rfl ⟨Nat.le_of_ble_eq_true rfl, Nat.le_of_ble_eq_true rfl⟩ ⟨Nat.zero_le _, Nat.zero_le _⟩ 0 0 rfl rfl rfl rfl (by decide) rfl rfl rfl rfl (Nat.le_of_ble_eq_true rfl) dX7_needs_32 rfl ?_
      refine g_if_le C 42 dX7_needs_35 (by decide) (fun c_7 => ?_) (fun c_7 => ?_)
      · skip
        refine g_iconst C (v := 0) dX7_needs_42 (by decide) ?_
        have e_8 : fX7_needs μ a b = (false, (fX7_fails (sI μ 0 0) 1).2) := by rw [fX7_needs]; rw [if_pos c_1, if_neg (ne_true_of_eq_false c_6), if_pos c_7]
        exact g_zret (b := false) C hE (by rw [e_8]) rfl (by rw [e_8]) dX7_needs_43
      · skip
        refine g_iconst C (v := 1) dX7_needs_38 (by decide) ?_
        refine g_goto C 43 dX7_needs_39 (by decide) ?_
        have e_9 : fX7_needs μ a b = (true, (fX7_fails (sI μ 0 0) 1).2) := by rw [fX7_needs]; rw [if_pos c_1, if_neg (ne_true_of_eq_false c_6), if_neg c_7]
        exact g_zret (b := true) C hE (by rw [e_9]) rfl (by rw [e_9]) dX7_needs_43
    · skip
      have hx_10 := isTicket_i (vM_i0 hv) c_6
      refine g_aload_n C dX7_needs_21 rfl 0 rfl ?_
      refine g_iload_n C dX7_needs_22 rfl 1 rfl ?_
      refine g_iload_n C dX7_needs_23 rfl 2 rfl ?_
      refine g_st (st1 := [.int b, .int (nI a.toNatClampNeg), .ref (am 0)]) (by rw [← hx_5.1]) ?_
      refine g_callV C (cs1 := [wM E am (sI μ 0 0)]) (st1 := [.int (b2i (fX7_needsIt (sI μ 0 0) a.toNatClampNeg b))]) [.int (nI a.toNatClampNeg), .int b] [0] (kX7_needsIt l E am (sI μ 0 0) a.toNatClampNeg (by omega) b) caX7_needsIt q6_179 rfl ⟨Nat.le_of_ble_eq_true rfl, Nat.le_of_ble_eq_true rfl⟩ ⟨Nat.zero_le _, Nat.zero_le _⟩ 0 0 rfl rfl rfl rfl (by decide) rfl rfl rfl rfl (Nat.le_of_ble_eq_true rfl) dX7_needs_24 rfl ?_
      refine g_goto C 43 dX7_needs_27 (by decide) ?_
      have e_11 : fX7_needs μ a b = ((fX7_needsIt (sI μ 0 0) a.toNatClampNeg b), sI μ 0 0) := by rw [fX7_needs]; rw [if_pos c_1, if_pos c_6]
      exact g_zret (b := (fX7_needsIt (sI μ 0 0) a.toNatClampNeg b)) C hE (by rw [e_11]) rfl (by rw [e_11]) dX7_needs_43
def fX7_needsOf (μ : BS) (a : Int32) : Int32 × BS :=
  if (fX7_isTicket (sI μ 0 0) a) = true then ((fX7_bits (fX7_of (sI μ 0 0) a.toNatClampNeg 9)), sI μ 0 0) else ((fX7_fails (sI μ 0 0) 1).1, (fX7_fails (sI μ 0 0) 1).2)
theorem caX7_needsOf : gCalV yX7_needsOf cX7_needsOf 2 (some .int) 1 := ⟨⟨q7_198, q1_6, by decide +kernel⟩, q7_196, q7_197⟩
set_option maxHeartbeats 4000000 in
set_option maxRecDepth 100000 in
theorem kX7_needsOf (l : Launch) (E : gE) (am : Nat → Nat) (μ : BS) (hv : vM μ)  (a : Int32) : MC l E yX7_needsOf cX7_needsOf 2 (some .int) 2 43 [.ref (am 0), .int a] [wM E am μ] (some (.int (fX7_needsOf μ a).1)) [wM E am ((fX7_needsOf μ a).2)] := by
  have hv1 : cM μ ≤ 20 := hv.1.1
  have hc0 : μ.2 0 0 = nI (cM μ) := hv.1.2.1
  refine mc_of (by decide +kernel) (Nat.le_of_ble_eq_true rfl) (lv := [(0, .ref (am 0)), (1, .int a)]) rfl (fun X C hE => ?_)
  refine g_aload_n C dX7_needsOf_0 rfl 0 rfl ?_
  refine g_iconst C (v := 0) dX7_needsOf_1 (by decide) ?_
  refine g_putf C (T := TX7) (N := 15) (ty := .int) (w1 := wM E am (sI μ 0 0)) (cs1 := [wM E am (sI μ 0 0)]) 0 0 rfl rfl rfl inX7 tyX7_ok nmX7 0 (by decide) q6_70 rfl (by decide +kernel) rfl rfl (Nat.le_of_ble_eq_true rfl) rfl rfl dX7_needsOf_2 ?_
  refine g_aload_n C dX7_needsOf_5 rfl 0 rfl ?_
  refine g_iload_n C dX7_needsOf_6 rfl 1 rfl ?_
  refine g_callV C (cs1 := [wM E am (sI μ 0 0)]) (st1 := [.int (b2i (fX7_isTicket (sI μ 0 0) a))]) [.int a] [0] (kX7_isTicket l E am (sI μ 0 0) a) caX7_isTicket q6_147 rfl ⟨Nat.le_of_ble_eq_true rfl, Nat.le_of_ble_eq_true rfl⟩ ⟨Nat.zero_le _, Nat.zero_le _⟩ 0 0 rfl rfl rfl rfl (by decide) rfl rfl rfl rfl (Nat.le_of_ble_eq_true rfl) dX7_needsOf_7 rfl ?_
  refine g_ifB_eq C 26 dX7_needsOf_10 (by decide) (fun c_1 => ?_) (fun c_1 => ?_)
  · skip
    refine g_aload_n C dX7_needsOf_26 rfl 0 rfl ?_
    refine g_iconst C (v := 1) dX7_needsOf_27 (by decide) ?_
    refine g_callV C (cs1 := [wM E am ((fX7_fails (sI μ 0 0) 1).2)]) (st1 := [.int ((fX7_fails (sI μ 0 0) 1).1)]) [.int 1] [0] (kX7_fails l E am (sI μ 0 0) 1) caX7_fails q6_127 rfl ⟨Nat.le_of_ble_eq_true rfl, Nat.le_of_ble_eq_true rfl⟩ ⟨Nat.zero_le _, Nat.zero_le _⟩ 0 0 rfl rfl rfl rfl (by decide) rfl rfl rfl rfl (Nat.le_of_ble_eq_true rfl) dX7_needsOf_28 rfl ?_
    have e_2 : fX7_needsOf μ a = ((fX7_fails (sI μ 0 0) 1).1, (fX7_fails (sI μ 0 0) 1).2) := by rw [fX7_needsOf]; rw [if_neg (ne_true_of_eq_false c_1)]
    exact g_iret C hE (by rw [e_2]) (by rw [e_2]) dX7_needsOf_31
  · skip
    have hx_3 := isTicket_i (vM_i0 hv) c_1
    refine g_aload_n C dX7_needsOf_13 rfl 0 rfl ?_
    refine g_iload_n C dX7_needsOf_14 rfl 1 rfl ?_
    refine g_bipush C (v := 9) dX7_needsOf_15 (by decide) ?_
    refine g_st (st1 := [.int 9, .int (nI a.toNatClampNeg), .ref (am 0)]) (by rw [← hx_3.1]) ?_
    refine g_callV C (cs1 := [wM E am (sI μ 0 0)]) (st1 := [.int (fX7_of (sI μ 0 0) a.toNatClampNeg 9)]) [.int (nI a.toNatClampNeg), .int 9] [0] (kX7_of l E am (sI μ 0 0) a.toNatClampNeg (by omega) 9 (by decide)) caX7_of q6_151 rfl ⟨Nat.le_of_ble_eq_true rfl, Nat.le_of_ble_eq_true rfl⟩ ⟨Nat.zero_le _, Nat.zero_le _⟩ 0 0 rfl rfl rfl rfl (by decide) rfl rfl rfl rfl (Nat.le_of_ble_eq_true rfl) dX7_needsOf_17 rfl ?_
    refine g_callS C (cs1 := [wM E am (sI μ 0 0)]) (st1 := [.int (fX7_bits (fX7_of (sI μ 0 0) a.toNatClampNeg 9))]) [.int (fX7_of (sI μ 0 0) a.toNatClampNeg 9)] [] (kX7_bits l E (fX7_of (sI μ 0 0) a.toNatClampNeg 9)) caX7_bits q6_191 rfl ⟨Nat.le_of_ble_eq_true rfl, Nat.le_of_ble_eq_true rfl⟩ ⟨Nat.zero_le _, Nat.zero_le _⟩ (by decide) rfl rfl rfl rfl (Nat.le_of_ble_eq_true rfl) dX7_needsOf_20 rfl ?_
    refine g_goto C 31 dX7_needsOf_23 (by decide) ?_
    have e_4 : fX7_needsOf μ a = ((fX7_bits (fX7_of (sI μ 0 0) a.toNatClampNeg 9)), sI μ 0 0) := by rw [fX7_needsOf]; rw [if_pos c_1]
    exact g_iret C hE (by rw [e_4]) (by rw [e_4]) dX7_needsOf_31
def fX7_neededBy_L23 (μ : BS) (a : Int32) (i23 : Nat) (t23 : Int32) : Int32 :=
  if (fX7_needsIt (sI μ 0 0) i23 a) = true then t23 + 1 else t23 + 0
def fX7_neededBy (μ : BS) (a : Int32) : Int32 × BS :=
  if (fX7_isTicket (sI μ 0 0) a) = true then ((lpF (fX7_neededBy_L23 μ a) 0 (cM μ)), sI μ 0 0) else ((fX7_fails (sI μ 0 0) 1).1, (fX7_fails (sI μ 0 0) 1).2)
theorem caX7_neededBy : gCalV yX7_neededBy cX7_neededBy 4 (some .int) 1 := ⟨⟨q7_202, q1_6, by decide +kernel⟩, q7_200, q7_201⟩
set_option maxHeartbeats 4000000 in
set_option maxRecDepth 100000 in
theorem kX7_neededBy (l : Launch) (E : gE) (am : Nat → Nat) (μ : BS) (hv : vM μ)  (a : Int32) : MC l E yX7_neededBy cX7_neededBy 4 (some .int) 2 44 [.ref (am 0), .int a] [wM E am μ] (some (.int (fX7_neededBy μ a).1)) [wM E am ((fX7_neededBy μ a).2)] := by
  have hv1 : cM μ ≤ 20 := hv.1.1
  have hc0 : μ.2 0 0 = nI (cM μ) := hv.1.2.1
  refine mc_of (by decide +kernel) (Nat.le_of_ble_eq_true rfl) (lv := [(0, .ref (am 0)), (1, .int a)]) rfl (fun X C hE => ?_)
  refine g_aload_n C dX7_neededBy_0 rfl 0 rfl ?_
  refine g_iconst C (v := 0) dX7_neededBy_1 (by decide) ?_
  refine g_putf C (T := TX7) (N := 15) (ty := .int) (w1 := wM E am (sI μ 0 0)) (cs1 := [wM E am (sI μ 0 0)]) 0 0 rfl rfl rfl inX7 tyX7_ok nmX7 0 (by decide) q6_70 rfl (by decide +kernel) rfl rfl (Nat.le_of_ble_eq_true rfl) rfl rfl dX7_neededBy_2 ?_
  refine g_aload_n C dX7_neededBy_5 rfl 0 rfl ?_
  refine g_iload_n C dX7_neededBy_6 rfl 1 rfl ?_
  refine g_callV C (cs1 := [wM E am (sI μ 0 0)]) (st1 := [.int (b2i (fX7_isTicket (sI μ 0 0) a))]) [.int a] [0] (kX7_isTicket l E am (sI μ 0 0) a) caX7_isTicket q6_147 rfl ⟨Nat.le_of_ble_eq_true rfl, Nat.le_of_ble_eq_true rfl⟩ ⟨Nat.zero_le _, Nat.zero_le _⟩ 0 0 rfl rfl rfl rfl (by decide) rfl rfl rfl rfl (Nat.le_of_ble_eq_true rfl) dX7_neededBy_7 rfl ?_
  refine g_ifB_ne C 19 dX7_neededBy_10 (by decide) (fun c_1 => ?_) (fun c_1 => ?_)
  · skip
    have hx_2 := isTicket_i (vM_i0 hv) c_1
    refine g_iconst C (v := 0) dX7_neededBy_19 (by decide) ?_
    refine g_istore_n C (lv1 := [(2, .int 0), (0, .ref (am 0)), (1, .int a)]) dX7_neededBy_20 rfl (by decide) rfl ?_
    refine g_iconst C (v := 0) dX7_neededBy_21 (by decide) ?_
    refine g_istore_n C (lv1 := [(3, .int 0), (2, .int 0), (0, .ref (am 0)), (1, .int a)]) dX7_neededBy_22 rfl (by decide) rfl ?_
    have hL_5 : ∀ d_3 i23 : Nat, i23 + d_3 = (cM μ) → G X 0 0 [wM E am (sI μ 0 0)] [(0, .ref (am 0)), (1, .int a), (2, .int (lpF (fX7_neededBy_L23 μ a) 0 i23)), (3, .int (nI i23))] 23 [] := by
      intro d_3
      induction d_3 with
      | zero =>
        intro i23 hi_4
        obtain rfl : i23 = (cM μ) := by omega
        refine g_iload_n C dX7_neededBy_23 rfl 3 rfl ?_
        refine g_aload_n C dX7_neededBy_24 rfl 0 rfl ?_
        refine g_getf C (T := TX7) (N := 15) 0 0 rfl rfl rfl inX7 1 (by decide) q6_71 rfl dX7_neededBy_25 ?_
        refine g_iconst C (v := 0) dX7_neededBy_28 (by decide) ?_
        refine g_ialdn C (f := μ.2 0) 0 1 0 rfl rfl rfl (by decide) (by decide) dX7_neededBy_29 ?_
        refine g_icmp_ge C 56 dX7_neededBy_30 (by decide) (fun c_7 => ?_) (fun c_7 => ?_)
        · skip
          refine g_iload_n C dX7_neededBy_56 rfl 2 rfl ?_
          have e_8 : fX7_neededBy μ a = ((lpF (fX7_neededBy_L23 μ a) 0 (cM μ)), sI μ 0 0) := by rw [fX7_neededBy]; rw [if_pos c_1]
          exact g_iret C hE (by rw [e_8]) (by rw [e_8]) dX7_neededBy_57
        · exact absurd (lc_le rfl hc0 (by omega) (by omega)) c_7
      | succ d_3 ih_6 =>
        intro i23 hi_4
        refine g_iload_n C dX7_neededBy_23 rfl 3 rfl ?_
        refine g_aload_n C dX7_neededBy_24 rfl 0 rfl ?_
        refine g_getf C (T := TX7) (N := 15) 0 0 rfl rfl rfl inX7 1 (by decide) q6_71 rfl dX7_neededBy_25 ?_
        refine g_iconst C (v := 0) dX7_neededBy_28 (by decide) ?_
        refine g_ialdn C (f := μ.2 0) 0 1 0 rfl rfl rfl (by decide) (by decide) dX7_neededBy_29 ?_
        refine g_icmp_ge C 56 dX7_neededBy_30 (by decide) (fun c_9 => ?_) (fun c_9 => ?_)
        · exact absurd c_9 (lc_nle rfl hc0 (by omega) (by omega))
        · skip
          refine g_iload_n C dX7_neededBy_33 rfl 2 rfl ?_
          refine g_aload_n C dX7_neededBy_34 rfl 0 rfl ?_
          refine g_iload_n C dX7_neededBy_35 rfl 3 rfl ?_
          refine g_iload_n C dX7_neededBy_36 rfl 1 rfl ?_
          refine g_callV C (cs1 := [wM E am (sI μ 0 0)]) (st1 := [.int (b2i (fX7_needsIt (sI μ 0 0) i23 a)), .int (lpF (fX7_neededBy_L23 μ a) 0 i23)]) [.int (nI i23), .int a] [0] (kX7_needsIt l E am (sI μ 0 0) i23 (by omega) a) caX7_needsIt q6_179 rfl ⟨Nat.le_of_ble_eq_true rfl, Nat.le_of_ble_eq_true rfl⟩ ⟨Nat.zero_le _, Nat.zero_le _⟩ 0 0 rfl rfl rfl rfl (by decide) rfl rfl rfl rfl (Nat.le_of_ble_eq_true rfl) dX7_neededBy_37 rfl ?_
          refine g_ifB_eq C 47 dX7_neededBy_40 (by decide) (fun c_10 => ?_) (fun c_10 => ?_)
          · skip
            refine g_iconst C (v := 0) dX7_neededBy_47 (by decide) ?_
            refine g_iadd C dX7_neededBy_48 ?_
            refine g_istore_n C (lv1 := [(2, .int ((lpF (fX7_neededBy_L23 μ a) 0 i23) + 0)), (0, .ref (am 0)), (1, .int a), (3, .int (nI i23))]) dX7_neededBy_49 rfl (by decide) rfl ?_
            refine g_iinc C (v := nI (i23 + 1)) (lv1 := [(3, .int (nI (i23 + 1))), (2, .int ((lpF (fX7_neededBy_L23 μ a) 0 i23) + 0)), (0, .ref (am 0)), (1, .int a)]) dX7_neededBy_50 3 rfl (nI_1 i23) (by decide) rfl ?_
            refine g_goto C 23 dX7_neededBy_53 (by decide) ?_
            have e_11 : (lpF (fX7_neededBy_L23 μ a) 0 (i23 + 1)) = (lpF (fX7_neededBy_L23 μ a) 0 i23) + 0 := by
              rw [lpF_1, fX7_neededBy_L23]; rw [if_neg (ne_true_of_eq_false c_10)]
            have h_12 := ih_6 (i23 + 1) (by omega)
            rw [e_11] at h_12
            exact g_sub [2, 3, 1, 0] rfl h_12
          · skip
            refine g_iconst C (v := 1) dX7_neededBy_43 (by decide) ?_
            refine g_goto C 48 dX7_neededBy_44 (by decide) ?_
            refine g_iadd C dX7_neededBy_48 ?_
            refine g_istore_n C (lv1 := [(2, .int ((lpF (fX7_neededBy_L23 μ a) 0 i23) + 1)), (0, .ref (am 0)), (1, .int a), (3, .int (nI i23))]) dX7_neededBy_49 rfl (by decide) rfl ?_
            refine g_iinc C (v := nI (i23 + 1)) (lv1 := [(3, .int (nI (i23 + 1))), (2, .int ((lpF (fX7_neededBy_L23 μ a) 0 i23) + 1)), (0, .ref (am 0)), (1, .int a)]) dX7_neededBy_50 3 rfl (nI_1 i23) (by decide) rfl ?_
            refine g_goto C 23 dX7_neededBy_53 (by decide) ?_
            have e_13 : (lpF (fX7_neededBy_L23 μ a) 0 (i23 + 1)) = (lpF (fX7_neededBy_L23 μ a) 0 i23) + 1 := by
              rw [lpF_1, fX7_neededBy_L23]; rw [if_pos c_10]
            have h_14 := ih_6 (i23 + 1) (by omega)
            rw [e_13] at h_14
            exact g_sub [2, 3, 1, 0] rfl h_14
    refine g_sub [2, 3, 1, 0] (lv1 := [(0, .ref (am 0)), (1, .int a), (2, .int 0), (3, .int 0)]) rfl ?_
    exact hL_5 (cM μ) 0 (by omega)
  · skip
    refine g_aload_n C dX7_neededBy_13 rfl 0 rfl ?_
    refine g_iconst C (v := 1) dX7_neededBy_14 (by decide) ?_
    refine g_callV C (cs1 := [wM E am ((fX7_fails (sI μ 0 0) 1).2)]) (st1 := [.int ((fX7_fails (sI μ 0 0) 1).1)]) [.int 1] [0] (kX7_fails l E am (sI μ 0 0) 1) caX7_fails q6_127 rfl ⟨Nat.le_of_ble_eq_true rfl, Nat.le_of_ble_eq_true rfl⟩ ⟨Nat.zero_le _, Nat.zero_le _⟩ 0 0 rfl rfl rfl rfl (by decide) rfl rfl rfl rfl (Nat.le_of_ble_eq_true rfl) dX7_neededBy_15 rfl ?_
    have e_15 : fX7_neededBy μ a = ((fX7_fails (sI μ 0 0) 1).1, (fX7_fails (sI μ 0 0) 1).2) := by rw [fX7_neededBy]; rw [if_neg (ne_true_of_eq_false c_1)]
    exact g_iret C hE (by rw [e_15]) (by rw [e_15]) dX7_neededBy_18
def fX7_isBlocked (μ : BS) (a : Int32) : Bool × BS :=
  if (fX7_isTicket (sI μ 0 0) a) = true then (if (fX7_blockers (sI μ 0 0) a.toNatClampNeg) = 0 then (false, sI μ 0 0) else (true, sI μ 0 0)) else (if ((fX7_fails (sI μ 0 0) 1).1) ≤ 0 then (false, (fX7_fails (sI μ 0 0) 1).2) else (true, (fX7_fails (sI μ 0 0) 1).2))
theorem caX7_isBlocked : gCalV yX7_isBlocked cX7_isBlocked 2 (some .boolean) 1 := ⟨⟨q7_206, q1_6, by decide +kernel⟩, q7_204, q7_205⟩
set_option maxHeartbeats 4000000 in
set_option maxRecDepth 100000 in
theorem kX7_isBlocked (l : Launch) (E : gE) (am : Nat → Nat) (μ : BS) (hv : vM μ)  (a : Int32) : MC l E yX7_isBlocked cX7_isBlocked 2 (some .boolean) 4 86 [.ref (am 0), .int a] [wM E am μ] (some (.int (b2i (fX7_isBlocked μ a).1))) [wM E am ((fX7_isBlocked μ a).2)] := by
  have hv1 : cM μ ≤ 20 := hv.1.1
  have hc0 : μ.2 0 0 = nI (cM μ) := hv.1.2.1
  refine mc_of (by decide +kernel) (Nat.le_of_ble_eq_true rfl) (lv := [(0, .ref (am 0)), (1, .int a)]) rfl (fun X C hE => ?_)
  refine g_aload_n C dX7_isBlocked_0 rfl 0 rfl ?_
  refine g_iconst C (v := 0) dX7_isBlocked_1 (by decide) ?_
  refine g_putf C (T := TX7) (N := 15) (ty := .int) (w1 := wM E am (sI μ 0 0)) (cs1 := [wM E am (sI μ 0 0)]) 0 0 rfl rfl rfl inX7 tyX7_ok nmX7 0 (by decide) q6_70 rfl (by decide +kernel) rfl rfl (Nat.le_of_ble_eq_true rfl) rfl rfl dX7_isBlocked_2 ?_
  refine g_aload_n C dX7_isBlocked_5 rfl 0 rfl ?_
  refine g_iload_n C dX7_isBlocked_6 rfl 1 rfl ?_
  refine g_callV C (cs1 := [wM E am (sI μ 0 0)]) (st1 := [.int (b2i (fX7_isTicket (sI μ 0 0) a))]) [.int a] [0] (kX7_isTicket l E am (sI μ 0 0) a) caX7_isTicket q6_147 rfl ⟨Nat.le_of_ble_eq_true rfl, Nat.le_of_ble_eq_true rfl⟩ ⟨Nat.zero_le _, Nat.zero_le _⟩ 0 0 rfl rfl rfl rfl (by decide) rfl rfl rfl rfl (Nat.le_of_ble_eq_true rfl) dX7_isBlocked_7 rfl ?_
  refine g_ifB_eq C 29 dX7_isBlocked_10 (by decide) (fun c_1 => ?_) (fun c_1 => ?_)
  · skip
    refine g_aload_n C dX7_isBlocked_29 rfl 0 rfl ?_
    refine g_iconst C (v := 1) dX7_isBlocked_30 (by decide) ?_
    refine g_callV C (cs1 := [wM E am ((fX7_fails (sI μ 0 0) 1).2)]) (st1 := [.int ((fX7_fails (sI μ 0 0) 1).1)]) [.int 1] [0] (kX7_fails l E am (sI μ 0 0) 1) caX7_fails q6_127 rfl ⟨Nat.le_of_ble_eq_true rfl, Nat.le_of_ble_eq_true rfl⟩ ⟨Nat.zero_le _, Nat.zero_le _⟩ 0 0 rfl rfl rfl rfl (by decide) rfl rfl rfl rfl (Nat.le_of_ble_eq_true rfl) dX7_isBlocked_31 rfl ?_
    refine g_if_le C 41 dX7_isBlocked_34 (by decide) (fun c_2 => ?_) (fun c_2 => ?_)
    · skip
      refine g_iconst C (v := 0) dX7_isBlocked_41 (by decide) ?_
      have e_3 : fX7_isBlocked μ a = (false, (fX7_fails (sI μ 0 0) 1).2) := by rw [fX7_isBlocked]; rw [if_neg (ne_true_of_eq_false c_1), if_pos c_2]
      exact g_zret (b := false) C hE (by rw [e_3]) rfl (by rw [e_3]) dX7_isBlocked_42
    · skip
      refine g_iconst C (v := 1) dX7_isBlocked_37 (by decide) ?_
      refine g_goto C 42 dX7_isBlocked_38 (by decide) ?_
      have e_4 : fX7_isBlocked μ a = (true, (fX7_fails (sI μ 0 0) 1).2) := by rw [fX7_isBlocked]; rw [if_neg (ne_true_of_eq_false c_1), if_neg c_2]
      exact g_zret (b := true) C hE (by rw [e_4]) rfl (by rw [e_4]) dX7_isBlocked_42
  · skip
    have hx_5 := isTicket_i (vM_i0 hv) c_1
    refine g_aload_n C dX7_isBlocked_13 rfl 0 rfl ?_
    refine g_iload_n C dX7_isBlocked_14 rfl 1 rfl ?_
    refine g_st (st1 := [.int (nI a.toNatClampNeg), .ref (am 0)]) (by rw [← hx_5.1]) ?_
    refine g_callV C (cs1 := [wM E am (sI μ 0 0)]) (st1 := [.int (fX7_blockers (sI μ 0 0) a.toNatClampNeg)]) [.int (nI a.toNatClampNeg)] [0] (kX7_blockers l E am (sI μ 0 0) (vM_i0 hv) a.toNatClampNeg (by omega)) caX7_blockers q7_32 rfl ⟨Nat.le_of_ble_eq_true rfl, Nat.le_of_ble_eq_true rfl⟩ ⟨Nat.zero_le _, Nat.zero_le _⟩ 0 0 rfl rfl rfl rfl (by decide) rfl rfl rfl rfl (Nat.le_of_ble_eq_true rfl) dX7_isBlocked_15 rfl ?_
    refine g_if_eq C 25 dX7_isBlocked_18 (by decide) (fun c_6 => ?_) (fun c_6 => ?_)
    · skip
      refine g_iconst C (v := 0) dX7_isBlocked_25 (by decide) ?_
      refine g_goto C 42 dX7_isBlocked_26 (by decide) ?_
      have e_7 : fX7_isBlocked μ a = (false, sI μ 0 0) := by rw [fX7_isBlocked]; rw [if_pos c_1, if_pos c_6]
      exact g_zret (b := false) C hE (by rw [e_7]) rfl (by rw [e_7]) dX7_isBlocked_42
    · skip
      refine g_iconst C (v := 1) dX7_isBlocked_21 (by decide) ?_
      refine g_goto C 42 dX7_isBlocked_22 (by decide) ?_
      have e_8 : fX7_isBlocked μ a = (true, sI μ 0 0) := by rw [fX7_isBlocked]; rw [if_pos c_1, if_neg c_6]
      exact g_zret (b := true) C hE (by rw [e_8]) rfl (by rw [e_8]) dX7_isBlocked_42
def fX7_blockersOf (μ : BS) (a : Int32) : Int32 × BS :=
  if (fX7_isTicket (sI μ 0 0) a) = true then ((fX7_bits (fX7_blockers (sI μ 0 0) a.toNatClampNeg)), sI μ 0 0) else ((fX7_fails (sI μ 0 0) 1).1, (fX7_fails (sI μ 0 0) 1).2)
theorem caX7_blockersOf : gCalV yX7_blockersOf cX7_blockersOf 2 (some .int) 1 := ⟨⟨q7_210, q1_6, by decide +kernel⟩, q7_208, q7_209⟩
set_option maxHeartbeats 4000000 in
set_option maxRecDepth 100000 in
theorem kX7_blockersOf (l : Launch) (E : gE) (am : Nat → Nat) (μ : BS) (hv : vM μ)  (a : Int32) : MC l E yX7_blockersOf cX7_blockersOf 2 (some .int) 4 86 [.ref (am 0), .int a] [wM E am μ] (some (.int (fX7_blockersOf μ a).1)) [wM E am ((fX7_blockersOf μ a).2)] := by
  have hv1 : cM μ ≤ 20 := hv.1.1
  have hc0 : μ.2 0 0 = nI (cM μ) := hv.1.2.1
  refine mc_of (by decide +kernel) (Nat.le_of_ble_eq_true rfl) (lv := [(0, .ref (am 0)), (1, .int a)]) rfl (fun X C hE => ?_)
  refine g_aload_n C dX7_blockersOf_0 rfl 0 rfl ?_
  refine g_iconst C (v := 0) dX7_blockersOf_1 (by decide) ?_
  refine g_putf C (T := TX7) (N := 15) (ty := .int) (w1 := wM E am (sI μ 0 0)) (cs1 := [wM E am (sI μ 0 0)]) 0 0 rfl rfl rfl inX7 tyX7_ok nmX7 0 (by decide) q6_70 rfl (by decide +kernel) rfl rfl (Nat.le_of_ble_eq_true rfl) rfl rfl dX7_blockersOf_2 ?_
  refine g_aload_n C dX7_blockersOf_5 rfl 0 rfl ?_
  refine g_iload_n C dX7_blockersOf_6 rfl 1 rfl ?_
  refine g_callV C (cs1 := [wM E am (sI μ 0 0)]) (st1 := [.int (b2i (fX7_isTicket (sI μ 0 0) a))]) [.int a] [0] (kX7_isTicket l E am (sI μ 0 0) a) caX7_isTicket q6_147 rfl ⟨Nat.le_of_ble_eq_true rfl, Nat.le_of_ble_eq_true rfl⟩ ⟨Nat.zero_le _, Nat.zero_le _⟩ 0 0 rfl rfl rfl rfl (by decide) rfl rfl rfl rfl (Nat.le_of_ble_eq_true rfl) dX7_blockersOf_7 rfl ?_
  refine g_ifB_eq C 24 dX7_blockersOf_10 (by decide) (fun c_1 => ?_) (fun c_1 => ?_)
  · skip
    refine g_aload_n C dX7_blockersOf_24 rfl 0 rfl ?_
    refine g_iconst C (v := 1) dX7_blockersOf_25 (by decide) ?_
    refine g_callV C (cs1 := [wM E am ((fX7_fails (sI μ 0 0) 1).2)]) (st1 := [.int ((fX7_fails (sI μ 0 0) 1).1)]) [.int 1] [0] (kX7_fails l E am (sI μ 0 0) 1) caX7_fails q6_127 rfl ⟨Nat.le_of_ble_eq_true rfl, Nat.le_of_ble_eq_true rfl⟩ ⟨Nat.zero_le _, Nat.zero_le _⟩ 0 0 rfl rfl rfl rfl (by decide) rfl rfl rfl rfl (Nat.le_of_ble_eq_true rfl) dX7_blockersOf_26 rfl ?_
    have e_2 : fX7_blockersOf μ a = ((fX7_fails (sI μ 0 0) 1).1, (fX7_fails (sI μ 0 0) 1).2) := by rw [fX7_blockersOf]; rw [if_neg (ne_true_of_eq_false c_1)]
    exact g_iret C hE (by rw [e_2]) (by rw [e_2]) dX7_blockersOf_29
  · skip
    have hx_3 := isTicket_i (vM_i0 hv) c_1
    refine g_aload_n C dX7_blockersOf_13 rfl 0 rfl ?_
    refine g_iload_n C dX7_blockersOf_14 rfl 1 rfl ?_
    refine g_st (st1 := [.int (nI a.toNatClampNeg), .ref (am 0)]) (by rw [← hx_3.1]) ?_
    refine g_callV C (cs1 := [wM E am (sI μ 0 0)]) (st1 := [.int (fX7_blockers (sI μ 0 0) a.toNatClampNeg)]) [.int (nI a.toNatClampNeg)] [0] (kX7_blockers l E am (sI μ 0 0) (vM_i0 hv) a.toNatClampNeg (by omega)) caX7_blockers q7_32 rfl ⟨Nat.le_of_ble_eq_true rfl, Nat.le_of_ble_eq_true rfl⟩ ⟨Nat.zero_le _, Nat.zero_le _⟩ 0 0 rfl rfl rfl rfl (by decide) rfl rfl rfl rfl (Nat.le_of_ble_eq_true rfl) dX7_blockersOf_15 rfl ?_
    refine g_callS C (cs1 := [wM E am (sI μ 0 0)]) (st1 := [.int (fX7_bits (fX7_blockers (sI μ 0 0) a.toNatClampNeg))]) [.int (fX7_blockers (sI μ 0 0) a.toNatClampNeg)] [] (kX7_bits l E (fX7_blockers (sI μ 0 0) a.toNatClampNeg)) caX7_bits q6_191 rfl ⟨Nat.le_of_ble_eq_true rfl, Nat.le_of_ble_eq_true rfl⟩ ⟨Nat.zero_le _, Nat.zero_le _⟩ (by decide) rfl rfl rfl rfl (Nat.le_of_ble_eq_true rfl) dX7_blockersOf_18 rfl ?_
    refine g_goto C 29 dX7_blockersOf_21 (by decide) ?_
    have e_4 : fX7_blockersOf μ a = ((fX7_bits (fX7_blockers (sI μ 0 0) a.toNatClampNeg)), sI μ 0 0) := by rw [fX7_blockersOf]; rw [if_pos c_1]
    exact g_iret C hE (by rw [e_4]) (by rw [e_4]) dX7_blockersOf_29
def fX7_allNeedsByGoing (μ : BS) (a : Int32) : Int32 × BS :=
  if (fX7_isTicket (sI μ 0 0) a) = true then ((fX7_bits (fX7_allNeeds (sI μ 0 0) a.toNatClampNeg)), sI μ 0 0) else ((fX7_fails (sI μ 0 0) 1).1, (fX7_fails (sI μ 0 0) 1).2)
theorem caX7_allNeedsByGoing : gCalV yX7_allNeedsByGoing cX7_allNeedsByGoing 2 (some .int) 1 := ⟨⟨q7_214, q1_6, by decide +kernel⟩, q7_212, q7_213⟩
set_option maxHeartbeats 4000000 in
set_option maxRecDepth 100000 in
theorem kX7_allNeedsByGoing (l : Launch) (E : gE) (am : Nat → Nat) (μ : BS) (hv : vM μ)  (a : Int32) : MC l E yX7_allNeedsByGoing cX7_allNeedsByGoing 2 (some .int) 2 46 [.ref (am 0), .int a] [wM E am μ] (some (.int (fX7_allNeedsByGoing μ a).1)) [wM E am ((fX7_allNeedsByGoing μ a).2)] := by
  have hv1 : cM μ ≤ 20 := hv.1.1
  have hc0 : μ.2 0 0 = nI (cM μ) := hv.1.2.1
  refine mc_of (by decide +kernel) (Nat.le_of_ble_eq_true rfl) (lv := [(0, .ref (am 0)), (1, .int a)]) rfl (fun X C hE => ?_)
  refine g_aload_n C dX7_allNeedsByGoing_0 rfl 0 rfl ?_
  refine g_iconst C (v := 0) dX7_allNeedsByGoing_1 (by decide) ?_
  refine g_putf C (T := TX7) (N := 15) (ty := .int) (w1 := wM E am (sI μ 0 0)) (cs1 := [wM E am (sI μ 0 0)]) 0 0 rfl rfl rfl inX7 tyX7_ok nmX7 0 (by decide) q6_70 rfl (by decide +kernel) rfl rfl (Nat.le_of_ble_eq_true rfl) rfl rfl dX7_allNeedsByGoing_2 ?_
  refine g_aload_n C dX7_allNeedsByGoing_5 rfl 0 rfl ?_
  refine g_iload_n C dX7_allNeedsByGoing_6 rfl 1 rfl ?_
  refine g_callV C (cs1 := [wM E am (sI μ 0 0)]) (st1 := [.int (b2i (fX7_isTicket (sI μ 0 0) a))]) [.int a] [0] (kX7_isTicket l E am (sI μ 0 0) a) caX7_isTicket q6_147 rfl ⟨Nat.le_of_ble_eq_true rfl, Nat.le_of_ble_eq_true rfl⟩ ⟨Nat.zero_le _, Nat.zero_le _⟩ 0 0 rfl rfl rfl rfl (by decide) rfl rfl rfl rfl (Nat.le_of_ble_eq_true rfl) dX7_allNeedsByGoing_7 rfl ?_
  refine g_ifB_eq C 24 dX7_allNeedsByGoing_10 (by decide) (fun c_1 => ?_) (fun c_1 => ?_)
  · skip
    refine g_aload_n C dX7_allNeedsByGoing_24 rfl 0 rfl ?_
    refine g_iconst C (v := 1) dX7_allNeedsByGoing_25 (by decide) ?_
    refine g_callV C (cs1 := [wM E am ((fX7_fails (sI μ 0 0) 1).2)]) (st1 := [.int ((fX7_fails (sI μ 0 0) 1).1)]) [.int 1] [0] (kX7_fails l E am (sI μ 0 0) 1) caX7_fails q6_127 rfl ⟨Nat.le_of_ble_eq_true rfl, Nat.le_of_ble_eq_true rfl⟩ ⟨Nat.zero_le _, Nat.zero_le _⟩ 0 0 rfl rfl rfl rfl (by decide) rfl rfl rfl rfl (Nat.le_of_ble_eq_true rfl) dX7_allNeedsByGoing_26 rfl ?_
    have e_2 : fX7_allNeedsByGoing μ a = ((fX7_fails (sI μ 0 0) 1).1, (fX7_fails (sI μ 0 0) 1).2) := by rw [fX7_allNeedsByGoing]; rw [if_neg (ne_true_of_eq_false c_1)]
    exact g_iret C hE (by rw [e_2]) (by rw [e_2]) dX7_allNeedsByGoing_29
  · skip
    have hx_3 := isTicket_i (vM_i0 hv) c_1
    refine g_aload_n C dX7_allNeedsByGoing_13 rfl 0 rfl ?_
    refine g_iload_n C dX7_allNeedsByGoing_14 rfl 1 rfl ?_
    refine g_st (st1 := [.int (nI a.toNatClampNeg), .ref (am 0)]) (by rw [← hx_3.1]) ?_
    refine g_callV C (cs1 := [wM E am (sI μ 0 0)]) (st1 := [.int (fX7_allNeeds (sI μ 0 0) a.toNatClampNeg)]) [.int (nI a.toNatClampNeg)] [0] (kX7_allNeeds l E am (sI μ 0 0) (vM_i0 hv) a.toNatClampNeg (by omega)) caX7_allNeeds q6_183 rfl ⟨Nat.le_of_ble_eq_true rfl, Nat.le_of_ble_eq_true rfl⟩ ⟨Nat.zero_le _, Nat.zero_le _⟩ 0 0 rfl rfl rfl rfl (by decide) rfl rfl rfl rfl (Nat.le_of_ble_eq_true rfl) dX7_allNeedsByGoing_15 rfl ?_
    refine g_callS C (cs1 := [wM E am (sI μ 0 0)]) (st1 := [.int (fX7_bits (fX7_allNeeds (sI μ 0 0) a.toNatClampNeg))]) [.int (fX7_allNeeds (sI μ 0 0) a.toNatClampNeg)] [] (kX7_bits l E (fX7_allNeeds (sI μ 0 0) a.toNatClampNeg)) caX7_bits q6_191 rfl ⟨Nat.le_of_ble_eq_true rfl, Nat.le_of_ble_eq_true rfl⟩ ⟨Nat.zero_le _, Nat.zero_le _⟩ (by decide) rfl rfl rfl rfl (Nat.le_of_ble_eq_true rfl) dX7_allNeedsByGoing_18 rfl ?_
    refine g_goto C 29 dX7_allNeedsByGoing_21 (by decide) ?_
    have e_4 : fX7_allNeedsByGoing μ a = ((fX7_bits (fX7_allNeeds (sI μ 0 0) a.toNatClampNeg)), sI μ 0 0) := by rw [fX7_allNeedsByGoing]; rw [if_pos c_1]
    exact g_iret C hE (by rw [e_4]) (by rw [e_4]) dX7_allNeedsByGoing_29
def fX7_allNeedsByTable (μ : BS) (a : Int32) : Int32 × BS :=
  if (fX7_isTicket (sI μ 0 0) a) = true then ((fX7_bits (fX7_allNeeds (sI μ 0 0) a.toNatClampNeg)), sI μ 0 0) else ((fX7_fails (sI μ 0 0) 1).1, (fX7_fails (sI μ 0 0) 1).2)
theorem caX7_allNeedsByTable : gCalV yX7_allNeedsByTable cX7_allNeedsByTable 2 (some .int) 1 := ⟨⟨q7_218, q1_6, by decide +kernel⟩, q7_216, q7_217⟩
set_option maxHeartbeats 4000000 in
set_option maxRecDepth 100000 in
theorem kX7_allNeedsByTable (l : Launch) (E : gE) (am : Nat → Nat) (μ : BS) (hv : vM μ)  (a : Int32) : MC l E yX7_allNeedsByTable cX7_allNeedsByTable 2 (some .int) 2 46 [.ref (am 0), .int a] [wM E am μ] (some (.int (fX7_allNeedsByTable μ a).1)) [wM E am ((fX7_allNeedsByTable μ a).2)] := by
  have hv1 : cM μ ≤ 20 := hv.1.1
  have hc0 : μ.2 0 0 = nI (cM μ) := hv.1.2.1
  refine mc_of (by decide +kernel) (Nat.le_of_ble_eq_true rfl) (lv := [(0, .ref (am 0)), (1, .int a)]) rfl (fun X C hE => ?_)
  refine g_aload_n C dX7_allNeedsByTable_0 rfl 0 rfl ?_
  refine g_iconst C (v := 0) dX7_allNeedsByTable_1 (by decide) ?_
  refine g_putf C (T := TX7) (N := 15) (ty := .int) (w1 := wM E am (sI μ 0 0)) (cs1 := [wM E am (sI μ 0 0)]) 0 0 rfl rfl rfl inX7 tyX7_ok nmX7 0 (by decide) q6_70 rfl (by decide +kernel) rfl rfl (Nat.le_of_ble_eq_true rfl) rfl rfl dX7_allNeedsByTable_2 ?_
  refine g_aload_n C dX7_allNeedsByTable_5 rfl 0 rfl ?_
  refine g_iload_n C dX7_allNeedsByTable_6 rfl 1 rfl ?_
  refine g_callV C (cs1 := [wM E am (sI μ 0 0)]) (st1 := [.int (b2i (fX7_isTicket (sI μ 0 0) a))]) [.int a] [0] (kX7_isTicket l E am (sI μ 0 0) a) caX7_isTicket q6_147 rfl ⟨Nat.le_of_ble_eq_true rfl, Nat.le_of_ble_eq_true rfl⟩ ⟨Nat.zero_le _, Nat.zero_le _⟩ 0 0 rfl rfl rfl rfl (by decide) rfl rfl rfl rfl (Nat.le_of_ble_eq_true rfl) dX7_allNeedsByTable_7 rfl ?_
  refine g_ifB_eq C 24 dX7_allNeedsByTable_10 (by decide) (fun c_1 => ?_) (fun c_1 => ?_)
  · skip
    refine g_aload_n C dX7_allNeedsByTable_24 rfl 0 rfl ?_
    refine g_iconst C (v := 1) dX7_allNeedsByTable_25 (by decide) ?_
    refine g_callV C (cs1 := [wM E am ((fX7_fails (sI μ 0 0) 1).2)]) (st1 := [.int ((fX7_fails (sI μ 0 0) 1).1)]) [.int 1] [0] (kX7_fails l E am (sI μ 0 0) 1) caX7_fails q6_127 rfl ⟨Nat.le_of_ble_eq_true rfl, Nat.le_of_ble_eq_true rfl⟩ ⟨Nat.zero_le _, Nat.zero_le _⟩ 0 0 rfl rfl rfl rfl (by decide) rfl rfl rfl rfl (Nat.le_of_ble_eq_true rfl) dX7_allNeedsByTable_26 rfl ?_
    have e_2 : fX7_allNeedsByTable μ a = ((fX7_fails (sI μ 0 0) 1).1, (fX7_fails (sI μ 0 0) 1).2) := by rw [fX7_allNeedsByTable]; rw [if_neg (ne_true_of_eq_false c_1)]
    exact g_iret C hE (by rw [e_2]) (by rw [e_2]) dX7_allNeedsByTable_29
  · skip
    have hx_3 := isTicket_i (vM_i0 hv) c_1
    refine g_aload_n C dX7_allNeedsByTable_13 rfl 0 rfl ?_
    refine g_iload_n C dX7_allNeedsByTable_14 rfl 1 rfl ?_
    refine g_st (st1 := [.int (nI a.toNatClampNeg), .ref (am 0)]) (by rw [← hx_3.1]) ?_
    refine g_callV C (cs1 := [wM E am (sI μ 0 0)]) (st1 := [.int (fX7_allNeeds (sI μ 0 0) a.toNatClampNeg)]) [.int (nI a.toNatClampNeg)] [0] (kX7_allNeeds l E am (sI μ 0 0) (vM_i0 hv) a.toNatClampNeg (by omega)) caX7_allNeeds q6_183 rfl ⟨Nat.le_of_ble_eq_true rfl, Nat.le_of_ble_eq_true rfl⟩ ⟨Nat.zero_le _, Nat.zero_le _⟩ 0 0 rfl rfl rfl rfl (by decide) rfl rfl rfl rfl (Nat.le_of_ble_eq_true rfl) dX7_allNeedsByTable_15 rfl ?_
    refine g_callS C (cs1 := [wM E am (sI μ 0 0)]) (st1 := [.int (fX7_bits (fX7_allNeeds (sI μ 0 0) a.toNatClampNeg))]) [.int (fX7_allNeeds (sI μ 0 0) a.toNatClampNeg)] [] (kX7_bits l E (fX7_allNeeds (sI μ 0 0) a.toNatClampNeg)) caX7_bits q6_191 rfl ⟨Nat.le_of_ble_eq_true rfl, Nat.le_of_ble_eq_true rfl⟩ ⟨Nat.zero_le _, Nat.zero_le _⟩ (by decide) rfl rfl rfl rfl (Nat.le_of_ble_eq_true rfl) dX7_allNeedsByTable_18 rfl ?_
    refine g_goto C 29 dX7_allNeedsByTable_21 (by decide) ?_
    have e_4 : fX7_allNeedsByTable μ a = ((fX7_bits (fX7_allNeeds (sI μ 0 0) a.toNatClampNeg)), sI μ 0 0) := by rw [fX7_allNeedsByTable]; rw [if_pos c_1]
    exact g_iret C hE (by rw [e_4]) (by rw [e_4]) dX7_allNeedsByTable_29
def fX7_chainOf (μ : BS) (a : Int32) : Int32 × BS :=
  if (fX7_isTicket (sI μ 0 0) a) = true then ((fX7_chainFrom (sI μ 0 0) a.toNatClampNeg).1, (fX7_chainFrom (sI μ 0 0) a.toNatClampNeg).2) else ((fX7_fails (sI μ 0 0) 1).1, (fX7_fails (sI μ 0 0) 1).2)
theorem caX7_chainOf : gCalV yX7_chainOf cX7_chainOf 2 (some .int) 1 := ⟨⟨q7_222, q1_6, by decide +kernel⟩, q7_220, q7_221⟩
set_option maxHeartbeats 4000000 in
set_option maxRecDepth 100000 in
theorem kX7_chainOf (l : Launch) (E : gE) (am : Nat → Nat) (μ : BS) (hv : vM μ) (ha : gA (μ.2 0))  (a : Int32) : MC l E yX7_chainOf cX7_chainOf 2 (some .int) 4 90 [.ref (am 0), .int a] [wM E am μ] (some (.int (fX7_chainOf μ a).1)) [wM E am ((fX7_chainOf μ a).2)] := by
  have hv1 : cM μ ≤ 20 := hv.1.1
  have hc0 : μ.2 0 0 = nI (cM μ) := hv.1.2.1
  refine mc_of (by decide +kernel) (Nat.le_of_ble_eq_true rfl) (lv := [(0, .ref (am 0)), (1, .int a)]) rfl (fun X C hE => ?_)
  refine g_aload_n C dX7_chainOf_0 rfl 0 rfl ?_
  refine g_iconst C (v := 0) dX7_chainOf_1 (by decide) ?_
  refine g_putf C (T := TX7) (N := 15) (ty := .int) (w1 := wM E am (sI μ 0 0)) (cs1 := [wM E am (sI μ 0 0)]) 0 0 rfl rfl rfl inX7 tyX7_ok nmX7 0 (by decide) q6_70 rfl (by decide +kernel) rfl rfl (Nat.le_of_ble_eq_true rfl) rfl rfl dX7_chainOf_2 ?_
  refine g_aload_n C dX7_chainOf_5 rfl 0 rfl ?_
  refine g_iload_n C dX7_chainOf_6 rfl 1 rfl ?_
  refine g_callV C (cs1 := [wM E am (sI μ 0 0)]) (st1 := [.int (b2i (fX7_isTicket (sI μ 0 0) a))]) [.int a] [0] (kX7_isTicket l E am (sI μ 0 0) a) caX7_isTicket q6_147 rfl ⟨Nat.le_of_ble_eq_true rfl, Nat.le_of_ble_eq_true rfl⟩ ⟨Nat.zero_le _, Nat.zero_le _⟩ 0 0 rfl rfl rfl rfl (by decide) rfl rfl rfl rfl (Nat.le_of_ble_eq_true rfl) dX7_chainOf_7 rfl ?_
  refine g_ifB_eq C 21 dX7_chainOf_10 (by decide) (fun c_1 => ?_) (fun c_1 => ?_)
  · skip
    refine g_aload_n C dX7_chainOf_21 rfl 0 rfl ?_
    refine g_iconst C (v := 1) dX7_chainOf_22 (by decide) ?_
    refine g_callV C (cs1 := [wM E am ((fX7_fails (sI μ 0 0) 1).2)]) (st1 := [.int ((fX7_fails (sI μ 0 0) 1).1)]) [.int 1] [0] (kX7_fails l E am (sI μ 0 0) 1) caX7_fails q6_127 rfl ⟨Nat.le_of_ble_eq_true rfl, Nat.le_of_ble_eq_true rfl⟩ ⟨Nat.zero_le _, Nat.zero_le _⟩ 0 0 rfl rfl rfl rfl (by decide) rfl rfl rfl rfl (Nat.le_of_ble_eq_true rfl) dX7_chainOf_23 rfl ?_
    have e_2 : fX7_chainOf μ a = ((fX7_fails (sI μ 0 0) 1).1, (fX7_fails (sI μ 0 0) 1).2) := by rw [fX7_chainOf]; rw [if_neg (ne_true_of_eq_false c_1)]
    exact g_iret C hE (by rw [e_2]) (by rw [e_2]) dX7_chainOf_26
  · skip
    have hx_3 := isTicket_i (vM_i0 hv) c_1
    refine g_aload_n C dX7_chainOf_13 rfl 0 rfl ?_
    refine g_iload_n C dX7_chainOf_14 rfl 1 rfl ?_
    refine g_st (st1 := [.int (nI a.toNatClampNeg), .ref (am 0)]) (by rw [← hx_3.1]) ?_
    refine g_callV C (cs1 := [wM E am ((fX7_chainFrom (sI μ 0 0) a.toNatClampNeg).2)]) (st1 := [.int ((fX7_chainFrom (sI μ 0 0) a.toNatClampNeg).1)]) [.int (nI a.toNatClampNeg)] [0] (kX7_chainFrom l E am (sI μ 0 0) (vM_i0 hv) ha a.toNatClampNeg (by omega)) caX7_chainFrom q7_223 rfl ⟨Nat.le_of_ble_eq_true rfl, Nat.le_of_ble_eq_true rfl⟩ ⟨Nat.zero_le _, Nat.zero_le _⟩ 0 0 rfl rfl rfl rfl (by decide) rfl rfl rfl rfl (Nat.le_of_ble_eq_true rfl) dX7_chainOf_15 rfl ?_
    refine g_goto C 26 dX7_chainOf_18 (by decide) ?_
    have e_4 : fX7_chainOf μ a = ((fX7_chainFrom (sI μ 0 0) a.toNatClampNeg).1, (fX7_chainFrom (sI μ 0 0) a.toNatClampNeg).2) := by rw [fX7_chainOf]; rw [if_pos c_1]
    exact g_iret C hE (by rw [e_4]) (by rw [e_4]) dX7_chainOf_26
def fX7_criticalByTrying (μ : BS) : Int32 × BS :=
  ((fX7_critical (sI μ 0 0)).1, (fX7_critical (sI μ 0 0)).2)
theorem caX7_criticalByTrying : gCalV yX7_criticalByTrying cX7_criticalByTrying 1 (some .int) 0 := ⟨⟨q7_234, q1_6, by decide +kernel⟩, q7_232, q7_233⟩
set_option maxHeartbeats 4000000 in
set_option maxRecDepth 100000 in
theorem kX7_criticalByTrying (l : Launch) (E : gE) (am : Nat → Nat) (μ : BS) (hv : vM μ) (ha : gA (μ.2 0))   : MC l E yX7_criticalByTrying cX7_criticalByTrying 1 (some .int) 4 91 [.ref (am 0)] [wM E am μ] (some (.int (fX7_criticalByTrying μ).1)) [wM E am ((fX7_criticalByTrying μ).2)] := by
  have hv1 : cM μ ≤ 20 := hv.1.1
  have hc0 : μ.2 0 0 = nI (cM μ) := hv.1.2.1
  refine mc_of (by decide +kernel) (Nat.le_of_ble_eq_true rfl) (lv := [(0, .ref (am 0))]) rfl (fun X C hE => ?_)
  refine g_aload_n C dX7_criticalByTrying_0 rfl 0 rfl ?_
  refine g_iconst C (v := 0) dX7_criticalByTrying_1 (by decide) ?_
  refine g_putf C (T := TX7) (N := 15) (ty := .int) (w1 := wM E am (sI μ 0 0)) (cs1 := [wM E am (sI μ 0 0)]) 0 0 rfl rfl rfl inX7 tyX7_ok nmX7 0 (by decide) q6_70 rfl (by decide +kernel) rfl rfl (Nat.le_of_ble_eq_true rfl) rfl rfl dX7_criticalByTrying_2 ?_
  refine g_aload_n C dX7_criticalByTrying_5 rfl 0 rfl ?_
  refine g_callV C (cs1 := [wM E am ((fX7_critical (sI μ 0 0)).2)]) (st1 := [.int ((fX7_critical (sI μ 0 0)).1)]) [] [0] (kX7_critical l E am (sI μ 0 0) (vM_i0 hv) ha) caX7_critical q7_235 rfl ⟨Nat.le_of_ble_eq_true rfl, Nat.le_of_ble_eq_true rfl⟩ ⟨Nat.zero_le _, Nat.zero_le _⟩ 0 0 rfl rfl rfl rfl (by decide) rfl rfl rfl rfl (Nat.le_of_ble_eq_true rfl) dX7_criticalByTrying_6 rfl ?_
  have e_1 : fX7_criticalByTrying μ = ((fX7_critical (sI μ 0 0)).1, (fX7_critical (sI μ 0 0)).2) := by rw [fX7_criticalByTrying]
  exact g_iret C hE (by rw [e_1]) (by rw [e_1]) dX7_criticalByTrying_9
def fX7_criticalByOrder (μ : BS) : Int32 × BS :=
  ((fX7_critical (sI μ 0 0)).1, (fX7_critical (sI μ 0 0)).2)
theorem caX7_criticalByOrder : gCalV yX7_criticalByOrder cX7_criticalByOrder 1 (some .int) 0 := ⟨⟨q8_2, q1_6, by decide +kernel⟩, q8_0, q8_1⟩
set_option maxHeartbeats 4000000 in
set_option maxRecDepth 100000 in
theorem kX7_criticalByOrder (l : Launch) (E : gE) (am : Nat → Nat) (μ : BS) (hv : vM μ) (ha : gA (μ.2 0))   : MC l E yX7_criticalByOrder cX7_criticalByOrder 1 (some .int) 4 91 [.ref (am 0)] [wM E am μ] (some (.int (fX7_criticalByOrder μ).1)) [wM E am ((fX7_criticalByOrder μ).2)] := by
  have hv1 : cM μ ≤ 20 := hv.1.1
  have hc0 : μ.2 0 0 = nI (cM μ) := hv.1.2.1
  refine mc_of (by decide +kernel) (Nat.le_of_ble_eq_true rfl) (lv := [(0, .ref (am 0))]) rfl (fun X C hE => ?_)
  refine g_aload_n C dX7_criticalByOrder_0 rfl 0 rfl ?_
  refine g_iconst C (v := 0) dX7_criticalByOrder_1 (by decide) ?_
  refine g_putf C (T := TX7) (N := 15) (ty := .int) (w1 := wM E am (sI μ 0 0)) (cs1 := [wM E am (sI μ 0 0)]) 0 0 rfl rfl rfl inX7 tyX7_ok nmX7 0 (by decide) q6_70 rfl (by decide +kernel) rfl rfl (Nat.le_of_ble_eq_true rfl) rfl rfl dX7_criticalByOrder_2 ?_
  refine g_aload_n C dX7_criticalByOrder_5 rfl 0 rfl ?_
  refine g_callV C (cs1 := [wM E am ((fX7_critical (sI μ 0 0)).2)]) (st1 := [.int ((fX7_critical (sI μ 0 0)).1)]) [] [0] (kX7_critical l E am (sI μ 0 0) (vM_i0 hv) ha) caX7_critical q7_235 rfl ⟨Nat.le_of_ble_eq_true rfl, Nat.le_of_ble_eq_true rfl⟩ ⟨Nat.zero_le _, Nat.zero_le _⟩ 0 0 rfl rfl rfl rfl (by decide) rfl rfl rfl rfl (Nat.le_of_ble_eq_true rfl) dX7_criticalByOrder_6 rfl ?_
  have e_1 : fX7_criticalByOrder μ = ((fX7_critical (sI μ 0 0)).1, (fX7_critical (sI μ 0 0)).2) := by rw [fX7_criticalByOrder]
  exact g_iret C hE (by rw [e_1]) (by rw [e_1]) dX7_criticalByOrder_9
def fX7_capacityOf (μ : BS) (a : Int32) : Int32 × BS :=
  if (fX7_isOwner a) = true then (μ.2 0 (4 + a.toNatClampNeg), sI μ 0 0) else ((fX7_fails (sI μ 0 0) 1).1, (fX7_fails (sI μ 0 0) 1).2)
theorem caX7_capacityOf : gCalV yX7_capacityOf cX7_capacityOf 2 (some .int) 1 := ⟨⟨q8_6, q1_6, by decide +kernel⟩, q8_4, q8_5⟩
set_option maxHeartbeats 4000000 in
set_option maxRecDepth 100000 in
theorem kX7_capacityOf (l : Launch) (E : gE) (am : Nat → Nat) (μ : BS) (hv : vM μ)  (a : Int32) : MC l E yX7_capacityOf cX7_capacityOf 2 (some .int) 2 42 [.ref (am 0), .int a] [wM E am μ] (some (.int (fX7_capacityOf μ a).1)) [wM E am ((fX7_capacityOf μ a).2)] := by
  have hv1 : cM μ ≤ 20 := hv.1.1
  have hc0 : μ.2 0 0 = nI (cM μ) := hv.1.2.1
  refine mc_of (by decide +kernel) (Nat.le_of_ble_eq_true rfl) (lv := [(0, .ref (am 0)), (1, .int a)]) rfl (fun X C hE => ?_)
  refine g_aload_n C dX7_capacityOf_0 rfl 0 rfl ?_
  refine g_iconst C (v := 0) dX7_capacityOf_1 (by decide) ?_
  refine g_putf C (T := TX7) (N := 15) (ty := .int) (w1 := wM E am (sI μ 0 0)) (cs1 := [wM E am (sI μ 0 0)]) 0 0 rfl rfl rfl inX7 tyX7_ok nmX7 0 (by decide) q6_70 rfl (by decide +kernel) rfl rfl (Nat.le_of_ble_eq_true rfl) rfl rfl dX7_capacityOf_2 ?_
  refine g_iload_n C dX7_capacityOf_5 rfl 1 rfl ?_
  refine g_callS C (cs1 := [wM E am (sI μ 0 0)]) (st1 := [.int (b2i (fX7_isOwner a))]) [.int a] [] (kX7_isOwner l E a) caX7_isOwner q6_202 rfl ⟨Nat.le_of_ble_eq_true rfl, Nat.le_of_ble_eq_true rfl⟩ ⟨Nat.zero_le _, Nat.zero_le _⟩ (by decide) rfl rfl rfl rfl (Nat.le_of_ble_eq_true rfl) dX7_capacityOf_6 rfl ?_
  refine g_ifB_eq C 23 dX7_capacityOf_9 (by decide) (fun c_1 => ?_) (fun c_1 => ?_)
  · skip
    refine g_aload_n C dX7_capacityOf_23 rfl 0 rfl ?_
    refine g_iconst C (v := 1) dX7_capacityOf_24 (by decide) ?_
    refine g_callV C (cs1 := [wM E am ((fX7_fails (sI μ 0 0) 1).2)]) (st1 := [.int ((fX7_fails (sI μ 0 0) 1).1)]) [.int 1] [0] (kX7_fails l E am (sI μ 0 0) 1) caX7_fails q6_127 rfl ⟨Nat.le_of_ble_eq_true rfl, Nat.le_of_ble_eq_true rfl⟩ ⟨Nat.zero_le _, Nat.zero_le _⟩ 0 0 rfl rfl rfl rfl (by decide) rfl rfl rfl rfl (Nat.le_of_ble_eq_true rfl) dX7_capacityOf_25 rfl ?_
    have e_2 : fX7_capacityOf μ a = ((fX7_fails (sI μ 0 0) 1).1, (fX7_fails (sI μ 0 0) 1).2) := by rw [fX7_capacityOf]; rw [if_neg (ne_true_of_eq_false c_1)]
    exact g_iret C hE (by rw [e_2]) (by rw [e_2]) dX7_capacityOf_28
  · skip
    have hx_3 := isOwnerM_i c_1
    refine g_aload_n C dX7_capacityOf_12 rfl 0 rfl ?_
    refine g_getf C (T := TX7) (N := 15) 0 0 rfl rfl rfl inX7 1 (by decide) q6_71 rfl dX7_capacityOf_13 ?_
    refine g_iconst C (v := 4) dX7_capacityOf_16 (by decide) ?_
    refine g_iload_n C dX7_capacityOf_17 rfl 1 rfl ?_
    refine g_iadd C dX7_capacityOf_18 ?_
    refine g_ialdn C (f := μ.2 0) 0 1 (4 + a.toNatClampNeg) rfl rfl (nx_add rfl hx_3.1) (by omega) (by decide) dX7_capacityOf_19 ?_
    refine g_goto C 28 dX7_capacityOf_20 (by decide) ?_
    have e_4 : fX7_capacityOf μ a = (μ.2 0 (4 + a.toNatClampNeg), sI μ 0 0) := by rw [fX7_capacityOf]; rw [if_pos c_1]
    exact g_iret C hE (by rw [e_4]) (by rw [e_4]) dX7_capacityOf_28
def fX7_loadByTickets (μ : BS) (a : Int32) : Int32 × BS :=
  if (fX7_isOwner a) = true then ((fX7_load (sI μ 0 0) a), sI μ 0 0) else ((fX7_fails (sI μ 0 0) 1).1, (fX7_fails (sI μ 0 0) 1).2)
theorem caX7_loadByTickets : gCalV yX7_loadByTickets cX7_loadByTickets 2 (some .int) 1 := ⟨⟨q8_10, q1_6, by decide +kernel⟩, q8_8, q8_9⟩
set_option maxHeartbeats 4000000 in
set_option maxRecDepth 100000 in
theorem kX7_loadByTickets (l : Launch) (E : gE) (am : Nat → Nat) (μ : BS) (hv : vM μ)  (a : Int32) : MC l E yX7_loadByTickets cX7_loadByTickets 2 (some .int) 3 66 [.ref (am 0), .int a] [wM E am μ] (some (.int (fX7_loadByTickets μ a).1)) [wM E am ((fX7_loadByTickets μ a).2)] := by
  have hv1 : cM μ ≤ 20 := hv.1.1
  have hc0 : μ.2 0 0 = nI (cM μ) := hv.1.2.1
  refine mc_of (by decide +kernel) (Nat.le_of_ble_eq_true rfl) (lv := [(0, .ref (am 0)), (1, .int a)]) rfl (fun X C hE => ?_)
  refine g_aload_n C dX7_loadByTickets_0 rfl 0 rfl ?_
  refine g_iconst C (v := 0) dX7_loadByTickets_1 (by decide) ?_
  refine g_putf C (T := TX7) (N := 15) (ty := .int) (w1 := wM E am (sI μ 0 0)) (cs1 := [wM E am (sI μ 0 0)]) 0 0 rfl rfl rfl inX7 tyX7_ok nmX7 0 (by decide) q6_70 rfl (by decide +kernel) rfl rfl (Nat.le_of_ble_eq_true rfl) rfl rfl dX7_loadByTickets_2 ?_
  refine g_iload_n C dX7_loadByTickets_5 rfl 1 rfl ?_
  refine g_callS C (cs1 := [wM E am (sI μ 0 0)]) (st1 := [.int (b2i (fX7_isOwner a))]) [.int a] [] (kX7_isOwner l E a) caX7_isOwner q6_202 rfl ⟨Nat.le_of_ble_eq_true rfl, Nat.le_of_ble_eq_true rfl⟩ ⟨Nat.zero_le _, Nat.zero_le _⟩ (by decide) rfl rfl rfl rfl (Nat.le_of_ble_eq_true rfl) dX7_loadByTickets_6 rfl ?_
  refine g_ifB_eq C 20 dX7_loadByTickets_9 (by decide) (fun c_1 => ?_) (fun c_1 => ?_)
  · skip
    refine g_aload_n C dX7_loadByTickets_20 rfl 0 rfl ?_
    refine g_iconst C (v := 1) dX7_loadByTickets_21 (by decide) ?_
    refine g_callV C (cs1 := [wM E am ((fX7_fails (sI μ 0 0) 1).2)]) (st1 := [.int ((fX7_fails (sI μ 0 0) 1).1)]) [.int 1] [0] (kX7_fails l E am (sI μ 0 0) 1) caX7_fails q6_127 rfl ⟨Nat.le_of_ble_eq_true rfl, Nat.le_of_ble_eq_true rfl⟩ ⟨Nat.zero_le _, Nat.zero_le _⟩ 0 0 rfl rfl rfl rfl (by decide) rfl rfl rfl rfl (Nat.le_of_ble_eq_true rfl) dX7_loadByTickets_22 rfl ?_
    have e_2 : fX7_loadByTickets μ a = ((fX7_fails (sI μ 0 0) 1).1, (fX7_fails (sI μ 0 0) 1).2) := by rw [fX7_loadByTickets]; rw [if_neg (ne_true_of_eq_false c_1)]
    exact g_iret C hE (by rw [e_2]) (by rw [e_2]) dX7_loadByTickets_25
  · skip
    have hx_3 := isOwnerM_i c_1
    refine g_aload_n C dX7_loadByTickets_12 rfl 0 rfl ?_
    refine g_iload_n C dX7_loadByTickets_13 rfl 1 rfl ?_
    refine g_callV C (cs1 := [wM E am (sI μ 0 0)]) (st1 := [.int (fX7_load (sI μ 0 0) a)]) [.int a] [0] (kX7_load l E am (sI μ 0 0) (vM_i0 hv) a) caX7_load q6_163 rfl ⟨Nat.le_of_ble_eq_true rfl, Nat.le_of_ble_eq_true rfl⟩ ⟨Nat.zero_le _, Nat.zero_le _⟩ 0 0 rfl rfl rfl rfl (by decide) rfl rfl rfl rfl (Nat.le_of_ble_eq_true rfl) dX7_loadByTickets_14 rfl ?_
    refine g_goto C 25 dX7_loadByTickets_17 (by decide) ?_
    have e_4 : fX7_loadByTickets μ a = ((fX7_load (sI μ 0 0) a), sI μ 0 0) := by rw [fX7_loadByTickets]; rw [if_pos c_1]
    exact g_iret C hE (by rw [e_4]) (by rw [e_4]) dX7_loadByTickets_25
def fX7_loadByAccount (μ : BS) (a : Int32) : Int32 × BS :=
  if (fX7_isOwner a) = true then ((fX7_load (sI μ 0 0) a), sI μ 0 0) else ((fX7_fails (sI μ 0 0) 1).1, (fX7_fails (sI μ 0 0) 1).2)
theorem caX7_loadByAccount : gCalV yX7_loadByAccount cX7_loadByAccount 2 (some .int) 1 := ⟨⟨q8_14, q1_6, by decide +kernel⟩, q8_12, q8_13⟩
set_option maxHeartbeats 4000000 in
set_option maxRecDepth 100000 in
theorem kX7_loadByAccount (l : Launch) (E : gE) (am : Nat → Nat) (μ : BS) (hv : vM μ)  (a : Int32) : MC l E yX7_loadByAccount cX7_loadByAccount 2 (some .int) 3 66 [.ref (am 0), .int a] [wM E am μ] (some (.int (fX7_loadByAccount μ a).1)) [wM E am ((fX7_loadByAccount μ a).2)] := by
  have hv1 : cM μ ≤ 20 := hv.1.1
  have hc0 : μ.2 0 0 = nI (cM μ) := hv.1.2.1
  refine mc_of (by decide +kernel) (Nat.le_of_ble_eq_true rfl) (lv := [(0, .ref (am 0)), (1, .int a)]) rfl (fun X C hE => ?_)
  refine g_aload_n C dX7_loadByAccount_0 rfl 0 rfl ?_
  refine g_iconst C (v := 0) dX7_loadByAccount_1 (by decide) ?_
  refine g_putf C (T := TX7) (N := 15) (ty := .int) (w1 := wM E am (sI μ 0 0)) (cs1 := [wM E am (sI μ 0 0)]) 0 0 rfl rfl rfl inX7 tyX7_ok nmX7 0 (by decide) q6_70 rfl (by decide +kernel) rfl rfl (Nat.le_of_ble_eq_true rfl) rfl rfl dX7_loadByAccount_2 ?_
  refine g_iload_n C dX7_loadByAccount_5 rfl 1 rfl ?_
  refine g_callS C (cs1 := [wM E am (sI μ 0 0)]) (st1 := [.int (b2i (fX7_isOwner a))]) [.int a] [] (kX7_isOwner l E a) caX7_isOwner q6_202 rfl ⟨Nat.le_of_ble_eq_true rfl, Nat.le_of_ble_eq_true rfl⟩ ⟨Nat.zero_le _, Nat.zero_le _⟩ (by decide) rfl rfl rfl rfl (Nat.le_of_ble_eq_true rfl) dX7_loadByAccount_6 rfl ?_
  refine g_ifB_eq C 20 dX7_loadByAccount_9 (by decide) (fun c_1 => ?_) (fun c_1 => ?_)
  · skip
    refine g_aload_n C dX7_loadByAccount_20 rfl 0 rfl ?_
    refine g_iconst C (v := 1) dX7_loadByAccount_21 (by decide) ?_
    refine g_callV C (cs1 := [wM E am ((fX7_fails (sI μ 0 0) 1).2)]) (st1 := [.int ((fX7_fails (sI μ 0 0) 1).1)]) [.int 1] [0] (kX7_fails l E am (sI μ 0 0) 1) caX7_fails q6_127 rfl ⟨Nat.le_of_ble_eq_true rfl, Nat.le_of_ble_eq_true rfl⟩ ⟨Nat.zero_le _, Nat.zero_le _⟩ 0 0 rfl rfl rfl rfl (by decide) rfl rfl rfl rfl (Nat.le_of_ble_eq_true rfl) dX7_loadByAccount_22 rfl ?_
    have e_2 : fX7_loadByAccount μ a = ((fX7_fails (sI μ 0 0) 1).1, (fX7_fails (sI μ 0 0) 1).2) := by rw [fX7_loadByAccount]; rw [if_neg (ne_true_of_eq_false c_1)]
    exact g_iret C hE (by rw [e_2]) (by rw [e_2]) dX7_loadByAccount_25
  · skip
    have hx_3 := isOwnerM_i c_1
    refine g_aload_n C dX7_loadByAccount_12 rfl 0 rfl ?_
    refine g_iload_n C dX7_loadByAccount_13 rfl 1 rfl ?_
    refine g_callV C (cs1 := [wM E am (sI μ 0 0)]) (st1 := [.int (fX7_load (sI μ 0 0) a)]) [.int a] [0] (kX7_load l E am (sI μ 0 0) (vM_i0 hv) a) caX7_load q6_163 rfl ⟨Nat.le_of_ble_eq_true rfl, Nat.le_of_ble_eq_true rfl⟩ ⟨Nat.zero_le _, Nat.zero_le _⟩ 0 0 rfl rfl rfl rfl (by decide) rfl rfl rfl rfl (Nat.le_of_ble_eq_true rfl) dX7_loadByAccount_14 rfl ?_
    refine g_goto C 25 dX7_loadByAccount_17 (by decide) ?_
    have e_4 : fX7_loadByAccount μ a = ((fX7_load (sI μ 0 0) a), sI μ 0 0) := by rw [fX7_loadByAccount]; rw [if_pos c_1]
    exact g_iret C hE (by rw [e_4]) (by rw [e_4]) dX7_loadByAccount_25
def fX7_inProgressOf (μ : BS) (a : Int32) : Int32 × BS :=
  if (fX7_isOwner a) = true then ((fX7_progressOf (sI μ 0 0) a), sI μ 0 0) else ((fX7_fails (sI μ 0 0) 1).1, (fX7_fails (sI μ 0 0) 1).2)
theorem caX7_inProgressOf : gCalV yX7_inProgressOf cX7_inProgressOf 2 (some .int) 1 := ⟨⟨q8_18, q1_6, by decide +kernel⟩, q8_16, q8_17⟩
set_option maxHeartbeats 4000000 in
set_option maxRecDepth 100000 in
theorem kX7_inProgressOf (l : Launch) (E : gE) (am : Nat → Nat) (μ : BS) (hv : vM μ)  (a : Int32) : MC l E yX7_inProgressOf cX7_inProgressOf 2 (some .int) 2 45 [.ref (am 0), .int a] [wM E am μ] (some (.int (fX7_inProgressOf μ a).1)) [wM E am ((fX7_inProgressOf μ a).2)] := by
  have hv1 : cM μ ≤ 20 := hv.1.1
  have hc0 : μ.2 0 0 = nI (cM μ) := hv.1.2.1
  refine mc_of (by decide +kernel) (Nat.le_of_ble_eq_true rfl) (lv := [(0, .ref (am 0)), (1, .int a)]) rfl (fun X C hE => ?_)
  refine g_aload_n C dX7_inProgressOf_0 rfl 0 rfl ?_
  refine g_iconst C (v := 0) dX7_inProgressOf_1 (by decide) ?_
  refine g_putf C (T := TX7) (N := 15) (ty := .int) (w1 := wM E am (sI μ 0 0)) (cs1 := [wM E am (sI μ 0 0)]) 0 0 rfl rfl rfl inX7 tyX7_ok nmX7 0 (by decide) q6_70 rfl (by decide +kernel) rfl rfl (Nat.le_of_ble_eq_true rfl) rfl rfl dX7_inProgressOf_2 ?_
  refine g_iload_n C dX7_inProgressOf_5 rfl 1 rfl ?_
  refine g_callS C (cs1 := [wM E am (sI μ 0 0)]) (st1 := [.int (b2i (fX7_isOwner a))]) [.int a] [] (kX7_isOwner l E a) caX7_isOwner q6_202 rfl ⟨Nat.le_of_ble_eq_true rfl, Nat.le_of_ble_eq_true rfl⟩ ⟨Nat.zero_le _, Nat.zero_le _⟩ (by decide) rfl rfl rfl rfl (Nat.le_of_ble_eq_true rfl) dX7_inProgressOf_6 rfl ?_
  refine g_ifB_eq C 20 dX7_inProgressOf_9 (by decide) (fun c_1 => ?_) (fun c_1 => ?_)
  · skip
    refine g_aload_n C dX7_inProgressOf_20 rfl 0 rfl ?_
    refine g_iconst C (v := 1) dX7_inProgressOf_21 (by decide) ?_
    refine g_callV C (cs1 := [wM E am ((fX7_fails (sI μ 0 0) 1).2)]) (st1 := [.int ((fX7_fails (sI μ 0 0) 1).1)]) [.int 1] [0] (kX7_fails l E am (sI μ 0 0) 1) caX7_fails q6_127 rfl ⟨Nat.le_of_ble_eq_true rfl, Nat.le_of_ble_eq_true rfl⟩ ⟨Nat.zero_le _, Nat.zero_le _⟩ 0 0 rfl rfl rfl rfl (by decide) rfl rfl rfl rfl (Nat.le_of_ble_eq_true rfl) dX7_inProgressOf_22 rfl ?_
    have e_2 : fX7_inProgressOf μ a = ((fX7_fails (sI μ 0 0) 1).1, (fX7_fails (sI μ 0 0) 1).2) := by rw [fX7_inProgressOf]; rw [if_neg (ne_true_of_eq_false c_1)]
    exact g_iret C hE (by rw [e_2]) (by rw [e_2]) dX7_inProgressOf_25
  · skip
    have hx_3 := isOwnerM_i c_1
    refine g_aload_n C dX7_inProgressOf_12 rfl 0 rfl ?_
    refine g_iload_n C dX7_inProgressOf_13 rfl 1 rfl ?_
    refine g_callV C (cs1 := [wM E am (sI μ 0 0)]) (st1 := [.int (fX7_progressOf (sI μ 0 0) a)]) [.int a] [0] (kX7_progressOf l E am (sI μ 0 0) (vM_i0 hv) a) caX7_progressOf q8_19 rfl ⟨Nat.le_of_ble_eq_true rfl, Nat.le_of_ble_eq_true rfl⟩ ⟨Nat.zero_le _, Nat.zero_le _⟩ 0 0 rfl rfl rfl rfl (by decide) rfl rfl rfl rfl (Nat.le_of_ble_eq_true rfl) dX7_inProgressOf_14 rfl ?_
    refine g_goto C 25 dX7_inProgressOf_17 (by decide) ?_
    have e_4 : fX7_inProgressOf μ a = ((fX7_progressOf (sI μ 0 0) a), sI μ 0 0) := by rw [fX7_inProgressOf]; rw [if_pos c_1]
    exact g_iret C hE (by rw [e_4]) (by rw [e_4]) dX7_inProgressOf_25
def fX7_donePointsOf (μ : BS) (a : Int32) : Int32 × BS :=
  if (fX7_isOwner a) = true then ((fX7_doneOf (sI μ 0 0) a), sI μ 0 0) else ((fX7_fails (sI μ 0 0) 1).1, (fX7_fails (sI μ 0 0) 1).2)
theorem caX7_donePointsOf : gCalV yX7_donePointsOf cX7_donePointsOf 2 (some .int) 1 := ⟨⟨q8_26, q1_6, by decide +kernel⟩, q8_24, q8_25⟩
set_option maxHeartbeats 4000000 in
set_option maxRecDepth 100000 in
theorem kX7_donePointsOf (l : Launch) (E : gE) (am : Nat → Nat) (μ : BS) (hv : vM μ)  (a : Int32) : MC l E yX7_donePointsOf cX7_donePointsOf 2 (some .int) 2 45 [.ref (am 0), .int a] [wM E am μ] (some (.int (fX7_donePointsOf μ a).1)) [wM E am ((fX7_donePointsOf μ a).2)] := by
  have hv1 : cM μ ≤ 20 := hv.1.1
  have hc0 : μ.2 0 0 = nI (cM μ) := hv.1.2.1
  refine mc_of (by decide +kernel) (Nat.le_of_ble_eq_true rfl) (lv := [(0, .ref (am 0)), (1, .int a)]) rfl (fun X C hE => ?_)
  refine g_aload_n C dX7_donePointsOf_0 rfl 0 rfl ?_
  refine g_iconst C (v := 0) dX7_donePointsOf_1 (by decide) ?_
  refine g_putf C (T := TX7) (N := 15) (ty := .int) (w1 := wM E am (sI μ 0 0)) (cs1 := [wM E am (sI μ 0 0)]) 0 0 rfl rfl rfl inX7 tyX7_ok nmX7 0 (by decide) q6_70 rfl (by decide +kernel) rfl rfl (Nat.le_of_ble_eq_true rfl) rfl rfl dX7_donePointsOf_2 ?_
  refine g_iload_n C dX7_donePointsOf_5 rfl 1 rfl ?_
  refine g_callS C (cs1 := [wM E am (sI μ 0 0)]) (st1 := [.int (b2i (fX7_isOwner a))]) [.int a] [] (kX7_isOwner l E a) caX7_isOwner q6_202 rfl ⟨Nat.le_of_ble_eq_true rfl, Nat.le_of_ble_eq_true rfl⟩ ⟨Nat.zero_le _, Nat.zero_le _⟩ (by decide) rfl rfl rfl rfl (Nat.le_of_ble_eq_true rfl) dX7_donePointsOf_6 rfl ?_
  refine g_ifB_eq C 20 dX7_donePointsOf_9 (by decide) (fun c_1 => ?_) (fun c_1 => ?_)
  · skip
    refine g_aload_n C dX7_donePointsOf_20 rfl 0 rfl ?_
    refine g_iconst C (v := 1) dX7_donePointsOf_21 (by decide) ?_
    refine g_callV C (cs1 := [wM E am ((fX7_fails (sI μ 0 0) 1).2)]) (st1 := [.int ((fX7_fails (sI μ 0 0) 1).1)]) [.int 1] [0] (kX7_fails l E am (sI μ 0 0) 1) caX7_fails q6_127 rfl ⟨Nat.le_of_ble_eq_true rfl, Nat.le_of_ble_eq_true rfl⟩ ⟨Nat.zero_le _, Nat.zero_le _⟩ 0 0 rfl rfl rfl rfl (by decide) rfl rfl rfl rfl (Nat.le_of_ble_eq_true rfl) dX7_donePointsOf_22 rfl ?_
    have e_2 : fX7_donePointsOf μ a = ((fX7_fails (sI μ 0 0) 1).1, (fX7_fails (sI μ 0 0) 1).2) := by rw [fX7_donePointsOf]; rw [if_neg (ne_true_of_eq_false c_1)]
    exact g_iret C hE (by rw [e_2]) (by rw [e_2]) dX7_donePointsOf_25
  · skip
    have hx_3 := isOwnerM_i c_1
    refine g_aload_n C dX7_donePointsOf_12 rfl 0 rfl ?_
    refine g_iload_n C dX7_donePointsOf_13 rfl 1 rfl ?_
    refine g_callV C (cs1 := [wM E am (sI μ 0 0)]) (st1 := [.int (fX7_doneOf (sI μ 0 0) a)]) [.int a] [0] (kX7_doneOf l E am (sI μ 0 0) (vM_i0 hv) a) caX7_doneOf q8_27 rfl ⟨Nat.le_of_ble_eq_true rfl, Nat.le_of_ble_eq_true rfl⟩ ⟨Nat.zero_le _, Nat.zero_le _⟩ 0 0 rfl rfl rfl rfl (by decide) rfl rfl rfl rfl (Nat.le_of_ble_eq_true rfl) dX7_donePointsOf_14 rfl ?_
    refine g_goto C 25 dX7_donePointsOf_17 (by decide) ?_
    have e_4 : fX7_donePointsOf μ a = ((fX7_doneOf (sI μ 0 0) a), sI μ 0 0) := by rw [fX7_donePointsOf]; rw [if_pos c_1]
    exact g_iret C hE (by rw [e_4]) (by rw [e_4]) dX7_donePointsOf_25
def fX7_freestOwner (μ : BS) : Int32 × BS :=
  ((fX7_freest (sI μ 0 0)), sI μ 0 0)
theorem caX7_freestOwner : gCalV yX7_freestOwner cX7_freestOwner 1 (some .int) 0 := ⟨⟨q8_34, q1_6, by decide +kernel⟩, q8_32, q8_33⟩
set_option maxHeartbeats 4000000 in
set_option maxRecDepth 100000 in
theorem kX7_freestOwner (l : Launch) (E : gE) (am : Nat → Nat) (μ : BS) (hv : vM μ)   : MC l E yX7_freestOwner cX7_freestOwner 1 (some .int) 4 88 [.ref (am 0)] [wM E am μ] (some (.int (fX7_freestOwner μ).1)) [wM E am ((fX7_freestOwner μ).2)] := by
  have hv1 : cM μ ≤ 20 := hv.1.1
  have hc0 : μ.2 0 0 = nI (cM μ) := hv.1.2.1
  refine mc_of (by decide +kernel) (Nat.le_of_ble_eq_true rfl) (lv := [(0, .ref (am 0))]) rfl (fun X C hE => ?_)
  refine g_aload_n C dX7_freestOwner_0 rfl 0 rfl ?_
  refine g_iconst C (v := 0) dX7_freestOwner_1 (by decide) ?_
  refine g_putf C (T := TX7) (N := 15) (ty := .int) (w1 := wM E am (sI μ 0 0)) (cs1 := [wM E am (sI μ 0 0)]) 0 0 rfl rfl rfl inX7 tyX7_ok nmX7 0 (by decide) q6_70 rfl (by decide +kernel) rfl rfl (Nat.le_of_ble_eq_true rfl) rfl rfl dX7_freestOwner_2 ?_
  refine g_aload_n C dX7_freestOwner_5 rfl 0 rfl ?_
  refine g_callV C (cs1 := [wM E am (sI μ 0 0)]) (st1 := [.int (fX7_freest (sI μ 0 0))]) [] [0] (kX7_freest l E am (sI μ 0 0) (vM_i0 hv)) caX7_freest q8_35 rfl ⟨Nat.le_of_ble_eq_true rfl, Nat.le_of_ble_eq_true rfl⟩ ⟨Nat.zero_le _, Nat.zero_le _⟩ 0 0 rfl rfl rfl rfl (by decide) rfl rfl rfl rfl (Nat.le_of_ble_eq_true rfl) dX7_freestOwner_6 rfl ?_
  have e_1 : fX7_freestOwner μ = ((fX7_freest (sI μ 0 0)), sI μ 0 0) := by rw [fX7_freestOwner]
  exact g_iret C hE (by rw [e_1]) (by rw [e_1]) dX7_freestOwner_9
def fX7_dateOf (μ : BS) (a : Int32) : Int32 × BS :=
  if (fX7_isMilestone a) = true then (μ.2 0 (9 + a.toNatClampNeg), sI μ 0 0) else ((fX7_fails (sI μ 0 0) 1).1, (fX7_fails (sI μ 0 0) 1).2)
theorem caX7_dateOf : gCalV yX7_dateOf cX7_dateOf 2 (some .int) 1 := ⟨⟨q8_42, q1_6, by decide +kernel⟩, q8_40, q8_41⟩
set_option maxHeartbeats 4000000 in
set_option maxRecDepth 100000 in
theorem kX7_dateOf (l : Launch) (E : gE) (am : Nat → Nat) (μ : BS) (hv : vM μ)  (a : Int32) : MC l E yX7_dateOf cX7_dateOf 2 (some .int) 2 42 [.ref (am 0), .int a] [wM E am μ] (some (.int (fX7_dateOf μ a).1)) [wM E am ((fX7_dateOf μ a).2)] := by
  have hv1 : cM μ ≤ 20 := hv.1.1
  have hc0 : μ.2 0 0 = nI (cM μ) := hv.1.2.1
  refine mc_of (by decide +kernel) (Nat.le_of_ble_eq_true rfl) (lv := [(0, .ref (am 0)), (1, .int a)]) rfl (fun X C hE => ?_)
  refine g_aload_n C dX7_dateOf_0 rfl 0 rfl ?_
  refine g_iconst C (v := 0) dX7_dateOf_1 (by decide) ?_
  refine g_putf C (T := TX7) (N := 15) (ty := .int) (w1 := wM E am (sI μ 0 0)) (cs1 := [wM E am (sI μ 0 0)]) 0 0 rfl rfl rfl inX7 tyX7_ok nmX7 0 (by decide) q6_70 rfl (by decide +kernel) rfl rfl (Nat.le_of_ble_eq_true rfl) rfl rfl dX7_dateOf_2 ?_
  refine g_iload_n C dX7_dateOf_5 rfl 1 rfl ?_
  refine g_callS C (cs1 := [wM E am (sI μ 0 0)]) (st1 := [.int (b2i (fX7_isMilestone a))]) [.int a] [] (kX7_isMilestone l E a) caX7_isMilestone q6_225 rfl ⟨Nat.le_of_ble_eq_true rfl, Nat.le_of_ble_eq_true rfl⟩ ⟨Nat.zero_le _, Nat.zero_le _⟩ (by decide) rfl rfl rfl rfl (Nat.le_of_ble_eq_true rfl) dX7_dateOf_6 rfl ?_
  refine g_ifB_eq C 24 dX7_dateOf_9 (by decide) (fun c_1 => ?_) (fun c_1 => ?_)
  · skip
    refine g_aload_n C dX7_dateOf_24 rfl 0 rfl ?_
    refine g_iconst C (v := 1) dX7_dateOf_25 (by decide) ?_
    refine g_callV C (cs1 := [wM E am ((fX7_fails (sI μ 0 0) 1).2)]) (st1 := [.int ((fX7_fails (sI μ 0 0) 1).1)]) [.int 1] [0] (kX7_fails l E am (sI μ 0 0) 1) caX7_fails q6_127 rfl ⟨Nat.le_of_ble_eq_true rfl, Nat.le_of_ble_eq_true rfl⟩ ⟨Nat.zero_le _, Nat.zero_le _⟩ 0 0 rfl rfl rfl rfl (by decide) rfl rfl rfl rfl (Nat.le_of_ble_eq_true rfl) dX7_dateOf_26 rfl ?_
    have e_2 : fX7_dateOf μ a = ((fX7_fails (sI μ 0 0) 1).1, (fX7_fails (sI μ 0 0) 1).2) := by rw [fX7_dateOf]; rw [if_neg (ne_true_of_eq_false c_1)]
    exact g_iret C hE (by rw [e_2]) (by rw [e_2]) dX7_dateOf_29
  · skip
    have hx_3 := isMilestoneM_i c_1
    refine g_aload_n C dX7_dateOf_12 rfl 0 rfl ?_
    refine g_getf C (T := TX7) (N := 15) 0 0 rfl rfl rfl inX7 1 (by decide) q6_71 rfl dX7_dateOf_13 ?_
    refine g_bipush C (v := 9) dX7_dateOf_16 (by decide) ?_
    refine g_iload_n C dX7_dateOf_18 rfl 1 rfl ?_
    refine g_iadd C dX7_dateOf_19 ?_
    refine g_ialdn C (f := μ.2 0) 0 1 (9 + a.toNatClampNeg) rfl rfl (nx_add rfl hx_3.1) (by omega) (by decide) dX7_dateOf_20 ?_
    refine g_goto C 29 dX7_dateOf_21 (by decide) ?_
    have e_4 : fX7_dateOf μ a = (μ.2 0 (9 + a.toNatClampNeg), sI μ 0 0) := by rw [fX7_dateOf]; rw [if_pos c_1]
    exact g_iret C hE (by rw [e_4]) (by rw [e_4]) dX7_dateOf_29
def fX7_pointsLeft (μ : BS) (a : Int32) : Int32 × BS :=
  if (fX7_isMilestone a) = true then ((fX7_leftFor (sI μ 0 0) a), sI μ 0 0) else ((fX7_fails (sI μ 0 0) 1).1, (fX7_fails (sI μ 0 0) 1).2)
theorem caX7_pointsLeft : gCalV yX7_pointsLeft cX7_pointsLeft 2 (some .int) 1 := ⟨⟨q8_46, q1_6, by decide +kernel⟩, q8_44, q8_45⟩
set_option maxHeartbeats 4000000 in
set_option maxRecDepth 100000 in
theorem kX7_pointsLeft (l : Launch) (E : gE) (am : Nat → Nat) (μ : BS) (hv : vM μ)  (a : Int32) : MC l E yX7_pointsLeft cX7_pointsLeft 2 (some .int) 3 66 [.ref (am 0), .int a] [wM E am μ] (some (.int (fX7_pointsLeft μ a).1)) [wM E am ((fX7_pointsLeft μ a).2)] := by
  have hv1 : cM μ ≤ 20 := hv.1.1
  have hc0 : μ.2 0 0 = nI (cM μ) := hv.1.2.1
  refine mc_of (by decide +kernel) (Nat.le_of_ble_eq_true rfl) (lv := [(0, .ref (am 0)), (1, .int a)]) rfl (fun X C hE => ?_)
  refine g_aload_n C dX7_pointsLeft_0 rfl 0 rfl ?_
  refine g_iconst C (v := 0) dX7_pointsLeft_1 (by decide) ?_
  refine g_putf C (T := TX7) (N := 15) (ty := .int) (w1 := wM E am (sI μ 0 0)) (cs1 := [wM E am (sI μ 0 0)]) 0 0 rfl rfl rfl inX7 tyX7_ok nmX7 0 (by decide) q6_70 rfl (by decide +kernel) rfl rfl (Nat.le_of_ble_eq_true rfl) rfl rfl dX7_pointsLeft_2 ?_
  refine g_iload_n C dX7_pointsLeft_5 rfl 1 rfl ?_
  refine g_callS C (cs1 := [wM E am (sI μ 0 0)]) (st1 := [.int (b2i (fX7_isMilestone a))]) [.int a] [] (kX7_isMilestone l E a) caX7_isMilestone q6_225 rfl ⟨Nat.le_of_ble_eq_true rfl, Nat.le_of_ble_eq_true rfl⟩ ⟨Nat.zero_le _, Nat.zero_le _⟩ (by decide) rfl rfl rfl rfl (Nat.le_of_ble_eq_true rfl) dX7_pointsLeft_6 rfl ?_
  refine g_ifB_eq C 20 dX7_pointsLeft_9 (by decide) (fun c_1 => ?_) (fun c_1 => ?_)
  · skip
    refine g_aload_n C dX7_pointsLeft_20 rfl 0 rfl ?_
    refine g_iconst C (v := 1) dX7_pointsLeft_21 (by decide) ?_
    refine g_callV C (cs1 := [wM E am ((fX7_fails (sI μ 0 0) 1).2)]) (st1 := [.int ((fX7_fails (sI μ 0 0) 1).1)]) [.int 1] [0] (kX7_fails l E am (sI μ 0 0) 1) caX7_fails q6_127 rfl ⟨Nat.le_of_ble_eq_true rfl, Nat.le_of_ble_eq_true rfl⟩ ⟨Nat.zero_le _, Nat.zero_le _⟩ 0 0 rfl rfl rfl rfl (by decide) rfl rfl rfl rfl (Nat.le_of_ble_eq_true rfl) dX7_pointsLeft_22 rfl ?_
    have e_2 : fX7_pointsLeft μ a = ((fX7_fails (sI μ 0 0) 1).1, (fX7_fails (sI μ 0 0) 1).2) := by rw [fX7_pointsLeft]; rw [if_neg (ne_true_of_eq_false c_1)]
    exact g_iret C hE (by rw [e_2]) (by rw [e_2]) dX7_pointsLeft_25
  · skip
    have hx_3 := isMilestoneM_i c_1
    refine g_aload_n C dX7_pointsLeft_12 rfl 0 rfl ?_
    refine g_iload_n C dX7_pointsLeft_13 rfl 1 rfl ?_
    refine g_callV C (cs1 := [wM E am (sI μ 0 0)]) (st1 := [.int (fX7_leftFor (sI μ 0 0) a)]) [.int a] [0] (kX7_leftFor l E am (sI μ 0 0) (vM_i0 hv) a) caX7_leftFor q6_228 rfl ⟨Nat.le_of_ble_eq_true rfl, Nat.le_of_ble_eq_true rfl⟩ ⟨Nat.zero_le _, Nat.zero_le _⟩ 0 0 rfl rfl rfl rfl (by decide) rfl rfl rfl rfl (Nat.le_of_ble_eq_true rfl) dX7_pointsLeft_14 rfl ?_
    refine g_goto C 25 dX7_pointsLeft_17 (by decide) ?_
    have e_4 : fX7_pointsLeft μ a = ((fX7_leftFor (sI μ 0 0) a), sI μ 0 0) := by rw [fX7_pointsLeft]; rw [if_pos c_1]
    exact g_iret C hE (by rw [e_4]) (by rw [e_4]) dX7_pointsLeft_25
def fX7_pointsDone (μ : BS) (a : Int32) : Int32 × BS :=
  if (fX7_isMilestone a) = true then ((fX7_doneFor (sI μ 0 0) a), sI μ 0 0) else ((fX7_fails (sI μ 0 0) 1).1, (fX7_fails (sI μ 0 0) 1).2)
theorem caX7_pointsDone : gCalV yX7_pointsDone cX7_pointsDone 2 (some .int) 1 := ⟨⟨q8_50, q1_6, by decide +kernel⟩, q8_48, q8_49⟩
set_option maxHeartbeats 4000000 in
set_option maxRecDepth 100000 in
theorem kX7_pointsDone (l : Launch) (E : gE) (am : Nat → Nat) (μ : BS) (hv : vM μ)  (a : Int32) : MC l E yX7_pointsDone cX7_pointsDone 2 (some .int) 2 45 [.ref (am 0), .int a] [wM E am μ] (some (.int (fX7_pointsDone μ a).1)) [wM E am ((fX7_pointsDone μ a).2)] := by
  have hv1 : cM μ ≤ 20 := hv.1.1
  have hc0 : μ.2 0 0 = nI (cM μ) := hv.1.2.1
  refine mc_of (by decide +kernel) (Nat.le_of_ble_eq_true rfl) (lv := [(0, .ref (am 0)), (1, .int a)]) rfl (fun X C hE => ?_)
  refine g_aload_n C dX7_pointsDone_0 rfl 0 rfl ?_
  refine g_iconst C (v := 0) dX7_pointsDone_1 (by decide) ?_
  refine g_putf C (T := TX7) (N := 15) (ty := .int) (w1 := wM E am (sI μ 0 0)) (cs1 := [wM E am (sI μ 0 0)]) 0 0 rfl rfl rfl inX7 tyX7_ok nmX7 0 (by decide) q6_70 rfl (by decide +kernel) rfl rfl (Nat.le_of_ble_eq_true rfl) rfl rfl dX7_pointsDone_2 ?_
  refine g_iload_n C dX7_pointsDone_5 rfl 1 rfl ?_
  refine g_callS C (cs1 := [wM E am (sI μ 0 0)]) (st1 := [.int (b2i (fX7_isMilestone a))]) [.int a] [] (kX7_isMilestone l E a) caX7_isMilestone q6_225 rfl ⟨Nat.le_of_ble_eq_true rfl, Nat.le_of_ble_eq_true rfl⟩ ⟨Nat.zero_le _, Nat.zero_le _⟩ (by decide) rfl rfl rfl rfl (Nat.le_of_ble_eq_true rfl) dX7_pointsDone_6 rfl ?_
  refine g_ifB_eq C 20 dX7_pointsDone_9 (by decide) (fun c_1 => ?_) (fun c_1 => ?_)
  · skip
    refine g_aload_n C dX7_pointsDone_20 rfl 0 rfl ?_
    refine g_iconst C (v := 1) dX7_pointsDone_21 (by decide) ?_
    refine g_callV C (cs1 := [wM E am ((fX7_fails (sI μ 0 0) 1).2)]) (st1 := [.int ((fX7_fails (sI μ 0 0) 1).1)]) [.int 1] [0] (kX7_fails l E am (sI μ 0 0) 1) caX7_fails q6_127 rfl ⟨Nat.le_of_ble_eq_true rfl, Nat.le_of_ble_eq_true rfl⟩ ⟨Nat.zero_le _, Nat.zero_le _⟩ 0 0 rfl rfl rfl rfl (by decide) rfl rfl rfl rfl (Nat.le_of_ble_eq_true rfl) dX7_pointsDone_22 rfl ?_
    have e_2 : fX7_pointsDone μ a = ((fX7_fails (sI μ 0 0) 1).1, (fX7_fails (sI μ 0 0) 1).2) := by rw [fX7_pointsDone]; rw [if_neg (ne_true_of_eq_false c_1)]
    exact g_iret C hE (by rw [e_2]) (by rw [e_2]) dX7_pointsDone_25
  · skip
    have hx_3 := isMilestoneM_i c_1
    refine g_aload_n C dX7_pointsDone_12 rfl 0 rfl ?_
    refine g_iload_n C dX7_pointsDone_13 rfl 1 rfl ?_
    refine g_callV C (cs1 := [wM E am (sI μ 0 0)]) (st1 := [.int (fX7_doneFor (sI μ 0 0) a)]) [.int a] [0] (kX7_doneFor l E am (sI μ 0 0) (vM_i0 hv) a) caX7_doneFor q8_51 rfl ⟨Nat.le_of_ble_eq_true rfl, Nat.le_of_ble_eq_true rfl⟩ ⟨Nat.zero_le _, Nat.zero_le _⟩ 0 0 rfl rfl rfl rfl (by decide) rfl rfl rfl rfl (Nat.le_of_ble_eq_true rfl) dX7_pointsDone_14 rfl ?_
    refine g_goto C 25 dX7_pointsDone_17 (by decide) ?_
    have e_4 : fX7_pointsDone μ a = ((fX7_doneFor (sI μ 0 0) a), sI μ 0 0) := by rw [fX7_pointsDone]; rw [if_pos c_1]
    exact g_iret C hE (by rw [e_4]) (by rw [e_4]) dX7_pointsDone_25
def fX7_hundredthsDone (μ : BS) (a : Int32) : Int32 × BS :=
  if (fX7_isMilestone a) = true then ((fX7_hundredths (sI μ 0 0) a), sI μ 0 0) else ((fX7_fails (sI μ 0 0) 1).1, (fX7_fails (sI μ 0 0) 1).2)
theorem caX7_hundredthsDone : gCalV yX7_hundredthsDone cX7_hundredthsDone 2 (some .int) 1 := ⟨⟨q8_58, q1_6, by decide +kernel⟩, q8_56, q8_57⟩
set_option maxHeartbeats 4000000 in
set_option maxRecDepth 100000 in
theorem kX7_hundredthsDone (l : Launch) (E : gE) (am : Nat → Nat) (μ : BS) (hv : vM μ)  (a : Int32) : MC l E yX7_hundredthsDone cX7_hundredthsDone 2 (some .int) 4 88 [.ref (am 0), .int a] [wM E am μ] (some (.int (fX7_hundredthsDone μ a).1)) [wM E am ((fX7_hundredthsDone μ a).2)] := by
  have hv1 : cM μ ≤ 20 := hv.1.1
  have hc0 : μ.2 0 0 = nI (cM μ) := hv.1.2.1
  refine mc_of (by decide +kernel) (Nat.le_of_ble_eq_true rfl) (lv := [(0, .ref (am 0)), (1, .int a)]) rfl (fun X C hE => ?_)
  refine g_aload_n C dX7_hundredthsDone_0 rfl 0 rfl ?_
  refine g_iconst C (v := 0) dX7_hundredthsDone_1 (by decide) ?_
  refine g_putf C (T := TX7) (N := 15) (ty := .int) (w1 := wM E am (sI μ 0 0)) (cs1 := [wM E am (sI μ 0 0)]) 0 0 rfl rfl rfl inX7 tyX7_ok nmX7 0 (by decide) q6_70 rfl (by decide +kernel) rfl rfl (Nat.le_of_ble_eq_true rfl) rfl rfl dX7_hundredthsDone_2 ?_
  refine g_iload_n C dX7_hundredthsDone_5 rfl 1 rfl ?_
  refine g_callS C (cs1 := [wM E am (sI μ 0 0)]) (st1 := [.int (b2i (fX7_isMilestone a))]) [.int a] [] (kX7_isMilestone l E a) caX7_isMilestone q6_225 rfl ⟨Nat.le_of_ble_eq_true rfl, Nat.le_of_ble_eq_true rfl⟩ ⟨Nat.zero_le _, Nat.zero_le _⟩ (by decide) rfl rfl rfl rfl (Nat.le_of_ble_eq_true rfl) dX7_hundredthsDone_6 rfl ?_
  refine g_ifB_eq C 20 dX7_hundredthsDone_9 (by decide) (fun c_1 => ?_) (fun c_1 => ?_)
  · skip
    refine g_aload_n C dX7_hundredthsDone_20 rfl 0 rfl ?_
    refine g_iconst C (v := 1) dX7_hundredthsDone_21 (by decide) ?_
    refine g_callV C (cs1 := [wM E am ((fX7_fails (sI μ 0 0) 1).2)]) (st1 := [.int ((fX7_fails (sI μ 0 0) 1).1)]) [.int 1] [0] (kX7_fails l E am (sI μ 0 0) 1) caX7_fails q6_127 rfl ⟨Nat.le_of_ble_eq_true rfl, Nat.le_of_ble_eq_true rfl⟩ ⟨Nat.zero_le _, Nat.zero_le _⟩ 0 0 rfl rfl rfl rfl (by decide) rfl rfl rfl rfl (Nat.le_of_ble_eq_true rfl) dX7_hundredthsDone_22 rfl ?_
    have e_2 : fX7_hundredthsDone μ a = ((fX7_fails (sI μ 0 0) 1).1, (fX7_fails (sI μ 0 0) 1).2) := by rw [fX7_hundredthsDone]; rw [if_neg (ne_true_of_eq_false c_1)]
    exact g_iret C hE (by rw [e_2]) (by rw [e_2]) dX7_hundredthsDone_25
  · skip
    have hx_3 := isMilestoneM_i c_1
    refine g_aload_n C dX7_hundredthsDone_12 rfl 0 rfl ?_
    refine g_iload_n C dX7_hundredthsDone_13 rfl 1 rfl ?_
    refine g_callV C (cs1 := [wM E am (sI μ 0 0)]) (st1 := [.int (fX7_hundredths (sI μ 0 0) a)]) [.int a] [0] (kX7_hundredths l E am (sI μ 0 0) (vM_i0 hv) a) caX7_hundredths q8_59 rfl ⟨Nat.le_of_ble_eq_true rfl, Nat.le_of_ble_eq_true rfl⟩ ⟨Nat.zero_le _, Nat.zero_le _⟩ 0 0 rfl rfl rfl rfl (by decide) rfl rfl rfl rfl (Nat.le_of_ble_eq_true rfl) dX7_hundredthsDone_14 rfl ?_
    refine g_goto C 25 dX7_hundredthsDone_17 (by decide) ?_
    have e_4 : fX7_hundredthsDone μ a = ((fX7_hundredths (sI μ 0 0) a), sI μ 0 0) := by rw [fX7_hundredthsDone]; rw [if_pos c_1]
    exact g_iret C hE (by rw [e_4]) (by rw [e_4]) dX7_hundredthsDone_25
def fX7_isLate (μ : BS) (a : Int32) : Bool × BS :=
  if (fX7_isMilestone a) = true then ((fX7_late (sI μ 0 0) a.toNatClampNeg), sI μ 0 0) else (if ((fX7_fails (sI μ 0 0) 1).1) ≤ 0 then (false, (fX7_fails (sI μ 0 0) 1).2) else (true, (fX7_fails (sI μ 0 0) 1).2))
theorem caX7_isLate : gCalV yX7_isLate cX7_isLate 2 (some .boolean) 1 := ⟨⟨q8_66, q1_6, by decide +kernel⟩, q8_64, q8_65⟩
set_option maxHeartbeats 4000000 in
set_option maxRecDepth 100000 in
theorem kX7_isLate (l : Launch) (E : gE) (am : Nat → Nat) (μ : BS) (hv : vM μ)  (a : Int32) : MC l E yX7_isLate cX7_isLate 2 (some .boolean) 4 87 [.ref (am 0), .int a] [wM E am μ] (some (.int (b2i (fX7_isLate μ a).1))) [wM E am ((fX7_isLate μ a).2)] := by
  have hv1 : cM μ ≤ 20 := hv.1.1
  have hc0 : μ.2 0 0 = nI (cM μ) := hv.1.2.1
  refine mc_of (by decide +kernel) (Nat.le_of_ble_eq_true rfl) (lv := [(0, .ref (am 0)), (1, .int a)]) rfl (fun X C hE => ?_)
  refine g_aload_n C dX7_isLate_0 rfl 0 rfl ?_
  refine g_iconst C (v := 0) dX7_isLate_1 (by decide) ?_
  refine g_putf C (T := TX7) (N := 15) (ty := .int) (w1 := wM E am (sI μ 0 0)) (cs1 := [wM E am (sI μ 0 0)]) 0 0 rfl rfl rfl inX7 tyX7_ok nmX7 0 (by decide) q6_70 rfl (by decide +kernel) rfl rfl (Nat.le_of_ble_eq_true rfl) rfl rfl dX7_isLate_2 ?_
  refine g_iload_n C dX7_isLate_5 rfl 1 rfl ?_
  refine g_callS C (cs1 := [wM E am (sI μ 0 0)]) (st1 := [.int (b2i (fX7_isMilestone a))]) [.int a] [] (kX7_isMilestone l E a) caX7_isMilestone q6_225 rfl ⟨Nat.le_of_ble_eq_true rfl, Nat.le_of_ble_eq_true rfl⟩ ⟨Nat.zero_le _, Nat.zero_le _⟩ (by decide) rfl rfl rfl rfl (Nat.le_of_ble_eq_true rfl) dX7_isLate_6 rfl ?_
  refine g_ifB_eq C 20 dX7_isLate_9 (by decide) (fun c_1 => ?_) (fun c_1 => ?_)
  · skip
    refine g_aload_n C dX7_isLate_20 rfl 0 rfl ?_
    refine g_iconst C (v := 1) dX7_isLate_21 (by decide) ?_
    refine g_callV C (cs1 := [wM E am ((fX7_fails (sI μ 0 0) 1).2)]) (st1 := [.int ((fX7_fails (sI μ 0 0) 1).1)]) [.int 1] [0] (kX7_fails l E am (sI μ 0 0) 1) caX7_fails q6_127 rfl ⟨Nat.le_of_ble_eq_true rfl, Nat.le_of_ble_eq_true rfl⟩ ⟨Nat.zero_le _, Nat.zero_le _⟩ 0 0 rfl rfl rfl rfl (by decide) rfl rfl rfl rfl (Nat.le_of_ble_eq_true rfl) dX7_isLate_22 rfl ?_
    refine g_if_le C 32 dX7_isLate_25 (by decide) (fun c_2 => ?_) (fun c_2 => ?_)
    · skip
      refine g_iconst C (v := 0) dX7_isLate_32 (by decide) ?_
      have e_3 : fX7_isLate μ a = (false, (fX7_fails (sI μ 0 0) 1).2) := by rw [fX7_isLate]; rw [if_neg (ne_true_of_eq_false c_1), if_pos c_2]
      exact g_zret (b := false) C hE (by rw [e_3]) rfl (by rw [e_3]) dX7_isLate_33
    · skip
      refine g_iconst C (v := 1) dX7_isLate_28 (by decide) ?_
      refine g_goto C 33 dX7_isLate_29 (by decide) ?_
      have e_4 : fX7_isLate μ a = (true, (fX7_fails (sI μ 0 0) 1).2) := by rw [fX7_isLate]; rw [if_neg (ne_true_of_eq_false c_1), if_neg c_2]
      exact g_zret (b := true) C hE (by rw [e_4]) rfl (by rw [e_4]) dX7_isLate_33
  · skip
    have hx_5 := isMilestoneM_i c_1
    refine g_aload_n C dX7_isLate_12 rfl 0 rfl ?_
    refine g_iload_n C dX7_isLate_13 rfl 1 rfl ?_
    refine g_st (st1 := [.int (nI a.toNatClampNeg), .ref (am 0)]) (by rw [← hx_5.1]) ?_
    refine g_callV C (cs1 := [wM E am (sI μ 0 0)]) (st1 := [.int (b2i (fX7_late (sI μ 0 0) a.toNatClampNeg))]) [.int (nI a.toNatClampNeg)] [0] (kX7_late l E am (sI μ 0 0) (vM_i0 hv) a.toNatClampNeg hx_5.2) caX7_late q8_67 rfl ⟨Nat.le_of_ble_eq_true rfl, Nat.le_of_ble_eq_true rfl⟩ ⟨Nat.zero_le _, Nat.zero_le _⟩ 0 0 rfl rfl rfl rfl (by decide) rfl rfl rfl rfl (Nat.le_of_ble_eq_true rfl) dX7_isLate_14 rfl ?_
    refine g_goto C 33 dX7_isLate_17 (by decide) ?_
    have e_6 : fX7_isLate μ a = ((fX7_late (sI μ 0 0) a.toNatClampNeg), sI μ 0 0) := by rw [fX7_isLate]; rw [if_pos c_1]
    exact g_zret (b := (fX7_late (sI μ 0 0) a.toNatClampNeg)) C hE (by rw [e_6]) rfl (by rw [e_6]) dX7_isLate_33
def fX7_misplanned (μ : BS) (a : Int32) : Int32 × BS :=
  if (fX7_isMilestone a) = true then ((fX7_misplannedOf (sI μ 0 0) a.toNatClampNeg), sI μ 0 0) else ((fX7_fails (sI μ 0 0) 1).1, (fX7_fails (sI μ 0 0) 1).2)
theorem caX7_misplanned : gCalV yX7_misplanned cX7_misplanned 2 (some .int) 1 := ⟨⟨q8_74, q1_6, by decide +kernel⟩, q8_72, q8_73⟩
set_option maxHeartbeats 4000000 in
set_option maxRecDepth 100000 in
theorem kX7_misplanned (l : Launch) (E : gE) (am : Nat → Nat) (μ : BS) (hv : vM μ)  (a : Int32) : MC l E yX7_misplanned cX7_misplanned 2 (some .int) 5 111 [.ref (am 0), .int a] [wM E am μ] (some (.int (fX7_misplanned μ a).1)) [wM E am ((fX7_misplanned μ a).2)] := by
  have hv1 : cM μ ≤ 20 := hv.1.1
  have hc0 : μ.2 0 0 = nI (cM μ) := hv.1.2.1
  refine mc_of (by decide +kernel) (Nat.le_of_ble_eq_true rfl) (lv := [(0, .ref (am 0)), (1, .int a)]) rfl (fun X C hE => ?_)
  refine g_aload_n C dX7_misplanned_0 rfl 0 rfl ?_
  refine g_iconst C (v := 0) dX7_misplanned_1 (by decide) ?_
  refine g_putf C (T := TX7) (N := 15) (ty := .int) (w1 := wM E am (sI μ 0 0)) (cs1 := [wM E am (sI μ 0 0)]) 0 0 rfl rfl rfl inX7 tyX7_ok nmX7 0 (by decide) q6_70 rfl (by decide +kernel) rfl rfl (Nat.le_of_ble_eq_true rfl) rfl rfl dX7_misplanned_2 ?_
  refine g_iload_n C dX7_misplanned_5 rfl 1 rfl ?_
  refine g_callS C (cs1 := [wM E am (sI μ 0 0)]) (st1 := [.int (b2i (fX7_isMilestone a))]) [.int a] [] (kX7_isMilestone l E a) caX7_isMilestone q6_225 rfl ⟨Nat.le_of_ble_eq_true rfl, Nat.le_of_ble_eq_true rfl⟩ ⟨Nat.zero_le _, Nat.zero_le _⟩ (by decide) rfl rfl rfl rfl (Nat.le_of_ble_eq_true rfl) dX7_misplanned_6 rfl ?_
  refine g_ifB_eq C 20 dX7_misplanned_9 (by decide) (fun c_1 => ?_) (fun c_1 => ?_)
  · skip
    refine g_aload_n C dX7_misplanned_20 rfl 0 rfl ?_
    refine g_iconst C (v := 1) dX7_misplanned_21 (by decide) ?_
    refine g_callV C (cs1 := [wM E am ((fX7_fails (sI μ 0 0) 1).2)]) (st1 := [.int ((fX7_fails (sI μ 0 0) 1).1)]) [.int 1] [0] (kX7_fails l E am (sI μ 0 0) 1) caX7_fails q6_127 rfl ⟨Nat.le_of_ble_eq_true rfl, Nat.le_of_ble_eq_true rfl⟩ ⟨Nat.zero_le _, Nat.zero_le _⟩ 0 0 rfl rfl rfl rfl (by decide) rfl rfl rfl rfl (Nat.le_of_ble_eq_true rfl) dX7_misplanned_22 rfl ?_
    have e_2 : fX7_misplanned μ a = ((fX7_fails (sI μ 0 0) 1).1, (fX7_fails (sI μ 0 0) 1).2) := by rw [fX7_misplanned]; rw [if_neg (ne_true_of_eq_false c_1)]
    exact g_iret C hE (by rw [e_2]) (by rw [e_2]) dX7_misplanned_25
  · skip
    have hx_3 := isMilestoneM_i c_1
    refine g_aload_n C dX7_misplanned_12 rfl 0 rfl ?_
    refine g_iload_n C dX7_misplanned_13 rfl 1 rfl ?_
    refine g_st (st1 := [.int (nI a.toNatClampNeg), .ref (am 0)]) (by rw [← hx_3.1]) ?_
    refine g_callV C (cs1 := [wM E am (sI μ 0 0)]) (st1 := [.int (fX7_misplannedOf (sI μ 0 0) a.toNatClampNeg)]) [.int (nI a.toNatClampNeg)] [0] (kX7_misplannedOf l E am (sI μ 0 0) (vM_i0 hv) a.toNatClampNeg hx_3.2) caX7_misplannedOf q8_75 rfl ⟨Nat.le_of_ble_eq_true rfl, Nat.le_of_ble_eq_true rfl⟩ ⟨Nat.zero_le _, Nat.zero_le _⟩ 0 0 rfl rfl rfl rfl (by decide) rfl rfl rfl rfl (Nat.le_of_ble_eq_true rfl) dX7_misplanned_14 rfl ?_
    refine g_goto C 25 dX7_misplanned_17 (by decide) ?_
    have e_4 : fX7_misplanned μ a = ((fX7_misplannedOf (sI μ 0 0) a.toNatClampNeg), sI μ 0 0) := by rw [fX7_misplanned]; rw [if_pos c_1]
    exact g_iret C hE (by rw [e_4]) (by rw [e_4]) dX7_misplanned_25
def fX7_lateMilestones_L9 (μ : BS) (i9 : Nat) (t9 : Int32) : Int32 :=
  if (fX7_late (sI μ 0 0) i9) = true then t9 + 1 else t9 + 0
def fX7_lateMilestones (μ : BS) : Int32 × BS :=
  ((lpF (fX7_lateMilestones_L9 μ) 0 4), sI μ 0 0)
theorem caX7_lateMilestones : gCalV yX7_lateMilestones cX7_lateMilestones 3 (some .int) 0 := ⟨⟨q8_86, q1_6, by decide +kernel⟩, q8_84, q8_85⟩
set_option maxHeartbeats 4000000 in
set_option maxRecDepth 100000 in
theorem kX7_lateMilestones (l : Launch) (E : gE) (am : Nat → Nat) (μ : BS) (hv : vM μ)   : MC l E yX7_lateMilestones cX7_lateMilestones 3 (some .int) 4 87 [.ref (am 0)] [wM E am μ] (some (.int (fX7_lateMilestones μ).1)) [wM E am ((fX7_lateMilestones μ).2)] := by
  have hv1 : cM μ ≤ 20 := hv.1.1
  have hc0 : μ.2 0 0 = nI (cM μ) := hv.1.2.1
  refine mc_of (by decide +kernel) (Nat.le_of_ble_eq_true rfl) (lv := [(0, .ref (am 0))]) rfl (fun X C hE => ?_)
  refine g_aload_n C dX7_lateMilestones_0 rfl 0 rfl ?_
  refine g_iconst C (v := 0) dX7_lateMilestones_1 (by decide) ?_
  refine g_putf C (T := TX7) (N := 15) (ty := .int) (w1 := wM E am (sI μ 0 0)) (cs1 := [wM E am (sI μ 0 0)]) 0 0 rfl rfl rfl inX7 tyX7_ok nmX7 0 (by decide) q6_70 rfl (by decide +kernel) rfl rfl (Nat.le_of_ble_eq_true rfl) rfl rfl dX7_lateMilestones_2 ?_
  refine g_iconst C (v := 0) dX7_lateMilestones_5 (by decide) ?_
  refine g_istore_n C (lv1 := [(1, .int 0), (0, .ref (am 0))]) dX7_lateMilestones_6 rfl (by decide) rfl ?_
  refine g_iconst C (v := 0) dX7_lateMilestones_7 (by decide) ?_
  refine g_istore_n C (lv1 := [(2, .int 0), (1, .int 0), (0, .ref (am 0))]) dX7_lateMilestones_8 rfl (by decide) rfl ?_
  have hL_3 : ∀ d_1 i9 : Nat, i9 + d_1 = 4 → G X 0 0 [wM E am (sI μ 0 0)] [(0, .ref (am 0)), (1, .int (lpF (fX7_lateMilestones_L9 μ) 0 i9)), (2, .int (nI i9))] 9 [] := by
    intro d_1
    induction d_1 with
    | zero =>
      intro i9 hi_2
      obtain rfl : i9 = 4 := by omega
      refine g_iload_n C dX7_lateMilestones_9 rfl 2 rfl ?_
      refine g_iconst C (v := 4) dX7_lateMilestones_10 (by decide) ?_
      refine g_icmp_ge C 36 dX7_lateMilestones_11 (by decide) (fun c_5 => ?_) (fun c_5 => ?_)
      · skip
        refine g_iload_n C dX7_lateMilestones_36 rfl 1 rfl ?_
        have e_6 : fX7_lateMilestones μ = ((lpF (fX7_lateMilestones_L9 μ) 0 4), sI μ 0 0) := by rw [fX7_lateMilestones]
        exact g_iret C hE (by rw [e_6]) (by rw [e_6]) dX7_lateMilestones_37
      · exact absurd (lc_le rfl nI_l4 (by omega) (by omega)) c_5
    | succ d_1 ih_4 =>
      intro i9 hi_2
      refine g_iload_n C dX7_lateMilestones_9 rfl 2 rfl ?_
      refine g_iconst C (v := 4) dX7_lateMilestones_10 (by decide) ?_
      refine g_icmp_ge C 36 dX7_lateMilestones_11 (by decide) (fun c_7 => ?_) (fun c_7 => ?_)
      · exact absurd c_7 (lc_nle rfl nI_l4 (by omega) (by omega))
      · skip
        refine g_iload_n C dX7_lateMilestones_14 rfl 1 rfl ?_
        refine g_aload_n C dX7_lateMilestones_15 rfl 0 rfl ?_
        refine g_iload_n C dX7_lateMilestones_16 rfl 2 rfl ?_
        refine g_callV C (cs1 := [wM E am (sI μ 0 0)]) (st1 := [.int (b2i (fX7_late (sI μ 0 0) i9)), .int (lpF (fX7_lateMilestones_L9 μ) 0 i9)]) [.int (nI i9)] [0] (kX7_late l E am (sI μ 0 0) (vM_i0 hv) i9 (by omega)) caX7_late q8_67 rfl ⟨Nat.le_of_ble_eq_true rfl, Nat.le_of_ble_eq_true rfl⟩ ⟨Nat.zero_le _, Nat.zero_le _⟩ 0 0 rfl rfl rfl rfl (by decide) rfl rfl rfl rfl (Nat.le_of_ble_eq_true rfl) dX7_lateMilestones_17 rfl ?_
        refine g_ifB_eq C 27 dX7_lateMilestones_20 (by decide) (fun c_8 => ?_) (fun c_8 => ?_)
        · skip
          refine g_iconst C (v := 0) dX7_lateMilestones_27 (by decide) ?_
          refine g_iadd C dX7_lateMilestones_28 ?_
          refine g_istore_n C (lv1 := [(1, .int ((lpF (fX7_lateMilestones_L9 μ) 0 i9) + 0)), (0, .ref (am 0)), (2, .int (nI i9))]) dX7_lateMilestones_29 rfl (by decide) rfl ?_
          refine g_iinc C (v := nI (i9 + 1)) (lv1 := [(2, .int (nI (i9 + 1))), (1, .int ((lpF (fX7_lateMilestones_L9 μ) 0 i9) + 0)), (0, .ref (am 0))]) dX7_lateMilestones_30 2 rfl (nI_1 i9) (by decide) rfl ?_
          refine g_goto C 9 dX7_lateMilestones_33 (by decide) ?_
          have e_9 : (lpF (fX7_lateMilestones_L9 μ) 0 (i9 + 1)) = (lpF (fX7_lateMilestones_L9 μ) 0 i9) + 0 := by
            rw [lpF_1, fX7_lateMilestones_L9]; rw [if_neg (ne_true_of_eq_false c_8)]
          have h_10 := ih_4 (i9 + 1) (by omega)
          rw [e_9] at h_10
          exact g_sub [2, 1, 0] rfl h_10
        · skip
          refine g_iconst C (v := 1) dX7_lateMilestones_23 (by decide) ?_
          refine g_goto C 28 dX7_lateMilestones_24 (by decide) ?_
          refine g_iadd C dX7_lateMilestones_28 ?_
          refine g_istore_n C (lv1 := [(1, .int ((lpF (fX7_lateMilestones_L9 μ) 0 i9) + 1)), (0, .ref (am 0)), (2, .int (nI i9))]) dX7_lateMilestones_29 rfl (by decide) rfl ?_
          refine g_iinc C (v := nI (i9 + 1)) (lv1 := [(2, .int (nI (i9 + 1))), (1, .int ((lpF (fX7_lateMilestones_L9 μ) 0 i9) + 1)), (0, .ref (am 0))]) dX7_lateMilestones_30 2 rfl (nI_1 i9) (by decide) rfl ?_
          refine g_goto C 9 dX7_lateMilestones_33 (by decide) ?_
          have e_11 : (lpF (fX7_lateMilestones_L9 μ) 0 (i9 + 1)) = (lpF (fX7_lateMilestones_L9 μ) 0 i9) + 1 := by
            rw [lpF_1, fX7_lateMilestones_L9]; rw [if_pos c_8]
          have h_12 := ih_4 (i9 + 1) (by omega)
          rw [e_11] at h_12
          exact g_sub [2, 1, 0] rfl h_12
  refine g_sub [2, 1, 0] (lv1 := [(0, .ref (am 0)), (1, .int 0), (2, .int 0)]) rfl ?_
  exact hL_3 4 0 (by omega)
def fX7_nextToDo (μ : BS) : Int32 × BS :=
  if (fX7_next (sI μ 0 0)) = (-1) then ((fX7_fails (sI μ 0 0) 1).1, (fX7_fails (sI μ 0 0) 1).2) else ((fX7_next (sI μ 0 0)), sI μ 0 0)
theorem caX7_nextToDo : gCalV yX7_nextToDo cX7_nextToDo 2 (some .int) 0 := ⟨⟨q8_90, q1_6, by decide +kernel⟩, q8_88, q8_89⟩
set_option maxHeartbeats 4000000 in
set_option maxRecDepth 100000 in
theorem kX7_nextToDo (l : Launch) (E : gE) (am : Nat → Nat) (μ : BS) (hv : vM μ)   : MC l E yX7_nextToDo cX7_nextToDo 2 (some .int) 5 108 [.ref (am 0)] [wM E am μ] (some (.int (fX7_nextToDo μ).1)) [wM E am ((fX7_nextToDo μ).2)] := by
  have hv1 : cM μ ≤ 20 := hv.1.1
  have hc0 : μ.2 0 0 = nI (cM μ) := hv.1.2.1
  refine mc_of (by decide +kernel) (Nat.le_of_ble_eq_true rfl) (lv := [(0, .ref (am 0))]) rfl (fun X C hE => ?_)
  refine g_aload_n C dX7_nextToDo_0 rfl 0 rfl ?_
  refine g_iconst C (v := 0) dX7_nextToDo_1 (by decide) ?_
  refine g_putf C (T := TX7) (N := 15) (ty := .int) (w1 := wM E am (sI μ 0 0)) (cs1 := [wM E am (sI μ 0 0)]) 0 0 rfl rfl rfl inX7 tyX7_ok nmX7 0 (by decide) q6_70 rfl (by decide +kernel) rfl rfl (Nat.le_of_ble_eq_true rfl) rfl rfl dX7_nextToDo_2 ?_
  refine g_aload_n C dX7_nextToDo_5 rfl 0 rfl ?_
  refine g_callV C (cs1 := [wM E am (sI μ 0 0)]) (st1 := [.int (fX7_next (sI μ 0 0))]) [] [0] (kX7_next l E am (sI μ 0 0) (vM_i0 hv)) caX7_next q8_91 rfl ⟨Nat.le_of_ble_eq_true rfl, Nat.le_of_ble_eq_true rfl⟩ ⟨Nat.zero_le _, Nat.zero_le _⟩ 0 0 rfl rfl rfl rfl (by decide) rfl rfl rfl rfl (Nat.le_of_ble_eq_true rfl) dX7_nextToDo_6 rfl ?_
  refine g_istore_n C (lv1 := [(1, .int (fX7_next (sI μ 0 0))), (0, .ref (am 0))]) dX7_nextToDo_9 rfl (by decide) rfl ?_
  refine g_iload_n C dX7_nextToDo_10 rfl 0 rfl ?_
  refine g_iconst C (v := -1) dX7_nextToDo_11 (by decide) ?_
  refine g_icmp_ne C 23 dX7_nextToDo_12 (by decide) (fun c_1 => ?_) (fun c_1 => ?_)
  · skip
    refine g_iload_n C dX7_nextToDo_23 rfl 0 rfl ?_
    have e_2 : fX7_nextToDo μ = ((fX7_next (sI μ 0 0)), sI μ 0 0) := by rw [fX7_nextToDo]; rw [if_neg c_1]
    exact g_iret C hE (by rw [e_2]) (by rw [e_2]) dX7_nextToDo_24
  · skip
    refine g_aload_n C dX7_nextToDo_15 rfl 1 rfl ?_
    refine g_iconst C (v := 1) dX7_nextToDo_16 (by decide) ?_
    refine g_callV C (cs1 := [wM E am ((fX7_fails (sI μ 0 0) 1).2)]) (st1 := [.int ((fX7_fails (sI μ 0 0) 1).1)]) [.int 1] [0] (kX7_fails l E am (sI μ 0 0) 1) caX7_fails q6_127 rfl ⟨Nat.le_of_ble_eq_true rfl, Nat.le_of_ble_eq_true rfl⟩ ⟨Nat.zero_le _, Nat.zero_le _⟩ 0 0 rfl rfl rfl rfl (by decide) rfl rfl rfl rfl (Nat.le_of_ble_eq_true rfl) dX7_nextToDo_17 rfl ?_
    refine g_goto C 24 dX7_nextToDo_20 (by decide) ?_
    have e_3 : fX7_nextToDo μ = ((fX7_fails (sI μ 0 0) 1).1, (fX7_fails (sI μ 0 0) 1).2) := by rw [fX7_nextToDo]; rw [if_pos c_1]
    exact g_iret C hE (by rw [e_3]) (by rw [e_3]) dX7_nextToDo_24
theorem fillM_i {μ : BS} : (fX7_tellsOrder μ).1 = nI (fX7_tellsOrder μ).1.toNatClampNeg ∧ (fX7_tellsOrder μ).1.toNatClampNeg ≤ 20 := by
  have key : ∀ d i (t : Int32 × BS), i + d ≤ 21 → ∃ n : Nat, n < 21 ∧ (fX7_tellsOrder_R7 μ d i t).1 = nI n := by
    intro d
    induction d with
    | zero => intro i t h; exact ⟨0, by omega, rfl⟩
    | succ d ih =>
      intro i t h
      rw [fX7_tellsOrder_R7]
      split
      · exact ⟨i, by omega, rfl⟩
      · exact ih (i + 1) _ (by omega)
  obtain ⟨h1, h2⟩ := okI (N := 21) (by omega) (key 21 0 (fX7_left μ, μ) (by omega))
  exact ⟨h1, by have : (fX7_tellsOrder μ).1.toNatClampNeg < 21 := h2; omega⟩
theorem in_pred {a x : Int32} {n : Nat} (hx : x = nI n) (hn : n ≤ 20) (h : fX7_in a 0 (x - 1) = true) : a = nI a.toNatClampNeg ∧ a.toNatClampNeg < n := within_pred hx hn h
def fX7_closedAt (μ : BS) (a : Int32) : Int32 × BS :=
  if (fX7_in a 0 (((fX7_tellsOrder (sI μ 0 0)).1) - 1)) = true then (((fX7_tellsOrder (sI μ 0 0)).2).2 7 a.toNatClampNeg, (fX7_tellsOrder (sI μ 0 0)).2) else ((fX7_fails ((fX7_tellsOrder (sI μ 0 0)).2) 1).1, (fX7_fails ((fX7_tellsOrder (sI μ 0 0)).2) 1).2)
theorem caX7_closedAt : gCalV yX7_closedAt cX7_closedAt 3 (some .int) 1 := ⟨⟨q8_106, q1_6, by decide +kernel⟩, q8_104, q8_105⟩
set_option maxHeartbeats 4000000 in
set_option maxRecDepth 100000 in
theorem kX7_closedAt (l : Launch) (E : gE) (am : Nat → Nat) (μ : BS) (hv : vM μ) (ha : gA (μ.2 0))  (a : Int32) : MC l E yX7_closedAt cX7_closedAt 3 (some .int) 4 91 [.ref (am 0), .int a] [wM E am μ] (some (.int (fX7_closedAt μ a).1)) [wM E am ((fX7_closedAt μ a).2)] := by
  have hv1 : cM μ ≤ 20 := hv.1.1
  have hc0 : μ.2 0 0 = nI (cM μ) := hv.1.2.1
  refine mc_of (by decide +kernel) (Nat.le_of_ble_eq_true rfl) (lv := [(0, .ref (am 0)), (1, .int a)]) rfl (fun X C hE => ?_)
  refine g_aload_n C dX7_closedAt_0 rfl 0 rfl ?_
  refine g_iconst C (v := 0) dX7_closedAt_1 (by decide) ?_
  refine g_putf C (T := TX7) (N := 15) (ty := .int) (w1 := wM E am (sI μ 0 0)) (cs1 := [wM E am (sI μ 0 0)]) 0 0 rfl rfl rfl inX7 tyX7_ok nmX7 0 (by decide) q6_70 rfl (by decide +kernel) rfl rfl (Nat.le_of_ble_eq_true rfl) rfl rfl dX7_closedAt_2 ?_
  refine g_aload_n C dX7_closedAt_5 rfl 0 rfl ?_
  refine g_callV C (cs1 := [wM E am ((fX7_tellsOrder (sI μ 0 0)).2)]) (st1 := [.int ((fX7_tellsOrder (sI μ 0 0)).1)]) [] [0] (kX7_tellsOrder l E am (sI μ 0 0) (vM_i0 hv) (ha _ rfl).2) caX7_tellsOrder q8_107 rfl ⟨Nat.le_of_ble_eq_true rfl, Nat.le_of_ble_eq_true rfl⟩ ⟨Nat.zero_le _, Nat.zero_le _⟩ 0 0 rfl rfl rfl rfl (by decide) rfl rfl rfl rfl (Nat.le_of_ble_eq_true rfl) dX7_closedAt_6 rfl ?_
  refine g_istore_n C (lv1 := [(2, .int ((fX7_tellsOrder (sI μ 0 0)).1)), (0, .ref (am 0)), (1, .int a)]) dX7_closedAt_9 rfl (by decide) rfl ?_
  refine g_iload_n C dX7_closedAt_10 rfl 2 rfl ?_
  refine g_iconst C (v := 0) dX7_closedAt_11 (by decide) ?_
  refine g_iload_n C dX7_closedAt_12 rfl 0 rfl ?_
  refine g_iconst C (v := 1) dX7_closedAt_13 (by decide) ?_
  refine g_isub C dX7_closedAt_14 ?_
  refine g_callS C (cs1 := [wM E am ((fX7_tellsOrder (sI μ 0 0)).2)]) (st1 := [.int (b2i (fX7_in a 0 (((fX7_tellsOrder (sI μ 0 0)).1) - 1)))]) [.int a, .int 0, .int (((fX7_tellsOrder (sI μ 0 0)).1) - 1)] [] (kX7_in l E a 0 (((fX7_tellsOrder (sI μ 0 0)).1) - 1)) caX7_in q6_124 rfl ⟨Nat.le_of_ble_eq_true rfl, Nat.le_of_ble_eq_true rfl⟩ ⟨Nat.zero_le _, Nat.zero_le _⟩ (by decide) rfl rfl rfl rfl (Nat.le_of_ble_eq_true rfl) dX7_closedAt_15 rfl ?_
  refine g_ifB_eq C 30 dX7_closedAt_18 (by decide) (fun c_1 => ?_) (fun c_1 => ?_)
  · skip
    refine g_aload_n C dX7_closedAt_30 rfl 1 rfl ?_
    refine g_iconst C (v := 1) dX7_closedAt_31 (by decide) ?_
    refine g_callV C (cs1 := [wM E am ((fX7_fails ((fX7_tellsOrder (sI μ 0 0)).2) 1).2)]) (st1 := [.int ((fX7_fails ((fX7_tellsOrder (sI μ 0 0)).2) 1).1)]) [.int 1] [0] (kX7_fails l E am ((fX7_tellsOrder (sI μ 0 0)).2) 1) caX7_fails q6_127 rfl ⟨Nat.le_of_ble_eq_true rfl, Nat.le_of_ble_eq_true rfl⟩ ⟨Nat.zero_le _, Nat.zero_le _⟩ 0 0 rfl rfl rfl rfl (by decide) rfl rfl rfl rfl (Nat.le_of_ble_eq_true rfl) dX7_closedAt_32 rfl ?_
    have e_2 : fX7_closedAt μ a = ((fX7_fails ((fX7_tellsOrder (sI μ 0 0)).2) 1).1, (fX7_fails ((fX7_tellsOrder (sI μ 0 0)).2) 1).2) := by rw [fX7_closedAt]; rw [if_neg (ne_true_of_eq_false c_1)]
    exact g_iret C hE (by rw [e_2]) (by rw [e_2]) dX7_closedAt_35
  · skip
    have hpl := in_pred (fillM_i (μ := sI μ 0 0)).1 (fillM_i (μ := sI μ 0 0)).2 c_1
    have hpl2 := (fillM_i (μ := sI μ 0 0)).2
    refine g_aload_n C dX7_closedAt_21 rfl 1 rfl ?_
    refine g_getf C (T := TX7) (N := 15) 0 0 rfl rfl rfl inX7 13 (by decide) q6_83 rfl dX7_closedAt_22 ?_
    refine g_iload_n C dX7_closedAt_25 rfl 2 rfl ?_
    refine g_ialdn C 0 8 a.toNatClampNeg rfl rfl hpl.1 (by have := hpl.2; omega) (by decide) dX7_closedAt_26 ?_
    refine g_goto C 35 dX7_closedAt_27 (by decide) ?_
    have e_3 : fX7_closedAt μ a = (((fX7_tellsOrder (sI μ 0 0)).2).2 7 a.toNatClampNeg, (fX7_tellsOrder (sI μ 0 0)).2) := by rw [fX7_closedAt]; rw [if_pos c_1]
    exact g_iret C hE (by rw [e_3]) (by rw [e_3]) dX7_closedAt_35
def fX7_day (μ : BS) : Int32 × BS :=
  (μ.2 0 1, sI μ 0 0)
theorem caX7_day : gCalV yX7_day cX7_day 1 (some .int) 0 := ⟨⟨q8_114, q1_6, by decide +kernel⟩, q8_112, q8_113⟩
set_option maxHeartbeats 4000000 in
set_option maxRecDepth 100000 in
theorem kX7_day (l : Launch) (E : gE) (am : Nat → Nat) (μ : BS)   : MC l E yX7_day cX7_day 1 (some .int) 0 0 [.ref (am 0)] [wM E am μ] (some (.int (fX7_day μ).1)) [wM E am ((fX7_day μ).2)] := by
  refine mc_of (by decide +kernel) (Nat.le_of_ble_eq_true rfl) (lv := [(0, .ref (am 0))]) rfl (fun X C hE => ?_)
  refine g_aload_n C dX7_day_0 rfl 0 rfl ?_
  refine g_iconst C (v := 0) dX7_day_1 (by decide) ?_
  refine g_putf C (T := TX7) (N := 15) (ty := .int) (w1 := wM E am (sI μ 0 0)) (cs1 := [wM E am (sI μ 0 0)]) 0 0 rfl rfl rfl inX7 tyX7_ok nmX7 0 (by decide) q6_70 rfl (by decide +kernel) rfl rfl (Nat.le_of_ble_eq_true rfl) rfl rfl dX7_day_2 ?_
  refine g_aload_n C dX7_day_5 rfl 0 rfl ?_
  refine g_getf C (T := TX7) (N := 15) 0 0 rfl rfl rfl inX7 1 (by decide) q6_71 rfl dX7_day_6 ?_
  refine g_iconst C (v := 1) dX7_day_9 (by decide) ?_
  refine g_ialdn C (f := μ.2 0) 0 1 1 rfl rfl rfl (by decide) (by decide) dX7_day_10 ?_
  have e_1 : fX7_day μ = (μ.2 0 1, sI μ 0 0) := by rw [fX7_day]
  exact g_iret C hE (by rw [e_1]) (by rw [e_1]) dX7_day_11
def fX7_closings (μ : BS) : Int32 × BS :=
  (μ.2 0 2, sI μ 0 0)
theorem caX7_closings : gCalV yX7_closings cX7_closings 1 (some .int) 0 := ⟨⟨q8_142, q1_6, by decide +kernel⟩, q8_140, q8_141⟩
set_option maxHeartbeats 4000000 in
set_option maxRecDepth 100000 in
theorem kX7_closings (l : Launch) (E : gE) (am : Nat → Nat) (μ : BS)   : MC l E yX7_closings cX7_closings 1 (some .int) 0 0 [.ref (am 0)] [wM E am μ] (some (.int (fX7_closings μ).1)) [wM E am ((fX7_closings μ).2)] := by
  refine mc_of (by decide +kernel) (Nat.le_of_ble_eq_true rfl) (lv := [(0, .ref (am 0))]) rfl (fun X C hE => ?_)
  refine g_aload_n C dX7_closings_0 rfl 0 rfl ?_
  refine g_iconst C (v := 0) dX7_closings_1 (by decide) ?_
  refine g_putf C (T := TX7) (N := 15) (ty := .int) (w1 := wM E am (sI μ 0 0)) (cs1 := [wM E am (sI μ 0 0)]) 0 0 rfl rfl rfl inX7 tyX7_ok nmX7 0 (by decide) q6_70 rfl (by decide +kernel) rfl rfl (Nat.le_of_ble_eq_true rfl) rfl rfl dX7_closings_2 ?_
  refine g_aload_n C dX7_closings_5 rfl 0 rfl ?_
  refine g_getf C (T := TX7) (N := 15) 0 0 rfl rfl rfl inX7 1 (by decide) q6_71 rfl dX7_closings_6 ?_
  refine g_iconst C (v := 2) dX7_closings_9 (by decide) ?_
  refine g_ialdn C (f := μ.2 0) 0 1 2 rfl rfl rfl (by decide) (by decide) dX7_closings_10 ?_
  have e_1 : fX7_closings μ = (μ.2 0 2, sI μ 0 0) := by rw [fX7_closings]
  exact g_iret C hE (by rw [e_1]) (by rw [e_1]) dX7_closings_11
def fX7_reopenings (μ : BS) : Int32 × BS :=
  (μ.2 0 3, sI μ 0 0)
theorem caX7_reopenings : gCalV yX7_reopenings cX7_reopenings 1 (some .int) 0 := ⟨⟨q8_146, q1_6, by decide +kernel⟩, q8_144, q8_145⟩
set_option maxHeartbeats 4000000 in
set_option maxRecDepth 100000 in
theorem kX7_reopenings (l : Launch) (E : gE) (am : Nat → Nat) (μ : BS)   : MC l E yX7_reopenings cX7_reopenings 1 (some .int) 0 0 [.ref (am 0)] [wM E am μ] (some (.int (fX7_reopenings μ).1)) [wM E am ((fX7_reopenings μ).2)] := by
  refine mc_of (by decide +kernel) (Nat.le_of_ble_eq_true rfl) (lv := [(0, .ref (am 0))]) rfl (fun X C hE => ?_)
  refine g_aload_n C dX7_reopenings_0 rfl 0 rfl ?_
  refine g_iconst C (v := 0) dX7_reopenings_1 (by decide) ?_
  refine g_putf C (T := TX7) (N := 15) (ty := .int) (w1 := wM E am (sI μ 0 0)) (cs1 := [wM E am (sI μ 0 0)]) 0 0 rfl rfl rfl inX7 tyX7_ok nmX7 0 (by decide) q6_70 rfl (by decide +kernel) rfl rfl (Nat.le_of_ble_eq_true rfl) rfl rfl dX7_reopenings_2 ?_
  refine g_aload_n C dX7_reopenings_5 rfl 0 rfl ?_
  refine g_getf C (T := TX7) (N := 15) 0 0 rfl rfl rfl inX7 1 (by decide) q6_71 rfl dX7_reopenings_6 ?_
  refine g_iconst C (v := 3) dX7_reopenings_9 (by decide) ?_
  refine g_ialdn C (f := μ.2 0) 0 1 3 rfl rfl rfl (by decide) (by decide) dX7_reopenings_10 ?_
  have e_1 : fX7_reopenings μ = (μ.2 0 3, sI μ 0 0) := by rw [fX7_reopenings]
  exact g_iret C hE (by rw [e_1]) (by rw [e_1]) dX7_reopenings_11
def fX7_withState (μ : BS) (a : Int32) : Int32 × BS :=
  if (fX7_in a 0 4) = true then ((fX7_sumWith (sI μ 0 0) a false), sI μ 0 0) else ((fX7_fails (sI μ 0 0) 1).1, (fX7_fails (sI μ 0 0) 1).2)
theorem caX7_withState : gCalV yX7_withState cX7_withState 2 (some .int) 1 := ⟨⟨q8_118, q1_6, by decide +kernel⟩, q8_116, q8_117⟩
set_option maxHeartbeats 4000000 in
set_option maxRecDepth 100000 in
theorem kX7_withState (l : Launch) (E : gE) (am : Nat → Nat) (μ : BS) (hv : vM μ)  (a : Int32) : MC l E yX7_withState cX7_withState 2 (some .int) 2 46 [.ref (am 0), .int a] [wM E am μ] (some (.int (fX7_withState μ a).1)) [wM E am ((fX7_withState μ a).2)] := by
  have hv1 : cM μ ≤ 20 := hv.1.1
  have hc0 : μ.2 0 0 = nI (cM μ) := hv.1.2.1
  refine mc_of (by decide +kernel) (Nat.le_of_ble_eq_true rfl) (lv := [(0, .ref (am 0)), (1, .int a)]) rfl (fun X C hE => ?_)
  refine g_aload_n C dX7_withState_0 rfl 0 rfl ?_
  refine g_iconst C (v := 0) dX7_withState_1 (by decide) ?_
  refine g_putf C (T := TX7) (N := 15) (ty := .int) (w1 := wM E am (sI μ 0 0)) (cs1 := [wM E am (sI μ 0 0)]) 0 0 rfl rfl rfl inX7 tyX7_ok nmX7 0 (by decide) q6_70 rfl (by decide +kernel) rfl rfl (Nat.le_of_ble_eq_true rfl) rfl rfl dX7_withState_2 ?_
  refine g_iload_n C dX7_withState_5 rfl 1 rfl ?_
  refine g_iconst C (v := 0) dX7_withState_6 (by decide) ?_
  refine g_iconst C (v := 4) dX7_withState_7 (by decide) ?_
  refine g_callS C (cs1 := [wM E am (sI μ 0 0)]) (st1 := [.int (b2i (fX7_in a 0 4))]) [.int a, .int 0, .int 4] [] (kX7_in l E a 0 4) caX7_in q6_124 rfl ⟨Nat.le_of_ble_eq_true rfl, Nat.le_of_ble_eq_true rfl⟩ ⟨Nat.zero_le _, Nat.zero_le _⟩ (by decide) rfl rfl rfl rfl (Nat.le_of_ble_eq_true rfl) dX7_withState_8 rfl ?_
  refine g_ifB_eq C 23 dX7_withState_11 (by decide) (fun c_1 => ?_) (fun c_1 => ?_)
  · skip
    refine g_aload_n C dX7_withState_23 rfl 0 rfl ?_
    refine g_iconst C (v := 1) dX7_withState_24 (by decide) ?_
    refine g_callV C (cs1 := [wM E am ((fX7_fails (sI μ 0 0) 1).2)]) (st1 := [.int ((fX7_fails (sI μ 0 0) 1).1)]) [.int 1] [0] (kX7_fails l E am (sI μ 0 0) 1) caX7_fails q6_127 rfl ⟨Nat.le_of_ble_eq_true rfl, Nat.le_of_ble_eq_true rfl⟩ ⟨Nat.zero_le _, Nat.zero_le _⟩ 0 0 rfl rfl rfl rfl (by decide) rfl rfl rfl rfl (Nat.le_of_ble_eq_true rfl) dX7_withState_25 rfl ?_
    have e_2 : fX7_withState μ a = ((fX7_fails (sI μ 0 0) 1).1, (fX7_fails (sI μ 0 0) 1).2) := by rw [fX7_withState]; rw [if_neg (ne_true_of_eq_false c_1)]
    exact g_iret C hE (by rw [e_2]) (by rw [e_2]) dX7_withState_28
  · skip
    refine g_aload_n C dX7_withState_14 rfl 0 rfl ?_
    refine g_iload_n C dX7_withState_15 rfl 1 rfl ?_
    refine g_iconst C (v := 0) dX7_withState_16 (by decide) ?_
    refine g_callV C (cs1 := [wM E am (sI μ 0 0)]) (st1 := [.int (fX7_sumWith (sI μ 0 0) a false)]) [.int a, .int 0] [0] (kX7_sumWith l E am (sI μ 0 0) (vM_i0 hv) a false) caX7_sumWith q8_119 rfl ⟨Nat.le_of_ble_eq_true rfl, Nat.le_of_ble_eq_true rfl⟩ ⟨Nat.zero_le _, Nat.zero_le _⟩ 0 0 rfl rfl rfl rfl (by decide) rfl rfl rfl rfl (Nat.le_of_ble_eq_true rfl) dX7_withState_17 rfl ?_
    refine g_goto C 28 dX7_withState_20 (by decide) ?_
    have e_3 : fX7_withState μ a = ((fX7_sumWith (sI μ 0 0) a false), sI μ 0 0) := by rw [fX7_withState]; rw [if_pos c_1]
    exact g_iret C hE (by rw [e_3]) (by rw [e_3]) dX7_withState_28
def fX7_pointsWith (μ : BS) (a : Int32) : Int32 × BS :=
  if (fX7_in a 0 4) = true then ((fX7_sumWith (sI μ 0 0) a true), sI μ 0 0) else ((fX7_fails (sI μ 0 0) 1).1, (fX7_fails (sI μ 0 0) 1).2)
theorem caX7_pointsWith : gCalV yX7_pointsWith cX7_pointsWith 2 (some .int) 1 := ⟨⟨q8_126, q1_6, by decide +kernel⟩, q8_124, q8_125⟩
set_option maxHeartbeats 4000000 in
set_option maxRecDepth 100000 in
theorem kX7_pointsWith (l : Launch) (E : gE) (am : Nat → Nat) (μ : BS) (hv : vM μ)  (a : Int32) : MC l E yX7_pointsWith cX7_pointsWith 2 (some .int) 2 46 [.ref (am 0), .int a] [wM E am μ] (some (.int (fX7_pointsWith μ a).1)) [wM E am ((fX7_pointsWith μ a).2)] := by
  have hv1 : cM μ ≤ 20 := hv.1.1
  have hc0 : μ.2 0 0 = nI (cM μ) := hv.1.2.1
  refine mc_of (by decide +kernel) (Nat.le_of_ble_eq_true rfl) (lv := [(0, .ref (am 0)), (1, .int a)]) rfl (fun X C hE => ?_)
  refine g_aload_n C dX7_pointsWith_0 rfl 0 rfl ?_
  refine g_iconst C (v := 0) dX7_pointsWith_1 (by decide) ?_
  refine g_putf C (T := TX7) (N := 15) (ty := .int) (w1 := wM E am (sI μ 0 0)) (cs1 := [wM E am (sI μ 0 0)]) 0 0 rfl rfl rfl inX7 tyX7_ok nmX7 0 (by decide) q6_70 rfl (by decide +kernel) rfl rfl (Nat.le_of_ble_eq_true rfl) rfl rfl dX7_pointsWith_2 ?_
  refine g_iload_n C dX7_pointsWith_5 rfl 1 rfl ?_
  refine g_iconst C (v := 0) dX7_pointsWith_6 (by decide) ?_
  refine g_iconst C (v := 4) dX7_pointsWith_7 (by decide) ?_
  refine g_callS C (cs1 := [wM E am (sI μ 0 0)]) (st1 := [.int (b2i (fX7_in a 0 4))]) [.int a, .int 0, .int 4] [] (kX7_in l E a 0 4) caX7_in q6_124 rfl ⟨Nat.le_of_ble_eq_true rfl, Nat.le_of_ble_eq_true rfl⟩ ⟨Nat.zero_le _, Nat.zero_le _⟩ (by decide) rfl rfl rfl rfl (Nat.le_of_ble_eq_true rfl) dX7_pointsWith_8 rfl ?_
  refine g_ifB_eq C 23 dX7_pointsWith_11 (by decide) (fun c_1 => ?_) (fun c_1 => ?_)
  · skip
    refine g_aload_n C dX7_pointsWith_23 rfl 0 rfl ?_
    refine g_iconst C (v := 1) dX7_pointsWith_24 (by decide) ?_
    refine g_callV C (cs1 := [wM E am ((fX7_fails (sI μ 0 0) 1).2)]) (st1 := [.int ((fX7_fails (sI μ 0 0) 1).1)]) [.int 1] [0] (kX7_fails l E am (sI μ 0 0) 1) caX7_fails q6_127 rfl ⟨Nat.le_of_ble_eq_true rfl, Nat.le_of_ble_eq_true rfl⟩ ⟨Nat.zero_le _, Nat.zero_le _⟩ 0 0 rfl rfl rfl rfl (by decide) rfl rfl rfl rfl (Nat.le_of_ble_eq_true rfl) dX7_pointsWith_25 rfl ?_
    have e_2 : fX7_pointsWith μ a = ((fX7_fails (sI μ 0 0) 1).1, (fX7_fails (sI μ 0 0) 1).2) := by rw [fX7_pointsWith]; rw [if_neg (ne_true_of_eq_false c_1)]
    exact g_iret C hE (by rw [e_2]) (by rw [e_2]) dX7_pointsWith_28
  · skip
    refine g_aload_n C dX7_pointsWith_14 rfl 0 rfl ?_
    refine g_iload_n C dX7_pointsWith_15 rfl 1 rfl ?_
    refine g_iconst C (v := 1) dX7_pointsWith_16 (by decide) ?_
    refine g_callV C (cs1 := [wM E am (sI μ 0 0)]) (st1 := [.int (fX7_sumWith (sI μ 0 0) a true)]) [.int a, .int 1] [0] (kX7_sumWith l E am (sI μ 0 0) (vM_i0 hv) a true) caX7_sumWith q8_119 rfl ⟨Nat.le_of_ble_eq_true rfl, Nat.le_of_ble_eq_true rfl⟩ ⟨Nat.zero_le _, Nat.zero_le _⟩ 0 0 rfl rfl rfl rfl (by decide) rfl rfl rfl rfl (Nat.le_of_ble_eq_true rfl) dX7_pointsWith_17 rfl ?_
    refine g_goto C 28 dX7_pointsWith_20 (by decide) ?_
    have e_3 : fX7_pointsWith μ a = ((fX7_sumWith (sI μ 0 0) a true), sI μ 0 0) := by rw [fX7_pointsWith]; rw [if_pos c_1]
    exact g_iret C hE (by rw [e_3]) (by rw [e_3]) dX7_pointsWith_28
def fX7_allPoints_L9 (μ : BS) (i9 : Nat) (t9 : Int32) : Int32 :=
  t9 + (fX7_sumWith (sI μ 0 0) (nI i9) true)
def fX7_allPoints (μ : BS) : Int32 × BS :=
  ((lpF (fX7_allPoints_L9 μ) 0 5), sI μ 0 0)
theorem caX7_allPoints : gCalV yX7_allPoints cX7_allPoints 3 (some .int) 0 := ⟨⟨q8_130, q1_6, by decide +kernel⟩, q8_128, q8_129⟩
set_option maxHeartbeats 4000000 in
set_option maxRecDepth 100000 in
theorem kX7_allPoints (l : Launch) (E : gE) (am : Nat → Nat) (μ : BS) (hv : vM μ)   : MC l E yX7_allPoints cX7_allPoints 3 (some .int) 2 46 [.ref (am 0)] [wM E am μ] (some (.int (fX7_allPoints μ).1)) [wM E am ((fX7_allPoints μ).2)] := by
  have hv1 : cM μ ≤ 20 := hv.1.1
  have hc0 : μ.2 0 0 = nI (cM μ) := hv.1.2.1
  refine mc_of (by decide +kernel) (Nat.le_of_ble_eq_true rfl) (lv := [(0, .ref (am 0))]) rfl (fun X C hE => ?_)
  refine g_aload_n C dX7_allPoints_0 rfl 0 rfl ?_
  refine g_iconst C (v := 0) dX7_allPoints_1 (by decide) ?_
  refine g_putf C (T := TX7) (N := 15) (ty := .int) (w1 := wM E am (sI μ 0 0)) (cs1 := [wM E am (sI μ 0 0)]) 0 0 rfl rfl rfl inX7 tyX7_ok nmX7 0 (by decide) q6_70 rfl (by decide +kernel) rfl rfl (Nat.le_of_ble_eq_true rfl) rfl rfl dX7_allPoints_2 ?_
  refine g_iconst C (v := 0) dX7_allPoints_5 (by decide) ?_
  refine g_istore_n C (lv1 := [(1, .int 0), (0, .ref (am 0))]) dX7_allPoints_6 rfl (by decide) rfl ?_
  refine g_iconst C (v := 0) dX7_allPoints_7 (by decide) ?_
  refine g_istore_n C (lv1 := [(2, .int 0), (1, .int 0), (0, .ref (am 0))]) dX7_allPoints_8 rfl (by decide) rfl ?_
  have hL_3 : ∀ d_1 i9 : Nat, i9 + d_1 = 5 → G X 0 0 [wM E am (sI μ 0 0)] [(0, .ref (am 0)), (1, .int (lpF (fX7_allPoints_L9 μ) 0 i9)), (2, .int (nI i9))] 9 [] := by
    intro d_1
    induction d_1 with
    | zero =>
      intro i9 hi_2
      obtain rfl : i9 = 5 := by omega
      refine g_iload_n C dX7_allPoints_9 rfl 2 rfl ?_
      refine g_iconst C (v := 5) dX7_allPoints_10 (by decide) ?_
      refine g_icmp_ge C 29 dX7_allPoints_11 (by decide) (fun c_5 => ?_) (fun c_5 => ?_)
      · skip
        refine g_iload_n C dX7_allPoints_29 rfl 1 rfl ?_
        have e_6 : fX7_allPoints μ = ((lpF (fX7_allPoints_L9 μ) 0 5), sI μ 0 0) := by rw [fX7_allPoints]
        exact g_iret C hE (by rw [e_6]) (by rw [e_6]) dX7_allPoints_30
      · exact absurd (lc_le rfl nI_l5 (by omega) (by omega)) c_5
    | succ d_1 ih_4 =>
      intro i9 hi_2
      refine g_iload_n C dX7_allPoints_9 rfl 2 rfl ?_
      refine g_iconst C (v := 5) dX7_allPoints_10 (by decide) ?_
      refine g_icmp_ge C 29 dX7_allPoints_11 (by decide) (fun c_7 => ?_) (fun c_7 => ?_)
      · exact absurd c_7 (lc_nle rfl nI_l5 (by omega) (by omega))
      · skip
        refine g_iload_n C dX7_allPoints_14 rfl 1 rfl ?_
        refine g_aload_n C dX7_allPoints_15 rfl 0 rfl ?_
        refine g_iload_n C dX7_allPoints_16 rfl 2 rfl ?_
        refine g_iconst C (v := 1) dX7_allPoints_17 (by decide) ?_
        refine g_callV C (cs1 := [wM E am (sI μ 0 0)]) (st1 := [.int (fX7_sumWith (sI μ 0 0) (nI i9) true), .int (lpF (fX7_allPoints_L9 μ) 0 i9)]) [.int (nI i9), .int 1] [0] (kX7_sumWith l E am (sI μ 0 0) (vM_i0 hv) (nI i9) true) caX7_sumWith q8_119 rfl ⟨Nat.le_of_ble_eq_true rfl, Nat.le_of_ble_eq_true rfl⟩ ⟨Nat.zero_le _, Nat.zero_le _⟩ 0 0 rfl rfl rfl rfl (by decide) rfl rfl rfl rfl (Nat.le_of_ble_eq_true rfl) dX7_allPoints_18 rfl ?_
        refine g_iadd C dX7_allPoints_21 ?_
        refine g_istore_n C (lv1 := [(1, .int ((lpF (fX7_allPoints_L9 μ) 0 i9) + (fX7_sumWith (sI μ 0 0) (nI i9) true))), (0, .ref (am 0)), (2, .int (nI i9))]) dX7_allPoints_22 rfl (by decide) rfl ?_
        refine g_iinc C (v := nI (i9 + 1)) (lv1 := [(2, .int (nI (i9 + 1))), (1, .int ((lpF (fX7_allPoints_L9 μ) 0 i9) + (fX7_sumWith (sI μ 0 0) (nI i9) true))), (0, .ref (am 0))]) dX7_allPoints_23 2 rfl (nI_1 i9) (by decide) rfl ?_
        refine g_goto C 9 dX7_allPoints_26 (by decide) ?_
        have e_8 : (lpF (fX7_allPoints_L9 μ) 0 (i9 + 1)) = (lpF (fX7_allPoints_L9 μ) 0 i9) + (fX7_sumWith (sI μ 0 0) (nI i9) true) := by
          rw [lpF_1, fX7_allPoints_L9]
        have h_9 := ih_4 (i9 + 1) (by omega)
        rw [e_8] at h_9
        exact g_sub [2, 1, 0] rfl h_9
  refine g_sub [2, 1, 0] (lv1 := [(0, .ref (am 0)), (1, .int 0), (2, .int 0)]) rfl ?_
  exact hL_3 5 0 (by omega)
def fX7_blockedTickets (μ : BS) : Int32 × BS :=
  ((fX7_blockedMany (sI μ 0 0)), sI μ 0 0)
theorem caX7_blockedTickets : gCalV yX7_blockedTickets cX7_blockedTickets 1 (some .int) 0 := ⟨⟨q8_134, q1_6, by decide +kernel⟩, q8_132, q8_133⟩
set_option maxHeartbeats 4000000 in
set_option maxRecDepth 100000 in
theorem kX7_blockedTickets (l : Launch) (E : gE) (am : Nat → Nat) (μ : BS) (hv : vM μ)   : MC l E yX7_blockedTickets cX7_blockedTickets 1 (some .int) 6 128 [.ref (am 0)] [wM E am μ] (some (.int (fX7_blockedTickets μ).1)) [wM E am ((fX7_blockedTickets μ).2)] := by
  have hv1 : cM μ ≤ 20 := hv.1.1
  have hc0 : μ.2 0 0 = nI (cM μ) := hv.1.2.1
  refine mc_of (by decide +kernel) (Nat.le_of_ble_eq_true rfl) (lv := [(0, .ref (am 0))]) rfl (fun X C hE => ?_)
  refine g_aload_n C dX7_blockedTickets_0 rfl 0 rfl ?_
  refine g_iconst C (v := 0) dX7_blockedTickets_1 (by decide) ?_
  refine g_putf C (T := TX7) (N := 15) (ty := .int) (w1 := wM E am (sI μ 0 0)) (cs1 := [wM E am (sI μ 0 0)]) 0 0 rfl rfl rfl inX7 tyX7_ok nmX7 0 (by decide) q6_70 rfl (by decide +kernel) rfl rfl (Nat.le_of_ble_eq_true rfl) rfl rfl dX7_blockedTickets_2 ?_
  refine g_aload_n C dX7_blockedTickets_5 rfl 0 rfl ?_
  refine g_callV C (cs1 := [wM E am (sI μ 0 0)]) (st1 := [.int (fX7_blockedMany (sI μ 0 0))]) [] [0] (kX7_blockedMany l E am (sI μ 0 0) (vM_i0 hv)) caX7_blockedMany q8_135 rfl ⟨Nat.le_of_ble_eq_true rfl, Nat.le_of_ble_eq_true rfl⟩ ⟨Nat.zero_le _, Nat.zero_le _⟩ 0 0 rfl rfl rfl rfl (by decide) rfl rfl rfl rfl (Nat.le_of_ble_eq_true rfl) dX7_blockedTickets_6 rfl ?_
  have e_1 : fX7_blockedTickets μ = ((fX7_blockedMany (sI μ 0 0)), sI μ 0 0) := by rw [fX7_blockedTickets]
  exact g_iret C hE (by rw [e_1]) (by rw [e_1]) dX7_blockedTickets_9
def fX7_pointsOfWeek (μ : BS) : Int32 × BS :=
  ((fX7_week (sI μ 0 0)), sI μ 0 0)
theorem caX7_pointsOfWeek : gCalV yX7_pointsOfWeek cX7_pointsOfWeek 1 (some .int) 0 := ⟨⟨q8_150, q1_6, by decide +kernel⟩, q8_148, q8_149⟩
set_option maxHeartbeats 4000000 in
set_option maxRecDepth 100000 in
theorem kX7_pointsOfWeek (l : Launch) (E : gE) (am : Nat → Nat) (μ : BS) (hv : vM μ)   : MC l E yX7_pointsOfWeek cX7_pointsOfWeek 1 (some .int) 2 44 [.ref (am 0)] [wM E am μ] (some (.int (fX7_pointsOfWeek μ).1)) [wM E am ((fX7_pointsOfWeek μ).2)] := by
  have hv1 : cM μ ≤ 20 := hv.1.1
  have hc0 : μ.2 0 0 = nI (cM μ) := hv.1.2.1
  refine mc_of (by decide +kernel) (Nat.le_of_ble_eq_true rfl) (lv := [(0, .ref (am 0))]) rfl (fun X C hE => ?_)
  refine g_aload_n C dX7_pointsOfWeek_0 rfl 0 rfl ?_
  refine g_iconst C (v := 0) dX7_pointsOfWeek_1 (by decide) ?_
  refine g_putf C (T := TX7) (N := 15) (ty := .int) (w1 := wM E am (sI μ 0 0)) (cs1 := [wM E am (sI μ 0 0)]) 0 0 rfl rfl rfl inX7 tyX7_ok nmX7 0 (by decide) q6_70 rfl (by decide +kernel) rfl rfl (Nat.le_of_ble_eq_true rfl) rfl rfl dX7_pointsOfWeek_2 ?_
  refine g_aload_n C dX7_pointsOfWeek_5 rfl 0 rfl ?_
  refine g_callV C (cs1 := [wM E am (sI μ 0 0)]) (st1 := [.int (fX7_week (sI μ 0 0))]) [] [0] (kX7_week l E am (sI μ 0 0) (vM_i0 hv)) caX7_week q8_151 rfl ⟨Nat.le_of_ble_eq_true rfl, Nat.le_of_ble_eq_true rfl⟩ ⟨Nat.zero_le _, Nat.zero_le _⟩ 0 0 rfl rfl rfl rfl (by decide) rfl rfl rfl rfl (Nat.le_of_ble_eq_true rfl) dX7_pointsOfWeek_6 rfl ?_
  have e_1 : fX7_pointsOfWeek μ = ((fX7_week (sI μ 0 0)), sI μ 0 0) := by rw [fX7_pointsOfWeek]
  exact g_iret C hE (by rw [e_1]) (by rw [e_1]) dX7_pointsOfWeek_9
def fX7_mean_L6 (μ : BS) (i6 : Nat) (t6 : Int32 × Int32) : Int32 × Int32 :=
  if (fX7_of μ i6 2) = 3 then ((t6.1) + (fX7_of μ i6 7), (t6.2) + 1) else ((t6.1) + 0, (t6.2) + 0)
def fX7_mean (μ : BS) : UInt64 :=
  if ((lpF (fX7_mean_L6 μ) (0, 0) (cM μ)).2) = 0 then 0 else FP.ddiv (FP.i2d ((lpF (fX7_mean_L6 μ) (0, 0) (cM μ)).1)) (FP.i2d ((lpF (fX7_mean_L6 μ) (0, 0) (cM μ)).2))
theorem caX7_mean : gCalV yX7_mean cX7_mean 4 (some .double) 0 := ⟨⟨q8_162, q1_6, by decide +kernel⟩, q8_161, qs_71⟩
set_option maxHeartbeats 4000000 in
set_option maxRecDepth 100000 in
theorem kX7_mean (l : Launch) (E : gE) (am : Nat → Nat) (μ : BS) (hv : vM μ) (hnn : gNN)   : MC l E yX7_mean cX7_mean 4 (some .double) 1 22 [.ref (am 0)] [wM E am μ] (some (.double (fX7_mean μ))) [wM E am μ] := by
  have hv1 : cM μ ≤ 20 := hv.1.1
  have hc0 : μ.2 0 0 = nI (cM μ) := hv.1.2.1
  refine mc_of (by decide +kernel) (Nat.le_of_ble_eq_true rfl) (lv := [(0, .ref (am 0))]) rfl (fun X C hE => ?_)
  refine g_iconst C (v := 0) dX7_mean_0 (by decide) ?_
  refine g_istore_n C (lv1 := [(1, .int 0), (0, .ref (am 0))]) dX7_mean_1 rfl (by decide) rfl ?_
  refine g_iconst C (v := 0) dX7_mean_2 (by decide) ?_
  refine g_istore_n C (lv1 := [(2, .int 0), (1, .int 0), (0, .ref (am 0))]) dX7_mean_3 rfl (by decide) rfl ?_
  refine g_iconst C (v := 0) dX7_mean_4 (by decide) ?_
  refine g_istore_n C (lv1 := [(3, .int 0), (2, .int 0), (1, .int 0), (0, .ref (am 0))]) dX7_mean_5 rfl (by decide) rfl ?_
  have hL_3 : ∀ d_1 i6 : Nat, i6 + d_1 = (cM μ) → G X 0 0 [wM E am μ] [(0, .ref (am 0)), (1, .int ((lpF (fX7_mean_L6 μ) (0, 0) i6).1)), (2, .int ((lpF (fX7_mean_L6 μ) (0, 0) i6).2)), (3, .int (nI i6))] 6 [] := by
    intro d_1
    induction d_1 with
    | zero =>
      intro i6 hi_2
      obtain rfl : i6 = (cM μ) := by omega
      refine g_iload_n C dX7_mean_6 rfl 3 rfl ?_
      refine g_aload_n C dX7_mean_7 rfl 0 rfl ?_
      refine g_getf C (T := TX7) (N := 15) 0 0 rfl rfl rfl inX7 1 (by decide) q6_71 rfl dX7_mean_8 ?_
      refine g_iconst C (v := 0) dX7_mean_11 (by decide) ?_
      refine g_ialdn C 0 1 0 rfl rfl rfl (by decide) (by decide) dX7_mean_12 ?_
      refine g_icmp_ge C 64 dX7_mean_13 (by decide) (fun c_5 => ?_) (fun c_5 => ?_)
      · skip
        refine g_iload_n C dX7_mean_64 rfl 2 rfl ?_
        refine g_if_ne C 72 dX7_mean_65 (by decide) (fun c_6 => ?_) (fun c_6 => ?_)
        · skip
          have hne := c_6
          refine g_iload_n C dX7_mean_72 rfl 1 rfl ?_
          refine g_i2d C dX7_mean_73 ?_
          refine g_iload_n C dX7_mean_74 rfl 2 rfl ?_
          refine g_i2d C dX7_mean_75 ?_
          refine g_ddiv C dX7_mean_76 (hnn _ _ hne) ?_
          have e_7 : fX7_mean μ = FP.ddiv (FP.i2d ((lpF (fX7_mean_L6 μ) (0, 0) (cM μ)).1)) (FP.i2d ((lpF (fX7_mean_L6 μ) (0, 0) (cM μ)).2)) := by rw [fX7_mean]; rw [if_neg c_6]
          exact g_dret C hE (by rw [e_7]) rfl dX7_mean_77
        · skip
          have hne := c_6
          refine g_dconst0 C dX7_mean_68 ?_
          refine g_goto C 77 dX7_mean_69 (by decide) ?_
          have e_8 : fX7_mean μ = 0 := by rw [fX7_mean]; rw [if_pos c_6]
          exact g_dret C hE (by rw [e_8]) rfl dX7_mean_77
      · exact absurd (lc_le rfl hc0 (by omega) (by omega)) c_5
    | succ d_1 ih_4 =>
      intro i6 hi_2
      refine g_iload_n C dX7_mean_6 rfl 3 rfl ?_
      refine g_aload_n C dX7_mean_7 rfl 0 rfl ?_
      refine g_getf C (T := TX7) (N := 15) 0 0 rfl rfl rfl inX7 1 (by decide) q6_71 rfl dX7_mean_8 ?_
      refine g_iconst C (v := 0) dX7_mean_11 (by decide) ?_
      refine g_ialdn C 0 1 0 rfl rfl rfl (by decide) (by decide) dX7_mean_12 ?_
      refine g_icmp_ge C 64 dX7_mean_13 (by decide) (fun c_9 => ?_) (fun c_9 => ?_)
      · exact absurd c_9 (lc_nle rfl hc0 (by omega) (by omega))
      · skip
        refine g_iload_n C dX7_mean_16 rfl 1 rfl ?_
        refine g_aload_n C dX7_mean_17 rfl 0 rfl ?_
        refine g_iload_n C dX7_mean_18 rfl 3 rfl ?_
        refine g_iconst C (v := 2) dX7_mean_19 (by decide) ?_
        refine g_callV C (cs1 := [wM E am μ]) (st1 := [.int (fX7_of μ i6 2), .int ((lpF (fX7_mean_L6 μ) (0, 0) i6).1)]) [.int (nI i6), .int 2] [0] (kX7_of l E am μ i6 (by omega) 2 (by decide)) caX7_of q6_151 rfl ⟨Nat.le_of_ble_eq_true rfl, Nat.le_of_ble_eq_true rfl⟩ ⟨Nat.zero_le _, Nat.zero_le _⟩ 0 0 rfl rfl rfl rfl (by decide) rfl rfl rfl rfl (Nat.le_of_ble_eq_true rfl) dX7_mean_20 rfl ?_
        refine g_iconst C (v := 3) dX7_mean_23 (by decide) ?_
        refine g_icmp_ne C 37 dX7_mean_24 (by decide) (fun c_10 => ?_) (fun c_10 => ?_)
        · skip
          refine g_iconst C (v := 0) dX7_mean_37 (by decide) ?_
          refine g_iadd C dX7_mean_38 ?_
          refine g_istore_n C (lv1 := [(1, .int (((lpF (fX7_mean_L6 μ) (0, 0) i6).1) + 0)), (0, .ref (am 0)), (2, .int ((lpF (fX7_mean_L6 μ) (0, 0) i6).2)), (3, .int (nI i6))]) dX7_mean_39 rfl (by decide) rfl ?_
          refine g_iload_n C dX7_mean_40 rfl 2 rfl ?_
          refine g_aload_n C dX7_mean_41 rfl 1 rfl ?_
          refine g_iload_n C dX7_mean_42 rfl 3 rfl ?_
          refine g_iconst C (v := 2) dX7_mean_43 (by decide) ?_
          refine g_callV C (cs1 := [wM E am μ]) (st1 := [.int (fX7_of μ i6 2), .int ((lpF (fX7_mean_L6 μ) (0, 0) i6).2)]) [.int (nI i6), .int 2] [0] (kX7_of l E am μ i6 (by omega) 2 (by decide)) caX7_of q6_151 rfl ⟨Nat.le_of_ble_eq_true rfl, Nat.le_of_ble_eq_true rfl⟩ ⟨Nat.zero_le _, Nat.zero_le _⟩ 0 0 rfl rfl rfl rfl (by decide) rfl rfl rfl rfl (Nat.le_of_ble_eq_true rfl) dX7_mean_44 rfl ?_
          refine g_iconst C (v := 3) dX7_mean_47 (by decide) ?_
          refine g_icmp_ne C 55 dX7_mean_48 (by decide) (fun c_11 => ?_) (fun c_11 => ?_)
          · skip
            refine g_iconst C (v := 0) dX7_mean_55 (by decide) ?_
            refine g_iadd C dX7_mean_56 ?_
            refine g_istore_n C (lv1 := [(2, .int (((lpF (fX7_mean_L6 μ) (0, 0) i6).2) + 0)), (1, .int (((lpF (fX7_mean_L6 μ) (0, 0) i6).1) + 0)), (0, .ref (am 0)), (3, .int (nI i6))]) dX7_mean_57 rfl (by decide) rfl ?_
            refine g_iinc C (v := nI (i6 + 1)) (lv1 := [(3, .int (nI (i6 + 1))), (2, .int (((lpF (fX7_mean_L6 μ) (0, 0) i6).2) + 0)), (1, .int (((lpF (fX7_mean_L6 μ) (0, 0) i6).1) + 0)), (0, .ref (am 0))]) dX7_mean_58 3 rfl (nI_1 i6) (by decide) rfl ?_
            refine g_goto C 6 dX7_mean_61 (by decide) ?_
            have e_12 : (lpF (fX7_mean_L6 μ) (0, 0) (i6 + 1)) = (((lpF (fX7_mean_L6 μ) (0, 0) i6).1) + 0, ((lpF (fX7_mean_L6 μ) (0, 0) i6).2) + 0) := by
              rw [lpF_1, fX7_mean_L6]; rw [if_neg c_10]
            have h_13 := ih_4 (i6 + 1) (by omega)
            rw [e_12] at h_13
            exact g_sub [3, 2, 1, 0] rfl h_13
          · exact absurd c_11 c_10
        · skip
          refine g_aload_n C dX7_mean_27 rfl 0 rfl ?_
          refine g_iload_n C dX7_mean_28 rfl 3 rfl ?_
          refine g_bipush C (v := 7) dX7_mean_29 (by decide) ?_
          refine g_callV C (cs1 := [wM E am μ]) (st1 := [.int (fX7_of μ i6 7), .int ((lpF (fX7_mean_L6 μ) (0, 0) i6).1)]) [.int (nI i6), .int 7] [0] (kX7_of l E am μ i6 (by omega) 7 (by decide)) caX7_of q6_151 rfl ⟨Nat.le_of_ble_eq_true rfl, Nat.le_of_ble_eq_true rfl⟩ ⟨Nat.zero_le _, Nat.zero_le _⟩ 0 0 rfl rfl rfl rfl (by decide) rfl rfl rfl rfl (Nat.le_of_ble_eq_true rfl) dX7_mean_31 rfl ?_
          refine g_goto C 38 dX7_mean_34 (by decide) ?_
          refine g_iadd C dX7_mean_38 ?_
          refine g_istore_n C (lv1 := [(1, .int (((lpF (fX7_mean_L6 μ) (0, 0) i6).1) + (fX7_of μ i6 7))), (0, .ref (am 0)), (2, .int ((lpF (fX7_mean_L6 μ) (0, 0) i6).2)), (3, .int (nI i6))]) dX7_mean_39 rfl (by decide) rfl ?_
          refine g_iload_n C dX7_mean_40 rfl 2 rfl ?_
          refine g_aload_n C dX7_mean_41 rfl 1 rfl ?_
          refine g_iload_n C dX7_mean_42 rfl 3 rfl ?_
          refine g_iconst C (v := 2) dX7_mean_43 (by decide) ?_
          refine g_callV C (cs1 := [wM E am μ]) (st1 := [.int (fX7_of μ i6 2), .int ((lpF (fX7_mean_L6 μ) (0, 0) i6).2)]) [.int (nI i6), .int 2] [0] (kX7_of l E am μ i6 (by omega) 2 (by decide)) caX7_of q6_151 rfl ⟨Nat.le_of_ble_eq_true rfl, Nat.le_of_ble_eq_true rfl⟩ ⟨Nat.zero_le _, Nat.zero_le _⟩ 0 0 rfl rfl rfl rfl (by decide) rfl rfl rfl rfl (Nat.le_of_ble_eq_true rfl) dX7_mean_44 rfl ?_
          refine g_iconst C (v := 3) dX7_mean_47 (by decide) ?_
          refine g_icmp_ne C 55 dX7_mean_48 (by decide) (fun c_14 => ?_) (fun c_14 => ?_)
          · exact absurd c_10 c_14
          · skip
            refine g_iconst C (v := 1) dX7_mean_51 (by decide) ?_
            refine g_goto C 56 dX7_mean_52 (by decide) ?_
            refine g_iadd C dX7_mean_56 ?_
            refine g_istore_n C (lv1 := [(2, .int (((lpF (fX7_mean_L6 μ) (0, 0) i6).2) + 1)), (1, .int (((lpF (fX7_mean_L6 μ) (0, 0) i6).1) + (fX7_of μ i6 7))), (0, .ref (am 0)), (3, .int (nI i6))]) dX7_mean_57 rfl (by decide) rfl ?_
            refine g_iinc C (v := nI (i6 + 1)) (lv1 := [(3, .int (nI (i6 + 1))), (2, .int (((lpF (fX7_mean_L6 μ) (0, 0) i6).2) + 1)), (1, .int (((lpF (fX7_mean_L6 μ) (0, 0) i6).1) + (fX7_of μ i6 7))), (0, .ref (am 0))]) dX7_mean_58 3 rfl (nI_1 i6) (by decide) rfl ?_
            refine g_goto C 6 dX7_mean_61 (by decide) ?_
            have e_15 : (lpF (fX7_mean_L6 μ) (0, 0) (i6 + 1)) = (((lpF (fX7_mean_L6 μ) (0, 0) i6).1) + (fX7_of μ i6 7), ((lpF (fX7_mean_L6 μ) (0, 0) i6).2) + 1) := by
              rw [lpF_1, fX7_mean_L6]; rw [if_pos c_10]
            have h_16 := ih_4 (i6 + 1) (by omega)
            rw [e_15] at h_16
            exact g_sub [3, 2, 1, 0] rfl h_16
  refine g_sub [3, 2, 1, 0] (lv1 := [(0, .ref (am 0)), (1, .int 0), (2, .int 0), (3, .int 0)]) rfl ?_
  exact hL_3 (cM μ) 0 (by omega)
def fX7_meanDays (μ : BS) : UInt64 × BS :=
  ((fX7_mean (sI μ 0 0)), sI μ 0 0)
theorem caX7_meanDays : gCalV yX7_meanDays cX7_meanDays 1 (some .double) 0 := ⟨⟨q8_158, q1_6, by decide +kernel⟩, q8_156, q8_157⟩
set_option maxHeartbeats 4000000 in
set_option maxRecDepth 100000 in
theorem kX7_meanDays (l : Launch) (E : gE) (am : Nat → Nat) (μ : BS) (hv : vM μ) (hnn : gNN)   : MC l E yX7_meanDays cX7_meanDays 1 (some .double) 2 45 [.ref (am 0)] [wM E am μ] (some (.double (fX7_meanDays μ).1)) [wM E am ((fX7_meanDays μ).2)] := by
  have hv1 : cM μ ≤ 20 := hv.1.1
  have hc0 : μ.2 0 0 = nI (cM μ) := hv.1.2.1
  refine mc_of (by decide +kernel) (Nat.le_of_ble_eq_true rfl) (lv := [(0, .ref (am 0))]) rfl (fun X C hE => ?_)
  refine g_aload_n C dX7_meanDays_0 rfl 0 rfl ?_
  refine g_iconst C (v := 0) dX7_meanDays_1 (by decide) ?_
  refine g_putf C (T := TX7) (N := 15) (ty := .int) (w1 := wM E am (sI μ 0 0)) (cs1 := [wM E am (sI μ 0 0)]) 0 0 rfl rfl rfl inX7 tyX7_ok nmX7 0 (by decide) q6_70 rfl (by decide +kernel) rfl rfl (Nat.le_of_ble_eq_true rfl) rfl rfl dX7_meanDays_2 ?_
  refine g_aload_n C dX7_meanDays_5 rfl 0 rfl ?_
  refine g_callV C (cs1 := [wM E am (sI μ 0 0)]) (st1 := [.double (fX7_mean (sI μ 0 0))]) [] [0] (kX7_mean l E am (sI μ 0 0) (vM_i0 hv) hnn) caX7_mean q8_159 rfl ⟨Nat.le_of_ble_eq_true rfl, Nat.le_of_ble_eq_true rfl⟩ ⟨Nat.zero_le _, Nat.zero_le _⟩ 0 0 rfl rfl rfl rfl (by decide) rfl rfl rfl rfl (Nat.le_of_ble_eq_true rfl) dX7_meanDays_6 rfl ?_
  have e_1 : fX7_meanDays μ = ((fX7_mean (sI μ 0 0)), sI μ 0 0) := by rw [fX7_meanDays]
  exact g_dret C hE (by rw [e_1]) (by rw [e_1]) dX7_meanDays_9
