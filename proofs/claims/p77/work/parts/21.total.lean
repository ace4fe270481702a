theorem caX6_requireIndex : gCalS yX6_requireIndex cX6_requireIndex 1 none 1 := ⟨⟨q2_71, q1_1, by decide +kernel⟩, q2_70⟩
theorem kT_requireIndex (l : Launch) (E : gE) (b : Bool) (h : b = true) : MC l E yX6_requireIndex cX6_requireIndex 1 none 0 0 [.int (b2i b)] [] none [] := by
  refine mc_of (by decide +kernel) (Nat.le_of_ble_eq_true rfl) (lv := [(0, .int (b2i b))]) rfl (fun X C hE => ?_)
  refine g_iload_n C dX6_requireIndex_0 rfl 0 rfl ?_
  refine g_ifB_ne C 15 dX6_requireIndex_1 (by decide) (fun c1 => ?_) (fun c1 => ?_)
  · exact g_vret C hE rfl rfl dX6_requireIndex_15
  · exact absurd (h.symm.trans c1) (by decide)
theorem caX6_requireArgument : gCalS yX6_requireArgument cX6_requireArgument 1 none 1 := ⟨⟨q3_36, q1_1, by decide +kernel⟩, q3_35⟩
theorem kT_requireArgument (l : Launch) (E : gE) (b : Bool) (h : b = true) : MC l E yX6_requireArgument cX6_requireArgument 1 none 0 0 [.int (b2i b)] [] none [] := by
  refine mc_of (by decide +kernel) (Nat.le_of_ble_eq_true rfl) (lv := [(0, .int (b2i b))]) rfl (fun X C hE => ?_)
  refine g_iload_n C dX6_requireArgument_0 rfl 0 rfl ?_
  refine g_ifB_ne C 15 dX6_requireArgument_1 (by decide) (fun c1 => ?_) (fun c1 => ?_)
  · exact g_vret C hE rfl rfl dX6_requireArgument_15
  · exact absurd (h.symm.trans c1) (by decide)
theorem caX6_requireState : gCalS yX6_requireState cX6_requireState 1 none 1 := ⟨⟨q1_205, q1_1, by decide +kernel⟩, q1_204⟩
theorem kT_requireState (l : Launch) (E : gE) (b : Bool) (h : b = true) : MC l E yX6_requireState cX6_requireState 1 none 0 0 [.int (b2i b)] [] none [] := by
  refine mc_of (by decide +kernel) (Nat.le_of_ble_eq_true rfl) (lv := [(0, .int (b2i b))]) rfl (fun X C hE => ?_)
  refine g_iload_n C dX6_requireState_0 rfl 0 rfl ?_
  refine g_ifB_ne C 15 dX6_requireState_1 (by decide) (fun c1 => ?_) (fun c1 => ?_)
  · exact g_vret C hE rfl rfl dX6_requireState_15
  · exact absurd (h.symm.trans c1) (by decide)
def fT_stateOf (β : BS) (t : Nat) : Int32 :=
  β.2 0 t
theorem caX6_stateOf : gCalV yX6_stateOf cX6_stateOf 2 (some .int) 1 := ⟨⟨q2_196, q1_1, by decide +kernel⟩, q2_194, q2_195⟩
set_option maxHeartbeats 4000000 in
set_option maxRecDepth 100000 in
theorem kT_stateOf (l : Launch) (E : gE) (ax : Nat) (bo : Nat → Nat) (β : BS) (tr : Nat → Nat) (τ : BS) (ac : Nat → Nat) (γ : BS) (ah : Nat → Nat) (bd : Nat → Nat → Nat) (η : BS) (σ : Nat → BS) (at_ : Nat → Nat) (θ : BS) (hv : vB β)  (t : Nat) (ht : t < 20) (hq1 : (fX0_hasTicket β (nI t)) = true) : MC l E yX6_stateOf cX6_stateOf 2 (some .int) 1 21 [.ref ax, .int (nI t)] [wX ax (bo 0) (tr 0) (ac 0) (ah 0) (at_ 0), wB E bo β, wB E tr τ, wC E ac γ, wH E ah bd η, wT E at_ θ, wB E (bd 2) (σ 2), wB E (bd 3) (σ 3), wB E (bd 4) (σ 4), wB E (bd 5) (σ 5), wB E (bd 6) (σ 6), wB E (bd 7) (σ 7), wB E (bd 8) (σ 8), wB E (bd 9) (σ 9)] (some (.int (fT_stateOf β t))) [wX ax (bo 0) (tr 0) (ac 0) (ah 0) (at_ 0), wB E bo β, wB E tr τ, wC E ac γ, wH E ah bd η, wT E at_ θ, wB E (bd 2) (σ 2), wB E (bd 3) (σ 3), wB E (bd 4) (σ 4), wB E (bd 5) (σ 5), wB E (bd 6) (σ 6), wB E (bd 7) (σ 7), wB E (bd 8) (σ 8), wB E (bd 9) (σ 9)] := by
  have hv1 : cnt β ≤ 20 := hv.1
  refine mc_of (by decide +kernel) (Nat.le_of_ble_eq_true rfl) (lv := [(0, .ref ax), (1, .int (nI t))]) rfl (fun X C hE => ?_)
  refine g_aload_n C dX6_stateOf_0 rfl 0 rfl ?_
  refine g_getf C (T := TX6) (N := 5) 0 0 rfl rfl rfl inX6 0 (by decide) q1_179 rfl dX6_stateOf_1 ?_
  refine g_iload_n C dX6_stateOf_4 rfl 1 rfl ?_
  refine g_callV C (cs1 := [wX ax (bo 0) (tr 0) (ac 0) (ah 0) (at_ 0), wB E bo β, wB E tr τ, wC E ac γ, wH E ah bd η, wT E at_ θ, wB E (bd 2) (σ 2), wB E (bd 3) (σ 3), wB E (bd 4) (σ 4), wB E (bd 5) (σ 5), wB E (bd 6) (σ 6), wB E (bd 7) (σ 7), wB E (bd 8) (σ 8), wB E (bd 9) (σ 9)]) (st1 := [.int (b2i (fX0_hasTicket β (nI t)))]) [.int (nI t)] [1] (kX0_hasTicket l E bo β (nI t)) caX0_hasTicket q2_197 rfl ⟨Nat.le_of_ble_eq_true rfl, Nat.le_of_ble_eq_true rfl⟩ ⟨Nat.zero_le _, Nat.zero_le _⟩ 1 0 rfl rfl rfl rfl (by decide) rfl rfl rfl rfl (Nat.le_of_ble_eq_true rfl) dX6_stateOf_5 rfl ?_
  refine g_callS C (cs1 := [wX ax (bo 0) (tr 0) (ac 0) (ah 0) (at_ 0), wB E bo β, wB E tr τ, wC E ac γ, wH E ah bd η, wT E at_ θ, wB E (bd 2) (σ 2), wB E (bd 3) (σ 3), wB E (bd 4) (σ 4), wB E (bd 5) (σ 5), wB E (bd 6) (σ 6), wB E (bd 7) (σ 7), wB E (bd 8) (σ 8), wB E (bd 9) (σ 9)]) (st1 := []) [.int (b2i (fX0_hasTicket β (nI t)))] [] (kT_requireIndex l E (fX0_hasTicket β (nI t)) hq1) caX6_requireIndex q2_69 rfl ⟨Nat.le_of_ble_eq_true rfl, Nat.le_of_ble_eq_true rfl⟩ ⟨Nat.zero_le _, Nat.zero_le _⟩ (by decide) rfl rfl rfl rfl (Nat.le_of_ble_eq_true rfl) dX6_stateOf_8 rfl ?_
  refine g_aload_n C dX6_stateOf_11 rfl 0 rfl ?_
  refine g_getf C (T := TX6) (N := 5) 0 0 rfl rfl rfl inX6 0 (by decide) q1_179 rfl dX6_stateOf_12 ?_
  refine g_getf C (T := TX0) (N := 17) 1 0 rfl rfl rfl inX0 4 (by decide) q1_42 rfl dX6_stateOf_15 ?_
  refine g_iload_n C dX6_stateOf_18 rfl 1 rfl ?_
  refine g_ialdn C 1 1 t rfl rfl rfl (by omega) (by decide) dX6_stateOf_19 ?_
  have e_1 : fT_stateOf β t = β.2 0 t := by rw [fT_stateOf]
  exact g_iret C hE (by rw [e_1]) rfl dX6_stateOf_20
def fT_pointsOf (β : BS) (t : Nat) : Int32 :=
  β.2 1 t
theorem caX6_pointsOf : gCalV yX6_pointsOf cX6_pointsOf 2 (some .int) 1 := ⟨⟨q2_204, q1_1, by decide +kernel⟩, q2_202, q2_203⟩
set_option maxHeartbeats 4000000 in
set_option maxRecDepth 100000 in
theorem kT_pointsOf (l : Launch) (E : gE) (ax : Nat) (bo : Nat → Nat) (β : BS) (tr : Nat → Nat) (τ : BS) (ac : Nat → Nat) (γ : BS) (ah : Nat → Nat) (bd : Nat → Nat → Nat) (η : BS) (σ : Nat → BS) (at_ : Nat → Nat) (θ : BS) (hv : vB β)  (t : Nat) (ht : t < 20) (hq1 : (fX0_hasTicket β (nI t)) = true) : MC l E yX6_pointsOf cX6_pointsOf 2 (some .int) 1 21 [.ref ax, .int (nI t)] [wX ax (bo 0) (tr 0) (ac 0) (ah 0) (at_ 0), wB E bo β, wB E tr τ, wC E ac γ, wH E ah bd η, wT E at_ θ, wB E (bd 2) (σ 2), wB E (bd 3) (σ 3), wB E (bd 4) (σ 4), wB E (bd 5) (σ 5), wB E (bd 6) (σ 6), wB E (bd 7) (σ 7), wB E (bd 8) (σ 8), wB E (bd 9) (σ 9)] (some (.int (fT_pointsOf β t))) [wX ax (bo 0) (tr 0) (ac 0) (ah 0) (at_ 0), wB E bo β, wB E tr τ, wC E ac γ, wH E ah bd η, wT E at_ θ, wB E (bd 2) (σ 2), wB E (bd 3) (σ 3), wB E (bd 4) (σ 4), wB E (bd 5) (σ 5), wB E (bd 6) (σ 6), wB E (bd 7) (σ 7), wB E (bd 8) (σ 8), wB E (bd 9) (σ 9)] := by
  have hv1 : cnt β ≤ 20 := hv.1
  refine mc_of (by decide +kernel) (Nat.le_of_ble_eq_true rfl) (lv := [(0, .ref ax), (1, .int (nI t))]) rfl (fun X C hE => ?_)
  refine g_aload_n C dX6_pointsOf_0 rfl 0 rfl ?_
  refine g_getf C (T := TX6) (N := 5) 0 0 rfl rfl rfl inX6 0 (by decide) q1_179 rfl dX6_pointsOf_1 ?_
  refine g_iload_n C dX6_pointsOf_4 rfl 1 rfl ?_
  refine g_callV C (cs1 := [wX ax (bo 0) (tr 0) (ac 0) (ah 0) (at_ 0), wB E bo β, wB E tr τ, wC E ac γ, wH E ah bd η, wT E at_ θ, wB E (bd 2) (σ 2), wB E (bd 3) (σ 3), wB E (bd 4) (σ 4), wB E (bd 5) (σ 5), wB E (bd 6) (σ 6), wB E (bd 7) (σ 7), wB E (bd 8) (σ 8), wB E (bd 9) (σ 9)]) (st1 := [.int (b2i (fX0_hasTicket β (nI t)))]) [.int (nI t)] [1] (kX0_hasTicket l E bo β (nI t)) caX0_hasTicket q2_197 rfl ⟨Nat.le_of_ble_eq_true rfl, Nat.le_of_ble_eq_true rfl⟩ ⟨Nat.zero_le _, Nat.zero_le _⟩ 1 0 rfl rfl rfl rfl (by decide) rfl rfl rfl rfl (Nat.le_of_ble_eq_true rfl) dX6_pointsOf_5 rfl ?_
  refine g_callS C (cs1 := [wX ax (bo 0) (tr 0) (ac 0) (ah 0) (at_ 0), wB E bo β, wB E tr τ, wC E ac γ, wH E ah bd η, wT E at_ θ, wB E (bd 2) (σ 2), wB E (bd 3) (σ 3), wB E (bd 4) (σ 4), wB E (bd 5) (σ 5), wB E (bd 6) (σ 6), wB E (bd 7) (σ 7), wB E (bd 8) (σ 8), wB E (bd 9) (σ 9)]) (st1 := []) [.int (b2i (fX0_hasTicket β (nI t)))] [] (kT_requireIndex l E (fX0_hasTicket β (nI t)) hq1) caX6_requireIndex q2_69 rfl ⟨Nat.le_of_ble_eq_true rfl, Nat.le_of_ble_eq_true rfl⟩ ⟨Nat.zero_le _, Nat.zero_le _⟩ (by decide) rfl rfl rfl rfl (Nat.le_of_ble_eq_true rfl) dX6_pointsOf_8 rfl ?_
  refine g_aload_n C dX6_pointsOf_11 rfl 0 rfl ?_
  refine g_getf C (T := TX6) (N := 5) 0 0 rfl rfl rfl inX6 0 (by decide) q1_179 rfl dX6_pointsOf_12 ?_
  refine g_getf C (T := TX0) (N := 17) 1 0 rfl rfl rfl inX0 5 (by decide) q1_47 rfl dX6_pointsOf_15 ?_
  refine g_iload_n C dX6_pointsOf_18 rfl 1 rfl ?_
  refine g_ialdn C 1 2 t rfl rfl rfl (by omega) (by decide) dX6_pointsOf_19 ?_
  have e_1 : fT_pointsOf β t = β.2 1 t := by rw [fT_pointsOf]
  exact g_iret C hE (by rw [e_1]) rfl dX6_pointsOf_20
def fT_priorityOf (β : BS) (t : Nat) : Int32 :=
  β.2 2 t
theorem caX6_priorityOf : gCalV yX6_priorityOf cX6_priorityOf 2 (some .int) 1 := ⟨⟨q2_208, q1_1, by decide +kernel⟩, q2_206, q2_207⟩
set_option maxHeartbeats 4000000 in
set_option maxRecDepth 100000 in
theorem kT_priorityOf (l : Launch) (E : gE) (ax : Nat) (bo : Nat → Nat) (β : BS) (tr : Nat → Nat) (τ : BS) (ac : Nat → Nat) (γ : BS) (ah : Nat → Nat) (bd : Nat → Nat → Nat) (η : BS) (σ : Nat → BS) (at_ : Nat → Nat) (θ : BS) (hv : vB β)  (t : Nat) (ht : t < 20) (hq1 : (fX0_hasTicket β (nI t)) = true) : MC l E yX6_priorityOf cX6_priorityOf 2 (some .int) 1 21 [.ref ax, .int (nI t)] [wX ax (bo 0) (tr 0) (ac 0) (ah 0) (at_ 0), wB E bo β, wB E tr τ, wC E ac γ, wH E ah bd η, wT E at_ θ, wB E (bd 2) (σ 2), wB E (bd 3) (σ 3), wB E (bd 4) (σ 4), wB E (bd 5) (σ 5), wB E (bd 6) (σ 6), wB E (bd 7) (σ 7), wB E (bd 8) (σ 8), wB E (bd 9) (σ 9)] (some (.int (fT_priorityOf β t))) [wX ax (bo 0) (tr 0) (ac 0) (ah 0) (at_ 0), wB E bo β, wB E tr τ, wC E ac γ, wH E ah bd η, wT E at_ θ, wB E (bd 2) (σ 2), wB E (bd 3) (σ 3), wB E (bd 4) (σ 4), wB E (bd 5) (σ 5), wB E (bd 6) (σ 6), wB E (bd 7) (σ 7), wB E (bd 8) (σ 8), wB E (bd 9) (σ 9)] := by
  have hv1 : cnt β ≤ 20 := hv.1
  refine mc_of (by decide +kernel) (Nat.le_of_ble_eq_true rfl) (lv := [(0, .ref ax), (1, .int (nI t))]) rfl (fun X C hE => ?_)
  refine g_aload_n C dX6_priorityOf_0 rfl 0 rfl ?_
  refine g_getf C (T := TX6) (N := 5) 0 0 rfl rfl rfl inX6 0 (by decide) q1_179 rfl dX6_priorityOf_1 ?_
  refine g_iload_n C dX6_priorityOf_4 rfl 1 rfl ?_
  refine g_callV C (cs1 := [wX ax (bo 0) (tr 0) (ac 0) (ah 0) (at_ 0), wB E bo β, wB E tr τ, wC E ac γ, wH E ah bd η, wT E at_ θ, wB E (bd 2) (σ 2), wB E (bd 3) (σ 3), wB E (bd 4) (σ 4), wB E (bd 5) (σ 5), wB E (bd 6) (σ 6), wB E (bd 7) (σ 7), wB E (bd 8) (σ 8), wB E (bd 9) (σ 9)]) (st1 := [.int (b2i (fX0_hasTicket β (nI t)))]) [.int (nI t)] [1] (kX0_hasTicket l E bo β (nI t)) caX0_hasTicket q2_197 rfl ⟨Nat.le_of_ble_eq_true rfl, Nat.le_of_ble_eq_true rfl⟩ ⟨Nat.zero_le _, Nat.zero_le _⟩ 1 0 rfl rfl rfl rfl (by decide) rfl rfl rfl rfl (Nat.le_of_ble_eq_true rfl) dX6_priorityOf_5 rfl ?_
  refine g_callS C (cs1 := [wX ax (bo 0) (tr 0) (ac 0) (ah 0) (at_ 0), wB E bo β, wB E tr τ, wC E ac γ, wH E ah bd η, wT E at_ θ, wB E (bd 2) (σ 2), wB E (bd 3) (σ 3), wB E (bd 4) (σ 4), wB E (bd 5) (σ 5), wB E (bd 6) (σ 6), wB E (bd 7) (σ 7), wB E (bd 8) (σ 8), wB E (bd 9) (σ 9)]) (st1 := []) [.int (b2i (fX0_hasTicket β (nI t)))] [] (kT_requireIndex l E (fX0_hasTicket β (nI t)) hq1) caX6_requireIndex q2_69 rfl ⟨Nat.le_of_ble_eq_true rfl, Nat.le_of_ble_eq_true rfl⟩ ⟨Nat.zero_le _, Nat.zero_le _⟩ (by decide) rfl rfl rfl rfl (Nat.le_of_ble_eq_true rfl) dX6_priorityOf_8 rfl ?_
  refine g_aload_n C dX6_priorityOf_11 rfl 0 rfl ?_
  refine g_getf C (T := TX6) (N := 5) 0 0 rfl rfl rfl inX6 0 (by decide) q1_179 rfl dX6_priorityOf_12 ?_
  refine g_getf C (T := TX0) (N := 17) 1 0 rfl rfl rfl inX0 6 (by decide) q1_49 rfl dX6_priorityOf_15 ?_
  refine g_iload_n C dX6_priorityOf_18 rfl 1 rfl ?_
  refine g_ialdn C 1 3 t rfl rfl rfl (by omega) (by decide) dX6_priorityOf_19 ?_
  have e_1 : fT_priorityOf β t = β.2 2 t := by rw [fT_priorityOf]
  exact g_iret C hE (by rw [e_1]) rfl dX6_priorityOf_20
def fT_hasOwner (β : BS) (t : Nat) : Bool :=
  if (β.2 3 t) = (-1) then false else true
theorem caX6_hasOwner : gCalV yX6_hasOwner cX6_hasOwner 2 (some .boolean) 1 := ⟨⟨q2_212, q1_1, by decide +kernel⟩, q2_210, q2_211⟩
set_option maxHeartbeats 4000000 in
set_option maxRecDepth 100000 in
theorem kT_hasOwner (l : Launch) (E : gE) (ax : Nat) (bo : Nat → Nat) (β : BS) (tr : Nat → Nat) (τ : BS) (ac : Nat → Nat) (γ : BS) (ah : Nat → Nat) (bd : Nat → Nat → Nat) (η : BS) (σ : Nat → BS) (at_ : Nat → Nat) (θ : BS) (hv : vB β)  (t : Nat) (ht : t < 20) (hq1 : (fX0_hasTicket β (nI t)) = true) : MC l E yX6_hasOwner cX6_hasOwner 2 (some .boolean) 1 21 [.ref ax, .int (nI t)] [wX ax (bo 0) (tr 0) (ac 0) (ah 0) (at_ 0), wB E bo β, wB E tr τ, wC E ac γ, wH E ah bd η, wT E at_ θ, wB E (bd 2) (σ 2), wB E (bd 3) (σ 3), wB E (bd 4) (σ 4), wB E (bd 5) (σ 5), wB E (bd 6) (σ 6), wB E (bd 7) (σ 7), wB E (bd 8) (σ 8), wB E (bd 9) (σ 9)] (some (.int (b2i (fT_hasOwner β t)))) [wX ax (bo 0) (tr 0) (ac 0) (ah 0) (at_ 0), wB E bo β, wB E tr τ, wC E ac γ, wH E ah bd η, wT E at_ θ, wB E (bd 2) (σ 2), wB E (bd 3) (σ 3), wB E (bd 4) (σ 4), wB E (bd 5) (σ 5), wB E (bd 6) (σ 6), wB E (bd 7) (σ 7), wB E (bd 8) (σ 8), wB E (bd 9) (σ 9)] := by
  have hv1 : cnt β ≤ 20 := hv.1
  refine mc_of (by decide +kernel) (Nat.le_of_ble_eq_true rfl) (lv := [(0, .ref ax), (1, .int (nI t))]) rfl (fun X C hE => ?_)
  refine g_aload_n C dX6_hasOwner_0 rfl 0 rfl ?_
  refine g_getf C (T := TX6) (N := 5) 0 0 rfl rfl rfl inX6 0 (by decide) q1_179 rfl dX6_hasOwner_1 ?_
  refine g_iload_n C dX6_hasOwner_4 rfl 1 rfl ?_
  refine g_callV C (cs1 := [wX ax (bo 0) (tr 0) (ac 0) (ah 0) (at_ 0), wB E bo β, wB E tr τ, wC E ac γ, wH E ah bd η, wT E at_ θ, wB E (bd 2) (σ 2), wB E (bd 3) (σ 3), wB E (bd 4) (σ 4), wB E (bd 5) (σ 5), wB E (bd 6) (σ 6), wB E (bd 7) (σ 7), wB E (bd 8) (σ 8), wB E (bd 9) (σ 9)]) (st1 := [.int (b2i (fX0_hasTicket β (nI t)))]) [.int (nI t)] [1] (kX0_hasTicket l E bo β (nI t)) caX0_hasTicket q2_197 rfl ⟨Nat.le_of_ble_eq_true rfl, Nat.le_of_ble_eq_true rfl⟩ ⟨Nat.zero_le _, Nat.zero_le _⟩ 1 0 rfl rfl rfl rfl (by decide) rfl rfl rfl rfl (Nat.le_of_ble_eq_true rfl) dX6_hasOwner_5 rfl ?_
  refine g_callS C (cs1 := [wX ax (bo 0) (tr 0) (ac 0) (ah 0) (at_ 0), wB E bo β, wB E tr τ, wC E ac γ, wH E ah bd η, wT E at_ θ, wB E (bd 2) (σ 2), wB E (bd 3) (σ 3), wB E (bd 4) (σ 4), wB E (bd 5) (σ 5), wB E (bd 6) (σ 6), wB E (bd 7) (σ 7), wB E (bd 8) (σ 8), wB E (bd 9) (σ 9)]) (st1 := []) [.int (b2i (fX0_hasTicket β (nI t)))] [] (kT_requireIndex l E (fX0_hasTicket β (nI t)) hq1) caX6_requireIndex q2_69 rfl ⟨Nat.le_of_ble_eq_true rfl, Nat.le_of_ble_eq_true rfl⟩ ⟨Nat.zero_le _, Nat.zero_le _⟩ (by decide) rfl rfl rfl rfl (Nat.le_of_ble_eq_true rfl) dX6_hasOwner_8 rfl ?_
  refine g_aload_n C dX6_hasOwner_11 rfl 0 rfl ?_
  refine g_getf C (T := TX6) (N := 5) 0 0 rfl rfl rfl inX6 0 (by decide) q1_179 rfl dX6_hasOwner_12 ?_
  refine g_getf C (T := TX0) (N := 17) 1 0 rfl rfl rfl inX0 7 (by decide) q1_51 rfl dX6_hasOwner_15 ?_
  refine g_iload_n C dX6_hasOwner_18 rfl 1 rfl ?_
  refine g_ialdn C 1 4 t rfl rfl rfl (by omega) (by decide) dX6_hasOwner_19 ?_
  refine g_iconst C (v := -1) dX6_hasOwner_20 (by decide) ?_
  refine g_icmp_eq C 28 dX6_hasOwner_21 (by decide) (fun c_1 => ?_) (fun c_1 => ?_)
  · skip
    refine g_iconst C (v := 0) dX6_hasOwner_28 (by decide) ?_
    have e_2 : fT_hasOwner β t = false := by rw [fT_hasOwner]; rw [if_pos c_1]
    exact g_zret (b := false) C hE (by rw [e_2]) rfl rfl dX6_hasOwner_29
  · skip
    refine g_iconst C (v := 1) dX6_hasOwner_24 (by decide) ?_
    refine g_goto C 29 dX6_hasOwner_25 (by decide) ?_
    have e_3 : fT_hasOwner β t = true := by rw [fT_hasOwner]; rw [if_neg c_1]
    exact g_zret (b := true) C hE (by rw [e_3]) rfl rfl dX6_hasOwner_29
def fT_isPlanned (β : BS) (t : Nat) : Bool :=
  if (β.2 4 t) = (-1) then false else true
theorem caX6_isPlanned : gCalV yX6_isPlanned cX6_isPlanned 2 (some .boolean) 1 := ⟨⟨q2_220, q1_1, by decide +kernel⟩, q2_218, q2_219⟩
set_option maxHeartbeats 4000000 in
set_option maxRecDepth 100000 in
theorem kT_isPlanned (l : Launch) (E : gE) (ax : Nat) (bo : Nat → Nat) (β : BS) (tr : Nat → Nat) (τ : BS) (ac : Nat → Nat) (γ : BS) (ah : Nat → Nat) (bd : Nat → Nat → Nat) (η : BS) (σ : Nat → BS) (at_ : Nat → Nat) (θ : BS) (hv : vB β)  (t : Nat) (ht : t < 20) (hq1 : (fX0_hasTicket β (nI t)) = true) : MC l E yX6_isPlanned cX6_isPlanned 2 (some .boolean) 1 21 [.ref ax, .int (nI t)] [wX ax (bo 0) (tr 0) (ac 0) (ah 0) (at_ 0), wB E bo β, wB E tr τ, wC E ac γ, wH E ah bd η, wT E at_ θ, wB E (bd 2) (σ 2), wB E (bd 3) (σ 3), wB E (bd 4) (σ 4), wB E (bd 5) (σ 5), wB E (bd 6) (σ 6), wB E (bd 7) (σ 7), wB E (bd 8) (σ 8), wB E (bd 9) (σ 9)] (some (.int (b2i (fT_isPlanned β t)))) [wX ax (bo 0) (tr 0) (ac 0) (ah 0) (at_ 0), wB E bo β, wB E tr τ, wC E ac γ, wH E ah bd η, wT E at_ θ, wB E (bd 2) (σ 2), wB E (bd 3) (σ 3), wB E (bd 4) (σ 4), wB E (bd 5) (σ 5), wB E (bd 6) (σ 6), wB E (bd 7) (σ 7), wB E (bd 8) (σ 8), wB E (bd 9) (σ 9)] := by
  have hv1 : cnt β ≤ 20 := hv.1
  refine mc_of (by decide +kernel) (Nat.le_of_ble_eq_true rfl) (lv := [(0, .ref ax), (1, .int (nI t))]) rfl (fun X C hE => ?_)
  refine g_aload_n C dX6_isPlanned_0 rfl 0 rfl ?_
  refine g_getf C (T := TX6) (N := 5) 0 0 rfl rfl rfl inX6 0 (by decide) q1_179 rfl dX6_isPlanned_1 ?_
  refine g_iload_n C dX6_isPlanned_4 rfl 1 rfl ?_
  refine g_callV C (cs1 := [wX ax (bo 0) (tr 0) (ac 0) (ah 0) (at_ 0), wB E bo β, wB E tr τ, wC E ac γ, wH E ah bd η, wT E at_ θ, wB E (bd 2) (σ 2), wB E (bd 3) (σ 3), wB E (bd 4) (σ 4), wB E (bd 5) (σ 5), wB E (bd 6) (σ 6), wB E (bd 7) (σ 7), wB E (bd 8) (σ 8), wB E (bd 9) (σ 9)]) (st1 := [.int (b2i (fX0_hasTicket β (nI t)))]) [.int (nI t)] [1] (kX0_hasTicket l E bo β (nI t)) caX0_hasTicket q2_197 rfl ⟨Nat.le_of_ble_eq_true rfl, Nat.le_of_ble_eq_true rfl⟩ ⟨Nat.zero_le _, Nat.zero_le _⟩ 1 0 rfl rfl rfl rfl (by decide) rfl rfl rfl rfl (Nat.le_of_ble_eq_true rfl) dX6_isPlanned_5 rfl ?_
  refine g_callS C (cs1 := [wX ax (bo 0) (tr 0) (ac 0) (ah 0) (at_ 0), wB E bo β, wB E tr τ, wC E ac γ, wH E ah bd η, wT E at_ θ, wB E (bd 2) (σ 2), wB E (bd 3) (σ 3), wB E (bd 4) (σ 4), wB E (bd 5) (σ 5), wB E (bd 6) (σ 6), wB E (bd 7) (σ 7), wB E (bd 8) (σ 8), wB E (bd 9) (σ 9)]) (st1 := []) [.int (b2i (fX0_hasTicket β (nI t)))] [] (kT_requireIndex l E (fX0_hasTicket β (nI t)) hq1) caX6_requireIndex q2_69 rfl ⟨Nat.le_of_ble_eq_true rfl, Nat.le_of_ble_eq_true rfl⟩ ⟨Nat.zero_le _, Nat.zero_le _⟩ (by decide) rfl rfl rfl rfl (Nat.le_of_ble_eq_true rfl) dX6_isPlanned_8 rfl ?_
  refine g_aload_n C dX6_isPlanned_11 rfl 0 rfl ?_
  refine g_getf C (T := TX6) (N := 5) 0 0 rfl rfl rfl inX6 0 (by decide) q1_179 rfl dX6_isPlanned_12 ?_
  refine g_getf C (T := TX0) (N := 17) 1 0 rfl rfl rfl inX0 8 (by decide) q1_53 rfl dX6_isPlanned_15 ?_
  refine g_iload_n C dX6_isPlanned_18 rfl 1 rfl ?_
  refine g_ialdn C 1 5 t rfl rfl rfl (by omega) (by decide) dX6_isPlanned_19 ?_
  refine g_iconst C (v := -1) dX6_isPlanned_20 (by decide) ?_
  refine g_icmp_eq C 28 dX6_isPlanned_21 (by decide) (fun c_1 => ?_) (fun c_1 => ?_)
  · skip
    refine g_iconst C (v := 0) dX6_isPlanned_28 (by decide) ?_
    have e_2 : fT_isPlanned β t = false := by rw [fT_isPlanned]; rw [if_pos c_1]
    exact g_zret (b := false) C hE (by rw [e_2]) rfl rfl dX6_isPlanned_29
  · skip
    refine g_iconst C (v := 1) dX6_isPlanned_24 (by decide) ?_
    refine g_goto C 29 dX6_isPlanned_25 (by decide) ?_
    have e_3 : fT_isPlanned β t = true := by rw [fT_isPlanned]; rw [if_neg c_1]
    exact g_zret (b := true) C hE (by rw [e_3]) rfl rfl dX6_isPlanned_29
def fT_daysInProgress (β : BS) (t : Nat) : Int32 :=
  β.2 7 t
theorem caX6_daysInProgress : gCalV yX6_daysInProgress cX6_daysInProgress 2 (some .int) 1 := ⟨⟨q2_228, q1_1, by decide +kernel⟩, q2_226, q2_227⟩
set_option maxHeartbeats 4000000 in
set_option maxRecDepth 100000 in
theorem kT_daysInProgress (l : Launch) (E : gE) (ax : Nat) (bo : Nat → Nat) (β : BS) (tr : Nat → Nat) (τ : BS) (ac : Nat → Nat) (γ : BS) (ah : Nat → Nat) (bd : Nat → Nat → Nat) (η : BS) (σ : Nat → BS) (at_ : Nat → Nat) (θ : BS) (hv : vB β)  (t : Nat) (ht : t < 20) (hq1 : (fX0_hasTicket β (nI t)) = true) : MC l E yX6_daysInProgress cX6_daysInProgress 2 (some .int) 1 21 [.ref ax, .int (nI t)] [wX ax (bo 0) (tr 0) (ac 0) (ah 0) (at_ 0), wB E bo β, wB E tr τ, wC E ac γ, wH E ah bd η, wT E at_ θ, wB E (bd 2) (σ 2), wB E (bd 3) (σ 3), wB E (bd 4) (σ 4), wB E (bd 5) (σ 5), wB E (bd 6) (σ 6), wB E (bd 7) (σ 7), wB E (bd 8) (σ 8), wB E (bd 9) (σ 9)] (some (.int (fT_daysInProgress β t))) [wX ax (bo 0) (tr 0) (ac 0) (ah 0) (at_ 0), wB E bo β, wB E tr τ, wC E ac γ, wH E ah bd η, wT E at_ θ, wB E (bd 2) (σ 2), wB E (bd 3) (σ 3), wB E (bd 4) (σ 4), wB E (bd 5) (σ 5), wB E (bd 6) (σ 6), wB E (bd 7) (σ 7), wB E (bd 8) (σ 8), wB E (bd 9) (σ 9)] := by
  have hv1 : cnt β ≤ 20 := hv.1
  refine mc_of (by decide +kernel) (Nat.le_of_ble_eq_true rfl) (lv := [(0, .ref ax), (1, .int (nI t))]) rfl (fun X C hE => ?_)
  refine g_aload_n C dX6_daysInProgress_0 rfl 0 rfl ?_
  refine g_getf C (T := TX6) (N := 5) 0 0 rfl rfl rfl inX6 0 (by decide) q1_179 rfl dX6_daysInProgress_1 ?_
  refine g_iload_n C dX6_daysInProgress_4 rfl 1 rfl ?_
  refine g_callV C (cs1 := [wX ax (bo 0) (tr 0) (ac 0) (ah 0) (at_ 0), wB E bo β, wB E tr τ, wC E ac γ, wH E ah bd η, wT E at_ θ, wB E (bd 2) (σ 2), wB E (bd 3) (σ 3), wB E (bd 4) (σ 4), wB E (bd 5) (σ 5), wB E (bd 6) (σ 6), wB E (bd 7) (σ 7), wB E (bd 8) (σ 8), wB E (bd 9) (σ 9)]) (st1 := [.int (b2i (fX0_hasTicket β (nI t)))]) [.int (nI t)] [1] (kX0_hasTicket l E bo β (nI t)) caX0_hasTicket q2_197 rfl ⟨Nat.le_of_ble_eq_true rfl, Nat.le_of_ble_eq_true rfl⟩ ⟨Nat.zero_le _, Nat.zero_le _⟩ 1 0 rfl rfl rfl rfl (by decide) rfl rfl rfl rfl (Nat.le_of_ble_eq_true rfl) dX6_daysInProgress_5 rfl ?_
  refine g_callS C (cs1 := [wX ax (bo 0) (tr 0) (ac 0) (ah 0) (at_ 0), wB E bo β, wB E tr τ, wC E ac γ, wH E ah bd η, wT E at_ θ, wB E (bd 2) (σ 2), wB E (bd 3) (σ 3), wB E (bd 4) (σ 4), wB E (bd 5) (σ 5), wB E (bd 6) (σ 6), wB E (bd 7) (σ 7), wB E (bd 8) (σ 8), wB E (bd 9) (σ 9)]) (st1 := []) [.int (b2i (fX0_hasTicket β (nI t)))] [] (kT_requireIndex l E (fX0_hasTicket β (nI t)) hq1) caX6_requireIndex q2_69 rfl ⟨Nat.le_of_ble_eq_true rfl, Nat.le_of_ble_eq_true rfl⟩ ⟨Nat.zero_le _, Nat.zero_le _⟩ (by decide) rfl rfl rfl rfl (Nat.le_of_ble_eq_true rfl) dX6_daysInProgress_8 rfl ?_
  refine g_aload_n C dX6_daysInProgress_11 rfl 0 rfl ?_
  refine g_getf C (T := TX6) (N := 5) 0 0 rfl rfl rfl inX6 0 (by decide) q1_179 rfl dX6_daysInProgress_12 ?_
  refine g_getf C (T := TX0) (N := 17) 1 0 rfl rfl rfl inX0 11 (by decide) q1_59 rfl dX6_daysInProgress_15 ?_
  refine g_iload_n C dX6_daysInProgress_18 rfl 1 rfl ?_
  refine g_ialdn C 1 8 t rfl rfl rfl (by omega) (by decide) dX6_daysInProgress_19 ?_
  have e_1 : fT_daysInProgress β t = β.2 7 t := by rw [fT_daysInProgress]
  exact g_iret C hE (by rw [e_1]) rfl dX6_daysInProgress_20
def fT_timesSentBack (β : BS) (t : Nat) : Int32 :=
  β.2 8 t
theorem caX6_timesSentBack : gCalV yX6_timesSentBack cX6_timesSentBack 2 (some .int) 1 := ⟨⟨q2_232, q1_1, by decide +kernel⟩, q2_230, q2_231⟩
set_option maxHeartbeats 4000000 in
set_option maxRecDepth 100000 in
theorem kT_timesSentBack (l : Launch) (E : gE) (ax : Nat) (bo : Nat → Nat) (β : BS) (tr : Nat → Nat) (τ : BS) (ac : Nat → Nat) (γ : BS) (ah : Nat → Nat) (bd : Nat → Nat → Nat) (η : BS) (σ : Nat → BS) (at_ : Nat → Nat) (θ : BS) (hv : vB β)  (t : Nat) (ht : t < 20) (hq1 : (fX0_hasTicket β (nI t)) = true) : MC l E yX6_timesSentBack cX6_timesSentBack 2 (some .int) 1 21 [.ref ax, .int (nI t)] [wX ax (bo 0) (tr 0) (ac 0) (ah 0) (at_ 0), wB E bo β, wB E tr τ, wC E ac γ, wH E ah bd η, wT E at_ θ, wB E (bd 2) (σ 2), wB E (bd 3) (σ 3), wB E (bd 4) (σ 4), wB E (bd 5) (σ 5), wB E (bd 6) (σ 6), wB E (bd 7) (σ 7), wB E (bd 8) (σ 8), wB E (bd 9) (σ 9)] (some (.int (fT_timesSentBack β t))) [wX ax (bo 0) (tr 0) (ac 0) (ah 0) (at_ 0), wB E bo β, wB E tr τ, wC E ac γ, wH E ah bd η, wT E at_ θ, wB E (bd 2) (σ 2), wB E (bd 3) (σ 3), wB E (bd 4) (σ 4), wB E (bd 5) (σ 5), wB E (bd 6) (σ 6), wB E (bd 7) (σ 7), wB E (bd 8) (σ 8), wB E (bd 9) (σ 9)] := by
  have hv1 : cnt β ≤ 20 := hv.1
  refine mc_of (by decide +kernel) (Nat.le_of_ble_eq_true rfl) (lv := [(0, .ref ax), (1, .int (nI t))]) rfl (fun X C hE => ?_)
  refine g_aload_n C dX6_timesSentBack_0 rfl 0 rfl ?_
  refine g_getf C (T := TX6) (N := 5) 0 0 rfl rfl rfl inX6 0 (by decide) q1_179 rfl dX6_timesSentBack_1 ?_
  refine g_iload_n C dX6_timesSentBack_4 rfl 1 rfl ?_
  refine g_callV C (cs1 := [wX ax (bo 0) (tr 0) (ac 0) (ah 0) (at_ 0), wB E bo β, wB E tr τ, wC E ac γ, wH E ah bd η, wT E at_ θ, wB E (bd 2) (σ 2), wB E (bd 3) (σ 3), wB E (bd 4) (σ 4), wB E (bd 5) (σ 5), wB E (bd 6) (σ 6), wB E (bd 7) (σ 7), wB E (bd 8) (σ 8), wB E (bd 9) (σ 9)]) (st1 := [.int (b2i (fX0_hasTicket β (nI t)))]) [.int (nI t)] [1] (kX0_hasTicket l E bo β (nI t)) caX0_hasTicket q2_197 rfl ⟨Nat.le_of_ble_eq_true rfl, Nat.le_of_ble_eq_true rfl⟩ ⟨Nat.zero_le _, Nat.zero_le _⟩ 1 0 rfl rfl rfl rfl (by decide) rfl rfl rfl rfl (Nat.le_of_ble_eq_true rfl) dX6_timesSentBack_5 rfl ?_
  refine g_callS C (cs1 := [wX ax (bo 0) (tr 0) (ac 0) (ah 0) (at_ 0), wB E bo β, wB E tr τ, wC E ac γ, wH E ah bd η, wT E at_ θ, wB E (bd 2) (σ 2), wB E (bd 3) (σ 3), wB E (bd 4) (σ 4), wB E (bd 5) (σ 5), wB E (bd 6) (σ 6), wB E (bd 7) (σ 7), wB E (bd 8) (σ 8), wB E (bd 9) (σ 9)]) (st1 := []) [.int (b2i (fX0_hasTicket β (nI t)))] [] (kT_requireIndex l E (fX0_hasTicket β (nI t)) hq1) caX6_requireIndex q2_69 rfl ⟨Nat.le_of_ble_eq_true rfl, Nat.le_of_ble_eq_true rfl⟩ ⟨Nat.zero_le _, Nat.zero_le _⟩ (by decide) rfl rfl rfl rfl (Nat.le_of_ble_eq_true rfl) dX6_timesSentBack_8 rfl ?_
  refine g_aload_n C dX6_timesSentBack_11 rfl 0 rfl ?_
  refine g_getf C (T := TX6) (N := 5) 0 0 rfl rfl rfl inX6 0 (by decide) q1_179 rfl dX6_timesSentBack_12 ?_
  refine g_getf C (T := TX0) (N := 17) 1 0 rfl rfl rfl inX0 12 (by decide) q1_61 rfl dX6_timesSentBack_15 ?_
  refine g_iload_n C dX6_timesSentBack_18 rfl 1 rfl ?_
  refine g_ialdn C 1 9 t rfl rfl rfl (by omega) (by decide) dX6_timesSentBack_19 ?_
  have e_1 : fT_timesSentBack β t = β.2 8 t := by rw [fT_timesSentBack]
  exact g_iret C hE (by rw [e_1]) rfl dX6_timesSentBack_20
def fT_needsOf (β : BS) (t : Nat) : Int32 :=
  (fJ6_bitCount_0f7a4 (β.2 9 t))
theorem caX6_needsOf : gCalV yX6_needsOf cX6_needsOf 2 (some .int) 1 := ⟨⟨q2_236, q1_1, by decide +kernel⟩, q2_234, q2_235⟩
set_option maxHeartbeats 4000000 in
set_option maxRecDepth 100000 in
theorem kT_needsOf (l : Launch) (E : gE) (ax : Nat) (bo : Nat → Nat) (β : BS) (tr : Nat → Nat) (τ : BS) (ac : Nat → Nat) (γ : BS) (ah : Nat → Nat) (bd : Nat → Nat → Nat) (η : BS) (σ : Nat → BS) (at_ : Nat → Nat) (θ : BS) (hv : vB β)  (t : Nat) (ht : t < 20) (hq1 : (fX0_hasTicket β (nI t)) = true) : MC l E yX6_needsOf cX6_needsOf 2 (some .int) 1 21 [.ref ax, .int (nI t)] [wX ax (bo 0) (tr 0) (ac 0) (ah 0) (at_ 0), wB E bo β, wB E tr τ, wC E ac γ, wH E ah bd η, wT E at_ θ, wB E (bd 2) (σ 2), wB E (bd 3) (σ 3), wB E (bd 4) (σ 4), wB E (bd 5) (σ 5), wB E (bd 6) (σ 6), wB E (bd 7) (σ 7), wB E (bd 8) (σ 8), wB E (bd 9) (σ 9)] (some (.int (fT_needsOf β t))) [wX ax (bo 0) (tr 0) (ac 0) (ah 0) (at_ 0), wB E bo β, wB E tr τ, wC E ac γ, wH E ah bd η, wT E at_ θ, wB E (bd 2) (σ 2), wB E (bd 3) (σ 3), wB E (bd 4) (σ 4), wB E (bd 5) (σ 5), wB E (bd 6) (σ 6), wB E (bd 7) (σ 7), wB E (bd 8) (σ 8), wB E (bd 9) (σ 9)] := by
  have hv1 : cnt β ≤ 20 := hv.1
  refine mc_of (by decide +kernel) (Nat.le_of_ble_eq_true rfl) (lv := [(0, .ref ax), (1, .int (nI t))]) rfl (fun X C hE => ?_)
  refine g_aload_n C dX6_needsOf_0 rfl 0 rfl ?_
  refine g_getf C (T := TX6) (N := 5) 0 0 rfl rfl rfl inX6 0 (by decide) q1_179 rfl dX6_needsOf_1 ?_
  refine g_iload_n C dX6_needsOf_4 rfl 1 rfl ?_
  refine g_callV C (cs1 := [wX ax (bo 0) (tr 0) (ac 0) (ah 0) (at_ 0), wB E bo β, wB E tr τ, wC E ac γ, wH E ah bd η, wT E at_ θ, wB E (bd 2) (σ 2), wB E (bd 3) (σ 3), wB E (bd 4) (σ 4), wB E (bd 5) (σ 5), wB E (bd 6) (σ 6), wB E (bd 7) (σ 7), wB E (bd 8) (σ 8), wB E (bd 9) (σ 9)]) (st1 := [.int (b2i (fX0_hasTicket β (nI t)))]) [.int (nI t)] [1] (kX0_hasTicket l E bo β (nI t)) caX0_hasTicket q2_197 rfl ⟨Nat.le_of_ble_eq_true rfl, Nat.le_of_ble_eq_true rfl⟩ ⟨Nat.zero_le _, Nat.zero_le _⟩ 1 0 rfl rfl rfl rfl (by decide) rfl rfl rfl rfl (Nat.le_of_ble_eq_true rfl) dX6_needsOf_5 rfl ?_
  refine g_callS C (cs1 := [wX ax (bo 0) (tr 0) (ac 0) (ah 0) (at_ 0), wB E bo β, wB E tr τ, wC E ac γ, wH E ah bd η, wT E at_ θ, wB E (bd 2) (σ 2), wB E (bd 3) (σ 3), wB E (bd 4) (σ 4), wB E (bd 5) (σ 5), wB E (bd 6) (σ 6), wB E (bd 7) (σ 7), wB E (bd 8) (σ 8), wB E (bd 9) (σ 9)]) (st1 := []) [.int (b2i (fX0_hasTicket β (nI t)))] [] (kT_requireIndex l E (fX0_hasTicket β (nI t)) hq1) caX6_requireIndex q2_69 rfl ⟨Nat.le_of_ble_eq_true rfl, Nat.le_of_ble_eq_true rfl⟩ ⟨Nat.zero_le _, Nat.zero_le _⟩ (by decide) rfl rfl rfl rfl (Nat.le_of_ble_eq_true rfl) dX6_needsOf_8 rfl ?_
  refine g_aload_n C dX6_needsOf_11 rfl 0 rfl ?_
  refine g_getf C (T := TX6) (N := 5) 0 0 rfl rfl rfl inX6 0 (by decide) q1_179 rfl dX6_needsOf_12 ?_
  refine g_getf C (T := TX0) (N := 17) 1 0 rfl rfl rfl inX0 13 (by decide) q1_64 rfl dX6_needsOf_15 ?_
  refine g_iload_n C dX6_needsOf_18 rfl 1 rfl ?_
  refine g_ialdn C 1 10 t rfl rfl rfl (by omega) (by decide) dX6_needsOf_19 ?_
  refine g_callS C (cs1 := [wX ax (bo 0) (tr 0) (ac 0) (ah 0) (at_ 0), wB E bo β, wB E tr τ, wC E ac γ, wH E ah bd η, wT E at_ θ, wB E (bd 2) (σ 2), wB E (bd 3) (σ 3), wB E (bd 4) (σ 4), wB E (bd 5) (σ 5), wB E (bd 6) (σ 6), wB E (bd 7) (σ 7), wB E (bd 8) (σ 8), wB E (bd 9) (σ 9)]) (st1 := [.int (fJ6_bitCount_0f7a4 (β.2 9 t))]) [.int (β.2 9 t)] [] (kJ6_bitCount_0f7a4 l E (β.2 9 t)) caJ6_bitCount_0f7a4 q2_237 rfl ⟨Nat.le_of_ble_eq_true rfl, Nat.le_of_ble_eq_true rfl⟩ ⟨Nat.zero_le _, Nat.zero_le _⟩ (by decide) rfl rfl rfl rfl (Nat.le_of_ble_eq_true rfl) dX6_needsOf_20 rfl ?_
  have e_1 : fT_needsOf β t = (fJ6_bitCount_0f7a4 (β.2 9 t)) := by rw [fT_needsOf]
  exact g_iret C hE (by rw [e_1]) rfl dX6_needsOf_23
def fT_isBlocked (β : BS) (t : Nat) : Bool :=
  if (fX0_blockerSet β t) = 0 then false else true
theorem caX6_isBlocked : gCalV yX6_isBlocked cX6_isBlocked 2 (some .boolean) 1 := ⟨⟨q3_183, q1_1, by decide +kernel⟩, q3_181, q3_182⟩
set_option maxHeartbeats 4000000 in
set_option maxRecDepth 100000 in
theorem kT_isBlocked (l : Launch) (E : gE) (ax : Nat) (bo : Nat → Nat) (β : BS) (tr : Nat → Nat) (τ : BS) (ac : Nat → Nat) (γ : BS) (ah : Nat → Nat) (bd : Nat → Nat → Nat) (η : BS) (σ : Nat → BS) (at_ : Nat → Nat) (θ : BS) (hv : vB β)  (t : Nat) (ht : t < 20) (hq1 : (fX0_hasTicket β (nI t)) = true) : MC l E yX6_isBlocked cX6_isBlocked 2 (some .boolean) 3 64 [.ref ax, .int (nI t)] [wX ax (bo 0) (tr 0) (ac 0) (ah 0) (at_ 0), wB E bo β, wB E tr τ, wC E ac γ, wH E ah bd η, wT E at_ θ, wB E (bd 2) (σ 2), wB E (bd 3) (σ 3), wB E (bd 4) (σ 4), wB E (bd 5) (σ 5), wB E (bd 6) (σ 6), wB E (bd 7) (σ 7), wB E (bd 8) (σ 8), wB E (bd 9) (σ 9)] (some (.int (b2i (fT_isBlocked β t)))) [wX ax (bo 0) (tr 0) (ac 0) (ah 0) (at_ 0), wB E bo β, wB E tr τ, wC E ac γ, wH E ah bd η, wT E at_ θ, wB E (bd 2) (σ 2), wB E (bd 3) (σ 3), wB E (bd 4) (σ 4), wB E (bd 5) (σ 5), wB E (bd 6) (σ 6), wB E (bd 7) (σ 7), wB E (bd 8) (σ 8), wB E (bd 9) (σ 9)] := by
  have hv1 : cnt β ≤ 20 := hv.1
  refine mc_of (by decide +kernel) (Nat.le_of_ble_eq_true rfl) (lv := [(0, .ref ax), (1, .int (nI t))]) rfl (fun X C hE => ?_)
  refine g_aload_n C dX6_isBlocked_0 rfl 0 rfl ?_
  refine g_getf C (T := TX6) (N := 5) 0 0 rfl rfl rfl inX6 0 (by decide) q1_179 rfl dX6_isBlocked_1 ?_
  refine g_iload_n C dX6_isBlocked_4 rfl 1 rfl ?_
  refine g_callV C (cs1 := [wX ax (bo 0) (tr 0) (ac 0) (ah 0) (at_ 0), wB E bo β, wB E tr τ, wC E ac γ, wH E ah bd η, wT E at_ θ, wB E (bd 2) (σ 2), wB E (bd 3) (σ 3), wB E (bd 4) (σ 4), wB E (bd 5) (σ 5), wB E (bd 6) (σ 6), wB E (bd 7) (σ 7), wB E (bd 8) (σ 8), wB E (bd 9) (σ 9)]) (st1 := [.int (b2i (fX0_hasTicket β (nI t)))]) [.int (nI t)] [1] (kX0_hasTicket l E bo β (nI t)) caX0_hasTicket q2_197 rfl ⟨Nat.le_of_ble_eq_true rfl, Nat.le_of_ble_eq_true rfl⟩ ⟨Nat.zero_le _, Nat.zero_le _⟩ 1 0 rfl rfl rfl rfl (by decide) rfl rfl rfl rfl (Nat.le_of_ble_eq_true rfl) dX6_isBlocked_5 rfl ?_
  refine g_callS C (cs1 := [wX ax (bo 0) (tr 0) (ac 0) (ah 0) (at_ 0), wB E bo β, wB E tr τ, wC E ac γ, wH E ah bd η, wT E at_ θ, wB E (bd 2) (σ 2), wB E (bd 3) (σ 3), wB E (bd 4) (σ 4), wB E (bd 5) (σ 5), wB E (bd 6) (σ 6), wB E (bd 7) (σ 7), wB E (bd 8) (σ 8), wB E (bd 9) (σ 9)]) (st1 := []) [.int (b2i (fX0_hasTicket β (nI t)))] [] (kT_requireIndex l E (fX0_hasTicket β (nI t)) hq1) caX6_requireIndex q2_69 rfl ⟨Nat.le_of_ble_eq_true rfl, Nat.le_of_ble_eq_true rfl⟩ ⟨Nat.zero_le _, Nat.zero_le _⟩ (by decide) rfl rfl rfl rfl (Nat.le_of_ble_eq_true rfl) dX6_isBlocked_8 rfl ?_
  refine g_aload_n C dX6_isBlocked_11 rfl 0 rfl ?_
  refine g_getf C (T := TX6) (N := 5) 0 0 rfl rfl rfl inX6 0 (by decide) q1_179 rfl dX6_isBlocked_12 ?_
  refine g_iload_n C dX6_isBlocked_15 rfl 1 rfl ?_
  refine g_callV C (cs1 := [wX ax (bo 0) (tr 0) (ac 0) (ah 0) (at_ 0), wB E bo β, wB E tr τ, wC E ac γ, wH E ah bd η, wT E at_ θ, wB E (bd 2) (σ 2), wB E (bd 3) (σ 3), wB E (bd 4) (σ 4), wB E (bd 5) (σ 5), wB E (bd 6) (σ 6), wB E (bd 7) (σ 7), wB E (bd 8) (σ 8), wB E (bd 9) (σ 9)]) (st1 := [.int (fX0_blockerSet β t)]) [.int (nI t)] [1] (kX0_blockerSet l E bo β hv t (by omega)) caX0_blockerSet q3_184 rfl ⟨Nat.le_of_ble_eq_true rfl, Nat.le_of_ble_eq_true rfl⟩ ⟨Nat.zero_le _, Nat.zero_le _⟩ 1 0 rfl rfl rfl rfl (by decide) rfl rfl rfl rfl (Nat.le_of_ble_eq_true rfl) dX6_isBlocked_16 rfl ?_
  refine g_if_eq C 26 dX6_isBlocked_19 (by decide) (fun c_1 => ?_) (fun c_1 => ?_)
  · skip
    refine g_iconst C (v := 0) dX6_isBlocked_26 (by decide) ?_
    have e_2 : fT_isBlocked β t = false := by rw [fT_isBlocked]; rw [if_pos c_1]
    exact g_zret (b := false) C hE (by rw [e_2]) rfl rfl dX6_isBlocked_27
  · skip
    refine g_iconst C (v := 1) dX6_isBlocked_22 (by decide) ?_
    refine g_goto C 27 dX6_isBlocked_23 (by decide) ?_
    have e_3 : fT_isBlocked β t = true := by rw [fT_isBlocked]; rw [if_neg c_1]
    exact g_zret (b := true) C hE (by rw [e_3]) rfl rfl dX6_isBlocked_27
def fT_blockersOf (β : BS) (t : Nat) : Int32 :=
  (fJ6_bitCount_0f7a4 (fX0_blockerSet β t))
theorem caX6_blockersOf : gCalV yX6_blockersOf cX6_blockersOf 2 (some .int) 1 := ⟨⟨q3_218, q1_1, by decide +kernel⟩, q3_216, q3_217⟩
set_option maxHeartbeats 4000000 in
set_option maxRecDepth 100000 in
theorem kT_blockersOf (l : Launch) (E : gE) (ax : Nat) (bo : Nat → Nat) (β : BS) (tr : Nat → Nat) (τ : BS) (ac : Nat → Nat) (γ : BS) (ah : Nat → Nat) (bd : Nat → Nat → Nat) (η : BS) (σ : Nat → BS) (at_ : Nat → Nat) (θ : BS) (hv : vB β)  (t : Nat) (ht : t < 20) (hq1 : (fX0_hasTicket β (nI t)) = true) : MC l E yX6_blockersOf cX6_blockersOf 2 (some .int) 3 64 [.ref ax, .int (nI t)] [wX ax (bo 0) (tr 0) (ac 0) (ah 0) (at_ 0), wB E bo β, wB E tr τ, wC E ac γ, wH E ah bd η, wT E at_ θ, wB E (bd 2) (σ 2), wB E (bd 3) (σ 3), wB E (bd 4) (σ 4), wB E (bd 5) (σ 5), wB E (bd 6) (σ 6), wB E (bd 7) (σ 7), wB E (bd 8) (σ 8), wB E (bd 9) (σ 9)] (some (.int (fT_blockersOf β t))) [wX ax (bo 0) (tr 0) (ac 0) (ah 0) (at_ 0), wB E bo β, wB E tr τ, wC E ac γ, wH E ah bd η, wT E at_ θ, wB E (bd 2) (σ 2), wB E (bd 3) (σ 3), wB E (bd 4) (σ 4), wB E (bd 5) (σ 5), wB E (bd 6) (σ 6), wB E (bd 7) (σ 7), wB E (bd 8) (σ 8), wB E (bd 9) (σ 9)] := by
  have hv1 : cnt β ≤ 20 := hv.1
  refine mc_of (by decide +kernel) (Nat.le_of_ble_eq_true rfl) (lv := [(0, .ref ax), (1, .int (nI t))]) rfl (fun X C hE => ?_)
  refine g_aload_n C dX6_blockersOf_0 rfl 0 rfl ?_
  refine g_getf C (T := TX6) (N := 5) 0 0 rfl rfl rfl inX6 0 (by decide) q1_179 rfl dX6_blockersOf_1 ?_
  refine g_iload_n C dX6_blockersOf_4 rfl 1 rfl ?_
  refine g_callV C (cs1 := [wX ax (bo 0) (tr 0) (ac 0) (ah 0) (at_ 0), wB E bo β, wB E tr τ, wC E ac γ, wH E ah bd η, wT E at_ θ, wB E (bd 2) (σ 2), wB E (bd 3) (σ 3), wB E (bd 4) (σ 4), wB E (bd 5) (σ 5), wB E (bd 6) (σ 6), wB E (bd 7) (σ 7), wB E (bd 8) (σ 8), wB E (bd 9) (σ 9)]) (st1 := [.int (b2i (fX0_hasTicket β (nI t)))]) [.int (nI t)] [1] (kX0_hasTicket l E bo β (nI t)) caX0_hasTicket q2_197 rfl ⟨Nat.le_of_ble_eq_true rfl, Nat.le_of_ble_eq_true rfl⟩ ⟨Nat.zero_le _, Nat.zero_le _⟩ 1 0 rfl rfl rfl rfl (by decide) rfl rfl rfl rfl (Nat.le_of_ble_eq_true rfl) dX6_blockersOf_5 rfl ?_
  refine g_callS C (cs1 := [wX ax (bo 0) (tr 0) (ac 0) (ah 0) (at_ 0), wB E bo β, wB E tr τ, wC E ac γ, wH E ah bd η, wT E at_ θ, wB E (bd 2) (σ 2), wB E (bd 3) (σ 3), wB E (bd 4) (σ 4), wB E (bd 5) (σ 5), wB E (bd 6) (σ 6), wB E (bd 7) (σ 7), wB E (bd 8) (σ 8), wB E (bd 9) (σ 9)]) (st1 := []) [.int (b2i (fX0_hasTicket β (nI t)))] [] (kT_requireIndex l E (fX0_hasTicket β (nI t)) hq1) caX6_requireIndex q2_69 rfl ⟨Nat.le_of_ble_eq_true rfl, Nat.le_of_ble_eq_true rfl⟩ ⟨Nat.zero_le _, Nat.zero_le _⟩ (by decide) rfl rfl rfl rfl (Nat.le_of_ble_eq_true rfl) dX6_blockersOf_8 rfl ?_
  refine g_aload_n C dX6_blockersOf_11 rfl 0 rfl ?_
  refine g_getf C (T := TX6) (N := 5) 0 0 rfl rfl rfl inX6 0 (by decide) q1_179 rfl dX6_blockersOf_12 ?_
  refine g_iload_n C dX6_blockersOf_15 rfl 1 rfl ?_
  refine g_callV C (cs1 := [wX ax (bo 0) (tr 0) (ac 0) (ah 0) (at_ 0), wB E bo β, wB E tr τ, wC E ac γ, wH E ah bd η, wT E at_ θ, wB E (bd 2) (σ 2), wB E (bd 3) (σ 3), wB E (bd 4) (σ 4), wB E (bd 5) (σ 5), wB E (bd 6) (σ 6), wB E (bd 7) (σ 7), wB E (bd 8) (σ 8), wB E (bd 9) (σ 9)]) (st1 := [.int (fX0_blockerSet β t)]) [.int (nI t)] [1] (kX0_blockerSet l E bo β hv t (by omega)) caX0_blockerSet q3_184 rfl ⟨Nat.le_of_ble_eq_true rfl, Nat.le_of_ble_eq_true rfl⟩ ⟨Nat.zero_le _, Nat.zero_le _⟩ 1 0 rfl rfl rfl rfl (by decide) rfl rfl rfl rfl (Nat.le_of_ble_eq_true rfl) dX6_blockersOf_16 rfl ?_
  refine g_callS C (cs1 := [wX ax (bo 0) (tr 0) (ac 0) (ah 0) (at_ 0), wB E bo β, wB E tr τ, wC E ac γ, wH E ah bd η, wT E at_ θ, wB E (bd 2) (σ 2), wB E (bd 3) (σ 3), wB E (bd 4) (σ 4), wB E (bd 5) (σ 5), wB E (bd 6) (σ 6), wB E (bd 7) (σ 7), wB E (bd 8) (σ 8), wB E (bd 9) (σ 9)]) (st1 := [.int (fJ6_bitCount_0f7a4 (fX0_blockerSet β t))]) [.int (fX0_blockerSet β t)] [] (kJ6_bitCount_0f7a4 l E (fX0_blockerSet β t)) caJ6_bitCount_0f7a4 q2_237 rfl ⟨Nat.le_of_ble_eq_true rfl, Nat.le_of_ble_eq_true rfl⟩ ⟨Nat.zero_le _, Nat.zero_le _⟩ (by decide) rfl rfl rfl rfl (Nat.le_of_ble_eq_true rfl) dX6_blockersOf_19 rfl ?_
  have e_1 : fT_blockersOf β t = (fJ6_bitCount_0f7a4 (fX0_blockerSet β t)) := by rw [fT_blockersOf]
  exact g_iret C hE (by rw [e_1]) rfl dX6_blockersOf_22
def fT_allNeedsByGoing (β : BS) (t : Nat) : Int32 :=
  (fJ6_bitCount_0f7a4 (fX0_reachedFrom β t))
theorem caX6_allNeedsByGoing : gCalV yX6_allNeedsByGoing cX6_allNeedsByGoing 2 (some .int) 1 := ⟨⟨q3_222, q1_1, by decide +kernel⟩, q3_220, q3_221⟩
set_option maxHeartbeats 4000000 in
set_option maxRecDepth 100000 in
theorem kT_allNeedsByGoing (l : Launch) (E : gE) (ax : Nat) (bo : Nat → Nat) (β : BS) (tr : Nat → Nat) (τ : BS) (ac : Nat → Nat) (γ : BS) (ah : Nat → Nat) (bd : Nat → Nat → Nat) (η : BS) (σ : Nat → BS) (at_ : Nat → Nat) (θ : BS) (hv : vB β)  (t : Nat) (ht : t < 20) (hq1 : (fX0_hasTicket β (nI t)) = true) : MC l E yX6_allNeedsByGoing cX6_allNeedsByGoing 2 (some .int) 3 68 [.ref ax, .int (nI t)] [wX ax (bo 0) (tr 0) (ac 0) (ah 0) (at_ 0), wB E bo β, wB E tr τ, wC E ac γ, wH E ah bd η, wT E at_ θ, wB E (bd 2) (σ 2), wB E (bd 3) (σ 3), wB E (bd 4) (σ 4), wB E (bd 5) (σ 5), wB E (bd 6) (σ 6), wB E (bd 7) (σ 7), wB E (bd 8) (σ 8), wB E (bd 9) (σ 9)] (some (.int (fT_allNeedsByGoing β t))) [wX ax (bo 0) (tr 0) (ac 0) (ah 0) (at_ 0), wB E bo β, wB E tr τ, wC E ac γ, wH E ah bd η, wT E at_ θ, wB E (bd 2) (σ 2), wB E (bd 3) (σ 3), wB E (bd 4) (σ 4), wB E (bd 5) (σ 5), wB E (bd 6) (σ 6), wB E (bd 7) (σ 7), wB E (bd 8) (σ 8), wB E (bd 9) (σ 9)] := by
  have hv1 : cnt β ≤ 20 := hv.1
  refine mc_of (by decide +kernel) (Nat.le_of_ble_eq_true rfl) (lv := [(0, .ref ax), (1, .int (nI t))]) rfl (fun X C hE => ?_)
  refine g_aload_n C dX6_allNeedsByGoing_0 rfl 0 rfl ?_
  refine g_getf C (T := TX6) (N := 5) 0 0 rfl rfl rfl inX6 0 (by decide) q1_179 rfl dX6_allNeedsByGoing_1 ?_
  refine g_iload_n C dX6_allNeedsByGoing_4 rfl 1 rfl ?_
  refine g_callV C (cs1 := [wX ax (bo 0) (tr 0) (ac 0) (ah 0) (at_ 0), wB E bo β, wB E tr τ, wC E ac γ, wH E ah bd η, wT E at_ θ, wB E (bd 2) (σ 2), wB E (bd 3) (σ 3), wB E (bd 4) (σ 4), wB E (bd 5) (σ 5), wB E (bd 6) (σ 6), wB E (bd 7) (σ 7), wB E (bd 8) (σ 8), wB E (bd 9) (σ 9)]) (st1 := [.int (b2i (fX0_hasTicket β (nI t)))]) [.int (nI t)] [1] (kX0_hasTicket l E bo β (nI t)) caX0_hasTicket q2_197 rfl ⟨Nat.le_of_ble_eq_true rfl, Nat.le_of_ble_eq_true rfl⟩ ⟨Nat.zero_le _, Nat.zero_le _⟩ 1 0 rfl rfl rfl rfl (by decide) rfl rfl rfl rfl (Nat.le_of_ble_eq_true rfl) dX6_allNeedsByGoing_5 rfl ?_
  refine g_callS C (cs1 := [wX ax (bo 0) (tr 0) (ac 0) (ah 0) (at_ 0), wB E bo β, wB E tr τ, wC E ac γ, wH E ah bd η, wT E at_ θ, wB E (bd 2) (σ 2), wB E (bd 3) (σ 3), wB E (bd 4) (σ 4), wB E (bd 5) (σ 5), wB E (bd 6) (σ 6), wB E (bd 7) (σ 7), wB E (bd 8) (σ 8), wB E (bd 9) (σ 9)]) (st1 := []) [.int (b2i (fX0_hasTicket β (nI t)))] [] (kT_requireIndex l E (fX0_hasTicket β (nI t)) hq1) caX6_requireIndex q2_69 rfl ⟨Nat.le_of_ble_eq_true rfl, Nat.le_of_ble_eq_true rfl⟩ ⟨Nat.zero_le _, Nat.zero_le _⟩ (by decide) rfl rfl rfl rfl (Nat.le_of_ble_eq_true rfl) dX6_allNeedsByGoing_8 rfl ?_
  refine g_aload_n C dX6_allNeedsByGoing_11 rfl 0 rfl ?_
  refine g_getf C (T := TX6) (N := 5) 0 0 rfl rfl rfl inX6 0 (by decide) q1_179 rfl dX6_allNeedsByGoing_12 ?_
  refine g_iload_n C dX6_allNeedsByGoing_15 rfl 1 rfl ?_
  refine g_callV C (cs1 := [wX ax (bo 0) (tr 0) (ac 0) (ah 0) (at_ 0), wB E bo β, wB E tr τ, wC E ac γ, wH E ah bd η, wT E at_ θ, wB E (bd 2) (σ 2), wB E (bd 3) (σ 3), wB E (bd 4) (σ 4), wB E (bd 5) (σ 5), wB E (bd 6) (σ 6), wB E (bd 7) (σ 7), wB E (bd 8) (σ 8), wB E (bd 9) (σ 9)]) (st1 := [.int (fX0_reachedFrom β t)]) [.int (nI t)] [1] (kX0_reachedFrom l E bo β hv t (by omega)) caX0_reachedFrom q3_223 rfl ⟨Nat.le_of_ble_eq_true rfl, Nat.le_of_ble_eq_true rfl⟩ ⟨Nat.zero_le _, Nat.zero_le _⟩ 1 0 rfl rfl rfl rfl (by decide) rfl rfl rfl rfl (Nat.le_of_ble_eq_true rfl) dX6_allNeedsByGoing_16 rfl ?_
  refine g_callS C (cs1 := [wX ax (bo 0) (tr 0) (ac 0) (ah 0) (at_ 0), wB E bo β, wB E tr τ, wC E ac γ, wH E ah bd η, wT E at_ θ, wB E (bd 2) (σ 2), wB E (bd 3) (σ 3), wB E (bd 4) (σ 4), wB E (bd 5) (σ 5), wB E (bd 6) (σ 6), wB E (bd 7) (σ 7), wB E (bd 8) (σ 8), wB E (bd 9) (σ 9)]) (st1 := [.int (fJ6_bitCount_0f7a4 (fX0_reachedFrom β t))]) [.int (fX0_reachedFrom β t)] [] (kJ6_bitCount_0f7a4 l E (fX0_reachedFrom β t)) caJ6_bitCount_0f7a4 q2_237 rfl ⟨Nat.le_of_ble_eq_true rfl, Nat.le_of_ble_eq_true rfl⟩ ⟨Nat.zero_le _, Nat.zero_le _⟩ (by decide) rfl rfl rfl rfl (Nat.le_of_ble_eq_true rfl) dX6_allNeedsByGoing_19 rfl ?_
  have e_1 : fT_allNeedsByGoing β t = (fJ6_bitCount_0f7a4 (fX0_reachedFrom β t)) := by rw [fT_allNeedsByGoing]
  exact g_iret C hE (by rw [e_1]) rfl dX6_allNeedsByGoing_22
def fT_chainOf (β : BS) (t : Nat) : Int32 :=
  (fX1_longestFrom β t)
theorem caX6_chainOf : gCalV yX6_chainOf cX6_chainOf 2 (some .int) 1 := ⟨⟨q3_6, q1_1, by decide +kernel⟩, q3_4, q3_5⟩
set_option maxHeartbeats 4000000 in
set_option maxRecDepth 100000 in
theorem kT_chainOf (l : Launch) (E : gE) (ax : Nat) (bo : Nat → Nat) (β : BS) (tr : Nat → Nat) (τ : BS) (ac : Nat → Nat) (γ : BS) (ah : Nat → Nat) (bd : Nat → Nat → Nat) (η : BS) (σ : Nat → BS) (at_ : Nat → Nat) (θ : BS) (hv : vB β)  (t : Nat) (ht : t < 20) (hq1 : (fX0_hasTicket β (nI t)) = true) : MC l E yX6_chainOf cX6_chainOf 2 (some .int) 3 67 [.ref ax, .int (nI t)] [wX ax (bo 0) (tr 0) (ac 0) (ah 0) (at_ 0), wB E bo β, wB E tr τ, wC E ac γ, wH E ah bd η, wT E at_ θ, wB E (bd 2) (σ 2), wB E (bd 3) (σ 3), wB E (bd 4) (σ 4), wB E (bd 5) (σ 5), wB E (bd 6) (σ 6), wB E (bd 7) (σ 7), wB E (bd 8) (σ 8), wB E (bd 9) (σ 9)] (some (.int (fT_chainOf β t))) [wX ax (bo 0) (tr 0) (ac 0) (ah 0) (at_ 0), wB E bo β, wB E tr τ, wC E ac γ, wH E ah bd η, wT E at_ θ, wB E (bd 2) (σ 2), wB E (bd 3) (σ 3), wB E (bd 4) (σ 4), wB E (bd 5) (σ 5), wB E (bd 6) (σ 6), wB E (bd 7) (σ 7), wB E (bd 8) (σ 8), wB E (bd 9) (σ 9)] := by
  have hv1 : cnt β ≤ 20 := hv.1
  refine mc_of (by decide +kernel) (Nat.le_of_ble_eq_true rfl) (lv := [(0, .ref ax), (1, .int (nI t))]) rfl (fun X C hE => ?_)
  refine g_aload_n C dX6_chainOf_0 rfl 0 rfl ?_
  refine g_getf C (T := TX6) (N := 5) 0 0 rfl rfl rfl inX6 0 (by decide) q1_179 rfl dX6_chainOf_1 ?_
  refine g_iload_n C dX6_chainOf_4 rfl 1 rfl ?_
  refine g_callV C (cs1 := [wX ax (bo 0) (tr 0) (ac 0) (ah 0) (at_ 0), wB E bo β, wB E tr τ, wC E ac γ, wH E ah bd η, wT E at_ θ, wB E (bd 2) (σ 2), wB E (bd 3) (σ 3), wB E (bd 4) (σ 4), wB E (bd 5) (σ 5), wB E (bd 6) (σ 6), wB E (bd 7) (σ 7), wB E (bd 8) (σ 8), wB E (bd 9) (σ 9)]) (st1 := [.int (b2i (fX0_hasTicket β (nI t)))]) [.int (nI t)] [1] (kX0_hasTicket l E bo β (nI t)) caX0_hasTicket q2_197 rfl ⟨Nat.le_of_ble_eq_true rfl, Nat.le_of_ble_eq_true rfl⟩ ⟨Nat.zero_le _, Nat.zero_le _⟩ 1 0 rfl rfl rfl rfl (by decide) rfl rfl rfl rfl (Nat.le_of_ble_eq_true rfl) dX6_chainOf_5 rfl ?_
  refine g_callS C (cs1 := [wX ax (bo 0) (tr 0) (ac 0) (ah 0) (at_ 0), wB E bo β, wB E tr τ, wC E ac γ, wH E ah bd η, wT E at_ θ, wB E (bd 2) (σ 2), wB E (bd 3) (σ 3), wB E (bd 4) (σ 4), wB E (bd 5) (σ 5), wB E (bd 6) (σ 6), wB E (bd 7) (σ 7), wB E (bd 8) (σ 8), wB E (bd 9) (σ 9)]) (st1 := []) [.int (b2i (fX0_hasTicket β (nI t)))] [] (kT_requireIndex l E (fX0_hasTicket β (nI t)) hq1) caX6_requireIndex q2_69 rfl ⟨Nat.le_of_ble_eq_true rfl, Nat.le_of_ble_eq_true rfl⟩ ⟨Nat.zero_le _, Nat.zero_le _⟩ (by decide) rfl rfl rfl rfl (Nat.le_of_ble_eq_true rfl) dX6_chainOf_8 rfl ?_
  refine g_aload_n C dX6_chainOf_11 rfl 0 rfl ?_
  refine g_getf C (T := TX6) (N := 5) 0 0 rfl rfl rfl inX6 0 (by decide) q1_179 rfl dX6_chainOf_12 ?_
  refine g_iload_n C dX6_chainOf_15 rfl 1 rfl ?_
  refine g_callS C (cs1 := [wX ax (bo 0) (tr 0) (ac 0) (ah 0) (at_ 0), wB E bo β, wB E tr τ, wC E ac γ, wH E ah bd η, wT E at_ θ, wB E (bd 2) (σ 2), wB E (bd 3) (σ 3), wB E (bd 4) (σ 4), wB E (bd 5) (σ 5), wB E (bd 6) (σ 6), wB E (bd 7) (σ 7), wB E (bd 8) (σ 8), wB E (bd 9) (σ 9)]) (st1 := [.int (fX1_longestFrom β t)]) [.ref (bo 0), .int (nI t)] [1] (kX1_longestFrom l E bo β hv t (by omega)) caX1_longestFrom q3_7 rfl ⟨Nat.le_of_ble_eq_true rfl, Nat.le_of_ble_eq_true rfl⟩ ⟨Nat.zero_le _, Nat.zero_le _⟩ (by decide) rfl rfl rfl rfl (Nat.le_of_ble_eq_true rfl) dX6_chainOf_16 rfl ?_
  have e_1 : fT_chainOf β t = (fX1_longestFrom β t) := by rw [fT_chainOf]
  exact g_iret C hE (by rw [e_1]) rfl dX6_chainOf_19
def fT_ownerOf (β : BS) (t : Nat) : Int32 :=
  β.2 3 t
theorem caX6_ownerOf : gCalV yX6_ownerOf cX6_ownerOf 2 (some .int) 1 := ⟨⟨q2_216, q1_1, by decide +kernel⟩, q2_214, q2_215⟩
set_option maxHeartbeats 4000000 in
set_option maxRecDepth 100000 in
theorem kT_ownerOf (l : Launch) (E : gE) (ax : Nat) (bo : Nat → Nat) (β : BS) (tr : Nat → Nat) (τ : BS) (ac : Nat → Nat) (γ : BS) (ah : Nat → Nat) (bd : Nat → Nat → Nat) (η : BS) (σ : Nat → BS) (at_ : Nat → Nat) (θ : BS) (hv : vB β)  (t : Nat) (ht : t < 20) (ho : ¬ (β.2 3 t) = (-1)) (hq1 : (fX0_hasTicket β (nI t)) = true) : MC l E yX6_ownerOf cX6_ownerOf 2 (some .int) 1 21 [.ref ax, .int (nI t)] [wX ax (bo 0) (tr 0) (ac 0) (ah 0) (at_ 0), wB E bo β, wB E tr τ, wC E ac γ, wH E ah bd η, wT E at_ θ, wB E (bd 2) (σ 2), wB E (bd 3) (σ 3), wB E (bd 4) (σ 4), wB E (bd 5) (σ 5), wB E (bd 6) (σ 6), wB E (bd 7) (σ 7), wB E (bd 8) (σ 8), wB E (bd 9) (σ 9)] (some (.int (fT_ownerOf β t))) [wX ax (bo 0) (tr 0) (ac 0) (ah 0) (at_ 0), wB E bo β, wB E tr τ, wC E ac γ, wH E ah bd η, wT E at_ θ, wB E (bd 2) (σ 2), wB E (bd 3) (σ 3), wB E (bd 4) (σ 4), wB E (bd 5) (σ 5), wB E (bd 6) (σ 6), wB E (bd 7) (σ 7), wB E (bd 8) (σ 8), wB E (bd 9) (σ 9)] := by
  have hv1 : cnt β ≤ 20 := hv.1
  refine mc_of (by decide +kernel) (Nat.le_of_ble_eq_true rfl) (lv := [(0, .ref ax), (1, .int (nI t))]) rfl (fun X C hE => ?_)
  refine g_aload_n C dX6_ownerOf_0 rfl 0 rfl ?_
  refine g_getf C (T := TX6) (N := 5) 0 0 rfl rfl rfl inX6 0 (by decide) q1_179 rfl dX6_ownerOf_1 ?_
  refine g_iload_n C dX6_ownerOf_4 rfl 1 rfl ?_
  refine g_callV C (cs1 := [wX ax (bo 0) (tr 0) (ac 0) (ah 0) (at_ 0), wB E bo β, wB E tr τ, wC E ac γ, wH E ah bd η, wT E at_ θ, wB E (bd 2) (σ 2), wB E (bd 3) (σ 3), wB E (bd 4) (σ 4), wB E (bd 5) (σ 5), wB E (bd 6) (σ 6), wB E (bd 7) (σ 7), wB E (bd 8) (σ 8), wB E (bd 9) (σ 9)]) (st1 := [.int (b2i (fX0_hasTicket β (nI t)))]) [.int (nI t)] [1] (kX0_hasTicket l E bo β (nI t)) caX0_hasTicket q2_197 rfl ⟨Nat.le_of_ble_eq_true rfl, Nat.le_of_ble_eq_true rfl⟩ ⟨Nat.zero_le _, Nat.zero_le _⟩ 1 0 rfl rfl rfl rfl (by decide) rfl rfl rfl rfl (Nat.le_of_ble_eq_true rfl) dX6_ownerOf_5 rfl ?_
  refine g_callS C (cs1 := [wX ax (bo 0) (tr 0) (ac 0) (ah 0) (at_ 0), wB E bo β, wB E tr τ, wC E ac γ, wH E ah bd η, wT E at_ θ, wB E (bd 2) (σ 2), wB E (bd 3) (σ 3), wB E (bd 4) (σ 4), wB E (bd 5) (σ 5), wB E (bd 6) (σ 6), wB E (bd 7) (σ 7), wB E (bd 8) (σ 8), wB E (bd 9) (σ 9)]) (st1 := []) [.int (b2i (fX0_hasTicket β (nI t)))] [] (kT_requireIndex l E (fX0_hasTicket β (nI t)) hq1) caX6_requireIndex q2_69 rfl ⟨Nat.le_of_ble_eq_true rfl, Nat.le_of_ble_eq_true rfl⟩ ⟨Nat.zero_le _, Nat.zero_le _⟩ (by decide) rfl rfl rfl rfl (Nat.le_of_ble_eq_true rfl) dX6_ownerOf_8 rfl ?_
  refine g_aload_n C dX6_ownerOf_11 rfl 0 rfl ?_
  refine g_getf C (T := TX6) (N := 5) 0 0 rfl rfl rfl inX6 0 (by decide) q1_179 rfl dX6_ownerOf_12 ?_
  refine g_getf C (T := TX0) (N := 17) 1 0 rfl rfl rfl inX0 7 (by decide) q1_51 rfl dX6_ownerOf_15 ?_
  refine g_iload_n C dX6_ownerOf_18 rfl 1 rfl ?_
  refine g_ialdn C 1 4 t rfl rfl rfl (by omega) (by decide) dX6_ownerOf_19 ?_
  refine g_iconst C (v := -1) dX6_ownerOf_20 (by decide) ?_
  refine g_icmp_eq C 28 dX6_ownerOf_21 (by decide) (fun c_1 => ?_) (fun c_1 => ?_)
  · exact absurd c_1 ho
  · skip
    refine g_iconst C (v := 1) dX6_ownerOf_24 (by decide) ?_
    refine g_goto C 29 dX6_ownerOf_25 (by decide) ?_
    refine g_callS C (cs1 := [wX ax (bo 0) (tr 0) (ac 0) (ah 0) (at_ 0), wB E bo β, wB E tr τ, wC E ac γ, wH E ah bd η, wT E at_ θ, wB E (bd 2) (σ 2), wB E (bd 3) (σ 3), wB E (bd 4) (σ 4), wB E (bd 5) (σ 5), wB E (bd 6) (σ 6), wB E (bd 7) (σ 7), wB E (bd 8) (σ 8), wB E (bd 9) (σ 9)]) (st1 := []) [.int (b2i true)] [] (kT_requireState l E true rfl) caX6_requireState q1_203 rfl ⟨Nat.le_of_ble_eq_true rfl, Nat.le_of_ble_eq_true rfl⟩ ⟨Nat.zero_le _, Nat.zero_le _⟩ (by decide) rfl rfl rfl rfl (Nat.le_of_ble_eq_true rfl) dX6_ownerOf_29 rfl ?_
    refine g_aload_n C dX6_ownerOf_32 rfl 0 rfl ?_
    refine g_getf C (T := TX6) (N := 5) 0 0 rfl rfl rfl inX6 0 (by decide) q1_179 rfl dX6_ownerOf_33 ?_
    refine g_getf C (T := TX0) (N := 17) 1 0 rfl rfl rfl inX0 7 (by decide) q1_51 rfl dX6_ownerOf_36 ?_
    refine g_iload_n C dX6_ownerOf_39 rfl 1 rfl ?_
    refine g_ialdn C 1 4 t rfl rfl rfl (by omega) (by decide) dX6_ownerOf_40 ?_
    have e_2 : fT_ownerOf β t = β.2 3 t := by rw [fT_ownerOf]
    exact g_iret C hE (by rw [e_2]) rfl dX6_ownerOf_41
def fT_milestoneOf (β : BS) (t : Nat) : Int32 :=
  β.2 4 t
theorem caX6_milestoneOf : gCalV yX6_milestoneOf cX6_milestoneOf 2 (some .int) 1 := ⟨⟨q2_224, q1_1, by decide +kernel⟩, q2_222, q2_223⟩
set_option maxHeartbeats 4000000 in
set_option maxRecDepth 100000 in
theorem kT_milestoneOf (l : Launch) (E : gE) (ax : Nat) (bo : Nat → Nat) (β : BS) (tr : Nat → Nat) (τ : BS) (ac : Nat → Nat) (γ : BS) (ah : Nat → Nat) (bd : Nat → Nat → Nat) (η : BS) (σ : Nat → BS) (at_ : Nat → Nat) (θ : BS) (hv : vB β)  (t : Nat) (ht : t < 20) (ho : ¬ (β.2 4 t) = (-1)) (hq1 : (fX0_hasTicket β (nI t)) = true) : MC l E yX6_milestoneOf cX6_milestoneOf 2 (some .int) 1 21 [.ref ax, .int (nI t)] [wX ax (bo 0) (tr 0) (ac 0) (ah 0) (at_ 0), wB E bo β, wB E tr τ, wC E ac γ, wH E ah bd η, wT E at_ θ, wB E (bd 2) (σ 2), wB E (bd 3) (σ 3), wB E (bd 4) (σ 4), wB E (bd 5) (σ 5), wB E (bd 6) (σ 6), wB E (bd 7) (σ 7), wB E (bd 8) (σ 8), wB E (bd 9) (σ 9)] (some (.int (fT_milestoneOf β t))) [wX ax (bo 0) (tr 0) (ac 0) (ah 0) (at_ 0), wB E bo β, wB E tr τ, wC E ac γ, wH E ah bd η, wT E at_ θ, wB E (bd 2) (σ 2), wB E (bd 3) (σ 3), wB E (bd 4) (σ 4), wB E (bd 5) (σ 5), wB E (bd 6) (σ 6), wB E (bd 7) (σ 7), wB E (bd 8) (σ 8), wB E (bd 9) (σ 9)] := by
  have hv1 : cnt β ≤ 20 := hv.1
  refine mc_of (by decide +kernel) (Nat.le_of_ble_eq_true rfl) (lv := [(0, .ref ax), (1, .int (nI t))]) rfl (fun X C hE => ?_)
  refine g_aload_n C dX6_milestoneOf_0 rfl 0 rfl ?_
  refine g_getf C (T := TX6) (N := 5) 0 0 rfl rfl rfl inX6 0 (by decide) q1_179 rfl dX6_milestoneOf_1 ?_
  refine g_iload_n C dX6_milestoneOf_4 rfl 1 rfl ?_
  refine g_callV C (cs1 := [wX ax (bo 0) (tr 0) (ac 0) (ah 0) (at_ 0), wB E bo β, wB E tr τ, wC E ac γ, wH E ah bd η, wT E at_ θ, wB E (bd 2) (σ 2), wB E (bd 3) (σ 3), wB E (bd 4) (σ 4), wB E (bd 5) (σ 5), wB E (bd 6) (σ 6), wB E (bd 7) (σ 7), wB E (bd 8) (σ 8), wB E (bd 9) (σ 9)]) (st1 := [.int (b2i (fX0_hasTicket β (nI t)))]) [.int (nI t)] [1] (kX0_hasTicket l E bo β (nI t)) caX0_hasTicket q2_197 rfl ⟨Nat.le_of_ble_eq_true rfl, Nat.le_of_ble_eq_true rfl⟩ ⟨Nat.zero_le _, Nat.zero_le _⟩ 1 0 rfl rfl rfl rfl (by decide) rfl rfl rfl rfl (Nat.le_of_ble_eq_true rfl) dX6_milestoneOf_5 rfl ?_
  refine g_callS C (cs1 := [wX ax (bo 0) (tr 0) (ac 0) (ah 0) (at_ 0), wB E bo β, wB E tr τ, wC E ac γ, wH E ah bd η, wT E at_ θ, wB E (bd 2) (σ 2), wB E (bd 3) (σ 3), wB E (bd 4) (σ 4), wB E (bd 5) (σ 5), wB E (bd 6) (σ 6), wB E (bd 7) (σ 7), wB E (bd 8) (σ 8), wB E (bd 9) (σ 9)]) (st1 := []) [.int (b2i (fX0_hasTicket β (nI t)))] [] (kT_requireIndex l E (fX0_hasTicket β (nI t)) hq1) caX6_requireIndex q2_69 rfl ⟨Nat.le_of_ble_eq_true rfl, Nat.le_of_ble_eq_true rfl⟩ ⟨Nat.zero_le _, Nat.zero_le _⟩ (by decide) rfl rfl rfl rfl (Nat.le_of_ble_eq_true rfl) dX6_milestoneOf_8 rfl ?_
  refine g_aload_n C dX6_milestoneOf_11 rfl 0 rfl ?_
  refine g_getf C (T := TX6) (N := 5) 0 0 rfl rfl rfl inX6 0 (by decide) q1_179 rfl dX6_milestoneOf_12 ?_
  refine g_getf C (T := TX0) (N := 17) 1 0 rfl rfl rfl inX0 8 (by decide) q1_53 rfl dX6_milestoneOf_15 ?_
  refine g_iload_n C dX6_milestoneOf_18 rfl 1 rfl ?_
  refine g_ialdn C 1 5 t rfl rfl rfl (by omega) (by decide) dX6_milestoneOf_19 ?_
  refine g_iconst C (v := -1) dX6_milestoneOf_20 (by decide) ?_
  refine g_icmp_eq C 28 dX6_milestoneOf_21 (by decide) (fun c_1 => ?_) (fun c_1 => ?_)
  · exact absurd c_1 ho
  · skip
    refine g_iconst C (v := 1) dX6_milestoneOf_24 (by decide) ?_
    refine g_goto C 29 dX6_milestoneOf_25 (by decide) ?_
    refine g_callS C (cs1 := [wX ax (bo 0) (tr 0) (ac 0) (ah 0) (at_ 0), wB E bo β, wB E tr τ, wC E ac γ, wH E ah bd η, wT E at_ θ, wB E (bd 2) (σ 2), wB E (bd 3) (σ 3), wB E (bd 4) (σ 4), wB E (bd 5) (σ 5), wB E (bd 6) (σ 6), wB E (bd 7) (σ 7), wB E (bd 8) (σ 8), wB E (bd 9) (σ 9)]) (st1 := []) [.int (b2i true)] [] (kT_requireState l E true rfl) caX6_requireState q1_203 rfl ⟨Nat.le_of_ble_eq_true rfl, Nat.le_of_ble_eq_true rfl⟩ ⟨Nat.zero_le _, Nat.zero_le _⟩ (by decide) rfl rfl rfl rfl (Nat.le_of_ble_eq_true rfl) dX6_milestoneOf_29 rfl ?_
    refine g_aload_n C dX6_milestoneOf_32 rfl 0 rfl ?_
    refine g_getf C (T := TX6) (N := 5) 0 0 rfl rfl rfl inX6 0 (by decide) q1_179 rfl dX6_milestoneOf_33 ?_
    refine g_getf C (T := TX0) (N := 17) 1 0 rfl rfl rfl inX0 8 (by decide) q1_53 rfl dX6_milestoneOf_36 ?_
    refine g_iload_n C dX6_milestoneOf_39 rfl 1 rfl ?_
    refine g_ialdn C 1 5 t rfl rfl rfl (by omega) (by decide) dX6_milestoneOf_40 ?_
    have e_2 : fT_milestoneOf β t = β.2 4 t := by rw [fT_milestoneOf]
    exact g_iret C hE (by rw [e_2]) rfl dX6_milestoneOf_41
def fT_needs (β : BS) (t : Nat) (u : Nat) : Bool :=
  (fX0_needsDirectly β t (nI u))
theorem caX6_needs : gCalV yX6_needs cX6_needs 3 (some .boolean) 2 := ⟨⟨q3_68, q1_1, by decide +kernel⟩, q3_66, q3_67⟩
set_option maxHeartbeats 4000000 in
set_option maxRecDepth 100000 in
theorem kT_needs (l : Launch) (E : gE) (ax : Nat) (bo : Nat → Nat) (β : BS) (tr : Nat → Nat) (τ : BS) (ac : Nat → Nat) (γ : BS) (ah : Nat → Nat) (bd : Nat → Nat → Nat) (η : BS) (σ : Nat → BS) (at_ : Nat → Nat) (θ : BS) (hv : vB β)  (t : Nat) (ht : t < 20) (u : Nat) (hu : u < 20) (h1 : (fX0_hasTicket β (nI t)) = true) (h2 : (fX0_hasTicket β (nI u)) = true) : MC l E yX6_needs cX6_needs 3 (some .boolean) 2 43 [.ref ax, .int (nI t), .int (nI u)] [wX ax (bo 0) (tr 0) (ac 0) (ah 0) (at_ 0), wB E bo β, wB E tr τ, wC E ac γ, wH E ah bd η, wT E at_ θ, wB E (bd 2) (σ 2), wB E (bd 3) (σ 3), wB E (bd 4) (σ 4), wB E (bd 5) (σ 5), wB E (bd 6) (σ 6), wB E (bd 7) (σ 7), wB E (bd 8) (σ 8), wB E (bd 9) (σ 9)] (some (.int (b2i (fT_needs β t u)))) [wX ax (bo 0) (tr 0) (ac 0) (ah 0) (at_ 0), wB E bo β, wB E tr τ, wC E ac γ, wH E ah bd η, wT E at_ θ, wB E (bd 2) (σ 2), wB E (bd 3) (σ 3), wB E (bd 4) (σ 4), wB E (bd 5) (σ 5), wB E (bd 6) (σ 6), wB E (bd 7) (σ 7), wB E (bd 8) (σ 8), wB E (bd 9) (σ 9)] := by
  have hv1 : cnt β ≤ 20 := hv.1
  refine mc_of (by decide +kernel) (Nat.le_of_ble_eq_true rfl) (lv := [(0, .ref ax), (1, .int (nI t)), (2, .int (nI u))]) rfl (fun X C hE => ?_)
  refine g_aload_n C dX6_needs_0 rfl 0 rfl ?_
  refine g_getf C (T := TX6) (N := 5) 0 0 rfl rfl rfl inX6 0 (by decide) q1_179 rfl dX6_needs_1 ?_
  refine g_iload_n C dX6_needs_4 rfl 1 rfl ?_
  refine g_callV C (cs1 := [wX ax (bo 0) (tr 0) (ac 0) (ah 0) (at_ 0), wB E bo β, wB E tr τ, wC E ac γ, wH E ah bd η, wT E at_ θ, wB E (bd 2) (σ 2), wB E (bd 3) (σ 3), wB E (bd 4) (σ 4), wB E (bd 5) (σ 5), wB E (bd 6) (σ 6), wB E (bd 7) (σ 7), wB E (bd 8) (σ 8), wB E (bd 9) (σ 9)]) (st1 := [.int (b2i (fX0_hasTicket β (nI t)))]) [.int (nI t)] [1] (kX0_hasTicket l E bo β (nI t)) caX0_hasTicket q2_197 rfl ⟨Nat.le_of_ble_eq_true rfl, Nat.le_of_ble_eq_true rfl⟩ ⟨Nat.zero_le _, Nat.zero_le _⟩ 1 0 rfl rfl rfl rfl (by decide) rfl rfl rfl rfl (Nat.le_of_ble_eq_true rfl) dX6_needs_5 rfl ?_
  refine g_ifB_eq C 26 dX6_needs_8 (by decide) (fun c_1 => ?_) (fun c_1 => ?_)
  · exact absurd (h1.symm.trans c_1) (by decide)
  · skip
    refine g_aload_n C dX6_needs_11 rfl 0 rfl ?_
    refine g_getf C (T := TX6) (N := 5) 0 0 rfl rfl rfl inX6 0 (by decide) q1_179 rfl dX6_needs_12 ?_
    refine g_iload_n C dX6_needs_15 rfl 2 rfl ?_
    refine g_callV C (cs1 := [wX ax (bo 0) (tr 0) (ac 0) (ah 0) (at_ 0), wB E bo β, wB E tr τ, wC E ac γ, wH E ah bd η, wT E at_ θ, wB E (bd 2) (σ 2), wB E (bd 3) (σ 3), wB E (bd 4) (σ 4), wB E (bd 5) (σ 5), wB E (bd 6) (σ 6), wB E (bd 7) (σ 7), wB E (bd 8) (σ 8), wB E (bd 9) (σ 9)]) (st1 := [.int (b2i (fX0_hasTicket β (nI u)))]) [.int (nI u)] [1] (kX0_hasTicket l E bo β (nI u)) caX0_hasTicket q2_197 rfl ⟨Nat.le_of_ble_eq_true rfl, Nat.le_of_ble_eq_true rfl⟩ ⟨Nat.zero_le _, Nat.zero_le _⟩ 1 0 rfl rfl rfl rfl (by decide) rfl rfl rfl rfl (Nat.le_of_ble_eq_true rfl) dX6_needs_16 rfl ?_
    refine g_ifB_eq C 26 dX6_needs_19 (by decide) (fun c_2 => ?_) (fun c_2 => ?_)
    · exact absurd (h2.symm.trans c_2) (by decide)
    · skip
      refine g_iconst C (v := 1) dX6_needs_22 (by decide) ?_
      refine g_goto C 27 dX6_needs_23 (by decide) ?_
      refine g_callS C (cs1 := [wX ax (bo 0) (tr 0) (ac 0) (ah 0) (at_ 0), wB E bo β, wB E tr τ, wC E ac γ, wH E ah bd η, wT E at_ θ, wB E (bd 2) (σ 2), wB E (bd 3) (σ 3), wB E (bd 4) (σ 4), wB E (bd 5) (σ 5), wB E (bd 6) (σ 6), wB E (bd 7) (σ 7), wB E (bd 8) (σ 8), wB E (bd 9) (σ 9)]) (st1 := []) [.int (b2i true)] [] (kT_requireIndex l E true rfl) caX6_requireIndex q2_69 rfl ⟨Nat.le_of_ble_eq_true rfl, Nat.le_of_ble_eq_true rfl⟩ ⟨Nat.zero_le _, Nat.zero_le _⟩ (by decide) rfl rfl rfl rfl (Nat.le_of_ble_eq_true rfl) dX6_needs_27 rfl ?_
      refine g_aload_n C dX6_needs_30 rfl 0 rfl ?_
      refine g_getf C (T := TX6) (N := 5) 0 0 rfl rfl rfl inX6 0 (by decide) q1_179 rfl dX6_needs_31 ?_
      refine g_iload_n C dX6_needs_34 rfl 1 rfl ?_
      refine g_iload_n C dX6_needs_35 rfl 2 rfl ?_
      refine g_callV C (cs1 := [wX ax (bo 0) (tr 0) (ac 0) (ah 0) (at_ 0), wB E bo β, wB E tr τ, wC E ac γ, wH E ah bd η, wT E at_ θ, wB E (bd 2) (σ 2), wB E (bd 3) (σ 3), wB E (bd 4) (σ 4), wB E (bd 5) (σ 5), wB E (bd 6) (σ 6), wB E (bd 7) (σ 7), wB E (bd 8) (σ 8), wB E (bd 9) (σ 9)]) (st1 := [.int (b2i (fX0_needsDirectly β t (nI u)))]) [.int (nI t), .int (nI u)] [1] (kX0_needsDirectly l E bo β t (by omega) (nI u)) caX0_needsDirectly q3_69 rfl ⟨Nat.le_of_ble_eq_true rfl, Nat.le_of_ble_eq_true rfl⟩ ⟨Nat.zero_le _, Nat.zero_le _⟩ 1 0 rfl rfl rfl rfl (by decide) rfl rfl rfl rfl (Nat.le_of_ble_eq_true rfl) dX6_needs_36 rfl ?_
      have e_3 : fT_needs β t u = (fX0_needsDirectly β t (nI u)) := by rw [fT_needs]
      exact g_zret (b := (fX0_needsDirectly β t (nI u))) C hE (by rw [e_3]) rfl rfl dX6_needs_39
def fT_allNeedsByTable (β : BS) (γ : BS) (t : Nat) : Int32 × BS :=
  ((fX1_countByTable γ β t).1, (fX1_countByTable γ β t).2)
theorem caX6_allNeedsByTable : gCalV yX6_allNeedsByTable cX6_allNeedsByTable 2 (some .int) 1 := ⟨⟨q3_227, q1_1, by decide +kernel⟩, q3_225, q3_226⟩
set_option maxHeartbeats 4000000 in
set_option maxRecDepth 100000 in
theorem kT_allNeedsByTable (l : Launch) (E : gE) (ax : Nat) (bo : Nat → Nat) (β : BS) (tr : Nat → Nat) (τ : BS) (ac : Nat → Nat) (γ : BS) (ah : Nat → Nat) (bd : Nat → Nat → Nat) (η : BS) (σ : Nat → BS) (at_ : Nat → Nat) (θ : BS) (hv : vB β)  (t : Nat) (ht : t < 20) (hq1 : (fX0_hasTicket β (nI t)) = true) : MC l E yX6_allNeedsByTable cX6_allNeedsByTable 2 (some .int) 2 46 [.ref ax, .int (nI t)] [wX ax (bo 0) (tr 0) (ac 0) (ah 0) (at_ 0), wB E bo β, wB E tr τ, wC E ac γ, wH E ah bd η, wT E at_ θ, wB E (bd 2) (σ 2), wB E (bd 3) (σ 3), wB E (bd 4) (σ 4), wB E (bd 5) (σ 5), wB E (bd 6) (σ 6), wB E (bd 7) (σ 7), wB E (bd 8) (σ 8), wB E (bd 9) (σ 9)] (some (.int (fT_allNeedsByTable β γ t).1)) [wX ax (bo 0) (tr 0) (ac 0) (ah 0) (at_ 0), wB E bo β, wB E tr τ, wC E ac ((fT_allNeedsByTable β γ t).2), wH E ah bd η, wT E at_ θ, wB E (bd 2) (σ 2), wB E (bd 3) (σ 3), wB E (bd 4) (σ 4), wB E (bd 5) (σ 5), wB E (bd 6) (σ 6), wB E (bd 7) (σ 7), wB E (bd 8) (σ 8), wB E (bd 9) (σ 9)] := by
  have hv1 : cnt β ≤ 20 := hv.1
  refine mc_of (by decide +kernel) (Nat.le_of_ble_eq_true rfl) (lv := [(0, .ref ax), (1, .int (nI t))]) rfl (fun X C hE => ?_)
  refine g_aload_n C dX6_allNeedsByTable_0 rfl 0 rfl ?_
  refine g_getf C (T := TX6) (N := 5) 0 0 rfl rfl rfl inX6 0 (by decide) q1_179 rfl dX6_allNeedsByTable_1 ?_
  refine g_iload_n C dX6_allNeedsByTable_4 rfl 1 rfl ?_
  refine g_callV C (cs1 := [wX ax (bo 0) (tr 0) (ac 0) (ah 0) (at_ 0), wB E bo β, wB E tr τ, wC E ac γ, wH E ah bd η, wT E at_ θ, wB E (bd 2) (σ 2), wB E (bd 3) (σ 3), wB E (bd 4) (σ 4), wB E (bd 5) (σ 5), wB E (bd 6) (σ 6), wB E (bd 7) (σ 7), wB E (bd 8) (σ 8), wB E (bd 9) (σ 9)]) (st1 := [.int (b2i (fX0_hasTicket β (nI t)))]) [.int (nI t)] [1] (kX0_hasTicket l E bo β (nI t)) caX0_hasTicket q2_197 rfl ⟨Nat.le_of_ble_eq_true rfl, Nat.le_of_ble_eq_true rfl⟩ ⟨Nat.zero_le _, Nat.zero_le _⟩ 1 0 rfl rfl rfl rfl (by decide) rfl rfl rfl rfl (Nat.le_of_ble_eq_true rfl) dX6_allNeedsByTable_5 rfl ?_
  refine g_callS C (cs1 := [wX ax (bo 0) (tr 0) (ac 0) (ah 0) (at_ 0), wB E bo β, wB E tr τ, wC E ac γ, wH E ah bd η, wT E at_ θ, wB E (bd 2) (σ 2), wB E (bd 3) (σ 3), wB E (bd 4) (σ 4), wB E (bd 5) (σ 5), wB E (bd 6) (σ 6), wB E (bd 7) (σ 7), wB E (bd 8) (σ 8), wB E (bd 9) (σ 9)]) (st1 := []) [.int (b2i (fX0_hasTicket β (nI t)))] [] (kT_requireIndex l E (fX0_hasTicket β (nI t)) hq1) caX6_requireIndex q2_69 rfl ⟨Nat.le_of_ble_eq_true rfl, Nat.le_of_ble_eq_true rfl⟩ ⟨Nat.zero_le _, Nat.zero_le _⟩ (by decide) rfl rfl rfl rfl (Nat.le_of_ble_eq_true rfl) dX6_allNeedsByTable_8 rfl ?_
  refine g_aload_n C dX6_allNeedsByTable_11 rfl 0 rfl ?_
  refine g_getf C (T := TX6) (N := 5) 0 0 rfl rfl rfl inX6 2 (by decide) q1_181 rfl dX6_allNeedsByTable_12 ?_
  refine g_aload_n C dX6_allNeedsByTable_15 rfl 0 rfl ?_
  refine g_getf C (T := TX6) (N := 5) 0 0 rfl rfl rfl inX6 0 (by decide) q1_179 rfl dX6_allNeedsByTable_16 ?_
  refine g_iload_n C dX6_allNeedsByTable_19 rfl 1 rfl ?_
  refine g_callV C (cs1 := [wX ax (bo 0) (tr 0) (ac 0) (ah 0) (at_ 0), wB E bo β, wB E tr τ, wC E ac ((fX1_countByTable γ β t).2), wH E ah bd η, wT E at_ θ, wB E (bd 2) (σ 2), wB E (bd 3) (σ 3), wB E (bd 4) (σ 4), wB E (bd 5) (σ 5), wB E (bd 6) (σ 6), wB E (bd 7) (σ 7), wB E (bd 8) (σ 8), wB E (bd 9) (σ 9)]) (st1 := [.int ((fX1_countByTable γ β t).1)]) [.ref (bo 0), .int (nI t)] [3, 1] (kX1_countByTable l E ac γ bo β hv t (by omega)) caX1_countByTable q3_228 rfl ⟨Nat.le_of_ble_eq_true rfl, Nat.le_of_ble_eq_true rfl⟩ ⟨Nat.zero_le _, Nat.zero_le _⟩ 3 0 rfl rfl rfl rfl (by decide) rfl rfl rfl rfl (Nat.le_of_ble_eq_true rfl) dX6_allNeedsByTable_20 rfl ?_
  have e_1 : fT_allNeedsByTable β γ t = ((fX1_countByTable γ β t).1, (fX1_countByTable γ β t).2) := by rw [fT_allNeedsByTable]
  exact g_iret C hE (by rw [e_1]) (by rw [e_1]) dX6_allNeedsByTable_23
def fT_capacityOf (β : BS) (o : Nat) : Int32 :=
  β.2 10 o
theorem caX6_capacityOf : gCalV yX6_capacityOf cX6_capacityOf 2 (some .int) 1 := ⟨⟨q2_62, q1_1, by decide +kernel⟩, q2_60, q2_61⟩
set_option maxHeartbeats 4000000 in
set_option maxRecDepth 100000 in
theorem kT_capacityOf (l : Launch) (E : gE) (ax : Nat) (bo : Nat → Nat) (β : BS) (tr : Nat → Nat) (τ : BS) (ac : Nat → Nat) (γ : BS) (ah : Nat → Nat) (bd : Nat → Nat → Nat) (η : BS) (σ : Nat → BS) (at_ : Nat → Nat) (θ : BS) (hv : vB β)  (o : Nat) (ho : o < 5) (hq1 : (fX6_isOwner (nI o)) = true) : MC l E yX6_capacityOf cX6_capacityOf 2 (some .int) 2 42 [.ref ax, .int (nI o)] [wX ax (bo 0) (tr 0) (ac 0) (ah 0) (at_ 0), wB E bo β, wB E tr τ, wC E ac γ, wH E ah bd η, wT E at_ θ, wB E (bd 2) (σ 2), wB E (bd 3) (σ 3), wB E (bd 4) (σ 4), wB E (bd 5) (σ 5), wB E (bd 6) (σ 6), wB E (bd 7) (σ 7), wB E (bd 8) (σ 8), wB E (bd 9) (σ 9)] (some (.int (fT_capacityOf β o))) [wX ax (bo 0) (tr 0) (ac 0) (ah 0) (at_ 0), wB E bo β, wB E tr τ, wC E ac γ, wH E ah bd η, wT E at_ θ, wB E (bd 2) (σ 2), wB E (bd 3) (σ 3), wB E (bd 4) (σ 4), wB E (bd 5) (σ 5), wB E (bd 6) (σ 6), wB E (bd 7) (σ 7), wB E (bd 8) (σ 8), wB E (bd 9) (σ 9)] := by
  have hv1 : cnt β ≤ 20 := hv.1
  refine mc_of (by decide +kernel) (Nat.le_of_ble_eq_true rfl) (lv := [(0, .ref ax), (1, .int (nI o))]) rfl (fun X C hE => ?_)
  refine g_iload_n C dX6_capacityOf_0 rfl 1 rfl ?_
  refine g_callS C (cs1 := [wX ax (bo 0) (tr 0) (ac 0) (ah 0) (at_ 0), wB E bo β, wB E tr τ, wC E ac γ, wH E ah bd η, wT E at_ θ, wB E (bd 2) (σ 2), wB E (bd 3) (σ 3), wB E (bd 4) (σ 4), wB E (bd 5) (σ 5), wB E (bd 6) (σ 6), wB E (bd 7) (σ 7), wB E (bd 8) (σ 8), wB E (bd 9) (σ 9)]) (st1 := [.int (b2i (fX6_isOwner (nI o)))]) [.int (nI o)] [] (kX6_isOwner l E (nI o)) caX6_isOwner q2_63 rfl ⟨Nat.le_of_ble_eq_true rfl, Nat.le_of_ble_eq_true rfl⟩ ⟨Nat.zero_le _, Nat.zero_le _⟩ (by decide) rfl rfl rfl rfl (Nat.le_of_ble_eq_true rfl) dX6_capacityOf_1 rfl ?_
  refine g_callS C (cs1 := [wX ax (bo 0) (tr 0) (ac 0) (ah 0) (at_ 0), wB E bo β, wB E tr τ, wC E ac γ, wH E ah bd η, wT E at_ θ, wB E (bd 2) (σ 2), wB E (bd 3) (σ 3), wB E (bd 4) (σ 4), wB E (bd 5) (σ 5), wB E (bd 6) (σ 6), wB E (bd 7) (σ 7), wB E (bd 8) (σ 8), wB E (bd 9) (σ 9)]) (st1 := []) [.int (b2i (fX6_isOwner (nI o)))] [] (kT_requireIndex l E (fX6_isOwner (nI o)) hq1) caX6_requireIndex q2_69 rfl ⟨Nat.le_of_ble_eq_true rfl, Nat.le_of_ble_eq_true rfl⟩ ⟨Nat.zero_le _, Nat.zero_le _⟩ (by decide) rfl rfl rfl rfl (Nat.le_of_ble_eq_true rfl) dX6_capacityOf_4 rfl ?_
  refine g_aload_n C dX6_capacityOf_7 rfl 0 rfl ?_
  refine g_getf C (T := TX6) (N := 5) 0 0 rfl rfl rfl inX6 0 (by decide) q1_179 rfl dX6_capacityOf_8 ?_
  refine g_getf C (T := TX0) (N := 17) 1 0 rfl rfl rfl inX0 14 (by decide) q1_66 rfl dX6_capacityOf_11 ?_
  refine g_iload_n C dX6_capacityOf_14 rfl 1 rfl ?_
  refine g_ialdn C 1 11 o rfl rfl rfl (by omega) (by decide) dX6_capacityOf_15 ?_
  have e_1 : fT_capacityOf β o = β.2 10 o := by rw [fT_capacityOf]
  exact g_iret C hE (by rw [e_1]) rfl dX6_capacityOf_16
def fT_loadByTickets (β : BS) (o : Nat) : Int32 :=
  (fX5_loadOf β (nI o))
theorem caX6_loadByTickets : gCalV yX6_loadByTickets cX6_loadByTickets 2 (some .int) 1 := ⟨⟨q3_95, q1_1, by decide +kernel⟩, q3_93, q3_94⟩
set_option maxHeartbeats 4000000 in
set_option maxRecDepth 100000 in
theorem kT_loadByTickets (l : Launch) (E : gE) (ax : Nat) (bo : Nat → Nat) (β : BS) (tr : Nat → Nat) (τ : BS) (ac : Nat → Nat) (γ : BS) (ah : Nat → Nat) (bd : Nat → Nat → Nat) (η : BS) (σ : Nat → BS) (at_ : Nat → Nat) (θ : BS) (hv : vB β)  (o : Nat) (ho : o < 5) (hq1 : (fX6_isOwner (nI o)) = true) : MC l E yX6_loadByTickets cX6_loadByTickets 2 (some .int) 4 86 [.ref ax, .int (nI o)] [wX ax (bo 0) (tr 0) (ac 0) (ah 0) (at_ 0), wB E bo β, wB E tr τ, wC E ac γ, wH E ah bd η, wT E at_ θ, wB E (bd 2) (σ 2), wB E (bd 3) (σ 3), wB E (bd 4) (σ 4), wB E (bd 5) (σ 5), wB E (bd 6) (σ 6), wB E (bd 7) (σ 7), wB E (bd 8) (σ 8), wB E (bd 9) (σ 9)] (some (.int (fT_loadByTickets β o))) [wX ax (bo 0) (tr 0) (ac 0) (ah 0) (at_ 0), wB E bo β, wB E tr τ, wC E ac γ, wH E ah bd η, wT E at_ θ, wB E (bd 2) (σ 2), wB E (bd 3) (σ 3), wB E (bd 4) (σ 4), wB E (bd 5) (σ 5), wB E (bd 6) (σ 6), wB E (bd 7) (σ 7), wB E (bd 8) (σ 8), wB E (bd 9) (σ 9)] := by
  have hv1 : cnt β ≤ 20 := hv.1
  refine mc_of (by decide +kernel) (Nat.le_of_ble_eq_true rfl) (lv := [(0, .ref ax), (1, .int (nI o))]) rfl (fun X C hE => ?_)
  refine g_iload_n C dX6_loadByTickets_0 rfl 1 rfl ?_
  refine g_callS C (cs1 := [wX ax (bo 0) (tr 0) (ac 0) (ah 0) (at_ 0), wB E bo β, wB E tr τ, wC E ac γ, wH E ah bd η, wT E at_ θ, wB E (bd 2) (σ 2), wB E (bd 3) (σ 3), wB E (bd 4) (σ 4), wB E (bd 5) (σ 5), wB E (bd 6) (σ 6), wB E (bd 7) (σ 7), wB E (bd 8) (σ 8), wB E (bd 9) (σ 9)]) (st1 := [.int (b2i (fX6_isOwner (nI o)))]) [.int (nI o)] [] (kX6_isOwner l E (nI o)) caX6_isOwner q2_63 rfl ⟨Nat.le_of_ble_eq_true rfl, Nat.le_of_ble_eq_true rfl⟩ ⟨Nat.zero_le _, Nat.zero_le _⟩ (by decide) rfl rfl rfl rfl (Nat.le_of_ble_eq_true rfl) dX6_loadByTickets_1 rfl ?_
  refine g_callS C (cs1 := [wX ax (bo 0) (tr 0) (ac 0) (ah 0) (at_ 0), wB E bo β, wB E tr τ, wC E ac γ, wH E ah bd η, wT E at_ θ, wB E (bd 2) (σ 2), wB E (bd 3) (σ 3), wB E (bd 4) (σ 4), wB E (bd 5) (σ 5), wB E (bd 6) (σ 6), wB E (bd 7) (σ 7), wB E (bd 8) (σ 8), wB E (bd 9) (σ 9)]) (st1 := []) [.int (b2i (fX6_isOwner (nI o)))] [] (kT_requireIndex l E (fX6_isOwner (nI o)) hq1) caX6_requireIndex q2_69 rfl ⟨Nat.le_of_ble_eq_true rfl, Nat.le_of_ble_eq_true rfl⟩ ⟨Nat.zero_le _, Nat.zero_le _⟩ (by decide) rfl rfl rfl rfl (Nat.le_of_ble_eq_true rfl) dX6_loadByTickets_4 rfl ?_
  refine g_aload_n C dX6_loadByTickets_7 rfl 0 rfl ?_
  refine g_getf C (T := TX6) (N := 5) 0 0 rfl rfl rfl inX6 0 (by decide) q1_179 rfl dX6_loadByTickets_8 ?_
  refine g_iload_n C dX6_loadByTickets_11 rfl 1 rfl ?_
  refine g_callS C (cs1 := [wX ax (bo 0) (tr 0) (ac 0) (ah 0) (at_ 0), wB E bo β, wB E tr τ, wC E ac γ, wH E ah bd η, wT E at_ θ, wB E (bd 2) (σ 2), wB E (bd 3) (σ 3), wB E (bd 4) (σ 4), wB E (bd 5) (σ 5), wB E (bd 6) (σ 6), wB E (bd 7) (σ 7), wB E (bd 8) (σ 8), wB E (bd 9) (σ 9)]) (st1 := [.int (fX5_loadOf β (nI o))]) [.ref (bo 0), .int (nI o)] [1] (kX5_loadOf l E bo β hv (nI o)) caX5_loadOf q3_96 rfl ⟨Nat.le_of_ble_eq_true rfl, Nat.le_of_ble_eq_true rfl⟩ ⟨Nat.zero_le _, Nat.zero_le _⟩ (by decide) rfl rfl rfl rfl (Nat.le_of_ble_eq_true rfl) dX6_loadByTickets_12 rfl ?_
  have e_1 : fT_loadByTickets β o = (fX5_loadOf β (nI o)) := by rw [fT_loadByTickets]
  exact g_iret C hE (by rw [e_1]) rfl dX6_loadByTickets_15
def fT_loadByAccount (β : BS) (o : Nat) : Int32 :=
  β.2 11 o
theorem caX6_loadByAccount : gCalV yX6_loadByAccount cX6_loadByAccount 2 (some .int) 1 := ⟨⟨q3_17, q1_1, by decide +kernel⟩, q3_15, q3_16⟩
set_option maxHeartbeats 4000000 in
set_option maxRecDepth 100000 in
theorem kT_loadByAccount (l : Launch) (E : gE) (ax : Nat) (bo : Nat → Nat) (β : BS) (tr : Nat → Nat) (τ : BS) (ac : Nat → Nat) (γ : BS) (ah : Nat → Nat) (bd : Nat → Nat → Nat) (η : BS) (σ : Nat → BS) (at_ : Nat → Nat) (θ : BS) (hv : vB β)  (o : Nat) (ho : o < 5) (hq1 : (fX6_isOwner (nI o)) = true) : MC l E yX6_loadByAccount cX6_loadByAccount 2 (some .int) 2 42 [.ref ax, .int (nI o)] [wX ax (bo 0) (tr 0) (ac 0) (ah 0) (at_ 0), wB E bo β, wB E tr τ, wC E ac γ, wH E ah bd η, wT E at_ θ, wB E (bd 2) (σ 2), wB E (bd 3) (σ 3), wB E (bd 4) (σ 4), wB E (bd 5) (σ 5), wB E (bd 6) (σ 6), wB E (bd 7) (σ 7), wB E (bd 8) (σ 8), wB E (bd 9) (σ 9)] (some (.int (fT_loadByAccount β o))) [wX ax (bo 0) (tr 0) (ac 0) (ah 0) (at_ 0), wB E bo β, wB E tr τ, wC E ac γ, wH E ah bd η, wT E at_ θ, wB E (bd 2) (σ 2), wB E (bd 3) (σ 3), wB E (bd 4) (σ 4), wB E (bd 5) (σ 5), wB E (bd 6) (σ 6), wB E (bd 7) (σ 7), wB E (bd 8) (σ 8), wB E (bd 9) (σ 9)] := by
  have hv1 : cnt β ≤ 20 := hv.1
  refine mc_of (by decide +kernel) (Nat.le_of_ble_eq_true rfl) (lv := [(0, .ref ax), (1, .int (nI o))]) rfl (fun X C hE => ?_)
  refine g_iload_n C dX6_loadByAccount_0 rfl 1 rfl ?_
  refine g_callS C (cs1 := [wX ax (bo 0) (tr 0) (ac 0) (ah 0) (at_ 0), wB E bo β, wB E tr τ, wC E ac γ, wH E ah bd η, wT E at_ θ, wB E (bd 2) (σ 2), wB E (bd 3) (σ 3), wB E (bd 4) (σ 4), wB E (bd 5) (σ 5), wB E (bd 6) (σ 6), wB E (bd 7) (σ 7), wB E (bd 8) (σ 8), wB E (bd 9) (σ 9)]) (st1 := [.int (b2i (fX6_isOwner (nI o)))]) [.int (nI o)] [] (kX6_isOwner l E (nI o)) caX6_isOwner q2_63 rfl ⟨Nat.le_of_ble_eq_true rfl, Nat.le_of_ble_eq_true rfl⟩ ⟨Nat.zero_le _, Nat.zero_le _⟩ (by decide) rfl rfl rfl rfl (Nat.le_of_ble_eq_true rfl) dX6_loadByAccount_1 rfl ?_
  refine g_callS C (cs1 := [wX ax (bo 0) (tr 0) (ac 0) (ah 0) (at_ 0), wB E bo β, wB E tr τ, wC E ac γ, wH E ah bd η, wT E at_ θ, wB E (bd 2) (σ 2), wB E (bd 3) (σ 3), wB E (bd 4) (σ 4), wB E (bd 5) (σ 5), wB E (bd 6) (σ 6), wB E (bd 7) (σ 7), wB E (bd 8) (σ 8), wB E (bd 9) (σ 9)]) (st1 := []) [.int (b2i (fX6_isOwner (nI o)))] [] (kT_requireIndex l E (fX6_isOwner (nI o)) hq1) caX6_requireIndex q2_69 rfl ⟨Nat.le_of_ble_eq_true rfl, Nat.le_of_ble_eq_true rfl⟩ ⟨Nat.zero_le _, Nat.zero_le _⟩ (by decide) rfl rfl rfl rfl (Nat.le_of_ble_eq_true rfl) dX6_loadByAccount_4 rfl ?_
  refine g_aload_n C dX6_loadByAccount_7 rfl 0 rfl ?_
  refine g_getf C (T := TX6) (N := 5) 0 0 rfl rfl rfl inX6 0 (by decide) q1_179 rfl dX6_loadByAccount_8 ?_
  refine g_getf C (T := TX0) (N := 17) 1 0 rfl rfl rfl inX0 15 (by decide) q1_68 rfl dX6_loadByAccount_11 ?_
  refine g_iload_n C dX6_loadByAccount_14 rfl 1 rfl ?_
  refine g_ialdn C 1 12 o rfl rfl rfl (by omega) (by decide) dX6_loadByAccount_15 ?_
  have e_1 : fT_loadByAccount β o = β.2 11 o := by rw [fT_loadByAccount]
  exact g_iret C hE (by rw [e_1]) rfl dX6_loadByAccount_16
def fT_dateOf (β : BS) (m : Nat) : Int32 :=
  β.2 12 m
theorem caX6_dateOf : gCalV yX6_dateOf cX6_dateOf 2 (some .int) 1 := ⟨⟨q2_91, q1_1, by decide +kernel⟩, q2_89, q2_90⟩
set_option maxHeartbeats 4000000 in
set_option maxRecDepth 100000 in
theorem kT_dateOf (l : Launch) (E : gE) (ax : Nat) (bo : Nat → Nat) (β : BS) (tr : Nat → Nat) (τ : BS) (ac : Nat → Nat) (γ : BS) (ah : Nat → Nat) (bd : Nat → Nat → Nat) (η : BS) (σ : Nat → BS) (at_ : Nat → Nat) (θ : BS) (hv : vB β)  (m : Nat) (hm : m < 4) (hq1 : (fX6_isMilestone (nI m)) = true) : MC l E yX6_dateOf cX6_dateOf 2 (some .int) 2 42 [.ref ax, .int (nI m)] [wX ax (bo 0) (tr 0) (ac 0) (ah 0) (at_ 0), wB E bo β, wB E tr τ, wC E ac γ, wH E ah bd η, wT E at_ θ, wB E (bd 2) (σ 2), wB E (bd 3) (σ 3), wB E (bd 4) (σ 4), wB E (bd 5) (σ 5), wB E (bd 6) (σ 6), wB E (bd 7) (σ 7), wB E (bd 8) (σ 8), wB E (bd 9) (σ 9)] (some (.int (fT_dateOf β m))) [wX ax (bo 0) (tr 0) (ac 0) (ah 0) (at_ 0), wB E bo β, wB E tr τ, wC E ac γ, wH E ah bd η, wT E at_ θ, wB E (bd 2) (σ 2), wB E (bd 3) (σ 3), wB E (bd 4) (σ 4), wB E (bd 5) (σ 5), wB E (bd 6) (σ 6), wB E (bd 7) (σ 7), wB E (bd 8) (σ 8), wB E (bd 9) (σ 9)] := by
  have hv1 : cnt β ≤ 20 := hv.1
  refine mc_of (by decide +kernel) (Nat.le_of_ble_eq_true rfl) (lv := [(0, .ref ax), (1, .int (nI m))]) rfl (fun X C hE => ?_)
  refine g_iload_n C dX6_dateOf_0 rfl 1 rfl ?_
  refine g_callS C (cs1 := [wX ax (bo 0) (tr 0) (ac 0) (ah 0) (at_ 0), wB E bo β, wB E tr τ, wC E ac γ, wH E ah bd η, wT E at_ θ, wB E (bd 2) (σ 2), wB E (bd 3) (σ 3), wB E (bd 4) (σ 4), wB E (bd 5) (σ 5), wB E (bd 6) (σ 6), wB E (bd 7) (σ 7), wB E (bd 8) (σ 8), wB E (bd 9) (σ 9)]) (st1 := [.int (b2i (fX6_isMilestone (nI m)))]) [.int (nI m)] [] (kX6_isMilestone l E (nI m)) caX6_isMilestone q2_92 rfl ⟨Nat.le_of_ble_eq_true rfl, Nat.le_of_ble_eq_true rfl⟩ ⟨Nat.zero_le _, Nat.zero_le _⟩ (by decide) rfl rfl rfl rfl (Nat.le_of_ble_eq_true rfl) dX6_dateOf_1 rfl ?_
  refine g_callS C (cs1 := [wX ax (bo 0) (tr 0) (ac 0) (ah 0) (at_ 0), wB E bo β, wB E tr τ, wC E ac γ, wH E ah bd η, wT E at_ θ, wB E (bd 2) (σ 2), wB E (bd 3) (σ 3), wB E (bd 4) (σ 4), wB E (bd 5) (σ 5), wB E (bd 6) (σ 6), wB E (bd 7) (σ 7), wB E (bd 8) (σ 8), wB E (bd 9) (σ 9)]) (st1 := []) [.int (b2i (fX6_isMilestone (nI m)))] [] (kT_requireIndex l E (fX6_isMilestone (nI m)) hq1) caX6_requireIndex q2_69 rfl ⟨Nat.le_of_ble_eq_true rfl, Nat.le_of_ble_eq_true rfl⟩ ⟨Nat.zero_le _, Nat.zero_le _⟩ (by decide) rfl rfl rfl rfl (Nat.le_of_ble_eq_true rfl) dX6_dateOf_4 rfl ?_
  refine g_aload_n C dX6_dateOf_7 rfl 0 rfl ?_
  refine g_getf C (T := TX6) (N := 5) 0 0 rfl rfl rfl inX6 0 (by decide) q1_179 rfl dX6_dateOf_8 ?_
  refine g_getf C (T := TX0) (N := 17) 1 0 rfl rfl rfl inX0 16 (by decide) q1_71 rfl dX6_dateOf_11 ?_
  refine g_iload_n C dX6_dateOf_14 rfl 1 rfl ?_
  refine g_ialdn C 1 13 m rfl rfl rfl (by omega) (by decide) dX6_dateOf_15 ?_
  have e_1 : fT_dateOf β m = β.2 12 m := by rw [fT_dateOf]
  exact g_iret C hE (by rw [e_1]) rfl dX6_dateOf_16
def fT_pointsLeft (β : BS) (m : Nat) : Int32 :=
  (fX5_leftFor β (nI m))
theorem caX6_pointsLeft : gCalV yX6_pointsLeft cX6_pointsLeft 2 (some .int) 1 := ⟨⟨q3_21, q1_1, by decide +kernel⟩, q3_19, q3_20⟩
set_option maxHeartbeats 4000000 in
set_option maxRecDepth 100000 in
theorem kT_pointsLeft (l : Launch) (E : gE) (ax : Nat) (bo : Nat → Nat) (β : BS) (tr : Nat → Nat) (τ : BS) (ac : Nat → Nat) (γ : BS) (ah : Nat → Nat) (bd : Nat → Nat → Nat) (η : BS) (σ : Nat → BS) (at_ : Nat → Nat) (θ : BS) (hv : vB β)  (m : Nat) (hm : m < 4) (hq1 : (fX6_isMilestone (nI m)) = true) : MC l E yX6_pointsLeft cX6_pointsLeft 2 (some .int) 4 86 [.ref ax, .int (nI m)] [wX ax (bo 0) (tr 0) (ac 0) (ah 0) (at_ 0), wB E bo β, wB E tr τ, wC E ac γ, wH E ah bd η, wT E at_ θ, wB E (bd 2) (σ 2), wB E (bd 3) (σ 3), wB E (bd 4) (σ 4), wB E (bd 5) (σ 5), wB E (bd 6) (σ 6), wB E (bd 7) (σ 7), wB E (bd 8) (σ 8), wB E (bd 9) (σ 9)] (some (.int (fT_pointsLeft β m))) [wX ax (bo 0) (tr 0) (ac 0) (ah 0) (at_ 0), wB E bo β, wB E tr τ, wC E ac γ, wH E ah bd η, wT E at_ θ, wB E (bd 2) (σ 2), wB E (bd 3) (σ 3), wB E (bd 4) (σ 4), wB E (bd 5) (σ 5), wB E (bd 6) (σ 6), wB E (bd 7) (σ 7), wB E (bd 8) (σ 8), wB E (bd 9) (σ 9)] := by
  have hv1 : cnt β ≤ 20 := hv.1
  refine mc_of (by decide +kernel) (Nat.le_of_ble_eq_true rfl) (lv := [(0, .ref ax), (1, .int (nI m))]) rfl (fun X C hE => ?_)
  refine g_iload_n C dX6_pointsLeft_0 rfl 1 rfl ?_
  refine g_callS C (cs1 := [wX ax (bo 0) (tr 0) (ac 0) (ah 0) (at_ 0), wB E bo β, wB E tr τ, wC E ac γ, wH E ah bd η, wT E at_ θ, wB E (bd 2) (σ 2), wB E (bd 3) (σ 3), wB E (bd 4) (σ 4), wB E (bd 5) (σ 5), wB E (bd 6) (σ 6), wB E (bd 7) (σ 7), wB E (bd 8) (σ 8), wB E (bd 9) (σ 9)]) (st1 := [.int (b2i (fX6_isMilestone (nI m)))]) [.int (nI m)] [] (kX6_isMilestone l E (nI m)) caX6_isMilestone q2_92 rfl ⟨Nat.le_of_ble_eq_true rfl, Nat.le_of_ble_eq_true rfl⟩ ⟨Nat.zero_le _, Nat.zero_le _⟩ (by decide) rfl rfl rfl rfl (Nat.le_of_ble_eq_true rfl) dX6_pointsLeft_1 rfl ?_
  refine g_callS C (cs1 := [wX ax (bo 0) (tr 0) (ac 0) (ah 0) (at_ 0), wB E bo β, wB E tr τ, wC E ac γ, wH E ah bd η, wT E at_ θ, wB E (bd 2) (σ 2), wB E (bd 3) (σ 3), wB E (bd 4) (σ 4), wB E (bd 5) (σ 5), wB E (bd 6) (σ 6), wB E (bd 7) (σ 7), wB E (bd 8) (σ 8), wB E (bd 9) (σ 9)]) (st1 := []) [.int (b2i (fX6_isMilestone (nI m)))] [] (kT_requireIndex l E (fX6_isMilestone (nI m)) hq1) caX6_requireIndex q2_69 rfl ⟨Nat.le_of_ble_eq_true rfl, Nat.le_of_ble_eq_true rfl⟩ ⟨Nat.zero_le _, Nat.zero_le _⟩ (by decide) rfl rfl rfl rfl (Nat.le_of_ble_eq_true rfl) dX6_pointsLeft_4 rfl ?_
  refine g_aload_n C dX6_pointsLeft_7 rfl 0 rfl ?_
  refine g_getf C (T := TX6) (N := 5) 0 0 rfl rfl rfl inX6 0 (by decide) q1_179 rfl dX6_pointsLeft_8 ?_
  refine g_iload_n C dX6_pointsLeft_11 rfl 1 rfl ?_
  refine g_callS C (cs1 := [wX ax (bo 0) (tr 0) (ac 0) (ah 0) (at_ 0), wB E bo β, wB E tr τ, wC E ac γ, wH E ah bd η, wT E at_ θ, wB E (bd 2) (σ 2), wB E (bd 3) (σ 3), wB E (bd 4) (σ 4), wB E (bd 5) (σ 5), wB E (bd 6) (σ 6), wB E (bd 7) (σ 7), wB E (bd 8) (σ 8), wB E (bd 9) (σ 9)]) (st1 := [.int (fX5_leftFor β (nI m))]) [.ref (bo 0), .int (nI m)] [1] (kX5_leftFor l E bo β hv (nI m)) caX5_leftFor q3_22 rfl ⟨Nat.le_of_ble_eq_true rfl, Nat.le_of_ble_eq_true rfl⟩ ⟨Nat.zero_le _, Nat.zero_le _⟩ (by decide) rfl rfl rfl rfl (Nat.le_of_ble_eq_true rfl) dX6_pointsLeft_12 rfl ?_
  have e_1 : fT_pointsLeft β m = (fX5_leftFor β (nI m)) := by rw [fT_pointsLeft]
  exact g_iret C hE (by rw [e_1]) rfl dX6_pointsLeft_15
def fT_hundredthsDone (β : BS) (m : Nat) : Int32 :=
  (fX5_hundredthsFor β (nI m))
theorem caX6_hundredthsDone : gCalV yX6_hundredthsDone cX6_hundredthsDone 2 (some .int) 1 := ⟨⟨q2_98, q1_1, by decide +kernel⟩, q2_96, q2_97⟩
set_option maxHeartbeats 4000000 in
set_option maxRecDepth 100000 in
theorem kT_hundredthsDone (l : Launch) (E : gE) (ax : Nat) (bo : Nat → Nat) (β : BS) (tr : Nat → Nat) (τ : BS) (ac : Nat → Nat) (γ : BS) (ah : Nat → Nat) (bd : Nat → Nat → Nat) (η : BS) (σ : Nat → BS) (at_ : Nat → Nat) (θ : BS) (hv : vB β)  (m : Nat) (hm : m < 4) (hq1 : (fX6_isMilestone (nI m)) = true) : MC l E yX6_hundredthsDone cX6_hundredthsDone 2 (some .int) 5 109 [.ref ax, .int (nI m)] [wX ax (bo 0) (tr 0) (ac 0) (ah 0) (at_ 0), wB E bo β, wB E tr τ, wC E ac γ, wH E ah bd η, wT E at_ θ, wB E (bd 2) (σ 2), wB E (bd 3) (σ 3), wB E (bd 4) (σ 4), wB E (bd 5) (σ 5), wB E (bd 6) (σ 6), wB E (bd 7) (σ 7), wB E (bd 8) (σ 8), wB E (bd 9) (σ 9)] (some (.int (fT_hundredthsDone β m))) [wX ax (bo 0) (tr 0) (ac 0) (ah 0) (at_ 0), wB E bo β, wB E tr τ, wC E ac γ, wH E ah bd η, wT E at_ θ, wB E (bd 2) (σ 2), wB E (bd 3) (σ 3), wB E (bd 4) (σ 4), wB E (bd 5) (σ 5), wB E (bd 6) (σ 6), wB E (bd 7) (σ 7), wB E (bd 8) (σ 8), wB E (bd 9) (σ 9)] := by
  have hv1 : cnt β ≤ 20 := hv.1
  refine mc_of (by decide +kernel) (Nat.le_of_ble_eq_true rfl) (lv := [(0, .ref ax), (1, .int (nI m))]) rfl (fun X C hE => ?_)
  refine g_iload_n C dX6_hundredthsDone_0 rfl 1 rfl ?_
  refine g_callS C (cs1 := [wX ax (bo 0) (tr 0) (ac 0) (ah 0) (at_ 0), wB E bo β, wB E tr τ, wC E ac γ, wH E ah bd η, wT E at_ θ, wB E (bd 2) (σ 2), wB E (bd 3) (σ 3), wB E (bd 4) (σ 4), wB E (bd 5) (σ 5), wB E (bd 6) (σ 6), wB E (bd 7) (σ 7), wB E (bd 8) (σ 8), wB E (bd 9) (σ 9)]) (st1 := [.int (b2i (fX6_isMilestone (nI m)))]) [.int (nI m)] [] (kX6_isMilestone l E (nI m)) caX6_isMilestone q2_92 rfl ⟨Nat.le_of_ble_eq_true rfl, Nat.le_of_ble_eq_true rfl⟩ ⟨Nat.zero_le _, Nat.zero_le _⟩ (by decide) rfl rfl rfl rfl (Nat.le_of_ble_eq_true rfl) dX6_hundredthsDone_1 rfl ?_
  refine g_callS C (cs1 := [wX ax (bo 0) (tr 0) (ac 0) (ah 0) (at_ 0), wB E bo β, wB E tr τ, wC E ac γ, wH E ah bd η, wT E at_ θ, wB E (bd 2) (σ 2), wB E (bd 3) (σ 3), wB E (bd 4) (σ 4), wB E (bd 5) (σ 5), wB E (bd 6) (σ 6), wB E (bd 7) (σ 7), wB E (bd 8) (σ 8), wB E (bd 9) (σ 9)]) (st1 := []) [.int (b2i (fX6_isMilestone (nI m)))] [] (kT_requireIndex l E (fX6_isMilestone (nI m)) hq1) caX6_requireIndex q2_69 rfl ⟨Nat.le_of_ble_eq_true rfl, Nat.le_of_ble_eq_true rfl⟩ ⟨Nat.zero_le _, Nat.zero_le _⟩ (by decide) rfl rfl rfl rfl (Nat.le_of_ble_eq_true rfl) dX6_hundredthsDone_4 rfl ?_
  refine g_aload_n C dX6_hundredthsDone_7 rfl 0 rfl ?_
  refine g_getf C (T := TX6) (N := 5) 0 0 rfl rfl rfl inX6 0 (by decide) q1_179 rfl dX6_hundredthsDone_8 ?_
  refine g_iload_n C dX6_hundredthsDone_11 rfl 1 rfl ?_
  refine g_callS C (cs1 := [wX ax (bo 0) (tr 0) (ac 0) (ah 0) (at_ 0), wB E bo β, wB E tr τ, wC E ac γ, wH E ah bd η, wT E at_ θ, wB E (bd 2) (σ 2), wB E (bd 3) (σ 3), wB E (bd 4) (σ 4), wB E (bd 5) (σ 5), wB E (bd 6) (σ 6), wB E (bd 7) (σ 7), wB E (bd 8) (σ 8), wB E (bd 9) (σ 9)]) (st1 := [.int (fX5_hundredthsFor β (nI m))]) [.ref (bo 0), .int (nI m)] [1] (kX5_hundredthsFor l E bo β hv (nI m)) caX5_hundredthsFor q2_99 rfl ⟨Nat.le_of_ble_eq_true rfl, Nat.le_of_ble_eq_true rfl⟩ ⟨Nat.zero_le _, Nat.zero_le _⟩ (by decide) rfl rfl rfl rfl (Nat.le_of_ble_eq_true rfl) dX6_hundredthsDone_12 rfl ?_
  have e_1 : fT_hundredthsDone β m = (fX5_hundredthsFor β (nI m)) := by rw [fT_hundredthsDone]
  exact g_iret C hE (by rw [e_1]) rfl dX6_hundredthsDone_15
def fT_isLate (β : BS) (m : Nat) : Bool :=
  (fX5_isOverdue β m)
theorem caX6_isLate : gCalV yX6_isLate cX6_isLate 2 (some .boolean) 1 := ⟨⟨q3_236, q1_1, by decide +kernel⟩, q3_234, q3_235⟩
set_option maxHeartbeats 4000000 in
set_option maxRecDepth 100000 in
theorem kT_isLate (l : Launch) (E : gE) (ax : Nat) (bo : Nat → Nat) (β : BS) (tr : Nat → Nat) (τ : BS) (ac : Nat → Nat) (γ : BS) (ah : Nat → Nat) (bd : Nat → Nat → Nat) (η : BS) (σ : Nat → BS) (at_ : Nat → Nat) (θ : BS) (hv : vB β)  (m : Nat) (hm : m < 4) (hq1 : (fX6_isMilestone (nI m)) = true) : MC l E yX6_isLate cX6_isLate 2 (some .boolean) 5 107 [.ref ax, .int (nI m)] [wX ax (bo 0) (tr 0) (ac 0) (ah 0) (at_ 0), wB E bo β, wB E tr τ, wC E ac γ, wH E ah bd η, wT E at_ θ, wB E (bd 2) (σ 2), wB E (bd 3) (σ 3), wB E (bd 4) (σ 4), wB E (bd 5) (σ 5), wB E (bd 6) (σ 6), wB E (bd 7) (σ 7), wB E (bd 8) (σ 8), wB E (bd 9) (σ 9)] (some (.int (b2i (fT_isLate β m)))) [wX ax (bo 0) (tr 0) (ac 0) (ah 0) (at_ 0), wB E bo β, wB E tr τ, wC E ac γ, wH E ah bd η, wT E at_ θ, wB E (bd 2) (σ 2), wB E (bd 3) (σ 3), wB E (bd 4) (σ 4), wB E (bd 5) (σ 5), wB E (bd 6) (σ 6), wB E (bd 7) (σ 7), wB E (bd 8) (σ 8), wB E (bd 9) (σ 9)] := by
  have hv1 : cnt β ≤ 20 := hv.1
  refine mc_of (by decide +kernel) (Nat.le_of_ble_eq_true rfl) (lv := [(0, .ref ax), (1, .int (nI m))]) rfl (fun X C hE => ?_)
  refine g_iload_n C dX6_isLate_0 rfl 1 rfl ?_
  refine g_callS C (cs1 := [wX ax (bo 0) (tr 0) (ac 0) (ah 0) (at_ 0), wB E bo β, wB E tr τ, wC E ac γ, wH E ah bd η, wT E at_ θ, wB E (bd 2) (σ 2), wB E (bd 3) (σ 3), wB E (bd 4) (σ 4), wB E (bd 5) (σ 5), wB E (bd 6) (σ 6), wB E (bd 7) (σ 7), wB E (bd 8) (σ 8), wB E (bd 9) (σ 9)]) (st1 := [.int (b2i (fX6_isMilestone (nI m)))]) [.int (nI m)] [] (kX6_isMilestone l E (nI m)) caX6_isMilestone q2_92 rfl ⟨Nat.le_of_ble_eq_true rfl, Nat.le_of_ble_eq_true rfl⟩ ⟨Nat.zero_le _, Nat.zero_le _⟩ (by decide) rfl rfl rfl rfl (Nat.le_of_ble_eq_true rfl) dX6_isLate_1 rfl ?_
  refine g_callS C (cs1 := [wX ax (bo 0) (tr 0) (ac 0) (ah 0) (at_ 0), wB E bo β, wB E tr τ, wC E ac γ, wH E ah bd η, wT E at_ θ, wB E (bd 2) (σ 2), wB E (bd 3) (σ 3), wB E (bd 4) (σ 4), wB E (bd 5) (σ 5), wB E (bd 6) (σ 6), wB E (bd 7) (σ 7), wB E (bd 8) (σ 8), wB E (bd 9) (σ 9)]) (st1 := []) [.int (b2i (fX6_isMilestone (nI m)))] [] (kT_requireIndex l E (fX6_isMilestone (nI m)) hq1) caX6_requireIndex q2_69 rfl ⟨Nat.le_of_ble_eq_true rfl, Nat.le_of_ble_eq_true rfl⟩ ⟨Nat.zero_le _, Nat.zero_le _⟩ (by decide) rfl rfl rfl rfl (Nat.le_of_ble_eq_true rfl) dX6_isLate_4 rfl ?_
  refine g_aload_n C dX6_isLate_7 rfl 0 rfl ?_
  refine g_getf C (T := TX6) (N := 5) 0 0 rfl rfl rfl inX6 0 (by decide) q1_179 rfl dX6_isLate_8 ?_
  refine g_iload_n C dX6_isLate_11 rfl 1 rfl ?_
  refine g_callS C (cs1 := [wX ax (bo 0) (tr 0) (ac 0) (ah 0) (at_ 0), wB E bo β, wB E tr τ, wC E ac γ, wH E ah bd η, wT E at_ θ, wB E (bd 2) (σ 2), wB E (bd 3) (σ 3), wB E (bd 4) (σ 4), wB E (bd 5) (σ 5), wB E (bd 6) (σ 6), wB E (bd 7) (σ 7), wB E (bd 8) (σ 8), wB E (bd 9) (σ 9)]) (st1 := [.int (b2i (fX5_isOverdue β m))]) [.ref (bo 0), .int (nI m)] [1] (kX5_isOverdue l E bo β hv m (by omega)) caX5_isOverdue q3_237 rfl ⟨Nat.le_of_ble_eq_true rfl, Nat.le_of_ble_eq_true rfl⟩ ⟨Nat.zero_le _, Nat.zero_le _⟩ (by decide) rfl rfl rfl rfl (Nat.le_of_ble_eq_true rfl) dX6_isLate_12 rfl ?_
  have e_1 : fT_isLate β m = (fX5_isOverdue β m) := by rw [fT_isLate]
  exact g_zret (b := (fX5_isOverdue β m)) C hE (by rw [e_1]) rfl rfl dX6_isLate_15
def fT_withState (β : BS) (s : Int32) : Int32 :=
  (fJ6_bitCount_0f7a4 (fX0_inState β s))
theorem caX6_withState : gCalV yX6_withState cX6_withState 2 (some .int) 1 := ⟨⟨q3_208, q1_1, by decide +kernel⟩, q3_206, q3_207⟩
set_option maxHeartbeats 4000000 in
set_option maxRecDepth 100000 in
theorem kT_withState (l : Launch) (E : gE) (ax : Nat) (bo : Nat → Nat) (β : BS) (tr : Nat → Nat) (τ : BS) (ac : Nat → Nat) (γ : BS) (ah : Nat → Nat) (bd : Nat → Nat → Nat) (η : BS) (σ : Nat → BS) (at_ : Nat → Nat) (θ : BS) (hv : vB β)  (s : Int32) (hq1 : (fX6_within s 0 4) = true) : MC l E yX6_withState cX6_withState 2 (some .int) 3 65 [.ref ax, .int s] [wX ax (bo 0) (tr 0) (ac 0) (ah 0) (at_ 0), wB E bo β, wB E tr τ, wC E ac γ, wH E ah bd η, wT E at_ θ, wB E (bd 2) (σ 2), wB E (bd 3) (σ 3), wB E (bd 4) (σ 4), wB E (bd 5) (σ 5), wB E (bd 6) (σ 6), wB E (bd 7) (σ 7), wB E (bd 8) (σ 8), wB E (bd 9) (σ 9)] (some (.int (fT_withState β s))) [wX ax (bo 0) (tr 0) (ac 0) (ah 0) (at_ 0), wB E bo β, wB E tr τ, wC E ac γ, wH E ah bd η, wT E at_ θ, wB E (bd 2) (σ 2), wB E (bd 3) (σ 3), wB E (bd 4) (σ 4), wB E (bd 5) (σ 5), wB E (bd 6) (σ 6), wB E (bd 7) (σ 7), wB E (bd 8) (σ 8), wB E (bd 9) (σ 9)] := by
  have hv1 : cnt β ≤ 20 := hv.1
  refine mc_of (by decide +kernel) (Nat.le_of_ble_eq_true rfl) (lv := [(0, .ref ax), (1, .int s)]) rfl (fun X C hE => ?_)
  refine g_iload_n C dX6_withState_0 rfl 1 rfl ?_
  refine g_iconst C (v := 0) dX6_withState_1 (by decide) ?_
  refine g_iconst C (v := 4) dX6_withState_2 (by decide) ?_
  refine g_callS C (cs1 := [wX ax (bo 0) (tr 0) (ac 0) (ah 0) (at_ 0), wB E bo β, wB E tr τ, wC E ac γ, wH E ah bd η, wT E at_ θ, wB E (bd 2) (σ 2), wB E (bd 3) (σ 3), wB E (bd 4) (σ 4), wB E (bd 5) (σ 5), wB E (bd 6) (σ 6), wB E (bd 7) (σ 7), wB E (bd 8) (σ 8), wB E (bd 9) (σ 9)]) (st1 := [.int (b2i (fX6_within s 0 4))]) [.int s, .int 0, .int 4] [] (kX6_within l E s 0 4) caX6_within q2_66 rfl ⟨Nat.le_of_ble_eq_true rfl, Nat.le_of_ble_eq_true rfl⟩ ⟨Nat.zero_le _, Nat.zero_le _⟩ (by decide) rfl rfl rfl rfl (Nat.le_of_ble_eq_true rfl) dX6_withState_3 rfl ?_
  refine g_callS C (cs1 := [wX ax (bo 0) (tr 0) (ac 0) (ah 0) (at_ 0), wB E bo β, wB E tr τ, wC E ac γ, wH E ah bd η, wT E at_ θ, wB E (bd 2) (σ 2), wB E (bd 3) (σ 3), wB E (bd 4) (σ 4), wB E (bd 5) (σ 5), wB E (bd 6) (σ 6), wB E (bd 7) (σ 7), wB E (bd 8) (σ 8), wB E (bd 9) (σ 9)]) (st1 := []) [.int (b2i (fX6_within s 0 4))] [] (kT_requireArgument l E (fX6_within s 0 4) hq1) caX6_requireArgument q3_34 rfl ⟨Nat.le_of_ble_eq_true rfl, Nat.le_of_ble_eq_true rfl⟩ ⟨Nat.zero_le _, Nat.zero_le _⟩ (by decide) rfl rfl rfl rfl (Nat.le_of_ble_eq_true rfl) dX6_withState_6 rfl ?_
  refine g_aload_n C dX6_withState_9 rfl 0 rfl ?_
  refine g_getf C (T := TX6) (N := 5) 0 0 rfl rfl rfl inX6 0 (by decide) q1_179 rfl dX6_withState_10 ?_
  refine g_iload_n C dX6_withState_13 rfl 1 rfl ?_
  refine g_callV C (cs1 := [wX ax (bo 0) (tr 0) (ac 0) (ah 0) (at_ 0), wB E bo β, wB E tr τ, wC E ac γ, wH E ah bd η, wT E at_ θ, wB E (bd 2) (σ 2), wB E (bd 3) (σ 3), wB E (bd 4) (σ 4), wB E (bd 5) (σ 5), wB E (bd 6) (σ 6), wB E (bd 7) (σ 7), wB E (bd 8) (σ 8), wB E (bd 9) (σ 9)]) (st1 := [.int (fX0_inState β s)]) [.int s] [1] (kX0_inState l E bo β hv s) caX0_inState q3_209 rfl ⟨Nat.le_of_ble_eq_true rfl, Nat.le_of_ble_eq_true rfl⟩ ⟨Nat.zero_le _, Nat.zero_le _⟩ 1 0 rfl rfl rfl rfl (by decide) rfl rfl rfl rfl (Nat.le_of_ble_eq_true rfl) dX6_withState_14 rfl ?_
  refine g_callS C (cs1 := [wX ax (bo 0) (tr 0) (ac 0) (ah 0) (at_ 0), wB E bo β, wB E tr τ, wC E ac γ, wH E ah bd η, wT E at_ θ, wB E (bd 2) (σ 2), wB E (bd 3) (σ 3), wB E (bd 4) (σ 4), wB E (bd 5) (σ 5), wB E (bd 6) (σ 6), wB E (bd 7) (σ 7), wB E (bd 8) (σ 8), wB E (bd 9) (σ 9)]) (st1 := [.int (fJ6_bitCount_0f7a4 (fX0_inState β s))]) [.int (fX0_inState β s)] [] (kJ6_bitCount_0f7a4 l E (fX0_inState β s)) caJ6_bitCount_0f7a4 q2_237 rfl ⟨Nat.le_of_ble_eq_true rfl, Nat.le_of_ble_eq_true rfl⟩ ⟨Nat.zero_le _, Nat.zero_le _⟩ (by decide) rfl rfl rfl rfl (Nat.le_of_ble_eq_true rfl) dX6_withState_17 rfl ?_
  have e_1 : fT_withState β s = (fJ6_bitCount_0f7a4 (fX0_inState β s)) := by rw [fT_withState]
  exact g_iret C hE (by rw [e_1]) rfl dX6_withState_20
def fT_pointsWith (β : BS) (s : Int32) : Int32 :=
  (fX0_pointsOfSet β (fX0_inState β s))
theorem caX6_pointsWith : gCalV yX6_pointsWith cX6_pointsWith 2 (some .int) 1 := ⟨⟨q3_213, q1_1, by decide +kernel⟩, q3_211, q3_212⟩
set_option maxHeartbeats 4000000 in
set_option maxRecDepth 100000 in
theorem kT_pointsWith (l : Launch) (E : gE) (ax : Nat) (bo : Nat → Nat) (β : BS) (tr : Nat → Nat) (τ : BS) (ac : Nat → Nat) (γ : BS) (ah : Nat → Nat) (bd : Nat → Nat → Nat) (η : BS) (σ : Nat → BS) (at_ : Nat → Nat) (θ : BS) (hv : vB β)  (s : Int32) (hq1 : (fX6_within s 0 4) = true) : MC l E yX6_pointsWith cX6_pointsWith 2 (some .int) 3 65 [.ref ax, .int s] [wX ax (bo 0) (tr 0) (ac 0) (ah 0) (at_ 0), wB E bo β, wB E tr τ, wC E ac γ, wH E ah bd η, wT E at_ θ, wB E (bd 2) (σ 2), wB E (bd 3) (σ 3), wB E (bd 4) (σ 4), wB E (bd 5) (σ 5), wB E (bd 6) (σ 6), wB E (bd 7) (σ 7), wB E (bd 8) (σ 8), wB E (bd 9) (σ 9)] (some (.int (fT_pointsWith β s))) [wX ax (bo 0) (tr 0) (ac 0) (ah 0) (at_ 0), wB E bo β, wB E tr τ, wC E ac γ, wH E ah bd η, wT E at_ θ, wB E (bd 2) (σ 2), wB E (bd 3) (σ 3), wB E (bd 4) (σ 4), wB E (bd 5) (σ 5), wB E (bd 6) (σ 6), wB E (bd 7) (σ 7), wB E (bd 8) (σ 8), wB E (bd 9) (σ 9)] := by
  have hv1 : cnt β ≤ 20 := hv.1
  refine mc_of (by decide +kernel) (Nat.le_of_ble_eq_true rfl) (lv := [(0, .ref ax), (1, .int s)]) rfl (fun X C hE => ?_)
  refine g_iload_n C dX6_pointsWith_0 rfl 1 rfl ?_
  refine g_iconst C (v := 0) dX6_pointsWith_1 (by decide) ?_
  refine g_iconst C (v := 4) dX6_pointsWith_2 (by decide) ?_
  refine g_callS C (cs1 := [wX ax (bo 0) (tr 0) (ac 0) (ah 0) (at_ 0), wB E bo β, wB E tr τ, wC E ac γ, wH E ah bd η, wT E at_ θ, wB E (bd 2) (σ 2), wB E (bd 3) (σ 3), wB E (bd 4) (σ 4), wB E (bd 5) (σ 5), wB E (bd 6) (σ 6), wB E (bd 7) (σ 7), wB E (bd 8) (σ 8), wB E (bd 9) (σ 9)]) (st1 := [.int (b2i (fX6_within s 0 4))]) [.int s, .int 0, .int 4] [] (kX6_within l E s 0 4) caX6_within q2_66 rfl ⟨Nat.le_of_ble_eq_true rfl, Nat.le_of_ble_eq_true rfl⟩ ⟨Nat.zero_le _, Nat.zero_le _⟩ (by decide) rfl rfl rfl rfl (Nat.le_of_ble_eq_true rfl) dX6_pointsWith_3 rfl ?_
  refine g_callS C (cs1 := [wX ax (bo 0) (tr 0) (ac 0) (ah 0) (at_ 0), wB E bo β, wB E tr τ, wC E ac γ, wH E ah bd η, wT E at_ θ, wB E (bd 2) (σ 2), wB E (bd 3) (σ 3), wB E (bd 4) (σ 4), wB E (bd 5) (σ 5), wB E (bd 6) (σ 6), wB E (bd 7) (σ 7), wB E (bd 8) (σ 8), wB E (bd 9) (σ 9)]) (st1 := []) [.int (b2i (fX6_within s 0 4))] [] (kT_requireArgument l E (fX6_within s 0 4) hq1) caX6_requireArgument q3_34 rfl ⟨Nat.le_of_ble_eq_true rfl, Nat.le_of_ble_eq_true rfl⟩ ⟨Nat.zero_le _, Nat.zero_le _⟩ (by decide) rfl rfl rfl rfl (Nat.le_of_ble_eq_true rfl) dX6_pointsWith_6 rfl ?_
  refine g_aload_n C dX6_pointsWith_9 rfl 0 rfl ?_
  refine g_getf C (T := TX6) (N := 5) 0 0 rfl rfl rfl inX6 0 (by decide) q1_179 rfl dX6_pointsWith_10 ?_
  refine g_aload_n C dX6_pointsWith_13 rfl 0 rfl ?_
  refine g_getf C (T := TX6) (N := 5) 0 0 rfl rfl rfl inX6 0 (by decide) q1_179 rfl dX6_pointsWith_14 ?_
  refine g_iload_n C dX6_pointsWith_17 rfl 1 rfl ?_
  refine g_callV C (cs1 := [wX ax (bo 0) (tr 0) (ac 0) (ah 0) (at_ 0), wB E bo β, wB E tr τ, wC E ac γ, wH E ah bd η, wT E at_ θ, wB E (bd 2) (σ 2), wB E (bd 3) (σ 3), wB E (bd 4) (σ 4), wB E (bd 5) (σ 5), wB E (bd 6) (σ 6), wB E (bd 7) (σ 7), wB E (bd 8) (σ 8), wB E (bd 9) (σ 9)]) (st1 := [.int (fX0_inState β s), .ref (bo 0)]) [.int s] [1] (kX0_inState l E bo β hv s) caX0_inState q3_209 rfl ⟨Nat.le_of_ble_eq_true rfl, Nat.le_of_ble_eq_true rfl⟩ ⟨Nat.zero_le _, Nat.zero_le _⟩ 1 0 rfl rfl rfl rfl (by decide) rfl rfl rfl rfl (Nat.le_of_ble_eq_true rfl) dX6_pointsWith_18 rfl ?_
  refine g_callV C (cs1 := [wX ax (bo 0) (tr 0) (ac 0) (ah 0) (at_ 0), wB E bo β, wB E tr τ, wC E ac γ, wH E ah bd η, wT E at_ θ, wB E (bd 2) (σ 2), wB E (bd 3) (σ 3), wB E (bd 4) (σ 4), wB E (bd 5) (σ 5), wB E (bd 6) (σ 6), wB E (bd 7) (σ 7), wB E (bd 8) (σ 8), wB E (bd 9) (σ 9)]) (st1 := [.int (fX0_pointsOfSet β (fX0_inState β s))]) [.int (fX0_inState β s)] [1] (kX0_pointsOfSet l E bo β hv (fX0_inState β s)) caX0_pointsOfSet q3_214 rfl ⟨Nat.le_of_ble_eq_true rfl, Nat.le_of_ble_eq_true rfl⟩ ⟨Nat.zero_le _, Nat.zero_le _⟩ 1 0 rfl rfl rfl rfl (by decide) rfl rfl rfl rfl (Nat.le_of_ble_eq_true rfl) dX6_pointsWith_21 rfl ?_
  have e_1 : fT_pointsWith β s = (fX0_pointsOfSet β (fX0_inState β s)) := by rw [fT_pointsWith]
  exact g_iret C hE (by rw [e_1]) rfl dX6_pointsWith_24
def fT_criticalByTrying (β : BS) (γ : BS) : Int32 × BS :=
  ((fX1_mostPointsByTrying γ β).1, (fX1_mostPointsByTrying γ β).2)
theorem caX6_criticalByTrying : gCalV yX6_criticalByTrying cX6_criticalByTrying 1 (some .int) 0 := ⟨⟨q4_25, q1_1, by decide +kernel⟩, q4_23, q4_24⟩
set_option maxHeartbeats 4000000 in
set_option maxRecDepth 100000 in
theorem kT_criticalByTrying (l : Launch) (E : gE) (ax : Nat) (bo : Nat → Nat) (β : BS) (tr : Nat → Nat) (τ : BS) (ac : Nat → Nat) (γ : BS) (ah : Nat → Nat) (bd : Nat → Nat → Nat) (η : BS) (σ : Nat → BS) (at_ : Nat → Nat) (θ : BS) (hv : vB β)   : MC l E yX6_criticalByTrying cX6_criticalByTrying 1 (some .int) 24 587 [.ref ax] [wX ax (bo 0) (tr 0) (ac 0) (ah 0) (at_ 0), wB E bo β, wB E tr τ, wC E ac γ, wH E ah bd η, wT E at_ θ, wB E (bd 2) (σ 2), wB E (bd 3) (σ 3), wB E (bd 4) (σ 4), wB E (bd 5) (σ 5), wB E (bd 6) (σ 6), wB E (bd 7) (σ 7), wB E (bd 8) (σ 8), wB E (bd 9) (σ 9)] (some (.int (fT_criticalByTrying β γ).1)) [wX ax (bo 0) (tr 0) (ac 0) (ah 0) (at_ 0), wB E bo β, wB E tr τ, wC E ac ((fT_criticalByTrying β γ).2), wH E ah bd η, wT E at_ θ, wB E (bd 2) (σ 2), wB E (bd 3) (σ 3), wB E (bd 4) (σ 4), wB E (bd 5) (σ 5), wB E (bd 6) (σ 6), wB E (bd 7) (σ 7), wB E (bd 8) (σ 8), wB E (bd 9) (σ 9)] := by
  have hv1 : cnt β ≤ 20 := hv.1
  refine mc_of (by decide +kernel) (Nat.le_of_ble_eq_true rfl) (lv := [(0, .ref ax)]) rfl (fun X C hE => ?_)
  refine g_aload_n C dX6_criticalByTrying_0 rfl 0 rfl ?_
  refine g_getf C (T := TX6) (N := 5) 0 0 rfl rfl rfl inX6 2 (by decide) q1_181 rfl dX6_criticalByTrying_1 ?_
  refine g_aload_n C dX6_criticalByTrying_4 rfl 0 rfl ?_
  refine g_getf C (T := TX6) (N := 5) 0 0 rfl rfl rfl inX6 0 (by decide) q1_179 rfl dX6_criticalByTrying_5 ?_
  refine g_callV C (cs1 := [wX ax (bo 0) (tr 0) (ac 0) (ah 0) (at_ 0), wB E bo β, wB E tr τ, wC E ac ((fX1_mostPointsByTrying γ β).2), wH E ah bd η, wT E at_ θ, wB E (bd 2) (σ 2), wB E (bd 3) (σ 3), wB E (bd 4) (σ 4), wB E (bd 5) (σ 5), wB E (bd 6) (σ 6), wB E (bd 7) (σ 7), wB E (bd 8) (σ 8), wB E (bd 9) (σ 9)]) (st1 := [.int ((fX1_mostPointsByTrying γ β).1)]) [.ref (bo 0)] [3, 1] (kX1_mostPointsByTrying l E ac γ bo β hv) caX1_mostPointsByTrying q4_26 rfl ⟨Nat.le_of_ble_eq_true rfl, Nat.le_of_ble_eq_true rfl⟩ ⟨Nat.zero_le _, Nat.zero_le _⟩ 3 0 rfl rfl rfl rfl (by decide) rfl rfl rfl rfl (Nat.le_of_ble_eq_true rfl) dX6_criticalByTrying_8 rfl ?_
  have e_1 : fT_criticalByTrying β γ = ((fX1_mostPointsByTrying γ β).1, (fX1_mostPointsByTrying γ β).2) := by rw [fT_criticalByTrying]
  exact g_iret C hE (by rw [e_1]) (by rw [e_1]) dX6_criticalByTrying_11
def fT_criticalByOrder (β : BS) (γ : BS) : Int32 × BS :=
  ((fX1_mostPointsByOrder γ β).1, (fX1_mostPointsByOrder γ β).2)
theorem caX6_criticalByOrder : gCalV yX6_criticalByOrder cX6_criticalByOrder 1 (some .int) 0 := ⟨⟨q2_168, q1_1, by decide +kernel⟩, q2_166, q2_167⟩
set_option maxHeartbeats 4000000 in
set_option maxRecDepth 100000 in
theorem kT_criticalByOrder (l : Launch) (E : gE) (ax : Nat) (bo : Nat → Nat) (β : BS) (tr : Nat → Nat) (τ : BS) (ac : Nat → Nat) (γ : BS) (ah : Nat → Nat) (bd : Nat → Nat → Nat) (η : BS) (σ : Nat → BS) (at_ : Nat → Nat) (θ : BS) (hv : vB β)   : MC l E yX6_criticalByOrder cX6_criticalByOrder 1 (some .int) 4 92 [.ref ax] [wX ax (bo 0) (tr 0) (ac 0) (ah 0) (at_ 0), wB E bo β, wB E tr τ, wC E ac γ, wH E ah bd η, wT E at_ θ, wB E (bd 2) (σ 2), wB E (bd 3) (σ 3), wB E (bd 4) (σ 4), wB E (bd 5) (σ 5), wB E (bd 6) (σ 6), wB E (bd 7) (σ 7), wB E (bd 8) (σ 8), wB E (bd 9) (σ 9)] (some (.int (fT_criticalByOrder β γ).1)) [wX ax (bo 0) (tr 0) (ac 0) (ah 0) (at_ 0), wB E bo β, wB E tr τ, wC E ac ((fT_criticalByOrder β γ).2), wH E ah bd η, wT E at_ θ, wB E (bd 2) (σ 2), wB E (bd 3) (σ 3), wB E (bd 4) (σ 4), wB E (bd 5) (σ 5), wB E (bd 6) (σ 6), wB E (bd 7) (σ 7), wB E (bd 8) (σ 8), wB E (bd 9) (σ 9)] := by
  have hv1 : cnt β ≤ 20 := hv.1
  refine mc_of (by decide +kernel) (Nat.le_of_ble_eq_true rfl) (lv := [(0, .ref ax)]) rfl (fun X C hE => ?_)
  refine g_aload_n C dX6_criticalByOrder_0 rfl 0 rfl ?_
  refine g_getf C (T := TX6) (N := 5) 0 0 rfl rfl rfl inX6 2 (by decide) q1_181 rfl dX6_criticalByOrder_1 ?_
  refine g_aload_n C dX6_criticalByOrder_4 rfl 0 rfl ?_
  refine g_getf C (T := TX6) (N := 5) 0 0 rfl rfl rfl inX6 0 (by decide) q1_179 rfl dX6_criticalByOrder_5 ?_
  refine g_callV C (cs1 := [wX ax (bo 0) (tr 0) (ac 0) (ah 0) (at_ 0), wB E bo β, wB E tr τ, wC E ac ((fX1_mostPointsByOrder γ β).2), wH E ah bd η, wT E at_ θ, wB E (bd 2) (σ 2), wB E (bd 3) (σ 3), wB E (bd 4) (σ 4), wB E (bd 5) (σ 5), wB E (bd 6) (σ 6), wB E (bd 7) (σ 7), wB E (bd 8) (σ 8), wB E (bd 9) (σ 9)]) (st1 := [.int ((fX1_mostPointsByOrder γ β).1)]) [.ref (bo 0)] [3, 1] (kX1_mostPointsByOrder l E ac γ bo β hv) caX1_mostPointsByOrder q2_169 rfl ⟨Nat.le_of_ble_eq_true rfl, Nat.le_of_ble_eq_true rfl⟩ ⟨Nat.zero_le _, Nat.zero_le _⟩ 3 0 rfl rfl rfl rfl (by decide) rfl rfl rfl rfl (Nat.le_of_ble_eq_true rfl) dX6_criticalByOrder_8 rfl ?_
  have e_1 : fT_criticalByOrder β γ = ((fX1_mostPointsByOrder γ β).1, (fX1_mostPointsByOrder γ β).2) := by rw [fT_criticalByOrder]
  exact g_iret C hE (by rw [e_1]) (by rw [e_1]) dX6_criticalByOrder_11
def fT_lateMilestones (β : BS) : Int32 :=
  (fX5_overdueMilestones β)
theorem caX6_lateMilestones : gCalV yX6_lateMilestones cX6_lateMilestones 1 (some .int) 0 := ⟨⟨q4_17, q1_1, by decide +kernel⟩, q4_15, q4_16⟩
set_option maxHeartbeats 4000000 in
set_option maxRecDepth 100000 in
theorem kT_lateMilestones (l : Launch) (E : gE) (ax : Nat) (bo : Nat → Nat) (β : BS) (tr : Nat → Nat) (τ : BS) (ac : Nat → Nat) (γ : BS) (ah : Nat → Nat) (bd : Nat → Nat → Nat) (η : BS) (σ : Nat → BS) (at_ : Nat → Nat) (θ : BS) (hv : vB β)   : MC l E yX6_lateMilestones cX6_lateMilestones 1 (some .int) 6 129 [.ref ax] [wX ax (bo 0) (tr 0) (ac 0) (ah 0) (at_ 0), wB E bo β, wB E tr τ, wC E ac γ, wH E ah bd η, wT E at_ θ, wB E (bd 2) (σ 2), wB E (bd 3) (σ 3), wB E (bd 4) (σ 4), wB E (bd 5) (σ 5), wB E (bd 6) (σ 6), wB E (bd 7) (σ 7), wB E (bd 8) (σ 8), wB E (bd 9) (σ 9)] (some (.int (fT_lateMilestones β))) [wX ax (bo 0) (tr 0) (ac 0) (ah 0) (at_ 0), wB E bo β, wB E tr τ, wC E ac γ, wH E ah bd η, wT E at_ θ, wB E (bd 2) (σ 2), wB E (bd 3) (σ 3), wB E (bd 4) (σ 4), wB E (bd 5) (σ 5), wB E (bd 6) (σ 6), wB E (bd 7) (σ 7), wB E (bd 8) (σ 8), wB E (bd 9) (σ 9)] := by
  have hv1 : cnt β ≤ 20 := hv.1
  refine mc_of (by decide +kernel) (Nat.le_of_ble_eq_true rfl) (lv := [(0, .ref ax)]) rfl (fun X C hE => ?_)
  refine g_aload_n C dX6_lateMilestones_0 rfl 0 rfl ?_
  refine g_getf C (T := TX6) (N := 5) 0 0 rfl rfl rfl inX6 0 (by decide) q1_179 rfl dX6_lateMilestones_1 ?_
  refine g_callS C (cs1 := [wX ax (bo 0) (tr 0) (ac 0) (ah 0) (at_ 0), wB E bo β, wB E tr τ, wC E ac γ, wH E ah bd η, wT E at_ θ, wB E (bd 2) (σ 2), wB E (bd 3) (σ 3), wB E (bd 4) (σ 4), wB E (bd 5) (σ 5), wB E (bd 6) (σ 6), wB E (bd 7) (σ 7), wB E (bd 8) (σ 8), wB E (bd 9) (σ 9)]) (st1 := [.int (fX5_overdueMilestones β)]) [.ref (bo 0)] [1] (kX5_overdueMilestones l E bo β hv) caX5_overdueMilestones q4_18 rfl ⟨Nat.le_of_ble_eq_true rfl, Nat.le_of_ble_eq_true rfl⟩ ⟨Nat.zero_le _, Nat.zero_le _⟩ (by decide) rfl rfl rfl rfl (Nat.le_of_ble_eq_true rfl) dX6_lateMilestones_4 rfl ?_
  have e_1 : fT_lateMilestones β = (fX5_overdueMilestones β) := by rw [fT_lateMilestones]
  exact g_iret C hE (by rw [e_1]) rfl dX6_lateMilestones_7
def fT_allPoints (β : BS) : Int32 :=
  (fX0_pointsOfSet β 1048575)
theorem caX6_allPoints : gCalV yX6_allPoints cX6_allPoints 1 (some .int) 0 := ⟨⟨q4_3, q1_1, by decide +kernel⟩, q4_1, q4_2⟩
set_option maxHeartbeats 4000000 in
set_option maxRecDepth 100000 in
theorem kT_allPoints (l : Launch) (E : gE) (ax : Nat) (bo : Nat → Nat) (β : BS) (tr : Nat → Nat) (τ : BS) (ac : Nat → Nat) (γ : BS) (ah : Nat → Nat) (bd : Nat → Nat → Nat) (η : BS) (σ : Nat → BS) (at_ : Nat → Nat) (θ : BS) (hv : vB β)   : MC l E yX6_allPoints cX6_allPoints 1 (some .int) 2 44 [.ref ax] [wX ax (bo 0) (tr 0) (ac 0) (ah 0) (at_ 0), wB E bo β, wB E tr τ, wC E ac γ, wH E ah bd η, wT E at_ θ, wB E (bd 2) (σ 2), wB E (bd 3) (σ 3), wB E (bd 4) (σ 4), wB E (bd 5) (σ 5), wB E (bd 6) (σ 6), wB E (bd 7) (σ 7), wB E (bd 8) (σ 8), wB E (bd 9) (σ 9)] (some (.int (fT_allPoints β))) [wX ax (bo 0) (tr 0) (ac 0) (ah 0) (at_ 0), wB E bo β, wB E tr τ, wC E ac γ, wH E ah bd η, wT E at_ θ, wB E (bd 2) (σ 2), wB E (bd 3) (σ 3), wB E (bd 4) (σ 4), wB E (bd 5) (σ 5), wB E (bd 6) (σ 6), wB E (bd 7) (σ 7), wB E (bd 8) (σ 8), wB E (bd 9) (σ 9)] := by
  have hv1 : cnt β ≤ 20 := hv.1
  refine mc_of (by decide +kernel) (Nat.le_of_ble_eq_true rfl) (lv := [(0, .ref ax)]) rfl (fun X C hE => ?_)
  refine g_aload_n C dX6_allPoints_0 rfl 0 rfl ?_
  refine g_getf C (T := TX6) (N := 5) 0 0 rfl rfl rfl inX6 0 (by decide) q1_179 rfl dX6_allPoints_1 ?_
  refine g_ldcw C q4_4 dX6_allPoints_4 ?_
  refine g_callV C (cs1 := [wX ax (bo 0) (tr 0) (ac 0) (ah 0) (at_ 0), wB E bo β, wB E tr τ, wC E ac γ, wH E ah bd η, wT E at_ θ, wB E (bd 2) (σ 2), wB E (bd 3) (σ 3), wB E (bd 4) (σ 4), wB E (bd 5) (σ 5), wB E (bd 6) (σ 6), wB E (bd 7) (σ 7), wB E (bd 8) (σ 8), wB E (bd 9) (σ 9)]) (st1 := [.int (fX0_pointsOfSet β 1048575)]) [.int 1048575] [1] (kX0_pointsOfSet l E bo β hv 1048575) caX0_pointsOfSet q3_214 rfl ⟨Nat.le_of_ble_eq_true rfl, Nat.le_of_ble_eq_true rfl⟩ ⟨Nat.zero_le _, Nat.zero_le _⟩ 1 0 rfl rfl rfl rfl (by decide) rfl rfl rfl rfl (Nat.le_of_ble_eq_true rfl) dX6_allPoints_7 rfl ?_
  have e_1 : fT_allPoints β = (fX0_pointsOfSet β 1048575) := by rw [fT_allPoints]
  exact g_iret C hE (by rw [e_1]) rfl dX6_allPoints_10
def fT_blockedTickets (β : BS) : Int32 :=
  (fX5_blockedAndUnfinished β)
theorem caX6_blockedTickets : gCalV yX6_blockedTickets cX6_blockedTickets 1 (some .int) 0 := ⟨⟨q4_8, q1_1, by decide +kernel⟩, q4_6, q4_7⟩
set_option maxHeartbeats 4000000 in
set_option maxRecDepth 100000 in
theorem kT_blockedTickets (l : Launch) (E : gE) (ax : Nat) (bo : Nat → Nat) (β : BS) (tr : Nat → Nat) (τ : BS) (ac : Nat → Nat) (γ : BS) (ah : Nat → Nat) (bd : Nat → Nat → Nat) (η : BS) (σ : Nat → BS) (at_ : Nat → Nat) (θ : BS) (hv : vB β)   : MC l E yX6_blockedTickets cX6_blockedTickets 1 (some .int) 4 83 [.ref ax] [wX ax (bo 0) (tr 0) (ac 0) (ah 0) (at_ 0), wB E bo β, wB E tr τ, wC E ac γ, wH E ah bd η, wT E at_ θ, wB E (bd 2) (σ 2), wB E (bd 3) (σ 3), wB E (bd 4) (σ 4), wB E (bd 5) (σ 5), wB E (bd 6) (σ 6), wB E (bd 7) (σ 7), wB E (bd 8) (σ 8), wB E (bd 9) (σ 9)] (some (.int (fT_blockedTickets β))) [wX ax (bo 0) (tr 0) (ac 0) (ah 0) (at_ 0), wB E bo β, wB E tr τ, wC E ac γ, wH E ah bd η, wT E at_ θ, wB E (bd 2) (σ 2), wB E (bd 3) (σ 3), wB E (bd 4) (σ 4), wB E (bd 5) (σ 5), wB E (bd 6) (σ 6), wB E (bd 7) (σ 7), wB E (bd 8) (σ 8), wB E (bd 9) (σ 9)] := by
  have hv1 : cnt β ≤ 20 := hv.1
  refine mc_of (by decide +kernel) (Nat.le_of_ble_eq_true rfl) (lv := [(0, .ref ax)]) rfl (fun X C hE => ?_)
  refine g_aload_n C dX6_blockedTickets_0 rfl 0 rfl ?_
  refine g_getf C (T := TX6) (N := 5) 0 0 rfl rfl rfl inX6 0 (by decide) q1_179 rfl dX6_blockedTickets_1 ?_
  refine g_callS C (cs1 := [wX ax (bo 0) (tr 0) (ac 0) (ah 0) (at_ 0), wB E bo β, wB E tr τ, wC E ac γ, wH E ah bd η, wT E at_ θ, wB E (bd 2) (σ 2), wB E (bd 3) (σ 3), wB E (bd 4) (σ 4), wB E (bd 5) (σ 5), wB E (bd 6) (σ 6), wB E (bd 7) (σ 7), wB E (bd 8) (σ 8), wB E (bd 9) (σ 9)]) (st1 := [.int (fX5_blockedAndUnfinished β)]) [.ref (bo 0)] [1] (kX5_blockedAndUnfinished l E bo β hv) caX5_blockedAndUnfinished q4_9 rfl ⟨Nat.le_of_ble_eq_true rfl, Nat.le_of_ble_eq_true rfl⟩ ⟨Nat.zero_le _, Nat.zero_le _⟩ (by decide) rfl rfl rfl rfl (Nat.le_of_ble_eq_true rfl) dX6_blockedTickets_4 rfl ?_
  have e_1 : fT_blockedTickets β = (fX5_blockedAndUnfinished β) := by rw [fT_blockedTickets]
  exact g_iret C hE (by rw [e_1]) rfl dX6_blockedTickets_7
def fT_pointsOfWeek (β : BS) : Int32 :=
  (fX5_closedInWeek β)
theorem caX6_pointsOfWeek : gCalV yX6_pointsOfWeek cX6_pointsOfWeek 1 (some .int) 0 := ⟨⟨q4_36, q1_1, by decide +kernel⟩, q4_34, q4_35⟩
set_option maxHeartbeats 4000000 in
set_option maxRecDepth 100000 in
theorem kT_pointsOfWeek (l : Launch) (E : gE) (ax : Nat) (bo : Nat → Nat) (β : BS) (tr : Nat → Nat) (τ : BS) (ac : Nat → Nat) (γ : BS) (ah : Nat → Nat) (bd : Nat → Nat → Nat) (η : BS) (σ : Nat → BS) (at_ : Nat → Nat) (θ : BS) (hv : vB β)   : MC l E yX6_pointsOfWeek cX6_pointsOfWeek 1 (some .int) 1 22 [.ref ax] [wX ax (bo 0) (tr 0) (ac 0) (ah 0) (at_ 0), wB E bo β, wB E tr τ, wC E ac γ, wH E ah bd η, wT E at_ θ, wB E (bd 2) (σ 2), wB E (bd 3) (σ 3), wB E (bd 4) (σ 4), wB E (bd 5) (σ 5), wB E (bd 6) (σ 6), wB E (bd 7) (σ 7), wB E (bd 8) (σ 8), wB E (bd 9) (σ 9)] (some (.int (fT_pointsOfWeek β))) [wX ax (bo 0) (tr 0) (ac 0) (ah 0) (at_ 0), wB E bo β, wB E tr τ, wC E ac γ, wH E ah bd η, wT E at_ θ, wB E (bd 2) (σ 2), wB E (bd 3) (σ 3), wB E (bd 4) (σ 4), wB E (bd 5) (σ 5), wB E (bd 6) (σ 6), wB E (bd 7) (σ 7), wB E (bd 8) (σ 8), wB E (bd 9) (σ 9)] := by
  have hv1 : cnt β ≤ 20 := hv.1
  refine mc_of (by decide +kernel) (Nat.le_of_ble_eq_true rfl) (lv := [(0, .ref ax)]) rfl (fun X C hE => ?_)
  refine g_aload_n C dX6_pointsOfWeek_0 rfl 0 rfl ?_
  refine g_getf C (T := TX6) (N := 5) 0 0 rfl rfl rfl inX6 0 (by decide) q1_179 rfl dX6_pointsOfWeek_1 ?_
  refine g_callS C (cs1 := [wX ax (bo 0) (tr 0) (ac 0) (ah 0) (at_ 0), wB E bo β, wB E tr τ, wC E ac γ, wH E ah bd η, wT E at_ θ, wB E (bd 2) (σ 2), wB E (bd 3) (σ 3), wB E (bd 4) (σ 4), wB E (bd 5) (σ 5), wB E (bd 6) (σ 6), wB E (bd 7) (σ 7), wB E (bd 8) (σ 8), wB E (bd 9) (σ 9)]) (st1 := [.int (fX5_closedInWeek β)]) [.ref (bo 0)] [1] (kX5_closedInWeek l E bo β hv) caX5_closedInWeek q4_37 rfl ⟨Nat.le_of_ble_eq_true rfl, Nat.le_of_ble_eq_true rfl⟩ ⟨Nat.zero_le _, Nat.zero_le _⟩ (by decide) rfl rfl rfl rfl (Nat.le_of_ble_eq_true rfl) dX6_pointsOfWeek_4 rfl ?_
  have e_1 : fT_pointsOfWeek β = (fX5_closedInWeek β) := by rw [fT_pointsOfWeek]
  exact g_iret C hE (by rw [e_1]) rfl dX6_pointsOfWeek_7
def fT_day (β : BS) : Int32 :=
  β.1 1
theorem caX6_day : gCalV yX6_day cX6_day 1 (some .int) 0 := ⟨⟨q2_141, q1_1, by decide +kernel⟩, q2_139, q2_140⟩
set_option maxHeartbeats 4000000 in
set_option maxRecDepth 100000 in
theorem kT_day (l : Launch) (E : gE) (ax : Nat) (bo : Nat → Nat) (β : BS) (tr : Nat → Nat) (τ : BS) (ac : Nat → Nat) (γ : BS) (ah : Nat → Nat) (bd : Nat → Nat → Nat) (η : BS) (σ : Nat → BS) (at_ : Nat → Nat) (θ : BS)   : MC l E yX6_day cX6_day 1 (some .int) 0 0 [.ref ax] [wX ax (bo 0) (tr 0) (ac 0) (ah 0) (at_ 0), wB E bo β, wB E tr τ, wC E ac γ, wH E ah bd η, wT E at_ θ, wB E (bd 2) (σ 2), wB E (bd 3) (σ 3), wB E (bd 4) (σ 4), wB E (bd 5) (σ 5), wB E (bd 6) (σ 6), wB E (bd 7) (σ 7), wB E (bd 8) (σ 8), wB E (bd 9) (σ 9)] (some (.int (fT_day β))) [wX ax (bo 0) (tr 0) (ac 0) (ah 0) (at_ 0), wB E bo β, wB E tr τ, wC E ac γ, wH E ah bd η, wT E at_ θ, wB E (bd 2) (σ 2), wB E (bd 3) (σ 3), wB E (bd 4) (σ 4), wB E (bd 5) (σ 5), wB E (bd 6) (σ 6), wB E (bd 7) (σ 7), wB E (bd 8) (σ 8), wB E (bd 9) (σ 9)] := by
  refine mc_of (by decide +kernel) (Nat.le_of_ble_eq_true rfl) (lv := [(0, .ref ax)]) rfl (fun X C hE => ?_)
  refine g_aload_n C dX6_day_0 rfl 0 rfl ?_
  refine g_getf C (T := TX6) (N := 5) 0 0 rfl rfl rfl inX6 0 (by decide) q1_179 rfl dX6_day_1 ?_
  refine g_getf C (T := TX0) (N := 17) 1 0 rfl rfl rfl inX0 1 (by decide) q1_36 rfl dX6_day_4 ?_
  have e_1 : fT_day β = β.1 1 := by rw [fT_day]
  exact g_iret C hE (by rw [e_1]) rfl dX6_day_7
def fT_closings (β : BS) : Int32 :=
  β.1 2
theorem caX6_closings : gCalV yX6_closings cX6_closings 1 (some .int) 0 := ⟨⟨q2_160, q1_1, by decide +kernel⟩, q2_158, q2_159⟩
set_option maxHeartbeats 4000000 in
set_option maxRecDepth 100000 in
theorem kT_closings (l : Launch) (E : gE) (ax : Nat) (bo : Nat → Nat) (β : BS) (tr : Nat → Nat) (τ : BS) (ac : Nat → Nat) (γ : BS) (ah : Nat → Nat) (bd : Nat → Nat → Nat) (η : BS) (σ : Nat → BS) (at_ : Nat → Nat) (θ : BS)   : MC l E yX6_closings cX6_closings 1 (some .int) 0 0 [.ref ax] [wX ax (bo 0) (tr 0) (ac 0) (ah 0) (at_ 0), wB E bo β, wB E tr τ, wC E ac γ, wH E ah bd η, wT E at_ θ, wB E (bd 2) (σ 2), wB E (bd 3) (σ 3), wB E (bd 4) (σ 4), wB E (bd 5) (σ 5), wB E (bd 6) (σ 6), wB E (bd 7) (σ 7), wB E (bd 8) (σ 8), wB E (bd 9) (σ 9)] (some (.int (fT_closings β))) [wX ax (bo 0) (tr 0) (ac 0) (ah 0) (at_ 0), wB E bo β, wB E tr τ, wC E ac γ, wH E ah bd η, wT E at_ θ, wB E (bd 2) (σ 2), wB E (bd 3) (σ 3), wB E (bd 4) (σ 4), wB E (bd 5) (σ 5), wB E (bd 6) (σ 6), wB E (bd 7) (σ 7), wB E (bd 8) (σ 8), wB E (bd 9) (σ 9)] := by
  refine mc_of (by decide +kernel) (Nat.le_of_ble_eq_true rfl) (lv := [(0, .ref ax)]) rfl (fun X C hE => ?_)
  refine g_aload_n C dX6_closings_0 rfl 0 rfl ?_
  refine g_getf C (T := TX6) (N := 5) 0 0 rfl rfl rfl inX6 0 (by decide) q1_179 rfl dX6_closings_1 ?_
  refine g_getf C (T := TX0) (N := 17) 1 0 rfl rfl rfl inX0 2 (by decide) q1_38 rfl dX6_closings_4 ?_
  have e_1 : fT_closings β = β.1 2 := by rw [fT_closings]
  exact g_iret C hE (by rw [e_1]) rfl dX6_closings_7
def fT_reopenings (β : BS) : Int32 :=
  β.1 3
theorem caX6_reopenings : gCalV yX6_reopenings cX6_reopenings 1 (some .int) 0 := ⟨⟨q2_164, q1_1, by decide +kernel⟩, q2_162, q2_163⟩
set_option maxHeartbeats 4000000 in
set_option maxRecDepth 100000 in
theorem kT_reopenings (l : Launch) (E : gE) (ax : Nat) (bo : Nat → Nat) (β : BS) (tr : Nat → Nat) (τ : BS) (ac : Nat → Nat) (γ : BS) (ah : Nat → Nat) (bd : Nat → Nat → Nat) (η : BS) (σ : Nat → BS) (at_ : Nat → Nat) (θ : BS)   : MC l E yX6_reopenings cX6_reopenings 1 (some .int) 0 0 [.ref ax] [wX ax (bo 0) (tr 0) (ac 0) (ah 0) (at_ 0), wB E bo β, wB E tr τ, wC E ac γ, wH E ah bd η, wT E at_ θ, wB E (bd 2) (σ 2), wB E (bd 3) (σ 3), wB E (bd 4) (σ 4), wB E (bd 5) (σ 5), wB E (bd 6) (σ 6), wB E (bd 7) (σ 7), wB E (bd 8) (σ 8), wB E (bd 9) (σ 9)] (some (.int (fT_reopenings β))) [wX ax (bo 0) (tr 0) (ac 0) (ah 0) (at_ 0), wB E bo β, wB E tr τ, wC E ac γ, wH E ah bd η, wT E at_ θ, wB E (bd 2) (σ 2), wB E (bd 3) (σ 3), wB E (bd 4) (σ 4), wB E (bd 5) (σ 5), wB E (bd 6) (σ 6), wB E (bd 7) (σ 7), wB E (bd 8) (σ 8), wB E (bd 9) (σ 9)] := by
  refine mc_of (by decide +kernel) (Nat.le_of_ble_eq_true rfl) (lv := [(0, .ref ax)]) rfl (fun X C hE => ?_)
  refine g_aload_n C dX6_reopenings_0 rfl 0 rfl ?_
  refine g_getf C (T := TX6) (N := 5) 0 0 rfl rfl rfl inX6 0 (by decide) q1_179 rfl dX6_reopenings_1 ?_
  refine g_getf C (T := TX0) (N := 17) 1 0 rfl rfl rfl inX0 3 (by decide) q1_40 rfl dX6_reopenings_4 ?_
  have e_1 : fT_reopenings β = β.1 3 := by rw [fT_reopenings]
  exact g_iret C hE (by rw [e_1]) rfl dX6_reopenings_7
def fT_tickets (β : BS) : Int32 :=
  β.1 0
theorem caX6_tickets : gCalV yX6_tickets cX6_tickets 1 (some .int) 0 := ⟨⟨q2_58, q1_1, by decide +kernel⟩, q2_56, q2_57⟩
set_option maxHeartbeats 4000000 in
set_option maxRecDepth 100000 in
theorem kT_tickets (l : Launch) (E : gE) (ax : Nat) (bo : Nat → Nat) (β : BS) (tr : Nat → Nat) (τ : BS) (ac : Nat → Nat) (γ : BS) (ah : Nat → Nat) (bd : Nat → Nat → Nat) (η : BS) (σ : Nat → BS) (at_ : Nat → Nat) (θ : BS)   : MC l E yX6_tickets cX6_tickets 1 (some .int) 0 0 [.ref ax] [wX ax (bo 0) (tr 0) (ac 0) (ah 0) (at_ 0), wB E bo β, wB E tr τ, wC E ac γ, wH E ah bd η, wT E at_ θ, wB E (bd 2) (σ 2), wB E (bd 3) (σ 3), wB E (bd 4) (σ 4), wB E (bd 5) (σ 5), wB E (bd 6) (σ 6), wB E (bd 7) (σ 7), wB E (bd 8) (σ 8), wB E (bd 9) (σ 9)] (some (.int (fT_tickets β))) [wX ax (bo 0) (tr 0) (ac 0) (ah 0) (at_ 0), wB E bo β, wB E tr τ, wC E ac γ, wH E ah bd η, wT E at_ θ, wB E (bd 2) (σ 2), wB E (bd 3) (σ 3), wB E (bd 4) (σ 4), wB E (bd 5) (σ 5), wB E (bd 6) (σ 6), wB E (bd 7) (σ 7), wB E (bd 8) (σ 8), wB E (bd 9) (σ 9)] := by
  refine mc_of (by decide +kernel) (Nat.le_of_ble_eq_true rfl) (lv := [(0, .ref ax)]) rfl (fun X C hE => ?_)
  refine g_aload_n C dX6_tickets_0 rfl 0 rfl ?_
  refine g_getf C (T := TX6) (N := 5) 0 0 rfl rfl rfl inX6 0 (by decide) q1_179 rfl dX6_tickets_1 ?_
  refine g_getf C (T := TX0) (N := 17) 1 0 rfl rfl rfl inX0 0 (by decide) q1_33 rfl dX6_tickets_4 ?_
  have e_1 : fT_tickets β = β.1 0 := by rw [fT_tickets]
  exact g_iret C hE (by rw [e_1]) rfl dX6_tickets_7
def fT_savedStates (η : BS) : Int32 :=
  (fX3_savedCount η)
theorem caX6_savedStates : gCalV yX6_savedStates cX6_savedStates 1 (some .int) 0 := ⟨⟨q2_54, q1_1, by decide +kernel⟩, q2_52, q2_53⟩
set_option maxHeartbeats 4000000 in
set_option maxRecDepth 100000 in
theorem kT_savedStates (l : Launch) (E : gE) (ax : Nat) (bo : Nat → Nat) (β : BS) (tr : Nat → Nat) (τ : BS) (ac : Nat → Nat) (γ : BS) (ah : Nat → Nat) (bd : Nat → Nat → Nat) (η : BS) (σ : Nat → BS) (at_ : Nat → Nat) (θ : BS)   : MC l E yX6_savedStates cX6_savedStates 1 (some .int) 1 20 [.ref ax] [wX ax (bo 0) (tr 0) (ac 0) (ah 0) (at_ 0), wB E bo β, wB E tr τ, wC E ac γ, wH E ah bd η, wT E at_ θ, wB E (bd 2) (σ 2), wB E (bd 3) (σ 3), wB E (bd 4) (σ 4), wB E (bd 5) (σ 5), wB E (bd 6) (σ 6), wB E (bd 7) (σ 7), wB E (bd 8) (σ 8), wB E (bd 9) (σ 9)] (some (.int (fT_savedStates η))) [wX ax (bo 0) (tr 0) (ac 0) (ah 0) (at_ 0), wB E bo β, wB E tr τ, wC E ac γ, wH E ah bd η, wT E at_ θ, wB E (bd 2) (σ 2), wB E (bd 3) (σ 3), wB E (bd 4) (σ 4), wB E (bd 5) (σ 5), wB E (bd 6) (σ 6), wB E (bd 7) (σ 7), wB E (bd 8) (σ 8), wB E (bd 9) (σ 9)] := by
  refine mc_of (by decide +kernel) (Nat.le_of_ble_eq_true rfl) (lv := [(0, .ref ax)]) rfl (fun X C hE => ?_)
  refine g_aload_n C dX6_savedStates_0 rfl 0 rfl ?_
  refine g_getf C (T := TX6) (N := 5) 0 0 rfl rfl rfl inX6 3 (by decide) q1_182 rfl dX6_savedStates_1 ?_
  refine g_callV C (cs1 := [wX ax (bo 0) (tr 0) (ac 0) (ah 0) (at_ 0), wB E bo β, wB E tr τ, wC E ac γ, wH E ah bd η, wT E at_ θ, wB E (bd 2) (σ 2), wB E (bd 3) (σ 3), wB E (bd 4) (σ 4), wB E (bd 5) (σ 5), wB E (bd 6) (σ 6), wB E (bd 7) (σ 7), wB E (bd 8) (σ 8), wB E (bd 9) (σ 9)]) (st1 := [.int (fX3_savedCount η)]) [] [4] (kX3_savedCount l E ah bd η) caX3_savedCount q1_199 rfl ⟨Nat.le_of_ble_eq_true rfl, Nat.le_of_ble_eq_true rfl⟩ ⟨Nat.zero_le _, Nat.zero_le _⟩ 4 0 rfl rfl rfl rfl (by decide) rfl rfl rfl rfl (Nat.le_of_ble_eq_true rfl) dX6_savedStates_4 rfl ?_
  have e_1 : fT_savedStates η = (fX3_savedCount η) := by rw [fT_savedStates]
  exact g_iret C hE (by rw [e_1]) rfl dX6_savedStates_7
def fT_meanDays (β : BS) : UInt64 :=
  (fX5_meanProgress β)
theorem caX6_meanDays : gCalV yX6_meanDays cX6_meanDays 1 (some .double) 0 := ⟨⟨q2_145, q1_1, by decide +kernel⟩, q2_143, q2_144⟩
set_option maxHeartbeats 4000000 in
set_option maxRecDepth 100000 in
theorem kT_meanDays (l : Launch) (E : gE) (ax : Nat) (bo : Nat → Nat) (β : BS) (tr : Nat → Nat) (τ : BS) (ac : Nat → Nat) (γ : BS) (ah : Nat → Nat) (bd : Nat → Nat → Nat) (η : BS) (σ : Nat → BS) (at_ : Nat → Nat) (θ : BS) (hv : vB β) (hnn : gNN)   : MC l E yX6_meanDays cX6_meanDays 1 (some .double) 1 23 [.ref ax] [wX ax (bo 0) (tr 0) (ac 0) (ah 0) (at_ 0), wB E bo β, wB E tr τ, wC E ac γ, wH E ah bd η, wT E at_ θ, wB E (bd 2) (σ 2), wB E (bd 3) (σ 3), wB E (bd 4) (σ 4), wB E (bd 5) (σ 5), wB E (bd 6) (σ 6), wB E (bd 7) (σ 7), wB E (bd 8) (σ 8), wB E (bd 9) (σ 9)] (some (.double (fT_meanDays β))) [wX ax (bo 0) (tr 0) (ac 0) (ah 0) (at_ 0), wB E bo β, wB E tr τ, wC E ac γ, wH E ah bd η, wT E at_ θ, wB E (bd 2) (σ 2), wB E (bd 3) (σ 3), wB E (bd 4) (σ 4), wB E (bd 5) (σ 5), wB E (bd 6) (σ 6), wB E (bd 7) (σ 7), wB E (bd 8) (σ 8), wB E (bd 9) (σ 9)] := by
  have hv1 : cnt β ≤ 20 := hv.1
  refine mc_of (by decide +kernel) (Nat.le_of_ble_eq_true rfl) (lv := [(0, .ref ax)]) rfl (fun X C hE => ?_)
  refine g_aload_n C dX6_meanDays_0 rfl 0 rfl ?_
  refine g_getf C (T := TX6) (N := 5) 0 0 rfl rfl rfl inX6 0 (by decide) q1_179 rfl dX6_meanDays_1 ?_
  refine g_callS C (cs1 := [wX ax (bo 0) (tr 0) (ac 0) (ah 0) (at_ 0), wB E bo β, wB E tr τ, wC E ac γ, wH E ah bd η, wT E at_ θ, wB E (bd 2) (σ 2), wB E (bd 3) (σ 3), wB E (bd 4) (σ 4), wB E (bd 5) (σ 5), wB E (bd 6) (σ 6), wB E (bd 7) (σ 7), wB E (bd 8) (σ 8), wB E (bd 9) (σ 9)]) (st1 := [.double (fX5_meanProgress β)]) [.ref (bo 0)] [1] (kX5_meanProgress l E bo β hv hnn) caX5_meanProgress q2_146 rfl ⟨Nat.le_of_ble_eq_true rfl, Nat.le_of_ble_eq_true rfl⟩ ⟨Nat.zero_le _, Nat.zero_le _⟩ (by decide) rfl rfl rfl rfl (Nat.le_of_ble_eq_true rfl) dX6_meanDays_4 rfl ?_
  have e_1 : fT_meanDays β = (fX5_meanProgress β) := by rw [fT_meanDays]
  exact g_dret C hE (by rw [e_1]) rfl dX6_meanDays_7
