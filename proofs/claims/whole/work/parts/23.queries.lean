def fX6_stateOf (β : BS) (a : Int32) : (String ⊕ Int32) :=
  if (fX0_hasTicket β a) = true then .inr (β.2 0 a.toNatClampNeg) else .inl xIO
theorem caX6_stateOf : gCalV yX6_stateOf cX6_stateOf 2 (some .int) 1 := ⟨⟨q5_70, q1_1, by decide +kernel⟩, q5_68, q5_69⟩
set_option maxHeartbeats 4000000 in
set_option maxRecDepth 100000 in
theorem kX6_stateOf (l : Launch) (E : gE) (ax : Nat) (bo : Nat → Nat) (β : BS) (tr : Nat → Nat) (τ : BS) (ac : Nat → Nat) (γ : BS) (ah : Nat → Nat) (bd : Nat → Nat → Nat) (η : BS) (σ : Nat → BS) (at_ : Nat → Nat) (θ : BS) (hlt : l.stackTraces = false) (hv : vB β)  (a : Int32) : MX l E yX6_stateOf cX6_stateOf 2 (some .int) 3 18 7 102 [.ref ax, .int a] [wX ax (bo 0) (tr 0) (ac 0) (ah 0) (at_ 0), wB E bo β, wB E tr τ, wC E ac γ, wH E ah bd η, wT E at_ θ, wB E (bd 2) (σ 2), wB E (bd 3) (σ 3), wB E (bd 4) (σ 4), wB E (bd 5) (σ 5), wB E (bd 6) (σ 6), wB E (bd 7) (σ 7), wB E (bd 8) (σ 8), wB E (bd 9) (σ 9)] (Sum.map id (fun v => some (.int v)) (fX6_stateOf β a)) [wX ax (bo 0) (tr 0) (ac 0) (ah 0) (at_ 0), wB E bo β, wB E tr τ, wC E ac γ, wH E ah bd η, wT E at_ θ, wB E (bd 2) (σ 2), wB E (bd 3) (σ 3), wB E (bd 4) (σ 4), wB E (bd 5) (σ 5), wB E (bd 6) (σ 6), wB E (bd 7) (σ 7), wB E (bd 8) (σ 8), wB E (bd 9) (σ 9)] := by
  have hv1 : cnt β ≤ 20 := hv.1
  refine mx_of hlt (by decide +kernel) (Nat.le_of_ble_eq_true rfl) (lv := [(0, .ref ax), (1, .int a)]) rfl (fun X C hT => ?_)
  refine g_aload_n C dX6_stateOf_0 rfl 0 rfl ?_
  refine g_getf C (T := TX6) (N := 5) 0 0 rfl rfl rfl inX6 0 (by decide) q1_192 rfl dX6_stateOf_1 ?_
  refine g_iload_n C dX6_stateOf_4 rfl 1 rfl ?_
  refine g_callV C (cs1 := [wX ax (bo 0) (tr 0) (ac 0) (ah 0) (at_ 0), wB E bo β, wB E tr τ, wC E ac γ, wH E ah bd η, wT E at_ θ, wB E (bd 2) (σ 2), wB E (bd 3) (σ 3), wB E (bd 4) (σ 4), wB E (bd 5) (σ 5), wB E (bd 6) (σ 6), wB E (bd 7) (σ 7), wB E (bd 8) (σ 8), wB E (bd 9) (σ 9)]) (st1 := [.int (b2i (fX0_hasTicket β a))]) [.int a] [1] (kX0_hasTicket l E bo β a) caX0_hasTicket q3_191 rfl ⟨Nat.le_of_ble_eq_true rfl, Nat.le_of_ble_eq_true rfl⟩ ⟨Nat.le_of_ble_eq_true rfl, Nat.le_of_ble_eq_true rfl⟩ 1 0 rfl rfl rfl rfl (by decide) rfl rfl rfl rfl (Nat.le_of_ble_eq_true rfl) dX6_stateOf_5 rfl ?_
  have e_2 : (fX0_hasTicket β a) = false → fX6_stateOf β a = .inl xIO := fun c_1 => by rw [fX6_stateOf]; rw [if_neg (ne_true_of_eq_false c_1)]
  refine g_req (b := (fX0_hasTicket β a)) C hT (kX6_requireIndex l E hlt (fX0_hasTicket β a)) caX6_requireIndex q3_195 ⟨Nat.le_of_ble_eq_true rfl, Nat.le_of_ble_eq_true rfl⟩ ⟨Nat.le_of_ble_eq_true rfl, Nat.le_of_ble_eq_true rfl⟩ ⟨Nat.le_of_ble_eq_true rfl, Nat.le_of_ble_eq_true rfl⟩ (fun c => by rw [e_2 c]; exact ⟨rfl, rfl⟩) (Nat.le_of_ble_eq_true rfl) dX6_stateOf_8 (fun c_3 => ?_)
  have hx_4 := hasTicket_i hv c_3
  refine g_aload_n C dX6_stateOf_11 rfl 0 rfl ?_
  refine g_getf C (T := TX6) (N := 5) 0 0 rfl rfl rfl inX6 0 (by decide) q1_192 rfl dX6_stateOf_12 ?_
  refine g_getf C (T := TX0) (N := 17) 1 0 rfl rfl rfl inX0 4 (by decide) q1_46 rfl dX6_stateOf_15 ?_
  refine g_iload_n C dX6_stateOf_18 rfl 1 rfl ?_
  refine g_ialdn C 1 1 a.toNatClampNeg rfl rfl hx_4.1 hx_4.2.1 (by decide) dX6_stateOf_19 ?_
  have e_5 : fX6_stateOf β a = .inr (β.2 0 a.toNatClampNeg) := by rw [fX6_stateOf]; rw [if_pos c_3]
  refine g_widen (k1 := 3) (n1 := 18) (Nat.le_of_ble_eq_true rfl) (Nat.le_of_ble_eq_true rfl) ?_
  exact g_iret C (gT_r hT (by rw [e_5] <;> rfl) rfl) rfl rfl dX6_stateOf_20
def fX6_pointsOf (β : BS) (a : Int32) : (String ⊕ Int32) :=
  if (fX0_hasTicket β a) = true then .inr (β.2 1 a.toNatClampNeg) else .inl xIO
theorem caX6_pointsOf : gCalV yX6_pointsOf cX6_pointsOf 2 (some .int) 1 := ⟨⟨q5_77, q1_1, by decide +kernel⟩, q5_75, q5_76⟩
set_option maxHeartbeats 4000000 in
set_option maxRecDepth 100000 in
theorem kX6_pointsOf (l : Launch) (E : gE) (ax : Nat) (bo : Nat → Nat) (β : BS) (tr : Nat → Nat) (τ : BS) (ac : Nat → Nat) (γ : BS) (ah : Nat → Nat) (bd : Nat → Nat → Nat) (η : BS) (σ : Nat → BS) (at_ : Nat → Nat) (θ : BS) (hlt : l.stackTraces = false) (hv : vB β)  (a : Int32) : MX l E yX6_pointsOf cX6_pointsOf 2 (some .int) 3 18 7 102 [.ref ax, .int a] [wX ax (bo 0) (tr 0) (ac 0) (ah 0) (at_ 0), wB E bo β, wB E tr τ, wC E ac γ, wH E ah bd η, wT E at_ θ, wB E (bd 2) (σ 2), wB E (bd 3) (σ 3), wB E (bd 4) (σ 4), wB E (bd 5) (σ 5), wB E (bd 6) (σ 6), wB E (bd 7) (σ 7), wB E (bd 8) (σ 8), wB E (bd 9) (σ 9)] (Sum.map id (fun v => some (.int v)) (fX6_pointsOf β a)) [wX ax (bo 0) (tr 0) (ac 0) (ah 0) (at_ 0), wB E bo β, wB E tr τ, wC E ac γ, wH E ah bd η, wT E at_ θ, wB E (bd 2) (σ 2), wB E (bd 3) (σ 3), wB E (bd 4) (σ 4), wB E (bd 5) (σ 5), wB E (bd 6) (σ 6), wB E (bd 7) (σ 7), wB E (bd 8) (σ 8), wB E (bd 9) (σ 9)] := by
  have hv1 : cnt β ≤ 20 := hv.1
  refine mx_of hlt (by decide +kernel) (Nat.le_of_ble_eq_true rfl) (lv := [(0, .ref ax), (1, .int a)]) rfl (fun X C hT => ?_)
  refine g_aload_n C dX6_pointsOf_0 rfl 0 rfl ?_
  refine g_getf C (T := TX6) (N := 5) 0 0 rfl rfl rfl inX6 0 (by decide) q1_192 rfl dX6_pointsOf_1 ?_
  refine g_iload_n C dX6_pointsOf_4 rfl 1 rfl ?_
  refine g_callV C (cs1 := [wX ax (bo 0) (tr 0) (ac 0) (ah 0) (at_ 0), wB E bo β, wB E tr τ, wC E ac γ, wH E ah bd η, wT E at_ θ, wB E (bd 2) (σ 2), wB E (bd 3) (σ 3), wB E (bd 4) (σ 4), wB E (bd 5) (σ 5), wB E (bd 6) (σ 6), wB E (bd 7) (σ 7), wB E (bd 8) (σ 8), wB E (bd 9) (σ 9)]) (st1 := [.int (b2i (fX0_hasTicket β a))]) [.int a] [1] (kX0_hasTicket l E bo β a) caX0_hasTicket q3_191 rfl ⟨Nat.le_of_ble_eq_true rfl, Nat.le_of_ble_eq_true rfl⟩ ⟨Nat.le_of_ble_eq_true rfl, Nat.le_of_ble_eq_true rfl⟩ 1 0 rfl rfl rfl rfl (by decide) rfl rfl rfl rfl (Nat.le_of_ble_eq_true rfl) dX6_pointsOf_5 rfl ?_
  have e_2 : (fX0_hasTicket β a) = false → fX6_pointsOf β a = .inl xIO := fun c_1 => by rw [fX6_pointsOf]; rw [if_neg (ne_true_of_eq_false c_1)]
  refine g_req (b := (fX0_hasTicket β a)) C hT (kX6_requireIndex l E hlt (fX0_hasTicket β a)) caX6_requireIndex q3_195 ⟨Nat.le_of_ble_eq_true rfl, Nat.le_of_ble_eq_true rfl⟩ ⟨Nat.le_of_ble_eq_true rfl, Nat.le_of_ble_eq_true rfl⟩ ⟨Nat.le_of_ble_eq_true rfl, Nat.le_of_ble_eq_true rfl⟩ (fun c => by rw [e_2 c]; exact ⟨rfl, rfl⟩) (Nat.le_of_ble_eq_true rfl) dX6_pointsOf_8 (fun c_3 => ?_)
  have hx_4 := hasTicket_i hv c_3
  refine g_aload_n C dX6_pointsOf_11 rfl 0 rfl ?_
  refine g_getf C (T := TX6) (N := 5) 0 0 rfl rfl rfl inX6 0 (by decide) q1_192 rfl dX6_pointsOf_12 ?_
  refine g_getf C (T := TX0) (N := 17) 1 0 rfl rfl rfl inX0 5 (by decide) q1_51 rfl dX6_pointsOf_15 ?_
  refine g_iload_n C dX6_pointsOf_18 rfl 1 rfl ?_
  refine g_ialdn C 1 2 a.toNatClampNeg rfl rfl hx_4.1 hx_4.2.1 (by decide) dX6_pointsOf_19 ?_
  have e_5 : fX6_pointsOf β a = .inr (β.2 1 a.toNatClampNeg) := by rw [fX6_pointsOf]; rw [if_pos c_3]
  refine g_widen (k1 := 3) (n1 := 18) (Nat.le_of_ble_eq_true rfl) (Nat.le_of_ble_eq_true rfl) ?_
  exact g_iret C (gT_r hT (by rw [e_5] <;> rfl) rfl) rfl rfl dX6_pointsOf_20
def fX6_priorityOf (β : BS) (a : Int32) : (String ⊕ Int32) :=
  if (fX0_hasTicket β a) = true then .inr (β.2 2 a.toNatClampNeg) else .inl xIO
theorem caX6_priorityOf : gCalV yX6_priorityOf cX6_priorityOf 2 (some .int) 1 := ⟨⟨q5_84, q1_1, by decide +kernel⟩, q5_82, q5_83⟩
set_option maxHeartbeats 4000000 in
set_option maxRecDepth 100000 in
theorem kX6_priorityOf (l : Launch) (E : gE) (ax : Nat) (bo : Nat → Nat) (β : BS) (tr : Nat → Nat) (τ : BS) (ac : Nat → Nat) (γ : BS) (ah : Nat → Nat) (bd : Nat → Nat → Nat) (η : BS) (σ : Nat → BS) (at_ : Nat → Nat) (θ : BS) (hlt : l.stackTraces = false) (hv : vB β)  (a : Int32) : MX l E yX6_priorityOf cX6_priorityOf 2 (some .int) 3 18 7 102 [.ref ax, .int a] [wX ax (bo 0) (tr 0) (ac 0) (ah 0) (at_ 0), wB E bo β, wB E tr τ, wC E ac γ, wH E ah bd η, wT E at_ θ, wB E (bd 2) (σ 2), wB E (bd 3) (σ 3), wB E (bd 4) (σ 4), wB E (bd 5) (σ 5), wB E (bd 6) (σ 6), wB E (bd 7) (σ 7), wB E (bd 8) (σ 8), wB E (bd 9) (σ 9)] (Sum.map id (fun v => some (.int v)) (fX6_priorityOf β a)) [wX ax (bo 0) (tr 0) (ac 0) (ah 0) (at_ 0), wB E bo β, wB E tr τ, wC E ac γ, wH E ah bd η, wT E at_ θ, wB E (bd 2) (σ 2), wB E (bd 3) (σ 3), wB E (bd 4) (σ 4), wB E (bd 5) (σ 5), wB E (bd 6) (σ 6), wB E (bd 7) (σ 7), wB E (bd 8) (σ 8), wB E (bd 9) (σ 9)] := by
  have hv1 : cnt β ≤ 20 := hv.1
  refine mx_of hlt (by decide +kernel) (Nat.le_of_ble_eq_true rfl) (lv := [(0, .ref ax), (1, .int a)]) rfl (fun X C hT => ?_)
  refine g_aload_n C dX6_priorityOf_0 rfl 0 rfl ?_
  refine g_getf C (T := TX6) (N := 5) 0 0 rfl rfl rfl inX6 0 (by decide) q1_192 rfl dX6_priorityOf_1 ?_
  refine g_iload_n C dX6_priorityOf_4 rfl 1 rfl ?_
  refine g_callV C (cs1 := [wX ax (bo 0) (tr 0) (ac 0) (ah 0) (at_ 0), wB E bo β, wB E tr τ, wC E ac γ, wH E ah bd η, wT E at_ θ, wB E (bd 2) (σ 2), wB E (bd 3) (σ 3), wB E (bd 4) (σ 4), wB E (bd 5) (σ 5), wB E (bd 6) (σ 6), wB E (bd 7) (σ 7), wB E (bd 8) (σ 8), wB E (bd 9) (σ 9)]) (st1 := [.int (b2i (fX0_hasTicket β a))]) [.int a] [1] (kX0_hasTicket l E bo β a) caX0_hasTicket q3_191 rfl ⟨Nat.le_of_ble_eq_true rfl, Nat.le_of_ble_eq_true rfl⟩ ⟨Nat.le_of_ble_eq_true rfl, Nat.le_of_ble_eq_true rfl⟩ 1 0 rfl rfl rfl rfl (by decide) rfl rfl rfl rfl (Nat.le_of_ble_eq_true rfl) dX6_priorityOf_5 rfl ?_
  have e_2 : (fX0_hasTicket β a) = false → fX6_priorityOf β a = .inl xIO := fun c_1 => by rw [fX6_priorityOf]; rw [if_neg (ne_true_of_eq_false c_1)]
  refine g_req (b := (fX0_hasTicket β a)) C hT (kX6_requireIndex l E hlt (fX0_hasTicket β a)) caX6_requireIndex q3_195 ⟨Nat.le_of_ble_eq_true rfl, Nat.le_of_ble_eq_true rfl⟩ ⟨Nat.le_of_ble_eq_true rfl, Nat.le_of_ble_eq_true rfl⟩ ⟨Nat.le_of_ble_eq_true rfl, Nat.le_of_ble_eq_true rfl⟩ (fun c => by rw [e_2 c]; exact ⟨rfl, rfl⟩) (Nat.le_of_ble_eq_true rfl) dX6_priorityOf_8 (fun c_3 => ?_)
  have hx_4 := hasTicket_i hv c_3
  refine g_aload_n C dX6_priorityOf_11 rfl 0 rfl ?_
  refine g_getf C (T := TX6) (N := 5) 0 0 rfl rfl rfl inX6 0 (by decide) q1_192 rfl dX6_priorityOf_12 ?_
  refine g_getf C (T := TX0) (N := 17) 1 0 rfl rfl rfl inX0 6 (by decide) q1_54 rfl dX6_priorityOf_15 ?_
  refine g_iload_n C dX6_priorityOf_18 rfl 1 rfl ?_
  refine g_ialdn C 1 3 a.toNatClampNeg rfl rfl hx_4.1 hx_4.2.1 (by decide) dX6_priorityOf_19 ?_
  have e_5 : fX6_priorityOf β a = .inr (β.2 2 a.toNatClampNeg) := by rw [fX6_priorityOf]; rw [if_pos c_3]
  refine g_widen (k1 := 3) (n1 := 18) (Nat.le_of_ble_eq_true rfl) (Nat.le_of_ble_eq_true rfl) ?_
  exact g_iret C (gT_r hT (by rw [e_5] <;> rfl) rfl) rfl rfl dX6_priorityOf_20
def fX6_hasOwner (β : BS) (a : Int32) : (String ⊕ Bool) :=
  if (fX0_hasTicket β a) = true then (if (β.2 3 a.toNatClampNeg) = (-1) then .inr false else .inr true) else .inl xIO
theorem caX6_hasOwner : gCalV yX6_hasOwner cX6_hasOwner 2 (some .boolean) 1 := ⟨⟨q5_91, q1_1, by decide +kernel⟩, q5_89, q5_90⟩
set_option maxHeartbeats 4000000 in
set_option maxRecDepth 100000 in
theorem kX6_hasOwner (l : Launch) (E : gE) (ax : Nat) (bo : Nat → Nat) (β : BS) (tr : Nat → Nat) (τ : BS) (ac : Nat → Nat) (γ : BS) (ah : Nat → Nat) (bd : Nat → Nat → Nat) (η : BS) (σ : Nat → BS) (at_ : Nat → Nat) (θ : BS) (hlt : l.stackTraces = false) (hv : vB β)  (a : Int32) : MX l E yX6_hasOwner cX6_hasOwner 2 (some .boolean) 3 18 7 102 [.ref ax, .int a] [wX ax (bo 0) (tr 0) (ac 0) (ah 0) (at_ 0), wB E bo β, wB E tr τ, wC E ac γ, wH E ah bd η, wT E at_ θ, wB E (bd 2) (σ 2), wB E (bd 3) (σ 3), wB E (bd 4) (σ 4), wB E (bd 5) (σ 5), wB E (bd 6) (σ 6), wB E (bd 7) (σ 7), wB E (bd 8) (σ 8), wB E (bd 9) (σ 9)] (Sum.map id (fun v => some (.int (b2i v))) (fX6_hasOwner β a)) [wX ax (bo 0) (tr 0) (ac 0) (ah 0) (at_ 0), wB E bo β, wB E tr τ, wC E ac γ, wH E ah bd η, wT E at_ θ, wB E (bd 2) (σ 2), wB E (bd 3) (σ 3), wB E (bd 4) (σ 4), wB E (bd 5) (σ 5), wB E (bd 6) (σ 6), wB E (bd 7) (σ 7), wB E (bd 8) (σ 8), wB E (bd 9) (σ 9)] := by
  have hv1 : cnt β ≤ 20 := hv.1
  refine mx_of hlt (by decide +kernel) (Nat.le_of_ble_eq_true rfl) (lv := [(0, .ref ax), (1, .int a)]) rfl (fun X C hT => ?_)
  refine g_aload_n C dX6_hasOwner_0 rfl 0 rfl ?_
  refine g_getf C (T := TX6) (N := 5) 0 0 rfl rfl rfl inX6 0 (by decide) q1_192 rfl dX6_hasOwner_1 ?_
  refine g_iload_n C dX6_hasOwner_4 rfl 1 rfl ?_
  refine g_callV C (cs1 := [wX ax (bo 0) (tr 0) (ac 0) (ah 0) (at_ 0), wB E bo β, wB E tr τ, wC E ac γ, wH E ah bd η, wT E at_ θ, wB E (bd 2) (σ 2), wB E (bd 3) (σ 3), wB E (bd 4) (σ 4), wB E (bd 5) (σ 5), wB E (bd 6) (σ 6), wB E (bd 7) (σ 7), wB E (bd 8) (σ 8), wB E (bd 9) (σ 9)]) (st1 := [.int (b2i (fX0_hasTicket β a))]) [.int a] [1] (kX0_hasTicket l E bo β a) caX0_hasTicket q3_191 rfl ⟨Nat.le_of_ble_eq_true rfl, Nat.le_of_ble_eq_true rfl⟩ ⟨Nat.le_of_ble_eq_true rfl, Nat.le_of_ble_eq_true rfl⟩ 1 0 rfl rfl rfl rfl (by decide) rfl rfl rfl rfl (Nat.le_of_ble_eq_true rfl) dX6_hasOwner_5 rfl ?_
  have e_2 : (fX0_hasTicket β a) = false → fX6_hasOwner β a = .inl xIO := fun c_1 => by rw [fX6_hasOwner]; rw [if_neg (ne_true_of_eq_false c_1)]
  refine g_req (b := (fX0_hasTicket β a)) C hT (kX6_requireIndex l E hlt (fX0_hasTicket β a)) caX6_requireIndex q3_195 ⟨Nat.le_of_ble_eq_true rfl, Nat.le_of_ble_eq_true rfl⟩ ⟨Nat.le_of_ble_eq_true rfl, Nat.le_of_ble_eq_true rfl⟩ ⟨Nat.le_of_ble_eq_true rfl, Nat.le_of_ble_eq_true rfl⟩ (fun c => by rw [e_2 c]; exact ⟨rfl, rfl⟩) (Nat.le_of_ble_eq_true rfl) dX6_hasOwner_8 (fun c_3 => ?_)
  have hx_4 := hasTicket_i hv c_3
  refine g_aload_n C dX6_hasOwner_11 rfl 0 rfl ?_
  refine g_getf C (T := TX6) (N := 5) 0 0 rfl rfl rfl inX6 0 (by decide) q1_192 rfl dX6_hasOwner_12 ?_
  refine g_getf C (T := TX0) (N := 17) 1 0 rfl rfl rfl inX0 7 (by decide) q1_56 rfl dX6_hasOwner_15 ?_
  refine g_iload_n C dX6_hasOwner_18 rfl 1 rfl ?_
  refine g_ialdn C 1 4 a.toNatClampNeg rfl rfl hx_4.1 hx_4.2.1 (by decide) dX6_hasOwner_19 ?_
  refine g_iconst C (v := -1) dX6_hasOwner_20 (by decide) ?_
  refine g_icmp_eq C 28 dX6_hasOwner_21 (by decide) (fun c_5 => ?_) (fun c_5 => ?_)
  · skip
    refine g_iconst C (v := 0) dX6_hasOwner_28 (by decide) ?_
    have e_6 : fX6_hasOwner β a = .inr false := by rw [fX6_hasOwner]; rw [if_pos c_3, if_pos c_5]
    refine g_widen (k1 := 3) (n1 := 18) (Nat.le_of_ble_eq_true rfl) (Nat.le_of_ble_eq_true rfl) ?_
    exact g_zret (b := false) C (gT_r hT (by rw [e_6] <;> rfl) rfl) rfl rfl rfl dX6_hasOwner_29
  · skip
    refine g_iconst C (v := 1) dX6_hasOwner_24 (by decide) ?_
    refine g_goto C 29 dX6_hasOwner_25 (by decide) ?_
    have e_7 : fX6_hasOwner β a = .inr true := by rw [fX6_hasOwner]; rw [if_pos c_3, if_neg c_5]
    refine g_widen (k1 := 3) (n1 := 18) (Nat.le_of_ble_eq_true rfl) (Nat.le_of_ble_eq_true rfl) ?_
    exact g_zret (b := true) C (gT_r hT (by rw [e_7] <;> rfl) rfl) rfl rfl rfl dX6_hasOwner_29
def fX6_ownerOf (β : BS) (a : Int32) : (String ⊕ Int32) :=
  if (fX0_hasTicket β a) = true then (if (β.2 3 a.toNatClampNeg) = (-1) then .inl xIS else .inr (β.2 3 a.toNatClampNeg)) else .inl xIO
theorem caX6_ownerOf : gCalV yX6_ownerOf cX6_ownerOf 2 (some .int) 1 := ⟨⟨q5_98, q1_1, by decide +kernel⟩, q5_96, q5_97⟩
set_option maxHeartbeats 4000000 in
set_option maxRecDepth 100000 in
theorem kX6_ownerOf (l : Launch) (E : gE) (ax : Nat) (bo : Nat → Nat) (β : BS) (tr : Nat → Nat) (τ : BS) (ac : Nat → Nat) (γ : BS) (ah : Nat → Nat) (bd : Nat → Nat → Nat) (η : BS) (σ : Nat → BS) (at_ : Nat → Nat) (θ : BS) (hlt : l.stackTraces = false) (hv : vB β)  (a : Int32) : MX l E yX6_ownerOf cX6_ownerOf 2 (some .int) 3 18 7 102 [.ref ax, .int a] [wX ax (bo 0) (tr 0) (ac 0) (ah 0) (at_ 0), wB E bo β, wB E tr τ, wC E ac γ, wH E ah bd η, wT E at_ θ, wB E (bd 2) (σ 2), wB E (bd 3) (σ 3), wB E (bd 4) (σ 4), wB E (bd 5) (σ 5), wB E (bd 6) (σ 6), wB E (bd 7) (σ 7), wB E (bd 8) (σ 8), wB E (bd 9) (σ 9)] (Sum.map id (fun v => some (.int v)) (fX6_ownerOf β a)) [wX ax (bo 0) (tr 0) (ac 0) (ah 0) (at_ 0), wB E bo β, wB E tr τ, wC E ac γ, wH E ah bd η, wT E at_ θ, wB E (bd 2) (σ 2), wB E (bd 3) (σ 3), wB E (bd 4) (σ 4), wB E (bd 5) (σ 5), wB E (bd 6) (σ 6), wB E (bd 7) (σ 7), wB E (bd 8) (σ 8), wB E (bd 9) (σ 9)] := by
  have hv1 : cnt β ≤ 20 := hv.1
  refine mx_of hlt (by decide +kernel) (Nat.le_of_ble_eq_true rfl) (lv := [(0, .ref ax), (1, .int a)]) rfl (fun X C hT => ?_)
  refine g_aload_n C dX6_ownerOf_0 rfl 0 rfl ?_
  refine g_getf C (T := TX6) (N := 5) 0 0 rfl rfl rfl inX6 0 (by decide) q1_192 rfl dX6_ownerOf_1 ?_
  refine g_iload_n C dX6_ownerOf_4 rfl 1 rfl ?_
  refine g_callV C (cs1 := [wX ax (bo 0) (tr 0) (ac 0) (ah 0) (at_ 0), wB E bo β, wB E tr τ, wC E ac γ, wH E ah bd η, wT E at_ θ, wB E (bd 2) (σ 2), wB E (bd 3) (σ 3), wB E (bd 4) (σ 4), wB E (bd 5) (σ 5), wB E (bd 6) (σ 6), wB E (bd 7) (σ 7), wB E (bd 8) (σ 8), wB E (bd 9) (σ 9)]) (st1 := [.int (b2i (fX0_hasTicket β a))]) [.int a] [1] (kX0_hasTicket l E bo β a) caX0_hasTicket q3_191 rfl ⟨Nat.le_of_ble_eq_true rfl, Nat.le_of_ble_eq_true rfl⟩ ⟨Nat.le_of_ble_eq_true rfl, Nat.le_of_ble_eq_true rfl⟩ 1 0 rfl rfl rfl rfl (by decide) rfl rfl rfl rfl (Nat.le_of_ble_eq_true rfl) dX6_ownerOf_5 rfl ?_
  have e_2 : (fX0_hasTicket β a) = false → fX6_ownerOf β a = .inl xIO := fun c_1 => by rw [fX6_ownerOf]; rw [if_neg (ne_true_of_eq_false c_1)]
  refine g_req (b := (fX0_hasTicket β a)) C hT (kX6_requireIndex l E hlt (fX0_hasTicket β a)) caX6_requireIndex q3_195 ⟨Nat.le_of_ble_eq_true rfl, Nat.le_of_ble_eq_true rfl⟩ ⟨Nat.le_of_ble_eq_true rfl, Nat.le_of_ble_eq_true rfl⟩ ⟨Nat.le_of_ble_eq_true rfl, Nat.le_of_ble_eq_true rfl⟩ (fun c => by rw [e_2 c]; exact ⟨rfl, rfl⟩) (Nat.le_of_ble_eq_true rfl) dX6_ownerOf_8 (fun c_3 => ?_)
  have hx_4 := hasTicket_i hv c_3
  refine g_aload_n C dX6_ownerOf_11 rfl 0 rfl ?_
  refine g_getf C (T := TX6) (N := 5) 0 0 rfl rfl rfl inX6 0 (by decide) q1_192 rfl dX6_ownerOf_12 ?_
  refine g_getf C (T := TX0) (N := 17) 1 0 rfl rfl rfl inX0 7 (by decide) q1_56 rfl dX6_ownerOf_15 ?_
  refine g_iload_n C dX6_ownerOf_18 rfl 1 rfl ?_
  refine g_ialdn C 1 4 a.toNatClampNeg rfl rfl hx_4.1 hx_4.2.1 (by decide) dX6_ownerOf_19 ?_
  refine g_iconst C (v := -1) dX6_ownerOf_20 (by decide) ?_
  refine g_icmp_eq C 28 dX6_ownerOf_21 (by decide) (fun c_5 => ?_) (fun c_5 => ?_)
  · skip
    refine g_iconst C (v := 0) dX6_ownerOf_28 (by decide) ?_
    have e_7 : false = false → fX6_ownerOf β a = .inl xIS := fun c_6 => by rw [fX6_ownerOf]; rw [if_pos c_3, if_pos c_5]
    exact g_req (b := false) C hT (kX6_requireState l E hlt false) caX6_requireState q3_143 ⟨Nat.le_of_ble_eq_true rfl, Nat.le_of_ble_eq_true rfl⟩ ⟨Nat.le_of_ble_eq_true rfl, Nat.le_of_ble_eq_true rfl⟩ ⟨Nat.le_of_ble_eq_true rfl, Nat.le_of_ble_eq_true rfl⟩ (fun c => by rw [e_7 c]; exact ⟨rfl, rfl⟩) (Nat.le_of_ble_eq_true rfl) dX6_ownerOf_29 (fun h => absurd h (by decide))
  · skip
    refine g_iconst C (v := 1) dX6_ownerOf_24 (by decide) ?_
    refine g_goto C 29 dX6_ownerOf_25 (by decide) ?_
    refine g_req (b := true) C hT (kX6_requireState l E hlt true) caX6_requireState q3_143 ⟨Nat.le_of_ble_eq_true rfl, Nat.le_of_ble_eq_true rfl⟩ ⟨Nat.le_of_ble_eq_true rfl, Nat.le_of_ble_eq_true rfl⟩ ⟨Nat.le_of_ble_eq_true rfl, Nat.le_of_ble_eq_true rfl⟩ (fun h => absurd h (by decide)) (Nat.le_of_ble_eq_true rfl) dX6_ownerOf_29 (fun _ => ?_)
    refine g_aload_n C dX6_ownerOf_32 rfl 0 rfl ?_
    refine g_getf C (T := TX6) (N := 5) 0 0 rfl rfl rfl inX6 0 (by decide) q1_192 rfl dX6_ownerOf_33 ?_
    refine g_getf C (T := TX0) (N := 17) 1 0 rfl rfl rfl inX0 7 (by decide) q1_56 rfl dX6_ownerOf_36 ?_
    refine g_iload_n C dX6_ownerOf_39 rfl 1 rfl ?_
    refine g_ialdn C 1 4 a.toNatClampNeg rfl rfl hx_4.1 hx_4.2.1 (by decide) dX6_ownerOf_40 ?_
    have e_10 : fX6_ownerOf β a = .inr (β.2 3 a.toNatClampNeg) := by rw [fX6_ownerOf]; rw [if_pos c_3, if_neg c_5]
    refine g_widen (k1 := 3) (n1 := 18) (Nat.le_of_ble_eq_true rfl) (Nat.le_of_ble_eq_true rfl) ?_
    exact g_iret C (gT_r hT (by rw [e_10] <;> rfl) rfl) rfl rfl dX6_ownerOf_41
def fX6_isPlanned (β : BS) (a : Int32) : (String ⊕ Bool) :=
  if (fX0_hasTicket β a) = true then (if (β.2 4 a.toNatClampNeg) = (-1) then .inr false else .inr true) else .inl xIO
theorem caX6_isPlanned : gCalV yX6_isPlanned cX6_isPlanned 2 (some .boolean) 1 := ⟨⟨q5_105, q1_1, by decide +kernel⟩, q5_103, q5_104⟩
set_option maxHeartbeats 4000000 in
set_option maxRecDepth 100000 in
theorem kX6_isPlanned (l : Launch) (E : gE) (ax : Nat) (bo : Nat → Nat) (β : BS) (tr : Nat → Nat) (τ : BS) (ac : Nat → Nat) (γ : BS) (ah : Nat → Nat) (bd : Nat → Nat → Nat) (η : BS) (σ : Nat → BS) (at_ : Nat → Nat) (θ : BS) (hlt : l.stackTraces = false) (hv : vB β)  (a : Int32) : MX l E yX6_isPlanned cX6_isPlanned 2 (some .boolean) 3 18 7 102 [.ref ax, .int a] [wX ax (bo 0) (tr 0) (ac 0) (ah 0) (at_ 0), wB E bo β, wB E tr τ, wC E ac γ, wH E ah bd η, wT E at_ θ, wB E (bd 2) (σ 2), wB E (bd 3) (σ 3), wB E (bd 4) (σ 4), wB E (bd 5) (σ 5), wB E (bd 6) (σ 6), wB E (bd 7) (σ 7), wB E (bd 8) (σ 8), wB E (bd 9) (σ 9)] (Sum.map id (fun v => some (.int (b2i v))) (fX6_isPlanned β a)) [wX ax (bo 0) (tr 0) (ac 0) (ah 0) (at_ 0), wB E bo β, wB E tr τ, wC E ac γ, wH E ah bd η, wT E at_ θ, wB E (bd 2) (σ 2), wB E (bd 3) (σ 3), wB E (bd 4) (σ 4), wB E (bd 5) (σ 5), wB E (bd 6) (σ 6), wB E (bd 7) (σ 7), wB E (bd 8) (σ 8), wB E (bd 9) (σ 9)] := by
  have hv1 : cnt β ≤ 20 := hv.1
  refine mx_of hlt (by decide +kernel) (Nat.le_of_ble_eq_true rfl) (lv := [(0, .ref ax), (1, .int a)]) rfl (fun X C hT => ?_)
  refine g_aload_n C dX6_isPlanned_0 rfl 0 rfl ?_
  refine g_getf C (T := TX6) (N := 5) 0 0 rfl rfl rfl inX6 0 (by decide) q1_192 rfl dX6_isPlanned_1 ?_
  refine g_iload_n C dX6_isPlanned_4 rfl 1 rfl ?_
  refine g_callV C (cs1 := [wX ax (bo 0) (tr 0) (ac 0) (ah 0) (at_ 0), wB E bo β, wB E tr τ, wC E ac γ, wH E ah bd η, wT E at_ θ, wB E (bd 2) (σ 2), wB E (bd 3) (σ 3), wB E (bd 4) (σ 4), wB E (bd 5) (σ 5), wB E (bd 6) (σ 6), wB E (bd 7) (σ 7), wB E (bd 8) (σ 8), wB E (bd 9) (σ 9)]) (st1 := [.int (b2i (fX0_hasTicket β a))]) [.int a] [1] (kX0_hasTicket l E bo β a) caX0_hasTicket q3_191 rfl ⟨Nat.le_of_ble_eq_true rfl, Nat.le_of_ble_eq_true rfl⟩ ⟨Nat.le_of_ble_eq_true rfl, Nat.le_of_ble_eq_true rfl⟩ 1 0 rfl rfl rfl rfl (by decide) rfl rfl rfl rfl (Nat.le_of_ble_eq_true rfl) dX6_isPlanned_5 rfl ?_
  have e_2 : (fX0_hasTicket β a) = false → fX6_isPlanned β a = .inl xIO := fun c_1 => by rw [fX6_isPlanned]; rw [if_neg (ne_true_of_eq_false c_1)]
  refine g_req (b := (fX0_hasTicket β a)) C hT (kX6_requireIndex l E hlt (fX0_hasTicket β a)) caX6_requireIndex q3_195 ⟨Nat.le_of_ble_eq_true rfl, Nat.le_of_ble_eq_true rfl⟩ ⟨Nat.le_of_ble_eq_true rfl, Nat.le_of_ble_eq_true rfl⟩ ⟨Nat.le_of_ble_eq_true rfl, Nat.le_of_ble_eq_true rfl⟩ (fun c => by rw [e_2 c]; exact ⟨rfl, rfl⟩) (Nat.le_of_ble_eq_true rfl) dX6_isPlanned_8 (fun c_3 => ?_)
  have hx_4 := hasTicket_i hv c_3
  refine g_aload_n C dX6_isPlanned_11 rfl 0 rfl ?_
  refine g_getf C (T := TX6) (N := 5) 0 0 rfl rfl rfl inX6 0 (by decide) q1_192 rfl dX6_isPlanned_12 ?_
  refine g_getf C (T := TX0) (N := 17) 1 0 rfl rfl rfl inX0 8 (by decide) q1_58 rfl dX6_isPlanned_15 ?_
  refine g_iload_n C dX6_isPlanned_18 rfl 1 rfl ?_
  refine g_ialdn C 1 5 a.toNatClampNeg rfl rfl hx_4.1 hx_4.2.1 (by decide) dX6_isPlanned_19 ?_
  refine g_iconst C (v := -1) dX6_isPlanned_20 (by decide) ?_
  refine g_icmp_eq C 28 dX6_isPlanned_21 (by decide) (fun c_5 => ?_) (fun c_5 => ?_)
  · skip
    refine g_iconst C (v := 0) dX6_isPlanned_28 (by decide) ?_
    have e_6 : fX6_isPlanned β a = .inr false := by rw [fX6_isPlanned]; rw [if_pos c_3, if_pos c_5]
    refine g_widen (k1 := 3) (n1 := 18) (Nat.le_of_ble_eq_true rfl) (Nat.le_of_ble_eq_true rfl) ?_
    exact g_zret (b := false) C (gT_r hT (by rw [e_6] <;> rfl) rfl) rfl rfl rfl dX6_isPlanned_29
  · skip
    refine g_iconst C (v := 1) dX6_isPlanned_24 (by decide) ?_
    refine g_goto C 29 dX6_isPlanned_25 (by decide) ?_
    have e_7 : fX6_isPlanned β a = .inr true := by rw [fX6_isPlanned]; rw [if_pos c_3, if_neg c_5]
    refine g_widen (k1 := 3) (n1 := 18) (Nat.le_of_ble_eq_true rfl) (Nat.le_of_ble_eq_true rfl) ?_
    exact g_zret (b := true) C (gT_r hT (by rw [e_7] <;> rfl) rfl) rfl rfl rfl dX6_isPlanned_29
def fX6_milestoneOf (β : BS) (a : Int32) : (String ⊕ Int32) :=
  if (fX0_hasTicket β a) = true then (if (β.2 4 a.toNatClampNeg) = (-1) then .inl xIS else .inr (β.2 4 a.toNatClampNeg)) else .inl xIO
theorem caX6_milestoneOf : gCalV yX6_milestoneOf cX6_milestoneOf 2 (some .int) 1 := ⟨⟨q5_112, q1_1, by decide +kernel⟩, q5_110, q5_111⟩
set_option maxHeartbeats 4000000 in
set_option maxRecDepth 100000 in
theorem kX6_milestoneOf (l : Launch) (E : gE) (ax : Nat) (bo : Nat → Nat) (β : BS) (tr : Nat → Nat) (τ : BS) (ac : Nat → Nat) (γ : BS) (ah : Nat → Nat) (bd : Nat → Nat → Nat) (η : BS) (σ : Nat → BS) (at_ : Nat → Nat) (θ : BS) (hlt : l.stackTraces = false) (hv : vB β)  (a : Int32) : MX l E yX6_milestoneOf cX6_milestoneOf 2 (some .int) 3 18 7 102 [.ref ax, .int a] [wX ax (bo 0) (tr 0) (ac 0) (ah 0) (at_ 0), wB E bo β, wB E tr τ, wC E ac γ, wH E ah bd η, wT E at_ θ, wB E (bd 2) (σ 2), wB E (bd 3) (σ 3), wB E (bd 4) (σ 4), wB E (bd 5) (σ 5), wB E (bd 6) (σ 6), wB E (bd 7) (σ 7), wB E (bd 8) (σ 8), wB E (bd 9) (σ 9)] (Sum.map id (fun v => some (.int v)) (fX6_milestoneOf β a)) [wX ax (bo 0) (tr 0) (ac 0) (ah 0) (at_ 0), wB E bo β, wB E tr τ, wC E ac γ, wH E ah bd η, wT E at_ θ, wB E (bd 2) (σ 2), wB E (bd 3) (σ 3), wB E (bd 4) (σ 4), wB E (bd 5) (σ 5), wB E (bd 6) (σ 6), wB E (bd 7) (σ 7), wB E (bd 8) (σ 8), wB E (bd 9) (σ 9)] := by
  have hv1 : cnt β ≤ 20 := hv.1
  refine mx_of hlt (by decide +kernel) (Nat.le_of_ble_eq_true rfl) (lv := [(0, .ref ax), (1, .int a)]) rfl (fun X C hT => ?_)
  refine g_aload_n C dX6_milestoneOf_0 rfl 0 rfl ?_
  refine g_getf C (T := TX6) (N := 5) 0 0 rfl rfl rfl inX6 0 (by decide) q1_192 rfl dX6_milestoneOf_1 ?_
  refine g_iload_n C dX6_milestoneOf_4 rfl 1 rfl ?_
  refine g_callV C (cs1 := [wX ax (bo 0) (tr 0) (ac 0) (ah 0) (at_ 0), wB E bo β, wB E tr τ, wC E ac γ, wH E ah bd η, wT E at_ θ, wB E (bd 2) (σ 2), wB E (bd 3) (σ 3), wB E (bd 4) (σ 4), wB E (bd 5) (σ 5), wB E (bd 6) (σ 6), wB E (bd 7) (σ 7), wB E (bd 8) (σ 8), wB E (bd 9) (σ 9)]) (st1 := [.int (b2i (fX0_hasTicket β a))]) [.int a] [1] (kX0_hasTicket l E bo β a) caX0_hasTicket q3_191 rfl ⟨Nat.le_of_ble_eq_true rfl, Nat.le_of_ble_eq_true rfl⟩ ⟨Nat.le_of_ble_eq_true rfl, Nat.le_of_ble_eq_true rfl⟩ 1 0 rfl rfl rfl rfl (by decide) rfl rfl rfl rfl (Nat.le_of_ble_eq_true rfl) dX6_milestoneOf_5 rfl ?_
  have e_2 : (fX0_hasTicket β a) = false → fX6_milestoneOf β a = .inl xIO := fun c_1 => by rw [fX6_milestoneOf]; rw [if_neg (ne_true_of_eq_false c_1)]
  refine g_req (b := (fX0_hasTicket β a)) C hT (kX6_requireIndex l E hlt (fX0_hasTicket β a)) caX6_requireIndex q3_195 ⟨Nat.le_of_ble_eq_true rfl, Nat.le_of_ble_eq_true rfl⟩ ⟨Nat.le_of_ble_eq_true rfl, Nat.le_of_ble_eq_true rfl⟩ ⟨Nat.le_of_ble_eq_true rfl, Nat.le_of_ble_eq_true rfl⟩ (fun c => by rw [e_2 c]; exact ⟨rfl, rfl⟩) (Nat.le_of_ble_eq_true rfl) dX6_milestoneOf_8 (fun c_3 => ?_)
  have hx_4 := hasTicket_i hv c_3
  refine g_aload_n C dX6_milestoneOf_11 rfl 0 rfl ?_
  refine g_getf C (T := TX6) (N := 5) 0 0 rfl rfl rfl inX6 0 (by decide) q1_192 rfl dX6_milestoneOf_12 ?_
  refine g_getf C (T := TX0) (N := 17) 1 0 rfl rfl rfl inX0 8 (by decide) q1_58 rfl dX6_milestoneOf_15 ?_
  refine g_iload_n C dX6_milestoneOf_18 rfl 1 rfl ?_
  refine g_ialdn C 1 5 a.toNatClampNeg rfl rfl hx_4.1 hx_4.2.1 (by decide) dX6_milestoneOf_19 ?_
  refine g_iconst C (v := -1) dX6_milestoneOf_20 (by decide) ?_
  refine g_icmp_eq C 28 dX6_milestoneOf_21 (by decide) (fun c_5 => ?_) (fun c_5 => ?_)
  · skip
    refine g_iconst C (v := 0) dX6_milestoneOf_28 (by decide) ?_
    have e_7 : false = false → fX6_milestoneOf β a = .inl xIS := fun c_6 => by rw [fX6_milestoneOf]; rw [if_pos c_3, if_pos c_5]
    exact g_req (b := false) C hT (kX6_requireState l E hlt false) caX6_requireState q3_143 ⟨Nat.le_of_ble_eq_true rfl, Nat.le_of_ble_eq_true rfl⟩ ⟨Nat.le_of_ble_eq_true rfl, Nat.le_of_ble_eq_true rfl⟩ ⟨Nat.le_of_ble_eq_true rfl, Nat.le_of_ble_eq_true rfl⟩ (fun c => by rw [e_7 c]; exact ⟨rfl, rfl⟩) (Nat.le_of_ble_eq_true rfl) dX6_milestoneOf_29 (fun h => absurd h (by decide))
  · skip
    refine g_iconst C (v := 1) dX6_milestoneOf_24 (by decide) ?_
    refine g_goto C 29 dX6_milestoneOf_25 (by decide) ?_
    refine g_req (b := true) C hT (kX6_requireState l E hlt true) caX6_requireState q3_143 ⟨Nat.le_of_ble_eq_true rfl, Nat.le_of_ble_eq_true rfl⟩ ⟨Nat.le_of_ble_eq_true rfl, Nat.le_of_ble_eq_true rfl⟩ ⟨Nat.le_of_ble_eq_true rfl, Nat.le_of_ble_eq_true rfl⟩ (fun h => absurd h (by decide)) (Nat.le_of_ble_eq_true rfl) dX6_milestoneOf_29 (fun _ => ?_)
    refine g_aload_n C dX6_milestoneOf_32 rfl 0 rfl ?_
    refine g_getf C (T := TX6) (N := 5) 0 0 rfl rfl rfl inX6 0 (by decide) q1_192 rfl dX6_milestoneOf_33 ?_
    refine g_getf C (T := TX0) (N := 17) 1 0 rfl rfl rfl inX0 8 (by decide) q1_58 rfl dX6_milestoneOf_36 ?_
    refine g_iload_n C dX6_milestoneOf_39 rfl 1 rfl ?_
    refine g_ialdn C 1 5 a.toNatClampNeg rfl rfl hx_4.1 hx_4.2.1 (by decide) dX6_milestoneOf_40 ?_
    have e_10 : fX6_milestoneOf β a = .inr (β.2 4 a.toNatClampNeg) := by rw [fX6_milestoneOf]; rw [if_pos c_3, if_neg c_5]
    refine g_widen (k1 := 3) (n1 := 18) (Nat.le_of_ble_eq_true rfl) (Nat.le_of_ble_eq_true rfl) ?_
    exact g_iret C (gT_r hT (by rw [e_10] <;> rfl) rfl) rfl rfl dX6_milestoneOf_41
def fX6_openedOn (β : BS) (a : Int32) : (String ⊕ Int32) :=
  if (fX0_hasTicket β a) = true then .inr (β.2 5 a.toNatClampNeg) else .inl xIO
theorem caX6_openedOn : gCalV yX6_openedOn cX6_openedOn 2 (some .int) 1 := ⟨⟨q5_119, q1_1, by decide +kernel⟩, q5_117, q5_118⟩
set_option maxHeartbeats 4000000 in
set_option maxRecDepth 100000 in
theorem kX6_openedOn (l : Launch) (E : gE) (ax : Nat) (bo : Nat → Nat) (β : BS) (tr : Nat → Nat) (τ : BS) (ac : Nat → Nat) (γ : BS) (ah : Nat → Nat) (bd : Nat → Nat → Nat) (η : BS) (σ : Nat → BS) (at_ : Nat → Nat) (θ : BS) (hlt : l.stackTraces = false) (hv : vB β)  (a : Int32) : MX l E yX6_openedOn cX6_openedOn 2 (some .int) 3 18 7 102 [.ref ax, .int a] [wX ax (bo 0) (tr 0) (ac 0) (ah 0) (at_ 0), wB E bo β, wB E tr τ, wC E ac γ, wH E ah bd η, wT E at_ θ, wB E (bd 2) (σ 2), wB E (bd 3) (σ 3), wB E (bd 4) (σ 4), wB E (bd 5) (σ 5), wB E (bd 6) (σ 6), wB E (bd 7) (σ 7), wB E (bd 8) (σ 8), wB E (bd 9) (σ 9)] (Sum.map id (fun v => some (.int v)) (fX6_openedOn β a)) [wX ax (bo 0) (tr 0) (ac 0) (ah 0) (at_ 0), wB E bo β, wB E tr τ, wC E ac γ, wH E ah bd η, wT E at_ θ, wB E (bd 2) (σ 2), wB E (bd 3) (σ 3), wB E (bd 4) (σ 4), wB E (bd 5) (σ 5), wB E (bd 6) (σ 6), wB E (bd 7) (σ 7), wB E (bd 8) (σ 8), wB E (bd 9) (σ 9)] := by
  have hv1 : cnt β ≤ 20 := hv.1
  refine mx_of hlt (by decide +kernel) (Nat.le_of_ble_eq_true rfl) (lv := [(0, .ref ax), (1, .int a)]) rfl (fun X C hT => ?_)
  refine g_aload_n C dX6_openedOn_0 rfl 0 rfl ?_
  refine g_getf C (T := TX6) (N := 5) 0 0 rfl rfl rfl inX6 0 (by decide) q1_192 rfl dX6_openedOn_1 ?_
  refine g_iload_n C dX6_openedOn_4 rfl 1 rfl ?_
  refine g_callV C (cs1 := [wX ax (bo 0) (tr 0) (ac 0) (ah 0) (at_ 0), wB E bo β, wB E tr τ, wC E ac γ, wH E ah bd η, wT E at_ θ, wB E (bd 2) (σ 2), wB E (bd 3) (σ 3), wB E (bd 4) (σ 4), wB E (bd 5) (σ 5), wB E (bd 6) (σ 6), wB E (bd 7) (σ 7), wB E (bd 8) (σ 8), wB E (bd 9) (σ 9)]) (st1 := [.int (b2i (fX0_hasTicket β a))]) [.int a] [1] (kX0_hasTicket l E bo β a) caX0_hasTicket q3_191 rfl ⟨Nat.le_of_ble_eq_true rfl, Nat.le_of_ble_eq_true rfl⟩ ⟨Nat.le_of_ble_eq_true rfl, Nat.le_of_ble_eq_true rfl⟩ 1 0 rfl rfl rfl rfl (by decide) rfl rfl rfl rfl (Nat.le_of_ble_eq_true rfl) dX6_openedOn_5 rfl ?_
  have e_2 : (fX0_hasTicket β a) = false → fX6_openedOn β a = .inl xIO := fun c_1 => by rw [fX6_openedOn]; rw [if_neg (ne_true_of_eq_false c_1)]
  refine g_req (b := (fX0_hasTicket β a)) C hT (kX6_requireIndex l E hlt (fX0_hasTicket β a)) caX6_requireIndex q3_195 ⟨Nat.le_of_ble_eq_true rfl, Nat.le_of_ble_eq_true rfl⟩ ⟨Nat.le_of_ble_eq_true rfl, Nat.le_of_ble_eq_true rfl⟩ ⟨Nat.le_of_ble_eq_true rfl, Nat.le_of_ble_eq_true rfl⟩ (fun c => by rw [e_2 c]; exact ⟨rfl, rfl⟩) (Nat.le_of_ble_eq_true rfl) dX6_openedOn_8 (fun c_3 => ?_)
  have hx_4 := hasTicket_i hv c_3
  refine g_aload_n C dX6_openedOn_11 rfl 0 rfl ?_
  refine g_getf C (T := TX6) (N := 5) 0 0 rfl rfl rfl inX6 0 (by decide) q1_192 rfl dX6_openedOn_12 ?_
  refine g_getf C (T := TX0) (N := 17) 1 0 rfl rfl rfl inX0 9 (by decide) q1_60 rfl dX6_openedOn_15 ?_
  refine g_iload_n C dX6_openedOn_18 rfl 1 rfl ?_
  refine g_ialdn C 1 6 a.toNatClampNeg rfl rfl hx_4.1 hx_4.2.1 (by decide) dX6_openedOn_19 ?_
  have e_5 : fX6_openedOn β a = .inr (β.2 5 a.toNatClampNeg) := by rw [fX6_openedOn]; rw [if_pos c_3]
  refine g_widen (k1 := 3) (n1 := 18) (Nat.le_of_ble_eq_true rfl) (Nat.le_of_ble_eq_true rfl) ?_
  exact g_iret C (gT_r hT (by rw [e_5] <;> rfl) rfl) rfl rfl dX6_openedOn_20
def fX6_closedOn (β : BS) (a : Int32) : (String ⊕ Int32) :=
  if (fX0_hasTicket β a) = true then (if (β.2 0 a.toNatClampNeg) = 3 then .inr (β.2 6 a.toNatClampNeg) else .inl xIS) else .inl xIO
theorem caX6_closedOn : gCalV yX6_closedOn cX6_closedOn 2 (some .int) 1 := ⟨⟨q5_126, q1_1, by decide +kernel⟩, q5_124, q5_125⟩
set_option maxHeartbeats 4000000 in
set_option maxRecDepth 100000 in
theorem kX6_closedOn (l : Launch) (E : gE) (ax : Nat) (bo : Nat → Nat) (β : BS) (tr : Nat → Nat) (τ : BS) (ac : Nat → Nat) (γ : BS) (ah : Nat → Nat) (bd : Nat → Nat → Nat) (η : BS) (σ : Nat → BS) (at_ : Nat → Nat) (θ : BS) (hlt : l.stackTraces = false) (hv : vB β)  (a : Int32) : MX l E yX6_closedOn cX6_closedOn 2 (some .int) 3 18 7 102 [.ref ax, .int a] [wX ax (bo 0) (tr 0) (ac 0) (ah 0) (at_ 0), wB E bo β, wB E tr τ, wC E ac γ, wH E ah bd η, wT E at_ θ, wB E (bd 2) (σ 2), wB E (bd 3) (σ 3), wB E (bd 4) (σ 4), wB E (bd 5) (σ 5), wB E (bd 6) (σ 6), wB E (bd 7) (σ 7), wB E (bd 8) (σ 8), wB E (bd 9) (σ 9)] (Sum.map id (fun v => some (.int v)) (fX6_closedOn β a)) [wX ax (bo 0) (tr 0) (ac 0) (ah 0) (at_ 0), wB E bo β, wB E tr τ, wC E ac γ, wH E ah bd η, wT E at_ θ, wB E (bd 2) (σ 2), wB E (bd 3) (σ 3), wB E (bd 4) (σ 4), wB E (bd 5) (σ 5), wB E (bd 6) (σ 6), wB E (bd 7) (σ 7), wB E (bd 8) (σ 8), wB E (bd 9) (σ 9)] := by
  have hv1 : cnt β ≤ 20 := hv.1
  refine mx_of hlt (by decide +kernel) (Nat.le_of_ble_eq_true rfl) (lv := [(0, .ref ax), (1, .int a)]) rfl (fun X C hT => ?_)
  refine g_aload_n C dX6_closedOn_0 rfl 0 rfl ?_
  refine g_getf C (T := TX6) (N := 5) 0 0 rfl rfl rfl inX6 0 (by decide) q1_192 rfl dX6_closedOn_1 ?_
  refine g_iload_n C dX6_closedOn_4 rfl 1 rfl ?_
  refine g_callV C (cs1 := [wX ax (bo 0) (tr 0) (ac 0) (ah 0) (at_ 0), wB E bo β, wB E tr τ, wC E ac γ, wH E ah bd η, wT E at_ θ, wB E (bd 2) (σ 2), wB E (bd 3) (σ 3), wB E (bd 4) (σ 4), wB E (bd 5) (σ 5), wB E (bd 6) (σ 6), wB E (bd 7) (σ 7), wB E (bd 8) (σ 8), wB E (bd 9) (σ 9)]) (st1 := [.int (b2i (fX0_hasTicket β a))]) [.int a] [1] (kX0_hasTicket l E bo β a) caX0_hasTicket q3_191 rfl ⟨Nat.le_of_ble_eq_true rfl, Nat.le_of_ble_eq_true rfl⟩ ⟨Nat.le_of_ble_eq_true rfl, Nat.le_of_ble_eq_true rfl⟩ 1 0 rfl rfl rfl rfl (by decide) rfl rfl rfl rfl (Nat.le_of_ble_eq_true rfl) dX6_closedOn_5 rfl ?_
  have e_2 : (fX0_hasTicket β a) = false → fX6_closedOn β a = .inl xIO := fun c_1 => by rw [fX6_closedOn]; rw [if_neg (ne_true_of_eq_false c_1)]
  refine g_req (b := (fX0_hasTicket β a)) C hT (kX6_requireIndex l E hlt (fX0_hasTicket β a)) caX6_requireIndex q3_195 ⟨Nat.le_of_ble_eq_true rfl, Nat.le_of_ble_eq_true rfl⟩ ⟨Nat.le_of_ble_eq_true rfl, Nat.le_of_ble_eq_true rfl⟩ ⟨Nat.le_of_ble_eq_true rfl, Nat.le_of_ble_eq_true rfl⟩ (fun c => by rw [e_2 c]; exact ⟨rfl, rfl⟩) (Nat.le_of_ble_eq_true rfl) dX6_closedOn_8 (fun c_3 => ?_)
  have hx_4 := hasTicket_i hv c_3
  refine g_aload_n C dX6_closedOn_11 rfl 0 rfl ?_
  refine g_getf C (T := TX6) (N := 5) 0 0 rfl rfl rfl inX6 0 (by decide) q1_192 rfl dX6_closedOn_12 ?_
  refine g_getf C (T := TX0) (N := 17) 1 0 rfl rfl rfl inX0 4 (by decide) q1_46 rfl dX6_closedOn_15 ?_
  refine g_iload_n C dX6_closedOn_18 rfl 1 rfl ?_
  refine g_ialdn C 1 1 a.toNatClampNeg rfl rfl hx_4.1 hx_4.2.1 (by decide) dX6_closedOn_19 ?_
  refine g_iconst C (v := 3) dX6_closedOn_20 (by decide) ?_
  refine g_icmp_ne C 28 dX6_closedOn_21 (by decide) (fun c_5 => ?_) (fun c_5 => ?_)
  · skip
    refine g_iconst C (v := 0) dX6_closedOn_28 (by decide) ?_
    have e_7 : false = false → fX6_closedOn β a = .inl xIS := fun c_6 => by rw [fX6_closedOn]; rw [if_pos c_3, if_neg c_5]
    exact g_req (b := false) C hT (kX6_requireState l E hlt false) caX6_requireState q3_143 ⟨Nat.le_of_ble_eq_true rfl, Nat.le_of_ble_eq_true rfl⟩ ⟨Nat.le_of_ble_eq_true rfl, Nat.le_of_ble_eq_true rfl⟩ ⟨Nat.le_of_ble_eq_true rfl, Nat.le_of_ble_eq_true rfl⟩ (fun c => by rw [e_7 c]; exact ⟨rfl, rfl⟩) (Nat.le_of_ble_eq_true rfl) dX6_closedOn_29 (fun h => absurd h (by decide))
  · skip
    refine g_iconst C (v := 1) dX6_closedOn_24 (by decide) ?_
    refine g_goto C 29 dX6_closedOn_25 (by decide) ?_
    refine g_req (b := true) C hT (kX6_requireState l E hlt true) caX6_requireState q3_143 ⟨Nat.le_of_ble_eq_true rfl, Nat.le_of_ble_eq_true rfl⟩ ⟨Nat.le_of_ble_eq_true rfl, Nat.le_of_ble_eq_true rfl⟩ ⟨Nat.le_of_ble_eq_true rfl, Nat.le_of_ble_eq_true rfl⟩ (fun h => absurd h (by decide)) (Nat.le_of_ble_eq_true rfl) dX6_closedOn_29 (fun _ => ?_)
    refine g_aload_n C dX6_closedOn_32 rfl 0 rfl ?_
    refine g_getf C (T := TX6) (N := 5) 0 0 rfl rfl rfl inX6 0 (by decide) q1_192 rfl dX6_closedOn_33 ?_
    refine g_getf C (T := TX0) (N := 17) 1 0 rfl rfl rfl inX0 10 (by decide) q1_63 rfl dX6_closedOn_36 ?_
    refine g_iload_n C dX6_closedOn_39 rfl 1 rfl ?_
    refine g_ialdn C 1 7 a.toNatClampNeg rfl rfl hx_4.1 hx_4.2.1 (by decide) dX6_closedOn_40 ?_
    have e_10 : fX6_closedOn β a = .inr (β.2 6 a.toNatClampNeg) := by rw [fX6_closedOn]; rw [if_pos c_3, if_pos c_5]
    refine g_widen (k1 := 3) (n1 := 18) (Nat.le_of_ble_eq_true rfl) (Nat.le_of_ble_eq_true rfl) ?_
    exact g_iret C (gT_r hT (by rw [e_10] <;> rfl) rfl) rfl rfl dX6_closedOn_41
def fX6_daysInProgress (β : BS) (a : Int32) : (String ⊕ Int32) :=
  if (fX0_hasTicket β a) = true then .inr (β.2 7 a.toNatClampNeg) else .inl xIO
theorem caX6_daysInProgress : gCalV yX6_daysInProgress cX6_daysInProgress 2 (some .int) 1 := ⟨⟨q5_133, q1_1, by decide +kernel⟩, q5_131, q5_132⟩
set_option maxHeartbeats 4000000 in
set_option maxRecDepth 100000 in
theorem kX6_daysInProgress (l : Launch) (E : gE) (ax : Nat) (bo : Nat → Nat) (β : BS) (tr : Nat → Nat) (τ : BS) (ac : Nat → Nat) (γ : BS) (ah : Nat → Nat) (bd : Nat → Nat → Nat) (η : BS) (σ : Nat → BS) (at_ : Nat → Nat) (θ : BS) (hlt : l.stackTraces = false) (hv : vB β)  (a : Int32) : MX l E yX6_daysInProgress cX6_daysInProgress 2 (some .int) 3 18 7 102 [.ref ax, .int a] [wX ax (bo 0) (tr 0) (ac 0) (ah 0) (at_ 0), wB E bo β, wB E tr τ, wC E ac γ, wH E ah bd η, wT E at_ θ, wB E (bd 2) (σ 2), wB E (bd 3) (σ 3), wB E (bd 4) (σ 4), wB E (bd 5) (σ 5), wB E (bd 6) (σ 6), wB E (bd 7) (σ 7), wB E (bd 8) (σ 8), wB E (bd 9) (σ 9)] (Sum.map id (fun v => some (.int v)) (fX6_daysInProgress β a)) [wX ax (bo 0) (tr 0) (ac 0) (ah 0) (at_ 0), wB E bo β, wB E tr τ, wC E ac γ, wH E ah bd η, wT E at_ θ, wB E (bd 2) (σ 2), wB E (bd 3) (σ 3), wB E (bd 4) (σ 4), wB E (bd 5) (σ 5), wB E (bd 6) (σ 6), wB E (bd 7) (σ 7), wB E (bd 8) (σ 8), wB E (bd 9) (σ 9)] := by
  have hv1 : cnt β ≤ 20 := hv.1
  refine mx_of hlt (by decide +kernel) (Nat.le_of_ble_eq_true rfl) (lv := [(0, .ref ax), (1, .int a)]) rfl (fun X C hT => ?_)
  refine g_aload_n C dX6_daysInProgress_0 rfl 0 rfl ?_
  refine g_getf C (T := TX6) (N := 5) 0 0 rfl rfl rfl inX6 0 (by decide) q1_192 rfl dX6_daysInProgress_1 ?_
  refine g_iload_n C dX6_daysInProgress_4 rfl 1 rfl ?_
  refine g_callV C (cs1 := [wX ax (bo 0) (tr 0) (ac 0) (ah 0) (at_ 0), wB E bo β, wB E tr τ, wC E ac γ, wH E ah bd η, wT E at_ θ, wB E (bd 2) (σ 2), wB E (bd 3) (σ 3), wB E (bd 4) (σ 4), wB E (bd 5) (σ 5), wB E (bd 6) (σ 6), wB E (bd 7) (σ 7), wB E (bd 8) (σ 8), wB E (bd 9) (σ 9)]) (st1 := [.int (b2i (fX0_hasTicket β a))]) [.int a] [1] (kX0_hasTicket l E bo β a) caX0_hasTicket q3_191 rfl ⟨Nat.le_of_ble_eq_true rfl, Nat.le_of_ble_eq_true rfl⟩ ⟨Nat.le_of_ble_eq_true rfl, Nat.le_of_ble_eq_true rfl⟩ 1 0 rfl rfl rfl rfl (by decide) rfl rfl rfl rfl (Nat.le_of_ble_eq_true rfl) dX6_daysInProgress_5 rfl ?_
  have e_2 : (fX0_hasTicket β a) = false → fX6_daysInProgress β a = .inl xIO := fun c_1 => by rw [fX6_daysInProgress]; rw [if_neg (ne_true_of_eq_false c_1)]
  refine g_req (b := (fX0_hasTicket β a)) C hT (kX6_requireIndex l E hlt (fX0_hasTicket β a)) caX6_requireIndex q3_195 ⟨Nat.le_of_ble_eq_true rfl, Nat.le_of_ble_eq_true rfl⟩ ⟨Nat.le_of_ble_eq_true rfl, Nat.le_of_ble_eq_true rfl⟩ ⟨Nat.le_of_ble_eq_true rfl, Nat.le_of_ble_eq_true rfl⟩ (fun c => by rw [e_2 c]; exact ⟨rfl, rfl⟩) (Nat.le_of_ble_eq_true rfl) dX6_daysInProgress_8 (fun c_3 => ?_)
  have hx_4 := hasTicket_i hv c_3
  refine g_aload_n C dX6_daysInProgress_11 rfl 0 rfl ?_
  refine g_getf C (T := TX6) (N := 5) 0 0 rfl rfl rfl inX6 0 (by decide) q1_192 rfl dX6_daysInProgress_12 ?_
  refine g_getf C (T := TX0) (N := 17) 1 0 rfl rfl rfl inX0 11 (by decide) q1_66 rfl dX6_daysInProgress_15 ?_
  refine g_iload_n C dX6_daysInProgress_18 rfl 1 rfl ?_
  refine g_ialdn C 1 8 a.toNatClampNeg rfl rfl hx_4.1 hx_4.2.1 (by decide) dX6_daysInProgress_19 ?_
  have e_5 : fX6_daysInProgress β a = .inr (β.2 7 a.toNatClampNeg) := by rw [fX6_daysInProgress]; rw [if_pos c_3]
  refine g_widen (k1 := 3) (n1 := 18) (Nat.le_of_ble_eq_true rfl) (Nat.le_of_ble_eq_true rfl) ?_
  exact g_iret C (gT_r hT (by rw [e_5] <;> rfl) rfl) rfl rfl dX6_daysInProgress_20
def fX6_timesSentBack (β : BS) (a : Int32) : (String ⊕ Int32) :=
  if (fX0_hasTicket β a) = true then .inr (β.2 8 a.toNatClampNeg) else .inl xIO
theorem caX6_timesSentBack : gCalV yX6_timesSentBack cX6_timesSentBack 2 (some .int) 1 := ⟨⟨q5_140, q1_1, by decide +kernel⟩, q5_138, q5_139⟩
set_option maxHeartbeats 4000000 in
set_option maxRecDepth 100000 in
theorem kX6_timesSentBack (l : Launch) (E : gE) (ax : Nat) (bo : Nat → Nat) (β : BS) (tr : Nat → Nat) (τ : BS) (ac : Nat → Nat) (γ : BS) (ah : Nat → Nat) (bd : Nat → Nat → Nat) (η : BS) (σ : Nat → BS) (at_ : Nat → Nat) (θ : BS) (hlt : l.stackTraces = false) (hv : vB β)  (a : Int32) : MX l E yX6_timesSentBack cX6_timesSentBack 2 (some .int) 3 18 7 102 [.ref ax, .int a] [wX ax (bo 0) (tr 0) (ac 0) (ah 0) (at_ 0), wB E bo β, wB E tr τ, wC E ac γ, wH E ah bd η, wT E at_ θ, wB E (bd 2) (σ 2), wB E (bd 3) (σ 3), wB E (bd 4) (σ 4), wB E (bd 5) (σ 5), wB E (bd 6) (σ 6), wB E (bd 7) (σ 7), wB E (bd 8) (σ 8), wB E (bd 9) (σ 9)] (Sum.map id (fun v => some (.int v)) (fX6_timesSentBack β a)) [wX ax (bo 0) (tr 0) (ac 0) (ah 0) (at_ 0), wB E bo β, wB E tr τ, wC E ac γ, wH E ah bd η, wT E at_ θ, wB E (bd 2) (σ 2), wB E (bd 3) (σ 3), wB E (bd 4) (σ 4), wB E (bd 5) (σ 5), wB E (bd 6) (σ 6), wB E (bd 7) (σ 7), wB E (bd 8) (σ 8), wB E (bd 9) (σ 9)] := by
  have hv1 : cnt β ≤ 20 := hv.1
  refine mx_of hlt (by decide +kernel) (Nat.le_of_ble_eq_true rfl) (lv := [(0, .ref ax), (1, .int a)]) rfl (fun X C hT => ?_)
  refine g_aload_n C dX6_timesSentBack_0 rfl 0 rfl ?_
  refine g_getf C (T := TX6) (N := 5) 0 0 rfl rfl rfl inX6 0 (by decide) q1_192 rfl dX6_timesSentBack_1 ?_
  refine g_iload_n C dX6_timesSentBack_4 rfl 1 rfl ?_
  refine g_callV C (cs1 := [wX ax (bo 0) (tr 0) (ac 0) (ah 0) (at_ 0), wB E bo β, wB E tr τ, wC E ac γ, wH E ah bd η, wT E at_ θ, wB E (bd 2) (σ 2), wB E (bd 3) (σ 3), wB E (bd 4) (σ 4), wB E (bd 5) (σ 5), wB E (bd 6) (σ 6), wB E (bd 7) (σ 7), wB E (bd 8) (σ 8), wB E (bd 9) (σ 9)]) (st1 := [.int (b2i (fX0_hasTicket β a))]) [.int a] [1] (kX0_hasTicket l E bo β a) caX0_hasTicket q3_191 rfl ⟨Nat.le_of_ble_eq_true rfl, Nat.le_of_ble_eq_true rfl⟩ ⟨Nat.le_of_ble_eq_true rfl, Nat.le_of_ble_eq_true rfl⟩ 1 0 rfl rfl rfl rfl (by decide) rfl rfl rfl rfl (Nat.le_of_ble_eq_true rfl) dX6_timesSentBack_5 rfl ?_
  have e_2 : (fX0_hasTicket β a) = false → fX6_timesSentBack β a = .inl xIO := fun c_1 => by rw [fX6_timesSentBack]; rw [if_neg (ne_true_of_eq_false c_1)]
  refine g_req (b := (fX0_hasTicket β a)) C hT (kX6_requireIndex l E hlt (fX0_hasTicket β a)) caX6_requireIndex q3_195 ⟨Nat.le_of_ble_eq_true rfl, Nat.le_of_ble_eq_true rfl⟩ ⟨Nat.le_of_ble_eq_true rfl, Nat.le_of_ble_eq_true rfl⟩ ⟨Nat.le_of_ble_eq_true rfl, Nat.le_of_ble_eq_true rfl⟩ (fun c => by rw [e_2 c]; exact ⟨rfl, rfl⟩) (Nat.le_of_ble_eq_true rfl) dX6_timesSentBack_8 (fun c_3 => ?_)
  have hx_4 := hasTicket_i hv c_3
  refine g_aload_n C dX6_timesSentBack_11 rfl 0 rfl ?_
  refine g_getf C (T := TX6) (N := 5) 0 0 rfl rfl rfl inX6 0 (by decide) q1_192 rfl dX6_timesSentBack_12 ?_
  refine g_getf C (T := TX0) (N := 17) 1 0 rfl rfl rfl inX0 12 (by decide) q1_68 rfl dX6_timesSentBack_15 ?_
  refine g_iload_n C dX6_timesSentBack_18 rfl 1 rfl ?_
  refine g_ialdn C 1 9 a.toNatClampNeg rfl rfl hx_4.1 hx_4.2.1 (by decide) dX6_timesSentBack_19 ?_
  have e_5 : fX6_timesSentBack β a = .inr (β.2 8 a.toNatClampNeg) := by rw [fX6_timesSentBack]; rw [if_pos c_3]
  refine g_widen (k1 := 3) (n1 := 18) (Nat.le_of_ble_eq_true rfl) (Nat.le_of_ble_eq_true rfl) ?_
  exact g_iret C (gT_r hT (by rw [e_5] <;> rfl) rfl) rfl rfl dX6_timesSentBack_20
def fX6_needsOf (β : BS) (a : Int32) : (String ⊕ Int32) :=
  if (fX0_hasTicket β a) = true then .inr (fJ6_bitCount_0f7a4 (β.2 9 a.toNatClampNeg)) else .inl xIO
theorem caX6_needsOf : gCalV yX6_needsOf cX6_needsOf 2 (some .int) 1 := ⟨⟨q5_154, q1_1, by decide +kernel⟩, q5_152, q5_153⟩
set_option maxHeartbeats 4000000 in
set_option maxRecDepth 100000 in
theorem kX6_needsOf (l : Launch) (E : gE) (ax : Nat) (bo : Nat → Nat) (β : BS) (tr : Nat → Nat) (τ : BS) (ac : Nat → Nat) (γ : BS) (ah : Nat → Nat) (bd : Nat → Nat → Nat) (η : BS) (σ : Nat → BS) (at_ : Nat → Nat) (θ : BS) (hlt : l.stackTraces = false) (hv : vB β)  (a : Int32) : MX l E yX6_needsOf cX6_needsOf 2 (some .int) 3 18 7 102 [.ref ax, .int a] [wX ax (bo 0) (tr 0) (ac 0) (ah 0) (at_ 0), wB E bo β, wB E tr τ, wC E ac γ, wH E ah bd η, wT E at_ θ, wB E (bd 2) (σ 2), wB E (bd 3) (σ 3), wB E (bd 4) (σ 4), wB E (bd 5) (σ 5), wB E (bd 6) (σ 6), wB E (bd 7) (σ 7), wB E (bd 8) (σ 8), wB E (bd 9) (σ 9)] (Sum.map id (fun v => some (.int v)) (fX6_needsOf β a)) [wX ax (bo 0) (tr 0) (ac 0) (ah 0) (at_ 0), wB E bo β, wB E tr τ, wC E ac γ, wH E ah bd η, wT E at_ θ, wB E (bd 2) (σ 2), wB E (bd 3) (σ 3), wB E (bd 4) (σ 4), wB E (bd 5) (σ 5), wB E (bd 6) (σ 6), wB E (bd 7) (σ 7), wB E (bd 8) (σ 8), wB E (bd 9) (σ 9)] := by
  have hv1 : cnt β ≤ 20 := hv.1
  refine mx_of hlt (by decide +kernel) (Nat.le_of_ble_eq_true rfl) (lv := [(0, .ref ax), (1, .int a)]) rfl (fun X C hT => ?_)
  refine g_aload_n C dX6_needsOf_0 rfl 0 rfl ?_
  refine g_getf C (T := TX6) (N := 5) 0 0 rfl rfl rfl inX6 0 (by decide) q1_192 rfl dX6_needsOf_1 ?_
  refine g_iload_n C dX6_needsOf_4 rfl 1 rfl ?_
  refine g_callV C (cs1 := [wX ax (bo 0) (tr 0) (ac 0) (ah 0) (at_ 0), wB E bo β, wB E tr τ, wC E ac γ, wH E ah bd η, wT E at_ θ, wB E (bd 2) (σ 2), wB E (bd 3) (σ 3), wB E (bd 4) (σ 4), wB E (bd 5) (σ 5), wB E (bd 6) (σ 6), wB E (bd 7) (σ 7), wB E (bd 8) (σ 8), wB E (bd 9) (σ 9)]) (st1 := [.int (b2i (fX0_hasTicket β a))]) [.int a] [1] (kX0_hasTicket l E bo β a) caX0_hasTicket q3_191 rfl ⟨Nat.le_of_ble_eq_true rfl, Nat.le_of_ble_eq_true rfl⟩ ⟨Nat.le_of_ble_eq_true rfl, Nat.le_of_ble_eq_true rfl⟩ 1 0 rfl rfl rfl rfl (by decide) rfl rfl rfl rfl (Nat.le_of_ble_eq_true rfl) dX6_needsOf_5 rfl ?_
  have e_2 : (fX0_hasTicket β a) = false → fX6_needsOf β a = .inl xIO := fun c_1 => by rw [fX6_needsOf]; rw [if_neg (ne_true_of_eq_false c_1)]
  refine g_req (b := (fX0_hasTicket β a)) C hT (kX6_requireIndex l E hlt (fX0_hasTicket β a)) caX6_requireIndex q3_195 ⟨Nat.le_of_ble_eq_true rfl, Nat.le_of_ble_eq_true rfl⟩ ⟨Nat.le_of_ble_eq_true rfl, Nat.le_of_ble_eq_true rfl⟩ ⟨Nat.le_of_ble_eq_true rfl, Nat.le_of_ble_eq_true rfl⟩ (fun c => by rw [e_2 c]; exact ⟨rfl, rfl⟩) (Nat.le_of_ble_eq_true rfl) dX6_needsOf_8 (fun c_3 => ?_)
  have hx_4 := hasTicket_i hv c_3
  refine g_aload_n C dX6_needsOf_11 rfl 0 rfl ?_
  refine g_getf C (T := TX6) (N := 5) 0 0 rfl rfl rfl inX6 0 (by decide) q1_192 rfl dX6_needsOf_12 ?_
  refine g_getf C (T := TX0) (N := 17) 1 0 rfl rfl rfl inX0 13 (by decide) q1_71 rfl dX6_needsOf_15 ?_
  refine g_iload_n C dX6_needsOf_18 rfl 1 rfl ?_
  refine g_ialdn C 1 10 a.toNatClampNeg rfl rfl hx_4.1 hx_4.2.1 (by decide) dX6_needsOf_19 ?_
  refine g_callS C (cs1 := [wX ax (bo 0) (tr 0) (ac 0) (ah 0) (at_ 0), wB E bo β, wB E tr τ, wC E ac γ, wH E ah bd η, wT E at_ θ, wB E (bd 2) (σ 2), wB E (bd 3) (σ 3), wB E (bd 4) (σ 4), wB E (bd 5) (σ 5), wB E (bd 6) (σ 6), wB E (bd 7) (σ 7), wB E (bd 8) (σ 8), wB E (bd 9) (σ 9)]) (st1 := [.int (fJ6_bitCount_0f7a4 (β.2 9 a.toNatClampNeg))]) [.int (β.2 9 a.toNatClampNeg)] [] (kJ6_bitCount_0f7a4 l E (β.2 9 a.toNatClampNeg)) caJ6_bitCount_0f7a4 q2_191 rfl ⟨Nat.le_of_ble_eq_true rfl, Nat.le_of_ble_eq_true rfl⟩ ⟨Nat.le_of_ble_eq_true rfl, Nat.le_of_ble_eq_true rfl⟩ (by decide) rfl rfl rfl rfl (Nat.le_of_ble_eq_true rfl) dX6_needsOf_20 rfl ?_
  have e_5 : fX6_needsOf β a = .inr (fJ6_bitCount_0f7a4 (β.2 9 a.toNatClampNeg)) := by rw [fX6_needsOf]; rw [if_pos c_3]
  refine g_widen (k1 := 3) (n1 := 18) (Nat.le_of_ble_eq_true rfl) (Nat.le_of_ble_eq_true rfl) ?_
  exact g_iret C (gT_r hT (by rw [e_5] <;> rfl) rfl) rfl rfl dX6_needsOf_23
def fX6_neededBy (β : BS) (a : Int32) : (String ⊕ Int32) :=
  if (fX0_hasTicket β a) = true then .inr (fJ6_bitCount_0f7a4 (fX0_thoseThatNeed β a)) else .inl xIO
theorem caX6_neededBy : gCalV yX6_neededBy cX6_neededBy 2 (some .int) 1 := ⟨⟨q5_161, q1_1, by decide +kernel⟩, q5_159, q5_160⟩
set_option maxHeartbeats 4000000 in
set_option maxRecDepth 100000 in
theorem kX6_neededBy (l : Launch) (E : gE) (ax : Nat) (bo : Nat → Nat) (β : BS) (tr : Nat → Nat) (τ : BS) (ac : Nat → Nat) (γ : BS) (ah : Nat → Nat) (bd : Nat → Nat → Nat) (η : BS) (σ : Nat → BS) (at_ : Nat → Nat) (θ : BS) (hlt : l.stackTraces = false) (hv : vB β)  (a : Int32) : MX l E yX6_neededBy cX6_neededBy 2 (some .int) 3 18 7 102 [.ref ax, .int a] [wX ax (bo 0) (tr 0) (ac 0) (ah 0) (at_ 0), wB E bo β, wB E tr τ, wC E ac γ, wH E ah bd η, wT E at_ θ, wB E (bd 2) (σ 2), wB E (bd 3) (σ 3), wB E (bd 4) (σ 4), wB E (bd 5) (σ 5), wB E (bd 6) (σ 6), wB E (bd 7) (σ 7), wB E (bd 8) (σ 8), wB E (bd 9) (σ 9)] (Sum.map id (fun v => some (.int v)) (fX6_neededBy β a)) [wX ax (bo 0) (tr 0) (ac 0) (ah 0) (at_ 0), wB E bo β, wB E tr τ, wC E ac γ, wH E ah bd η, wT E at_ θ, wB E (bd 2) (σ 2), wB E (bd 3) (σ 3), wB E (bd 4) (σ 4), wB E (bd 5) (σ 5), wB E (bd 6) (σ 6), wB E (bd 7) (σ 7), wB E (bd 8) (σ 8), wB E (bd 9) (σ 9)] := by
  have hv1 : cnt β ≤ 20 := hv.1
  refine mx_of hlt (by decide +kernel) (Nat.le_of_ble_eq_true rfl) (lv := [(0, .ref ax), (1, .int a)]) rfl (fun X C hT => ?_)
  refine g_aload_n C dX6_neededBy_0 rfl 0 rfl ?_
  refine g_getf C (T := TX6) (N := 5) 0 0 rfl rfl rfl inX6 0 (by decide) q1_192 rfl dX6_neededBy_1 ?_
  refine g_iload_n C dX6_neededBy_4 rfl 1 rfl ?_
  refine g_callV C (cs1 := [wX ax (bo 0) (tr 0) (ac 0) (ah 0) (at_ 0), wB E bo β, wB E tr τ, wC E ac γ, wH E ah bd η, wT E at_ θ, wB E (bd 2) (σ 2), wB E (bd 3) (σ 3), wB E (bd 4) (σ 4), wB E (bd 5) (σ 5), wB E (bd 6) (σ 6), wB E (bd 7) (σ 7), wB E (bd 8) (σ 8), wB E (bd 9) (σ 9)]) (st1 := [.int (b2i (fX0_hasTicket β a))]) [.int a] [1] (kX0_hasTicket l E bo β a) caX0_hasTicket q3_191 rfl ⟨Nat.le_of_ble_eq_true rfl, Nat.le_of_ble_eq_true rfl⟩ ⟨Nat.le_of_ble_eq_true rfl, Nat.le_of_ble_eq_true rfl⟩ 1 0 rfl rfl rfl rfl (by decide) rfl rfl rfl rfl (Nat.le_of_ble_eq_true rfl) dX6_neededBy_5 rfl ?_
  have e_2 : (fX0_hasTicket β a) = false → fX6_neededBy β a = .inl xIO := fun c_1 => by rw [fX6_neededBy]; rw [if_neg (ne_true_of_eq_false c_1)]
  refine g_req (b := (fX0_hasTicket β a)) C hT (kX6_requireIndex l E hlt (fX0_hasTicket β a)) caX6_requireIndex q3_195 ⟨Nat.le_of_ble_eq_true rfl, Nat.le_of_ble_eq_true rfl⟩ ⟨Nat.le_of_ble_eq_true rfl, Nat.le_of_ble_eq_true rfl⟩ ⟨Nat.le_of_ble_eq_true rfl, Nat.le_of_ble_eq_true rfl⟩ (fun c => by rw [e_2 c]; exact ⟨rfl, rfl⟩) (Nat.le_of_ble_eq_true rfl) dX6_neededBy_8 (fun c_3 => ?_)
  have hx_4 := hasTicket_i hv c_3
  refine g_aload_n C dX6_neededBy_11 rfl 0 rfl ?_
  refine g_getf C (T := TX6) (N := 5) 0 0 rfl rfl rfl inX6 0 (by decide) q1_192 rfl dX6_neededBy_12 ?_
  refine g_iload_n C dX6_neededBy_15 rfl 1 rfl ?_
  refine g_callV C (cs1 := [wX ax (bo 0) (tr 0) (ac 0) (ah 0) (at_ 0), wB E bo β, wB E tr τ, wC E ac γ, wH E ah bd η, wT E at_ θ, wB E (bd 2) (σ 2), wB E (bd 3) (σ 3), wB E (bd 4) (σ 4), wB E (bd 5) (σ 5), wB E (bd 6) (σ 6), wB E (bd 7) (σ 7), wB E (bd 8) (σ 8), wB E (bd 9) (σ 9)]) (st1 := [.int (fX0_thoseThatNeed β a)]) [.int a] [1] (kX0_thoseThatNeed l E bo β hv a) caX0_thoseThatNeed q5_162 rfl ⟨Nat.le_of_ble_eq_true rfl, Nat.le_of_ble_eq_true rfl⟩ ⟨Nat.le_of_ble_eq_true rfl, Nat.le_of_ble_eq_true rfl⟩ 1 0 rfl rfl rfl rfl (by decide) rfl rfl rfl rfl (Nat.le_of_ble_eq_true rfl) dX6_neededBy_16 rfl ?_
  refine g_callS C (cs1 := [wX ax (bo 0) (tr 0) (ac 0) (ah 0) (at_ 0), wB E bo β, wB E tr τ, wC E ac γ, wH E ah bd η, wT E at_ θ, wB E (bd 2) (σ 2), wB E (bd 3) (σ 3), wB E (bd 4) (σ 4), wB E (bd 5) (σ 5), wB E (bd 6) (σ 6), wB E (bd 7) (σ 7), wB E (bd 8) (σ 8), wB E (bd 9) (σ 9)]) (st1 := [.int (fJ6_bitCount_0f7a4 (fX0_thoseThatNeed β a))]) [.int (fX0_thoseThatNeed β a)] [] (kJ6_bitCount_0f7a4 l E (fX0_thoseThatNeed β a)) caJ6_bitCount_0f7a4 q2_191 rfl ⟨Nat.le_of_ble_eq_true rfl, Nat.le_of_ble_eq_true rfl⟩ ⟨Nat.le_of_ble_eq_true rfl, Nat.le_of_ble_eq_true rfl⟩ (by decide) rfl rfl rfl rfl (Nat.le_of_ble_eq_true rfl) dX6_neededBy_19 rfl ?_
  have e_5 : fX6_neededBy β a = .inr (fJ6_bitCount_0f7a4 (fX0_thoseThatNeed β a)) := by rw [fX6_neededBy]; rw [if_pos c_3]
  refine g_widen (k1 := 3) (n1 := 18) (Nat.le_of_ble_eq_true rfl) (Nat.le_of_ble_eq_true rfl) ?_
  exact g_iret C (gT_r hT (by rw [e_5] <;> rfl) rfl) rfl rfl dX6_neededBy_22
def fX6_isBlocked (β : BS) (a : Int32) : (String ⊕ Bool) :=
  if (fX0_hasTicket β a) = true then (if (fX0_blockerSet β a.toNatClampNeg) = 0 then .inr false else .inr true) else .inl xIO
theorem caX6_isBlocked : gCalV yX6_isBlocked cX6_isBlocked 2 (some .boolean) 1 := ⟨⟨q5_169, q1_1, by decide +kernel⟩, q5_167, q5_168⟩
set_option maxHeartbeats 4000000 in
set_option maxRecDepth 100000 in
theorem kX6_isBlocked (l : Launch) (E : gE) (ax : Nat) (bo : Nat → Nat) (β : BS) (tr : Nat → Nat) (τ : BS) (ac : Nat → Nat) (γ : BS) (ah : Nat → Nat) (bd : Nat → Nat → Nat) (η : BS) (σ : Nat → BS) (at_ : Nat → Nat) (θ : BS) (hlt : l.stackTraces = false) (hv : vB β)  (a : Int32) : MX l E yX6_isBlocked cX6_isBlocked 2 (some .boolean) 3 18 7 102 [.ref ax, .int a] [wX ax (bo 0) (tr 0) (ac 0) (ah 0) (at_ 0), wB E bo β, wB E tr τ, wC E ac γ, wH E ah bd η, wT E at_ θ, wB E (bd 2) (σ 2), wB E (bd 3) (σ 3), wB E (bd 4) (σ 4), wB E (bd 5) (σ 5), wB E (bd 6) (σ 6), wB E (bd 7) (σ 7), wB E (bd 8) (σ 8), wB E (bd 9) (σ 9)] (Sum.map id (fun v => some (.int (b2i v))) (fX6_isBlocked β a)) [wX ax (bo 0) (tr 0) (ac 0) (ah 0) (at_ 0), wB E bo β, wB E tr τ, wC E ac γ, wH E ah bd η, wT E at_ θ, wB E (bd 2) (σ 2), wB E (bd 3) (σ 3), wB E (bd 4) (σ 4), wB E (bd 5) (σ 5), wB E (bd 6) (σ 6), wB E (bd 7) (σ 7), wB E (bd 8) (σ 8), wB E (bd 9) (σ 9)] := by
  have hv1 : cnt β ≤ 20 := hv.1
  refine mx_of hlt (by decide +kernel) (Nat.le_of_ble_eq_true rfl) (lv := [(0, .ref ax), (1, .int a)]) rfl (fun X C hT => ?_)
  refine g_aload_n C dX6_isBlocked_0 rfl 0 rfl ?_
  refine g_getf C (T := TX6) (N := 5) 0 0 rfl rfl rfl inX6 0 (by decide) q1_192 rfl dX6_isBlocked_1 ?_
  refine g_iload_n C dX6_isBlocked_4 rfl 1 rfl ?_
  refine g_callV C (cs1 := [wX ax (bo 0) (tr 0) (ac 0) (ah 0) (at_ 0), wB E bo β, wB E tr τ, wC E ac γ, wH E ah bd η, wT E at_ θ, wB E (bd 2) (σ 2), wB E (bd 3) (σ 3), wB E (bd 4) (σ 4), wB E (bd 5) (σ 5), wB E (bd 6) (σ 6), wB E (bd 7) (σ 7), wB E (bd 8) (σ 8), wB E (bd 9) (σ 9)]) (st1 := [.int (b2i (fX0_hasTicket β a))]) [.int a] [1] (kX0_hasTicket l E bo β a) caX0_hasTicket q3_191 rfl ⟨Nat.le_of_ble_eq_true rfl, Nat.le_of_ble_eq_true rfl⟩ ⟨Nat.le_of_ble_eq_true rfl, Nat.le_of_ble_eq_true rfl⟩ 1 0 rfl rfl rfl rfl (by decide) rfl rfl rfl rfl (Nat.le_of_ble_eq_true rfl) dX6_isBlocked_5 rfl ?_
  have e_2 : (fX0_hasTicket β a) = false → fX6_isBlocked β a = .inl xIO := fun c_1 => by rw [fX6_isBlocked]; rw [if_neg (ne_true_of_eq_false c_1)]
  refine g_req (b := (fX0_hasTicket β a)) C hT (kX6_requireIndex l E hlt (fX0_hasTicket β a)) caX6_requireIndex q3_195 ⟨Nat.le_of_ble_eq_true rfl, Nat.le_of_ble_eq_true rfl⟩ ⟨Nat.le_of_ble_eq_true rfl, Nat.le_of_ble_eq_true rfl⟩ ⟨Nat.le_of_ble_eq_true rfl, Nat.le_of_ble_eq_true rfl⟩ (fun c => by rw [e_2 c]; exact ⟨rfl, rfl⟩) (Nat.le_of_ble_eq_true rfl) dX6_isBlocked_8 (fun c_3 => ?_)
  have hx_4 := hasTicket_i hv c_3
  refine g_aload_n C dX6_isBlocked_11 rfl 0 rfl ?_
  refine g_getf C (T := TX6) (N := 5) 0 0 rfl rfl rfl inX6 0 (by decide) q1_192 rfl dX6_isBlocked_12 ?_
  refine g_iload_n C dX6_isBlocked_15 rfl 1 rfl ?_
  refine g_st (st1 := [.int (nI a.toNatClampNeg), .ref (bo 0)]) (by rw [← hx_4.1]) ?_
  refine g_callV C (cs1 := [wX ax (bo 0) (tr 0) (ac 0) (ah 0) (at_ 0), wB E bo β, wB E tr τ, wC E ac γ, wH E ah bd η, wT E at_ θ, wB E (bd 2) (σ 2), wB E (bd 3) (σ 3), wB E (bd 4) (σ 4), wB E (bd 5) (σ 5), wB E (bd 6) (σ 6), wB E (bd 7) (σ 7), wB E (bd 8) (σ 8), wB E (bd 9) (σ 9)]) (st1 := [.int (fX0_blockerSet β a.toNatClampNeg)]) [.int (nI a.toNatClampNeg)] [1] (kX0_blockerSet l E bo β hv a.toNatClampNeg hx_4.2.1) caX0_blockerSet q2_187 rfl ⟨Nat.le_of_ble_eq_true rfl, Nat.le_of_ble_eq_true rfl⟩ ⟨Nat.le_of_ble_eq_true rfl, Nat.le_of_ble_eq_true rfl⟩ 1 0 rfl rfl rfl rfl (by decide) rfl rfl rfl rfl (Nat.le_of_ble_eq_true rfl) dX6_isBlocked_16 rfl ?_
  refine g_if_eq C 26 dX6_isBlocked_19 (by decide) (fun c_5 => ?_) (fun c_5 => ?_)
  · skip
    refine g_iconst C (v := 0) dX6_isBlocked_26 (by decide) ?_
    have e_6 : fX6_isBlocked β a = .inr false := by rw [fX6_isBlocked]; rw [if_pos c_3, if_pos c_5]
    refine g_widen (k1 := 3) (n1 := 18) (Nat.le_of_ble_eq_true rfl) (Nat.le_of_ble_eq_true rfl) ?_
    exact g_zret (b := false) C (gT_r hT (by rw [e_6] <;> rfl) rfl) rfl rfl rfl dX6_isBlocked_27
  · skip
    refine g_iconst C (v := 1) dX6_isBlocked_22 (by decide) ?_
    refine g_goto C 27 dX6_isBlocked_23 (by decide) ?_
    have e_7 : fX6_isBlocked β a = .inr true := by rw [fX6_isBlocked]; rw [if_pos c_3, if_neg c_5]
    refine g_widen (k1 := 3) (n1 := 18) (Nat.le_of_ble_eq_true rfl) (Nat.le_of_ble_eq_true rfl) ?_
    exact g_zret (b := true) C (gT_r hT (by rw [e_7] <;> rfl) rfl) rfl rfl rfl dX6_isBlocked_27
def fX6_blockersOf (β : BS) (a : Int32) : (String ⊕ Int32) :=
  if (fX0_hasTicket β a) = true then .inr (fJ6_bitCount_0f7a4 (fX0_blockerSet β a.toNatClampNeg)) else .inl xIO
theorem caX6_blockersOf : gCalV yX6_blockersOf cX6_blockersOf 2 (some .int) 1 := ⟨⟨q5_176, q1_1, by decide +kernel⟩, q5_174, q5_175⟩
set_option maxHeartbeats 4000000 in
set_option maxRecDepth 100000 in
theorem kX6_blockersOf (l : Launch) (E : gE) (ax : Nat) (bo : Nat → Nat) (β : BS) (tr : Nat → Nat) (τ : BS) (ac : Nat → Nat) (γ : BS) (ah : Nat → Nat) (bd : Nat → Nat → Nat) (η : BS) (σ : Nat → BS) (at_ : Nat → Nat) (θ : BS) (hlt : l.stackTraces = false) (hv : vB β)  (a : Int32) : MX l E yX6_blockersOf cX6_blockersOf 2 (some .int) 3 18 7 102 [.ref ax, .int a] [wX ax (bo 0) (tr 0) (ac 0) (ah 0) (at_ 0), wB E bo β, wB E tr τ, wC E ac γ, wH E ah bd η, wT E at_ θ, wB E (bd 2) (σ 2), wB E (bd 3) (σ 3), wB E (bd 4) (σ 4), wB E (bd 5) (σ 5), wB E (bd 6) (σ 6), wB E (bd 7) (σ 7), wB E (bd 8) (σ 8), wB E (bd 9) (σ 9)] (Sum.map id (fun v => some (.int v)) (fX6_blockersOf β a)) [wX ax (bo 0) (tr 0) (ac 0) (ah 0) (at_ 0), wB E bo β, wB E tr τ, wC E ac γ, wH E ah bd η, wT E at_ θ, wB E (bd 2) (σ 2), wB E (bd 3) (σ 3), wB E (bd 4) (σ 4), wB E (bd 5) (σ 5), wB E (bd 6) (σ 6), wB E (bd 7) (σ 7), wB E (bd 8) (σ 8), wB E (bd 9) (σ 9)] := by
  have hv1 : cnt β ≤ 20 := hv.1
  refine mx_of hlt (by decide +kernel) (Nat.le_of_ble_eq_true rfl) (lv := [(0, .ref ax), (1, .int a)]) rfl (fun X C hT => ?_)
  refine g_aload_n C dX6_blockersOf_0 rfl 0 rfl ?_
  refine g_getf C (T := TX6) (N := 5) 0 0 rfl rfl rfl inX6 0 (by decide) q1_192 rfl dX6_blockersOf_1 ?_
  refine g_iload_n C dX6_blockersOf_4 rfl 1 rfl ?_
  refine g_callV C (cs1 := [wX ax (bo 0) (tr 0) (ac 0) (ah 0) (at_ 0), wB E bo β, wB E tr τ, wC E ac γ, wH E ah bd η, wT E at_ θ, wB E (bd 2) (σ 2), wB E (bd 3) (σ 3), wB E (bd 4) (σ 4), wB E (bd 5) (σ 5), wB E (bd 6) (σ 6), wB E (bd 7) (σ 7), wB E (bd 8) (σ 8), wB E (bd 9) (σ 9)]) (st1 := [.int (b2i (fX0_hasTicket β a))]) [.int a] [1] (kX0_hasTicket l E bo β a) caX0_hasTicket q3_191 rfl ⟨Nat.le_of_ble_eq_true rfl, Nat.le_of_ble_eq_true rfl⟩ ⟨Nat.le_of_ble_eq_true rfl, Nat.le_of_ble_eq_true rfl⟩ 1 0 rfl rfl rfl rfl (by decide) rfl rfl rfl rfl (Nat.le_of_ble_eq_true rfl) dX6_blockersOf_5 rfl ?_
  have e_2 : (fX0_hasTicket β a) = false → fX6_blockersOf β a = .inl xIO := fun c_1 => by rw [fX6_blockersOf]; rw [if_neg (ne_true_of_eq_false c_1)]
  refine g_req (b := (fX0_hasTicket β a)) C hT (kX6_requireIndex l E hlt (fX0_hasTicket β a)) caX6_requireIndex q3_195 ⟨Nat.le_of_ble_eq_true rfl, Nat.le_of_ble_eq_true rfl⟩ ⟨Nat.le_of_ble_eq_true rfl, Nat.le_of_ble_eq_true rfl⟩ ⟨Nat.le_of_ble_eq_true rfl, Nat.le_of_ble_eq_true rfl⟩ (fun c => by rw [e_2 c]; exact ⟨rfl, rfl⟩) (Nat.le_of_ble_eq_true rfl) dX6_blockersOf_8 (fun c_3 => ?_)
  have hx_4 := hasTicket_i hv c_3
  refine g_aload_n C dX6_blockersOf_11 rfl 0 rfl ?_
  refine g_getf C (T := TX6) (N := 5) 0 0 rfl rfl rfl inX6 0 (by decide) q1_192 rfl dX6_blockersOf_12 ?_
  refine g_iload_n C dX6_blockersOf_15 rfl 1 rfl ?_
  refine g_st (st1 := [.int (nI a.toNatClampNeg), .ref (bo 0)]) (by rw [← hx_4.1]) ?_
  refine g_callV C (cs1 := [wX ax (bo 0) (tr 0) (ac 0) (ah 0) (at_ 0), wB E bo β, wB E tr τ, wC E ac γ, wH E ah bd η, wT E at_ θ, wB E (bd 2) (σ 2), wB E (bd 3) (σ 3), wB E (bd 4) (σ 4), wB E (bd 5) (σ 5), wB E (bd 6) (σ 6), wB E (bd 7) (σ 7), wB E (bd 8) (σ 8), wB E (bd 9) (σ 9)]) (st1 := [.int (fX0_blockerSet β a.toNatClampNeg)]) [.int (nI a.toNatClampNeg)] [1] (kX0_blockerSet l E bo β hv a.toNatClampNeg hx_4.2.1) caX0_blockerSet q2_187 rfl ⟨Nat.le_of_ble_eq_true rfl, Nat.le_of_ble_eq_true rfl⟩ ⟨Nat.le_of_ble_eq_true rfl, Nat.le_of_ble_eq_true rfl⟩ 1 0 rfl rfl rfl rfl (by decide) rfl rfl rfl rfl (Nat.le_of_ble_eq_true rfl) dX6_blockersOf_16 rfl ?_
  refine g_callS C (cs1 := [wX ax (bo 0) (tr 0) (ac 0) (ah 0) (at_ 0), wB E bo β, wB E tr τ, wC E ac γ, wH E ah bd η, wT E at_ θ, wB E (bd 2) (σ 2), wB E (bd 3) (σ 3), wB E (bd 4) (σ 4), wB E (bd 5) (σ 5), wB E (bd 6) (σ 6), wB E (bd 7) (σ 7), wB E (bd 8) (σ 8), wB E (bd 9) (σ 9)]) (st1 := [.int (fJ6_bitCount_0f7a4 (fX0_blockerSet β a.toNatClampNeg))]) [.int (fX0_blockerSet β a.toNatClampNeg)] [] (kJ6_bitCount_0f7a4 l E (fX0_blockerSet β a.toNatClampNeg)) caJ6_bitCount_0f7a4 q2_191 rfl ⟨Nat.le_of_ble_eq_true rfl, Nat.le_of_ble_eq_true rfl⟩ ⟨Nat.le_of_ble_eq_true rfl, Nat.le_of_ble_eq_true rfl⟩ (by decide) rfl rfl rfl rfl (Nat.le_of_ble_eq_true rfl) dX6_blockersOf_19 rfl ?_
  have e_5 : fX6_blockersOf β a = .inr (fJ6_bitCount_0f7a4 (fX0_blockerSet β a.toNatClampNeg)) := by rw [fX6_blockersOf]; rw [if_pos c_3]
  refine g_widen (k1 := 3) (n1 := 18) (Nat.le_of_ble_eq_true rfl) (Nat.le_of_ble_eq_true rfl) ?_
  exact g_iret C (gT_r hT (by rw [e_5] <;> rfl) rfl) rfl rfl dX6_blockersOf_22
def fX6_allNeedsByGoing (β : BS) (a : Int32) : (String ⊕ Int32) :=
  if (fX0_hasTicket β a) = true then .inr (fJ6_bitCount_0f7a4 (fX0_reachedFrom β a.toNatClampNeg)) else .inl xIO
theorem caX6_allNeedsByGoing : gCalV yX6_allNeedsByGoing cX6_allNeedsByGoing 2 (some .int) 1 := ⟨⟨q5_183, q1_1, by decide +kernel⟩, q5_181, q5_182⟩
set_option maxHeartbeats 4000000 in
set_option maxRecDepth 100000 in
theorem kX6_allNeedsByGoing (l : Launch) (E : gE) (ax : Nat) (bo : Nat → Nat) (β : BS) (tr : Nat → Nat) (τ : BS) (ac : Nat → Nat) (γ : BS) (ah : Nat → Nat) (bd : Nat → Nat → Nat) (η : BS) (σ : Nat → BS) (at_ : Nat → Nat) (θ : BS) (hlt : l.stackTraces = false) (hv : vB β)  (a : Int32) : MX l E yX6_allNeedsByGoing cX6_allNeedsByGoing 2 (some .int) 3 18 7 102 [.ref ax, .int a] [wX ax (bo 0) (tr 0) (ac 0) (ah 0) (at_ 0), wB E bo β, wB E tr τ, wC E ac γ, wH E ah bd η, wT E at_ θ, wB E (bd 2) (σ 2), wB E (bd 3) (σ 3), wB E (bd 4) (σ 4), wB E (bd 5) (σ 5), wB E (bd 6) (σ 6), wB E (bd 7) (σ 7), wB E (bd 8) (σ 8), wB E (bd 9) (σ 9)] (Sum.map id (fun v => some (.int v)) (fX6_allNeedsByGoing β a)) [wX ax (bo 0) (tr 0) (ac 0) (ah 0) (at_ 0), wB E bo β, wB E tr τ, wC E ac γ, wH E ah bd η, wT E at_ θ, wB E (bd 2) (σ 2), wB E (bd 3) (σ 3), wB E (bd 4) (σ 4), wB E (bd 5) (σ 5), wB E (bd 6) (σ 6), wB E (bd 7) (σ 7), wB E (bd 8) (σ 8), wB E (bd 9) (σ 9)] := by
  have hv1 : cnt β ≤ 20 := hv.1
  refine mx_of hlt (by decide +kernel) (Nat.le_of_ble_eq_true rfl) (lv := [(0, .ref ax), (1, .int a)]) rfl (fun X C hT => ?_)
  refine g_aload_n C dX6_allNeedsByGoing_0 rfl 0 rfl ?_
  refine g_getf C (T := TX6) (N := 5) 0 0 rfl rfl rfl inX6 0 (by decide) q1_192 rfl dX6_allNeedsByGoing_1 ?_
  refine g_iload_n C dX6_allNeedsByGoing_4 rfl 1 rfl ?_
  refine g_callV C (cs1 := [wX ax (bo 0) (tr 0) (ac 0) (ah 0) (at_ 0), wB E bo β, wB E tr τ, wC E ac γ, wH E ah bd η, wT E at_ θ, wB E (bd 2) (σ 2), wB E (bd 3) (σ 3), wB E (bd 4) (σ 4), wB E (bd 5) (σ 5), wB E (bd 6) (σ 6), wB E (bd 7) (σ 7), wB E (bd 8) (σ 8), wB E (bd 9) (σ 9)]) (st1 := [.int (b2i (fX0_hasTicket β a))]) [.int a] [1] (kX0_hasTicket l E bo β a) caX0_hasTicket q3_191 rfl ⟨Nat.le_of_ble_eq_true rfl, Nat.le_of_ble_eq_true rfl⟩ ⟨Nat.le_of_ble_eq_true rfl, Nat.le_of_ble_eq_true rfl⟩ 1 0 rfl rfl rfl rfl (by decide) rfl rfl rfl rfl (Nat.le_of_ble_eq_true rfl) dX6_allNeedsByGoing_5 rfl ?_
  have e_2 : (fX0_hasTicket β a) = false → fX6_allNeedsByGoing β a = .inl xIO := fun c_1 => by rw [fX6_allNeedsByGoing]; rw [if_neg (ne_true_of_eq_false c_1)]
  refine g_req (b := (fX0_hasTicket β a)) C hT (kX6_requireIndex l E hlt (fX0_hasTicket β a)) caX6_requireIndex q3_195 ⟨Nat.le_of_ble_eq_true rfl, Nat.le_of_ble_eq_true rfl⟩ ⟨Nat.le_of_ble_eq_true rfl, Nat.le_of_ble_eq_true rfl⟩ ⟨Nat.le_of_ble_eq_true rfl, Nat.le_of_ble_eq_true rfl⟩ (fun c => by rw [e_2 c]; exact ⟨rfl, rfl⟩) (Nat.le_of_ble_eq_true rfl) dX6_allNeedsByGoing_8 (fun c_3 => ?_)
  have hx_4 := hasTicket_i hv c_3
  refine g_aload_n C dX6_allNeedsByGoing_11 rfl 0 rfl ?_
  refine g_getf C (T := TX6) (N := 5) 0 0 rfl rfl rfl inX6 0 (by decide) q1_192 rfl dX6_allNeedsByGoing_12 ?_
  refine g_iload_n C dX6_allNeedsByGoing_15 rfl 1 rfl ?_
  refine g_st (st1 := [.int (nI a.toNatClampNeg), .ref (bo 0)]) (by rw [← hx_4.1]) ?_
  refine g_callV C (cs1 := [wX ax (bo 0) (tr 0) (ac 0) (ah 0) (at_ 0), wB E bo β, wB E tr τ, wC E ac γ, wH E ah bd η, wT E at_ θ, wB E (bd 2) (σ 2), wB E (bd 3) (σ 3), wB E (bd 4) (σ 4), wB E (bd 5) (σ 5), wB E (bd 6) (σ 6), wB E (bd 7) (σ 7), wB E (bd 8) (σ 8), wB E (bd 9) (σ 9)]) (st1 := [.int (fX0_reachedFrom β a.toNatClampNeg)]) [.int (nI a.toNatClampNeg)] [1] (kX0_reachedFrom l E bo β hv a.toNatClampNeg hx_4.2.1) caX0_reachedFrom q2_195 rfl ⟨Nat.le_of_ble_eq_true rfl, Nat.le_of_ble_eq_true rfl⟩ ⟨Nat.le_of_ble_eq_true rfl, Nat.le_of_ble_eq_true rfl⟩ 1 0 rfl rfl rfl rfl (by decide) rfl rfl rfl rfl (Nat.le_of_ble_eq_true rfl) dX6_allNeedsByGoing_16 rfl ?_
  refine g_callS C (cs1 := [wX ax (bo 0) (tr 0) (ac 0) (ah 0) (at_ 0), wB E bo β, wB E tr τ, wC E ac γ, wH E ah bd η, wT E at_ θ, wB E (bd 2) (σ 2), wB E (bd 3) (σ 3), wB E (bd 4) (σ 4), wB E (bd 5) (σ 5), wB E (bd 6) (σ 6), wB E (bd 7) (σ 7), wB E (bd 8) (σ 8), wB E (bd 9) (σ 9)]) (st1 := [.int (fJ6_bitCount_0f7a4 (fX0_reachedFrom β a.toNatClampNeg))]) [.int (fX0_reachedFrom β a.toNatClampNeg)] [] (kJ6_bitCount_0f7a4 l E (fX0_reachedFrom β a.toNatClampNeg)) caJ6_bitCount_0f7a4 q2_191 rfl ⟨Nat.le_of_ble_eq_true rfl, Nat.le_of_ble_eq_true rfl⟩ ⟨Nat.le_of_ble_eq_true rfl, Nat.le_of_ble_eq_true rfl⟩ (by decide) rfl rfl rfl rfl (Nat.le_of_ble_eq_true rfl) dX6_allNeedsByGoing_19 rfl ?_
  have e_5 : fX6_allNeedsByGoing β a = .inr (fJ6_bitCount_0f7a4 (fX0_reachedFrom β a.toNatClampNeg)) := by rw [fX6_allNeedsByGoing]; rw [if_pos c_3]
  refine g_widen (k1 := 3) (n1 := 18) (Nat.le_of_ble_eq_true rfl) (Nat.le_of_ble_eq_true rfl) ?_
  exact g_iret C (gT_r hT (by rw [e_5] <;> rfl) rfl) rfl rfl dX6_allNeedsByGoing_22
def fX6_chainOf (β : BS) (a : Int32) : (String ⊕ Int32) :=
  if (fX0_hasTicket β a) = true then .inr (fX1_longestFrom β a.toNatClampNeg) else .inl xIO
theorem caX6_chainOf : gCalV yX6_chainOf cX6_chainOf 2 (some .int) 1 := ⟨⟨q5_197, q1_1, by decide +kernel⟩, q5_195, q5_196⟩
set_option maxHeartbeats 4000000 in
set_option maxRecDepth 100000 in
theorem kX6_chainOf (l : Launch) (E : gE) (ax : Nat) (bo : Nat → Nat) (β : BS) (tr : Nat → Nat) (τ : BS) (ac : Nat → Nat) (γ : BS) (ah : Nat → Nat) (bd : Nat → Nat → Nat) (η : BS) (σ : Nat → BS) (at_ : Nat → Nat) (θ : BS) (hlt : l.stackTraces = false) (hv : vB β)  (a : Int32) : MX l E yX6_chainOf cX6_chainOf 2 (some .int) 3 18 7 102 [.ref ax, .int a] [wX ax (bo 0) (tr 0) (ac 0) (ah 0) (at_ 0), wB E bo β, wB E tr τ, wC E ac γ, wH E ah bd η, wT E at_ θ, wB E (bd 2) (σ 2), wB E (bd 3) (σ 3), wB E (bd 4) (σ 4), wB E (bd 5) (σ 5), wB E (bd 6) (σ 6), wB E (bd 7) (σ 7), wB E (bd 8) (σ 8), wB E (bd 9) (σ 9)] (Sum.map id (fun v => some (.int v)) (fX6_chainOf β a)) [wX ax (bo 0) (tr 0) (ac 0) (ah 0) (at_ 0), wB E bo β, wB E tr τ, wC E ac γ, wH E ah bd η, wT E at_ θ, wB E (bd 2) (σ 2), wB E (bd 3) (σ 3), wB E (bd 4) (σ 4), wB E (bd 5) (σ 5), wB E (bd 6) (σ 6), wB E (bd 7) (σ 7), wB E (bd 8) (σ 8), wB E (bd 9) (σ 9)] := by
  have hv1 : cnt β ≤ 20 := hv.1
  refine mx_of hlt (by decide +kernel) (Nat.le_of_ble_eq_true rfl) (lv := [(0, .ref ax), (1, .int a)]) rfl (fun X C hT => ?_)
  refine g_aload_n C dX6_chainOf_0 rfl 0 rfl ?_
  refine g_getf C (T := TX6) (N := 5) 0 0 rfl rfl rfl inX6 0 (by decide) q1_192 rfl dX6_chainOf_1 ?_
  refine g_iload_n C dX6_chainOf_4 rfl 1 rfl ?_
  refine g_callV C (cs1 := [wX ax (bo 0) (tr 0) (ac 0) (ah 0) (at_ 0), wB E bo β, wB E tr τ, wC E ac γ, wH E ah bd η, wT E at_ θ, wB E (bd 2) (σ 2), wB E (bd 3) (σ 3), wB E (bd 4) (σ 4), wB E (bd 5) (σ 5), wB E (bd 6) (σ 6), wB E (bd 7) (σ 7), wB E (bd 8) (σ 8), wB E (bd 9) (σ 9)]) (st1 := [.int (b2i (fX0_hasTicket β a))]) [.int a] [1] (kX0_hasTicket l E bo β a) caX0_hasTicket q3_191 rfl ⟨Nat.le_of_ble_eq_true rfl, Nat.le_of_ble_eq_true rfl⟩ ⟨Nat.le_of_ble_eq_true rfl, Nat.le_of_ble_eq_true rfl⟩ 1 0 rfl rfl rfl rfl (by decide) rfl rfl rfl rfl (Nat.le_of_ble_eq_true rfl) dX6_chainOf_5 rfl ?_
  have e_2 : (fX0_hasTicket β a) = false → fX6_chainOf β a = .inl xIO := fun c_1 => by rw [fX6_chainOf]; rw [if_neg (ne_true_of_eq_false c_1)]
  refine g_req (b := (fX0_hasTicket β a)) C hT (kX6_requireIndex l E hlt (fX0_hasTicket β a)) caX6_requireIndex q3_195 ⟨Nat.le_of_ble_eq_true rfl, Nat.le_of_ble_eq_true rfl⟩ ⟨Nat.le_of_ble_eq_true rfl, Nat.le_of_ble_eq_true rfl⟩ ⟨Nat.le_of_ble_eq_true rfl, Nat.le_of_ble_eq_true rfl⟩ (fun c => by rw [e_2 c]; exact ⟨rfl, rfl⟩) (Nat.le_of_ble_eq_true rfl) dX6_chainOf_8 (fun c_3 => ?_)
  have hx_4 := hasTicket_i hv c_3
  refine g_aload_n C dX6_chainOf_11 rfl 0 rfl ?_
  refine g_getf C (T := TX6) (N := 5) 0 0 rfl rfl rfl inX6 0 (by decide) q1_192 rfl dX6_chainOf_12 ?_
  refine g_iload_n C dX6_chainOf_15 rfl 1 rfl ?_
  refine g_st (st1 := [.int (nI a.toNatClampNeg), .ref (bo 0)]) (by rw [← hx_4.1]) ?_
  refine g_callS C (cs1 := [wX ax (bo 0) (tr 0) (ac 0) (ah 0) (at_ 0), wB E bo β, wB E tr τ, wC E ac γ, wH E ah bd η, wT E at_ θ, wB E (bd 2) (σ 2), wB E (bd 3) (σ 3), wB E (bd 4) (σ 4), wB E (bd 5) (σ 5), wB E (bd 6) (σ 6), wB E (bd 7) (σ 7), wB E (bd 8) (σ 8), wB E (bd 9) (σ 9)]) (st1 := [.int (fX1_longestFrom β a.toNatClampNeg)]) [.ref (bo 0), .int (nI a.toNatClampNeg)] [1] (kX1_longestFrom l E bo β hv a.toNatClampNeg hx_4.2.1) caX1_longestFrom q2_208 rfl ⟨Nat.le_of_ble_eq_true rfl, Nat.le_of_ble_eq_true rfl⟩ ⟨Nat.le_of_ble_eq_true rfl, Nat.le_of_ble_eq_true rfl⟩ (by decide) rfl rfl rfl rfl (Nat.le_of_ble_eq_true rfl) dX6_chainOf_16 rfl ?_
  have e_5 : fX6_chainOf β a = .inr (fX1_longestFrom β a.toNatClampNeg) := by rw [fX6_chainOf]; rw [if_pos c_3]
  refine g_widen (k1 := 3) (n1 := 18) (Nat.le_of_ble_eq_true rfl) (Nat.le_of_ble_eq_true rfl) ?_
  exact g_iret C (gT_r hT (by rw [e_5] <;> rfl) rfl) rfl rfl dX6_chainOf_19
def fX6_needs (β : BS) (a : Int32) (b : Int32) : (String ⊕ Bool) :=
  if (fX0_hasTicket β a) = true then (if (fX0_hasTicket β b) = true then .inr (fX0_needsDirectly β a.toNatClampNeg b) else .inl xIO) else .inl xIO
theorem caX6_needs : gCalV yX6_needs cX6_needs 3 (some .boolean) 2 := ⟨⟨q5_147, q1_1, by decide +kernel⟩, q5_145, q5_146⟩
set_option maxHeartbeats 4000000 in
set_option maxRecDepth 100000 in
theorem kX6_needs (l : Launch) (E : gE) (ax : Nat) (bo : Nat → Nat) (β : BS) (tr : Nat → Nat) (τ : BS) (ac : Nat → Nat) (γ : BS) (ah : Nat → Nat) (bd : Nat → Nat → Nat) (η : BS) (σ : Nat → BS) (at_ : Nat → Nat) (θ : BS) (hlt : l.stackTraces = false) (hv : vB β)  (a : Int32) (b : Int32) : MX l E yX6_needs cX6_needs 3 (some .boolean) 3 18 7 102 [.ref ax, .int a, .int b] [wX ax (bo 0) (tr 0) (ac 0) (ah 0) (at_ 0), wB E bo β, wB E tr τ, wC E ac γ, wH E ah bd η, wT E at_ θ, wB E (bd 2) (σ 2), wB E (bd 3) (σ 3), wB E (bd 4) (σ 4), wB E (bd 5) (σ 5), wB E (bd 6) (σ 6), wB E (bd 7) (σ 7), wB E (bd 8) (σ 8), wB E (bd 9) (σ 9)] (Sum.map id (fun v => some (.int (b2i v))) (fX6_needs β a b)) [wX ax (bo 0) (tr 0) (ac 0) (ah 0) (at_ 0), wB E bo β, wB E tr τ, wC E ac γ, wH E ah bd η, wT E at_ θ, wB E (bd 2) (σ 2), wB E (bd 3) (σ 3), wB E (bd 4) (σ 4), wB E (bd 5) (σ 5), wB E (bd 6) (σ 6), wB E (bd 7) (σ 7), wB E (bd 8) (σ 8), wB E (bd 9) (σ 9)] := by
  have hv1 : cnt β ≤ 20 := hv.1
  refine mx_of hlt (by decide +kernel) (Nat.le_of_ble_eq_true rfl) (lv := [(0, .ref ax), (1, .int a), (2, .int b)]) rfl (fun X C hT => ?_)
  refine g_aload_n C dX6_needs_0 rfl 0 rfl ?_
  refine g_getf C (T := TX6) (N := 5) 0 0 rfl rfl rfl inX6 0 (by decide) q1_192 rfl dX6_needs_1 ?_
  refine g_iload_n C dX6_needs_4 rfl 1 rfl ?_
  refine g_callV C (cs1 := [wX ax (bo 0) (tr 0) (ac 0) (ah 0) (at_ 0), wB E bo β, wB E tr τ, wC E ac γ, wH E ah bd η, wT E at_ θ, wB E (bd 2) (σ 2), wB E (bd 3) (σ 3), wB E (bd 4) (σ 4), wB E (bd 5) (σ 5), wB E (bd 6) (σ 6), wB E (bd 7) (σ 7), wB E (bd 8) (σ 8), wB E (bd 9) (σ 9)]) (st1 := [.int (b2i (fX0_hasTicket β a))]) [.int a] [1] (kX0_hasTicket l E bo β a) caX0_hasTicket q3_191 rfl ⟨Nat.le_of_ble_eq_true rfl, Nat.le_of_ble_eq_true rfl⟩ ⟨Nat.le_of_ble_eq_true rfl, Nat.le_of_ble_eq_true rfl⟩ 1 0 rfl rfl rfl rfl (by decide) rfl rfl rfl rfl (Nat.le_of_ble_eq_true rfl) dX6_needs_5 rfl ?_
  refine g_ifB_eq C 26 dX6_needs_8 (by decide) (fun c_1 => ?_) (fun c_1 => ?_)
  · skip
    refine g_iconst C (v := 0) dX6_needs_26 (by decide) ?_
    have e_3 : false = false → fX6_needs β a b = .inl xIO := fun c_2 => by rw [fX6_needs]; rw [if_neg (ne_true_of_eq_false c_1)]
    exact g_req (b := false) C hT (kX6_requireIndex l E hlt false) caX6_requireIndex q3_195 ⟨Nat.le_of_ble_eq_true rfl, Nat.le_of_ble_eq_true rfl⟩ ⟨Nat.le_of_ble_eq_true rfl, Nat.le_of_ble_eq_true rfl⟩ ⟨Nat.le_of_ble_eq_true rfl, Nat.le_of_ble_eq_true rfl⟩ (fun c => by rw [e_3 c]; exact ⟨rfl, rfl⟩) (Nat.le_of_ble_eq_true rfl) dX6_needs_27 (fun h => absurd h (by decide))
  · skip
    have hx_4 := hasTicket_i hv c_1
    refine g_aload_n C dX6_needs_11 rfl 0 rfl ?_
    refine g_getf C (T := TX6) (N := 5) 0 0 rfl rfl rfl inX6 0 (by decide) q1_192 rfl dX6_needs_12 ?_
    refine g_iload_n C dX6_needs_15 rfl 2 rfl ?_
    refine g_callV C (cs1 := [wX ax (bo 0) (tr 0) (ac 0) (ah 0) (at_ 0), wB E bo β, wB E tr τ, wC E ac γ, wH E ah bd η, wT E at_ θ, wB E (bd 2) (σ 2), wB E (bd 3) (σ 3), wB E (bd 4) (σ 4), wB E (bd 5) (σ 5), wB E (bd 6) (σ 6), wB E (bd 7) (σ 7), wB E (bd 8) (σ 8), wB E (bd 9) (σ 9)]) (st1 := [.int (b2i (fX0_hasTicket β b))]) [.int b] [1] (kX0_hasTicket l E bo β b) caX0_hasTicket q3_191 rfl ⟨Nat.le_of_ble_eq_true rfl, Nat.le_of_ble_eq_true rfl⟩ ⟨Nat.le_of_ble_eq_true rfl, Nat.le_of_ble_eq_true rfl⟩ 1 0 rfl rfl rfl rfl (by decide) rfl rfl rfl rfl (Nat.le_of_ble_eq_true rfl) dX6_needs_16 rfl ?_
    refine g_ifB_eq C 26 dX6_needs_19 (by decide) (fun c_5 => ?_) (fun c_5 => ?_)
    · skip
      refine g_iconst C (v := 0) dX6_needs_26 (by decide) ?_
      have e_7 : false = false → fX6_needs β a b = .inl xIO := fun c_6 => by rw [fX6_needs]; rw [if_pos c_1, if_neg (ne_true_of_eq_false c_5)]
      exact g_req (b := false) C hT (kX6_requireIndex l E hlt false) caX6_requireIndex q3_195 ⟨Nat.le_of_ble_eq_true rfl, Nat.le_of_ble_eq_true rfl⟩ ⟨Nat.le_of_ble_eq_true rfl, Nat.le_of_ble_eq_true rfl⟩ ⟨Nat.le_of_ble_eq_true rfl, Nat.le_of_ble_eq_true rfl⟩ (fun c => by rw [e_7 c]; exact ⟨rfl, rfl⟩) (Nat.le_of_ble_eq_true rfl) dX6_needs_27 (fun h => absurd h (by decide))
    · skip
      have hx_8 := hasTicket_i hv c_5
      refine g_iconst C (v := 1) dX6_needs_22 (by decide) ?_
      refine g_goto C 27 dX6_needs_23 (by decide) ?_
      refine g_req (b := true) C hT (kX6_requireIndex l E hlt true) caX6_requireIndex q3_195 ⟨Nat.le_of_ble_eq_true rfl, Nat.le_of_ble_eq_true rfl⟩ ⟨Nat.le_of_ble_eq_true rfl, Nat.le_of_ble_eq_true rfl⟩ ⟨Nat.le_of_ble_eq_true rfl, Nat.le_of_ble_eq_true rfl⟩ (fun h => absurd h (by decide)) (Nat.le_of_ble_eq_true rfl) dX6_needs_27 (fun _ => ?_)
      refine g_aload_n C dX6_needs_30 rfl 0 rfl ?_
      refine g_getf C (T := TX6) (N := 5) 0 0 rfl rfl rfl inX6 0 (by decide) q1_192 rfl dX6_needs_31 ?_
      refine g_iload_n C dX6_needs_34 rfl 1 rfl ?_
      refine g_iload_n C dX6_needs_35 rfl 2 rfl ?_
      refine g_st (st1 := [.int b, .int (nI a.toNatClampNeg), .ref (bo 0)]) (by rw [← hx_4.1]) ?_
      refine g_callV C (cs1 := [wX ax (bo 0) (tr 0) (ac 0) (ah 0) (at_ 0), wB E bo β, wB E tr τ, wC E ac γ, wH E ah bd η, wT E at_ θ, wB E (bd 2) (σ 2), wB E (bd 3) (σ 3), wB E (bd 4) (σ 4), wB E (bd 5) (σ 5), wB E (bd 6) (σ 6), wB E (bd 7) (σ 7), wB E (bd 8) (σ 8), wB E (bd 9) (σ 9)]) (st1 := [.int (b2i (fX0_needsDirectly β a.toNatClampNeg b))]) [.int (nI a.toNatClampNeg), .int b] [1] (kX0_needsDirectly l E bo β a.toNatClampNeg hx_4.2.1 b) caX0_needsDirectly q2_212 rfl ⟨Nat.le_of_ble_eq_true rfl, Nat.le_of_ble_eq_true rfl⟩ ⟨Nat.le_of_ble_eq_true rfl, Nat.le_of_ble_eq_true rfl⟩ 1 0 rfl rfl rfl rfl (by decide) rfl rfl rfl rfl (Nat.le_of_ble_eq_true rfl) dX6_needs_36 rfl ?_
      have e_11 : fX6_needs β a b = .inr (fX0_needsDirectly β a.toNatClampNeg b) := by rw [fX6_needs]; rw [if_pos c_1, if_pos c_5]
      refine g_widen (k1 := 3) (n1 := 18) (Nat.le_of_ble_eq_true rfl) (Nat.le_of_ble_eq_true rfl) ?_
      exact g_zret (b := (fX0_needsDirectly β a.toNatClampNeg b)) C (gT_r hT (by rw [e_11] <;> rfl) rfl) rfl rfl rfl dX6_needs_39
def fX6_capacityOf (β : BS) (a : Int32) : (String ⊕ Int32) :=
  if (fX6_isOwner a) = true then .inr (β.2 10 a.toNatClampNeg) else .inl xIO
theorem caX6_capacityOf : gCalV yX6_capacityOf cX6_capacityOf 2 (some .int) 1 := ⟨⟨q5_204, q1_1, by decide +kernel⟩, q5_202, q5_203⟩
set_option maxHeartbeats 4000000 in
set_option maxRecDepth 100000 in
theorem kX6_capacityOf (l : Launch) (E : gE) (ax : Nat) (bo : Nat → Nat) (β : BS) (tr : Nat → Nat) (τ : BS) (ac : Nat → Nat) (γ : BS) (ah : Nat → Nat) (bd : Nat → Nat → Nat) (η : BS) (σ : Nat → BS) (at_ : Nat → Nat) (θ : BS) (hlt : l.stackTraces = false) (hv : vB β)  (a : Int32) : MX l E yX6_capacityOf cX6_capacityOf 2 (some .int) 3 18 7 102 [.ref ax, .int a] [wX ax (bo 0) (tr 0) (ac 0) (ah 0) (at_ 0), wB E bo β, wB E tr τ, wC E ac γ, wH E ah bd η, wT E at_ θ, wB E (bd 2) (σ 2), wB E (bd 3) (σ 3), wB E (bd 4) (σ 4), wB E (bd 5) (σ 5), wB E (bd 6) (σ 6), wB E (bd 7) (σ 7), wB E (bd 8) (σ 8), wB E (bd 9) (σ 9)] (Sum.map id (fun v => some (.int v)) (fX6_capacityOf β a)) [wX ax (bo 0) (tr 0) (ac 0) (ah 0) (at_ 0), wB E bo β, wB E tr τ, wC E ac γ, wH E ah bd η, wT E at_ θ, wB E (bd 2) (σ 2), wB E (bd 3) (σ 3), wB E (bd 4) (σ 4), wB E (bd 5) (σ 5), wB E (bd 6) (σ 6), wB E (bd 7) (σ 7), wB E (bd 8) (σ 8), wB E (bd 9) (σ 9)] := by
  have hv1 : cnt β ≤ 20 := hv.1
  refine mx_of hlt (by decide +kernel) (Nat.le_of_ble_eq_true rfl) (lv := [(0, .ref ax), (1, .int a)]) rfl (fun X C hT => ?_)
  refine g_iload_n C dX6_capacityOf_0 rfl 1 rfl ?_
  refine g_callS C (cs1 := [wX ax (bo 0) (tr 0) (ac 0) (ah 0) (at_ 0), wB E bo β, wB E tr τ, wC E ac γ, wH E ah bd η, wT E at_ θ, wB E (bd 2) (σ 2), wB E (bd 3) (σ 3), wB E (bd 4) (σ 4), wB E (bd 5) (σ 5), wB E (bd 6) (σ 6), wB E (bd 7) (σ 7), wB E (bd 8) (σ 8), wB E (bd 9) (σ 9)]) (st1 := [.int (b2i (fX6_isOwner a))]) [.int a] [] (kX6_isOwner l E a) caX6_isOwner q4_37 rfl ⟨Nat.le_of_ble_eq_true rfl, Nat.le_of_ble_eq_true rfl⟩ ⟨Nat.le_of_ble_eq_true rfl, Nat.le_of_ble_eq_true rfl⟩ (by decide) rfl rfl rfl rfl (Nat.le_of_ble_eq_true rfl) dX6_capacityOf_1 rfl ?_
  have e_2 : (fX6_isOwner a) = false → fX6_capacityOf β a = .inl xIO := fun c_1 => by rw [fX6_capacityOf]; rw [if_neg (ne_true_of_eq_false c_1)]
  refine g_req (b := (fX6_isOwner a)) C hT (kX6_requireIndex l E hlt (fX6_isOwner a)) caX6_requireIndex q3_195 ⟨Nat.le_of_ble_eq_true rfl, Nat.le_of_ble_eq_true rfl⟩ ⟨Nat.le_of_ble_eq_true rfl, Nat.le_of_ble_eq_true rfl⟩ ⟨Nat.le_of_ble_eq_true rfl, Nat.le_of_ble_eq_true rfl⟩ (fun c => by rw [e_2 c]; exact ⟨rfl, rfl⟩) (Nat.le_of_ble_eq_true rfl) dX6_capacityOf_4 (fun c_3 => ?_)
  have hx_4 := isOwner_i c_3
  refine g_aload_n C dX6_capacityOf_7 rfl 0 rfl ?_
  refine g_getf C (T := TX6) (N := 5) 0 0 rfl rfl rfl inX6 0 (by decide) q1_192 rfl dX6_capacityOf_8 ?_
  refine g_getf C (T := TX0) (N := 17) 1 0 rfl rfl rfl inX0 14 (by decide) q1_74 rfl dX6_capacityOf_11 ?_
  refine g_iload_n C dX6_capacityOf_14 rfl 1 rfl ?_
  refine g_ialdn C 1 11 a.toNatClampNeg rfl rfl hx_4.1 hx_4.2 (by decide) dX6_capacityOf_15 ?_
  have e_5 : fX6_capacityOf β a = .inr (β.2 10 a.toNatClampNeg) := by rw [fX6_capacityOf]; rw [if_pos c_3]
  refine g_widen (k1 := 3) (n1 := 18) (Nat.le_of_ble_eq_true rfl) (Nat.le_of_ble_eq_true rfl) ?_
  exact g_iret C (gT_r hT (by rw [e_5] <;> rfl) rfl) rfl rfl dX6_capacityOf_16
def fX6_loadByTickets (β : BS) (a : Int32) : (String ⊕ Int32) :=
  if (fX6_isOwner a) = true then .inr (fX5_loadOf β a) else .inl xIO
theorem caX6_loadByTickets : gCalV yX6_loadByTickets cX6_loadByTickets 2 (some .int) 1 := ⟨⟨q5_211, q1_1, by decide +kernel⟩, q5_209, q5_210⟩
set_option maxHeartbeats 4000000 in
set_option maxRecDepth 100000 in
theorem kX6_loadByTickets (l : Launch) (E : gE) (ax : Nat) (bo : Nat → Nat) (β : BS) (tr : Nat → Nat) (τ : BS) (ac : Nat → Nat) (γ : BS) (ah : Nat → Nat) (bd : Nat → Nat → Nat) (η : BS) (σ : Nat → BS) (at_ : Nat → Nat) (θ : BS) (hlt : l.stackTraces = false) (hv : vB β)  (a : Int32) : MX l E yX6_loadByTickets cX6_loadByTickets 2 (some .int) 3 18 7 102 [.ref ax, .int a] [wX ax (bo 0) (tr 0) (ac 0) (ah 0) (at_ 0), wB E bo β, wB E tr τ, wC E ac γ, wH E ah bd η, wT E at_ θ, wB E (bd 2) (σ 2), wB E (bd 3) (σ 3), wB E (bd 4) (σ 4), wB E (bd 5) (σ 5), wB E (bd 6) (σ 6), wB E (bd 7) (σ 7), wB E (bd 8) (σ 8), wB E (bd 9) (σ 9)] (Sum.map id (fun v => some (.int v)) (fX6_loadByTickets β a)) [wX ax (bo 0) (tr 0) (ac 0) (ah 0) (at_ 0), wB E bo β, wB E tr τ, wC E ac γ, wH E ah bd η, wT E at_ θ, wB E (bd 2) (σ 2), wB E (bd 3) (σ 3), wB E (bd 4) (σ 4), wB E (bd 5) (σ 5), wB E (bd 6) (σ 6), wB E (bd 7) (σ 7), wB E (bd 8) (σ 8), wB E (bd 9) (σ 9)] := by
  have hv1 : cnt β ≤ 20 := hv.1
  refine mx_of hlt (by decide +kernel) (Nat.le_of_ble_eq_true rfl) (lv := [(0, .ref ax), (1, .int a)]) rfl (fun X C hT => ?_)
  refine g_iload_n C dX6_loadByTickets_0 rfl 1 rfl ?_
  refine g_callS C (cs1 := [wX ax (bo 0) (tr 0) (ac 0) (ah 0) (at_ 0), wB E bo β, wB E tr τ, wC E ac γ, wH E ah bd η, wT E at_ θ, wB E (bd 2) (σ 2), wB E (bd 3) (σ 3), wB E (bd 4) (σ 4), wB E (bd 5) (σ 5), wB E (bd 6) (σ 6), wB E (bd 7) (σ 7), wB E (bd 8) (σ 8), wB E (bd 9) (σ 9)]) (st1 := [.int (b2i (fX6_isOwner a))]) [.int a] [] (kX6_isOwner l E a) caX6_isOwner q4_37 rfl ⟨Nat.le_of_ble_eq_true rfl, Nat.le_of_ble_eq_true rfl⟩ ⟨Nat.le_of_ble_eq_true rfl, Nat.le_of_ble_eq_true rfl⟩ (by decide) rfl rfl rfl rfl (Nat.le_of_ble_eq_true rfl) dX6_loadByTickets_1 rfl ?_
  have e_2 : (fX6_isOwner a) = false → fX6_loadByTickets β a = .inl xIO := fun c_1 => by rw [fX6_loadByTickets]; rw [if_neg (ne_true_of_eq_false c_1)]
  refine g_req (b := (fX6_isOwner a)) C hT (kX6_requireIndex l E hlt (fX6_isOwner a)) caX6_requireIndex q3_195 ⟨Nat.le_of_ble_eq_true rfl, Nat.le_of_ble_eq_true rfl⟩ ⟨Nat.le_of_ble_eq_true rfl, Nat.le_of_ble_eq_true rfl⟩ ⟨Nat.le_of_ble_eq_true rfl, Nat.le_of_ble_eq_true rfl⟩ (fun c => by rw [e_2 c]; exact ⟨rfl, rfl⟩) (Nat.le_of_ble_eq_true rfl) dX6_loadByTickets_4 (fun c_3 => ?_)
  have hx_4 := isOwner_i c_3
  refine g_aload_n C dX6_loadByTickets_7 rfl 0 rfl ?_
  refine g_getf C (T := TX6) (N := 5) 0 0 rfl rfl rfl inX6 0 (by decide) q1_192 rfl dX6_loadByTickets_8 ?_
  refine g_iload_n C dX6_loadByTickets_11 rfl 1 rfl ?_
  refine g_callS C (cs1 := [wX ax (bo 0) (tr 0) (ac 0) (ah 0) (at_ 0), wB E bo β, wB E tr τ, wC E ac γ, wH E ah bd η, wT E at_ θ, wB E (bd 2) (σ 2), wB E (bd 3) (σ 3), wB E (bd 4) (σ 4), wB E (bd 5) (σ 5), wB E (bd 6) (σ 6), wB E (bd 7) (σ 7), wB E (bd 8) (σ 8), wB E (bd 9) (σ 9)]) (st1 := [.int (fX5_loadOf β a)]) [.ref (bo 0), .int a] [1] (kX5_loadOf l E bo β hv a) caX5_loadOf q2_217 rfl ⟨Nat.le_of_ble_eq_true rfl, Nat.le_of_ble_eq_true rfl⟩ ⟨Nat.le_of_ble_eq_true rfl, Nat.le_of_ble_eq_true rfl⟩ (by decide) rfl rfl rfl rfl (Nat.le_of_ble_eq_true rfl) dX6_loadByTickets_12 rfl ?_
  have e_5 : fX6_loadByTickets β a = .inr (fX5_loadOf β a) := by rw [fX6_loadByTickets]; rw [if_pos c_3]
  refine g_widen (k1 := 3) (n1 := 18) (Nat.le_of_ble_eq_true rfl) (Nat.le_of_ble_eq_true rfl) ?_
  exact g_iret C (gT_r hT (by rw [e_5] <;> rfl) rfl) rfl rfl dX6_loadByTickets_15
def fX6_loadByAccount (β : BS) (a : Int32) : (String ⊕ Int32) :=
  if (fX6_isOwner a) = true then .inr (β.2 11 a.toNatClampNeg) else .inl xIO
theorem caX6_loadByAccount : gCalV yX6_loadByAccount cX6_loadByAccount 2 (some .int) 1 := ⟨⟨q5_218, q1_1, by decide +kernel⟩, q5_216, q5_217⟩
set_option maxHeartbeats 4000000 in
set_option maxRecDepth 100000 in
theorem kX6_loadByAccount (l : Launch) (E : gE) (ax : Nat) (bo : Nat → Nat) (β : BS) (tr : Nat → Nat) (τ : BS) (ac : Nat → Nat) (γ : BS) (ah : Nat → Nat) (bd : Nat → Nat → Nat) (η : BS) (σ : Nat → BS) (at_ : Nat → Nat) (θ : BS) (hlt : l.stackTraces = false) (hv : vB β)  (a : Int32) : MX l E yX6_loadByAccount cX6_loadByAccount 2 (some .int) 3 18 7 102 [.ref ax, .int a] [wX ax (bo 0) (tr 0) (ac 0) (ah 0) (at_ 0), wB E bo β, wB E tr τ, wC E ac γ, wH E ah bd η, wT E at_ θ, wB E (bd 2) (σ 2), wB E (bd 3) (σ 3), wB E (bd 4) (σ 4), wB E (bd 5) (σ 5), wB E (bd 6) (σ 6), wB E (bd 7) (σ 7), wB E (bd 8) (σ 8), wB E (bd 9) (σ 9)] (Sum.map id (fun v => some (.int v)) (fX6_loadByAccount β a)) [wX ax (bo 0) (tr 0) (ac 0) (ah 0) (at_ 0), wB E bo β, wB E tr τ, wC E ac γ, wH E ah bd η, wT E at_ θ, wB E (bd 2) (σ 2), wB E (bd 3) (σ 3), wB E (bd 4) (σ 4), wB E (bd 5) (σ 5), wB E (bd 6) (σ 6), wB E (bd 7) (σ 7), wB E (bd 8) (σ 8), wB E (bd 9) (σ 9)] := by
  have hv1 : cnt β ≤ 20 := hv.1
  refine mx_of hlt (by decide +kernel) (Nat.le_of_ble_eq_true rfl) (lv := [(0, .ref ax), (1, .int a)]) rfl (fun X C hT => ?_)
  refine g_iload_n C dX6_loadByAccount_0 rfl 1 rfl ?_
  refine g_callS C (cs1 := [wX ax (bo 0) (tr 0) (ac 0) (ah 0) (at_ 0), wB E bo β, wB E tr τ, wC E ac γ, wH E ah bd η, wT E at_ θ, wB E (bd 2) (σ 2), wB E (bd 3) (σ 3), wB E (bd 4) (σ 4), wB E (bd 5) (σ 5), wB E (bd 6) (σ 6), wB E (bd 7) (σ 7), wB E (bd 8) (σ 8), wB E (bd 9) (σ 9)]) (st1 := [.int (b2i (fX6_isOwner a))]) [.int a] [] (kX6_isOwner l E a) caX6_isOwner q4_37 rfl ⟨Nat.le_of_ble_eq_true rfl, Nat.le_of_ble_eq_true rfl⟩ ⟨Nat.le_of_ble_eq_true rfl, Nat.le_of_ble_eq_true rfl⟩ (by decide) rfl rfl rfl rfl (Nat.le_of_ble_eq_true rfl) dX6_loadByAccount_1 rfl ?_
  have e_2 : (fX6_isOwner a) = false → fX6_loadByAccount β a = .inl xIO := fun c_1 => by rw [fX6_loadByAccount]; rw [if_neg (ne_true_of_eq_false c_1)]
  refine g_req (b := (fX6_isOwner a)) C hT (kX6_requireIndex l E hlt (fX6_isOwner a)) caX6_requireIndex q3_195 ⟨Nat.le_of_ble_eq_true rfl, Nat.le_of_ble_eq_true rfl⟩ ⟨Nat.le_of_ble_eq_true rfl, Nat.le_of_ble_eq_true rfl⟩ ⟨Nat.le_of_ble_eq_true rfl, Nat.le_of_ble_eq_true rfl⟩ (fun c => by rw [e_2 c]; exact ⟨rfl, rfl⟩) (Nat.le_of_ble_eq_true rfl) dX6_loadByAccount_4 (fun c_3 => ?_)
  have hx_4 := isOwner_i c_3
  refine g_aload_n C dX6_loadByAccount_7 rfl 0 rfl ?_
  refine g_getf C (T := TX6) (N := 5) 0 0 rfl rfl rfl inX6 0 (by decide) q1_192 rfl dX6_loadByAccount_8 ?_
  refine g_getf C (T := TX0) (N := 17) 1 0 rfl rfl rfl inX0 15 (by decide) q1_77 rfl dX6_loadByAccount_11 ?_
  refine g_iload_n C dX6_loadByAccount_14 rfl 1 rfl ?_
  refine g_ialdn C 1 12 a.toNatClampNeg rfl rfl hx_4.1 hx_4.2 (by decide) dX6_loadByAccount_15 ?_
  have e_5 : fX6_loadByAccount β a = .inr (β.2 11 a.toNatClampNeg) := by rw [fX6_loadByAccount]; rw [if_pos c_3]
  refine g_widen (k1 := 3) (n1 := 18) (Nat.le_of_ble_eq_true rfl) (Nat.le_of_ble_eq_true rfl) ?_
  exact g_iret C (gT_r hT (by rw [e_5] <;> rfl) rfl) rfl rfl dX6_loadByAccount_16
def fX6_inProgressOf (β : BS) (a : Int32) : (String ⊕ Int32) :=
  if (fX6_isOwner a) = true then .inr (fX5_inProgressWith β a) else .inl xIO
theorem caX6_inProgressOf : gCalV yX6_inProgressOf cX6_inProgressOf 2 (some .int) 1 := ⟨⟨q5_225, q1_1, by decide +kernel⟩, q5_223, q5_224⟩
set_option maxHeartbeats 4000000 in
set_option maxRecDepth 100000 in
theorem kX6_inProgressOf (l : Launch) (E : gE) (ax : Nat) (bo : Nat → Nat) (β : BS) (tr : Nat → Nat) (τ : BS) (ac : Nat → Nat) (γ : BS) (ah : Nat → Nat) (bd : Nat → Nat → Nat) (η : BS) (σ : Nat → BS) (at_ : Nat → Nat) (θ : BS) (hlt : l.stackTraces = false) (hv : vB β)  (a : Int32) : MX l E yX6_inProgressOf cX6_inProgressOf 2 (some .int) 3 18 7 102 [.ref ax, .int a] [wX ax (bo 0) (tr 0) (ac 0) (ah 0) (at_ 0), wB E bo β, wB E tr τ, wC E ac γ, wH E ah bd η, wT E at_ θ, wB E (bd 2) (σ 2), wB E (bd 3) (σ 3), wB E (bd 4) (σ 4), wB E (bd 5) (σ 5), wB E (bd 6) (σ 6), wB E (bd 7) (σ 7), wB E (bd 8) (σ 8), wB E (bd 9) (σ 9)] (Sum.map id (fun v => some (.int v)) (fX6_inProgressOf β a)) [wX ax (bo 0) (tr 0) (ac 0) (ah 0) (at_ 0), wB E bo β, wB E tr τ, wC E ac γ, wH E ah bd η, wT E at_ θ, wB E (bd 2) (σ 2), wB E (bd 3) (σ 3), wB E (bd 4) (σ 4), wB E (bd 5) (σ 5), wB E (bd 6) (σ 6), wB E (bd 7) (σ 7), wB E (bd 8) (σ 8), wB E (bd 9) (σ 9)] := by
  have hv1 : cnt β ≤ 20 := hv.1
  refine mx_of hlt (by decide +kernel) (Nat.le_of_ble_eq_true rfl) (lv := [(0, .ref ax), (1, .int a)]) rfl (fun X C hT => ?_)
  refine g_iload_n C dX6_inProgressOf_0 rfl 1 rfl ?_
  refine g_callS C (cs1 := [wX ax (bo 0) (tr 0) (ac 0) (ah 0) (at_ 0), wB E bo β, wB E tr τ, wC E ac γ, wH E ah bd η, wT E at_ θ, wB E (bd 2) (σ 2), wB E (bd 3) (σ 3), wB E (bd 4) (σ 4), wB E (bd 5) (σ 5), wB E (bd 6) (σ 6), wB E (bd 7) (σ 7), wB E (bd 8) (σ 8), wB E (bd 9) (σ 9)]) (st1 := [.int (b2i (fX6_isOwner a))]) [.int a] [] (kX6_isOwner l E a) caX6_isOwner q4_37 rfl ⟨Nat.le_of_ble_eq_true rfl, Nat.le_of_ble_eq_true rfl⟩ ⟨Nat.le_of_ble_eq_true rfl, Nat.le_of_ble_eq_true rfl⟩ (by decide) rfl rfl rfl rfl (Nat.le_of_ble_eq_true rfl) dX6_inProgressOf_1 rfl ?_
  have e_2 : (fX6_isOwner a) = false → fX6_inProgressOf β a = .inl xIO := fun c_1 => by rw [fX6_inProgressOf]; rw [if_neg (ne_true_of_eq_false c_1)]
  refine g_req (b := (fX6_isOwner a)) C hT (kX6_requireIndex l E hlt (fX6_isOwner a)) caX6_requireIndex q3_195 ⟨Nat.le_of_ble_eq_true rfl, Nat.le_of_ble_eq_true rfl⟩ ⟨Nat.le_of_ble_eq_true rfl, Nat.le_of_ble_eq_true rfl⟩ ⟨Nat.le_of_ble_eq_true rfl, Nat.le_of_ble_eq_true rfl⟩ (fun c => by rw [e_2 c]; exact ⟨rfl, rfl⟩) (Nat.le_of_ble_eq_true rfl) dX6_inProgressOf_4 (fun c_3 => ?_)
  have hx_4 := isOwner_i c_3
  refine g_aload_n C dX6_inProgressOf_7 rfl 0 rfl ?_
  refine g_getf C (T := TX6) (N := 5) 0 0 rfl rfl rfl inX6 0 (by decide) q1_192 rfl dX6_inProgressOf_8 ?_
  refine g_iload_n C dX6_inProgressOf_11 rfl 1 rfl ?_
  refine g_callS C (cs1 := [wX ax (bo 0) (tr 0) (ac 0) (ah 0) (at_ 0), wB E bo β, wB E tr τ, wC E ac γ, wH E ah bd η, wT E at_ θ, wB E (bd 2) (σ 2), wB E (bd 3) (σ 3), wB E (bd 4) (σ 4), wB E (bd 5) (σ 5), wB E (bd 6) (σ 6), wB E (bd 7) (σ 7), wB E (bd 8) (σ 8), wB E (bd 9) (σ 9)]) (st1 := [.int (fX5_inProgressWith β a)]) [.ref (bo 0), .int a] [1] (kX5_inProgressWith l E bo β hv a) caX5_inProgressWith q2_224 rfl ⟨Nat.le_of_ble_eq_true rfl, Nat.le_of_ble_eq_true rfl⟩ ⟨Nat.le_of_ble_eq_true rfl, Nat.le_of_ble_eq_true rfl⟩ (by decide) rfl rfl rfl rfl (Nat.le_of_ble_eq_true rfl) dX6_inProgressOf_12 rfl ?_
  have e_5 : fX6_inProgressOf β a = .inr (fX5_inProgressWith β a) := by rw [fX6_inProgressOf]; rw [if_pos c_3]
  refine g_widen (k1 := 3) (n1 := 18) (Nat.le_of_ble_eq_true rfl) (Nat.le_of_ble_eq_true rfl) ?_
  exact g_iret C (gT_r hT (by rw [e_5] <;> rfl) rfl) rfl rfl dX6_inProgressOf_15
def fX6_donePointsOf (β : BS) (a : Int32) : (String ⊕ Int32) :=
  if (fX6_isOwner a) = true then .inr (fX5_doneBy β a) else .inl xIO
theorem caX6_donePointsOf : gCalV yX6_donePointsOf cX6_donePointsOf 2 (some .int) 1 := ⟨⟨q5_232, q1_1, by decide +kernel⟩, q5_230, q5_231⟩
set_option maxHeartbeats 4000000 in
set_option maxRecDepth 100000 in
theorem kX6_donePointsOf (l : Launch) (E : gE) (ax : Nat) (bo : Nat → Nat) (β : BS) (tr : Nat → Nat) (τ : BS) (ac : Nat → Nat) (γ : BS) (ah : Nat → Nat) (bd : Nat → Nat → Nat) (η : BS) (σ : Nat → BS) (at_ : Nat → Nat) (θ : BS) (hlt : l.stackTraces = false) (hv : vB β)  (a : Int32) : MX l E yX6_donePointsOf cX6_donePointsOf 2 (some .int) 3 18 7 102 [.ref ax, .int a] [wX ax (bo 0) (tr 0) (ac 0) (ah 0) (at_ 0), wB E bo β, wB E tr τ, wC E ac γ, wH E ah bd η, wT E at_ θ, wB E (bd 2) (σ 2), wB E (bd 3) (σ 3), wB E (bd 4) (σ 4), wB E (bd 5) (σ 5), wB E (bd 6) (σ 6), wB E (bd 7) (σ 7), wB E (bd 8) (σ 8), wB E (bd 9) (σ 9)] (Sum.map id (fun v => some (.int v)) (fX6_donePointsOf β a)) [wX ax (bo 0) (tr 0) (ac 0) (ah 0) (at_ 0), wB E bo β, wB E tr τ, wC E ac γ, wH E ah bd η, wT E at_ θ, wB E (bd 2) (σ 2), wB E (bd 3) (σ 3), wB E (bd 4) (σ 4), wB E (bd 5) (σ 5), wB E (bd 6) (σ 6), wB E (bd 7) (σ 7), wB E (bd 8) (σ 8), wB E (bd 9) (σ 9)] := by
  have hv1 : cnt β ≤ 20 := hv.1
  refine mx_of hlt (by decide +kernel) (Nat.le_of_ble_eq_true rfl) (lv := [(0, .ref ax), (1, .int a)]) rfl (fun X C hT => ?_)
  refine g_iload_n C dX6_donePointsOf_0 rfl 1 rfl ?_
  refine g_callS C (cs1 := [wX ax (bo 0) (tr 0) (ac 0) (ah 0) (at_ 0), wB E bo β, wB E tr τ, wC E ac γ, wH E ah bd η, wT E at_ θ, wB E (bd 2) (σ 2), wB E (bd 3) (σ 3), wB E (bd 4) (σ 4), wB E (bd 5) (σ 5), wB E (bd 6) (σ 6), wB E (bd 7) (σ 7), wB E (bd 8) (σ 8), wB E (bd 9) (σ 9)]) (st1 := [.int (b2i (fX6_isOwner a))]) [.int a] [] (kX6_isOwner l E a) caX6_isOwner q4_37 rfl ⟨Nat.le_of_ble_eq_true rfl, Nat.le_of_ble_eq_true rfl⟩ ⟨Nat.le_of_ble_eq_true rfl, Nat.le_of_ble_eq_true rfl⟩ (by decide) rfl rfl rfl rfl (Nat.le_of_ble_eq_true rfl) dX6_donePointsOf_1 rfl ?_
  have e_2 : (fX6_isOwner a) = false → fX6_donePointsOf β a = .inl xIO := fun c_1 => by rw [fX6_donePointsOf]; rw [if_neg (ne_true_of_eq_false c_1)]
  refine g_req (b := (fX6_isOwner a)) C hT (kX6_requireIndex l E hlt (fX6_isOwner a)) caX6_requireIndex q3_195 ⟨Nat.le_of_ble_eq_true rfl, Nat.le_of_ble_eq_true rfl⟩ ⟨Nat.le_of_ble_eq_true rfl, Nat.le_of_ble_eq_true rfl⟩ ⟨Nat.le_of_ble_eq_true rfl, Nat.le_of_ble_eq_true rfl⟩ (fun c => by rw [e_2 c]; exact ⟨rfl, rfl⟩) (Nat.le_of_ble_eq_true rfl) dX6_donePointsOf_4 (fun c_3 => ?_)
  have hx_4 := isOwner_i c_3
  refine g_aload_n C dX6_donePointsOf_7 rfl 0 rfl ?_
  refine g_getf C (T := TX6) (N := 5) 0 0 rfl rfl rfl inX6 0 (by decide) q1_192 rfl dX6_donePointsOf_8 ?_
  refine g_iload_n C dX6_donePointsOf_11 rfl 1 rfl ?_
  refine g_callS C (cs1 := [wX ax (bo 0) (tr 0) (ac 0) (ah 0) (at_ 0), wB E bo β, wB E tr τ, wC E ac γ, wH E ah bd η, wT E at_ θ, wB E (bd 2) (σ 2), wB E (bd 3) (σ 3), wB E (bd 4) (σ 4), wB E (bd 5) (σ 5), wB E (bd 6) (σ 6), wB E (bd 7) (σ 7), wB E (bd 8) (σ 8), wB E (bd 9) (σ 9)]) (st1 := [.int (fX5_doneBy β a)]) [.ref (bo 0), .int a] [1] (kX5_doneBy l E bo β hv a) caX5_doneBy q2_231 rfl ⟨Nat.le_of_ble_eq_true rfl, Nat.le_of_ble_eq_true rfl⟩ ⟨Nat.le_of_ble_eq_true rfl, Nat.le_of_ble_eq_true rfl⟩ (by decide) rfl rfl rfl rfl (Nat.le_of_ble_eq_true rfl) dX6_donePointsOf_12 rfl ?_
  have e_5 : fX6_donePointsOf β a = .inr (fX5_doneBy β a) := by rw [fX6_donePointsOf]; rw [if_pos c_3]
  refine g_widen (k1 := 3) (n1 := 18) (Nat.le_of_ble_eq_true rfl) (Nat.le_of_ble_eq_true rfl) ?_
  exact g_iret C (gT_r hT (by rw [e_5] <;> rfl) rfl) rfl rfl dX6_donePointsOf_15
def fX6_dateOf (β : BS) (a : Int32) : (String ⊕ Int32) :=
  if (fX6_isMilestone a) = true then .inr (β.2 12 a.toNatClampNeg) else .inl xIO
theorem caX6_dateOf : gCalV yX6_dateOf cX6_dateOf 2 (some .int) 1 := ⟨⟨q5_239, q1_1, by decide +kernel⟩, q5_237, q5_238⟩
set_option maxHeartbeats 4000000 in
set_option maxRecDepth 100000 in
theorem kX6_dateOf (l : Launch) (E : gE) (ax : Nat) (bo : Nat → Nat) (β : BS) (tr : Nat → Nat) (τ : BS) (ac : Nat → Nat) (γ : BS) (ah : Nat → Nat) (bd : Nat → Nat → Nat) (η : BS) (σ : Nat → BS) (at_ : Nat → Nat) (θ : BS) (hlt : l.stackTraces = false) (hv : vB β)  (a : Int32) : MX l E yX6_dateOf cX6_dateOf 2 (some .int) 3 18 7 102 [.ref ax, .int a] [wX ax (bo 0) (tr 0) (ac 0) (ah 0) (at_ 0), wB E bo β, wB E tr τ, wC E ac γ, wH E ah bd η, wT E at_ θ, wB E (bd 2) (σ 2), wB E (bd 3) (σ 3), wB E (bd 4) (σ 4), wB E (bd 5) (σ 5), wB E (bd 6) (σ 6), wB E (bd 7) (σ 7), wB E (bd 8) (σ 8), wB E (bd 9) (σ 9)] (Sum.map id (fun v => some (.int v)) (fX6_dateOf β a)) [wX ax (bo 0) (tr 0) (ac 0) (ah 0) (at_ 0), wB E bo β, wB E tr τ, wC E ac γ, wH E ah bd η, wT E at_ θ, wB E (bd 2) (σ 2), wB E (bd 3) (σ 3), wB E (bd 4) (σ 4), wB E (bd 5) (σ 5), wB E (bd 6) (σ 6), wB E (bd 7) (σ 7), wB E (bd 8) (σ 8), wB E (bd 9) (σ 9)] := by
  have hv1 : cnt β ≤ 20 := hv.1
  refine mx_of hlt (by decide +kernel) (Nat.le_of_ble_eq_true rfl) (lv := [(0, .ref ax), (1, .int a)]) rfl (fun X C hT => ?_)
  refine g_iload_n C dX6_dateOf_0 rfl 1 rfl ?_
  refine g_callS C (cs1 := [wX ax (bo 0) (tr 0) (ac 0) (ah 0) (at_ 0), wB E bo β, wB E tr τ, wC E ac γ, wH E ah bd η, wT E at_ θ, wB E (bd 2) (σ 2), wB E (bd 3) (σ 3), wB E (bd 4) (σ 4), wB E (bd 5) (σ 5), wB E (bd 6) (σ 6), wB E (bd 7) (σ 7), wB E (bd 8) (σ 8), wB E (bd 9) (σ 9)]) (st1 := [.int (b2i (fX6_isMilestone a))]) [.int a] [] (kX6_isMilestone l E a) caX6_isMilestone q4_77 rfl ⟨Nat.le_of_ble_eq_true rfl, Nat.le_of_ble_eq_true rfl⟩ ⟨Nat.le_of_ble_eq_true rfl, Nat.le_of_ble_eq_true rfl⟩ (by decide) rfl rfl rfl rfl (Nat.le_of_ble_eq_true rfl) dX6_dateOf_1 rfl ?_
  have e_2 : (fX6_isMilestone a) = false → fX6_dateOf β a = .inl xIO := fun c_1 => by rw [fX6_dateOf]; rw [if_neg (ne_true_of_eq_false c_1)]
  refine g_req (b := (fX6_isMilestone a)) C hT (kX6_requireIndex l E hlt (fX6_isMilestone a)) caX6_requireIndex q3_195 ⟨Nat.le_of_ble_eq_true rfl, Nat.le_of_ble_eq_true rfl⟩ ⟨Nat.le_of_ble_eq_true rfl, Nat.le_of_ble_eq_true rfl⟩ ⟨Nat.le_of_ble_eq_true rfl, Nat.le_of_ble_eq_true rfl⟩ (fun c => by rw [e_2 c]; exact ⟨rfl, rfl⟩) (Nat.le_of_ble_eq_true rfl) dX6_dateOf_4 (fun c_3 => ?_)
  have hx_4 := isMilestone_i c_3
  refine g_aload_n C dX6_dateOf_7 rfl 0 rfl ?_
  refine g_getf C (T := TX6) (N := 5) 0 0 rfl rfl rfl inX6 0 (by decide) q1_192 rfl dX6_dateOf_8 ?_
  refine g_getf C (T := TX0) (N := 17) 1 0 rfl rfl rfl inX0 16 (by decide) q1_80 rfl dX6_dateOf_11 ?_
  refine g_iload_n C dX6_dateOf_14 rfl 1 rfl ?_
  refine g_ialdn C 1 13 a.toNatClampNeg rfl rfl hx_4.1 hx_4.2 (by decide) dX6_dateOf_15 ?_
  have e_5 : fX6_dateOf β a = .inr (β.2 12 a.toNatClampNeg) := by rw [fX6_dateOf]; rw [if_pos c_3]
  refine g_widen (k1 := 3) (n1 := 18) (Nat.le_of_ble_eq_true rfl) (Nat.le_of_ble_eq_true rfl) ?_
  exact g_iret C (gT_r hT (by rw [e_5] <;> rfl) rfl) rfl rfl dX6_dateOf_16
def fX6_pointsLeft (β : BS) (a : Int32) : (String ⊕ Int32) :=
  if (fX6_isMilestone a) = true then .inr (fX5_leftFor β a) else .inl xIO
theorem caX6_pointsLeft : gCalV yX6_pointsLeft cX6_pointsLeft 2 (some .int) 1 := ⟨⟨q6_6, q1_1, by decide +kernel⟩, q6_4, q6_5⟩
set_option maxHeartbeats 4000000 in
set_option maxRecDepth 100000 in
theorem kX6_pointsLeft (l : Launch) (E : gE) (ax : Nat) (bo : Nat → Nat) (β : BS) (tr : Nat → Nat) (τ : BS) (ac : Nat → Nat) (γ : BS) (ah : Nat → Nat) (bd : Nat → Nat → Nat) (η : BS) (σ : Nat → BS) (at_ : Nat → Nat) (θ : BS) (hlt : l.stackTraces = false) (hv : vB β)  (a : Int32) : MX l E yX6_pointsLeft cX6_pointsLeft 2 (some .int) 3 18 7 102 [.ref ax, .int a] [wX ax (bo 0) (tr 0) (ac 0) (ah 0) (at_ 0), wB E bo β, wB E tr τ, wC E ac γ, wH E ah bd η, wT E at_ θ, wB E (bd 2) (σ 2), wB E (bd 3) (σ 3), wB E (bd 4) (σ 4), wB E (bd 5) (σ 5), wB E (bd 6) (σ 6), wB E (bd 7) (σ 7), wB E (bd 8) (σ 8), wB E (bd 9) (σ 9)] (Sum.map id (fun v => some (.int v)) (fX6_pointsLeft β a)) [wX ax (bo 0) (tr 0) (ac 0) (ah 0) (at_ 0), wB E bo β, wB E tr τ, wC E ac γ, wH E ah bd η, wT E at_ θ, wB E (bd 2) (σ 2), wB E (bd 3) (σ 3), wB E (bd 4) (σ 4), wB E (bd 5) (σ 5), wB E (bd 6) (σ 6), wB E (bd 7) (σ 7), wB E (bd 8) (σ 8), wB E (bd 9) (σ 9)] := by
  have hv1 : cnt β ≤ 20 := hv.1
  refine mx_of hlt (by decide +kernel) (Nat.le_of_ble_eq_true rfl) (lv := [(0, .ref ax), (1, .int a)]) rfl (fun X C hT => ?_)
  refine g_iload_n C dX6_pointsLeft_0 rfl 1 rfl ?_
  refine g_callS C (cs1 := [wX ax (bo 0) (tr 0) (ac 0) (ah 0) (at_ 0), wB E bo β, wB E tr τ, wC E ac γ, wH E ah bd η, wT E at_ θ, wB E (bd 2) (σ 2), wB E (bd 3) (σ 3), wB E (bd 4) (σ 4), wB E (bd 5) (σ 5), wB E (bd 6) (σ 6), wB E (bd 7) (σ 7), wB E (bd 8) (σ 8), wB E (bd 9) (σ 9)]) (st1 := [.int (b2i (fX6_isMilestone a))]) [.int a] [] (kX6_isMilestone l E a) caX6_isMilestone q4_77 rfl ⟨Nat.le_of_ble_eq_true rfl, Nat.le_of_ble_eq_true rfl⟩ ⟨Nat.le_of_ble_eq_true rfl, Nat.le_of_ble_eq_true rfl⟩ (by decide) rfl rfl rfl rfl (Nat.le_of_ble_eq_true rfl) dX6_pointsLeft_1 rfl ?_
  have e_2 : (fX6_isMilestone a) = false → fX6_pointsLeft β a = .inl xIO := fun c_1 => by rw [fX6_pointsLeft]; rw [if_neg (ne_true_of_eq_false c_1)]
  refine g_req (b := (fX6_isMilestone a)) C hT (kX6_requireIndex l E hlt (fX6_isMilestone a)) caX6_requireIndex q3_195 ⟨Nat.le_of_ble_eq_true rfl, Nat.le_of_ble_eq_true rfl⟩ ⟨Nat.le_of_ble_eq_true rfl, Nat.le_of_ble_eq_true rfl⟩ ⟨Nat.le_of_ble_eq_true rfl, Nat.le_of_ble_eq_true rfl⟩ (fun c => by rw [e_2 c]; exact ⟨rfl, rfl⟩) (Nat.le_of_ble_eq_true rfl) dX6_pointsLeft_4 (fun c_3 => ?_)
  have hx_4 := isMilestone_i c_3
  refine g_aload_n C dX6_pointsLeft_7 rfl 0 rfl ?_
  refine g_getf C (T := TX6) (N := 5) 0 0 rfl rfl rfl inX6 0 (by decide) q1_192 rfl dX6_pointsLeft_8 ?_
  refine g_iload_n C dX6_pointsLeft_11 rfl 1 rfl ?_
  refine g_callS C (cs1 := [wX ax (bo 0) (tr 0) (ac 0) (ah 0) (at_ 0), wB E bo β, wB E tr τ, wC E ac γ, wH E ah bd η, wT E at_ θ, wB E (bd 2) (σ 2), wB E (bd 3) (σ 3), wB E (bd 4) (σ 4), wB E (bd 5) (σ 5), wB E (bd 6) (σ 6), wB E (bd 7) (σ 7), wB E (bd 8) (σ 8), wB E (bd 9) (σ 9)]) (st1 := [.int (fX5_leftFor β a)]) [.ref (bo 0), .int a] [1] (kX5_leftFor l E bo β hv a) caX5_leftFor q2_238 rfl ⟨Nat.le_of_ble_eq_true rfl, Nat.le_of_ble_eq_true rfl⟩ ⟨Nat.le_of_ble_eq_true rfl, Nat.le_of_ble_eq_true rfl⟩ (by decide) rfl rfl rfl rfl (Nat.le_of_ble_eq_true rfl) dX6_pointsLeft_12 rfl ?_
  have e_5 : fX6_pointsLeft β a = .inr (fX5_leftFor β a) := by rw [fX6_pointsLeft]; rw [if_pos c_3]
  refine g_widen (k1 := 3) (n1 := 18) (Nat.le_of_ble_eq_true rfl) (Nat.le_of_ble_eq_true rfl) ?_
  exact g_iret C (gT_r hT (by rw [e_5] <;> rfl) rfl) rfl rfl dX6_pointsLeft_15
def fX6_pointsDone (β : BS) (a : Int32) : (String ⊕ Int32) :=
  if (fX6_isMilestone a) = true then .inr (fX5_doneFor β a) else .inl xIO
theorem caX6_pointsDone : gCalV yX6_pointsDone cX6_pointsDone 2 (some .int) 1 := ⟨⟨q6_13, q1_1, by decide +kernel⟩, q6_11, q6_12⟩
set_option maxHeartbeats 4000000 in
set_option maxRecDepth 100000 in
theorem kX6_pointsDone (l : Launch) (E : gE) (ax : Nat) (bo : Nat → Nat) (β : BS) (tr : Nat → Nat) (τ : BS) (ac : Nat → Nat) (γ : BS) (ah : Nat → Nat) (bd : Nat → Nat → Nat) (η : BS) (σ : Nat → BS) (at_ : Nat → Nat) (θ : BS) (hlt : l.stackTraces = false) (hv : vB β)  (a : Int32) : MX l E yX6_pointsDone cX6_pointsDone 2 (some .int) 3 18 7 102 [.ref ax, .int a] [wX ax (bo 0) (tr 0) (ac 0) (ah 0) (at_ 0), wB E bo β, wB E tr τ, wC E ac γ, wH E ah bd η, wT E at_ θ, wB E (bd 2) (σ 2), wB E (bd 3) (σ 3), wB E (bd 4) (σ 4), wB E (bd 5) (σ 5), wB E (bd 6) (σ 6), wB E (bd 7) (σ 7), wB E (bd 8) (σ 8), wB E (bd 9) (σ 9)] (Sum.map id (fun v => some (.int v)) (fX6_pointsDone β a)) [wX ax (bo 0) (tr 0) (ac 0) (ah 0) (at_ 0), wB E bo β, wB E tr τ, wC E ac γ, wH E ah bd η, wT E at_ θ, wB E (bd 2) (σ 2), wB E (bd 3) (σ 3), wB E (bd 4) (σ 4), wB E (bd 5) (σ 5), wB E (bd 6) (σ 6), wB E (bd 7) (σ 7), wB E (bd 8) (σ 8), wB E (bd 9) (σ 9)] := by
  have hv1 : cnt β ≤ 20 := hv.1
  refine mx_of hlt (by decide +kernel) (Nat.le_of_ble_eq_true rfl) (lv := [(0, .ref ax), (1, .int a)]) rfl (fun X C hT => ?_)
  refine g_iload_n C dX6_pointsDone_0 rfl 1 rfl ?_
  refine g_callS C (cs1 := [wX ax (bo 0) (tr 0) (ac 0) (ah 0) (at_ 0), wB E bo β, wB E tr τ, wC E ac γ, wH E ah bd η, wT E at_ θ, wB E (bd 2) (σ 2), wB E (bd 3) (σ 3), wB E (bd 4) (σ 4), wB E (bd 5) (σ 5), wB E (bd 6) (σ 6), wB E (bd 7) (σ 7), wB E (bd 8) (σ 8), wB E (bd 9) (σ 9)]) (st1 := [.int (b2i (fX6_isMilestone a))]) [.int a] [] (kX6_isMilestone l E a) caX6_isMilestone q4_77 rfl ⟨Nat.le_of_ble_eq_true rfl, Nat.le_of_ble_eq_true rfl⟩ ⟨Nat.le_of_ble_eq_true rfl, Nat.le_of_ble_eq_true rfl⟩ (by decide) rfl rfl rfl rfl (Nat.le_of_ble_eq_true rfl) dX6_pointsDone_1 rfl ?_
  have e_2 : (fX6_isMilestone a) = false → fX6_pointsDone β a = .inl xIO := fun c_1 => by rw [fX6_pointsDone]; rw [if_neg (ne_true_of_eq_false c_1)]
  refine g_req (b := (fX6_isMilestone a)) C hT (kX6_requireIndex l E hlt (fX6_isMilestone a)) caX6_requireIndex q3_195 ⟨Nat.le_of_ble_eq_true rfl, Nat.le_of_ble_eq_true rfl⟩ ⟨Nat.le_of_ble_eq_true rfl, Nat.le_of_ble_eq_true rfl⟩ ⟨Nat.le_of_ble_eq_true rfl, Nat.le_of_ble_eq_true rfl⟩ (fun c => by rw [e_2 c]; exact ⟨rfl, rfl⟩) (Nat.le_of_ble_eq_true rfl) dX6_pointsDone_4 (fun c_3 => ?_)
  have hx_4 := isMilestone_i c_3
  refine g_aload_n C dX6_pointsDone_7 rfl 0 rfl ?_
  refine g_getf C (T := TX6) (N := 5) 0 0 rfl rfl rfl inX6 0 (by decide) q1_192 rfl dX6_pointsDone_8 ?_
  refine g_iload_n C dX6_pointsDone_11 rfl 1 rfl ?_
  refine g_callS C (cs1 := [wX ax (bo 0) (tr 0) (ac 0) (ah 0) (at_ 0), wB E bo β, wB E tr τ, wC E ac γ, wH E ah bd η, wT E at_ θ, wB E (bd 2) (σ 2), wB E (bd 3) (σ 3), wB E (bd 4) (σ 4), wB E (bd 5) (σ 5), wB E (bd 6) (σ 6), wB E (bd 7) (σ 7), wB E (bd 8) (σ 8), wB E (bd 9) (σ 9)]) (st1 := [.int (fX5_doneFor β a)]) [.ref (bo 0), .int a] [1] (kX5_doneFor l E bo β hv a) caX5_doneFor q2_239 rfl ⟨Nat.le_of_ble_eq_true rfl, Nat.le_of_ble_eq_true rfl⟩ ⟨Nat.le_of_ble_eq_true rfl, Nat.le_of_ble_eq_true rfl⟩ (by decide) rfl rfl rfl rfl (Nat.le_of_ble_eq_true rfl) dX6_pointsDone_12 rfl ?_
  have e_5 : fX6_pointsDone β a = .inr (fX5_doneFor β a) := by rw [fX6_pointsDone]; rw [if_pos c_3]
  refine g_widen (k1 := 3) (n1 := 18) (Nat.le_of_ble_eq_true rfl) (Nat.le_of_ble_eq_true rfl) ?_
  exact g_iret C (gT_r hT (by rw [e_5] <;> rfl) rfl) rfl rfl dX6_pointsDone_15
def fX6_hundredthsDone (β : BS) (a : Int32) : (String ⊕ Int32) :=
  if (fX6_isMilestone a) = true then .inr (fX5_hundredthsFor β a) else .inl xIO
theorem caX6_hundredthsDone : gCalV yX6_hundredthsDone cX6_hundredthsDone 2 (some .int) 1 := ⟨⟨q6_20, q1_1, by decide +kernel⟩, q6_18, q6_19⟩
set_option maxHeartbeats 4000000 in
set_option maxRecDepth 100000 in
theorem kX6_hundredthsDone (l : Launch) (E : gE) (ax : Nat) (bo : Nat → Nat) (β : BS) (tr : Nat → Nat) (τ : BS) (ac : Nat → Nat) (γ : BS) (ah : Nat → Nat) (bd : Nat → Nat → Nat) (η : BS) (σ : Nat → BS) (at_ : Nat → Nat) (θ : BS) (hlt : l.stackTraces = false) (hv : vB β)  (a : Int32) : MX l E yX6_hundredthsDone cX6_hundredthsDone 2 (some .int) 3 18 7 109 [.ref ax, .int a] [wX ax (bo 0) (tr 0) (ac 0) (ah 0) (at_ 0), wB E bo β, wB E tr τ, wC E ac γ, wH E ah bd η, wT E at_ θ, wB E (bd 2) (σ 2), wB E (bd 3) (σ 3), wB E (bd 4) (σ 4), wB E (bd 5) (σ 5), wB E (bd 6) (σ 6), wB E (bd 7) (σ 7), wB E (bd 8) (σ 8), wB E (bd 9) (σ 9)] (Sum.map id (fun v => some (.int v)) (fX6_hundredthsDone β a)) [wX ax (bo 0) (tr 0) (ac 0) (ah 0) (at_ 0), wB E bo β, wB E tr τ, wC E ac γ, wH E ah bd η, wT E at_ θ, wB E (bd 2) (σ 2), wB E (bd 3) (σ 3), wB E (bd 4) (σ 4), wB E (bd 5) (σ 5), wB E (bd 6) (σ 6), wB E (bd 7) (σ 7), wB E (bd 8) (σ 8), wB E (bd 9) (σ 9)] := by
  have hv1 : cnt β ≤ 20 := hv.1
  refine mx_of hlt (by decide +kernel) (Nat.le_of_ble_eq_true rfl) (lv := [(0, .ref ax), (1, .int a)]) rfl (fun X C hT => ?_)
  refine g_iload_n C dX6_hundredthsDone_0 rfl 1 rfl ?_
  refine g_callS C (cs1 := [wX ax (bo 0) (tr 0) (ac 0) (ah 0) (at_ 0), wB E bo β, wB E tr τ, wC E ac γ, wH E ah bd η, wT E at_ θ, wB E (bd 2) (σ 2), wB E (bd 3) (σ 3), wB E (bd 4) (σ 4), wB E (bd 5) (σ 5), wB E (bd 6) (σ 6), wB E (bd 7) (σ 7), wB E (bd 8) (σ 8), wB E (bd 9) (σ 9)]) (st1 := [.int (b2i (fX6_isMilestone a))]) [.int a] [] (kX6_isMilestone l E a) caX6_isMilestone q4_77 rfl ⟨Nat.le_of_ble_eq_true rfl, Nat.le_of_ble_eq_true rfl⟩ ⟨Nat.le_of_ble_eq_true rfl, Nat.le_of_ble_eq_true rfl⟩ (by decide) rfl rfl rfl rfl (Nat.le_of_ble_eq_true rfl) dX6_hundredthsDone_1 rfl ?_
  have e_2 : (fX6_isMilestone a) = false → fX6_hundredthsDone β a = .inl xIO := fun c_1 => by rw [fX6_hundredthsDone]; rw [if_neg (ne_true_of_eq_false c_1)]
  refine g_req (b := (fX6_isMilestone a)) C hT (kX6_requireIndex l E hlt (fX6_isMilestone a)) caX6_requireIndex q3_195 ⟨Nat.le_of_ble_eq_true rfl, Nat.le_of_ble_eq_true rfl⟩ ⟨Nat.le_of_ble_eq_true rfl, Nat.le_of_ble_eq_true rfl⟩ ⟨Nat.le_of_ble_eq_true rfl, Nat.le_of_ble_eq_true rfl⟩ (fun c => by rw [e_2 c]; exact ⟨rfl, rfl⟩) (Nat.le_of_ble_eq_true rfl) dX6_hundredthsDone_4 (fun c_3 => ?_)
  have hx_4 := isMilestone_i c_3
  refine g_aload_n C dX6_hundredthsDone_7 rfl 0 rfl ?_
  refine g_getf C (T := TX6) (N := 5) 0 0 rfl rfl rfl inX6 0 (by decide) q1_192 rfl dX6_hundredthsDone_8 ?_
  refine g_iload_n C dX6_hundredthsDone_11 rfl 1 rfl ?_
  refine g_callS C (cs1 := [wX ax (bo 0) (tr 0) (ac 0) (ah 0) (at_ 0), wB E bo β, wB E tr τ, wC E ac γ, wH E ah bd η, wT E at_ θ, wB E (bd 2) (σ 2), wB E (bd 3) (σ 3), wB E (bd 4) (σ 4), wB E (bd 5) (σ 5), wB E (bd 6) (σ 6), wB E (bd 7) (σ 7), wB E (bd 8) (σ 8), wB E (bd 9) (σ 9)]) (st1 := [.int (fX5_hundredthsFor β a)]) [.ref (bo 0), .int a] [1] (kX5_hundredthsFor l E bo β hv a) caX5_hundredthsFor q3_2 rfl ⟨Nat.le_of_ble_eq_true rfl, Nat.le_of_ble_eq_true rfl⟩ ⟨Nat.le_of_ble_eq_true rfl, Nat.le_of_ble_eq_true rfl⟩ (by decide) rfl rfl rfl rfl (Nat.le_of_ble_eq_true rfl) dX6_hundredthsDone_12 rfl ?_
  have e_5 : fX6_hundredthsDone β a = .inr (fX5_hundredthsFor β a) := by rw [fX6_hundredthsDone]; rw [if_pos c_3]
  refine g_widen (k1 := 3) (n1 := 18) (Nat.le_of_ble_eq_true rfl) (Nat.le_of_ble_eq_true rfl) ?_
  exact g_iret C (gT_r hT (by rw [e_5] <;> rfl) rfl) rfl rfl dX6_hundredthsDone_15
def fX6_isLate (β : BS) (a : Int32) : (String ⊕ Bool) :=
  if (fX6_isMilestone a) = true then .inr (fX5_isOverdue β a.toNatClampNeg) else .inl xIO
theorem caX6_isLate : gCalV yX6_isLate cX6_isLate 2 (some .boolean) 1 := ⟨⟨q6_27, q1_1, by decide +kernel⟩, q6_25, q6_26⟩
set_option maxHeartbeats 4000000 in
set_option maxRecDepth 100000 in
theorem kX6_isLate (l : Launch) (E : gE) (ax : Nat) (bo : Nat → Nat) (β : BS) (tr : Nat → Nat) (τ : BS) (ac : Nat → Nat) (γ : BS) (ah : Nat → Nat) (bd : Nat → Nat → Nat) (η : BS) (σ : Nat → BS) (at_ : Nat → Nat) (θ : BS) (hlt : l.stackTraces = false) (hv : vB β)  (a : Int32) : MX l E yX6_isLate cX6_isLate 2 (some .boolean) 3 18 7 107 [.ref ax, .int a] [wX ax (bo 0) (tr 0) (ac 0) (ah 0) (at_ 0), wB E bo β, wB E tr τ, wC E ac γ, wH E ah bd η, wT E at_ θ, wB E (bd 2) (σ 2), wB E (bd 3) (σ 3), wB E (bd 4) (σ 4), wB E (bd 5) (σ 5), wB E (bd 6) (σ 6), wB E (bd 7) (σ 7), wB E (bd 8) (σ 8), wB E (bd 9) (σ 9)] (Sum.map id (fun v => some (.int (b2i v))) (fX6_isLate β a)) [wX ax (bo 0) (tr 0) (ac 0) (ah 0) (at_ 0), wB E bo β, wB E tr τ, wC E ac γ, wH E ah bd η, wT E at_ θ, wB E (bd 2) (σ 2), wB E (bd 3) (σ 3), wB E (bd 4) (σ 4), wB E (bd 5) (σ 5), wB E (bd 6) (σ 6), wB E (bd 7) (σ 7), wB E (bd 8) (σ 8), wB E (bd 9) (σ 9)] := by
  have hv1 : cnt β ≤ 20 := hv.1
  refine mx_of hlt (by decide +kernel) (Nat.le_of_ble_eq_true rfl) (lv := [(0, .ref ax), (1, .int a)]) rfl (fun X C hT => ?_)
  refine g_iload_n C dX6_isLate_0 rfl 1 rfl ?_
  refine g_callS C (cs1 := [wX ax (bo 0) (tr 0) (ac 0) (ah 0) (at_ 0), wB E bo β, wB E tr τ, wC E ac γ, wH E ah bd η, wT E at_ θ, wB E (bd 2) (σ 2), wB E (bd 3) (σ 3), wB E (bd 4) (σ 4), wB E (bd 5) (σ 5), wB E (bd 6) (σ 6), wB E (bd 7) (σ 7), wB E (bd 8) (σ 8), wB E (bd 9) (σ 9)]) (st1 := [.int (b2i (fX6_isMilestone a))]) [.int a] [] (kX6_isMilestone l E a) caX6_isMilestone q4_77 rfl ⟨Nat.le_of_ble_eq_true rfl, Nat.le_of_ble_eq_true rfl⟩ ⟨Nat.le_of_ble_eq_true rfl, Nat.le_of_ble_eq_true rfl⟩ (by decide) rfl rfl rfl rfl (Nat.le_of_ble_eq_true rfl) dX6_isLate_1 rfl ?_
  have e_2 : (fX6_isMilestone a) = false → fX6_isLate β a = .inl xIO := fun c_1 => by rw [fX6_isLate]; rw [if_neg (ne_true_of_eq_false c_1)]
  refine g_req (b := (fX6_isMilestone a)) C hT (kX6_requireIndex l E hlt (fX6_isMilestone a)) caX6_requireIndex q3_195 ⟨Nat.le_of_ble_eq_true rfl, Nat.le_of_ble_eq_true rfl⟩ ⟨Nat.le_of_ble_eq_true rfl, Nat.le_of_ble_eq_true rfl⟩ ⟨Nat.le_of_ble_eq_true rfl, Nat.le_of_ble_eq_true rfl⟩ (fun c => by rw [e_2 c]; exact ⟨rfl, rfl⟩) (Nat.le_of_ble_eq_true rfl) dX6_isLate_4 (fun c_3 => ?_)
  have hx_4 := isMilestone_i c_3
  refine g_aload_n C dX6_isLate_7 rfl 0 rfl ?_
  refine g_getf C (T := TX6) (N := 5) 0 0 rfl rfl rfl inX6 0 (by decide) q1_192 rfl dX6_isLate_8 ?_
  refine g_iload_n C dX6_isLate_11 rfl 1 rfl ?_
  refine g_st (st1 := [.int (nI a.toNatClampNeg), .ref (bo 0)]) (by rw [← hx_4.1]) ?_
  refine g_callS C (cs1 := [wX ax (bo 0) (tr 0) (ac 0) (ah 0) (at_ 0), wB E bo β, wB E tr τ, wC E ac γ, wH E ah bd η, wT E at_ θ, wB E (bd 2) (σ 2), wB E (bd 3) (σ 3), wB E (bd 4) (σ 4), wB E (bd 5) (σ 5), wB E (bd 6) (σ 6), wB E (bd 7) (σ 7), wB E (bd 8) (σ 8), wB E (bd 9) (σ 9)]) (st1 := [.int (b2i (fX5_isOverdue β a.toNatClampNeg))]) [.ref (bo 0), .int (nI a.toNatClampNeg)] [1] (kX5_isOverdue l E bo β hv a.toNatClampNeg hx_4.2) caX5_isOverdue q3_6 rfl ⟨Nat.le_of_ble_eq_true rfl, Nat.le_of_ble_eq_true rfl⟩ ⟨Nat.le_of_ble_eq_true rfl, Nat.le_of_ble_eq_true rfl⟩ (by decide) rfl rfl rfl rfl (Nat.le_of_ble_eq_true rfl) dX6_isLate_12 rfl ?_
  have e_5 : fX6_isLate β a = .inr (fX5_isOverdue β a.toNatClampNeg) := by rw [fX6_isLate]; rw [if_pos c_3]
  refine g_widen (k1 := 3) (n1 := 18) (Nat.le_of_ble_eq_true rfl) (Nat.le_of_ble_eq_true rfl) ?_
  exact g_zret (b := (fX5_isOverdue β a.toNatClampNeg)) C (gT_r hT (by rw [e_5] <;> rfl) rfl) rfl rfl rfl dX6_isLate_15
def fX6_misplanned (β : BS) (a : Int32) : (String ⊕ Int32) :=
  if (fX6_isMilestone a) = true then .inr (fX5_plannedTooEarly β a.toNatClampNeg) else .inl xIO
theorem caX6_misplanned : gCalV yX6_misplanned cX6_misplanned 2 (some .int) 1 := ⟨⟨q6_34, q1_1, by decide +kernel⟩, q6_32, q6_33⟩
set_option maxHeartbeats 4000000 in
set_option maxRecDepth 100000 in
theorem kX6_misplanned (l : Launch) (E : gE) (ax : Nat) (bo : Nat → Nat) (β : BS) (tr : Nat → Nat) (τ : BS) (ac : Nat → Nat) (γ : BS) (ah : Nat → Nat) (bd : Nat → Nat → Nat) (η : BS) (σ : Nat → BS) (at_ : Nat → Nat) (θ : BS) (hlt : l.stackTraces = false) (hv : vB β)  (a : Int32) : MX l E yX6_misplanned cX6_misplanned 2 (some .int) 3 18 7 112 [.ref ax, .int a] [wX ax (bo 0) (tr 0) (ac 0) (ah 0) (at_ 0), wB E bo β, wB E tr τ, wC E ac γ, wH E ah bd η, wT E at_ θ, wB E (bd 2) (σ 2), wB E (bd 3) (σ 3), wB E (bd 4) (σ 4), wB E (bd 5) (σ 5), wB E (bd 6) (σ 6), wB E (bd 7) (σ 7), wB E (bd 8) (σ 8), wB E (bd 9) (σ 9)] (Sum.map id (fun v => some (.int v)) (fX6_misplanned β a)) [wX ax (bo 0) (tr 0) (ac 0) (ah 0) (at_ 0), wB E bo β, wB E tr τ, wC E ac γ, wH E ah bd η, wT E at_ θ, wB E (bd 2) (σ 2), wB E (bd 3) (σ 3), wB E (bd 4) (σ 4), wB E (bd 5) (σ 5), wB E (bd 6) (σ 6), wB E (bd 7) (σ 7), wB E (bd 8) (σ 8), wB E (bd 9) (σ 9)] := by
  have hv1 : cnt β ≤ 20 := hv.1
  refine mx_of hlt (by decide +kernel) (Nat.le_of_ble_eq_true rfl) (lv := [(0, .ref ax), (1, .int a)]) rfl (fun X C hT => ?_)
  refine g_iload_n C dX6_misplanned_0 rfl 1 rfl ?_
  refine g_callS C (cs1 := [wX ax (bo 0) (tr 0) (ac 0) (ah 0) (at_ 0), wB E bo β, wB E tr τ, wC E ac γ, wH E ah bd η, wT E at_ θ, wB E (bd 2) (σ 2), wB E (bd 3) (σ 3), wB E (bd 4) (σ 4), wB E (bd 5) (σ 5), wB E (bd 6) (σ 6), wB E (bd 7) (σ 7), wB E (bd 8) (σ 8), wB E (bd 9) (σ 9)]) (st1 := [.int (b2i (fX6_isMilestone a))]) [.int a] [] (kX6_isMilestone l E a) caX6_isMilestone q4_77 rfl ⟨Nat.le_of_ble_eq_true rfl, Nat.le_of_ble_eq_true rfl⟩ ⟨Nat.le_of_ble_eq_true rfl, Nat.le_of_ble_eq_true rfl⟩ (by decide) rfl rfl rfl rfl (Nat.le_of_ble_eq_true rfl) dX6_misplanned_1 rfl ?_
  have e_2 : (fX6_isMilestone a) = false → fX6_misplanned β a = .inl xIO := fun c_1 => by rw [fX6_misplanned]; rw [if_neg (ne_true_of_eq_false c_1)]
  refine g_req (b := (fX6_isMilestone a)) C hT (kX6_requireIndex l E hlt (fX6_isMilestone a)) caX6_requireIndex q3_195 ⟨Nat.le_of_ble_eq_true rfl, Nat.le_of_ble_eq_true rfl⟩ ⟨Nat.le_of_ble_eq_true rfl, Nat.le_of_ble_eq_true rfl⟩ ⟨Nat.le_of_ble_eq_true rfl, Nat.le_of_ble_eq_true rfl⟩ (fun c => by rw [e_2 c]; exact ⟨rfl, rfl⟩) (Nat.le_of_ble_eq_true rfl) dX6_misplanned_4 (fun c_3 => ?_)
  have hx_4 := isMilestone_i c_3
  refine g_aload_n C dX6_misplanned_7 rfl 0 rfl ?_
  refine g_getf C (T := TX6) (N := 5) 0 0 rfl rfl rfl inX6 0 (by decide) q1_192 rfl dX6_misplanned_8 ?_
  refine g_iload_n C dX6_misplanned_11 rfl 1 rfl ?_
  refine g_st (st1 := [.int (nI a.toNatClampNeg), .ref (bo 0)]) (by rw [← hx_4.1]) ?_
  refine g_callS C (cs1 := [wX ax (bo 0) (tr 0) (ac 0) (ah 0) (at_ 0), wB E bo β, wB E tr τ, wC E ac γ, wH E ah bd η, wT E at_ θ, wB E (bd 2) (σ 2), wB E (bd 3) (σ 3), wB E (bd 4) (σ 4), wB E (bd 5) (σ 5), wB E (bd 6) (σ 6), wB E (bd 7) (σ 7), wB E (bd 8) (σ 8), wB E (bd 9) (σ 9)]) (st1 := [.int (fX5_plannedTooEarly β a.toNatClampNeg)]) [.ref (bo 0), .int (nI a.toNatClampNeg)] [1] (kX5_plannedTooEarly l E bo β hv a.toNatClampNeg hx_4.2) caX5_plannedTooEarly q3_7 rfl ⟨Nat.le_of_ble_eq_true rfl, Nat.le_of_ble_eq_true rfl⟩ ⟨Nat.le_of_ble_eq_true rfl, Nat.le_of_ble_eq_true rfl⟩ (by decide) rfl rfl rfl rfl (Nat.le_of_ble_eq_true rfl) dX6_misplanned_12 rfl ?_
  have e_5 : fX6_misplanned β a = .inr (fX5_plannedTooEarly β a.toNatClampNeg) := by rw [fX6_misplanned]; rw [if_pos c_3]
  refine g_widen (k1 := 3) (n1 := 18) (Nat.le_of_ble_eq_true rfl) (Nat.le_of_ble_eq_true rfl) ?_
  exact g_iret C (gT_r hT (by rw [e_5] <;> rfl) rfl) rfl rfl dX6_misplanned_15
