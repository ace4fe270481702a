def fL_act (β : BS) (η : BS) (σ : Nat → BS) (v : Int32) (x : Int32) : Bool × BS × BS × (Nat → BS) :=
  if (fT_tickets β) = 0 then (if (v &&& 15) = 0 then (if (fT_tickets β) = 7 then (false, β, η, σ) else (true, (fT_openTicket β η σ (1 + (fL_low x 13)) (fL_low (x >>> (4 &&& 31)) 4)).2.1, (fT_openTicket β η σ (1 + (fL_low x 13)) (fL_low (x >>> (4 &&& 31)) 4)).2.2.1, (fT_openTicket β η σ (1 + (fL_low x 13)) (fL_low (x >>> (4 &&& 31)) 4)).2.2.2)) else (if (v &&& 15) = 1 then (false, β, η, σ) else (if (v &&& 15) = 2 then (false, β, η, σ) else (if (v &&& 15) = 3 then (false, β, η, σ) else (if (v &&& 15) = 4 then (false, β, η, σ) else (if (v &&& 15) = 5 then (false, β, η, σ) else (if (v &&& 15) = 6 then (false, β, η, σ) else (if (v &&& 15) = 7 then (false, β, η, σ) else (if (v &&& 15) = 8 then (true, (fT_endDays β η σ (1 + (fL_low x 12))).2.1, (fT_endDays β η σ (1 + (fL_low x 12))).2.2.1, (fT_endDays β η σ (1 + (fL_low x 12))).2.2.2) else (if (v &&& 15) = 9 then (true, (fT_changeDate β η σ ((fL_low x 4).toNatClampNeg) (fL_low (x >>> (2 &&& 31)) 60)).2.1, (fT_changeDate β η σ ((fL_low x 4).toNatClampNeg) (fL_low (x >>> (2 &&& 31)) 60)).2.2.1, (fT_changeDate β η σ ((fL_low x 4).toNatClampNeg) (fL_low (x >>> (2 &&& 31)) 60)).2.2.2) else (false, β, η, σ))))))))))) else (if (v &&& 15) = 0 then (if (fT_tickets β) = 7 then (false, β, η, σ) else (true, (fT_openTicket β η σ (1 + (fL_low x 13)) (fL_low (x >>> (4 &&& 31)) 4)).2.1, (fT_openTicket β η σ (1 + (fL_low x 13)) (fL_low (x >>> (4 &&& 31)) 4)).2.2.1, (fT_openTicket β η σ (1 + (fL_low x 13)) (fL_low (x >>> (4 &&& 31)) 4)).2.2.2)) else (if (v &&& 15) = 1 then (if (fL_low (v >>> (4 &&& 31)) (fT_tickets β)) < 0 then (false, β, η, σ) else (if (fL_low (v >>> (4 &&& 31)) (fT_tickets β)) = (fL_low x (fT_tickets β)) then (false, β, η, σ) else (if (2 : Int32) < (fT_stateOf β ((fL_low (v >>> (4 &&& 31)) (fT_tickets β)).toNatClampNeg)) then (false, β, η, σ) else (if (fT_needs β ((fL_low (v >>> (4 &&& 31)) (fT_tickets β)).toNatClampNeg) ((fL_low x (fT_tickets β)).toNatClampNeg)) = true then (false, β, η, σ) else (if (fL_reaches β ((fL_low x (fT_tickets β)).toNatClampNeg) ((fL_low (v >>> (4 &&& 31)) (fT_tickets β)).toNatClampNeg)) = true then (false, β, η, σ) else (true, (fT_need β η σ ((fL_low (v >>> (4 &&& 31)) (fT_tickets β)).toNatClampNeg) ((fL_low x (fT_tickets β)).toNatClampNeg)).2.1, (fT_need β η σ ((fL_low (v >>> (4 &&& 31)) (fT_tickets β)).toNatClampNeg) ((fL_low x (fT_tickets β)).toNatClampNeg)).2.2.1, (fT_need β η σ ((fL_low (v >>> (4 &&& 31)) (fT_tickets β)).toNatClampNeg) ((fL_low x (fT_tickets β)).toNatClampNeg)).2.2.2)))))) else (if (v &&& 15) = 2 then (if (fL_low (v >>> (4 &&& 31)) (fT_tickets β)) < 0 then (false, β, η, σ) else (if (fL_low (v >>> (4 &&& 31)) (fT_tickets β)) = (fL_low x (fT_tickets β)) then (false, β, η, σ) else (if (2 : Int32) < (fT_stateOf β ((fL_low (v >>> (4 &&& 31)) (fT_tickets β)).toNatClampNeg)) then (false, β, η, σ) else (if (fT_needs β ((fL_low (v >>> (4 &&& 31)) (fT_tickets β)).toNatClampNeg) ((fL_low x (fT_tickets β)).toNatClampNeg)) = true then (false, β, η, σ) else (if (fL_reaches β ((fL_low x (fT_tickets β)).toNatClampNeg) ((fL_low (v >>> (4 &&& 31)) (fT_tickets β)).toNatClampNeg)) = true then (false, β, η, σ) else (true, (fT_need β η σ ((fL_low (v >>> (4 &&& 31)) (fT_tickets β)).toNatClampNeg) ((fL_low x (fT_tickets β)).toNatClampNeg)).2.1, (fT_need β η σ ((fL_low (v >>> (4 &&& 31)) (fT_tickets β)).toNatClampNeg) ((fL_low x (fT_tickets β)).toNatClampNeg)).2.2.1, (fT_need β η σ ((fL_low (v >>> (4 &&& 31)) (fT_tickets β)).toNatClampNeg) ((fL_low x (fT_tickets β)).toNatClampNeg)).2.2.2)))))) else (if (v &&& 15) = 3 then (if (fL_low (v >>> (4 &&& 31)) (fT_tickets β)) < 0 then (false, β, η, σ) else (if (fL_low (v >>> (4 &&& 31)) (fT_tickets β)) = (fL_low x (fT_tickets β)) then (false, β, η, σ) else (if (2 : Int32) < (fT_stateOf β ((fL_low (v >>> (4 &&& 31)) (fT_tickets β)).toNatClampNeg)) then (false, β, η, σ) else (if (fT_needs β ((fL_low (v >>> (4 &&& 31)) (fT_tickets β)).toNatClampNeg) ((fL_low x (fT_tickets β)).toNatClampNeg)) = true then (false, β, η, σ) else (if (fL_reaches β ((fL_low x (fT_tickets β)).toNatClampNeg) ((fL_low (v >>> (4 &&& 31)) (fT_tickets β)).toNatClampNeg)) = true then (false, β, η, σ) else (true, (fT_need β η σ ((fL_low (v >>> (4 &&& 31)) (fT_tickets β)).toNatClampNeg) ((fL_low x (fT_tickets β)).toNatClampNeg)).2.1, (fT_need β η σ ((fL_low (v >>> (4 &&& 31)) (fT_tickets β)).toNatClampNeg) ((fL_low x (fT_tickets β)).toNatClampNeg)).2.2.1, (fT_need β η σ ((fL_low (v >>> (4 &&& 31)) (fT_tickets β)).toNatClampNeg) ((fL_low x (fT_tickets β)).toNatClampNeg)).2.2.2)))))) else (if (v &&& 15) = 4 then (if (fL_low (v >>> (4 &&& 31)) (fT_tickets β)) < 0 then (false, β, η, σ) else (if (2 : Int32) < (fT_stateOf β ((fL_low (v >>> (4 &&& 31)) (fT_tickets β)).toNatClampNeg)) then (false, β, η, σ) else (if (fT_hasOwner β ((fL_low (v >>> (4 &&& 31)) (fT_tickets β)).toNatClampNeg)) = true then (if (fT_ownerOf β ((fL_low (v >>> (4 &&& 31)) (fT_tickets β)).toNatClampNeg)) = (fL_low x 5) then (false, β, η, σ) else (if ((fT_loadByTickets β ((fL_low x 5).toNatClampNeg)) + (fT_pointsOf β ((fL_low (v >>> (4 &&& 31)) (fT_tickets β)).toNatClampNeg))) ≤ (fT_capacityOf β ((fL_low x 5).toNatClampNeg)) then (true, (fT_assign β η σ ((fL_low (v >>> (4 &&& 31)) (fT_tickets β)).toNatClampNeg) ((fL_low x 5).toNatClampNeg)).2.1, (fT_assign β η σ ((fL_low (v >>> (4 &&& 31)) (fT_tickets β)).toNatClampNeg) ((fL_low x 5).toNatClampNeg)).2.2.1, (fT_assign β η σ ((fL_low (v >>> (4 &&& 31)) (fT_tickets β)).toNatClampNeg) ((fL_low x 5).toNatClampNeg)).2.2.2) else (false, β, η, σ))) else (if ((fT_loadByTickets β ((fL_low x 5).toNatClampNeg)) + (fT_pointsOf β ((fL_low (v >>> (4 &&& 31)) (fT_tickets β)).toNatClampNeg))) ≤ (fT_capacityOf β ((fL_low x 5).toNatClampNeg)) then (true, (fT_assign β η σ ((fL_low (v >>> (4 &&& 31)) (fT_tickets β)).toNatClampNeg) ((fL_low x 5).toNatClampNeg)).2.1, (fT_assign β η σ ((fL_low (v >>> (4 &&& 31)) (fT_tickets β)).toNatClampNeg) ((fL_low x 5).toNatClampNeg)).2.2.1, (fT_assign β η σ ((fL_low (v >>> (4 &&& 31)) (fT_tickets β)).toNatClampNeg) ((fL_low x 5).toNatClampNeg)).2.2.2) else (false, β, η, σ))))) else (if (v &&& 15) = 5 then (if (fL_low (v >>> (4 &&& 31)) (fT_tickets β)) < 0 then (false, β, η, σ) else (if (2 : Int32) < (fT_stateOf β ((fL_low (v >>> (4 &&& 31)) (fT_tickets β)).toNatClampNeg)) then (false, β, η, σ) else (if (fT_hasOwner β ((fL_low (v >>> (4 &&& 31)) (fT_tickets β)).toNatClampNeg)) = true then (if (fT_ownerOf β ((fL_low (v >>> (4 &&& 31)) (fT_tickets β)).toNatClampNeg)) = (fL_low x 5) then (false, β, η, σ) else (if ((fT_loadByTickets β ((fL_low x 5).toNatClampNeg)) + (fT_pointsOf β ((fL_low (v >>> (4 &&& 31)) (fT_tickets β)).toNatClampNeg))) ≤ (fT_capacityOf β ((fL_low x 5).toNatClampNeg)) then (true, (fT_assign β η σ ((fL_low (v >>> (4 &&& 31)) (fT_tickets β)).toNatClampNeg) ((fL_low x 5).toNatClampNeg)).2.1, (fT_assign β η σ ((fL_low (v >>> (4 &&& 31)) (fT_tickets β)).toNatClampNeg) ((fL_low x 5).toNatClampNeg)).2.2.1, (fT_assign β η σ ((fL_low (v >>> (4 &&& 31)) (fT_tickets β)).toNatClampNeg) ((fL_low x 5).toNatClampNeg)).2.2.2) else (false, β, η, σ))) else (if ((fT_loadByTickets β ((fL_low x 5).toNatClampNeg)) + (fT_pointsOf β ((fL_low (v >>> (4 &&& 31)) (fT_tickets β)).toNatClampNeg))) ≤ (fT_capacityOf β ((fL_low x 5).toNatClampNeg)) then (true, (fT_assign β η σ ((fL_low (v >>> (4 &&& 31)) (fT_tickets β)).toNatClampNeg) ((fL_low x 5).toNatClampNeg)).2.1, (fT_assign β η σ ((fL_low (v >>> (4 &&& 31)) (fT_tickets β)).toNatClampNeg) ((fL_low x 5).toNatClampNeg)).2.2.1, (fT_assign β η σ ((fL_low (v >>> (4 &&& 31)) (fT_tickets β)).toNatClampNeg) ((fL_low x 5).toNatClampNeg)).2.2.2) else (false, β, η, σ))))) else (if (v &&& 15) = 6 then (if (fL_low (v >>> (4 &&& 31)) (fT_tickets β)) < 0 then (false, β, η, σ) else (if (2 : Int32) < (fT_stateOf β ((fL_low (v >>> (4 &&& 31)) (fT_tickets β)).toNatClampNeg)) then (false, β, η, σ) else (if (fT_isPlanned β ((fL_low (v >>> (4 &&& 31)) (fT_tickets β)).toNatClampNeg)) = true then (if (fT_milestoneOf β ((fL_low (v >>> (4 &&& 31)) (fT_tickets β)).toNatClampNeg)) = (fL_low x 4) then (false, β, η, σ) else (true, (fT_plan β η σ ((fL_low (v >>> (4 &&& 31)) (fT_tickets β)).toNatClampNeg) ((fL_low x 4).toNatClampNeg)).2.1, (fT_plan β η σ ((fL_low (v >>> (4 &&& 31)) (fT_tickets β)).toNatClampNeg) ((fL_low x 4).toNatClampNeg)).2.2.1, (fT_plan β η σ ((fL_low (v >>> (4 &&& 31)) (fT_tickets β)).toNatClampNeg) ((fL_low x 4).toNatClampNeg)).2.2.2)) else (true, (fT_plan β η σ ((fL_low (v >>> (4 &&& 31)) (fT_tickets β)).toNatClampNeg) ((fL_low x 4).toNatClampNeg)).2.1, (fT_plan β η σ ((fL_low (v >>> (4 &&& 31)) (fT_tickets β)).toNatClampNeg) ((fL_low x 4).toNatClampNeg)).2.2.1, (fT_plan β η σ ((fL_low (v >>> (4 &&& 31)) (fT_tickets β)).toNatClampNeg) ((fL_low x 4).toNatClampNeg)).2.2.2)))) else (if (v &&& 15) = 7 then (if (fL_low (v >>> (4 &&& 31)) (fT_tickets β)) < 0 then (false, β, η, σ) else (if (2 : Int32) < (fT_stateOf β ((fL_low (v >>> (4 &&& 31)) (fT_tickets β)).toNatClampNeg)) then (false, β, η, σ) else (if (x &&& 3) ≤ 0 then (true, (fT_drop β η σ ((fL_low (v >>> (4 &&& 31)) (fT_tickets β)).toNatClampNeg)).2.1, (fT_drop β η σ ((fL_low (v >>> (4 &&& 31)) (fT_tickets β)).toNatClampNeg)).2.2.1, (fT_drop β η σ ((fL_low (v >>> (4 &&& 31)) (fT_tickets β)).toNatClampNeg)).2.2.2) else (false, β, η, σ)))) else (if (v &&& 15) = 8 then (true, (fT_endDays β η σ (1 + (fL_low x 12))).2.1, (fT_endDays β η σ (1 + (fL_low x 12))).2.2.1, (fT_endDays β η σ (1 + (fL_low x 12))).2.2.2) else (if (v &&& 15) = 9 then (true, (fT_changeDate β η σ ((fL_low x 4).toNatClampNeg) (fL_low (x >>> (2 &&& 31)) 60)).2.1, (fT_changeDate β η σ ((fL_low x 4).toNatClampNeg) (fL_low (x >>> (2 &&& 31)) 60)).2.2.1, (fT_changeDate β η σ ((fL_low x 4).toNatClampNeg) (fL_low (x >>> (2 &&& 31)) 60)).2.2.2) else (if (fL_low (v >>> (4 &&& 31)) (fT_tickets β)) < 0 then (false, β, η, σ) else (if ((fL_move β η σ ((fL_low (v >>> (4 &&& 31)) (fT_tickets β)).toNatClampNeg)).1) = true then (true, (fL_move β η σ ((fL_low (v >>> (4 &&& 31)) (fT_tickets β)).toNatClampNeg)).2.1, (fL_move β η σ ((fL_low (v >>> (4 &&& 31)) (fT_tickets β)).toNatClampNeg)).2.2.1, (fL_move β η σ ((fL_low (v >>> (4 &&& 31)) (fT_tickets β)).toNatClampNeg)).2.2.2) else (false, (fL_move β η σ ((fL_low (v >>> (4 &&& 31)) (fT_tickets β)).toNatClampNeg)).2.1, (fL_move β η σ ((fL_low (v >>> (4 &&& 31)) (fT_tickets β)).toNatClampNeg)).2.2.1, (fL_move β η σ ((fL_low (v >>> (4 &&& 31)) (fT_tickets β)).toNatClampNeg)).2.2.2)))))))))))))
theorem caL_act : gCalS yL_act cL_act 7 (some .boolean) 3 := ⟨⟨q3_25, q1_0, by decide +kernel⟩, q3_24⟩
set_option maxHeartbeats 4000000 in
set_option maxRecDepth 100000 in
theorem kL_act (l : Launch) (E : gE) (ax : Nat) (bo : Nat → Nat) (β : BS) (tr : Nat → Nat) (τ : BS) (ac : Nat → Nat) (γ : BS) (ah : Nat → Nat) (bd : Nat → Nat → Nat) (η : BS) (σ : Nat → BS) (at_ : Nat → Nat) (θ : BS) (hv : vB β) (hvh : vH η)  (v : Int32) (x : Int32) (hI : INV 420 β) : MC l E yL_act cL_act 7 (some .boolean) 6 130 [.ref ax, .int v, .int x] [wX ax (bo 0) (tr 0) (ac 0) (ah 0) (at_ 0), wB E bo β, wB E tr τ, wC E ac γ, wH E ah bd η, wT E at_ θ, wB E (bd 2) (σ 2), wB E (bd 3) (σ 3), wB E (bd 4) (σ 4), wB E (bd 5) (σ 5), wB E (bd 6) (σ 6), wB E (bd 7) (σ 7), wB E (bd 8) (σ 8), wB E (bd 9) (σ 9)] (some (.int (b2i (fL_act β η σ v x).1))) [wX ax (bo 0) (tr 0) (ac 0) (ah 0) (at_ 0), wB E bo ((fL_act β η σ v x).2.1), wB E tr τ, wC E ac γ, wH E ah bd ((fL_act β η σ v x).2.2.1), wT E at_ θ, wB E (bd 2) ((fL_act β η σ v x).2.2.2 2), wB E (bd 3) ((fL_act β η σ v x).2.2.2 3), wB E (bd 4) ((fL_act β η σ v x).2.2.2 4), wB E (bd 5) ((fL_act β η σ v x).2.2.2 5), wB E (bd 6) ((fL_act β η σ v x).2.2.2 6), wB E (bd 7) ((fL_act β η σ v x).2.2.2 7), wB E (bd 8) ((fL_act β η σ v x).2.2.2 8), wB E (bd 9) ((fL_act β η σ v x).2.2.2 9)] := by
  have hv1 : cnt β ≤ 20 := hv.1
  refine mc_of (by decide +kernel) (Nat.le_of_ble_eq_true rfl) (lv := [(0, .ref ax), (1, .int v), (2, .int x)]) rfl (fun X C hE => ?_)
  refine g_aload_n C dL_act_0 rfl 0 rfl ?_
  refine g_callV C (cs1 := [wX ax (bo 0) (tr 0) (ac 0) (ah 0) (at_ 0), wB E bo β, wB E tr τ, wC E ac γ, wH E ah bd η, wT E at_ θ, wB E (bd 2) (σ 2), wB E (bd 3) (σ 3), wB E (bd 4) (σ 4), wB E (bd 5) (σ 5), wB E (bd 6) (σ 6), wB E (bd 7) (σ 7), wB E (bd 8) (σ 8), wB E (bd 9) (σ 9)]) (st1 := [.int (fT_tickets β)]) [] [0, 1, 2, 3, 4, 5, 6, 7, 8, 9, 10, 11, 12, 13] (kT_tickets l E ax bo β tr τ ac γ ah bd η σ at_ θ) caX6_tickets q2_55 rfl ⟨Nat.le_of_ble_eq_true rfl, Nat.le_of_ble_eq_true rfl⟩ ⟨Nat.zero_le _, Nat.zero_le _⟩ 0 0 rfl rfl rfl rfl (by decide) rfl rfl rfl rfl (Nat.le_of_ble_eq_true rfl) dL_act_1 rfl ?_
  refine g_istore_n C (lv1 := [(3, .int (fT_tickets β)), (0, .ref ax), (1, .int v), (2, .int x)]) dL_act_4 rfl (by decide) rfl ?_
  refine g_iload_n C dL_act_5 rfl 0 rfl ?_
  refine g_if_ne C 13 dL_act_6 (by decide) (fun c_1 => ?_) (fun c_1 => ?_)
  · skip
    have hc9 := c_1
    have hT := low_t (x := v >>> (4 &&& 31)) hv c_1
    have hU := low_t (x := x) hv c_1
    have hO := low_c (x := x) (z := 5) (n := 5) rfl (by decide) (by decide)
    have hM := low_c (x := x) (z := 4) (n := 4) rfl (by decide) (by decide)
    refine g_iload_n C dL_act_13 rfl 2 rfl ?_
    refine g_iconst C (v := 4) dL_act_14 (by decide) ?_
    refine g_ishr C dL_act_15 ?_
    refine g_iload_n C dL_act_16 rfl 0 rfl ?_
    refine g_callS C (cs1 := [wX ax (bo 0) (tr 0) (ac 0) (ah 0) (at_ 0), wB E bo β, wB E tr τ, wC E ac γ, wH E ah bd η, wT E at_ θ, wB E (bd 2) (σ 2), wB E (bd 3) (σ 3), wB E (bd 4) (σ 4), wB E (bd 5) (σ 5), wB E (bd 6) (σ 6), wB E (bd 7) (σ 7), wB E (bd 8) (σ 8), wB E (bd 9) (σ 9)]) (st1 := [.int (fL_low (v >>> (4 &&& 31)) (fT_tickets β))]) [.int (v >>> (4 &&& 31)), .int (fT_tickets β)] [] (kL_low l E (v >>> (4 &&& 31)) (fT_tickets β) hc9) caL_low q3_26 rfl ⟨Nat.le_of_ble_eq_true rfl, Nat.le_of_ble_eq_true rfl⟩ ⟨Nat.zero_le _, Nat.zero_le _⟩ (by decide) rfl rfl rfl rfl (Nat.le_of_ble_eq_true rfl) dL_act_17 rfl ?_
    refine g_istore C (lv1 := [(4, .int (fL_low (v >>> (4 &&& 31)) (fT_tickets β))), (3, .int (fT_tickets β)), (0, .ref ax), (1, .int v), (2, .int x)]) dL_act_20 (by decide) rfl ?_
    refine g_iload_n C dL_act_22 rfl 4 rfl ?_
    refine g_iconst C (v := 5) dL_act_23 (by decide) ?_
    refine g_callS C (cs1 := [wX ax (bo 0) (tr 0) (ac 0) (ah 0) (at_ 0), wB E bo β, wB E tr τ, wC E ac γ, wH E ah bd η, wT E at_ θ, wB E (bd 2) (σ 2), wB E (bd 3) (σ 3), wB E (bd 4) (σ 4), wB E (bd 5) (σ 5), wB E (bd 6) (σ 6), wB E (bd 7) (σ 7), wB E (bd 8) (σ 8), wB E (bd 9) (σ 9)]) (st1 := [.int (fL_low x 5)]) [.int x, .int 5] [] (kL_low l E x 5 (by decide)) caL_low q3_26 rfl ⟨Nat.le_of_ble_eq_true rfl, Nat.le_of_ble_eq_true rfl⟩ ⟨Nat.zero_le _, Nat.zero_le _⟩ (by decide) rfl rfl rfl rfl (Nat.le_of_ble_eq_true rfl) dL_act_24 rfl ?_
    refine g_istore C (lv1 := [(5, .int (fL_low x 5)), (4, .int (fL_low (v >>> (4 &&& 31)) (fT_tickets β))), (3, .int (fT_tickets β)), (0, .ref ax), (1, .int v), (2, .int x)]) dL_act_27 (by decide) rfl ?_
    refine g_iload_n C dL_act_29 rfl 4 rfl ?_
    refine g_bipush C (v := 15) dL_act_30 (by decide) ?_
    refine g_iand C dL_act_32 ?_
    refine (Decidable.em ((v &&& 15) = 0)).elim (fun c_2 => ?_) (fun c_2 => ?_)
    · refine g_tblK C 88 dL_act_33 c_2 (by decide) (by decide) rfl (by decide) ?_
      refine g_iload_n C dL_act_88 rfl 2 rfl ?_
      refine g_bipush C (v := 7) dL_act_89 (by decide) ?_
      refine g_icmp_ne C 96 dL_act_91 (by decide) (fun c_3 => ?_) (fun c_3 => ?_)
      · skip
        refine g_aload_n C dL_act_96 rfl 3 rfl ?_
        refine g_iconst C (v := 1) dL_act_97 (by decide) ?_
        refine g_iload_n C dL_act_98 rfl 5 rfl ?_
        refine g_bipush C (v := 13) dL_act_99 (by decide) ?_
        refine g_callS C (cs1 := [wX ax (bo 0) (tr 0) (ac 0) (ah 0) (at_ 0), wB E bo β, wB E tr τ, wC E ac γ, wH E ah bd η, wT E at_ θ, wB E (bd 2) (σ 2), wB E (bd 3) (σ 3), wB E (bd 4) (σ 4), wB E (bd 5) (σ 5), wB E (bd 6) (σ 6), wB E (bd 7) (σ 7), wB E (bd 8) (σ 8), wB E (bd 9) (σ 9)]) (st1 := [.int (fL_low x 13), .int 1, .ref ax]) [.int x, .int 13] [] (kL_low l E x 13 (by decide)) caL_low q3_26 rfl ⟨Nat.le_of_ble_eq_true rfl, Nat.le_of_ble_eq_true rfl⟩ ⟨Nat.zero_le _, Nat.zero_le _⟩ (by decide) rfl rfl rfl rfl (Nat.le_of_ble_eq_true rfl) dL_act_101 rfl ?_
        refine g_iadd C dL_act_104 ?_
        refine g_iload_n C dL_act_105 rfl 5 rfl ?_
        refine g_iconst C (v := 4) dL_act_106 (by decide) ?_
        refine g_ishr C dL_act_107 ?_
        refine g_iconst C (v := 4) dL_act_108 (by decide) ?_
        refine g_callS C (cs1 := [wX ax (bo 0) (tr 0) (ac 0) (ah 0) (at_ 0), wB E bo β, wB E tr τ, wC E ac γ, wH E ah bd η, wT E at_ θ, wB E (bd 2) (σ 2), wB E (bd 3) (σ 3), wB E (bd 4) (σ 4), wB E (bd 5) (σ 5), wB E (bd 6) (σ 6), wB E (bd 7) (σ 7), wB E (bd 8) (σ 8), wB E (bd 9) (σ 9)]) (st1 := [.int (fL_low (x >>> (4 &&& 31)) 4), .int (1 + (fL_low x 13)), .ref ax]) [.int (x >>> (4 &&& 31)), .int 4] [] (kL_low l E (x >>> (4 &&& 31)) 4 (by decide)) caL_low q3_26 rfl ⟨Nat.le_of_ble_eq_true rfl, Nat.le_of_ble_eq_true rfl⟩ ⟨Nat.zero_le _, Nat.zero_le _⟩ (by decide) rfl rfl rfl rfl (Nat.le_of_ble_eq_true rfl) dL_act_109 rfl ?_
        refine g_callV C (cs1 := [wX ax (bo 0) (tr 0) (ac 0) (ah 0) (at_ 0), wB E bo ((fT_openTicket β η σ (1 + (fL_low x 13)) (fL_low (x >>> (4 &&& 31)) 4)).2.1), wB E tr τ, wC E ac γ, wH E ah bd ((fT_openTicket β η σ (1 + (fL_low x 13)) (fL_low (x >>> (4 &&& 31)) 4)).2.2.1), wT E at_ θ, wB E (bd 2) ((fT_openTicket β η σ (1 + (fL_low x 13)) (fL_low (x >>> (4 &&& 31)) 4)).2.2.2 2), wB E (bd 3) ((fT_openTicket β η σ (1 + (fL_low x 13)) (fL_low (x >>> (4 &&& 31)) 4)).2.2.2 3), wB E (bd 4) ((fT_openTicket β η σ (1 + (fL_low x 13)) (fL_low (x >>> (4 &&& 31)) 4)).2.2.2 4), wB E (bd 5) ((fT_openTicket β η σ (1 + (fL_low x 13)) (fL_low (x >>> (4 &&& 31)) 4)).2.2.2 5), wB E (bd 6) ((fT_openTicket β η σ (1 + (fL_low x 13)) (fL_low (x >>> (4 &&& 31)) 4)).2.2.2 6), wB E (bd 7) ((fT_openTicket β η σ (1 + (fL_low x 13)) (fL_low (x >>> (4 &&& 31)) 4)).2.2.2 7), wB E (bd 8) ((fT_openTicket β η σ (1 + (fL_low x 13)) (fL_low (x >>> (4 &&& 31)) 4)).2.2.2 8), wB E (bd 9) ((fT_openTicket β η σ (1 + (fL_low x 13)) (fL_low (x >>> (4 &&& 31)) 4)).2.2.2 9)]) (st1 := [.int ((fT_openTicket β η σ (1 + (fL_low x 13)) (fL_low (x >>> (4 &&& 31)) 4)).1)]) [.int (1 + (fL_low x 13)), .int (fL_low (x >>> (4 &&& 31)) 4)] [0, 1, 2, 3, 4, 5, 6, 7, 8, 9, 10, 11, 12, 13] (kT_openTicket l E ax bo β tr τ ac γ ah bd η σ at_ θ hv hvh (1 + (fL_low x 13)) (fL_low (x >>> (4 &&& 31)) 4) (by have := INV.n7 hI; omega) (open_p x) (open_z (x >>> (4 &&& 31))) (room_n hv (by have := INV.n7 hI; omega))) caX6_openTicket q3_30 rfl ⟨Nat.le_of_ble_eq_true rfl, Nat.le_of_ble_eq_true rfl⟩ ⟨Nat.zero_le _, Nat.zero_le _⟩ 0 0 rfl rfl rfl rfl (by decide) rfl rfl rfl rfl (Nat.le_of_ble_eq_true rfl) dL_act_112 rfl ?_
        refine g_pop C dL_act_115 rfl ?_
        refine g_iconst C (v := 1) dL_act_116 (by decide) ?_
        have e_4 : fL_act β η σ v x = (true, (fT_openTicket β η σ (1 + (fL_low x 13)) (fL_low (x >>> (4 &&& 31)) 4)).2.1, (fT_openTicket β η σ (1 + (fL_low x 13)) (fL_low (x >>> (4 &&& 31)) 4)).2.2.1, (fT_openTicket β η σ (1 + (fL_low x 13)) (fL_low (x >>> (4 &&& 31)) 4)).2.2.2) := by rw [fL_act]; rw [if_neg c_1, if_pos c_2, if_neg c_3]
        exact g_zret (b := true) C hE (by rw [e_4]) rfl (by rw [e_4] <;> rfl) dL_act_117
      · skip
        refine g_iconst C (v := 0) dL_act_94 (by decide) ?_
        have e_5 : fL_act β η σ v x = (false, β, η, σ) := by rw [fL_act]; rw [if_neg c_1, if_pos c_2, if_pos c_3]
        exact g_zret (b := false) C hE (by rw [e_5]) rfl (by rw [e_5] <;> rfl) dL_act_95
    refine (Decidable.em ((v &&& 15) = 1)).elim (fun c_6 => ?_) (fun c_6 => ?_)
    · refine g_tblK C 118 dL_act_33 c_6 (by decide) (by decide) rfl (by decide) ?_
      refine g_iload_n C dL_act_118 rfl 2 rfl ?_
      refine g_if_ne C 126 dL_act_119 (by decide) (fun c_7 => ?_) (fun c_7 => ?_)
      · skip
        refine g_iload_n C dL_act_126 rfl 5 rfl ?_
        refine g_iload_n C dL_act_127 rfl 2 rfl ?_
        refine g_callS C (cs1 := [wX ax (bo 0) (tr 0) (ac 0) (ah 0) (at_ 0), wB E bo β, wB E tr τ, wC E ac γ, wH E ah bd η, wT E at_ θ, wB E (bd 2) (σ 2), wB E (bd 3) (σ 3), wB E (bd 4) (σ 4), wB E (bd 5) (σ 5), wB E (bd 6) (σ 6), wB E (bd 7) (σ 7), wB E (bd 8) (σ 8), wB E (bd 9) (σ 9)]) (st1 := [.int (fL_low x (fT_tickets β))]) [.int x, .int (fT_tickets β)] [] (kL_low l E x (fT_tickets β) hc9) caL_low q3_26 rfl ⟨Nat.le_of_ble_eq_true rfl, Nat.le_of_ble_eq_true rfl⟩ ⟨Nat.zero_le _, Nat.zero_le _⟩ (by decide) rfl rfl rfl rfl (Nat.le_of_ble_eq_true rfl) dL_act_128 rfl ?_
        refine g_istore C (lv1 := [(6, .int (fL_low x (fT_tickets β))), (5, .int (fL_low x 5)), (4, .int (fL_low (v >>> (4 &&& 31)) (fT_tickets β))), (3, .int (fT_tickets β)), (0, .ref ax), (1, .int v), (2, .int x)]) dL_act_131 (by decide) rfl ?_
        refine g_iload C dL_act_133 2 rfl ?_
        refine g_if_lt C 177 dL_act_135 (by decide) (fun c_8 => ?_) (fun c_8 => ?_)
        · skip
          refine g_iconst C (v := 0) dL_act_177 (by decide) ?_
          have e_9 : fL_act β η σ v x = (false, β, η, σ) := by rw [fL_act]; rw [if_neg c_1, if_neg c_2, if_pos c_6, if_pos c_8]
          exact g_zret (b := false) C hE (by rw [e_9]) rfl (by rw [e_9] <;> rfl) dL_act_178
        · skip
          refine g_iload C dL_act_138 2 rfl ?_
          refine g_iload C dL_act_140 0 rfl ?_
          refine g_icmp_eq C 177 dL_act_142 (by decide) (fun c_10 => ?_) (fun c_10 => ?_)
          · skip
            refine g_iconst C (v := 0) dL_act_177 (by decide) ?_
            have e_11 : fL_act β η σ v x = (false, β, η, σ) := by rw [fL_act]; rw [if_neg c_1, if_neg c_2, if_pos c_6, if_neg c_8, if_pos c_10]
            exact g_zret (b := false) C hE (by rw [e_11]) rfl (by rw [e_11] <;> rfl) dL_act_178
          · skip
            have he9 := c_10
            refine g_aload_n C dL_act_145 rfl 4 rfl ?_
            refine g_iload C dL_act_146 2 rfl ?_
            refine g_st (st1 := [.int (nI ((fL_low (v >>> (4 &&& 31)) (fT_tickets β)).toNatClampNeg)), .ref ax]) (by rw [← hT.1]) ?_
            refine g_callV C (cs1 := [wX ax (bo 0) (tr 0) (ac 0) (ah 0) (at_ 0), wB E bo β, wB E tr τ, wC E ac γ, wH E ah bd η, wT E at_ θ, wB E (bd 2) (σ 2), wB E (bd 3) (σ 3), wB E (bd 4) (σ 4), wB E (bd 5) (σ 5), wB E (bd 6) (σ 6), wB E (bd 7) (σ 7), wB E (bd 8) (σ 8), wB E (bd 9) (σ 9)]) (st1 := [.int (fT_stateOf β ((fL_low (v >>> (4 &&& 31)) (fT_tickets β)).toNatClampNeg))]) [.int (nI ((fL_low (v >>> (4 &&& 31)) (fT_tickets β)).toNatClampNeg))] [0, 1, 2, 3, 4, 5, 6, 7, 8, 9, 10, 11, 12, 13] (kT_stateOf l E ax bo β tr τ ac γ ah bd η σ at_ θ hv ((fL_low (v >>> (4 &&& 31)) (fT_tickets β)).toNatClampNeg) (by omega) (hasT_n hv hT.2)) caX6_stateOf q2_193 rfl ⟨Nat.le_of_ble_eq_true rfl, Nat.le_of_ble_eq_true rfl⟩ ⟨Nat.zero_le _, Nat.zero_le _⟩ 0 0 rfl rfl rfl rfl (by decide) rfl rfl rfl rfl (Nat.le_of_ble_eq_true rfl) dL_act_148 rfl ?_
            refine g_iconst C (v := 2) dL_act_151 (by decide) ?_
            refine g_icmp_gt C 177 dL_act_152 (by decide) (fun c_12 => ?_) (fun c_12 => ?_)
            · skip
              refine g_iconst C (v := 0) dL_act_177 (by decide) ?_
              have e_13 : fL_act β η σ v x = (false, β, η, σ) := by rw [fL_act]; rw [if_neg c_1, if_neg c_2, if_pos c_6, if_neg c_8, if_neg c_10, if_pos c_12]
              exact g_zret (b := false) C hE (by rw [e_13]) rfl (by rw [e_13] <;> rfl) dL_act_178
            · skip
              have hs9 := c_12
              refine g_aload_n C dL_act_155 rfl 4 rfl ?_
              refine g_iload C dL_act_156 2 rfl ?_
              refine g_iload C dL_act_158 0 rfl ?_
              refine g_st (st1 := [.int (fL_low x (fT_tickets β)), .int (nI ((fL_low (v >>> (4 &&& 31)) (fT_tickets β)).toNatClampNeg)), .ref ax]) (by rw [← hT.1]) ?_
              refine g_st (st1 := [.int (nI ((fL_low x (fT_tickets β)).toNatClampNeg)), .int (nI ((fL_low (v >>> (4 &&& 31)) (fT_tickets β)).toNatClampNeg)), .ref ax]) (by rw [← hU.1]) ?_
              refine g_callV C (cs1 := [wX ax (bo 0) (tr 0) (ac 0) (ah 0) (at_ 0), wB E bo β, wB E tr τ, wC E ac γ, wH E ah bd η, wT E at_ θ, wB E (bd 2) (σ 2), wB E (bd 3) (σ 3), wB E (bd 4) (σ 4), wB E (bd 5) (σ 5), wB E (bd 6) (σ 6), wB E (bd 7) (σ 7), wB E (bd 8) (σ 8), wB E (bd 9) (σ 9)]) (st1 := [.int (b2i (fT_needs β ((fL_low (v >>> (4 &&& 31)) (fT_tickets β)).toNatClampNeg) ((fL_low x (fT_tickets β)).toNatClampNeg)))]) [.int (nI ((fL_low (v >>> (4 &&& 31)) (fT_tickets β)).toNatClampNeg)), .int (nI ((fL_low x (fT_tickets β)).toNatClampNeg))] [0, 1, 2, 3, 4, 5, 6, 7, 8, 9, 10, 11, 12, 13] (kT_needs l E ax bo β tr τ ac γ ah bd η σ at_ θ hv ((fL_low (v >>> (4 &&& 31)) (fT_tickets β)).toNatClampNeg) (by omega) ((fL_low x (fT_tickets β)).toNatClampNeg) (by omega) (hasT_n hv hT.2) (hasT_n hv hU.2)) caX6_needs q3_65 rfl ⟨Nat.le_of_ble_eq_true rfl, Nat.le_of_ble_eq_true rfl⟩ ⟨Nat.zero_le _, Nat.zero_le _⟩ 0 0 rfl rfl rfl rfl (by decide) rfl rfl rfl rfl (Nat.le_of_ble_eq_true rfl) dL_act_160 rfl ?_
              refine g_ifB_ne C 177 dL_act_163 (by decide) (fun c_14 => ?_) (fun c_14 => ?_)
              · skip
                refine g_iconst C (v := 0) dL_act_177 (by decide) ?_
                have e_15 : fL_act β η σ v x = (false, β, η, σ) := by rw [fL_act]; rw [if_neg c_1, if_neg c_2, if_pos c_6, if_neg c_8, if_neg c_10, if_neg c_12, if_pos c_14]
                exact g_zret (b := false) C hE (by rw [e_15]) rfl (by rw [e_15] <;> rfl) dL_act_178
              · skip
                have hn9 := c_14
                refine g_aload_n C dL_act_166 rfl 4 rfl ?_
                refine g_iload C dL_act_167 0 rfl ?_
                refine g_iload C dL_act_169 2 rfl ?_
                refine g_st (st1 := [.int (fL_low (v >>> (4 &&& 31)) (fT_tickets β)), .int (nI ((fL_low x (fT_tickets β)).toNatClampNeg)), .ref ax]) (by rw [← hU.1]) ?_
                refine g_st (st1 := [.int (nI ((fL_low (v >>> (4 &&& 31)) (fT_tickets β)).toNatClampNeg)), .int (nI ((fL_low x (fT_tickets β)).toNatClampNeg)), .ref ax]) (by rw [← hT.1]) ?_
                refine g_callS C (cs1 := [wX ax (bo 0) (tr 0) (ac 0) (ah 0) (at_ 0), wB E bo β, wB E tr τ, wC E ac γ, wH E ah bd η, wT E at_ θ, wB E (bd 2) (σ 2), wB E (bd 3) (σ 3), wB E (bd 4) (σ 4), wB E (bd 5) (σ 5), wB E (bd 6) (σ 6), wB E (bd 7) (σ 7), wB E (bd 8) (σ 8), wB E (bd 9) (σ 9)]) (st1 := [.int (b2i (fL_reaches β ((fL_low x (fT_tickets β)).toNatClampNeg) ((fL_low (v >>> (4 &&& 31)) (fT_tickets β)).toNatClampNeg)))]) [.ref ax, .int (nI ((fL_low x (fT_tickets β)).toNatClampNeg)), .int (nI ((fL_low (v >>> (4 &&& 31)) (fT_tickets β)).toNatClampNeg))] [0, 1, 2, 3, 4, 5, 6, 7, 8, 9, 10, 11, 12, 13] (kL_reaches l E ax bo β tr τ ac γ ah bd η σ at_ θ hv ((fL_low x (fT_tickets β)).toNatClampNeg) (by omega) ((fL_low (v >>> (4 &&& 31)) (fT_tickets β)).toNatClampNeg) (by omega)) caL_reaches q3_70 rfl ⟨Nat.le_of_ble_eq_true rfl, Nat.le_of_ble_eq_true rfl⟩ ⟨Nat.zero_le _, Nat.zero_le _⟩ (by decide) rfl rfl rfl rfl (Nat.le_of_ble_eq_true rfl) dL_act_171 rfl ?_
                refine g_ifB_eq C 179 dL_act_174 (by decide) (fun c_16 => ?_) (fun c_16 => ?_)
                · skip
                  have hr9 := c_16
                  refine g_aload_n C dL_act_179 rfl 4 rfl ?_
                  refine g_iload C dL_act_180 2 rfl ?_
                  refine g_iload C dL_act_182 0 rfl ?_
                  refine g_st (st1 := [.int (fL_low x (fT_tickets β)), .int (nI ((fL_low (v >>> (4 &&& 31)) (fT_tickets β)).toNatClampNeg)), .ref ax]) (by rw [← hT.1]) ?_
                  refine g_st (st1 := [.int (nI ((fL_low x (fT_tickets β)).toNatClampNeg)), .int (nI ((fL_low (v >>> (4 &&& 31)) (fT_tickets β)).toNatClampNeg)), .ref ax]) (by rw [← hU.1]) ?_
                  refine g_callV C (cs1 := [wX ax (bo 0) (tr 0) (ac 0) (ah 0) (at_ 0), wB E bo ((fT_need β η σ ((fL_low (v >>> (4 &&& 31)) (fT_tickets β)).toNatClampNeg) ((fL_low x (fT_tickets β)).toNatClampNeg)).2.1), wB E tr τ, wC E ac γ, wH E ah bd ((fT_need β η σ ((fL_low (v >>> (4 &&& 31)) (fT_tickets β)).toNatClampNeg) ((fL_low x (fT_tickets β)).toNatClampNeg)).2.2.1), wT E at_ θ, wB E (bd 2) ((fT_need β η σ ((fL_low (v >>> (4 &&& 31)) (fT_tickets β)).toNatClampNeg) ((fL_low x (fT_tickets β)).toNatClampNeg)).2.2.2 2), wB E (bd 3) ((fT_need β η σ ((fL_low (v >>> (4 &&& 31)) (fT_tickets β)).toNatClampNeg) ((fL_low x (fT_tickets β)).toNatClampNeg)).2.2.2 3), wB E (bd 4) ((fT_need β η σ ((fL_low (v >>> (4 &&& 31)) (fT_tickets β)).toNatClampNeg) ((fL_low x (fT_tickets β)).toNatClampNeg)).2.2.2 4), wB E (bd 5) ((fT_need β η σ ((fL_low (v >>> (4 &&& 31)) (fT_tickets β)).toNatClampNeg) ((fL_low x (fT_tickets β)).toNatClampNeg)).2.2.2 5), wB E (bd 6) ((fT_need β η σ ((fL_low (v >>> (4 &&& 31)) (fT_tickets β)).toNatClampNeg) ((fL_low x (fT_tickets β)).toNatClampNeg)).2.2.2 6), wB E (bd 7) ((fT_need β η σ ((fL_low (v >>> (4 &&& 31)) (fT_tickets β)).toNatClampNeg) ((fL_low x (fT_tickets β)).toNatClampNeg)).2.2.2 7), wB E (bd 8) ((fT_need β η σ ((fL_low (v >>> (4 &&& 31)) (fT_tickets β)).toNatClampNeg) ((fL_low x (fT_tickets β)).toNatClampNeg)).2.2.2 8), wB E (bd 9) ((fT_need β η σ ((fL_low (v >>> (4 &&& 31)) (fT_tickets β)).toNatClampNeg) ((fL_low x (fT_tickets β)).toNatClampNeg)).2.2.2 9)]) (st1 := [.int ((fT_need β η σ ((fL_low (v >>> (4 &&& 31)) (fT_tickets β)).toNatClampNeg) ((fL_low x (fT_tickets β)).toNatClampNeg)).1)]) [.int (nI ((fL_low (v >>> (4 &&& 31)) (fT_tickets β)).toNatClampNeg)), .int (nI ((fL_low x (fT_tickets β)).toNatClampNeg))] [0, 1, 2, 3, 4, 5, 6, 7, 8, 9, 10, 11, 12, 13] (kT_need l E ax bo β tr τ ac γ ah bd η σ at_ θ hv hvh ((fL_low (v >>> (4 &&& 31)) (fT_tickets β)).toNatClampNeg) (by omega) ((fL_low x (fT_tickets β)).toNatClampNeg) (by omega) (hasT_n hv hT.2) (hasT_n hv hU.2) (fun q => he9 (hT.1.trans (q.trans hU.1.symm))) (need_of hI hT.2 hU.2 (fun q => he9 (hT.1.trans ((congrArg nI q).trans hU.1.symm))) hs9 hn9 hr9)) caX6_need q3_73 rfl ⟨Nat.le_of_ble_eq_true rfl, Nat.le_of_ble_eq_true rfl⟩ ⟨Nat.zero_le _, Nat.zero_le _⟩ 0 0 rfl rfl rfl rfl (by decide) rfl rfl rfl rfl (Nat.le_of_ble_eq_true rfl) dL_act_184 rfl ?_
                  refine g_pop C dL_act_187 rfl ?_
                  refine g_iconst C (v := 1) dL_act_188 (by decide) ?_
                  have e_17 : fL_act β η σ v x = (true, (fT_need β η σ ((fL_low (v >>> (4 &&& 31)) (fT_tickets β)).toNatClampNeg) ((fL_low x (fT_tickets β)).toNatClampNeg)).2.1, (fT_need β η σ ((fL_low (v >>> (4 &&& 31)) (fT_tickets β)).toNatClampNeg) ((fL_low x (fT_tickets β)).toNatClampNeg)).2.2.1, (fT_need β η σ ((fL_low (v >>> (4 &&& 31)) (fT_tickets β)).toNatClampNeg) ((fL_low x (fT_tickets β)).toNatClampNeg)).2.2.2) := by rw [fL_act]; rw [if_neg c_1, if_neg c_2, if_pos c_6, if_neg c_8, if_neg c_10, if_neg c_12, if_neg (ne_true_of_eq_false c_14), if_neg (ne_true_of_eq_false c_16)]
                  exact g_zret (b := true) C hE (by rw [e_17]) rfl (by rw [e_17] <;> rfl) dL_act_189
                · skip
                  refine g_iconst C (v := 0) dL_act_177 (by decide) ?_
                  have e_18 : fL_act β η σ v x = (false, β, η, σ) := by rw [fL_act]; rw [if_neg c_1, if_neg c_2, if_pos c_6, if_neg c_8, if_neg c_10, if_neg c_12, if_neg (ne_true_of_eq_false c_14), if_pos c_16]
                  exact g_zret (b := false) C hE (by rw [e_18]) rfl (by rw [e_18] <;> rfl) dL_act_178
      · exact absurd c_7 c_1
    refine (Decidable.em ((v &&& 15) = 2)).elim (fun c_19 => ?_) (fun c_19 => ?_)
    · refine g_tblK C 118 dL_act_33 c_19 (by decide) (by decide) rfl (by decide) ?_
      refine g_iload_n C dL_act_118 rfl 2 rfl ?_
      refine g_if_ne C 126 dL_act_119 (by decide) (fun c_20 => ?_) (fun c_20 => ?_)
      · skip
        refine g_iload_n C dL_act_126 rfl 5 rfl ?_
        refine g_iload_n C dL_act_127 rfl 2 rfl ?_
        refine g_callS C (cs1 := [wX ax (bo 0) (tr 0) (ac 0) (ah 0) (at_ 0), wB E bo β, wB E tr τ, wC E ac γ, wH E ah bd η, wT E at_ θ, wB E (bd 2) (σ 2), wB E (bd 3) (σ 3), wB E (bd 4) (σ 4), wB E (bd 5) (σ 5), wB E (bd 6) (σ 6), wB E (bd 7) (σ 7), wB E (bd 8) (σ 8), wB E (bd 9) (σ 9)]) (st1 := [.int (fL_low x (fT_tickets β))]) [.int x, .int (fT_tickets β)] [] (kL_low l E x (fT_tickets β) hc9) caL_low q3_26 rfl ⟨Nat.le_of_ble_eq_true rfl, Nat.le_of_ble_eq_true rfl⟩ ⟨Nat.zero_le _, Nat.zero_le _⟩ (by decide) rfl rfl rfl rfl (Nat.le_of_ble_eq_true rfl) dL_act_128 rfl ?_
        refine g_istore C (lv1 := [(6, .int (fL_low x (fT_tickets β))), (5, .int (fL_low x 5)), (4, .int (fL_low (v >>> (4 &&& 31)) (fT_tickets β))), (3, .int (fT_tickets β)), (0, .ref ax), (1, .int v), (2, .int x)]) dL_act_131 (by decide) rfl ?_
        refine g_iload C dL_act_133 2 rfl ?_
        refine g_if_lt C 177 dL_act_135 (by decide) (fun c_21 => ?_) (fun c_21 => ?_)
        · skip
          refine g_iconst C (v := 0) dL_act_177 (by decide) ?_
          have e_22 : fL_act β η σ v x = (false, β, η, σ) := by rw [fL_act]; rw [if_neg c_1, if_neg c_2, if_neg c_6, if_pos c_19, if_pos c_21]
          exact g_zret (b := false) C hE (by rw [e_22]) rfl (by rw [e_22] <;> rfl) dL_act_178
        · skip
          refine g_iload C dL_act_138 2 rfl ?_
          refine g_iload C dL_act_140 0 rfl ?_
          refine g_icmp_eq C 177 dL_act_142 (by decide) (fun c_23 => ?_) (fun c_23 => ?_)
          · skip
            refine g_iconst C (v := 0) dL_act_177 (by decide) ?_
            have e_24 : fL_act β η σ v x = (false, β, η, σ) := by rw [fL_act]; rw [if_neg c_1, if_neg c_2, if_neg c_6, if_pos c_19, if_neg c_21, if_pos c_23]
            exact g_zret (b := false) C hE (by rw [e_24]) rfl (by rw [e_24] <;> rfl) dL_act_178
          · skip
            have he9 := c_23
            refine g_aload_n C dL_act_145 rfl 4 rfl ?_
            refine g_iload C dL_act_146 2 rfl ?_
            refine g_st (st1 := [.int (nI ((fL_low (v >>> (4 &&& 31)) (fT_tickets β)).toNatClampNeg)), .ref ax]) (by rw [← hT.1]) ?_
            refine g_callV C (cs1 := [wX ax (bo 0) (tr 0) (ac 0) (ah 0) (at_ 0), wB E bo β, wB E tr τ, wC E ac γ, wH E ah bd η, wT E at_ θ, wB E (bd 2) (σ 2), wB E (bd 3) (σ 3), wB E (bd 4) (σ 4), wB E (bd 5) (σ 5), wB E (bd 6) (σ 6), wB E (bd 7) (σ 7), wB E (bd 8) (σ 8), wB E (bd 9) (σ 9)]) (st1 := [.int (fT_stateOf β ((fL_low (v >>> (4 &&& 31)) (fT_tickets β)).toNatClampNeg))]) [.int (nI ((fL_low (v >>> (4 &&& 31)) (fT_tickets β)).toNatClampNeg))] [0, 1, 2, 3, 4, 5, 6, 7, 8, 9, 10, 11, 12, 13] (kT_stateOf l E ax bo β tr τ ac γ ah bd η σ at_ θ hv ((fL_low (v >>> (4 &&& 31)) (fT_tickets β)).toNatClampNeg) (by omega) (hasT_n hv hT.2)) caX6_stateOf q2_193 rfl ⟨Nat.le_of_ble_eq_true rfl, Nat.le_of_ble_eq_true rfl⟩ ⟨Nat.zero_le _, Nat.zero_le _⟩ 0 0 rfl rfl rfl rfl (by decide) rfl rfl rfl rfl (Nat.le_of_ble_eq_true rfl) dL_act_148 rfl ?_
            refine g_iconst C (v := 2) dL_act_151 (by decide) ?_
            refine g_icmp_gt C 177 dL_act_152 (by decide) (fun c_25 => ?_) (fun c_25 => ?_)
            · skip
              refine g_iconst C (v := 0) dL_act_177 (by decide) ?_
              have e_26 : fL_act β η σ v x = (false, β, η, σ) := by rw [fL_act]; rw [if_neg c_1, if_neg c_2, if_neg c_6, if_pos c_19, if_neg c_21, if_neg c_23, if_pos c_25]
              exact g_zret (b := false) C hE (by rw [e_26]) rfl (by rw [e_26] <;> rfl) dL_act_178
            · skip
              have hs9 := c_25
              refine g_aload_n C dL_act_155 rfl 4 rfl ?_
              refine g_iload C dL_act_156 2 rfl ?_
              refine g_iload C dL_act_158 0 rfl ?_
              refine g_st (st1 := [.int (fL_low x (fT_tickets β)), .int (nI ((fL_low (v >>> (4 &&& 31)) (fT_tickets β)).toNatClampNeg)), .ref ax]) (by rw [← hT.1]) ?_
              refine g_st (st1 := [.int (nI ((fL_low x (fT_tickets β)).toNatClampNeg)), .int (nI ((fL_low (v >>> (4 &&& 31)) (fT_tickets β)).toNatClampNeg)), .ref ax]) (by rw [← hU.1]) ?_
              refine g_callV C (cs1 := [wX ax (bo 0) (tr 0) (ac 0) (ah 0) (at_ 0), wB E bo β, wB E tr τ, wC E ac γ, wH E ah bd η, wT E at_ θ, wB E (bd 2) (σ 2), wB E (bd 3) (σ 3), wB E (bd 4) (σ 4), wB E (bd 5) (σ 5), wB E (bd 6) (σ 6), wB E (bd 7) (σ 7), wB E (bd 8) (σ 8), wB E (bd 9) (σ 9)]) (st1 := [.int (b2i (fT_needs β ((fL_low (v >>> (4 &&& 31)) (fT_tickets β)).toNatClampNeg) ((fL_low x (fT_tickets β)).toNatClampNeg)))]) [.int (nI ((fL_low (v >>> (4 &&& 31)) (fT_tickets β)).toNatClampNeg)), .int (nI ((fL_low x (fT_tickets β)).toNatClampNeg))] [0, 1, 2, 3, 4, 5, 6, 7, 8, 9, 10, 11, 12, 13] (kT_needs l E ax bo β tr τ ac γ ah bd η σ at_ θ hv ((fL_low (v >>> (4 &&& 31)) (fT_tickets β)).toNatClampNeg) (by omega) ((fL_low x (fT_tickets β)).toNatClampNeg) (by omega) (hasT_n hv hT.2) (hasT_n hv hU.2)) caX6_needs q3_65 rfl ⟨Nat.le_of_ble_eq_true rfl, Nat.le_of_ble_eq_true rfl⟩ ⟨Nat.zero_le _, Nat.zero_le _⟩ 0 0 rfl rfl rfl rfl (by decide) rfl rfl rfl rfl (Nat.le_of_ble_eq_true rfl) dL_act_160 rfl ?_
              refine g_ifB_ne C 177 dL_act_163 (by decide) (fun c_27 => ?_) (fun c_27 => ?_)
              · skip
                refine g_iconst C (v := 0) dL_act_177 (by decide) ?_
                have e_28 : fL_act β η σ v x = (false, β, η, σ) := by rw [fL_act]; rw [if_neg c_1, if_neg c_2, if_neg c_6, if_pos c_19, if_neg c_21, if_neg c_23, if_neg c_25, if_pos c_27]
                exact g_zret (b := false) C hE (by rw [e_28]) rfl (by rw [e_28] <;> rfl) dL_act_178
              · skip
                have hn9 := c_27
                refine g_aload_n C dL_act_166 rfl 4 rfl ?_
                refine g_iload C dL_act_167 0 rfl ?_
                refine g_iload C dL_act_169 2 rfl ?_
                refine g_st (st1 := [.int (fL_low (v >>> (4 &&& 31)) (fT_tickets β)), .int (nI ((fL_low x (fT_tickets β)).toNatClampNeg)), .ref ax]) (by rw [← hU.1]) ?_
                refine g_st (st1 := [.int (nI ((fL_low (v >>> (4 &&& 31)) (fT_tickets β)).toNatClampNeg)), .int (nI ((fL_low x (fT_tickets β)).toNatClampNeg)), .ref ax]) (by rw [← hT.1]) ?_
                refine g_callS C (cs1 := [wX ax (bo 0) (tr 0) (ac 0) (ah 0) (at_ 0), wB E bo β, wB E tr τ, wC E ac γ, wH E ah bd η, wT E at_ θ, wB E (bd 2) (σ 2), wB E (bd 3) (σ 3), wB E (bd 4) (σ 4), wB E (bd 5) (σ 5), wB E (bd 6) (σ 6), wB E (bd 7) (σ 7), wB E (bd 8) (σ 8), wB E (bd 9) (σ 9)]) (st1 := [.int (b2i (fL_reaches β ((fL_low x (fT_tickets β)).toNatClampNeg) ((fL_low (v >>> (4 &&& 31)) (fT_tickets β)).toNatClampNeg)))]) [.ref ax, .int (nI ((fL_low x (fT_tickets β)).toNatClampNeg)), .int (nI ((fL_low (v >>> (4 &&& 31)) (fT_tickets β)).toNatClampNeg))] [0, 1, 2, 3, 4, 5, 6, 7, 8, 9, 10, 11, 12, 13] (kL_reaches l E ax bo β tr τ ac γ ah bd η σ at_ θ hv ((fL_low x (fT_tickets β)).toNatClampNeg) (by omega) ((fL_low (v >>> (4 &&& 31)) (fT_tickets β)).toNatClampNeg) (by omega)) caL_reaches q3_70 rfl ⟨Nat.le_of_ble_eq_true rfl, Nat.le_of_ble_eq_true rfl⟩ ⟨Nat.zero_le _, Nat.zero_le _⟩ (by decide) rfl rfl rfl rfl (Nat.le_of_ble_eq_true rfl) dL_act_171 rfl ?_
                refine g_ifB_eq C 179 dL_act_174 (by decide) (fun c_29 => ?_) (fun c_29 => ?_)
                · skip
                  have hr9 := c_29
                  refine g_aload_n C dL_act_179 rfl 4 rfl ?_
                  refine g_iload C dL_act_180 2 rfl ?_
                  refine g_iload C dL_act_182 0 rfl ?_
                  refine g_st (st1 := [.int (fL_low x (fT_tickets β)), .int (nI ((fL_low (v >>> (4 &&& 31)) (fT_tickets β)).toNatClampNeg)), .ref ax]) (by rw [← hT.1]) ?_
                  refine g_st (st1 := [.int (nI ((fL_low x (fT_tickets β)).toNatClampNeg)), .int (nI ((fL_low (v >>> (4 &&& 31)) (fT_tickets β)).toNatClampNeg)), .ref ax]) (by rw [← hU.1]) ?_
                  refine g_callV C (cs1 := [wX ax (bo 0) (tr 0) (ac 0) (ah 0) (at_ 0), wB E bo ((fT_need β η σ ((fL_low (v >>> (4 &&& 31)) (fT_tickets β)).toNatClampNeg) ((fL_low x (fT_tickets β)).toNatClampNeg)).2.1), wB E tr τ, wC E ac γ, wH E ah bd ((fT_need β η σ ((fL_low (v >>> (4 &&& 31)) (fT_tickets β)).toNatClampNeg) ((fL_low x (fT_tickets β)).toNatClampNeg)).2.2.1), wT E at_ θ, wB E (bd 2) ((fT_need β η σ ((fL_low (v >>> (4 &&& 31)) (fT_tickets β)).toNatClampNeg) ((fL_low x (fT_tickets β)).toNatClampNeg)).2.2.2 2), wB E (bd 3) ((fT_need β η σ ((fL_low (v >>> (4 &&& 31)) (fT_tickets β)).toNatClampNeg) ((fL_low x (fT_tickets β)).toNatClampNeg)).2.2.2 3), wB E (bd 4) ((fT_need β η σ ((fL_low (v >>> (4 &&& 31)) (fT_tickets β)).toNatClampNeg) ((fL_low x (fT_tickets β)).toNatClampNeg)).2.2.2 4), wB E (bd 5) ((fT_need β η σ ((fL_low (v >>> (4 &&& 31)) (fT_tickets β)).toNatClampNeg) ((fL_low x (fT_tickets β)).toNatClampNeg)).2.2.2 5), wB E (bd 6) ((fT_need β η σ ((fL_low (v >>> (4 &&& 31)) (fT_tickets β)).toNatClampNeg) ((fL_low x (fT_tickets β)).toNatClampNeg)).2.2.2 6), wB E (bd 7) ((fT_need β η σ ((fL_low (v >>> (4 &&& 31)) (fT_tickets β)).toNatClampNeg) ((fL_low x (fT_tickets β)).toNatClampNeg)).2.2.2 7), wB E (bd 8) ((fT_need β η σ ((fL_low (v >>> (4 &&& 31)) (fT_tickets β)).toNatClampNeg) ((fL_low x (fT_tickets β)).toNatClampNeg)).2.2.2 8), wB E (bd 9) ((fT_need β η σ ((fL_low (v >>> (4 &&& 31)) (fT_tickets β)).toNatClampNeg) ((fL_low x (fT_tickets β)).toNatClampNeg)).2.2.2 9)]) (st1 := [.int ((fT_need β η σ ((fL_low (v >>> (4 &&& 31)) (fT_tickets β)).toNatClampNeg) ((fL_low x (fT_tickets β)).toNatClampNeg)).1)]) [.int (nI ((fL_low (v >>> (4 &&& 31)) (fT_tickets β)).toNatClampNeg)), .int (nI ((fL_low x (fT_tickets β)).toNatClampNeg))] [0, 1, 2, 3, 4, 5, 6, 7, 8, 9, 10, 11, 12, 13] (kT_need l E ax bo β tr τ ac γ ah bd η σ at_ θ hv hvh ((fL_low (v >>> (4 &&& 31)) (fT_tickets β)).toNatClampNeg) (by omega) ((fL_low x (fT_tickets β)).toNatClampNeg) (by omega) (hasT_n hv hT.2) (hasT_n hv hU.2) (fun q => he9 (hT.1.trans (q.trans hU.1.symm))) (need_of hI hT.2 hU.2 (fun q => he9 (hT.1.trans ((congrArg nI q).trans hU.1.symm))) hs9 hn9 hr9)) caX6_need q3_73 rfl ⟨Nat.le_of_ble_eq_true rfl, Nat.le_of_ble_eq_true rfl⟩ ⟨Nat.zero_le _, Nat.zero_le _⟩ 0 0 rfl rfl rfl rfl (by decide) rfl rfl rfl rfl (Nat.le_of_ble_eq_true rfl) dL_act_184 rfl ?_
                  refine g_pop C dL_act_187 rfl ?_
                  refine g_iconst C (v := 1) dL_act_188 (by decide) ?_
                  have e_30 : fL_act β η σ v x = (true, (fT_need β η σ ((fL_low (v >>> (4 &&& 31)) (fT_tickets β)).toNatClampNeg) ((fL_low x (fT_tickets β)).toNatClampNeg)).2.1, (fT_need β η σ ((fL_low (v >>> (4 &&& 31)) (fT_tickets β)).toNatClampNeg) ((fL_low x (fT_tickets β)).toNatClampNeg)).2.2.1, (fT_need β η σ ((fL_low (v >>> (4 &&& 31)) (fT_tickets β)).toNatClampNeg) ((fL_low x (fT_tickets β)).toNatClampNeg)).2.2.2) := by rw [fL_act]; rw [if_neg c_1, if_neg c_2, if_neg c_6, if_pos c_19, if_neg c_21, if_neg c_23, if_neg c_25, if_neg (ne_true_of_eq_false c_27), if_neg (ne_true_of_eq_false c_29)]
                  exact g_zret (b := true) C hE (by rw [e_30]) rfl (by rw [e_30] <;> rfl) dL_act_189
                · skip
                  refine g_iconst C (v := 0) dL_act_177 (by decide) ?_
                  have e_31 : fL_act β η σ v x = (false, β, η, σ) := by rw [fL_act]; rw [if_neg c_1, if_neg c_2, if_neg c_6, if_pos c_19, if_neg c_21, if_neg c_23, if_neg c_25, if_neg (ne_true_of_eq_false c_27), if_pos c_29]
                  exact g_zret (b := false) C hE (by rw [e_31]) rfl (by rw [e_31] <;> rfl) dL_act_178
      · exact absurd c_20 c_1
    refine (Decidable.em ((v &&& 15) = 3)).elim (fun c_32 => ?_) (fun c_32 => ?_)
    · refine g_tblK C 118 dL_act_33 c_32 (by decide) (by decide) rfl (by decide) ?_
      refine g_iload_n C dL_act_118 rfl 2 rfl ?_
      refine g_if_ne C 126 dL_act_119 (by decide) (fun c_33 => ?_) (fun c_33 => ?_)
      · skip
        refine g_iload_n C dL_act_126 rfl 5 rfl ?_
        refine g_iload_n C dL_act_127 rfl 2 rfl ?_
        refine g_callS C (cs1 := [wX ax (bo 0) (tr 0) (ac 0) (ah 0) (at_ 0), wB E bo β, wB E tr τ, wC E ac γ, wH E ah bd η, wT E at_ θ, wB E (bd 2) (σ 2), wB E (bd 3) (σ 3), wB E (bd 4) (σ 4), wB E (bd 5) (σ 5), wB E (bd 6) (σ 6), wB E (bd 7) (σ 7), wB E (bd 8) (σ 8), wB E (bd 9) (σ 9)]) (st1 := [.int (fL_low x (fT_tickets β))]) [.int x, .int (fT_tickets β)] [] (kL_low l E x (fT_tickets β) hc9) caL_low q3_26 rfl ⟨Nat.le_of_ble_eq_true rfl, Nat.le_of_ble_eq_true rfl⟩ ⟨Nat.zero_le _, Nat.zero_le _⟩ (by decide) rfl rfl rfl rfl (Nat.le_of_ble_eq_true rfl) dL_act_128 rfl ?_
        refine g_istore C (lv1 := [(6, .int (fL_low x (fT_tickets β))), (5, .int (fL_low x 5)), (4, .int (fL_low (v >>> (4 &&& 31)) (fT_tickets β))), (3, .int (fT_tickets β)), (0, .ref ax), (1, .int v), (2, .int x)]) dL_act_131 (by decide) rfl ?_
        refine g_iload C dL_act_133 2 rfl ?_
        refine g_if_lt C 177 dL_act_135 (by decide) (fun c_34 => ?_) (fun c_34 => ?_)
        · skip
          refine g_iconst C (v := 0) dL_act_177 (by decide) ?_
          have e_35 : fL_act β η σ v x = (false, β, η, σ) := by rw [fL_act]; rw [if_neg c_1, if_neg c_2, if_neg c_6, if_neg c_19, if_pos c_32, if_pos c_34]
          exact g_zret (b := false) C hE (by rw [e_35]) rfl (by rw [e_35] <;> rfl) dL_act_178
        · skip
          refine g_iload C dL_act_138 2 rfl ?_
          refine g_iload C dL_act_140 0 rfl ?_
          refine g_icmp_eq C 177 dL_act_142 (by decide) (fun c_36 => ?_) (fun c_36 => ?_)
          · skip
            refine g_iconst C (v := 0) dL_act_177 (by decide) ?_
            have e_37 : fL_act β η σ v x = (false, β, η, σ) := by rw [fL_act]; rw [if_neg c_1, if_neg c_2, if_neg c_6, if_neg c_19, if_pos c_32, if_neg c_34, if_pos c_36]
            exact g_zret (b := false) C hE (by rw [e_37]) rfl (by rw [e_37] <;> rfl) dL_act_178
          · skip
            have he9 := c_36
            refine g_aload_n C dL_act_145 rfl 4 rfl ?_
            refine g_iload C dL_act_146 2 rfl ?_
            refine g_st (st1 := [.int (nI ((fL_low (v >>> (4 &&& 31)) (fT_tickets β)).toNatClampNeg)), .ref ax]) (by rw [← hT.1]) ?_
            refine g_callV C (cs1 := [wX ax (bo 0) (tr 0) (ac 0) (ah 0) (at_ 0), wB E bo β, wB E tr τ, wC E ac γ, wH E ah bd η, wT E at_ θ, wB E (bd 2) (σ 2), wB E (bd 3) (σ 3), wB E (bd 4) (σ 4), wB E (bd 5) (σ 5), wB E (bd 6) (σ 6), wB E (bd 7) (σ 7), wB E (bd 8) (σ 8), wB E (bd 9) (σ 9)]) (st1 := [.int (fT_stateOf β ((fL_low (v >>> (4 &&& 31)) (fT_tickets β)).toNatClampNeg))]) [.int (nI ((fL_low (v >>> (4 &&& 31)) (fT_tickets β)).toNatClampNeg))] [0, 1, 2, 3, 4, 5, 6, 7, 8, 9, 10, 11, 12, 13] (kT_stateOf l E ax bo β tr τ ac γ ah bd η σ at_ θ hv ((fL_low (v >>> (4 &&& 31)) (fT_tickets β)).toNatClampNeg) (by omega) (hasT_n hv hT.2)) caX6_stateOf q2_193 rfl ⟨Nat.le_of_ble_eq_true rfl, Nat.le_of_ble_eq_true rfl⟩ ⟨Nat.zero_le _, Nat.zero_le _⟩ 0 0 rfl rfl rfl rfl (by decide) rfl rfl rfl rfl (Nat.le_of_ble_eq_true rfl) dL_act_148 rfl ?_
            refine g_iconst C (v := 2) dL_act_151 (by decide) ?_
            refine g_icmp_gt C 177 dL_act_152 (by decide) (fun c_38 => ?_) (fun c_38 => ?_)
            · skip
              refine g_iconst C (v := 0) dL_act_177 (by decide) ?_
              have e_39 : fL_act β η σ v x = (false, β, η, σ) := by rw [fL_act]; rw [if_neg c_1, if_neg c_2, if_neg c_6, if_neg c_19, if_pos c_32, if_neg c_34, if_neg c_36, if_pos c_38]
              exact g_zret (b := false) C hE (by rw [e_39]) rfl (by rw [e_39] <;> rfl) dL_act_178
            · skip
              have hs9 := c_38
              refine g_aload_n C dL_act_155 rfl 4 rfl ?_
              refine g_iload C dL_act_156 2 rfl ?_
              refine g_iload C dL_act_158 0 rfl ?_
              refine g_st (st1 := [.int (fL_low x (fT_tickets β)), .int (nI ((fL_low (v >>> (4 &&& 31)) (fT_tickets β)).toNatClampNeg)), .ref ax]) (by rw [← hT.1]) ?_
              refine g_st (st1 := [.int (nI ((fL_low x (fT_tickets β)).toNatClampNeg)), .int (nI ((fL_low (v >>> (4 &&& 31)) (fT_tickets β)).toNatClampNeg)), .ref ax]) (by rw [← hU.1]) ?_
              refine g_callV C (cs1 := [wX ax (bo 0) (tr 0) (ac 0) (ah 0) (at_ 0), wB E bo β, wB E tr τ, wC E ac γ, wH E ah bd η, wT E at_ θ, wB E (bd 2) (σ 2), wB E (bd 3) (σ 3), wB E (bd 4) (σ 4), wB E (bd 5) (σ 5), wB E (bd 6) (σ 6), wB E (bd 7) (σ 7), wB E (bd 8) (σ 8), wB E (bd 9) (σ 9)]) (st1 := [.int (b2i (fT_needs β ((fL_low (v >>> (4 &&& 31)) (fT_tickets β)).toNatClampNeg) ((fL_low x (fT_tickets β)).toNatClampNeg)))]) [.int (nI ((fL_low (v >>> (4 &&& 31)) (fT_tickets β)).toNatClampNeg)), .int (nI ((fL_low x (fT_tickets β)).toNatClampNeg))] [0, 1, 2, 3, 4, 5, 6, 7, 8, 9, 10, 11, 12, 13] (kT_needs l E ax bo β tr τ ac γ ah bd η σ at_ θ hv ((fL_low (v >>> (4 &&& 31)) (fT_tickets β)).toNatClampNeg) (by omega) ((fL_low x (fT_tickets β)).toNatClampNeg) (by omega) (hasT_n hv hT.2) (hasT_n hv hU.2)) caX6_needs q3_65 rfl ⟨Nat.le_of_ble_eq_true rfl, Nat.le_of_ble_eq_true rfl⟩ ⟨Nat.zero_le _, Nat.zero_le _⟩ 0 0 rfl rfl rfl rfl (by decide) rfl rfl rfl rfl (Nat.le_of_ble_eq_true rfl) dL_act_160 rfl ?_
              refine g_ifB_ne C 177 dL_act_163 (by decide) (fun c_40 => ?_) (fun c_40 => ?_)
              · skip
                refine g_iconst C (v := 0) dL_act_177 (by decide) ?_
                have e_41 : fL_act β η σ v x = (false, β, η, σ) := by rw [fL_act]; rw [if_neg c_1, if_neg c_2, if_neg c_6, if_neg c_19, if_pos c_32, if_neg c_34, if_neg c_36, if_neg c_38, if_pos c_40]
                exact g_zret (b := false) C hE (by rw [e_41]) rfl (by rw [e_41] <;> rfl) dL_act_178
              · skip
                have hn9 := c_40
                refine g_aload_n C dL_act_166 rfl 4 rfl ?_
                refine g_iload C dL_act_167 0 rfl ?_
                refine g_iload C dL_act_169 2 rfl ?_
                refine g_st (st1 := [.int (fL_low (v >>> (4 &&& 31)) (fT_tickets β)), .int (nI ((fL_low x (fT_tickets β)).toNatClampNeg)), .ref ax]) (by rw [← hU.1]) ?_
                refine g_st (st1 := [.int (nI ((fL_low (v >>> (4 &&& 31)) (fT_tickets β)).toNatClampNeg)), .int (nI ((fL_low x (fT_tickets β)).toNatClampNeg)), .ref ax]) (by rw [← hT.1]) ?_
                refine g_callS C (cs1 := [wX ax (bo 0) (tr 0) (ac 0) (ah 0) (at_ 0), wB E bo β, wB E tr τ, wC E ac γ, wH E ah bd η, wT E at_ θ, wB E (bd 2) (σ 2), wB E (bd 3) (σ 3), wB E (bd 4) (σ 4), wB E (bd 5) (σ 5), wB E (bd 6) (σ 6), wB E (bd 7) (σ 7), wB E (bd 8) (σ 8), wB E (bd 9) (σ 9)]) (st1 := [.int (b2i (fL_reaches β ((fL_low x (fT_tickets β)).toNatClampNeg) ((fL_low (v >>> (4 &&& 31)) (fT_tickets β)).toNatClampNeg)))]) [.ref ax, .int (nI ((fL_low x (fT_tickets β)).toNatClampNeg)), .int (nI ((fL_low (v >>> (4 &&& 31)) (fT_tickets β)).toNatClampNeg))] [0, 1, 2, 3, 4, 5, 6, 7, 8, 9, 10, 11, 12, 13] (kL_reaches l E ax bo β tr τ ac γ ah bd η σ at_ θ hv ((fL_low x (fT_tickets β)).toNatClampNeg) (by omega) ((fL_low (v >>> (4 &&& 31)) (fT_tickets β)).toNatClampNeg) (by omega)) caL_reaches q3_70 rfl ⟨Nat.le_of_ble_eq_true rfl, Nat.le_of_ble_eq_true rfl⟩ ⟨Nat.zero_le _, Nat.zero_le _⟩ (by decide) rfl rfl rfl rfl (Nat.le_of_ble_eq_true rfl) dL_act_171 rfl ?_
                refine g_ifB_eq C 179 dL_act_174 (by decide) (fun c_42 => ?_) (fun c_42 => ?_)
                · skip
                  have hr9 := c_42
                  refine g_aload_n C dL_act_179 rfl 4 rfl ?_
                  refine g_iload C dL_act_180 2 rfl ?_
                  refine g_iload C dL_act_182 0 rfl ?_
                  refine g_st (st1 := [.int (fL_low x (fT_tickets β)), .int (nI ((fL_low (v >>> (4 &&& 31)) (fT_tickets β)).toNatClampNeg)), .ref ax]) (by rw [← hT.1]) ?_
                  refine g_st (st1 := [.int (nI ((fL_low x (fT_tickets β)).toNatClampNeg)), .int (nI ((fL_low (v >>> (4 &&& 31)) (fT_tickets β)).toNatClampNeg)), .ref ax]) (by rw [← hU.1]) ?_
                  refine g_callV C (cs1 := [wX ax (bo 0) (tr 0) (ac 0) (ah 0) (at_ 0), wB E bo ((fT_need β η σ ((fL_low (v >>> (4 &&& 31)) (fT_tickets β)).toNatClampNeg) ((fL_low x (fT_tickets β)).toNatClampNeg)).2.1), wB E tr τ, wC E ac γ, wH E ah bd ((fT_need β η σ ((fL_low (v >>> (4 &&& 31)) (fT_tickets β)).toNatClampNeg) ((fL_low x (fT_tickets β)).toNatClampNeg)).2.2.1), wT E at_ θ, wB E (bd 2) ((fT_need β η σ ((fL_low (v >>> (4 &&& 31)) (fT_tickets β)).toNatClampNeg) ((fL_low x (fT_tickets β)).toNatClampNeg)).2.2.2 2), wB E (bd 3) ((fT_need β η σ ((fL_low (v >>> (4 &&& 31)) (fT_tickets β)).toNatClampNeg) ((fL_low x (fT_tickets β)).toNatClampNeg)).2.2.2 3), wB E (bd 4) ((fT_need β η σ ((fL_low (v >>> (4 &&& 31)) (fT_tickets β)).toNatClampNeg) ((fL_low x (fT_tickets β)).toNatClampNeg)).2.2.2 4), wB E (bd 5) ((fT_need β η σ ((fL_low (v >>> (4 &&& 31)) (fT_tickets β)).toNatClampNeg) ((fL_low x (fT_tickets β)).toNatClampNeg)).2.2.2 5), wB E (bd 6) ((fT_need β η σ ((fL_low (v >>> (4 &&& 31)) (fT_tickets β)).toNatClampNeg) ((fL_low x (fT_tickets β)).toNatClampNeg)).2.2.2 6), wB E (bd 7) ((fT_need β η σ ((fL_low (v >>> (4 &&& 31)) (fT_tickets β)).toNatClampNeg) ((fL_low x (fT_tickets β)).toNatClampNeg)).2.2.2 7), wB E (bd 8) ((fT_need β η σ ((fL_low (v >>> (4 &&& 31)) (fT_tickets β)).toNatClampNeg) ((fL_low x (fT_tickets β)).toNatClampNeg)).2.2.2 8), wB E (bd 9) ((fT_need β η σ ((fL_low (v >>> (4 &&& 31)) (fT_tickets β)).toNatClampNeg) ((fL_low x (fT_tickets β)).toNatClampNeg)).2.2.2 9)]) (st1 := [.int ((fT_need β η σ ((fL_low (v >>> (4 &&& 31)) (fT_tickets β)).toNatClampNeg) ((fL_low x (fT_tickets β)).toNatClampNeg)).1)]) [.int (nI ((fL_low (v >>> (4 &&& 31)) (fT_tickets β)).toNatClampNeg)), .int (nI ((fL_low x (fT_tickets β)).toNatClampNeg))] [0, 1, 2, 3, 4, 5, 6, 7, 8, 9, 10, 11, 12, 13] (kT_need l E ax bo β tr τ ac γ ah bd η σ at_ θ hv hvh ((fL_low (v >>> (4 &&& 31)) (fT_tickets β)).toNatClampNeg) (by omega) ((fL_low x (fT_tickets β)).toNatClampNeg) (by omega) (hasT_n hv hT.2) (hasT_n hv hU.2) (fun q => he9 (hT.1.trans (q.trans hU.1.symm))) (need_of hI hT.2 hU.2 (fun q => he9 (hT.1.trans ((congrArg nI q).trans hU.1.symm))) hs9 hn9 hr9)) caX6_need q3_73 rfl ⟨Nat.le_of_ble_eq_true rfl, Nat.le_of_ble_eq_true rfl⟩ ⟨Nat.zero_le _, Nat.zero_le _⟩ 0 0 rfl rfl rfl rfl (by decide) rfl rfl rfl rfl (Nat.le_of_ble_eq_true rfl) dL_act_184 rfl ?_
                  refine g_pop C dL_act_187 rfl ?_
                  refine g_iconst C (v := 1) dL_act_188 (by decide) ?_
                  have e_43 : fL_act β η σ v x = (true, (fT_need β η σ ((fL_low (v >>> (4 &&& 31)) (fT_tickets β)).toNatClampNeg) ((fL_low x (fT_tickets β)).toNatClampNeg)).2.1, (fT_need β η σ ((fL_low (v >>> (4 &&& 31)) (fT_tickets β)).toNatClampNeg) ((fL_low x (fT_tickets β)).toNatClampNeg)).2.2.1, (fT_need β η σ ((fL_low (v >>> (4 &&& 31)) (fT_tickets β)).toNatClampNeg) ((fL_low x (fT_tickets β)).toNatClampNeg)).2.2.2) := by rw [fL_act]; rw [if_neg c_1, if_neg c_2, if_neg c_6, if_neg c_19, if_pos c_32, if_neg c_34, if_neg c_36, if_neg c_38, if_neg (ne_true_of_eq_false c_40), if_neg (ne_true_of_eq_false c_42)]
                  exact g_zret (b := true) C hE (by rw [e_43]) rfl (by rw [e_43] <;> rfl) dL_act_189
                · skip
                  refine g_iconst C (v := 0) dL_act_177 (by decide) ?_
                  have e_44 : fL_act β η σ v x = (false, β, η, σ) := by rw [fL_act]; rw [if_neg c_1, if_neg c_2, if_neg c_6, if_neg c_19, if_pos c_32, if_neg c_34, if_neg c_36, if_neg c_38, if_neg (ne_true_of_eq_false c_40), if_pos c_42]
                  exact g_zret (b := false) C hE (by rw [e_44]) rfl (by rw [e_44] <;> rfl) dL_act_178
      · exact absurd c_33 c_1
    refine (Decidable.em ((v &&& 15) = 4)).elim (fun c_45 => ?_) (fun c_45 => ?_)
    · refine g_tblK C 190 dL_act_33 c_45 (by decide) (by decide) rfl (by decide) ?_
      refine g_iload C dL_act_190 1 rfl ?_
      refine g_if_lt C 247 dL_act_192 (by decide) (fun c_46 => ?_) (fun c_46 => ?_)
      · skip
        refine g_iconst C (v := 0) dL_act_247 (by decide) ?_
        have e_47 : fL_act β η σ v x = (false, β, η, σ) := by rw [fL_act]; rw [if_neg c_1, if_neg c_2, if_neg c_6, if_neg c_19, if_neg c_32, if_pos c_45, if_pos c_46]
        exact g_zret (b := false) C hE (by rw [e_47]) rfl (by rw [e_47] <;> rfl) dL_act_248
      · skip
        refine g_aload_n C dL_act_195 rfl 3 rfl ?_
        refine g_iload C dL_act_196 1 rfl ?_
        refine g_st (st1 := [.int (nI ((fL_low (v >>> (4 &&& 31)) (fT_tickets β)).toNatClampNeg)), .ref ax]) (by rw [← hT.1]) ?_
        refine g_callV C (cs1 := [wX ax (bo 0) (tr 0) (ac 0) (ah 0) (at_ 0), wB E bo β, wB E tr τ, wC E ac γ, wH E ah bd η, wT E at_ θ, wB E (bd 2) (σ 2), wB E (bd 3) (σ 3), wB E (bd 4) (σ 4), wB E (bd 5) (σ 5), wB E (bd 6) (σ 6), wB E (bd 7) (σ 7), wB E (bd 8) (σ 8), wB E (bd 9) (σ 9)]) (st1 := [.int (fT_stateOf β ((fL_low (v >>> (4 &&& 31)) (fT_tickets β)).toNatClampNeg))]) [.int (nI ((fL_low (v >>> (4 &&& 31)) (fT_tickets β)).toNatClampNeg))] [0, 1, 2, 3, 4, 5, 6, 7, 8, 9, 10, 11, 12, 13] (kT_stateOf l E ax bo β tr τ ac γ ah bd η σ at_ θ hv ((fL_low (v >>> (4 &&& 31)) (fT_tickets β)).toNatClampNeg) (by omega) (hasT_n hv hT.2)) caX6_stateOf q2_193 rfl ⟨Nat.le_of_ble_eq_true rfl, Nat.le_of_ble_eq_true rfl⟩ ⟨Nat.zero_le _, Nat.zero_le _⟩ 0 0 rfl rfl rfl rfl (by decide) rfl rfl rfl rfl (Nat.le_of_ble_eq_true rfl) dL_act_198 rfl ?_
        refine g_iconst C (v := 2) dL_act_201 (by decide) ?_
        refine g_icmp_gt C 247 dL_act_202 (by decide) (fun c_48 => ?_) (fun c_48 => ?_)
        · skip
          refine g_iconst C (v := 0) dL_act_247 (by decide) ?_
          have e_49 : fL_act β η σ v x = (false, β, η, σ) := by rw [fL_act]; rw [if_neg c_1, if_neg c_2, if_neg c_6, if_neg c_19, if_neg c_32, if_pos c_45, if_neg c_46, if_pos c_48]
          exact g_zret (b := false) C hE (by rw [e_49]) rfl (by rw [e_49] <;> rfl) dL_act_248
        · skip
          have hs9 := c_48
          refine g_aload_n C dL_act_205 rfl 3 rfl ?_
          refine g_iload C dL_act_206 1 rfl ?_
          refine g_st (st1 := [.int (nI ((fL_low (v >>> (4 &&& 31)) (fT_tickets β)).toNatClampNeg)), .ref ax]) (by rw [← hT.1]) ?_
          refine g_callV C (cs1 := [wX ax (bo 0) (tr 0) (ac 0) (ah 0) (at_ 0), wB E bo β, wB E tr τ, wC E ac γ, wH E ah bd η, wT E at_ θ, wB E (bd 2) (σ 2), wB E (bd 3) (σ 3), wB E (bd 4) (σ 4), wB E (bd 5) (σ 5), wB E (bd 6) (σ 6), wB E (bd 7) (σ 7), wB E (bd 8) (σ 8), wB E (bd 9) (σ 9)]) (st1 := [.int (b2i (fT_hasOwner β ((fL_low (v >>> (4 &&& 31)) (fT_tickets β)).toNatClampNeg)))]) [.int (nI ((fL_low (v >>> (4 &&& 31)) (fT_tickets β)).toNatClampNeg))] [0, 1, 2, 3, 4, 5, 6, 7, 8, 9, 10, 11, 12, 13] (kT_hasOwner l E ax bo β tr τ ac γ ah bd η σ at_ θ hv ((fL_low (v >>> (4 &&& 31)) (fT_tickets β)).toNatClampNeg) (by omega) (hasT_n hv hT.2)) caX6_hasOwner q2_209 rfl ⟨Nat.le_of_ble_eq_true rfl, Nat.le_of_ble_eq_true rfl⟩ ⟨Nat.zero_le _, Nat.zero_le _⟩ 0 0 rfl rfl rfl rfl (by decide) rfl rfl rfl rfl (Nat.le_of_ble_eq_true rfl) dL_act_208 rfl ?_
          refine g_ifB_eq C 225 dL_act_211 (by decide) (fun c_50 => ?_) (fun c_50 => ?_)
          · skip
            have hw9 : ¬ (β.2 3 (fL_low (v >>> (4 &&& 31)) (fT_tickets β)).toNatClampNeg) = (nI (fL_low x 5).toNatClampNeg) := own_none c_50 hO.2
            refine g_aload_n C dL_act_225 rfl 3 rfl ?_
            refine g_iload C dL_act_226 0 rfl ?_
            refine g_st (st1 := [.int (nI ((fL_low x 5).toNatClampNeg)), .ref ax]) (by rw [← hO.1]) ?_
            refine g_callV C (cs1 := [wX ax (bo 0) (tr 0) (ac 0) (ah 0) (at_ 0), wB E bo β, wB E tr τ, wC E ac γ, wH E ah bd η, wT E at_ θ, wB E (bd 2) (σ 2), wB E (bd 3) (σ 3), wB E (bd 4) (σ 4), wB E (bd 5) (σ 5), wB E (bd 6) (σ 6), wB E (bd 7) (σ 7), wB E (bd 8) (σ 8), wB E (bd 9) (σ 9)]) (st1 := [.int (fT_loadByTickets β ((fL_low x 5).toNatClampNeg))]) [.int (nI ((fL_low x 5).toNatClampNeg))] [0, 1, 2, 3, 4, 5, 6, 7, 8, 9, 10, 11, 12, 13] (kT_loadByTickets l E ax bo β tr τ ac γ ah bd η σ at_ θ hv ((fL_low x 5).toNatClampNeg) (by omega) (own_n hO.2)) caX6_loadByTickets q3_92 rfl ⟨Nat.le_of_ble_eq_true rfl, Nat.le_of_ble_eq_true rfl⟩ ⟨Nat.zero_le _, Nat.zero_le _⟩ 0 0 rfl rfl rfl rfl (by decide) rfl rfl rfl rfl (Nat.le_of_ble_eq_true rfl) dL_act_228 rfl ?_
            refine g_aload_n C dL_act_231 rfl 3 rfl ?_
            refine g_iload C dL_act_232 1 rfl ?_
            refine g_st (st1 := [.int (nI ((fL_low (v >>> (4 &&& 31)) (fT_tickets β)).toNatClampNeg)), .ref ax, .int (fT_loadByTickets β ((fL_low x 5).toNatClampNeg))]) (by rw [← hT.1]) ?_
            refine g_callV C (cs1 := [wX ax (bo 0) (tr 0) (ac 0) (ah 0) (at_ 0), wB E bo β, wB E tr τ, wC E ac γ, wH E ah bd η, wT E at_ θ, wB E (bd 2) (σ 2), wB E (bd 3) (σ 3), wB E (bd 4) (σ 4), wB E (bd 5) (σ 5), wB E (bd 6) (σ 6), wB E (bd 7) (σ 7), wB E (bd 8) (σ 8), wB E (bd 9) (σ 9)]) (st1 := [.int (fT_pointsOf β ((fL_low (v >>> (4 &&& 31)) (fT_tickets β)).toNatClampNeg)), .int (fT_loadByTickets β ((fL_low x 5).toNatClampNeg))]) [.int (nI ((fL_low (v >>> (4 &&& 31)) (fT_tickets β)).toNatClampNeg))] [0, 1, 2, 3, 4, 5, 6, 7, 8, 9, 10, 11, 12, 13] (kT_pointsOf l E ax bo β tr τ ac γ ah bd η σ at_ θ hv ((fL_low (v >>> (4 &&& 31)) (fT_tickets β)).toNatClampNeg) (by omega) (hasT_n hv hT.2)) caX6_pointsOf q2_201 rfl ⟨Nat.le_of_ble_eq_true rfl, Nat.le_of_ble_eq_true rfl⟩ ⟨Nat.zero_le _, Nat.zero_le _⟩ 0 0 rfl rfl rfl rfl (by decide) rfl rfl rfl rfl (Nat.le_of_ble_eq_true rfl) dL_act_234 rfl ?_
            refine g_iadd C dL_act_237 ?_
            refine g_aload_n C dL_act_238 rfl 3 rfl ?_
            refine g_iload C dL_act_239 0 rfl ?_
            refine g_st (st1 := [.int (nI ((fL_low x 5).toNatClampNeg)), .ref ax, .int ((fT_loadByTickets β ((fL_low x 5).toNatClampNeg)) + (fT_pointsOf β ((fL_low (v >>> (4 &&& 31)) (fT_tickets β)).toNatClampNeg)))]) (by rw [← hO.1]) ?_
            refine g_callV C (cs1 := [wX ax (bo 0) (tr 0) (ac 0) (ah 0) (at_ 0), wB E bo β, wB E tr τ, wC E ac γ, wH E ah bd η, wT E at_ θ, wB E (bd 2) (σ 2), wB E (bd 3) (σ 3), wB E (bd 4) (σ 4), wB E (bd 5) (σ 5), wB E (bd 6) (σ 6), wB E (bd 7) (σ 7), wB E (bd 8) (σ 8), wB E (bd 9) (σ 9)]) (st1 := [.int (fT_capacityOf β ((fL_low x 5).toNatClampNeg)), .int ((fT_loadByTickets β ((fL_low x 5).toNatClampNeg)) + (fT_pointsOf β ((fL_low (v >>> (4 &&& 31)) (fT_tickets β)).toNatClampNeg)))]) [.int (nI ((fL_low x 5).toNatClampNeg))] [0, 1, 2, 3, 4, 5, 6, 7, 8, 9, 10, 11, 12, 13] (kT_capacityOf l E ax bo β tr τ ac γ ah bd η σ at_ θ hv ((fL_low x 5).toNatClampNeg) (by omega) (own_n hO.2)) caX6_capacityOf q2_59 rfl ⟨Nat.le_of_ble_eq_true rfl, Nat.le_of_ble_eq_true rfl⟩ ⟨Nat.zero_le _, Nat.zero_le _⟩ 0 0 rfl rfl rfl rfl (by decide) rfl rfl rfl rfl (Nat.le_of_ble_eq_true rfl) dL_act_241 rfl ?_
            refine g_icmp_le C 249 dL_act_244 (by decide) (fun c_51 => ?_) (fun c_51 => ?_)
            · skip
              have hc8 := c_51
              refine g_aload_n C dL_act_249 rfl 3 rfl ?_
              refine g_iload C dL_act_250 1 rfl ?_
              refine g_iload C dL_act_252 0 rfl ?_
              refine g_st (st1 := [.int (fL_low x 5), .int (nI ((fL_low (v >>> (4 &&& 31)) (fT_tickets β)).toNatClampNeg)), .ref ax]) (by rw [← hT.1]) ?_
              refine g_st (st1 := [.int (nI ((fL_low x 5).toNatClampNeg)), .int (nI ((fL_low (v >>> (4 &&& 31)) (fT_tickets β)).toNatClampNeg)), .ref ax]) (by rw [← hO.1]) ?_
              refine g_callV C (cs1 := [wX ax (bo 0) (tr 0) (ac 0) (ah 0) (at_ 0), wB E bo ((fT_assign β η σ ((fL_low (v >>> (4 &&& 31)) (fT_tickets β)).toNatClampNeg) ((fL_low x 5).toNatClampNeg)).2.1), wB E tr τ, wC E ac γ, wH E ah bd ((fT_assign β η σ ((fL_low (v >>> (4 &&& 31)) (fT_tickets β)).toNatClampNeg) ((fL_low x 5).toNatClampNeg)).2.2.1), wT E at_ θ, wB E (bd 2) ((fT_assign β η σ ((fL_low (v >>> (4 &&& 31)) (fT_tickets β)).toNatClampNeg) ((fL_low x 5).toNatClampNeg)).2.2.2 2), wB E (bd 3) ((fT_assign β η σ ((fL_low (v >>> (4 &&& 31)) (fT_tickets β)).toNatClampNeg) ((fL_low x 5).toNatClampNeg)).2.2.2 3), wB E (bd 4) ((fT_assign β η σ ((fL_low (v >>> (4 &&& 31)) (fT_tickets β)).toNatClampNeg) ((fL_low x 5).toNatClampNeg)).2.2.2 4), wB E (bd 5) ((fT_assign β η σ ((fL_low (v >>> (4 &&& 31)) (fT_tickets β)).toNatClampNeg) ((fL_low x 5).toNatClampNeg)).2.2.2 5), wB E (bd 6) ((fT_assign β η σ ((fL_low (v >>> (4 &&& 31)) (fT_tickets β)).toNatClampNeg) ((fL_low x 5).toNatClampNeg)).2.2.2 6), wB E (bd 7) ((fT_assign β η σ ((fL_low (v >>> (4 &&& 31)) (fT_tickets β)).toNatClampNeg) ((fL_low x 5).toNatClampNeg)).2.2.2 7), wB E (bd 8) ((fT_assign β η σ ((fL_low (v >>> (4 &&& 31)) (fT_tickets β)).toNatClampNeg) ((fL_low x 5).toNatClampNeg)).2.2.2 8), wB E (bd 9) ((fT_assign β η σ ((fL_low (v >>> (4 &&& 31)) (fT_tickets β)).toNatClampNeg) ((fL_low x 5).toNatClampNeg)).2.2.2 9)]) (st1 := [.int ((fT_assign β η σ ((fL_low (v >>> (4 &&& 31)) (fT_tickets β)).toNatClampNeg) ((fL_low x 5).toNatClampNeg)).1)]) [.int (nI ((fL_low (v >>> (4 &&& 31)) (fT_tickets β)).toNatClampNeg)), .int (nI ((fL_low x 5).toNatClampNeg))] [0, 1, 2, 3, 4, 5, 6, 7, 8, 9, 10, 11, 12, 13] (kT_assign l E ax bo β tr τ ac γ ah bd η σ at_ θ hv hvh ((fL_low (v >>> (4 &&& 31)) (fT_tickets β)).toNatClampNeg) (by omega) ((fL_low x 5).toNatClampNeg) (by omega) (hasT_n hv hT.2) (own_n hO.2) (give_of hI hT.2 hO.2 hs9 hw9 hc8)) caX6_assign q3_103 rfl ⟨Nat.le_of_ble_eq_true rfl, Nat.le_of_ble_eq_true rfl⟩ ⟨Nat.zero_le _, Nat.zero_le _⟩ 0 0 rfl rfl rfl rfl (by decide) rfl rfl rfl rfl (Nat.le_of_ble_eq_true rfl) dL_act_254 rfl ?_
              refine g_pop C dL_act_257 rfl ?_
              refine g_iconst C (v := 1) dL_act_258 (by decide) ?_
              have e_52 : fL_act β η σ v x = (true, (fT_assign β η σ ((fL_low (v >>> (4 &&& 31)) (fT_tickets β)).toNatClampNeg) ((fL_low x 5).toNatClampNeg)).2.1, (fT_assign β η σ ((fL_low (v >>> (4 &&& 31)) (fT_tickets β)).toNatClampNeg) ((fL_low x 5).toNatClampNeg)).2.2.1, (fT_assign β η σ ((fL_low (v >>> (4 &&& 31)) (fT_tickets β)).toNatClampNeg) ((fL_low x 5).toNatClampNeg)).2.2.2) := by rw [fL_act]; rw [if_neg c_1, if_neg c_2, if_neg c_6, if_neg c_19, if_neg c_32, if_pos c_45, if_neg c_46, if_neg c_48, if_neg (ne_true_of_eq_false c_50), if_pos c_51]
              exact g_zret (b := true) C hE (by rw [e_52]) rfl (by rw [e_52] <;> rfl) dL_act_259
            · skip
              refine g_iconst C (v := 0) dL_act_247 (by decide) ?_
              have e_53 : fL_act β η σ v x = (false, β, η, σ) := by rw [fL_act]; rw [if_neg c_1, if_neg c_2, if_neg c_6, if_neg c_19, if_neg c_32, if_pos c_45, if_neg c_46, if_neg c_48, if_neg (ne_true_of_eq_false c_50), if_neg c_51]
              exact g_zret (b := false) C hE (by rw [e_53]) rfl (by rw [e_53] <;> rfl) dL_act_248
          · skip
            have ho9 := c_50
            refine g_aload_n C dL_act_214 rfl 3 rfl ?_
            refine g_iload C dL_act_215 1 rfl ?_
            refine g_st (st1 := [.int (nI ((fL_low (v >>> (4 &&& 31)) (fT_tickets β)).toNatClampNeg)), .ref ax]) (by rw [← hT.1]) ?_
            refine g_callV C (cs1 := [wX ax (bo 0) (tr 0) (ac 0) (ah 0) (at_ 0), wB E bo β, wB E tr τ, wC E ac γ, wH E ah bd η, wT E at_ θ, wB E (bd 2) (σ 2), wB E (bd 3) (σ 3), wB E (bd 4) (σ 4), wB E (bd 5) (σ 5), wB E (bd 6) (σ 6), wB E (bd 7) (σ 7), wB E (bd 8) (σ 8), wB E (bd 9) (σ 9)]) (st1 := [.int (fT_ownerOf β ((fL_low (v >>> (4 &&& 31)) (fT_tickets β)).toNatClampNeg))]) [.int (nI ((fL_low (v >>> (4 &&& 31)) (fT_tickets β)).toNatClampNeg))] [0, 1, 2, 3, 4, 5, 6, 7, 8, 9, 10, 11, 12, 13] (kT_ownerOf l E ax bo β tr τ ac γ ah bd η σ at_ θ hv ((fL_low (v >>> (4 &&& 31)) (fT_tickets β)).toNatClampNeg) (by omega) (hasOwner_ne ho9) (hasT_n hv hT.2)) caX6_ownerOf q2_213 rfl ⟨Nat.le_of_ble_eq_true rfl, Nat.le_of_ble_eq_true rfl⟩ ⟨Nat.zero_le _, Nat.zero_le _⟩ 0 0 rfl rfl rfl rfl (by decide) rfl rfl rfl rfl (Nat.le_of_ble_eq_true rfl) dL_act_217 rfl ?_
            refine g_iload C dL_act_220 0 rfl ?_
            refine g_icmp_eq C 247 dL_act_222 (by decide) (fun c_54 => ?_) (fun c_54 => ?_)
            · skip
              refine g_iconst C (v := 0) dL_act_247 (by decide) ?_
              have e_55 : fL_act β η σ v x = (false, β, η, σ) := by rw [fL_act]; rw [if_neg c_1, if_neg c_2, if_neg c_6, if_neg c_19, if_neg c_32, if_pos c_45, if_neg c_46, if_neg c_48, if_pos c_50, if_pos c_54]
              exact g_zret (b := false) C hE (by rw [e_55]) rfl (by rw [e_55] <;> rfl) dL_act_248
            · skip
              have hw9 : ¬ (β.2 3 (fL_low (v >>> (4 &&& 31)) (fT_tickets β)).toNatClampNeg) = (nI (fL_low x 5).toNatClampNeg) := fun q => c_54 (q.trans hO.1.symm)
              refine g_aload_n C dL_act_225 rfl 3 rfl ?_
              refine g_iload C dL_act_226 0 rfl ?_
              refine g_st (st1 := [.int (nI ((fL_low x 5).toNatClampNeg)), .ref ax]) (by rw [← hO.1]) ?_
              refine g_callV C (cs1 := [wX ax (bo 0) (tr 0) (ac 0) (ah 0) (at_ 0), wB E bo β, wB E tr τ, wC E ac γ, wH E ah bd η, wT E at_ θ, wB E (bd 2) (σ 2), wB E (bd 3) (σ 3), wB E (bd 4) (σ 4), wB E (bd 5) (σ 5), wB E (bd 6) (σ 6), wB E (bd 7) (σ 7), wB E (bd 8) (σ 8), wB E (bd 9) (σ 9)]) (st1 := [.int (fT_loadByTickets β ((fL_low x 5).toNatClampNeg))]) [.int (nI ((fL_low x 5).toNatClampNeg))] [0, 1, 2, 3, 4, 5, 6, 7, 8, 9, 10, 11, 12, 13] (kT_loadByTickets l E ax bo β tr τ ac γ ah bd η σ at_ θ hv ((fL_low x 5).toNatClampNeg) (by omega) (own_n hO.2)) caX6_loadByTickets q3_92 rfl ⟨Nat.le_of_ble_eq_true rfl, Nat.le_of_ble_eq_true rfl⟩ ⟨Nat.zero_le _, Nat.zero_le _⟩ 0 0 rfl rfl rfl rfl (by decide) rfl rfl rfl rfl (Nat.le_of_ble_eq_true rfl) dL_act_228 rfl ?_
              refine g_aload_n C dL_act_231 rfl 3 rfl ?_
              refine g_iload C dL_act_232 1 rfl ?_
              refine g_st (st1 := [.int (nI ((fL_low (v >>> (4 &&& 31)) (fT_tickets β)).toNatClampNeg)), .ref ax, .int (fT_loadByTickets β ((fL_low x 5).toNatClampNeg))]) (by rw [← hT.1]) ?_
              refine g_callV C (cs1 := [wX ax (bo 0) (tr 0) (ac 0) (ah 0) (at_ 0), wB E bo β, wB E tr τ, wC E ac γ, wH E ah bd η, wT E at_ θ, wB E (bd 2) (σ 2), wB E (bd 3) (σ 3), wB E (bd 4) (σ 4), wB E (bd 5) (σ 5), wB E (bd 6) (σ 6), wB E (bd 7) (σ 7), wB E (bd 8) (σ 8), wB E (bd 9) (σ 9)]) (st1 := [.int (fT_pointsOf β ((fL_low (v >>> (4 &&& 31)) (fT_tickets β)).toNatClampNeg)), .int (fT_loadByTickets β ((fL_low x 5).toNatClampNeg))]) [.int (nI ((fL_low (v >>> (4 &&& 31)) (fT_tickets β)).toNatClampNeg))] [0, 1, 2, 3, 4, 5, 6, 7, 8, 9, 10, 11, 12, 13] (kT_pointsOf l E ax bo β tr τ ac γ ah bd η σ at_ θ hv ((fL_low (v >>> (4 &&& 31)) (fT_tickets β)).toNatClampNeg) (by omega) (hasT_n hv hT.2)) caX6_pointsOf q2_201 rfl ⟨Nat.le_of_ble_eq_true rfl, Nat.le_of_ble_eq_true rfl⟩ ⟨Nat.zero_le _, Nat.zero_le _⟩ 0 0 rfl rfl rfl rfl (by decide) rfl rfl rfl rfl (Nat.le_of_ble_eq_true rfl) dL_act_234 rfl ?_
              refine g_iadd C dL_act_237 ?_
              refine g_aload_n C dL_act_238 rfl 3 rfl ?_
              refine g_iload C dL_act_239 0 rfl ?_
              refine g_st (st1 := [.int (nI ((fL_low x 5).toNatClampNeg)), .ref ax, .int ((fT_loadByTickets β ((fL_low x 5).toNatClampNeg)) + (fT_pointsOf β ((fL_low (v >>> (4 &&& 31)) (fT_tickets β)).toNatClampNeg)))]) (by rw [← hO.1]) ?_
              refine g_callV C (cs1 := [wX ax (bo 0) (tr 0) (ac 0) (ah 0) (at_ 0), wB E bo β, wB E tr τ, wC E ac γ, wH E ah bd η, wT E at_ θ, wB E (bd 2) (σ 2), wB E (bd 3) (σ 3), wB E (bd 4) (σ 4), wB E (bd 5) (σ 5), wB E (bd 6) (σ 6), wB E (bd 7) (σ 7), wB E (bd 8) (σ 8), wB E (bd 9) (σ 9)]) (st1 := [.int (fT_capacityOf β ((fL_low x 5).toNatClampNeg)), .int ((fT_loadByTickets β ((fL_low x 5).toNatClampNeg)) + (fT_pointsOf β ((fL_low (v >>> (4 &&& 31)) (fT_tickets β)).toNatClampNeg)))]) [.int (nI ((fL_low x 5).toNatClampNeg))] [0, 1, 2, 3, 4, 5, 6, 7, 8, 9, 10, 11, 12, 13] (kT_capacityOf l E ax bo β tr τ ac γ ah bd η σ at_ θ hv ((fL_low x 5).toNatClampNeg) (by omega) (own_n hO.2)) caX6_capacityOf q2_59 rfl ⟨Nat.le_of_ble_eq_true rfl, Nat.le_of_ble_eq_true rfl⟩ ⟨Nat.zero_le _, Nat.zero_le _⟩ 0 0 rfl rfl rfl rfl (by decide) rfl rfl rfl rfl (Nat.le_of_ble_eq_true rfl) dL_act_241 rfl ?_
              refine g_icmp_le C 249 dL_act_244 (by decide) (fun c_56 => ?_) (fun c_56 => ?_)
              · skip
                have hc8 := c_56
                refine g_aload_n C dL_act_249 rfl 3 rfl ?_
                refine g_iload C dL_act_250 1 rfl ?_
                refine g_iload C dL_act_252 0 rfl ?_
                refine g_st (st1 := [.int (fL_low x 5), .int (nI ((fL_low (v >>> (4 &&& 31)) (fT_tickets β)).toNatClampNeg)), .ref ax]) (by rw [← hT.1]) ?_
                refine g_st (st1 := [.int (nI ((fL_low x 5).toNatClampNeg)), .int (nI ((fL_low (v >>> (4 &&& 31)) (fT_tickets β)).toNatClampNeg)), .ref ax]) (by rw [← hO.1]) ?_
                refine g_callV C (cs1 := [wX ax (bo 0) (tr 0) (ac 0) (ah 0) (at_ 0), wB E bo ((fT_assign β η σ ((fL_low (v >>> (4 &&& 31)) (fT_tickets β)).toNatClampNeg) ((fL_low x 5).toNatClampNeg)).2.1), wB E tr τ, wC E ac γ, wH E ah bd ((fT_assign β η σ ((fL_low (v >>> (4 &&& 31)) (fT_tickets β)).toNatClampNeg) ((fL_low x 5).toNatClampNeg)).2.2.1), wT E at_ θ, wB E (bd 2) ((fT_assign β η σ ((fL_low (v >>> (4 &&& 31)) (fT_tickets β)).toNatClampNeg) ((fL_low x 5).toNatClampNeg)).2.2.2 2), wB E (bd 3) ((fT_assign β η σ ((fL_low (v >>> (4 &&& 31)) (fT_tickets β)).toNatClampNeg) ((fL_low x 5).toNatClampNeg)).2.2.2 3), wB E (bd 4) ((fT_assign β η σ ((fL_low (v >>> (4 &&& 31)) (fT_tickets β)).toNatClampNeg) ((fL_low x 5).toNatClampNeg)).2.2.2 4), wB E (bd 5) ((fT_assign β η σ ((fL_low (v >>> (4 &&& 31)) (fT_tickets β)).toNatClampNeg) ((fL_low x 5).toNatClampNeg)).2.2.2 5), wB E (bd 6) ((fT_assign β η σ ((fL_low (v >>> (4 &&& 31)) (fT_tickets β)).toNatClampNeg) ((fL_low x 5).toNatClampNeg)).2.2.2 6), wB E (bd 7) ((fT_assign β η σ ((fL_low (v >>> (4 &&& 31)) (fT_tickets β)).toNatClampNeg) ((fL_low x 5).toNatClampNeg)).2.2.2 7), wB E (bd 8) ((fT_assign β η σ ((fL_low (v >>> (4 &&& 31)) (fT_tickets β)).toNatClampNeg) ((fL_low x 5).toNatClampNeg)).2.2.2 8), wB E (bd 9) ((fT_assign β η σ ((fL_low (v >>> (4 &&& 31)) (fT_tickets β)).toNatClampNeg) ((fL_low x 5).toNatClampNeg)).2.2.2 9)]) (st1 := [.int ((fT_assign β η σ ((fL_low (v >>> (4 &&& 31)) (fT_tickets β)).toNatClampNeg) ((fL_low x 5).toNatClampNeg)).1)]) [.int (nI ((fL_low (v >>> (4 &&& 31)) (fT_tickets β)).toNatClampNeg)), .int (nI ((fL_low x 5).toNatClampNeg))] [0, 1, 2, 3, 4, 5, 6, 7, 8, 9, 10, 11, 12, 13] (kT_assign l E ax bo β tr τ ac γ ah bd η σ at_ θ hv hvh ((fL_low (v >>> (4 &&& 31)) (fT_tickets β)).toNatClampNeg) (by omega) ((fL_low x 5).toNatClampNeg) (by omega) (hasT_n hv hT.2) (own_n hO.2) (give_of hI hT.2 hO.2 hs9 hw9 hc8)) caX6_assign q3_103 rfl ⟨Nat.le_of_ble_eq_true rfl, Nat.le_of_ble_eq_true rfl⟩ ⟨Nat.zero_le _, Nat.zero_le _⟩ 0 0 rfl rfl rfl rfl (by decide) rfl rfl rfl rfl (Nat.le_of_ble_eq_true rfl) dL_act_254 rfl ?_
                refine g_pop C dL_act_257 rfl ?_
                refine g_iconst C (v := 1) dL_act_258 (by decide) ?_
                have e_57 : fL_act β η σ v x = (true, (fT_assign β η σ ((fL_low (v >>> (4 &&& 31)) (fT_tickets β)).toNatClampNeg) ((fL_low x 5).toNatClampNeg)).2.1, (fT_assign β η σ ((fL_low (v >>> (4 &&& 31)) (fT_tickets β)).toNatClampNeg) ((fL_low x 5).toNatClampNeg)).2.2.1, (fT_assign β η σ ((fL_low (v >>> (4 &&& 31)) (fT_tickets β)).toNatClampNeg) ((fL_low x 5).toNatClampNeg)).2.2.2) := by rw [fL_act]; rw [if_neg c_1, if_neg c_2, if_neg c_6, if_neg c_19, if_neg c_32, if_pos c_45, if_neg c_46, if_neg c_48, if_pos c_50, if_neg c_54, if_pos c_56]
                exact g_zret (b := true) C hE (by rw [e_57]) rfl (by rw [e_57] <;> rfl) dL_act_259
              · skip
                refine g_iconst C (v := 0) dL_act_247 (by decide) ?_
                have e_58 : fL_act β η σ v x = (false, β, η, σ) := by rw [fL_act]; rw [if_neg c_1, if_neg c_2, if_neg c_6, if_neg c_19, if_neg c_32, if_pos c_45, if_neg c_46, if_neg c_48, if_pos c_50, if_neg c_54, if_neg c_56]
                exact g_zret (b := false) C hE (by rw [e_58]) rfl (by rw [e_58] <;> rfl) dL_act_248
    refine (Decidable.em ((v &&& 15) = 5)).elim (fun c_59 => ?_) (fun c_59 => ?_)
    · refine g_tblK C 190 dL_act_33 c_59 (by decide) (by decide) rfl (by decide) ?_
      refine g_iload C dL_act_190 1 rfl ?_
      refine g_if_lt C 247 dL_act_192 (by decide) (fun c_60 => ?_) (fun c_60 => ?_)
      · skip
        refine g_iconst C (v := 0) dL_act_247 (by decide) ?_
        have e_61 : fL_act β η σ v x = (false, β, η, σ) := by rw [fL_act]; rw [if_neg c_1, if_neg c_2, if_neg c_6, if_neg c_19, if_neg c_32, if_neg c_45, if_pos c_59, if_pos c_60]
        exact g_zret (b := false) C hE (by rw [e_61]) rfl (by rw [e_61] <;> rfl) dL_act_248
      · skip
        refine g_aload_n C dL_act_195 rfl 3 rfl ?_
        refine g_iload C dL_act_196 1 rfl ?_
        refine g_st (st1 := [.int (nI ((fL_low (v >>> (4 &&& 31)) (fT_tickets β)).toNatClampNeg)), .ref ax]) (by rw [← hT.1]) ?_
        refine g_callV C (cs1 := [wX ax (bo 0) (tr 0) (ac 0) (ah 0) (at_ 0), wB E bo β, wB E tr τ, wC E ac γ, wH E ah bd η, wT E at_ θ, wB E (bd 2) (σ 2), wB E (bd 3) (σ 3), wB E (bd 4) (σ 4), wB E (bd 5) (σ 5), wB E (bd 6) (σ 6), wB E (bd 7) (σ 7), wB E (bd 8) (σ 8), wB E (bd 9) (σ 9)]) (st1 := [.int (fT_stateOf β ((fL_low (v >>> (4 &&& 31)) (fT_tickets β)).toNatClampNeg))]) [.int (nI ((fL_low (v >>> (4 &&& 31)) (fT_tickets β)).toNatClampNeg))] [0, 1, 2, 3, 4, 5, 6, 7, 8, 9, 10, 11, 12, 13] (kT_stateOf l E ax bo β tr τ ac γ ah bd η σ at_ θ hv ((fL_low (v >>> (4 &&& 31)) (fT_tickets β)).toNatClampNeg) (by omega) (hasT_n hv hT.2)) caX6_stateOf q2_193 rfl ⟨Nat.le_of_ble_eq_true rfl, Nat.le_of_ble_eq_true rfl⟩ ⟨Nat.zero_le _, Nat.zero_le _⟩ 0 0 rfl rfl rfl rfl (by decide) rfl rfl rfl rfl (Nat.le_of_ble_eq_true rfl) dL_act_198 rfl ?_
        refine g_iconst C (v := 2) dL_act_201 (by decide) ?_
        refine g_icmp_gt C 247 dL_act_202 (by decide) (fun c_62 => ?_) (fun c_62 => ?_)
        · skip
          refine g_iconst C (v := 0) dL_act_247 (by decide) ?_
          have e_63 : fL_act β η σ v x = (false, β, η, σ) := by rw [fL_act]; rw [if_neg c_1, if_neg c_2, if_neg c_6, if_neg c_19, if_neg c_32, if_neg c_45, if_pos c_59, if_neg c_60, if_pos c_62]
          exact g_zret (b := false) C hE (by rw [e_63]) rfl (by rw [e_63] <;> rfl) dL_act_248
        · skip
          have hs9 := c_62
          refine g_aload_n C dL_act_205 rfl 3 rfl ?_
          refine g_iload C dL_act_206 1 rfl ?_
          refine g_st (st1 := [.int (nI ((fL_low (v >>> (4 &&& 31)) (fT_tickets β)).toNatClampNeg)), .ref ax]) (by rw [← hT.1]) ?_
          refine g_callV C (cs1 := [wX ax (bo 0) (tr 0) (ac 0) (ah 0) (at_ 0), wB E bo β, wB E tr τ, wC E ac γ, wH E ah bd η, wT E at_ θ, wB E (bd 2) (σ 2), wB E (bd 3) (σ 3), wB E (bd 4) (σ 4), wB E (bd 5) (σ 5), wB E (bd 6) (σ 6), wB E (bd 7) (σ 7), wB E (bd 8) (σ 8), wB E (bd 9) (σ 9)]) (st1 := [.int (b2i (fT_hasOwner β ((fL_low (v >>> (4 &&& 31)) (fT_tickets β)).toNatClampNeg)))]) [.int (nI ((fL_low (v >>> (4 &&& 31)) (fT_tickets β)).toNatClampNeg))] [0, 1, 2, 3, 4, 5, 6, 7, 8, 9, 10, 11, 12, 13] (kT_hasOwner l E ax bo β tr τ ac γ ah bd η σ at_ θ hv ((fL_low (v >>> (4 &&& 31)) (fT_tickets β)).toNatClampNeg) (by omega) (hasT_n hv hT.2)) caX6_hasOwner q2_209 rfl ⟨Nat.le_of_ble_eq_true rfl, Nat.le_of_ble_eq_true rfl⟩ ⟨Nat.zero_le _, Nat.zero_le _⟩ 0 0 rfl rfl rfl rfl (by decide) rfl rfl rfl rfl (Nat.le_of_ble_eq_true rfl) dL_act_208 rfl ?_
          refine g_ifB_eq C 225 dL_act_211 (by decide) (fun c_64 => ?_) (fun c_64 => ?_)
          · skip
            have hw9 : ¬ (β.2 3 (fL_low (v >>> (4 &&& 31)) (fT_tickets β)).toNatClampNeg) = (nI (fL_low x 5).toNatClampNeg) := own_none c_64 hO.2
            refine g_aload_n C dL_act_225 rfl 3 rfl ?_
            refine g_iload C dL_act_226 0 rfl ?_
            refine g_st (st1 := [.int (nI ((fL_low x 5).toNatClampNeg)), .ref ax]) (by rw [← hO.1]) ?_
            refine g_callV C (cs1 := [wX ax (bo 0) (tr 0) (ac 0) (ah 0) (at_ 0), wB E bo β, wB E tr τ, wC E ac γ, wH E ah bd η, wT E at_ θ, wB E (bd 2) (σ 2), wB E (bd 3) (σ 3), wB E (bd 4) (σ 4), wB E (bd 5) (σ 5), wB E (bd 6) (σ 6), wB E (bd 7) (σ 7), wB E (bd 8) (σ 8), wB E (bd 9) (σ 9)]) (st1 := [.int (fT_loadByTickets β ((fL_low x 5).toNatClampNeg))]) [.int (nI ((fL_low x 5).toNatClampNeg))] [0, 1, 2, 3, 4, 5, 6, 7, 8, 9, 10, 11, 12, 13] (kT_loadByTickets l E ax bo β tr τ ac γ ah bd η σ at_ θ hv ((fL_low x 5).toNatClampNeg) (by omega) (own_n hO.2)) caX6_loadByTickets q3_92 rfl ⟨Nat.le_of_ble_eq_true rfl, Nat.le_of_ble_eq_true rfl⟩ ⟨Nat.zero_le _, Nat.zero_le _⟩ 0 0 rfl rfl rfl rfl (by decide) rfl rfl rfl rfl (Nat.le_of_ble_eq_true rfl) dL_act_228 rfl ?_
            refine g_aload_n C dL_act_231 rfl 3 rfl ?_
            refine g_iload C dL_act_232 1 rfl ?_
            refine g_st (st1 := [.int (nI ((fL_low (v >>> (4 &&& 31)) (fT_tickets β)).toNatClampNeg)), .ref ax, .int (fT_loadByTickets β ((fL_low x 5).toNatClampNeg))]) (by rw [← hT.1]) ?_
            refine g_callV C (cs1 := [wX ax (bo 0) (tr 0) (ac 0) (ah 0) (at_ 0), wB E bo β, wB E tr τ, wC E ac γ, wH E ah bd η, wT E at_ θ, wB E (bd 2) (σ 2), wB E (bd 3) (σ 3), wB E (bd 4) (σ 4), wB E (bd 5) (σ 5), wB E (bd 6) (σ 6), wB E (bd 7) (σ 7), wB E (bd 8) (σ 8), wB E (bd 9) (σ 9)]) (st1 := [.int (fT_pointsOf β ((fL_low (v >>> (4 &&& 31)) (fT_tickets β)).toNatClampNeg)), .int (fT_loadByTickets β ((fL_low x 5).toNatClampNeg))]) [.int (nI ((fL_low (v >>> (4 &&& 31)) (fT_tickets β)).toNatClampNeg))] [0, 1, 2, 3, 4, 5, 6, 7, 8, 9, 10, 11, 12, 13] (kT_pointsOf l E ax bo β tr τ ac γ ah bd η σ at_ θ hv ((fL_low (v >>> (4 &&& 31)) (fT_tickets β)).toNatClampNeg) (by omega) (hasT_n hv hT.2)) caX6_pointsOf q2_201 rfl ⟨Nat.le_of_ble_eq_true rfl, Nat.le_of_ble_eq_true rfl⟩ ⟨Nat.zero_le _, Nat.zero_le _⟩ 0 0 rfl rfl rfl rfl (by decide) rfl rfl rfl rfl (Nat.le_of_ble_eq_true rfl) dL_act_234 rfl ?_
            refine g_iadd C dL_act_237 ?_
            refine g_aload_n C dL_act_238 rfl 3 rfl ?_
            refine g_iload C dL_act_239 0 rfl ?_
            refine g_st (st1 := [.int (nI ((fL_low x 5).toNatClampNeg)), .ref ax, .int ((fT_loadByTickets β ((fL_low x 5).toNatClampNeg)) + (fT_pointsOf β ((fL_low (v >>> (4 &&& 31)) (fT_tickets β)).toNatClampNeg)))]) (by rw [← hO.1]) ?_
            refine g_callV C (cs1 := [wX ax (bo 0) (tr 0) (ac 0) (ah 0) (at_ 0), wB E bo β, wB E tr τ, wC E ac γ, wH E ah bd η, wT E at_ θ, wB E (bd 2) (σ 2), wB E (bd 3) (σ 3), wB E (bd 4) (σ 4), wB E (bd 5) (σ 5), wB E (bd 6) (σ 6), wB E (bd 7) (σ 7), wB E (bd 8) (σ 8), wB E (bd 9) (σ 9)]) (st1 := [.int (fT_capacityOf β ((fL_low x 5).toNatClampNeg)), .int ((fT_loadByTickets β ((fL_low x 5).toNatClampNeg)) + (fT_pointsOf β ((fL_low (v >>> (4 &&& 31)) (fT_tickets β)).toNatClampNeg)))]) [.int (nI ((fL_low x 5).toNatClampNeg))] [0, 1, 2, 3, 4, 5, 6, 7, 8, 9, 10, 11, 12, 13] (kT_capacityOf l E ax bo β tr τ ac γ ah bd η σ at_ θ hv ((fL_low x 5).toNatClampNeg) (by omega) (own_n hO.2)) caX6_capacityOf q2_59 rfl ⟨Nat.le_of_ble_eq_true rfl, Nat.le_of_ble_eq_true rfl⟩ ⟨Nat.zero_le _, Nat.zero_le _⟩ 0 0 rfl rfl rfl rfl (by decide) rfl rfl rfl rfl (Nat.le_of_ble_eq_true rfl) dL_act_241 rfl ?_
            refine g_icmp_le C 249 dL_act_244 (by decide) (fun c_65 => ?_) (fun c_65 => ?_)
            · skip
              have hc8 := c_65
              refine g_aload_n C dL_act_249 rfl 3 rfl ?_
              refine g_iload C dL_act_250 1 rfl ?_
              refine g_iload C dL_act_252 0 rfl ?_
              refine g_st (st1 := [.int (fL_low x 5), .int (nI ((fL_low (v >>> (4 &&& 31)) (fT_tickets β)).toNatClampNeg)), .ref ax]) (by rw [← hT.1]) ?_
              refine g_st (st1 := [.int (nI ((fL_low x 5).toNatClampNeg)), .int (nI ((fL_low (v >>> (4 &&& 31)) (fT_tickets β)).toNatClampNeg)), .ref ax]) (by rw [← hO.1]) ?_
              refine g_callV C (cs1 := [wX ax (bo 0) (tr 0) (ac 0) (ah 0) (at_ 0), wB E bo ((fT_assign β η σ ((fL_low (v >>> (4 &&& 31)) (fT_tickets β)).toNatClampNeg) ((fL_low x 5).toNatClampNeg)).2.1), wB E tr τ, wC E ac γ, wH E ah bd ((fT_assign β η σ ((fL_low (v >>> (4 &&& 31)) (fT_tickets β)).toNatClampNeg) ((fL_low x 5).toNatClampNeg)).2.2.1), wT E at_ θ, wB E (bd 2) ((fT_assign β η σ ((fL_low (v >>> (4 &&& 31)) (fT_tickets β)).toNatClampNeg) ((fL_low x 5).toNatClampNeg)).2.2.2 2), wB E (bd 3) ((fT_assign β η σ ((fL_low (v >>> (4 &&& 31)) (fT_tickets β)).toNatClampNeg) ((fL_low x 5).toNatClampNeg)).2.2.2 3), wB E (bd 4) ((fT_assign β η σ ((fL_low (v >>> (4 &&& 31)) (fT_tickets β)).toNatClampNeg) ((fL_low x 5).toNatClampNeg)).2.2.2 4), wB E (bd 5) ((fT_assign β η σ ((fL_low (v >>> (4 &&& 31)) (fT_tickets β)).toNatClampNeg) ((fL_low x 5).toNatClampNeg)).2.2.2 5), wB E (bd 6) ((fT_assign β η σ ((fL_low (v >>> (4 &&& 31)) (fT_tickets β)).toNatClampNeg) ((fL_low x 5).toNatClampNeg)).2.2.2 6), wB E (bd 7) ((fT_assign β η σ ((fL_low (v >>> (4 &&& 31)) (fT_tickets β)).toNatClampNeg) ((fL_low x 5).toNatClampNeg)).2.2.2 7), wB E (bd 8) ((fT_assign β η σ ((fL_low (v >>> (4 &&& 31)) (fT_tickets β)).toNatClampNeg) ((fL_low x 5).toNatClampNeg)).2.2.2 8), wB E (bd 9) ((fT_assign β η σ ((fL_low (v >>> (4 &&& 31)) (fT_tickets β)).toNatClampNeg) ((fL_low x 5).toNatClampNeg)).2.2.2 9)]) (st1 := [.int ((fT_assign β η σ ((fL_low (v >>> (4 &&& 31)) (fT_tickets β)).toNatClampNeg) ((fL_low x 5).toNatClampNeg)).1)]) [.int (nI ((fL_low (v >>> (4 &&& 31)) (fT_tickets β)).toNatClampNeg)), .int (nI ((fL_low x 5).toNatClampNeg))] [0, 1, 2, 3, 4, 5, 6, 7, 8, 9, 10, 11, 12, 13] (kT_assign l E ax bo β tr τ ac γ ah bd η σ at_ θ hv hvh ((fL_low (v >>> (4 &&& 31)) (fT_tickets β)).toNatClampNeg) (by omega) ((fL_low x 5).toNatClampNeg) (by omega) (hasT_n hv hT.2) (own_n hO.2) (give_of hI hT.2 hO.2 hs9 hw9 hc8)) caX6_assign q3_103 rfl ⟨Nat.le_of_ble_eq_true rfl, Nat.le_of_ble_eq_true rfl⟩ ⟨Nat.zero_le _, Nat.zero_le _⟩ 0 0 rfl rfl rfl rfl (by decide) rfl rfl rfl rfl (Nat.le_of_ble_eq_true rfl) dL_act_254 rfl ?_
              refine g_pop C dL_act_257 rfl ?_
              refine g_iconst C (v := 1) dL_act_258 (by decide) ?_
              have e_66 : fL_act β η σ v x = (true, (fT_assign β η σ ((fL_low (v >>> (4 &&& 31)) (fT_tickets β)).toNatClampNeg) ((fL_low x 5).toNatClampNeg)).2.1, (fT_assign β η σ ((fL_low (v >>> (4 &&& 31)) (fT_tickets β)).toNatClampNeg) ((fL_low x 5).toNatClampNeg)).2.2.1, (fT_assign β η σ ((fL_low (v >>> (4 &&& 31)) (fT_tickets β)).toNatClampNeg) ((fL_low x 5).toNatClampNeg)).2.2.2) := by rw [fL_act]; rw [if_neg c_1, if_neg c_2, if_neg c_6, if_neg c_19, if_neg c_32, if_neg c_45, if_pos c_59, if_neg c_60, if_neg c_62, if_neg (ne_true_of_eq_false c_64), if_pos c_65]
              exact g_zret (b := true) C hE (by rw [e_66]) rfl (by rw [e_66] <;> rfl) dL_act_259
            · skip
              refine g_iconst C (v := 0) dL_act_247 (by decide) ?_
              have e_67 : fL_act β η σ v x = (false, β, η, σ) := by rw [fL_act]; rw [if_neg c_1, if_neg c_2, if_neg c_6, if_neg c_19, if_neg c_32, if_neg c_45, if_pos c_59, if_neg c_60, if_neg c_62, if_neg (ne_true_of_eq_false c_64), if_neg c_65]
              exact g_zret (b := false) C hE (by rw [e_67]) rfl (by rw [e_67] <;> rfl) dL_act_248
          · skip
            have ho9 := c_64
            refine g_aload_n C dL_act_214 rfl 3 rfl ?_
            refine g_iload C dL_act_215 1 rfl ?_
            refine g_st (st1 := [.int (nI ((fL_low (v >>> (4 &&& 31)) (fT_tickets β)).toNatClampNeg)), .ref ax]) (by rw [← hT.1]) ?_
            refine g_callV C (cs1 := [wX ax (bo 0) (tr 0) (ac 0) (ah 0) (at_ 0), wB E bo β, wB E tr τ, wC E ac γ, wH E ah bd η, wT E at_ θ, wB E (bd 2) (σ 2), wB E (bd 3) (σ 3), wB E (bd 4) (σ 4), wB E (bd 5) (σ 5), wB E (bd 6) (σ 6), wB E (bd 7) (σ 7), wB E (bd 8) (σ 8), wB E (bd 9) (σ 9)]) (st1 := [.int (fT_ownerOf β ((fL_low (v >>> (4 &&& 31)) (fT_tickets β)).toNatClampNeg))]) [.int (nI ((fL_low (v >>> (4 &&& 31)) (fT_tickets β)).toNatClampNeg))] [0, 1, 2, 3, 4, 5, 6, 7, 8, 9, 10, 11, 12, 13] (kT_ownerOf l E ax bo β tr τ ac γ ah bd η σ at_ θ hv ((fL_low (v >>> (4 &&& 31)) (fT_tickets β)).toNatClampNeg) (by omega) (hasOwner_ne ho9) (hasT_n hv hT.2)) caX6_ownerOf q2_213 rfl ⟨Nat.le_of_ble_eq_true rfl, Nat.le_of_ble_eq_true rfl⟩ ⟨Nat.zero_le _, Nat.zero_le _⟩ 0 0 rfl rfl rfl rfl (by decide) rfl rfl rfl rfl (Nat.le_of_ble_eq_true rfl) dL_act_217 rfl ?_
            refine g_iload C dL_act_220 0 rfl ?_
            refine g_icmp_eq C 247 dL_act_222 (by decide) (fun c_68 => ?_) (fun c_68 => ?_)
            · skip
              refine g_iconst C (v := 0) dL_act_247 (by decide) ?_
              have e_69 : fL_act β η σ v x = (false, β, η, σ) := by rw [fL_act]; rw [if_neg c_1, if_neg c_2, if_neg c_6, if_neg c_19, if_neg c_32, if_neg c_45, if_pos c_59, if_neg c_60, if_neg c_62, if_pos c_64, if_pos c_68]
              exact g_zret (b := false) C hE (by rw [e_69]) rfl (by rw [e_69] <;> rfl) dL_act_248
            · skip
              have hw9 : ¬ (β.2 3 (fL_low (v >>> (4 &&& 31)) (fT_tickets β)).toNatClampNeg) = (nI (fL_low x 5).toNatClampNeg) := fun q => c_68 (q.trans hO.1.symm)
              refine g_aload_n C dL_act_225 rfl 3 rfl ?_
              refine g_iload C dL_act_226 0 rfl ?_
              refine g_st (st1 := [.int (nI ((fL_low x 5).toNatClampNeg)), .ref ax]) (by rw [← hO.1]) ?_
              refine g_callV C (cs1 := [wX ax (bo 0) (tr 0) (ac 0) (ah 0) (at_ 0), wB E bo β, wB E tr τ, wC E ac γ, wH E ah bd η, wT E at_ θ, wB E (bd 2) (σ 2), wB E (bd 3) (σ 3), wB E (bd 4) (σ 4), wB E (bd 5) (σ 5), wB E (bd 6) (σ 6), wB E (bd 7) (σ 7), wB E (bd 8) (σ 8), wB E (bd 9) (σ 9)]) (st1 := [.int (fT_loadByTickets β ((fL_low x 5).toNatClampNeg))]) [.int (nI ((fL_low x 5).toNatClampNeg))] [0, 1, 2, 3, 4, 5, 6, 7, 8, 9, 10, 11, 12, 13] (kT_loadByTickets l E ax bo β tr τ ac γ ah bd η σ at_ θ hv ((fL_low x 5).toNatClampNeg) (by omega) (own_n hO.2)) caX6_loadByTickets q3_92 rfl ⟨Nat.le_of_ble_eq_true rfl, Nat.le_of_ble_eq_true rfl⟩ ⟨Nat.zero_le _, Nat.zero_le _⟩ 0 0 rfl rfl rfl rfl (by decide) rfl rfl rfl rfl (Nat.le_of_ble_eq_true rfl) dL_act_228 rfl ?_
              refine g_aload_n C dL_act_231 rfl 3 rfl ?_
              refine g_iload C dL_act_232 1 rfl ?_
              refine g_st (st1 := [.int (nI ((fL_low (v >>> (4 &&& 31)) (fT_tickets β)).toNatClampNeg)), .ref ax, .int (fT_loadByTickets β ((fL_low x 5).toNatClampNeg))]) (by rw [← hT.1]) ?_
              refine g_callV C (cs1 := [wX ax (bo 0) (tr 0) (ac 0) (ah 0) (at_ 0), wB E bo β, wB E tr τ, wC E ac γ, wH E ah bd η, wT E at_ θ, wB E (bd 2) (σ 2), wB E (bd 3) (σ 3), wB E (bd 4) (σ 4), wB E (bd 5) (σ 5), wB E (bd 6) (σ 6), wB E (bd 7) (σ 7), wB E (bd 8) (σ 8), wB E (bd 9) (σ 9)]) (st1 := [.int (fT_pointsOf β ((fL_low (v >>> (4 &&& 31)) (fT_tickets β)).toNatClampNeg)), .int (fT_loadByTickets β ((fL_low x 5).toNatClampNeg))]) [.int (nI ((fL_low (v >>> (4 &&& 31)) (fT_tickets β)).toNatClampNeg))] [0, 1, 2, 3, 4, 5, 6, 7, 8, 9, 10, 11, 12, 13] (kT_pointsOf l E ax bo β tr τ ac γ ah bd η σ at_ θ hv ((fL_low (v >>> (4 &&& 31)) (fT_tickets β)).toNatClampNeg) (by omega) (hasT_n hv hT.2)) caX6_pointsOf q2_201 rfl ⟨Nat.le_of_ble_eq_true rfl, Nat.le_of_ble_eq_true rfl⟩ ⟨Nat.zero_le _, Nat.zero_le _⟩ 0 0 rfl rfl rfl rfl (by decide) rfl rfl rfl rfl (Nat.le_of_ble_eq_true rfl) dL_act_234 rfl ?_
              refine g_iadd C dL_act_237 ?_
              refine g_aload_n C dL_act_238 rfl 3 rfl ?_
              refine g_iload C dL_act_239 0 rfl ?_
              refine g_st (st1 := [.int (nI ((fL_low x 5).toNatClampNeg)), .ref ax, .int ((fT_loadByTickets β ((fL_low x 5).toNatClampNeg)) + (fT_pointsOf β ((fL_low (v >>> (4 &&& 31)) (fT_tickets β)).toNatClampNeg)))]) (by rw [← hO.1]) ?_
              refine g_callV C (cs1 := [wX ax (bo 0) (tr 0) (ac 0) (ah 0) (at_ 0), wB E bo β, wB E tr τ, wC E ac γ, wH E ah bd η, wT E at_ θ, wB E (bd 2) (σ 2), wB E (bd 3) (σ 3), wB E (bd 4) (σ 4), wB E (bd 5) (σ 5), wB E (bd 6) (σ 6), wB E (bd 7) (σ 7), wB E (bd 8) (σ 8), wB E (bd 9) (σ 9)]) (st1 := [.int (fT_capacityOf β ((fL_low x 5).toNatClampNeg)), .int ((fT_loadByTickets β ((fL_low x 5).toNatClampNeg)) + (fT_pointsOf β ((fL_low (v >>> (4 &&& 31)) (fT_tickets β)).toNatClampNeg)))]) [.int (nI ((fL_low x 5).toNatClampNeg))] [0, 1, 2, 3, 4, 5, 6, 7, 8, 9, 10, 11, 12, 13] (kT_capacityOf l E ax bo β tr τ ac γ ah bd η σ at_ θ hv ((fL_low x 5).toNatClampNeg) (by omega) (own_n hO.2)) caX6_capacityOf q2_59 rfl ⟨Nat.le_of_ble_eq_true rfl, Nat.le_of_ble_eq_true rfl⟩ ⟨Nat.zero_le _, Nat.zero_le _⟩ 0 0 rfl rfl rfl rfl (by decide) rfl rfl rfl rfl (Nat.le_of_ble_eq_true rfl) dL_act_241 rfl ?_
              refine g_icmp_le C 249 dL_act_244 (by decide) (fun c_70 => ?_) (fun c_70 => ?_)
              · skip
                have hc8 := c_70
                refine g_aload_n C dL_act_249 rfl 3 rfl ?_
                refine g_iload C dL_act_250 1 rfl ?_
                refine g_iload C dL_act_252 0 rfl ?_
                refine g_st (st1 := [.int (fL_low x 5), .int (nI ((fL_low (v >>> (4 &&& 31)) (fT_tickets β)).toNatClampNeg)), .ref ax]) (by rw [← hT.1]) ?_
                refine g_st (st1 := [.int (nI ((fL_low x 5).toNatClampNeg)), .int (nI ((fL_low (v >>> (4 &&& 31)) (fT_tickets β)).toNatClampNeg)), .ref ax]) (by rw [← hO.1]) ?_
                refine g_callV C (cs1 := [wX ax (bo 0) (tr 0) (ac 0) (ah 0) (at_ 0), wB E bo ((fT_assign β η σ ((fL_low (v >>> (4 &&& 31)) (fT_tickets β)).toNatClampNeg) ((fL_low x 5).toNatClampNeg)).2.1), wB E tr τ, wC E ac γ, wH E ah bd ((fT_assign β η σ ((fL_low (v >>> (4 &&& 31)) (fT_tickets β)).toNatClampNeg) ((fL_low x 5).toNatClampNeg)).2.2.1), wT E at_ θ, wB E (bd 2) ((fT_assign β η σ ((fL_low (v >>> (4 &&& 31)) (fT_tickets β)).toNatClampNeg) ((fL_low x 5).toNatClampNeg)).2.2.2 2), wB E (bd 3) ((fT_assign β η σ ((fL_low (v >>> (4 &&& 31)) (fT_tickets β)).toNatClampNeg) ((fL_low x 5).toNatClampNeg)).2.2.2 3), wB E (bd 4) ((fT_assign β η σ ((fL_low (v >>> (4 &&& 31)) (fT_tickets β)).toNatClampNeg) ((fL_low x 5).toNatClampNeg)).2.2.2 4), wB E (bd 5) ((fT_assign β η σ ((fL_low (v >>> (4 &&& 31)) (fT_tickets β)).toNatClampNeg) ((fL_low x 5).toNatClampNeg)).2.2.2 5), wB E (bd 6) ((fT_assign β η σ ((fL_low (v >>> (4 &&& 31)) (fT_tickets β)).toNatClampNeg) ((fL_low x 5).toNatClampNeg)).2.2.2 6), wB E (bd 7) ((fT_assign β η σ ((fL_low (v >>> (4 &&& 31)) (fT_tickets β)).toNatClampNeg) ((fL_low x 5).toNatClampNeg)).2.2.2 7), wB E (bd 8) ((fT_assign β η σ ((fL_low (v >>> (4 &&& 31)) (fT_tickets β)).toNatClampNeg) ((fL_low x 5).toNatClampNeg)).2.2.2 8), wB E (bd 9) ((fT_assign β η σ ((fL_low (v >>> (4 &&& 31)) (fT_tickets β)).toNatClampNeg) ((fL_low x 5).toNatClampNeg)).2.2.2 9)]) (st1 := [.int ((fT_assign β η σ ((fL_low (v >>> (4 &&& 31)) (fT_tickets β)).toNatClampNeg) ((fL_low x 5).toNatClampNeg)).1)]) [.int (nI ((fL_low (v >>> (4 &&& 31)) (fT_tickets β)).toNatClampNeg)), .int (nI ((fL_low x 5).toNatClampNeg))] [0, 1, 2, 3, 4, 5, 6, 7, 8, 9, 10, 11, 12, 13] (kT_assign l E ax bo β tr τ ac γ ah bd η σ at_ θ hv hvh ((fL_low (v >>> (4 &&& 31)) (fT_tickets β)).toNatClampNeg) (by omega) ((fL_low x 5).toNatClampNeg) (by omega) (hasT_n hv hT.2) (own_n hO.2) (give_of hI hT.2 hO.2 hs9 hw9 hc8)) caX6_assign q3_103 rfl ⟨Nat.le_of_ble_eq_true rfl, Nat.le_of_ble_eq_true rfl⟩ ⟨Nat.zero_le _, Nat.zero_le _⟩ 0 0 rfl rfl rfl rfl (by decide) rfl rfl rfl rfl (Nat.le_of_ble_eq_true rfl) dL_act_254 rfl ?_
                refine g_pop C dL_act_257 rfl ?_
                refine g_iconst C (v := 1) dL_act_258 (by decide) ?_
                have e_71 : fL_act β η σ v x = (true, (fT_assign β η σ ((fL_low (v >>> (4 &&& 31)) (fT_tickets β)).toNatClampNeg) ((fL_low x 5).toNatClampNeg)).2.1, (fT_assign β η σ ((fL_low (v >>> (4 &&& 31)) (fT_tickets β)).toNatClampNeg) ((fL_low x 5).toNatClampNeg)).2.2.1, (fT_assign β η σ ((fL_low (v >>> (4 &&& 31)) (fT_tickets β)).toNatClampNeg) ((fL_low x 5).toNatClampNeg)).2.2.2) := by rw [fL_act]; rw [if_neg c_1, if_neg c_2, if_neg c_6, if_neg c_19, if_neg c_32, if_neg c_45, if_pos c_59, if_neg c_60, if_neg c_62, if_pos c_64, if_neg c_68, if_pos c_70]
                exact g_zret (b := true) C hE (by rw [e_71]) rfl (by rw [e_71] <;> rfl) dL_act_259
              · skip
                refine g_iconst C (v := 0) dL_act_247 (by decide) ?_
                have e_72 : fL_act β η σ v x = (false, β, η, σ) := by rw [fL_act]; rw [if_neg c_1, if_neg c_2, if_neg c_6, if_neg c_19, if_neg c_32, if_neg c_45, if_pos c_59, if_neg c_60, if_neg c_62, if_pos c_64, if_neg c_68, if_neg c_70]
                exact g_zret (b := false) C hE (by rw [e_72]) rfl (by rw [e_72] <;> rfl) dL_act_248
    refine (Decidable.em ((v &&& 15) = 6)).elim (fun c_73 => ?_) (fun c_73 => ?_)
    · refine g_tblK C 260 dL_act_33 c_73 (by decide) (by decide) rfl (by decide) ?_
      refine g_iload C dL_act_260 1 rfl ?_
      refine g_if_lt C 298 dL_act_262 (by decide) (fun c_74 => ?_) (fun c_74 => ?_)
      · skip
        refine g_iconst C (v := 0) dL_act_298 (by decide) ?_
        have e_75 : fL_act β η σ v x = (false, β, η, σ) := by rw [fL_act]; rw [if_neg c_1, if_neg c_2, if_neg c_6, if_neg c_19, if_neg c_32, if_neg c_45, if_neg c_59, if_pos c_73, if_pos c_74]
        exact g_zret (b := false) C hE (by rw [e_75]) rfl (by rw [e_75] <;> rfl) dL_act_299
      · skip
        refine g_aload_n C dL_act_265 rfl 3 rfl ?_
        refine g_iload C dL_act_266 1 rfl ?_
        refine g_st (st1 := [.int (nI ((fL_low (v >>> (4 &&& 31)) (fT_tickets β)).toNatClampNeg)), .ref ax]) (by rw [← hT.1]) ?_
        refine g_callV C (cs1 := [wX ax (bo 0) (tr 0) (ac 0) (ah 0) (at_ 0), wB E bo β, wB E tr τ, wC E ac γ, wH E ah bd η, wT E at_ θ, wB E (bd 2) (σ 2), wB E (bd 3) (σ 3), wB E (bd 4) (σ 4), wB E (bd 5) (σ 5), wB E (bd 6) (σ 6), wB E (bd 7) (σ 7), wB E (bd 8) (σ 8), wB E (bd 9) (σ 9)]) (st1 := [.int (fT_stateOf β ((fL_low (v >>> (4 &&& 31)) (fT_tickets β)).toNatClampNeg))]) [.int (nI ((fL_low (v >>> (4 &&& 31)) (fT_tickets β)).toNatClampNeg))] [0, 1, 2, 3, 4, 5, 6, 7, 8, 9, 10, 11, 12, 13] (kT_stateOf l E ax bo β tr τ ac γ ah bd η σ at_ θ hv ((fL_low (v >>> (4 &&& 31)) (fT_tickets β)).toNatClampNeg) (by omega) (hasT_n hv hT.2)) caX6_stateOf q2_193 rfl ⟨Nat.le_of_ble_eq_true rfl, Nat.le_of_ble_eq_true rfl⟩ ⟨Nat.zero_le _, Nat.zero_le _⟩ 0 0 rfl rfl rfl rfl (by decide) rfl rfl rfl rfl (Nat.le_of_ble_eq_true rfl) dL_act_268 rfl ?_
        refine g_iconst C (v := 2) dL_act_271 (by decide) ?_
        refine g_icmp_gt C 298 dL_act_272 (by decide) (fun c_76 => ?_) (fun c_76 => ?_)
        · skip
          refine g_iconst C (v := 0) dL_act_298 (by decide) ?_
          have e_77 : fL_act β η σ v x = (false, β, η, σ) := by rw [fL_act]; rw [if_neg c_1, if_neg c_2, if_neg c_6, if_neg c_19, if_neg c_32, if_neg c_45, if_neg c_59, if_pos c_73, if_neg c_74, if_pos c_76]
          exact g_zret (b := false) C hE (by rw [e_77]) rfl (by rw [e_77] <;> rfl) dL_act_299
        · skip
          have hs9 := c_76
          refine g_aload_n C dL_act_275 rfl 3 rfl ?_
          refine g_iload C dL_act_276 1 rfl ?_
          refine g_st (st1 := [.int (nI ((fL_low (v >>> (4 &&& 31)) (fT_tickets β)).toNatClampNeg)), .ref ax]) (by rw [← hT.1]) ?_
          refine g_callV C (cs1 := [wX ax (bo 0) (tr 0) (ac 0) (ah 0) (at_ 0), wB E bo β, wB E tr τ, wC E ac γ, wH E ah bd η, wT E at_ θ, wB E (bd 2) (σ 2), wB E (bd 3) (σ 3), wB E (bd 4) (σ 4), wB E (bd 5) (σ 5), wB E (bd 6) (σ 6), wB E (bd 7) (σ 7), wB E (bd 8) (σ 8), wB E (bd 9) (σ 9)]) (st1 := [.int (b2i (fT_isPlanned β ((fL_low (v >>> (4 &&& 31)) (fT_tickets β)).toNatClampNeg)))]) [.int (nI ((fL_low (v >>> (4 &&& 31)) (fT_tickets β)).toNatClampNeg))] [0, 1, 2, 3, 4, 5, 6, 7, 8, 9, 10, 11, 12, 13] (kT_isPlanned l E ax bo β tr τ ac γ ah bd η σ at_ θ hv ((fL_low (v >>> (4 &&& 31)) (fT_tickets β)).toNatClampNeg) (by omega) (hasT_n hv hT.2)) caX6_isPlanned q2_217 rfl ⟨Nat.le_of_ble_eq_true rfl, Nat.le_of_ble_eq_true rfl⟩ ⟨Nat.zero_le _, Nat.zero_le _⟩ 0 0 rfl rfl rfl rfl (by decide) rfl rfl rfl rfl (Nat.le_of_ble_eq_true rfl) dL_act_278 rfl ?_
          refine g_ifB_eq C 300 dL_act_281 (by decide) (fun c_78 => ?_) (fun c_78 => ?_)
          · skip
            have hw9 : ¬ (β.2 4 (fL_low (v >>> (4 &&& 31)) (fT_tickets β)).toNatClampNeg) = (nI (fL_low x 4).toNatClampNeg) := mil_none c_78 hM.2
            refine g_aload_n C dL_act_300 rfl 3 rfl ?_
            refine g_iload C dL_act_301 1 rfl ?_
            refine g_iload_n C dL_act_303 rfl 5 rfl ?_
            refine g_iconst C (v := 4) dL_act_304 (by decide) ?_
            refine g_callS C (cs1 := [wX ax (bo 0) (tr 0) (ac 0) (ah 0) (at_ 0), wB E bo β, wB E tr τ, wC E ac γ, wH E ah bd η, wT E at_ θ, wB E (bd 2) (σ 2), wB E (bd 3) (σ 3), wB E (bd 4) (σ 4), wB E (bd 5) (σ 5), wB E (bd 6) (σ 6), wB E (bd 7) (σ 7), wB E (bd 8) (σ 8), wB E (bd 9) (σ 9)]) (st1 := [.int (fL_low x 4), .int (fL_low (v >>> (4 &&& 31)) (fT_tickets β)), .ref ax]) [.int x, .int 4] [] (kL_low l E x 4 (by decide)) caL_low q3_26 rfl ⟨Nat.le_of_ble_eq_true rfl, Nat.le_of_ble_eq_true rfl⟩ ⟨Nat.zero_le _, Nat.zero_le _⟩ (by decide) rfl rfl rfl rfl (Nat.le_of_ble_eq_true rfl) dL_act_305 rfl ?_
            refine g_st (st1 := [.int (fL_low x 4), .int (nI ((fL_low (v >>> (4 &&& 31)) (fT_tickets β)).toNatClampNeg)), .ref ax]) (by rw [← hT.1]) ?_
            refine g_st (st1 := [.int (nI ((fL_low x 4).toNatClampNeg)), .int (nI ((fL_low (v >>> (4 &&& 31)) (fT_tickets β)).toNatClampNeg)), .ref ax]) (by rw [← hM.1]) ?_
            refine g_callV C (cs1 := [wX ax (bo 0) (tr 0) (ac 0) (ah 0) (at_ 0), wB E bo ((fT_plan β η σ ((fL_low (v >>> (4 &&& 31)) (fT_tickets β)).toNatClampNeg) ((fL_low x 4).toNatClampNeg)).2.1), wB E tr τ, wC E ac γ, wH E ah bd ((fT_plan β η σ ((fL_low (v >>> (4 &&& 31)) (fT_tickets β)).toNatClampNeg) ((fL_low x 4).toNatClampNeg)).2.2.1), wT E at_ θ, wB E (bd 2) ((fT_plan β η σ ((fL_low (v >>> (4 &&& 31)) (fT_tickets β)).toNatClampNeg) ((fL_low x 4).toNatClampNeg)).2.2.2 2), wB E (bd 3) ((fT_plan β η σ ((fL_low (v >>> (4 &&& 31)) (fT_tickets β)).toNatClampNeg) ((fL_low x 4).toNatClampNeg)).2.2.2 3), wB E (bd 4) ((fT_plan β η σ ((fL_low (v >>> (4 &&& 31)) (fT_tickets β)).toNatClampNeg) ((fL_low x 4).toNatClampNeg)).2.2.2 4), wB E (bd 5) ((fT_plan β η σ ((fL_low (v >>> (4 &&& 31)) (fT_tickets β)).toNatClampNeg) ((fL_low x 4).toNatClampNeg)).2.2.2 5), wB E (bd 6) ((fT_plan β η σ ((fL_low (v >>> (4 &&& 31)) (fT_tickets β)).toNatClampNeg) ((fL_low x 4).toNatClampNeg)).2.2.2 6), wB E (bd 7) ((fT_plan β η σ ((fL_low (v >>> (4 &&& 31)) (fT_tickets β)).toNatClampNeg) ((fL_low x 4).toNatClampNeg)).2.2.2 7), wB E (bd 8) ((fT_plan β η σ ((fL_low (v >>> (4 &&& 31)) (fT_tickets β)).toNatClampNeg) ((fL_low x 4).toNatClampNeg)).2.2.2 8), wB E (bd 9) ((fT_plan β η σ ((fL_low (v >>> (4 &&& 31)) (fT_tickets β)).toNatClampNeg) ((fL_low x 4).toNatClampNeg)).2.2.2 9)]) (st1 := [.int ((fT_plan β η σ ((fL_low (v >>> (4 &&& 31)) (fT_tickets β)).toNatClampNeg) ((fL_low x 4).toNatClampNeg)).1)]) [.int (nI ((fL_low (v >>> (4 &&& 31)) (fT_tickets β)).toNatClampNeg)), .int (nI ((fL_low x 4).toNatClampNeg))] [0, 1, 2, 3, 4, 5, 6, 7, 8, 9, 10, 11, 12, 13] (kT_plan l E ax bo β tr τ ac γ ah bd η σ at_ θ hv hvh ((fL_low (v >>> (4 &&& 31)) (fT_tickets β)).toNatClampNeg) (by omega) ((fL_low x 4).toNatClampNeg) (by omega) (hasT_n hv hT.2) (mil_n hM.2) (unf_of hI hT.2 hs9) hw9) caX6_plan q3_123 rfl ⟨Nat.le_of_ble_eq_true rfl, Nat.le_of_ble_eq_true rfl⟩ ⟨Nat.zero_le _, Nat.zero_le _⟩ 0 0 rfl rfl rfl rfl (by decide) rfl rfl rfl rfl (Nat.le_of_ble_eq_true rfl) dL_act_308 rfl ?_
            refine g_pop C dL_act_311 rfl ?_
            refine g_iconst C (v := 1) dL_act_312 (by decide) ?_
            have e_79 : fL_act β η σ v x = (true, (fT_plan β η σ ((fL_low (v >>> (4 &&& 31)) (fT_tickets β)).toNatClampNeg) ((fL_low x 4).toNatClampNeg)).2.1, (fT_plan β η σ ((fL_low (v >>> (4 &&& 31)) (fT_tickets β)).toNatClampNeg) ((fL_low x 4).toNatClampNeg)).2.2.1, (fT_plan β η σ ((fL_low (v >>> (4 &&& 31)) (fT_tickets β)).toNatClampNeg) ((fL_low x 4).toNatClampNeg)).2.2.2) := by rw [fL_act]; rw [if_neg c_1, if_neg c_2, if_neg c_6, if_neg c_19, if_neg c_32, if_neg c_45, if_neg c_59, if_pos c_73, if_neg c_74, if_neg c_76, if_neg (ne_true_of_eq_false c_78)]
            exact g_zret (b := true) C hE (by rw [e_79]) rfl (by rw [e_79] <;> rfl) dL_act_313
          · skip
            have hp9 := c_78
            refine g_aload_n C dL_act_284 rfl 3 rfl ?_
            refine g_iload C dL_act_285 1 rfl ?_
            refine g_st (st1 := [.int (nI ((fL_low (v >>> (4 &&& 31)) (fT_tickets β)).toNatClampNeg)), .ref ax]) (by rw [← hT.1]) ?_
            refine g_callV C (cs1 := [wX ax (bo 0) (tr 0) (ac 0) (ah 0) (at_ 0), wB E bo β, wB E tr τ, wC E ac γ, wH E ah bd η, wT E at_ θ, wB E (bd 2) (σ 2), wB E (bd 3) (σ 3), wB E (bd 4) (σ 4), wB E (bd 5) (σ 5), wB E (bd 6) (σ 6), wB E (bd 7) (σ 7), wB E (bd 8) (σ 8), wB E (bd 9) (σ 9)]) (st1 := [.int (fT_milestoneOf β ((fL_low (v >>> (4 &&& 31)) (fT_tickets β)).toNatClampNeg))]) [.int (nI ((fL_low (v >>> (4 &&& 31)) (fT_tickets β)).toNatClampNeg))] [0, 1, 2, 3, 4, 5, 6, 7, 8, 9, 10, 11, 12, 13] (kT_milestoneOf l E ax bo β tr τ ac γ ah bd η σ at_ θ hv ((fL_low (v >>> (4 &&& 31)) (fT_tickets β)).toNatClampNeg) (by omega) (isPlanned_ne hp9) (hasT_n hv hT.2)) caX6_milestoneOf q2_221 rfl ⟨Nat.le_of_ble_eq_true rfl, Nat.le_of_ble_eq_true rfl⟩ ⟨Nat.zero_le _, Nat.zero_le _⟩ 0 0 rfl rfl rfl rfl (by decide) rfl rfl rfl rfl (Nat.le_of_ble_eq_true rfl) dL_act_287 rfl ?_
            refine g_iload_n C dL_act_290 rfl 5 rfl ?_
            refine g_iconst C (v := 4) dL_act_291 (by decide) ?_
            refine g_callS C (cs1 := [wX ax (bo 0) (tr 0) (ac 0) (ah 0) (at_ 0), wB E bo β, wB E tr τ, wC E ac γ, wH E ah bd η, wT E at_ θ, wB E (bd 2) (σ 2), wB E (bd 3) (σ 3), wB E (bd 4) (σ 4), wB E (bd 5) (σ 5), wB E (bd 6) (σ 6), wB E (bd 7) (σ 7), wB E (bd 8) (σ 8), wB E (bd 9) (σ 9)]) (st1 := [.int (fL_low x 4), .int (fT_milestoneOf β ((fL_low (v >>> (4 &&& 31)) (fT_tickets β)).toNatClampNeg))]) [.int x, .int 4] [] (kL_low l E x 4 (by decide)) caL_low q3_26 rfl ⟨Nat.le_of_ble_eq_true rfl, Nat.le_of_ble_eq_true rfl⟩ ⟨Nat.zero_le _, Nat.zero_le _⟩ (by decide) rfl rfl rfl rfl (Nat.le_of_ble_eq_true rfl) dL_act_292 rfl ?_
            refine g_icmp_ne C 300 dL_act_295 (by decide) (fun c_80 => ?_) (fun c_80 => ?_)
            · skip
              have hw9 : ¬ (β.2 4 (fL_low (v >>> (4 &&& 31)) (fT_tickets β)).toNatClampNeg) = (nI (fL_low x 4).toNatClampNeg) := fun q => c_80 (q.trans hM.1.symm)
              refine g_aload_n C dL_act_300 rfl 3 rfl ?_
              refine g_iload C dL_act_301 1 rfl ?_
              refine g_iload_n C dL_act_303 rfl 5 rfl ?_
              refine g_iconst C (v := 4) dL_act_304 (by decide) ?_
              refine g_callS C (cs1 := [wX ax (bo 0) (tr 0) (ac 0) (ah 0) (at_ 0), wB E bo β, wB E tr τ, wC E ac γ, wH E ah bd η, wT E at_ θ, wB E (bd 2) (σ 2), wB E (bd 3) (σ 3), wB E (bd 4) (σ 4), wB E (bd 5) (σ 5), wB E (bd 6) (σ 6), wB E (bd 7) (σ 7), wB E (bd 8) (σ 8), wB E (bd 9) (σ 9)]) (st1 := [.int (fL_low x 4), .int (fL_low (v >>> (4 &&& 31)) (fT_tickets β)), .ref ax]) [.int x, .int 4] [] (kL_low l E x 4 (by decide)) caL_low q3_26 rfl ⟨Nat.le_of_ble_eq_true rfl, Nat.le_of_ble_eq_true rfl⟩ ⟨Nat.zero_le _, Nat.zero_le _⟩ (by decide) rfl rfl rfl rfl (Nat.le_of_ble_eq_true rfl) dL_act_305 rfl ?_
              refine g_st (st1 := [.int (fL_low x 4), .int (nI ((fL_low (v >>> (4 &&& 31)) (fT_tickets β)).toNatClampNeg)), .ref ax]) (by rw [← hT.1]) ?_
              refine g_st (st1 := [.int (nI ((fL_low x 4).toNatClampNeg)), .int (nI ((fL_low (v >>> (4 &&& 31)) (fT_tickets β)).toNatClampNeg)), .ref ax]) (by rw [← hM.1]) ?_
              refine g_callV C (cs1 := [wX ax (bo 0) (tr 0) (ac 0) (ah 0) (at_ 0), wB E bo ((fT_plan β η σ ((fL_low (v >>> (4 &&& 31)) (fT_tickets β)).toNatClampNeg) ((fL_low x 4).toNatClampNeg)).2.1), wB E tr τ, wC E ac γ, wH E ah bd ((fT_plan β η σ ((fL_low (v >>> (4 &&& 31)) (fT_tickets β)).toNatClampNeg) ((fL_low x 4).toNatClampNeg)).2.2.1), wT E at_ θ, wB E (bd 2) ((fT_plan β η σ ((fL_low (v >>> (4 &&& 31)) (fT_tickets β)).toNatClampNeg) ((fL_low x 4).toNatClampNeg)).2.2.2 2), wB E (bd 3) ((fT_plan β η σ ((fL_low (v >>> (4 &&& 31)) (fT_tickets β)).toNatClampNeg) ((fL_low x 4).toNatClampNeg)).2.2.2 3), wB E (bd 4) ((fT_plan β η σ ((fL_low (v >>> (4 &&& 31)) (fT_tickets β)).toNatClampNeg) ((fL_low x 4).toNatClampNeg)).2.2.2 4), wB E (bd 5) ((fT_plan β η σ ((fL_low (v >>> (4 &&& 31)) (fT_tickets β)).toNatClampNeg) ((fL_low x 4).toNatClampNeg)).2.2.2 5), wB E (bd 6) ((fT_plan β η σ ((fL_low (v >>> (4 &&& 31)) (fT_tickets β)).toNatClampNeg) ((fL_low x 4).toNatClampNeg)).2.2.2 6), wB E (bd 7) ((fT_plan β η σ ((fL_low (v >>> (4 &&& 31)) (fT_tickets β)).toNatClampNeg) ((fL_low x 4).toNatClampNeg)).2.2.2 7), wB E (bd 8) ((fT_plan β η σ ((fL_low (v >>> (4 &&& 31)) (fT_tickets β)).toNatClampNeg) ((fL_low x 4).toNatClampNeg)).2.2.2 8), wB E (bd 9) ((fT_plan β η σ ((fL_low (v >>> (4 &&& 31)) (fT_tickets β)).toNatClampNeg) ((fL_low x 4).toNatClampNeg)).2.2.2 9)]) (st1 := [.int ((fT_plan β η σ ((fL_low (v >>> (4 &&& 31)) (fT_tickets β)).toNatClampNeg) ((fL_low x 4).toNatClampNeg)).1)]) [.int (nI ((fL_low (v >>> (4 &&& 31)) (fT_tickets β)).toNatClampNeg)), .int (nI ((fL_low x 4).toNatClampNeg))] [0, 1, 2, 3, 4, 5, 6, 7, 8, 9, 10, 11, 12, 13] (kT_plan l E ax bo β tr τ ac γ ah bd η σ at_ θ hv hvh ((fL_low (v >>> (4 &&& 31)) (fT_tickets β)).toNatClampNeg) (by omega) ((fL_low x 4).toNatClampNeg) (by omega) (hasT_n hv hT.2) (mil_n hM.2) (unf_of hI hT.2 hs9) hw9) caX6_plan q3_123 rfl ⟨Nat.le_of_ble_eq_true rfl, Nat.le_of_ble_eq_true rfl⟩ ⟨Nat.zero_le _, Nat.zero_le _⟩ 0 0 rfl rfl rfl rfl (by decide) rfl rfl rfl rfl (Nat.le_of_ble_eq_true rfl) dL_act_308 rfl ?_
              refine g_pop C dL_act_311 rfl ?_
              refine g_iconst C (v := 1) dL_act_312 (by decide) ?_
              have e_81 : fL_act β η σ v x = (true, (fT_plan β η σ ((fL_low (v >>> (4 &&& 31)) (fT_tickets β)).toNatClampNeg) ((fL_low x 4).toNatClampNeg)).2.1, (fT_plan β η σ ((fL_low (v >>> (4 &&& 31)) (fT_tickets β)).toNatClampNeg) ((fL_low x 4).toNatClampNeg)).2.2.1, (fT_plan β η σ ((fL_low (v >>> (4 &&& 31)) (fT_tickets β)).toNatClampNeg) ((fL_low x 4).toNatClampNeg)).2.2.2) := by rw [fL_act]; rw [if_neg c_1, if_neg c_2, if_neg c_6, if_neg c_19, if_neg c_32, if_neg c_45, if_neg c_59, if_pos c_73, if_neg c_74, if_neg c_76, if_pos c_78, if_neg c_80]
              exact g_zret (b := true) C hE (by rw [e_81]) rfl (by rw [e_81] <;> rfl) dL_act_313
            · skip
              refine g_iconst C (v := 0) dL_act_298 (by decide) ?_
              have e_82 : fL_act β η σ v x = (false, β, η, σ) := by rw [fL_act]; rw [if_neg c_1, if_neg c_2, if_neg c_6, if_neg c_19, if_neg c_32, if_neg c_45, if_neg c_59, if_pos c_73, if_neg c_74, if_neg c_76, if_pos c_78, if_pos c_80]
              exact g_zret (b := false) C hE (by rw [e_82]) rfl (by rw [e_82] <;> rfl) dL_act_299
    refine (Decidable.em ((v &&& 15) = 7)).elim (fun c_83 => ?_) (fun c_83 => ?_)
    · refine g_tblK C 314 dL_act_33 c_83 (by decide) (by decide) rfl (by decide) ?_
      refine g_iload C dL_act_314 1 rfl ?_
      refine g_if_lt C 335 dL_act_316 (by decide) (fun c_84 => ?_) (fun c_84 => ?_)
      · skip
        refine g_iconst C (v := 0) dL_act_335 (by decide) ?_
        have e_85 : fL_act β η σ v x = (false, β, η, σ) := by rw [fL_act]; rw [if_neg c_1, if_neg c_2, if_neg c_6, if_neg c_19, if_neg c_32, if_neg c_45, if_neg c_59, if_neg c_73, if_pos c_83, if_pos c_84]
        exact g_zret (b := false) C hE (by rw [e_85]) rfl (by rw [e_85] <;> rfl) dL_act_336
      · skip
        refine g_aload_n C dL_act_319 rfl 3 rfl ?_
        refine g_iload C dL_act_320 1 rfl ?_
        refine g_st (st1 := [.int (nI ((fL_low (v >>> (4 &&& 31)) (fT_tickets β)).toNatClampNeg)), .ref ax]) (by rw [← hT.1]) ?_
        refine g_callV C (cs1 := [wX ax (bo 0) (tr 0) (ac 0) (ah 0) (at_ 0), wB E bo β, wB E tr τ, wC E ac γ, wH E ah bd η, wT E at_ θ, wB E (bd 2) (σ 2), wB E (bd 3) (σ 3), wB E (bd 4) (σ 4), wB E (bd 5) (σ 5), wB E (bd 6) (σ 6), wB E (bd 7) (σ 7), wB E (bd 8) (σ 8), wB E (bd 9) (σ 9)]) (st1 := [.int (fT_stateOf β ((fL_low (v >>> (4 &&& 31)) (fT_tickets β)).toNatClampNeg))]) [.int (nI ((fL_low (v >>> (4 &&& 31)) (fT_tickets β)).toNatClampNeg))] [0, 1, 2, 3, 4, 5, 6, 7, 8, 9, 10, 11, 12, 13] (kT_stateOf l E ax bo β tr τ ac γ ah bd η σ at_ θ hv ((fL_low (v >>> (4 &&& 31)) (fT_tickets β)).toNatClampNeg) (by omega) (hasT_n hv hT.2)) caX6_stateOf q2_193 rfl ⟨Nat.le_of_ble_eq_true rfl, Nat.le_of_ble_eq_true rfl⟩ ⟨Nat.zero_le _, Nat.zero_le _⟩ 0 0 rfl rfl rfl rfl (by decide) rfl rfl rfl rfl (Nat.le_of_ble_eq_true rfl) dL_act_322 rfl ?_
        refine g_iconst C (v := 2) dL_act_325 (by decide) ?_
        refine g_icmp_gt C 335 dL_act_326 (by decide) (fun c_86 => ?_) (fun c_86 => ?_)
        · skip
          refine g_iconst C (v := 0) dL_act_335 (by decide) ?_
          have e_87 : fL_act β η σ v x = (false, β, η, σ) := by rw [fL_act]; rw [if_neg c_1, if_neg c_2, if_neg c_6, if_neg c_19, if_neg c_32, if_neg c_45, if_neg c_59, if_neg c_73, if_pos c_83, if_neg c_84, if_pos c_86]
          exact g_zret (b := false) C hE (by rw [e_87]) rfl (by rw [e_87] <;> rfl) dL_act_336
        · skip
          have hs9 := c_86
          refine g_iload_n C dL_act_329 rfl 5 rfl ?_
          refine g_iconst C (v := 3) dL_act_330 (by decide) ?_
          refine g_iand C dL_act_331 ?_
          refine g_if_le C 337 dL_act_332 (by decide) (fun c_88 => ?_) (fun c_88 => ?_)
          · skip
            refine g_aload_n C dL_act_337 rfl 3 rfl ?_
            refine g_iload C dL_act_338 1 rfl ?_
            refine g_st (st1 := [.int (nI ((fL_low (v >>> (4 &&& 31)) (fT_tickets β)).toNatClampNeg)), .ref ax]) (by rw [← hT.1]) ?_
            refine g_callV C (cs1 := [wX ax (bo 0) (tr 0) (ac 0) (ah 0) (at_ 0), wB E bo ((fT_drop β η σ ((fL_low (v >>> (4 &&& 31)) (fT_tickets β)).toNatClampNeg)).2.1), wB E tr τ, wC E ac γ, wH E ah bd ((fT_drop β η σ ((fL_low (v >>> (4 &&& 31)) (fT_tickets β)).toNatClampNeg)).2.2.1), wT E at_ θ, wB E (bd 2) ((fT_drop β η σ ((fL_low (v >>> (4 &&& 31)) (fT_tickets β)).toNatClampNeg)).2.2.2 2), wB E (bd 3) ((fT_drop β η σ ((fL_low (v >>> (4 &&& 31)) (fT_tickets β)).toNatClampNeg)).2.2.2 3), wB E (bd 4) ((fT_drop β η σ ((fL_low (v >>> (4 &&& 31)) (fT_tickets β)).toNatClampNeg)).2.2.2 4), wB E (bd 5) ((fT_drop β η σ ((fL_low (v >>> (4 &&& 31)) (fT_tickets β)).toNatClampNeg)).2.2.2 5), wB E (bd 6) ((fT_drop β η σ ((fL_low (v >>> (4 &&& 31)) (fT_tickets β)).toNatClampNeg)).2.2.2 6), wB E (bd 7) ((fT_drop β η σ ((fL_low (v >>> (4 &&& 31)) (fT_tickets β)).toNatClampNeg)).2.2.2 7), wB E (bd 8) ((fT_drop β η σ ((fL_low (v >>> (4 &&& 31)) (fT_tickets β)).toNatClampNeg)).2.2.2 8), wB E (bd 9) ((fT_drop β η σ ((fL_low (v >>> (4 &&& 31)) (fT_tickets β)).toNatClampNeg)).2.2.2 9)]) (st1 := [.int ((fT_drop β η σ ((fL_low (v >>> (4 &&& 31)) (fT_tickets β)).toNatClampNeg)).1)]) [.int (nI ((fL_low (v >>> (4 &&& 31)) (fT_tickets β)).toNatClampNeg))] [0, 1, 2, 3, 4, 5, 6, 7, 8, 9, 10, 11, 12, 13] (kT_drop l E ax bo β tr τ ac γ ah bd η σ at_ θ hv hvh ((fL_low (v >>> (4 &&& 31)) (fT_tickets β)).toNatClampNeg) (by omega) (hasT_n hv hT.2) (unf_of hI hT.2 hs9)) caX6_drop q3_128 rfl ⟨Nat.le_of_ble_eq_true rfl, Nat.le_of_ble_eq_true rfl⟩ ⟨Nat.zero_le _, Nat.zero_le _⟩ 0 0 rfl rfl rfl rfl (by decide) rfl rfl rfl rfl (Nat.le_of_ble_eq_true rfl) dL_act_340 rfl ?_
            refine g_pop C dL_act_343 rfl ?_
            refine g_iconst C (v := 1) dL_act_344 (by decide) ?_
            have e_89 : fL_act β η σ v x = (true, (fT_drop β η σ ((fL_low (v >>> (4 &&& 31)) (fT_tickets β)).toNatClampNeg)).2.1, (fT_drop β η σ ((fL_low (v >>> (4 &&& 31)) (fT_tickets β)).toNatClampNeg)).2.2.1, (fT_drop β η σ ((fL_low (v >>> (4 &&& 31)) (fT_tickets β)).toNatClampNeg)).2.2.2) := by rw [fL_act]; rw [if_neg c_1, if_neg c_2, if_neg c_6, if_neg c_19, if_neg c_32, if_neg c_45, if_neg c_59, if_neg c_73, if_pos c_83, if_neg c_84, if_neg c_86, if_pos c_88]
            exact g_zret (b := true) C hE (by rw [e_89]) rfl (by rw [e_89] <;> rfl) dL_act_345
          · skip
            refine g_iconst C (v := 0) dL_act_335 (by decide) ?_
            have e_90 : fL_act β η σ v x = (false, β, η, σ) := by rw [fL_act]; rw [if_neg c_1, if_neg c_2, if_neg c_6, if_neg c_19, if_neg c_32, if_neg c_45, if_neg c_59, if_neg c_73, if_pos c_83, if_neg c_84, if_neg c_86, if_neg c_88]
            exact g_zret (b := false) C hE (by rw [e_90]) rfl (by rw [e_90] <;> rfl) dL_act_336
    refine (Decidable.em ((v &&& 15) = 8)).elim (fun c_91 => ?_) (fun c_91 => ?_)
    · refine g_tblK C 346 dL_act_33 c_91 (by decide) (by decide) rfl (by decide) ?_
      refine g_aload_n C dL_act_346 rfl 3 rfl ?_
      refine g_iconst C (v := 1) dL_act_347 (by decide) ?_
      refine g_iload_n C dL_act_348 rfl 5 rfl ?_
      refine g_bipush C (v := 12) dL_act_349 (by decide) ?_
      refine g_callS C (cs1 := [wX ax (bo 0) (tr 0) (ac 0) (ah 0) (at_ 0), wB E bo β, wB E tr τ, wC E ac γ, wH E ah bd η, wT E at_ θ, wB E (bd 2) (σ 2), wB E (bd 3) (σ 3), wB E (bd 4) (σ 4), wB E (bd 5) (σ 5), wB E (bd 6) (σ 6), wB E (bd 7) (σ 7), wB E (bd 8) (σ 8), wB E (bd 9) (σ 9)]) (st1 := [.int (fL_low x 12), .int 1, .ref ax]) [.int x, .int 12] [] (kL_low l E x 12 (by decide)) caL_low q3_26 rfl ⟨Nat.le_of_ble_eq_true rfl, Nat.le_of_ble_eq_true rfl⟩ ⟨Nat.zero_le _, Nat.zero_le _⟩ (by decide) rfl rfl rfl rfl (Nat.le_of_ble_eq_true rfl) dL_act_351 rfl ?_
      refine g_iadd C dL_act_354 ?_
      refine g_callV C (cs1 := [wX ax (bo 0) (tr 0) (ac 0) (ah 0) (at_ 0), wB E bo ((fT_endDays β η σ (1 + (fL_low x 12))).2.1), wB E tr τ, wC E ac γ, wH E ah bd ((fT_endDays β η σ (1 + (fL_low x 12))).2.2.1), wT E at_ θ, wB E (bd 2) ((fT_endDays β η σ (1 + (fL_low x 12))).2.2.2 2), wB E (bd 3) ((fT_endDays β η σ (1 + (fL_low x 12))).2.2.2 3), wB E (bd 4) ((fT_endDays β η σ (1 + (fL_low x 12))).2.2.2 4), wB E (bd 5) ((fT_endDays β η σ (1 + (fL_low x 12))).2.2.2 5), wB E (bd 6) ((fT_endDays β η σ (1 + (fL_low x 12))).2.2.2 6), wB E (bd 7) ((fT_endDays β η σ (1 + (fL_low x 12))).2.2.2 7), wB E (bd 8) ((fT_endDays β η σ (1 + (fL_low x 12))).2.2.2 8), wB E (bd 9) ((fT_endDays β η σ (1 + (fL_low x 12))).2.2.2 9)]) (st1 := [.int ((fT_endDays β η σ (1 + (fL_low x 12))).1)]) [.int (1 + (fL_low x 12))] [0, 1, 2, 3, 4, 5, 6, 7, 8, 9, 10, 11, 12, 13] (kT_endDays l E ax bo β tr τ ac γ ah bd η σ at_ θ hv hvh (1 + (fL_low x 12)) (days_d x) (days_of hI x)) caX6_endDays q3_145 rfl ⟨Nat.le_of_ble_eq_true rfl, Nat.le_of_ble_eq_true rfl⟩ ⟨Nat.zero_le _, Nat.zero_le _⟩ 0 0 rfl rfl rfl rfl (by decide) rfl rfl rfl rfl (Nat.le_of_ble_eq_true rfl) dL_act_355 rfl ?_
      refine g_pop C dL_act_358 rfl ?_
      refine g_iconst C (v := 1) dL_act_359 (by decide) ?_
      have e_92 : fL_act β η σ v x = (true, (fT_endDays β η σ (1 + (fL_low x 12))).2.1, (fT_endDays β η σ (1 + (fL_low x 12))).2.2.1, (fT_endDays β η σ (1 + (fL_low x 12))).2.2.2) := by rw [fL_act]; rw [if_neg c_1, if_neg c_2, if_neg c_6, if_neg c_19, if_neg c_32, if_neg c_45, if_neg c_59, if_neg c_73, if_neg c_83, if_pos c_91]
      exact g_zret (b := true) C hE (by rw [e_92]) rfl (by rw [e_92] <;> rfl) dL_act_360
    refine (Decidable.em ((v &&& 15) = 9)).elim (fun c_93 => ?_) (fun c_93 => ?_)
    · refine g_tblK C 361 dL_act_33 c_93 (by decide) (by decide) rfl (by decide) ?_
      refine g_aload_n C dL_act_361 rfl 3 rfl ?_
      refine g_iload_n C dL_act_362 rfl 5 rfl ?_
      refine g_iconst C (v := 4) dL_act_363 (by decide) ?_
      refine g_callS C (cs1 := [wX ax (bo 0) (tr 0) (ac 0) (ah 0) (at_ 0), wB E bo β, wB E tr τ, wC E ac γ, wH E ah bd η, wT E at_ θ, wB E (bd 2) (σ 2), wB E (bd 3) (σ 3), wB E (bd 4) (σ 4), wB E (bd 5) (σ 5), wB E (bd 6) (σ 6), wB E (bd 7) (σ 7), wB E (bd 8) (σ 8), wB E (bd 9) (σ 9)]) (st1 := [.int (fL_low x 4), .ref ax]) [.int x, .int 4] [] (kL_low l E x 4 (by decide)) caL_low q3_26 rfl ⟨Nat.le_of_ble_eq_true rfl, Nat.le_of_ble_eq_true rfl⟩ ⟨Nat.zero_le _, Nat.zero_le _⟩ (by decide) rfl rfl rfl rfl (Nat.le_of_ble_eq_true rfl) dL_act_364 rfl ?_
      refine g_iload_n C dL_act_367 rfl 5 rfl ?_
      refine g_iconst C (v := 2) dL_act_368 (by decide) ?_
      refine g_ishr C dL_act_369 ?_
      refine g_bipush C (v := 60) dL_act_370 (by decide) ?_
      refine g_callS C (cs1 := [wX ax (bo 0) (tr 0) (ac 0) (ah 0) (at_ 0), wB E bo β, wB E tr τ, wC E ac γ, wH E ah bd η, wT E at_ θ, wB E (bd 2) (σ 2), wB E (bd 3) (σ 3), wB E (bd 4) (σ 4), wB E (bd 5) (σ 5), wB E (bd 6) (σ 6), wB E (bd 7) (σ 7), wB E (bd 8) (σ 8), wB E (bd 9) (σ 9)]) (st1 := [.int (fL_low (x >>> (2 &&& 31)) 60), .int (fL_low x 4), .ref ax]) [.int (x >>> (2 &&& 31)), .int 60] [] (kL_low l E (x >>> (2 &&& 31)) 60 (by decide)) caL_low q3_26 rfl ⟨Nat.le_of_ble_eq_true rfl, Nat.le_of_ble_eq_true rfl⟩ ⟨Nat.zero_le _, Nat.zero_le _⟩ (by decide) rfl rfl rfl rfl (Nat.le_of_ble_eq_true rfl) dL_act_372 rfl ?_
      refine g_st (st1 := [.int (fL_low (x >>> (2 &&& 31)) 60), .int (nI ((fL_low x 4).toNatClampNeg)), .ref ax]) (by rw [← hM.1]) ?_
      refine g_callV C (cs1 := [wX ax (bo 0) (tr 0) (ac 0) (ah 0) (at_ 0), wB E bo ((fT_changeDate β η σ ((fL_low x 4).toNatClampNeg) (fL_low (x >>> (2 &&& 31)) 60)).2.1), wB E tr τ, wC E ac γ, wH E ah bd ((fT_changeDate β η σ ((fL_low x 4).toNatClampNeg) (fL_low (x >>> (2 &&& 31)) 60)).2.2.1), wT E at_ θ, wB E (bd 2) ((fT_changeDate β η σ ((fL_low x 4).toNatClampNeg) (fL_low (x >>> (2 &&& 31)) 60)).2.2.2 2), wB E (bd 3) ((fT_changeDate β η σ ((fL_low x 4).toNatClampNeg) (fL_low (x >>> (2 &&& 31)) 60)).2.2.2 3), wB E (bd 4) ((fT_changeDate β η σ ((fL_low x 4).toNatClampNeg) (fL_low (x >>> (2 &&& 31)) 60)).2.2.2 4), wB E (bd 5) ((fT_changeDate β η σ ((fL_low x 4).toNatClampNeg) (fL_low (x >>> (2 &&& 31)) 60)).2.2.2 5), wB E (bd 6) ((fT_changeDate β η σ ((fL_low x 4).toNatClampNeg) (fL_low (x >>> (2 &&& 31)) 60)).2.2.2 6), wB E (bd 7) ((fT_changeDate β η σ ((fL_low x 4).toNatClampNeg) (fL_low (x >>> (2 &&& 31)) 60)).2.2.2 7), wB E (bd 8) ((fT_changeDate β η σ ((fL_low x 4).toNatClampNeg) (fL_low (x >>> (2 &&& 31)) 60)).2.2.2 8), wB E (bd 9) ((fT_changeDate β η σ ((fL_low x 4).toNatClampNeg) (fL_low (x >>> (2 &&& 31)) 60)).2.2.2 9)]) (st1 := [.int ((fT_changeDate β η σ ((fL_low x 4).toNatClampNeg) (fL_low (x >>> (2 &&& 31)) 60)).1)]) [.int (nI ((fL_low x 4).toNatClampNeg)), .int (fL_low (x >>> (2 &&& 31)) 60)] [0, 1, 2, 3, 4, 5, 6, 7, 8, 9, 10, 11, 12, 13] (kT_changeDate l E ax bo β tr τ ac γ ah bd η σ at_ θ hv hvh ((fL_low x 4).toNatClampNeg) (by omega) (fL_low (x >>> (2 &&& 31)) 60) (mil_n hM.2) (date_d (x >>> (2 &&& 31)))) caX6_changeDate q3_157 rfl ⟨Nat.le_of_ble_eq_true rfl, Nat.le_of_ble_eq_true rfl⟩ ⟨Nat.zero_le _, Nat.zero_le _⟩ 0 0 rfl rfl rfl rfl (by decide) rfl rfl rfl rfl (Nat.le_of_ble_eq_true rfl) dL_act_375 rfl ?_
      refine g_pop C dL_act_378 rfl ?_
      refine g_iconst C (v := 1) dL_act_379 (by decide) ?_
      have e_94 : fL_act β η σ v x = (true, (fT_changeDate β η σ ((fL_low x 4).toNatClampNeg) (fL_low (x >>> (2 &&& 31)) 60)).2.1, (fT_changeDate β η σ ((fL_low x 4).toNatClampNeg) (fL_low (x >>> (2 &&& 31)) 60)).2.2.1, (fT_changeDate β η σ ((fL_low x 4).toNatClampNeg) (fL_low (x >>> (2 &&& 31)) 60)).2.2.2) := by rw [fL_act]; rw [if_neg c_1, if_neg c_2, if_neg c_6, if_neg c_19, if_neg c_32, if_neg c_45, if_neg c_59, if_neg c_73, if_neg c_83, if_neg c_91, if_pos c_93]
      exact g_zret (b := true) C hE (by rw [e_94]) rfl (by rw [e_94] <;> rfl) dL_act_380
    refine g_tblD C 381 [0, 1, 2, 3, 4, 5, 6, 7, 8, 9] dL_act_33 (List.forall_mem_cons.mpr ⟨c_2, List.forall_mem_cons.mpr ⟨c_6, List.forall_mem_cons.mpr ⟨c_19, List.forall_mem_cons.mpr ⟨c_32, List.forall_mem_cons.mpr ⟨c_45, List.forall_mem_cons.mpr ⟨c_59, List.forall_mem_cons.mpr ⟨c_73, List.forall_mem_cons.mpr ⟨c_83, List.forall_mem_cons.mpr ⟨c_91, List.forall_mem_cons.mpr ⟨c_93, fun _ h => absurd h List.not_mem_nil⟩⟩⟩⟩⟩⟩⟩⟩⟩⟩) (by decide) (by decide) (by decide) ?_
    refine g_iload C dL_act_381 1 rfl ?_
    refine g_if_lt C 399 dL_act_383 (by decide) (fun c_95 => ?_) (fun c_95 => ?_)
    · skip
      refine g_iconst C (v := 0) dL_act_399 (by decide) ?_
      have e_96 : fL_act β η σ v x = (false, β, η, σ) := by rw [fL_act]; rw [if_neg c_1, if_neg c_2, if_neg c_6, if_neg c_19, if_neg c_32, if_neg c_45, if_neg c_59, if_neg c_73, if_neg c_83, if_neg c_91, if_neg c_93, if_pos c_95]
      exact g_zret (b := false) C hE (by rw [e_96]) rfl (by rw [e_96] <;> rfl) dL_act_400
    · skip
      refine g_aload_n C dL_act_386 rfl 3 rfl ?_
      refine g_iload C dL_act_387 1 rfl ?_
      refine g_st (st1 := [.int (nI ((fL_low (v >>> (4 &&& 31)) (fT_tickets β)).toNatClampNeg)), .ref ax]) (by rw [← hT.1]) ?_
      refine g_callS C (cs1 := [wX ax (bo 0) (tr 0) (ac 0) (ah 0) (at_ 0), wB E bo ((fL_move β η σ ((fL_low (v >>> (4 &&& 31)) (fT_tickets β)).toNatClampNeg)).2.1), wB E tr τ, wC E ac γ, wH E ah bd ((fL_move β η σ ((fL_low (v >>> (4 &&& 31)) (fT_tickets β)).toNatClampNeg)).2.2.1), wT E at_ θ, wB E (bd 2) ((fL_move β η σ ((fL_low (v >>> (4 &&& 31)) (fT_tickets β)).toNatClampNeg)).2.2.2 2), wB E (bd 3) ((fL_move β η σ ((fL_low (v >>> (4 &&& 31)) (fT_tickets β)).toNatClampNeg)).2.2.2 3), wB E (bd 4) ((fL_move β η σ ((fL_low (v >>> (4 &&& 31)) (fT_tickets β)).toNatClampNeg)).2.2.2 4), wB E (bd 5) ((fL_move β η σ ((fL_low (v >>> (4 &&& 31)) (fT_tickets β)).toNatClampNeg)).2.2.2 5), wB E (bd 6) ((fL_move β η σ ((fL_low (v >>> (4 &&& 31)) (fT_tickets β)).toNatClampNeg)).2.2.2 6), wB E (bd 7) ((fL_move β η σ ((fL_low (v >>> (4 &&& 31)) (fT_tickets β)).toNatClampNeg)).2.2.2 7), wB E (bd 8) ((fL_move β η σ ((fL_low (v >>> (4 &&& 31)) (fT_tickets β)).toNatClampNeg)).2.2.2 8), wB E (bd 9) ((fL_move β η σ ((fL_low (v >>> (4 &&& 31)) (fT_tickets β)).toNatClampNeg)).2.2.2 9)]) (st1 := [.int (b2i ((fL_move β η σ ((fL_low (v >>> (4 &&& 31)) (fT_tickets β)).toNatClampNeg)).1))]) [.ref ax, .int (nI ((fL_low (v >>> (4 &&& 31)) (fT_tickets β)).toNatClampNeg))] [0, 1, 2, 3, 4, 5, 6, 7, 8, 9, 10, 11, 12, 13] (kL_move l E ax bo β tr τ ac γ ah bd η σ at_ θ hv hvh ((fL_low (v >>> (4 &&& 31)) (fT_tickets β)).toNatClampNeg) (by omega) hT.2) caL_move q3_165 rfl ⟨Nat.le_of_ble_eq_true rfl, Nat.le_of_ble_eq_true rfl⟩ ⟨Nat.zero_le _, Nat.zero_le _⟩ (by decide) rfl rfl rfl rfl (Nat.le_of_ble_eq_true rfl) dL_act_389 rfl ?_
      refine g_ifB_eq C 399 dL_act_392 (by decide) (fun c_97 => ?_) (fun c_97 => ?_)
      · skip
        refine g_iconst C (v := 0) dL_act_399 (by decide) ?_
        have e_98 : fL_act β η σ v x = (false, (fL_move β η σ ((fL_low (v >>> (4 &&& 31)) (fT_tickets β)).toNatClampNeg)).2.1, (fL_move β η σ ((fL_low (v >>> (4 &&& 31)) (fT_tickets β)).toNatClampNeg)).2.2.1, (fL_move β η σ ((fL_low (v >>> (4 &&& 31)) (fT_tickets β)).toNatClampNeg)).2.2.2) := by rw [fL_act]; rw [if_neg c_1, if_neg c_2, if_neg c_6, if_neg c_19, if_neg c_32, if_neg c_45, if_neg c_59, if_neg c_73, if_neg c_83, if_neg c_91, if_neg c_93, if_neg c_95, if_neg (ne_true_of_eq_false c_97)]
        exact g_zret (b := false) C hE (by rw [e_98]) rfl (by rw [e_98] <;> rfl) dL_act_400
      · skip
        refine g_iconst C (v := 1) dL_act_395 (by decide) ?_
        refine g_goto C 400 dL_act_396 (by decide) ?_
        have e_99 : fL_act β η σ v x = (true, (fL_move β η σ ((fL_low (v >>> (4 &&& 31)) (fT_tickets β)).toNatClampNeg)).2.1, (fL_move β η σ ((fL_low (v >>> (4 &&& 31)) (fT_tickets β)).toNatClampNeg)).2.2.1, (fL_move β η σ ((fL_low (v >>> (4 &&& 31)) (fT_tickets β)).toNatClampNeg)).2.2.2) := by rw [fL_act]; rw [if_neg c_1, if_neg c_2, if_neg c_6, if_neg c_19, if_neg c_32, if_neg c_45, if_neg c_59, if_neg c_73, if_neg c_83, if_neg c_91, if_neg c_93, if_neg c_95, if_pos c_97]
        exact g_zret (b := true) C hE (by rw [e_99]) rfl (by rw [e_99] <;> rfl) dL_act_400
  · skip
    have hO := low_c (x := x) (z := 5) (n := 5) rfl (by decide) (by decide)
    have hM := low_c (x := x) (z := 4) (n := 4) rfl (by decide) (by decide)
    refine g_iconst C (v := -1) dL_act_9 (by decide) ?_
    refine g_goto C 20 dL_act_10 (by decide) ?_
    refine g_istore C (lv1 := [(4, .int (-1)), (3, .int (fT_tickets β)), (0, .ref ax), (1, .int v), (2, .int x)]) dL_act_20 (by decide) rfl ?_
    refine g_iload_n C dL_act_22 rfl 4 rfl ?_
    refine g_iconst C (v := 5) dL_act_23 (by decide) ?_
    refine g_callS C (cs1 := [wX ax (bo 0) (tr 0) (ac 0) (ah 0) (at_ 0), wB E bo β, wB E tr τ, wC E ac γ, wH E ah bd η, wT E at_ θ, wB E (bd 2) (σ 2), wB E (bd 3) (σ 3), wB E (bd 4) (σ 4), wB E (bd 5) (σ 5), wB E (bd 6) (σ 6), wB E (bd 7) (σ 7), wB E (bd 8) (σ 8), wB E (bd 9) (σ 9)]) (st1 := [.int (fL_low x 5)]) [.int x, .int 5] [] (kL_low l E x 5 (by decide)) caL_low q3_26 rfl ⟨Nat.le_of_ble_eq_true rfl, Nat.le_of_ble_eq_true rfl⟩ ⟨Nat.zero_le _, Nat.zero_le _⟩ (by decide) rfl rfl rfl rfl (Nat.le_of_ble_eq_true rfl) dL_act_24 rfl ?_
    refine g_istore C (lv1 := [(5, .int (fL_low x 5)), (4, .int (-1)), (3, .int (fT_tickets β)), (0, .ref ax), (1, .int v), (2, .int x)]) dL_act_27 (by decide) rfl ?_
    refine g_iload_n C dL_act_29 rfl 4 rfl ?_
    refine g_bipush C (v := 15) dL_act_30 (by decide) ?_
    refine g_iand C dL_act_32 ?_
    refine (Decidable.em ((v &&& 15) = 0)).elim (fun c_100 => ?_) (fun c_100 => ?_)
    · refine g_tblK C 88 dL_act_33 c_100 (by decide) (by decide) rfl (by decide) ?_
      refine g_iload_n C dL_act_88 rfl 2 rfl ?_
      refine g_bipush C (v := 7) dL_act_89 (by decide) ?_
      refine g_icmp_ne C 96 dL_act_91 (by decide) (fun c_101 => ?_) (fun c_101 => ?_)
      · skip
        refine g_aload_n C dL_act_96 rfl 3 rfl ?_
        refine g_iconst C (v := 1) dL_act_97 (by decide) ?_
        refine g_iload_n C dL_act_98 rfl 5 rfl ?_
        refine g_bipush C (v := 13) dL_act_99 (by decide) ?_
        refine g_callS C (cs1 := [wX ax (bo 0) (tr 0) (ac 0) (ah 0) (at_ 0), wB E bo β, wB E tr τ, wC E ac γ, wH E ah bd η, wT E at_ θ, wB E (bd 2) (σ 2), wB E (bd 3) (σ 3), wB E (bd 4) (σ 4), wB E (bd 5) (σ 5), wB E (bd 6) (σ 6), wB E (bd 7) (σ 7), wB E (bd 8) (σ 8), wB E (bd 9) (σ 9)]) (st1 := [.int (fL_low x 13), .int 1, .ref ax]) [.int x, .int 13] [] (kL_low l E x 13 (by decide)) caL_low q3_26 rfl ⟨Nat.le_of_ble_eq_true rfl, Nat.le_of_ble_eq_true rfl⟩ ⟨Nat.zero_le _, Nat.zero_le _⟩ (by decide) rfl rfl rfl rfl (Nat.le_of_ble_eq_true rfl) dL_act_101 rfl ?_
        refine g_iadd C dL_act_104 ?_
        refine g_iload_n C dL_act_105 rfl 5 rfl ?_
        refine g_iconst C (v := 4) dL_act_106 (by decide) ?_
        refine g_ishr C dL_act_107 ?_
        refine g_iconst C (v := 4) dL_act_108 (by decide) ?_
        refine g_callS C (cs1 := [wX ax (bo 0) (tr 0) (ac 0) (ah 0) (at_ 0), wB E bo β, wB E tr τ, wC E ac γ, wH E ah bd η, wT E at_ θ, wB E (bd 2) (σ 2), wB E (bd 3) (σ 3), wB E (bd 4) (σ 4), wB E (bd 5) (σ 5), wB E (bd 6) (σ 6), wB E (bd 7) (σ 7), wB E (bd 8) (σ 8), wB E (bd 9) (σ 9)]) (st1 := [.int (fL_low (x >>> (4 &&& 31)) 4), .int (1 + (fL_low x 13)), .ref ax]) [.int (x >>> (4 &&& 31)), .int 4] [] (kL_low l E (x >>> (4 &&& 31)) 4 (by decide)) caL_low q3_26 rfl ⟨Nat.le_of_ble_eq_true rfl, Nat.le_of_ble_eq_true rfl⟩ ⟨Nat.zero_le _, Nat.zero_le _⟩ (by decide) rfl rfl rfl rfl (Nat.le_of_ble_eq_true rfl) dL_act_109 rfl ?_
        refine g_callV C (cs1 := [wX ax (bo 0) (tr 0) (ac 0) (ah 0) (at_ 0), wB E bo ((fT_openTicket β η σ (1 + (fL_low x 13)) (fL_low (x >>> (4 &&& 31)) 4)).2.1), wB E tr τ, wC E ac γ, wH E ah bd ((fT_openTicket β η σ (1 + (fL_low x 13)) (fL_low (x >>> (4 &&& 31)) 4)).2.2.1), wT E at_ θ, wB E (bd 2) ((fT_openTicket β η σ (1 + (fL_low x 13)) (fL_low (x >>> (4 &&& 31)) 4)).2.2.2 2), wB E (bd 3) ((fT_openTicket β η σ (1 + (fL_low x 13)) (fL_low (x >>> (4 &&& 31)) 4)).2.2.2 3), wB E (bd 4) ((fT_openTicket β η σ (1 + (fL_low x 13)) (fL_low (x >>> (4 &&& 31)) 4)).2.2.2 4), wB E (bd 5) ((fT_openTicket β η σ (1 + (fL_low x 13)) (fL_low (x >>> (4 &&& 31)) 4)).2.2.2 5), wB E (bd 6) ((fT_openTicket β η σ (1 + (fL_low x 13)) (fL_low (x >>> (4 &&& 31)) 4)).2.2.2 6), wB E (bd 7) ((fT_openTicket β η σ (1 + (fL_low x 13)) (fL_low (x >>> (4 &&& 31)) 4)).2.2.2 7), wB E (bd 8) ((fT_openTicket β η σ (1 + (fL_low x 13)) (fL_low (x >>> (4 &&& 31)) 4)).2.2.2 8), wB E (bd 9) ((fT_openTicket β η σ (1 + (fL_low x 13)) (fL_low (x >>> (4 &&& 31)) 4)).2.2.2 9)]) (st1 := [.int ((fT_openTicket β η σ (1 + (fL_low x 13)) (fL_low (x >>> (4 &&& 31)) 4)).1)]) [.int (1 + (fL_low x 13)), .int (fL_low (x >>> (4 &&& 31)) 4)] [0, 1, 2, 3, 4, 5, 6, 7, 8, 9, 10, 11, 12, 13] (kT_openTicket l E ax bo β tr τ ac γ ah bd η σ at_ θ hv hvh (1 + (fL_low x 13)) (fL_low (x >>> (4 &&& 31)) 4) (by have := INV.n7 hI; omega) (open_p x) (open_z (x >>> (4 &&& 31))) (room_n hv (by have := INV.n7 hI; omega))) caX6_openTicket q3_30 rfl ⟨Nat.le_of_ble_eq_true rfl, Nat.le_of_ble_eq_true rfl⟩ ⟨Nat.zero_le _, Nat.zero_le _⟩ 0 0 rfl rfl rfl rfl (by decide) rfl rfl rfl rfl (Nat.le_of_ble_eq_true rfl) dL_act_112 rfl ?_
        refine g_pop C dL_act_115 rfl ?_
        refine g_iconst C (v := 1) dL_act_116 (by decide) ?_
        have e_102 : fL_act β η σ v x = (true, (fT_openTicket β η σ (1 + (fL_low x 13)) (fL_low (x >>> (4 &&& 31)) 4)).2.1, (fT_openTicket β η σ (1 + (fL_low x 13)) (fL_low (x >>> (4 &&& 31)) 4)).2.2.1, (fT_openTicket β η σ (1 + (fL_low x 13)) (fL_low (x >>> (4 &&& 31)) 4)).2.2.2) := by rw [fL_act]; rw [if_pos c_1, if_pos c_100, if_neg c_101]
        exact g_zret (b := true) C hE (by rw [e_102]) rfl (by rw [e_102] <;> rfl) dL_act_117
      · skip
        refine g_iconst C (v := 0) dL_act_94 (by decide) ?_
        have e_103 : fL_act β η σ v x = (false, β, η, σ) := by rw [fL_act]; rw [if_pos c_1, if_pos c_100, if_pos c_101]
        exact g_zret (b := false) C hE (by rw [e_103]) rfl (by rw [e_103] <;> rfl) dL_act_95
    refine (Decidable.em ((v &&& 15) = 1)).elim (fun c_104 => ?_) (fun c_104 => ?_)
    · refine g_tblK C 118 dL_act_33 c_104 (by decide) (by decide) rfl (by decide) ?_
      refine g_iload_n C dL_act_118 rfl 2 rfl ?_
      refine g_if_ne C 126 dL_act_119 (by decide) (fun c_105 => ?_) (fun c_105 => ?_)
      · exact absurd c_1 c_105
      · skip
        refine g_iconst C (v := -1) dL_act_122 (by decide) ?_
        refine g_goto C 131 dL_act_123 (by decide) ?_
        refine g_istore C (lv1 := [(6, .int (-1)), (5, .int (fL_low x 5)), (4, .int (-1)), (3, .int (fT_tickets β)), (0, .ref ax), (1, .int v), (2, .int x)]) dL_act_131 (by decide) rfl ?_
        refine g_iload C dL_act_133 2 rfl ?_
        refine g_if_lt C 177 dL_act_135 (by decide) (fun c_106 => ?_) (fun c_106 => ?_)
        · skip
          refine g_iconst C (v := 0) dL_act_177 (by decide) ?_
          have e_107 : fL_act β η σ v x = (false, β, η, σ) := by rw [fL_act]; rw [if_pos c_1, if_neg c_100, if_pos c_104]
          exact g_zret (b := false) C hE (by rw [e_107]) rfl (by rw [e_107] <;> rfl) dL_act_178
        · exact absurd (by decide) c_106
    refine (Decidable.em ((v &&& 15) = 2)).elim (fun c_108 => ?_) (fun c_108 => ?_)
    · refine g_tblK C 118 dL_act_33 c_108 (by decide) (by decide) rfl (by decide) ?_
      refine g_iload_n C dL_act_118 rfl 2 rfl ?_
      refine g_if_ne C 126 dL_act_119 (by decide) (fun c_109 => ?_) (fun c_109 => ?_)
      · exact absurd c_1 c_109
      · skip
        refine g_iconst C (v := -1) dL_act_122 (by decide) ?_
        refine g_goto C 131 dL_act_123 (by decide) ?_
        refine g_istore C (lv1 := [(6, .int (-1)), (5, .int (fL_low x 5)), (4, .int (-1)), (3, .int (fT_tickets β)), (0, .ref ax), (1, .int v), (2, .int x)]) dL_act_131 (by decide) rfl ?_
        refine g_iload C dL_act_133 2 rfl ?_
        refine g_if_lt C 177 dL_act_135 (by decide) (fun c_110 => ?_) (fun c_110 => ?_)
        · skip
          refine g_iconst C (v := 0) dL_act_177 (by decide) ?_
          have e_111 : fL_act β η σ v x = (false, β, η, σ) := by rw [fL_act]; rw [if_pos c_1, if_neg c_100, if_neg c_104, if_pos c_108]
          exact g_zret (b := false) C hE (by rw [e_111]) rfl (by rw [e_111] <;> rfl) dL_act_178
        · exact absurd (by decide) c_110
    refine (Decidable.em ((v &&& 15) = 3)).elim (fun c_112 => ?_) (fun c_112 => ?_)
    · refine g_tblK C 118 dL_act_33 c_112 (by decide) (by decide) rfl (by decide) ?_
      refine g_iload_n C dL_act_118 rfl 2 rfl ?_
      refine g_if_ne C 126 dL_act_119 (by decide) (fun c_113 => ?_) (fun c_113 => ?_)
      · exact absurd c_1 c_113
      · skip
        refine g_iconst C (v := -1) dL_act_122 (by decide) ?_
        refine g_goto C 131 dL_act_123 (by decide) ?_
        refine g_istore C (lv1 := [(6, .int (-1)), (5, .int (fL_low x 5)), (4, .int (-1)), (3, .int (fT_tickets β)), (0, .ref ax), (1, .int v), (2, .int x)]) dL_act_131 (by decide) rfl ?_
        refine g_iload C dL_act_133 2 rfl ?_
        refine g_if_lt C 177 dL_act_135 (by decide) (fun c_114 => ?_) (fun c_114 => ?_)
        · skip
          refine g_iconst C (v := 0) dL_act_177 (by decide) ?_
          have e_115 : fL_act β η σ v x = (false, β, η, σ) := by rw [fL_act]; rw [if_pos c_1, if_neg c_100, if_neg c_104, if_neg c_108, if_pos c_112]
          exact g_zret (b := false) C hE (by rw [e_115]) rfl (by rw [e_115] <;> rfl) dL_act_178
        · exact absurd (by decide) c_114
    refine (Decidable.em ((v &&& 15) = 4)).elim (fun c_116 => ?_) (fun c_116 => ?_)
    · refine g_tblK C 190 dL_act_33 c_116 (by decide) (by decide) rfl (by decide) ?_
      refine g_iload C dL_act_190 1 rfl ?_
      refine g_if_lt C 247 dL_act_192 (by decide) (fun c_117 => ?_) (fun c_117 => ?_)
      · skip
        refine g_iconst C (v := 0) dL_act_247 (by decide) ?_
        have e_118 : fL_act β η σ v x = (false, β, η, σ) := by rw [fL_act]; rw [if_pos c_1, if_neg c_100, if_neg c_104, if_neg c_108, if_neg c_112, if_pos c_116]
        exact g_zret (b := false) C hE (by rw [e_118]) rfl (by rw [e_118] <;> rfl) dL_act_248
      · exact absurd (by decide) c_117
    refine (Decidable.em ((v &&& 15) = 5)).elim (fun c_119 => ?_) (fun c_119 => ?_)
    · refine g_tblK C 190 dL_act_33 c_119 (by decide) (by decide) rfl (by decide) ?_
      refine g_iload C dL_act_190 1 rfl ?_
      refine g_if_lt C 247 dL_act_192 (by decide) (fun c_120 => ?_) (fun c_120 => ?_)
      · skip
        refine g_iconst C (v := 0) dL_act_247 (by decide) ?_
        have e_121 : fL_act β η σ v x = (false, β, η, σ) := by rw [fL_act]; rw [if_pos c_1, if_neg c_100, if_neg c_104, if_neg c_108, if_neg c_112, if_neg c_116, if_pos c_119]
        exact g_zret (b := false) C hE (by rw [e_121]) rfl (by rw [e_121] <;> rfl) dL_act_248
      · exact absurd (by decide) c_120
    refine (Decidable.em ((v &&& 15) = 6)).elim (fun c_122 => ?_) (fun c_122 => ?_)
    · refine g_tblK C 260 dL_act_33 c_122 (by decide) (by decide) rfl (by decide) ?_
      refine g_iload C dL_act_260 1 rfl ?_
      refine g_if_lt C 298 dL_act_262 (by decide) (fun c_123 => ?_) (fun c_123 => ?_)
      · skip
        refine g_iconst C (v := 0) dL_act_298 (by decide) ?_
        have e_124 : fL_act β η σ v x = (false, β, η, σ) := by rw [fL_act]; rw [if_pos c_1, if_neg c_100, if_neg c_104, if_neg c_108, if_neg c_112, if_neg c_116, if_neg c_119, if_pos c_122]
        exact g_zret (b := false) C hE (by rw [e_124]) rfl (by rw [e_124] <;> rfl) dL_act_299
      · exact absurd (by decide) c_123
    refine (Decidable.em ((v &&& 15) = 7)).elim (fun c_125 => ?_) (fun c_125 => ?_)
    · refine g_tblK C 314 dL_act_33 c_125 (by decide) (by decide) rfl (by decide) ?_
      refine g_iload C dL_act_314 1 rfl ?_
      refine g_if_lt C 335 dL_act_316 (by decide) (fun c_126 => ?_) (fun c_126 => ?_)
      · skip
        refine g_iconst C (v := 0) dL_act_335 (by decide) ?_
        have e_127 : fL_act β η σ v x = (false, β, η, σ) := by rw [fL_act]; rw [if_pos c_1, if_neg c_100, if_neg c_104, if_neg c_108, if_neg c_112, if_neg c_116, if_neg c_119, if_neg c_122, if_pos c_125]
        exact g_zret (b := false) C hE (by rw [e_127]) rfl (by rw [e_127] <;> rfl) dL_act_336
      · exact absurd (by decide) c_126
    refine (Decidable.em ((v &&& 15) = 8)).elim (fun c_128 => ?_) (fun c_128 => ?_)
    · refine g_tblK C 346 dL_act_33 c_128 (by decide) (by decide) rfl (by decide) ?_
      refine g_aload_n C dL_act_346 rfl 3 rfl ?_
      refine g_iconst C (v := 1) dL_act_347 (by decide) ?_
      refine g_iload_n C dL_act_348 rfl 5 rfl ?_
      refine g_bipush C (v := 12) dL_act_349 (by decide) ?_
      refine g_callS C (cs1 := [wX ax (bo 0) (tr 0) (ac 0) (ah 0) (at_ 0), wB E bo β, wB E tr τ, wC E ac γ, wH E ah bd η, wT E at_ θ, wB E (bd 2) (σ 2), wB E (bd 3) (σ 3), wB E (bd 4) (σ 4), wB E (bd 5) (σ 5), wB E (bd 6) (σ 6), wB E (bd 7) (σ 7), wB E (bd 8) (σ 8), wB E (bd 9) (σ 9)]) (st1 := [.int (fL_low x 12), .int 1, .ref ax]) [.int x, .int 12] [] (kL_low l E x 12 (by decide)) caL_low q3_26 rfl ⟨Nat.le_of_ble_eq_true rfl, Nat.le_of_ble_eq_true rfl⟩ ⟨Nat.zero_le _, Nat.zero_le _⟩ (by decide) rfl rfl rfl rfl (Nat.le_of_ble_eq_true rfl) dL_act_351 rfl ?_
      refine g_iadd C dL_act_354 ?_
      refine g_callV C (cs1 := [wX ax (bo 0) (tr 0) (ac 0) (ah 0) (at_ 0), wB E bo ((fT_endDays β η σ (1 + (fL_low x 12))).2.1), wB E tr τ, wC E ac γ, wH E ah bd ((fT_endDays β η σ (1 + (fL_low x 12))).2.2.1), wT E at_ θ, wB E (bd 2) ((fT_endDays β η σ (1 + (fL_low x 12))).2.2.2 2), wB E (bd 3) ((fT_endDays β η σ (1 + (fL_low x 12))).2.2.2 3), wB E (bd 4) ((fT_endDays β η σ (1 + (fL_low x 12))).2.2.2 4), wB E (bd 5) ((fT_endDays β η σ (1 + (fL_low x 12))).2.2.2 5), wB E (bd 6) ((fT_endDays β η σ (1 + (fL_low x 12))).2.2.2 6), wB E (bd 7) ((fT_endDays β η σ (1 + (fL_low x 12))).2.2.2 7), wB E (bd 8) ((fT_endDays β η σ (1 + (fL_low x 12))).2.2.2 8), wB E (bd 9) ((fT_endDays β η σ (1 + (fL_low x 12))).2.2.2 9)]) (st1 := [.int ((fT_endDays β η σ (1 + (fL_low x 12))).1)]) [.int (1 + (fL_low x 12))] [0, 1, 2, 3, 4, 5, 6, 7, 8, 9, 10, 11, 12, 13] (kT_endDays l E ax bo β tr τ ac γ ah bd η σ at_ θ hv hvh (1 + (fL_low x 12)) (days_d x) (days_of hI x)) caX6_endDays q3_145 rfl ⟨Nat.le_of_ble_eq_true rfl, Nat.le_of_ble_eq_true rfl⟩ ⟨Nat.zero_le _, Nat.zero_le _⟩ 0 0 rfl rfl rfl rfl (by decide) rfl rfl rfl rfl (Nat.le_of_ble_eq_true rfl) dL_act_355 rfl ?_
      refine g_pop C dL_act_358 rfl ?_
      refine g_iconst C (v := 1) dL_act_359 (by decide) ?_
      have e_129 : fL_act β η σ v x = (true, (fT_endDays β η σ (1 + (fL_low x 12))).2.1, (fT_endDays β η σ (1 + (fL_low x 12))).2.2.1, (fT_endDays β η σ (1 + (fL_low x 12))).2.2.2) := by rw [fL_act]; rw [if_pos c_1, if_neg c_100, if_neg c_104, if_neg c_108, if_neg c_112, if_neg c_116, if_neg c_119, if_neg c_122, if_neg c_125, if_pos c_128]
      exact g_zret (b := true) C hE (by rw [e_129]) rfl (by rw [e_129] <;> rfl) dL_act_360
    refine (Decidable.em ((v &&& 15) = 9)).elim (fun c_130 => ?_) (fun c_130 => ?_)
    · refine g_tblK C 361 dL_act_33 c_130 (by decide) (by decide) rfl (by decide) ?_
      refine g_aload_n C dL_act_361 rfl 3 rfl ?_
      refine g_iload_n C dL_act_362 rfl 5 rfl ?_
      refine g_iconst C (v := 4) dL_act_363 (by decide) ?_
      refine g_callS C (cs1 := [wX ax (bo 0) (tr 0) (ac 0) (ah 0) (at_ 0), wB E bo β, wB E tr τ, wC E ac γ, wH E ah bd η, wT E at_ θ, wB E (bd 2) (σ 2), wB E (bd 3) (σ 3), wB E (bd 4) (σ 4), wB E (bd 5) (σ 5), wB E (bd 6) (σ 6), wB E (bd 7) (σ 7), wB E (bd 8) (σ 8), wB E (bd 9) (σ 9)]) (st1 := [.int (fL_low x 4), .ref ax]) [.int x, .int 4] [] (kL_low l E x 4 (by decide)) caL_low q3_26 rfl ⟨Nat.le_of_ble_eq_true rfl, Nat.le_of_ble_eq_true rfl⟩ ⟨Nat.zero_le _, Nat.zero_le _⟩ (by decide) rfl rfl rfl rfl (Nat.le_of_ble_eq_true rfl) dL_act_364 rfl ?_
      refine g_iload_n C dL_act_367 rfl 5 rfl ?_
      refine g_iconst C (v := 2) dL_act_368 (by decide) ?_
      refine g_ishr C dL_act_369 ?_
      refine g_bipush C (v := 60) dL_act_370 (by decide) ?_
      refine g_callS C (cs1 := [wX ax (bo 0) (tr 0) (ac 0) (ah 0) (at_ 0), wB E bo β, wB E tr τ, wC E ac γ, wH E ah bd η, wT E at_ θ, wB E (bd 2) (σ 2), wB E (bd 3) (σ 3), wB E (bd 4) (σ 4), wB E (bd 5) (σ 5), wB E (bd 6) (σ 6), wB E (bd 7) (σ 7), wB E (bd 8) (σ 8), wB E (bd 9) (σ 9)]) (st1 := [.int (fL_low (x >>> (2 &&& 31)) 60), .int (fL_low x 4), .ref ax]) [.int (x >>> (2 &&& 31)), .int 60] [] (kL_low l E (x >>> (2 &&& 31)) 60 (by decide)) caL_low q3_26 rfl ⟨Nat.le_of_ble_eq_true rfl, Nat.le_of_ble_eq_true rfl⟩ ⟨Nat.zero_le _, Nat.zero_le _⟩ (by decide) rfl rfl rfl rfl (Nat.le_of_ble_eq_true rfl) dL_act_372 rfl ?_
      refine g_st (st1 := [.int (fL_low (x >>> (2 &&& 31)) 60), .int (nI ((fL_low x 4).toNatClampNeg)), .ref ax]) (by rw [← hM.1]) ?_
      refine g_callV C (cs1 := [wX ax (bo 0) (tr 0) (ac 0) (ah 0) (at_ 0), wB E bo ((fT_changeDate β η σ ((fL_low x 4).toNatClampNeg) (fL_low (x >>> (2 &&& 31)) 60)).2.1), wB E tr τ, wC E ac γ, wH E ah bd ((fT_changeDate β η σ ((fL_low x 4).toNatClampNeg) (fL_low (x >>> (2 &&& 31)) 60)).2.2.1), wT E at_ θ, wB E (bd 2) ((fT_changeDate β η σ ((fL_low x 4).toNatClampNeg) (fL_low (x >>> (2 &&& 31)) 60)).2.2.2 2), wB E (bd 3) ((fT_changeDate β η σ ((fL_low x 4).toNatClampNeg) (fL_low (x >>> (2 &&& 31)) 60)).2.2.2 3), wB E (bd 4) ((fT_changeDate β η σ ((fL_low x 4).toNatClampNeg) (fL_low (x >>> (2 &&& 31)) 60)).2.2.2 4), wB E (bd 5) ((fT_changeDate β η σ ((fL_low x 4).toNatClampNeg) (fL_low (x >>> (2 &&& 31)) 60)).2.2.2 5), wB E (bd 6) ((fT_changeDate β η σ ((fL_low x 4).toNatClampNeg) (fL_low (x >>> (2 &&& 31)) 60)).2.2.2 6), wB E (bd 7) ((fT_changeDate β η σ ((fL_low x 4).toNatClampNeg) (fL_low (x >>> (2 &&& 31)) 60)).2.2.2 7), wB E (bd 8) ((fT_changeDate β η σ ((fL_low x 4).toNatClampNeg) (fL_low (x >>> (2 &&& 31)) 60)).2.2.2 8), wB E (bd 9) ((fT_changeDate β η σ ((fL_low x 4).toNatClampNeg) (fL_low (x >>> (2 &&& 31)) 60)).2.2.2 9)]) (st1 := [.int ((fT_changeDate β η σ ((fL_low x 4).toNatClampNeg) (fL_low (x >>> (2 &&& 31)) 60)).1)]) [.int (nI ((fL_low x 4).toNatClampNeg)), .int (fL_low (x >>> (2 &&& 31)) 60)] [0, 1, 2, 3, 4, 5, 6, 7, 8, 9, 10, 11, 12, 13] (kT_changeDate l E ax bo β tr τ ac γ ah bd η σ at_ θ hv hvh ((fL_low x 4).toNatClampNeg) (by omega) (fL_low (x >>> (2 &&& 31)) 60) (mil_n hM.2) (date_d (x >>> (2 &&& 31)))) caX6_changeDate q3_157 rfl ⟨Nat.le_of_ble_eq_true rfl, Nat.le_of_ble_eq_true rfl⟩ ⟨Nat.zero_le _, Nat.zero_le _⟩ 0 0 rfl rfl rfl rfl (by decide) rfl rfl rfl rfl (Nat.le_of_ble_eq_true rfl) dL_act_375 rfl ?_
      refine g_pop C dL_act_378 rfl ?_
      refine g_iconst C (v := 1) dL_act_379 (by decide) ?_
      have e_131 : fL_act β η σ v x = (true, (fT_changeDate β η σ ((fL_low x 4).toNatClampNeg) (fL_low (x >>> (2 &&& 31)) 60)).2.1, (fT_changeDate β η σ ((fL_low x 4).toNatClampNeg) (fL_low (x >>> (2 &&& 31)) 60)).2.2.1, (fT_changeDate β η σ ((fL_low x 4).toNatClampNeg) (fL_low (x >>> (2 &&& 31)) 60)).2.2.2) := by rw [fL_act]; rw [if_pos c_1, if_neg c_100, if_neg c_104, if_neg c_108, if_neg c_112, if_neg c_116, if_neg c_119, if_neg c_122, if_neg c_125, if_neg c_128, if_pos c_130]
      exact g_zret (b := true) C hE (by rw [e_131]) rfl (by rw [e_131] <;> rfl) dL_act_380
    refine g_tblD C 381 [0, 1, 2, 3, 4, 5, 6, 7, 8, 9] dL_act_33 (List.forall_mem_cons.mpr ⟨c_100, List.forall_mem_cons.mpr ⟨c_104, List.forall_mem_cons.mpr ⟨c_108, List.forall_mem_cons.mpr ⟨c_112, List.forall_mem_cons.mpr ⟨c_116, List.forall_mem_cons.mpr ⟨c_119, List.forall_mem_cons.mpr ⟨c_122, List.forall_mem_cons.mpr ⟨c_125, List.forall_mem_cons.mpr ⟨c_128, List.forall_mem_cons.mpr ⟨c_130, fun _ h => absurd h List.not_mem_nil⟩⟩⟩⟩⟩⟩⟩⟩⟩⟩) (by decide) (by decide) (by decide) ?_
    refine g_iload C dL_act_381 1 rfl ?_
    refine g_if_lt C 399 dL_act_383 (by decide) (fun c_132 => ?_) (fun c_132 => ?_)
    · skip
      refine g_iconst C (v := 0) dL_act_399 (by decide) ?_
      have e_133 : fL_act β η σ v x = (false, β, η, σ) := by rw [fL_act]; rw [if_pos c_1, if_neg c_100, if_neg c_104, if_neg c_108, if_neg c_112, if_neg c_116, if_neg c_119, if_neg c_122, if_neg c_125, if_neg c_128, if_neg c_130]
      exact g_zret (b := false) C hE (by rw [e_133]) rfl (by rw [e_133] <;> rfl) dL_act_400
    · exact absurd (by decide) c_132
