def fL_holds_L304 (β : BS) (γ : BS) (i304 : Nat) (t304 : Int32) : Int32 :=
  if (fT_isLate β i304) = true then (if (fT_hundredthsDone β i304) = 100 then (if (fT_day β) ≤ (fT_dateOf β i304) then t304 + 1 else (if (fT_pointsLeft β i304) ≤ 0 then t304 + 1 else t304 + 1)) else (if (fT_day β) ≤ (fT_dateOf β i304) then t304 + 1 else (if (fT_pointsLeft β i304) ≤ 0 then t304 + 1 else t304 + 1))) else (if (fT_hundredthsDone β i304) = 100 then (if (fT_day β) ≤ (fT_dateOf β i304) then t304 + 0 else (if (fT_pointsLeft β i304) ≤ 0 then t304 + 0 else t304 + 0)) else (if (fT_day β) ≤ (fT_dateOf β i304) then t304 + 0 else (if (fT_pointsLeft β i304) ≤ 0 then t304 + 0 else t304 + 0)))
def fL_holds_L254 (β : BS) (γ : BS) (i254 : Nat) (t254 : Unit) : Unit :=
  ()
def fL_holds_L57 (β : BS) (γ : BS) (i42 : Nat) (t42 : Int32 × BS) (i57 : Nat) (t57 : Int32) : Int32 :=
  if (fT_needs β i42 i57) = true then (if (fT_chainOf β i57) ≤ t57 then t57 else (fT_chainOf β i57)) else t57
def fL_holds_L42 (β : BS) (γ : BS) (i42 : Nat) (t42 : Int32 × BS) : Int32 × BS :=
  if 3 ≤ (fT_stateOf β i42) then (if (fT_stateOf β i42) = 3 then (if (fT_blockersOf β i42) ≤ 0 then ((t42.1) + 0, (fT_allNeedsByTable β (t42.2) i42).2) else ((t42.1) + 0, (fT_allNeedsByTable β (t42.2) i42).2)) else (if (fT_blockersOf β i42) ≤ 0 then ((t42.1) + 0, (fT_allNeedsByTable β (t42.2) i42).2) else ((t42.1) + 0, (fT_allNeedsByTable β (t42.2) i42).2))) else (if (fT_isBlocked β i42) = true then (if (fT_blockersOf β i42) ≤ 0 then ((t42.1) + 1, (fT_allNeedsByTable β (t42.2) i42).2) else ((t42.1) + 1, (fT_allNeedsByTable β (t42.2) i42).2)) else (if (fT_blockersOf β i42) ≤ 0 then ((t42.1) + 0, (fT_allNeedsByTable β (t42.2) i42).2) else ((t42.1) + 0, (fT_allNeedsByTable β (t42.2) i42).2)))
def fL_holds_L9 (β : BS) (γ : BS) (i9 : Nat) (t9 : Int32 × Int32) : Int32 × Int32 :=
  ((t9.1) + (fT_withState β (nI i9)), (t9.2) + (fT_pointsWith β (nI i9)))
def fL_holds (β : BS) (γ : BS) : Bool × BS :=
  (true, (fT_criticalByOrder β ((fT_criticalByTrying β ((lpF (fL_holds_L42 β γ) (0, γ) (cnt β)).2)).2)).2)
theorem caL_holds : gCalS yL_holds cL_holds 7 (some .boolean) 1 := ⟨⟨q3_204, q1_0, by decide +kernel⟩, q3_203⟩
set_option maxHeartbeats 4000000 in
set_option maxRecDepth 100000 in
theorem kL_holds (l : Launch) (E : gE) (ax : Nat) (bo : Nat → Nat) (β : BS) (tr : Nat → Nat) (τ : BS) (ac : Nat → Nat) (γ : BS) (ah : Nat → Nat) (bd : Nat → Nat → Nat) (η : BS) (σ : Nat → BS) (at_ : Nat → Nat) (θ : BS) (hv : vB β)   (hI : INV 432 β) : MC l E yL_holds cL_holds 7 (some .boolean) 25 607 [.ref ax] [wX ax (bo 0) (tr 0) (ac 0) (ah 0) (at_ 0), wB E bo β, wB E tr τ, wC E ac γ, wH E ah bd η, wT E at_ θ, wB E (bd 2) (σ 2), wB E (bd 3) (σ 3), wB E (bd 4) (σ 4), wB E (bd 5) (σ 5), wB E (bd 6) (σ 6), wB E (bd 7) (σ 7), wB E (bd 8) (σ 8), wB E (bd 9) (σ 9)] (some (.int (b2i (fL_holds β γ).1))) [wX ax (bo 0) (tr 0) (ac 0) (ah 0) (at_ 0), wB E bo β, wB E tr τ, wC E ac ((fL_holds β γ).2), wH E ah bd η, wT E at_ θ, wB E (bd 2) (σ 2), wB E (bd 3) (σ 3), wB E (bd 4) (σ 4), wB E (bd 5) (σ 5), wB E (bd 6) (σ 6), wB E (bd 7) (σ 7), wB E (bd 8) (σ 8), wB E (bd 9) (σ 9)] := by
  have hv1 : cnt β ≤ 20 := hv.1
  refine mc_of (by decide +kernel) (Nat.le_of_ble_eq_true rfl) (lv := [(0, .ref ax)]) rfl (fun X C hE => ?_)
  refine g_iconst C (v := 0) dL_holds_0 (by decide) ?_
  refine g_istore_n C (lv1 := [(1, .int 0), (0, .ref ax)]) dL_holds_1 rfl (by decide) rfl ?_
  refine g_iconst C (v := 0) dL_holds_2 (by decide) ?_
  refine g_istore_n C (lv1 := [(2, .int 0), (1, .int 0), (0, .ref ax)]) dL_holds_3 rfl (by decide) rfl ?_
  refine g_iconst C (v := 0) dL_holds_4 (by decide) ?_
  refine g_istore_n C (lv1 := [(3, .int 0), (2, .int 0), (1, .int 0), (0, .ref ax)]) dL_holds_5 rfl (by decide) rfl ?_
  refine g_iconst C (v := 0) dL_holds_6 (by decide) ?_
  refine g_istore C (lv1 := [(4, .int 0), (3, .int 0), (2, .int 0), (1, .int 0), (0, .ref ax)]) dL_holds_7 (by decide) rfl ?_
  have hL_3 : ∀ d_1 i9 : Nat, i9 + d_1 = 5 → G X 0 0 [wX ax (bo 0) (tr 0) (ac 0) (ah 0) (at_ 0), wB E bo β, wB E tr τ, wC E ac γ, wH E ah bd η, wT E at_ θ, wB E (bd 2) (σ 2), wB E (bd 3) (σ 3), wB E (bd 4) (σ 4), wB E (bd 5) (σ 5), wB E (bd 6) (σ 6), wB E (bd 7) (σ 7), wB E (bd 8) (σ 8), wB E (bd 9) (σ 9)] [(0, .ref ax), (1, .int ((lpF (fL_holds_L9 β γ) (0, 0) i9).1)), (2, .int ((lpF (fL_holds_L9 β γ) (0, 0) i9).2)), (3, .int 0), (4, .int (nI i9))] 9 [] := by
    intro d_1
    induction d_1 with
    | zero =>
      intro i9 hi_2
      obtain rfl : i9 = 5 := by omega
      refine g_iload C dL_holds_9 4 rfl ?_
      refine g_iconst C (v := 5) dL_holds_11 (by decide) ?_
      refine g_icmp_ge C 39 dL_holds_12 (by decide) (fun c_5 => ?_) (fun c_5 => ?_)
      · skip
        refine g_iconst C (v := 0) dL_holds_39 (by decide) ?_
        refine g_istore C (lv1 := [(4, .int 0), (0, .ref ax), (1, .int ((lpF (fL_holds_L9 β γ) (0, 0) 5).1)), (2, .int ((lpF (fL_holds_L9 β γ) (0, 0) 5).2)), (3, .int 0)]) dL_holds_40 (by decide) rfl ?_
        have hL_8 : ∀ d_6 i42 : Nat, i42 + d_6 = (cnt β) → G X 0 0 [wX ax (bo 0) (tr 0) (ac 0) (ah 0) (at_ 0), wB E bo β, wB E tr τ, wC E ac ((lpF (fL_holds_L42 β γ) (0, γ) i42).2), wH E ah bd η, wT E at_ θ, wB E (bd 2) (σ 2), wB E (bd 3) (σ 3), wB E (bd 4) (σ 4), wB E (bd 5) (σ 5), wB E (bd 6) (σ 6), wB E (bd 7) (σ 7), wB E (bd 8) (σ 8), wB E (bd 9) (σ 9)] [(0, .ref ax), (1, .int ((lpF (fL_holds_L9 β γ) (0, 0) 5).1)), (2, .int ((lpF (fL_holds_L9 β γ) (0, 0) 5).2)), (3, .int ((lpF (fL_holds_L42 β γ) (0, γ) i42).1)), (4, .int (nI i42))] 42 [] := by
          intro d_6
          induction d_6 with
          | zero =>
            intro i42 hi_7
            obtain rfl : i42 = (cnt β) := by omega
            refine g_iload C dL_holds_42 4 rfl ?_
            refine g_aload_n C dL_holds_44 rfl 0 rfl ?_
            refine g_callV C (cs1 := [wX ax (bo 0) (tr 0) (ac 0) (ah 0) (at_ 0), wB E bo β, wB E tr τ, wC E ac ((lpF (fL_holds_L42 β γ) (0, γ) (cnt β)).2), wH E ah bd η, wT E at_ θ, wB E (bd 2) (σ 2), wB E (bd 3) (σ 3), wB E (bd 4) (σ 4), wB E (bd 5) (σ 5), wB E (bd 6) (σ 6), wB E (bd 7) (σ 7), wB E (bd 8) (σ 8), wB E (bd 9) (σ 9)]) (st1 := [.int (fT_tickets β), .int (nI (cnt β))]) [] [0, 1, 2, 3, 4, 5, 6, 7, 8, 9, 10, 11, 12, 13] (kT_tickets l E ax bo β tr τ ac ((lpF (fL_holds_L42 β γ) (0, γ) (cnt β)).2) ah bd η σ at_ θ) caX6_tickets q2_55 rfl ⟨Nat.le_of_ble_eq_true rfl, Nat.le_of_ble_eq_true rfl⟩ ⟨Nat.zero_le _, Nat.zero_le _⟩ 0 0 rfl rfl rfl rfl (by decide) rfl rfl rfl rfl (Nat.le_of_ble_eq_true rfl) dL_holds_45 rfl ?_
            refine g_icmp_ge C 251 dL_holds_48 (by decide) (fun c_10 => ?_) (fun c_10 => ?_)
            · skip
              refine g_iconst C (v := 0) dL_holds_251 (by decide) ?_
              refine g_istore C (lv1 := [(4, .int 0), (0, .ref ax), (1, .int ((lpF (fL_holds_L9 β γ) (0, 0) 5).1)), (2, .int ((lpF (fL_holds_L9 β γ) (0, 0) 5).2)), (3, .int ((lpF (fL_holds_L42 β γ) (0, γ) (cnt β)).1))]) dL_holds_252 (by decide) rfl ?_
              have hL_13 : ∀ d_11 i254 : Nat, i254 + d_11 = 5 → G X 0 0 [wX ax (bo 0) (tr 0) (ac 0) (ah 0) (at_ 0), wB E bo β, wB E tr τ, wC E ac ((lpF (fL_holds_L42 β γ) (0, γ) (cnt β)).2), wH E ah bd η, wT E at_ θ, wB E (bd 2) (σ 2), wB E (bd 3) (σ 3), wB E (bd 4) (σ 4), wB E (bd 5) (σ 5), wB E (bd 6) (σ 6), wB E (bd 7) (σ 7), wB E (bd 8) (σ 8), wB E (bd 9) (σ 9)] [(0, .ref ax), (1, .int ((lpF (fL_holds_L9 β γ) (0, 0) 5).1)), (2, .int ((lpF (fL_holds_L9 β γ) (0, 0) 5).2)), (3, .int ((lpF (fL_holds_L42 β γ) (0, γ) (cnt β)).1)), (4, .int (nI i254))] 254 [] := by
                intro d_11
                induction d_11 with
                | zero =>
                  intro i254 hi_12
                  obtain rfl : i254 = 5 := by omega
                  refine g_iload C dL_holds_254 4 rfl ?_
                  refine g_iconst C (v := 5) dL_holds_256 (by decide) ?_
                  refine g_icmp_ge C 298 dL_holds_257 (by decide) (fun c_15 => ?_) (fun c_15 => ?_)
                  · skip
                    refine g_iconst C (v := 0) dL_holds_298 (by decide) ?_
                    refine g_istore C (lv1 := [(4, .int 0), (0, .ref ax), (1, .int ((lpF (fL_holds_L9 β γ) (0, 0) 5).1)), (2, .int ((lpF (fL_holds_L9 β γ) (0, 0) 5).2)), (3, .int ((lpF (fL_holds_L42 β γ) (0, γ) (cnt β)).1))]) dL_holds_299 (by decide) rfl ?_
                    refine g_iconst C (v := 0) dL_holds_301 (by decide) ?_
                    refine g_istore C (lv1 := [(5, .int 0), (4, .int 0), (0, .ref ax), (1, .int ((lpF (fL_holds_L9 β γ) (0, 0) 5).1)), (2, .int ((lpF (fL_holds_L9 β γ) (0, 0) 5).2)), (3, .int ((lpF (fL_holds_L42 β γ) (0, γ) (cnt β)).1))]) dL_holds_302 (by decide) rfl ?_
                    have hL_18 : ∀ d_16 i304 : Nat, i304 + d_16 = 4 → G X 0 0 [wX ax (bo 0) (tr 0) (ac 0) (ah 0) (at_ 0), wB E bo β, wB E tr τ, wC E ac ((lpF (fL_holds_L42 β γ) (0, γ) (cnt β)).2), wH E ah bd η, wT E at_ θ, wB E (bd 2) (σ 2), wB E (bd 3) (σ 3), wB E (bd 4) (σ 4), wB E (bd 5) (σ 5), wB E (bd 6) (σ 6), wB E (bd 7) (σ 7), wB E (bd 8) (σ 8), wB E (bd 9) (σ 9)] [(0, .ref ax), (1, .int ((lpF (fL_holds_L9 β γ) (0, 0) 5).1)), (2, .int ((lpF (fL_holds_L9 β γ) (0, 0) 5).2)), (3, .int ((lpF (fL_holds_L42 β γ) (0, γ) (cnt β)).1)), (4, .int (lpF (fL_holds_L304 β γ) 0 i304)), (5, .int (nI i304))] 304 [] := by
                      intro d_16
                      induction d_16 with
                      | zero =>
                        intro i304 hi_17
                        obtain rfl : i304 = 4 := by omega
                        refine g_iload C dL_holds_304 5 rfl ?_
                        refine g_iconst C (v := 4) dL_holds_306 (by decide) ?_
                        refine g_icmp_ge C 406 dL_holds_307 (by decide) (fun c_20 => ?_) (fun c_20 => ?_)
                        · skip
                          refine g_iload_n C dL_holds_406 rfl 1 rfl ?_
                          refine g_aload_n C dL_holds_407 rfl 0 rfl ?_
                          refine g_callV C (cs1 := [wX ax (bo 0) (tr 0) (ac 0) (ah 0) (at_ 0), wB E bo β, wB E tr τ, wC E ac ((lpF (fL_holds_L42 β γ) (0, γ) (cnt β)).2), wH E ah bd η, wT E at_ θ, wB E (bd 2) (σ 2), wB E (bd 3) (σ 3), wB E (bd 4) (σ 4), wB E (bd 5) (σ 5), wB E (bd 6) (σ 6), wB E (bd 7) (σ 7), wB E (bd 8) (σ 8), wB E (bd 9) (σ 9)]) (st1 := [.int (fT_tickets β), .int ((lpF (fL_holds_L9 β γ) (0, 0) 5).1)]) [] [0, 1, 2, 3, 4, 5, 6, 7, 8, 9, 10, 11, 12, 13] (kT_tickets l E ax bo β tr τ ac ((lpF (fL_holds_L42 β γ) (0, γ) (cnt β)).2) ah bd η σ at_ θ) caX6_tickets q2_55 rfl ⟨Nat.le_of_ble_eq_true rfl, Nat.le_of_ble_eq_true rfl⟩ ⟨Nat.zero_le _, Nat.zero_le _⟩ 0 0 rfl rfl rfl rfl (by decide) rfl rfl rfl rfl (Nat.le_of_ble_eq_true rfl) dL_holds_408 rfl ?_
                          refine g_icmp_ne C 466 dL_holds_411 (by decide) (fun c_21 => ?_) (fun c_21 => ?_)
                          · exact absurd (sum_many hI (fun i x => rfl)) c_21
                          · skip
                            refine g_iload_n C dL_holds_414 rfl 2 rfl ?_
                            refine g_aload_n C dL_holds_415 rfl 0 rfl ?_
                            refine g_callV C (cs1 := [wX ax (bo 0) (tr 0) (ac 0) (ah 0) (at_ 0), wB E bo β, wB E tr τ, wC E ac ((lpF (fL_holds_L42 β γ) (0, γ) (cnt β)).2), wH E ah bd η, wT E at_ θ, wB E (bd 2) (σ 2), wB E (bd 3) (σ 3), wB E (bd 4) (σ 4), wB E (bd 5) (σ 5), wB E (bd 6) (σ 6), wB E (bd 7) (σ 7), wB E (bd 8) (σ 8), wB E (bd 9) (σ 9)]) (st1 := [.int (fT_allPoints β), .int ((lpF (fL_holds_L9 β γ) (0, 0) 5).2)]) [] [0, 1, 2, 3, 4, 5, 6, 7, 8, 9, 10, 11, 12, 13] (kT_allPoints l E ax bo β tr τ ac ((lpF (fL_holds_L42 β γ) (0, γ) (cnt β)).2) ah bd η σ at_ θ hv) caX6_allPoints q4_0 rfl ⟨Nat.le_of_ble_eq_true rfl, Nat.le_of_ble_eq_true rfl⟩ ⟨Nat.zero_le _, Nat.zero_le _⟩ 0 0 rfl rfl rfl rfl (by decide) rfl rfl rfl rfl (Nat.le_of_ble_eq_true rfl) dL_holds_416 rfl ?_
                            refine g_icmp_ne C 466 dL_holds_419 (by decide) (fun c_22 => ?_) (fun c_22 => ?_)
                            · exact absurd (sum_points hI (fun i x => rfl)) c_22
                            · skip
                              refine g_iload_n C dL_holds_422 rfl 3 rfl ?_
                              refine g_aload_n C dL_holds_423 rfl 0 rfl ?_
                              refine g_callV C (cs1 := [wX ax (bo 0) (tr 0) (ac 0) (ah 0) (at_ 0), wB E bo β, wB E tr τ, wC E ac ((lpF (fL_holds_L42 β γ) (0, γ) (cnt β)).2), wH E ah bd η, wT E at_ θ, wB E (bd 2) (σ 2), wB E (bd 3) (σ 3), wB E (bd 4) (σ 4), wB E (bd 5) (σ 5), wB E (bd 6) (σ 6), wB E (bd 7) (σ 7), wB E (bd 8) (σ 8), wB E (bd 9) (σ 9)]) (st1 := [.int (fT_blockedTickets β), .int ((lpF (fL_holds_L42 β γ) (0, γ) (cnt β)).1)]) [] [0, 1, 2, 3, 4, 5, 6, 7, 8, 9, 10, 11, 12, 13] (kT_blockedTickets l E ax bo β tr τ ac ((lpF (fL_holds_L42 β γ) (0, γ) (cnt β)).2) ah bd η σ at_ θ hv) caX6_blockedTickets q4_5 rfl ⟨Nat.le_of_ble_eq_true rfl, Nat.le_of_ble_eq_true rfl⟩ ⟨Nat.zero_le _, Nat.zero_le _⟩ 0 0 rfl rfl rfl rfl (by decide) rfl rfl rfl rfl (Nat.le_of_ble_eq_true rfl) dL_holds_424 rfl ?_
                              refine g_icmp_ne C 466 dL_holds_427 (by decide) (fun c_23 => ?_) (fun c_23 => ?_)
                              · exact absurd (sum_blocked hI (fun i x => by unfold fL_holds_L42; (repeat' split) <;> first | rfl | contradiction)) c_23
                              · skip
                                refine g_iload C dL_holds_430 4 rfl ?_
                                refine g_aload_n C dL_holds_432 rfl 0 rfl ?_
                                refine g_callV C (cs1 := [wX ax (bo 0) (tr 0) (ac 0) (ah 0) (at_ 0), wB E bo β, wB E tr τ, wC E ac ((lpF (fL_holds_L42 β γ) (0, γ) (cnt β)).2), wH E ah bd η, wT E at_ θ, wB E (bd 2) (σ 2), wB E (bd 3) (σ 3), wB E (bd 4) (σ 4), wB E (bd 5) (σ 5), wB E (bd 6) (σ 6), wB E (bd 7) (σ 7), wB E (bd 8) (σ 8), wB E (bd 9) (σ 9)]) (st1 := [.int (fT_lateMilestones β), .int (lpF (fL_holds_L304 β γ) 0 4)]) [] [0, 1, 2, 3, 4, 5, 6, 7, 8, 9, 10, 11, 12, 13] (kT_lateMilestones l E ax bo β tr τ ac ((lpF (fL_holds_L42 β γ) (0, γ) (cnt β)).2) ah bd η σ at_ θ hv) caX6_lateMilestones q4_14 rfl ⟨Nat.le_of_ble_eq_true rfl, Nat.le_of_ble_eq_true rfl⟩ ⟨Nat.zero_le _, Nat.zero_le _⟩ 0 0 rfl rfl rfl rfl (by decide) rfl rfl rfl rfl (Nat.le_of_ble_eq_true rfl) dL_holds_433 rfl ?_
                                refine g_icmp_ne C 466 dL_holds_436 (by decide) (fun c_24 => ?_) (fun c_24 => ?_)
                                · exact absurd (sum_late hI (fun i x => by unfold fL_holds_L304; (repeat' split) <;> first | rfl | contradiction)) c_24
                                · skip
                                  refine g_aload_n C dL_holds_439 rfl 0 rfl ?_
                                  refine g_callV C (cs1 := [wX ax (bo 0) (tr 0) (ac 0) (ah 0) (at_ 0), wB E bo β, wB E tr τ, wC E ac ((fT_criticalByTrying β ((lpF (fL_holds_L42 β γ) (0, γ) (cnt β)).2)).2), wH E ah bd η, wT E at_ θ, wB E (bd 2) (σ 2), wB E (bd 3) (σ 3), wB E (bd 4) (σ 4), wB E (bd 5) (σ 5), wB E (bd 6) (σ 6), wB E (bd 7) (σ 7), wB E (bd 8) (σ 8), wB E (bd 9) (σ 9)]) (st1 := [.int ((fT_criticalByTrying β ((lpF (fL_holds_L42 β γ) (0, γ) (cnt β)).2)).1)]) [] [0, 1, 2, 3, 4, 5, 6, 7, 8, 9, 10, 11, 12, 13] (kT_criticalByTrying l E ax bo β tr τ ac ((lpF (fL_holds_L42 β γ) (0, γ) (cnt β)).2) ah bd η σ at_ θ hv) caX6_criticalByTrying q4_22 rfl ⟨Nat.le_of_ble_eq_true rfl, Nat.le_of_ble_eq_true rfl⟩ ⟨Nat.zero_le _, Nat.zero_le _⟩ 0 0 rfl rfl rfl rfl (by decide) rfl rfl rfl rfl (Nat.le_of_ble_eq_true rfl) dL_holds_440 rfl ?_
                                  refine g_aload_n C dL_holds_443 rfl 0 rfl ?_
                                  refine g_callV C (cs1 := [wX ax (bo 0) (tr 0) (ac 0) (ah 0) (at_ 0), wB E bo β, wB E tr τ, wC E ac ((fT_criticalByOrder β ((fT_criticalByTrying β ((lpF (fL_holds_L42 β γ) (0, γ) (cnt β)).2)).2)).2), wH E ah bd η, wT E at_ θ, wB E (bd 2) (σ 2), wB E (bd 3) (σ 3), wB E (bd 4) (σ 4), wB E (bd 5) (σ 5), wB E (bd 6) (σ 6), wB E (bd 7) (σ 7), wB E (bd 8) (σ 8), wB E (bd 9) (σ 9)]) (st1 := [.int ((fT_criticalByOrder β ((fT_criticalByTrying β ((lpF (fL_holds_L42 β γ) (0, γ) (cnt β)).2)).2)).1), .int ((fT_criticalByTrying β ((lpF (fL_holds_L42 β γ) (0, γ) (cnt β)).2)).1)]) [] [0, 1, 2, 3, 4, 5, 6, 7, 8, 9, 10, 11, 12, 13] (kT_criticalByOrder l E ax bo β tr τ ac ((fT_criticalByTrying β ((lpF (fL_holds_L42 β γ) (0, γ) (cnt β)).2)).2) ah bd η σ at_ θ hv) caX6_criticalByOrder q2_165 rfl ⟨Nat.le_of_ble_eq_true rfl, Nat.le_of_ble_eq_true rfl⟩ ⟨Nat.zero_le _, Nat.zero_le _⟩ 0 0 rfl rfl rfl rfl (by decide) rfl rfl rfl rfl (Nat.le_of_ble_eq_true rfl) dL_holds_444 rfl ?_
                                  refine g_icmp_ne C 466 dL_holds_447 (by decide) (fun c_25 => ?_) (fun c_25 => ?_)
                                  · exact absurd (crit_two hI) c_25
                                  · skip
                                    refine g_aload_n C dL_holds_450 rfl 0 rfl ?_
                                    refine g_callV C (cs1 := [wX ax (bo 0) (tr 0) (ac 0) (ah 0) (at_ 0), wB E bo β, wB E tr τ, wC E ac ((fT_criticalByOrder β ((fT_criticalByTrying β ((lpF (fL_holds_L42 β γ) (0, γ) (cnt β)).2)).2)).2), wH E ah bd η, wT E at_ θ, wB E (bd 2) (σ 2), wB E (bd 3) (σ 3), wB E (bd 4) (σ 4), wB E (bd 5) (σ 5), wB E (bd 6) (σ 6), wB E (bd 7) (σ 7), wB E (bd 8) (σ 8), wB E (bd 9) (σ 9)]) (st1 := [.int (fT_pointsOfWeek β)]) [] [0, 1, 2, 3, 4, 5, 6, 7, 8, 9, 10, 11, 12, 13] (kT_pointsOfWeek l E ax bo β tr τ ac ((fT_criticalByOrder β ((fT_criticalByTrying β ((lpF (fL_holds_L42 β γ) (0, γ) (cnt β)).2)).2)).2) ah bd η σ at_ θ hv) caX6_pointsOfWeek q4_33 rfl ⟨Nat.le_of_ble_eq_true rfl, Nat.le_of_ble_eq_true rfl⟩ ⟨Nat.zero_le _, Nat.zero_le _⟩ 0 0 rfl rfl rfl rfl (by decide) rfl rfl rfl rfl (Nat.le_of_ble_eq_true rfl) dL_holds_451 rfl ?_
                                    refine g_aload_n C dL_holds_454 rfl 0 rfl ?_
                                    refine g_iconst C (v := 3) dL_holds_455 (by decide) ?_
                                    refine g_callV C (cs1 := [wX ax (bo 0) (tr 0) (ac 0) (ah 0) (at_ 0), wB E bo β, wB E tr τ, wC E ac ((fT_criticalByOrder β ((fT_criticalByTrying β ((lpF (fL_holds_L42 β γ) (0, γ) (cnt β)).2)).2)).2), wH E ah bd η, wT E at_ θ, wB E (bd 2) (σ 2), wB E (bd 3) (σ 3), wB E (bd 4) (σ 4), wB E (bd 5) (σ 5), wB E (bd 6) (σ 6), wB E (bd 7) (σ 7), wB E (bd 8) (σ 8), wB E (bd 9) (σ 9)]) (st1 := [.int (fT_pointsWith β 3), .int (fT_pointsOfWeek β)]) [.int 3] [0, 1, 2, 3, 4, 5, 6, 7, 8, 9, 10, 11, 12, 13] (kT_pointsWith l E ax bo β tr τ ac ((fT_criticalByOrder β ((fT_criticalByTrying β ((lpF (fL_holds_L42 β γ) (0, γ) (cnt β)).2)).2)).2) ah bd η σ at_ θ hv 3 rfl) caX6_pointsWith q3_210 rfl ⟨Nat.le_of_ble_eq_true rfl, Nat.le_of_ble_eq_true rfl⟩ ⟨Nat.zero_le _, Nat.zero_le _⟩ 0 0 rfl rfl rfl rfl (by decide) rfl rfl rfl rfl (Nat.le_of_ble_eq_true rfl) dL_holds_456 rfl ?_
                                    refine g_icmp_gt C 466 dL_holds_459 (by decide) (fun c_26 => ?_) (fun c_26 => ?_)
                                    · exact absurd c_26 (week_le hI)
                                    · skip
                                      refine g_iconst C (v := 1) dL_holds_462 (by decide) ?_
                                      refine g_goto C 467 dL_holds_463 (by decide) ?_
                                      have e_27 : fL_holds β γ = (true, (fT_criticalByOrder β ((fT_criticalByTrying β ((lpF (fL_holds_L42 β γ) (0, γ) (cnt β)).2)).2)).2) := by rw [fL_holds]
                                      exact g_zret (b := true) C hE (by rw [e_27]) rfl (by rw [e_27]) dL_holds_467
                        · exact absurd (lc_le rfl nI_l4 (by omega) (by omega)) c_20
                      | succ d_16 ih_19 =>
                        intro i304 hi_17
                        refine g_iload C dL_holds_304 5 rfl ?_
                        refine g_iconst C (v := 4) dL_holds_306 (by decide) ?_
                        refine g_icmp_ge C 406 dL_holds_307 (by decide) (fun c_28 => ?_) (fun c_28 => ?_)
                        · exact absurd c_28 (lc_nle rfl nI_l4 (by omega) (by omega))
                        · skip
                          refine g_iload C dL_holds_310 4 rfl ?_
                          refine g_aload_n C dL_holds_312 rfl 0 rfl ?_
                          refine g_iload C dL_holds_313 5 rfl ?_
                          refine g_callV C (cs1 := [wX ax (bo 0) (tr 0) (ac 0) (ah 0) (at_ 0), wB E bo β, wB E tr τ, wC E ac ((lpF (fL_holds_L42 β γ) (0, γ) (cnt β)).2), wH E ah bd η, wT E at_ θ, wB E (bd 2) (σ 2), wB E (bd 3) (σ 3), wB E (bd 4) (σ 4), wB E (bd 5) (σ 5), wB E (bd 6) (σ 6), wB E (bd 7) (σ 7), wB E (bd 8) (σ 8), wB E (bd 9) (σ 9)]) (st1 := [.int (b2i (fT_isLate β i304)), .int (lpF (fL_holds_L304 β γ) 0 i304)]) [.int (nI i304)] [0, 1, 2, 3, 4, 5, 6, 7, 8, 9, 10, 11, 12, 13] (kT_isLate l E ax bo β tr τ ac ((lpF (fL_holds_L42 β γ) (0, γ) (cnt β)).2) ah bd η σ at_ θ hv i304 (by omega) (mil_n (by omega))) caX6_isLate q3_233 rfl ⟨Nat.le_of_ble_eq_true rfl, Nat.le_of_ble_eq_true rfl⟩ ⟨Nat.zero_le _, Nat.zero_le _⟩ 0 0 rfl rfl rfl rfl (by decide) rfl rfl rfl rfl (Nat.le_of_ble_eq_true rfl) dL_holds_315 rfl ?_
                          refine g_ifB_eq C 325 dL_holds_318 (by decide) (fun c_29 => ?_) (fun c_29 => ?_)
                          · skip
                            refine g_iconst C (v := 0) dL_holds_325 (by decide) ?_
                            refine g_iadd C dL_holds_326 ?_
                            refine g_istore C (lv1 := [(4, .int ((lpF (fL_holds_L304 β γ) 0 i304) + 0)), (0, .ref ax), (1, .int ((lpF (fL_holds_L9 β γ) (0, 0) 5).1)), (2, .int ((lpF (fL_holds_L9 β γ) (0, 0) 5).2)), (3, .int ((lpF (fL_holds_L42 β γ) (0, γ) (cnt β)).1)), (5, .int (nI i304))]) dL_holds_327 (by decide) rfl ?_
                            refine g_aload_n C dL_holds_329 rfl 1 rfl ?_
                            refine g_iload C dL_holds_330 5 rfl ?_
                            refine g_callV C (cs1 := [wX ax (bo 0) (tr 0) (ac 0) (ah 0) (at_ 0), wB E bo β, wB E tr τ, wC E ac ((lpF (fL_holds_L42 β γ) (0, γ) (cnt β)).2), wH E ah bd η, wT E at_ θ, wB E (bd 2) (σ 2), wB E (bd 3) (σ 3), wB E (bd 4) (σ 4), wB E (bd 5) (σ 5), wB E (bd 6) (σ 6), wB E (bd 7) (σ 7), wB E (bd 8) (σ 8), wB E (bd 9) (σ 9)]) (st1 := [.int (fT_hundredthsDone β i304)]) [.int (nI i304)] [0, 1, 2, 3, 4, 5, 6, 7, 8, 9, 10, 11, 12, 13] (kT_hundredthsDone l E ax bo β tr τ ac ((lpF (fL_holds_L42 β γ) (0, γ) (cnt β)).2) ah bd η σ at_ θ hv i304 (by omega) (mil_n (by omega))) caX6_hundredthsDone q2_95 rfl ⟨Nat.le_of_ble_eq_true rfl, Nat.le_of_ble_eq_true rfl⟩ ⟨Nat.zero_le _, Nat.zero_le _⟩ 0 0 rfl rfl rfl rfl (by decide) rfl rfl rfl rfl (Nat.le_of_ble_eq_true rfl) dL_holds_332 rfl ?_
                            refine g_bipush C (v := 100) dL_holds_335 (by decide) ?_
                            refine g_icmp_ne C 344 dL_holds_337 (by decide) (fun c_30 => ?_) (fun c_30 => ?_)
                            · skip
                              have hu9 := c_30
                              refine g_iconst C (v := 0) dL_holds_344 (by decide) ?_
                              refine g_aload_n C dL_holds_345 rfl 1 rfl ?_
                              refine g_iload C dL_holds_346 5 rfl ?_
                              refine g_callV C (cs1 := [wX ax (bo 0) (tr 0) (ac 0) (ah 0) (at_ 0), wB E bo β, wB E tr τ, wC E ac ((lpF (fL_holds_L42 β γ) (0, γ) (cnt β)).2), wH E ah bd η, wT E at_ θ, wB E (bd 2) (σ 2), wB E (bd 3) (σ 3), wB E (bd 4) (σ 4), wB E (bd 5) (σ 5), wB E (bd 6) (σ 6), wB E (bd 7) (σ 7), wB E (bd 8) (σ 8), wB E (bd 9) (σ 9)]) (st1 := [.int (fT_pointsLeft β i304), .int 0]) [.int (nI i304)] [0, 1, 2, 3, 4, 5, 6, 7, 8, 9, 10, 11, 12, 13] (kT_pointsLeft l E ax bo β tr τ ac ((lpF (fL_holds_L42 β γ) (0, γ) (cnt β)).2) ah bd η σ at_ θ hv i304 (by omega) (mil_n (by omega))) caX6_pointsLeft q3_18 rfl ⟨Nat.le_of_ble_eq_true rfl, Nat.le_of_ble_eq_true rfl⟩ ⟨Nat.zero_le _, Nat.zero_le _⟩ 0 0 rfl rfl rfl rfl (by decide) rfl rfl rfl rfl (Nat.le_of_ble_eq_true rfl) dL_holds_348 rfl ?_
                              refine g_if_ne C 358 dL_holds_351 (by decide) (fun c_31 => ?_) (fun c_31 => ?_)
                              · skip
                                refine g_iconst C (v := 0) dL_holds_358 (by decide) ?_
                                refine g_icmp_ne C 398 dL_holds_359 (by decide) (fun c_32 => ?_) (fun c_32 => ?_)
                                · exact absurd (by decide) c_32
                                · skip
                                  refine g_aload_n C dL_holds_362 rfl 1 rfl ?_
                                  refine g_iload C dL_holds_363 5 rfl ?_
                                  refine g_callV C (cs1 := [wX ax (bo 0) (tr 0) (ac 0) (ah 0) (at_ 0), wB E bo β, wB E tr τ, wC E ac ((lpF (fL_holds_L42 β γ) (0, γ) (cnt β)).2), wH E ah bd η, wT E at_ θ, wB E (bd 2) (σ 2), wB E (bd 3) (σ 3), wB E (bd 4) (σ 4), wB E (bd 5) (σ 5), wB E (bd 6) (σ 6), wB E (bd 7) (σ 7), wB E (bd 8) (σ 8), wB E (bd 9) (σ 9)]) (st1 := [.int (b2i (fT_isLate β i304))]) [.int (nI i304)] [0, 1, 2, 3, 4, 5, 6, 7, 8, 9, 10, 11, 12, 13] (kT_isLate l E ax bo β tr τ ac ((lpF (fL_holds_L42 β γ) (0, γ) (cnt β)).2) ah bd η σ at_ θ hv i304 (by omega) (mil_n (by omega))) caX6_isLate q3_233 rfl ⟨Nat.le_of_ble_eq_true rfl, Nat.le_of_ble_eq_true rfl⟩ ⟨Nat.zero_le _, Nat.zero_le _⟩ 0 0 rfl rfl rfl rfl (by decide) rfl rfl rfl rfl (Nat.le_of_ble_eq_true rfl) dL_holds_365 rfl ?_
                                  refine g_aload_n C dL_holds_368 rfl 1 rfl ?_
                                  refine g_callV C (cs1 := [wX ax (bo 0) (tr 0) (ac 0) (ah 0) (at_ 0), wB E bo β, wB E tr τ, wC E ac ((lpF (fL_holds_L42 β γ) (0, γ) (cnt β)).2), wH E ah bd η, wT E at_ θ, wB E (bd 2) (σ 2), wB E (bd 3) (σ 3), wB E (bd 4) (σ 4), wB E (bd 5) (σ 5), wB E (bd 6) (σ 6), wB E (bd 7) (σ 7), wB E (bd 8) (σ 8), wB E (bd 9) (σ 9)]) (st1 := [.int (fT_day β), .int (b2i (fT_isLate β i304))]) [] [0, 1, 2, 3, 4, 5, 6, 7, 8, 9, 10, 11, 12, 13] (kT_day l E ax bo β tr τ ac ((lpF (fL_holds_L42 β γ) (0, γ) (cnt β)).2) ah bd η σ at_ θ) caX6_day q2_138 rfl ⟨Nat.le_of_ble_eq_true rfl, Nat.le_of_ble_eq_true rfl⟩ ⟨Nat.zero_le _, Nat.zero_le _⟩ 0 0 rfl rfl rfl rfl (by decide) rfl rfl rfl rfl (Nat.le_of_ble_eq_true rfl) dL_holds_369 rfl ?_
                                  refine g_aload_n C dL_holds_372 rfl 1 rfl ?_
                                  refine g_iload C dL_holds_373 5 rfl ?_
                                  refine g_callV C (cs1 := [wX ax (bo 0) (tr 0) (ac 0) (ah 0) (at_ 0), wB E bo β, wB E tr τ, wC E ac ((lpF (fL_holds_L42 β γ) (0, γ) (cnt β)).2), wH E ah bd η, wT E at_ θ, wB E (bd 2) (σ 2), wB E (bd 3) (σ 3), wB E (bd 4) (σ 4), wB E (bd 5) (σ 5), wB E (bd 6) (σ 6), wB E (bd 7) (σ 7), wB E (bd 8) (σ 8), wB E (bd 9) (σ 9)]) (st1 := [.int (fT_dateOf β i304), .int (fT_day β), .int (b2i (fT_isLate β i304))]) [.int (nI i304)] [0, 1, 2, 3, 4, 5, 6, 7, 8, 9, 10, 11, 12, 13] (kT_dateOf l E ax bo β tr τ ac ((lpF (fL_holds_L42 β γ) (0, γ) (cnt β)).2) ah bd η σ at_ θ hv i304 (by omega) (mil_n (by omega))) caX6_dateOf q2_88 rfl ⟨Nat.le_of_ble_eq_true rfl, Nat.le_of_ble_eq_true rfl⟩ ⟨Nat.zero_le _, Nat.zero_le _⟩ 0 0 rfl rfl rfl rfl (by decide) rfl rfl rfl rfl (Nat.le_of_ble_eq_true rfl) dL_holds_375 rfl ?_
                                  refine g_icmp_le C 394 dL_holds_378 (by decide) (fun c_33 => ?_) (fun c_33 => ?_)
                                  · skip
                                    have hl9 := c_33
                                    refine g_iconst C (v := 0) dL_holds_394 (by decide) ?_
                                    refine g_icmp_eq C 400 dL_holds_395 (by decide) (fun c_34 => ?_) (fun c_34 => ?_)
                                    · skip
                                      refine g_iinc C (v := nI (i304 + 1)) (lv1 := [(5, .int (nI (i304 + 1))), (4, .int ((lpF (fL_holds_L304 β γ) 0 i304) + 0)), (0, .ref ax), (1, .int ((lpF (fL_holds_L9 β γ) (0, 0) 5).1)), (2, .int ((lpF (fL_holds_L9 β γ) (0, 0) 5).2)), (3, .int ((lpF (fL_holds_L42 β γ) (0, γ) (cnt β)).1))]) dL_holds_400 5 rfl (nI_1 i304) (by decide) rfl ?_
                                      refine g_goto C 304 dL_holds_403 (by decide) ?_
                                      have e_35 : (lpF (fL_holds_L304 β γ) 0 (i304 + 1)) = (lpF (fL_holds_L304 β γ) 0 i304) + 0 := by
                                        rw [lpF_1, fL_holds_L304]; rw [if_neg (ne_true_of_eq_false c_29), if_neg c_30, if_pos c_33]
                                      have h_36 := ih_19 (i304 + 1) (by omega)
                                      rw [e_35] at h_36
                                      exact g_sub [2, 3, 4, 5, 1, 0] rfl h_36
                                    · exact absurd (late_0a hI (by omega) hl9) c_34
                                  · skip
                                    have hd9 := c_33
                                    refine g_aload_n C dL_holds_381 rfl 1 rfl ?_
                                    refine g_iload C dL_holds_382 5 rfl ?_
                                    refine g_callV C (cs1 := [wX ax (bo 0) (tr 0) (ac 0) (ah 0) (at_ 0), wB E bo β, wB E tr τ, wC E ac ((lpF (fL_holds_L42 β γ) (0, γ) (cnt β)).2), wH E ah bd η, wT E at_ θ, wB E (bd 2) (σ 2), wB E (bd 3) (σ 3), wB E (bd 4) (σ 4), wB E (bd 5) (σ 5), wB E (bd 6) (σ 6), wB E (bd 7) (σ 7), wB E (bd 8) (σ 8), wB E (bd 9) (σ 9)]) (st1 := [.int (fT_pointsLeft β i304), .int (b2i (fT_isLate β i304))]) [.int (nI i304)] [0, 1, 2, 3, 4, 5, 6, 7, 8, 9, 10, 11, 12, 13] (kT_pointsLeft l E ax bo β tr τ ac ((lpF (fL_holds_L42 β γ) (0, γ) (cnt β)).2) ah bd η σ at_ θ hv i304 (by omega) (mil_n (by omega))) caX6_pointsLeft q3_18 rfl ⟨Nat.le_of_ble_eq_true rfl, Nat.le_of_ble_eq_true rfl⟩ ⟨Nat.zero_le _, Nat.zero_le _⟩ 0 0 rfl rfl rfl rfl (by decide) rfl rfl rfl rfl (Nat.le_of_ble_eq_true rfl) dL_holds_384 rfl ?_
                                    refine g_if_le C 394 dL_holds_387 (by decide) (fun c_37 => ?_) (fun c_37 => ?_)
                                    · skip
                                      have hl9 := c_37
                                      refine g_iconst C (v := 0) dL_holds_394 (by decide) ?_
                                      refine g_icmp_eq C 400 dL_holds_395 (by decide) (fun c_38 => ?_) (fun c_38 => ?_)
                                      · skip
                                        refine g_iinc C (v := nI (i304 + 1)) (lv1 := [(5, .int (nI (i304 + 1))), (4, .int ((lpF (fL_holds_L304 β γ) 0 i304) + 0)), (0, .ref ax), (1, .int ((lpF (fL_holds_L9 β γ) (0, 0) 5).1)), (2, .int ((lpF (fL_holds_L9 β γ) (0, 0) 5).2)), (3, .int ((lpF (fL_holds_L42 β γ) (0, γ) (cnt β)).1))]) dL_holds_400 5 rfl (nI_1 i304) (by decide) rfl ?_
                                        refine g_goto C 304 dL_holds_403 (by decide) ?_
                                        have e_39 : (lpF (fL_holds_L304 β γ) 0 (i304 + 1)) = (lpF (fL_holds_L304 β γ) 0 i304) + 0 := by
                                          rw [lpF_1, fL_holds_L304]; rw [if_neg (ne_true_of_eq_false c_29), if_neg c_30, if_neg c_33, if_pos c_37]
                                        have h_40 := ih_19 (i304 + 1) (by omega)
                                        rw [e_39] at h_40
                                        exact g_sub [2, 3, 4, 5, 1, 0] rfl h_40
                                      · exact absurd (late_0b hI (by omega) hl9) c_38
                                    · skip
                                      have hl9 := c_37
                                      refine g_iconst C (v := 1) dL_holds_390 (by decide) ?_
                                      refine g_goto C 395 dL_holds_391 (by decide) ?_
                                      refine g_icmp_eq C 400 dL_holds_395 (by decide) (fun c_41 => ?_) (fun c_41 => ?_)
                                      · skip
                                        refine g_iinc C (v := nI (i304 + 1)) (lv1 := [(5, .int (nI (i304 + 1))), (4, .int ((lpF (fL_holds_L304 β γ) 0 i304) + 0)), (0, .ref ax), (1, .int ((lpF (fL_holds_L9 β γ) (0, 0) 5).1)), (2, .int ((lpF (fL_holds_L9 β γ) (0, 0) 5).2)), (3, .int ((lpF (fL_holds_L42 β γ) (0, γ) (cnt β)).1))]) dL_holds_400 5 rfl (nI_1 i304) (by decide) rfl ?_
                                        refine g_goto C 304 dL_holds_403 (by decide) ?_
                                        have e_42 : (lpF (fL_holds_L304 β γ) 0 (i304 + 1)) = (lpF (fL_holds_L304 β γ) 0 i304) + 0 := by
                                          rw [lpF_1, fL_holds_L304]; rw [if_neg (ne_true_of_eq_false c_29), if_neg c_30, if_neg c_33, if_neg c_37]
                                        have h_43 := ih_19 (i304 + 1) (by omega)
                                        rw [e_42] at h_43
                                        exact g_sub [2, 3, 4, 5, 1, 0] rfl h_43
                                      · exact absurd (late_1 hI (by omega) hd9 hl9) c_41
                              · exact absurd (left_hun hI (by omega) c_31) hu9
                            · skip
                              have hu9 := c_30
                              refine g_iconst C (v := 1) dL_holds_340 (by decide) ?_
                              refine g_goto C 345 dL_holds_341 (by decide) ?_
                              refine g_aload_n C dL_holds_345 rfl 1 rfl ?_
                              refine g_iload C dL_holds_346 5 rfl ?_
                              refine g_callV C (cs1 := [wX ax (bo 0) (tr 0) (ac 0) (ah 0) (at_ 0), wB E bo β, wB E tr τ, wC E ac ((lpF (fL_holds_L42 β γ) (0, γ) (cnt β)).2), wH E ah bd η, wT E at_ θ, wB E (bd 2) (σ 2), wB E (bd 3) (σ 3), wB E (bd 4) (σ 4), wB E (bd 5) (σ 5), wB E (bd 6) (σ 6), wB E (bd 7) (σ 7), wB E (bd 8) (σ 8), wB E (bd 9) (σ 9)]) (st1 := [.int (fT_pointsLeft β i304), .int 1]) [.int (nI i304)] [0, 1, 2, 3, 4, 5, 6, 7, 8, 9, 10, 11, 12, 13] (kT_pointsLeft l E ax bo β tr τ ac ((lpF (fL_holds_L42 β γ) (0, γ) (cnt β)).2) ah bd η σ at_ θ hv i304 (by omega) (mil_n (by omega))) caX6_pointsLeft q3_18 rfl ⟨Nat.le_of_ble_eq_true rfl, Nat.le_of_ble_eq_true rfl⟩ ⟨Nat.zero_le _, Nat.zero_le _⟩ 0 0 rfl rfl rfl rfl (by decide) rfl rfl rfl rfl (Nat.le_of_ble_eq_true rfl) dL_holds_348 rfl ?_
                              refine g_if_ne C 358 dL_holds_351 (by decide) (fun c_44 => ?_) (fun c_44 => ?_)
                              · exact absurd (hun_left hI (by omega) hu9) c_44
                              · skip
                                refine g_iconst C (v := 1) dL_holds_354 (by decide) ?_
                                refine g_goto C 359 dL_holds_355 (by decide) ?_
                                refine g_icmp_ne C 398 dL_holds_359 (by decide) (fun c_45 => ?_) (fun c_45 => ?_)
                                · exact absurd (by decide) c_45
                                · skip
                                  refine g_aload_n C dL_holds_362 rfl 1 rfl ?_
                                  refine g_iload C dL_holds_363 5 rfl ?_
                                  refine g_callV C (cs1 := [wX ax (bo 0) (tr 0) (ac 0) (ah 0) (at_ 0), wB E bo β, wB E tr τ, wC E ac ((lpF (fL_holds_L42 β γ) (0, γ) (cnt β)).2), wH E ah bd η, wT E at_ θ, wB E (bd 2) (σ 2), wB E (bd 3) (σ 3), wB E (bd 4) (σ 4), wB E (bd 5) (σ 5), wB E (bd 6) (σ 6), wB E (bd 7) (σ 7), wB E (bd 8) (σ 8), wB E (bd 9) (σ 9)]) (st1 := [.int (b2i (fT_isLate β i304))]) [.int (nI i304)] [0, 1, 2, 3, 4, 5, 6, 7, 8, 9, 10, 11, 12, 13] (kT_isLate l E ax bo β tr τ ac ((lpF (fL_holds_L42 β γ) (0, γ) (cnt β)).2) ah bd η σ at_ θ hv i304 (by omega) (mil_n (by omega))) caX6_isLate q3_233 rfl ⟨Nat.le_of_ble_eq_true rfl, Nat.le_of_ble_eq_true rfl⟩ ⟨Nat.zero_le _, Nat.zero_le _⟩ 0 0 rfl rfl rfl rfl (by decide) rfl rfl rfl rfl (Nat.le_of_ble_eq_true rfl) dL_holds_365 rfl ?_
                                  refine g_aload_n C dL_holds_368 rfl 1 rfl ?_
                                  refine g_callV C (cs1 := [wX ax (bo 0) (tr 0) (ac 0) (ah 0) (at_ 0), wB E bo β, wB E tr τ, wC E ac ((lpF (fL_holds_L42 β γ) (0, γ) (cnt β)).2), wH E ah bd η, wT E at_ θ, wB E (bd 2) (σ 2), wB E (bd 3) (σ 3), wB E (bd 4) (σ 4), wB E (bd 5) (σ 5), wB E (bd 6) (σ 6), wB E (bd 7) (σ 7), wB E (bd 8) (σ 8), wB E (bd 9) (σ 9)]) (st1 := [.int (fT_day β), .int (b2i (fT_isLate β i304))]) [] [0, 1, 2, 3, 4, 5, 6, 7, 8, 9, 10, 11, 12, 13] (kT_day l E ax bo β tr τ ac ((lpF (fL_holds_L42 β γ) (0, γ) (cnt β)).2) ah bd η σ at_ θ) caX6_day q2_138 rfl ⟨Nat.le_of_ble_eq_true rfl, Nat.le_of_ble_eq_true rfl⟩ ⟨Nat.zero_le _, Nat.zero_le _⟩ 0 0 rfl rfl rfl rfl (by decide) rfl rfl rfl rfl (Nat.le_of_ble_eq_true rfl) dL_holds_369 rfl ?_
                                  refine g_aload_n C dL_holds_372 rfl 1 rfl ?_
                                  refine g_iload C dL_holds_373 5 rfl ?_
                                  refine g_callV C (cs1 := [wX ax (bo 0) (tr 0) (ac 0) (ah 0) (at_ 0), wB E bo β, wB E tr τ, wC E ac ((lpF (fL_holds_L42 β γ) (0, γ) (cnt β)).2), wH E ah bd η, wT E at_ θ, wB E (bd 2) (σ 2), wB E (bd 3) (σ 3), wB E (bd 4) (σ 4), wB E (bd 5) (σ 5), wB E (bd 6) (σ 6), wB E (bd 7) (σ 7), wB E (bd 8) (σ 8), wB E (bd 9) (σ 9)]) (st1 := [.int (fT_dateOf β i304), .int (fT_day β), .int (b2i (fT_isLate β i304))]) [.int (nI i304)] [0, 1, 2, 3, 4, 5, 6, 7, 8, 9, 10, 11, 12, 13] (kT_dateOf l E ax bo β tr τ ac ((lpF (fL_holds_L42 β γ) (0, γ) (cnt β)).2) ah bd η σ at_ θ hv i304 (by omega) (mil_n (by omega))) caX6_dateOf q2_88 rfl ⟨Nat.le_of_ble_eq_true rfl, Nat.le_of_ble_eq_true rfl⟩ ⟨Nat.zero_le _, Nat.zero_le _⟩ 0 0 rfl rfl rfl rfl (by decide) rfl rfl rfl rfl (Nat.le_of_ble_eq_true rfl) dL_holds_375 rfl ?_
                                  refine g_icmp_le C 394 dL_holds_378 (by decide) (fun c_46 => ?_) (fun c_46 => ?_)
                                  · skip
                                    have hl9 := c_46
                                    refine g_iconst C (v := 0) dL_holds_394 (by decide) ?_
                                    refine g_icmp_eq C 400 dL_holds_395 (by decide) (fun c_47 => ?_) (fun c_47 => ?_)
                                    · skip
                                      refine g_iinc C (v := nI (i304 + 1)) (lv1 := [(5, .int (nI (i304 + 1))), (4, .int ((lpF (fL_holds_L304 β γ) 0 i304) + 0)), (0, .ref ax), (1, .int ((lpF (fL_holds_L9 β γ) (0, 0) 5).1)), (2, .int ((lpF (fL_holds_L9 β γ) (0, 0) 5).2)), (3, .int ((lpF (fL_holds_L42 β γ) (0, γ) (cnt β)).1))]) dL_holds_400 5 rfl (nI_1 i304) (by decide) rfl ?_
                                      refine g_goto C 304 dL_holds_403 (by decide) ?_
                                      have e_48 : (lpF (fL_holds_L304 β γ) 0 (i304 + 1)) = (lpF (fL_holds_L304 β γ) 0 i304) + 0 := by
                                        rw [lpF_1, fL_holds_L304]; rw [if_neg (ne_true_of_eq_false c_29), if_pos c_30, if_pos c_46]
                                      have h_49 := ih_19 (i304 + 1) (by omega)
                                      rw [e_48] at h_49
                                      exact g_sub [2, 3, 4, 5, 1, 0] rfl h_49
                                    · exact absurd (late_0a hI (by omega) hl9) c_47
                                  · skip
                                    have hd9 := c_46
                                    refine g_aload_n C dL_holds_381 rfl 1 rfl ?_
                                    refine g_iload C dL_holds_382 5 rfl ?_
                                    refine g_callV C (cs1 := [wX ax (bo 0) (tr 0) (ac 0) (ah 0) (at_ 0), wB E bo β, wB E tr τ, wC E ac ((lpF (fL_holds_L42 β γ) (0, γ) (cnt β)).2), wH E ah bd η, wT E at_ θ, wB E (bd 2) (σ 2), wB E (bd 3) (σ 3), wB E (bd 4) (σ 4), wB E (bd 5) (σ 5), wB E (bd 6) (σ 6), wB E (bd 7) (σ 7), wB E (bd 8) (σ 8), wB E (bd 9) (σ 9)]) (st1 := [.int (fT_pointsLeft β i304), .int (b2i (fT_isLate β i304))]) [.int (nI i304)] [0, 1, 2, 3, 4, 5, 6, 7, 8, 9, 10, 11, 12, 13] (kT_pointsLeft l E ax bo β tr τ ac ((lpF (fL_holds_L42 β γ) (0, γ) (cnt β)).2) ah bd η σ at_ θ hv i304 (by omega) (mil_n (by omega))) caX6_pointsLeft q3_18 rfl ⟨Nat.le_of_ble_eq_true rfl, Nat.le_of_ble_eq_true rfl⟩ ⟨Nat.zero_le _, Nat.zero_le _⟩ 0 0 rfl rfl rfl rfl (by decide) rfl rfl rfl rfl (Nat.le_of_ble_eq_true rfl) dL_holds_384 rfl ?_
                                    refine g_if_le C 394 dL_holds_387 (by decide) (fun c_50 => ?_) (fun c_50 => ?_)
                                    · skip
                                      have hl9 := c_50
                                      refine g_iconst C (v := 0) dL_holds_394 (by decide) ?_
                                      refine g_icmp_eq C 400 dL_holds_395 (by decide) (fun c_51 => ?_) (fun c_51 => ?_)
                                      · skip
                                        refine g_iinc C (v := nI (i304 + 1)) (lv1 := [(5, .int (nI (i304 + 1))), (4, .int ((lpF (fL_holds_L304 β γ) 0 i304) + 0)), (0, .ref ax), (1, .int ((lpF (fL_holds_L9 β γ) (0, 0) 5).1)), (2, .int ((lpF (fL_holds_L9 β γ) (0, 0) 5).2)), (3, .int ((lpF (fL_holds_L42 β γ) (0, γ) (cnt β)).1))]) dL_holds_400 5 rfl (nI_1 i304) (by decide) rfl ?_
                                        refine g_goto C 304 dL_holds_403 (by decide) ?_
                                        have e_52 : (lpF (fL_holds_L304 β γ) 0 (i304 + 1)) = (lpF (fL_holds_L304 β γ) 0 i304) + 0 := by
                                          rw [lpF_1, fL_holds_L304]; rw [if_neg (ne_true_of_eq_false c_29), if_pos c_30, if_neg c_46, if_pos c_50]
                                        have h_53 := ih_19 (i304 + 1) (by omega)
                                        rw [e_52] at h_53
                                        exact g_sub [2, 3, 4, 5, 1, 0] rfl h_53
                                      · exact absurd (late_0b hI (by omega) hl9) c_51
                                    · skip
                                      have hl9 := c_50
                                      refine g_iconst C (v := 1) dL_holds_390 (by decide) ?_
                                      refine g_goto C 395 dL_holds_391 (by decide) ?_
                                      refine g_icmp_eq C 400 dL_holds_395 (by decide) (fun c_54 => ?_) (fun c_54 => ?_)
                                      · skip
                                        refine g_iinc C (v := nI (i304 + 1)) (lv1 := [(5, .int (nI (i304 + 1))), (4, .int ((lpF (fL_holds_L304 β γ) 0 i304) + 0)), (0, .ref ax), (1, .int ((lpF (fL_holds_L9 β γ) (0, 0) 5).1)), (2, .int ((lpF (fL_holds_L9 β γ) (0, 0) 5).2)), (3, .int ((lpF (fL_holds_L42 β γ) (0, γ) (cnt β)).1))]) dL_holds_400 5 rfl (nI_1 i304) (by decide) rfl ?_
                                        refine g_goto C 304 dL_holds_403 (by decide) ?_
                                        have e_55 : (lpF (fL_holds_L304 β γ) 0 (i304 + 1)) = (lpF (fL_holds_L304 β γ) 0 i304) + 0 := by
                                          rw [lpF_1, fL_holds_L304]; rw [if_neg (ne_true_of_eq_false c_29), if_pos c_30, if_neg c_46, if_neg c_50]
                                        have h_56 := ih_19 (i304 + 1) (by omega)
                                        rw [e_55] at h_56
                                        exact g_sub [2, 3, 4, 5, 1, 0] rfl h_56
                                      · exact absurd (late_1 hI (by omega) hd9 hl9) c_54
                          · skip
                            refine g_iconst C (v := 1) dL_holds_321 (by decide) ?_
                            refine g_goto C 326 dL_holds_322 (by decide) ?_
                            refine g_iadd C dL_holds_326 ?_
                            refine g_istore C (lv1 := [(4, .int ((lpF (fL_holds_L304 β γ) 0 i304) + 1)), (0, .ref ax), (1, .int ((lpF (fL_holds_L9 β γ) (0, 0) 5).1)), (2, .int ((lpF (fL_holds_L9 β γ) (0, 0) 5).2)), (3, .int ((lpF (fL_holds_L42 β γ) (0, γ) (cnt β)).1)), (5, .int (nI i304))]) dL_holds_327 (by decide) rfl ?_
                            refine g_aload_n C dL_holds_329 rfl 1 rfl ?_
                            refine g_iload C dL_holds_330 5 rfl ?_
                            refine g_callV C (cs1 := [wX ax (bo 0) (tr 0) (ac 0) (ah 0) (at_ 0), wB E bo β, wB E tr τ, wC E ac ((lpF (fL_holds_L42 β γ) (0, γ) (cnt β)).2), wH E ah bd η, wT E at_ θ, wB E (bd 2) (σ 2), wB E (bd 3) (σ 3), wB E (bd 4) (σ 4), wB E (bd 5) (σ 5), wB E (bd 6) (σ 6), wB E (bd 7) (σ 7), wB E (bd 8) (σ 8), wB E (bd 9) (σ 9)]) (st1 := [.int (fT_hundredthsDone β i304)]) [.int (nI i304)] [0, 1, 2, 3, 4, 5, 6, 7, 8, 9, 10, 11, 12, 13] (kT_hundredthsDone l E ax bo β tr τ ac ((lpF (fL_holds_L42 β γ) (0, γ) (cnt β)).2) ah bd η σ at_ θ hv i304 (by omega) (mil_n (by omega))) caX6_hundredthsDone q2_95 rfl ⟨Nat.le_of_ble_eq_true rfl, Nat.le_of_ble_eq_true rfl⟩ ⟨Nat.zero_le _, Nat.zero_le _⟩ 0 0 rfl rfl rfl rfl (by decide) rfl rfl rfl rfl (Nat.le_of_ble_eq_true rfl) dL_holds_332 rfl ?_
                            refine g_bipush C (v := 100) dL_holds_335 (by decide) ?_
                            refine g_icmp_ne C 344 dL_holds_337 (by decide) (fun c_57 => ?_) (fun c_57 => ?_)
                            · skip
                              have hu9 := c_57
                              refine g_iconst C (v := 0) dL_holds_344 (by decide) ?_
                              refine g_aload_n C dL_holds_345 rfl 1 rfl ?_
                              refine g_iload C dL_holds_346 5 rfl ?_
                              refine g_callV C (cs1 := [wX ax (bo 0) (tr 0) (ac 0) (ah 0) (at_ 0), wB E bo β, wB E tr τ, wC E ac ((lpF (fL_holds_L42 β γ) (0, γ) (cnt β)).2), wH E ah bd η, wT E at_ θ, wB E (bd 2) (σ 2), wB E (bd 3) (σ 3), wB E (bd 4) (σ 4), wB E (bd 5) (σ 5), wB E (bd 6) (σ 6), wB E (bd 7) (σ 7), wB E (bd 8) (σ 8), wB E (bd 9) (σ 9)]) (st1 := [.int (fT_pointsLeft β i304), .int 0]) [.int (nI i304)] [0, 1, 2, 3, 4, 5, 6, 7, 8, 9, 10, 11, 12, 13] (kT_pointsLeft l E ax bo β tr τ ac ((lpF (fL_holds_L42 β γ) (0, γ) (cnt β)).2) ah bd η σ at_ θ hv i304 (by omega) (mil_n (by omega))) caX6_pointsLeft q3_18 rfl ⟨Nat.le_of_ble_eq_true rfl, Nat.le_of_ble_eq_true rfl⟩ ⟨Nat.zero_le _, Nat.zero_le _⟩ 0 0 rfl rfl rfl rfl (by decide) rfl rfl rfl rfl (Nat.le_of_ble_eq_true rfl) dL_holds_348 rfl ?_
                              refine g_if_ne C 358 dL_holds_351 (by decide) (fun c_58 => ?_) (fun c_58 => ?_)
                              · skip
                                refine g_iconst C (v := 0) dL_holds_358 (by decide) ?_
                                refine g_icmp_ne C 398 dL_holds_359 (by decide) (fun c_59 => ?_) (fun c_59 => ?_)
                                · exact absurd (by decide) c_59
                                · skip
                                  refine g_aload_n C dL_holds_362 rfl 1 rfl ?_
                                  refine g_iload C dL_holds_363 5 rfl ?_
                                  refine g_callV C (cs1 := [wX ax (bo 0) (tr 0) (ac 0) (ah 0) (at_ 0), wB E bo β, wB E tr τ, wC E ac ((lpF (fL_holds_L42 β γ) (0, γ) (cnt β)).2), wH E ah bd η, wT E at_ θ, wB E (bd 2) (σ 2), wB E (bd 3) (σ 3), wB E (bd 4) (σ 4), wB E (bd 5) (σ 5), wB E (bd 6) (σ 6), wB E (bd 7) (σ 7), wB E (bd 8) (σ 8), wB E (bd 9) (σ 9)]) (st1 := [.int (b2i (fT_isLate β i304))]) [.int (nI i304)] [0, 1, 2, 3, 4, 5, 6, 7, 8, 9, 10, 11, 12, 13] (kT_isLate l E ax bo β tr τ ac ((lpF (fL_holds_L42 β γ) (0, γ) (cnt β)).2) ah bd η σ at_ θ hv i304 (by omega) (mil_n (by omega))) caX6_isLate q3_233 rfl ⟨Nat.le_of_ble_eq_true rfl, Nat.le_of_ble_eq_true rfl⟩ ⟨Nat.zero_le _, Nat.zero_le _⟩ 0 0 rfl rfl rfl rfl (by decide) rfl rfl rfl rfl (Nat.le_of_ble_eq_true rfl) dL_holds_365 rfl ?_
                                  refine g_aload_n C dL_holds_368 rfl 1 rfl ?_
                                  refine g_callV C (cs1 := [wX ax (bo 0) (tr 0) (ac 0) (ah 0) (at_ 0), wB E bo β, wB E tr τ, wC E ac ((lpF (fL_holds_L42 β γ) (0, γ) (cnt β)).2), wH E ah bd η, wT E at_ θ, wB E (bd 2) (σ 2), wB E (bd 3) (σ 3), wB E (bd 4) (σ 4), wB E (bd 5) (σ 5), wB E (bd 6) (σ 6), wB E (bd 7) (σ 7), wB E (bd 8) (σ 8), wB E (bd 9) (σ 9)]) (st1 := [.int (fT_day β), .int (b2i (fT_isLate β i304))]) [] [0, 1, 2, 3, 4, 5, 6, 7, 8, 9, 10, 11, 12, 13] (kT_day l E ax bo β tr τ ac ((lpF (fL_holds_L42 β γ) (0, γ) (cnt β)).2) ah bd η σ at_ θ) caX6_day q2_138 rfl ⟨Nat.le_of_ble_eq_true rfl, Nat.le_of_ble_eq_true rfl⟩ ⟨Nat.zero_le _, Nat.zero_le _⟩ 0 0 rfl rfl rfl rfl (by decide) rfl rfl rfl rfl (Nat.le_of_ble_eq_true rfl) dL_holds_369 rfl ?_
                                  refine g_aload_n C dL_holds_372 rfl 1 rfl ?_
                                  refine g_iload C dL_holds_373 5 rfl ?_
                                  refine g_callV C (cs1 := [wX ax (bo 0) (tr 0) (ac 0) (ah 0) (at_ 0), wB E bo β, wB E tr τ, wC E ac ((lpF (fL_holds_L42 β γ) (0, γ) (cnt β)).2), wH E ah bd η, wT E at_ θ, wB E (bd 2) (σ 2), wB E (bd 3) (σ 3), wB E (bd 4) (σ 4), wB E (bd 5) (σ 5), wB E (bd 6) (σ 6), wB E (bd 7) (σ 7), wB E (bd 8) (σ 8), wB E (bd 9) (σ 9)]) (st1 := [.int (fT_dateOf β i304), .int (fT_day β), .int (b2i (fT_isLate β i304))]) [.int (nI i304)] [0, 1, 2, 3, 4, 5, 6, 7, 8, 9, 10, 11, 12, 13] (kT_dateOf l E ax bo β tr τ ac ((lpF (fL_holds_L42 β γ) (0, γ) (cnt β)).2) ah bd η σ at_ θ hv i304 (by omega) (mil_n (by omega))) caX6_dateOf q2_88 rfl ⟨Nat.le_of_ble_eq_true rfl, Nat.le_of_ble_eq_true rfl⟩ ⟨Nat.zero_le _, Nat.zero_le _⟩ 0 0 rfl rfl rfl rfl (by decide) rfl rfl rfl rfl (Nat.le_of_ble_eq_true rfl) dL_holds_375 rfl ?_
                                  refine g_icmp_le C 394 dL_holds_378 (by decide) (fun c_60 => ?_) (fun c_60 => ?_)
                                  · skip
                                    have hl9 := c_60
                                    refine g_iconst C (v := 0) dL_holds_394 (by decide) ?_
                                    refine g_icmp_eq C 400 dL_holds_395 (by decide) (fun c_61 => ?_) (fun c_61 => ?_)
                                    · skip
                                      refine g_iinc C (v := nI (i304 + 1)) (lv1 := [(5, .int (nI (i304 + 1))), (4, .int ((lpF (fL_holds_L304 β γ) 0 i304) + 1)), (0, .ref ax), (1, .int ((lpF (fL_holds_L9 β γ) (0, 0) 5).1)), (2, .int ((lpF (fL_holds_L9 β γ) (0, 0) 5).2)), (3, .int ((lpF (fL_holds_L42 β γ) (0, γ) (cnt β)).1))]) dL_holds_400 5 rfl (nI_1 i304) (by decide) rfl ?_
                                      refine g_goto C 304 dL_holds_403 (by decide) ?_
                                      have e_62 : (lpF (fL_holds_L304 β γ) 0 (i304 + 1)) = (lpF (fL_holds_L304 β γ) 0 i304) + 1 := by
                                        rw [lpF_1, fL_holds_L304]; rw [if_pos c_29, if_neg c_57, if_pos c_60]
                                      have h_63 := ih_19 (i304 + 1) (by omega)
                                      rw [e_62] at h_63
                                      exact g_sub [2, 3, 4, 5, 1, 0] rfl h_63
                                    · exact absurd (late_0a hI (by omega) hl9) c_61
                                  · skip
                                    have hd9 := c_60
                                    refine g_aload_n C dL_holds_381 rfl 1 rfl ?_
                                    refine g_iload C dL_holds_382 5 rfl ?_
                                    refine g_callV C (cs1 := [wX ax (bo 0) (tr 0) (ac 0) (ah 0) (at_ 0), wB E bo β, wB E tr τ, wC E ac ((lpF (fL_holds_L42 β γ) (0, γ) (cnt β)).2), wH E ah bd η, wT E at_ θ, wB E (bd 2) (σ 2), wB E (bd 3) (σ 3), wB E (bd 4) (σ 4), wB E (bd 5) (σ 5), wB E (bd 6) (σ 6), wB E (bd 7) (σ 7), wB E (bd 8) (σ 8), wB E (bd 9) (σ 9)]) (st1 := [.int (fT_pointsLeft β i304), .int (b2i (fT_isLate β i304))]) [.int (nI i304)] [0, 1, 2, 3, 4, 5, 6, 7, 8, 9, 10, 11, 12, 13] (kT_pointsLeft l E ax bo β tr τ ac ((lpF (fL_holds_L42 β γ) (0, γ) (cnt β)).2) ah bd η σ at_ θ hv i304 (by omega) (mil_n (by omega))) caX6_pointsLeft q3_18 rfl ⟨Nat.le_of_ble_eq_true rfl, Nat.le_of_ble_eq_true rfl⟩ ⟨Nat.zero_le _, Nat.zero_le _⟩ 0 0 rfl rfl rfl rfl (by decide) rfl rfl rfl rfl (Nat.le_of_ble_eq_true rfl) dL_holds_384 rfl ?_
                                    refine g_if_le C 394 dL_holds_387 (by decide) (fun c_64 => ?_) (fun c_64 => ?_)
                                    · skip
                                      have hl9 := c_64
                                      refine g_iconst C (v := 0) dL_holds_394 (by decide) ?_
                                      refine g_icmp_eq C 400 dL_holds_395 (by decide) (fun c_65 => ?_) (fun c_65 => ?_)
                                      · skip
                                        refine g_iinc C (v := nI (i304 + 1)) (lv1 := [(5, .int (nI (i304 + 1))), (4, .int ((lpF (fL_holds_L304 β γ) 0 i304) + 1)), (0, .ref ax), (1, .int ((lpF (fL_holds_L9 β γ) (0, 0) 5).1)), (2, .int ((lpF (fL_holds_L9 β γ) (0, 0) 5).2)), (3, .int ((lpF (fL_holds_L42 β γ) (0, γ) (cnt β)).1))]) dL_holds_400 5 rfl (nI_1 i304) (by decide) rfl ?_
                                        refine g_goto C 304 dL_holds_403 (by decide) ?_
                                        have e_66 : (lpF (fL_holds_L304 β γ) 0 (i304 + 1)) = (lpF (fL_holds_L304 β γ) 0 i304) + 1 := by
                                          rw [lpF_1, fL_holds_L304]; rw [if_pos c_29, if_neg c_57, if_neg c_60, if_pos c_64]
                                        have h_67 := ih_19 (i304 + 1) (by omega)
                                        rw [e_66] at h_67
                                        exact g_sub [2, 3, 4, 5, 1, 0] rfl h_67
                                      · exact absurd (late_0b hI (by omega) hl9) c_65
                                    · skip
                                      have hl9 := c_64
                                      refine g_iconst C (v := 1) dL_holds_390 (by decide) ?_
                                      refine g_goto C 395 dL_holds_391 (by decide) ?_
                                      refine g_icmp_eq C 400 dL_holds_395 (by decide) (fun c_68 => ?_) (fun c_68 => ?_)
                                      · skip
                                        refine g_iinc C (v := nI (i304 + 1)) (lv1 := [(5, .int (nI (i304 + 1))), (4, .int ((lpF (fL_holds_L304 β γ) 0 i304) + 1)), (0, .ref ax), (1, .int ((lpF (fL_holds_L9 β γ) (0, 0) 5).1)), (2, .int ((lpF (fL_holds_L9 β γ) (0, 0) 5).2)), (3, .int ((lpF (fL_holds_L42 β γ) (0, γ) (cnt β)).1))]) dL_holds_400 5 rfl (nI_1 i304) (by decide) rfl ?_
                                        refine g_goto C 304 dL_holds_403 (by decide) ?_
                                        have e_69 : (lpF (fL_holds_L304 β γ) 0 (i304 + 1)) = (lpF (fL_holds_L304 β γ) 0 i304) + 1 := by
                                          rw [lpF_1, fL_holds_L304]; rw [if_pos c_29, if_neg c_57, if_neg c_60, if_neg c_64]
                                        have h_70 := ih_19 (i304 + 1) (by omega)
                                        rw [e_69] at h_70
                                        exact g_sub [2, 3, 4, 5, 1, 0] rfl h_70
                                      · exact absurd (late_1 hI (by omega) hd9 hl9) c_68
                              · exact absurd (left_hun hI (by omega) c_58) hu9
                            · skip
                              have hu9 := c_57
                              refine g_iconst C (v := 1) dL_holds_340 (by decide) ?_
                              refine g_goto C 345 dL_holds_341 (by decide) ?_
                              refine g_aload_n C dL_holds_345 rfl 1 rfl ?_
                              refine g_iload C dL_holds_346 5 rfl ?_
                              refine g_callV C (cs1 := [wX ax (bo 0) (tr 0) (ac 0) (ah 0) (at_ 0), wB E bo β, wB E tr τ, wC E ac ((lpF (fL_holds_L42 β γ) (0, γ) (cnt β)).2), wH E ah bd η, wT E at_ θ, wB E (bd 2) (σ 2), wB E (bd 3) (σ 3), wB E (bd 4) (σ 4), wB E (bd 5) (σ 5), wB E (bd 6) (σ 6), wB E (bd 7) (σ 7), wB E (bd 8) (σ 8), wB E (bd 9) (σ 9)]) (st1 := [.int (fT_pointsLeft β i304), .int 1]) [.int (nI i304)] [0, 1, 2, 3, 4, 5, 6, 7, 8, 9, 10, 11, 12, 13] (kT_pointsLeft l E ax bo β tr τ ac ((lpF (fL_holds_L42 β γ) (0, γ) (cnt β)).2) ah bd η σ at_ θ hv i304 (by omega) (mil_n (by omega))) caX6_pointsLeft q3_18 rfl ⟨Nat.le_of_ble_eq_true rfl, Nat.le_of_ble_eq_true rfl⟩ ⟨Nat.zero_le _, Nat.zero_le _⟩ 0 0 rfl rfl rfl rfl (by decide) rfl rfl rfl rfl (Nat.le_of_ble_eq_true rfl) dL_holds_348 rfl ?_
                              refine g_if_ne C 358 dL_holds_351 (by decide) (fun c_71 => ?_) (fun c_71 => ?_)
                              · exact absurd (hun_left hI (by omega) hu9) c_71
                              · skip
                                refine g_iconst C (v := 1) dL_holds_354 (by decide) ?_
                                refine g_goto C 359 dL_holds_355 (by decide) ?_
                                refine g_icmp_ne C 398 dL_holds_359 (by decide) (fun c_72 => ?_) (fun c_72 => ?_)
                                · exact absurd (by decide) c_72
                                · skip
                                  refine g_aload_n C dL_holds_362 rfl 1 rfl ?_
                                  refine g_iload C dL_holds_363 5 rfl ?_
                                  refine g_callV C (cs1 := [wX ax (bo 0) (tr 0) (ac 0) (ah 0) (at_ 0), wB E bo β, wB E tr τ, wC E ac ((lpF (fL_holds_L42 β γ) (0, γ) (cnt β)).2), wH E ah bd η, wT E at_ θ, wB E (bd 2) (σ 2), wB E (bd 3) (σ 3), wB E (bd 4) (σ 4), wB E (bd 5) (σ 5), wB E (bd 6) (σ 6), wB E (bd 7) (σ 7), wB E (bd 8) (σ 8), wB E (bd 9) (σ 9)]) (st1 := [.int (b2i (fT_isLate β i304))]) [.int (nI i304)] [0, 1, 2, 3, 4, 5, 6, 7, 8, 9, 10, 11, 12, 13] (kT_isLate l E ax bo β tr τ ac ((lpF (fL_holds_L42 β γ) (0, γ) (cnt β)).2) ah bd η σ at_ θ hv i304 (by omega) (mil_n (by omega))) caX6_isLate q3_233 rfl ⟨Nat.le_of_ble_eq_true rfl, Nat.le_of_ble_eq_true rfl⟩ ⟨Nat.zero_le _, Nat.zero_le _⟩ 0 0 rfl rfl rfl rfl (by decide) rfl rfl rfl rfl (Nat.le_of_ble_eq_true rfl) dL_holds_365 rfl ?_
                                  refine g_aload_n C dL_holds_368 rfl 1 rfl ?_
                                  refine g_callV C (cs1 := [wX ax (bo 0) (tr 0) (ac 0) (ah 0) (at_ 0), wB E bo β, wB E tr τ, wC E ac ((lpF (fL_holds_L42 β γ) (0, γ) (cnt β)).2), wH E ah bd η, wT E at_ θ, wB E (bd 2) (σ 2), wB E (bd 3) (σ 3), wB E (bd 4) (σ 4), wB E (bd 5) (σ 5), wB E (bd 6) (σ 6), wB E (bd 7) (σ 7), wB E (bd 8) (σ 8), wB E (bd 9) (σ 9)]) (st1 := [.int (fT_day β), .int (b2i (fT_isLate β i304))]) [] [0, 1, 2, 3, 4, 5, 6, 7, 8, 9, 10, 11, 12, 13] (kT_day l E ax bo β tr τ ac ((lpF (fL_holds_L42 β γ) (0, γ) (cnt β)).2) ah bd η σ at_ θ) caX6_day q2_138 rfl ⟨Nat.le_of_ble_eq_true rfl, Nat.le_of_ble_eq_true rfl⟩ ⟨Nat.zero_le _, Nat.zero_le _⟩ 0 0 rfl rfl rfl rfl (by decide) rfl rfl rfl rfl (Nat.le_of_ble_eq_true rfl) dL_holds_369 rfl ?_
                                  refine g_aload_n C dL_holds_372 rfl 1 rfl ?_
                                  refine g_iload C dL_holds_373 5 rfl ?_
                                  refine g_callV C (cs1 := [wX ax (bo 0) (tr 0) (ac 0) (ah 0) (at_ 0), wB E bo β, wB E tr τ, wC E ac ((lpF (fL_holds_L42 β γ) (0, γ) (cnt β)).2), wH E ah bd η, wT E at_ θ, wB E (bd 2) (σ 2), wB E (bd 3) (σ 3), wB E (bd 4) (σ 4), wB E (bd 5) (σ 5), wB E (bd 6) (σ 6), wB E (bd 7) (σ 7), wB E (bd 8) (σ 8), wB E (bd 9) (σ 9)]) (st1 := [.int (fT_dateOf β i304), .int (fT_day β), .int (b2i (fT_isLate β i304))]) [.int (nI i304)] [0, 1, 2, 3, 4, 5, 6, 7, 8, 9, 10, 11, 12, 13] (kT_dateOf l E ax bo β tr τ ac ((lpF (fL_holds_L42 β γ) (0, γ) (cnt β)).2) ah bd η σ at_ θ hv i304 (by omega) (mil_n (by omega))) caX6_dateOf q2_88 rfl ⟨Nat.le_of_ble_eq_true rfl, Nat.le_of_ble_eq_true rfl⟩ ⟨Nat.zero_le _, Nat.zero_le _⟩ 0 0 rfl rfl rfl rfl (by decide) rfl rfl rfl rfl (Nat.le_of_ble_eq_true rfl) dL_holds_375 rfl ?_
                                  refine g_icmp_le C 394 dL_holds_378 (by decide) (fun c_73 => ?_) (fun c_73 => ?_)
                                  · skip
                                    have hl9 := c_73
                                    refine g_iconst C (v := 0) dL_holds_394 (by decide) ?_
                                    refine g_icmp_eq C 400 dL_holds_395 (by decide) (fun c_74 => ?_) (fun c_74 => ?_)
                                    · skip
                                      refine g_iinc C (v := nI (i304 + 1)) (lv1 := [(5, .int (nI (i304 + 1))), (4, .int ((lpF (fL_holds_L304 β γ) 0 i304) + 1)), (0, .ref ax), (1, .int ((lpF (fL_holds_L9 β γ) (0, 0) 5).1)), (2, .int ((lpF (fL_holds_L9 β γ) (0, 0) 5).2)), (3, .int ((lpF (fL_holds_L42 β γ) (0, γ) (cnt β)).1))]) dL_holds_400 5 rfl (nI_1 i304) (by decide) rfl ?_
                                      refine g_goto C 304 dL_holds_403 (by decide) ?_
                                      have e_75 : (lpF (fL_holds_L304 β γ) 0 (i304 + 1)) = (lpF (fL_holds_L304 β γ) 0 i304) + 1 := by
                                        rw [lpF_1, fL_holds_L304]; rw [if_pos c_29, if_pos c_57, if_pos c_73]
                                      have h_76 := ih_19 (i304 + 1) (by omega)
                                      rw [e_75] at h_76
                                      exact g_sub [2, 3, 4, 5, 1, 0] rfl h_76
                                    · exact absurd (late_0a hI (by omega) hl9) c_74
                                  · skip
                                    have hd9 := c_73
                                    refine g_aload_n C dL_holds_381 rfl 1 rfl ?_
                                    refine g_iload C dL_holds_382 5 rfl ?_
                                    refine g_callV C (cs1 := [wX ax (bo 0) (tr 0) (ac 0) (ah 0) (at_ 0), wB E bo β, wB E tr τ, wC E ac ((lpF (fL_holds_L42 β γ) (0, γ) (cnt β)).2), wH E ah bd η, wT E at_ θ, wB E (bd 2) (σ 2), wB E (bd 3) (σ 3), wB E (bd 4) (σ 4), wB E (bd 5) (σ 5), wB E (bd 6) (σ 6), wB E (bd 7) (σ 7), wB E (bd 8) (σ 8), wB E (bd 9) (σ 9)]) (st1 := [.int (fT_pointsLeft β i304), .int (b2i (fT_isLate β i304))]) [.int (nI i304)] [0, 1, 2, 3, 4, 5, 6, 7, 8, 9, 10, 11, 12, 13] (kT_pointsLeft l E ax bo β tr τ ac ((lpF (fL_holds_L42 β γ) (0, γ) (cnt β)).2) ah bd η σ at_ θ hv i304 (by omega) (mil_n (by omega))) caX6_pointsLeft q3_18 rfl ⟨Nat.le_of_ble_eq_true rfl, Nat.le_of_ble_eq_true rfl⟩ ⟨Nat.zero_le _, Nat.zero_le _⟩ 0 0 rfl rfl rfl rfl (by decide) rfl rfl rfl rfl (Nat.le_of_ble_eq_true rfl) dL_holds_384 rfl ?_
                                    refine g_if_le C 394 dL_holds_387 (by decide) (fun c_77 => ?_) (fun c_77 => ?_)
                                    · skip
                                      have hl9 := c_77
                                      refine g_iconst C (v := 0) dL_holds_394 (by decide) ?_
                                      refine g_icmp_eq C 400 dL_holds_395 (by decide) (fun c_78 => ?_) (fun c_78 => ?_)
                                      · skip
                                        refine g_iinc C (v := nI (i304 + 1)) (lv1 := [(5, .int (nI (i304 + 1))), (4, .int ((lpF (fL_holds_L304 β γ) 0 i304) + 1)), (0, .ref ax), (1, .int ((lpF (fL_holds_L9 β γ) (0, 0) 5).1)), (2, .int ((lpF (fL_holds_L9 β γ) (0, 0) 5).2)), (3, .int ((lpF (fL_holds_L42 β γ) (0, γ) (cnt β)).1))]) dL_holds_400 5 rfl (nI_1 i304) (by decide) rfl ?_
                                        refine g_goto C 304 dL_holds_403 (by decide) ?_
                                        have e_79 : (lpF (fL_holds_L304 β γ) 0 (i304 + 1)) = (lpF (fL_holds_L304 β γ) 0 i304) + 1 := by
                                          rw [lpF_1, fL_holds_L304]; rw [if_pos c_29, if_pos c_57, if_neg c_73, if_pos c_77]
                                        have h_80 := ih_19 (i304 + 1) (by omega)
                                        rw [e_79] at h_80
                                        exact g_sub [2, 3, 4, 5, 1, 0] rfl h_80
                                      · exact absurd (late_0b hI (by omega) hl9) c_78
                                    · skip
                                      have hl9 := c_77
                                      refine g_iconst C (v := 1) dL_holds_390 (by decide) ?_
                                      refine g_goto C 395 dL_holds_391 (by decide) ?_
                                      refine g_icmp_eq C 400 dL_holds_395 (by decide) (fun c_81 => ?_) (fun c_81 => ?_)
                                      · skip
                                        refine g_iinc C (v := nI (i304 + 1)) (lv1 := [(5, .int (nI (i304 + 1))), (4, .int ((lpF (fL_holds_L304 β γ) 0 i304) + 1)), (0, .ref ax), (1, .int ((lpF (fL_holds_L9 β γ) (0, 0) 5).1)), (2, .int ((lpF (fL_holds_L9 β γ) (0, 0) 5).2)), (3, .int ((lpF (fL_holds_L42 β γ) (0, γ) (cnt β)).1))]) dL_holds_400 5 rfl (nI_1 i304) (by decide) rfl ?_
                                        refine g_goto C 304 dL_holds_403 (by decide) ?_
                                        have e_82 : (lpF (fL_holds_L304 β γ) 0 (i304 + 1)) = (lpF (fL_holds_L304 β γ) 0 i304) + 1 := by
                                          rw [lpF_1, fL_holds_L304]; rw [if_pos c_29, if_pos c_57, if_neg c_73, if_neg c_77]
                                        have h_83 := ih_19 (i304 + 1) (by omega)
                                        rw [e_82] at h_83
                                        exact g_sub [2, 3, 4, 5, 1, 0] rfl h_83
                                      · exact absurd (late_1 hI (by omega) hd9 hl9) c_81
                    refine g_sub [2, 3, 4, 5, 1, 0] (lv1 := [(0, .ref ax), (1, .int ((lpF (fL_holds_L9 β γ) (0, 0) 5).1)), (2, .int ((lpF (fL_holds_L9 β γ) (0, 0) 5).2)), (3, .int ((lpF (fL_holds_L42 β γ) (0, γ) (cnt β)).1)), (4, .int 0), (5, .int 0)]) rfl ?_
                    exact hL_18 4 0 (by omega)
                  · exact absurd (lc_le rfl nI_l5 (by omega) (by omega)) c_15
                | succ d_11 ih_14 =>
                  intro i254 hi_12
                  refine g_iload C dL_holds_254 4 rfl ?_
                  refine g_iconst C (v := 5) dL_holds_256 (by decide) ?_
                  refine g_icmp_ge C 298 dL_holds_257 (by decide) (fun c_84 => ?_) (fun c_84 => ?_)
                  · exact absurd c_84 (lc_nle rfl nI_l5 (by omega) (by omega))
                  · skip
                    refine g_aload_n C dL_holds_260 rfl 0 rfl ?_
                    refine g_iload C dL_holds_261 4 rfl ?_
                    refine g_callV C (cs1 := [wX ax (bo 0) (tr 0) (ac 0) (ah 0) (at_ 0), wB E bo β, wB E tr τ, wC E ac ((lpF (fL_holds_L42 β γ) (0, γ) (cnt β)).2), wH E ah bd η, wT E at_ θ, wB E (bd 2) (σ 2), wB E (bd 3) (σ 3), wB E (bd 4) (σ 4), wB E (bd 5) (σ 5), wB E (bd 6) (σ 6), wB E (bd 7) (σ 7), wB E (bd 8) (σ 8), wB E (bd 9) (σ 9)]) (st1 := [.int (fT_loadByTickets β i254)]) [.int (nI i254)] [0, 1, 2, 3, 4, 5, 6, 7, 8, 9, 10, 11, 12, 13] (kT_loadByTickets l E ax bo β tr τ ac ((lpF (fL_holds_L42 β γ) (0, γ) (cnt β)).2) ah bd η σ at_ θ hv i254 (by omega) (own_n (by omega))) caX6_loadByTickets q3_92 rfl ⟨Nat.le_of_ble_eq_true rfl, Nat.le_of_ble_eq_true rfl⟩ ⟨Nat.zero_le _, Nat.zero_le _⟩ 0 0 rfl rfl rfl rfl (by decide) rfl rfl rfl rfl (Nat.le_of_ble_eq_true rfl) dL_holds_263 rfl ?_
                    refine g_aload_n C dL_holds_266 rfl 0 rfl ?_
                    refine g_iload C dL_holds_267 4 rfl ?_
                    refine g_callV C (cs1 := [wX ax (bo 0) (tr 0) (ac 0) (ah 0) (at_ 0), wB E bo β, wB E tr τ, wC E ac ((lpF (fL_holds_L42 β γ) (0, γ) (cnt β)).2), wH E ah bd η, wT E at_ θ, wB E (bd 2) (σ 2), wB E (bd 3) (σ 3), wB E (bd 4) (σ 4), wB E (bd 5) (σ 5), wB E (bd 6) (σ 6), wB E (bd 7) (σ 7), wB E (bd 8) (σ 8), wB E (bd 9) (σ 9)]) (st1 := [.int (fT_loadByAccount β i254), .int (fT_loadByTickets β i254)]) [.int (nI i254)] [0, 1, 2, 3, 4, 5, 6, 7, 8, 9, 10, 11, 12, 13] (kT_loadByAccount l E ax bo β tr τ ac ((lpF (fL_holds_L42 β γ) (0, γ) (cnt β)).2) ah bd η σ at_ θ hv i254 (by omega) (own_n (by omega))) caX6_loadByAccount q3_14 rfl ⟨Nat.le_of_ble_eq_true rfl, Nat.le_of_ble_eq_true rfl⟩ ⟨Nat.zero_le _, Nat.zero_le _⟩ 0 0 rfl rfl rfl rfl (by decide) rfl rfl rfl rfl (Nat.le_of_ble_eq_true rfl) dL_holds_269 rfl ?_
                    refine g_icmp_ne C 290 dL_holds_272 (by decide) (fun c_85 => ?_) (fun c_85 => ?_)
                    · exact absurd (load_two hI (by omega)) c_85
                    · skip
                      refine g_aload_n C dL_holds_275 rfl 0 rfl ?_
                      refine g_iload C dL_holds_276 4 rfl ?_
                      refine g_callV C (cs1 := [wX ax (bo 0) (tr 0) (ac 0) (ah 0) (at_ 0), wB E bo β, wB E tr τ, wC E ac ((lpF (fL_holds_L42 β γ) (0, γ) (cnt β)).2), wH E ah bd η, wT E at_ θ, wB E (bd 2) (σ 2), wB E (bd 3) (σ 3), wB E (bd 4) (σ 4), wB E (bd 5) (σ 5), wB E (bd 6) (σ 6), wB E (bd 7) (σ 7), wB E (bd 8) (σ 8), wB E (bd 9) (σ 9)]) (st1 := [.int (fT_loadByAccount β i254)]) [.int (nI i254)] [0, 1, 2, 3, 4, 5, 6, 7, 8, 9, 10, 11, 12, 13] (kT_loadByAccount l E ax bo β tr τ ac ((lpF (fL_holds_L42 β γ) (0, γ) (cnt β)).2) ah bd η σ at_ θ hv i254 (by omega) (own_n (by omega))) caX6_loadByAccount q3_14 rfl ⟨Nat.le_of_ble_eq_true rfl, Nat.le_of_ble_eq_true rfl⟩ ⟨Nat.zero_le _, Nat.zero_le _⟩ 0 0 rfl rfl rfl rfl (by decide) rfl rfl rfl rfl (Nat.le_of_ble_eq_true rfl) dL_holds_278 rfl ?_
                      refine g_aload_n C dL_holds_281 rfl 0 rfl ?_
                      refine g_iload C dL_holds_282 4 rfl ?_
                      refine g_callV C (cs1 := [wX ax (bo 0) (tr 0) (ac 0) (ah 0) (at_ 0), wB E bo β, wB E tr τ, wC E ac ((lpF (fL_holds_L42 β γ) (0, γ) (cnt β)).2), wH E ah bd η, wT E at_ θ, wB E (bd 2) (σ 2), wB E (bd 3) (σ 3), wB E (bd 4) (σ 4), wB E (bd 5) (σ 5), wB E (bd 6) (σ 6), wB E (bd 7) (σ 7), wB E (bd 8) (σ 8), wB E (bd 9) (σ 9)]) (st1 := [.int (fT_capacityOf β i254), .int (fT_loadByAccount β i254)]) [.int (nI i254)] [0, 1, 2, 3, 4, 5, 6, 7, 8, 9, 10, 11, 12, 13] (kT_capacityOf l E ax bo β tr τ ac ((lpF (fL_holds_L42 β γ) (0, γ) (cnt β)).2) ah bd η σ at_ θ hv i254 (by omega) (own_n (by omega))) caX6_capacityOf q2_59 rfl ⟨Nat.le_of_ble_eq_true rfl, Nat.le_of_ble_eq_true rfl⟩ ⟨Nat.zero_le _, Nat.zero_le _⟩ 0 0 rfl rfl rfl rfl (by decide) rfl rfl rfl rfl (Nat.le_of_ble_eq_true rfl) dL_holds_284 rfl ?_
                      refine g_icmp_le C 292 dL_holds_287 (by decide) (fun c_86 => ?_) (fun c_86 => ?_)
                      · skip
                        refine g_iinc C (v := nI (i254 + 1)) (lv1 := [(4, .int (nI (i254 + 1))), (0, .ref ax), (1, .int ((lpF (fL_holds_L9 β γ) (0, 0) 5).1)), (2, .int ((lpF (fL_holds_L9 β γ) (0, 0) 5).2)), (3, .int ((lpF (fL_holds_L42 β γ) (0, γ) (cnt β)).1))]) dL_holds_292 4 rfl (nI_1 i254) (by decide) rfl ?_
                        refine g_goto C 254 dL_holds_295 (by decide) ?_
                        have h_88 := ih_14 (i254 + 1) (by omega)
                        exact g_sub [1, 2, 3, 4, 0] rfl h_88
                      · exact absurd (load_cap hI (by omega)) c_86
              refine g_sub [1, 2, 3, 4, 0] (lv1 := [(0, .ref ax), (1, .int ((lpF (fL_holds_L9 β γ) (0, 0) 5).1)), (2, .int ((lpF (fL_holds_L9 β γ) (0, 0) 5).2)), (3, .int ((lpF (fL_holds_L42 β γ) (0, γ) (cnt β)).1)), (4, .int 0)]) rfl ?_
              exact hL_13 5 0 (by omega)
            · exact absurd (lc_le rfl hv.2.1 (by omega) (by omega)) c_10
          | succ d_6 ih_9 =>
            intro i42 hi_7
            refine g_iload C dL_holds_42 4 rfl ?_
            refine g_aload_n C dL_holds_44 rfl 0 rfl ?_
            refine g_callV C (cs1 := [wX ax (bo 0) (tr 0) (ac 0) (ah 0) (at_ 0), wB E bo β, wB E tr τ, wC E ac ((lpF (fL_holds_L42 β γ) (0, γ) i42).2), wH E ah bd η, wT E at_ θ, wB E (bd 2) (σ 2), wB E (bd 3) (σ 3), wB E (bd 4) (σ 4), wB E (bd 5) (σ 5), wB E (bd 6) (σ 6), wB E (bd 7) (σ 7), wB E (bd 8) (σ 8), wB E (bd 9) (σ 9)]) (st1 := [.int (fT_tickets β), .int (nI i42)]) [] [0, 1, 2, 3, 4, 5, 6, 7, 8, 9, 10, 11, 12, 13] (kT_tickets l E ax bo β tr τ ac ((lpF (fL_holds_L42 β γ) (0, γ) i42).2) ah bd η σ at_ θ) caX6_tickets q2_55 rfl ⟨Nat.le_of_ble_eq_true rfl, Nat.le_of_ble_eq_true rfl⟩ ⟨Nat.zero_le _, Nat.zero_le _⟩ 0 0 rfl rfl rfl rfl (by decide) rfl rfl rfl rfl (Nat.le_of_ble_eq_true rfl) dL_holds_45 rfl ?_
            refine g_icmp_ge C 251 dL_holds_48 (by decide) (fun c_89 => ?_) (fun c_89 => ?_)
            · exact absurd c_89 (lc_nle rfl hv.2.1 (by omega) (by omega))
            · skip
              refine g_iconst C (v := 0) dL_holds_51 (by decide) ?_
              refine g_istore C (lv1 := [(5, .int 0), (0, .ref ax), (1, .int ((lpF (fL_holds_L9 β γ) (0, 0) 5).1)), (2, .int ((lpF (fL_holds_L9 β γ) (0, 0) 5).2)), (3, .int ((lpF (fL_holds_L42 β γ) (0, γ) i42).1)), (4, .int (nI i42))]) dL_holds_52 (by decide) rfl ?_
              refine g_iconst C (v := 0) dL_holds_54 (by decide) ?_
              refine g_istore C (lv1 := [(6, .int 0), (5, .int 0), (0, .ref ax), (1, .int ((lpF (fL_holds_L9 β γ) (0, 0) 5).1)), (2, .int ((lpF (fL_holds_L9 β γ) (0, 0) 5).2)), (3, .int ((lpF (fL_holds_L42 β γ) (0, γ) i42).1)), (4, .int (nI i42))]) dL_holds_55 (by decide) rfl ?_
              have hL_92 : ∀ d_90 i57 : Nat, i57 + d_90 = (cnt β) → G X 0 0 [wX ax (bo 0) (tr 0) (ac 0) (ah 0) (at_ 0), wB E bo β, wB E tr τ, wC E ac ((lpF (fL_holds_L42 β γ) (0, γ) i42).2), wH E ah bd η, wT E at_ θ, wB E (bd 2) (σ 2), wB E (bd 3) (σ 3), wB E (bd 4) (σ 4), wB E (bd 5) (σ 5), wB E (bd 6) (σ 6), wB E (bd 7) (σ 7), wB E (bd 8) (σ 8), wB E (bd 9) (σ 9)] [(0, .ref ax), (1, .int ((lpF (fL_holds_L9 β γ) (0, 0) 5).1)), (2, .int ((lpF (fL_holds_L9 β γ) (0, 0) 5).2)), (3, .int ((lpF (fL_holds_L42 β γ) (0, γ) i42).1)), (4, .int (nI i42)), (5, .int (lpF (fL_holds_L57 β γ i42 (lpF (fL_holds_L42 β γ) (0, γ) i42)) 0 i57)), (6, .int (nI i57))] 57 [] := by
                intro d_90
                induction d_90 with
                | zero =>
                  intro i57 hi_91
                  obtain rfl : i57 = (cnt β) := by omega
                  refine g_iload C dL_holds_57 6 rfl ?_
                  refine g_aload_n C dL_holds_59 rfl 0 rfl ?_
                  refine g_callV C (cs1 := [wX ax (bo 0) (tr 0) (ac 0) (ah 0) (at_ 0), wB E bo β, wB E tr τ, wC E ac ((lpF (fL_holds_L42 β γ) (0, γ) i42).2), wH E ah bd η, wT E at_ θ, wB E (bd 2) (σ 2), wB E (bd 3) (σ 3), wB E (bd 4) (σ 4), wB E (bd 5) (σ 5), wB E (bd 6) (σ 6), wB E (bd 7) (σ 7), wB E (bd 8) (σ 8), wB E (bd 9) (σ 9)]) (st1 := [.int (fT_tickets β), .int (nI (cnt β))]) [] [0, 1, 2, 3, 4, 5, 6, 7, 8, 9, 10, 11, 12, 13] (kT_tickets l E ax bo β tr τ ac ((lpF (fL_holds_L42 β γ) (0, γ) i42).2) ah bd η σ at_ θ) caX6_tickets q2_55 rfl ⟨Nat.le_of_ble_eq_true rfl, Nat.le_of_ble_eq_true rfl⟩ ⟨Nat.zero_le _, Nat.zero_le _⟩ 0 0 rfl rfl rfl rfl (by decide) rfl rfl rfl rfl (Nat.le_of_ble_eq_true rfl) dL_holds_60 rfl ?_
                  refine g_icmp_ge C 131 dL_holds_63 (by decide) (fun c_94 => ?_) (fun c_94 => ?_)
                  · skip
                    refine g_iload_n C dL_holds_131 rfl 3 rfl ?_
                    refine g_aload_n C dL_holds_132 rfl 0 rfl ?_
                    refine g_iload C dL_holds_133 4 rfl ?_
                    refine g_callV C (cs1 := [wX ax (bo 0) (tr 0) (ac 0) (ah 0) (at_ 0), wB E bo β, wB E tr τ, wC E ac ((lpF (fL_holds_L42 β γ) (0, γ) i42).2), wH E ah bd η, wT E at_ θ, wB E (bd 2) (σ 2), wB E (bd 3) (σ 3), wB E (bd 4) (σ 4), wB E (bd 5) (σ 5), wB E (bd 6) (σ 6), wB E (bd 7) (σ 7), wB E (bd 8) (σ 8), wB E (bd 9) (σ 9)]) (st1 := [.int (fT_stateOf β i42), .int ((lpF (fL_holds_L42 β γ) (0, γ) i42).1)]) [.int (nI i42)] [0, 1, 2, 3, 4, 5, 6, 7, 8, 9, 10, 11, 12, 13] (kT_stateOf l E ax bo β tr τ ac ((lpF (fL_holds_L42 β γ) (0, γ) i42).2) ah bd η σ at_ θ hv i42 (by omega) (hasT_n hv (by omega))) caX6_stateOf q2_193 rfl ⟨Nat.le_of_ble_eq_true rfl, Nat.le_of_ble_eq_true rfl⟩ ⟨Nat.zero_le _, Nat.zero_le _⟩ 0 0 rfl rfl rfl rfl (by decide) rfl rfl rfl rfl (Nat.le_of_ble_eq_true rfl) dL_holds_135 rfl ?_
                    refine g_iconst C (v := 3) dL_holds_138 (by decide) ?_
                    refine g_icmp_ge C 155 dL_holds_139 (by decide) (fun c_95 => ?_) (fun c_95 => ?_)
                    · skip
                      refine g_iconst C (v := 0) dL_holds_155 (by decide) ?_
                      refine g_iadd C dL_holds_156 ?_
                      refine g_istore_n C (lv1 := [(3, .int (((lpF (fL_holds_L42 β γ) (0, γ) i42).1) + 0)), (0, .ref ax), (1, .int ((lpF (fL_holds_L9 β γ) (0, 0) 5).1)), (2, .int ((lpF (fL_holds_L9 β γ) (0, 0) 5).2)), (4, .int (nI i42)), (5, .int (lpF (fL_holds_L57 β γ i42 (lpF (fL_holds_L42 β γ) (0, γ) i42)) 0 (cnt β))), (6, .int (nI (cnt β)))]) dL_holds_157 rfl (by decide) rfl ?_
                      refine g_aload_n C dL_holds_158 rfl 1 rfl ?_
                      refine g_iload C dL_holds_159 4 rfl ?_
                      refine g_callV C (cs1 := [wX ax (bo 0) (tr 0) (ac 0) (ah 0) (at_ 0), wB E bo β, wB E tr τ, wC E ac ((lpF (fL_holds_L42 β γ) (0, γ) i42).2), wH E ah bd η, wT E at_ θ, wB E (bd 2) (σ 2), wB E (bd 3) (σ 3), wB E (bd 4) (σ 4), wB E (bd 5) (σ 5), wB E (bd 6) (σ 6), wB E (bd 7) (σ 7), wB E (bd 8) (σ 8), wB E (bd 9) (σ 9)]) (st1 := [.int (fT_stateOf β i42)]) [.int (nI i42)] [0, 1, 2, 3, 4, 5, 6, 7, 8, 9, 10, 11, 12, 13] (kT_stateOf l E ax bo β tr τ ac ((lpF (fL_holds_L42 β γ) (0, γ) i42).2) ah bd η σ at_ θ hv i42 (by omega) (hasT_n hv (by omega))) caX6_stateOf q2_193 rfl ⟨Nat.le_of_ble_eq_true rfl, Nat.le_of_ble_eq_true rfl⟩ ⟨Nat.zero_le _, Nat.zero_le _⟩ 0 0 rfl rfl rfl rfl (by decide) rfl rfl rfl rfl (Nat.le_of_ble_eq_true rfl) dL_holds_161 rfl ?_
                      refine g_iconst C (v := 3) dL_holds_164 (by decide) ?_
                      refine g_icmp_ne C 177 dL_holds_165 (by decide) (fun c_96 => ?_) (fun c_96 => ?_)
                      · skip
                        refine g_aload_n C dL_holds_177 rfl 1 rfl ?_
                        refine g_iload C dL_holds_178 4 rfl ?_
                        refine g_callV C (cs1 := [wX ax (bo 0) (tr 0) (ac 0) (ah 0) (at_ 0), wB E bo β, wB E tr τ, wC E ac ((lpF (fL_holds_L42 β γ) (0, γ) i42).2), wH E ah bd η, wT E at_ θ, wB E (bd 2) (σ 2), wB E (bd 3) (σ 3), wB E (bd 4) (σ 4), wB E (bd 5) (σ 5), wB E (bd 6) (σ 6), wB E (bd 7) (σ 7), wB E (bd 8) (σ 8), wB E (bd 9) (σ 9)]) (st1 := [.int (b2i (fT_isBlocked β i42))]) [.int (nI i42)] [0, 1, 2, 3, 4, 5, 6, 7, 8, 9, 10, 11, 12, 13] (kT_isBlocked l E ax bo β tr τ ac ((lpF (fL_holds_L42 β γ) (0, γ) i42).2) ah bd η σ at_ θ hv i42 (by omega) (hasT_n hv (by omega))) caX6_isBlocked q3_180 rfl ⟨Nat.le_of_ble_eq_true rfl, Nat.le_of_ble_eq_true rfl⟩ ⟨Nat.zero_le _, Nat.zero_le _⟩ 0 0 rfl rfl rfl rfl (by decide) rfl rfl rfl rfl (Nat.le_of_ble_eq_true rfl) dL_holds_180 rfl ?_
                        refine g_aload_n C dL_holds_183 rfl 1 rfl ?_
                        refine g_iload C dL_holds_184 4 rfl ?_
                        refine g_callV C (cs1 := [wX ax (bo 0) (tr 0) (ac 0) (ah 0) (at_ 0), wB E bo β, wB E tr τ, wC E ac ((lpF (fL_holds_L42 β γ) (0, γ) i42).2), wH E ah bd η, wT E at_ θ, wB E (bd 2) (σ 2), wB E (bd 3) (σ 3), wB E (bd 4) (σ 4), wB E (bd 5) (σ 5), wB E (bd 6) (σ 6), wB E (bd 7) (σ 7), wB E (bd 8) (σ 8), wB E (bd 9) (σ 9)]) (st1 := [.int (fT_blockersOf β i42), .int (b2i (fT_isBlocked β i42))]) [.int (nI i42)] [0, 1, 2, 3, 4, 5, 6, 7, 8, 9, 10, 11, 12, 13] (kT_blockersOf l E ax bo β tr τ ac ((lpF (fL_holds_L42 β γ) (0, γ) i42).2) ah bd η σ at_ θ hv i42 (by omega) (hasT_n hv (by omega))) caX6_blockersOf q3_215 rfl ⟨Nat.le_of_ble_eq_true rfl, Nat.le_of_ble_eq_true rfl⟩ ⟨Nat.zero_le _, Nat.zero_le _⟩ 0 0 rfl rfl rfl rfl (by decide) rfl rfl rfl rfl (Nat.le_of_ble_eq_true rfl) dL_holds_186 rfl ?_
                        refine g_if_le C 196 dL_holds_189 (by decide) (fun c_97 => ?_) (fun c_97 => ?_)
                        · skip
                          have hb9 := c_97
                          refine g_iconst C (v := 0) dL_holds_196 (by decide) ?_
                          refine g_icmp_ne C 243 dL_holds_197 (by decide) (fun c_98 => ?_) (fun c_98 => ?_)
                          · exact absurd (blk_0 hI (by omega) hb9) c_98
                          · skip
                            refine g_aload_n C dL_holds_200 rfl 1 rfl ?_
                            refine g_iload C dL_holds_201 4 rfl ?_
                            refine g_callV C (cs1 := [wX ax (bo 0) (tr 0) (ac 0) (ah 0) (at_ 0), wB E bo β, wB E tr τ, wC E ac ((lpF (fL_holds_L42 β γ) (0, γ) i42).2), wH E ah bd η, wT E at_ θ, wB E (bd 2) (σ 2), wB E (bd 3) (σ 3), wB E (bd 4) (σ 4), wB E (bd 5) (σ 5), wB E (bd 6) (σ 6), wB E (bd 7) (σ 7), wB E (bd 8) (σ 8), wB E (bd 9) (σ 9)]) (st1 := [.int (fT_allNeedsByGoing β i42)]) [.int (nI i42)] [0, 1, 2, 3, 4, 5, 6, 7, 8, 9, 10, 11, 12, 13] (kT_allNeedsByGoing l E ax bo β tr τ ac ((lpF (fL_holds_L42 β γ) (0, γ) i42).2) ah bd η σ at_ θ hv i42 (by omega) (hasT_n hv (by omega))) caX6_allNeedsByGoing q3_219 rfl ⟨Nat.le_of_ble_eq_true rfl, Nat.le_of_ble_eq_true rfl⟩ ⟨Nat.zero_le _, Nat.zero_le _⟩ 0 0 rfl rfl rfl rfl (by decide) rfl rfl rfl rfl (Nat.le_of_ble_eq_true rfl) dL_holds_203 rfl ?_
                            refine g_aload_n C dL_holds_206 rfl 1 rfl ?_
                            refine g_iload C dL_holds_207 4 rfl ?_
                            refine g_callV C (cs1 := [wX ax (bo 0) (tr 0) (ac 0) (ah 0) (at_ 0), wB E bo β, wB E tr τ, wC E ac ((fT_allNeedsByTable β ((lpF (fL_holds_L42 β γ) (0, γ) i42).2) i42).2), wH E ah bd η, wT E at_ θ, wB E (bd 2) (σ 2), wB E (bd 3) (σ 3), wB E (bd 4) (σ 4), wB E (bd 5) (σ 5), wB E (bd 6) (σ 6), wB E (bd 7) (σ 7), wB E (bd 8) (σ 8), wB E (bd 9) (σ 9)]) (st1 := [.int ((fT_allNeedsByTable β ((lpF (fL_holds_L42 β γ) (0, γ) i42).2) i42).1), .int (fT_allNeedsByGoing β i42)]) [.int (nI i42)] [0, 1, 2, 3, 4, 5, 6, 7, 8, 9, 10, 11, 12, 13] (kT_allNeedsByTable l E ax bo β tr τ ac ((lpF (fL_holds_L42 β γ) (0, γ) i42).2) ah bd η σ at_ θ hv i42 (by omega) (hasT_n hv (by omega))) caX6_allNeedsByTable q3_224 rfl ⟨Nat.le_of_ble_eq_true rfl, Nat.le_of_ble_eq_true rfl⟩ ⟨Nat.zero_le _, Nat.zero_le _⟩ 0 0 rfl rfl rfl rfl (by decide) rfl rfl rfl rfl (Nat.le_of_ble_eq_true rfl) dL_holds_209 rfl ?_
                            refine g_icmp_ne C 243 dL_holds_212 (by decide) (fun c_99 => ?_) (fun c_99 => ?_)
                            · exact absurd (going_table hI (by omega)) c_99
                            · skip
                              refine g_aload_n C dL_holds_215 rfl 1 rfl ?_
                              refine g_iload C dL_holds_216 4 rfl ?_
                              refine g_callV C (cs1 := [wX ax (bo 0) (tr 0) (ac 0) (ah 0) (at_ 0), wB E bo β, wB E tr τ, wC E ac ((fT_allNeedsByTable β ((lpF (fL_holds_L42 β γ) (0, γ) i42).2) i42).2), wH E ah bd η, wT E at_ θ, wB E (bd 2) (σ 2), wB E (bd 3) (σ 3), wB E (bd 4) (σ 4), wB E (bd 5) (σ 5), wB E (bd 6) (σ 6), wB E (bd 7) (σ 7), wB E (bd 8) (σ 8), wB E (bd 9) (σ 9)]) (st1 := [.int (fT_allNeedsByGoing β i42)]) [.int (nI i42)] [0, 1, 2, 3, 4, 5, 6, 7, 8, 9, 10, 11, 12, 13] (kT_allNeedsByGoing l E ax bo β tr τ ac ((fT_allNeedsByTable β ((lpF (fL_holds_L42 β γ) (0, γ) i42).2) i42).2) ah bd η σ at_ θ hv i42 (by omega) (hasT_n hv (by omega))) caX6_allNeedsByGoing q3_219 rfl ⟨Nat.le_of_ble_eq_true rfl, Nat.le_of_ble_eq_true rfl⟩ ⟨Nat.zero_le _, Nat.zero_le _⟩ 0 0 rfl rfl rfl rfl (by decide) rfl rfl rfl rfl (Nat.le_of_ble_eq_true rfl) dL_holds_218 rfl ?_
                              refine g_aload_n C dL_holds_221 rfl 1 rfl ?_
                              refine g_iload C dL_holds_222 4 rfl ?_
                              refine g_callV C (cs1 := [wX ax (bo 0) (tr 0) (ac 0) (ah 0) (at_ 0), wB E bo β, wB E tr τ, wC E ac ((fT_allNeedsByTable β ((lpF (fL_holds_L42 β γ) (0, γ) i42).2) i42).2), wH E ah bd η, wT E at_ θ, wB E (bd 2) (σ 2), wB E (bd 3) (σ 3), wB E (bd 4) (σ 4), wB E (bd 5) (σ 5), wB E (bd 6) (σ 6), wB E (bd 7) (σ 7), wB E (bd 8) (σ 8), wB E (bd 9) (σ 9)]) (st1 := [.int (fT_needsOf β i42), .int (fT_allNeedsByGoing β i42)]) [.int (nI i42)] [0, 1, 2, 3, 4, 5, 6, 7, 8, 9, 10, 11, 12, 13] (kT_needsOf l E ax bo β tr τ ac ((fT_allNeedsByTable β ((lpF (fL_holds_L42 β γ) (0, γ) i42).2) i42).2) ah bd η σ at_ θ hv i42 (by omega) (hasT_n hv (by omega))) caX6_needsOf q2_233 rfl ⟨Nat.le_of_ble_eq_true rfl, Nat.le_of_ble_eq_true rfl⟩ ⟨Nat.zero_le _, Nat.zero_le _⟩ 0 0 rfl rfl rfl rfl (by decide) rfl rfl rfl rfl (Nat.le_of_ble_eq_true rfl) dL_holds_224 rfl ?_
                              refine g_icmp_lt C 243 dL_holds_227 (by decide) (fun c_100 => ?_) (fun c_100 => ?_)
                              · exact absurd c_100 (needs_going hI (by omega))
                              · skip
                                refine g_aload_n C dL_holds_230 rfl 1 rfl ?_
                                refine g_iload C dL_holds_231 4 rfl ?_
                                refine g_callV C (cs1 := [wX ax (bo 0) (tr 0) (ac 0) (ah 0) (at_ 0), wB E bo β, wB E tr τ, wC E ac ((fT_allNeedsByTable β ((lpF (fL_holds_L42 β γ) (0, γ) i42).2) i42).2), wH E ah bd η, wT E at_ θ, wB E (bd 2) (σ 2), wB E (bd 3) (σ 3), wB E (bd 4) (σ 4), wB E (bd 5) (σ 5), wB E (bd 6) (σ 6), wB E (bd 7) (σ 7), wB E (bd 8) (σ 8), wB E (bd 9) (σ 9)]) (st1 := [.int (fT_chainOf β i42)]) [.int (nI i42)] [0, 1, 2, 3, 4, 5, 6, 7, 8, 9, 10, 11, 12, 13] (kT_chainOf l E ax bo β tr τ ac ((fT_allNeedsByTable β ((lpF (fL_holds_L42 β γ) (0, γ) i42).2) i42).2) ah bd η σ at_ θ hv i42 (by omega) (hasT_n hv (by omega))) caX6_chainOf q3_3 rfl ⟨Nat.le_of_ble_eq_true rfl, Nat.le_of_ble_eq_true rfl⟩ ⟨Nat.zero_le _, Nat.zero_le _⟩ 0 0 rfl rfl rfl rfl (by decide) rfl rfl rfl rfl (Nat.le_of_ble_eq_true rfl) dL_holds_233 rfl ?_
                                refine g_iload C dL_holds_236 5 rfl ?_
                                refine g_iconst C (v := 1) dL_holds_238 (by decide) ?_
                                refine g_iadd C dL_holds_239 ?_
                                refine g_icmp_eq C 245 dL_holds_240 (by decide) (fun c_101 => ?_) (fun c_101 => ?_)
                                · skip
                                  refine g_iinc C (v := nI (i42 + 1)) (lv1 := [(4, .int (nI (i42 + 1))), (3, .int (((lpF (fL_holds_L42 β γ) (0, γ) i42).1) + 0)), (0, .ref ax), (1, .int ((lpF (fL_holds_L9 β γ) (0, 0) 5).1)), (2, .int ((lpF (fL_holds_L9 β γ) (0, 0) 5).2)), (5, .int (lpF (fL_holds_L57 β γ i42 (lpF (fL_holds_L42 β γ) (0, γ) i42)) 0 (cnt β))), (6, .int (nI (cnt β)))]) dL_holds_245 4 rfl (nI_1 i42) (by decide) rfl ?_
                                  refine g_goto C 42 dL_holds_248 (by decide) ?_
                                  have e_102 : (lpF (fL_holds_L42 β γ) (0, γ) (i42 + 1)) = (((lpF (fL_holds_L42 β γ) (0, γ) i42).1) + 0, (fT_allNeedsByTable β ((lpF (fL_holds_L42 β γ) (0, γ) i42).2) i42).2) := by
                                    rw [lpF_1, fL_holds_L42]; rw [if_pos c_95, if_neg c_96, if_pos c_97]
                                  have h_103 := ih_9 (i42 + 1) (by omega)
                                  rw [e_102] at h_103
                                  exact g_sub [2, 3, 4, 1, 0] rfl h_103
                                · exact absurd (chain_deep hI (by omega) (fun u x => rfl)) c_101
                        · skip
                          have hb9 := c_97
                          refine g_iconst C (v := 1) dL_holds_192 (by decide) ?_
                          refine g_goto C 197 dL_holds_193 (by decide) ?_
                          refine g_icmp_ne C 243 dL_holds_197 (by decide) (fun c_104 => ?_) (fun c_104 => ?_)
                          · exact absurd (blk_1 hI (by omega) hb9) c_104
                          · skip
                            refine g_aload_n C dL_holds_200 rfl 1 rfl ?_
                            refine g_iload C dL_holds_201 4 rfl ?_
                            refine g_callV C (cs1 := [wX ax (bo 0) (tr 0) (ac 0) (ah 0) (at_ 0), wB E bo β, wB E tr τ, wC E ac ((lpF (fL_holds_L42 β γ) (0, γ) i42).2), wH E ah bd η, wT E at_ θ, wB E (bd 2) (σ 2), wB E (bd 3) (σ 3), wB E (bd 4) (σ 4), wB E (bd 5) (σ 5), wB E (bd 6) (σ 6), wB E (bd 7) (σ 7), wB E (bd 8) (σ 8), wB E (bd 9) (σ 9)]) (st1 := [.int (fT_allNeedsByGoing β i42)]) [.int (nI i42)] [0, 1, 2, 3, 4, 5, 6, 7, 8, 9, 10, 11, 12, 13] (kT_allNeedsByGoing l E ax bo β tr τ ac ((lpF (fL_holds_L42 β γ) (0, γ) i42).2) ah bd η σ at_ θ hv i42 (by omega) (hasT_n hv (by omega))) caX6_allNeedsByGoing q3_219 rfl ⟨Nat.le_of_ble_eq_true rfl, Nat.le_of_ble_eq_true rfl⟩ ⟨Nat.zero_le _, Nat.zero_le _⟩ 0 0 rfl rfl rfl rfl (by decide) rfl rfl rfl rfl (Nat.le_of_ble_eq_true rfl) dL_holds_203 rfl ?_
                            refine g_aload_n C dL_holds_206 rfl 1 rfl ?_
                            refine g_iload C dL_holds_207 4 rfl ?_
                            refine g_callV C (cs1 := [wX ax (bo 0) (tr 0) (ac 0) (ah 0) (at_ 0), wB E bo β, wB E tr τ, wC E ac ((fT_allNeedsByTable β ((lpF (fL_holds_L42 β γ) (0, γ) i42).2) i42).2), wH E ah bd η, wT E at_ θ, wB E (bd 2) (σ 2), wB E (bd 3) (σ 3), wB E (bd 4) (σ 4), wB E (bd 5) (σ 5), wB E (bd 6) (σ 6), wB E (bd 7) (σ 7), wB E (bd 8) (σ 8), wB E (bd 9) (σ 9)]) (st1 := [.int ((fT_allNeedsByTable β ((lpF (fL_holds_L42 β γ) (0, γ) i42).2) i42).1), .int (fT_allNeedsByGoing β i42)]) [.int (nI i42)] [0, 1, 2, 3, 4, 5, 6, 7, 8, 9, 10, 11, 12, 13] (kT_allNeedsByTable l E ax bo β tr τ ac ((lpF (fL_holds_L42 β γ) (0, γ) i42).2) ah bd η σ at_ θ hv i42 (by omega) (hasT_n hv (by omega))) caX6_allNeedsByTable q3_224 rfl ⟨Nat.le_of_ble_eq_true rfl, Nat.le_of_ble_eq_true rfl⟩ ⟨Nat.zero_le _, Nat.zero_le _⟩ 0 0 rfl rfl rfl rfl (by decide) rfl rfl rfl rfl (Nat.le_of_ble_eq_true rfl) dL_holds_209 rfl ?_
                            refine g_icmp_ne C 243 dL_holds_212 (by decide) (fun c_105 => ?_) (fun c_105 => ?_)
                            · exact absurd (going_table hI (by omega)) c_105
                            · skip
                              refine g_aload_n C dL_holds_215 rfl 1 rfl ?_
                              refine g_iload C dL_holds_216 4 rfl ?_
                              refine g_callV C (cs1 := [wX ax (bo 0) (tr 0) (ac 0) (ah 0) (at_ 0), wB E bo β, wB E tr τ, wC E ac ((fT_allNeedsByTable β ((lpF (fL_holds_L42 β γ) (0, γ) i42).2) i42).2), wH E ah bd η, wT E at_ θ, wB E (bd 2) (σ 2), wB E (bd 3) (σ 3), wB E (bd 4) (σ 4), wB E (bd 5) (σ 5), wB E (bd 6) (σ 6), wB E (bd 7) (σ 7), wB E (bd 8) (σ 8), wB E (bd 9) (σ 9)]) (st1 := [.int (fT_allNeedsByGoing β i42)]) [.int (nI i42)] [0, 1, 2, 3, 4, 5, 6, 7, 8, 9, 10, 11, 12, 13] (kT_allNeedsByGoing l E ax bo β tr τ ac ((fT_allNeedsByTable β ((lpF (fL_holds_L42 β γ) (0, γ) i42).2) i42).2) ah bd η σ at_ θ hv i42 (by omega) (hasT_n hv (by omega))) caX6_allNeedsByGoing q3_219 rfl ⟨Nat.le_of_ble_eq_true rfl, Nat.le_of_ble_eq_true rfl⟩ ⟨Nat.zero_le _, Nat.zero_le _⟩ 0 0 rfl rfl rfl rfl (by decide) rfl rfl rfl rfl (Nat.le_of_ble_eq_true rfl) dL_holds_218 rfl ?_
                              refine g_aload_n C dL_holds_221 rfl 1 rfl ?_
                              refine g_iload C dL_holds_222 4 rfl ?_
                              refine g_callV C (cs1 := [wX ax (bo 0) (tr 0) (ac 0) (ah 0) (at_ 0), wB E bo β, wB E tr τ, wC E ac ((fT_allNeedsByTable β ((lpF (fL_holds_L42 β γ) (0, γ) i42).2) i42).2), wH E ah bd η, wT E at_ θ, wB E (bd 2) (σ 2), wB E (bd 3) (σ 3), wB E (bd 4) (σ 4), wB E (bd 5) (σ 5), wB E (bd 6) (σ 6), wB E (bd 7) (σ 7), wB E (bd 8) (σ 8), wB E (bd 9) (σ 9)]) (st1 := [.int (fT_needsOf β i42), .int (fT_allNeedsByGoing β i42)]) [.int (nI i42)] [0, 1, 2, 3, 4, 5, 6, 7, 8, 9, 10, 11, 12, 13] (kT_needsOf l E ax bo β tr τ ac ((fT_allNeedsByTable β ((lpF (fL_holds_L42 β γ) (0, γ) i42).2) i42).2) ah bd η σ at_ θ hv i42 (by omega) (hasT_n hv (by omega))) caX6_needsOf q2_233 rfl ⟨Nat.le_of_ble_eq_true rfl, Nat.le_of_ble_eq_true rfl⟩ ⟨Nat.zero_le _, Nat.zero_le _⟩ 0 0 rfl rfl rfl rfl (by decide) rfl rfl rfl rfl (Nat.le_of_ble_eq_true rfl) dL_holds_224 rfl ?_
                              refine g_icmp_lt C 243 dL_holds_227 (by decide) (fun c_106 => ?_) (fun c_106 => ?_)
                              · exact absurd c_106 (needs_going hI (by omega))
                              · skip
                                refine g_aload_n C dL_holds_230 rfl 1 rfl ?_
                                refine g_iload C dL_holds_231 4 rfl ?_
                                refine g_callV C (cs1 := [wX ax (bo 0) (tr 0) (ac 0) (ah 0) (at_ 0), wB E bo β, wB E tr τ, wC E ac ((fT_allNeedsByTable β ((lpF (fL_holds_L42 β γ) (0, γ) i42).2) i42).2), wH E ah bd η, wT E at_ θ, wB E (bd 2) (σ 2), wB E (bd 3) (σ 3), wB E (bd 4) (σ 4), wB E (bd 5) (σ 5), wB E (bd 6) (σ 6), wB E (bd 7) (σ 7), wB E (bd 8) (σ 8), wB E (bd 9) (σ 9)]) (st1 := [.int (fT_chainOf β i42)]) [.int (nI i42)] [0, 1, 2, 3, 4, 5, 6, 7, 8, 9, 10, 11, 12, 13] (kT_chainOf l E ax bo β tr τ ac ((fT_allNeedsByTable β ((lpF (fL_holds_L42 β γ) (0, γ) i42).2) i42).2) ah bd η σ at_ θ hv i42 (by omega) (hasT_n hv (by omega))) caX6_chainOf q3_3 rfl ⟨Nat.le_of_ble_eq_true rfl, Nat.le_of_ble_eq_true rfl⟩ ⟨Nat.zero_le _, Nat.zero_le _⟩ 0 0 rfl rfl rfl rfl (by decide) rfl rfl rfl rfl (Nat.le_of_ble_eq_true rfl) dL_holds_233 rfl ?_
                                refine g_iload C dL_holds_236 5 rfl ?_
                                refine g_iconst C (v := 1) dL_holds_238 (by decide) ?_
                                refine g_iadd C dL_holds_239 ?_
                                refine g_icmp_eq C 245 dL_holds_240 (by decide) (fun c_107 => ?_) (fun c_107 => ?_)
                                · skip
                                  refine g_iinc C (v := nI (i42 + 1)) (lv1 := [(4, .int (nI (i42 + 1))), (3, .int (((lpF (fL_holds_L42 β γ) (0, γ) i42).1) + 0)), (0, .ref ax), (1, .int ((lpF (fL_holds_L9 β γ) (0, 0) 5).1)), (2, .int ((lpF (fL_holds_L9 β γ) (0, 0) 5).2)), (5, .int (lpF (fL_holds_L57 β γ i42 (lpF (fL_holds_L42 β γ) (0, γ) i42)) 0 (cnt β))), (6, .int (nI (cnt β)))]) dL_holds_245 4 rfl (nI_1 i42) (by decide) rfl ?_
                                  refine g_goto C 42 dL_holds_248 (by decide) ?_
                                  have e_108 : (lpF (fL_holds_L42 β γ) (0, γ) (i42 + 1)) = (((lpF (fL_holds_L42 β γ) (0, γ) i42).1) + 0, (fT_allNeedsByTable β ((lpF (fL_holds_L42 β γ) (0, γ) i42).2) i42).2) := by
                                    rw [lpF_1, fL_holds_L42]; rw [if_pos c_95, if_neg c_96, if_neg c_97]
                                  have h_109 := ih_9 (i42 + 1) (by omega)
                                  rw [e_108] at h_109
                                  exact g_sub [2, 3, 4, 1, 0] rfl h_109
                                · exact absurd (chain_deep hI (by omega) (fun u x => rfl)) c_107
                      · skip
                        have hs9 := c_96
                        refine g_aload_n C dL_holds_168 rfl 1 rfl ?_
                        refine g_iload C dL_holds_169 4 rfl ?_
                        refine g_callV C (cs1 := [wX ax (bo 0) (tr 0) (ac 0) (ah 0) (at_ 0), wB E bo β, wB E tr τ, wC E ac ((lpF (fL_holds_L42 β γ) (0, γ) i42).2), wH E ah bd η, wT E at_ θ, wB E (bd 2) (σ 2), wB E (bd 3) (σ 3), wB E (bd 4) (σ 4), wB E (bd 5) (σ 5), wB E (bd 6) (σ 6), wB E (bd 7) (σ 7), wB E (bd 8) (σ 8), wB E (bd 9) (σ 9)]) (st1 := [.int (b2i (fT_isBlocked β i42))]) [.int (nI i42)] [0, 1, 2, 3, 4, 5, 6, 7, 8, 9, 10, 11, 12, 13] (kT_isBlocked l E ax bo β tr τ ac ((lpF (fL_holds_L42 β γ) (0, γ) i42).2) ah bd η σ at_ θ hv i42 (by omega) (hasT_n hv (by omega))) caX6_isBlocked q3_180 rfl ⟨Nat.le_of_ble_eq_true rfl, Nat.le_of_ble_eq_true rfl⟩ ⟨Nat.zero_le _, Nat.zero_le _⟩ 0 0 rfl rfl rfl rfl (by decide) rfl rfl rfl rfl (Nat.le_of_ble_eq_true rfl) dL_holds_171 rfl ?_
                        refine g_ifB_ne C 243 dL_holds_174 (by decide) (fun c_110 => ?_) (fun c_110 => ?_)
                        · exact absurd c_110 (closed_free hI (by omega) hs9)
                        · skip
                          refine g_aload_n C dL_holds_177 rfl 1 rfl ?_
                          refine g_iload C dL_holds_178 4 rfl ?_
                          refine g_callV C (cs1 := [wX ax (bo 0) (tr 0) (ac 0) (ah 0) (at_ 0), wB E bo β, wB E tr τ, wC E ac ((lpF (fL_holds_L42 β γ) (0, γ) i42).2), wH E ah bd η, wT E at_ θ, wB E (bd 2) (σ 2), wB E (bd 3) (σ 3), wB E (bd 4) (σ 4), wB E (bd 5) (σ 5), wB E (bd 6) (σ 6), wB E (bd 7) (σ 7), wB E (bd 8) (σ 8), wB E (bd 9) (σ 9)]) (st1 := [.int (b2i (fT_isBlocked β i42))]) [.int (nI i42)] [0, 1, 2, 3, 4, 5, 6, 7, 8, 9, 10, 11, 12, 13] (kT_isBlocked l E ax bo β tr τ ac ((lpF (fL_holds_L42 β γ) (0, γ) i42).2) ah bd η σ at_ θ hv i42 (by omega) (hasT_n hv (by omega))) caX6_isBlocked q3_180 rfl ⟨Nat.le_of_ble_eq_true rfl, Nat.le_of_ble_eq_true rfl⟩ ⟨Nat.zero_le _, Nat.zero_le _⟩ 0 0 rfl rfl rfl rfl (by decide) rfl rfl rfl rfl (Nat.le_of_ble_eq_true rfl) dL_holds_180 rfl ?_
                          refine g_aload_n C dL_holds_183 rfl 1 rfl ?_
                          refine g_iload C dL_holds_184 4 rfl ?_
                          refine g_callV C (cs1 := [wX ax (bo 0) (tr 0) (ac 0) (ah 0) (at_ 0), wB E bo β, wB E tr τ, wC E ac ((lpF (fL_holds_L42 β γ) (0, γ) i42).2), wH E ah bd η, wT E at_ θ, wB E (bd 2) (σ 2), wB E (bd 3) (σ 3), wB E (bd 4) (σ 4), wB E (bd 5) (σ 5), wB E (bd 6) (σ 6), wB E (bd 7) (σ 7), wB E (bd 8) (σ 8), wB E (bd 9) (σ 9)]) (st1 := [.int (fT_blockersOf β i42), .int (b2i (fT_isBlocked β i42))]) [.int (nI i42)] [0, 1, 2, 3, 4, 5, 6, 7, 8, 9, 10, 11, 12, 13] (kT_blockersOf l E ax bo β tr τ ac ((lpF (fL_holds_L42 β γ) (0, γ) i42).2) ah bd η σ at_ θ hv i42 (by omega) (hasT_n hv (by omega))) caX6_blockersOf q3_215 rfl ⟨Nat.le_of_ble_eq_true rfl, Nat.le_of_ble_eq_true rfl⟩ ⟨Nat.zero_le _, Nat.zero_le _⟩ 0 0 rfl rfl rfl rfl (by decide) rfl rfl rfl rfl (Nat.le_of_ble_eq_true rfl) dL_holds_186 rfl ?_
                          refine g_if_le C 196 dL_holds_189 (by decide) (fun c_111 => ?_) (fun c_111 => ?_)
                          · skip
                            have hb9 := c_111
                            refine g_iconst C (v := 0) dL_holds_196 (by decide) ?_
                            refine g_icmp_ne C 243 dL_holds_197 (by decide) (fun c_112 => ?_) (fun c_112 => ?_)
                            · exact absurd (blk_0 hI (by omega) hb9) c_112
                            · skip
                              refine g_aload_n C dL_holds_200 rfl 1 rfl ?_
                              refine g_iload C dL_holds_201 4 rfl ?_
                              refine g_callV C (cs1 := [wX ax (bo 0) (tr 0) (ac 0) (ah 0) (at_ 0), wB E bo β, wB E tr τ, wC E ac ((lpF (fL_holds_L42 β γ) (0, γ) i42).2), wH E ah bd η, wT E at_ θ, wB E (bd 2) (σ 2), wB E (bd 3) (σ 3), wB E (bd 4) (σ 4), wB E (bd 5) (σ 5), wB E (bd 6) (σ 6), wB E (bd 7) (σ 7), wB E (bd 8) (σ 8), wB E (bd 9) (σ 9)]) (st1 := [.int (fT_allNeedsByGoing β i42)]) [.int (nI i42)] [0, 1, 2, 3, 4, 5, 6, 7, 8, 9, 10, 11, 12, 13] (kT_allNeedsByGoing l E ax bo β tr τ ac ((lpF (fL_holds_L42 β γ) (0, γ) i42).2) ah bd η σ at_ θ hv i42 (by omega) (hasT_n hv (by omega))) caX6_allNeedsByGoing q3_219 rfl ⟨Nat.le_of_ble_eq_true rfl, Nat.le_of_ble_eq_true rfl⟩ ⟨Nat.zero_le _, Nat.zero_le _⟩ 0 0 rfl rfl rfl rfl (by decide) rfl rfl rfl rfl (Nat.le_of_ble_eq_true rfl) dL_holds_203 rfl ?_
                              refine g_aload_n C dL_holds_206 rfl 1 rfl ?_
                              refine g_iload C dL_holds_207 4 rfl ?_
                              refine g_callV C (cs1 := [wX ax (bo 0) (tr 0) (ac 0) (ah 0) (at_ 0), wB E bo β, wB E tr τ, wC E ac ((fT_allNeedsByTable β ((lpF (fL_holds_L42 β γ) (0, γ) i42).2) i42).2), wH E ah bd η, wT E at_ θ, wB E (bd 2) (σ 2), wB E (bd 3) (σ 3), wB E (bd 4) (σ 4), wB E (bd 5) (σ 5), wB E (bd 6) (σ 6), wB E (bd 7) (σ 7), wB E (bd 8) (σ 8), wB E (bd 9) (σ 9)]) (st1 := [.int ((fT_allNeedsByTable β ((lpF (fL_holds_L42 β γ) (0, γ) i42).2) i42).1), .int (fT_allNeedsByGoing β i42)]) [.int (nI i42)] [0, 1, 2, 3, 4, 5, 6, 7, 8, 9, 10, 11, 12, 13] (kT_allNeedsByTable l E ax bo β tr τ ac ((lpF (fL_holds_L42 β γ) (0, γ) i42).2) ah bd η σ at_ θ hv i42 (by omega) (hasT_n hv (by omega))) caX6_allNeedsByTable q3_224 rfl ⟨Nat.le_of_ble_eq_true rfl, Nat.le_of_ble_eq_true rfl⟩ ⟨Nat.zero_le _, Nat.zero_le _⟩ 0 0 rfl rfl rfl rfl (by decide) rfl rfl rfl rfl (Nat.le_of_ble_eq_true rfl) dL_holds_209 rfl ?_
                              refine g_icmp_ne C 243 dL_holds_212 (by decide) (fun c_113 => ?_) (fun c_113 => ?_)
                              · exact absurd (going_table hI (by omega)) c_113
                              · skip
                                refine g_aload_n C dL_holds_215 rfl 1 rfl ?_
                                refine g_iload C dL_holds_216 4 rfl ?_
                                refine g_callV C (cs1 := [wX ax (bo 0) (tr 0) (ac 0) (ah 0) (at_ 0), wB E bo β, wB E tr τ, wC E ac ((fT_allNeedsByTable β ((lpF (fL_holds_L42 β γ) (0, γ) i42).2) i42).2), wH E ah bd η, wT E at_ θ, wB E (bd 2) (σ 2), wB E (bd 3) (σ 3), wB E (bd 4) (σ 4), wB E (bd 5) (σ 5), wB E (bd 6) (σ 6), wB E (bd 7) (σ 7), wB E (bd 8) (σ 8), wB E (bd 9) (σ 9)]) (st1 := [.int (fT_allNeedsByGoing β i42)]) [.int (nI i42)] [0, 1, 2, 3, 4, 5, 6, 7, 8, 9, 10, 11, 12, 13] (kT_allNeedsByGoing l E ax bo β tr τ ac ((fT_allNeedsByTable β ((lpF (fL_holds_L42 β γ) (0, γ) i42).2) i42).2) ah bd η σ at_ θ hv i42 (by omega) (hasT_n hv (by omega))) caX6_allNeedsByGoing q3_219 rfl ⟨Nat.le_of_ble_eq_true rfl, Nat.le_of_ble_eq_true rfl⟩ ⟨Nat.zero_le _, Nat.zero_le _⟩ 0 0 rfl rfl rfl rfl (by decide) rfl rfl rfl rfl (Nat.le_of_ble_eq_true rfl) dL_holds_218 rfl ?_
                                refine g_aload_n C dL_holds_221 rfl 1 rfl ?_
                                refine g_iload C dL_holds_222 4 rfl ?_
                                refine g_callV C (cs1 := [wX ax (bo 0) (tr 0) (ac 0) (ah 0) (at_ 0), wB E bo β, wB E tr τ, wC E ac ((fT_allNeedsByTable β ((lpF (fL_holds_L42 β γ) (0, γ) i42).2) i42).2), wH E ah bd η, wT E at_ θ, wB E (bd 2) (σ 2), wB E (bd 3) (σ 3), wB E (bd 4) (σ 4), wB E (bd 5) (σ 5), wB E (bd 6) (σ 6), wB E (bd 7) (σ 7), wB E (bd 8) (σ 8), wB E (bd 9) (σ 9)]) (st1 := [.int (fT_needsOf β i42), .int (fT_allNeedsByGoing β i42)]) [.int (nI i42)] [0, 1, 2, 3, 4, 5, 6, 7, 8, 9, 10, 11, 12, 13] (kT_needsOf l E ax bo β tr τ ac ((fT_allNeedsByTable β ((lpF (fL_holds_L42 β γ) (0, γ) i42).2) i42).2) ah bd η σ at_ θ hv i42 (by omega) (hasT_n hv (by omega))) caX6_needsOf q2_233 rfl ⟨Nat.le_of_ble_eq_true rfl, Nat.le_of_ble_eq_true rfl⟩ ⟨Nat.zero_le _, Nat.zero_le _⟩ 0 0 rfl rfl rfl rfl (by decide) rfl rfl rfl rfl (Nat.le_of_ble_eq_true rfl) dL_holds_224 rfl ?_
                                refine g_icmp_lt C 243 dL_holds_227 (by decide) (fun c_114 => ?_) (fun c_114 => ?_)
                                · exact absurd c_114 (needs_going hI (by omega))
                                · skip
                                  refine g_aload_n C dL_holds_230 rfl 1 rfl ?_
                                  refine g_iload C dL_holds_231 4 rfl ?_
                                  refine g_callV C (cs1 := [wX ax (bo 0) (tr 0) (ac 0) (ah 0) (at_ 0), wB E bo β, wB E tr τ, wC E ac ((fT_allNeedsByTable β ((lpF (fL_holds_L42 β γ) (0, γ) i42).2) i42).2), wH E ah bd η, wT E at_ θ, wB E (bd 2) (σ 2), wB E (bd 3) (σ 3), wB E (bd 4) (σ 4), wB E (bd 5) (σ 5), wB E (bd 6) (σ 6), wB E (bd 7) (σ 7), wB E (bd 8) (σ 8), wB E (bd 9) (σ 9)]) (st1 := [.int (fT_chainOf β i42)]) [.int (nI i42)] [0, 1, 2, 3, 4, 5, 6, 7, 8, 9, 10, 11, 12, 13] (kT_chainOf l E ax bo β tr τ ac ((fT_allNeedsByTable β ((lpF (fL_holds_L42 β γ) (0, γ) i42).2) i42).2) ah bd η σ at_ θ hv i42 (by omega) (hasT_n hv (by omega))) caX6_chainOf q3_3 rfl ⟨Nat.le_of_ble_eq_true rfl, Nat.le_of_ble_eq_true rfl⟩ ⟨Nat.zero_le _, Nat.zero_le _⟩ 0 0 rfl rfl rfl rfl (by decide) rfl rfl rfl rfl (Nat.le_of_ble_eq_true rfl) dL_holds_233 rfl ?_
                                  refine g_iload C dL_holds_236 5 rfl ?_
                                  refine g_iconst C (v := 1) dL_holds_238 (by decide) ?_
                                  refine g_iadd C dL_holds_239 ?_
                                  refine g_icmp_eq C 245 dL_holds_240 (by decide) (fun c_115 => ?_) (fun c_115 => ?_)
                                  · skip
                                    refine g_iinc C (v := nI (i42 + 1)) (lv1 := [(4, .int (nI (i42 + 1))), (3, .int (((lpF (fL_holds_L42 β γ) (0, γ) i42).1) + 0)), (0, .ref ax), (1, .int ((lpF (fL_holds_L9 β γ) (0, 0) 5).1)), (2, .int ((lpF (fL_holds_L9 β γ) (0, 0) 5).2)), (5, .int (lpF (fL_holds_L57 β γ i42 (lpF (fL_holds_L42 β γ) (0, γ) i42)) 0 (cnt β))), (6, .int (nI (cnt β)))]) dL_holds_245 4 rfl (nI_1 i42) (by decide) rfl ?_
                                    refine g_goto C 42 dL_holds_248 (by decide) ?_
                                    have e_116 : (lpF (fL_holds_L42 β γ) (0, γ) (i42 + 1)) = (((lpF (fL_holds_L42 β γ) (0, γ) i42).1) + 0, (fT_allNeedsByTable β ((lpF (fL_holds_L42 β γ) (0, γ) i42).2) i42).2) := by
                                      rw [lpF_1, fL_holds_L42]; rw [if_pos c_95, if_pos c_96, if_pos c_111]
                                    have h_117 := ih_9 (i42 + 1) (by omega)
                                    rw [e_116] at h_117
                                    exact g_sub [2, 3, 4, 1, 0] rfl h_117
                                  · exact absurd (chain_deep hI (by omega) (fun u x => rfl)) c_115
                          · skip
                            have hb9 := c_111
                            refine g_iconst C (v := 1) dL_holds_192 (by decide) ?_
                            refine g_goto C 197 dL_holds_193 (by decide) ?_
                            refine g_icmp_ne C 243 dL_holds_197 (by decide) (fun c_118 => ?_) (fun c_118 => ?_)
                            · exact absurd (blk_1 hI (by omega) hb9) c_118
                            · skip
                              refine g_aload_n C dL_holds_200 rfl 1 rfl ?_
                              refine g_iload C dL_holds_201 4 rfl ?_
                              refine g_callV C (cs1 := [wX ax (bo 0) (tr 0) (ac 0) (ah 0) (at_ 0), wB E bo β, wB E tr τ, wC E ac ((lpF (fL_holds_L42 β γ) (0, γ) i42).2), wH E ah bd η, wT E at_ θ, wB E (bd 2) (σ 2), wB E (bd 3) (σ 3), wB E (bd 4) (σ 4), wB E (bd 5) (σ 5), wB E (bd 6) (σ 6), wB E (bd 7) (σ 7), wB E (bd 8) (σ 8), wB E (bd 9) (σ 9)]) (st1 := [.int (fT_allNeedsByGoing β i42)]) [.int (nI i42)] [0, 1, 2, 3, 4, 5, 6, 7, 8, 9, 10, 11, 12, 13] (kT_allNeedsByGoing l E ax bo β tr τ ac ((lpF (fL_holds_L42 β γ) (0, γ) i42).2) ah bd η σ at_ θ hv i42 (by omega) (hasT_n hv (by omega))) caX6_allNeedsByGoing q3_219 rfl ⟨Nat.le_of_ble_eq_true rfl, Nat.le_of_ble_eq_true rfl⟩ ⟨Nat.zero_le _, Nat.zero_le _⟩ 0 0 rfl rfl rfl rfl (by decide) rfl rfl rfl rfl (Nat.le_of_ble_eq_true rfl) dL_holds_203 rfl ?_
                              refine g_aload_n C dL_holds_206 rfl 1 rfl ?_
                              refine g_iload C dL_holds_207 4 rfl ?_
                              refine g_callV C (cs1 := [wX ax (bo 0) (tr 0) (ac 0) (ah 0) (at_ 0), wB E bo β, wB E tr τ, wC E ac ((fT_allNeedsByTable β ((lpF (fL_holds_L42 β γ) (0, γ) i42).2) i42).2), wH E ah bd η, wT E at_ θ, wB E (bd 2) (σ 2), wB E (bd 3) (σ 3), wB E (bd 4) (σ 4), wB E (bd 5) (σ 5), wB E (bd 6) (σ 6), wB E (bd 7) (σ 7), wB E (bd 8) (σ 8), wB E (bd 9) (σ 9)]) (st1 := [.int ((fT_allNeedsByTable β ((lpF (fL_holds_L42 β γ) (0, γ) i42).2) i42).1), .int (fT_allNeedsByGoing β i42)]) [.int (nI i42)] [0, 1, 2, 3, 4, 5, 6, 7, 8, 9, 10, 11, 12, 13] (kT_allNeedsByTable l E ax bo β tr τ ac ((lpF (fL_holds_L42 β γ) (0, γ) i42).2) ah bd η σ at_ θ hv i42 (by omega) (hasT_n hv (by omega))) caX6_allNeedsByTable q3_224 rfl ⟨Nat.le_of_ble_eq_true rfl, Nat.le_of_ble_eq_true rfl⟩ ⟨Nat.zero_le _, Nat.zero_le _⟩ 0 0 rfl rfl rfl rfl (by decide) rfl rfl rfl rfl (Nat.le_of_ble_eq_true rfl) dL_holds_209 rfl ?_
                              refine g_icmp_ne C 243 dL_holds_212 (by decide) (fun c_119 => ?_) (fun c_119 => ?_)
                              · exact absurd (going_table hI (by omega)) c_119
                              · skip
                                refine g_aload_n C dL_holds_215 rfl 1 rfl ?_
                                refine g_iload C dL_holds_216 4 rfl ?_
                                refine g_callV C (cs1 := [wX ax (bo 0) (tr 0) (ac 0) (ah 0) (at_ 0), wB E bo β, wB E tr τ, wC E ac ((fT_allNeedsByTable β ((lpF (fL_holds_L42 β γ) (0, γ) i42).2) i42).2), wH E ah bd η, wT E at_ θ, wB E (bd 2) (σ 2), wB E (bd 3) (σ 3), wB E (bd 4) (σ 4), wB E (bd 5) (σ 5), wB E (bd 6) (σ 6), wB E (bd 7) (σ 7), wB E (bd 8) (σ 8), wB E (bd 9) (σ 9)]) (st1 := [.int (fT_allNeedsByGoing β i42)]) [.int (nI i42)] [0, 1, 2, 3, 4, 5, 6, 7, 8, 9, 10, 11, 12, 13] (kT_allNeedsByGoing l E ax bo β tr τ ac ((fT_allNeedsByTable β ((lpF (fL_holds_L42 β γ) (0, γ) i42).2) i42).2) ah bd η σ at_ θ hv i42 (by omega) (hasT_n hv (by omega))) caX6_allNeedsByGoing q3_219 rfl ⟨Nat.le_of_ble_eq_true rfl, Nat.le_of_ble_eq_true rfl⟩ ⟨Nat.zero_le _, Nat.zero_le _⟩ 0 0 rfl rfl rfl rfl (by decide) rfl rfl rfl rfl (Nat.le_of_ble_eq_true rfl) dL_holds_218 rfl ?_
                                refine g_aload_n C dL_holds_221 rfl 1 rfl ?_
                                refine g_iload C dL_holds_222 4 rfl ?_
                                refine g_callV C (cs1 := [wX ax (bo 0) (tr 0) (ac 0) (ah 0) (at_ 0), wB E bo β, wB E tr τ, wC E ac ((fT_allNeedsByTable β ((lpF (fL_holds_L42 β γ) (0, γ) i42).2) i42).2), wH E ah bd η, wT E at_ θ, wB E (bd 2) (σ 2), wB E (bd 3) (σ 3), wB E (bd 4) (σ 4), wB E (bd 5) (σ 5), wB E (bd 6) (σ 6), wB E (bd 7) (σ 7), wB E (bd 8) (σ 8), wB E (bd 9) (σ 9)]) (st1 := [.int (fT_needsOf β i42), .int (fT_allNeedsByGoing β i42)]) [.int (nI i42)] [0, 1, 2, 3, 4, 5, 6, 7, 8, 9, 10, 11, 12, 13] (kT_needsOf l E ax bo β tr τ ac ((fT_allNeedsByTable β ((lpF (fL_holds_L42 β γ) (0, γ) i42).2) i42).2) ah bd η σ at_ θ hv i42 (by omega) (hasT_n hv (by omega))) caX6_needsOf q2_233 rfl ⟨Nat.le_of_ble_eq_true rfl, Nat.le_of_ble_eq_true rfl⟩ ⟨Nat.zero_le _, Nat.zero_le _⟩ 0 0 rfl rfl rfl rfl (by decide) rfl rfl rfl rfl (Nat.le_of_ble_eq_true rfl) dL_holds_224 rfl ?_
                                refine g_icmp_lt C 243 dL_holds_227 (by decide) (fun c_120 => ?_) (fun c_120 => ?_)
                                · exact absurd c_120 (needs_going hI (by omega))
                                · skip
                                  refine g_aload_n C dL_holds_230 rfl 1 rfl ?_
                                  refine g_iload C dL_holds_231 4 rfl ?_
                                  refine g_callV C (cs1 := [wX ax (bo 0) (tr 0) (ac 0) (ah 0) (at_ 0), wB E bo β, wB E tr τ, wC E ac ((fT_allNeedsByTable β ((lpF (fL_holds_L42 β γ) (0, γ) i42).2) i42).2), wH E ah bd η, wT E at_ θ, wB E (bd 2) (σ 2), wB E (bd 3) (σ 3), wB E (bd 4) (σ 4), wB E (bd 5) (σ 5), wB E (bd 6) (σ 6), wB E (bd 7) (σ 7), wB E (bd 8) (σ 8), wB E (bd 9) (σ 9)]) (st1 := [.int (fT_chainOf β i42)]) [.int (nI i42)] [0, 1, 2, 3, 4, 5, 6, 7, 8, 9, 10, 11, 12, 13] (kT_chainOf l E ax bo β tr τ ac ((fT_allNeedsByTable β ((lpF (fL_holds_L42 β γ) (0, γ) i42).2) i42).2) ah bd η σ at_ θ hv i42 (by omega) (hasT_n hv (by omega))) caX6_chainOf q3_3 rfl ⟨Nat.le_of_ble_eq_true rfl, Nat.le_of_ble_eq_true rfl⟩ ⟨Nat.zero_le _, Nat.zero_le _⟩ 0 0 rfl rfl rfl rfl (by decide) rfl rfl rfl rfl (Nat.le_of_ble_eq_true rfl) dL_holds_233 rfl ?_
                                  refine g_iload C dL_holds_236 5 rfl ?_
                                  refine g_iconst C (v := 1) dL_holds_238 (by decide) ?_
                                  refine g_iadd C dL_holds_239 ?_
                                  refine g_icmp_eq C 245 dL_holds_240 (by decide) (fun c_121 => ?_) (fun c_121 => ?_)
                                  · skip
                                    refine g_iinc C (v := nI (i42 + 1)) (lv1 := [(4, .int (nI (i42 + 1))), (3, .int (((lpF (fL_holds_L42 β γ) (0, γ) i42).1) + 0)), (0, .ref ax), (1, .int ((lpF (fL_holds_L9 β γ) (0, 0) 5).1)), (2, .int ((lpF (fL_holds_L9 β γ) (0, 0) 5).2)), (5, .int (lpF (fL_holds_L57 β γ i42 (lpF (fL_holds_L42 β γ) (0, γ) i42)) 0 (cnt β))), (6, .int (nI (cnt β)))]) dL_holds_245 4 rfl (nI_1 i42) (by decide) rfl ?_
                                    refine g_goto C 42 dL_holds_248 (by decide) ?_
                                    have e_122 : (lpF (fL_holds_L42 β γ) (0, γ) (i42 + 1)) = (((lpF (fL_holds_L42 β γ) (0, γ) i42).1) + 0, (fT_allNeedsByTable β ((lpF (fL_holds_L42 β γ) (0, γ) i42).2) i42).2) := by
                                      rw [lpF_1, fL_holds_L42]; rw [if_pos c_95, if_pos c_96, if_neg c_111]
                                    have h_123 := ih_9 (i42 + 1) (by omega)
                                    rw [e_122] at h_123
                                    exact g_sub [2, 3, 4, 1, 0] rfl h_123
                                  · exact absurd (chain_deep hI (by omega) (fun u x => rfl)) c_121
                    · skip
                      refine g_aload_n C dL_holds_142 rfl 0 rfl ?_
                      refine g_iload C dL_holds_143 4 rfl ?_
                      refine g_callV C (cs1 := [wX ax (bo 0) (tr 0) (ac 0) (ah 0) (at_ 0), wB E bo β, wB E tr τ, wC E ac ((lpF (fL_holds_L42 β γ) (0, γ) i42).2), wH E ah bd η, wT E at_ θ, wB E (bd 2) (σ 2), wB E (bd 3) (σ 3), wB E (bd 4) (σ 4), wB E (bd 5) (σ 5), wB E (bd 6) (σ 6), wB E (bd 7) (σ 7), wB E (bd 8) (σ 8), wB E (bd 9) (σ 9)]) (st1 := [.int (b2i (fT_isBlocked β i42)), .int ((lpF (fL_holds_L42 β γ) (0, γ) i42).1)]) [.int (nI i42)] [0, 1, 2, 3, 4, 5, 6, 7, 8, 9, 10, 11, 12, 13] (kT_isBlocked l E ax bo β tr τ ac ((lpF (fL_holds_L42 β γ) (0, γ) i42).2) ah bd η σ at_ θ hv i42 (by omega) (hasT_n hv (by omega))) caX6_isBlocked q3_180 rfl ⟨Nat.le_of_ble_eq_true rfl, Nat.le_of_ble_eq_true rfl⟩ ⟨Nat.zero_le _, Nat.zero_le _⟩ 0 0 rfl rfl rfl rfl (by decide) rfl rfl rfl rfl (Nat.le_of_ble_eq_true rfl) dL_holds_145 rfl ?_
                      refine g_ifB_eq C 155 dL_holds_148 (by decide) (fun c_124 => ?_) (fun c_124 => ?_)
                      · skip
                        refine g_iconst C (v := 0) dL_holds_155 (by decide) ?_
                        refine g_iadd C dL_holds_156 ?_
                        refine g_istore_n C (lv1 := [(3, .int (((lpF (fL_holds_L42 β γ) (0, γ) i42).1) + 0)), (0, .ref ax), (1, .int ((lpF (fL_holds_L9 β γ) (0, 0) 5).1)), (2, .int ((lpF (fL_holds_L9 β γ) (0, 0) 5).2)), (4, .int (nI i42)), (5, .int (lpF (fL_holds_L57 β γ i42 (lpF (fL_holds_L42 β γ) (0, γ) i42)) 0 (cnt β))), (6, .int (nI (cnt β)))]) dL_holds_157 rfl (by decide) rfl ?_
                        refine g_aload_n C dL_holds_158 rfl 1 rfl ?_
                        refine g_iload C dL_holds_159 4 rfl ?_
                        refine g_callV C (cs1 := [wX ax (bo 0) (tr 0) (ac 0) (ah 0) (at_ 0), wB E bo β, wB E tr τ, wC E ac ((lpF (fL_holds_L42 β γ) (0, γ) i42).2), wH E ah bd η, wT E at_ θ, wB E (bd 2) (σ 2), wB E (bd 3) (σ 3), wB E (bd 4) (σ 4), wB E (bd 5) (σ 5), wB E (bd 6) (σ 6), wB E (bd 7) (σ 7), wB E (bd 8) (σ 8), wB E (bd 9) (σ 9)]) (st1 := [.int (fT_stateOf β i42)]) [.int (nI i42)] [0, 1, 2, 3, 4, 5, 6, 7, 8, 9, 10, 11, 12, 13] (kT_stateOf l E ax bo β tr τ ac ((lpF (fL_holds_L42 β γ) (0, γ) i42).2) ah bd η σ at_ θ hv i42 (by omega) (hasT_n hv (by omega))) caX6_stateOf q2_193 rfl ⟨Nat.le_of_ble_eq_true rfl, Nat.le_of_ble_eq_true rfl⟩ ⟨Nat.zero_le _, Nat.zero_le _⟩ 0 0 rfl rfl rfl rfl (by decide) rfl rfl rfl rfl (Nat.le_of_ble_eq_true rfl) dL_holds_161 rfl ?_
                        refine g_iconst C (v := 3) dL_holds_164 (by decide) ?_
                        refine g_icmp_ne C 177 dL_holds_165 (by decide) (fun c_125 => ?_) (fun c_125 => ?_)
                        · skip
                          refine g_aload_n C dL_holds_177 rfl 1 rfl ?_
                          refine g_iload C dL_holds_178 4 rfl ?_
                          refine g_callV C (cs1 := [wX ax (bo 0) (tr 0) (ac 0) (ah 0) (at_ 0), wB E bo β, wB E tr τ, wC E ac ((lpF (fL_holds_L42 β γ) (0, γ) i42).2), wH E ah bd η, wT E at_ θ, wB E (bd 2) (σ 2), wB E (bd 3) (σ 3), wB E (bd 4) (σ 4), wB E (bd 5) (σ 5), wB E (bd 6) (σ 6), wB E (bd 7) (σ 7), wB E (bd 8) (σ 8), wB E (bd 9) (σ 9)]) (st1 := [.int (b2i (fT_isBlocked β i42))]) [.int (nI i42)] [0, 1, 2, 3, 4, 5, 6, 7, 8, 9, 10, 11, 12, 13] (kT_isBlocked l E ax bo β tr τ ac ((lpF (fL_holds_L42 β γ) (0, γ) i42).2) ah bd η σ at_ θ hv i42 (by omega) (hasT_n hv (by omega))) caX6_isBlocked q3_180 rfl ⟨Nat.le_of_ble_eq_true rfl, Nat.le_of_ble_eq_true rfl⟩ ⟨Nat.zero_le _, Nat.zero_le _⟩ 0 0 rfl rfl rfl rfl (by decide) rfl rfl rfl rfl (Nat.le_of_ble_eq_true rfl) dL_holds_180 rfl ?_
                          refine g_aload_n C dL_holds_183 rfl 1 rfl ?_
                          refine g_iload C dL_holds_184 4 rfl ?_
                          refine g_callV C (cs1 := [wX ax (bo 0) (tr 0) (ac 0) (ah 0) (at_ 0), wB E bo β, wB E tr τ, wC E ac ((lpF (fL_holds_L42 β γ) (0, γ) i42).2), wH E ah bd η, wT E at_ θ, wB E (bd 2) (σ 2), wB E (bd 3) (σ 3), wB E (bd 4) (σ 4), wB E (bd 5) (σ 5), wB E (bd 6) (σ 6), wB E (bd 7) (σ 7), wB E (bd 8) (σ 8), wB E (bd 9) (σ 9)]) (st1 := [.int (fT_blockersOf β i42), .int (b2i (fT_isBlocked β i42))]) [.int (nI i42)] [0, 1, 2, 3, 4, 5, 6, 7, 8, 9, 10, 11, 12, 13] (kT_blockersOf l E ax bo β tr τ ac ((lpF (fL_holds_L42 β γ) (0, γ) i42).2) ah bd η σ at_ θ hv i42 (by omega) (hasT_n hv (by omega))) caX6_blockersOf q3_215 rfl ⟨Nat.le_of_ble_eq_true rfl, Nat.le_of_ble_eq_true rfl⟩ ⟨Nat.zero_le _, Nat.zero_le _⟩ 0 0 rfl rfl rfl rfl (by decide) rfl rfl rfl rfl (Nat.le_of_ble_eq_true rfl) dL_holds_186 rfl ?_
                          refine g_if_le C 196 dL_holds_189 (by decide) (fun c_126 => ?_) (fun c_126 => ?_)
                          · skip
                            have hb9 := c_126
                            refine g_iconst C (v := 0) dL_holds_196 (by decide) ?_
                            refine g_icmp_ne C 243 dL_holds_197 (by decide) (fun c_127 => ?_) (fun c_127 => ?_)
                            · exact absurd (blk_0 hI (by omega) hb9) c_127
                            · skip
                              refine g_aload_n C dL_holds_200 rfl 1 rfl ?_
                              refine g_iload C dL_holds_201 4 rfl ?_
                              refine g_callV C (cs1 := [wX ax (bo 0) (tr 0) (ac 0) (ah 0) (at_ 0), wB E bo β, wB E tr τ, wC E ac ((lpF (fL_holds_L42 β γ) (0, γ) i42).2), wH E ah bd η, wT E at_ θ, wB E (bd 2) (σ 2), wB E (bd 3) (σ 3), wB E (bd 4) (σ 4), wB E (bd 5) (σ 5), wB E (bd 6) (σ 6), wB E (bd 7) (σ 7), wB E (bd 8) (σ 8), wB E (bd 9) (σ 9)]) (st1 := [.int (fT_allNeedsByGoing β i42)]) [.int (nI i42)] [0, 1, 2, 3, 4, 5, 6, 7, 8, 9, 10, 11, 12, 13] (kT_allNeedsByGoing l E ax bo β tr τ ac ((lpF (fL_holds_L42 β γ) (0, γ) i42).2) ah bd η σ at_ θ hv i42 (by omega) (hasT_n hv (by omega))) caX6_allNeedsByGoing q3_219 rfl ⟨Nat.le_of_ble_eq_true rfl, Nat.le_of_ble_eq_true rfl⟩ ⟨Nat.zero_le _, Nat.zero_le _⟩ 0 0 rfl rfl rfl rfl (by decide) rfl rfl rfl rfl (Nat.le_of_ble_eq_true rfl) dL_holds_203 rfl ?_
                              refine g_aload_n C dL_holds_206 rfl 1 rfl ?_
                              refine g_iload C dL_holds_207 4 rfl ?_
                              refine g_callV C (cs1 := [wX ax (bo 0) (tr 0) (ac 0) (ah 0) (at_ 0), wB E bo β, wB E tr τ, wC E ac ((fT_allNeedsByTable β ((lpF (fL_holds_L42 β γ) (0, γ) i42).2) i42).2), wH E ah bd η, wT E at_ θ, wB E (bd 2) (σ 2), wB E (bd 3) (σ 3), wB E (bd 4) (σ 4), wB E (bd 5) (σ 5), wB E (bd 6) (σ 6), wB E (bd 7) (σ 7), wB E (bd 8) (σ 8), wB E (bd 9) (σ 9)]) (st1 := [.int ((fT_allNeedsByTable β ((lpF (fL_holds_L42 β γ) (0, γ) i42).2) i42).1), .int (fT_allNeedsByGoing β i42)]) [.int (nI i42)] [0, 1, 2, 3, 4, 5, 6, 7, 8, 9, 10, 11, 12, 13] (kT_allNeedsByTable l E ax bo β tr τ ac ((lpF (fL_holds_L42 β γ) (0, γ) i42).2) ah bd η σ at_ θ hv i42 (by omega) (hasT_n hv (by omega))) caX6_allNeedsByTable q3_224 rfl ⟨Nat.le_of_ble_eq_true rfl, Nat.le_of_ble_eq_true rfl⟩ ⟨Nat.zero_le _, Nat.zero_le _⟩ 0 0 rfl rfl rfl rfl (by decide) rfl rfl rfl rfl (Nat.le_of_ble_eq_true rfl) dL_holds_209 rfl ?_
                              refine g_icmp_ne C 243 dL_holds_212 (by decide) (fun c_128 => ?_) (fun c_128 => ?_)
                              · exact absurd (going_table hI (by omega)) c_128
                              · skip
                                refine g_aload_n C dL_holds_215 rfl 1 rfl ?_
                                refine g_iload C dL_holds_216 4 rfl ?_
                                refine g_callV C (cs1 := [wX ax (bo 0) (tr 0) (ac 0) (ah 0) (at_ 0), wB E bo β, wB E tr τ, wC E ac ((fT_allNeedsByTable β ((lpF (fL_holds_L42 β γ) (0, γ) i42).2) i42).2), wH E ah bd η, wT E at_ θ, wB E (bd 2) (σ 2), wB E (bd 3) (σ 3), wB E (bd 4) (σ 4), wB E (bd 5) (σ 5), wB E (bd 6) (σ 6), wB E (bd 7) (σ 7), wB E (bd 8) (σ 8), wB E (bd 9) (σ 9)]) (st1 := [.int (fT_allNeedsByGoing β i42)]) [.int (nI i42)] [0, 1, 2, 3, 4, 5, 6, 7, 8, 9, 10, 11, 12, 13] (kT_allNeedsByGoing l E ax bo β tr τ ac ((fT_allNeedsByTable β ((lpF (fL_holds_L42 β γ) (0, γ) i42).2) i42).2) ah bd η σ at_ θ hv i42 (by omega) (hasT_n hv (by omega))) caX6_allNeedsByGoing q3_219 rfl ⟨Nat.le_of_ble_eq_true rfl, Nat.le_of_ble_eq_true rfl⟩ ⟨Nat.zero_le _, Nat.zero_le _⟩ 0 0 rfl rfl rfl rfl (by decide) rfl rfl rfl rfl (Nat.le_of_ble_eq_true rfl) dL_holds_218 rfl ?_
                                refine g_aload_n C dL_holds_221 rfl 1 rfl ?_
                                refine g_iload C dL_holds_222 4 rfl ?_
                                refine g_callV C (cs1 := [wX ax (bo 0) (tr 0) (ac 0) (ah 0) (at_ 0), wB E bo β, wB E tr τ, wC E ac ((fT_allNeedsByTable β ((lpF (fL_holds_L42 β γ) (0, γ) i42).2) i42).2), wH E ah bd η, wT E at_ θ, wB E (bd 2) (σ 2), wB E (bd 3) (σ 3), wB E (bd 4) (σ 4), wB E (bd 5) (σ 5), wB E (bd 6) (σ 6), wB E (bd 7) (σ 7), wB E (bd 8) (σ 8), wB E (bd 9) (σ 9)]) (st1 := [.int (fT_needsOf β i42), .int (fT_allNeedsByGoing β i42)]) [.int (nI i42)] [0, 1, 2, 3, 4, 5, 6, 7, 8, 9, 10, 11, 12, 13] (kT_needsOf l E ax bo β tr τ ac ((fT_allNeedsByTable β ((lpF (fL_holds_L42 β γ) (0, γ) i42).2) i42).2) ah bd η σ at_ θ hv i42 (by omega) (hasT_n hv (by omega))) caX6_needsOf q2_233 rfl ⟨Nat.le_of_ble_eq_true rfl, Nat.le_of_ble_eq_true rfl⟩ ⟨Nat.zero_le _, Nat.zero_le _⟩ 0 0 rfl rfl rfl rfl (by decide) rfl rfl rfl rfl (Nat.le_of_ble_eq_true rfl) dL_holds_224 rfl ?_
                                refine g_icmp_lt C 243 dL_holds_227 (by decide) (fun c_129 => ?_) (fun c_129 => ?_)
                                · exact absurd c_129 (needs_going hI (by omega))
                                · skip
                                  refine g_aload_n C dL_holds_230 rfl 1 rfl ?_
                                  refine g_iload C dL_holds_231 4 rfl ?_
                                  refine g_callV C (cs1 := [wX ax (bo 0) (tr 0) (ac 0) (ah 0) (at_ 0), wB E bo β, wB E tr τ, wC E ac ((fT_allNeedsByTable β ((lpF (fL_holds_L42 β γ) (0, γ) i42).2) i42).2), wH E ah bd η, wT E at_ θ, wB E (bd 2) (σ 2), wB E (bd 3) (σ 3), wB E (bd 4) (σ 4), wB E (bd 5) (σ 5), wB E (bd 6) (σ 6), wB E (bd 7) (σ 7), wB E (bd 8) (σ 8), wB E (bd 9) (σ 9)]) (st1 := [.int (fT_chainOf β i42)]) [.int (nI i42)] [0, 1, 2, 3, 4, 5, 6, 7, 8, 9, 10, 11, 12, 13] (kT_chainOf l E ax bo β tr τ ac ((fT_allNeedsByTable β ((lpF (fL_holds_L42 β γ) (0, γ) i42).2) i42).2) ah bd η σ at_ θ hv i42 (by omega) (hasT_n hv (by omega))) caX6_chainOf q3_3 rfl ⟨Nat.le_of_ble_eq_true rfl, Nat.le_of_ble_eq_true rfl⟩ ⟨Nat.zero_le _, Nat.zero_le _⟩ 0 0 rfl rfl rfl rfl (by decide) rfl rfl rfl rfl (Nat.le_of_ble_eq_true rfl) dL_holds_233 rfl ?_
                                  refine g_iload C dL_holds_236 5 rfl ?_
                                  refine g_iconst C (v := 1) dL_holds_238 (by decide) ?_
                                  refine g_iadd C dL_holds_239 ?_
                                  refine g_icmp_eq C 245 dL_holds_240 (by decide) (fun c_130 => ?_) (fun c_130 => ?_)
                                  · skip
                                    refine g_iinc C (v := nI (i42 + 1)) (lv1 := [(4, .int (nI (i42 + 1))), (3, .int (((lpF (fL_holds_L42 β γ) (0, γ) i42).1) + 0)), (0, .ref ax), (1, .int ((lpF (fL_holds_L9 β γ) (0, 0) 5).1)), (2, .int ((lpF (fL_holds_L9 β γ) (0, 0) 5).2)), (5, .int (lpF (fL_holds_L57 β γ i42 (lpF (fL_holds_L42 β γ) (0, γ) i42)) 0 (cnt β))), (6, .int (nI (cnt β)))]) dL_holds_245 4 rfl (nI_1 i42) (by decide) rfl ?_
                                    refine g_goto C 42 dL_holds_248 (by decide) ?_
                                    have e_131 : (lpF (fL_holds_L42 β γ) (0, γ) (i42 + 1)) = (((lpF (fL_holds_L42 β γ) (0, γ) i42).1) + 0, (fT_allNeedsByTable β ((lpF (fL_holds_L42 β γ) (0, γ) i42).2) i42).2) := by
                                      rw [lpF_1, fL_holds_L42]; rw [if_neg c_95, if_neg (ne_true_of_eq_false c_124), if_pos c_126]
                                    have h_132 := ih_9 (i42 + 1) (by omega)
                                    rw [e_131] at h_132
                                    exact g_sub [2, 3, 4, 1, 0] rfl h_132
                                  · exact absurd (chain_deep hI (by omega) (fun u x => rfl)) c_130
                          · skip
                            have hb9 := c_126
                            refine g_iconst C (v := 1) dL_holds_192 (by decide) ?_
                            refine g_goto C 197 dL_holds_193 (by decide) ?_
                            refine g_icmp_ne C 243 dL_holds_197 (by decide) (fun c_133 => ?_) (fun c_133 => ?_)
                            · exact absurd (blk_1 hI (by omega) hb9) c_133
                            · skip
                              refine g_aload_n C dL_holds_200 rfl 1 rfl ?_
                              refine g_iload C dL_holds_201 4 rfl ?_
                              refine g_callV C (cs1 := [wX ax (bo 0) (tr 0) (ac 0) (ah 0) (at_ 0), wB E bo β, wB E tr τ, wC E ac ((lpF (fL_holds_L42 β γ) (0, γ) i42).2), wH E ah bd η, wT E at_ θ, wB E (bd 2) (σ 2), wB E (bd 3) (σ 3), wB E (bd 4) (σ 4), wB E (bd 5) (σ 5), wB E (bd 6) (σ 6), wB E (bd 7) (σ 7), wB E (bd 8) (σ 8), wB E (bd 9) (σ 9)]) (st1 := [.int (fT_allNeedsByGoing β i42)]) [.int (nI i42)] [0, 1, 2, 3, 4, 5, 6, 7, 8, 9, 10, 11, 12, 13] (kT_allNeedsByGoing l E ax bo β tr τ ac ((lpF (fL_holds_L42 β γ) (0, γ) i42).2) ah bd η σ at_ θ hv i42 (by omega) (hasT_n hv (by omega))) caX6_allNeedsByGoing q3_219 rfl ⟨Nat.le_of_ble_eq_true rfl, Nat.le_of_ble_eq_true rfl⟩ ⟨Nat.zero_le _, Nat.zero_le _⟩ 0 0 rfl rfl rfl rfl (by decide) rfl rfl rfl rfl (Nat.le_of_ble_eq_true rfl) dL_holds_203 rfl ?_
                              refine g_aload_n C dL_holds_206 rfl 1 rfl ?_
                              refine g_iload C dL_holds_207 4 rfl ?_
                              refine g_callV C (cs1 := [wX ax (bo 0) (tr 0) (ac 0) (ah 0) (at_ 0), wB E bo β, wB E tr τ, wC E ac ((fT_allNeedsByTable β ((lpF (fL_holds_L42 β γ) (0, γ) i42).2) i42).2), wH E ah bd η, wT E at_ θ, wB E (bd 2) (σ 2), wB E (bd 3) (σ 3), wB E (bd 4) (σ 4), wB E (bd 5) (σ 5), wB E (bd 6) (σ 6), wB E (bd 7) (σ 7), wB E (bd 8) (σ 8), wB E (bd 9) (σ 9)]) (st1 := [.int ((fT_allNeedsByTable β ((lpF (fL_holds_L42 β γ) (0, γ) i42).2) i42).1), .int (fT_allNeedsByGoing β i42)]) [.int (nI i42)] [0, 1, 2, 3, 4, 5, 6, 7, 8, 9, 10, 11, 12, 13] (kT_allNeedsByTable l E ax bo β tr τ ac ((lpF (fL_holds_L42 β γ) (0, γ) i42).2) ah bd η σ at_ θ hv i42 (by omega) (hasT_n hv (by omega))) caX6_allNeedsByTable q3_224 rfl ⟨Nat.le_of_ble_eq_true rfl, Nat.le_of_ble_eq_true rfl⟩ ⟨Nat.zero_le _, Nat.zero_le _⟩ 0 0 rfl rfl rfl rfl (by decide) rfl rfl rfl rfl (Nat.le_of_ble_eq_true rfl) dL_holds_209 rfl ?_
                              refine g_icmp_ne C 243 dL_holds_212 (by decide) (fun c_134 => ?_) (fun c_134 => ?_)
                              · exact absurd (going_table hI (by omega)) c_134
                              · skip
                                refine g_aload_n C dL_holds_215 rfl 1 rfl ?_
                                refine g_iload C dL_holds_216 4 rfl ?_
                                refine g_callV C (cs1 := [wX ax (bo 0) (tr 0) (ac 0) (ah 0) (at_ 0), wB E bo β, wB E tr τ, wC E ac ((fT_allNeedsByTable β ((lpF (fL_holds_L42 β γ) (0, γ) i42).2) i42).2), wH E ah bd η, wT E at_ θ, wB E (bd 2) (σ 2), wB E (bd 3) (σ 3), wB E (bd 4) (σ 4), wB E (bd 5) (σ 5), wB E (bd 6) (σ 6), wB E (bd 7) (σ 7), wB E (bd 8) (σ 8), wB E (bd 9) (σ 9)]) (st1 := [.int (fT_allNeedsByGoing β i42)]) [.int (nI i42)] [0, 1, 2, 3, 4, 5, 6, 7, 8, 9, 10, 11, 12, 13] (kT_allNeedsByGoing l E ax bo β tr τ ac ((fT_allNeedsByTable β ((lpF (fL_holds_L42 β γ) (0, γ) i42).2) i42).2) ah bd η σ at_ θ hv i42 (by omega) (hasT_n hv (by omega))) caX6_allNeedsByGoing q3_219 rfl ⟨Nat.le_of_ble_eq_true rfl, Nat.le_of_ble_eq_true rfl⟩ ⟨Nat.zero_le _, Nat.zero_le _⟩ 0 0 rfl rfl rfl rfl (by decide) rfl rfl rfl rfl (Nat.le_of_ble_eq_true rfl) dL_holds_218 rfl ?_
                                refine g_aload_n C dL_holds_221 rfl 1 rfl ?_
                                refine g_iload C dL_holds_222 4 rfl ?_
                                refine g_callV C (cs1 := [wX ax (bo 0) (tr 0) (ac 0) (ah 0) (at_ 0), wB E bo β, wB E tr τ, wC E ac ((fT_allNeedsByTable β ((lpF (fL_holds_L42 β γ) (0, γ) i42).2) i42).2), wH E ah bd η, wT E at_ θ, wB E (bd 2) (σ 2), wB E (bd 3) (σ 3), wB E (bd 4) (σ 4), wB E (bd 5) (σ 5), wB E (bd 6) (σ 6), wB E (bd 7) (σ 7), wB E (bd 8) (σ 8), wB E (bd 9) (σ 9)]) (st1 := [.int (fT_needsOf β i42), .int (fT_allNeedsByGoing β i42)]) [.int (nI i42)] [0, 1, 2, 3, 4, 5, 6, 7, 8, 9, 10, 11, 12, 13] (kT_needsOf l E ax bo β tr τ ac ((fT_allNeedsByTable β ((lpF (fL_holds_L42 β γ) (0, γ) i42).2) i42).2) ah bd η σ at_ θ hv i42 (by omega) (hasT_n hv (by omega))) caX6_needsOf q2_233 rfl ⟨Nat.le_of_ble_eq_true rfl, Nat.le_of_ble_eq_true rfl⟩ ⟨Nat.zero_le _, Nat.zero_le _⟩ 0 0 rfl rfl rfl rfl (by decide) rfl rfl rfl rfl (Nat.le_of_ble_eq_true rfl) dL_holds_224 rfl ?_
                                refine g_icmp_lt C 243 dL_holds_227 (by decide) (fun c_135 => ?_) (fun c_135 => ?_)
                                · exact absurd c_135 (needs_going hI (by omega))
                                · skip
                                  refine g_aload_n C dL_holds_230 rfl 1 rfl ?_
                                  refine g_iload C dL_holds_231 4 rfl ?_
                                  refine g_callV C (cs1 := [wX ax (bo 0) (tr 0) (ac 0) (ah 0) (at_ 0), wB E bo β, wB E tr τ, wC E ac ((fT_allNeedsByTable β ((lpF (fL_holds_L42 β γ) (0, γ) i42).2) i42).2), wH E ah bd η, wT E at_ θ, wB E (bd 2) (σ 2), wB E (bd 3) (σ 3), wB E (bd 4) (σ 4), wB E (bd 5) (σ 5), wB E (bd 6) (σ 6), wB E (bd 7) (σ 7), wB E (bd 8) (σ 8), wB E (bd 9) (σ 9)]) (st1 := [.int (fT_chainOf β i42)]) [.int (nI i42)] [0, 1, 2, 3, 4, 5, 6, 7, 8, 9, 10, 11, 12, 13] (kT_chainOf l E ax bo β tr τ ac ((fT_allNeedsByTable β ((lpF (fL_holds_L42 β γ) (0, γ) i42).2) i42).2) ah bd η σ at_ θ hv i42 (by omega) (hasT_n hv (by omega))) caX6_chainOf q3_3 rfl ⟨Nat.le_of_ble_eq_true rfl, Nat.le_of_ble_eq_true rfl⟩ ⟨Nat.zero_le _, Nat.zero_le _⟩ 0 0 rfl rfl rfl rfl (by decide) rfl rfl rfl rfl (Nat.le_of_ble_eq_true rfl) dL_holds_233 rfl ?_
                                  refine g_iload C dL_holds_236 5 rfl ?_
                                  refine g_iconst C (v := 1) dL_holds_238 (by decide) ?_
                                  refine g_iadd C dL_holds_239 ?_
                                  refine g_icmp_eq C 245 dL_holds_240 (by decide) (fun c_136 => ?_) (fun c_136 => ?_)
                                  · skip
                                    refine g_iinc C (v := nI (i42 + 1)) (lv1 := [(4, .int (nI (i42 + 1))), (3, .int (((lpF (fL_holds_L42 β γ) (0, γ) i42).1) + 0)), (0, .ref ax), (1, .int ((lpF (fL_holds_L9 β γ) (0, 0) 5).1)), (2, .int ((lpF (fL_holds_L9 β γ) (0, 0) 5).2)), (5, .int (lpF (fL_holds_L57 β γ i42 (lpF (fL_holds_L42 β γ) (0, γ) i42)) 0 (cnt β))), (6, .int (nI (cnt β)))]) dL_holds_245 4 rfl (nI_1 i42) (by decide) rfl ?_
                                    refine g_goto C 42 dL_holds_248 (by decide) ?_
                                    have e_137 : (lpF (fL_holds_L42 β γ) (0, γ) (i42 + 1)) = (((lpF (fL_holds_L42 β γ) (0, γ) i42).1) + 0, (fT_allNeedsByTable β ((lpF (fL_holds_L42 β γ) (0, γ) i42).2) i42).2) := by
                                      rw [lpF_1, fL_holds_L42]; rw [if_neg c_95, if_neg (ne_true_of_eq_false c_124), if_neg c_126]
                                    have h_138 := ih_9 (i42 + 1) (by omega)
                                    rw [e_137] at h_138
                                    exact g_sub [2, 3, 4, 1, 0] rfl h_138
                                  · exact absurd (chain_deep hI (by omega) (fun u x => rfl)) c_136
                        · exact absurd (by rw [c_125]; decide) c_95
                      · skip
                        refine g_iconst C (v := 1) dL_holds_151 (by decide) ?_
                        refine g_goto C 156 dL_holds_152 (by decide) ?_
                        refine g_iadd C dL_holds_156 ?_
                        refine g_istore_n C (lv1 := [(3, .int (((lpF (fL_holds_L42 β γ) (0, γ) i42).1) + 1)), (0, .ref ax), (1, .int ((lpF (fL_holds_L9 β γ) (0, 0) 5).1)), (2, .int ((lpF (fL_holds_L9 β γ) (0, 0) 5).2)), (4, .int (nI i42)), (5, .int (lpF (fL_holds_L57 β γ i42 (lpF (fL_holds_L42 β γ) (0, γ) i42)) 0 (cnt β))), (6, .int (nI (cnt β)))]) dL_holds_157 rfl (by decide) rfl ?_
                        refine g_aload_n C dL_holds_158 rfl 1 rfl ?_
                        refine g_iload C dL_holds_159 4 rfl ?_
                        refine g_callV C (cs1 := [wX ax (bo 0) (tr 0) (ac 0) (ah 0) (at_ 0), wB E bo β, wB E tr τ, wC E ac ((lpF (fL_holds_L42 β γ) (0, γ) i42).2), wH E ah bd η, wT E at_ θ, wB E (bd 2) (σ 2), wB E (bd 3) (σ 3), wB E (bd 4) (σ 4), wB E (bd 5) (σ 5), wB E (bd 6) (σ 6), wB E (bd 7) (σ 7), wB E (bd 8) (σ 8), wB E (bd 9) (σ 9)]) (st1 := [.int (fT_stateOf β i42)]) [.int (nI i42)] [0, 1, 2, 3, 4, 5, 6, 7, 8, 9, 10, 11, 12, 13] (kT_stateOf l E ax bo β tr τ ac ((lpF (fL_holds_L42 β γ) (0, γ) i42).2) ah bd η σ at_ θ hv i42 (by omega) (hasT_n hv (by omega))) caX6_stateOf q2_193 rfl ⟨Nat.le_of_ble_eq_true rfl, Nat.le_of_ble_eq_true rfl⟩ ⟨Nat.zero_le _, Nat.zero_le _⟩ 0 0 rfl rfl rfl rfl (by decide) rfl rfl rfl rfl (Nat.le_of_ble_eq_true rfl) dL_holds_161 rfl ?_
                        refine g_iconst C (v := 3) dL_holds_164 (by decide) ?_
                        refine g_icmp_ne C 177 dL_holds_165 (by decide) (fun c_139 => ?_) (fun c_139 => ?_)
                        · skip
                          refine g_aload_n C dL_holds_177 rfl 1 rfl ?_
                          refine g_iload C dL_holds_178 4 rfl ?_
                          refine g_callV C (cs1 := [wX ax (bo 0) (tr 0) (ac 0) (ah 0) (at_ 0), wB E bo β, wB E tr τ, wC E ac ((lpF (fL_holds_L42 β γ) (0, γ) i42).2), wH E ah bd η, wT E at_ θ, wB E (bd 2) (σ 2), wB E (bd 3) (σ 3), wB E (bd 4) (σ 4), wB E (bd 5) (σ 5), wB E (bd 6) (σ 6), wB E (bd 7) (σ 7), wB E (bd 8) (σ 8), wB E (bd 9) (σ 9)]) (st1 := [.int (b2i (fT_isBlocked β i42))]) [.int (nI i42)] [0, 1, 2, 3, 4, 5, 6, 7, 8, 9, 10, 11, 12, 13] (kT_isBlocked l E ax bo β tr τ ac ((lpF (fL_holds_L42 β γ) (0, γ) i42).2) ah bd η σ at_ θ hv i42 (by omega) (hasT_n hv (by omega))) caX6_isBlocked q3_180 rfl ⟨Nat.le_of_ble_eq_true rfl, Nat.le_of_ble_eq_true rfl⟩ ⟨Nat.zero_le _, Nat.zero_le _⟩ 0 0 rfl rfl rfl rfl (by decide) rfl rfl rfl rfl (Nat.le_of_ble_eq_true rfl) dL_holds_180 rfl ?_
                          refine g_aload_n C dL_holds_183 rfl 1 rfl ?_
                          refine g_iload C dL_holds_184 4 rfl ?_
                          refine g_callV C (cs1 := [wX ax (bo 0) (tr 0) (ac 0) (ah 0) (at_ 0), wB E bo β, wB E tr τ, wC E ac ((lpF (fL_holds_L42 β γ) (0, γ) i42).2), wH E ah bd η, wT E at_ θ, wB E (bd 2) (σ 2), wB E (bd 3) (σ 3), wB E (bd 4) (σ 4), wB E (bd 5) (σ 5), wB E (bd 6) (σ 6), wB E (bd 7) (σ 7), wB E (bd 8) (σ 8), wB E (bd 9) (σ 9)]) (st1 := [.int (fT_blockersOf β i42), .int (b2i (fT_isBlocked β i42))]) [.int (nI i42)] [0, 1, 2, 3, 4, 5, 6, 7, 8, 9, 10, 11, 12, 13] (kT_blockersOf l E ax bo β tr τ ac ((lpF (fL_holds_L42 β γ) (0, γ) i42).2) ah bd η σ at_ θ hv i42 (by omega) (hasT_n hv (by omega))) caX6_blockersOf q3_215 rfl ⟨Nat.le_of_ble_eq_true rfl, Nat.le_of_ble_eq_true rfl⟩ ⟨Nat.zero_le _, Nat.zero_le _⟩ 0 0 rfl rfl rfl rfl (by decide) rfl rfl rfl rfl (Nat.le_of_ble_eq_true rfl) dL_holds_186 rfl ?_
                          refine g_if_le C 196 dL_holds_189 (by decide) (fun c_140 => ?_) (fun c_140 => ?_)
                          · skip
                            have hb9 := c_140
                            refine g_iconst C (v := 0) dL_holds_196 (by decide) ?_
                            refine g_icmp_ne C 243 dL_holds_197 (by decide) (fun c_141 => ?_) (fun c_141 => ?_)
                            · exact absurd (blk_0 hI (by omega) hb9) c_141
                            · skip
                              refine g_aload_n C dL_holds_200 rfl 1 rfl ?_
                              refine g_iload C dL_holds_201 4 rfl ?_
                              refine g_callV C (cs1 := [wX ax (bo 0) (tr 0) (ac 0) (ah 0) (at_ 0), wB E bo β, wB E tr τ, wC E ac ((lpF (fL_holds_L42 β γ) (0, γ) i42).2), wH E ah bd η, wT E at_ θ, wB E (bd 2) (σ 2), wB E (bd 3) (σ 3), wB E (bd 4) (σ 4), wB E (bd 5) (σ 5), wB E (bd 6) (σ 6), wB E (bd 7) (σ 7), wB E (bd 8) (σ 8), wB E (bd 9) (σ 9)]) (st1 := [.int (fT_allNeedsByGoing β i42)]) [.int (nI i42)] [0, 1, 2, 3, 4, 5, 6, 7, 8, 9, 10, 11, 12, 13] (kT_allNeedsByGoing l E ax bo β tr τ ac ((lpF (fL_holds_L42 β γ) (0, γ) i42).2) ah bd η σ at_ θ hv i42 (by omega) (hasT_n hv (by omega))) caX6_allNeedsByGoing q3_219 rfl ⟨Nat.le_of_ble_eq_true rfl, Nat.le_of_ble_eq_true rfl⟩ ⟨Nat.zero_le _, Nat.zero_le _⟩ 0 0 rfl rfl rfl rfl (by decide) rfl rfl rfl rfl (Nat.le_of_ble_eq_true rfl) dL_holds_203 rfl ?_
                              refine g_aload_n C dL_holds_206 rfl 1 rfl ?_
                              refine g_iload C dL_holds_207 4 rfl ?_
                              refine g_callV C (cs1 := [wX ax (bo 0) (tr 0) (ac 0) (ah 0) (at_ 0), wB E bo β, wB E tr τ, wC E ac ((fT_allNeedsByTable β ((lpF (fL_holds_L42 β γ) (0, γ) i42).2) i42).2), wH E ah bd η, wT E at_ θ, wB E (bd 2) (σ 2), wB E (bd 3) (σ 3), wB E (bd 4) (σ 4), wB E (bd 5) (σ 5), wB E (bd 6) (σ 6), wB E (bd 7) (σ 7), wB E (bd 8) (σ 8), wB E (bd 9) (σ 9)]) (st1 := [.int ((fT_allNeedsByTable β ((lpF (fL_holds_L42 β γ) (0, γ) i42).2) i42).1), .int (fT_allNeedsByGoing β i42)]) [.int (nI i42)] [0, 1, 2, 3, 4, 5, 6, 7, 8, 9, 10, 11, 12, 13] (kT_allNeedsByTable l E ax bo β tr τ ac ((lpF (fL_holds_L42 β γ) (0, γ) i42).2) ah bd η σ at_ θ hv i42 (by omega) (hasT_n hv (by omega))) caX6_allNeedsByTable q3_224 rfl ⟨Nat.le_of_ble_eq_true rfl, Nat.le_of_ble_eq_true rfl⟩ ⟨Nat.zero_le _, Nat.zero_le _⟩ 0 0 rfl rfl rfl rfl (by decide) rfl rfl rfl rfl (Nat.le_of_ble_eq_true rfl) dL_holds_209 rfl ?_
                              refine g_icmp_ne C 243 dL_holds_212 (by decide) (fun c_142 => ?_) (fun c_142 => ?_)
                              · exact absurd (going_table hI (by omega)) c_142
                              · skip
                                refine g_aload_n C dL_holds_215 rfl 1 rfl ?_
                                refine g_iload C dL_holds_216 4 rfl ?_
                                refine g_callV C (cs1 := [wX ax (bo 0) (tr 0) (ac 0) (ah 0) (at_ 0), wB E bo β, wB E tr τ, wC E ac ((fT_allNeedsByTable β ((lpF (fL_holds_L42 β γ) (0, γ) i42).2) i42).2), wH E ah bd η, wT E at_ θ, wB E (bd 2) (σ 2), wB E (bd 3) (σ 3), wB E (bd 4) (σ 4), wB E (bd 5) (σ 5), wB E (bd 6) (σ 6), wB E (bd 7) (σ 7), wB E (bd 8) (σ 8), wB E (bd 9) (σ 9)]) (st1 := [.int (fT_allNeedsByGoing β i42)]) [.int (nI i42)] [0, 1, 2, 3, 4, 5, 6, 7, 8, 9, 10, 11, 12, 13] (kT_allNeedsByGoing l E ax bo β tr τ ac ((fT_allNeedsByTable β ((lpF (fL_holds_L42 β γ) (0, γ) i42).2) i42).2) ah bd η σ at_ θ hv i42 (by omega) (hasT_n hv (by omega))) caX6_allNeedsByGoing q3_219 rfl ⟨Nat.le_of_ble_eq_true rfl, Nat.le_of_ble_eq_true rfl⟩ ⟨Nat.zero_le _, Nat.zero_le _⟩ 0 0 rfl rfl rfl rfl (by decide) rfl rfl rfl rfl (Nat.le_of_ble_eq_true rfl) dL_holds_218 rfl ?_
                                refine g_aload_n C dL_holds_221 rfl 1 rfl ?_
                                refine g_iload C dL_holds_222 4 rfl ?_
                                refine g_callV C (cs1 := [wX ax (bo 0) (tr 0) (ac 0) (ah 0) (at_ 0), wB E bo β, wB E tr τ, wC E ac ((fT_allNeedsByTable β ((lpF (fL_holds_L42 β γ) (0, γ) i42).2) i42).2), wH E ah bd η, wT E at_ θ, wB E (bd 2) (σ 2), wB E (bd 3) (σ 3), wB E (bd 4) (σ 4), wB E (bd 5) (σ 5), wB E (bd 6) (σ 6), wB E (bd 7) (σ 7), wB E (bd 8) (σ 8), wB E (bd 9) (σ 9)]) (st1 := [.int (fT_needsOf β i42), .int (fT_allNeedsByGoing β i42)]) [.int (nI i42)] [0, 1, 2, 3, 4, 5, 6, 7, 8, 9, 10, 11, 12, 13] (kT_needsOf l E ax bo β tr τ ac ((fT_allNeedsByTable β ((lpF (fL_holds_L42 β γ) (0, γ) i42).2) i42).2) ah bd η σ at_ θ hv i42 (by omega) (hasT_n hv (by omega))) caX6_needsOf q2_233 rfl ⟨Nat.le_of_ble_eq_true rfl, Nat.le_of_ble_eq_true rfl⟩ ⟨Nat.zero_le _, Nat.zero_le _⟩ 0 0 rfl rfl rfl rfl (by decide) rfl rfl rfl rfl (Nat.le_of_ble_eq_true rfl) dL_holds_224 rfl ?_
                                refine g_icmp_lt C 243 dL_holds_227 (by decide) (fun c_143 => ?_) (fun c_143 => ?_)
                                · exact absurd c_143 (needs_going hI (by omega))
                                · skip
                                  refine g_aload_n C dL_holds_230 rfl 1 rfl ?_
                                  refine g_iload C dL_holds_231 4 rfl ?_
                                  refine g_callV C (cs1 := [wX ax (bo 0) (tr 0) (ac 0) (ah 0) (at_ 0), wB E bo β, wB E tr τ, wC E ac ((fT_allNeedsByTable β ((lpF (fL_holds_L42 β γ) (0, γ) i42).2) i42).2), wH E ah bd η, wT E at_ θ, wB E (bd 2) (σ 2), wB E (bd 3) (σ 3), wB E (bd 4) (σ 4), wB E (bd 5) (σ 5), wB E (bd 6) (σ 6), wB E (bd 7) (σ 7), wB E (bd 8) (σ 8), wB E (bd 9) (σ 9)]) (st1 := [.int (fT_chainOf β i42)]) [.int (nI i42)] [0, 1, 2, 3, 4, 5, 6, 7, 8, 9, 10, 11, 12, 13] (kT_chainOf l E ax bo β tr τ ac ((fT_allNeedsByTable β ((lpF (fL_holds_L42 β γ) (0, γ) i42).2) i42).2) ah bd η σ at_ θ hv i42 (by omega) (hasT_n hv (by omega))) caX6_chainOf q3_3 rfl ⟨Nat.le_of_ble_eq_true rfl, Nat.le_of_ble_eq_true rfl⟩ ⟨Nat.zero_le _, Nat.zero_le _⟩ 0 0 rfl rfl rfl rfl (by decide) rfl rfl rfl rfl (Nat.le_of_ble_eq_true rfl) dL_holds_233 rfl ?_
                                  refine g_iload C dL_holds_236 5 rfl ?_
                                  refine g_iconst C (v := 1) dL_holds_238 (by decide) ?_
                                  refine g_iadd C dL_holds_239 ?_
                                  refine g_icmp_eq C 245 dL_holds_240 (by decide) (fun c_144 => ?_) (fun c_144 => ?_)
                                  · skip
                                    refine g_iinc C (v := nI (i42 + 1)) (lv1 := [(4, .int (nI (i42 + 1))), (3, .int (((lpF (fL_holds_L42 β γ) (0, γ) i42).1) + 1)), (0, .ref ax), (1, .int ((lpF (fL_holds_L9 β γ) (0, 0) 5).1)), (2, .int ((lpF (fL_holds_L9 β γ) (0, 0) 5).2)), (5, .int (lpF (fL_holds_L57 β γ i42 (lpF (fL_holds_L42 β γ) (0, γ) i42)) 0 (cnt β))), (6, .int (nI (cnt β)))]) dL_holds_245 4 rfl (nI_1 i42) (by decide) rfl ?_
                                    refine g_goto C 42 dL_holds_248 (by decide) ?_
                                    have e_145 : (lpF (fL_holds_L42 β γ) (0, γ) (i42 + 1)) = (((lpF (fL_holds_L42 β γ) (0, γ) i42).1) + 1, (fT_allNeedsByTable β ((lpF (fL_holds_L42 β γ) (0, γ) i42).2) i42).2) := by
                                      rw [lpF_1, fL_holds_L42]; rw [if_neg c_95, if_pos c_124, if_pos c_140]
                                    have h_146 := ih_9 (i42 + 1) (by omega)
                                    rw [e_145] at h_146
                                    exact g_sub [2, 3, 4, 1, 0] rfl h_146
                                  · exact absurd (chain_deep hI (by omega) (fun u x => rfl)) c_144
                          · skip
                            have hb9 := c_140
                            refine g_iconst C (v := 1) dL_holds_192 (by decide) ?_
                            refine g_goto C 197 dL_holds_193 (by decide) ?_
                            refine g_icmp_ne C 243 dL_holds_197 (by decide) (fun c_147 => ?_) (fun c_147 => ?_)
                            · exact absurd (blk_1 hI (by omega) hb9) c_147
                            · skip
                              refine g_aload_n C dL_holds_200 rfl 1 rfl ?_
                              refine g_iload C dL_holds_201 4 rfl ?_
                              refine g_callV C (cs1 := [wX ax (bo 0) (tr 0) (ac 0) (ah 0) (at_ 0), wB E bo β, wB E tr τ, wC E ac ((lpF (fL_holds_L42 β γ) (0, γ) i42).2), wH E ah bd η, wT E at_ θ, wB E (bd 2) (σ 2), wB E (bd 3) (σ 3), wB E (bd 4) (σ 4), wB E (bd 5) (σ 5), wB E (bd 6) (σ 6), wB E (bd 7) (σ 7), wB E (bd 8) (σ 8), wB E (bd 9) (σ 9)]) (st1 := [.int (fT_allNeedsByGoing β i42)]) [.int (nI i42)] [0, 1, 2, 3, 4, 5, 6, 7, 8, 9, 10, 11, 12, 13] (kT_allNeedsByGoing l E ax bo β tr τ ac ((lpF (fL_holds_L42 β γ) (0, γ) i42).2) ah bd η σ at_ θ hv i42 (by omega) (hasT_n hv (by omega))) caX6_allNeedsByGoing q3_219 rfl ⟨Nat.le_of_ble_eq_true rfl, Nat.le_of_ble_eq_true rfl⟩ ⟨Nat.zero_le _, Nat.zero_le _⟩ 0 0 rfl rfl rfl rfl (by decide) rfl rfl rfl rfl (Nat.le_of_ble_eq_true rfl) dL_holds_203 rfl ?_
                              refine g_aload_n C dL_holds_206 rfl 1 rfl ?_
                              refine g_iload C dL_holds_207 4 rfl ?_
                              refine g_callV C (cs1 := [wX ax (bo 0) (tr 0) (ac 0) (ah 0) (at_ 0), wB E bo β, wB E tr τ, wC E ac ((fT_allNeedsByTable β ((lpF (fL_holds_L42 β γ) (0, γ) i42).2) i42).2), wH E ah bd η, wT E at_ θ, wB E (bd 2) (σ 2), wB E (bd 3) (σ 3), wB E (bd 4) (σ 4), wB E (bd 5) (σ 5), wB E (bd 6) (σ 6), wB E (bd 7) (σ 7), wB E (bd 8) (σ 8), wB E (bd 9) (σ 9)]) (st1 := [.int ((fT_allNeedsByTable β ((lpF (fL_holds_L42 β γ) (0, γ) i42).2) i42).1), .int (fT_allNeedsByGoing β i42)]) [.int (nI i42)] [0, 1, 2, 3, 4, 5, 6, 7, 8, 9, 10, 11, 12, 13] (kT_allNeedsByTable l E ax bo β tr τ ac ((lpF (fL_holds_L42 β γ) (0, γ) i42).2) ah bd η σ at_ θ hv i42 (by omega) (hasT_n hv (by omega))) caX6_allNeedsByTable q3_224 rfl ⟨Nat.le_of_ble_eq_true rfl, Nat.le_of_ble_eq_true rfl⟩ ⟨Nat.zero_le _, Nat.zero_le _⟩ 0 0 rfl rfl rfl rfl (by decide) rfl rfl rfl rfl (Nat.le_of_ble_eq_true rfl) dL_holds_209 rfl ?_
                              refine g_icmp_ne C 243 dL_holds_212 (by decide) (fun c_148 => ?_) (fun c_148 => ?_)
                              · exact absurd (going_table hI (by omega)) c_148
                              · skip
                                refine g_aload_n C dL_holds_215 rfl 1 rfl ?_
                                refine g_iload C dL_holds_216 4 rfl ?_
                                refine g_callV C (cs1 := [wX ax (bo 0) (tr 0) (ac 0) (ah 0) (at_ 0), wB E bo β, wB E tr τ, wC E ac ((fT_allNeedsByTable β ((lpF (fL_holds_L42 β γ) (0, γ) i42).2) i42).2), wH E ah bd η, wT E at_ θ, wB E (bd 2) (σ 2), wB E (bd 3) (σ 3), wB E (bd 4) (σ 4), wB E (bd 5) (σ 5), wB E (bd 6) (σ 6), wB E (bd 7) (σ 7), wB E (bd 8) (σ 8), wB E (bd 9) (σ 9)]) (st1 := [.int (fT_allNeedsByGoing β i42)]) [.int (nI i42)] [0, 1, 2, 3, 4, 5, 6, 7, 8, 9, 10, 11, 12, 13] (kT_allNeedsByGoing l E ax bo β tr τ ac ((fT_allNeedsByTable β ((lpF (fL_holds_L42 β γ) (0, γ) i42).2) i42).2) ah bd η σ at_ θ hv i42 (by omega) (hasT_n hv (by omega))) caX6_allNeedsByGoing q3_219 rfl ⟨Nat.le_of_ble_eq_true rfl, Nat.le_of_ble_eq_true rfl⟩ ⟨Nat.zero_le _, Nat.zero_le _⟩ 0 0 rfl rfl rfl rfl (by decide) rfl rfl rfl rfl (Nat.le_of_ble_eq_true rfl) dL_holds_218 rfl ?_
                                refine g_aload_n C dL_holds_221 rfl 1 rfl ?_
                                refine g_iload C dL_holds_222 4 rfl ?_
                                refine g_callV C (cs1 := [wX ax (bo 0) (tr 0) (ac 0) (ah 0) (at_ 0), wB E bo β, wB E tr τ, wC E ac ((fT_allNeedsByTable β ((lpF (fL_holds_L42 β γ) (0, γ) i42).2) i42).2), wH E ah bd η, wT E at_ θ, wB E (bd 2) (σ 2), wB E (bd 3) (σ 3), wB E (bd 4) (σ 4), wB E (bd 5) (σ 5), wB E (bd 6) (σ 6), wB E (bd 7) (σ 7), wB E (bd 8) (σ 8), wB E (bd 9) (σ 9)]) (st1 := [.int (fT_needsOf β i42), .int (fT_allNeedsByGoing β i42)]) [.int (nI i42)] [0, 1, 2, 3, 4, 5, 6, 7, 8, 9, 10, 11, 12, 13] (kT_needsOf l E ax bo β tr τ ac ((fT_allNeedsByTable β ((lpF (fL_holds_L42 β γ) (0, γ) i42).2) i42).2) ah bd η σ at_ θ hv i42 (by omega) (hasT_n hv (by omega))) caX6_needsOf q2_233 rfl ⟨Nat.le_of_ble_eq_true rfl, Nat.le_of_ble_eq_true rfl⟩ ⟨Nat.zero_le _, Nat.zero_le _⟩ 0 0 rfl rfl rfl rfl (by decide) rfl rfl rfl rfl (Nat.le_of_ble_eq_true rfl) dL_holds_224 rfl ?_
                                refine g_icmp_lt C 243 dL_holds_227 (by decide) (fun c_149 => ?_) (fun c_149 => ?_)
                                · exact absurd c_149 (needs_going hI (by omega))
                                · skip
                                  refine g_aload_n C dL_holds_230 rfl 1 rfl ?_
                                  refine g_iload C dL_holds_231 4 rfl ?_
                                  refine g_callV C (cs1 := [wX ax (bo 0) (tr 0) (ac 0) (ah 0) (at_ 0), wB E bo β, wB E tr τ, wC E ac ((fT_allNeedsByTable β ((lpF (fL_holds_L42 β γ) (0, γ) i42).2) i42).2), wH E ah bd η, wT E at_ θ, wB E (bd 2) (σ 2), wB E (bd 3) (σ 3), wB E (bd 4) (σ 4), wB E (bd 5) (σ 5), wB E (bd 6) (σ 6), wB E (bd 7) (σ 7), wB E (bd 8) (σ 8), wB E (bd 9) (σ 9)]) (st1 := [.int (fT_chainOf β i42)]) [.int (nI i42)] [0, 1, 2, 3, 4, 5, 6, 7, 8, 9, 10, 11, 12, 13] (kT_chainOf l E ax bo β tr τ ac ((fT_allNeedsByTable β ((lpF (fL_holds_L42 β γ) (0, γ) i42).2) i42).2) ah bd η σ at_ θ hv i42 (by omega) (hasT_n hv (by omega))) caX6_chainOf q3_3 rfl ⟨Nat.le_of_ble_eq_true rfl, Nat.le_of_ble_eq_true rfl⟩ ⟨Nat.zero_le _, Nat.zero_le _⟩ 0 0 rfl rfl rfl rfl (by decide) rfl rfl rfl rfl (Nat.le_of_ble_eq_true rfl) dL_holds_233 rfl ?_
                                  refine g_iload C dL_holds_236 5 rfl ?_
                                  refine g_iconst C (v := 1) dL_holds_238 (by decide) ?_
                                  refine g_iadd C dL_holds_239 ?_
                                  refine g_icmp_eq C 245 dL_holds_240 (by decide) (fun c_150 => ?_) (fun c_150 => ?_)
                                  · skip
                                    refine g_iinc C (v := nI (i42 + 1)) (lv1 := [(4, .int (nI (i42 + 1))), (3, .int (((lpF (fL_holds_L42 β γ) (0, γ) i42).1) + 1)), (0, .ref ax), (1, .int ((lpF (fL_holds_L9 β γ) (0, 0) 5).1)), (2, .int ((lpF (fL_holds_L9 β γ) (0, 0) 5).2)), (5, .int (lpF (fL_holds_L57 β γ i42 (lpF (fL_holds_L42 β γ) (0, γ) i42)) 0 (cnt β))), (6, .int (nI (cnt β)))]) dL_holds_245 4 rfl (nI_1 i42) (by decide) rfl ?_
                                    refine g_goto C 42 dL_holds_248 (by decide) ?_
                                    have e_151 : (lpF (fL_holds_L42 β γ) (0, γ) (i42 + 1)) = (((lpF (fL_holds_L42 β γ) (0, γ) i42).1) + 1, (fT_allNeedsByTable β ((lpF (fL_holds_L42 β γ) (0, γ) i42).2) i42).2) := by
                                      rw [lpF_1, fL_holds_L42]; rw [if_neg c_95, if_pos c_124, if_neg c_140]
                                    have h_152 := ih_9 (i42 + 1) (by omega)
                                    rw [e_151] at h_152
                                    exact g_sub [2, 3, 4, 1, 0] rfl h_152
                                  · exact absurd (chain_deep hI (by omega) (fun u x => rfl)) c_150
                        · exact absurd (by rw [c_139]; decide) c_95
                  · exact absurd (lc_le rfl hv.2.1 (by omega) (by omega)) c_94
                | succ d_90 ih_93 =>
                  intro i57 hi_91
                  refine g_iload C dL_holds_57 6 rfl ?_
                  refine g_aload_n C dL_holds_59 rfl 0 rfl ?_
                  refine g_callV C (cs1 := [wX ax (bo 0) (tr 0) (ac 0) (ah 0) (at_ 0), wB E bo β, wB E tr τ, wC E ac ((lpF (fL_holds_L42 β γ) (0, γ) i42).2), wH E ah bd η, wT E at_ θ, wB E (bd 2) (σ 2), wB E (bd 3) (σ 3), wB E (bd 4) (σ 4), wB E (bd 5) (σ 5), wB E (bd 6) (σ 6), wB E (bd 7) (σ 7), wB E (bd 8) (σ 8), wB E (bd 9) (σ 9)]) (st1 := [.int (fT_tickets β), .int (nI i57)]) [] [0, 1, 2, 3, 4, 5, 6, 7, 8, 9, 10, 11, 12, 13] (kT_tickets l E ax bo β tr τ ac ((lpF (fL_holds_L42 β γ) (0, γ) i42).2) ah bd η σ at_ θ) caX6_tickets q2_55 rfl ⟨Nat.le_of_ble_eq_true rfl, Nat.le_of_ble_eq_true rfl⟩ ⟨Nat.zero_le _, Nat.zero_le _⟩ 0 0 rfl rfl rfl rfl (by decide) rfl rfl rfl rfl (Nat.le_of_ble_eq_true rfl) dL_holds_60 rfl ?_
                  refine g_icmp_ge C 131 dL_holds_63 (by decide) (fun c_153 => ?_) (fun c_153 => ?_)
                  · exact absurd c_153 (lc_nle rfl hv.2.1 (by omega) (by omega))
                  · skip
                    refine g_aload_n C dL_holds_66 rfl 0 rfl ?_
                    refine g_iload C dL_holds_67 4 rfl ?_
                    refine g_iload C dL_holds_69 6 rfl ?_
                    refine g_callV C (cs1 := [wX ax (bo 0) (tr 0) (ac 0) (ah 0) (at_ 0), wB E bo β, wB E tr τ, wC E ac ((lpF (fL_holds_L42 β γ) (0, γ) i42).2), wH E ah bd η, wT E at_ θ, wB E (bd 2) (σ 2), wB E (bd 3) (σ 3), wB E (bd 4) (σ 4), wB E (bd 5) (σ 5), wB E (bd 6) (σ 6), wB E (bd 7) (σ 7), wB E (bd 8) (σ 8), wB E (bd 9) (σ 9)]) (st1 := [.int (b2i (fT_needs β i42 i57))]) [.int (nI i42), .int (nI i57)] [0, 1, 2, 3, 4, 5, 6, 7, 8, 9, 10, 11, 12, 13] (kT_needs l E ax bo β tr τ ac ((lpF (fL_holds_L42 β γ) (0, γ) i42).2) ah bd η σ at_ θ hv i42 (by omega) i57 (by omega) (hasT_n hv (by omega)) (hasT_n hv (by omega))) caX6_needs q3_65 rfl ⟨Nat.le_of_ble_eq_true rfl, Nat.le_of_ble_eq_true rfl⟩ ⟨Nat.zero_le _, Nat.zero_le _⟩ 0 0 rfl rfl rfl rfl (by decide) rfl rfl rfl rfl (Nat.le_of_ble_eq_true rfl) dL_holds_71 rfl ?_
                    refine g_ifB_eq C 97 dL_holds_74 (by decide) (fun c_154 => ?_) (fun c_154 => ?_)
                    · skip
                      refine g_iload C dL_holds_97 5 rfl ?_
                      refine g_istore C (lv1 := [(5, .int (lpF (fL_holds_L57 β γ i42 (lpF (fL_holds_L42 β γ) (0, γ) i42)) 0 i57)), (0, .ref ax), (1, .int ((lpF (fL_holds_L9 β γ) (0, 0) 5).1)), (2, .int ((lpF (fL_holds_L9 β γ) (0, 0) 5).2)), (3, .int ((lpF (fL_holds_L42 β γ) (0, γ) i42).1)), (4, .int (nI i42)), (6, .int (nI i57))]) dL_holds_99 (by decide) rfl ?_
                      refine g_aload_n C dL_holds_101 rfl 1 rfl ?_
                      refine g_iload C dL_holds_102 5 rfl ?_
                      refine g_iload C dL_holds_104 6 rfl ?_
                      refine g_callV C (cs1 := [wX ax (bo 0) (tr 0) (ac 0) (ah 0) (at_ 0), wB E bo β, wB E tr τ, wC E ac ((lpF (fL_holds_L42 β γ) (0, γ) i42).2), wH E ah bd η, wT E at_ θ, wB E (bd 2) (σ 2), wB E (bd 3) (σ 3), wB E (bd 4) (σ 4), wB E (bd 5) (σ 5), wB E (bd 6) (σ 6), wB E (bd 7) (σ 7), wB E (bd 8) (σ 8), wB E (bd 9) (σ 9)]) (st1 := [.int (b2i (fT_needs β i42 i57))]) [.int (nI i42), .int (nI i57)] [0, 1, 2, 3, 4, 5, 6, 7, 8, 9, 10, 11, 12, 13] (kT_needs l E ax bo β tr τ ac ((lpF (fL_holds_L42 β γ) (0, γ) i42).2) ah bd η σ at_ θ hv i42 (by omega) i57 (by omega) (hasT_n hv (by omega)) (hasT_n hv (by omega))) caX6_needs q3_65 rfl ⟨Nat.le_of_ble_eq_true rfl, Nat.le_of_ble_eq_true rfl⟩ ⟨Nat.zero_le _, Nat.zero_le _⟩ 0 0 rfl rfl rfl rfl (by decide) rfl rfl rfl rfl (Nat.le_of_ble_eq_true rfl) dL_holds_106 rfl ?_
                      refine g_ifB_eq C 125 dL_holds_109 (by decide) (fun c_155 => ?_) (fun c_155 => ?_)
                      · skip
                        refine g_iinc C (v := nI (i57 + 1)) (lv1 := [(6, .int (nI (i57 + 1))), (5, .int (lpF (fL_holds_L57 β γ i42 (lpF (fL_holds_L42 β γ) (0, γ) i42)) 0 i57)), (0, .ref ax), (1, .int ((lpF (fL_holds_L9 β γ) (0, 0) 5).1)), (2, .int ((lpF (fL_holds_L9 β γ) (0, 0) 5).2)), (3, .int ((lpF (fL_holds_L42 β γ) (0, γ) i42).1)), (4, .int (nI i42))]) dL_holds_125 6 rfl (nI_1 i57) (by decide) rfl ?_
                        refine g_goto C 57 dL_holds_128 (by decide) ?_
                        have e_156 : (lpF (fL_holds_L57 β γ i42 (lpF (fL_holds_L42 β γ) (0, γ) i42)) 0 (i57 + 1)) = (lpF (fL_holds_L57 β γ i42 (lpF (fL_holds_L42 β γ) (0, γ) i42)) 0 i57) := by
                          rw [lpF_1, fL_holds_L57]; rw [if_neg (ne_true_of_eq_false c_154)]
                        have h_157 := ih_93 (i57 + 1) (by omega)
                        rw [e_156] at h_157
                        exact g_sub [2, 3, 4, 5, 6, 1, 0] rfl h_157
                      · exact absurd (c_154.symm.trans c_155) (by decide)
                    · skip
                      have hm9 := c_154
                      refine g_aload_n C dL_holds_77 rfl 0 rfl ?_
                      refine g_iload C dL_holds_78 6 rfl ?_
                      refine g_callV C (cs1 := [wX ax (bo 0) (tr 0) (ac 0) (ah 0) (at_ 0), wB E bo β, wB E tr τ, wC E ac ((lpF (fL_holds_L42 β γ) (0, γ) i42).2), wH E ah bd η, wT E at_ θ, wB E (bd 2) (σ 2), wB E (bd 3) (σ 3), wB E (bd 4) (σ 4), wB E (bd 5) (σ 5), wB E (bd 6) (σ 6), wB E (bd 7) (σ 7), wB E (bd 8) (σ 8), wB E (bd 9) (σ 9)]) (st1 := [.int (fT_chainOf β i57)]) [.int (nI i57)] [0, 1, 2, 3, 4, 5, 6, 7, 8, 9, 10, 11, 12, 13] (kT_chainOf l E ax bo β tr τ ac ((lpF (fL_holds_L42 β γ) (0, γ) i42).2) ah bd η σ at_ θ hv i57 (by omega) (hasT_n hv (by omega))) caX6_chainOf q3_3 rfl ⟨Nat.le_of_ble_eq_true rfl, Nat.le_of_ble_eq_true rfl⟩ ⟨Nat.zero_le _, Nat.zero_le _⟩ 0 0 rfl rfl rfl rfl (by decide) rfl rfl rfl rfl (Nat.le_of_ble_eq_true rfl) dL_holds_80 rfl ?_
                      refine g_iload C dL_holds_83 5 rfl ?_
                      refine g_icmp_le C 97 dL_holds_85 (by decide) (fun c_158 => ?_) (fun c_158 => ?_)
                      · skip
                        refine g_iload C dL_holds_97 5 rfl ?_
                        refine g_istore C (lv1 := [(5, .int (lpF (fL_holds_L57 β γ i42 (lpF (fL_holds_L42 β γ) (0, γ) i42)) 0 i57)), (0, .ref ax), (1, .int ((lpF (fL_holds_L9 β γ) (0, 0) 5).1)), (2, .int ((lpF (fL_holds_L9 β γ) (0, 0) 5).2)), (3, .int ((lpF (fL_holds_L42 β γ) (0, γ) i42).1)), (4, .int (nI i42)), (6, .int (nI i57))]) dL_holds_99 (by decide) rfl ?_
                        refine g_aload_n C dL_holds_101 rfl 1 rfl ?_
                        refine g_iload C dL_holds_102 5 rfl ?_
                        refine g_iload C dL_holds_104 6 rfl ?_
                        refine g_callV C (cs1 := [wX ax (bo 0) (tr 0) (ac 0) (ah 0) (at_ 0), wB E bo β, wB E tr τ, wC E ac ((lpF (fL_holds_L42 β γ) (0, γ) i42).2), wH E ah bd η, wT E at_ θ, wB E (bd 2) (σ 2), wB E (bd 3) (σ 3), wB E (bd 4) (σ 4), wB E (bd 5) (σ 5), wB E (bd 6) (σ 6), wB E (bd 7) (σ 7), wB E (bd 8) (σ 8), wB E (bd 9) (σ 9)]) (st1 := [.int (b2i (fT_needs β i42 i57))]) [.int (nI i42), .int (nI i57)] [0, 1, 2, 3, 4, 5, 6, 7, 8, 9, 10, 11, 12, 13] (kT_needs l E ax bo β tr τ ac ((lpF (fL_holds_L42 β γ) (0, γ) i42).2) ah bd η σ at_ θ hv i42 (by omega) i57 (by omega) (hasT_n hv (by omega)) (hasT_n hv (by omega))) caX6_needs q3_65 rfl ⟨Nat.le_of_ble_eq_true rfl, Nat.le_of_ble_eq_true rfl⟩ ⟨Nat.zero_le _, Nat.zero_le _⟩ 0 0 rfl rfl rfl rfl (by decide) rfl rfl rfl rfl (Nat.le_of_ble_eq_true rfl) dL_holds_106 rfl ?_
                        refine g_ifB_eq C 125 dL_holds_109 (by decide) (fun c_159 => ?_) (fun c_159 => ?_)
                        · exact absurd (c_154.symm.trans c_159) (by decide)
                        · skip
                          refine g_aload_n C dL_holds_112 rfl 1 rfl ?_
                          refine g_iload C dL_holds_113 6 rfl ?_
                          refine g_iload C dL_holds_115 5 rfl ?_
                          refine g_callV C (cs1 := [wX ax (bo 0) (tr 0) (ac 0) (ah 0) (at_ 0), wB E bo β, wB E tr τ, wC E ac ((lpF (fL_holds_L42 β γ) (0, γ) i42).2), wH E ah bd η, wT E at_ θ, wB E (bd 2) (σ 2), wB E (bd 3) (σ 3), wB E (bd 4) (σ 4), wB E (bd 5) (σ 5), wB E (bd 6) (σ 6), wB E (bd 7) (σ 7), wB E (bd 8) (σ 8), wB E (bd 9) (σ 9)]) (st1 := [.int (b2i (fT_needs β i57 i42))]) [.int (nI i57), .int (nI i42)] [0, 1, 2, 3, 4, 5, 6, 7, 8, 9, 10, 11, 12, 13] (kT_needs l E ax bo β tr τ ac ((lpF (fL_holds_L42 β γ) (0, γ) i42).2) ah bd η σ at_ θ hv i57 (by omega) i42 (by omega) (hasT_n hv (by omega)) (hasT_n hv (by omega))) caX6_needs q3_65 rfl ⟨Nat.le_of_ble_eq_true rfl, Nat.le_of_ble_eq_true rfl⟩ ⟨Nat.zero_le _, Nat.zero_le _⟩ 0 0 rfl rfl rfl rfl (by decide) rfl rfl rfl rfl (Nat.le_of_ble_eq_true rfl) dL_holds_117 rfl ?_
                          refine g_ifB_eq C 125 dL_holds_120 (by decide) (fun c_160 => ?_) (fun c_160 => ?_)
                          · skip
                            refine g_iinc C (v := nI (i57 + 1)) (lv1 := [(6, .int (nI (i57 + 1))), (5, .int (lpF (fL_holds_L57 β γ i42 (lpF (fL_holds_L42 β γ) (0, γ) i42)) 0 i57)), (0, .ref ax), (1, .int ((lpF (fL_holds_L9 β γ) (0, 0) 5).1)), (2, .int ((lpF (fL_holds_L9 β γ) (0, 0) 5).2)), (3, .int ((lpF (fL_holds_L42 β γ) (0, γ) i42).1)), (4, .int (nI i42))]) dL_holds_125 6 rfl (nI_1 i57) (by decide) rfl ?_
                            refine g_goto C 57 dL_holds_128 (by decide) ?_
                            have e_161 : (lpF (fL_holds_L57 β γ i42 (lpF (fL_holds_L42 β γ) (0, γ) i42)) 0 (i57 + 1)) = (lpF (fL_holds_L57 β γ i42 (lpF (fL_holds_L42 β γ) (0, γ) i42)) 0 i57) := by
                              rw [lpF_1, fL_holds_L57]; rw [if_pos c_154, if_pos c_158]
                            have h_162 := ih_93 (i57 + 1) (by omega)
                            rw [e_161] at h_162
                            exact g_sub [2, 3, 4, 5, 6, 1, 0] rfl h_162
                          · exact absurd c_160 (no_mutual hI (by omega) (by omega) hm9)
                      · skip
                        refine g_aload_n C dL_holds_88 rfl 0 rfl ?_
                        refine g_iload C dL_holds_89 6 rfl ?_
                        refine g_callV C (cs1 := [wX ax (bo 0) (tr 0) (ac 0) (ah 0) (at_ 0), wB E bo β, wB E tr τ, wC E ac ((lpF (fL_holds_L42 β γ) (0, γ) i42).2), wH E ah bd η, wT E at_ θ, wB E (bd 2) (σ 2), wB E (bd 3) (σ 3), wB E (bd 4) (σ 4), wB E (bd 5) (σ 5), wB E (bd 6) (σ 6), wB E (bd 7) (σ 7), wB E (bd 8) (σ 8), wB E (bd 9) (σ 9)]) (st1 := [.int (fT_chainOf β i57)]) [.int (nI i57)] [0, 1, 2, 3, 4, 5, 6, 7, 8, 9, 10, 11, 12, 13] (kT_chainOf l E ax bo β tr τ ac ((lpF (fL_holds_L42 β γ) (0, γ) i42).2) ah bd η σ at_ θ hv i57 (by omega) (hasT_n hv (by omega))) caX6_chainOf q3_3 rfl ⟨Nat.le_of_ble_eq_true rfl, Nat.le_of_ble_eq_true rfl⟩ ⟨Nat.zero_le _, Nat.zero_le _⟩ 0 0 rfl rfl rfl rfl (by decide) rfl rfl rfl rfl (Nat.le_of_ble_eq_true rfl) dL_holds_91 rfl ?_
                        refine g_goto C 99 dL_holds_94 (by decide) ?_
                        refine g_istore C (lv1 := [(5, .int (fT_chainOf β i57)), (0, .ref ax), (1, .int ((lpF (fL_holds_L9 β γ) (0, 0) 5).1)), (2, .int ((lpF (fL_holds_L9 β γ) (0, 0) 5).2)), (3, .int ((lpF (fL_holds_L42 β γ) (0, γ) i42).1)), (4, .int (nI i42)), (6, .int (nI i57))]) dL_holds_99 (by decide) rfl ?_
                        refine g_aload_n C dL_holds_101 rfl 1 rfl ?_
                        refine g_iload C dL_holds_102 5 rfl ?_
                        refine g_iload C dL_holds_104 6 rfl ?_
                        refine g_callV C (cs1 := [wX ax (bo 0) (tr 0) (ac 0) (ah 0) (at_ 0), wB E bo β, wB E tr τ, wC E ac ((lpF (fL_holds_L42 β γ) (0, γ) i42).2), wH E ah bd η, wT E at_ θ, wB E (bd 2) (σ 2), wB E (bd 3) (σ 3), wB E (bd 4) (σ 4), wB E (bd 5) (σ 5), wB E (bd 6) (σ 6), wB E (bd 7) (σ 7), wB E (bd 8) (σ 8), wB E (bd 9) (σ 9)]) (st1 := [.int (b2i (fT_needs β i42 i57))]) [.int (nI i42), .int (nI i57)] [0, 1, 2, 3, 4, 5, 6, 7, 8, 9, 10, 11, 12, 13] (kT_needs l E ax bo β tr τ ac ((lpF (fL_holds_L42 β γ) (0, γ) i42).2) ah bd η σ at_ θ hv i42 (by omega) i57 (by omega) (hasT_n hv (by omega)) (hasT_n hv (by omega))) caX6_needs q3_65 rfl ⟨Nat.le_of_ble_eq_true rfl, Nat.le_of_ble_eq_true rfl⟩ ⟨Nat.zero_le _, Nat.zero_le _⟩ 0 0 rfl rfl rfl rfl (by decide) rfl rfl rfl rfl (Nat.le_of_ble_eq_true rfl) dL_holds_106 rfl ?_
                        refine g_ifB_eq C 125 dL_holds_109 (by decide) (fun c_163 => ?_) (fun c_163 => ?_)
                        · exact absurd (c_154.symm.trans c_163) (by decide)
                        · skip
                          refine g_aload_n C dL_holds_112 rfl 1 rfl ?_
                          refine g_iload C dL_holds_113 6 rfl ?_
                          refine g_iload C dL_holds_115 5 rfl ?_
                          refine g_callV C (cs1 := [wX ax (bo 0) (tr 0) (ac 0) (ah 0) (at_ 0), wB E bo β, wB E tr τ, wC E ac ((lpF (fL_holds_L42 β γ) (0, γ) i42).2), wH E ah bd η, wT E at_ θ, wB E (bd 2) (σ 2), wB E (bd 3) (σ 3), wB E (bd 4) (σ 4), wB E (bd 5) (σ 5), wB E (bd 6) (σ 6), wB E (bd 7) (σ 7), wB E (bd 8) (σ 8), wB E (bd 9) (σ 9)]) (st1 := [.int (b2i (fT_needs β i57 i42))]) [.int (nI i57), .int (nI i42)] [0, 1, 2, 3, 4, 5, 6, 7, 8, 9, 10, 11, 12, 13] (kT_needs l E ax bo β tr τ ac ((lpF (fL_holds_L42 β γ) (0, γ) i42).2) ah bd η σ at_ θ hv i57 (by omega) i42 (by omega) (hasT_n hv (by omega)) (hasT_n hv (by omega))) caX6_needs q3_65 rfl ⟨Nat.le_of_ble_eq_true rfl, Nat.le_of_ble_eq_true rfl⟩ ⟨Nat.zero_le _, Nat.zero_le _⟩ 0 0 rfl rfl rfl rfl (by decide) rfl rfl rfl rfl (Nat.le_of_ble_eq_true rfl) dL_holds_117 rfl ?_
                          refine g_ifB_eq C 125 dL_holds_120 (by decide) (fun c_164 => ?_) (fun c_164 => ?_)
                          · skip
                            refine g_iinc C (v := nI (i57 + 1)) (lv1 := [(6, .int (nI (i57 + 1))), (5, .int (fT_chainOf β i57)), (0, .ref ax), (1, .int ((lpF (fL_holds_L9 β γ) (0, 0) 5).1)), (2, .int ((lpF (fL_holds_L9 β γ) (0, 0) 5).2)), (3, .int ((lpF (fL_holds_L42 β γ) (0, γ) i42).1)), (4, .int (nI i42))]) dL_holds_125 6 rfl (nI_1 i57) (by decide) rfl ?_
                            refine g_goto C 57 dL_holds_128 (by decide) ?_
                            have e_165 : (lpF (fL_holds_L57 β γ i42 (lpF (fL_holds_L42 β γ) (0, γ) i42)) 0 (i57 + 1)) = (fT_chainOf β i57) := by
                              rw [lpF_1, fL_holds_L57]; rw [if_pos c_154, if_neg c_158]
                            have h_166 := ih_93 (i57 + 1) (by omega)
                            rw [e_165] at h_166
                            exact g_sub [2, 3, 4, 5, 6, 1, 0] rfl h_166
                          · exact absurd c_164 (no_mutual hI (by omega) (by omega) hm9)
              refine g_sub [2, 3, 4, 5, 6, 1, 0] (lv1 := [(0, .ref ax), (1, .int ((lpF (fL_holds_L9 β γ) (0, 0) 5).1)), (2, .int ((lpF (fL_holds_L9 β γ) (0, 0) 5).2)), (3, .int ((lpF (fL_holds_L42 β γ) (0, γ) i42).1)), (4, .int (nI i42)), (5, .int 0), (6, .int 0)]) rfl ?_
              exact hL_92 (cnt β) 0 (by omega)
        refine g_sub [1, 2, 3, 4, 0] (lv1 := [(0, .ref ax), (1, .int ((lpF (fL_holds_L9 β γ) (0, 0) 5).1)), (2, .int ((lpF (fL_holds_L9 β γ) (0, 0) 5).2)), (3, .int 0), (4, .int 0)]) rfl ?_
        exact hL_8 (cnt β) 0 (by omega)
      · exact absurd (lc_le rfl nI_l5 (by omega) (by omega)) c_5
    | succ d_1 ih_4 =>
      intro i9 hi_2
      refine g_iload C dL_holds_9 4 rfl ?_
      refine g_iconst C (v := 5) dL_holds_11 (by decide) ?_
      refine g_icmp_ge C 39 dL_holds_12 (by decide) (fun c_167 => ?_) (fun c_167 => ?_)
      · exact absurd c_167 (lc_nle rfl nI_l5 (by omega) (by omega))
      · skip
        refine g_iload_n C dL_holds_15 rfl 1 rfl ?_
        refine g_aload_n C dL_holds_16 rfl 0 rfl ?_
        refine g_iload C dL_holds_17 4 rfl ?_
        refine g_callV C (cs1 := [wX ax (bo 0) (tr 0) (ac 0) (ah 0) (at_ 0), wB E bo β, wB E tr τ, wC E ac γ, wH E ah bd η, wT E at_ θ, wB E (bd 2) (σ 2), wB E (bd 3) (σ 3), wB E (bd 4) (σ 4), wB E (bd 5) (σ 5), wB E (bd 6) (σ 6), wB E (bd 7) (σ 7), wB E (bd 8) (σ 8), wB E (bd 9) (σ 9)]) (st1 := [.int (fT_withState β (nI i9)), .int ((lpF (fL_holds_L9 β γ) (0, 0) i9).1)]) [.int (nI i9)] [0, 1, 2, 3, 4, 5, 6, 7, 8, 9, 10, 11, 12, 13] (kT_withState l E ax bo β tr τ ac γ ah bd η σ at_ θ hv (nI i9) (with_n (by omega))) caX6_withState q3_205 rfl ⟨Nat.le_of_ble_eq_true rfl, Nat.le_of_ble_eq_true rfl⟩ ⟨Nat.zero_le _, Nat.zero_le _⟩ 0 0 rfl rfl rfl rfl (by decide) rfl rfl rfl rfl (Nat.le_of_ble_eq_true rfl) dL_holds_19 rfl ?_
        refine g_iadd C dL_holds_22 ?_
        refine g_istore_n C (lv1 := [(1, .int (((lpF (fL_holds_L9 β γ) (0, 0) i9).1) + (fT_withState β (nI i9)))), (0, .ref ax), (2, .int ((lpF (fL_holds_L9 β γ) (0, 0) i9).2)), (3, .int 0), (4, .int (nI i9))]) dL_holds_23 rfl (by decide) rfl ?_
        refine g_iload_n C dL_holds_24 rfl 2 rfl ?_
        refine g_aload_n C dL_holds_25 rfl 1 rfl ?_
        refine g_iload C dL_holds_26 4 rfl ?_
        refine g_callV C (cs1 := [wX ax (bo 0) (tr 0) (ac 0) (ah 0) (at_ 0), wB E bo β, wB E tr τ, wC E ac γ, wH E ah bd η, wT E at_ θ, wB E (bd 2) (σ 2), wB E (bd 3) (σ 3), wB E (bd 4) (σ 4), wB E (bd 5) (σ 5), wB E (bd 6) (σ 6), wB E (bd 7) (σ 7), wB E (bd 8) (σ 8), wB E (bd 9) (σ 9)]) (st1 := [.int (fT_pointsWith β (nI i9)), .int ((lpF (fL_holds_L9 β γ) (0, 0) i9).2)]) [.int (nI i9)] [0, 1, 2, 3, 4, 5, 6, 7, 8, 9, 10, 11, 12, 13] (kT_pointsWith l E ax bo β tr τ ac γ ah bd η σ at_ θ hv (nI i9) (with_n (by omega))) caX6_pointsWith q3_210 rfl ⟨Nat.le_of_ble_eq_true rfl, Nat.le_of_ble_eq_true rfl⟩ ⟨Nat.zero_le _, Nat.zero_le _⟩ 0 0 rfl rfl rfl rfl (by decide) rfl rfl rfl rfl (Nat.le_of_ble_eq_true rfl) dL_holds_28 rfl ?_
        refine g_iadd C dL_holds_31 ?_
        refine g_istore_n C (lv1 := [(2, .int (((lpF (fL_holds_L9 β γ) (0, 0) i9).2) + (fT_pointsWith β (nI i9)))), (1, .int (((lpF (fL_holds_L9 β γ) (0, 0) i9).1) + (fT_withState β (nI i9)))), (0, .ref ax), (3, .int 0), (4, .int (nI i9))]) dL_holds_32 rfl (by decide) rfl ?_
        refine g_iinc C (v := nI (i9 + 1)) (lv1 := [(4, .int (nI (i9 + 1))), (2, .int (((lpF (fL_holds_L9 β γ) (0, 0) i9).2) + (fT_pointsWith β (nI i9)))), (1, .int (((lpF (fL_holds_L9 β γ) (0, 0) i9).1) + (fT_withState β (nI i9)))), (0, .ref ax), (3, .int 0)]) dL_holds_33 4 rfl (nI_1 i9) (by decide) rfl ?_
        refine g_goto C 9 dL_holds_36 (by decide) ?_
        have e_168 : (lpF (fL_holds_L9 β γ) (0, 0) (i9 + 1)) = (((lpF (fL_holds_L9 β γ) (0, 0) i9).1) + (fT_withState β (nI i9)), ((lpF (fL_holds_L9 β γ) (0, 0) i9).2) + (fT_pointsWith β (nI i9))) := by
          rw [lpF_1, fL_holds_L9]
        have h_169 := ih_4 (i9 + 1) (by omega)
        rw [e_168] at h_169
        exact g_sub [3, 2, 1, 4, 0] rfl h_169
  refine g_sub [4, 3, 2, 1, 0] (lv1 := [(0, .ref ax), (1, .int 0), (2, .int 0), (3, .int 0), (4, .int 0)]) rfl ?_
  exact hL_3 5 0 (by omega)
