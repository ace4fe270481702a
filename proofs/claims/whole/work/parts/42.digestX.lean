def fX6_withAccounts (β : BS) (η : BS) (z : Int64) : Int64 :=
  (fX6_mixed (fX6_mixed (fX6_mixed (fX6_mixed (fX6_mixed (fX6_mixed (fX6_mixed z ((β.1 1).toInt64)) ((fX5_blockedAndUnfinished β).toInt64)) ((β.1 2).toInt64)) ((β.1 3).toInt64)) ((fX5_closedInWeek β).toInt64)) ((fX3_savedCount η).toInt64)) (fX6_bitsOf (fX5_meanProgress β)))
theorem caX6_withAccounts : gCalV yX6_withAccounts cX6_withAccounts 5 (some .long) 1 := ⟨⟨q3_40, q1_1, by decide +kernel⟩, q3_39, qs_14⟩
set_option maxHeartbeats 4000000 in
set_option maxRecDepth 100000 in
theorem kX6_withAccounts (l : Launch) (E : gE) (ax : Nat) (bo : Nat → Nat) (β : BS) (tr : Nat → Nat) (τ : BS) (ac : Nat → Nat) (γ : BS) (ah : Nat → Nat) (bd : Nat → Nat → Nat) (η : BS) (σ : Nat → BS) (at_ : Nat → Nat) (θ : BS) (hv : vB β) (hnn : gNN) (hfp : gFP)  (z : Int64) : MC l E yX6_withAccounts cX6_withAccounts 5 (some .long) 4 83 [.ref ax, .long z] [wX ax (bo 0) (tr 0) (ac 0) (ah 0) (at_ 0), wB E bo β, wB E tr τ, wC E ac γ, wH E ah bd η, wT E at_ θ, wB E (bd 2) (σ 2), wB E (bd 3) (σ 3), wB E (bd 4) (σ 4), wB E (bd 5) (σ 5), wB E (bd 6) (σ 6), wB E (bd 7) (σ 7), wB E (bd 8) (σ 8), wB E (bd 9) (σ 9)] (some (.long (fX6_withAccounts β η z))) [wX ax (bo 0) (tr 0) (ac 0) (ah 0) (at_ 0), wB E bo β, wB E tr τ, wC E ac γ, wH E ah bd η, wT E at_ θ, wB E (bd 2) (σ 2), wB E (bd 3) (σ 3), wB E (bd 4) (σ 4), wB E (bd 5) (σ 5), wB E (bd 6) (σ 6), wB E (bd 7) (σ 7), wB E (bd 8) (σ 8), wB E (bd 9) (σ 9)] := by
  have hv1 : cnt β ≤ 20 := hv.1
  refine mc_of (by decide +kernel) (Nat.le_of_ble_eq_true rfl) (lv := [(0, .ref ax), (1, .long z)]) rfl (fun X C hE => ?_)
  refine g_lload_n C dX6_withAccounts_0 rfl 1 rfl ?_
  refine g_aload_n C dX6_withAccounts_1 rfl 0 rfl ?_
  refine g_getf C (T := TX6) (N := 5) 0 0 rfl rfl rfl inX6 0 (by decide) q1_192 rfl dX6_withAccounts_2 ?_
  refine g_getf C (T := TX0) (N := 17) 1 0 rfl rfl rfl inX0 1 (by decide) q1_39 rfl dX6_withAccounts_5 ?_
  refine g_i2l C dX6_withAccounts_8 ?_
  refine g_callS C (cs1 := [wX ax (bo 0) (tr 0) (ac 0) (ah 0) (at_ 0), wB E bo β, wB E tr τ, wC E ac γ, wH E ah bd η, wT E at_ θ, wB E (bd 2) (σ 2), wB E (bd 3) (σ 3), wB E (bd 4) (σ 4), wB E (bd 5) (σ 5), wB E (bd 6) (σ 6), wB E (bd 7) (σ 7), wB E (bd 8) (σ 8), wB E (bd 9) (σ 9)]) (st1 := [.long (fX6_mixed z ((β.1 1).toInt64))]) [.long z, .long ((β.1 1).toInt64)] [] (kX6_mixed l E z ((β.1 1).toInt64)) caX6_mixed q2_179 rfl ⟨Nat.le_of_ble_eq_true rfl, Nat.le_of_ble_eq_true rfl⟩ ⟨Nat.zero_le _, Nat.zero_le _⟩ (by decide) rfl rfl rfl rfl (Nat.le_of_ble_eq_true rfl) dX6_withAccounts_9 rfl ?_
  refine g_lstore_n C (lv1 := [(3, .long (fX6_mixed z ((β.1 1).toInt64))), (0, .ref ax), (1, .long z)]) dX6_withAccounts_12 rfl (by decide) rfl ?_
  refine g_lload_n C dX6_withAccounts_13 rfl 0 rfl ?_
  refine g_aload_n C dX6_withAccounts_14 rfl 1 rfl ?_
  refine g_getf C (T := TX6) (N := 5) 0 0 rfl rfl rfl inX6 0 (by decide) q1_192 rfl dX6_withAccounts_15 ?_
  refine g_callS C (cs1 := [wX ax (bo 0) (tr 0) (ac 0) (ah 0) (at_ 0), wB E bo β, wB E tr τ, wC E ac γ, wH E ah bd η, wT E at_ θ, wB E (bd 2) (σ 2), wB E (bd 3) (σ 3), wB E (bd 4) (σ 4), wB E (bd 5) (σ 5), wB E (bd 6) (σ 6), wB E (bd 7) (σ 7), wB E (bd 8) (σ 8), wB E (bd 9) (σ 9)]) (st1 := [.int (fX5_blockedAndUnfinished β), .long (fX6_mixed z ((β.1 1).toInt64))]) [.ref (bo 0)] [1] (kX5_blockedAndUnfinished l E bo β hv) caX5_blockedAndUnfinished q2_134 rfl ⟨Nat.le_of_ble_eq_true rfl, Nat.le_of_ble_eq_true rfl⟩ ⟨Nat.zero_le _, Nat.zero_le _⟩ (by decide) rfl rfl rfl rfl (Nat.le_of_ble_eq_true rfl) dX6_withAccounts_18 rfl ?_
  refine g_i2l C dX6_withAccounts_21 ?_
  refine g_callS C (cs1 := [wX ax (bo 0) (tr 0) (ac 0) (ah 0) (at_ 0), wB E bo β, wB E tr τ, wC E ac γ, wH E ah bd η, wT E at_ θ, wB E (bd 2) (σ 2), wB E (bd 3) (σ 3), wB E (bd 4) (σ 4), wB E (bd 5) (σ 5), wB E (bd 6) (σ 6), wB E (bd 7) (σ 7), wB E (bd 8) (σ 8), wB E (bd 9) (σ 9)]) (st1 := [.long (fX6_mixed (fX6_mixed z ((β.1 1).toInt64)) ((fX5_blockedAndUnfinished β).toInt64))]) [.long (fX6_mixed z ((β.1 1).toInt64)), .long ((fX5_blockedAndUnfinished β).toInt64)] [] (kX6_mixed l E (fX6_mixed z ((β.1 1).toInt64)) ((fX5_blockedAndUnfinished β).toInt64)) caX6_mixed q2_179 rfl ⟨Nat.le_of_ble_eq_true rfl, Nat.le_of_ble_eq_true rfl⟩ ⟨Nat.zero_le _, Nat.zero_le _⟩ (by decide) rfl rfl rfl rfl (Nat.le_of_ble_eq_true rfl) dX6_withAccounts_22 rfl ?_
  refine g_lstore_n C (lv1 := [(3, .long (fX6_mixed (fX6_mixed z ((β.1 1).toInt64)) ((fX5_blockedAndUnfinished β).toInt64))), (0, .ref ax), (1, .long z)]) dX6_withAccounts_25 rfl (by decide) rfl ?_
  refine g_lload_n C dX6_withAccounts_26 rfl 0 rfl ?_
  refine g_aload_n C dX6_withAccounts_27 rfl 1 rfl ?_
  refine g_getf C (T := TX6) (N := 5) 0 0 rfl rfl rfl inX6 0 (by decide) q1_192 rfl dX6_withAccounts_28 ?_
  refine g_getf C (T := TX0) (N := 17) 1 0 rfl rfl rfl inX0 2 (by decide) q1_41 rfl dX6_withAccounts_31 ?_
  refine g_i2l C dX6_withAccounts_34 ?_
  refine g_callS C (cs1 := [wX ax (bo 0) (tr 0) (ac 0) (ah 0) (at_ 0), wB E bo β, wB E tr τ, wC E ac γ, wH E ah bd η, wT E at_ θ, wB E (bd 2) (σ 2), wB E (bd 3) (σ 3), wB E (bd 4) (σ 4), wB E (bd 5) (σ 5), wB E (bd 6) (σ 6), wB E (bd 7) (σ 7), wB E (bd 8) (σ 8), wB E (bd 9) (σ 9)]) (st1 := [.long (fX6_mixed (fX6_mixed (fX6_mixed z ((β.1 1).toInt64)) ((fX5_blockedAndUnfinished β).toInt64)) ((β.1 2).toInt64))]) [.long (fX6_mixed (fX6_mixed z ((β.1 1).toInt64)) ((fX5_blockedAndUnfinished β).toInt64)), .long ((β.1 2).toInt64)] [] (kX6_mixed l E (fX6_mixed (fX6_mixed z ((β.1 1).toInt64)) ((fX5_blockedAndUnfinished β).toInt64)) ((β.1 2).toInt64)) caX6_mixed q2_179 rfl ⟨Nat.le_of_ble_eq_true rfl, Nat.le_of_ble_eq_true rfl⟩ ⟨Nat.zero_le _, Nat.zero_le _⟩ (by decide) rfl rfl rfl rfl (Nat.le_of_ble_eq_true rfl) dX6_withAccounts_35 rfl ?_
  refine g_lstore_n C (lv1 := [(3, .long (fX6_mixed (fX6_mixed (fX6_mixed z ((β.1 1).toInt64)) ((fX5_blockedAndUnfinished β).toInt64)) ((β.1 2).toInt64))), (0, .ref ax), (1, .long z)]) dX6_withAccounts_38 rfl (by decide) rfl ?_
  refine g_lload_n C dX6_withAccounts_39 rfl 0 rfl ?_
  refine g_aload_n C dX6_withAccounts_40 rfl 1 rfl ?_
  refine g_getf C (T := TX6) (N := 5) 0 0 rfl rfl rfl inX6 0 (by decide) q1_192 rfl dX6_withAccounts_41 ?_
  refine g_getf C (T := TX0) (N := 17) 1 0 rfl rfl rfl inX0 3 (by decide) q1_43 rfl dX6_withAccounts_44 ?_
  refine g_i2l C dX6_withAccounts_47 ?_
  refine g_callS C (cs1 := [wX ax (bo 0) (tr 0) (ac 0) (ah 0) (at_ 0), wB E bo β, wB E tr τ, wC E ac γ, wH E ah bd η, wT E at_ θ, wB E (bd 2) (σ 2), wB E (bd 3) (σ 3), wB E (bd 4) (σ 4), wB E (bd 5) (σ 5), wB E (bd 6) (σ 6), wB E (bd 7) (σ 7), wB E (bd 8) (σ 8), wB E (bd 9) (σ 9)]) (st1 := [.long (fX6_mixed (fX6_mixed (fX6_mixed (fX6_mixed z ((β.1 1).toInt64)) ((fX5_blockedAndUnfinished β).toInt64)) ((β.1 2).toInt64)) ((β.1 3).toInt64))]) [.long (fX6_mixed (fX6_mixed (fX6_mixed z ((β.1 1).toInt64)) ((fX5_blockedAndUnfinished β).toInt64)) ((β.1 2).toInt64)), .long ((β.1 3).toInt64)] [] (kX6_mixed l E (fX6_mixed (fX6_mixed (fX6_mixed z ((β.1 1).toInt64)) ((fX5_blockedAndUnfinished β).toInt64)) ((β.1 2).toInt64)) ((β.1 3).toInt64)) caX6_mixed q2_179 rfl ⟨Nat.le_of_ble_eq_true rfl, Nat.le_of_ble_eq_true rfl⟩ ⟨Nat.zero_le _, Nat.zero_le _⟩ (by decide) rfl rfl rfl rfl (Nat.le_of_ble_eq_true rfl) dX6_withAccounts_48 rfl ?_
  refine g_lstore_n C (lv1 := [(3, .long (fX6_mixed (fX6_mixed (fX6_mixed (fX6_mixed z ((β.1 1).toInt64)) ((fX5_blockedAndUnfinished β).toInt64)) ((β.1 2).toInt64)) ((β.1 3).toInt64))), (0, .ref ax), (1, .long z)]) dX6_withAccounts_51 rfl (by decide) rfl ?_
  refine g_lload_n C dX6_withAccounts_52 rfl 0 rfl ?_
  refine g_aload_n C dX6_withAccounts_53 rfl 1 rfl ?_
  refine g_getf C (T := TX6) (N := 5) 0 0 rfl rfl rfl inX6 0 (by decide) q1_192 rfl dX6_withAccounts_54 ?_
  refine g_callS C (cs1 := [wX ax (bo 0) (tr 0) (ac 0) (ah 0) (at_ 0), wB E bo β, wB E tr τ, wC E ac γ, wH E ah bd η, wT E at_ θ, wB E (bd 2) (σ 2), wB E (bd 3) (σ 3), wB E (bd 4) (σ 4), wB E (bd 5) (σ 5), wB E (bd 6) (σ 6), wB E (bd 7) (σ 7), wB E (bd 8) (σ 8), wB E (bd 9) (σ 9)]) (st1 := [.int (fX5_closedInWeek β), .long (fX6_mixed (fX6_mixed (fX6_mixed (fX6_mixed z ((β.1 1).toInt64)) ((fX5_blockedAndUnfinished β).toInt64)) ((β.1 2).toInt64)) ((β.1 3).toInt64))]) [.ref (bo 0)] [1] (kX5_closedInWeek l E bo β hv) caX5_closedInWeek q2_164 rfl ⟨Nat.le_of_ble_eq_true rfl, Nat.le_of_ble_eq_true rfl⟩ ⟨Nat.zero_le _, Nat.zero_le _⟩ (by decide) rfl rfl rfl rfl (Nat.le_of_ble_eq_true rfl) dX6_withAccounts_57 rfl ?_
  refine g_i2l C dX6_withAccounts_60 ?_
  refine g_callS C (cs1 := [wX ax (bo 0) (tr 0) (ac 0) (ah 0) (at_ 0), wB E bo β, wB E tr τ, wC E ac γ, wH E ah bd η, wT E at_ θ, wB E (bd 2) (σ 2), wB E (bd 3) (σ 3), wB E (bd 4) (σ 4), wB E (bd 5) (σ 5), wB E (bd 6) (σ 6), wB E (bd 7) (σ 7), wB E (bd 8) (σ 8), wB E (bd 9) (σ 9)]) (st1 := [.long (fX6_mixed (fX6_mixed (fX6_mixed (fX6_mixed (fX6_mixed z ((β.1 1).toInt64)) ((fX5_blockedAndUnfinished β).toInt64)) ((β.1 2).toInt64)) ((β.1 3).toInt64)) ((fX5_closedInWeek β).toInt64))]) [.long (fX6_mixed (fX6_mixed (fX6_mixed (fX6_mixed z ((β.1 1).toInt64)) ((fX5_blockedAndUnfinished β).toInt64)) ((β.1 2).toInt64)) ((β.1 3).toInt64)), .long ((fX5_closedInWeek β).toInt64)] [] (kX6_mixed l E (fX6_mixed (fX6_mixed (fX6_mixed (fX6_mixed z ((β.1 1).toInt64)) ((fX5_blockedAndUnfinished β).toInt64)) ((β.1 2).toInt64)) ((β.1 3).toInt64)) ((fX5_closedInWeek β).toInt64)) caX6_mixed q2_179 rfl ⟨Nat.le_of_ble_eq_true rfl, Nat.le_of_ble_eq_true rfl⟩ ⟨Nat.zero_le _, Nat.zero_le _⟩ (by decide) rfl rfl rfl rfl (Nat.le_of_ble_eq_true rfl) dX6_withAccounts_61 rfl ?_
  refine g_lstore_n C (lv1 := [(3, .long (fX6_mixed (fX6_mixed (fX6_mixed (fX6_mixed (fX6_mixed z ((β.1 1).toInt64)) ((fX5_blockedAndUnfinished β).toInt64)) ((β.1 2).toInt64)) ((β.1 3).toInt64)) ((fX5_closedInWeek β).toInt64))), (0, .ref ax), (1, .long z)]) dX6_withAccounts_64 rfl (by decide) rfl ?_
  refine g_lload_n C dX6_withAccounts_65 rfl 0 rfl ?_
  refine g_aload_n C dX6_withAccounts_66 rfl 1 rfl ?_
  refine g_getf C (T := TX6) (N := 5) 0 0 rfl rfl rfl inX6 3 (by decide) q1_195 rfl dX6_withAccounts_67 ?_
  refine g_callV C (cs1 := [wX ax (bo 0) (tr 0) (ac 0) (ah 0) (at_ 0), wB E bo β, wB E tr τ, wC E ac γ, wH E ah bd η, wT E at_ θ, wB E (bd 2) (σ 2), wB E (bd 3) (σ 3), wB E (bd 4) (σ 4), wB E (bd 5) (σ 5), wB E (bd 6) (σ 6), wB E (bd 7) (σ 7), wB E (bd 8) (σ 8), wB E (bd 9) (σ 9)]) (st1 := [.int (fX3_savedCount η), .long (fX6_mixed (fX6_mixed (fX6_mixed (fX6_mixed (fX6_mixed z ((β.1 1).toInt64)) ((fX5_blockedAndUnfinished β).toInt64)) ((β.1 2).toInt64)) ((β.1 3).toInt64)) ((fX5_closedInWeek β).toInt64))]) [] [4] (kX3_savedCount l E ah bd η) caX3_savedCount q2_24 rfl ⟨Nat.le_of_ble_eq_true rfl, Nat.le_of_ble_eq_true rfl⟩ ⟨Nat.zero_le _, Nat.zero_le _⟩ 4 0 rfl rfl rfl rfl (by decide) rfl rfl rfl rfl (Nat.le_of_ble_eq_true rfl) dX6_withAccounts_70 rfl ?_
  refine g_i2l C dX6_withAccounts_73 ?_
  refine g_callS C (cs1 := [wX ax (bo 0) (tr 0) (ac 0) (ah 0) (at_ 0), wB E bo β, wB E tr τ, wC E ac γ, wH E ah bd η, wT E at_ θ, wB E (bd 2) (σ 2), wB E (bd 3) (σ 3), wB E (bd 4) (σ 4), wB E (bd 5) (σ 5), wB E (bd 6) (σ 6), wB E (bd 7) (σ 7), wB E (bd 8) (σ 8), wB E (bd 9) (σ 9)]) (st1 := [.long (fX6_mixed (fX6_mixed (fX6_mixed (fX6_mixed (fX6_mixed (fX6_mixed z ((β.1 1).toInt64)) ((fX5_blockedAndUnfinished β).toInt64)) ((β.1 2).toInt64)) ((β.1 3).toInt64)) ((fX5_closedInWeek β).toInt64)) ((fX3_savedCount η).toInt64))]) [.long (fX6_mixed (fX6_mixed (fX6_mixed (fX6_mixed (fX6_mixed z ((β.1 1).toInt64)) ((fX5_blockedAndUnfinished β).toInt64)) ((β.1 2).toInt64)) ((β.1 3).toInt64)) ((fX5_closedInWeek β).toInt64)), .long ((fX3_savedCount η).toInt64)] [] (kX6_mixed l E (fX6_mixed (fX6_mixed (fX6_mixed (fX6_mixed (fX6_mixed z ((β.1 1).toInt64)) ((fX5_blockedAndUnfinished β).toInt64)) ((β.1 2).toInt64)) ((β.1 3).toInt64)) ((fX5_closedInWeek β).toInt64)) ((fX3_savedCount η).toInt64)) caX6_mixed q2_179 rfl ⟨Nat.le_of_ble_eq_true rfl, Nat.le_of_ble_eq_true rfl⟩ ⟨Nat.zero_le _, Nat.zero_le _⟩ (by decide) rfl rfl rfl rfl (Nat.le_of_ble_eq_true rfl) dX6_withAccounts_74 rfl ?_
  refine g_lstore_n C (lv1 := [(3, .long (fX6_mixed (fX6_mixed (fX6_mixed (fX6_mixed (fX6_mixed (fX6_mixed z ((β.1 1).toInt64)) ((fX5_blockedAndUnfinished β).toInt64)) ((β.1 2).toInt64)) ((β.1 3).toInt64)) ((fX5_closedInWeek β).toInt64)) ((fX3_savedCount η).toInt64))), (0, .ref ax), (1, .long z)]) dX6_withAccounts_77 rfl (by decide) rfl ?_
  refine g_lload_n C dX6_withAccounts_78 rfl 0 rfl ?_
  refine g_aload_n C dX6_withAccounts_79 rfl 1 rfl ?_
  refine g_getf C (T := TX6) (N := 5) 0 0 rfl rfl rfl inX6 0 (by decide) q1_192 rfl dX6_withAccounts_80 ?_
  refine g_callS C (cs1 := [wX ax (bo 0) (tr 0) (ac 0) (ah 0) (at_ 0), wB E bo β, wB E tr τ, wC E ac γ, wH E ah bd η, wT E at_ θ, wB E (bd 2) (σ 2), wB E (bd 3) (σ 3), wB E (bd 4) (σ 4), wB E (bd 5) (σ 5), wB E (bd 6) (σ 6), wB E (bd 7) (σ 7), wB E (bd 8) (σ 8), wB E (bd 9) (σ 9)]) (st1 := [.double (fX5_meanProgress β), .long (fX6_mixed (fX6_mixed (fX6_mixed (fX6_mixed (fX6_mixed (fX6_mixed z ((β.1 1).toInt64)) ((fX5_blockedAndUnfinished β).toInt64)) ((β.1 2).toInt64)) ((β.1 3).toInt64)) ((fX5_closedInWeek β).toInt64)) ((fX3_savedCount η).toInt64))]) [.ref (bo 0)] [1] (kX5_meanProgress l E bo β hv hnn) caX5_meanProgress q2_171 rfl ⟨Nat.le_of_ble_eq_true rfl, Nat.le_of_ble_eq_true rfl⟩ ⟨Nat.zero_le _, Nat.zero_le _⟩ (by decide) rfl rfl rfl rfl (Nat.le_of_ble_eq_true rfl) dX6_withAccounts_83 rfl ?_
  refine g_callS C (cs1 := [wX ax (bo 0) (tr 0) (ac 0) (ah 0) (at_ 0), wB E bo β, wB E tr τ, wC E ac γ, wH E ah bd η, wT E at_ θ, wB E (bd 2) (σ 2), wB E (bd 3) (σ 3), wB E (bd 4) (σ 4), wB E (bd 5) (σ 5), wB E (bd 6) (σ 6), wB E (bd 7) (σ 7), wB E (bd 8) (σ 8), wB E (bd 9) (σ 9)]) (st1 := [.long (fX6_bitsOf (fX5_meanProgress β)), .long (fX6_mixed (fX6_mixed (fX6_mixed (fX6_mixed (fX6_mixed (fX6_mixed z ((β.1 1).toInt64)) ((fX5_blockedAndUnfinished β).toInt64)) ((β.1 2).toInt64)) ((β.1 3).toInt64)) ((fX5_closedInWeek β).toInt64)) ((fX3_savedCount η).toInt64))]) [.double (fX5_meanProgress β)] [] (kX6_bitsOf l E hfp (fX5_meanProgress β) (mean_n hnn)) caX6_bitsOf q3_41 rfl ⟨Nat.le_of_ble_eq_true rfl, Nat.le_of_ble_eq_true rfl⟩ ⟨Nat.zero_le _, Nat.zero_le _⟩ (by decide) rfl rfl rfl rfl (Nat.le_of_ble_eq_true rfl) dX6_withAccounts_86 rfl ?_
  refine g_callS C (cs1 := [wX ax (bo 0) (tr 0) (ac 0) (ah 0) (at_ 0), wB E bo β, wB E tr τ, wC E ac γ, wH E ah bd η, wT E at_ θ, wB E (bd 2) (σ 2), wB E (bd 3) (σ 3), wB E (bd 4) (σ 4), wB E (bd 5) (σ 5), wB E (bd 6) (σ 6), wB E (bd 7) (σ 7), wB E (bd 8) (σ 8), wB E (bd 9) (σ 9)]) (st1 := [.long (fX6_mixed (fX6_mixed (fX6_mixed (fX6_mixed (fX6_mixed (fX6_mixed (fX6_mixed z ((β.1 1).toInt64)) ((fX5_blockedAndUnfinished β).toInt64)) ((β.1 2).toInt64)) ((β.1 3).toInt64)) ((fX5_closedInWeek β).toInt64)) ((fX3_savedCount η).toInt64)) (fX6_bitsOf (fX5_meanProgress β)))]) [.long (fX6_mixed (fX6_mixed (fX6_mixed (fX6_mixed (fX6_mixed (fX6_mixed z ((β.1 1).toInt64)) ((fX5_blockedAndUnfinished β).toInt64)) ((β.1 2).toInt64)) ((β.1 3).toInt64)) ((fX5_closedInWeek β).toInt64)) ((fX3_savedCount η).toInt64)), .long (fX6_bitsOf (fX5_meanProgress β))] [] (kX6_mixed l E (fX6_mixed (fX6_mixed (fX6_mixed (fX6_mixed (fX6_mixed (fX6_mixed z ((β.1 1).toInt64)) ((fX5_blockedAndUnfinished β).toInt64)) ((β.1 2).toInt64)) ((β.1 3).toInt64)) ((fX5_closedInWeek β).toInt64)) ((fX3_savedCount η).toInt64)) (fX6_bitsOf (fX5_meanProgress β))) caX6_mixed q2_179 rfl ⟨Nat.le_of_ble_eq_true rfl, Nat.le_of_ble_eq_true rfl⟩ ⟨Nat.zero_le _, Nat.zero_le _⟩ (by decide) rfl rfl rfl rfl (Nat.le_of_ble_eq_true rfl) dX6_withAccounts_89 rfl ?_
  have e_1 : fX6_withAccounts β η z = (fX6_mixed (fX6_mixed (fX6_mixed (fX6_mixed (fX6_mixed (fX6_mixed (fX6_mixed z ((β.1 1).toInt64)) ((fX5_blockedAndUnfinished β).toInt64)) ((β.1 2).toInt64)) ((β.1 3).toInt64)) ((fX5_closedInWeek β).toInt64)) ((fX3_savedCount η).toInt64)) (fX6_bitsOf (fX5_meanProgress β))) := by rw [fX6_withAccounts]
  exact g_lret C hE (by rw [e_1]) rfl dX6_withAccounts_92
def fX6_digest_L17 (β : BS) (γ : BS) (η : BS) (θ : BS) (i17 : Nat) (t17 : Int64 × BS) : Int64 × BS :=
  ((fX6_withTicket β (t17.2) (t17.1) i17).1, (fX6_withTicket β (t17.2) (t17.1) i17).2)
def fX6_digest_S0 (β : BS) (γ : BS) (η : BS) (θ : BS) : BS := (lpF (fX6_digest_L17 β γ η θ) ((fX6_mixed 4211 ((β.1 0).toInt64)), γ) (cnt β)).2
def fX6_digest_V41 (β : BS) (γ : BS) (η : BS) (θ : BS) : Int64 := (lpF (fX6_digest_L17 β γ η θ) ((fX6_mixed 4211 ((β.1 0).toInt64)), γ) (cnt β)).1
def fX6_digest_L43 (β : BS) (γ : BS) (η : BS) (θ : BS) (i43 : Nat) (t43 : Int64) : Int64 :=
  (fX6_withOwner β t43 i43)
def fX6_digest_V61 (β : BS) (γ : BS) (η : BS) (θ : BS) : Int64 := (lpF (fX6_digest_L43 β γ η θ) (fX6_digest_V41 β γ η θ) 5)
def fX6_digest_L63 (β : BS) (γ : BS) (η : BS) (θ : BS) (i63 : Nat) (t63 : Int64) : Int64 :=
  (fX6_withMilestone β t63 i63)
def fX6_digest_V81 (β : BS) (γ : BS) (η : BS) (θ : BS) : Int64 := (lpF (fX6_digest_L63 β γ η θ) (fX6_digest_V61 β γ η θ) 4)
def fX6_digest_V94 (β : BS) (γ : BS) (η : BS) (θ : BS) : Int64 := (fX6_mixed (fX6_digest_V81 β γ η θ) ((fX5_ownerWithMostLeft β).toInt64))
def fX6_digest_S1 (β : BS) (γ : BS) (η : BS) (θ : BS) : BS := (fX1_mostPointsByTrying (fX6_digest_S0 β γ η θ) β).2
def fX6_digest_V111 (β : BS) (γ : BS) (η : BS) (θ : BS) : Int64 := (fX6_mixed (fX6_digest_V94 β γ η θ) (((fX1_mostPointsByTrying (fX6_digest_S0 β γ η θ) β).1).toInt64))
def fX6_digest_S2 (β : BS) (γ : BS) (η : BS) (θ : BS) : BS := (fX1_mostPointsByOrder (fX6_digest_S1 β γ η θ) β).2
def fX6_digest_V128 (β : BS) (γ : BS) (η : BS) (θ : BS) : Int64 := (fX6_mixed (fX6_digest_V111 β γ η θ) (((fX1_mostPointsByOrder (fX6_digest_S1 β γ η θ) β).1).toInt64))
def fX6_digest_S3 (β : BS) (γ : BS) (η : BS) (θ : BS) : BS := (fX6_withWhatToDo β (fX6_digest_S2 β γ η θ) (fX6_digest_V128 β γ η θ)).2
def fX6_digest_V134 (β : BS) (γ : BS) (η : BS) (θ : BS) : Int64 := (fX6_withWhatToDo β (fX6_digest_S2 β γ η θ) (fX6_digest_V128 β γ η θ)).1
def fX6_digest_V140 (β : BS) (γ : BS) (η : BS) (θ : BS) : Int64 := (fX6_withAccounts β η (fX6_digest_V134 β γ η θ))
def fX6_digest_L142 (β : BS) (γ : BS) (η : BS) (θ : BS) (i142 : Nat) (t142 : Int64) : Int64 :=
  (fX6_mixed t142 ((fX6_oneIf (fX3_hasKept η i142)).toInt64))
def fX6_digest_V170 (β : BS) (γ : BS) (η : BS) (θ : BS) : Int64 := (lpF (fX6_digest_L142 β γ η θ) (fX6_digest_V140 β γ η θ) 2)
def fX6_digest (β : BS) (γ : BS) (η : BS) (θ : BS) : Int64 × BS :=
  ((fX4_mixedInto θ (fX6_digest_V170 β γ η θ)), fX6_digest_S3 β γ η θ)
theorem caX6_digest : gCalV yX6_digest cX6_digest 4 (some .long) 0 := ⟨⟨q2_177, q1_1, by decide +kernel⟩, q2_175, q2_176⟩
set_option maxHeartbeats 4000000 in
set_option maxRecDepth 100000 in
theorem kX6_digest (l : Launch) (E : gE) (ax : Nat) (bo : Nat → Nat) (β : BS) (tr : Nat → Nat) (τ : BS) (ac : Nat → Nat) (γ : BS) (ah : Nat → Nat) (bd : Nat → Nat → Nat) (η : BS) (σ : Nat → BS) (at_ : Nat → Nat) (θ : BS) (hv : vB β) (hvh : vH η) (hvt : vT θ) (hnn : gNN) (hfp : gFP)   : MC l E yX6_digest cX6_digest 4 (some .long) 24 587 [.ref ax] [wX ax (bo 0) (tr 0) (ac 0) (ah 0) (at_ 0), wB E bo β, wB E tr τ, wC E ac γ, wH E ah bd η, wT E at_ θ, wB E (bd 2) (σ 2), wB E (bd 3) (σ 3), wB E (bd 4) (σ 4), wB E (bd 5) (σ 5), wB E (bd 6) (σ 6), wB E (bd 7) (σ 7), wB E (bd 8) (σ 8), wB E (bd 9) (σ 9)] (some (.long (fX6_digest β γ η θ).1)) [wX ax (bo 0) (tr 0) (ac 0) (ah 0) (at_ 0), wB E bo β, wB E tr τ, wC E ac ((fX6_digest β γ η θ).2), wH E ah bd η, wT E at_ θ, wB E (bd 2) (σ 2), wB E (bd 3) (σ 3), wB E (bd 4) (σ 4), wB E (bd 5) (σ 5), wB E (bd 6) (σ 6), wB E (bd 7) (σ 7), wB E (bd 8) (σ 8), wB E (bd 9) (σ 9)] := by
  have hv1 : cnt β ≤ 20 := hv.1
  refine mc_of (by decide +kernel) (Nat.le_of_ble_eq_true rfl) (lv := [(0, .ref ax)]) rfl (fun X C hE => ?_)
  refine g_ldc2 C q2_178 dX6_digest_0 ?_
  refine g_aload_n C dX6_digest_3 rfl 0 rfl ?_
  refine g_getf C (T := TX6) (N := 5) 0 0 rfl rfl rfl inX6 0 (by decide) q1_192 rfl dX6_digest_4 ?_
  refine g_getf C (T := TX0) (N := 17) 1 0 rfl rfl rfl inX0 0 (by decide) q1_36 rfl dX6_digest_7 ?_
  refine g_i2l C dX6_digest_10 ?_
  refine g_callS C (cs1 := [wX ax (bo 0) (tr 0) (ac 0) (ah 0) (at_ 0), wB E bo β, wB E tr τ, wC E ac γ, wH E ah bd η, wT E at_ θ, wB E (bd 2) (σ 2), wB E (bd 3) (σ 3), wB E (bd 4) (σ 4), wB E (bd 5) (σ 5), wB E (bd 6) (σ 6), wB E (bd 7) (σ 7), wB E (bd 8) (σ 8), wB E (bd 9) (σ 9)]) (st1 := [.long (fX6_mixed 4211 ((β.1 0).toInt64))]) [.long 4211, .long ((β.1 0).toInt64)] [] (kX6_mixed l E 4211 ((β.1 0).toInt64)) caX6_mixed q2_179 rfl ⟨Nat.le_of_ble_eq_true rfl, Nat.le_of_ble_eq_true rfl⟩ ⟨Nat.zero_le _, Nat.zero_le _⟩ (by decide) rfl rfl rfl rfl (Nat.le_of_ble_eq_true rfl) dX6_digest_11 rfl ?_
  refine g_lstore_n C (lv1 := [(1, .long (fX6_mixed 4211 ((β.1 0).toInt64))), (0, .ref ax)]) dX6_digest_14 rfl (by decide) rfl ?_
  refine g_iconst C (v := 0) dX6_digest_15 (by decide) ?_
  refine g_istore_n C (lv1 := [(3, .int 0), (1, .long (fX6_mixed 4211 ((β.1 0).toInt64))), (0, .ref ax)]) dX6_digest_16 rfl (by decide) rfl ?_
  have hL_3 : ∀ d_1 i17 : Nat, i17 + d_1 = (cnt β) → G X 0 0 [wX ax (bo 0) (tr 0) (ac 0) (ah 0) (at_ 0), wB E bo β, wB E tr τ, wC E ac ((lpF (fX6_digest_L17 β γ η θ) ((fX6_mixed 4211 ((β.1 0).toInt64)), γ) i17).2), wH E ah bd η, wT E at_ θ, wB E (bd 2) (σ 2), wB E (bd 3) (σ 3), wB E (bd 4) (σ 4), wB E (bd 5) (σ 5), wB E (bd 6) (σ 6), wB E (bd 7) (σ 7), wB E (bd 8) (σ 8), wB E (bd 9) (σ 9)] [(0, .ref ax), (1, .long ((lpF (fX6_digest_L17 β γ η θ) ((fX6_mixed 4211 ((β.1 0).toInt64)), γ) i17).1)), (3, .int (nI i17))] 17 [] := by
    intro d_1
    induction d_1 with
    | zero =>
      intro i17 hi_2
      obtain rfl : i17 = (cnt β) := by omega
      refine g_iload_n C dX6_digest_17 rfl 2 rfl ?_
      refine g_aload_n C dX6_digest_18 rfl 0 rfl ?_
      refine g_getf C (T := TX6) (N := 5) 0 0 rfl rfl rfl inX6 0 (by decide) q1_192 rfl dX6_digest_19 ?_
      refine g_getf C (T := TX0) (N := 17) 1 0 rfl rfl rfl inX0 0 (by decide) q1_36 rfl dX6_digest_22 ?_
      refine g_icmp_ge C 41 dX6_digest_25 (by decide) (fun c_5 => ?_) (fun c_5 => ?_)
      · skip
        show G X 0 0 [wX ax (bo 0) (tr 0) (ac 0) (ah 0) (at_ 0), wB E bo β, wB E tr τ, wC E ac (fX6_digest_S0 β γ η θ), wH E ah bd η, wT E at_ θ, wB E (bd 2) (σ 2), wB E (bd 3) (σ 3), wB E (bd 4) (σ 4), wB E (bd 5) (σ 5), wB E (bd 6) (σ 6), wB E (bd 7) (σ 7), wB E (bd 8) (σ 8), wB E (bd 9) (σ 9)] [(0, .ref ax), (1, .long ((lpF (fX6_digest_L17 β γ η θ) ((fX6_mixed 4211 ((β.1 0).toInt64)), γ) (cnt β)).1)), (3, .int (nI (cnt β)))] 41 []
        skip
        show G X 0 0 [wX ax (bo 0) (tr 0) (ac 0) (ah 0) (at_ 0), wB E bo β, wB E tr τ, wC E ac (fX6_digest_S0 β γ η θ), wH E ah bd η, wT E at_ θ, wB E (bd 2) (σ 2), wB E (bd 3) (σ 3), wB E (bd 4) (σ 4), wB E (bd 5) (σ 5), wB E (bd 6) (σ 6), wB E (bd 7) (σ 7), wB E (bd 8) (σ 8), wB E (bd 9) (σ 9)] [(0, .ref ax), (1, .long (fX6_digest_V41 β γ η θ)), (3, .int (nI (cnt β)))] 41 []
        refine g_iconst C (v := 0) dX6_digest_41 (by decide) ?_
        refine g_istore_n C (lv1 := [(3, .int 0), (0, .ref ax), (1, .long (fX6_digest_V41 β γ η θ))]) dX6_digest_42 rfl (by decide) rfl ?_
        have hL_8 : ∀ d_6 i43 : Nat, i43 + d_6 = 5 → G X 0 0 [wX ax (bo 0) (tr 0) (ac 0) (ah 0) (at_ 0), wB E bo β, wB E tr τ, wC E ac (fX6_digest_S0 β γ η θ), wH E ah bd η, wT E at_ θ, wB E (bd 2) (σ 2), wB E (bd 3) (σ 3), wB E (bd 4) (σ 4), wB E (bd 5) (σ 5), wB E (bd 6) (σ 6), wB E (bd 7) (σ 7), wB E (bd 8) (σ 8), wB E (bd 9) (σ 9)] [(0, .ref ax), (1, .long (lpF (fX6_digest_L43 β γ η θ) (fX6_digest_V41 β γ η θ) i43)), (3, .int (nI i43))] 43 [] := by
          intro d_6
          induction d_6 with
          | zero =>
            intro i43 hi_7
            obtain rfl : i43 = 5 := by omega
            refine g_iload_n C dX6_digest_43 rfl 2 rfl ?_
            refine g_iconst C (v := 5) dX6_digest_44 (by decide) ?_
            refine g_icmp_ge C 61 dX6_digest_45 (by decide) (fun c_10 => ?_) (fun c_10 => ?_)
            · skip
              show G X 0 0 [wX ax (bo 0) (tr 0) (ac 0) (ah 0) (at_ 0), wB E bo β, wB E tr τ, wC E ac (fX6_digest_S0 β γ η θ), wH E ah bd η, wT E at_ θ, wB E (bd 2) (σ 2), wB E (bd 3) (σ 3), wB E (bd 4) (σ 4), wB E (bd 5) (σ 5), wB E (bd 6) (σ 6), wB E (bd 7) (σ 7), wB E (bd 8) (σ 8), wB E (bd 9) (σ 9)] [(0, .ref ax), (1, .long (fX6_digest_V61 β γ η θ)), (3, .int (nI 5))] 61 []
              refine g_iconst C (v := 0) dX6_digest_61 (by decide) ?_
              refine g_istore_n C (lv1 := [(3, .int 0), (0, .ref ax), (1, .long (fX6_digest_V61 β γ η θ))]) dX6_digest_62 rfl (by decide) rfl ?_
              have hL_13 : ∀ d_11 i63 : Nat, i63 + d_11 = 4 → G X 0 0 [wX ax (bo 0) (tr 0) (ac 0) (ah 0) (at_ 0), wB E bo β, wB E tr τ, wC E ac (fX6_digest_S0 β γ η θ), wH E ah bd η, wT E at_ θ, wB E (bd 2) (σ 2), wB E (bd 3) (σ 3), wB E (bd 4) (σ 4), wB E (bd 5) (σ 5), wB E (bd 6) (σ 6), wB E (bd 7) (σ 7), wB E (bd 8) (σ 8), wB E (bd 9) (σ 9)] [(0, .ref ax), (1, .long (lpF (fX6_digest_L63 β γ η θ) (fX6_digest_V61 β γ η θ) i63)), (3, .int (nI i63))] 63 [] := by
                intro d_11
                induction d_11 with
                | zero =>
                  intro i63 hi_12
                  obtain rfl : i63 = 4 := by omega
                  refine g_iload_n C dX6_digest_63 rfl 2 rfl ?_
                  refine g_iconst C (v := 4) dX6_digest_64 (by decide) ?_
                  refine g_icmp_ge C 81 dX6_digest_65 (by decide) (fun c_15 => ?_) (fun c_15 => ?_)
                  · skip
                    show G X 0 0 [wX ax (bo 0) (tr 0) (ac 0) (ah 0) (at_ 0), wB E bo β, wB E tr τ, wC E ac (fX6_digest_S0 β γ η θ), wH E ah bd η, wT E at_ θ, wB E (bd 2) (σ 2), wB E (bd 3) (σ 3), wB E (bd 4) (σ 4), wB E (bd 5) (σ 5), wB E (bd 6) (σ 6), wB E (bd 7) (σ 7), wB E (bd 8) (σ 8), wB E (bd 9) (σ 9)] [(0, .ref ax), (1, .long (fX6_digest_V81 β γ η θ)), (3, .int (nI 4))] 81 []
                    refine g_lload_n C dX6_digest_81 rfl 1 rfl ?_
                    refine g_aload_n C dX6_digest_82 rfl 0 rfl ?_
                    refine g_getf C (T := TX6) (N := 5) 0 0 rfl rfl rfl inX6 0 (by decide) q1_192 rfl dX6_digest_83 ?_
                    refine g_callS C (cs1 := [wX ax (bo 0) (tr 0) (ac 0) (ah 0) (at_ 0), wB E bo β, wB E tr τ, wC E ac (fX6_digest_S0 β γ η θ), wH E ah bd η, wT E at_ θ, wB E (bd 2) (σ 2), wB E (bd 3) (σ 3), wB E (bd 4) (σ 4), wB E (bd 5) (σ 5), wB E (bd 6) (σ 6), wB E (bd 7) (σ 7), wB E (bd 8) (σ 8), wB E (bd 9) (σ 9)]) (st1 := [.int (fX5_ownerWithMostLeft β), .long (fX6_digest_V81 β γ η θ)]) [.ref (bo 0)] [1] (kX5_ownerWithMostLeft l E bo β) caX5_ownerWithMostLeft q2_83 rfl ⟨Nat.le_of_ble_eq_true rfl, Nat.le_of_ble_eq_true rfl⟩ ⟨Nat.zero_le _, Nat.zero_le _⟩ (by decide) rfl rfl rfl rfl (Nat.le_of_ble_eq_true rfl) dX6_digest_86 rfl ?_
                    refine g_i2l C dX6_digest_89 ?_
                    refine g_callS C (cs1 := [wX ax (bo 0) (tr 0) (ac 0) (ah 0) (at_ 0), wB E bo β, wB E tr τ, wC E ac (fX6_digest_S0 β γ η θ), wH E ah bd η, wT E at_ θ, wB E (bd 2) (σ 2), wB E (bd 3) (σ 3), wB E (bd 4) (σ 4), wB E (bd 5) (σ 5), wB E (bd 6) (σ 6), wB E (bd 7) (σ 7), wB E (bd 8) (σ 8), wB E (bd 9) (σ 9)]) (st1 := [.long (fX6_mixed (fX6_digest_V81 β γ η θ) ((fX5_ownerWithMostLeft β).toInt64))]) [.long (fX6_digest_V81 β γ η θ), .long ((fX5_ownerWithMostLeft β).toInt64)] [] (kX6_mixed l E (fX6_digest_V81 β γ η θ) ((fX5_ownerWithMostLeft β).toInt64)) caX6_mixed q2_179 rfl ⟨Nat.le_of_ble_eq_true rfl, Nat.le_of_ble_eq_true rfl⟩ ⟨Nat.zero_le _, Nat.zero_le _⟩ (by decide) rfl rfl rfl rfl (Nat.le_of_ble_eq_true rfl) dX6_digest_90 rfl ?_
                    refine g_lstore_n C (lv1 := [(1, .long (fX6_mixed (fX6_digest_V81 β γ η θ) ((fX5_ownerWithMostLeft β).toInt64))), (0, .ref ax), (3, .int (nI 4))]) dX6_digest_93 rfl (by decide) rfl ?_
                    show G X 0 0 [wX ax (bo 0) (tr 0) (ac 0) (ah 0) (at_ 0), wB E bo β, wB E tr τ, wC E ac (fX6_digest_S0 β γ η θ), wH E ah bd η, wT E at_ θ, wB E (bd 2) (σ 2), wB E (bd 3) (σ 3), wB E (bd 4) (σ 4), wB E (bd 5) (σ 5), wB E (bd 6) (σ 6), wB E (bd 7) (σ 7), wB E (bd 8) (σ 8), wB E (bd 9) (σ 9)] [(1, .long (fX6_digest_V94 β γ η θ)), (0, .ref ax), (3, .int (nI 4))] 94 []
                    refine g_lload_n C dX6_digest_94 rfl 0 rfl ?_
                    refine g_aload_n C dX6_digest_95 rfl 1 rfl ?_
                    refine g_getf C (T := TX6) (N := 5) 0 0 rfl rfl rfl inX6 2 (by decide) q1_194 rfl dX6_digest_96 ?_
                    refine g_aload_n C dX6_digest_99 rfl 1 rfl ?_
                    refine g_getf C (T := TX6) (N := 5) 0 0 rfl rfl rfl inX6 0 (by decide) q1_192 rfl dX6_digest_100 ?_
                    refine g_callV C (cs1 := [wX ax (bo 0) (tr 0) (ac 0) (ah 0) (at_ 0), wB E bo β, wB E tr τ, wC E ac ((fX1_mostPointsByTrying (fX6_digest_S0 β γ η θ) β).2), wH E ah bd η, wT E at_ θ, wB E (bd 2) (σ 2), wB E (bd 3) (σ 3), wB E (bd 4) (σ 4), wB E (bd 5) (σ 5), wB E (bd 6) (σ 6), wB E (bd 7) (σ 7), wB E (bd 8) (σ 8), wB E (bd 9) (σ 9)]) (st1 := [.int ((fX1_mostPointsByTrying (fX6_digest_S0 β γ η θ) β).1), .long (fX6_digest_V94 β γ η θ)]) [.ref (bo 0)] [3, 1] (kX1_mostPointsByTrying l E ac (fX6_digest_S0 β γ η θ) bo β hv) caX1_mostPointsByTrying q2_36 rfl ⟨Nat.le_of_ble_eq_true rfl, Nat.le_of_ble_eq_true rfl⟩ ⟨Nat.zero_le _, Nat.zero_le _⟩ 3 0 rfl rfl rfl rfl (by decide) rfl rfl rfl rfl (Nat.le_of_ble_eq_true rfl) dX6_digest_103 rfl ?_
                    refine g_i2l C dX6_digest_106 ?_
                    refine g_callS C (cs1 := [wX ax (bo 0) (tr 0) (ac 0) (ah 0) (at_ 0), wB E bo β, wB E tr τ, wC E ac ((fX1_mostPointsByTrying (fX6_digest_S0 β γ η θ) β).2), wH E ah bd η, wT E at_ θ, wB E (bd 2) (σ 2), wB E (bd 3) (σ 3), wB E (bd 4) (σ 4), wB E (bd 5) (σ 5), wB E (bd 6) (σ 6), wB E (bd 7) (σ 7), wB E (bd 8) (σ 8), wB E (bd 9) (σ 9)]) (st1 := [.long (fX6_mixed (fX6_digest_V94 β γ η θ) (((fX1_mostPointsByTrying (fX6_digest_S0 β γ η θ) β).1).toInt64))]) [.long (fX6_digest_V94 β γ η θ), .long (((fX1_mostPointsByTrying (fX6_digest_S0 β γ η θ) β).1).toInt64)] [] (kX6_mixed l E (fX6_digest_V94 β γ η θ) (((fX1_mostPointsByTrying (fX6_digest_S0 β γ η θ) β).1).toInt64)) caX6_mixed q2_179 rfl ⟨Nat.le_of_ble_eq_true rfl, Nat.le_of_ble_eq_true rfl⟩ ⟨Nat.zero_le _, Nat.zero_le _⟩ (by decide) rfl rfl rfl rfl (Nat.le_of_ble_eq_true rfl) dX6_digest_107 rfl ?_
                    refine g_lstore_n C (lv1 := [(1, .long (fX6_mixed (fX6_digest_V94 β γ η θ) (((fX1_mostPointsByTrying (fX6_digest_S0 β γ η θ) β).1).toInt64))), (0, .ref ax), (3, .int (nI 4))]) dX6_digest_110 rfl (by decide) rfl ?_
                    show G X 0 0 [wX ax (bo 0) (tr 0) (ac 0) (ah 0) (at_ 0), wB E bo β, wB E tr τ, wC E ac (fX6_digest_S1 β γ η θ), wH E ah bd η, wT E at_ θ, wB E (bd 2) (σ 2), wB E (bd 3) (σ 3), wB E (bd 4) (σ 4), wB E (bd 5) (σ 5), wB E (bd 6) (σ 6), wB E (bd 7) (σ 7), wB E (bd 8) (σ 8), wB E (bd 9) (σ 9)] [(1, .long (fX6_mixed (fX6_digest_V94 β γ η θ) (((fX1_mostPointsByTrying (fX6_digest_S0 β γ η θ) β).1).toInt64))), (0, .ref ax), (3, .int (nI 4))] 111 []
                    skip
                    show G X 0 0 [wX ax (bo 0) (tr 0) (ac 0) (ah 0) (at_ 0), wB E bo β, wB E tr τ, wC E ac (fX6_digest_S1 β γ η θ), wH E ah bd η, wT E at_ θ, wB E (bd 2) (σ 2), wB E (bd 3) (σ 3), wB E (bd 4) (σ 4), wB E (bd 5) (σ 5), wB E (bd 6) (σ 6), wB E (bd 7) (σ 7), wB E (bd 8) (σ 8), wB E (bd 9) (σ 9)] [(1, .long (fX6_digest_V111 β γ η θ)), (0, .ref ax), (3, .int (nI 4))] 111 []
                    refine g_lload_n C dX6_digest_111 rfl 0 rfl ?_
                    refine g_aload_n C dX6_digest_112 rfl 1 rfl ?_
                    refine g_getf C (T := TX6) (N := 5) 0 0 rfl rfl rfl inX6 2 (by decide) q1_194 rfl dX6_digest_113 ?_
                    refine g_aload_n C dX6_digest_116 rfl 1 rfl ?_
                    refine g_getf C (T := TX6) (N := 5) 0 0 rfl rfl rfl inX6 0 (by decide) q1_192 rfl dX6_digest_117 ?_
                    refine g_callV C (cs1 := [wX ax (bo 0) (tr 0) (ac 0) (ah 0) (at_ 0), wB E bo β, wB E tr τ, wC E ac ((fX1_mostPointsByOrder (fX6_digest_S1 β γ η θ) β).2), wH E ah bd η, wT E at_ θ, wB E (bd 2) (σ 2), wB E (bd 3) (σ 3), wB E (bd 4) (σ 4), wB E (bd 5) (σ 5), wB E (bd 6) (σ 6), wB E (bd 7) (σ 7), wB E (bd 8) (σ 8), wB E (bd 9) (σ 9)]) (st1 := [.int ((fX1_mostPointsByOrder (fX6_digest_S1 β γ η θ) β).1), .long (fX6_digest_V111 β γ η θ)]) [.ref (bo 0)] [3, 1] (kX1_mostPointsByOrder l E ac (fX6_digest_S1 β γ η θ) bo β hv) caX1_mostPointsByOrder q2_64 rfl ⟨Nat.le_of_ble_eq_true rfl, Nat.le_of_ble_eq_true rfl⟩ ⟨Nat.zero_le _, Nat.zero_le _⟩ 3 0 rfl rfl rfl rfl (by decide) rfl rfl rfl rfl (Nat.le_of_ble_eq_true rfl) dX6_digest_120 rfl ?_
                    refine g_i2l C dX6_digest_123 ?_
                    refine g_callS C (cs1 := [wX ax (bo 0) (tr 0) (ac 0) (ah 0) (at_ 0), wB E bo β, wB E tr τ, wC E ac ((fX1_mostPointsByOrder (fX6_digest_S1 β γ η θ) β).2), wH E ah bd η, wT E at_ θ, wB E (bd 2) (σ 2), wB E (bd 3) (σ 3), wB E (bd 4) (σ 4), wB E (bd 5) (σ 5), wB E (bd 6) (σ 6), wB E (bd 7) (σ 7), wB E (bd 8) (σ 8), wB E (bd 9) (σ 9)]) (st1 := [.long (fX6_mixed (fX6_digest_V111 β γ η θ) (((fX1_mostPointsByOrder (fX6_digest_S1 β γ η θ) β).1).toInt64))]) [.long (fX6_digest_V111 β γ η θ), .long (((fX1_mostPointsByOrder (fX6_digest_S1 β γ η θ) β).1).toInt64)] [] (kX6_mixed l E (fX6_digest_V111 β γ η θ) (((fX1_mostPointsByOrder (fX6_digest_S1 β γ η θ) β).1).toInt64)) caX6_mixed q2_179 rfl ⟨Nat.le_of_ble_eq_true rfl, Nat.le_of_ble_eq_true rfl⟩ ⟨Nat.zero_le _, Nat.zero_le _⟩ (by decide) rfl rfl rfl rfl (Nat.le_of_ble_eq_true rfl) dX6_digest_124 rfl ?_
                    refine g_lstore_n C (lv1 := [(1, .long (fX6_mixed (fX6_digest_V111 β γ η θ) (((fX1_mostPointsByOrder (fX6_digest_S1 β γ η θ) β).1).toInt64))), (0, .ref ax), (3, .int (nI 4))]) dX6_digest_127 rfl (by decide) rfl ?_
                    show G X 0 0 [wX ax (bo 0) (tr 0) (ac 0) (ah 0) (at_ 0), wB E bo β, wB E tr τ, wC E ac (fX6_digest_S2 β γ η θ), wH E ah bd η, wT E at_ θ, wB E (bd 2) (σ 2), wB E (bd 3) (σ 3), wB E (bd 4) (σ 4), wB E (bd 5) (σ 5), wB E (bd 6) (σ 6), wB E (bd 7) (σ 7), wB E (bd 8) (σ 8), wB E (bd 9) (σ 9)] [(1, .long (fX6_mixed (fX6_digest_V111 β γ η θ) (((fX1_mostPointsByOrder (fX6_digest_S1 β γ η θ) β).1).toInt64))), (0, .ref ax), (3, .int (nI 4))] 128 []
                    skip
                    show G X 0 0 [wX ax (bo 0) (tr 0) (ac 0) (ah 0) (at_ 0), wB E bo β, wB E tr τ, wC E ac (fX6_digest_S2 β γ η θ), wH E ah bd η, wT E at_ θ, wB E (bd 2) (σ 2), wB E (bd 3) (σ 3), wB E (bd 4) (σ 4), wB E (bd 5) (σ 5), wB E (bd 6) (σ 6), wB E (bd 7) (σ 7), wB E (bd 8) (σ 8), wB E (bd 9) (σ 9)] [(1, .long (fX6_digest_V128 β γ η θ)), (0, .ref ax), (3, .int (nI 4))] 128 []
                    refine g_aload_n C dX6_digest_128 rfl 1 rfl ?_
                    refine g_lload_n C dX6_digest_129 rfl 0 rfl ?_
                    refine g_callV C (cs1 := [wX ax (bo 0) (tr 0) (ac 0) (ah 0) (at_ 0), wB E bo β, wB E tr τ, wC E ac ((fX6_withWhatToDo β (fX6_digest_S2 β γ η θ) (fX6_digest_V128 β γ η θ)).2), wH E ah bd η, wT E at_ θ, wB E (bd 2) (σ 2), wB E (bd 3) (σ 3), wB E (bd 4) (σ 4), wB E (bd 5) (σ 5), wB E (bd 6) (σ 6), wB E (bd 7) (σ 7), wB E (bd 8) (σ 8), wB E (bd 9) (σ 9)]) (st1 := [.long ((fX6_withWhatToDo β (fX6_digest_S2 β γ η θ) (fX6_digest_V128 β γ η θ)).1)]) [.long (fX6_digest_V128 β γ η θ)] [0, 1, 2, 3, 4, 5, 6, 7, 8, 9, 10, 11, 12, 13] (kX6_withWhatToDo l E ax bo β tr τ ac (fX6_digest_S2 β γ η θ) ah bd η σ at_ θ hv (fX6_digest_V128 β γ η θ)) caX6_withWhatToDo q3_14 rfl ⟨Nat.le_of_ble_eq_true rfl, Nat.le_of_ble_eq_true rfl⟩ ⟨Nat.zero_le _, Nat.zero_le _⟩ 0 0 rfl rfl rfl rfl (by decide) rfl rfl rfl rfl (Nat.le_of_ble_eq_true rfl) dX6_digest_130 rfl ?_
                    refine g_lstore_n C (lv1 := [(1, .long ((fX6_withWhatToDo β (fX6_digest_S2 β γ η θ) (fX6_digest_V128 β γ η θ)).1)), (0, .ref ax), (3, .int (nI 4))]) dX6_digest_133 rfl (by decide) rfl ?_
                    show G X 0 0 [wX ax (bo 0) (tr 0) (ac 0) (ah 0) (at_ 0), wB E bo β, wB E tr τ, wC E ac (fX6_digest_S3 β γ η θ), wH E ah bd η, wT E at_ θ, wB E (bd 2) (σ 2), wB E (bd 3) (σ 3), wB E (bd 4) (σ 4), wB E (bd 5) (σ 5), wB E (bd 6) (σ 6), wB E (bd 7) (σ 7), wB E (bd 8) (σ 8), wB E (bd 9) (σ 9)] [(1, .long ((fX6_withWhatToDo β (fX6_digest_S2 β γ η θ) (fX6_digest_V128 β γ η θ)).1)), (0, .ref ax), (3, .int (nI 4))] 134 []
                    skip
                    show G X 0 0 [wX ax (bo 0) (tr 0) (ac 0) (ah 0) (at_ 0), wB E bo β, wB E tr τ, wC E ac (fX6_digest_S3 β γ η θ), wH E ah bd η, wT E at_ θ, wB E (bd 2) (σ 2), wB E (bd 3) (σ 3), wB E (bd 4) (σ 4), wB E (bd 5) (σ 5), wB E (bd 6) (σ 6), wB E (bd 7) (σ 7), wB E (bd 8) (σ 8), wB E (bd 9) (σ 9)] [(1, .long (fX6_digest_V134 β γ η θ)), (0, .ref ax), (3, .int (nI 4))] 134 []
                    refine g_aload_n C dX6_digest_134 rfl 1 rfl ?_
                    refine g_lload_n C dX6_digest_135 rfl 0 rfl ?_
                    refine g_callV C (cs1 := [wX ax (bo 0) (tr 0) (ac 0) (ah 0) (at_ 0), wB E bo β, wB E tr τ, wC E ac (fX6_digest_S3 β γ η θ), wH E ah bd η, wT E at_ θ, wB E (bd 2) (σ 2), wB E (bd 3) (σ 3), wB E (bd 4) (σ 4), wB E (bd 5) (σ 5), wB E (bd 6) (σ 6), wB E (bd 7) (σ 7), wB E (bd 8) (σ 8), wB E (bd 9) (σ 9)]) (st1 := [.long (fX6_withAccounts β η (fX6_digest_V134 β γ η θ))]) [.long (fX6_digest_V134 β γ η θ)] [0, 1, 2, 3, 4, 5, 6, 7, 8, 9, 10, 11, 12, 13] (kX6_withAccounts l E ax bo β tr τ ac (fX6_digest_S3 β γ η θ) ah bd η σ at_ θ hv hnn hfp (fX6_digest_V134 β γ η θ)) caX6_withAccounts q3_37 rfl ⟨Nat.le_of_ble_eq_true rfl, Nat.le_of_ble_eq_true rfl⟩ ⟨Nat.zero_le _, Nat.zero_le _⟩ 0 0 rfl rfl rfl rfl (by decide) rfl rfl rfl rfl (Nat.le_of_ble_eq_true rfl) dX6_digest_136 rfl ?_
                    refine g_lstore_n C (lv1 := [(1, .long (fX6_withAccounts β η (fX6_digest_V134 β γ η θ))), (0, .ref ax), (3, .int (nI 4))]) dX6_digest_139 rfl (by decide) rfl ?_
                    show G X 0 0 [wX ax (bo 0) (tr 0) (ac 0) (ah 0) (at_ 0), wB E bo β, wB E tr τ, wC E ac (fX6_digest_S3 β γ η θ), wH E ah bd η, wT E at_ θ, wB E (bd 2) (σ 2), wB E (bd 3) (σ 3), wB E (bd 4) (σ 4), wB E (bd 5) (σ 5), wB E (bd 6) (σ 6), wB E (bd 7) (σ 7), wB E (bd 8) (σ 8), wB E (bd 9) (σ 9)] [(1, .long (fX6_digest_V140 β γ η θ)), (0, .ref ax), (3, .int (nI 4))] 140 []
                    refine g_iconst C (v := 0) dX6_digest_140 (by decide) ?_
                    refine g_istore_n C (lv1 := [(3, .int 0), (1, .long (fX6_digest_V140 β γ η θ)), (0, .ref ax)]) dX6_digest_141 rfl (by decide) rfl ?_
                    have hL_18 : ∀ d_16 i142 : Nat, i142 + d_16 = 2 → G X 0 0 [wX ax (bo 0) (tr 0) (ac 0) (ah 0) (at_ 0), wB E bo β, wB E tr τ, wC E ac (fX6_digest_S3 β γ η θ), wH E ah bd η, wT E at_ θ, wB E (bd 2) (σ 2), wB E (bd 3) (σ 3), wB E (bd 4) (σ 4), wB E (bd 5) (σ 5), wB E (bd 6) (σ 6), wB E (bd 7) (σ 7), wB E (bd 8) (σ 8), wB E (bd 9) (σ 9)] [(0, .ref ax), (1, .long (lpF (fX6_digest_L142 β γ η θ) (fX6_digest_V140 β γ η θ) i142)), (3, .int (nI i142))] 142 [] := by
                      intro d_16
                      induction d_16 with
                      | zero =>
                        intro i142 hi_17
                        obtain rfl : i142 = 2 := by omega
                        refine g_iload_n C dX6_digest_142 rfl 2 rfl ?_
                        refine g_iconst C (v := 2) dX6_digest_143 (by decide) ?_
                        refine g_icmp_ge C 170 dX6_digest_144 (by decide) (fun c_20 => ?_) (fun c_20 => ?_)
                        · skip
                          show G X 0 0 [wX ax (bo 0) (tr 0) (ac 0) (ah 0) (at_ 0), wB E bo β, wB E tr τ, wC E ac (fX6_digest_S3 β γ η θ), wH E ah bd η, wT E at_ θ, wB E (bd 2) (σ 2), wB E (bd 3) (σ 3), wB E (bd 4) (σ 4), wB E (bd 5) (σ 5), wB E (bd 6) (σ 6), wB E (bd 7) (σ 7), wB E (bd 8) (σ 8), wB E (bd 9) (σ 9)] [(0, .ref ax), (1, .long (fX6_digest_V170 β γ η θ)), (3, .int (nI 2))] 170 []
                          refine g_aload_n C dX6_digest_170 rfl 0 rfl ?_
                          refine g_getf C (T := TX6) (N := 5) 0 0 rfl rfl rfl inX6 4 (by decide) q1_196 rfl dX6_digest_171 ?_
                          refine g_lload_n C dX6_digest_174 rfl 1 rfl ?_
                          refine g_callV C (cs1 := [wX ax (bo 0) (tr 0) (ac 0) (ah 0) (at_ 0), wB E bo β, wB E tr τ, wC E ac (fX6_digest_S3 β γ η θ), wH E ah bd η, wT E at_ θ, wB E (bd 2) (σ 2), wB E (bd 3) (σ 3), wB E (bd 4) (σ 4), wB E (bd 5) (σ 5), wB E (bd 6) (σ 6), wB E (bd 7) (σ 7), wB E (bd 8) (σ 8), wB E (bd 9) (σ 9)]) (st1 := [.long (fX4_mixedInto θ (fX6_digest_V170 β γ η θ))]) [.long (fX6_digest_V170 β γ η θ)] [5] (kX4_mixedInto l E at_ θ hvt (fX6_digest_V170 β γ η θ)) caX4_mixedInto q3_51 rfl ⟨Nat.le_of_ble_eq_true rfl, Nat.le_of_ble_eq_true rfl⟩ ⟨Nat.zero_le _, Nat.zero_le _⟩ 5 0 rfl rfl rfl rfl (by decide) rfl rfl rfl rfl (Nat.le_of_ble_eq_true rfl) dX6_digest_175 rfl ?_
                          have e_21 : fX6_digest β γ η θ = ((fX4_mixedInto θ (fX6_digest_V170 β γ η θ)), fX6_digest_S3 β γ η θ) := by rw [fX6_digest]
                          exact g_lret C hE (by rw [e_21]) (by rw [e_21]) dX6_digest_178
                        · exact absurd (lc_le rfl nI_l2 (by omega) (by omega)) c_20
                      | succ d_16 ih_19 =>
                        intro i142 hi_17
                        refine g_iload_n C dX6_digest_142 rfl 2 rfl ?_
                        refine g_iconst C (v := 2) dX6_digest_143 (by decide) ?_
                        refine g_icmp_ge C 170 dX6_digest_144 (by decide) (fun c_22 => ?_) (fun c_22 => ?_)
                        · exact absurd c_22 (lc_nle rfl nI_l2 (by omega) (by omega))
                        · skip
                          refine g_lload_n C dX6_digest_147 rfl 1 rfl ?_
                          refine g_aload_n C dX6_digest_148 rfl 0 rfl ?_
                          refine g_getf C (T := TX6) (N := 5) 0 0 rfl rfl rfl inX6 3 (by decide) q1_195 rfl dX6_digest_149 ?_
                          refine g_iload_n C dX6_digest_152 rfl 2 rfl ?_
                          refine g_callV C (cs1 := [wX ax (bo 0) (tr 0) (ac 0) (ah 0) (at_ 0), wB E bo β, wB E tr τ, wC E ac (fX6_digest_S3 β γ η θ), wH E ah bd η, wT E at_ θ, wB E (bd 2) (σ 2), wB E (bd 3) (σ 3), wB E (bd 4) (σ 4), wB E (bd 5) (σ 5), wB E (bd 6) (σ 6), wB E (bd 7) (σ 7), wB E (bd 8) (σ 8), wB E (bd 9) (σ 9)]) (st1 := [.int (b2i (fX3_hasKept η i142)), .long (lpF (fX6_digest_L142 β γ η θ) (fX6_digest_V140 β γ η θ) i142)]) [.int (nI i142)] [4] (kX3_hasKept l E ah bd η hvh i142 (by omega)) caX3_hasKept q3_47 rfl ⟨Nat.le_of_ble_eq_true rfl, Nat.le_of_ble_eq_true rfl⟩ ⟨Nat.zero_le _, Nat.zero_le _⟩ 4 0 rfl rfl rfl rfl (by decide) rfl rfl rfl rfl (Nat.le_of_ble_eq_true rfl) dX6_digest_153 rfl ?_
                          refine g_callS C (cs1 := [wX ax (bo 0) (tr 0) (ac 0) (ah 0) (at_ 0), wB E bo β, wB E tr τ, wC E ac (fX6_digest_S3 β γ η θ), wH E ah bd η, wT E at_ θ, wB E (bd 2) (σ 2), wB E (bd 3) (σ 3), wB E (bd 4) (σ 4), wB E (bd 5) (σ 5), wB E (bd 6) (σ 6), wB E (bd 7) (σ 7), wB E (bd 8) (σ 8), wB E (bd 9) (σ 9)]) (st1 := [.int (fX6_oneIf (fX3_hasKept η i142)), .long (lpF (fX6_digest_L142 β γ η θ) (fX6_digest_V140 β γ η θ) i142)]) [.int (b2i (fX3_hasKept η i142))] [] (kX6_oneIf l E (fX3_hasKept η i142)) caX6_oneIf q2_192 rfl ⟨Nat.le_of_ble_eq_true rfl, Nat.le_of_ble_eq_true rfl⟩ ⟨Nat.zero_le _, Nat.zero_le _⟩ (by decide) rfl rfl rfl rfl (Nat.le_of_ble_eq_true rfl) dX6_digest_156 rfl ?_
                          refine g_i2l C dX6_digest_159 ?_
                          refine g_callS C (cs1 := [wX ax (bo 0) (tr 0) (ac 0) (ah 0) (at_ 0), wB E bo β, wB E tr τ, wC E ac (fX6_digest_S3 β γ η θ), wH E ah bd η, wT E at_ θ, wB E (bd 2) (σ 2), wB E (bd 3) (σ 3), wB E (bd 4) (σ 4), wB E (bd 5) (σ 5), wB E (bd 6) (σ 6), wB E (bd 7) (σ 7), wB E (bd 8) (σ 8), wB E (bd 9) (σ 9)]) (st1 := [.long (fX6_mixed (lpF (fX6_digest_L142 β γ η θ) (fX6_digest_V140 β γ η θ) i142) ((fX6_oneIf (fX3_hasKept η i142)).toInt64))]) [.long (lpF (fX6_digest_L142 β γ η θ) (fX6_digest_V140 β γ η θ) i142), .long ((fX6_oneIf (fX3_hasKept η i142)).toInt64)] [] (kX6_mixed l E (lpF (fX6_digest_L142 β γ η θ) (fX6_digest_V140 β γ η θ) i142) ((fX6_oneIf (fX3_hasKept η i142)).toInt64)) caX6_mixed q2_179 rfl ⟨Nat.le_of_ble_eq_true rfl, Nat.le_of_ble_eq_true rfl⟩ ⟨Nat.zero_le _, Nat.zero_le _⟩ (by decide) rfl rfl rfl rfl (Nat.le_of_ble_eq_true rfl) dX6_digest_160 rfl ?_
                          refine g_lstore_n C (lv1 := [(1, .long (fX6_mixed (lpF (fX6_digest_L142 β γ η θ) (fX6_digest_V140 β γ η θ) i142) ((fX6_oneIf (fX3_hasKept η i142)).toInt64))), (0, .ref ax), (3, .int (nI i142))]) dX6_digest_163 rfl (by decide) rfl ?_
                          refine g_iinc C (v := nI (i142 + 1)) (lv1 := [(3, .int (nI (i142 + 1))), (1, .long (fX6_mixed (lpF (fX6_digest_L142 β γ η θ) (fX6_digest_V140 β γ η θ) i142) ((fX6_oneIf (fX3_hasKept η i142)).toInt64))), (0, .ref ax)]) dX6_digest_164 2 rfl (nI_1 i142) (by decide) rfl ?_
                          refine g_goto C 142 dX6_digest_167 (by decide) ?_
                          have e_23 : (lpF (fX6_digest_L142 β γ η θ) (fX6_digest_V140 β γ η θ) (i142 + 1)) = (fX6_mixed (lpF (fX6_digest_L142 β γ η θ) (fX6_digest_V140 β γ η θ) i142) ((fX6_oneIf (fX3_hasKept η i142)).toInt64)) := by
                            rw [lpF_1, fX6_digest_L142]
                          have h_24 := ih_19 (i142 + 1) (by omega)
                          rw [e_23] at h_24
                          exact g_sub [2, 1, 0] rfl h_24
                    refine g_sub [2, 1, 0] (lv1 := [(0, .ref ax), (1, .long (fX6_digest_V140 β γ η θ)), (3, .int 0)]) rfl ?_
                    exact hL_18 2 0 (by omega)
                  · exact absurd (lc_le rfl nI_l4 (by omega) (by omega)) c_15
                | succ d_11 ih_14 =>
                  intro i63 hi_12
                  refine g_iload_n C dX6_digest_63 rfl 2 rfl ?_
                  refine g_iconst C (v := 4) dX6_digest_64 (by decide) ?_
                  refine g_icmp_ge C 81 dX6_digest_65 (by decide) (fun c_25 => ?_) (fun c_25 => ?_)
                  · exact absurd c_25 (lc_nle rfl nI_l4 (by omega) (by omega))
                  · skip
                    refine g_aload_n C dX6_digest_68 rfl 0 rfl ?_
                    refine g_lload_n C dX6_digest_69 rfl 1 rfl ?_
                    refine g_iload_n C dX6_digest_70 rfl 2 rfl ?_
                    refine g_callV C (cs1 := [wX ax (bo 0) (tr 0) (ac 0) (ah 0) (at_ 0), wB E bo β, wB E tr τ, wC E ac (fX6_digest_S0 β γ η θ), wH E ah bd η, wT E at_ θ, wB E (bd 2) (σ 2), wB E (bd 3) (σ 3), wB E (bd 4) (σ 4), wB E (bd 5) (σ 5), wB E (bd 6) (σ 6), wB E (bd 7) (σ 7), wB E (bd 8) (σ 8), wB E (bd 9) (σ 9)]) (st1 := [.long (fX6_withMilestone β (lpF (fX6_digest_L63 β γ η θ) (fX6_digest_V61 β γ η θ) i63) i63)]) [.long (lpF (fX6_digest_L63 β γ η θ) (fX6_digest_V61 β γ η θ) i63), .int (nI i63)] [0, 1, 2, 3, 4, 5, 6, 7, 8, 9, 10, 11, 12, 13] (kX6_withMilestone l E ax bo β tr τ ac (fX6_digest_S0 β γ η θ) ah bd η σ at_ θ hv (lpF (fX6_digest_L63 β γ η θ) (fX6_digest_V61 β γ η θ) i63) i63 (by omega)) caX6_withMilestone q2_234 rfl ⟨Nat.le_of_ble_eq_true rfl, Nat.le_of_ble_eq_true rfl⟩ ⟨Nat.zero_le _, Nat.zero_le _⟩ 0 0 rfl rfl rfl rfl (by decide) rfl rfl rfl rfl (Nat.le_of_ble_eq_true rfl) dX6_digest_71 rfl ?_
                    refine g_lstore_n C (lv1 := [(1, .long (fX6_withMilestone β (lpF (fX6_digest_L63 β γ η θ) (fX6_digest_V61 β γ η θ) i63) i63)), (0, .ref ax), (3, .int (nI i63))]) dX6_digest_74 rfl (by decide) rfl ?_
                    refine g_iinc C (v := nI (i63 + 1)) (lv1 := [(3, .int (nI (i63 + 1))), (1, .long (fX6_withMilestone β (lpF (fX6_digest_L63 β γ η θ) (fX6_digest_V61 β γ η θ) i63) i63)), (0, .ref ax)]) dX6_digest_75 2 rfl (nI_1 i63) (by decide) rfl ?_
                    refine g_goto C 63 dX6_digest_78 (by decide) ?_
                    have e_26 : (lpF (fX6_digest_L63 β γ η θ) (fX6_digest_V61 β γ η θ) (i63 + 1)) = (fX6_withMilestone β (lpF (fX6_digest_L63 β γ η θ) (fX6_digest_V61 β γ η θ) i63) i63) := by
                      rw [lpF_1, fX6_digest_L63]
                    have h_27 := ih_14 (i63 + 1) (by omega)
                    rw [e_26] at h_27
                    exact g_sub [2, 1, 0] rfl h_27
              refine g_sub [1, 2, 0] (lv1 := [(0, .ref ax), (1, .long (fX6_digest_V61 β γ η θ)), (3, .int 0)]) rfl ?_
              exact hL_13 4 0 (by omega)
            · exact absurd (lc_le rfl nI_l5 (by omega) (by omega)) c_10
          | succ d_6 ih_9 =>
            intro i43 hi_7
            refine g_iload_n C dX6_digest_43 rfl 2 rfl ?_
            refine g_iconst C (v := 5) dX6_digest_44 (by decide) ?_
            refine g_icmp_ge C 61 dX6_digest_45 (by decide) (fun c_28 => ?_) (fun c_28 => ?_)
            · exact absurd c_28 (lc_nle rfl nI_l5 (by omega) (by omega))
            · skip
              refine g_aload_n C dX6_digest_48 rfl 0 rfl ?_
              refine g_lload_n C dX6_digest_49 rfl 1 rfl ?_
              refine g_iload_n C dX6_digest_50 rfl 2 rfl ?_
              refine g_callV C (cs1 := [wX ax (bo 0) (tr 0) (ac 0) (ah 0) (at_ 0), wB E bo β, wB E tr τ, wC E ac (fX6_digest_S0 β γ η θ), wH E ah bd η, wT E at_ θ, wB E (bd 2) (σ 2), wB E (bd 3) (σ 3), wB E (bd 4) (σ 4), wB E (bd 5) (σ 5), wB E (bd 6) (σ 6), wB E (bd 7) (σ 7), wB E (bd 8) (σ 8), wB E (bd 9) (σ 9)]) (st1 := [.long (fX6_withOwner β (lpF (fX6_digest_L43 β γ η θ) (fX6_digest_V41 β γ η θ) i43) i43)]) [.long (lpF (fX6_digest_L43 β γ η θ) (fX6_digest_V41 β γ η θ) i43), .int (nI i43)] [0, 1, 2, 3, 4, 5, 6, 7, 8, 9, 10, 11, 12, 13] (kX6_withOwner l E ax bo β tr τ ac (fX6_digest_S0 β γ η θ) ah bd η σ at_ θ hv (lpF (fX6_digest_L43 β γ η θ) (fX6_digest_V41 β γ η θ) i43) i43 (by omega)) caX6_withOwner q2_213 rfl ⟨Nat.le_of_ble_eq_true rfl, Nat.le_of_ble_eq_true rfl⟩ ⟨Nat.zero_le _, Nat.zero_le _⟩ 0 0 rfl rfl rfl rfl (by decide) rfl rfl rfl rfl (Nat.le_of_ble_eq_true rfl) dX6_digest_51 rfl ?_
              refine g_lstore_n C (lv1 := [(1, .long (fX6_withOwner β (lpF (fX6_digest_L43 β γ η θ) (fX6_digest_V41 β γ η θ) i43) i43)), (0, .ref ax), (3, .int (nI i43))]) dX6_digest_54 rfl (by decide) rfl ?_
              refine g_iinc C (v := nI (i43 + 1)) (lv1 := [(3, .int (nI (i43 + 1))), (1, .long (fX6_withOwner β (lpF (fX6_digest_L43 β γ η θ) (fX6_digest_V41 β γ η θ) i43) i43)), (0, .ref ax)]) dX6_digest_55 2 rfl (nI_1 i43) (by decide) rfl ?_
              refine g_goto C 43 dX6_digest_58 (by decide) ?_
              have e_29 : (lpF (fX6_digest_L43 β γ η θ) (fX6_digest_V41 β γ η θ) (i43 + 1)) = (fX6_withOwner β (lpF (fX6_digest_L43 β γ η θ) (fX6_digest_V41 β γ η θ) i43) i43) := by
                rw [lpF_1, fX6_digest_L43]
              have h_30 := ih_9 (i43 + 1) (by omega)
              rw [e_29] at h_30
              exact g_sub [2, 1, 0] rfl h_30
        refine g_sub [1, 2, 0] (lv1 := [(0, .ref ax), (1, .long (fX6_digest_V41 β γ η θ)), (3, .int 0)]) rfl ?_
        exact hL_8 5 0 (by omega)
      · exact absurd (lc_le rfl hv.2.1 (by omega) (by omega)) c_5
    | succ d_1 ih_4 =>
      intro i17 hi_2
      refine g_iload_n C dX6_digest_17 rfl 2 rfl ?_
      refine g_aload_n C dX6_digest_18 rfl 0 rfl ?_
      refine g_getf C (T := TX6) (N := 5) 0 0 rfl rfl rfl inX6 0 (by decide) q1_192 rfl dX6_digest_19 ?_
      refine g_getf C (T := TX0) (N := 17) 1 0 rfl rfl rfl inX0 0 (by decide) q1_36 rfl dX6_digest_22 ?_
      refine g_icmp_ge C 41 dX6_digest_25 (by decide) (fun c_31 => ?_) (fun c_31 => ?_)
      · exact absurd c_31 (lc_nle rfl hv.2.1 (by omega) (by omega))
      · skip
        refine g_aload_n C dX6_digest_28 rfl 0 rfl ?_
        refine g_lload_n C dX6_digest_29 rfl 1 rfl ?_
        refine g_iload_n C dX6_digest_30 rfl 2 rfl ?_
        refine g_callV C (cs1 := [wX ax (bo 0) (tr 0) (ac 0) (ah 0) (at_ 0), wB E bo β, wB E tr τ, wC E ac ((fX6_withTicket β ((lpF (fX6_digest_L17 β γ η θ) ((fX6_mixed 4211 ((β.1 0).toInt64)), γ) i17).2) ((lpF (fX6_digest_L17 β γ η θ) ((fX6_mixed 4211 ((β.1 0).toInt64)), γ) i17).1) i17).2), wH E ah bd η, wT E at_ θ, wB E (bd 2) (σ 2), wB E (bd 3) (σ 3), wB E (bd 4) (σ 4), wB E (bd 5) (σ 5), wB E (bd 6) (σ 6), wB E (bd 7) (σ 7), wB E (bd 8) (σ 8), wB E (bd 9) (σ 9)]) (st1 := [.long ((fX6_withTicket β ((lpF (fX6_digest_L17 β γ η θ) ((fX6_mixed 4211 ((β.1 0).toInt64)), γ) i17).2) ((lpF (fX6_digest_L17 β γ η θ) ((fX6_mixed 4211 ((β.1 0).toInt64)), γ) i17).1) i17).1)]) [.long ((lpF (fX6_digest_L17 β γ η θ) ((fX6_mixed 4211 ((β.1 0).toInt64)), γ) i17).1), .int (nI i17)] [0, 1, 2, 3, 4, 5, 6, 7, 8, 9, 10, 11, 12, 13] (kX6_withTicket l E ax bo β tr τ ac ((lpF (fX6_digest_L17 β γ η θ) ((fX6_mixed 4211 ((β.1 0).toInt64)), γ) i17).2) ah bd η σ at_ θ hv ((lpF (fX6_digest_L17 β γ η θ) ((fX6_mixed 4211 ((β.1 0).toInt64)), γ) i17).1) i17 (by omega)) caX6_withTicket q2_183 rfl ⟨Nat.le_of_ble_eq_true rfl, Nat.le_of_ble_eq_true rfl⟩ ⟨Nat.zero_le _, Nat.zero_le _⟩ 0 0 rfl rfl rfl rfl (by decide) rfl rfl rfl rfl (Nat.le_of_ble_eq_true rfl) dX6_digest_31 rfl ?_
        refine g_lstore_n C (lv1 := [(1, .long ((fX6_withTicket β ((lpF (fX6_digest_L17 β γ η θ) ((fX6_mixed 4211 ((β.1 0).toInt64)), γ) i17).2) ((lpF (fX6_digest_L17 β γ η θ) ((fX6_mixed 4211 ((β.1 0).toInt64)), γ) i17).1) i17).1)), (0, .ref ax), (3, .int (nI i17))]) dX6_digest_34 rfl (by decide) rfl ?_
        refine g_iinc C (v := nI (i17 + 1)) (lv1 := [(3, .int (nI (i17 + 1))), (1, .long ((fX6_withTicket β ((lpF (fX6_digest_L17 β γ η θ) ((fX6_mixed 4211 ((β.1 0).toInt64)), γ) i17).2) ((lpF (fX6_digest_L17 β γ η θ) ((fX6_mixed 4211 ((β.1 0).toInt64)), γ) i17).1) i17).1)), (0, .ref ax)]) dX6_digest_35 2 rfl (nI_1 i17) (by decide) rfl ?_
        refine g_goto C 17 dX6_digest_38 (by decide) ?_
        have e_32 : (lpF (fX6_digest_L17 β γ η θ) ((fX6_mixed 4211 ((β.1 0).toInt64)), γ) (i17 + 1)) = ((fX6_withTicket β ((lpF (fX6_digest_L17 β γ η θ) ((fX6_mixed 4211 ((β.1 0).toInt64)), γ) i17).2) ((lpF (fX6_digest_L17 β γ η θ) ((fX6_mixed 4211 ((β.1 0).toInt64)), γ) i17).1) i17).1, (fX6_withTicket β ((lpF (fX6_digest_L17 β γ η θ) ((fX6_mixed 4211 ((β.1 0).toInt64)), γ) i17).2) ((lpF (fX6_digest_L17 β γ η θ) ((fX6_mixed 4211 ((β.1 0).toInt64)), γ) i17).1) i17).2) := by
          rw [lpF_1, fX6_digest_L17]
        have h_33 := ih_4 (i17 + 1) (by omega)
        rw [e_32] at h_33
        exact g_sub [2, 1, 0] rfl h_33
  refine g_sub [2, 1, 0] (lv1 := [(0, .ref ax), (1, .long (fX6_mixed 4211 ((β.1 0).toInt64))), (3, .int 0)]) rfl ?_
  exact hL_3 (cnt β) 0 (by omega)
