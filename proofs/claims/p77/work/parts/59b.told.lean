def fL_low (v : Int32) (n : Int32) : Int32 :=
  iremF (v &&& 2147483647) n
theorem caL_low : gCalS yL_low cL_low 2 (some .int) 2 := ⟨⟨q3_28, q1_0, by decide +kernel⟩, q3_27⟩
set_option maxHeartbeats 4000000 in
set_option maxRecDepth 100000 in
theorem kL_low (l : Launch) (E : gE)  (v : Int32) (n : Int32) (hn : ¬ n = 0) : MC l E yL_low cL_low 2 (some .int) 0 0 [.int v, .int n] [] (some (.int (fL_low v n))) [] := by
  refine mc_of (by decide +kernel) (Nat.le_of_ble_eq_true rfl) (lv := [(0, .int v), (1, .int n)]) rfl (fun X C hE => ?_)
  refine g_iload_n C dL_low_0 rfl 0 rfl ?_
  refine g_ldc C q3_29 dL_low_1 ?_
  refine g_iand C dL_low_3 ?_
  refine g_iload_n C dL_low_4 rfl 1 rfl ?_
  refine g_irem C dL_low_5 hn ?_
  have e_1 : fL_low v n = iremF (v &&& 2147483647) n := by rw [fL_low]
  exact g_iret C hE (by rw [e_1]; rfl) rfl dL_low_6
def fL_told_L246 (β : BS) (γ : BS) (i246 : Nat) (t246 : Int64) : Int64 :=
  (31 * ((31 * t246) + ((fT_dateOf β i246).toInt64))) + ((fT_pointsLeft β i246).toInt64)
def fL_told_L209 (β : BS) (γ : BS) (i209 : Nat) (t209 : Int64) : Int64 :=
  (31 * ((31 * t209) + ((fT_capacityOf β i209).toInt64))) + ((fT_loadByAccount β i209).toInt64)
def fL_told_L60 (β : BS) (γ : BS) (i60 : Nat) (t60 : Int64) : Int64 :=
  if (fT_hasOwner β i60) = true then (if (fT_isPlanned β i60) = true then (31 * ((31 * ((31 * ((31 * ((31 * ((31 * ((31 * ((31 * ((31 * t60) + ((fT_stateOf β i60).toInt64))) + ((fT_pointsOf β i60).toInt64))) + ((fT_priorityOf β i60).toInt64))) + ((1 + (fT_ownerOf β i60)).toInt64))) + ((1 + (fT_milestoneOf β i60)).toInt64))) + ((fT_daysInProgress β i60).toInt64))) + ((fT_timesSentBack β i60).toInt64))) + ((fT_needsOf β i60).toInt64))) + ((fT_chainOf β i60).toInt64) else (31 * ((31 * ((31 * ((31 * ((31 * ((31 * ((31 * ((31 * ((31 * t60) + ((fT_stateOf β i60).toInt64))) + ((fT_pointsOf β i60).toInt64))) + ((fT_priorityOf β i60).toInt64))) + ((1 + (fT_ownerOf β i60)).toInt64))) + ((0 : Int32).toInt64))) + ((fT_daysInProgress β i60).toInt64))) + ((fT_timesSentBack β i60).toInt64))) + ((fT_needsOf β i60).toInt64))) + ((fT_chainOf β i60).toInt64)) else (if (fT_isPlanned β i60) = true then (31 * ((31 * ((31 * ((31 * ((31 * ((31 * ((31 * ((31 * ((31 * t60) + ((fT_stateOf β i60).toInt64))) + ((fT_pointsOf β i60).toInt64))) + ((fT_priorityOf β i60).toInt64))) + ((0 : Int32).toInt64))) + ((1 + (fT_milestoneOf β i60)).toInt64))) + ((fT_daysInProgress β i60).toInt64))) + ((fT_timesSentBack β i60).toInt64))) + ((fT_needsOf β i60).toInt64))) + ((fT_chainOf β i60).toInt64) else (31 * ((31 * ((31 * ((31 * ((31 * ((31 * ((31 * ((31 * ((31 * t60) + ((fT_stateOf β i60).toInt64))) + ((fT_pointsOf β i60).toInt64))) + ((fT_priorityOf β i60).toInt64))) + ((0 : Int32).toInt64))) + ((0 : Int32).toInt64))) + ((fT_daysInProgress β i60).toInt64))) + ((fT_timesSentBack β i60).toInt64))) + ((fT_needsOf β i60).toInt64))) + ((fT_chainOf β i60).toInt64))
def fL_told (β : BS) (γ : BS) : Int64 × BS :=
  ((lpF (fL_told_L246 β γ) (lpF (fL_told_L209 β γ) (lpF (fL_told_L60 β γ) ((31 * ((31 * ((31 * ((31 * ((31 * 3) + ((fT_tickets β).toInt64))) + ((fT_day β).toInt64))) + ((fT_closings β).toInt64))) + ((fT_reopenings β).toInt64))) + (((fT_criticalByOrder β γ).1).toInt64)) (cnt β)) 5) 4), (fT_criticalByOrder β γ).2)
theorem caL_told : gCalS yL_told cL_told 4 (some .long) 1 := ⟨⟨q2_154, q1_0, by decide +kernel⟩, q2_153⟩
set_option maxHeartbeats 4000000 in
set_option maxRecDepth 100000 in
theorem kL_told (l : Launch) (E : gE) (ax : Nat) (bo : Nat → Nat) (β : BS) (tr : Nat → Nat) (τ : BS) (ac : Nat → Nat) (γ : BS) (ah : Nat → Nat) (bd : Nat → Nat → Nat) (η : BS) (σ : Nat → BS) (at_ : Nat → Nat) (θ : BS) (hv : vB β)   : MC l E yL_told cL_told 4 (some .long) 5 112 [.ref ax] [wX ax (bo 0) (tr 0) (ac 0) (ah 0) (at_ 0), wB E bo β, wB E tr τ, wC E ac γ, wH E ah bd η, wT E at_ θ, wB E (bd 2) (σ 2), wB E (bd 3) (σ 3), wB E (bd 4) (σ 4), wB E (bd 5) (σ 5), wB E (bd 6) (σ 6), wB E (bd 7) (σ 7), wB E (bd 8) (σ 8), wB E (bd 9) (σ 9)] (some (.long (fL_told β γ).1)) [wX ax (bo 0) (tr 0) (ac 0) (ah 0) (at_ 0), wB E bo β, wB E tr τ, wC E ac ((fL_told β γ).2), wH E ah bd η, wT E at_ θ, wB E (bd 2) (σ 2), wB E (bd 3) (σ 3), wB E (bd 4) (σ 4), wB E (bd 5) (σ 5), wB E (bd 6) (σ 6), wB E (bd 7) (σ 7), wB E (bd 8) (σ 8), wB E (bd 9) (σ 9)] := by
  have hv1 : cnt β ≤ 20 := hv.1
  refine mc_of (by decide +kernel) (Nat.le_of_ble_eq_true rfl) (lv := [(0, .ref ax)]) rfl (fun X C hE => ?_)
  refine g_ldc2 C q2_155 dL_told_0 ?_
  refine g_lstore_n C (lv1 := [(1, .long 3), (0, .ref ax)]) dL_told_3 rfl (by decide) rfl ?_
  refine g_ldc2 C q2_156 dL_told_4 ?_
  refine g_ldc2 C q2_156 dL_told_7 ?_
  refine g_ldc2 C q2_156 dL_told_10 ?_
  refine g_lload_n C dL_told_13 rfl 0 rfl ?_
  refine g_lmul C dL_told_14 ?_
  refine g_aload_n C dL_told_15 rfl 1 rfl ?_
  refine g_callV C (cs1 := [wX ax (bo 0) (tr 0) (ac 0) (ah 0) (at_ 0), wB E bo β, wB E tr τ, wC E ac γ, wH E ah bd η, wT E at_ θ, wB E (bd 2) (σ 2), wB E (bd 3) (σ 3), wB E (bd 4) (σ 4), wB E (bd 5) (σ 5), wB E (bd 6) (σ 6), wB E (bd 7) (σ 7), wB E (bd 8) (σ 8), wB E (bd 9) (σ 9)]) (st1 := [.int (fT_tickets β), .long (31 * 3), .long 31, .long 31]) [] [0, 1, 2, 3, 4, 5, 6, 7, 8, 9, 10, 11, 12, 13] (kT_tickets l E ax bo β tr τ ac γ ah bd η σ at_ θ) caX6_tickets q2_55 rfl ⟨Nat.le_of_ble_eq_true rfl, Nat.le_of_ble_eq_true rfl⟩ ⟨Nat.zero_le _, Nat.zero_le _⟩ 0 0 rfl rfl rfl rfl (by decide) rfl rfl rfl rfl (Nat.le_of_ble_eq_true rfl) dL_told_16 rfl ?_
  refine g_i2l C dL_told_19 ?_
  refine g_ladd C dL_told_20 ?_
  refine g_lmul C dL_told_21 ?_
  refine g_aload_n C dL_told_22 rfl 1 rfl ?_
  refine g_callV C (cs1 := [wX ax (bo 0) (tr 0) (ac 0) (ah 0) (at_ 0), wB E bo β, wB E tr τ, wC E ac γ, wH E ah bd η, wT E at_ θ, wB E (bd 2) (σ 2), wB E (bd 3) (σ 3), wB E (bd 4) (σ 4), wB E (bd 5) (σ 5), wB E (bd 6) (σ 6), wB E (bd 7) (σ 7), wB E (bd 8) (σ 8), wB E (bd 9) (σ 9)]) (st1 := [.int (fT_day β), .long (31 * ((31 * 3) + ((fT_tickets β).toInt64))), .long 31]) [] [0, 1, 2, 3, 4, 5, 6, 7, 8, 9, 10, 11, 12, 13] (kT_day l E ax bo β tr τ ac γ ah bd η σ at_ θ) caX6_day q2_138 rfl ⟨Nat.le_of_ble_eq_true rfl, Nat.le_of_ble_eq_true rfl⟩ ⟨Nat.zero_le _, Nat.zero_le _⟩ 0 0 rfl rfl rfl rfl (by decide) rfl rfl rfl rfl (Nat.le_of_ble_eq_true rfl) dL_told_23 rfl ?_
  refine g_i2l C dL_told_26 ?_
  refine g_ladd C dL_told_27 ?_
  refine g_lmul C dL_told_28 ?_
  refine g_aload_n C dL_told_29 rfl 1 rfl ?_
  refine g_callV C (cs1 := [wX ax (bo 0) (tr 0) (ac 0) (ah 0) (at_ 0), wB E bo β, wB E tr τ, wC E ac γ, wH E ah bd η, wT E at_ θ, wB E (bd 2) (σ 2), wB E (bd 3) (σ 3), wB E (bd 4) (σ 4), wB E (bd 5) (σ 5), wB E (bd 6) (σ 6), wB E (bd 7) (σ 7), wB E (bd 8) (σ 8), wB E (bd 9) (σ 9)]) (st1 := [.int (fT_closings β), .long (31 * ((31 * ((31 * 3) + ((fT_tickets β).toInt64))) + ((fT_day β).toInt64)))]) [] [0, 1, 2, 3, 4, 5, 6, 7, 8, 9, 10, 11, 12, 13] (kT_closings l E ax bo β tr τ ac γ ah bd η σ at_ θ) caX6_closings q2_157 rfl ⟨Nat.le_of_ble_eq_true rfl, Nat.le_of_ble_eq_true rfl⟩ ⟨Nat.zero_le _, Nat.zero_le _⟩ 0 0 rfl rfl rfl rfl (by decide) rfl rfl rfl rfl (Nat.le_of_ble_eq_true rfl) dL_told_30 rfl ?_
  refine g_i2l C dL_told_33 ?_
  refine g_ladd C dL_told_34 ?_
  refine g_lstore_n C (lv1 := [(1, .long ((31 * ((31 * ((31 * 3) + ((fT_tickets β).toInt64))) + ((fT_day β).toInt64))) + ((fT_closings β).toInt64))), (0, .ref ax)]) dL_told_35 rfl (by decide) rfl ?_
  refine g_ldc2 C q2_156 dL_told_36 ?_
  refine g_ldc2 C q2_156 dL_told_39 ?_
  refine g_lload_n C dL_told_42 rfl 0 rfl ?_
  refine g_lmul C dL_told_43 ?_
  refine g_aload_n C dL_told_44 rfl 1 rfl ?_
  refine g_callV C (cs1 := [wX ax (bo 0) (tr 0) (ac 0) (ah 0) (at_ 0), wB E bo β, wB E tr τ, wC E ac γ, wH E ah bd η, wT E at_ θ, wB E (bd 2) (σ 2), wB E (bd 3) (σ 3), wB E (bd 4) (σ 4), wB E (bd 5) (σ 5), wB E (bd 6) (σ 6), wB E (bd 7) (σ 7), wB E (bd 8) (σ 8), wB E (bd 9) (σ 9)]) (st1 := [.int (fT_reopenings β), .long (31 * ((31 * ((31 * ((31 * 3) + ((fT_tickets β).toInt64))) + ((fT_day β).toInt64))) + ((fT_closings β).toInt64))), .long 31]) [] [0, 1, 2, 3, 4, 5, 6, 7, 8, 9, 10, 11, 12, 13] (kT_reopenings l E ax bo β tr τ ac γ ah bd η σ at_ θ) caX6_reopenings q2_161 rfl ⟨Nat.le_of_ble_eq_true rfl, Nat.le_of_ble_eq_true rfl⟩ ⟨Nat.zero_le _, Nat.zero_le _⟩ 0 0 rfl rfl rfl rfl (by decide) rfl rfl rfl rfl (Nat.le_of_ble_eq_true rfl) dL_told_45 rfl ?_
  refine g_i2l C dL_told_48 ?_
  refine g_ladd C dL_told_49 ?_
  refine g_lmul C dL_told_50 ?_
  refine g_aload_n C dL_told_51 rfl 1 rfl ?_
  refine g_callV C (cs1 := [wX ax (bo 0) (tr 0) (ac 0) (ah 0) (at_ 0), wB E bo β, wB E tr τ, wC E ac ((fT_criticalByOrder β γ).2), wH E ah bd η, wT E at_ θ, wB E (bd 2) (σ 2), wB E (bd 3) (σ 3), wB E (bd 4) (σ 4), wB E (bd 5) (σ 5), wB E (bd 6) (σ 6), wB E (bd 7) (σ 7), wB E (bd 8) (σ 8), wB E (bd 9) (σ 9)]) (st1 := [.int ((fT_criticalByOrder β γ).1), .long (31 * ((31 * ((31 * ((31 * ((31 * 3) + ((fT_tickets β).toInt64))) + ((fT_day β).toInt64))) + ((fT_closings β).toInt64))) + ((fT_reopenings β).toInt64)))]) [] [0, 1, 2, 3, 4, 5, 6, 7, 8, 9, 10, 11, 12, 13] (kT_criticalByOrder l E ax bo β tr τ ac γ ah bd η σ at_ θ hv) caX6_criticalByOrder q2_165 rfl ⟨Nat.le_of_ble_eq_true rfl, Nat.le_of_ble_eq_true rfl⟩ ⟨Nat.zero_le _, Nat.zero_le _⟩ 0 0 rfl rfl rfl rfl (by decide) rfl rfl rfl rfl (Nat.le_of_ble_eq_true rfl) dL_told_52 rfl ?_
  refine g_i2l C dL_told_55 ?_
  refine g_ladd C dL_told_56 ?_
  refine g_lstore_n C (lv1 := [(1, .long ((31 * ((31 * ((31 * ((31 * ((31 * 3) + ((fT_tickets β).toInt64))) + ((fT_day β).toInt64))) + ((fT_closings β).toInt64))) + ((fT_reopenings β).toInt64))) + (((fT_criticalByOrder β γ).1).toInt64))), (0, .ref ax)]) dL_told_57 rfl (by decide) rfl ?_
  refine g_iconst C (v := 0) dL_told_58 (by decide) ?_
  refine g_istore_n C (lv1 := [(3, .int 0), (1, .long ((31 * ((31 * ((31 * ((31 * ((31 * 3) + ((fT_tickets β).toInt64))) + ((fT_day β).toInt64))) + ((fT_closings β).toInt64))) + ((fT_reopenings β).toInt64))) + (((fT_criticalByOrder β γ).1).toInt64))), (0, .ref ax)]) dL_told_59 rfl (by decide) rfl ?_
  have hL_3 : ∀ d_1 i60 : Nat, i60 + d_1 = (cnt β) → G X 0 0 [wX ax (bo 0) (tr 0) (ac 0) (ah 0) (at_ 0), wB E bo β, wB E tr τ, wC E ac ((fT_criticalByOrder β γ).2), wH E ah bd η, wT E at_ θ, wB E (bd 2) (σ 2), wB E (bd 3) (σ 3), wB E (bd 4) (σ 4), wB E (bd 5) (σ 5), wB E (bd 6) (σ 6), wB E (bd 7) (σ 7), wB E (bd 8) (σ 8), wB E (bd 9) (σ 9)] [(0, .ref ax), (1, .long (lpF (fL_told_L60 β γ) ((31 * ((31 * ((31 * ((31 * ((31 * 3) + ((fT_tickets β).toInt64))) + ((fT_day β).toInt64))) + ((fT_closings β).toInt64))) + ((fT_reopenings β).toInt64))) + (((fT_criticalByOrder β γ).1).toInt64)) i60)), (3, .int (nI i60))] 60 [] := by
    intro d_1
    induction d_1 with
    | zero =>
      intro i60 hi_2
      obtain rfl : i60 = (cnt β) := by omega
      refine g_iload_n C dL_told_60 rfl 2 rfl ?_
      refine g_aload_n C dL_told_61 rfl 0 rfl ?_
      refine g_callV C (cs1 := [wX ax (bo 0) (tr 0) (ac 0) (ah 0) (at_ 0), wB E bo β, wB E tr τ, wC E ac ((fT_criticalByOrder β γ).2), wH E ah bd η, wT E at_ θ, wB E (bd 2) (σ 2), wB E (bd 3) (σ 3), wB E (bd 4) (σ 4), wB E (bd 5) (σ 5), wB E (bd 6) (σ 6), wB E (bd 7) (σ 7), wB E (bd 8) (σ 8), wB E (bd 9) (σ 9)]) (st1 := [.int (fT_tickets β), .int (nI (cnt β))]) [] [0, 1, 2, 3, 4, 5, 6, 7, 8, 9, 10, 11, 12, 13] (kT_tickets l E ax bo β tr τ ac ((fT_criticalByOrder β γ).2) ah bd η σ at_ θ) caX6_tickets q2_55 rfl ⟨Nat.le_of_ble_eq_true rfl, Nat.le_of_ble_eq_true rfl⟩ ⟨Nat.zero_le _, Nat.zero_le _⟩ 0 0 rfl rfl rfl rfl (by decide) rfl rfl rfl rfl (Nat.le_of_ble_eq_true rfl) dL_told_62 rfl ?_
      refine g_icmp_ge C 207 dL_told_65 (by decide) (fun c_5 => ?_) (fun c_5 => ?_)
      · skip
        refine g_iconst C (v := 0) dL_told_207 (by decide) ?_
        refine g_istore_n C (lv1 := [(3, .int 0), (0, .ref ax), (1, .long (lpF (fL_told_L60 β γ) ((31 * ((31 * ((31 * ((31 * ((31 * 3) + ((fT_tickets β).toInt64))) + ((fT_day β).toInt64))) + ((fT_closings β).toInt64))) + ((fT_reopenings β).toInt64))) + (((fT_criticalByOrder β γ).1).toInt64)) (cnt β)))]) dL_told_208 rfl (by decide) rfl ?_
        have hL_8 : ∀ d_6 i209 : Nat, i209 + d_6 = 5 → G X 0 0 [wX ax (bo 0) (tr 0) (ac 0) (ah 0) (at_ 0), wB E bo β, wB E tr τ, wC E ac ((fT_criticalByOrder β γ).2), wH E ah bd η, wT E at_ θ, wB E (bd 2) (σ 2), wB E (bd 3) (σ 3), wB E (bd 4) (σ 4), wB E (bd 5) (σ 5), wB E (bd 6) (σ 6), wB E (bd 7) (σ 7), wB E (bd 8) (σ 8), wB E (bd 9) (σ 9)] [(0, .ref ax), (1, .long (lpF (fL_told_L209 β γ) (lpF (fL_told_L60 β γ) ((31 * ((31 * ((31 * ((31 * ((31 * 3) + ((fT_tickets β).toInt64))) + ((fT_day β).toInt64))) + ((fT_closings β).toInt64))) + ((fT_reopenings β).toInt64))) + (((fT_criticalByOrder β γ).1).toInt64)) (cnt β)) i209)), (3, .int (nI i209))] 209 [] := by
          intro d_6
          induction d_6 with
          | zero =>
            intro i209 hi_7
            obtain rfl : i209 = 5 := by omega
            refine g_iload_n C dL_told_209 rfl 2 rfl ?_
            refine g_iconst C (v := 5) dL_told_210 (by decide) ?_
            refine g_icmp_ge C 244 dL_told_211 (by decide) (fun c_10 => ?_) (fun c_10 => ?_)
            · skip
              refine g_iconst C (v := 0) dL_told_244 (by decide) ?_
              refine g_istore_n C (lv1 := [(3, .int 0), (0, .ref ax), (1, .long (lpF (fL_told_L209 β γ) (lpF (fL_told_L60 β γ) ((31 * ((31 * ((31 * ((31 * ((31 * 3) + ((fT_tickets β).toInt64))) + ((fT_day β).toInt64))) + ((fT_closings β).toInt64))) + ((fT_reopenings β).toInt64))) + (((fT_criticalByOrder β γ).1).toInt64)) (cnt β)) 5))]) dL_told_245 rfl (by decide) rfl ?_
              have hL_13 : ∀ d_11 i246 : Nat, i246 + d_11 = 4 → G X 0 0 [wX ax (bo 0) (tr 0) (ac 0) (ah 0) (at_ 0), wB E bo β, wB E tr τ, wC E ac ((fT_criticalByOrder β γ).2), wH E ah bd η, wT E at_ θ, wB E (bd 2) (σ 2), wB E (bd 3) (σ 3), wB E (bd 4) (σ 4), wB E (bd 5) (σ 5), wB E (bd 6) (σ 6), wB E (bd 7) (σ 7), wB E (bd 8) (σ 8), wB E (bd 9) (σ 9)] [(0, .ref ax), (1, .long (lpF (fL_told_L246 β γ) (lpF (fL_told_L209 β γ) (lpF (fL_told_L60 β γ) ((31 * ((31 * ((31 * ((31 * ((31 * 3) + ((fT_tickets β).toInt64))) + ((fT_day β).toInt64))) + ((fT_closings β).toInt64))) + ((fT_reopenings β).toInt64))) + (((fT_criticalByOrder β γ).1).toInt64)) (cnt β)) 5) i246)), (3, .int (nI i246))] 246 [] := by
                intro d_11
                induction d_11 with
                | zero =>
                  intro i246 hi_12
                  obtain rfl : i246 = 4 := by omega
                  refine g_iload_n C dL_told_246 rfl 2 rfl ?_
                  refine g_iconst C (v := 4) dL_told_247 (by decide) ?_
                  refine g_icmp_ge C 281 dL_told_248 (by decide) (fun c_15 => ?_) (fun c_15 => ?_)
                  · skip
                    refine g_lload_n C dL_told_281 rfl 1 rfl ?_
                    have e_16 : fL_told β γ = ((lpF (fL_told_L246 β γ) (lpF (fL_told_L209 β γ) (lpF (fL_told_L60 β γ) ((31 * ((31 * ((31 * ((31 * ((31 * 3) + ((fT_tickets β).toInt64))) + ((fT_day β).toInt64))) + ((fT_closings β).toInt64))) + ((fT_reopenings β).toInt64))) + (((fT_criticalByOrder β γ).1).toInt64)) (cnt β)) 5) 4), (fT_criticalByOrder β γ).2) := by rw [fL_told]
                    exact g_lret C hE (by rw [e_16]) (by rw [e_16]) dL_told_282
                  · exact absurd (lc_le rfl nI_l4 (by omega) (by omega)) c_15
                | succ d_11 ih_14 =>
                  intro i246 hi_12
                  refine g_iload_n C dL_told_246 rfl 2 rfl ?_
                  refine g_iconst C (v := 4) dL_told_247 (by decide) ?_
                  refine g_icmp_ge C 281 dL_told_248 (by decide) (fun c_17 => ?_) (fun c_17 => ?_)
                  · exact absurd c_17 (lc_nle rfl nI_l4 (by omega) (by omega))
                  · skip
                    refine g_ldc2 C q2_156 dL_told_251 ?_
                    refine g_ldc2 C q2_156 dL_told_254 ?_
                    refine g_lload_n C dL_told_257 rfl 1 rfl ?_
                    refine g_lmul C dL_told_258 ?_
                    refine g_aload_n C dL_told_259 rfl 0 rfl ?_
                    refine g_iload_n C dL_told_260 rfl 2 rfl ?_
                    refine g_callV C (cs1 := [wX ax (bo 0) (tr 0) (ac 0) (ah 0) (at_ 0), wB E bo β, wB E tr τ, wC E ac ((fT_criticalByOrder β γ).2), wH E ah bd η, wT E at_ θ, wB E (bd 2) (σ 2), wB E (bd 3) (σ 3), wB E (bd 4) (σ 4), wB E (bd 5) (σ 5), wB E (bd 6) (σ 6), wB E (bd 7) (σ 7), wB E (bd 8) (σ 8), wB E (bd 9) (σ 9)]) (st1 := [.int (fT_dateOf β i246), .long (31 * (lpF (fL_told_L246 β γ) (lpF (fL_told_L209 β γ) (lpF (fL_told_L60 β γ) ((31 * ((31 * ((31 * ((31 * ((31 * 3) + ((fT_tickets β).toInt64))) + ((fT_day β).toInt64))) + ((fT_closings β).toInt64))) + ((fT_reopenings β).toInt64))) + (((fT_criticalByOrder β γ).1).toInt64)) (cnt β)) 5) i246)), .long 31]) [.int (nI i246)] [0, 1, 2, 3, 4, 5, 6, 7, 8, 9, 10, 11, 12, 13] (kT_dateOf l E ax bo β tr τ ac ((fT_criticalByOrder β γ).2) ah bd η σ at_ θ hv i246 (by omega) (mil_n (by omega))) caX6_dateOf q2_88 rfl ⟨Nat.le_of_ble_eq_true rfl, Nat.le_of_ble_eq_true rfl⟩ ⟨Nat.zero_le _, Nat.zero_le _⟩ 0 0 rfl rfl rfl rfl (by decide) rfl rfl rfl rfl (Nat.le_of_ble_eq_true rfl) dL_told_261 rfl ?_
                    refine g_i2l C dL_told_264 ?_
                    refine g_ladd C dL_told_265 ?_
                    refine g_lmul C dL_told_266 ?_
                    refine g_aload_n C dL_told_267 rfl 0 rfl ?_
                    refine g_iload_n C dL_told_268 rfl 2 rfl ?_
                    refine g_callV C (cs1 := [wX ax (bo 0) (tr 0) (ac 0) (ah 0) (at_ 0), wB E bo β, wB E tr τ, wC E ac ((fT_criticalByOrder β γ).2), wH E ah bd η, wT E at_ θ, wB E (bd 2) (σ 2), wB E (bd 3) (σ 3), wB E (bd 4) (σ 4), wB E (bd 5) (σ 5), wB E (bd 6) (σ 6), wB E (bd 7) (σ 7), wB E (bd 8) (σ 8), wB E (bd 9) (σ 9)]) (st1 := [.int (fT_pointsLeft β i246), .long (31 * ((31 * (lpF (fL_told_L246 β γ) (lpF (fL_told_L209 β γ) (lpF (fL_told_L60 β γ) ((31 * ((31 * ((31 * ((31 * ((31 * 3) + ((fT_tickets β).toInt64))) + ((fT_day β).toInt64))) + ((fT_closings β).toInt64))) + ((fT_reopenings β).toInt64))) + (((fT_criticalByOrder β γ).1).toInt64)) (cnt β)) 5) i246)) + ((fT_dateOf β i246).toInt64)))]) [.int (nI i246)] [0, 1, 2, 3, 4, 5, 6, 7, 8, 9, 10, 11, 12, 13] (kT_pointsLeft l E ax bo β tr τ ac ((fT_criticalByOrder β γ).2) ah bd η σ at_ θ hv i246 (by omega) (mil_n (by omega))) caX6_pointsLeft q3_18 rfl ⟨Nat.le_of_ble_eq_true rfl, Nat.le_of_ble_eq_true rfl⟩ ⟨Nat.zero_le _, Nat.zero_le _⟩ 0 0 rfl rfl rfl rfl (by decide) rfl rfl rfl rfl (Nat.le_of_ble_eq_true rfl) dL_told_269 rfl ?_
                    refine g_i2l C dL_told_272 ?_
                    refine g_ladd C dL_told_273 ?_
                    refine g_lstore_n C (lv1 := [(1, .long ((31 * ((31 * (lpF (fL_told_L246 β γ) (lpF (fL_told_L209 β γ) (lpF (fL_told_L60 β γ) ((31 * ((31 * ((31 * ((31 * ((31 * 3) + ((fT_tickets β).toInt64))) + ((fT_day β).toInt64))) + ((fT_closings β).toInt64))) + ((fT_reopenings β).toInt64))) + (((fT_criticalByOrder β γ).1).toInt64)) (cnt β)) 5) i246)) + ((fT_dateOf β i246).toInt64))) + ((fT_pointsLeft β i246).toInt64))), (0, .ref ax), (3, .int (nI i246))]) dL_told_274 rfl (by decide) rfl ?_
                    refine g_iinc C (v := nI (i246 + 1)) (lv1 := [(3, .int (nI (i246 + 1))), (1, .long ((31 * ((31 * (lpF (fL_told_L246 β γ) (lpF (fL_told_L209 β γ) (lpF (fL_told_L60 β γ) ((31 * ((31 * ((31 * ((31 * ((31 * 3) + ((fT_tickets β).toInt64))) + ((fT_day β).toInt64))) + ((fT_closings β).toInt64))) + ((fT_reopenings β).toInt64))) + (((fT_criticalByOrder β γ).1).toInt64)) (cnt β)) 5) i246)) + ((fT_dateOf β i246).toInt64))) + ((fT_pointsLeft β i246).toInt64))), (0, .ref ax)]) dL_told_275 2 rfl (nI_1 i246) (by decide) rfl ?_
                    refine g_goto C 246 dL_told_278 (by decide) ?_
                    have e_18 : (lpF (fL_told_L246 β γ) (lpF (fL_told_L209 β γ) (lpF (fL_told_L60 β γ) ((31 * ((31 * ((31 * ((31 * ((31 * 3) + ((fT_tickets β).toInt64))) + ((fT_day β).toInt64))) + ((fT_closings β).toInt64))) + ((fT_reopenings β).toInt64))) + (((fT_criticalByOrder β γ).1).toInt64)) (cnt β)) 5) (i246 + 1)) = (31 * ((31 * (lpF (fL_told_L246 β γ) (lpF (fL_told_L209 β γ) (lpF (fL_told_L60 β γ) ((31 * ((31 * ((31 * ((31 * ((31 * 3) + ((fT_tickets β).toInt64))) + ((fT_day β).toInt64))) + ((fT_closings β).toInt64))) + ((fT_reopenings β).toInt64))) + (((fT_criticalByOrder β γ).1).toInt64)) (cnt β)) 5) i246)) + ((fT_dateOf β i246).toInt64))) + ((fT_pointsLeft β i246).toInt64) := by
                      rw [lpF_1, fL_told_L246]
                    have h_19 := ih_14 (i246 + 1) (by omega)
                    rw [e_18] at h_19
                    exact g_sub [2, 1, 0] rfl h_19
              refine g_sub [1, 2, 0] (lv1 := [(0, .ref ax), (1, .long (lpF (fL_told_L209 β γ) (lpF (fL_told_L60 β γ) ((31 * ((31 * ((31 * ((31 * ((31 * 3) + ((fT_tickets β).toInt64))) + ((fT_day β).toInt64))) + ((fT_closings β).toInt64))) + ((fT_reopenings β).toInt64))) + (((fT_criticalByOrder β γ).1).toInt64)) (cnt β)) 5)), (3, .int 0)]) rfl ?_
              exact hL_13 4 0 (by omega)
            · exact absurd (lc_le rfl nI_l5 (by omega) (by omega)) c_10
          | succ d_6 ih_9 =>
            intro i209 hi_7
            refine g_iload_n C dL_told_209 rfl 2 rfl ?_
            refine g_iconst C (v := 5) dL_told_210 (by decide) ?_
            refine g_icmp_ge C 244 dL_told_211 (by decide) (fun c_20 => ?_) (fun c_20 => ?_)
            · exact absurd c_20 (lc_nle rfl nI_l5 (by omega) (by omega))
            · skip
              refine g_ldc2 C q2_156 dL_told_214 ?_
              refine g_ldc2 C q2_156 dL_told_217 ?_
              refine g_lload_n C dL_told_220 rfl 1 rfl ?_
              refine g_lmul C dL_told_221 ?_
              refine g_aload_n C dL_told_222 rfl 0 rfl ?_
              refine g_iload_n C dL_told_223 rfl 2 rfl ?_
              refine g_callV C (cs1 := [wX ax (bo 0) (tr 0) (ac 0) (ah 0) (at_ 0), wB E bo β, wB E tr τ, wC E ac ((fT_criticalByOrder β γ).2), wH E ah bd η, wT E at_ θ, wB E (bd 2) (σ 2), wB E (bd 3) (σ 3), wB E (bd 4) (σ 4), wB E (bd 5) (σ 5), wB E (bd 6) (σ 6), wB E (bd 7) (σ 7), wB E (bd 8) (σ 8), wB E (bd 9) (σ 9)]) (st1 := [.int (fT_capacityOf β i209), .long (31 * (lpF (fL_told_L209 β γ) (lpF (fL_told_L60 β γ) ((31 * ((31 * ((31 * ((31 * ((31 * 3) + ((fT_tickets β).toInt64))) + ((fT_day β).toInt64))) + ((fT_closings β).toInt64))) + ((fT_reopenings β).toInt64))) + (((fT_criticalByOrder β γ).1).toInt64)) (cnt β)) i209)), .long 31]) [.int (nI i209)] [0, 1, 2, 3, 4, 5, 6, 7, 8, 9, 10, 11, 12, 13] (kT_capacityOf l E ax bo β tr τ ac ((fT_criticalByOrder β γ).2) ah bd η σ at_ θ hv i209 (by omega) (own_n (by omega))) caX6_capacityOf q2_59 rfl ⟨Nat.le_of_ble_eq_true rfl, Nat.le_of_ble_eq_true rfl⟩ ⟨Nat.zero_le _, Nat.zero_le _⟩ 0 0 rfl rfl rfl rfl (by decide) rfl rfl rfl rfl (Nat.le_of_ble_eq_true rfl) dL_told_224 rfl ?_
              refine g_i2l C dL_told_227 ?_
              refine g_ladd C dL_told_228 ?_
              refine g_lmul C dL_told_229 ?_
              refine g_aload_n C dL_told_230 rfl 0 rfl ?_
              refine g_iload_n C dL_told_231 rfl 2 rfl ?_
              refine g_callV C (cs1 := [wX ax (bo 0) (tr 0) (ac 0) (ah 0) (at_ 0), wB E bo β, wB E tr τ, wC E ac ((fT_criticalByOrder β γ).2), wH E ah bd η, wT E at_ θ, wB E (bd 2) (σ 2), wB E (bd 3) (σ 3), wB E (bd 4) (σ 4), wB E (bd 5) (σ 5), wB E (bd 6) (σ 6), wB E (bd 7) (σ 7), wB E (bd 8) (σ 8), wB E (bd 9) (σ 9)]) (st1 := [.int (fT_loadByAccount β i209), .long (31 * ((31 * (lpF (fL_told_L209 β γ) (lpF (fL_told_L60 β γ) ((31 * ((31 * ((31 * ((31 * ((31 * 3) + ((fT_tickets β).toInt64))) + ((fT_day β).toInt64))) + ((fT_closings β).toInt64))) + ((fT_reopenings β).toInt64))) + (((fT_criticalByOrder β γ).1).toInt64)) (cnt β)) i209)) + ((fT_capacityOf β i209).toInt64)))]) [.int (nI i209)] [0, 1, 2, 3, 4, 5, 6, 7, 8, 9, 10, 11, 12, 13] (kT_loadByAccount l E ax bo β tr τ ac ((fT_criticalByOrder β γ).2) ah bd η σ at_ θ hv i209 (by omega) (own_n (by omega))) caX6_loadByAccount q3_14 rfl ⟨Nat.le_of_ble_eq_true rfl, Nat.le_of_ble_eq_true rfl⟩ ⟨Nat.zero_le _, Nat.zero_le _⟩ 0 0 rfl rfl rfl rfl (by decide) rfl rfl rfl rfl (Nat.le_of_ble_eq_true rfl) dL_told_232 rfl ?_
              refine g_i2l C dL_told_235 ?_
              refine g_ladd C dL_told_236 ?_
              refine g_lstore_n C (lv1 := [(1, .long ((31 * ((31 * (lpF (fL_told_L209 β γ) (lpF (fL_told_L60 β γ) ((31 * ((31 * ((31 * ((31 * ((31 * 3) + ((fT_tickets β).toInt64))) + ((fT_day β).toInt64))) + ((fT_closings β).toInt64))) + ((fT_reopenings β).toInt64))) + (((fT_criticalByOrder β γ).1).toInt64)) (cnt β)) i209)) + ((fT_capacityOf β i209).toInt64))) + ((fT_loadByAccount β i209).toInt64))), (0, .ref ax), (3, .int (nI i209))]) dL_told_237 rfl (by decide) rfl ?_
              refine g_iinc C (v := nI (i209 + 1)) (lv1 := [(3, .int (nI (i209 + 1))), (1, .long ((31 * ((31 * (lpF (fL_told_L209 β γ) (lpF (fL_told_L60 β γ) ((31 * ((31 * ((31 * ((31 * ((31 * 3) + ((fT_tickets β).toInt64))) + ((fT_day β).toInt64))) + ((fT_closings β).toInt64))) + ((fT_reopenings β).toInt64))) + (((fT_criticalByOrder β γ).1).toInt64)) (cnt β)) i209)) + ((fT_capacityOf β i209).toInt64))) + ((fT_loadByAccount β i209).toInt64))), (0, .ref ax)]) dL_told_238 2 rfl (nI_1 i209) (by decide) rfl ?_
              refine g_goto C 209 dL_told_241 (by decide) ?_
              have e_21 : (lpF (fL_told_L209 β γ) (lpF (fL_told_L60 β γ) ((31 * ((31 * ((31 * ((31 * ((31 * 3) + ((fT_tickets β).toInt64))) + ((fT_day β).toInt64))) + ((fT_closings β).toInt64))) + ((fT_reopenings β).toInt64))) + (((fT_criticalByOrder β γ).1).toInt64)) (cnt β)) (i209 + 1)) = (31 * ((31 * (lpF (fL_told_L209 β γ) (lpF (fL_told_L60 β γ) ((31 * ((31 * ((31 * ((31 * ((31 * 3) + ((fT_tickets β).toInt64))) + ((fT_day β).toInt64))) + ((fT_closings β).toInt64))) + ((fT_reopenings β).toInt64))) + (((fT_criticalByOrder β γ).1).toInt64)) (cnt β)) i209)) + ((fT_capacityOf β i209).toInt64))) + ((fT_loadByAccount β i209).toInt64) := by
                rw [lpF_1, fL_told_L209]
              have h_22 := ih_9 (i209 + 1) (by omega)
              rw [e_21] at h_22
              exact g_sub [2, 1, 0] rfl h_22
        refine g_sub [1, 2, 0] (lv1 := [(0, .ref ax), (1, .long (lpF (fL_told_L60 β γ) ((31 * ((31 * ((31 * ((31 * ((31 * 3) + ((fT_tickets β).toInt64))) + ((fT_day β).toInt64))) + ((fT_closings β).toInt64))) + ((fT_reopenings β).toInt64))) + (((fT_criticalByOrder β γ).1).toInt64)) (cnt β))), (3, .int 0)]) rfl ?_
        exact hL_8 5 0 (by omega)
      · exact absurd (lc_le rfl hv.2.1 (by omega) (by omega)) c_5
    | succ d_1 ih_4 =>
      intro i60 hi_2
      refine g_iload_n C dL_told_60 rfl 2 rfl ?_
      refine g_aload_n C dL_told_61 rfl 0 rfl ?_
      refine g_callV C (cs1 := [wX ax (bo 0) (tr 0) (ac 0) (ah 0) (at_ 0), wB E bo β, wB E tr τ, wC E ac ((fT_criticalByOrder β γ).2), wH E ah bd η, wT E at_ θ, wB E (bd 2) (σ 2), wB E (bd 3) (σ 3), wB E (bd 4) (σ 4), wB E (bd 5) (σ 5), wB E (bd 6) (σ 6), wB E (bd 7) (σ 7), wB E (bd 8) (σ 8), wB E (bd 9) (σ 9)]) (st1 := [.int (fT_tickets β), .int (nI i60)]) [] [0, 1, 2, 3, 4, 5, 6, 7, 8, 9, 10, 11, 12, 13] (kT_tickets l E ax bo β tr τ ac ((fT_criticalByOrder β γ).2) ah bd η σ at_ θ) caX6_tickets q2_55 rfl ⟨Nat.le_of_ble_eq_true rfl, Nat.le_of_ble_eq_true rfl⟩ ⟨Nat.zero_le _, Nat.zero_le _⟩ 0 0 rfl rfl rfl rfl (by decide) rfl rfl rfl rfl (Nat.le_of_ble_eq_true rfl) dL_told_62 rfl ?_
      refine g_icmp_ge C 207 dL_told_65 (by decide) (fun c_23 => ?_) (fun c_23 => ?_)
      · exact absurd c_23 (lc_nle rfl hv.2.1 (by omega) (by omega))
      · skip
        refine g_ldc2 C q2_156 dL_told_68 ?_
        refine g_ldc2 C q2_156 dL_told_71 ?_
        refine g_ldc2 C q2_156 dL_told_74 ?_
        refine g_lload_n C dL_told_77 rfl 1 rfl ?_
        refine g_lmul C dL_told_78 ?_
        refine g_aload_n C dL_told_79 rfl 0 rfl ?_
        refine g_iload_n C dL_told_80 rfl 2 rfl ?_
        refine g_callV C (cs1 := [wX ax (bo 0) (tr 0) (ac 0) (ah 0) (at_ 0), wB E bo β, wB E tr τ, wC E ac ((fT_criticalByOrder β γ).2), wH E ah bd η, wT E at_ θ, wB E (bd 2) (σ 2), wB E (bd 3) (σ 3), wB E (bd 4) (σ 4), wB E (bd 5) (σ 5), wB E (bd 6) (σ 6), wB E (bd 7) (σ 7), wB E (bd 8) (σ 8), wB E (bd 9) (σ 9)]) (st1 := [.int (fT_stateOf β i60), .long (31 * (lpF (fL_told_L60 β γ) ((31 * ((31 * ((31 * ((31 * ((31 * 3) + ((fT_tickets β).toInt64))) + ((fT_day β).toInt64))) + ((fT_closings β).toInt64))) + ((fT_reopenings β).toInt64))) + (((fT_criticalByOrder β γ).1).toInt64)) i60)), .long 31, .long 31]) [.int (nI i60)] [0, 1, 2, 3, 4, 5, 6, 7, 8, 9, 10, 11, 12, 13] (kT_stateOf l E ax bo β tr τ ac ((fT_criticalByOrder β γ).2) ah bd η σ at_ θ hv i60 (by omega) (hasT_n hv (by omega))) caX6_stateOf q2_193 rfl ⟨Nat.le_of_ble_eq_true rfl, Nat.le_of_ble_eq_true rfl⟩ ⟨Nat.zero_le _, Nat.zero_le _⟩ 0 0 rfl rfl rfl rfl (by decide) rfl rfl rfl rfl (Nat.le_of_ble_eq_true rfl) dL_told_81 rfl ?_
        refine g_i2l C dL_told_84 ?_
        refine g_ladd C dL_told_85 ?_
        refine g_lmul C dL_told_86 ?_
        refine g_aload_n C dL_told_87 rfl 0 rfl ?_
        refine g_iload_n C dL_told_88 rfl 2 rfl ?_
        refine g_callV C (cs1 := [wX ax (bo 0) (tr 0) (ac 0) (ah 0) (at_ 0), wB E bo β, wB E tr τ, wC E ac ((fT_criticalByOrder β γ).2), wH E ah bd η, wT E at_ θ, wB E (bd 2) (σ 2), wB E (bd 3) (σ 3), wB E (bd 4) (σ 4), wB E (bd 5) (σ 5), wB E (bd 6) (σ 6), wB E (bd 7) (σ 7), wB E (bd 8) (σ 8), wB E (bd 9) (σ 9)]) (st1 := [.int (fT_pointsOf β i60), .long (31 * ((31 * (lpF (fL_told_L60 β γ) ((31 * ((31 * ((31 * ((31 * ((31 * 3) + ((fT_tickets β).toInt64))) + ((fT_day β).toInt64))) + ((fT_closings β).toInt64))) + ((fT_reopenings β).toInt64))) + (((fT_criticalByOrder β γ).1).toInt64)) i60)) + ((fT_stateOf β i60).toInt64))), .long 31]) [.int (nI i60)] [0, 1, 2, 3, 4, 5, 6, 7, 8, 9, 10, 11, 12, 13] (kT_pointsOf l E ax bo β tr τ ac ((fT_criticalByOrder β γ).2) ah bd η σ at_ θ hv i60 (by omega) (hasT_n hv (by omega))) caX6_pointsOf q2_201 rfl ⟨Nat.le_of_ble_eq_true rfl, Nat.le_of_ble_eq_true rfl⟩ ⟨Nat.zero_le _, Nat.zero_le _⟩ 0 0 rfl rfl rfl rfl (by decide) rfl rfl rfl rfl (Nat.le_of_ble_eq_true rfl) dL_told_89 rfl ?_
        refine g_i2l C dL_told_92 ?_
        refine g_ladd C dL_told_93 ?_
        refine g_lmul C dL_told_94 ?_
        refine g_aload_n C dL_told_95 rfl 0 rfl ?_
        refine g_iload_n C dL_told_96 rfl 2 rfl ?_
        refine g_callV C (cs1 := [wX ax (bo 0) (tr 0) (ac 0) (ah 0) (at_ 0), wB E bo β, wB E tr τ, wC E ac ((fT_criticalByOrder β γ).2), wH E ah bd η, wT E at_ θ, wB E (bd 2) (σ 2), wB E (bd 3) (σ 3), wB E (bd 4) (σ 4), wB E (bd 5) (σ 5), wB E (bd 6) (σ 6), wB E (bd 7) (σ 7), wB E (bd 8) (σ 8), wB E (bd 9) (σ 9)]) (st1 := [.int (fT_priorityOf β i60), .long (31 * ((31 * ((31 * (lpF (fL_told_L60 β γ) ((31 * ((31 * ((31 * ((31 * ((31 * 3) + ((fT_tickets β).toInt64))) + ((fT_day β).toInt64))) + ((fT_closings β).toInt64))) + ((fT_reopenings β).toInt64))) + (((fT_criticalByOrder β γ).1).toInt64)) i60)) + ((fT_stateOf β i60).toInt64))) + ((fT_pointsOf β i60).toInt64)))]) [.int (nI i60)] [0, 1, 2, 3, 4, 5, 6, 7, 8, 9, 10, 11, 12, 13] (kT_priorityOf l E ax bo β tr τ ac ((fT_criticalByOrder β γ).2) ah bd η σ at_ θ hv i60 (by omega) (hasT_n hv (by omega))) caX6_priorityOf q2_205 rfl ⟨Nat.le_of_ble_eq_true rfl, Nat.le_of_ble_eq_true rfl⟩ ⟨Nat.zero_le _, Nat.zero_le _⟩ 0 0 rfl rfl rfl rfl (by decide) rfl rfl rfl rfl (Nat.le_of_ble_eq_true rfl) dL_told_97 rfl ?_
        refine g_i2l C dL_told_100 ?_
        refine g_ladd C dL_told_101 ?_
        refine g_lstore_n C (lv1 := [(1, .long ((31 * ((31 * ((31 * (lpF (fL_told_L60 β γ) ((31 * ((31 * ((31 * ((31 * ((31 * 3) + ((fT_tickets β).toInt64))) + ((fT_day β).toInt64))) + ((fT_closings β).toInt64))) + ((fT_reopenings β).toInt64))) + (((fT_criticalByOrder β γ).1).toInt64)) i60)) + ((fT_stateOf β i60).toInt64))) + ((fT_pointsOf β i60).toInt64))) + ((fT_priorityOf β i60).toInt64))), (0, .ref ax), (3, .int (nI i60))]) dL_told_102 rfl (by decide) rfl ?_
        refine g_ldc2 C q2_156 dL_told_103 ?_
        refine g_ldc2 C q2_156 dL_told_106 ?_
        refine g_ldc2 C q2_156 dL_told_109 ?_
        refine g_lload_n C dL_told_112 rfl 0 rfl ?_
        refine g_lmul C dL_told_113 ?_
        refine g_aload_n C dL_told_114 rfl 1 rfl ?_
        refine g_iload_n C dL_told_115 rfl 2 rfl ?_
        refine g_callV C (cs1 := [wX ax (bo 0) (tr 0) (ac 0) (ah 0) (at_ 0), wB E bo β, wB E tr τ, wC E ac ((fT_criticalByOrder β γ).2), wH E ah bd η, wT E at_ θ, wB E (bd 2) (σ 2), wB E (bd 3) (σ 3), wB E (bd 4) (σ 4), wB E (bd 5) (σ 5), wB E (bd 6) (σ 6), wB E (bd 7) (σ 7), wB E (bd 8) (σ 8), wB E (bd 9) (σ 9)]) (st1 := [.int (b2i (fT_hasOwner β i60)), .long (31 * ((31 * ((31 * ((31 * (lpF (fL_told_L60 β γ) ((31 * ((31 * ((31 * ((31 * ((31 * 3) + ((fT_tickets β).toInt64))) + ((fT_day β).toInt64))) + ((fT_closings β).toInt64))) + ((fT_reopenings β).toInt64))) + (((fT_criticalByOrder β γ).1).toInt64)) i60)) + ((fT_stateOf β i60).toInt64))) + ((fT_pointsOf β i60).toInt64))) + ((fT_priorityOf β i60).toInt64))), .long 31, .long 31]) [.int (nI i60)] [0, 1, 2, 3, 4, 5, 6, 7, 8, 9, 10, 11, 12, 13] (kT_hasOwner l E ax bo β tr τ ac ((fT_criticalByOrder β γ).2) ah bd η σ at_ θ hv i60 (by omega) (hasT_n hv (by omega))) caX6_hasOwner q2_209 rfl ⟨Nat.le_of_ble_eq_true rfl, Nat.le_of_ble_eq_true rfl⟩ ⟨Nat.zero_le _, Nat.zero_le _⟩ 0 0 rfl rfl rfl rfl (by decide) rfl rfl rfl rfl (Nat.le_of_ble_eq_true rfl) dL_told_116 rfl ?_
        refine g_ifB_eq C 132 dL_told_119 (by decide) (fun c_24 => ?_) (fun c_24 => ?_)
        · skip
          refine g_iconst C (v := 0) dL_told_132 (by decide) ?_
          refine g_i2l C dL_told_133 ?_
          refine g_ladd C dL_told_134 ?_
          refine g_lmul C dL_told_135 ?_
          refine g_aload_n C dL_told_136 rfl 1 rfl ?_
          refine g_iload_n C dL_told_137 rfl 2 rfl ?_
          refine g_callV C (cs1 := [wX ax (bo 0) (tr 0) (ac 0) (ah 0) (at_ 0), wB E bo β, wB E tr τ, wC E ac ((fT_criticalByOrder β γ).2), wH E ah bd η, wT E at_ θ, wB E (bd 2) (σ 2), wB E (bd 3) (σ 3), wB E (bd 4) (σ 4), wB E (bd 5) (σ 5), wB E (bd 6) (σ 6), wB E (bd 7) (σ 7), wB E (bd 8) (σ 8), wB E (bd 9) (σ 9)]) (st1 := [.int (b2i (fT_isPlanned β i60)), .long (31 * ((31 * ((31 * ((31 * ((31 * (lpF (fL_told_L60 β γ) ((31 * ((31 * ((31 * ((31 * ((31 * 3) + ((fT_tickets β).toInt64))) + ((fT_day β).toInt64))) + ((fT_closings β).toInt64))) + ((fT_reopenings β).toInt64))) + (((fT_criticalByOrder β γ).1).toInt64)) i60)) + ((fT_stateOf β i60).toInt64))) + ((fT_pointsOf β i60).toInt64))) + ((fT_priorityOf β i60).toInt64))) + ((0 : Int32).toInt64))), .long 31]) [.int (nI i60)] [0, 1, 2, 3, 4, 5, 6, 7, 8, 9, 10, 11, 12, 13] (kT_isPlanned l E ax bo β tr τ ac ((fT_criticalByOrder β γ).2) ah bd η σ at_ θ hv i60 (by omega) (hasT_n hv (by omega))) caX6_isPlanned q2_217 rfl ⟨Nat.le_of_ble_eq_true rfl, Nat.le_of_ble_eq_true rfl⟩ ⟨Nat.zero_le _, Nat.zero_le _⟩ 0 0 rfl rfl rfl rfl (by decide) rfl rfl rfl rfl (Nat.le_of_ble_eq_true rfl) dL_told_138 rfl ?_
          refine g_ifB_eq C 154 dL_told_141 (by decide) (fun c_25 => ?_) (fun c_25 => ?_)
          · skip
            refine g_iconst C (v := 0) dL_told_154 (by decide) ?_
            refine g_i2l C dL_told_155 ?_
            refine g_ladd C dL_told_156 ?_
            refine g_lmul C dL_told_157 ?_
            refine g_aload_n C dL_told_158 rfl 1 rfl ?_
            refine g_iload_n C dL_told_159 rfl 2 rfl ?_
            refine g_callV C (cs1 := [wX ax (bo 0) (tr 0) (ac 0) (ah 0) (at_ 0), wB E bo β, wB E tr τ, wC E ac ((fT_criticalByOrder β γ).2), wH E ah bd η, wT E at_ θ, wB E (bd 2) (σ 2), wB E (bd 3) (σ 3), wB E (bd 4) (σ 4), wB E (bd 5) (σ 5), wB E (bd 6) (σ 6), wB E (bd 7) (σ 7), wB E (bd 8) (σ 8), wB E (bd 9) (σ 9)]) (st1 := [.int (fT_daysInProgress β i60), .long (31 * ((31 * ((31 * ((31 * ((31 * ((31 * (lpF (fL_told_L60 β γ) ((31 * ((31 * ((31 * ((31 * ((31 * 3) + ((fT_tickets β).toInt64))) + ((fT_day β).toInt64))) + ((fT_closings β).toInt64))) + ((fT_reopenings β).toInt64))) + (((fT_criticalByOrder β γ).1).toInt64)) i60)) + ((fT_stateOf β i60).toInt64))) + ((fT_pointsOf β i60).toInt64))) + ((fT_priorityOf β i60).toInt64))) + ((0 : Int32).toInt64))) + ((0 : Int32).toInt64)))]) [.int (nI i60)] [0, 1, 2, 3, 4, 5, 6, 7, 8, 9, 10, 11, 12, 13] (kT_daysInProgress l E ax bo β tr τ ac ((fT_criticalByOrder β γ).2) ah bd η σ at_ θ hv i60 (by omega) (hasT_n hv (by omega))) caX6_daysInProgress q2_225 rfl ⟨Nat.le_of_ble_eq_true rfl, Nat.le_of_ble_eq_true rfl⟩ ⟨Nat.zero_le _, Nat.zero_le _⟩ 0 0 rfl rfl rfl rfl (by decide) rfl rfl rfl rfl (Nat.le_of_ble_eq_true rfl) dL_told_160 rfl ?_
            refine g_i2l C dL_told_163 ?_
            refine g_ladd C dL_told_164 ?_
            refine g_lstore_n C (lv1 := [(1, .long ((31 * ((31 * ((31 * ((31 * ((31 * ((31 * (lpF (fL_told_L60 β γ) ((31 * ((31 * ((31 * ((31 * ((31 * 3) + ((fT_tickets β).toInt64))) + ((fT_day β).toInt64))) + ((fT_closings β).toInt64))) + ((fT_reopenings β).toInt64))) + (((fT_criticalByOrder β γ).1).toInt64)) i60)) + ((fT_stateOf β i60).toInt64))) + ((fT_pointsOf β i60).toInt64))) + ((fT_priorityOf β i60).toInt64))) + ((0 : Int32).toInt64))) + ((0 : Int32).toInt64))) + ((fT_daysInProgress β i60).toInt64))), (0, .ref ax), (3, .int (nI i60))]) dL_told_165 rfl (by decide) rfl ?_
            refine g_ldc2 C q2_156 dL_told_166 ?_
            refine g_ldc2 C q2_156 dL_told_169 ?_
            refine g_ldc2 C q2_156 dL_told_172 ?_
            refine g_lload_n C dL_told_175 rfl 0 rfl ?_
            refine g_lmul C dL_told_176 ?_
            refine g_aload_n C dL_told_177 rfl 1 rfl ?_
            refine g_iload_n C dL_told_178 rfl 2 rfl ?_
            refine g_callV C (cs1 := [wX ax (bo 0) (tr 0) (ac 0) (ah 0) (at_ 0), wB E bo β, wB E tr τ, wC E ac ((fT_criticalByOrder β γ).2), wH E ah bd η, wT E at_ θ, wB E (bd 2) (σ 2), wB E (bd 3) (σ 3), wB E (bd 4) (σ 4), wB E (bd 5) (σ 5), wB E (bd 6) (σ 6), wB E (bd 7) (σ 7), wB E (bd 8) (σ 8), wB E (bd 9) (σ 9)]) (st1 := [.int (fT_timesSentBack β i60), .long (31 * ((31 * ((31 * ((31 * ((31 * ((31 * ((31 * (lpF (fL_told_L60 β γ) ((31 * ((31 * ((31 * ((31 * ((31 * 3) + ((fT_tickets β).toInt64))) + ((fT_day β).toInt64))) + ((fT_closings β).toInt64))) + ((fT_reopenings β).toInt64))) + (((fT_criticalByOrder β γ).1).toInt64)) i60)) + ((fT_stateOf β i60).toInt64))) + ((fT_pointsOf β i60).toInt64))) + ((fT_priorityOf β i60).toInt64))) + ((0 : Int32).toInt64))) + ((0 : Int32).toInt64))) + ((fT_daysInProgress β i60).toInt64))), .long 31, .long 31]) [.int (nI i60)] [0, 1, 2, 3, 4, 5, 6, 7, 8, 9, 10, 11, 12, 13] (kT_timesSentBack l E ax bo β tr τ ac ((fT_criticalByOrder β γ).2) ah bd η σ at_ θ hv i60 (by omega) (hasT_n hv (by omega))) caX6_timesSentBack q2_229 rfl ⟨Nat.le_of_ble_eq_true rfl, Nat.le_of_ble_eq_true rfl⟩ ⟨Nat.zero_le _, Nat.zero_le _⟩ 0 0 rfl rfl rfl rfl (by decide) rfl rfl rfl rfl (Nat.le_of_ble_eq_true rfl) dL_told_179 rfl ?_
            refine g_i2l C dL_told_182 ?_
            refine g_ladd C dL_told_183 ?_
            refine g_lmul C dL_told_184 ?_
            refine g_aload_n C dL_told_185 rfl 1 rfl ?_
            refine g_iload_n C dL_told_186 rfl 2 rfl ?_
            refine g_callV C (cs1 := [wX ax (bo 0) (tr 0) (ac 0) (ah 0) (at_ 0), wB E bo β, wB E tr τ, wC E ac ((fT_criticalByOrder β γ).2), wH E ah bd η, wT E at_ θ, wB E (bd 2) (σ 2), wB E (bd 3) (σ 3), wB E (bd 4) (σ 4), wB E (bd 5) (σ 5), wB E (bd 6) (σ 6), wB E (bd 7) (σ 7), wB E (bd 8) (σ 8), wB E (bd 9) (σ 9)]) (st1 := [.int (fT_needsOf β i60), .long (31 * ((31 * ((31 * ((31 * ((31 * ((31 * ((31 * ((31 * (lpF (fL_told_L60 β γ) ((31 * ((31 * ((31 * ((31 * ((31 * 3) + ((fT_tickets β).toInt64))) + ((fT_day β).toInt64))) + ((fT_closings β).toInt64))) + ((fT_reopenings β).toInt64))) + (((fT_criticalByOrder β γ).1).toInt64)) i60)) + ((fT_stateOf β i60).toInt64))) + ((fT_pointsOf β i60).toInt64))) + ((fT_priorityOf β i60).toInt64))) + ((0 : Int32).toInt64))) + ((0 : Int32).toInt64))) + ((fT_daysInProgress β i60).toInt64))) + ((fT_timesSentBack β i60).toInt64))), .long 31]) [.int (nI i60)] [0, 1, 2, 3, 4, 5, 6, 7, 8, 9, 10, 11, 12, 13] (kT_needsOf l E ax bo β tr τ ac ((fT_criticalByOrder β γ).2) ah bd η σ at_ θ hv i60 (by omega) (hasT_n hv (by omega))) caX6_needsOf q2_233 rfl ⟨Nat.le_of_ble_eq_true rfl, Nat.le_of_ble_eq_true rfl⟩ ⟨Nat.zero_le _, Nat.zero_le _⟩ 0 0 rfl rfl rfl rfl (by decide) rfl rfl rfl rfl (Nat.le_of_ble_eq_true rfl) dL_told_187 rfl ?_
            refine g_i2l C dL_told_190 ?_
            refine g_ladd C dL_told_191 ?_
            refine g_lmul C dL_told_192 ?_
            refine g_aload_n C dL_told_193 rfl 1 rfl ?_
            refine g_iload_n C dL_told_194 rfl 2 rfl ?_
            refine g_callV C (cs1 := [wX ax (bo 0) (tr 0) (ac 0) (ah 0) (at_ 0), wB E bo β, wB E tr τ, wC E ac ((fT_criticalByOrder β γ).2), wH E ah bd η, wT E at_ θ, wB E (bd 2) (σ 2), wB E (bd 3) (σ 3), wB E (bd 4) (σ 4), wB E (bd 5) (σ 5), wB E (bd 6) (σ 6), wB E (bd 7) (σ 7), wB E (bd 8) (σ 8), wB E (bd 9) (σ 9)]) (st1 := [.int (fT_chainOf β i60), .long (31 * ((31 * ((31 * ((31 * ((31 * ((31 * ((31 * ((31 * ((31 * (lpF (fL_told_L60 β γ) ((31 * ((31 * ((31 * ((31 * ((31 * 3) + ((fT_tickets β).toInt64))) + ((fT_day β).toInt64))) + ((fT_closings β).toInt64))) + ((fT_reopenings β).toInt64))) + (((fT_criticalByOrder β γ).1).toInt64)) i60)) + ((fT_stateOf β i60).toInt64))) + ((fT_pointsOf β i60).toInt64))) + ((fT_priorityOf β i60).toInt64))) + ((0 : Int32).toInt64))) + ((0 : Int32).toInt64))) + ((fT_daysInProgress β i60).toInt64))) + ((fT_timesSentBack β i60).toInt64))) + ((fT_needsOf β i60).toInt64)))]) [.int (nI i60)] [0, 1, 2, 3, 4, 5, 6, 7, 8, 9, 10, 11, 12, 13] (kT_chainOf l E ax bo β tr τ ac ((fT_criticalByOrder β γ).2) ah bd η σ at_ θ hv i60 (by omega) (hasT_n hv (by omega))) caX6_chainOf q3_3 rfl ⟨Nat.le_of_ble_eq_true rfl, Nat.le_of_ble_eq_true rfl⟩ ⟨Nat.zero_le _, Nat.zero_le _⟩ 0 0 rfl rfl rfl rfl (by decide) rfl rfl rfl rfl (Nat.le_of_ble_eq_true rfl) dL_told_195 rfl ?_
            refine g_i2l C dL_told_198 ?_
            refine g_ladd C dL_told_199 ?_
            refine g_lstore_n C (lv1 := [(1, .long ((31 * ((31 * ((31 * ((31 * ((31 * ((31 * ((31 * ((31 * ((31 * (lpF (fL_told_L60 β γ) ((31 * ((31 * ((31 * ((31 * ((31 * 3) + ((fT_tickets β).toInt64))) + ((fT_day β).toInt64))) + ((fT_closings β).toInt64))) + ((fT_reopenings β).toInt64))) + (((fT_criticalByOrder β γ).1).toInt64)) i60)) + ((fT_stateOf β i60).toInt64))) + ((fT_pointsOf β i60).toInt64))) + ((fT_priorityOf β i60).toInt64))) + ((0 : Int32).toInt64))) + ((0 : Int32).toInt64))) + ((fT_daysInProgress β i60).toInt64))) + ((fT_timesSentBack β i60).toInt64))) + ((fT_needsOf β i60).toInt64))) + ((fT_chainOf β i60).toInt64))), (0, .ref ax), (3, .int (nI i60))]) dL_told_200 rfl (by decide) rfl ?_
            refine g_iinc C (v := nI (i60 + 1)) (lv1 := [(3, .int (nI (i60 + 1))), (1, .long ((31 * ((31 * ((31 * ((31 * ((31 * ((31 * ((31 * ((31 * ((31 * (lpF (fL_told_L60 β γ) ((31 * ((31 * ((31 * ((31 * ((31 * 3) + ((fT_tickets β).toInt64))) + ((fT_day β).toInt64))) + ((fT_closings β).toInt64))) + ((fT_reopenings β).toInt64))) + (((fT_criticalByOrder β γ).1).toInt64)) i60)) + ((fT_stateOf β i60).toInt64))) + ((fT_pointsOf β i60).toInt64))) + ((fT_priorityOf β i60).toInt64))) + ((0 : Int32).toInt64))) + ((0 : Int32).toInt64))) + ((fT_daysInProgress β i60).toInt64))) + ((fT_timesSentBack β i60).toInt64))) + ((fT_needsOf β i60).toInt64))) + ((fT_chainOf β i60).toInt64))), (0, .ref ax)]) dL_told_201 2 rfl (nI_1 i60) (by decide) rfl ?_
            refine g_goto C 60 dL_told_204 (by decide) ?_
            have e_26 : (lpF (fL_told_L60 β γ) ((31 * ((31 * ((31 * ((31 * ((31 * 3) + ((fT_tickets β).toInt64))) + ((fT_day β).toInt64))) + ((fT_closings β).toInt64))) + ((fT_reopenings β).toInt64))) + (((fT_criticalByOrder β γ).1).toInt64)) (i60 + 1)) = (31 * ((31 * ((31 * ((31 * ((31 * ((31 * ((31 * ((31 * ((31 * (lpF (fL_told_L60 β γ) ((31 * ((31 * ((31 * ((31 * ((31 * 3) + ((fT_tickets β).toInt64))) + ((fT_day β).toInt64))) + ((fT_closings β).toInt64))) + ((fT_reopenings β).toInt64))) + (((fT_criticalByOrder β γ).1).toInt64)) i60)) + ((fT_stateOf β i60).toInt64))) + ((fT_pointsOf β i60).toInt64))) + ((fT_priorityOf β i60).toInt64))) + ((0 : Int32).toInt64))) + ((0 : Int32).toInt64))) + ((fT_daysInProgress β i60).toInt64))) + ((fT_timesSentBack β i60).toInt64))) + ((fT_needsOf β i60).toInt64))) + ((fT_chainOf β i60).toInt64) := by
              rw [lpF_1, fL_told_L60]; rw [if_neg (ne_true_of_eq_false c_24), if_neg (ne_true_of_eq_false c_25)]
            have h_27 := ih_4 (i60 + 1) (by omega)
            rw [e_26] at h_27
            exact g_sub [2, 1, 0] rfl h_27
          · skip
            have hm9 := isPlanned_ne c_25
            refine g_iconst C (v := 1) dL_told_144 (by decide) ?_
            refine g_aload_n C dL_told_145 rfl 1 rfl ?_
            refine g_iload_n C dL_told_146 rfl 2 rfl ?_
            refine g_callV C (cs1 := [wX ax (bo 0) (tr 0) (ac 0) (ah 0) (at_ 0), wB E bo β, wB E tr τ, wC E ac ((fT_criticalByOrder β γ).2), wH E ah bd η, wT E at_ θ, wB E (bd 2) (σ 2), wB E (bd 3) (σ 3), wB E (bd 4) (σ 4), wB E (bd 5) (σ 5), wB E (bd 6) (σ 6), wB E (bd 7) (σ 7), wB E (bd 8) (σ 8), wB E (bd 9) (σ 9)]) (st1 := [.int (fT_milestoneOf β i60), .int 1, .long (31 * ((31 * ((31 * ((31 * ((31 * (lpF (fL_told_L60 β γ) ((31 * ((31 * ((31 * ((31 * ((31 * 3) + ((fT_tickets β).toInt64))) + ((fT_day β).toInt64))) + ((fT_closings β).toInt64))) + ((fT_reopenings β).toInt64))) + (((fT_criticalByOrder β γ).1).toInt64)) i60)) + ((fT_stateOf β i60).toInt64))) + ((fT_pointsOf β i60).toInt64))) + ((fT_priorityOf β i60).toInt64))) + ((0 : Int32).toInt64))), .long 31]) [.int (nI i60)] [0, 1, 2, 3, 4, 5, 6, 7, 8, 9, 10, 11, 12, 13] (kT_milestoneOf l E ax bo β tr τ ac ((fT_criticalByOrder β γ).2) ah bd η σ at_ θ hv i60 (by omega) hm9 (hasT_n hv (by omega))) caX6_milestoneOf q2_221 rfl ⟨Nat.le_of_ble_eq_true rfl, Nat.le_of_ble_eq_true rfl⟩ ⟨Nat.zero_le _, Nat.zero_le _⟩ 0 0 rfl rfl rfl rfl (by decide) rfl rfl rfl rfl (Nat.le_of_ble_eq_true rfl) dL_told_147 rfl ?_
            refine g_iadd C dL_told_150 ?_
            refine g_goto C 155 dL_told_151 (by decide) ?_
            refine g_i2l C dL_told_155 ?_
            refine g_ladd C dL_told_156 ?_
            refine g_lmul C dL_told_157 ?_
            refine g_aload_n C dL_told_158 rfl 1 rfl ?_
            refine g_iload_n C dL_told_159 rfl 2 rfl ?_
            refine g_callV C (cs1 := [wX ax (bo 0) (tr 0) (ac 0) (ah 0) (at_ 0), wB E bo β, wB E tr τ, wC E ac ((fT_criticalByOrder β γ).2), wH E ah bd η, wT E at_ θ, wB E (bd 2) (σ 2), wB E (bd 3) (σ 3), wB E (bd 4) (σ 4), wB E (bd 5) (σ 5), wB E (bd 6) (σ 6), wB E (bd 7) (σ 7), wB E (bd 8) (σ 8), wB E (bd 9) (σ 9)]) (st1 := [.int (fT_daysInProgress β i60), .long (31 * ((31 * ((31 * ((31 * ((31 * ((31 * (lpF (fL_told_L60 β γ) ((31 * ((31 * ((31 * ((31 * ((31 * 3) + ((fT_tickets β).toInt64))) + ((fT_day β).toInt64))) + ((fT_closings β).toInt64))) + ((fT_reopenings β).toInt64))) + (((fT_criticalByOrder β γ).1).toInt64)) i60)) + ((fT_stateOf β i60).toInt64))) + ((fT_pointsOf β i60).toInt64))) + ((fT_priorityOf β i60).toInt64))) + ((0 : Int32).toInt64))) + ((1 + (fT_milestoneOf β i60)).toInt64)))]) [.int (nI i60)] [0, 1, 2, 3, 4, 5, 6, 7, 8, 9, 10, 11, 12, 13] (kT_daysInProgress l E ax bo β tr τ ac ((fT_criticalByOrder β γ).2) ah bd η σ at_ θ hv i60 (by omega) (hasT_n hv (by omega))) caX6_daysInProgress q2_225 rfl ⟨Nat.le_of_ble_eq_true rfl, Nat.le_of_ble_eq_true rfl⟩ ⟨Nat.zero_le _, Nat.zero_le _⟩ 0 0 rfl rfl rfl rfl (by decide) rfl rfl rfl rfl (Nat.le_of_ble_eq_true rfl) dL_told_160 rfl ?_
            refine g_i2l C dL_told_163 ?_
            refine g_ladd C dL_told_164 ?_
            refine g_lstore_n C (lv1 := [(1, .long ((31 * ((31 * ((31 * ((31 * ((31 * ((31 * (lpF (fL_told_L60 β γ) ((31 * ((31 * ((31 * ((31 * ((31 * 3) + ((fT_tickets β).toInt64))) + ((fT_day β).toInt64))) + ((fT_closings β).toInt64))) + ((fT_reopenings β).toInt64))) + (((fT_criticalByOrder β γ).1).toInt64)) i60)) + ((fT_stateOf β i60).toInt64))) + ((fT_pointsOf β i60).toInt64))) + ((fT_priorityOf β i60).toInt64))) + ((0 : Int32).toInt64))) + ((1 + (fT_milestoneOf β i60)).toInt64))) + ((fT_daysInProgress β i60).toInt64))), (0, .ref ax), (3, .int (nI i60))]) dL_told_165 rfl (by decide) rfl ?_
            refine g_ldc2 C q2_156 dL_told_166 ?_
            refine g_ldc2 C q2_156 dL_told_169 ?_
            refine g_ldc2 C q2_156 dL_told_172 ?_
            refine g_lload_n C dL_told_175 rfl 0 rfl ?_
            refine g_lmul C dL_told_176 ?_
            refine g_aload_n C dL_told_177 rfl 1 rfl ?_
            refine g_iload_n C dL_told_178 rfl 2 rfl ?_
            refine g_callV C (cs1 := [wX ax (bo 0) (tr 0) (ac 0) (ah 0) (at_ 0), wB E bo β, wB E tr τ, wC E ac ((fT_criticalByOrder β γ).2), wH E ah bd η, wT E at_ θ, wB E (bd 2) (σ 2), wB E (bd 3) (σ 3), wB E (bd 4) (σ 4), wB E (bd 5) (σ 5), wB E (bd 6) (σ 6), wB E (bd 7) (σ 7), wB E (bd 8) (σ 8), wB E (bd 9) (σ 9)]) (st1 := [.int (fT_timesSentBack β i60), .long (31 * ((31 * ((31 * ((31 * ((31 * ((31 * ((31 * (lpF (fL_told_L60 β γ) ((31 * ((31 * ((31 * ((31 * ((31 * 3) + ((fT_tickets β).toInt64))) + ((fT_day β).toInt64))) + ((fT_closings β).toInt64))) + ((fT_reopenings β).toInt64))) + (((fT_criticalByOrder β γ).1).toInt64)) i60)) + ((fT_stateOf β i60).toInt64))) + ((fT_pointsOf β i60).toInt64))) + ((fT_priorityOf β i60).toInt64))) + ((0 : Int32).toInt64))) + ((1 + (fT_milestoneOf β i60)).toInt64))) + ((fT_daysInProgress β i60).toInt64))), .long 31, .long 31]) [.int (nI i60)] [0, 1, 2, 3, 4, 5, 6, 7, 8, 9, 10, 11, 12, 13] (kT_timesSentBack l E ax bo β tr τ ac ((fT_criticalByOrder β γ).2) ah bd η σ at_ θ hv i60 (by omega) (hasT_n hv (by omega))) caX6_timesSentBack q2_229 rfl ⟨Nat.le_of_ble_eq_true rfl, Nat.le_of_ble_eq_true rfl⟩ ⟨Nat.zero_le _, Nat.zero_le _⟩ 0 0 rfl rfl rfl rfl (by decide) rfl rfl rfl rfl (Nat.le_of_ble_eq_true rfl) dL_told_179 rfl ?_
            refine g_i2l C dL_told_182 ?_
            refine g_ladd C dL_told_183 ?_
            refine g_lmul C dL_told_184 ?_
            refine g_aload_n C dL_told_185 rfl 1 rfl ?_
            refine g_iload_n C dL_told_186 rfl 2 rfl ?_
            refine g_callV C (cs1 := [wX ax (bo 0) (tr 0) (ac 0) (ah 0) (at_ 0), wB E bo β, wB E tr τ, wC E ac ((fT_criticalByOrder β γ).2), wH E ah bd η, wT E at_ θ, wB E (bd 2) (σ 2), wB E (bd 3) (σ 3), wB E (bd 4) (σ 4), wB E (bd 5) (σ 5), wB E (bd 6) (σ 6), wB E (bd 7) (σ 7), wB E (bd 8) (σ 8), wB E (bd 9) (σ 9)]) (st1 := [.int (fT_needsOf β i60), .long (31 * ((31 * ((31 * ((31 * ((31 * ((31 * ((31 * ((31 * (lpF (fL_told_L60 β γ) ((31 * ((31 * ((31 * ((31 * ((31 * 3) + ((fT_tickets β).toInt64))) + ((fT_day β).toInt64))) + ((fT_closings β).toInt64))) + ((fT_reopenings β).toInt64))) + (((fT_criticalByOrder β γ).1).toInt64)) i60)) + ((fT_stateOf β i60).toInt64))) + ((fT_pointsOf β i60).toInt64))) + ((fT_priorityOf β i60).toInt64))) + ((0 : Int32).toInt64))) + ((1 + (fT_milestoneOf β i60)).toInt64))) + ((fT_daysInProgress β i60).toInt64))) + ((fT_timesSentBack β i60).toInt64))), .long 31]) [.int (nI i60)] [0, 1, 2, 3, 4, 5, 6, 7, 8, 9, 10, 11, 12, 13] (kT_needsOf l E ax bo β tr τ ac ((fT_criticalByOrder β γ).2) ah bd η σ at_ θ hv i60 (by omega) (hasT_n hv (by omega))) caX6_needsOf q2_233 rfl ⟨Nat.le_of_ble_eq_true rfl, Nat.le_of_ble_eq_true rfl⟩ ⟨Nat.zero_le _, Nat.zero_le _⟩ 0 0 rfl rfl rfl rfl (by decide) rfl rfl rfl rfl (Nat.le_of_ble_eq_true rfl) dL_told_187 rfl ?_
            refine g_i2l C dL_told_190 ?_
            refine g_ladd C dL_told_191 ?_
            refine g_lmul C dL_told_192 ?_
            refine g_aload_n C dL_told_193 rfl 1 rfl ?_
            refine g_iload_n C dL_told_194 rfl 2 rfl ?_
            refine g_callV C (cs1 := [wX ax (bo 0) (tr 0) (ac 0) (ah 0) (at_ 0), wB E bo β, wB E tr τ, wC E ac ((fT_criticalByOrder β γ).2), wH E ah bd η, wT E at_ θ, wB E (bd 2) (σ 2), wB E (bd 3) (σ 3), wB E (bd 4) (σ 4), wB E (bd 5) (σ 5), wB E (bd 6) (σ 6), wB E (bd 7) (σ 7), wB E (bd 8) (σ 8), wB E (bd 9) (σ 9)]) (st1 := [.int (fT_chainOf β i60), .long (31 * ((31 * ((31 * ((31 * ((31 * ((31 * ((31 * ((31 * ((31 * (lpF (fL_told_L60 β γ) ((31 * ((31 * ((31 * ((31 * ((31 * 3) + ((fT_tickets β).toInt64))) + ((fT_day β).toInt64))) + ((fT_closings β).toInt64))) + ((fT_reopenings β).toInt64))) + (((fT_criticalByOrder β γ).1).toInt64)) i60)) + ((fT_stateOf β i60).toInt64))) + ((fT_pointsOf β i60).toInt64))) + ((fT_priorityOf β i60).toInt64))) + ((0 : Int32).toInt64))) + ((1 + (fT_milestoneOf β i60)).toInt64))) + ((fT_daysInProgress β i60).toInt64))) + ((fT_timesSentBack β i60).toInt64))) + ((fT_needsOf β i60).toInt64)))]) [.int (nI i60)] [0, 1, 2, 3, 4, 5, 6, 7, 8, 9, 10, 11, 12, 13] (kT_chainOf l E ax bo β tr τ ac ((fT_criticalByOrder β γ).2) ah bd η σ at_ θ hv i60 (by omega) (hasT_n hv (by omega))) caX6_chainOf q3_3 rfl ⟨Nat.le_of_ble_eq_true rfl, Nat.le_of_ble_eq_true rfl⟩ ⟨Nat.zero_le _, Nat.zero_le _⟩ 0 0 rfl rfl rfl rfl (by decide) rfl rfl rfl rfl (Nat.le_of_ble_eq_true rfl) dL_told_195 rfl ?_
            refine g_i2l C dL_told_198 ?_
            refine g_ladd C dL_told_199 ?_
            refine g_lstore_n C (lv1 := [(1, .long ((31 * ((31 * ((31 * ((31 * ((31 * ((31 * ((31 * ((31 * ((31 * (lpF (fL_told_L60 β γ) ((31 * ((31 * ((31 * ((31 * ((31 * 3) + ((fT_tickets β).toInt64))) + ((fT_day β).toInt64))) + ((fT_closings β).toInt64))) + ((fT_reopenings β).toInt64))) + (((fT_criticalByOrder β γ).1).toInt64)) i60)) + ((fT_stateOf β i60).toInt64))) + ((fT_pointsOf β i60).toInt64))) + ((fT_priorityOf β i60).toInt64))) + ((0 : Int32).toInt64))) + ((1 + (fT_milestoneOf β i60)).toInt64))) + ((fT_daysInProgress β i60).toInt64))) + ((fT_timesSentBack β i60).toInt64))) + ((fT_needsOf β i60).toInt64))) + ((fT_chainOf β i60).toInt64))), (0, .ref ax), (3, .int (nI i60))]) dL_told_200 rfl (by decide) rfl ?_
            refine g_iinc C (v := nI (i60 + 1)) (lv1 := [(3, .int (nI (i60 + 1))), (1, .long ((31 * ((31 * ((31 * ((31 * ((31 * ((31 * ((31 * ((31 * ((31 * (lpF (fL_told_L60 β γ) ((31 * ((31 * ((31 * ((31 * ((31 * 3) + ((fT_tickets β).toInt64))) + ((fT_day β).toInt64))) + ((fT_closings β).toInt64))) + ((fT_reopenings β).toInt64))) + (((fT_criticalByOrder β γ).1).toInt64)) i60)) + ((fT_stateOf β i60).toInt64))) + ((fT_pointsOf β i60).toInt64))) + ((fT_priorityOf β i60).toInt64))) + ((0 : Int32).toInt64))) + ((1 + (fT_milestoneOf β i60)).toInt64))) + ((fT_daysInProgress β i60).toInt64))) + ((fT_timesSentBack β i60).toInt64))) + ((fT_needsOf β i60).toInt64))) + ((fT_chainOf β i60).toInt64))), (0, .ref ax)]) dL_told_201 2 rfl (nI_1 i60) (by decide) rfl ?_
            refine g_goto C 60 dL_told_204 (by decide) ?_
            have e_28 : (lpF (fL_told_L60 β γ) ((31 * ((31 * ((31 * ((31 * ((31 * 3) + ((fT_tickets β).toInt64))) + ((fT_day β).toInt64))) + ((fT_closings β).toInt64))) + ((fT_reopenings β).toInt64))) + (((fT_criticalByOrder β γ).1).toInt64)) (i60 + 1)) = (31 * ((31 * ((31 * ((31 * ((31 * ((31 * ((31 * ((31 * ((31 * (lpF (fL_told_L60 β γ) ((31 * ((31 * ((31 * ((31 * ((31 * 3) + ((fT_tickets β).toInt64))) + ((fT_day β).toInt64))) + ((fT_closings β).toInt64))) + ((fT_reopenings β).toInt64))) + (((fT_criticalByOrder β γ).1).toInt64)) i60)) + ((fT_stateOf β i60).toInt64))) + ((fT_pointsOf β i60).toInt64))) + ((fT_priorityOf β i60).toInt64))) + ((0 : Int32).toInt64))) + ((1 + (fT_milestoneOf β i60)).toInt64))) + ((fT_daysInProgress β i60).toInt64))) + ((fT_timesSentBack β i60).toInt64))) + ((fT_needsOf β i60).toInt64))) + ((fT_chainOf β i60).toInt64) := by
              rw [lpF_1, fL_told_L60]; rw [if_neg (ne_true_of_eq_false c_24), if_pos c_25]
            have h_29 := ih_4 (i60 + 1) (by omega)
            rw [e_28] at h_29
            exact g_sub [2, 1, 0] rfl h_29
        · skip
          have ho9 := hasOwner_ne c_24
          refine g_iconst C (v := 1) dL_told_122 (by decide) ?_
          refine g_aload_n C dL_told_123 rfl 1 rfl ?_
          refine g_iload_n C dL_told_124 rfl 2 rfl ?_
          refine g_callV C (cs1 := [wX ax (bo 0) (tr 0) (ac 0) (ah 0) (at_ 0), wB E bo β, wB E tr τ, wC E ac ((fT_criticalByOrder β γ).2), wH E ah bd η, wT E at_ θ, wB E (bd 2) (σ 2), wB E (bd 3) (σ 3), wB E (bd 4) (σ 4), wB E (bd 5) (σ 5), wB E (bd 6) (σ 6), wB E (bd 7) (σ 7), wB E (bd 8) (σ 8), wB E (bd 9) (σ 9)]) (st1 := [.int (fT_ownerOf β i60), .int 1, .long (31 * ((31 * ((31 * ((31 * (lpF (fL_told_L60 β γ) ((31 * ((31 * ((31 * ((31 * ((31 * 3) + ((fT_tickets β).toInt64))) + ((fT_day β).toInt64))) + ((fT_closings β).toInt64))) + ((fT_reopenings β).toInt64))) + (((fT_criticalByOrder β γ).1).toInt64)) i60)) + ((fT_stateOf β i60).toInt64))) + ((fT_pointsOf β i60).toInt64))) + ((fT_priorityOf β i60).toInt64))), .long 31, .long 31]) [.int (nI i60)] [0, 1, 2, 3, 4, 5, 6, 7, 8, 9, 10, 11, 12, 13] (kT_ownerOf l E ax bo β tr τ ac ((fT_criticalByOrder β γ).2) ah bd η σ at_ θ hv i60 (by omega) ho9 (hasT_n hv (by omega))) caX6_ownerOf q2_213 rfl ⟨Nat.le_of_ble_eq_true rfl, Nat.le_of_ble_eq_true rfl⟩ ⟨Nat.zero_le _, Nat.zero_le _⟩ 0 0 rfl rfl rfl rfl (by decide) rfl rfl rfl rfl (Nat.le_of_ble_eq_true rfl) dL_told_125 rfl ?_
          refine g_iadd C dL_told_128 ?_
          refine g_goto C 133 dL_told_129 (by decide) ?_
          refine g_i2l C dL_told_133 ?_
          refine g_ladd C dL_told_134 ?_
          refine g_lmul C dL_told_135 ?_
          refine g_aload_n C dL_told_136 rfl 1 rfl ?_
          refine g_iload_n C dL_told_137 rfl 2 rfl ?_
          refine g_callV C (cs1 := [wX ax (bo 0) (tr 0) (ac 0) (ah 0) (at_ 0), wB E bo β, wB E tr τ, wC E ac ((fT_criticalByOrder β γ).2), wH E ah bd η, wT E at_ θ, wB E (bd 2) (σ 2), wB E (bd 3) (σ 3), wB E (bd 4) (σ 4), wB E (bd 5) (σ 5), wB E (bd 6) (σ 6), wB E (bd 7) (σ 7), wB E (bd 8) (σ 8), wB E (bd 9) (σ 9)]) (st1 := [.int (b2i (fT_isPlanned β i60)), .long (31 * ((31 * ((31 * ((31 * ((31 * (lpF (fL_told_L60 β γ) ((31 * ((31 * ((31 * ((31 * ((31 * 3) + ((fT_tickets β).toInt64))) + ((fT_day β).toInt64))) + ((fT_closings β).toInt64))) + ((fT_reopenings β).toInt64))) + (((fT_criticalByOrder β γ).1).toInt64)) i60)) + ((fT_stateOf β i60).toInt64))) + ((fT_pointsOf β i60).toInt64))) + ((fT_priorityOf β i60).toInt64))) + ((1 + (fT_ownerOf β i60)).toInt64))), .long 31]) [.int (nI i60)] [0, 1, 2, 3, 4, 5, 6, 7, 8, 9, 10, 11, 12, 13] (kT_isPlanned l E ax bo β tr τ ac ((fT_criticalByOrder β γ).2) ah bd η σ at_ θ hv i60 (by omega) (hasT_n hv (by omega))) caX6_isPlanned q2_217 rfl ⟨Nat.le_of_ble_eq_true rfl, Nat.le_of_ble_eq_true rfl⟩ ⟨Nat.zero_le _, Nat.zero_le _⟩ 0 0 rfl rfl rfl rfl (by decide) rfl rfl rfl rfl (Nat.le_of_ble_eq_true rfl) dL_told_138 rfl ?_
          refine g_ifB_eq C 154 dL_told_141 (by decide) (fun c_30 => ?_) (fun c_30 => ?_)
          · skip
            refine g_iconst C (v := 0) dL_told_154 (by decide) ?_
            refine g_i2l C dL_told_155 ?_
            refine g_ladd C dL_told_156 ?_
            refine g_lmul C dL_told_157 ?_
            refine g_aload_n C dL_told_158 rfl 1 rfl ?_
            refine g_iload_n C dL_told_159 rfl 2 rfl ?_
            refine g_callV C (cs1 := [wX ax (bo 0) (tr 0) (ac 0) (ah 0) (at_ 0), wB E bo β, wB E tr τ, wC E ac ((fT_criticalByOrder β γ).2), wH E ah bd η, wT E at_ θ, wB E (bd 2) (σ 2), wB E (bd 3) (σ 3), wB E (bd 4) (σ 4), wB E (bd 5) (σ 5), wB E (bd 6) (σ 6), wB E (bd 7) (σ 7), wB E (bd 8) (σ 8), wB E (bd 9) (σ 9)]) (st1 := [.int (fT_daysInProgress β i60), .long (31 * ((31 * ((31 * ((31 * ((31 * ((31 * (lpF (fL_told_L60 β γ) ((31 * ((31 * ((31 * ((31 * ((31 * 3) + ((fT_tickets β).toInt64))) + ((fT_day β).toInt64))) + ((fT_closings β).toInt64))) + ((fT_reopenings β).toInt64))) + (((fT_criticalByOrder β γ).1).toInt64)) i60)) + ((fT_stateOf β i60).toInt64))) + ((fT_pointsOf β i60).toInt64))) + ((fT_priorityOf β i60).toInt64))) + ((1 + (fT_ownerOf β i60)).toInt64))) + ((0 : Int32).toInt64)))]) [.int (nI i60)] [0, 1, 2, 3, 4, 5, 6, 7, 8, 9, 10, 11, 12, 13] (kT_daysInProgress l E ax bo β tr τ ac ((fT_criticalByOrder β γ).2) ah bd η σ at_ θ hv i60 (by omega) (hasT_n hv (by omega))) caX6_daysInProgress q2_225 rfl ⟨Nat.le_of_ble_eq_true rfl, Nat.le_of_ble_eq_true rfl⟩ ⟨Nat.zero_le _, Nat.zero_le _⟩ 0 0 rfl rfl rfl rfl (by decide) rfl rfl rfl rfl (Nat.le_of_ble_eq_true rfl) dL_told_160 rfl ?_
            refine g_i2l C dL_told_163 ?_
            refine g_ladd C dL_told_164 ?_
            refine g_lstore_n C (lv1 := [(1, .long ((31 * ((31 * ((31 * ((31 * ((31 * ((31 * (lpF (fL_told_L60 β γ) ((31 * ((31 * ((31 * ((31 * ((31 * 3) + ((fT_tickets β).toInt64))) + ((fT_day β).toInt64))) + ((fT_closings β).toInt64))) + ((fT_reopenings β).toInt64))) + (((fT_criticalByOrder β γ).1).toInt64)) i60)) + ((fT_stateOf β i60).toInt64))) + ((fT_pointsOf β i60).toInt64))) + ((fT_priorityOf β i60).toInt64))) + ((1 + (fT_ownerOf β i60)).toInt64))) + ((0 : Int32).toInt64))) + ((fT_daysInProgress β i60).toInt64))), (0, .ref ax), (3, .int (nI i60))]) dL_told_165 rfl (by decide) rfl ?_
            refine g_ldc2 C q2_156 dL_told_166 ?_
            refine g_ldc2 C q2_156 dL_told_169 ?_
            refine g_ldc2 C q2_156 dL_told_172 ?_
            refine g_lload_n C dL_told_175 rfl 0 rfl ?_
            refine g_lmul C dL_told_176 ?_
            refine g_aload_n C dL_told_177 rfl 1 rfl ?_
            refine g_iload_n C dL_told_178 rfl 2 rfl ?_
            refine g_callV C (cs1 := [wX ax (bo 0) (tr 0) (ac 0) (ah 0) (at_ 0), wB E bo β, wB E tr τ, wC E ac ((fT_criticalByOrder β γ).2), wH E ah bd η, wT E at_ θ, wB E (bd 2) (σ 2), wB E (bd 3) (σ 3), wB E (bd 4) (σ 4), wB E (bd 5) (σ 5), wB E (bd 6) (σ 6), wB E (bd 7) (σ 7), wB E (bd 8) (σ 8), wB E (bd 9) (σ 9)]) (st1 := [.int (fT_timesSentBack β i60), .long (31 * ((31 * ((31 * ((31 * ((31 * ((31 * ((31 * (lpF (fL_told_L60 β γ) ((31 * ((31 * ((31 * ((31 * ((31 * 3) + ((fT_tickets β).toInt64))) + ((fT_day β).toInt64))) + ((fT_closings β).toInt64))) + ((fT_reopenings β).toInt64))) + (((fT_criticalByOrder β γ).1).toInt64)) i60)) + ((fT_stateOf β i60).toInt64))) + ((fT_pointsOf β i60).toInt64))) + ((fT_priorityOf β i60).toInt64))) + ((1 + (fT_ownerOf β i60)).toInt64))) + ((0 : Int32).toInt64))) + ((fT_daysInProgress β i60).toInt64))), .long 31, .long 31]) [.int (nI i60)] [0, 1, 2, 3, 4, 5, 6, 7, 8, 9, 10, 11, 12, 13] (kT_timesSentBack l E ax bo β tr τ ac ((fT_criticalByOrder β γ).2) ah bd η σ at_ θ hv i60 (by omega) (hasT_n hv (by omega))) caX6_timesSentBack q2_229 rfl ⟨Nat.le_of_ble_eq_true rfl, Nat.le_of_ble_eq_true rfl⟩ ⟨Nat.zero_le _, Nat.zero_le _⟩ 0 0 rfl rfl rfl rfl (by decide) rfl rfl rfl rfl (Nat.le_of_ble_eq_true rfl) dL_told_179 rfl ?_
            refine g_i2l C dL_told_182 ?_
            refine g_ladd C dL_told_183 ?_
            refine g_lmul C dL_told_184 ?_
            refine g_aload_n C dL_told_185 rfl 1 rfl ?_
            refine g_iload_n C dL_told_186 rfl 2 rfl ?_
            refine g_callV C (cs1 := [wX ax (bo 0) (tr 0) (ac 0) (ah 0) (at_ 0), wB E bo β, wB E tr τ, wC E ac ((fT_criticalByOrder β γ).2), wH E ah bd η, wT E at_ θ, wB E (bd 2) (σ 2), wB E (bd 3) (σ 3), wB E (bd 4) (σ 4), wB E (bd 5) (σ 5), wB E (bd 6) (σ 6), wB E (bd 7) (σ 7), wB E (bd 8) (σ 8), wB E (bd 9) (σ 9)]) (st1 := [.int (fT_needsOf β i60), .long (31 * ((31 * ((31 * ((31 * ((31 * ((31 * ((31 * ((31 * (lpF (fL_told_L60 β γ) ((31 * ((31 * ((31 * ((31 * ((31 * 3) + ((fT_tickets β).toInt64))) + ((fT_day β).toInt64))) + ((fT_closings β).toInt64))) + ((fT_reopenings β).toInt64))) + (((fT_criticalByOrder β γ).1).toInt64)) i60)) + ((fT_stateOf β i60).toInt64))) + ((fT_pointsOf β i60).toInt64))) + ((fT_priorityOf β i60).toInt64))) + ((1 + (fT_ownerOf β i60)).toInt64))) + ((0 : Int32).toInt64))) + ((fT_daysInProgress β i60).toInt64))) + ((fT_timesSentBack β i60).toInt64))), .long 31]) [.int (nI i60)] [0, 1, 2, 3, 4, 5, 6, 7, 8, 9, 10, 11, 12, 13] (kT_needsOf l E ax bo β tr τ ac ((fT_criticalByOrder β γ).2) ah bd η σ at_ θ hv i60 (by omega) (hasT_n hv (by omega))) caX6_needsOf q2_233 rfl ⟨Nat.le_of_ble_eq_true rfl, Nat.le_of_ble_eq_true rfl⟩ ⟨Nat.zero_le _, Nat.zero_le _⟩ 0 0 rfl rfl rfl rfl (by decide) rfl rfl rfl rfl (Nat.le_of_ble_eq_true rfl) dL_told_187 rfl ?_
            refine g_i2l C dL_told_190 ?_
            refine g_ladd C dL_told_191 ?_
            refine g_lmul C dL_told_192 ?_
            refine g_aload_n C dL_told_193 rfl 1 rfl ?_
            refine g_iload_n C dL_told_194 rfl 2 rfl ?_
            refine g_callV C (cs1 := [wX ax (bo 0) (tr 0) (ac 0) (ah 0) (at_ 0), wB E bo β, wB E tr τ, wC E ac ((fT_criticalByOrder β γ).2), wH E ah bd η, wT E at_ θ, wB E (bd 2) (σ 2), wB E (bd 3) (σ 3), wB E (bd 4) (σ 4), wB E (bd 5) (σ 5), wB E (bd 6) (σ 6), wB E (bd 7) (σ 7), wB E (bd 8) (σ 8), wB E (bd 9) (σ 9)]) (st1 := [.int (fT_chainOf β i60), .long (31 * ((31 * ((31 * ((31 * ((31 * ((31 * ((31 * ((31 * ((31 * (lpF (fL_told_L60 β γ) ((31 * ((31 * ((31 * ((31 * ((31 * 3) + ((fT_tickets β).toInt64))) + ((fT_day β).toInt64))) + ((fT_closings β).toInt64))) + ((fT_reopenings β).toInt64))) + (((fT_criticalByOrder β γ).1).toInt64)) i60)) + ((fT_stateOf β i60).toInt64))) + ((fT_pointsOf β i60).toInt64))) + ((fT_priorityOf β i60).toInt64))) + ((1 + (fT_ownerOf β i60)).toInt64))) + ((0 : Int32).toInt64))) + ((fT_daysInProgress β i60).toInt64))) + ((fT_timesSentBack β i60).toInt64))) + ((fT_needsOf β i60).toInt64)))]) [.int (nI i60)] [0, 1, 2, 3, 4, 5, 6, 7, 8, 9, 10, 11, 12, 13] (kT_chainOf l E ax bo β tr τ ac ((fT_criticalByOrder β γ).2) ah bd η σ at_ θ hv i60 (by omega) (hasT_n hv (by omega))) caX6_chainOf q3_3 rfl ⟨Nat.le_of_ble_eq_true rfl, Nat.le_of_ble_eq_true rfl⟩ ⟨Nat.zero_le _, Nat.zero_le _⟩ 0 0 rfl rfl rfl rfl (by decide) rfl rfl rfl rfl (Nat.le_of_ble_eq_true rfl) dL_told_195 rfl ?_
            refine g_i2l C dL_told_198 ?_
            refine g_ladd C dL_told_199 ?_
            refine g_lstore_n C (lv1 := [(1, .long ((31 * ((31 * ((31 * ((31 * ((31 * ((31 * ((31 * ((31 * ((31 * (lpF (fL_told_L60 β γ) ((31 * ((31 * ((31 * ((31 * ((31 * 3) + ((fT_tickets β).toInt64))) + ((fT_day β).toInt64))) + ((fT_closings β).toInt64))) + ((fT_reopenings β).toInt64))) + (((fT_criticalByOrder β γ).1).toInt64)) i60)) + ((fT_stateOf β i60).toInt64))) + ((fT_pointsOf β i60).toInt64))) + ((fT_priorityOf β i60).toInt64))) + ((1 + (fT_ownerOf β i60)).toInt64))) + ((0 : Int32).toInt64))) + ((fT_daysInProgress β i60).toInt64))) + ((fT_timesSentBack β i60).toInt64))) + ((fT_needsOf β i60).toInt64))) + ((fT_chainOf β i60).toInt64))), (0, .ref ax), (3, .int (nI i60))]) dL_told_200 rfl (by decide) rfl ?_
            refine g_iinc C (v := nI (i60 + 1)) (lv1 := [(3, .int (nI (i60 + 1))), (1, .long ((31 * ((31 * ((31 * ((31 * ((31 * ((31 * ((31 * ((31 * ((31 * (lpF (fL_told_L60 β γ) ((31 * ((31 * ((31 * ((31 * ((31 * 3) + ((fT_tickets β).toInt64))) + ((fT_day β).toInt64))) + ((fT_closings β).toInt64))) + ((fT_reopenings β).toInt64))) + (((fT_criticalByOrder β γ).1).toInt64)) i60)) + ((fT_stateOf β i60).toInt64))) + ((fT_pointsOf β i60).toInt64))) + ((fT_priorityOf β i60).toInt64))) + ((1 + (fT_ownerOf β i60)).toInt64))) + ((0 : Int32).toInt64))) + ((fT_daysInProgress β i60).toInt64))) + ((fT_timesSentBack β i60).toInt64))) + ((fT_needsOf β i60).toInt64))) + ((fT_chainOf β i60).toInt64))), (0, .ref ax)]) dL_told_201 2 rfl (nI_1 i60) (by decide) rfl ?_
            refine g_goto C 60 dL_told_204 (by decide) ?_
            have e_31 : (lpF (fL_told_L60 β γ) ((31 * ((31 * ((31 * ((31 * ((31 * 3) + ((fT_tickets β).toInt64))) + ((fT_day β).toInt64))) + ((fT_closings β).toInt64))) + ((fT_reopenings β).toInt64))) + (((fT_criticalByOrder β γ).1).toInt64)) (i60 + 1)) = (31 * ((31 * ((31 * ((31 * ((31 * ((31 * ((31 * ((31 * ((31 * (lpF (fL_told_L60 β γ) ((31 * ((31 * ((31 * ((31 * ((31 * 3) + ((fT_tickets β).toInt64))) + ((fT_day β).toInt64))) + ((fT_closings β).toInt64))) + ((fT_reopenings β).toInt64))) + (((fT_criticalByOrder β γ).1).toInt64)) i60)) + ((fT_stateOf β i60).toInt64))) + ((fT_pointsOf β i60).toInt64))) + ((fT_priorityOf β i60).toInt64))) + ((1 + (fT_ownerOf β i60)).toInt64))) + ((0 : Int32).toInt64))) + ((fT_daysInProgress β i60).toInt64))) + ((fT_timesSentBack β i60).toInt64))) + ((fT_needsOf β i60).toInt64))) + ((fT_chainOf β i60).toInt64) := by
              rw [lpF_1, fL_told_L60]; rw [if_pos c_24, if_neg (ne_true_of_eq_false c_30)]
            have h_32 := ih_4 (i60 + 1) (by omega)
            rw [e_31] at h_32
            exact g_sub [2, 1, 0] rfl h_32
          · skip
            have hm9 := isPlanned_ne c_30
            refine g_iconst C (v := 1) dL_told_144 (by decide) ?_
            refine g_aload_n C dL_told_145 rfl 1 rfl ?_
            refine g_iload_n C dL_told_146 rfl 2 rfl ?_
            refine g_callV C (cs1 := [wX ax (bo 0) (tr 0) (ac 0) (ah 0) (at_ 0), wB E bo β, wB E tr τ, wC E ac ((fT_criticalByOrder β γ).2), wH E ah bd η, wT E at_ θ, wB E (bd 2) (σ 2), wB E (bd 3) (σ 3), wB E (bd 4) (σ 4), wB E (bd 5) (σ 5), wB E (bd 6) (σ 6), wB E (bd 7) (σ 7), wB E (bd 8) (σ 8), wB E (bd 9) (σ 9)]) (st1 := [.int (fT_milestoneOf β i60), .int 1, .long (31 * ((31 * ((31 * ((31 * ((31 * (lpF (fL_told_L60 β γ) ((31 * ((31 * ((31 * ((31 * ((31 * 3) + ((fT_tickets β).toInt64))) + ((fT_day β).toInt64))) + ((fT_closings β).toInt64))) + ((fT_reopenings β).toInt64))) + (((fT_criticalByOrder β γ).1).toInt64)) i60)) + ((fT_stateOf β i60).toInt64))) + ((fT_pointsOf β i60).toInt64))) + ((fT_priorityOf β i60).toInt64))) + ((1 + (fT_ownerOf β i60)).toInt64))), .long 31]) [.int (nI i60)] [0, 1, 2, 3, 4, 5, 6, 7, 8, 9, 10, 11, 12, 13] (kT_milestoneOf l E ax bo β tr τ ac ((fT_criticalByOrder β γ).2) ah bd η σ at_ θ hv i60 (by omega) hm9 (hasT_n hv (by omega))) caX6_milestoneOf q2_221 rfl ⟨Nat.le_of_ble_eq_true rfl, Nat.le_of_ble_eq_true rfl⟩ ⟨Nat.zero_le _, Nat.zero_le _⟩ 0 0 rfl rfl rfl rfl (by decide) rfl rfl rfl rfl (Nat.le_of_ble_eq_true rfl) dL_told_147 rfl ?_
            refine g_iadd C dL_told_150 ?_
            refine g_goto C 155 dL_told_151 (by decide) ?_
            refine g_i2l C dL_told_155 ?_
            refine g_ladd C dL_told_156 ?_
            refine g_lmul C dL_told_157 ?_
            refine g_aload_n C dL_told_158 rfl 1 rfl ?_
            refine g_iload_n C dL_told_159 rfl 2 rfl ?_
            refine g_callV C (cs1 := [wX ax (bo 0) (tr 0) (ac 0) (ah 0) (at_ 0), wB E bo β, wB E tr τ, wC E ac ((fT_criticalByOrder β γ).2), wH E ah bd η, wT E at_ θ, wB E (bd 2) (σ 2), wB E (bd 3) (σ 3), wB E (bd 4) (σ 4), wB E (bd 5) (σ 5), wB E (bd 6) (σ 6), wB E (bd 7) (σ 7), wB E (bd 8) (σ 8), wB E (bd 9) (σ 9)]) (st1 := [.int (fT_daysInProgress β i60), .long (31 * ((31 * ((31 * ((31 * ((31 * ((31 * (lpF (fL_told_L60 β γ) ((31 * ((31 * ((31 * ((31 * ((31 * 3) + ((fT_tickets β).toInt64))) + ((fT_day β).toInt64))) + ((fT_closings β).toInt64))) + ((fT_reopenings β).toInt64))) + (((fT_criticalByOrder β γ).1).toInt64)) i60)) + ((fT_stateOf β i60).toInt64))) + ((fT_pointsOf β i60).toInt64))) + ((fT_priorityOf β i60).toInt64))) + ((1 + (fT_ownerOf β i60)).toInt64))) + ((1 + (fT_milestoneOf β i60)).toInt64)))]) [.int (nI i60)] [0, 1, 2, 3, 4, 5, 6, 7, 8, 9, 10, 11, 12, 13] (kT_daysInProgress l E ax bo β tr τ ac ((fT_criticalByOrder β γ).2) ah bd η σ at_ θ hv i60 (by omega) (hasT_n hv (by omega))) caX6_daysInProgress q2_225 rfl ⟨Nat.le_of_ble_eq_true rfl, Nat.le_of_ble_eq_true rfl⟩ ⟨Nat.zero_le _, Nat.zero_le _⟩ 0 0 rfl rfl rfl rfl (by decide) rfl rfl rfl rfl (Nat.le_of_ble_eq_true rfl) dL_told_160 rfl ?_
            refine g_i2l C dL_told_163 ?_
            refine g_ladd C dL_told_164 ?_
            refine g_lstore_n C (lv1 := [(1, .long ((31 * ((31 * ((31 * ((31 * ((31 * ((31 * (lpF (fL_told_L60 β γ) ((31 * ((31 * ((31 * ((31 * ((31 * 3) + ((fT_tickets β).toInt64))) + ((fT_day β).toInt64))) + ((fT_closings β).toInt64))) + ((fT_reopenings β).toInt64))) + (((fT_criticalByOrder β γ).1).toInt64)) i60)) + ((fT_stateOf β i60).toInt64))) + ((fT_pointsOf β i60).toInt64))) + ((fT_priorityOf β i60).toInt64))) + ((1 + (fT_ownerOf β i60)).toInt64))) + ((1 + (fT_milestoneOf β i60)).toInt64))) + ((fT_daysInProgress β i60).toInt64))), (0, .ref ax), (3, .int (nI i60))]) dL_told_165 rfl (by decide) rfl ?_
            refine g_ldc2 C q2_156 dL_told_166 ?_
            refine g_ldc2 C q2_156 dL_told_169 ?_
            refine g_ldc2 C q2_156 dL_told_172 ?_
            refine g_lload_n C dL_told_175 rfl 0 rfl ?_
            refine g_lmul C dL_told_176 ?_
            refine g_aload_n C dL_told_177 rfl 1 rfl ?_
            refine g_iload_n C dL_told_178 rfl 2 rfl ?_
            refine g_callV C (cs1 := [wX ax (bo 0) (tr 0) (ac 0) (ah 0) (at_ 0), wB E bo β, wB E tr τ, wC E ac ((fT_criticalByOrder β γ).2), wH E ah bd η, wT E at_ θ, wB E (bd 2) (σ 2), wB E (bd 3) (σ 3), wB E (bd 4) (σ 4), wB E (bd 5) (σ 5), wB E (bd 6) (σ 6), wB E (bd 7) (σ 7), wB E (bd 8) (σ 8), wB E (bd 9) (σ 9)]) (st1 := [.int (fT_timesSentBack β i60), .long (31 * ((31 * ((31 * ((31 * ((31 * ((31 * ((31 * (lpF (fL_told_L60 β γ) ((31 * ((31 * ((31 * ((31 * ((31 * 3) + ((fT_tickets β).toInt64))) + ((fT_day β).toInt64))) + ((fT_closings β).toInt64))) + ((fT_reopenings β).toInt64))) + (((fT_criticalByOrder β γ).1).toInt64)) i60)) + ((fT_stateOf β i60).toInt64))) + ((fT_pointsOf β i60).toInt64))) + ((fT_priorityOf β i60).toInt64))) + ((1 + (fT_ownerOf β i60)).toInt64))) + ((1 + (fT_milestoneOf β i60)).toInt64))) + ((fT_daysInProgress β i60).toInt64))), .long 31, .long 31]) [.int (nI i60)] [0, 1, 2, 3, 4, 5, 6, 7, 8, 9, 10, 11, 12, 13] (kT_timesSentBack l E ax bo β tr τ ac ((fT_criticalByOrder β γ).2) ah bd η σ at_ θ hv i60 (by omega) (hasT_n hv (by omega))) caX6_timesSentBack q2_229 rfl ⟨Nat.le_of_ble_eq_true rfl, Nat.le_of_ble_eq_true rfl⟩ ⟨Nat.zero_le _, Nat.zero_le _⟩ 0 0 rfl rfl rfl rfl (by decide) rfl rfl rfl rfl (Nat.le_of_ble_eq_true rfl) dL_told_179 rfl ?_
            refine g_i2l C dL_told_182 ?_
            refine g_ladd C dL_told_183 ?_
            refine g_lmul C dL_told_184 ?_
            refine g_aload_n C dL_told_185 rfl 1 rfl ?_
            refine g_iload_n C dL_told_186 rfl 2 rfl ?_
            refine g_callV C (cs1 := [wX ax (bo 0) (tr 0) (ac 0) (ah 0) (at_ 0), wB E bo β, wB E tr τ, wC E ac ((fT_criticalByOrder β γ).2), wH E ah bd η, wT E at_ θ, wB E (bd 2) (σ 2), wB E (bd 3) (σ 3), wB E (bd 4) (σ 4), wB E (bd 5) (σ 5), wB E (bd 6) (σ 6), wB E (bd 7) (σ 7), wB E (bd 8) (σ 8), wB E (bd 9) (σ 9)]) (st1 := [.int (fT_needsOf β i60), .long (31 * ((31 * ((31 * ((31 * ((31 * ((31 * ((31 * ((31 * (lpF (fL_told_L60 β γ) ((31 * ((31 * ((31 * ((31 * ((31 * 3) + ((fT_tickets β).toInt64))) + ((fT_day β).toInt64))) + ((fT_closings β).toInt64))) + ((fT_reopenings β).toInt64))) + (((fT_criticalByOrder β γ).1).toInt64)) i60)) + ((fT_stateOf β i60).toInt64))) + ((fT_pointsOf β i60).toInt64))) + ((fT_priorityOf β i60).toInt64))) + ((1 + (fT_ownerOf β i60)).toInt64))) + ((1 + (fT_milestoneOf β i60)).toInt64))) + ((fT_daysInProgress β i60).toInt64))) + ((fT_timesSentBack β i60).toInt64))), .long 31]) [.int (nI i60)] [0, 1, 2, 3, 4, 5, 6, 7, 8, 9, 10, 11, 12, 13] (kT_needsOf l E ax bo β tr τ ac ((fT_criticalByOrder β γ).2) ah bd η σ at_ θ hv i60 (by omega) (hasT_n hv (by omega))) caX6_needsOf q2_233 rfl ⟨Nat.le_of_ble_eq_true rfl, Nat.le_of_ble_eq_true rfl⟩ ⟨Nat.zero_le _, Nat.zero_le _⟩ 0 0 rfl rfl rfl rfl (by decide) rfl rfl rfl rfl (Nat.le_of_ble_eq_true rfl) dL_told_187 rfl ?_
            refine g_i2l C dL_told_190 ?_
            refine g_ladd C dL_told_191 ?_
            refine g_lmul C dL_told_192 ?_
            refine g_aload_n C dL_told_193 rfl 1 rfl ?_
            refine g_iload_n C dL_told_194 rfl 2 rfl ?_
            refine g_callV C (cs1 := [wX ax (bo 0) (tr 0) (ac 0) (ah 0) (at_ 0), wB E bo β, wB E tr τ, wC E ac ((fT_criticalByOrder β γ).2), wH E ah bd η, wT E at_ θ, wB E (bd 2) (σ 2), wB E (bd 3) (σ 3), wB E (bd 4) (σ 4), wB E (bd 5) (σ 5), wB E (bd 6) (σ 6), wB E (bd 7) (σ 7), wB E (bd 8) (σ 8), wB E (bd 9) (σ 9)]) (st1 := [.int (fT_chainOf β i60), .long (31 * ((31 * ((31 * ((31 * ((31 * ((31 * ((31 * ((31 * ((31 * (lpF (fL_told_L60 β γ) ((31 * ((31 * ((31 * ((31 * ((31 * 3) + ((fT_tickets β).toInt64))) + ((fT_day β).toInt64))) + ((fT_closings β).toInt64))) + ((fT_reopenings β).toInt64))) + (((fT_criticalByOrder β γ).1).toInt64)) i60)) + ((fT_stateOf β i60).toInt64))) + ((fT_pointsOf β i60).toInt64))) + ((fT_priorityOf β i60).toInt64))) + ((1 + (fT_ownerOf β i60)).toInt64))) + ((1 + (fT_milestoneOf β i60)).toInt64))) + ((fT_daysInProgress β i60).toInt64))) + ((fT_timesSentBack β i60).toInt64))) + ((fT_needsOf β i60).toInt64)))]) [.int (nI i60)] [0, 1, 2, 3, 4, 5, 6, 7, 8, 9, 10, 11, 12, 13] (kT_chainOf l E ax bo β tr τ ac ((fT_criticalByOrder β γ).2) ah bd η σ at_ θ hv i60 (by omega) (hasT_n hv (by omega))) caX6_chainOf q3_3 rfl ⟨Nat.le_of_ble_eq_true rfl, Nat.le_of_ble_eq_true rfl⟩ ⟨Nat.zero_le _, Nat.zero_le _⟩ 0 0 rfl rfl rfl rfl (by decide) rfl rfl rfl rfl (Nat.le_of_ble_eq_true rfl) dL_told_195 rfl ?_
            refine g_i2l C dL_told_198 ?_
            refine g_ladd C dL_told_199 ?_
            refine g_lstore_n C (lv1 := [(1, .long ((31 * ((31 * ((31 * ((31 * ((31 * ((31 * ((31 * ((31 * ((31 * (lpF (fL_told_L60 β γ) ((31 * ((31 * ((31 * ((31 * ((31 * 3) + ((fT_tickets β).toInt64))) + ((fT_day β).toInt64))) + ((fT_closings β).toInt64))) + ((fT_reopenings β).toInt64))) + (((fT_criticalByOrder β γ).1).toInt64)) i60)) + ((fT_stateOf β i60).toInt64))) + ((fT_pointsOf β i60).toInt64))) + ((fT_priorityOf β i60).toInt64))) + ((1 + (fT_ownerOf β i60)).toInt64))) + ((1 + (fT_milestoneOf β i60)).toInt64))) + ((fT_daysInProgress β i60).toInt64))) + ((fT_timesSentBack β i60).toInt64))) + ((fT_needsOf β i60).toInt64))) + ((fT_chainOf β i60).toInt64))), (0, .ref ax), (3, .int (nI i60))]) dL_told_200 rfl (by decide) rfl ?_
            refine g_iinc C (v := nI (i60 + 1)) (lv1 := [(3, .int (nI (i60 + 1))), (1, .long ((31 * ((31 * ((31 * ((31 * ((31 * ((31 * ((31 * ((31 * ((31 * (lpF (fL_told_L60 β γ) ((31 * ((31 * ((31 * ((31 * ((31 * 3) + ((fT_tickets β).toInt64))) + ((fT_day β).toInt64))) + ((fT_closings β).toInt64))) + ((fT_reopenings β).toInt64))) + (((fT_criticalByOrder β γ).1).toInt64)) i60)) + ((fT_stateOf β i60).toInt64))) + ((fT_pointsOf β i60).toInt64))) + ((fT_priorityOf β i60).toInt64))) + ((1 + (fT_ownerOf β i60)).toInt64))) + ((1 + (fT_milestoneOf β i60)).toInt64))) + ((fT_daysInProgress β i60).toInt64))) + ((fT_timesSentBack β i60).toInt64))) + ((fT_needsOf β i60).toInt64))) + ((fT_chainOf β i60).toInt64))), (0, .ref ax)]) dL_told_201 2 rfl (nI_1 i60) (by decide) rfl ?_
            refine g_goto C 60 dL_told_204 (by decide) ?_
            have e_33 : (lpF (fL_told_L60 β γ) ((31 * ((31 * ((31 * ((31 * ((31 * 3) + ((fT_tickets β).toInt64))) + ((fT_day β).toInt64))) + ((fT_closings β).toInt64))) + ((fT_reopenings β).toInt64))) + (((fT_criticalByOrder β γ).1).toInt64)) (i60 + 1)) = (31 * ((31 * ((31 * ((31 * ((31 * ((31 * ((31 * ((31 * ((31 * (lpF (fL_told_L60 β γ) ((31 * ((31 * ((31 * ((31 * ((31 * 3) + ((fT_tickets β).toInt64))) + ((fT_day β).toInt64))) + ((fT_closings β).toInt64))) + ((fT_reopenings β).toInt64))) + (((fT_criticalByOrder β γ).1).toInt64)) i60)) + ((fT_stateOf β i60).toInt64))) + ((fT_pointsOf β i60).toInt64))) + ((fT_priorityOf β i60).toInt64))) + ((1 + (fT_ownerOf β i60)).toInt64))) + ((1 + (fT_milestoneOf β i60)).toInt64))) + ((fT_daysInProgress β i60).toInt64))) + ((fT_timesSentBack β i60).toInt64))) + ((fT_needsOf β i60).toInt64))) + ((fT_chainOf β i60).toInt64) := by
              rw [lpF_1, fL_told_L60]; rw [if_pos c_24, if_pos c_30]
            have h_34 := ih_4 (i60 + 1) (by omega)
            rw [e_33] at h_34
            exact g_sub [2, 1, 0] rfl h_34
  refine g_sub [2, 1, 0] (lv1 := [(0, .ref ax), (1, .long ((31 * ((31 * ((31 * ((31 * ((31 * 3) + ((fT_tickets β).toInt64))) + ((fT_day β).toInt64))) + ((fT_closings β).toInt64))) + ((fT_reopenings β).toInt64))) + (((fT_criticalByOrder β γ).1).toInt64))), (3, .int 0)]) rfl ?_
  exact hL_3 (cnt β) 0 (by omega)
