/-! ===== the law: its start, its loop, its end ===== -/
theorem law_room {L0 i : Nat} (hL0 : L0 ≤ 1536) (hi : i ≤ 1539) (c : ¬ nI L0 - 3 < nI i) : i + 3 ≤ L0 := by
  have h := Int32.not_lt.mp c
  rw [Int32.le_iff_toInt_le, nI_toInt (by omega)] at h
  have e : (nI L0 - 3).toInt = (L0 : Int) - 3 := by
    rcases Nat.lt_or_ge L0 3 with q | q
    · rcases (show L0 = 0 ∨ L0 = 1 ∨ L0 = 2 by omega) with rfl | rfl | rfl <;> decide
    · rw [show (3 : Int32) = nI 3 from rfl, pk_sub q, nI_toInt (by omega)]
      omega
  omega
def sAll (Rl : RlT) : Prop := sH_openTicket Rl ∧ sH_reestimate Rl ∧ sH_changePriority Rl ∧ sH_need Rl ∧ sH_release Rl ∧ sH_assign Rl ∧ sH_unassign Rl ∧ sH_changeCapacity Rl ∧ sH_plan Rl ∧ sH_unplan Rl ∧ sH_changeDate Rl ∧ sH_endDays Rl ∧ sH_start Rl ∧ sH_submit Rl ∧ sH_sendBack Rl ∧ sH_close Rl ∧ sH_reopen Rl ∧ sH_drop Rl ∧ sH_append Rl ∧ sH_clearBuffer Rl ∧ sH_firstError Rl ∧ sH_follow Rl ∧ sH_impossibleOrder Rl ∧ sH_keep Rl ∧ sH_goBack Rl ∧ sH_undo Rl ∧ sH_savedStates Rl ∧ sH_tickets Rl ∧ sH_stateOf Rl ∧ sH_pointsOf Rl ∧ sH_priorityOf Rl ∧ sH_hasOwner Rl ∧ sH_ownerOf Rl ∧ sH_isPlanned Rl ∧ sH_milestoneOf Rl ∧ sH_openedOn Rl ∧ sH_closedOn Rl ∧ sH_daysInProgress Rl ∧ sH_timesSentBack Rl ∧ sH_needs Rl ∧ sH_needsOf Rl ∧ sH_neededBy Rl ∧ sH_isBlocked Rl ∧ sH_blockersOf Rl ∧ sH_allNeedsByGoing Rl ∧ sH_allNeedsByTable Rl ∧ sH_chainOf Rl ∧ sH_criticalByTrying Rl ∧ sH_criticalByOrder Rl ∧ sH_capacityOf Rl ∧ sH_loadByTickets Rl ∧ sH_loadByAccount Rl ∧ sH_inProgressOf Rl ∧ sH_donePointsOf Rl ∧ sH_freestOwner Rl ∧ sH_dateOf Rl ∧ sH_pointsLeft Rl ∧ sH_pointsDone Rl ∧ sH_hundredthsDone Rl ∧ sH_isLate Rl ∧ sH_misplanned Rl ∧ sH_lateMilestones Rl ∧ sH_nextToDo Rl ∧ sH_closedAt Rl ∧ sH_day Rl ∧ sH_withState Rl ∧ sH_pointsWith Rl ∧ sH_allPoints Rl ∧ sH_blockedTickets Rl ∧ sH_closings Rl ∧ sH_reopenings Rl ∧ sH_pointsOfWeek Rl ∧ sH_meanDays Rl ∧ sH_digest Rl
set_option maxRecDepth 100000 in
set_option maxHeartbeats 4000000 in
theorem law_sw0 {Rl : RlT} (hRv : RlV Rl) (hnn : gNN) (hfp : gFP) (hdz : ∀ x, vf_n64 x → dcmpFl x x = 0) (s_0 : sH_openTicket Rl) (s_1 : sH_reestimate Rl) (s_2 : sH_changePriority Rl) (s_3 : sH_need Rl) (s_4 : sH_release Rl) (s_5 : sH_assign Rl) (s_6 : sH_unassign Rl) (s_7 : sH_changeCapacity Rl) (s_8 : sH_plan Rl) (s_9 : sH_unplan Rl) {X : gX} {l : Launch} {E : gE} (C : gC X cL_law 9 RL (some .boolean) l E room_1) (hZ : gZ X.2.2.2.2.2.2.2.2.2.2.2.1 X.2.2.2.2.1 X.2.2.2.2.1.heap) (hNc : gNc X.2.2.2.2.1) {b0 L0 : Nat} {xs : Nat → Int32} (S : gS X b0 L0 xs) (hlt : l.stackTraces = false) {ax : Nat} {bo tr ac ah : Nat → Nat} {bd : Nat → Nat → Nat} {at_ am : Nat → Nat} {ao : Nat} {k n i : Nat} (hk : k + 3 ≤ 601024) (hn : n + 18 ≤ 7293034) (hi : i + 3 ≤ L0) {β τ γ η : BS} {σ : Nat → BS} {θ μ : BS} {o : Nat → Int64} (hR : Rl β η θ σ μ) (next : ∀ (β τ γ η : BS) (σ : Nat → BS) (θ μ : BS) (o : Nat → Int64), Rl β η θ σ μ → G X (k + 3) (n + 18) [wX ax (bo 0) (tr 0) (ac 0) (ah 0) (at_ 0), wB E bo β, wB E tr τ, wC E ac γ, wH E ah bd η, wT E at_ θ, wB E (bd 2) (σ 2), wB E (bd 3) (σ 3), wB E (bd 4) (σ 4), wB E (bd 5) (σ 5), wB E (bd 6) (σ 6), wB E (bd 7) (σ 7), wB E (bd 8) (σ 8), wB E (bd 9) (σ 9), wM E am μ, wO E ao o] [(0, .ref b0), (1, .ref ax), (2, .ref (am 0)), (3, .ref ao), (4, .int (nI i))] 3840 []) {x : Int32} (rest : ¬ x = 0 → ¬ x = 1 → ¬ x = 2 → ¬ x = 3 → ¬ x = 4 → ¬ x = 5 → ¬ x = 6 → ¬ x = 7 → ¬ x = 8 → ¬ x = 9 → G X k n [wX ax (bo 0) (tr 0) (ac 0) (ah 0) (at_ 0), wB E bo β, wB E tr τ, wC E ac γ, wH E ah bd η, wT E at_ θ, wB E (bd 2) (σ 2), wB E (bd 3) (σ 3), wB E (bd 4) (σ 4), wB E (bd 5) (σ 5), wB E (bd 6) (σ 6), wB E (bd 7) (σ 7), wB E (bd 8) (σ 8), wB E (bd 9) (σ 9), wM E am μ, wO E ao o] [(0, .ref b0), (1, .ref ax), (2, .ref (am 0)), (3, .ref ao), (4, .int (nI i))] 39 [.int x]) : G X k n [wX ax (bo 0) (tr 0) (ac 0) (ah 0) (at_ 0), wB E bo β, wB E tr τ, wC E ac γ, wH E ah bd η, wT E at_ θ, wB E (bd 2) (σ 2), wB E (bd 3) (σ 3), wB E (bd 4) (σ 4), wB E (bd 5) (σ 5), wB E (bd 6) (σ 6), wB E (bd 7) (σ 7), wB E (bd 8) (σ 8), wB E (bd 9) (σ 9), wM E am μ, wO E ao o] [(0, .ref b0), (1, .ref ax), (2, .ref (am 0)), (3, .ref ao), (4, .int (nI i))] 39 [.int x] := by
  by_cases c_0 : x = 0
  · exact g_tblK C 348 dL_law_39 c_0 (by decide) (by decide) rfl (by decide) (arm_0 hRv s_0 C hZ hNc S hlt hk hn hi hR next)
  by_cases c_1 : x = 1
  · exact g_tblK C 416 dL_law_39 c_1 (by decide) (by decide) rfl (by decide) (arm_1 hRv s_1 C hZ hNc S hlt hk hn hi hR next)
  by_cases c_2 : x = 2
  · exact g_tblK C 484 dL_law_39 c_2 (by decide) (by decide) rfl (by decide) (arm_2 hRv s_2 C hZ hNc S hlt hk hn hi hR next)
  by_cases c_3 : x = 3
  · exact g_tblK C 552 dL_law_39 c_3 (by decide) (by decide) rfl (by decide) (arm_3 hRv s_3 C hZ hNc S hlt hk hn hi hR next)
  by_cases c_4 : x = 4
  · exact g_tblK C 620 dL_law_39 c_4 (by decide) (by decide) rfl (by decide) (arm_4 hRv s_4 C hZ hNc S hlt hk hn hi hR next)
  by_cases c_5 : x = 5
  · exact g_tblK C 688 dL_law_39 c_5 (by decide) (by decide) rfl (by decide) (arm_5 hRv s_5 C hZ hNc S hlt hk hn hi hR next)
  by_cases c_6 : x = 6
  · exact g_tblK C 756 dL_law_39 c_6 (by decide) (by decide) rfl (by decide) (arm_6 hRv s_6 C hZ hNc S hlt hk hn hi hR next)
  by_cases c_7 : x = 7
  · exact g_tblK C 812 dL_law_39 c_7 (by decide) (by decide) rfl (by decide) (arm_7 hRv s_7 C hZ hNc S hlt hk hn hi hR next)
  by_cases c_8 : x = 8
  · exact g_tblK C 880 dL_law_39 c_8 (by decide) (by decide) rfl (by decide) (arm_8 hRv s_8 C hZ hNc S hlt hk hn hi hR next)
  by_cases c_9 : x = 9
  · exact g_tblK C 948 dL_law_39 c_9 (by decide) (by decide) rfl (by decide) (arm_9 hRv s_9 C hZ hNc S hlt hk hn hi hR next)
  exact rest c_0 c_1 c_2 c_3 c_4 c_5 c_6 c_7 c_8 c_9
set_option maxRecDepth 100000 in
set_option maxHeartbeats 4000000 in
theorem law_sw10 {Rl : RlT} (hRv : RlV Rl) (hnn : gNN) (hfp : gFP) (hdz : ∀ x, vf_n64 x → dcmpFl x x = 0) (s_10 : sH_changeDate Rl) (s_11 : sH_endDays Rl) (s_12 : sH_start Rl) (s_13 : sH_submit Rl) (s_14 : sH_sendBack Rl) (s_15 : sH_close Rl) (s_16 : sH_reopen Rl) (s_17 : sH_drop Rl) (s_18 : sH_append Rl) (s_19 : sH_clearBuffer Rl) {X : gX} {l : Launch} {E : gE} (C : gC X cL_law 9 RL (some .boolean) l E room_1) (hZ : gZ X.2.2.2.2.2.2.2.2.2.2.2.1 X.2.2.2.2.1 X.2.2.2.2.1.heap) (hNc : gNc X.2.2.2.2.1) {b0 L0 : Nat} {xs : Nat → Int32} (S : gS X b0 L0 xs) (hlt : l.stackTraces = false) {ax : Nat} {bo tr ac ah : Nat → Nat} {bd : Nat → Nat → Nat} {at_ am : Nat → Nat} {ao : Nat} {k n i : Nat} (hk : k + 3 ≤ 601024) (hn : n + 18 ≤ 7293034) (hi : i + 3 ≤ L0) {β τ γ η : BS} {σ : Nat → BS} {θ μ : BS} {o : Nat → Int64} (hR : Rl β η θ σ μ) (next : ∀ (β τ γ η : BS) (σ : Nat → BS) (θ μ : BS) (o : Nat → Int64), Rl β η θ σ μ → G X (k + 3) (n + 18) [wX ax (bo 0) (tr 0) (ac 0) (ah 0) (at_ 0), wB E bo β, wB E tr τ, wC E ac γ, wH E ah bd η, wT E at_ θ, wB E (bd 2) (σ 2), wB E (bd 3) (σ 3), wB E (bd 4) (σ 4), wB E (bd 5) (σ 5), wB E (bd 6) (σ 6), wB E (bd 7) (σ 7), wB E (bd 8) (σ 8), wB E (bd 9) (σ 9), wM E am μ, wO E ao o] [(0, .ref b0), (1, .ref ax), (2, .ref (am 0)), (3, .ref ao), (4, .int (nI i))] 3840 []) {x : Int32} (rest : ¬ x = 10 → ¬ x = 11 → ¬ x = 12 → ¬ x = 13 → ¬ x = 14 → ¬ x = 15 → ¬ x = 16 → ¬ x = 17 → ¬ x = 18 → ¬ x = 19 → G X k n [wX ax (bo 0) (tr 0) (ac 0) (ah 0) (at_ 0), wB E bo β, wB E tr τ, wC E ac γ, wH E ah bd η, wT E at_ θ, wB E (bd 2) (σ 2), wB E (bd 3) (σ 3), wB E (bd 4) (σ 4), wB E (bd 5) (σ 5), wB E (bd 6) (σ 6), wB E (bd 7) (σ 7), wB E (bd 8) (σ 8), wB E (bd 9) (σ 9), wM E am μ, wO E ao o] [(0, .ref b0), (1, .ref ax), (2, .ref (am 0)), (3, .ref ao), (4, .int (nI i))] 39 [.int x]) : G X k n [wX ax (bo 0) (tr 0) (ac 0) (ah 0) (at_ 0), wB E bo β, wB E tr τ, wC E ac γ, wH E ah bd η, wT E at_ θ, wB E (bd 2) (σ 2), wB E (bd 3) (σ 3), wB E (bd 4) (σ 4), wB E (bd 5) (σ 5), wB E (bd 6) (σ 6), wB E (bd 7) (σ 7), wB E (bd 8) (σ 8), wB E (bd 9) (σ 9), wM E am μ, wO E ao o] [(0, .ref b0), (1, .ref ax), (2, .ref (am 0)), (3, .ref ao), (4, .int (nI i))] 39 [.int x] := by
  by_cases c_10 : x = 10
  · exact g_tblK C 1004 dL_law_39 c_10 (by decide) (by decide) rfl (by decide) (arm_10 hRv s_10 C hZ hNc S hlt hk hn hi hR next)
  by_cases c_11 : x = 11
  · exact g_tblK C 1072 dL_law_39 c_11 (by decide) (by decide) rfl (by decide) (arm_11 hRv s_11 C hZ hNc S hlt hk hn hi hR next)
  by_cases c_12 : x = 12
  · exact g_tblK C 1128 dL_law_39 c_12 (by decide) (by decide) rfl (by decide) (arm_12 hRv s_12 C hZ hNc S hlt hk hn hi hR next)
  by_cases c_13 : x = 13
  · exact g_tblK C 1164 dL_law_39 c_13 (by decide) (by decide) rfl (by decide) (arm_13 hRv s_13 C hZ hNc S hlt hk hn hi hR next)
  by_cases c_14 : x = 14
  · exact g_tblK C 1200 dL_law_39 c_14 (by decide) (by decide) rfl (by decide) (arm_14 hRv s_14 C hZ hNc S hlt hk hn hi hR next)
  by_cases c_15 : x = 15
  · exact g_tblK C 1256 dL_law_39 c_15 (by decide) (by decide) rfl (by decide) (arm_15 hRv s_15 C hZ hNc S hlt hk hn hi hR next)
  by_cases c_16 : x = 16
  · exact g_tblK C 1312 dL_law_39 c_16 (by decide) (by decide) rfl (by decide) (arm_16 hRv s_16 C hZ hNc S hlt hk hn hi hR next)
  by_cases c_17 : x = 17
  · exact g_tblK C 1368 dL_law_39 c_17 (by decide) (by decide) rfl (by decide) (arm_17 hRv s_17 C hZ hNc S hlt hk hn hi hR next)
  by_cases c_18 : x = 18
  · exact g_tblK C 1424 dL_law_39 c_18 (by decide) (by decide) rfl (by decide) (arm_18 hRv s_18 C hZ hNc S hlt hk hn hi hR next)
  by_cases c_19 : x = 19
  · exact g_tblK C 1480 dL_law_39 c_19 (by decide) (by decide) rfl (by decide) (arm_19 hRv s_19 C hZ hNc S hlt hk hn hi hR next)
  exact rest c_10 c_11 c_12 c_13 c_14 c_15 c_16 c_17 c_18 c_19
set_option maxRecDepth 100000 in
set_option maxHeartbeats 4000000 in
theorem law_sw20 {Rl : RlT} (hRv : RlV Rl) (hnn : gNN) (hfp : gFP) (hdz : ∀ x, vf_n64 x → dcmpFl x x = 0) (s_20 : sH_firstError Rl) (s_21 : sH_follow Rl) (s_22 : sH_impossibleOrder Rl) (s_23 : sH_keep Rl) (s_24 : sH_goBack Rl) (s_25 : sH_undo Rl) (s_26 : sH_savedStates Rl) (s_27 : sH_tickets Rl) (s_28 : sH_stateOf Rl) (s_29 : sH_pointsOf Rl) {X : gX} {l : Launch} {E : gE} (C : gC X cL_law 9 RL (some .boolean) l E room_1) (hZ : gZ X.2.2.2.2.2.2.2.2.2.2.2.1 X.2.2.2.2.1 X.2.2.2.2.1.heap) (hNc : gNc X.2.2.2.2.1) {b0 L0 : Nat} {xs : Nat → Int32} (S : gS X b0 L0 xs) (hlt : l.stackTraces = false) {ax : Nat} {bo tr ac ah : Nat → Nat} {bd : Nat → Nat → Nat} {at_ am : Nat → Nat} {ao : Nat} {k n i : Nat} (hk : k + 3 ≤ 601024) (hn : n + 18 ≤ 7293034) (hi : i + 3 ≤ L0) {β τ γ η : BS} {σ : Nat → BS} {θ μ : BS} {o : Nat → Int64} (hR : Rl β η θ σ μ) (next : ∀ (β τ γ η : BS) (σ : Nat → BS) (θ μ : BS) (o : Nat → Int64), Rl β η θ σ μ → G X (k + 3) (n + 18) [wX ax (bo 0) (tr 0) (ac 0) (ah 0) (at_ 0), wB E bo β, wB E tr τ, wC E ac γ, wH E ah bd η, wT E at_ θ, wB E (bd 2) (σ 2), wB E (bd 3) (σ 3), wB E (bd 4) (σ 4), wB E (bd 5) (σ 5), wB E (bd 6) (σ 6), wB E (bd 7) (σ 7), wB E (bd 8) (σ 8), wB E (bd 9) (σ 9), wM E am μ, wO E ao o] [(0, .ref b0), (1, .ref ax), (2, .ref (am 0)), (3, .ref ao), (4, .int (nI i))] 3840 []) {x : Int32} (rest : ¬ x = 20 → ¬ x = 21 → ¬ x = 22 → ¬ x = 23 → ¬ x = 24 → ¬ x = 25 → ¬ x = 26 → ¬ x = 27 → ¬ x = 28 → ¬ x = 29 → G X k n [wX ax (bo 0) (tr 0) (ac 0) (ah 0) (at_ 0), wB E bo β, wB E tr τ, wC E ac γ, wH E ah bd η, wT E at_ θ, wB E (bd 2) (σ 2), wB E (bd 3) (σ 3), wB E (bd 4) (σ 4), wB E (bd 5) (σ 5), wB E (bd 6) (σ 6), wB E (bd 7) (σ 7), wB E (bd 8) (σ 8), wB E (bd 9) (σ 9), wM E am μ, wO E ao o] [(0, .ref b0), (1, .ref ax), (2, .ref (am 0)), (3, .ref ao), (4, .int (nI i))] 39 [.int x]) : G X k n [wX ax (bo 0) (tr 0) (ac 0) (ah 0) (at_ 0), wB E bo β, wB E tr τ, wC E ac γ, wH E ah bd η, wT E at_ θ, wB E (bd 2) (σ 2), wB E (bd 3) (σ 3), wB E (bd 4) (σ 4), wB E (bd 5) (σ 5), wB E (bd 6) (σ 6), wB E (bd 7) (σ 7), wB E (bd 8) (σ 8), wB E (bd 9) (σ 9), wM E am μ, wO E ao o] [(0, .ref b0), (1, .ref ax), (2, .ref (am 0)), (3, .ref ao), (4, .int (nI i))] 39 [.int x] := by
  by_cases c_20 : x = 20
  · exact g_tblK C 1493 dL_law_39 c_20 (by decide) (by decide) rfl (by decide) (arm_20 hRv s_20 C hZ hNc S hlt hk hn hi hR next)
  by_cases c_21 : x = 21
  · exact g_tblK C 1506 dL_law_39 c_21 (by decide) (by decide) rfl (by decide) (arm_21 hRv s_21 C hZ hNc S hlt hk hn hi hR next)
  by_cases c_22 : x = 22
  · exact g_tblK C 1550 dL_law_39 c_22 (by decide) (by decide) rfl (by decide) (arm_22 hRv s_22 C hZ hNc S hlt hk hn hi hR next)
  by_cases c_23 : x = 23
  · exact g_tblK C 1594 dL_law_39 c_23 (by decide) (by decide) rfl (by decide) (arm_23 hRv s_23 C hZ hNc S hlt hk hn hi hR next)
  by_cases c_24 : x = 24
  · exact g_tblK C 1630 dL_law_39 c_24 (by decide) (by decide) rfl (by decide) (arm_24 hRv s_24 C hZ hNc S hlt hk hn hi hR next)
  by_cases c_25 : x = 25
  · exact g_tblK C 1666 dL_law_39 c_25 (by decide) (by decide) rfl (by decide) (arm_25 hRv s_25 C hZ hNc S hlt hk hn hi hR next)
  by_cases c_26 : x = 26
  · exact g_tblK C 1690 dL_law_39 c_26 (by decide) (by decide) rfl (by decide) (arm_26 hRv s_26 C hZ hNc S hlt hk hn hi hR next)
  by_cases c_27 : x = 27
  · exact g_tblK C 1703 dL_law_39 c_27 (by decide) (by decide) rfl (by decide) (arm_27 hRv s_27 C hZ hNc S hlt hk hn hi hR next)
  by_cases c_28 : x = 28
  · exact g_tblK C 1716 dL_law_39 c_28 (by decide) (by decide) rfl (by decide) (arm_28 hRv s_28 C hZ hNc S hlt hk hn hi hR next)
  by_cases c_29 : x = 29
  · exact g_tblK C 1772 dL_law_39 c_29 (by decide) (by decide) rfl (by decide) (arm_29 hRv s_29 C hZ hNc S hlt hk hn hi hR next)
  exact rest c_20 c_21 c_22 c_23 c_24 c_25 c_26 c_27 c_28 c_29
set_option maxRecDepth 100000 in
set_option maxHeartbeats 4000000 in
theorem law_sw30 {Rl : RlT} (hRv : RlV Rl) (hnn : gNN) (hfp : gFP) (hdz : ∀ x, vf_n64 x → dcmpFl x x = 0) (s_30 : sH_priorityOf Rl) (s_31 : sH_hasOwner Rl) (s_32 : sH_ownerOf Rl) (s_33 : sH_isPlanned Rl) (s_34 : sH_milestoneOf Rl) (s_35 : sH_openedOn Rl) (s_36 : sH_closedOn Rl) (s_37 : sH_daysInProgress Rl) (s_38 : sH_timesSentBack Rl) (s_39 : sH_needs Rl) {X : gX} {l : Launch} {E : gE} (C : gC X cL_law 9 RL (some .boolean) l E room_1) (hZ : gZ X.2.2.2.2.2.2.2.2.2.2.2.1 X.2.2.2.2.1 X.2.2.2.2.1.heap) (hNc : gNc X.2.2.2.2.1) {b0 L0 : Nat} {xs : Nat → Int32} (S : gS X b0 L0 xs) (hlt : l.stackTraces = false) {ax : Nat} {bo tr ac ah : Nat → Nat} {bd : Nat → Nat → Nat} {at_ am : Nat → Nat} {ao : Nat} {k n i : Nat} (hk : k + 3 ≤ 601024) (hn : n + 18 ≤ 7293034) (hi : i + 3 ≤ L0) {β τ γ η : BS} {σ : Nat → BS} {θ μ : BS} {o : Nat → Int64} (hR : Rl β η θ σ μ) (next : ∀ (β τ γ η : BS) (σ : Nat → BS) (θ μ : BS) (o : Nat → Int64), Rl β η θ σ μ → G X (k + 3) (n + 18) [wX ax (bo 0) (tr 0) (ac 0) (ah 0) (at_ 0), wB E bo β, wB E tr τ, wC E ac γ, wH E ah bd η, wT E at_ θ, wB E (bd 2) (σ 2), wB E (bd 3) (σ 3), wB E (bd 4) (σ 4), wB E (bd 5) (σ 5), wB E (bd 6) (σ 6), wB E (bd 7) (σ 7), wB E (bd 8) (σ 8), wB E (bd 9) (σ 9), wM E am μ, wO E ao o] [(0, .ref b0), (1, .ref ax), (2, .ref (am 0)), (3, .ref ao), (4, .int (nI i))] 3840 []) {x : Int32} (rest : ¬ x = 30 → ¬ x = 31 → ¬ x = 32 → ¬ x = 33 → ¬ x = 34 → ¬ x = 35 → ¬ x = 36 → ¬ x = 37 → ¬ x = 38 → ¬ x = 39 → G X k n [wX ax (bo 0) (tr 0) (ac 0) (ah 0) (at_ 0), wB E bo β, wB E tr τ, wC E ac γ, wH E ah bd η, wT E at_ θ, wB E (bd 2) (σ 2), wB E (bd 3) (σ 3), wB E (bd 4) (σ 4), wB E (bd 5) (σ 5), wB E (bd 6) (σ 6), wB E (bd 7) (σ 7), wB E (bd 8) (σ 8), wB E (bd 9) (σ 9), wM E am μ, wO E ao o] [(0, .ref b0), (1, .ref ax), (2, .ref (am 0)), (3, .ref ao), (4, .int (nI i))] 39 [.int x]) : G X k n [wX ax (bo 0) (tr 0) (ac 0) (ah 0) (at_ 0), wB E bo β, wB E tr τ, wC E ac γ, wH E ah bd η, wT E at_ θ, wB E (bd 2) (σ 2), wB E (bd 3) (σ 3), wB E (bd 4) (σ 4), wB E (bd 5) (σ 5), wB E (bd 6) (σ 6), wB E (bd 7) (σ 7), wB E (bd 8) (σ 8), wB E (bd 9) (σ 9), wM E am μ, wO E ao o] [(0, .ref b0), (1, .ref ax), (2, .ref (am 0)), (3, .ref ao), (4, .int (nI i))] 39 [.int x] := by
  by_cases c_30 : x = 30
  · exact g_tblK C 1828 dL_law_39 c_30 (by decide) (by decide) rfl (by decide) (arm_30 hRv s_30 C hZ hNc S hlt hk hn hi hR next)
  by_cases c_31 : x = 31
  · exact g_tblK C 1884 dL_law_39 c_31 (by decide) (by decide) rfl (by decide) (arm_31 hRv s_31 C hZ hNc S hlt hk hn hi hR next)
  by_cases c_32 : x = 32
  · exact g_tblK C 1947 dL_law_39 c_32 (by decide) (by decide) rfl (by decide) (arm_32 hRv s_32 C hZ hNc S hlt hk hn hi hR next)
  by_cases c_33 : x = 33
  · exact g_tblK C 2003 dL_law_39 c_33 (by decide) (by decide) rfl (by decide) (arm_33 hRv s_33 C hZ hNc S hlt hk hn hi hR next)
  by_cases c_34 : x = 34
  · exact g_tblK C 2066 dL_law_39 c_34 (by decide) (by decide) rfl (by decide) (arm_34 hRv s_34 C hZ hNc S hlt hk hn hi hR next)
  by_cases c_35 : x = 35
  · exact g_tblK C 2122 dL_law_39 c_35 (by decide) (by decide) rfl (by decide) (arm_35 hRv s_35 C hZ hNc S hlt hk hn hi hR next)
  by_cases c_36 : x = 36
  · exact g_tblK C 2178 dL_law_39 c_36 (by decide) (by decide) rfl (by decide) (arm_36 hRv s_36 C hZ hNc S hlt hk hn hi hR next)
  by_cases c_37 : x = 37
  · exact g_tblK C 2234 dL_law_39 c_37 (by decide) (by decide) rfl (by decide) (arm_37 hRv s_37 C hZ hNc S hlt hk hn hi hR next)
  by_cases c_38 : x = 38
  · exact g_tblK C 2290 dL_law_39 c_38 (by decide) (by decide) rfl (by decide) (arm_38 hRv s_38 C hZ hNc S hlt hk hn hi hR next)
  by_cases c_39 : x = 39
  · exact g_tblK C 2346 dL_law_39 c_39 (by decide) (by decide) rfl (by decide) (arm_39 hRv s_39 C hZ hNc S hlt hk hn hi hR next)
  exact rest c_30 c_31 c_32 c_33 c_34 c_35 c_36 c_37 c_38 c_39
set_option maxRecDepth 100000 in
set_option maxHeartbeats 4000000 in
theorem law_sw40 {Rl : RlT} (hRv : RlV Rl) (hnn : gNN) (hfp : gFP) (hdz : ∀ x, vf_n64 x → dcmpFl x x = 0) (s_40 : sH_needsOf Rl) (s_41 : sH_neededBy Rl) (s_42 : sH_isBlocked Rl) (s_43 : sH_blockersOf Rl) (s_44 : sH_allNeedsByGoing Rl) (s_45 : sH_allNeedsByTable Rl) (s_46 : sH_chainOf Rl) (s_47 : sH_criticalByTrying Rl) (s_48 : sH_criticalByOrder Rl) (s_49 : sH_capacityOf Rl) {X : gX} {l : Launch} {E : gE} (C : gC X cL_law 9 RL (some .boolean) l E room_1) (hZ : gZ X.2.2.2.2.2.2.2.2.2.2.2.1 X.2.2.2.2.1 X.2.2.2.2.1.heap) (hNc : gNc X.2.2.2.2.1) {b0 L0 : Nat} {xs : Nat → Int32} (S : gS X b0 L0 xs) (hlt : l.stackTraces = false) {ax : Nat} {bo tr ac ah : Nat → Nat} {bd : Nat → Nat → Nat} {at_ am : Nat → Nat} {ao : Nat} {k n i : Nat} (hk : k + 3 ≤ 601024) (hn : n + 18 ≤ 7293034) (hi : i + 3 ≤ L0) {β τ γ η : BS} {σ : Nat → BS} {θ μ : BS} {o : Nat → Int64} (hR : Rl β η θ σ μ) (next : ∀ (β τ γ η : BS) (σ : Nat → BS) (θ μ : BS) (o : Nat → Int64), Rl β η θ σ μ → G X (k + 3) (n + 18) [wX ax (bo 0) (tr 0) (ac 0) (ah 0) (at_ 0), wB E bo β, wB E tr τ, wC E ac γ, wH E ah bd η, wT E at_ θ, wB E (bd 2) (σ 2), wB E (bd 3) (σ 3), wB E (bd 4) (σ 4), wB E (bd 5) (σ 5), wB E (bd 6) (σ 6), wB E (bd 7) (σ 7), wB E (bd 8) (σ 8), wB E (bd 9) (σ 9), wM E am μ, wO E ao o] [(0, .ref b0), (1, .ref ax), (2, .ref (am 0)), (3, .ref ao), (4, .int (nI i))] 3840 []) {x : Int32} (rest : ¬ x = 40 → ¬ x = 41 → ¬ x = 42 → ¬ x = 43 → ¬ x = 44 → ¬ x = 45 → ¬ x = 46 → ¬ x = 47 → ¬ x = 48 → ¬ x = 49 → G X k n [wX ax (bo 0) (tr 0) (ac 0) (ah 0) (at_ 0), wB E bo β, wB E tr τ, wC E ac γ, wH E ah bd η, wT E at_ θ, wB E (bd 2) (σ 2), wB E (bd 3) (σ 3), wB E (bd 4) (σ 4), wB E (bd 5) (σ 5), wB E (bd 6) (σ 6), wB E (bd 7) (σ 7), wB E (bd 8) (σ 8), wB E (bd 9) (σ 9), wM E am μ, wO E ao o] [(0, .ref b0), (1, .ref ax), (2, .ref (am 0)), (3, .ref ao), (4, .int (nI i))] 39 [.int x]) : G X k n [wX ax (bo 0) (tr 0) (ac 0) (ah 0) (at_ 0), wB E bo β, wB E tr τ, wC E ac γ, wH E ah bd η, wT E at_ θ, wB E (bd 2) (σ 2), wB E (bd 3) (σ 3), wB E (bd 4) (σ 4), wB E (bd 5) (σ 5), wB E (bd 6) (σ 6), wB E (bd 7) (σ 7), wB E (bd 8) (σ 8), wB E (bd 9) (σ 9), wM E am μ, wO E ao o] [(0, .ref b0), (1, .ref ax), (2, .ref (am 0)), (3, .ref ao), (4, .int (nI i))] 39 [.int x] := by
  by_cases c_40 : x = 40
  · exact g_tblK C 2421 dL_law_39 c_40 (by decide) (by decide) rfl (by decide) (arm_40 hRv s_40 C hZ hNc S hlt hk hn hi hR next)
  by_cases c_41 : x = 41
  · exact g_tblK C 2477 dL_law_39 c_41 (by decide) (by decide) rfl (by decide) (arm_41 hRv s_41 C hZ hNc S hlt hk hn hi hR next)
  by_cases c_42 : x = 42
  · exact g_tblK C 2533 dL_law_39 c_42 (by decide) (by decide) rfl (by decide) (arm_42 hRv s_42 C hZ hNc S hlt hk hn hi hR next)
  by_cases c_43 : x = 43
  · exact g_tblK C 2596 dL_law_39 c_43 (by decide) (by decide) rfl (by decide) (arm_43 hRv s_43 C hZ hNc S hlt hk hn hi hR next)
  by_cases c_44 : x = 44
  · exact g_tblK C 2652 dL_law_39 c_44 (by decide) (by decide) rfl (by decide) (arm_44 hRv s_44 C hZ hNc S hlt hk hn hi hR next)
  by_cases c_45 : x = 45
  · exact g_tblK C 2708 dL_law_39 c_45 (by decide) (by decide) rfl (by decide) (arm_45 hRv s_45 C hZ hNc S hlt hk hn hi hR next)
  by_cases c_46 : x = 46
  · exact g_tblK C 2764 dL_law_39 c_46 (by decide) (by decide) rfl (by decide) (arm_46 hRv s_46 C hZ hNc S hlt hk hn hi hR next)
  by_cases c_47 : x = 47
  · exact g_tblK C 2820 dL_law_39 c_47 (by decide) (by decide) rfl (by decide) (arm_47 hRv s_47 C hZ hNc S hlt hk hn hi hR next)
  by_cases c_48 : x = 48
  · exact g_tblK C 2833 dL_law_39 c_48 (by decide) (by decide) rfl (by decide) (arm_48 hRv s_48 C hZ hNc S hlt hk hn hi hR next)
  by_cases c_49 : x = 49
  · exact g_tblK C 2846 dL_law_39 c_49 (by decide) (by decide) rfl (by decide) (arm_49 hRv s_49 C hZ hNc S hlt hk hn hi hR next)
  exact rest c_40 c_41 c_42 c_43 c_44 c_45 c_46 c_47 c_48 c_49
set_option maxRecDepth 100000 in
set_option maxHeartbeats 4000000 in
theorem law_sw50 {Rl : RlT} (hRv : RlV Rl) (hnn : gNN) (hfp : gFP) (hdz : ∀ x, vf_n64 x → dcmpFl x x = 0) (s_50 : sH_loadByTickets Rl) (s_51 : sH_loadByAccount Rl) (s_52 : sH_inProgressOf Rl) (s_53 : sH_donePointsOf Rl) (s_54 : sH_freestOwner Rl) (s_55 : sH_dateOf Rl) (s_56 : sH_pointsLeft Rl) (s_57 : sH_pointsDone Rl) (s_58 : sH_hundredthsDone Rl) (s_59 : sH_isLate Rl) {X : gX} {l : Launch} {E : gE} (C : gC X cL_law 9 RL (some .boolean) l E room_1) (hZ : gZ X.2.2.2.2.2.2.2.2.2.2.2.1 X.2.2.2.2.1 X.2.2.2.2.1.heap) (hNc : gNc X.2.2.2.2.1) {b0 L0 : Nat} {xs : Nat → Int32} (S : gS X b0 L0 xs) (hlt : l.stackTraces = false) {ax : Nat} {bo tr ac ah : Nat → Nat} {bd : Nat → Nat → Nat} {at_ am : Nat → Nat} {ao : Nat} {k n i : Nat} (hk : k + 3 ≤ 601024) (hn : n + 18 ≤ 7293034) (hi : i + 3 ≤ L0) {β τ γ η : BS} {σ : Nat → BS} {θ μ : BS} {o : Nat → Int64} (hR : Rl β η θ σ μ) (next : ∀ (β τ γ η : BS) (σ : Nat → BS) (θ μ : BS) (o : Nat → Int64), Rl β η θ σ μ → G X (k + 3) (n + 18) [wX ax (bo 0) (tr 0) (ac 0) (ah 0) (at_ 0), wB E bo β, wB E tr τ, wC E ac γ, wH E ah bd η, wT E at_ θ, wB E (bd 2) (σ 2), wB E (bd 3) (σ 3), wB E (bd 4) (σ 4), wB E (bd 5) (σ 5), wB E (bd 6) (σ 6), wB E (bd 7) (σ 7), wB E (bd 8) (σ 8), wB E (bd 9) (σ 9), wM E am μ, wO E ao o] [(0, .ref b0), (1, .ref ax), (2, .ref (am 0)), (3, .ref ao), (4, .int (nI i))] 3840 []) {x : Int32} (rest : ¬ x = 50 → ¬ x = 51 → ¬ x = 52 → ¬ x = 53 → ¬ x = 54 → ¬ x = 55 → ¬ x = 56 → ¬ x = 57 → ¬ x = 58 → ¬ x = 59 → G X k n [wX ax (bo 0) (tr 0) (ac 0) (ah 0) (at_ 0), wB E bo β, wB E tr τ, wC E ac γ, wH E ah bd η, wT E at_ θ, wB E (bd 2) (σ 2), wB E (bd 3) (σ 3), wB E (bd 4) (σ 4), wB E (bd 5) (σ 5), wB E (bd 6) (σ 6), wB E (bd 7) (σ 7), wB E (bd 8) (σ 8), wB E (bd 9) (σ 9), wM E am μ, wO E ao o] [(0, .ref b0), (1, .ref ax), (2, .ref (am 0)), (3, .ref ao), (4, .int (nI i))] 39 [.int x]) : G X k n [wX ax (bo 0) (tr 0) (ac 0) (ah 0) (at_ 0), wB E bo β, wB E tr τ, wC E ac γ, wH E ah bd η, wT E at_ θ, wB E (bd 2) (σ 2), wB E (bd 3) (σ 3), wB E (bd 4) (σ 4), wB E (bd 5) (σ 5), wB E (bd 6) (σ 6), wB E (bd 7) (σ 7), wB E (bd 8) (σ 8), wB E (bd 9) (σ 9), wM E am μ, wO E ao o] [(0, .ref b0), (1, .ref ax), (2, .ref (am 0)), (3, .ref ao), (4, .int (nI i))] 39 [.int x] := by
  by_cases c_50 : x = 50
  · exact g_tblK C 2902 dL_law_39 c_50 (by decide) (by decide) rfl (by decide) (arm_50 hRv s_50 C hZ hNc S hlt hk hn hi hR next)
  by_cases c_51 : x = 51
  · exact g_tblK C 2958 dL_law_39 c_51 (by decide) (by decide) rfl (by decide) (arm_51 hRv s_51 C hZ hNc S hlt hk hn hi hR next)
  by_cases c_52 : x = 52
  · exact g_tblK C 3014 dL_law_39 c_52 (by decide) (by decide) rfl (by decide) (arm_52 hRv s_52 C hZ hNc S hlt hk hn hi hR next)
  by_cases c_53 : x = 53
  · exact g_tblK C 3070 dL_law_39 c_53 (by decide) (by decide) rfl (by decide) (arm_53 hRv s_53 C hZ hNc S hlt hk hn hi hR next)
  by_cases c_54 : x = 54
  · exact g_tblK C 3126 dL_law_39 c_54 (by decide) (by decide) rfl (by decide) (arm_54 hRv s_54 C hZ hNc S hlt hk hn hi hR next)
  by_cases c_55 : x = 55
  · exact g_tblK C 3139 dL_law_39 c_55 (by decide) (by decide) rfl (by decide) (arm_55 hRv s_55 C hZ hNc S hlt hk hn hi hR next)
  by_cases c_56 : x = 56
  · exact g_tblK C 3195 dL_law_39 c_56 (by decide) (by decide) rfl (by decide) (arm_56 hRv s_56 C hZ hNc S hlt hk hn hi hR next)
  by_cases c_57 : x = 57
  · exact g_tblK C 3251 dL_law_39 c_57 (by decide) (by decide) rfl (by decide) (arm_57 hRv s_57 C hZ hNc S hlt hk hn hi hR next)
  by_cases c_58 : x = 58
  · exact g_tblK C 3307 dL_law_39 c_58 (by decide) (by decide) rfl (by decide) (arm_58 hRv s_58 C hZ hNc S hlt hk hn hi hR next)
  by_cases c_59 : x = 59
  · exact g_tblK C 3363 dL_law_39 c_59 (by decide) (by decide) rfl (by decide) (arm_59 hRv s_59 C hZ hNc S hlt hk hn hi hR next)
  exact rest c_50 c_51 c_52 c_53 c_54 c_55 c_56 c_57 c_58 c_59
set_option maxRecDepth 100000 in
set_option maxHeartbeats 4000000 in
theorem law_sw60 {Rl : RlT} (hRv : RlV Rl) (hnn : gNN) (hfp : gFP) (hdz : ∀ x, vf_n64 x → dcmpFl x x = 0) (s_60 : sH_misplanned Rl) (s_61 : sH_lateMilestones Rl) (s_62 : sH_nextToDo Rl) (s_63 : sH_closedAt Rl) (s_64 : sH_day Rl) (s_65 : sH_withState Rl) (s_66 : sH_pointsWith Rl) (s_67 : sH_allPoints Rl) (s_68 : sH_blockedTickets Rl) (s_69 : sH_closings Rl) {X : gX} {l : Launch} {E : gE} (C : gC X cL_law 9 RL (some .boolean) l E room_1) (hZ : gZ X.2.2.2.2.2.2.2.2.2.2.2.1 X.2.2.2.2.1 X.2.2.2.2.1.heap) (hNc : gNc X.2.2.2.2.1) {b0 L0 : Nat} {xs : Nat → Int32} (S : gS X b0 L0 xs) (hlt : l.stackTraces = false) {ax : Nat} {bo tr ac ah : Nat → Nat} {bd : Nat → Nat → Nat} {at_ am : Nat → Nat} {ao : Nat} {k n i : Nat} (hk : k + 3 ≤ 601024) (hn : n + 18 ≤ 7293034) (hi : i + 3 ≤ L0) {β τ γ η : BS} {σ : Nat → BS} {θ μ : BS} {o : Nat → Int64} (hR : Rl β η θ σ μ) (next : ∀ (β τ γ η : BS) (σ : Nat → BS) (θ μ : BS) (o : Nat → Int64), Rl β η θ σ μ → G X (k + 3) (n + 18) [wX ax (bo 0) (tr 0) (ac 0) (ah 0) (at_ 0), wB E bo β, wB E tr τ, wC E ac γ, wH E ah bd η, wT E at_ θ, wB E (bd 2) (σ 2), wB E (bd 3) (σ 3), wB E (bd 4) (σ 4), wB E (bd 5) (σ 5), wB E (bd 6) (σ 6), wB E (bd 7) (σ 7), wB E (bd 8) (σ 8), wB E (bd 9) (σ 9), wM E am μ, wO E ao o] [(0, .ref b0), (1, .ref ax), (2, .ref (am 0)), (3, .ref ao), (4, .int (nI i))] 3840 []) {x : Int32} (rest : ¬ x = 60 → ¬ x = 61 → ¬ x = 62 → ¬ x = 63 → ¬ x = 64 → ¬ x = 65 → ¬ x = 66 → ¬ x = 67 → ¬ x = 68 → ¬ x = 69 → G X k n [wX ax (bo 0) (tr 0) (ac 0) (ah 0) (at_ 0), wB E bo β, wB E tr τ, wC E ac γ, wH E ah bd η, wT E at_ θ, wB E (bd 2) (σ 2), wB E (bd 3) (σ 3), wB E (bd 4) (σ 4), wB E (bd 5) (σ 5), wB E (bd 6) (σ 6), wB E (bd 7) (σ 7), wB E (bd 8) (σ 8), wB E (bd 9) (σ 9), wM E am μ, wO E ao o] [(0, .ref b0), (1, .ref ax), (2, .ref (am 0)), (3, .ref ao), (4, .int (nI i))] 39 [.int x]) : G X k n [wX ax (bo 0) (tr 0) (ac 0) (ah 0) (at_ 0), wB E bo β, wB E tr τ, wC E ac γ, wH E ah bd η, wT E at_ θ, wB E (bd 2) (σ 2), wB E (bd 3) (σ 3), wB E (bd 4) (σ 4), wB E (bd 5) (σ 5), wB E (bd 6) (σ 6), wB E (bd 7) (σ 7), wB E (bd 8) (σ 8), wB E (bd 9) (σ 9), wM E am μ, wO E ao o] [(0, .ref b0), (1, .ref ax), (2, .ref (am 0)), (3, .ref ao), (4, .int (nI i))] 39 [.int x] := by
  by_cases c_60 : x = 60
  · exact g_tblK C 3426 dL_law_39 c_60 (by decide) (by decide) rfl (by decide) (arm_60 hRv s_60 C hZ hNc S hlt hk hn hi hR next)
  by_cases c_61 : x = 61
  · exact g_tblK C 3482 dL_law_39 c_61 (by decide) (by decide) rfl (by decide) (arm_61 hRv s_61 C hZ hNc S hlt hk hn hi hR next)
  by_cases c_62 : x = 62
  · exact g_tblK C 3495 dL_law_39 c_62 (by decide) (by decide) rfl (by decide) (arm_62 hRv s_62 C hZ hNc S hlt hk hn hi hR next)
  by_cases c_63 : x = 63
  · exact g_tblK C 3539 dL_law_39 c_63 (by decide) (by decide) rfl (by decide) (arm_63 hRv s_63 C hZ hNc S hlt hk hn hi hR next)
  by_cases c_64 : x = 64
  · exact g_tblK C 3595 dL_law_39 c_64 (by decide) (by decide) rfl (by decide) (arm_64 hRv s_64 C hZ hNc S hlt hk hn hi hR next)
  by_cases c_65 : x = 65
  · exact g_tblK C 3608 dL_law_39 c_65 (by decide) (by decide) rfl (by decide) (arm_65 hRv s_65 C hZ hNc S hlt hk hn hi hR next)
  by_cases c_66 : x = 66
  · exact g_tblK C 3664 dL_law_39 c_66 (by decide) (by decide) rfl (by decide) (arm_66 hRv s_66 C hZ hNc S hlt hk hn hi hR next)
  by_cases c_67 : x = 67
  · exact g_tblK C 3720 dL_law_39 c_67 (by decide) (by decide) rfl (by decide) (arm_67 hRv s_67 C hZ hNc S hlt hk hn hi hR next)
  by_cases c_68 : x = 68
  · exact g_tblK C 3733 dL_law_39 c_68 (by decide) (by decide) rfl (by decide) (arm_68 hRv s_68 C hZ hNc S hlt hk hn hi hR next)
  by_cases c_69 : x = 69
  · exact g_tblK C 3746 dL_law_39 c_69 (by decide) (by decide) rfl (by decide) (arm_69 hRv s_69 C hZ hNc S hlt hk hn hi hR next)
  exact rest c_60 c_61 c_62 c_63 c_64 c_65 c_66 c_67 c_68 c_69
set_option maxRecDepth 100000 in
set_option maxHeartbeats 4000000 in
theorem law_sw70 {Rl : RlT} (hRv : RlV Rl) (hnn : gNN) (hfp : gFP) (hdz : ∀ x, vf_n64 x → dcmpFl x x = 0) (s_70 : sH_reopenings Rl) (s_71 : sH_pointsOfWeek Rl) (s_72 : sH_meanDays Rl) (s_73 : sH_digest Rl) {X : gX} {l : Launch} {E : gE} (C : gC X cL_law 9 RL (some .boolean) l E room_1) (hZ : gZ X.2.2.2.2.2.2.2.2.2.2.2.1 X.2.2.2.2.1 X.2.2.2.2.1.heap) (hNc : gNc X.2.2.2.2.1) {b0 L0 : Nat} {xs : Nat → Int32} (S : gS X b0 L0 xs) (hlt : l.stackTraces = false) {ax : Nat} {bo tr ac ah : Nat → Nat} {bd : Nat → Nat → Nat} {at_ am : Nat → Nat} {ao : Nat} {k n i : Nat} (hk : k + 3 ≤ 601024) (hn : n + 18 ≤ 7293034) (hi : i + 3 ≤ L0) {β τ γ η : BS} {σ : Nat → BS} {θ μ : BS} {o : Nat → Int64} (hR : Rl β η θ σ μ) (next : ∀ (β τ γ η : BS) (σ : Nat → BS) (θ μ : BS) (o : Nat → Int64), Rl β η θ σ μ → G X (k + 3) (n + 18) [wX ax (bo 0) (tr 0) (ac 0) (ah 0) (at_ 0), wB E bo β, wB E tr τ, wC E ac γ, wH E ah bd η, wT E at_ θ, wB E (bd 2) (σ 2), wB E (bd 3) (σ 3), wB E (bd 4) (σ 4), wB E (bd 5) (σ 5), wB E (bd 6) (σ 6), wB E (bd 7) (σ 7), wB E (bd 8) (σ 8), wB E (bd 9) (σ 9), wM E am μ, wO E ao o] [(0, .ref b0), (1, .ref ax), (2, .ref (am 0)), (3, .ref ao), (4, .int (nI i))] 3840 []) {x : Int32} (rest : ¬ x = 70 → ¬ x = 71 → ¬ x = 72 → ¬ x = 73 → G X k n [wX ax (bo 0) (tr 0) (ac 0) (ah 0) (at_ 0), wB E bo β, wB E tr τ, wC E ac γ, wH E ah bd η, wT E at_ θ, wB E (bd 2) (σ 2), wB E (bd 3) (σ 3), wB E (bd 4) (σ 4), wB E (bd 5) (σ 5), wB E (bd 6) (σ 6), wB E (bd 7) (σ 7), wB E (bd 8) (σ 8), wB E (bd 9) (σ 9), wM E am μ, wO E ao o] [(0, .ref b0), (1, .ref ax), (2, .ref (am 0)), (3, .ref ao), (4, .int (nI i))] 39 [.int x]) : G X k n [wX ax (bo 0) (tr 0) (ac 0) (ah 0) (at_ 0), wB E bo β, wB E tr τ, wC E ac γ, wH E ah bd η, wT E at_ θ, wB E (bd 2) (σ 2), wB E (bd 3) (σ 3), wB E (bd 4) (σ 4), wB E (bd 5) (σ 5), wB E (bd 6) (σ 6), wB E (bd 7) (σ 7), wB E (bd 8) (σ 8), wB E (bd 9) (σ 9), wM E am μ, wO E ao o] [(0, .ref b0), (1, .ref ax), (2, .ref (am 0)), (3, .ref ao), (4, .int (nI i))] 39 [.int x] := by
  by_cases c_70 : x = 70
  · exact g_tblK C 3759 dL_law_39 c_70 (by decide) (by decide) rfl (by decide) (arm_70 hRv s_70 C hZ hNc S hlt hk hn hi hR next)
  by_cases c_71 : x = 71
  · exact g_tblK C 3772 dL_law_39 c_71 (by decide) (by decide) rfl (by decide) (arm_71 hRv s_71 C hZ hNc S hlt hk hn hi hR next)
  by_cases c_72 : x = 72
  · exact g_tblK C 3785 dL_law_39 c_72 (by decide) (by decide) rfl (by decide) (arm_72 hRv s_72 hnn hdz C hZ hNc S hlt hk hn hi hR next)
  by_cases c_73 : x = 73
  · exact g_tblK C 3826 dL_law_39 c_73 (by decide) (by decide) rfl (by decide) (arm_73 hRv s_73 hnn hfp C hZ hNc S hlt hk hn hi hR next)
  exact rest c_70 c_71 c_72 c_73
set_option maxRecDepth 100000 in
set_option maxHeartbeats 4000000 in
theorem law_sw {Rl : RlT} (hRv : RlV Rl) (hnn : gNN) (hfp : gFP) (hdz : ∀ x, vf_n64 x → dcmpFl x x = 0) (hS : sAll Rl) {X : gX} {l : Launch} {E : gE} (C : gC X cL_law 9 RL (some .boolean) l E room_1) (hZ : gZ X.2.2.2.2.2.2.2.2.2.2.2.1 X.2.2.2.2.1 X.2.2.2.2.1.heap) (hNc : gNc X.2.2.2.2.1) {b0 L0 : Nat} {xs : Nat → Int32} (S : gS X b0 L0 xs) (hlt : l.stackTraces = false) {ax : Nat} {bo tr ac ah : Nat → Nat} {bd : Nat → Nat → Nat} {at_ am : Nat → Nat} {ao : Nat} {k n i : Nat} (hk : k + 3 ≤ 601024) (hn : n + 18 ≤ 7293034) (hi : i + 3 ≤ L0) {β τ γ η : BS} {σ : Nat → BS} {θ μ : BS} {o : Nat → Int64} (hR : Rl β η θ σ μ) (next : ∀ (β τ γ η : BS) (σ : Nat → BS) (θ μ : BS) (o : Nat → Int64), Rl β η θ σ μ → G X (k + 3) (n + 18) [wX ax (bo 0) (tr 0) (ac 0) (ah 0) (at_ 0), wB E bo β, wB E tr τ, wC E ac γ, wH E ah bd η, wT E at_ θ, wB E (bd 2) (σ 2), wB E (bd 3) (σ 3), wB E (bd 4) (σ 4), wB E (bd 5) (σ 5), wB E (bd 6) (σ 6), wB E (bd 7) (σ 7), wB E (bd 8) (σ 8), wB E (bd 9) (σ 9), wM E am μ, wO E ao o] [(0, .ref b0), (1, .ref ax), (2, .ref (am 0)), (3, .ref ao), (4, .int (nI i))] 3840 []) (x : Int32) : G X k n [wX ax (bo 0) (tr 0) (ac 0) (ah 0) (at_ 0), wB E bo β, wB E tr τ, wC E ac γ, wH E ah bd η, wT E at_ θ, wB E (bd 2) (σ 2), wB E (bd 3) (σ 3), wB E (bd 4) (σ 4), wB E (bd 5) (σ 5), wB E (bd 6) (σ 6), wB E (bd 7) (σ 7), wB E (bd 8) (σ 8), wB E (bd 9) (σ 9), wM E am μ, wO E ao o] [(0, .ref b0), (1, .ref ax), (2, .ref (am 0)), (3, .ref ao), (4, .int (nI i))] 39 [.int x] := by
  obtain ⟨s_0, s_1, s_2, s_3, s_4, s_5, s_6, s_7, s_8, s_9, s_10, s_11, s_12, s_13, s_14, s_15, s_16, s_17, s_18, s_19, s_20, s_21, s_22, s_23, s_24, s_25, s_26, s_27, s_28, s_29, s_30, s_31, s_32, s_33, s_34, s_35, s_36, s_37, s_38, s_39, s_40, s_41, s_42, s_43, s_44, s_45, s_46, s_47, s_48, s_49, s_50, s_51, s_52, s_53, s_54, s_55, s_56, s_57, s_58, s_59, s_60, s_61, s_62, s_63, s_64, s_65, s_66, s_67, s_68, s_69, s_70, s_71, s_72, s_73⟩ := hS
  refine law_sw0 hRv hnn hfp hdz s_0 s_1 s_2 s_3 s_4 s_5 s_6 s_7 s_8 s_9 C hZ hNc S hlt hk hn hi hR next (fun c_0 c_1 c_2 c_3 c_4 c_5 c_6 c_7 c_8 c_9 => ?_)
  refine law_sw10 hRv hnn hfp hdz s_10 s_11 s_12 s_13 s_14 s_15 s_16 s_17 s_18 s_19 C hZ hNc S hlt hk hn hi hR next (fun c_10 c_11 c_12 c_13 c_14 c_15 c_16 c_17 c_18 c_19 => ?_)
  refine law_sw20 hRv hnn hfp hdz s_20 s_21 s_22 s_23 s_24 s_25 s_26 s_27 s_28 s_29 C hZ hNc S hlt hk hn hi hR next (fun c_20 c_21 c_22 c_23 c_24 c_25 c_26 c_27 c_28 c_29 => ?_)
  refine law_sw30 hRv hnn hfp hdz s_30 s_31 s_32 s_33 s_34 s_35 s_36 s_37 s_38 s_39 C hZ hNc S hlt hk hn hi hR next (fun c_30 c_31 c_32 c_33 c_34 c_35 c_36 c_37 c_38 c_39 => ?_)
  refine law_sw40 hRv hnn hfp hdz s_40 s_41 s_42 s_43 s_44 s_45 s_46 s_47 s_48 s_49 C hZ hNc S hlt hk hn hi hR next (fun c_40 c_41 c_42 c_43 c_44 c_45 c_46 c_47 c_48 c_49 => ?_)
  refine law_sw50 hRv hnn hfp hdz s_50 s_51 s_52 s_53 s_54 s_55 s_56 s_57 s_58 s_59 C hZ hNc S hlt hk hn hi hR next (fun c_50 c_51 c_52 c_53 c_54 c_55 c_56 c_57 c_58 c_59 => ?_)
  refine law_sw60 hRv hnn hfp hdz s_60 s_61 s_62 s_63 s_64 s_65 s_66 s_67 s_68 s_69 C hZ hNc S hlt hk hn hi hR next (fun c_60 c_61 c_62 c_63 c_64 c_65 c_66 c_67 c_68 c_69 => ?_)
  refine law_sw70 hRv hnn hfp hdz s_70 s_71 s_72 s_73 C hZ hNc S hlt hk hn hi hR next (fun c_70 c_71 c_72 c_73 => ?_)
  refine g_tblD C 3840 ([0, 1, 2, 3, 4, 5, 6, 7, 8, 9, 10, 11, 12, 13, 14, 15, 16, 17, 18, 19, 20, 21, 22, 23, 24, 25, 26, 27, 28, 29, 30, 31, 32, 33, 34, 35, 36, 37, 38, 39, 40, 41, 42, 43, 44, 45, 46, 47, 48, 49, 50, 51, 52, 53, 54, 55, 56, 57, 58, 59, 60, 61, 62, 63, 64, 65, 66, 67, 68, 69, 70, 71, 72, 73]) dL_law_39 (fun q hq => ?_) rfl (by decide +kernel) (by decide) (g_widen (Nat.le_add_right _ _) (Nat.le_add_right _ _) (next β τ γ η σ θ μ o hR))
  simp only [List.mem_cons, List.not_mem_nil, or_false] at hq
  rcases hq with rfl | rfl | rfl | rfl | rfl | rfl | rfl | rfl | rfl | rfl | rfl | rfl | rfl | rfl | rfl | rfl | rfl | rfl | rfl | rfl | rfl | rfl | rfl | rfl | rfl | rfl | rfl | rfl | rfl | rfl | rfl | rfl | rfl | rfl | rfl | rfl | rfl | rfl | rfl | rfl | rfl | rfl | rfl | rfl | rfl | rfl | rfl | rfl | rfl | rfl | rfl | rfl | rfl | rfl | rfl | rfl | rfl | rfl | rfl | rfl | rfl | rfl | rfl | rfl | rfl | rfl | rfl | rfl | rfl | rfl | rfl | rfl | rfl | rfl <;> assumption
set_option maxRecDepth 100000 in
set_option maxHeartbeats 4000000 in
theorem law_loop {Rl : RlT} (hRv : RlV Rl) (hnn : gNN) (hfp : gFP) (hdz : ∀ x, vf_n64 x → dcmpFl x x = 0) (hS : sAll Rl) {X : gX} {l : Launch} {E : gE} (C : gC X cL_law 9 RL (some .boolean) l E room_1) (hZ : gZ X.2.2.2.2.2.2.2.2.2.2.2.1 X.2.2.2.2.1 X.2.2.2.2.1.heap) (hNc : gNc X.2.2.2.2.1) {b0 L0 : Nat} {xs : Nat → Int32} (S : gS X b0 L0 xs) (hlt : l.stackTraces = false) {ax : Nat} {bo tr ac ah : Nat → Nat} {bd : Nat → Nat → Nat} {at_ am : Nat → Nat} {ao : Nat} (hend : ∀ (k n : Nat) (cs : List va_W) (lv : List (Nat × Value)), k ≤ 601024 → n ≤ 7293034 → G X k n cs lv 3847 [.int 1]) : ∀ (f k n i : Nat), L0 ≤ i + 3 * f + 2 → i ≤ 1539 → k + 3 * f ≤ 601024 → n + 18 * f ≤ 7293034 → ∀ (β τ γ η : BS) (σ : Nat → BS) (θ μ : BS) (o : Nat → Int64), Rl β η θ σ μ → G X k n [wX ax (bo 0) (tr 0) (ac 0) (ah 0) (at_ 0), wB E bo β, wB E tr τ, wC E ac γ, wH E ah bd η, wT E at_ θ, wB E (bd 2) (σ 2), wB E (bd 3) (σ 3), wB E (bd 4) (σ 4), wB E (bd 5) (σ 5), wB E (bd 6) (σ 6), wB E (bd 7) (σ 7), wB E (bd 8) (σ 8), wB E (bd 9) (σ 9), wM E am μ, wO E ao o] [(0, .ref b0), (1, .ref ax), (2, .ref (am 0)), (3, .ref ao), (4, .int (nI i))] 23 [] := by
  have hL0 : L0 ≤ 1536 := by
    obtain ⟨p, l9, e, R9, s, m, args, below, meth, c, E9, A, Q⟩ := X
    obtain ⟨S1, S2, S3, S4⟩ := S
    exact S4
  intro f
  induction f with
  | zero =>
    intro k n i h1 h2 h3 h4 β τ γ η σ θ μ o hR
    refine g_iload C dL_law_23 4 rfl ?_
    refine g_aload_n C dL_law_25 rfl 0 rfl ?_
    refine g_slen C S dL_law_26 ?_
    refine g_iconst C (v := 3) dL_law_27 (by decide) ?_
    refine g_isub C dL_law_28 ?_
    refine g_icmp_gt C 3846 dL_law_29 (by decide) (fun _ => ?_) (fun c => absurd (law_room hL0 h2 c) (by omega))
    refine g_iconst C (v := 1) dL_law_3846 (by decide) ?_
    exact hend _ _ _ _ (by omega) (by omega)
  | succ f ih =>
    intro k n i h1 h2 h3 h4 β τ γ η σ θ μ o hR
    refine g_iload C dL_law_23 4 rfl ?_
    refine g_aload_n C dL_law_25 rfl 0 rfl ?_
    refine g_slen C S dL_law_26 ?_
    refine g_iconst C (v := 3) dL_law_27 (by decide) ?_
    refine g_isub C dL_law_28 ?_
    refine g_icmp_gt C 3846 dL_law_29 (by decide) (fun _ => ?_) (fun c => ?_)
    · refine g_iconst C (v := 1) dL_law_3846 (by decide) ?_
      exact hend _ _ _ _ (by omega) (by omega)
    · have hi := law_room hL0 h2 c
      refine g_aload_n C dL_law_32 rfl 0 rfl ?_
      refine g_iload C dL_law_33 4 rfl ?_
      refine g_sld C S i rfl (by omega) dL_law_35 ?_
      refine g_bipush C (v := 127) dL_law_36 (by decide) ?_
      refine g_iand C dL_law_38 ?_
      refine law_sw hRv hnn hfp hdz hS C hZ hNc S hlt (by omega) (by omega) hi hR (fun β τ γ η σ θ μ o hR2 => ?_) _
      refine g_iinc C (v := nI (i + 3)) (lv1 := [(4, .int (nI (i + 3))), (0, .ref b0), (1, .ref ax), (2, .ref (am 0)), (3, .ref ao)]) dL_law_3840 4 rfl (by rw [show Int32.ofInt 3 = nI 3 from rfl, nI_add]) (by decide) rfl ?_
      refine g_goto C 23 dL_law_3843 (by decide) ?_
      refine g_sub [1, 2, 3, 4, 0] rfl ?_
      exact ih (k + 3) (n + 18) (i + 3) (by omega) (by omega) (by omega) (by omega) β τ γ η σ θ μ o hR2
set_option maxRecDepth 100000 in
set_option maxHeartbeats 4000000 in
theorem law_body {Rl : RlT} (hRv : RlV Rl) (hnn : gNN) (hfp : gFP) (hdz : ∀ x, vf_n64 x → dcmpFl x x = 0) (hS : sAll Rl) (h0 : Rl iB iZ iZ (fun _ => iB) iM) {X : gX} {l : Launch} {E : gE} (C : gC X cL_law 9 RL (some .boolean) l E room_1) (hZ : gZ X.2.2.2.2.2.2.2.2.2.2.2.1 X.2.2.2.2.1 X.2.2.2.2.1.heap) (hNc : gNc X.2.2.2.2.1) {b0 L0 : Nat} {xs : Nat → Int32} (S : gS X b0 L0 xs) (hlt : l.stackTraces = false) (hO : va_AO RX0 X.2.2.2.2.1) (hend : ∀ (k n : Nat) (cs : List va_W) (lv : List (Nat × Value)), k ≤ 601024 → n ≤ 7293034 → G X k n cs lv 3847 [.int 1]) : G X 0 0 [] [(0, .ref b0)] 0 [] := by
  have hL0 : L0 ≤ 1536 := by
    obtain ⟨p, l9, e, R9, s, m, args, below, meth, c, E9, A, Q⟩ := X
    obtain ⟨S1, S2, S3, S4⟩ := S
    exact S4
  refine g_new C (C0 := RX6) (T := TX6) (N := 5) (cix := 4) (fs := [.null, .null, .null, .null, .null]) inX6 tyX6 tyX6_ok q1_19 q1_20 q1_1 rfl dfX6 (Nat.le_of_ble_eq_true rfl) (Nat.le_of_ble_eq_true rfl) dL_law_0 (fun ax => ?_)
  refine g_dup C dL_law_3 rfl ?_
  refine g_initI C hO 0 rfl (kX6_init l E ax) q1_23 q1_1 (by decide +kernel) q1_22 rfl q1_21 ⟨Nat.le_of_ble_eq_true rfl, Nat.le_of_ble_eq_true rfl⟩ ⟨Nat.le_of_ble_eq_true rfl, Nat.le_of_ble_eq_true rfl⟩ (Nat.le_of_ble_eq_true rfl) dL_law_4 (fun cs1 h1 => ?_)
  obtain ⟨bo, tr, ac, ah, bd, at_, rfl⟩ := h1
  refine g_astore_n C (lv1 := [(1, .ref ax), (0, .ref b0)]) dL_law_7 rfl (by decide) rfl ?_
  refine g_new C (C0 := RX7) (T := TX7) (N := 15) (cix := 5) (fs := [.int 0, .null, .null, .null, .int 0, .null, .null, .null, .int 0, .int 0, .int 0, .null, .int 0, .null, .null]) inX7 tyX7 tyX7_ok q6_64 q6_65 q1_6 rfl dfX7 (Nat.le_of_ble_eq_true rfl) (Nat.le_of_ble_eq_true rfl) dL_law_8 (fun am0 => ?_)
  refine g_dup C dL_law_11 rfl ?_
  refine g_initI C hO 1 rfl (kX7_init l E am0) q6_68 q1_6 (by decide +kernel) q6_67 rfl q6_66 ⟨Nat.le_of_ble_eq_true rfl, Nat.le_of_ble_eq_true rfl⟩ ⟨Nat.le_of_ble_eq_true rfl, Nat.le_of_ble_eq_true rfl⟩ (Nat.le_of_ble_eq_true rfl) dL_law_12 (fun cs2 h2 => ?_)
  obtain ⟨am, rfl, rfl⟩ := h2
  refine g_astore_n C (lv1 := [(2, .ref (am 0)), (1, .ref ax), (0, .ref b0)]) dL_law_15 rfl (by decide) rfl ?_
  refine g_iconst C (v := 1) dL_law_16 (by decide) ?_
  refine g_newa C (atype := .long) (ty := .long) (a0 := (1, .inr (.inl (fun _ => 0)))) q8_183 rfl 3 rfl (fun _ _ h => h) (fun _ => rfl) (by decide) (by decide) (Nat.le_of_ble_eq_true rfl) (Nat.le_of_ble_eq_true rfl) (Nat.le_of_ble_eq_true rfl) dL_law_17 (fun ao => ?_)
  refine g_astore_n C (lv1 := [(3, .ref ao), (2, .ref (am 0)), (1, .ref ax), (0, .ref b0)]) dL_law_19 rfl (by decide) rfl ?_
  refine g_iconst C (v := 0) dL_law_20 (by decide) ?_
  refine g_istore C (lv1 := [(4, .int 0), (3, .ref ao), (2, .ref (am 0)), (1, .ref ax), (0, .ref b0)]) dL_law_21 (by decide) rfl ?_
  refine g_sub (lv1 := [(0, .ref b0), (1, .ref ax), (2, .ref (am 0)), (3, .ref ao), (4, .int (nI 0))]) [4, 3, 2, 1, 0] rfl ?_
  refine g_perm (cs1 := [wX ax (bo 0) (tr 0) (ac 0) (ah 0) (at_ 0), wB E bo iB, wB E tr iB, wC E ac iZ, wH E ah bd iZ, wT E at_ iZ, wB E (bd 2) ((fun _ => iB) 2), wB E (bd 3) ((fun _ => iB) 3), wB E (bd 4) ((fun _ => iB) 4), wB E (bd 5) ((fun _ => iB) 5), wB E (bd 6) ((fun _ => iB) 6), wB E (bd 7) ((fun _ => iB) 7), wB E (bd 8) ((fun _ => iB) 8), wB E (bd 9) ((fun _ => iB) 9), wM E am iM, wO E ao (fun _ => 0)]) (List.Perm.of_eq ?_) ?_
  · show _ = _
    simp only [List.nil_append, List.cons_append, List.set_cons_zero, List.set_cons_succ, List.flatten_cons, List.flatten_nil, List.append_assoc, List.append_nil]
    rfl
  · exact law_loop hRv hnn hfp hdz hS C hZ hNc S hlt hend 512 _ _ 0 (by omega) (by omega) (by decide) (by decide) iB iB iZ iZ (fun _ => iB) iZ iM (fun _ => 0) h0
theorem lt_1 : ∀ w ∈ tables_1_1, w ∈ lw_tbl := fun w h => List.mem_append_right _ (List.mem_append_left _ h)
theorem lt_2 : ∀ w ∈ tables_1_2, w ∈ lw_tbl := fun w h => List.mem_append_right _ (List.mem_append_right _ (List.mem_append_left _ h))
theorem lt_3 : ∀ w ∈ tables_1_3, w ∈ lw_tbl := fun w h => List.mem_append_right _ (List.mem_append_right _ (List.mem_append_right _ (List.mem_append_left _ h)))
theorem lt_4 : ∀ w ∈ tables_1_4, w ∈ lw_tbl := fun w h => List.mem_append_right _ (List.mem_append_right _ (List.mem_append_right _ (List.mem_append_right _ (List.mem_append_left _ h))))
theorem lt_5 : ∀ w ∈ tables_1_5, w ∈ lw_tbl := fun w h => List.mem_append_right _ (List.mem_append_right _ (List.mem_append_right _ (List.mem_append_right _ (List.mem_append_right _ (List.mem_append_left _ h)))))
theorem lt_6 : ∀ w ∈ tables_1_6, w ∈ lw_tbl := fun w h => List.mem_append_right _ (List.mem_append_right _ (List.mem_append_right _ (List.mem_append_right _ (List.mem_append_right _ (List.mem_append_right _ (List.mem_append_left _ h))))))
theorem lt_7 : ∀ w ∈ tables_1_7, w ∈ lw_tbl := fun w h => List.mem_append_right _ (List.mem_append_right _ (List.mem_append_right _ (List.mem_append_right _ (List.mem_append_right _ (List.mem_append_right _ (List.mem_append_right _ (List.mem_append_left _ h)))))))
theorem lt_8 : ∀ w ∈ tables_1_8, w ∈ lw_tbl := fun w h => List.mem_append_right _ (List.mem_append_right _ (List.mem_append_right _ (List.mem_append_right _ (List.mem_append_right _ (List.mem_append_right _ (List.mem_append_right _ (List.mem_append_right _ (h))))))))
theorem arr_known {args : Array Value} {s : State} (ty : FieldType) (h : (Cond.arrayClass ty).before args s = true) : ∃ cA : ClassId, ArrOfT s cA ty ∧ s.vm.findClass ("[" ++ ty.toString) = some cA := by
  obtain ⟨cA, kA, comp, h1, h2, h3⟩ := Cond.arrayClass_spec h
  exact ⟨cA, fun n z => ⟨fun k h => (by cases h), kA, h2, comp, h3⟩, h1⟩
theorem arr_board {args : Array Value} {s : State} (h : (Cond.arrayOver (.object RX0)).before args s = true) : ∃ cA : ClassId, ArrOfT s cA (.object RX0) ∧ va_RA s cA (.object RX0) := by
  obtain ⟨comp, c, k, h1, h2, h3, h4, h5⟩ := Cond.arrayOver_spec h
  exact ⟨c, fun n z => ⟨fun k h => (by cases h), k, h3, comp, h4⟩, k, comp, h3, h4, h1, h5⟩
theorem law_K {args : Array Value} {s : State} (hts : ∀ w ∈ lw_tbl, w.before args s = true) : ∃ E : gE, va_K E.1 vwCl (gTy E) s := by
  have t := fun w (h : w ∈ gU) => hts w (gU_in w h)
  obtain ⟨c0, i0, K0⟩ := u_known (C := RX0) (T := TX0) (N := 17) (n := 17) t inX0 (t _ q1_28)
  obtain ⟨c1, i1, K1⟩ := u_known (C := RX1) (T := TX1) (N := 4) (n := 4) t inX1 (t _ q1_118)
  obtain ⟨c2, i2, K2⟩ := u_known (C := RX3) (T := TX3) (N := 5) (n := 5) t inX3 (t _ q1_138)
  obtain ⟨c3, i3, K3⟩ := u_known (C := RX4) (T := TX4) (N := 7) (n := 7) t inX4 (t _ q1_164)
  obtain ⟨c4, i4, K4⟩ := u_known (C := RX6) (T := TX6) (N := 5) (n := 5) t inX6 (t _ q1_20)
  obtain ⟨c5, i5, K5⟩ := u_known (C := RX7) (T := TX7) (N := 15) (n := 15) t inX7 (t _ q6_65)
  obtain ⟨a0, A0, B0⟩ := arr_known .int (t _ q1_116)
  obtain ⟨a1, A1, B1⟩ := arr_known .boolean (t _ q1_162)
  obtain ⟨a2, A2, B2⟩ := arr_known .char (t _ q1_191)
  obtain ⟨a3, A3, B3⟩ := arr_known .long (t _ q8_183)
  obtain ⟨a4, A4, B4⟩ := arr_board (hts _ (lt_1 _ (List.mem_of_getElem? (i := 144) rfl)))
  refine ⟨((fun k => if k = 0 then c0 else if k = 1 then c1 else if k = 2 then c2 else if k = 3 then c3 else if k = 4 then c4 else c5, fun k => if k = 0 then i0 else if k = 1 then i1 else if k = 2 then i2 else if k = 3 then i3 else if k = 4 then i4 else i5), fun k => if k = 0 then a0 else if k = 1 then a1 else if k = 2 then a2 else if k = 3 then a3 else a4), ?_, ?_⟩
  · intro k q hq
    match k, hq with
    | 0, hq => cases hq; exact K0
    | 1, hq => cases hq; exact K1
    | 2, hq => cases hq; exact K2
    | 3, hq => cases hq; exact K3
    | 4, hq => cases hq; exact K4
    | 5, hq => cases hq; exact K5
    | k + 6, hq => simp [vwCl] at hq
  · intro k q hq
    match k, hq with
    | 0, hq => cases hq; exact ⟨A0, B0⟩
    | 1, hq => cases hq; exact ⟨A1, B1⟩
    | 2, hq => cases hq; exact ⟨A2, B2⟩
    | 3, hq => cases hq; exact ⟨A3, B3⟩
    | 4, hq => cases hq; exact ⟨A4, B4⟩
    | k + 5, hq => simp [gTy] at hq
theorem law_N {args : Array Value} {s : State} (hts : ∀ w ∈ lw_tbl, w.before args s = true) : gN s := by
  intro w hw
  simp only [gNest, List.mem_cons, List.not_mem_nil, or_false] at hw
  rcases hw with rfl | rfl | rfl | rfl | rfl | rfl | rfl | rfl
  · exact va_Nw.of rfl (hts _ (lt_2 _ (List.mem_of_getElem? (i := 47) rfl)))
  · exact va_Nw.of rfl (hts _ (lt_2 _ (List.mem_of_getElem? (i := 110) rfl)))
  · exact va_Nw.of rfl (hts _ (lt_2 _ (List.mem_of_getElem? (i := 71) rfl)))
  · exact va_Nw.of rfl (hts _ (lt_2 _ (List.mem_of_getElem? (i := 76) rfl)))
  · exact va_Nw.of rfl (hts _ (lt_5 _ (List.mem_of_getElem? (i := 1) rfl)))
  · exact va_Nw.of rfl (hts _ (lt_3 _ (List.mem_of_getElem? (i := 55) rfl)))
  · exact va_Nw.of rfl (hts _ (lt_1 _ (List.mem_of_getElem? (i := 119) rfl)))
  · exact va_Nw.of rfl (hts _ (lt_1 _ (List.mem_of_getElem? (i := 165) rfl)))
theorem law_str {args : Array Value} {s : State} {k : Nat} {tx : String} (h1 : (Cond.stringRef RX6 k tx).before args s = true) (h2 : (Cond.exactly (.string RX6 k) "java/lang/String").before args s = true) : ∃ a, vk_R RX6 k tx a s := by
  obtain ⟨a, c, cA, kA, q1, -⟩ := Cond.exactly_spec (args := args) (first := s) (o := none) (s := s) (idx := []) (t := .string RX6 k) (cls := "java/lang/String") h2
  exact ⟨a, vk_R.of h1 q1⟩
theorem law_Z {args : Array Value} {s : State} (hts : ∀ w ∈ lw_tbl, w.before args s = true) (hs : ∀ w ∈ flatC (Jvm.Cond.and given_1 narrow_1), w.before args s = true) : gZ (fun q => s.heap.size ≤ q) s s.heap := by
  have hA : ∀ a : Nat, a < s.heap.size → ¬ (fun q : Nat => s.heap.size ≤ q) a := fun a h => Nat.not_le.mpr h
  refine ⟨⟨fun w hw => ?_, ?_, ?_, ?_⟩, ?_, ?_⟩
  · simp only [gBad, List.mem_cons, List.not_mem_nil, or_false] at hw
    rcases hw with rfl | rfl | rfl | rfl | rfl | rfl
    · exact va_Nw.of rfl (hts _ (lt_3 _ (List.mem_of_getElem? (i := 75) rfl)))
    · exact va_Nw.of rfl (hts _ (lt_3 _ (List.mem_of_getElem? (i := 77) rfl)))
    · exact va_Nw.of rfl (hts _ (lt_3 _ (List.mem_of_getElem? (i := 79) rfl)))
    · exact va_Nw.of rfl (hts _ (lt_3 _ (List.mem_of_getElem? (i := 73) rfl)))
    · exact va_Nw.of rfl (hts _ (lt_3 _ (List.mem_of_getElem? (i := 148) rfl)))
    · exact va_Nw.of rfl (hts _ (lt_3 _ (List.mem_of_getElem? (i := 200) rfl)))
  · exact law_str (hts _ (lt_3 _ (List.mem_of_getElem? (i := 207) rfl))) (hs _ (by decide +kernel))
  · exact law_str (hts _ (lt_3 _ (List.mem_of_getElem? (i := 112) rfl))) (hs _ (by decide +kernel))
  · exact law_str (hts _ (lt_3 _ (List.mem_of_getElem? (i := 155) rfl))) (hs _ (by decide +kernel))
  · exact vx_Zqof (hts _ (lt_3 _ (List.mem_of_getElem? (i := 98) rfl))) (hts _ (gU_in _ q1_7)) (hs _ (by decide +kernel)) hA
  · exact vx_Zqof (hts _ (lt_3 _ (List.mem_of_getElem? (i := 100) rfl))) (hts _ (gU_in _ q1_7)) (hs _ (by decide +kernel)) hA
theorem law_Nc {args : Array Value} {s : State} (hs : ∀ w ∈ flatC (Jvm.Cond.and given_1 narrow_1), w.before args s = true) : gNc s := by
  intro q hq
  simp only [gNcl, List.mem_cons, List.not_mem_nil, or_false] at hq
  rcases hq with rfl | rfl | rfl | rfl | rfl | rfl <;> exact va_Nc.of (args := args) (hs _ (by decide +kernel))
