set_option maxHeartbeats 4000000 in
set_option maxRecDepth 100000 in
theorem arm_20 {Rl : RlT} (hRv : RlV Rl) (hs : sH_firstError Rl)  {X : gX} {l : Launch} {E : gE} (C : gC X cL_law 9 RL (some .boolean) l E room_1) (hZ : gZ X.2.2.2.2.2.2.2.2.2.2.2.1 X.2.2.2.2.1 X.2.2.2.2.1.heap) (hNc : gNc X.2.2.2.2.1) {b0 L0 : Nat} {xs : Nat → Int32} (S : gS X b0 L0 xs) (hlt : l.stackTraces = false) {ax : Nat} {bo tr ac ah : Nat → Nat} {bd : Nat → Nat → Nat} {at_ am : Nat → Nat} {ao k n i : Nat} (hk : k + 3 ≤ 601024) (hn : n + 18 ≤ 7293034) (hi : i + 3 ≤ L0) {β τ γ η : BS} {σ : Nat → BS} {θ μ : BS} {o : Nat → Int64} (hR : Rl β η θ σ μ) (next : ∀ (β τ γ η : BS) (σ : Nat → BS) (θ μ : BS) (o : Nat → Int64), Rl β η θ σ μ → G X (k + 3) (n + 18) [wX ax (bo 0) (tr 0) (ac 0) (ah 0) (at_ 0), wB E bo β, wB E tr τ, wC E ac γ, wH E ah bd η, wT E at_ θ, wB E (bd 2) (σ 2), wB E (bd 3) (σ 3), wB E (bd 4) (σ 4), wB E (bd 5) (σ 5), wB E (bd 6) (σ 6), wB E (bd 7) (σ 7), wB E (bd 8) (σ 8), wB E (bd 9) (σ 9), wM E am μ, wO E ao o] [(0, .ref b0), (1, .ref ax), (2, .ref (am 0)), (3, .ref ao), (4, .int (nI i))] 3840 []) : G X k n [wX ax (bo 0) (tr 0) (ac 0) (ah 0) (at_ 0), wB E bo β, wB E tr τ, wC E ac γ, wH E ah bd η, wT E at_ θ, wB E (bd 2) (σ 2), wB E (bd 3) (σ 3), wB E (bd 4) (σ 4), wB E (bd 5) (σ 5), wB E (bd 6) (σ 6), wB E (bd 7) (σ 7), wB E (bd 8) (σ 8), wB E (bd 9) (σ 9), wM E am μ, wO E ao o] [(0, .ref b0), (1, .ref ax), (2, .ref (am 0)), (3, .ref ao), (4, .int (nI i))] 1493 [] := by
  obtain ⟨hvb, hvh, hvt, hvm, ha⟩ := hRv β η θ σ μ hR
  obtain ⟨hr, hR2⟩ := hs β τ γ η σ θ μ hR
  refine g_aload_n C dL_law_1493 rfl 1 rfl ?_
  refine g_callV C (cs1 := [wX ax (bo 0) (tr 0) (ac 0) (ah 0) (at_ 0), wB E bo β, wB E tr τ, wC E ac γ, wH E ah bd η, wT E at_ ((fX6_firstError θ).2), wB E (bd 2) (σ 2), wB E (bd 3) (σ 3), wB E (bd 4) (σ 4), wB E (bd 5) (σ 5), wB E (bd 6) (σ 6), wB E (bd 7) (σ 7), wB E (bd 8) (σ 8), wB E (bd 9) (σ 9), wM E am μ, wO E ao o]) (st1 := [.int ((fX6_firstError θ).1)]) [] [0, 1, 2, 3, 4, 5, 6, 7, 8, 9, 10, 11, 12, 13] (kX6_firstError l E ax bo β tr τ ac γ ah bd η σ at_ θ hvt) caX6_firstError q1_216 rfl ⟨Nat.le_of_ble_eq_true rfl, Nat.le_of_ble_eq_true rfl⟩ ⟨Nat.le_of_succ_le (Nat.le_of_succ_le (Nat.le_of_succ_le hk)), Nat.le_trans (Nat.le_add_right _ _) hn⟩ 0 0 rfl rfl rfl rfl (by decide) rfl rfl rfl rfl (Nat.le_of_ble_eq_true rfl) dL_law_1494 rfl ?_
  refine g_aload_n C dL_law_1497 rfl 2 rfl ?_
  refine g_callV C (cs1 := [wX ax (bo 0) (tr 0) (ac 0) (ah 0) (at_ 0), wB E bo β, wB E tr τ, wC E ac γ, wH E ah bd η, wT E at_ ((fX6_firstError θ).2), wB E (bd 2) (σ 2), wB E (bd 3) (σ 3), wB E (bd 4) (σ 4), wB E (bd 5) (σ 5), wB E (bd 6) (σ 6), wB E (bd 7) (σ 7), wB E (bd 8) (σ 8), wB E (bd 9) (σ 9), wM E am ((fX7_firstError μ).2), wO E ao o]) (st1 := [.int ((fX7_firstError μ).1), .int ((fX6_firstError θ).1)]) [] [14] (kX7_firstError l E am μ hvm ) caX7_firstError q7_68 rfl ⟨Nat.le_of_ble_eq_true rfl, Nat.le_of_ble_eq_true rfl⟩ ⟨Nat.le_of_succ_le (Nat.le_of_succ_le (Nat.le_of_succ_le hk)), Nat.le_trans (Nat.le_add_right _ _) hn⟩ 14 0 rfl rfl rfl rfl (by decide) rfl rfl rfl rfl (Nat.le_of_ble_eq_true rfl) dL_law_1498 rfl ?_
  refine g_icmp_eq C 3840 dL_law_1501 (by decide) (fun _ => ?_) (fun c => absurd hr c)
  refine g_widen (k1 := k + 3) (n1 := n + 18) (Nat.le_add_right _ _) (Nat.le_add_right _ _) ?_
  exact g_sub [0, 1, 2, 3, 4] rfl (next β τ γ η σ ((fX6_firstError θ).2) ((fX7_firstError μ).2) o hR2)
set_option maxHeartbeats 4000000 in
set_option maxRecDepth 100000 in
theorem arm_21 {Rl : RlT} (hRv : RlV Rl) (hs : sH_follow Rl)  {X : gX} {l : Launch} {E : gE} (C : gC X cL_law 9 RL (some .boolean) l E room_1) (hZ : gZ X.2.2.2.2.2.2.2.2.2.2.2.1 X.2.2.2.2.1 X.2.2.2.2.1.heap) (hNc : gNc X.2.2.2.2.1) {b0 L0 : Nat} {xs : Nat → Int32} (S : gS X b0 L0 xs) (hlt : l.stackTraces = false) {ax : Nat} {bo tr ac ah : Nat → Nat} {bd : Nat → Nat → Nat} {at_ am : Nat → Nat} {ao k n i : Nat} (hk : k + 3 ≤ 601024) (hn : n + 18 ≤ 7293034) (hi : i + 3 ≤ L0) {β τ γ η : BS} {σ : Nat → BS} {θ μ : BS} {o : Nat → Int64} (hR : Rl β η θ σ μ) (next : ∀ (β τ γ η : BS) (σ : Nat → BS) (θ μ : BS) (o : Nat → Int64), Rl β η θ σ μ → G X (k + 3) (n + 18) [wX ax (bo 0) (tr 0) (ac 0) (ah 0) (at_ 0), wB E bo β, wB E tr τ, wC E ac γ, wH E ah bd η, wT E at_ θ, wB E (bd 2) (σ 2), wB E (bd 3) (σ 3), wB E (bd 4) (σ 4), wB E (bd 5) (σ 5), wB E (bd 6) (σ 6), wB E (bd 7) (σ 7), wB E (bd 8) (σ 8), wB E (bd 9) (σ 9), wM E am μ, wO E ao o] [(0, .ref b0), (1, .ref ax), (2, .ref (am 0)), (3, .ref ao), (4, .int (nI i))] 3840 []) : G X k n [wX ax (bo 0) (tr 0) (ac 0) (ah 0) (at_ 0), wB E bo β, wB E tr τ, wC E ac γ, wH E ah bd η, wT E at_ θ, wB E (bd 2) (σ 2), wB E (bd 3) (σ 3), wB E (bd 4) (σ 4), wB E (bd 5) (σ 5), wB E (bd 6) (σ 6), wB E (bd 7) (σ 7), wB E (bd 8) (σ 8), wB E (bd 9) (σ 9), wM E am μ, wO E ao o] [(0, .ref b0), (1, .ref ax), (2, .ref (am 0)), (3, .ref ao), (4, .int (nI i))] 1506 [] := by
  obtain ⟨hvb, hvh, hvt, hvm, ha⟩ := hRv β η θ σ μ hR
  obtain ⟨hag, hR2⟩ := hs β τ γ η σ θ μ hR
  rcases hag with ⟨hr, ht⟩ | ⟨hr, ht⟩ | ⟨hr, ht⟩
  · skip
    refine g_aload_n C dL_law_1506 rfl 1 rfl ?_
    refine g_aload_n C dL_law_1507 rfl 3 rfl ?_
    refine g_callSW C hZ hNc (z := 2) (cs1 := [wX ax (bo 0) (tr 0) (ac 0) (ah 0) (at_ 0), wB E bo ((fX6_follow β τ η σ θ).2.1), wB E tr ((fX6_follow β τ η σ θ).2.2.1), wC E ac γ, wH E ah bd ((fX6_follow β τ η σ θ).2.2.2.1), wT E at_ ((fX6_follow β τ η σ θ).2.2.2.2.1), wB E (bd 2) ((fX6_follow β τ η σ θ).2.2.2.2.2 2), wB E (bd 3) ((fX6_follow β τ η σ θ).2.2.2.2.2 3), wB E (bd 4) ((fX6_follow β τ η σ θ).2.2.2.2.2 4), wB E (bd 5) ((fX6_follow β τ η σ θ).2.2.2.2.2 5), wB E (bd 6) ((fX6_follow β τ η σ θ).2.2.2.2.2 6), wB E (bd 7) ((fX6_follow β τ η σ θ).2.2.2.2.2 7), wB E (bd 8) ((fX6_follow β τ η σ θ).2.2.2.2.2 8), wB E (bd 9) ((fX6_follow β τ η σ θ).2.2.2.2.2 9), wM E am μ, wO E ao (vp_updL o 0 ((fX7_follow μ).1).toInt64)]) (st1 := [.int 0]) [.ref ax, .ref ao] [0, 1, 2, 3, 4, 5, 6, 7, 8, 9, 10, 11, 12, 13, 15] (kL_follow_r l E ax bo β tr τ ac γ ah bd η σ at_ θ ao o hlt hvb hvh hvt  ((fX7_follow μ).1) hr) q4_213 q1_0 (by decide +kernel) q4_212 q4_211 rfl ⟨Nat.le_of_ble_eq_true rfl, Nat.le_of_ble_eq_true rfl⟩ ⟨hk, hn⟩ (by decide) rfl rfl rfl rfl (Nat.le_of_ble_eq_true rfl) dL_law_1508 rfl ?_
    refine g_istore C (lv1 := [(5, .int 0), (0, .ref b0), (1, .ref ax), (2, .ref (am 0)), (3, .ref ao), (4, .int (nI i))]) dL_law_1511 (by decide) rfl ?_
    refine g_aload_n C dL_law_1513 rfl 3 rfl ?_
    refine g_callV C (cs1 := [wX ax (bo 0) (tr 0) (ac 0) (ah 0) (at_ 0), wB E bo ((fX6_follow β τ η σ θ).2.1), wB E tr ((fX6_follow β τ η σ θ).2.2.1), wC E ac γ, wH E ah bd ((fX6_follow β τ η σ θ).2.2.2.1), wT E at_ ((fX6_follow β τ η σ θ).2.2.2.2.1), wB E (bd 2) ((fX6_follow β τ η σ θ).2.2.2.2.2 2), wB E (bd 3) ((fX6_follow β τ η σ θ).2.2.2.2.2 3), wB E (bd 4) ((fX6_follow β τ η σ θ).2.2.2.2.2 4), wB E (bd 5) ((fX6_follow β τ η σ θ).2.2.2.2.2 5), wB E (bd 6) ((fX6_follow β τ η σ θ).2.2.2.2.2 6), wB E (bd 7) ((fX6_follow β τ η σ θ).2.2.2.2.2 7), wB E (bd 8) ((fX6_follow β τ η σ θ).2.2.2.2.2 8), wB E (bd 9) ((fX6_follow β τ η σ θ).2.2.2.2.2 9), wM E am ((fX7_follow μ).2), wO E ao (vp_updL o 0 ((fX7_follow μ).1).toInt64)]) (st1 := [.int ((fX7_follow μ).1)]) [] [14] (kX7_follow l E am μ hvm ) caX7_follow q7_95 rfl ⟨Nat.le_of_ble_eq_true rfl, Nat.le_of_ble_eq_true rfl⟩ ⟨hk, hn⟩ 14 0 rfl rfl rfl rfl (by decide) rfl rfl rfl rfl (Nat.le_of_ble_eq_true rfl) dL_law_1514 rfl ?_
    refine g_istore C (lv1 := [(6, .int ((fX7_follow μ).1)), (5, .int 0), (0, .ref b0), (1, .ref ax), (2, .ref (am 0)), (3, .ref ao), (4, .int (nI i))]) dL_law_1517 (by decide) rfl ?_
    refine g_aload_n C dL_law_1519 rfl 4 rfl ?_
    refine g_callV C (cs1 := [wX ax (bo 0) (tr 0) (ac 0) (ah 0) (at_ 0), wB E bo ((fX6_follow β τ η σ θ).2.1), wB E tr ((fX6_follow β τ η σ θ).2.2.1), wC E ac γ, wH E ah bd ((fX6_follow β τ η σ θ).2.2.2.1), wT E at_ ((fX6_follow β τ η σ θ).2.2.2.2.1), wB E (bd 2) ((fX6_follow β τ η σ θ).2.2.2.2.2 2), wB E (bd 3) ((fX6_follow β τ η σ θ).2.2.2.2.2 3), wB E (bd 4) ((fX6_follow β τ η σ θ).2.2.2.2.2 4), wB E (bd 5) ((fX6_follow β τ η σ θ).2.2.2.2.2 5), wB E (bd 6) ((fX6_follow β τ η σ θ).2.2.2.2.2 6), wB E (bd 7) ((fX6_follow β τ η σ θ).2.2.2.2.2 7), wB E (bd 8) ((fX6_follow β τ η σ θ).2.2.2.2.2 8), wB E (bd 9) ((fX6_follow β τ η σ θ).2.2.2.2.2 9), wM E am ((fX7_follow μ).2), wO E ao (vp_updL o 0 ((fX7_follow μ).1).toInt64)]) (st1 := [.int (fX7_thrown ((fX7_follow μ).2))]) [] [14] (kX7_thrown l E am ((fX7_follow μ).2)) caX7_thrown q6_116 rfl ⟨Nat.le_of_ble_eq_true rfl, Nat.le_of_ble_eq_true rfl⟩ ⟨hk, hn⟩ 14 0 rfl rfl rfl rfl (by decide) rfl rfl rfl rfl (Nat.le_of_ble_eq_true rfl) dL_law_1520 rfl ?_
    refine g_iload C dL_law_1523 1 rfl ?_
    refine g_icmp_eq C 1530 dL_law_1525 (by decide) (fun _ => ?_) (fun c => absurd ht c)
    refine g_iload C dL_law_1530 1 rfl ?_
    refine g_if_ne C 1547 dL_law_1532 (by decide) (fun c => absurd rfl c) (fun _ => ?_)
    refine g_aload_n C dL_law_1535 rfl 5 rfl ?_
    refine g_iconst C (v := 0) dL_law_1536 (by decide) ?_
    refine g_laldn C 15 0 0 rfl rfl rfl (by decide) (by decide) dL_law_1537 ?_
    refine g_iload C dL_law_1538 0 rfl ?_
    refine g_i2l C dL_law_1540 ?_
    refine g_lcmp C dL_law_1541 ?_
    refine g_if_eq C 1547 dL_law_1542 (by decide) (fun _ => ?_) (fun c => absurd law_cmp c)
    refine g_goto C 3840 dL_law_1547 (by decide) ?_
    exact g_sub [2, 3, 4, 5, 6] rfl (next ((fX6_follow β τ η σ θ).2.1) ((fX6_follow β τ η σ θ).2.2.1) γ ((fX6_follow β τ η σ θ).2.2.2.1) ((fX6_follow β τ η σ θ).2.2.2.2.2) ((fX6_follow β τ η σ θ).2.2.2.2.1) ((fX7_follow μ).2) (vp_updL o 0 ((fX7_follow μ).1).toInt64) hR2)
  · skip
    refine g_aload_n C dL_law_1506 rfl 1 rfl ?_
    refine g_aload_n C dL_law_1507 rfl 3 rfl ?_
    refine g_callSW C hZ hNc (z := 2) (cs1 := [wX ax (bo 0) (tr 0) (ac 0) (ah 0) (at_ 0), wB E bo ((fX6_follow β τ η σ θ).2.1), wB E tr ((fX6_follow β τ η σ θ).2.2.1), wC E ac γ, wH E ah bd ((fX6_follow β τ η σ θ).2.2.2.1), wT E at_ ((fX6_follow β τ η σ θ).2.2.2.2.1), wB E (bd 2) ((fX6_follow β τ η σ θ).2.2.2.2.2 2), wB E (bd 3) ((fX6_follow β τ η σ θ).2.2.2.2.2 3), wB E (bd 4) ((fX6_follow β τ η σ θ).2.2.2.2.2 4), wB E (bd 5) ((fX6_follow β τ η σ θ).2.2.2.2.2 5), wB E (bd 6) ((fX6_follow β τ η σ θ).2.2.2.2.2 6), wB E (bd 7) ((fX6_follow β τ η σ θ).2.2.2.2.2 7), wB E (bd 8) ((fX6_follow β τ η σ θ).2.2.2.2.2 8), wB E (bd 9) ((fX6_follow β τ η σ θ).2.2.2.2.2 9), wM E am μ, wO E ao o]) (st1 := [.int 1]) [.ref ax, .ref ao] [0, 1, 2, 3, 4, 5, 6, 7, 8, 9, 10, 11, 12, 13, 15] (kL_follow_0 l E ax bo β tr τ ac γ ah bd η σ at_ θ ao o hlt hvb hvh hvt  hr) q4_213 q1_0 (by decide +kernel) q4_212 q4_211 rfl ⟨Nat.le_of_ble_eq_true rfl, Nat.le_of_ble_eq_true rfl⟩ ⟨hk, hn⟩ (by decide) rfl rfl rfl rfl (Nat.le_of_ble_eq_true rfl) dL_law_1508 rfl ?_
    refine g_istore C (lv1 := [(5, .int 1), (0, .ref b0), (1, .ref ax), (2, .ref (am 0)), (3, .ref ao), (4, .int (nI i))]) dL_law_1511 (by decide) rfl ?_
    refine g_aload_n C dL_law_1513 rfl 3 rfl ?_
    refine g_callV C (cs1 := [wX ax (bo 0) (tr 0) (ac 0) (ah 0) (at_ 0), wB E bo ((fX6_follow β τ η σ θ).2.1), wB E tr ((fX6_follow β τ η σ θ).2.2.1), wC E ac γ, wH E ah bd ((fX6_follow β τ η σ θ).2.2.2.1), wT E at_ ((fX6_follow β τ η σ θ).2.2.2.2.1), wB E (bd 2) ((fX6_follow β τ η σ θ).2.2.2.2.2 2), wB E (bd 3) ((fX6_follow β τ η σ θ).2.2.2.2.2 3), wB E (bd 4) ((fX6_follow β τ η σ θ).2.2.2.2.2 4), wB E (bd 5) ((fX6_follow β τ η σ θ).2.2.2.2.2 5), wB E (bd 6) ((fX6_follow β τ η σ θ).2.2.2.2.2 6), wB E (bd 7) ((fX6_follow β τ η σ θ).2.2.2.2.2 7), wB E (bd 8) ((fX6_follow β τ η σ θ).2.2.2.2.2 8), wB E (bd 9) ((fX6_follow β τ η σ θ).2.2.2.2.2 9), wM E am ((fX7_follow μ).2), wO E ao o]) (st1 := [.int ((fX7_follow μ).1)]) [] [14] (kX7_follow l E am μ hvm ) caX7_follow q7_95 rfl ⟨Nat.le_of_ble_eq_true rfl, Nat.le_of_ble_eq_true rfl⟩ ⟨hk, hn⟩ 14 0 rfl rfl rfl rfl (by decide) rfl rfl rfl rfl (Nat.le_of_ble_eq_true rfl) dL_law_1514 rfl ?_
    refine g_istore C (lv1 := [(6, .int ((fX7_follow μ).1)), (5, .int 1), (0, .ref b0), (1, .ref ax), (2, .ref (am 0)), (3, .ref ao), (4, .int (nI i))]) dL_law_1517 (by decide) rfl ?_
    refine g_aload_n C dL_law_1519 rfl 4 rfl ?_
    refine g_callV C (cs1 := [wX ax (bo 0) (tr 0) (ac 0) (ah 0) (at_ 0), wB E bo ((fX6_follow β τ η σ θ).2.1), wB E tr ((fX6_follow β τ η σ θ).2.2.1), wC E ac γ, wH E ah bd ((fX6_follow β τ η σ θ).2.2.2.1), wT E at_ ((fX6_follow β τ η σ θ).2.2.2.2.1), wB E (bd 2) ((fX6_follow β τ η σ θ).2.2.2.2.2 2), wB E (bd 3) ((fX6_follow β τ η σ θ).2.2.2.2.2 3), wB E (bd 4) ((fX6_follow β τ η σ θ).2.2.2.2.2 4), wB E (bd 5) ((fX6_follow β τ η σ θ).2.2.2.2.2 5), wB E (bd 6) ((fX6_follow β τ η σ θ).2.2.2.2.2 6), wB E (bd 7) ((fX6_follow β τ η σ θ).2.2.2.2.2 7), wB E (bd 8) ((fX6_follow β τ η σ θ).2.2.2.2.2 8), wB E (bd 9) ((fX6_follow β τ η σ θ).2.2.2.2.2 9), wM E am ((fX7_follow μ).2), wO E ao o]) (st1 := [.int (fX7_thrown ((fX7_follow μ).2))]) [] [14] (kX7_thrown l E am ((fX7_follow μ).2)) caX7_thrown q6_116 rfl ⟨Nat.le_of_ble_eq_true rfl, Nat.le_of_ble_eq_true rfl⟩ ⟨hk, hn⟩ 14 0 rfl rfl rfl rfl (by decide) rfl rfl rfl rfl (Nat.le_of_ble_eq_true rfl) dL_law_1520 rfl ?_
    refine g_iload C dL_law_1523 1 rfl ?_
    refine g_icmp_eq C 1530 dL_law_1525 (by decide) (fun _ => ?_) (fun c => absurd ht c)
    refine g_iload C dL_law_1530 1 rfl ?_
    refine g_if_ne C 1547 dL_law_1532 (by decide) (fun _ => ?_) (fun c => absurd c (by decide))
    refine g_goto C 3840 dL_law_1547 (by decide) ?_
    exact g_sub [2, 3, 4, 5, 6] rfl (next ((fX6_follow β τ η σ θ).2.1) ((fX6_follow β τ η σ θ).2.2.1) γ ((fX6_follow β τ η σ θ).2.2.2.1) ((fX6_follow β τ η σ θ).2.2.2.2.2) ((fX6_follow β τ η σ θ).2.2.2.2.1) ((fX7_follow μ).2) o hR2)
  · skip
    refine g_aload_n C dL_law_1506 rfl 1 rfl ?_
    refine g_aload_n C dL_law_1507 rfl 3 rfl ?_
    refine g_callSW C hZ hNc (z := 2) (cs1 := [wX ax (bo 0) (tr 0) (ac 0) (ah 0) (at_ 0), wB E bo ((fX6_follow β τ η σ θ).2.1), wB E tr ((fX6_follow β τ η σ θ).2.2.1), wC E ac γ, wH E ah bd ((fX6_follow β τ η σ θ).2.2.2.1), wT E at_ ((fX6_follow β τ η σ θ).2.2.2.2.1), wB E (bd 2) ((fX6_follow β τ η σ θ).2.2.2.2.2 2), wB E (bd 3) ((fX6_follow β τ η σ θ).2.2.2.2.2 3), wB E (bd 4) ((fX6_follow β τ η σ θ).2.2.2.2.2 4), wB E (bd 5) ((fX6_follow β τ η σ θ).2.2.2.2.2 5), wB E (bd 6) ((fX6_follow β τ η σ θ).2.2.2.2.2 6), wB E (bd 7) ((fX6_follow β τ η σ θ).2.2.2.2.2 7), wB E (bd 8) ((fX6_follow β τ η σ θ).2.2.2.2.2 8), wB E (bd 9) ((fX6_follow β τ η σ θ).2.2.2.2.2 9), wM E am μ, wO E ao o]) (st1 := [.int 2]) [.ref ax, .ref ao] [0, 1, 2, 3, 4, 5, 6, 7, 8, 9, 10, 11, 12, 13, 15] (kL_follow_1 l E ax bo β tr τ ac γ ah bd η σ at_ θ ao o hlt hvb hvh hvt  hr) q4_213 q1_0 (by decide +kernel) q4_212 q4_211 rfl ⟨Nat.le_of_ble_eq_true rfl, Nat.le_of_ble_eq_true rfl⟩ ⟨hk, hn⟩ (by decide) rfl rfl rfl rfl (Nat.le_of_ble_eq_true rfl) dL_law_1508 rfl ?_
    refine g_istore C (lv1 := [(5, .int 2), (0, .ref b0), (1, .ref ax), (2, .ref (am 0)), (3, .ref ao), (4, .int (nI i))]) dL_law_1511 (by decide) rfl ?_
    refine g_aload_n C dL_law_1513 rfl 3 rfl ?_
    refine g_callV C (cs1 := [wX ax (bo 0) (tr 0) (ac 0) (ah 0) (at_ 0), wB E bo ((fX6_follow β τ η σ θ).2.1), wB E tr ((fX6_follow β τ η σ θ).2.2.1), wC E ac γ, wH E ah bd ((fX6_follow β τ η σ θ).2.2.2.1), wT E at_ ((fX6_follow β τ η σ θ).2.2.2.2.1), wB E (bd 2) ((fX6_follow β τ η σ θ).2.2.2.2.2 2), wB E (bd 3) ((fX6_follow β τ η σ θ).2.2.2.2.2 3), wB E (bd 4) ((fX6_follow β τ η σ θ).2.2.2.2.2 4), wB E (bd 5) ((fX6_follow β τ η σ θ).2.2.2.2.2 5), wB E (bd 6) ((fX6_follow β τ η σ θ).2.2.2.2.2 6), wB E (bd 7) ((fX6_follow β τ η σ θ).2.2.2.2.2 7), wB E (bd 8) ((fX6_follow β τ η σ θ).2.2.2.2.2 8), wB E (bd 9) ((fX6_follow β τ η σ θ).2.2.2.2.2 9), wM E am ((fX7_follow μ).2), wO E ao o]) (st1 := [.int ((fX7_follow μ).1)]) [] [14] (kX7_follow l E am μ hvm ) caX7_follow q7_95 rfl ⟨Nat.le_of_ble_eq_true rfl, Nat.le_of_ble_eq_true rfl⟩ ⟨hk, hn⟩ 14 0 rfl rfl rfl rfl (by decide) rfl rfl rfl rfl (Nat.le_of_ble_eq_true rfl) dL_law_1514 rfl ?_
    refine g_istore C (lv1 := [(6, .int ((fX7_follow μ).1)), (5, .int 2), (0, .ref b0), (1, .ref ax), (2, .ref (am 0)), (3, .ref ao), (4, .int (nI i))]) dL_law_1517 (by decide) rfl ?_
    refine g_aload_n C dL_law_1519 rfl 4 rfl ?_
    refine g_callV C (cs1 := [wX ax (bo 0) (tr 0) (ac 0) (ah 0) (at_ 0), wB E bo ((fX6_follow β τ η σ θ).2.1), wB E tr ((fX6_follow β τ η σ θ).2.2.1), wC E ac γ, wH E ah bd ((fX6_follow β τ η σ θ).2.2.2.1), wT E at_ ((fX6_follow β τ η σ θ).2.2.2.2.1), wB E (bd 2) ((fX6_follow β τ η σ θ).2.2.2.2.2 2), wB E (bd 3) ((fX6_follow β τ η σ θ).2.2.2.2.2 3), wB E (bd 4) ((fX6_follow β τ η σ θ).2.2.2.2.2 4), wB E (bd 5) ((fX6_follow β τ η σ θ).2.2.2.2.2 5), wB E (bd 6) ((fX6_follow β τ η σ θ).2.2.2.2.2 6), wB E (bd 7) ((fX6_follow β τ η σ θ).2.2.2.2.2 7), wB E (bd 8) ((fX6_follow β τ η σ θ).2.2.2.2.2 8), wB E (bd 9) ((fX6_follow β τ η σ θ).2.2.2.2.2 9), wM E am ((fX7_follow μ).2), wO E ao o]) (st1 := [.int (fX7_thrown ((fX7_follow μ).2))]) [] [14] (kX7_thrown l E am ((fX7_follow μ).2)) caX7_thrown q6_116 rfl ⟨Nat.le_of_ble_eq_true rfl, Nat.le_of_ble_eq_true rfl⟩ ⟨hk, hn⟩ 14 0 rfl rfl rfl rfl (by decide) rfl rfl rfl rfl (Nat.le_of_ble_eq_true rfl) dL_law_1520 rfl ?_
    refine g_iload C dL_law_1523 1 rfl ?_
    refine g_icmp_eq C 1530 dL_law_1525 (by decide) (fun _ => ?_) (fun c => absurd ht c)
    refine g_iload C dL_law_1530 1 rfl ?_
    refine g_if_ne C 1547 dL_law_1532 (by decide) (fun _ => ?_) (fun c => absurd c (by decide))
    refine g_goto C 3840 dL_law_1547 (by decide) ?_
    exact g_sub [2, 3, 4, 5, 6] rfl (next ((fX6_follow β τ η σ θ).2.1) ((fX6_follow β τ η σ θ).2.2.1) γ ((fX6_follow β τ η σ θ).2.2.2.1) ((fX6_follow β τ η σ θ).2.2.2.2.2) ((fX6_follow β τ η σ θ).2.2.2.2.1) ((fX7_follow μ).2) o hR2)
set_option maxHeartbeats 4000000 in
set_option maxRecDepth 100000 in
theorem arm_22 {Rl : RlT} (hRv : RlV Rl) (hs : sH_impossibleOrder Rl)  {X : gX} {l : Launch} {E : gE} (C : gC X cL_law 9 RL (some .boolean) l E room_1) (hZ : gZ X.2.2.2.2.2.2.2.2.2.2.2.1 X.2.2.2.2.1 X.2.2.2.2.1.heap) (hNc : gNc X.2.2.2.2.1) {b0 L0 : Nat} {xs : Nat → Int32} (S : gS X b0 L0 xs) (hlt : l.stackTraces = false) {ax : Nat} {bo tr ac ah : Nat → Nat} {bd : Nat → Nat → Nat} {at_ am : Nat → Nat} {ao k n i : Nat} (hk : k + 3 ≤ 601024) (hn : n + 18 ≤ 7293034) (hi : i + 3 ≤ L0) {β τ γ η : BS} {σ : Nat → BS} {θ μ : BS} {o : Nat → Int64} (hR : Rl β η θ σ μ) (next : ∀ (β τ γ η : BS) (σ : Nat → BS) (θ μ : BS) (o : Nat → Int64), Rl β η θ σ μ → G X (k + 3) (n + 18) [wX ax (bo 0) (tr 0) (ac 0) (ah 0) (at_ 0), wB E bo β, wB E tr τ, wC E ac γ, wH E ah bd η, wT E at_ θ, wB E (bd 2) (σ 2), wB E (bd 3) (σ 3), wB E (bd 4) (σ 4), wB E (bd 5) (σ 5), wB E (bd 6) (σ 6), wB E (bd 7) (σ 7), wB E (bd 8) (σ 8), wB E (bd 9) (σ 9), wM E am μ, wO E ao o] [(0, .ref b0), (1, .ref ax), (2, .ref (am 0)), (3, .ref ao), (4, .int (nI i))] 3840 []) : G X k n [wX ax (bo 0) (tr 0) (ac 0) (ah 0) (at_ 0), wB E bo β, wB E tr τ, wC E ac γ, wH E ah bd η, wT E at_ θ, wB E (bd 2) (σ 2), wB E (bd 3) (σ 3), wB E (bd 4) (σ 4), wB E (bd 5) (σ 5), wB E (bd 6) (σ 6), wB E (bd 7) (σ 7), wB E (bd 8) (σ 8), wB E (bd 9) (σ 9), wM E am μ, wO E ao o] [(0, .ref b0), (1, .ref ax), (2, .ref (am 0)), (3, .ref ao), (4, .int (nI i))] 1550 [] := by
  obtain ⟨hvb, hvh, hvt, hvm, ha⟩ := hRv β η θ σ μ hR
  obtain ⟨hag, hR2⟩ := hs β τ γ η σ θ μ hR
  rcases hag with ⟨hr, ht⟩ | ⟨hr, ht⟩ | ⟨hr, ht⟩
  · skip
    refine g_aload_n C dL_law_1550 rfl 1 rfl ?_
    refine g_aload_n C dL_law_1551 rfl 3 rfl ?_
    refine g_callSW C hZ hNc (z := 2) (cs1 := [wX ax (bo 0) (tr 0) (ac 0) (ah 0) (at_ 0), wB E bo β, wB E tr ((fX6_impossibleOrder β τ θ).2.1), wC E ac γ, wH E ah bd η, wT E at_ ((fX6_impossibleOrder β τ θ).2.2), wB E (bd 2) (σ 2), wB E (bd 3) (σ 3), wB E (bd 4) (σ 4), wB E (bd 5) (σ 5), wB E (bd 6) (σ 6), wB E (bd 7) (σ 7), wB E (bd 8) (σ 8), wB E (bd 9) (σ 9), wM E am μ, wO E ao (vp_updL o 0 ((fX7_impossibleOrder μ).1).toInt64)]) (st1 := [.int 0]) [.ref ax, .ref ao] [0, 1, 2, 3, 4, 5, 6, 7, 8, 9, 10, 11, 12, 13, 15] (kL_impossibleOrder_r l E ax bo β tr τ ac γ ah bd η σ at_ θ ao o hlt hvb hvt  ((fX7_impossibleOrder μ).1) hr) q5_23 q1_0 (by decide +kernel) q5_22 q5_21 rfl ⟨Nat.le_of_ble_eq_true rfl, Nat.le_of_ble_eq_true rfl⟩ ⟨hk, hn⟩ (by decide) rfl rfl rfl rfl (Nat.le_of_ble_eq_true rfl) dL_law_1552 rfl ?_
    refine g_istore C (lv1 := [(5, .int 0), (0, .ref b0), (1, .ref ax), (2, .ref (am 0)), (3, .ref ao), (4, .int (nI i))]) dL_law_1555 (by decide) rfl ?_
    refine g_aload_n C dL_law_1557 rfl 3 rfl ?_
    refine g_callV C (cs1 := [wX ax (bo 0) (tr 0) (ac 0) (ah 0) (at_ 0), wB E bo β, wB E tr ((fX6_impossibleOrder β τ θ).2.1), wC E ac γ, wH E ah bd η, wT E at_ ((fX6_impossibleOrder β τ θ).2.2), wB E (bd 2) (σ 2), wB E (bd 3) (σ 3), wB E (bd 4) (σ 4), wB E (bd 5) (σ 5), wB E (bd 6) (σ 6), wB E (bd 7) (σ 7), wB E (bd 8) (σ 8), wB E (bd 9) (σ 9), wM E am ((fX7_impossibleOrder μ).2), wO E ao (vp_updL o 0 ((fX7_impossibleOrder μ).1).toInt64)]) (st1 := [.int ((fX7_impossibleOrder μ).1)]) [] [14] (kX7_impossibleOrder l E am μ hvm ) caX7_impossibleOrder q7_119 rfl ⟨Nat.le_of_ble_eq_true rfl, Nat.le_of_ble_eq_true rfl⟩ ⟨hk, hn⟩ 14 0 rfl rfl rfl rfl (by decide) rfl rfl rfl rfl (Nat.le_of_ble_eq_true rfl) dL_law_1558 rfl ?_
    refine g_istore C (lv1 := [(6, .int ((fX7_impossibleOrder μ).1)), (5, .int 0), (0, .ref b0), (1, .ref ax), (2, .ref (am 0)), (3, .ref ao), (4, .int (nI i))]) dL_law_1561 (by decide) rfl ?_
    refine g_aload_n C dL_law_1563 rfl 4 rfl ?_
    refine g_callV C (cs1 := [wX ax (bo 0) (tr 0) (ac 0) (ah 0) (at_ 0), wB E bo β, wB E tr ((fX6_impossibleOrder β τ θ).2.1), wC E ac γ, wH E ah bd η, wT E at_ ((fX6_impossibleOrder β τ θ).2.2), wB E (bd 2) (σ 2), wB E (bd 3) (σ 3), wB E (bd 4) (σ 4), wB E (bd 5) (σ 5), wB E (bd 6) (σ 6), wB E (bd 7) (σ 7), wB E (bd 8) (σ 8), wB E (bd 9) (σ 9), wM E am ((fX7_impossibleOrder μ).2), wO E ao (vp_updL o 0 ((fX7_impossibleOrder μ).1).toInt64)]) (st1 := [.int (fX7_thrown ((fX7_impossibleOrder μ).2))]) [] [14] (kX7_thrown l E am ((fX7_impossibleOrder μ).2)) caX7_thrown q6_116 rfl ⟨Nat.le_of_ble_eq_true rfl, Nat.le_of_ble_eq_true rfl⟩ ⟨hk, hn⟩ 14 0 rfl rfl rfl rfl (by decide) rfl rfl rfl rfl (Nat.le_of_ble_eq_true rfl) dL_law_1564 rfl ?_
    refine g_iload C dL_law_1567 1 rfl ?_
    refine g_icmp_eq C 1574 dL_law_1569 (by decide) (fun _ => ?_) (fun c => absurd ht c)
    refine g_iload C dL_law_1574 1 rfl ?_
    refine g_if_ne C 1591 dL_law_1576 (by decide) (fun c => absurd rfl c) (fun _ => ?_)
    refine g_aload_n C dL_law_1579 rfl 5 rfl ?_
    refine g_iconst C (v := 0) dL_law_1580 (by decide) ?_
    refine g_laldn C 15 0 0 rfl rfl rfl (by decide) (by decide) dL_law_1581 ?_
    refine g_iload C dL_law_1582 0 rfl ?_
    refine g_i2l C dL_law_1584 ?_
    refine g_lcmp C dL_law_1585 ?_
    refine g_if_eq C 1591 dL_law_1586 (by decide) (fun _ => ?_) (fun c => absurd law_cmp c)
    refine g_goto C 3840 dL_law_1591 (by decide) ?_
    exact g_sub [2, 3, 4, 5, 6] rfl (next β ((fX6_impossibleOrder β τ θ).2.1) γ η σ ((fX6_impossibleOrder β τ θ).2.2) ((fX7_impossibleOrder μ).2) (vp_updL o 0 ((fX7_impossibleOrder μ).1).toInt64) hR2)
  · skip
    refine g_aload_n C dL_law_1550 rfl 1 rfl ?_
    refine g_aload_n C dL_law_1551 rfl 3 rfl ?_
    refine g_callSW C hZ hNc (z := 2) (cs1 := [wX ax (bo 0) (tr 0) (ac 0) (ah 0) (at_ 0), wB E bo β, wB E tr ((fX6_impossibleOrder β τ θ).2.1), wC E ac γ, wH E ah bd η, wT E at_ ((fX6_impossibleOrder β τ θ).2.2), wB E (bd 2) (σ 2), wB E (bd 3) (σ 3), wB E (bd 4) (σ 4), wB E (bd 5) (σ 5), wB E (bd 6) (σ 6), wB E (bd 7) (σ 7), wB E (bd 8) (σ 8), wB E (bd 9) (σ 9), wM E am μ, wO E ao o]) (st1 := [.int 1]) [.ref ax, .ref ao] [0, 1, 2, 3, 4, 5, 6, 7, 8, 9, 10, 11, 12, 13, 15] (kL_impossibleOrder_0 l E ax bo β tr τ ac γ ah bd η σ at_ θ ao o hlt hvb hvt  hr) q5_23 q1_0 (by decide +kernel) q5_22 q5_21 rfl ⟨Nat.le_of_ble_eq_true rfl, Nat.le_of_ble_eq_true rfl⟩ ⟨hk, hn⟩ (by decide) rfl rfl rfl rfl (Nat.le_of_ble_eq_true rfl) dL_law_1552 rfl ?_
    refine g_istore C (lv1 := [(5, .int 1), (0, .ref b0), (1, .ref ax), (2, .ref (am 0)), (3, .ref ao), (4, .int (nI i))]) dL_law_1555 (by decide) rfl ?_
    refine g_aload_n C dL_law_1557 rfl 3 rfl ?_
    refine g_callV C (cs1 := [wX ax (bo 0) (tr 0) (ac 0) (ah 0) (at_ 0), wB E bo β, wB E tr ((fX6_impossibleOrder β τ θ).2.1), wC E ac γ, wH E ah bd η, wT E at_ ((fX6_impossibleOrder β τ θ).2.2), wB E (bd 2) (σ 2), wB E (bd 3) (σ 3), wB E (bd 4) (σ 4), wB E (bd 5) (σ 5), wB E (bd 6) (σ 6), wB E (bd 7) (σ 7), wB E (bd 8) (σ 8), wB E (bd 9) (σ 9), wM E am ((fX7_impossibleOrder μ).2), wO E ao o]) (st1 := [.int ((fX7_impossibleOrder μ).1)]) [] [14] (kX7_impossibleOrder l E am μ hvm ) caX7_impossibleOrder q7_119 rfl ⟨Nat.le_of_ble_eq_true rfl, Nat.le_of_ble_eq_true rfl⟩ ⟨hk, hn⟩ 14 0 rfl rfl rfl rfl (by decide) rfl rfl rfl rfl (Nat.le_of_ble_eq_true rfl) dL_law_1558 rfl ?_
    refine g_istore C (lv1 := [(6, .int ((fX7_impossibleOrder μ).1)), (5, .int 1), (0, .ref b0), (1, .ref ax), (2, .ref (am 0)), (3, .ref ao), (4, .int (nI i))]) dL_law_1561 (by decide) rfl ?_
    refine g_aload_n C dL_law_1563 rfl 4 rfl ?_
    refine g_callV C (cs1 := [wX ax (bo 0) (tr 0) (ac 0) (ah 0) (at_ 0), wB E bo β, wB E tr ((fX6_impossibleOrder β τ θ).2.1), wC E ac γ, wH E ah bd η, wT E at_ ((fX6_impossibleOrder β τ θ).2.2), wB E (bd 2) (σ 2), wB E (bd 3) (σ 3), wB E (bd 4) (σ 4), wB E (bd 5) (σ 5), wB E (bd 6) (σ 6), wB E (bd 7) (σ 7), wB E (bd 8) (σ 8), wB E (bd 9) (σ 9), wM E am ((fX7_impossibleOrder μ).2), wO E ao o]) (st1 := [.int (fX7_thrown ((fX7_impossibleOrder μ).2))]) [] [14] (kX7_thrown l E am ((fX7_impossibleOrder μ).2)) caX7_thrown q6_116 rfl ⟨Nat.le_of_ble_eq_true rfl, Nat.le_of_ble_eq_true rfl⟩ ⟨hk, hn⟩ 14 0 rfl rfl rfl rfl (by decide) rfl rfl rfl rfl (Nat.le_of_ble_eq_true rfl) dL_law_1564 rfl ?_
    refine g_iload C dL_law_1567 1 rfl ?_
    refine g_icmp_eq C 1574 dL_law_1569 (by decide) (fun _ => ?_) (fun c => absurd ht c)
    refine g_iload C dL_law_1574 1 rfl ?_
    refine g_if_ne C 1591 dL_law_1576 (by decide) (fun _ => ?_) (fun c => absurd c (by decide))
    refine g_goto C 3840 dL_law_1591 (by decide) ?_
    exact g_sub [2, 3, 4, 5, 6] rfl (next β ((fX6_impossibleOrder β τ θ).2.1) γ η σ ((fX6_impossibleOrder β τ θ).2.2) ((fX7_impossibleOrder μ).2) o hR2)
  · skip
    refine g_aload_n C dL_law_1550 rfl 1 rfl ?_
    refine g_aload_n C dL_law_1551 rfl 3 rfl ?_
    refine g_callSW C hZ hNc (z := 2) (cs1 := [wX ax (bo 0) (tr 0) (ac 0) (ah 0) (at_ 0), wB E bo β, wB E tr ((fX6_impossibleOrder β τ θ).2.1), wC E ac γ, wH E ah bd η, wT E at_ ((fX6_impossibleOrder β τ θ).2.2), wB E (bd 2) (σ 2), wB E (bd 3) (σ 3), wB E (bd 4) (σ 4), wB E (bd 5) (σ 5), wB E (bd 6) (σ 6), wB E (bd 7) (σ 7), wB E (bd 8) (σ 8), wB E (bd 9) (σ 9), wM E am μ, wO E ao o]) (st1 := [.int 2]) [.ref ax, .ref ao] [0, 1, 2, 3, 4, 5, 6, 7, 8, 9, 10, 11, 12, 13, 15] (kL_impossibleOrder_1 l E ax bo β tr τ ac γ ah bd η σ at_ θ ao o hlt hvb hvt  hr) q5_23 q1_0 (by decide +kernel) q5_22 q5_21 rfl ⟨Nat.le_of_ble_eq_true rfl, Nat.le_of_ble_eq_true rfl⟩ ⟨hk, hn⟩ (by decide) rfl rfl rfl rfl (Nat.le_of_ble_eq_true rfl) dL_law_1552 rfl ?_
    refine g_istore C (lv1 := [(5, .int 2), (0, .ref b0), (1, .ref ax), (2, .ref (am 0)), (3, .ref ao), (4, .int (nI i))]) dL_law_1555 (by decide) rfl ?_
    refine g_aload_n C dL_law_1557 rfl 3 rfl ?_
    refine g_callV C (cs1 := [wX ax (bo 0) (tr 0) (ac 0) (ah 0) (at_ 0), wB E bo β, wB E tr ((fX6_impossibleOrder β τ θ).2.1), wC E ac γ, wH E ah bd η, wT E at_ ((fX6_impossibleOrder β τ θ).2.2), wB E (bd 2) (σ 2), wB E (bd 3) (σ 3), wB E (bd 4) (σ 4), wB E (bd 5) (σ 5), wB E (bd 6) (σ 6), wB E (bd 7) (σ 7), wB E (bd 8) (σ 8), wB E (bd 9) (σ 9), wM E am ((fX7_impossibleOrder μ).2), wO E ao o]) (st1 := [.int ((fX7_impossibleOrder μ).1)]) [] [14] (kX7_impossibleOrder l E am μ hvm ) caX7_impossibleOrder q7_119 rfl ⟨Nat.le_of_ble_eq_true rfl, Nat.le_of_ble_eq_true rfl⟩ ⟨hk, hn⟩ 14 0 rfl rfl rfl rfl (by decide) rfl rfl rfl rfl (Nat.le_of_ble_eq_true rfl) dL_law_1558 rfl ?_
    refine g_istore C (lv1 := [(6, .int ((fX7_impossibleOrder μ).1)), (5, .int 2), (0, .ref b0), (1, .ref ax), (2, .ref (am 0)), (3, .ref ao), (4, .int (nI i))]) dL_law_1561 (by decide) rfl ?_
    refine g_aload_n C dL_law_1563 rfl 4 rfl ?_
    refine g_callV C (cs1 := [wX ax (bo 0) (tr 0) (ac 0) (ah 0) (at_ 0), wB E bo β, wB E tr ((fX6_impossibleOrder β τ θ).2.1), wC E ac γ, wH E ah bd η, wT E at_ ((fX6_impossibleOrder β τ θ).2.2), wB E (bd 2) (σ 2), wB E (bd 3) (σ 3), wB E (bd 4) (σ 4), wB E (bd 5) (σ 5), wB E (bd 6) (σ 6), wB E (bd 7) (σ 7), wB E (bd 8) (σ 8), wB E (bd 9) (σ 9), wM E am ((fX7_impossibleOrder μ).2), wO E ao o]) (st1 := [.int (fX7_thrown ((fX7_impossibleOrder μ).2))]) [] [14] (kX7_thrown l E am ((fX7_impossibleOrder μ).2)) caX7_thrown q6_116 rfl ⟨Nat.le_of_ble_eq_true rfl, Nat.le_of_ble_eq_true rfl⟩ ⟨hk, hn⟩ 14 0 rfl rfl rfl rfl (by decide) rfl rfl rfl rfl (Nat.le_of_ble_eq_true rfl) dL_law_1564 rfl ?_
    refine g_iload C dL_law_1567 1 rfl ?_
    refine g_icmp_eq C 1574 dL_law_1569 (by decide) (fun _ => ?_) (fun c => absurd ht c)
    refine g_iload C dL_law_1574 1 rfl ?_
    refine g_if_ne C 1591 dL_law_1576 (by decide) (fun _ => ?_) (fun c => absurd c (by decide))
    refine g_goto C 3840 dL_law_1591 (by decide) ?_
    exact g_sub [2, 3, 4, 5, 6] rfl (next β ((fX6_impossibleOrder β τ θ).2.1) γ η σ ((fX6_impossibleOrder β τ θ).2.2) ((fX7_impossibleOrder μ).2) o hR2)
set_option maxHeartbeats 4000000 in
set_option maxRecDepth 100000 in
theorem arm_23 {Rl : RlT} (hRv : RlV Rl) (hs : sH_keep Rl)  {X : gX} {l : Launch} {E : gE} (C : gC X cL_law 9 RL (some .boolean) l E room_1) (hZ : gZ X.2.2.2.2.2.2.2.2.2.2.2.1 X.2.2.2.2.1 X.2.2.2.2.1.heap) (hNc : gNc X.2.2.2.2.1) {b0 L0 : Nat} {xs : Nat → Int32} (S : gS X b0 L0 xs) (hlt : l.stackTraces = false) {ax : Nat} {bo tr ac ah : Nat → Nat} {bd : Nat → Nat → Nat} {at_ am : Nat → Nat} {ao k n i : Nat} (hk : k + 3 ≤ 601024) (hn : n + 18 ≤ 7293034) (hi : i + 3 ≤ L0) {β τ γ η : BS} {σ : Nat → BS} {θ μ : BS} {o : Nat → Int64} (hR : Rl β η θ σ μ) (next : ∀ (β τ γ η : BS) (σ : Nat → BS) (θ μ : BS) (o : Nat → Int64), Rl β η θ σ μ → G X (k + 3) (n + 18) [wX ax (bo 0) (tr 0) (ac 0) (ah 0) (at_ 0), wB E bo β, wB E tr τ, wC E ac γ, wH E ah bd η, wT E at_ θ, wB E (bd 2) (σ 2), wB E (bd 3) (σ 3), wB E (bd 4) (σ 4), wB E (bd 5) (σ 5), wB E (bd 6) (σ 6), wB E (bd 7) (σ 7), wB E (bd 8) (σ 8), wB E (bd 9) (σ 9), wM E am μ, wO E ao o] [(0, .ref b0), (1, .ref ax), (2, .ref (am 0)), (3, .ref ao), (4, .int (nI i))] 3840 []) : G X k n [wX ax (bo 0) (tr 0) (ac 0) (ah 0) (at_ 0), wB E bo β, wB E tr τ, wC E ac γ, wH E ah bd η, wT E at_ θ, wB E (bd 2) (σ 2), wB E (bd 3) (σ 3), wB E (bd 4) (σ 4), wB E (bd 5) (σ 5), wB E (bd 6) (σ 6), wB E (bd 7) (σ 7), wB E (bd 8) (σ 8), wB E (bd 9) (σ 9), wM E am μ, wO E ao o] [(0, .ref b0), (1, .ref ax), (2, .ref (am 0)), (3, .ref ao), (4, .int (nI i))] 1594 [] := by
  obtain ⟨hvb, hvh, hvt, hvm, ha⟩ := hRv β η θ σ μ hR
  obtain ⟨a, ha9⟩ : ∃ a, xs (i + 1) = a := ⟨_, rfl⟩
  obtain ⟨hag, hR2⟩ := hs β τ γ η σ θ μ a hR
  rcases hag with ⟨hr, ht⟩ | ⟨hr, ht⟩
  · skip
    refine g_aload_n C dL_law_1594 rfl 1 rfl ?_
    refine g_aload_n C dL_law_1595 rfl 0 rfl ?_
    refine g_iload C dL_law_1596 4 rfl ?_
    refine g_iconst C (v := 1) dL_law_1598 (by decide) ?_
    refine g_iadd C dL_law_1599 ?_
    refine g_sldv C S (i + 1) (nx_add (rfl : nI i = nI i) (rfl : (1 : Int32) = nI 1)) (by omega) ha9 dL_law_1600 ?_
    refine g_callSW C hZ hNc (z := 2) (cs1 := [wX ax (bo 0) (tr 0) (ac 0) (ah 0) (at_ 0), wB E bo β, wB E tr τ, wC E ac γ, wH E ah bd ((fX6_keep β η σ a).2.1), wT E at_ θ, wB E (bd 2) ((fX6_keep β η σ a).2.2 2), wB E (bd 3) ((fX6_keep β η σ a).2.2 3), wB E (bd 4) ((fX6_keep β η σ a).2.2 4), wB E (bd 5) ((fX6_keep β η σ a).2.2 5), wB E (bd 6) ((fX6_keep β η σ a).2.2 6), wB E (bd 7) ((fX6_keep β η σ a).2.2 7), wB E (bd 8) ((fX6_keep β η σ a).2.2 8), wB E (bd 9) ((fX6_keep β η σ a).2.2 9), wM E am μ, wO E ao o]) (st1 := [.int 0]) [.ref ax, .int a] [0, 1, 2, 3, 4, 5, 6, 7, 8, 9, 10, 11, 12, 13] (kL_keep_r l E ax bo β tr τ ac γ ah bd η σ at_ θ hlt hvb hvh a hr) q5_30 q1_0 (by decide +kernel) q5_29 q5_28 rfl ⟨Nat.le_of_ble_eq_true rfl, Nat.le_of_ble_eq_true rfl⟩ ⟨hk, hn⟩ (by decide) rfl rfl rfl rfl (Nat.le_of_ble_eq_true rfl) dL_law_1601 rfl ?_
    refine g_istore C (lv1 := [(5, .int 0), (0, .ref b0), (1, .ref ax), (2, .ref (am 0)), (3, .ref ao), (4, .int (nI i))]) dL_law_1604 (by decide) rfl ?_
    refine g_aload_n C dL_law_1606 rfl 3 rfl ?_
    refine g_aload_n C dL_law_1607 rfl 1 rfl ?_
    refine g_iload C dL_law_1608 5 rfl ?_
    refine g_iconst C (v := 1) dL_law_1610 (by decide) ?_
    refine g_iadd C dL_law_1611 ?_
    refine g_sldv C S (i + 1) (nx_add (rfl : nI i = nI i) (rfl : (1 : Int32) = nI 1)) (by omega) ha9 dL_law_1612 ?_
    refine g_callV C (cs1 := [wX ax (bo 0) (tr 0) (ac 0) (ah 0) (at_ 0), wB E bo β, wB E tr τ, wC E ac γ, wH E ah bd ((fX6_keep β η σ a).2.1), wT E at_ θ, wB E (bd 2) ((fX6_keep β η σ a).2.2 2), wB E (bd 3) ((fX6_keep β η σ a).2.2 3), wB E (bd 4) ((fX6_keep β η σ a).2.2 4), wB E (bd 5) ((fX6_keep β η σ a).2.2 5), wB E (bd 6) ((fX6_keep β η σ a).2.2 6), wB E (bd 7) ((fX6_keep β η σ a).2.2 7), wB E (bd 8) ((fX6_keep β η σ a).2.2 8), wB E (bd 9) ((fX6_keep β η σ a).2.2 9), wM E am (fX7_keep μ a), wO E ao o]) (st1 := []) [.int a] [14] (kX7_keep l E am μ hvm a) caX7_keep q7_123 rfl ⟨Nat.le_of_ble_eq_true rfl, Nat.le_of_ble_eq_true rfl⟩ ⟨hk, hn⟩ 14 0 rfl rfl rfl rfl (by decide) rfl rfl rfl rfl (Nat.le_of_ble_eq_true rfl) dL_law_1613 rfl ?_
    refine g_aload_n C dL_law_1616 rfl 3 rfl ?_
    refine g_callV C (cs1 := [wX ax (bo 0) (tr 0) (ac 0) (ah 0) (at_ 0), wB E bo β, wB E tr τ, wC E ac γ, wH E ah bd ((fX6_keep β η σ a).2.1), wT E at_ θ, wB E (bd 2) ((fX6_keep β η σ a).2.2 2), wB E (bd 3) ((fX6_keep β η σ a).2.2 3), wB E (bd 4) ((fX6_keep β η σ a).2.2 4), wB E (bd 5) ((fX6_keep β η σ a).2.2 5), wB E (bd 6) ((fX6_keep β η σ a).2.2 6), wB E (bd 7) ((fX6_keep β η σ a).2.2 7), wB E (bd 8) ((fX6_keep β η σ a).2.2 8), wB E (bd 9) ((fX6_keep β η σ a).2.2 9), wM E am (fX7_keep μ a), wO E ao o]) (st1 := [.int (fX7_thrown (fX7_keep μ a))]) [] [14] (kX7_thrown l E am (fX7_keep μ a)) caX7_thrown q6_116 rfl ⟨Nat.le_of_ble_eq_true rfl, Nat.le_of_ble_eq_true rfl⟩ ⟨hk, hn⟩ 14 0 rfl rfl rfl rfl (by decide) rfl rfl rfl rfl (Nat.le_of_ble_eq_true rfl) dL_law_1617 rfl ?_
    refine g_iload C dL_law_1620 0 rfl ?_
    refine g_icmp_eq C 1627 dL_law_1622 (by decide) (fun _ => ?_) (fun c => absurd ht c)
    refine g_goto C 3840 dL_law_1627 (by decide) ?_
    exact g_sub [1, 2, 3, 4, 5] rfl (next β τ γ ((fX6_keep β η σ a).2.1) ((fX6_keep β η σ a).2.2) θ (fX7_keep μ a) o hR2)
  · skip
    refine g_aload_n C dL_law_1594 rfl 1 rfl ?_
    refine g_aload_n C dL_law_1595 rfl 0 rfl ?_
    refine g_iload C dL_law_1596 4 rfl ?_
    refine g_iconst C (v := 1) dL_law_1598 (by decide) ?_
    refine g_iadd C dL_law_1599 ?_
    refine g_sldv C S (i + 1) (nx_add (rfl : nI i = nI i) (rfl : (1 : Int32) = nI 1)) (by omega) ha9 dL_law_1600 ?_
    refine g_callSW C hZ hNc (z := 2) (cs1 := [wX ax (bo 0) (tr 0) (ac 0) (ah 0) (at_ 0), wB E bo β, wB E tr τ, wC E ac γ, wH E ah bd ((fX6_keep β η σ a).2.1), wT E at_ θ, wB E (bd 2) ((fX6_keep β η σ a).2.2 2), wB E (bd 3) ((fX6_keep β η σ a).2.2 3), wB E (bd 4) ((fX6_keep β η σ a).2.2 4), wB E (bd 5) ((fX6_keep β η σ a).2.2 5), wB E (bd 6) ((fX6_keep β η σ a).2.2 6), wB E (bd 7) ((fX6_keep β η σ a).2.2 7), wB E (bd 8) ((fX6_keep β η σ a).2.2 8), wB E (bd 9) ((fX6_keep β η σ a).2.2 9), wM E am μ, wO E ao o]) (st1 := [.int 1]) [.ref ax, .int a] [0, 1, 2, 3, 4, 5, 6, 7, 8, 9, 10, 11, 12, 13] (kL_keep_0 l E ax bo β tr τ ac γ ah bd η σ at_ θ hlt hvb hvh a hr) q5_30 q1_0 (by decide +kernel) q5_29 q5_28 rfl ⟨Nat.le_of_ble_eq_true rfl, Nat.le_of_ble_eq_true rfl⟩ ⟨hk, hn⟩ (by decide) rfl rfl rfl rfl (Nat.le_of_ble_eq_true rfl) dL_law_1601 rfl ?_
    refine g_istore C (lv1 := [(5, .int 1), (0, .ref b0), (1, .ref ax), (2, .ref (am 0)), (3, .ref ao), (4, .int (nI i))]) dL_law_1604 (by decide) rfl ?_
    refine g_aload_n C dL_law_1606 rfl 3 rfl ?_
    refine g_aload_n C dL_law_1607 rfl 1 rfl ?_
    refine g_iload C dL_law_1608 5 rfl ?_
    refine g_iconst C (v := 1) dL_law_1610 (by decide) ?_
    refine g_iadd C dL_law_1611 ?_
    refine g_sldv C S (i + 1) (nx_add (rfl : nI i = nI i) (rfl : (1 : Int32) = nI 1)) (by omega) ha9 dL_law_1612 ?_
    refine g_callV C (cs1 := [wX ax (bo 0) (tr 0) (ac 0) (ah 0) (at_ 0), wB E bo β, wB E tr τ, wC E ac γ, wH E ah bd ((fX6_keep β η σ a).2.1), wT E at_ θ, wB E (bd 2) ((fX6_keep β η σ a).2.2 2), wB E (bd 3) ((fX6_keep β η σ a).2.2 3), wB E (bd 4) ((fX6_keep β η σ a).2.2 4), wB E (bd 5) ((fX6_keep β η σ a).2.2 5), wB E (bd 6) ((fX6_keep β η σ a).2.2 6), wB E (bd 7) ((fX6_keep β η σ a).2.2 7), wB E (bd 8) ((fX6_keep β η σ a).2.2 8), wB E (bd 9) ((fX6_keep β η σ a).2.2 9), wM E am (fX7_keep μ a), wO E ao o]) (st1 := []) [.int a] [14] (kX7_keep l E am μ hvm a) caX7_keep q7_123 rfl ⟨Nat.le_of_ble_eq_true rfl, Nat.le_of_ble_eq_true rfl⟩ ⟨hk, hn⟩ 14 0 rfl rfl rfl rfl (by decide) rfl rfl rfl rfl (Nat.le_of_ble_eq_true rfl) dL_law_1613 rfl ?_
    refine g_aload_n C dL_law_1616 rfl 3 rfl ?_
    refine g_callV C (cs1 := [wX ax (bo 0) (tr 0) (ac 0) (ah 0) (at_ 0), wB E bo β, wB E tr τ, wC E ac γ, wH E ah bd ((fX6_keep β η σ a).2.1), wT E at_ θ, wB E (bd 2) ((fX6_keep β η σ a).2.2 2), wB E (bd 3) ((fX6_keep β η σ a).2.2 3), wB E (bd 4) ((fX6_keep β η σ a).2.2 4), wB E (bd 5) ((fX6_keep β η σ a).2.2 5), wB E (bd 6) ((fX6_keep β η σ a).2.2 6), wB E (bd 7) ((fX6_keep β η σ a).2.2 7), wB E (bd 8) ((fX6_keep β η σ a).2.2 8), wB E (bd 9) ((fX6_keep β η σ a).2.2 9), wM E am (fX7_keep μ a), wO E ao o]) (st1 := [.int (fX7_thrown (fX7_keep μ a))]) [] [14] (kX7_thrown l E am (fX7_keep μ a)) caX7_thrown q6_116 rfl ⟨Nat.le_of_ble_eq_true rfl, Nat.le_of_ble_eq_true rfl⟩ ⟨hk, hn⟩ 14 0 rfl rfl rfl rfl (by decide) rfl rfl rfl rfl (Nat.le_of_ble_eq_true rfl) dL_law_1617 rfl ?_
    refine g_iload C dL_law_1620 0 rfl ?_
    refine g_icmp_eq C 1627 dL_law_1622 (by decide) (fun _ => ?_) (fun c => absurd ht c)
    refine g_goto C 3840 dL_law_1627 (by decide) ?_
    exact g_sub [1, 2, 3, 4, 5] rfl (next β τ γ ((fX6_keep β η σ a).2.1) ((fX6_keep β η σ a).2.2) θ (fX7_keep μ a) o hR2)
set_option maxHeartbeats 4000000 in
set_option maxRecDepth 100000 in
theorem arm_24 {Rl : RlT} (hRv : RlV Rl) (hs : sH_goBack Rl)  {X : gX} {l : Launch} {E : gE} (C : gC X cL_law 9 RL (some .boolean) l E room_1) (hZ : gZ X.2.2.2.2.2.2.2.2.2.2.2.1 X.2.2.2.2.1 X.2.2.2.2.1.heap) (hNc : gNc X.2.2.2.2.1) {b0 L0 : Nat} {xs : Nat → Int32} (S : gS X b0 L0 xs) (hlt : l.stackTraces = false) {ax : Nat} {bo tr ac ah : Nat → Nat} {bd : Nat → Nat → Nat} {at_ am : Nat → Nat} {ao k n i : Nat} (hk : k + 3 ≤ 601024) (hn : n + 18 ≤ 7293034) (hi : i + 3 ≤ L0) {β τ γ η : BS} {σ : Nat → BS} {θ μ : BS} {o : Nat → Int64} (hR : Rl β η θ σ μ) (next : ∀ (β τ γ η : BS) (σ : Nat → BS) (θ μ : BS) (o : Nat → Int64), Rl β η θ σ μ → G X (k + 3) (n + 18) [wX ax (bo 0) (tr 0) (ac 0) (ah 0) (at_ 0), wB E bo β, wB E tr τ, wC E ac γ, wH E ah bd η, wT E at_ θ, wB E (bd 2) (σ 2), wB E (bd 3) (σ 3), wB E (bd 4) (σ 4), wB E (bd 5) (σ 5), wB E (bd 6) (σ 6), wB E (bd 7) (σ 7), wB E (bd 8) (σ 8), wB E (bd 9) (σ 9), wM E am μ, wO E ao o] [(0, .ref b0), (1, .ref ax), (2, .ref (am 0)), (3, .ref ao), (4, .int (nI i))] 3840 []) : G X k n [wX ax (bo 0) (tr 0) (ac 0) (ah 0) (at_ 0), wB E bo β, wB E tr τ, wC E ac γ, wH E ah bd η, wT E at_ θ, wB E (bd 2) (σ 2), wB E (bd 3) (σ 3), wB E (bd 4) (σ 4), wB E (bd 5) (σ 5), wB E (bd 6) (σ 6), wB E (bd 7) (σ 7), wB E (bd 8) (σ 8), wB E (bd 9) (σ 9), wM E am μ, wO E ao o] [(0, .ref b0), (1, .ref ax), (2, .ref (am 0)), (3, .ref ao), (4, .int (nI i))] 1630 [] := by
  obtain ⟨hvb, hvh, hvt, hvm, ha⟩ := hRv β η θ σ μ hR
  obtain ⟨a, ha9⟩ : ∃ a, xs (i + 1) = a := ⟨_, rfl⟩
  obtain ⟨hag, hR2⟩ := hs β τ γ η σ θ μ a hR
  rcases hag with ⟨hr, ht⟩ | ⟨hr, ht⟩ | ⟨hr, ht⟩
  · skip
    refine g_aload_n C dL_law_1630 rfl 1 rfl ?_
    refine g_aload_n C dL_law_1631 rfl 0 rfl ?_
    refine g_iload C dL_law_1632 4 rfl ?_
    refine g_iconst C (v := 1) dL_law_1634 (by decide) ?_
    refine g_iadd C dL_law_1635 ?_
    refine g_sldv C S (i + 1) (nx_add (rfl : nI i = nI i) (rfl : (1 : Int32) = nI 1)) (by omega) ha9 dL_law_1636 ?_
    refine g_callSW C hZ hNc (z := 2) (cs1 := [wX ax (bo 0) (tr 0) (ac 0) (ah 0) (at_ 0), wB E bo ((fX6_goBack β η σ a).2.1), wB E tr τ, wC E ac γ, wH E ah bd ((fX6_goBack β η σ a).2.2.1), wT E at_ θ, wB E (bd 2) ((fX6_goBack β η σ a).2.2.2 2), wB E (bd 3) ((fX6_goBack β η σ a).2.2.2 3), wB E (bd 4) ((fX6_goBack β η σ a).2.2.2 4), wB E (bd 5) ((fX6_goBack β η σ a).2.2.2 5), wB E (bd 6) ((fX6_goBack β η σ a).2.2.2 6), wB E (bd 7) ((fX6_goBack β η σ a).2.2.2 7), wB E (bd 8) ((fX6_goBack β η σ a).2.2.2 8), wB E (bd 9) ((fX6_goBack β η σ a).2.2.2 9), wM E am μ, wO E ao o]) (st1 := [.int 0]) [.ref ax, .int a] [0, 1, 2, 3, 4, 5, 6, 7, 8, 9, 10, 11, 12, 13] (kL_goBack_r l E ax bo β tr τ ac γ ah bd η σ at_ θ hlt hvb hvh a hr) q5_44 q1_0 (by decide +kernel) q5_43 q5_42 rfl ⟨Nat.le_of_ble_eq_true rfl, Nat.le_of_ble_eq_true rfl⟩ ⟨hk, hn⟩ (by decide) rfl rfl rfl rfl (Nat.le_of_ble_eq_true rfl) dL_law_1637 rfl ?_
    refine g_istore C (lv1 := [(5, .int 0), (0, .ref b0), (1, .ref ax), (2, .ref (am 0)), (3, .ref ao), (4, .int (nI i))]) dL_law_1640 (by decide) rfl ?_
    refine g_aload_n C dL_law_1642 rfl 3 rfl ?_
    refine g_aload_n C dL_law_1643 rfl 1 rfl ?_
    refine g_iload C dL_law_1644 5 rfl ?_
    refine g_iconst C (v := 1) dL_law_1646 (by decide) ?_
    refine g_iadd C dL_law_1647 ?_
    refine g_sldv C S (i + 1) (nx_add (rfl : nI i = nI i) (rfl : (1 : Int32) = nI 1)) (by omega) ha9 dL_law_1648 ?_
    refine g_callV C (cs1 := [wX ax (bo 0) (tr 0) (ac 0) (ah 0) (at_ 0), wB E bo ((fX6_goBack β η σ a).2.1), wB E tr τ, wC E ac γ, wH E ah bd ((fX6_goBack β η σ a).2.2.1), wT E at_ θ, wB E (bd 2) ((fX6_goBack β η σ a).2.2.2 2), wB E (bd 3) ((fX6_goBack β η σ a).2.2.2 3), wB E (bd 4) ((fX6_goBack β η σ a).2.2.2 4), wB E (bd 5) ((fX6_goBack β η σ a).2.2.2 5), wB E (bd 6) ((fX6_goBack β η σ a).2.2.2 6), wB E (bd 7) ((fX6_goBack β η σ a).2.2.2 7), wB E (bd 8) ((fX6_goBack β η σ a).2.2.2 8), wB E (bd 9) ((fX6_goBack β η σ a).2.2.2 9), wM E am (fX7_goBack μ a), wO E ao o]) (st1 := []) [.int a] [14] (kX7_goBack l E am μ hvm a) caX7_goBack q7_127 rfl ⟨Nat.le_of_ble_eq_true rfl, Nat.le_of_ble_eq_true rfl⟩ ⟨hk, hn⟩ 14 0 rfl rfl rfl rfl (by decide) rfl rfl rfl rfl (Nat.le_of_ble_eq_true rfl) dL_law_1649 rfl ?_
    refine g_aload_n C dL_law_1652 rfl 3 rfl ?_
    refine g_callV C (cs1 := [wX ax (bo 0) (tr 0) (ac 0) (ah 0) (at_ 0), wB E bo ((fX6_goBack β η σ a).2.1), wB E tr τ, wC E ac γ, wH E ah bd ((fX6_goBack β η σ a).2.2.1), wT E at_ θ, wB E (bd 2) ((fX6_goBack β η σ a).2.2.2 2), wB E (bd 3) ((fX6_goBack β η σ a).2.2.2 3), wB E (bd 4) ((fX6_goBack β η σ a).2.2.2 4), wB E (bd 5) ((fX6_goBack β η σ a).2.2.2 5), wB E (bd 6) ((fX6_goBack β η σ a).2.2.2 6), wB E (bd 7) ((fX6_goBack β η σ a).2.2.2 7), wB E (bd 8) ((fX6_goBack β η σ a).2.2.2 8), wB E (bd 9) ((fX6_goBack β η σ a).2.2.2 9), wM E am (fX7_goBack μ a), wO E ao o]) (st1 := [.int (fX7_thrown (fX7_goBack μ a))]) [] [14] (kX7_thrown l E am (fX7_goBack μ a)) caX7_thrown q6_116 rfl ⟨Nat.le_of_ble_eq_true rfl, Nat.le_of_ble_eq_true rfl⟩ ⟨hk, hn⟩ 14 0 rfl rfl rfl rfl (by decide) rfl rfl rfl rfl (Nat.le_of_ble_eq_true rfl) dL_law_1653 rfl ?_
    refine g_iload C dL_law_1656 0 rfl ?_
    refine g_icmp_eq C 1663 dL_law_1658 (by decide) (fun _ => ?_) (fun c => absurd ht c)
    refine g_goto C 3840 dL_law_1663 (by decide) ?_
    exact g_sub [1, 2, 3, 4, 5] rfl (next ((fX6_goBack β η σ a).2.1) τ γ ((fX6_goBack β η σ a).2.2.1) ((fX6_goBack β η σ a).2.2.2) θ (fX7_goBack μ a) o hR2)
  · skip
    refine g_aload_n C dL_law_1630 rfl 1 rfl ?_
    refine g_aload_n C dL_law_1631 rfl 0 rfl ?_
    refine g_iload C dL_law_1632 4 rfl ?_
    refine g_iconst C (v := 1) dL_law_1634 (by decide) ?_
    refine g_iadd C dL_law_1635 ?_
    refine g_sldv C S (i + 1) (nx_add (rfl : nI i = nI i) (rfl : (1 : Int32) = nI 1)) (by omega) ha9 dL_law_1636 ?_
    refine g_callSW C hZ hNc (z := 2) (cs1 := [wX ax (bo 0) (tr 0) (ac 0) (ah 0) (at_ 0), wB E bo ((fX6_goBack β η σ a).2.1), wB E tr τ, wC E ac γ, wH E ah bd ((fX6_goBack β η σ a).2.2.1), wT E at_ θ, wB E (bd 2) ((fX6_goBack β η σ a).2.2.2 2), wB E (bd 3) ((fX6_goBack β η σ a).2.2.2 3), wB E (bd 4) ((fX6_goBack β η σ a).2.2.2 4), wB E (bd 5) ((fX6_goBack β η σ a).2.2.2 5), wB E (bd 6) ((fX6_goBack β η σ a).2.2.2 6), wB E (bd 7) ((fX6_goBack β η σ a).2.2.2 7), wB E (bd 8) ((fX6_goBack β η σ a).2.2.2 8), wB E (bd 9) ((fX6_goBack β η σ a).2.2.2 9), wM E am μ, wO E ao o]) (st1 := [.int 1]) [.ref ax, .int a] [0, 1, 2, 3, 4, 5, 6, 7, 8, 9, 10, 11, 12, 13] (kL_goBack_0 l E ax bo β tr τ ac γ ah bd η σ at_ θ hlt hvb hvh a hr) q5_44 q1_0 (by decide +kernel) q5_43 q5_42 rfl ⟨Nat.le_of_ble_eq_true rfl, Nat.le_of_ble_eq_true rfl⟩ ⟨hk, hn⟩ (by decide) rfl rfl rfl rfl (Nat.le_of_ble_eq_true rfl) dL_law_1637 rfl ?_
    refine g_istore C (lv1 := [(5, .int 1), (0, .ref b0), (1, .ref ax), (2, .ref (am 0)), (3, .ref ao), (4, .int (nI i))]) dL_law_1640 (by decide) rfl ?_
    refine g_aload_n C dL_law_1642 rfl 3 rfl ?_
    refine g_aload_n C dL_law_1643 rfl 1 rfl ?_
    refine g_iload C dL_law_1644 5 rfl ?_
    refine g_iconst C (v := 1) dL_law_1646 (by decide) ?_
    refine g_iadd C dL_law_1647 ?_
    refine g_sldv C S (i + 1) (nx_add (rfl : nI i = nI i) (rfl : (1 : Int32) = nI 1)) (by omega) ha9 dL_law_1648 ?_
    refine g_callV C (cs1 := [wX ax (bo 0) (tr 0) (ac 0) (ah 0) (at_ 0), wB E bo ((fX6_goBack β η σ a).2.1), wB E tr τ, wC E ac γ, wH E ah bd ((fX6_goBack β η σ a).2.2.1), wT E at_ θ, wB E (bd 2) ((fX6_goBack β η σ a).2.2.2 2), wB E (bd 3) ((fX6_goBack β η σ a).2.2.2 3), wB E (bd 4) ((fX6_goBack β η σ a).2.2.2 4), wB E (bd 5) ((fX6_goBack β η σ a).2.2.2 5), wB E (bd 6) ((fX6_goBack β η σ a).2.2.2 6), wB E (bd 7) ((fX6_goBack β η σ a).2.2.2 7), wB E (bd 8) ((fX6_goBack β η σ a).2.2.2 8), wB E (bd 9) ((fX6_goBack β η σ a).2.2.2 9), wM E am (fX7_goBack μ a), wO E ao o]) (st1 := []) [.int a] [14] (kX7_goBack l E am μ hvm a) caX7_goBack q7_127 rfl ⟨Nat.le_of_ble_eq_true rfl, Nat.le_of_ble_eq_true rfl⟩ ⟨hk, hn⟩ 14 0 rfl rfl rfl rfl (by decide) rfl rfl rfl rfl (Nat.le_of_ble_eq_true rfl) dL_law_1649 rfl ?_
    refine g_aload_n C dL_law_1652 rfl 3 rfl ?_
    refine g_callV C (cs1 := [wX ax (bo 0) (tr 0) (ac 0) (ah 0) (at_ 0), wB E bo ((fX6_goBack β η σ a).2.1), wB E tr τ, wC E ac γ, wH E ah bd ((fX6_goBack β η σ a).2.2.1), wT E at_ θ, wB E (bd 2) ((fX6_goBack β η σ a).2.2.2 2), wB E (bd 3) ((fX6_goBack β η σ a).2.2.2 3), wB E (bd 4) ((fX6_goBack β η σ a).2.2.2 4), wB E (bd 5) ((fX6_goBack β η σ a).2.2.2 5), wB E (bd 6) ((fX6_goBack β η σ a).2.2.2 6), wB E (bd 7) ((fX6_goBack β η σ a).2.2.2 7), wB E (bd 8) ((fX6_goBack β η σ a).2.2.2 8), wB E (bd 9) ((fX6_goBack β η σ a).2.2.2 9), wM E am (fX7_goBack μ a), wO E ao o]) (st1 := [.int (fX7_thrown (fX7_goBack μ a))]) [] [14] (kX7_thrown l E am (fX7_goBack μ a)) caX7_thrown q6_116 rfl ⟨Nat.le_of_ble_eq_true rfl, Nat.le_of_ble_eq_true rfl⟩ ⟨hk, hn⟩ 14 0 rfl rfl rfl rfl (by decide) rfl rfl rfl rfl (Nat.le_of_ble_eq_true rfl) dL_law_1653 rfl ?_
    refine g_iload C dL_law_1656 0 rfl ?_
    refine g_icmp_eq C 1663 dL_law_1658 (by decide) (fun _ => ?_) (fun c => absurd ht c)
    refine g_goto C 3840 dL_law_1663 (by decide) ?_
    exact g_sub [1, 2, 3, 4, 5] rfl (next ((fX6_goBack β η σ a).2.1) τ γ ((fX6_goBack β η σ a).2.2.1) ((fX6_goBack β η σ a).2.2.2) θ (fX7_goBack μ a) o hR2)
  · skip
    refine g_aload_n C dL_law_1630 rfl 1 rfl ?_
    refine g_aload_n C dL_law_1631 rfl 0 rfl ?_
    refine g_iload C dL_law_1632 4 rfl ?_
    refine g_iconst C (v := 1) dL_law_1634 (by decide) ?_
    refine g_iadd C dL_law_1635 ?_
    refine g_sldv C S (i + 1) (nx_add (rfl : nI i = nI i) (rfl : (1 : Int32) = nI 1)) (by omega) ha9 dL_law_1636 ?_
    refine g_callSW C hZ hNc (z := 2) (cs1 := [wX ax (bo 0) (tr 0) (ac 0) (ah 0) (at_ 0), wB E bo ((fX6_goBack β η σ a).2.1), wB E tr τ, wC E ac γ, wH E ah bd ((fX6_goBack β η σ a).2.2.1), wT E at_ θ, wB E (bd 2) ((fX6_goBack β η σ a).2.2.2 2), wB E (bd 3) ((fX6_goBack β η σ a).2.2.2 3), wB E (bd 4) ((fX6_goBack β η σ a).2.2.2 4), wB E (bd 5) ((fX6_goBack β η σ a).2.2.2 5), wB E (bd 6) ((fX6_goBack β η σ a).2.2.2 6), wB E (bd 7) ((fX6_goBack β η σ a).2.2.2 7), wB E (bd 8) ((fX6_goBack β η σ a).2.2.2 8), wB E (bd 9) ((fX6_goBack β η σ a).2.2.2 9), wM E am μ, wO E ao o]) (st1 := [.int 2]) [.ref ax, .int a] [0, 1, 2, 3, 4, 5, 6, 7, 8, 9, 10, 11, 12, 13] (kL_goBack_1 l E ax bo β tr τ ac γ ah bd η σ at_ θ hlt hvb hvh a hr) q5_44 q1_0 (by decide +kernel) q5_43 q5_42 rfl ⟨Nat.le_of_ble_eq_true rfl, Nat.le_of_ble_eq_true rfl⟩ ⟨hk, hn⟩ (by decide) rfl rfl rfl rfl (Nat.le_of_ble_eq_true rfl) dL_law_1637 rfl ?_
    refine g_istore C (lv1 := [(5, .int 2), (0, .ref b0), (1, .ref ax), (2, .ref (am 0)), (3, .ref ao), (4, .int (nI i))]) dL_law_1640 (by decide) rfl ?_
    refine g_aload_n C dL_law_1642 rfl 3 rfl ?_
    refine g_aload_n C dL_law_1643 rfl 1 rfl ?_
    refine g_iload C dL_law_1644 5 rfl ?_
    refine g_iconst C (v := 1) dL_law_1646 (by decide) ?_
    refine g_iadd C dL_law_1647 ?_
    refine g_sldv C S (i + 1) (nx_add (rfl : nI i = nI i) (rfl : (1 : Int32) = nI 1)) (by omega) ha9 dL_law_1648 ?_
    refine g_callV C (cs1 := [wX ax (bo 0) (tr 0) (ac 0) (ah 0) (at_ 0), wB E bo ((fX6_goBack β η σ a).2.1), wB E tr τ, wC E ac γ, wH E ah bd ((fX6_goBack β η σ a).2.2.1), wT E at_ θ, wB E (bd 2) ((fX6_goBack β η σ a).2.2.2 2), wB E (bd 3) ((fX6_goBack β η σ a).2.2.2 3), wB E (bd 4) ((fX6_goBack β η σ a).2.2.2 4), wB E (bd 5) ((fX6_goBack β η σ a).2.2.2 5), wB E (bd 6) ((fX6_goBack β η σ a).2.2.2 6), wB E (bd 7) ((fX6_goBack β η σ a).2.2.2 7), wB E (bd 8) ((fX6_goBack β η σ a).2.2.2 8), wB E (bd 9) ((fX6_goBack β η σ a).2.2.2 9), wM E am (fX7_goBack μ a), wO E ao o]) (st1 := []) [.int a] [14] (kX7_goBack l E am μ hvm a) caX7_goBack q7_127 rfl ⟨Nat.le_of_ble_eq_true rfl, Nat.le_of_ble_eq_true rfl⟩ ⟨hk, hn⟩ 14 0 rfl rfl rfl rfl (by decide) rfl rfl rfl rfl (Nat.le_of_ble_eq_true rfl) dL_law_1649 rfl ?_
    refine g_aload_n C dL_law_1652 rfl 3 rfl ?_
    refine g_callV C (cs1 := [wX ax (bo 0) (tr 0) (ac 0) (ah 0) (at_ 0), wB E bo ((fX6_goBack β η σ a).2.1), wB E tr τ, wC E ac γ, wH E ah bd ((fX6_goBack β η σ a).2.2.1), wT E at_ θ, wB E (bd 2) ((fX6_goBack β η σ a).2.2.2 2), wB E (bd 3) ((fX6_goBack β η σ a).2.2.2 3), wB E (bd 4) ((fX6_goBack β η σ a).2.2.2 4), wB E (bd 5) ((fX6_goBack β η σ a).2.2.2 5), wB E (bd 6) ((fX6_goBack β η σ a).2.2.2 6), wB E (bd 7) ((fX6_goBack β η σ a).2.2.2 7), wB E (bd 8) ((fX6_goBack β η σ a).2.2.2 8), wB E (bd 9) ((fX6_goBack β η σ a).2.2.2 9), wM E am (fX7_goBack μ a), wO E ao o]) (st1 := [.int (fX7_thrown (fX7_goBack μ a))]) [] [14] (kX7_thrown l E am (fX7_goBack μ a)) caX7_thrown q6_116 rfl ⟨Nat.le_of_ble_eq_true rfl, Nat.le_of_ble_eq_true rfl⟩ ⟨hk, hn⟩ 14 0 rfl rfl rfl rfl (by decide) rfl rfl rfl rfl (Nat.le_of_ble_eq_true rfl) dL_law_1653 rfl ?_
    refine g_iload C dL_law_1656 0 rfl ?_
    refine g_icmp_eq C 1663 dL_law_1658 (by decide) (fun _ => ?_) (fun c => absurd ht c)
    refine g_goto C 3840 dL_law_1663 (by decide) ?_
    exact g_sub [1, 2, 3, 4, 5] rfl (next ((fX6_goBack β η σ a).2.1) τ γ ((fX6_goBack β η σ a).2.2.1) ((fX6_goBack β η σ a).2.2.2) θ (fX7_goBack μ a) o hR2)
set_option maxHeartbeats 4000000 in
set_option maxRecDepth 100000 in
theorem arm_25 {Rl : RlT} (hRv : RlV Rl) (hs : sH_undo Rl)  {X : gX} {l : Launch} {E : gE} (C : gC X cL_law 9 RL (some .boolean) l E room_1) (hZ : gZ X.2.2.2.2.2.2.2.2.2.2.2.1 X.2.2.2.2.1 X.2.2.2.2.1.heap) (hNc : gNc X.2.2.2.2.1) {b0 L0 : Nat} {xs : Nat → Int32} (S : gS X b0 L0 xs) (hlt : l.stackTraces = false) {ax : Nat} {bo tr ac ah : Nat → Nat} {bd : Nat → Nat → Nat} {at_ am : Nat → Nat} {ao k n i : Nat} (hk : k + 3 ≤ 601024) (hn : n + 18 ≤ 7293034) (hi : i + 3 ≤ L0) {β τ γ η : BS} {σ : Nat → BS} {θ μ : BS} {o : Nat → Int64} (hR : Rl β η θ σ μ) (next : ∀ (β τ γ η : BS) (σ : Nat → BS) (θ μ : BS) (o : Nat → Int64), Rl β η θ σ μ → G X (k + 3) (n + 18) [wX ax (bo 0) (tr 0) (ac 0) (ah 0) (at_ 0), wB E bo β, wB E tr τ, wC E ac γ, wH E ah bd η, wT E at_ θ, wB E (bd 2) (σ 2), wB E (bd 3) (σ 3), wB E (bd 4) (σ 4), wB E (bd 5) (σ 5), wB E (bd 6) (σ 6), wB E (bd 7) (σ 7), wB E (bd 8) (σ 8), wB E (bd 9) (σ 9), wM E am μ, wO E ao o] [(0, .ref b0), (1, .ref ax), (2, .ref (am 0)), (3, .ref ao), (4, .int (nI i))] 3840 []) : G X k n [wX ax (bo 0) (tr 0) (ac 0) (ah 0) (at_ 0), wB E bo β, wB E tr τ, wC E ac γ, wH E ah bd η, wT E at_ θ, wB E (bd 2) (σ 2), wB E (bd 3) (σ 3), wB E (bd 4) (σ 4), wB E (bd 5) (σ 5), wB E (bd 6) (σ 6), wB E (bd 7) (σ 7), wB E (bd 8) (σ 8), wB E (bd 9) (σ 9), wM E am μ, wO E ao o] [(0, .ref b0), (1, .ref ax), (2, .ref (am 0)), (3, .ref ao), (4, .int (nI i))] 1666 [] := by
  obtain ⟨hvb, hvh, hvt, hvm, ha⟩ := hRv β η θ σ μ hR
  obtain ⟨hag, hR2⟩ := hs β τ γ η σ θ μ hR
  rcases hag with ⟨hr, ht⟩ | ⟨hr, ht⟩
  · skip
    refine g_aload_n C dL_law_1666 rfl 1 rfl ?_
    refine g_callSW C hZ hNc (z := 1) (cs1 := [wX ax (bo 0) (tr 0) (ac 0) (ah 0) (at_ 0), wB E bo ((fX6_undo β η σ).2.1), wB E tr τ, wC E ac γ, wH E ah bd ((fX6_undo β η σ).2.2), wT E at_ θ, wB E (bd 2) (σ 2), wB E (bd 3) (σ 3), wB E (bd 4) (σ 4), wB E (bd 5) (σ 5), wB E (bd 6) (σ 6), wB E (bd 7) (σ 7), wB E (bd 8) (σ 8), wB E (bd 9) (σ 9), wM E am μ, wO E ao o]) (st1 := [.int 0]) [.ref ax] [0, 1, 2, 3, 4, 5, 6, 7, 8, 9, 10, 11, 12, 13] (kL_undo_r l E ax bo β tr τ ac γ ah bd η σ at_ θ hlt hvb hvh  hr) q5_55 q1_0 (by decide +kernel) q5_54 q5_53 rfl ⟨Nat.le_of_ble_eq_true rfl, Nat.le_of_ble_eq_true rfl⟩ ⟨hk, hn⟩ (by decide) rfl rfl rfl rfl (Nat.le_of_ble_eq_true rfl) dL_law_1667 rfl ?_
    refine g_istore C (lv1 := [(5, .int 0), (0, .ref b0), (1, .ref ax), (2, .ref (am 0)), (3, .ref ao), (4, .int (nI i))]) dL_law_1670 (by decide) rfl ?_
    refine g_aload_n C dL_law_1672 rfl 3 rfl ?_
    refine g_callV C (cs1 := [wX ax (bo 0) (tr 0) (ac 0) (ah 0) (at_ 0), wB E bo ((fX6_undo β η σ).2.1), wB E tr τ, wC E ac γ, wH E ah bd ((fX6_undo β η σ).2.2), wT E at_ θ, wB E (bd 2) (σ 2), wB E (bd 3) (σ 3), wB E (bd 4) (σ 4), wB E (bd 5) (σ 5), wB E (bd 6) (σ 6), wB E (bd 7) (σ 7), wB E (bd 8) (σ 8), wB E (bd 9) (σ 9), wM E am (fX7_undo μ), wO E ao o]) (st1 := []) [] [14] (kX7_undo l E am μ hvm ) caX7_undo q7_131 rfl ⟨Nat.le_of_ble_eq_true rfl, Nat.le_of_ble_eq_true rfl⟩ ⟨hk, hn⟩ 14 0 rfl rfl rfl rfl (by decide) rfl rfl rfl rfl (Nat.le_of_ble_eq_true rfl) dL_law_1673 rfl ?_
    refine g_aload_n C dL_law_1676 rfl 3 rfl ?_
    refine g_callV C (cs1 := [wX ax (bo 0) (tr 0) (ac 0) (ah 0) (at_ 0), wB E bo ((fX6_undo β η σ).2.1), wB E tr τ, wC E ac γ, wH E ah bd ((fX6_undo β η σ).2.2), wT E at_ θ, wB E (bd 2) (σ 2), wB E (bd 3) (σ 3), wB E (bd 4) (σ 4), wB E (bd 5) (σ 5), wB E (bd 6) (σ 6), wB E (bd 7) (σ 7), wB E (bd 8) (σ 8), wB E (bd 9) (σ 9), wM E am (fX7_undo μ), wO E ao o]) (st1 := [.int (fX7_thrown (fX7_undo μ))]) [] [14] (kX7_thrown l E am (fX7_undo μ)) caX7_thrown q6_116 rfl ⟨Nat.le_of_ble_eq_true rfl, Nat.le_of_ble_eq_true rfl⟩ ⟨hk, hn⟩ 14 0 rfl rfl rfl rfl (by decide) rfl rfl rfl rfl (Nat.le_of_ble_eq_true rfl) dL_law_1677 rfl ?_
    refine g_iload C dL_law_1680 0 rfl ?_
    refine g_icmp_eq C 1687 dL_law_1682 (by decide) (fun _ => ?_) (fun c => absurd ht c)
    refine g_goto C 3840 dL_law_1687 (by decide) ?_
    exact g_sub [1, 2, 3, 4, 5] rfl (next ((fX6_undo β η σ).2.1) τ γ ((fX6_undo β η σ).2.2) σ θ (fX7_undo μ) o hR2)
  · skip
    refine g_aload_n C dL_law_1666 rfl 1 rfl ?_
    refine g_callSW C hZ hNc (z := 1) (cs1 := [wX ax (bo 0) (tr 0) (ac 0) (ah 0) (at_ 0), wB E bo ((fX6_undo β η σ).2.1), wB E tr τ, wC E ac γ, wH E ah bd ((fX6_undo β η σ).2.2), wT E at_ θ, wB E (bd 2) (σ 2), wB E (bd 3) (σ 3), wB E (bd 4) (σ 4), wB E (bd 5) (σ 5), wB E (bd 6) (σ 6), wB E (bd 7) (σ 7), wB E (bd 8) (σ 8), wB E (bd 9) (σ 9), wM E am μ, wO E ao o]) (st1 := [.int 1]) [.ref ax] [0, 1, 2, 3, 4, 5, 6, 7, 8, 9, 10, 11, 12, 13] (kL_undo_0 l E ax bo β tr τ ac γ ah bd η σ at_ θ hlt hvb hvh  hr) q5_55 q1_0 (by decide +kernel) q5_54 q5_53 rfl ⟨Nat.le_of_ble_eq_true rfl, Nat.le_of_ble_eq_true rfl⟩ ⟨hk, hn⟩ (by decide) rfl rfl rfl rfl (Nat.le_of_ble_eq_true rfl) dL_law_1667 rfl ?_
    refine g_istore C (lv1 := [(5, .int 1), (0, .ref b0), (1, .ref ax), (2, .ref (am 0)), (3, .ref ao), (4, .int (nI i))]) dL_law_1670 (by decide) rfl ?_
    refine g_aload_n C dL_law_1672 rfl 3 rfl ?_
    refine g_callV C (cs1 := [wX ax (bo 0) (tr 0) (ac 0) (ah 0) (at_ 0), wB E bo ((fX6_undo β η σ).2.1), wB E tr τ, wC E ac γ, wH E ah bd ((fX6_undo β η σ).2.2), wT E at_ θ, wB E (bd 2) (σ 2), wB E (bd 3) (σ 3), wB E (bd 4) (σ 4), wB E (bd 5) (σ 5), wB E (bd 6) (σ 6), wB E (bd 7) (σ 7), wB E (bd 8) (σ 8), wB E (bd 9) (σ 9), wM E am (fX7_undo μ), wO E ao o]) (st1 := []) [] [14] (kX7_undo l E am μ hvm ) caX7_undo q7_131 rfl ⟨Nat.le_of_ble_eq_true rfl, Nat.le_of_ble_eq_true rfl⟩ ⟨hk, hn⟩ 14 0 rfl rfl rfl rfl (by decide) rfl rfl rfl rfl (Nat.le_of_ble_eq_true rfl) dL_law_1673 rfl ?_
    refine g_aload_n C dL_law_1676 rfl 3 rfl ?_
    refine g_callV C (cs1 := [wX ax (bo 0) (tr 0) (ac 0) (ah 0) (at_ 0), wB E bo ((fX6_undo β η σ).2.1), wB E tr τ, wC E ac γ, wH E ah bd ((fX6_undo β η σ).2.2), wT E at_ θ, wB E (bd 2) (σ 2), wB E (bd 3) (σ 3), wB E (bd 4) (σ 4), wB E (bd 5) (σ 5), wB E (bd 6) (σ 6), wB E (bd 7) (σ 7), wB E (bd 8) (σ 8), wB E (bd 9) (σ 9), wM E am (fX7_undo μ), wO E ao o]) (st1 := [.int (fX7_thrown (fX7_undo μ))]) [] [14] (kX7_thrown l E am (fX7_undo μ)) caX7_thrown q6_116 rfl ⟨Nat.le_of_ble_eq_true rfl, Nat.le_of_ble_eq_true rfl⟩ ⟨hk, hn⟩ 14 0 rfl rfl rfl rfl (by decide) rfl rfl rfl rfl (Nat.le_of_ble_eq_true rfl) dL_law_1677 rfl ?_
    refine g_iload C dL_law_1680 0 rfl ?_
    refine g_icmp_eq C 1687 dL_law_1682 (by decide) (fun _ => ?_) (fun c => absurd ht c)
    refine g_goto C 3840 dL_law_1687 (by decide) ?_
    exact g_sub [1, 2, 3, 4, 5] rfl (next ((fX6_undo β η σ).2.1) τ γ ((fX6_undo β η σ).2.2) σ θ (fX7_undo μ) o hR2)
set_option maxHeartbeats 4000000 in
set_option maxRecDepth 100000 in
theorem arm_26 {Rl : RlT} (hRv : RlV Rl) (hs : sH_savedStates Rl)  {X : gX} {l : Launch} {E : gE} (C : gC X cL_law 9 RL (some .boolean) l E room_1) (hZ : gZ X.2.2.2.2.2.2.2.2.2.2.2.1 X.2.2.2.2.1 X.2.2.2.2.1.heap) (hNc : gNc X.2.2.2.2.1) {b0 L0 : Nat} {xs : Nat → Int32} (S : gS X b0 L0 xs) (hlt : l.stackTraces = false) {ax : Nat} {bo tr ac ah : Nat → Nat} {bd : Nat → Nat → Nat} {at_ am : Nat → Nat} {ao k n i : Nat} (hk : k + 3 ≤ 601024) (hn : n + 18 ≤ 7293034) (hi : i + 3 ≤ L0) {β τ γ η : BS} {σ : Nat → BS} {θ μ : BS} {o : Nat → Int64} (hR : Rl β η θ σ μ) (next : ∀ (β τ γ η : BS) (σ : Nat → BS) (θ μ : BS) (o : Nat → Int64), Rl β η θ σ μ → G X (k + 3) (n + 18) [wX ax (bo 0) (tr 0) (ac 0) (ah 0) (at_ 0), wB E bo β, wB E tr τ, wC E ac γ, wH E ah bd η, wT E at_ θ, wB E (bd 2) (σ 2), wB E (bd 3) (σ 3), wB E (bd 4) (σ 4), wB E (bd 5) (σ 5), wB E (bd 6) (σ 6), wB E (bd 7) (σ 7), wB E (bd 8) (σ 8), wB E (bd 9) (σ 9), wM E am μ, wO E ao o] [(0, .ref b0), (1, .ref ax), (2, .ref (am 0)), (3, .ref ao), (4, .int (nI i))] 3840 []) : G X k n [wX ax (bo 0) (tr 0) (ac 0) (ah 0) (at_ 0), wB E bo β, wB E tr τ, wC E ac γ, wH E ah bd η, wT E at_ θ, wB E (bd 2) (σ 2), wB E (bd 3) (σ 3), wB E (bd 4) (σ 4), wB E (bd 5) (σ 5), wB E (bd 6) (σ 6), wB E (bd 7) (σ 7), wB E (bd 8) (σ 8), wB E (bd 9) (σ 9), wM E am μ, wO E ao o] [(0, .ref b0), (1, .ref ax), (2, .ref (am 0)), (3, .ref ao), (4, .int (nI i))] 1690 [] := by
  obtain ⟨hvb, hvh, hvt, hvm, ha⟩ := hRv β η θ σ μ hR
  obtain ⟨hr, hR2⟩ := hs β τ γ η σ θ μ hR
  refine g_aload_n C dL_law_1690 rfl 1 rfl ?_
  refine g_callV C (cs1 := [wX ax (bo 0) (tr 0) (ac 0) (ah 0) (at_ 0), wB E bo β, wB E tr τ, wC E ac γ, wH E ah bd η, wT E at_ θ, wB E (bd 2) (σ 2), wB E (bd 3) (σ 3), wB E (bd 4) (σ 4), wB E (bd 5) (σ 5), wB E (bd 6) (σ 6), wB E (bd 7) (σ 7), wB E (bd 8) (σ 8), wB E (bd 9) (σ 9), wM E am μ, wO E ao o]) (st1 := [.int (fX6_savedStates η)]) [] [0, 1, 2, 3, 4, 5, 6, 7, 8, 9, 10, 11, 12, 13] (kX6_savedStates l E ax bo β tr τ ac γ ah bd η σ at_ θ ) caX6_savedStates q2_20 rfl ⟨Nat.le_of_ble_eq_true rfl, Nat.le_of_ble_eq_true rfl⟩ ⟨Nat.le_of_succ_le (Nat.le_of_succ_le (Nat.le_of_succ_le hk)), Nat.le_trans (Nat.le_add_right _ _) hn⟩ 0 0 rfl rfl rfl rfl (by decide) rfl rfl rfl rfl (Nat.le_of_ble_eq_true rfl) dL_law_1691 rfl ?_
  refine g_aload_n C dL_law_1694 rfl 2 rfl ?_
  refine g_callV C (cs1 := [wX ax (bo 0) (tr 0) (ac 0) (ah 0) (at_ 0), wB E bo β, wB E tr τ, wC E ac γ, wH E ah bd η, wT E at_ θ, wB E (bd 2) (σ 2), wB E (bd 3) (σ 3), wB E (bd 4) (σ 4), wB E (bd 5) (σ 5), wB E (bd 6) (σ 6), wB E (bd 7) (σ 7), wB E (bd 8) (σ 8), wB E (bd 9) (σ 9), wM E am ((fX7_savedStates μ).2), wO E ao o]) (st1 := [.int ((fX7_savedStates μ).1), .int (fX6_savedStates η)]) [] [14] (kX7_savedStates l E am μ  ) caX7_savedStates q7_135 rfl ⟨Nat.le_of_ble_eq_true rfl, Nat.le_of_ble_eq_true rfl⟩ ⟨Nat.le_of_succ_le (Nat.le_of_succ_le (Nat.le_of_succ_le hk)), Nat.le_trans (Nat.le_add_right _ _) hn⟩ 14 0 rfl rfl rfl rfl (by decide) rfl rfl rfl rfl (Nat.le_of_ble_eq_true rfl) dL_law_1695 rfl ?_
  refine g_icmp_eq C 3840 dL_law_1698 (by decide) (fun _ => ?_) (fun c => absurd hr c)
  refine g_widen (k1 := k + 3) (n1 := n + 18) (Nat.le_add_right _ _) (Nat.le_add_right _ _) ?_
  exact g_sub [0, 1, 2, 3, 4] rfl (next β τ γ η σ θ ((fX7_savedStates μ).2) o hR2)
set_option maxHeartbeats 4000000 in
set_option maxRecDepth 100000 in
theorem arm_27 {Rl : RlT} (hRv : RlV Rl) (hs : sH_tickets Rl)  {X : gX} {l : Launch} {E : gE} (C : gC X cL_law 9 RL (some .boolean) l E room_1) (hZ : gZ X.2.2.2.2.2.2.2.2.2.2.2.1 X.2.2.2.2.1 X.2.2.2.2.1.heap) (hNc : gNc X.2.2.2.2.1) {b0 L0 : Nat} {xs : Nat → Int32} (S : gS X b0 L0 xs) (hlt : l.stackTraces = false) {ax : Nat} {bo tr ac ah : Nat → Nat} {bd : Nat → Nat → Nat} {at_ am : Nat → Nat} {ao k n i : Nat} (hk : k + 3 ≤ 601024) (hn : n + 18 ≤ 7293034) (hi : i + 3 ≤ L0) {β τ γ η : BS} {σ : Nat → BS} {θ μ : BS} {o : Nat → Int64} (hR : Rl β η θ σ μ) (next : ∀ (β τ γ η : BS) (σ : Nat → BS) (θ μ : BS) (o : Nat → Int64), Rl β η θ σ μ → G X (k + 3) (n + 18) [wX ax (bo 0) (tr 0) (ac 0) (ah 0) (at_ 0), wB E bo β, wB E tr τ, wC E ac γ, wH E ah bd η, wT E at_ θ, wB E (bd 2) (σ 2), wB E (bd 3) (σ 3), wB E (bd 4) (σ 4), wB E (bd 5) (σ 5), wB E (bd 6) (σ 6), wB E (bd 7) (σ 7), wB E (bd 8) (σ 8), wB E (bd 9) (σ 9), wM E am μ, wO E ao o] [(0, .ref b0), (1, .ref ax), (2, .ref (am 0)), (3, .ref ao), (4, .int (nI i))] 3840 []) : G X k n [wX ax (bo 0) (tr 0) (ac 0) (ah 0) (at_ 0), wB E bo β, wB E tr τ, wC E ac γ, wH E ah bd η, wT E at_ θ, wB E (bd 2) (σ 2), wB E (bd 3) (σ 3), wB E (bd 4) (σ 4), wB E (bd 5) (σ 5), wB E (bd 6) (σ 6), wB E (bd 7) (σ 7), wB E (bd 8) (σ 8), wB E (bd 9) (σ 9), wM E am μ, wO E ao o] [(0, .ref b0), (1, .ref ax), (2, .ref (am 0)), (3, .ref ao), (4, .int (nI i))] 1703 [] := by
  obtain ⟨hvb, hvh, hvt, hvm, ha⟩ := hRv β η θ σ μ hR
  obtain ⟨hr, hR2⟩ := hs β τ γ η σ θ μ hR
  refine g_aload_n C dL_law_1703 rfl 1 rfl ?_
  refine g_callV C (cs1 := [wX ax (bo 0) (tr 0) (ac 0) (ah 0) (at_ 0), wB E bo β, wB E tr τ, wC E ac γ, wH E ah bd η, wT E at_ θ, wB E (bd 2) (σ 2), wB E (bd 3) (σ 3), wB E (bd 4) (σ 4), wB E (bd 5) (σ 5), wB E (bd 6) (σ 6), wB E (bd 7) (σ 7), wB E (bd 8) (σ 8), wB E (bd 9) (σ 9), wM E am μ, wO E ao o]) (st1 := [.int (fX6_tickets β)]) [] [0, 1, 2, 3, 4, 5, 6, 7, 8, 9, 10, 11, 12, 13] (kX6_tickets l E ax bo β tr τ ac γ ah bd η σ at_ θ ) caX6_tickets q2_28 rfl ⟨Nat.le_of_ble_eq_true rfl, Nat.le_of_ble_eq_true rfl⟩ ⟨Nat.le_of_succ_le (Nat.le_of_succ_le (Nat.le_of_succ_le hk)), Nat.le_trans (Nat.le_add_right _ _) hn⟩ 0 0 rfl rfl rfl rfl (by decide) rfl rfl rfl rfl (Nat.le_of_ble_eq_true rfl) dL_law_1704 rfl ?_
  refine g_aload_n C dL_law_1707 rfl 2 rfl ?_
  refine g_callV C (cs1 := [wX ax (bo 0) (tr 0) (ac 0) (ah 0) (at_ 0), wB E bo β, wB E tr τ, wC E ac γ, wH E ah bd η, wT E at_ θ, wB E (bd 2) (σ 2), wB E (bd 3) (σ 3), wB E (bd 4) (σ 4), wB E (bd 5) (σ 5), wB E (bd 6) (σ 6), wB E (bd 7) (σ 7), wB E (bd 8) (σ 8), wB E (bd 9) (σ 9), wM E am ((fX7_tickets μ).2), wO E ao o]) (st1 := [.int ((fX7_tickets μ).1), .int (fX6_tickets β)]) [] [14] (kX7_tickets l E am μ  ) caX7_tickets q7_139 rfl ⟨Nat.le_of_ble_eq_true rfl, Nat.le_of_ble_eq_true rfl⟩ ⟨Nat.le_of_succ_le (Nat.le_of_succ_le (Nat.le_of_succ_le hk)), Nat.le_trans (Nat.le_add_right _ _) hn⟩ 14 0 rfl rfl rfl rfl (by decide) rfl rfl rfl rfl (Nat.le_of_ble_eq_true rfl) dL_law_1708 rfl ?_
  refine g_icmp_eq C 3840 dL_law_1711 (by decide) (fun _ => ?_) (fun c => absurd hr c)
  refine g_widen (k1 := k + 3) (n1 := n + 18) (Nat.le_add_right _ _) (Nat.le_add_right _ _) ?_
  exact g_sub [0, 1, 2, 3, 4] rfl (next β τ γ η σ θ ((fX7_tickets μ).2) o hR2)
set_option maxHeartbeats 4000000 in
set_option maxRecDepth 100000 in
theorem arm_28 {Rl : RlT} (hRv : RlV Rl) (hs : sH_stateOf Rl)  {X : gX} {l : Launch} {E : gE} (C : gC X cL_law 9 RL (some .boolean) l E room_1) (hZ : gZ X.2.2.2.2.2.2.2.2.2.2.2.1 X.2.2.2.2.1 X.2.2.2.2.1.heap) (hNc : gNc X.2.2.2.2.1) {b0 L0 : Nat} {xs : Nat → Int32} (S : gS X b0 L0 xs) (hlt : l.stackTraces = false) {ax : Nat} {bo tr ac ah : Nat → Nat} {bd : Nat → Nat → Nat} {at_ am : Nat → Nat} {ao k n i : Nat} (hk : k + 3 ≤ 601024) (hn : n + 18 ≤ 7293034) (hi : i + 3 ≤ L0) {β τ γ η : BS} {σ : Nat → BS} {θ μ : BS} {o : Nat → Int64} (hR : Rl β η θ σ μ) (next : ∀ (β τ γ η : BS) (σ : Nat → BS) (θ μ : BS) (o : Nat → Int64), Rl β η θ σ μ → G X (k + 3) (n + 18) [wX ax (bo 0) (tr 0) (ac 0) (ah 0) (at_ 0), wB E bo β, wB E tr τ, wC E ac γ, wH E ah bd η, wT E at_ θ, wB E (bd 2) (σ 2), wB E (bd 3) (σ 3), wB E (bd 4) (σ 4), wB E (bd 5) (σ 5), wB E (bd 6) (σ 6), wB E (bd 7) (σ 7), wB E (bd 8) (σ 8), wB E (bd 9) (σ 9), wM E am μ, wO E ao o] [(0, .ref b0), (1, .ref ax), (2, .ref (am 0)), (3, .ref ao), (4, .int (nI i))] 3840 []) : G X k n [wX ax (bo 0) (tr 0) (ac 0) (ah 0) (at_ 0), wB E bo β, wB E tr τ, wC E ac γ, wH E ah bd η, wT E at_ θ, wB E (bd 2) (σ 2), wB E (bd 3) (σ 3), wB E (bd 4) (σ 4), wB E (bd 5) (σ 5), wB E (bd 6) (σ 6), wB E (bd 7) (σ 7), wB E (bd 8) (σ 8), wB E (bd 9) (σ 9), wM E am μ, wO E ao o] [(0, .ref b0), (1, .ref ax), (2, .ref (am 0)), (3, .ref ao), (4, .int (nI i))] 1716 [] := by
  obtain ⟨hvb, hvh, hvt, hvm, ha⟩ := hRv β η θ σ μ hR
  obtain ⟨a, ha9⟩ : ∃ a, xs (i + 1) = a := ⟨_, rfl⟩
  obtain ⟨hag, hR2⟩ := hs β τ γ η σ θ μ a hR
  rcases hag with ⟨hr, ht⟩ | ⟨hr, ht⟩
  · skip
    refine g_aload_n C dL_law_1716 rfl 1 rfl ?_
    refine g_aload_n C dL_law_1717 rfl 0 rfl ?_
    refine g_iload C dL_law_1718 4 rfl ?_
    refine g_iconst C (v := 1) dL_law_1720 (by decide) ?_
    refine g_iadd C dL_law_1721 ?_
    refine g_sldv C S (i + 1) (nx_add (rfl : nI i = nI i) (rfl : (1 : Int32) = nI 1)) (by omega) ha9 dL_law_1722 ?_
    refine g_aload_n C dL_law_1723 rfl 3 rfl ?_
    refine g_callSW C hZ hNc (z := 3) (cs1 := [wX ax (bo 0) (tr 0) (ac 0) (ah 0) (at_ 0), wB E bo β, wB E tr τ, wC E ac γ, wH E ah bd η, wT E at_ θ, wB E (bd 2) (σ 2), wB E (bd 3) (σ 3), wB E (bd 4) (σ 4), wB E (bd 5) (σ 5), wB E (bd 6) (σ 6), wB E (bd 7) (σ 7), wB E (bd 8) (σ 8), wB E (bd 9) (σ 9), wM E am μ, wO E ao (vp_updL o 0 ((fX7_stateOf μ a).1).toInt64)]) (st1 := [.int 0]) [.ref ax, .int a, .ref ao] [0, 1, 2, 3, 4, 5, 6, 7, 8, 9, 10, 11, 12, 13, 15] (kL_stateOf_r l E ax bo β tr τ ac γ ah bd η σ at_ θ ao o hlt hvb a ((fX7_stateOf μ a).1) hr) q5_66 q1_0 (by decide +kernel) q5_65 q5_64 rfl ⟨Nat.le_of_ble_eq_true rfl, Nat.le_of_ble_eq_true rfl⟩ ⟨hk, hn⟩ (by decide) rfl rfl rfl rfl (Nat.le_of_ble_eq_true rfl) dL_law_1724 rfl ?_
    refine g_istore C (lv1 := [(5, .int 0), (0, .ref b0), (1, .ref ax), (2, .ref (am 0)), (3, .ref ao), (4, .int (nI i))]) dL_law_1727 (by decide) rfl ?_
    refine g_aload_n C dL_law_1729 rfl 3 rfl ?_
    refine g_aload_n C dL_law_1730 rfl 1 rfl ?_
    refine g_iload C dL_law_1731 5 rfl ?_
    refine g_iconst C (v := 1) dL_law_1733 (by decide) ?_
    refine g_iadd C dL_law_1734 ?_
    refine g_sldv C S (i + 1) (nx_add (rfl : nI i = nI i) (rfl : (1 : Int32) = nI 1)) (by omega) ha9 dL_law_1735 ?_
    refine g_callV C (cs1 := [wX ax (bo 0) (tr 0) (ac 0) (ah 0) (at_ 0), wB E bo β, wB E tr τ, wC E ac γ, wH E ah bd η, wT E at_ θ, wB E (bd 2) (σ 2), wB E (bd 3) (σ 3), wB E (bd 4) (σ 4), wB E (bd 5) (σ 5), wB E (bd 6) (σ 6), wB E (bd 7) (σ 7), wB E (bd 8) (σ 8), wB E (bd 9) (σ 9), wM E am ((fX7_stateOf μ a).2), wO E ao (vp_updL o 0 ((fX7_stateOf μ a).1).toInt64)]) (st1 := [.int ((fX7_stateOf μ a).1)]) [.int a] [14] (kX7_stateOf l E am μ hvm a) caX7_stateOf q7_143 rfl ⟨Nat.le_of_ble_eq_true rfl, Nat.le_of_ble_eq_true rfl⟩ ⟨hk, hn⟩ 14 0 rfl rfl rfl rfl (by decide) rfl rfl rfl rfl (Nat.le_of_ble_eq_true rfl) dL_law_1736 rfl ?_
    refine g_istore C (lv1 := [(6, .int ((fX7_stateOf μ a).1)), (5, .int 0), (0, .ref b0), (1, .ref ax), (2, .ref (am 0)), (3, .ref ao), (4, .int (nI i))]) dL_law_1739 (by decide) rfl ?_
    refine g_aload_n C dL_law_1741 rfl 4 rfl ?_
    refine g_callV C (cs1 := [wX ax (bo 0) (tr 0) (ac 0) (ah 0) (at_ 0), wB E bo β, wB E tr τ, wC E ac γ, wH E ah bd η, wT E at_ θ, wB E (bd 2) (σ 2), wB E (bd 3) (σ 3), wB E (bd 4) (σ 4), wB E (bd 5) (σ 5), wB E (bd 6) (σ 6), wB E (bd 7) (σ 7), wB E (bd 8) (σ 8), wB E (bd 9) (σ 9), wM E am ((fX7_stateOf μ a).2), wO E ao (vp_updL o 0 ((fX7_stateOf μ a).1).toInt64)]) (st1 := [.int (fX7_thrown ((fX7_stateOf μ a).2))]) [] [14] (kX7_thrown l E am ((fX7_stateOf μ a).2)) caX7_thrown q6_116 rfl ⟨Nat.le_of_ble_eq_true rfl, Nat.le_of_ble_eq_true rfl⟩ ⟨hk, hn⟩ 14 0 rfl rfl rfl rfl (by decide) rfl rfl rfl rfl (Nat.le_of_ble_eq_true rfl) dL_law_1742 rfl ?_
    refine g_iload C dL_law_1745 1 rfl ?_
    refine g_icmp_eq C 1752 dL_law_1747 (by decide) (fun _ => ?_) (fun c => absurd ht c)
    refine g_iload C dL_law_1752 1 rfl ?_
    refine g_if_ne C 1769 dL_law_1754 (by decide) (fun c => absurd rfl c) (fun _ => ?_)
    refine g_aload_n C dL_law_1757 rfl 5 rfl ?_
    refine g_iconst C (v := 0) dL_law_1758 (by decide) ?_
    refine g_laldn C 15 0 0 rfl rfl rfl (by decide) (by decide) dL_law_1759 ?_
    refine g_iload C dL_law_1760 0 rfl ?_
    refine g_i2l C dL_law_1762 ?_
    refine g_lcmp C dL_law_1763 ?_
    refine g_if_eq C 1769 dL_law_1764 (by decide) (fun _ => ?_) (fun c => absurd law_cmp c)
    refine g_goto C 3840 dL_law_1769 (by decide) ?_
    exact g_sub [2, 3, 4, 5, 6] rfl (next β τ γ η σ θ ((fX7_stateOf μ a).2) (vp_updL o 0 ((fX7_stateOf μ a).1).toInt64) hR2)
  · skip
    refine g_aload_n C dL_law_1716 rfl 1 rfl ?_
    refine g_aload_n C dL_law_1717 rfl 0 rfl ?_
    refine g_iload C dL_law_1718 4 rfl ?_
    refine g_iconst C (v := 1) dL_law_1720 (by decide) ?_
    refine g_iadd C dL_law_1721 ?_
    refine g_sldv C S (i + 1) (nx_add (rfl : nI i = nI i) (rfl : (1 : Int32) = nI 1)) (by omega) ha9 dL_law_1722 ?_
    refine g_aload_n C dL_law_1723 rfl 3 rfl ?_
    refine g_callSW C hZ hNc (z := 3) (cs1 := [wX ax (bo 0) (tr 0) (ac 0) (ah 0) (at_ 0), wB E bo β, wB E tr τ, wC E ac γ, wH E ah bd η, wT E at_ θ, wB E (bd 2) (σ 2), wB E (bd 3) (σ 3), wB E (bd 4) (σ 4), wB E (bd 5) (σ 5), wB E (bd 6) (σ 6), wB E (bd 7) (σ 7), wB E (bd 8) (σ 8), wB E (bd 9) (σ 9), wM E am μ, wO E ao o]) (st1 := [.int 1]) [.ref ax, .int a, .ref ao] [0, 1, 2, 3, 4, 5, 6, 7, 8, 9, 10, 11, 12, 13, 15] (kL_stateOf_0 l E ax bo β tr τ ac γ ah bd η σ at_ θ ao o hlt hvb a hr) q5_66 q1_0 (by decide +kernel) q5_65 q5_64 rfl ⟨Nat.le_of_ble_eq_true rfl, Nat.le_of_ble_eq_true rfl⟩ ⟨hk, hn⟩ (by decide) rfl rfl rfl rfl (Nat.le_of_ble_eq_true rfl) dL_law_1724 rfl ?_
    refine g_istore C (lv1 := [(5, .int 1), (0, .ref b0), (1, .ref ax), (2, .ref (am 0)), (3, .ref ao), (4, .int (nI i))]) dL_law_1727 (by decide) rfl ?_
    refine g_aload_n C dL_law_1729 rfl 3 rfl ?_
    refine g_aload_n C dL_law_1730 rfl 1 rfl ?_
    refine g_iload C dL_law_1731 5 rfl ?_
    refine g_iconst C (v := 1) dL_law_1733 (by decide) ?_
    refine g_iadd C dL_law_1734 ?_
    refine g_sldv C S (i + 1) (nx_add (rfl : nI i = nI i) (rfl : (1 : Int32) = nI 1)) (by omega) ha9 dL_law_1735 ?_
    refine g_callV C (cs1 := [wX ax (bo 0) (tr 0) (ac 0) (ah 0) (at_ 0), wB E bo β, wB E tr τ, wC E ac γ, wH E ah bd η, wT E at_ θ, wB E (bd 2) (σ 2), wB E (bd 3) (σ 3), wB E (bd 4) (σ 4), wB E (bd 5) (σ 5), wB E (bd 6) (σ 6), wB E (bd 7) (σ 7), wB E (bd 8) (σ 8), wB E (bd 9) (σ 9), wM E am ((fX7_stateOf μ a).2), wO E ao o]) (st1 := [.int ((fX7_stateOf μ a).1)]) [.int a] [14] (kX7_stateOf l E am μ hvm a) caX7_stateOf q7_143 rfl ⟨Nat.le_of_ble_eq_true rfl, Nat.le_of_ble_eq_true rfl⟩ ⟨hk, hn⟩ 14 0 rfl rfl rfl rfl (by decide) rfl rfl rfl rfl (Nat.le_of_ble_eq_true rfl) dL_law_1736 rfl ?_
    refine g_istore C (lv1 := [(6, .int ((fX7_stateOf μ a).1)), (5, .int 1), (0, .ref b0), (1, .ref ax), (2, .ref (am 0)), (3, .ref ao), (4, .int (nI i))]) dL_law_1739 (by decide) rfl ?_
    refine g_aload_n C dL_law_1741 rfl 4 rfl ?_
    refine g_callV C (cs1 := [wX ax (bo 0) (tr 0) (ac 0) (ah 0) (at_ 0), wB E bo β, wB E tr τ, wC E ac γ, wH E ah bd η, wT E at_ θ, wB E (bd 2) (σ 2), wB E (bd 3) (σ 3), wB E (bd 4) (σ 4), wB E (bd 5) (σ 5), wB E (bd 6) (σ 6), wB E (bd 7) (σ 7), wB E (bd 8) (σ 8), wB E (bd 9) (σ 9), wM E am ((fX7_stateOf μ a).2), wO E ao o]) (st1 := [.int (fX7_thrown ((fX7_stateOf μ a).2))]) [] [14] (kX7_thrown l E am ((fX7_stateOf μ a).2)) caX7_thrown q6_116 rfl ⟨Nat.le_of_ble_eq_true rfl, Nat.le_of_ble_eq_true rfl⟩ ⟨hk, hn⟩ 14 0 rfl rfl rfl rfl (by decide) rfl rfl rfl rfl (Nat.le_of_ble_eq_true rfl) dL_law_1742 rfl ?_
    refine g_iload C dL_law_1745 1 rfl ?_
    refine g_icmp_eq C 1752 dL_law_1747 (by decide) (fun _ => ?_) (fun c => absurd ht c)
    refine g_iload C dL_law_1752 1 rfl ?_
    refine g_if_ne C 1769 dL_law_1754 (by decide) (fun _ => ?_) (fun c => absurd c (by decide))
    refine g_goto C 3840 dL_law_1769 (by decide) ?_
    exact g_sub [2, 3, 4, 5, 6] rfl (next β τ γ η σ θ ((fX7_stateOf μ a).2) o hR2)
set_option maxHeartbeats 4000000 in
set_option maxRecDepth 100000 in
theorem arm_29 {Rl : RlT} (hRv : RlV Rl) (hs : sH_pointsOf Rl)  {X : gX} {l : Launch} {E : gE} (C : gC X cL_law 9 RL (some .boolean) l E room_1) (hZ : gZ X.2.2.2.2.2.2.2.2.2.2.2.1 X.2.2.2.2.1 X.2.2.2.2.1.heap) (hNc : gNc X.2.2.2.2.1) {b0 L0 : Nat} {xs : Nat → Int32} (S : gS X b0 L0 xs) (hlt : l.stackTraces = false) {ax : Nat} {bo tr ac ah : Nat → Nat} {bd : Nat → Nat → Nat} {at_ am : Nat → Nat} {ao k n i : Nat} (hk : k + 3 ≤ 601024) (hn : n + 18 ≤ 7293034) (hi : i + 3 ≤ L0) {β τ γ η : BS} {σ : Nat → BS} {θ μ : BS} {o : Nat → Int64} (hR : Rl β η θ σ μ) (next : ∀ (β τ γ η : BS) (σ : Nat → BS) (θ μ : BS) (o : Nat → Int64), Rl β η θ σ μ → G X (k + 3) (n + 18) [wX ax (bo 0) (tr 0) (ac 0) (ah 0) (at_ 0), wB E bo β, wB E tr τ, wC E ac γ, wH E ah bd η, wT E at_ θ, wB E (bd 2) (σ 2), wB E (bd 3) (σ 3), wB E (bd 4) (σ 4), wB E (bd 5) (σ 5), wB E (bd 6) (σ 6), wB E (bd 7) (σ 7), wB E (bd 8) (σ 8), wB E (bd 9) (σ 9), wM E am μ, wO E ao o] [(0, .ref b0), (1, .ref ax), (2, .ref (am 0)), (3, .ref ao), (4, .int (nI i))] 3840 []) : G X k n [wX ax (bo 0) (tr 0) (ac 0) (ah 0) (at_ 0), wB E bo β, wB E tr τ, wC E ac γ, wH E ah bd η, wT E at_ θ, wB E (bd 2) (σ 2), wB E (bd 3) (σ 3), wB E (bd 4) (σ 4), wB E (bd 5) (σ 5), wB E (bd 6) (σ 6), wB E (bd 7) (σ 7), wB E (bd 8) (σ 8), wB E (bd 9) (σ 9), wM E am μ, wO E ao o] [(0, .ref b0), (1, .ref ax), (2, .ref (am 0)), (3, .ref ao), (4, .int (nI i))] 1772 [] := by
  obtain ⟨hvb, hvh, hvt, hvm, ha⟩ := hRv β η θ σ μ hR
  obtain ⟨a, ha9⟩ : ∃ a, xs (i + 1) = a := ⟨_, rfl⟩
  obtain ⟨hag, hR2⟩ := hs β τ γ η σ θ μ a hR
  rcases hag with ⟨hr, ht⟩ | ⟨hr, ht⟩
  · skip
    refine g_aload_n C dL_law_1772 rfl 1 rfl ?_
    refine g_aload_n C dL_law_1773 rfl 0 rfl ?_
    refine g_iload C dL_law_1774 4 rfl ?_
    refine g_iconst C (v := 1) dL_law_1776 (by decide) ?_
    refine g_iadd C dL_law_1777 ?_
    refine g_sldv C S (i + 1) (nx_add (rfl : nI i = nI i) (rfl : (1 : Int32) = nI 1)) (by omega) ha9 dL_law_1778 ?_
    refine g_aload_n C dL_law_1779 rfl 3 rfl ?_
    refine g_callSW C hZ hNc (z := 3) (cs1 := [wX ax (bo 0) (tr 0) (ac 0) (ah 0) (at_ 0), wB E bo β, wB E tr τ, wC E ac γ, wH E ah bd η, wT E at_ θ, wB E (bd 2) (σ 2), wB E (bd 3) (σ 3), wB E (bd 4) (σ 4), wB E (bd 5) (σ 5), wB E (bd 6) (σ 6), wB E (bd 7) (σ 7), wB E (bd 8) (σ 8), wB E (bd 9) (σ 9), wM E am μ, wO E ao (vp_updL o 0 ((fX7_pointsOf μ a).1).toInt64)]) (st1 := [.int 0]) [.ref ax, .int a, .ref ao] [0, 1, 2, 3, 4, 5, 6, 7, 8, 9, 10, 11, 12, 13, 15] (kL_pointsOf_r l E ax bo β tr τ ac γ ah bd η σ at_ θ ao o hlt hvb a ((fX7_pointsOf μ a).1) hr) q5_73 q1_0 (by decide +kernel) q5_72 q5_71 rfl ⟨Nat.le_of_ble_eq_true rfl, Nat.le_of_ble_eq_true rfl⟩ ⟨hk, hn⟩ (by decide) rfl rfl rfl rfl (Nat.le_of_ble_eq_true rfl) dL_law_1780 rfl ?_
    refine g_istore C (lv1 := [(5, .int 0), (0, .ref b0), (1, .ref ax), (2, .ref (am 0)), (3, .ref ao), (4, .int (nI i))]) dL_law_1783 (by decide) rfl ?_
    refine g_aload_n C dL_law_1785 rfl 3 rfl ?_
    refine g_aload_n C dL_law_1786 rfl 1 rfl ?_
    refine g_iload C dL_law_1787 5 rfl ?_
    refine g_iconst C (v := 1) dL_law_1789 (by decide) ?_
    refine g_iadd C dL_law_1790 ?_
    refine g_sldv C S (i + 1) (nx_add (rfl : nI i = nI i) (rfl : (1 : Int32) = nI 1)) (by omega) ha9 dL_law_1791 ?_
    refine g_callV C (cs1 := [wX ax (bo 0) (tr 0) (ac 0) (ah 0) (at_ 0), wB E bo β, wB E tr τ, wC E ac γ, wH E ah bd η, wT E at_ θ, wB E (bd 2) (σ 2), wB E (bd 3) (σ 3), wB E (bd 4) (σ 4), wB E (bd 5) (σ 5), wB E (bd 6) (σ 6), wB E (bd 7) (σ 7), wB E (bd 8) (σ 8), wB E (bd 9) (σ 9), wM E am ((fX7_pointsOf μ a).2), wO E ao (vp_updL o 0 ((fX7_pointsOf μ a).1).toInt64)]) (st1 := [.int ((fX7_pointsOf μ a).1)]) [.int a] [14] (kX7_pointsOf l E am μ hvm a) caX7_pointsOf q7_151 rfl ⟨Nat.le_of_ble_eq_true rfl, Nat.le_of_ble_eq_true rfl⟩ ⟨hk, hn⟩ 14 0 rfl rfl rfl rfl (by decide) rfl rfl rfl rfl (Nat.le_of_ble_eq_true rfl) dL_law_1792 rfl ?_
    refine g_istore C (lv1 := [(6, .int ((fX7_pointsOf μ a).1)), (5, .int 0), (0, .ref b0), (1, .ref ax), (2, .ref (am 0)), (3, .ref ao), (4, .int (nI i))]) dL_law_1795 (by decide) rfl ?_
    refine g_aload_n C dL_law_1797 rfl 4 rfl ?_
    refine g_callV C (cs1 := [wX ax (bo 0) (tr 0) (ac 0) (ah 0) (at_ 0), wB E bo β, wB E tr τ, wC E ac γ, wH E ah bd η, wT E at_ θ, wB E (bd 2) (σ 2), wB E (bd 3) (σ 3), wB E (bd 4) (σ 4), wB E (bd 5) (σ 5), wB E (bd 6) (σ 6), wB E (bd 7) (σ 7), wB E (bd 8) (σ 8), wB E (bd 9) (σ 9), wM E am ((fX7_pointsOf μ a).2), wO E ao (vp_updL o 0 ((fX7_pointsOf μ a).1).toInt64)]) (st1 := [.int (fX7_thrown ((fX7_pointsOf μ a).2))]) [] [14] (kX7_thrown l E am ((fX7_pointsOf μ a).2)) caX7_thrown q6_116 rfl ⟨Nat.le_of_ble_eq_true rfl, Nat.le_of_ble_eq_true rfl⟩ ⟨hk, hn⟩ 14 0 rfl rfl rfl rfl (by decide) rfl rfl rfl rfl (Nat.le_of_ble_eq_true rfl) dL_law_1798 rfl ?_
    refine g_iload C dL_law_1801 1 rfl ?_
    refine g_icmp_eq C 1808 dL_law_1803 (by decide) (fun _ => ?_) (fun c => absurd ht c)
    refine g_iload C dL_law_1808 1 rfl ?_
    refine g_if_ne C 1825 dL_law_1810 (by decide) (fun c => absurd rfl c) (fun _ => ?_)
    refine g_aload_n C dL_law_1813 rfl 5 rfl ?_
    refine g_iconst C (v := 0) dL_law_1814 (by decide) ?_
    refine g_laldn C 15 0 0 rfl rfl rfl (by decide) (by decide) dL_law_1815 ?_
    refine g_iload C dL_law_1816 0 rfl ?_
    refine g_i2l C dL_law_1818 ?_
    refine g_lcmp C dL_law_1819 ?_
    refine g_if_eq C 1825 dL_law_1820 (by decide) (fun _ => ?_) (fun c => absurd law_cmp c)
    refine g_goto C 3840 dL_law_1825 (by decide) ?_
    exact g_sub [2, 3, 4, 5, 6] rfl (next β τ γ η σ θ ((fX7_pointsOf μ a).2) (vp_updL o 0 ((fX7_pointsOf μ a).1).toInt64) hR2)
  · skip
    refine g_aload_n C dL_law_1772 rfl 1 rfl ?_
    refine g_aload_n C dL_law_1773 rfl 0 rfl ?_
    refine g_iload C dL_law_1774 4 rfl ?_
    refine g_iconst C (v := 1) dL_law_1776 (by decide) ?_
    refine g_iadd C dL_law_1777 ?_
    refine g_sldv C S (i + 1) (nx_add (rfl : nI i = nI i) (rfl : (1 : Int32) = nI 1)) (by omega) ha9 dL_law_1778 ?_
    refine g_aload_n C dL_law_1779 rfl 3 rfl ?_
    refine g_callSW C hZ hNc (z := 3) (cs1 := [wX ax (bo 0) (tr 0) (ac 0) (ah 0) (at_ 0), wB E bo β, wB E tr τ, wC E ac γ, wH E ah bd η, wT E at_ θ, wB E (bd 2) (σ 2), wB E (bd 3) (σ 3), wB E (bd 4) (σ 4), wB E (bd 5) (σ 5), wB E (bd 6) (σ 6), wB E (bd 7) (σ 7), wB E (bd 8) (σ 8), wB E (bd 9) (σ 9), wM E am μ, wO E ao o]) (st1 := [.int 1]) [.ref ax, .int a, .ref ao] [0, 1, 2, 3, 4, 5, 6, 7, 8, 9, 10, 11, 12, 13, 15] (kL_pointsOf_0 l E ax bo β tr τ ac γ ah bd η σ at_ θ ao o hlt hvb a hr) q5_73 q1_0 (by decide +kernel) q5_72 q5_71 rfl ⟨Nat.le_of_ble_eq_true rfl, Nat.le_of_ble_eq_true rfl⟩ ⟨hk, hn⟩ (by decide) rfl rfl rfl rfl (Nat.le_of_ble_eq_true rfl) dL_law_1780 rfl ?_
    refine g_istore C (lv1 := [(5, .int 1), (0, .ref b0), (1, .ref ax), (2, .ref (am 0)), (3, .ref ao), (4, .int (nI i))]) dL_law_1783 (by decide) rfl ?_
    refine g_aload_n C dL_law_1785 rfl 3 rfl ?_
    refine g_aload_n C dL_law_1786 rfl 1 rfl ?_
    refine g_iload C dL_law_1787 5 rfl ?_
    refine g_iconst C (v := 1) dL_law_1789 (by decide) ?_
    refine g_iadd C dL_law_1790 ?_
    refine g_sldv C S (i + 1) (nx_add (rfl : nI i = nI i) (rfl : (1 : Int32) = nI 1)) (by omega) ha9 dL_law_1791 ?_
    refine g_callV C (cs1 := [wX ax (bo 0) (tr 0) (ac 0) (ah 0) (at_ 0), wB E bo β, wB E tr τ, wC E ac γ, wH E ah bd η, wT E at_ θ, wB E (bd 2) (σ 2), wB E (bd 3) (σ 3), wB E (bd 4) (σ 4), wB E (bd 5) (σ 5), wB E (bd 6) (σ 6), wB E (bd 7) (σ 7), wB E (bd 8) (σ 8), wB E (bd 9) (σ 9), wM E am ((fX7_pointsOf μ a).2), wO E ao o]) (st1 := [.int ((fX7_pointsOf μ a).1)]) [.int a] [14] (kX7_pointsOf l E am μ hvm a) caX7_pointsOf q7_151 rfl ⟨Nat.le_of_ble_eq_true rfl, Nat.le_of_ble_eq_true rfl⟩ ⟨hk, hn⟩ 14 0 rfl rfl rfl rfl (by decide) rfl rfl rfl rfl (Nat.le_of_ble_eq_true rfl) dL_law_1792 rfl ?_
    refine g_istore C (lv1 := [(6, .int ((fX7_pointsOf μ a).1)), (5, .int 1), (0, .ref b0), (1, .ref ax), (2, .ref (am 0)), (3, .ref ao), (4, .int (nI i))]) dL_law_1795 (by decide) rfl ?_
    refine g_aload_n C dL_law_1797 rfl 4 rfl ?_
    refine g_callV C (cs1 := [wX ax (bo 0) (tr 0) (ac 0) (ah 0) (at_ 0), wB E bo β, wB E tr τ, wC E ac γ, wH E ah bd η, wT E at_ θ, wB E (bd 2) (σ 2), wB E (bd 3) (σ 3), wB E (bd 4) (σ 4), wB E (bd 5) (σ 5), wB E (bd 6) (σ 6), wB E (bd 7) (σ 7), wB E (bd 8) (σ 8), wB E (bd 9) (σ 9), wM E am ((fX7_pointsOf μ a).2), wO E ao o]) (st1 := [.int (fX7_thrown ((fX7_pointsOf μ a).2))]) [] [14] (kX7_thrown l E am ((fX7_pointsOf μ a).2)) caX7_thrown q6_116 rfl ⟨Nat.le_of_ble_eq_true rfl, Nat.le_of_ble_eq_true rfl⟩ ⟨hk, hn⟩ 14 0 rfl rfl rfl rfl (by decide) rfl rfl rfl rfl (Nat.le_of_ble_eq_true rfl) dL_law_1798 rfl ?_
    refine g_iload C dL_law_1801 1 rfl ?_
    refine g_icmp_eq C 1808 dL_law_1803 (by decide) (fun _ => ?_) (fun c => absurd ht c)
    refine g_iload C dL_law_1808 1 rfl ?_
    refine g_if_ne C 1825 dL_law_1810 (by decide) (fun _ => ?_) (fun c => absurd c (by decide))
    refine g_goto C 3840 dL_law_1825 (by decide) ?_
    exact g_sub [2, 3, 4, 5, 6] rfl (next β τ γ η σ θ ((fX7_pointsOf μ a).2) o hR2)
