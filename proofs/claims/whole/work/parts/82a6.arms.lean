set_option maxHeartbeats 4000000 in
set_option maxRecDepth 100000 in
theorem arm_60 {Rl : RlT} (hRv : RlV Rl) (hs : sH_misplanned Rl)  {X : gX} {l : Launch} {E : gE} (C : gC X cL_law 9 RL (some .boolean) l E room_1) (hZ : gZ X.2.2.2.2.2.2.2.2.2.2.2.1 X.2.2.2.2.1 X.2.2.2.2.1.heap) (hNc : gNc X.2.2.2.2.1) {b0 L0 : Nat} {xs : Nat → Int32} (S : gS X b0 L0 xs) (hlt : l.stackTraces = false) {ax : Nat} {bo tr ac ah : Nat → Nat} {bd : Nat → Nat → Nat} {at_ am : Nat → Nat} {ao k n i : Nat} (hk : k + 3 ≤ 601024) (hn : n + 18 ≤ 7293034) (hi : i + 3 ≤ L0) {β τ γ η : BS} {σ : Nat → BS} {θ μ : BS} {o : Nat → Int64} (hR : Rl β η θ σ μ) (next : ∀ (β τ γ η : BS) (σ : Nat → BS) (θ μ : BS) (o : Nat → Int64), Rl β η θ σ μ → G X (k + 3) (n + 18) [wX ax (bo 0) (tr 0) (ac 0) (ah 0) (at_ 0), wB E bo β, wB E tr τ, wC E ac γ, wH E ah bd η, wT E at_ θ, wB E (bd 2) (σ 2), wB E (bd 3) (σ 3), wB E (bd 4) (σ 4), wB E (bd 5) (σ 5), wB E (bd 6) (σ 6), wB E (bd 7) (σ 7), wB E (bd 8) (σ 8), wB E (bd 9) (σ 9), wM E am μ, wO E ao o] [(0, .ref b0), (1, .ref ax), (2, .ref (am 0)), (3, .ref ao), (4, .int (nI i))] 3840 []) : G X k n [wX ax (bo 0) (tr 0) (ac 0) (ah 0) (at_ 0), wB E bo β, wB E tr τ, wC E ac γ, wH E ah bd η, wT E at_ θ, wB E (bd 2) (σ 2), wB E (bd 3) (σ 3), wB E (bd 4) (σ 4), wB E (bd 5) (σ 5), wB E (bd 6) (σ 6), wB E (bd 7) (σ 7), wB E (bd 8) (σ 8), wB E (bd 9) (σ 9), wM E am μ, wO E ao o] [(0, .ref b0), (1, .ref ax), (2, .ref (am 0)), (3, .ref ao), (4, .int (nI i))] 3426 [] := by
  obtain ⟨hvb, hvh, hvt, hvm, ha⟩ := hRv β η θ σ μ hR
  obtain ⟨a, ha9⟩ : ∃ a, xs (i + 1) = a := ⟨_, rfl⟩
  obtain ⟨hag, hR2⟩ := hs β τ γ η σ θ μ a hR
  rcases hag with ⟨hr, ht⟩ | ⟨hr, ht⟩
  · skip
    refine g_aload_n C dL_law_3426 rfl 1 rfl ?_
    refine g_aload_n C dL_law_3427 rfl 0 rfl ?_
    refine g_iload C dL_law_3428 4 rfl ?_
    refine g_iconst C (v := 1) dL_law_3430 (by decide) ?_
    refine g_iadd C dL_law_3431 ?_
    refine g_sldv C S (i + 1) (nx_add (rfl : nI i = nI i) (rfl : (1 : Int32) = nI 1)) (by omega) ha9 dL_law_3432 ?_
    refine g_aload_n C dL_law_3433 rfl 3 rfl ?_
    refine g_callSW C hZ hNc (z := 3) (cs1 := [wX ax (bo 0) (tr 0) (ac 0) (ah 0) (at_ 0), wB E bo β, wB E tr τ, wC E ac γ, wH E ah bd η, wT E at_ θ, wB E (bd 2) (σ 2), wB E (bd 3) (σ 3), wB E (bd 4) (σ 4), wB E (bd 5) (σ 5), wB E (bd 6) (σ 6), wB E (bd 7) (σ 7), wB E (bd 8) (σ 8), wB E (bd 9) (σ 9), wM E am μ, wO E ao (vp_updL o 0 ((fX7_misplanned μ a).1).toInt64)]) (st1 := [.int 0]) [.ref ax, .int a, .ref ao] [0, 1, 2, 3, 4, 5, 6, 7, 8, 9, 10, 11, 12, 13, 15] (kL_misplanned_r l E ax bo β tr τ ac γ ah bd η σ at_ θ ao o hlt hvb a ((fX7_misplanned μ a).1) hr) q6_30 q1_0 (by decide +kernel) q6_29 q6_28 rfl ⟨Nat.le_of_ble_eq_true rfl, Nat.le_of_ble_eq_true rfl⟩ ⟨hk, hn⟩ (by decide) rfl rfl rfl rfl (Nat.le_of_ble_eq_true rfl) dL_law_3434 rfl ?_
    refine g_istore C (lv1 := [(5, .int 0), (0, .ref b0), (1, .ref ax), (2, .ref (am 0)), (3, .ref ao), (4, .int (nI i))]) dL_law_3437 (by decide) rfl ?_
    refine g_aload_n C dL_law_3439 rfl 3 rfl ?_
    refine g_aload_n C dL_law_3440 rfl 1 rfl ?_
    refine g_iload C dL_law_3441 5 rfl ?_
    refine g_iconst C (v := 1) dL_law_3443 (by decide) ?_
    refine g_iadd C dL_law_3444 ?_
    refine g_sldv C S (i + 1) (nx_add (rfl : nI i = nI i) (rfl : (1 : Int32) = nI 1)) (by omega) ha9 dL_law_3445 ?_
    refine g_callV C (cs1 := [wX ax (bo 0) (tr 0) (ac 0) (ah 0) (at_ 0), wB E bo β, wB E tr τ, wC E ac γ, wH E ah bd η, wT E at_ θ, wB E (bd 2) (σ 2), wB E (bd 3) (σ 3), wB E (bd 4) (σ 4), wB E (bd 5) (σ 5), wB E (bd 6) (σ 6), wB E (bd 7) (σ 7), wB E (bd 8) (σ 8), wB E (bd 9) (σ 9), wM E am ((fX7_misplanned μ a).2), wO E ao (vp_updL o 0 ((fX7_misplanned μ a).1).toInt64)]) (st1 := [.int ((fX7_misplanned μ a).1)]) [.int a] [14] (kX7_misplanned l E am μ hvm a) caX7_misplanned q8_71 rfl ⟨Nat.le_of_ble_eq_true rfl, Nat.le_of_ble_eq_true rfl⟩ ⟨hk, hn⟩ 14 0 rfl rfl rfl rfl (by decide) rfl rfl rfl rfl (Nat.le_of_ble_eq_true rfl) dL_law_3446 rfl ?_
    refine g_istore C (lv1 := [(6, .int ((fX7_misplanned μ a).1)), (5, .int 0), (0, .ref b0), (1, .ref ax), (2, .ref (am 0)), (3, .ref ao), (4, .int (nI i))]) dL_law_3449 (by decide) rfl ?_
    refine g_aload_n C dL_law_3451 rfl 4 rfl ?_
    refine g_callV C (cs1 := [wX ax (bo 0) (tr 0) (ac 0) (ah 0) (at_ 0), wB E bo β, wB E tr τ, wC E ac γ, wH E ah bd η, wT E at_ θ, wB E (bd 2) (σ 2), wB E (bd 3) (σ 3), wB E (bd 4) (σ 4), wB E (bd 5) (σ 5), wB E (bd 6) (σ 6), wB E (bd 7) (σ 7), wB E (bd 8) (σ 8), wB E (bd 9) (σ 9), wM E am ((fX7_misplanned μ a).2), wO E ao (vp_updL o 0 ((fX7_misplanned μ a).1).toInt64)]) (st1 := [.int (fX7_thrown ((fX7_misplanned μ a).2))]) [] [14] (kX7_thrown l E am ((fX7_misplanned μ a).2)) caX7_thrown q6_116 rfl ⟨Nat.le_of_ble_eq_true rfl, Nat.le_of_ble_eq_true rfl⟩ ⟨hk, hn⟩ 14 0 rfl rfl rfl rfl (by decide) rfl rfl rfl rfl (Nat.le_of_ble_eq_true rfl) dL_law_3452 rfl ?_
    refine g_iload C dL_law_3455 1 rfl ?_
    refine g_icmp_eq C 3462 dL_law_3457 (by decide) (fun _ => ?_) (fun c => absurd ht c)
    refine g_iload C dL_law_3462 1 rfl ?_
    refine g_if_ne C 3479 dL_law_3464 (by decide) (fun c => absurd rfl c) (fun _ => ?_)
    refine g_aload_n C dL_law_3467 rfl 5 rfl ?_
    refine g_iconst C (v := 0) dL_law_3468 (by decide) ?_
    refine g_laldn C 15 0 0 rfl rfl rfl (by decide) (by decide) dL_law_3469 ?_
    refine g_iload C dL_law_3470 0 rfl ?_
    refine g_i2l C dL_law_3472 ?_
    refine g_lcmp C dL_law_3473 ?_
    refine g_if_eq C 3479 dL_law_3474 (by decide) (fun _ => ?_) (fun c => absurd law_cmp c)
    refine g_goto C 3840 dL_law_3479 (by decide) ?_
    exact g_sub [2, 3, 4, 5, 6] rfl (next β τ γ η σ θ ((fX7_misplanned μ a).2) (vp_updL o 0 ((fX7_misplanned μ a).1).toInt64) hR2)
  · skip
    refine g_aload_n C dL_law_3426 rfl 1 rfl ?_
    refine g_aload_n C dL_law_3427 rfl 0 rfl ?_
    refine g_iload C dL_law_3428 4 rfl ?_
    refine g_iconst C (v := 1) dL_law_3430 (by decide) ?_
    refine g_iadd C dL_law_3431 ?_
    refine g_sldv C S (i + 1) (nx_add (rfl : nI i = nI i) (rfl : (1 : Int32) = nI 1)) (by omega) ha9 dL_law_3432 ?_
    refine g_aload_n C dL_law_3433 rfl 3 rfl ?_
    refine g_callSW C hZ hNc (z := 3) (cs1 := [wX ax (bo 0) (tr 0) (ac 0) (ah 0) (at_ 0), wB E bo β, wB E tr τ, wC E ac γ, wH E ah bd η, wT E at_ θ, wB E (bd 2) (σ 2), wB E (bd 3) (σ 3), wB E (bd 4) (σ 4), wB E (bd 5) (σ 5), wB E (bd 6) (σ 6), wB E (bd 7) (σ 7), wB E (bd 8) (σ 8), wB E (bd 9) (σ 9), wM E am μ, wO E ao o]) (st1 := [.int 1]) [.ref ax, .int a, .ref ao] [0, 1, 2, 3, 4, 5, 6, 7, 8, 9, 10, 11, 12, 13, 15] (kL_misplanned_0 l E ax bo β tr τ ac γ ah bd η σ at_ θ ao o hlt hvb a hr) q6_30 q1_0 (by decide +kernel) q6_29 q6_28 rfl ⟨Nat.le_of_ble_eq_true rfl, Nat.le_of_ble_eq_true rfl⟩ ⟨hk, hn⟩ (by decide) rfl rfl rfl rfl (Nat.le_of_ble_eq_true rfl) dL_law_3434 rfl ?_
    refine g_istore C (lv1 := [(5, .int 1), (0, .ref b0), (1, .ref ax), (2, .ref (am 0)), (3, .ref ao), (4, .int (nI i))]) dL_law_3437 (by decide) rfl ?_
    refine g_aload_n C dL_law_3439 rfl 3 rfl ?_
    refine g_aload_n C dL_law_3440 rfl 1 rfl ?_
    refine g_iload C dL_law_3441 5 rfl ?_
    refine g_iconst C (v := 1) dL_law_3443 (by decide) ?_
    refine g_iadd C dL_law_3444 ?_
    refine g_sldv C S (i + 1) (nx_add (rfl : nI i = nI i) (rfl : (1 : Int32) = nI 1)) (by omega) ha9 dL_law_3445 ?_
    refine g_callV C (cs1 := [wX ax (bo 0) (tr 0) (ac 0) (ah 0) (at_ 0), wB E bo β, wB E tr τ, wC E ac γ, wH E ah bd η, wT E at_ θ, wB E (bd 2) (σ 2), wB E (bd 3) (σ 3), wB E (bd 4) (σ 4), wB E (bd 5) (σ 5), wB E (bd 6) (σ 6), wB E (bd 7) (σ 7), wB E (bd 8) (σ 8), wB E (bd 9) (σ 9), wM E am ((fX7_misplanned μ a).2), wO E ao o]) (st1 := [.int ((fX7_misplanned μ a).1)]) [.int a] [14] (kX7_misplanned l E am μ hvm a) caX7_misplanned q8_71 rfl ⟨Nat.le_of_ble_eq_true rfl, Nat.le_of_ble_eq_true rfl⟩ ⟨hk, hn⟩ 14 0 rfl rfl rfl rfl (by decide) rfl rfl rfl rfl (Nat.le_of_ble_eq_true rfl) dL_law_3446 rfl ?_
    refine g_istore C (lv1 := [(6, .int ((fX7_misplanned μ a).1)), (5, .int 1), (0, .ref b0), (1, .ref ax), (2, .ref (am 0)), (3, .ref ao), (4, .int (nI i))]) dL_law_3449 (by decide) rfl ?_
    refine g_aload_n C dL_law_3451 rfl 4 rfl ?_
    refine g_callV C (cs1 := [wX ax (bo 0) (tr 0) (ac 0) (ah 0) (at_ 0), wB E bo β, wB E tr τ, wC E ac γ, wH E ah bd η, wT E at_ θ, wB E (bd 2) (σ 2), wB E (bd 3) (σ 3), wB E (bd 4) (σ 4), wB E (bd 5) (σ 5), wB E (bd 6) (σ 6), wB E (bd 7) (σ 7), wB E (bd 8) (σ 8), wB E (bd 9) (σ 9), wM E am ((fX7_misplanned μ a).2), wO E ao o]) (st1 := [.int (fX7_thrown ((fX7_misplanned μ a).2))]) [] [14] (kX7_thrown l E am ((fX7_misplanned μ a).2)) caX7_thrown q6_116 rfl ⟨Nat.le_of_ble_eq_true rfl, Nat.le_of_ble_eq_true rfl⟩ ⟨hk, hn⟩ 14 0 rfl rfl rfl rfl (by decide) rfl rfl rfl rfl (Nat.le_of_ble_eq_true rfl) dL_law_3452 rfl ?_
    refine g_iload C dL_law_3455 1 rfl ?_
    refine g_icmp_eq C 3462 dL_law_3457 (by decide) (fun _ => ?_) (fun c => absurd ht c)
    refine g_iload C dL_law_3462 1 rfl ?_
    refine g_if_ne C 3479 dL_law_3464 (by decide) (fun _ => ?_) (fun c => absurd c (by decide))
    refine g_goto C 3840 dL_law_3479 (by decide) ?_
    exact g_sub [2, 3, 4, 5, 6] rfl (next β τ γ η σ θ ((fX7_misplanned μ a).2) o hR2)
set_option maxHeartbeats 4000000 in
set_option maxRecDepth 100000 in
theorem arm_61 {Rl : RlT} (hRv : RlV Rl) (hs : sH_lateMilestones Rl)  {X : gX} {l : Launch} {E : gE} (C : gC X cL_law 9 RL (some .boolean) l E room_1) (hZ : gZ X.2.2.2.2.2.2.2.2.2.2.2.1 X.2.2.2.2.1 X.2.2.2.2.1.heap) (hNc : gNc X.2.2.2.2.1) {b0 L0 : Nat} {xs : Nat → Int32} (S : gS X b0 L0 xs) (hlt : l.stackTraces = false) {ax : Nat} {bo tr ac ah : Nat → Nat} {bd : Nat → Nat → Nat} {at_ am : Nat → Nat} {ao k n i : Nat} (hk : k + 3 ≤ 601024) (hn : n + 18 ≤ 7293034) (hi : i + 3 ≤ L0) {β τ γ η : BS} {σ : Nat → BS} {θ μ : BS} {o : Nat → Int64} (hR : Rl β η θ σ μ) (next : ∀ (β τ γ η : BS) (σ : Nat → BS) (θ μ : BS) (o : Nat → Int64), Rl β η θ σ μ → G X (k + 3) (n + 18) [wX ax (bo 0) (tr 0) (ac 0) (ah 0) (at_ 0), wB E bo β, wB E tr τ, wC E ac γ, wH E ah bd η, wT E at_ θ, wB E (bd 2) (σ 2), wB E (bd 3) (σ 3), wB E (bd 4) (σ 4), wB E (bd 5) (σ 5), wB E (bd 6) (σ 6), wB E (bd 7) (σ 7), wB E (bd 8) (σ 8), wB E (bd 9) (σ 9), wM E am μ, wO E ao o] [(0, .ref b0), (1, .ref ax), (2, .ref (am 0)), (3, .ref ao), (4, .int (nI i))] 3840 []) : G X k n [wX ax (bo 0) (tr 0) (ac 0) (ah 0) (at_ 0), wB E bo β, wB E tr τ, wC E ac γ, wH E ah bd η, wT E at_ θ, wB E (bd 2) (σ 2), wB E (bd 3) (σ 3), wB E (bd 4) (σ 4), wB E (bd 5) (σ 5), wB E (bd 6) (σ 6), wB E (bd 7) (σ 7), wB E (bd 8) (σ 8), wB E (bd 9) (σ 9), wM E am μ, wO E ao o] [(0, .ref b0), (1, .ref ax), (2, .ref (am 0)), (3, .ref ao), (4, .int (nI i))] 3482 [] := by
  obtain ⟨hvb, hvh, hvt, hvm, ha⟩ := hRv β η θ σ μ hR
  obtain ⟨hr, hR2⟩ := hs β τ γ η σ θ μ hR
  refine g_aload_n C dL_law_3482 rfl 1 rfl ?_
  refine g_callV C (cs1 := [wX ax (bo 0) (tr 0) (ac 0) (ah 0) (at_ 0), wB E bo β, wB E tr τ, wC E ac γ, wH E ah bd η, wT E at_ θ, wB E (bd 2) (σ 2), wB E (bd 3) (σ 3), wB E (bd 4) (σ 4), wB E (bd 5) (σ 5), wB E (bd 6) (σ 6), wB E (bd 7) (σ 7), wB E (bd 8) (σ 8), wB E (bd 9) (σ 9), wM E am μ, wO E ao o]) (st1 := [.int (fX6_lateMilestones β)]) [] [0, 1, 2, 3, 4, 5, 6, 7, 8, 9, 10, 11, 12, 13] (kX6_lateMilestones l E ax bo β tr τ ac γ ah bd η σ at_ θ hvb) caX6_lateMilestones q2_89 rfl ⟨Nat.le_of_ble_eq_true rfl, Nat.le_of_ble_eq_true rfl⟩ ⟨Nat.le_of_succ_le (Nat.le_of_succ_le (Nat.le_of_succ_le hk)), Nat.le_trans (Nat.le_add_right _ _) hn⟩ 0 0 rfl rfl rfl rfl (by decide) rfl rfl rfl rfl (Nat.le_of_ble_eq_true rfl) dL_law_3483 rfl ?_
  refine g_aload_n C dL_law_3486 rfl 2 rfl ?_
  refine g_callV C (cs1 := [wX ax (bo 0) (tr 0) (ac 0) (ah 0) (at_ 0), wB E bo β, wB E tr τ, wC E ac γ, wH E ah bd η, wT E at_ θ, wB E (bd 2) (σ 2), wB E (bd 3) (σ 3), wB E (bd 4) (σ 4), wB E (bd 5) (σ 5), wB E (bd 6) (σ 6), wB E (bd 7) (σ 7), wB E (bd 8) (σ 8), wB E (bd 9) (σ 9), wM E am ((fX7_lateMilestones μ).2), wO E ao o]) (st1 := [.int ((fX7_lateMilestones μ).1), .int (fX6_lateMilestones β)]) [] [14] (kX7_lateMilestones l E am μ hvm ) caX7_lateMilestones q8_83 rfl ⟨Nat.le_of_ble_eq_true rfl, Nat.le_of_ble_eq_true rfl⟩ ⟨Nat.le_of_succ_le (Nat.le_of_succ_le (Nat.le_of_succ_le hk)), Nat.le_trans (Nat.le_add_right _ _) hn⟩ 14 0 rfl rfl rfl rfl (by decide) rfl rfl rfl rfl (Nat.le_of_ble_eq_true rfl) dL_law_3487 rfl ?_
  refine g_icmp_eq C 3840 dL_law_3490 (by decide) (fun _ => ?_) (fun c => absurd hr c)
  refine g_widen (k1 := k + 3) (n1 := n + 18) (Nat.le_add_right _ _) (Nat.le_add_right _ _) ?_
  exact g_sub [0, 1, 2, 3, 4] rfl (next β τ γ η σ θ ((fX7_lateMilestones μ).2) o hR2)
set_option maxHeartbeats 4000000 in
set_option maxRecDepth 100000 in
theorem arm_62 {Rl : RlT} (hRv : RlV Rl) (hs : sH_nextToDo Rl)  {X : gX} {l : Launch} {E : gE} (C : gC X cL_law 9 RL (some .boolean) l E room_1) (hZ : gZ X.2.2.2.2.2.2.2.2.2.2.2.1 X.2.2.2.2.1 X.2.2.2.2.1.heap) (hNc : gNc X.2.2.2.2.1) {b0 L0 : Nat} {xs : Nat → Int32} (S : gS X b0 L0 xs) (hlt : l.stackTraces = false) {ax : Nat} {bo tr ac ah : Nat → Nat} {bd : Nat → Nat → Nat} {at_ am : Nat → Nat} {ao k n i : Nat} (hk : k + 3 ≤ 601024) (hn : n + 18 ≤ 7293034) (hi : i + 3 ≤ L0) {β τ γ η : BS} {σ : Nat → BS} {θ μ : BS} {o : Nat → Int64} (hR : Rl β η θ σ μ) (next : ∀ (β τ γ η : BS) (σ : Nat → BS) (θ μ : BS) (o : Nat → Int64), Rl β η θ σ μ → G X (k + 3) (n + 18) [wX ax (bo 0) (tr 0) (ac 0) (ah 0) (at_ 0), wB E bo β, wB E tr τ, wC E ac γ, wH E ah bd η, wT E at_ θ, wB E (bd 2) (σ 2), wB E (bd 3) (σ 3), wB E (bd 4) (σ 4), wB E (bd 5) (σ 5), wB E (bd 6) (σ 6), wB E (bd 7) (σ 7), wB E (bd 8) (σ 8), wB E (bd 9) (σ 9), wM E am μ, wO E ao o] [(0, .ref b0), (1, .ref ax), (2, .ref (am 0)), (3, .ref ao), (4, .int (nI i))] 3840 []) : G X k n [wX ax (bo 0) (tr 0) (ac 0) (ah 0) (at_ 0), wB E bo β, wB E tr τ, wC E ac γ, wH E ah bd η, wT E at_ θ, wB E (bd 2) (σ 2), wB E (bd 3) (σ 3), wB E (bd 4) (σ 4), wB E (bd 5) (σ 5), wB E (bd 6) (σ 6), wB E (bd 7) (σ 7), wB E (bd 8) (σ 8), wB E (bd 9) (σ 9), wM E am μ, wO E ao o] [(0, .ref b0), (1, .ref ax), (2, .ref (am 0)), (3, .ref ao), (4, .int (nI i))] 3495 [] := by
  obtain ⟨hvb, hvh, hvt, hvm, ha⟩ := hRv β η θ σ μ hR
  obtain ⟨hag, hR2⟩ := hs β τ γ η σ θ μ hR
  rcases hag with ⟨hr, ht⟩ | ⟨hr, ht⟩
  · skip
    refine g_aload_n C dL_law_3495 rfl 1 rfl ?_
    refine g_aload_n C dL_law_3496 rfl 3 rfl ?_
    refine g_callSW C hZ hNc (z := 2) (cs1 := [wX ax (bo 0) (tr 0) (ac 0) (ah 0) (at_ 0), wB E bo β, wB E tr τ, wC E ac γ, wH E ah bd η, wT E at_ θ, wB E (bd 2) (σ 2), wB E (bd 3) (σ 3), wB E (bd 4) (σ 4), wB E (bd 5) (σ 5), wB E (bd 6) (σ 6), wB E (bd 7) (σ 7), wB E (bd 8) (σ 8), wB E (bd 9) (σ 9), wM E am μ, wO E ao (vp_updL o 0 ((fX7_nextToDo μ).1).toInt64)]) (st1 := [.int 0]) [.ref ax, .ref ao] [0, 1, 2, 3, 4, 5, 6, 7, 8, 9, 10, 11, 12, 13, 15] (kL_nextToDo_r l E ax bo β tr τ ac γ ah bd η σ at_ θ ao o hlt hvb  ((fX7_nextToDo μ).1) hr) q6_37 q1_0 (by decide +kernel) q6_36 q6_35 rfl ⟨Nat.le_of_ble_eq_true rfl, Nat.le_of_ble_eq_true rfl⟩ ⟨hk, hn⟩ (by decide) rfl rfl rfl rfl (Nat.le_of_ble_eq_true rfl) dL_law_3497 rfl ?_
    refine g_istore C (lv1 := [(5, .int 0), (0, .ref b0), (1, .ref ax), (2, .ref (am 0)), (3, .ref ao), (4, .int (nI i))]) dL_law_3500 (by decide) rfl ?_
    refine g_aload_n C dL_law_3502 rfl 3 rfl ?_
    refine g_callV C (cs1 := [wX ax (bo 0) (tr 0) (ac 0) (ah 0) (at_ 0), wB E bo β, wB E tr τ, wC E ac γ, wH E ah bd η, wT E at_ θ, wB E (bd 2) (σ 2), wB E (bd 3) (σ 3), wB E (bd 4) (σ 4), wB E (bd 5) (σ 5), wB E (bd 6) (σ 6), wB E (bd 7) (σ 7), wB E (bd 8) (σ 8), wB E (bd 9) (σ 9), wM E am ((fX7_nextToDo μ).2), wO E ao (vp_updL o 0 ((fX7_nextToDo μ).1).toInt64)]) (st1 := [.int ((fX7_nextToDo μ).1)]) [] [14] (kX7_nextToDo l E am μ hvm ) caX7_nextToDo q8_87 rfl ⟨Nat.le_of_ble_eq_true rfl, Nat.le_of_ble_eq_true rfl⟩ ⟨hk, hn⟩ 14 0 rfl rfl rfl rfl (by decide) rfl rfl rfl rfl (Nat.le_of_ble_eq_true rfl) dL_law_3503 rfl ?_
    refine g_istore C (lv1 := [(6, .int ((fX7_nextToDo μ).1)), (5, .int 0), (0, .ref b0), (1, .ref ax), (2, .ref (am 0)), (3, .ref ao), (4, .int (nI i))]) dL_law_3506 (by decide) rfl ?_
    refine g_aload_n C dL_law_3508 rfl 4 rfl ?_
    refine g_callV C (cs1 := [wX ax (bo 0) (tr 0) (ac 0) (ah 0) (at_ 0), wB E bo β, wB E tr τ, wC E ac γ, wH E ah bd η, wT E at_ θ, wB E (bd 2) (σ 2), wB E (bd 3) (σ 3), wB E (bd 4) (σ 4), wB E (bd 5) (σ 5), wB E (bd 6) (σ 6), wB E (bd 7) (σ 7), wB E (bd 8) (σ 8), wB E (bd 9) (σ 9), wM E am ((fX7_nextToDo μ).2), wO E ao (vp_updL o 0 ((fX7_nextToDo μ).1).toInt64)]) (st1 := [.int (fX7_thrown ((fX7_nextToDo μ).2))]) [] [14] (kX7_thrown l E am ((fX7_nextToDo μ).2)) caX7_thrown q6_116 rfl ⟨Nat.le_of_ble_eq_true rfl, Nat.le_of_ble_eq_true rfl⟩ ⟨hk, hn⟩ 14 0 rfl rfl rfl rfl (by decide) rfl rfl rfl rfl (Nat.le_of_ble_eq_true rfl) dL_law_3509 rfl ?_
    refine g_iload C dL_law_3512 1 rfl ?_
    refine g_icmp_eq C 3519 dL_law_3514 (by decide) (fun _ => ?_) (fun c => absurd ht c)
    refine g_iload C dL_law_3519 1 rfl ?_
    refine g_if_ne C 3536 dL_law_3521 (by decide) (fun c => absurd rfl c) (fun _ => ?_)
    refine g_aload_n C dL_law_3524 rfl 5 rfl ?_
    refine g_iconst C (v := 0) dL_law_3525 (by decide) ?_
    refine g_laldn C 15 0 0 rfl rfl rfl (by decide) (by decide) dL_law_3526 ?_
    refine g_iload C dL_law_3527 0 rfl ?_
    refine g_i2l C dL_law_3529 ?_
    refine g_lcmp C dL_law_3530 ?_
    refine g_if_eq C 3536 dL_law_3531 (by decide) (fun _ => ?_) (fun c => absurd law_cmp c)
    refine g_goto C 3840 dL_law_3536 (by decide) ?_
    exact g_sub [2, 3, 4, 5, 6] rfl (next β τ γ η σ θ ((fX7_nextToDo μ).2) (vp_updL o 0 ((fX7_nextToDo μ).1).toInt64) hR2)
  · skip
    refine g_aload_n C dL_law_3495 rfl 1 rfl ?_
    refine g_aload_n C dL_law_3496 rfl 3 rfl ?_
    refine g_callSW C hZ hNc (z := 2) (cs1 := [wX ax (bo 0) (tr 0) (ac 0) (ah 0) (at_ 0), wB E bo β, wB E tr τ, wC E ac γ, wH E ah bd η, wT E at_ θ, wB E (bd 2) (σ 2), wB E (bd 3) (σ 3), wB E (bd 4) (σ 4), wB E (bd 5) (σ 5), wB E (bd 6) (σ 6), wB E (bd 7) (σ 7), wB E (bd 8) (σ 8), wB E (bd 9) (σ 9), wM E am μ, wO E ao o]) (st1 := [.int 1]) [.ref ax, .ref ao] [0, 1, 2, 3, 4, 5, 6, 7, 8, 9, 10, 11, 12, 13, 15] (kL_nextToDo_0 l E ax bo β tr τ ac γ ah bd η σ at_ θ ao o hlt hvb  hr) q6_37 q1_0 (by decide +kernel) q6_36 q6_35 rfl ⟨Nat.le_of_ble_eq_true rfl, Nat.le_of_ble_eq_true rfl⟩ ⟨hk, hn⟩ (by decide) rfl rfl rfl rfl (Nat.le_of_ble_eq_true rfl) dL_law_3497 rfl ?_
    refine g_istore C (lv1 := [(5, .int 1), (0, .ref b0), (1, .ref ax), (2, .ref (am 0)), (3, .ref ao), (4, .int (nI i))]) dL_law_3500 (by decide) rfl ?_
    refine g_aload_n C dL_law_3502 rfl 3 rfl ?_
    refine g_callV C (cs1 := [wX ax (bo 0) (tr 0) (ac 0) (ah 0) (at_ 0), wB E bo β, wB E tr τ, wC E ac γ, wH E ah bd η, wT E at_ θ, wB E (bd 2) (σ 2), wB E (bd 3) (σ 3), wB E (bd 4) (σ 4), wB E (bd 5) (σ 5), wB E (bd 6) (σ 6), wB E (bd 7) (σ 7), wB E (bd 8) (σ 8), wB E (bd 9) (σ 9), wM E am ((fX7_nextToDo μ).2), wO E ao o]) (st1 := [.int ((fX7_nextToDo μ).1)]) [] [14] (kX7_nextToDo l E am μ hvm ) caX7_nextToDo q8_87 rfl ⟨Nat.le_of_ble_eq_true rfl, Nat.le_of_ble_eq_true rfl⟩ ⟨hk, hn⟩ 14 0 rfl rfl rfl rfl (by decide) rfl rfl rfl rfl (Nat.le_of_ble_eq_true rfl) dL_law_3503 rfl ?_
    refine g_istore C (lv1 := [(6, .int ((fX7_nextToDo μ).1)), (5, .int 1), (0, .ref b0), (1, .ref ax), (2, .ref (am 0)), (3, .ref ao), (4, .int (nI i))]) dL_law_3506 (by decide) rfl ?_
    refine g_aload_n C dL_law_3508 rfl 4 rfl ?_
    refine g_callV C (cs1 := [wX ax (bo 0) (tr 0) (ac 0) (ah 0) (at_ 0), wB E bo β, wB E tr τ, wC E ac γ, wH E ah bd η, wT E at_ θ, wB E (bd 2) (σ 2), wB E (bd 3) (σ 3), wB E (bd 4) (σ 4), wB E (bd 5) (σ 5), wB E (bd 6) (σ 6), wB E (bd 7) (σ 7), wB E (bd 8) (σ 8), wB E (bd 9) (σ 9), wM E am ((fX7_nextToDo μ).2), wO E ao o]) (st1 := [.int (fX7_thrown ((fX7_nextToDo μ).2))]) [] [14] (kX7_thrown l E am ((fX7_nextToDo μ).2)) caX7_thrown q6_116 rfl ⟨Nat.le_of_ble_eq_true rfl, Nat.le_of_ble_eq_true rfl⟩ ⟨hk, hn⟩ 14 0 rfl rfl rfl rfl (by decide) rfl rfl rfl rfl (Nat.le_of_ble_eq_true rfl) dL_law_3509 rfl ?_
    refine g_iload C dL_law_3512 1 rfl ?_
    refine g_icmp_eq C 3519 dL_law_3514 (by decide) (fun _ => ?_) (fun c => absurd ht c)
    refine g_iload C dL_law_3519 1 rfl ?_
    refine g_if_ne C 3536 dL_law_3521 (by decide) (fun _ => ?_) (fun c => absurd c (by decide))
    refine g_goto C 3840 dL_law_3536 (by decide) ?_
    exact g_sub [2, 3, 4, 5, 6] rfl (next β τ γ η σ θ ((fX7_nextToDo μ).2) o hR2)
set_option maxHeartbeats 4000000 in
set_option maxRecDepth 100000 in
theorem arm_63 {Rl : RlT} (hRv : RlV Rl) (hs : sH_closedAt Rl)  {X : gX} {l : Launch} {E : gE} (C : gC X cL_law 9 RL (some .boolean) l E room_1) (hZ : gZ X.2.2.2.2.2.2.2.2.2.2.2.1 X.2.2.2.2.1 X.2.2.2.2.1.heap) (hNc : gNc X.2.2.2.2.1) {b0 L0 : Nat} {xs : Nat → Int32} (S : gS X b0 L0 xs) (hlt : l.stackTraces = false) {ax : Nat} {bo tr ac ah : Nat → Nat} {bd : Nat → Nat → Nat} {at_ am : Nat → Nat} {ao k n i : Nat} (hk : k + 3 ≤ 601024) (hn : n + 18 ≤ 7293034) (hi : i + 3 ≤ L0) {β τ γ η : BS} {σ : Nat → BS} {θ μ : BS} {o : Nat → Int64} (hR : Rl β η θ σ μ) (next : ∀ (β τ γ η : BS) (σ : Nat → BS) (θ μ : BS) (o : Nat → Int64), Rl β η θ σ μ → G X (k + 3) (n + 18) [wX ax (bo 0) (tr 0) (ac 0) (ah 0) (at_ 0), wB E bo β, wB E tr τ, wC E ac γ, wH E ah bd η, wT E at_ θ, wB E (bd 2) (σ 2), wB E (bd 3) (σ 3), wB E (bd 4) (σ 4), wB E (bd 5) (σ 5), wB E (bd 6) (σ 6), wB E (bd 7) (σ 7), wB E (bd 8) (σ 8), wB E (bd 9) (σ 9), wM E am μ, wO E ao o] [(0, .ref b0), (1, .ref ax), (2, .ref (am 0)), (3, .ref ao), (4, .int (nI i))] 3840 []) : G X k n [wX ax (bo 0) (tr 0) (ac 0) (ah 0) (at_ 0), wB E bo β, wB E tr τ, wC E ac γ, wH E ah bd η, wT E at_ θ, wB E (bd 2) (σ 2), wB E (bd 3) (σ 3), wB E (bd 4) (σ 4), wB E (bd 5) (σ 5), wB E (bd 6) (σ 6), wB E (bd 7) (σ 7), wB E (bd 8) (σ 8), wB E (bd 9) (σ 9), wM E am μ, wO E ao o] [(0, .ref b0), (1, .ref ax), (2, .ref (am 0)), (3, .ref ao), (4, .int (nI i))] 3539 [] := by
  obtain ⟨hvb, hvh, hvt, hvm, ha⟩ := hRv β η θ σ μ hR
  obtain ⟨a, ha9⟩ : ∃ a, xs (i + 1) = a := ⟨_, rfl⟩
  obtain ⟨hag, hR2⟩ := hs β τ γ η σ θ μ a hR
  rcases hag with ⟨hr, ht⟩ | ⟨hr, ht⟩
  · skip
    refine g_aload_n C dL_law_3539 rfl 1 rfl ?_
    refine g_aload_n C dL_law_3540 rfl 0 rfl ?_
    refine g_iload C dL_law_3541 4 rfl ?_
    refine g_iconst C (v := 1) dL_law_3543 (by decide) ?_
    refine g_iadd C dL_law_3544 ?_
    refine g_sldv C S (i + 1) (nx_add (rfl : nI i = nI i) (rfl : (1 : Int32) = nI 1)) (by omega) ha9 dL_law_3545 ?_
    refine g_aload_n C dL_law_3546 rfl 3 rfl ?_
    refine g_callSW C hZ hNc (z := 3) (cs1 := [wX ax (bo 0) (tr 0) (ac 0) (ah 0) (at_ 0), wB E bo β, wB E tr τ, wC E ac ((fX6_closedAt β γ a).2), wH E ah bd η, wT E at_ θ, wB E (bd 2) (σ 2), wB E (bd 3) (σ 3), wB E (bd 4) (σ 4), wB E (bd 5) (σ 5), wB E (bd 6) (σ 6), wB E (bd 7) (σ 7), wB E (bd 8) (σ 8), wB E (bd 9) (σ 9), wM E am μ, wO E ao (vp_updL o 0 ((fX7_closedAt μ a).1).toInt64)]) (st1 := [.int 0]) [.ref ax, .int a, .ref ao] [0, 1, 2, 3, 4, 5, 6, 7, 8, 9, 10, 11, 12, 13, 15] (kL_closedAt_r l E ax bo β tr τ ac γ ah bd η σ at_ θ ao o hlt hvb a ((fX7_closedAt μ a).1) hr) q6_44 q1_0 (by decide +kernel) q6_43 q6_42 rfl ⟨Nat.le_of_ble_eq_true rfl, Nat.le_of_ble_eq_true rfl⟩ ⟨hk, hn⟩ (by decide) rfl rfl rfl rfl (Nat.le_of_ble_eq_true rfl) dL_law_3547 rfl ?_
    refine g_istore C (lv1 := [(5, .int 0), (0, .ref b0), (1, .ref ax), (2, .ref (am 0)), (3, .ref ao), (4, .int (nI i))]) dL_law_3550 (by decide) rfl ?_
    refine g_aload_n C dL_law_3552 rfl 3 rfl ?_
    refine g_aload_n C dL_law_3553 rfl 1 rfl ?_
    refine g_iload C dL_law_3554 5 rfl ?_
    refine g_iconst C (v := 1) dL_law_3556 (by decide) ?_
    refine g_iadd C dL_law_3557 ?_
    refine g_sldv C S (i + 1) (nx_add (rfl : nI i = nI i) (rfl : (1 : Int32) = nI 1)) (by omega) ha9 dL_law_3558 ?_
    refine g_callV C (cs1 := [wX ax (bo 0) (tr 0) (ac 0) (ah 0) (at_ 0), wB E bo β, wB E tr τ, wC E ac ((fX6_closedAt β γ a).2), wH E ah bd η, wT E at_ θ, wB E (bd 2) (σ 2), wB E (bd 3) (σ 3), wB E (bd 4) (σ 4), wB E (bd 5) (σ 5), wB E (bd 6) (σ 6), wB E (bd 7) (σ 7), wB E (bd 8) (σ 8), wB E (bd 9) (σ 9), wM E am ((fX7_closedAt μ a).2), wO E ao (vp_updL o 0 ((fX7_closedAt μ a).1).toInt64)]) (st1 := [.int ((fX7_closedAt μ a).1)]) [.int a] [14] (kX7_closedAt l E am μ hvm ha a) caX7_closedAt q8_103 rfl ⟨Nat.le_of_ble_eq_true rfl, Nat.le_of_ble_eq_true rfl⟩ ⟨hk, hn⟩ 14 0 rfl rfl rfl rfl (by decide) rfl rfl rfl rfl (Nat.le_of_ble_eq_true rfl) dL_law_3559 rfl ?_
    refine g_istore C (lv1 := [(6, .int ((fX7_closedAt μ a).1)), (5, .int 0), (0, .ref b0), (1, .ref ax), (2, .ref (am 0)), (3, .ref ao), (4, .int (nI i))]) dL_law_3562 (by decide) rfl ?_
    refine g_aload_n C dL_law_3564 rfl 4 rfl ?_
    refine g_callV C (cs1 := [wX ax (bo 0) (tr 0) (ac 0) (ah 0) (at_ 0), wB E bo β, wB E tr τ, wC E ac ((fX6_closedAt β γ a).2), wH E ah bd η, wT E at_ θ, wB E (bd 2) (σ 2), wB E (bd 3) (σ 3), wB E (bd 4) (σ 4), wB E (bd 5) (σ 5), wB E (bd 6) (σ 6), wB E (bd 7) (σ 7), wB E (bd 8) (σ 8), wB E (bd 9) (σ 9), wM E am ((fX7_closedAt μ a).2), wO E ao (vp_updL o 0 ((fX7_closedAt μ a).1).toInt64)]) (st1 := [.int (fX7_thrown ((fX7_closedAt μ a).2))]) [] [14] (kX7_thrown l E am ((fX7_closedAt μ a).2)) caX7_thrown q6_116 rfl ⟨Nat.le_of_ble_eq_true rfl, Nat.le_of_ble_eq_true rfl⟩ ⟨hk, hn⟩ 14 0 rfl rfl rfl rfl (by decide) rfl rfl rfl rfl (Nat.le_of_ble_eq_true rfl) dL_law_3565 rfl ?_
    refine g_iload C dL_law_3568 1 rfl ?_
    refine g_icmp_eq C 3575 dL_law_3570 (by decide) (fun _ => ?_) (fun c => absurd ht c)
    refine g_iload C dL_law_3575 1 rfl ?_
    refine g_if_ne C 3592 dL_law_3577 (by decide) (fun c => absurd rfl c) (fun _ => ?_)
    refine g_aload_n C dL_law_3580 rfl 5 rfl ?_
    refine g_iconst C (v := 0) dL_law_3581 (by decide) ?_
    refine g_laldn C 15 0 0 rfl rfl rfl (by decide) (by decide) dL_law_3582 ?_
    refine g_iload C dL_law_3583 0 rfl ?_
    refine g_i2l C dL_law_3585 ?_
    refine g_lcmp C dL_law_3586 ?_
    refine g_if_eq C 3592 dL_law_3587 (by decide) (fun _ => ?_) (fun c => absurd law_cmp c)
    refine g_goto C 3840 dL_law_3592 (by decide) ?_
    exact g_sub [2, 3, 4, 5, 6] rfl (next β τ ((fX6_closedAt β γ a).2) η σ θ ((fX7_closedAt μ a).2) (vp_updL o 0 ((fX7_closedAt μ a).1).toInt64) hR2)
  · skip
    refine g_aload_n C dL_law_3539 rfl 1 rfl ?_
    refine g_aload_n C dL_law_3540 rfl 0 rfl ?_
    refine g_iload C dL_law_3541 4 rfl ?_
    refine g_iconst C (v := 1) dL_law_3543 (by decide) ?_
    refine g_iadd C dL_law_3544 ?_
    refine g_sldv C S (i + 1) (nx_add (rfl : nI i = nI i) (rfl : (1 : Int32) = nI 1)) (by omega) ha9 dL_law_3545 ?_
    refine g_aload_n C dL_law_3546 rfl 3 rfl ?_
    refine g_callSW C hZ hNc (z := 3) (cs1 := [wX ax (bo 0) (tr 0) (ac 0) (ah 0) (at_ 0), wB E bo β, wB E tr τ, wC E ac ((fX6_closedAt β γ a).2), wH E ah bd η, wT E at_ θ, wB E (bd 2) (σ 2), wB E (bd 3) (σ 3), wB E (bd 4) (σ 4), wB E (bd 5) (σ 5), wB E (bd 6) (σ 6), wB E (bd 7) (σ 7), wB E (bd 8) (σ 8), wB E (bd 9) (σ 9), wM E am μ, wO E ao o]) (st1 := [.int 1]) [.ref ax, .int a, .ref ao] [0, 1, 2, 3, 4, 5, 6, 7, 8, 9, 10, 11, 12, 13, 15] (kL_closedAt_0 l E ax bo β tr τ ac γ ah bd η σ at_ θ ao o hlt hvb a hr) q6_44 q1_0 (by decide +kernel) q6_43 q6_42 rfl ⟨Nat.le_of_ble_eq_true rfl, Nat.le_of_ble_eq_true rfl⟩ ⟨hk, hn⟩ (by decide) rfl rfl rfl rfl (Nat.le_of_ble_eq_true rfl) dL_law_3547 rfl ?_
    refine g_istore C (lv1 := [(5, .int 1), (0, .ref b0), (1, .ref ax), (2, .ref (am 0)), (3, .ref ao), (4, .int (nI i))]) dL_law_3550 (by decide) rfl ?_
    refine g_aload_n C dL_law_3552 rfl 3 rfl ?_
    refine g_aload_n C dL_law_3553 rfl 1 rfl ?_
    refine g_iload C dL_law_3554 5 rfl ?_
    refine g_iconst C (v := 1) dL_law_3556 (by decide) ?_
    refine g_iadd C dL_law_3557 ?_
    refine g_sldv C S (i + 1) (nx_add (rfl : nI i = nI i) (rfl : (1 : Int32) = nI 1)) (by omega) ha9 dL_law_3558 ?_
    refine g_callV C (cs1 := [wX ax (bo 0) (tr 0) (ac 0) (ah 0) (at_ 0), wB E bo β, wB E tr τ, wC E ac ((fX6_closedAt β γ a).2), wH E ah bd η, wT E at_ θ, wB E (bd 2) (σ 2), wB E (bd 3) (σ 3), wB E (bd 4) (σ 4), wB E (bd 5) (σ 5), wB E (bd 6) (σ 6), wB E (bd 7) (σ 7), wB E (bd 8) (σ 8), wB E (bd 9) (σ 9), wM E am ((fX7_closedAt μ a).2), wO E ao o]) (st1 := [.int ((fX7_closedAt μ a).1)]) [.int a] [14] (kX7_closedAt l E am μ hvm ha a) caX7_closedAt q8_103 rfl ⟨Nat.le_of_ble_eq_true rfl, Nat.le_of_ble_eq_true rfl⟩ ⟨hk, hn⟩ 14 0 rfl rfl rfl rfl (by decide) rfl rfl rfl rfl (Nat.le_of_ble_eq_true rfl) dL_law_3559 rfl ?_
    refine g_istore C (lv1 := [(6, .int ((fX7_closedAt μ a).1)), (5, .int 1), (0, .ref b0), (1, .ref ax), (2, .ref (am 0)), (3, .ref ao), (4, .int (nI i))]) dL_law_3562 (by decide) rfl ?_
    refine g_aload_n C dL_law_3564 rfl 4 rfl ?_
    refine g_callV C (cs1 := [wX ax (bo 0) (tr 0) (ac 0) (ah 0) (at_ 0), wB E bo β, wB E tr τ, wC E ac ((fX6_closedAt β γ a).2), wH E ah bd η, wT E at_ θ, wB E (bd 2) (σ 2), wB E (bd 3) (σ 3), wB E (bd 4) (σ 4), wB E (bd 5) (σ 5), wB E (bd 6) (σ 6), wB E (bd 7) (σ 7), wB E (bd 8) (σ 8), wB E (bd 9) (σ 9), wM E am ((fX7_closedAt μ a).2), wO E ao o]) (st1 := [.int (fX7_thrown ((fX7_closedAt μ a).2))]) [] [14] (kX7_thrown l E am ((fX7_closedAt μ a).2)) caX7_thrown q6_116 rfl ⟨Nat.le_of_ble_eq_true rfl, Nat.le_of_ble_eq_true rfl⟩ ⟨hk, hn⟩ 14 0 rfl rfl rfl rfl (by decide) rfl rfl rfl rfl (Nat.le_of_ble_eq_true rfl) dL_law_3565 rfl ?_
    refine g_iload C dL_law_3568 1 rfl ?_
    refine g_icmp_eq C 3575 dL_law_3570 (by decide) (fun _ => ?_) (fun c => absurd ht c)
    refine g_iload C dL_law_3575 1 rfl ?_
    refine g_if_ne C 3592 dL_law_3577 (by decide) (fun _ => ?_) (fun c => absurd c (by decide))
    refine g_goto C 3840 dL_law_3592 (by decide) ?_
    exact g_sub [2, 3, 4, 5, 6] rfl (next β τ ((fX6_closedAt β γ a).2) η σ θ ((fX7_closedAt μ a).2) o hR2)
set_option maxHeartbeats 4000000 in
set_option maxRecDepth 100000 in
theorem arm_64 {Rl : RlT} (hRv : RlV Rl) (hs : sH_day Rl)  {X : gX} {l : Launch} {E : gE} (C : gC X cL_law 9 RL (some .boolean) l E room_1) (hZ : gZ X.2.2.2.2.2.2.2.2.2.2.2.1 X.2.2.2.2.1 X.2.2.2.2.1.heap) (hNc : gNc X.2.2.2.2.1) {b0 L0 : Nat} {xs : Nat → Int32} (S : gS X b0 L0 xs) (hlt : l.stackTraces = false) {ax : Nat} {bo tr ac ah : Nat → Nat} {bd : Nat → Nat → Nat} {at_ am : Nat → Nat} {ao k n i : Nat} (hk : k + 3 ≤ 601024) (hn : n + 18 ≤ 7293034) (hi : i + 3 ≤ L0) {β τ γ η : BS} {σ : Nat → BS} {θ μ : BS} {o : Nat → Int64} (hR : Rl β η θ σ μ) (next : ∀ (β τ γ η : BS) (σ : Nat → BS) (θ μ : BS) (o : Nat → Int64), Rl β η θ σ μ → G X (k + 3) (n + 18) [wX ax (bo 0) (tr 0) (ac 0) (ah 0) (at_ 0), wB E bo β, wB E tr τ, wC E ac γ, wH E ah bd η, wT E at_ θ, wB E (bd 2) (σ 2), wB E (bd 3) (σ 3), wB E (bd 4) (σ 4), wB E (bd 5) (σ 5), wB E (bd 6) (σ 6), wB E (bd 7) (σ 7), wB E (bd 8) (σ 8), wB E (bd 9) (σ 9), wM E am μ, wO E ao o] [(0, .ref b0), (1, .ref ax), (2, .ref (am 0)), (3, .ref ao), (4, .int (nI i))] 3840 []) : G X k n [wX ax (bo 0) (tr 0) (ac 0) (ah 0) (at_ 0), wB E bo β, wB E tr τ, wC E ac γ, wH E ah bd η, wT E at_ θ, wB E (bd 2) (σ 2), wB E (bd 3) (σ 3), wB E (bd 4) (σ 4), wB E (bd 5) (σ 5), wB E (bd 6) (σ 6), wB E (bd 7) (σ 7), wB E (bd 8) (σ 8), wB E (bd 9) (σ 9), wM E am μ, wO E ao o] [(0, .ref b0), (1, .ref ax), (2, .ref (am 0)), (3, .ref ao), (4, .int (nI i))] 3595 [] := by
  obtain ⟨hvb, hvh, hvt, hvm, ha⟩ := hRv β η θ σ μ hR
  obtain ⟨hr, hR2⟩ := hs β τ γ η σ θ μ hR
  refine g_aload_n C dL_law_3595 rfl 1 rfl ?_
  refine g_callV C (cs1 := [wX ax (bo 0) (tr 0) (ac 0) (ah 0) (at_ 0), wB E bo β, wB E tr τ, wC E ac γ, wH E ah bd η, wT E at_ θ, wB E (bd 2) (σ 2), wB E (bd 3) (σ 3), wB E (bd 4) (σ 4), wB E (bd 5) (σ 5), wB E (bd 6) (σ 6), wB E (bd 7) (σ 7), wB E (bd 8) (σ 8), wB E (bd 9) (σ 9), wM E am μ, wO E ao o]) (st1 := [.int (fX6_day β)]) [] [0, 1, 2, 3, 4, 5, 6, 7, 8, 9, 10, 11, 12, 13] (kX6_day l E ax bo β tr τ ac γ ah bd η σ at_ θ ) caX6_day q2_120 rfl ⟨Nat.le_of_ble_eq_true rfl, Nat.le_of_ble_eq_true rfl⟩ ⟨Nat.le_of_succ_le (Nat.le_of_succ_le (Nat.le_of_succ_le hk)), Nat.le_trans (Nat.le_add_right _ _) hn⟩ 0 0 rfl rfl rfl rfl (by decide) rfl rfl rfl rfl (Nat.le_of_ble_eq_true rfl) dL_law_3596 rfl ?_
  refine g_aload_n C dL_law_3599 rfl 2 rfl ?_
  refine g_callV C (cs1 := [wX ax (bo 0) (tr 0) (ac 0) (ah 0) (at_ 0), wB E bo β, wB E tr τ, wC E ac γ, wH E ah bd η, wT E at_ θ, wB E (bd 2) (σ 2), wB E (bd 3) (σ 3), wB E (bd 4) (σ 4), wB E (bd 5) (σ 5), wB E (bd 6) (σ 6), wB E (bd 7) (σ 7), wB E (bd 8) (σ 8), wB E (bd 9) (σ 9), wM E am ((fX7_day μ).2), wO E ao o]) (st1 := [.int ((fX7_day μ).1), .int (fX6_day β)]) [] [14] (kX7_day l E am μ  ) caX7_day q8_111 rfl ⟨Nat.le_of_ble_eq_true rfl, Nat.le_of_ble_eq_true rfl⟩ ⟨Nat.le_of_succ_le (Nat.le_of_succ_le (Nat.le_of_succ_le hk)), Nat.le_trans (Nat.le_add_right _ _) hn⟩ 14 0 rfl rfl rfl rfl (by decide) rfl rfl rfl rfl (Nat.le_of_ble_eq_true rfl) dL_law_3600 rfl ?_
  refine g_icmp_eq C 3840 dL_law_3603 (by decide) (fun _ => ?_) (fun c => absurd hr c)
  refine g_widen (k1 := k + 3) (n1 := n + 18) (Nat.le_add_right _ _) (Nat.le_add_right _ _) ?_
  exact g_sub [0, 1, 2, 3, 4] rfl (next β τ γ η σ θ ((fX7_day μ).2) o hR2)
set_option maxHeartbeats 4000000 in
set_option maxRecDepth 100000 in
theorem arm_65 {Rl : RlT} (hRv : RlV Rl) (hs : sH_withState Rl)  {X : gX} {l : Launch} {E : gE} (C : gC X cL_law 9 RL (some .boolean) l E room_1) (hZ : gZ X.2.2.2.2.2.2.2.2.2.2.2.1 X.2.2.2.2.1 X.2.2.2.2.1.heap) (hNc : gNc X.2.2.2.2.1) {b0 L0 : Nat} {xs : Nat → Int32} (S : gS X b0 L0 xs) (hlt : l.stackTraces = false) {ax : Nat} {bo tr ac ah : Nat → Nat} {bd : Nat → Nat → Nat} {at_ am : Nat → Nat} {ao k n i : Nat} (hk : k + 3 ≤ 601024) (hn : n + 18 ≤ 7293034) (hi : i + 3 ≤ L0) {β τ γ η : BS} {σ : Nat → BS} {θ μ : BS} {o : Nat → Int64} (hR : Rl β η θ σ μ) (next : ∀ (β τ γ η : BS) (σ : Nat → BS) (θ μ : BS) (o : Nat → Int64), Rl β η θ σ μ → G X (k + 3) (n + 18) [wX ax (bo 0) (tr 0) (ac 0) (ah 0) (at_ 0), wB E bo β, wB E tr τ, wC E ac γ, wH E ah bd η, wT E at_ θ, wB E (bd 2) (σ 2), wB E (bd 3) (σ 3), wB E (bd 4) (σ 4), wB E (bd 5) (σ 5), wB E (bd 6) (σ 6), wB E (bd 7) (σ 7), wB E (bd 8) (σ 8), wB E (bd 9) (σ 9), wM E am μ, wO E ao o] [(0, .ref b0), (1, .ref ax), (2, .ref (am 0)), (3, .ref ao), (4, .int (nI i))] 3840 []) : G X k n [wX ax (bo 0) (tr 0) (ac 0) (ah 0) (at_ 0), wB E bo β, wB E tr τ, wC E ac γ, wH E ah bd η, wT E at_ θ, wB E (bd 2) (σ 2), wB E (bd 3) (σ 3), wB E (bd 4) (σ 4), wB E (bd 5) (σ 5), wB E (bd 6) (σ 6), wB E (bd 7) (σ 7), wB E (bd 8) (σ 8), wB E (bd 9) (σ 9), wM E am μ, wO E ao o] [(0, .ref b0), (1, .ref ax), (2, .ref (am 0)), (3, .ref ao), (4, .int (nI i))] 3608 [] := by
  obtain ⟨hvb, hvh, hvt, hvm, ha⟩ := hRv β η θ σ μ hR
  obtain ⟨a, ha9⟩ : ∃ a, xs (i + 1) = a := ⟨_, rfl⟩
  obtain ⟨hag, hR2⟩ := hs β τ γ η σ θ μ a hR
  rcases hag with ⟨hr, ht⟩ | ⟨hr, ht⟩
  · skip
    refine g_aload_n C dL_law_3608 rfl 1 rfl ?_
    refine g_aload_n C dL_law_3609 rfl 0 rfl ?_
    refine g_iload C dL_law_3610 4 rfl ?_
    refine g_iconst C (v := 1) dL_law_3612 (by decide) ?_
    refine g_iadd C dL_law_3613 ?_
    refine g_sldv C S (i + 1) (nx_add (rfl : nI i = nI i) (rfl : (1 : Int32) = nI 1)) (by omega) ha9 dL_law_3614 ?_
    refine g_aload_n C dL_law_3615 rfl 3 rfl ?_
    refine g_callSW C hZ hNc (z := 3) (cs1 := [wX ax (bo 0) (tr 0) (ac 0) (ah 0) (at_ 0), wB E bo β, wB E tr τ, wC E ac γ, wH E ah bd η, wT E at_ θ, wB E (bd 2) (σ 2), wB E (bd 3) (σ 3), wB E (bd 4) (σ 4), wB E (bd 5) (σ 5), wB E (bd 6) (σ 6), wB E (bd 7) (σ 7), wB E (bd 8) (σ 8), wB E (bd 9) (σ 9), wM E am μ, wO E ao (vp_updL o 0 ((fX7_withState μ a).1).toInt64)]) (st1 := [.int 0]) [.ref ax, .int a, .ref ao] [0, 1, 2, 3, 4, 5, 6, 7, 8, 9, 10, 11, 12, 13, 15] (kL_withState_r l E ax bo β tr τ ac γ ah bd η σ at_ θ ao o hlt hvb a ((fX7_withState μ a).1) hr) q6_51 q1_0 (by decide +kernel) q6_50 q6_49 rfl ⟨Nat.le_of_ble_eq_true rfl, Nat.le_of_ble_eq_true rfl⟩ ⟨hk, hn⟩ (by decide) rfl rfl rfl rfl (Nat.le_of_ble_eq_true rfl) dL_law_3616 rfl ?_
    refine g_istore C (lv1 := [(5, .int 0), (0, .ref b0), (1, .ref ax), (2, .ref (am 0)), (3, .ref ao), (4, .int (nI i))]) dL_law_3619 (by decide) rfl ?_
    refine g_aload_n C dL_law_3621 rfl 3 rfl ?_
    refine g_aload_n C dL_law_3622 rfl 1 rfl ?_
    refine g_iload C dL_law_3623 5 rfl ?_
    refine g_iconst C (v := 1) dL_law_3625 (by decide) ?_
    refine g_iadd C dL_law_3626 ?_
    refine g_sldv C S (i + 1) (nx_add (rfl : nI i = nI i) (rfl : (1 : Int32) = nI 1)) (by omega) ha9 dL_law_3627 ?_
    refine g_callV C (cs1 := [wX ax (bo 0) (tr 0) (ac 0) (ah 0) (at_ 0), wB E bo β, wB E tr τ, wC E ac γ, wH E ah bd η, wT E at_ θ, wB E (bd 2) (σ 2), wB E (bd 3) (σ 3), wB E (bd 4) (σ 4), wB E (bd 5) (σ 5), wB E (bd 6) (σ 6), wB E (bd 7) (σ 7), wB E (bd 8) (σ 8), wB E (bd 9) (σ 9), wM E am ((fX7_withState μ a).2), wO E ao (vp_updL o 0 ((fX7_withState μ a).1).toInt64)]) (st1 := [.int ((fX7_withState μ a).1)]) [.int a] [14] (kX7_withState l E am μ hvm a) caX7_withState q8_115 rfl ⟨Nat.le_of_ble_eq_true rfl, Nat.le_of_ble_eq_true rfl⟩ ⟨hk, hn⟩ 14 0 rfl rfl rfl rfl (by decide) rfl rfl rfl rfl (Nat.le_of_ble_eq_true rfl) dL_law_3628 rfl ?_
    refine g_istore C (lv1 := [(6, .int ((fX7_withState μ a).1)), (5, .int 0), (0, .ref b0), (1, .ref ax), (2, .ref (am 0)), (3, .ref ao), (4, .int (nI i))]) dL_law_3631 (by decide) rfl ?_
    refine g_aload_n C dL_law_3633 rfl 4 rfl ?_
    refine g_callV C (cs1 := [wX ax (bo 0) (tr 0) (ac 0) (ah 0) (at_ 0), wB E bo β, wB E tr τ, wC E ac γ, wH E ah bd η, wT E at_ θ, wB E (bd 2) (σ 2), wB E (bd 3) (σ 3), wB E (bd 4) (σ 4), wB E (bd 5) (σ 5), wB E (bd 6) (σ 6), wB E (bd 7) (σ 7), wB E (bd 8) (σ 8), wB E (bd 9) (σ 9), wM E am ((fX7_withState μ a).2), wO E ao (vp_updL o 0 ((fX7_withState μ a).1).toInt64)]) (st1 := [.int (fX7_thrown ((fX7_withState μ a).2))]) [] [14] (kX7_thrown l E am ((fX7_withState μ a).2)) caX7_thrown q6_116 rfl ⟨Nat.le_of_ble_eq_true rfl, Nat.le_of_ble_eq_true rfl⟩ ⟨hk, hn⟩ 14 0 rfl rfl rfl rfl (by decide) rfl rfl rfl rfl (Nat.le_of_ble_eq_true rfl) dL_law_3634 rfl ?_
    refine g_iload C dL_law_3637 1 rfl ?_
    refine g_icmp_eq C 3644 dL_law_3639 (by decide) (fun _ => ?_) (fun c => absurd ht c)
    refine g_iload C dL_law_3644 1 rfl ?_
    refine g_if_ne C 3661 dL_law_3646 (by decide) (fun c => absurd rfl c) (fun _ => ?_)
    refine g_aload_n C dL_law_3649 rfl 5 rfl ?_
    refine g_iconst C (v := 0) dL_law_3650 (by decide) ?_
    refine g_laldn C 15 0 0 rfl rfl rfl (by decide) (by decide) dL_law_3651 ?_
    refine g_iload C dL_law_3652 0 rfl ?_
    refine g_i2l C dL_law_3654 ?_
    refine g_lcmp C dL_law_3655 ?_
    refine g_if_eq C 3661 dL_law_3656 (by decide) (fun _ => ?_) (fun c => absurd law_cmp c)
    refine g_goto C 3840 dL_law_3661 (by decide) ?_
    exact g_sub [2, 3, 4, 5, 6] rfl (next β τ γ η σ θ ((fX7_withState μ a).2) (vp_updL o 0 ((fX7_withState μ a).1).toInt64) hR2)
  · skip
    refine g_aload_n C dL_law_3608 rfl 1 rfl ?_
    refine g_aload_n C dL_law_3609 rfl 0 rfl ?_
    refine g_iload C dL_law_3610 4 rfl ?_
    refine g_iconst C (v := 1) dL_law_3612 (by decide) ?_
    refine g_iadd C dL_law_3613 ?_
    refine g_sldv C S (i + 1) (nx_add (rfl : nI i = nI i) (rfl : (1 : Int32) = nI 1)) (by omega) ha9 dL_law_3614 ?_
    refine g_aload_n C dL_law_3615 rfl 3 rfl ?_
    refine g_callSW C hZ hNc (z := 3) (cs1 := [wX ax (bo 0) (tr 0) (ac 0) (ah 0) (at_ 0), wB E bo β, wB E tr τ, wC E ac γ, wH E ah bd η, wT E at_ θ, wB E (bd 2) (σ 2), wB E (bd 3) (σ 3), wB E (bd 4) (σ 4), wB E (bd 5) (σ 5), wB E (bd 6) (σ 6), wB E (bd 7) (σ 7), wB E (bd 8) (σ 8), wB E (bd 9) (σ 9), wM E am μ, wO E ao o]) (st1 := [.int 1]) [.ref ax, .int a, .ref ao] [0, 1, 2, 3, 4, 5, 6, 7, 8, 9, 10, 11, 12, 13, 15] (kL_withState_0 l E ax bo β tr τ ac γ ah bd η σ at_ θ ao o hlt hvb a hr) q6_51 q1_0 (by decide +kernel) q6_50 q6_49 rfl ⟨Nat.le_of_ble_eq_true rfl, Nat.le_of_ble_eq_true rfl⟩ ⟨hk, hn⟩ (by decide) rfl rfl rfl rfl (Nat.le_of_ble_eq_true rfl) dL_law_3616 rfl ?_
    refine g_istore C (lv1 := [(5, .int 1), (0, .ref b0), (1, .ref ax), (2, .ref (am 0)), (3, .ref ao), (4, .int (nI i))]) dL_law_3619 (by decide) rfl ?_
    refine g_aload_n C dL_law_3621 rfl 3 rfl ?_
    refine g_aload_n C dL_law_3622 rfl 1 rfl ?_
    refine g_iload C dL_law_3623 5 rfl ?_
    refine g_iconst C (v := 1) dL_law_3625 (by decide) ?_
    refine g_iadd C dL_law_3626 ?_
    refine g_sldv C S (i + 1) (nx_add (rfl : nI i = nI i) (rfl : (1 : Int32) = nI 1)) (by omega) ha9 dL_law_3627 ?_
    refine g_callV C (cs1 := [wX ax (bo 0) (tr 0) (ac 0) (ah 0) (at_ 0), wB E bo β, wB E tr τ, wC E ac γ, wH E ah bd η, wT E at_ θ, wB E (bd 2) (σ 2), wB E (bd 3) (σ 3), wB E (bd 4) (σ 4), wB E (bd 5) (σ 5), wB E (bd 6) (σ 6), wB E (bd 7) (σ 7), wB E (bd 8) (σ 8), wB E (bd 9) (σ 9), wM E am ((fX7_withState μ a).2), wO E ao o]) (st1 := [.int ((fX7_withState μ a).1)]) [.int a] [14] (kX7_withState l E am μ hvm a) caX7_withState q8_115 rfl ⟨Nat.le_of_ble_eq_true rfl, Nat.le_of_ble_eq_true rfl⟩ ⟨hk, hn⟩ 14 0 rfl rfl rfl rfl (by decide) rfl rfl rfl rfl (Nat.le_of_ble_eq_true rfl) dL_law_3628 rfl ?_
    refine g_istore C (lv1 := [(6, .int ((fX7_withState μ a).1)), (5, .int 1), (0, .ref b0), (1, .ref ax), (2, .ref (am 0)), (3, .ref ao), (4, .int (nI i))]) dL_law_3631 (by decide) rfl ?_
    refine g_aload_n C dL_law_3633 rfl 4 rfl ?_
    refine g_callV C (cs1 := [wX ax (bo 0) (tr 0) (ac 0) (ah 0) (at_ 0), wB E bo β, wB E tr τ, wC E ac γ, wH E ah bd η, wT E at_ θ, wB E (bd 2) (σ 2), wB E (bd 3) (σ 3), wB E (bd 4) (σ 4), wB E (bd 5) (σ 5), wB E (bd 6) (σ 6), wB E (bd 7) (σ 7), wB E (bd 8) (σ 8), wB E (bd 9) (σ 9), wM E am ((fX7_withState μ a).2), wO E ao o]) (st1 := [.int (fX7_thrown ((fX7_withState μ a).2))]) [] [14] (kX7_thrown l E am ((fX7_withState μ a).2)) caX7_thrown q6_116 rfl ⟨Nat.le_of_ble_eq_true rfl, Nat.le_of_ble_eq_true rfl⟩ ⟨hk, hn⟩ 14 0 rfl rfl rfl rfl (by decide) rfl rfl rfl rfl (Nat.le_of_ble_eq_true rfl) dL_law_3634 rfl ?_
    refine g_iload C dL_law_3637 1 rfl ?_
    refine g_icmp_eq C 3644 dL_law_3639 (by decide) (fun _ => ?_) (fun c => absurd ht c)
    refine g_iload C dL_law_3644 1 rfl ?_
    refine g_if_ne C 3661 dL_law_3646 (by decide) (fun _ => ?_) (fun c => absurd c (by decide))
    refine g_goto C 3840 dL_law_3661 (by decide) ?_
    exact g_sub [2, 3, 4, 5, 6] rfl (next β τ γ η σ θ ((fX7_withState μ a).2) o hR2)
set_option maxHeartbeats 4000000 in
set_option maxRecDepth 100000 in
theorem arm_66 {Rl : RlT} (hRv : RlV Rl) (hs : sH_pointsWith Rl)  {X : gX} {l : Launch} {E : gE} (C : gC X cL_law 9 RL (some .boolean) l E room_1) (hZ : gZ X.2.2.2.2.2.2.2.2.2.2.2.1 X.2.2.2.2.1 X.2.2.2.2.1.heap) (hNc : gNc X.2.2.2.2.1) {b0 L0 : Nat} {xs : Nat → Int32} (S : gS X b0 L0 xs) (hlt : l.stackTraces = false) {ax : Nat} {bo tr ac ah : Nat → Nat} {bd : Nat → Nat → Nat} {at_ am : Nat → Nat} {ao k n i : Nat} (hk : k + 3 ≤ 601024) (hn : n + 18 ≤ 7293034) (hi : i + 3 ≤ L0) {β τ γ η : BS} {σ : Nat → BS} {θ μ : BS} {o : Nat → Int64} (hR : Rl β η θ σ μ) (next : ∀ (β τ γ η : BS) (σ : Nat → BS) (θ μ : BS) (o : Nat → Int64), Rl β η θ σ μ → G X (k + 3) (n + 18) [wX ax (bo 0) (tr 0) (ac 0) (ah 0) (at_ 0), wB E bo β, wB E tr τ, wC E ac γ, wH E ah bd η, wT E at_ θ, wB E (bd 2) (σ 2), wB E (bd 3) (σ 3), wB E (bd 4) (σ 4), wB E (bd 5) (σ 5), wB E (bd 6) (σ 6), wB E (bd 7) (σ 7), wB E (bd 8) (σ 8), wB E (bd 9) (σ 9), wM E am μ, wO E ao o] [(0, .ref b0), (1, .ref ax), (2, .ref (am 0)), (3, .ref ao), (4, .int (nI i))] 3840 []) : G X k n [wX ax (bo 0) (tr 0) (ac 0) (ah 0) (at_ 0), wB E bo β, wB E tr τ, wC E ac γ, wH E ah bd η, wT E at_ θ, wB E (bd 2) (σ 2), wB E (bd 3) (σ 3), wB E (bd 4) (σ 4), wB E (bd 5) (σ 5), wB E (bd 6) (σ 6), wB E (bd 7) (σ 7), wB E (bd 8) (σ 8), wB E (bd 9) (σ 9), wM E am μ, wO E ao o] [(0, .ref b0), (1, .ref ax), (2, .ref (am 0)), (3, .ref ao), (4, .int (nI i))] 3664 [] := by
  obtain ⟨hvb, hvh, hvt, hvm, ha⟩ := hRv β η θ σ μ hR
  obtain ⟨a, ha9⟩ : ∃ a, xs (i + 1) = a := ⟨_, rfl⟩
  obtain ⟨hag, hR2⟩ := hs β τ γ η σ θ μ a hR
  rcases hag with ⟨hr, ht⟩ | ⟨hr, ht⟩
  · skip
    refine g_aload_n C dL_law_3664 rfl 1 rfl ?_
    refine g_aload_n C dL_law_3665 rfl 0 rfl ?_
    refine g_iload C dL_law_3666 4 rfl ?_
    refine g_iconst C (v := 1) dL_law_3668 (by decide) ?_
    refine g_iadd C dL_law_3669 ?_
    refine g_sldv C S (i + 1) (nx_add (rfl : nI i = nI i) (rfl : (1 : Int32) = nI 1)) (by omega) ha9 dL_law_3670 ?_
    refine g_aload_n C dL_law_3671 rfl 3 rfl ?_
    refine g_callSW C hZ hNc (z := 3) (cs1 := [wX ax (bo 0) (tr 0) (ac 0) (ah 0) (at_ 0), wB E bo β, wB E tr τ, wC E ac γ, wH E ah bd η, wT E at_ θ, wB E (bd 2) (σ 2), wB E (bd 3) (σ 3), wB E (bd 4) (σ 4), wB E (bd 5) (σ 5), wB E (bd 6) (σ 6), wB E (bd 7) (σ 7), wB E (bd 8) (σ 8), wB E (bd 9) (σ 9), wM E am μ, wO E ao (vp_updL o 0 ((fX7_pointsWith μ a).1).toInt64)]) (st1 := [.int 0]) [.ref ax, .int a, .ref ao] [0, 1, 2, 3, 4, 5, 6, 7, 8, 9, 10, 11, 12, 13, 15] (kL_pointsWith_r l E ax bo β tr τ ac γ ah bd η σ at_ θ ao o hlt hvb a ((fX7_pointsWith μ a).1) hr) q6_59 q1_0 (by decide +kernel) q6_58 q6_57 rfl ⟨Nat.le_of_ble_eq_true rfl, Nat.le_of_ble_eq_true rfl⟩ ⟨hk, hn⟩ (by decide) rfl rfl rfl rfl (Nat.le_of_ble_eq_true rfl) dL_law_3672 rfl ?_
    refine g_istore C (lv1 := [(5, .int 0), (0, .ref b0), (1, .ref ax), (2, .ref (am 0)), (3, .ref ao), (4, .int (nI i))]) dL_law_3675 (by decide) rfl ?_
    refine g_aload_n C dL_law_3677 rfl 3 rfl ?_
    refine g_aload_n C dL_law_3678 rfl 1 rfl ?_
    refine g_iload C dL_law_3679 5 rfl ?_
    refine g_iconst C (v := 1) dL_law_3681 (by decide) ?_
    refine g_iadd C dL_law_3682 ?_
    refine g_sldv C S (i + 1) (nx_add (rfl : nI i = nI i) (rfl : (1 : Int32) = nI 1)) (by omega) ha9 dL_law_3683 ?_
    refine g_callV C (cs1 := [wX ax (bo 0) (tr 0) (ac 0) (ah 0) (at_ 0), wB E bo β, wB E tr τ, wC E ac γ, wH E ah bd η, wT E at_ θ, wB E (bd 2) (σ 2), wB E (bd 3) (σ 3), wB E (bd 4) (σ 4), wB E (bd 5) (σ 5), wB E (bd 6) (σ 6), wB E (bd 7) (σ 7), wB E (bd 8) (σ 8), wB E (bd 9) (σ 9), wM E am ((fX7_pointsWith μ a).2), wO E ao (vp_updL o 0 ((fX7_pointsWith μ a).1).toInt64)]) (st1 := [.int ((fX7_pointsWith μ a).1)]) [.int a] [14] (kX7_pointsWith l E am μ hvm a) caX7_pointsWith q8_123 rfl ⟨Nat.le_of_ble_eq_true rfl, Nat.le_of_ble_eq_true rfl⟩ ⟨hk, hn⟩ 14 0 rfl rfl rfl rfl (by decide) rfl rfl rfl rfl (Nat.le_of_ble_eq_true rfl) dL_law_3684 rfl ?_
    refine g_istore C (lv1 := [(6, .int ((fX7_pointsWith μ a).1)), (5, .int 0), (0, .ref b0), (1, .ref ax), (2, .ref (am 0)), (3, .ref ao), (4, .int (nI i))]) dL_law_3687 (by decide) rfl ?_
    refine g_aload_n C dL_law_3689 rfl 4 rfl ?_
    refine g_callV C (cs1 := [wX ax (bo 0) (tr 0) (ac 0) (ah 0) (at_ 0), wB E bo β, wB E tr τ, wC E ac γ, wH E ah bd η, wT E at_ θ, wB E (bd 2) (σ 2), wB E (bd 3) (σ 3), wB E (bd 4) (σ 4), wB E (bd 5) (σ 5), wB E (bd 6) (σ 6), wB E (bd 7) (σ 7), wB E (bd 8) (σ 8), wB E (bd 9) (σ 9), wM E am ((fX7_pointsWith μ a).2), wO E ao (vp_updL o 0 ((fX7_pointsWith μ a).1).toInt64)]) (st1 := [.int (fX7_thrown ((fX7_pointsWith μ a).2))]) [] [14] (kX7_thrown l E am ((fX7_pointsWith μ a).2)) caX7_thrown q6_116 rfl ⟨Nat.le_of_ble_eq_true rfl, Nat.le_of_ble_eq_true rfl⟩ ⟨hk, hn⟩ 14 0 rfl rfl rfl rfl (by decide) rfl rfl rfl rfl (Nat.le_of_ble_eq_true rfl) dL_law_3690 rfl ?_
    refine g_iload C dL_law_3693 1 rfl ?_
    refine g_icmp_eq C 3700 dL_law_3695 (by decide) (fun _ => ?_) (fun c => absurd ht c)
    refine g_iload C dL_law_3700 1 rfl ?_
    refine g_if_ne C 3717 dL_law_3702 (by decide) (fun c => absurd rfl c) (fun _ => ?_)
    refine g_aload_n C dL_law_3705 rfl 5 rfl ?_
    refine g_iconst C (v := 0) dL_law_3706 (by decide) ?_
    refine g_laldn C 15 0 0 rfl rfl rfl (by decide) (by decide) dL_law_3707 ?_
    refine g_iload C dL_law_3708 0 rfl ?_
    refine g_i2l C dL_law_3710 ?_
    refine g_lcmp C dL_law_3711 ?_
    refine g_if_eq C 3717 dL_law_3712 (by decide) (fun _ => ?_) (fun c => absurd law_cmp c)
    refine g_goto C 3840 dL_law_3717 (by decide) ?_
    exact g_sub [2, 3, 4, 5, 6] rfl (next β τ γ η σ θ ((fX7_pointsWith μ a).2) (vp_updL o 0 ((fX7_pointsWith μ a).1).toInt64) hR2)
  · skip
    refine g_aload_n C dL_law_3664 rfl 1 rfl ?_
    refine g_aload_n C dL_law_3665 rfl 0 rfl ?_
    refine g_iload C dL_law_3666 4 rfl ?_
    refine g_iconst C (v := 1) dL_law_3668 (by decide) ?_
    refine g_iadd C dL_law_3669 ?_
    refine g_sldv C S (i + 1) (nx_add (rfl : nI i = nI i) (rfl : (1 : Int32) = nI 1)) (by omega) ha9 dL_law_3670 ?_
    refine g_aload_n C dL_law_3671 rfl 3 rfl ?_
    refine g_callSW C hZ hNc (z := 3) (cs1 := [wX ax (bo 0) (tr 0) (ac 0) (ah 0) (at_ 0), wB E bo β, wB E tr τ, wC E ac γ, wH E ah bd η, wT E at_ θ, wB E (bd 2) (σ 2), wB E (bd 3) (σ 3), wB E (bd 4) (σ 4), wB E (bd 5) (σ 5), wB E (bd 6) (σ 6), wB E (bd 7) (σ 7), wB E (bd 8) (σ 8), wB E (bd 9) (σ 9), wM E am μ, wO E ao o]) (st1 := [.int 1]) [.ref ax, .int a, .ref ao] [0, 1, 2, 3, 4, 5, 6, 7, 8, 9, 10, 11, 12, 13, 15] (kL_pointsWith_0 l E ax bo β tr τ ac γ ah bd η σ at_ θ ao o hlt hvb a hr) q6_59 q1_0 (by decide +kernel) q6_58 q6_57 rfl ⟨Nat.le_of_ble_eq_true rfl, Nat.le_of_ble_eq_true rfl⟩ ⟨hk, hn⟩ (by decide) rfl rfl rfl rfl (Nat.le_of_ble_eq_true rfl) dL_law_3672 rfl ?_
    refine g_istore C (lv1 := [(5, .int 1), (0, .ref b0), (1, .ref ax), (2, .ref (am 0)), (3, .ref ao), (4, .int (nI i))]) dL_law_3675 (by decide) rfl ?_
    refine g_aload_n C dL_law_3677 rfl 3 rfl ?_
    refine g_aload_n C dL_law_3678 rfl 1 rfl ?_
    refine g_iload C dL_law_3679 5 rfl ?_
    refine g_iconst C (v := 1) dL_law_3681 (by decide) ?_
    refine g_iadd C dL_law_3682 ?_
    refine g_sldv C S (i + 1) (nx_add (rfl : nI i = nI i) (rfl : (1 : Int32) = nI 1)) (by omega) ha9 dL_law_3683 ?_
    refine g_callV C (cs1 := [wX ax (bo 0) (tr 0) (ac 0) (ah 0) (at_ 0), wB E bo β, wB E tr τ, wC E ac γ, wH E ah bd η, wT E at_ θ, wB E (bd 2) (σ 2), wB E (bd 3) (σ 3), wB E (bd 4) (σ 4), wB E (bd 5) (σ 5), wB E (bd 6) (σ 6), wB E (bd 7) (σ 7), wB E (bd 8) (σ 8), wB E (bd 9) (σ 9), wM E am ((fX7_pointsWith μ a).2), wO E ao o]) (st1 := [.int ((fX7_pointsWith μ a).1)]) [.int a] [14] (kX7_pointsWith l E am μ hvm a) caX7_pointsWith q8_123 rfl ⟨Nat.le_of_ble_eq_true rfl, Nat.le_of_ble_eq_true rfl⟩ ⟨hk, hn⟩ 14 0 rfl rfl rfl rfl (by decide) rfl rfl rfl rfl (Nat.le_of_ble_eq_true rfl) dL_law_3684 rfl ?_
    refine g_istore C (lv1 := [(6, .int ((fX7_pointsWith μ a).1)), (5, .int 1), (0, .ref b0), (1, .ref ax), (2, .ref (am 0)), (3, .ref ao), (4, .int (nI i))]) dL_law_3687 (by decide) rfl ?_
    refine g_aload_n C dL_law_3689 rfl 4 rfl ?_
    refine g_callV C (cs1 := [wX ax (bo 0) (tr 0) (ac 0) (ah 0) (at_ 0), wB E bo β, wB E tr τ, wC E ac γ, wH E ah bd η, wT E at_ θ, wB E (bd 2) (σ 2), wB E (bd 3) (σ 3), wB E (bd 4) (σ 4), wB E (bd 5) (σ 5), wB E (bd 6) (σ 6), wB E (bd 7) (σ 7), wB E (bd 8) (σ 8), wB E (bd 9) (σ 9), wM E am ((fX7_pointsWith μ a).2), wO E ao o]) (st1 := [.int (fX7_thrown ((fX7_pointsWith μ a).2))]) [] [14] (kX7_thrown l E am ((fX7_pointsWith μ a).2)) caX7_thrown q6_116 rfl ⟨Nat.le_of_ble_eq_true rfl, Nat.le_of_ble_eq_true rfl⟩ ⟨hk, hn⟩ 14 0 rfl rfl rfl rfl (by decide) rfl rfl rfl rfl (Nat.le_of_ble_eq_true rfl) dL_law_3690 rfl ?_
    refine g_iload C dL_law_3693 1 rfl ?_
    refine g_icmp_eq C 3700 dL_law_3695 (by decide) (fun _ => ?_) (fun c => absurd ht c)
    refine g_iload C dL_law_3700 1 rfl ?_
    refine g_if_ne C 3717 dL_law_3702 (by decide) (fun _ => ?_) (fun c => absurd c (by decide))
    refine g_goto C 3840 dL_law_3717 (by decide) ?_
    exact g_sub [2, 3, 4, 5, 6] rfl (next β τ γ η σ θ ((fX7_pointsWith μ a).2) o hR2)
set_option maxHeartbeats 4000000 in
set_option maxRecDepth 100000 in
theorem arm_67 {Rl : RlT} (hRv : RlV Rl) (hs : sH_allPoints Rl)  {X : gX} {l : Launch} {E : gE} (C : gC X cL_law 9 RL (some .boolean) l E room_1) (hZ : gZ X.2.2.2.2.2.2.2.2.2.2.2.1 X.2.2.2.2.1 X.2.2.2.2.1.heap) (hNc : gNc X.2.2.2.2.1) {b0 L0 : Nat} {xs : Nat → Int32} (S : gS X b0 L0 xs) (hlt : l.stackTraces = false) {ax : Nat} {bo tr ac ah : Nat → Nat} {bd : Nat → Nat → Nat} {at_ am : Nat → Nat} {ao k n i : Nat} (hk : k + 3 ≤ 601024) (hn : n + 18 ≤ 7293034) (hi : i + 3 ≤ L0) {β τ γ η : BS} {σ : Nat → BS} {θ μ : BS} {o : Nat → Int64} (hR : Rl β η θ σ μ) (next : ∀ (β τ γ η : BS) (σ : Nat → BS) (θ μ : BS) (o : Nat → Int64), Rl β η θ σ μ → G X (k + 3) (n + 18) [wX ax (bo 0) (tr 0) (ac 0) (ah 0) (at_ 0), wB E bo β, wB E tr τ, wC E ac γ, wH E ah bd η, wT E at_ θ, wB E (bd 2) (σ 2), wB E (bd 3) (σ 3), wB E (bd 4) (σ 4), wB E (bd 5) (σ 5), wB E (bd 6) (σ 6), wB E (bd 7) (σ 7), wB E (bd 8) (σ 8), wB E (bd 9) (σ 9), wM E am μ, wO E ao o] [(0, .ref b0), (1, .ref ax), (2, .ref (am 0)), (3, .ref ao), (4, .int (nI i))] 3840 []) : G X k n [wX ax (bo 0) (tr 0) (ac 0) (ah 0) (at_ 0), wB E bo β, wB E tr τ, wC E ac γ, wH E ah bd η, wT E at_ θ, wB E (bd 2) (σ 2), wB E (bd 3) (σ 3), wB E (bd 4) (σ 4), wB E (bd 5) (σ 5), wB E (bd 6) (σ 6), wB E (bd 7) (σ 7), wB E (bd 8) (σ 8), wB E (bd 9) (σ 9), wM E am μ, wO E ao o] [(0, .ref b0), (1, .ref ax), (2, .ref (am 0)), (3, .ref ao), (4, .int (nI i))] 3720 [] := by
  obtain ⟨hvb, hvh, hvt, hvm, ha⟩ := hRv β η θ σ μ hR
  obtain ⟨hr, hR2⟩ := hs β τ γ η σ θ μ hR
  refine g_aload_n C dL_law_3720 rfl 1 rfl ?_
  refine g_callV C (cs1 := [wX ax (bo 0) (tr 0) (ac 0) (ah 0) (at_ 0), wB E bo β, wB E tr τ, wC E ac γ, wH E ah bd η, wT E at_ θ, wB E (bd 2) (σ 2), wB E (bd 3) (σ 3), wB E (bd 4) (σ 4), wB E (bd 5) (σ 5), wB E (bd 6) (σ 6), wB E (bd 7) (σ 7), wB E (bd 8) (σ 8), wB E (bd 9) (σ 9), wM E am μ, wO E ao o]) (st1 := [.int (fX6_allPoints β)]) [] [0, 1, 2, 3, 4, 5, 6, 7, 8, 9, 10, 11, 12, 13] (kX6_allPoints l E ax bo β tr τ ac γ ah bd η σ at_ θ hvb) caX6_allPoints q2_124 rfl ⟨Nat.le_of_ble_eq_true rfl, Nat.le_of_ble_eq_true rfl⟩ ⟨Nat.le_of_succ_le (Nat.le_of_succ_le (Nat.le_of_succ_le hk)), Nat.le_trans (Nat.le_add_right _ _) hn⟩ 0 0 rfl rfl rfl rfl (by decide) rfl rfl rfl rfl (Nat.le_of_ble_eq_true rfl) dL_law_3721 rfl ?_
  refine g_aload_n C dL_law_3724 rfl 2 rfl ?_
  refine g_callV C (cs1 := [wX ax (bo 0) (tr 0) (ac 0) (ah 0) (at_ 0), wB E bo β, wB E tr τ, wC E ac γ, wH E ah bd η, wT E at_ θ, wB E (bd 2) (σ 2), wB E (bd 3) (σ 3), wB E (bd 4) (σ 4), wB E (bd 5) (σ 5), wB E (bd 6) (σ 6), wB E (bd 7) (σ 7), wB E (bd 8) (σ 8), wB E (bd 9) (σ 9), wM E am ((fX7_allPoints μ).2), wO E ao o]) (st1 := [.int ((fX7_allPoints μ).1), .int (fX6_allPoints β)]) [] [14] (kX7_allPoints l E am μ hvm ) caX7_allPoints q8_127 rfl ⟨Nat.le_of_ble_eq_true rfl, Nat.le_of_ble_eq_true rfl⟩ ⟨Nat.le_of_succ_le (Nat.le_of_succ_le (Nat.le_of_succ_le hk)), Nat.le_trans (Nat.le_add_right _ _) hn⟩ 14 0 rfl rfl rfl rfl (by decide) rfl rfl rfl rfl (Nat.le_of_ble_eq_true rfl) dL_law_3725 rfl ?_
  refine g_icmp_eq C 3840 dL_law_3728 (by decide) (fun _ => ?_) (fun c => absurd hr c)
  refine g_widen (k1 := k + 3) (n1 := n + 18) (Nat.le_add_right _ _) (Nat.le_add_right _ _) ?_
  exact g_sub [0, 1, 2, 3, 4] rfl (next β τ γ η σ θ ((fX7_allPoints μ).2) o hR2)
set_option maxHeartbeats 4000000 in
set_option maxRecDepth 100000 in
theorem arm_68 {Rl : RlT} (hRv : RlV Rl) (hs : sH_blockedTickets Rl)  {X : gX} {l : Launch} {E : gE} (C : gC X cL_law 9 RL (some .boolean) l E room_1) (hZ : gZ X.2.2.2.2.2.2.2.2.2.2.2.1 X.2.2.2.2.1 X.2.2.2.2.1.heap) (hNc : gNc X.2.2.2.2.1) {b0 L0 : Nat} {xs : Nat → Int32} (S : gS X b0 L0 xs) (hlt : l.stackTraces = false) {ax : Nat} {bo tr ac ah : Nat → Nat} {bd : Nat → Nat → Nat} {at_ am : Nat → Nat} {ao k n i : Nat} (hk : k + 3 ≤ 601024) (hn : n + 18 ≤ 7293034) (hi : i + 3 ≤ L0) {β τ γ η : BS} {σ : Nat → BS} {θ μ : BS} {o : Nat → Int64} (hR : Rl β η θ σ μ) (next : ∀ (β τ γ η : BS) (σ : Nat → BS) (θ μ : BS) (o : Nat → Int64), Rl β η θ σ μ → G X (k + 3) (n + 18) [wX ax (bo 0) (tr 0) (ac 0) (ah 0) (at_ 0), wB E bo β, wB E tr τ, wC E ac γ, wH E ah bd η, wT E at_ θ, wB E (bd 2) (σ 2), wB E (bd 3) (σ 3), wB E (bd 4) (σ 4), wB E (bd 5) (σ 5), wB E (bd 6) (σ 6), wB E (bd 7) (σ 7), wB E (bd 8) (σ 8), wB E (bd 9) (σ 9), wM E am μ, wO E ao o] [(0, .ref b0), (1, .ref ax), (2, .ref (am 0)), (3, .ref ao), (4, .int (nI i))] 3840 []) : G X k n [wX ax (bo 0) (tr 0) (ac 0) (ah 0) (at_ 0), wB E bo β, wB E tr τ, wC E ac γ, wH E ah bd η, wT E at_ θ, wB E (bd 2) (σ 2), wB E (bd 3) (σ 3), wB E (bd 4) (σ 4), wB E (bd 5) (σ 5), wB E (bd 6) (σ 6), wB E (bd 7) (σ 7), wB E (bd 8) (σ 8), wB E (bd 9) (σ 9), wM E am μ, wO E ao o] [(0, .ref b0), (1, .ref ax), (2, .ref (am 0)), (3, .ref ao), (4, .int (nI i))] 3733 [] := by
  obtain ⟨hvb, hvh, hvt, hvm, ha⟩ := hRv β η θ σ μ hR
  obtain ⟨hr, hR2⟩ := hs β τ γ η σ θ μ hR
  refine g_aload_n C dL_law_3733 rfl 1 rfl ?_
  refine g_callV C (cs1 := [wX ax (bo 0) (tr 0) (ac 0) (ah 0) (at_ 0), wB E bo β, wB E tr τ, wC E ac γ, wH E ah bd η, wT E at_ θ, wB E (bd 2) (σ 2), wB E (bd 3) (σ 3), wB E (bd 4) (σ 4), wB E (bd 5) (σ 5), wB E (bd 6) (σ 6), wB E (bd 7) (σ 7), wB E (bd 8) (σ 8), wB E (bd 9) (σ 9), wM E am μ, wO E ao o]) (st1 := [.int (fX6_blockedTickets β)]) [] [0, 1, 2, 3, 4, 5, 6, 7, 8, 9, 10, 11, 12, 13] (kX6_blockedTickets l E ax bo β tr τ ac γ ah bd η σ at_ θ hvb) caX6_blockedTickets q2_130 rfl ⟨Nat.le_of_ble_eq_true rfl, Nat.le_of_ble_eq_true rfl⟩ ⟨Nat.le_of_succ_le (Nat.le_of_succ_le (Nat.le_of_succ_le hk)), Nat.le_trans (Nat.le_add_right _ _) hn⟩ 0 0 rfl rfl rfl rfl (by decide) rfl rfl rfl rfl (Nat.le_of_ble_eq_true rfl) dL_law_3734 rfl ?_
  refine g_aload_n C dL_law_3737 rfl 2 rfl ?_
  refine g_callV C (cs1 := [wX ax (bo 0) (tr 0) (ac 0) (ah 0) (at_ 0), wB E bo β, wB E tr τ, wC E ac γ, wH E ah bd η, wT E at_ θ, wB E (bd 2) (σ 2), wB E (bd 3) (σ 3), wB E (bd 4) (σ 4), wB E (bd 5) (σ 5), wB E (bd 6) (σ 6), wB E (bd 7) (σ 7), wB E (bd 8) (σ 8), wB E (bd 9) (σ 9), wM E am ((fX7_blockedTickets μ).2), wO E ao o]) (st1 := [.int ((fX7_blockedTickets μ).1), .int (fX6_blockedTickets β)]) [] [14] (kX7_blockedTickets l E am μ hvm ) caX7_blockedTickets q8_131 rfl ⟨Nat.le_of_ble_eq_true rfl, Nat.le_of_ble_eq_true rfl⟩ ⟨Nat.le_of_succ_le (Nat.le_of_succ_le (Nat.le_of_succ_le hk)), Nat.le_trans (Nat.le_add_right _ _) hn⟩ 14 0 rfl rfl rfl rfl (by decide) rfl rfl rfl rfl (Nat.le_of_ble_eq_true rfl) dL_law_3738 rfl ?_
  refine g_icmp_eq C 3840 dL_law_3741 (by decide) (fun _ => ?_) (fun c => absurd hr c)
  refine g_widen (k1 := k + 3) (n1 := n + 18) (Nat.le_add_right _ _) (Nat.le_add_right _ _) ?_
  exact g_sub [0, 1, 2, 3, 4] rfl (next β τ γ η σ θ ((fX7_blockedTickets μ).2) o hR2)
set_option maxHeartbeats 4000000 in
set_option maxRecDepth 100000 in
theorem arm_69 {Rl : RlT} (hRv : RlV Rl) (hs : sH_closings Rl)  {X : gX} {l : Launch} {E : gE} (C : gC X cL_law 9 RL (some .boolean) l E room_1) (hZ : gZ X.2.2.2.2.2.2.2.2.2.2.2.1 X.2.2.2.2.1 X.2.2.2.2.1.heap) (hNc : gNc X.2.2.2.2.1) {b0 L0 : Nat} {xs : Nat → Int32} (S : gS X b0 L0 xs) (hlt : l.stackTraces = false) {ax : Nat} {bo tr ac ah : Nat → Nat} {bd : Nat → Nat → Nat} {at_ am : Nat → Nat} {ao k n i : Nat} (hk : k + 3 ≤ 601024) (hn : n + 18 ≤ 7293034) (hi : i + 3 ≤ L0) {β τ γ η : BS} {σ : Nat → BS} {θ μ : BS} {o : Nat → Int64} (hR : Rl β η θ σ μ) (next : ∀ (β τ γ η : BS) (σ : Nat → BS) (θ μ : BS) (o : Nat → Int64), Rl β η θ σ μ → G X (k + 3) (n + 18) [wX ax (bo 0) (tr 0) (ac 0) (ah 0) (at_ 0), wB E bo β, wB E tr τ, wC E ac γ, wH E ah bd η, wT E at_ θ, wB E (bd 2) (σ 2), wB E (bd 3) (σ 3), wB E (bd 4) (σ 4), wB E (bd 5) (σ 5), wB E (bd 6) (σ 6), wB E (bd 7) (σ 7), wB E (bd 8) (σ 8), wB E (bd 9) (σ 9), wM E am μ, wO E ao o] [(0, .ref b0), (1, .ref ax), (2, .ref (am 0)), (3, .ref ao), (4, .int (nI i))] 3840 []) : G X k n [wX ax (bo 0) (tr 0) (ac 0) (ah 0) (at_ 0), wB E bo β, wB E tr τ, wC E ac γ, wH E ah bd η, wT E at_ θ, wB E (bd 2) (σ 2), wB E (bd 3) (σ 3), wB E (bd 4) (σ 4), wB E (bd 5) (σ 5), wB E (bd 6) (σ 6), wB E (bd 7) (σ 7), wB E (bd 8) (σ 8), wB E (bd 9) (σ 9), wM E am μ, wO E ao o] [(0, .ref b0), (1, .ref ax), (2, .ref (am 0)), (3, .ref ao), (4, .int (nI i))] 3746 [] := by
  obtain ⟨hvb, hvh, hvt, hvm, ha⟩ := hRv β η θ σ μ hR
  obtain ⟨hr, hR2⟩ := hs β τ γ η σ θ μ hR
  refine g_aload_n C dL_law_3746 rfl 1 rfl ?_
  refine g_callV C (cs1 := [wX ax (bo 0) (tr 0) (ac 0) (ah 0) (at_ 0), wB E bo β, wB E tr τ, wC E ac γ, wH E ah bd η, wT E at_ θ, wB E (bd 2) (σ 2), wB E (bd 3) (σ 3), wB E (bd 4) (σ 4), wB E (bd 5) (σ 5), wB E (bd 6) (σ 6), wB E (bd 7) (σ 7), wB E (bd 8) (σ 8), wB E (bd 9) (σ 9), wM E am μ, wO E ao o]) (st1 := [.int (fX6_closings β)]) [] [0, 1, 2, 3, 4, 5, 6, 7, 8, 9, 10, 11, 12, 13] (kX6_closings l E ax bo β tr τ ac γ ah bd η σ at_ θ ) caX6_closings q2_152 rfl ⟨Nat.le_of_ble_eq_true rfl, Nat.le_of_ble_eq_true rfl⟩ ⟨Nat.le_of_succ_le (Nat.le_of_succ_le (Nat.le_of_succ_le hk)), Nat.le_trans (Nat.le_add_right _ _) hn⟩ 0 0 rfl rfl rfl rfl (by decide) rfl rfl rfl rfl (Nat.le_of_ble_eq_true rfl) dL_law_3747 rfl ?_
  refine g_aload_n C dL_law_3750 rfl 2 rfl ?_
  refine g_callV C (cs1 := [wX ax (bo 0) (tr 0) (ac 0) (ah 0) (at_ 0), wB E bo β, wB E tr τ, wC E ac γ, wH E ah bd η, wT E at_ θ, wB E (bd 2) (σ 2), wB E (bd 3) (σ 3), wB E (bd 4) (σ 4), wB E (bd 5) (σ 5), wB E (bd 6) (σ 6), wB E (bd 7) (σ 7), wB E (bd 8) (σ 8), wB E (bd 9) (σ 9), wM E am ((fX7_closings μ).2), wO E ao o]) (st1 := [.int ((fX7_closings μ).1), .int (fX6_closings β)]) [] [14] (kX7_closings l E am μ  ) caX7_closings q8_139 rfl ⟨Nat.le_of_ble_eq_true rfl, Nat.le_of_ble_eq_true rfl⟩ ⟨Nat.le_of_succ_le (Nat.le_of_succ_le (Nat.le_of_succ_le hk)), Nat.le_trans (Nat.le_add_right _ _) hn⟩ 14 0 rfl rfl rfl rfl (by decide) rfl rfl rfl rfl (Nat.le_of_ble_eq_true rfl) dL_law_3751 rfl ?_
  refine g_icmp_eq C 3840 dL_law_3754 (by decide) (fun _ => ?_) (fun c => absurd hr c)
  refine g_widen (k1 := k + 3) (n1 := n + 18) (Nat.le_add_right _ _) (Nat.le_add_right _ _) ?_
  exact g_sub [0, 1, 2, 3, 4] rfl (next β τ γ η σ θ ((fX7_closings μ).2) o hR2)
