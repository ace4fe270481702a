set_option maxHeartbeats 4000000 in
set_option maxRecDepth 100000 in
theorem arm_40 {Rl : RlT} (hRv : RlV Rl) (hs : sH_needsOf Rl)  {X : gX} {l : Launch} {E : gE} (C : gC X cL_law 9 RL (some .boolean) l E room_1) (hZ : gZ X.2.2.2.2.2.2.2.2.2.2.2.1 X.2.2.2.2.1 X.2.2.2.2.1.heap) (hNc : gNc X.2.2.2.2.1) {b0 L0 : Nat} {xs : Nat → Int32} (S : gS X b0 L0 xs) (hlt : l.stackTraces = false) {ax : Nat} {bo tr ac ah : Nat → Nat} {bd : Nat → Nat → Nat} {at_ am : Nat → Nat} {ao k n i : Nat} (hk : k + 3 ≤ 601024) (hn : n + 18 ≤ 7293034) (hi : i + 3 ≤ L0) {β τ γ η : BS} {σ : Nat → BS} {θ μ : BS} {o : Nat → Int64} (hR : Rl β η θ σ μ) (next : ∀ (β τ γ η : BS) (σ : Nat → BS) (θ μ : BS) (o : Nat → Int64), Rl β η θ σ μ → G X (k + 3) (n + 18) [wX ax (bo 0) (tr 0) (ac 0) (ah 0) (at_ 0), wB E bo β, wB E tr τ, wC E ac γ, wH E ah bd η, wT E at_ θ, wB E (bd 2) (σ 2), wB E (bd 3) (σ 3), wB E (bd 4) (σ 4), wB E (bd 5) (σ 5), wB E (bd 6) (σ 6), wB E (bd 7) (σ 7), wB E (bd 8) (σ 8), wB E (bd 9) (σ 9), wM E am μ, wO E ao o] [(0, .ref b0), (1, .ref ax), (2, .ref (am 0)), (3, .ref ao), (4, .int (nI i))] 3840 []) : G X k n [wX ax (bo 0) (tr 0) (ac 0) (ah 0) (at_ 0), wB E bo β, wB E tr τ, wC E ac γ, wH E ah bd η, wT E at_ θ, wB E (bd 2) (σ 2), wB E (bd 3) (σ 3), wB E (bd 4) (σ 4), wB E (bd 5) (σ 5), wB E (bd 6) (σ 6), wB E (bd 7) (σ 7), wB E (bd 8) (σ 8), wB E (bd 9) (σ 9), wM E am μ, wO E ao o] [(0, .ref b0), (1, .ref ax), (2, .ref (am 0)), (3, .ref ao), (4, .int (nI i))] 2421 [] := by
  obtain ⟨hvb, hvh, hvt, hvm, ha⟩ := hRv β η θ σ μ hR
  obtain ⟨a, ha9⟩ : ∃ a, xs (i + 1) = a := ⟨_, rfl⟩
  obtain ⟨hag, hR2⟩ := hs β τ γ η σ θ μ a hR
  rcases hag with ⟨hr, ht⟩ | ⟨hr, ht⟩
  · skip
    refine g_aload_n C dL_law_2421 rfl 1 rfl ?_
    refine g_aload_n C dL_law_2422 rfl 0 rfl ?_
    refine g_iload C dL_law_2423 4 rfl ?_
    refine g_iconst C (v := 1) dL_law_2425 (by decide) ?_
    refine g_iadd C dL_law_2426 ?_
    refine g_sldv C S (i + 1) (nx_add (rfl : nI i = nI i) (rfl : (1 : Int32) = nI 1)) (by omega) ha9 dL_law_2427 ?_
    refine g_aload_n C dL_law_2428 rfl 3 rfl ?_
    refine g_callSW C hZ hNc (z := 3) (cs1 := [wX ax (bo 0) (tr 0) (ac 0) (ah 0) (at_ 0), wB E bo β, wB E tr τ, wC E ac γ, wH E ah bd η, wT E at_ θ, wB E (bd 2) (σ 2), wB E (bd 3) (σ 3), wB E (bd 4) (σ 4), wB E (bd 5) (σ 5), wB E (bd 6) (σ 6), wB E (bd 7) (σ 7), wB E (bd 8) (σ 8), wB E (bd 9) (σ 9), wM E am μ, wO E ao (vp_updL o 0 ((fX7_needsOf μ a).1).toInt64)]) (st1 := [.int 0]) [.ref ax, .int a, .ref ao] [0, 1, 2, 3, 4, 5, 6, 7, 8, 9, 10, 11, 12, 13, 15] (kL_needsOf_r l E ax bo β tr τ ac γ ah bd η σ at_ θ ao o hlt hvb a ((fX7_needsOf μ a).1) hr) q5_150 q1_0 (by decide +kernel) q5_149 q5_148 rfl ⟨Nat.le_of_ble_eq_true rfl, Nat.le_of_ble_eq_true rfl⟩ ⟨hk, hn⟩ (by decide) rfl rfl rfl rfl (Nat.le_of_ble_eq_true rfl) dL_law_2429 rfl ?_
    refine g_istore C (lv1 := [(5, .int 0), (0, .ref b0), (1, .ref ax), (2, .ref (am 0)), (3, .ref ao), (4, .int (nI i))]) dL_law_2432 (by decide) rfl ?_
    refine g_aload_n C dL_law_2434 rfl 3 rfl ?_
    refine g_aload_n C dL_law_2435 rfl 1 rfl ?_
    refine g_iload C dL_law_2436 5 rfl ?_
    refine g_iconst C (v := 1) dL_law_2438 (by decide) ?_
    refine g_iadd C dL_law_2439 ?_
    refine g_sldv C S (i + 1) (nx_add (rfl : nI i = nI i) (rfl : (1 : Int32) = nI 1)) (by omega) ha9 dL_law_2440 ?_
    refine g_callV C (cs1 := [wX ax (bo 0) (tr 0) (ac 0) (ah 0) (at_ 0), wB E bo β, wB E tr τ, wC E ac γ, wH E ah bd η, wT E at_ θ, wB E (bd 2) (σ 2), wB E (bd 3) (σ 3), wB E (bd 4) (σ 4), wB E (bd 5) (σ 5), wB E (bd 6) (σ 6), wB E (bd 7) (σ 7), wB E (bd 8) (σ 8), wB E (bd 9) (σ 9), wM E am ((fX7_needsOf μ a).2), wO E ao (vp_updL o 0 ((fX7_needsOf μ a).1).toInt64)]) (st1 := [.int ((fX7_needsOf μ a).1)]) [.int a] [14] (kX7_needsOf l E am μ hvm a) caX7_needsOf q7_195 rfl ⟨Nat.le_of_ble_eq_true rfl, Nat.le_of_ble_eq_true rfl⟩ ⟨hk, hn⟩ 14 0 rfl rfl rfl rfl (by decide) rfl rfl rfl rfl (Nat.le_of_ble_eq_true rfl) dL_law_2441 rfl ?_
    refine g_istore C (lv1 := [(6, .int ((fX7_needsOf μ a).1)), (5, .int 0), (0, .ref b0), (1, .ref ax), (2, .ref (am 0)), (3, .ref ao), (4, .int (nI i))]) dL_law_2444 (by decide) rfl ?_
    refine g_aload_n C dL_law_2446 rfl 4 rfl ?_
    refine g_callV C (cs1 := [wX ax (bo 0) (tr 0) (ac 0) (ah 0) (at_ 0), wB E bo β, wB E tr τ, wC E ac γ, wH E ah bd η, wT E at_ θ, wB E (bd 2) (σ 2), wB E (bd 3) (σ 3), wB E (bd 4) (σ 4), wB E (bd 5) (σ 5), wB E (bd 6) (σ 6), wB E (bd 7) (σ 7), wB E (bd 8) (σ 8), wB E (bd 9) (σ 9), wM E am ((fX7_needsOf μ a).2), wO E ao (vp_updL o 0 ((fX7_needsOf μ a).1).toInt64)]) (st1 := [.int (fX7_thrown ((fX7_needsOf μ a).2))]) [] [14] (kX7_thrown l E am ((fX7_needsOf μ a).2)) caX7_thrown q6_116 rfl ⟨Nat.le_of_ble_eq_true rfl, Nat.le_of_ble_eq_true rfl⟩ ⟨hk, hn⟩ 14 0 rfl rfl rfl rfl (by decide) rfl rfl rfl rfl (Nat.le_of_ble_eq_true rfl) dL_law_2447 rfl ?_
    refine g_iload C dL_law_2450 1 rfl ?_
    refine g_icmp_eq C 2457 dL_law_2452 (by decide) (fun _ => ?_) (fun c => absurd ht c)
    refine g_iload C dL_law_2457 1 rfl ?_
    refine g_if_ne C 2474 dL_law_2459 (by decide) (fun c => absurd rfl c) (fun _ => ?_)
    refine g_aload_n C dL_law_2462 rfl 5 rfl ?_
    refine g_iconst C (v := 0) dL_law_2463 (by decide) ?_
    refine g_laldn C 15 0 0 rfl rfl rfl (by decide) (by decide) dL_law_2464 ?_
    refine g_iload C dL_law_2465 0 rfl ?_
    refine g_i2l C dL_law_2467 ?_
    refine g_lcmp C dL_law_2468 ?_
    refine g_if_eq C 2474 dL_law_2469 (by decide) (fun _ => ?_) (fun c => absurd law_cmp c)
    refine g_goto C 3840 dL_law_2474 (by decide) ?_
    exact g_sub [2, 3, 4, 5, 6] rfl (next β τ γ η σ θ ((fX7_needsOf μ a).2) (vp_updL o 0 ((fX7_needsOf μ a).1).toInt64) hR2)
  · skip
    refine g_aload_n C dL_law_2421 rfl 1 rfl ?_
    refine g_aload_n C dL_law_2422 rfl 0 rfl ?_
    refine g_iload C dL_law_2423 4 rfl ?_
    refine g_iconst C (v := 1) dL_law_2425 (by decide) ?_
    refine g_iadd C dL_law_2426 ?_
    refine g_sldv C S (i + 1) (nx_add (rfl : nI i = nI i) (rfl : (1 : Int32) = nI 1)) (by omega) ha9 dL_law_2427 ?_
    refine g_aload_n C dL_law_2428 rfl 3 rfl ?_
    refine g_callSW C hZ hNc (z := 3) (cs1 := [wX ax (bo 0) (tr 0) (ac 0) (ah 0) (at_ 0), wB E bo β, wB E tr τ, wC E ac γ, wH E ah bd η, wT E at_ θ, wB E (bd 2) (σ 2), wB E (bd 3) (σ 3), wB E (bd 4) (σ 4), wB E (bd 5) (σ 5), wB E (bd 6) (σ 6), wB E (bd 7) (σ 7), wB E (bd 8) (σ 8), wB E (bd 9) (σ 9), wM E am μ, wO E ao o]) (st1 := [.int 1]) [.ref ax, .int a, .ref ao] [0, 1, 2, 3, 4, 5, 6, 7, 8, 9, 10, 11, 12, 13, 15] (kL_needsOf_0 l E ax bo β tr τ ac γ ah bd η σ at_ θ ao o hlt hvb a hr) q5_150 q1_0 (by decide +kernel) q5_149 q5_148 rfl ⟨Nat.le_of_ble_eq_true rfl, Nat.le_of_ble_eq_true rfl⟩ ⟨hk, hn⟩ (by decide) rfl rfl rfl rfl (Nat.le_of_ble_eq_true rfl) dL_law_2429 rfl ?_
    refine g_istore C (lv1 := [(5, .int 1), (0, .ref b0), (1, .ref ax), (2, .ref (am 0)), (3, .ref ao), (4, .int (nI i))]) dL_law_2432 (by decide) rfl ?_
    refine g_aload_n C dL_law_2434 rfl 3 rfl ?_
    refine g_aload_n C dL_law_2435 rfl 1 rfl ?_
    refine g_iload C dL_law_2436 5 rfl ?_
    refine g_iconst C (v := 1) dL_law_2438 (by decide) ?_
    refine g_iadd C dL_law_2439 ?_
    refine g_sldv C S (i + 1) (nx_add (rfl : nI i = nI i) (rfl : (1 : Int32) = nI 1)) (by omega) ha9 dL_law_2440 ?_
    refine g_callV C (cs1 := [wX ax (bo 0) (tr 0) (ac 0) (ah 0) (at_ 0), wB E bo β, wB E tr τ, wC E ac γ, wH E ah bd η, wT E at_ θ, wB E (bd 2) (σ 2), wB E (bd 3) (σ 3), wB E (bd 4) (σ 4), wB E (bd 5) (σ 5), wB E (bd 6) (σ 6), wB E (bd 7) (σ 7), wB E (bd 8) (σ 8), wB E (bd 9) (σ 9), wM E am ((fX7_needsOf μ a).2), wO E ao o]) (st1 := [.int ((fX7_needsOf μ a).1)]) [.int a] [14] (kX7_needsOf l E am μ hvm a) caX7_needsOf q7_195 rfl ⟨Nat.le_of_ble_eq_true rfl, Nat.le_of_ble_eq_true rfl⟩ ⟨hk, hn⟩ 14 0 rfl rfl rfl rfl (by decide) rfl rfl rfl rfl (Nat.le_of_ble_eq_true rfl) dL_law_2441 rfl ?_
    refine g_istore C (lv1 := [(6, .int ((fX7_needsOf μ a).1)), (5, .int 1), (0, .ref b0), (1, .ref ax), (2, .ref (am 0)), (3, .ref ao), (4, .int (nI i))]) dL_law_2444 (by decide) rfl ?_
    refine g_aload_n C dL_law_2446 rfl 4 rfl ?_
    refine g_callV C (cs1 := [wX ax (bo 0) (tr 0) (ac 0) (ah 0) (at_ 0), wB E bo β, wB E tr τ, wC E ac γ, wH E ah bd η, wT E at_ θ, wB E (bd 2) (σ 2), wB E (bd 3) (σ 3), wB E (bd 4) (σ 4), wB E (bd 5) (σ 5), wB E (bd 6) (σ 6), wB E (bd 7) (σ 7), wB E (bd 8) (σ 8), wB E (bd 9) (σ 9), wM E am ((fX7_needsOf μ a).2), wO E ao o]) (st1 := [.int (fX7_thrown ((fX7_needsOf μ a).2))]) [] [14] (kX7_thrown l E am ((fX7_needsOf μ a).2)) caX7_thrown q6_116 rfl ⟨Nat.le_of_ble_eq_true rfl, Nat.le_of_ble_eq_true rfl⟩ ⟨hk, hn⟩ 14 0 rfl rfl rfl rfl (by decide) rfl rfl rfl rfl (Nat.le_of_ble_eq_true rfl) dL_law_2447 rfl ?_
    refine g_iload C dL_law_2450 1 rfl ?_
    refine g_icmp_eq C 2457 dL_law_2452 (by decide) (fun _ => ?_) (fun c => absurd ht c)
    refine g_iload C dL_law_2457 1 rfl ?_
    refine g_if_ne C 2474 dL_law_2459 (by decide) (fun _ => ?_) (fun c => absurd c (by decide))
    refine g_goto C 3840 dL_law_2474 (by decide) ?_
    exact g_sub [2, 3, 4, 5, 6] rfl (next β τ γ η σ θ ((fX7_needsOf μ a).2) o hR2)
set_option maxHeartbeats 4000000 in
set_option maxRecDepth 100000 in
theorem arm_41 {Rl : RlT} (hRv : RlV Rl) (hs : sH_neededBy Rl)  {X : gX} {l : Launch} {E : gE} (C : gC X cL_law 9 RL (some .boolean) l E room_1) (hZ : gZ X.2.2.2.2.2.2.2.2.2.2.2.1 X.2.2.2.2.1 X.2.2.2.2.1.heap) (hNc : gNc X.2.2.2.2.1) {b0 L0 : Nat} {xs : Nat → Int32} (S : gS X b0 L0 xs) (hlt : l.stackTraces = false) {ax : Nat} {bo tr ac ah : Nat → Nat} {bd : Nat → Nat → Nat} {at_ am : Nat → Nat} {ao k n i : Nat} (hk : k + 3 ≤ 601024) (hn : n + 18 ≤ 7293034) (hi : i + 3 ≤ L0) {β τ γ η : BS} {σ : Nat → BS} {θ μ : BS} {o : Nat → Int64} (hR : Rl β η θ σ μ) (next : ∀ (β τ γ η : BS) (σ : Nat → BS) (θ μ : BS) (o : Nat → Int64), Rl β η θ σ μ → G X (k + 3) (n + 18) [wX ax (bo 0) (tr 0) (ac 0) (ah 0) (at_ 0), wB E bo β, wB E tr τ, wC E ac γ, wH E ah bd η, wT E at_ θ, wB E (bd 2) (σ 2), wB E (bd 3) (σ 3), wB E (bd 4) (σ 4), wB E (bd 5) (σ 5), wB E (bd 6) (σ 6), wB E (bd 7) (σ 7), wB E (bd 8) (σ 8), wB E (bd 9) (σ 9), wM E am μ, wO E ao o] [(0, .ref b0), (1, .ref ax), (2, .ref (am 0)), (3, .ref ao), (4, .int (nI i))] 3840 []) : G X k n [wX ax (bo 0) (tr 0) (ac 0) (ah 0) (at_ 0), wB E bo β, wB E tr τ, wC E ac γ, wH E ah bd η, wT E at_ θ, wB E (bd 2) (σ 2), wB E (bd 3) (σ 3), wB E (bd 4) (σ 4), wB E (bd 5) (σ 5), wB E (bd 6) (σ 6), wB E (bd 7) (σ 7), wB E (bd 8) (σ 8), wB E (bd 9) (σ 9), wM E am μ, wO E ao o] [(0, .ref b0), (1, .ref ax), (2, .ref (am 0)), (3, .ref ao), (4, .int (nI i))] 2477 [] := by
  obtain ⟨hvb, hvh, hvt, hvm, ha⟩ := hRv β η θ σ μ hR
  obtain ⟨a, ha9⟩ : ∃ a, xs (i + 1) = a := ⟨_, rfl⟩
  obtain ⟨hag, hR2⟩ := hs β τ γ η σ θ μ a hR
  rcases hag with ⟨hr, ht⟩ | ⟨hr, ht⟩
  · skip
    refine g_aload_n C dL_law_2477 rfl 1 rfl ?_
    refine g_aload_n C dL_law_2478 rfl 0 rfl ?_
    refine g_iload C dL_law_2479 4 rfl ?_
    refine g_iconst C (v := 1) dL_law_2481 (by decide) ?_
    refine g_iadd C dL_law_2482 ?_
    refine g_sldv C S (i + 1) (nx_add (rfl : nI i = nI i) (rfl : (1 : Int32) = nI 1)) (by omega) ha9 dL_law_2483 ?_
    refine g_aload_n C dL_law_2484 rfl 3 rfl ?_
    refine g_callSW C hZ hNc (z := 3) (cs1 := [wX ax (bo 0) (tr 0) (ac 0) (ah 0) (at_ 0), wB E bo β, wB E tr τ, wC E ac γ, wH E ah bd η, wT E at_ θ, wB E (bd 2) (σ 2), wB E (bd 3) (σ 3), wB E (bd 4) (σ 4), wB E (bd 5) (σ 5), wB E (bd 6) (σ 6), wB E (bd 7) (σ 7), wB E (bd 8) (σ 8), wB E (bd 9) (σ 9), wM E am μ, wO E ao (vp_updL o 0 ((fX7_neededBy μ a).1).toInt64)]) (st1 := [.int 0]) [.ref ax, .int a, .ref ao] [0, 1, 2, 3, 4, 5, 6, 7, 8, 9, 10, 11, 12, 13, 15] (kL_neededBy_r l E ax bo β tr τ ac γ ah bd η σ at_ θ ao o hlt hvb a ((fX7_neededBy μ a).1) hr) q5_157 q1_0 (by decide +kernel) q5_156 q5_155 rfl ⟨Nat.le_of_ble_eq_true rfl, Nat.le_of_ble_eq_true rfl⟩ ⟨hk, hn⟩ (by decide) rfl rfl rfl rfl (Nat.le_of_ble_eq_true rfl) dL_law_2485 rfl ?_
    refine g_istore C (lv1 := [(5, .int 0), (0, .ref b0), (1, .ref ax), (2, .ref (am 0)), (3, .ref ao), (4, .int (nI i))]) dL_law_2488 (by decide) rfl ?_
    refine g_aload_n C dL_law_2490 rfl 3 rfl ?_
    refine g_aload_n C dL_law_2491 rfl 1 rfl ?_
    refine g_iload C dL_law_2492 5 rfl ?_
    refine g_iconst C (v := 1) dL_law_2494 (by decide) ?_
    refine g_iadd C dL_law_2495 ?_
    refine g_sldv C S (i + 1) (nx_add (rfl : nI i = nI i) (rfl : (1 : Int32) = nI 1)) (by omega) ha9 dL_law_2496 ?_
    refine g_callV C (cs1 := [wX ax (bo 0) (tr 0) (ac 0) (ah 0) (at_ 0), wB E bo β, wB E tr τ, wC E ac γ, wH E ah bd η, wT E at_ θ, wB E (bd 2) (σ 2), wB E (bd 3) (σ 3), wB E (bd 4) (σ 4), wB E (bd 5) (σ 5), wB E (bd 6) (σ 6), wB E (bd 7) (σ 7), wB E (bd 8) (σ 8), wB E (bd 9) (σ 9), wM E am ((fX7_neededBy μ a).2), wO E ao (vp_updL o 0 ((fX7_neededBy μ a).1).toInt64)]) (st1 := [.int ((fX7_neededBy μ a).1)]) [.int a] [14] (kX7_neededBy l E am μ hvm a) caX7_neededBy q7_199 rfl ⟨Nat.le_of_ble_eq_true rfl, Nat.le_of_ble_eq_true rfl⟩ ⟨hk, hn⟩ 14 0 rfl rfl rfl rfl (by decide) rfl rfl rfl rfl (Nat.le_of_ble_eq_true rfl) dL_law_2497 rfl ?_
    refine g_istore C (lv1 := [(6, .int ((fX7_neededBy μ a).1)), (5, .int 0), (0, .ref b0), (1, .ref ax), (2, .ref (am 0)), (3, .ref ao), (4, .int (nI i))]) dL_law_2500 (by decide) rfl ?_
    refine g_aload_n C dL_law_2502 rfl 4 rfl ?_
    refine g_callV C (cs1 := [wX ax (bo 0) (tr 0) (ac 0) (ah 0) (at_ 0), wB E bo β, wB E tr τ, wC E ac γ, wH E ah bd η, wT E at_ θ, wB E (bd 2) (σ 2), wB E (bd 3) (σ 3), wB E (bd 4) (σ 4), wB E (bd 5) (σ 5), wB E (bd 6) (σ 6), wB E (bd 7) (σ 7), wB E (bd 8) (σ 8), wB E (bd 9) (σ 9), wM E am ((fX7_neededBy μ a).2), wO E ao (vp_updL o 0 ((fX7_neededBy μ a).1).toInt64)]) (st1 := [.int (fX7_thrown ((fX7_neededBy μ a).2))]) [] [14] (kX7_thrown l E am ((fX7_neededBy μ a).2)) caX7_thrown q6_116 rfl ⟨Nat.le_of_ble_eq_true rfl, Nat.le_of_ble_eq_true rfl⟩ ⟨hk, hn⟩ 14 0 rfl rfl rfl rfl (by decide) rfl rfl rfl rfl (Nat.le_of_ble_eq_true rfl) dL_law_2503 rfl ?_
    refine g_iload C dL_law_2506 1 rfl ?_
    refine g_icmp_eq C 2513 dL_law_2508 (by decide) (fun _ => ?_) (fun c => absurd ht c)
    refine g_iload C dL_law_2513 1 rfl ?_
    refine g_if_ne C 2530 dL_law_2515 (by decide) (fun c => absurd rfl c) (fun _ => ?_)
    refine g_aload_n C dL_law_2518 rfl 5 rfl ?_
    refine g_iconst C (v := 0) dL_law_2519 (by decide) ?_
    refine g_laldn C 15 0 0 rfl rfl rfl (by decide) (by decide) dL_law_2520 ?_
    refine g_iload C dL_law_2521 0 rfl ?_
    refine g_i2l C dL_law_2523 ?_
    refine g_lcmp C dL_law_2524 ?_
    refine g_if_eq C 2530 dL_law_2525 (by decide) (fun _ => ?_) (fun c => absurd law_cmp c)
    refine g_goto C 3840 dL_law_2530 (by decide) ?_
    exact g_sub [2, 3, 4, 5, 6] rfl (next β τ γ η σ θ ((fX7_neededBy μ a).2) (vp_updL o 0 ((fX7_neededBy μ a).1).toInt64) hR2)
  · skip
    refine g_aload_n C dL_law_2477 rfl 1 rfl ?_
    refine g_aload_n C dL_law_2478 rfl 0 rfl ?_
    refine g_iload C dL_law_2479 4 rfl ?_
    refine g_iconst C (v := 1) dL_law_2481 (by decide) ?_
    refine g_iadd C dL_law_2482 ?_
    refine g_sldv C S (i + 1) (nx_add (rfl : nI i = nI i) (rfl : (1 : Int32) = nI 1)) (by omega) ha9 dL_law_2483 ?_
    refine g_aload_n C dL_law_2484 rfl 3 rfl ?_
    refine g_callSW C hZ hNc (z := 3) (cs1 := [wX ax (bo 0) (tr 0) (ac 0) (ah 0) (at_ 0), wB E bo β, wB E tr τ, wC E ac γ, wH E ah bd η, wT E at_ θ, wB E (bd 2) (σ 2), wB E (bd 3) (σ 3), wB E (bd 4) (σ 4), wB E (bd 5) (σ 5), wB E (bd 6) (σ 6), wB E (bd 7) (σ 7), wB E (bd 8) (σ 8), wB E (bd 9) (σ 9), wM E am μ, wO E ao o]) (st1 := [.int 1]) [.ref ax, .int a, .ref ao] [0, 1, 2, 3, 4, 5, 6, 7, 8, 9, 10, 11, 12, 13, 15] (kL_neededBy_0 l E ax bo β tr τ ac γ ah bd η σ at_ θ ao o hlt hvb a hr) q5_157 q1_0 (by decide +kernel) q5_156 q5_155 rfl ⟨Nat.le_of_ble_eq_true rfl, Nat.le_of_ble_eq_true rfl⟩ ⟨hk, hn⟩ (by decide) rfl rfl rfl rfl (Nat.le_of_ble_eq_true rfl) dL_law_2485 rfl ?_
    refine g_istore C (lv1 := [(5, .int 1), (0, .ref b0), (1, .ref ax), (2, .ref (am 0)), (3, .ref ao), (4, .int (nI i))]) dL_law_2488 (by decide) rfl ?_
    refine g_aload_n C dL_law_2490 rfl 3 rfl ?_
    refine g_aload_n C dL_law_2491 rfl 1 rfl ?_
    refine g_iload C dL_law_2492 5 rfl ?_
    refine g_iconst C (v := 1) dL_law_2494 (by decide) ?_
    refine g_iadd C dL_law_2495 ?_
    refine g_sldv C S (i + 1) (nx_add (rfl : nI i = nI i) (rfl : (1 : Int32) = nI 1)) (by omega) ha9 dL_law_2496 ?_
    refine g_callV C (cs1 := [wX ax (bo 0) (tr 0) (ac 0) (ah 0) (at_ 0), wB E bo β, wB E tr τ, wC E ac γ, wH E ah bd η, wT E at_ θ, wB E (bd 2) (σ 2), wB E (bd 3) (σ 3), wB E (bd 4) (σ 4), wB E (bd 5) (σ 5), wB E (bd 6) (σ 6), wB E (bd 7) (σ 7), wB E (bd 8) (σ 8), wB E (bd 9) (σ 9), wM E am ((fX7_neededBy μ a).2), wO E ao o]) (st1 := [.int ((fX7_neededBy μ a).1)]) [.int a] [14] (kX7_neededBy l E am μ hvm a) caX7_neededBy q7_199 rfl ⟨Nat.le_of_ble_eq_true rfl, Nat.le_of_ble_eq_true rfl⟩ ⟨hk, hn⟩ 14 0 rfl rfl rfl rfl (by decide) rfl rfl rfl rfl (Nat.le_of_ble_eq_true rfl) dL_law_2497 rfl ?_
    refine g_istore C (lv1 := [(6, .int ((fX7_neededBy μ a).1)), (5, .int 1), (0, .ref b0), (1, .ref ax), (2, .ref (am 0)), (3, .ref ao), (4, .int (nI i))]) dL_law_2500 (by decide) rfl ?_
    refine g_aload_n C dL_law_2502 rfl 4 rfl ?_
    refine g_callV C (cs1 := [wX ax (bo 0) (tr 0) (ac 0) (ah 0) (at_ 0), wB E bo β, wB E tr τ, wC E ac γ, wH E ah bd η, wT E at_ θ, wB E (bd 2) (σ 2), wB E (bd 3) (σ 3), wB E (bd 4) (σ 4), wB E (bd 5) (σ 5), wB E (bd 6) (σ 6), wB E (bd 7) (σ 7), wB E (bd 8) (σ 8), wB E (bd 9) (σ 9), wM E am ((fX7_neededBy μ a).2), wO E ao o]) (st1 := [.int (fX7_thrown ((fX7_neededBy μ a).2))]) [] [14] (kX7_thrown l E am ((fX7_neededBy μ a).2)) caX7_thrown q6_116 rfl ⟨Nat.le_of_ble_eq_true rfl, Nat.le_of_ble_eq_true rfl⟩ ⟨hk, hn⟩ 14 0 rfl rfl rfl rfl (by decide) rfl rfl rfl rfl (Nat.le_of_ble_eq_true rfl) dL_law_2503 rfl ?_
    refine g_iload C dL_law_2506 1 rfl ?_
    refine g_icmp_eq C 2513 dL_law_2508 (by decide) (fun _ => ?_) (fun c => absurd ht c)
    refine g_iload C dL_law_2513 1 rfl ?_
    refine g_if_ne C 2530 dL_law_2515 (by decide) (fun _ => ?_) (fun c => absurd c (by decide))
    refine g_goto C 3840 dL_law_2530 (by decide) ?_
    exact g_sub [2, 3, 4, 5, 6] rfl (next β τ γ η σ θ ((fX7_neededBy μ a).2) o hR2)
set_option maxHeartbeats 4000000 in
set_option maxRecDepth 100000 in
theorem arm_42 {Rl : RlT} (hRv : RlV Rl) (hs : sH_isBlocked Rl)  {X : gX} {l : Launch} {E : gE} (C : gC X cL_law 9 RL (some .boolean) l E room_1) (hZ : gZ X.2.2.2.2.2.2.2.2.2.2.2.1 X.2.2.2.2.1 X.2.2.2.2.1.heap) (hNc : gNc X.2.2.2.2.1) {b0 L0 : Nat} {xs : Nat → Int32} (S : gS X b0 L0 xs) (hlt : l.stackTraces = false) {ax : Nat} {bo tr ac ah : Nat → Nat} {bd : Nat → Nat → Nat} {at_ am : Nat → Nat} {ao k n i : Nat} (hk : k + 3 ≤ 601024) (hn : n + 18 ≤ 7293034) (hi : i + 3 ≤ L0) {β τ γ η : BS} {σ : Nat → BS} {θ μ : BS} {o : Nat → Int64} (hR : Rl β η θ σ μ) (next : ∀ (β τ γ η : BS) (σ : Nat → BS) (θ μ : BS) (o : Nat → Int64), Rl β η θ σ μ → G X (k + 3) (n + 18) [wX ax (bo 0) (tr 0) (ac 0) (ah 0) (at_ 0), wB E bo β, wB E tr τ, wC E ac γ, wH E ah bd η, wT E at_ θ, wB E (bd 2) (σ 2), wB E (bd 3) (σ 3), wB E (bd 4) (σ 4), wB E (bd 5) (σ 5), wB E (bd 6) (σ 6), wB E (bd 7) (σ 7), wB E (bd 8) (σ 8), wB E (bd 9) (σ 9), wM E am μ, wO E ao o] [(0, .ref b0), (1, .ref ax), (2, .ref (am 0)), (3, .ref ao), (4, .int (nI i))] 3840 []) : G X k n [wX ax (bo 0) (tr 0) (ac 0) (ah 0) (at_ 0), wB E bo β, wB E tr τ, wC E ac γ, wH E ah bd η, wT E at_ θ, wB E (bd 2) (σ 2), wB E (bd 3) (σ 3), wB E (bd 4) (σ 4), wB E (bd 5) (σ 5), wB E (bd 6) (σ 6), wB E (bd 7) (σ 7), wB E (bd 8) (σ 8), wB E (bd 9) (σ 9), wM E am μ, wO E ao o] [(0, .ref b0), (1, .ref ax), (2, .ref (am 0)), (3, .ref ao), (4, .int (nI i))] 2533 [] := by
  obtain ⟨hvb, hvh, hvt, hvm, ha⟩ := hRv β η θ σ μ hR
  obtain ⟨a, ha9⟩ : ∃ a, xs (i + 1) = a := ⟨_, rfl⟩
  obtain ⟨hag, hR2⟩ := hs β τ γ η σ θ μ a hR
  rcases hag with ⟨hr, ht⟩ | ⟨hr, ht⟩
  · cases hbv : (fX7_isBlocked μ a).1 with
    | true =>
      rw [hbv] at hr
      refine g_aload_n C dL_law_2533 rfl 1 rfl ?_
      refine g_aload_n C dL_law_2534 rfl 0 rfl ?_
      refine g_iload C dL_law_2535 4 rfl ?_
      refine g_iconst C (v := 1) dL_law_2537 (by decide) ?_
      refine g_iadd C dL_law_2538 ?_
      refine g_sldv C S (i + 1) (nx_add (rfl : nI i = nI i) (rfl : (1 : Int32) = nI 1)) (by omega) ha9 dL_law_2539 ?_
      refine g_aload_n C dL_law_2540 rfl 3 rfl ?_
      refine g_callSW C hZ hNc (z := 3) (cs1 := [wX ax (bo 0) (tr 0) (ac 0) (ah 0) (at_ 0), wB E bo β, wB E tr τ, wC E ac γ, wH E ah bd η, wT E at_ θ, wB E (bd 2) (σ 2), wB E (bd 3) (σ 3), wB E (bd 4) (σ 4), wB E (bd 5) (σ 5), wB E (bd 6) (σ 6), wB E (bd 7) (σ 7), wB E (bd 8) (σ 8), wB E (bd 9) (σ 9), wM E am μ, wO E ao (vp_updL o 0 1)]) (st1 := [.int 0]) [.ref ax, .int a, .ref ao] [0, 1, 2, 3, 4, 5, 6, 7, 8, 9, 10, 11, 12, 13, 15] (kL_isBlocked_rt l E ax bo β tr τ ac γ ah bd η σ at_ θ ao o hlt hvb a hr) q5_165 q1_0 (by decide +kernel) q5_164 q5_163 rfl ⟨Nat.le_of_ble_eq_true rfl, Nat.le_of_ble_eq_true rfl⟩ ⟨hk, hn⟩ (by decide) rfl rfl rfl rfl (Nat.le_of_ble_eq_true rfl) dL_law_2541 rfl ?_
      refine g_istore C (lv1 := [(5, .int 0), (0, .ref b0), (1, .ref ax), (2, .ref (am 0)), (3, .ref ao), (4, .int (nI i))]) dL_law_2544 (by decide) rfl ?_
      refine g_aload_n C dL_law_2546 rfl 3 rfl ?_
      refine g_aload_n C dL_law_2547 rfl 1 rfl ?_
      refine g_iload C dL_law_2548 5 rfl ?_
      refine g_iconst C (v := 1) dL_law_2550 (by decide) ?_
      refine g_iadd C dL_law_2551 ?_
      refine g_sldv C S (i + 1) (nx_add (rfl : nI i = nI i) (rfl : (1 : Int32) = nI 1)) (by omega) ha9 dL_law_2552 ?_
      refine g_callV C (cs1 := [wX ax (bo 0) (tr 0) (ac 0) (ah 0) (at_ 0), wB E bo β, wB E tr τ, wC E ac γ, wH E ah bd η, wT E at_ θ, wB E (bd 2) (σ 2), wB E (bd 3) (σ 3), wB E (bd 4) (σ 4), wB E (bd 5) (σ 5), wB E (bd 6) (σ 6), wB E (bd 7) (σ 7), wB E (bd 8) (σ 8), wB E (bd 9) (σ 9), wM E am ((fX7_isBlocked μ a).2), wO E ao (vp_updL o 0 1)]) (st1 := [.int (b2i ((fX7_isBlocked μ a).1))]) [.int a] [14] (kX7_isBlocked l E am μ hvm a) caX7_isBlocked q7_203 rfl ⟨Nat.le_of_ble_eq_true rfl, Nat.le_of_ble_eq_true rfl⟩ ⟨hk, hn⟩ 14 0 rfl rfl rfl rfl (by decide) rfl rfl rfl rfl (Nat.le_of_ble_eq_true rfl) dL_law_2553 rfl ?_
      refine g_istore C (lv1 := [(6, .int (b2i ((fX7_isBlocked μ a).1))), (5, .int 0), (0, .ref b0), (1, .ref ax), (2, .ref (am 0)), (3, .ref ao), (4, .int (nI i))]) dL_law_2556 (by decide) rfl ?_
      refine g_aload_n C dL_law_2558 rfl 4 rfl ?_
      refine g_callV C (cs1 := [wX ax (bo 0) (tr 0) (ac 0) (ah 0) (at_ 0), wB E bo β, wB E tr τ, wC E ac γ, wH E ah bd η, wT E at_ θ, wB E (bd 2) (σ 2), wB E (bd 3) (σ 3), wB E (bd 4) (σ 4), wB E (bd 5) (σ 5), wB E (bd 6) (σ 6), wB E (bd 7) (σ 7), wB E (bd 8) (σ 8), wB E (bd 9) (σ 9), wM E am ((fX7_isBlocked μ a).2), wO E ao (vp_updL o 0 1)]) (st1 := [.int (fX7_thrown ((fX7_isBlocked μ a).2))]) [] [14] (kX7_thrown l E am ((fX7_isBlocked μ a).2)) caX7_thrown q6_116 rfl ⟨Nat.le_of_ble_eq_true rfl, Nat.le_of_ble_eq_true rfl⟩ ⟨hk, hn⟩ 14 0 rfl rfl rfl rfl (by decide) rfl rfl rfl rfl (Nat.le_of_ble_eq_true rfl) dL_law_2559 rfl ?_
      refine g_iload C dL_law_2562 1 rfl ?_
      refine g_icmp_eq C 2569 dL_law_2564 (by decide) (fun _ => ?_) (fun c => absurd ht c)
      refine g_iload C dL_law_2569 1 rfl ?_
      refine g_if_ne C 2593 dL_law_2571 (by decide) (fun c => absurd rfl c) (fun _ => ?_)
      refine g_aload_n C dL_law_2574 rfl 5 rfl ?_
      refine g_iconst C (v := 0) dL_law_2575 (by decide) ?_
      refine g_laldn C 15 0 0 rfl rfl rfl (by decide) (by decide) dL_law_2576 ?_
      refine g_iload C dL_law_2577 0 rfl ?_
      refine g_ifB_eq C 2586 dL_law_2579 (by decide) (fun c => absurd (hbv.symm.trans c) (by decide)) (fun _ => ?_)
      refine g_lconst C (v := 1) dL_law_2582 (by decide) ?_
      refine g_goto C 2587 dL_law_2583 (by decide) ?_
      refine g_lcmp C dL_law_2587 ?_
      refine g_if_eq C 2593 dL_law_2588 (by decide) (fun _ => ?_) (fun c => absurd law_cmp c)
      refine g_goto C 3840 dL_law_2593 (by decide) ?_
      exact g_sub [2, 3, 4, 5, 6] rfl (next β τ γ η σ θ ((fX7_isBlocked μ a).2) (vp_updL o 0 1) hR2)
    | false =>
      rw [hbv] at hr
      refine g_aload_n C dL_law_2533 rfl 1 rfl ?_
      refine g_aload_n C dL_law_2534 rfl 0 rfl ?_
      refine g_iload C dL_law_2535 4 rfl ?_
      refine g_iconst C (v := 1) dL_law_2537 (by decide) ?_
      refine g_iadd C dL_law_2538 ?_
      refine g_sldv C S (i + 1) (nx_add (rfl : nI i = nI i) (rfl : (1 : Int32) = nI 1)) (by omega) ha9 dL_law_2539 ?_
      refine g_aload_n C dL_law_2540 rfl 3 rfl ?_
      refine g_callSW C hZ hNc (z := 3) (cs1 := [wX ax (bo 0) (tr 0) (ac 0) (ah 0) (at_ 0), wB E bo β, wB E tr τ, wC E ac γ, wH E ah bd η, wT E at_ θ, wB E (bd 2) (σ 2), wB E (bd 3) (σ 3), wB E (bd 4) (σ 4), wB E (bd 5) (σ 5), wB E (bd 6) (σ 6), wB E (bd 7) (σ 7), wB E (bd 8) (σ 8), wB E (bd 9) (σ 9), wM E am μ, wO E ao (vp_updL o 0 0)]) (st1 := [.int 0]) [.ref ax, .int a, .ref ao] [0, 1, 2, 3, 4, 5, 6, 7, 8, 9, 10, 11, 12, 13, 15] (kL_isBlocked_rf l E ax bo β tr τ ac γ ah bd η σ at_ θ ao o hlt hvb a hr) q5_165 q1_0 (by decide +kernel) q5_164 q5_163 rfl ⟨Nat.le_of_ble_eq_true rfl, Nat.le_of_ble_eq_true rfl⟩ ⟨hk, hn⟩ (by decide) rfl rfl rfl rfl (Nat.le_of_ble_eq_true rfl) dL_law_2541 rfl ?_
      refine g_istore C (lv1 := [(5, .int 0), (0, .ref b0), (1, .ref ax), (2, .ref (am 0)), (3, .ref ao), (4, .int (nI i))]) dL_law_2544 (by decide) rfl ?_
      refine g_aload_n C dL_law_2546 rfl 3 rfl ?_
      refine g_aload_n C dL_law_2547 rfl 1 rfl ?_
      refine g_iload C dL_law_2548 5 rfl ?_
      refine g_iconst C (v := 1) dL_law_2550 (by decide) ?_
      refine g_iadd C dL_law_2551 ?_
      refine g_sldv C S (i + 1) (nx_add (rfl : nI i = nI i) (rfl : (1 : Int32) = nI 1)) (by omega) ha9 dL_law_2552 ?_
      refine g_callV C (cs1 := [wX ax (bo 0) (tr 0) (ac 0) (ah 0) (at_ 0), wB E bo β, wB E tr τ, wC E ac γ, wH E ah bd η, wT E at_ θ, wB E (bd 2) (σ 2), wB E (bd 3) (σ 3), wB E (bd 4) (σ 4), wB E (bd 5) (σ 5), wB E (bd 6) (σ 6), wB E (bd 7) (σ 7), wB E (bd 8) (σ 8), wB E (bd 9) (σ 9), wM E am ((fX7_isBlocked μ a).2), wO E ao (vp_updL o 0 0)]) (st1 := [.int (b2i ((fX7_isBlocked μ a).1))]) [.int a] [14] (kX7_isBlocked l E am μ hvm a) caX7_isBlocked q7_203 rfl ⟨Nat.le_of_ble_eq_true rfl, Nat.le_of_ble_eq_true rfl⟩ ⟨hk, hn⟩ 14 0 rfl rfl rfl rfl (by decide) rfl rfl rfl rfl (Nat.le_of_ble_eq_true rfl) dL_law_2553 rfl ?_
      refine g_istore C (lv1 := [(6, .int (b2i ((fX7_isBlocked μ a).1))), (5, .int 0), (0, .ref b0), (1, .ref ax), (2, .ref (am 0)), (3, .ref ao), (4, .int (nI i))]) dL_law_2556 (by decide) rfl ?_
      refine g_aload_n C dL_law_2558 rfl 4 rfl ?_
      refine g_callV C (cs1 := [wX ax (bo 0) (tr 0) (ac 0) (ah 0) (at_ 0), wB E bo β, wB E tr τ, wC E ac γ, wH E ah bd η, wT E at_ θ, wB E (bd 2) (σ 2), wB E (bd 3) (σ 3), wB E (bd 4) (σ 4), wB E (bd 5) (σ 5), wB E (bd 6) (σ 6), wB E (bd 7) (σ 7), wB E (bd 8) (σ 8), wB E (bd 9) (σ 9), wM E am ((fX7_isBlocked μ a).2), wO E ao (vp_updL o 0 0)]) (st1 := [.int (fX7_thrown ((fX7_isBlocked μ a).2))]) [] [14] (kX7_thrown l E am ((fX7_isBlocked μ a).2)) caX7_thrown q6_116 rfl ⟨Nat.le_of_ble_eq_true rfl, Nat.le_of_ble_eq_true rfl⟩ ⟨hk, hn⟩ 14 0 rfl rfl rfl rfl (by decide) rfl rfl rfl rfl (Nat.le_of_ble_eq_true rfl) dL_law_2559 rfl ?_
      refine g_iload C dL_law_2562 1 rfl ?_
      refine g_icmp_eq C 2569 dL_law_2564 (by decide) (fun _ => ?_) (fun c => absurd ht c)
      refine g_iload C dL_law_2569 1 rfl ?_
      refine g_if_ne C 2593 dL_law_2571 (by decide) (fun c => absurd rfl c) (fun _ => ?_)
      refine g_aload_n C dL_law_2574 rfl 5 rfl ?_
      refine g_iconst C (v := 0) dL_law_2575 (by decide) ?_
      refine g_laldn C 15 0 0 rfl rfl rfl (by decide) (by decide) dL_law_2576 ?_
      refine g_iload C dL_law_2577 0 rfl ?_
      refine g_ifB_eq C 2586 dL_law_2579 (by decide) (fun _ => ?_) (fun c => absurd (hbv.symm.trans c) (by decide))
      refine g_lconst C (v := 0) dL_law_2586 (by decide) ?_
      refine g_lcmp C dL_law_2587 ?_
      refine g_if_eq C 2593 dL_law_2588 (by decide) (fun _ => ?_) (fun c => absurd law_cmp c)
      refine g_goto C 3840 dL_law_2593 (by decide) ?_
      exact g_sub [2, 3, 4, 5, 6] rfl (next β τ γ η σ θ ((fX7_isBlocked μ a).2) (vp_updL o 0 0) hR2)
  · skip
    refine g_aload_n C dL_law_2533 rfl 1 rfl ?_
    refine g_aload_n C dL_law_2534 rfl 0 rfl ?_
    refine g_iload C dL_law_2535 4 rfl ?_
    refine g_iconst C (v := 1) dL_law_2537 (by decide) ?_
    refine g_iadd C dL_law_2538 ?_
    refine g_sldv C S (i + 1) (nx_add (rfl : nI i = nI i) (rfl : (1 : Int32) = nI 1)) (by omega) ha9 dL_law_2539 ?_
    refine g_aload_n C dL_law_2540 rfl 3 rfl ?_
    refine g_callSW C hZ hNc (z := 3) (cs1 := [wX ax (bo 0) (tr 0) (ac 0) (ah 0) (at_ 0), wB E bo β, wB E tr τ, wC E ac γ, wH E ah bd η, wT E at_ θ, wB E (bd 2) (σ 2), wB E (bd 3) (σ 3), wB E (bd 4) (σ 4), wB E (bd 5) (σ 5), wB E (bd 6) (σ 6), wB E (bd 7) (σ 7), wB E (bd 8) (σ 8), wB E (bd 9) (σ 9), wM E am μ, wO E ao o]) (st1 := [.int 1]) [.ref ax, .int a, .ref ao] [0, 1, 2, 3, 4, 5, 6, 7, 8, 9, 10, 11, 12, 13, 15] (kL_isBlocked_0 l E ax bo β tr τ ac γ ah bd η σ at_ θ ao o hlt hvb a hr) q5_165 q1_0 (by decide +kernel) q5_164 q5_163 rfl ⟨Nat.le_of_ble_eq_true rfl, Nat.le_of_ble_eq_true rfl⟩ ⟨hk, hn⟩ (by decide) rfl rfl rfl rfl (Nat.le_of_ble_eq_true rfl) dL_law_2541 rfl ?_
    refine g_istore C (lv1 := [(5, .int 1), (0, .ref b0), (1, .ref ax), (2, .ref (am 0)), (3, .ref ao), (4, .int (nI i))]) dL_law_2544 (by decide) rfl ?_
    refine g_aload_n C dL_law_2546 rfl 3 rfl ?_
    refine g_aload_n C dL_law_2547 rfl 1 rfl ?_
    refine g_iload C dL_law_2548 5 rfl ?_
    refine g_iconst C (v := 1) dL_law_2550 (by decide) ?_
    refine g_iadd C dL_law_2551 ?_
    refine g_sldv C S (i + 1) (nx_add (rfl : nI i = nI i) (rfl : (1 : Int32) = nI 1)) (by omega) ha9 dL_law_2552 ?_
    refine g_callV C (cs1 := [wX ax (bo 0) (tr 0) (ac 0) (ah 0) (at_ 0), wB E bo β, wB E tr τ, wC E ac γ, wH E ah bd η, wT E at_ θ, wB E (bd 2) (σ 2), wB E (bd 3) (σ 3), wB E (bd 4) (σ 4), wB E (bd 5) (σ 5), wB E (bd 6) (σ 6), wB E (bd 7) (σ 7), wB E (bd 8) (σ 8), wB E (bd 9) (σ 9), wM E am ((fX7_isBlocked μ a).2), wO E ao o]) (st1 := [.int (b2i ((fX7_isBlocked μ a).1))]) [.int a] [14] (kX7_isBlocked l E am μ hvm a) caX7_isBlocked q7_203 rfl ⟨Nat.le_of_ble_eq_true rfl, Nat.le_of_ble_eq_true rfl⟩ ⟨hk, hn⟩ 14 0 rfl rfl rfl rfl (by decide) rfl rfl rfl rfl (Nat.le_of_ble_eq_true rfl) dL_law_2553 rfl ?_
    refine g_istore C (lv1 := [(6, .int (b2i ((fX7_isBlocked μ a).1))), (5, .int 1), (0, .ref b0), (1, .ref ax), (2, .ref (am 0)), (3, .ref ao), (4, .int (nI i))]) dL_law_2556 (by decide) rfl ?_
    refine g_aload_n C dL_law_2558 rfl 4 rfl ?_
    refine g_callV C (cs1 := [wX ax (bo 0) (tr 0) (ac 0) (ah 0) (at_ 0), wB E bo β, wB E tr τ, wC E ac γ, wH E ah bd η, wT E at_ θ, wB E (bd 2) (σ 2), wB E (bd 3) (σ 3), wB E (bd 4) (σ 4), wB E (bd 5) (σ 5), wB E (bd 6) (σ 6), wB E (bd 7) (σ 7), wB E (bd 8) (σ 8), wB E (bd 9) (σ 9), wM E am ((fX7_isBlocked μ a).2), wO E ao o]) (st1 := [.int (fX7_thrown ((fX7_isBlocked μ a).2))]) [] [14] (kX7_thrown l E am ((fX7_isBlocked μ a).2)) caX7_thrown q6_116 rfl ⟨Nat.le_of_ble_eq_true rfl, Nat.le_of_ble_eq_true rfl⟩ ⟨hk, hn⟩ 14 0 rfl rfl rfl rfl (by decide) rfl rfl rfl rfl (Nat.le_of_ble_eq_true rfl) dL_law_2559 rfl ?_
    refine g_iload C dL_law_2562 1 rfl ?_
    refine g_icmp_eq C 2569 dL_law_2564 (by decide) (fun _ => ?_) (fun c => absurd ht c)
    refine g_iload C dL_law_2569 1 rfl ?_
    refine g_if_ne C 2593 dL_law_2571 (by decide) (fun _ => ?_) (fun c => absurd c (by decide))
    refine g_goto C 3840 dL_law_2593 (by decide) ?_
    exact g_sub [2, 3, 4, 5, 6] rfl (next β τ γ η σ θ ((fX7_isBlocked μ a).2) o hR2)
set_option maxHeartbeats 4000000 in
set_option maxRecDepth 100000 in
theorem arm_43 {Rl : RlT} (hRv : RlV Rl) (hs : sH_blockersOf Rl)  {X : gX} {l : Launch} {E : gE} (C : gC X cL_law 9 RL (some .boolean) l E room_1) (hZ : gZ X.2.2.2.2.2.2.2.2.2.2.2.1 X.2.2.2.2.1 X.2.2.2.2.1.heap) (hNc : gNc X.2.2.2.2.1) {b0 L0 : Nat} {xs : Nat → Int32} (S : gS X b0 L0 xs) (hlt : l.stackTraces = false) {ax : Nat} {bo tr ac ah : Nat → Nat} {bd : Nat → Nat → Nat} {at_ am : Nat → Nat} {ao k n i : Nat} (hk : k + 3 ≤ 601024) (hn : n + 18 ≤ 7293034) (hi : i + 3 ≤ L0) {β τ γ η : BS} {σ : Nat → BS} {θ μ : BS} {o : Nat → Int64} (hR : Rl β η θ σ μ) (next : ∀ (β τ γ η : BS) (σ : Nat → BS) (θ μ : BS) (o : Nat → Int64), Rl β η θ σ μ → G X (k + 3) (n + 18) [wX ax (bo 0) (tr 0) (ac 0) (ah 0) (at_ 0), wB E bo β, wB E tr τ, wC E ac γ, wH E ah bd η, wT E at_ θ, wB E (bd 2) (σ 2), wB E (bd 3) (σ 3), wB E (bd 4) (σ 4), wB E (bd 5) (σ 5), wB E (bd 6) (σ 6), wB E (bd 7) (σ 7), wB E (bd 8) (σ 8), wB E (bd 9) (σ 9), wM E am μ, wO E ao o] [(0, .ref b0), (1, .ref ax), (2, .ref (am 0)), (3, .ref ao), (4, .int (nI i))] 3840 []) : G X k n [wX ax (bo 0) (tr 0) (ac 0) (ah 0) (at_ 0), wB E bo β, wB E tr τ, wC E ac γ, wH E ah bd η, wT E at_ θ, wB E (bd 2) (σ 2), wB E (bd 3) (σ 3), wB E (bd 4) (σ 4), wB E (bd 5) (σ 5), wB E (bd 6) (σ 6), wB E (bd 7) (σ 7), wB E (bd 8) (σ 8), wB E (bd 9) (σ 9), wM E am μ, wO E ao o] [(0, .ref b0), (1, .ref ax), (2, .ref (am 0)), (3, .ref ao), (4, .int (nI i))] 2596 [] := by
  obtain ⟨hvb, hvh, hvt, hvm, ha⟩ := hRv β η θ σ μ hR
  obtain ⟨a, ha9⟩ : ∃ a, xs (i + 1) = a := ⟨_, rfl⟩
  obtain ⟨hag, hR2⟩ := hs β τ γ η σ θ μ a hR
  rcases hag with ⟨hr, ht⟩ | ⟨hr, ht⟩
  · skip
    refine g_aload_n C dL_law_2596 rfl 1 rfl ?_
    refine g_aload_n C dL_law_2597 rfl 0 rfl ?_
    refine g_iload C dL_law_2598 4 rfl ?_
    refine g_iconst C (v := 1) dL_law_2600 (by decide) ?_
    refine g_iadd C dL_law_2601 ?_
    refine g_sldv C S (i + 1) (nx_add (rfl : nI i = nI i) (rfl : (1 : Int32) = nI 1)) (by omega) ha9 dL_law_2602 ?_
    refine g_aload_n C dL_law_2603 rfl 3 rfl ?_
    refine g_callSW C hZ hNc (z := 3) (cs1 := [wX ax (bo 0) (tr 0) (ac 0) (ah 0) (at_ 0), wB E bo β, wB E tr τ, wC E ac γ, wH E ah bd η, wT E at_ θ, wB E (bd 2) (σ 2), wB E (bd 3) (σ 3), wB E (bd 4) (σ 4), wB E (bd 5) (σ 5), wB E (bd 6) (σ 6), wB E (bd 7) (σ 7), wB E (bd 8) (σ 8), wB E (bd 9) (σ 9), wM E am μ, wO E ao (vp_updL o 0 ((fX7_blockersOf μ a).1).toInt64)]) (st1 := [.int 0]) [.ref ax, .int a, .ref ao] [0, 1, 2, 3, 4, 5, 6, 7, 8, 9, 10, 11, 12, 13, 15] (kL_blockersOf_r l E ax bo β tr τ ac γ ah bd η σ at_ θ ao o hlt hvb a ((fX7_blockersOf μ a).1) hr) q5_172 q1_0 (by decide +kernel) q5_171 q5_170 rfl ⟨Nat.le_of_ble_eq_true rfl, Nat.le_of_ble_eq_true rfl⟩ ⟨hk, hn⟩ (by decide) rfl rfl rfl rfl (Nat.le_of_ble_eq_true rfl) dL_law_2604 rfl ?_
    refine g_istore C (lv1 := [(5, .int 0), (0, .ref b0), (1, .ref ax), (2, .ref (am 0)), (3, .ref ao), (4, .int (nI i))]) dL_law_2607 (by decide) rfl ?_
    refine g_aload_n C dL_law_2609 rfl 3 rfl ?_
    refine g_aload_n C dL_law_2610 rfl 1 rfl ?_
    refine g_iload C dL_law_2611 5 rfl ?_
    refine g_iconst C (v := 1) dL_law_2613 (by decide) ?_
    refine g_iadd C dL_law_2614 ?_
    refine g_sldv C S (i + 1) (nx_add (rfl : nI i = nI i) (rfl : (1 : Int32) = nI 1)) (by omega) ha9 dL_law_2615 ?_
    refine g_callV C (cs1 := [wX ax (bo 0) (tr 0) (ac 0) (ah 0) (at_ 0), wB E bo β, wB E tr τ, wC E ac γ, wH E ah bd η, wT E at_ θ, wB E (bd 2) (σ 2), wB E (bd 3) (σ 3), wB E (bd 4) (σ 4), wB E (bd 5) (σ 5), wB E (bd 6) (σ 6), wB E (bd 7) (σ 7), wB E (bd 8) (σ 8), wB E (bd 9) (σ 9), wM E am ((fX7_blockersOf μ a).2), wO E ao (vp_updL o 0 ((fX7_blockersOf μ a).1).toInt64)]) (st1 := [.int ((fX7_blockersOf μ a).1)]) [.int a] [14] (kX7_blockersOf l E am μ hvm a) caX7_blockersOf q7_207 rfl ⟨Nat.le_of_ble_eq_true rfl, Nat.le_of_ble_eq_true rfl⟩ ⟨hk, hn⟩ 14 0 rfl rfl rfl rfl (by decide) rfl rfl rfl rfl (Nat.le_of_ble_eq_true rfl) dL_law_2616 rfl ?_
    refine g_istore C (lv1 := [(6, .int ((fX7_blockersOf μ a).1)), (5, .int 0), (0, .ref b0), (1, .ref ax), (2, .ref (am 0)), (3, .ref ao), (4, .int (nI i))]) dL_law_2619 (by decide) rfl ?_
    refine g_aload_n C dL_law_2621 rfl 4 rfl ?_
    refine g_callV C (cs1 := [wX ax (bo 0) (tr 0) (ac 0) (ah 0) (at_ 0), wB E bo β, wB E tr τ, wC E ac γ, wH E ah bd η, wT E at_ θ, wB E (bd 2) (σ 2), wB E (bd 3) (σ 3), wB E (bd 4) (σ 4), wB E (bd 5) (σ 5), wB E (bd 6) (σ 6), wB E (bd 7) (σ 7), wB E (bd 8) (σ 8), wB E (bd 9) (σ 9), wM E am ((fX7_blockersOf μ a).2), wO E ao (vp_updL o 0 ((fX7_blockersOf μ a).1).toInt64)]) (st1 := [.int (fX7_thrown ((fX7_blockersOf μ a).2))]) [] [14] (kX7_thrown l E am ((fX7_blockersOf μ a).2)) caX7_thrown q6_116 rfl ⟨Nat.le_of_ble_eq_true rfl, Nat.le_of_ble_eq_true rfl⟩ ⟨hk, hn⟩ 14 0 rfl rfl rfl rfl (by decide) rfl rfl rfl rfl (Nat.le_of_ble_eq_true rfl) dL_law_2622 rfl ?_
    refine g_iload C dL_law_2625 1 rfl ?_
    refine g_icmp_eq C 2632 dL_law_2627 (by decide) (fun _ => ?_) (fun c => absurd ht c)
    refine g_iload C dL_law_2632 1 rfl ?_
    refine g_if_ne C 2649 dL_law_2634 (by decide) (fun c => absurd rfl c) (fun _ => ?_)
    refine g_aload_n C dL_law_2637 rfl 5 rfl ?_
    refine g_iconst C (v := 0) dL_law_2638 (by decide) ?_
    refine g_laldn C 15 0 0 rfl rfl rfl (by decide) (by decide) dL_law_2639 ?_
    refine g_iload C dL_law_2640 0 rfl ?_
    refine g_i2l C dL_law_2642 ?_
    refine g_lcmp C dL_law_2643 ?_
    refine g_if_eq C 2649 dL_law_2644 (by decide) (fun _ => ?_) (fun c => absurd law_cmp c)
    refine g_goto C 3840 dL_law_2649 (by decide) ?_
    exact g_sub [2, 3, 4, 5, 6] rfl (next β τ γ η σ θ ((fX7_blockersOf μ a).2) (vp_updL o 0 ((fX7_blockersOf μ a).1).toInt64) hR2)
  · skip
    refine g_aload_n C dL_law_2596 rfl 1 rfl ?_
    refine g_aload_n C dL_law_2597 rfl 0 rfl ?_
    refine g_iload C dL_law_2598 4 rfl ?_
    refine g_iconst C (v := 1) dL_law_2600 (by decide) ?_
    refine g_iadd C dL_law_2601 ?_
    refine g_sldv C S (i + 1) (nx_add (rfl : nI i = nI i) (rfl : (1 : Int32) = nI 1)) (by omega) ha9 dL_law_2602 ?_
    refine g_aload_n C dL_law_2603 rfl 3 rfl ?_
    refine g_callSW C hZ hNc (z := 3) (cs1 := [wX ax (bo 0) (tr 0) (ac 0) (ah 0) (at_ 0), wB E bo β, wB E tr τ, wC E ac γ, wH E ah bd η, wT E at_ θ, wB E (bd 2) (σ 2), wB E (bd 3) (σ 3), wB E (bd 4) (σ 4), wB E (bd 5) (σ 5), wB E (bd 6) (σ 6), wB E (bd 7) (σ 7), wB E (bd 8) (σ 8), wB E (bd 9) (σ 9), wM E am μ, wO E ao o]) (st1 := [.int 1]) [.ref ax, .int a, .ref ao] [0, 1, 2, 3, 4, 5, 6, 7, 8, 9, 10, 11, 12, 13, 15] (kL_blockersOf_0 l E ax bo β tr τ ac γ ah bd η σ at_ θ ao o hlt hvb a hr) q5_172 q1_0 (by decide +kernel) q5_171 q5_170 rfl ⟨Nat.le_of_ble_eq_true rfl, Nat.le_of_ble_eq_true rfl⟩ ⟨hk, hn⟩ (by decide) rfl rfl rfl rfl (Nat.le_of_ble_eq_true rfl) dL_law_2604 rfl ?_
    refine g_istore C (lv1 := [(5, .int 1), (0, .ref b0), (1, .ref ax), (2, .ref (am 0)), (3, .ref ao), (4, .int (nI i))]) dL_law_2607 (by decide) rfl ?_
    refine g_aload_n C dL_law_2609 rfl 3 rfl ?_
    refine g_aload_n C dL_law_2610 rfl 1 rfl ?_
    refine g_iload C dL_law_2611 5 rfl ?_
    refine g_iconst C (v := 1) dL_law_2613 (by decide) ?_
    refine g_iadd C dL_law_2614 ?_
    refine g_sldv C S (i + 1) (nx_add (rfl : nI i = nI i) (rfl : (1 : Int32) = nI 1)) (by omega) ha9 dL_law_2615 ?_
    refine g_callV C (cs1 := [wX ax (bo 0) (tr 0) (ac 0) (ah 0) (at_ 0), wB E bo β, wB E tr τ, wC E ac γ, wH E ah bd η, wT E at_ θ, wB E (bd 2) (σ 2), wB E (bd 3) (σ 3), wB E (bd 4) (σ 4), wB E (bd 5) (σ 5), wB E (bd 6) (σ 6), wB E (bd 7) (σ 7), wB E (bd 8) (σ 8), wB E (bd 9) (σ 9), wM E am ((fX7_blockersOf μ a).2), wO E ao o]) (st1 := [.int ((fX7_blockersOf μ a).1)]) [.int a] [14] (kX7_blockersOf l E am μ hvm a) caX7_blockersOf q7_207 rfl ⟨Nat.le_of_ble_eq_true rfl, Nat.le_of_ble_eq_true rfl⟩ ⟨hk, hn⟩ 14 0 rfl rfl rfl rfl (by decide) rfl rfl rfl rfl (Nat.le_of_ble_eq_true rfl) dL_law_2616 rfl ?_
    refine g_istore C (lv1 := [(6, .int ((fX7_blockersOf μ a).1)), (5, .int 1), (0, .ref b0), (1, .ref ax), (2, .ref (am 0)), (3, .ref ao), (4, .int (nI i))]) dL_law_2619 (by decide) rfl ?_
    refine g_aload_n C dL_law_2621 rfl 4 rfl ?_
    refine g_callV C (cs1 := [wX ax (bo 0) (tr 0) (ac 0) (ah 0) (at_ 0), wB E bo β, wB E tr τ, wC E ac γ, wH E ah bd η, wT E at_ θ, wB E (bd 2) (σ 2), wB E (bd 3) (σ 3), wB E (bd 4) (σ 4), wB E (bd 5) (σ 5), wB E (bd 6) (σ 6), wB E (bd 7) (σ 7), wB E (bd 8) (σ 8), wB E (bd 9) (σ 9), wM E am ((fX7_blockersOf μ a).2), wO E ao o]) (st1 := [.int (fX7_thrown ((fX7_blockersOf μ a).2))]) [] [14] (kX7_thrown l E am ((fX7_blockersOf μ a).2)) caX7_thrown q6_116 rfl ⟨Nat.le_of_ble_eq_true rfl, Nat.le_of_ble_eq_true rfl⟩ ⟨hk, hn⟩ 14 0 rfl rfl rfl rfl (by decide) rfl rfl rfl rfl (Nat.le_of_ble_eq_true rfl) dL_law_2622 rfl ?_
    refine g_iload C dL_law_2625 1 rfl ?_
    refine g_icmp_eq C 2632 dL_law_2627 (by decide) (fun _ => ?_) (fun c => absurd ht c)
    refine g_iload C dL_law_2632 1 rfl ?_
    refine g_if_ne C 2649 dL_law_2634 (by decide) (fun _ => ?_) (fun c => absurd c (by decide))
    refine g_goto C 3840 dL_law_2649 (by decide) ?_
    exact g_sub [2, 3, 4, 5, 6] rfl (next β τ γ η σ θ ((fX7_blockersOf μ a).2) o hR2)
set_option maxHeartbeats 4000000 in
set_option maxRecDepth 100000 in
theorem arm_44 {Rl : RlT} (hRv : RlV Rl) (hs : sH_allNeedsByGoing Rl)  {X : gX} {l : Launch} {E : gE} (C : gC X cL_law 9 RL (some .boolean) l E room_1) (hZ : gZ X.2.2.2.2.2.2.2.2.2.2.2.1 X.2.2.2.2.1 X.2.2.2.2.1.heap) (hNc : gNc X.2.2.2.2.1) {b0 L0 : Nat} {xs : Nat → Int32} (S : gS X b0 L0 xs) (hlt : l.stackTraces = false) {ax : Nat} {bo tr ac ah : Nat → Nat} {bd : Nat → Nat → Nat} {at_ am : Nat → Nat} {ao k n i : Nat} (hk : k + 3 ≤ 601024) (hn : n + 18 ≤ 7293034) (hi : i + 3 ≤ L0) {β τ γ η : BS} {σ : Nat → BS} {θ μ : BS} {o : Nat → Int64} (hR : Rl β η θ σ μ) (next : ∀ (β τ γ η : BS) (σ : Nat → BS) (θ μ : BS) (o : Nat → Int64), Rl β η θ σ μ → G X (k + 3) (n + 18) [wX ax (bo 0) (tr 0) (ac 0) (ah 0) (at_ 0), wB E bo β, wB E tr τ, wC E ac γ, wH E ah bd η, wT E at_ θ, wB E (bd 2) (σ 2), wB E (bd 3) (σ 3), wB E (bd 4) (σ 4), wB E (bd 5) (σ 5), wB E (bd 6) (σ 6), wB E (bd 7) (σ 7), wB E (bd 8) (σ 8), wB E (bd 9) (σ 9), wM E am μ, wO E ao o] [(0, .ref b0), (1, .ref ax), (2, .ref (am 0)), (3, .ref ao), (4, .int (nI i))] 3840 []) : G X k n [wX ax (bo 0) (tr 0) (ac 0) (ah 0) (at_ 0), wB E bo β, wB E tr τ, wC E ac γ, wH E ah bd η, wT E at_ θ, wB E (bd 2) (σ 2), wB E (bd 3) (σ 3), wB E (bd 4) (σ 4), wB E (bd 5) (σ 5), wB E (bd 6) (σ 6), wB E (bd 7) (σ 7), wB E (bd 8) (σ 8), wB E (bd 9) (σ 9), wM E am μ, wO E ao o] [(0, .ref b0), (1, .ref ax), (2, .ref (am 0)), (3, .ref ao), (4, .int (nI i))] 2652 [] := by
  obtain ⟨hvb, hvh, hvt, hvm, ha⟩ := hRv β η θ σ μ hR
  obtain ⟨a, ha9⟩ : ∃ a, xs (i + 1) = a := ⟨_, rfl⟩
  obtain ⟨hag, hR2⟩ := hs β τ γ η σ θ μ a hR
  rcases hag with ⟨hr, ht⟩ | ⟨hr, ht⟩
  · skip
    refine g_aload_n C dL_law_2652 rfl 1 rfl ?_
    refine g_aload_n C dL_law_2653 rfl 0 rfl ?_
    refine g_iload C dL_law_2654 4 rfl ?_
    refine g_iconst C (v := 1) dL_law_2656 (by decide) ?_
    refine g_iadd C dL_law_2657 ?_
    refine g_sldv C S (i + 1) (nx_add (rfl : nI i = nI i) (rfl : (1 : Int32) = nI 1)) (by omega) ha9 dL_law_2658 ?_
    refine g_aload_n C dL_law_2659 rfl 3 rfl ?_
    refine g_callSW C hZ hNc (z := 3) (cs1 := [wX ax (bo 0) (tr 0) (ac 0) (ah 0) (at_ 0), wB E bo β, wB E tr τ, wC E ac γ, wH E ah bd η, wT E at_ θ, wB E (bd 2) (σ 2), wB E (bd 3) (σ 3), wB E (bd 4) (σ 4), wB E (bd 5) (σ 5), wB E (bd 6) (σ 6), wB E (bd 7) (σ 7), wB E (bd 8) (σ 8), wB E (bd 9) (σ 9), wM E am μ, wO E ao (vp_updL o 0 ((fX7_allNeedsByGoing μ a).1).toInt64)]) (st1 := [.int 0]) [.ref ax, .int a, .ref ao] [0, 1, 2, 3, 4, 5, 6, 7, 8, 9, 10, 11, 12, 13, 15] (kL_allNeedsByGoing_r l E ax bo β tr τ ac γ ah bd η σ at_ θ ao o hlt hvb a ((fX7_allNeedsByGoing μ a).1) hr) q5_179 q1_0 (by decide +kernel) q5_178 q5_177 rfl ⟨Nat.le_of_ble_eq_true rfl, Nat.le_of_ble_eq_true rfl⟩ ⟨hk, hn⟩ (by decide) rfl rfl rfl rfl (Nat.le_of_ble_eq_true rfl) dL_law_2660 rfl ?_
    refine g_istore C (lv1 := [(5, .int 0), (0, .ref b0), (1, .ref ax), (2, .ref (am 0)), (3, .ref ao), (4, .int (nI i))]) dL_law_2663 (by decide) rfl ?_
    refine g_aload_n C dL_law_2665 rfl 3 rfl ?_
    refine g_aload_n C dL_law_2666 rfl 1 rfl ?_
    refine g_iload C dL_law_2667 5 rfl ?_
    refine g_iconst C (v := 1) dL_law_2669 (by decide) ?_
    refine g_iadd C dL_law_2670 ?_
    refine g_sldv C S (i + 1) (nx_add (rfl : nI i = nI i) (rfl : (1 : Int32) = nI 1)) (by omega) ha9 dL_law_2671 ?_
    refine g_callV C (cs1 := [wX ax (bo 0) (tr 0) (ac 0) (ah 0) (at_ 0), wB E bo β, wB E tr τ, wC E ac γ, wH E ah bd η, wT E at_ θ, wB E (bd 2) (σ 2), wB E (bd 3) (σ 3), wB E (bd 4) (σ 4), wB E (bd 5) (σ 5), wB E (bd 6) (σ 6), wB E (bd 7) (σ 7), wB E (bd 8) (σ 8), wB E (bd 9) (σ 9), wM E am ((fX7_allNeedsByGoing μ a).2), wO E ao (vp_updL o 0 ((fX7_allNeedsByGoing μ a).1).toInt64)]) (st1 := [.int ((fX7_allNeedsByGoing μ a).1)]) [.int a] [14] (kX7_allNeedsByGoing l E am μ hvm a) caX7_allNeedsByGoing q7_211 rfl ⟨Nat.le_of_ble_eq_true rfl, Nat.le_of_ble_eq_true rfl⟩ ⟨hk, hn⟩ 14 0 rfl rfl rfl rfl (by decide) rfl rfl rfl rfl (Nat.le_of_ble_eq_true rfl) dL_law_2672 rfl ?_
    refine g_istore C (lv1 := [(6, .int ((fX7_allNeedsByGoing μ a).1)), (5, .int 0), (0, .ref b0), (1, .ref ax), (2, .ref (am 0)), (3, .ref ao), (4, .int (nI i))]) dL_law_2675 (by decide) rfl ?_
    refine g_aload_n C dL_law_2677 rfl 4 rfl ?_
    refine g_callV C (cs1 := [wX ax (bo 0) (tr 0) (ac 0) (ah 0) (at_ 0), wB E bo β, wB E tr τ, wC E ac γ, wH E ah bd η, wT E at_ θ, wB E (bd 2) (σ 2), wB E (bd 3) (σ 3), wB E (bd 4) (σ 4), wB E (bd 5) (σ 5), wB E (bd 6) (σ 6), wB E (bd 7) (σ 7), wB E (bd 8) (σ 8), wB E (bd 9) (σ 9), wM E am ((fX7_allNeedsByGoing μ a).2), wO E ao (vp_updL o 0 ((fX7_allNeedsByGoing μ a).1).toInt64)]) (st1 := [.int (fX7_thrown ((fX7_allNeedsByGoing μ a).2))]) [] [14] (kX7_thrown l E am ((fX7_allNeedsByGoing μ a).2)) caX7_thrown q6_116 rfl ⟨Nat.le_of_ble_eq_true rfl, Nat.le_of_ble_eq_true rfl⟩ ⟨hk, hn⟩ 14 0 rfl rfl rfl rfl (by decide) rfl rfl rfl rfl (Nat.le_of_ble_eq_true rfl) dL_law_2678 rfl ?_
    refine g_iload C dL_law_2681 1 rfl ?_
    refine g_icmp_eq C 2688 dL_law_2683 (by decide) (fun _ => ?_) (fun c => absurd ht c)
    refine g_iload C dL_law_2688 1 rfl ?_
    refine g_if_ne C 2705 dL_law_2690 (by decide) (fun c => absurd rfl c) (fun _ => ?_)
    refine g_aload_n C dL_law_2693 rfl 5 rfl ?_
    refine g_iconst C (v := 0) dL_law_2694 (by decide) ?_
    refine g_laldn C 15 0 0 rfl rfl rfl (by decide) (by decide) dL_law_2695 ?_
    refine g_iload C dL_law_2696 0 rfl ?_
    refine g_i2l C dL_law_2698 ?_
    refine g_lcmp C dL_law_2699 ?_
    refine g_if_eq C 2705 dL_law_2700 (by decide) (fun _ => ?_) (fun c => absurd law_cmp c)
    refine g_goto C 3840 dL_law_2705 (by decide) ?_
    exact g_sub [2, 3, 4, 5, 6] rfl (next β τ γ η σ θ ((fX7_allNeedsByGoing μ a).2) (vp_updL o 0 ((fX7_allNeedsByGoing μ a).1).toInt64) hR2)
  · skip
    refine g_aload_n C dL_law_2652 rfl 1 rfl ?_
    refine g_aload_n C dL_law_2653 rfl 0 rfl ?_
    refine g_iload C dL_law_2654 4 rfl ?_
    refine g_iconst C (v := 1) dL_law_2656 (by decide) ?_
    refine g_iadd C dL_law_2657 ?_
    refine g_sldv C S (i + 1) (nx_add (rfl : nI i = nI i) (rfl : (1 : Int32) = nI 1)) (by omega) ha9 dL_law_2658 ?_
    refine g_aload_n C dL_law_2659 rfl 3 rfl ?_
    refine g_callSW C hZ hNc (z := 3) (cs1 := [wX ax (bo 0) (tr 0) (ac 0) (ah 0) (at_ 0), wB E bo β, wB E tr τ, wC E ac γ, wH E ah bd η, wT E at_ θ, wB E (bd 2) (σ 2), wB E (bd 3) (σ 3), wB E (bd 4) (σ 4), wB E (bd 5) (σ 5), wB E (bd 6) (σ 6), wB E (bd 7) (σ 7), wB E (bd 8) (σ 8), wB E (bd 9) (σ 9), wM E am μ, wO E ao o]) (st1 := [.int 1]) [.ref ax, .int a, .ref ao] [0, 1, 2, 3, 4, 5, 6, 7, 8, 9, 10, 11, 12, 13, 15] (kL_allNeedsByGoing_0 l E ax bo β tr τ ac γ ah bd η σ at_ θ ao o hlt hvb a hr) q5_179 q1_0 (by decide +kernel) q5_178 q5_177 rfl ⟨Nat.le_of_ble_eq_true rfl, Nat.le_of_ble_eq_true rfl⟩ ⟨hk, hn⟩ (by decide) rfl rfl rfl rfl (Nat.le_of_ble_eq_true rfl) dL_law_2660 rfl ?_
    refine g_istore C (lv1 := [(5, .int 1), (0, .ref b0), (1, .ref ax), (2, .ref (am 0)), (3, .ref ao), (4, .int (nI i))]) dL_law_2663 (by decide) rfl ?_
    refine g_aload_n C dL_law_2665 rfl 3 rfl ?_
    refine g_aload_n C dL_law_2666 rfl 1 rfl ?_
    refine g_iload C dL_law_2667 5 rfl ?_
    refine g_iconst C (v := 1) dL_law_2669 (by decide) ?_
    refine g_iadd C dL_law_2670 ?_
    refine g_sldv C S (i + 1) (nx_add (rfl : nI i = nI i) (rfl : (1 : Int32) = nI 1)) (by omega) ha9 dL_law_2671 ?_
    refine g_callV C (cs1 := [wX ax (bo 0) (tr 0) (ac 0) (ah 0) (at_ 0), wB E bo β, wB E tr τ, wC E ac γ, wH E ah bd η, wT E at_ θ, wB E (bd 2) (σ 2), wB E (bd 3) (σ 3), wB E (bd 4) (σ 4), wB E (bd 5) (σ 5), wB E (bd 6) (σ 6), wB E (bd 7) (σ 7), wB E (bd 8) (σ 8), wB E (bd 9) (σ 9), wM E am ((fX7_allNeedsByGoing μ a).2), wO E ao o]) (st1 := [.int ((fX7_allNeedsByGoing μ a).1)]) [.int a] [14] (kX7_allNeedsByGoing l E am μ hvm a) caX7_allNeedsByGoing q7_211 rfl ⟨Nat.le_of_ble_eq_true rfl, Nat.le_of_ble_eq_true rfl⟩ ⟨hk, hn⟩ 14 0 rfl rfl rfl rfl (by decide) rfl rfl rfl rfl (Nat.le_of_ble_eq_true rfl) dL_law_2672 rfl ?_
    refine g_istore C (lv1 := [(6, .int ((fX7_allNeedsByGoing μ a).1)), (5, .int 1), (0, .ref b0), (1, .ref ax), (2, .ref (am 0)), (3, .ref ao), (4, .int (nI i))]) dL_law_2675 (by decide) rfl ?_
    refine g_aload_n C dL_law_2677 rfl 4 rfl ?_
    refine g_callV C (cs1 := [wX ax (bo 0) (tr 0) (ac 0) (ah 0) (at_ 0), wB E bo β, wB E tr τ, wC E ac γ, wH E ah bd η, wT E at_ θ, wB E (bd 2) (σ 2), wB E (bd 3) (σ 3), wB E (bd 4) (σ 4), wB E (bd 5) (σ 5), wB E (bd 6) (σ 6), wB E (bd 7) (σ 7), wB E (bd 8) (σ 8), wB E (bd 9) (σ 9), wM E am ((fX7_allNeedsByGoing μ a).2), wO E ao o]) (st1 := [.int (fX7_thrown ((fX7_allNeedsByGoing μ a).2))]) [] [14] (kX7_thrown l E am ((fX7_allNeedsByGoing μ a).2)) caX7_thrown q6_116 rfl ⟨Nat.le_of_ble_eq_true rfl, Nat.le_of_ble_eq_true rfl⟩ ⟨hk, hn⟩ 14 0 rfl rfl rfl rfl (by decide) rfl rfl rfl rfl (Nat.le_of_ble_eq_true rfl) dL_law_2678 rfl ?_
    refine g_iload C dL_law_2681 1 rfl ?_
    refine g_icmp_eq C 2688 dL_law_2683 (by decide) (fun _ => ?_) (fun c => absurd ht c)
    refine g_iload C dL_law_2688 1 rfl ?_
    refine g_if_ne C 2705 dL_law_2690 (by decide) (fun _ => ?_) (fun c => absurd c (by decide))
    refine g_goto C 3840 dL_law_2705 (by decide) ?_
    exact g_sub [2, 3, 4, 5, 6] rfl (next β τ γ η σ θ ((fX7_allNeedsByGoing μ a).2) o hR2)
set_option maxHeartbeats 4000000 in
set_option maxRecDepth 100000 in
theorem arm_45 {Rl : RlT} (hRv : RlV Rl) (hs : sH_allNeedsByTable Rl)  {X : gX} {l : Launch} {E : gE} (C : gC X cL_law 9 RL (some .boolean) l E room_1) (hZ : gZ X.2.2.2.2.2.2.2.2.2.2.2.1 X.2.2.2.2.1 X.2.2.2.2.1.heap) (hNc : gNc X.2.2.2.2.1) {b0 L0 : Nat} {xs : Nat → Int32} (S : gS X b0 L0 xs) (hlt : l.stackTraces = false) {ax : Nat} {bo tr ac ah : Nat → Nat} {bd : Nat → Nat → Nat} {at_ am : Nat → Nat} {ao k n i : Nat} (hk : k + 3 ≤ 601024) (hn : n + 18 ≤ 7293034) (hi : i + 3 ≤ L0) {β τ γ η : BS} {σ : Nat → BS} {θ μ : BS} {o : Nat → Int64} (hR : Rl β η θ σ μ) (next : ∀ (β τ γ η : BS) (σ : Nat → BS) (θ μ : BS) (o : Nat → Int64), Rl β η θ σ μ → G X (k + 3) (n + 18) [wX ax (bo 0) (tr 0) (ac 0) (ah 0) (at_ 0), wB E bo β, wB E tr τ, wC E ac γ, wH E ah bd η, wT E at_ θ, wB E (bd 2) (σ 2), wB E (bd 3) (σ 3), wB E (bd 4) (σ 4), wB E (bd 5) (σ 5), wB E (bd 6) (σ 6), wB E (bd 7) (σ 7), wB E (bd 8) (σ 8), wB E (bd 9) (σ 9), wM E am μ, wO E ao o] [(0, .ref b0), (1, .ref ax), (2, .ref (am 0)), (3, .ref ao), (4, .int (nI i))] 3840 []) : G X k n [wX ax (bo 0) (tr 0) (ac 0) (ah 0) (at_ 0), wB E bo β, wB E tr τ, wC E ac γ, wH E ah bd η, wT E at_ θ, wB E (bd 2) (σ 2), wB E (bd 3) (σ 3), wB E (bd 4) (σ 4), wB E (bd 5) (σ 5), wB E (bd 6) (σ 6), wB E (bd 7) (σ 7), wB E (bd 8) (σ 8), wB E (bd 9) (σ 9), wM E am μ, wO E ao o] [(0, .ref b0), (1, .ref ax), (2, .ref (am 0)), (3, .ref ao), (4, .int (nI i))] 2708 [] := by
  obtain ⟨hvb, hvh, hvt, hvm, ha⟩ := hRv β η θ σ μ hR
  obtain ⟨a, ha9⟩ : ∃ a, xs (i + 1) = a := ⟨_, rfl⟩
  obtain ⟨hag, hR2⟩ := hs β τ γ η σ θ μ a hR
  rcases hag with ⟨hr, ht⟩ | ⟨hr, ht⟩
  · skip
    refine g_aload_n C dL_law_2708 rfl 1 rfl ?_
    refine g_aload_n C dL_law_2709 rfl 0 rfl ?_
    refine g_iload C dL_law_2710 4 rfl ?_
    refine g_iconst C (v := 1) dL_law_2712 (by decide) ?_
    refine g_iadd C dL_law_2713 ?_
    refine g_sldv C S (i + 1) (nx_add (rfl : nI i = nI i) (rfl : (1 : Int32) = nI 1)) (by omega) ha9 dL_law_2714 ?_
    refine g_aload_n C dL_law_2715 rfl 3 rfl ?_
    refine g_callSW C hZ hNc (z := 3) (cs1 := [wX ax (bo 0) (tr 0) (ac 0) (ah 0) (at_ 0), wB E bo β, wB E tr τ, wC E ac ((fX6_allNeedsByTable β γ a).2), wH E ah bd η, wT E at_ θ, wB E (bd 2) (σ 2), wB E (bd 3) (σ 3), wB E (bd 4) (σ 4), wB E (bd 5) (σ 5), wB E (bd 6) (σ 6), wB E (bd 7) (σ 7), wB E (bd 8) (σ 8), wB E (bd 9) (σ 9), wM E am μ, wO E ao (vp_updL o 0 ((fX7_allNeedsByTable μ a).1).toInt64)]) (st1 := [.int 0]) [.ref ax, .int a, .ref ao] [0, 1, 2, 3, 4, 5, 6, 7, 8, 9, 10, 11, 12, 13, 15] (kL_allNeedsByTable_r l E ax bo β tr τ ac γ ah bd η σ at_ θ ao o hlt hvb a ((fX7_allNeedsByTable μ a).1) hr) q5_186 q1_0 (by decide +kernel) q5_185 q5_184 rfl ⟨Nat.le_of_ble_eq_true rfl, Nat.le_of_ble_eq_true rfl⟩ ⟨hk, hn⟩ (by decide) rfl rfl rfl rfl (Nat.le_of_ble_eq_true rfl) dL_law_2716 rfl ?_
    refine g_istore C (lv1 := [(5, .int 0), (0, .ref b0), (1, .ref ax), (2, .ref (am 0)), (3, .ref ao), (4, .int (nI i))]) dL_law_2719 (by decide) rfl ?_
    refine g_aload_n C dL_law_2721 rfl 3 rfl ?_
    refine g_aload_n C dL_law_2722 rfl 1 rfl ?_
    refine g_iload C dL_law_2723 5 rfl ?_
    refine g_iconst C (v := 1) dL_law_2725 (by decide) ?_
    refine g_iadd C dL_law_2726 ?_
    refine g_sldv C S (i + 1) (nx_add (rfl : nI i = nI i) (rfl : (1 : Int32) = nI 1)) (by omega) ha9 dL_law_2727 ?_
    refine g_callV C (cs1 := [wX ax (bo 0) (tr 0) (ac 0) (ah 0) (at_ 0), wB E bo β, wB E tr τ, wC E ac ((fX6_allNeedsByTable β γ a).2), wH E ah bd η, wT E at_ θ, wB E (bd 2) (σ 2), wB E (bd 3) (σ 3), wB E (bd 4) (σ 4), wB E (bd 5) (σ 5), wB E (bd 6) (σ 6), wB E (bd 7) (σ 7), wB E (bd 8) (σ 8), wB E (bd 9) (σ 9), wM E am ((fX7_allNeedsByTable μ a).2), wO E ao (vp_updL o 0 ((fX7_allNeedsByTable μ a).1).toInt64)]) (st1 := [.int ((fX7_allNeedsByTable μ a).1)]) [.int a] [14] (kX7_allNeedsByTable l E am μ hvm a) caX7_allNeedsByTable q7_215 rfl ⟨Nat.le_of_ble_eq_true rfl, Nat.le_of_ble_eq_true rfl⟩ ⟨hk, hn⟩ 14 0 rfl rfl rfl rfl (by decide) rfl rfl rfl rfl (Nat.le_of_ble_eq_true rfl) dL_law_2728 rfl ?_
    refine g_istore C (lv1 := [(6, .int ((fX7_allNeedsByTable μ a).1)), (5, .int 0), (0, .ref b0), (1, .ref ax), (2, .ref (am 0)), (3, .ref ao), (4, .int (nI i))]) dL_law_2731 (by decide) rfl ?_
    refine g_aload_n C dL_law_2733 rfl 4 rfl ?_
    refine g_callV C (cs1 := [wX ax (bo 0) (tr 0) (ac 0) (ah 0) (at_ 0), wB E bo β, wB E tr τ, wC E ac ((fX6_allNeedsByTable β γ a).2), wH E ah bd η, wT E at_ θ, wB E (bd 2) (σ 2), wB E (bd 3) (σ 3), wB E (bd 4) (σ 4), wB E (bd 5) (σ 5), wB E (bd 6) (σ 6), wB E (bd 7) (σ 7), wB E (bd 8) (σ 8), wB E (bd 9) (σ 9), wM E am ((fX7_allNeedsByTable μ a).2), wO E ao (vp_updL o 0 ((fX7_allNeedsByTable μ a).1).toInt64)]) (st1 := [.int (fX7_thrown ((fX7_allNeedsByTable μ a).2))]) [] [14] (kX7_thrown l E am ((fX7_allNeedsByTable μ a).2)) caX7_thrown q6_116 rfl ⟨Nat.le_of_ble_eq_true rfl, Nat.le_of_ble_eq_true rfl⟩ ⟨hk, hn⟩ 14 0 rfl rfl rfl rfl (by decide) rfl rfl rfl rfl (Nat.le_of_ble_eq_true rfl) dL_law_2734 rfl ?_
    refine g_iload C dL_law_2737 1 rfl ?_
    refine g_icmp_eq C 2744 dL_law_2739 (by decide) (fun _ => ?_) (fun c => absurd ht c)
    refine g_iload C dL_law_2744 1 rfl ?_
    refine g_if_ne C 2761 dL_law_2746 (by decide) (fun c => absurd rfl c) (fun _ => ?_)
    refine g_aload_n C dL_law_2749 rfl 5 rfl ?_
    refine g_iconst C (v := 0) dL_law_2750 (by decide) ?_
    refine g_laldn C 15 0 0 rfl rfl rfl (by decide) (by decide) dL_law_2751 ?_
    refine g_iload C dL_law_2752 0 rfl ?_
    refine g_i2l C dL_law_2754 ?_
    refine g_lcmp C dL_law_2755 ?_
    refine g_if_eq C 2761 dL_law_2756 (by decide) (fun _ => ?_) (fun c => absurd law_cmp c)
    refine g_goto C 3840 dL_law_2761 (by decide) ?_
    exact g_sub [2, 3, 4, 5, 6] rfl (next β τ ((fX6_allNeedsByTable β γ a).2) η σ θ ((fX7_allNeedsByTable μ a).2) (vp_updL o 0 ((fX7_allNeedsByTable μ a).1).toInt64) hR2)
  · skip
    refine g_aload_n C dL_law_2708 rfl 1 rfl ?_
    refine g_aload_n C dL_law_2709 rfl 0 rfl ?_
    refine g_iload C dL_law_2710 4 rfl ?_
    refine g_iconst C (v := 1) dL_law_2712 (by decide) ?_
    refine g_iadd C dL_law_2713 ?_
    refine g_sldv C S (i + 1) (nx_add (rfl : nI i = nI i) (rfl : (1 : Int32) = nI 1)) (by omega) ha9 dL_law_2714 ?_
    refine g_aload_n C dL_law_2715 rfl 3 rfl ?_
    refine g_callSW C hZ hNc (z := 3) (cs1 := [wX ax (bo 0) (tr 0) (ac 0) (ah 0) (at_ 0), wB E bo β, wB E tr τ, wC E ac ((fX6_allNeedsByTable β γ a).2), wH E ah bd η, wT E at_ θ, wB E (bd 2) (σ 2), wB E (bd 3) (σ 3), wB E (bd 4) (σ 4), wB E (bd 5) (σ 5), wB E (bd 6) (σ 6), wB E (bd 7) (σ 7), wB E (bd 8) (σ 8), wB E (bd 9) (σ 9), wM E am μ, wO E ao o]) (st1 := [.int 1]) [.ref ax, .int a, .ref ao] [0, 1, 2, 3, 4, 5, 6, 7, 8, 9, 10, 11, 12, 13, 15] (kL_allNeedsByTable_0 l E ax bo β tr τ ac γ ah bd η σ at_ θ ao o hlt hvb a hr) q5_186 q1_0 (by decide +kernel) q5_185 q5_184 rfl ⟨Nat.le_of_ble_eq_true rfl, Nat.le_of_ble_eq_true rfl⟩ ⟨hk, hn⟩ (by decide) rfl rfl rfl rfl (Nat.le_of_ble_eq_true rfl) dL_law_2716 rfl ?_
    refine g_istore C (lv1 := [(5, .int 1), (0, .ref b0), (1, .ref ax), (2, .ref (am 0)), (3, .ref ao), (4, .int (nI i))]) dL_law_2719 (by decide) rfl ?_
    refine g_aload_n C dL_law_2721 rfl 3 rfl ?_
    refine g_aload_n C dL_law_2722 rfl 1 rfl ?_
    refine g_iload C dL_law_2723 5 rfl ?_
    refine g_iconst C (v := 1) dL_law_2725 (by decide) ?_
    refine g_iadd C dL_law_2726 ?_
    refine g_sldv C S (i + 1) (nx_add (rfl : nI i = nI i) (rfl : (1 : Int32) = nI 1)) (by omega) ha9 dL_law_2727 ?_
    refine g_callV C (cs1 := [wX ax (bo 0) (tr 0) (ac 0) (ah 0) (at_ 0), wB E bo β, wB E tr τ, wC E ac ((fX6_allNeedsByTable β γ a).2), wH E ah bd η, wT E at_ θ, wB E (bd 2) (σ 2), wB E (bd 3) (σ 3), wB E (bd 4) (σ 4), wB E (bd 5) (σ 5), wB E (bd 6) (σ 6), wB E (bd 7) (σ 7), wB E (bd 8) (σ 8), wB E (bd 9) (σ 9), wM E am ((fX7_allNeedsByTable μ a).2), wO E ao o]) (st1 := [.int ((fX7_allNeedsByTable μ a).1)]) [.int a] [14] (kX7_allNeedsByTable l E am μ hvm a) caX7_allNeedsByTable q7_215 rfl ⟨Nat.le_of_ble_eq_true rfl, Nat.le_of_ble_eq_true rfl⟩ ⟨hk, hn⟩ 14 0 rfl rfl rfl rfl (by decide) rfl rfl rfl rfl (Nat.le_of_ble_eq_true rfl) dL_law_2728 rfl ?_
    refine g_istore C (lv1 := [(6, .int ((fX7_allNeedsByTable μ a).1)), (5, .int 1), (0, .ref b0), (1, .ref ax), (2, .ref (am 0)), (3, .ref ao), (4, .int (nI i))]) dL_law_2731 (by decide) rfl ?_
    refine g_aload_n C dL_law_2733 rfl 4 rfl ?_
    refine g_callV C (cs1 := [wX ax (bo 0) (tr 0) (ac 0) (ah 0) (at_ 0), wB E bo β, wB E tr τ, wC E ac ((fX6_allNeedsByTable β γ a).2), wH E ah bd η, wT E at_ θ, wB E (bd 2) (σ 2), wB E (bd 3) (σ 3), wB E (bd 4) (σ 4), wB E (bd 5) (σ 5), wB E (bd 6) (σ 6), wB E (bd 7) (σ 7), wB E (bd 8) (σ 8), wB E (bd 9) (σ 9), wM E am ((fX7_allNeedsByTable μ a).2), wO E ao o]) (st1 := [.int (fX7_thrown ((fX7_allNeedsByTable μ a).2))]) [] [14] (kX7_thrown l E am ((fX7_allNeedsByTable μ a).2)) caX7_thrown q6_116 rfl ⟨Nat.le_of_ble_eq_true rfl, Nat.le_of_ble_eq_true rfl⟩ ⟨hk, hn⟩ 14 0 rfl rfl rfl rfl (by decide) rfl rfl rfl rfl (Nat.le_of_ble_eq_true rfl) dL_law_2734 rfl ?_
    refine g_iload C dL_law_2737 1 rfl ?_
    refine g_icmp_eq C 2744 dL_law_2739 (by decide) (fun _ => ?_) (fun c => absurd ht c)
    refine g_iload C dL_law_2744 1 rfl ?_
    refine g_if_ne C 2761 dL_law_2746 (by decide) (fun _ => ?_) (fun c => absurd c (by decide))
    refine g_goto C 3840 dL_law_2761 (by decide) ?_
    exact g_sub [2, 3, 4, 5, 6] rfl (next β τ ((fX6_allNeedsByTable β γ a).2) η σ θ ((fX7_allNeedsByTable μ a).2) o hR2)
set_option maxHeartbeats 4000000 in
set_option maxRecDepth 100000 in
theorem arm_46 {Rl : RlT} (hRv : RlV Rl) (hs : sH_chainOf Rl)  {X : gX} {l : Launch} {E : gE} (C : gC X cL_law 9 RL (some .boolean) l E room_1) (hZ : gZ X.2.2.2.2.2.2.2.2.2.2.2.1 X.2.2.2.2.1 X.2.2.2.2.1.heap) (hNc : gNc X.2.2.2.2.1) {b0 L0 : Nat} {xs : Nat → Int32} (S : gS X b0 L0 xs) (hlt : l.stackTraces = false) {ax : Nat} {bo tr ac ah : Nat → Nat} {bd : Nat → Nat → Nat} {at_ am : Nat → Nat} {ao k n i : Nat} (hk : k + 3 ≤ 601024) (hn : n + 18 ≤ 7293034) (hi : i + 3 ≤ L0) {β τ γ η : BS} {σ : Nat → BS} {θ μ : BS} {o : Nat → Int64} (hR : Rl β η θ σ μ) (next : ∀ (β τ γ η : BS) (σ : Nat → BS) (θ μ : BS) (o : Nat → Int64), Rl β η θ σ μ → G X (k + 3) (n + 18) [wX ax (bo 0) (tr 0) (ac 0) (ah 0) (at_ 0), wB E bo β, wB E tr τ, wC E ac γ, wH E ah bd η, wT E at_ θ, wB E (bd 2) (σ 2), wB E (bd 3) (σ 3), wB E (bd 4) (σ 4), wB E (bd 5) (σ 5), wB E (bd 6) (σ 6), wB E (bd 7) (σ 7), wB E (bd 8) (σ 8), wB E (bd 9) (σ 9), wM E am μ, wO E ao o] [(0, .ref b0), (1, .ref ax), (2, .ref (am 0)), (3, .ref ao), (4, .int (nI i))] 3840 []) : G X k n [wX ax (bo 0) (tr 0) (ac 0) (ah 0) (at_ 0), wB E bo β, wB E tr τ, wC E ac γ, wH E ah bd η, wT E at_ θ, wB E (bd 2) (σ 2), wB E (bd 3) (σ 3), wB E (bd 4) (σ 4), wB E (bd 5) (σ 5), wB E (bd 6) (σ 6), wB E (bd 7) (σ 7), wB E (bd 8) (σ 8), wB E (bd 9) (σ 9), wM E am μ, wO E ao o] [(0, .ref b0), (1, .ref ax), (2, .ref (am 0)), (3, .ref ao), (4, .int (nI i))] 2764 [] := by
  obtain ⟨hvb, hvh, hvt, hvm, ha⟩ := hRv β η θ σ μ hR
  obtain ⟨a, ha9⟩ : ∃ a, xs (i + 1) = a := ⟨_, rfl⟩
  obtain ⟨hag, hR2⟩ := hs β τ γ η σ θ μ a hR
  rcases hag with ⟨hr, ht⟩ | ⟨hr, ht⟩
  · skip
    refine g_aload_n C dL_law_2764 rfl 1 rfl ?_
    refine g_aload_n C dL_law_2765 rfl 0 rfl ?_
    refine g_iload C dL_law_2766 4 rfl ?_
    refine g_iconst C (v := 1) dL_law_2768 (by decide) ?_
    refine g_iadd C dL_law_2769 ?_
    refine g_sldv C S (i + 1) (nx_add (rfl : nI i = nI i) (rfl : (1 : Int32) = nI 1)) (by omega) ha9 dL_law_2770 ?_
    refine g_aload_n C dL_law_2771 rfl 3 rfl ?_
    refine g_callSW C hZ hNc (z := 3) (cs1 := [wX ax (bo 0) (tr 0) (ac 0) (ah 0) (at_ 0), wB E bo β, wB E tr τ, wC E ac γ, wH E ah bd η, wT E at_ θ, wB E (bd 2) (σ 2), wB E (bd 3) (σ 3), wB E (bd 4) (σ 4), wB E (bd 5) (σ 5), wB E (bd 6) (σ 6), wB E (bd 7) (σ 7), wB E (bd 8) (σ 8), wB E (bd 9) (σ 9), wM E am μ, wO E ao (vp_updL o 0 ((fX7_chainOf μ a).1).toInt64)]) (st1 := [.int 0]) [.ref ax, .int a, .ref ao] [0, 1, 2, 3, 4, 5, 6, 7, 8, 9, 10, 11, 12, 13, 15] (kL_chainOf_r l E ax bo β tr τ ac γ ah bd η σ at_ θ ao o hlt hvb a ((fX7_chainOf μ a).1) hr) q5_193 q1_0 (by decide +kernel) q5_192 q5_191 rfl ⟨Nat.le_of_ble_eq_true rfl, Nat.le_of_ble_eq_true rfl⟩ ⟨hk, hn⟩ (by decide) rfl rfl rfl rfl (Nat.le_of_ble_eq_true rfl) dL_law_2772 rfl ?_
    refine g_istore C (lv1 := [(5, .int 0), (0, .ref b0), (1, .ref ax), (2, .ref (am 0)), (3, .ref ao), (4, .int (nI i))]) dL_law_2775 (by decide) rfl ?_
    refine g_aload_n C dL_law_2777 rfl 3 rfl ?_
    refine g_aload_n C dL_law_2778 rfl 1 rfl ?_
    refine g_iload C dL_law_2779 5 rfl ?_
    refine g_iconst C (v := 1) dL_law_2781 (by decide) ?_
    refine g_iadd C dL_law_2782 ?_
    refine g_sldv C S (i + 1) (nx_add (rfl : nI i = nI i) (rfl : (1 : Int32) = nI 1)) (by omega) ha9 dL_law_2783 ?_
    refine g_callV C (cs1 := [wX ax (bo 0) (tr 0) (ac 0) (ah 0) (at_ 0), wB E bo β, wB E tr τ, wC E ac γ, wH E ah bd η, wT E at_ θ, wB E (bd 2) (σ 2), wB E (bd 3) (σ 3), wB E (bd 4) (σ 4), wB E (bd 5) (σ 5), wB E (bd 6) (σ 6), wB E (bd 7) (σ 7), wB E (bd 8) (σ 8), wB E (bd 9) (σ 9), wM E am ((fX7_chainOf μ a).2), wO E ao (vp_updL o 0 ((fX7_chainOf μ a).1).toInt64)]) (st1 := [.int ((fX7_chainOf μ a).1)]) [.int a] [14] (kX7_chainOf l E am μ hvm ha a) caX7_chainOf q7_219 rfl ⟨Nat.le_of_ble_eq_true rfl, Nat.le_of_ble_eq_true rfl⟩ ⟨hk, hn⟩ 14 0 rfl rfl rfl rfl (by decide) rfl rfl rfl rfl (Nat.le_of_ble_eq_true rfl) dL_law_2784 rfl ?_
    refine g_istore C (lv1 := [(6, .int ((fX7_chainOf μ a).1)), (5, .int 0), (0, .ref b0), (1, .ref ax), (2, .ref (am 0)), (3, .ref ao), (4, .int (nI i))]) dL_law_2787 (by decide) rfl ?_
    refine g_aload_n C dL_law_2789 rfl 4 rfl ?_
    refine g_callV C (cs1 := [wX ax (bo 0) (tr 0) (ac 0) (ah 0) (at_ 0), wB E bo β, wB E tr τ, wC E ac γ, wH E ah bd η, wT E at_ θ, wB E (bd 2) (σ 2), wB E (bd 3) (σ 3), wB E (bd 4) (σ 4), wB E (bd 5) (σ 5), wB E (bd 6) (σ 6), wB E (bd 7) (σ 7), wB E (bd 8) (σ 8), wB E (bd 9) (σ 9), wM E am ((fX7_chainOf μ a).2), wO E ao (vp_updL o 0 ((fX7_chainOf μ a).1).toInt64)]) (st1 := [.int (fX7_thrown ((fX7_chainOf μ a).2))]) [] [14] (kX7_thrown l E am ((fX7_chainOf μ a).2)) caX7_thrown q6_116 rfl ⟨Nat.le_of_ble_eq_true rfl, Nat.le_of_ble_eq_true rfl⟩ ⟨hk, hn⟩ 14 0 rfl rfl rfl rfl (by decide) rfl rfl rfl rfl (Nat.le_of_ble_eq_true rfl) dL_law_2790 rfl ?_
    refine g_iload C dL_law_2793 1 rfl ?_
    refine g_icmp_eq C 2800 dL_law_2795 (by decide) (fun _ => ?_) (fun c => absurd ht c)
    refine g_iload C dL_law_2800 1 rfl ?_
    refine g_if_ne C 2817 dL_law_2802 (by decide) (fun c => absurd rfl c) (fun _ => ?_)
    refine g_aload_n C dL_law_2805 rfl 5 rfl ?_
    refine g_iconst C (v := 0) dL_law_2806 (by decide) ?_
    refine g_laldn C 15 0 0 rfl rfl rfl (by decide) (by decide) dL_law_2807 ?_
    refine g_iload C dL_law_2808 0 rfl ?_
    refine g_i2l C dL_law_2810 ?_
    refine g_lcmp C dL_law_2811 ?_
    refine g_if_eq C 2817 dL_law_2812 (by decide) (fun _ => ?_) (fun c => absurd law_cmp c)
    refine g_goto C 3840 dL_law_2817 (by decide) ?_
    exact g_sub [2, 3, 4, 5, 6] rfl (next β τ γ η σ θ ((fX7_chainOf μ a).2) (vp_updL o 0 ((fX7_chainOf μ a).1).toInt64) hR2)
  · skip
    refine g_aload_n C dL_law_2764 rfl 1 rfl ?_
    refine g_aload_n C dL_law_2765 rfl 0 rfl ?_
    refine g_iload C dL_law_2766 4 rfl ?_
    refine g_iconst C (v := 1) dL_law_2768 (by decide) ?_
    refine g_iadd C dL_law_2769 ?_
    refine g_sldv C S (i + 1) (nx_add (rfl : nI i = nI i) (rfl : (1 : Int32) = nI 1)) (by omega) ha9 dL_law_2770 ?_
    refine g_aload_n C dL_law_2771 rfl 3 rfl ?_
    refine g_callSW C hZ hNc (z := 3) (cs1 := [wX ax (bo 0) (tr 0) (ac 0) (ah 0) (at_ 0), wB E bo β, wB E tr τ, wC E ac γ, wH E ah bd η, wT E at_ θ, wB E (bd 2) (σ 2), wB E (bd 3) (σ 3), wB E (bd 4) (σ 4), wB E (bd 5) (σ 5), wB E (bd 6) (σ 6), wB E (bd 7) (σ 7), wB E (bd 8) (σ 8), wB E (bd 9) (σ 9), wM E am μ, wO E ao o]) (st1 := [.int 1]) [.ref ax, .int a, .ref ao] [0, 1, 2, 3, 4, 5, 6, 7, 8, 9, 10, 11, 12, 13, 15] (kL_chainOf_0 l E ax bo β tr τ ac γ ah bd η σ at_ θ ao o hlt hvb a hr) q5_193 q1_0 (by decide +kernel) q5_192 q5_191 rfl ⟨Nat.le_of_ble_eq_true rfl, Nat.le_of_ble_eq_true rfl⟩ ⟨hk, hn⟩ (by decide) rfl rfl rfl rfl (Nat.le_of_ble_eq_true rfl) dL_law_2772 rfl ?_
    refine g_istore C (lv1 := [(5, .int 1), (0, .ref b0), (1, .ref ax), (2, .ref (am 0)), (3, .ref ao), (4, .int (nI i))]) dL_law_2775 (by decide) rfl ?_
    refine g_aload_n C dL_law_2777 rfl 3 rfl ?_
    refine g_aload_n C dL_law_2778 rfl 1 rfl ?_
    refine g_iload C dL_law_2779 5 rfl ?_
    refine g_iconst C (v := 1) dL_law_2781 (by decide) ?_
    refine g_iadd C dL_law_2782 ?_
    refine g_sldv C S (i + 1) (nx_add (rfl : nI i = nI i) (rfl : (1 : Int32) = nI 1)) (by omega) ha9 dL_law_2783 ?_
    refine g_callV C (cs1 := [wX ax (bo 0) (tr 0) (ac 0) (ah 0) (at_ 0), wB E bo β, wB E tr τ, wC E ac γ, wH E ah bd η, wT E at_ θ, wB E (bd 2) (σ 2), wB E (bd 3) (σ 3), wB E (bd 4) (σ 4), wB E (bd 5) (σ 5), wB E (bd 6) (σ 6), wB E (bd 7) (σ 7), wB E (bd 8) (σ 8), wB E (bd 9) (σ 9), wM E am ((fX7_chainOf μ a).2), wO E ao o]) (st1 := [.int ((fX7_chainOf μ a).1)]) [.int a] [14] (kX7_chainOf l E am μ hvm ha a) caX7_chainOf q7_219 rfl ⟨Nat.le_of_ble_eq_true rfl, Nat.le_of_ble_eq_true rfl⟩ ⟨hk, hn⟩ 14 0 rfl rfl rfl rfl (by decide) rfl rfl rfl rfl (Nat.le_of_ble_eq_true rfl) dL_law_2784 rfl ?_
    refine g_istore C (lv1 := [(6, .int ((fX7_chainOf μ a).1)), (5, .int 1), (0, .ref b0), (1, .ref ax), (2, .ref (am 0)), (3, .ref ao), (4, .int (nI i))]) dL_law_2787 (by decide) rfl ?_
    refine g_aload_n C dL_law_2789 rfl 4 rfl ?_
    refine g_callV C (cs1 := [wX ax (bo 0) (tr 0) (ac 0) (ah 0) (at_ 0), wB E bo β, wB E tr τ, wC E ac γ, wH E ah bd η, wT E at_ θ, wB E (bd 2) (σ 2), wB E (bd 3) (σ 3), wB E (bd 4) (σ 4), wB E (bd 5) (σ 5), wB E (bd 6) (σ 6), wB E (bd 7) (σ 7), wB E (bd 8) (σ 8), wB E (bd 9) (σ 9), wM E am ((fX7_chainOf μ a).2), wO E ao o]) (st1 := [.int (fX7_thrown ((fX7_chainOf μ a).2))]) [] [14] (kX7_thrown l E am ((fX7_chainOf μ a).2)) caX7_thrown q6_116 rfl ⟨Nat.le_of_ble_eq_true rfl, Nat.le_of_ble_eq_true rfl⟩ ⟨hk, hn⟩ 14 0 rfl rfl rfl rfl (by decide) rfl rfl rfl rfl (Nat.le_of_ble_eq_true rfl) dL_law_2790 rfl ?_
    refine g_iload C dL_law_2793 1 rfl ?_
    refine g_icmp_eq C 2800 dL_law_2795 (by decide) (fun _ => ?_) (fun c => absurd ht c)
    refine g_iload C dL_law_2800 1 rfl ?_
    refine g_if_ne C 2817 dL_law_2802 (by decide) (fun _ => ?_) (fun c => absurd c (by decide))
    refine g_goto C 3840 dL_law_2817 (by decide) ?_
    exact g_sub [2, 3, 4, 5, 6] rfl (next β τ γ η σ θ ((fX7_chainOf μ a).2) o hR2)
set_option maxHeartbeats 4000000 in
set_option maxRecDepth 100000 in
theorem arm_47 {Rl : RlT} (hRv : RlV Rl) (hs : sH_criticalByTrying Rl)  {X : gX} {l : Launch} {E : gE} (C : gC X cL_law 9 RL (some .boolean) l E room_1) (hZ : gZ X.2.2.2.2.2.2.2.2.2.2.2.1 X.2.2.2.2.1 X.2.2.2.2.1.heap) (hNc : gNc X.2.2.2.2.1) {b0 L0 : Nat} {xs : Nat → Int32} (S : gS X b0 L0 xs) (hlt : l.stackTraces = false) {ax : Nat} {bo tr ac ah : Nat → Nat} {bd : Nat → Nat → Nat} {at_ am : Nat → Nat} {ao k n i : Nat} (hk : k + 3 ≤ 601024) (hn : n + 18 ≤ 7293034) (hi : i + 3 ≤ L0) {β τ γ η : BS} {σ : Nat → BS} {θ μ : BS} {o : Nat → Int64} (hR : Rl β η θ σ μ) (next : ∀ (β τ γ η : BS) (σ : Nat → BS) (θ μ : BS) (o : Nat → Int64), Rl β η θ σ μ → G X (k + 3) (n + 18) [wX ax (bo 0) (tr 0) (ac 0) (ah 0) (at_ 0), wB E bo β, wB E tr τ, wC E ac γ, wH E ah bd η, wT E at_ θ, wB E (bd 2) (σ 2), wB E (bd 3) (σ 3), wB E (bd 4) (σ 4), wB E (bd 5) (σ 5), wB E (bd 6) (σ 6), wB E (bd 7) (σ 7), wB E (bd 8) (σ 8), wB E (bd 9) (σ 9), wM E am μ, wO E ao o] [(0, .ref b0), (1, .ref ax), (2, .ref (am 0)), (3, .ref ao), (4, .int (nI i))] 3840 []) : G X k n [wX ax (bo 0) (tr 0) (ac 0) (ah 0) (at_ 0), wB E bo β, wB E tr τ, wC E ac γ, wH E ah bd η, wT E at_ θ, wB E (bd 2) (σ 2), wB E (bd 3) (σ 3), wB E (bd 4) (σ 4), wB E (bd 5) (σ 5), wB E (bd 6) (σ 6), wB E (bd 7) (σ 7), wB E (bd 8) (σ 8), wB E (bd 9) (σ 9), wM E am μ, wO E ao o] [(0, .ref b0), (1, .ref ax), (2, .ref (am 0)), (3, .ref ao), (4, .int (nI i))] 2820 [] := by
  obtain ⟨hvb, hvh, hvt, hvm, ha⟩ := hRv β η θ σ μ hR
  obtain ⟨hr, hR2⟩ := hs β τ γ η σ θ μ hR
  refine g_aload_n C dL_law_2820 rfl 1 rfl ?_
  refine g_callV C (cs1 := [wX ax (bo 0) (tr 0) (ac 0) (ah 0) (at_ 0), wB E bo β, wB E tr τ, wC E ac ((fX6_criticalByTrying β γ).2), wH E ah bd η, wT E at_ θ, wB E (bd 2) (σ 2), wB E (bd 3) (σ 3), wB E (bd 4) (σ 4), wB E (bd 5) (σ 5), wB E (bd 6) (σ 6), wB E (bd 7) (σ 7), wB E (bd 8) (σ 8), wB E (bd 9) (σ 9), wM E am μ, wO E ao o]) (st1 := [.int ((fX6_criticalByTrying β γ).1)]) [] [0, 1, 2, 3, 4, 5, 6, 7, 8, 9, 10, 11, 12, 13] (kX6_criticalByTrying l E ax bo β tr τ ac γ ah bd η σ at_ θ hvb) caX6_criticalByTrying q2_32 rfl ⟨Nat.le_of_ble_eq_true rfl, Nat.le_of_ble_eq_true rfl⟩ ⟨Nat.le_of_succ_le (Nat.le_of_succ_le (Nat.le_of_succ_le hk)), Nat.le_trans (Nat.le_add_right _ _) hn⟩ 0 0 rfl rfl rfl rfl (by decide) rfl rfl rfl rfl (Nat.le_of_ble_eq_true rfl) dL_law_2821 rfl ?_
  refine g_aload_n C dL_law_2824 rfl 2 rfl ?_
  refine g_callV C (cs1 := [wX ax (bo 0) (tr 0) (ac 0) (ah 0) (at_ 0), wB E bo β, wB E tr τ, wC E ac ((fX6_criticalByTrying β γ).2), wH E ah bd η, wT E at_ θ, wB E (bd 2) (σ 2), wB E (bd 3) (σ 3), wB E (bd 4) (σ 4), wB E (bd 5) (σ 5), wB E (bd 6) (σ 6), wB E (bd 7) (σ 7), wB E (bd 8) (σ 8), wB E (bd 9) (σ 9), wM E am ((fX7_criticalByTrying μ).2), wO E ao o]) (st1 := [.int ((fX7_criticalByTrying μ).1), .int ((fX6_criticalByTrying β γ).1)]) [] [14] (kX7_criticalByTrying l E am μ hvm ha ) caX7_criticalByTrying q7_231 rfl ⟨Nat.le_of_ble_eq_true rfl, Nat.le_of_ble_eq_true rfl⟩ ⟨Nat.le_of_succ_le (Nat.le_of_succ_le (Nat.le_of_succ_le hk)), Nat.le_trans (Nat.le_add_right _ _) hn⟩ 14 0 rfl rfl rfl rfl (by decide) rfl rfl rfl rfl (Nat.le_of_ble_eq_true rfl) dL_law_2825 rfl ?_
  refine g_icmp_eq C 3840 dL_law_2828 (by decide) (fun _ => ?_) (fun c => absurd hr c)
  refine g_widen (k1 := k + 3) (n1 := n + 18) (Nat.le_add_right _ _) (Nat.le_add_right _ _) ?_
  exact g_sub [0, 1, 2, 3, 4] rfl (next β τ ((fX6_criticalByTrying β γ).2) η σ θ ((fX7_criticalByTrying μ).2) o hR2)
set_option maxHeartbeats 4000000 in
set_option maxRecDepth 100000 in
theorem arm_48 {Rl : RlT} (hRv : RlV Rl) (hs : sH_criticalByOrder Rl)  {X : gX} {l : Launch} {E : gE} (C : gC X cL_law 9 RL (some .boolean) l E room_1) (hZ : gZ X.2.2.2.2.2.2.2.2.2.2.2.1 X.2.2.2.2.1 X.2.2.2.2.1.heap) (hNc : gNc X.2.2.2.2.1) {b0 L0 : Nat} {xs : Nat → Int32} (S : gS X b0 L0 xs) (hlt : l.stackTraces = false) {ax : Nat} {bo tr ac ah : Nat → Nat} {bd : Nat → Nat → Nat} {at_ am : Nat → Nat} {ao k n i : Nat} (hk : k + 3 ≤ 601024) (hn : n + 18 ≤ 7293034) (hi : i + 3 ≤ L0) {β τ γ η : BS} {σ : Nat → BS} {θ μ : BS} {o : Nat → Int64} (hR : Rl β η θ σ μ) (next : ∀ (β τ γ η : BS) (σ : Nat → BS) (θ μ : BS) (o : Nat → Int64), Rl β η θ σ μ → G X (k + 3) (n + 18) [wX ax (bo 0) (tr 0) (ac 0) (ah 0) (at_ 0), wB E bo β, wB E tr τ, wC E ac γ, wH E ah bd η, wT E at_ θ, wB E (bd 2) (σ 2), wB E (bd 3) (σ 3), wB E (bd 4) (σ 4), wB E (bd 5) (σ 5), wB E (bd 6) (σ 6), wB E (bd 7) (σ 7), wB E (bd 8) (σ 8), wB E (bd 9) (σ 9), wM E am μ, wO E ao o] [(0, .ref b0), (1, .ref ax), (2, .ref (am 0)), (3, .ref ao), (4, .int (nI i))] 3840 []) : G X k n [wX ax (bo 0) (tr 0) (ac 0) (ah 0) (at_ 0), wB E bo β, wB E tr τ, wC E ac γ, wH E ah bd η, wT E at_ θ, wB E (bd 2) (σ 2), wB E (bd 3) (σ 3), wB E (bd 4) (σ 4), wB E (bd 5) (σ 5), wB E (bd 6) (σ 6), wB E (bd 7) (σ 7), wB E (bd 8) (σ 8), wB E (bd 9) (σ 9), wM E am μ, wO E ao o] [(0, .ref b0), (1, .ref ax), (2, .ref (am 0)), (3, .ref ao), (4, .int (nI i))] 2833 [] := by
  obtain ⟨hvb, hvh, hvt, hvm, ha⟩ := hRv β η θ σ μ hR
  obtain ⟨hr, hR2⟩ := hs β τ γ η σ θ μ hR
  refine g_aload_n C dL_law_2833 rfl 1 rfl ?_
  refine g_callV C (cs1 := [wX ax (bo 0) (tr 0) (ac 0) (ah 0) (at_ 0), wB E bo β, wB E tr τ, wC E ac ((fX6_criticalByOrder β γ).2), wH E ah bd η, wT E at_ θ, wB E (bd 2) (σ 2), wB E (bd 3) (σ 3), wB E (bd 4) (σ 4), wB E (bd 5) (σ 5), wB E (bd 6) (σ 6), wB E (bd 7) (σ 7), wB E (bd 8) (σ 8), wB E (bd 9) (σ 9), wM E am μ, wO E ao o]) (st1 := [.int ((fX6_criticalByOrder β γ).1)]) [] [0, 1, 2, 3, 4, 5, 6, 7, 8, 9, 10, 11, 12, 13] (kX6_criticalByOrder l E ax bo β tr τ ac γ ah bd η σ at_ θ hvb) caX6_criticalByOrder q2_60 rfl ⟨Nat.le_of_ble_eq_true rfl, Nat.le_of_ble_eq_true rfl⟩ ⟨Nat.le_of_succ_le (Nat.le_of_succ_le (Nat.le_of_succ_le hk)), Nat.le_trans (Nat.le_add_right _ _) hn⟩ 0 0 rfl rfl rfl rfl (by decide) rfl rfl rfl rfl (Nat.le_of_ble_eq_true rfl) dL_law_2834 rfl ?_
  refine g_aload_n C dL_law_2837 rfl 2 rfl ?_
  refine g_callV C (cs1 := [wX ax (bo 0) (tr 0) (ac 0) (ah 0) (at_ 0), wB E bo β, wB E tr τ, wC E ac ((fX6_criticalByOrder β γ).2), wH E ah bd η, wT E at_ θ, wB E (bd 2) (σ 2), wB E (bd 3) (σ 3), wB E (bd 4) (σ 4), wB E (bd 5) (σ 5), wB E (bd 6) (σ 6), wB E (bd 7) (σ 7), wB E (bd 8) (σ 8), wB E (bd 9) (σ 9), wM E am ((fX7_criticalByOrder μ).2), wO E ao o]) (st1 := [.int ((fX7_criticalByOrder μ).1), .int ((fX6_criticalByOrder β γ).1)]) [] [14] (kX7_criticalByOrder l E am μ hvm ha ) caX7_criticalByOrder q7_239 rfl ⟨Nat.le_of_ble_eq_true rfl, Nat.le_of_ble_eq_true rfl⟩ ⟨Nat.le_of_succ_le (Nat.le_of_succ_le (Nat.le_of_succ_le hk)), Nat.le_trans (Nat.le_add_right _ _) hn⟩ 14 0 rfl rfl rfl rfl (by decide) rfl rfl rfl rfl (Nat.le_of_ble_eq_true rfl) dL_law_2838 rfl ?_
  refine g_icmp_eq C 3840 dL_law_2841 (by decide) (fun _ => ?_) (fun c => absurd hr c)
  refine g_widen (k1 := k + 3) (n1 := n + 18) (Nat.le_add_right _ _) (Nat.le_add_right _ _) ?_
  exact g_sub [0, 1, 2, 3, 4] rfl (next β τ ((fX6_criticalByOrder β γ).2) η σ θ ((fX7_criticalByOrder μ).2) o hR2)
set_option maxHeartbeats 4000000 in
set_option maxRecDepth 100000 in
theorem arm_49 {Rl : RlT} (hRv : RlV Rl) (hs : sH_capacityOf Rl)  {X : gX} {l : Launch} {E : gE} (C : gC X cL_law 9 RL (some .boolean) l E room_1) (hZ : gZ X.2.2.2.2.2.2.2.2.2.2.2.1 X.2.2.2.2.1 X.2.2.2.2.1.heap) (hNc : gNc X.2.2.2.2.1) {b0 L0 : Nat} {xs : Nat → Int32} (S : gS X b0 L0 xs) (hlt : l.stackTraces = false) {ax : Nat} {bo tr ac ah : Nat → Nat} {bd : Nat → Nat → Nat} {at_ am : Nat → Nat} {ao k n i : Nat} (hk : k + 3 ≤ 601024) (hn : n + 18 ≤ 7293034) (hi : i + 3 ≤ L0) {β τ γ η : BS} {σ : Nat → BS} {θ μ : BS} {o : Nat → Int64} (hR : Rl β η θ σ μ) (next : ∀ (β τ γ η : BS) (σ : Nat → BS) (θ μ : BS) (o : Nat → Int64), Rl β η θ σ μ → G X (k + 3) (n + 18) [wX ax (bo 0) (tr 0) (ac 0) (ah 0) (at_ 0), wB E bo β, wB E tr τ, wC E ac γ, wH E ah bd η, wT E at_ θ, wB E (bd 2) (σ 2), wB E (bd 3) (σ 3), wB E (bd 4) (σ 4), wB E (bd 5) (σ 5), wB E (bd 6) (σ 6), wB E (bd 7) (σ 7), wB E (bd 8) (σ 8), wB E (bd 9) (σ 9), wM E am μ, wO E ao o] [(0, .ref b0), (1, .ref ax), (2, .ref (am 0)), (3, .ref ao), (4, .int (nI i))] 3840 []) : G X k n [wX ax (bo 0) (tr 0) (ac 0) (ah 0) (at_ 0), wB E bo β, wB E tr τ, wC E ac γ, wH E ah bd η, wT E at_ θ, wB E (bd 2) (σ 2), wB E (bd 3) (σ 3), wB E (bd 4) (σ 4), wB E (bd 5) (σ 5), wB E (bd 6) (σ 6), wB E (bd 7) (σ 7), wB E (bd 8) (σ 8), wB E (bd 9) (σ 9), wM E am μ, wO E ao o] [(0, .ref b0), (1, .ref ax), (2, .ref (am 0)), (3, .ref ao), (4, .int (nI i))] 2846 [] := by
  obtain ⟨hvb, hvh, hvt, hvm, ha⟩ := hRv β η θ σ μ hR
  obtain ⟨a, ha9⟩ : ∃ a, xs (i + 1) = a := ⟨_, rfl⟩
  obtain ⟨hag, hR2⟩ := hs β τ γ η σ θ μ a hR
  rcases hag with ⟨hr, ht⟩ | ⟨hr, ht⟩
  · skip
    refine g_aload_n C dL_law_2846 rfl 1 rfl ?_
    refine g_aload_n C dL_law_2847 rfl 0 rfl ?_
    refine g_iload C dL_law_2848 4 rfl ?_
    refine g_iconst C (v := 1) dL_law_2850 (by decide) ?_
    refine g_iadd C dL_law_2851 ?_
    refine g_sldv C S (i + 1) (nx_add (rfl : nI i = nI i) (rfl : (1 : Int32) = nI 1)) (by omega) ha9 dL_law_2852 ?_
    refine g_aload_n C dL_law_2853 rfl 3 rfl ?_
    refine g_callSW C hZ hNc (z := 3) (cs1 := [wX ax (bo 0) (tr 0) (ac 0) (ah 0) (at_ 0), wB E bo β, wB E tr τ, wC E ac γ, wH E ah bd η, wT E at_ θ, wB E (bd 2) (σ 2), wB E (bd 3) (σ 3), wB E (bd 4) (σ 4), wB E (bd 5) (σ 5), wB E (bd 6) (σ 6), wB E (bd 7) (σ 7), wB E (bd 8) (σ 8), wB E (bd 9) (σ 9), wM E am μ, wO E ao (vp_updL o 0 ((fX7_capacityOf μ a).1).toInt64)]) (st1 := [.int 0]) [.ref ax, .int a, .ref ao] [0, 1, 2, 3, 4, 5, 6, 7, 8, 9, 10, 11, 12, 13, 15] (kL_capacityOf_r l E ax bo β tr τ ac γ ah bd η σ at_ θ ao o hlt hvb a ((fX7_capacityOf μ a).1) hr) q5_200 q1_0 (by decide +kernel) q5_199 q5_198 rfl ⟨Nat.le_of_ble_eq_true rfl, Nat.le_of_ble_eq_true rfl⟩ ⟨hk, hn⟩ (by decide) rfl rfl rfl rfl (Nat.le_of_ble_eq_true rfl) dL_law_2854 rfl ?_
    refine g_istore C (lv1 := [(5, .int 0), (0, .ref b0), (1, .ref ax), (2, .ref (am 0)), (3, .ref ao), (4, .int (nI i))]) dL_law_2857 (by decide) rfl ?_
    refine g_aload_n C dL_law_2859 rfl 3 rfl ?_
    refine g_aload_n C dL_law_2860 rfl 1 rfl ?_
    refine g_iload C dL_law_2861 5 rfl ?_
    refine g_iconst C (v := 1) dL_law_2863 (by decide) ?_
    refine g_iadd C dL_law_2864 ?_
    refine g_sldv C S (i + 1) (nx_add (rfl : nI i = nI i) (rfl : (1 : Int32) = nI 1)) (by omega) ha9 dL_law_2865 ?_
    refine g_callV C (cs1 := [wX ax (bo 0) (tr 0) (ac 0) (ah 0) (at_ 0), wB E bo β, wB E tr τ, wC E ac γ, wH E ah bd η, wT E at_ θ, wB E (bd 2) (σ 2), wB E (bd 3) (σ 3), wB E (bd 4) (σ 4), wB E (bd 5) (σ 5), wB E (bd 6) (σ 6), wB E (bd 7) (σ 7), wB E (bd 8) (σ 8), wB E (bd 9) (σ 9), wM E am ((fX7_capacityOf μ a).2), wO E ao (vp_updL o 0 ((fX7_capacityOf μ a).1).toInt64)]) (st1 := [.int ((fX7_capacityOf μ a).1)]) [.int a] [14] (kX7_capacityOf l E am μ hvm a) caX7_capacityOf q8_3 rfl ⟨Nat.le_of_ble_eq_true rfl, Nat.le_of_ble_eq_true rfl⟩ ⟨hk, hn⟩ 14 0 rfl rfl rfl rfl (by decide) rfl rfl rfl rfl (Nat.le_of_ble_eq_true rfl) dL_law_2866 rfl ?_
    refine g_istore C (lv1 := [(6, .int ((fX7_capacityOf μ a).1)), (5, .int 0), (0, .ref b0), (1, .ref ax), (2, .ref (am 0)), (3, .ref ao), (4, .int (nI i))]) dL_law_2869 (by decide) rfl ?_
    refine g_aload_n C dL_law_2871 rfl 4 rfl ?_
    refine g_callV C (cs1 := [wX ax (bo 0) (tr 0) (ac 0) (ah 0) (at_ 0), wB E bo β, wB E tr τ, wC E ac γ, wH E ah bd η, wT E at_ θ, wB E (bd 2) (σ 2), wB E (bd 3) (σ 3), wB E (bd 4) (σ 4), wB E (bd 5) (σ 5), wB E (bd 6) (σ 6), wB E (bd 7) (σ 7), wB E (bd 8) (σ 8), wB E (bd 9) (σ 9), wM E am ((fX7_capacityOf μ a).2), wO E ao (vp_updL o 0 ((fX7_capacityOf μ a).1).toInt64)]) (st1 := [.int (fX7_thrown ((fX7_capacityOf μ a).2))]) [] [14] (kX7_thrown l E am ((fX7_capacityOf μ a).2)) caX7_thrown q6_116 rfl ⟨Nat.le_of_ble_eq_true rfl, Nat.le_of_ble_eq_true rfl⟩ ⟨hk, hn⟩ 14 0 rfl rfl rfl rfl (by decide) rfl rfl rfl rfl (Nat.le_of_ble_eq_true rfl) dL_law_2872 rfl ?_
    refine g_iload C dL_law_2875 1 rfl ?_
    refine g_icmp_eq C 2882 dL_law_2877 (by decide) (fun _ => ?_) (fun c => absurd ht c)
    refine g_iload C dL_law_2882 1 rfl ?_
    refine g_if_ne C 2899 dL_law_2884 (by decide) (fun c => absurd rfl c) (fun _ => ?_)
    refine g_aload_n C dL_law_2887 rfl 5 rfl ?_
    refine g_iconst C (v := 0) dL_law_2888 (by decide) ?_
    refine g_laldn C 15 0 0 rfl rfl rfl (by decide) (by decide) dL_law_2889 ?_
    refine g_iload C dL_law_2890 0 rfl ?_
    refine g_i2l C dL_law_2892 ?_
    refine g_lcmp C dL_law_2893 ?_
    refine g_if_eq C 2899 dL_law_2894 (by decide) (fun _ => ?_) (fun c => absurd law_cmp c)
    refine g_goto C 3840 dL_law_2899 (by decide) ?_
    exact g_sub [2, 3, 4, 5, 6] rfl (next β τ γ η σ θ ((fX7_capacityOf μ a).2) (vp_updL o 0 ((fX7_capacityOf μ a).1).toInt64) hR2)
  · skip
    refine g_aload_n C dL_law_2846 rfl 1 rfl ?_
    refine g_aload_n C dL_law_2847 rfl 0 rfl ?_
    refine g_iload C dL_law_2848 4 rfl ?_
    refine g_iconst C (v := 1) dL_law_2850 (by decide) ?_
    refine g_iadd C dL_law_2851 ?_
    refine g_sldv C S (i + 1) (nx_add (rfl : nI i = nI i) (rfl : (1 : Int32) = nI 1)) (by omega) ha9 dL_law_2852 ?_
    refine g_aload_n C dL_law_2853 rfl 3 rfl ?_
    refine g_callSW C hZ hNc (z := 3) (cs1 := [wX ax (bo 0) (tr 0) (ac 0) (ah 0) (at_ 0), wB E bo β, wB E tr τ, wC E ac γ, wH E ah bd η, wT E at_ θ, wB E (bd 2) (σ 2), wB E (bd 3) (σ 3), wB E (bd 4) (σ 4), wB E (bd 5) (σ 5), wB E (bd 6) (σ 6), wB E (bd 7) (σ 7), wB E (bd 8) (σ 8), wB E (bd 9) (σ 9), wM E am μ, wO E ao o]) (st1 := [.int 1]) [.ref ax, .int a, .ref ao] [0, 1, 2, 3, 4, 5, 6, 7, 8, 9, 10, 11, 12, 13, 15] (kL_capacityOf_0 l E ax bo β tr τ ac γ ah bd η σ at_ θ ao o hlt hvb a hr) q5_200 q1_0 (by decide +kernel) q5_199 q5_198 rfl ⟨Nat.le_of_ble_eq_true rfl, Nat.le_of_ble_eq_true rfl⟩ ⟨hk, hn⟩ (by decide) rfl rfl rfl rfl (Nat.le_of_ble_eq_true rfl) dL_law_2854 rfl ?_
    refine g_istore C (lv1 := [(5, .int 1), (0, .ref b0), (1, .ref ax), (2, .ref (am 0)), (3, .ref ao), (4, .int (nI i))]) dL_law_2857 (by decide) rfl ?_
    refine g_aload_n C dL_law_2859 rfl 3 rfl ?_
    refine g_aload_n C dL_law_2860 rfl 1 rfl ?_
    refine g_iload C dL_law_2861 5 rfl ?_
    refine g_iconst C (v := 1) dL_law_2863 (by decide) ?_
    refine g_iadd C dL_law_2864 ?_
    refine g_sldv C S (i + 1) (nx_add (rfl : nI i = nI i) (rfl : (1 : Int32) = nI 1)) (by omega) ha9 dL_law_2865 ?_
    refine g_callV C (cs1 := [wX ax (bo 0) (tr 0) (ac 0) (ah 0) (at_ 0), wB E bo β, wB E tr τ, wC E ac γ, wH E ah bd η, wT E at_ θ, wB E (bd 2) (σ 2), wB E (bd 3) (σ 3), wB E (bd 4) (σ 4), wB E (bd 5) (σ 5), wB E (bd 6) (σ 6), wB E (bd 7) (σ 7), wB E (bd 8) (σ 8), wB E (bd 9) (σ 9), wM E am ((fX7_capacityOf μ a).2), wO E ao o]) (st1 := [.int ((fX7_capacityOf μ a).1)]) [.int a] [14] (kX7_capacityOf l E am μ hvm a) caX7_capacityOf q8_3 rfl ⟨Nat.le_of_ble_eq_true rfl, Nat.le_of_ble_eq_true rfl⟩ ⟨hk, hn⟩ 14 0 rfl rfl rfl rfl (by decide) rfl rfl rfl rfl (Nat.le_of_ble_eq_true rfl) dL_law_2866 rfl ?_
    refine g_istore C (lv1 := [(6, .int ((fX7_capacityOf μ a).1)), (5, .int 1), (0, .ref b0), (1, .ref ax), (2, .ref (am 0)), (3, .ref ao), (4, .int (nI i))]) dL_law_2869 (by decide) rfl ?_
    refine g_aload_n C dL_law_2871 rfl 4 rfl ?_
    refine g_callV C (cs1 := [wX ax (bo 0) (tr 0) (ac 0) (ah 0) (at_ 0), wB E bo β, wB E tr τ, wC E ac γ, wH E ah bd η, wT E at_ θ, wB E (bd 2) (σ 2), wB E (bd 3) (σ 3), wB E (bd 4) (σ 4), wB E (bd 5) (σ 5), wB E (bd 6) (σ 6), wB E (bd 7) (σ 7), wB E (bd 8) (σ 8), wB E (bd 9) (σ 9), wM E am ((fX7_capacityOf μ a).2), wO E ao o]) (st1 := [.int (fX7_thrown ((fX7_capacityOf μ a).2))]) [] [14] (kX7_thrown l E am ((fX7_capacityOf μ a).2)) caX7_thrown q6_116 rfl ⟨Nat.le_of_ble_eq_true rfl, Nat.le_of_ble_eq_true rfl⟩ ⟨hk, hn⟩ 14 0 rfl rfl rfl rfl (by decide) rfl rfl rfl rfl (Nat.le_of_ble_eq_true rfl) dL_law_2872 rfl ?_
    refine g_iload C dL_law_2875 1 rfl ?_
    refine g_icmp_eq C 2882 dL_law_2877 (by decide) (fun _ => ?_) (fun c => absurd ht c)
    refine g_iload C dL_law_2882 1 rfl ?_
    refine g_if_ne C 2899 dL_law_2884 (by decide) (fun _ => ?_) (fun c => absurd c (by decide))
    refine g_goto C 3840 dL_law_2899 (by decide) ?_
    exact g_sub [2, 3, 4, 5, 6] rfl (next β τ γ η σ θ ((fX7_capacityOf μ a).2) o hR2)
