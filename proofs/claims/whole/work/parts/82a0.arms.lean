set_option maxHeartbeats 4000000 in
set_option maxRecDepth 100000 in
theorem arm_0 {Rl : RlT} (hRv : RlV Rl) (hs : sH_openTicket Rl)  {X : gX} {l : Launch} {E : gE} (C : gC X cL_law 9 RL (some .boolean) l E room_1) (hZ : gZ X.2.2.2.2.2.2.2.2.2.2.2.1 X.2.2.2.2.1 X.2.2.2.2.1.heap) (hNc : gNc X.2.2.2.2.1) {b0 L0 : Nat} {xs : Nat → Int32} (S : gS X b0 L0 xs) (hlt : l.stackTraces = false) {ax : Nat} {bo tr ac ah : Nat → Nat} {bd : Nat → Nat → Nat} {at_ am : Nat → Nat} {ao k n i : Nat} (hk : k + 3 ≤ 601024) (hn : n + 18 ≤ 7293034) (hi : i + 3 ≤ L0) {β τ γ η : BS} {σ : Nat → BS} {θ μ : BS} {o : Nat → Int64} (hR : Rl β η θ σ μ) (next : ∀ (β τ γ η : BS) (σ : Nat → BS) (θ μ : BS) (o : Nat → Int64), Rl β η θ σ μ → G X (k + 3) (n + 18) [wX ax (bo 0) (tr 0) (ac 0) (ah 0) (at_ 0), wB E bo β, wB E tr τ, wC E ac γ, wH E ah bd η, wT E at_ θ, wB E (bd 2) (σ 2), wB E (bd 3) (σ 3), wB E (bd 4) (σ 4), wB E (bd 5) (σ 5), wB E (bd 6) (σ 6), wB E (bd 7) (σ 7), wB E (bd 8) (σ 8), wB E (bd 9) (σ 9), wM E am μ, wO E ao o] [(0, .ref b0), (1, .ref ax), (2, .ref (am 0)), (3, .ref ao), (4, .int (nI i))] 3840 []) : G X k n [wX ax (bo 0) (tr 0) (ac 0) (ah 0) (at_ 0), wB E bo β, wB E tr τ, wC E ac γ, wH E ah bd η, wT E at_ θ, wB E (bd 2) (σ 2), wB E (bd 3) (σ 3), wB E (bd 4) (σ 4), wB E (bd 5) (σ 5), wB E (bd 6) (σ 6), wB E (bd 7) (σ 7), wB E (bd 8) (σ 8), wB E (bd 9) (σ 9), wM E am μ, wO E ao o] [(0, .ref b0), (1, .ref ax), (2, .ref (am 0)), (3, .ref ao), (4, .int (nI i))] 348 [] := by
  obtain ⟨hvb, hvh, hvt, hvm, ha⟩ := hRv β η θ σ μ hR
  obtain ⟨a, ha9⟩ : ∃ a, xs (i + 1) = a := ⟨_, rfl⟩
  obtain ⟨b, hb9⟩ : ∃ b, xs (i + 2) = b := ⟨_, rfl⟩
  obtain ⟨hag, hR2⟩ := hs β τ γ η σ θ μ a b hR
  rcases hag with ⟨hr, ht⟩ | ⟨hr, ht⟩ | ⟨hr, ht⟩
  · skip
    refine g_aload_n C dL_law_348 rfl 1 rfl ?_
    refine g_aload_n C dL_law_349 rfl 0 rfl ?_
    refine g_iload C dL_law_350 4 rfl ?_
    refine g_iconst C (v := 1) dL_law_352 (by decide) ?_
    refine g_iadd C dL_law_353 ?_
    refine g_sldv C S (i + 1) (nx_add (rfl : nI i = nI i) (rfl : (1 : Int32) = nI 1)) (by omega) ha9 dL_law_354 ?_
    refine g_aload_n C dL_law_355 rfl 0 rfl ?_
    refine g_iload C dL_law_356 4 rfl ?_
    refine g_iconst C (v := 2) dL_law_358 (by decide) ?_
    refine g_iadd C dL_law_359 ?_
    refine g_sldv C S (i + 2) (nx_add (rfl : nI i = nI i) (rfl : (2 : Int32) = nI 2)) (by omega) hb9 dL_law_360 ?_
    refine g_aload_n C dL_law_361 rfl 3 rfl ?_
    refine g_callSW C hZ hNc (z := 4) (cs1 := [wX ax (bo 0) (tr 0) (ac 0) (ah 0) (at_ 0), wB E bo ((fX6_openTicket β η σ a b).2.1), wB E tr τ, wC E ac γ, wH E ah bd ((fX6_openTicket β η σ a b).2.2.1), wT E at_ θ, wB E (bd 2) ((fX6_openTicket β η σ a b).2.2.2 2), wB E (bd 3) ((fX6_openTicket β η σ a b).2.2.2 3), wB E (bd 4) ((fX6_openTicket β η σ a b).2.2.2 4), wB E (bd 5) ((fX6_openTicket β η σ a b).2.2.2 5), wB E (bd 6) ((fX6_openTicket β η σ a b).2.2.2 6), wB E (bd 7) ((fX6_openTicket β η σ a b).2.2.2 7), wB E (bd 8) ((fX6_openTicket β η σ a b).2.2.2 8), wB E (bd 9) ((fX6_openTicket β η σ a b).2.2.2 9), wM E am μ, wO E ao (vp_updL o 0 ((fX7_openTicket μ a b).1).toInt64)]) (st1 := [.int 0]) [.ref ax, .int a, .int b, .ref ao] [0, 1, 2, 3, 4, 5, 6, 7, 8, 9, 10, 11, 12, 13, 15] (kL_openTicket_r l E ax bo β tr τ ac γ ah bd η σ at_ θ ao o hlt hvb hvh a b ((fX7_openTicket μ a b).1) hr) q3_58 q1_0 (by decide +kernel) q3_57 q3_56 rfl ⟨Nat.le_of_ble_eq_true rfl, Nat.le_of_ble_eq_true rfl⟩ ⟨hk, hn⟩ (by decide) rfl rfl rfl rfl (Nat.le_of_ble_eq_true rfl) dL_law_362 rfl ?_
    refine g_istore C (lv1 := [(5, .int 0), (0, .ref b0), (1, .ref ax), (2, .ref (am 0)), (3, .ref ao), (4, .int (nI i))]) dL_law_365 (by decide) rfl ?_
    refine g_aload_n C dL_law_367 rfl 3 rfl ?_
    refine g_aload_n C dL_law_368 rfl 1 rfl ?_
    refine g_iload C dL_law_369 5 rfl ?_
    refine g_iconst C (v := 1) dL_law_371 (by decide) ?_
    refine g_iadd C dL_law_372 ?_
    refine g_sldv C S (i + 1) (nx_add (rfl : nI i = nI i) (rfl : (1 : Int32) = nI 1)) (by omega) ha9 dL_law_373 ?_
    refine g_aload_n C dL_law_374 rfl 1 rfl ?_
    refine g_iload C dL_law_375 5 rfl ?_
    refine g_iconst C (v := 2) dL_law_377 (by decide) ?_
    refine g_iadd C dL_law_378 ?_
    refine g_sldv C S (i + 2) (nx_add (rfl : nI i = nI i) (rfl : (2 : Int32) = nI 2)) (by omega) hb9 dL_law_379 ?_
    refine g_callV C (cs1 := [wX ax (bo 0) (tr 0) (ac 0) (ah 0) (at_ 0), wB E bo ((fX6_openTicket β η σ a b).2.1), wB E tr τ, wC E ac γ, wH E ah bd ((fX6_openTicket β η σ a b).2.2.1), wT E at_ θ, wB E (bd 2) ((fX6_openTicket β η σ a b).2.2.2 2), wB E (bd 3) ((fX6_openTicket β η σ a b).2.2.2 3), wB E (bd 4) ((fX6_openTicket β η σ a b).2.2.2 4), wB E (bd 5) ((fX6_openTicket β η σ a b).2.2.2 5), wB E (bd 6) ((fX6_openTicket β η σ a b).2.2.2 6), wB E (bd 7) ((fX6_openTicket β η σ a b).2.2.2 7), wB E (bd 8) ((fX6_openTicket β η σ a b).2.2.2 8), wB E (bd 9) ((fX6_openTicket β η σ a b).2.2.2 9), wM E am ((fX7_openTicket μ a b).2), wO E ao (vp_updL o 0 ((fX7_openTicket μ a b).1).toInt64)]) (st1 := [.int ((fX7_openTicket μ a b).1)]) [.int a, .int b] [14] (kX7_openTicket l E am μ hvm a b) caX7_openTicket q6_120 rfl ⟨Nat.le_of_ble_eq_true rfl, Nat.le_of_ble_eq_true rfl⟩ ⟨hk, hn⟩ 14 0 rfl rfl rfl rfl (by decide) rfl rfl rfl rfl (Nat.le_of_ble_eq_true rfl) dL_law_380 rfl ?_
    refine g_istore C (lv1 := [(6, .int ((fX7_openTicket μ a b).1)), (5, .int 0), (0, .ref b0), (1, .ref ax), (2, .ref (am 0)), (3, .ref ao), (4, .int (nI i))]) dL_law_383 (by decide) rfl ?_
    refine g_aload_n C dL_law_385 rfl 4 rfl ?_
    refine g_callV C (cs1 := [wX ax (bo 0) (tr 0) (ac 0) (ah 0) (at_ 0), wB E bo ((fX6_openTicket β η σ a b).2.1), wB E tr τ, wC E ac γ, wH E ah bd ((fX6_openTicket β η σ a b).2.2.1), wT E at_ θ, wB E (bd 2) ((fX6_openTicket β η σ a b).2.2.2 2), wB E (bd 3) ((fX6_openTicket β η σ a b).2.2.2 3), wB E (bd 4) ((fX6_openTicket β η σ a b).2.2.2 4), wB E (bd 5) ((fX6_openTicket β η σ a b).2.2.2 5), wB E (bd 6) ((fX6_openTicket β η σ a b).2.2.2 6), wB E (bd 7) ((fX6_openTicket β η σ a b).2.2.2 7), wB E (bd 8) ((fX6_openTicket β η σ a b).2.2.2 8), wB E (bd 9) ((fX6_openTicket β η σ a b).2.2.2 9), wM E am ((fX7_openTicket μ a b).2), wO E ao (vp_updL o 0 ((fX7_openTicket μ a b).1).toInt64)]) (st1 := [.int (fX7_thrown ((fX7_openTicket μ a b).2))]) [] [14] (kX7_thrown l E am ((fX7_openTicket μ a b).2)) caX7_thrown q6_116 rfl ⟨Nat.le_of_ble_eq_true rfl, Nat.le_of_ble_eq_true rfl⟩ ⟨hk, hn⟩ 14 0 rfl rfl rfl rfl (by decide) rfl rfl rfl rfl (Nat.le_of_ble_eq_true rfl) dL_law_386 rfl ?_
    refine g_iload C dL_law_389 1 rfl ?_
    refine g_icmp_eq C 396 dL_law_391 (by decide) (fun _ => ?_) (fun c => absurd ht c)
    refine g_iload C dL_law_396 1 rfl ?_
    refine g_if_ne C 413 dL_law_398 (by decide) (fun c => absurd rfl c) (fun _ => ?_)
    refine g_aload_n C dL_law_401 rfl 5 rfl ?_
    refine g_iconst C (v := 0) dL_law_402 (by decide) ?_
    refine g_laldn C 15 0 0 rfl rfl rfl (by decide) (by decide) dL_law_403 ?_
    refine g_iload C dL_law_404 0 rfl ?_
    refine g_i2l C dL_law_406 ?_
    refine g_lcmp C dL_law_407 ?_
    refine g_if_eq C 413 dL_law_408 (by decide) (fun _ => ?_) (fun c => absurd law_cmp c)
    refine g_goto C 3840 dL_law_413 (by decide) ?_
    exact g_sub [2, 3, 4, 5, 6] rfl (next ((fX6_openTicket β η σ a b).2.1) τ γ ((fX6_openTicket β η σ a b).2.2.1) ((fX6_openTicket β η σ a b).2.2.2) θ ((fX7_openTicket μ a b).2) (vp_updL o 0 ((fX7_openTicket μ a b).1).toInt64) hR2)
  · skip
    refine g_aload_n C dL_law_348 rfl 1 rfl ?_
    refine g_aload_n C dL_law_349 rfl 0 rfl ?_
    refine g_iload C dL_law_350 4 rfl ?_
    refine g_iconst C (v := 1) dL_law_352 (by decide) ?_
    refine g_iadd C dL_law_353 ?_
    refine g_sldv C S (i + 1) (nx_add (rfl : nI i = nI i) (rfl : (1 : Int32) = nI 1)) (by omega) ha9 dL_law_354 ?_
    refine g_aload_n C dL_law_355 rfl 0 rfl ?_
    refine g_iload C dL_law_356 4 rfl ?_
    refine g_iconst C (v := 2) dL_law_358 (by decide) ?_
    refine g_iadd C dL_law_359 ?_
    refine g_sldv C S (i + 2) (nx_add (rfl : nI i = nI i) (rfl : (2 : Int32) = nI 2)) (by omega) hb9 dL_law_360 ?_
    refine g_aload_n C dL_law_361 rfl 3 rfl ?_
    refine g_callSW C hZ hNc (z := 4) (cs1 := [wX ax (bo 0) (tr 0) (ac 0) (ah 0) (at_ 0), wB E bo ((fX6_openTicket β η σ a b).2.1), wB E tr τ, wC E ac γ, wH E ah bd ((fX6_openTicket β η σ a b).2.2.1), wT E at_ θ, wB E (bd 2) ((fX6_openTicket β η σ a b).2.2.2 2), wB E (bd 3) ((fX6_openTicket β η σ a b).2.2.2 3), wB E (bd 4) ((fX6_openTicket β η σ a b).2.2.2 4), wB E (bd 5) ((fX6_openTicket β η σ a b).2.2.2 5), wB E (bd 6) ((fX6_openTicket β η σ a b).2.2.2 6), wB E (bd 7) ((fX6_openTicket β η σ a b).2.2.2 7), wB E (bd 8) ((fX6_openTicket β η σ a b).2.2.2 8), wB E (bd 9) ((fX6_openTicket β η σ a b).2.2.2 9), wM E am μ, wO E ao o]) (st1 := [.int 1]) [.ref ax, .int a, .int b, .ref ao] [0, 1, 2, 3, 4, 5, 6, 7, 8, 9, 10, 11, 12, 13, 15] (kL_openTicket_0 l E ax bo β tr τ ac γ ah bd η σ at_ θ ao o hlt hvb hvh a b hr) q3_58 q1_0 (by decide +kernel) q3_57 q3_56 rfl ⟨Nat.le_of_ble_eq_true rfl, Nat.le_of_ble_eq_true rfl⟩ ⟨hk, hn⟩ (by decide) rfl rfl rfl rfl (Nat.le_of_ble_eq_true rfl) dL_law_362 rfl ?_
    refine g_istore C (lv1 := [(5, .int 1), (0, .ref b0), (1, .ref ax), (2, .ref (am 0)), (3, .ref ao), (4, .int (nI i))]) dL_law_365 (by decide) rfl ?_
    refine g_aload_n C dL_law_367 rfl 3 rfl ?_
    refine g_aload_n C dL_law_368 rfl 1 rfl ?_
    refine g_iload C dL_law_369 5 rfl ?_
    refine g_iconst C (v := 1) dL_law_371 (by decide) ?_
    refine g_iadd C dL_law_372 ?_
    refine g_sldv C S (i + 1) (nx_add (rfl : nI i = nI i) (rfl : (1 : Int32) = nI 1)) (by omega) ha9 dL_law_373 ?_
    refine g_aload_n C dL_law_374 rfl 1 rfl ?_
    refine g_iload C dL_law_375 5 rfl ?_
    refine g_iconst C (v := 2) dL_law_377 (by decide) ?_
    refine g_iadd C dL_law_378 ?_
    refine g_sldv C S (i + 2) (nx_add (rfl : nI i = nI i) (rfl : (2 : Int32) = nI 2)) (by omega) hb9 dL_law_379 ?_
    refine g_callV C (cs1 := [wX ax (bo 0) (tr 0) (ac 0) (ah 0) (at_ 0), wB E bo ((fX6_openTicket β η σ a b).2.1), wB E tr τ, wC E ac γ, wH E ah bd ((fX6_openTicket β η σ a b).2.2.1), wT E at_ θ, wB E (bd 2) ((fX6_openTicket β η σ a b).2.2.2 2), wB E (bd 3) ((fX6_openTicket β η σ a b).2.2.2 3), wB E (bd 4) ((fX6_openTicket β η σ a b).2.2.2 4), wB E (bd 5) ((fX6_openTicket β η σ a b).2.2.2 5), wB E (bd 6) ((fX6_openTicket β η σ a b).2.2.2 6), wB E (bd 7) ((fX6_openTicket β η σ a b).2.2.2 7), wB E (bd 8) ((fX6_openTicket β η σ a b).2.2.2 8), wB E (bd 9) ((fX6_openTicket β η σ a b).2.2.2 9), wM E am ((fX7_openTicket μ a b).2), wO E ao o]) (st1 := [.int ((fX7_openTicket μ a b).1)]) [.int a, .int b] [14] (kX7_openTicket l E am μ hvm a b) caX7_openTicket q6_120 rfl ⟨Nat.le_of_ble_eq_true rfl, Nat.le_of_ble_eq_true rfl⟩ ⟨hk, hn⟩ 14 0 rfl rfl rfl rfl (by decide) rfl rfl rfl rfl (Nat.le_of_ble_eq_true rfl) dL_law_380 rfl ?_
    refine g_istore C (lv1 := [(6, .int ((fX7_openTicket μ a b).1)), (5, .int 1), (0, .ref b0), (1, .ref ax), (2, .ref (am 0)), (3, .ref ao), (4, .int (nI i))]) dL_law_383 (by decide) rfl ?_
    refine g_aload_n C dL_law_385 rfl 4 rfl ?_
    refine g_callV C (cs1 := [wX ax (bo 0) (tr 0) (ac 0) (ah 0) (at_ 0), wB E bo ((fX6_openTicket β η σ a b).2.1), wB E tr τ, wC E ac γ, wH E ah bd ((fX6_openTicket β η σ a b).2.2.1), wT E at_ θ, wB E (bd 2) ((fX6_openTicket β η σ a b).2.2.2 2), wB E (bd 3) ((fX6_openTicket β η σ a b).2.2.2 3), wB E (bd 4) ((fX6_openTicket β η σ a b).2.2.2 4), wB E (bd 5) ((fX6_openTicket β η σ a b).2.2.2 5), wB E (bd 6) ((fX6_openTicket β η σ a b).2.2.2 6), wB E (bd 7) ((fX6_openTicket β η σ a b).2.2.2 7), wB E (bd 8) ((fX6_openTicket β η σ a b).2.2.2 8), wB E (bd 9) ((fX6_openTicket β η σ a b).2.2.2 9), wM E am ((fX7_openTicket μ a b).2), wO E ao o]) (st1 := [.int (fX7_thrown ((fX7_openTicket μ a b).2))]) [] [14] (kX7_thrown l E am ((fX7_openTicket μ a b).2)) caX7_thrown q6_116 rfl ⟨Nat.le_of_ble_eq_true rfl, Nat.le_of_ble_eq_true rfl⟩ ⟨hk, hn⟩ 14 0 rfl rfl rfl rfl (by decide) rfl rfl rfl rfl (Nat.le_of_ble_eq_true rfl) dL_law_386 rfl ?_
    refine g_iload C dL_law_389 1 rfl ?_
    refine g_icmp_eq C 396 dL_law_391 (by decide) (fun _ => ?_) (fun c => absurd ht c)
    refine g_iload C dL_law_396 1 rfl ?_
    refine g_if_ne C 413 dL_law_398 (by decide) (fun _ => ?_) (fun c => absurd c (by decide))
    refine g_goto C 3840 dL_law_413 (by decide) ?_
    exact g_sub [2, 3, 4, 5, 6] rfl (next ((fX6_openTicket β η σ a b).2.1) τ γ ((fX6_openTicket β η σ a b).2.2.1) ((fX6_openTicket β η σ a b).2.2.2) θ ((fX7_openTicket μ a b).2) o hR2)
  · skip
    refine g_aload_n C dL_law_348 rfl 1 rfl ?_
    refine g_aload_n C dL_law_349 rfl 0 rfl ?_
    refine g_iload C dL_law_350 4 rfl ?_
    refine g_iconst C (v := 1) dL_law_352 (by decide) ?_
    refine g_iadd C dL_law_353 ?_
    refine g_sldv C S (i + 1) (nx_add (rfl : nI i = nI i) (rfl : (1 : Int32) = nI 1)) (by omega) ha9 dL_law_354 ?_
    refine g_aload_n C dL_law_355 rfl 0 rfl ?_
    refine g_iload C dL_law_356 4 rfl ?_
    refine g_iconst C (v := 2) dL_law_358 (by decide) ?_
    refine g_iadd C dL_law_359 ?_
    refine g_sldv C S (i + 2) (nx_add (rfl : nI i = nI i) (rfl : (2 : Int32) = nI 2)) (by omega) hb9 dL_law_360 ?_
    refine g_aload_n C dL_law_361 rfl 3 rfl ?_
    refine g_callSW C hZ hNc (z := 4) (cs1 := [wX ax (bo 0) (tr 0) (ac 0) (ah 0) (at_ 0), wB E bo ((fX6_openTicket β η σ a b).2.1), wB E tr τ, wC E ac γ, wH E ah bd ((fX6_openTicket β η σ a b).2.2.1), wT E at_ θ, wB E (bd 2) ((fX6_openTicket β η σ a b).2.2.2 2), wB E (bd 3) ((fX6_openTicket β η σ a b).2.2.2 3), wB E (bd 4) ((fX6_openTicket β η σ a b).2.2.2 4), wB E (bd 5) ((fX6_openTicket β η σ a b).2.2.2 5), wB E (bd 6) ((fX6_openTicket β η σ a b).2.2.2 6), wB E (bd 7) ((fX6_openTicket β η σ a b).2.2.2 7), wB E (bd 8) ((fX6_openTicket β η σ a b).2.2.2 8), wB E (bd 9) ((fX6_openTicket β η σ a b).2.2.2 9), wM E am μ, wO E ao o]) (st1 := [.int 2]) [.ref ax, .int a, .int b, .ref ao] [0, 1, 2, 3, 4, 5, 6, 7, 8, 9, 10, 11, 12, 13, 15] (kL_openTicket_1 l E ax bo β tr τ ac γ ah bd η σ at_ θ ao o hlt hvb hvh a b hr) q3_58 q1_0 (by decide +kernel) q3_57 q3_56 rfl ⟨Nat.le_of_ble_eq_true rfl, Nat.le_of_ble_eq_true rfl⟩ ⟨hk, hn⟩ (by decide) rfl rfl rfl rfl (Nat.le_of_ble_eq_true rfl) dL_law_362 rfl ?_
    refine g_istore C (lv1 := [(5, .int 2), (0, .ref b0), (1, .ref ax), (2, .ref (am 0)), (3, .ref ao), (4, .int (nI i))]) dL_law_365 (by decide) rfl ?_
    refine g_aload_n C dL_law_367 rfl 3 rfl ?_
    refine g_aload_n C dL_law_368 rfl 1 rfl ?_
    refine g_iload C dL_law_369 5 rfl ?_
    refine g_iconst C (v := 1) dL_law_371 (by decide) ?_
    refine g_iadd C dL_law_372 ?_
    refine g_sldv C S (i + 1) (nx_add (rfl : nI i = nI i) (rfl : (1 : Int32) = nI 1)) (by omega) ha9 dL_law_373 ?_
    refine g_aload_n C dL_law_374 rfl 1 rfl ?_
    refine g_iload C dL_law_375 5 rfl ?_
    refine g_iconst C (v := 2) dL_law_377 (by decide) ?_
    refine g_iadd C dL_law_378 ?_
    refine g_sldv C S (i + 2) (nx_add (rfl : nI i = nI i) (rfl : (2 : Int32) = nI 2)) (by omega) hb9 dL_law_379 ?_
    refine g_callV C (cs1 := [wX ax (bo 0) (tr 0) (ac 0) (ah 0) (at_ 0), wB E bo ((fX6_openTicket β η σ a b).2.1), wB E tr τ, wC E ac γ, wH E ah bd ((fX6_openTicket β η σ a b).2.2.1), wT E at_ θ, wB E (bd 2) ((fX6_openTicket β η σ a b).2.2.2 2), wB E (bd 3) ((fX6_openTicket β η σ a b).2.2.2 3), wB E (bd 4) ((fX6_openTicket β η σ a b).2.2.2 4), wB E (bd 5) ((fX6_openTicket β η σ a b).2.2.2 5), wB E (bd 6) ((fX6_openTicket β η σ a b).2.2.2 6), wB E (bd 7) ((fX6_openTicket β η σ a b).2.2.2 7), wB E (bd 8) ((fX6_openTicket β η σ a b).2.2.2 8), wB E (bd 9) ((fX6_openTicket β η σ a b).2.2.2 9), wM E am ((fX7_openTicket μ a b).2), wO E ao o]) (st1 := [.int ((fX7_openTicket μ a b).1)]) [.int a, .int b] [14] (kX7_openTicket l E am μ hvm a b) caX7_openTicket q6_120 rfl ⟨Nat.le_of_ble_eq_true rfl, Nat.le_of_ble_eq_true rfl⟩ ⟨hk, hn⟩ 14 0 rfl rfl rfl rfl (by decide) rfl rfl rfl rfl (Nat.le_of_ble_eq_true rfl) dL_law_380 rfl ?_
    refine g_istore C (lv1 := [(6, .int ((fX7_openTicket μ a b).1)), (5, .int 2), (0, .ref b0), (1, .ref ax), (2, .ref (am 0)), (3, .ref ao), (4, .int (nI i))]) dL_law_383 (by decide) rfl ?_
    refine g_aload_n C dL_law_385 rfl 4 rfl ?_
    refine g_callV C (cs1 := [wX ax (bo 0) (tr 0) (ac 0) (ah 0) (at_ 0), wB E bo ((fX6_openTicket β η σ a b).2.1), wB E tr τ, wC E ac γ, wH E ah bd ((fX6_openTicket β η σ a b).2.2.1), wT E at_ θ, wB E (bd 2) ((fX6_openTicket β η σ a b).2.2.2 2), wB E (bd 3) ((fX6_openTicket β η σ a b).2.2.2 3), wB E (bd 4) ((fX6_openTicket β η σ a b).2.2.2 4), wB E (bd 5) ((fX6_openTicket β η σ a b).2.2.2 5), wB E (bd 6) ((fX6_openTicket β η σ a b).2.2.2 6), wB E (bd 7) ((fX6_openTicket β η σ a b).2.2.2 7), wB E (bd 8) ((fX6_openTicket β η σ a b).2.2.2 8), wB E (bd 9) ((fX6_openTicket β η σ a b).2.2.2 9), wM E am ((fX7_openTicket μ a b).2), wO E ao o]) (st1 := [.int (fX7_thrown ((fX7_openTicket μ a b).2))]) [] [14] (kX7_thrown l E am ((fX7_openTicket μ a b).2)) caX7_thrown q6_116 rfl ⟨Nat.le_of_ble_eq_true rfl, Nat.le_of_ble_eq_true rfl⟩ ⟨hk, hn⟩ 14 0 rfl rfl rfl rfl (by decide) rfl rfl rfl rfl (Nat.le_of_ble_eq_true rfl) dL_law_386 rfl ?_
    refine g_iload C dL_law_389 1 rfl ?_
    refine g_icmp_eq C 396 dL_law_391 (by decide) (fun _ => ?_) (fun c => absurd ht c)
    refine g_iload C dL_law_396 1 rfl ?_
    refine g_if_ne C 413 dL_law_398 (by decide) (fun _ => ?_) (fun c => absurd c (by decide))
    refine g_goto C 3840 dL_law_413 (by decide) ?_
    exact g_sub [2, 3, 4, 5, 6] rfl (next ((fX6_openTicket β η σ a b).2.1) τ γ ((fX6_openTicket β η σ a b).2.2.1) ((fX6_openTicket β η σ a b).2.2.2) θ ((fX7_openTicket μ a b).2) o hR2)
set_option maxHeartbeats 4000000 in
set_option maxRecDepth 100000 in
theorem arm_1 {Rl : RlT} (hRv : RlV Rl) (hs : sH_reestimate Rl)  {X : gX} {l : Launch} {E : gE} (C : gC X cL_law 9 RL (some .boolean) l E room_1) (hZ : gZ X.2.2.2.2.2.2.2.2.2.2.2.1 X.2.2.2.2.1 X.2.2.2.2.1.heap) (hNc : gNc X.2.2.2.2.1) {b0 L0 : Nat} {xs : Nat → Int32} (S : gS X b0 L0 xs) (hlt : l.stackTraces = false) {ax : Nat} {bo tr ac ah : Nat → Nat} {bd : Nat → Nat → Nat} {at_ am : Nat → Nat} {ao k n i : Nat} (hk : k + 3 ≤ 601024) (hn : n + 18 ≤ 7293034) (hi : i + 3 ≤ L0) {β τ γ η : BS} {σ : Nat → BS} {θ μ : BS} {o : Nat → Int64} (hR : Rl β η θ σ μ) (next : ∀ (β τ γ η : BS) (σ : Nat → BS) (θ μ : BS) (o : Nat → Int64), Rl β η θ σ μ → G X (k + 3) (n + 18) [wX ax (bo 0) (tr 0) (ac 0) (ah 0) (at_ 0), wB E bo β, wB E tr τ, wC E ac γ, wH E ah bd η, wT E at_ θ, wB E (bd 2) (σ 2), wB E (bd 3) (σ 3), wB E (bd 4) (σ 4), wB E (bd 5) (σ 5), wB E (bd 6) (σ 6), wB E (bd 7) (σ 7), wB E (bd 8) (σ 8), wB E (bd 9) (σ 9), wM E am μ, wO E ao o] [(0, .ref b0), (1, .ref ax), (2, .ref (am 0)), (3, .ref ao), (4, .int (nI i))] 3840 []) : G X k n [wX ax (bo 0) (tr 0) (ac 0) (ah 0) (at_ 0), wB E bo β, wB E tr τ, wC E ac γ, wH E ah bd η, wT E at_ θ, wB E (bd 2) (σ 2), wB E (bd 3) (σ 3), wB E (bd 4) (σ 4), wB E (bd 5) (σ 5), wB E (bd 6) (σ 6), wB E (bd 7) (σ 7), wB E (bd 8) (σ 8), wB E (bd 9) (σ 9), wM E am μ, wO E ao o] [(0, .ref b0), (1, .ref ax), (2, .ref (am 0)), (3, .ref ao), (4, .int (nI i))] 416 [] := by
  obtain ⟨hvb, hvh, hvt, hvm, ha⟩ := hRv β η θ σ μ hR
  obtain ⟨a, ha9⟩ : ∃ a, xs (i + 1) = a := ⟨_, rfl⟩
  obtain ⟨b, hb9⟩ : ∃ b, xs (i + 2) = b := ⟨_, rfl⟩
  obtain ⟨hag, hR2⟩ := hs β τ γ η σ θ μ a b hR
  rcases hag with ⟨hr, ht⟩ | ⟨hr, ht⟩ | ⟨hr, ht⟩ | ⟨hr, ht⟩
  · skip
    refine g_aload_n C dL_law_416 rfl 1 rfl ?_
    refine g_aload_n C dL_law_417 rfl 0 rfl ?_
    refine g_iload C dL_law_418 4 rfl ?_
    refine g_iconst C (v := 1) dL_law_420 (by decide) ?_
    refine g_iadd C dL_law_421 ?_
    refine g_sldv C S (i + 1) (nx_add (rfl : nI i = nI i) (rfl : (1 : Int32) = nI 1)) (by omega) ha9 dL_law_422 ?_
    refine g_aload_n C dL_law_423 rfl 0 rfl ?_
    refine g_iload C dL_law_424 4 rfl ?_
    refine g_iconst C (v := 2) dL_law_426 (by decide) ?_
    refine g_iadd C dL_law_427 ?_
    refine g_sldv C S (i + 2) (nx_add (rfl : nI i = nI i) (rfl : (2 : Int32) = nI 2)) (by omega) hb9 dL_law_428 ?_
    refine g_aload_n C dL_law_429 rfl 3 rfl ?_
    refine g_callSW C hZ hNc (z := 4) (cs1 := [wX ax (bo 0) (tr 0) (ac 0) (ah 0) (at_ 0), wB E bo ((fX6_reestimate β η σ a b).2.1), wB E tr τ, wC E ac γ, wH E ah bd ((fX6_reestimate β η σ a b).2.2.1), wT E at_ θ, wB E (bd 2) ((fX6_reestimate β η σ a b).2.2.2 2), wB E (bd 3) ((fX6_reestimate β η σ a b).2.2.2 3), wB E (bd 4) ((fX6_reestimate β η σ a b).2.2.2 4), wB E (bd 5) ((fX6_reestimate β η σ a b).2.2.2 5), wB E (bd 6) ((fX6_reestimate β η σ a b).2.2.2 6), wB E (bd 7) ((fX6_reestimate β η σ a b).2.2.2 7), wB E (bd 8) ((fX6_reestimate β η σ a b).2.2.2 8), wB E (bd 9) ((fX6_reestimate β η σ a b).2.2.2 9), wM E am μ, wO E ao (vp_updL o 0 ((fX7_reestimate μ a b).1).toInt64)]) (st1 := [.int 0]) [.ref ax, .int a, .int b, .ref ao] [0, 1, 2, 3, 4, 5, 6, 7, 8, 9, 10, 11, 12, 13, 15] (kL_reestimate_r l E ax bo β tr τ ac γ ah bd η σ at_ θ ao o hlt hvb hvh a b ((fX7_reestimate μ a b).1) hr) q3_185 q1_0 (by decide +kernel) q3_184 q3_183 rfl ⟨Nat.le_of_ble_eq_true rfl, Nat.le_of_ble_eq_true rfl⟩ ⟨hk, hn⟩ (by decide) rfl rfl rfl rfl (Nat.le_of_ble_eq_true rfl) dL_law_430 rfl ?_
    refine g_istore C (lv1 := [(5, .int 0), (0, .ref b0), (1, .ref ax), (2, .ref (am 0)), (3, .ref ao), (4, .int (nI i))]) dL_law_433 (by decide) rfl ?_
    refine g_aload_n C dL_law_435 rfl 3 rfl ?_
    refine g_aload_n C dL_law_436 rfl 1 rfl ?_
    refine g_iload C dL_law_437 5 rfl ?_
    refine g_iconst C (v := 1) dL_law_439 (by decide) ?_
    refine g_iadd C dL_law_440 ?_
    refine g_sldv C S (i + 1) (nx_add (rfl : nI i = nI i) (rfl : (1 : Int32) = nI 1)) (by omega) ha9 dL_law_441 ?_
    refine g_aload_n C dL_law_442 rfl 1 rfl ?_
    refine g_iload C dL_law_443 5 rfl ?_
    refine g_iconst C (v := 2) dL_law_445 (by decide) ?_
    refine g_iadd C dL_law_446 ?_
    refine g_sldv C S (i + 2) (nx_add (rfl : nI i = nI i) (rfl : (2 : Int32) = nI 2)) (by omega) hb9 dL_law_447 ?_
    refine g_callV C (cs1 := [wX ax (bo 0) (tr 0) (ac 0) (ah 0) (at_ 0), wB E bo ((fX6_reestimate β η σ a b).2.1), wB E tr τ, wC E ac γ, wH E ah bd ((fX6_reestimate β η σ a b).2.2.1), wT E at_ θ, wB E (bd 2) ((fX6_reestimate β η σ a b).2.2.2 2), wB E (bd 3) ((fX6_reestimate β η σ a b).2.2.2 3), wB E (bd 4) ((fX6_reestimate β η σ a b).2.2.2 4), wB E (bd 5) ((fX6_reestimate β η σ a b).2.2.2 5), wB E (bd 6) ((fX6_reestimate β η σ a b).2.2.2 6), wB E (bd 7) ((fX6_reestimate β η σ a b).2.2.2 7), wB E (bd 8) ((fX6_reestimate β η σ a b).2.2.2 8), wB E (bd 9) ((fX6_reestimate β η σ a b).2.2.2 9), wM E am ((fX7_reestimate μ a b).2), wO E ao (vp_updL o 0 ((fX7_reestimate μ a b).1).toInt64)]) (st1 := [.int ((fX7_reestimate μ a b).1)]) [.int a, .int b] [14] (kX7_reestimate l E am μ hvm a b) caX7_reestimate q6_143 rfl ⟨Nat.le_of_ble_eq_true rfl, Nat.le_of_ble_eq_true rfl⟩ ⟨hk, hn⟩ 14 0 rfl rfl rfl rfl (by decide) rfl rfl rfl rfl (Nat.le_of_ble_eq_true rfl) dL_law_448 rfl ?_
    refine g_istore C (lv1 := [(6, .int ((fX7_reestimate μ a b).1)), (5, .int 0), (0, .ref b0), (1, .ref ax), (2, .ref (am 0)), (3, .ref ao), (4, .int (nI i))]) dL_law_451 (by decide) rfl ?_
    refine g_aload_n C dL_law_453 rfl 4 rfl ?_
    refine g_callV C (cs1 := [wX ax (bo 0) (tr 0) (ac 0) (ah 0) (at_ 0), wB E bo ((fX6_reestimate β η σ a b).2.1), wB E tr τ, wC E ac γ, wH E ah bd ((fX6_reestimate β η σ a b).2.2.1), wT E at_ θ, wB E (bd 2) ((fX6_reestimate β η σ a b).2.2.2 2), wB E (bd 3) ((fX6_reestimate β η σ a b).2.2.2 3), wB E (bd 4) ((fX6_reestimate β η σ a b).2.2.2 4), wB E (bd 5) ((fX6_reestimate β η σ a b).2.2.2 5), wB E (bd 6) ((fX6_reestimate β η σ a b).2.2.2 6), wB E (bd 7) ((fX6_reestimate β η σ a b).2.2.2 7), wB E (bd 8) ((fX6_reestimate β η σ a b).2.2.2 8), wB E (bd 9) ((fX6_reestimate β η σ a b).2.2.2 9), wM E am ((fX7_reestimate μ a b).2), wO E ao (vp_updL o 0 ((fX7_reestimate μ a b).1).toInt64)]) (st1 := [.int (fX7_thrown ((fX7_reestimate μ a b).2))]) [] [14] (kX7_thrown l E am ((fX7_reestimate μ a b).2)) caX7_thrown q6_116 rfl ⟨Nat.le_of_ble_eq_true rfl, Nat.le_of_ble_eq_true rfl⟩ ⟨hk, hn⟩ 14 0 rfl rfl rfl rfl (by decide) rfl rfl rfl rfl (Nat.le_of_ble_eq_true rfl) dL_law_454 rfl ?_
    refine g_iload C dL_law_457 1 rfl ?_
    refine g_icmp_eq C 464 dL_law_459 (by decide) (fun _ => ?_) (fun c => absurd ht c)
    refine g_iload C dL_law_464 1 rfl ?_
    refine g_if_ne C 481 dL_law_466 (by decide) (fun c => absurd rfl c) (fun _ => ?_)
    refine g_aload_n C dL_law_469 rfl 5 rfl ?_
    refine g_iconst C (v := 0) dL_law_470 (by decide) ?_
    refine g_laldn C 15 0 0 rfl rfl rfl (by decide) (by decide) dL_law_471 ?_
    refine g_iload C dL_law_472 0 rfl ?_
    refine g_i2l C dL_law_474 ?_
    refine g_lcmp C dL_law_475 ?_
    refine g_if_eq C 481 dL_law_476 (by decide) (fun _ => ?_) (fun c => absurd law_cmp c)
    refine g_goto C 3840 dL_law_481 (by decide) ?_
    exact g_sub [2, 3, 4, 5, 6] rfl (next ((fX6_reestimate β η σ a b).2.1) τ γ ((fX6_reestimate β η σ a b).2.2.1) ((fX6_reestimate β η σ a b).2.2.2) θ ((fX7_reestimate μ a b).2) (vp_updL o 0 ((fX7_reestimate μ a b).1).toInt64) hR2)
  · skip
    refine g_aload_n C dL_law_416 rfl 1 rfl ?_
    refine g_aload_n C dL_law_417 rfl 0 rfl ?_
    refine g_iload C dL_law_418 4 rfl ?_
    refine g_iconst C (v := 1) dL_law_420 (by decide) ?_
    refine g_iadd C dL_law_421 ?_
    refine g_sldv C S (i + 1) (nx_add (rfl : nI i = nI i) (rfl : (1 : Int32) = nI 1)) (by omega) ha9 dL_law_422 ?_
    refine g_aload_n C dL_law_423 rfl 0 rfl ?_
    refine g_iload C dL_law_424 4 rfl ?_
    refine g_iconst C (v := 2) dL_law_426 (by decide) ?_
    refine g_iadd C dL_law_427 ?_
    refine g_sldv C S (i + 2) (nx_add (rfl : nI i = nI i) (rfl : (2 : Int32) = nI 2)) (by omega) hb9 dL_law_428 ?_
    refine g_aload_n C dL_law_429 rfl 3 rfl ?_
    refine g_callSW C hZ hNc (z := 4) (cs1 := [wX ax (bo 0) (tr 0) (ac 0) (ah 0) (at_ 0), wB E bo ((fX6_reestimate β η σ a b).2.1), wB E tr τ, wC E ac γ, wH E ah bd ((fX6_reestimate β η σ a b).2.2.1), wT E at_ θ, wB E (bd 2) ((fX6_reestimate β η σ a b).2.2.2 2), wB E (bd 3) ((fX6_reestimate β η σ a b).2.2.2 3), wB E (bd 4) ((fX6_reestimate β η σ a b).2.2.2 4), wB E (bd 5) ((fX6_reestimate β η σ a b).2.2.2 5), wB E (bd 6) ((fX6_reestimate β η σ a b).2.2.2 6), wB E (bd 7) ((fX6_reestimate β η σ a b).2.2.2 7), wB E (bd 8) ((fX6_reestimate β η σ a b).2.2.2 8), wB E (bd 9) ((fX6_reestimate β η σ a b).2.2.2 9), wM E am μ, wO E ao o]) (st1 := [.int 1]) [.ref ax, .int a, .int b, .ref ao] [0, 1, 2, 3, 4, 5, 6, 7, 8, 9, 10, 11, 12, 13, 15] (kL_reestimate_0 l E ax bo β tr τ ac γ ah bd η σ at_ θ ao o hlt hvb hvh a b hr) q3_185 q1_0 (by decide +kernel) q3_184 q3_183 rfl ⟨Nat.le_of_ble_eq_true rfl, Nat.le_of_ble_eq_true rfl⟩ ⟨hk, hn⟩ (by decide) rfl rfl rfl rfl (Nat.le_of_ble_eq_true rfl) dL_law_430 rfl ?_
    refine g_istore C (lv1 := [(5, .int 1), (0, .ref b0), (1, .ref ax), (2, .ref (am 0)), (3, .ref ao), (4, .int (nI i))]) dL_law_433 (by decide) rfl ?_
    refine g_aload_n C dL_law_435 rfl 3 rfl ?_
    refine g_aload_n C dL_law_436 rfl 1 rfl ?_
    refine g_iload C dL_law_437 5 rfl ?_
    refine g_iconst C (v := 1) dL_law_439 (by decide) ?_
    refine g_iadd C dL_law_440 ?_
    refine g_sldv C S (i + 1) (nx_add (rfl : nI i = nI i) (rfl : (1 : Int32) = nI 1)) (by omega) ha9 dL_law_441 ?_
    refine g_aload_n C dL_law_442 rfl 1 rfl ?_
    refine g_iload C dL_law_443 5 rfl ?_
    refine g_iconst C (v := 2) dL_law_445 (by decide) ?_
    refine g_iadd C dL_law_446 ?_
    refine g_sldv C S (i + 2) (nx_add (rfl : nI i = nI i) (rfl : (2 : Int32) = nI 2)) (by omega) hb9 dL_law_447 ?_
    refine g_callV C (cs1 := [wX ax (bo 0) (tr 0) (ac 0) (ah 0) (at_ 0), wB E bo ((fX6_reestimate β η σ a b).2.1), wB E tr τ, wC E ac γ, wH E ah bd ((fX6_reestimate β η σ a b).2.2.1), wT E at_ θ, wB E (bd 2) ((fX6_reestimate β η σ a b).2.2.2 2), wB E (bd 3) ((fX6_reestimate β η σ a b).2.2.2 3), wB E (bd 4) ((fX6_reestimate β η σ a b).2.2.2 4), wB E (bd 5) ((fX6_reestimate β η σ a b).2.2.2 5), wB E (bd 6) ((fX6_reestimate β η σ a b).2.2.2 6), wB E (bd 7) ((fX6_reestimate β η σ a b).2.2.2 7), wB E (bd 8) ((fX6_reestimate β η σ a b).2.2.2 8), wB E (bd 9) ((fX6_reestimate β η σ a b).2.2.2 9), wM E am ((fX7_reestimate μ a b).2), wO E ao o]) (st1 := [.int ((fX7_reestimate μ a b).1)]) [.int a, .int b] [14] (kX7_reestimate l E am μ hvm a b) caX7_reestimate q6_143 rfl ⟨Nat.le_of_ble_eq_true rfl, Nat.le_of_ble_eq_true rfl⟩ ⟨hk, hn⟩ 14 0 rfl rfl rfl rfl (by decide) rfl rfl rfl rfl (Nat.le_of_ble_eq_true rfl) dL_law_448 rfl ?_
    refine g_istore C (lv1 := [(6, .int ((fX7_reestimate μ a b).1)), (5, .int 1), (0, .ref b0), (1, .ref ax), (2, .ref (am 0)), (3, .ref ao), (4, .int (nI i))]) dL_law_451 (by decide) rfl ?_
    refine g_aload_n C dL_law_453 rfl 4 rfl ?_
    refine g_callV C (cs1 := [wX ax (bo 0) (tr 0) (ac 0) (ah 0) (at_ 0), wB E bo ((fX6_reestimate β η σ a b).2.1), wB E tr τ, wC E ac γ, wH E ah bd ((fX6_reestimate β η σ a b).2.2.1), wT E at_ θ, wB E (bd 2) ((fX6_reestimate β η σ a b).2.2.2 2), wB E (bd 3) ((fX6_reestimate β η σ a b).2.2.2 3), wB E (bd 4) ((fX6_reestimate β η σ a b).2.2.2 4), wB E (bd 5) ((fX6_reestimate β η σ a b).2.2.2 5), wB E (bd 6) ((fX6_reestimate β η σ a b).2.2.2 6), wB E (bd 7) ((fX6_reestimate β η σ a b).2.2.2 7), wB E (bd 8) ((fX6_reestimate β η σ a b).2.2.2 8), wB E (bd 9) ((fX6_reestimate β η σ a b).2.2.2 9), wM E am ((fX7_reestimate μ a b).2), wO E ao o]) (st1 := [.int (fX7_thrown ((fX7_reestimate μ a b).2))]) [] [14] (kX7_thrown l E am ((fX7_reestimate μ a b).2)) caX7_thrown q6_116 rfl ⟨Nat.le_of_ble_eq_true rfl, Nat.le_of_ble_eq_true rfl⟩ ⟨hk, hn⟩ 14 0 rfl rfl rfl rfl (by decide) rfl rfl rfl rfl (Nat.le_of_ble_eq_true rfl) dL_law_454 rfl ?_
    refine g_iload C dL_law_457 1 rfl ?_
    refine g_icmp_eq C 464 dL_law_459 (by decide) (fun _ => ?_) (fun c => absurd ht c)
    refine g_iload C dL_law_464 1 rfl ?_
    refine g_if_ne C 481 dL_law_466 (by decide) (fun _ => ?_) (fun c => absurd c (by decide))
    refine g_goto C 3840 dL_law_481 (by decide) ?_
    exact g_sub [2, 3, 4, 5, 6] rfl (next ((fX6_reestimate β η σ a b).2.1) τ γ ((fX6_reestimate β η σ a b).2.2.1) ((fX6_reestimate β η σ a b).2.2.2) θ ((fX7_reestimate μ a b).2) o hR2)
  · skip
    refine g_aload_n C dL_law_416 rfl 1 rfl ?_
    refine g_aload_n C dL_law_417 rfl 0 rfl ?_
    refine g_iload C dL_law_418 4 rfl ?_
    refine g_iconst C (v := 1) dL_law_420 (by decide) ?_
    refine g_iadd C dL_law_421 ?_
    refine g_sldv C S (i + 1) (nx_add (rfl : nI i = nI i) (rfl : (1 : Int32) = nI 1)) (by omega) ha9 dL_law_422 ?_
    refine g_aload_n C dL_law_423 rfl 0 rfl ?_
    refine g_iload C dL_law_424 4 rfl ?_
    refine g_iconst C (v := 2) dL_law_426 (by decide) ?_
    refine g_iadd C dL_law_427 ?_
    refine g_sldv C S (i + 2) (nx_add (rfl : nI i = nI i) (rfl : (2 : Int32) = nI 2)) (by omega) hb9 dL_law_428 ?_
    refine g_aload_n C dL_law_429 rfl 3 rfl ?_
    refine g_callSW C hZ hNc (z := 4) (cs1 := [wX ax (bo 0) (tr 0) (ac 0) (ah 0) (at_ 0), wB E bo ((fX6_reestimate β η σ a b).2.1), wB E tr τ, wC E ac γ, wH E ah bd ((fX6_reestimate β η σ a b).2.2.1), wT E at_ θ, wB E (bd 2) ((fX6_reestimate β η σ a b).2.2.2 2), wB E (bd 3) ((fX6_reestimate β η σ a b).2.2.2 3), wB E (bd 4) ((fX6_reestimate β η σ a b).2.2.2 4), wB E (bd 5) ((fX6_reestimate β η σ a b).2.2.2 5), wB E (bd 6) ((fX6_reestimate β η σ a b).2.2.2 6), wB E (bd 7) ((fX6_reestimate β η σ a b).2.2.2 7), wB E (bd 8) ((fX6_reestimate β η σ a b).2.2.2 8), wB E (bd 9) ((fX6_reestimate β η σ a b).2.2.2 9), wM E am μ, wO E ao o]) (st1 := [.int 2]) [.ref ax, .int a, .int b, .ref ao] [0, 1, 2, 3, 4, 5, 6, 7, 8, 9, 10, 11, 12, 13, 15] (kL_reestimate_1 l E ax bo β tr τ ac γ ah bd η σ at_ θ ao o hlt hvb hvh a b hr) q3_185 q1_0 (by decide +kernel) q3_184 q3_183 rfl ⟨Nat.le_of_ble_eq_true rfl, Nat.le_of_ble_eq_true rfl⟩ ⟨hk, hn⟩ (by decide) rfl rfl rfl rfl (Nat.le_of_ble_eq_true rfl) dL_law_430 rfl ?_
    refine g_istore C (lv1 := [(5, .int 2), (0, .ref b0), (1, .ref ax), (2, .ref (am 0)), (3, .ref ao), (4, .int (nI i))]) dL_law_433 (by decide) rfl ?_
    refine g_aload_n C dL_law_435 rfl 3 rfl ?_
    refine g_aload_n C dL_law_436 rfl 1 rfl ?_
    refine g_iload C dL_law_437 5 rfl ?_
    refine g_iconst C (v := 1) dL_law_439 (by decide) ?_
    refine g_iadd C dL_law_440 ?_
    refine g_sldv C S (i + 1) (nx_add (rfl : nI i = nI i) (rfl : (1 : Int32) = nI 1)) (by omega) ha9 dL_law_441 ?_
    refine g_aload_n C dL_law_442 rfl 1 rfl ?_
    refine g_iload C dL_law_443 5 rfl ?_
    refine g_iconst C (v := 2) dL_law_445 (by decide) ?_
    refine g_iadd C dL_law_446 ?_
    refine g_sldv C S (i + 2) (nx_add (rfl : nI i = nI i) (rfl : (2 : Int32) = nI 2)) (by omega) hb9 dL_law_447 ?_
    refine g_callV C (cs1 := [wX ax (bo 0) (tr 0) (ac 0) (ah 0) (at_ 0), wB E bo ((fX6_reestimate β η σ a b).2.1), wB E tr τ, wC E ac γ, wH E ah bd ((fX6_reestimate β η σ a b).2.2.1), wT E at_ θ, wB E (bd 2) ((fX6_reestimate β η σ a b).2.2.2 2), wB E (bd 3) ((fX6_reestimate β η σ a b).2.2.2 3), wB E (bd 4) ((fX6_reestimate β η σ a b).2.2.2 4), wB E (bd 5) ((fX6_reestimate β η σ a b).2.2.2 5), wB E (bd 6) ((fX6_reestimate β η σ a b).2.2.2 6), wB E (bd 7) ((fX6_reestimate β η σ a b).2.2.2 7), wB E (bd 8) ((fX6_reestimate β η σ a b).2.2.2 8), wB E (bd 9) ((fX6_reestimate β η σ a b).2.2.2 9), wM E am ((fX7_reestimate μ a b).2), wO E ao o]) (st1 := [.int ((fX7_reestimate μ a b).1)]) [.int a, .int b] [14] (kX7_reestimate l E am μ hvm a b) caX7_reestimate q6_143 rfl ⟨Nat.le_of_ble_eq_true rfl, Nat.le_of_ble_eq_true rfl⟩ ⟨hk, hn⟩ 14 0 rfl rfl rfl rfl (by decide) rfl rfl rfl rfl (Nat.le_of_ble_eq_true rfl) dL_law_448 rfl ?_
    refine g_istore C (lv1 := [(6, .int ((fX7_reestimate μ a b).1)), (5, .int 2), (0, .ref b0), (1, .ref ax), (2, .ref (am 0)), (3, .ref ao), (4, .int (nI i))]) dL_law_451 (by decide) rfl ?_
    refine g_aload_n C dL_law_453 rfl 4 rfl ?_
    refine g_callV C (cs1 := [wX ax (bo 0) (tr 0) (ac 0) (ah 0) (at_ 0), wB E bo ((fX6_reestimate β η σ a b).2.1), wB E tr τ, wC E ac γ, wH E ah bd ((fX6_reestimate β η σ a b).2.2.1), wT E at_ θ, wB E (bd 2) ((fX6_reestimate β η σ a b).2.2.2 2), wB E (bd 3) ((fX6_reestimate β η σ a b).2.2.2 3), wB E (bd 4) ((fX6_reestimate β η σ a b).2.2.2 4), wB E (bd 5) ((fX6_reestimate β η σ a b).2.2.2 5), wB E (bd 6) ((fX6_reestimate β η σ a b).2.2.2 6), wB E (bd 7) ((fX6_reestimate β η σ a b).2.2.2 7), wB E (bd 8) ((fX6_reestimate β η σ a b).2.2.2 8), wB E (bd 9) ((fX6_reestimate β η σ a b).2.2.2 9), wM E am ((fX7_reestimate μ a b).2), wO E ao o]) (st1 := [.int (fX7_thrown ((fX7_reestimate μ a b).2))]) [] [14] (kX7_thrown l E am ((fX7_reestimate μ a b).2)) caX7_thrown q6_116 rfl ⟨Nat.le_of_ble_eq_true rfl, Nat.le_of_ble_eq_true rfl⟩ ⟨hk, hn⟩ 14 0 rfl rfl rfl rfl (by decide) rfl rfl rfl rfl (Nat.le_of_ble_eq_true rfl) dL_law_454 rfl ?_
    refine g_iload C dL_law_457 1 rfl ?_
    refine g_icmp_eq C 464 dL_law_459 (by decide) (fun _ => ?_) (fun c => absurd ht c)
    refine g_iload C dL_law_464 1 rfl ?_
    refine g_if_ne C 481 dL_law_466 (by decide) (fun _ => ?_) (fun c => absurd c (by decide))
    refine g_goto C 3840 dL_law_481 (by decide) ?_
    exact g_sub [2, 3, 4, 5, 6] rfl (next ((fX6_reestimate β η σ a b).2.1) τ γ ((fX6_reestimate β η σ a b).2.2.1) ((fX6_reestimate β η σ a b).2.2.2) θ ((fX7_reestimate μ a b).2) o hR2)
  · skip
    refine g_aload_n C dL_law_416 rfl 1 rfl ?_
    refine g_aload_n C dL_law_417 rfl 0 rfl ?_
    refine g_iload C dL_law_418 4 rfl ?_
    refine g_iconst C (v := 1) dL_law_420 (by decide) ?_
    refine g_iadd C dL_law_421 ?_
    refine g_sldv C S (i + 1) (nx_add (rfl : nI i = nI i) (rfl : (1 : Int32) = nI 1)) (by omega) ha9 dL_law_422 ?_
    refine g_aload_n C dL_law_423 rfl 0 rfl ?_
    refine g_iload C dL_law_424 4 rfl ?_
    refine g_iconst C (v := 2) dL_law_426 (by decide) ?_
    refine g_iadd C dL_law_427 ?_
    refine g_sldv C S (i + 2) (nx_add (rfl : nI i = nI i) (rfl : (2 : Int32) = nI 2)) (by omega) hb9 dL_law_428 ?_
    refine g_aload_n C dL_law_429 rfl 3 rfl ?_
    refine g_callSW C hZ hNc (z := 4) (cs1 := [wX ax (bo 0) (tr 0) (ac 0) (ah 0) (at_ 0), wB E bo ((fX6_reestimate β η σ a b).2.1), wB E tr τ, wC E ac γ, wH E ah bd ((fX6_reestimate β η σ a b).2.2.1), wT E at_ θ, wB E (bd 2) ((fX6_reestimate β η σ a b).2.2.2 2), wB E (bd 3) ((fX6_reestimate β η σ a b).2.2.2 3), wB E (bd 4) ((fX6_reestimate β η σ a b).2.2.2 4), wB E (bd 5) ((fX6_reestimate β η σ a b).2.2.2 5), wB E (bd 6) ((fX6_reestimate β η σ a b).2.2.2 6), wB E (bd 7) ((fX6_reestimate β η σ a b).2.2.2 7), wB E (bd 8) ((fX6_reestimate β η σ a b).2.2.2 8), wB E (bd 9) ((fX6_reestimate β η σ a b).2.2.2 9), wM E am μ, wO E ao o]) (st1 := [.int 3]) [.ref ax, .int a, .int b, .ref ao] [0, 1, 2, 3, 4, 5, 6, 7, 8, 9, 10, 11, 12, 13, 15] (kL_reestimate_2 l E ax bo β tr τ ac γ ah bd η σ at_ θ ao o hlt hvb hvh a b hr) q3_185 q1_0 (by decide +kernel) q3_184 q3_183 rfl ⟨Nat.le_of_ble_eq_true rfl, Nat.le_of_ble_eq_true rfl⟩ ⟨hk, hn⟩ (by decide) rfl rfl rfl rfl (Nat.le_of_ble_eq_true rfl) dL_law_430 rfl ?_
    refine g_istore C (lv1 := [(5, .int 3), (0, .ref b0), (1, .ref ax), (2, .ref (am 0)), (3, .ref ao), (4, .int (nI i))]) dL_law_433 (by decide) rfl ?_
    refine g_aload_n C dL_law_435 rfl 3 rfl ?_
    refine g_aload_n C dL_law_436 rfl 1 rfl ?_
    refine g_iload C dL_law_437 5 rfl ?_
    refine g_iconst C (v := 1) dL_law_439 (by decide) ?_
    refine g_iadd C dL_law_440 ?_
    refine g_sldv C S (i + 1) (nx_add (rfl : nI i = nI i) (rfl : (1 : Int32) = nI 1)) (by omega) ha9 dL_law_441 ?_
    refine g_aload_n C dL_law_442 rfl 1 rfl ?_
    refine g_iload C dL_law_443 5 rfl ?_
    refine g_iconst C (v := 2) dL_law_445 (by decide) ?_
    refine g_iadd C dL_law_446 ?_
    refine g_sldv C S (i + 2) (nx_add (rfl : nI i = nI i) (rfl : (2 : Int32) = nI 2)) (by omega) hb9 dL_law_447 ?_
    refine g_callV C (cs1 := [wX ax (bo 0) (tr 0) (ac 0) (ah 0) (at_ 0), wB E bo ((fX6_reestimate β η σ a b).2.1), wB E tr τ, wC E ac γ, wH E ah bd ((fX6_reestimate β η σ a b).2.2.1), wT E at_ θ, wB E (bd 2) ((fX6_reestimate β η σ a b).2.2.2 2), wB E (bd 3) ((fX6_reestimate β η σ a b).2.2.2 3), wB E (bd 4) ((fX6_reestimate β η σ a b).2.2.2 4), wB E (bd 5) ((fX6_reestimate β η σ a b).2.2.2 5), wB E (bd 6) ((fX6_reestimate β η σ a b).2.2.2 6), wB E (bd 7) ((fX6_reestimate β η σ a b).2.2.2 7), wB E (bd 8) ((fX6_reestimate β η σ a b).2.2.2 8), wB E (bd 9) ((fX6_reestimate β η σ a b).2.2.2 9), wM E am ((fX7_reestimate μ a b).2), wO E ao o]) (st1 := [.int ((fX7_reestimate μ a b).1)]) [.int a, .int b] [14] (kX7_reestimate l E am μ hvm a b) caX7_reestimate q6_143 rfl ⟨Nat.le_of_ble_eq_true rfl, Nat.le_of_ble_eq_true rfl⟩ ⟨hk, hn⟩ 14 0 rfl rfl rfl rfl (by decide) rfl rfl rfl rfl (Nat.le_of_ble_eq_true rfl) dL_law_448 rfl ?_
    refine g_istore C (lv1 := [(6, .int ((fX7_reestimate μ a b).1)), (5, .int 3), (0, .ref b0), (1, .ref ax), (2, .ref (am 0)), (3, .ref ao), (4, .int (nI i))]) dL_law_451 (by decide) rfl ?_
    refine g_aload_n C dL_law_453 rfl 4 rfl ?_
    refine g_callV C (cs1 := [wX ax (bo 0) (tr 0) (ac 0) (ah 0) (at_ 0), wB E bo ((fX6_reestimate β η σ a b).2.1), wB E tr τ, wC E ac γ, wH E ah bd ((fX6_reestimate β η σ a b).2.2.1), wT E at_ θ, wB E (bd 2) ((fX6_reestimate β η σ a b).2.2.2 2), wB E (bd 3) ((fX6_reestimate β η σ a b).2.2.2 3), wB E (bd 4) ((fX6_reestimate β η σ a b).2.2.2 4), wB E (bd 5) ((fX6_reestimate β η σ a b).2.2.2 5), wB E (bd 6) ((fX6_reestimate β η σ a b).2.2.2 6), wB E (bd 7) ((fX6_reestimate β η σ a b).2.2.2 7), wB E (bd 8) ((fX6_reestimate β η σ a b).2.2.2 8), wB E (bd 9) ((fX6_reestimate β η σ a b).2.2.2 9), wM E am ((fX7_reestimate μ a b).2), wO E ao o]) (st1 := [.int (fX7_thrown ((fX7_reestimate μ a b).2))]) [] [14] (kX7_thrown l E am ((fX7_reestimate μ a b).2)) caX7_thrown q6_116 rfl ⟨Nat.le_of_ble_eq_true rfl, Nat.le_of_ble_eq_true rfl⟩ ⟨hk, hn⟩ 14 0 rfl rfl rfl rfl (by decide) rfl rfl rfl rfl (Nat.le_of_ble_eq_true rfl) dL_law_454 rfl ?_
    refine g_iload C dL_law_457 1 rfl ?_
    refine g_icmp_eq C 464 dL_law_459 (by decide) (fun _ => ?_) (fun c => absurd ht c)
    refine g_iload C dL_law_464 1 rfl ?_
    refine g_if_ne C 481 dL_law_466 (by decide) (fun _ => ?_) (fun c => absurd c (by decide))
    refine g_goto C 3840 dL_law_481 (by decide) ?_
    exact g_sub [2, 3, 4, 5, 6] rfl (next ((fX6_reestimate β η σ a b).2.1) τ γ ((fX6_reestimate β η σ a b).2.2.1) ((fX6_reestimate β η σ a b).2.2.2) θ ((fX7_reestimate μ a b).2) o hR2)
set_option maxHeartbeats 4000000 in
set_option maxRecDepth 100000 in
theorem arm_2 {Rl : RlT} (hRv : RlV Rl) (hs : sH_changePriority Rl)  {X : gX} {l : Launch} {E : gE} (C : gC X cL_law 9 RL (some .boolean) l E room_1) (hZ : gZ X.2.2.2.2.2.2.2.2.2.2.2.1 X.2.2.2.2.1 X.2.2.2.2.1.heap) (hNc : gNc X.2.2.2.2.1) {b0 L0 : Nat} {xs : Nat → Int32} (S : gS X b0 L0 xs) (hlt : l.stackTraces = false) {ax : Nat} {bo tr ac ah : Nat → Nat} {bd : Nat → Nat → Nat} {at_ am : Nat → Nat} {ao k n i : Nat} (hk : k + 3 ≤ 601024) (hn : n + 18 ≤ 7293034) (hi : i + 3 ≤ L0) {β τ γ η : BS} {σ : Nat → BS} {θ μ : BS} {o : Nat → Int64} (hR : Rl β η θ σ μ) (next : ∀ (β τ γ η : BS) (σ : Nat → BS) (θ μ : BS) (o : Nat → Int64), Rl β η θ σ μ → G X (k + 3) (n + 18) [wX ax (bo 0) (tr 0) (ac 0) (ah 0) (at_ 0), wB E bo β, wB E tr τ, wC E ac γ, wH E ah bd η, wT E at_ θ, wB E (bd 2) (σ 2), wB E (bd 3) (σ 3), wB E (bd 4) (σ 4), wB E (bd 5) (σ 5), wB E (bd 6) (σ 6), wB E (bd 7) (σ 7), wB E (bd 8) (σ 8), wB E (bd 9) (σ 9), wM E am μ, wO E ao o] [(0, .ref b0), (1, .ref ax), (2, .ref (am 0)), (3, .ref ao), (4, .int (nI i))] 3840 []) : G X k n [wX ax (bo 0) (tr 0) (ac 0) (ah 0) (at_ 0), wB E bo β, wB E tr τ, wC E ac γ, wH E ah bd η, wT E at_ θ, wB E (bd 2) (σ 2), wB E (bd 3) (σ 3), wB E (bd 4) (σ 4), wB E (bd 5) (σ 5), wB E (bd 6) (σ 6), wB E (bd 7) (σ 7), wB E (bd 8) (σ 8), wB E (bd 9) (σ 9), wM E am μ, wO E ao o] [(0, .ref b0), (1, .ref ax), (2, .ref (am 0)), (3, .ref ao), (4, .int (nI i))] 484 [] := by
  obtain ⟨hvb, hvh, hvt, hvm, ha⟩ := hRv β η θ σ μ hR
  obtain ⟨a, ha9⟩ : ∃ a, xs (i + 1) = a := ⟨_, rfl⟩
  obtain ⟨b, hb9⟩ : ∃ b, xs (i + 2) = b := ⟨_, rfl⟩
  obtain ⟨hag, hR2⟩ := hs β τ γ η σ θ μ a b hR
  rcases hag with ⟨hr, ht⟩ | ⟨hr, ht⟩ | ⟨hr, ht⟩
  · skip
    refine g_aload_n C dL_law_484 rfl 1 rfl ?_
    refine g_aload_n C dL_law_485 rfl 0 rfl ?_
    refine g_iload C dL_law_486 4 rfl ?_
    refine g_iconst C (v := 1) dL_law_488 (by decide) ?_
    refine g_iadd C dL_law_489 ?_
    refine g_sldv C S (i + 1) (nx_add (rfl : nI i = nI i) (rfl : (1 : Int32) = nI 1)) (by omega) ha9 dL_law_490 ?_
    refine g_aload_n C dL_law_491 rfl 0 rfl ?_
    refine g_iload C dL_law_492 4 rfl ?_
    refine g_iconst C (v := 2) dL_law_494 (by decide) ?_
    refine g_iadd C dL_law_495 ?_
    refine g_sldv C S (i + 2) (nx_add (rfl : nI i = nI i) (rfl : (2 : Int32) = nI 2)) (by omega) hb9 dL_law_496 ?_
    refine g_aload_n C dL_law_497 rfl 3 rfl ?_
    refine g_callSW C hZ hNc (z := 4) (cs1 := [wX ax (bo 0) (tr 0) (ac 0) (ah 0) (at_ 0), wB E bo ((fX6_changePriority β η σ a b).2.1), wB E tr τ, wC E ac γ, wH E ah bd ((fX6_changePriority β η σ a b).2.2.1), wT E at_ θ, wB E (bd 2) ((fX6_changePriority β η σ a b).2.2.2 2), wB E (bd 3) ((fX6_changePriority β η σ a b).2.2.2 3), wB E (bd 4) ((fX6_changePriority β η σ a b).2.2.2 4), wB E (bd 5) ((fX6_changePriority β η σ a b).2.2.2 5), wB E (bd 6) ((fX6_changePriority β η σ a b).2.2.2 6), wB E (bd 7) ((fX6_changePriority β η σ a b).2.2.2 7), wB E (bd 8) ((fX6_changePriority β η σ a b).2.2.2 8), wB E (bd 9) ((fX6_changePriority β η σ a b).2.2.2 9), wM E am μ, wO E ao (vp_updL o 0 ((fX7_changePriority μ a b).1).toInt64)]) (st1 := [.int 0]) [.ref ax, .int a, .int b, .ref ao] [0, 1, 2, 3, 4, 5, 6, 7, 8, 9, 10, 11, 12, 13, 15] (kL_changePriority_r l E ax bo β tr τ ac γ ah bd η σ at_ θ ao o hlt hvb hvh a b ((fX7_changePriority μ a b).1) hr) q3_232 q1_0 (by decide +kernel) q3_231 q3_230 rfl ⟨Nat.le_of_ble_eq_true rfl, Nat.le_of_ble_eq_true rfl⟩ ⟨hk, hn⟩ (by decide) rfl rfl rfl rfl (Nat.le_of_ble_eq_true rfl) dL_law_498 rfl ?_
    refine g_istore C (lv1 := [(5, .int 0), (0, .ref b0), (1, .ref ax), (2, .ref (am 0)), (3, .ref ao), (4, .int (nI i))]) dL_law_501 (by decide) rfl ?_
    refine g_aload_n C dL_law_503 rfl 3 rfl ?_
    refine g_aload_n C dL_law_504 rfl 1 rfl ?_
    refine g_iload C dL_law_505 5 rfl ?_
    refine g_iconst C (v := 1) dL_law_507 (by decide) ?_
    refine g_iadd C dL_law_508 ?_
    refine g_sldv C S (i + 1) (nx_add (rfl : nI i = nI i) (rfl : (1 : Int32) = nI 1)) (by omega) ha9 dL_law_509 ?_
    refine g_aload_n C dL_law_510 rfl 1 rfl ?_
    refine g_iload C dL_law_511 5 rfl ?_
    refine g_iconst C (v := 2) dL_law_513 (by decide) ?_
    refine g_iadd C dL_law_514 ?_
    refine g_sldv C S (i + 2) (nx_add (rfl : nI i = nI i) (rfl : (2 : Int32) = nI 2)) (by omega) hb9 dL_law_515 ?_
    refine g_callV C (cs1 := [wX ax (bo 0) (tr 0) (ac 0) (ah 0) (at_ 0), wB E bo ((fX6_changePriority β η σ a b).2.1), wB E tr τ, wC E ac γ, wH E ah bd ((fX6_changePriority β η σ a b).2.2.1), wT E at_ θ, wB E (bd 2) ((fX6_changePriority β η σ a b).2.2.2 2), wB E (bd 3) ((fX6_changePriority β η σ a b).2.2.2 3), wB E (bd 4) ((fX6_changePriority β η σ a b).2.2.2 4), wB E (bd 5) ((fX6_changePriority β η σ a b).2.2.2 5), wB E (bd 6) ((fX6_changePriority β η σ a b).2.2.2 6), wB E (bd 7) ((fX6_changePriority β η σ a b).2.2.2 7), wB E (bd 8) ((fX6_changePriority β η σ a b).2.2.2 8), wB E (bd 9) ((fX6_changePriority β η σ a b).2.2.2 9), wM E am ((fX7_changePriority μ a b).2), wO E ao (vp_updL o 0 ((fX7_changePriority μ a b).1).toInt64)]) (st1 := [.int ((fX7_changePriority μ a b).1)]) [.int a, .int b] [14] (kX7_changePriority l E am μ hvm a b) caX7_changePriority q6_167 rfl ⟨Nat.le_of_ble_eq_true rfl, Nat.le_of_ble_eq_true rfl⟩ ⟨hk, hn⟩ 14 0 rfl rfl rfl rfl (by decide) rfl rfl rfl rfl (Nat.le_of_ble_eq_true rfl) dL_law_516 rfl ?_
    refine g_istore C (lv1 := [(6, .int ((fX7_changePriority μ a b).1)), (5, .int 0), (0, .ref b0), (1, .ref ax), (2, .ref (am 0)), (3, .ref ao), (4, .int (nI i))]) dL_law_519 (by decide) rfl ?_
    refine g_aload_n C dL_law_521 rfl 4 rfl ?_
    refine g_callV C (cs1 := [wX ax (bo 0) (tr 0) (ac 0) (ah 0) (at_ 0), wB E bo ((fX6_changePriority β η σ a b).2.1), wB E tr τ, wC E ac γ, wH E ah bd ((fX6_changePriority β η σ a b).2.2.1), wT E at_ θ, wB E (bd 2) ((fX6_changePriority β η σ a b).2.2.2 2), wB E (bd 3) ((fX6_changePriority β η σ a b).2.2.2 3), wB E (bd 4) ((fX6_changePriority β η σ a b).2.2.2 4), wB E (bd 5) ((fX6_changePriority β η σ a b).2.2.2 5), wB E (bd 6) ((fX6_changePriority β η σ a b).2.2.2 6), wB E (bd 7) ((fX6_changePriority β η σ a b).2.2.2 7), wB E (bd 8) ((fX6_changePriority β η σ a b).2.2.2 8), wB E (bd 9) ((fX6_changePriority β η σ a b).2.2.2 9), wM E am ((fX7_changePriority μ a b).2), wO E ao (vp_updL o 0 ((fX7_changePriority μ a b).1).toInt64)]) (st1 := [.int (fX7_thrown ((fX7_changePriority μ a b).2))]) [] [14] (kX7_thrown l E am ((fX7_changePriority μ a b).2)) caX7_thrown q6_116 rfl ⟨Nat.le_of_ble_eq_true rfl, Nat.le_of_ble_eq_true rfl⟩ ⟨hk, hn⟩ 14 0 rfl rfl rfl rfl (by decide) rfl rfl rfl rfl (Nat.le_of_ble_eq_true rfl) dL_law_522 rfl ?_
    refine g_iload C dL_law_525 1 rfl ?_
    refine g_icmp_eq C 532 dL_law_527 (by decide) (fun _ => ?_) (fun c => absurd ht c)
    refine g_iload C dL_law_532 1 rfl ?_
    refine g_if_ne C 549 dL_law_534 (by decide) (fun c => absurd rfl c) (fun _ => ?_)
    refine g_aload_n C dL_law_537 rfl 5 rfl ?_
    refine g_iconst C (v := 0) dL_law_538 (by decide) ?_
    refine g_laldn C 15 0 0 rfl rfl rfl (by decide) (by decide) dL_law_539 ?_
    refine g_iload C dL_law_540 0 rfl ?_
    refine g_i2l C dL_law_542 ?_
    refine g_lcmp C dL_law_543 ?_
    refine g_if_eq C 549 dL_law_544 (by decide) (fun _ => ?_) (fun c => absurd law_cmp c)
    refine g_goto C 3840 dL_law_549 (by decide) ?_
    exact g_sub [2, 3, 4, 5, 6] rfl (next ((fX6_changePriority β η σ a b).2.1) τ γ ((fX6_changePriority β η σ a b).2.2.1) ((fX6_changePriority β η σ a b).2.2.2) θ ((fX7_changePriority μ a b).2) (vp_updL o 0 ((fX7_changePriority μ a b).1).toInt64) hR2)
  · skip
    refine g_aload_n C dL_law_484 rfl 1 rfl ?_
    refine g_aload_n C dL_law_485 rfl 0 rfl ?_
    refine g_iload C dL_law_486 4 rfl ?_
    refine g_iconst C (v := 1) dL_law_488 (by decide) ?_
    refine g_iadd C dL_law_489 ?_
    refine g_sldv C S (i + 1) (nx_add (rfl : nI i = nI i) (rfl : (1 : Int32) = nI 1)) (by omega) ha9 dL_law_490 ?_
    refine g_aload_n C dL_law_491 rfl 0 rfl ?_
    refine g_iload C dL_law_492 4 rfl ?_
    refine g_iconst C (v := 2) dL_law_494 (by decide) ?_
    refine g_iadd C dL_law_495 ?_
    refine g_sldv C S (i + 2) (nx_add (rfl : nI i = nI i) (rfl : (2 : Int32) = nI 2)) (by omega) hb9 dL_law_496 ?_
    refine g_aload_n C dL_law_497 rfl 3 rfl ?_
    refine g_callSW C hZ hNc (z := 4) (cs1 := [wX ax (bo 0) (tr 0) (ac 0) (ah 0) (at_ 0), wB E bo ((fX6_changePriority β η σ a b).2.1), wB E tr τ, wC E ac γ, wH E ah bd ((fX6_changePriority β η σ a b).2.2.1), wT E at_ θ, wB E (bd 2) ((fX6_changePriority β η σ a b).2.2.2 2), wB E (bd 3) ((fX6_changePriority β η σ a b).2.2.2 3), wB E (bd 4) ((fX6_changePriority β η σ a b).2.2.2 4), wB E (bd 5) ((fX6_changePriority β η σ a b).2.2.2 5), wB E (bd 6) ((fX6_changePriority β η σ a b).2.2.2 6), wB E (bd 7) ((fX6_changePriority β η σ a b).2.2.2 7), wB E (bd 8) ((fX6_changePriority β η σ a b).2.2.2 8), wB E (bd 9) ((fX6_changePriority β η σ a b).2.2.2 9), wM E am μ, wO E ao o]) (st1 := [.int 1]) [.ref ax, .int a, .int b, .ref ao] [0, 1, 2, 3, 4, 5, 6, 7, 8, 9, 10, 11, 12, 13, 15] (kL_changePriority_0 l E ax bo β tr τ ac γ ah bd η σ at_ θ ao o hlt hvb hvh a b hr) q3_232 q1_0 (by decide +kernel) q3_231 q3_230 rfl ⟨Nat.le_of_ble_eq_true rfl, Nat.le_of_ble_eq_true rfl⟩ ⟨hk, hn⟩ (by decide) rfl rfl rfl rfl (Nat.le_of_ble_eq_true rfl) dL_law_498 rfl ?_
    refine g_istore C (lv1 := [(5, .int 1), (0, .ref b0), (1, .ref ax), (2, .ref (am 0)), (3, .ref ao), (4, .int (nI i))]) dL_law_501 (by decide) rfl ?_
    refine g_aload_n C dL_law_503 rfl 3 rfl ?_
    refine g_aload_n C dL_law_504 rfl 1 rfl ?_
    refine g_iload C dL_law_505 5 rfl ?_
    refine g_iconst C (v := 1) dL_law_507 (by decide) ?_
    refine g_iadd C dL_law_508 ?_
    refine g_sldv C S (i + 1) (nx_add (rfl : nI i = nI i) (rfl : (1 : Int32) = nI 1)) (by omega) ha9 dL_law_509 ?_
    refine g_aload_n C dL_law_510 rfl 1 rfl ?_
    refine g_iload C dL_law_511 5 rfl ?_
    refine g_iconst C (v := 2) dL_law_513 (by decide) ?_
    refine g_iadd C dL_law_514 ?_
    refine g_sldv C S (i + 2) (nx_add (rfl : nI i = nI i) (rfl : (2 : Int32) = nI 2)) (by omega) hb9 dL_law_515 ?_
    refine g_callV C (cs1 := [wX ax (bo 0) (tr 0) (ac 0) (ah 0) (at_ 0), wB E bo ((fX6_changePriority β η σ a b).2.1), wB E tr τ, wC E ac γ, wH E ah bd ((fX6_changePriority β η σ a b).2.2.1), wT E at_ θ, wB E (bd 2) ((fX6_changePriority β η σ a b).2.2.2 2), wB E (bd 3) ((fX6_changePriority β η σ a b).2.2.2 3), wB E (bd 4) ((fX6_changePriority β η σ a b).2.2.2 4), wB E (bd 5) ((fX6_changePriority β η σ a b).2.2.2 5), wB E (bd 6) ((fX6_changePriority β η σ a b).2.2.2 6), wB E (bd 7) ((fX6_changePriority β η σ a b).2.2.2 7), wB E (bd 8) ((fX6_changePriority β η σ a b).2.2.2 8), wB E (bd 9) ((fX6_changePriority β η σ a b).2.2.2 9), wM E am ((fX7_changePriority μ a b).2), wO E ao o]) (st1 := [.int ((fX7_changePriority μ a b).1)]) [.int a, .int b] [14] (kX7_changePriority l E am μ hvm a b) caX7_changePriority q6_167 rfl ⟨Nat.le_of_ble_eq_true rfl, Nat.le_of_ble_eq_true rfl⟩ ⟨hk, hn⟩ 14 0 rfl rfl rfl rfl (by decide) rfl rfl rfl rfl (Nat.le_of_ble_eq_true rfl) dL_law_516 rfl ?_
    refine g_istore C (lv1 := [(6, .int ((fX7_changePriority μ a b).1)), (5, .int 1), (0, .ref b0), (1, .ref ax), (2, .ref (am 0)), (3, .ref ao), (4, .int (nI i))]) dL_law_519 (by decide) rfl ?_
    refine g_aload_n C dL_law_521 rfl 4 rfl ?_
    refine g_callV C (cs1 := [wX ax (bo 0) (tr 0) (ac 0) (ah 0) (at_ 0), wB E bo ((fX6_changePriority β η σ a b).2.1), wB E tr τ, wC E ac γ, wH E ah bd ((fX6_changePriority β η σ a b).2.2.1), wT E at_ θ, wB E (bd 2) ((fX6_changePriority β η σ a b).2.2.2 2), wB E (bd 3) ((fX6_changePriority β η σ a b).2.2.2 3), wB E (bd 4) ((fX6_changePriority β η σ a b).2.2.2 4), wB E (bd 5) ((fX6_changePriority β η σ a b).2.2.2 5), wB E (bd 6) ((fX6_changePriority β η σ a b).2.2.2 6), wB E (bd 7) ((fX6_changePriority β η σ a b).2.2.2 7), wB E (bd 8) ((fX6_changePriority β η σ a b).2.2.2 8), wB E (bd 9) ((fX6_changePriority β η σ a b).2.2.2 9), wM E am ((fX7_changePriority μ a b).2), wO E ao o]) (st1 := [.int (fX7_thrown ((fX7_changePriority μ a b).2))]) [] [14] (kX7_thrown l E am ((fX7_changePriority μ a b).2)) caX7_thrown q6_116 rfl ⟨Nat.le_of_ble_eq_true rfl, Nat.le_of_ble_eq_true rfl⟩ ⟨hk, hn⟩ 14 0 rfl rfl rfl rfl (by decide) rfl rfl rfl rfl (Nat.le_of_ble_eq_true rfl) dL_law_522 rfl ?_
    refine g_iload C dL_law_525 1 rfl ?_
    refine g_icmp_eq C 532 dL_law_527 (by decide) (fun _ => ?_) (fun c => absurd ht c)
    refine g_iload C dL_law_532 1 rfl ?_
    refine g_if_ne C 549 dL_law_534 (by decide) (fun _ => ?_) (fun c => absurd c (by decide))
    refine g_goto C 3840 dL_law_549 (by decide) ?_
    exact g_sub [2, 3, 4, 5, 6] rfl (next ((fX6_changePriority β η σ a b).2.1) τ γ ((fX6_changePriority β η σ a b).2.2.1) ((fX6_changePriority β η σ a b).2.2.2) θ ((fX7_changePriority μ a b).2) o hR2)
  · skip
    refine g_aload_n C dL_law_484 rfl 1 rfl ?_
    refine g_aload_n C dL_law_485 rfl 0 rfl ?_
    refine g_iload C dL_law_486 4 rfl ?_
    refine g_iconst C (v := 1) dL_law_488 (by decide) ?_
    refine g_iadd C dL_law_489 ?_
    refine g_sldv C S (i + 1) (nx_add (rfl : nI i = nI i) (rfl : (1 : Int32) = nI 1)) (by omega) ha9 dL_law_490 ?_
    refine g_aload_n C dL_law_491 rfl 0 rfl ?_
    refine g_iload C dL_law_492 4 rfl ?_
    refine g_iconst C (v := 2) dL_law_494 (by decide) ?_
    refine g_iadd C dL_law_495 ?_
    refine g_sldv C S (i + 2) (nx_add (rfl : nI i = nI i) (rfl : (2 : Int32) = nI 2)) (by omega) hb9 dL_law_496 ?_
    refine g_aload_n C dL_law_497 rfl 3 rfl ?_
    refine g_callSW C hZ hNc (z := 4) (cs1 := [wX ax (bo 0) (tr 0) (ac 0) (ah 0) (at_ 0), wB E bo ((fX6_changePriority β η σ a b).2.1), wB E tr τ, wC E ac γ, wH E ah bd ((fX6_changePriority β η σ a b).2.2.1), wT E at_ θ, wB E (bd 2) ((fX6_changePriority β η σ a b).2.2.2 2), wB E (bd 3) ((fX6_changePriority β η σ a b).2.2.2 3), wB E (bd 4) ((fX6_changePriority β η σ a b).2.2.2 4), wB E (bd 5) ((fX6_changePriority β η σ a b).2.2.2 5), wB E (bd 6) ((fX6_changePriority β η σ a b).2.2.2 6), wB E (bd 7) ((fX6_changePriority β η σ a b).2.2.2 7), wB E (bd 8) ((fX6_changePriority β η σ a b).2.2.2 8), wB E (bd 9) ((fX6_changePriority β η σ a b).2.2.2 9), wM E am μ, wO E ao o]) (st1 := [.int 2]) [.ref ax, .int a, .int b, .ref ao] [0, 1, 2, 3, 4, 5, 6, 7, 8, 9, 10, 11, 12, 13, 15] (kL_changePriority_1 l E ax bo β tr τ ac γ ah bd η σ at_ θ ao o hlt hvb hvh a b hr) q3_232 q1_0 (by decide +kernel) q3_231 q3_230 rfl ⟨Nat.le_of_ble_eq_true rfl, Nat.le_of_ble_eq_true rfl⟩ ⟨hk, hn⟩ (by decide) rfl rfl rfl rfl (Nat.le_of_ble_eq_true rfl) dL_law_498 rfl ?_
    refine g_istore C (lv1 := [(5, .int 2), (0, .ref b0), (1, .ref ax), (2, .ref (am 0)), (3, .ref ao), (4, .int (nI i))]) dL_law_501 (by decide) rfl ?_
    refine g_aload_n C dL_law_503 rfl 3 rfl ?_
    refine g_aload_n C dL_law_504 rfl 1 rfl ?_
    refine g_iload C dL_law_505 5 rfl ?_
    refine g_iconst C (v := 1) dL_law_507 (by decide) ?_
    refine g_iadd C dL_law_508 ?_
    refine g_sldv C S (i + 1) (nx_add (rfl : nI i = nI i) (rfl : (1 : Int32) = nI 1)) (by omega) ha9 dL_law_509 ?_
    refine g_aload_n C dL_law_510 rfl 1 rfl ?_
    refine g_iload C dL_law_511 5 rfl ?_
    refine g_iconst C (v := 2) dL_law_513 (by decide) ?_
    refine g_iadd C dL_law_514 ?_
    refine g_sldv C S (i + 2) (nx_add (rfl : nI i = nI i) (rfl : (2 : Int32) = nI 2)) (by omega) hb9 dL_law_515 ?_
    refine g_callV C (cs1 := [wX ax (bo 0) (tr 0) (ac 0) (ah 0) (at_ 0), wB E bo ((fX6_changePriority β η σ a b).2.1), wB E tr τ, wC E ac γ, wH E ah bd ((fX6_changePriority β η σ a b).2.2.1), wT E at_ θ, wB E (bd 2) ((fX6_changePriority β η σ a b).2.2.2 2), wB E (bd 3) ((fX6_changePriority β η σ a b).2.2.2 3), wB E (bd 4) ((fX6_changePriority β η σ a b).2.2.2 4), wB E (bd 5) ((fX6_changePriority β η σ a b).2.2.2 5), wB E (bd 6) ((fX6_changePriority β η σ a b).2.2.2 6), wB E (bd 7) ((fX6_changePriority β η σ a b).2.2.2 7), wB E (bd 8) ((fX6_changePriority β η σ a b).2.2.2 8), wB E (bd 9) ((fX6_changePriority β η σ a b).2.2.2 9), wM E am ((fX7_changePriority μ a b).2), wO E ao o]) (st1 := [.int ((fX7_changePriority μ a b).1)]) [.int a, .int b] [14] (kX7_changePriority l E am μ hvm a b) caX7_changePriority q6_167 rfl ⟨Nat.le_of_ble_eq_true rfl, Nat.le_of_ble_eq_true rfl⟩ ⟨hk, hn⟩ 14 0 rfl rfl rfl rfl (by decide) rfl rfl rfl rfl (Nat.le_of_ble_eq_true rfl) dL_law_516 rfl ?_
    refine g_istore C (lv1 := [(6, .int ((fX7_changePriority μ a b).1)), (5, .int 2), (0, .ref b0), (1, .ref ax), (2, .ref (am 0)), (3, .ref ao), (4, .int (nI i))]) dL_law_519 (by decide) rfl ?_
    refine g_aload_n C dL_law_521 rfl 4 rfl ?_
    refine g_callV C (cs1 := [wX ax (bo 0) (tr 0) (ac 0) (ah 0) (at_ 0), wB E bo ((fX6_changePriority β η σ a b).2.1), wB E tr τ, wC E ac γ, wH E ah bd ((fX6_changePriority β η σ a b).2.2.1), wT E at_ θ, wB E (bd 2) ((fX6_changePriority β η σ a b).2.2.2 2), wB E (bd 3) ((fX6_changePriority β η σ a b).2.2.2 3), wB E (bd 4) ((fX6_changePriority β η σ a b).2.2.2 4), wB E (bd 5) ((fX6_changePriority β η σ a b).2.2.2 5), wB E (bd 6) ((fX6_changePriority β η σ a b).2.2.2 6), wB E (bd 7) ((fX6_changePriority β η σ a b).2.2.2 7), wB E (bd 8) ((fX6_changePriority β η σ a b).2.2.2 8), wB E (bd 9) ((fX6_changePriority β η σ a b).2.2.2 9), wM E am ((fX7_changePriority μ a b).2), wO E ao o]) (st1 := [.int (fX7_thrown ((fX7_changePriority μ a b).2))]) [] [14] (kX7_thrown l E am ((fX7_changePriority μ a b).2)) caX7_thrown q6_116 rfl ⟨Nat.le_of_ble_eq_true rfl, Nat.le_of_ble_eq_true rfl⟩ ⟨hk, hn⟩ 14 0 rfl rfl rfl rfl (by decide) rfl rfl rfl rfl (Nat.le_of_ble_eq_true rfl) dL_law_522 rfl ?_
    refine g_iload C dL_law_525 1 rfl ?_
    refine g_icmp_eq C 532 dL_law_527 (by decide) (fun _ => ?_) (fun c => absurd ht c)
    refine g_iload C dL_law_532 1 rfl ?_
    refine g_if_ne C 549 dL_law_534 (by decide) (fun _ => ?_) (fun c => absurd c (by decide))
    refine g_goto C 3840 dL_law_549 (by decide) ?_
    exact g_sub [2, 3, 4, 5, 6] rfl (next ((fX6_changePriority β η σ a b).2.1) τ γ ((fX6_changePriority β η σ a b).2.2.1) ((fX6_changePriority β η σ a b).2.2.2) θ ((fX7_changePriority μ a b).2) o hR2)
set_option maxHeartbeats 4000000 in
set_option maxRecDepth 100000 in
theorem arm_3 {Rl : RlT} (hRv : RlV Rl) (hs : sH_need Rl)  {X : gX} {l : Launch} {E : gE} (C : gC X cL_law 9 RL (some .boolean) l E room_1) (hZ : gZ X.2.2.2.2.2.2.2.2.2.2.2.1 X.2.2.2.2.1 X.2.2.2.2.1.heap) (hNc : gNc X.2.2.2.2.1) {b0 L0 : Nat} {xs : Nat → Int32} (S : gS X b0 L0 xs) (hlt : l.stackTraces = false) {ax : Nat} {bo tr ac ah : Nat → Nat} {bd : Nat → Nat → Nat} {at_ am : Nat → Nat} {ao k n i : Nat} (hk : k + 3 ≤ 601024) (hn : n + 18 ≤ 7293034) (hi : i + 3 ≤ L0) {β τ γ η : BS} {σ : Nat → BS} {θ μ : BS} {o : Nat → Int64} (hR : Rl β η θ σ μ) (next : ∀ (β τ γ η : BS) (σ : Nat → BS) (θ μ : BS) (o : Nat → Int64), Rl β η θ σ μ → G X (k + 3) (n + 18) [wX ax (bo 0) (tr 0) (ac 0) (ah 0) (at_ 0), wB E bo β, wB E tr τ, wC E ac γ, wH E ah bd η, wT E at_ θ, wB E (bd 2) (σ 2), wB E (bd 3) (σ 3), wB E (bd 4) (σ 4), wB E (bd 5) (σ 5), wB E (bd 6) (σ 6), wB E (bd 7) (σ 7), wB E (bd 8) (σ 8), wB E (bd 9) (σ 9), wM E am μ, wO E ao o] [(0, .ref b0), (1, .ref ax), (2, .ref (am 0)), (3, .ref ao), (4, .int (nI i))] 3840 []) : G X k n [wX ax (bo 0) (tr 0) (ac 0) (ah 0) (at_ 0), wB E bo β, wB E tr τ, wC E ac γ, wH E ah bd η, wT E at_ θ, wB E (bd 2) (σ 2), wB E (bd 3) (σ 3), wB E (bd 4) (σ 4), wB E (bd 5) (σ 5), wB E (bd 6) (σ 6), wB E (bd 7) (σ 7), wB E (bd 8) (σ 8), wB E (bd 9) (σ 9), wM E am μ, wO E ao o] [(0, .ref b0), (1, .ref ax), (2, .ref (am 0)), (3, .ref ao), (4, .int (nI i))] 552 [] := by
  obtain ⟨hvb, hvh, hvt, hvm, ha⟩ := hRv β η θ σ μ hR
  obtain ⟨a, ha9⟩ : ∃ a, xs (i + 1) = a := ⟨_, rfl⟩
  obtain ⟨b, hb9⟩ : ∃ b, xs (i + 2) = b := ⟨_, rfl⟩
  obtain ⟨hag, hR2⟩ := hs β τ γ η σ θ μ a b hR
  rcases hag with ⟨hr, ht⟩ | ⟨hr, ht⟩ | ⟨hr, ht⟩ | ⟨hr, ht⟩
  · skip
    refine g_aload_n C dL_law_552 rfl 1 rfl ?_
    refine g_aload_n C dL_law_553 rfl 0 rfl ?_
    refine g_iload C dL_law_554 4 rfl ?_
    refine g_iconst C (v := 1) dL_law_556 (by decide) ?_
    refine g_iadd C dL_law_557 ?_
    refine g_sldv C S (i + 1) (nx_add (rfl : nI i = nI i) (rfl : (1 : Int32) = nI 1)) (by omega) ha9 dL_law_558 ?_
    refine g_aload_n C dL_law_559 rfl 0 rfl ?_
    refine g_iload C dL_law_560 4 rfl ?_
    refine g_iconst C (v := 2) dL_law_562 (by decide) ?_
    refine g_iadd C dL_law_563 ?_
    refine g_sldv C S (i + 2) (nx_add (rfl : nI i = nI i) (rfl : (2 : Int32) = nI 2)) (by omega) hb9 dL_law_564 ?_
    refine g_aload_n C dL_law_565 rfl 3 rfl ?_
    refine g_callSW C hZ hNc (z := 4) (cs1 := [wX ax (bo 0) (tr 0) (ac 0) (ah 0) (at_ 0), wB E bo ((fX6_need β η σ a b).2.1), wB E tr τ, wC E ac γ, wH E ah bd ((fX6_need β η σ a b).2.2.1), wT E at_ θ, wB E (bd 2) ((fX6_need β η σ a b).2.2.2 2), wB E (bd 3) ((fX6_need β η σ a b).2.2.2 3), wB E (bd 4) ((fX6_need β η σ a b).2.2.2 4), wB E (bd 5) ((fX6_need β η σ a b).2.2.2 5), wB E (bd 6) ((fX6_need β η σ a b).2.2.2 6), wB E (bd 7) ((fX6_need β η σ a b).2.2.2 7), wB E (bd 8) ((fX6_need β η σ a b).2.2.2 8), wB E (bd 9) ((fX6_need β η σ a b).2.2.2 9), wM E am μ, wO E ao (vp_updL o 0 ((fX7_need μ a b).1).toInt64)]) (st1 := [.int 0]) [.ref ax, .int a, .int b, .ref ao] [0, 1, 2, 3, 4, 5, 6, 7, 8, 9, 10, 11, 12, 13, 15] (kL_need_r l E ax bo β tr τ ac γ ah bd η σ at_ θ ao o hlt hvb hvh a b ((fX7_need μ a b).1) hr) q4_3 q1_0 (by decide +kernel) q4_2 q4_1 rfl ⟨Nat.le_of_ble_eq_true rfl, Nat.le_of_ble_eq_true rfl⟩ ⟨hk, hn⟩ (by decide) rfl rfl rfl rfl (Nat.le_of_ble_eq_true rfl) dL_law_566 rfl ?_
    refine g_istore C (lv1 := [(5, .int 0), (0, .ref b0), (1, .ref ax), (2, .ref (am 0)), (3, .ref ao), (4, .int (nI i))]) dL_law_569 (by decide) rfl ?_
    refine g_aload_n C dL_law_571 rfl 3 rfl ?_
    refine g_aload_n C dL_law_572 rfl 1 rfl ?_
    refine g_iload C dL_law_573 5 rfl ?_
    refine g_iconst C (v := 1) dL_law_575 (by decide) ?_
    refine g_iadd C dL_law_576 ?_
    refine g_sldv C S (i + 1) (nx_add (rfl : nI i = nI i) (rfl : (1 : Int32) = nI 1)) (by omega) ha9 dL_law_577 ?_
    refine g_aload_n C dL_law_578 rfl 1 rfl ?_
    refine g_iload C dL_law_579 5 rfl ?_
    refine g_iconst C (v := 2) dL_law_581 (by decide) ?_
    refine g_iadd C dL_law_582 ?_
    refine g_sldv C S (i + 2) (nx_add (rfl : nI i = nI i) (rfl : (2 : Int32) = nI 2)) (by omega) hb9 dL_law_583 ?_
    refine g_callV C (cs1 := [wX ax (bo 0) (tr 0) (ac 0) (ah 0) (at_ 0), wB E bo ((fX6_need β η σ a b).2.1), wB E tr τ, wC E ac γ, wH E ah bd ((fX6_need β η σ a b).2.2.1), wT E at_ θ, wB E (bd 2) ((fX6_need β η σ a b).2.2.2 2), wB E (bd 3) ((fX6_need β η σ a b).2.2.2 3), wB E (bd 4) ((fX6_need β η σ a b).2.2.2 4), wB E (bd 5) ((fX6_need β η σ a b).2.2.2 5), wB E (bd 6) ((fX6_need β η σ a b).2.2.2 6), wB E (bd 7) ((fX6_need β η σ a b).2.2.2 7), wB E (bd 8) ((fX6_need β η σ a b).2.2.2 8), wB E (bd 9) ((fX6_need β η σ a b).2.2.2 9), wM E am ((fX7_need μ a b).2), wO E ao (vp_updL o 0 ((fX7_need μ a b).1).toInt64)]) (st1 := [.int ((fX7_need μ a b).1)]) [.int a, .int b] [14] (kX7_need l E am μ hvm a b) caX7_need q6_171 rfl ⟨Nat.le_of_ble_eq_true rfl, Nat.le_of_ble_eq_true rfl⟩ ⟨hk, hn⟩ 14 0 rfl rfl rfl rfl (by decide) rfl rfl rfl rfl (Nat.le_of_ble_eq_true rfl) dL_law_584 rfl ?_
    refine g_istore C (lv1 := [(6, .int ((fX7_need μ a b).1)), (5, .int 0), (0, .ref b0), (1, .ref ax), (2, .ref (am 0)), (3, .ref ao), (4, .int (nI i))]) dL_law_587 (by decide) rfl ?_
    refine g_aload_n C dL_law_589 rfl 4 rfl ?_
    refine g_callV C (cs1 := [wX ax (bo 0) (tr 0) (ac 0) (ah 0) (at_ 0), wB E bo ((fX6_need β η σ a b).2.1), wB E tr τ, wC E ac γ, wH E ah bd ((fX6_need β η σ a b).2.2.1), wT E at_ θ, wB E (bd 2) ((fX6_need β η σ a b).2.2.2 2), wB E (bd 3) ((fX6_need β η σ a b).2.2.2 3), wB E (bd 4) ((fX6_need β η σ a b).2.2.2 4), wB E (bd 5) ((fX6_need β η σ a b).2.2.2 5), wB E (bd 6) ((fX6_need β η σ a b).2.2.2 6), wB E (bd 7) ((fX6_need β η σ a b).2.2.2 7), wB E (bd 8) ((fX6_need β η σ a b).2.2.2 8), wB E (bd 9) ((fX6_need β η σ a b).2.2.2 9), wM E am ((fX7_need μ a b).2), wO E ao (vp_updL o 0 ((fX7_need μ a b).1).toInt64)]) (st1 := [.int (fX7_thrown ((fX7_need μ a b).2))]) [] [14] (kX7_thrown l E am ((fX7_need μ a b).2)) caX7_thrown q6_116 rfl ⟨Nat.le_of_ble_eq_true rfl, Nat.le_of_ble_eq_true rfl⟩ ⟨hk, hn⟩ 14 0 rfl rfl rfl rfl (by decide) rfl rfl rfl rfl (Nat.le_of_ble_eq_true rfl) dL_law_590 rfl ?_
    refine g_iload C dL_law_593 1 rfl ?_
    refine g_icmp_eq C 600 dL_law_595 (by decide) (fun _ => ?_) (fun c => absurd ht c)
    refine g_iload C dL_law_600 1 rfl ?_
    refine g_if_ne C 617 dL_law_602 (by decide) (fun c => absurd rfl c) (fun _ => ?_)
    refine g_aload_n C dL_law_605 rfl 5 rfl ?_
    refine g_iconst C (v := 0) dL_law_606 (by decide) ?_
    refine g_laldn C 15 0 0 rfl rfl rfl (by decide) (by decide) dL_law_607 ?_
    refine g_iload C dL_law_608 0 rfl ?_
    refine g_i2l C dL_law_610 ?_
    refine g_lcmp C dL_law_611 ?_
    refine g_if_eq C 617 dL_law_612 (by decide) (fun _ => ?_) (fun c => absurd law_cmp c)
    refine g_goto C 3840 dL_law_617 (by decide) ?_
    exact g_sub [2, 3, 4, 5, 6] rfl (next ((fX6_need β η σ a b).2.1) τ γ ((fX6_need β η σ a b).2.2.1) ((fX6_need β η σ a b).2.2.2) θ ((fX7_need μ a b).2) (vp_updL o 0 ((fX7_need μ a b).1).toInt64) hR2)
  · skip
    refine g_aload_n C dL_law_552 rfl 1 rfl ?_
    refine g_aload_n C dL_law_553 rfl 0 rfl ?_
    refine g_iload C dL_law_554 4 rfl ?_
    refine g_iconst C (v := 1) dL_law_556 (by decide) ?_
    refine g_iadd C dL_law_557 ?_
    refine g_sldv C S (i + 1) (nx_add (rfl : nI i = nI i) (rfl : (1 : Int32) = nI 1)) (by omega) ha9 dL_law_558 ?_
    refine g_aload_n C dL_law_559 rfl 0 rfl ?_
    refine g_iload C dL_law_560 4 rfl ?_
    refine g_iconst C (v := 2) dL_law_562 (by decide) ?_
    refine g_iadd C dL_law_563 ?_
    refine g_sldv C S (i + 2) (nx_add (rfl : nI i = nI i) (rfl : (2 : Int32) = nI 2)) (by omega) hb9 dL_law_564 ?_
    refine g_aload_n C dL_law_565 rfl 3 rfl ?_
    refine g_callSW C hZ hNc (z := 4) (cs1 := [wX ax (bo 0) (tr 0) (ac 0) (ah 0) (at_ 0), wB E bo ((fX6_need β η σ a b).2.1), wB E tr τ, wC E ac γ, wH E ah bd ((fX6_need β η σ a b).2.2.1), wT E at_ θ, wB E (bd 2) ((fX6_need β η σ a b).2.2.2 2), wB E (bd 3) ((fX6_need β η σ a b).2.2.2 3), wB E (bd 4) ((fX6_need β η σ a b).2.2.2 4), wB E (bd 5) ((fX6_need β η σ a b).2.2.2 5), wB E (bd 6) ((fX6_need β η σ a b).2.2.2 6), wB E (bd 7) ((fX6_need β η σ a b).2.2.2 7), wB E (bd 8) ((fX6_need β η σ a b).2.2.2 8), wB E (bd 9) ((fX6_need β η σ a b).2.2.2 9), wM E am μ, wO E ao o]) (st1 := [.int 1]) [.ref ax, .int a, .int b, .ref ao] [0, 1, 2, 3, 4, 5, 6, 7, 8, 9, 10, 11, 12, 13, 15] (kL_need_0 l E ax bo β tr τ ac γ ah bd η σ at_ θ ao o hlt hvb hvh a b hr) q4_3 q1_0 (by decide +kernel) q4_2 q4_1 rfl ⟨Nat.le_of_ble_eq_true rfl, Nat.le_of_ble_eq_true rfl⟩ ⟨hk, hn⟩ (by decide) rfl rfl rfl rfl (Nat.le_of_ble_eq_true rfl) dL_law_566 rfl ?_
    refine g_istore C (lv1 := [(5, .int 1), (0, .ref b0), (1, .ref ax), (2, .ref (am 0)), (3, .ref ao), (4, .int (nI i))]) dL_law_569 (by decide) rfl ?_
    refine g_aload_n C dL_law_571 rfl 3 rfl ?_
    refine g_aload_n C dL_law_572 rfl 1 rfl ?_
    refine g_iload C dL_law_573 5 rfl ?_
    refine g_iconst C (v := 1) dL_law_575 (by decide) ?_
    refine g_iadd C dL_law_576 ?_
    refine g_sldv C S (i + 1) (nx_add (rfl : nI i = nI i) (rfl : (1 : Int32) = nI 1)) (by omega) ha9 dL_law_577 ?_
    refine g_aload_n C dL_law_578 rfl 1 rfl ?_
    refine g_iload C dL_law_579 5 rfl ?_
    refine g_iconst C (v := 2) dL_law_581 (by decide) ?_
    refine g_iadd C dL_law_582 ?_
    refine g_sldv C S (i + 2) (nx_add (rfl : nI i = nI i) (rfl : (2 : Int32) = nI 2)) (by omega) hb9 dL_law_583 ?_
    refine g_callV C (cs1 := [wX ax (bo 0) (tr 0) (ac 0) (ah 0) (at_ 0), wB E bo ((fX6_need β η σ a b).2.1), wB E tr τ, wC E ac γ, wH E ah bd ((fX6_need β η σ a b).2.2.1), wT E at_ θ, wB E (bd 2) ((fX6_need β η σ a b).2.2.2 2), wB E (bd 3) ((fX6_need β η σ a b).2.2.2 3), wB E (bd 4) ((fX6_need β η σ a b).2.2.2 4), wB E (bd 5) ((fX6_need β η σ a b).2.2.2 5), wB E (bd 6) ((fX6_need β η σ a b).2.2.2 6), wB E (bd 7) ((fX6_need β η σ a b).2.2.2 7), wB E (bd 8) ((fX6_need β η σ a b).2.2.2 8), wB E (bd 9) ((fX6_need β η σ a b).2.2.2 9), wM E am ((fX7_need μ a b).2), wO E ao o]) (st1 := [.int ((fX7_need μ a b).1)]) [.int a, .int b] [14] (kX7_need l E am μ hvm a b) caX7_need q6_171 rfl ⟨Nat.le_of_ble_eq_true rfl, Nat.le_of_ble_eq_true rfl⟩ ⟨hk, hn⟩ 14 0 rfl rfl rfl rfl (by decide) rfl rfl rfl rfl (Nat.le_of_ble_eq_true rfl) dL_law_584 rfl ?_
    refine g_istore C (lv1 := [(6, .int ((fX7_need μ a b).1)), (5, .int 1), (0, .ref b0), (1, .ref ax), (2, .ref (am 0)), (3, .ref ao), (4, .int (nI i))]) dL_law_587 (by decide) rfl ?_
    refine g_aload_n C dL_law_589 rfl 4 rfl ?_
    refine g_callV C (cs1 := [wX ax (bo 0) (tr 0) (ac 0) (ah 0) (at_ 0), wB E bo ((fX6_need β η σ a b).2.1), wB E tr τ, wC E ac γ, wH E ah bd ((fX6_need β η σ a b).2.2.1), wT E at_ θ, wB E (bd 2) ((fX6_need β η σ a b).2.2.2 2), wB E (bd 3) ((fX6_need β η σ a b).2.2.2 3), wB E (bd 4) ((fX6_need β η σ a b).2.2.2 4), wB E (bd 5) ((fX6_need β η σ a b).2.2.2 5), wB E (bd 6) ((fX6_need β η σ a b).2.2.2 6), wB E (bd 7) ((fX6_need β η σ a b).2.2.2 7), wB E (bd 8) ((fX6_need β η σ a b).2.2.2 8), wB E (bd 9) ((fX6_need β η σ a b).2.2.2 9), wM E am ((fX7_need μ a b).2), wO E ao o]) (st1 := [.int (fX7_thrown ((fX7_need μ a b).2))]) [] [14] (kX7_thrown l E am ((fX7_need μ a b).2)) caX7_thrown q6_116 rfl ⟨Nat.le_of_ble_eq_true rfl, Nat.le_of_ble_eq_true rfl⟩ ⟨hk, hn⟩ 14 0 rfl rfl rfl rfl (by decide) rfl rfl rfl rfl (Nat.le_of_ble_eq_true rfl) dL_law_590 rfl ?_
    refine g_iload C dL_law_593 1 rfl ?_
    refine g_icmp_eq C 600 dL_law_595 (by decide) (fun _ => ?_) (fun c => absurd ht c)
    refine g_iload C dL_law_600 1 rfl ?_
    refine g_if_ne C 617 dL_law_602 (by decide) (fun _ => ?_) (fun c => absurd c (by decide))
    refine g_goto C 3840 dL_law_617 (by decide) ?_
    exact g_sub [2, 3, 4, 5, 6] rfl (next ((fX6_need β η σ a b).2.1) τ γ ((fX6_need β η σ a b).2.2.1) ((fX6_need β η σ a b).2.2.2) θ ((fX7_need μ a b).2) o hR2)
  · skip
    refine g_aload_n C dL_law_552 rfl 1 rfl ?_
    refine g_aload_n C dL_law_553 rfl 0 rfl ?_
    refine g_iload C dL_law_554 4 rfl ?_
    refine g_iconst C (v := 1) dL_law_556 (by decide) ?_
    refine g_iadd C dL_law_557 ?_
    refine g_sldv C S (i + 1) (nx_add (rfl : nI i = nI i) (rfl : (1 : Int32) = nI 1)) (by omega) ha9 dL_law_558 ?_
    refine g_aload_n C dL_law_559 rfl 0 rfl ?_
    refine g_iload C dL_law_560 4 rfl ?_
    refine g_iconst C (v := 2) dL_law_562 (by decide) ?_
    refine g_iadd C dL_law_563 ?_
    refine g_sldv C S (i + 2) (nx_add (rfl : nI i = nI i) (rfl : (2 : Int32) = nI 2)) (by omega) hb9 dL_law_564 ?_
    refine g_aload_n C dL_law_565 rfl 3 rfl ?_
    refine g_callSW C hZ hNc (z := 4) (cs1 := [wX ax (bo 0) (tr 0) (ac 0) (ah 0) (at_ 0), wB E bo ((fX6_need β η σ a b).2.1), wB E tr τ, wC E ac γ, wH E ah bd ((fX6_need β η σ a b).2.2.1), wT E at_ θ, wB E (bd 2) ((fX6_need β η σ a b).2.2.2 2), wB E (bd 3) ((fX6_need β η σ a b).2.2.2 3), wB E (bd 4) ((fX6_need β η σ a b).2.2.2 4), wB E (bd 5) ((fX6_need β η σ a b).2.2.2 5), wB E (bd 6) ((fX6_need β η σ a b).2.2.2 6), wB E (bd 7) ((fX6_need β η σ a b).2.2.2 7), wB E (bd 8) ((fX6_need β η σ a b).2.2.2 8), wB E (bd 9) ((fX6_need β η σ a b).2.2.2 9), wM E am μ, wO E ao o]) (st1 := [.int 2]) [.ref ax, .int a, .int b, .ref ao] [0, 1, 2, 3, 4, 5, 6, 7, 8, 9, 10, 11, 12, 13, 15] (kL_need_1 l E ax bo β tr τ ac γ ah bd η σ at_ θ ao o hlt hvb hvh a b hr) q4_3 q1_0 (by decide +kernel) q4_2 q4_1 rfl ⟨Nat.le_of_ble_eq_true rfl, Nat.le_of_ble_eq_true rfl⟩ ⟨hk, hn⟩ (by decide) rfl rfl rfl rfl (Nat.le_of_ble_eq_true rfl) dL_law_566 rfl ?_
    refine g_istore C (lv1 := [(5, .int 2), (0, .ref b0), (1, .ref ax), (2, .ref (am 0)), (3, .ref ao), (4, .int (nI i))]) dL_law_569 (by decide) rfl ?_
    refine g_aload_n C dL_law_571 rfl 3 rfl ?_
    refine g_aload_n C dL_law_572 rfl 1 rfl ?_
    refine g_iload C dL_law_573 5 rfl ?_
    refine g_iconst C (v := 1) dL_law_575 (by decide) ?_
    refine g_iadd C dL_law_576 ?_
    refine g_sldv C S (i + 1) (nx_add (rfl : nI i = nI i) (rfl : (1 : Int32) = nI 1)) (by omega) ha9 dL_law_577 ?_
    refine g_aload_n C dL_law_578 rfl 1 rfl ?_
    refine g_iload C dL_law_579 5 rfl ?_
    refine g_iconst C (v := 2) dL_law_581 (by decide) ?_
    refine g_iadd C dL_law_582 ?_
    refine g_sldv C S (i + 2) (nx_add (rfl : nI i = nI i) (rfl : (2 : Int32) = nI 2)) (by omega) hb9 dL_law_583 ?_
    refine g_callV C (cs1 := [wX ax (bo 0) (tr 0) (ac 0) (ah 0) (at_ 0), wB E bo ((fX6_need β η σ a b).2.1), wB E tr τ, wC E ac γ, wH E ah bd ((fX6_need β η σ a b).2.2.1), wT E at_ θ, wB E (bd 2) ((fX6_need β η σ a b).2.2.2 2), wB E (bd 3) ((fX6_need β η σ a b).2.2.2 3), wB E (bd 4) ((fX6_need β η σ a b).2.2.2 4), wB E (bd 5) ((fX6_need β η σ a b).2.2.2 5), wB E (bd 6) ((fX6_need β η σ a b).2.2.2 6), wB E (bd 7) ((fX6_need β η σ a b).2.2.2 7), wB E (bd 8) ((fX6_need β η σ a b).2.2.2 8), wB E (bd 9) ((fX6_need β η σ a b).2.2.2 9), wM E am ((fX7_need μ a b).2), wO E ao o]) (st1 := [.int ((fX7_need μ a b).1)]) [.int a, .int b] [14] (kX7_need l E am μ hvm a b) caX7_need q6_171 rfl ⟨Nat.le_of_ble_eq_true rfl, Nat.le_of_ble_eq_true rfl⟩ ⟨hk, hn⟩ 14 0 rfl rfl rfl rfl (by decide) rfl rfl rfl rfl (Nat.le_of_ble_eq_true rfl) dL_law_584 rfl ?_
    refine g_istore C (lv1 := [(6, .int ((fX7_need μ a b).1)), (5, .int 2), (0, .ref b0), (1, .ref ax), (2, .ref (am 0)), (3, .ref ao), (4, .int (nI i))]) dL_law_587 (by decide) rfl ?_
    refine g_aload_n C dL_law_589 rfl 4 rfl ?_
    refine g_callV C (cs1 := [wX ax (bo 0) (tr 0) (ac 0) (ah 0) (at_ 0), wB E bo ((fX6_need β η σ a b).2.1), wB E tr τ, wC E ac γ, wH E ah bd ((fX6_need β η σ a b).2.2.1), wT E at_ θ, wB E (bd 2) ((fX6_need β η σ a b).2.2.2 2), wB E (bd 3) ((fX6_need β η σ a b).2.2.2 3), wB E (bd 4) ((fX6_need β η σ a b).2.2.2 4), wB E (bd 5) ((fX6_need β η σ a b).2.2.2 5), wB E (bd 6) ((fX6_need β η σ a b).2.2.2 6), wB E (bd 7) ((fX6_need β η σ a b).2.2.2 7), wB E (bd 8) ((fX6_need β η σ a b).2.2.2 8), wB E (bd 9) ((fX6_need β η σ a b).2.2.2 9), wM E am ((fX7_need μ a b).2), wO E ao o]) (st1 := [.int (fX7_thrown ((fX7_need μ a b).2))]) [] [14] (kX7_thrown l E am ((fX7_need μ a b).2)) caX7_thrown q6_116 rfl ⟨Nat.le_of_ble_eq_true rfl, Nat.le_of_ble_eq_true rfl⟩ ⟨hk, hn⟩ 14 0 rfl rfl rfl rfl (by decide) rfl rfl rfl rfl (Nat.le_of_ble_eq_true rfl) dL_law_590 rfl ?_
    refine g_iload C dL_law_593 1 rfl ?_
    refine g_icmp_eq C 600 dL_law_595 (by decide) (fun _ => ?_) (fun c => absurd ht c)
    refine g_iload C dL_law_600 1 rfl ?_
    refine g_if_ne C 617 dL_law_602 (by decide) (fun _ => ?_) (fun c => absurd c (by decide))
    refine g_goto C 3840 dL_law_617 (by decide) ?_
    exact g_sub [2, 3, 4, 5, 6] rfl (next ((fX6_need β η σ a b).2.1) τ γ ((fX6_need β η σ a b).2.2.1) ((fX6_need β η σ a b).2.2.2) θ ((fX7_need μ a b).2) o hR2)
  · skip
    refine g_aload_n C dL_law_552 rfl 1 rfl ?_
    refine g_aload_n C dL_law_553 rfl 0 rfl ?_
    refine g_iload C dL_law_554 4 rfl ?_
    refine g_iconst C (v := 1) dL_law_556 (by decide) ?_
    refine g_iadd C dL_law_557 ?_
    refine g_sldv C S (i + 1) (nx_add (rfl : nI i = nI i) (rfl : (1 : Int32) = nI 1)) (by omega) ha9 dL_law_558 ?_
    refine g_aload_n C dL_law_559 rfl 0 rfl ?_
    refine g_iload C dL_law_560 4 rfl ?_
    refine g_iconst C (v := 2) dL_law_562 (by decide) ?_
    refine g_iadd C dL_law_563 ?_
    refine g_sldv C S (i + 2) (nx_add (rfl : nI i = nI i) (rfl : (2 : Int32) = nI 2)) (by omega) hb9 dL_law_564 ?_
    refine g_aload_n C dL_law_565 rfl 3 rfl ?_
    refine g_callSW C hZ hNc (z := 4) (cs1 := [wX ax (bo 0) (tr 0) (ac 0) (ah 0) (at_ 0), wB E bo ((fX6_need β η σ a b).2.1), wB E tr τ, wC E ac γ, wH E ah bd ((fX6_need β η σ a b).2.2.1), wT E at_ θ, wB E (bd 2) ((fX6_need β η σ a b).2.2.2 2), wB E (bd 3) ((fX6_need β η σ a b).2.2.2 3), wB E (bd 4) ((fX6_need β η σ a b).2.2.2 4), wB E (bd 5) ((fX6_need β η σ a b).2.2.2 5), wB E (bd 6) ((fX6_need β η σ a b).2.2.2 6), wB E (bd 7) ((fX6_need β η σ a b).2.2.2 7), wB E (bd 8) ((fX6_need β η σ a b).2.2.2 8), wB E (bd 9) ((fX6_need β η σ a b).2.2.2 9), wM E am μ, wO E ao o]) (st1 := [.int 3]) [.ref ax, .int a, .int b, .ref ao] [0, 1, 2, 3, 4, 5, 6, 7, 8, 9, 10, 11, 12, 13, 15] (kL_need_2 l E ax bo β tr τ ac γ ah bd η σ at_ θ ao o hlt hvb hvh a b hr) q4_3 q1_0 (by decide +kernel) q4_2 q4_1 rfl ⟨Nat.le_of_ble_eq_true rfl, Nat.le_of_ble_eq_true rfl⟩ ⟨hk, hn⟩ (by decide) rfl rfl rfl rfl (Nat.le_of_ble_eq_true rfl) dL_law_566 rfl ?_
    refine g_istore C (lv1 := [(5, .int 3), (0, .ref b0), (1, .ref ax), (2, .ref (am 0)), (3, .ref ao), (4, .int (nI i))]) dL_law_569 (by decide) rfl ?_
    refine g_aload_n C dL_law_571 rfl 3 rfl ?_
    refine g_aload_n C dL_law_572 rfl 1 rfl ?_
    refine g_iload C dL_law_573 5 rfl ?_
    refine g_iconst C (v := 1) dL_law_575 (by decide) ?_
    refine g_iadd C dL_law_576 ?_
    refine g_sldv C S (i + 1) (nx_add (rfl : nI i = nI i) (rfl : (1 : Int32) = nI 1)) (by omega) ha9 dL_law_577 ?_
    refine g_aload_n C dL_law_578 rfl 1 rfl ?_
    refine g_iload C dL_law_579 5 rfl ?_
    refine g_iconst C (v := 2) dL_law_581 (by decide) ?_
    refine g_iadd C dL_law_582 ?_
    refine g_sldv C S (i + 2) (nx_add (rfl : nI i = nI i) (rfl : (2 : Int32) = nI 2)) (by omega) hb9 dL_law_583 ?_
    refine g_callV C (cs1 := [wX ax (bo 0) (tr 0) (ac 0) (ah 0) (at_ 0), wB E bo ((fX6_need β η σ a b).2.1), wB E tr τ, wC E ac γ, wH E ah bd ((fX6_need β η σ a b).2.2.1), wT E at_ θ, wB E (bd 2) ((fX6_need β η σ a b).2.2.2 2), wB E (bd 3) ((fX6_need β η σ a b).2.2.2 3), wB E (bd 4) ((fX6_need β η σ a b).2.2.2 4), wB E (bd 5) ((fX6_need β η σ a b).2.2.2 5), wB E (bd 6) ((fX6_need β η σ a b).2.2.2 6), wB E (bd 7) ((fX6_need β η σ a b).2.2.2 7), wB E (bd 8) ((fX6_need β η σ a b).2.2.2 8), wB E (bd 9) ((fX6_need β η σ a b).2.2.2 9), wM E am ((fX7_need μ a b).2), wO E ao o]) (st1 := [.int ((fX7_need μ a b).1)]) [.int a, .int b] [14] (kX7_need l E am μ hvm a b) caX7_need q6_171 rfl ⟨Nat.le_of_ble_eq_true rfl, Nat.le_of_ble_eq_true rfl⟩ ⟨hk, hn⟩ 14 0 rfl rfl rfl rfl (by decide) rfl rfl rfl rfl (Nat.le_of_ble_eq_true rfl) dL_law_584 rfl ?_
    refine g_istore C (lv1 := [(6, .int ((fX7_need μ a b).1)), (5, .int 3), (0, .ref b0), (1, .ref ax), (2, .ref (am 0)), (3, .ref ao), (4, .int (nI i))]) dL_law_587 (by decide) rfl ?_
    refine g_aload_n C dL_law_589 rfl 4 rfl ?_
    refine g_callV C (cs1 := [wX ax (bo 0) (tr 0) (ac 0) (ah 0) (at_ 0), wB E bo ((fX6_need β η σ a b).2.1), wB E tr τ, wC E ac γ, wH E ah bd ((fX6_need β η σ a b).2.2.1), wT E at_ θ, wB E (bd 2) ((fX6_need β η σ a b).2.2.2 2), wB E (bd 3) ((fX6_need β η σ a b).2.2.2 3), wB E (bd 4) ((fX6_need β η σ a b).2.2.2 4), wB E (bd 5) ((fX6_need β η σ a b).2.2.2 5), wB E (bd 6) ((fX6_need β η σ a b).2.2.2 6), wB E (bd 7) ((fX6_need β η σ a b).2.2.2 7), wB E (bd 8) ((fX6_need β η σ a b).2.2.2 8), wB E (bd 9) ((fX6_need β η σ a b).2.2.2 9), wM E am ((fX7_need μ a b).2), wO E ao o]) (st1 := [.int (fX7_thrown ((fX7_need μ a b).2))]) [] [14] (kX7_thrown l E am ((fX7_need μ a b).2)) caX7_thrown q6_116 rfl ⟨Nat.le_of_ble_eq_true rfl, Nat.le_of_ble_eq_true rfl⟩ ⟨hk, hn⟩ 14 0 rfl rfl rfl rfl (by decide) rfl rfl rfl rfl (Nat.le_of_ble_eq_true rfl) dL_law_590 rfl ?_
    refine g_iload C dL_law_593 1 rfl ?_
    refine g_icmp_eq C 600 dL_law_595 (by decide) (fun _ => ?_) (fun c => absurd ht c)
    refine g_iload C dL_law_600 1 rfl ?_
    refine g_if_ne C 617 dL_law_602 (by decide) (fun _ => ?_) (fun c => absurd c (by decide))
    refine g_goto C 3840 dL_law_617 (by decide) ?_
    exact g_sub [2, 3, 4, 5, 6] rfl (next ((fX6_need β η σ a b).2.1) τ γ ((fX6_need β η σ a b).2.2.1) ((fX6_need β η σ a b).2.2.2) θ ((fX7_need μ a b).2) o hR2)
set_option maxHeartbeats 4000000 in
set_option maxRecDepth 100000 in
theorem arm_4 {Rl : RlT} (hRv : RlV Rl) (hs : sH_release Rl)  {X : gX} {l : Launch} {E : gE} (C : gC X cL_law 9 RL (some .boolean) l E room_1) (hZ : gZ X.2.2.2.2.2.2.2.2.2.2.2.1 X.2.2.2.2.1 X.2.2.2.2.1.heap) (hNc : gNc X.2.2.2.2.1) {b0 L0 : Nat} {xs : Nat → Int32} (S : gS X b0 L0 xs) (hlt : l.stackTraces = false) {ax : Nat} {bo tr ac ah : Nat → Nat} {bd : Nat → Nat → Nat} {at_ am : Nat → Nat} {ao k n i : Nat} (hk : k + 3 ≤ 601024) (hn : n + 18 ≤ 7293034) (hi : i + 3 ≤ L0) {β τ γ η : BS} {σ : Nat → BS} {θ μ : BS} {o : Nat → Int64} (hR : Rl β η θ σ μ) (next : ∀ (β τ γ η : BS) (σ : Nat → BS) (θ μ : BS) (o : Nat → Int64), Rl β η θ σ μ → G X (k + 3) (n + 18) [wX ax (bo 0) (tr 0) (ac 0) (ah 0) (at_ 0), wB E bo β, wB E tr τ, wC E ac γ, wH E ah bd η, wT E at_ θ, wB E (bd 2) (σ 2), wB E (bd 3) (σ 3), wB E (bd 4) (σ 4), wB E (bd 5) (σ 5), wB E (bd 6) (σ 6), wB E (bd 7) (σ 7), wB E (bd 8) (σ 8), wB E (bd 9) (σ 9), wM E am μ, wO E ao o] [(0, .ref b0), (1, .ref ax), (2, .ref (am 0)), (3, .ref ao), (4, .int (nI i))] 3840 []) : G X k n [wX ax (bo 0) (tr 0) (ac 0) (ah 0) (at_ 0), wB E bo β, wB E tr τ, wC E ac γ, wH E ah bd η, wT E at_ θ, wB E (bd 2) (σ 2), wB E (bd 3) (σ 3), wB E (bd 4) (σ 4), wB E (bd 5) (σ 5), wB E (bd 6) (σ 6), wB E (bd 7) (σ 7), wB E (bd 8) (σ 8), wB E (bd 9) (σ 9), wM E am μ, wO E ao o] [(0, .ref b0), (1, .ref ax), (2, .ref (am 0)), (3, .ref ao), (4, .int (nI i))] 620 [] := by
  obtain ⟨hvb, hvh, hvt, hvm, ha⟩ := hRv β η θ σ μ hR
  obtain ⟨a, ha9⟩ : ∃ a, xs (i + 1) = a := ⟨_, rfl⟩
  obtain ⟨b, hb9⟩ : ∃ b, xs (i + 2) = b := ⟨_, rfl⟩
  obtain ⟨hag, hR2⟩ := hs β τ γ η σ θ μ a b hR
  rcases hag with ⟨hr, ht⟩ | ⟨hr, ht⟩ | ⟨hr, ht⟩
  · skip
    refine g_aload_n C dL_law_620 rfl 1 rfl ?_
    refine g_aload_n C dL_law_621 rfl 0 rfl ?_
    refine g_iload C dL_law_622 4 rfl ?_
    refine g_iconst C (v := 1) dL_law_624 (by decide) ?_
    refine g_iadd C dL_law_625 ?_
    refine g_sldv C S (i + 1) (nx_add (rfl : nI i = nI i) (rfl : (1 : Int32) = nI 1)) (by omega) ha9 dL_law_626 ?_
    refine g_aload_n C dL_law_627 rfl 0 rfl ?_
    refine g_iload C dL_law_628 4 rfl ?_
    refine g_iconst C (v := 2) dL_law_630 (by decide) ?_
    refine g_iadd C dL_law_631 ?_
    refine g_sldv C S (i + 2) (nx_add (rfl : nI i = nI i) (rfl : (2 : Int32) = nI 2)) (by omega) hb9 dL_law_632 ?_
    refine g_aload_n C dL_law_633 rfl 3 rfl ?_
    refine g_callSW C hZ hNc (z := 4) (cs1 := [wX ax (bo 0) (tr 0) (ac 0) (ah 0) (at_ 0), wB E bo ((fX6_release β η σ a b).2.1), wB E tr τ, wC E ac γ, wH E ah bd ((fX6_release β η σ a b).2.2.1), wT E at_ θ, wB E (bd 2) ((fX6_release β η σ a b).2.2.2 2), wB E (bd 3) ((fX6_release β η σ a b).2.2.2 3), wB E (bd 4) ((fX6_release β η σ a b).2.2.2 4), wB E (bd 5) ((fX6_release β η σ a b).2.2.2 5), wB E (bd 6) ((fX6_release β η σ a b).2.2.2 6), wB E (bd 7) ((fX6_release β η σ a b).2.2.2 7), wB E (bd 8) ((fX6_release β η σ a b).2.2.2 8), wB E (bd 9) ((fX6_release β η σ a b).2.2.2 9), wM E am μ, wO E ao (vp_updL o 0 ((fX7_release μ a b).1).toInt64)]) (st1 := [.int 0]) [.ref ax, .int a, .int b, .ref ao] [0, 1, 2, 3, 4, 5, 6, 7, 8, 9, 10, 11, 12, 13, 15] (kL_release_r l E ax bo β tr τ ac γ ah bd η σ at_ θ ao o hlt hvb hvh a b ((fX7_release μ a b).1) hr) q4_21 q1_0 (by decide +kernel) q4_20 q4_19 rfl ⟨Nat.le_of_ble_eq_true rfl, Nat.le_of_ble_eq_true rfl⟩ ⟨hk, hn⟩ (by decide) rfl rfl rfl rfl (Nat.le_of_ble_eq_true rfl) dL_law_634 rfl ?_
    refine g_istore C (lv1 := [(5, .int 0), (0, .ref b0), (1, .ref ax), (2, .ref (am 0)), (3, .ref ao), (4, .int (nI i))]) dL_law_637 (by decide) rfl ?_
    refine g_aload_n C dL_law_639 rfl 3 rfl ?_
    refine g_aload_n C dL_law_640 rfl 1 rfl ?_
    refine g_iload C dL_law_641 5 rfl ?_
    refine g_iconst C (v := 1) dL_law_643 (by decide) ?_
    refine g_iadd C dL_law_644 ?_
    refine g_sldv C S (i + 1) (nx_add (rfl : nI i = nI i) (rfl : (1 : Int32) = nI 1)) (by omega) ha9 dL_law_645 ?_
    refine g_aload_n C dL_law_646 rfl 1 rfl ?_
    refine g_iload C dL_law_647 5 rfl ?_
    refine g_iconst C (v := 2) dL_law_649 (by decide) ?_
    refine g_iadd C dL_law_650 ?_
    refine g_sldv C S (i + 2) (nx_add (rfl : nI i = nI i) (rfl : (2 : Int32) = nI 2)) (by omega) hb9 dL_law_651 ?_
    refine g_callV C (cs1 := [wX ax (bo 0) (tr 0) (ac 0) (ah 0) (at_ 0), wB E bo ((fX6_release β η σ a b).2.1), wB E tr τ, wC E ac γ, wH E ah bd ((fX6_release β η σ a b).2.2.1), wT E at_ θ, wB E (bd 2) ((fX6_release β η σ a b).2.2.2 2), wB E (bd 3) ((fX6_release β η σ a b).2.2.2 3), wB E (bd 4) ((fX6_release β η σ a b).2.2.2 4), wB E (bd 5) ((fX6_release β η σ a b).2.2.2 5), wB E (bd 6) ((fX6_release β η σ a b).2.2.2 6), wB E (bd 7) ((fX6_release β η σ a b).2.2.2 7), wB E (bd 8) ((fX6_release β η σ a b).2.2.2 8), wB E (bd 9) ((fX6_release β η σ a b).2.2.2 9), wM E am ((fX7_release μ a b).2), wO E ao (vp_updL o 0 ((fX7_release μ a b).1).toInt64)]) (st1 := [.int ((fX7_release μ a b).1)]) [.int a, .int b] [14] (kX7_release l E am μ hvm a b) caX7_release q6_194 rfl ⟨Nat.le_of_ble_eq_true rfl, Nat.le_of_ble_eq_true rfl⟩ ⟨hk, hn⟩ 14 0 rfl rfl rfl rfl (by decide) rfl rfl rfl rfl (Nat.le_of_ble_eq_true rfl) dL_law_652 rfl ?_
    refine g_istore C (lv1 := [(6, .int ((fX7_release μ a b).1)), (5, .int 0), (0, .ref b0), (1, .ref ax), (2, .ref (am 0)), (3, .ref ao), (4, .int (nI i))]) dL_law_655 (by decide) rfl ?_
    refine g_aload_n C dL_law_657 rfl 4 rfl ?_
    refine g_callV C (cs1 := [wX ax (bo 0) (tr 0) (ac 0) (ah 0) (at_ 0), wB E bo ((fX6_release β η σ a b).2.1), wB E tr τ, wC E ac γ, wH E ah bd ((fX6_release β η σ a b).2.2.1), wT E at_ θ, wB E (bd 2) ((fX6_release β η σ a b).2.2.2 2), wB E (bd 3) ((fX6_release β η σ a b).2.2.2 3), wB E (bd 4) ((fX6_release β η σ a b).2.2.2 4), wB E (bd 5) ((fX6_release β η σ a b).2.2.2 5), wB E (bd 6) ((fX6_release β η σ a b).2.2.2 6), wB E (bd 7) ((fX6_release β η σ a b).2.2.2 7), wB E (bd 8) ((fX6_release β η σ a b).2.2.2 8), wB E (bd 9) ((fX6_release β η σ a b).2.2.2 9), wM E am ((fX7_release μ a b).2), wO E ao (vp_updL o 0 ((fX7_release μ a b).1).toInt64)]) (st1 := [.int (fX7_thrown ((fX7_release μ a b).2))]) [] [14] (kX7_thrown l E am ((fX7_release μ a b).2)) caX7_thrown q6_116 rfl ⟨Nat.le_of_ble_eq_true rfl, Nat.le_of_ble_eq_true rfl⟩ ⟨hk, hn⟩ 14 0 rfl rfl rfl rfl (by decide) rfl rfl rfl rfl (Nat.le_of_ble_eq_true rfl) dL_law_658 rfl ?_
    refine g_iload C dL_law_661 1 rfl ?_
    refine g_icmp_eq C 668 dL_law_663 (by decide) (fun _ => ?_) (fun c => absurd ht c)
    refine g_iload C dL_law_668 1 rfl ?_
    refine g_if_ne C 685 dL_law_670 (by decide) (fun c => absurd rfl c) (fun _ => ?_)
    refine g_aload_n C dL_law_673 rfl 5 rfl ?_
    refine g_iconst C (v := 0) dL_law_674 (by decide) ?_
    refine g_laldn C 15 0 0 rfl rfl rfl (by decide) (by decide) dL_law_675 ?_
    refine g_iload C dL_law_676 0 rfl ?_
    refine g_i2l C dL_law_678 ?_
    refine g_lcmp C dL_law_679 ?_
    refine g_if_eq C 685 dL_law_680 (by decide) (fun _ => ?_) (fun c => absurd law_cmp c)
    refine g_goto C 3840 dL_law_685 (by decide) ?_
    exact g_sub [2, 3, 4, 5, 6] rfl (next ((fX6_release β η σ a b).2.1) τ γ ((fX6_release β η σ a b).2.2.1) ((fX6_release β η σ a b).2.2.2) θ ((fX7_release μ a b).2) (vp_updL o 0 ((fX7_release μ a b).1).toInt64) hR2)
  · skip
    refine g_aload_n C dL_law_620 rfl 1 rfl ?_
    refine g_aload_n C dL_law_621 rfl 0 rfl ?_
    refine g_iload C dL_law_622 4 rfl ?_
    refine g_iconst C (v := 1) dL_law_624 (by decide) ?_
    refine g_iadd C dL_law_625 ?_
    refine g_sldv C S (i + 1) (nx_add (rfl : nI i = nI i) (rfl : (1 : Int32) = nI 1)) (by omega) ha9 dL_law_626 ?_
    refine g_aload_n C dL_law_627 rfl 0 rfl ?_
    refine g_iload C dL_law_628 4 rfl ?_
    refine g_iconst C (v := 2) dL_law_630 (by decide) ?_
    refine g_iadd C dL_law_631 ?_
    refine g_sldv C S (i + 2) (nx_add (rfl : nI i = nI i) (rfl : (2 : Int32) = nI 2)) (by omega) hb9 dL_law_632 ?_
    refine g_aload_n C dL_law_633 rfl 3 rfl ?_
    refine g_callSW C hZ hNc (z := 4) (cs1 := [wX ax (bo 0) (tr 0) (ac 0) (ah 0) (at_ 0), wB E bo ((fX6_release β η σ a b).2.1), wB E tr τ, wC E ac γ, wH E ah bd ((fX6_release β η σ a b).2.2.1), wT E at_ θ, wB E (bd 2) ((fX6_release β η σ a b).2.2.2 2), wB E (bd 3) ((fX6_release β η σ a b).2.2.2 3), wB E (bd 4) ((fX6_release β η σ a b).2.2.2 4), wB E (bd 5) ((fX6_release β η σ a b).2.2.2 5), wB E (bd 6) ((fX6_release β η σ a b).2.2.2 6), wB E (bd 7) ((fX6_release β η σ a b).2.2.2 7), wB E (bd 8) ((fX6_release β η σ a b).2.2.2 8), wB E (bd 9) ((fX6_release β η σ a b).2.2.2 9), wM E am μ, wO E ao o]) (st1 := [.int 1]) [.ref ax, .int a, .int b, .ref ao] [0, 1, 2, 3, 4, 5, 6, 7, 8, 9, 10, 11, 12, 13, 15] (kL_release_0 l E ax bo β tr τ ac γ ah bd η σ at_ θ ao o hlt hvb hvh a b hr) q4_21 q1_0 (by decide +kernel) q4_20 q4_19 rfl ⟨Nat.le_of_ble_eq_true rfl, Nat.le_of_ble_eq_true rfl⟩ ⟨hk, hn⟩ (by decide) rfl rfl rfl rfl (Nat.le_of_ble_eq_true rfl) dL_law_634 rfl ?_
    refine g_istore C (lv1 := [(5, .int 1), (0, .ref b0), (1, .ref ax), (2, .ref (am 0)), (3, .ref ao), (4, .int (nI i))]) dL_law_637 (by decide) rfl ?_
    refine g_aload_n C dL_law_639 rfl 3 rfl ?_
    refine g_aload_n C dL_law_640 rfl 1 rfl ?_
    refine g_iload C dL_law_641 5 rfl ?_
    refine g_iconst C (v := 1) dL_law_643 (by decide) ?_
    refine g_iadd C dL_law_644 ?_
    refine g_sldv C S (i + 1) (nx_add (rfl : nI i = nI i) (rfl : (1 : Int32) = nI 1)) (by omega) ha9 dL_law_645 ?_
    refine g_aload_n C dL_law_646 rfl 1 rfl ?_
    refine g_iload C dL_law_647 5 rfl ?_
    refine g_iconst C (v := 2) dL_law_649 (by decide) ?_
    refine g_iadd C dL_law_650 ?_
    refine g_sldv C S (i + 2) (nx_add (rfl : nI i = nI i) (rfl : (2 : Int32) = nI 2)) (by omega) hb9 dL_law_651 ?_
    refine g_callV C (cs1 := [wX ax (bo 0) (tr 0) (ac 0) (ah 0) (at_ 0), wB E bo ((fX6_release β η σ a b).2.1), wB E tr τ, wC E ac γ, wH E ah bd ((fX6_release β η σ a b).2.2.1), wT E at_ θ, wB E (bd 2) ((fX6_release β η σ a b).2.2.2 2), wB E (bd 3) ((fX6_release β η σ a b).2.2.2 3), wB E (bd 4) ((fX6_release β η σ a b).2.2.2 4), wB E (bd 5) ((fX6_release β η σ a b).2.2.2 5), wB E (bd 6) ((fX6_release β η σ a b).2.2.2 6), wB E (bd 7) ((fX6_release β η σ a b).2.2.2 7), wB E (bd 8) ((fX6_release β η σ a b).2.2.2 8), wB E (bd 9) ((fX6_release β η σ a b).2.2.2 9), wM E am ((fX7_release μ a b).2), wO E ao o]) (st1 := [.int ((fX7_release μ a b).1)]) [.int a, .int b] [14] (kX7_release l E am μ hvm a b) caX7_release q6_194 rfl ⟨Nat.le_of_ble_eq_true rfl, Nat.le_of_ble_eq_true rfl⟩ ⟨hk, hn⟩ 14 0 rfl rfl rfl rfl (by decide) rfl rfl rfl rfl (Nat.le_of_ble_eq_true rfl) dL_law_652 rfl ?_
    refine g_istore C (lv1 := [(6, .int ((fX7_release μ a b).1)), (5, .int 1), (0, .ref b0), (1, .ref ax), (2, .ref (am 0)), (3, .ref ao), (4, .int (nI i))]) dL_law_655 (by decide) rfl ?_
    refine g_aload_n C dL_law_657 rfl 4 rfl ?_
    refine g_callV C (cs1 := [wX ax (bo 0) (tr 0) (ac 0) (ah 0) (at_ 0), wB E bo ((fX6_release β η σ a b).2.1), wB E tr τ, wC E ac γ, wH E ah bd ((fX6_release β η σ a b).2.2.1), wT E at_ θ, wB E (bd 2) ((fX6_release β η σ a b).2.2.2 2), wB E (bd 3) ((fX6_release β η σ a b).2.2.2 3), wB E (bd 4) ((fX6_release β η σ a b).2.2.2 4), wB E (bd 5) ((fX6_release β η σ a b).2.2.2 5), wB E (bd 6) ((fX6_release β η σ a b).2.2.2 6), wB E (bd 7) ((fX6_release β η σ a b).2.2.2 7), wB E (bd 8) ((fX6_release β η σ a b).2.2.2 8), wB E (bd 9) ((fX6_release β η σ a b).2.2.2 9), wM E am ((fX7_release μ a b).2), wO E ao o]) (st1 := [.int (fX7_thrown ((fX7_release μ a b).2))]) [] [14] (kX7_thrown l E am ((fX7_release μ a b).2)) caX7_thrown q6_116 rfl ⟨Nat.le_of_ble_eq_true rfl, Nat.le_of_ble_eq_true rfl⟩ ⟨hk, hn⟩ 14 0 rfl rfl rfl rfl (by decide) rfl rfl rfl rfl (Nat.le_of_ble_eq_true rfl) dL_law_658 rfl ?_
    refine g_iload C dL_law_661 1 rfl ?_
    refine g_icmp_eq C 668 dL_law_663 (by decide) (fun _ => ?_) (fun c => absurd ht c)
    refine g_iload C dL_law_668 1 rfl ?_
    refine g_if_ne C 685 dL_law_670 (by decide) (fun _ => ?_) (fun c => absurd c (by decide))
    refine g_goto C 3840 dL_law_685 (by decide) ?_
    exact g_sub [2, 3, 4, 5, 6] rfl (next ((fX6_release β η σ a b).2.1) τ γ ((fX6_release β η σ a b).2.2.1) ((fX6_release β η σ a b).2.2.2) θ ((fX7_release μ a b).2) o hR2)
  · skip
    refine g_aload_n C dL_law_620 rfl 1 rfl ?_
    refine g_aload_n C dL_law_621 rfl 0 rfl ?_
    refine g_iload C dL_law_622 4 rfl ?_
    refine g_iconst C (v := 1) dL_law_624 (by decide) ?_
    refine g_iadd C dL_law_625 ?_
    refine g_sldv C S (i + 1) (nx_add (rfl : nI i = nI i) (rfl : (1 : Int32) = nI 1)) (by omega) ha9 dL_law_626 ?_
    refine g_aload_n C dL_law_627 rfl 0 rfl ?_
    refine g_iload C dL_law_628 4 rfl ?_
    refine g_iconst C (v := 2) dL_law_630 (by decide) ?_
    refine g_iadd C dL_law_631 ?_
    refine g_sldv C S (i + 2) (nx_add (rfl : nI i = nI i) (rfl : (2 : Int32) = nI 2)) (by omega) hb9 dL_law_632 ?_
    refine g_aload_n C dL_law_633 rfl 3 rfl ?_
    refine g_callSW C hZ hNc (z := 4) (cs1 := [wX ax (bo 0) (tr 0) (ac 0) (ah 0) (at_ 0), wB E bo ((fX6_release β η σ a b).2.1), wB E tr τ, wC E ac γ, wH E ah bd ((fX6_release β η σ a b).2.2.1), wT E at_ θ, wB E (bd 2) ((fX6_release β η σ a b).2.2.2 2), wB E (bd 3) ((fX6_release β η σ a b).2.2.2 3), wB E (bd 4) ((fX6_release β η σ a b).2.2.2 4), wB E (bd 5) ((fX6_release β η σ a b).2.2.2 5), wB E (bd 6) ((fX6_release β η σ a b).2.2.2 6), wB E (bd 7) ((fX6_release β η σ a b).2.2.2 7), wB E (bd 8) ((fX6_release β η σ a b).2.2.2 8), wB E (bd 9) ((fX6_release β η σ a b).2.2.2 9), wM E am μ, wO E ao o]) (st1 := [.int 2]) [.ref ax, .int a, .int b, .ref ao] [0, 1, 2, 3, 4, 5, 6, 7, 8, 9, 10, 11, 12, 13, 15] (kL_release_1 l E ax bo β tr τ ac γ ah bd η σ at_ θ ao o hlt hvb hvh a b hr) q4_21 q1_0 (by decide +kernel) q4_20 q4_19 rfl ⟨Nat.le_of_ble_eq_true rfl, Nat.le_of_ble_eq_true rfl⟩ ⟨hk, hn⟩ (by decide) rfl rfl rfl rfl (Nat.le_of_ble_eq_true rfl) dL_law_634 rfl ?_
    refine g_istore C (lv1 := [(5, .int 2), (0, .ref b0), (1, .ref ax), (2, .ref (am 0)), (3, .ref ao), (4, .int (nI i))]) dL_law_637 (by decide) rfl ?_
    refine g_aload_n C dL_law_639 rfl 3 rfl ?_
    refine g_aload_n C dL_law_640 rfl 1 rfl ?_
    refine g_iload C dL_law_641 5 rfl ?_
    refine g_iconst C (v := 1) dL_law_643 (by decide) ?_
    refine g_iadd C dL_law_644 ?_
    refine g_sldv C S (i + 1) (nx_add (rfl : nI i = nI i) (rfl : (1 : Int32) = nI 1)) (by omega) ha9 dL_law_645 ?_
    refine g_aload_n C dL_law_646 rfl 1 rfl ?_
    refine g_iload C dL_law_647 5 rfl ?_
    refine g_iconst C (v := 2) dL_law_649 (by decide) ?_
    refine g_iadd C dL_law_650 ?_
    refine g_sldv C S (i + 2) (nx_add (rfl : nI i = nI i) (rfl : (2 : Int32) = nI 2)) (by omega) hb9 dL_law_651 ?_
    refine g_callV C (cs1 := [wX ax (bo 0) (tr 0) (ac 0) (ah 0) (at_ 0), wB E bo ((fX6_release β η σ a b).2.1), wB E tr τ, wC E ac γ, wH E ah bd ((fX6_release β η σ a b).2.2.1), wT E at_ θ, wB E (bd 2) ((fX6_release β η σ a b).2.2.2 2), wB E (bd 3) ((fX6_release β η σ a b).2.2.2 3), wB E (bd 4) ((fX6_release β η σ a b).2.2.2 4), wB E (bd 5) ((fX6_release β η σ a b).2.2.2 5), wB E (bd 6) ((fX6_release β η σ a b).2.2.2 6), wB E (bd 7) ((fX6_release β η σ a b).2.2.2 7), wB E (bd 8) ((fX6_release β η σ a b).2.2.2 8), wB E (bd 9) ((fX6_release β η σ a b).2.2.2 9), wM E am ((fX7_release μ a b).2), wO E ao o]) (st1 := [.int ((fX7_release μ a b).1)]) [.int a, .int b] [14] (kX7_release l E am μ hvm a b) caX7_release q6_194 rfl ⟨Nat.le_of_ble_eq_true rfl, Nat.le_of_ble_eq_true rfl⟩ ⟨hk, hn⟩ 14 0 rfl rfl rfl rfl (by decide) rfl rfl rfl rfl (Nat.le_of_ble_eq_true rfl) dL_law_652 rfl ?_
    refine g_istore C (lv1 := [(6, .int ((fX7_release μ a b).1)), (5, .int 2), (0, .ref b0), (1, .ref ax), (2, .ref (am 0)), (3, .ref ao), (4, .int (nI i))]) dL_law_655 (by decide) rfl ?_
    refine g_aload_n C dL_law_657 rfl 4 rfl ?_
    refine g_callV C (cs1 := [wX ax (bo 0) (tr 0) (ac 0) (ah 0) (at_ 0), wB E bo ((fX6_release β η σ a b).2.1), wB E tr τ, wC E ac γ, wH E ah bd ((fX6_release β η σ a b).2.2.1), wT E at_ θ, wB E (bd 2) ((fX6_release β η σ a b).2.2.2 2), wB E (bd 3) ((fX6_release β η σ a b).2.2.2 3), wB E (bd 4) ((fX6_release β η σ a b).2.2.2 4), wB E (bd 5) ((fX6_release β η σ a b).2.2.2 5), wB E (bd 6) ((fX6_release β η σ a b).2.2.2 6), wB E (bd 7) ((fX6_release β η σ a b).2.2.2 7), wB E (bd 8) ((fX6_release β η σ a b).2.2.2 8), wB E (bd 9) ((fX6_release β η σ a b).2.2.2 9), wM E am ((fX7_release μ a b).2), wO E ao o]) (st1 := [.int (fX7_thrown ((fX7_release μ a b).2))]) [] [14] (kX7_thrown l E am ((fX7_release μ a b).2)) caX7_thrown q6_116 rfl ⟨Nat.le_of_ble_eq_true rfl, Nat.le_of_ble_eq_true rfl⟩ ⟨hk, hn⟩ 14 0 rfl rfl rfl rfl (by decide) rfl rfl rfl rfl (Nat.le_of_ble_eq_true rfl) dL_law_658 rfl ?_
    refine g_iload C dL_law_661 1 rfl ?_
    refine g_icmp_eq C 668 dL_law_663 (by decide) (fun _ => ?_) (fun c => absurd ht c)
    refine g_iload C dL_law_668 1 rfl ?_
    refine g_if_ne C 685 dL_law_670 (by decide) (fun _ => ?_) (fun c => absurd c (by decide))
    refine g_goto C 3840 dL_law_685 (by decide) ?_
    exact g_sub [2, 3, 4, 5, 6] rfl (next ((fX6_release β η σ a b).2.1) τ γ ((fX6_release β η σ a b).2.2.1) ((fX6_release β η σ a b).2.2.2) θ ((fX7_release μ a b).2) o hR2)
set_option maxHeartbeats 4000000 in
set_option maxRecDepth 100000 in
theorem arm_5 {Rl : RlT} (hRv : RlV Rl) (hs : sH_assign Rl)  {X : gX} {l : Launch} {E : gE} (C : gC X cL_law 9 RL (some .boolean) l E room_1) (hZ : gZ X.2.2.2.2.2.2.2.2.2.2.2.1 X.2.2.2.2.1 X.2.2.2.2.1.heap) (hNc : gNc X.2.2.2.2.1) {b0 L0 : Nat} {xs : Nat → Int32} (S : gS X b0 L0 xs) (hlt : l.stackTraces = false) {ax : Nat} {bo tr ac ah : Nat → Nat} {bd : Nat → Nat → Nat} {at_ am : Nat → Nat} {ao k n i : Nat} (hk : k + 3 ≤ 601024) (hn : n + 18 ≤ 7293034) (hi : i + 3 ≤ L0) {β τ γ η : BS} {σ : Nat → BS} {θ μ : BS} {o : Nat → Int64} (hR : Rl β η θ σ μ) (next : ∀ (β τ γ η : BS) (σ : Nat → BS) (θ μ : BS) (o : Nat → Int64), Rl β η θ σ μ → G X (k + 3) (n + 18) [wX ax (bo 0) (tr 0) (ac 0) (ah 0) (at_ 0), wB E bo β, wB E tr τ, wC E ac γ, wH E ah bd η, wT E at_ θ, wB E (bd 2) (σ 2), wB E (bd 3) (σ 3), wB E (bd 4) (σ 4), wB E (bd 5) (σ 5), wB E (bd 6) (σ 6), wB E (bd 7) (σ 7), wB E (bd 8) (σ 8), wB E (bd 9) (σ 9), wM E am μ, wO E ao o] [(0, .ref b0), (1, .ref ax), (2, .ref (am 0)), (3, .ref ao), (4, .int (nI i))] 3840 []) : G X k n [wX ax (bo 0) (tr 0) (ac 0) (ah 0) (at_ 0), wB E bo β, wB E tr τ, wC E ac γ, wH E ah bd η, wT E at_ θ, wB E (bd 2) (σ 2), wB E (bd 3) (σ 3), wB E (bd 4) (σ 4), wB E (bd 5) (σ 5), wB E (bd 6) (σ 6), wB E (bd 7) (σ 7), wB E (bd 8) (σ 8), wB E (bd 9) (σ 9), wM E am μ, wO E ao o] [(0, .ref b0), (1, .ref ax), (2, .ref (am 0)), (3, .ref ao), (4, .int (nI i))] 688 [] := by
  obtain ⟨hvb, hvh, hvt, hvm, ha⟩ := hRv β η θ σ μ hR
  obtain ⟨a, ha9⟩ : ∃ a, xs (i + 1) = a := ⟨_, rfl⟩
  obtain ⟨b, hb9⟩ : ∃ b, xs (i + 2) = b := ⟨_, rfl⟩
  obtain ⟨hag, hR2⟩ := hs β τ γ η σ θ μ a b hR
  rcases hag with ⟨hr, ht⟩ | ⟨hr, ht⟩ | ⟨hr, ht⟩
  · skip
    refine g_aload_n C dL_law_688 rfl 1 rfl ?_
    refine g_aload_n C dL_law_689 rfl 0 rfl ?_
    refine g_iload C dL_law_690 4 rfl ?_
    refine g_iconst C (v := 1) dL_law_692 (by decide) ?_
    refine g_iadd C dL_law_693 ?_
    refine g_sldv C S (i + 1) (nx_add (rfl : nI i = nI i) (rfl : (1 : Int32) = nI 1)) (by omega) ha9 dL_law_694 ?_
    refine g_aload_n C dL_law_695 rfl 0 rfl ?_
    refine g_iload C dL_law_696 4 rfl ?_
    refine g_iconst C (v := 2) dL_law_698 (by decide) ?_
    refine g_iadd C dL_law_699 ?_
    refine g_sldv C S (i + 2) (nx_add (rfl : nI i = nI i) (rfl : (2 : Int32) = nI 2)) (by omega) hb9 dL_law_700 ?_
    refine g_aload_n C dL_law_701 rfl 3 rfl ?_
    refine g_callSW C hZ hNc (z := 4) (cs1 := [wX ax (bo 0) (tr 0) (ac 0) (ah 0) (at_ 0), wB E bo ((fX6_assign β η σ a b).2.1), wB E tr τ, wC E ac γ, wH E ah bd ((fX6_assign β η σ a b).2.2.1), wT E at_ θ, wB E (bd 2) ((fX6_assign β η σ a b).2.2.2 2), wB E (bd 3) ((fX6_assign β η σ a b).2.2.2 3), wB E (bd 4) ((fX6_assign β η σ a b).2.2.2 4), wB E (bd 5) ((fX6_assign β η σ a b).2.2.2 5), wB E (bd 6) ((fX6_assign β η σ a b).2.2.2 6), wB E (bd 7) ((fX6_assign β η σ a b).2.2.2 7), wB E (bd 8) ((fX6_assign β η σ a b).2.2.2 8), wB E (bd 9) ((fX6_assign β η σ a b).2.2.2 9), wM E am μ, wO E ao (vp_updL o 0 ((fX7_assign μ a b).1).toInt64)]) (st1 := [.int 0]) [.ref ax, .int a, .int b, .ref ao] [0, 1, 2, 3, 4, 5, 6, 7, 8, 9, 10, 11, 12, 13, 15] (kL_assign_r l E ax bo β tr τ ac γ ah bd η σ at_ θ ao o hlt hvb hvh a b ((fX7_assign μ a b).1) hr) q4_32 q1_0 (by decide +kernel) q4_31 q4_30 rfl ⟨Nat.le_of_ble_eq_true rfl, Nat.le_of_ble_eq_true rfl⟩ ⟨hk, hn⟩ (by decide) rfl rfl rfl rfl (Nat.le_of_ble_eq_true rfl) dL_law_702 rfl ?_
    refine g_istore C (lv1 := [(5, .int 0), (0, .ref b0), (1, .ref ax), (2, .ref (am 0)), (3, .ref ao), (4, .int (nI i))]) dL_law_705 (by decide) rfl ?_
    refine g_aload_n C dL_law_707 rfl 3 rfl ?_
    refine g_aload_n C dL_law_708 rfl 1 rfl ?_
    refine g_iload C dL_law_709 5 rfl ?_
    refine g_iconst C (v := 1) dL_law_711 (by decide) ?_
    refine g_iadd C dL_law_712 ?_
    refine g_sldv C S (i + 1) (nx_add (rfl : nI i = nI i) (rfl : (1 : Int32) = nI 1)) (by omega) ha9 dL_law_713 ?_
    refine g_aload_n C dL_law_714 rfl 1 rfl ?_
    refine g_iload C dL_law_715 5 rfl ?_
    refine g_iconst C (v := 2) dL_law_717 (by decide) ?_
    refine g_iadd C dL_law_718 ?_
    refine g_sldv C S (i + 2) (nx_add (rfl : nI i = nI i) (rfl : (2 : Int32) = nI 2)) (by omega) hb9 dL_law_719 ?_
    refine g_callV C (cs1 := [wX ax (bo 0) (tr 0) (ac 0) (ah 0) (at_ 0), wB E bo ((fX6_assign β η σ a b).2.1), wB E tr τ, wC E ac γ, wH E ah bd ((fX6_assign β η σ a b).2.2.1), wT E at_ θ, wB E (bd 2) ((fX6_assign β η σ a b).2.2.2 2), wB E (bd 3) ((fX6_assign β η σ a b).2.2.2 3), wB E (bd 4) ((fX6_assign β η σ a b).2.2.2 4), wB E (bd 5) ((fX6_assign β η σ a b).2.2.2 5), wB E (bd 6) ((fX6_assign β η σ a b).2.2.2 6), wB E (bd 7) ((fX6_assign β η σ a b).2.2.2 7), wB E (bd 8) ((fX6_assign β η σ a b).2.2.2 8), wB E (bd 9) ((fX6_assign β η σ a b).2.2.2 9), wM E am ((fX7_assign μ a b).2), wO E ao (vp_updL o 0 ((fX7_assign μ a b).1).toInt64)]) (st1 := [.int ((fX7_assign μ a b).1)]) [.int a, .int b] [14] (kX7_assign l E am μ hvm a b) caX7_assign q6_198 rfl ⟨Nat.le_of_ble_eq_true rfl, Nat.le_of_ble_eq_true rfl⟩ ⟨hk, hn⟩ 14 0 rfl rfl rfl rfl (by decide) rfl rfl rfl rfl (Nat.le_of_ble_eq_true rfl) dL_law_720 rfl ?_
    refine g_istore C (lv1 := [(6, .int ((fX7_assign μ a b).1)), (5, .int 0), (0, .ref b0), (1, .ref ax), (2, .ref (am 0)), (3, .ref ao), (4, .int (nI i))]) dL_law_723 (by decide) rfl ?_
    refine g_aload_n C dL_law_725 rfl 4 rfl ?_
    refine g_callV C (cs1 := [wX ax (bo 0) (tr 0) (ac 0) (ah 0) (at_ 0), wB E bo ((fX6_assign β η σ a b).2.1), wB E tr τ, wC E ac γ, wH E ah bd ((fX6_assign β η σ a b).2.2.1), wT E at_ θ, wB E (bd 2) ((fX6_assign β η σ a b).2.2.2 2), wB E (bd 3) ((fX6_assign β η σ a b).2.2.2 3), wB E (bd 4) ((fX6_assign β η σ a b).2.2.2 4), wB E (bd 5) ((fX6_assign β η σ a b).2.2.2 5), wB E (bd 6) ((fX6_assign β η σ a b).2.2.2 6), wB E (bd 7) ((fX6_assign β η σ a b).2.2.2 7), wB E (bd 8) ((fX6_assign β η σ a b).2.2.2 8), wB E (bd 9) ((fX6_assign β η σ a b).2.2.2 9), wM E am ((fX7_assign μ a b).2), wO E ao (vp_updL o 0 ((fX7_assign μ a b).1).toInt64)]) (st1 := [.int (fX7_thrown ((fX7_assign μ a b).2))]) [] [14] (kX7_thrown l E am ((fX7_assign μ a b).2)) caX7_thrown q6_116 rfl ⟨Nat.le_of_ble_eq_true rfl, Nat.le_of_ble_eq_true rfl⟩ ⟨hk, hn⟩ 14 0 rfl rfl rfl rfl (by decide) rfl rfl rfl rfl (Nat.le_of_ble_eq_true rfl) dL_law_726 rfl ?_
    refine g_iload C dL_law_729 1 rfl ?_
    refine g_icmp_eq C 736 dL_law_731 (by decide) (fun _ => ?_) (fun c => absurd ht c)
    refine g_iload C dL_law_736 1 rfl ?_
    refine g_if_ne C 753 dL_law_738 (by decide) (fun c => absurd rfl c) (fun _ => ?_)
    refine g_aload_n C dL_law_741 rfl 5 rfl ?_
    refine g_iconst C (v := 0) dL_law_742 (by decide) ?_
    refine g_laldn C 15 0 0 rfl rfl rfl (by decide) (by decide) dL_law_743 ?_
    refine g_iload C dL_law_744 0 rfl ?_
    refine g_i2l C dL_law_746 ?_
    refine g_lcmp C dL_law_747 ?_
    refine g_if_eq C 753 dL_law_748 (by decide) (fun _ => ?_) (fun c => absurd law_cmp c)
    refine g_goto C 3840 dL_law_753 (by decide) ?_
    exact g_sub [2, 3, 4, 5, 6] rfl (next ((fX6_assign β η σ a b).2.1) τ γ ((fX6_assign β η σ a b).2.2.1) ((fX6_assign β η σ a b).2.2.2) θ ((fX7_assign μ a b).2) (vp_updL o 0 ((fX7_assign μ a b).1).toInt64) hR2)
  · skip
    refine g_aload_n C dL_law_688 rfl 1 rfl ?_
    refine g_aload_n C dL_law_689 rfl 0 rfl ?_
    refine g_iload C dL_law_690 4 rfl ?_
    refine g_iconst C (v := 1) dL_law_692 (by decide) ?_
    refine g_iadd C dL_law_693 ?_
    refine g_sldv C S (i + 1) (nx_add (rfl : nI i = nI i) (rfl : (1 : Int32) = nI 1)) (by omega) ha9 dL_law_694 ?_
    refine g_aload_n C dL_law_695 rfl 0 rfl ?_
    refine g_iload C dL_law_696 4 rfl ?_
    refine g_iconst C (v := 2) dL_law_698 (by decide) ?_
    refine g_iadd C dL_law_699 ?_
    refine g_sldv C S (i + 2) (nx_add (rfl : nI i = nI i) (rfl : (2 : Int32) = nI 2)) (by omega) hb9 dL_law_700 ?_
    refine g_aload_n C dL_law_701 rfl 3 rfl ?_
    refine g_callSW C hZ hNc (z := 4) (cs1 := [wX ax (bo 0) (tr 0) (ac 0) (ah 0) (at_ 0), wB E bo ((fX6_assign β η σ a b).2.1), wB E tr τ, wC E ac γ, wH E ah bd ((fX6_assign β η σ a b).2.2.1), wT E at_ θ, wB E (bd 2) ((fX6_assign β η σ a b).2.2.2 2), wB E (bd 3) ((fX6_assign β η σ a b).2.2.2 3), wB E (bd 4) ((fX6_assign β η σ a b).2.2.2 4), wB E (bd 5) ((fX6_assign β η σ a b).2.2.2 5), wB E (bd 6) ((fX6_assign β η σ a b).2.2.2 6), wB E (bd 7) ((fX6_assign β η σ a b).2.2.2 7), wB E (bd 8) ((fX6_assign β η σ a b).2.2.2 8), wB E (bd 9) ((fX6_assign β η σ a b).2.2.2 9), wM E am μ, wO E ao o]) (st1 := [.int 1]) [.ref ax, .int a, .int b, .ref ao] [0, 1, 2, 3, 4, 5, 6, 7, 8, 9, 10, 11, 12, 13, 15] (kL_assign_0 l E ax bo β tr τ ac γ ah bd η σ at_ θ ao o hlt hvb hvh a b hr) q4_32 q1_0 (by decide +kernel) q4_31 q4_30 rfl ⟨Nat.le_of_ble_eq_true rfl, Nat.le_of_ble_eq_true rfl⟩ ⟨hk, hn⟩ (by decide) rfl rfl rfl rfl (Nat.le_of_ble_eq_true rfl) dL_law_702 rfl ?_
    refine g_istore C (lv1 := [(5, .int 1), (0, .ref b0), (1, .ref ax), (2, .ref (am 0)), (3, .ref ao), (4, .int (nI i))]) dL_law_705 (by decide) rfl ?_
    refine g_aload_n C dL_law_707 rfl 3 rfl ?_
    refine g_aload_n C dL_law_708 rfl 1 rfl ?_
    refine g_iload C dL_law_709 5 rfl ?_
    refine g_iconst C (v := 1) dL_law_711 (by decide) ?_
    refine g_iadd C dL_law_712 ?_
    refine g_sldv C S (i + 1) (nx_add (rfl : nI i = nI i) (rfl : (1 : Int32) = nI 1)) (by omega) ha9 dL_law_713 ?_
    refine g_aload_n C dL_law_714 rfl 1 rfl ?_
    refine g_iload C dL_law_715 5 rfl ?_
    refine g_iconst C (v := 2) dL_law_717 (by decide) ?_
    refine g_iadd C dL_law_718 ?_
    refine g_sldv C S (i + 2) (nx_add (rfl : nI i = nI i) (rfl : (2 : Int32) = nI 2)) (by omega) hb9 dL_law_719 ?_
    refine g_callV C (cs1 := [wX ax (bo 0) (tr 0) (ac 0) (ah 0) (at_ 0), wB E bo ((fX6_assign β η σ a b).2.1), wB E tr τ, wC E ac γ, wH E ah bd ((fX6_assign β η σ a b).2.2.1), wT E at_ θ, wB E (bd 2) ((fX6_assign β η σ a b).2.2.2 2), wB E (bd 3) ((fX6_assign β η σ a b).2.2.2 3), wB E (bd 4) ((fX6_assign β η σ a b).2.2.2 4), wB E (bd 5) ((fX6_assign β η σ a b).2.2.2 5), wB E (bd 6) ((fX6_assign β η σ a b).2.2.2 6), wB E (bd 7) ((fX6_assign β η σ a b).2.2.2 7), wB E (bd 8) ((fX6_assign β η σ a b).2.2.2 8), wB E (bd 9) ((fX6_assign β η σ a b).2.2.2 9), wM E am ((fX7_assign μ a b).2), wO E ao o]) (st1 := [.int ((fX7_assign μ a b).1)]) [.int a, .int b] [14] (kX7_assign l E am μ hvm a b) caX7_assign q6_198 rfl ⟨Nat.le_of_ble_eq_true rfl, Nat.le_of_ble_eq_true rfl⟩ ⟨hk, hn⟩ 14 0 rfl rfl rfl rfl (by decide) rfl rfl rfl rfl (Nat.le_of_ble_eq_true rfl) dL_law_720 rfl ?_
    refine g_istore C (lv1 := [(6, .int ((fX7_assign μ a b).1)), (5, .int 1), (0, .ref b0), (1, .ref ax), (2, .ref (am 0)), (3, .ref ao), (4, .int (nI i))]) dL_law_723 (by decide) rfl ?_
    refine g_aload_n C dL_law_725 rfl 4 rfl ?_
    refine g_callV C (cs1 := [wX ax (bo 0) (tr 0) (ac 0) (ah 0) (at_ 0), wB E bo ((fX6_assign β η σ a b).2.1), wB E tr τ, wC E ac γ, wH E ah bd ((fX6_assign β η σ a b).2.2.1), wT E at_ θ, wB E (bd 2) ((fX6_assign β η σ a b).2.2.2 2), wB E (bd 3) ((fX6_assign β η σ a b).2.2.2 3), wB E (bd 4) ((fX6_assign β η σ a b).2.2.2 4), wB E (bd 5) ((fX6_assign β η σ a b).2.2.2 5), wB E (bd 6) ((fX6_assign β η σ a b).2.2.2 6), wB E (bd 7) ((fX6_assign β η σ a b).2.2.2 7), wB E (bd 8) ((fX6_assign β η σ a b).2.2.2 8), wB E (bd 9) ((fX6_assign β η σ a b).2.2.2 9), wM E am ((fX7_assign μ a b).2), wO E ao o]) (st1 := [.int (fX7_thrown ((fX7_assign μ a b).2))]) [] [14] (kX7_thrown l E am ((fX7_assign μ a b).2)) caX7_thrown q6_116 rfl ⟨Nat.le_of_ble_eq_true rfl, Nat.le_of_ble_eq_true rfl⟩ ⟨hk, hn⟩ 14 0 rfl rfl rfl rfl (by decide) rfl rfl rfl rfl (Nat.le_of_ble_eq_true rfl) dL_law_726 rfl ?_
    refine g_iload C dL_law_729 1 rfl ?_
    refine g_icmp_eq C 736 dL_law_731 (by decide) (fun _ => ?_) (fun c => absurd ht c)
    refine g_iload C dL_law_736 1 rfl ?_
    refine g_if_ne C 753 dL_law_738 (by decide) (fun _ => ?_) (fun c => absurd c (by decide))
    refine g_goto C 3840 dL_law_753 (by decide) ?_
    exact g_sub [2, 3, 4, 5, 6] rfl (next ((fX6_assign β η σ a b).2.1) τ γ ((fX6_assign β η σ a b).2.2.1) ((fX6_assign β η σ a b).2.2.2) θ ((fX7_assign μ a b).2) o hR2)
  · skip
    refine g_aload_n C dL_law_688 rfl 1 rfl ?_
    refine g_aload_n C dL_law_689 rfl 0 rfl ?_
    refine g_iload C dL_law_690 4 rfl ?_
    refine g_iconst C (v := 1) dL_law_692 (by decide) ?_
    refine g_iadd C dL_law_693 ?_
    refine g_sldv C S (i + 1) (nx_add (rfl : nI i = nI i) (rfl : (1 : Int32) = nI 1)) (by omega) ha9 dL_law_694 ?_
    refine g_aload_n C dL_law_695 rfl 0 rfl ?_
    refine g_iload C dL_law_696 4 rfl ?_
    refine g_iconst C (v := 2) dL_law_698 (by decide) ?_
    refine g_iadd C dL_law_699 ?_
    refine g_sldv C S (i + 2) (nx_add (rfl : nI i = nI i) (rfl : (2 : Int32) = nI 2)) (by omega) hb9 dL_law_700 ?_
    refine g_aload_n C dL_law_701 rfl 3 rfl ?_
    refine g_callSW C hZ hNc (z := 4) (cs1 := [wX ax (bo 0) (tr 0) (ac 0) (ah 0) (at_ 0), wB E bo ((fX6_assign β η σ a b).2.1), wB E tr τ, wC E ac γ, wH E ah bd ((fX6_assign β η σ a b).2.2.1), wT E at_ θ, wB E (bd 2) ((fX6_assign β η σ a b).2.2.2 2), wB E (bd 3) ((fX6_assign β η σ a b).2.2.2 3), wB E (bd 4) ((fX6_assign β η σ a b).2.2.2 4), wB E (bd 5) ((fX6_assign β η σ a b).2.2.2 5), wB E (bd 6) ((fX6_assign β η σ a b).2.2.2 6), wB E (bd 7) ((fX6_assign β η σ a b).2.2.2 7), wB E (bd 8) ((fX6_assign β η σ a b).2.2.2 8), wB E (bd 9) ((fX6_assign β η σ a b).2.2.2 9), wM E am μ, wO E ao o]) (st1 := [.int 2]) [.ref ax, .int a, .int b, .ref ao] [0, 1, 2, 3, 4, 5, 6, 7, 8, 9, 10, 11, 12, 13, 15] (kL_assign_1 l E ax bo β tr τ ac γ ah bd η σ at_ θ ao o hlt hvb hvh a b hr) q4_32 q1_0 (by decide +kernel) q4_31 q4_30 rfl ⟨Nat.le_of_ble_eq_true rfl, Nat.le_of_ble_eq_true rfl⟩ ⟨hk, hn⟩ (by decide) rfl rfl rfl rfl (Nat.le_of_ble_eq_true rfl) dL_law_702 rfl ?_
    refine g_istore C (lv1 := [(5, .int 2), (0, .ref b0), (1, .ref ax), (2, .ref (am 0)), (3, .ref ao), (4, .int (nI i))]) dL_law_705 (by decide) rfl ?_
    refine g_aload_n C dL_law_707 rfl 3 rfl ?_
    refine g_aload_n C dL_law_708 rfl 1 rfl ?_
    refine g_iload C dL_law_709 5 rfl ?_
    refine g_iconst C (v := 1) dL_law_711 (by decide) ?_
    refine g_iadd C dL_law_712 ?_
    refine g_sldv C S (i + 1) (nx_add (rfl : nI i = nI i) (rfl : (1 : Int32) = nI 1)) (by omega) ha9 dL_law_713 ?_
    refine g_aload_n C dL_law_714 rfl 1 rfl ?_
    refine g_iload C dL_law_715 5 rfl ?_
    refine g_iconst C (v := 2) dL_law_717 (by decide) ?_
    refine g_iadd C dL_law_718 ?_
    refine g_sldv C S (i + 2) (nx_add (rfl : nI i = nI i) (rfl : (2 : Int32) = nI 2)) (by omega) hb9 dL_law_719 ?_
    refine g_callV C (cs1 := [wX ax (bo 0) (tr 0) (ac 0) (ah 0) (at_ 0), wB E bo ((fX6_assign β η σ a b).2.1), wB E tr τ, wC E ac γ, wH E ah bd ((fX6_assign β η σ a b).2.2.1), wT E at_ θ, wB E (bd 2) ((fX6_assign β η σ a b).2.2.2 2), wB E (bd 3) ((fX6_assign β η σ a b).2.2.2 3), wB E (bd 4) ((fX6_assign β η σ a b).2.2.2 4), wB E (bd 5) ((fX6_assign β η σ a b).2.2.2 5), wB E (bd 6) ((fX6_assign β η σ a b).2.2.2 6), wB E (bd 7) ((fX6_assign β η σ a b).2.2.2 7), wB E (bd 8) ((fX6_assign β η σ a b).2.2.2 8), wB E (bd 9) ((fX6_assign β η σ a b).2.2.2 9), wM E am ((fX7_assign μ a b).2), wO E ao o]) (st1 := [.int ((fX7_assign μ a b).1)]) [.int a, .int b] [14] (kX7_assign l E am μ hvm a b) caX7_assign q6_198 rfl ⟨Nat.le_of_ble_eq_true rfl, Nat.le_of_ble_eq_true rfl⟩ ⟨hk, hn⟩ 14 0 rfl rfl rfl rfl (by decide) rfl rfl rfl rfl (Nat.le_of_ble_eq_true rfl) dL_law_720 rfl ?_
    refine g_istore C (lv1 := [(6, .int ((fX7_assign μ a b).1)), (5, .int 2), (0, .ref b0), (1, .ref ax), (2, .ref (am 0)), (3, .ref ao), (4, .int (nI i))]) dL_law_723 (by decide) rfl ?_
    refine g_aload_n C dL_law_725 rfl 4 rfl ?_
    refine g_callV C (cs1 := [wX ax (bo 0) (tr 0) (ac 0) (ah 0) (at_ 0), wB E bo ((fX6_assign β η σ a b).2.1), wB E tr τ, wC E ac γ, wH E ah bd ((fX6_assign β η σ a b).2.2.1), wT E at_ θ, wB E (bd 2) ((fX6_assign β η σ a b).2.2.2 2), wB E (bd 3) ((fX6_assign β η σ a b).2.2.2 3), wB E (bd 4) ((fX6_assign β η σ a b).2.2.2 4), wB E (bd 5) ((fX6_assign β η σ a b).2.2.2 5), wB E (bd 6) ((fX6_assign β η σ a b).2.2.2 6), wB E (bd 7) ((fX6_assign β η σ a b).2.2.2 7), wB E (bd 8) ((fX6_assign β η σ a b).2.2.2 8), wB E (bd 9) ((fX6_assign β η σ a b).2.2.2 9), wM E am ((fX7_assign μ a b).2), wO E ao o]) (st1 := [.int (fX7_thrown ((fX7_assign μ a b).2))]) [] [14] (kX7_thrown l E am ((fX7_assign μ a b).2)) caX7_thrown q6_116 rfl ⟨Nat.le_of_ble_eq_true rfl, Nat.le_of_ble_eq_true rfl⟩ ⟨hk, hn⟩ 14 0 rfl rfl rfl rfl (by decide) rfl rfl rfl rfl (Nat.le_of_ble_eq_true rfl) dL_law_726 rfl ?_
    refine g_iload C dL_law_729 1 rfl ?_
    refine g_icmp_eq C 736 dL_law_731 (by decide) (fun _ => ?_) (fun c => absurd ht c)
    refine g_iload C dL_law_736 1 rfl ?_
    refine g_if_ne C 753 dL_law_738 (by decide) (fun _ => ?_) (fun c => absurd c (by decide))
    refine g_goto C 3840 dL_law_753 (by decide) ?_
    exact g_sub [2, 3, 4, 5, 6] rfl (next ((fX6_assign β η σ a b).2.1) τ γ ((fX6_assign β η σ a b).2.2.1) ((fX6_assign β η σ a b).2.2.2) θ ((fX7_assign μ a b).2) o hR2)
set_option maxHeartbeats 4000000 in
set_option maxRecDepth 100000 in
theorem arm_6 {Rl : RlT} (hRv : RlV Rl) (hs : sH_unassign Rl)  {X : gX} {l : Launch} {E : gE} (C : gC X cL_law 9 RL (some .boolean) l E room_1) (hZ : gZ X.2.2.2.2.2.2.2.2.2.2.2.1 X.2.2.2.2.1 X.2.2.2.2.1.heap) (hNc : gNc X.2.2.2.2.1) {b0 L0 : Nat} {xs : Nat → Int32} (S : gS X b0 L0 xs) (hlt : l.stackTraces = false) {ax : Nat} {bo tr ac ah : Nat → Nat} {bd : Nat → Nat → Nat} {at_ am : Nat → Nat} {ao k n i : Nat} (hk : k + 3 ≤ 601024) (hn : n + 18 ≤ 7293034) (hi : i + 3 ≤ L0) {β τ γ η : BS} {σ : Nat → BS} {θ μ : BS} {o : Nat → Int64} (hR : Rl β η θ σ μ) (next : ∀ (β τ γ η : BS) (σ : Nat → BS) (θ μ : BS) (o : Nat → Int64), Rl β η θ σ μ → G X (k + 3) (n + 18) [wX ax (bo 0) (tr 0) (ac 0) (ah 0) (at_ 0), wB E bo β, wB E tr τ, wC E ac γ, wH E ah bd η, wT E at_ θ, wB E (bd 2) (σ 2), wB E (bd 3) (σ 3), wB E (bd 4) (σ 4), wB E (bd 5) (σ 5), wB E (bd 6) (σ 6), wB E (bd 7) (σ 7), wB E (bd 8) (σ 8), wB E (bd 9) (σ 9), wM E am μ, wO E ao o] [(0, .ref b0), (1, .ref ax), (2, .ref (am 0)), (3, .ref ao), (4, .int (nI i))] 3840 []) : G X k n [wX ax (bo 0) (tr 0) (ac 0) (ah 0) (at_ 0), wB E bo β, wB E tr τ, wC E ac γ, wH E ah bd η, wT E at_ θ, wB E (bd 2) (σ 2), wB E (bd 3) (σ 3), wB E (bd 4) (σ 4), wB E (bd 5) (σ 5), wB E (bd 6) (σ 6), wB E (bd 7) (σ 7), wB E (bd 8) (σ 8), wB E (bd 9) (σ 9), wM E am μ, wO E ao o] [(0, .ref b0), (1, .ref ax), (2, .ref (am 0)), (3, .ref ao), (4, .int (nI i))] 756 [] := by
  obtain ⟨hvb, hvh, hvt, hvm, ha⟩ := hRv β η θ σ μ hR
  obtain ⟨a, ha9⟩ : ∃ a, xs (i + 1) = a := ⟨_, rfl⟩
  obtain ⟨hag, hR2⟩ := hs β τ γ η σ θ μ a hR
  rcases hag with ⟨hr, ht⟩ | ⟨hr, ht⟩ | ⟨hr, ht⟩
  · skip
    refine g_aload_n C dL_law_756 rfl 1 rfl ?_
    refine g_aload_n C dL_law_757 rfl 0 rfl ?_
    refine g_iload C dL_law_758 4 rfl ?_
    refine g_iconst C (v := 1) dL_law_760 (by decide) ?_
    refine g_iadd C dL_law_761 ?_
    refine g_sldv C S (i + 1) (nx_add (rfl : nI i = nI i) (rfl : (1 : Int32) = nI 1)) (by omega) ha9 dL_law_762 ?_
    refine g_aload_n C dL_law_763 rfl 3 rfl ?_
    refine g_callSW C hZ hNc (z := 3) (cs1 := [wX ax (bo 0) (tr 0) (ac 0) (ah 0) (at_ 0), wB E bo ((fX6_unassign β η σ a).2.1), wB E tr τ, wC E ac γ, wH E ah bd ((fX6_unassign β η σ a).2.2.1), wT E at_ θ, wB E (bd 2) ((fX6_unassign β η σ a).2.2.2 2), wB E (bd 3) ((fX6_unassign β η σ a).2.2.2 3), wB E (bd 4) ((fX6_unassign β η σ a).2.2.2 4), wB E (bd 5) ((fX6_unassign β η σ a).2.2.2 5), wB E (bd 6) ((fX6_unassign β η σ a).2.2.2 6), wB E (bd 7) ((fX6_unassign β η σ a).2.2.2 7), wB E (bd 8) ((fX6_unassign β η σ a).2.2.2 8), wB E (bd 9) ((fX6_unassign β η σ a).2.2.2 9), wM E am μ, wO E ao (vp_updL o 0 ((fX7_unassign μ a).1).toInt64)]) (st1 := [.int 0]) [.ref ax, .int a, .ref ao] [0, 1, 2, 3, 4, 5, 6, 7, 8, 9, 10, 11, 12, 13, 15] (kL_unassign_r l E ax bo β tr τ ac γ ah bd η σ at_ θ ao o hlt hvb hvh a ((fX7_unassign μ a).1) hr) q4_50 q1_0 (by decide +kernel) q4_49 q4_48 rfl ⟨Nat.le_of_ble_eq_true rfl, Nat.le_of_ble_eq_true rfl⟩ ⟨hk, hn⟩ (by decide) rfl rfl rfl rfl (Nat.le_of_ble_eq_true rfl) dL_law_764 rfl ?_
    refine g_istore C (lv1 := [(5, .int 0), (0, .ref b0), (1, .ref ax), (2, .ref (am 0)), (3, .ref ao), (4, .int (nI i))]) dL_law_767 (by decide) rfl ?_
    refine g_aload_n C dL_law_769 rfl 3 rfl ?_
    refine g_aload_n C dL_law_770 rfl 1 rfl ?_
    refine g_iload C dL_law_771 5 rfl ?_
    refine g_iconst C (v := 1) dL_law_773 (by decide) ?_
    refine g_iadd C dL_law_774 ?_
    refine g_sldv C S (i + 1) (nx_add (rfl : nI i = nI i) (rfl : (1 : Int32) = nI 1)) (by omega) ha9 dL_law_775 ?_
    refine g_callV C (cs1 := [wX ax (bo 0) (tr 0) (ac 0) (ah 0) (at_ 0), wB E bo ((fX6_unassign β η σ a).2.1), wB E tr τ, wC E ac γ, wH E ah bd ((fX6_unassign β η σ a).2.2.1), wT E at_ θ, wB E (bd 2) ((fX6_unassign β η σ a).2.2.2 2), wB E (bd 3) ((fX6_unassign β η σ a).2.2.2 3), wB E (bd 4) ((fX6_unassign β η σ a).2.2.2 4), wB E (bd 5) ((fX6_unassign β η σ a).2.2.2 5), wB E (bd 6) ((fX6_unassign β η σ a).2.2.2 6), wB E (bd 7) ((fX6_unassign β η σ a).2.2.2 7), wB E (bd 8) ((fX6_unassign β η σ a).2.2.2 8), wB E (bd 9) ((fX6_unassign β η σ a).2.2.2 9), wM E am ((fX7_unassign μ a).2), wO E ao (vp_updL o 0 ((fX7_unassign μ a).1).toInt64)]) (st1 := [.int ((fX7_unassign μ a).1)]) [.int a] [14] (kX7_unassign l E am μ hvm a) caX7_unassign q6_213 rfl ⟨Nat.le_of_ble_eq_true rfl, Nat.le_of_ble_eq_true rfl⟩ ⟨hk, hn⟩ 14 0 rfl rfl rfl rfl (by decide) rfl rfl rfl rfl (Nat.le_of_ble_eq_true rfl) dL_law_776 rfl ?_
    refine g_istore C (lv1 := [(6, .int ((fX7_unassign μ a).1)), (5, .int 0), (0, .ref b0), (1, .ref ax), (2, .ref (am 0)), (3, .ref ao), (4, .int (nI i))]) dL_law_779 (by decide) rfl ?_
    refine g_aload_n C dL_law_781 rfl 4 rfl ?_
    refine g_callV C (cs1 := [wX ax (bo 0) (tr 0) (ac 0) (ah 0) (at_ 0), wB E bo ((fX6_unassign β η σ a).2.1), wB E tr τ, wC E ac γ, wH E ah bd ((fX6_unassign β η σ a).2.2.1), wT E at_ θ, wB E (bd 2) ((fX6_unassign β η σ a).2.2.2 2), wB E (bd 3) ((fX6_unassign β η σ a).2.2.2 3), wB E (bd 4) ((fX6_unassign β η σ a).2.2.2 4), wB E (bd 5) ((fX6_unassign β η σ a).2.2.2 5), wB E (bd 6) ((fX6_unassign β η σ a).2.2.2 6), wB E (bd 7) ((fX6_unassign β η σ a).2.2.2 7), wB E (bd 8) ((fX6_unassign β η σ a).2.2.2 8), wB E (bd 9) ((fX6_unassign β η σ a).2.2.2 9), wM E am ((fX7_unassign μ a).2), wO E ao (vp_updL o 0 ((fX7_unassign μ a).1).toInt64)]) (st1 := [.int (fX7_thrown ((fX7_unassign μ a).2))]) [] [14] (kX7_thrown l E am ((fX7_unassign μ a).2)) caX7_thrown q6_116 rfl ⟨Nat.le_of_ble_eq_true rfl, Nat.le_of_ble_eq_true rfl⟩ ⟨hk, hn⟩ 14 0 rfl rfl rfl rfl (by decide) rfl rfl rfl rfl (Nat.le_of_ble_eq_true rfl) dL_law_782 rfl ?_
    refine g_iload C dL_law_785 1 rfl ?_
    refine g_icmp_eq C 792 dL_law_787 (by decide) (fun _ => ?_) (fun c => absurd ht c)
    refine g_iload C dL_law_792 1 rfl ?_
    refine g_if_ne C 809 dL_law_794 (by decide) (fun c => absurd rfl c) (fun _ => ?_)
    refine g_aload_n C dL_law_797 rfl 5 rfl ?_
    refine g_iconst C (v := 0) dL_law_798 (by decide) ?_
    refine g_laldn C 15 0 0 rfl rfl rfl (by decide) (by decide) dL_law_799 ?_
    refine g_iload C dL_law_800 0 rfl ?_
    refine g_i2l C dL_law_802 ?_
    refine g_lcmp C dL_law_803 ?_
    refine g_if_eq C 809 dL_law_804 (by decide) (fun _ => ?_) (fun c => absurd law_cmp c)
    refine g_goto C 3840 dL_law_809 (by decide) ?_
    exact g_sub [2, 3, 4, 5, 6] rfl (next ((fX6_unassign β η σ a).2.1) τ γ ((fX6_unassign β η σ a).2.2.1) ((fX6_unassign β η σ a).2.2.2) θ ((fX7_unassign μ a).2) (vp_updL o 0 ((fX7_unassign μ a).1).toInt64) hR2)
  · skip
    refine g_aload_n C dL_law_756 rfl 1 rfl ?_
    refine g_aload_n C dL_law_757 rfl 0 rfl ?_
    refine g_iload C dL_law_758 4 rfl ?_
    refine g_iconst C (v := 1) dL_law_760 (by decide) ?_
    refine g_iadd C dL_law_761 ?_
    refine g_sldv C S (i + 1) (nx_add (rfl : nI i = nI i) (rfl : (1 : Int32) = nI 1)) (by omega) ha9 dL_law_762 ?_
    refine g_aload_n C dL_law_763 rfl 3 rfl ?_
    refine g_callSW C hZ hNc (z := 3) (cs1 := [wX ax (bo 0) (tr 0) (ac 0) (ah 0) (at_ 0), wB E bo ((fX6_unassign β η σ a).2.1), wB E tr τ, wC E ac γ, wH E ah bd ((fX6_unassign β η σ a).2.2.1), wT E at_ θ, wB E (bd 2) ((fX6_unassign β η σ a).2.2.2 2), wB E (bd 3) ((fX6_unassign β η σ a).2.2.2 3), wB E (bd 4) ((fX6_unassign β η σ a).2.2.2 4), wB E (bd 5) ((fX6_unassign β η σ a).2.2.2 5), wB E (bd 6) ((fX6_unassign β η σ a).2.2.2 6), wB E (bd 7) ((fX6_unassign β η σ a).2.2.2 7), wB E (bd 8) ((fX6_unassign β η σ a).2.2.2 8), wB E (bd 9) ((fX6_unassign β η σ a).2.2.2 9), wM E am μ, wO E ao o]) (st1 := [.int 1]) [.ref ax, .int a, .ref ao] [0, 1, 2, 3, 4, 5, 6, 7, 8, 9, 10, 11, 12, 13, 15] (kL_unassign_0 l E ax bo β tr τ ac γ ah bd η σ at_ θ ao o hlt hvb hvh a hr) q4_50 q1_0 (by decide +kernel) q4_49 q4_48 rfl ⟨Nat.le_of_ble_eq_true rfl, Nat.le_of_ble_eq_true rfl⟩ ⟨hk, hn⟩ (by decide) rfl rfl rfl rfl (Nat.le_of_ble_eq_true rfl) dL_law_764 rfl ?_
    refine g_istore C (lv1 := [(5, .int 1), (0, .ref b0), (1, .ref ax), (2, .ref (am 0)), (3, .ref ao), (4, .int (nI i))]) dL_law_767 (by decide) rfl ?_
    refine g_aload_n C dL_law_769 rfl 3 rfl ?_
    refine g_aload_n C dL_law_770 rfl 1 rfl ?_
    refine g_iload C dL_law_771 5 rfl ?_
    refine g_iconst C (v := 1) dL_law_773 (by decide) ?_
    refine g_iadd C dL_law_774 ?_
    refine g_sldv C S (i + 1) (nx_add (rfl : nI i = nI i) (rfl : (1 : Int32) = nI 1)) (by omega) ha9 dL_law_775 ?_
    refine g_callV C (cs1 := [wX ax (bo 0) (tr 0) (ac 0) (ah 0) (at_ 0), wB E bo ((fX6_unassign β η σ a).2.1), wB E tr τ, wC E ac γ, wH E ah bd ((fX6_unassign β η σ a).2.2.1), wT E at_ θ, wB E (bd 2) ((fX6_unassign β η σ a).2.2.2 2), wB E (bd 3) ((fX6_unassign β η σ a).2.2.2 3), wB E (bd 4) ((fX6_unassign β η σ a).2.2.2 4), wB E (bd 5) ((fX6_unassign β η σ a).2.2.2 5), wB E (bd 6) ((fX6_unassign β η σ a).2.2.2 6), wB E (bd 7) ((fX6_unassign β η σ a).2.2.2 7), wB E (bd 8) ((fX6_unassign β η σ a).2.2.2 8), wB E (bd 9) ((fX6_unassign β η σ a).2.2.2 9), wM E am ((fX7_unassign μ a).2), wO E ao o]) (st1 := [.int ((fX7_unassign μ a).1)]) [.int a] [14] (kX7_unassign l E am μ hvm a) caX7_unassign q6_213 rfl ⟨Nat.le_of_ble_eq_true rfl, Nat.le_of_ble_eq_true rfl⟩ ⟨hk, hn⟩ 14 0 rfl rfl rfl rfl (by decide) rfl rfl rfl rfl (Nat.le_of_ble_eq_true rfl) dL_law_776 rfl ?_
    refine g_istore C (lv1 := [(6, .int ((fX7_unassign μ a).1)), (5, .int 1), (0, .ref b0), (1, .ref ax), (2, .ref (am 0)), (3, .ref ao), (4, .int (nI i))]) dL_law_779 (by decide) rfl ?_
    refine g_aload_n C dL_law_781 rfl 4 rfl ?_
    refine g_callV C (cs1 := [wX ax (bo 0) (tr 0) (ac 0) (ah 0) (at_ 0), wB E bo ((fX6_unassign β η σ a).2.1), wB E tr τ, wC E ac γ, wH E ah bd ((fX6_unassign β η σ a).2.2.1), wT E at_ θ, wB E (bd 2) ((fX6_unassign β η σ a).2.2.2 2), wB E (bd 3) ((fX6_unassign β η σ a).2.2.2 3), wB E (bd 4) ((fX6_unassign β η σ a).2.2.2 4), wB E (bd 5) ((fX6_unassign β η σ a).2.2.2 5), wB E (bd 6) ((fX6_unassign β η σ a).2.2.2 6), wB E (bd 7) ((fX6_unassign β η σ a).2.2.2 7), wB E (bd 8) ((fX6_unassign β η σ a).2.2.2 8), wB E (bd 9) ((fX6_unassign β η σ a).2.2.2 9), wM E am ((fX7_unassign μ a).2), wO E ao o]) (st1 := [.int (fX7_thrown ((fX7_unassign μ a).2))]) [] [14] (kX7_thrown l E am ((fX7_unassign μ a).2)) caX7_thrown q6_116 rfl ⟨Nat.le_of_ble_eq_true rfl, Nat.le_of_ble_eq_true rfl⟩ ⟨hk, hn⟩ 14 0 rfl rfl rfl rfl (by decide) rfl rfl rfl rfl (Nat.le_of_ble_eq_true rfl) dL_law_782 rfl ?_
    refine g_iload C dL_law_785 1 rfl ?_
    refine g_icmp_eq C 792 dL_law_787 (by decide) (fun _ => ?_) (fun c => absurd ht c)
    refine g_iload C dL_law_792 1 rfl ?_
    refine g_if_ne C 809 dL_law_794 (by decide) (fun _ => ?_) (fun c => absurd c (by decide))
    refine g_goto C 3840 dL_law_809 (by decide) ?_
    exact g_sub [2, 3, 4, 5, 6] rfl (next ((fX6_unassign β η σ a).2.1) τ γ ((fX6_unassign β η σ a).2.2.1) ((fX6_unassign β η σ a).2.2.2) θ ((fX7_unassign μ a).2) o hR2)
  · skip
    refine g_aload_n C dL_law_756 rfl 1 rfl ?_
    refine g_aload_n C dL_law_757 rfl 0 rfl ?_
    refine g_iload C dL_law_758 4 rfl ?_
    refine g_iconst C (v := 1) dL_law_760 (by decide) ?_
    refine g_iadd C dL_law_761 ?_
    refine g_sldv C S (i + 1) (nx_add (rfl : nI i = nI i) (rfl : (1 : Int32) = nI 1)) (by omega) ha9 dL_law_762 ?_
    refine g_aload_n C dL_law_763 rfl 3 rfl ?_
    refine g_callSW C hZ hNc (z := 3) (cs1 := [wX ax (bo 0) (tr 0) (ac 0) (ah 0) (at_ 0), wB E bo ((fX6_unassign β η σ a).2.1), wB E tr τ, wC E ac γ, wH E ah bd ((fX6_unassign β η σ a).2.2.1), wT E at_ θ, wB E (bd 2) ((fX6_unassign β η σ a).2.2.2 2), wB E (bd 3) ((fX6_unassign β η σ a).2.2.2 3), wB E (bd 4) ((fX6_unassign β η σ a).2.2.2 4), wB E (bd 5) ((fX6_unassign β η σ a).2.2.2 5), wB E (bd 6) ((fX6_unassign β η σ a).2.2.2 6), wB E (bd 7) ((fX6_unassign β η σ a).2.2.2 7), wB E (bd 8) ((fX6_unassign β η σ a).2.2.2 8), wB E (bd 9) ((fX6_unassign β η σ a).2.2.2 9), wM E am μ, wO E ao o]) (st1 := [.int 2]) [.ref ax, .int a, .ref ao] [0, 1, 2, 3, 4, 5, 6, 7, 8, 9, 10, 11, 12, 13, 15] (kL_unassign_1 l E ax bo β tr τ ac γ ah bd η σ at_ θ ao o hlt hvb hvh a hr) q4_50 q1_0 (by decide +kernel) q4_49 q4_48 rfl ⟨Nat.le_of_ble_eq_true rfl, Nat.le_of_ble_eq_true rfl⟩ ⟨hk, hn⟩ (by decide) rfl rfl rfl rfl (Nat.le_of_ble_eq_true rfl) dL_law_764 rfl ?_
    refine g_istore C (lv1 := [(5, .int 2), (0, .ref b0), (1, .ref ax), (2, .ref (am 0)), (3, .ref ao), (4, .int (nI i))]) dL_law_767 (by decide) rfl ?_
    refine g_aload_n C dL_law_769 rfl 3 rfl ?_
    refine g_aload_n C dL_law_770 rfl 1 rfl ?_
    refine g_iload C dL_law_771 5 rfl ?_
    refine g_iconst C (v := 1) dL_law_773 (by decide) ?_
    refine g_iadd C dL_law_774 ?_
    refine g_sldv C S (i + 1) (nx_add (rfl : nI i = nI i) (rfl : (1 : Int32) = nI 1)) (by omega) ha9 dL_law_775 ?_
    refine g_callV C (cs1 := [wX ax (bo 0) (tr 0) (ac 0) (ah 0) (at_ 0), wB E bo ((fX6_unassign β η σ a).2.1), wB E tr τ, wC E ac γ, wH E ah bd ((fX6_unassign β η σ a).2.2.1), wT E at_ θ, wB E (bd 2) ((fX6_unassign β η σ a).2.2.2 2), wB E (bd 3) ((fX6_unassign β η σ a).2.2.2 3), wB E (bd 4) ((fX6_unassign β η σ a).2.2.2 4), wB E (bd 5) ((fX6_unassign β η σ a).2.2.2 5), wB E (bd 6) ((fX6_unassign β η σ a).2.2.2 6), wB E (bd 7) ((fX6_unassign β η σ a).2.2.2 7), wB E (bd 8) ((fX6_unassign β η σ a).2.2.2 8), wB E (bd 9) ((fX6_unassign β η σ a).2.2.2 9), wM E am ((fX7_unassign μ a).2), wO E ao o]) (st1 := [.int ((fX7_unassign μ a).1)]) [.int a] [14] (kX7_unassign l E am μ hvm a) caX7_unassign q6_213 rfl ⟨Nat.le_of_ble_eq_true rfl, Nat.le_of_ble_eq_true rfl⟩ ⟨hk, hn⟩ 14 0 rfl rfl rfl rfl (by decide) rfl rfl rfl rfl (Nat.le_of_ble_eq_true rfl) dL_law_776 rfl ?_
    refine g_istore C (lv1 := [(6, .int ((fX7_unassign μ a).1)), (5, .int 2), (0, .ref b0), (1, .ref ax), (2, .ref (am 0)), (3, .ref ao), (4, .int (nI i))]) dL_law_779 (by decide) rfl ?_
    refine g_aload_n C dL_law_781 rfl 4 rfl ?_
    refine g_callV C (cs1 := [wX ax (bo 0) (tr 0) (ac 0) (ah 0) (at_ 0), wB E bo ((fX6_unassign β η σ a).2.1), wB E tr τ, wC E ac γ, wH E ah bd ((fX6_unassign β η σ a).2.2.1), wT E at_ θ, wB E (bd 2) ((fX6_unassign β η σ a).2.2.2 2), wB E (bd 3) ((fX6_unassign β η σ a).2.2.2 3), wB E (bd 4) ((fX6_unassign β η σ a).2.2.2 4), wB E (bd 5) ((fX6_unassign β η σ a).2.2.2 5), wB E (bd 6) ((fX6_unassign β η σ a).2.2.2 6), wB E (bd 7) ((fX6_unassign β η σ a).2.2.2 7), wB E (bd 8) ((fX6_unassign β η σ a).2.2.2 8), wB E (bd 9) ((fX6_unassign β η σ a).2.2.2 9), wM E am ((fX7_unassign μ a).2), wO E ao o]) (st1 := [.int (fX7_thrown ((fX7_unassign μ a).2))]) [] [14] (kX7_thrown l E am ((fX7_unassign μ a).2)) caX7_thrown q6_116 rfl ⟨Nat.le_of_ble_eq_true rfl, Nat.le_of_ble_eq_true rfl⟩ ⟨hk, hn⟩ 14 0 rfl rfl rfl rfl (by decide) rfl rfl rfl rfl (Nat.le_of_ble_eq_true rfl) dL_law_782 rfl ?_
    refine g_iload C dL_law_785 1 rfl ?_
    refine g_icmp_eq C 792 dL_law_787 (by decide) (fun _ => ?_) (fun c => absurd ht c)
    refine g_iload C dL_law_792 1 rfl ?_
    refine g_if_ne C 809 dL_law_794 (by decide) (fun _ => ?_) (fun c => absurd c (by decide))
    refine g_goto C 3840 dL_law_809 (by decide) ?_
    exact g_sub [2, 3, 4, 5, 6] rfl (next ((fX6_unassign β η σ a).2.1) τ γ ((fX6_unassign β η σ a).2.2.1) ((fX6_unassign β η σ a).2.2.2) θ ((fX7_unassign μ a).2) o hR2)
set_option maxHeartbeats 4000000 in
set_option maxRecDepth 100000 in
theorem arm_7 {Rl : RlT} (hRv : RlV Rl) (hs : sH_changeCapacity Rl)  {X : gX} {l : Launch} {E : gE} (C : gC X cL_law 9 RL (some .boolean) l E room_1) (hZ : gZ X.2.2.2.2.2.2.2.2.2.2.2.1 X.2.2.2.2.1 X.2.2.2.2.1.heap) (hNc : gNc X.2.2.2.2.1) {b0 L0 : Nat} {xs : Nat → Int32} (S : gS X b0 L0 xs) (hlt : l.stackTraces = false) {ax : Nat} {bo tr ac ah : Nat → Nat} {bd : Nat → Nat → Nat} {at_ am : Nat → Nat} {ao k n i : Nat} (hk : k + 3 ≤ 601024) (hn : n + 18 ≤ 7293034) (hi : i + 3 ≤ L0) {β τ γ η : BS} {σ : Nat → BS} {θ μ : BS} {o : Nat → Int64} (hR : Rl β η θ σ μ) (next : ∀ (β τ γ η : BS) (σ : Nat → BS) (θ μ : BS) (o : Nat → Int64), Rl β η θ σ μ → G X (k + 3) (n + 18) [wX ax (bo 0) (tr 0) (ac 0) (ah 0) (at_ 0), wB E bo β, wB E tr τ, wC E ac γ, wH E ah bd η, wT E at_ θ, wB E (bd 2) (σ 2), wB E (bd 3) (σ 3), wB E (bd 4) (σ 4), wB E (bd 5) (σ 5), wB E (bd 6) (σ 6), wB E (bd 7) (σ 7), wB E (bd 8) (σ 8), wB E (bd 9) (σ 9), wM E am μ, wO E ao o] [(0, .ref b0), (1, .ref ax), (2, .ref (am 0)), (3, .ref ao), (4, .int (nI i))] 3840 []) : G X k n [wX ax (bo 0) (tr 0) (ac 0) (ah 0) (at_ 0), wB E bo β, wB E tr τ, wC E ac γ, wH E ah bd η, wT E at_ θ, wB E (bd 2) (σ 2), wB E (bd 3) (σ 3), wB E (bd 4) (σ 4), wB E (bd 5) (σ 5), wB E (bd 6) (σ 6), wB E (bd 7) (σ 7), wB E (bd 8) (σ 8), wB E (bd 9) (σ 9), wM E am μ, wO E ao o] [(0, .ref b0), (1, .ref ax), (2, .ref (am 0)), (3, .ref ao), (4, .int (nI i))] 812 [] := by
  obtain ⟨hvb, hvh, hvt, hvm, ha⟩ := hRv β η θ σ μ hR
  obtain ⟨a, ha9⟩ : ∃ a, xs (i + 1) = a := ⟨_, rfl⟩
  obtain ⟨b, hb9⟩ : ∃ b, xs (i + 2) = b := ⟨_, rfl⟩
  obtain ⟨hag, hR2⟩ := hs β τ γ η σ θ μ a b hR
  rcases hag with ⟨hr, ht⟩ | ⟨hr, ht⟩ | ⟨hr, ht⟩ | ⟨hr, ht⟩
  · skip
    refine g_aload_n C dL_law_812 rfl 1 rfl ?_
    refine g_aload_n C dL_law_813 rfl 0 rfl ?_
    refine g_iload C dL_law_814 4 rfl ?_
    refine g_iconst C (v := 1) dL_law_816 (by decide) ?_
    refine g_iadd C dL_law_817 ?_
    refine g_sldv C S (i + 1) (nx_add (rfl : nI i = nI i) (rfl : (1 : Int32) = nI 1)) (by omega) ha9 dL_law_818 ?_
    refine g_aload_n C dL_law_819 rfl 0 rfl ?_
    refine g_iload C dL_law_820 4 rfl ?_
    refine g_iconst C (v := 2) dL_law_822 (by decide) ?_
    refine g_iadd C dL_law_823 ?_
    refine g_sldv C S (i + 2) (nx_add (rfl : nI i = nI i) (rfl : (2 : Int32) = nI 2)) (by omega) hb9 dL_law_824 ?_
    refine g_aload_n C dL_law_825 rfl 3 rfl ?_
    refine g_callSW C hZ hNc (z := 4) (cs1 := [wX ax (bo 0) (tr 0) (ac 0) (ah 0) (at_ 0), wB E bo ((fX6_changeCapacity β η σ a b).2.1), wB E tr τ, wC E ac γ, wH E ah bd ((fX6_changeCapacity β η σ a b).2.2.1), wT E at_ θ, wB E (bd 2) ((fX6_changeCapacity β η σ a b).2.2.2 2), wB E (bd 3) ((fX6_changeCapacity β η σ a b).2.2.2 3), wB E (bd 4) ((fX6_changeCapacity β η σ a b).2.2.2 4), wB E (bd 5) ((fX6_changeCapacity β η σ a b).2.2.2 5), wB E (bd 6) ((fX6_changeCapacity β η σ a b).2.2.2 6), wB E (bd 7) ((fX6_changeCapacity β η σ a b).2.2.2 7), wB E (bd 8) ((fX6_changeCapacity β η σ a b).2.2.2 8), wB E (bd 9) ((fX6_changeCapacity β η σ a b).2.2.2 9), wM E am μ, wO E ao (vp_updL o 0 ((fX7_changeCapacity μ a b).1).toInt64)]) (st1 := [.int 0]) [.ref ax, .int a, .int b, .ref ao] [0, 1, 2, 3, 4, 5, 6, 7, 8, 9, 10, 11, 12, 13, 15] (kL_changeCapacity_r l E ax bo β tr τ ac γ ah bd η σ at_ θ ao o hlt hvb hvh a b ((fX7_changeCapacity μ a b).1) hr) q4_61 q1_0 (by decide +kernel) q4_60 q4_59 rfl ⟨Nat.le_of_ble_eq_true rfl, Nat.le_of_ble_eq_true rfl⟩ ⟨hk, hn⟩ (by decide) rfl rfl rfl rfl (Nat.le_of_ble_eq_true rfl) dL_law_826 rfl ?_
    refine g_istore C (lv1 := [(5, .int 0), (0, .ref b0), (1, .ref ax), (2, .ref (am 0)), (3, .ref ao), (4, .int (nI i))]) dL_law_829 (by decide) rfl ?_
    refine g_aload_n C dL_law_831 rfl 3 rfl ?_
    refine g_aload_n C dL_law_832 rfl 1 rfl ?_
    refine g_iload C dL_law_833 5 rfl ?_
    refine g_iconst C (v := 1) dL_law_835 (by decide) ?_
    refine g_iadd C dL_law_836 ?_
    refine g_sldv C S (i + 1) (nx_add (rfl : nI i = nI i) (rfl : (1 : Int32) = nI 1)) (by omega) ha9 dL_law_837 ?_
    refine g_aload_n C dL_law_838 rfl 1 rfl ?_
    refine g_iload C dL_law_839 5 rfl ?_
    refine g_iconst C (v := 2) dL_law_841 (by decide) ?_
    refine g_iadd C dL_law_842 ?_
    refine g_sldv C S (i + 2) (nx_add (rfl : nI i = nI i) (rfl : (2 : Int32) = nI 2)) (by omega) hb9 dL_law_843 ?_
    refine g_callV C (cs1 := [wX ax (bo 0) (tr 0) (ac 0) (ah 0) (at_ 0), wB E bo ((fX6_changeCapacity β η σ a b).2.1), wB E tr τ, wC E ac γ, wH E ah bd ((fX6_changeCapacity β η σ a b).2.2.1), wT E at_ θ, wB E (bd 2) ((fX6_changeCapacity β η σ a b).2.2.2 2), wB E (bd 3) ((fX6_changeCapacity β η σ a b).2.2.2 3), wB E (bd 4) ((fX6_changeCapacity β η σ a b).2.2.2 4), wB E (bd 5) ((fX6_changeCapacity β η σ a b).2.2.2 5), wB E (bd 6) ((fX6_changeCapacity β η σ a b).2.2.2 6), wB E (bd 7) ((fX6_changeCapacity β η σ a b).2.2.2 7), wB E (bd 8) ((fX6_changeCapacity β η σ a b).2.2.2 8), wB E (bd 9) ((fX6_changeCapacity β η σ a b).2.2.2 9), wM E am ((fX7_changeCapacity μ a b).2), wO E ao (vp_updL o 0 ((fX7_changeCapacity μ a b).1).toInt64)]) (st1 := [.int ((fX7_changeCapacity μ a b).1)]) [.int a, .int b] [14] (kX7_changeCapacity l E am μ hvm a b) caX7_changeCapacity q6_217 rfl ⟨Nat.le_of_ble_eq_true rfl, Nat.le_of_ble_eq_true rfl⟩ ⟨hk, hn⟩ 14 0 rfl rfl rfl rfl (by decide) rfl rfl rfl rfl (Nat.le_of_ble_eq_true rfl) dL_law_844 rfl ?_
    refine g_istore C (lv1 := [(6, .int ((fX7_changeCapacity μ a b).1)), (5, .int 0), (0, .ref b0), (1, .ref ax), (2, .ref (am 0)), (3, .ref ao), (4, .int (nI i))]) dL_law_847 (by decide) rfl ?_
    refine g_aload_n C dL_law_849 rfl 4 rfl ?_
    refine g_callV C (cs1 := [wX ax (bo 0) (tr 0) (ac 0) (ah 0) (at_ 0), wB E bo ((fX6_changeCapacity β η σ a b).2.1), wB E tr τ, wC E ac γ, wH E ah bd ((fX6_changeCapacity β η σ a b).2.2.1), wT E at_ θ, wB E (bd 2) ((fX6_changeCapacity β η σ a b).2.2.2 2), wB E (bd 3) ((fX6_changeCapacity β η σ a b).2.2.2 3), wB E (bd 4) ((fX6_changeCapacity β η σ a b).2.2.2 4), wB E (bd 5) ((fX6_changeCapacity β η σ a b).2.2.2 5), wB E (bd 6) ((fX6_changeCapacity β η σ a b).2.2.2 6), wB E (bd 7) ((fX6_changeCapacity β η σ a b).2.2.2 7), wB E (bd 8) ((fX6_changeCapacity β η σ a b).2.2.2 8), wB E (bd 9) ((fX6_changeCapacity β η σ a b).2.2.2 9), wM E am ((fX7_changeCapacity μ a b).2), wO E ao (vp_updL o 0 ((fX7_changeCapacity μ a b).1).toInt64)]) (st1 := [.int (fX7_thrown ((fX7_changeCapacity μ a b).2))]) [] [14] (kX7_thrown l E am ((fX7_changeCapacity μ a b).2)) caX7_thrown q6_116 rfl ⟨Nat.le_of_ble_eq_true rfl, Nat.le_of_ble_eq_true rfl⟩ ⟨hk, hn⟩ 14 0 rfl rfl rfl rfl (by decide) rfl rfl rfl rfl (Nat.le_of_ble_eq_true rfl) dL_law_850 rfl ?_
    refine g_iload C dL_law_853 1 rfl ?_
    refine g_icmp_eq C 860 dL_law_855 (by decide) (fun _ => ?_) (fun c => absurd ht c)
    refine g_iload C dL_law_860 1 rfl ?_
    refine g_if_ne C 877 dL_law_862 (by decide) (fun c => absurd rfl c) (fun _ => ?_)
    refine g_aload_n C dL_law_865 rfl 5 rfl ?_
    refine g_iconst C (v := 0) dL_law_866 (by decide) ?_
    refine g_laldn C 15 0 0 rfl rfl rfl (by decide) (by decide) dL_law_867 ?_
    refine g_iload C dL_law_868 0 rfl ?_
    refine g_i2l C dL_law_870 ?_
    refine g_lcmp C dL_law_871 ?_
    refine g_if_eq C 877 dL_law_872 (by decide) (fun _ => ?_) (fun c => absurd law_cmp c)
    refine g_goto C 3840 dL_law_877 (by decide) ?_
    exact g_sub [2, 3, 4, 5, 6] rfl (next ((fX6_changeCapacity β η σ a b).2.1) τ γ ((fX6_changeCapacity β η σ a b).2.2.1) ((fX6_changeCapacity β η σ a b).2.2.2) θ ((fX7_changeCapacity μ a b).2) (vp_updL o 0 ((fX7_changeCapacity μ a b).1).toInt64) hR2)
  · skip
    refine g_aload_n C dL_law_812 rfl 1 rfl ?_
    refine g_aload_n C dL_law_813 rfl 0 rfl ?_
    refine g_iload C dL_law_814 4 rfl ?_
    refine g_iconst C (v := 1) dL_law_816 (by decide) ?_
    refine g_iadd C dL_law_817 ?_
    refine g_sldv C S (i + 1) (nx_add (rfl : nI i = nI i) (rfl : (1 : Int32) = nI 1)) (by omega) ha9 dL_law_818 ?_
    refine g_aload_n C dL_law_819 rfl 0 rfl ?_
    refine g_iload C dL_law_820 4 rfl ?_
    refine g_iconst C (v := 2) dL_law_822 (by decide) ?_
    refine g_iadd C dL_law_823 ?_
    refine g_sldv C S (i + 2) (nx_add (rfl : nI i = nI i) (rfl : (2 : Int32) = nI 2)) (by omega) hb9 dL_law_824 ?_
    refine g_aload_n C dL_law_825 rfl 3 rfl ?_
    refine g_callSW C hZ hNc (z := 4) (cs1 := [wX ax (bo 0) (tr 0) (ac 0) (ah 0) (at_ 0), wB E bo ((fX6_changeCapacity β η σ a b).2.1), wB E tr τ, wC E ac γ, wH E ah bd ((fX6_changeCapacity β η σ a b).2.2.1), wT E at_ θ, wB E (bd 2) ((fX6_changeCapacity β η σ a b).2.2.2 2), wB E (bd 3) ((fX6_changeCapacity β η σ a b).2.2.2 3), wB E (bd 4) ((fX6_changeCapacity β η σ a b).2.2.2 4), wB E (bd 5) ((fX6_changeCapacity β η σ a b).2.2.2 5), wB E (bd 6) ((fX6_changeCapacity β η σ a b).2.2.2 6), wB E (bd 7) ((fX6_changeCapacity β η σ a b).2.2.2 7), wB E (bd 8) ((fX6_changeCapacity β η σ a b).2.2.2 8), wB E (bd 9) ((fX6_changeCapacity β η σ a b).2.2.2 9), wM E am μ, wO E ao o]) (st1 := [.int 1]) [.ref ax, .int a, .int b, .ref ao] [0, 1, 2, 3, 4, 5, 6, 7, 8, 9, 10, 11, 12, 13, 15] (kL_changeCapacity_0 l E ax bo β tr τ ac γ ah bd η σ at_ θ ao o hlt hvb hvh a b hr) q4_61 q1_0 (by decide +kernel) q4_60 q4_59 rfl ⟨Nat.le_of_ble_eq_true rfl, Nat.le_of_ble_eq_true rfl⟩ ⟨hk, hn⟩ (by decide) rfl rfl rfl rfl (Nat.le_of_ble_eq_true rfl) dL_law_826 rfl ?_
    refine g_istore C (lv1 := [(5, .int 1), (0, .ref b0), (1, .ref ax), (2, .ref (am 0)), (3, .ref ao), (4, .int (nI i))]) dL_law_829 (by decide) rfl ?_
    refine g_aload_n C dL_law_831 rfl 3 rfl ?_
    refine g_aload_n C dL_law_832 rfl 1 rfl ?_
    refine g_iload C dL_law_833 5 rfl ?_
    refine g_iconst C (v := 1) dL_law_835 (by decide) ?_
    refine g_iadd C dL_law_836 ?_
    refine g_sldv C S (i + 1) (nx_add (rfl : nI i = nI i) (rfl : (1 : Int32) = nI 1)) (by omega) ha9 dL_law_837 ?_
    refine g_aload_n C dL_law_838 rfl 1 rfl ?_
    refine g_iload C dL_law_839 5 rfl ?_
    refine g_iconst C (v := 2) dL_law_841 (by decide) ?_
    refine g_iadd C dL_law_842 ?_
    refine g_sldv C S (i + 2) (nx_add (rfl : nI i = nI i) (rfl : (2 : Int32) = nI 2)) (by omega) hb9 dL_law_843 ?_
    refine g_callV C (cs1 := [wX ax (bo 0) (tr 0) (ac 0) (ah 0) (at_ 0), wB E bo ((fX6_changeCapacity β η σ a b).2.1), wB E tr τ, wC E ac γ, wH E ah bd ((fX6_changeCapacity β η σ a b).2.2.1), wT E at_ θ, wB E (bd 2) ((fX6_changeCapacity β η σ a b).2.2.2 2), wB E (bd 3) ((fX6_changeCapacity β η σ a b).2.2.2 3), wB E (bd 4) ((fX6_changeCapacity β η σ a b).2.2.2 4), wB E (bd 5) ((fX6_changeCapacity β η σ a b).2.2.2 5), wB E (bd 6) ((fX6_changeCapacity β η σ a b).2.2.2 6), wB E (bd 7) ((fX6_changeCapacity β η σ a b).2.2.2 7), wB E (bd 8) ((fX6_changeCapacity β η σ a b).2.2.2 8), wB E (bd 9) ((fX6_changeCapacity β η σ a b).2.2.2 9), wM E am ((fX7_changeCapacity μ a b).2), wO E ao o]) (st1 := [.int ((fX7_changeCapacity μ a b).1)]) [.int a, .int b] [14] (kX7_changeCapacity l E am μ hvm a b) caX7_changeCapacity q6_217 rfl ⟨Nat.le_of_ble_eq_true rfl, Nat.le_of_ble_eq_true rfl⟩ ⟨hk, hn⟩ 14 0 rfl rfl rfl rfl (by decide) rfl rfl rfl rfl (Nat.le_of_ble_eq_true rfl) dL_law_844 rfl ?_
    refine g_istore C (lv1 := [(6, .int ((fX7_changeCapacity μ a b).1)), (5, .int 1), (0, .ref b0), (1, .ref ax), (2, .ref (am 0)), (3, .ref ao), (4, .int (nI i))]) dL_law_847 (by decide) rfl ?_
    refine g_aload_n C dL_law_849 rfl 4 rfl ?_
    refine g_callV C (cs1 := [wX ax (bo 0) (tr 0) (ac 0) (ah 0) (at_ 0), wB E bo ((fX6_changeCapacity β η σ a b).2.1), wB E tr τ, wC E ac γ, wH E ah bd ((fX6_changeCapacity β η σ a b).2.2.1), wT E at_ θ, wB E (bd 2) ((fX6_changeCapacity β η σ a b).2.2.2 2), wB E (bd 3) ((fX6_changeCapacity β η σ a b).2.2.2 3), wB E (bd 4) ((fX6_changeCapacity β η σ a b).2.2.2 4), wB E (bd 5) ((fX6_changeCapacity β η σ a b).2.2.2 5), wB E (bd 6) ((fX6_changeCapacity β η σ a b).2.2.2 6), wB E (bd 7) ((fX6_changeCapacity β η σ a b).2.2.2 7), wB E (bd 8) ((fX6_changeCapacity β η σ a b).2.2.2 8), wB E (bd 9) ((fX6_changeCapacity β η σ a b).2.2.2 9), wM E am ((fX7_changeCapacity μ a b).2), wO E ao o]) (st1 := [.int (fX7_thrown ((fX7_changeCapacity μ a b).2))]) [] [14] (kX7_thrown l E am ((fX7_changeCapacity μ a b).2)) caX7_thrown q6_116 rfl ⟨Nat.le_of_ble_eq_true rfl, Nat.le_of_ble_eq_true rfl⟩ ⟨hk, hn⟩ 14 0 rfl rfl rfl rfl (by decide) rfl rfl rfl rfl (Nat.le_of_ble_eq_true rfl) dL_law_850 rfl ?_
    refine g_iload C dL_law_853 1 rfl ?_
    refine g_icmp_eq C 860 dL_law_855 (by decide) (fun _ => ?_) (fun c => absurd ht c)
    refine g_iload C dL_law_860 1 rfl ?_
    refine g_if_ne C 877 dL_law_862 (by decide) (fun _ => ?_) (fun c => absurd c (by decide))
    refine g_goto C 3840 dL_law_877 (by decide) ?_
    exact g_sub [2, 3, 4, 5, 6] rfl (next ((fX6_changeCapacity β η σ a b).2.1) τ γ ((fX6_changeCapacity β η σ a b).2.2.1) ((fX6_changeCapacity β η σ a b).2.2.2) θ ((fX7_changeCapacity μ a b).2) o hR2)
  · skip
    refine g_aload_n C dL_law_812 rfl 1 rfl ?_
    refine g_aload_n C dL_law_813 rfl 0 rfl ?_
    refine g_iload C dL_law_814 4 rfl ?_
    refine g_iconst C (v := 1) dL_law_816 (by decide) ?_
    refine g_iadd C dL_law_817 ?_
    refine g_sldv C S (i + 1) (nx_add (rfl : nI i = nI i) (rfl : (1 : Int32) = nI 1)) (by omega) ha9 dL_law_818 ?_
    refine g_aload_n C dL_law_819 rfl 0 rfl ?_
    refine g_iload C dL_law_820 4 rfl ?_
    refine g_iconst C (v := 2) dL_law_822 (by decide) ?_
    refine g_iadd C dL_law_823 ?_
    refine g_sldv C S (i + 2) (nx_add (rfl : nI i = nI i) (rfl : (2 : Int32) = nI 2)) (by omega) hb9 dL_law_824 ?_
    refine g_aload_n C dL_law_825 rfl 3 rfl ?_
    refine g_callSW C hZ hNc (z := 4) (cs1 := [wX ax (bo 0) (tr 0) (ac 0) (ah 0) (at_ 0), wB E bo ((fX6_changeCapacity β η σ a b).2.1), wB E tr τ, wC E ac γ, wH E ah bd ((fX6_changeCapacity β η σ a b).2.2.1), wT E at_ θ, wB E (bd 2) ((fX6_changeCapacity β η σ a b).2.2.2 2), wB E (bd 3) ((fX6_changeCapacity β η σ a b).2.2.2 3), wB E (bd 4) ((fX6_changeCapacity β η σ a b).2.2.2 4), wB E (bd 5) ((fX6_changeCapacity β η σ a b).2.2.2 5), wB E (bd 6) ((fX6_changeCapacity β η σ a b).2.2.2 6), wB E (bd 7) ((fX6_changeCapacity β η σ a b).2.2.2 7), wB E (bd 8) ((fX6_changeCapacity β η σ a b).2.2.2 8), wB E (bd 9) ((fX6_changeCapacity β η σ a b).2.2.2 9), wM E am μ, wO E ao o]) (st1 := [.int 2]) [.ref ax, .int a, .int b, .ref ao] [0, 1, 2, 3, 4, 5, 6, 7, 8, 9, 10, 11, 12, 13, 15] (kL_changeCapacity_1 l E ax bo β tr τ ac γ ah bd η σ at_ θ ao o hlt hvb hvh a b hr) q4_61 q1_0 (by decide +kernel) q4_60 q4_59 rfl ⟨Nat.le_of_ble_eq_true rfl, Nat.le_of_ble_eq_true rfl⟩ ⟨hk, hn⟩ (by decide) rfl rfl rfl rfl (Nat.le_of_ble_eq_true rfl) dL_law_826 rfl ?_
    refine g_istore C (lv1 := [(5, .int 2), (0, .ref b0), (1, .ref ax), (2, .ref (am 0)), (3, .ref ao), (4, .int (nI i))]) dL_law_829 (by decide) rfl ?_
    refine g_aload_n C dL_law_831 rfl 3 rfl ?_
    refine g_aload_n C dL_law_832 rfl 1 rfl ?_
    refine g_iload C dL_law_833 5 rfl ?_
    refine g_iconst C (v := 1) dL_law_835 (by decide) ?_
    refine g_iadd C dL_law_836 ?_
    refine g_sldv C S (i + 1) (nx_add (rfl : nI i = nI i) (rfl : (1 : Int32) = nI 1)) (by omega) ha9 dL_law_837 ?_
    refine g_aload_n C dL_law_838 rfl 1 rfl ?_
    refine g_iload C dL_law_839 5 rfl ?_
    refine g_iconst C (v := 2) dL_law_841 (by decide) ?_
    refine g_iadd C dL_law_842 ?_
    refine g_sldv C S (i + 2) (nx_add (rfl : nI i = nI i) (rfl : (2 : Int32) = nI 2)) (by omega) hb9 dL_law_843 ?_
    refine g_callV C (cs1 := [wX ax (bo 0) (tr 0) (ac 0) (ah 0) (at_ 0), wB E bo ((fX6_changeCapacity β η σ a b).2.1), wB E tr τ, wC E ac γ, wH E ah bd ((fX6_changeCapacity β η σ a b).2.2.1), wT E at_ θ, wB E (bd 2) ((fX6_changeCapacity β η σ a b).2.2.2 2), wB E (bd 3) ((fX6_changeCapacity β η σ a b).2.2.2 3), wB E (bd 4) ((fX6_changeCapacity β η σ a b).2.2.2 4), wB E (bd 5) ((fX6_changeCapacity β η σ a b).2.2.2 5), wB E (bd 6) ((fX6_changeCapacity β η σ a b).2.2.2 6), wB E (bd 7) ((fX6_changeCapacity β η σ a b).2.2.2 7), wB E (bd 8) ((fX6_changeCapacity β η σ a b).2.2.2 8), wB E (bd 9) ((fX6_changeCapacity β η σ a b).2.2.2 9), wM E am ((fX7_changeCapacity μ a b).2), wO E ao o]) (st1 := [.int ((fX7_changeCapacity μ a b).1)]) [.int a, .int b] [14] (kX7_changeCapacity l E am μ hvm a b) caX7_changeCapacity q6_217 rfl ⟨Nat.le_of_ble_eq_true rfl, Nat.le_of_ble_eq_true rfl⟩ ⟨hk, hn⟩ 14 0 rfl rfl rfl rfl (by decide) rfl rfl rfl rfl (Nat.le_of_ble_eq_true rfl) dL_law_844 rfl ?_
    refine g_istore C (lv1 := [(6, .int ((fX7_changeCapacity μ a b).1)), (5, .int 2), (0, .ref b0), (1, .ref ax), (2, .ref (am 0)), (3, .ref ao), (4, .int (nI i))]) dL_law_847 (by decide) rfl ?_
    refine g_aload_n C dL_law_849 rfl 4 rfl ?_
    refine g_callV C (cs1 := [wX ax (bo 0) (tr 0) (ac 0) (ah 0) (at_ 0), wB E bo ((fX6_changeCapacity β η σ a b).2.1), wB E tr τ, wC E ac γ, wH E ah bd ((fX6_changeCapacity β η σ a b).2.2.1), wT E at_ θ, wB E (bd 2) ((fX6_changeCapacity β η σ a b).2.2.2 2), wB E (bd 3) ((fX6_changeCapacity β η σ a b).2.2.2 3), wB E (bd 4) ((fX6_changeCapacity β η σ a b).2.2.2 4), wB E (bd 5) ((fX6_changeCapacity β η σ a b).2.2.2 5), wB E (bd 6) ((fX6_changeCapacity β η σ a b).2.2.2 6), wB E (bd 7) ((fX6_changeCapacity β η σ a b).2.2.2 7), wB E (bd 8) ((fX6_changeCapacity β η σ a b).2.2.2 8), wB E (bd 9) ((fX6_changeCapacity β η σ a b).2.2.2 9), wM E am ((fX7_changeCapacity μ a b).2), wO E ao o]) (st1 := [.int (fX7_thrown ((fX7_changeCapacity μ a b).2))]) [] [14] (kX7_thrown l E am ((fX7_changeCapacity μ a b).2)) caX7_thrown q6_116 rfl ⟨Nat.le_of_ble_eq_true rfl, Nat.le_of_ble_eq_true rfl⟩ ⟨hk, hn⟩ 14 0 rfl rfl rfl rfl (by decide) rfl rfl rfl rfl (Nat.le_of_ble_eq_true rfl) dL_law_850 rfl ?_
    refine g_iload C dL_law_853 1 rfl ?_
    refine g_icmp_eq C 860 dL_law_855 (by decide) (fun _ => ?_) (fun c => absurd ht c)
    refine g_iload C dL_law_860 1 rfl ?_
    refine g_if_ne C 877 dL_law_862 (by decide) (fun _ => ?_) (fun c => absurd c (by decide))
    refine g_goto C 3840 dL_law_877 (by decide) ?_
    exact g_sub [2, 3, 4, 5, 6] rfl (next ((fX6_changeCapacity β η σ a b).2.1) τ γ ((fX6_changeCapacity β η σ a b).2.2.1) ((fX6_changeCapacity β η σ a b).2.2.2) θ ((fX7_changeCapacity μ a b).2) o hR2)
  · skip
    refine g_aload_n C dL_law_812 rfl 1 rfl ?_
    refine g_aload_n C dL_law_813 rfl 0 rfl ?_
    refine g_iload C dL_law_814 4 rfl ?_
    refine g_iconst C (v := 1) dL_law_816 (by decide) ?_
    refine g_iadd C dL_law_817 ?_
    refine g_sldv C S (i + 1) (nx_add (rfl : nI i = nI i) (rfl : (1 : Int32) = nI 1)) (by omega) ha9 dL_law_818 ?_
    refine g_aload_n C dL_law_819 rfl 0 rfl ?_
    refine g_iload C dL_law_820 4 rfl ?_
    refine g_iconst C (v := 2) dL_law_822 (by decide) ?_
    refine g_iadd C dL_law_823 ?_
    refine g_sldv C S (i + 2) (nx_add (rfl : nI i = nI i) (rfl : (2 : Int32) = nI 2)) (by omega) hb9 dL_law_824 ?_
    refine g_aload_n C dL_law_825 rfl 3 rfl ?_
    refine g_callSW C hZ hNc (z := 4) (cs1 := [wX ax (bo 0) (tr 0) (ac 0) (ah 0) (at_ 0), wB E bo ((fX6_changeCapacity β η σ a b).2.1), wB E tr τ, wC E ac γ, wH E ah bd ((fX6_changeCapacity β η σ a b).2.2.1), wT E at_ θ, wB E (bd 2) ((fX6_changeCapacity β η σ a b).2.2.2 2), wB E (bd 3) ((fX6_changeCapacity β η σ a b).2.2.2 3), wB E (bd 4) ((fX6_changeCapacity β η σ a b).2.2.2 4), wB E (bd 5) ((fX6_changeCapacity β η σ a b).2.2.2 5), wB E (bd 6) ((fX6_changeCapacity β η σ a b).2.2.2 6), wB E (bd 7) ((fX6_changeCapacity β η σ a b).2.2.2 7), wB E (bd 8) ((fX6_changeCapacity β η σ a b).2.2.2 8), wB E (bd 9) ((fX6_changeCapacity β η σ a b).2.2.2 9), wM E am μ, wO E ao o]) (st1 := [.int 3]) [.ref ax, .int a, .int b, .ref ao] [0, 1, 2, 3, 4, 5, 6, 7, 8, 9, 10, 11, 12, 13, 15] (kL_changeCapacity_2 l E ax bo β tr τ ac γ ah bd η σ at_ θ ao o hlt hvb hvh a b hr) q4_61 q1_0 (by decide +kernel) q4_60 q4_59 rfl ⟨Nat.le_of_ble_eq_true rfl, Nat.le_of_ble_eq_true rfl⟩ ⟨hk, hn⟩ (by decide) rfl rfl rfl rfl (Nat.le_of_ble_eq_true rfl) dL_law_826 rfl ?_
    refine g_istore C (lv1 := [(5, .int 3), (0, .ref b0), (1, .ref ax), (2, .ref (am 0)), (3, .ref ao), (4, .int (nI i))]) dL_law_829 (by decide) rfl ?_
    refine g_aload_n C dL_law_831 rfl 3 rfl ?_
    refine g_aload_n C dL_law_832 rfl 1 rfl ?_
    refine g_iload C dL_law_833 5 rfl ?_
    refine g_iconst C (v := 1) dL_law_835 (by decide) ?_
    refine g_iadd C dL_law_836 ?_
    refine g_sldv C S (i + 1) (nx_add (rfl : nI i = nI i) (rfl : (1 : Int32) = nI 1)) (by omega) ha9 dL_law_837 ?_
    refine g_aload_n C dL_law_838 rfl 1 rfl ?_
    refine g_iload C dL_law_839 5 rfl ?_
    refine g_iconst C (v := 2) dL_law_841 (by decide) ?_
    refine g_iadd C dL_law_842 ?_
    refine g_sldv C S (i + 2) (nx_add (rfl : nI i = nI i) (rfl : (2 : Int32) = nI 2)) (by omega) hb9 dL_law_843 ?_
    refine g_callV C (cs1 := [wX ax (bo 0) (tr 0) (ac 0) (ah 0) (at_ 0), wB E bo ((fX6_changeCapacity β η σ a b).2.1), wB E tr τ, wC E ac γ, wH E ah bd ((fX6_changeCapacity β η σ a b).2.2.1), wT E at_ θ, wB E (bd 2) ((fX6_changeCapacity β η σ a b).2.2.2 2), wB E (bd 3) ((fX6_changeCapacity β η σ a b).2.2.2 3), wB E (bd 4) ((fX6_changeCapacity β η σ a b).2.2.2 4), wB E (bd 5) ((fX6_changeCapacity β η σ a b).2.2.2 5), wB E (bd 6) ((fX6_changeCapacity β η σ a b).2.2.2 6), wB E (bd 7) ((fX6_changeCapacity β η σ a b).2.2.2 7), wB E (bd 8) ((fX6_changeCapacity β η σ a b).2.2.2 8), wB E (bd 9) ((fX6_changeCapacity β η σ a b).2.2.2 9), wM E am ((fX7_changeCapacity μ a b).2), wO E ao o]) (st1 := [.int ((fX7_changeCapacity μ a b).1)]) [.int a, .int b] [14] (kX7_changeCapacity l E am μ hvm a b) caX7_changeCapacity q6_217 rfl ⟨Nat.le_of_ble_eq_true rfl, Nat.le_of_ble_eq_true rfl⟩ ⟨hk, hn⟩ 14 0 rfl rfl rfl rfl (by decide) rfl rfl rfl rfl (Nat.le_of_ble_eq_true rfl) dL_law_844 rfl ?_
    refine g_istore C (lv1 := [(6, .int ((fX7_changeCapacity μ a b).1)), (5, .int 3), (0, .ref b0), (1, .ref ax), (2, .ref (am 0)), (3, .ref ao), (4, .int (nI i))]) dL_law_847 (by decide) rfl ?_
    refine g_aload_n C dL_law_849 rfl 4 rfl ?_
    refine g_callV C (cs1 := [wX ax (bo 0) (tr 0) (ac 0) (ah 0) (at_ 0), wB E bo ((fX6_changeCapacity β η σ a b).2.1), wB E tr τ, wC E ac γ, wH E ah bd ((fX6_changeCapacity β η σ a b).2.2.1), wT E at_ θ, wB E (bd 2) ((fX6_changeCapacity β η σ a b).2.2.2 2), wB E (bd 3) ((fX6_changeCapacity β η σ a b).2.2.2 3), wB E (bd 4) ((fX6_changeCapacity β η σ a b).2.2.2 4), wB E (bd 5) ((fX6_changeCapacity β η σ a b).2.2.2 5), wB E (bd 6) ((fX6_changeCapacity β η σ a b).2.2.2 6), wB E (bd 7) ((fX6_changeCapacity β η σ a b).2.2.2 7), wB E (bd 8) ((fX6_changeCapacity β η σ a b).2.2.2 8), wB E (bd 9) ((fX6_changeCapacity β η σ a b).2.2.2 9), wM E am ((fX7_changeCapacity μ a b).2), wO E ao o]) (st1 := [.int (fX7_thrown ((fX7_changeCapacity μ a b).2))]) [] [14] (kX7_thrown l E am ((fX7_changeCapacity μ a b).2)) caX7_thrown q6_116 rfl ⟨Nat.le_of_ble_eq_true rfl, Nat.le_of_ble_eq_true rfl⟩ ⟨hk, hn⟩ 14 0 rfl rfl rfl rfl (by decide) rfl rfl rfl rfl (Nat.le_of_ble_eq_true rfl) dL_law_850 rfl ?_
    refine g_iload C dL_law_853 1 rfl ?_
    refine g_icmp_eq C 860 dL_law_855 (by decide) (fun _ => ?_) (fun c => absurd ht c)
    refine g_iload C dL_law_860 1 rfl ?_
    refine g_if_ne C 877 dL_law_862 (by decide) (fun _ => ?_) (fun c => absurd c (by decide))
    refine g_goto C 3840 dL_law_877 (by decide) ?_
    exact g_sub [2, 3, 4, 5, 6] rfl (next ((fX6_changeCapacity β η σ a b).2.1) τ γ ((fX6_changeCapacity β η σ a b).2.2.1) ((fX6_changeCapacity β η σ a b).2.2.2) θ ((fX7_changeCapacity μ a b).2) o hR2)
set_option maxHeartbeats 4000000 in
set_option maxRecDepth 100000 in
theorem arm_8 {Rl : RlT} (hRv : RlV Rl) (hs : sH_plan Rl)  {X : gX} {l : Launch} {E : gE} (C : gC X cL_law 9 RL (some .boolean) l E room_1) (hZ : gZ X.2.2.2.2.2.2.2.2.2.2.2.1 X.2.2.2.2.1 X.2.2.2.2.1.heap) (hNc : gNc X.2.2.2.2.1) {b0 L0 : Nat} {xs : Nat → Int32} (S : gS X b0 L0 xs) (hlt : l.stackTraces = false) {ax : Nat} {bo tr ac ah : Nat → Nat} {bd : Nat → Nat → Nat} {at_ am : Nat → Nat} {ao k n i : Nat} (hk : k + 3 ≤ 601024) (hn : n + 18 ≤ 7293034) (hi : i + 3 ≤ L0) {β τ γ η : BS} {σ : Nat → BS} {θ μ : BS} {o : Nat → Int64} (hR : Rl β η θ σ μ) (next : ∀ (β τ γ η : BS) (σ : Nat → BS) (θ μ : BS) (o : Nat → Int64), Rl β η θ σ μ → G X (k + 3) (n + 18) [wX ax (bo 0) (tr 0) (ac 0) (ah 0) (at_ 0), wB E bo β, wB E tr τ, wC E ac γ, wH E ah bd η, wT E at_ θ, wB E (bd 2) (σ 2), wB E (bd 3) (σ 3), wB E (bd 4) (σ 4), wB E (bd 5) (σ 5), wB E (bd 6) (σ 6), wB E (bd 7) (σ 7), wB E (bd 8) (σ 8), wB E (bd 9) (σ 9), wM E am μ, wO E ao o] [(0, .ref b0), (1, .ref ax), (2, .ref (am 0)), (3, .ref ao), (4, .int (nI i))] 3840 []) : G X k n [wX ax (bo 0) (tr 0) (ac 0) (ah 0) (at_ 0), wB E bo β, wB E tr τ, wC E ac γ, wH E ah bd η, wT E at_ θ, wB E (bd 2) (σ 2), wB E (bd 3) (σ 3), wB E (bd 4) (σ 4), wB E (bd 5) (σ 5), wB E (bd 6) (σ 6), wB E (bd 7) (σ 7), wB E (bd 8) (σ 8), wB E (bd 9) (σ 9), wM E am μ, wO E ao o] [(0, .ref b0), (1, .ref ax), (2, .ref (am 0)), (3, .ref ao), (4, .int (nI i))] 880 [] := by
  obtain ⟨hvb, hvh, hvt, hvm, ha⟩ := hRv β η θ σ μ hR
  obtain ⟨a, ha9⟩ : ∃ a, xs (i + 1) = a := ⟨_, rfl⟩
  obtain ⟨b, hb9⟩ : ∃ b, xs (i + 2) = b := ⟨_, rfl⟩
  obtain ⟨hag, hR2⟩ := hs β τ γ η σ θ μ a b hR
  rcases hag with ⟨hr, ht⟩ | ⟨hr, ht⟩ | ⟨hr, ht⟩
  · skip
    refine g_aload_n C dL_law_880 rfl 1 rfl ?_
    refine g_aload_n C dL_law_881 rfl 0 rfl ?_
    refine g_iload C dL_law_882 4 rfl ?_
    refine g_iconst C (v := 1) dL_law_884 (by decide) ?_
    refine g_iadd C dL_law_885 ?_
    refine g_sldv C S (i + 1) (nx_add (rfl : nI i = nI i) (rfl : (1 : Int32) = nI 1)) (by omega) ha9 dL_law_886 ?_
    refine g_aload_n C dL_law_887 rfl 0 rfl ?_
    refine g_iload C dL_law_888 4 rfl ?_
    refine g_iconst C (v := 2) dL_law_890 (by decide) ?_
    refine g_iadd C dL_law_891 ?_
    refine g_sldv C S (i + 2) (nx_add (rfl : nI i = nI i) (rfl : (2 : Int32) = nI 2)) (by omega) hb9 dL_law_892 ?_
    refine g_aload_n C dL_law_893 rfl 3 rfl ?_
    refine g_callSW C hZ hNc (z := 4) (cs1 := [wX ax (bo 0) (tr 0) (ac 0) (ah 0) (at_ 0), wB E bo ((fX6_plan β η σ a b).2.1), wB E tr τ, wC E ac γ, wH E ah bd ((fX6_plan β η σ a b).2.2.1), wT E at_ θ, wB E (bd 2) ((fX6_plan β η σ a b).2.2.2 2), wB E (bd 3) ((fX6_plan β η σ a b).2.2.2 3), wB E (bd 4) ((fX6_plan β η σ a b).2.2.2 4), wB E (bd 5) ((fX6_plan β η σ a b).2.2.2 5), wB E (bd 6) ((fX6_plan β η σ a b).2.2.2 6), wB E (bd 7) ((fX6_plan β η σ a b).2.2.2 7), wB E (bd 8) ((fX6_plan β η σ a b).2.2.2 8), wB E (bd 9) ((fX6_plan β η σ a b).2.2.2 9), wM E am μ, wO E ao (vp_updL o 0 ((fX7_plan μ a b).1).toInt64)]) (st1 := [.int 0]) [.ref ax, .int a, .int b, .ref ao] [0, 1, 2, 3, 4, 5, 6, 7, 8, 9, 10, 11, 12, 13, 15] (kL_plan_r l E ax bo β tr τ ac γ ah bd η σ at_ θ ao o hlt hvb hvh a b ((fX7_plan μ a b).1) hr) q4_72 q1_0 (by decide +kernel) q4_71 q4_70 rfl ⟨Nat.le_of_ble_eq_true rfl, Nat.le_of_ble_eq_true rfl⟩ ⟨hk, hn⟩ (by decide) rfl rfl rfl rfl (Nat.le_of_ble_eq_true rfl) dL_law_894 rfl ?_
    refine g_istore C (lv1 := [(5, .int 0), (0, .ref b0), (1, .ref ax), (2, .ref (am 0)), (3, .ref ao), (4, .int (nI i))]) dL_law_897 (by decide) rfl ?_
    refine g_aload_n C dL_law_899 rfl 3 rfl ?_
    refine g_aload_n C dL_law_900 rfl 1 rfl ?_
    refine g_iload C dL_law_901 5 rfl ?_
    refine g_iconst C (v := 1) dL_law_903 (by decide) ?_
    refine g_iadd C dL_law_904 ?_
    refine g_sldv C S (i + 1) (nx_add (rfl : nI i = nI i) (rfl : (1 : Int32) = nI 1)) (by omega) ha9 dL_law_905 ?_
    refine g_aload_n C dL_law_906 rfl 1 rfl ?_
    refine g_iload C dL_law_907 5 rfl ?_
    refine g_iconst C (v := 2) dL_law_909 (by decide) ?_
    refine g_iadd C dL_law_910 ?_
    refine g_sldv C S (i + 2) (nx_add (rfl : nI i = nI i) (rfl : (2 : Int32) = nI 2)) (by omega) hb9 dL_law_911 ?_
    refine g_callV C (cs1 := [wX ax (bo 0) (tr 0) (ac 0) (ah 0) (at_ 0), wB E bo ((fX6_plan β η σ a b).2.1), wB E tr τ, wC E ac γ, wH E ah bd ((fX6_plan β η σ a b).2.2.1), wT E at_ θ, wB E (bd 2) ((fX6_plan β η σ a b).2.2.2 2), wB E (bd 3) ((fX6_plan β η σ a b).2.2.2 3), wB E (bd 4) ((fX6_plan β η σ a b).2.2.2 4), wB E (bd 5) ((fX6_plan β η σ a b).2.2.2 5), wB E (bd 6) ((fX6_plan β η σ a b).2.2.2 6), wB E (bd 7) ((fX6_plan β η σ a b).2.2.2 7), wB E (bd 8) ((fX6_plan β η σ a b).2.2.2 8), wB E (bd 9) ((fX6_plan β η σ a b).2.2.2 9), wM E am ((fX7_plan μ a b).2), wO E ao (vp_updL o 0 ((fX7_plan μ a b).1).toInt64)]) (st1 := [.int ((fX7_plan μ a b).1)]) [.int a, .int b] [14] (kX7_plan l E am μ hvm a b) caX7_plan q6_221 rfl ⟨Nat.le_of_ble_eq_true rfl, Nat.le_of_ble_eq_true rfl⟩ ⟨hk, hn⟩ 14 0 rfl rfl rfl rfl (by decide) rfl rfl rfl rfl (Nat.le_of_ble_eq_true rfl) dL_law_912 rfl ?_
    refine g_istore C (lv1 := [(6, .int ((fX7_plan μ a b).1)), (5, .int 0), (0, .ref b0), (1, .ref ax), (2, .ref (am 0)), (3, .ref ao), (4, .int (nI i))]) dL_law_915 (by decide) rfl ?_
    refine g_aload_n C dL_law_917 rfl 4 rfl ?_
    refine g_callV C (cs1 := [wX ax (bo 0) (tr 0) (ac 0) (ah 0) (at_ 0), wB E bo ((fX6_plan β η σ a b).2.1), wB E tr τ, wC E ac γ, wH E ah bd ((fX6_plan β η σ a b).2.2.1), wT E at_ θ, wB E (bd 2) ((fX6_plan β η σ a b).2.2.2 2), wB E (bd 3) ((fX6_plan β η σ a b).2.2.2 3), wB E (bd 4) ((fX6_plan β η σ a b).2.2.2 4), wB E (bd 5) ((fX6_plan β η σ a b).2.2.2 5), wB E (bd 6) ((fX6_plan β η σ a b).2.2.2 6), wB E (bd 7) ((fX6_plan β η σ a b).2.2.2 7), wB E (bd 8) ((fX6_plan β η σ a b).2.2.2 8), wB E (bd 9) ((fX6_plan β η σ a b).2.2.2 9), wM E am ((fX7_plan μ a b).2), wO E ao (vp_updL o 0 ((fX7_plan μ a b).1).toInt64)]) (st1 := [.int (fX7_thrown ((fX7_plan μ a b).2))]) [] [14] (kX7_thrown l E am ((fX7_plan μ a b).2)) caX7_thrown q6_116 rfl ⟨Nat.le_of_ble_eq_true rfl, Nat.le_of_ble_eq_true rfl⟩ ⟨hk, hn⟩ 14 0 rfl rfl rfl rfl (by decide) rfl rfl rfl rfl (Nat.le_of_ble_eq_true rfl) dL_law_918 rfl ?_
    refine g_iload C dL_law_921 1 rfl ?_
    refine g_icmp_eq C 928 dL_law_923 (by decide) (fun _ => ?_) (fun c => absurd ht c)
    refine g_iload C dL_law_928 1 rfl ?_
    refine g_if_ne C 945 dL_law_930 (by decide) (fun c => absurd rfl c) (fun _ => ?_)
    refine g_aload_n C dL_law_933 rfl 5 rfl ?_
    refine g_iconst C (v := 0) dL_law_934 (by decide) ?_
    refine g_laldn C 15 0 0 rfl rfl rfl (by decide) (by decide) dL_law_935 ?_
    refine g_iload C dL_law_936 0 rfl ?_
    refine g_i2l C dL_law_938 ?_
    refine g_lcmp C dL_law_939 ?_
    refine g_if_eq C 945 dL_law_940 (by decide) (fun _ => ?_) (fun c => absurd law_cmp c)
    refine g_goto C 3840 dL_law_945 (by decide) ?_
    exact g_sub [2, 3, 4, 5, 6] rfl (next ((fX6_plan β η σ a b).2.1) τ γ ((fX6_plan β η σ a b).2.2.1) ((fX6_plan β η σ a b).2.2.2) θ ((fX7_plan μ a b).2) (vp_updL o 0 ((fX7_plan μ a b).1).toInt64) hR2)
  · skip
    refine g_aload_n C dL_law_880 rfl 1 rfl ?_
    refine g_aload_n C dL_law_881 rfl 0 rfl ?_
    refine g_iload C dL_law_882 4 rfl ?_
    refine g_iconst C (v := 1) dL_law_884 (by decide) ?_
    refine g_iadd C dL_law_885 ?_
    refine g_sldv C S (i + 1) (nx_add (rfl : nI i = nI i) (rfl : (1 : Int32) = nI 1)) (by omega) ha9 dL_law_886 ?_
    refine g_aload_n C dL_law_887 rfl 0 rfl ?_
    refine g_iload C dL_law_888 4 rfl ?_
    refine g_iconst C (v := 2) dL_law_890 (by decide) ?_
    refine g_iadd C dL_law_891 ?_
    refine g_sldv C S (i + 2) (nx_add (rfl : nI i = nI i) (rfl : (2 : Int32) = nI 2)) (by omega) hb9 dL_law_892 ?_
    refine g_aload_n C dL_law_893 rfl 3 rfl ?_
    refine g_callSW C hZ hNc (z := 4) (cs1 := [wX ax (bo 0) (tr 0) (ac 0) (ah 0) (at_ 0), wB E bo ((fX6_plan β η σ a b).2.1), wB E tr τ, wC E ac γ, wH E ah bd ((fX6_plan β η σ a b).2.2.1), wT E at_ θ, wB E (bd 2) ((fX6_plan β η σ a b).2.2.2 2), wB E (bd 3) ((fX6_plan β η σ a b).2.2.2 3), wB E (bd 4) ((fX6_plan β η σ a b).2.2.2 4), wB E (bd 5) ((fX6_plan β η σ a b).2.2.2 5), wB E (bd 6) ((fX6_plan β η σ a b).2.2.2 6), wB E (bd 7) ((fX6_plan β η σ a b).2.2.2 7), wB E (bd 8) ((fX6_plan β η σ a b).2.2.2 8), wB E (bd 9) ((fX6_plan β η σ a b).2.2.2 9), wM E am μ, wO E ao o]) (st1 := [.int 1]) [.ref ax, .int a, .int b, .ref ao] [0, 1, 2, 3, 4, 5, 6, 7, 8, 9, 10, 11, 12, 13, 15] (kL_plan_0 l E ax bo β tr τ ac γ ah bd η σ at_ θ ao o hlt hvb hvh a b hr) q4_72 q1_0 (by decide +kernel) q4_71 q4_70 rfl ⟨Nat.le_of_ble_eq_true rfl, Nat.le_of_ble_eq_true rfl⟩ ⟨hk, hn⟩ (by decide) rfl rfl rfl rfl (Nat.le_of_ble_eq_true rfl) dL_law_894 rfl ?_
    refine g_istore C (lv1 := [(5, .int 1), (0, .ref b0), (1, .ref ax), (2, .ref (am 0)), (3, .ref ao), (4, .int (nI i))]) dL_law_897 (by decide) rfl ?_
    refine g_aload_n C dL_law_899 rfl 3 rfl ?_
    refine g_aload_n C dL_law_900 rfl 1 rfl ?_
    refine g_iload C dL_law_901 5 rfl ?_
    refine g_iconst C (v := 1) dL_law_903 (by decide) ?_
    refine g_iadd C dL_law_904 ?_
    refine g_sldv C S (i + 1) (nx_add (rfl : nI i = nI i) (rfl : (1 : Int32) = nI 1)) (by omega) ha9 dL_law_905 ?_
    refine g_aload_n C dL_law_906 rfl 1 rfl ?_
    refine g_iload C dL_law_907 5 rfl ?_
    refine g_iconst C (v := 2) dL_law_909 (by decide) ?_
    refine g_iadd C dL_law_910 ?_
    refine g_sldv C S (i + 2) (nx_add (rfl : nI i = nI i) (rfl : (2 : Int32) = nI 2)) (by omega) hb9 dL_law_911 ?_
    refine g_callV C (cs1 := [wX ax (bo 0) (tr 0) (ac 0) (ah 0) (at_ 0), wB E bo ((fX6_plan β η σ a b).2.1), wB E tr τ, wC E ac γ, wH E ah bd ((fX6_plan β η σ a b).2.2.1), wT E at_ θ, wB E (bd 2) ((fX6_plan β η σ a b).2.2.2 2), wB E (bd 3) ((fX6_plan β η σ a b).2.2.2 3), wB E (bd 4) ((fX6_plan β η σ a b).2.2.2 4), wB E (bd 5) ((fX6_plan β η σ a b).2.2.2 5), wB E (bd 6) ((fX6_plan β η σ a b).2.2.2 6), wB E (bd 7) ((fX6_plan β η σ a b).2.2.2 7), wB E (bd 8) ((fX6_plan β η σ a b).2.2.2 8), wB E (bd 9) ((fX6_plan β η σ a b).2.2.2 9), wM E am ((fX7_plan μ a b).2), wO E ao o]) (st1 := [.int ((fX7_plan μ a b).1)]) [.int a, .int b] [14] (kX7_plan l E am μ hvm a b) caX7_plan q6_221 rfl ⟨Nat.le_of_ble_eq_true rfl, Nat.le_of_ble_eq_true rfl⟩ ⟨hk, hn⟩ 14 0 rfl rfl rfl rfl (by decide) rfl rfl rfl rfl (Nat.le_of_ble_eq_true rfl) dL_law_912 rfl ?_
    refine g_istore C (lv1 := [(6, .int ((fX7_plan μ a b).1)), (5, .int 1), (0, .ref b0), (1, .ref ax), (2, .ref (am 0)), (3, .ref ao), (4, .int (nI i))]) dL_law_915 (by decide) rfl ?_
    refine g_aload_n C dL_law_917 rfl 4 rfl ?_
    refine g_callV C (cs1 := [wX ax (bo 0) (tr 0) (ac 0) (ah 0) (at_ 0), wB E bo ((fX6_plan β η σ a b).2.1), wB E tr τ, wC E ac γ, wH E ah bd ((fX6_plan β η σ a b).2.2.1), wT E at_ θ, wB E (bd 2) ((fX6_plan β η σ a b).2.2.2 2), wB E (bd 3) ((fX6_plan β η σ a b).2.2.2 3), wB E (bd 4) ((fX6_plan β η σ a b).2.2.2 4), wB E (bd 5) ((fX6_plan β η σ a b).2.2.2 5), wB E (bd 6) ((fX6_plan β η σ a b).2.2.2 6), wB E (bd 7) ((fX6_plan β η σ a b).2.2.2 7), wB E (bd 8) ((fX6_plan β η σ a b).2.2.2 8), wB E (bd 9) ((fX6_plan β η σ a b).2.2.2 9), wM E am ((fX7_plan μ a b).2), wO E ao o]) (st1 := [.int (fX7_thrown ((fX7_plan μ a b).2))]) [] [14] (kX7_thrown l E am ((fX7_plan μ a b).2)) caX7_thrown q6_116 rfl ⟨Nat.le_of_ble_eq_true rfl, Nat.le_of_ble_eq_true rfl⟩ ⟨hk, hn⟩ 14 0 rfl rfl rfl rfl (by decide) rfl rfl rfl rfl (Nat.le_of_ble_eq_true rfl) dL_law_918 rfl ?_
    refine g_iload C dL_law_921 1 rfl ?_
    refine g_icmp_eq C 928 dL_law_923 (by decide) (fun _ => ?_) (fun c => absurd ht c)
    refine g_iload C dL_law_928 1 rfl ?_
    refine g_if_ne C 945 dL_law_930 (by decide) (fun _ => ?_) (fun c => absurd c (by decide))
    refine g_goto C 3840 dL_law_945 (by decide) ?_
    exact g_sub [2, 3, 4, 5, 6] rfl (next ((fX6_plan β η σ a b).2.1) τ γ ((fX6_plan β η σ a b).2.2.1) ((fX6_plan β η σ a b).2.2.2) θ ((fX7_plan μ a b).2) o hR2)
  · skip
    refine g_aload_n C dL_law_880 rfl 1 rfl ?_
    refine g_aload_n C dL_law_881 rfl 0 rfl ?_
    refine g_iload C dL_law_882 4 rfl ?_
    refine g_iconst C (v := 1) dL_law_884 (by decide) ?_
    refine g_iadd C dL_law_885 ?_
    refine g_sldv C S (i + 1) (nx_add (rfl : nI i = nI i) (rfl : (1 : Int32) = nI 1)) (by omega) ha9 dL_law_886 ?_
    refine g_aload_n C dL_law_887 rfl 0 rfl ?_
    refine g_iload C dL_law_888 4 rfl ?_
    refine g_iconst C (v := 2) dL_law_890 (by decide) ?_
    refine g_iadd C dL_law_891 ?_
    refine g_sldv C S (i + 2) (nx_add (rfl : nI i = nI i) (rfl : (2 : Int32) = nI 2)) (by omega) hb9 dL_law_892 ?_
    refine g_aload_n C dL_law_893 rfl 3 rfl ?_
    refine g_callSW C hZ hNc (z := 4) (cs1 := [wX ax (bo 0) (tr 0) (ac 0) (ah 0) (at_ 0), wB E bo ((fX6_plan β η σ a b).2.1), wB E tr τ, wC E ac γ, wH E ah bd ((fX6_plan β η σ a b).2.2.1), wT E at_ θ, wB E (bd 2) ((fX6_plan β η σ a b).2.2.2 2), wB E (bd 3) ((fX6_plan β η σ a b).2.2.2 3), wB E (bd 4) ((fX6_plan β η σ a b).2.2.2 4), wB E (bd 5) ((fX6_plan β η σ a b).2.2.2 5), wB E (bd 6) ((fX6_plan β η σ a b).2.2.2 6), wB E (bd 7) ((fX6_plan β η σ a b).2.2.2 7), wB E (bd 8) ((fX6_plan β η σ a b).2.2.2 8), wB E (bd 9) ((fX6_plan β η σ a b).2.2.2 9), wM E am μ, wO E ao o]) (st1 := [.int 2]) [.ref ax, .int a, .int b, .ref ao] [0, 1, 2, 3, 4, 5, 6, 7, 8, 9, 10, 11, 12, 13, 15] (kL_plan_1 l E ax bo β tr τ ac γ ah bd η σ at_ θ ao o hlt hvb hvh a b hr) q4_72 q1_0 (by decide +kernel) q4_71 q4_70 rfl ⟨Nat.le_of_ble_eq_true rfl, Nat.le_of_ble_eq_true rfl⟩ ⟨hk, hn⟩ (by decide) rfl rfl rfl rfl (Nat.le_of_ble_eq_true rfl) dL_law_894 rfl ?_
    refine g_istore C (lv1 := [(5, .int 2), (0, .ref b0), (1, .ref ax), (2, .ref (am 0)), (3, .ref ao), (4, .int (nI i))]) dL_law_897 (by decide) rfl ?_
    refine g_aload_n C dL_law_899 rfl 3 rfl ?_
    refine g_aload_n C dL_law_900 rfl 1 rfl ?_
    refine g_iload C dL_law_901 5 rfl ?_
    refine g_iconst C (v := 1) dL_law_903 (by decide) ?_
    refine g_iadd C dL_law_904 ?_
    refine g_sldv C S (i + 1) (nx_add (rfl : nI i = nI i) (rfl : (1 : Int32) = nI 1)) (by omega) ha9 dL_law_905 ?_
    refine g_aload_n C dL_law_906 rfl 1 rfl ?_
    refine g_iload C dL_law_907 5 rfl ?_
    refine g_iconst C (v := 2) dL_law_909 (by decide) ?_
    refine g_iadd C dL_law_910 ?_
    refine g_sldv C S (i + 2) (nx_add (rfl : nI i = nI i) (rfl : (2 : Int32) = nI 2)) (by omega) hb9 dL_law_911 ?_
    refine g_callV C (cs1 := [wX ax (bo 0) (tr 0) (ac 0) (ah 0) (at_ 0), wB E bo ((fX6_plan β η σ a b).2.1), wB E tr τ, wC E ac γ, wH E ah bd ((fX6_plan β η σ a b).2.2.1), wT E at_ θ, wB E (bd 2) ((fX6_plan β η σ a b).2.2.2 2), wB E (bd 3) ((fX6_plan β η σ a b).2.2.2 3), wB E (bd 4) ((fX6_plan β η σ a b).2.2.2 4), wB E (bd 5) ((fX6_plan β η σ a b).2.2.2 5), wB E (bd 6) ((fX6_plan β η σ a b).2.2.2 6), wB E (bd 7) ((fX6_plan β η σ a b).2.2.2 7), wB E (bd 8) ((fX6_plan β η σ a b).2.2.2 8), wB E (bd 9) ((fX6_plan β η σ a b).2.2.2 9), wM E am ((fX7_plan μ a b).2), wO E ao o]) (st1 := [.int ((fX7_plan μ a b).1)]) [.int a, .int b] [14] (kX7_plan l E am μ hvm a b) caX7_plan q6_221 rfl ⟨Nat.le_of_ble_eq_true rfl, Nat.le_of_ble_eq_true rfl⟩ ⟨hk, hn⟩ 14 0 rfl rfl rfl rfl (by decide) rfl rfl rfl rfl (Nat.le_of_ble_eq_true rfl) dL_law_912 rfl ?_
    refine g_istore C (lv1 := [(6, .int ((fX7_plan μ a b).1)), (5, .int 2), (0, .ref b0), (1, .ref ax), (2, .ref (am 0)), (3, .ref ao), (4, .int (nI i))]) dL_law_915 (by decide) rfl ?_
    refine g_aload_n C dL_law_917 rfl 4 rfl ?_
    refine g_callV C (cs1 := [wX ax (bo 0) (tr 0) (ac 0) (ah 0) (at_ 0), wB E bo ((fX6_plan β η σ a b).2.1), wB E tr τ, wC E ac γ, wH E ah bd ((fX6_plan β η σ a b).2.2.1), wT E at_ θ, wB E (bd 2) ((fX6_plan β η σ a b).2.2.2 2), wB E (bd 3) ((fX6_plan β η σ a b).2.2.2 3), wB E (bd 4) ((fX6_plan β η σ a b).2.2.2 4), wB E (bd 5) ((fX6_plan β η σ a b).2.2.2 5), wB E (bd 6) ((fX6_plan β η σ a b).2.2.2 6), wB E (bd 7) ((fX6_plan β η σ a b).2.2.2 7), wB E (bd 8) ((fX6_plan β η σ a b).2.2.2 8), wB E (bd 9) ((fX6_plan β η σ a b).2.2.2 9), wM E am ((fX7_plan μ a b).2), wO E ao o]) (st1 := [.int (fX7_thrown ((fX7_plan μ a b).2))]) [] [14] (kX7_thrown l E am ((fX7_plan μ a b).2)) caX7_thrown q6_116 rfl ⟨Nat.le_of_ble_eq_true rfl, Nat.le_of_ble_eq_true rfl⟩ ⟨hk, hn⟩ 14 0 rfl rfl rfl rfl (by decide) rfl rfl rfl rfl (Nat.le_of_ble_eq_true rfl) dL_law_918 rfl ?_
    refine g_iload C dL_law_921 1 rfl ?_
    refine g_icmp_eq C 928 dL_law_923 (by decide) (fun _ => ?_) (fun c => absurd ht c)
    refine g_iload C dL_law_928 1 rfl ?_
    refine g_if_ne C 945 dL_law_930 (by decide) (fun _ => ?_) (fun c => absurd c (by decide))
    refine g_goto C 3840 dL_law_945 (by decide) ?_
    exact g_sub [2, 3, 4, 5, 6] rfl (next ((fX6_plan β η σ a b).2.1) τ γ ((fX6_plan β η σ a b).2.2.1) ((fX6_plan β η σ a b).2.2.2) θ ((fX7_plan μ a b).2) o hR2)
set_option maxHeartbeats 4000000 in
set_option maxRecDepth 100000 in
theorem arm_9 {Rl : RlT} (hRv : RlV Rl) (hs : sH_unplan Rl)  {X : gX} {l : Launch} {E : gE} (C : gC X cL_law 9 RL (some .boolean) l E room_1) (hZ : gZ X.2.2.2.2.2.2.2.2.2.2.2.1 X.2.2.2.2.1 X.2.2.2.2.1.heap) (hNc : gNc X.2.2.2.2.1) {b0 L0 : Nat} {xs : Nat → Int32} (S : gS X b0 L0 xs) (hlt : l.stackTraces = false) {ax : Nat} {bo tr ac ah : Nat → Nat} {bd : Nat → Nat → Nat} {at_ am : Nat → Nat} {ao k n i : Nat} (hk : k + 3 ≤ 601024) (hn : n + 18 ≤ 7293034) (hi : i + 3 ≤ L0) {β τ γ η : BS} {σ : Nat → BS} {θ μ : BS} {o : Nat → Int64} (hR : Rl β η θ σ μ) (next : ∀ (β τ γ η : BS) (σ : Nat → BS) (θ μ : BS) (o : Nat → Int64), Rl β η θ σ μ → G X (k + 3) (n + 18) [wX ax (bo 0) (tr 0) (ac 0) (ah 0) (at_ 0), wB E bo β, wB E tr τ, wC E ac γ, wH E ah bd η, wT E at_ θ, wB E (bd 2) (σ 2), wB E (bd 3) (σ 3), wB E (bd 4) (σ 4), wB E (bd 5) (σ 5), wB E (bd 6) (σ 6), wB E (bd 7) (σ 7), wB E (bd 8) (σ 8), wB E (bd 9) (σ 9), wM E am μ, wO E ao o] [(0, .ref b0), (1, .ref ax), (2, .ref (am 0)), (3, .ref ao), (4, .int (nI i))] 3840 []) : G X k n [wX ax (bo 0) (tr 0) (ac 0) (ah 0) (at_ 0), wB E bo β, wB E tr τ, wC E ac γ, wH E ah bd η, wT E at_ θ, wB E (bd 2) (σ 2), wB E (bd 3) (σ 3), wB E (bd 4) (σ 4), wB E (bd 5) (σ 5), wB E (bd 6) (σ 6), wB E (bd 7) (σ 7), wB E (bd 8) (σ 8), wB E (bd 9) (σ 9), wM E am μ, wO E ao o] [(0, .ref b0), (1, .ref ax), (2, .ref (am 0)), (3, .ref ao), (4, .int (nI i))] 948 [] := by
  obtain ⟨hvb, hvh, hvt, hvm, ha⟩ := hRv β η θ σ μ hR
  obtain ⟨a, ha9⟩ : ∃ a, xs (i + 1) = a := ⟨_, rfl⟩
  obtain ⟨hag, hR2⟩ := hs β τ γ η σ θ μ a hR
  rcases hag with ⟨hr, ht⟩ | ⟨hr, ht⟩ | ⟨hr, ht⟩
  · skip
    refine g_aload_n C dL_law_948 rfl 1 rfl ?_
    refine g_aload_n C dL_law_949 rfl 0 rfl ?_
    refine g_iload C dL_law_950 4 rfl ?_
    refine g_iconst C (v := 1) dL_law_952 (by decide) ?_
    refine g_iadd C dL_law_953 ?_
    refine g_sldv C S (i + 1) (nx_add (rfl : nI i = nI i) (rfl : (1 : Int32) = nI 1)) (by omega) ha9 dL_law_954 ?_
    refine g_aload_n C dL_law_955 rfl 3 rfl ?_
    refine g_callSW C hZ hNc (z := 3) (cs1 := [wX ax (bo 0) (tr 0) (ac 0) (ah 0) (at_ 0), wB E bo ((fX6_unplan β η σ a).2.1), wB E tr τ, wC E ac γ, wH E ah bd ((fX6_unplan β η σ a).2.2.1), wT E at_ θ, wB E (bd 2) ((fX6_unplan β η σ a).2.2.2 2), wB E (bd 3) ((fX6_unplan β η σ a).2.2.2 3), wB E (bd 4) ((fX6_unplan β η σ a).2.2.2 4), wB E (bd 5) ((fX6_unplan β η σ a).2.2.2 5), wB E (bd 6) ((fX6_unplan β η σ a).2.2.2 6), wB E (bd 7) ((fX6_unplan β η σ a).2.2.2 7), wB E (bd 8) ((fX6_unplan β η σ a).2.2.2 8), wB E (bd 9) ((fX6_unplan β η σ a).2.2.2 9), wM E am μ, wO E ao (vp_updL o 0 ((fX7_unplan μ a).1).toInt64)]) (st1 := [.int 0]) [.ref ax, .int a, .ref ao] [0, 1, 2, 3, 4, 5, 6, 7, 8, 9, 10, 11, 12, 13, 15] (kL_unplan_r l E ax bo β tr τ ac γ ah bd η σ at_ θ ao o hlt hvb hvh a ((fX7_unplan μ a).1) hr) q4_83 q1_0 (by decide +kernel) q4_82 q4_81 rfl ⟨Nat.le_of_ble_eq_true rfl, Nat.le_of_ble_eq_true rfl⟩ ⟨hk, hn⟩ (by decide) rfl rfl rfl rfl (Nat.le_of_ble_eq_true rfl) dL_law_956 rfl ?_
    refine g_istore C (lv1 := [(5, .int 0), (0, .ref b0), (1, .ref ax), (2, .ref (am 0)), (3, .ref ao), (4, .int (nI i))]) dL_law_959 (by decide) rfl ?_
    refine g_aload_n C dL_law_961 rfl 3 rfl ?_
    refine g_aload_n C dL_law_962 rfl 1 rfl ?_
    refine g_iload C dL_law_963 5 rfl ?_
    refine g_iconst C (v := 1) dL_law_965 (by decide) ?_
    refine g_iadd C dL_law_966 ?_
    refine g_sldv C S (i + 1) (nx_add (rfl : nI i = nI i) (rfl : (1 : Int32) = nI 1)) (by omega) ha9 dL_law_967 ?_
    refine g_callV C (cs1 := [wX ax (bo 0) (tr 0) (ac 0) (ah 0) (at_ 0), wB E bo ((fX6_unplan β η σ a).2.1), wB E tr τ, wC E ac γ, wH E ah bd ((fX6_unplan β η σ a).2.2.1), wT E at_ θ, wB E (bd 2) ((fX6_unplan β η σ a).2.2.2 2), wB E (bd 3) ((fX6_unplan β η σ a).2.2.2 3), wB E (bd 4) ((fX6_unplan β η σ a).2.2.2 4), wB E (bd 5) ((fX6_unplan β η σ a).2.2.2 5), wB E (bd 6) ((fX6_unplan β η σ a).2.2.2 6), wB E (bd 7) ((fX6_unplan β η σ a).2.2.2 7), wB E (bd 8) ((fX6_unplan β η σ a).2.2.2 8), wB E (bd 9) ((fX6_unplan β η σ a).2.2.2 9), wM E am ((fX7_unplan μ a).2), wO E ao (vp_updL o 0 ((fX7_unplan μ a).1).toInt64)]) (st1 := [.int ((fX7_unplan μ a).1)]) [.int a] [14] (kX7_unplan l E am μ hvm a) caX7_unplan q6_232 rfl ⟨Nat.le_of_ble_eq_true rfl, Nat.le_of_ble_eq_true rfl⟩ ⟨hk, hn⟩ 14 0 rfl rfl rfl rfl (by decide) rfl rfl rfl rfl (Nat.le_of_ble_eq_true rfl) dL_law_968 rfl ?_
    refine g_istore C (lv1 := [(6, .int ((fX7_unplan μ a).1)), (5, .int 0), (0, .ref b0), (1, .ref ax), (2, .ref (am 0)), (3, .ref ao), (4, .int (nI i))]) dL_law_971 (by decide) rfl ?_
    refine g_aload_n C dL_law_973 rfl 4 rfl ?_
    refine g_callV C (cs1 := [wX ax (bo 0) (tr 0) (ac 0) (ah 0) (at_ 0), wB E bo ((fX6_unplan β η σ a).2.1), wB E tr τ, wC E ac γ, wH E ah bd ((fX6_unplan β η σ a).2.2.1), wT E at_ θ, wB E (bd 2) ((fX6_unplan β η σ a).2.2.2 2), wB E (bd 3) ((fX6_unplan β η σ a).2.2.2 3), wB E (bd 4) ((fX6_unplan β η σ a).2.2.2 4), wB E (bd 5) ((fX6_unplan β η σ a).2.2.2 5), wB E (bd 6) ((fX6_unplan β η σ a).2.2.2 6), wB E (bd 7) ((fX6_unplan β η σ a).2.2.2 7), wB E (bd 8) ((fX6_unplan β η σ a).2.2.2 8), wB E (bd 9) ((fX6_unplan β η σ a).2.2.2 9), wM E am ((fX7_unplan μ a).2), wO E ao (vp_updL o 0 ((fX7_unplan μ a).1).toInt64)]) (st1 := [.int (fX7_thrown ((fX7_unplan μ a).2))]) [] [14] (kX7_thrown l E am ((fX7_unplan μ a).2)) caX7_thrown q6_116 rfl ⟨Nat.le_of_ble_eq_true rfl, Nat.le_of_ble_eq_true rfl⟩ ⟨hk, hn⟩ 14 0 rfl rfl rfl rfl (by decide) rfl rfl rfl rfl (Nat.le_of_ble_eq_true rfl) dL_law_974 rfl ?_
    refine g_iload C dL_law_977 1 rfl ?_
    refine g_icmp_eq C 984 dL_law_979 (by decide) (fun _ => ?_) (fun c => absurd ht c)
    refine g_iload C dL_law_984 1 rfl ?_
    refine g_if_ne C 1001 dL_law_986 (by decide) (fun c => absurd rfl c) (fun _ => ?_)
    refine g_aload_n C dL_law_989 rfl 5 rfl ?_
    refine g_iconst C (v := 0) dL_law_990 (by decide) ?_
    refine g_laldn C 15 0 0 rfl rfl rfl (by decide) (by decide) dL_law_991 ?_
    refine g_iload C dL_law_992 0 rfl ?_
    refine g_i2l C dL_law_994 ?_
    refine g_lcmp C dL_law_995 ?_
    refine g_if_eq C 1001 dL_law_996 (by decide) (fun _ => ?_) (fun c => absurd law_cmp c)
    refine g_goto C 3840 dL_law_1001 (by decide) ?_
    exact g_sub [2, 3, 4, 5, 6] rfl (next ((fX6_unplan β η σ a).2.1) τ γ ((fX6_unplan β η σ a).2.2.1) ((fX6_unplan β η σ a).2.2.2) θ ((fX7_unplan μ a).2) (vp_updL o 0 ((fX7_unplan μ a).1).toInt64) hR2)
  · skip
    refine g_aload_n C dL_law_948 rfl 1 rfl ?_
    refine g_aload_n C dL_law_949 rfl 0 rfl ?_
    refine g_iload C dL_law_950 4 rfl ?_
    refine g_iconst C (v := 1) dL_law_952 (by decide) ?_
    refine g_iadd C dL_law_953 ?_
    refine g_sldv C S (i + 1) (nx_add (rfl : nI i = nI i) (rfl : (1 : Int32) = nI 1)) (by omega) ha9 dL_law_954 ?_
    refine g_aload_n C dL_law_955 rfl 3 rfl ?_
    refine g_callSW C hZ hNc (z := 3) (cs1 := [wX ax (bo 0) (tr 0) (ac 0) (ah 0) (at_ 0), wB E bo ((fX6_unplan β η σ a).2.1), wB E tr τ, wC E ac γ, wH E ah bd ((fX6_unplan β η σ a).2.2.1), wT E at_ θ, wB E (bd 2) ((fX6_unplan β η σ a).2.2.2 2), wB E (bd 3) ((fX6_unplan β η σ a).2.2.2 3), wB E (bd 4) ((fX6_unplan β η σ a).2.2.2 4), wB E (bd 5) ((fX6_unplan β η σ a).2.2.2 5), wB E (bd 6) ((fX6_unplan β η σ a).2.2.2 6), wB E (bd 7) ((fX6_unplan β η σ a).2.2.2 7), wB E (bd 8) ((fX6_unplan β η σ a).2.2.2 8), wB E (bd 9) ((fX6_unplan β η σ a).2.2.2 9), wM E am μ, wO E ao o]) (st1 := [.int 1]) [.ref ax, .int a, .ref ao] [0, 1, 2, 3, 4, 5, 6, 7, 8, 9, 10, 11, 12, 13, 15] (kL_unplan_0 l E ax bo β tr τ ac γ ah bd η σ at_ θ ao o hlt hvb hvh a hr) q4_83 q1_0 (by decide +kernel) q4_82 q4_81 rfl ⟨Nat.le_of_ble_eq_true rfl, Nat.le_of_ble_eq_true rfl⟩ ⟨hk, hn⟩ (by decide) rfl rfl rfl rfl (Nat.le_of_ble_eq_true rfl) dL_law_956 rfl ?_
    refine g_istore C (lv1 := [(5, .int 1), (0, .ref b0), (1, .ref ax), (2, .ref (am 0)), (3, .ref ao), (4, .int (nI i))]) dL_law_959 (by decide) rfl ?_
    refine g_aload_n C dL_law_961 rfl 3 rfl ?_
    refine g_aload_n C dL_law_962 rfl 1 rfl ?_
    refine g_iload C dL_law_963 5 rfl ?_
    refine g_iconst C (v := 1) dL_law_965 (by decide) ?_
    refine g_iadd C dL_law_966 ?_
    refine g_sldv C S (i + 1) (nx_add (rfl : nI i = nI i) (rfl : (1 : Int32) = nI 1)) (by omega) ha9 dL_law_967 ?_
    refine g_callV C (cs1 := [wX ax (bo 0) (tr 0) (ac 0) (ah 0) (at_ 0), wB E bo ((fX6_unplan β η σ a).2.1), wB E tr τ, wC E ac γ, wH E ah bd ((fX6_unplan β η σ a).2.2.1), wT E at_ θ, wB E (bd 2) ((fX6_unplan β η σ a).2.2.2 2), wB E (bd 3) ((fX6_unplan β η σ a).2.2.2 3), wB E (bd 4) ((fX6_unplan β η σ a).2.2.2 4), wB E (bd 5) ((fX6_unplan β η σ a).2.2.2 5), wB E (bd 6) ((fX6_unplan β η σ a).2.2.2 6), wB E (bd 7) ((fX6_unplan β η σ a).2.2.2 7), wB E (bd 8) ((fX6_unplan β η σ a).2.2.2 8), wB E (bd 9) ((fX6_unplan β η σ a).2.2.2 9), wM E am ((fX7_unplan μ a).2), wO E ao o]) (st1 := [.int ((fX7_unplan μ a).1)]) [.int a] [14] (kX7_unplan l E am μ hvm a) caX7_unplan q6_232 rfl ⟨Nat.le_of_ble_eq_true rfl, Nat.le_of_ble_eq_true rfl⟩ ⟨hk, hn⟩ 14 0 rfl rfl rfl rfl (by decide) rfl rfl rfl rfl (Nat.le_of_ble_eq_true rfl) dL_law_968 rfl ?_
    refine g_istore C (lv1 := [(6, .int ((fX7_unplan μ a).1)), (5, .int 1), (0, .ref b0), (1, .ref ax), (2, .ref (am 0)), (3, .ref ao), (4, .int (nI i))]) dL_law_971 (by decide) rfl ?_
    refine g_aload_n C dL_law_973 rfl 4 rfl ?_
    refine g_callV C (cs1 := [wX ax (bo 0) (tr 0) (ac 0) (ah 0) (at_ 0), wB E bo ((fX6_unplan β η σ a).2.1), wB E tr τ, wC E ac γ, wH E ah bd ((fX6_unplan β η σ a).2.2.1), wT E at_ θ, wB E (bd 2) ((fX6_unplan β η σ a).2.2.2 2), wB E (bd 3) ((fX6_unplan β η σ a).2.2.2 3), wB E (bd 4) ((fX6_unplan β η σ a).2.2.2 4), wB E (bd 5) ((fX6_unplan β η σ a).2.2.2 5), wB E (bd 6) ((fX6_unplan β η σ a).2.2.2 6), wB E (bd 7) ((fX6_unplan β η σ a).2.2.2 7), wB E (bd 8) ((fX6_unplan β η σ a).2.2.2 8), wB E (bd 9) ((fX6_unplan β η σ a).2.2.2 9), wM E am ((fX7_unplan μ a).2), wO E ao o]) (st1 := [.int (fX7_thrown ((fX7_unplan μ a).2))]) [] [14] (kX7_thrown l E am ((fX7_unplan μ a).2)) caX7_thrown q6_116 rfl ⟨Nat.le_of_ble_eq_true rfl, Nat.le_of_ble_eq_true rfl⟩ ⟨hk, hn⟩ 14 0 rfl rfl rfl rfl (by decide) rfl rfl rfl rfl (Nat.le_of_ble_eq_true rfl) dL_law_974 rfl ?_
    refine g_iload C dL_law_977 1 rfl ?_
    refine g_icmp_eq C 984 dL_law_979 (by decide) (fun _ => ?_) (fun c => absurd ht c)
    refine g_iload C dL_law_984 1 rfl ?_
    refine g_if_ne C 1001 dL_law_986 (by decide) (fun _ => ?_) (fun c => absurd c (by decide))
    refine g_goto C 3840 dL_law_1001 (by decide) ?_
    exact g_sub [2, 3, 4, 5, 6] rfl (next ((fX6_unplan β η σ a).2.1) τ γ ((fX6_unplan β η σ a).2.2.1) ((fX6_unplan β η σ a).2.2.2) θ ((fX7_unplan μ a).2) o hR2)
  · skip
    refine g_aload_n C dL_law_948 rfl 1 rfl ?_
    refine g_aload_n C dL_law_949 rfl 0 rfl ?_
    refine g_iload C dL_law_950 4 rfl ?_
    refine g_iconst C (v := 1) dL_law_952 (by decide) ?_
    refine g_iadd C dL_law_953 ?_
    refine g_sldv C S (i + 1) (nx_add (rfl : nI i = nI i) (rfl : (1 : Int32) = nI 1)) (by omega) ha9 dL_law_954 ?_
    refine g_aload_n C dL_law_955 rfl 3 rfl ?_
    refine g_callSW C hZ hNc (z := 3) (cs1 := [wX ax (bo 0) (tr 0) (ac 0) (ah 0) (at_ 0), wB E bo ((fX6_unplan β η σ a).2.1), wB E tr τ, wC E ac γ, wH E ah bd ((fX6_unplan β η σ a).2.2.1), wT E at_ θ, wB E (bd 2) ((fX6_unplan β η σ a).2.2.2 2), wB E (bd 3) ((fX6_unplan β η σ a).2.2.2 3), wB E (bd 4) ((fX6_unplan β η σ a).2.2.2 4), wB E (bd 5) ((fX6_unplan β η σ a).2.2.2 5), wB E (bd 6) ((fX6_unplan β η σ a).2.2.2 6), wB E (bd 7) ((fX6_unplan β η σ a).2.2.2 7), wB E (bd 8) ((fX6_unplan β η σ a).2.2.2 8), wB E (bd 9) ((fX6_unplan β η σ a).2.2.2 9), wM E am μ, wO E ao o]) (st1 := [.int 2]) [.ref ax, .int a, .ref ao] [0, 1, 2, 3, 4, 5, 6, 7, 8, 9, 10, 11, 12, 13, 15] (kL_unplan_1 l E ax bo β tr τ ac γ ah bd η σ at_ θ ao o hlt hvb hvh a hr) q4_83 q1_0 (by decide +kernel) q4_82 q4_81 rfl ⟨Nat.le_of_ble_eq_true rfl, Nat.le_of_ble_eq_true rfl⟩ ⟨hk, hn⟩ (by decide) rfl rfl rfl rfl (Nat.le_of_ble_eq_true rfl) dL_law_956 rfl ?_
    refine g_istore C (lv1 := [(5, .int 2), (0, .ref b0), (1, .ref ax), (2, .ref (am 0)), (3, .ref ao), (4, .int (nI i))]) dL_law_959 (by decide) rfl ?_
    refine g_aload_n C dL_law_961 rfl 3 rfl ?_
    refine g_aload_n C dL_law_962 rfl 1 rfl ?_
    refine g_iload C dL_law_963 5 rfl ?_
    refine g_iconst C (v := 1) dL_law_965 (by decide) ?_
    refine g_iadd C dL_law_966 ?_
    refine g_sldv C S (i + 1) (nx_add (rfl : nI i = nI i) (rfl : (1 : Int32) = nI 1)) (by omega) ha9 dL_law_967 ?_
    refine g_callV C (cs1 := [wX ax (bo 0) (tr 0) (ac 0) (ah 0) (at_ 0), wB E bo ((fX6_unplan β η σ a).2.1), wB E tr τ, wC E ac γ, wH E ah bd ((fX6_unplan β η σ a).2.2.1), wT E at_ θ, wB E (bd 2) ((fX6_unplan β η σ a).2.2.2 2), wB E (bd 3) ((fX6_unplan β η σ a).2.2.2 3), wB E (bd 4) ((fX6_unplan β η σ a).2.2.2 4), wB E (bd 5) ((fX6_unplan β η σ a).2.2.2 5), wB E (bd 6) ((fX6_unplan β η σ a).2.2.2 6), wB E (bd 7) ((fX6_unplan β η σ a).2.2.2 7), wB E (bd 8) ((fX6_unplan β η σ a).2.2.2 8), wB E (bd 9) ((fX6_unplan β η σ a).2.2.2 9), wM E am ((fX7_unplan μ a).2), wO E ao o]) (st1 := [.int ((fX7_unplan μ a).1)]) [.int a] [14] (kX7_unplan l E am μ hvm a) caX7_unplan q6_232 rfl ⟨Nat.le_of_ble_eq_true rfl, Nat.le_of_ble_eq_true rfl⟩ ⟨hk, hn⟩ 14 0 rfl rfl rfl rfl (by decide) rfl rfl rfl rfl (Nat.le_of_ble_eq_true rfl) dL_law_968 rfl ?_
    refine g_istore C (lv1 := [(6, .int ((fX7_unplan μ a).1)), (5, .int 2), (0, .ref b0), (1, .ref ax), (2, .ref (am 0)), (3, .ref ao), (4, .int (nI i))]) dL_law_971 (by decide) rfl ?_
    refine g_aload_n C dL_law_973 rfl 4 rfl ?_
    refine g_callV C (cs1 := [wX ax (bo 0) (tr 0) (ac 0) (ah 0) (at_ 0), wB E bo ((fX6_unplan β η σ a).2.1), wB E tr τ, wC E ac γ, wH E ah bd ((fX6_unplan β η σ a).2.2.1), wT E at_ θ, wB E (bd 2) ((fX6_unplan β η σ a).2.2.2 2), wB E (bd 3) ((fX6_unplan β η σ a).2.2.2 3), wB E (bd 4) ((fX6_unplan β η σ a).2.2.2 4), wB E (bd 5) ((fX6_unplan β η σ a).2.2.2 5), wB E (bd 6) ((fX6_unplan β η σ a).2.2.2 6), wB E (bd 7) ((fX6_unplan β η σ a).2.2.2 7), wB E (bd 8) ((fX6_unplan β η σ a).2.2.2 8), wB E (bd 9) ((fX6_unplan β η σ a).2.2.2 9), wM E am ((fX7_unplan μ a).2), wO E ao o]) (st1 := [.int (fX7_thrown ((fX7_unplan μ a).2))]) [] [14] (kX7_thrown l E am ((fX7_unplan μ a).2)) caX7_thrown q6_116 rfl ⟨Nat.le_of_ble_eq_true rfl, Nat.le_of_ble_eq_true rfl⟩ ⟨hk, hn⟩ 14 0 rfl rfl rfl rfl (by decide) rfl rfl rfl rfl (Nat.le_of_ble_eq_true rfl) dL_law_974 rfl ?_
    refine g_iload C dL_law_977 1 rfl ?_
    refine g_icmp_eq C 984 dL_law_979 (by decide) (fun _ => ?_) (fun c => absurd ht c)
    refine g_iload C dL_law_984 1 rfl ?_
    refine g_if_ne C 1001 dL_law_986 (by decide) (fun _ => ?_) (fun c => absurd c (by decide))
    refine g_goto C 3840 dL_law_1001 (by decide) ?_
    exact g_sub [2, 3, 4, 5, 6] rfl (next ((fX6_unplan β η σ a).2.1) τ γ ((fX6_unplan β η σ a).2.2.1) ((fX6_unplan β η σ a).2.2.2) θ ((fX7_unplan μ a).2) o hR2)
