set_option maxHeartbeats 4000000 in
set_option maxRecDepth 100000 in
theorem arm_0 {Rl : RlT} (hRv : RlV Rl) (hs : sH_openTicket Rl)  {X : gX} {l : Launch} {E : gE} (C : gC X cL_law 9 RL (some .boolean) l E room_1) (hZ : gZ X.2.2.2.2.2.2.2.2.2.2.2.1 X.2.2.2.2.1 X.2.2.2.2.1.heap) (hNc : gNc X.2.2.2.2.1) {b0 L0 : Nat} {xs : Nat → Int32} (S : gS X b0 L0 xs) (hlt : l.stackTraces = false) {ax : Nat} {bo tr ac ah : Nat → Nat} {bd : Nat → Nat → Nat} {at_ am : Nat → Nat} {ao k n i : Nat} (hk : k + 3 ≤ 601024) (hn : n + 18 ≤ 7293034) (hi : i + 3 ≤ L0) {β τ γ η : BS} {σ : Nat → BS} {θ μ : BS} {o : Nat → Int64} (hR : Rl β η θ σ μ) (next : ∀ (β τ γ η : BS) (σ : Nat → BS) (θ μ : BS) (o : Nat → Int64), Rl β η θ σ μ → G X (k + 3) (n + 18) [wX ax (bo 0) (tr 0) (ac 0) (ah 0) (at_ 0), wB E bo β, wB E tr τ, wC E ac γ, wH E ah bd η, wT E at_ θ, wB E (bd 2) (σ 2), wB E (bd 3) (σ 3), wB E (bd 4) (σ 4), wB E (bd 5) (σ 5), wB E (bd 6) (σ 6), wB E (bd 7) (σ 7), wB E (bd 8) (σ 8), wB E (bd 9) (σ 9), wM E am μ, wO E ao o] [(0, .ref b0), (1, .ref ax), (2, .ref (am 0)), (3, .ref ao), (4, .int (nI i))] 3840 []) : G X k n [wX ax (bo 0) (tr 0) (ac 0) (ah 0) (at_ 0), wB E bo β, wB E tr τ, wC E ac γ, wH E ah bd η, wT E at_ θ, wB E (bd 2) (σ 2), wB E (bd 3) (σ 3), wB E (bd 4) (σ 4), wB E (bd 5) (σ 5), wB E (bd 6) (σ 6), wB E (bd 7) (σ 7), wB E (bd 8) (σ 8), wB E (bd 9) (σ 9), wM E am μ, wO E ao o] [(0, .ref b0), (1, .ref ax), (2, .ref (am 0)), (3, .ref ao), (4, .int (nI i))] 348 [] := by
  obtain ⟨hvb, hvh, hvt, hvm, ha⟩ := hRv β η θ σ μ hR
  obtain ⟨a, ha9⟩ : ∃ a, xs (i + 1) = a := ⟨_, rfl⟩
  obtain ⟨b, hb9⟩ : ∃ b, xs (i + 2) = b := ⟨_, rfl⟩
  obtain ⟨hag, hR2⟩ := hs β τ γ η σ θ μ a b hR
  rcases hag with ⟨hr, ht⟩ | ⟨hr, ht⟩ | ⟨hr, ht⟩
  · skip
    refine g_aload_n C dL_law_348 rfl 1 rfl ?_
    refine g_aload_n C dL_law_349 rfl 0 rfl ?_
    refine g_iload C dL_law_350 4 rfl ?_
    refine g_iconst C (v := 1) dL_law_352 (by decide) ?_
    refine g_iadd C dL_law_353 ?_
    refine g_sldv C S (i + 1) (nx_add (rfl : nI i = nI i) (rfl : (1 : Int32) = nI 1)) (by omega) ha9 dL_law_354 ?_
    refine g_aload_n C dL_law_355 rfl 0 rfl ?_
    refine g_iload C dL_law_356 4 rfl ?_
    refine g_iconst C (v := 2) dL_law_358 (by decide) ?_
    refine g_iadd C dL_law_359 ?_
    refine g_sldv C S (i + 2) (nx_add (rfl : nI i = nI i) (rfl : (2 : Int32) = nI 2)) (by omega) hb9 dL_law_360 ?_
    refine g_aload_n C dL_law_361 rfl 3 rfl ?_
    refine g_callSW C hZ hNc (cs1 := [wX ax (bo 0) (tr 0) (ac 0) (ah 0) (at_ 0), wB E bo ((fX6_openTicket β η σ a b).2.1), wB E tr τ, wC E ac γ, wH E ah bd ((fX6_openTicket β η σ a b).2.2.1), wT E at_ θ, wB E (bd 2) ((fX6_openTicket β η σ a b).2.2.2 2), wB E (bd 3) ((fX6_openTicket β η σ a b).2.2.2 3), wB E (bd 4) ((fX6_openTicket β η σ a b).2.2.2 4), wB E (bd 5) ((fX6_openTicket β η σ a b).2.2.2 5), wB E (bd 6) ((fX6_openTicket β η σ a b).2.2.2 6), wB E (bd 7) ((fX6_openTicket β η σ a b).2.2.2 7), wB E (bd 8) ((fX6_openTicket β η σ a b).2.2.2 8), wB E (bd 9) ((fX6_openTicket β η σ a b).2.2.2 9), wM E am μ, wO E ao (vp_updL o 0 v.toInt64)]) (st1 := [.int 0]) [.ref ax, .int a, .int b, .ref ao] [0, 1, 2, 3, 4, 5, 6, 7, 8, 9, 10, 11, 12, 13, 15] (kL_openTicket_r l E ax bo β tr τ ac γ ah bd η σ at_ θ ao o hlt hvb hvh a b ((fX7_openTicket μ a b).1) hr) q3_59 q1_0 (by decide +kernel) q3_58 q3_57 rfl ⟨Nat.le_of_ble_eq_true rfl, Nat.le_of_ble_eq_true rfl⟩ ⟨hk, hn⟩ (by decide) rfl rfl rfl rfl (Nat.le_of_ble_eq_true rfl) dL_law_362 rfl ?_
    refine g_istore C (lv1 := [(5, .int 0), (0, .ref b0), (1, .ref ax), (2, .ref (am 0)), (3, .ref ao), (4, .int (nI i))]) dL_law_365 (by decide) rfl ?_
    refine g_aload_n C dL_law_367 rfl 3 rfl ?_
    refine g_aload_n C dL_law_368 rfl 1 rfl ?_
    refine g_iload C dL_law_369 5 rfl ?_
    refine g_iconst C (v := 1) dL_law_371 (by decide) ?_
    refine g_iadd C dL_law_372 ?_
    refine g_sldv C S (i + 1) (nx_add (rfl : nI i = nI i) (rfl : (1 : Int32) = nI 1)) (by omega) ha9 dL_law_373 ?_
    refine g_aload_n C dL_law_374 rfl 1 rfl ?_
    refine g_iload C dL_law_375 5 rfl ?_
    refine g_iconst C (v := 2) dL_law_377 (by decide) ?_
    refine g_iadd C dL_law_378 ?_
    refine g_sldv C S (i + 2) (nx_add (rfl : nI i = nI i) (rfl : (2 : Int32) = nI 2)) (by omega) hb9 dL_law_379 ?_
    refine g_callV C (cs1 := [wX ax (bo 0) (tr 0) (ac 0) (ah 0) (at_ 0), wB E bo ((fX6_openTicket β η σ a b).2.1), wB E tr τ, wC E ac γ, wH E ah bd ((fX6_openTicket β η σ a b).2.2.1), wT E at_ θ, wB E (bd 2) ((fX6_openTicket β η σ a b).2.2.2 2), wB E (bd 3) ((fX6_openTicket β η σ a b).2.2.2 3), wB E (bd 4) ((fX6_openTicket β η σ a b).2.2.2 4), wB E (bd 5) ((fX6_openTicket β η σ a b).2.2.2 5), wB E (bd 6) ((fX6_openTicket β η σ a b).2.2.2 6), wB E (bd 7) ((fX6_openTicket β η σ a b).2.2.2 7), wB E (bd 8) ((fX6_openTicket β η σ a b).2.2.2 8), wB E (bd 9) ((fX6_openTicket β η σ a b).2.2.2 9), wM E am ((fX7_openTicket μ a b).2), wO E ao (vp_updL o 0 v.toInt64)]) (st1 := [.int ((fX7_openTicket μ a b).1)]) [.int a, .int b] [14] (kX7_openTicket l E am μ hvm a b) caX7_openTicket q6_121 rfl ⟨Nat.le_of_ble_eq_true rfl, Nat.le_of_ble_eq_true rfl⟩ ⟨hk, hn⟩ 14 0 rfl rfl rfl rfl (by decide) rfl rfl rfl rfl (Nat.le_of_ble_eq_true rfl) dL_law_380 rfl ?_
    refine g_istore C (lv1 := [(6, .int ((fX7_openTicket μ a b).1)), (5, .int 0), (0, .ref b0), (1, .ref ax), (2, .ref (am 0)), (3, .ref ao), (4, .int (nI i))]) dL_law_383 (by decide) rfl ?_
    refine g_aload_n C dL_law_385 rfl 4 rfl ?_
    refine g_callV C (cs1 := [wX ax (bo 0) (tr 0) (ac 0) (ah 0) (at_ 0), wB E bo ((fX6_openTicket β η σ a b).2.1), wB E tr τ, wC E ac γ, wH E ah bd ((fX6_openTicket β η σ a b).2.2.1), wT E at_ θ, wB E (bd 2) ((fX6_openTicket β η σ a b).2.2.2 2), wB E (bd 3) ((fX6_openTicket β η σ a b).2.2.2 3), wB E (bd 4) ((fX6_openTicket β η σ a b).2.2.2 4), wB E (bd 5) ((fX6_openTicket β η σ a b).2.2.2 5), wB E (bd 6) ((fX6_openTicket β η σ a b).2.2.2 6), wB E (bd 7) ((fX6_openTicket β η σ a b).2.2.2 7), wB E (bd 8) ((fX6_openTicket β η σ a b).2.2.2 8), wB E (bd 9) ((fX6_openTicket β η σ a b).2.2.2 9), wM E am ((fX7_openTicket μ a b).2), wO E ao (vp_updL o 0 v.toInt64)]) (st1 := [.int (fX7_thrown ((fX7_openTicket μ a b).2))]) [] [14] (kX7_thrown l E am ((fX7_openTicket μ a b).2)) caX7_thrown q6_117 rfl ⟨Nat.le_of_ble_eq_true rfl, Nat.le_of_ble_eq_true rfl⟩ ⟨hk, hn⟩ 14 0 rfl rfl rfl rfl (by decide) rfl rfl rfl rfl (Nat.le_of_ble_eq_true rfl) dL_law_386 rfl ?_
    refine g_iload C dL_law_389 1 rfl ?_
    refine g_icmp_eq C 396 dL_law_391 (by decide) (fun _ => ?_) (fun c => absurd ht c)
    refine g_iload C dL_law_396 1 rfl ?_
    refine g_if_ne C 413 dL_law_398 (by decide) (fun c => absurd rfl c) (fun _ => ?_)
    refine g_aload_n C dL_law_401 rfl 5 rfl ?_
    refine g_iconst C (v := 0) dL_law_402 (by decide) ?_
    refine g_laldn C 15 0 0 rfl rfl rfl (by decide) (by decide) dL_law_403 ?_
    refine g_iload C dL_law_404 0 rfl ?_
    refine g_i2l C dL_law_406 ?_
    refine g_lcmp C dL_law_407 ?_
    refine g_if_eq C 413 dL_law_408 (by decide) (fun _ => ?_) (fun c => absurd law_cmp c)
    refine g_goto C 3840 dL_law_413 (by decide) ?_
    exact g_sub [2, 3, 4, 5, 6] rfl (next ((fX6_openTicket β η σ a b).2.1) τ γ ((fX6_openTicket β η σ a b).2.2.1) ((fX6_openTicket β η σ a b).2.2.2) θ ((fX7_openTicket μ a b).2) (vp_updL o 0 v.toInt64) hR2)
  · skip
    refine g_aload_n C dL_law_348 rfl 1 rfl ?_
    refine g_aload_n C dL_law_349 rfl 0 rfl ?_
    refine g_iload C dL_law_350 4 rfl ?_
    refine g_iconst C (v := 1) dL_law_352 (by decide) ?_
    refine g_iadd C dL_law_353 ?_
    refine g_sldv C S (i + 1) (nx_add (rfl : nI i = nI i) (rfl : (1 : Int32) = nI 1)) (by omega) ha9 dL_law_354 ?_
    refine g_aload_n C dL_law_355 rfl 0 rfl ?_
    refine g_iload C dL_law_356 4 rfl ?_
    refine g_iconst C (v := 2) dL_law_358 (by decide) ?_
    refine g_iadd C dL_law_359 ?_
    refine g_sldv C S (i + 2) (nx_add (rfl : nI i = nI i) (rfl : (2 : Int32) = nI 2)) (by omega) hb9 dL_law_360 ?_
    refine g_aload_n C dL_law_361 rfl 3 rfl ?_
    refine g_callSW C hZ hNc (cs1 := [wX ax (bo 0) (tr 0) (ac 0) (ah 0) (at_ 0), wB E bo ((fX6_openTicket β η σ a b).2.1), wB E tr τ, wC E ac γ, wH E ah bd ((fX6_openTicket β η σ a b).2.2.1), wT E at_ θ, wB E (bd 2) ((fX6_openTicket β η σ a b).2.2.2 2), wB E (bd 3) ((fX6_openTicket β η σ a b).2.2.2 3), wB E (bd 4) ((fX6_openTicket β η σ a b).2.2.2 4), wB E (bd 5) ((fX6_openTicket β η σ a b).2.2.2 5), wB E (bd 6) ((fX6_openTicket β η σ a b).2.2.2 6), wB E (bd 7) ((fX6_openTicket β η σ a b).2.2.2 7), wB E (bd 8) ((fX6_openTicket β η σ a b).2.2.2 8), wB E (bd 9) ((fX6_openTicket β η σ a b).2.2.2 9), wM E am μ, wO E ao o]) (st1 := [.int 1]) [.ref ax, .int a, .int b, .ref ao] [0, 1, 2, 3, 4, 5, 6, 7, 8, 9, 10, 11, 12, 13, 15] (kL_openTicket_0 l E ax bo β tr τ ac γ ah bd η σ at_ θ ao o hlt hvb hvh a b hr) q3_59 q1_0 (by decide +kernel) q3_58 q3_57 rfl ⟨Nat.le_of_ble_eq_true rfl, Nat.le_of_ble_eq_true rfl⟩ ⟨hk, hn⟩ (by decide) rfl rfl rfl rfl (Nat.le_of_ble_eq_true rfl) dL_law_362 rfl ?_
    refine g_istore C (lv1 := [(5, .int 1), (0, .ref b0), (1, .ref ax), (2, .ref (am 0)), (3, .ref ao), (4, .int (nI i))]) dL_law_365 (by decide) rfl ?_
    refine g_aload_n C dL_law_367 rfl 3 rfl ?_
    refine g_aload_n C dL_law_368 rfl 1 rfl ?_
    refine g_iload C dL_law_369 5 rfl ?_
    refine g_iconst C (v := 1) dL_law_371 (by decide) ?_
    refine g_iadd C dL_law_372 ?_
    refine g_sldv C S (i + 1) (nx_add (rfl : nI i = nI i) (rfl : (1 : Int32) = nI 1)) (by omega) ha9 dL_law_373 ?_
    refine g_aload_n C dL_law_374 rfl 1 rfl ?_
    refine g_iload C dL_law_375 5 rfl ?_
    refine g_iconst C (v := 2) dL_law_377 (by decide) ?_
    refine g_iadd C dL_law_378 ?_
    refine g_sldv C S (i + 2) (nx_add (rfl : nI i = nI i) (rfl : (2 : Int32) = nI 2)) (by omega) hb9 dL_law_379 ?_
    refine g_callV C (cs1 := [wX ax (bo 0) (tr 0) (ac 0) (ah 0) (at_ 0), wB E bo ((fX6_openTicket β η σ a b).2.1), wB E tr τ, wC E ac γ, wH E ah bd ((fX6_openTicket β η σ a b).2.2.1), wT E at_ θ, wB E (bd 2) ((fX6_openTicket β η σ a b).2.2.2 2), wB E (bd 3) ((fX6_openTicket β η σ a b).2.2.2 3), wB E (bd 4) ((fX6_openTicket β η σ a b).2.2.2 4), wB E (bd 5) ((fX6_openTicket β η σ a b).2.2.2 5), wB E (bd 6) ((fX6_openTicket β η σ a b).2.2.2 6), wB E (bd 7) ((fX6_openTicket β η σ a b).2.2.2 7), wB E (bd 8) ((fX6_openTicket β η σ a b).2.2.2 8), wB E (bd 9) ((fX6_openTicket β η σ a b).2.2.2 9), wM E am ((fX7_openTicket μ a b).2), wO E ao o]) (st1 := [.int ((fX7_openTicket μ a b).1)]) [.int a, .int b] [14] (kX7_openTicket l E am μ hvm a b) caX7_openTicket q6_121 rfl ⟨Nat.le_of_ble_eq_true rfl, Nat.le_of_ble_eq_true rfl⟩ ⟨hk, hn⟩ 14 0 rfl rfl rfl rfl (by decide) rfl rfl rfl rfl (Nat.le_of_ble_eq_true rfl) dL_law_380 rfl ?_
    refine g_istore C (lv1 := [(6, .int ((fX7_openTicket μ a b).1)), (5, .int 1), (0, .ref b0), (1, .ref ax), (2, .ref (am 0)), (3, .ref ao), (4, .int (nI i))]) dL_law_383 (by decide) rfl ?_
    refine g_aload_n C dL_law_385 rfl 4 rfl ?_
    refine g_callV C (cs1 := [wX ax (bo 0) (tr 0) (ac 0) (ah 0) (at_ 0), wB E bo ((fX6_openTicket β η σ a b).2.1), wB E tr τ, wC E ac γ, wH E ah bd ((fX6_openTicket β η σ a b).2.2.1), wT E at_ θ, wB E (bd 2) ((fX6_openTicket β η σ a b).2.2.2 2), wB E (bd 3) ((fX6_openTicket β η σ a b).2.2.2 3), wB E (bd 4) ((fX6_openTicket β η σ a b).2.2.2 4), wB E (bd 5) ((fX6_openTicket β η σ a b).2.2.2 5), wB E (bd 6) ((fX6_openTicket β η σ a b).2.2.2 6), wB E (bd 7) ((fX6_openTicket β η σ a b).2.2.2 7), wB E (bd 8) ((fX6_openTicket β η σ a b).2.2.2 8), wB E (bd 9) ((fX6_openTicket β η σ a b).2.2.2 9), wM E am ((fX7_openTicket μ a b).2), wO E ao o]) (st1 := [.int (fX7_thrown ((fX7_openTicket μ a b).2))]) [] [14] (kX7_thrown l E am ((fX7_openTicket μ a b).2)) caX7_thrown q6_117 rfl ⟨Nat.le_of_ble_eq_true rfl, Nat.le_of_ble_eq_true rfl⟩ ⟨hk, hn⟩ 14 0 rfl rfl rfl rfl (by decide) rfl rfl rfl rfl (Nat.le_of_ble_eq_true rfl) dL_law_386 rfl ?_
    refine g_iload C dL_law_389 1 rfl ?_
    refine g_icmp_eq C 396 dL_law_391 (by decide) (fun _ => ?_) (fun c => absurd ht c)
    refine g_iload C dL_law_396 1 rfl ?_
    refine g_if_ne C 413 dL_law_398 (by decide) (fun _ => ?_) (fun c => absurd c (by decide))
    refine g_goto C 3840 dL_law_413 (by decide) ?_
    exact g_sub [2, 3, 4, 5, 6] rfl (next ((fX6_openTicket β η σ a b).2.1) τ γ ((fX6_openTicket β η σ a b).2.2.1) ((fX6_openTicket β η σ a b).2.2.2) θ ((fX7_openTicket μ a b).2) o hR2)
  · skip
    refine g_aload_n C dL_law_348 rfl 1 rfl ?_
    refine g_aload_n C dL_law_349 rfl 0 rfl ?_
    refine g_iload C dL_law_350 4 rfl ?_
    refine g_iconst C (v := 1) dL_law_352 (by decide) ?_
    refine g_iadd C dL_law_353 ?_
    refine g_sldv C S (i + 1) (nx_add (rfl : nI i = nI i) (rfl : (1 : Int32) = nI 1)) (by omega) ha9 dL_law_354 ?_
    refine g_aload_n C dL_law_355 rfl 0 rfl ?_
    refine g_iload C dL_law_356 4 rfl ?_
    refine g_iconst C (v := 2) dL_law_358 (by decide) ?_
    refine g_iadd C dL_law_359 ?_
    refine g_sldv C S (i + 2) (nx_add (rfl : nI i = nI i) (rfl : (2 : Int32) = nI 2)) (by omega) hb9 dL_law_360 ?_
    refine g_aload_n C dL_law_361 rfl 3 rfl ?_
    refine g_callSW C hZ hNc (cs1 := [wX ax (bo 0) (tr 0) (ac 0) (ah 0) (at_ 0), wB E bo ((fX6_openTicket β η σ a b).2.1), wB E tr τ, wC E ac γ, wH E ah bd ((fX6_openTicket β η σ a b).2.2.1), wT E at_ θ, wB E (bd 2) ((fX6_openTicket β η σ a b).2.2.2 2), wB E (bd 3) ((fX6_openTicket β η σ a b).2.2.2 3), wB E (bd 4) ((fX6_openTicket β η σ a b).2.2.2 4), wB E (bd 5) ((fX6_openTicket β η σ a b).2.2.2 5), wB E (bd 6) ((fX6_openTicket β η σ a b).2.2.2 6), wB E (bd 7) ((fX6_openTicket β η σ a b).2.2.2 7), wB E (bd 8) ((fX6_openTicket β η σ a b).2.2.2 8), wB E (bd 9) ((fX6_openTicket β η σ a b).2.2.2 9), wM E am μ, wO E ao o]) (st1 := [.int 2]) [.ref ax, .int a, .int b, .ref ao] [0, 1, 2, 3, 4, 5, 6, 7, 8, 9, 10, 11, 12, 13, 15] (kL_openTicket_1 l E ax bo β tr τ ac γ ah bd η σ at_ θ ao o hlt hvb hvh a b hr) q3_59 q1_0 (by decide +kernel) q3_58 q3_57 rfl ⟨Nat.le_of_ble_eq_true rfl, Nat.le_of_ble_eq_true rfl⟩ ⟨hk, hn⟩ (by decide) rfl rfl rfl rfl (Nat.le_of_ble_eq_true rfl) dL_law_362 rfl ?_
    refine g_istore C (lv1 := [(5, .int 2), (0, .ref b0), (1, .ref ax), (2, .ref (am 0)), (3, .ref ao), (4, .int (nI i))]) dL_law_365 (by decide) rfl ?_
    refine g_aload_n C dL_law_367 rfl 3 rfl ?_
    refine g_aload_n C dL_law_368 rfl 1 rfl ?_
    refine g_iload C dL_law_369 5 rfl ?_
    refine g_iconst C (v := 1) dL_law_371 (by decide) ?_
    refine g_iadd C dL_law_372 ?_
    refine g_sldv C S (i + 1) (nx_add (rfl : nI i = nI i) (rfl : (1 : Int32) = nI 1)) (by omega) ha9 dL_law_373 ?_
    refine g_aload_n C dL_law_374 rfl 1 rfl ?_
    refine g_iload C dL_law_375 5 rfl ?_
    refine g_iconst C (v := 2) dL_law_377 (by decide) ?_
    refine g_iadd C dL_law_378 ?_
    refine g_sldv C S (i + 2) (nx_add (rfl : nI i = nI i) (rfl : (2 : Int32) = nI 2)) (by omega) hb9 dL_law_379 ?_
    refine g_callV C (cs1 := [wX ax (bo 0) (tr 0) (ac 0) (ah 0) (at_ 0), wB E bo ((fX6_openTicket β η σ a b).2.1), wB E tr τ, wC E ac γ, wH E ah bd ((fX6_openTicket β η σ a b).2.2.1), wT E at_ θ, wB E (bd 2) ((fX6_openTicket β η σ a b).2.2.2 2), wB E (bd 3) ((fX6_openTicket β η σ a b).2.2.2 3), wB E (bd 4) ((fX6_openTicket β η σ a b).2.2.2 4), wB E (bd 5) ((fX6_openTicket β η σ a b).2.2.2 5), wB E (bd 6) ((fX6_openTicket β η σ a b).2.2.2 6), wB E (bd 7) ((fX6_openTicket β η σ a b).2.2.2 7), wB E (bd 8) ((fX6_openTicket β η σ a b).2.2.2 8), wB E (bd 9) ((fX6_openTicket β η σ a b).2.2.2 9), wM E am ((fX7_openTicket μ a b).2), wO E ao o]) (st1 := [.int ((fX7_openTicket μ a b).1)]) [.int a, .int b] [14] (kX7_openTicket l E am μ hvm a b) caX7_openTicket q6_121 rfl ⟨Nat.le_of_ble_eq_true rfl, Nat.le_of_ble_eq_true rfl⟩ ⟨hk, hn⟩ 14 0 rfl rfl rfl rfl (by decide) rfl rfl rfl rfl (Nat.le_of_ble_eq_true rfl) dL_law_380 rfl ?_
    refine g_istore C (lv1 := [(6, .int ((fX7_openTicket μ a b).1)), (5, .int 2), (0, .ref b0), (1, .ref ax), (2, .ref (am 0)), (3, .ref ao), (4, .int (nI i))]) dL_law_383 (by decide) rfl ?_
    refine g_aload_n C dL_law_385 rfl 4 rfl ?_
    refine g_callV C (cs1 := [wX ax (bo 0) (tr 0) (ac 0) (ah 0) (at_ 0), wB E bo ((fX6_openTicket β η σ a b).2.1), wB E tr τ, wC E ac γ, wH E ah bd ((fX6_openTicket β η σ a b).2.2.1), wT E at_ θ, wB E (bd 2) ((fX6_openTicket β η σ a b).2.2.2 2), wB E (bd 3) ((fX6_openTicket β η σ a b).2.2.2 3), wB E (bd 4) ((fX6_openTicket β η σ a b).2.2.2 4), wB E (bd 5) ((fX6_openTicket β η σ a b).2.2.2 5), wB E (bd 6) ((fX6_openTicket β η σ a b).2.2.2 6), wB E (bd 7) ((fX6_openTicket β η σ a b).2.2.2 7), wB E (bd 8) ((fX6_openTicket β η σ a b).2.2.2 8), wB E (bd 9) ((fX6_openTicket β η σ a b).2.2.2 9), wM E am ((fX7_openTicket μ a b).2), wO E ao o]) (st1 := [.int (fX7_thrown ((fX7_openTicket μ a b).2))]) [] [14] (kX7_thrown l E am ((fX7_openTicket μ a b).2)) caX7_thrown q6_117 rfl ⟨Nat.le_of_ble_eq_true rfl, Nat.le_of_ble_eq_true rfl⟩ ⟨hk, hn⟩ 14 0 rfl rfl rfl rfl (by decide) rfl rfl rfl rfl (Nat.le_of_ble_eq_true rfl) dL_law_386 rfl ?_
    refine g_iload C dL_law_389 1 rfl ?_
    refine g_icmp_eq C 396 dL_law_391 (by decide) (fun _ => ?_) (fun c => absurd ht c)
    refine g_iload C dL_law_396 1 rfl ?_
    refine g_if_ne C 413 dL_law_398 (by decide) (fun _ => ?_) (fun c => absurd c (by decide))
    refine g_goto C 3840 dL_law_413 (by decide) ?_
    exact g_sub [2, 3, 4, 5, 6] rfl (next ((fX6_openTicket β η σ a b).2.1) τ γ ((fX6_openTicket β η σ a b).2.2.1) ((fX6_openTicket β η σ a b).2.2.2) θ ((fX7_openTicket μ a b).2) o hR2)
set_option maxHeartbeats 4000000 in
set_option maxRecDepth 100000 in
theorem arm_1 {Rl : RlT} (hRv : RlV Rl) (hs : sH_reestimate Rl)  {X : gX} {l : Launch} {E : gE} (C : gC X cL_law 9 RL (some .boolean) l E room_1) (hZ : gZ X.2.2.2.2.2.2.2.2.2.2.2.1 X.2.2.2.2.1 X.2.2.2.2.1.heap) (hNc : gNc X.2.2.2.2.1) {b0 L0 : Nat} {xs : Nat → Int32} (S : gS X b0 L0 xs) (hlt : l.stackTraces = false) {ax : Nat} {bo tr ac ah : Nat → Nat} {bd : Nat → Nat → Nat} {at_ am : Nat → Nat} {ao k n i : Nat} (hk : k + 3 ≤ 601024) (hn : n + 18 ≤ 7293034) (hi : i + 3 ≤ L0) {β τ γ η : BS} {σ : Nat → BS} {θ μ : BS} {o : Nat → Int64} (hR : Rl β η θ σ μ) (next : ∀ (β τ γ η : BS) (σ : Nat → BS) (θ μ : BS) (o : Nat → Int64), Rl β η θ σ μ → G X (k + 3) (n + 18) [wX ax (bo 0) (tr 0) (ac 0) (ah 0) (at_ 0), wB E bo β, wB E tr τ, wC E ac γ, wH E ah bd η, wT E at_ θ, wB E (bd 2) (σ 2), wB E (bd 3) (σ 3), wB E (bd 4) (σ 4), wB E (bd 5) (σ 5), wB E (bd 6) (σ 6), wB E (bd 7) (σ 7), wB E (bd 8) (σ 8), wB E (bd 9) (σ 9), wM E am μ, wO E ao o] [(0, .ref b0), (1, .ref ax), (2, .ref (am 0)), (3, .ref ao), (4, .int (nI i))] 3840 []) : G X k n [wX ax (bo 0) (tr 0) (ac 0) (ah 0) (at_ 0), wB E bo β, wB E tr τ, wC E ac γ, wH E ah bd η, wT E at_ θ, wB E (bd 2) (σ 2), wB E (bd 3) (σ 3), wB E (bd 4) (σ 4), wB E (bd 5) (σ 5), wB E (bd 6) (σ 6), wB E (bd 7) (σ 7), wB E (bd 8) (σ 8), wB E (bd 9) (σ 9), wM E am μ, wO E ao o] [(0, .ref b0), (1, .ref ax), (2, .ref (am 0)), (3, .ref ao), (4, .int (nI i))] 416 [] := by
  obtain ⟨hvb, hvh, hvt, hvm, ha⟩ := hRv β η θ σ μ hR
  obtain ⟨a, ha9⟩ : ∃ a, xs (i + 1) = a := ⟨_, rfl⟩
  obtain ⟨b, hb9⟩ : ∃ b, xs (i + 2) = b := ⟨_, rfl⟩
  obtain ⟨hag, hR2⟩ := hs β τ γ η σ θ μ a b hR
  rcases hag with ⟨hr, ht⟩ | ⟨hr, ht⟩ | ⟨hr, ht⟩ | ⟨hr, ht⟩
  · skip
    refine g_aload_n C dL_law_416 rfl 1 rfl ?_
    refine g_aload_n C dL_law_417 rfl 0 rfl ?_
    refine g_iload C dL_law_418 4 rfl ?_
    refine g_iconst C (v := 1) dL_law_420 (by decide) ?_
    refine g_iadd C dL_law_421 ?_
    refine g_sldv C S (i + 1) (nx_add (rfl : nI i = nI i) (rfl : (1 : Int32) = nI 1)) (by omega) ha9 dL_law_422 ?_
    refine g_aload_n C dL_law_423 rfl 0 rfl ?_
    refine g_iload C dL_law_424 4 rfl ?_
    refine g_iconst C (v := 2) dL_law_426 (by decide) ?_
    refine g_iadd C dL_law_427 ?_
    refine g_sldv C S (i + 2) (nx_add (rfl : nI i = nI i) (rfl : (2 : Int32) = nI 2)) (by omega) hb9 dL_law_428 ?_
    refine g_aload_n C dL_law_429 rfl 3 rfl ?_
    refine g_callSW C hZ hNc (cs1 := [wX ax (bo 0) (tr 0) (ac 0) (ah 0) (at_ 0), wB E bo ((fX6_reestimate β η σ a b).2.1), wB E tr τ, wC E ac γ, wH E ah bd ((fX6_reestimate β η σ a b).2.2.1), wT E at_ θ, wB E (bd 2) ((fX6_reestimate β η σ a b).2.2.2 2), wB E (bd 3) ((fX6_reestimate β η σ a b).2.2.2 3), wB E (bd 4) ((fX6_reestimate β η σ a b).2.2.2 4), wB E (bd 5) ((fX6_reestimate β η σ a b).2.2.2 5), wB E (bd 6) ((fX6_reestimate β η σ a b).2.2.2 6), wB E (bd 7) ((fX6_reestimate β η σ a b).2.2.2 7), wB E (bd 8) ((fX6_reestimate β η σ a b).2.2.2 8), wB E (bd 9) ((fX6_reestimate β η σ a b).2.2.2 9), wM E am μ, wO E ao (vp_updL o 0 v.toInt64)]) (st1 := [.int 0]) [.ref ax, .int a, .int b, .ref ao] [0, 1, 2, 3, 4, 5, 6, 7, 8, 9, 10, 11, 12, 13, 15] (kL_reestimate_r l E ax bo β tr τ ac γ ah bd η σ at_ θ ao o hlt hvb hvh a b ((fX7_reestimate μ a b).1) hr) q3_186 q1_0 (by decide +kernel) q3_185 q3_184 rfl ⟨Nat.le_of_ble_eq_true rfl, Nat.le_of_ble_eq_true rfl⟩ ⟨hk, hn⟩ (by decide) rfl rfl rfl rfl (Nat.le_of_ble_eq_true rfl) dL_law_430 rfl ?_
    refine g_istore C (lv1 := [(5, .int 0), (0, .ref b0), (1, .ref ax), (2, .ref (am 0)), (3, .ref ao), (4, .int (nI i))]) dL_law_433 (by decide) rfl ?_
    refine g_aload_n C dL_law_435 rfl 3 rfl ?_
    refine g_aload_n C dL_law_436 rfl 1 rfl ?_
    refine g_iload C dL_law_437 5 rfl ?_
    refine g_iconst C (v := 1) dL_law_439 (by decide) ?_
    refine g_iadd C dL_law_440 ?_
    refine g_sldv C S (i + 1) (nx_add (rfl : nI i = nI i) (rfl : (1 : Int32) = nI 1)) (by omega) ha9 dL_law_441 ?_
    refine g_aload_n C dL_law_442 rfl 1 rfl ?_
    refine g_iload C dL_law_443 5 rfl ?_
    refine g_iconst C (v := 2) dL_law_445 (by decide) ?_
    refine g_iadd C dL_law_446 ?_
    refine g_sldv C S (i + 2) (nx_add (rfl : nI i = nI i) (rfl : (2 : Int32) = nI 2)) (by omega) hb9 dL_law_447 ?_
    refine g_callV C (cs1 := [wX ax (bo 0) (tr 0) (ac 0) (ah 0) (at_ 0), wB E bo ((fX6_reestimate β η σ a b).2.1), wB E tr τ, wC E ac γ, wH E ah bd ((fX6_reestimate β η σ a b).2.2.1), wT E at_ θ, wB E (bd 2) ((fX6_reestimate β η σ a b).2.2.2 2), wB E (bd 3) ((fX6_reestimate β η σ a b).2.2.2 3), wB E (bd 4) ((fX6_reestimate β η σ a b).2.2.2 4), wB E (bd 5) ((fX6_reestimate β η σ a b).2.2.2 5), wB E (bd 6) ((fX6_reestimate β η σ a b).2.2.2 6), wB E (bd 7) ((fX6_reestimate β η σ a b).2.2.2 7), wB E (bd 8) ((fX6_reestimate β η σ a b).2.2.2 8), wB E (bd 9) ((fX6_reestimate β η σ a b).2.2.2 9), wM E am ((fX7_reestimate μ a b).2), wO E ao (vp_updL o 0 v.toInt64)]) (st1 := [.int ((fX7_reestimate μ a b).1)]) [.int a, .int b] [14] (kX7_reestimate l E am μ hvm a b) caX7_reestimate q6_144 rfl ⟨Nat.le_of_ble_eq_true rfl, Nat.le_of_ble_eq_true rfl⟩ ⟨hk, hn⟩ 14 0 rfl rfl rfl rfl (by decide) rfl rfl rfl rfl (Nat.le_of_ble_eq_true rfl) dL_law_448 rfl ?_
    refine g_istore C (lv1 := [(6, .int ((fX7_reestimate μ a b).1)), (5, .int 0), (0, .ref b0), (1, .ref ax), (2, .ref (am 0)), (3, .ref ao), (4, .int (nI i))]) dL_law_451 (by decide) rfl ?_
    refine g_aload_n C dL_law_453 rfl 4 rfl ?_
    refine g_callV C (cs1 := [wX ax (bo 0) (tr 0) (ac 0) (ah 0) (at_ 0), wB E bo ((fX6_reestimate β η σ a b).2.1), wB E tr τ, wC E ac γ, wH E ah bd ((fX6_reestimate β η σ a b).2.2.1), wT E at_ θ, wB E (bd 2) ((fX6_reestimate β η σ a b).2.2.2 2), wB E (bd 3) ((fX6_reestimate β η σ a b).2.2.2 3), wB E (bd 4) ((fX6_reestimate β η σ a b).2.2.2 4), wB E (bd 5) ((fX6_reestimate β η σ a b).2.2.2 5), wB E (bd 6) ((fX6_reestimate β η σ a b).2.2.2 6), wB E (bd 7) ((fX6_reestimate β η σ a b).2.2.2 7), wB E (bd 8) ((fX6_reestimate β η σ a b).2.2.2 8), wB E (bd 9) ((fX6_reestimate β η σ a b).2.2.2 9), wM E am ((fX7_reestimate μ a b).2), wO E ao (vp_updL o 0 v.toInt64)]) (st1 := [.int (fX7_thrown ((fX7_reestimate μ a b).2))]) [] [14] (kX7_thrown l E am ((fX7_reestimate μ a b).2)) caX7_thrown q6_117 rfl ⟨Nat.le_of_ble_eq_true rfl, Nat.le_of_ble_eq_true rfl⟩ ⟨hk, hn⟩ 14 0 rfl rfl rfl rfl (by decide) rfl rfl rfl rfl (Nat.le_of_ble_eq_true rfl) dL_law_454 rfl ?_
    refine g_iload C dL_law_457 1 rfl ?_
    refine g_icmp_eq C 464 dL_law_459 (by decide) (fun _ => ?_) (fun c => absurd ht c)
    refine g_iload C dL_law_464 1 rfl ?_
    refine g_if_ne C 481 dL_law_466 (by decide) (fun c => absurd rfl c) (fun _ => ?_)
    refine g_aload_n C dL_law_469 rfl 5 rfl ?_
    refine g_iconst C (v := 0) dL_law_470 (by decide) ?_
    refine g_laldn C 15 0 0 rfl rfl rfl (by decide) (by decide) dL_law_471 ?_
    refine g_iload C dL_law_472 0 rfl ?_
    refine g_i2l C dL_law_474 ?_
    refine g_lcmp C dL_law_475 ?_
    refine g_if_eq C 481 dL_law_476 (by decide) (fun _ => ?_) (fun c => absurd law_cmp c)
    refine g_goto C 3840 dL_law_481 (by decide) ?_
    exact g_sub [2, 3, 4, 5, 6] rfl (next ((fX6_reestimate β η σ a b).2.1) τ γ ((fX6_reestimate β η σ a b).2.2.1) ((fX6_reestimate β η σ a b).2.2.2) θ ((fX7_reestimate μ a b).2) (vp_updL o 0 v.toInt64) hR2)
  · skip
    refine g_aload_n C dL_law_416 rfl 1 rfl ?_
    refine g_aload_n C dL_law_417 rfl 0 rfl ?_
    refine g_iload C dL_law_418 4 rfl ?_
    refine g_iconst C (v := 1) dL_law_420 (by decide) ?_
    refine g_iadd C dL_law_421 ?_
    refine g_sldv C S (i + 1) (nx_add (rfl : nI i = nI i) (rfl : (1 : Int32) = nI 1)) (by omega) ha9 dL_law_422 ?_
    refine g_aload_n C dL_law_423 rfl 0 rfl ?_
    refine g_iload C dL_law_424 4 rfl ?_
    refine g_iconst C (v := 2) dL_law_426 (by decide) ?_
    refine g_iadd C dL_law_427 ?_
    refine g_sldv C S (i + 2) (nx_add (rfl : nI i = nI i) (rfl : (2 : Int32) = nI 2)) (by omega) hb9 dL_law_428 ?_
    refine g_aload_n C dL_law_429 rfl 3 rfl ?_
    refine g_callSW C hZ hNc (cs1 := [wX ax (bo 0) (tr 0) (ac 0) (ah 0) (at_ 0), wB E bo ((fX6_reestimate β η σ a b).2.1), wB E tr τ, wC E ac γ, wH E ah bd ((fX6_reestimate β η σ a b).2.2.1), wT E at_ θ, wB E (bd 2) ((fX6_reestimate β η σ a b).2.2.2 2), wB E (bd 3) ((fX6_reestimate β η σ a b).2.2.2 3), wB E (bd 4) ((fX6_reestimate β η σ a b).2.2.2 4), wB E (bd 5) ((fX6_reestimate β η σ a b).2.2.2 5), wB E (bd 6) ((fX6_reestimate β η σ a b).2.2.2 6), wB E (bd 7) ((fX6_reestimate β η σ a b).2.2.2 7), wB E (bd 8) ((fX6_reestimate β η σ a b).2.2.2 8), wB E (bd 9) ((fX6_reestimate β η σ a b).2.2.2 9), wM E am μ, wO E ao o]) (st1 := [.int 1]) [.ref ax, .int a, .int b, .ref ao] [0, 1, 2, 3, 4, 5, 6, 7, 8, 9, 10, 11, 12, 13, 15] (kL_reestimate_0 l E ax bo β tr τ ac γ ah bd η σ at_ θ ao o hlt hvb hvh a b hr) q3_186 q1_0 (by decide +kernel) q3_185 q3_184 rfl ⟨Nat.le_of_ble_eq_true rfl, Nat.le_of_ble_eq_true rfl⟩ ⟨hk, hn⟩ (by decide) rfl rfl rfl rfl (Nat.le_of_ble_eq_true rfl) dL_law_430 rfl ?_
    refine g_istore C (lv1 := [(5, .int 1), (0, .ref b0), (1, .ref ax), (2, .ref (am 0)), (3, .ref ao), (4, .int (nI i))]) dL_law_433 (by decide) rfl ?_
    refine g_aload_n C dL_law_435 rfl 3 rfl ?_
    refine g_aload_n C dL_law_436 rfl 1 rfl ?_
    refine g_iload C dL_law_437 5 rfl ?_
    refine g_iconst C (v := 1) dL_law_439 (by decide) ?_
    refine g_iadd C dL_law_440 ?_
    refine g_sldv C S (i + 1) (nx_add (rfl : nI i = nI i) (rfl : (1 : Int32) = nI 1)) (by omega) ha9 dL_law_441 ?_
    refine g_aload_n C dL_law_442 rfl 1 rfl ?_
    refine g_iload C dL_law_443 5 rfl ?_
    refine g_iconst C (v := 2) dL_law_445 (by decide) ?_
    refine g_iadd C dL_law_446 ?_
    refine g_sldv C S (i + 2) (nx_add (rfl : nI i = nI i) (rfl : (2 : Int32) = nI 2)) (by omega) hb9 dL_law_447 ?_
    refine g_callV C (cs1 := [wX ax (bo 0) (tr 0) (ac 0) (ah 0) (at_ 0), wB E bo ((fX6_reestimate β η σ a b).2.1), wB E tr τ, wC E ac γ, wH E ah bd ((fX6_reestimate β η σ a b).2.2.1), wT E at_ θ, wB E (bd 2) ((fX6_reestimate β η σ a b).2.2.2 2), wB E (bd 3) ((fX6_reestimate β η σ a b).2.2.2 3), wB E (bd 4) ((fX6_reestimate β η σ a b).2.2.2 4), wB E (bd 5) ((fX6_reestimate β η σ a b).2.2.2 5), wB E (bd 6) ((fX6_reestimate β η σ a b).2.2.2 6), wB E (bd 7) ((fX6_reestimate β η σ a b).2.2.2 7), wB E (bd 8) ((fX6_reestimate β η σ a b).2.2.2 8), wB E (bd 9) ((fX6_reestimate β η σ a b).2.2.2 9), wM E am ((fX7_reestimate μ a b).2), wO E ao o]) (st1 := [.int ((fX7_reestimate μ a b).1)]) [.int a, .int b] [14] (kX7_reestimate l E am μ hvm a b) caX7_reestimate q6_144 rfl ⟨Nat.le_of_ble_eq_true rfl, Nat.le_of_ble_eq_true rfl⟩ ⟨hk, hn⟩ 14 0 rfl rfl rfl rfl (by decide) rfl rfl rfl rfl (Nat.le_of_ble_eq_true rfl) dL_law_448 rfl ?_
    refine g_istore C (lv1 := [(6, .int ((fX7_reestimate μ a b).1)), (5, .int 1), (0, .ref b0), (1, .ref ax), (2, .ref (am 0)), (3, .ref ao), (4, .int (nI i))]) dL_law_451 (by decide) rfl ?_
    refine g_aload_n C dL_law_453 rfl 4 rfl ?_
    refine g_callV C (cs1 := [wX ax (bo 0) (tr 0) (ac 0) (ah 0) (at_ 0), wB E bo ((fX6_reestimate β η σ a b).2.1), wB E tr τ, wC E ac γ, wH E ah bd ((fX6_reestimate β η σ a b).2.2.1), wT E at_ θ, wB E (bd 2) ((fX6_reestimate β η σ a b).2.2.2 2), wB E (bd 3) ((fX6_reestimate β η σ a b).2.2.2 3), wB E (bd 4) ((fX6_reestimate β η σ a b).2.2.2 4), wB E (bd 5) ((fX6_reestimate β η σ a b).2.2.2 5), wB E (bd 6) ((fX6_reestimate β η σ a b).2.2.2 6), wB E (bd 7) ((fX6_reestimate β η σ a b).2.2.2 7), wB E (bd 8) ((fX6_reestimate β η σ a b).2.2.2 8), wB E (bd 9) ((fX6_reestimate β η σ a b).2.2.2 9), wM E am ((fX7_reestimate μ a b).2), wO E ao o]) (st1 := [.int (fX7_thrown ((fX7_reestimate μ a b).2))]) [] [14] (kX7_thrown l E am ((fX7_reestimate μ a b).2)) caX7_thrown q6_117 rfl ⟨Nat.le_of_ble_eq_true rfl, Nat.le_of_ble_eq_true rfl⟩ ⟨hk, hn⟩ 14 0 rfl rfl rfl rfl (by decide) rfl rfl rfl rfl (Nat.le_of_ble_eq_true rfl) dL_law_454 rfl ?_
    refine g_iload C dL_law_457 1 rfl ?_
    refine g_icmp_eq C 464 dL_law_459 (by decide) (fun _ => ?_) (fun c => absurd ht c)
    refine g_iload C dL_law_464 1 rfl ?_
    refine g_if_ne C 481 dL_law_466 (by decide) (fun _ => ?_) (fun c => absurd c (by decide))
    refine g_goto C 3840 dL_law_481 (by decide) ?_
    exact g_sub [2, 3, 4, 5, 6] rfl (next ((fX6_reestimate β η σ a b).2.1) τ γ ((fX6_reestimate β η σ a b).2.2.1) ((fX6_reestimate β η σ a b).2.2.2) θ ((fX7_reestimate μ a b).2) o hR2)
  · skip
    refine g_aload_n C dL_law_416 rfl 1 rfl ?_
    refine g_aload_n C dL_law_417 rfl 0 rfl ?_
    refine g_iload C dL_law_418 4 rfl ?_
    refine g_iconst C (v := 1) dL_law_420 (by decide) ?_
    refine g_iadd C dL_law_421 ?_
    refine g_sldv C S (i + 1) (nx_add (rfl : nI i = nI i) (rfl : (1 : Int32) = nI 1)) (by omega) ha9 dL_law_422 ?_
    refine g_aload_n C dL_law_423 rfl 0 rfl ?_
    refine g_iload C dL_law_424 4 rfl ?_
    refine g_iconst C (v := 2) dL_law_426 (by decide) ?_
    refine g_iadd C dL_law_427 ?_
    refine g_sldv C S (i + 2) (nx_add (rfl : nI i = nI i) (rfl : (2 : Int32) = nI 2)) (by omega) hb9 dL_law_428 ?_
    refine g_aload_n C dL_law_429 rfl 3 rfl ?_
    refine g_callSW C hZ hNc (cs1 := [wX ax (bo 0) (tr 0) (ac 0) (ah 0) (at_ 0), wB E bo ((fX6_reestimate β η σ a b).2.1), wB E tr τ, wC E ac γ, wH E ah bd ((fX6_reestimate β η σ a b).2.2.1), wT E at_ θ, wB E (bd 2) ((fX6_reestimate β η σ a b).2.2.2 2), wB E (bd 3) ((fX6_reestimate β η σ a b).2.2.2 3), wB E (bd 4) ((fX6_reestimate β η σ a b).2.2.2 4), wB E (bd 5) ((fX6_reestimate β η σ a b).2.2.2 5), wB E (bd 6) ((fX6_reestimate β η σ a b).2.2.2 6), wB E (bd 7) ((fX6_reestimate β η σ a b).2.2.2 7), wB E (bd 8) ((fX6_reestimate β η σ a b).2.2.2 8), wB E (bd 9) ((fX6_reestimate β η σ a b).2.2.2 9), wM E am μ, wO E ao o]) (st1 := [.int 2]) [.ref ax, .int a, .int b, .ref ao] [0, 1, 2, 3, 4, 5, 6, 7, 8, 9, 10, 11, 12, 13, 15] (kL_reestimate_1 l E ax bo β tr τ ac γ ah bd η σ at_ θ ao o hlt hvb hvh a b hr) q3_186 q1_0 (by decide +kernel) q3_185 q3_184 rfl ⟨Nat.le_of_ble_eq_true rfl, Nat.le_of_ble_eq_true rfl⟩ ⟨hk, hn⟩ (by decide) rfl rfl rfl rfl (Nat.le_of_ble_eq_true rfl) dL_law_430 rfl ?_
    refine g_istore C (lv1 := [(5, .int 2), (0, .ref b0), (1, .ref ax), (2, .ref (am 0)), (3, .ref ao), (4, .int (nI i))]) dL_law_433 (by decide) rfl ?_
    refine g_aload_n C dL_law_435 rfl 3 rfl ?_
    refine g_aload_n C dL_law_436 rfl 1 rfl ?_
    refine g_iload C dL_law_437 5 rfl ?_
    refine g_iconst C (v := 1) dL_law_439 (by decide) ?_
    refine g_iadd C dL_law_440 ?_
    refine g_sldv C S (i + 1) (nx_add (rfl : nI i = nI i) (rfl : (1 : Int32) = nI 1)) (by omega) ha9 dL_law_441 ?_
    refine g_aload_n C dL_law_442 rfl 1 rfl ?_
    refine g_iload C dL_law_443 5 rfl ?_
    refine g_iconst C (v := 2) dL_law_445 (by decide) ?_
    refine g_iadd C dL_law_446 ?_
    refine g_sldv C S (i + 2) (nx_add (rfl : nI i = nI i) (rfl : (2 : Int32) = nI 2)) (by omega) hb9 dL_law_447 ?_
    refine g_callV C (cs1 := [wX ax (bo 0) (tr 0) (ac 0) (ah 0) (at_ 0), wB E bo ((fX6_reestimate β η σ a b).2.1), wB E tr τ, wC E ac γ, wH E ah bd ((fX6_reestimate β η σ a b).2.2.1), wT E at_ θ, wB E (bd 2) ((fX6_reestimate β η σ a b).2.2.2 2), wB E (bd 3) ((fX6_reestimate β η σ a b).2.2.2 3), wB E (bd 4) ((fX6_reestimate β η σ a b).2.2.2 4), wB E (bd 5) ((fX6_reestimate β η σ a b).2.2.2 5), wB E (bd 6) ((fX6_reestimate β η σ a b).2.2.2 6), wB E (bd 7) ((fX6_reestimate β η σ a b).2.2.2 7), wB E (bd 8) ((fX6_reestimate β η σ a b).2.2.2 8), wB E (bd 9) ((fX6_reestimate β η σ a b).2.2.2 9), wM E am ((fX7_reestimate μ a b).2), wO E ao o]) (st1 := [.int ((fX7_reestimate μ a b).1)]) [.int a, .int b] [14] (kX7_reestimate l E am μ hvm a b) caX7_reestimate q6_144 rfl ⟨Nat.le_of_ble_eq_true rfl, Nat.le_of_ble_eq_true rfl⟩ ⟨hk, hn⟩ 14 0 rfl rfl rfl rfl (by decide) rfl rfl rfl rfl (Nat.le_of_ble_eq_true rfl) dL_law_448 rfl ?_
    refine g_istore C (lv1 := [(6, .int ((fX7_reestimate μ a b).1)), (5, .int 2), (0, .ref b0), (1, .ref ax), (2, .ref (am 0)), (3, .ref ao), (4, .int (nI i))]) dL_law_451 (by decide) rfl ?_
    refine g_aload_n C dL_law_453 rfl 4 rfl ?_
    refine g_callV C (cs1 := [wX ax (bo 0) (tr 0) (ac 0) (ah 0) (at_ 0), wB E bo ((fX6_reestimate β η σ a b).2.1), wB E tr τ, wC E ac γ, wH E ah bd ((fX6_reestimate β η σ a b).2.2.1), wT E at_ θ, wB E (bd 2) ((fX6_reestimate β η σ a b).2.2.2 2), wB E (bd 3) ((fX6_reestimate β η σ a b).2.2.2 3), wB E (bd 4) ((fX6_reestimate β η σ a b).2.2.2 4), wB E (bd 5) ((fX6_reestimate β η σ a b).2.2.2 5), wB E (bd 6) ((fX6_reestimate β η σ a b).2.2.2 6), wB E (bd 7) ((fX6_reestimate β η σ a b).2.2.2 7), wB E (bd 8) ((fX6_reestimate β η σ a b).2.2.2 8), wB E (bd 9) ((fX6_reestimate β η σ a b).2.2.2 9), wM E am ((fX7_reestimate μ a b).2), wO E ao o]) (st1 := [.int (fX7_thrown ((fX7_reestimate μ a b).2))]) [] [14] (kX7_thrown l E am ((fX7_reestimate μ a b).2)) caX7_thrown q6_117 rfl ⟨Nat.le_of_ble_eq_true rfl, Nat.le_of_ble_eq_true rfl⟩ ⟨hk, hn⟩ 14 0 rfl rfl rfl rfl (by decide) rfl rfl rfl rfl (Nat.le_of_ble_eq_true rfl) dL_law_454 rfl ?_
    refine g_iload C dL_law_457 1 rfl ?_
    refine g_icmp_eq C 464 dL_law_459 (by decide) (fun _ => ?_) (fun c => absurd ht c)
    refine g_iload C dL_law_464 1 rfl ?_
    refine g_if_ne C 481 dL_law_466 (by decide) (fun _ => ?_) (fun c => absurd c (by decide))
    refine g_goto C 3840 dL_law_481 (by decide) ?_
    exact g_sub [2, 3, 4, 5, 6] rfl (next ((fX6_reestimate β η σ a b).2.1) τ γ ((fX6_reestimate β η σ a b).2.2.1) ((fX6_reestimate β η σ a b).2.2.2) θ ((fX7_reestimate μ a b).2) o hR2)
  · skip
    refine g_aload_n C dL_law_416 rfl 1 rfl ?_
    refine g_aload_n C dL_law_417 rfl 0 rfl ?_
    refine g_iload C dL_law_418 4 rfl ?_
    refine g_iconst C (v := 1) dL_law_420 (by decide) ?_
    refine g_iadd C dL_law_421 ?_
    refine g_sldv C S (i + 1) (nx_add (rfl : nI i = nI i) (rfl : (1 : Int32) = nI 1)) (by omega) ha9 dL_law_422 ?_
    refine g_aload_n C dL_law_423 rfl 0 rfl ?_
    refine g_iload C dL_law_424 4 rfl ?_
    refine g_iconst C (v := 2) dL_law_426 (by decide) ?_
    refine g_iadd C dL_law_427 ?_
    refine g_sldv C S (i + 2) (nx_add (rfl : nI i = nI i) (rfl : (2 : Int32) = nI 2)) (by omega) hb9 dL_law_428 ?_
    refine g_aload_n C dL_law_429 rfl 3 rfl ?_
    refine g_callSW C hZ hNc (cs1 := [wX ax (bo 0) (tr 0) (ac 0) (ah 0) (at_ 0), wB E bo ((fX6_reestimate β η σ a b).2.1), wB E tr τ, wC E ac γ, wH E ah bd ((fX6_reestimate β η σ a b).2.2.1), wT E at_ θ, wB E (bd 2) ((fX6_reestimate β η σ a b).2.2.2 2), wB E (bd 3) ((fX6_reestimate β η σ a b).2.2.2 3), wB E (bd 4) ((fX6_reestimate β η σ a b).2.2.2 4), wB E (bd 5) ((fX6_reestimate β η σ a b).2.2.2 5), wB E (bd 6) ((fX6_reestimate β η σ a b).2.2.2 6), wB E (bd 7) ((fX6_reestimate β η σ a b).2.2.2 7), wB E (bd 8) ((fX6_reestimate β η σ a b).2.2.2 8), wB E (bd 9) ((fX6_reestimate β η σ a b).2.2.2 9), wM E am μ, wO E ao o]) (st1 := [.int 3]) [.ref ax, .int a, .int b, .ref ao] [0, 1, 2, 3, 4, 5, 6, 7, 8, 9, 10, 11, 12, 13, 15] (kL_reestimate_2 l E ax bo β tr τ ac γ ah bd η σ at_ θ ao o hlt hvb hvh a b hr) q3_186 q1_0 (by decide +kernel) q3_185 q3_184 rfl ⟨Nat.le_of_ble_eq_true rfl, Nat.le_of_ble_eq_true rfl⟩ ⟨hk, hn⟩ (by decide) rfl rfl rfl rfl (Nat.le_of_ble_eq_true rfl) dL_law_430 rfl ?_
    refine g_istore C (lv1 := [(5, .int 3), (0, .ref b0), (1, .ref ax), (2, .ref (am 0)), (3, .ref ao), (4, .int (nI i))]) dL_law_433 (by decide) rfl ?_
    refine g_aload_n C dL_law_435 rfl 3 rfl ?_
    refine g_aload_n C dL_law_436 rfl 1 rfl ?_
    refine g_iload C dL_law_437 5 rfl ?_
    refine g_iconst C (v := 1) dL_law_439 (by decide) ?_
    refine g_iadd C dL_law_440 ?_
    refine g_sldv C S (i + 1) (nx_add (rfl : nI i = nI i) (rfl : (1 : Int32) = nI 1)) (by omega) ha9 dL_law_441 ?_
    refine g_aload_n C dL_law_442 rfl 1 rfl ?_
    refine g_iload C dL_law_443 5 rfl ?_
    refine g_iconst C (v := 2) dL_law_445 (by decide) ?_
    refine g_iadd C dL_law_446 ?_
    refine g_sldv C S (i + 2) (nx_add (rfl : nI i = nI i) (rfl : (2 : Int32) = nI 2)) (by omega) hb9 dL_law_447 ?_
    refine g_callV C (cs1 := [wX ax (bo 0) (tr 0) (ac 0) (ah 0) (at_ 0), wB E bo ((fX6_reestimate β η σ a b).2.1), wB E tr τ, wC E ac γ, wH E ah bd ((fX6_reestimate β η σ a b).2.2.1), wT E at_ θ, wB E (bd 2) ((fX6_reestimate β η σ a b).2.2.2 2), wB E (bd 3) ((fX6_reestimate β η σ a b).2.2.2 3), wB E (bd 4) ((fX6_reestimate β η σ a b).2.2.2 4), wB E (bd 5) ((fX6_reestimate β η σ a b).2.2.2 5), wB E (bd 6) ((fX6_reestimate β η σ a b).2.2.2 6), wB E (bd 7) ((fX6_reestimate β η σ a b).2.2.2 7), wB E (bd 8) ((fX6_reestimate β η σ a b).2.2.2 8), wB E (bd 9) ((fX6_reestimate β η σ a b).2.2.2 9), wM E am ((fX7_reestimate μ a b).2), wO E ao o]) (st1 := [.int ((fX7_reestimate μ a b).1)]) [.int a, .int b] [14] (kX7_reestimate l E am μ hvm a b) caX7_reestimate q6_144 rfl ⟨Nat.le_of_ble_eq_true rfl, Nat.le_of_ble_eq_true rfl⟩ ⟨hk, hn⟩ 14 0 rfl rfl rfl rfl (by decide) rfl rfl rfl rfl (Nat.le_of_ble_eq_true rfl) dL_law_448 rfl ?_
    refine g_istore C (lv1 := [(6, .int ((fX7_reestimate μ a b).1)), (5, .int 3), (0, .ref b0), (1, .ref ax), (2, .ref (am 0)), (3, .ref ao), (4, .int (nI i))]) dL_law_451 (by decide) rfl ?_
    refine g_aload_n C dL_law_453 rfl 4 rfl ?_
    refine g_callV C (cs1 := [wX ax (bo 0) (tr 0) (ac 0) (ah 0) (at_ 0), wB E bo ((fX6_reestimate β η σ a b).2.1), wB E tr τ, wC E ac γ, wH E ah bd ((fX6_reestimate β η σ a b).2.2.1), wT E at_ θ, wB E (bd 2) ((fX6_reestimate β η σ a b).2.2.2 2), wB E (bd 3) ((fX6_reestimate β η σ a b).2.2.2 3), wB E (bd 4) ((fX6_reestimate β η σ a b).2.2.2 4), wB E (bd 5) ((fX6_reestimate β η σ a b).2.2.2 5), wB E (bd 6) ((fX6_reestimate β η σ a b).2.2.2 6), wB E (bd 7) ((fX6_reestimate β η σ a b).2.2.2 7), wB E (bd 8) ((fX6_reestimate β η σ a b).2.2.2 8), wB E (bd 9) ((fX6_reestimate β η σ a b).2.2.2 9), wM E am ((fX7_reestimate μ a b).2), wO E ao o]) (st1 := [.int (fX7_thrown ((fX7_reestimate μ a b).2))]) [] [14] (kX7_thrown l E am ((fX7_reestimate μ a b).2)) caX7_thrown q6_117 rfl ⟨Nat.le_of_ble_eq_true rfl, Nat.le_of_ble_eq_true rfl⟩ ⟨hk, hn⟩ 14 0 rfl rfl rfl rfl (by decide) rfl rfl rfl rfl (Nat.le_of_ble_eq_true rfl) dL_law_454 rfl ?_
    refine g_iload C dL_law_457 1 rfl ?_
    refine g_icmp_eq C 464 dL_law_459 (by decide) (fun _ => ?_) (fun c => absurd ht c)
    refine g_iload C dL_law_464 1 rfl ?_
    refine g_if_ne C 481 dL_law_466 (by decide) (fun _ => ?_) (fun c => absurd c (by decide))
    refine g_goto C 3840 dL_law_481 (by decide) ?_
    exact g_sub [2, 3, 4, 5, 6] rfl (next ((fX6_reestimate β η σ a b).2.1) τ γ ((fX6_reestimate β η σ a b).2.2.1) ((fX6_reestimate β η σ a b).2.2.2) θ ((fX7_reestimate μ a b).2) o hR2)
set_option maxHeartbeats 4000000 in
set_option maxRecDepth 100000 in
theorem arm_2 {Rl : RlT} (hRv : RlV Rl) (hs : sH_changePriority Rl)  {X : gX} {l : Launch} {E : gE} (C : gC X cL_law 9 RL (some .boolean) l E room_1) (hZ : gZ X.2.2.2.2.2.2.2.2.2.2.2.1 X.2.2.2.2.1 X.2.2.2.2.1.heap) (hNc : gNc X.2.2.2.2.1) {b0 L0 : Nat} {xs : Nat → Int32} (S : gS X b0 L0 xs) (hlt : l.stackTraces = false) {ax : Nat} {bo tr ac ah : Nat → Nat} {bd : Nat → Nat → Nat} {at_ am : Nat → Nat} {ao k n i : Nat} (hk : k + 3 ≤ 601024) (hn : n + 18 ≤ 7293034) (hi : i + 3 ≤ L0) {β τ γ η : BS} {σ : Nat → BS} {θ μ : BS} {o : Nat → Int64} (hR : Rl β η θ σ μ) (next : ∀ (β τ γ η : BS) (σ : Nat → BS) (θ μ : BS) (o : Nat → Int64), Rl β η θ σ μ → G X (k + 3) (n + 18) [wX ax (bo 0) (tr 0) (ac 0) (ah 0) (at_ 0), wB E bo β, wB E tr τ, wC E ac γ, wH E ah bd η, wT E at_ θ, wB E (bd 2) (σ 2), wB E (bd 3) (σ 3), wB E (bd 4) (σ 4), wB E (bd 5) (σ 5), wB E (bd 6) (σ 6), wB E (bd 7) (σ 7), wB E (bd 8) (σ 8), wB E (bd 9) (σ 9), wM E am μ, wO E ao o] [(0, .ref b0), (1, .ref ax), (2, .ref (am 0)), (3, .ref ao), (4, .int (nI i))] 3840 []) : G X k n [wX ax (bo 0) (tr 0) (ac 0) (ah 0) (at_ 0), wB E bo β, wB E tr τ, wC E ac γ, wH E ah bd η, wT E at_ θ, wB E (bd 2) (σ 2), wB E (bd 3) (σ 3), wB E (bd 4) (σ 4), wB E (bd 5) (σ 5), wB E (bd 6) (σ 6), wB E (bd 7) (σ 7), wB E (bd 8) (σ 8), wB E (bd 9) (σ 9), wM E am μ, wO E ao o] [(0, .ref b0), (1, .ref ax), (2, .ref (am 0)), (3, .ref ao), (4, .int (nI i))] 484 [] := by
  obtain ⟨hvb, hvh, hvt, hvm, ha⟩ := hRv β η θ σ μ hR
  obtain ⟨a, ha9⟩ : ∃ a, xs (i + 1) = a := ⟨_, rfl⟩
  obtain ⟨b, hb9⟩ : ∃ b, xs (i + 2) = b := ⟨_, rfl⟩
  obtain ⟨hag, hR2⟩ := hs β τ γ η σ θ μ a b hR
  rcases hag with ⟨hr, ht⟩ | ⟨hr, ht⟩ | ⟨hr, ht⟩
  · skip
    refine g_aload_n C dL_law_484 rfl 1 rfl ?_
    refine g_aload_n C dL_law_485 rfl 0 rfl ?_
    refine g_iload C dL_law_486 4 rfl ?_
    refine g_iconst C (v := 1) dL_law_488 (by decide) ?_
    refine g_iadd C dL_law_489 ?_
    refine g_sldv C S (i + 1) (nx_add (rfl : nI i = nI i) (rfl : (1 : Int32) = nI 1)) (by omega) ha9 dL_law_490 ?_
    refine g_aload_n C dL_law_491 rfl 0 rfl ?_
    refine g_iload C dL_law_492 4 rfl ?_
    refine g_iconst C (v := 2) dL_law_494 (by decide) ?_
    refine g_iadd C dL_law_495 ?_
    refine g_sldv C S (i + 2) (nx_add (rfl : nI i = nI i) (rfl : (2 : Int32) = nI 2)) (by omega) hb9 dL_law_496 ?_
    refine g_aload_n C dL_law_497 rfl 3 rfl ?_
    refine g_callSW C hZ hNc (cs1 := [wX ax (bo 0) (tr 0) (ac 0) (ah 0) (at_ 0), wB E bo ((fX6_changePriority β η σ a b).2.1), wB E tr τ, wC E ac γ, wH E ah bd ((fX6_changePriority β η σ a b).2.2.1), wT E at_ θ, wB E (bd 2) ((fX6_changePriority β η σ a b).2.2.2 2), wB E (bd 3) ((fX6_changePriority β η σ a b).2.2.2 3), wB E (bd 4) ((fX6_changePriority β η σ a b).2.2.2 4), wB E (bd 5) ((fX6_changePriority β η σ a b).2.2.2 5), wB E (bd 6) ((fX6_changePriority β η σ a b).2.2.2 6), wB E (bd 7) ((fX6_changePriority β η σ a b).2.2.2 7), wB E (bd 8) ((fX6_changePriority β η σ a b).2.2.2 8), wB E (bd 9) ((fX6_changePriority β η σ a b).2.2.2 9), wM E am μ, wO E ao (vp_updL o 0 v.toInt64)]) (st1 := [.int 0]) [.ref ax, .int a, .int b, .ref ao] [0, 1, 2, 3, 4, 5, 6, 7, 8, 9, 10, 11, 12, 13, 15] (kL_changePriority_r l E ax bo β tr τ ac γ ah bd η σ at_ θ ao o hlt hvb hvh a b ((fX7_changePriority μ a b).1) hr) q3_233 q1_0 (by decide +kernel) q3_232 q3_231 rfl ⟨Nat.le_of_ble_eq_true rfl, Nat.le_of_ble_eq_true rfl⟩ ⟨hk, hn⟩ (by decide) rfl rfl rfl rfl (Nat.le_of_ble_eq_true rfl) dL_law_498 rfl ?_
    refine g_istore C (lv1 := [(5, .int 0), (0, .ref b0), (1, .ref ax), (2, .ref (am 0)), (3, .ref ao), (4, .int (nI i))]) dL_law_501 (by decide) rfl ?_
    refine g_aload_n C dL_law_503 rfl 3 rfl ?_
    refine g_aload_n C dL_law_504 rfl 1 rfl ?_
    refine g_iload C dL_law_505 5 rfl ?_
    refine g_iconst C (v := 1) dL_law_507 (by decide) ?_
    refine g_iadd C dL_law_508 ?_
    refine g_sldv C S (i + 1) (nx_add (rfl : nI i = nI i) (rfl : (1 : Int32) = nI 1)) (by omega) ha9 dL_law_509 ?_
    refine g_aload_n C dL_law_510 rfl 1 rfl ?_
    refine g_iload C dL_law_511 5 rfl ?_
    refine g_iconst C (v := 2) dL_law_513 (by decide) ?_
    refine g_iadd C dL_law_514 ?_
    refine g_sldv C S (i + 2) (nx_add (rfl : nI i = nI i) (rfl : (2 : Int32) = nI 2)) (by omega) hb9 dL_law_515 ?_
    refine g_callV C (cs1 := [wX ax (bo 0) (tr 0) (ac 0) (ah 0) (at_ 0), wB E bo ((fX6_changePriority β η σ a b).2.1), wB E tr τ, wC E ac γ, wH E ah bd ((fX6_changePriority β η σ a b).2.2.1), wT E at_ θ, wB E (bd 2) ((fX6_changePriority β η σ a b).2.2.2 2), wB E (bd 3) ((fX6_changePriority β η σ a b).2.2.2 3), wB E (bd 4) ((fX6_changePriority β η σ a b).2.2.2 4), wB E (bd 5) ((fX6_changePriority β η σ a b).2.2.2 5), wB E (bd 6) ((fX6_changePriority β η σ a b).2.2.2 6), wB E (bd 7) ((fX6_changePriority β η σ a b).2.2.2 7), wB E (bd 8) ((fX6_changePriority β η σ a b).2.2.2 8), wB E (bd 9) ((fX6_changePriority β η σ a b).2.2.2 9), wM E am ((fX7_changePriority μ a b).2), wO E ao (vp_updL o 0 v.toInt64)]) (st1 := [.int ((fX7_changePriority μ a b).1)]) [.int a, .int b] [14] (kX7_changePriority l E am μ hvm a b) caX7_changePriority q6_168 rfl ⟨Nat.le_of_ble_eq_true rfl, Nat.le_of_ble_eq_true rfl⟩ ⟨hk, hn⟩ 14 0 rfl rfl rfl rfl (by decide) rfl rfl rfl rfl (Nat.le_of_ble_eq_true rfl) dL_law_516 rfl ?_
    refine g_istore C (lv1 := [(6, .int ((fX7_changePriority μ a b).1)), (5, .int 0), (0, .ref b0), (1, .ref ax), (2, .ref (am 0)), (3, .ref ao), (4, .int (nI i))]) dL_law_519 (by decide) rfl ?_
    refine g_aload_n C dL_law_521 rfl 4 rfl ?_
    refine g_callV C (cs1 := [wX ax (bo 0) (tr 0) (ac 0) (ah 0) (at_ 0), wB E bo ((fX6_changePriority β η σ a b).2.1), wB E tr τ, wC E ac γ, wH E ah bd ((fX6_changePriority β η σ a b).2.2.1), wT E at_ θ, wB E (bd 2) ((fX6_changePriority β η σ a b).2.2.2 2), wB E (bd 3) ((fX6_changePriority β η σ a b).2.2.2 3), wB E (bd 4) ((fX6_changePriority β η σ a b).2.2.2 4), wB E (bd 5) ((fX6_changePriority β η σ a b).2.2.2 5), wB E (bd 6) ((fX6_changePriority β η σ a b).2.2.2 6), wB E (bd 7) ((fX6_changePriority β η σ a b).2.2.2 7), wB E (bd 8) ((fX6_changePriority β η σ a b).2.2.2 8), wB E (bd 9) ((fX6_changePriority β η σ a b).2.2.2 9), wM E am ((fX7_changePriority μ a b).2), wO E ao (vp_updL o 0 v.toInt64)]) (st1 := [.int (fX7_thrown ((fX7_changePriority μ a b).2))]) [] [14] (kX7_thrown l E am ((fX7_changePriority μ a b).2)) caX7_thrown q6_117 rfl ⟨Nat.le_of_ble_eq_true rfl, Nat.le_of_ble_eq_true rfl⟩ ⟨hk, hn⟩ 14 0 rfl rfl rfl rfl (by decide) rfl rfl rfl rfl (Nat.le_of_ble_eq_true rfl) dL_law_522 rfl ?_
    refine g_iload C dL_law_525 1 rfl ?_
    refine g_icmp_eq C 532 dL_law_527 (by decide) (fun _ => ?_) (fun c => absurd ht c)
    refine g_iload C dL_law_532 1 rfl ?_
    refine g_if_ne C 549 dL_law_534 (by decide) (fun c => absurd rfl c) (fun _ => ?_)
    refine g_aload_n C dL_law_537 rfl 5 rfl ?_
    refine g_iconst C (v := 0) dL_law_538 (by decide) ?_
    refine g_laldn C 15 0 0 rfl rfl rfl (by decide) (by decide) dL_law_539 ?_
    refine g_iload C dL_law_540 0 rfl ?_
    refine g_i2l C dL_law_542 ?_
    refine g_lcmp C dL_law_543 ?_
    refine g_if_eq C 549 dL_law_544 (by decide) (fun _ => ?_) (fun c => absurd law_cmp c)
    refine g_goto C 3840 dL_law_549 (by decide) ?_
    exact g_sub [2, 3, 4, 5, 6] rfl (next ((fX6_changePriority β η σ a b).2.1) τ γ ((fX6_changePriority β η σ a b).2.2.1) ((fX6_changePriority β η σ a b).2.2.2) θ ((fX7_changePriority μ a b).2) (vp_updL o 0 v.toInt64) hR2)
  · skip
    refine g_aload_n C dL_law_484 rfl 1 rfl ?_
    refine g_aload_n C dL_law_485 rfl 0 rfl ?_
    refine g_iload C dL_law_486 4 rfl ?_
    refine g_iconst C (v := 1) dL_law_488 (by decide) ?_
    refine g_iadd C dL_law_489 ?_
    refine g_sldv C S (i + 1) (nx_add (rfl : nI i = nI i) (rfl : (1 : Int32) = nI 1)) (by omega) ha9 dL_law_490 ?_
    refine g_aload_n C dL_law_491 rfl 0 rfl ?_
    refine g_iload C dL_law_492 4 rfl ?_
    refine g_iconst C (v := 2) dL_law_494 (by decide) ?_
    refine g_iadd C dL_law_495 ?_
    refine g_sldv C S (i + 2) (nx_add (rfl : nI i = nI i) (rfl : (2 : Int32) = nI 2)) (by omega) hb9 dL_law_496 ?_
    refine g_aload_n C dL_law_497 rfl 3 rfl ?_
    refine g_callSW C hZ hNc (cs1 := [wX ax (bo 0) (tr 0) (ac 0) (ah 0) (at_ 0), wB E bo ((fX6_changePriority β η σ a b).2.1), wB E tr τ, wC E ac γ, wH E ah bd ((fX6_changePriority β η σ a b).2.2.1), wT E at_ θ, wB E (bd 2) ((fX6_changePriority β η σ a b).2.2.2 2), wB E (bd 3) ((fX6_changePriority β η σ a b).2.2.2 3), wB E (bd 4) ((fX6_changePriority β η σ a b).2.2.2 4), wB E (bd 5) ((fX6_changePriority β η σ a b).2.2.2 5), wB E (bd 6) ((fX6_changePriority β η σ a b).2.2.2 6), wB E (bd 7) ((fX6_changePriority β η σ a b).2.2.2 7), wB E (bd 8) ((fX6_changePriority β η σ a b).2.2.2 8), wB E (bd 9) ((fX6_changePriority β η σ a b).2.2.2 9), wM E am μ, wO E ao o]) (st1 := [.int 1]) [.ref ax, .int a, .int b, .ref ao] [0, 1, 2, 3, 4, 5, 6, 7, 8, 9, 10, 11, 12, 13, 15] (kL_changePriority_0 l E ax bo β tr τ ac γ ah bd η σ at_ θ ao o hlt hvb hvh a b hr) q3_233 q1_0 (by decide +kernel) q3_232 q3_231 rfl ⟨Nat.le_of_ble_eq_true rfl, Nat.le_of_ble_eq_true rfl⟩ ⟨hk, hn⟩ (by decide) rfl rfl rfl rfl (Nat.le_of_ble_eq_true rfl) dL_law_498 rfl ?_
    refine g_istore C (lv1 := [(5, .int 1), (0, .ref b0), (1, .ref ax), (2, .ref (am 0)), (3, .ref ao), (4, .int (nI i))]) dL_law_501 (by decide) rfl ?_
    refine g_aload_n C dL_law_503 rfl 3 rfl ?_
    refine g_aload_n C dL_law_504 rfl 1 rfl ?_
    refine g_iload C dL_law_505 5 rfl ?_
    refine g_iconst C (v := 1) dL_law_507 (by decide) ?_
    refine g_iadd C dL_law_508 ?_
    refine g_sldv C S (i + 1) (nx_add (rfl : nI i = nI i) (rfl : (1 : Int32) = nI 1)) (by omega) ha9 dL_law_509 ?_
    refine g_aload_n C dL_law_510 rfl 1 rfl ?_
    refine g_iload C dL_law_511 5 rfl ?_
    refine g_iconst C (v := 2) dL_law_513 (by decide) ?_
    refine g_iadd C dL_law_514 ?_
    refine g_sldv C S (i + 2) (nx_add (rfl : nI i = nI i) (rfl : (2 : Int32) = nI 2)) (by omega) hb9 dL_law_515 ?_
    refine g_callV C (cs1 := [wX ax (bo 0) (tr 0) (ac 0) (ah 0) (at_ 0), wB E bo ((fX6_changePriority β η σ a b).2.1), wB E tr τ, wC E ac γ, wH E ah bd ((fX6_changePriority β η σ a b).2.2.1), wT E at_ θ, wB E (bd 2) ((fX6_changePriority β η σ a b).2.2.2 2), wB E (bd 3) ((fX6_changePriority β η σ a b).2.2.2 3), wB E (bd 4) ((fX6_changePriority β η σ a b).2.2.2 4), wB E (bd 5) ((fX6_changePriority β η σ a b).2.2.2 5), wB E (bd 6) ((fX6_changePriority β η σ a b).2.2.2 6), wB E (bd 7) ((fX6_changePriority β η σ a b).2.2.2 7), wB E (bd 8) ((fX6_changePriority β η σ a b).2.2.2 8), wB E (bd 9) ((fX6_changePriority β η σ a b).2.2.2 9), wM E am ((fX7_changePriority μ a b).2), wO E ao o]) (st1 := [.int ((fX7_changePriority μ a b).1)]) [.int a, .int b] [14] (kX7_changePriority l E am μ hvm a b) caX7_changePriority q6_168 rfl ⟨Nat.le_of_ble_eq_true rfl, Nat.le_of_ble_eq_true rfl⟩ ⟨hk, hn⟩ 14 0 rfl rfl rfl rfl (by decide) rfl rfl rfl rfl (Nat.le_of_ble_eq_true rfl) dL_law_516 rfl ?_
    refine g_istore C (lv1 := [(6, .int ((fX7_changePriority μ a b).1)), (5, .int 1), (0, .ref b0), (1, .ref ax), (2, .ref (am 0)), (3, .ref ao), (4, .int (nI i))]) dL_law_519 (by decide) rfl ?_
    refine g_aload_n C dL_law_521 rfl 4 rfl ?_
    refine g_callV C (cs1 := [wX ax (bo 0) (tr 0) (ac 0) (ah 0) (at_ 0), wB E bo ((fX6_changePriority β η σ a b).2.1), wB E tr τ, wC E ac γ, wH E ah bd ((fX6_changePriority β η σ a b).2.2.1), wT E at_ θ, wB E (bd 2) ((fX6_changePriority β η σ a b).2.2.2 2), wB E (bd 3) ((fX6_changePriority β η σ a b).2.2.2 3), wB E (bd 4) ((fX6_changePriority β η σ a b).2.2.2 4), wB E (bd 5) ((fX6_changePriority β η σ a b).2.2.2 5), wB E (bd 6) ((fX6_changePriority β η σ a b).2.2.2 6), wB E (bd 7) ((fX6_changePriority β η σ a b).2.2.2 7), wB E (bd 8) ((fX6_changePriority β η σ a b).2.2.2 8), wB E (bd 9) ((fX6_changePriority β η σ a b).2.2.2 9), wM E am ((fX7_changePriority μ a b).2), wO E ao o]) (st1 := [.int (fX7_thrown ((fX7_changePriority μ a b).2))]) [] [14] (kX7_thrown l E am ((fX7_changePriority μ a b).2)) caX7_thrown q6_117 rfl ⟨Nat.le_of_ble_eq_true rfl, Nat.le_of_ble_eq_true rfl⟩ ⟨hk, hn⟩ 14 0 rfl rfl rfl rfl (by decide) rfl rfl rfl rfl (Nat.le_of_ble_eq_true rfl) dL_law_522 rfl ?_
    refine g_iload C dL_law_525 1 rfl ?_
    refine g_icmp_eq C 532 dL_law_527 (by decide) (fun _ => ?_) (fun c => absurd ht c)
    refine g_iload C dL_law_532 1 rfl ?_
    refine g_if_ne C 549 dL_law_534 (by decide) (fun _ => ?_) (fun c => absurd c (by decide))
    refine g_goto C 3840 dL_law_549 (by decide) ?_
    exact g_sub [2, 3, 4, 5, 6] rfl (next ((fX6_changePriority β η σ a b).2.1) τ γ ((fX6_changePriority β η σ a b).2.2.1) ((fX6_changePriority β η σ a b).2.2.2) θ ((fX7_changePriority μ a b).2) o hR2)
  · skip
    refine g_aload_n C dL_law_484 rfl 1 rfl ?_
    refine g_aload_n C dL_law_485 rfl 0 rfl ?_
    refine g_iload C dL_law_486 4 rfl ?_
    refine g_iconst C (v := 1) dL_law_488 (by decide) ?_
    refine g_iadd C dL_law_489 ?_
    refine g_sldv C S (i + 1) (nx_add (rfl : nI i = nI i) (rfl : (1 : Int32) = nI 1)) (by omega) ha9 dL_law_490 ?_
    refine g_aload_n C dL_law_491 rfl 0 rfl ?_
    refine g_iload C dL_law_492 4 rfl ?_
    refine g_iconst C (v := 2) dL_law_494 (by decide) ?_
    refine g_iadd C dL_law_495 ?_
    refine g_sldv C S (i + 2) (nx_add (rfl : nI i = nI i) (rfl : (2 : Int32) = nI 2)) (by omega) hb9 dL_law_496 ?_
    refine g_aload_n C dL_law_497 rfl 3 rfl ?_
    refine g_callSW C hZ hNc (cs1 := [wX ax (bo 0) (tr 0) (ac 0) (ah 0) (at_ 0), wB E bo ((fX6_changePriority β η σ a b).2.1), wB E tr τ, wC E ac γ, wH E ah bd ((fX6_changePriority β η σ a b).2.2.1), wT E at_ θ, wB E (bd 2) ((fX6_changePriority β η σ a b).2.2.2 2), wB E (bd 3) ((fX6_changePriority β η σ a b).2.2.2 3), wB E (bd 4) ((fX6_changePriority β η σ a b).2.2.2 4), wB E (bd 5) ((fX6_changePriority β η σ a b).2.2.2 5), wB E (bd 6) ((fX6_changePriority β η σ a b).2.2.2 6), wB E (bd 7) ((fX6_changePriority β η σ a b).2.2.2 7), wB E (bd 8) ((fX6_changePriority β η σ a b).2.2.2 8), wB E (bd 9) ((fX6_changePriority β η σ a b).2.2.2 9), wM E am μ, wO E ao o]) (st1 := [.int 2]) [.ref ax, .int a, .int b, .ref ao] [0, 1, 2, 3, 4, 5, 6, 7, 8, 9, 10, 11, 12, 13, 15] (kL_changePriority_1 l E ax bo β tr τ ac γ ah bd η σ at_ θ ao o hlt hvb hvh a b hr) q3_233 q1_0 (by decide +kernel) q3_232 q3_231 rfl ⟨Nat.le_of_ble_eq_true rfl, Nat.le_of_ble_eq_true rfl⟩ ⟨hk, hn⟩ (by decide) rfl rfl rfl rfl (Nat.le_of_ble_eq_true rfl) dL_law_498 rfl ?_
    refine g_istore C (lv1 := [(5, .int 2), (0, .ref b0), (1, .ref ax), (2, .ref (am 0)), (3, .ref ao), (4, .int (nI i))]) dL_law_501 (by decide) rfl ?_
    refine g_aload_n C dL_law_503 rfl 3 rfl ?_
    refine g_aload_n C dL_law_504 rfl 1 rfl ?_
    refine g_iload C dL_law_505 5 rfl ?_
    refine g_iconst C (v := 1) dL_law_507 (by decide) ?_
    refine g_iadd C dL_law_508 ?_
    refine g_sldv C S (i + 1) (nx_add (rfl : nI i = nI i) (rfl : (1 : Int32) = nI 1)) (by omega) ha9 dL_law_509 ?_
    refine g_aload_n C dL_law_510 rfl 1 rfl ?_
    refine g_iload C dL_law_511 5 rfl ?_
    refine g_iconst C (v := 2) dL_law_513 (by decide) ?_
    refine g_iadd C dL_law_514 ?_
    refine g_sldv C S (i + 2) (nx_add (rfl : nI i = nI i) (rfl : (2 : Int32) = nI 2)) (by omega) hb9 dL_law_515 ?_
    refine g_callV C (cs1 := [wX ax (bo 0) (tr 0) (ac 0) (ah 0) (at_ 0), wB E bo ((fX6_changePriority β η σ a b).2.1), wB E tr τ, wC E ac γ, wH E ah bd ((fX6_changePriority β η σ a b).2.2.1), wT E at_ θ, wB E (bd 2) ((fX6_changePriority β η σ a b).2.2.2 2), wB E (bd 3) ((fX6_changePriority β η σ a b).2.2.2 3), wB E (bd 4) ((fX6_changePriority β η σ a b).2.2.2 4), wB E (bd 5) ((fX6_changePriority β η σ a b).2.2.2 5), wB E (bd 6) ((fX6_changePriority β η σ a b).2.2.2 6), wB E (bd 7) ((fX6_changePriority β η σ a b).2.2.2 7), wB E (bd 8) ((fX6_changePriority β η σ a b).2.2.2 8), wB E (bd 9) ((fX6_changePriority β η σ a b).2.2.2 9), wM E am ((fX7_changePriority μ a b).2), wO E ao o]) (st1 := [.int ((fX7_changePriority μ a b).1)]) [.int a, .int b] [14] (kX7_changePriority l E am μ hvm a b) caX7_changePriority q6_168 rfl ⟨Nat.le_of_ble_eq_true rfl, Nat.le_of_ble_eq_true rfl⟩ ⟨hk, hn⟩ 14 0 rfl rfl rfl rfl (by decide) rfl rfl rfl rfl (Nat.le_of_ble_eq_true rfl) dL_law_516 rfl ?_
    refine g_istore C (lv1 := [(6, .int ((fX7_changePriority μ a b).1)), (5, .int 2), (0, .ref b0), (1, .ref ax), (2, .ref (am 0)), (3, .ref ao), (4, .int (nI i))]) dL_law_519 (by decide) rfl ?_
    refine g_aload_n C dL_law_521 rfl 4 rfl ?_
    refine g_callV C (cs1 := [wX ax (bo 0) (tr 0) (ac 0) (ah 0) (at_ 0), wB E bo ((fX6_changePriority β η σ a b).2.1), wB E tr τ, wC E ac γ, wH E ah bd ((fX6_changePriority β η σ a b).2.2.1), wT E at_ θ, wB E (bd 2) ((fX6_changePriority β η σ a b).2.2.2 2), wB E (bd 3) ((fX6_changePriority β η σ a b).2.2.2 3), wB E (bd 4) ((fX6_changePriority β η σ a b).2.2.2 4), wB E (bd 5) ((fX6_changePriority β η σ a b).2.2.2 5), wB E (bd 6) ((fX6_changePriority β η σ a b).2.2.2 6), wB E (bd 7) ((fX6_changePriority β η σ a b).2.2.2 7), wB E (bd 8) ((fX6_changePriority β η σ a b).2.2.2 8), wB E (bd 9) ((fX6_changePriority β η σ a b).2.2.2 9), wM E am ((fX7_changePriority μ a b).2), wO E ao o]) (st1 := [.int (fX7_thrown ((fX7_changePriority μ a b).2))]) [] [14] (kX7_thrown l E am ((fX7_changePriority μ a b).2)) caX7_thrown q6_117 rfl ⟨Nat.le_of_ble_eq_true rfl, Nat.le_of_ble_eq_true rfl⟩ ⟨hk, hn⟩ 14 0 rfl rfl rfl rfl (by decide) rfl rfl rfl rfl (Nat.le_of_ble_eq_true rfl) dL_law_522 rfl ?_
    refine g_iload C dL_law_525 1 rfl ?_
    refine g_icmp_eq C 532 dL_law_527 (by decide) (fun _ => ?_) (fun c => absurd ht c)
    refine g_iload C dL_law_532 1 rfl ?_
    refine g_if_ne C 549 dL_law_534 (by decide) (fun _ => ?_) (fun c => absurd c (by decide))
    refine g_goto C 3840 dL_law_549 (by decide) ?_
    exact g_sub [2, 3, 4, 5, 6] rfl (next ((fX6_changePriority β η σ a b).2.1) τ γ ((fX6_changePriority β η σ a b).2.2.1) ((fX6_changePriority β η σ a b).2.2.2) θ ((fX7_changePriority μ a b).2) o hR2)
set_option maxHeartbeats 4000000 in
set_option maxRecDepth 100000 in
theorem arm_3 {Rl : RlT} (hRv : RlV Rl) (hs : sH_need Rl)  {X : gX} {l : Launch} {E : gE} (C : gC X cL_law 9 RL (some .boolean) l E room_1) (hZ : gZ X.2.2.2.2.2.2.2.2.2.2.2.1 X.2.2.2.2.1 X.2.2.2.2.1.heap) (hNc : gNc X.2.2.2.2.1) {b0 L0 : Nat} {xs : Nat → Int32} (S : gS X b0 L0 xs) (hlt : l.stackTraces = false) {ax : Nat} {bo tr ac ah : Nat → Nat} {bd : Nat → Nat → Nat} {at_ am : Nat → Nat} {ao k n i : Nat} (hk : k + 3 ≤ 601024) (hn : n + 18 ≤ 7293034) (hi : i + 3 ≤ L0) {β τ γ η : BS} {σ : Nat → BS} {θ μ : BS} {o : Nat → Int64} (hR : Rl β η θ σ μ) (next : ∀ (β τ γ η : BS) (σ : Nat → BS) (θ μ : BS) (o : Nat → Int64), Rl β η θ σ μ → G X (k + 3) (n + 18) [wX ax (bo 0) (tr 0) (ac 0) (ah 0) (at_ 0), wB E bo β, wB E tr τ, wC E ac γ, wH E ah bd η, wT E at_ θ, wB E (bd 2) (σ 2), wB E (bd 3) (σ 3), wB E (bd 4) (σ 4), wB E (bd 5) (σ 5), wB E (bd 6) (σ 6), wB E (bd 7) (σ 7), wB E (bd 8) (σ 8), wB E (bd 9) (σ 9), wM E am μ, wO E ao o] [(0, .ref b0), (1, .ref ax), (2, .ref (am 0)), (3, .ref ao), (4, .int (nI i))] 3840 []) : G X k n [wX ax (bo 0) (tr 0) (ac 0) (ah 0) (at_ 0), wB E bo β, wB E tr τ, wC E ac γ, wH E ah bd η, wT E at_ θ, wB E (bd 2) (σ 2), wB E (bd 3) (σ 3), wB E (bd 4) (σ 4), wB E (bd 5) (σ 5), wB E (bd 6) (σ 6), wB E (bd 7) (σ 7), wB E (bd 8) (σ 8), wB E (bd 9) (σ 9), wM E am μ, wO E ao o] [(0, .ref b0), (1, .ref ax), (2, .ref (am 0)), (3, .ref ao), (4, .int (nI i))] 552 [] := by
  obtain ⟨hvb, hvh, hvt, hvm, ha⟩ := hRv β η θ σ μ hR
  obtain ⟨a, ha9⟩ : ∃ a, xs (i + 1) = a := ⟨_, rfl⟩
  obtain ⟨b, hb9⟩ : ∃ b, xs (i + 2) = b := ⟨_, rfl⟩
  obtain ⟨hag, hR2⟩ := hs β τ γ η σ θ μ a b hR
  rcases hag with ⟨hr, ht⟩ | ⟨hr, ht⟩ | ⟨hr, ht⟩ | ⟨hr, ht⟩
  · skip
    refine g_aload_n C dL_law_552 rfl 1 rfl ?_
    refine g_aload_n C dL_law_553 rfl 0 rfl ?_
    refine g_iload C dL_law_554 4 rfl ?_
    refine g_iconst C (v := 1) dL_law_556 (by decide) ?_
    refine g_iadd C dL_law_557 ?_
    refine g_sldv C S (i + 1) (nx_add (rfl : nI i = nI i) (rfl : (1 : Int32) = nI 1)) (by omega) ha9 dL_law_558 ?_
    refine g_aload_n C dL_law_559 rfl 0 rfl ?_
    refine g_iload C dL_law_560 4 rfl ?_
    refine g_iconst C (v := 2) dL_law_562 (by decide) ?_
    refine g_iadd C dL_law_563 ?_
    refine g_sldv C S (i + 2) (nx_add (rfl : nI i = nI i) (rfl : (2 : Int32) = nI 2)) (by omega) hb9 dL_law_564 ?_
    refine g_aload_n C dL_law_565 rfl 3 rfl ?_
    refine g_callSW C hZ hNc (cs1 := [wX ax (bo 0) (tr 0) (ac 0) (ah 0) (at_ 0), wB E bo ((fX6_need β η σ a b).2.1), wB E tr τ, wC E ac γ, wH E ah bd ((fX6_need β η σ a b).2.2.1), wT E at_ θ, wB E (bd 2) ((fX6_need β η σ a b).2.2.2 2), wB E (bd 3) ((fX6_need β η σ a b).2.2.2 3), wB E (bd 4) ((fX6_need β η σ a b).2.2.2 4), wB E (bd 5) ((fX6_need β η σ a b).2.2.2 5), wB E (bd 6) ((fX6_need β η σ a b).2.2.2 6), wB E (bd 7) ((fX6_need β η σ a b).2.2.2 7), wB E (bd 8) ((fX6_need β η σ a b).2.2.2 8), wB E (bd 9) ((fX6_need β η σ a b).2.2.2 9), wM E am μ, wO E ao (vp_updL o 0 v.toInt64)]) (st1 := [.int 0]) [.ref ax, .int a, .int b, .ref ao] [0, 1, 2, 3, 4, 5, 6, 7, 8, 9, 10, 11, 12, 13, 15] (kL_need_r l E ax bo β tr τ ac γ ah bd η σ at_ θ ao o hlt hvb hvh a b ((fX7_need μ a b).1) hr) q4_4 q1_0 (by decide +kernel) q4_3 q4_2 rfl ⟨Nat.le_of_ble_eq_true rfl, Nat.le_of_ble_eq_true rfl⟩ ⟨hk, hn⟩ (by decide) rfl rfl rfl rfl (Nat.le_of_ble_eq_true rfl) dL_law_566 rfl ?_
    refine g_istore C (lv1 := [(5, .int 0), (0, .ref b0), (1, .ref ax), (2, .ref (am 0)), (3, .ref ao), (4, .int (nI i))]) dL_law_569 (by decide) rfl ?_
    refine g_aload_n C dL_law_571 rfl 3 rfl ?_
    refine g_aload_n C dL_law_572 rfl 1 rfl ?_
    refine g_iload C dL_law_573 5 rfl ?_
    refine g_iconst C (v := 1) dL_law_575 (by decide) ?_
    refine g_iadd C dL_law_576 ?_
    refine g_sldv C S (i + 1) (nx_add (rfl : nI i = nI i) (rfl : (1 : Int32) = nI 1)) (by omega) ha9 dL_law_577 ?_
    refine g_aload_n C dL_law_578 rfl 1 rfl ?_
    refine g_iload C dL_law_579 5 rfl ?_
    refine g_iconst C (v := 2) dL_law_581 (by decide) ?_
    refine g_iadd C dL_law_582 ?_
    refine g_sldv C S (i + 2) (nx_add (rfl : nI i = nI i) (rfl : (2 : Int32) = nI 2)) (by omega) hb9 dL_law_583 ?_
    refine g_callV C (cs1 := [wX ax (bo 0) (tr 0) (ac 0) (ah 0) (at_ 0), wB E bo ((fX6_need β η σ a b).2.1), wB E tr τ, wC E ac γ, wH E ah bd ((fX6_need β η σ a b).2.2.1), wT E at_ θ, wB E (bd 2) ((fX6_need β η σ a b).2.2.2 2), wB E (bd 3) ((fX6_need β η σ a b).2.2.2 3), wB E (bd 4) ((fX6_need β η σ a b).2.2.2 4), wB E (bd 5) ((fX6_need β η σ a b).2.2.2 5), wB E (bd 6) ((fX6_need β η σ a b).2.2.2 6), wB E (bd 7) ((fX6_need β η σ a b).2.2.2 7), wB E (bd 8) ((fX6_need β η σ a b).2.2.2 8), wB E (bd 9) ((fX6_need β η σ a b).2.2.2 9), wM E am ((fX7_need μ a b).2), wO E ao (vp_updL o 0 v.toInt64)]) (st1 := [.int ((fX7_need μ a b).1)]) [.int a, .int b] [14] (kX7_need l E am μ hvm a b) caX7_need q6_172 rfl ⟨Nat.le_of_ble_eq_true rfl, Nat.le_of_ble_eq_true rfl⟩ ⟨hk, hn⟩ 14 0 rfl rfl rfl rfl (by decide) rfl rfl rfl rfl (Nat.le_of_ble_eq_true rfl) dL_law_584 rfl ?_
    refine g_istore C (lv1 := [(6, .int ((fX7_need μ a b).1)), (5, .int 0), (0, .ref b0), (1, .ref ax), (2, .ref (am 0)), (3, .ref ao), (4, .int (nI i))]) dL_law_587 (by decide) rfl ?_
    refine g_aload_n C dL_law_589 rfl 4 rfl ?_
    refine g_callV C (cs1 := [wX ax (bo 0) (tr 0) (ac 0) (ah 0) (at_ 0), wB E bo ((fX6_need β η σ a b).2.1), wB E tr τ, wC E ac γ, wH E ah bd ((fX6_need β η σ a b).2.2.1), wT E at_ θ, wB E (bd 2) ((fX6_need β η σ a b).2.2.2 2), wB E (bd 3) ((fX6_need β η σ a b).2.2.2 3), wB E (bd 4) ((fX6_need β η σ a b).2.2.2 4), wB E (bd 5) ((fX6_need β η σ a b).2.2.2 5), wB E (bd 6) ((fX6_need β η σ a b).2.2.2 6), wB E (bd 7) ((fX6_need β η σ a b).2.2.2 7), wB E (bd 8) ((fX6_need β η σ a b).2.2.2 8), wB E (bd 9) ((fX6_need β η σ a b).2.2.2 9), wM E am ((fX7_need μ a b).2), wO E ao (vp_updL o 0 v.toInt64)]) (st1 := [.int (fX7_thrown ((fX7_need μ a b).2))]) [] [14] (kX7_thrown l E am ((fX7_need μ a b).2)) caX7_thrown q6_117 rfl ⟨Nat.le_of_ble_eq_true rfl, Nat.le_of_ble_eq_true rfl⟩ ⟨hk, hn⟩ 14 0 rfl rfl rfl rfl (by decide) rfl rfl rfl rfl (Nat.le_of_ble_eq_true rfl) dL_law_590 rfl ?_
    refine g_iload C dL_law_593 1 rfl ?_
    refine g_icmp_eq C 600 dL_law_595 (by decide) (fun _ => ?_) (fun c => absurd ht c)
    refine g_iload C dL_law_600 1 rfl ?_
    refine g_if_ne C 617 dL_law_602 (by decide) (fun c => absurd rfl c) (fun _ => ?_)
    refine g_aload_n C dL_law_605 rfl 5 rfl ?_
    refine g_iconst C (v := 0) dL_law_606 (by decide) ?_
    refine g_laldn C 15 0 0 rfl rfl rfl (by decide) (by decide) dL_law_607 ?_
    refine g_iload C dL_law_608 0 rfl ?_
    refine g_i2l C dL_law_610 ?_
    refine g_lcmp C dL_law_611 ?_
    refine g_if_eq C 617 dL_law_612 (by decide) (fun _ => ?_) (fun c => absurd law_cmp c)
    refine g_goto C 3840 dL_law_617 (by decide) ?_
    exact g_sub [2, 3, 4, 5, 6] rfl (next ((fX6_need β η σ a b).2.1) τ γ ((fX6_need β η σ a b).2.2.1) ((fX6_need β η σ a b).2.2.2) θ ((fX7_need μ a b).2) (vp_updL o 0 v.toInt64) hR2)
  · skip
    refine g_aload_n C dL_law_552 rfl 1 rfl ?_
    refine g_aload_n C dL_law_553 rfl 0 rfl ?_
    refine g_iload C dL_law_554 4 rfl ?_
    refine g_iconst C (v := 1) dL_law_556 (by decide) ?_
    refine g_iadd C dL_law_557 ?_
    refine g_sldv C S (i + 1) (nx_add (rfl : nI i = nI i) (rfl : (1 : Int32) = nI 1)) (by omega) ha9 dL_law_558 ?_
    refine g_aload_n C dL_law_559 rfl 0 rfl ?_
    refine g_iload C dL_law_560 4 rfl ?_
    refine g_iconst C (v := 2) dL_law_562 (by decide) ?_
    refine g_iadd C dL_law_563 ?_
    refine g_sldv C S (i + 2) (nx_add (rfl : nI i = nI i) (rfl : (2 : Int32) = nI 2)) (by omega) hb9 dL_law_564 ?_
    refine g_aload_n C dL_law_565 rfl 3 rfl ?_
    refine g_callSW C hZ hNc (cs1 := [wX ax (bo 0) (tr 0) (ac 0) (ah 0) (at_ 0), wB E bo ((fX6_need β η σ a b).2.1), wB E tr τ, wC E ac γ, wH E ah bd ((fX6_need β η σ a b).2.2.1), wT E at_ θ, wB E (bd 2) ((fX6_need β η σ a b).2.2.2 2), wB E (bd 3) ((fX6_need β η σ a b).2.2.2 3), wB E (bd 4) ((fX6_need β η σ a b).2.2.2 4), wB E (bd 5) ((fX6_need β η σ a b).2.2.2 5), wB E (bd 6) ((fX6_need β η σ a b).2.2.2 6), wB E (bd 7) ((fX6_need β η σ a b).2.2.2 7), wB E (bd 8) ((fX6_need β η σ a b).2.2.2 8), wB E (bd 9) ((fX6_need β η σ a b).2.2.2 9), wM E am μ, wO E ao o]) (st1 := [.int 1]) [.ref ax, .int a, .int b, .ref ao] [0, 1, 2, 3, 4, 5, 6, 7, 8, 9, 10, 11, 12, 13, 15] (kL_need_0 l E ax bo β tr τ ac γ ah bd η σ at_ θ ao o hlt hvb hvh a b hr) q4_4 q1_0 (by decide +kernel) q4_3 q4_2 rfl ⟨Nat.le_of_ble_eq_true rfl, Nat.le_of_ble_eq_true rfl⟩ ⟨hk, hn⟩ (by decide) rfl rfl rfl rfl (Nat.le_of_ble_eq_true rfl) dL_law_566 rfl ?_
    refine g_istore C (lv1 := [(5, .int 1), (0, .ref b0), (1, .ref ax), (2, .ref (am 0)), (3, .ref ao), (4, .int (nI i))]) dL_law_569 (by decide) rfl ?_
    refine g_aload_n C dL_law_571 rfl 3 rfl ?_
    refine g_aload_n C dL_law_572 rfl 1 rfl ?_
    refine g_iload C dL_law_573 5 rfl ?_
    refine g_iconst C (v := 1) dL_law_575 (by decide) ?_
    refine g_iadd C dL_law_576 ?_
    refine g_sldv C S (i + 1) (nx_add (rfl : nI i = nI i) (rfl : (1 : Int32) = nI 1)) (by omega) ha9 dL_law_577 ?_
    refine g_aload_n C dL_law_578 rfl 1 rfl ?_
    refine g_iload C dL_law_579 5 rfl ?_
    refine g_iconst C (v := 2) dL_law_581 (by decide) ?_
    refine g_iadd C dL_law_582 ?_
    refine g_sldv C S (i + 2) (nx_add (rfl : nI i = nI i) (rfl : (2 : Int32) = nI 2)) (by omega) hb9 dL_law_583 ?_
    refine g_callV C (cs1 := [wX ax (bo 0) (tr 0) (ac 0) (ah 0) (at_ 0), wB E bo ((fX6_need β η σ a b).2.1), wB E tr τ, wC E ac γ, wH E ah bd ((fX6_need β η σ a b).2.2.1), wT E at_ θ, wB E (bd 2) ((fX6_need β η σ a b).2.2.2 2), wB E (bd 3) ((fX6_need β η σ a b).2.2.2 3), wB E (bd 4) ((fX6_need β η σ a b).2.2.2 4), wB E (bd 5) ((fX6_need β η σ a b).2.2.2 5), wB E (bd 6) ((fX6_need β η σ a b).2.2.2 6), wB E (bd 7) ((fX6_need β η σ a b).2.2.2 7), wB E (bd 8) ((fX6_need β η σ a b).2.2.2 8), wB E (bd 9) ((fX6_need β η σ a b).2.2.2 9), wM E am ((fX7_need μ a b).2), wO E ao o]) (st1 := [.int ((fX7_need μ a b).1)]) [.int a, .int b] [14] (kX7_need l E am μ hvm a b) caX7_need q6_172 rfl ⟨Nat.le_of_ble_eq_true rfl, Nat.le_of_ble_eq_true rfl⟩ ⟨hk, hn⟩ 14 0 rfl rfl rfl rfl (by decide) rfl rfl rfl rfl (Nat.le_of_ble_eq_true rfl) dL_law_584 rfl ?_
    refine g_istore C (lv1 := [(6, .int ((fX7_need μ a b).1)), (5, .int 1), (0, .ref b0), (1, .ref ax), (2, .ref (am 0)), (3, .ref ao), (4, .int (nI i))]) dL_law_587 (by decide) rfl ?_
    refine g_aload_n C dL_law_589 rfl 4 rfl ?_
    refine g_callV C (cs1 := [wX ax (bo 0) (tr 0) (ac 0) (ah 0) (at_ 0), wB E bo ((fX6_need β η σ a b).2.1), wB E tr τ, wC E ac γ, wH E ah bd ((fX6_need β η σ a b).2.2.1), wT E at_ θ, wB E (bd 2) ((fX6_need β η σ a b).2.2.2 2), wB E (bd 3) ((fX6_need β η σ a b).2.2.2 3), wB E (bd 4) ((fX6_need β η σ a b).2.2.2 4), wB E (bd 5) ((fX6_need β η σ a b).2.2.2 5), wB E (bd 6) ((fX6_need β η σ a b).2.2.2 6), wB E (bd 7) ((fX6_need β η σ a b).2.2.2 7), wB E (bd 8) ((fX6_need β η σ a b).2.2.2 8), wB E (bd 9) ((fX6_need β η σ a b).2.2.2 9), wM E am ((fX7_need μ a b).2), wO E ao o]) (st1 := [.int (fX7_thrown ((fX7_need μ a b).2))]) [] [14] (kX7_thrown l E am ((fX7_need μ a b).2)) caX7_thrown q6_117 rfl ⟨Nat.le_of_ble_eq_true rfl, Nat.le_of_ble_eq_true rfl⟩ ⟨hk, hn⟩ 14 0 rfl rfl rfl rfl (by decide) rfl rfl rfl rfl (Nat.le_of_ble_eq_true rfl) dL_law_590 rfl ?_
    refine g_iload C dL_law_593 1 rfl ?_
    refine g_icmp_eq C 600 dL_law_595 (by decide) (fun _ => ?_) (fun c => absurd ht c)
    refine g_iload C dL_law_600 1 rfl ?_
    refine g_if_ne C 617 dL_law_602 (by decide) (fun _ => ?_) (fun c => absurd c (by decide))
    refine g_goto C 3840 dL_law_617 (by decide) ?_
    exact g_sub [2, 3, 4, 5, 6] rfl (next ((fX6_need β η σ a b).2.1) τ γ ((fX6_need β η σ a b).2.2.1) ((fX6_need β η σ a b).2.2.2) θ ((fX7_need μ a b).2) o hR2)
  · skip
    refine g_aload_n C dL_law_552 rfl 1 rfl ?_
    refine g_aload_n C dL_law_553 rfl 0 rfl ?_
    refine g_iload C dL_law_554 4 rfl ?_
    refine g_iconst C (v := 1) dL_law_556 (by decide) ?_
    refine g_iadd C dL_law_557 ?_
    refine g_sldv C S (i + 1) (nx_add (rfl : nI i = nI i) (rfl : (1 : Int32) = nI 1)) (by omega) ha9 dL_law_558 ?_
    refine g_aload_n C dL_law_559 rfl 0 rfl ?_
    refine g_iload C dL_law_560 4 rfl ?_
    refine g_iconst C (v := 2) dL_law_562 (by decide) ?_
    refine g_iadd C dL_law_563 ?_
    refine g_sldv C S (i + 2) (nx_add (rfl : nI i = nI i) (rfl : (2 : Int32) = nI 2)) (by omega) hb9 dL_law_564 ?_
    refine g_aload_n C dL_law_565 rfl 3 rfl ?_
    refine g_callSW C hZ hNc (cs1 := [wX ax (bo 0) (tr 0) (ac 0) (ah 0) (at_ 0), wB E bo ((fX6_need β η σ a b).2.1), wB E tr τ, wC E ac γ, wH E ah bd ((fX6_need β η σ a b).2.2.1), wT E at_ θ, wB E (bd 2) ((fX6_need β η σ a b).2.2.2 2), wB E (bd 3) ((fX6_need β η σ a b).2.2.2 3), wB E (bd 4) ((fX6_need β η σ a b).2.2.2 4), wB E (bd 5) ((fX6_need β η σ a b).2.2.2 5), wB E (bd 6) ((fX6_need β η σ a b).2.2.2 6), wB E (bd 7) ((fX6_need β η σ a b).2.2.2 7), wB E (bd 8) ((fX6_need β η σ a b).2.2.2 8), wB E (bd 9) ((fX6_need β η σ a b).2.2.2 9), wM E am μ, wO E ao o]) (st1 := [.int 2]) [.ref ax, .int a, .int b, .ref ao] [0, 1, 2, 3, 4, 5, 6, 7, 8, 9, 10, 11, 12, 13, 15] (kL_need_1 l E ax bo β tr τ ac γ ah bd η σ at_ θ ao o hlt hvb hvh a b hr) q4_4 q1_0 (by decide +kernel) q4_3 q4_2 rfl ⟨Nat.le_of_ble_eq_true rfl, Nat.le_of_ble_eq_true rfl⟩ ⟨hk, hn⟩ (by decide) rfl rfl rfl rfl (Nat.le_of_ble_eq_true rfl) dL_law_566 rfl ?_
    refine g_istore C (lv1 := [(5, .int 2), (0, .ref b0), (1, .ref ax), (2, .ref (am 0)), (3, .ref ao), (4, .int (nI i))]) dL_law_569 (by decide) rfl ?_
    refine g_aload_n C dL_law_571 rfl 3 rfl ?_
    refine g_aload_n C dL_law_572 rfl 1 rfl ?_
    refine g_iload C dL_law_573 5 rfl ?_
    refine g_iconst C (v := 1) dL_law_575 (by decide) ?_
    refine g_iadd C dL_law_576 ?_
    refine g_sldv C S (i + 1) (nx_add (rfl : nI i = nI i) (rfl : (1 : Int32) = nI 1)) (by omega) ha9 dL_law_577 ?_
    refine g_aload_n C dL_law_578 rfl 1 rfl ?_
    refine g_iload C dL_law_579 5 rfl ?_
    refine g_iconst C (v := 2) dL_law_581 (by decide) ?_
    refine g_iadd C dL_law_582 ?_
    refine g_sldv C S (i + 2) (nx_add (rfl : nI i = nI i) (rfl : (2 : Int32) = nI 2)) (by omega) hb9 dL_law_583 ?_
    refine g_callV C (cs1 := [wX ax (bo 0) (tr 0) (ac 0) (ah 0) (at_ 0), wB E bo ((fX6_need β η σ a b).2.1), wB E tr τ, wC E ac γ, wH E ah bd ((fX6_need β η σ a b).2.2.1), wT E at_ θ, wB E (bd 2) ((fX6_need β η σ a b).2.2.2 2), wB E (bd 3) ((fX6_need β η σ a b).2.2.2 3), wB E (bd 4) ((fX6_need β η σ a b).2.2.2 4), wB E (bd 5) ((fX6_need β η σ a b).2.2.2 5), wB E (bd 6) ((fX6_need β η σ a b).2.2.2 6), wB E (bd 7) ((fX6_need β η σ a b).2.2.2 7), wB E (bd 8) ((fX6_need β η σ a b).2.2.2 8), wB E (bd 9) ((fX6_need β η σ a b).2.2.2 9), wM E am ((fX7_need μ a b).2), wO E ao o]) (st1 := [.int ((fX7_need μ a b).1)]) [.int a, .int b] [14] (kX7_need l E am μ hvm a b) caX7_need q6_172 rfl ⟨Nat.le_of_ble_eq_true rfl, Nat.le_of_ble_eq_true rfl⟩ ⟨hk, hn⟩ 14 0 rfl rfl rfl rfl (by decide) rfl rfl rfl rfl (Nat.le_of_ble_eq_true rfl) dL_law_584 rfl ?_
    refine g_istore C (lv1 := [(6, .int ((fX7_need μ a b).1)), (5, .int 2), (0, .ref b0), (1, .ref ax), (2, .ref (am 0)), (3, .ref ao), (4, .int (nI i))]) dL_law_587 (by decide) rfl ?_
    refine g_aload_n C dL_law_589 rfl 4 rfl ?_
    refine g_callV C (cs1 := [wX ax (bo 0) (tr 0) (ac 0) (ah 0) (at_ 0), wB E bo ((fX6_need β η σ a b).2.1), wB E tr τ, wC E ac γ, wH E ah bd ((fX6_need β η σ a b).2.2.1), wT E at_ θ, wB E (bd 2) ((fX6_need β η σ a b).2.2.2 2), wB E (bd 3) ((fX6_need β η σ a b).2.2.2 3), wB E (bd 4) ((fX6_need β η σ a b).2.2.2 4), wB E (bd 5) ((fX6_need β η σ a b).2.2.2 5), wB E (bd 6) ((fX6_need β η σ a b).2.2.2 6), wB E (bd 7) ((fX6_need β η σ a b).2.2.2 7), wB E (bd 8) ((fX6_need β η σ a b).2.2.2 8), wB E (bd 9) ((fX6_need β η σ a b).2.2.2 9), wM E am ((fX7_need μ a b).2), wO E ao o]) (st1 := [.int (fX7_thrown ((fX7_need μ a b).2))]) [] [14] (kX7_thrown l E am ((fX7_need μ a b).2)) caX7_thrown q6_117 rfl ⟨Nat.le_of_ble_eq_true rfl, Nat.le_of_ble_eq_true rfl⟩ ⟨hk, hn⟩ 14 0 rfl rfl rfl rfl (by decide) rfl rfl rfl rfl (Nat.le_of_ble_eq_true rfl) dL_law_590 rfl ?_
    refine g_iload C dL_law_593 1 rfl ?_
    refine g_icmp_eq C 600 dL_law_595 (by decide) (fun _ => ?_) (fun c => absurd ht c)
    refine g_iload C dL_law_600 1 rfl ?_
    refine g_if_ne C 617 dL_law_602 (by decide) (fun _ => ?_) (fun c => absurd c (by decide))
    refine g_goto C 3840 dL_law_617 (by decide) ?_
    exact g_sub [2, 3, 4, 5, 6] rfl (next ((fX6_need β η σ a b).2.1) τ γ ((fX6_need β η σ a b).2.2.1) ((fX6_need β η σ a b).2.2.2) θ ((fX7_need μ a b).2) o hR2)
  · skip
    refine g_aload_n C dL_law_552 rfl 1 rfl ?_
    refine g_aload_n C dL_law_553 rfl 0 rfl ?_
    refine g_iload C dL_law_554 4 rfl ?_
    refine g_iconst C (v := 1) dL_law_556 (by decide) ?_
    refine g_iadd C dL_law_557 ?_
    refine g_sldv C S (i + 1) (nx_add (rfl : nI i = nI i) (rfl : (1 : Int32) = nI 1)) (by omega) ha9 dL_law_558 ?_
    refine g_aload_n C dL_law_559 rfl 0 rfl ?_
    refine g_iload C dL_law_560 4 rfl ?_
    refine g_iconst C (v := 2) dL_law_562 (by decide) ?_
    refine g_iadd C dL_law_563 ?_
    refine g_sldv C S (i + 2) (nx_add (rfl : nI i = nI i) (rfl : (2 : Int32) = nI 2)) (by omega) hb9 dL_law_564 ?_
    refine g_aload_n C dL_law_565 rfl 3 rfl ?_
    refine g_callSW C hZ hNc (cs1 := [wX ax (bo 0) (tr 0) (ac 0) (ah 0) (at_ 0), wB E bo ((fX6_need β η σ a b).2.1), wB E tr τ, wC E ac γ, wH E ah bd ((fX6_need β η σ a b).2.2.1), wT E at_ θ, wB E (bd 2) ((fX6_need β η σ a b).2.2.2 2), wB E (bd 3) ((fX6_need β η σ a b).2.2.2 3), wB E (bd 4) ((fX6_need β η σ a b).2.2.2 4), wB E (bd 5) ((fX6_need β η σ a b).2.2.2 5), wB E (bd 6) ((fX6_need β η σ a b).2.2.2 6), wB E (bd 7) ((fX6_need β η σ a b).2.2.2 7), wB E (bd 8) ((fX6_need β η σ a b).2.2.2 8), wB E (bd 9) ((fX6_need β η σ a b).2.2.2 9), wM E am μ, wO E ao o]) (st1 := [.int 3]) [.ref ax, .int a, .int b, .ref ao] [0, 1, 2, 3, 4, 5, 6, 7, 8, 9, 10, 11, 12, 13, 15] (kL_need_2 l E ax bo β tr τ ac γ ah bd η σ at_ θ ao o hlt hvb hvh a b hr) q4_4 q1_0 (by decide +kernel) q4_3 q4_2 rfl ⟨Nat.le_of_ble_eq_true rfl, Nat.le_of_ble_eq_true rfl⟩ ⟨hk, hn⟩ (by decide) rfl rfl rfl rfl (Nat.le_of_ble_eq_true rfl) dL_law_566 rfl ?_
    refine g_istore C (lv1 := [(5, .int 3), (0, .ref b0), (1, .ref ax), (2, .ref (am 0)), (3, .ref ao), (4, .int (nI i))]) dL_law_569 (by decide) rfl ?_
    refine g_aload_n C dL_law_571 rfl 3 rfl ?_
    refine g_aload_n C dL_law_572 rfl 1 rfl ?_
    refine g_iload C dL_law_573 5 rfl ?_
    refine g_iconst C (v := 1) dL_law_575 (by decide) ?_
    refine g_iadd C dL_law_576 ?_
    refine g_sldv C S (i + 1) (nx_add (rfl : nI i = nI i) (rfl : (1 : Int32) = nI 1)) (by omega) ha9 dL_law_577 ?_
    refine g_aload_n C dL_law_578 rfl 1 rfl ?_
    refine g_iload C dL_law_579 5 rfl ?_
    refine g_iconst C (v := 2) dL_law_581 (by decide) ?_
    refine g_iadd C dL_law_582 ?_
    refine g_sldv C S (i + 2) (nx_add (rfl : nI i = nI i) (rfl : (2 : Int32) = nI 2)) (by omega) hb9 dL_law_583 ?_
    refine g_callV C (cs1 := [wX ax (bo 0) (tr 0) (ac 0) (ah 0) (at_ 0), wB E bo ((fX6_need β η σ a b).2.1), wB E tr τ, wC E ac γ, wH E ah bd ((fX6_need β η σ a b).2.2.1), wT E at_ θ, wB E (bd 2) ((fX6_need β η σ a b).2.2.2 2), wB E (bd 3) ((fX6_need β η σ a b).2.2.2 3), wB E (bd 4) ((fX6_need β η σ a b).2.2.2 4), wB E (bd 5) ((fX6_need β η σ a b).2.2.2 5), wB E (bd 6) ((fX6_need β η σ a b).2.2.2 6), wB E (bd 7) ((fX6_need β η σ a b).2.2.2 7), wB E (bd 8) ((fX6_need β η σ a b).2.2.2 8), wB E (bd 9) ((fX6_need β η σ a b).2.2.2 9), wM E am ((fX7_need μ a b).2), wO E ao o]) (st1 := [.int ((fX7_need μ a b).1)]) [.int a, .int b] [14] (kX7_need l E am μ hvm a b) caX7_need q6_172 rfl ⟨Nat.le_of_ble_eq_true rfl, Nat.le_of_ble_eq_true rfl⟩ ⟨hk, hn⟩ 14 0 rfl rfl rfl rfl (by decide) rfl rfl rfl rfl (Nat.le_of_ble_eq_true rfl) dL_law_584 rfl ?_
    refine g_istore C (lv1 := [(6, .int ((fX7_need μ a b).1)), (5, .int 3), (0, .ref b0), (1, .ref ax), (2, .ref (am 0)), (3, .ref ao), (4, .int (nI i))]) dL_law_587 (by decide) rfl ?_
    refine g_aload_n C dL_law_589 rfl 4 rfl ?_
    refine g_callV C (cs1 := [wX ax (bo 0) (tr 0) (ac 0) (ah 0) (at_ 0), wB E bo ((fX6_need β η σ a b).2.1), wB E tr τ, wC E ac γ, wH E ah bd ((fX6_need β η σ a b).2.2.1), wT E at_ θ, wB E (bd 2) ((fX6_need β η σ a b).2.2.2 2), wB E (bd 3) ((fX6_need β η σ a b).2.2.2 3), wB E (bd 4) ((fX6_need β η σ a b).2.2.2 4), wB E (bd 5) ((fX6_need β η σ a b).2.2.2 5), wB E (bd 6) ((fX6_need β η σ a b).2.2.2 6), wB E (bd 7) ((fX6_need β η σ a b).2.2.2 7), wB E (bd 8) ((fX6_need β η σ a b).2.2.2 8), wB E (bd 9) ((fX6_need β η σ a b).2.2.2 9), wM E am ((fX7_need μ a b).2), wO E ao o]) (st1 := [.int (fX7_thrown ((fX7_need μ a b).2))]) [] [14] (kX7_thrown l E am ((fX7_need μ a b).2)) caX7_thrown q6_117 rfl ⟨Nat.le_of_ble_eq_true rfl, Nat.le_of_ble_eq_true rfl⟩ ⟨hk, hn⟩ 14 0 rfl rfl rfl rfl (by decide) rfl rfl rfl rfl (Nat.le_of_ble_eq_true rfl) dL_law_590 rfl ?_
    refine g_iload C dL_law_593 1 rfl ?_
    refine g_icmp_eq C 600 dL_law_595 (by decide) (fun _ => ?_) (fun c => absurd ht c)
    refine g_iload C dL_law_600 1 rfl ?_
    refine g_if_ne C 617 dL_law_602 (by decide) (fun _ => ?_) (fun c => absurd c (by decide))
    refine g_goto C 3840 dL_law_617 (by decide) ?_
    exact g_sub [2, 3, 4, 5, 6] rfl (next ((fX6_need β η σ a b).2.1) τ γ ((fX6_need β η σ a b).2.2.1) ((fX6_need β η σ a b).2.2.2) θ ((fX7_need μ a b).2) o hR2)
set_option maxHeartbeats 4000000 in
set_option maxRecDepth 100000 in
theorem arm_4 {Rl : RlT} (hRv : RlV Rl) (hs : sH_release Rl)  {X : gX} {l : Launch} {E : gE} (C : gC X cL_law 9 RL (some .boolean) l E room_1) (hZ : gZ X.2.2.2.2.2.2.2.2.2.2.2.1 X.2.2.2.2.1 X.2.2.2.2.1.heap) (hNc : gNc X.2.2.2.2.1) {b0 L0 : Nat} {xs : Nat → Int32} (S : gS X b0 L0 xs) (hlt : l.stackTraces = false) {ax : Nat} {bo tr ac ah : Nat → Nat} {bd : Nat → Nat → Nat} {at_ am : Nat → Nat} {ao k n i : Nat} (hk : k + 3 ≤ 601024) (hn : n + 18 ≤ 7293034) (hi : i + 3 ≤ L0) {β τ γ η : BS} {σ : Nat → BS} {θ μ : BS} {o : Nat → Int64} (hR : Rl β η θ σ μ) (next : ∀ (β τ γ η : BS) (σ : Nat → BS) (θ μ : BS) (o : Nat → Int64), Rl β η θ σ μ → G X (k + 3) (n + 18) [wX ax (bo 0) (tr 0) (ac 0) (ah 0) (at_ 0), wB E bo β, wB E tr τ, wC E ac γ, wH E ah bd η, wT E at_ θ, wB E (bd 2) (σ 2), wB E (bd 3) (σ 3), wB E (bd 4) (σ 4), wB E (bd 5) (σ 5), wB E (bd 6) (σ 6), wB E (bd 7) (σ 7), wB E (bd 8) (σ 8), wB E (bd 9) (σ 9), wM E am μ, wO E ao o] [(0, .ref b0), (1, .ref ax), (2, .ref (am 0)), (3, .ref ao), (4, .int (nI i))] 3840 []) : G X k n [wX ax (bo 0) (tr 0) (ac 0) (ah 0) (at_ 0), wB E bo β, wB E tr τ, wC E ac γ, wH E ah bd η, wT E at_ θ, wB E (bd 2) (σ 2), wB E (bd 3) (σ 3), wB E (bd 4) (σ 4), wB E (bd 5) (σ 5), wB E (bd 6) (σ 6), wB E (bd 7) (σ 7), wB E (bd 8) (σ 8), wB E (bd 9) (σ 9), wM E am μ, wO E ao o] [(0, .ref b0), (1, .ref ax), (2, .ref (am 0)), (3, .ref ao), (4, .int (nI i))] 620 [] := by
  obtain ⟨hvb, hvh, hvt, hvm, ha⟩ := hRv β η θ σ μ hR
  obtain ⟨a, ha9⟩ : ∃ a, xs (i + 1) = a := ⟨_, rfl⟩
  obtain ⟨b, hb9⟩ : ∃ b, xs (i + 2) = b := ⟨_, rfl⟩
  obtain ⟨hag, hR2⟩ := hs β τ γ η σ θ μ a b hR
  rcases hag with ⟨hr, ht⟩ | ⟨hr, ht⟩ | ⟨hr, ht⟩
  · skip
    refine g_aload_n C dL_law_620 rfl 1 rfl ?_
    refine g_aload_n C dL_law_621 rfl 0 rfl ?_
    refine g_iload C dL_law_622 4 rfl ?_
    refine g_iconst C (v := 1) dL_law_624 (by decide) ?_
    refine g_iadd C dL_law_625 ?_
    refine g_sldv C S (i + 1) (nx_add (rfl : nI i = nI i) (rfl : (1 : Int32) = nI 1)) (by omega) ha9 dL_law_626 ?_
    refine g_aload_n C dL_law_627 rfl 0 rfl ?_
    refine g_iload C dL_law_628 4 rfl ?_
    refine g_iconst C (v := 2) dL_law_630 (by decide) ?_
    refine g_iadd C dL_law_631 ?_
    refine g_sldv C S (i + 2) (nx_add (rfl : nI i = nI i) (rfl : (2 : Int32) = nI 2)) (by omega) hb9 dL_law_632 ?_
    refine g_aload_n C dL_law_633 rfl 3 rfl ?_
    refine g_callSW C hZ hNc (cs1 := [wX ax (bo 0) (tr 0) (ac 0) (ah 0) (at_ 0), wB E bo ((fX6_release β η σ a b).2.1), wB E tr τ, wC E ac γ, wH E ah bd ((fX6_release β η σ a b).2.2.1), wT E at_ θ, wB E (bd 2) ((fX6_release β η σ a b).2.2.2 2), wB E (bd 3) ((fX6_release β η σ a b).2.2.2 3), wB E (bd 4) ((fX6_release β η σ a b).2.2.2 4), wB E (bd 5) ((fX6_release β η σ a b).2.2.2 5), wB E (bd 6) ((fX6_release β η σ a b).2.2.2 6), wB E (bd 7) ((fX6_release β η σ a b).2.2.2 7), wB E (bd 8) ((fX6_release β η σ a b).2.2.2 8), wB E (bd 9) ((fX6_release β η σ a b).2.2.2 9), wM E am μ, wO E ao (vp_updL o 0 v.toInt64)]) (st1 := [.int 0]) [.ref ax, .int a, .int b, .ref ao] [0, 1, 2, 3, 4, 5, 6, 7, 8, 9, 10, 11, 12, 13, 15] (kL_release_r l E ax bo β tr τ ac γ ah bd η σ at_ θ ao o hlt hvb hvh a b ((fX7_release μ a b).1) hr) q4_22 q1_0 (by decide +kernel) q4_21 q4_20 rfl ⟨Nat.le_of_ble_eq_true rfl, Nat.le_of_ble_eq_true rfl⟩ ⟨hk, hn⟩ (by decide) rfl rfl rfl rfl (Nat.le_of_ble_eq_true rfl) dL_law_634 rfl ?_
    refine g_istore C (lv1 := [(5, .int 0), (0, .ref b0), (1, .ref ax), (2, .ref (am 0)), (3, .ref ao), (4, .int (nI i))]) dL_law_637 (by decide) rfl ?_
    refine g_aload_n C dL_law_639 rfl 3 rfl ?_
    refine g_aload_n C dL_law_640 rfl 1 rfl ?_
    refine g_iload C dL_law_641 5 rfl ?_
    refine g_iconst C (v := 1) dL_law_643 (by decide) ?_
    refine g_iadd C dL_law_644 ?_
    refine g_sldv C S (i + 1) (nx_add (rfl : nI i = nI i) (rfl : (1 : Int32) = nI 1)) (by omega) ha9 dL_law_645 ?_
    refine g_aload_n C dL_law_646 rfl 1 rfl ?_
    refine g_iload C dL_law_647 5 rfl ?_
    refine g_iconst C (v := 2) dL_law_649 (by decide) ?_
    refine g_iadd C dL_law_650 ?_
    refine g_sldv C S (i + 2) (nx_add (rfl : nI i = nI i) (rfl : (2 : Int32) = nI 2)) (by omega) hb9 dL_law_651 ?_
    refine g_callV C (cs1 := [wX ax (bo 0) (tr 0) (ac 0) (ah 0) (at_ 0), wB E bo ((fX6_release β η σ a b).2.1), wB E tr τ, wC E ac γ, wH E ah bd ((fX6_release β η σ a b).2.2.1), wT E at_ θ, wB E (bd 2) ((fX6_release β η σ a b).2.2.2 2), wB E (bd 3) ((fX6_release β η σ a b).2.2.2 3), wB E (bd 4) ((fX6_release β η σ a b).2.2.2 4), wB E (bd 5) ((fX6_release β η σ a b).2.2.2 5), wB E (bd 6) ((fX6_release β η σ a b).2.2.2 6), wB E (bd 7) ((fX6_release β η σ a b).2.2.2 7), wB E (bd 8) ((fX6_release β η σ a b).2.2.2 8), wB E (bd 9) ((fX6_release β η σ a b).2.2.2 9), wM E am ((fX7_release μ a b).2), wO E ao (vp_updL o 0 v.toInt64)]) (st1 := [.int ((fX7_release μ a b).1)]) [.int a, .int b] [14] (kX7_release l E am μ hvm a b) caX7_release q6_195 rfl ⟨Nat.le_of_ble_eq_true rfl, Nat.le_of_ble_eq_true rfl⟩ ⟨hk, hn⟩ 14 0 rfl rfl rfl rfl (by decide) rfl rfl rfl rfl (Nat.le_of_ble_eq_true rfl) dL_law_652 rfl ?_
    refine g_istore C (lv1 := [(6, .int ((fX7_release μ a b).1)), (5, .int 0), (0, .ref b0), (1, .ref ax), (2, .ref (am 0)), (3, .ref ao), (4, .int (nI i))]) dL_law_655 (by decide) rfl ?_
    refine g_aload_n C dL_law_657 rfl 4 rfl ?_
    refine g_callV C (cs1 := [wX ax (bo 0) (tr 0) (ac 0) (ah 0) (at_ 0), wB E bo ((fX6_release β η σ a b).2.1), wB E tr τ, wC E ac γ, wH E ah bd ((fX6_release β η σ a b).2.2.1), wT E at_ θ, wB E (bd 2) ((fX6_release β η σ a b).2.2.2 2), wB E (bd 3) ((fX6_release β η σ a b).2.2.2 3), wB E (bd 4) ((fX6_release β η σ a b).2.2.2 4), wB E (bd 5) ((fX6_release β η σ a b).2.2.2 5), wB E (bd 6) ((fX6_release β η σ a b).2.2.2 6), wB E (bd 7) ((fX6_release β η σ a b).2.2.2 7), wB E (bd 8) ((fX6_release β η σ a b).2.2.2 8), wB E (bd 9) ((fX6_release β η σ a b).2.2.2 9), wM E am ((fX7_release μ a b).2), wO E ao (vp_updL o 0 v.toInt64)]) (st1 := [.int (fX7_thrown ((fX7_release μ a b).2))]) [] [14] (kX7_thrown l E am ((fX7_release μ a b).2)) caX7_thrown q6_117 rfl ⟨Nat.le_of_ble_eq_true rfl, Nat.le_of_ble_eq_true rfl⟩ ⟨hk, hn⟩ 14 0 rfl rfl rfl rfl (by decide) rfl rfl rfl rfl (Nat.le_of_ble_eq_true rfl) dL_law_658 rfl ?_
    refine g_iload C dL_law_661 1 rfl ?_
    refine g_icmp_eq C 668 dL_law_663 (by decide) (fun _ => ?_) (fun c => absurd ht c)
    refine g_iload C dL_law_668 1 rfl ?_
    refine g_if_ne C 685 dL_law_670 (by decide) (fun c => absurd rfl c) (fun _ => ?_)
    refine g_aload_n C dL_law_673 rfl 5 rfl ?_
    refine g_iconst C (v := 0) dL_law_674 (by decide) ?_
    refine g_laldn C 15 0 0 rfl rfl rfl (by decide) (by decide) dL_law_675 ?_
    refine g_iload C dL_law_676 0 rfl ?_
    refine g_i2l C dL_law_678 ?_
    refine g_lcmp C dL_law_679 ?_
    refine g_if_eq C 685 dL_law_680 (by decide) (fun _ => ?_) (fun c => absurd law_cmp c)
    refine g_goto C 3840 dL_law_685 (by decide) ?_
    exact g_sub [2, 3, 4, 5, 6] rfl (next ((fX6_release β η σ a b).2.1) τ γ ((fX6_release β η σ a b).2.2.1) ((fX6_release β η σ a b).2.2.2) θ ((fX7_release μ a b).2) (vp_updL o 0 v.toInt64) hR2)
  · skip
    refine g_aload_n C dL_law_620 rfl 1 rfl ?_
    refine g_aload_n C dL_law_621 rfl 0 rfl ?_
    refine g_iload C dL_law_622 4 rfl ?_
    refine g_iconst C (v := 1) dL_law_624 (by decide) ?_
    refine g_iadd C dL_law_625 ?_
    refine g_sldv C S (i + 1) (nx_add (rfl : nI i = nI i) (rfl : (1 : Int32) = nI 1)) (by omega) ha9 dL_law_626 ?_
    refine g_aload_n C dL_law_627 rfl 0 rfl ?_
    refine g_iload C dL_law_628 4 rfl ?_
    refine g_iconst C (v := 2) dL_law_630 (by decide) ?_
    refine g_iadd C dL_law_631 ?_
    refine g_sldv C S (i + 2) (nx_add (rfl : nI i = nI i) (rfl : (2 : Int32) = nI 2)) (by omega) hb9 dL_law_632 ?_
    refine g_aload_n C dL_law_633 rfl 3 rfl ?_
    refine g_callSW C hZ hNc (cs1 := [wX ax (bo 0) (tr 0) (ac 0) (ah 0) (at_ 0), wB E bo ((fX6_release β η σ a b).2.1), wB E tr τ, wC E ac γ, wH E ah bd ((fX6_release β η σ a b).2.2.1), wT E at_ θ, wB E (bd 2) ((fX6_release β η σ a b).2.2.2 2), wB E (bd 3) ((fX6_release β η σ a b).2.2.2 3), wB E (bd 4) ((fX6_release β η σ a b).2.2.2 4), wB E (bd 5) ((fX6_release β η σ a b).2.2.2 5), wB E (bd 6) ((fX6_release β η σ a b).2.2.2 6), wB E (bd 7) ((fX6_release β η σ a b).2.2.2 7), wB E (bd 8) ((fX6_release β η σ a b).2.2.2 8), wB E (bd 9) ((fX6_release β η σ a b).2.2.2 9), wM E am μ, wO E ao o]) (st1 := [.int 1]) [.ref ax, .int a, .int b, .ref ao] [0, 1, 2, 3, 4, 5, 6, 7, 8, 9, 10, 11, 12, 13, 15] (kL_release_0 l E ax bo β tr τ ac γ ah bd η σ at_ θ ao o hlt hvb hvh a b hr) q4_22 q1_0 (by decide +kernel) q4_21 q4_20 rfl ⟨Nat.le_of_ble_eq_true rfl, Nat.le_of_ble_eq_true rfl⟩ ⟨hk, hn⟩ (by decide) rfl rfl rfl rfl (Nat.le_of_ble_eq_true rfl) dL_law_634 rfl ?_
    refine g_istore C (lv1 := [(5, .int 1), (0, .ref b0), (1, .ref ax), (2, .ref (am 0)), (3, .ref ao), (4, .int (nI i))]) dL_law_637 (by decide) rfl ?_
    refine g_aload_n C dL_law_639 rfl 3 rfl ?_
    refine g_aload_n C dL_law_640 rfl 1 rfl ?_
    refine g_iload C dL_law_641 5 rfl ?_
    refine g_iconst C (v := 1) dL_law_643 (by decide) ?_
    refine g_iadd C dL_law_644 ?_
    refine g_sldv C S (i + 1) (nx_add (rfl : nI i = nI i) (rfl : (1 : Int32) = nI 1)) (by omega) ha9 dL_law_645 ?_
    refine g_aload_n C dL_law_646 rfl 1 rfl ?_
    refine g_iload C dL_law_647 5 rfl ?_
    refine g_iconst C (v := 2) dL_law_649 (by decide) ?_
    refine g_iadd C dL_law_650 ?_
    refine g_sldv C S (i + 2) (nx_add (rfl : nI i = nI i) (rfl : (2 : Int32) = nI 2)) (by omega) hb9 dL_law_651 ?_
    refine g_callV C (cs1 := [wX ax (bo 0) (tr 0) (ac 0) (ah 0) (at_ 0), wB E bo ((fX6_release β η σ a b).2.1), wB E tr τ, wC E ac γ, wH E ah bd ((fX6_release β η σ a b).2.2.1), wT E at_ θ, wB E (bd 2) ((fX6_release β η σ a b).2.2.2 2), wB E (bd 3) ((fX6_release β η σ a b).2.2.2 3), wB E (bd 4) ((fX6_release β η σ a b).2.2.2 4), wB E (bd 5) ((fX6_release β η σ a b).2.2.2 5), wB E (bd 6) ((fX6_release β η σ a b).2.2.2 6), wB E (bd 7) ((fX6_release β η σ a b).2.2.2 7), wB E (bd 8) ((fX6_release β η σ a b).2.2.2 8), wB E (bd 9) ((fX6_release β η σ a b).2.2.2 9), wM E am ((fX7_release μ a b).2), wO E ao o]) (st1 := [.int ((fX7_release μ a b).1)]) [.int a, .int b] [14] (kX7_release l E am μ hvm a b) caX7_release q6_195 rfl ⟨Nat.le_of_ble_eq_true rfl, Nat.le_of_ble_eq_true rfl⟩ ⟨hk, hn⟩ 14 0 rfl rfl rfl rfl (by decide) rfl rfl rfl rfl (Nat.le_of_ble_eq_true rfl) dL_law_652 rfl ?_
    refine g_istore C (lv1 := [(6, .int ((fX7_release μ a b).1)), (5, .int 1), (0, .ref b0), (1, .ref ax), (2, .ref (am 0)), (3, .ref ao), (4, .int (nI i))]) dL_law_655 (by decide) rfl ?_
    refine g_aload_n C dL_law_657 rfl 4 rfl ?_
    refine g_callV C (cs1 := [wX ax (bo 0) (tr 0) (ac 0) (ah 0) (at_ 0), wB E bo ((fX6_release β η σ a b).2.1), wB E tr τ, wC E ac γ, wH E ah bd ((fX6_release β η σ a b).2.2.1), wT E at_ θ, wB E (bd 2) ((fX6_release β η σ a b).2.2.2 2), wB E (bd 3) ((fX6_release β η σ a b).2.2.2 3), wB E (bd 4) ((fX6_release β η σ a b).2.2.2 4), wB E (bd 5) ((fX6_release β η σ a b).2.2.2 5), wB E (bd 6) ((fX6_release β η σ a b).2.2.2 6), wB E (bd 7) ((fX6_release β η σ a b).2.2.2 7), wB E (bd 8) ((fX6_release β η σ a b).2.2.2 8), wB E (bd 9) ((fX6_release β η σ a b).2.2.2 9), wM E am ((fX7_release μ a b).2), wO E ao o]) (st1 := [.int (fX7_thrown ((fX7_release μ a b).2))]) [] [14] (kX7_thrown l E am ((fX7_release μ a b).2)) caX7_thrown q6_117 rfl ⟨Nat.le_of_ble_eq_true rfl, Nat.le_of_ble_eq_true rfl⟩ ⟨hk, hn⟩ 14 0 rfl rfl rfl rfl (by decide) rfl rfl rfl rfl (Nat.le_of_ble_eq_true rfl) dL_law_658 rfl ?_
    refine g_iload C dL_law_661 1 rfl ?_
    refine g_icmp_eq C 668 dL_law_663 (by decide) (fun _ => ?_) (fun c => absurd ht c)
    refine g_iload C dL_law_668 1 rfl ?_
    refine g_if_ne C 685 dL_law_670 (by decide) (fun _ => ?_) (fun c => absurd c (by decide))
    refine g_goto C 3840 dL_law_685 (by decide) ?_
    exact g_sub [2, 3, 4, 5, 6] rfl (next ((fX6_release β η σ a b).2.1) τ γ ((fX6_release β η σ a b).2.2.1) ((fX6_release β η σ a b).2.2.2) θ ((fX7_release μ a b).2) o hR2)
  · skip
    refine g_aload_n C dL_law_620 rfl 1 rfl ?_
    refine g_aload_n C dL_law_621 rfl 0 rfl ?_
    refine g_iload C dL_law_622 4 rfl ?_
    refine g_iconst C (v := 1) dL_law_624 (by decide) ?_
    refine g_iadd C dL_law_625 ?_
    refine g_sldv C S (i + 1) (nx_add (rfl : nI i = nI i) (rfl : (1 : Int32) = nI 1)) (by omega) ha9 dL_law_626 ?_
    refine g_aload_n C dL_law_627 rfl 0 rfl ?_
    refine g_iload C dL_law_628 4 rfl ?_
    refine g_iconst C (v := 2) dL_law_630 (by decide) ?_
    refine g_iadd C dL_law_631 ?_
    refine g_sldv C S (i + 2) (nx_add (rfl : nI i = nI i) (rfl : (2 : Int32) = nI 2)) (by omega) hb9 dL_law_632 ?_
    refine g_aload_n C dL_law_633 rfl 3 rfl ?_
    refine g_callSW C hZ hNc (cs1 := [wX ax (bo 0) (tr 0) (ac 0) (ah 0) (at_ 0), wB E bo ((fX6_release β η σ a b).2.1), wB E tr τ, wC E ac γ, wH E ah bd ((fX6_release β η σ a b).2.2.1), wT E at_ θ, wB E (bd 2) ((fX6_release β η σ a b).2.2.2 2), wB E (bd 3) ((fX6_release β η σ a b).2.2.2 3), wB E (bd 4) ((fX6_release β η σ a b).2.2.2 4), wB E (bd 5) ((fX6_release β η σ a b).2.2.2 5), wB E (bd 6) ((fX6_release β η σ a b).2.2.2 6), wB E (bd 7) ((fX6_release β η σ a b).2.2.2 7), wB E (bd 8) ((fX6_release β η σ a b).2.2.2 8), wB E (bd 9) ((fX6_release β η σ a b).2.2.2 9), wM E am μ, wO E ao o]) (st1 := [.int 2]) [.ref ax, .int a, .int b, .ref ao] [0, 1, 2, 3, 4, 5, 6, 7, 8, 9, 10, 11, 12, 13, 15] (kL_release_1 l E ax bo β tr τ ac γ ah bd η σ at_ θ ao o hlt hvb hvh a b hr) q4_22 q1_0 (by decide +kernel) q4_21 q4_20 rfl ⟨Nat.le_of_ble_eq_true rfl, Nat.le_of_ble_eq_true rfl⟩ ⟨hk, hn⟩ (by decide) rfl rfl rfl rfl (Nat.le_of_ble_eq_true rfl) dL_law_634 rfl ?_
    refine g_istore C (lv1 := [(5, .int 2), (0, .ref b0), (1, .ref ax), (2, .ref (am 0)), (3, .ref ao), (4, .int (nI i))]) dL_law_637 (by decide) rfl ?_
    refine g_aload_n C dL_law_639 rfl 3 rfl ?_
    refine g_aload_n C dL_law_640 rfl 1 rfl ?_
    refine g_iload C dL_law_641 5 rfl ?_
    refine g_iconst C (v := 1) dL_law_643 (by decide) ?_
    refine g_iadd C dL_law_644 ?_
    refine g_sldv C S (i + 1) (nx_add (rfl : nI i = nI i) (rfl : (1 : Int32) = nI 1)) (by omega) ha9 dL_law_645 ?_
    refine g_aload_n C dL_law_646 rfl 1 rfl ?_
    refine g_iload C dL_law_647 5 rfl ?_
    refine g_iconst C (v := 2) dL_law_649 (by decide) ?_
    refine g_iadd C dL_law_650 ?_
    refine g_sldv C S (i + 2) (nx_add (rfl : nI i = nI i) (rfl : (2 : Int32) = nI 2)) (by omega) hb9 dL_law_651 ?_
    refine g_callV C (cs1 := [wX ax (bo 0) (tr 0) (ac 0) (ah 0) (at_ 0), wB E bo ((fX6_release β η σ a b).2.1), wB E tr τ, wC E ac γ, wH E ah bd ((fX6_release β η σ a b).2.2.1), wT E at_ θ, wB E (bd 2) ((fX6_release β η σ a b).2.2.2 2), wB E (bd 3) ((fX6_release β η σ a b).2.2.2 3), wB E (bd 4) ((fX6_release β η σ a b).2.2.2 4), wB E (bd 5) ((fX6_release β η σ a b).2.2.2 5), wB E (bd 6) ((fX6_release β η σ a b).2.2.2 6), wB E (bd 7) ((fX6_release β η σ a b).2.2.2 7), wB E (bd 8) ((fX6_release β η σ a b).2.2.2 8), wB E (bd 9) ((fX6_release β η σ a b).2.2.2 9), wM E am ((fX7_release μ a b).2), wO E ao o]) (st1 := [.int ((fX7_release μ a b).1)]) [.int a, .int b] [14] (kX7_release l E am μ hvm a b) caX7_release q6_195 rfl ⟨Nat.le_of_ble_eq_true rfl, Nat.le_of_ble_eq_true rfl⟩ ⟨hk, hn⟩ 14 0 rfl rfl rfl rfl (by decide) rfl rfl rfl rfl (Nat.le_of_ble_eq_true rfl) dL_law_652 rfl ?_
    refine g_istore C (lv1 := [(6, .int ((fX7_release μ a b).1)), (5, .int 2), (0, .ref b0), (1, .ref ax), (2, .ref (am 0)), (3, .ref ao), (4, .int (nI i))]) dL_law_655 (by decide) rfl ?_
    refine g_aload_n C dL_law_657 rfl 4 rfl ?_
    refine g_callV C (cs1 := [wX ax (bo 0) (tr 0) (ac 0) (ah 0) (at_ 0), wB E bo ((fX6_release β η σ a b).2.1), wB E tr τ, wC E ac γ, wH E ah bd ((fX6_release β η σ a b).2.2.1), wT E at_ θ, wB E (bd 2) ((fX6_release β η σ a b).2.2.2 2), wB E (bd 3) ((fX6_release β η σ a b).2.2.2 3), wB E (bd 4) ((fX6_release β η σ a b).2.2.2 4), wB E (bd 5) ((fX6_release β η σ a b).2.2.2 5), wB E (bd 6) ((fX6_release β η σ a b).2.2.2 6), wB E (bd 7) ((fX6_release β η σ a b).2.2.2 7), wB E (bd 8) ((fX6_release β η σ a b).2.2.2 8), wB E (bd 9) ((fX6_release β η σ a b).2.2.2 9), wM E am ((fX7_release μ a b).2), wO E ao o]) (st1 := [.int (fX7_thrown ((fX7_release μ a b).2))]) [] [14] (kX7_thrown l E am ((fX7_release μ a b).2)) caX7_thrown q6_117 rfl ⟨Nat.le_of_ble_eq_true rfl, Nat.le_of_ble_eq_true rfl⟩ ⟨hk, hn⟩ 14 0 rfl rfl rfl rfl (by decide) rfl rfl rfl rfl (Nat.le_of_ble_eq_true rfl) dL_law_658 rfl ?_
    refine g_iload C dL_law_661 1 rfl ?_
    refine g_icmp_eq C 668 dL_law_663 (by decide) (fun _ => ?_) (fun c => absurd ht c)
    refine g_iload C dL_law_668 1 rfl ?_
    refine g_if_ne C 685 dL_law_670 (by decide) (fun _ => ?_) (fun c => absurd c (by decide))
    refine g_goto C 3840 dL_law_685 (by decide) ?_
    exact g_sub [2, 3, 4, 5, 6] rfl (next ((fX6_release β η σ a b).2.1) τ γ ((fX6_release β η σ a b).2.2.1) ((fX6_release β η σ a b).2.2.2) θ ((fX7_release μ a b).2) o hR2)
set_option maxHeartbeats 4000000 in
set_option maxRecDepth 100000 in
theorem arm_5 {Rl : RlT} (hRv : RlV Rl) (hs : sH_assign Rl)  {X : gX} {l : Launch} {E : gE} (C : gC X cL_law 9 RL (some .boolean) l E room_1) (hZ : gZ X.2.2.2.2.2.2.2.2.2.2.2.1 X.2.2.2.2.1 X.2.2.2.2.1.heap) (hNc : gNc X.2.2.2.2.1) {b0 L0 : Nat} {xs : Nat → Int32} (S : gS X b0 L0 xs) (hlt : l.stackTraces = false) {ax : Nat} {bo tr ac ah : Nat → Nat} {bd : Nat → Nat → Nat} {at_ am : Nat → Nat} {ao k n i : Nat} (hk : k + 3 ≤ 601024) (hn : n + 18 ≤ 7293034) (hi : i + 3 ≤ L0) {β τ γ η : BS} {σ : Nat → BS} {θ μ : BS} {o : Nat → Int64} (hR : Rl β η θ σ μ) (next : ∀ (β τ γ η : BS) (σ : Nat → BS) (θ μ : BS) (o : Nat → Int64), Rl β η θ σ μ → G X (k + 3) (n + 18) [wX ax (bo 0) (tr 0) (ac 0) (ah 0) (at_ 0), wB E bo β, wB E tr τ, wC E ac γ, wH E ah bd η, wT E at_ θ, wB E (bd 2) (σ 2), wB E (bd 3) (σ 3), wB E (bd 4) (σ 4), wB E (bd 5) (σ 5), wB E (bd 6) (σ 6), wB E (bd 7) (σ 7), wB E (bd 8) (σ 8), wB E (bd 9) (σ 9), wM E am μ, wO E ao o] [(0, .ref b0), (1, .ref ax), (2, .ref (am 0)), (3, .ref ao), (4, .int (nI i))] 3840 []) : G X k n [wX ax (bo 0) (tr 0) (ac 0) (ah 0) (at_ 0), wB E bo β, wB E tr τ, wC E ac γ, wH E ah bd η, wT E at_ θ, wB E (bd 2) (σ 2), wB E (bd 3) (σ 3), wB E (bd 4) (σ 4), wB E (bd 5) (σ 5), wB E (bd 6) (σ 6), wB E (bd 7) (σ 7), wB E (bd 8) (σ 8), wB E (bd 9) (σ 9), wM E am μ, wO E ao o] [(0, .ref b0), (1, .ref ax), (2, .ref (am 0)), (3, .ref ao), (4, .int (nI i))] 688 [] := by
  obtain ⟨hvb, hvh, hvt, hvm, ha⟩ := hRv β η θ σ μ hR
  obtain ⟨a, ha9⟩ : ∃ a, xs (i + 1) = a := ⟨_, rfl⟩
  obtain ⟨b, hb9⟩ : ∃ b, xs (i + 2) = b := ⟨_, rfl⟩
  obtain ⟨hag, hR2⟩ := hs β τ γ η σ θ μ a b hR
  rcases hag with ⟨hr, ht⟩ | ⟨hr, ht⟩ | ⟨hr, ht⟩
  · skip
    refine g_aload_n C dL_law_688 rfl 1 rfl ?_
    refine g_aload_n C dL_law_689 rfl 0 rfl ?_
    refine g_iload C dL_law_690 4 rfl ?_
    refine g_iconst C (v := 1) dL_law_692 (by decide) ?_
    refine g_iadd C dL_law_693 ?_
    refine g_sldv C S (i + 1) (nx_add (rfl : nI i = nI i) (rfl : (1 : Int32) = nI 1)) (by omega) ha9 dL_law_694 ?_
    refine g_aload_n C dL_law_695 rfl 0 rfl ?_
    refine g_iload C dL_law_696 4 rfl ?_
    refine g_iconst C (v := 2) dL_law_698 (by decide) ?_
    refine g_iadd C dL_law_699 ?_
    refine g_sldv C S (i + 2) (nx_add (rfl : nI i = nI i) (rfl : (2 : Int32) = nI 2)) (by omega) hb9 dL_law_700 ?_
    refine g_aload_n C dL_law_701 rfl 3 rfl ?_
    refine g_callSW C hZ hNc (cs1 := [wX ax (bo 0) (tr 0) (ac 0) (ah 0) (at_ 0), wB E bo ((fX6_assign β η σ a b).2.1), wB E tr τ, wC E ac γ, wH E ah bd ((fX6_assign β η σ a b).2.2.1), wT E at_ θ, wB E (bd 2) ((fX6_assign β η σ a b).2.2.2 2), wB E (bd 3) ((fX6_assign β η σ a b).2.2.2 3), wB E (bd 4) ((fX6_assign β η σ a b).2.2.2 4), wB E (bd 5) ((fX6_assign β η σ a b).2.2.2 5), wB E (bd 6) ((fX6_assign β η σ a b).2.2.2 6), wB E (bd 7) ((fX6_assign β η σ a b).2.2.2 7), wB E (bd 8) ((fX6_assign β η σ a b).2.2.2 8), wB E (bd 9) ((fX6_assign β η σ a b).2.2.2 9), wM E am μ, wO E ao (vp_updL o 0 v.toInt64)]) (st1 := [.int 0]) [.ref ax, .int a, .int b, .ref ao] [0, 1, 2, 3, 4, 5, 6, 7, 8, 9, 10, 11, 12, 13, 15] (kL_assign_r l E ax bo β tr τ ac γ ah bd η σ at_ θ ao o hlt hvb hvh a b ((fX7_assign μ a b).1) hr) q4_33 q1_0 (by decide +kernel) q4_32 q4_31 rfl ⟨Nat.le_of_ble_eq_true rfl, Nat.le_of_ble_eq_true rfl⟩ ⟨hk, hn⟩ (by decide) rfl rfl rfl rfl (Nat.le_of_ble_eq_true rfl) dL_law_702 rfl ?_
    refine g_istore C (lv1 := [(5, .int 0), (0, .ref b0), (1, .ref ax), (2, .ref (am 0)), (3, .ref ao), (4, .int (nI i))]) dL_law_705 (by decide) rfl ?_
    refine g_aload_n C dL_law_707 rfl 3 rfl ?_
    refine g_aload_n C dL_law_708 rfl 1 rfl ?_
    refine g_iload C dL_law_709 5 rfl ?_
    refine g_iconst C (v := 1) dL_law_711 (by decide) ?_
    refine g_iadd C dL_law_712 ?_
    refine g_sldv C S (i + 1) (nx_add (rfl : nI i = nI i) (rfl : (1 : Int32) = nI 1)) (by omega) ha9 dL_law_713 ?_
    refine g_aload_n C dL_law_714 rfl 1 rfl ?_
    refine g_iload C dL_law_715 5 rfl ?_
    refine g_iconst C (v := 2) dL_law_717 (by decide) ?_
    refine g_iadd C dL_law_718 ?_
    refine g_sldv C S (i + 2) (nx_add (rfl : nI i = nI i) (rfl : (2 : Int32) = nI 2)) (by omega) hb9 dL_law_719 ?_
    refine g_callV C (cs1 := [wX ax (bo 0) (tr 0) (ac 0) (ah 0) (at_ 0), wB E bo ((fX6_assign β η σ a b).2.1), wB E tr τ, wC E ac γ, wH E ah bd ((fX6_assign β η σ a b).2.2.1), wT E at_ θ, wB E (bd 2) ((fX6_assign β η σ a b).2.2.2 2), wB E (bd 3) ((fX6_assign β η σ a b).2.2.2 3), wB E (bd 4) ((fX6_assign β η σ a b).2.2.2 4), wB E (bd 5) ((fX6_assign β η σ a b).2.2.2 5), wB E (bd 6) ((fX6_assign β η σ a b).2.2.2 6), wB E (bd 7) ((fX6_assign β η σ a b).2.2.2 7), wB E (bd 8) ((fX6_assign β η σ a b).2.2.2 8), wB E (bd 9) ((fX6_assign β η σ a b).2.2.2 9), wM E am ((fX7_assign μ a b).2), wO E ao (vp_updL o 0 v.toInt64)]) (st1 := [.int ((fX7_assign μ a b).1)]) [.int a, .int b] [14] (kX7_assign l E am μ hvm a b) caX7_assign q6_199 rfl ⟨Nat.le_of_ble_eq_true rfl, Nat.le_of_ble_eq_true rfl⟩ ⟨hk, hn⟩ 14 0 rfl rfl rfl rfl (by decide) rfl rfl rfl rfl (Nat.le_of_ble_eq_true rfl) dL_law_720 rfl ?_
    refine g_istore C (lv1 := [(6, .int ((fX7_assign μ a b).1)), (5, .int 0), (0, .ref b0), (1, .ref ax), (2, .ref (am 0)), (3, .ref ao), (4, .int (nI i))]) dL_law_723 (by decide) rfl ?_
    refine g_aload_n C dL_law_725 rfl 4 rfl ?_
    refine g_callV C (cs1 := [wX ax (bo 0) (tr 0) (ac 0) (ah 0) (at_ 0), wB E bo ((fX6_assign β η σ a b).2.1), wB E tr τ, wC E ac γ, wH E ah bd ((fX6_assign β η σ a b).2.2.1), wT E at_ θ, wB E (bd 2) ((fX6_assign β η σ a b).2.2.2 2), wB E (bd 3) ((fX6_assign β η σ a b).2.2.2 3), wB E (bd 4) ((fX6_assign β η σ a b).2.2.2 4), wB E (bd 5) ((fX6_assign β η σ a b).2.2.2 5), wB E (bd 6) ((fX6_assign β η σ a b).2.2.2 6), wB E (bd 7) ((fX6_assign β η σ a b).2.2.2 7), wB E (bd 8) ((fX6_assign β η σ a b).2.2.2 8), wB E (bd 9) ((fX6_assign β η σ a b).2.2.2 9), wM E am ((fX7_assign μ a b).2), wO E ao (vp_updL o 0 v.toInt64)]) (st1 := [.int (fX7_thrown ((fX7_assign μ a b).2))]) [] [14] (kX7_thrown l E am ((fX7_assign μ a b).2)) caX7_thrown q6_117 rfl ⟨Nat.le_of_ble_eq_true rfl, Nat.le_of_ble_eq_true rfl⟩ ⟨hk, hn⟩ 14 0 rfl rfl rfl rfl (by decide) rfl rfl rfl rfl (Nat.le_of_ble_eq_true rfl) dL_law_726 rfl ?_
    refine g_iload C dL_law_729 1 rfl ?_
    refine g_icmp_eq C 736 dL_law_731 (by decide) (fun _ => ?_) (fun c => absurd ht c)
    refine g_iload C dL_law_736 1 rfl ?_
    refine g_if_ne C 753 dL_law_738 (by decide) (fun c => absurd rfl c) (fun _ => ?_)
    refine g_aload_n C dL_law_741 rfl 5 rfl ?_
    refine g_iconst C (v := 0) dL_law_742 (by decide) ?_
    refine g_laldn C 15 0 0 rfl rfl rfl (by decide) (by decide) dL_law_743 ?_
    refine g_iload C dL_law_744 0 rfl ?_
    refine g_i2l C dL_law_746 ?_
    refine g_lcmp C dL_law_747 ?_
    refine g_if_eq C 753 dL_law_748 (by decide) (fun _ => ?_) (fun c => absurd law_cmp c)
    refine g_goto C 3840 dL_law_753 (by decide) ?_
    exact g_sub [2, 3, 4, 5, 6] rfl (next ((fX6_assign β η σ a b).2.1) τ γ ((fX6_assign β η σ a b).2.2.1) ((fX6_assign β η σ a b).2.2.2) θ ((fX7_assign μ a b).2) (vp_updL o 0 v.toInt64) hR2)
  · skip
    refine g_aload_n C dL_law_688 rfl 1 rfl ?_
    refine g_aload_n C dL_law_689 rfl 0 rfl ?_
    refine g_iload C dL_law_690 4 rfl ?_
    refine g_iconst C (v := 1) dL_law_692 (by decide) ?_
    refine g_iadd C dL_law_693 ?_
    refine g_sldv C S (i + 1) (nx_add (rfl : nI i = nI i) (rfl : (1 : Int32) = nI 1)) (by omega) ha9 dL_law_694 ?_
    refine g_aload_n C dL_law_695 rfl 0 rfl ?_
    refine g_iload C dL_law_696 4 rfl ?_
    refine g_iconst C (v := 2) dL_law_698 (by decide) ?_
    refine g_iadd C dL_law_699 ?_
    refine g_sldv C S (i + 2) (nx_add (rfl : nI i = nI i) (rfl : (2 : Int32) = nI 2)) (by omega) hb9 dL_law_700 ?_
    refine g_aload_n C dL_law_701 rfl 3 rfl ?_
    refine g_callSW C hZ hNc (cs1 := [wX ax (bo 0) (tr 0) (ac 0) (ah 0) (at_ 0), wB E bo ((fX6_assign β η σ a b).2.1), wB E tr τ, wC E ac γ, wH E ah bd ((fX6_assign β η σ a b).2.2.1), wT E at_ θ, wB E (bd 2) ((fX6_assign β η σ a b).2.2.2 2), wB E (bd 3) ((fX6_assign β η σ a b).2.2.2 3), wB E (bd 4) ((fX6_assign β η σ a b).2.2.2 4), wB E (bd 5) ((fX6_assign β η σ a b).2.2.2 5), wB E (bd 6) ((fX6_assign β η σ a b).2.2.2 6), wB E (bd 7) ((fX6_assign β η σ a b).2.2.2 7), wB E (bd 8) ((fX6_assign β η σ a b).2.2.2 8), wB E (bd 9) ((fX6_assign β η σ a b).2.2.2 9), wM E am μ, wO E ao o]) (st1 := [.int 1]) [.ref ax, .int a, .int b, .ref ao] [0, 1, 2, 3, 4, 5, 6, 7, 8, 9, 10, 11, 12, 13, 15] (kL_assign_0 l E ax bo β tr τ ac γ ah bd η σ at_ θ ao o hlt hvb hvh a b hr) q4_33 q1_0 (by decide +kernel) q4_32 q4_31 rfl ⟨Nat.le_of_ble_eq_true rfl, Nat.le_of_ble_eq_true rfl⟩ ⟨hk, hn⟩ (by decide) rfl rfl rfl rfl (Nat.le_of_ble_eq_true rfl) dL_law_702 rfl ?_
    refine g_istore C (lv1 := [(5, .int 1), (0, .ref b0), (1, .ref ax), (2, .ref (am 0)), (3, .ref ao), (4, .int (nI i))]) dL_law_705 (by decide) rfl ?_
    refine g_aload_n C dL_law_707 rfl 3 rfl ?_
    refine g_aload_n C dL_law_708 rfl 1 rfl ?_
    refine g_iload C dL_law_709 5 rfl ?_
    refine g_iconst C (v := 1) dL_law_711 (by decide) ?_
    refine g_iadd C dL_law_712 ?_
    refine g_sldv C S (i + 1) (nx_add (rfl : nI i = nI i) (rfl : (1 : Int32) = nI 1)) (by omega) ha9 dL_law_713 ?_
    refine g_aload_n C dL_law_714 rfl 1 rfl ?_
    refine g_iload C dL_law_715 5 rfl ?_
    refine g_iconst C (v := 2) dL_law_717 (by decide) ?_
    refine g_iadd C dL_law_718 ?_
    refine g_sldv C S (i + 2) (nx_add (rfl : nI i = nI i) (rfl : (2 : Int32) = nI 2)) (by omega) hb9 dL_law_719 ?_
    refine g_callV C (cs1 := [wX ax (bo 0) (tr 0) (ac 0) (ah 0) (at_ 0), wB E bo ((fX6_assign β η σ a b).2.1), wB E tr τ, wC E ac γ, wH E ah bd ((fX6_assign β η σ a b).2.2.1), wT E at_ θ, wB E (bd 2) ((fX6_assign β η σ a b).2.2.2 2), wB E (bd 3) ((fX6_assign β η σ a b).2.2.2 3), wB E (bd 4) ((fX6_assign β η σ a b).2.2.2 4), wB E (bd 5) ((fX6_assign β η σ a b).2.2.2 5), wB E (bd 6) ((fX6_assign β η σ a b).2.2.2 6), wB E (bd 7) ((fX6_assign β η σ a b).2.2.2 7), wB E (bd 8) ((fX6_assign β η σ a b).2.2.2 8), wB E (bd 9) ((fX6_assign β η σ a b).2.2.2 9), wM E am ((fX7_assign μ a b).2), wO E ao o]) (st1 := [.int ((fX7_assign μ a b).1)]) [.int a, .int b] [14] (kX7_assign l E am μ hvm a b) caX7_assign q6_199 rfl ⟨Nat.le_of_ble_eq_true rfl, Nat.le_of_ble_eq_true rfl⟩ ⟨hk, hn⟩ 14 0 rfl rfl rfl rfl (by decide) rfl rfl rfl rfl (Nat.le_of_ble_eq_true rfl) dL_law_720 rfl ?_
    refine g_istore C (lv1 := [(6, .int ((fX7_assign μ a b).1)), (5, .int 1), (0, .ref b0), (1, .ref ax), (2, .ref (am 0)), (3, .ref ao), (4, .int (nI i))]) dL_law_723 (by decide) rfl ?_
    refine g_aload_n C dL_law_725 rfl 4 rfl ?_
    refine g_callV C (cs1 := [wX ax (bo 0) (tr 0) (ac 0) (ah 0) (at_ 0), wB E bo ((fX6_assign β η σ a b).2.1), wB E tr τ, wC E ac γ, wH E ah bd ((fX6_assign β η σ a b).2.2.1), wT E at_ θ, wB E (bd 2) ((fX6_assign β η σ a b).2.2.2 2), wB E (bd 3) ((fX6_assign β η σ a b).2.2.2 3), wB E (bd 4) ((fX6_assign β η σ a b).2.2.2 4), wB E (bd 5) ((fX6_assign β η σ a b).2.2.2 5), wB E (bd 6) ((fX6_assign β η σ a b).2.2.2 6), wB E (bd 7) ((fX6_assign β η σ a b).2.2.2 7), wB E (bd 8) ((fX6_assign β η σ a b).2.2.2 8), wB E (bd 9) ((fX6_assign β η σ a b).2.2.2 9), wM E am ((fX7_assign μ a b).2), wO E ao o]) (st1 := [.int (fX7_thrown ((fX7_assign μ a b).2))]) [] [14] (kX7_thrown l E am ((fX7_assign μ a b).2)) caX7_thrown q6_117 rfl ⟨Nat.le_of_ble_eq_true rfl, Nat.le_of_ble_eq_true rfl⟩ ⟨hk, hn⟩ 14 0 rfl rfl rfl rfl (by decide) rfl rfl rfl rfl (Nat.le_of_ble_eq_true rfl) dL_law_726 rfl ?_
    refine g_iload C dL_law_729 1 rfl ?_
    refine g_icmp_eq C 736 dL_law_731 (by decide) (fun _ => ?_) (fun c => absurd ht c)
    refine g_iload C dL_law_736 1 rfl ?_
    refine g_if_ne C 753 dL_law_738 (by decide) (fun _ => ?_) (fun c => absurd c (by decide))
    refine g_goto C 3840 dL_law_753 (by decide) ?_
    exact g_sub [2, 3, 4, 5, 6] rfl (next ((fX6_assign β η σ a b).2.1) τ γ ((fX6_assign β η σ a b).2.2.1) ((fX6_assign β η σ a b).2.2.2) θ ((fX7_assign μ a b).2) o hR2)
  · skip
    refine g_aload_n C dL_law_688 rfl 1 rfl ?_
    refine g_aload_n C dL_law_689 rfl 0 rfl ?_
    refine g_iload C dL_law_690 4 rfl ?_
    refine g_iconst C (v := 1) dL_law_692 (by decide) ?_
    refine g_iadd C dL_law_693 ?_
    refine g_sldv C S (i + 1) (nx_add (rfl : nI i = nI i) (rfl : (1 : Int32) = nI 1)) (by omega) ha9 dL_law_694 ?_
    refine g_aload_n C dL_law_695 rfl 0 rfl ?_
    refine g_iload C dL_law_696 4 rfl ?_
    refine g_iconst C (v := 2) dL_law_698 (by decide) ?_
    refine g_iadd C dL_law_699 ?_
    refine g_sldv C S (i + 2) (nx_add (rfl : nI i = nI i) (rfl : (2 : Int32) = nI 2)) (by omega) hb9 dL_law_700 ?_
    refine g_aload_n C dL_law_701 rfl 3 rfl ?_
    refine g_callSW C hZ hNc (cs1 := [wX ax (bo 0) (tr 0) (ac 0) (ah 0) (at_ 0), wB E bo ((fX6_assign β η σ a b).2.1), wB E tr τ, wC E ac γ, wH E ah bd ((fX6_assign β η σ a b).2.2.1), wT E at_ θ, wB E (bd 2) ((fX6_assign β η σ a b).2.2.2 2), wB E (bd 3) ((fX6_assign β η σ a b).2.2.2 3), wB E (bd 4) ((fX6_assign β η σ a b).2.2.2 4), wB E (bd 5) ((fX6_assign β η σ a b).2.2.2 5), wB E (bd 6) ((fX6_assign β η σ a b).2.2.2 6), wB E (bd 7) ((fX6_assign β η σ a b).2.2.2 7), wB E (bd 8) ((fX6_assign β η σ a b).2.2.2 8), wB E (bd 9) ((fX6_assign β η σ a b).2.2.2 9), wM E am μ, wO E ao o]) (st1 := [.int 2]) [.ref ax, .int a, .int b, .ref ao] [0, 1, 2, 3, 4, 5, 6, 7, 8, 9, 10, 11, 12, 13, 15] (kL_assign_1 l E ax bo β tr τ ac γ ah bd η σ at_ θ ao o hlt hvb hvh a b hr) q4_33 q1_0 (by decide +kernel) q4_32 q4_31 rfl ⟨Nat.le_of_ble_eq_true rfl, Nat.le_of_ble_eq_true rfl⟩ ⟨hk, hn⟩ (by decide) rfl rfl rfl rfl (Nat.le_of_ble_eq_true rfl) dL_law_702 rfl ?_
    refine g_istore C (lv1 := [(5, .int 2), (0, .ref b0), (1, .ref ax), (2, .ref (am 0)), (3, .ref ao), (4, .int (nI i))]) dL_law_705 (by decide) rfl ?_
    refine g_aload_n C dL_law_707 rfl 3 rfl ?_
    refine g_aload_n C dL_law_708 rfl 1 rfl ?_
    refine g_iload C dL_law_709 5 rfl ?_
    refine g_iconst C (v := 1) dL_law_711 (by decide) ?_
    refine g_iadd C dL_law_712 ?_
    refine g_sldv C S (i + 1) (nx_add (rfl : nI i = nI i) (rfl : (1 : Int32) = nI 1)) (by omega) ha9 dL_law_713 ?_
    refine g_aload_n C dL_law_714 rfl 1 rfl ?_
    refine g_iload C dL_law_715 5 rfl ?_
    refine g_iconst C (v := 2) dL_law_717 (by decide) ?_
    refine g_iadd C dL_law_718 ?_
    refine g_sldv C S (i + 2) (nx_add (rfl : nI i = nI i) (rfl : (2 : Int32) = nI 2)) (by omega) hb9 dL_law_719 ?_
    refine g_callV C (cs1 := [wX ax (bo 0) (tr 0) (ac 0) (ah 0) (at_ 0), wB E bo ((fX6_assign β η σ a b).2.1), wB E tr τ, wC E ac γ, wH E ah bd ((fX6_assign β η σ a b).2.2.1), wT E at_ θ, wB E (bd 2) ((fX6_assign β η σ a b).2.2.2 2), wB E (bd 3) ((fX6_assign β η σ a b).2.2.2 3), wB E (bd 4) ((fX6_assign β η σ a b).2.2.2 4), wB E (bd 5) ((fX6_assign β η σ a b).2.2.2 5), wB E (bd 6) ((fX6_assign β η σ a b).2.2.2 6), wB E (bd 7) ((fX6_assign β η σ a b).2.2.2 7), wB E (bd 8) ((fX6_assign β η σ a b).2.2.2 8), wB E (bd 9) ((fX6_assign β η σ a b).2.2.2 9), wM E am ((fX7_assign μ a b).2), wO E ao o]) (st1 := [.int ((fX7_assign μ a b).1)]) [.int a, .int b] [14] (kX7_assign l E am μ hvm a b) caX7_assign q6_199 rfl ⟨Nat.le_of_ble_eq_true rfl, Nat.le_of_ble_eq_true rfl⟩ ⟨hk, hn⟩ 14 0 rfl rfl rfl rfl (by decide) rfl rfl rfl rfl (Nat.le_of_ble_eq_true rfl) dL_law_720 rfl ?_
    refine g_istore C (lv1 := [(6, .int ((fX7_assign μ a b).1)), (5, .int 2), (0, .ref b0), (1, .ref ax), (2, .ref (am 0)), (3, .ref ao), (4, .int (nI i))]) dL_law_723 (by decide) rfl ?_
    refine g_aload_n C dL_law_725 rfl 4 rfl ?_
    refine g_callV C (cs1 := [wX ax (bo 0) (tr 0) (ac 0) (ah 0) (at_ 0), wB E bo ((fX6_assign β η σ a b).2.1), wB E tr τ, wC E ac γ, wH E ah bd ((fX6_assign β η σ a b).2.2.1), wT E at_ θ, wB E (bd 2) ((fX6_assign β η σ a b).2.2.2 2), wB E (bd 3) ((fX6_assign β η σ a b).2.2.2 3), wB E (bd 4) ((fX6_assign β η σ a b).2.2.2 4), wB E (bd 5) ((fX6_assign β η σ a b).2.2.2 5), wB E (bd 6) ((fX6_assign β η σ a b).2.2.2 6), wB E (bd 7) ((fX6_assign β η σ a b).2.2.2 7), wB E (bd 8) ((fX6_assign β η σ a b).2.2.2 8), wB E (bd 9) ((fX6_assign β η σ a b).2.2.2 9), wM E am ((fX7_assign μ a b).2), wO E ao o]) (st1 := [.int (fX7_thrown ((fX7_assign μ a b).2))]) [] [14] (kX7_thrown l E am ((fX7_assign μ a b).2)) caX7_thrown q6_117 rfl ⟨Nat.le_of_ble_eq_true rfl, Nat.le_of_ble_eq_true rfl⟩ ⟨hk, hn⟩ 14 0 rfl rfl rfl rfl (by decide) rfl rfl rfl rfl (Nat.le_of_ble_eq_true rfl) dL_law_726 rfl ?_
    refine g_iload C dL_law_729 1 rfl ?_
    refine g_icmp_eq C 736 dL_law_731 (by decide) (fun _ => ?_) (fun c => absurd ht c)
    refine g_iload C dL_law_736 1 rfl ?_
    refine g_if_ne C 753 dL_law_738 (by decide) (fun _ => ?_) (fun c => absurd c (by decide))
    refine g_goto C 3840 dL_law_753 (by decide) ?_
    exact g_sub [2, 3, 4, 5, 6] rfl (next ((fX6_assign β η σ a b).2.1) τ γ ((fX6_assign β η σ a b).2.2.1) ((fX6_assign β η σ a b).2.2.2) θ ((fX7_assign μ a b).2) o hR2)
set_option maxHeartbeats 4000000 in
set_option maxRecDepth 100000 in
theorem arm_6 {Rl : RlT} (hRv : RlV Rl) (hs : sH_unassign Rl)  {X : gX} {l : Launch} {E : gE} (C : gC X cL_law 9 RL (some .boolean) l E room_1) (hZ : gZ X.2.2.2.2.2.2.2.2.2.2.2.1 X.2.2.2.2.1 X.2.2.2.2.1.heap) (hNc : gNc X.2.2.2.2.1) {b0 L0 : Nat} {xs : Nat → Int32} (S : gS X b0 L0 xs) (hlt : l.stackTraces = false) {ax : Nat} {bo tr ac ah : Nat → Nat} {bd : Nat → Nat → Nat} {at_ am : Nat → Nat} {ao k n i : Nat} (hk : k + 3 ≤ 601024) (hn : n + 18 ≤ 7293034) (hi : i + 3 ≤ L0) {β τ γ η : BS} {σ : Nat → BS} {θ μ : BS} {o : Nat → Int64} (hR : Rl β η θ σ μ) (next : ∀ (β τ γ η : BS) (σ : Nat → BS) (θ μ : BS) (o : Nat → Int64), Rl β η θ σ μ → G X (k + 3) (n + 18) [wX ax (bo 0) (tr 0) (ac 0) (ah 0) (at_ 0), wB E bo β, wB E tr τ, wC E ac γ, wH E ah bd η, wT E at_ θ, wB E (bd 2) (σ 2), wB E (bd 3) (σ 3), wB E (bd 4) (σ 4), wB E (bd 5) (σ 5), wB E (bd 6) (σ 6), wB E (bd 7) (σ 7), wB E (bd 8) (σ 8), wB E (bd 9) (σ 9), wM E am μ, wO E ao o] [(0, .ref b0), (1, .ref ax), (2, .ref (am 0)), (3, .ref ao), (4, .int (nI i))] 3840 []) : G X k n [wX ax (bo 0) (tr 0) (ac 0) (ah 0) (at_ 0), wB E bo β, wB E tr τ, wC E ac γ, wH E ah bd η, wT E at_ θ, wB E (bd 2) (σ 2), wB E (bd 3) (σ 3), wB E (bd 4) (σ 4), wB E (bd 5) (σ 5), wB E (bd 6) (σ 6), wB E (bd 7) (σ 7), wB E (bd 8) (σ 8), wB E (bd 9) (σ 9), wM E am μ, wO E ao o] [(0, .ref b0), (1, .ref ax), (2, .ref (am 0)), (3, .ref ao), (4, .int (nI i))] 756 [] := by
  obtain ⟨hvb, hvh, hvt, hvm, ha⟩ := hRv β η θ σ μ hR
  obtain ⟨a, ha9⟩ : ∃ a, xs (i + 1) = a := ⟨_, rfl⟩
  obtain ⟨hag, hR2⟩ := hs β τ γ η σ θ μ a hR
  rcases hag with ⟨hr, ht⟩ | ⟨hr, ht⟩ | ⟨hr, ht⟩
  · skip
    refine g_aload_n C dL_law_756 rfl 1 rfl ?_
    refine g_aload_n C dL_law_757 rfl 0 rfl ?_
    refine g_iload C dL_law_758 4 rfl ?_
    refine g_iconst C (v := 1) dL_law_760 (by decide) ?_
    refine g_iadd C dL_law_761 ?_
    refine g_sldv C S (i + 1) (nx_add (rfl : nI i = nI i) (rfl : (1 : Int32) = nI 1)) (by omega) ha9 dL_law_762 ?_
    refine g_aload_n C dL_law_763 rfl 3 rfl ?_
    refine g_callSW C hZ hNc (cs1 := [wX ax (bo 0) (tr 0) (ac 0) (ah 0) (at_ 0), wB E bo ((fX6_unassign β η σ a).2.1), wB E tr τ, wC E ac γ, wH E ah bd ((fX6_unassign β η σ a).2.2.1), wT E at_ θ, wB E (bd 2) ((fX6_unassign β η σ a).2.2.2 2), wB E (bd 3) ((fX6_unassign β η σ a).2.2.2 3), wB E (bd 4) ((fX6_unassign β η σ a).2.2.2 4), wB E (bd 5) ((fX6_unassign β η σ a).2.2.2 5), wB E (bd 6) ((fX6_unassign β η σ a).2.2.2 6), wB E (bd 7) ((fX6_unassign β η σ a).2.2.2 7), wB E (bd 8) ((fX6_unassign β η σ a).2.2.2 8), wB E (bd 9) ((fX6_unassign β η σ a).2.2.2 9), wM E am μ, wO E ao (vp_updL o 0 v.toInt64)]) (st1 := [.int 0]) [.ref ax, .int a, .ref ao] [0, 1, 2, 3, 4, 5, 6, 7, 8, 9, 10, 11, 12, 13, 15] (kL_unassign_r l E ax bo β tr τ ac γ ah bd η σ at_ θ ao o hlt hvb hvh a ((fX7_unassign μ a).1) hr) q4_51 q1_0 (by decide +kernel) q4_50 q4_49 rfl ⟨Nat.le_of_ble_eq_true rfl, Nat.le_of_ble_eq_true rfl⟩ ⟨hk, hn⟩ (by decide) rfl rfl rfl rfl (Nat.le_of_ble_eq_true rfl) dL_law_764 rfl ?_
    refine g_istore C (lv1 := [(5, .int 0), (0, .ref b0), (1, .ref ax), (2, .ref (am 0)), (3, .ref ao), (4, .int (nI i))]) dL_law_767 (by decide) rfl ?_
    refine g_aload_n C dL_law_769 rfl 3 rfl ?_
    refine g_aload_n C dL_law_770 rfl 1 rfl ?_
    refine g_iload C dL_law_771 5 rfl ?_
    refine g_iconst C (v := 1) dL_law_773 (by decide) ?_
    refine g_iadd C dL_law_774 ?_
    refine g_sldv C S (i + 1) (nx_add (rfl : nI i = nI i) (rfl : (1 : Int32) = nI 1)) (by omega) ha9 dL_law_775 ?_
    refine g_callV C (cs1 := [wX ax (bo 0) (tr 0) (ac 0) (ah 0) (at_ 0), wB E bo ((fX6_unassign β η σ a).2.1), wB E tr τ, wC E ac γ, wH E ah bd ((fX6_unassign β η σ a).2.2.1), wT E at_ θ, wB E (bd 2) ((fX6_unassign β η σ a).2.2.2 2), wB E (bd 3) ((fX6_unassign β η σ a).2.2.2 3), wB E (bd 4) ((fX6_unassign β η σ a).2.2.2 4), wB E (bd 5) ((fX6_unassign β η σ a).2.2.2 5), wB E (bd 6) ((fX6_unassign β η σ a).2.2.2 6), wB E (bd 7) ((fX6_unassign β η σ a).2.2.2 7), wB E (bd 8) ((fX6_unassign β η σ a).2.2.2 8), wB E (bd 9) ((fX6_unassign β η σ a).2.2.2 9), wM E am ((fX7_unassign μ a).2), wO E ao (vp_updL o 0 v.toInt64)]) (st1 := [.int ((fX7_unassign μ a).1)]) [.int a] [14] (kX7_unassign l E am μ hvm a) caX7_unassign q6_214 rfl ⟨Nat.le_of_ble_eq_true rfl, Nat.le_of_ble_eq_true rfl⟩ ⟨hk, hn⟩ 14 0 rfl rfl rfl rfl (by decide) rfl rfl rfl rfl (Nat.le_of_ble_eq_true rfl) dL_law_776 rfl ?_
    refine g_istore C (lv1 := [(6, .int ((fX7_unassign μ a).1)), (5, .int 0), (0, .ref b0), (1, .ref ax), (2, .ref (am 0)), (3, .ref ao), (4, .int (nI i))]) dL_law_779 (by decide) rfl ?_
    refine g_aload_n C dL_law_781 rfl 4 rfl ?_
    refine g_callV C (cs1 := [wX ax (bo 0) (tr 0) (ac 0) (ah 0) (at_ 0), wB E bo ((fX6_unassign β η σ a).2.1), wB E tr τ, wC E ac γ, wH E ah bd ((fX6_unassign β η σ a).2.2.1), wT E at_ θ, wB E (bd 2) ((fX6_unassign β η σ a).2.2.2 2), wB E (bd 3) ((fX6_unassign β η σ a).2.2.2 3), wB E (bd 4) ((fX6_unassign β η σ a).2.2.2 4), wB E (bd 5) ((fX6_unassign β η σ a).2.2.2 5), wB E (bd 6) ((fX6_unassign β η σ a).2.2.2 6), wB E (bd 7) ((fX6_unassign β η σ a).2.2.2 7), wB E (bd 8) ((fX6_unassign β η σ a).2.2.2 8), wB E (bd 9) ((fX6_unassign β η σ a).2.2.2 9), wM E am ((fX7_unassign μ a).2), wO E ao (vp_updL o 0 v.toInt64)]) (st1 := [.int (fX7_thrown ((fX7_unassign μ a).2))]) [] [14] (kX7_thrown l E am ((fX7_unassign μ a).2)) caX7_thrown q6_117 rfl ⟨Nat.le_of_ble_eq_true rfl, Nat.le_of_ble_eq_true rfl⟩ ⟨hk, hn⟩ 14 0 rfl rfl rfl rfl (by decide) rfl rfl rfl rfl (Nat.le_of_ble_eq_true rfl) dL_law_782 rfl ?_
    refine g_iload C dL_law_785 1 rfl ?_
    refine g_icmp_eq C 792 dL_law_787 (by decide) (fun _ => ?_) (fun c => absurd ht c)
    refine g_iload C dL_law_792 1 rfl ?_
    refine g_if_ne C 809 dL_law_794 (by decide) (fun c => absurd rfl c) (fun _ => ?_)
    refine g_aload_n C dL_law_797 rfl 5 rfl ?_
    refine g_iconst C (v := 0) dL_law_798 (by decide) ?_
    refine g_laldn C 15 0 0 rfl rfl rfl (by decide) (by decide) dL_law_799 ?_
    refine g_iload C dL_law_800 0 rfl ?_
    refine g_i2l C dL_law_802 ?_
    refine g_lcmp C dL_law_803 ?_
    refine g_if_eq C 809 dL_law_804 (by decide) (fun _ => ?_) (fun c => absurd law_cmp c)
    refine g_goto C 3840 dL_law_809 (by decide) ?_
    exact g_sub [2, 3, 4, 5, 6] rfl (next ((fX6_unassign β η σ a).2.1) τ γ ((fX6_unassign β η σ a).2.2.1) ((fX6_unassign β η σ a).2.2.2) θ ((fX7_unassign μ a).2) (vp_updL o 0 v.toInt64) hR2)
  · skip
    refine g_aload_n C dL_law_756 rfl 1 rfl ?_
    refine g_aload_n C dL_law_757 rfl 0 rfl ?_
    refine g_iload C dL_law_758 4 rfl ?_
    refine g_iconst C (v := 1) dL_law_760 (by decide) ?_
    refine g_iadd C dL_law_761 ?_
    refine g_sldv C S (i + 1) (nx_add (rfl : nI i = nI i) (rfl : (1 : Int32) = nI 1)) (by omega) ha9 dL_law_762 ?_
    refine g_aload_n C dL_law_763 rfl 3 rfl ?_
    refine g_callSW C hZ hNc (cs1 := [wX ax (bo 0) (tr 0) (ac 0) (ah 0) (at_ 0), wB E bo ((fX6_unassign β η σ a).2.1), wB E tr τ, wC E ac γ, wH E ah bd ((fX6_unassign β η σ a).2.2.1), wT E at_ θ, wB E (bd 2) ((fX6_unassign β η σ a).2.2.2 2), wB E (bd 3) ((fX6_unassign β η σ a).2.2.2 3), wB E (bd 4) ((fX6_unassign β η σ a).2.2.2 4), wB E (bd 5) ((fX6_unassign β η σ a).2.2.2 5), wB E (bd 6) ((fX6_unassign β η σ a).2.2.2 6), wB E (bd 7) ((fX6_unassign β η σ a).2.2.2 7), wB E (bd 8) ((fX6_unassign β η σ a).2.2.2 8), wB E (bd 9) ((fX6_unassign β η σ a).2.2.2 9), wM E am μ, wO E ao o]) (st1 := [.int 1]) [.ref ax, .int a, .ref ao] [0, 1, 2, 3, 4, 5, 6, 7, 8, 9, 10, 11, 12, 13, 15] (kL_unassign_0 l E ax bo β tr τ ac γ ah bd η σ at_ θ ao o hlt hvb hvh a hr) q4_51 q1_0 (by decide +kernel) q4_50 q4_49 rfl ⟨Nat.le_of_ble_eq_true rfl, Nat.le_of_ble_eq_true rfl⟩ ⟨hk, hn⟩ (by decide) rfl rfl rfl rfl (Nat.le_of_ble_eq_true rfl) dL_law_764 rfl ?_
    refine g_istore C (lv1 := [(5, .int 1), (0, .ref b0), (1, .ref ax), (2, .ref (am 0)), (3, .ref ao), (4, .int (nI i))]) dL_law_767 (by decide) rfl ?_
    refine g_aload_n C dL_law_769 rfl 3 rfl ?_
    refine g_aload_n C dL_law_770 rfl 1 rfl ?_
    refine g_iload C dL_law_771 5 rfl ?_
    refine g_iconst C (v := 1) dL_law_773 (by decide) ?_
    refine g_iadd C dL_law_774 ?_
    refine g_sldv C S (i + 1) (nx_add (rfl : nI i = nI i) (rfl : (1 : Int32) = nI 1)) (by omega) ha9 dL_law_775 ?_
    refine g_callV C (cs1 := [wX ax (bo 0) (tr 0) (ac 0) (ah 0) (at_ 0), wB E bo ((fX6_unassign β η σ a).2.1), wB E tr τ, wC E ac γ, wH E ah bd ((fX6_unassign β η σ a).2.2.1), wT E at_ θ, wB E (bd 2) ((fX6_unassign β η σ a).2.2.2 2), wB E (bd 3) ((fX6_unassign β η σ a).2.2.2 3), wB E (bd 4) ((fX6_unassign β η σ a).2.2.2 4), wB E (bd 5) ((fX6_unassign β η σ a).2.2.2 5), wB E (bd 6) ((fX6_unassign β η σ a).2.2.2 6), wB E (bd 7) ((fX6_unassign β η σ a).2.2.2 7), wB E (bd 8) ((fX6_unassign β η σ a).2.2.2 8), wB E (bd 9) ((fX6_unassign β η σ a).2.2.2 9), wM E am ((fX7_unassign μ a).2), wO E ao o]) (st1 := [.int ((fX7_unassign μ a).1)]) [.int a] [14] (kX7_unassign l E am μ hvm a) caX7_unassign q6_214 rfl ⟨Nat.le_of_ble_eq_true rfl, Nat.le_of_ble_eq_true rfl⟩ ⟨hk, hn⟩ 14 0 rfl rfl rfl rfl (by decide) rfl rfl rfl rfl (Nat.le_of_ble_eq_true rfl) dL_law_776 rfl ?_
    refine g_istore C (lv1 := [(6, .int ((fX7_unassign μ a).1)), (5, .int 1), (0, .ref b0), (1, .ref ax), (2, .ref (am 0)), (3, .ref ao), (4, .int (nI i))]) dL_law_779 (by decide) rfl ?_
    refine g_aload_n C dL_law_781 rfl 4 rfl ?_
    refine g_callV C (cs1 := [wX ax (bo 0) (tr 0) (ac 0) (ah 0) (at_ 0), wB E bo ((fX6_unassign β η σ a).2.1), wB E tr τ, wC E ac γ, wH E ah bd ((fX6_unassign β η σ a).2.2.1), wT E at_ θ, wB E (bd 2) ((fX6_unassign β η σ a).2.2.2 2), wB E (bd 3) ((fX6_unassign β η σ a).2.2.2 3), wB E (bd 4) ((fX6_unassign β η σ a).2.2.2 4), wB E (bd 5) ((fX6_unassign β η σ a).2.2.2 5), wB E (bd 6) ((fX6_unassign β η σ a).2.2.2 6), wB E (bd 7) ((fX6_unassign β η σ a).2.2.2 7), wB E (bd 8) ((fX6_unassign β η σ a).2.2.2 8), wB E (bd 9) ((fX6_unassign β η σ a).2.2.2 9), wM E am ((fX7_unassign μ a).2), wO E ao o]) (st1 := [.int (fX7_thrown ((fX7_unassign μ a).2))]) [] [14] (kX7_thrown l E am ((fX7_unassign μ a).2)) caX7_thrown q6_117 rfl ⟨Nat.le_of_ble_eq_true rfl, Nat.le_of_ble_eq_true rfl⟩ ⟨hk, hn⟩ 14 0 rfl rfl rfl rfl (by decide) rfl rfl rfl rfl (Nat.le_of_ble_eq_true rfl) dL_law_782 rfl ?_
    refine g_iload C dL_law_785 1 rfl ?_
    refine g_icmp_eq C 792 dL_law_787 (by decide) (fun _ => ?_) (fun c => absurd ht c)
    refine g_iload C dL_law_792 1 rfl ?_
    refine g_if_ne C 809 dL_law_794 (by decide) (fun _ => ?_) (fun c => absurd c (by decide))
    refine g_goto C 3840 dL_law_809 (by decide) ?_
    exact g_sub [2, 3, 4, 5, 6] rfl (next ((fX6_unassign β η σ a).2.1) τ γ ((fX6_unassign β η σ a).2.2.1) ((fX6_unassign β η σ a).2.2.2) θ ((fX7_unassign μ a).2) o hR2)
  · skip
    refine g_aload_n C dL_law_756 rfl 1 rfl ?_
    refine g_aload_n C dL_law_757 rfl 0 rfl ?_
    refine g_iload C dL_law_758 4 rfl ?_
    refine g_iconst C (v := 1) dL_law_760 (by decide) ?_
    refine g_iadd C dL_law_761 ?_
    refine g_sldv C S (i + 1) (nx_add (rfl : nI i = nI i) (rfl : (1 : Int32) = nI 1)) (by omega) ha9 dL_law_762 ?_
    refine g_aload_n C dL_law_763 rfl 3 rfl ?_
    refine g_callSW C hZ hNc (cs1 := [wX ax (bo 0) (tr 0) (ac 0) (ah 0) (at_ 0), wB E bo ((fX6_unassign β η σ a).2.1), wB E tr τ, wC E ac γ, wH E ah bd ((fX6_unassign β η σ a).2.2.1), wT E at_ θ, wB E (bd 2) ((fX6_unassign β η σ a).2.2.2 2), wB E (bd 3) ((fX6_unassign β η σ a).2.2.2 3), wB E (bd 4) ((fX6_unassign β η σ a).2.2.2 4), wB E (bd 5) ((fX6_unassign β η σ a).2.2.2 5), wB E (bd 6) ((fX6_unassign β η σ a).2.2.2 6), wB E (bd 7) ((fX6_unassign β η σ a).2.2.2 7), wB E (bd 8) ((fX6_unassign β η σ a).2.2.2 8), wB E (bd 9) ((fX6_unassign β η σ a).2.2.2 9), wM E am μ, wO E ao o]) (st1 := [.int 2]) [.ref ax, .int a, .ref ao] [0, 1, 2, 3, 4, 5, 6, 7, 8, 9, 10, 11, 12, 13, 15] (kL_unassign_1 l E ax bo β tr τ ac γ ah bd η σ at_ θ ao o hlt hvb hvh a hr) q4_51 q1_0 (by decide +kernel) q4_50 q4_49 rfl ⟨Nat.le_of_ble_eq_true rfl, Nat.le_of_ble_eq_true rfl⟩ ⟨hk, hn⟩ (by decide) rfl rfl rfl rfl (Nat.le_of_ble_eq_true rfl) dL_law_764 rfl ?_
    refine g_istore C (lv1 := [(5, .int 2), (0, .ref b0), (1, .ref ax), (2, .ref (am 0)), (3, .ref ao), (4, .int (nI i))]) dL_law_767 (by decide) rfl ?_
    refine g_aload_n C dL_law_769 rfl 3 rfl ?_
    refine g_aload_n C dL_law_770 rfl 1 rfl ?_
    refine g_iload C dL_law_771 5 rfl ?_
    refine g_iconst C (v := 1) dL_law_773 (by decide) ?_
    refine g_iadd C dL_law_774 ?_
    refine g_sldv C S (i + 1) (nx_add (rfl : nI i = nI i) (rfl : (1 : Int32) = nI 1)) (by omega) ha9 dL_law_775 ?_
    refine g_callV C (cs1 := [wX ax (bo 0) (tr 0) (ac 0) (ah 0) (at_ 0), wB E bo ((fX6_unassign β η σ a).2.1), wB E tr τ, wC E ac γ, wH E ah bd ((fX6_unassign β η σ a).2.2.1), wT E at_ θ, wB E (bd 2) ((fX6_unassign β η σ a).2.2.2 2), wB E (bd 3) ((fX6_unassign β η σ a).2.2.2 3), wB E (bd 4) ((fX6_unassign β η σ a).2.2.2 4), wB E (bd 5) ((fX6_unassign β η σ a).2.2.2 5), wB E (bd 6) ((fX6_unassign β η σ a).2.2.2 6), wB E (bd 7) ((fX6_unassign β η σ a).2.2.2 7), wB E (bd 8) ((fX6_unassign β η σ a).2.2.2 8), wB E (bd 9) ((fX6_unassign β η σ a).2.2.2 9), wM E am ((fX7_unassign μ a).2), wO E ao o]) (st1 := [.int ((fX7_unassign μ a).1)]) [.int a] [14] (kX7_unassign l E am μ hvm a) caX7_unassign q6_214 rfl ⟨Nat.le_of_ble_eq_true rfl, Nat.le_of_ble_eq_true rfl⟩ ⟨hk, hn⟩ 14 0 rfl rfl rfl rfl (by decide) rfl rfl rfl rfl (Nat.le_of_ble_eq_true rfl) dL_law_776 rfl ?_
    refine g_istore C (lv1 := [(6, .int ((fX7_unassign μ a).1)), (5, .int 2), (0, .ref b0), (1, .ref ax), (2, .ref (am 0)), (3, .ref ao), (4, .int (nI i))]) dL_law_779 (by decide) rfl ?_
    refine g_aload_n C dL_law_781 rfl 4 rfl ?_
    refine g_callV C (cs1 := [wX ax (bo 0) (tr 0) (ac 0) (ah 0) (at_ 0), wB E bo ((fX6_unassign β η σ a).2.1), wB E tr τ, wC E ac γ, wH E ah bd ((fX6_unassign β η σ a).2.2.1), wT E at_ θ, wB E (bd 2) ((fX6_unassign β η σ a).2.2.2 2), wB E (bd 3) ((fX6_unassign β η σ a).2.2.2 3), wB E (bd 4) ((fX6_unassign β η σ a).2.2.2 4), wB E (bd 5) ((fX6_unassign β η σ a).2.2.2 5), wB E (bd 6) ((fX6_unassign β η σ a).2.2.2 6), wB E (bd 7) ((fX6_unassign β η σ a).2.2.2 7), wB E (bd 8) ((fX6_unassign β η σ a).2.2.2 8), wB E (bd 9) ((fX6_unassign β η σ a).2.2.2 9), wM E am ((fX7_unassign μ a).2), wO E ao o]) (st1 := [.int (fX7_thrown ((fX7_unassign μ a).2))]) [] [14] (kX7_thrown l E am ((fX7_unassign μ a).2)) caX7_thrown q6_117 rfl ⟨Nat.le_of_ble_eq_true rfl, Nat.le_of_ble_eq_true rfl⟩ ⟨hk, hn⟩ 14 0 rfl rfl rfl rfl (by decide) rfl rfl rfl rfl (Nat.le_of_ble_eq_true rfl) dL_law_782 rfl ?_
    refine g_iload C dL_law_785 1 rfl ?_
    refine g_icmp_eq C 792 dL_law_787 (by decide) (fun _ => ?_) (fun c => absurd ht c)
    refine g_iload C dL_law_792 1 rfl ?_
    refine g_if_ne C 809 dL_law_794 (by decide) (fun _ => ?_) (fun c => absurd c (by decide))
    refine g_goto C 3840 dL_law_809 (by decide) ?_
    exact g_sub [2, 3, 4, 5, 6] rfl (next ((fX6_unassign β η σ a).2.1) τ γ ((fX6_unassign β η σ a).2.2.1) ((fX6_unassign β η σ a).2.2.2) θ ((fX7_unassign μ a).2) o hR2)
set_option maxHeartbeats 4000000 in
set_option maxRecDepth 100000 in
theorem arm_7 {Rl : RlT} (hRv : RlV Rl) (hs : sH_changeCapacity Rl)  {X : gX} {l : Launch} {E : gE} (C : gC X cL_law 9 RL (some .boolean) l E room_1) (hZ : gZ X.2.2.2.2.2.2.2.2.2.2.2.1 X.2.2.2.2.1 X.2.2.2.2.1.heap) (hNc : gNc X.2.2.2.2.1) {b0 L0 : Nat} {xs : Nat → Int32} (S : gS X b0 L0 xs) (hlt : l.stackTraces = false) {ax : Nat} {bo tr ac ah : Nat → Nat} {bd : Nat → Nat → Nat} {at_ am : Nat → Nat} {ao k n i : Nat} (hk : k + 3 ≤ 601024) (hn : n + 18 ≤ 7293034) (hi : i + 3 ≤ L0) {β τ γ η : BS} {σ : Nat → BS} {θ μ : BS} {o : Nat → Int64} (hR : Rl β η θ σ μ) (next : ∀ (β τ γ η : BS) (σ : Nat → BS) (θ μ : BS) (o : Nat → Int64), Rl β η θ σ μ → G X (k + 3) (n + 18) [wX ax (bo 0) (tr 0) (ac 0) (ah 0) (at_ 0), wB E bo β, wB E tr τ, wC E ac γ, wH E ah bd η, wT E at_ θ, wB E (bd 2) (σ 2), wB E (bd 3) (σ 3), wB E (bd 4) (σ 4), wB E (bd 5) (σ 5), wB E (bd 6) (σ 6), wB E (bd 7) (σ 7), wB E (bd 8) (σ 8), wB E (bd 9) (σ 9), wM E am μ, wO E ao o] [(0, .ref b0), (1, .ref ax), (2, .ref (am 0)), (3, .ref ao), (4, .int (nI i))] 3840 []) : G X k n [wX ax (bo 0) (tr 0) (ac 0) (ah 0) (at_ 0), wB E bo β, wB E tr τ, wC E ac γ, wH E ah bd η, wT E at_ θ, wB E (bd 2) (σ 2), wB E (bd 3) (σ 3), wB E (bd 4) (σ 4), wB E (bd 5) (σ 5), wB E (bd 6) (σ 6), wB E (bd 7) (σ 7), wB E (bd 8) (σ 8), wB E (bd 9) (σ 9), wM E am μ, wO E ao o] [(0, .ref b0), (1, .ref ax), (2, .ref (am 0)), (3, .ref ao), (4, .int (nI i))] 812 [] := by
  obtain ⟨hvb, hvh, hvt, hvm, ha⟩ := hRv β η θ σ μ hR
  obtain ⟨a, ha9⟩ : ∃ a, xs (i + 1) = a := ⟨_, rfl⟩
  obtain ⟨b, hb9⟩ : ∃ b, xs (i + 2) = b := ⟨_, rfl⟩
  obtain ⟨hag, hR2⟩ := hs β τ γ η σ θ μ a b hR
  rcases hag with ⟨hr, ht⟩ | ⟨hr, ht⟩ | ⟨hr, ht⟩ | ⟨hr, ht⟩
  · skip
    refine g_aload_n C dL_law_812 rfl 1 rfl ?_
    refine g_aload_n C dL_law_813 rfl 0 rfl ?_
    refine g_iload C dL_law_814 4 rfl ?_
    refine g_iconst C (v := 1) dL_law_816 (by decide) ?_
    refine g_iadd C dL_law_817 ?_
    refine g_sldv C S (i + 1) (nx_add (rfl : nI i = nI i) (rfl : (1 : Int32) = nI 1)) (by omega) ha9 dL_law_818 ?_
    refine g_aload_n C dL_law_819 rfl 0 rfl ?_
    refine g_iload C dL_law_820 4 rfl ?_
    refine g_iconst C (v := 2) dL_law_822 (by decide) ?_
    refine g_iadd C dL_law_823 ?_
    refine g_sldv C S (i + 2) (nx_add (rfl : nI i = nI i) (rfl : (2 : Int32) = nI 2)) (by omega) hb9 dL_law_824 ?_
    refine g_aload_n C dL_law_825 rfl 3 rfl ?_
    refine g_callSW C hZ hNc (cs1 := [wX ax (bo 0) (tr 0) (ac 0) (ah 0) (at_ 0), wB E bo ((fX6_changeCapacity β η σ a b).2.1), wB E tr τ, wC E ac γ, wH E ah bd ((fX6_changeCapacity β η σ a b).2.2.1), wT E at_ θ, wB E (bd 2) ((fX6_changeCapacity β η σ a b).2.2.2 2), wB E (bd 3) ((fX6_changeCapacity β η σ a b).2.2.2 3), wB E (bd 4) ((fX6_changeCapacity β η σ a b).2.2.2 4), wB E (bd 5) ((fX6_changeCapacity β η σ a b).2.2.2 5), wB E (bd 6) ((fX6_changeCapacity β η σ a b).2.2.2 6), wB E (bd 7) ((fX6_changeCapacity β η σ a b).2.2.2 7), wB E (bd 8) ((fX6_changeCapacity β η σ a b).2.2.2 8), wB E (bd 9) ((fX6_changeCapacity β η σ a b).2.2.2 9), wM E am μ, wO E ao (vp_updL o 0 v.toInt64)]) (st1 := [.int 0]) [.ref ax, .int a, .int b, .ref ao] [0, 1, 2, 3, 4, 5, 6, 7, 8, 9, 10, 11, 12, 13, 15] (kL_changeCapacity_r l E ax bo β tr τ ac γ ah bd η σ at_ θ ao o hlt hvb hvh a b ((fX7_changeCapacity μ a b).1) hr) q4_62 q1_0 (by decide +kernel) q4_61 q4_60 rfl ⟨Nat.le_of_ble_eq_true rfl, Nat.le_of_ble_eq_true rfl⟩ ⟨hk, hn⟩ (by decide) rfl rfl rfl rfl (Nat.le_of_ble_eq_true rfl) dL_law_826 rfl ?_
    refine g_istore C (lv1 := [(5, .int 0), (0, .ref b0), (1, .ref ax), (2, .ref (am 0)), (3, .ref ao), (4, .int (nI i))]) dL_law_829 (by decide) rfl ?_
    refine g_aload_n C dL_law_831 rfl 3 rfl ?_
    refine g_aload_n C dL_law_832 rfl 1 rfl ?_
    refine g_iload C dL_law_833 5 rfl ?_
    refine g_iconst C (v := 1) dL_law_835 (by decide) ?_
    refine g_iadd C dL_law_836 ?_
    refine g_sldv C S (i + 1) (nx_add (rfl : nI i = nI i) (rfl : (1 : Int32) = nI 1)) (by omega) ha9 dL_law_837 ?_
    refine g_aload_n C dL_law_838 rfl 1 rfl ?_
    refine g_iload C dL_law_839 5 rfl ?_
    refine g_iconst C (v := 2) dL_law_841 (by decide) ?_
    refine g_iadd C dL_law_842 ?_
    refine g_sldv C S (i + 2) (nx_add (rfl : nI i = nI i) (rfl : (2 : Int32) = nI 2)) (by omega) hb9 dL_law_843 ?_
    refine g_callV C (cs1 := [wX ax (bo 0) (tr 0) (ac 0) (ah 0) (at_ 0), wB E bo ((fX6_changeCapacity β η σ a b).2.1), wB E tr τ, wC E ac γ, wH E ah bd ((fX6_changeCapacity β η σ a b).2.2.1), wT E at_ θ, wB E (bd 2) ((fX6_changeCapacity β η σ a b).2.2.2 2), wB E (bd 3) ((fX6_changeCapacity β η σ a b).2.2.2 3), wB E (bd 4) ((fX6_changeCapacity β η σ a b).2.2.2 4), wB E (bd 5) ((fX6_changeCapacity β η σ a b).2.2.2 5), wB E (bd 6) ((fX6_changeCapacity β η σ a b).2.2.2 6), wB E (bd 7) ((fX6_changeCapacity β η σ a b).2.2.2 7), wB E (bd 8) ((fX6_changeCapacity β η σ a b).2.2.2 8), wB E (bd 9) ((fX6_changeCapacity β η σ a b).2.2.2 9), wM E am ((fX7_changeCapacity μ a b).2), wO E ao (vp_updL o 0 v.toInt64)]) (st1 := [.int ((fX7_changeCapacity μ a b).1)]) [.int a, .int b] [14] (kX7_changeCapacity l E am μ hvm a b) caX7_changeCapacity q6_218 rfl ⟨Nat.le_of_ble_eq_true rfl, Nat.le_of_ble_eq_true rfl⟩ ⟨hk, hn⟩ 14 0 rfl rfl rfl rfl (by decide) rfl rfl rfl rfl (Nat.le_of_ble_eq_true rfl) dL_law_844 rfl ?_
    refine g_istore C (lv1 := [(6, .int ((fX7_changeCapacity μ a b).1)), (5, .int 0), (0, .ref b0), (1, .ref ax), (2, .ref (am 0)), (3, .ref ao), (4, .int (nI i))]) dL_law_847 (by decide) rfl ?_
    refine g_aload_n C dL_law_849 rfl 4 rfl ?_
    refine g_callV C (cs1 := [wX ax (bo 0) (tr 0) (ac 0) (ah 0) (at_ 0), wB E bo ((fX6_changeCapacity β η σ a b).2.1), wB E tr τ, wC E ac γ, wH E ah bd ((fX6_changeCapacity β η σ a b).2.2.1), wT E at_ θ, wB E (bd 2) ((fX6_changeCapacity β η σ a b).2.2.2 2), wB E (bd 3) ((fX6_changeCapacity β η σ a b).2.2.2 3), wB E (bd 4) ((fX6_changeCapacity β η σ a b).2.2.2 4), wB E (bd 5) ((fX6_changeCapacity β η σ a b).2.2.2 5), wB E (bd 6) ((fX6_changeCapacity β η σ a b).2.2.2 6), wB E (bd 7) ((fX6_changeCapacity β η σ a b).2.2.2 7), wB E (bd 8) ((fX6_changeCapacity β η σ a b).2.2.2 8), wB E (bd 9) ((fX6_changeCapacity β η σ a b).2.2.2 9), wM E am ((fX7_changeCapacity μ a b).2), wO E ao (vp_updL o 0 v.toInt64)]) (st1 := [.int (fX7_thrown ((fX7_changeCapacity μ a b).2))]) [] [14] (kX7_thrown l E am ((fX7_changeCapacity μ a b).2)) caX7_thrown q6_117 rfl ⟨Nat.le_of_ble_eq_true rfl, Nat.le_of_ble_eq_true rfl⟩ ⟨hk, hn⟩ 14 0 rfl rfl rfl rfl (by decide) rfl rfl rfl rfl (Nat.le_of_ble_eq_true rfl) dL_law_850 rfl ?_
    refine g_iload C dL_law_853 1 rfl ?_
    refine g_icmp_eq C 860 dL_law_855 (by decide) (fun _ => ?_) (fun c => absurd ht c)
    refine g_iload C dL_law_860 1 rfl ?_
    refine g_if_ne C 877 dL_law_862 (by decide) (fun c => absurd rfl c) (fun _ => ?_)
    refine g_aload_n C dL_law_865 rfl 5 rfl ?_
    refine g_iconst C (v := 0) dL_law_866 (by decide) ?_
    refine g_laldn C 15 0 0 rfl rfl rfl (by decide) (by decide) dL_law_867 ?_
    refine g_iload C dL_law_868 0 rfl ?_
    refine g_i2l C dL_law_870 ?_
    refine g_lcmp C dL_law_871 ?_
    refine g_if_eq C 877 dL_law_872 (by decide) (fun _ => ?_) (fun c => absurd law_cmp c)
    refine g_goto C 3840 dL_law_877 (by decide) ?_
    exact g_sub [2, 3, 4, 5, 6] rfl (next ((fX6_changeCapacity β η σ a b).2.1) τ γ ((fX6_changeCapacity β η σ a b).2.2.1) ((fX6_changeCapacity β η σ a b).2.2.2) θ ((fX7_changeCapacity μ a b).2) (vp_updL o 0 v.toInt64) hR2)
  · skip
    refine g_aload_n C dL_law_812 rfl 1 rfl ?_
    refine g_aload_n C dL_law_813 rfl 0 rfl ?_
    refine g_iload C dL_law_814 4 rfl ?_
    refine g_iconst C (v := 1) dL_law_816 (by decide) ?_
    refine g_iadd C dL_law_817 ?_
    refine g_sldv C S (i + 1) (nx_add (rfl : nI i = nI i) (rfl : (1 : Int32) = nI 1)) (by omega) ha9 dL_law_818 ?_
    refine g_aload_n C dL_law_819 rfl 0 rfl ?_
    refine g_iload C dL_law_820 4 rfl ?_
    refine g_iconst C (v := 2) dL_law_822 (by decide) ?_
    refine g_iadd C dL_law_823 ?_
    refine g_sldv C S (i + 2) (nx_add (rfl : nI i = nI i) (rfl : (2 : Int32) = nI 2)) (by omega) hb9 dL_law_824 ?_
    refine g_aload_n C dL_law_825 rfl 3 rfl ?_
    refine g_callSW C hZ hNc (cs1 := [wX ax (bo 0) (tr 0) (ac 0) (ah 0) (at_ 0), wB E bo ((fX6_changeCapacity β η σ a b).2.1), wB E tr τ, wC E ac γ, wH E ah bd ((fX6_changeCapacity β η σ a b).2.2.1), wT E at_ θ, wB E (bd 2) ((fX6_changeCapacity β η σ a b).2.2.2 2), wB E (bd 3) ((fX6_changeCapacity β η σ a b).2.2.2 3), wB E (bd 4) ((fX6_changeCapacity β η σ a b).2.2.2 4), wB E (bd 5) ((fX6_changeCapacity β η σ a b).2.2.2 5), wB E (bd 6) ((fX6_changeCapacity β η σ a b).2.2.2 6), wB E (bd 7) ((fX6_changeCapacity β η σ a b).2.2.2 7), wB E (bd 8) ((fX6_changeCapacity β η σ a b).2.2.2 8), wB E (bd 9) ((fX6_changeCapacity β η σ a b).2.2.2 9), wM E am μ, wO E ao o]) (st1 := [.int 1]) [.ref ax, .int a, .int b, .ref ao] [0, 1, 2, 3, 4, 5, 6, 7, 8, 9, 10, 11, 12, 13, 15] (kL_changeCapacity_0 l E ax bo β tr τ ac γ ah bd η σ at_ θ ao o hlt hvb hvh a b hr) q4_62 q1_0 (by decide +kernel) q4_61 q4_60 rfl ⟨Nat.le_of_ble_eq_true rfl, Nat.le_of_ble_eq_true rfl⟩ ⟨hk, hn⟩ (by decide) rfl rfl rfl rfl (Nat.le_of_ble_eq_true rfl) dL_law_826 rfl ?_
    refine g_istore C (lv1 := [(5, .int 1), (0, .ref b0), (1, .ref ax), (2, .ref (am 0)), (3, .ref ao), (4, .int (nI i))]) dL_law_829 (by decide) rfl ?_
    refine g_aload_n C dL_law_831 rfl 3 rfl ?_
    refine g_aload_n C dL_law_832 rfl 1 rfl ?_
    refine g_iload C dL_law_833 5 rfl ?_
    refine g_iconst C (v := 1) dL_law_835 (by decide) ?_
    refine g_iadd C dL_law_836 ?_
    refine g_sldv C S (i + 1) (nx_add (rfl : nI i = nI i) (rfl : (1 : Int32) = nI 1)) (by omega) ha9 dL_law_837 ?_
    refine g_aload_n C dL_law_838 rfl 1 rfl ?_
    refine g_iload C dL_law_839 5 rfl ?_
    refine g_iconst C (v := 2) dL_law_841 (by decide) ?_
    refine g_iadd C dL_law_842 ?_
    refine g_sldv C S (i + 2) (nx_add (rfl : nI i = nI i) (rfl : (2 : Int32) = nI 2)) (by omega) hb9 dL_law_843 ?_
    refine g_callV C (cs1 := [wX ax (bo 0) (tr 0) (ac 0) (ah 0) (at_ 0), wB E bo ((fX6_changeCapacity β η σ a b).2.1), wB E tr τ, wC E ac γ, wH E ah bd ((fX6_changeCapacity β η σ a b).2.2.1), wT E at_ θ, wB E (bd 2) ((fX6_changeCapacity β η σ a b).2.2.2 2), wB E (bd 3) ((fX6_changeCapacity β η σ a b).2.2.2 3), wB E (bd 4) ((fX6_changeCapacity β η σ a b).2.2.2 4), wB E (bd 5) ((fX6_changeCapacity β η σ a b).2.2.2 5), wB E (bd 6) ((fX6_changeCapacity β η σ a b).2.2.2 6), wB E (bd 7) ((fX6_changeCapacity β η σ a b).2.2.2 7), wB E (bd 8) ((fX6_changeCapacity β η σ a b).2.2.2 8), wB E (bd 9) ((fX6_changeCapacity β η σ a b).2.2.2 9), wM E am ((fX7_changeCapacity μ a b).2), wO E ao o]) (st1 := [.int ((fX7_changeCapacity μ a b).1)]) [.int a, .int b] [14] (kX7_changeCapacity l E am μ hvm a b) caX7_changeCapacity q6_218 rfl ⟨Nat.le_of_ble_eq_true rfl, Nat.le_of_ble_eq_true rfl⟩ ⟨hk, hn⟩ 14 0 rfl rfl rfl rfl (by decide) rfl rfl rfl rfl (Nat.le_of_ble_eq_true rfl) dL_law_844 rfl ?_
    refine g_istore C (lv1 := [(6, .int ((fX7_changeCapacity μ a b).1)), (5, .int 1), (0, .ref b0), (1, .ref ax), (2, .ref (am 0)), (3, .ref ao), (4, .int (nI i))]) dL_law_847 (by decide) rfl ?_
    refine g_aload_n C dL_law_849 rfl 4 rfl ?_
    refine g_callV C (cs1 := [wX ax (bo 0) (tr 0) (ac 0) (ah 0) (at_ 0), wB E bo ((fX6_changeCapacity β η σ a b).2.1), wB E tr τ, wC E ac γ, wH E ah bd ((fX6_changeCapacity β η σ a b).2.2.1), wT E at_ θ, wB E (bd 2) ((fX6_changeCapacity β η σ a b).2.2.2 2), wB E (bd 3) ((fX6_changeCapacity β η σ a b).2.2.2 3), wB E (bd 4) ((fX6_changeCapacity β η σ a b).2.2.2 4), wB E (bd 5) ((fX6_changeCapacity β η σ a b).2.2.2 5), wB E (bd 6) ((fX6_changeCapacity β η σ a b).2.2.2 6), wB E (bd 7) ((fX6_changeCapacity β η σ a b).2.2.2 7), wB E (bd 8) ((fX6_changeCapacity β η σ a b).2.2.2 8), wB E (bd 9) ((fX6_changeCapacity β η σ a b).2.2.2 9), wM E am ((fX7_changeCapacity μ a b).2), wO E ao o]) (st1 := [.int (fX7_thrown ((fX7_changeCapacity μ a b).2))]) [] [14] (kX7_thrown l E am ((fX7_changeCapacity μ a b).2)) caX7_thrown q6_117 rfl ⟨Nat.le_of_ble_eq_true rfl, Nat.le_of_ble_eq_true rfl⟩ ⟨hk, hn⟩ 14 0 rfl rfl rfl rfl (by decide) rfl rfl rfl rfl (Nat.le_of_ble_eq_true rfl) dL_law_850 rfl ?_
    refine g_iload C dL_law_853 1 rfl ?_
    refine g_icmp_eq C 860 dL_law_855 (by decide) (fun _ => ?_) (fun c => absurd ht c)
    refine g_iload C dL_law_860 1 rfl ?_
    refine g_if_ne C 877 dL_law_862 (by decide) (fun _ => ?_) (fun c => absurd c (by decide))
    refine g_goto C 3840 dL_law_877 (by decide) ?_
    exact g_sub [2, 3, 4, 5, 6] rfl (next ((fX6_changeCapacity β η σ a b).2.1) τ γ ((fX6_changeCapacity β η σ a b).2.2.1) ((fX6_changeCapacity β η σ a b).2.2.2) θ ((fX7_changeCapacity μ a b).2) o hR2)
  · skip
    refine g_aload_n C dL_law_812 rfl 1 rfl ?_
    refine g_aload_n C dL_law_813 rfl 0 rfl ?_
    refine g_iload C dL_law_814 4 rfl ?_
    refine g_iconst C (v := 1) dL_law_816 (by decide) ?_
    refine g_iadd C dL_law_817 ?_
    refine g_sldv C S (i + 1) (nx_add (rfl : nI i = nI i) (rfl : (1 : Int32) = nI 1)) (by omega) ha9 dL_law_818 ?_
    refine g_aload_n C dL_law_819 rfl 0 rfl ?_
    refine g_iload C dL_law_820 4 rfl ?_
    refine g_iconst C (v := 2) dL_law_822 (by decide) ?_
    refine g_iadd C dL_law_823 ?_
    refine g_sldv C S (i + 2) (nx_add (rfl : nI i = nI i) (rfl : (2 : Int32) = nI 2)) (by omega) hb9 dL_law_824 ?_
    refine g_aload_n C dL_law_825 rfl 3 rfl ?_
    refine g_callSW C hZ hNc (cs1 := [wX ax (bo 0) (tr 0) (ac 0) (ah 0) (at_ 0), wB E bo ((fX6_changeCapacity β η σ a b).2.1), wB E tr τ, wC E ac γ, wH E ah bd ((fX6_changeCapacity β η σ a b).2.2.1), wT E at_ θ, wB E (bd 2) ((fX6_changeCapacity β η σ a b).2.2.2 2), wB E (bd 3) ((fX6_changeCapacity β η σ a b).2.2.2 3), wB E (bd 4) ((fX6_changeCapacity β η σ a b).2.2.2 4), wB E (bd 5) ((fX6_changeCapacity β η σ a b).2.2.2 5), wB E (bd 6) ((fX6_changeCapacity β η σ a b).2.2.2 6), wB E (bd 7) ((fX6_changeCapacity β η σ a b).2.2.2 7), wB E (bd 8) ((fX6_changeCapacity β η σ a b).2.2.2 8), wB E (bd 9) ((fX6_changeCapacity β η σ a b).2.2.2 9), wM E am μ, wO E ao o]) (st1 := [.int 2]) [.ref ax, .int a, .int b, .ref ao] [0, 1, 2, 3, 4, 5, 6, 7, 8, 9, 10, 11, 12, 13, 15] (kL_changeCapacity_1 l E ax bo β tr τ ac γ ah bd η σ at_ θ ao o hlt hvb hvh a b hr) q4_62 q1_0 (by decide +kernel) q4_61 q4_60 rfl ⟨Nat.le_of_ble_eq_true rfl, Nat.le_of_ble_eq_true rfl⟩ ⟨hk, hn⟩ (by decide) rfl rfl rfl rfl (Nat.le_of_ble_eq_true rfl) dL_law_826 rfl ?_
    refine g_istore C (lv1 := [(5, .int 2), (0, .ref b0), (1, .ref ax), (2, .ref (am 0)), (3, .ref ao), (4, .int (nI i))]) dL_law_829 (by decide) rfl ?_
    refine g_aload_n C dL_law_831 rfl 3 rfl ?_
    refine g_aload_n C dL_law_832 rfl 1 rfl ?_
    refine g_iload C dL_law_833 5 rfl ?_
    refine g_iconst C (v := 1) dL_law_835 (by decide) ?_
    refine g_iadd C dL_law_836 ?_
    refine g_sldv C S (i + 1) (nx_add (rfl : nI i = nI i) (rfl : (1 : Int32) = nI 1)) (by omega) ha9 dL_law_837 ?_
    refine g_aload_n C dL_law_838 rfl 1 rfl ?_
    refine g_iload C dL_law_839 5 rfl ?_
    refine g_iconst C (v := 2) dL_law_841 (by decide) ?_
    refine g_iadd C dL_law_842 ?_
    refine g_sldv C S (i + 2) (nx_add (rfl : nI i = nI i) (rfl : (2 : Int32) = nI 2)) (by omega) hb9 dL_law_843 ?_
    refine g_callV C (cs1 := [wX ax (bo 0) (tr 0) (ac 0) (ah 0) (at_ 0), wB E bo ((fX6_changeCapacity β η σ a b).2.1), wB E tr τ, wC E ac γ, wH E ah bd ((fX6_changeCapacity β η σ a b).2.2.1), wT E at_ θ, wB E (bd 2) ((fX6_changeCapacity β η σ a b).2.2.2 2), wB E (bd 3) ((fX6_changeCapacity β η σ a b).2.2.2 3), wB E (bd 4) ((fX6_changeCapacity β η σ a b).2.2.2 4), wB E (bd 5) ((fX6_changeCapacity β η σ a b).2.2.2 5), wB E (bd 6) ((fX6_changeCapacity β η σ a b).2.2.2 6), wB E (bd 7) ((fX6_changeCapacity β η σ a b).2.2.2 7), wB E (bd 8) ((fX6_changeCapacity β η σ a b).2.2.2 8), wB E (bd 9) ((fX6_changeCapacity β η σ a b).2.2.2 9), wM E am ((fX7_changeCapacity μ a b).2), wO E ao o]) (st1 := [.int ((fX7_changeCapacity μ a b).1)]) [.int a, .int b] [14] (kX7_changeCapacity l E am μ hvm a b) caX7_changeCapacity q6_218 rfl ⟨Nat.le_of_ble_eq_true rfl, Nat.le_of_ble_eq_true rfl⟩ ⟨hk, hn⟩ 14 0 rfl rfl rfl rfl (by decide) rfl rfl rfl rfl (Nat.le_of_ble_eq_true rfl) dL_law_844 rfl ?_
    refine g_istore C (lv1 := [(6, .int ((fX7_changeCapacity μ a b).1)), (5, .int 2), (0, .ref b0), (1, .ref ax), (2, .ref (am 0)), (3, .ref ao), (4, .int (nI i))]) dL_law_847 (by decide) rfl ?_
    refine g_aload_n C dL_law_849 rfl 4 rfl ?_
    refine g_callV C (cs1 := [wX ax (bo 0) (tr 0) (ac 0) (ah 0) (at_ 0), wB E bo ((fX6_changeCapacity β η σ a b).2.1), wB E tr τ, wC E ac γ, wH E ah bd ((fX6_changeCapacity β η σ a b).2.2.1), wT E at_ θ, wB E (bd 2) ((fX6_changeCapacity β η σ a b).2.2.2 2), wB E (bd 3) ((fX6_changeCapacity β η σ a b).2.2.2 3), wB E (bd 4) ((fX6_changeCapacity β η σ a b).2.2.2 4), wB E (bd 5) ((fX6_changeCapacity β η σ a b).2.2.2 5), wB E (bd 6) ((fX6_changeCapacity β η σ a b).2.2.2 6), wB E (bd 7) ((fX6_changeCapacity β η σ a b).2.2.2 7), wB E (bd 8) ((fX6_changeCapacity β η σ a b).2.2.2 8), wB E (bd 9) ((fX6_changeCapacity β η σ a b).2.2.2 9), wM E am ((fX7_changeCapacity μ a b).2), wO E ao o]) (st1 := [.int (fX7_thrown ((fX7_changeCapacity μ a b).2))]) [] [14] (kX7_thrown l E am ((fX7_changeCapacity μ a b).2)) caX7_thrown q6_117 rfl ⟨Nat.le_of_ble_eq_true rfl, Nat.le_of_ble_eq_true rfl⟩ ⟨hk, hn⟩ 14 0 rfl rfl rfl rfl (by decide) rfl rfl rfl rfl (Nat.le_of_ble_eq_true rfl) dL_law_850 rfl ?_
    refine g_iload C dL_law_853 1 rfl ?_
    refine g_icmp_eq C 860 dL_law_855 (by decide) (fun _ => ?_) (fun c => absurd ht c)
    refine g_iload C dL_law_860 1 rfl ?_
    refine g_if_ne C 877 dL_law_862 (by decide) (fun _ => ?_) (fun c => absurd c (by decide))
    refine g_goto C 3840 dL_law_877 (by decide) ?_
    exact g_sub [2, 3, 4, 5, 6] rfl (next ((fX6_changeCapacity β η σ a b).2.1) τ γ ((fX6_changeCapacity β η σ a b).2.2.1) ((fX6_changeCapacity β η σ a b).2.2.2) θ ((fX7_changeCapacity μ a b).2) o hR2)
  · skip
    refine g_aload_n C dL_law_812 rfl 1 rfl ?_
    refine g_aload_n C dL_law_813 rfl 0 rfl ?_
    refine g_iload C dL_law_814 4 rfl ?_
    refine g_iconst C (v := 1) dL_law_816 (by decide) ?_
    refine g_iadd C dL_law_817 ?_
    refine g_sldv C S (i + 1) (nx_add (rfl : nI i = nI i) (rfl : (1 : Int32) = nI 1)) (by omega) ha9 dL_law_818 ?_
    refine g_aload_n C dL_law_819 rfl 0 rfl ?_
    refine g_iload C dL_law_820 4 rfl ?_
    refine g_iconst C (v := 2) dL_law_822 (by decide) ?_
    refine g_iadd C dL_law_823 ?_
    refine g_sldv C S (i + 2) (nx_add (rfl : nI i = nI i) (rfl : (2 : Int32) = nI 2)) (by omega) hb9 dL_law_824 ?_
    refine g_aload_n C dL_law_825 rfl 3 rfl ?_
    refine g_callSW C hZ hNc (cs1 := [wX ax (bo 0) (tr 0) (ac 0) (ah 0) (at_ 0), wB E bo ((fX6_changeCapacity β η σ a b).2.1), wB E tr τ, wC E ac γ, wH E ah bd ((fX6_changeCapacity β η σ a b).2.2.1), wT E at_ θ, wB E (bd 2) ((fX6_changeCapacity β η σ a b).2.2.2 2), wB E (bd 3) ((fX6_changeCapacity β η σ a b).2.2.2 3), wB E (bd 4) ((fX6_changeCapacity β η σ a b).2.2.2 4), wB E (bd 5) ((fX6_changeCapacity β η σ a b).2.2.2 5), wB E (bd 6) ((fX6_changeCapacity β η σ a b).2.2.2 6), wB E (bd 7) ((fX6_changeCapacity β η σ a b).2.2.2 7), wB E (bd 8) ((fX6_changeCapacity β η σ a b).2.2.2 8), wB E (bd 9) ((fX6_changeCapacity β η σ a b).2.2.2 9), wM E am μ, wO E ao o]) (st1 := [.int 3]) [.ref ax, .int a, .int b, .ref ao] [0, 1, 2, 3, 4, 5, 6, 7, 8, 9, 10, 11, 12, 13, 15] (kL_changeCapacity_2 l E ax bo β tr τ ac γ ah bd η σ at_ θ ao o hlt hvb hvh a b hr) q4_62 q1_0 (by decide +kernel) q4_61 q4_60 rfl ⟨Nat.le_of_ble_eq_true rfl, Nat.le_of_ble_eq_true rfl⟩ ⟨hk, hn⟩ (by decide) rfl rfl rfl rfl (Nat.le_of_ble_eq_true rfl) dL_law_826 rfl ?_
    refine g_istore C (lv1 := [(5, .int 3), (0, .ref b0), (1, .ref ax), (2, .ref (am 0)), (3, .ref ao), (4, .int (nI i))]) dL_law_829 (by decide) rfl ?_
    refine g_aload_n C dL_law_831 rfl 3 rfl ?_
    refine g_aload_n C dL_law_832 rfl 1 rfl ?_
    refine g_iload C dL_law_833 5 rfl ?_
    refine g_iconst C (v := 1) dL_law_835 (by decide) ?_
    refine g_iadd C dL_law_836 ?_
    refine g_sldv C S (i + 1) (nx_add (rfl : nI i = nI i) (rfl : (1 : Int32) = nI 1)) (by omega) ha9 dL_law_837 ?_
    refine g_aload_n C dL_law_838 rfl 1 rfl ?_
    refine g_iload C dL_law_839 5 rfl ?_
    refine g_iconst C (v := 2) dL_law_841 (by decide) ?_
    refine g_iadd C dL_law_842 ?_
    refine g_sldv C S (i + 2) (nx_add (rfl : nI i = nI i) (rfl : (2 : Int32) = nI 2)) (by omega) hb9 dL_law_843 ?_
    refine g_callV C (cs1 := [wX ax (bo 0) (tr 0) (ac 0) (ah 0) (at_ 0), wB E bo ((fX6_changeCapacity β η σ a b).2.1), wB E tr τ, wC E ac γ, wH E ah bd ((fX6_changeCapacity β η σ a b).2.2.1), wT E at_ θ, wB E (bd 2) ((fX6_changeCapacity β η σ a b).2.2.2 2), wB E (bd 3) ((fX6_changeCapacity β η σ a b).2.2.2 3), wB E (bd 4) ((fX6_changeCapacity β η σ a b).2.2.2 4), wB E (bd 5) ((fX6_changeCapacity β η σ a b).2.2.2 5), wB E (bd 6) ((fX6_changeCapacity β η σ a b).2.2.2 6), wB E (bd 7) ((fX6_changeCapacity β η σ a b).2.2.2 7), wB E (bd 8) ((fX6_changeCapacity β η σ a b).2.2.2 8), wB E (bd 9) ((fX6_changeCapacity β η σ a b).2.2.2 9), wM E am ((fX7_changeCapacity μ a b).2), wO E ao o]) (st1 := [.int ((fX7_changeCapacity μ a b).1)]) [.int a, .int b] [14] (kX7_changeCapacity l E am μ hvm a b) caX7_changeCapacity q6_218 rfl ⟨Nat.le_of_ble_eq_true rfl, Nat.le_of_ble_eq_true rfl⟩ ⟨hk, hn⟩ 14 0 rfl rfl rfl rfl (by decide) rfl rfl rfl rfl (Nat.le_of_ble_eq_true rfl) dL_law_844 rfl ?_
    refine g_istore C (lv1 := [(6, .int ((fX7_changeCapacity μ a b).1)), (5, .int 3), (0, .ref b0), (1, .ref ax), (2, .ref (am 0)), (3, .ref ao), (4, .int (nI i))]) dL_law_847 (by decide) rfl ?_
    refine g_aload_n C dL_law_849 rfl 4 rfl ?_
    refine g_callV C (cs1 := [wX ax (bo 0) (tr 0) (ac 0) (ah 0) (at_ 0), wB E bo ((fX6_changeCapacity β η σ a b).2.1), wB E tr τ, wC E ac γ, wH E ah bd ((fX6_changeCapacity β η σ a b).2.2.1), wT E at_ θ, wB E (bd 2) ((fX6_changeCapacity β η σ a b).2.2.2 2), wB E (bd 3) ((fX6_changeCapacity β η σ a b).2.2.2 3), wB E (bd 4) ((fX6_changeCapacity β η σ a b).2.2.2 4), wB E (bd 5) ((fX6_changeCapacity β η σ a b).2.2.2 5), wB E (bd 6) ((fX6_changeCapacity β η σ a b).2.2.2 6), wB E (bd 7) ((fX6_changeCapacity β η σ a b).2.2.2 7), wB E (bd 8) ((fX6_changeCapacity β η σ a b).2.2.2 8), wB E (bd 9) ((fX6_changeCapacity β η σ a b).2.2.2 9), wM E am ((fX7_changeCapacity μ a b).2), wO E ao o]) (st1 := [.int (fX7_thrown ((fX7_changeCapacity μ a b).2))]) [] [14] (kX7_thrown l E am ((fX7_changeCapacity μ a b).2)) caX7_thrown q6_117 rfl ⟨Nat.le_of_ble_eq_true rfl, Nat.le_of_ble_eq_true rfl⟩ ⟨hk, hn⟩ 14 0 rfl rfl rfl rfl (by decide) rfl rfl rfl rfl (Nat.le_of_ble_eq_true rfl) dL_law_850 rfl ?_
    refine g_iload C dL_law_853 1 rfl ?_
    refine g_icmp_eq C 860 dL_law_855 (by decide) (fun _ => ?_) (fun c => absurd ht c)
    refine g_iload C dL_law_860 1 rfl ?_
    refine g_if_ne C 877 dL_law_862 (by decide) (fun _ => ?_) (fun c => absurd c (by decide))
    refine g_goto C 3840 dL_law_877 (by decide) ?_
    exact g_sub [2, 3, 4, 5, 6] rfl (next ((fX6_changeCapacity β η σ a b).2.1) τ γ ((fX6_changeCapacity β η σ a b).2.2.1) ((fX6_changeCapacity β η σ a b).2.2.2) θ ((fX7_changeCapacity μ a b).2) o hR2)
set_option maxHeartbeats 4000000 in
set_option maxRecDepth 100000 in
theorem arm_8 {Rl : RlT} (hRv : RlV Rl) (hs : sH_plan Rl)  {X : gX} {l : Launch} {E : gE} (C : gC X cL_law 9 RL (some .boolean) l E room_1) (hZ : gZ X.2.2.2.2.2.2.2.2.2.2.2.1 X.2.2.2.2.1 X.2.2.2.2.1.heap) (hNc : gNc X.2.2.2.2.1) {b0 L0 : Nat} {xs : Nat → Int32} (S : gS X b0 L0 xs) (hlt : l.stackTraces = false) {ax : Nat} {bo tr ac ah : Nat → Nat} {bd : Nat → Nat → Nat} {at_ am : Nat → Nat} {ao k n i : Nat} (hk : k + 3 ≤ 601024) (hn : n + 18 ≤ 7293034) (hi : i + 3 ≤ L0) {β τ γ η : BS} {σ : Nat → BS} {θ μ : BS} {o : Nat → Int64} (hR : Rl β η θ σ μ) (next : ∀ (β τ γ η : BS) (σ : Nat → BS) (θ μ : BS) (o : Nat → Int64), Rl β η θ σ μ → G X (k + 3) (n + 18) [wX ax (bo 0) (tr 0) (ac 0) (ah 0) (at_ 0), wB E bo β, wB E tr τ, wC E ac γ, wH E ah bd η, wT E at_ θ, wB E (bd 2) (σ 2), wB E (bd 3) (σ 3), wB E (bd 4) (σ 4), wB E (bd 5) (σ 5), wB E (bd 6) (σ 6), wB E (bd 7) (σ 7), wB E (bd 8) (σ 8), wB E (bd 9) (σ 9), wM E am μ, wO E ao o] [(0, .ref b0), (1, .ref ax), (2, .ref (am 0)), (3, .ref ao), (4, .int (nI i))] 3840 []) : G X k n [wX ax (bo 0) (tr 0) (ac 0) (ah 0) (at_ 0), wB E bo β, wB E tr τ, wC E ac γ, wH E ah bd η, wT E at_ θ, wB E (bd 2) (σ 2), wB E (bd 3) (σ 3), wB E (bd 4) (σ 4), wB E (bd 5) (σ 5), wB E (bd 6) (σ 6), wB E (bd 7) (σ 7), wB E (bd 8) (σ 8), wB E (bd 9) (σ 9), wM E am μ, wO E ao o] [(0, .ref b0), (1, .ref ax), (2, .ref (am 0)), (3, .ref ao), (4, .int (nI i))] 880 [] := by
  obtain ⟨hvb, hvh, hvt, hvm, ha⟩ := hRv β η θ σ μ hR
  obtain ⟨a, ha9⟩ : ∃ a, xs (i + 1) = a := ⟨_, rfl⟩
  obtain ⟨b, hb9⟩ : ∃ b, xs (i + 2) = b := ⟨_, rfl⟩
  obtain ⟨hag, hR2⟩ := hs β τ γ η σ θ μ a b hR
  rcases hag with ⟨hr, ht⟩ | ⟨hr, ht⟩ | ⟨hr, ht⟩
  · skip
    refine g_aload_n C dL_law_880 rfl 1 rfl ?_
    refine g_aload_n C dL_law_881 rfl 0 rfl ?_
    refine g_iload C dL_law_882 4 rfl ?_
    refine g_iconst C (v := 1) dL_law_884 (by decide) ?_
    refine g_iadd C dL_law_885 ?_
    refine g_sldv C S (i + 1) (nx_add (rfl : nI i = nI i) (rfl : (1 : Int32) = nI 1)) (by omega) ha9 dL_law_886 ?_
    refine g_aload_n C dL_law_887 rfl 0 rfl ?_
    refine g_iload C dL_law_888 4 rfl ?_
    refine g_iconst C (v := 2) dL_law_890 (by decide) ?_
    refine g_iadd C dL_law_891 ?_
    refine g_sldv C S (i + 2) (nx_add (rfl : nI i = nI i) (rfl : (2 : Int32) = nI 2)) (by omega) hb9 dL_law_892 ?_
    refine g_aload_n C dL_law_893 rfl 3 rfl ?_
    refine g_callSW C hZ hNc (cs1 := [wX ax (bo 0) (tr 0) (ac 0) (ah 0) (at_ 0), wB E bo ((fX6_plan β η σ a b).2.1), wB E tr τ, wC E ac γ, wH E ah bd ((fX6_plan β η σ a b).2.2.1), wT E at_ θ, wB E (bd 2) ((fX6_plan β η σ a b).2.2.2 2), wB E (bd 3) ((fX6_plan β η σ a b).2.2.2 3), wB E (bd 4) ((fX6_plan β η σ a b).2.2.2 4), wB E (bd 5) ((fX6_plan β η σ a b).2.2.2 5), wB E (bd 6) ((fX6_plan β η σ a b).2.2.2 6), wB E (bd 7) ((fX6_plan β η σ a b).2.2.2 7), wB E (bd 8) ((fX6_plan β η σ a b).2.2.2 8), wB E (bd 9) ((fX6_plan β η σ a b).2.2.2 9), wM E am μ, wO E ao (vp_updL o 0 v.toInt64)]) (st1 := [.int 0]) [.ref ax, .int a, .int b, .ref ao] [0, 1, 2, 3, 4, 5, 6, 7, 8, 9, 10, 11, 12, 13, 15] (kL_plan_r l E ax bo β tr τ ac γ ah bd η σ at_ θ ao o hlt hvb hvh a b ((fX7_plan μ a b).1) hr) q4_73 q1_0 (by decide +kernel) q4_72 q4_71 rfl ⟨Nat.le_of_ble_eq_true rfl, Nat.le_of_ble_eq_true rfl⟩ ⟨hk, hn⟩ (by decide) rfl rfl rfl rfl (Nat.le_of_ble_eq_true rfl) dL_law_894 rfl ?_
    refine g_istore C (lv1 := [(5, .int 0), (0, .ref b0), (1, .ref ax), (2, .ref (am 0)), (3, .ref ao), (4, .int (nI i))]) dL_law_897 (by decide) rfl ?_
    refine g_aload_n C dL_law_899 rfl 3 rfl ?_
    refine g_aload_n C dL_law_900 rfl 1 rfl ?_
    refine g_iload C dL_law_901 5 rfl ?_
    refine g_iconst C (v := 1) dL_law_903 (by decide) ?_
    refine g_iadd C dL_law_904 ?_
    refine g_sldv C S (i + 1) (nx_add (rfl : nI i = nI i) (rfl : (1 : Int32) = nI 1)) (by omega) ha9 dL_law_905 ?_
    refine g_aload_n C dL_law_906 rfl 1 rfl ?_
    refine g_iload C dL_law_907 5 rfl ?_
    refine g_iconst C (v := 2) dL_law_909 (by decide) ?_
    refine g_iadd C dL_law_910 ?_
    refine g_sldv C S (i + 2) (nx_add (rfl : nI i = nI i) (rfl : (2 : Int32) = nI 2)) (by omega) hb9 dL_law_911 ?_
    refine g_callV C (cs1 := [wX ax (bo 0) (tr 0) (ac 0) (ah 0) (at_ 0), wB E bo ((fX6_plan β η σ a b).2.1), wB E tr τ, wC E ac γ, wH E ah bd ((fX6_plan β η σ a b).2.2.1), wT E at_ θ, wB E (bd 2) ((fX6_plan β η σ a b).2.2.2 2), wB E (bd 3) ((fX6_plan β η σ a b).2.2.2 3), wB E (bd 4) ((fX6_plan β η σ a b).2.2.2 4), wB E (bd 5) ((fX6_plan β η σ a b).2.2.2 5), wB E (bd 6) ((fX6_plan β η σ a b).2.2.2 6), wB E (bd 7) ((fX6_plan β η σ a b).2.2.2 7), wB E (bd 8) ((fX6_plan β η σ a b).2.2.2 8), wB E (bd 9) ((fX6_plan β η σ a b).2.2.2 9), wM E am ((fX7_plan μ a b).2), wO E ao (vp_updL o 0 v.toInt64)]) (st1 := [.int ((fX7_plan μ a b).1)]) [.int a, .int b] [14] (kX7_plan l E am μ hvm a b) caX7_plan q6_222 rfl ⟨Nat.le_of_ble_eq_true rfl, Nat.le_of_ble_eq_true rfl⟩ ⟨hk, hn⟩ 14 0 rfl rfl rfl rfl (by decide) rfl rfl rfl rfl (Nat.le_of_ble_eq_true rfl) dL_law_912 rfl ?_
    refine g_istore C (lv1 := [(6, .int ((fX7_plan μ a b).1)), (5, .int 0), (0, .ref b0), (1, .ref ax), (2, .ref (am 0)), (3, .ref ao), (4, .int (nI i))]) dL_law_915 (by decide) rfl ?_
    refine g_aload_n C dL_law_917 rfl 4 rfl ?_
    refine g_callV C (cs1 := [wX ax (bo 0) (tr 0) (ac 0) (ah 0) (at_ 0), wB E bo ((fX6_plan β η σ a b).2.1), wB E tr τ, wC E ac γ, wH E ah bd ((fX6_plan β η σ a b).2.2.1), wT E at_ θ, wB E (bd 2) ((fX6_plan β η σ a b).2.2.2 2), wB E (bd 3) ((fX6_plan β η σ a b).2.2.2 3), wB E (bd 4) ((fX6_plan β η σ a b).2.2.2 4), wB E (bd 5) ((fX6_plan β η σ a b).2.2.2 5), wB E (bd 6) ((fX6_plan β η σ a b).2.2.2 6), wB E (bd 7) ((fX6_plan β η σ a b).2.2.2 7), wB E (bd 8) ((fX6_plan β η σ a b).2.2.2 8), wB E (bd 9) ((fX6_plan β η σ a b).2.2.2 9), wM E am ((fX7_plan μ a b).2), wO E ao (vp_updL o 0 v.toInt64)]) (st1 := [.int (fX7_thrown ((fX7_plan μ a b).2))]) [] [14] (kX7_thrown l E am ((fX7_plan μ a b).2)) caX7_thrown q6_117 rfl ⟨Nat.le_of_ble_eq_true rfl, Nat.le_of_ble_eq_true rfl⟩ ⟨hk, hn⟩ 14 0 rfl rfl rfl rfl (by decide) rfl rfl rfl rfl (Nat.le_of_ble_eq_true rfl) dL_law_918 rfl ?_
    refine g_iload C dL_law_921 1 rfl ?_
    refine g_icmp_eq C 928 dL_law_923 (by decide) (fun _ => ?_) (fun c => absurd ht c)
    refine g_iload C dL_law_928 1 rfl ?_
    refine g_if_ne C 945 dL_law_930 (by decide) (fun c => absurd rfl c) (fun _ => ?_)
    refine g_aload_n C dL_law_933 rfl 5 rfl ?_
    refine g_iconst C (v := 0) dL_law_934 (by decide) ?_
    refine g_laldn C 15 0 0 rfl rfl rfl (by decide) (by decide) dL_law_935 ?_
    refine g_iload C dL_law_936 0 rfl ?_
    refine g_i2l C dL_law_938 ?_
    refine g_lcmp C dL_law_939 ?_
    refine g_if_eq C 945 dL_law_940 (by decide) (fun _ => ?_) (fun c => absurd law_cmp c)
    refine g_goto C 3840 dL_law_945 (by decide) ?_
    exact g_sub [2, 3, 4, 5, 6] rfl (next ((fX6_plan β η σ a b).2.1) τ γ ((fX6_plan β η σ a b).2.2.1) ((fX6_plan β η σ a b).2.2.2) θ ((fX7_plan μ a b).2) (vp_updL o 0 v.toInt64) hR2)
  · skip
    refine g_aload_n C dL_law_880 rfl 1 rfl ?_
    refine g_aload_n C dL_law_881 rfl 0 rfl ?_
    refine g_iload C dL_law_882 4 rfl ?_
    refine g_iconst C (v := 1) dL_law_884 (by decide) ?_
    refine g_iadd C dL_law_885 ?_
    refine g_sldv C S (i + 1) (nx_add (rfl : nI i = nI i) (rfl : (1 : Int32) = nI 1)) (by omega) ha9 dL_law_886 ?_
    refine g_aload_n C dL_law_887 rfl 0 rfl ?_
    refine g_iload C dL_law_888 4 rfl ?_
    refine g_iconst C (v := 2) dL_law_890 (by decide) ?_
    refine g_iadd C dL_law_891 ?_
    refine g_sldv C S (i + 2) (nx_add (rfl : nI i = nI i) (rfl : (2 : Int32) = nI 2)) (by omega) hb9 dL_law_892 ?_
    refine g_aload_n C dL_law_893 rfl 3 rfl ?_
    refine g_callSW C hZ hNc (cs1 := [wX ax (bo 0) (tr 0) (ac 0) (ah 0) (at_ 0), wB E bo ((fX6_plan β η σ a b).2.1), wB E tr τ, wC E ac γ, wH E ah bd ((fX6_plan β η σ a b).2.2.1), wT E at_ θ, wB E (bd 2) ((fX6_plan β η σ a b).2.2.2 2), wB E (bd 3) ((fX6_plan β η σ a b).2.2.2 3), wB E (bd 4) ((fX6_plan β η σ a b).2.2.2 4), wB E (bd 5) ((fX6_plan β η σ a b).2.2.2 5), wB E (bd 6) ((fX6_plan β η σ a b).2.2.2 6), wB E (bd 7) ((fX6_plan β η σ a b).2.2.2 7), wB E (bd 8) ((fX6_plan β η σ a b).2.2.2 8), wB E (bd 9) ((fX6_plan β η σ a b).2.2.2 9), wM E am μ, wO E ao o]) (st1 := [.int 1]) [.ref ax, .int a, .int b, .ref ao] [0, 1, 2, 3, 4, 5, 6, 7, 8, 9, 10, 11, 12, 13, 15] (kL_plan_0 l E ax bo β tr τ ac γ ah bd η σ at_ θ ao o hlt hvb hvh a b hr) q4_73 q1_0 (by decide +kernel) q4_72 q4_71 rfl ⟨Nat.le_of_ble_eq_true rfl, Nat.le_of_ble_eq_true rfl⟩ ⟨hk, hn⟩ (by decide) rfl rfl rfl rfl (Nat.le_of_ble_eq_true rfl) dL_law_894 rfl ?_
    refine g_istore C (lv1 := [(5, .int 1), (0, .ref b0), (1, .ref ax), (2, .ref (am 0)), (3, .ref ao), (4, .int (nI i))]) dL_law_897 (by decide) rfl ?_
    refine g_aload_n C dL_law_899 rfl 3 rfl ?_
    refine g_aload_n C dL_law_900 rfl 1 rfl ?_
    refine g_iload C dL_law_901 5 rfl ?_
    refine g_iconst C (v := 1) dL_law_903 (by decide) ?_
    refine g_iadd C dL_law_904 ?_
    refine g_sldv C S (i + 1) (nx_add (rfl : nI i = nI i) (rfl : (1 : Int32) = nI 1)) (by omega) ha9 dL_law_905 ?_
    refine g_aload_n C dL_law_906 rfl 1 rfl ?_
    refine g_iload C dL_law_907 5 rfl ?_
    refine g_iconst C (v := 2) dL_law_909 (by decide) ?_
    refine g_iadd C dL_law_910 ?_
    refine g_sldv C S (i + 2) (nx_add (rfl : nI i = nI i) (rfl : (2 : Int32) = nI 2)) (by omega) hb9 dL_law_911 ?_
    refine g_callV C (cs1 := [wX ax (bo 0) (tr 0) (ac 0) (ah 0) (at_ 0), wB E bo ((fX6_plan β η σ a b).2.1), wB E tr τ, wC E ac γ, wH E ah bd ((fX6_plan β η σ a b).2.2.1), wT E at_ θ, wB E (bd 2) ((fX6_plan β η σ a b).2.2.2 2), wB E (bd 3) ((fX6_plan β η σ a b).2.2.2 3), wB E (bd 4) ((fX6_plan β η σ a b).2.2.2 4), wB E (bd 5) ((fX6_plan β η σ a b).2.2.2 5), wB E (bd 6) ((fX6_plan β η σ a b).2.2.2 6), wB E (bd 7) ((fX6_plan β η σ a b).2.2.2 7), wB E (bd 8) ((fX6_plan β η σ a b).2.2.2 8), wB E (bd 9) ((fX6_plan β η σ a b).2.2.2 9), wM E am ((fX7_plan μ a b).2), wO E ao o]) (st1 := [.int ((fX7_plan μ a b).1)]) [.int a, .int b] [14] (kX7_plan l E am μ hvm a b) caX7_plan q6_222 rfl ⟨Nat.le_of_ble_eq_true rfl, Nat.le_of_ble_eq_true rfl⟩ ⟨hk, hn⟩ 14 0 rfl rfl rfl rfl (by decide) rfl rfl rfl rfl (Nat.le_of_ble_eq_true rfl) dL_law_912 rfl ?_
    refine g_istore C (lv1 := [(6, .int ((fX7_plan μ a b).1)), (5, .int 1), (0, .ref b0), (1, .ref ax), (2, .ref (am 0)), (3, .ref ao), (4, .int (nI i))]) dL_law_915 (by decide) rfl ?_
    refine g_aload_n C dL_law_917 rfl 4 rfl ?_
    refine g_callV C (cs1 := [wX ax (bo 0) (tr 0) (ac 0) (ah 0) (at_ 0), wB E bo ((fX6_plan β η σ a b).2.1), wB E tr τ, wC E ac γ, wH E ah bd ((fX6_plan β η σ a b).2.2.1), wT E at_ θ, wB E (bd 2) ((fX6_plan β η σ a b).2.2.2 2), wB E (bd 3) ((fX6_plan β η σ a b).2.2.2 3), wB E (bd 4) ((fX6_plan β η σ a b).2.2.2 4), wB E (bd 5) ((fX6_plan β η σ a b).2.2.2 5), wB E (bd 6) ((fX6_plan β η σ a b).2.2.2 6), wB E (bd 7) ((fX6_plan β η σ a b).2.2.2 7), wB E (bd 8) ((fX6_plan β η σ a b).2.2.2 8), wB E (bd 9) ((fX6_plan β η σ a b).2.2.2 9), wM E am ((fX7_plan μ a b).2), wO E ao o]) (st1 := [.int (fX7_thrown ((fX7_plan μ a b).2))]) [] [14] (kX7_thrown l E am ((fX7_plan μ a b).2)) caX7_thrown q6_117 rfl ⟨Nat.le_of_ble_eq_true rfl, Nat.le_of_ble_eq_true rfl⟩ ⟨hk, hn⟩ 14 0 rfl rfl rfl rfl (by decide) rfl rfl rfl rfl (Nat.le_of_ble_eq_true rfl) dL_law_918 rfl ?_
    refine g_iload C dL_law_921 1 rfl ?_
    refine g_icmp_eq C 928 dL_law_923 (by decide) (fun _ => ?_) (fun c => absurd ht c)
    refine g_iload C dL_law_928 1 rfl ?_
    refine g_if_ne C 945 dL_law_930 (by decide) (fun _ => ?_) (fun c => absurd c (by decide))
    refine g_goto C 3840 dL_law_945 (by decide) ?_
    exact g_sub [2, 3, 4, 5, 6] rfl (next ((fX6_plan β η σ a b).2.1) τ γ ((fX6_plan β η σ a b).2.2.1) ((fX6_plan β η σ a b).2.2.2) θ ((fX7_plan μ a b).2) o hR2)
  · skip
    refine g_aload_n C dL_law_880 rfl 1 rfl ?_
    refine g_aload_n C dL_law_881 rfl 0 rfl ?_
    refine g_iload C dL_law_882 4 rfl ?_
    refine g_iconst C (v := 1) dL_law_884 (by decide) ?_
    refine g_iadd C dL_law_885 ?_
    refine g_sldv C S (i + 1) (nx_add (rfl : nI i = nI i) (rfl : (1 : Int32) = nI 1)) (by omega) ha9 dL_law_886 ?_
    refine g_aload_n C dL_law_887 rfl 0 rfl ?_
    refine g_iload C dL_law_888 4 rfl ?_
    refine g_iconst C (v := 2) dL_law_890 (by decide) ?_
    refine g_iadd C dL_law_891 ?_
    refine g_sldv C S (i + 2) (nx_add (rfl : nI i = nI i) (rfl : (2 : Int32) = nI 2)) (by omega) hb9 dL_law_892 ?_
    refine g_aload_n C dL_law_893 rfl 3 rfl ?_
    refine g_callSW C hZ hNc (cs1 := [wX ax (bo 0) (tr 0) (ac 0) (ah 0) (at_ 0), wB E bo ((fX6_plan β η σ a b).2.1), wB E tr τ, wC E ac γ, wH E ah bd ((fX6_plan β η σ a b).2.2.1), wT E at_ θ, wB E (bd 2) ((fX6_plan β η σ a b).2.2.2 2), wB E (bd 3) ((fX6_plan β η σ a b).2.2.2 3), wB E (bd 4) ((fX6_plan β η σ a b).2.2.2 4), wB E (bd 5) ((fX6_plan β η σ a b).2.2.2 5), wB E (bd 6) ((fX6_plan β η σ a b).2.2.2 6), wB E (bd 7) ((fX6_plan β η σ a b).2.2.2 7), wB E (bd 8) ((fX6_plan β η σ a b).2.2.2 8), wB E (bd 9) ((fX6_plan β η σ a b).2.2.2 9), wM E am μ, wO E ao o]) (st1 := [.int 2]) [.ref ax, .int a, .int b, .ref ao] [0, 1, 2, 3, 4, 5, 6, 7, 8, 9, 10, 11, 12, 13, 15] (kL_plan_1 l E ax bo β tr τ ac γ ah bd η σ at_ θ ao o hlt hvb hvh a b hr) q4_73 q1_0 (by decide +kernel) q4_72 q4_71 rfl ⟨Nat.le_of_ble_eq_true rfl, Nat.le_of_ble_eq_true rfl⟩ ⟨hk, hn⟩ (by decide) rfl rfl rfl rfl (Nat.le_of_ble_eq_true rfl) dL_law_894 rfl ?_
    refine g_istore C (lv1 := [(5, .int 2), (0, .ref b0), (1, .ref ax), (2, .ref (am 0)), (3, .ref ao), (4, .int (nI i))]) dL_law_897 (by decide) rfl ?_
    refine g_aload_n C dL_law_899 rfl 3 rfl ?_
    refine g_aload_n C dL_law_900 rfl 1 rfl ?_
    refine g_iload C dL_law_901 5 rfl ?_
    refine g_iconst C (v := 1) dL_law_903 (by decide) ?_
    refine g_iadd C dL_law_904 ?_
    refine g_sldv C S (i + 1) (nx_add (rfl : nI i = nI i) (rfl : (1 : Int32) = nI 1)) (by omega) ha9 dL_law_905 ?_
    refine g_aload_n C dL_law_906 rfl 1 rfl ?_
    refine g_iload C dL_law_907 5 rfl ?_
    refine g_iconst C (v := 2) dL_law_909 (by decide) ?_
    refine g_iadd C dL_law_910 ?_
    refine g_sldv C S (i + 2) (nx_add (rfl : nI i = nI i) (rfl : (2 : Int32) = nI 2)) (by omega) hb9 dL_law_911 ?_
    refine g_callV C (cs1 := [wX ax (bo 0) (tr 0) (ac 0) (ah 0) (at_ 0), wB E bo ((fX6_plan β η σ a b).2.1), wB E tr τ, wC E ac γ, wH E ah bd ((fX6_plan β η σ a b).2.2.1), wT E at_ θ, wB E (bd 2) ((fX6_plan β η σ a b).2.2.2 2), wB E (bd 3) ((fX6_plan β η σ a b).2.2.2 3), wB E (bd 4) ((fX6_plan β η σ a b).2.2.2 4), wB E (bd 5) ((fX6_plan β η σ a b).2.2.2 5), wB E (bd 6) ((fX6_plan β η σ a b).2.2.2 6), wB E (bd 7) ((fX6_plan β η σ a b).2.2.2 7), wB E (bd 8) ((fX6_plan β η σ a b).2.2.2 8), wB E (bd 9) ((fX6_plan β η σ a b).2.2.2 9), wM E am ((fX7_plan μ a b).2), wO E ao o]) (st1 := [.int ((fX7_plan μ a b).1)]) [.int a, .int b] [14] (kX7_plan l E am μ hvm a b) caX7_plan q6_222 rfl ⟨Nat.le_of_ble_eq_true rfl, Nat.le_of_ble_eq_true rfl⟩ ⟨hk, hn⟩ 14 0 rfl rfl rfl rfl (by decide) rfl rfl rfl rfl (Nat.le_of_ble_eq_true rfl) dL_law_912 rfl ?_
    refine g_istore C (lv1 := [(6, .int ((fX7_plan μ a b).1)), (5, .int 2), (0, .ref b0), (1, .ref ax), (2, .ref (am 0)), (3, .ref ao), (4, .int (nI i))]) dL_law_915 (by decide) rfl ?_
    refine g_aload_n C dL_law_917 rfl 4 rfl ?_
    refine g_callV C (cs1 := [wX ax (bo 0) (tr 0) (ac 0) (ah 0) (at_ 0), wB E bo ((fX6_plan β η σ a b).2.1), wB E tr τ, wC E ac γ, wH E ah bd ((fX6_plan β η σ a b).2.2.1), wT E at_ θ, wB E (bd 2) ((fX6_plan β η σ a b).2.2.2 2), wB E (bd 3) ((fX6_plan β η σ a b).2.2.2 3), wB E (bd 4) ((fX6_plan β η σ a b).2.2.2 4), wB E (bd 5) ((fX6_plan β η σ a b).2.2.2 5), wB E (bd 6) ((fX6_plan β η σ a b).2.2.2 6), wB E (bd 7) ((fX6_plan β η σ a b).2.2.2 7), wB E (bd 8) ((fX6_plan β η σ a b).2.2.2 8), wB E (bd 9) ((fX6_plan β η σ a b).2.2.2 9), wM E am ((fX7_plan μ a b).2), wO E ao o]) (st1 := [.int (fX7_thrown ((fX7_plan μ a b).2))]) [] [14] (kX7_thrown l E am ((fX7_plan μ a b).2)) caX7_thrown q6_117 rfl ⟨Nat.le_of_ble_eq_true rfl, Nat.le_of_ble_eq_true rfl⟩ ⟨hk, hn⟩ 14 0 rfl rfl rfl rfl (by decide) rfl rfl rfl rfl (Nat.le_of_ble_eq_true rfl) dL_law_918 rfl ?_
    refine g_iload C dL_law_921 1 rfl ?_
    refine g_icmp_eq C 928 dL_law_923 (by decide) (fun _ => ?_) (fun c => absurd ht c)
    refine g_iload C dL_law_928 1 rfl ?_
    refine g_if_ne C 945 dL_law_930 (by decide) (fun _ => ?_) (fun c => absurd c (by decide))
    refine g_goto C 3840 dL_law_945 (by decide) ?_
    exact g_sub [2, 3, 4, 5, 6] rfl (next ((fX6_plan β η σ a b).2.1) τ γ ((fX6_plan β η σ a b).2.2.1) ((fX6_plan β η σ a b).2.2.2) θ ((fX7_plan μ a b).2) o hR2)
set_option maxHeartbeats 4000000 in
set_option maxRecDepth 100000 in
theorem arm_9 {Rl : RlT} (hRv : RlV Rl) (hs : sH_unplan Rl)  {X : gX} {l : Launch} {E : gE} (C : gC X cL_law 9 RL (some .boolean) l E room_1) (hZ : gZ X.2.2.2.2.2.2.2.2.2.2.2.1 X.2.2.2.2.1 X.2.2.2.2.1.heap) (hNc : gNc X.2.2.2.2.1) {b0 L0 : Nat} {xs : Nat → Int32} (S : gS X b0 L0 xs) (hlt : l.stackTraces = false) {ax : Nat} {bo tr ac ah : Nat → Nat} {bd : Nat → Nat → Nat} {at_ am : Nat → Nat} {ao k n i : Nat} (hk : k + 3 ≤ 601024) (hn : n + 18 ≤ 7293034) (hi : i + 3 ≤ L0) {β τ γ η : BS} {σ : Nat → BS} {θ μ : BS} {o : Nat → Int64} (hR : Rl β η θ σ μ) (next : ∀ (β τ γ η : BS) (σ : Nat → BS) (θ μ : BS) (o : Nat → Int64), Rl β η θ σ μ → G X (k + 3) (n + 18) [wX ax (bo 0) (tr 0) (ac 0) (ah 0) (at_ 0), wB E bo β, wB E tr τ, wC E ac γ, wH E ah bd η, wT E at_ θ, wB E (bd 2) (σ 2), wB E (bd 3) (σ 3), wB E (bd 4) (σ 4), wB E (bd 5) (σ 5), wB E (bd 6) (σ 6), wB E (bd 7) (σ 7), wB E (bd 8) (σ 8), wB E (bd 9) (σ 9), wM E am μ, wO E ao o] [(0, .ref b0), (1, .ref ax), (2, .ref (am 0)), (3, .ref ao), (4, .int (nI i))] 3840 []) : G X k n [wX ax (bo 0) (tr 0) (ac 0) (ah 0) (at_ 0), wB E bo β, wB E tr τ, wC E ac γ, wH E ah bd η, wT E at_ θ, wB E (bd 2) (σ 2), wB E (bd 3) (σ 3), wB E (bd 4) (σ 4), wB E (bd 5) (σ 5), wB E (bd 6) (σ 6), wB E (bd 7) (σ 7), wB E (bd 8) (σ 8), wB E (bd 9) (σ 9), wM E am μ, wO E ao o] [(0, .ref b0), (1, .ref ax), (2, .ref (am 0)), (3, .ref ao), (4, .int (nI i))] 948 [] := by
  obtain ⟨hvb, hvh, hvt, hvm, ha⟩ := hRv β η θ σ μ hR
  obtain ⟨a, ha9⟩ : ∃ a, xs (i + 1) = a := ⟨_, rfl⟩
  obtain ⟨hag, hR2⟩ := hs β τ γ η σ θ μ a hR
  rcases hag with ⟨hr, ht⟩ | ⟨hr, ht⟩ | ⟨hr, ht⟩
  · skip
    refine g_aload_n C dL_law_948 rfl 1 rfl ?_
    refine g_aload_n C dL_law_949 rfl 0 rfl ?_
    refine g_iload C dL_law_950 4 rfl ?_
    refine g_iconst C (v := 1) dL_law_952 (by decide) ?_
    refine g_iadd C dL_law_953 ?_
    refine g_sldv C S (i + 1) (nx_add (rfl : nI i = nI i) (rfl : (1 : Int32) = nI 1)) (by omega) ha9 dL_law_954 ?_
    refine g_aload_n C dL_law_955 rfl 3 rfl ?_
    refine g_callSW C hZ hNc (cs1 := [wX ax (bo 0) (tr 0) (ac 0) (ah 0) (at_ 0), wB E bo ((fX6_unplan β η σ a).2.1), wB E tr τ, wC E ac γ, wH E ah bd ((fX6_unplan β η σ a).2.2.1), wT E at_ θ, wB E (bd 2) ((fX6_unplan β η σ a).2.2.2 2), wB E (bd 3) ((fX6_unplan β η σ a).2.2.2 3), wB E (bd 4) ((fX6_unplan β η σ a).2.2.2 4), wB E (bd 5) ((fX6_unplan β η σ a).2.2.2 5), wB E (bd 6) ((fX6_unplan β η σ a).2.2.2 6), wB E (bd 7) ((fX6_unplan β η σ a).2.2.2 7), wB E (bd 8) ((fX6_unplan β η σ a).2.2.2 8), wB E (bd 9) ((fX6_unplan β η σ a).2.2.2 9), wM E am μ, wO E ao (vp_updL o 0 v.toInt64)]) (st1 := [.int 0]) [.ref ax, .int a, .ref ao] [0, 1, 2, 3, 4, 5, 6, 7, 8, 9, 10, 11, 12, 13, 15] (kL_unplan_r l E ax bo β tr τ ac γ ah bd η σ at_ θ ao o hlt hvb hvh a ((fX7_unplan μ a).1) hr) q4_84 q1_0 (by decide +kernel) q4_83 q4_82 rfl ⟨Nat.le_of_ble_eq_true rfl, Nat.le_of_ble_eq_true rfl⟩ ⟨hk, hn⟩ (by decide) rfl rfl rfl rfl (Nat.le_of_ble_eq_true rfl) dL_law_956 rfl ?_
    refine g_istore C (lv1 := [(5, .int 0), (0, .ref b0), (1, .ref ax), (2, .ref (am 0)), (3, .ref ao), (4, .int (nI i))]) dL_law_959 (by decide) rfl ?_
    refine g_aload_n C dL_law_961 rfl 3 rfl ?_
    refine g_aload_n C dL_law_962 rfl 1 rfl ?_
    refine g_iload C dL_law_963 5 rfl ?_
    refine g_iconst C (v := 1) dL_law_965 (by decide) ?_
    refine g_iadd C dL_law_966 ?_
    refine g_sldv C S (i + 1) (nx_add (rfl : nI i = nI i) (rfl : (1 : Int32) = nI 1)) (by omega) ha9 dL_law_967 ?_
    refine g_callV C (cs1 := [wX ax (bo 0) (tr 0) (ac 0) (ah 0) (at_ 0), wB E bo ((fX6_unplan β η σ a).2.1), wB E tr τ, wC E ac γ, wH E ah bd ((fX6_unplan β η σ a).2.2.1), wT E at_ θ, wB E (bd 2) ((fX6_unplan β η σ a).2.2.2 2), wB E (bd 3) ((fX6_unplan β η σ a).2.2.2 3), wB E (bd 4) ((fX6_unplan β η σ a).2.2.2 4), wB E (bd 5) ((fX6_unplan β η σ a).2.2.2 5), wB E (bd 6) ((fX6_unplan β η σ a).2.2.2 6), wB E (bd 7) ((fX6_unplan β η σ a).2.2.2 7), wB E (bd 8) ((fX6_unplan β η σ a).2.2.2 8), wB E (bd 9) ((fX6_unplan β η σ a).2.2.2 9), wM E am ((fX7_unplan μ a).2), wO E ao (vp_updL o 0 v.toInt64)]) (st1 := [.int ((fX7_unplan μ a).1)]) [.int a] [14] (kX7_unplan l E am μ hvm a) caX7_unplan q6_233 rfl ⟨Nat.le_of_ble_eq_true rfl, Nat.le_of_ble_eq_true rfl⟩ ⟨hk, hn⟩ 14 0 rfl rfl rfl rfl (by decide) rfl rfl rfl rfl (Nat.le_of_ble_eq_true rfl) dL_law_968 rfl ?_
    refine g_istore C (lv1 := [(6, .int ((fX7_unplan μ a).1)), (5, .int 0), (0, .ref b0), (1, .ref ax), (2, .ref (am 0)), (3, .ref ao), (4, .int (nI i))]) dL_law_971 (by decide) rfl ?_
    refine g_aload_n C dL_law_973 rfl 4 rfl ?_
    refine g_callV C (cs1 := [wX ax (bo 0) (tr 0) (ac 0) (ah 0) (at_ 0), wB E bo ((fX6_unplan β η σ a).2.1), wB E tr τ, wC E ac γ, wH E ah bd ((fX6_unplan β η σ a).2.2.1), wT E at_ θ, wB E (bd 2) ((fX6_unplan β η σ a).2.2.2 2), wB E (bd 3) ((fX6_unplan β η σ a).2.2.2 3), wB E (bd 4) ((fX6_unplan β η σ a).2.2.2 4), wB E (bd 5) ((fX6_unplan β η σ a).2.2.2 5), wB E (bd 6) ((fX6_unplan β η σ a).2.2.2 6), wB E (bd 7) ((fX6_unplan β η σ a).2.2.2 7), wB E (bd 8) ((fX6_unplan β η σ a).2.2.2 8), wB E (bd 9) ((fX6_unplan β η σ a).2.2.2 9), wM E am ((fX7_unplan μ a).2), wO E ao (vp_updL o 0 v.toInt64)]) (st1 := [.int (fX7_thrown ((fX7_unplan μ a).2))]) [] [14] (kX7_thrown l E am ((fX7_unplan μ a).2)) caX7_thrown q6_117 rfl ⟨Nat.le_of_ble_eq_true rfl, Nat.le_of_ble_eq_true rfl⟩ ⟨hk, hn⟩ 14 0 rfl rfl rfl rfl (by decide) rfl rfl rfl rfl (Nat.le_of_ble_eq_true rfl) dL_law_974 rfl ?_
    refine g_iload C dL_law_977 1 rfl ?_
    refine g_icmp_eq C 984 dL_law_979 (by decide) (fun _ => ?_) (fun c => absurd ht c)
    refine g_iload C dL_law_984 1 rfl ?_
    refine g_if_ne C 1001 dL_law_986 (by decide) (fun c => absurd rfl c) (fun _ => ?_)
    refine g_aload_n C dL_law_989 rfl 5 rfl ?_
    refine g_iconst C (v := 0) dL_law_990 (by decide) ?_
    refine g_laldn C 15 0 0 rfl rfl rfl (by decide) (by decide) dL_law_991 ?_
    refine g_iload C dL_law_992 0 rfl ?_
    refine g_i2l C dL_law_994 ?_
    refine g_lcmp C dL_law_995 ?_
    refine g_if_eq C 1001 dL_law_996 (by decide) (fun _ => ?_) (fun c => absurd law_cmp c)
    refine g_goto C 3840 dL_law_1001 (by decide) ?_
    exact g_sub [2, 3, 4, 5, 6] rfl (next ((fX6_unplan β η σ a).2.1) τ γ ((fX6_unplan β η σ a).2.2.1) ((fX6_unplan β η σ a).2.2.2) θ ((fX7_unplan μ a).2) (vp_updL o 0 v.toInt64) hR2)
  · skip
    refine g_aload_n C dL_law_948 rfl 1 rfl ?_
    refine g_aload_n C dL_law_949 rfl 0 rfl ?_
    refine g_iload C dL_law_950 4 rfl ?_
    refine g_iconst C (v := 1) dL_law_952 (by decide) ?_
    refine g_iadd C dL_law_953 ?_
    refine g_sldv C S (i + 1) (nx_add (rfl : nI i = nI i) (rfl : (1 : Int32) = nI 1)) (by omega) ha9 dL_law_954 ?_
    refine g_aload_n C dL_law_955 rfl 3 rfl ?_
    refine g_callSW C hZ hNc (cs1 := [wX ax (bo 0) (tr 0) (ac 0) (ah 0) (at_ 0), wB E bo ((fX6_unplan β η σ a).2.1), wB E tr τ, wC E ac γ, wH E ah bd ((fX6_unplan β η σ a).2.2.1), wT E at_ θ, wB E (bd 2) ((fX6_unplan β η σ a).2.2.2 2), wB E (bd 3) ((fX6_unplan β η σ a).2.2.2 3), wB E (bd 4) ((fX6_unplan β η σ a).2.2.2 4), wB E (bd 5) ((fX6_unplan β η σ a).2.2.2 5), wB E (bd 6) ((fX6_unplan β η σ a).2.2.2 6), wB E (bd 7) ((fX6_unplan β η σ a).2.2.2 7), wB E (bd 8) ((fX6_unplan β η σ a).2.2.2 8), wB E (bd 9) ((fX6_unplan β η σ a).2.2.2 9), wM E am μ, wO E ao o]) (st1 := [.int 1]) [.ref ax, .int a, .ref ao] [0, 1, 2, 3, 4, 5, 6, 7, 8, 9, 10, 11, 12, 13, 15] (kL_unplan_0 l E ax bo β tr τ ac γ ah bd η σ at_ θ ao o hlt hvb hvh a hr) q4_84 q1_0 (by decide +kernel) q4_83 q4_82 rfl ⟨Nat.le_of_ble_eq_true rfl, Nat.le_of_ble_eq_true rfl⟩ ⟨hk, hn⟩ (by decide) rfl rfl rfl rfl (Nat.le_of_ble_eq_true rfl) dL_law_956 rfl ?_
    refine g_istore C (lv1 := [(5, .int 1), (0, .ref b0), (1, .ref ax), (2, .ref (am 0)), (3, .ref ao), (4, .int (nI i))]) dL_law_959 (by decide) rfl ?_
    refine g_aload_n C dL_law_961 rfl 3 rfl ?_
    refine g_aload_n C dL_law_962 rfl 1 rfl ?_
    refine g_iload C dL_law_963 5 rfl ?_
    refine g_iconst C (v := 1) dL_law_965 (by decide) ?_
    refine g_iadd C dL_law_966 ?_
    refine g_sldv C S (i + 1) (nx_add (rfl : nI i = nI i) (rfl : (1 : Int32) = nI 1)) (by omega) ha9 dL_law_967 ?_
    refine g_callV C (cs1 := [wX ax (bo 0) (tr 0) (ac 0) (ah 0) (at_ 0), wB E bo ((fX6_unplan β η σ a).2.1), wB E tr τ, wC E ac γ, wH E ah bd ((fX6_unplan β η σ a).2.2.1), wT E at_ θ, wB E (bd 2) ((fX6_unplan β η σ a).2.2.2 2), wB E (bd 3) ((fX6_unplan β η σ a).2.2.2 3), wB E (bd 4) ((fX6_unplan β η σ a).2.2.2 4), wB E (bd 5) ((fX6_unplan β η σ a).2.2.2 5), wB E (bd 6) ((fX6_unplan β η σ a).2.2.2 6), wB E (bd 7) ((fX6_unplan β η σ a).2.2.2 7), wB E (bd 8) ((fX6_unplan β η σ a).2.2.2 8), wB E (bd 9) ((fX6_unplan β η σ a).2.2.2 9), wM E am ((fX7_unplan μ a).2), wO E ao o]) (st1 := [.int ((fX7_unplan μ a).1)]) [.int a] [14] (kX7_unplan l E am μ hvm a) caX7_unplan q6_233 rfl ⟨Nat.le_of_ble_eq_true rfl, Nat.le_of_ble_eq_true rfl⟩ ⟨hk, hn⟩ 14 0 rfl rfl rfl rfl (by decide) rfl rfl rfl rfl (Nat.le_of_ble_eq_true rfl) dL_law_968 rfl ?_
    refine g_istore C (lv1 := [(6, .int ((fX7_unplan μ a).1)), (5, .int 1), (0, .ref b0), (1, .ref ax), (2, .ref (am 0)), (3, .ref ao), (4, .int (nI i))]) dL_law_971 (by decide) rfl ?_
    refine g_aload_n C dL_law_973 rfl 4 rfl ?_
    refine g_callV C (cs1 := [wX ax (bo 0) (tr 0) (ac 0) (ah 0) (at_ 0), wB E bo ((fX6_unplan β η σ a).2.1), wB E tr τ, wC E ac γ, wH E ah bd ((fX6_unplan β η σ a).2.2.1), wT E at_ θ, wB E (bd 2) ((fX6_unplan β η σ a).2.2.2 2), wB E (bd 3) ((fX6_unplan β η σ a).2.2.2 3), wB E (bd 4) ((fX6_unplan β η σ a).2.2.2 4), wB E (bd 5) ((fX6_unplan β η σ a).2.2.2 5), wB E (bd 6) ((fX6_unplan β η σ a).2.2.2 6), wB E (bd 7) ((fX6_unplan β η σ a).2.2.2 7), wB E (bd 8) ((fX6_unplan β η σ a).2.2.2 8), wB E (bd 9) ((fX6_unplan β η σ a).2.2.2 9), wM E am ((fX7_unplan μ a).2), wO E ao o]) (st1 := [.int (fX7_thrown ((fX7_unplan μ a).2))]) [] [14] (kX7_thrown l E am ((fX7_unplan μ a).2)) caX7_thrown q6_117 rfl ⟨Nat.le_of_ble_eq_true rfl, Nat.le_of_ble_eq_true rfl⟩ ⟨hk, hn⟩ 14 0 rfl rfl rfl rfl (by decide) rfl rfl rfl rfl (Nat.le_of_ble_eq_true rfl) dL_law_974 rfl ?_
    refine g_iload C dL_law_977 1 rfl ?_
    refine g_icmp_eq C 984 dL_law_979 (by decide) (fun _ => ?_) (fun c => absurd ht c)
    refine g_iload C dL_law_984 1 rfl ?_
    refine g_if_ne C 1001 dL_law_986 (by decide) (fun _ => ?_) (fun c => absurd c (by decide))
    refine g_goto C 3840 dL_law_1001 (by decide) ?_
    exact g_sub [2, 3, 4, 5, 6] rfl (next ((fX6_unplan β η σ a).2.1) τ γ ((fX6_unplan β η σ a).2.2.1) ((fX6_unplan β η σ a).2.2.2) θ ((fX7_unplan μ a).2) o hR2)
  · skip
    refine g_aload_n C dL_law_948 rfl 1 rfl ?_
    refine g_aload_n C dL_law_949 rfl 0 rfl ?_
    refine g_iload C dL_law_950 4 rfl ?_
    refine g_iconst C (v := 1) dL_law_952 (by decide) ?_
    refine g_iadd C dL_law_953 ?_
    refine g_sldv C S (i + 1) (nx_add (rfl : nI i = nI i) (rfl : (1 : Int32) = nI 1)) (by omega) ha9 dL_law_954 ?_
    refine g_aload_n C dL_law_955 rfl 3 rfl ?_
    refine g_callSW C hZ hNc (cs1 := [wX ax (bo 0) (tr 0) (ac 0) (ah 0) (at_ 0), wB E bo ((fX6_unplan β η σ a).2.1), wB E tr τ, wC E ac γ, wH E ah bd ((fX6_unplan β η σ a).2.2.1), wT E at_ θ, wB E (bd 2) ((fX6_unplan β η σ a).2.2.2 2), wB E (bd 3) ((fX6_unplan β η σ a).2.2.2 3), wB E (bd 4) ((fX6_unplan β η σ a).2.2.2 4), wB E (bd 5) ((fX6_unplan β η σ a).2.2.2 5), wB E (bd 6) ((fX6_unplan β η σ a).2.2.2 6), wB E (bd 7) ((fX6_unplan β η σ a).2.2.2 7), wB E (bd 8) ((fX6_unplan β η σ a).2.2.2 8), wB E (bd 9) ((fX6_unplan β η σ a).2.2.2 9), wM E am μ, wO E ao o]) (st1 := [.int 2]) [.ref ax, .int a, .ref ao] [0, 1, 2, 3, 4, 5, 6, 7, 8, 9, 10, 11, 12, 13, 15] (kL_unplan_1 l E ax bo β tr τ ac γ ah bd η σ at_ θ ao o hlt hvb hvh a hr) q4_84 q1_0 (by decide +kernel) q4_83 q4_82 rfl ⟨Nat.le_of_ble_eq_true rfl, Nat.le_of_ble_eq_true rfl⟩ ⟨hk, hn⟩ (by decide) rfl rfl rfl rfl (Nat.le_of_ble_eq_true rfl) dL_law_956 rfl ?_
    refine g_istore C (lv1 := [(5, .int 2), (0, .ref b0), (1, .ref ax), (2, .ref (am 0)), (3, .ref ao), (4, .int (nI i))]) dL_law_959 (by decide) rfl ?_
    refine g_aload_n C dL_law_961 rfl 3 rfl ?_
    refine g_aload_n C dL_law_962 rfl 1 rfl ?_
    refine g_iload C dL_law_963 5 rfl ?_
    refine g_iconst C (v := 1) dL_law_965 (by decide) ?_
    refine g_iadd C dL_law_966 ?_
    refine g_sldv C S (i + 1) (nx_add (rfl : nI i = nI i) (rfl : (1 : Int32) = nI 1)) (by omega) ha9 dL_law_967 ?_
    refine g_callV C (cs1 := [wX ax (bo 0) (tr 0) (ac 0) (ah 0) (at_ 0), wB E bo ((fX6_unplan β η σ a).2.1), wB E tr τ, wC E ac γ, wH E ah bd ((fX6_unplan β η σ a).2.2.1), wT E at_ θ, wB E (bd 2) ((fX6_unplan β η σ a).2.2.2 2), wB E (bd 3) ((fX6_unplan β η σ a).2.2.2 3), wB E (bd 4) ((fX6_unplan β η σ a).2.2.2 4), wB E (bd 5) ((fX6_unplan β η σ a).2.2.2 5), wB E (bd 6) ((fX6_unplan β η σ a).2.2.2 6), wB E (bd 7) ((fX6_unplan β η σ a).2.2.2 7), wB E (bd 8) ((fX6_unplan β η σ a).2.2.2 8), wB E (bd 9) ((fX6_unplan β η σ a).2.2.2 9), wM E am ((fX7_unplan μ a).2), wO E ao o]) (st1 := [.int ((fX7_unplan μ a).1)]) [.int a] [14] (kX7_unplan l E am μ hvm a) caX7_unplan q6_233 rfl ⟨Nat.le_of_ble_eq_true rfl, Nat.le_of_ble_eq_true rfl⟩ ⟨hk, hn⟩ 14 0 rfl rfl rfl rfl (by decide) rfl rfl rfl rfl (Nat.le_of_ble_eq_true rfl) dL_law_968 rfl ?_
    refine g_istore C (lv1 := [(6, .int ((fX7_unplan μ a).1)), (5, .int 2), (0, .ref b0), (1, .ref ax), (2, .ref (am 0)), (3, .ref ao), (4, .int (nI i))]) dL_law_971 (by decide) rfl ?_
    refine g_aload_n C dL_law_973 rfl 4 rfl ?_
    refine g_callV C (cs1 := [wX ax (bo 0) (tr 0) (ac 0) (ah 0) (at_ 0), wB E bo ((fX6_unplan β η σ a).2.1), wB E tr τ, wC E ac γ, wH E ah bd ((fX6_unplan β η σ a).2.2.1), wT E at_ θ, wB E (bd 2) ((fX6_unplan β η σ a).2.2.2 2), wB E (bd 3) ((fX6_unplan β η σ a).2.2.2 3), wB E (bd 4) ((fX6_unplan β η σ a).2.2.2 4), wB E (bd 5) ((fX6_unplan β η σ a).2.2.2 5), wB E (bd 6) ((fX6_unplan β η σ a).2.2.2 6), wB E (bd 7) ((fX6_unplan β η σ a).2.2.2 7), wB E (bd 8) ((fX6_unplan β η σ a).2.2.2 8), wB E (bd 9) ((fX6_unplan β η σ a).2.2.2 9), wM E am ((fX7_unplan μ a).2), wO E ao o]) (st1 := [.int (fX7_thrown ((fX7_unplan μ a).2))]) [] [14] (kX7_thrown l E am ((fX7_unplan μ a).2)) caX7_thrown q6_117 rfl ⟨Nat.le_of_ble_eq_true rfl, Nat.le_of_ble_eq_true rfl⟩ ⟨hk, hn⟩ 14 0 rfl rfl rfl rfl (by decide) rfl rfl rfl rfl (Nat.le_of_ble_eq_true rfl) dL_law_974 rfl ?_
    refine g_iload C dL_law_977 1 rfl ?_
    refine g_icmp_eq C 984 dL_law_979 (by decide) (fun _ => ?_) (fun c => absurd ht c)
    refine g_iload C dL_law_984 1 rfl ?_
    refine g_if_ne C 1001 dL_law_986 (by decide) (fun _ => ?_) (fun c => absurd c (by decide))
    refine g_goto C 3840 dL_law_1001 (by decide) ?_
    exact g_sub [2, 3, 4, 5, 6] rfl (next ((fX6_unplan β η σ a).2.1) τ γ ((fX6_unplan β η σ a).2.2.1) ((fX6_unplan β η σ a).2.2.2) θ ((fX7_unplan μ a).2) o hR2)
set_option maxHeartbeats 4000000 in
set_option maxRecDepth 100000 in
theorem arm_10 {Rl : RlT} (hRv : RlV Rl) (hs : sH_changeDate Rl)  {X : gX} {l : Launch} {E : gE} (C : gC X cL_law 9 RL (some .boolean) l E room_1) (hZ : gZ X.2.2.2.2.2.2.2.2.2.2.2.1 X.2.2.2.2.1 X.2.2.2.2.1.heap) (hNc : gNc X.2.2.2.2.1) {b0 L0 : Nat} {xs : Nat → Int32} (S : gS X b0 L0 xs) (hlt : l.stackTraces = false) {ax : Nat} {bo tr ac ah : Nat → Nat} {bd : Nat → Nat → Nat} {at_ am : Nat → Nat} {ao k n i : Nat} (hk : k + 3 ≤ 601024) (hn : n + 18 ≤ 7293034) (hi : i + 3 ≤ L0) {β τ γ η : BS} {σ : Nat → BS} {θ μ : BS} {o : Nat → Int64} (hR : Rl β η θ σ μ) (next : ∀ (β τ γ η : BS) (σ : Nat → BS) (θ μ : BS) (o : Nat → Int64), Rl β η θ σ μ → G X (k + 3) (n + 18) [wX ax (bo 0) (tr 0) (ac 0) (ah 0) (at_ 0), wB E bo β, wB E tr τ, wC E ac γ, wH E ah bd η, wT E at_ θ, wB E (bd 2) (σ 2), wB E (bd 3) (σ 3), wB E (bd 4) (σ 4), wB E (bd 5) (σ 5), wB E (bd 6) (σ 6), wB E (bd 7) (σ 7), wB E (bd 8) (σ 8), wB E (bd 9) (σ 9), wM E am μ, wO E ao o] [(0, .ref b0), (1, .ref ax), (2, .ref (am 0)), (3, .ref ao), (4, .int (nI i))] 3840 []) : G X k n [wX ax (bo 0) (tr 0) (ac 0) (ah 0) (at_ 0), wB E bo β, wB E tr τ, wC E ac γ, wH E ah bd η, wT E at_ θ, wB E (bd 2) (σ 2), wB E (bd 3) (σ 3), wB E (bd 4) (σ 4), wB E (bd 5) (σ 5), wB E (bd 6) (σ 6), wB E (bd 7) (σ 7), wB E (bd 8) (σ 8), wB E (bd 9) (σ 9), wM E am μ, wO E ao o] [(0, .ref b0), (1, .ref ax), (2, .ref (am 0)), (3, .ref ao), (4, .int (nI i))] 1004 [] := by
  obtain ⟨hvb, hvh, hvt, hvm, ha⟩ := hRv β η θ σ μ hR
  obtain ⟨a, ha9⟩ : ∃ a, xs (i + 1) = a := ⟨_, rfl⟩
  obtain ⟨b, hb9⟩ : ∃ b, xs (i + 2) = b := ⟨_, rfl⟩
  obtain ⟨hag, hR2⟩ := hs β τ γ η σ θ μ a b hR
  rcases hag with ⟨hr, ht⟩ | ⟨hr, ht⟩ | ⟨hr, ht⟩
  · skip
    refine g_aload_n C dL_law_1004 rfl 1 rfl ?_
    refine g_aload_n C dL_law_1005 rfl 0 rfl ?_
    refine g_iload C dL_law_1006 4 rfl ?_
    refine g_iconst C (v := 1) dL_law_1008 (by decide) ?_
    refine g_iadd C dL_law_1009 ?_
    refine g_sldv C S (i + 1) (nx_add (rfl : nI i = nI i) (rfl : (1 : Int32) = nI 1)) (by omega) ha9 dL_law_1010 ?_
    refine g_aload_n C dL_law_1011 rfl 0 rfl ?_
    refine g_iload C dL_law_1012 4 rfl ?_
    refine g_iconst C (v := 2) dL_law_1014 (by decide) ?_
    refine g_iadd C dL_law_1015 ?_
    refine g_sldv C S (i + 2) (nx_add (rfl : nI i = nI i) (rfl : (2 : Int32) = nI 2)) (by omega) hb9 dL_law_1016 ?_
    refine g_aload_n C dL_law_1017 rfl 3 rfl ?_
    refine g_callSW C hZ hNc (cs1 := [wX ax (bo 0) (tr 0) (ac 0) (ah 0) (at_ 0), wB E bo ((fX6_changeDate β η σ a b).2.1), wB E tr τ, wC E ac γ, wH E ah bd ((fX6_changeDate β η σ a b).2.2.1), wT E at_ θ, wB E (bd 2) ((fX6_changeDate β η σ a b).2.2.2 2), wB E (bd 3) ((fX6_changeDate β η σ a b).2.2.2 3), wB E (bd 4) ((fX6_changeDate β η σ a b).2.2.2 4), wB E (bd 5) ((fX6_changeDate β η σ a b).2.2.2 5), wB E (bd 6) ((fX6_changeDate β η σ a b).2.2.2 6), wB E (bd 7) ((fX6_changeDate β η σ a b).2.2.2 7), wB E (bd 8) ((fX6_changeDate β η σ a b).2.2.2 8), wB E (bd 9) ((fX6_changeDate β η σ a b).2.2.2 9), wM E am μ, wO E ao (vp_updL o 0 v.toInt64)]) (st1 := [.int 0]) [.ref ax, .int a, .int b, .ref ao] [0, 1, 2, 3, 4, 5, 6, 7, 8, 9, 10, 11, 12, 13, 15] (kL_changeDate_r l E ax bo β tr τ ac γ ah bd η σ at_ θ ao o hlt hvb hvh a b ((fX7_changeDate μ a b).1) hr) q4_95 q1_0 (by decide +kernel) q4_94 q4_93 rfl ⟨Nat.le_of_ble_eq_true rfl, Nat.le_of_ble_eq_true rfl⟩ ⟨hk, hn⟩ (by decide) rfl rfl rfl rfl (Nat.le_of_ble_eq_true rfl) dL_law_1018 rfl ?_
    refine g_istore C (lv1 := [(5, .int 0), (0, .ref b0), (1, .ref ax), (2, .ref (am 0)), (3, .ref ao), (4, .int (nI i))]) dL_law_1021 (by decide) rfl ?_
    refine g_aload_n C dL_law_1023 rfl 3 rfl ?_
    refine g_aload_n C dL_law_1024 rfl 1 rfl ?_
    refine g_iload C dL_law_1025 5 rfl ?_
    refine g_iconst C (v := 1) dL_law_1027 (by decide) ?_
    refine g_iadd C dL_law_1028 ?_
    refine g_sldv C S (i + 1) (nx_add (rfl : nI i = nI i) (rfl : (1 : Int32) = nI 1)) (by omega) ha9 dL_law_1029 ?_
    refine g_aload_n C dL_law_1030 rfl 1 rfl ?_
    refine g_iload C dL_law_1031 5 rfl ?_
    refine g_iconst C (v := 2) dL_law_1033 (by decide) ?_
    refine g_iadd C dL_law_1034 ?_
    refine g_sldv C S (i + 2) (nx_add (rfl : nI i = nI i) (rfl : (2 : Int32) = nI 2)) (by omega) hb9 dL_law_1035 ?_
    refine g_callV C (cs1 := [wX ax (bo 0) (tr 0) (ac 0) (ah 0) (at_ 0), wB E bo ((fX6_changeDate β η σ a b).2.1), wB E tr τ, wC E ac γ, wH E ah bd ((fX6_changeDate β η σ a b).2.2.1), wT E at_ θ, wB E (bd 2) ((fX6_changeDate β η σ a b).2.2.2 2), wB E (bd 3) ((fX6_changeDate β η σ a b).2.2.2 3), wB E (bd 4) ((fX6_changeDate β η σ a b).2.2.2 4), wB E (bd 5) ((fX6_changeDate β η σ a b).2.2.2 5), wB E (bd 6) ((fX6_changeDate β η σ a b).2.2.2 6), wB E (bd 7) ((fX6_changeDate β η σ a b).2.2.2 7), wB E (bd 8) ((fX6_changeDate β η σ a b).2.2.2 8), wB E (bd 9) ((fX6_changeDate β η σ a b).2.2.2 9), wM E am ((fX7_changeDate μ a b).2), wO E ao (vp_updL o 0 v.toInt64)]) (st1 := [.int ((fX7_changeDate μ a b).1)]) [.int a, .int b] [14] (kX7_changeDate l E am μ hvm a b) caX7_changeDate q6_237 rfl ⟨Nat.le_of_ble_eq_true rfl, Nat.le_of_ble_eq_true rfl⟩ ⟨hk, hn⟩ 14 0 rfl rfl rfl rfl (by decide) rfl rfl rfl rfl (Nat.le_of_ble_eq_true rfl) dL_law_1036 rfl ?_
    refine g_istore C (lv1 := [(6, .int ((fX7_changeDate μ a b).1)), (5, .int 0), (0, .ref b0), (1, .ref ax), (2, .ref (am 0)), (3, .ref ao), (4, .int (nI i))]) dL_law_1039 (by decide) rfl ?_
    refine g_aload_n C dL_law_1041 rfl 4 rfl ?_
    refine g_callV C (cs1 := [wX ax (bo 0) (tr 0) (ac 0) (ah 0) (at_ 0), wB E bo ((fX6_changeDate β η σ a b).2.1), wB E tr τ, wC E ac γ, wH E ah bd ((fX6_changeDate β η σ a b).2.2.1), wT E at_ θ, wB E (bd 2) ((fX6_changeDate β η σ a b).2.2.2 2), wB E (bd 3) ((fX6_changeDate β η σ a b).2.2.2 3), wB E (bd 4) ((fX6_changeDate β η σ a b).2.2.2 4), wB E (bd 5) ((fX6_changeDate β η σ a b).2.2.2 5), wB E (bd 6) ((fX6_changeDate β η σ a b).2.2.2 6), wB E (bd 7) ((fX6_changeDate β η σ a b).2.2.2 7), wB E (bd 8) ((fX6_changeDate β η σ a b).2.2.2 8), wB E (bd 9) ((fX6_changeDate β η σ a b).2.2.2 9), wM E am ((fX7_changeDate μ a b).2), wO E ao (vp_updL o 0 v.toInt64)]) (st1 := [.int (fX7_thrown ((fX7_changeDate μ a b).2))]) [] [14] (kX7_thrown l E am ((fX7_changeDate μ a b).2)) caX7_thrown q6_117 rfl ⟨Nat.le_of_ble_eq_true rfl, Nat.le_of_ble_eq_true rfl⟩ ⟨hk, hn⟩ 14 0 rfl rfl rfl rfl (by decide) rfl rfl rfl rfl (Nat.le_of_ble_eq_true rfl) dL_law_1042 rfl ?_
    refine g_iload C dL_law_1045 1 rfl ?_
    refine g_icmp_eq C 1052 dL_law_1047 (by decide) (fun _ => ?_) (fun c => absurd ht c)
    refine g_iload C dL_law_1052 1 rfl ?_
    refine g_if_ne C 1069 dL_law_1054 (by decide) (fun c => absurd rfl c) (fun _ => ?_)
    refine g_aload_n C dL_law_1057 rfl 5 rfl ?_
    refine g_iconst C (v := 0) dL_law_1058 (by decide) ?_
    refine g_laldn C 15 0 0 rfl rfl rfl (by decide) (by decide) dL_law_1059 ?_
    refine g_iload C dL_law_1060 0 rfl ?_
    refine g_i2l C dL_law_1062 ?_
    refine g_lcmp C dL_law_1063 ?_
    refine g_if_eq C 1069 dL_law_1064 (by decide) (fun _ => ?_) (fun c => absurd law_cmp c)
    refine g_goto C 3840 dL_law_1069 (by decide) ?_
    exact g_sub [2, 3, 4, 5, 6] rfl (next ((fX6_changeDate β η σ a b).2.1) τ γ ((fX6_changeDate β η σ a b).2.2.1) ((fX6_changeDate β η σ a b).2.2.2) θ ((fX7_changeDate μ a b).2) (vp_updL o 0 v.toInt64) hR2)
  · skip
    refine g_aload_n C dL_law_1004 rfl 1 rfl ?_
    refine g_aload_n C dL_law_1005 rfl 0 rfl ?_
    refine g_iload C dL_law_1006 4 rfl ?_
    refine g_iconst C (v := 1) dL_law_1008 (by decide) ?_
    refine g_iadd C dL_law_1009 ?_
    refine g_sldv C S (i + 1) (nx_add (rfl : nI i = nI i) (rfl : (1 : Int32) = nI 1)) (by omega) ha9 dL_law_1010 ?_
    refine g_aload_n C dL_law_1011 rfl 0 rfl ?_
    refine g_iload C dL_law_1012 4 rfl ?_
    refine g_iconst C (v := 2) dL_law_1014 (by decide) ?_
    refine g_iadd C dL_law_1015 ?_
    refine g_sldv C S (i + 2) (nx_add (rfl : nI i = nI i) (rfl : (2 : Int32) = nI 2)) (by omega) hb9 dL_law_1016 ?_
    refine g_aload_n C dL_law_1017 rfl 3 rfl ?_
    refine g_callSW C hZ hNc (cs1 := [wX ax (bo 0) (tr 0) (ac 0) (ah 0) (at_ 0), wB E bo ((fX6_changeDate β η σ a b).2.1), wB E tr τ, wC E ac γ, wH E ah bd ((fX6_changeDate β η σ a b).2.2.1), wT E at_ θ, wB E (bd 2) ((fX6_changeDate β η σ a b).2.2.2 2), wB E (bd 3) ((fX6_changeDate β η σ a b).2.2.2 3), wB E (bd 4) ((fX6_changeDate β η σ a b).2.2.2 4), wB E (bd 5) ((fX6_changeDate β η σ a b).2.2.2 5), wB E (bd 6) ((fX6_changeDate β η σ a b).2.2.2 6), wB E (bd 7) ((fX6_changeDate β η σ a b).2.2.2 7), wB E (bd 8) ((fX6_changeDate β η σ a b).2.2.2 8), wB E (bd 9) ((fX6_changeDate β η σ a b).2.2.2 9), wM E am μ, wO E ao o]) (st1 := [.int 1]) [.ref ax, .int a, .int b, .ref ao] [0, 1, 2, 3, 4, 5, 6, 7, 8, 9, 10, 11, 12, 13, 15] (kL_changeDate_0 l E ax bo β tr τ ac γ ah bd η σ at_ θ ao o hlt hvb hvh a b hr) q4_95 q1_0 (by decide +kernel) q4_94 q4_93 rfl ⟨Nat.le_of_ble_eq_true rfl, Nat.le_of_ble_eq_true rfl⟩ ⟨hk, hn⟩ (by decide) rfl rfl rfl rfl (Nat.le_of_ble_eq_true rfl) dL_law_1018 rfl ?_
    refine g_istore C (lv1 := [(5, .int 1), (0, .ref b0), (1, .ref ax), (2, .ref (am 0)), (3, .ref ao), (4, .int (nI i))]) dL_law_1021 (by decide) rfl ?_
    refine g_aload_n C dL_law_1023 rfl 3 rfl ?_
    refine g_aload_n C dL_law_1024 rfl 1 rfl ?_
    refine g_iload C dL_law_1025 5 rfl ?_
    refine g_iconst C (v := 1) dL_law_1027 (by decide) ?_
    refine g_iadd C dL_law_1028 ?_
    refine g_sldv C S (i + 1) (nx_add (rfl : nI i = nI i) (rfl : (1 : Int32) = nI 1)) (by omega) ha9 dL_law_1029 ?_
    refine g_aload_n C dL_law_1030 rfl 1 rfl ?_
    refine g_iload C dL_law_1031 5 rfl ?_
    refine g_iconst C (v := 2) dL_law_1033 (by decide) ?_
    refine g_iadd C dL_law_1034 ?_
    refine g_sldv C S (i + 2) (nx_add (rfl : nI i = nI i) (rfl : (2 : Int32) = nI 2)) (by omega) hb9 dL_law_1035 ?_
    refine g_callV C (cs1 := [wX ax (bo 0) (tr 0) (ac 0) (ah 0) (at_ 0), wB E bo ((fX6_changeDate β η σ a b).2.1), wB E tr τ, wC E ac γ, wH E ah bd ((fX6_changeDate β η σ a b).2.2.1), wT E at_ θ, wB E (bd 2) ((fX6_changeDate β η σ a b).2.2.2 2), wB E (bd 3) ((fX6_changeDate β η σ a b).2.2.2 3), wB E (bd 4) ((fX6_changeDate β η σ a b).2.2.2 4), wB E (bd 5) ((fX6_changeDate β η σ a b).2.2.2 5), wB E (bd 6) ((fX6_changeDate β η σ a b).2.2.2 6), wB E (bd 7) ((fX6_changeDate β η σ a b).2.2.2 7), wB E (bd 8) ((fX6_changeDate β η σ a b).2.2.2 8), wB E (bd 9) ((fX6_changeDate β η σ a b).2.2.2 9), wM E am ((fX7_changeDate μ a b).2), wO E ao o]) (st1 := [.int ((fX7_changeDate μ a b).1)]) [.int a, .int b] [14] (kX7_changeDate l E am μ hvm a b) caX7_changeDate q6_237 rfl ⟨Nat.le_of_ble_eq_true rfl, Nat.le_of_ble_eq_true rfl⟩ ⟨hk, hn⟩ 14 0 rfl rfl rfl rfl (by decide) rfl rfl rfl rfl (Nat.le_of_ble_eq_true rfl) dL_law_1036 rfl ?_
    refine g_istore C (lv1 := [(6, .int ((fX7_changeDate μ a b).1)), (5, .int 1), (0, .ref b0), (1, .ref ax), (2, .ref (am 0)), (3, .ref ao), (4, .int (nI i))]) dL_law_1039 (by decide) rfl ?_
    refine g_aload_n C dL_law_1041 rfl 4 rfl ?_
    refine g_callV C (cs1 := [wX ax (bo 0) (tr 0) (ac 0) (ah 0) (at_ 0), wB E bo ((fX6_changeDate β η σ a b).2.1), wB E tr τ, wC E ac γ, wH E ah bd ((fX6_changeDate β η σ a b).2.2.1), wT E at_ θ, wB E (bd 2) ((fX6_changeDate β η σ a b).2.2.2 2), wB E (bd 3) ((fX6_changeDate β η σ a b).2.2.2 3), wB E (bd 4) ((fX6_changeDate β η σ a b).2.2.2 4), wB E (bd 5) ((fX6_changeDate β η σ a b).2.2.2 5), wB E (bd 6) ((fX6_changeDate β η σ a b).2.2.2 6), wB E (bd 7) ((fX6_changeDate β η σ a b).2.2.2 7), wB E (bd 8) ((fX6_changeDate β η σ a b).2.2.2 8), wB E (bd 9) ((fX6_changeDate β η σ a b).2.2.2 9), wM E am ((fX7_changeDate μ a b).2), wO E ao o]) (st1 := [.int (fX7_thrown ((fX7_changeDate μ a b).2))]) [] [14] (kX7_thrown l E am ((fX7_changeDate μ a b).2)) caX7_thrown q6_117 rfl ⟨Nat.le_of_ble_eq_true rfl, Nat.le_of_ble_eq_true rfl⟩ ⟨hk, hn⟩ 14 0 rfl rfl rfl rfl (by decide) rfl rfl rfl rfl (Nat.le_of_ble_eq_true rfl) dL_law_1042 rfl ?_
    refine g_iload C dL_law_1045 1 rfl ?_
    refine g_icmp_eq C 1052 dL_law_1047 (by decide) (fun _ => ?_) (fun c => absurd ht c)
    refine g_iload C dL_law_1052 1 rfl ?_
    refine g_if_ne C 1069 dL_law_1054 (by decide) (fun _ => ?_) (fun c => absurd c (by decide))
    refine g_goto C 3840 dL_law_1069 (by decide) ?_
    exact g_sub [2, 3, 4, 5, 6] rfl (next ((fX6_changeDate β η σ a b).2.1) τ γ ((fX6_changeDate β η σ a b).2.2.1) ((fX6_changeDate β η σ a b).2.2.2) θ ((fX7_changeDate μ a b).2) o hR2)
  · skip
    refine g_aload_n C dL_law_1004 rfl 1 rfl ?_
    refine g_aload_n C dL_law_1005 rfl 0 rfl ?_
    refine g_iload C dL_law_1006 4 rfl ?_
    refine g_iconst C (v := 1) dL_law_1008 (by decide) ?_
    refine g_iadd C dL_law_1009 ?_
    refine g_sldv C S (i + 1) (nx_add (rfl : nI i = nI i) (rfl : (1 : Int32) = nI 1)) (by omega) ha9 dL_law_1010 ?_
    refine g_aload_n C dL_law_1011 rfl 0 rfl ?_
    refine g_iload C dL_law_1012 4 rfl ?_
    refine g_iconst C (v := 2) dL_law_1014 (by decide) ?_
    refine g_iadd C dL_law_1015 ?_
    refine g_sldv C S (i + 2) (nx_add (rfl : nI i = nI i) (rfl : (2 : Int32) = nI 2)) (by omega) hb9 dL_law_1016 ?_
    refine g_aload_n C dL_law_1017 rfl 3 rfl ?_
    refine g_callSW C hZ hNc (cs1 := [wX ax (bo 0) (tr 0) (ac 0) (ah 0) (at_ 0), wB E bo ((fX6_changeDate β η σ a b).2.1), wB E tr τ, wC E ac γ, wH E ah bd ((fX6_changeDate β η σ a b).2.2.1), wT E at_ θ, wB E (bd 2) ((fX6_changeDate β η σ a b).2.2.2 2), wB E (bd 3) ((fX6_changeDate β η σ a b).2.2.2 3), wB E (bd 4) ((fX6_changeDate β η σ a b).2.2.2 4), wB E (bd 5) ((fX6_changeDate β η σ a b).2.2.2 5), wB E (bd 6) ((fX6_changeDate β η σ a b).2.2.2 6), wB E (bd 7) ((fX6_changeDate β η σ a b).2.2.2 7), wB E (bd 8) ((fX6_changeDate β η σ a b).2.2.2 8), wB E (bd 9) ((fX6_changeDate β η σ a b).2.2.2 9), wM E am μ, wO E ao o]) (st1 := [.int 2]) [.ref ax, .int a, .int b, .ref ao] [0, 1, 2, 3, 4, 5, 6, 7, 8, 9, 10, 11, 12, 13, 15] (kL_changeDate_1 l E ax bo β tr τ ac γ ah bd η σ at_ θ ao o hlt hvb hvh a b hr) q4_95 q1_0 (by decide +kernel) q4_94 q4_93 rfl ⟨Nat.le_of_ble_eq_true rfl, Nat.le_of_ble_eq_true rfl⟩ ⟨hk, hn⟩ (by decide) rfl rfl rfl rfl (Nat.le_of_ble_eq_true rfl) dL_law_1018 rfl ?_
    refine g_istore C (lv1 := [(5, .int 2), (0, .ref b0), (1, .ref ax), (2, .ref (am 0)), (3, .ref ao), (4, .int (nI i))]) dL_law_1021 (by decide) rfl ?_
    refine g_aload_n C dL_law_1023 rfl 3 rfl ?_
    refine g_aload_n C dL_law_1024 rfl 1 rfl ?_
    refine g_iload C dL_law_1025 5 rfl ?_
    refine g_iconst C (v := 1) dL_law_1027 (by decide) ?_
    refine g_iadd C dL_law_1028 ?_
    refine g_sldv C S (i + 1) (nx_add (rfl : nI i = nI i) (rfl : (1 : Int32) = nI 1)) (by omega) ha9 dL_law_1029 ?_
    refine g_aload_n C dL_law_1030 rfl 1 rfl ?_
    refine g_iload C dL_law_1031 5 rfl ?_
    refine g_iconst C (v := 2) dL_law_1033 (by decide) ?_
    refine g_iadd C dL_law_1034 ?_
    refine g_sldv C S (i + 2) (nx_add (rfl : nI i = nI i) (rfl : (2 : Int32) = nI 2)) (by omega) hb9 dL_law_1035 ?_
    refine g_callV C (cs1 := [wX ax (bo 0) (tr 0) (ac 0) (ah 0) (at_ 0), wB E bo ((fX6_changeDate β η σ a b).2.1), wB E tr τ, wC E ac γ, wH E ah bd ((fX6_changeDate β η σ a b).2.2.1), wT E at_ θ, wB E (bd 2) ((fX6_changeDate β η σ a b).2.2.2 2), wB E (bd 3) ((fX6_changeDate β η σ a b).2.2.2 3), wB E (bd 4) ((fX6_changeDate β η σ a b).2.2.2 4), wB E (bd 5) ((fX6_changeDate β η σ a b).2.2.2 5), wB E (bd 6) ((fX6_changeDate β η σ a b).2.2.2 6), wB E (bd 7) ((fX6_changeDate β η σ a b).2.2.2 7), wB E (bd 8) ((fX6_changeDate β η σ a b).2.2.2 8), wB E (bd 9) ((fX6_changeDate β η σ a b).2.2.2 9), wM E am ((fX7_changeDate μ a b).2), wO E ao o]) (st1 := [.int ((fX7_changeDate μ a b).1)]) [.int a, .int b] [14] (kX7_changeDate l E am μ hvm a b) caX7_changeDate q6_237 rfl ⟨Nat.le_of_ble_eq_true rfl, Nat.le_of_ble_eq_true rfl⟩ ⟨hk, hn⟩ 14 0 rfl rfl rfl rfl (by decide) rfl rfl rfl rfl (Nat.le_of_ble_eq_true rfl) dL_law_1036 rfl ?_
    refine g_istore C (lv1 := [(6, .int ((fX7_changeDate μ a b).1)), (5, .int 2), (0, .ref b0), (1, .ref ax), (2, .ref (am 0)), (3, .ref ao), (4, .int (nI i))]) dL_law_1039 (by decide) rfl ?_
    refine g_aload_n C dL_law_1041 rfl 4 rfl ?_
    refine g_callV C (cs1 := [wX ax (bo 0) (tr 0) (ac 0) (ah 0) (at_ 0), wB E bo ((fX6_changeDate β η σ a b).2.1), wB E tr τ, wC E ac γ, wH E ah bd ((fX6_changeDate β η σ a b).2.2.1), wT E at_ θ, wB E (bd 2) ((fX6_changeDate β η σ a b).2.2.2 2), wB E (bd 3) ((fX6_changeDate β η σ a b).2.2.2 3), wB E (bd 4) ((fX6_changeDate β η σ a b).2.2.2 4), wB E (bd 5) ((fX6_changeDate β η σ a b).2.2.2 5), wB E (bd 6) ((fX6_changeDate β η σ a b).2.2.2 6), wB E (bd 7) ((fX6_changeDate β η σ a b).2.2.2 7), wB E (bd 8) ((fX6_changeDate β η σ a b).2.2.2 8), wB E (bd 9) ((fX6_changeDate β η σ a b).2.2.2 9), wM E am ((fX7_changeDate μ a b).2), wO E ao o]) (st1 := [.int (fX7_thrown ((fX7_changeDate μ a b).2))]) [] [14] (kX7_thrown l E am ((fX7_changeDate μ a b).2)) caX7_thrown q6_117 rfl ⟨Nat.le_of_ble_eq_true rfl, Nat.le_of_ble_eq_true rfl⟩ ⟨hk, hn⟩ 14 0 rfl rfl rfl rfl (by decide) rfl rfl rfl rfl (Nat.le_of_ble_eq_true rfl) dL_law_1042 rfl ?_
    refine g_iload C dL_law_1045 1 rfl ?_
    refine g_icmp_eq C 1052 dL_law_1047 (by decide) (fun _ => ?_) (fun c => absurd ht c)
    refine g_iload C dL_law_1052 1 rfl ?_
    refine g_if_ne C 1069 dL_law_1054 (by decide) (fun _ => ?_) (fun c => absurd c (by decide))
    refine g_goto C 3840 dL_law_1069 (by decide) ?_
    exact g_sub [2, 3, 4, 5, 6] rfl (next ((fX6_changeDate β η σ a b).2.1) τ γ ((fX6_changeDate β η σ a b).2.2.1) ((fX6_changeDate β η σ a b).2.2.2) θ ((fX7_changeDate μ a b).2) o hR2)
set_option maxHeartbeats 4000000 in
set_option maxRecDepth 100000 in
theorem arm_11 {Rl : RlT} (hRv : RlV Rl) (hs : sH_endDays Rl)  {X : gX} {l : Launch} {E : gE} (C : gC X cL_law 9 RL (some .boolean) l E room_1) (hZ : gZ X.2.2.2.2.2.2.2.2.2.2.2.1 X.2.2.2.2.1 X.2.2.2.2.1.heap) (hNc : gNc X.2.2.2.2.1) {b0 L0 : Nat} {xs : Nat → Int32} (S : gS X b0 L0 xs) (hlt : l.stackTraces = false) {ax : Nat} {bo tr ac ah : Nat → Nat} {bd : Nat → Nat → Nat} {at_ am : Nat → Nat} {ao k n i : Nat} (hk : k + 3 ≤ 601024) (hn : n + 18 ≤ 7293034) (hi : i + 3 ≤ L0) {β τ γ η : BS} {σ : Nat → BS} {θ μ : BS} {o : Nat → Int64} (hR : Rl β η θ σ μ) (next : ∀ (β τ γ η : BS) (σ : Nat → BS) (θ μ : BS) (o : Nat → Int64), Rl β η θ σ μ → G X (k + 3) (n + 18) [wX ax (bo 0) (tr 0) (ac 0) (ah 0) (at_ 0), wB E bo β, wB E tr τ, wC E ac γ, wH E ah bd η, wT E at_ θ, wB E (bd 2) (σ 2), wB E (bd 3) (σ 3), wB E (bd 4) (σ 4), wB E (bd 5) (σ 5), wB E (bd 6) (σ 6), wB E (bd 7) (σ 7), wB E (bd 8) (σ 8), wB E (bd 9) (σ 9), wM E am μ, wO E ao o] [(0, .ref b0), (1, .ref ax), (2, .ref (am 0)), (3, .ref ao), (4, .int (nI i))] 3840 []) : G X k n [wX ax (bo 0) (tr 0) (ac 0) (ah 0) (at_ 0), wB E bo β, wB E tr τ, wC E ac γ, wH E ah bd η, wT E at_ θ, wB E (bd 2) (σ 2), wB E (bd 3) (σ 3), wB E (bd 4) (σ 4), wB E (bd 5) (σ 5), wB E (bd 6) (σ 6), wB E (bd 7) (σ 7), wB E (bd 8) (σ 8), wB E (bd 9) (σ 9), wM E am μ, wO E ao o] [(0, .ref b0), (1, .ref ax), (2, .ref (am 0)), (3, .ref ao), (4, .int (nI i))] 1072 [] := by
  obtain ⟨hvb, hvh, hvt, hvm, ha⟩ := hRv β η θ σ μ hR
  obtain ⟨a, ha9⟩ : ∃ a, xs (i + 1) = a := ⟨_, rfl⟩
  obtain ⟨hag, hR2⟩ := hs β τ γ η σ θ μ a hR
  rcases hag with ⟨hr, ht⟩ | ⟨hr, ht⟩ | ⟨hr, ht⟩
  · skip
    refine g_aload_n C dL_law_1072 rfl 1 rfl ?_
    refine g_aload_n C dL_law_1073 rfl 0 rfl ?_
    refine g_iload C dL_law_1074 4 rfl ?_
    refine g_iconst C (v := 1) dL_law_1076 (by decide) ?_
    refine g_iadd C dL_law_1077 ?_
    refine g_sldv C S (i + 1) (nx_add (rfl : nI i = nI i) (rfl : (1 : Int32) = nI 1)) (by omega) ha9 dL_law_1078 ?_
    refine g_aload_n C dL_law_1079 rfl 3 rfl ?_
    refine g_callSW C hZ hNc (cs1 := [wX ax (bo 0) (tr 0) (ac 0) (ah 0) (at_ 0), wB E bo ((fX6_endDays β η σ a).2.1), wB E tr τ, wC E ac γ, wH E ah bd ((fX6_endDays β η σ a).2.2.1), wT E at_ θ, wB E (bd 2) ((fX6_endDays β η σ a).2.2.2 2), wB E (bd 3) ((fX6_endDays β η σ a).2.2.2 3), wB E (bd 4) ((fX6_endDays β η σ a).2.2.2 4), wB E (bd 5) ((fX6_endDays β η σ a).2.2.2 5), wB E (bd 6) ((fX6_endDays β η σ a).2.2.2 6), wB E (bd 7) ((fX6_endDays β η σ a).2.2.2 7), wB E (bd 8) ((fX6_endDays β η σ a).2.2.2 8), wB E (bd 9) ((fX6_endDays β η σ a).2.2.2 9), wM E am μ, wO E ao (vp_updL o 0 v.toInt64)]) (st1 := [.int 0]) [.ref ax, .int a, .ref ao] [0, 1, 2, 3, 4, 5, 6, 7, 8, 9, 10, 11, 12, 13, 15] (kL_endDays_r l E ax bo β tr τ ac γ ah bd η σ at_ θ ao o hlt hvb hvh a ((fX7_endDays μ a).1) hr) q4_106 q1_0 (by decide +kernel) q4_105 q4_104 rfl ⟨Nat.le_of_ble_eq_true rfl, Nat.le_of_ble_eq_true rfl⟩ ⟨hk, hn⟩ (by decide) rfl rfl rfl rfl (Nat.le_of_ble_eq_true rfl) dL_law_1080 rfl ?_
    refine g_istore C (lv1 := [(5, .int 0), (0, .ref b0), (1, .ref ax), (2, .ref (am 0)), (3, .ref ao), (4, .int (nI i))]) dL_law_1083 (by decide) rfl ?_
    refine g_aload_n C dL_law_1085 rfl 3 rfl ?_
    refine g_aload_n C dL_law_1086 rfl 1 rfl ?_
    refine g_iload C dL_law_1087 5 rfl ?_
    refine g_iconst C (v := 1) dL_law_1089 (by decide) ?_
    refine g_iadd C dL_law_1090 ?_
    refine g_sldv C S (i + 1) (nx_add (rfl : nI i = nI i) (rfl : (1 : Int32) = nI 1)) (by omega) ha9 dL_law_1091 ?_
    refine g_callV C (cs1 := [wX ax (bo 0) (tr 0) (ac 0) (ah 0) (at_ 0), wB E bo ((fX6_endDays β η σ a).2.1), wB E tr τ, wC E ac γ, wH E ah bd ((fX6_endDays β η σ a).2.2.1), wT E at_ θ, wB E (bd 2) ((fX6_endDays β η σ a).2.2.2 2), wB E (bd 3) ((fX6_endDays β η σ a).2.2.2 3), wB E (bd 4) ((fX6_endDays β η σ a).2.2.2 4), wB E (bd 5) ((fX6_endDays β η σ a).2.2.2 5), wB E (bd 6) ((fX6_endDays β η σ a).2.2.2 6), wB E (bd 7) ((fX6_endDays β η σ a).2.2.2 7), wB E (bd 8) ((fX6_endDays β η σ a).2.2.2 8), wB E (bd 9) ((fX6_endDays β η σ a).2.2.2 9), wM E am ((fX7_endDays μ a).2), wO E ao (vp_updL o 0 v.toInt64)]) (st1 := [.int ((fX7_endDays μ a).1)]) [.int a] [14] (kX7_endDays l E am μ hvm a) caX7_endDays q7_1 rfl ⟨Nat.le_of_ble_eq_true rfl, Nat.le_of_ble_eq_true rfl⟩ ⟨hk, hn⟩ 14 0 rfl rfl rfl rfl (by decide) rfl rfl rfl rfl (Nat.le_of_ble_eq_true rfl) dL_law_1092 rfl ?_
    refine g_istore C (lv1 := [(6, .int ((fX7_endDays μ a).1)), (5, .int 0), (0, .ref b0), (1, .ref ax), (2, .ref (am 0)), (3, .ref ao), (4, .int (nI i))]) dL_law_1095 (by decide) rfl ?_
    refine g_aload_n C dL_law_1097 rfl 4 rfl ?_
    refine g_callV C (cs1 := [wX ax (bo 0) (tr 0) (ac 0) (ah 0) (at_ 0), wB E bo ((fX6_endDays β η σ a).2.1), wB E tr τ, wC E ac γ, wH E ah bd ((fX6_endDays β η σ a).2.2.1), wT E at_ θ, wB E (bd 2) ((fX6_endDays β η σ a).2.2.2 2), wB E (bd 3) ((fX6_endDays β η σ a).2.2.2 3), wB E (bd 4) ((fX6_endDays β η σ a).2.2.2 4), wB E (bd 5) ((fX6_endDays β η σ a).2.2.2 5), wB E (bd 6) ((fX6_endDays β η σ a).2.2.2 6), wB E (bd 7) ((fX6_endDays β η σ a).2.2.2 7), wB E (bd 8) ((fX6_endDays β η σ a).2.2.2 8), wB E (bd 9) ((fX6_endDays β η σ a).2.2.2 9), wM E am ((fX7_endDays μ a).2), wO E ao (vp_updL o 0 v.toInt64)]) (st1 := [.int (fX7_thrown ((fX7_endDays μ a).2))]) [] [14] (kX7_thrown l E am ((fX7_endDays μ a).2)) caX7_thrown q6_117 rfl ⟨Nat.le_of_ble_eq_true rfl, Nat.le_of_ble_eq_true rfl⟩ ⟨hk, hn⟩ 14 0 rfl rfl rfl rfl (by decide) rfl rfl rfl rfl (Nat.le_of_ble_eq_true rfl) dL_law_1098 rfl ?_
    refine g_iload C dL_law_1101 1 rfl ?_
    refine g_icmp_eq C 1108 dL_law_1103 (by decide) (fun _ => ?_) (fun c => absurd ht c)
    refine g_iload C dL_law_1108 1 rfl ?_
    refine g_if_ne C 1125 dL_law_1110 (by decide) (fun c => absurd rfl c) (fun _ => ?_)
    refine g_aload_n C dL_law_1113 rfl 5 rfl ?_
    refine g_iconst C (v := 0) dL_law_1114 (by decide) ?_
    refine g_laldn C 15 0 0 rfl rfl rfl (by decide) (by decide) dL_law_1115 ?_
    refine g_iload C dL_law_1116 0 rfl ?_
    refine g_i2l C dL_law_1118 ?_
    refine g_lcmp C dL_law_1119 ?_
    refine g_if_eq C 1125 dL_law_1120 (by decide) (fun _ => ?_) (fun c => absurd law_cmp c)
    refine g_goto C 3840 dL_law_1125 (by decide) ?_
    exact g_sub [2, 3, 4, 5, 6] rfl (next ((fX6_endDays β η σ a).2.1) τ γ ((fX6_endDays β η σ a).2.2.1) ((fX6_endDays β η σ a).2.2.2) θ ((fX7_endDays μ a).2) (vp_updL o 0 v.toInt64) hR2)
  · skip
    refine g_aload_n C dL_law_1072 rfl 1 rfl ?_
    refine g_aload_n C dL_law_1073 rfl 0 rfl ?_
    refine g_iload C dL_law_1074 4 rfl ?_
    refine g_iconst C (v := 1) dL_law_1076 (by decide) ?_
    refine g_iadd C dL_law_1077 ?_
    refine g_sldv C S (i + 1) (nx_add (rfl : nI i = nI i) (rfl : (1 : Int32) = nI 1)) (by omega) ha9 dL_law_1078 ?_
    refine g_aload_n C dL_law_1079 rfl 3 rfl ?_
    refine g_callSW C hZ hNc (cs1 := [wX ax (bo 0) (tr 0) (ac 0) (ah 0) (at_ 0), wB E bo ((fX6_endDays β η σ a).2.1), wB E tr τ, wC E ac γ, wH E ah bd ((fX6_endDays β η σ a).2.2.1), wT E at_ θ, wB E (bd 2) ((fX6_endDays β η σ a).2.2.2 2), wB E (bd 3) ((fX6_endDays β η σ a).2.2.2 3), wB E (bd 4) ((fX6_endDays β η σ a).2.2.2 4), wB E (bd 5) ((fX6_endDays β η σ a).2.2.2 5), wB E (bd 6) ((fX6_endDays β η σ a).2.2.2 6), wB E (bd 7) ((fX6_endDays β η σ a).2.2.2 7), wB E (bd 8) ((fX6_endDays β η σ a).2.2.2 8), wB E (bd 9) ((fX6_endDays β η σ a).2.2.2 9), wM E am μ, wO E ao o]) (st1 := [.int 1]) [.ref ax, .int a, .ref ao] [0, 1, 2, 3, 4, 5, 6, 7, 8, 9, 10, 11, 12, 13, 15] (kL_endDays_0 l E ax bo β tr τ ac γ ah bd η σ at_ θ ao o hlt hvb hvh a hr) q4_106 q1_0 (by decide +kernel) q4_105 q4_104 rfl ⟨Nat.le_of_ble_eq_true rfl, Nat.le_of_ble_eq_true rfl⟩ ⟨hk, hn⟩ (by decide) rfl rfl rfl rfl (Nat.le_of_ble_eq_true rfl) dL_law_1080 rfl ?_
    refine g_istore C (lv1 := [(5, .int 1), (0, .ref b0), (1, .ref ax), (2, .ref (am 0)), (3, .ref ao), (4, .int (nI i))]) dL_law_1083 (by decide) rfl ?_
    refine g_aload_n C dL_law_1085 rfl 3 rfl ?_
    refine g_aload_n C dL_law_1086 rfl 1 rfl ?_
    refine g_iload C dL_law_1087 5 rfl ?_
    refine g_iconst C (v := 1) dL_law_1089 (by decide) ?_
    refine g_iadd C dL_law_1090 ?_
    refine g_sldv C S (i + 1) (nx_add (rfl : nI i = nI i) (rfl : (1 : Int32) = nI 1)) (by omega) ha9 dL_law_1091 ?_
    refine g_callV C (cs1 := [wX ax (bo 0) (tr 0) (ac 0) (ah 0) (at_ 0), wB E bo ((fX6_endDays β η σ a).2.1), wB E tr τ, wC E ac γ, wH E ah bd ((fX6_endDays β η σ a).2.2.1), wT E at_ θ, wB E (bd 2) ((fX6_endDays β η σ a).2.2.2 2), wB E (bd 3) ((fX6_endDays β η σ a).2.2.2 3), wB E (bd 4) ((fX6_endDays β η σ a).2.2.2 4), wB E (bd 5) ((fX6_endDays β η σ a).2.2.2 5), wB E (bd 6) ((fX6_endDays β η σ a).2.2.2 6), wB E (bd 7) ((fX6_endDays β η σ a).2.2.2 7), wB E (bd 8) ((fX6_endDays β η σ a).2.2.2 8), wB E (bd 9) ((fX6_endDays β η σ a).2.2.2 9), wM E am ((fX7_endDays μ a).2), wO E ao o]) (st1 := [.int ((fX7_endDays μ a).1)]) [.int a] [14] (kX7_endDays l E am μ hvm a) caX7_endDays q7_1 rfl ⟨Nat.le_of_ble_eq_true rfl, Nat.le_of_ble_eq_true rfl⟩ ⟨hk, hn⟩ 14 0 rfl rfl rfl rfl (by decide) rfl rfl rfl rfl (Nat.le_of_ble_eq_true rfl) dL_law_1092 rfl ?_
    refine g_istore C (lv1 := [(6, .int ((fX7_endDays μ a).1)), (5, .int 1), (0, .ref b0), (1, .ref ax), (2, .ref (am 0)), (3, .ref ao), (4, .int (nI i))]) dL_law_1095 (by decide) rfl ?_
    refine g_aload_n C dL_law_1097 rfl 4 rfl ?_
    refine g_callV C (cs1 := [wX ax (bo 0) (tr 0) (ac 0) (ah 0) (at_ 0), wB E bo ((fX6_endDays β η σ a).2.1), wB E tr τ, wC E ac γ, wH E ah bd ((fX6_endDays β η σ a).2.2.1), wT E at_ θ, wB E (bd 2) ((fX6_endDays β η σ a).2.2.2 2), wB E (bd 3) ((fX6_endDays β η σ a).2.2.2 3), wB E (bd 4) ((fX6_endDays β η σ a).2.2.2 4), wB E (bd 5) ((fX6_endDays β η σ a).2.2.2 5), wB E (bd 6) ((fX6_endDays β η σ a).2.2.2 6), wB E (bd 7) ((fX6_endDays β η σ a).2.2.2 7), wB E (bd 8) ((fX6_endDays β η σ a).2.2.2 8), wB E (bd 9) ((fX6_endDays β η σ a).2.2.2 9), wM E am ((fX7_endDays μ a).2), wO E ao o]) (st1 := [.int (fX7_thrown ((fX7_endDays μ a).2))]) [] [14] (kX7_thrown l E am ((fX7_endDays μ a).2)) caX7_thrown q6_117 rfl ⟨Nat.le_of_ble_eq_true rfl, Nat.le_of_ble_eq_true rfl⟩ ⟨hk, hn⟩ 14 0 rfl rfl rfl rfl (by decide) rfl rfl rfl rfl (Nat.le_of_ble_eq_true rfl) dL_law_1098 rfl ?_
    refine g_iload C dL_law_1101 1 rfl ?_
    refine g_icmp_eq C 1108 dL_law_1103 (by decide) (fun _ => ?_) (fun c => absurd ht c)
    refine g_iload C dL_law_1108 1 rfl ?_
    refine g_if_ne C 1125 dL_law_1110 (by decide) (fun _ => ?_) (fun c => absurd c (by decide))
    refine g_goto C 3840 dL_law_1125 (by decide) ?_
    exact g_sub [2, 3, 4, 5, 6] rfl (next ((fX6_endDays β η σ a).2.1) τ γ ((fX6_endDays β η σ a).2.2.1) ((fX6_endDays β η σ a).2.2.2) θ ((fX7_endDays μ a).2) o hR2)
  · skip
    refine g_aload_n C dL_law_1072 rfl 1 rfl ?_
    refine g_aload_n C dL_law_1073 rfl 0 rfl ?_
    refine g_iload C dL_law_1074 4 rfl ?_
    refine g_iconst C (v := 1) dL_law_1076 (by decide) ?_
    refine g_iadd C dL_law_1077 ?_
    refine g_sldv C S (i + 1) (nx_add (rfl : nI i = nI i) (rfl : (1 : Int32) = nI 1)) (by omega) ha9 dL_law_1078 ?_
    refine g_aload_n C dL_law_1079 rfl 3 rfl ?_
    refine g_callSW C hZ hNc (cs1 := [wX ax (bo 0) (tr 0) (ac 0) (ah 0) (at_ 0), wB E bo ((fX6_endDays β η σ a).2.1), wB E tr τ, wC E ac γ, wH E ah bd ((fX6_endDays β η σ a).2.2.1), wT E at_ θ, wB E (bd 2) ((fX6_endDays β η σ a).2.2.2 2), wB E (bd 3) ((fX6_endDays β η σ a).2.2.2 3), wB E (bd 4) ((fX6_endDays β η σ a).2.2.2 4), wB E (bd 5) ((fX6_endDays β η σ a).2.2.2 5), wB E (bd 6) ((fX6_endDays β η σ a).2.2.2 6), wB E (bd 7) ((fX6_endDays β η σ a).2.2.2 7), wB E (bd 8) ((fX6_endDays β η σ a).2.2.2 8), wB E (bd 9) ((fX6_endDays β η σ a).2.2.2 9), wM E am μ, wO E ao o]) (st1 := [.int 2]) [.ref ax, .int a, .ref ao] [0, 1, 2, 3, 4, 5, 6, 7, 8, 9, 10, 11, 12, 13, 15] (kL_endDays_1 l E ax bo β tr τ ac γ ah bd η σ at_ θ ao o hlt hvb hvh a hr) q4_106 q1_0 (by decide +kernel) q4_105 q4_104 rfl ⟨Nat.le_of_ble_eq_true rfl, Nat.le_of_ble_eq_true rfl⟩ ⟨hk, hn⟩ (by decide) rfl rfl rfl rfl (Nat.le_of_ble_eq_true rfl) dL_law_1080 rfl ?_
    refine g_istore C (lv1 := [(5, .int 2), (0, .ref b0), (1, .ref ax), (2, .ref (am 0)), (3, .ref ao), (4, .int (nI i))]) dL_law_1083 (by decide) rfl ?_
    refine g_aload_n C dL_law_1085 rfl 3 rfl ?_
    refine g_aload_n C dL_law_1086 rfl 1 rfl ?_
    refine g_iload C dL_law_1087 5 rfl ?_
    refine g_iconst C (v := 1) dL_law_1089 (by decide) ?_
    refine g_iadd C dL_law_1090 ?_
    refine g_sldv C S (i + 1) (nx_add (rfl : nI i = nI i) (rfl : (1 : Int32) = nI 1)) (by omega) ha9 dL_law_1091 ?_
    refine g_callV C (cs1 := [wX ax (bo 0) (tr 0) (ac 0) (ah 0) (at_ 0), wB E bo ((fX6_endDays β η σ a).2.1), wB E tr τ, wC E ac γ, wH E ah bd ((fX6_endDays β η σ a).2.2.1), wT E at_ θ, wB E (bd 2) ((fX6_endDays β η σ a).2.2.2 2), wB E (bd 3) ((fX6_endDays β η σ a).2.2.2 3), wB E (bd 4) ((fX6_endDays β η σ a).2.2.2 4), wB E (bd 5) ((fX6_endDays β η σ a).2.2.2 5), wB E (bd 6) ((fX6_endDays β η σ a).2.2.2 6), wB E (bd 7) ((fX6_endDays β η σ a).2.2.2 7), wB E (bd 8) ((fX6_endDays β η σ a).2.2.2 8), wB E (bd 9) ((fX6_endDays β η σ a).2.2.2 9), wM E am ((fX7_endDays μ a).2), wO E ao o]) (st1 := [.int ((fX7_endDays μ a).1)]) [.int a] [14] (kX7_endDays l E am μ hvm a) caX7_endDays q7_1 rfl ⟨Nat.le_of_ble_eq_true rfl, Nat.le_of_ble_eq_true rfl⟩ ⟨hk, hn⟩ 14 0 rfl rfl rfl rfl (by decide) rfl rfl rfl rfl (Nat.le_of_ble_eq_true rfl) dL_law_1092 rfl ?_
    refine g_istore C (lv1 := [(6, .int ((fX7_endDays μ a).1)), (5, .int 2), (0, .ref b0), (1, .ref ax), (2, .ref (am 0)), (3, .ref ao), (4, .int (nI i))]) dL_law_1095 (by decide) rfl ?_
    refine g_aload_n C dL_law_1097 rfl 4 rfl ?_
    refine g_callV C (cs1 := [wX ax (bo 0) (tr 0) (ac 0) (ah 0) (at_ 0), wB E bo ((fX6_endDays β η σ a).2.1), wB E tr τ, wC E ac γ, wH E ah bd ((fX6_endDays β η σ a).2.2.1), wT E at_ θ, wB E (bd 2) ((fX6_endDays β η σ a).2.2.2 2), wB E (bd 3) ((fX6_endDays β η σ a).2.2.2 3), wB E (bd 4) ((fX6_endDays β η σ a).2.2.2 4), wB E (bd 5) ((fX6_endDays β η σ a).2.2.2 5), wB E (bd 6) ((fX6_endDays β η σ a).2.2.2 6), wB E (bd 7) ((fX6_endDays β η σ a).2.2.2 7), wB E (bd 8) ((fX6_endDays β η σ a).2.2.2 8), wB E (bd 9) ((fX6_endDays β η σ a).2.2.2 9), wM E am ((fX7_endDays μ a).2), wO E ao o]) (st1 := [.int (fX7_thrown ((fX7_endDays μ a).2))]) [] [14] (kX7_thrown l E am ((fX7_endDays μ a).2)) caX7_thrown q6_117 rfl ⟨Nat.le_of_ble_eq_true rfl, Nat.le_of_ble_eq_true rfl⟩ ⟨hk, hn⟩ 14 0 rfl rfl rfl rfl (by decide) rfl rfl rfl rfl (Nat.le_of_ble_eq_true rfl) dL_law_1098 rfl ?_
    refine g_iload C dL_law_1101 1 rfl ?_
    refine g_icmp_eq C 1108 dL_law_1103 (by decide) (fun _ => ?_) (fun c => absurd ht c)
    refine g_iload C dL_law_1108 1 rfl ?_
    refine g_if_ne C 1125 dL_law_1110 (by decide) (fun _ => ?_) (fun c => absurd c (by decide))
    refine g_goto C 3840 dL_law_1125 (by decide) ?_
    exact g_sub [2, 3, 4, 5, 6] rfl (next ((fX6_endDays β η σ a).2.1) τ γ ((fX6_endDays β η σ a).2.2.1) ((fX6_endDays β η σ a).2.2.2) θ ((fX7_endDays μ a).2) o hR2)
set_option maxHeartbeats 4000000 in
set_option maxRecDepth 100000 in
theorem arm_12 {Rl : RlT} (hRv : RlV Rl) (hs : sH_start Rl)  {X : gX} {l : Launch} {E : gE} (C : gC X cL_law 9 RL (some .boolean) l E room_1) (hZ : gZ X.2.2.2.2.2.2.2.2.2.2.2.1 X.2.2.2.2.1 X.2.2.2.2.1.heap) (hNc : gNc X.2.2.2.2.1) {b0 L0 : Nat} {xs : Nat → Int32} (S : gS X b0 L0 xs) (hlt : l.stackTraces = false) {ax : Nat} {bo tr ac ah : Nat → Nat} {bd : Nat → Nat → Nat} {at_ am : Nat → Nat} {ao k n i : Nat} (hk : k + 3 ≤ 601024) (hn : n + 18 ≤ 7293034) (hi : i + 3 ≤ L0) {β τ γ η : BS} {σ : Nat → BS} {θ μ : BS} {o : Nat → Int64} (hR : Rl β η θ σ μ) (next : ∀ (β τ γ η : BS) (σ : Nat → BS) (θ μ : BS) (o : Nat → Int64), Rl β η θ σ μ → G X (k + 3) (n + 18) [wX ax (bo 0) (tr 0) (ac 0) (ah 0) (at_ 0), wB E bo β, wB E tr τ, wC E ac γ, wH E ah bd η, wT E at_ θ, wB E (bd 2) (σ 2), wB E (bd 3) (σ 3), wB E (bd 4) (σ 4), wB E (bd 5) (σ 5), wB E (bd 6) (σ 6), wB E (bd 7) (σ 7), wB E (bd 8) (σ 8), wB E (bd 9) (σ 9), wM E am μ, wO E ao o] [(0, .ref b0), (1, .ref ax), (2, .ref (am 0)), (3, .ref ao), (4, .int (nI i))] 3840 []) : G X k n [wX ax (bo 0) (tr 0) (ac 0) (ah 0) (at_ 0), wB E bo β, wB E tr τ, wC E ac γ, wH E ah bd η, wT E at_ θ, wB E (bd 2) (σ 2), wB E (bd 3) (σ 3), wB E (bd 4) (σ 4), wB E (bd 5) (σ 5), wB E (bd 6) (σ 6), wB E (bd 7) (σ 7), wB E (bd 8) (σ 8), wB E (bd 9) (σ 9), wM E am μ, wO E ao o] [(0, .ref b0), (1, .ref ax), (2, .ref (am 0)), (3, .ref ao), (4, .int (nI i))] 1128 [] := by
  obtain ⟨hvb, hvh, hvt, hvm, ha⟩ := hRv β η θ σ μ hR
  obtain ⟨a, ha9⟩ : ∃ a, xs (i + 1) = a := ⟨_, rfl⟩
  obtain ⟨hag, hR2⟩ := hs β τ γ η σ θ μ a hR
  rcases hag with ⟨hr, ht⟩ | ⟨hr, ht⟩ | ⟨hr, ht⟩
  · skip
    refine g_aload_n C dL_law_1128 rfl 1 rfl ?_
    refine g_aload_n C dL_law_1129 rfl 0 rfl ?_
    refine g_iload C dL_law_1130 4 rfl ?_
    refine g_iconst C (v := 1) dL_law_1132 (by decide) ?_
    refine g_iadd C dL_law_1133 ?_
    refine g_sldv C S (i + 1) (nx_add (rfl : nI i = nI i) (rfl : (1 : Int32) = nI 1)) (by omega) ha9 dL_law_1134 ?_
    refine g_callSW C hZ hNc (cs1 := [wX ax (bo 0) (tr 0) (ac 0) (ah 0) (at_ 0), wB E bo ((fX6_start β η σ a).2.1), wB E tr τ, wC E ac γ, wH E ah bd ((fX6_start β η σ a).2.2.1), wT E at_ θ, wB E (bd 2) ((fX6_start β η σ a).2.2.2 2), wB E (bd 3) ((fX6_start β η σ a).2.2.2 3), wB E (bd 4) ((fX6_start β η σ a).2.2.2 4), wB E (bd 5) ((fX6_start β η σ a).2.2.2 5), wB E (bd 6) ((fX6_start β η σ a).2.2.2 6), wB E (bd 7) ((fX6_start β η σ a).2.2.2 7), wB E (bd 8) ((fX6_start β η σ a).2.2.2 8), wB E (bd 9) ((fX6_start β η σ a).2.2.2 9), wM E am μ, wO E ao o]) (st1 := [.int 0]) [.ref ax, .int a] [0, 1, 2, 3, 4, 5, 6, 7, 8, 9, 10, 11, 12, 13] (kL_start_r l E ax bo β tr τ ac γ ah bd η σ at_ θ hlt hvb hvh a hr) q4_121 q1_0 (by decide +kernel) q4_120 q4_119 rfl ⟨Nat.le_of_ble_eq_true rfl, Nat.le_of_ble_eq_true rfl⟩ ⟨hk, hn⟩ (by decide) rfl rfl rfl rfl (Nat.le_of_ble_eq_true rfl) dL_law_1135 rfl ?_
    refine g_istore C (lv1 := [(5, .int 0), (0, .ref b0), (1, .ref ax), (2, .ref (am 0)), (3, .ref ao), (4, .int (nI i))]) dL_law_1138 (by decide) rfl ?_
    refine g_aload_n C dL_law_1140 rfl 3 rfl ?_
    refine g_aload_n C dL_law_1141 rfl 1 rfl ?_
    refine g_iload C dL_law_1142 5 rfl ?_
    refine g_iconst C (v := 1) dL_law_1144 (by decide) ?_
    refine g_iadd C dL_law_1145 ?_
    refine g_sldv C S (i + 1) (nx_add (rfl : nI i = nI i) (rfl : (1 : Int32) = nI 1)) (by omega) ha9 dL_law_1146 ?_
    refine g_callV C (cs1 := [wX ax (bo 0) (tr 0) (ac 0) (ah 0) (at_ 0), wB E bo ((fX6_start β η σ a).2.1), wB E tr τ, wC E ac γ, wH E ah bd ((fX6_start β η σ a).2.2.1), wT E at_ θ, wB E (bd 2) ((fX6_start β η σ a).2.2.2 2), wB E (bd 3) ((fX6_start β η σ a).2.2.2 3), wB E (bd 4) ((fX6_start β η σ a).2.2.2 4), wB E (bd 5) ((fX6_start β η σ a).2.2.2 5), wB E (bd 6) ((fX6_start β η σ a).2.2.2 6), wB E (bd 7) ((fX6_start β η σ a).2.2.2 7), wB E (bd 8) ((fX6_start β η σ a).2.2.2 8), wB E (bd 9) ((fX6_start β η σ a).2.2.2 9), wM E am (fX7_start μ a), wO E ao o]) (st1 := []) [.int a] [14] (kX7_start l E am μ hvm a) caX7_start q7_9 rfl ⟨Nat.le_of_ble_eq_true rfl, Nat.le_of_ble_eq_true rfl⟩ ⟨hk, hn⟩ 14 0 rfl rfl rfl rfl (by decide) rfl rfl rfl rfl (Nat.le_of_ble_eq_true rfl) dL_law_1147 rfl ?_
    refine g_aload_n C dL_law_1150 rfl 3 rfl ?_
    refine g_callV C (cs1 := [wX ax (bo 0) (tr 0) (ac 0) (ah 0) (at_ 0), wB E bo ((fX6_start β η σ a).2.1), wB E tr τ, wC E ac γ, wH E ah bd ((fX6_start β η σ a).2.2.1), wT E at_ θ, wB E (bd 2) ((fX6_start β η σ a).2.2.2 2), wB E (bd 3) ((fX6_start β η σ a).2.2.2 3), wB E (bd 4) ((fX6_start β η σ a).2.2.2 4), wB E (bd 5) ((fX6_start β η σ a).2.2.2 5), wB E (bd 6) ((fX6_start β η σ a).2.2.2 6), wB E (bd 7) ((fX6_start β η σ a).2.2.2 7), wB E (bd 8) ((fX6_start β η σ a).2.2.2 8), wB E (bd 9) ((fX6_start β η σ a).2.2.2 9), wM E am (fX7_start μ a), wO E ao o]) (st1 := [.int (fX7_thrown (fX7_start μ a))]) [] [14] (kX7_thrown l E am (fX7_start μ a)) caX7_thrown q6_117 rfl ⟨Nat.le_of_ble_eq_true rfl, Nat.le_of_ble_eq_true rfl⟩ ⟨hk, hn⟩ 14 0 rfl rfl rfl rfl (by decide) rfl rfl rfl rfl (Nat.le_of_ble_eq_true rfl) dL_law_1151 rfl ?_
    refine g_iload C dL_law_1154 0 rfl ?_
    refine g_icmp_eq C 1161 dL_law_1156 (by decide) (fun _ => ?_) (fun c => absurd ht c)
    refine g_goto C 3840 dL_law_1161 (by decide) ?_
    exact g_sub [1, 2, 3, 4, 5] rfl (next ((fX6_start β η σ a).2.1) τ γ ((fX6_start β η σ a).2.2.1) ((fX6_start β η σ a).2.2.2) θ (fX7_start μ a) o hR2)
  · skip
    refine g_aload_n C dL_law_1128 rfl 1 rfl ?_
    refine g_aload_n C dL_law_1129 rfl 0 rfl ?_
    refine g_iload C dL_law_1130 4 rfl ?_
    refine g_iconst C (v := 1) dL_law_1132 (by decide) ?_
    refine g_iadd C dL_law_1133 ?_
    refine g_sldv C S (i + 1) (nx_add (rfl : nI i = nI i) (rfl : (1 : Int32) = nI 1)) (by omega) ha9 dL_law_1134 ?_
    refine g_callSW C hZ hNc (cs1 := [wX ax (bo 0) (tr 0) (ac 0) (ah 0) (at_ 0), wB E bo ((fX6_start β η σ a).2.1), wB E tr τ, wC E ac γ, wH E ah bd ((fX6_start β η σ a).2.2.1), wT E at_ θ, wB E (bd 2) ((fX6_start β η σ a).2.2.2 2), wB E (bd 3) ((fX6_start β η σ a).2.2.2 3), wB E (bd 4) ((fX6_start β η σ a).2.2.2 4), wB E (bd 5) ((fX6_start β η σ a).2.2.2 5), wB E (bd 6) ((fX6_start β η σ a).2.2.2 6), wB E (bd 7) ((fX6_start β η σ a).2.2.2 7), wB E (bd 8) ((fX6_start β η σ a).2.2.2 8), wB E (bd 9) ((fX6_start β η σ a).2.2.2 9), wM E am μ, wO E ao o]) (st1 := [.int 1]) [.ref ax, .int a] [0, 1, 2, 3, 4, 5, 6, 7, 8, 9, 10, 11, 12, 13] (kL_start_0 l E ax bo β tr τ ac γ ah bd η σ at_ θ hlt hvb hvh a hr) q4_121 q1_0 (by decide +kernel) q4_120 q4_119 rfl ⟨Nat.le_of_ble_eq_true rfl, Nat.le_of_ble_eq_true rfl⟩ ⟨hk, hn⟩ (by decide) rfl rfl rfl rfl (Nat.le_of_ble_eq_true rfl) dL_law_1135 rfl ?_
    refine g_istore C (lv1 := [(5, .int 1), (0, .ref b0), (1, .ref ax), (2, .ref (am 0)), (3, .ref ao), (4, .int (nI i))]) dL_law_1138 (by decide) rfl ?_
    refine g_aload_n C dL_law_1140 rfl 3 rfl ?_
    refine g_aload_n C dL_law_1141 rfl 1 rfl ?_
    refine g_iload C dL_law_1142 5 rfl ?_
    refine g_iconst C (v := 1) dL_law_1144 (by decide) ?_
    refine g_iadd C dL_law_1145 ?_
    refine g_sldv C S (i + 1) (nx_add (rfl : nI i = nI i) (rfl : (1 : Int32) = nI 1)) (by omega) ha9 dL_law_1146 ?_
    refine g_callV C (cs1 := [wX ax (bo 0) (tr 0) (ac 0) (ah 0) (at_ 0), wB E bo ((fX6_start β η σ a).2.1), wB E tr τ, wC E ac γ, wH E ah bd ((fX6_start β η σ a).2.2.1), wT E at_ θ, wB E (bd 2) ((fX6_start β η σ a).2.2.2 2), wB E (bd 3) ((fX6_start β η σ a).2.2.2 3), wB E (bd 4) ((fX6_start β η σ a).2.2.2 4), wB E (bd 5) ((fX6_start β η σ a).2.2.2 5), wB E (bd 6) ((fX6_start β η σ a).2.2.2 6), wB E (bd 7) ((fX6_start β η σ a).2.2.2 7), wB E (bd 8) ((fX6_start β η σ a).2.2.2 8), wB E (bd 9) ((fX6_start β η σ a).2.2.2 9), wM E am (fX7_start μ a), wO E ao o]) (st1 := []) [.int a] [14] (kX7_start l E am μ hvm a) caX7_start q7_9 rfl ⟨Nat.le_of_ble_eq_true rfl, Nat.le_of_ble_eq_true rfl⟩ ⟨hk, hn⟩ 14 0 rfl rfl rfl rfl (by decide) rfl rfl rfl rfl (Nat.le_of_ble_eq_true rfl) dL_law_1147 rfl ?_
    refine g_aload_n C dL_law_1150 rfl 3 rfl ?_
    refine g_callV C (cs1 := [wX ax (bo 0) (tr 0) (ac 0) (ah 0) (at_ 0), wB E bo ((fX6_start β η σ a).2.1), wB E tr τ, wC E ac γ, wH E ah bd ((fX6_start β η σ a).2.2.1), wT E at_ θ, wB E (bd 2) ((fX6_start β η σ a).2.2.2 2), wB E (bd 3) ((fX6_start β η σ a).2.2.2 3), wB E (bd 4) ((fX6_start β η σ a).2.2.2 4), wB E (bd 5) ((fX6_start β η σ a).2.2.2 5), wB E (bd 6) ((fX6_start β η σ a).2.2.2 6), wB E (bd 7) ((fX6_start β η σ a).2.2.2 7), wB E (bd 8) ((fX6_start β η σ a).2.2.2 8), wB E (bd 9) ((fX6_start β η σ a).2.2.2 9), wM E am (fX7_start μ a), wO E ao o]) (st1 := [.int (fX7_thrown (fX7_start μ a))]) [] [14] (kX7_thrown l E am (fX7_start μ a)) caX7_thrown q6_117 rfl ⟨Nat.le_of_ble_eq_true rfl, Nat.le_of_ble_eq_true rfl⟩ ⟨hk, hn⟩ 14 0 rfl rfl rfl rfl (by decide) rfl rfl rfl rfl (Nat.le_of_ble_eq_true rfl) dL_law_1151 rfl ?_
    refine g_iload C dL_law_1154 0 rfl ?_
    refine g_icmp_eq C 1161 dL_law_1156 (by decide) (fun _ => ?_) (fun c => absurd ht c)
    refine g_goto C 3840 dL_law_1161 (by decide) ?_
    exact g_sub [1, 2, 3, 4, 5] rfl (next ((fX6_start β η σ a).2.1) τ γ ((fX6_start β η σ a).2.2.1) ((fX6_start β η σ a).2.2.2) θ (fX7_start μ a) o hR2)
  · skip
    refine g_aload_n C dL_law_1128 rfl 1 rfl ?_
    refine g_aload_n C dL_law_1129 rfl 0 rfl ?_
    refine g_iload C dL_law_1130 4 rfl ?_
    refine g_iconst C (v := 1) dL_law_1132 (by decide) ?_
    refine g_iadd C dL_law_1133 ?_
    refine g_sldv C S (i + 1) (nx_add (rfl : nI i = nI i) (rfl : (1 : Int32) = nI 1)) (by omega) ha9 dL_law_1134 ?_
    refine g_callSW C hZ hNc (cs1 := [wX ax (bo 0) (tr 0) (ac 0) (ah 0) (at_ 0), wB E bo ((fX6_start β η σ a).2.1), wB E tr τ, wC E ac γ, wH E ah bd ((fX6_start β η σ a).2.2.1), wT E at_ θ, wB E (bd 2) ((fX6_start β η σ a).2.2.2 2), wB E (bd 3) ((fX6_start β η σ a).2.2.2 3), wB E (bd 4) ((fX6_start β η σ a).2.2.2 4), wB E (bd 5) ((fX6_start β η σ a).2.2.2 5), wB E (bd 6) ((fX6_start β η σ a).2.2.2 6), wB E (bd 7) ((fX6_start β η σ a).2.2.2 7), wB E (bd 8) ((fX6_start β η σ a).2.2.2 8), wB E (bd 9) ((fX6_start β η σ a).2.2.2 9), wM E am μ, wO E ao o]) (st1 := [.int 2]) [.ref ax, .int a] [0, 1, 2, 3, 4, 5, 6, 7, 8, 9, 10, 11, 12, 13] (kL_start_1 l E ax bo β tr τ ac γ ah bd η σ at_ θ hlt hvb hvh a hr) q4_121 q1_0 (by decide +kernel) q4_120 q4_119 rfl ⟨Nat.le_of_ble_eq_true rfl, Nat.le_of_ble_eq_true rfl⟩ ⟨hk, hn⟩ (by decide) rfl rfl rfl rfl (Nat.le_of_ble_eq_true rfl) dL_law_1135 rfl ?_
    refine g_istore C (lv1 := [(5, .int 2), (0, .ref b0), (1, .ref ax), (2, .ref (am 0)), (3, .ref ao), (4, .int (nI i))]) dL_law_1138 (by decide) rfl ?_
    refine g_aload_n C dL_law_1140 rfl 3 rfl ?_
    refine g_aload_n C dL_law_1141 rfl 1 rfl ?_
    refine g_iload C dL_law_1142 5 rfl ?_
    refine g_iconst C (v := 1) dL_law_1144 (by decide) ?_
    refine g_iadd C dL_law_1145 ?_
    refine g_sldv C S (i + 1) (nx_add (rfl : nI i = nI i) (rfl : (1 : Int32) = nI 1)) (by omega) ha9 dL_law_1146 ?_
    refine g_callV C (cs1 := [wX ax (bo 0) (tr 0) (ac 0) (ah 0) (at_ 0), wB E bo ((fX6_start β η σ a).2.1), wB E tr τ, wC E ac γ, wH E ah bd ((fX6_start β η σ a).2.2.1), wT E at_ θ, wB E (bd 2) ((fX6_start β η σ a).2.2.2 2), wB E (bd 3) ((fX6_start β η σ a).2.2.2 3), wB E (bd 4) ((fX6_start β η σ a).2.2.2 4), wB E (bd 5) ((fX6_start β η σ a).2.2.2 5), wB E (bd 6) ((fX6_start β η σ a).2.2.2 6), wB E (bd 7) ((fX6_start β η σ a).2.2.2 7), wB E (bd 8) ((fX6_start β η σ a).2.2.2 8), wB E (bd 9) ((fX6_start β η σ a).2.2.2 9), wM E am (fX7_start μ a), wO E ao o]) (st1 := []) [.int a] [14] (kX7_start l E am μ hvm a) caX7_start q7_9 rfl ⟨Nat.le_of_ble_eq_true rfl, Nat.le_of_ble_eq_true rfl⟩ ⟨hk, hn⟩ 14 0 rfl rfl rfl rfl (by decide) rfl rfl rfl rfl (Nat.le_of_ble_eq_true rfl) dL_law_1147 rfl ?_
    refine g_aload_n C dL_law_1150 rfl 3 rfl ?_
    refine g_callV C (cs1 := [wX ax (bo 0) (tr 0) (ac 0) (ah 0) (at_ 0), wB E bo ((fX6_start β η σ a).2.1), wB E tr τ, wC E ac γ, wH E ah bd ((fX6_start β η σ a).2.2.1), wT E at_ θ, wB E (bd 2) ((fX6_start β η σ a).2.2.2 2), wB E (bd 3) ((fX6_start β η σ a).2.2.2 3), wB E (bd 4) ((fX6_start β η σ a).2.2.2 4), wB E (bd 5) ((fX6_start β η σ a).2.2.2 5), wB E (bd 6) ((fX6_start β η σ a).2.2.2 6), wB E (bd 7) ((fX6_start β η σ a).2.2.2 7), wB E (bd 8) ((fX6_start β η σ a).2.2.2 8), wB E (bd 9) ((fX6_start β η σ a).2.2.2 9), wM E am (fX7_start μ a), wO E ao o]) (st1 := [.int (fX7_thrown (fX7_start μ a))]) [] [14] (kX7_thrown l E am (fX7_start μ a)) caX7_thrown q6_117 rfl ⟨Nat.le_of_ble_eq_true rfl, Nat.le_of_ble_eq_true rfl⟩ ⟨hk, hn⟩ 14 0 rfl rfl rfl rfl (by decide) rfl rfl rfl rfl (Nat.le_of_ble_eq_true rfl) dL_law_1151 rfl ?_
    refine g_iload C dL_law_1154 0 rfl ?_
    refine g_icmp_eq C 1161 dL_law_1156 (by decide) (fun _ => ?_) (fun c => absurd ht c)
    refine g_goto C 3840 dL_law_1161 (by decide) ?_
    exact g_sub [1, 2, 3, 4, 5] rfl (next ((fX6_start β η σ a).2.1) τ γ ((fX6_start β η σ a).2.2.1) ((fX6_start β η σ a).2.2.2) θ (fX7_start μ a) o hR2)
set_option maxHeartbeats 4000000 in
set_option maxRecDepth 100000 in
theorem arm_13 {Rl : RlT} (hRv : RlV Rl) (hs : sH_submit Rl)  {X : gX} {l : Launch} {E : gE} (C : gC X cL_law 9 RL (some .boolean) l E room_1) (hZ : gZ X.2.2.2.2.2.2.2.2.2.2.2.1 X.2.2.2.2.1 X.2.2.2.2.1.heap) (hNc : gNc X.2.2.2.2.1) {b0 L0 : Nat} {xs : Nat → Int32} (S : gS X b0 L0 xs) (hlt : l.stackTraces = false) {ax : Nat} {bo tr ac ah : Nat → Nat} {bd : Nat → Nat → Nat} {at_ am : Nat → Nat} {ao k n i : Nat} (hk : k + 3 ≤ 601024) (hn : n + 18 ≤ 7293034) (hi : i + 3 ≤ L0) {β τ γ η : BS} {σ : Nat → BS} {θ μ : BS} {o : Nat → Int64} (hR : Rl β η θ σ μ) (next : ∀ (β τ γ η : BS) (σ : Nat → BS) (θ μ : BS) (o : Nat → Int64), Rl β η θ σ μ → G X (k + 3) (n + 18) [wX ax (bo 0) (tr 0) (ac 0) (ah 0) (at_ 0), wB E bo β, wB E tr τ, wC E ac γ, wH E ah bd η, wT E at_ θ, wB E (bd 2) (σ 2), wB E (bd 3) (σ 3), wB E (bd 4) (σ 4), wB E (bd 5) (σ 5), wB E (bd 6) (σ 6), wB E (bd 7) (σ 7), wB E (bd 8) (σ 8), wB E (bd 9) (σ 9), wM E am μ, wO E ao o] [(0, .ref b0), (1, .ref ax), (2, .ref (am 0)), (3, .ref ao), (4, .int (nI i))] 3840 []) : G X k n [wX ax (bo 0) (tr 0) (ac 0) (ah 0) (at_ 0), wB E bo β, wB E tr τ, wC E ac γ, wH E ah bd η, wT E at_ θ, wB E (bd 2) (σ 2), wB E (bd 3) (σ 3), wB E (bd 4) (σ 4), wB E (bd 5) (σ 5), wB E (bd 6) (σ 6), wB E (bd 7) (σ 7), wB E (bd 8) (σ 8), wB E (bd 9) (σ 9), wM E am μ, wO E ao o] [(0, .ref b0), (1, .ref ax), (2, .ref (am 0)), (3, .ref ao), (4, .int (nI i))] 1164 [] := by
  obtain ⟨hvb, hvh, hvt, hvm, ha⟩ := hRv β η θ σ μ hR
  obtain ⟨a, ha9⟩ : ∃ a, xs (i + 1) = a := ⟨_, rfl⟩
  obtain ⟨hag, hR2⟩ := hs β τ γ η σ θ μ a hR
  rcases hag with ⟨hr, ht⟩ | ⟨hr, ht⟩ | ⟨hr, ht⟩
  · skip
    refine g_aload_n C dL_law_1164 rfl 1 rfl ?_
    refine g_aload_n C dL_law_1165 rfl 0 rfl ?_
    refine g_iload C dL_law_1166 4 rfl ?_
    refine g_iconst C (v := 1) dL_law_1168 (by decide) ?_
    refine g_iadd C dL_law_1169 ?_
    refine g_sldv C S (i + 1) (nx_add (rfl : nI i = nI i) (rfl : (1 : Int32) = nI 1)) (by omega) ha9 dL_law_1170 ?_
    refine g_callSW C hZ hNc (cs1 := [wX ax (bo 0) (tr 0) (ac 0) (ah 0) (at_ 0), wB E bo ((fX6_submit β η σ a).2.1), wB E tr τ, wC E ac γ, wH E ah bd ((fX6_submit β η σ a).2.2.1), wT E at_ θ, wB E (bd 2) ((fX6_submit β η σ a).2.2.2 2), wB E (bd 3) ((fX6_submit β η σ a).2.2.2 3), wB E (bd 4) ((fX6_submit β η σ a).2.2.2 4), wB E (bd 5) ((fX6_submit β η σ a).2.2.2 5), wB E (bd 6) ((fX6_submit β η σ a).2.2.2 6), wB E (bd 7) ((fX6_submit β η σ a).2.2.2 7), wB E (bd 8) ((fX6_submit β η σ a).2.2.2 8), wB E (bd 9) ((fX6_submit β η σ a).2.2.2 9), wM E am μ, wO E ao o]) (st1 := [.int 0]) [.ref ax, .int a] [0, 1, 2, 3, 4, 5, 6, 7, 8, 9, 10, 11, 12, 13] (kL_submit_r l E ax bo β tr τ ac γ ah bd η σ at_ θ hlt hvb hvh a hr) q4_132 q1_0 (by decide +kernel) q4_131 q4_130 rfl ⟨Nat.le_of_ble_eq_true rfl, Nat.le_of_ble_eq_true rfl⟩ ⟨hk, hn⟩ (by decide) rfl rfl rfl rfl (Nat.le_of_ble_eq_true rfl) dL_law_1171 rfl ?_
    refine g_istore C (lv1 := [(5, .int 0), (0, .ref b0), (1, .ref ax), (2, .ref (am 0)), (3, .ref ao), (4, .int (nI i))]) dL_law_1174 (by decide) rfl ?_
    refine g_aload_n C dL_law_1176 rfl 3 rfl ?_
    refine g_aload_n C dL_law_1177 rfl 1 rfl ?_
    refine g_iload C dL_law_1178 5 rfl ?_
    refine g_iconst C (v := 1) dL_law_1180 (by decide) ?_
    refine g_iadd C dL_law_1181 ?_
    refine g_sldv C S (i + 1) (nx_add (rfl : nI i = nI i) (rfl : (1 : Int32) = nI 1)) (by omega) ha9 dL_law_1182 ?_
    refine g_callV C (cs1 := [wX ax (bo 0) (tr 0) (ac 0) (ah 0) (at_ 0), wB E bo ((fX6_submit β η σ a).2.1), wB E tr τ, wC E ac γ, wH E ah bd ((fX6_submit β η σ a).2.2.1), wT E at_ θ, wB E (bd 2) ((fX6_submit β η σ a).2.2.2 2), wB E (bd 3) ((fX6_submit β η σ a).2.2.2 3), wB E (bd 4) ((fX6_submit β η σ a).2.2.2 4), wB E (bd 5) ((fX6_submit β η σ a).2.2.2 5), wB E (bd 6) ((fX6_submit β η σ a).2.2.2 6), wB E (bd 7) ((fX6_submit β η σ a).2.2.2 7), wB E (bd 8) ((fX6_submit β η σ a).2.2.2 8), wB E (bd 9) ((fX6_submit β η σ a).2.2.2 9), wM E am (fX7_submit μ a), wO E ao o]) (st1 := []) [.int a] [14] (kX7_submit l E am μ hvm a) caX7_submit q7_17 rfl ⟨Nat.le_of_ble_eq_true rfl, Nat.le_of_ble_eq_true rfl⟩ ⟨hk, hn⟩ 14 0 rfl rfl rfl rfl (by decide) rfl rfl rfl rfl (Nat.le_of_ble_eq_true rfl) dL_law_1183 rfl ?_
    refine g_aload_n C dL_law_1186 rfl 3 rfl ?_
    refine g_callV C (cs1 := [wX ax (bo 0) (tr 0) (ac 0) (ah 0) (at_ 0), wB E bo ((fX6_submit β η σ a).2.1), wB E tr τ, wC E ac γ, wH E ah bd ((fX6_submit β η σ a).2.2.1), wT E at_ θ, wB E (bd 2) ((fX6_submit β η σ a).2.2.2 2), wB E (bd 3) ((fX6_submit β η σ a).2.2.2 3), wB E (bd 4) ((fX6_submit β η σ a).2.2.2 4), wB E (bd 5) ((fX6_submit β η σ a).2.2.2 5), wB E (bd 6) ((fX6_submit β η σ a).2.2.2 6), wB E (bd 7) ((fX6_submit β η σ a).2.2.2 7), wB E (bd 8) ((fX6_submit β η σ a).2.2.2 8), wB E (bd 9) ((fX6_submit β η σ a).2.2.2 9), wM E am (fX7_submit μ a), wO E ao o]) (st1 := [.int (fX7_thrown (fX7_submit μ a))]) [] [14] (kX7_thrown l E am (fX7_submit μ a)) caX7_thrown q6_117 rfl ⟨Nat.le_of_ble_eq_true rfl, Nat.le_of_ble_eq_true rfl⟩ ⟨hk, hn⟩ 14 0 rfl rfl rfl rfl (by decide) rfl rfl rfl rfl (Nat.le_of_ble_eq_true rfl) dL_law_1187 rfl ?_
    refine g_iload C dL_law_1190 0 rfl ?_
    refine g_icmp_eq C 1197 dL_law_1192 (by decide) (fun _ => ?_) (fun c => absurd ht c)
    refine g_goto C 3840 dL_law_1197 (by decide) ?_
    exact g_sub [1, 2, 3, 4, 5] rfl (next ((fX6_submit β η σ a).2.1) τ γ ((fX6_submit β η σ a).2.2.1) ((fX6_submit β η σ a).2.2.2) θ (fX7_submit μ a) o hR2)
  · skip
    refine g_aload_n C dL_law_1164 rfl 1 rfl ?_
    refine g_aload_n C dL_law_1165 rfl 0 rfl ?_
    refine g_iload C dL_law_1166 4 rfl ?_
    refine g_iconst C (v := 1) dL_law_1168 (by decide) ?_
    refine g_iadd C dL_law_1169 ?_
    refine g_sldv C S (i + 1) (nx_add (rfl : nI i = nI i) (rfl : (1 : Int32) = nI 1)) (by omega) ha9 dL_law_1170 ?_
    refine g_callSW C hZ hNc (cs1 := [wX ax (bo 0) (tr 0) (ac 0) (ah 0) (at_ 0), wB E bo ((fX6_submit β η σ a).2.1), wB E tr τ, wC E ac γ, wH E ah bd ((fX6_submit β η σ a).2.2.1), wT E at_ θ, wB E (bd 2) ((fX6_submit β η σ a).2.2.2 2), wB E (bd 3) ((fX6_submit β η σ a).2.2.2 3), wB E (bd 4) ((fX6_submit β η σ a).2.2.2 4), wB E (bd 5) ((fX6_submit β η σ a).2.2.2 5), wB E (bd 6) ((fX6_submit β η σ a).2.2.2 6), wB E (bd 7) ((fX6_submit β η σ a).2.2.2 7), wB E (bd 8) ((fX6_submit β η σ a).2.2.2 8), wB E (bd 9) ((fX6_submit β η σ a).2.2.2 9), wM E am μ, wO E ao o]) (st1 := [.int 1]) [.ref ax, .int a] [0, 1, 2, 3, 4, 5, 6, 7, 8, 9, 10, 11, 12, 13] (kL_submit_0 l E ax bo β tr τ ac γ ah bd η σ at_ θ hlt hvb hvh a hr) q4_132 q1_0 (by decide +kernel) q4_131 q4_130 rfl ⟨Nat.le_of_ble_eq_true rfl, Nat.le_of_ble_eq_true rfl⟩ ⟨hk, hn⟩ (by decide) rfl rfl rfl rfl (Nat.le_of_ble_eq_true rfl) dL_law_1171 rfl ?_
    refine g_istore C (lv1 := [(5, .int 1), (0, .ref b0), (1, .ref ax), (2, .ref (am 0)), (3, .ref ao), (4, .int (nI i))]) dL_law_1174 (by decide) rfl ?_
    refine g_aload_n C dL_law_1176 rfl 3 rfl ?_
    refine g_aload_n C dL_law_1177 rfl 1 rfl ?_
    refine g_iload C dL_law_1178 5 rfl ?_
    refine g_iconst C (v := 1) dL_law_1180 (by decide) ?_
    refine g_iadd C dL_law_1181 ?_
    refine g_sldv C S (i + 1) (nx_add (rfl : nI i = nI i) (rfl : (1 : Int32) = nI 1)) (by omega) ha9 dL_law_1182 ?_
    refine g_callV C (cs1 := [wX ax (bo 0) (tr 0) (ac 0) (ah 0) (at_ 0), wB E bo ((fX6_submit β η σ a).2.1), wB E tr τ, wC E ac γ, wH E ah bd ((fX6_submit β η σ a).2.2.1), wT E at_ θ, wB E (bd 2) ((fX6_submit β η σ a).2.2.2 2), wB E (bd 3) ((fX6_submit β η σ a).2.2.2 3), wB E (bd 4) ((fX6_submit β η σ a).2.2.2 4), wB E (bd 5) ((fX6_submit β η σ a).2.2.2 5), wB E (bd 6) ((fX6_submit β η σ a).2.2.2 6), wB E (bd 7) ((fX6_submit β η σ a).2.2.2 7), wB E (bd 8) ((fX6_submit β η σ a).2.2.2 8), wB E (bd 9) ((fX6_submit β η σ a).2.2.2 9), wM E am (fX7_submit μ a), wO E ao o]) (st1 := []) [.int a] [14] (kX7_submit l E am μ hvm a) caX7_submit q7_17 rfl ⟨Nat.le_of_ble_eq_true rfl, Nat.le_of_ble_eq_true rfl⟩ ⟨hk, hn⟩ 14 0 rfl rfl rfl rfl (by decide) rfl rfl rfl rfl (Nat.le_of_ble_eq_true rfl) dL_law_1183 rfl ?_
    refine g_aload_n C dL_law_1186 rfl 3 rfl ?_
    refine g_callV C (cs1 := [wX ax (bo 0) (tr 0) (ac 0) (ah 0) (at_ 0), wB E bo ((fX6_submit β η σ a).2.1), wB E tr τ, wC E ac γ, wH E ah bd ((fX6_submit β η σ a).2.2.1), wT E at_ θ, wB E (bd 2) ((fX6_submit β η σ a).2.2.2 2), wB E (bd 3) ((fX6_submit β η σ a).2.2.2 3), wB E (bd 4) ((fX6_submit β η σ a).2.2.2 4), wB E (bd 5) ((fX6_submit β η σ a).2.2.2 5), wB E (bd 6) ((fX6_submit β η σ a).2.2.2 6), wB E (bd 7) ((fX6_submit β η σ a).2.2.2 7), wB E (bd 8) ((fX6_submit β η σ a).2.2.2 8), wB E (bd 9) ((fX6_submit β η σ a).2.2.2 9), wM E am (fX7_submit μ a), wO E ao o]) (st1 := [.int (fX7_thrown (fX7_submit μ a))]) [] [14] (kX7_thrown l E am (fX7_submit μ a)) caX7_thrown q6_117 rfl ⟨Nat.le_of_ble_eq_true rfl, Nat.le_of_ble_eq_true rfl⟩ ⟨hk, hn⟩ 14 0 rfl rfl rfl rfl (by decide) rfl rfl rfl rfl (Nat.le_of_ble_eq_true rfl) dL_law_1187 rfl ?_
    refine g_iload C dL_law_1190 0 rfl ?_
    refine g_icmp_eq C 1197 dL_law_1192 (by decide) (fun _ => ?_) (fun c => absurd ht c)
    refine g_goto C 3840 dL_law_1197 (by decide) ?_
    exact g_sub [1, 2, 3, 4, 5] rfl (next ((fX6_submit β η σ a).2.1) τ γ ((fX6_submit β η σ a).2.2.1) ((fX6_submit β η σ a).2.2.2) θ (fX7_submit μ a) o hR2)
  · skip
    refine g_aload_n C dL_law_1164 rfl 1 rfl ?_
    refine g_aload_n C dL_law_1165 rfl 0 rfl ?_
    refine g_iload C dL_law_1166 4 rfl ?_
    refine g_iconst C (v := 1) dL_law_1168 (by decide) ?_
    refine g_iadd C dL_law_1169 ?_
    refine g_sldv C S (i + 1) (nx_add (rfl : nI i = nI i) (rfl : (1 : Int32) = nI 1)) (by omega) ha9 dL_law_1170 ?_
    refine g_callSW C hZ hNc (cs1 := [wX ax (bo 0) (tr 0) (ac 0) (ah 0) (at_ 0), wB E bo ((fX6_submit β η σ a).2.1), wB E tr τ, wC E ac γ, wH E ah bd ((fX6_submit β η σ a).2.2.1), wT E at_ θ, wB E (bd 2) ((fX6_submit β η σ a).2.2.2 2), wB E (bd 3) ((fX6_submit β η σ a).2.2.2 3), wB E (bd 4) ((fX6_submit β η σ a).2.2.2 4), wB E (bd 5) ((fX6_submit β η σ a).2.2.2 5), wB E (bd 6) ((fX6_submit β η σ a).2.2.2 6), wB E (bd 7) ((fX6_submit β η σ a).2.2.2 7), wB E (bd 8) ((fX6_submit β η σ a).2.2.2 8), wB E (bd 9) ((fX6_submit β η σ a).2.2.2 9), wM E am μ, wO E ao o]) (st1 := [.int 2]) [.ref ax, .int a] [0, 1, 2, 3, 4, 5, 6, 7, 8, 9, 10, 11, 12, 13] (kL_submit_1 l E ax bo β tr τ ac γ ah bd η σ at_ θ hlt hvb hvh a hr) q4_132 q1_0 (by decide +kernel) q4_131 q4_130 rfl ⟨Nat.le_of_ble_eq_true rfl, Nat.le_of_ble_eq_true rfl⟩ ⟨hk, hn⟩ (by decide) rfl rfl rfl rfl (Nat.le_of_ble_eq_true rfl) dL_law_1171 rfl ?_
    refine g_istore C (lv1 := [(5, .int 2), (0, .ref b0), (1, .ref ax), (2, .ref (am 0)), (3, .ref ao), (4, .int (nI i))]) dL_law_1174 (by decide) rfl ?_
    refine g_aload_n C dL_law_1176 rfl 3 rfl ?_
    refine g_aload_n C dL_law_1177 rfl 1 rfl ?_
    refine g_iload C dL_law_1178 5 rfl ?_
    refine g_iconst C (v := 1) dL_law_1180 (by decide) ?_
    refine g_iadd C dL_law_1181 ?_
    refine g_sldv C S (i + 1) (nx_add (rfl : nI i = nI i) (rfl : (1 : Int32) = nI 1)) (by omega) ha9 dL_law_1182 ?_
    refine g_callV C (cs1 := [wX ax (bo 0) (tr 0) (ac 0) (ah 0) (at_ 0), wB E bo ((fX6_submit β η σ a).2.1), wB E tr τ, wC E ac γ, wH E ah bd ((fX6_submit β η σ a).2.2.1), wT E at_ θ, wB E (bd 2) ((fX6_submit β η σ a).2.2.2 2), wB E (bd 3) ((fX6_submit β η σ a).2.2.2 3), wB E (bd 4) ((fX6_submit β η σ a).2.2.2 4), wB E (bd 5) ((fX6_submit β η σ a).2.2.2 5), wB E (bd 6) ((fX6_submit β η σ a).2.2.2 6), wB E (bd 7) ((fX6_submit β η σ a).2.2.2 7), wB E (bd 8) ((fX6_submit β η σ a).2.2.2 8), wB E (bd 9) ((fX6_submit β η σ a).2.2.2 9), wM E am (fX7_submit μ a), wO E ao o]) (st1 := []) [.int a] [14] (kX7_submit l E am μ hvm a) caX7_submit q7_17 rfl ⟨Nat.le_of_ble_eq_true rfl, Nat.le_of_ble_eq_true rfl⟩ ⟨hk, hn⟩ 14 0 rfl rfl rfl rfl (by decide) rfl rfl rfl rfl (Nat.le_of_ble_eq_true rfl) dL_law_1183 rfl ?_
    refine g_aload_n C dL_law_1186 rfl 3 rfl ?_
    refine g_callV C (cs1 := [wX ax (bo 0) (tr 0) (ac 0) (ah 0) (at_ 0), wB E bo ((fX6_submit β η σ a).2.1), wB E tr τ, wC E ac γ, wH E ah bd ((fX6_submit β η σ a).2.2.1), wT E at_ θ, wB E (bd 2) ((fX6_submit β η σ a).2.2.2 2), wB E (bd 3) ((fX6_submit β η σ a).2.2.2 3), wB E (bd 4) ((fX6_submit β η σ a).2.2.2 4), wB E (bd 5) ((fX6_submit β η σ a).2.2.2 5), wB E (bd 6) ((fX6_submit β η σ a).2.2.2 6), wB E (bd 7) ((fX6_submit β η σ a).2.2.2 7), wB E (bd 8) ((fX6_submit β η σ a).2.2.2 8), wB E (bd 9) ((fX6_submit β η σ a).2.2.2 9), wM E am (fX7_submit μ a), wO E ao o]) (st1 := [.int (fX7_thrown (fX7_submit μ a))]) [] [14] (kX7_thrown l E am (fX7_submit μ a)) caX7_thrown q6_117 rfl ⟨Nat.le_of_ble_eq_true rfl, Nat.le_of_ble_eq_true rfl⟩ ⟨hk, hn⟩ 14 0 rfl rfl rfl rfl (by decide) rfl rfl rfl rfl (Nat.le_of_ble_eq_true rfl) dL_law_1187 rfl ?_
    refine g_iload C dL_law_1190 0 rfl ?_
    refine g_icmp_eq C 1197 dL_law_1192 (by decide) (fun _ => ?_) (fun c => absurd ht c)
    refine g_goto C 3840 dL_law_1197 (by decide) ?_
    exact g_sub [1, 2, 3, 4, 5] rfl (next ((fX6_submit β η σ a).2.1) τ γ ((fX6_submit β η σ a).2.2.1) ((fX6_submit β η σ a).2.2.2) θ (fX7_submit μ a) o hR2)
set_option maxHeartbeats 4000000 in
set_option maxRecDepth 100000 in
theorem arm_14 {Rl : RlT} (hRv : RlV Rl) (hs : sH_sendBack Rl)  {X : gX} {l : Launch} {E : gE} (C : gC X cL_law 9 RL (some .boolean) l E room_1) (hZ : gZ X.2.2.2.2.2.2.2.2.2.2.2.1 X.2.2.2.2.1 X.2.2.2.2.1.heap) (hNc : gNc X.2.2.2.2.1) {b0 L0 : Nat} {xs : Nat → Int32} (S : gS X b0 L0 xs) (hlt : l.stackTraces = false) {ax : Nat} {bo tr ac ah : Nat → Nat} {bd : Nat → Nat → Nat} {at_ am : Nat → Nat} {ao k n i : Nat} (hk : k + 3 ≤ 601024) (hn : n + 18 ≤ 7293034) (hi : i + 3 ≤ L0) {β τ γ η : BS} {σ : Nat → BS} {θ μ : BS} {o : Nat → Int64} (hR : Rl β η θ σ μ) (next : ∀ (β τ γ η : BS) (σ : Nat → BS) (θ μ : BS) (o : Nat → Int64), Rl β η θ σ μ → G X (k + 3) (n + 18) [wX ax (bo 0) (tr 0) (ac 0) (ah 0) (at_ 0), wB E bo β, wB E tr τ, wC E ac γ, wH E ah bd η, wT E at_ θ, wB E (bd 2) (σ 2), wB E (bd 3) (σ 3), wB E (bd 4) (σ 4), wB E (bd 5) (σ 5), wB E (bd 6) (σ 6), wB E (bd 7) (σ 7), wB E (bd 8) (σ 8), wB E (bd 9) (σ 9), wM E am μ, wO E ao o] [(0, .ref b0), (1, .ref ax), (2, .ref (am 0)), (3, .ref ao), (4, .int (nI i))] 3840 []) : G X k n [wX ax (bo 0) (tr 0) (ac 0) (ah 0) (at_ 0), wB E bo β, wB E tr τ, wC E ac γ, wH E ah bd η, wT E at_ θ, wB E (bd 2) (σ 2), wB E (bd 3) (σ 3), wB E (bd 4) (σ 4), wB E (bd 5) (σ 5), wB E (bd 6) (σ 6), wB E (bd 7) (σ 7), wB E (bd 8) (σ 8), wB E (bd 9) (σ 9), wM E am μ, wO E ao o] [(0, .ref b0), (1, .ref ax), (2, .ref (am 0)), (3, .ref ao), (4, .int (nI i))] 1200 [] := by
  obtain ⟨hvb, hvh, hvt, hvm, ha⟩ := hRv β η θ σ μ hR
  obtain ⟨a, ha9⟩ : ∃ a, xs (i + 1) = a := ⟨_, rfl⟩
  obtain ⟨hag, hR2⟩ := hs β τ γ η σ θ μ a hR
  rcases hag with ⟨hr, ht⟩ | ⟨hr, ht⟩ | ⟨hr, ht⟩
  · skip
    refine g_aload_n C dL_law_1200 rfl 1 rfl ?_
    refine g_aload_n C dL_law_1201 rfl 0 rfl ?_
    refine g_iload C dL_law_1202 4 rfl ?_
    refine g_iconst C (v := 1) dL_law_1204 (by decide) ?_
    refine g_iadd C dL_law_1205 ?_
    refine g_sldv C S (i + 1) (nx_add (rfl : nI i = nI i) (rfl : (1 : Int32) = nI 1)) (by omega) ha9 dL_law_1206 ?_
    refine g_aload_n C dL_law_1207 rfl 3 rfl ?_
    refine g_callSW C hZ hNc (cs1 := [wX ax (bo 0) (tr 0) (ac 0) (ah 0) (at_ 0), wB E bo ((fX6_sendBack β η σ a).2.1), wB E tr τ, wC E ac γ, wH E ah bd ((fX6_sendBack β η σ a).2.2.1), wT E at_ θ, wB E (bd 2) ((fX6_sendBack β η σ a).2.2.2 2), wB E (bd 3) ((fX6_sendBack β η σ a).2.2.2 3), wB E (bd 4) ((fX6_sendBack β η σ a).2.2.2 4), wB E (bd 5) ((fX6_sendBack β η σ a).2.2.2 5), wB E (bd 6) ((fX6_sendBack β η σ a).2.2.2 6), wB E (bd 7) ((fX6_sendBack β η σ a).2.2.2 7), wB E (bd 8) ((fX6_sendBack β η σ a).2.2.2 8), wB E (bd 9) ((fX6_sendBack β η σ a).2.2.2 9), wM E am μ, wO E ao (vp_updL o 0 v.toInt64)]) (st1 := [.int 0]) [.ref ax, .int a, .ref ao] [0, 1, 2, 3, 4, 5, 6, 7, 8, 9, 10, 11, 12, 13, 15] (kL_sendBack_r l E ax bo β tr τ ac γ ah bd η σ at_ θ ao o hlt hvb hvh a ((fX7_sendBack μ a).1) hr) q4_139 q1_0 (by decide +kernel) q4_138 q4_137 rfl ⟨Nat.le_of_ble_eq_true rfl, Nat.le_of_ble_eq_true rfl⟩ ⟨hk, hn⟩ (by decide) rfl rfl rfl rfl (Nat.le_of_ble_eq_true rfl) dL_law_1208 rfl ?_
    refine g_istore C (lv1 := [(5, .int 0), (0, .ref b0), (1, .ref ax), (2, .ref (am 0)), (3, .ref ao), (4, .int (nI i))]) dL_law_1211 (by decide) rfl ?_
    refine g_aload_n C dL_law_1213 rfl 3 rfl ?_
    refine g_aload_n C dL_law_1214 rfl 1 rfl ?_
    refine g_iload C dL_law_1215 5 rfl ?_
    refine g_iconst C (v := 1) dL_law_1217 (by decide) ?_
    refine g_iadd C dL_law_1218 ?_
    refine g_sldv C S (i + 1) (nx_add (rfl : nI i = nI i) (rfl : (1 : Int32) = nI 1)) (by omega) ha9 dL_law_1219 ?_
    refine g_callV C (cs1 := [wX ax (bo 0) (tr 0) (ac 0) (ah 0) (at_ 0), wB E bo ((fX6_sendBack β η σ a).2.1), wB E tr τ, wC E ac γ, wH E ah bd ((fX6_sendBack β η σ a).2.2.1), wT E at_ θ, wB E (bd 2) ((fX6_sendBack β η σ a).2.2.2 2), wB E (bd 3) ((fX6_sendBack β η σ a).2.2.2 3), wB E (bd 4) ((fX6_sendBack β η σ a).2.2.2 4), wB E (bd 5) ((fX6_sendBack β η σ a).2.2.2 5), wB E (bd 6) ((fX6_sendBack β η σ a).2.2.2 6), wB E (bd 7) ((fX6_sendBack β η σ a).2.2.2 7), wB E (bd 8) ((fX6_sendBack β η σ a).2.2.2 8), wB E (bd 9) ((fX6_sendBack β η σ a).2.2.2 9), wM E am ((fX7_sendBack μ a).2), wO E ao (vp_updL o 0 v.toInt64)]) (st1 := [.int ((fX7_sendBack μ a).1)]) [.int a] [14] (kX7_sendBack l E am μ hvm a) caX7_sendBack q7_21 rfl ⟨Nat.le_of_ble_eq_true rfl, Nat.le_of_ble_eq_true rfl⟩ ⟨hk, hn⟩ 14 0 rfl rfl rfl rfl (by decide) rfl rfl rfl rfl (Nat.le_of_ble_eq_true rfl) dL_law_1220 rfl ?_
    refine g_istore C (lv1 := [(6, .int ((fX7_sendBack μ a).1)), (5, .int 0), (0, .ref b0), (1, .ref ax), (2, .ref (am 0)), (3, .ref ao), (4, .int (nI i))]) dL_law_1223 (by decide) rfl ?_
    refine g_aload_n C dL_law_1225 rfl 4 rfl ?_
    refine g_callV C (cs1 := [wX ax (bo 0) (tr 0) (ac 0) (ah 0) (at_ 0), wB E bo ((fX6_sendBack β η σ a).2.1), wB E tr τ, wC E ac γ, wH E ah bd ((fX6_sendBack β η σ a).2.2.1), wT E at_ θ, wB E (bd 2) ((fX6_sendBack β η σ a).2.2.2 2), wB E (bd 3) ((fX6_sendBack β η σ a).2.2.2 3), wB E (bd 4) ((fX6_sendBack β η σ a).2.2.2 4), wB E (bd 5) ((fX6_sendBack β η σ a).2.2.2 5), wB E (bd 6) ((fX6_sendBack β η σ a).2.2.2 6), wB E (bd 7) ((fX6_sendBack β η σ a).2.2.2 7), wB E (bd 8) ((fX6_sendBack β η σ a).2.2.2 8), wB E (bd 9) ((fX6_sendBack β η σ a).2.2.2 9), wM E am ((fX7_sendBack μ a).2), wO E ao (vp_updL o 0 v.toInt64)]) (st1 := [.int (fX7_thrown ((fX7_sendBack μ a).2))]) [] [14] (kX7_thrown l E am ((fX7_sendBack μ a).2)) caX7_thrown q6_117 rfl ⟨Nat.le_of_ble_eq_true rfl, Nat.le_of_ble_eq_true rfl⟩ ⟨hk, hn⟩ 14 0 rfl rfl rfl rfl (by decide) rfl rfl rfl rfl (Nat.le_of_ble_eq_true rfl) dL_law_1226 rfl ?_
    refine g_iload C dL_law_1229 1 rfl ?_
    refine g_icmp_eq C 1236 dL_law_1231 (by decide) (fun _ => ?_) (fun c => absurd ht c)
    refine g_iload C dL_law_1236 1 rfl ?_
    refine g_if_ne C 1253 dL_law_1238 (by decide) (fun c => absurd rfl c) (fun _ => ?_)
    refine g_aload_n C dL_law_1241 rfl 5 rfl ?_
    refine g_iconst C (v := 0) dL_law_1242 (by decide) ?_
    refine g_laldn C 15 0 0 rfl rfl rfl (by decide) (by decide) dL_law_1243 ?_
    refine g_iload C dL_law_1244 0 rfl ?_
    refine g_i2l C dL_law_1246 ?_
    refine g_lcmp C dL_law_1247 ?_
    refine g_if_eq C 1253 dL_law_1248 (by decide) (fun _ => ?_) (fun c => absurd law_cmp c)
    refine g_goto C 3840 dL_law_1253 (by decide) ?_
    exact g_sub [2, 3, 4, 5, 6] rfl (next ((fX6_sendBack β η σ a).2.1) τ γ ((fX6_sendBack β η σ a).2.2.1) ((fX6_sendBack β η σ a).2.2.2) θ ((fX7_sendBack μ a).2) (vp_updL o 0 v.toInt64) hR2)
  · skip
    refine g_aload_n C dL_law_1200 rfl 1 rfl ?_
    refine g_aload_n C dL_law_1201 rfl 0 rfl ?_
    refine g_iload C dL_law_1202 4 rfl ?_
    refine g_iconst C (v := 1) dL_law_1204 (by decide) ?_
    refine g_iadd C dL_law_1205 ?_
    refine g_sldv C S (i + 1) (nx_add (rfl : nI i = nI i) (rfl : (1 : Int32) = nI 1)) (by omega) ha9 dL_law_1206 ?_
    refine g_aload_n C dL_law_1207 rfl 3 rfl ?_
    refine g_callSW C hZ hNc (cs1 := [wX ax (bo 0) (tr 0) (ac 0) (ah 0) (at_ 0), wB E bo ((fX6_sendBack β η σ a).2.1), wB E tr τ, wC E ac γ, wH E ah bd ((fX6_sendBack β η σ a).2.2.1), wT E at_ θ, wB E (bd 2) ((fX6_sendBack β η σ a).2.2.2 2), wB E (bd 3) ((fX6_sendBack β η σ a).2.2.2 3), wB E (bd 4) ((fX6_sendBack β η σ a).2.2.2 4), wB E (bd 5) ((fX6_sendBack β η σ a).2.2.2 5), wB E (bd 6) ((fX6_sendBack β η σ a).2.2.2 6), wB E (bd 7) ((fX6_sendBack β η σ a).2.2.2 7), wB E (bd 8) ((fX6_sendBack β η σ a).2.2.2 8), wB E (bd 9) ((fX6_sendBack β η σ a).2.2.2 9), wM E am μ, wO E ao o]) (st1 := [.int 1]) [.ref ax, .int a, .ref ao] [0, 1, 2, 3, 4, 5, 6, 7, 8, 9, 10, 11, 12, 13, 15] (kL_sendBack_0 l E ax bo β tr τ ac γ ah bd η σ at_ θ ao o hlt hvb hvh a hr) q4_139 q1_0 (by decide +kernel) q4_138 q4_137 rfl ⟨Nat.le_of_ble_eq_true rfl, Nat.le_of_ble_eq_true rfl⟩ ⟨hk, hn⟩ (by decide) rfl rfl rfl rfl (Nat.le_of_ble_eq_true rfl) dL_law_1208 rfl ?_
    refine g_istore C (lv1 := [(5, .int 1), (0, .ref b0), (1, .ref ax), (2, .ref (am 0)), (3, .ref ao), (4, .int (nI i))]) dL_law_1211 (by decide) rfl ?_
    refine g_aload_n C dL_law_1213 rfl 3 rfl ?_
    refine g_aload_n C dL_law_1214 rfl 1 rfl ?_
    refine g_iload C dL_law_1215 5 rfl ?_
    refine g_iconst C (v := 1) dL_law_1217 (by decide) ?_
    refine g_iadd C dL_law_1218 ?_
    refine g_sldv C S (i + 1) (nx_add (rfl : nI i = nI i) (rfl : (1 : Int32) = nI 1)) (by omega) ha9 dL_law_1219 ?_
    refine g_callV C (cs1 := [wX ax (bo 0) (tr 0) (ac 0) (ah 0) (at_ 0), wB E bo ((fX6_sendBack β η σ a).2.1), wB E tr τ, wC E ac γ, wH E ah bd ((fX6_sendBack β η σ a).2.2.1), wT E at_ θ, wB E (bd 2) ((fX6_sendBack β η σ a).2.2.2 2), wB E (bd 3) ((fX6_sendBack β η σ a).2.2.2 3), wB E (bd 4) ((fX6_sendBack β η σ a).2.2.2 4), wB E (bd 5) ((fX6_sendBack β η σ a).2.2.2 5), wB E (bd 6) ((fX6_sendBack β η σ a).2.2.2 6), wB E (bd 7) ((fX6_sendBack β η σ a).2.2.2 7), wB E (bd 8) ((fX6_sendBack β η σ a).2.2.2 8), wB E (bd 9) ((fX6_sendBack β η σ a).2.2.2 9), wM E am ((fX7_sendBack μ a).2), wO E ao o]) (st1 := [.int ((fX7_sendBack μ a).1)]) [.int a] [14] (kX7_sendBack l E am μ hvm a) caX7_sendBack q7_21 rfl ⟨Nat.le_of_ble_eq_true rfl, Nat.le_of_ble_eq_true rfl⟩ ⟨hk, hn⟩ 14 0 rfl rfl rfl rfl (by decide) rfl rfl rfl rfl (Nat.le_of_ble_eq_true rfl) dL_law_1220 rfl ?_
    refine g_istore C (lv1 := [(6, .int ((fX7_sendBack μ a).1)), (5, .int 1), (0, .ref b0), (1, .ref ax), (2, .ref (am 0)), (3, .ref ao), (4, .int (nI i))]) dL_law_1223 (by decide) rfl ?_
    refine g_aload_n C dL_law_1225 rfl 4 rfl ?_
    refine g_callV C (cs1 := [wX ax (bo 0) (tr 0) (ac 0) (ah 0) (at_ 0), wB E bo ((fX6_sendBack β η σ a).2.1), wB E tr τ, wC E ac γ, wH E ah bd ((fX6_sendBack β η σ a).2.2.1), wT E at_ θ, wB E (bd 2) ((fX6_sendBack β η σ a).2.2.2 2), wB E (bd 3) ((fX6_sendBack β η σ a).2.2.2 3), wB E (bd 4) ((fX6_sendBack β η σ a).2.2.2 4), wB E (bd 5) ((fX6_sendBack β η σ a).2.2.2 5), wB E (bd 6) ((fX6_sendBack β η σ a).2.2.2 6), wB E (bd 7) ((fX6_sendBack β η σ a).2.2.2 7), wB E (bd 8) ((fX6_sendBack β η σ a).2.2.2 8), wB E (bd 9) ((fX6_sendBack β η σ a).2.2.2 9), wM E am ((fX7_sendBack μ a).2), wO E ao o]) (st1 := [.int (fX7_thrown ((fX7_sendBack μ a).2))]) [] [14] (kX7_thrown l E am ((fX7_sendBack μ a).2)) caX7_thrown q6_117 rfl ⟨Nat.le_of_ble_eq_true rfl, Nat.le_of_ble_eq_true rfl⟩ ⟨hk, hn⟩ 14 0 rfl rfl rfl rfl (by decide) rfl rfl rfl rfl (Nat.le_of_ble_eq_true rfl) dL_law_1226 rfl ?_
    refine g_iload C dL_law_1229 1 rfl ?_
    refine g_icmp_eq C 1236 dL_law_1231 (by decide) (fun _ => ?_) (fun c => absurd ht c)
    refine g_iload C dL_law_1236 1 rfl ?_
    refine g_if_ne C 1253 dL_law_1238 (by decide) (fun _ => ?_) (fun c => absurd c (by decide))
    refine g_goto C 3840 dL_law_1253 (by decide) ?_
    exact g_sub [2, 3, 4, 5, 6] rfl (next ((fX6_sendBack β η σ a).2.1) τ γ ((fX6_sendBack β η σ a).2.2.1) ((fX6_sendBack β η σ a).2.2.2) θ ((fX7_sendBack μ a).2) o hR2)
  · skip
    refine g_aload_n C dL_law_1200 rfl 1 rfl ?_
    refine g_aload_n C dL_law_1201 rfl 0 rfl ?_
    refine g_iload C dL_law_1202 4 rfl ?_
    refine g_iconst C (v := 1) dL_law_1204 (by decide) ?_
    refine g_iadd C dL_law_1205 ?_
    refine g_sldv C S (i + 1) (nx_add (rfl : nI i = nI i) (rfl : (1 : Int32) = nI 1)) (by omega) ha9 dL_law_1206 ?_
    refine g_aload_n C dL_law_1207 rfl 3 rfl ?_
    refine g_callSW C hZ hNc (cs1 := [wX ax (bo 0) (tr 0) (ac 0) (ah 0) (at_ 0), wB E bo ((fX6_sendBack β η σ a).2.1), wB E tr τ, wC E ac γ, wH E ah bd ((fX6_sendBack β η σ a).2.2.1), wT E at_ θ, wB E (bd 2) ((fX6_sendBack β η σ a).2.2.2 2), wB E (bd 3) ((fX6_sendBack β η σ a).2.2.2 3), wB E (bd 4) ((fX6_sendBack β η σ a).2.2.2 4), wB E (bd 5) ((fX6_sendBack β η σ a).2.2.2 5), wB E (bd 6) ((fX6_sendBack β η σ a).2.2.2 6), wB E (bd 7) ((fX6_sendBack β η σ a).2.2.2 7), wB E (bd 8) ((fX6_sendBack β η σ a).2.2.2 8), wB E (bd 9) ((fX6_sendBack β η σ a).2.2.2 9), wM E am μ, wO E ao o]) (st1 := [.int 2]) [.ref ax, .int a, .ref ao] [0, 1, 2, 3, 4, 5, 6, 7, 8, 9, 10, 11, 12, 13, 15] (kL_sendBack_1 l E ax bo β tr τ ac γ ah bd η σ at_ θ ao o hlt hvb hvh a hr) q4_139 q1_0 (by decide +kernel) q4_138 q4_137 rfl ⟨Nat.le_of_ble_eq_true rfl, Nat.le_of_ble_eq_true rfl⟩ ⟨hk, hn⟩ (by decide) rfl rfl rfl rfl (Nat.le_of_ble_eq_true rfl) dL_law_1208 rfl ?_
    refine g_istore C (lv1 := [(5, .int 2), (0, .ref b0), (1, .ref ax), (2, .ref (am 0)), (3, .ref ao), (4, .int (nI i))]) dL_law_1211 (by decide) rfl ?_
    refine g_aload_n C dL_law_1213 rfl 3 rfl ?_
    refine g_aload_n C dL_law_1214 rfl 1 rfl ?_
    refine g_iload C dL_law_1215 5 rfl ?_
    refine g_iconst C (v := 1) dL_law_1217 (by decide) ?_
    refine g_iadd C dL_law_1218 ?_
    refine g_sldv C S (i + 1) (nx_add (rfl : nI i = nI i) (rfl : (1 : Int32) = nI 1)) (by omega) ha9 dL_law_1219 ?_
    refine g_callV C (cs1 := [wX ax (bo 0) (tr 0) (ac 0) (ah 0) (at_ 0), wB E bo ((fX6_sendBack β η σ a).2.1), wB E tr τ, wC E ac γ, wH E ah bd ((fX6_sendBack β η σ a).2.2.1), wT E at_ θ, wB E (bd 2) ((fX6_sendBack β η σ a).2.2.2 2), wB E (bd 3) ((fX6_sendBack β η σ a).2.2.2 3), wB E (bd 4) ((fX6_sendBack β η σ a).2.2.2 4), wB E (bd 5) ((fX6_sendBack β η σ a).2.2.2 5), wB E (bd 6) ((fX6_sendBack β η σ a).2.2.2 6), wB E (bd 7) ((fX6_sendBack β η σ a).2.2.2 7), wB E (bd 8) ((fX6_sendBack β η σ a).2.2.2 8), wB E (bd 9) ((fX6_sendBack β η σ a).2.2.2 9), wM E am ((fX7_sendBack μ a).2), wO E ao o]) (st1 := [.int ((fX7_sendBack μ a).1)]) [.int a] [14] (kX7_sendBack l E am μ hvm a) caX7_sendBack q7_21 rfl ⟨Nat.le_of_ble_eq_true rfl, Nat.le_of_ble_eq_true rfl⟩ ⟨hk, hn⟩ 14 0 rfl rfl rfl rfl (by decide) rfl rfl rfl rfl (Nat.le_of_ble_eq_true rfl) dL_law_1220 rfl ?_
    refine g_istore C (lv1 := [(6, .int ((fX7_sendBack μ a).1)), (5, .int 2), (0, .ref b0), (1, .ref ax), (2, .ref (am 0)), (3, .ref ao), (4, .int (nI i))]) dL_law_1223 (by decide) rfl ?_
    refine g_aload_n C dL_law_1225 rfl 4 rfl ?_
    refine g_callV C (cs1 := [wX ax (bo 0) (tr 0) (ac 0) (ah 0) (at_ 0), wB E bo ((fX6_sendBack β η σ a).2.1), wB E tr τ, wC E ac γ, wH E ah bd ((fX6_sendBack β η σ a).2.2.1), wT E at_ θ, wB E (bd 2) ((fX6_sendBack β η σ a).2.2.2 2), wB E (bd 3) ((fX6_sendBack β η σ a).2.2.2 3), wB E (bd 4) ((fX6_sendBack β η σ a).2.2.2 4), wB E (bd 5) ((fX6_sendBack β η σ a).2.2.2 5), wB E (bd 6) ((fX6_sendBack β η σ a).2.2.2 6), wB E (bd 7) ((fX6_sendBack β η σ a).2.2.2 7), wB E (bd 8) ((fX6_sendBack β η σ a).2.2.2 8), wB E (bd 9) ((fX6_sendBack β η σ a).2.2.2 9), wM E am ((fX7_sendBack μ a).2), wO E ao o]) (st1 := [.int (fX7_thrown ((fX7_sendBack μ a).2))]) [] [14] (kX7_thrown l E am ((fX7_sendBack μ a).2)) caX7_thrown q6_117 rfl ⟨Nat.le_of_ble_eq_true rfl, Nat.le_of_ble_eq_true rfl⟩ ⟨hk, hn⟩ 14 0 rfl rfl rfl rfl (by decide) rfl rfl rfl rfl (Nat.le_of_ble_eq_true rfl) dL_law_1226 rfl ?_
    refine g_iload C dL_law_1229 1 rfl ?_
    refine g_icmp_eq C 1236 dL_law_1231 (by decide) (fun _ => ?_) (fun c => absurd ht c)
    refine g_iload C dL_law_1236 1 rfl ?_
    refine g_if_ne C 1253 dL_law_1238 (by decide) (fun _ => ?_) (fun c => absurd c (by decide))
    refine g_goto C 3840 dL_law_1253 (by decide) ?_
    exact g_sub [2, 3, 4, 5, 6] rfl (next ((fX6_sendBack β η σ a).2.1) τ γ ((fX6_sendBack β η σ a).2.2.1) ((fX6_sendBack β η σ a).2.2.2) θ ((fX7_sendBack μ a).2) o hR2)
set_option maxHeartbeats 4000000 in
set_option maxRecDepth 100000 in
theorem arm_15 {Rl : RlT} (hRv : RlV Rl) (hs : sH_close Rl)  {X : gX} {l : Launch} {E : gE} (C : gC X cL_law 9 RL (some .boolean) l E room_1) (hZ : gZ X.2.2.2.2.2.2.2.2.2.2.2.1 X.2.2.2.2.1 X.2.2.2.2.1.heap) (hNc : gNc X.2.2.2.2.1) {b0 L0 : Nat} {xs : Nat → Int32} (S : gS X b0 L0 xs) (hlt : l.stackTraces = false) {ax : Nat} {bo tr ac ah : Nat → Nat} {bd : Nat → Nat → Nat} {at_ am : Nat → Nat} {ao k n i : Nat} (hk : k + 3 ≤ 601024) (hn : n + 18 ≤ 7293034) (hi : i + 3 ≤ L0) {β τ γ η : BS} {σ : Nat → BS} {θ μ : BS} {o : Nat → Int64} (hR : Rl β η θ σ μ) (next : ∀ (β τ γ η : BS) (σ : Nat → BS) (θ μ : BS) (o : Nat → Int64), Rl β η θ σ μ → G X (k + 3) (n + 18) [wX ax (bo 0) (tr 0) (ac 0) (ah 0) (at_ 0), wB E bo β, wB E tr τ, wC E ac γ, wH E ah bd η, wT E at_ θ, wB E (bd 2) (σ 2), wB E (bd 3) (σ 3), wB E (bd 4) (σ 4), wB E (bd 5) (σ 5), wB E (bd 6) (σ 6), wB E (bd 7) (σ 7), wB E (bd 8) (σ 8), wB E (bd 9) (σ 9), wM E am μ, wO E ao o] [(0, .ref b0), (1, .ref ax), (2, .ref (am 0)), (3, .ref ao), (4, .int (nI i))] 3840 []) : G X k n [wX ax (bo 0) (tr 0) (ac 0) (ah 0) (at_ 0), wB E bo β, wB E tr τ, wC E ac γ, wH E ah bd η, wT E at_ θ, wB E (bd 2) (σ 2), wB E (bd 3) (σ 3), wB E (bd 4) (σ 4), wB E (bd 5) (σ 5), wB E (bd 6) (σ 6), wB E (bd 7) (σ 7), wB E (bd 8) (σ 8), wB E (bd 9) (σ 9), wM E am μ, wO E ao o] [(0, .ref b0), (1, .ref ax), (2, .ref (am 0)), (3, .ref ao), (4, .int (nI i))] 1256 [] := by
  obtain ⟨hvb, hvh, hvt, hvm, ha⟩ := hRv β η θ σ μ hR
  obtain ⟨a, ha9⟩ : ∃ a, xs (i + 1) = a := ⟨_, rfl⟩
  obtain ⟨hag, hR2⟩ := hs β τ γ η σ θ μ a hR
  rcases hag with ⟨hr, ht⟩ | ⟨hr, ht⟩ | ⟨hr, ht⟩
  · skip
    refine g_aload_n C dL_law_1256 rfl 1 rfl ?_
    refine g_aload_n C dL_law_1257 rfl 0 rfl ?_
    refine g_iload C dL_law_1258 4 rfl ?_
    refine g_iconst C (v := 1) dL_law_1260 (by decide) ?_
    refine g_iadd C dL_law_1261 ?_
    refine g_sldv C S (i + 1) (nx_add (rfl : nI i = nI i) (rfl : (1 : Int32) = nI 1)) (by omega) ha9 dL_law_1262 ?_
    refine g_aload_n C dL_law_1263 rfl 3 rfl ?_
    refine g_callSW C hZ hNc (cs1 := [wX ax (bo 0) (tr 0) (ac 0) (ah 0) (at_ 0), wB E bo ((fX6_close β η σ a).2.1), wB E tr τ, wC E ac γ, wH E ah bd ((fX6_close β η σ a).2.2.1), wT E at_ θ, wB E (bd 2) ((fX6_close β η σ a).2.2.2 2), wB E (bd 3) ((fX6_close β η σ a).2.2.2 3), wB E (bd 4) ((fX6_close β η σ a).2.2.2 4), wB E (bd 5) ((fX6_close β η σ a).2.2.2 5), wB E (bd 6) ((fX6_close β η σ a).2.2.2 6), wB E (bd 7) ((fX6_close β η σ a).2.2.2 7), wB E (bd 8) ((fX6_close β η σ a).2.2.2 8), wB E (bd 9) ((fX6_close β η σ a).2.2.2 9), wM E am μ, wO E ao (vp_updL o 0 v.toInt64)]) (st1 := [.int 0]) [.ref ax, .int a, .ref ao] [0, 1, 2, 3, 4, 5, 6, 7, 8, 9, 10, 11, 12, 13, 15] (kL_close_r l E ax bo β tr τ ac γ ah bd η σ at_ θ ao o hlt hvb hvh a ((fX7_close μ a).1) hr) q4_150 q1_0 (by decide +kernel) q4_149 q4_148 rfl ⟨Nat.le_of_ble_eq_true rfl, Nat.le_of_ble_eq_true rfl⟩ ⟨hk, hn⟩ (by decide) rfl rfl rfl rfl (Nat.le_of_ble_eq_true rfl) dL_law_1264 rfl ?_
    refine g_istore C (lv1 := [(5, .int 0), (0, .ref b0), (1, .ref ax), (2, .ref (am 0)), (3, .ref ao), (4, .int (nI i))]) dL_law_1267 (by decide) rfl ?_
    refine g_aload_n C dL_law_1269 rfl 3 rfl ?_
    refine g_aload_n C dL_law_1270 rfl 1 rfl ?_
    refine g_iload C dL_law_1271 5 rfl ?_
    refine g_iconst C (v := 1) dL_law_1273 (by decide) ?_
    refine g_iadd C dL_law_1274 ?_
    refine g_sldv C S (i + 1) (nx_add (rfl : nI i = nI i) (rfl : (1 : Int32) = nI 1)) (by omega) ha9 dL_law_1275 ?_
    refine g_callV C (cs1 := [wX ax (bo 0) (tr 0) (ac 0) (ah 0) (at_ 0), wB E bo ((fX6_close β η σ a).2.1), wB E tr τ, wC E ac γ, wH E ah bd ((fX6_close β η σ a).2.2.1), wT E at_ θ, wB E (bd 2) ((fX6_close β η σ a).2.2.2 2), wB E (bd 3) ((fX6_close β η σ a).2.2.2 3), wB E (bd 4) ((fX6_close β η σ a).2.2.2 4), wB E (bd 5) ((fX6_close β η σ a).2.2.2 5), wB E (bd 6) ((fX6_close β η σ a).2.2.2 6), wB E (bd 7) ((fX6_close β η σ a).2.2.2 7), wB E (bd 8) ((fX6_close β η σ a).2.2.2 8), wB E (bd 9) ((fX6_close β η σ a).2.2.2 9), wM E am ((fX7_close μ a).2), wO E ao (vp_updL o 0 v.toInt64)]) (st1 := [.int ((fX7_close μ a).1)]) [.int a] [14] (kX7_close l E am μ hvm a) caX7_close q7_25 rfl ⟨Nat.le_of_ble_eq_true rfl, Nat.le_of_ble_eq_true rfl⟩ ⟨hk, hn⟩ 14 0 rfl rfl rfl rfl (by decide) rfl rfl rfl rfl (Nat.le_of_ble_eq_true rfl) dL_law_1276 rfl ?_
    refine g_istore C (lv1 := [(6, .int ((fX7_close μ a).1)), (5, .int 0), (0, .ref b0), (1, .ref ax), (2, .ref (am 0)), (3, .ref ao), (4, .int (nI i))]) dL_law_1279 (by decide) rfl ?_
    refine g_aload_n C dL_law_1281 rfl 4 rfl ?_
    refine g_callV C (cs1 := [wX ax (bo 0) (tr 0) (ac 0) (ah 0) (at_ 0), wB E bo ((fX6_close β η σ a).2.1), wB E tr τ, wC E ac γ, wH E ah bd ((fX6_close β η σ a).2.2.1), wT E at_ θ, wB E (bd 2) ((fX6_close β η σ a).2.2.2 2), wB E (bd 3) ((fX6_close β η σ a).2.2.2 3), wB E (bd 4) ((fX6_close β η σ a).2.2.2 4), wB E (bd 5) ((fX6_close β η σ a).2.2.2 5), wB E (bd 6) ((fX6_close β η σ a).2.2.2 6), wB E (bd 7) ((fX6_close β η σ a).2.2.2 7), wB E (bd 8) ((fX6_close β η σ a).2.2.2 8), wB E (bd 9) ((fX6_close β η σ a).2.2.2 9), wM E am ((fX7_close μ a).2), wO E ao (vp_updL o 0 v.toInt64)]) (st1 := [.int (fX7_thrown ((fX7_close μ a).2))]) [] [14] (kX7_thrown l E am ((fX7_close μ a).2)) caX7_thrown q6_117 rfl ⟨Nat.le_of_ble_eq_true rfl, Nat.le_of_ble_eq_true rfl⟩ ⟨hk, hn⟩ 14 0 rfl rfl rfl rfl (by decide) rfl rfl rfl rfl (Nat.le_of_ble_eq_true rfl) dL_law_1282 rfl ?_
    refine g_iload C dL_law_1285 1 rfl ?_
    refine g_icmp_eq C 1292 dL_law_1287 (by decide) (fun _ => ?_) (fun c => absurd ht c)
    refine g_iload C dL_law_1292 1 rfl ?_
    refine g_if_ne C 1309 dL_law_1294 (by decide) (fun c => absurd rfl c) (fun _ => ?_)
    refine g_aload_n C dL_law_1297 rfl 5 rfl ?_
    refine g_iconst C (v := 0) dL_law_1298 (by decide) ?_
    refine g_laldn C 15 0 0 rfl rfl rfl (by decide) (by decide) dL_law_1299 ?_
    refine g_iload C dL_law_1300 0 rfl ?_
    refine g_i2l C dL_law_1302 ?_
    refine g_lcmp C dL_law_1303 ?_
    refine g_if_eq C 1309 dL_law_1304 (by decide) (fun _ => ?_) (fun c => absurd law_cmp c)
    refine g_goto C 3840 dL_law_1309 (by decide) ?_
    exact g_sub [2, 3, 4, 5, 6] rfl (next ((fX6_close β η σ a).2.1) τ γ ((fX6_close β η σ a).2.2.1) ((fX6_close β η σ a).2.2.2) θ ((fX7_close μ a).2) (vp_updL o 0 v.toInt64) hR2)
  · skip
    refine g_aload_n C dL_law_1256 rfl 1 rfl ?_
    refine g_aload_n C dL_law_1257 rfl 0 rfl ?_
    refine g_iload C dL_law_1258 4 rfl ?_
    refine g_iconst C (v := 1) dL_law_1260 (by decide) ?_
    refine g_iadd C dL_law_1261 ?_
    refine g_sldv C S (i + 1) (nx_add (rfl : nI i = nI i) (rfl : (1 : Int32) = nI 1)) (by omega) ha9 dL_law_1262 ?_
    refine g_aload_n C dL_law_1263 rfl 3 rfl ?_
    refine g_callSW C hZ hNc (cs1 := [wX ax (bo 0) (tr 0) (ac 0) (ah 0) (at_ 0), wB E bo ((fX6_close β η σ a).2.1), wB E tr τ, wC E ac γ, wH E ah bd ((fX6_close β η σ a).2.2.1), wT E at_ θ, wB E (bd 2) ((fX6_close β η σ a).2.2.2 2), wB E (bd 3) ((fX6_close β η σ a).2.2.2 3), wB E (bd 4) ((fX6_close β η σ a).2.2.2 4), wB E (bd 5) ((fX6_close β η σ a).2.2.2 5), wB E (bd 6) ((fX6_close β η σ a).2.2.2 6), wB E (bd 7) ((fX6_close β η σ a).2.2.2 7), wB E (bd 8) ((fX6_close β η σ a).2.2.2 8), wB E (bd 9) ((fX6_close β η σ a).2.2.2 9), wM E am μ, wO E ao o]) (st1 := [.int 1]) [.ref ax, .int a, .ref ao] [0, 1, 2, 3, 4, 5, 6, 7, 8, 9, 10, 11, 12, 13, 15] (kL_close_0 l E ax bo β tr τ ac γ ah bd η σ at_ θ ao o hlt hvb hvh a hr) q4_150 q1_0 (by decide +kernel) q4_149 q4_148 rfl ⟨Nat.le_of_ble_eq_true rfl, Nat.le_of_ble_eq_true rfl⟩ ⟨hk, hn⟩ (by decide) rfl rfl rfl rfl (Nat.le_of_ble_eq_true rfl) dL_law_1264 rfl ?_
    refine g_istore C (lv1 := [(5, .int 1), (0, .ref b0), (1, .ref ax), (2, .ref (am 0)), (3, .ref ao), (4, .int (nI i))]) dL_law_1267 (by decide) rfl ?_
    refine g_aload_n C dL_law_1269 rfl 3 rfl ?_
    refine g_aload_n C dL_law_1270 rfl 1 rfl ?_
    refine g_iload C dL_law_1271 5 rfl ?_
    refine g_iconst C (v := 1) dL_law_1273 (by decide) ?_
    refine g_iadd C dL_law_1274 ?_
    refine g_sldv C S (i + 1) (nx_add (rfl : nI i = nI i) (rfl : (1 : Int32) = nI 1)) (by omega) ha9 dL_law_1275 ?_
    refine g_callV C (cs1 := [wX ax (bo 0) (tr 0) (ac 0) (ah 0) (at_ 0), wB E bo ((fX6_close β η σ a).2.1), wB E tr τ, wC E ac γ, wH E ah bd ((fX6_close β η σ a).2.2.1), wT E at_ θ, wB E (bd 2) ((fX6_close β η σ a).2.2.2 2), wB E (bd 3) ((fX6_close β η σ a).2.2.2 3), wB E (bd 4) ((fX6_close β η σ a).2.2.2 4), wB E (bd 5) ((fX6_close β η σ a).2.2.2 5), wB E (bd 6) ((fX6_close β η σ a).2.2.2 6), wB E (bd 7) ((fX6_close β η σ a).2.2.2 7), wB E (bd 8) ((fX6_close β η σ a).2.2.2 8), wB E (bd 9) ((fX6_close β η σ a).2.2.2 9), wM E am ((fX7_close μ a).2), wO E ao o]) (st1 := [.int ((fX7_close μ a).1)]) [.int a] [14] (kX7_close l E am μ hvm a) caX7_close q7_25 rfl ⟨Nat.le_of_ble_eq_true rfl, Nat.le_of_ble_eq_true rfl⟩ ⟨hk, hn⟩ 14 0 rfl rfl rfl rfl (by decide) rfl rfl rfl rfl (Nat.le_of_ble_eq_true rfl) dL_law_1276 rfl ?_
    refine g_istore C (lv1 := [(6, .int ((fX7_close μ a).1)), (5, .int 1), (0, .ref b0), (1, .ref ax), (2, .ref (am 0)), (3, .ref ao), (4, .int (nI i))]) dL_law_1279 (by decide) rfl ?_
    refine g_aload_n C dL_law_1281 rfl 4 rfl ?_
    refine g_callV C (cs1 := [wX ax (bo 0) (tr 0) (ac 0) (ah 0) (at_ 0), wB E bo ((fX6_close β η σ a).2.1), wB E tr τ, wC E ac γ, wH E ah bd ((fX6_close β η σ a).2.2.1), wT E at_ θ, wB E (bd 2) ((fX6_close β η σ a).2.2.2 2), wB E (bd 3) ((fX6_close β η σ a).2.2.2 3), wB E (bd 4) ((fX6_close β η σ a).2.2.2 4), wB E (bd 5) ((fX6_close β η σ a).2.2.2 5), wB E (bd 6) ((fX6_close β η σ a).2.2.2 6), wB E (bd 7) ((fX6_close β η σ a).2.2.2 7), wB E (bd 8) ((fX6_close β η σ a).2.2.2 8), wB E (bd 9) ((fX6_close β η σ a).2.2.2 9), wM E am ((fX7_close μ a).2), wO E ao o]) (st1 := [.int (fX7_thrown ((fX7_close μ a).2))]) [] [14] (kX7_thrown l E am ((fX7_close μ a).2)) caX7_thrown q6_117 rfl ⟨Nat.le_of_ble_eq_true rfl, Nat.le_of_ble_eq_true rfl⟩ ⟨hk, hn⟩ 14 0 rfl rfl rfl rfl (by decide) rfl rfl rfl rfl (Nat.le_of_ble_eq_true rfl) dL_law_1282 rfl ?_
    refine g_iload C dL_law_1285 1 rfl ?_
    refine g_icmp_eq C 1292 dL_law_1287 (by decide) (fun _ => ?_) (fun c => absurd ht c)
    refine g_iload C dL_law_1292 1 rfl ?_
    refine g_if_ne C 1309 dL_law_1294 (by decide) (fun _ => ?_) (fun c => absurd c (by decide))
    refine g_goto C 3840 dL_law_1309 (by decide) ?_
    exact g_sub [2, 3, 4, 5, 6] rfl (next ((fX6_close β η σ a).2.1) τ γ ((fX6_close β η σ a).2.2.1) ((fX6_close β η σ a).2.2.2) θ ((fX7_close μ a).2) o hR2)
  · skip
    refine g_aload_n C dL_law_1256 rfl 1 rfl ?_
    refine g_aload_n C dL_law_1257 rfl 0 rfl ?_
    refine g_iload C dL_law_1258 4 rfl ?_
    refine g_iconst C (v := 1) dL_law_1260 (by decide) ?_
    refine g_iadd C dL_law_1261 ?_
    refine g_sldv C S (i + 1) (nx_add (rfl : nI i = nI i) (rfl : (1 : Int32) = nI 1)) (by omega) ha9 dL_law_1262 ?_
    refine g_aload_n C dL_law_1263 rfl 3 rfl ?_
    refine g_callSW C hZ hNc (cs1 := [wX ax (bo 0) (tr 0) (ac 0) (ah 0) (at_ 0), wB E bo ((fX6_close β η σ a).2.1), wB E tr τ, wC E ac γ, wH E ah bd ((fX6_close β η σ a).2.2.1), wT E at_ θ, wB E (bd 2) ((fX6_close β η σ a).2.2.2 2), wB E (bd 3) ((fX6_close β η σ a).2.2.2 3), wB E (bd 4) ((fX6_close β η σ a).2.2.2 4), wB E (bd 5) ((fX6_close β η σ a).2.2.2 5), wB E (bd 6) ((fX6_close β η σ a).2.2.2 6), wB E (bd 7) ((fX6_close β η σ a).2.2.2 7), wB E (bd 8) ((fX6_close β η σ a).2.2.2 8), wB E (bd 9) ((fX6_close β η σ a).2.2.2 9), wM E am μ, wO E ao o]) (st1 := [.int 2]) [.ref ax, .int a, .ref ao] [0, 1, 2, 3, 4, 5, 6, 7, 8, 9, 10, 11, 12, 13, 15] (kL_close_1 l E ax bo β tr τ ac γ ah bd η σ at_ θ ao o hlt hvb hvh a hr) q4_150 q1_0 (by decide +kernel) q4_149 q4_148 rfl ⟨Nat.le_of_ble_eq_true rfl, Nat.le_of_ble_eq_true rfl⟩ ⟨hk, hn⟩ (by decide) rfl rfl rfl rfl (Nat.le_of_ble_eq_true rfl) dL_law_1264 rfl ?_
    refine g_istore C (lv1 := [(5, .int 2), (0, .ref b0), (1, .ref ax), (2, .ref (am 0)), (3, .ref ao), (4, .int (nI i))]) dL_law_1267 (by decide) rfl ?_
    refine g_aload_n C dL_law_1269 rfl 3 rfl ?_
    refine g_aload_n C dL_law_1270 rfl 1 rfl ?_
    refine g_iload C dL_law_1271 5 rfl ?_
    refine g_iconst C (v := 1) dL_law_1273 (by decide) ?_
    refine g_iadd C dL_law_1274 ?_
    refine g_sldv C S (i + 1) (nx_add (rfl : nI i = nI i) (rfl : (1 : Int32) = nI 1)) (by omega) ha9 dL_law_1275 ?_
    refine g_callV C (cs1 := [wX ax (bo 0) (tr 0) (ac 0) (ah 0) (at_ 0), wB E bo ((fX6_close β η σ a).2.1), wB E tr τ, wC E ac γ, wH E ah bd ((fX6_close β η σ a).2.2.1), wT E at_ θ, wB E (bd 2) ((fX6_close β η σ a).2.2.2 2), wB E (bd 3) ((fX6_close β η σ a).2.2.2 3), wB E (bd 4) ((fX6_close β η σ a).2.2.2 4), wB E (bd 5) ((fX6_close β η σ a).2.2.2 5), wB E (bd 6) ((fX6_close β η σ a).2.2.2 6), wB E (bd 7) ((fX6_close β η σ a).2.2.2 7), wB E (bd 8) ((fX6_close β η σ a).2.2.2 8), wB E (bd 9) ((fX6_close β η σ a).2.2.2 9), wM E am ((fX7_close μ a).2), wO E ao o]) (st1 := [.int ((fX7_close μ a).1)]) [.int a] [14] (kX7_close l E am μ hvm a) caX7_close q7_25 rfl ⟨Nat.le_of_ble_eq_true rfl, Nat.le_of_ble_eq_true rfl⟩ ⟨hk, hn⟩ 14 0 rfl rfl rfl rfl (by decide) rfl rfl rfl rfl (Nat.le_of_ble_eq_true rfl) dL_law_1276 rfl ?_
    refine g_istore C (lv1 := [(6, .int ((fX7_close μ a).1)), (5, .int 2), (0, .ref b0), (1, .ref ax), (2, .ref (am 0)), (3, .ref ao), (4, .int (nI i))]) dL_law_1279 (by decide) rfl ?_
    refine g_aload_n C dL_law_1281 rfl 4 rfl ?_
    refine g_callV C (cs1 := [wX ax (bo 0) (tr 0) (ac 0) (ah 0) (at_ 0), wB E bo ((fX6_close β η σ a).2.1), wB E tr τ, wC E ac γ, wH E ah bd ((fX6_close β η σ a).2.2.1), wT E at_ θ, wB E (bd 2) ((fX6_close β η σ a).2.2.2 2), wB E (bd 3) ((fX6_close β η σ a).2.2.2 3), wB E (bd 4) ((fX6_close β η σ a).2.2.2 4), wB E (bd 5) ((fX6_close β η σ a).2.2.2 5), wB E (bd 6) ((fX6_close β η σ a).2.2.2 6), wB E (bd 7) ((fX6_close β η σ a).2.2.2 7), wB E (bd 8) ((fX6_close β η σ a).2.2.2 8), wB E (bd 9) ((fX6_close β η σ a).2.2.2 9), wM E am ((fX7_close μ a).2), wO E ao o]) (st1 := [.int (fX7_thrown ((fX7_close μ a).2))]) [] [14] (kX7_thrown l E am ((fX7_close μ a).2)) caX7_thrown q6_117 rfl ⟨Nat.le_of_ble_eq_true rfl, Nat.le_of_ble_eq_true rfl⟩ ⟨hk, hn⟩ 14 0 rfl rfl rfl rfl (by decide) rfl rfl rfl rfl (Nat.le_of_ble_eq_true rfl) dL_law_1282 rfl ?_
    refine g_iload C dL_law_1285 1 rfl ?_
    refine g_icmp_eq C 1292 dL_law_1287 (by decide) (fun _ => ?_) (fun c => absurd ht c)
    refine g_iload C dL_law_1292 1 rfl ?_
    refine g_if_ne C 1309 dL_law_1294 (by decide) (fun _ => ?_) (fun c => absurd c (by decide))
    refine g_goto C 3840 dL_law_1309 (by decide) ?_
    exact g_sub [2, 3, 4, 5, 6] rfl (next ((fX6_close β η σ a).2.1) τ γ ((fX6_close β η σ a).2.2.1) ((fX6_close β η σ a).2.2.2) θ ((fX7_close μ a).2) o hR2)
set_option maxHeartbeats 4000000 in
set_option maxRecDepth 100000 in
theorem arm_16 {Rl : RlT} (hRv : RlV Rl) (hs : sH_reopen Rl)  {X : gX} {l : Launch} {E : gE} (C : gC X cL_law 9 RL (some .boolean) l E room_1) (hZ : gZ X.2.2.2.2.2.2.2.2.2.2.2.1 X.2.2.2.2.1 X.2.2.2.2.1.heap) (hNc : gNc X.2.2.2.2.1) {b0 L0 : Nat} {xs : Nat → Int32} (S : gS X b0 L0 xs) (hlt : l.stackTraces = false) {ax : Nat} {bo tr ac ah : Nat → Nat} {bd : Nat → Nat → Nat} {at_ am : Nat → Nat} {ao k n i : Nat} (hk : k + 3 ≤ 601024) (hn : n + 18 ≤ 7293034) (hi : i + 3 ≤ L0) {β τ γ η : BS} {σ : Nat → BS} {θ μ : BS} {o : Nat → Int64} (hR : Rl β η θ σ μ) (next : ∀ (β τ γ η : BS) (σ : Nat → BS) (θ μ : BS) (o : Nat → Int64), Rl β η θ σ μ → G X (k + 3) (n + 18) [wX ax (bo 0) (tr 0) (ac 0) (ah 0) (at_ 0), wB E bo β, wB E tr τ, wC E ac γ, wH E ah bd η, wT E at_ θ, wB E (bd 2) (σ 2), wB E (bd 3) (σ 3), wB E (bd 4) (σ 4), wB E (bd 5) (σ 5), wB E (bd 6) (σ 6), wB E (bd 7) (σ 7), wB E (bd 8) (σ 8), wB E (bd 9) (σ 9), wM E am μ, wO E ao o] [(0, .ref b0), (1, .ref ax), (2, .ref (am 0)), (3, .ref ao), (4, .int (nI i))] 3840 []) : G X k n [wX ax (bo 0) (tr 0) (ac 0) (ah 0) (at_ 0), wB E bo β, wB E tr τ, wC E ac γ, wH E ah bd η, wT E at_ θ, wB E (bd 2) (σ 2), wB E (bd 3) (σ 3), wB E (bd 4) (σ 4), wB E (bd 5) (σ 5), wB E (bd 6) (σ 6), wB E (bd 7) (σ 7), wB E (bd 8) (σ 8), wB E (bd 9) (σ 9), wM E am μ, wO E ao o] [(0, .ref b0), (1, .ref ax), (2, .ref (am 0)), (3, .ref ao), (4, .int (nI i))] 1312 [] := by
  obtain ⟨hvb, hvh, hvt, hvm, ha⟩ := hRv β η θ σ μ hR
  obtain ⟨a, ha9⟩ : ∃ a, xs (i + 1) = a := ⟨_, rfl⟩
  obtain ⟨hag, hR2⟩ := hs β τ γ η σ θ μ a hR
  rcases hag with ⟨hr, ht⟩ | ⟨hr, ht⟩ | ⟨hr, ht⟩
  · skip
    refine g_aload_n C dL_law_1312 rfl 1 rfl ?_
    refine g_aload_n C dL_law_1313 rfl 0 rfl ?_
    refine g_iload C dL_law_1314 4 rfl ?_
    refine g_iconst C (v := 1) dL_law_1316 (by decide) ?_
    refine g_iadd C dL_law_1317 ?_
    refine g_sldv C S (i + 1) (nx_add (rfl : nI i = nI i) (rfl : (1 : Int32) = nI 1)) (by omega) ha9 dL_law_1318 ?_
    refine g_aload_n C dL_law_1319 rfl 3 rfl ?_
    refine g_callSW C hZ hNc (cs1 := [wX ax (bo 0) (tr 0) (ac 0) (ah 0) (at_ 0), wB E bo ((fX6_reopen β η σ a).2.1), wB E tr τ, wC E ac γ, wH E ah bd ((fX6_reopen β η σ a).2.2.1), wT E at_ θ, wB E (bd 2) ((fX6_reopen β η σ a).2.2.2 2), wB E (bd 3) ((fX6_reopen β η σ a).2.2.2 3), wB E (bd 4) ((fX6_reopen β η σ a).2.2.2 4), wB E (bd 5) ((fX6_reopen β η σ a).2.2.2 5), wB E (bd 6) ((fX6_reopen β η σ a).2.2.2 6), wB E (bd 7) ((fX6_reopen β η σ a).2.2.2 7), wB E (bd 8) ((fX6_reopen β η σ a).2.2.2 8), wB E (bd 9) ((fX6_reopen β η σ a).2.2.2 9), wM E am μ, wO E ao (vp_updL o 0 v.toInt64)]) (st1 := [.int 0]) [.ref ax, .int a, .ref ao] [0, 1, 2, 3, 4, 5, 6, 7, 8, 9, 10, 11, 12, 13, 15] (kL_reopen_r l E ax bo β tr τ ac γ ah bd η σ at_ θ ao o hlt hvb hvh a ((fX7_reopen μ a).1) hr) q4_171 q1_0 (by decide +kernel) q4_170 q4_169 rfl ⟨Nat.le_of_ble_eq_true rfl, Nat.le_of_ble_eq_true rfl⟩ ⟨hk, hn⟩ (by decide) rfl rfl rfl rfl (Nat.le_of_ble_eq_true rfl) dL_law_1320 rfl ?_
    refine g_istore C (lv1 := [(5, .int 0), (0, .ref b0), (1, .ref ax), (2, .ref (am 0)), (3, .ref ao), (4, .int (nI i))]) dL_law_1323 (by decide) rfl ?_
    refine g_aload_n C dL_law_1325 rfl 3 rfl ?_
    refine g_aload_n C dL_law_1326 rfl 1 rfl ?_
    refine g_iload C dL_law_1327 5 rfl ?_
    refine g_iconst C (v := 1) dL_law_1329 (by decide) ?_
    refine g_iadd C dL_law_1330 ?_
    refine g_sldv C S (i + 1) (nx_add (rfl : nI i = nI i) (rfl : (1 : Int32) = nI 1)) (by omega) ha9 dL_law_1331 ?_
    refine g_callV C (cs1 := [wX ax (bo 0) (tr 0) (ac 0) (ah 0) (at_ 0), wB E bo ((fX6_reopen β η σ a).2.1), wB E tr τ, wC E ac γ, wH E ah bd ((fX6_reopen β η σ a).2.2.1), wT E at_ θ, wB E (bd 2) ((fX6_reopen β η σ a).2.2.2 2), wB E (bd 3) ((fX6_reopen β η σ a).2.2.2 3), wB E (bd 4) ((fX6_reopen β η σ a).2.2.2 4), wB E (bd 5) ((fX6_reopen β η σ a).2.2.2 5), wB E (bd 6) ((fX6_reopen β η σ a).2.2.2 6), wB E (bd 7) ((fX6_reopen β η σ a).2.2.2 7), wB E (bd 8) ((fX6_reopen β η σ a).2.2.2 8), wB E (bd 9) ((fX6_reopen β η σ a).2.2.2 9), wM E am ((fX7_reopen μ a).2), wO E ao (vp_updL o 0 v.toInt64)]) (st1 := [.int ((fX7_reopen μ a).1)]) [.int a] [14] (kX7_reopen l E am μ hvm a) caX7_reopen q7_49 rfl ⟨Nat.le_of_ble_eq_true rfl, Nat.le_of_ble_eq_true rfl⟩ ⟨hk, hn⟩ 14 0 rfl rfl rfl rfl (by decide) rfl rfl rfl rfl (Nat.le_of_ble_eq_true rfl) dL_law_1332 rfl ?_
    refine g_istore C (lv1 := [(6, .int ((fX7_reopen μ a).1)), (5, .int 0), (0, .ref b0), (1, .ref ax), (2, .ref (am 0)), (3, .ref ao), (4, .int (nI i))]) dL_law_1335 (by decide) rfl ?_
    refine g_aload_n C dL_law_1337 rfl 4 rfl ?_
    refine g_callV C (cs1 := [wX ax (bo 0) (tr 0) (ac 0) (ah 0) (at_ 0), wB E bo ((fX6_reopen β η σ a).2.1), wB E tr τ, wC E ac γ, wH E ah bd ((fX6_reopen β η σ a).2.2.1), wT E at_ θ, wB E (bd 2) ((fX6_reopen β η σ a).2.2.2 2), wB E (bd 3) ((fX6_reopen β η σ a).2.2.2 3), wB E (bd 4) ((fX6_reopen β η σ a).2.2.2 4), wB E (bd 5) ((fX6_reopen β η σ a).2.2.2 5), wB E (bd 6) ((fX6_reopen β η σ a).2.2.2 6), wB E (bd 7) ((fX6_reopen β η σ a).2.2.2 7), wB E (bd 8) ((fX6_reopen β η σ a).2.2.2 8), wB E (bd 9) ((fX6_reopen β η σ a).2.2.2 9), wM E am ((fX7_reopen μ a).2), wO E ao (vp_updL o 0 v.toInt64)]) (st1 := [.int (fX7_thrown ((fX7_reopen μ a).2))]) [] [14] (kX7_thrown l E am ((fX7_reopen μ a).2)) caX7_thrown q6_117 rfl ⟨Nat.le_of_ble_eq_true rfl, Nat.le_of_ble_eq_true rfl⟩ ⟨hk, hn⟩ 14 0 rfl rfl rfl rfl (by decide) rfl rfl rfl rfl (Nat.le_of_ble_eq_true rfl) dL_law_1338 rfl ?_
    refine g_iload C dL_law_1341 1 rfl ?_
    refine g_icmp_eq C 1348 dL_law_1343 (by decide) (fun _ => ?_) (fun c => absurd ht c)
    refine g_iload C dL_law_1348 1 rfl ?_
    refine g_if_ne C 1365 dL_law_1350 (by decide) (fun c => absurd rfl c) (fun _ => ?_)
    refine g_aload_n C dL_law_1353 rfl 5 rfl ?_
    refine g_iconst C (v := 0) dL_law_1354 (by decide) ?_
    refine g_laldn C 15 0 0 rfl rfl rfl (by decide) (by decide) dL_law_1355 ?_
    refine g_iload C dL_law_1356 0 rfl ?_
    refine g_i2l C dL_law_1358 ?_
    refine g_lcmp C dL_law_1359 ?_
    refine g_if_eq C 1365 dL_law_1360 (by decide) (fun _ => ?_) (fun c => absurd law_cmp c)
    refine g_goto C 3840 dL_law_1365 (by decide) ?_
    exact g_sub [2, 3, 4, 5, 6] rfl (next ((fX6_reopen β η σ a).2.1) τ γ ((fX6_reopen β η σ a).2.2.1) ((fX6_reopen β η σ a).2.2.2) θ ((fX7_reopen μ a).2) (vp_updL o 0 v.toInt64) hR2)
  · skip
    refine g_aload_n C dL_law_1312 rfl 1 rfl ?_
    refine g_aload_n C dL_law_1313 rfl 0 rfl ?_
    refine g_iload C dL_law_1314 4 rfl ?_
    refine g_iconst C (v := 1) dL_law_1316 (by decide) ?_
    refine g_iadd C dL_law_1317 ?_
    refine g_sldv C S (i + 1) (nx_add (rfl : nI i = nI i) (rfl : (1 : Int32) = nI 1)) (by omega) ha9 dL_law_1318 ?_
    refine g_aload_n C dL_law_1319 rfl 3 rfl ?_
    refine g_callSW C hZ hNc (cs1 := [wX ax (bo 0) (tr 0) (ac 0) (ah 0) (at_ 0), wB E bo ((fX6_reopen β η σ a).2.1), wB E tr τ, wC E ac γ, wH E ah bd ((fX6_reopen β η σ a).2.2.1), wT E at_ θ, wB E (bd 2) ((fX6_reopen β η σ a).2.2.2 2), wB E (bd 3) ((fX6_reopen β η σ a).2.2.2 3), wB E (bd 4) ((fX6_reopen β η σ a).2.2.2 4), wB E (bd 5) ((fX6_reopen β η σ a).2.2.2 5), wB E (bd 6) ((fX6_reopen β η σ a).2.2.2 6), wB E (bd 7) ((fX6_reopen β η σ a).2.2.2 7), wB E (bd 8) ((fX6_reopen β η σ a).2.2.2 8), wB E (bd 9) ((fX6_reopen β η σ a).2.2.2 9), wM E am μ, wO E ao o]) (st1 := [.int 1]) [.ref ax, .int a, .ref ao] [0, 1, 2, 3, 4, 5, 6, 7, 8, 9, 10, 11, 12, 13, 15] (kL_reopen_0 l E ax bo β tr τ ac γ ah bd η σ at_ θ ao o hlt hvb hvh a hr) q4_171 q1_0 (by decide +kernel) q4_170 q4_169 rfl ⟨Nat.le_of_ble_eq_true rfl, Nat.le_of_ble_eq_true rfl⟩ ⟨hk, hn⟩ (by decide) rfl rfl rfl rfl (Nat.le_of_ble_eq_true rfl) dL_law_1320 rfl ?_
    refine g_istore C (lv1 := [(5, .int 1), (0, .ref b0), (1, .ref ax), (2, .ref (am 0)), (3, .ref ao), (4, .int (nI i))]) dL_law_1323 (by decide) rfl ?_
    refine g_aload_n C dL_law_1325 rfl 3 rfl ?_
    refine g_aload_n C dL_law_1326 rfl 1 rfl ?_
    refine g_iload C dL_law_1327 5 rfl ?_
    refine g_iconst C (v := 1) dL_law_1329 (by decide) ?_
    refine g_iadd C dL_law_1330 ?_
    refine g_sldv C S (i + 1) (nx_add (rfl : nI i = nI i) (rfl : (1 : Int32) = nI 1)) (by omega) ha9 dL_law_1331 ?_
    refine g_callV C (cs1 := [wX ax (bo 0) (tr 0) (ac 0) (ah 0) (at_ 0), wB E bo ((fX6_reopen β η σ a).2.1), wB E tr τ, wC E ac γ, wH E ah bd ((fX6_reopen β η σ a).2.2.1), wT E at_ θ, wB E (bd 2) ((fX6_reopen β η σ a).2.2.2 2), wB E (bd 3) ((fX6_reopen β η σ a).2.2.2 3), wB E (bd 4) ((fX6_reopen β η σ a).2.2.2 4), wB E (bd 5) ((fX6_reopen β η σ a).2.2.2 5), wB E (bd 6) ((fX6_reopen β η σ a).2.2.2 6), wB E (bd 7) ((fX6_reopen β η σ a).2.2.2 7), wB E (bd 8) ((fX6_reopen β η σ a).2.2.2 8), wB E (bd 9) ((fX6_reopen β η σ a).2.2.2 9), wM E am ((fX7_reopen μ a).2), wO E ao o]) (st1 := [.int ((fX7_reopen μ a).1)]) [.int a] [14] (kX7_reopen l E am μ hvm a) caX7_reopen q7_49 rfl ⟨Nat.le_of_ble_eq_true rfl, Nat.le_of_ble_eq_true rfl⟩ ⟨hk, hn⟩ 14 0 rfl rfl rfl rfl (by decide) rfl rfl rfl rfl (Nat.le_of_ble_eq_true rfl) dL_law_1332 rfl ?_
    refine g_istore C (lv1 := [(6, .int ((fX7_reopen μ a).1)), (5, .int 1), (0, .ref b0), (1, .ref ax), (2, .ref (am 0)), (3, .ref ao), (4, .int (nI i))]) dL_law_1335 (by decide) rfl ?_
    refine g_aload_n C dL_law_1337 rfl 4 rfl ?_
    refine g_callV C (cs1 := [wX ax (bo 0) (tr 0) (ac 0) (ah 0) (at_ 0), wB E bo ((fX6_reopen β η σ a).2.1), wB E tr τ, wC E ac γ, wH E ah bd ((fX6_reopen β η σ a).2.2.1), wT E at_ θ, wB E (bd 2) ((fX6_reopen β η σ a).2.2.2 2), wB E (bd 3) ((fX6_reopen β η σ a).2.2.2 3), wB E (bd 4) ((fX6_reopen β η σ a).2.2.2 4), wB E (bd 5) ((fX6_reopen β η σ a).2.2.2 5), wB E (bd 6) ((fX6_reopen β η σ a).2.2.2 6), wB E (bd 7) ((fX6_reopen β η σ a).2.2.2 7), wB E (bd 8) ((fX6_reopen β η σ a).2.2.2 8), wB E (bd 9) ((fX6_reopen β η σ a).2.2.2 9), wM E am ((fX7_reopen μ a).2), wO E ao o]) (st1 := [.int (fX7_thrown ((fX7_reopen μ a).2))]) [] [14] (kX7_thrown l E am ((fX7_reopen μ a).2)) caX7_thrown q6_117 rfl ⟨Nat.le_of_ble_eq_true rfl, Nat.le_of_ble_eq_true rfl⟩ ⟨hk, hn⟩ 14 0 rfl rfl rfl rfl (by decide) rfl rfl rfl rfl (Nat.le_of_ble_eq_true rfl) dL_law_1338 rfl ?_
    refine g_iload C dL_law_1341 1 rfl ?_
    refine g_icmp_eq C 1348 dL_law_1343 (by decide) (fun _ => ?_) (fun c => absurd ht c)
    refine g_iload C dL_law_1348 1 rfl ?_
    refine g_if_ne C 1365 dL_law_1350 (by decide) (fun _ => ?_) (fun c => absurd c (by decide))
    refine g_goto C 3840 dL_law_1365 (by decide) ?_
    exact g_sub [2, 3, 4, 5, 6] rfl (next ((fX6_reopen β η σ a).2.1) τ γ ((fX6_reopen β η σ a).2.2.1) ((fX6_reopen β η σ a).2.2.2) θ ((fX7_reopen μ a).2) o hR2)
  · skip
    refine g_aload_n C dL_law_1312 rfl 1 rfl ?_
    refine g_aload_n C dL_law_1313 rfl 0 rfl ?_
    refine g_iload C dL_law_1314 4 rfl ?_
    refine g_iconst C (v := 1) dL_law_1316 (by decide) ?_
    refine g_iadd C dL_law_1317 ?_
    refine g_sldv C S (i + 1) (nx_add (rfl : nI i = nI i) (rfl : (1 : Int32) = nI 1)) (by omega) ha9 dL_law_1318 ?_
    refine g_aload_n C dL_law_1319 rfl 3 rfl ?_
    refine g_callSW C hZ hNc (cs1 := [wX ax (bo 0) (tr 0) (ac 0) (ah 0) (at_ 0), wB E bo ((fX6_reopen β η σ a).2.1), wB E tr τ, wC E ac γ, wH E ah bd ((fX6_reopen β η σ a).2.2.1), wT E at_ θ, wB E (bd 2) ((fX6_reopen β η σ a).2.2.2 2), wB E (bd 3) ((fX6_reopen β η σ a).2.2.2 3), wB E (bd 4) ((fX6_reopen β η σ a).2.2.2 4), wB E (bd 5) ((fX6_reopen β η σ a).2.2.2 5), wB E (bd 6) ((fX6_reopen β η σ a).2.2.2 6), wB E (bd 7) ((fX6_reopen β η σ a).2.2.2 7), wB E (bd 8) ((fX6_reopen β η σ a).2.2.2 8), wB E (bd 9) ((fX6_reopen β η σ a).2.2.2 9), wM E am μ, wO E ao o]) (st1 := [.int 2]) [.ref ax, .int a, .ref ao] [0, 1, 2, 3, 4, 5, 6, 7, 8, 9, 10, 11, 12, 13, 15] (kL_reopen_1 l E ax bo β tr τ ac γ ah bd η σ at_ θ ao o hlt hvb hvh a hr) q4_171 q1_0 (by decide +kernel) q4_170 q4_169 rfl ⟨Nat.le_of_ble_eq_true rfl, Nat.le_of_ble_eq_true rfl⟩ ⟨hk, hn⟩ (by decide) rfl rfl rfl rfl (Nat.le_of_ble_eq_true rfl) dL_law_1320 rfl ?_
    refine g_istore C (lv1 := [(5, .int 2), (0, .ref b0), (1, .ref ax), (2, .ref (am 0)), (3, .ref ao), (4, .int (nI i))]) dL_law_1323 (by decide) rfl ?_
    refine g_aload_n C dL_law_1325 rfl 3 rfl ?_
    refine g_aload_n C dL_law_1326 rfl 1 rfl ?_
    refine g_iload C dL_law_1327 5 rfl ?_
    refine g_iconst C (v := 1) dL_law_1329 (by decide) ?_
    refine g_iadd C dL_law_1330 ?_
    refine g_sldv C S (i + 1) (nx_add (rfl : nI i = nI i) (rfl : (1 : Int32) = nI 1)) (by omega) ha9 dL_law_1331 ?_
    refine g_callV C (cs1 := [wX ax (bo 0) (tr 0) (ac 0) (ah 0) (at_ 0), wB E bo ((fX6_reopen β η σ a).2.1), wB E tr τ, wC E ac γ, wH E ah bd ((fX6_reopen β η σ a).2.2.1), wT E at_ θ, wB E (bd 2) ((fX6_reopen β η σ a).2.2.2 2), wB E (bd 3) ((fX6_reopen β η σ a).2.2.2 3), wB E (bd 4) ((fX6_reopen β η σ a).2.2.2 4), wB E (bd 5) ((fX6_reopen β η σ a).2.2.2 5), wB E (bd 6) ((fX6_reopen β η σ a).2.2.2 6), wB E (bd 7) ((fX6_reopen β η σ a).2.2.2 7), wB E (bd 8) ((fX6_reopen β η σ a).2.2.2 8), wB E (bd 9) ((fX6_reopen β η σ a).2.2.2 9), wM E am ((fX7_reopen μ a).2), wO E ao o]) (st1 := [.int ((fX7_reopen μ a).1)]) [.int a] [14] (kX7_reopen l E am μ hvm a) caX7_reopen q7_49 rfl ⟨Nat.le_of_ble_eq_true rfl, Nat.le_of_ble_eq_true rfl⟩ ⟨hk, hn⟩ 14 0 rfl rfl rfl rfl (by decide) rfl rfl rfl rfl (Nat.le_of_ble_eq_true rfl) dL_law_1332 rfl ?_
    refine g_istore C (lv1 := [(6, .int ((fX7_reopen μ a).1)), (5, .int 2), (0, .ref b0), (1, .ref ax), (2, .ref (am 0)), (3, .ref ao), (4, .int (nI i))]) dL_law_1335 (by decide) rfl ?_
    refine g_aload_n C dL_law_1337 rfl 4 rfl ?_
    refine g_callV C (cs1 := [wX ax (bo 0) (tr 0) (ac 0) (ah 0) (at_ 0), wB E bo ((fX6_reopen β η σ a).2.1), wB E tr τ, wC E ac γ, wH E ah bd ((fX6_reopen β η σ a).2.2.1), wT E at_ θ, wB E (bd 2) ((fX6_reopen β η σ a).2.2.2 2), wB E (bd 3) ((fX6_reopen β η σ a).2.2.2 3), wB E (bd 4) ((fX6_reopen β η σ a).2.2.2 4), wB E (bd 5) ((fX6_reopen β η σ a).2.2.2 5), wB E (bd 6) ((fX6_reopen β η σ a).2.2.2 6), wB E (bd 7) ((fX6_reopen β η σ a).2.2.2 7), wB E (bd 8) ((fX6_reopen β η σ a).2.2.2 8), wB E (bd 9) ((fX6_reopen β η σ a).2.2.2 9), wM E am ((fX7_reopen μ a).2), wO E ao o]) (st1 := [.int (fX7_thrown ((fX7_reopen μ a).2))]) [] [14] (kX7_thrown l E am ((fX7_reopen μ a).2)) caX7_thrown q6_117 rfl ⟨Nat.le_of_ble_eq_true rfl, Nat.le_of_ble_eq_true rfl⟩ ⟨hk, hn⟩ 14 0 rfl rfl rfl rfl (by decide) rfl rfl rfl rfl (Nat.le_of_ble_eq_true rfl) dL_law_1338 rfl ?_
    refine g_iload C dL_law_1341 1 rfl ?_
    refine g_icmp_eq C 1348 dL_law_1343 (by decide) (fun _ => ?_) (fun c => absurd ht c)
    refine g_iload C dL_law_1348 1 rfl ?_
    refine g_if_ne C 1365 dL_law_1350 (by decide) (fun _ => ?_) (fun c => absurd c (by decide))
    refine g_goto C 3840 dL_law_1365 (by decide) ?_
    exact g_sub [2, 3, 4, 5, 6] rfl (next ((fX6_reopen β η σ a).2.1) τ γ ((fX6_reopen β η σ a).2.2.1) ((fX6_reopen β η σ a).2.2.2) θ ((fX7_reopen μ a).2) o hR2)
set_option maxHeartbeats 4000000 in
set_option maxRecDepth 100000 in
theorem arm_17 {Rl : RlT} (hRv : RlV Rl) (hs : sH_drop Rl)  {X : gX} {l : Launch} {E : gE} (C : gC X cL_law 9 RL (some .boolean) l E room_1) (hZ : gZ X.2.2.2.2.2.2.2.2.2.2.2.1 X.2.2.2.2.1 X.2.2.2.2.1.heap) (hNc : gNc X.2.2.2.2.1) {b0 L0 : Nat} {xs : Nat → Int32} (S : gS X b0 L0 xs) (hlt : l.stackTraces = false) {ax : Nat} {bo tr ac ah : Nat → Nat} {bd : Nat → Nat → Nat} {at_ am : Nat → Nat} {ao k n i : Nat} (hk : k + 3 ≤ 601024) (hn : n + 18 ≤ 7293034) (hi : i + 3 ≤ L0) {β τ γ η : BS} {σ : Nat → BS} {θ μ : BS} {o : Nat → Int64} (hR : Rl β η θ σ μ) (next : ∀ (β τ γ η : BS) (σ : Nat → BS) (θ μ : BS) (o : Nat → Int64), Rl β η θ σ μ → G X (k + 3) (n + 18) [wX ax (bo 0) (tr 0) (ac 0) (ah 0) (at_ 0), wB E bo β, wB E tr τ, wC E ac γ, wH E ah bd η, wT E at_ θ, wB E (bd 2) (σ 2), wB E (bd 3) (σ 3), wB E (bd 4) (σ 4), wB E (bd 5) (σ 5), wB E (bd 6) (σ 6), wB E (bd 7) (σ 7), wB E (bd 8) (σ 8), wB E (bd 9) (σ 9), wM E am μ, wO E ao o] [(0, .ref b0), (1, .ref ax), (2, .ref (am 0)), (3, .ref ao), (4, .int (nI i))] 3840 []) : G X k n [wX ax (bo 0) (tr 0) (ac 0) (ah 0) (at_ 0), wB E bo β, wB E tr τ, wC E ac γ, wH E ah bd η, wT E at_ θ, wB E (bd 2) (σ 2), wB E (bd 3) (σ 3), wB E (bd 4) (σ 4), wB E (bd 5) (σ 5), wB E (bd 6) (σ 6), wB E (bd 7) (σ 7), wB E (bd 8) (σ 8), wB E (bd 9) (σ 9), wM E am μ, wO E ao o] [(0, .ref b0), (1, .ref ax), (2, .ref (am 0)), (3, .ref ao), (4, .int (nI i))] 1368 [] := by
  obtain ⟨hvb, hvh, hvt, hvm, ha⟩ := hRv β η θ σ μ hR
  obtain ⟨a, ha9⟩ : ∃ a, xs (i + 1) = a := ⟨_, rfl⟩
  obtain ⟨hag, hR2⟩ := hs β τ γ η σ θ μ a hR
  rcases hag with ⟨hr, ht⟩ | ⟨hr, ht⟩ | ⟨hr, ht⟩
  · skip
    refine g_aload_n C dL_law_1368 rfl 1 rfl ?_
    refine g_aload_n C dL_law_1369 rfl 0 rfl ?_
    refine g_iload C dL_law_1370 4 rfl ?_
    refine g_iconst C (v := 1) dL_law_1372 (by decide) ?_
    refine g_iadd C dL_law_1373 ?_
    refine g_sldv C S (i + 1) (nx_add (rfl : nI i = nI i) (rfl : (1 : Int32) = nI 1)) (by omega) ha9 dL_law_1374 ?_
    refine g_aload_n C dL_law_1375 rfl 3 rfl ?_
    refine g_callSW C hZ hNc (cs1 := [wX ax (bo 0) (tr 0) (ac 0) (ah 0) (at_ 0), wB E bo ((fX6_drop β η σ a).2.1), wB E tr τ, wC E ac γ, wH E ah bd ((fX6_drop β η σ a).2.2.1), wT E at_ θ, wB E (bd 2) ((fX6_drop β η σ a).2.2.2 2), wB E (bd 3) ((fX6_drop β η σ a).2.2.2 3), wB E (bd 4) ((fX6_drop β η σ a).2.2.2 4), wB E (bd 5) ((fX6_drop β η σ a).2.2.2 5), wB E (bd 6) ((fX6_drop β η σ a).2.2.2 6), wB E (bd 7) ((fX6_drop β η σ a).2.2.2 7), wB E (bd 8) ((fX6_drop β η σ a).2.2.2 8), wB E (bd 9) ((fX6_drop β η σ a).2.2.2 9), wM E am μ, wO E ao (vp_updL o 0 v.toInt64)]) (st1 := [.int 0]) [.ref ax, .int a, .ref ao] [0, 1, 2, 3, 4, 5, 6, 7, 8, 9, 10, 11, 12, 13, 15] (kL_drop_r l E ax bo β tr τ ac γ ah bd η σ at_ θ ao o hlt hvb hvh a ((fX7_drop μ a).1) hr) q4_191 q1_0 (by decide +kernel) q4_190 q4_189 rfl ⟨Nat.le_of_ble_eq_true rfl, Nat.le_of_ble_eq_true rfl⟩ ⟨hk, hn⟩ (by decide) rfl rfl rfl rfl (Nat.le_of_ble_eq_true rfl) dL_law_1376 rfl ?_
    refine g_istore C (lv1 := [(5, .int 0), (0, .ref b0), (1, .ref ax), (2, .ref (am 0)), (3, .ref ao), (4, .int (nI i))]) dL_law_1379 (by decide) rfl ?_
    refine g_aload_n C dL_law_1381 rfl 3 rfl ?_
    refine g_aload_n C dL_law_1382 rfl 1 rfl ?_
    refine g_iload C dL_law_1383 5 rfl ?_
    refine g_iconst C (v := 1) dL_law_1385 (by decide) ?_
    refine g_iadd C dL_law_1386 ?_
    refine g_sldv C S (i + 1) (nx_add (rfl : nI i = nI i) (rfl : (1 : Int32) = nI 1)) (by omega) ha9 dL_law_1387 ?_
    refine g_callV C (cs1 := [wX ax (bo 0) (tr 0) (ac 0) (ah 0) (at_ 0), wB E bo ((fX6_drop β η σ a).2.1), wB E tr τ, wC E ac γ, wH E ah bd ((fX6_drop β η σ a).2.2.1), wT E at_ θ, wB E (bd 2) ((fX6_drop β η σ a).2.2.2 2), wB E (bd 3) ((fX6_drop β η σ a).2.2.2 3), wB E (bd 4) ((fX6_drop β η σ a).2.2.2 4), wB E (bd 5) ((fX6_drop β η σ a).2.2.2 5), wB E (bd 6) ((fX6_drop β η σ a).2.2.2 6), wB E (bd 7) ((fX6_drop β η σ a).2.2.2 7), wB E (bd 8) ((fX6_drop β η σ a).2.2.2 8), wB E (bd 9) ((fX6_drop β η σ a).2.2.2 9), wM E am ((fX7_drop μ a).2), wO E ao (vp_updL o 0 v.toInt64)]) (st1 := [.int ((fX7_drop μ a).1)]) [.int a] [14] (kX7_drop l E am μ hvm a) caX7_drop q7_57 rfl ⟨Nat.le_of_ble_eq_true rfl, Nat.le_of_ble_eq_true rfl⟩ ⟨hk, hn⟩ 14 0 rfl rfl rfl rfl (by decide) rfl rfl rfl rfl (Nat.le_of_ble_eq_true rfl) dL_law_1388 rfl ?_
    refine g_istore C (lv1 := [(6, .int ((fX7_drop μ a).1)), (5, .int 0), (0, .ref b0), (1, .ref ax), (2, .ref (am 0)), (3, .ref ao), (4, .int (nI i))]) dL_law_1391 (by decide) rfl ?_
    refine g_aload_n C dL_law_1393 rfl 4 rfl ?_
    refine g_callV C (cs1 := [wX ax (bo 0) (tr 0) (ac 0) (ah 0) (at_ 0), wB E bo ((fX6_drop β η σ a).2.1), wB E tr τ, wC E ac γ, wH E ah bd ((fX6_drop β η σ a).2.2.1), wT E at_ θ, wB E (bd 2) ((fX6_drop β η σ a).2.2.2 2), wB E (bd 3) ((fX6_drop β η σ a).2.2.2 3), wB E (bd 4) ((fX6_drop β η σ a).2.2.2 4), wB E (bd 5) ((fX6_drop β η σ a).2.2.2 5), wB E (bd 6) ((fX6_drop β η σ a).2.2.2 6), wB E (bd 7) ((fX6_drop β η σ a).2.2.2 7), wB E (bd 8) ((fX6_drop β η σ a).2.2.2 8), wB E (bd 9) ((fX6_drop β η σ a).2.2.2 9), wM E am ((fX7_drop μ a).2), wO E ao (vp_updL o 0 v.toInt64)]) (st1 := [.int (fX7_thrown ((fX7_drop μ a).2))]) [] [14] (kX7_thrown l E am ((fX7_drop μ a).2)) caX7_thrown q6_117 rfl ⟨Nat.le_of_ble_eq_true rfl, Nat.le_of_ble_eq_true rfl⟩ ⟨hk, hn⟩ 14 0 rfl rfl rfl rfl (by decide) rfl rfl rfl rfl (Nat.le_of_ble_eq_true rfl) dL_law_1394 rfl ?_
    refine g_iload C dL_law_1397 1 rfl ?_
    refine g_icmp_eq C 1404 dL_law_1399 (by decide) (fun _ => ?_) (fun c => absurd ht c)
    refine g_iload C dL_law_1404 1 rfl ?_
    refine g_if_ne C 1421 dL_law_1406 (by decide) (fun c => absurd rfl c) (fun _ => ?_)
    refine g_aload_n C dL_law_1409 rfl 5 rfl ?_
    refine g_iconst C (v := 0) dL_law_1410 (by decide) ?_
    refine g_laldn C 15 0 0 rfl rfl rfl (by decide) (by decide) dL_law_1411 ?_
    refine g_iload C dL_law_1412 0 rfl ?_
    refine g_i2l C dL_law_1414 ?_
    refine g_lcmp C dL_law_1415 ?_
    refine g_if_eq C 1421 dL_law_1416 (by decide) (fun _ => ?_) (fun c => absurd law_cmp c)
    refine g_goto C 3840 dL_law_1421 (by decide) ?_
    exact g_sub [2, 3, 4, 5, 6] rfl (next ((fX6_drop β η σ a).2.1) τ γ ((fX6_drop β η σ a).2.2.1) ((fX6_drop β η σ a).2.2.2) θ ((fX7_drop μ a).2) (vp_updL o 0 v.toInt64) hR2)
  · skip
    refine g_aload_n C dL_law_1368 rfl 1 rfl ?_
    refine g_aload_n C dL_law_1369 rfl 0 rfl ?_
    refine g_iload C dL_law_1370 4 rfl ?_
    refine g_iconst C (v := 1) dL_law_1372 (by decide) ?_
    refine g_iadd C dL_law_1373 ?_
    refine g_sldv C S (i + 1) (nx_add (rfl : nI i = nI i) (rfl : (1 : Int32) = nI 1)) (by omega) ha9 dL_law_1374 ?_
    refine g_aload_n C dL_law_1375 rfl 3 rfl ?_
    refine g_callSW C hZ hNc (cs1 := [wX ax (bo 0) (tr 0) (ac 0) (ah 0) (at_ 0), wB E bo ((fX6_drop β η σ a).2.1), wB E tr τ, wC E ac γ, wH E ah bd ((fX6_drop β η σ a).2.2.1), wT E at_ θ, wB E (bd 2) ((fX6_drop β η σ a).2.2.2 2), wB E (bd 3) ((fX6_drop β η σ a).2.2.2 3), wB E (bd 4) ((fX6_drop β η σ a).2.2.2 4), wB E (bd 5) ((fX6_drop β η σ a).2.2.2 5), wB E (bd 6) ((fX6_drop β η σ a).2.2.2 6), wB E (bd 7) ((fX6_drop β η σ a).2.2.2 7), wB E (bd 8) ((fX6_drop β η σ a).2.2.2 8), wB E (bd 9) ((fX6_drop β η σ a).2.2.2 9), wM E am μ, wO E ao o]) (st1 := [.int 1]) [.ref ax, .int a, .ref ao] [0, 1, 2, 3, 4, 5, 6, 7, 8, 9, 10, 11, 12, 13, 15] (kL_drop_0 l E ax bo β tr τ ac γ ah bd η σ at_ θ ao o hlt hvb hvh a hr) q4_191 q1_0 (by decide +kernel) q4_190 q4_189 rfl ⟨Nat.le_of_ble_eq_true rfl, Nat.le_of_ble_eq_true rfl⟩ ⟨hk, hn⟩ (by decide) rfl rfl rfl rfl (Nat.le_of_ble_eq_true rfl) dL_law_1376 rfl ?_
    refine g_istore C (lv1 := [(5, .int 1), (0, .ref b0), (1, .ref ax), (2, .ref (am 0)), (3, .ref ao), (4, .int (nI i))]) dL_law_1379 (by decide) rfl ?_
    refine g_aload_n C dL_law_1381 rfl 3 rfl ?_
    refine g_aload_n C dL_law_1382 rfl 1 rfl ?_
    refine g_iload C dL_law_1383 5 rfl ?_
    refine g_iconst C (v := 1) dL_law_1385 (by decide) ?_
    refine g_iadd C dL_law_1386 ?_
    refine g_sldv C S (i + 1) (nx_add (rfl : nI i = nI i) (rfl : (1 : Int32) = nI 1)) (by omega) ha9 dL_law_1387 ?_
    refine g_callV C (cs1 := [wX ax (bo 0) (tr 0) (ac 0) (ah 0) (at_ 0), wB E bo ((fX6_drop β η σ a).2.1), wB E tr τ, wC E ac γ, wH E ah bd ((fX6_drop β η σ a).2.2.1), wT E at_ θ, wB E (bd 2) ((fX6_drop β η σ a).2.2.2 2), wB E (bd 3) ((fX6_drop β η σ a).2.2.2 3), wB E (bd 4) ((fX6_drop β η σ a).2.2.2 4), wB E (bd 5) ((fX6_drop β η σ a).2.2.2 5), wB E (bd 6) ((fX6_drop β η σ a).2.2.2 6), wB E (bd 7) ((fX6_drop β η σ a).2.2.2 7), wB E (bd 8) ((fX6_drop β η σ a).2.2.2 8), wB E (bd 9) ((fX6_drop β η σ a).2.2.2 9), wM E am ((fX7_drop μ a).2), wO E ao o]) (st1 := [.int ((fX7_drop μ a).1)]) [.int a] [14] (kX7_drop l E am μ hvm a) caX7_drop q7_57 rfl ⟨Nat.le_of_ble_eq_true rfl, Nat.le_of_ble_eq_true rfl⟩ ⟨hk, hn⟩ 14 0 rfl rfl rfl rfl (by decide) rfl rfl rfl rfl (Nat.le_of_ble_eq_true rfl) dL_law_1388 rfl ?_
    refine g_istore C (lv1 := [(6, .int ((fX7_drop μ a).1)), (5, .int 1), (0, .ref b0), (1, .ref ax), (2, .ref (am 0)), (3, .ref ao), (4, .int (nI i))]) dL_law_1391 (by decide) rfl ?_
    refine g_aload_n C dL_law_1393 rfl 4 rfl ?_
    refine g_callV C (cs1 := [wX ax (bo 0) (tr 0) (ac 0) (ah 0) (at_ 0), wB E bo ((fX6_drop β η σ a).2.1), wB E tr τ, wC E ac γ, wH E ah bd ((fX6_drop β η σ a).2.2.1), wT E at_ θ, wB E (bd 2) ((fX6_drop β η σ a).2.2.2 2), wB E (bd 3) ((fX6_drop β η σ a).2.2.2 3), wB E (bd 4) ((fX6_drop β η σ a).2.2.2 4), wB E (bd 5) ((fX6_drop β η σ a).2.2.2 5), wB E (bd 6) ((fX6_drop β η σ a).2.2.2 6), wB E (bd 7) ((fX6_drop β η σ a).2.2.2 7), wB E (bd 8) ((fX6_drop β η σ a).2.2.2 8), wB E (bd 9) ((fX6_drop β η σ a).2.2.2 9), wM E am ((fX7_drop μ a).2), wO E ao o]) (st1 := [.int (fX7_thrown ((fX7_drop μ a).2))]) [] [14] (kX7_thrown l E am ((fX7_drop μ a).2)) caX7_thrown q6_117 rfl ⟨Nat.le_of_ble_eq_true rfl, Nat.le_of_ble_eq_true rfl⟩ ⟨hk, hn⟩ 14 0 rfl rfl rfl rfl (by decide) rfl rfl rfl rfl (Nat.le_of_ble_eq_true rfl) dL_law_1394 rfl ?_
    refine g_iload C dL_law_1397 1 rfl ?_
    refine g_icmp_eq C 1404 dL_law_1399 (by decide) (fun _ => ?_) (fun c => absurd ht c)
    refine g_iload C dL_law_1404 1 rfl ?_
    refine g_if_ne C 1421 dL_law_1406 (by decide) (fun _ => ?_) (fun c => absurd c (by decide))
    refine g_goto C 3840 dL_law_1421 (by decide) ?_
    exact g_sub [2, 3, 4, 5, 6] rfl (next ((fX6_drop β η σ a).2.1) τ γ ((fX6_drop β η σ a).2.2.1) ((fX6_drop β η σ a).2.2.2) θ ((fX7_drop μ a).2) o hR2)
  · skip
    refine g_aload_n C dL_law_1368 rfl 1 rfl ?_
    refine g_aload_n C dL_law_1369 rfl 0 rfl ?_
    refine g_iload C dL_law_1370 4 rfl ?_
    refine g_iconst C (v := 1) dL_law_1372 (by decide) ?_
    refine g_iadd C dL_law_1373 ?_
    refine g_sldv C S (i + 1) (nx_add (rfl : nI i = nI i) (rfl : (1 : Int32) = nI 1)) (by omega) ha9 dL_law_1374 ?_
    refine g_aload_n C dL_law_1375 rfl 3 rfl ?_
    refine g_callSW C hZ hNc (cs1 := [wX ax (bo 0) (tr 0) (ac 0) (ah 0) (at_ 0), wB E bo ((fX6_drop β η σ a).2.1), wB E tr τ, wC E ac γ, wH E ah bd ((fX6_drop β η σ a).2.2.1), wT E at_ θ, wB E (bd 2) ((fX6_drop β η σ a).2.2.2 2), wB E (bd 3) ((fX6_drop β η σ a).2.2.2 3), wB E (bd 4) ((fX6_drop β η σ a).2.2.2 4), wB E (bd 5) ((fX6_drop β η σ a).2.2.2 5), wB E (bd 6) ((fX6_drop β η σ a).2.2.2 6), wB E (bd 7) ((fX6_drop β η σ a).2.2.2 7), wB E (bd 8) ((fX6_drop β η σ a).2.2.2 8), wB E (bd 9) ((fX6_drop β η σ a).2.2.2 9), wM E am μ, wO E ao o]) (st1 := [.int 2]) [.ref ax, .int a, .ref ao] [0, 1, 2, 3, 4, 5, 6, 7, 8, 9, 10, 11, 12, 13, 15] (kL_drop_1 l E ax bo β tr τ ac γ ah bd η σ at_ θ ao o hlt hvb hvh a hr) q4_191 q1_0 (by decide +kernel) q4_190 q4_189 rfl ⟨Nat.le_of_ble_eq_true rfl, Nat.le_of_ble_eq_true rfl⟩ ⟨hk, hn⟩ (by decide) rfl rfl rfl rfl (Nat.le_of_ble_eq_true rfl) dL_law_1376 rfl ?_
    refine g_istore C (lv1 := [(5, .int 2), (0, .ref b0), (1, .ref ax), (2, .ref (am 0)), (3, .ref ao), (4, .int (nI i))]) dL_law_1379 (by decide) rfl ?_
    refine g_aload_n C dL_law_1381 rfl 3 rfl ?_
    refine g_aload_n C dL_law_1382 rfl 1 rfl ?_
    refine g_iload C dL_law_1383 5 rfl ?_
    refine g_iconst C (v := 1) dL_law_1385 (by decide) ?_
    refine g_iadd C dL_law_1386 ?_
    refine g_sldv C S (i + 1) (nx_add (rfl : nI i = nI i) (rfl : (1 : Int32) = nI 1)) (by omega) ha9 dL_law_1387 ?_
    refine g_callV C (cs1 := [wX ax (bo 0) (tr 0) (ac 0) (ah 0) (at_ 0), wB E bo ((fX6_drop β η σ a).2.1), wB E tr τ, wC E ac γ, wH E ah bd ((fX6_drop β η σ a).2.2.1), wT E at_ θ, wB E (bd 2) ((fX6_drop β η σ a).2.2.2 2), wB E (bd 3) ((fX6_drop β η σ a).2.2.2 3), wB E (bd 4) ((fX6_drop β η σ a).2.2.2 4), wB E (bd 5) ((fX6_drop β η σ a).2.2.2 5), wB E (bd 6) ((fX6_drop β η σ a).2.2.2 6), wB E (bd 7) ((fX6_drop β η σ a).2.2.2 7), wB E (bd 8) ((fX6_drop β η σ a).2.2.2 8), wB E (bd 9) ((fX6_drop β η σ a).2.2.2 9), wM E am ((fX7_drop μ a).2), wO E ao o]) (st1 := [.int ((fX7_drop μ a).1)]) [.int a] [14] (kX7_drop l E am μ hvm a) caX7_drop q7_57 rfl ⟨Nat.le_of_ble_eq_true rfl, Nat.le_of_ble_eq_true rfl⟩ ⟨hk, hn⟩ 14 0 rfl rfl rfl rfl (by decide) rfl rfl rfl rfl (Nat.le_of_ble_eq_true rfl) dL_law_1388 rfl ?_
    refine g_istore C (lv1 := [(6, .int ((fX7_drop μ a).1)), (5, .int 2), (0, .ref b0), (1, .ref ax), (2, .ref (am 0)), (3, .ref ao), (4, .int (nI i))]) dL_law_1391 (by decide) rfl ?_
    refine g_aload_n C dL_law_1393 rfl 4 rfl ?_
    refine g_callV C (cs1 := [wX ax (bo 0) (tr 0) (ac 0) (ah 0) (at_ 0), wB E bo ((fX6_drop β η σ a).2.1), wB E tr τ, wC E ac γ, wH E ah bd ((fX6_drop β η σ a).2.2.1), wT E at_ θ, wB E (bd 2) ((fX6_drop β η σ a).2.2.2 2), wB E (bd 3) ((fX6_drop β η σ a).2.2.2 3), wB E (bd 4) ((fX6_drop β η σ a).2.2.2 4), wB E (bd 5) ((fX6_drop β η σ a).2.2.2 5), wB E (bd 6) ((fX6_drop β η σ a).2.2.2 6), wB E (bd 7) ((fX6_drop β η σ a).2.2.2 7), wB E (bd 8) ((fX6_drop β η σ a).2.2.2 8), wB E (bd 9) ((fX6_drop β η σ a).2.2.2 9), wM E am ((fX7_drop μ a).2), wO E ao o]) (st1 := [.int (fX7_thrown ((fX7_drop μ a).2))]) [] [14] (kX7_thrown l E am ((fX7_drop μ a).2)) caX7_thrown q6_117 rfl ⟨Nat.le_of_ble_eq_true rfl, Nat.le_of_ble_eq_true rfl⟩ ⟨hk, hn⟩ 14 0 rfl rfl rfl rfl (by decide) rfl rfl rfl rfl (Nat.le_of_ble_eq_true rfl) dL_law_1394 rfl ?_
    refine g_iload C dL_law_1397 1 rfl ?_
    refine g_icmp_eq C 1404 dL_law_1399 (by decide) (fun _ => ?_) (fun c => absurd ht c)
    refine g_iload C dL_law_1404 1 rfl ?_
    refine g_if_ne C 1421 dL_law_1406 (by decide) (fun _ => ?_) (fun c => absurd c (by decide))
    refine g_goto C 3840 dL_law_1421 (by decide) ?_
    exact g_sub [2, 3, 4, 5, 6] rfl (next ((fX6_drop β η σ a).2.1) τ γ ((fX6_drop β η σ a).2.2.1) ((fX6_drop β η σ a).2.2.2) θ ((fX7_drop μ a).2) o hR2)
set_option maxHeartbeats 4000000 in
set_option maxRecDepth 100000 in
theorem arm_18 {Rl : RlT} (hRv : RlV Rl) (hs : sH_append Rl)  {X : gX} {l : Launch} {E : gE} (C : gC X cL_law 9 RL (some .boolean) l E room_1) (hZ : gZ X.2.2.2.2.2.2.2.2.2.2.2.1 X.2.2.2.2.1 X.2.2.2.2.1.heap) (hNc : gNc X.2.2.2.2.1) {b0 L0 : Nat} {xs : Nat → Int32} (S : gS X b0 L0 xs) (hlt : l.stackTraces = false) {ax : Nat} {bo tr ac ah : Nat → Nat} {bd : Nat → Nat → Nat} {at_ am : Nat → Nat} {ao k n i : Nat} (hk : k + 3 ≤ 601024) (hn : n + 18 ≤ 7293034) (hi : i + 3 ≤ L0) {β τ γ η : BS} {σ : Nat → BS} {θ μ : BS} {o : Nat → Int64} (hR : Rl β η θ σ μ) (next : ∀ (β τ γ η : BS) (σ : Nat → BS) (θ μ : BS) (o : Nat → Int64), Rl β η θ σ μ → G X (k + 3) (n + 18) [wX ax (bo 0) (tr 0) (ac 0) (ah 0) (at_ 0), wB E bo β, wB E tr τ, wC E ac γ, wH E ah bd η, wT E at_ θ, wB E (bd 2) (σ 2), wB E (bd 3) (σ 3), wB E (bd 4) (σ 4), wB E (bd 5) (σ 5), wB E (bd 6) (σ 6), wB E (bd 7) (σ 7), wB E (bd 8) (σ 8), wB E (bd 9) (σ 9), wM E am μ, wO E ao o] [(0, .ref b0), (1, .ref ax), (2, .ref (am 0)), (3, .ref ao), (4, .int (nI i))] 3840 []) : G X k n [wX ax (bo 0) (tr 0) (ac 0) (ah 0) (at_ 0), wB E bo β, wB E tr τ, wC E ac γ, wH E ah bd η, wT E at_ θ, wB E (bd 2) (σ 2), wB E (bd 3) (σ 3), wB E (bd 4) (σ 4), wB E (bd 5) (σ 5), wB E (bd 6) (σ 6), wB E (bd 7) (σ 7), wB E (bd 8) (σ 8), wB E (bd 9) (σ 9), wM E am μ, wO E ao o] [(0, .ref b0), (1, .ref ax), (2, .ref (am 0)), (3, .ref ao), (4, .int (nI i))] 1424 [] := by
  obtain ⟨hvb, hvh, hvt, hvm, ha⟩ := hRv β η θ σ μ hR
  obtain ⟨a, ha9⟩ : ∃ a, xs (i + 1) = a := ⟨_, rfl⟩
  obtain ⟨hag, hR2⟩ := hs β τ γ η σ θ μ a hR
  rcases hag with ⟨hr, ht⟩ | ⟨hr, ht⟩ | ⟨hr, ht⟩
  · skip
    refine g_aload_n C dL_law_1424 rfl 1 rfl ?_
    refine g_aload_n C dL_law_1425 rfl 0 rfl ?_
    refine g_iload C dL_law_1426 4 rfl ?_
    refine g_iconst C (v := 1) dL_law_1428 (by decide) ?_
    refine g_iadd C dL_law_1429 ?_
    refine g_sldv C S (i + 1) (nx_add (rfl : nI i = nI i) (rfl : (1 : Int32) = nI 1)) (by omega) ha9 dL_law_1430 ?_
    refine g_aload_n C dL_law_1431 rfl 3 rfl ?_
    refine g_callSW C hZ hNc (cs1 := [wX ax (bo 0) (tr 0) (ac 0) (ah 0) (at_ 0), wB E bo β, wB E tr τ, wC E ac γ, wH E ah bd η, wT E at_ ((fX6_append θ a).2), wB E (bd 2) (σ 2), wB E (bd 3) (σ 3), wB E (bd 4) (σ 4), wB E (bd 5) (σ 5), wB E (bd 6) (σ 6), wB E (bd 7) (σ 7), wB E (bd 8) (σ 8), wB E (bd 9) (σ 9), wM E am μ, wO E ao (vp_updL o 0 v.toInt64)]) (st1 := [.int 0]) [.ref ax, .int a, .ref ao] [0, 1, 2, 3, 4, 5, 6, 7, 8, 9, 10, 11, 12, 13, 15] (kL_append_r l E ax bo β tr τ ac γ ah bd η σ at_ θ ao o hlt hvt a ((fX7_append μ a).1) hr) q4_199 q1_0 (by decide +kernel) q4_198 q4_197 rfl ⟨Nat.le_of_ble_eq_true rfl, Nat.le_of_ble_eq_true rfl⟩ ⟨hk, hn⟩ (by decide) rfl rfl rfl rfl (Nat.le_of_ble_eq_true rfl) dL_law_1432 rfl ?_
    refine g_istore C (lv1 := [(5, .int 0), (0, .ref b0), (1, .ref ax), (2, .ref (am 0)), (3, .ref ao), (4, .int (nI i))]) dL_law_1435 (by decide) rfl ?_
    refine g_aload_n C dL_law_1437 rfl 3 rfl ?_
    refine g_aload_n C dL_law_1438 rfl 1 rfl ?_
    refine g_iload C dL_law_1439 5 rfl ?_
    refine g_iconst C (v := 1) dL_law_1441 (by decide) ?_
    refine g_iadd C dL_law_1442 ?_
    refine g_sldv C S (i + 1) (nx_add (rfl : nI i = nI i) (rfl : (1 : Int32) = nI 1)) (by omega) ha9 dL_law_1443 ?_
    refine g_callV C (cs1 := [wX ax (bo 0) (tr 0) (ac 0) (ah 0) (at_ 0), wB E bo β, wB E tr τ, wC E ac γ, wH E ah bd η, wT E at_ ((fX6_append θ a).2), wB E (bd 2) (σ 2), wB E (bd 3) (σ 3), wB E (bd 4) (σ 4), wB E (bd 5) (σ 5), wB E (bd 6) (σ 6), wB E (bd 7) (σ 7), wB E (bd 8) (σ 8), wB E (bd 9) (σ 9), wM E am ((fX7_append μ a).2), wO E ao (vp_updL o 0 v.toInt64)]) (st1 := [.int ((fX7_append μ a).1)]) [.int a] [14] (kX7_append l E am μ hvm a) caX7_append q7_61 rfl ⟨Nat.le_of_ble_eq_true rfl, Nat.le_of_ble_eq_true rfl⟩ ⟨hk, hn⟩ 14 0 rfl rfl rfl rfl (by decide) rfl rfl rfl rfl (Nat.le_of_ble_eq_true rfl) dL_law_1444 rfl ?_
    refine g_istore C (lv1 := [(6, .int ((fX7_append μ a).1)), (5, .int 0), (0, .ref b0), (1, .ref ax), (2, .ref (am 0)), (3, .ref ao), (4, .int (nI i))]) dL_law_1447 (by decide) rfl ?_
    refine g_aload_n C dL_law_1449 rfl 4 rfl ?_
    refine g_callV C (cs1 := [wX ax (bo 0) (tr 0) (ac 0) (ah 0) (at_ 0), wB E bo β, wB E tr τ, wC E ac γ, wH E ah bd η, wT E at_ ((fX6_append θ a).2), wB E (bd 2) (σ 2), wB E (bd 3) (σ 3), wB E (bd 4) (σ 4), wB E (bd 5) (σ 5), wB E (bd 6) (σ 6), wB E (bd 7) (σ 7), wB E (bd 8) (σ 8), wB E (bd 9) (σ 9), wM E am ((fX7_append μ a).2), wO E ao (vp_updL o 0 v.toInt64)]) (st1 := [.int (fX7_thrown ((fX7_append μ a).2))]) [] [14] (kX7_thrown l E am ((fX7_append μ a).2)) caX7_thrown q6_117 rfl ⟨Nat.le_of_ble_eq_true rfl, Nat.le_of_ble_eq_true rfl⟩ ⟨hk, hn⟩ 14 0 rfl rfl rfl rfl (by decide) rfl rfl rfl rfl (Nat.le_of_ble_eq_true rfl) dL_law_1450 rfl ?_
    refine g_iload C dL_law_1453 1 rfl ?_
    refine g_icmp_eq C 1460 dL_law_1455 (by decide) (fun _ => ?_) (fun c => absurd ht c)
    refine g_iload C dL_law_1460 1 rfl ?_
    refine g_if_ne C 1477 dL_law_1462 (by decide) (fun c => absurd rfl c) (fun _ => ?_)
    refine g_aload_n C dL_law_1465 rfl 5 rfl ?_
    refine g_iconst C (v := 0) dL_law_1466 (by decide) ?_
    refine g_laldn C 15 0 0 rfl rfl rfl (by decide) (by decide) dL_law_1467 ?_
    refine g_iload C dL_law_1468 0 rfl ?_
    refine g_i2l C dL_law_1470 ?_
    refine g_lcmp C dL_law_1471 ?_
    refine g_if_eq C 1477 dL_law_1472 (by decide) (fun _ => ?_) (fun c => absurd law_cmp c)
    refine g_goto C 3840 dL_law_1477 (by decide) ?_
    exact g_sub [2, 3, 4, 5, 6] rfl (next β τ γ η σ ((fX6_append θ a).2) ((fX7_append μ a).2) (vp_updL o 0 v.toInt64) hR2)
  · skip
    refine g_aload_n C dL_law_1424 rfl 1 rfl ?_
    refine g_aload_n C dL_law_1425 rfl 0 rfl ?_
    refine g_iload C dL_law_1426 4 rfl ?_
    refine g_iconst C (v := 1) dL_law_1428 (by decide) ?_
    refine g_iadd C dL_law_1429 ?_
    refine g_sldv C S (i + 1) (nx_add (rfl : nI i = nI i) (rfl : (1 : Int32) = nI 1)) (by omega) ha9 dL_law_1430 ?_
    refine g_aload_n C dL_law_1431 rfl 3 rfl ?_
    refine g_callSW C hZ hNc (cs1 := [wX ax (bo 0) (tr 0) (ac 0) (ah 0) (at_ 0), wB E bo β, wB E tr τ, wC E ac γ, wH E ah bd η, wT E at_ ((fX6_append θ a).2), wB E (bd 2) (σ 2), wB E (bd 3) (σ 3), wB E (bd 4) (σ 4), wB E (bd 5) (σ 5), wB E (bd 6) (σ 6), wB E (bd 7) (σ 7), wB E (bd 8) (σ 8), wB E (bd 9) (σ 9), wM E am μ, wO E ao o]) (st1 := [.int 1]) [.ref ax, .int a, .ref ao] [0, 1, 2, 3, 4, 5, 6, 7, 8, 9, 10, 11, 12, 13, 15] (kL_append_0 l E ax bo β tr τ ac γ ah bd η σ at_ θ ao o hlt hvt a hr) q4_199 q1_0 (by decide +kernel) q4_198 q4_197 rfl ⟨Nat.le_of_ble_eq_true rfl, Nat.le_of_ble_eq_true rfl⟩ ⟨hk, hn⟩ (by decide) rfl rfl rfl rfl (Nat.le_of_ble_eq_true rfl) dL_law_1432 rfl ?_
    refine g_istore C (lv1 := [(5, .int 1), (0, .ref b0), (1, .ref ax), (2, .ref (am 0)), (3, .ref ao), (4, .int (nI i))]) dL_law_1435 (by decide) rfl ?_
    refine g_aload_n C dL_law_1437 rfl 3 rfl ?_
    refine g_aload_n C dL_law_1438 rfl 1 rfl ?_
    refine g_iload C dL_law_1439 5 rfl ?_
    refine g_iconst C (v := 1) dL_law_1441 (by decide) ?_
    refine g_iadd C dL_law_1442 ?_
    refine g_sldv C S (i + 1) (nx_add (rfl : nI i = nI i) (rfl : (1 : Int32) = nI 1)) (by omega) ha9 dL_law_1443 ?_
    refine g_callV C (cs1 := [wX ax (bo 0) (tr 0) (ac 0) (ah 0) (at_ 0), wB E bo β, wB E tr τ, wC E ac γ, wH E ah bd η, wT E at_ ((fX6_append θ a).2), wB E (bd 2) (σ 2), wB E (bd 3) (σ 3), wB E (bd 4) (σ 4), wB E (bd 5) (σ 5), wB E (bd 6) (σ 6), wB E (bd 7) (σ 7), wB E (bd 8) (σ 8), wB E (bd 9) (σ 9), wM E am ((fX7_append μ a).2), wO E ao o]) (st1 := [.int ((fX7_append μ a).1)]) [.int a] [14] (kX7_append l E am μ hvm a) caX7_append q7_61 rfl ⟨Nat.le_of_ble_eq_true rfl, Nat.le_of_ble_eq_true rfl⟩ ⟨hk, hn⟩ 14 0 rfl rfl rfl rfl (by decide) rfl rfl rfl rfl (Nat.le_of_ble_eq_true rfl) dL_law_1444 rfl ?_
    refine g_istore C (lv1 := [(6, .int ((fX7_append μ a).1)), (5, .int 1), (0, .ref b0), (1, .ref ax), (2, .ref (am 0)), (3, .ref ao), (4, .int (nI i))]) dL_law_1447 (by decide) rfl ?_
    refine g_aload_n C dL_law_1449 rfl 4 rfl ?_
    refine g_callV C (cs1 := [wX ax (bo 0) (tr 0) (ac 0) (ah 0) (at_ 0), wB E bo β, wB E tr τ, wC E ac γ, wH E ah bd η, wT E at_ ((fX6_append θ a).2), wB E (bd 2) (σ 2), wB E (bd 3) (σ 3), wB E (bd 4) (σ 4), wB E (bd 5) (σ 5), wB E (bd 6) (σ 6), wB E (bd 7) (σ 7), wB E (bd 8) (σ 8), wB E (bd 9) (σ 9), wM E am ((fX7_append μ a).2), wO E ao o]) (st1 := [.int (fX7_thrown ((fX7_append μ a).2))]) [] [14] (kX7_thrown l E am ((fX7_append μ a).2)) caX7_thrown q6_117 rfl ⟨Nat.le_of_ble_eq_true rfl, Nat.le_of_ble_eq_true rfl⟩ ⟨hk, hn⟩ 14 0 rfl rfl rfl rfl (by decide) rfl rfl rfl rfl (Nat.le_of_ble_eq_true rfl) dL_law_1450 rfl ?_
    refine g_iload C dL_law_1453 1 rfl ?_
    refine g_icmp_eq C 1460 dL_law_1455 (by decide) (fun _ => ?_) (fun c => absurd ht c)
    refine g_iload C dL_law_1460 1 rfl ?_
    refine g_if_ne C 1477 dL_law_1462 (by decide) (fun _ => ?_) (fun c => absurd c (by decide))
    refine g_goto C 3840 dL_law_1477 (by decide) ?_
    exact g_sub [2, 3, 4, 5, 6] rfl (next β τ γ η σ ((fX6_append θ a).2) ((fX7_append μ a).2) o hR2)
  · skip
    refine g_aload_n C dL_law_1424 rfl 1 rfl ?_
    refine g_aload_n C dL_law_1425 rfl 0 rfl ?_
    refine g_iload C dL_law_1426 4 rfl ?_
    refine g_iconst C (v := 1) dL_law_1428 (by decide) ?_
    refine g_iadd C dL_law_1429 ?_
    refine g_sldv C S (i + 1) (nx_add (rfl : nI i = nI i) (rfl : (1 : Int32) = nI 1)) (by omega) ha9 dL_law_1430 ?_
    refine g_aload_n C dL_law_1431 rfl 3 rfl ?_
    refine g_callSW C hZ hNc (cs1 := [wX ax (bo 0) (tr 0) (ac 0) (ah 0) (at_ 0), wB E bo β, wB E tr τ, wC E ac γ, wH E ah bd η, wT E at_ ((fX6_append θ a).2), wB E (bd 2) (σ 2), wB E (bd 3) (σ 3), wB E (bd 4) (σ 4), wB E (bd 5) (σ 5), wB E (bd 6) (σ 6), wB E (bd 7) (σ 7), wB E (bd 8) (σ 8), wB E (bd 9) (σ 9), wM E am μ, wO E ao o]) (st1 := [.int 2]) [.ref ax, .int a, .ref ao] [0, 1, 2, 3, 4, 5, 6, 7, 8, 9, 10, 11, 12, 13, 15] (kL_append_1 l E ax bo β tr τ ac γ ah bd η σ at_ θ ao o hlt hvt a hr) q4_199 q1_0 (by decide +kernel) q4_198 q4_197 rfl ⟨Nat.le_of_ble_eq_true rfl, Nat.le_of_ble_eq_true rfl⟩ ⟨hk, hn⟩ (by decide) rfl rfl rfl rfl (Nat.le_of_ble_eq_true rfl) dL_law_1432 rfl ?_
    refine g_istore C (lv1 := [(5, .int 2), (0, .ref b0), (1, .ref ax), (2, .ref (am 0)), (3, .ref ao), (4, .int (nI i))]) dL_law_1435 (by decide) rfl ?_
    refine g_aload_n C dL_law_1437 rfl 3 rfl ?_
    refine g_aload_n C dL_law_1438 rfl 1 rfl ?_
    refine g_iload C dL_law_1439 5 rfl ?_
    refine g_iconst C (v := 1) dL_law_1441 (by decide) ?_
    refine g_iadd C dL_law_1442 ?_
    refine g_sldv C S (i + 1) (nx_add (rfl : nI i = nI i) (rfl : (1 : Int32) = nI 1)) (by omega) ha9 dL_law_1443 ?_
    refine g_callV C (cs1 := [wX ax (bo 0) (tr 0) (ac 0) (ah 0) (at_ 0), wB E bo β, wB E tr τ, wC E ac γ, wH E ah bd η, wT E at_ ((fX6_append θ a).2), wB E (bd 2) (σ 2), wB E (bd 3) (σ 3), wB E (bd 4) (σ 4), wB E (bd 5) (σ 5), wB E (bd 6) (σ 6), wB E (bd 7) (σ 7), wB E (bd 8) (σ 8), wB E (bd 9) (σ 9), wM E am ((fX7_append μ a).2), wO E ao o]) (st1 := [.int ((fX7_append μ a).1)]) [.int a] [14] (kX7_append l E am μ hvm a) caX7_append q7_61 rfl ⟨Nat.le_of_ble_eq_true rfl, Nat.le_of_ble_eq_true rfl⟩ ⟨hk, hn⟩ 14 0 rfl rfl rfl rfl (by decide) rfl rfl rfl rfl (Nat.le_of_ble_eq_true rfl) dL_law_1444 rfl ?_
    refine g_istore C (lv1 := [(6, .int ((fX7_append μ a).1)), (5, .int 2), (0, .ref b0), (1, .ref ax), (2, .ref (am 0)), (3, .ref ao), (4, .int (nI i))]) dL_law_1447 (by decide) rfl ?_
    refine g_aload_n C dL_law_1449 rfl 4 rfl ?_
    refine g_callV C (cs1 := [wX ax (bo 0) (tr 0) (ac 0) (ah 0) (at_ 0), wB E bo β, wB E tr τ, wC E ac γ, wH E ah bd η, wT E at_ ((fX6_append θ a).2), wB E (bd 2) (σ 2), wB E (bd 3) (σ 3), wB E (bd 4) (σ 4), wB E (bd 5) (σ 5), wB E (bd 6) (σ 6), wB E (bd 7) (σ 7), wB E (bd 8) (σ 8), wB E (bd 9) (σ 9), wM E am ((fX7_append μ a).2), wO E ao o]) (st1 := [.int (fX7_thrown ((fX7_append μ a).2))]) [] [14] (kX7_thrown l E am ((fX7_append μ a).2)) caX7_thrown q6_117 rfl ⟨Nat.le_of_ble_eq_true rfl, Nat.le_of_ble_eq_true rfl⟩ ⟨hk, hn⟩ 14 0 rfl rfl rfl rfl (by decide) rfl rfl rfl rfl (Nat.le_of_ble_eq_true rfl) dL_law_1450 rfl ?_
    refine g_iload C dL_law_1453 1 rfl ?_
    refine g_icmp_eq C 1460 dL_law_1455 (by decide) (fun _ => ?_) (fun c => absurd ht c)
    refine g_iload C dL_law_1460 1 rfl ?_
    refine g_if_ne C 1477 dL_law_1462 (by decide) (fun _ => ?_) (fun c => absurd c (by decide))
    refine g_goto C 3840 dL_law_1477 (by decide) ?_
    exact g_sub [2, 3, 4, 5, 6] rfl (next β τ γ η σ ((fX6_append θ a).2) ((fX7_append μ a).2) o hR2)
set_option maxHeartbeats 4000000 in
set_option maxRecDepth 100000 in
theorem arm_19 {Rl : RlT} (hRv : RlV Rl) (hs : sH_clearBuffer Rl)  {X : gX} {l : Launch} {E : gE} (C : gC X cL_law 9 RL (some .boolean) l E room_1) (hZ : gZ X.2.2.2.2.2.2.2.2.2.2.2.1 X.2.2.2.2.1 X.2.2.2.2.1.heap) (hNc : gNc X.2.2.2.2.1) {b0 L0 : Nat} {xs : Nat → Int32} (S : gS X b0 L0 xs) (hlt : l.stackTraces = false) {ax : Nat} {bo tr ac ah : Nat → Nat} {bd : Nat → Nat → Nat} {at_ am : Nat → Nat} {ao k n i : Nat} (hk : k + 3 ≤ 601024) (hn : n + 18 ≤ 7293034) (hi : i + 3 ≤ L0) {β τ γ η : BS} {σ : Nat → BS} {θ μ : BS} {o : Nat → Int64} (hR : Rl β η θ σ μ) (next : ∀ (β τ γ η : BS) (σ : Nat → BS) (θ μ : BS) (o : Nat → Int64), Rl β η θ σ μ → G X (k + 3) (n + 18) [wX ax (bo 0) (tr 0) (ac 0) (ah 0) (at_ 0), wB E bo β, wB E tr τ, wC E ac γ, wH E ah bd η, wT E at_ θ, wB E (bd 2) (σ 2), wB E (bd 3) (σ 3), wB E (bd 4) (σ 4), wB E (bd 5) (σ 5), wB E (bd 6) (σ 6), wB E (bd 7) (σ 7), wB E (bd 8) (σ 8), wB E (bd 9) (σ 9), wM E am μ, wO E ao o] [(0, .ref b0), (1, .ref ax), (2, .ref (am 0)), (3, .ref ao), (4, .int (nI i))] 3840 []) : G X k n [wX ax (bo 0) (tr 0) (ac 0) (ah 0) (at_ 0), wB E bo β, wB E tr τ, wC E ac γ, wH E ah bd η, wT E at_ θ, wB E (bd 2) (σ 2), wB E (bd 3) (σ 3), wB E (bd 4) (σ 4), wB E (bd 5) (σ 5), wB E (bd 6) (σ 6), wB E (bd 7) (σ 7), wB E (bd 8) (σ 8), wB E (bd 9) (σ 9), wM E am μ, wO E ao o] [(0, .ref b0), (1, .ref ax), (2, .ref (am 0)), (3, .ref ao), (4, .int (nI i))] 1480 [] := by
  obtain ⟨hvb, hvh, hvt, hvm, ha⟩ := hRv β η θ σ μ hR
  obtain ⟨hr, hR2⟩ := hs β τ γ η σ θ μ hR
  refine g_aload_n C dL_law_1480 rfl 1 rfl ?_
  refine g_callV C (cs1 := [wX ax (bo 0) (tr 0) (ac 0) (ah 0) (at_ 0), wB E bo β, wB E tr τ, wC E ac γ, wH E ah bd η, wT E at_ ((fX6_clearBuffer θ).2), wB E (bd 2) (σ 2), wB E (bd 3) (σ 3), wB E (bd 4) (σ 4), wB E (bd 5) (σ 5), wB E (bd 6) (σ 6), wB E (bd 7) (σ 7), wB E (bd 8) (σ 8), wB E (bd 9) (σ 9), wM E am μ, wO E ao o]) (st1 := [.int ((fX6_clearBuffer θ).1)]) [] [0, 1, 2, 3, 4, 5, 6, 7, 8, 9, 10, 11, 12, 13] (kX6_clearBuffer l E ax bo β tr τ ac γ ah bd η σ at_ θ hvt) caX6_clearBuffer q1_208 rfl ⟨Nat.le_of_ble_eq_true rfl, Nat.le_of_ble_eq_true rfl⟩ ⟨Nat.le_of_succ_le (Nat.le_of_succ_le (Nat.le_of_succ_le hk)), Nat.le_trans (Nat.le_add_right _ _) hn⟩ 0 0 rfl rfl rfl rfl (by decide) rfl rfl rfl rfl (Nat.le_of_ble_eq_true rfl) dL_law_1481 rfl ?_
  refine g_aload_n C dL_law_1484 rfl 2 rfl ?_
  refine g_callV C (cs1 := [wX ax (bo 0) (tr 0) (ac 0) (ah 0) (at_ 0), wB E bo β, wB E tr τ, wC E ac γ, wH E ah bd η, wT E at_ ((fX6_clearBuffer θ).2), wB E (bd 2) (σ 2), wB E (bd 3) (σ 3), wB E (bd 4) (σ 4), wB E (bd 5) (σ 5), wB E (bd 6) (σ 6), wB E (bd 7) (σ 7), wB E (bd 8) (σ 8), wB E (bd 9) (σ 9), wM E am ((fX7_clearBuffer μ).2), wO E ao o]) (st1 := [.int ((fX7_clearBuffer μ).1), .int ((fX6_clearBuffer θ).1)]) [] [14] (kX7_clearBuffer l E am μ  ) caX7_clearBuffer q7_65 rfl ⟨Nat.le_of_ble_eq_true rfl, Nat.le_of_ble_eq_true rfl⟩ ⟨Nat.le_of_succ_le (Nat.le_of_succ_le (Nat.le_of_succ_le hk)), Nat.le_trans (Nat.le_add_right _ _) hn⟩ 14 0 rfl rfl rfl rfl (by decide) rfl rfl rfl rfl (Nat.le_of_ble_eq_true rfl) dL_law_1485 rfl ?_
  refine g_icmp_eq C 3840 dL_law_1488 (by decide) (fun _ => ?_) (fun c => absurd hr c)
  refine g_widen (k1 := k + 3) (n1 := n + 18) (Nat.le_add_right _ _) (Nat.le_add_right _ _) ?_
  exact g_sub [0, 1, 2, 3, 4] rfl (next β τ γ η σ ((fX6_clearBuffer θ).2) ((fX7_clearBuffer μ).2) o hR2)
set_option maxHeartbeats 4000000 in
set_option maxRecDepth 100000 in
theorem arm_20 {Rl : RlT} (hRv : RlV Rl) (hs : sH_firstError Rl)  {X : gX} {l : Launch} {E : gE} (C : gC X cL_law 9 RL (some .boolean) l E room_1) (hZ : gZ X.2.2.2.2.2.2.2.2.2.2.2.1 X.2.2.2.2.1 X.2.2.2.2.1.heap) (hNc : gNc X.2.2.2.2.1) {b0 L0 : Nat} {xs : Nat → Int32} (S : gS X b0 L0 xs) (hlt : l.stackTraces = false) {ax : Nat} {bo tr ac ah : Nat → Nat} {bd : Nat → Nat → Nat} {at_ am : Nat → Nat} {ao k n i : Nat} (hk : k + 3 ≤ 601024) (hn : n + 18 ≤ 7293034) (hi : i + 3 ≤ L0) {β τ γ η : BS} {σ : Nat → BS} {θ μ : BS} {o : Nat → Int64} (hR : Rl β η θ σ μ) (next : ∀ (β τ γ η : BS) (σ : Nat → BS) (θ μ : BS) (o : Nat → Int64), Rl β η θ σ μ → G X (k + 3) (n + 18) [wX ax (bo 0) (tr 0) (ac 0) (ah 0) (at_ 0), wB E bo β, wB E tr τ, wC E ac γ, wH E ah bd η, wT E at_ θ, wB E (bd 2) (σ 2), wB E (bd 3) (σ 3), wB E (bd 4) (σ 4), wB E (bd 5) (σ 5), wB E (bd 6) (σ 6), wB E (bd 7) (σ 7), wB E (bd 8) (σ 8), wB E (bd 9) (σ 9), wM E am μ, wO E ao o] [(0, .ref b0), (1, .ref ax), (2, .ref (am 0)), (3, .ref ao), (4, .int (nI i))] 3840 []) : G X k n [wX ax (bo 0) (tr 0) (ac 0) (ah 0) (at_ 0), wB E bo β, wB E tr τ, wC E ac γ, wH E ah bd η, wT E at_ θ, wB E (bd 2) (σ 2), wB E (bd 3) (σ 3), wB E (bd 4) (σ 4), wB E (bd 5) (σ 5), wB E (bd 6) (σ 6), wB E (bd 7) (σ 7), wB E (bd 8) (σ 8), wB E (bd 9) (σ 9), wM E am μ, wO E ao o] [(0, .ref b0), (1, .ref ax), (2, .ref (am 0)), (3, .ref ao), (4, .int (nI i))] 1493 [] := by
  obtain ⟨hvb, hvh, hvt, hvm, ha⟩ := hRv β η θ σ μ hR
  obtain ⟨hr, hR2⟩ := hs β τ γ η σ θ μ hR
  refine g_aload_n C dL_law_1493 rfl 1 rfl ?_
  refine g_callV C (cs1 := [wX ax (bo 0) (tr 0) (ac 0) (ah 0) (at_ 0), wB E bo β, wB E tr τ, wC E ac γ, wH E ah bd η, wT E at_ ((fX6_firstError θ).2), wB E (bd 2) (σ 2), wB E (bd 3) (σ 3), wB E (bd 4) (σ 4), wB E (bd 5) (σ 5), wB E (bd 6) (σ 6), wB E (bd 7) (σ 7), wB E (bd 8) (σ 8), wB E (bd 9) (σ 9), wM E am μ, wO E ao o]) (st1 := [.int ((fX6_firstError θ).1)]) [] [0, 1, 2, 3, 4, 5, 6, 7, 8, 9, 10, 11, 12, 13] (kX6_firstError l E ax bo β tr τ ac γ ah bd η σ at_ θ hvt) caX6_firstError q1_216 rfl ⟨Nat.le_of_ble_eq_true rfl, Nat.le_of_ble_eq_true rfl⟩ ⟨Nat.le_of_succ_le (Nat.le_of_succ_le (Nat.le_of_succ_le hk)), Nat.le_trans (Nat.le_add_right _ _) hn⟩ 0 0 rfl rfl rfl rfl (by decide) rfl rfl rfl rfl (Nat.le_of_ble_eq_true rfl) dL_law_1494 rfl ?_
  refine g_aload_n C dL_law_1497 rfl 2 rfl ?_
  refine g_callV C (cs1 := [wX ax (bo 0) (tr 0) (ac 0) (ah 0) (at_ 0), wB E bo β, wB E tr τ, wC E ac γ, wH E ah bd η, wT E at_ ((fX6_firstError θ).2), wB E (bd 2) (σ 2), wB E (bd 3) (σ 3), wB E (bd 4) (σ 4), wB E (bd 5) (σ 5), wB E (bd 6) (σ 6), wB E (bd 7) (σ 7), wB E (bd 8) (σ 8), wB E (bd 9) (σ 9), wM E am ((fX7_firstError μ).2), wO E ao o]) (st1 := [.int ((fX7_firstError μ).1), .int ((fX6_firstError θ).1)]) [] [14] (kX7_firstError l E am μ hvm ) caX7_firstError q7_69 rfl ⟨Nat.le_of_ble_eq_true rfl, Nat.le_of_ble_eq_true rfl⟩ ⟨Nat.le_of_succ_le (Nat.le_of_succ_le (Nat.le_of_succ_le hk)), Nat.le_trans (Nat.le_add_right _ _) hn⟩ 14 0 rfl rfl rfl rfl (by decide) rfl rfl rfl rfl (Nat.le_of_ble_eq_true rfl) dL_law_1498 rfl ?_
  refine g_icmp_eq C 3840 dL_law_1501 (by decide) (fun _ => ?_) (fun c => absurd hr c)
  refine g_widen (k1 := k + 3) (n1 := n + 18) (Nat.le_add_right _ _) (Nat.le_add_right _ _) ?_
  exact g_sub [0, 1, 2, 3, 4] rfl (next β τ γ η σ ((fX6_firstError θ).2) ((fX7_firstError μ).2) o hR2)
set_option maxHeartbeats 4000000 in
set_option maxRecDepth 100000 in
theorem arm_21 {Rl : RlT} (hRv : RlV Rl) (hs : sH_follow Rl)  {X : gX} {l : Launch} {E : gE} (C : gC X cL_law 9 RL (some .boolean) l E room_1) (hZ : gZ X.2.2.2.2.2.2.2.2.2.2.2.1 X.2.2.2.2.1 X.2.2.2.2.1.heap) (hNc : gNc X.2.2.2.2.1) {b0 L0 : Nat} {xs : Nat → Int32} (S : gS X b0 L0 xs) (hlt : l.stackTraces = false) {ax : Nat} {bo tr ac ah : Nat → Nat} {bd : Nat → Nat → Nat} {at_ am : Nat → Nat} {ao k n i : Nat} (hk : k + 3 ≤ 601024) (hn : n + 18 ≤ 7293034) (hi : i + 3 ≤ L0) {β τ γ η : BS} {σ : Nat → BS} {θ μ : BS} {o : Nat → Int64} (hR : Rl β η θ σ μ) (next : ∀ (β τ γ η : BS) (σ : Nat → BS) (θ μ : BS) (o : Nat → Int64), Rl β η θ σ μ → G X (k + 3) (n + 18) [wX ax (bo 0) (tr 0) (ac 0) (ah 0) (at_ 0), wB E bo β, wB E tr τ, wC E ac γ, wH E ah bd η, wT E at_ θ, wB E (bd 2) (σ 2), wB E (bd 3) (σ 3), wB E (bd 4) (σ 4), wB E (bd 5) (σ 5), wB E (bd 6) (σ 6), wB E (bd 7) (σ 7), wB E (bd 8) (σ 8), wB E (bd 9) (σ 9), wM E am μ, wO E ao o] [(0, .ref b0), (1, .ref ax), (2, .ref (am 0)), (3, .ref ao), (4, .int (nI i))] 3840 []) : G X k n [wX ax (bo 0) (tr 0) (ac 0) (ah 0) (at_ 0), wB E bo β, wB E tr τ, wC E ac γ, wH E ah bd η, wT E at_ θ, wB E (bd 2) (σ 2), wB E (bd 3) (σ 3), wB E (bd 4) (σ 4), wB E (bd 5) (σ 5), wB E (bd 6) (σ 6), wB E (bd 7) (σ 7), wB E (bd 8) (σ 8), wB E (bd 9) (σ 9), wM E am μ, wO E ao o] [(0, .ref b0), (1, .ref ax), (2, .ref (am 0)), (3, .ref ao), (4, .int (nI i))] 1506 [] := by
  obtain ⟨hvb, hvh, hvt, hvm, ha⟩ := hRv β η θ σ μ hR
  obtain ⟨hag, hR2⟩ := hs β τ γ η σ θ μ hR
  rcases hag with ⟨hr, ht⟩ | ⟨hr, ht⟩ | ⟨hr, ht⟩
  · skip
    refine g_aload_n C dL_law_1506 rfl 1 rfl ?_
    refine g_aload_n C dL_law_1507 rfl 3 rfl ?_
    refine g_callSW C hZ hNc (cs1 := [wX ax (bo 0) (tr 0) (ac 0) (ah 0) (at_ 0), wB E bo ((fX6_follow β τ η σ θ).2.1), wB E tr ((fX6_follow β τ η σ θ).2.2.1), wC E ac γ, wH E ah bd ((fX6_follow β τ η σ θ).2.2.2.1), wT E at_ ((fX6_follow β τ η σ θ).2.2.2.2.1), wB E (bd 2) ((fX6_follow β τ η σ θ).2.2.2.2.2 2), wB E (bd 3) ((fX6_follow β τ η σ θ).2.2.2.2.2 3), wB E (bd 4) ((fX6_follow β τ η σ θ).2.2.2.2.2 4), wB E (bd 5) ((fX6_follow β τ η σ θ).2.2.2.2.2 5), wB E (bd 6) ((fX6_follow β τ η σ θ).2.2.2.2.2 6), wB E (bd 7) ((fX6_follow β τ η σ θ).2.2.2.2.2 7), wB E (bd 8) ((fX6_follow β τ η σ θ).2.2.2.2.2 8), wB E (bd 9) ((fX6_follow β τ η σ θ).2.2.2.2.2 9), wM E am μ, wO E ao (vp_updL o 0 v.toInt64)]) (st1 := [.int 0]) [.ref ax, .ref ao] [0, 1, 2, 3, 4, 5, 6, 7, 8, 9, 10, 11, 12, 13, 15] (kL_follow_r l E ax bo β tr τ ac γ ah bd η σ at_ θ ao o hlt hvb hvh hvt  ((fX7_follow μ).1) hr) q4_214 q1_0 (by decide +kernel) q4_213 q4_212 rfl ⟨Nat.le_of_ble_eq_true rfl, Nat.le_of_ble_eq_true rfl⟩ ⟨hk, hn⟩ (by decide) rfl rfl rfl rfl (Nat.le_of_ble_eq_true rfl) dL_law_1508 rfl ?_
    refine g_istore C (lv1 := [(5, .int 0), (0, .ref b0), (1, .ref ax), (2, .ref (am 0)), (3, .ref ao), (4, .int (nI i))]) dL_law_1511 (by decide) rfl ?_
    refine g_aload_n C dL_law_1513 rfl 3 rfl ?_
    refine g_callV C (cs1 := [wX ax (bo 0) (tr 0) (ac 0) (ah 0) (at_ 0), wB E bo ((fX6_follow β τ η σ θ).2.1), wB E tr ((fX6_follow β τ η σ θ).2.2.1), wC E ac γ, wH E ah bd ((fX6_follow β τ η σ θ).2.2.2.1), wT E at_ ((fX6_follow β τ η σ θ).2.2.2.2.1), wB E (bd 2) ((fX6_follow β τ η σ θ).2.2.2.2.2 2), wB E (bd 3) ((fX6_follow β τ η σ θ).2.2.2.2.2 3), wB E (bd 4) ((fX6_follow β τ η σ θ).2.2.2.2.2 4), wB E (bd 5) ((fX6_follow β τ η σ θ).2.2.2.2.2 5), wB E (bd 6) ((fX6_follow β τ η σ θ).2.2.2.2.2 6), wB E (bd 7) ((fX6_follow β τ η σ θ).2.2.2.2.2 7), wB E (bd 8) ((fX6_follow β τ η σ θ).2.2.2.2.2 8), wB E (bd 9) ((fX6_follow β τ η σ θ).2.2.2.2.2 9), wM E am ((fX7_follow μ).2), wO E ao (vp_updL o 0 v.toInt64)]) (st1 := [.int ((fX7_follow μ).1)]) [] [14] (kX7_follow l E am μ hvm ) caX7_follow q7_96 rfl ⟨Nat.le_of_ble_eq_true rfl, Nat.le_of_ble_eq_true rfl⟩ ⟨hk, hn⟩ 14 0 rfl rfl rfl rfl (by decide) rfl rfl rfl rfl (Nat.le_of_ble_eq_true rfl) dL_law_1514 rfl ?_
    refine g_istore C (lv1 := [(6, .int ((fX7_follow μ).1)), (5, .int 0), (0, .ref b0), (1, .ref ax), (2, .ref (am 0)), (3, .ref ao), (4, .int (nI i))]) dL_law_1517 (by decide) rfl ?_
    refine g_aload_n C dL_law_1519 rfl 4 rfl ?_
    refine g_callV C (cs1 := [wX ax (bo 0) (tr 0) (ac 0) (ah 0) (at_ 0), wB E bo ((fX6_follow β τ η σ θ).2.1), wB E tr ((fX6_follow β τ η σ θ).2.2.1), wC E ac γ, wH E ah bd ((fX6_follow β τ η σ θ).2.2.2.1), wT E at_ ((fX6_follow β τ η σ θ).2.2.2.2.1), wB E (bd 2) ((fX6_follow β τ η σ θ).2.2.2.2.2 2), wB E (bd 3) ((fX6_follow β τ η σ θ).2.2.2.2.2 3), wB E (bd 4) ((fX6_follow β τ η σ θ).2.2.2.2.2 4), wB E (bd 5) ((fX6_follow β τ η σ θ).2.2.2.2.2 5), wB E (bd 6) ((fX6_follow β τ η σ θ).2.2.2.2.2 6), wB E (bd 7) ((fX6_follow β τ η σ θ).2.2.2.2.2 7), wB E (bd 8) ((fX6_follow β τ η σ θ).2.2.2.2.2 8), wB E (bd 9) ((fX6_follow β τ η σ θ).2.2.2.2.2 9), wM E am ((fX7_follow μ).2), wO E ao (vp_updL o 0 v.toInt64)]) (st1 := [.int (fX7_thrown ((fX7_follow μ).2))]) [] [14] (kX7_thrown l E am ((fX7_follow μ).2)) caX7_thrown q6_117 rfl ⟨Nat.le_of_ble_eq_true rfl, Nat.le_of_ble_eq_true rfl⟩ ⟨hk, hn⟩ 14 0 rfl rfl rfl rfl (by decide) rfl rfl rfl rfl (Nat.le_of_ble_eq_true rfl) dL_law_1520 rfl ?_
    refine g_iload C dL_law_1523 1 rfl ?_
    refine g_icmp_eq C 1530 dL_law_1525 (by decide) (fun _ => ?_) (fun c => absurd ht c)
    refine g_iload C dL_law_1530 1 rfl ?_
    refine g_if_ne C 1547 dL_law_1532 (by decide) (fun c => absurd rfl c) (fun _ => ?_)
    refine g_aload_n C dL_law_1535 rfl 5 rfl ?_
    refine g_iconst C (v := 0) dL_law_1536 (by decide) ?_
    refine g_laldn C 15 0 0 rfl rfl rfl (by decide) (by decide) dL_law_1537 ?_
    refine g_iload C dL_law_1538 0 rfl ?_
    refine g_i2l C dL_law_1540 ?_
    refine g_lcmp C dL_law_1541 ?_
    refine g_if_eq C 1547 dL_law_1542 (by decide) (fun _ => ?_) (fun c => absurd law_cmp c)
    refine g_goto C 3840 dL_law_1547 (by decide) ?_
    exact g_sub [2, 3, 4, 5, 6] rfl (next ((fX6_follow β τ η σ θ).2.1) ((fX6_follow β τ η σ θ).2.2.1) γ ((fX6_follow β τ η σ θ).2.2.2.1) ((fX6_follow β τ η σ θ).2.2.2.2.2) ((fX6_follow β τ η σ θ).2.2.2.2.1) ((fX7_follow μ).2) (vp_updL o 0 v.toInt64) hR2)
  · skip
    refine g_aload_n C dL_law_1506 rfl 1 rfl ?_
    refine g_aload_n C dL_law_1507 rfl 3 rfl ?_
    refine g_callSW C hZ hNc (cs1 := [wX ax (bo 0) (tr 0) (ac 0) (ah 0) (at_ 0), wB E bo ((fX6_follow β τ η σ θ).2.1), wB E tr ((fX6_follow β τ η σ θ).2.2.1), wC E ac γ, wH E ah bd ((fX6_follow β τ η σ θ).2.2.2.1), wT E at_ ((fX6_follow β τ η σ θ).2.2.2.2.1), wB E (bd 2) ((fX6_follow β τ η σ θ).2.2.2.2.2 2), wB E (bd 3) ((fX6_follow β τ η σ θ).2.2.2.2.2 3), wB E (bd 4) ((fX6_follow β τ η σ θ).2.2.2.2.2 4), wB E (bd 5) ((fX6_follow β τ η σ θ).2.2.2.2.2 5), wB E (bd 6) ((fX6_follow β τ η σ θ).2.2.2.2.2 6), wB E (bd 7) ((fX6_follow β τ η σ θ).2.2.2.2.2 7), wB E (bd 8) ((fX6_follow β τ η σ θ).2.2.2.2.2 8), wB E (bd 9) ((fX6_follow β τ η σ θ).2.2.2.2.2 9), wM E am μ, wO E ao o]) (st1 := [.int 1]) [.ref ax, .ref ao] [0, 1, 2, 3, 4, 5, 6, 7, 8, 9, 10, 11, 12, 13, 15] (kL_follow_0 l E ax bo β tr τ ac γ ah bd η σ at_ θ ao o hlt hvb hvh hvt  hr) q4_214 q1_0 (by decide +kernel) q4_213 q4_212 rfl ⟨Nat.le_of_ble_eq_true rfl, Nat.le_of_ble_eq_true rfl⟩ ⟨hk, hn⟩ (by decide) rfl rfl rfl rfl (Nat.le_of_ble_eq_true rfl) dL_law_1508 rfl ?_
    refine g_istore C (lv1 := [(5, .int 1), (0, .ref b0), (1, .ref ax), (2, .ref (am 0)), (3, .ref ao), (4, .int (nI i))]) dL_law_1511 (by decide) rfl ?_
    refine g_aload_n C dL_law_1513 rfl 3 rfl ?_
    refine g_callV C (cs1 := [wX ax (bo 0) (tr 0) (ac 0) (ah 0) (at_ 0), wB E bo ((fX6_follow β τ η σ θ).2.1), wB E tr ((fX6_follow β τ η σ θ).2.2.1), wC E ac γ, wH E ah bd ((fX6_follow β τ η σ θ).2.2.2.1), wT E at_ ((fX6_follow β τ η σ θ).2.2.2.2.1), wB E (bd 2) ((fX6_follow β τ η σ θ).2.2.2.2.2 2), wB E (bd 3) ((fX6_follow β τ η σ θ).2.2.2.2.2 3), wB E (bd 4) ((fX6_follow β τ η σ θ).2.2.2.2.2 4), wB E (bd 5) ((fX6_follow β τ η σ θ).2.2.2.2.2 5), wB E (bd 6) ((fX6_follow β τ η σ θ).2.2.2.2.2 6), wB E (bd 7) ((fX6_follow β τ η σ θ).2.2.2.2.2 7), wB E (bd 8) ((fX6_follow β τ η σ θ).2.2.2.2.2 8), wB E (bd 9) ((fX6_follow β τ η σ θ).2.2.2.2.2 9), wM E am ((fX7_follow μ).2), wO E ao o]) (st1 := [.int ((fX7_follow μ).1)]) [] [14] (kX7_follow l E am μ hvm ) caX7_follow q7_96 rfl ⟨Nat.le_of_ble_eq_true rfl, Nat.le_of_ble_eq_true rfl⟩ ⟨hk, hn⟩ 14 0 rfl rfl rfl rfl (by decide) rfl rfl rfl rfl (Nat.le_of_ble_eq_true rfl) dL_law_1514 rfl ?_
    refine g_istore C (lv1 := [(6, .int ((fX7_follow μ).1)), (5, .int 1), (0, .ref b0), (1, .ref ax), (2, .ref (am 0)), (3, .ref ao), (4, .int (nI i))]) dL_law_1517 (by decide) rfl ?_
    refine g_aload_n C dL_law_1519 rfl 4 rfl ?_
    refine g_callV C (cs1 := [wX ax (bo 0) (tr 0) (ac 0) (ah 0) (at_ 0), wB E bo ((fX6_follow β τ η σ θ).2.1), wB E tr ((fX6_follow β τ η σ θ).2.2.1), wC E ac γ, wH E ah bd ((fX6_follow β τ η σ θ).2.2.2.1), wT E at_ ((fX6_follow β τ η σ θ).2.2.2.2.1), wB E (bd 2) ((fX6_follow β τ η σ θ).2.2.2.2.2 2), wB E (bd 3) ((fX6_follow β τ η σ θ).2.2.2.2.2 3), wB E (bd 4) ((fX6_follow β τ η σ θ).2.2.2.2.2 4), wB E (bd 5) ((fX6_follow β τ η σ θ).2.2.2.2.2 5), wB E (bd 6) ((fX6_follow β τ η σ θ).2.2.2.2.2 6), wB E (bd 7) ((fX6_follow β τ η σ θ).2.2.2.2.2 7), wB E (bd 8) ((fX6_follow β τ η σ θ).2.2.2.2.2 8), wB E (bd 9) ((fX6_follow β τ η σ θ).2.2.2.2.2 9), wM E am ((fX7_follow μ).2), wO E ao o]) (st1 := [.int (fX7_thrown ((fX7_follow μ).2))]) [] [14] (kX7_thrown l E am ((fX7_follow μ).2)) caX7_thrown q6_117 rfl ⟨Nat.le_of_ble_eq_true rfl, Nat.le_of_ble_eq_true rfl⟩ ⟨hk, hn⟩ 14 0 rfl rfl rfl rfl (by decide) rfl rfl rfl rfl (Nat.le_of_ble_eq_true rfl) dL_law_1520 rfl ?_
    refine g_iload C dL_law_1523 1 rfl ?_
    refine g_icmp_eq C 1530 dL_law_1525 (by decide) (fun _ => ?_) (fun c => absurd ht c)
    refine g_iload C dL_law_1530 1 rfl ?_
    refine g_if_ne C 1547 dL_law_1532 (by decide) (fun _ => ?_) (fun c => absurd c (by decide))
    refine g_goto C 3840 dL_law_1547 (by decide) ?_
    exact g_sub [2, 3, 4, 5, 6] rfl (next ((fX6_follow β τ η σ θ).2.1) ((fX6_follow β τ η σ θ).2.2.1) γ ((fX6_follow β τ η σ θ).2.2.2.1) ((fX6_follow β τ η σ θ).2.2.2.2.2) ((fX6_follow β τ η σ θ).2.2.2.2.1) ((fX7_follow μ).2) o hR2)
  · skip
    refine g_aload_n C dL_law_1506 rfl 1 rfl ?_
    refine g_aload_n C dL_law_1507 rfl 3 rfl ?_
    refine g_callSW C hZ hNc (cs1 := [wX ax (bo 0) (tr 0) (ac 0) (ah 0) (at_ 0), wB E bo ((fX6_follow β τ η σ θ).2.1), wB E tr ((fX6_follow β τ η σ θ).2.2.1), wC E ac γ, wH E ah bd ((fX6_follow β τ η σ θ).2.2.2.1), wT E at_ ((fX6_follow β τ η σ θ).2.2.2.2.1), wB E (bd 2) ((fX6_follow β τ η σ θ).2.2.2.2.2 2), wB E (bd 3) ((fX6_follow β τ η σ θ).2.2.2.2.2 3), wB E (bd 4) ((fX6_follow β τ η σ θ).2.2.2.2.2 4), wB E (bd 5) ((fX6_follow β τ η σ θ).2.2.2.2.2 5), wB E (bd 6) ((fX6_follow β τ η σ θ).2.2.2.2.2 6), wB E (bd 7) ((fX6_follow β τ η σ θ).2.2.2.2.2 7), wB E (bd 8) ((fX6_follow β τ η σ θ).2.2.2.2.2 8), wB E (bd 9) ((fX6_follow β τ η σ θ).2.2.2.2.2 9), wM E am μ, wO E ao o]) (st1 := [.int 2]) [.ref ax, .ref ao] [0, 1, 2, 3, 4, 5, 6, 7, 8, 9, 10, 11, 12, 13, 15] (kL_follow_1 l E ax bo β tr τ ac γ ah bd η σ at_ θ ao o hlt hvb hvh hvt  hr) q4_214 q1_0 (by decide +kernel) q4_213 q4_212 rfl ⟨Nat.le_of_ble_eq_true rfl, Nat.le_of_ble_eq_true rfl⟩ ⟨hk, hn⟩ (by decide) rfl rfl rfl rfl (Nat.le_of_ble_eq_true rfl) dL_law_1508 rfl ?_
    refine g_istore C (lv1 := [(5, .int 2), (0, .ref b0), (1, .ref ax), (2, .ref (am 0)), (3, .ref ao), (4, .int (nI i))]) dL_law_1511 (by decide) rfl ?_
    refine g_aload_n C dL_law_1513 rfl 3 rfl ?_
    refine g_callV C (cs1 := [wX ax (bo 0) (tr 0) (ac 0) (ah 0) (at_ 0), wB E bo ((fX6_follow β τ η σ θ).2.1), wB E tr ((fX6_follow β τ η σ θ).2.2.1), wC E ac γ, wH E ah bd ((fX6_follow β τ η σ θ).2.2.2.1), wT E at_ ((fX6_follow β τ η σ θ).2.2.2.2.1), wB E (bd 2) ((fX6_follow β τ η σ θ).2.2.2.2.2 2), wB E (bd 3) ((fX6_follow β τ η σ θ).2.2.2.2.2 3), wB E (bd 4) ((fX6_follow β τ η σ θ).2.2.2.2.2 4), wB E (bd 5) ((fX6_follow β τ η σ θ).2.2.2.2.2 5), wB E (bd 6) ((fX6_follow β τ η σ θ).2.2.2.2.2 6), wB E (bd 7) ((fX6_follow β τ η σ θ).2.2.2.2.2 7), wB E (bd 8) ((fX6_follow β τ η σ θ).2.2.2.2.2 8), wB E (bd 9) ((fX6_follow β τ η σ θ).2.2.2.2.2 9), wM E am ((fX7_follow μ).2), wO E ao o]) (st1 := [.int ((fX7_follow μ).1)]) [] [14] (kX7_follow l E am μ hvm ) caX7_follow q7_96 rfl ⟨Nat.le_of_ble_eq_true rfl, Nat.le_of_ble_eq_true rfl⟩ ⟨hk, hn⟩ 14 0 rfl rfl rfl rfl (by decide) rfl rfl rfl rfl (Nat.le_of_ble_eq_true rfl) dL_law_1514 rfl ?_
    refine g_istore C (lv1 := [(6, .int ((fX7_follow μ).1)), (5, .int 2), (0, .ref b0), (1, .ref ax), (2, .ref (am 0)), (3, .ref ao), (4, .int (nI i))]) dL_law_1517 (by decide) rfl ?_
    refine g_aload_n C dL_law_1519 rfl 4 rfl ?_
    refine g_callV C (cs1 := [wX ax (bo 0) (tr 0) (ac 0) (ah 0) (at_ 0), wB E bo ((fX6_follow β τ η σ θ).2.1), wB E tr ((fX6_follow β τ η σ θ).2.2.1), wC E ac γ, wH E ah bd ((fX6_follow β τ η σ θ).2.2.2.1), wT E at_ ((fX6_follow β τ η σ θ).2.2.2.2.1), wB E (bd 2) ((fX6_follow β τ η σ θ).2.2.2.2.2 2), wB E (bd 3) ((fX6_follow β τ η σ θ).2.2.2.2.2 3), wB E (bd 4) ((fX6_follow β τ η σ θ).2.2.2.2.2 4), wB E (bd 5) ((fX6_follow β τ η σ θ).2.2.2.2.2 5), wB E (bd 6) ((fX6_follow β τ η σ θ).2.2.2.2.2 6), wB E (bd 7) ((fX6_follow β τ η σ θ).2.2.2.2.2 7), wB E (bd 8) ((fX6_follow β τ η σ θ).2.2.2.2.2 8), wB E (bd 9) ((fX6_follow β τ η σ θ).2.2.2.2.2 9), wM E am ((fX7_follow μ).2), wO E ao o]) (st1 := [.int (fX7_thrown ((fX7_follow μ).2))]) [] [14] (kX7_thrown l E am ((fX7_follow μ).2)) caX7_thrown q6_117 rfl ⟨Nat.le_of_ble_eq_true rfl, Nat.le_of_ble_eq_true rfl⟩ ⟨hk, hn⟩ 14 0 rfl rfl rfl rfl (by decide) rfl rfl rfl rfl (Nat.le_of_ble_eq_true rfl) dL_law_1520 rfl ?_
    refine g_iload C dL_law_1523 1 rfl ?_
    refine g_icmp_eq C 1530 dL_law_1525 (by decide) (fun _ => ?_) (fun c => absurd ht c)
    refine g_iload C dL_law_1530 1 rfl ?_
    refine g_if_ne C 1547 dL_law_1532 (by decide) (fun _ => ?_) (fun c => absurd c (by decide))
    refine g_goto C 3840 dL_law_1547 (by decide) ?_
    exact g_sub [2, 3, 4, 5, 6] rfl (next ((fX6_follow β τ η σ θ).2.1) ((fX6_follow β τ η σ θ).2.2.1) γ ((fX6_follow β τ η σ θ).2.2.2.1) ((fX6_follow β τ η σ θ).2.2.2.2.2) ((fX6_follow β τ η σ θ).2.2.2.2.1) ((fX7_follow μ).2) o hR2)
set_option maxHeartbeats 4000000 in
set_option maxRecDepth 100000 in
theorem arm_22 {Rl : RlT} (hRv : RlV Rl) (hs : sH_impossibleOrder Rl)  {X : gX} {l : Launch} {E : gE} (C : gC X cL_law 9 RL (some .boolean) l E room_1) (hZ : gZ X.2.2.2.2.2.2.2.2.2.2.2.1 X.2.2.2.2.1 X.2.2.2.2.1.heap) (hNc : gNc X.2.2.2.2.1) {b0 L0 : Nat} {xs : Nat → Int32} (S : gS X b0 L0 xs) (hlt : l.stackTraces = false) {ax : Nat} {bo tr ac ah : Nat → Nat} {bd : Nat → Nat → Nat} {at_ am : Nat → Nat} {ao k n i : Nat} (hk : k + 3 ≤ 601024) (hn : n + 18 ≤ 7293034) (hi : i + 3 ≤ L0) {β τ γ η : BS} {σ : Nat → BS} {θ μ : BS} {o : Nat → Int64} (hR : Rl β η θ σ μ) (next : ∀ (β τ γ η : BS) (σ : Nat → BS) (θ μ : BS) (o : Nat → Int64), Rl β η θ σ μ → G X (k + 3) (n + 18) [wX ax (bo 0) (tr 0) (ac 0) (ah 0) (at_ 0), wB E bo β, wB E tr τ, wC E ac γ, wH E ah bd η, wT E at_ θ, wB E (bd 2) (σ 2), wB E (bd 3) (σ 3), wB E (bd 4) (σ 4), wB E (bd 5) (σ 5), wB E (bd 6) (σ 6), wB E (bd 7) (σ 7), wB E (bd 8) (σ 8), wB E (bd 9) (σ 9), wM E am μ, wO E ao o] [(0, .ref b0), (1, .ref ax), (2, .ref (am 0)), (3, .ref ao), (4, .int (nI i))] 3840 []) : G X k n [wX ax (bo 0) (tr 0) (ac 0) (ah 0) (at_ 0), wB E bo β, wB E tr τ, wC E ac γ, wH E ah bd η, wT E at_ θ, wB E (bd 2) (σ 2), wB E (bd 3) (σ 3), wB E (bd 4) (σ 4), wB E (bd 5) (σ 5), wB E (bd 6) (σ 6), wB E (bd 7) (σ 7), wB E (bd 8) (σ 8), wB E (bd 9) (σ 9), wM E am μ, wO E ao o] [(0, .ref b0), (1, .ref ax), (2, .ref (am 0)), (3, .ref ao), (4, .int (nI i))] 1550 [] := by
  obtain ⟨hvb, hvh, hvt, hvm, ha⟩ := hRv β η θ σ μ hR
  obtain ⟨hag, hR2⟩ := hs β τ γ η σ θ μ hR
  rcases hag with ⟨hr, ht⟩ | ⟨hr, ht⟩ | ⟨hr, ht⟩
  · skip
    refine g_aload_n C dL_law_1550 rfl 1 rfl ?_
    refine g_aload_n C dL_law_1551 rfl 3 rfl ?_
    refine g_callSW C hZ hNc (cs1 := [wX ax (bo 0) (tr 0) (ac 0) (ah 0) (at_ 0), wB E bo β, wB E tr ((fX6_impossibleOrder β τ θ).2.1), wC E ac γ, wH E ah bd η, wT E at_ ((fX6_impossibleOrder β τ θ).2.2), wB E (bd 2) (σ 2), wB E (bd 3) (σ 3), wB E (bd 4) (σ 4), wB E (bd 5) (σ 5), wB E (bd 6) (σ 6), wB E (bd 7) (σ 7), wB E (bd 8) (σ 8), wB E (bd 9) (σ 9), wM E am μ, wO E ao (vp_updL o 0 v.toInt64)]) (st1 := [.int 0]) [.ref ax, .ref ao] [0, 1, 2, 3, 4, 5, 6, 7, 8, 9, 10, 11, 12, 13, 15] (kL_impossibleOrder_r l E ax bo β tr τ ac γ ah bd η σ at_ θ ao o hlt hvb hvt  ((fX7_impossibleOrder μ).1) hr) q5_24 q1_0 (by decide +kernel) q5_23 q5_22 rfl ⟨Nat.le_of_ble_eq_true rfl, Nat.le_of_ble_eq_true rfl⟩ ⟨hk, hn⟩ (by decide) rfl rfl rfl rfl (Nat.le_of_ble_eq_true rfl) dL_law_1552 rfl ?_
    refine g_istore C (lv1 := [(5, .int 0), (0, .ref b0), (1, .ref ax), (2, .ref (am 0)), (3, .ref ao), (4, .int (nI i))]) dL_law_1555 (by decide) rfl ?_
    refine g_aload_n C dL_law_1557 rfl 3 rfl ?_
    refine g_callV C (cs1 := [wX ax (bo 0) (tr 0) (ac 0) (ah 0) (at_ 0), wB E bo β, wB E tr ((fX6_impossibleOrder β τ θ).2.1), wC E ac γ, wH E ah bd η, wT E at_ ((fX6_impossibleOrder β τ θ).2.2), wB E (bd 2) (σ 2), wB E (bd 3) (σ 3), wB E (bd 4) (σ 4), wB E (bd 5) (σ 5), wB E (bd 6) (σ 6), wB E (bd 7) (σ 7), wB E (bd 8) (σ 8), wB E (bd 9) (σ 9), wM E am ((fX7_impossibleOrder μ).2), wO E ao (vp_updL o 0 v.toInt64)]) (st1 := [.int ((fX7_impossibleOrder μ).1)]) [] [14] (kX7_impossibleOrder l E am μ hvm ) caX7_impossibleOrder q7_120 rfl ⟨Nat.le_of_ble_eq_true rfl, Nat.le_of_ble_eq_true rfl⟩ ⟨hk, hn⟩ 14 0 rfl rfl rfl rfl (by decide) rfl rfl rfl rfl (Nat.le_of_ble_eq_true rfl) dL_law_1558 rfl ?_
    refine g_istore C (lv1 := [(6, .int ((fX7_impossibleOrder μ).1)), (5, .int 0), (0, .ref b0), (1, .ref ax), (2, .ref (am 0)), (3, .ref ao), (4, .int (nI i))]) dL_law_1561 (by decide) rfl ?_
    refine g_aload_n C dL_law_1563 rfl 4 rfl ?_
    refine g_callV C (cs1 := [wX ax (bo 0) (tr 0) (ac 0) (ah 0) (at_ 0), wB E bo β, wB E tr ((fX6_impossibleOrder β τ θ).2.1), wC E ac γ, wH E ah bd η, wT E at_ ((fX6_impossibleOrder β τ θ).2.2), wB E (bd 2) (σ 2), wB E (bd 3) (σ 3), wB E (bd 4) (σ 4), wB E (bd 5) (σ 5), wB E (bd 6) (σ 6), wB E (bd 7) (σ 7), wB E (bd 8) (σ 8), wB E (bd 9) (σ 9), wM E am ((fX7_impossibleOrder μ).2), wO E ao (vp_updL o 0 v.toInt64)]) (st1 := [.int (fX7_thrown ((fX7_impossibleOrder μ).2))]) [] [14] (kX7_thrown l E am ((fX7_impossibleOrder μ).2)) caX7_thrown q6_117 rfl ⟨Nat.le_of_ble_eq_true rfl, Nat.le_of_ble_eq_true rfl⟩ ⟨hk, hn⟩ 14 0 rfl rfl rfl rfl (by decide) rfl rfl rfl rfl (Nat.le_of_ble_eq_true rfl) dL_law_1564 rfl ?_
    refine g_iload C dL_law_1567 1 rfl ?_
    refine g_icmp_eq C 1574 dL_law_1569 (by decide) (fun _ => ?_) (fun c => absurd ht c)
    refine g_iload C dL_law_1574 1 rfl ?_
    refine g_if_ne C 1591 dL_law_1576 (by decide) (fun c => absurd rfl c) (fun _ => ?_)
    refine g_aload_n C dL_law_1579 rfl 5 rfl ?_
    refine g_iconst C (v := 0) dL_law_1580 (by decide) ?_
    refine g_laldn C 15 0 0 rfl rfl rfl (by decide) (by decide) dL_law_1581 ?_
    refine g_iload C dL_law_1582 0 rfl ?_
    refine g_i2l C dL_law_1584 ?_
    refine g_lcmp C dL_law_1585 ?_
    refine g_if_eq C 1591 dL_law_1586 (by decide) (fun _ => ?_) (fun c => absurd law_cmp c)
    refine g_goto C 3840 dL_law_1591 (by decide) ?_
    exact g_sub [2, 3, 4, 5, 6] rfl (next β ((fX6_impossibleOrder β τ θ).2.1) γ η σ ((fX6_impossibleOrder β τ θ).2.2) ((fX7_impossibleOrder μ).2) (vp_updL o 0 v.toInt64) hR2)
  · skip
    refine g_aload_n C dL_law_1550 rfl 1 rfl ?_
    refine g_aload_n C dL_law_1551 rfl 3 rfl ?_
    refine g_callSW C hZ hNc (cs1 := [wX ax (bo 0) (tr 0) (ac 0) (ah 0) (at_ 0), wB E bo β, wB E tr ((fX6_impossibleOrder β τ θ).2.1), wC E ac γ, wH E ah bd η, wT E at_ ((fX6_impossibleOrder β τ θ).2.2), wB E (bd 2) (σ 2), wB E (bd 3) (σ 3), wB E (bd 4) (σ 4), wB E (bd 5) (σ 5), wB E (bd 6) (σ 6), wB E (bd 7) (σ 7), wB E (bd 8) (σ 8), wB E (bd 9) (σ 9), wM E am μ, wO E ao o]) (st1 := [.int 1]) [.ref ax, .ref ao] [0, 1, 2, 3, 4, 5, 6, 7, 8, 9, 10, 11, 12, 13, 15] (kL_impossibleOrder_0 l E ax bo β tr τ ac γ ah bd η σ at_ θ ao o hlt hvb hvt  hr) q5_24 q1_0 (by decide +kernel) q5_23 q5_22 rfl ⟨Nat.le_of_ble_eq_true rfl, Nat.le_of_ble_eq_true rfl⟩ ⟨hk, hn⟩ (by decide) rfl rfl rfl rfl (Nat.le_of_ble_eq_true rfl) dL_law_1552 rfl ?_
    refine g_istore C (lv1 := [(5, .int 1), (0, .ref b0), (1, .ref ax), (2, .ref (am 0)), (3, .ref ao), (4, .int (nI i))]) dL_law_1555 (by decide) rfl ?_
    refine g_aload_n C dL_law_1557 rfl 3 rfl ?_
    refine g_callV C (cs1 := [wX ax (bo 0) (tr 0) (ac 0) (ah 0) (at_ 0), wB E bo β, wB E tr ((fX6_impossibleOrder β τ θ).2.1), wC E ac γ, wH E ah bd η, wT E at_ ((fX6_impossibleOrder β τ θ).2.2), wB E (bd 2) (σ 2), wB E (bd 3) (σ 3), wB E (bd 4) (σ 4), wB E (bd 5) (σ 5), wB E (bd 6) (σ 6), wB E (bd 7) (σ 7), wB E (bd 8) (σ 8), wB E (bd 9) (σ 9), wM E am ((fX7_impossibleOrder μ).2), wO E ao o]) (st1 := [.int ((fX7_impossibleOrder μ).1)]) [] [14] (kX7_impossibleOrder l E am μ hvm ) caX7_impossibleOrder q7_120 rfl ⟨Nat.le_of_ble_eq_true rfl, Nat.le_of_ble_eq_true rfl⟩ ⟨hk, hn⟩ 14 0 rfl rfl rfl rfl (by decide) rfl rfl rfl rfl (Nat.le_of_ble_eq_true rfl) dL_law_1558 rfl ?_
    refine g_istore C (lv1 := [(6, .int ((fX7_impossibleOrder μ).1)), (5, .int 1), (0, .ref b0), (1, .ref ax), (2, .ref (am 0)), (3, .ref ao), (4, .int (nI i))]) dL_law_1561 (by decide) rfl ?_
    refine g_aload_n C dL_law_1563 rfl 4 rfl ?_
    refine g_callV C (cs1 := [wX ax (bo 0) (tr 0) (ac 0) (ah 0) (at_ 0), wB E bo β, wB E tr ((fX6_impossibleOrder β τ θ).2.1), wC E ac γ, wH E ah bd η, wT E at_ ((fX6_impossibleOrder β τ θ).2.2), wB E (bd 2) (σ 2), wB E (bd 3) (σ 3), wB E (bd 4) (σ 4), wB E (bd 5) (σ 5), wB E (bd 6) (σ 6), wB E (bd 7) (σ 7), wB E (bd 8) (σ 8), wB E (bd 9) (σ 9), wM E am ((fX7_impossibleOrder μ).2), wO E ao o]) (st1 := [.int (fX7_thrown ((fX7_impossibleOrder μ).2))]) [] [14] (kX7_thrown l E am ((fX7_impossibleOrder μ).2)) caX7_thrown q6_117 rfl ⟨Nat.le_of_ble_eq_true rfl, Nat.le_of_ble_eq_true rfl⟩ ⟨hk, hn⟩ 14 0 rfl rfl rfl rfl (by decide) rfl rfl rfl rfl (Nat.le_of_ble_eq_true rfl) dL_law_1564 rfl ?_
    refine g_iload C dL_law_1567 1 rfl ?_
    refine g_icmp_eq C 1574 dL_law_1569 (by decide) (fun _ => ?_) (fun c => absurd ht c)
    refine g_iload C dL_law_1574 1 rfl ?_
    refine g_if_ne C 1591 dL_law_1576 (by decide) (fun _ => ?_) (fun c => absurd c (by decide))
    refine g_goto C 3840 dL_law_1591 (by decide) ?_
    exact g_sub [2, 3, 4, 5, 6] rfl (next β ((fX6_impossibleOrder β τ θ).2.1) γ η σ ((fX6_impossibleOrder β τ θ).2.2) ((fX7_impossibleOrder μ).2) o hR2)
  · skip
    refine g_aload_n C dL_law_1550 rfl 1 rfl ?_
    refine g_aload_n C dL_law_1551 rfl 3 rfl ?_
    refine g_callSW C hZ hNc (cs1 := [wX ax (bo 0) (tr 0) (ac 0) (ah 0) (at_ 0), wB E bo β, wB E tr ((fX6_impossibleOrder β τ θ).2.1), wC E ac γ, wH E ah bd η, wT E at_ ((fX6_impossibleOrder β τ θ).2.2), wB E (bd 2) (σ 2), wB E (bd 3) (σ 3), wB E (bd 4) (σ 4), wB E (bd 5) (σ 5), wB E (bd 6) (σ 6), wB E (bd 7) (σ 7), wB E (bd 8) (σ 8), wB E (bd 9) (σ 9), wM E am μ, wO E ao o]) (st1 := [.int 2]) [.ref ax, .ref ao] [0, 1, 2, 3, 4, 5, 6, 7, 8, 9, 10, 11, 12, 13, 15] (kL_impossibleOrder_1 l E ax bo β tr τ ac γ ah bd η σ at_ θ ao o hlt hvb hvt  hr) q5_24 q1_0 (by decide +kernel) q5_23 q5_22 rfl ⟨Nat.le_of_ble_eq_true rfl, Nat.le_of_ble_eq_true rfl⟩ ⟨hk, hn⟩ (by decide) rfl rfl rfl rfl (Nat.le_of_ble_eq_true rfl) dL_law_1552 rfl ?_
    refine g_istore C (lv1 := [(5, .int 2), (0, .ref b0), (1, .ref ax), (2, .ref (am 0)), (3, .ref ao), (4, .int (nI i))]) dL_law_1555 (by decide) rfl ?_
    refine g_aload_n C dL_law_1557 rfl 3 rfl ?_
    refine g_callV C (cs1 := [wX ax (bo 0) (tr 0) (ac 0) (ah 0) (at_ 0), wB E bo β, wB E tr ((fX6_impossibleOrder β τ θ).2.1), wC E ac γ, wH E ah bd η, wT E at_ ((fX6_impossibleOrder β τ θ).2.2), wB E (bd 2) (σ 2), wB E (bd 3) (σ 3), wB E (bd 4) (σ 4), wB E (bd 5) (σ 5), wB E (bd 6) (σ 6), wB E (bd 7) (σ 7), wB E (bd 8) (σ 8), wB E (bd 9) (σ 9), wM E am ((fX7_impossibleOrder μ).2), wO E ao o]) (st1 := [.int ((fX7_impossibleOrder μ).1)]) [] [14] (kX7_impossibleOrder l E am μ hvm ) caX7_impossibleOrder q7_120 rfl ⟨Nat.le_of_ble_eq_true rfl, Nat.le_of_ble_eq_true rfl⟩ ⟨hk, hn⟩ 14 0 rfl rfl rfl rfl (by decide) rfl rfl rfl rfl (Nat.le_of_ble_eq_true rfl) dL_law_1558 rfl ?_
    refine g_istore C (lv1 := [(6, .int ((fX7_impossibleOrder μ).1)), (5, .int 2), (0, .ref b0), (1, .ref ax), (2, .ref (am 0)), (3, .ref ao), (4, .int (nI i))]) dL_law_1561 (by decide) rfl ?_
    refine g_aload_n C dL_law_1563 rfl 4 rfl ?_
    refine g_callV C (cs1 := [wX ax (bo 0) (tr 0) (ac 0) (ah 0) (at_ 0), wB E bo β, wB E tr ((fX6_impossibleOrder β τ θ).2.1), wC E ac γ, wH E ah bd η, wT E at_ ((fX6_impossibleOrder β τ θ).2.2), wB E (bd 2) (σ 2), wB E (bd 3) (σ 3), wB E (bd 4) (σ 4), wB E (bd 5) (σ 5), wB E (bd 6) (σ 6), wB E (bd 7) (σ 7), wB E (bd 8) (σ 8), wB E (bd 9) (σ 9), wM E am ((fX7_impossibleOrder μ).2), wO E ao o]) (st1 := [.int (fX7_thrown ((fX7_impossibleOrder μ).2))]) [] [14] (kX7_thrown l E am ((fX7_impossibleOrder μ).2)) caX7_thrown q6_117 rfl ⟨Nat.le_of_ble_eq_true rfl, Nat.le_of_ble_eq_true rfl⟩ ⟨hk, hn⟩ 14 0 rfl rfl rfl rfl (by decide) rfl rfl rfl rfl (Nat.le_of_ble_eq_true rfl) dL_law_1564 rfl ?_
    refine g_iload C dL_law_1567 1 rfl ?_
    refine g_icmp_eq C 1574 dL_law_1569 (by decide) (fun _ => ?_) (fun c => absurd ht c)
    refine g_iload C dL_law_1574 1 rfl ?_
    refine g_if_ne C 1591 dL_law_1576 (by decide) (fun _ => ?_) (fun c => absurd c (by decide))
    refine g_goto C 3840 dL_law_1591 (by decide) ?_
    exact g_sub [2, 3, 4, 5, 6] rfl (next β ((fX6_impossibleOrder β τ θ).2.1) γ η σ ((fX6_impossibleOrder β τ θ).2.2) ((fX7_impossibleOrder μ).2) o hR2)
set_option maxHeartbeats 4000000 in
set_option maxRecDepth 100000 in
theorem arm_23 {Rl : RlT} (hRv : RlV Rl) (hs : sH_keep Rl)  {X : gX} {l : Launch} {E : gE} (C : gC X cL_law 9 RL (some .boolean) l E room_1) (hZ : gZ X.2.2.2.2.2.2.2.2.2.2.2.1 X.2.2.2.2.1 X.2.2.2.2.1.heap) (hNc : gNc X.2.2.2.2.1) {b0 L0 : Nat} {xs : Nat → Int32} (S : gS X b0 L0 xs) (hlt : l.stackTraces = false) {ax : Nat} {bo tr ac ah : Nat → Nat} {bd : Nat → Nat → Nat} {at_ am : Nat → Nat} {ao k n i : Nat} (hk : k + 3 ≤ 601024) (hn : n + 18 ≤ 7293034) (hi : i + 3 ≤ L0) {β τ γ η : BS} {σ : Nat → BS} {θ μ : BS} {o : Nat → Int64} (hR : Rl β η θ σ μ) (next : ∀ (β τ γ η : BS) (σ : Nat → BS) (θ μ : BS) (o : Nat → Int64), Rl β η θ σ μ → G X (k + 3) (n + 18) [wX ax (bo 0) (tr 0) (ac 0) (ah 0) (at_ 0), wB E bo β, wB E tr τ, wC E ac γ, wH E ah bd η, wT E at_ θ, wB E (bd 2) (σ 2), wB E (bd 3) (σ 3), wB E (bd 4) (σ 4), wB E (bd 5) (σ 5), wB E (bd 6) (σ 6), wB E (bd 7) (σ 7), wB E (bd 8) (σ 8), wB E (bd 9) (σ 9), wM E am μ, wO E ao o] [(0, .ref b0), (1, .ref ax), (2, .ref (am 0)), (3, .ref ao), (4, .int (nI i))] 3840 []) : G X k n [wX ax (bo 0) (tr 0) (ac 0) (ah 0) (at_ 0), wB E bo β, wB E tr τ, wC E ac γ, wH E ah bd η, wT E at_ θ, wB E (bd 2) (σ 2), wB E (bd 3) (σ 3), wB E (bd 4) (σ 4), wB E (bd 5) (σ 5), wB E (bd 6) (σ 6), wB E (bd 7) (σ 7), wB E (bd 8) (σ 8), wB E (bd 9) (σ 9), wM E am μ, wO E ao o] [(0, .ref b0), (1, .ref ax), (2, .ref (am 0)), (3, .ref ao), (4, .int (nI i))] 1594 [] := by
  obtain ⟨hvb, hvh, hvt, hvm, ha⟩ := hRv β η θ σ μ hR
  obtain ⟨a, ha9⟩ : ∃ a, xs (i + 1) = a := ⟨_, rfl⟩
  obtain ⟨hag, hR2⟩ := hs β τ γ η σ θ μ a hR
  rcases hag with ⟨hr, ht⟩ | ⟨hr, ht⟩
  · skip
    refine g_aload_n C dL_law_1594 rfl 1 rfl ?_
    refine g_aload_n C dL_law_1595 rfl 0 rfl ?_
    refine g_iload C dL_law_1596 4 rfl ?_
    refine g_iconst C (v := 1) dL_law_1598 (by decide) ?_
    refine g_iadd C dL_law_1599 ?_
    refine g_sldv C S (i + 1) (nx_add (rfl : nI i = nI i) (rfl : (1 : Int32) = nI 1)) (by omega) ha9 dL_law_1600 ?_
    refine g_callSW C hZ hNc (cs1 := [wX ax (bo 0) (tr 0) (ac 0) (ah 0) (at_ 0), wB E bo β, wB E tr τ, wC E ac γ, wH E ah bd ((fX6_keep β η σ a).2.1), wT E at_ θ, wB E (bd 2) ((fX6_keep β η σ a).2.2 2), wB E (bd 3) ((fX6_keep β η σ a).2.2 3), wB E (bd 4) ((fX6_keep β η σ a).2.2 4), wB E (bd 5) ((fX6_keep β η σ a).2.2 5), wB E (bd 6) ((fX6_keep β η σ a).2.2 6), wB E (bd 7) ((fX6_keep β η σ a).2.2 7), wB E (bd 8) ((fX6_keep β η σ a).2.2 8), wB E (bd 9) ((fX6_keep β η σ a).2.2 9), wM E am μ, wO E ao o]) (st1 := [.int 0]) [.ref ax, .int a] [0, 1, 2, 3, 4, 5, 6, 7, 8, 9, 10, 11, 12, 13] (kL_keep_r l E ax bo β tr τ ac γ ah bd η σ at_ θ hlt hvb hvh a hr) q5_31 q1_0 (by decide +kernel) q5_30 q5_29 rfl ⟨Nat.le_of_ble_eq_true rfl, Nat.le_of_ble_eq_true rfl⟩ ⟨hk, hn⟩ (by decide) rfl rfl rfl rfl (Nat.le_of_ble_eq_true rfl) dL_law_1601 rfl ?_
    refine g_istore C (lv1 := [(5, .int 0), (0, .ref b0), (1, .ref ax), (2, .ref (am 0)), (3, .ref ao), (4, .int (nI i))]) dL_law_1604 (by decide) rfl ?_
    refine g_aload_n C dL_law_1606 rfl 3 rfl ?_
    refine g_aload_n C dL_law_1607 rfl 1 rfl ?_
    refine g_iload C dL_law_1608 5 rfl ?_
    refine g_iconst C (v := 1) dL_law_1610 (by decide) ?_
    refine g_iadd C dL_law_1611 ?_
    refine g_sldv C S (i + 1) (nx_add (rfl : nI i = nI i) (rfl : (1 : Int32) = nI 1)) (by omega) ha9 dL_law_1612 ?_
    refine g_callV C (cs1 := [wX ax (bo 0) (tr 0) (ac 0) (ah 0) (at_ 0), wB E bo β, wB E tr τ, wC E ac γ, wH E ah bd ((fX6_keep β η σ a).2.1), wT E at_ θ, wB E (bd 2) ((fX6_keep β η σ a).2.2 2), wB E (bd 3) ((fX6_keep β η σ a).2.2 3), wB E (bd 4) ((fX6_keep β η σ a).2.2 4), wB E (bd 5) ((fX6_keep β η σ a).2.2 5), wB E (bd 6) ((fX6_keep β η σ a).2.2 6), wB E (bd 7) ((fX6_keep β η σ a).2.2 7), wB E (bd 8) ((fX6_keep β η σ a).2.2 8), wB E (bd 9) ((fX6_keep β η σ a).2.2 9), wM E am (fX7_keep μ a), wO E ao o]) (st1 := []) [.int a] [14] (kX7_keep l E am μ hvm a) caX7_keep q7_124 rfl ⟨Nat.le_of_ble_eq_true rfl, Nat.le_of_ble_eq_true rfl⟩ ⟨hk, hn⟩ 14 0 rfl rfl rfl rfl (by decide) rfl rfl rfl rfl (Nat.le_of_ble_eq_true rfl) dL_law_1613 rfl ?_
    refine g_aload_n C dL_law_1616 rfl 3 rfl ?_
    refine g_callV C (cs1 := [wX ax (bo 0) (tr 0) (ac 0) (ah 0) (at_ 0), wB E bo β, wB E tr τ, wC E ac γ, wH E ah bd ((fX6_keep β η σ a).2.1), wT E at_ θ, wB E (bd 2) ((fX6_keep β η σ a).2.2 2), wB E (bd 3) ((fX6_keep β η σ a).2.2 3), wB E (bd 4) ((fX6_keep β η σ a).2.2 4), wB E (bd 5) ((fX6_keep β η σ a).2.2 5), wB E (bd 6) ((fX6_keep β η σ a).2.2 6), wB E (bd 7) ((fX6_keep β η σ a).2.2 7), wB E (bd 8) ((fX6_keep β η σ a).2.2 8), wB E (bd 9) ((fX6_keep β η σ a).2.2 9), wM E am (fX7_keep μ a), wO E ao o]) (st1 := [.int (fX7_thrown (fX7_keep μ a))]) [] [14] (kX7_thrown l E am (fX7_keep μ a)) caX7_thrown q6_117 rfl ⟨Nat.le_of_ble_eq_true rfl, Nat.le_of_ble_eq_true rfl⟩ ⟨hk, hn⟩ 14 0 rfl rfl rfl rfl (by decide) rfl rfl rfl rfl (Nat.le_of_ble_eq_true rfl) dL_law_1617 rfl ?_
    refine g_iload C dL_law_1620 0 rfl ?_
    refine g_icmp_eq C 1627 dL_law_1622 (by decide) (fun _ => ?_) (fun c => absurd ht c)
    refine g_goto C 3840 dL_law_1627 (by decide) ?_
    exact g_sub [1, 2, 3, 4, 5] rfl (next β τ γ ((fX6_keep β η σ a).2.1) ((fX6_keep β η σ a).2.2) θ (fX7_keep μ a) o hR2)
  · skip
    refine g_aload_n C dL_law_1594 rfl 1 rfl ?_
    refine g_aload_n C dL_law_1595 rfl 0 rfl ?_
    refine g_iload C dL_law_1596 4 rfl ?_
    refine g_iconst C (v := 1) dL_law_1598 (by decide) ?_
    refine g_iadd C dL_law_1599 ?_
    refine g_sldv C S (i + 1) (nx_add (rfl : nI i = nI i) (rfl : (1 : Int32) = nI 1)) (by omega) ha9 dL_law_1600 ?_
    refine g_callSW C hZ hNc (cs1 := [wX ax (bo 0) (tr 0) (ac 0) (ah 0) (at_ 0), wB E bo β, wB E tr τ, wC E ac γ, wH E ah bd ((fX6_keep β η σ a).2.1), wT E at_ θ, wB E (bd 2) ((fX6_keep β η σ a).2.2 2), wB E (bd 3) ((fX6_keep β η σ a).2.2 3), wB E (bd 4) ((fX6_keep β η σ a).2.2 4), wB E (bd 5) ((fX6_keep β η σ a).2.2 5), wB E (bd 6) ((fX6_keep β η σ a).2.2 6), wB E (bd 7) ((fX6_keep β η σ a).2.2 7), wB E (bd 8) ((fX6_keep β η σ a).2.2 8), wB E (bd 9) ((fX6_keep β η σ a).2.2 9), wM E am μ, wO E ao o]) (st1 := [.int 1]) [.ref ax, .int a] [0, 1, 2, 3, 4, 5, 6, 7, 8, 9, 10, 11, 12, 13] (kL_keep_0 l E ax bo β tr τ ac γ ah bd η σ at_ θ hlt hvb hvh a hr) q5_31 q1_0 (by decide +kernel) q5_30 q5_29 rfl ⟨Nat.le_of_ble_eq_true rfl, Nat.le_of_ble_eq_true rfl⟩ ⟨hk, hn⟩ (by decide) rfl rfl rfl rfl (Nat.le_of_ble_eq_true rfl) dL_law_1601 rfl ?_
    refine g_istore C (lv1 := [(5, .int 1), (0, .ref b0), (1, .ref ax), (2, .ref (am 0)), (3, .ref ao), (4, .int (nI i))]) dL_law_1604 (by decide) rfl ?_
    refine g_aload_n C dL_law_1606 rfl 3 rfl ?_
    refine g_aload_n C dL_law_1607 rfl 1 rfl ?_
    refine g_iload C dL_law_1608 5 rfl ?_
    refine g_iconst C (v := 1) dL_law_1610 (by decide) ?_
    refine g_iadd C dL_law_1611 ?_
    refine g_sldv C S (i + 1) (nx_add (rfl : nI i = nI i) (rfl : (1 : Int32) = nI 1)) (by omega) ha9 dL_law_1612 ?_
    refine g_callV C (cs1 := [wX ax (bo 0) (tr 0) (ac 0) (ah 0) (at_ 0), wB E bo β, wB E tr τ, wC E ac γ, wH E ah bd ((fX6_keep β η σ a).2.1), wT E at_ θ, wB E (bd 2) ((fX6_keep β η σ a).2.2 2), wB E (bd 3) ((fX6_keep β η σ a).2.2 3), wB E (bd 4) ((fX6_keep β η σ a).2.2 4), wB E (bd 5) ((fX6_keep β η σ a).2.2 5), wB E (bd 6) ((fX6_keep β η σ a).2.2 6), wB E (bd 7) ((fX6_keep β η σ a).2.2 7), wB E (bd 8) ((fX6_keep β η σ a).2.2 8), wB E (bd 9) ((fX6_keep β η σ a).2.2 9), wM E am (fX7_keep μ a), wO E ao o]) (st1 := []) [.int a] [14] (kX7_keep l E am μ hvm a) caX7_keep q7_124 rfl ⟨Nat.le_of_ble_eq_true rfl, Nat.le_of_ble_eq_true rfl⟩ ⟨hk, hn⟩ 14 0 rfl rfl rfl rfl (by decide) rfl rfl rfl rfl (Nat.le_of_ble_eq_true rfl) dL_law_1613 rfl ?_
    refine g_aload_n C dL_law_1616 rfl 3 rfl ?_
    refine g_callV C (cs1 := [wX ax (bo 0) (tr 0) (ac 0) (ah 0) (at_ 0), wB E bo β, wB E tr τ, wC E ac γ, wH E ah bd ((fX6_keep β η σ a).2.1), wT E at_ θ, wB E (bd 2) ((fX6_keep β η σ a).2.2 2), wB E (bd 3) ((fX6_keep β η σ a).2.2 3), wB E (bd 4) ((fX6_keep β η σ a).2.2 4), wB E (bd 5) ((fX6_keep β η σ a).2.2 5), wB E (bd 6) ((fX6_keep β η σ a).2.2 6), wB E (bd 7) ((fX6_keep β η σ a).2.2 7), wB E (bd 8) ((fX6_keep β η σ a).2.2 8), wB E (bd 9) ((fX6_keep β η σ a).2.2 9), wM E am (fX7_keep μ a), wO E ao o]) (st1 := [.int (fX7_thrown (fX7_keep μ a))]) [] [14] (kX7_thrown l E am (fX7_keep μ a)) caX7_thrown q6_117 rfl ⟨Nat.le_of_ble_eq_true rfl, Nat.le_of_ble_eq_true rfl⟩ ⟨hk, hn⟩ 14 0 rfl rfl rfl rfl (by decide) rfl rfl rfl rfl (Nat.le_of_ble_eq_true rfl) dL_law_1617 rfl ?_
    refine g_iload C dL_law_1620 0 rfl ?_
    refine g_icmp_eq C 1627 dL_law_1622 (by decide) (fun _ => ?_) (fun c => absurd ht c)
    refine g_goto C 3840 dL_law_1627 (by decide) ?_
    exact g_sub [1, 2, 3, 4, 5] rfl (next β τ γ ((fX6_keep β η σ a).2.1) ((fX6_keep β η σ a).2.2) θ (fX7_keep μ a) o hR2)
set_option maxHeartbeats 4000000 in
set_option maxRecDepth 100000 in
theorem arm_24 {Rl : RlT} (hRv : RlV Rl) (hs : sH_goBack Rl)  {X : gX} {l : Launch} {E : gE} (C : gC X cL_law 9 RL (some .boolean) l E room_1) (hZ : gZ X.2.2.2.2.2.2.2.2.2.2.2.1 X.2.2.2.2.1 X.2.2.2.2.1.heap) (hNc : gNc X.2.2.2.2.1) {b0 L0 : Nat} {xs : Nat → Int32} (S : gS X b0 L0 xs) (hlt : l.stackTraces = false) {ax : Nat} {bo tr ac ah : Nat → Nat} {bd : Nat → Nat → Nat} {at_ am : Nat → Nat} {ao k n i : Nat} (hk : k + 3 ≤ 601024) (hn : n + 18 ≤ 7293034) (hi : i + 3 ≤ L0) {β τ γ η : BS} {σ : Nat → BS} {θ μ : BS} {o : Nat → Int64} (hR : Rl β η θ σ μ) (next : ∀ (β τ γ η : BS) (σ : Nat → BS) (θ μ : BS) (o : Nat → Int64), Rl β η θ σ μ → G X (k + 3) (n + 18) [wX ax (bo 0) (tr 0) (ac 0) (ah 0) (at_ 0), wB E bo β, wB E tr τ, wC E ac γ, wH E ah bd η, wT E at_ θ, wB E (bd 2) (σ 2), wB E (bd 3) (σ 3), wB E (bd 4) (σ 4), wB E (bd 5) (σ 5), wB E (bd 6) (σ 6), wB E (bd 7) (σ 7), wB E (bd 8) (σ 8), wB E (bd 9) (σ 9), wM E am μ, wO E ao o] [(0, .ref b0), (1, .ref ax), (2, .ref (am 0)), (3, .ref ao), (4, .int (nI i))] 3840 []) : G X k n [wX ax (bo 0) (tr 0) (ac 0) (ah 0) (at_ 0), wB E bo β, wB E tr τ, wC E ac γ, wH E ah bd η, wT E at_ θ, wB E (bd 2) (σ 2), wB E (bd 3) (σ 3), wB E (bd 4) (σ 4), wB E (bd 5) (σ 5), wB E (bd 6) (σ 6), wB E (bd 7) (σ 7), wB E (bd 8) (σ 8), wB E (bd 9) (σ 9), wM E am μ, wO E ao o] [(0, .ref b0), (1, .ref ax), (2, .ref (am 0)), (3, .ref ao), (4, .int (nI i))] 1630 [] := by
  obtain ⟨hvb, hvh, hvt, hvm, ha⟩ := hRv β η θ σ μ hR
  obtain ⟨a, ha9⟩ : ∃ a, xs (i + 1) = a := ⟨_, rfl⟩
  obtain ⟨hag, hR2⟩ := hs β τ γ η σ θ μ a hR
  rcases hag with ⟨hr, ht⟩ | ⟨hr, ht⟩ | ⟨hr, ht⟩
  · skip
    refine g_aload_n C dL_law_1630 rfl 1 rfl ?_
    refine g_aload_n C dL_law_1631 rfl 0 rfl ?_
    refine g_iload C dL_law_1632 4 rfl ?_
    refine g_iconst C (v := 1) dL_law_1634 (by decide) ?_
    refine g_iadd C dL_law_1635 ?_
    refine g_sldv C S (i + 1) (nx_add (rfl : nI i = nI i) (rfl : (1 : Int32) = nI 1)) (by omega) ha9 dL_law_1636 ?_
    refine g_callSW C hZ hNc (cs1 := [wX ax (bo 0) (tr 0) (ac 0) (ah 0) (at_ 0), wB E bo ((fX6_goBack β η σ a).2.1), wB E tr τ, wC E ac γ, wH E ah bd ((fX6_goBack β η σ a).2.2.1), wT E at_ θ, wB E (bd 2) ((fX6_goBack β η σ a).2.2.2 2), wB E (bd 3) ((fX6_goBack β η σ a).2.2.2 3), wB E (bd 4) ((fX6_goBack β η σ a).2.2.2 4), wB E (bd 5) ((fX6_goBack β η σ a).2.2.2 5), wB E (bd 6) ((fX6_goBack β η σ a).2.2.2 6), wB E (bd 7) ((fX6_goBack β η σ a).2.2.2 7), wB E (bd 8) ((fX6_goBack β η σ a).2.2.2 8), wB E (bd 9) ((fX6_goBack β η σ a).2.2.2 9), wM E am μ, wO E ao o]) (st1 := [.int 0]) [.ref ax, .int a] [0, 1, 2, 3, 4, 5, 6, 7, 8, 9, 10, 11, 12, 13] (kL_goBack_r l E ax bo β tr τ ac γ ah bd η σ at_ θ hlt hvb hvh a hr) q5_45 q1_0 (by decide +kernel) q5_44 q5_43 rfl ⟨Nat.le_of_ble_eq_true rfl, Nat.le_of_ble_eq_true rfl⟩ ⟨hk, hn⟩ (by decide) rfl rfl rfl rfl (Nat.le_of_ble_eq_true rfl) dL_law_1637 rfl ?_
    refine g_istore C (lv1 := [(5, .int 0), (0, .ref b0), (1, .ref ax), (2, .ref (am 0)), (3, .ref ao), (4, .int (nI i))]) dL_law_1640 (by decide) rfl ?_
    refine g_aload_n C dL_law_1642 rfl 3 rfl ?_
    refine g_aload_n C dL_law_1643 rfl 1 rfl ?_
    refine g_iload C dL_law_1644 5 rfl ?_
    refine g_iconst C (v := 1) dL_law_1646 (by decide) ?_
    refine g_iadd C dL_law_1647 ?_
    refine g_sldv C S (i + 1) (nx_add (rfl : nI i = nI i) (rfl : (1 : Int32) = nI 1)) (by omega) ha9 dL_law_1648 ?_
    refine g_callV C (cs1 := [wX ax (bo 0) (tr 0) (ac 0) (ah 0) (at_ 0), wB E bo ((fX6_goBack β η σ a).2.1), wB E tr τ, wC E ac γ, wH E ah bd ((fX6_goBack β η σ a).2.2.1), wT E at_ θ, wB E (bd 2) ((fX6_goBack β η σ a).2.2.2 2), wB E (bd 3) ((fX6_goBack β η σ a).2.2.2 3), wB E (bd 4) ((fX6_goBack β η σ a).2.2.2 4), wB E (bd 5) ((fX6_goBack β η σ a).2.2.2 5), wB E (bd 6) ((fX6_goBack β η σ a).2.2.2 6), wB E (bd 7) ((fX6_goBack β η σ a).2.2.2 7), wB E (bd 8) ((fX6_goBack β η σ a).2.2.2 8), wB E (bd 9) ((fX6_goBack β η σ a).2.2.2 9), wM E am (fX7_goBack μ a), wO E ao o]) (st1 := []) [.int a] [14] (kX7_goBack l E am μ hvm a) caX7_goBack q7_128 rfl ⟨Nat.le_of_ble_eq_true rfl, Nat.le_of_ble_eq_true rfl⟩ ⟨hk, hn⟩ 14 0 rfl rfl rfl rfl (by decide) rfl rfl rfl rfl (Nat.le_of_ble_eq_true rfl) dL_law_1649 rfl ?_
    refine g_aload_n C dL_law_1652 rfl 3 rfl ?_
    refine g_callV C (cs1 := [wX ax (bo 0) (tr 0) (ac 0) (ah 0) (at_ 0), wB E bo ((fX6_goBack β η σ a).2.1), wB E tr τ, wC E ac γ, wH E ah bd ((fX6_goBack β η σ a).2.2.1), wT E at_ θ, wB E (bd 2) ((fX6_goBack β η σ a).2.2.2 2), wB E (bd 3) ((fX6_goBack β η σ a).2.2.2 3), wB E (bd 4) ((fX6_goBack β η σ a).2.2.2 4), wB E (bd 5) ((fX6_goBack β η σ a).2.2.2 5), wB E (bd 6) ((fX6_goBack β η σ a).2.2.2 6), wB E (bd 7) ((fX6_goBack β η σ a).2.2.2 7), wB E (bd 8) ((fX6_goBack β η σ a).2.2.2 8), wB E (bd 9) ((fX6_goBack β η σ a).2.2.2 9), wM E am (fX7_goBack μ a), wO E ao o]) (st1 := [.int (fX7_thrown (fX7_goBack μ a))]) [] [14] (kX7_thrown l E am (fX7_goBack μ a)) caX7_thrown q6_117 rfl ⟨Nat.le_of_ble_eq_true rfl, Nat.le_of_ble_eq_true rfl⟩ ⟨hk, hn⟩ 14 0 rfl rfl rfl rfl (by decide) rfl rfl rfl rfl (Nat.le_of_ble_eq_true rfl) dL_law_1653 rfl ?_
    refine g_iload C dL_law_1656 0 rfl ?_
    refine g_icmp_eq C 1663 dL_law_1658 (by decide) (fun _ => ?_) (fun c => absurd ht c)
    refine g_goto C 3840 dL_law_1663 (by decide) ?_
    exact g_sub [1, 2, 3, 4, 5] rfl (next ((fX6_goBack β η σ a).2.1) τ γ ((fX6_goBack β η σ a).2.2.1) ((fX6_goBack β η σ a).2.2.2) θ (fX7_goBack μ a) o hR2)
  · skip
    refine g_aload_n C dL_law_1630 rfl 1 rfl ?_
    refine g_aload_n C dL_law_1631 rfl 0 rfl ?_
    refine g_iload C dL_law_1632 4 rfl ?_
    refine g_iconst C (v := 1) dL_law_1634 (by decide) ?_
    refine g_iadd C dL_law_1635 ?_
    refine g_sldv C S (i + 1) (nx_add (rfl : nI i = nI i) (rfl : (1 : Int32) = nI 1)) (by omega) ha9 dL_law_1636 ?_
    refine g_callSW C hZ hNc (cs1 := [wX ax (bo 0) (tr 0) (ac 0) (ah 0) (at_ 0), wB E bo ((fX6_goBack β η σ a).2.1), wB E tr τ, wC E ac γ, wH E ah bd ((fX6_goBack β η σ a).2.2.1), wT E at_ θ, wB E (bd 2) ((fX6_goBack β η σ a).2.2.2 2), wB E (bd 3) ((fX6_goBack β η σ a).2.2.2 3), wB E (bd 4) ((fX6_goBack β η σ a).2.2.2 4), wB E (bd 5) ((fX6_goBack β η σ a).2.2.2 5), wB E (bd 6) ((fX6_goBack β η σ a).2.2.2 6), wB E (bd 7) ((fX6_goBack β η σ a).2.2.2 7), wB E (bd 8) ((fX6_goBack β η σ a).2.2.2 8), wB E (bd 9) ((fX6_goBack β η σ a).2.2.2 9), wM E am μ, wO E ao o]) (st1 := [.int 1]) [.ref ax, .int a] [0, 1, 2, 3, 4, 5, 6, 7, 8, 9, 10, 11, 12, 13] (kL_goBack_0 l E ax bo β tr τ ac γ ah bd η σ at_ θ hlt hvb hvh a hr) q5_45 q1_0 (by decide +kernel) q5_44 q5_43 rfl ⟨Nat.le_of_ble_eq_true rfl, Nat.le_of_ble_eq_true rfl⟩ ⟨hk, hn⟩ (by decide) rfl rfl rfl rfl (Nat.le_of_ble_eq_true rfl) dL_law_1637 rfl ?_
    refine g_istore C (lv1 := [(5, .int 1), (0, .ref b0), (1, .ref ax), (2, .ref (am 0)), (3, .ref ao), (4, .int (nI i))]) dL_law_1640 (by decide) rfl ?_
    refine g_aload_n C dL_law_1642 rfl 3 rfl ?_
    refine g_aload_n C dL_law_1643 rfl 1 rfl ?_
    refine g_iload C dL_law_1644 5 rfl ?_
    refine g_iconst C (v := 1) dL_law_1646 (by decide) ?_
    refine g_iadd C dL_law_1647 ?_
    refine g_sldv C S (i + 1) (nx_add (rfl : nI i = nI i) (rfl : (1 : Int32) = nI 1)) (by omega) ha9 dL_law_1648 ?_
    refine g_callV C (cs1 := [wX ax (bo 0) (tr 0) (ac 0) (ah 0) (at_ 0), wB E bo ((fX6_goBack β η σ a).2.1), wB E tr τ, wC E ac γ, wH E ah bd ((fX6_goBack β η σ a).2.2.1), wT E at_ θ, wB E (bd 2) ((fX6_goBack β η σ a).2.2.2 2), wB E (bd 3) ((fX6_goBack β η σ a).2.2.2 3), wB E (bd 4) ((fX6_goBack β η σ a).2.2.2 4), wB E (bd 5) ((fX6_goBack β η σ a).2.2.2 5), wB E (bd 6) ((fX6_goBack β η σ a).2.2.2 6), wB E (bd 7) ((fX6_goBack β η σ a).2.2.2 7), wB E (bd 8) ((fX6_goBack β η σ a).2.2.2 8), wB E (bd 9) ((fX6_goBack β η σ a).2.2.2 9), wM E am (fX7_goBack μ a), wO E ao o]) (st1 := []) [.int a] [14] (kX7_goBack l E am μ hvm a) caX7_goBack q7_128 rfl ⟨Nat.le_of_ble_eq_true rfl, Nat.le_of_ble_eq_true rfl⟩ ⟨hk, hn⟩ 14 0 rfl rfl rfl rfl (by decide) rfl rfl rfl rfl (Nat.le_of_ble_eq_true rfl) dL_law_1649 rfl ?_
    refine g_aload_n C dL_law_1652 rfl 3 rfl ?_
    refine g_callV C (cs1 := [wX ax (bo 0) (tr 0) (ac 0) (ah 0) (at_ 0), wB E bo ((fX6_goBack β η σ a).2.1), wB E tr τ, wC E ac γ, wH E ah bd ((fX6_goBack β η σ a).2.2.1), wT E at_ θ, wB E (bd 2) ((fX6_goBack β η σ a).2.2.2 2), wB E (bd 3) ((fX6_goBack β η σ a).2.2.2 3), wB E (bd 4) ((fX6_goBack β η σ a).2.2.2 4), wB E (bd 5) ((fX6_goBack β η σ a).2.2.2 5), wB E (bd 6) ((fX6_goBack β η σ a).2.2.2 6), wB E (bd 7) ((fX6_goBack β η σ a).2.2.2 7), wB E (bd 8) ((fX6_goBack β η σ a).2.2.2 8), wB E (bd 9) ((fX6_goBack β η σ a).2.2.2 9), wM E am (fX7_goBack μ a), wO E ao o]) (st1 := [.int (fX7_thrown (fX7_goBack μ a))]) [] [14] (kX7_thrown l E am (fX7_goBack μ a)) caX7_thrown q6_117 rfl ⟨Nat.le_of_ble_eq_true rfl, Nat.le_of_ble_eq_true rfl⟩ ⟨hk, hn⟩ 14 0 rfl rfl rfl rfl (by decide) rfl rfl rfl rfl (Nat.le_of_ble_eq_true rfl) dL_law_1653 rfl ?_
    refine g_iload C dL_law_1656 0 rfl ?_
    refine g_icmp_eq C 1663 dL_law_1658 (by decide) (fun _ => ?_) (fun c => absurd ht c)
    refine g_goto C 3840 dL_law_1663 (by decide) ?_
    exact g_sub [1, 2, 3, 4, 5] rfl (next ((fX6_goBack β η σ a).2.1) τ γ ((fX6_goBack β η σ a).2.2.1) ((fX6_goBack β η σ a).2.2.2) θ (fX7_goBack μ a) o hR2)
  · skip
    refine g_aload_n C dL_law_1630 rfl 1 rfl ?_
    refine g_aload_n C dL_law_1631 rfl 0 rfl ?_
    refine g_iload C dL_law_1632 4 rfl ?_
    refine g_iconst C (v := 1) dL_law_1634 (by decide) ?_
    refine g_iadd C dL_law_1635 ?_
    refine g_sldv C S (i + 1) (nx_add (rfl : nI i = nI i) (rfl : (1 : Int32) = nI 1)) (by omega) ha9 dL_law_1636 ?_
    refine g_callSW C hZ hNc (cs1 := [wX ax (bo 0) (tr 0) (ac 0) (ah 0) (at_ 0), wB E bo ((fX6_goBack β η σ a).2.1), wB E tr τ, wC E ac γ, wH E ah bd ((fX6_goBack β η σ a).2.2.1), wT E at_ θ, wB E (bd 2) ((fX6_goBack β η σ a).2.2.2 2), wB E (bd 3) ((fX6_goBack β η σ a).2.2.2 3), wB E (bd 4) ((fX6_goBack β η σ a).2.2.2 4), wB E (bd 5) ((fX6_goBack β η σ a).2.2.2 5), wB E (bd 6) ((fX6_goBack β η σ a).2.2.2 6), wB E (bd 7) ((fX6_goBack β η σ a).2.2.2 7), wB E (bd 8) ((fX6_goBack β η σ a).2.2.2 8), wB E (bd 9) ((fX6_goBack β η σ a).2.2.2 9), wM E am μ, wO E ao o]) (st1 := [.int 2]) [.ref ax, .int a] [0, 1, 2, 3, 4, 5, 6, 7, 8, 9, 10, 11, 12, 13] (kL_goBack_1 l E ax bo β tr τ ac γ ah bd η σ at_ θ hlt hvb hvh a hr) q5_45 q1_0 (by decide +kernel) q5_44 q5_43 rfl ⟨Nat.le_of_ble_eq_true rfl, Nat.le_of_ble_eq_true rfl⟩ ⟨hk, hn⟩ (by decide) rfl rfl rfl rfl (Nat.le_of_ble_eq_true rfl) dL_law_1637 rfl ?_
    refine g_istore C (lv1 := [(5, .int 2), (0, .ref b0), (1, .ref ax), (2, .ref (am 0)), (3, .ref ao), (4, .int (nI i))]) dL_law_1640 (by decide) rfl ?_
    refine g_aload_n C dL_law_1642 rfl 3 rfl ?_
    refine g_aload_n C dL_law_1643 rfl 1 rfl ?_
    refine g_iload C dL_law_1644 5 rfl ?_
    refine g_iconst C (v := 1) dL_law_1646 (by decide) ?_
    refine g_iadd C dL_law_1647 ?_
    refine g_sldv C S (i + 1) (nx_add (rfl : nI i = nI i) (rfl : (1 : Int32) = nI 1)) (by omega) ha9 dL_law_1648 ?_
    refine g_callV C (cs1 := [wX ax (bo 0) (tr 0) (ac 0) (ah 0) (at_ 0), wB E bo ((fX6_goBack β η σ a).2.1), wB E tr τ, wC E ac γ, wH E ah bd ((fX6_goBack β η σ a).2.2.1), wT E at_ θ, wB E (bd 2) ((fX6_goBack β η σ a).2.2.2 2), wB E (bd 3) ((fX6_goBack β η σ a).2.2.2 3), wB E (bd 4) ((fX6_goBack β η σ a).2.2.2 4), wB E (bd 5) ((fX6_goBack β η σ a).2.2.2 5), wB E (bd 6) ((fX6_goBack β η σ a).2.2.2 6), wB E (bd 7) ((fX6_goBack β η σ a).2.2.2 7), wB E (bd 8) ((fX6_goBack β η σ a).2.2.2 8), wB E (bd 9) ((fX6_goBack β η σ a).2.2.2 9), wM E am (fX7_goBack μ a), wO E ao o]) (st1 := []) [.int a] [14] (kX7_goBack l E am μ hvm a) caX7_goBack q7_128 rfl ⟨Nat.le_of_ble_eq_true rfl, Nat.le_of_ble_eq_true rfl⟩ ⟨hk, hn⟩ 14 0 rfl rfl rfl rfl (by decide) rfl rfl rfl rfl (Nat.le_of_ble_eq_true rfl) dL_law_1649 rfl ?_
    refine g_aload_n C dL_law_1652 rfl 3 rfl ?_
    refine g_callV C (cs1 := [wX ax (bo 0) (tr 0) (ac 0) (ah 0) (at_ 0), wB E bo ((fX6_goBack β η σ a).2.1), wB E tr τ, wC E ac γ, wH E ah bd ((fX6_goBack β η σ a).2.2.1), wT E at_ θ, wB E (bd 2) ((fX6_goBack β η σ a).2.2.2 2), wB E (bd 3) ((fX6_goBack β η σ a).2.2.2 3), wB E (bd 4) ((fX6_goBack β η σ a).2.2.2 4), wB E (bd 5) ((fX6_goBack β η σ a).2.2.2 5), wB E (bd 6) ((fX6_goBack β η σ a).2.2.2 6), wB E (bd 7) ((fX6_goBack β η σ a).2.2.2 7), wB E (bd 8) ((fX6_goBack β η σ a).2.2.2 8), wB E (bd 9) ((fX6_goBack β η σ a).2.2.2 9), wM E am (fX7_goBack μ a), wO E ao o]) (st1 := [.int (fX7_thrown (fX7_goBack μ a))]) [] [14] (kX7_thrown l E am (fX7_goBack μ a)) caX7_thrown q6_117 rfl ⟨Nat.le_of_ble_eq_true rfl, Nat.le_of_ble_eq_true rfl⟩ ⟨hk, hn⟩ 14 0 rfl rfl rfl rfl (by decide) rfl rfl rfl rfl (Nat.le_of_ble_eq_true rfl) dL_law_1653 rfl ?_
    refine g_iload C dL_law_1656 0 rfl ?_
    refine g_icmp_eq C 1663 dL_law_1658 (by decide) (fun _ => ?_) (fun c => absurd ht c)
    refine g_goto C 3840 dL_law_1663 (by decide) ?_
    exact g_sub [1, 2, 3, 4, 5] rfl (next ((fX6_goBack β η σ a).2.1) τ γ ((fX6_goBack β η σ a).2.2.1) ((fX6_goBack β η σ a).2.2.2) θ (fX7_goBack μ a) o hR2)
set_option maxHeartbeats 4000000 in
set_option maxRecDepth 100000 in
theorem arm_25 {Rl : RlT} (hRv : RlV Rl) (hs : sH_undo Rl)  {X : gX} {l : Launch} {E : gE} (C : gC X cL_law 9 RL (some .boolean) l E room_1) (hZ : gZ X.2.2.2.2.2.2.2.2.2.2.2.1 X.2.2.2.2.1 X.2.2.2.2.1.heap) (hNc : gNc X.2.2.2.2.1) {b0 L0 : Nat} {xs : Nat → Int32} (S : gS X b0 L0 xs) (hlt : l.stackTraces = false) {ax : Nat} {bo tr ac ah : Nat → Nat} {bd : Nat → Nat → Nat} {at_ am : Nat → Nat} {ao k n i : Nat} (hk : k + 3 ≤ 601024) (hn : n + 18 ≤ 7293034) (hi : i + 3 ≤ L0) {β τ γ η : BS} {σ : Nat → BS} {θ μ : BS} {o : Nat → Int64} (hR : Rl β η θ σ μ) (next : ∀ (β τ γ η : BS) (σ : Nat → BS) (θ μ : BS) (o : Nat → Int64), Rl β η θ σ μ → G X (k + 3) (n + 18) [wX ax (bo 0) (tr 0) (ac 0) (ah 0) (at_ 0), wB E bo β, wB E tr τ, wC E ac γ, wH E ah bd η, wT E at_ θ, wB E (bd 2) (σ 2), wB E (bd 3) (σ 3), wB E (bd 4) (σ 4), wB E (bd 5) (σ 5), wB E (bd 6) (σ 6), wB E (bd 7) (σ 7), wB E (bd 8) (σ 8), wB E (bd 9) (σ 9), wM E am μ, wO E ao o] [(0, .ref b0), (1, .ref ax), (2, .ref (am 0)), (3, .ref ao), (4, .int (nI i))] 3840 []) : G X k n [wX ax (bo 0) (tr 0) (ac 0) (ah 0) (at_ 0), wB E bo β, wB E tr τ, wC E ac γ, wH E ah bd η, wT E at_ θ, wB E (bd 2) (σ 2), wB E (bd 3) (σ 3), wB E (bd 4) (σ 4), wB E (bd 5) (σ 5), wB E (bd 6) (σ 6), wB E (bd 7) (σ 7), wB E (bd 8) (σ 8), wB E (bd 9) (σ 9), wM E am μ, wO E ao o] [(0, .ref b0), (1, .ref ax), (2, .ref (am 0)), (3, .ref ao), (4, .int (nI i))] 1666 [] := by
  obtain ⟨hvb, hvh, hvt, hvm, ha⟩ := hRv β η θ σ μ hR
  obtain ⟨hag, hR2⟩ := hs β τ γ η σ θ μ hR
  rcases hag with ⟨hr, ht⟩ | ⟨hr, ht⟩
  · skip
    refine g_aload_n C dL_law_1666 rfl 1 rfl ?_
    refine g_callSW C hZ hNc (cs1 := [wX ax (bo 0) (tr 0) (ac 0) (ah 0) (at_ 0), wB E bo ((fX6_undo β η σ).2.1), wB E tr τ, wC E ac γ, wH E ah bd ((fX6_undo β η σ).2.2), wT E at_ θ, wB E (bd 2) (σ 2), wB E (bd 3) (σ 3), wB E (bd 4) (σ 4), wB E (bd 5) (σ 5), wB E (bd 6) (σ 6), wB E (bd 7) (σ 7), wB E (bd 8) (σ 8), wB E (bd 9) (σ 9), wM E am μ, wO E ao o]) (st1 := [.int 0]) [.ref ax] [0, 1, 2, 3, 4, 5, 6, 7, 8, 9, 10, 11, 12, 13] (kL_undo_r l E ax bo β tr τ ac γ ah bd η σ at_ θ hlt hvb hvh  hr) q5_56 q1_0 (by decide +kernel) q5_55 q5_54 rfl ⟨Nat.le_of_ble_eq_true rfl, Nat.le_of_ble_eq_true rfl⟩ ⟨hk, hn⟩ (by decide) rfl rfl rfl rfl (Nat.le_of_ble_eq_true rfl) dL_law_1667 rfl ?_
    refine g_istore C (lv1 := [(5, .int 0), (0, .ref b0), (1, .ref ax), (2, .ref (am 0)), (3, .ref ao), (4, .int (nI i))]) dL_law_1670 (by decide) rfl ?_
    refine g_aload_n C dL_law_1672 rfl 3 rfl ?_
    refine g_callV C (cs1 := [wX ax (bo 0) (tr 0) (ac 0) (ah 0) (at_ 0), wB E bo ((fX6_undo β η σ).2.1), wB E tr τ, wC E ac γ, wH E ah bd ((fX6_undo β η σ).2.2), wT E at_ θ, wB E (bd 2) (σ 2), wB E (bd 3) (σ 3), wB E (bd 4) (σ 4), wB E (bd 5) (σ 5), wB E (bd 6) (σ 6), wB E (bd 7) (σ 7), wB E (bd 8) (σ 8), wB E (bd 9) (σ 9), wM E am (fX7_undo μ), wO E ao o]) (st1 := []) [] [14] (kX7_undo l E am μ hvm ) caX7_undo q7_132 rfl ⟨Nat.le_of_ble_eq_true rfl, Nat.le_of_ble_eq_true rfl⟩ ⟨hk, hn⟩ 14 0 rfl rfl rfl rfl (by decide) rfl rfl rfl rfl (Nat.le_of_ble_eq_true rfl) dL_law_1673 rfl ?_
    refine g_aload_n C dL_law_1676 rfl 3 rfl ?_
    refine g_callV C (cs1 := [wX ax (bo 0) (tr 0) (ac 0) (ah 0) (at_ 0), wB E bo ((fX6_undo β η σ).2.1), wB E tr τ, wC E ac γ, wH E ah bd ((fX6_undo β η σ).2.2), wT E at_ θ, wB E (bd 2) (σ 2), wB E (bd 3) (σ 3), wB E (bd 4) (σ 4), wB E (bd 5) (σ 5), wB E (bd 6) (σ 6), wB E (bd 7) (σ 7), wB E (bd 8) (σ 8), wB E (bd 9) (σ 9), wM E am (fX7_undo μ), wO E ao o]) (st1 := [.int (fX7_thrown (fX7_undo μ))]) [] [14] (kX7_thrown l E am (fX7_undo μ)) caX7_thrown q6_117 rfl ⟨Nat.le_of_ble_eq_true rfl, Nat.le_of_ble_eq_true rfl⟩ ⟨hk, hn⟩ 14 0 rfl rfl rfl rfl (by decide) rfl rfl rfl rfl (Nat.le_of_ble_eq_true rfl) dL_law_1677 rfl ?_
    refine g_iload C dL_law_1680 0 rfl ?_
    refine g_icmp_eq C 1687 dL_law_1682 (by decide) (fun _ => ?_) (fun c => absurd ht c)
    refine g_goto C 3840 dL_law_1687 (by decide) ?_
    exact g_sub [1, 2, 3, 4, 5] rfl (next ((fX6_undo β η σ).2.1) τ γ ((fX6_undo β η σ).2.2) σ θ (fX7_undo μ) o hR2)
  · skip
    refine g_aload_n C dL_law_1666 rfl 1 rfl ?_
    refine g_callSW C hZ hNc (cs1 := [wX ax (bo 0) (tr 0) (ac 0) (ah 0) (at_ 0), wB E bo ((fX6_undo β η σ).2.1), wB E tr τ, wC E ac γ, wH E ah bd ((fX6_undo β η σ).2.2), wT E at_ θ, wB E (bd 2) (σ 2), wB E (bd 3) (σ 3), wB E (bd 4) (σ 4), wB E (bd 5) (σ 5), wB E (bd 6) (σ 6), wB E (bd 7) (σ 7), wB E (bd 8) (σ 8), wB E (bd 9) (σ 9), wM E am μ, wO E ao o]) (st1 := [.int 1]) [.ref ax] [0, 1, 2, 3, 4, 5, 6, 7, 8, 9, 10, 11, 12, 13] (kL_undo_0 l E ax bo β tr τ ac γ ah bd η σ at_ θ hlt hvb hvh  hr) q5_56 q1_0 (by decide +kernel) q5_55 q5_54 rfl ⟨Nat.le_of_ble_eq_true rfl, Nat.le_of_ble_eq_true rfl⟩ ⟨hk, hn⟩ (by decide) rfl rfl rfl rfl (Nat.le_of_ble_eq_true rfl) dL_law_1667 rfl ?_
    refine g_istore C (lv1 := [(5, .int 1), (0, .ref b0), (1, .ref ax), (2, .ref (am 0)), (3, .ref ao), (4, .int (nI i))]) dL_law_1670 (by decide) rfl ?_
    refine g_aload_n C dL_law_1672 rfl 3 rfl ?_
    refine g_callV C (cs1 := [wX ax (bo 0) (tr 0) (ac 0) (ah 0) (at_ 0), wB E bo ((fX6_undo β η σ).2.1), wB E tr τ, wC E ac γ, wH E ah bd ((fX6_undo β η σ).2.2), wT E at_ θ, wB E (bd 2) (σ 2), wB E (bd 3) (σ 3), wB E (bd 4) (σ 4), wB E (bd 5) (σ 5), wB E (bd 6) (σ 6), wB E (bd 7) (σ 7), wB E (bd 8) (σ 8), wB E (bd 9) (σ 9), wM E am (fX7_undo μ), wO E ao o]) (st1 := []) [] [14] (kX7_undo l E am μ hvm ) caX7_undo q7_132 rfl ⟨Nat.le_of_ble_eq_true rfl, Nat.le_of_ble_eq_true rfl⟩ ⟨hk, hn⟩ 14 0 rfl rfl rfl rfl (by decide) rfl rfl rfl rfl (Nat.le_of_ble_eq_true rfl) dL_law_1673 rfl ?_
    refine g_aload_n C dL_law_1676 rfl 3 rfl ?_
    refine g_callV C (cs1 := [wX ax (bo 0) (tr 0) (ac 0) (ah 0) (at_ 0), wB E bo ((fX6_undo β η σ).2.1), wB E tr τ, wC E ac γ, wH E ah bd ((fX6_undo β η σ).2.2), wT E at_ θ, wB E (bd 2) (σ 2), wB E (bd 3) (σ 3), wB E (bd 4) (σ 4), wB E (bd 5) (σ 5), wB E (bd 6) (σ 6), wB E (bd 7) (σ 7), wB E (bd 8) (σ 8), wB E (bd 9) (σ 9), wM E am (fX7_undo μ), wO E ao o]) (st1 := [.int (fX7_thrown (fX7_undo μ))]) [] [14] (kX7_thrown l E am (fX7_undo μ)) caX7_thrown q6_117 rfl ⟨Nat.le_of_ble_eq_true rfl, Nat.le_of_ble_eq_true rfl⟩ ⟨hk, hn⟩ 14 0 rfl rfl rfl rfl (by decide) rfl rfl rfl rfl (Nat.le_of_ble_eq_true rfl) dL_law_1677 rfl ?_
    refine g_iload C dL_law_1680 0 rfl ?_
    refine g_icmp_eq C 1687 dL_law_1682 (by decide) (fun _ => ?_) (fun c => absurd ht c)
    refine g_goto C 3840 dL_law_1687 (by decide) ?_
    exact g_sub [1, 2, 3, 4, 5] rfl (next ((fX6_undo β η σ).2.1) τ γ ((fX6_undo β η σ).2.2) σ θ (fX7_undo μ) o hR2)
set_option maxHeartbeats 4000000 in
set_option maxRecDepth 100000 in
theorem arm_26 {Rl : RlT} (hRv : RlV Rl) (hs : sH_savedStates Rl)  {X : gX} {l : Launch} {E : gE} (C : gC X cL_law 9 RL (some .boolean) l E room_1) (hZ : gZ X.2.2.2.2.2.2.2.2.2.2.2.1 X.2.2.2.2.1 X.2.2.2.2.1.heap) (hNc : gNc X.2.2.2.2.1) {b0 L0 : Nat} {xs : Nat → Int32} (S : gS X b0 L0 xs) (hlt : l.stackTraces = false) {ax : Nat} {bo tr ac ah : Nat → Nat} {bd : Nat → Nat → Nat} {at_ am : Nat → Nat} {ao k n i : Nat} (hk : k + 3 ≤ 601024) (hn : n + 18 ≤ 7293034) (hi : i + 3 ≤ L0) {β τ γ η : BS} {σ : Nat → BS} {θ μ : BS} {o : Nat → Int64} (hR : Rl β η θ σ μ) (next : ∀ (β τ γ η : BS) (σ : Nat → BS) (θ μ : BS) (o : Nat → Int64), Rl β η θ σ μ → G X (k + 3) (n + 18) [wX ax (bo 0) (tr 0) (ac 0) (ah 0) (at_ 0), wB E bo β, wB E tr τ, wC E ac γ, wH E ah bd η, wT E at_ θ, wB E (bd 2) (σ 2), wB E (bd 3) (σ 3), wB E (bd 4) (σ 4), wB E (bd 5) (σ 5), wB E (bd 6) (σ 6), wB E (bd 7) (σ 7), wB E (bd 8) (σ 8), wB E (bd 9) (σ 9), wM E am μ, wO E ao o] [(0, .ref b0), (1, .ref ax), (2, .ref (am 0)), (3, .ref ao), (4, .int (nI i))] 3840 []) : G X k n [wX ax (bo 0) (tr 0) (ac 0) (ah 0) (at_ 0), wB E bo β, wB E tr τ, wC E ac γ, wH E ah bd η, wT E at_ θ, wB E (bd 2) (σ 2), wB E (bd 3) (σ 3), wB E (bd 4) (σ 4), wB E (bd 5) (σ 5), wB E (bd 6) (σ 6), wB E (bd 7) (σ 7), wB E (bd 8) (σ 8), wB E (bd 9) (σ 9), wM E am μ, wO E ao o] [(0, .ref b0), (1, .ref ax), (2, .ref (am 0)), (3, .ref ao), (4, .int (nI i))] 1690 [] := by
  obtain ⟨hvb, hvh, hvt, hvm, ha⟩ := hRv β η θ σ μ hR
  obtain ⟨hr, hR2⟩ := hs β τ γ η σ θ μ hR
  refine g_aload_n C dL_law_1690 rfl 1 rfl ?_
  refine g_callV C (cs1 := [wX ax (bo 0) (tr 0) (ac 0) (ah 0) (at_ 0), wB E bo β, wB E tr τ, wC E ac γ, wH E ah bd η, wT E at_ θ, wB E (bd 2) (σ 2), wB E (bd 3) (σ 3), wB E (bd 4) (σ 4), wB E (bd 5) (σ 5), wB E (bd 6) (σ 6), wB E (bd 7) (σ 7), wB E (bd 8) (σ 8), wB E (bd 9) (σ 9), wM E am μ, wO E ao o]) (st1 := [.int (fX6_savedStates η)]) [] [0, 1, 2, 3, 4, 5, 6, 7, 8, 9, 10, 11, 12, 13] (kX6_savedStates l E ax bo β tr τ ac γ ah bd η σ at_ θ ) caX6_savedStates q2_20 rfl ⟨Nat.le_of_ble_eq_true rfl, Nat.le_of_ble_eq_true rfl⟩ ⟨Nat.le_of_succ_le (Nat.le_of_succ_le (Nat.le_of_succ_le hk)), Nat.le_trans (Nat.le_add_right _ _) hn⟩ 0 0 rfl rfl rfl rfl (by decide) rfl rfl rfl rfl (Nat.le_of_ble_eq_true rfl) dL_law_1691 rfl ?_
  refine g_aload_n C dL_law_1694 rfl 2 rfl ?_
  refine g_callV C (cs1 := [wX ax (bo 0) (tr 0) (ac 0) (ah 0) (at_ 0), wB E bo β, wB E tr τ, wC E ac γ, wH E ah bd η, wT E at_ θ, wB E (bd 2) (σ 2), wB E (bd 3) (σ 3), wB E (bd 4) (σ 4), wB E (bd 5) (σ 5), wB E (bd 6) (σ 6), wB E (bd 7) (σ 7), wB E (bd 8) (σ 8), wB E (bd 9) (σ 9), wM E am ((fX7_savedStates μ).2), wO E ao o]) (st1 := [.int ((fX7_savedStates μ).1), .int (fX6_savedStates η)]) [] [14] (kX7_savedStates l E am μ  ) caX7_savedStates q7_136 rfl ⟨Nat.le_of_ble_eq_true rfl, Nat.le_of_ble_eq_true rfl⟩ ⟨Nat.le_of_succ_le (Nat.le_of_succ_le (Nat.le_of_succ_le hk)), Nat.le_trans (Nat.le_add_right _ _) hn⟩ 14 0 rfl rfl rfl rfl (by decide) rfl rfl rfl rfl (Nat.le_of_ble_eq_true rfl) dL_law_1695 rfl ?_
  refine g_icmp_eq C 3840 dL_law_1698 (by decide) (fun _ => ?_) (fun c => absurd hr c)
  refine g_widen (k1 := k + 3) (n1 := n + 18) (Nat.le_add_right _ _) (Nat.le_add_right _ _) ?_
  exact g_sub [0, 1, 2, 3, 4] rfl (next β τ γ η σ θ ((fX7_savedStates μ).2) o hR2)
set_option maxHeartbeats 4000000 in
set_option maxRecDepth 100000 in
theorem arm_27 {Rl : RlT} (hRv : RlV Rl) (hs : sH_tickets Rl)  {X : gX} {l : Launch} {E : gE} (C : gC X cL_law 9 RL (some .boolean) l E room_1) (hZ : gZ X.2.2.2.2.2.2.2.2.2.2.2.1 X.2.2.2.2.1 X.2.2.2.2.1.heap) (hNc : gNc X.2.2.2.2.1) {b0 L0 : Nat} {xs : Nat → Int32} (S : gS X b0 L0 xs) (hlt : l.stackTraces = false) {ax : Nat} {bo tr ac ah : Nat → Nat} {bd : Nat → Nat → Nat} {at_ am : Nat → Nat} {ao k n i : Nat} (hk : k + 3 ≤ 601024) (hn : n + 18 ≤ 7293034) (hi : i + 3 ≤ L0) {β τ γ η : BS} {σ : Nat → BS} {θ μ : BS} {o : Nat → Int64} (hR : Rl β η θ σ μ) (next : ∀ (β τ γ η : BS) (σ : Nat → BS) (θ μ : BS) (o : Nat → Int64), Rl β η θ σ μ → G X (k + 3) (n + 18) [wX ax (bo 0) (tr 0) (ac 0) (ah 0) (at_ 0), wB E bo β, wB E tr τ, wC E ac γ, wH E ah bd η, wT E at_ θ, wB E (bd 2) (σ 2), wB E (bd 3) (σ 3), wB E (bd 4) (σ 4), wB E (bd 5) (σ 5), wB E (bd 6) (σ 6), wB E (bd 7) (σ 7), wB E (bd 8) (σ 8), wB E (bd 9) (σ 9), wM E am μ, wO E ao o] [(0, .ref b0), (1, .ref ax), (2, .ref (am 0)), (3, .ref ao), (4, .int (nI i))] 3840 []) : G X k n [wX ax (bo 0) (tr 0) (ac 0) (ah 0) (at_ 0), wB E bo β, wB E tr τ, wC E ac γ, wH E ah bd η, wT E at_ θ, wB E (bd 2) (σ 2), wB E (bd 3) (σ 3), wB E (bd 4) (σ 4), wB E (bd 5) (σ 5), wB E (bd 6) (σ 6), wB E (bd 7) (σ 7), wB E (bd 8) (σ 8), wB E (bd 9) (σ 9), wM E am μ, wO E ao o] [(0, .ref b0), (1, .ref ax), (2, .ref (am 0)), (3, .ref ao), (4, .int (nI i))] 1703 [] := by
  obtain ⟨hvb, hvh, hvt, hvm, ha⟩ := hRv β η θ σ μ hR
  obtain ⟨hr, hR2⟩ := hs β τ γ η σ θ μ hR
  refine g_aload_n C dL_law_1703 rfl 1 rfl ?_
  refine g_callV C (cs1 := [wX ax (bo 0) (tr 0) (ac 0) (ah 0) (at_ 0), wB E bo β, wB E tr τ, wC E ac γ, wH E ah bd η, wT E at_ θ, wB E (bd 2) (σ 2), wB E (bd 3) (σ 3), wB E (bd 4) (σ 4), wB E (bd 5) (σ 5), wB E (bd 6) (σ 6), wB E (bd 7) (σ 7), wB E (bd 8) (σ 8), wB E (bd 9) (σ 9), wM E am μ, wO E ao o]) (st1 := [.int (fX6_tickets β)]) [] [0, 1, 2, 3, 4, 5, 6, 7, 8, 9, 10, 11, 12, 13] (kX6_tickets l E ax bo β tr τ ac γ ah bd η σ at_ θ ) caX6_tickets q2_28 rfl ⟨Nat.le_of_ble_eq_true rfl, Nat.le_of_ble_eq_true rfl⟩ ⟨Nat.le_of_succ_le (Nat.le_of_succ_le (Nat.le_of_succ_le hk)), Nat.le_trans (Nat.le_add_right _ _) hn⟩ 0 0 rfl rfl rfl rfl (by decide) rfl rfl rfl rfl (Nat.le_of_ble_eq_true rfl) dL_law_1704 rfl ?_
  refine g_aload_n C dL_law_1707 rfl 2 rfl ?_
  refine g_callV C (cs1 := [wX ax (bo 0) (tr 0) (ac 0) (ah 0) (at_ 0), wB E bo β, wB E tr τ, wC E ac γ, wH E ah bd η, wT E at_ θ, wB E (bd 2) (σ 2), wB E (bd 3) (σ 3), wB E (bd 4) (σ 4), wB E (bd 5) (σ 5), wB E (bd 6) (σ 6), wB E (bd 7) (σ 7), wB E (bd 8) (σ 8), wB E (bd 9) (σ 9), wM E am ((fX7_tickets μ).2), wO E ao o]) (st1 := [.int ((fX7_tickets μ).1), .int (fX6_tickets β)]) [] [14] (kX7_tickets l E am μ  ) caX7_tickets q7_140 rfl ⟨Nat.le_of_ble_eq_true rfl, Nat.le_of_ble_eq_true rfl⟩ ⟨Nat.le_of_succ_le (Nat.le_of_succ_le (Nat.le_of_succ_le hk)), Nat.le_trans (Nat.le_add_right _ _) hn⟩ 14 0 rfl rfl rfl rfl (by decide) rfl rfl rfl rfl (Nat.le_of_ble_eq_true rfl) dL_law_1708 rfl ?_
  refine g_icmp_eq C 3840 dL_law_1711 (by decide) (fun _ => ?_) (fun c => absurd hr c)
  refine g_widen (k1 := k + 3) (n1 := n + 18) (Nat.le_add_right _ _) (Nat.le_add_right _ _) ?_
  exact g_sub [0, 1, 2, 3, 4] rfl (next β τ γ η σ θ ((fX7_tickets μ).2) o hR2)
set_option maxHeartbeats 4000000 in
set_option maxRecDepth 100000 in
theorem arm_28 {Rl : RlT} (hRv : RlV Rl) (hs : sH_stateOf Rl)  {X : gX} {l : Launch} {E : gE} (C : gC X cL_law 9 RL (some .boolean) l E room_1) (hZ : gZ X.2.2.2.2.2.2.2.2.2.2.2.1 X.2.2.2.2.1 X.2.2.2.2.1.heap) (hNc : gNc X.2.2.2.2.1) {b0 L0 : Nat} {xs : Nat → Int32} (S : gS X b0 L0 xs) (hlt : l.stackTraces = false) {ax : Nat} {bo tr ac ah : Nat → Nat} {bd : Nat → Nat → Nat} {at_ am : Nat → Nat} {ao k n i : Nat} (hk : k + 3 ≤ 601024) (hn : n + 18 ≤ 7293034) (hi : i + 3 ≤ L0) {β τ γ η : BS} {σ : Nat → BS} {θ μ : BS} {o : Nat → Int64} (hR : Rl β η θ σ μ) (next : ∀ (β τ γ η : BS) (σ : Nat → BS) (θ μ : BS) (o : Nat → Int64), Rl β η θ σ μ → G X (k + 3) (n + 18) [wX ax (bo 0) (tr 0) (ac 0) (ah 0) (at_ 0), wB E bo β, wB E tr τ, wC E ac γ, wH E ah bd η, wT E at_ θ, wB E (bd 2) (σ 2), wB E (bd 3) (σ 3), wB E (bd 4) (σ 4), wB E (bd 5) (σ 5), wB E (bd 6) (σ 6), wB E (bd 7) (σ 7), wB E (bd 8) (σ 8), wB E (bd 9) (σ 9), wM E am μ, wO E ao o] [(0, .ref b0), (1, .ref ax), (2, .ref (am 0)), (3, .ref ao), (4, .int (nI i))] 3840 []) : G X k n [wX ax (bo 0) (tr 0) (ac 0) (ah 0) (at_ 0), wB E bo β, wB E tr τ, wC E ac γ, wH E ah bd η, wT E at_ θ, wB E (bd 2) (σ 2), wB E (bd 3) (σ 3), wB E (bd 4) (σ 4), wB E (bd 5) (σ 5), wB E (bd 6) (σ 6), wB E (bd 7) (σ 7), wB E (bd 8) (σ 8), wB E (bd 9) (σ 9), wM E am μ, wO E ao o] [(0, .ref b0), (1, .ref ax), (2, .ref (am 0)), (3, .ref ao), (4, .int (nI i))] 1716 [] := by
  obtain ⟨hvb, hvh, hvt, hvm, ha⟩ := hRv β η θ σ μ hR
  obtain ⟨a, ha9⟩ : ∃ a, xs (i + 1) = a := ⟨_, rfl⟩
  obtain ⟨hag, hR2⟩ := hs β τ γ η σ θ μ a hR
  rcases hag with ⟨hr, ht⟩ | ⟨hr, ht⟩
  · skip
    refine g_aload_n C dL_law_1716 rfl 1 rfl ?_
    refine g_aload_n C dL_law_1717 rfl 0 rfl ?_
    refine g_iload C dL_law_1718 4 rfl ?_
    refine g_iconst C (v := 1) dL_law_1720 (by decide) ?_
    refine g_iadd C dL_law_1721 ?_
    refine g_sldv C S (i + 1) (nx_add (rfl : nI i = nI i) (rfl : (1 : Int32) = nI 1)) (by omega) ha9 dL_law_1722 ?_
    refine g_aload_n C dL_law_1723 rfl 3 rfl ?_
    refine g_callSW C hZ hNc (cs1 := [wX ax (bo 0) (tr 0) (ac 0) (ah 0) (at_ 0), wB E bo β, wB E tr τ, wC E ac γ, wH E ah bd η, wT E at_ θ, wB E (bd 2) (σ 2), wB E (bd 3) (σ 3), wB E (bd 4) (σ 4), wB E (bd 5) (σ 5), wB E (bd 6) (σ 6), wB E (bd 7) (σ 7), wB E (bd 8) (σ 8), wB E (bd 9) (σ 9), wM E am μ, wO E ao (vp_updL o 0 v.toInt64)]) (st1 := [.int 0]) [.ref ax, .int a, .ref ao] [0, 1, 2, 3, 4, 5, 6, 7, 8, 9, 10, 11, 12, 13, 15] (kL_stateOf_r l E ax bo β tr τ ac γ ah bd η σ at_ θ ao o hlt hvb a ((fX7_stateOf μ a).1) hr) q5_67 q1_0 (by decide +kernel) q5_66 q5_65 rfl ⟨Nat.le_of_ble_eq_true rfl, Nat.le_of_ble_eq_true rfl⟩ ⟨hk, hn⟩ (by decide) rfl rfl rfl rfl (Nat.le_of_ble_eq_true rfl) dL_law_1724 rfl ?_
    refine g_istore C (lv1 := [(5, .int 0), (0, .ref b0), (1, .ref ax), (2, .ref (am 0)), (3, .ref ao), (4, .int (nI i))]) dL_law_1727 (by decide) rfl ?_
    refine g_aload_n C dL_law_1729 rfl 3 rfl ?_
    refine g_aload_n C dL_law_1730 rfl 1 rfl ?_
    refine g_iload C dL_law_1731 5 rfl ?_
    refine g_iconst C (v := 1) dL_law_1733 (by decide) ?_
    refine g_iadd C dL_law_1734 ?_
    refine g_sldv C S (i + 1) (nx_add (rfl : nI i = nI i) (rfl : (1 : Int32) = nI 1)) (by omega) ha9 dL_law_1735 ?_
    refine g_callV C (cs1 := [wX ax (bo 0) (tr 0) (ac 0) (ah 0) (at_ 0), wB E bo β, wB E tr τ, wC E ac γ, wH E ah bd η, wT E at_ θ, wB E (bd 2) (σ 2), wB E (bd 3) (σ 3), wB E (bd 4) (σ 4), wB E (bd 5) (σ 5), wB E (bd 6) (σ 6), wB E (bd 7) (σ 7), wB E (bd 8) (σ 8), wB E (bd 9) (σ 9), wM E am ((fX7_stateOf μ a).2), wO E ao (vp_updL o 0 v.toInt64)]) (st1 := [.int ((fX7_stateOf μ a).1)]) [.int a] [14] (kX7_stateOf l E am μ hvm a) caX7_stateOf q7_144 rfl ⟨Nat.le_of_ble_eq_true rfl, Nat.le_of_ble_eq_true rfl⟩ ⟨hk, hn⟩ 14 0 rfl rfl rfl rfl (by decide) rfl rfl rfl rfl (Nat.le_of_ble_eq_true rfl) dL_law_1736 rfl ?_
    refine g_istore C (lv1 := [(6, .int ((fX7_stateOf μ a).1)), (5, .int 0), (0, .ref b0), (1, .ref ax), (2, .ref (am 0)), (3, .ref ao), (4, .int (nI i))]) dL_law_1739 (by decide) rfl ?_
    refine g_aload_n C dL_law_1741 rfl 4 rfl ?_
    refine g_callV C (cs1 := [wX ax (bo 0) (tr 0) (ac 0) (ah 0) (at_ 0), wB E bo β, wB E tr τ, wC E ac γ, wH E ah bd η, wT E at_ θ, wB E (bd 2) (σ 2), wB E (bd 3) (σ 3), wB E (bd 4) (σ 4), wB E (bd 5) (σ 5), wB E (bd 6) (σ 6), wB E (bd 7) (σ 7), wB E (bd 8) (σ 8), wB E (bd 9) (σ 9), wM E am ((fX7_stateOf μ a).2), wO E ao (vp_updL o 0 v.toInt64)]) (st1 := [.int (fX7_thrown ((fX7_stateOf μ a).2))]) [] [14] (kX7_thrown l E am ((fX7_stateOf μ a).2)) caX7_thrown q6_117 rfl ⟨Nat.le_of_ble_eq_true rfl, Nat.le_of_ble_eq_true rfl⟩ ⟨hk, hn⟩ 14 0 rfl rfl rfl rfl (by decide) rfl rfl rfl rfl (Nat.le_of_ble_eq_true rfl) dL_law_1742 rfl ?_
    refine g_iload C dL_law_1745 1 rfl ?_
    refine g_icmp_eq C 1752 dL_law_1747 (by decide) (fun _ => ?_) (fun c => absurd ht c)
    refine g_iload C dL_law_1752 1 rfl ?_
    refine g_if_ne C 1769 dL_law_1754 (by decide) (fun c => absurd rfl c) (fun _ => ?_)
    refine g_aload_n C dL_law_1757 rfl 5 rfl ?_
    refine g_iconst C (v := 0) dL_law_1758 (by decide) ?_
    refine g_laldn C 15 0 0 rfl rfl rfl (by decide) (by decide) dL_law_1759 ?_
    refine g_iload C dL_law_1760 0 rfl ?_
    refine g_i2l C dL_law_1762 ?_
    refine g_lcmp C dL_law_1763 ?_
    refine g_if_eq C 1769 dL_law_1764 (by decide) (fun _ => ?_) (fun c => absurd law_cmp c)
    refine g_goto C 3840 dL_law_1769 (by decide) ?_
    exact g_sub [2, 3, 4, 5, 6] rfl (next β τ γ η σ θ ((fX7_stateOf μ a).2) (vp_updL o 0 v.toInt64) hR2)
  · skip
    refine g_aload_n C dL_law_1716 rfl 1 rfl ?_
    refine g_aload_n C dL_law_1717 rfl 0 rfl ?_
    refine g_iload C dL_law_1718 4 rfl ?_
    refine g_iconst C (v := 1) dL_law_1720 (by decide) ?_
    refine g_iadd C dL_law_1721 ?_
    refine g_sldv C S (i + 1) (nx_add (rfl : nI i = nI i) (rfl : (1 : Int32) = nI 1)) (by omega) ha9 dL_law_1722 ?_
    refine g_aload_n C dL_law_1723 rfl 3 rfl ?_
    refine g_callSW C hZ hNc (cs1 := [wX ax (bo 0) (tr 0) (ac 0) (ah 0) (at_ 0), wB E bo β, wB E tr τ, wC E ac γ, wH E ah bd η, wT E at_ θ, wB E (bd 2) (σ 2), wB E (bd 3) (σ 3), wB E (bd 4) (σ 4), wB E (bd 5) (σ 5), wB E (bd 6) (σ 6), wB E (bd 7) (σ 7), wB E (bd 8) (σ 8), wB E (bd 9) (σ 9), wM E am μ, wO E ao o]) (st1 := [.int 1]) [.ref ax, .int a, .ref ao] [0, 1, 2, 3, 4, 5, 6, 7, 8, 9, 10, 11, 12, 13, 15] (kL_stateOf_0 l E ax bo β tr τ ac γ ah bd η σ at_ θ ao o hlt hvb a hr) q5_67 q1_0 (by decide +kernel) q5_66 q5_65 rfl ⟨Nat.le_of_ble_eq_true rfl, Nat.le_of_ble_eq_true rfl⟩ ⟨hk, hn⟩ (by decide) rfl rfl rfl rfl (Nat.le_of_ble_eq_true rfl) dL_law_1724 rfl ?_
    refine g_istore C (lv1 := [(5, .int 1), (0, .ref b0), (1, .ref ax), (2, .ref (am 0)), (3, .ref ao), (4, .int (nI i))]) dL_law_1727 (by decide) rfl ?_
    refine g_aload_n C dL_law_1729 rfl 3 rfl ?_
    refine g_aload_n C dL_law_1730 rfl 1 rfl ?_
    refine g_iload C dL_law_1731 5 rfl ?_
    refine g_iconst C (v := 1) dL_law_1733 (by decide) ?_
    refine g_iadd C dL_law_1734 ?_
    refine g_sldv C S (i + 1) (nx_add (rfl : nI i = nI i) (rfl : (1 : Int32) = nI 1)) (by omega) ha9 dL_law_1735 ?_
    refine g_callV C (cs1 := [wX ax (bo 0) (tr 0) (ac 0) (ah 0) (at_ 0), wB E bo β, wB E tr τ, wC E ac γ, wH E ah bd η, wT E at_ θ, wB E (bd 2) (σ 2), wB E (bd 3) (σ 3), wB E (bd 4) (σ 4), wB E (bd 5) (σ 5), wB E (bd 6) (σ 6), wB E (bd 7) (σ 7), wB E (bd 8) (σ 8), wB E (bd 9) (σ 9), wM E am ((fX7_stateOf μ a).2), wO E ao o]) (st1 := [.int ((fX7_stateOf μ a).1)]) [.int a] [14] (kX7_stateOf l E am μ hvm a) caX7_stateOf q7_144 rfl ⟨Nat.le_of_ble_eq_true rfl, Nat.le_of_ble_eq_true rfl⟩ ⟨hk, hn⟩ 14 0 rfl rfl rfl rfl (by decide) rfl rfl rfl rfl (Nat.le_of_ble_eq_true rfl) dL_law_1736 rfl ?_
    refine g_istore C (lv1 := [(6, .int ((fX7_stateOf μ a).1)), (5, .int 1), (0, .ref b0), (1, .ref ax), (2, .ref (am 0)), (3, .ref ao), (4, .int (nI i))]) dL_law_1739 (by decide) rfl ?_
    refine g_aload_n C dL_law_1741 rfl 4 rfl ?_
    refine g_callV C (cs1 := [wX ax (bo 0) (tr 0) (ac 0) (ah 0) (at_ 0), wB E bo β, wB E tr τ, wC E ac γ, wH E ah bd η, wT E at_ θ, wB E (bd 2) (σ 2), wB E (bd 3) (σ 3), wB E (bd 4) (σ 4), wB E (bd 5) (σ 5), wB E (bd 6) (σ 6), wB E (bd 7) (σ 7), wB E (bd 8) (σ 8), wB E (bd 9) (σ 9), wM E am ((fX7_stateOf μ a).2), wO E ao o]) (st1 := [.int (fX7_thrown ((fX7_stateOf μ a).2))]) [] [14] (kX7_thrown l E am ((fX7_stateOf μ a).2)) caX7_thrown q6_117 rfl ⟨Nat.le_of_ble_eq_true rfl, Nat.le_of_ble_eq_true rfl⟩ ⟨hk, hn⟩ 14 0 rfl rfl rfl rfl (by decide) rfl rfl rfl rfl (Nat.le_of_ble_eq_true rfl) dL_law_1742 rfl ?_
    refine g_iload C dL_law_1745 1 rfl ?_
    refine g_icmp_eq C 1752 dL_law_1747 (by decide) (fun _ => ?_) (fun c => absurd ht c)
    refine g_iload C dL_law_1752 1 rfl ?_
    refine g_if_ne C 1769 dL_law_1754 (by decide) (fun _ => ?_) (fun c => absurd c (by decide))
    refine g_goto C 3840 dL_law_1769 (by decide) ?_
    exact g_sub [2, 3, 4, 5, 6] rfl (next β τ γ η σ θ ((fX7_stateOf μ a).2) o hR2)
set_option maxHeartbeats 4000000 in
set_option maxRecDepth 100000 in
theorem arm_29 {Rl : RlT} (hRv : RlV Rl) (hs : sH_pointsOf Rl)  {X : gX} {l : Launch} {E : gE} (C : gC X cL_law 9 RL (some .boolean) l E room_1) (hZ : gZ X.2.2.2.2.2.2.2.2.2.2.2.1 X.2.2.2.2.1 X.2.2.2.2.1.heap) (hNc : gNc X.2.2.2.2.1) {b0 L0 : Nat} {xs : Nat → Int32} (S : gS X b0 L0 xs) (hlt : l.stackTraces = false) {ax : Nat} {bo tr ac ah : Nat → Nat} {bd : Nat → Nat → Nat} {at_ am : Nat → Nat} {ao k n i : Nat} (hk : k + 3 ≤ 601024) (hn : n + 18 ≤ 7293034) (hi : i + 3 ≤ L0) {β τ γ η : BS} {σ : Nat → BS} {θ μ : BS} {o : Nat → Int64} (hR : Rl β η θ σ μ) (next : ∀ (β τ γ η : BS) (σ : Nat → BS) (θ μ : BS) (o : Nat → Int64), Rl β η θ σ μ → G X (k + 3) (n + 18) [wX ax (bo 0) (tr 0) (ac 0) (ah 0) (at_ 0), wB E bo β, wB E tr τ, wC E ac γ, wH E ah bd η, wT E at_ θ, wB E (bd 2) (σ 2), wB E (bd 3) (σ 3), wB E (bd 4) (σ 4), wB E (bd 5) (σ 5), wB E (bd 6) (σ 6), wB E (bd 7) (σ 7), wB E (bd 8) (σ 8), wB E (bd 9) (σ 9), wM E am μ, wO E ao o] [(0, .ref b0), (1, .ref ax), (2, .ref (am 0)), (3, .ref ao), (4, .int (nI i))] 3840 []) : G X k n [wX ax (bo 0) (tr 0) (ac 0) (ah 0) (at_ 0), wB E bo β, wB E tr τ, wC E ac γ, wH E ah bd η, wT E at_ θ, wB E (bd 2) (σ 2), wB E (bd 3) (σ 3), wB E (bd 4) (σ 4), wB E (bd 5) (σ 5), wB E (bd 6) (σ 6), wB E (bd 7) (σ 7), wB E (bd 8) (σ 8), wB E (bd 9) (σ 9), wM E am μ, wO E ao o] [(0, .ref b0), (1, .ref ax), (2, .ref (am 0)), (3, .ref ao), (4, .int (nI i))] 1772 [] := by
  obtain ⟨hvb, hvh, hvt, hvm, ha⟩ := hRv β η θ σ μ hR
  obtain ⟨a, ha9⟩ : ∃ a, xs (i + 1) = a := ⟨_, rfl⟩
  obtain ⟨hag, hR2⟩ := hs β τ γ η σ θ μ a hR
  rcases hag with ⟨hr, ht⟩ | ⟨hr, ht⟩
  · skip
    refine g_aload_n C dL_law_1772 rfl 1 rfl ?_
    refine g_aload_n C dL_law_1773 rfl 0 rfl ?_
    refine g_iload C dL_law_1774 4 rfl ?_
    refine g_iconst C (v := 1) dL_law_1776 (by decide) ?_
    refine g_iadd C dL_law_1777 ?_
    refine g_sldv C S (i + 1) (nx_add (rfl : nI i = nI i) (rfl : (1 : Int32) = nI 1)) (by omega) ha9 dL_law_1778 ?_
    refine g_aload_n C dL_law_1779 rfl 3 rfl ?_
    refine g_callSW C hZ hNc (cs1 := [wX ax (bo 0) (tr 0) (ac 0) (ah 0) (at_ 0), wB E bo β, wB E tr τ, wC E ac γ, wH E ah bd η, wT E at_ θ, wB E (bd 2) (σ 2), wB E (bd 3) (σ 3), wB E (bd 4) (σ 4), wB E (bd 5) (σ 5), wB E (bd 6) (σ 6), wB E (bd 7) (σ 7), wB E (bd 8) (σ 8), wB E (bd 9) (σ 9), wM E am μ, wO E ao (vp_updL o 0 v.toInt64)]) (st1 := [.int 0]) [.ref ax, .int a, .ref ao] [0, 1, 2, 3, 4, 5, 6, 7, 8, 9, 10, 11, 12, 13, 15] (kL_pointsOf_r l E ax bo β tr τ ac γ ah bd η σ at_ θ ao o hlt hvb a ((fX7_pointsOf μ a).1) hr) q5_74 q1_0 (by decide +kernel) q5_73 q5_72 rfl ⟨Nat.le_of_ble_eq_true rfl, Nat.le_of_ble_eq_true rfl⟩ ⟨hk, hn⟩ (by decide) rfl rfl rfl rfl (Nat.le_of_ble_eq_true rfl) dL_law_1780 rfl ?_
    refine g_istore C (lv1 := [(5, .int 0), (0, .ref b0), (1, .ref ax), (2, .ref (am 0)), (3, .ref ao), (4, .int (nI i))]) dL_law_1783 (by decide) rfl ?_
    refine g_aload_n C dL_law_1785 rfl 3 rfl ?_
    refine g_aload_n C dL_law_1786 rfl 1 rfl ?_
    refine g_iload C dL_law_1787 5 rfl ?_
    refine g_iconst C (v := 1) dL_law_1789 (by decide) ?_
    refine g_iadd C dL_law_1790 ?_
    refine g_sldv C S (i + 1) (nx_add (rfl : nI i = nI i) (rfl : (1 : Int32) = nI 1)) (by omega) ha9 dL_law_1791 ?_
    refine g_callV C (cs1 := [wX ax (bo 0) (tr 0) (ac 0) (ah 0) (at_ 0), wB E bo β, wB E tr τ, wC E ac γ, wH E ah bd η, wT E at_ θ, wB E (bd 2) (σ 2), wB E (bd 3) (σ 3), wB E (bd 4) (σ 4), wB E (bd 5) (σ 5), wB E (bd 6) (σ 6), wB E (bd 7) (σ 7), wB E (bd 8) (σ 8), wB E (bd 9) (σ 9), wM E am ((fX7_pointsOf μ a).2), wO E ao (vp_updL o 0 v.toInt64)]) (st1 := [.int ((fX7_pointsOf μ a).1)]) [.int a] [14] (kX7_pointsOf l E am μ hvm a) caX7_pointsOf q7_152 rfl ⟨Nat.le_of_ble_eq_true rfl, Nat.le_of_ble_eq_true rfl⟩ ⟨hk, hn⟩ 14 0 rfl rfl rfl rfl (by decide) rfl rfl rfl rfl (Nat.le_of_ble_eq_true rfl) dL_law_1792 rfl ?_
    refine g_istore C (lv1 := [(6, .int ((fX7_pointsOf μ a).1)), (5, .int 0), (0, .ref b0), (1, .ref ax), (2, .ref (am 0)), (3, .ref ao), (4, .int (nI i))]) dL_law_1795 (by decide) rfl ?_
    refine g_aload_n C dL_law_1797 rfl 4 rfl ?_
    refine g_callV C (cs1 := [wX ax (bo 0) (tr 0) (ac 0) (ah 0) (at_ 0), wB E bo β, wB E tr τ, wC E ac γ, wH E ah bd η, wT E at_ θ, wB E (bd 2) (σ 2), wB E (bd 3) (σ 3), wB E (bd 4) (σ 4), wB E (bd 5) (σ 5), wB E (bd 6) (σ 6), wB E (bd 7) (σ 7), wB E (bd 8) (σ 8), wB E (bd 9) (σ 9), wM E am ((fX7_pointsOf μ a).2), wO E ao (vp_updL o 0 v.toInt64)]) (st1 := [.int (fX7_thrown ((fX7_pointsOf μ a).2))]) [] [14] (kX7_thrown l E am ((fX7_pointsOf μ a).2)) caX7_thrown q6_117 rfl ⟨Nat.le_of_ble_eq_true rfl, Nat.le_of_ble_eq_true rfl⟩ ⟨hk, hn⟩ 14 0 rfl rfl rfl rfl (by decide) rfl rfl rfl rfl (Nat.le_of_ble_eq_true rfl) dL_law_1798 rfl ?_
    refine g_iload C dL_law_1801 1 rfl ?_
    refine g_icmp_eq C 1808 dL_law_1803 (by decide) (fun _ => ?_) (fun c => absurd ht c)
    refine g_iload C dL_law_1808 1 rfl ?_
    refine g_if_ne C 1825 dL_law_1810 (by decide) (fun c => absurd rfl c) (fun _ => ?_)
    refine g_aload_n C dL_law_1813 rfl 5 rfl ?_
    refine g_iconst C (v := 0) dL_law_1814 (by decide) ?_
    refine g_laldn C 15 0 0 rfl rfl rfl (by decide) (by decide) dL_law_1815 ?_
    refine g_iload C dL_law_1816 0 rfl ?_
    refine g_i2l C dL_law_1818 ?_
    refine g_lcmp C dL_law_1819 ?_
    refine g_if_eq C 1825 dL_law_1820 (by decide) (fun _ => ?_) (fun c => absurd law_cmp c)
    refine g_goto C 3840 dL_law_1825 (by decide) ?_
    exact g_sub [2, 3, 4, 5, 6] rfl (next β τ γ η σ θ ((fX7_pointsOf μ a).2) (vp_updL o 0 v.toInt64) hR2)
  · skip
    refine g_aload_n C dL_law_1772 rfl 1 rfl ?_
    refine g_aload_n C dL_law_1773 rfl 0 rfl ?_
    refine g_iload C dL_law_1774 4 rfl ?_
    refine g_iconst C (v := 1) dL_law_1776 (by decide) ?_
    refine g_iadd C dL_law_1777 ?_
    refine g_sldv C S (i + 1) (nx_add (rfl : nI i = nI i) (rfl : (1 : Int32) = nI 1)) (by omega) ha9 dL_law_1778 ?_
    refine g_aload_n C dL_law_1779 rfl 3 rfl ?_
    refine g_callSW C hZ hNc (cs1 := [wX ax (bo 0) (tr 0) (ac 0) (ah 0) (at_ 0), wB E bo β, wB E tr τ, wC E ac γ, wH E ah bd η, wT E at_ θ, wB E (bd 2) (σ 2), wB E (bd 3) (σ 3), wB E (bd 4) (σ 4), wB E (bd 5) (σ 5), wB E (bd 6) (σ 6), wB E (bd 7) (σ 7), wB E (bd 8) (σ 8), wB E (bd 9) (σ 9), wM E am μ, wO E ao o]) (st1 := [.int 1]) [.ref ax, .int a, .ref ao] [0, 1, 2, 3, 4, 5, 6, 7, 8, 9, 10, 11, 12, 13, 15] (kL_pointsOf_0 l E ax bo β tr τ ac γ ah bd η σ at_ θ ao o hlt hvb a hr) q5_74 q1_0 (by decide +kernel) q5_73 q5_72 rfl ⟨Nat.le_of_ble_eq_true rfl, Nat.le_of_ble_eq_true rfl⟩ ⟨hk, hn⟩ (by decide) rfl rfl rfl rfl (Nat.le_of_ble_eq_true rfl) dL_law_1780 rfl ?_
    refine g_istore C (lv1 := [(5, .int 1), (0, .ref b0), (1, .ref ax), (2, .ref (am 0)), (3, .ref ao), (4, .int (nI i))]) dL_law_1783 (by decide) rfl ?_
    refine g_aload_n C dL_law_1785 rfl 3 rfl ?_
    refine g_aload_n C dL_law_1786 rfl 1 rfl ?_
    refine g_iload C dL_law_1787 5 rfl ?_
    refine g_iconst C (v := 1) dL_law_1789 (by decide) ?_
    refine g_iadd C dL_law_1790 ?_
    refine g_sldv C S (i + 1) (nx_add (rfl : nI i = nI i) (rfl : (1 : Int32) = nI 1)) (by omega) ha9 dL_law_1791 ?_
    refine g_callV C (cs1 := [wX ax (bo 0) (tr 0) (ac 0) (ah 0) (at_ 0), wB E bo β, wB E tr τ, wC E ac γ, wH E ah bd η, wT E at_ θ, wB E (bd 2) (σ 2), wB E (bd 3) (σ 3), wB E (bd 4) (σ 4), wB E (bd 5) (σ 5), wB E (bd 6) (σ 6), wB E (bd 7) (σ 7), wB E (bd 8) (σ 8), wB E (bd 9) (σ 9), wM E am ((fX7_pointsOf μ a).2), wO E ao o]) (st1 := [.int ((fX7_pointsOf μ a).1)]) [.int a] [14] (kX7_pointsOf l E am μ hvm a) caX7_pointsOf q7_152 rfl ⟨Nat.le_of_ble_eq_true rfl, Nat.le_of_ble_eq_true rfl⟩ ⟨hk, hn⟩ 14 0 rfl rfl rfl rfl (by decide) rfl rfl rfl rfl (Nat.le_of_ble_eq_true rfl) dL_law_1792 rfl ?_
    refine g_istore C (lv1 := [(6, .int ((fX7_pointsOf μ a).1)), (5, .int 1), (0, .ref b0), (1, .ref ax), (2, .ref (am 0)), (3, .ref ao), (4, .int (nI i))]) dL_law_1795 (by decide) rfl ?_
    refine g_aload_n C dL_law_1797 rfl 4 rfl ?_
    refine g_callV C (cs1 := [wX ax (bo 0) (tr 0) (ac 0) (ah 0) (at_ 0), wB E bo β, wB E tr τ, wC E ac γ, wH E ah bd η, wT E at_ θ, wB E (bd 2) (σ 2), wB E (bd 3) (σ 3), wB E (bd 4) (σ 4), wB E (bd 5) (σ 5), wB E (bd 6) (σ 6), wB E (bd 7) (σ 7), wB E (bd 8) (σ 8), wB E (bd 9) (σ 9), wM E am ((fX7_pointsOf μ a).2), wO E ao o]) (st1 := [.int (fX7_thrown ((fX7_pointsOf μ a).2))]) [] [14] (kX7_thrown l E am ((fX7_pointsOf μ a).2)) caX7_thrown q6_117 rfl ⟨Nat.le_of_ble_eq_true rfl, Nat.le_of_ble_eq_true rfl⟩ ⟨hk, hn⟩ 14 0 rfl rfl rfl rfl (by decide) rfl rfl rfl rfl (Nat.le_of_ble_eq_true rfl) dL_law_1798 rfl ?_
    refine g_iload C dL_law_1801 1 rfl ?_
    refine g_icmp_eq C 1808 dL_law_1803 (by decide) (fun _ => ?_) (fun c => absurd ht c)
    refine g_iload C dL_law_1808 1 rfl ?_
    refine g_if_ne C 1825 dL_law_1810 (by decide) (fun _ => ?_) (fun c => absurd c (by decide))
    refine g_goto C 3840 dL_law_1825 (by decide) ?_
    exact g_sub [2, 3, 4, 5, 6] rfl (next β τ γ η σ θ ((fX7_pointsOf μ a).2) o hR2)
set_option maxHeartbeats 4000000 in
set_option maxRecDepth 100000 in
theorem arm_30 {Rl : RlT} (hRv : RlV Rl) (hs : sH_priorityOf Rl)  {X : gX} {l : Launch} {E : gE} (C : gC X cL_law 9 RL (some .boolean) l E room_1) (hZ : gZ X.2.2.2.2.2.2.2.2.2.2.2.1 X.2.2.2.2.1 X.2.2.2.2.1.heap) (hNc : gNc X.2.2.2.2.1) {b0 L0 : Nat} {xs : Nat → Int32} (S : gS X b0 L0 xs) (hlt : l.stackTraces = false) {ax : Nat} {bo tr ac ah : Nat → Nat} {bd : Nat → Nat → Nat} {at_ am : Nat → Nat} {ao k n i : Nat} (hk : k + 3 ≤ 601024) (hn : n + 18 ≤ 7293034) (hi : i + 3 ≤ L0) {β τ γ η : BS} {σ : Nat → BS} {θ μ : BS} {o : Nat → Int64} (hR : Rl β η θ σ μ) (next : ∀ (β τ γ η : BS) (σ : Nat → BS) (θ μ : BS) (o : Nat → Int64), Rl β η θ σ μ → G X (k + 3) (n + 18) [wX ax (bo 0) (tr 0) (ac 0) (ah 0) (at_ 0), wB E bo β, wB E tr τ, wC E ac γ, wH E ah bd η, wT E at_ θ, wB E (bd 2) (σ 2), wB E (bd 3) (σ 3), wB E (bd 4) (σ 4), wB E (bd 5) (σ 5), wB E (bd 6) (σ 6), wB E (bd 7) (σ 7), wB E (bd 8) (σ 8), wB E (bd 9) (σ 9), wM E am μ, wO E ao o] [(0, .ref b0), (1, .ref ax), (2, .ref (am 0)), (3, .ref ao), (4, .int (nI i))] 3840 []) : G X k n [wX ax (bo 0) (tr 0) (ac 0) (ah 0) (at_ 0), wB E bo β, wB E tr τ, wC E ac γ, wH E ah bd η, wT E at_ θ, wB E (bd 2) (σ 2), wB E (bd 3) (σ 3), wB E (bd 4) (σ 4), wB E (bd 5) (σ 5), wB E (bd 6) (σ 6), wB E (bd 7) (σ 7), wB E (bd 8) (σ 8), wB E (bd 9) (σ 9), wM E am μ, wO E ao o] [(0, .ref b0), (1, .ref ax), (2, .ref (am 0)), (3, .ref ao), (4, .int (nI i))] 1828 [] := by
  obtain ⟨hvb, hvh, hvt, hvm, ha⟩ := hRv β η θ σ μ hR
  obtain ⟨a, ha9⟩ : ∃ a, xs (i + 1) = a := ⟨_, rfl⟩
  obtain ⟨hag, hR2⟩ := hs β τ γ η σ θ μ a hR
  rcases hag with ⟨hr, ht⟩ | ⟨hr, ht⟩
  · skip
    refine g_aload_n C dL_law_1828 rfl 1 rfl ?_
    refine g_aload_n C dL_law_1829 rfl 0 rfl ?_
    refine g_iload C dL_law_1830 4 rfl ?_
    refine g_iconst C (v := 1) dL_law_1832 (by decide) ?_
    refine g_iadd C dL_law_1833 ?_
    refine g_sldv C S (i + 1) (nx_add (rfl : nI i = nI i) (rfl : (1 : Int32) = nI 1)) (by omega) ha9 dL_law_1834 ?_
    refine g_aload_n C dL_law_1835 rfl 3 rfl ?_
    refine g_callSW C hZ hNc (cs1 := [wX ax (bo 0) (tr 0) (ac 0) (ah 0) (at_ 0), wB E bo β, wB E tr τ, wC E ac γ, wH E ah bd η, wT E at_ θ, wB E (bd 2) (σ 2), wB E (bd 3) (σ 3), wB E (bd 4) (σ 4), wB E (bd 5) (σ 5), wB E (bd 6) (σ 6), wB E (bd 7) (σ 7), wB E (bd 8) (σ 8), wB E (bd 9) (σ 9), wM E am μ, wO E ao (vp_updL o 0 v.toInt64)]) (st1 := [.int 0]) [.ref ax, .int a, .ref ao] [0, 1, 2, 3, 4, 5, 6, 7, 8, 9, 10, 11, 12, 13, 15] (kL_priorityOf_r l E ax bo β tr τ ac γ ah bd η σ at_ θ ao o hlt hvb a ((fX7_priorityOf μ a).1) hr) q5_81 q1_0 (by decide +kernel) q5_80 q5_79 rfl ⟨Nat.le_of_ble_eq_true rfl, Nat.le_of_ble_eq_true rfl⟩ ⟨hk, hn⟩ (by decide) rfl rfl rfl rfl (Nat.le_of_ble_eq_true rfl) dL_law_1836 rfl ?_
    refine g_istore C (lv1 := [(5, .int 0), (0, .ref b0), (1, .ref ax), (2, .ref (am 0)), (3, .ref ao), (4, .int (nI i))]) dL_law_1839 (by decide) rfl ?_
    refine g_aload_n C dL_law_1841 rfl 3 rfl ?_
    refine g_aload_n C dL_law_1842 rfl 1 rfl ?_
    refine g_iload C dL_law_1843 5 rfl ?_
    refine g_iconst C (v := 1) dL_law_1845 (by decide) ?_
    refine g_iadd C dL_law_1846 ?_
    refine g_sldv C S (i + 1) (nx_add (rfl : nI i = nI i) (rfl : (1 : Int32) = nI 1)) (by omega) ha9 dL_law_1847 ?_
    refine g_callV C (cs1 := [wX ax (bo 0) (tr 0) (ac 0) (ah 0) (at_ 0), wB E bo β, wB E tr τ, wC E ac γ, wH E ah bd η, wT E at_ θ, wB E (bd 2) (σ 2), wB E (bd 3) (σ 3), wB E (bd 4) (σ 4), wB E (bd 5) (σ 5), wB E (bd 6) (σ 6), wB E (bd 7) (σ 7), wB E (bd 8) (σ 8), wB E (bd 9) (σ 9), wM E am ((fX7_priorityOf μ a).2), wO E ao (vp_updL o 0 v.toInt64)]) (st1 := [.int ((fX7_priorityOf μ a).1)]) [.int a] [14] (kX7_priorityOf l E am μ hvm a) caX7_priorityOf q7_156 rfl ⟨Nat.le_of_ble_eq_true rfl, Nat.le_of_ble_eq_true rfl⟩ ⟨hk, hn⟩ 14 0 rfl rfl rfl rfl (by decide) rfl rfl rfl rfl (Nat.le_of_ble_eq_true rfl) dL_law_1848 rfl ?_
    refine g_istore C (lv1 := [(6, .int ((fX7_priorityOf μ a).1)), (5, .int 0), (0, .ref b0), (1, .ref ax), (2, .ref (am 0)), (3, .ref ao), (4, .int (nI i))]) dL_law_1851 (by decide) rfl ?_
    refine g_aload_n C dL_law_1853 rfl 4 rfl ?_
    refine g_callV C (cs1 := [wX ax (bo 0) (tr 0) (ac 0) (ah 0) (at_ 0), wB E bo β, wB E tr τ, wC E ac γ, wH E ah bd η, wT E at_ θ, wB E (bd 2) (σ 2), wB E (bd 3) (σ 3), wB E (bd 4) (σ 4), wB E (bd 5) (σ 5), wB E (bd 6) (σ 6), wB E (bd 7) (σ 7), wB E (bd 8) (σ 8), wB E (bd 9) (σ 9), wM E am ((fX7_priorityOf μ a).2), wO E ao (vp_updL o 0 v.toInt64)]) (st1 := [.int (fX7_thrown ((fX7_priorityOf μ a).2))]) [] [14] (kX7_thrown l E am ((fX7_priorityOf μ a).2)) caX7_thrown q6_117 rfl ⟨Nat.le_of_ble_eq_true rfl, Nat.le_of_ble_eq_true rfl⟩ ⟨hk, hn⟩ 14 0 rfl rfl rfl rfl (by decide) rfl rfl rfl rfl (Nat.le_of_ble_eq_true rfl) dL_law_1854 rfl ?_
    refine g_iload C dL_law_1857 1 rfl ?_
    refine g_icmp_eq C 1864 dL_law_1859 (by decide) (fun _ => ?_) (fun c => absurd ht c)
    refine g_iload C dL_law_1864 1 rfl ?_
    refine g_if_ne C 1881 dL_law_1866 (by decide) (fun c => absurd rfl c) (fun _ => ?_)
    refine g_aload_n C dL_law_1869 rfl 5 rfl ?_
    refine g_iconst C (v := 0) dL_law_1870 (by decide) ?_
    refine g_laldn C 15 0 0 rfl rfl rfl (by decide) (by decide) dL_law_1871 ?_
    refine g_iload C dL_law_1872 0 rfl ?_
    refine g_i2l C dL_law_1874 ?_
    refine g_lcmp C dL_law_1875 ?_
    refine g_if_eq C 1881 dL_law_1876 (by decide) (fun _ => ?_) (fun c => absurd law_cmp c)
    refine g_goto C 3840 dL_law_1881 (by decide) ?_
    exact g_sub [2, 3, 4, 5, 6] rfl (next β τ γ η σ θ ((fX7_priorityOf μ a).2) (vp_updL o 0 v.toInt64) hR2)
  · skip
    refine g_aload_n C dL_law_1828 rfl 1 rfl ?_
    refine g_aload_n C dL_law_1829 rfl 0 rfl ?_
    refine g_iload C dL_law_1830 4 rfl ?_
    refine g_iconst C (v := 1) dL_law_1832 (by decide) ?_
    refine g_iadd C dL_law_1833 ?_
    refine g_sldv C S (i + 1) (nx_add (rfl : nI i = nI i) (rfl : (1 : Int32) = nI 1)) (by omega) ha9 dL_law_1834 ?_
    refine g_aload_n C dL_law_1835 rfl 3 rfl ?_
    refine g_callSW C hZ hNc (cs1 := [wX ax (bo 0) (tr 0) (ac 0) (ah 0) (at_ 0), wB E bo β, wB E tr τ, wC E ac γ, wH E ah bd η, wT E at_ θ, wB E (bd 2) (σ 2), wB E (bd 3) (σ 3), wB E (bd 4) (σ 4), wB E (bd 5) (σ 5), wB E (bd 6) (σ 6), wB E (bd 7) (σ 7), wB E (bd 8) (σ 8), wB E (bd 9) (σ 9), wM E am μ, wO E ao o]) (st1 := [.int 1]) [.ref ax, .int a, .ref ao] [0, 1, 2, 3, 4, 5, 6, 7, 8, 9, 10, 11, 12, 13, 15] (kL_priorityOf_0 l E ax bo β tr τ ac γ ah bd η σ at_ θ ao o hlt hvb a hr) q5_81 q1_0 (by decide +kernel) q5_80 q5_79 rfl ⟨Nat.le_of_ble_eq_true rfl, Nat.le_of_ble_eq_true rfl⟩ ⟨hk, hn⟩ (by decide) rfl rfl rfl rfl (Nat.le_of_ble_eq_true rfl) dL_law_1836 rfl ?_
    refine g_istore C (lv1 := [(5, .int 1), (0, .ref b0), (1, .ref ax), (2, .ref (am 0)), (3, .ref ao), (4, .int (nI i))]) dL_law_1839 (by decide) rfl ?_
    refine g_aload_n C dL_law_1841 rfl 3 rfl ?_
    refine g_aload_n C dL_law_1842 rfl 1 rfl ?_
    refine g_iload C dL_law_1843 5 rfl ?_
    refine g_iconst C (v := 1) dL_law_1845 (by decide) ?_
    refine g_iadd C dL_law_1846 ?_
    refine g_sldv C S (i + 1) (nx_add (rfl : nI i = nI i) (rfl : (1 : Int32) = nI 1)) (by omega) ha9 dL_law_1847 ?_
    refine g_callV C (cs1 := [wX ax (bo 0) (tr 0) (ac 0) (ah 0) (at_ 0), wB E bo β, wB E tr τ, wC E ac γ, wH E ah bd η, wT E at_ θ, wB E (bd 2) (σ 2), wB E (bd 3) (σ 3), wB E (bd 4) (σ 4), wB E (bd 5) (σ 5), wB E (bd 6) (σ 6), wB E (bd 7) (σ 7), wB E (bd 8) (σ 8), wB E (bd 9) (σ 9), wM E am ((fX7_priorityOf μ a).2), wO E ao o]) (st1 := [.int ((fX7_priorityOf μ a).1)]) [.int a] [14] (kX7_priorityOf l E am μ hvm a) caX7_priorityOf q7_156 rfl ⟨Nat.le_of_ble_eq_true rfl, Nat.le_of_ble_eq_true rfl⟩ ⟨hk, hn⟩ 14 0 rfl rfl rfl rfl (by decide) rfl rfl rfl rfl (Nat.le_of_ble_eq_true rfl) dL_law_1848 rfl ?_
    refine g_istore C (lv1 := [(6, .int ((fX7_priorityOf μ a).1)), (5, .int 1), (0, .ref b0), (1, .ref ax), (2, .ref (am 0)), (3, .ref ao), (4, .int (nI i))]) dL_law_1851 (by decide) rfl ?_
    refine g_aload_n C dL_law_1853 rfl 4 rfl ?_
    refine g_callV C (cs1 := [wX ax (bo 0) (tr 0) (ac 0) (ah 0) (at_ 0), wB E bo β, wB E tr τ, wC E ac γ, wH E ah bd η, wT E at_ θ, wB E (bd 2) (σ 2), wB E (bd 3) (σ 3), wB E (bd 4) (σ 4), wB E (bd 5) (σ 5), wB E (bd 6) (σ 6), wB E (bd 7) (σ 7), wB E (bd 8) (σ 8), wB E (bd 9) (σ 9), wM E am ((fX7_priorityOf μ a).2), wO E ao o]) (st1 := [.int (fX7_thrown ((fX7_priorityOf μ a).2))]) [] [14] (kX7_thrown l E am ((fX7_priorityOf μ a).2)) caX7_thrown q6_117 rfl ⟨Nat.le_of_ble_eq_true rfl, Nat.le_of_ble_eq_true rfl⟩ ⟨hk, hn⟩ 14 0 rfl rfl rfl rfl (by decide) rfl rfl rfl rfl (Nat.le_of_ble_eq_true rfl) dL_law_1854 rfl ?_
    refine g_iload C dL_law_1857 1 rfl ?_
    refine g_icmp_eq C 1864 dL_law_1859 (by decide) (fun _ => ?_) (fun c => absurd ht c)
    refine g_iload C dL_law_1864 1 rfl ?_
    refine g_if_ne C 1881 dL_law_1866 (by decide) (fun _ => ?_) (fun c => absurd c (by decide))
    refine g_goto C 3840 dL_law_1881 (by decide) ?_
    exact g_sub [2, 3, 4, 5, 6] rfl (next β τ γ η σ θ ((fX7_priorityOf μ a).2) o hR2)
set_option maxHeartbeats 4000000 in
set_option maxRecDepth 100000 in
theorem arm_31 {Rl : RlT} (hRv : RlV Rl) (hs : sH_hasOwner Rl)  {X : gX} {l : Launch} {E : gE} (C : gC X cL_law 9 RL (some .boolean) l E room_1) (hZ : gZ X.2.2.2.2.2.2.2.2.2.2.2.1 X.2.2.2.2.1 X.2.2.2.2.1.heap) (hNc : gNc X.2.2.2.2.1) {b0 L0 : Nat} {xs : Nat → Int32} (S : gS X b0 L0 xs) (hlt : l.stackTraces = false) {ax : Nat} {bo tr ac ah : Nat → Nat} {bd : Nat → Nat → Nat} {at_ am : Nat → Nat} {ao k n i : Nat} (hk : k + 3 ≤ 601024) (hn : n + 18 ≤ 7293034) (hi : i + 3 ≤ L0) {β τ γ η : BS} {σ : Nat → BS} {θ μ : BS} {o : Nat → Int64} (hR : Rl β η θ σ μ) (next : ∀ (β τ γ η : BS) (σ : Nat → BS) (θ μ : BS) (o : Nat → Int64), Rl β η θ σ μ → G X (k + 3) (n + 18) [wX ax (bo 0) (tr 0) (ac 0) (ah 0) (at_ 0), wB E bo β, wB E tr τ, wC E ac γ, wH E ah bd η, wT E at_ θ, wB E (bd 2) (σ 2), wB E (bd 3) (σ 3), wB E (bd 4) (σ 4), wB E (bd 5) (σ 5), wB E (bd 6) (σ 6), wB E (bd 7) (σ 7), wB E (bd 8) (σ 8), wB E (bd 9) (σ 9), wM E am μ, wO E ao o] [(0, .ref b0), (1, .ref ax), (2, .ref (am 0)), (3, .ref ao), (4, .int (nI i))] 3840 []) : G X k n [wX ax (bo 0) (tr 0) (ac 0) (ah 0) (at_ 0), wB E bo β, wB E tr τ, wC E ac γ, wH E ah bd η, wT E at_ θ, wB E (bd 2) (σ 2), wB E (bd 3) (σ 3), wB E (bd 4) (σ 4), wB E (bd 5) (σ 5), wB E (bd 6) (σ 6), wB E (bd 7) (σ 7), wB E (bd 8) (σ 8), wB E (bd 9) (σ 9), wM E am μ, wO E ao o] [(0, .ref b0), (1, .ref ax), (2, .ref (am 0)), (3, .ref ao), (4, .int (nI i))] 1884 [] := by
  obtain ⟨hvb, hvh, hvt, hvm, ha⟩ := hRv β η θ σ μ hR
  obtain ⟨a, ha9⟩ : ∃ a, xs (i + 1) = a := ⟨_, rfl⟩
  obtain ⟨hag, hR2⟩ := hs β τ γ η σ θ μ a hR
  rcases hag with ⟨hr, ht⟩ | ⟨hr, ht⟩
  · cases hbv : (fX7_hasOwner μ a).1 with
    | true =>
      rw [hbv] at hr
      refine g_aload_n C dL_law_1884 rfl 1 rfl ?_
      refine g_aload_n C dL_law_1885 rfl 0 rfl ?_
      refine g_iload C dL_law_1886 4 rfl ?_
      refine g_iconst C (v := 1) dL_law_1888 (by decide) ?_
      refine g_iadd C dL_law_1889 ?_
      refine g_sldv C S (i + 1) (nx_add (rfl : nI i = nI i) (rfl : (1 : Int32) = nI 1)) (by omega) ha9 dL_law_1890 ?_
      refine g_aload_n C dL_law_1891 rfl 3 rfl ?_
      refine g_callSW C hZ hNc (cs1 := [wX ax (bo 0) (tr 0) (ac 0) (ah 0) (at_ 0), wB E bo β, wB E tr τ, wC E ac γ, wH E ah bd η, wT E at_ θ, wB E (bd 2) (σ 2), wB E (bd 3) (σ 3), wB E (bd 4) (σ 4), wB E (bd 5) (σ 5), wB E (bd 6) (σ 6), wB E (bd 7) (σ 7), wB E (bd 8) (σ 8), wB E (bd 9) (σ 9), wM E am μ, wO E ao (vp_updL o 0 1)]) (st1 := [.int 0]) [.ref ax, .int a, .ref ao] [0, 1, 2, 3, 4, 5, 6, 7, 8, 9, 10, 11, 12, 13, 15] (kL_hasOwner_rt l E ax bo β tr τ ac γ ah bd η σ at_ θ ao o hlt hvb a hr) q5_88 q1_0 (by decide +kernel) q5_87 q5_86 rfl ⟨Nat.le_of_ble_eq_true rfl, Nat.le_of_ble_eq_true rfl⟩ ⟨hk, hn⟩ (by decide) rfl rfl rfl rfl (Nat.le_of_ble_eq_true rfl) dL_law_1892 rfl ?_
      refine g_istore C (lv1 := [(5, .int 0), (0, .ref b0), (1, .ref ax), (2, .ref (am 0)), (3, .ref ao), (4, .int (nI i))]) dL_law_1895 (by decide) rfl ?_
      refine g_aload_n C dL_law_1897 rfl 3 rfl ?_
      refine g_aload_n C dL_law_1898 rfl 1 rfl ?_
      refine g_iload C dL_law_1899 5 rfl ?_
      refine g_iconst C (v := 1) dL_law_1901 (by decide) ?_
      refine g_iadd C dL_law_1902 ?_
      refine g_sldv C S (i + 1) (nx_add (rfl : nI i = nI i) (rfl : (1 : Int32) = nI 1)) (by omega) ha9 dL_law_1903 ?_
      refine g_callV C (cs1 := [wX ax (bo 0) (tr 0) (ac 0) (ah 0) (at_ 0), wB E bo β, wB E tr τ, wC E ac γ, wH E ah bd η, wT E at_ θ, wB E (bd 2) (σ 2), wB E (bd 3) (σ 3), wB E (bd 4) (σ 4), wB E (bd 5) (σ 5), wB E (bd 6) (σ 6), wB E (bd 7) (σ 7), wB E (bd 8) (σ 8), wB E (bd 9) (σ 9), wM E am ((fX7_hasOwner μ a).2), wO E ao (vp_updL o 0 1)]) (st1 := [.int (b2i ((fX7_hasOwner μ a).1))]) [.int a] [14] (kX7_hasOwner l E am μ hvm a) caX7_hasOwner q7_160 rfl ⟨Nat.le_of_ble_eq_true rfl, Nat.le_of_ble_eq_true rfl⟩ ⟨hk, hn⟩ 14 0 rfl rfl rfl rfl (by decide) rfl rfl rfl rfl (Nat.le_of_ble_eq_true rfl) dL_law_1904 rfl ?_
      refine g_istore C (lv1 := [(6, .int (b2i ((fX7_hasOwner μ a).1))), (5, .int 0), (0, .ref b0), (1, .ref ax), (2, .ref (am 0)), (3, .ref ao), (4, .int (nI i))]) dL_law_1907 (by decide) rfl ?_
      refine g_aload_n C dL_law_1909 rfl 4 rfl ?_
      refine g_callV C (cs1 := [wX ax (bo 0) (tr 0) (ac 0) (ah 0) (at_ 0), wB E bo β, wB E tr τ, wC E ac γ, wH E ah bd η, wT E at_ θ, wB E (bd 2) (σ 2), wB E (bd 3) (σ 3), wB E (bd 4) (σ 4), wB E (bd 5) (σ 5), wB E (bd 6) (σ 6), wB E (bd 7) (σ 7), wB E (bd 8) (σ 8), wB E (bd 9) (σ 9), wM E am ((fX7_hasOwner μ a).2), wO E ao (vp_updL o 0 1)]) (st1 := [.int (fX7_thrown ((fX7_hasOwner μ a).2))]) [] [14] (kX7_thrown l E am ((fX7_hasOwner μ a).2)) caX7_thrown q6_117 rfl ⟨Nat.le_of_ble_eq_true rfl, Nat.le_of_ble_eq_true rfl⟩ ⟨hk, hn⟩ 14 0 rfl rfl rfl rfl (by decide) rfl rfl rfl rfl (Nat.le_of_ble_eq_true rfl) dL_law_1910 rfl ?_
      refine g_iload C dL_law_1913 1 rfl ?_
      refine g_icmp_eq C 1920 dL_law_1915 (by decide) (fun _ => ?_) (fun c => absurd ht c)
      refine g_iload C dL_law_1920 1 rfl ?_
      refine g_if_ne C 1944 dL_law_1922 (by decide) (fun c => absurd rfl c) (fun _ => ?_)
      refine g_aload_n C dL_law_1925 rfl 5 rfl ?_
      refine g_iconst C (v := 0) dL_law_1926 (by decide) ?_
      refine g_laldn C 15 0 0 rfl rfl rfl (by decide) (by decide) dL_law_1927 ?_
      refine g_iload C dL_law_1928 0 rfl ?_
      refine g_ifB_eq C 1937 dL_law_1930 (by decide) (fun c => absurd (hbv.symm.trans c) (by decide)) (fun _ => ?_)
      refine g_lconst C (v := 1) dL_law_1933 (by decide) ?_
      refine g_goto C 1938 dL_law_1934 (by decide) ?_
      refine g_lcmp C dL_law_1938 ?_
      refine g_if_eq C 1944 dL_law_1939 (by decide) (fun _ => ?_) (fun c => absurd law_cmp c)
      refine g_goto C 3840 dL_law_1944 (by decide) ?_
      exact g_sub [2, 3, 4, 5, 6] rfl (next β τ γ η σ θ ((fX7_hasOwner μ a).2) (vp_updL o 0 1) hR2)
    | false =>
      rw [hbv] at hr
      refine g_aload_n C dL_law_1884 rfl 1 rfl ?_
      refine g_aload_n C dL_law_1885 rfl 0 rfl ?_
      refine g_iload C dL_law_1886 4 rfl ?_
      refine g_iconst C (v := 1) dL_law_1888 (by decide) ?_
      refine g_iadd C dL_law_1889 ?_
      refine g_sldv C S (i + 1) (nx_add (rfl : nI i = nI i) (rfl : (1 : Int32) = nI 1)) (by omega) ha9 dL_law_1890 ?_
      refine g_aload_n C dL_law_1891 rfl 3 rfl ?_
      refine g_callSW C hZ hNc (cs1 := [wX ax (bo 0) (tr 0) (ac 0) (ah 0) (at_ 0), wB E bo β, wB E tr τ, wC E ac γ, wH E ah bd η, wT E at_ θ, wB E (bd 2) (σ 2), wB E (bd 3) (σ 3), wB E (bd 4) (σ 4), wB E (bd 5) (σ 5), wB E (bd 6) (σ 6), wB E (bd 7) (σ 7), wB E (bd 8) (σ 8), wB E (bd 9) (σ 9), wM E am μ, wO E ao (vp_updL o 0 0)]) (st1 := [.int 0]) [.ref ax, .int a, .ref ao] [0, 1, 2, 3, 4, 5, 6, 7, 8, 9, 10, 11, 12, 13, 15] (kL_hasOwner_rf l E ax bo β tr τ ac γ ah bd η σ at_ θ ao o hlt hvb a hr) q5_88 q1_0 (by decide +kernel) q5_87 q5_86 rfl ⟨Nat.le_of_ble_eq_true rfl, Nat.le_of_ble_eq_true rfl⟩ ⟨hk, hn⟩ (by decide) rfl rfl rfl rfl (Nat.le_of_ble_eq_true rfl) dL_law_1892 rfl ?_
      refine g_istore C (lv1 := [(5, .int 0), (0, .ref b0), (1, .ref ax), (2, .ref (am 0)), (3, .ref ao), (4, .int (nI i))]) dL_law_1895 (by decide) rfl ?_
      refine g_aload_n C dL_law_1897 rfl 3 rfl ?_
      refine g_aload_n C dL_law_1898 rfl 1 rfl ?_
      refine g_iload C dL_law_1899 5 rfl ?_
      refine g_iconst C (v := 1) dL_law_1901 (by decide) ?_
      refine g_iadd C dL_law_1902 ?_
      refine g_sldv C S (i + 1) (nx_add (rfl : nI i = nI i) (rfl : (1 : Int32) = nI 1)) (by omega) ha9 dL_law_1903 ?_
      refine g_callV C (cs1 := [wX ax (bo 0) (tr 0) (ac 0) (ah 0) (at_ 0), wB E bo β, wB E tr τ, wC E ac γ, wH E ah bd η, wT E at_ θ, wB E (bd 2) (σ 2), wB E (bd 3) (σ 3), wB E (bd 4) (σ 4), wB E (bd 5) (σ 5), wB E (bd 6) (σ 6), wB E (bd 7) (σ 7), wB E (bd 8) (σ 8), wB E (bd 9) (σ 9), wM E am ((fX7_hasOwner μ a).2), wO E ao (vp_updL o 0 0)]) (st1 := [.int (b2i ((fX7_hasOwner μ a).1))]) [.int a] [14] (kX7_hasOwner l E am μ hvm a) caX7_hasOwner q7_160 rfl ⟨Nat.le_of_ble_eq_true rfl, Nat.le_of_ble_eq_true rfl⟩ ⟨hk, hn⟩ 14 0 rfl rfl rfl rfl (by decide) rfl rfl rfl rfl (Nat.le_of_ble_eq_true rfl) dL_law_1904 rfl ?_
      refine g_istore C (lv1 := [(6, .int (b2i ((fX7_hasOwner μ a).1))), (5, .int 0), (0, .ref b0), (1, .ref ax), (2, .ref (am 0)), (3, .ref ao), (4, .int (nI i))]) dL_law_1907 (by decide) rfl ?_
      refine g_aload_n C dL_law_1909 rfl 4 rfl ?_
      refine g_callV C (cs1 := [wX ax (bo 0) (tr 0) (ac 0) (ah 0) (at_ 0), wB E bo β, wB E tr τ, wC E ac γ, wH E ah bd η, wT E at_ θ, wB E (bd 2) (σ 2), wB E (bd 3) (σ 3), wB E (bd 4) (σ 4), wB E (bd 5) (σ 5), wB E (bd 6) (σ 6), wB E (bd 7) (σ 7), wB E (bd 8) (σ 8), wB E (bd 9) (σ 9), wM E am ((fX7_hasOwner μ a).2), wO E ao (vp_updL o 0 0)]) (st1 := [.int (fX7_thrown ((fX7_hasOwner μ a).2))]) [] [14] (kX7_thrown l E am ((fX7_hasOwner μ a).2)) caX7_thrown q6_117 rfl ⟨Nat.le_of_ble_eq_true rfl, Nat.le_of_ble_eq_true rfl⟩ ⟨hk, hn⟩ 14 0 rfl rfl rfl rfl (by decide) rfl rfl rfl rfl (Nat.le_of_ble_eq_true rfl) dL_law_1910 rfl ?_
      refine g_iload C dL_law_1913 1 rfl ?_
      refine g_icmp_eq C 1920 dL_law_1915 (by decide) (fun _ => ?_) (fun c => absurd ht c)
      refine g_iload C dL_law_1920 1 rfl ?_
      refine g_if_ne C 1944 dL_law_1922 (by decide) (fun c => absurd rfl c) (fun _ => ?_)
      refine g_aload_n C dL_law_1925 rfl 5 rfl ?_
      refine g_iconst C (v := 0) dL_law_1926 (by decide) ?_
      refine g_laldn C 15 0 0 rfl rfl rfl (by decide) (by decide) dL_law_1927 ?_
      refine g_iload C dL_law_1928 0 rfl ?_
      refine g_ifB_eq C 1937 dL_law_1930 (by decide) (fun _ => ?_) (fun c => absurd (hbv.symm.trans c) (by decide))
      refine g_lconst C (v := 0) dL_law_1937 (by decide) ?_
      refine g_lcmp C dL_law_1938 ?_
      refine g_if_eq C 1944 dL_law_1939 (by decide) (fun _ => ?_) (fun c => absurd law_cmp c)
      refine g_goto C 3840 dL_law_1944 (by decide) ?_
      exact g_sub [2, 3, 4, 5, 6] rfl (next β τ γ η σ θ ((fX7_hasOwner μ a).2) (vp_updL o 0 0) hR2)
  · skip
    refine g_aload_n C dL_law_1884 rfl 1 rfl ?_
    refine g_aload_n C dL_law_1885 rfl 0 rfl ?_
    refine g_iload C dL_law_1886 4 rfl ?_
    refine g_iconst C (v := 1) dL_law_1888 (by decide) ?_
    refine g_iadd C dL_law_1889 ?_
    refine g_sldv C S (i + 1) (nx_add (rfl : nI i = nI i) (rfl : (1 : Int32) = nI 1)) (by omega) ha9 dL_law_1890 ?_
    refine g_aload_n C dL_law_1891 rfl 3 rfl ?_
    refine g_callSW C hZ hNc (cs1 := [wX ax (bo 0) (tr 0) (ac 0) (ah 0) (at_ 0), wB E bo β, wB E tr τ, wC E ac γ, wH E ah bd η, wT E at_ θ, wB E (bd 2) (σ 2), wB E (bd 3) (σ 3), wB E (bd 4) (σ 4), wB E (bd 5) (σ 5), wB E (bd 6) (σ 6), wB E (bd 7) (σ 7), wB E (bd 8) (σ 8), wB E (bd 9) (σ 9), wM E am μ, wO E ao o]) (st1 := [.int 1]) [.ref ax, .int a, .ref ao] [0, 1, 2, 3, 4, 5, 6, 7, 8, 9, 10, 11, 12, 13, 15] (kL_hasOwner_0 l E ax bo β tr τ ac γ ah bd η σ at_ θ ao o hlt hvb a hr) q5_88 q1_0 (by decide +kernel) q5_87 q5_86 rfl ⟨Nat.le_of_ble_eq_true rfl, Nat.le_of_ble_eq_true rfl⟩ ⟨hk, hn⟩ (by decide) rfl rfl rfl rfl (Nat.le_of_ble_eq_true rfl) dL_law_1892 rfl ?_
    refine g_istore C (lv1 := [(5, .int 1), (0, .ref b0), (1, .ref ax), (2, .ref (am 0)), (3, .ref ao), (4, .int (nI i))]) dL_law_1895 (by decide) rfl ?_
    refine g_aload_n C dL_law_1897 rfl 3 rfl ?_
    refine g_aload_n C dL_law_1898 rfl 1 rfl ?_
    refine g_iload C dL_law_1899 5 rfl ?_
    refine g_iconst C (v := 1) dL_law_1901 (by decide) ?_
    refine g_iadd C dL_law_1902 ?_
    refine g_sldv C S (i + 1) (nx_add (rfl : nI i = nI i) (rfl : (1 : Int32) = nI 1)) (by omega) ha9 dL_law_1903 ?_
    refine g_callV C (cs1 := [wX ax (bo 0) (tr 0) (ac 0) (ah 0) (at_ 0), wB E bo β, wB E tr τ, wC E ac γ, wH E ah bd η, wT E at_ θ, wB E (bd 2) (σ 2), wB E (bd 3) (σ 3), wB E (bd 4) (σ 4), wB E (bd 5) (σ 5), wB E (bd 6) (σ 6), wB E (bd 7) (σ 7), wB E (bd 8) (σ 8), wB E (bd 9) (σ 9), wM E am ((fX7_hasOwner μ a).2), wO E ao o]) (st1 := [.int (b2i ((fX7_hasOwner μ a).1))]) [.int a] [14] (kX7_hasOwner l E am μ hvm a) caX7_hasOwner q7_160 rfl ⟨Nat.le_of_ble_eq_true rfl, Nat.le_of_ble_eq_true rfl⟩ ⟨hk, hn⟩ 14 0 rfl rfl rfl rfl (by decide) rfl rfl rfl rfl (Nat.le_of_ble_eq_true rfl) dL_law_1904 rfl ?_
    refine g_istore C (lv1 := [(6, .int (b2i ((fX7_hasOwner μ a).1))), (5, .int 1), (0, .ref b0), (1, .ref ax), (2, .ref (am 0)), (3, .ref ao), (4, .int (nI i))]) dL_law_1907 (by decide) rfl ?_
    refine g_aload_n C dL_law_1909 rfl 4 rfl ?_
    refine g_callV C (cs1 := [wX ax (bo 0) (tr 0) (ac 0) (ah 0) (at_ 0), wB E bo β, wB E tr τ, wC E ac γ, wH E ah bd η, wT E at_ θ, wB E (bd 2) (σ 2), wB E (bd 3) (σ 3), wB E (bd 4) (σ 4), wB E (bd 5) (σ 5), wB E (bd 6) (σ 6), wB E (bd 7) (σ 7), wB E (bd 8) (σ 8), wB E (bd 9) (σ 9), wM E am ((fX7_hasOwner μ a).2), wO E ao o]) (st1 := [.int (fX7_thrown ((fX7_hasOwner μ a).2))]) [] [14] (kX7_thrown l E am ((fX7_hasOwner μ a).2)) caX7_thrown q6_117 rfl ⟨Nat.le_of_ble_eq_true rfl, Nat.le_of_ble_eq_true rfl⟩ ⟨hk, hn⟩ 14 0 rfl rfl rfl rfl (by decide) rfl rfl rfl rfl (Nat.le_of_ble_eq_true rfl) dL_law_1910 rfl ?_
    refine g_iload C dL_law_1913 1 rfl ?_
    refine g_icmp_eq C 1920 dL_law_1915 (by decide) (fun _ => ?_) (fun c => absurd ht c)
    refine g_iload C dL_law_1920 1 rfl ?_
    refine g_if_ne C 1944 dL_law_1922 (by decide) (fun _ => ?_) (fun c => absurd c (by decide))
    refine g_goto C 3840 dL_law_1944 (by decide) ?_
    exact g_sub [2, 3, 4, 5, 6] rfl (next β τ γ η σ θ ((fX7_hasOwner μ a).2) o hR2)
set_option maxHeartbeats 4000000 in
set_option maxRecDepth 100000 in
theorem arm_32 {Rl : RlT} (hRv : RlV Rl) (hs : sH_ownerOf Rl)  {X : gX} {l : Launch} {E : gE} (C : gC X cL_law 9 RL (some .boolean) l E room_1) (hZ : gZ X.2.2.2.2.2.2.2.2.2.2.2.1 X.2.2.2.2.1 X.2.2.2.2.1.heap) (hNc : gNc X.2.2.2.2.1) {b0 L0 : Nat} {xs : Nat → Int32} (S : gS X b0 L0 xs) (hlt : l.stackTraces = false) {ax : Nat} {bo tr ac ah : Nat → Nat} {bd : Nat → Nat → Nat} {at_ am : Nat → Nat} {ao k n i : Nat} (hk : k + 3 ≤ 601024) (hn : n + 18 ≤ 7293034) (hi : i + 3 ≤ L0) {β τ γ η : BS} {σ : Nat → BS} {θ μ : BS} {o : Nat → Int64} (hR : Rl β η θ σ μ) (next : ∀ (β τ γ η : BS) (σ : Nat → BS) (θ μ : BS) (o : Nat → Int64), Rl β η θ σ μ → G X (k + 3) (n + 18) [wX ax (bo 0) (tr 0) (ac 0) (ah 0) (at_ 0), wB E bo β, wB E tr τ, wC E ac γ, wH E ah bd η, wT E at_ θ, wB E (bd 2) (σ 2), wB E (bd 3) (σ 3), wB E (bd 4) (σ 4), wB E (bd 5) (σ 5), wB E (bd 6) (σ 6), wB E (bd 7) (σ 7), wB E (bd 8) (σ 8), wB E (bd 9) (σ 9), wM E am μ, wO E ao o] [(0, .ref b0), (1, .ref ax), (2, .ref (am 0)), (3, .ref ao), (4, .int (nI i))] 3840 []) : G X k n [wX ax (bo 0) (tr 0) (ac 0) (ah 0) (at_ 0), wB E bo β, wB E tr τ, wC E ac γ, wH E ah bd η, wT E at_ θ, wB E (bd 2) (σ 2), wB E (bd 3) (σ 3), wB E (bd 4) (σ 4), wB E (bd 5) (σ 5), wB E (bd 6) (σ 6), wB E (bd 7) (σ 7), wB E (bd 8) (σ 8), wB E (bd 9) (σ 9), wM E am μ, wO E ao o] [(0, .ref b0), (1, .ref ax), (2, .ref (am 0)), (3, .ref ao), (4, .int (nI i))] 1947 [] := by
  obtain ⟨hvb, hvh, hvt, hvm, ha⟩ := hRv β η θ σ μ hR
  obtain ⟨a, ha9⟩ : ∃ a, xs (i + 1) = a := ⟨_, rfl⟩
  obtain ⟨hag, hR2⟩ := hs β τ γ η σ θ μ a hR
  rcases hag with ⟨hr, ht⟩ | ⟨hr, ht⟩ | ⟨hr, ht⟩
  · skip
    refine g_aload_n C dL_law_1947 rfl 1 rfl ?_
    refine g_aload_n C dL_law_1948 rfl 0 rfl ?_
    refine g_iload C dL_law_1949 4 rfl ?_
    refine g_iconst C (v := 1) dL_law_1951 (by decide) ?_
    refine g_iadd C dL_law_1952 ?_
    refine g_sldv C S (i + 1) (nx_add (rfl : nI i = nI i) (rfl : (1 : Int32) = nI 1)) (by omega) ha9 dL_law_1953 ?_
    refine g_aload_n C dL_law_1954 rfl 3 rfl ?_
    refine g_callSW C hZ hNc (cs1 := [wX ax (bo 0) (tr 0) (ac 0) (ah 0) (at_ 0), wB E bo β, wB E tr τ, wC E ac γ, wH E ah bd η, wT E at_ θ, wB E (bd 2) (σ 2), wB E (bd 3) (σ 3), wB E (bd 4) (σ 4), wB E (bd 5) (σ 5), wB E (bd 6) (σ 6), wB E (bd 7) (σ 7), wB E (bd 8) (σ 8), wB E (bd 9) (σ 9), wM E am μ, wO E ao (vp_updL o 0 v.toInt64)]) (st1 := [.int 0]) [.ref ax, .int a, .ref ao] [0, 1, 2, 3, 4, 5, 6, 7, 8, 9, 10, 11, 12, 13, 15] (kL_ownerOf_r l E ax bo β tr τ ac γ ah bd η σ at_ θ ao o hlt hvb a ((fX7_ownerOf μ a).1) hr) q5_95 q1_0 (by decide +kernel) q5_94 q5_93 rfl ⟨Nat.le_of_ble_eq_true rfl, Nat.le_of_ble_eq_true rfl⟩ ⟨hk, hn⟩ (by decide) rfl rfl rfl rfl (Nat.le_of_ble_eq_true rfl) dL_law_1955 rfl ?_
    refine g_istore C (lv1 := [(5, .int 0), (0, .ref b0), (1, .ref ax), (2, .ref (am 0)), (3, .ref ao), (4, .int (nI i))]) dL_law_1958 (by decide) rfl ?_
    refine g_aload_n C dL_law_1960 rfl 3 rfl ?_
    refine g_aload_n C dL_law_1961 rfl 1 rfl ?_
    refine g_iload C dL_law_1962 5 rfl ?_
    refine g_iconst C (v := 1) dL_law_1964 (by decide) ?_
    refine g_iadd C dL_law_1965 ?_
    refine g_sldv C S (i + 1) (nx_add (rfl : nI i = nI i) (rfl : (1 : Int32) = nI 1)) (by omega) ha9 dL_law_1966 ?_
    refine g_callV C (cs1 := [wX ax (bo 0) (tr 0) (ac 0) (ah 0) (at_ 0), wB E bo β, wB E tr τ, wC E ac γ, wH E ah bd η, wT E at_ θ, wB E (bd 2) (σ 2), wB E (bd 3) (σ 3), wB E (bd 4) (σ 4), wB E (bd 5) (σ 5), wB E (bd 6) (σ 6), wB E (bd 7) (σ 7), wB E (bd 8) (σ 8), wB E (bd 9) (σ 9), wM E am ((fX7_ownerOf μ a).2), wO E ao (vp_updL o 0 v.toInt64)]) (st1 := [.int ((fX7_ownerOf μ a).1)]) [.int a] [14] (kX7_ownerOf l E am μ hvm a) caX7_ownerOf q7_164 rfl ⟨Nat.le_of_ble_eq_true rfl, Nat.le_of_ble_eq_true rfl⟩ ⟨hk, hn⟩ 14 0 rfl rfl rfl rfl (by decide) rfl rfl rfl rfl (Nat.le_of_ble_eq_true rfl) dL_law_1967 rfl ?_
    refine g_istore C (lv1 := [(6, .int ((fX7_ownerOf μ a).1)), (5, .int 0), (0, .ref b0), (1, .ref ax), (2, .ref (am 0)), (3, .ref ao), (4, .int (nI i))]) dL_law_1970 (by decide) rfl ?_
    refine g_aload_n C dL_law_1972 rfl 4 rfl ?_
    refine g_callV C (cs1 := [wX ax (bo 0) (tr 0) (ac 0) (ah 0) (at_ 0), wB E bo β, wB E tr τ, wC E ac γ, wH E ah bd η, wT E at_ θ, wB E (bd 2) (σ 2), wB E (bd 3) (σ 3), wB E (bd 4) (σ 4), wB E (bd 5) (σ 5), wB E (bd 6) (σ 6), wB E (bd 7) (σ 7), wB E (bd 8) (σ 8), wB E (bd 9) (σ 9), wM E am ((fX7_ownerOf μ a).2), wO E ao (vp_updL o 0 v.toInt64)]) (st1 := [.int (fX7_thrown ((fX7_ownerOf μ a).2))]) [] [14] (kX7_thrown l E am ((fX7_ownerOf μ a).2)) caX7_thrown q6_117 rfl ⟨Nat.le_of_ble_eq_true rfl, Nat.le_of_ble_eq_true rfl⟩ ⟨hk, hn⟩ 14 0 rfl rfl rfl rfl (by decide) rfl rfl rfl rfl (Nat.le_of_ble_eq_true rfl) dL_law_1973 rfl ?_
    refine g_iload C dL_law_1976 1 rfl ?_
    refine g_icmp_eq C 1983 dL_law_1978 (by decide) (fun _ => ?_) (fun c => absurd ht c)
    refine g_iload C dL_law_1983 1 rfl ?_
    refine g_if_ne C 2000 dL_law_1985 (by decide) (fun c => absurd rfl c) (fun _ => ?_)
    refine g_aload_n C dL_law_1988 rfl 5 rfl ?_
    refine g_iconst C (v := 0) dL_law_1989 (by decide) ?_
    refine g_laldn C 15 0 0 rfl rfl rfl (by decide) (by decide) dL_law_1990 ?_
    refine g_iload C dL_law_1991 0 rfl ?_
    refine g_i2l C dL_law_1993 ?_
    refine g_lcmp C dL_law_1994 ?_
    refine g_if_eq C 2000 dL_law_1995 (by decide) (fun _ => ?_) (fun c => absurd law_cmp c)
    refine g_goto C 3840 dL_law_2000 (by decide) ?_
    exact g_sub [2, 3, 4, 5, 6] rfl (next β τ γ η σ θ ((fX7_ownerOf μ a).2) (vp_updL o 0 v.toInt64) hR2)
  · skip
    refine g_aload_n C dL_law_1947 rfl 1 rfl ?_
    refine g_aload_n C dL_law_1948 rfl 0 rfl ?_
    refine g_iload C dL_law_1949 4 rfl ?_
    refine g_iconst C (v := 1) dL_law_1951 (by decide) ?_
    refine g_iadd C dL_law_1952 ?_
    refine g_sldv C S (i + 1) (nx_add (rfl : nI i = nI i) (rfl : (1 : Int32) = nI 1)) (by omega) ha9 dL_law_1953 ?_
    refine g_aload_n C dL_law_1954 rfl 3 rfl ?_
    refine g_callSW C hZ hNc (cs1 := [wX ax (bo 0) (tr 0) (ac 0) (ah 0) (at_ 0), wB E bo β, wB E tr τ, wC E ac γ, wH E ah bd η, wT E at_ θ, wB E (bd 2) (σ 2), wB E (bd 3) (σ 3), wB E (bd 4) (σ 4), wB E (bd 5) (σ 5), wB E (bd 6) (σ 6), wB E (bd 7) (σ 7), wB E (bd 8) (σ 8), wB E (bd 9) (σ 9), wM E am μ, wO E ao o]) (st1 := [.int 1]) [.ref ax, .int a, .ref ao] [0, 1, 2, 3, 4, 5, 6, 7, 8, 9, 10, 11, 12, 13, 15] (kL_ownerOf_0 l E ax bo β tr τ ac γ ah bd η σ at_ θ ao o hlt hvb a hr) q5_95 q1_0 (by decide +kernel) q5_94 q5_93 rfl ⟨Nat.le_of_ble_eq_true rfl, Nat.le_of_ble_eq_true rfl⟩ ⟨hk, hn⟩ (by decide) rfl rfl rfl rfl (Nat.le_of_ble_eq_true rfl) dL_law_1955 rfl ?_
    refine g_istore C (lv1 := [(5, .int 1), (0, .ref b0), (1, .ref ax), (2, .ref (am 0)), (3, .ref ao), (4, .int (nI i))]) dL_law_1958 (by decide) rfl ?_
    refine g_aload_n C dL_law_1960 rfl 3 rfl ?_
    refine g_aload_n C dL_law_1961 rfl 1 rfl ?_
    refine g_iload C dL_law_1962 5 rfl ?_
    refine g_iconst C (v := 1) dL_law_1964 (by decide) ?_
    refine g_iadd C dL_law_1965 ?_
    refine g_sldv C S (i + 1) (nx_add (rfl : nI i = nI i) (rfl : (1 : Int32) = nI 1)) (by omega) ha9 dL_law_1966 ?_
    refine g_callV C (cs1 := [wX ax (bo 0) (tr 0) (ac 0) (ah 0) (at_ 0), wB E bo β, wB E tr τ, wC E ac γ, wH E ah bd η, wT E at_ θ, wB E (bd 2) (σ 2), wB E (bd 3) (σ 3), wB E (bd 4) (σ 4), wB E (bd 5) (σ 5), wB E (bd 6) (σ 6), wB E (bd 7) (σ 7), wB E (bd 8) (σ 8), wB E (bd 9) (σ 9), wM E am ((fX7_ownerOf μ a).2), wO E ao o]) (st1 := [.int ((fX7_ownerOf μ a).1)]) [.int a] [14] (kX7_ownerOf l E am μ hvm a) caX7_ownerOf q7_164 rfl ⟨Nat.le_of_ble_eq_true rfl, Nat.le_of_ble_eq_true rfl⟩ ⟨hk, hn⟩ 14 0 rfl rfl rfl rfl (by decide) rfl rfl rfl rfl (Nat.le_of_ble_eq_true rfl) dL_law_1967 rfl ?_
    refine g_istore C (lv1 := [(6, .int ((fX7_ownerOf μ a).1)), (5, .int 1), (0, .ref b0), (1, .ref ax), (2, .ref (am 0)), (3, .ref ao), (4, .int (nI i))]) dL_law_1970 (by decide) rfl ?_
    refine g_aload_n C dL_law_1972 rfl 4 rfl ?_
    refine g_callV C (cs1 := [wX ax (bo 0) (tr 0) (ac 0) (ah 0) (at_ 0), wB E bo β, wB E tr τ, wC E ac γ, wH E ah bd η, wT E at_ θ, wB E (bd 2) (σ 2), wB E (bd 3) (σ 3), wB E (bd 4) (σ 4), wB E (bd 5) (σ 5), wB E (bd 6) (σ 6), wB E (bd 7) (σ 7), wB E (bd 8) (σ 8), wB E (bd 9) (σ 9), wM E am ((fX7_ownerOf μ a).2), wO E ao o]) (st1 := [.int (fX7_thrown ((fX7_ownerOf μ a).2))]) [] [14] (kX7_thrown l E am ((fX7_ownerOf μ a).2)) caX7_thrown q6_117 rfl ⟨Nat.le_of_ble_eq_true rfl, Nat.le_of_ble_eq_true rfl⟩ ⟨hk, hn⟩ 14 0 rfl rfl rfl rfl (by decide) rfl rfl rfl rfl (Nat.le_of_ble_eq_true rfl) dL_law_1973 rfl ?_
    refine g_iload C dL_law_1976 1 rfl ?_
    refine g_icmp_eq C 1983 dL_law_1978 (by decide) (fun _ => ?_) (fun c => absurd ht c)
    refine g_iload C dL_law_1983 1 rfl ?_
    refine g_if_ne C 2000 dL_law_1985 (by decide) (fun _ => ?_) (fun c => absurd c (by decide))
    refine g_goto C 3840 dL_law_2000 (by decide) ?_
    exact g_sub [2, 3, 4, 5, 6] rfl (next β τ γ η σ θ ((fX7_ownerOf μ a).2) o hR2)
  · skip
    refine g_aload_n C dL_law_1947 rfl 1 rfl ?_
    refine g_aload_n C dL_law_1948 rfl 0 rfl ?_
    refine g_iload C dL_law_1949 4 rfl ?_
    refine g_iconst C (v := 1) dL_law_1951 (by decide) ?_
    refine g_iadd C dL_law_1952 ?_
    refine g_sldv C S (i + 1) (nx_add (rfl : nI i = nI i) (rfl : (1 : Int32) = nI 1)) (by omega) ha9 dL_law_1953 ?_
    refine g_aload_n C dL_law_1954 rfl 3 rfl ?_
    refine g_callSW C hZ hNc (cs1 := [wX ax (bo 0) (tr 0) (ac 0) (ah 0) (at_ 0), wB E bo β, wB E tr τ, wC E ac γ, wH E ah bd η, wT E at_ θ, wB E (bd 2) (σ 2), wB E (bd 3) (σ 3), wB E (bd 4) (σ 4), wB E (bd 5) (σ 5), wB E (bd 6) (σ 6), wB E (bd 7) (σ 7), wB E (bd 8) (σ 8), wB E (bd 9) (σ 9), wM E am μ, wO E ao o]) (st1 := [.int 2]) [.ref ax, .int a, .ref ao] [0, 1, 2, 3, 4, 5, 6, 7, 8, 9, 10, 11, 12, 13, 15] (kL_ownerOf_1 l E ax bo β tr τ ac γ ah bd η σ at_ θ ao o hlt hvb a hr) q5_95 q1_0 (by decide +kernel) q5_94 q5_93 rfl ⟨Nat.le_of_ble_eq_true rfl, Nat.le_of_ble_eq_true rfl⟩ ⟨hk, hn⟩ (by decide) rfl rfl rfl rfl (Nat.le_of_ble_eq_true rfl) dL_law_1955 rfl ?_
    refine g_istore C (lv1 := [(5, .int 2), (0, .ref b0), (1, .ref ax), (2, .ref (am 0)), (3, .ref ao), (4, .int (nI i))]) dL_law_1958 (by decide) rfl ?_
    refine g_aload_n C dL_law_1960 rfl 3 rfl ?_
    refine g_aload_n C dL_law_1961 rfl 1 rfl ?_
    refine g_iload C dL_law_1962 5 rfl ?_
    refine g_iconst C (v := 1) dL_law_1964 (by decide) ?_
    refine g_iadd C dL_law_1965 ?_
    refine g_sldv C S (i + 1) (nx_add (rfl : nI i = nI i) (rfl : (1 : Int32) = nI 1)) (by omega) ha9 dL_law_1966 ?_
    refine g_callV C (cs1 := [wX ax (bo 0) (tr 0) (ac 0) (ah 0) (at_ 0), wB E bo β, wB E tr τ, wC E ac γ, wH E ah bd η, wT E at_ θ, wB E (bd 2) (σ 2), wB E (bd 3) (σ 3), wB E (bd 4) (σ 4), wB E (bd 5) (σ 5), wB E (bd 6) (σ 6), wB E (bd 7) (σ 7), wB E (bd 8) (σ 8), wB E (bd 9) (σ 9), wM E am ((fX7_ownerOf μ a).2), wO E ao o]) (st1 := [.int ((fX7_ownerOf μ a).1)]) [.int a] [14] (kX7_ownerOf l E am μ hvm a) caX7_ownerOf q7_164 rfl ⟨Nat.le_of_ble_eq_true rfl, Nat.le_of_ble_eq_true rfl⟩ ⟨hk, hn⟩ 14 0 rfl rfl rfl rfl (by decide) rfl rfl rfl rfl (Nat.le_of_ble_eq_true rfl) dL_law_1967 rfl ?_
    refine g_istore C (lv1 := [(6, .int ((fX7_ownerOf μ a).1)), (5, .int 2), (0, .ref b0), (1, .ref ax), (2, .ref (am 0)), (3, .ref ao), (4, .int (nI i))]) dL_law_1970 (by decide) rfl ?_
    refine g_aload_n C dL_law_1972 rfl 4 rfl ?_
    refine g_callV C (cs1 := [wX ax (bo 0) (tr 0) (ac 0) (ah 0) (at_ 0), wB E bo β, wB E tr τ, wC E ac γ, wH E ah bd η, wT E at_ θ, wB E (bd 2) (σ 2), wB E (bd 3) (σ 3), wB E (bd 4) (σ 4), wB E (bd 5) (σ 5), wB E (bd 6) (σ 6), wB E (bd 7) (σ 7), wB E (bd 8) (σ 8), wB E (bd 9) (σ 9), wM E am ((fX7_ownerOf μ a).2), wO E ao o]) (st1 := [.int (fX7_thrown ((fX7_ownerOf μ a).2))]) [] [14] (kX7_thrown l E am ((fX7_ownerOf μ a).2)) caX7_thrown q6_117 rfl ⟨Nat.le_of_ble_eq_true rfl, Nat.le_of_ble_eq_true rfl⟩ ⟨hk, hn⟩ 14 0 rfl rfl rfl rfl (by decide) rfl rfl rfl rfl (Nat.le_of_ble_eq_true rfl) dL_law_1973 rfl ?_
    refine g_iload C dL_law_1976 1 rfl ?_
    refine g_icmp_eq C 1983 dL_law_1978 (by decide) (fun _ => ?_) (fun c => absurd ht c)
    refine g_iload C dL_law_1983 1 rfl ?_
    refine g_if_ne C 2000 dL_law_1985 (by decide) (fun _ => ?_) (fun c => absurd c (by decide))
    refine g_goto C 3840 dL_law_2000 (by decide) ?_
    exact g_sub [2, 3, 4, 5, 6] rfl (next β τ γ η σ θ ((fX7_ownerOf μ a).2) o hR2)
set_option maxHeartbeats 4000000 in
set_option maxRecDepth 100000 in
theorem arm_33 {Rl : RlT} (hRv : RlV Rl) (hs : sH_isPlanned Rl)  {X : gX} {l : Launch} {E : gE} (C : gC X cL_law 9 RL (some .boolean) l E room_1) (hZ : gZ X.2.2.2.2.2.2.2.2.2.2.2.1 X.2.2.2.2.1 X.2.2.2.2.1.heap) (hNc : gNc X.2.2.2.2.1) {b0 L0 : Nat} {xs : Nat → Int32} (S : gS X b0 L0 xs) (hlt : l.stackTraces = false) {ax : Nat} {bo tr ac ah : Nat → Nat} {bd : Nat → Nat → Nat} {at_ am : Nat → Nat} {ao k n i : Nat} (hk : k + 3 ≤ 601024) (hn : n + 18 ≤ 7293034) (hi : i + 3 ≤ L0) {β τ γ η : BS} {σ : Nat → BS} {θ μ : BS} {o : Nat → Int64} (hR : Rl β η θ σ μ) (next : ∀ (β τ γ η : BS) (σ : Nat → BS) (θ μ : BS) (o : Nat → Int64), Rl β η θ σ μ → G X (k + 3) (n + 18) [wX ax (bo 0) (tr 0) (ac 0) (ah 0) (at_ 0), wB E bo β, wB E tr τ, wC E ac γ, wH E ah bd η, wT E at_ θ, wB E (bd 2) (σ 2), wB E (bd 3) (σ 3), wB E (bd 4) (σ 4), wB E (bd 5) (σ 5), wB E (bd 6) (σ 6), wB E (bd 7) (σ 7), wB E (bd 8) (σ 8), wB E (bd 9) (σ 9), wM E am μ, wO E ao o] [(0, .ref b0), (1, .ref ax), (2, .ref (am 0)), (3, .ref ao), (4, .int (nI i))] 3840 []) : G X k n [wX ax (bo 0) (tr 0) (ac 0) (ah 0) (at_ 0), wB E bo β, wB E tr τ, wC E ac γ, wH E ah bd η, wT E at_ θ, wB E (bd 2) (σ 2), wB E (bd 3) (σ 3), wB E (bd 4) (σ 4), wB E (bd 5) (σ 5), wB E (bd 6) (σ 6), wB E (bd 7) (σ 7), wB E (bd 8) (σ 8), wB E (bd 9) (σ 9), wM E am μ, wO E ao o] [(0, .ref b0), (1, .ref ax), (2, .ref (am 0)), (3, .ref ao), (4, .int (nI i))] 2003 [] := by
  obtain ⟨hvb, hvh, hvt, hvm, ha⟩ := hRv β η θ σ μ hR
  obtain ⟨a, ha9⟩ : ∃ a, xs (i + 1) = a := ⟨_, rfl⟩
  obtain ⟨hag, hR2⟩ := hs β τ γ η σ θ μ a hR
  rcases hag with ⟨hr, ht⟩ | ⟨hr, ht⟩
  · cases hbv : (fX7_isPlanned μ a).1 with
    | true =>
      rw [hbv] at hr
      refine g_aload_n C dL_law_2003 rfl 1 rfl ?_
      refine g_aload_n C dL_law_2004 rfl 0 rfl ?_
      refine g_iload C dL_law_2005 4 rfl ?_
      refine g_iconst C (v := 1) dL_law_2007 (by decide) ?_
      refine g_iadd C dL_law_2008 ?_
      refine g_sldv C S (i + 1) (nx_add (rfl : nI i = nI i) (rfl : (1 : Int32) = nI 1)) (by omega) ha9 dL_law_2009 ?_
      refine g_aload_n C dL_law_2010 rfl 3 rfl ?_
      refine g_callSW C hZ hNc (cs1 := [wX ax (bo 0) (tr 0) (ac 0) (ah 0) (at_ 0), wB E bo β, wB E tr τ, wC E ac γ, wH E ah bd η, wT E at_ θ, wB E (bd 2) (σ 2), wB E (bd 3) (σ 3), wB E (bd 4) (σ 4), wB E (bd 5) (σ 5), wB E (bd 6) (σ 6), wB E (bd 7) (σ 7), wB E (bd 8) (σ 8), wB E (bd 9) (σ 9), wM E am μ, wO E ao (vp_updL o 0 1)]) (st1 := [.int 0]) [.ref ax, .int a, .ref ao] [0, 1, 2, 3, 4, 5, 6, 7, 8, 9, 10, 11, 12, 13, 15] (kL_isPlanned_rt l E ax bo β tr τ ac γ ah bd η σ at_ θ ao o hlt hvb a hr) q5_102 q1_0 (by decide +kernel) q5_101 q5_100 rfl ⟨Nat.le_of_ble_eq_true rfl, Nat.le_of_ble_eq_true rfl⟩ ⟨hk, hn⟩ (by decide) rfl rfl rfl rfl (Nat.le_of_ble_eq_true rfl) dL_law_2011 rfl ?_
      refine g_istore C (lv1 := [(5, .int 0), (0, .ref b0), (1, .ref ax), (2, .ref (am 0)), (3, .ref ao), (4, .int (nI i))]) dL_law_2014 (by decide) rfl ?_
      refine g_aload_n C dL_law_2016 rfl 3 rfl ?_
      refine g_aload_n C dL_law_2017 rfl 1 rfl ?_
      refine g_iload C dL_law_2018 5 rfl ?_
      refine g_iconst C (v := 1) dL_law_2020 (by decide) ?_
      refine g_iadd C dL_law_2021 ?_
      refine g_sldv C S (i + 1) (nx_add (rfl : nI i = nI i) (rfl : (1 : Int32) = nI 1)) (by omega) ha9 dL_law_2022 ?_
      refine g_callV C (cs1 := [wX ax (bo 0) (tr 0) (ac 0) (ah 0) (at_ 0), wB E bo β, wB E tr τ, wC E ac γ, wH E ah bd η, wT E at_ θ, wB E (bd 2) (σ 2), wB E (bd 3) (σ 3), wB E (bd 4) (σ 4), wB E (bd 5) (σ 5), wB E (bd 6) (σ 6), wB E (bd 7) (σ 7), wB E (bd 8) (σ 8), wB E (bd 9) (σ 9), wM E am ((fX7_isPlanned μ a).2), wO E ao (vp_updL o 0 1)]) (st1 := [.int (b2i ((fX7_isPlanned μ a).1))]) [.int a] [14] (kX7_isPlanned l E am μ hvm a) caX7_isPlanned q7_168 rfl ⟨Nat.le_of_ble_eq_true rfl, Nat.le_of_ble_eq_true rfl⟩ ⟨hk, hn⟩ 14 0 rfl rfl rfl rfl (by decide) rfl rfl rfl rfl (Nat.le_of_ble_eq_true rfl) dL_law_2023 rfl ?_
      refine g_istore C (lv1 := [(6, .int (b2i ((fX7_isPlanned μ a).1))), (5, .int 0), (0, .ref b0), (1, .ref ax), (2, .ref (am 0)), (3, .ref ao), (4, .int (nI i))]) dL_law_2026 (by decide) rfl ?_
      refine g_aload_n C dL_law_2028 rfl 4 rfl ?_
      refine g_callV C (cs1 := [wX ax (bo 0) (tr 0) (ac 0) (ah 0) (at_ 0), wB E bo β, wB E tr τ, wC E ac γ, wH E ah bd η, wT E at_ θ, wB E (bd 2) (σ 2), wB E (bd 3) (σ 3), wB E (bd 4) (σ 4), wB E (bd 5) (σ 5), wB E (bd 6) (σ 6), wB E (bd 7) (σ 7), wB E (bd 8) (σ 8), wB E (bd 9) (σ 9), wM E am ((fX7_isPlanned μ a).2), wO E ao (vp_updL o 0 1)]) (st1 := [.int (fX7_thrown ((fX7_isPlanned μ a).2))]) [] [14] (kX7_thrown l E am ((fX7_isPlanned μ a).2)) caX7_thrown q6_117 rfl ⟨Nat.le_of_ble_eq_true rfl, Nat.le_of_ble_eq_true rfl⟩ ⟨hk, hn⟩ 14 0 rfl rfl rfl rfl (by decide) rfl rfl rfl rfl (Nat.le_of_ble_eq_true rfl) dL_law_2029 rfl ?_
      refine g_iload C dL_law_2032 1 rfl ?_
      refine g_icmp_eq C 2039 dL_law_2034 (by decide) (fun _ => ?_) (fun c => absurd ht c)
      refine g_iload C dL_law_2039 1 rfl ?_
      refine g_if_ne C 2063 dL_law_2041 (by decide) (fun c => absurd rfl c) (fun _ => ?_)
      refine g_aload_n C dL_law_2044 rfl 5 rfl ?_
      refine g_iconst C (v := 0) dL_law_2045 (by decide) ?_
      refine g_laldn C 15 0 0 rfl rfl rfl (by decide) (by decide) dL_law_2046 ?_
      refine g_iload C dL_law_2047 0 rfl ?_
      refine g_ifB_eq C 2056 dL_law_2049 (by decide) (fun c => absurd (hbv.symm.trans c) (by decide)) (fun _ => ?_)
      refine g_lconst C (v := 1) dL_law_2052 (by decide) ?_
      refine g_goto C 2057 dL_law_2053 (by decide) ?_
      refine g_lcmp C dL_law_2057 ?_
      refine g_if_eq C 2063 dL_law_2058 (by decide) (fun _ => ?_) (fun c => absurd law_cmp c)
      refine g_goto C 3840 dL_law_2063 (by decide) ?_
      exact g_sub [2, 3, 4, 5, 6] rfl (next β τ γ η σ θ ((fX7_isPlanned μ a).2) (vp_updL o 0 1) hR2)
    | false =>
      rw [hbv] at hr
      refine g_aload_n C dL_law_2003 rfl 1 rfl ?_
      refine g_aload_n C dL_law_2004 rfl 0 rfl ?_
      refine g_iload C dL_law_2005 4 rfl ?_
      refine g_iconst C (v := 1) dL_law_2007 (by decide) ?_
      refine g_iadd C dL_law_2008 ?_
      refine g_sldv C S (i + 1) (nx_add (rfl : nI i = nI i) (rfl : (1 : Int32) = nI 1)) (by omega) ha9 dL_law_2009 ?_
      refine g_aload_n C dL_law_2010 rfl 3 rfl ?_
      refine g_callSW C hZ hNc (cs1 := [wX ax (bo 0) (tr 0) (ac 0) (ah 0) (at_ 0), wB E bo β, wB E tr τ, wC E ac γ, wH E ah bd η, wT E at_ θ, wB E (bd 2) (σ 2), wB E (bd 3) (σ 3), wB E (bd 4) (σ 4), wB E (bd 5) (σ 5), wB E (bd 6) (σ 6), wB E (bd 7) (σ 7), wB E (bd 8) (σ 8), wB E (bd 9) (σ 9), wM E am μ, wO E ao (vp_updL o 0 0)]) (st1 := [.int 0]) [.ref ax, .int a, .ref ao] [0, 1, 2, 3, 4, 5, 6, 7, 8, 9, 10, 11, 12, 13, 15] (kL_isPlanned_rf l E ax bo β tr τ ac γ ah bd η σ at_ θ ao o hlt hvb a hr) q5_102 q1_0 (by decide +kernel) q5_101 q5_100 rfl ⟨Nat.le_of_ble_eq_true rfl, Nat.le_of_ble_eq_true rfl⟩ ⟨hk, hn⟩ (by decide) rfl rfl rfl rfl (Nat.le_of_ble_eq_true rfl) dL_law_2011 rfl ?_
      refine g_istore C (lv1 := [(5, .int 0), (0, .ref b0), (1, .ref ax), (2, .ref (am 0)), (3, .ref ao), (4, .int (nI i))]) dL_law_2014 (by decide) rfl ?_
      refine g_aload_n C dL_law_2016 rfl 3 rfl ?_
      refine g_aload_n C dL_law_2017 rfl 1 rfl ?_
      refine g_iload C dL_law_2018 5 rfl ?_
      refine g_iconst C (v := 1) dL_law_2020 (by decide) ?_
      refine g_iadd C dL_law_2021 ?_
      refine g_sldv C S (i + 1) (nx_add (rfl : nI i = nI i) (rfl : (1 : Int32) = nI 1)) (by omega) ha9 dL_law_2022 ?_
      refine g_callV C (cs1 := [wX ax (bo 0) (tr 0) (ac 0) (ah 0) (at_ 0), wB E bo β, wB E tr τ, wC E ac γ, wH E ah bd η, wT E at_ θ, wB E (bd 2) (σ 2), wB E (bd 3) (σ 3), wB E (bd 4) (σ 4), wB E (bd 5) (σ 5), wB E (bd 6) (σ 6), wB E (bd 7) (σ 7), wB E (bd 8) (σ 8), wB E (bd 9) (σ 9), wM E am ((fX7_isPlanned μ a).2), wO E ao (vp_updL o 0 0)]) (st1 := [.int (b2i ((fX7_isPlanned μ a).1))]) [.int a] [14] (kX7_isPlanned l E am μ hvm a) caX7_isPlanned q7_168 rfl ⟨Nat.le_of_ble_eq_true rfl, Nat.le_of_ble_eq_true rfl⟩ ⟨hk, hn⟩ 14 0 rfl rfl rfl rfl (by decide) rfl rfl rfl rfl (Nat.le_of_ble_eq_true rfl) dL_law_2023 rfl ?_
      refine g_istore C (lv1 := [(6, .int (b2i ((fX7_isPlanned μ a).1))), (5, .int 0), (0, .ref b0), (1, .ref ax), (2, .ref (am 0)), (3, .ref ao), (4, .int (nI i))]) dL_law_2026 (by decide) rfl ?_
      refine g_aload_n C dL_law_2028 rfl 4 rfl ?_
      refine g_callV C (cs1 := [wX ax (bo 0) (tr 0) (ac 0) (ah 0) (at_ 0), wB E bo β, wB E tr τ, wC E ac γ, wH E ah bd η, wT E at_ θ, wB E (bd 2) (σ 2), wB E (bd 3) (σ 3), wB E (bd 4) (σ 4), wB E (bd 5) (σ 5), wB E (bd 6) (σ 6), wB E (bd 7) (σ 7), wB E (bd 8) (σ 8), wB E (bd 9) (σ 9), wM E am ((fX7_isPlanned μ a).2), wO E ao (vp_updL o 0 0)]) (st1 := [.int (fX7_thrown ((fX7_isPlanned μ a).2))]) [] [14] (kX7_thrown l E am ((fX7_isPlanned μ a).2)) caX7_thrown q6_117 rfl ⟨Nat.le_of_ble_eq_true rfl, Nat.le_of_ble_eq_true rfl⟩ ⟨hk, hn⟩ 14 0 rfl rfl rfl rfl (by decide) rfl rfl rfl rfl (Nat.le_of_ble_eq_true rfl) dL_law_2029 rfl ?_
      refine g_iload C dL_law_2032 1 rfl ?_
      refine g_icmp_eq C 2039 dL_law_2034 (by decide) (fun _ => ?_) (fun c => absurd ht c)
      refine g_iload C dL_law_2039 1 rfl ?_
      refine g_if_ne C 2063 dL_law_2041 (by decide) (fun c => absurd rfl c) (fun _ => ?_)
      refine g_aload_n C dL_law_2044 rfl 5 rfl ?_
      refine g_iconst C (v := 0) dL_law_2045 (by decide) ?_
      refine g_laldn C 15 0 0 rfl rfl rfl (by decide) (by decide) dL_law_2046 ?_
      refine g_iload C dL_law_2047 0 rfl ?_
      refine g_ifB_eq C 2056 dL_law_2049 (by decide) (fun _ => ?_) (fun c => absurd (hbv.symm.trans c) (by decide))
      refine g_lconst C (v := 0) dL_law_2056 (by decide) ?_
      refine g_lcmp C dL_law_2057 ?_
      refine g_if_eq C 2063 dL_law_2058 (by decide) (fun _ => ?_) (fun c => absurd law_cmp c)
      refine g_goto C 3840 dL_law_2063 (by decide) ?_
      exact g_sub [2, 3, 4, 5, 6] rfl (next β τ γ η σ θ ((fX7_isPlanned μ a).2) (vp_updL o 0 0) hR2)
  · skip
    refine g_aload_n C dL_law_2003 rfl 1 rfl ?_
    refine g_aload_n C dL_law_2004 rfl 0 rfl ?_
    refine g_iload C dL_law_2005 4 rfl ?_
    refine g_iconst C (v := 1) dL_law_2007 (by decide) ?_
    refine g_iadd C dL_law_2008 ?_
    refine g_sldv C S (i + 1) (nx_add (rfl : nI i = nI i) (rfl : (1 : Int32) = nI 1)) (by omega) ha9 dL_law_2009 ?_
    refine g_aload_n C dL_law_2010 rfl 3 rfl ?_
    refine g_callSW C hZ hNc (cs1 := [wX ax (bo 0) (tr 0) (ac 0) (ah 0) (at_ 0), wB E bo β, wB E tr τ, wC E ac γ, wH E ah bd η, wT E at_ θ, wB E (bd 2) (σ 2), wB E (bd 3) (σ 3), wB E (bd 4) (σ 4), wB E (bd 5) (σ 5), wB E (bd 6) (σ 6), wB E (bd 7) (σ 7), wB E (bd 8) (σ 8), wB E (bd 9) (σ 9), wM E am μ, wO E ao o]) (st1 := [.int 1]) [.ref ax, .int a, .ref ao] [0, 1, 2, 3, 4, 5, 6, 7, 8, 9, 10, 11, 12, 13, 15] (kL_isPlanned_0 l E ax bo β tr τ ac γ ah bd η σ at_ θ ao o hlt hvb a hr) q5_102 q1_0 (by decide +kernel) q5_101 q5_100 rfl ⟨Nat.le_of_ble_eq_true rfl, Nat.le_of_ble_eq_true rfl⟩ ⟨hk, hn⟩ (by decide) rfl rfl rfl rfl (Nat.le_of_ble_eq_true rfl) dL_law_2011 rfl ?_
    refine g_istore C (lv1 := [(5, .int 1), (0, .ref b0), (1, .ref ax), (2, .ref (am 0)), (3, .ref ao), (4, .int (nI i))]) dL_law_2014 (by decide) rfl ?_
    refine g_aload_n C dL_law_2016 rfl 3 rfl ?_
    refine g_aload_n C dL_law_2017 rfl 1 rfl ?_
    refine g_iload C dL_law_2018 5 rfl ?_
    refine g_iconst C (v := 1) dL_law_2020 (by decide) ?_
    refine g_iadd C dL_law_2021 ?_
    refine g_sldv C S (i + 1) (nx_add (rfl : nI i = nI i) (rfl : (1 : Int32) = nI 1)) (by omega) ha9 dL_law_2022 ?_
    refine g_callV C (cs1 := [wX ax (bo 0) (tr 0) (ac 0) (ah 0) (at_ 0), wB E bo β, wB E tr τ, wC E ac γ, wH E ah bd η, wT E at_ θ, wB E (bd 2) (σ 2), wB E (bd 3) (σ 3), wB E (bd 4) (σ 4), wB E (bd 5) (σ 5), wB E (bd 6) (σ 6), wB E (bd 7) (σ 7), wB E (bd 8) (σ 8), wB E (bd 9) (σ 9), wM E am ((fX7_isPlanned μ a).2), wO E ao o]) (st1 := [.int (b2i ((fX7_isPlanned μ a).1))]) [.int a] [14] (kX7_isPlanned l E am μ hvm a) caX7_isPlanned q7_168 rfl ⟨Nat.le_of_ble_eq_true rfl, Nat.le_of_ble_eq_true rfl⟩ ⟨hk, hn⟩ 14 0 rfl rfl rfl rfl (by decide) rfl rfl rfl rfl (Nat.le_of_ble_eq_true rfl) dL_law_2023 rfl ?_
    refine g_istore C (lv1 := [(6, .int (b2i ((fX7_isPlanned μ a).1))), (5, .int 1), (0, .ref b0), (1, .ref ax), (2, .ref (am 0)), (3, .ref ao), (4, .int (nI i))]) dL_law_2026 (by decide) rfl ?_
    refine g_aload_n C dL_law_2028 rfl 4 rfl ?_
    refine g_callV C (cs1 := [wX ax (bo 0) (tr 0) (ac 0) (ah 0) (at_ 0), wB E bo β, wB E tr τ, wC E ac γ, wH E ah bd η, wT E at_ θ, wB E (bd 2) (σ 2), wB E (bd 3) (σ 3), wB E (bd 4) (σ 4), wB E (bd 5) (σ 5), wB E (bd 6) (σ 6), wB E (bd 7) (σ 7), wB E (bd 8) (σ 8), wB E (bd 9) (σ 9), wM E am ((fX7_isPlanned μ a).2), wO E ao o]) (st1 := [.int (fX7_thrown ((fX7_isPlanned μ a).2))]) [] [14] (kX7_thrown l E am ((fX7_isPlanned μ a).2)) caX7_thrown q6_117 rfl ⟨Nat.le_of_ble_eq_true rfl, Nat.le_of_ble_eq_true rfl⟩ ⟨hk, hn⟩ 14 0 rfl rfl rfl rfl (by decide) rfl rfl rfl rfl (Nat.le_of_ble_eq_true rfl) dL_law_2029 rfl ?_
    refine g_iload C dL_law_2032 1 rfl ?_
    refine g_icmp_eq C 2039 dL_law_2034 (by decide) (fun _ => ?_) (fun c => absurd ht c)
    refine g_iload C dL_law_2039 1 rfl ?_
    refine g_if_ne C 2063 dL_law_2041 (by decide) (fun _ => ?_) (fun c => absurd c (by decide))
    refine g_goto C 3840 dL_law_2063 (by decide) ?_
    exact g_sub [2, 3, 4, 5, 6] rfl (next β τ γ η σ θ ((fX7_isPlanned μ a).2) o hR2)
set_option maxHeartbeats 4000000 in
set_option maxRecDepth 100000 in
theorem arm_34 {Rl : RlT} (hRv : RlV Rl) (hs : sH_milestoneOf Rl)  {X : gX} {l : Launch} {E : gE} (C : gC X cL_law 9 RL (some .boolean) l E room_1) (hZ : gZ X.2.2.2.2.2.2.2.2.2.2.2.1 X.2.2.2.2.1 X.2.2.2.2.1.heap) (hNc : gNc X.2.2.2.2.1) {b0 L0 : Nat} {xs : Nat → Int32} (S : gS X b0 L0 xs) (hlt : l.stackTraces = false) {ax : Nat} {bo tr ac ah : Nat → Nat} {bd : Nat → Nat → Nat} {at_ am : Nat → Nat} {ao k n i : Nat} (hk : k + 3 ≤ 601024) (hn : n + 18 ≤ 7293034) (hi : i + 3 ≤ L0) {β τ γ η : BS} {σ : Nat → BS} {θ μ : BS} {o : Nat → Int64} (hR : Rl β η θ σ μ) (next : ∀ (β τ γ η : BS) (σ : Nat → BS) (θ μ : BS) (o : Nat → Int64), Rl β η θ σ μ → G X (k + 3) (n + 18) [wX ax (bo 0) (tr 0) (ac 0) (ah 0) (at_ 0), wB E bo β, wB E tr τ, wC E ac γ, wH E ah bd η, wT E at_ θ, wB E (bd 2) (σ 2), wB E (bd 3) (σ 3), wB E (bd 4) (σ 4), wB E (bd 5) (σ 5), wB E (bd 6) (σ 6), wB E (bd 7) (σ 7), wB E (bd 8) (σ 8), wB E (bd 9) (σ 9), wM E am μ, wO E ao o] [(0, .ref b0), (1, .ref ax), (2, .ref (am 0)), (3, .ref ao), (4, .int (nI i))] 3840 []) : G X k n [wX ax (bo 0) (tr 0) (ac 0) (ah 0) (at_ 0), wB E bo β, wB E tr τ, wC E ac γ, wH E ah bd η, wT E at_ θ, wB E (bd 2) (σ 2), wB E (bd 3) (σ 3), wB E (bd 4) (σ 4), wB E (bd 5) (σ 5), wB E (bd 6) (σ 6), wB E (bd 7) (σ 7), wB E (bd 8) (σ 8), wB E (bd 9) (σ 9), wM E am μ, wO E ao o] [(0, .ref b0), (1, .ref ax), (2, .ref (am 0)), (3, .ref ao), (4, .int (nI i))] 2066 [] := by
  obtain ⟨hvb, hvh, hvt, hvm, ha⟩ := hRv β η θ σ μ hR
  obtain ⟨a, ha9⟩ : ∃ a, xs (i + 1) = a := ⟨_, rfl⟩
  obtain ⟨hag, hR2⟩ := hs β τ γ η σ θ μ a hR
  rcases hag with ⟨hr, ht⟩ | ⟨hr, ht⟩ | ⟨hr, ht⟩
  · skip
    refine g_aload_n C dL_law_2066 rfl 1 rfl ?_
    refine g_aload_n C dL_law_2067 rfl 0 rfl ?_
    refine g_iload C dL_law_2068 4 rfl ?_
    refine g_iconst C (v := 1) dL_law_2070 (by decide) ?_
    refine g_iadd C dL_law_2071 ?_
    refine g_sldv C S (i + 1) (nx_add (rfl : nI i = nI i) (rfl : (1 : Int32) = nI 1)) (by omega) ha9 dL_law_2072 ?_
    refine g_aload_n C dL_law_2073 rfl 3 rfl ?_
    refine g_callSW C hZ hNc (cs1 := [wX ax (bo 0) (tr 0) (ac 0) (ah 0) (at_ 0), wB E bo β, wB E tr τ, wC E ac γ, wH E ah bd η, wT E at_ θ, wB E (bd 2) (σ 2), wB E (bd 3) (σ 3), wB E (bd 4) (σ 4), wB E (bd 5) (σ 5), wB E (bd 6) (σ 6), wB E (bd 7) (σ 7), wB E (bd 8) (σ 8), wB E (bd 9) (σ 9), wM E am μ, wO E ao (vp_updL o 0 v.toInt64)]) (st1 := [.int 0]) [.ref ax, .int a, .ref ao] [0, 1, 2, 3, 4, 5, 6, 7, 8, 9, 10, 11, 12, 13, 15] (kL_milestoneOf_r l E ax bo β tr τ ac γ ah bd η σ at_ θ ao o hlt hvb a ((fX7_milestoneOf μ a).1) hr) q5_109 q1_0 (by decide +kernel) q5_108 q5_107 rfl ⟨Nat.le_of_ble_eq_true rfl, Nat.le_of_ble_eq_true rfl⟩ ⟨hk, hn⟩ (by decide) rfl rfl rfl rfl (Nat.le_of_ble_eq_true rfl) dL_law_2074 rfl ?_
    refine g_istore C (lv1 := [(5, .int 0), (0, .ref b0), (1, .ref ax), (2, .ref (am 0)), (3, .ref ao), (4, .int (nI i))]) dL_law_2077 (by decide) rfl ?_
    refine g_aload_n C dL_law_2079 rfl 3 rfl ?_
    refine g_aload_n C dL_law_2080 rfl 1 rfl ?_
    refine g_iload C dL_law_2081 5 rfl ?_
    refine g_iconst C (v := 1) dL_law_2083 (by decide) ?_
    refine g_iadd C dL_law_2084 ?_
    refine g_sldv C S (i + 1) (nx_add (rfl : nI i = nI i) (rfl : (1 : Int32) = nI 1)) (by omega) ha9 dL_law_2085 ?_
    refine g_callV C (cs1 := [wX ax (bo 0) (tr 0) (ac 0) (ah 0) (at_ 0), wB E bo β, wB E tr τ, wC E ac γ, wH E ah bd η, wT E at_ θ, wB E (bd 2) (σ 2), wB E (bd 3) (σ 3), wB E (bd 4) (σ 4), wB E (bd 5) (σ 5), wB E (bd 6) (σ 6), wB E (bd 7) (σ 7), wB E (bd 8) (σ 8), wB E (bd 9) (σ 9), wM E am ((fX7_milestoneOf μ a).2), wO E ao (vp_updL o 0 v.toInt64)]) (st1 := [.int ((fX7_milestoneOf μ a).1)]) [.int a] [14] (kX7_milestoneOf l E am μ hvm a) caX7_milestoneOf q7_172 rfl ⟨Nat.le_of_ble_eq_true rfl, Nat.le_of_ble_eq_true rfl⟩ ⟨hk, hn⟩ 14 0 rfl rfl rfl rfl (by decide) rfl rfl rfl rfl (Nat.le_of_ble_eq_true rfl) dL_law_2086 rfl ?_
    refine g_istore C (lv1 := [(6, .int ((fX7_milestoneOf μ a).1)), (5, .int 0), (0, .ref b0), (1, .ref ax), (2, .ref (am 0)), (3, .ref ao), (4, .int (nI i))]) dL_law_2089 (by decide) rfl ?_
    refine g_aload_n C dL_law_2091 rfl 4 rfl ?_
    refine g_callV C (cs1 := [wX ax (bo 0) (tr 0) (ac 0) (ah 0) (at_ 0), wB E bo β, wB E tr τ, wC E ac γ, wH E ah bd η, wT E at_ θ, wB E (bd 2) (σ 2), wB E (bd 3) (σ 3), wB E (bd 4) (σ 4), wB E (bd 5) (σ 5), wB E (bd 6) (σ 6), wB E (bd 7) (σ 7), wB E (bd 8) (σ 8), wB E (bd 9) (σ 9), wM E am ((fX7_milestoneOf μ a).2), wO E ao (vp_updL o 0 v.toInt64)]) (st1 := [.int (fX7_thrown ((fX7_milestoneOf μ a).2))]) [] [14] (kX7_thrown l E am ((fX7_milestoneOf μ a).2)) caX7_thrown q6_117 rfl ⟨Nat.le_of_ble_eq_true rfl, Nat.le_of_ble_eq_true rfl⟩ ⟨hk, hn⟩ 14 0 rfl rfl rfl rfl (by decide) rfl rfl rfl rfl (Nat.le_of_ble_eq_true rfl) dL_law_2092 rfl ?_
    refine g_iload C dL_law_2095 1 rfl ?_
    refine g_icmp_eq C 2102 dL_law_2097 (by decide) (fun _ => ?_) (fun c => absurd ht c)
    refine g_iload C dL_law_2102 1 rfl ?_
    refine g_if_ne C 2119 dL_law_2104 (by decide) (fun c => absurd rfl c) (fun _ => ?_)
    refine g_aload_n C dL_law_2107 rfl 5 rfl ?_
    refine g_iconst C (v := 0) dL_law_2108 (by decide) ?_
    refine g_laldn C 15 0 0 rfl rfl rfl (by decide) (by decide) dL_law_2109 ?_
    refine g_iload C dL_law_2110 0 rfl ?_
    refine g_i2l C dL_law_2112 ?_
    refine g_lcmp C dL_law_2113 ?_
    refine g_if_eq C 2119 dL_law_2114 (by decide) (fun _ => ?_) (fun c => absurd law_cmp c)
    refine g_goto C 3840 dL_law_2119 (by decide) ?_
    exact g_sub [2, 3, 4, 5, 6] rfl (next β τ γ η σ θ ((fX7_milestoneOf μ a).2) (vp_updL o 0 v.toInt64) hR2)
  · skip
    refine g_aload_n C dL_law_2066 rfl 1 rfl ?_
    refine g_aload_n C dL_law_2067 rfl 0 rfl ?_
    refine g_iload C dL_law_2068 4 rfl ?_
    refine g_iconst C (v := 1) dL_law_2070 (by decide) ?_
    refine g_iadd C dL_law_2071 ?_
    refine g_sldv C S (i + 1) (nx_add (rfl : nI i = nI i) (rfl : (1 : Int32) = nI 1)) (by omega) ha9 dL_law_2072 ?_
    refine g_aload_n C dL_law_2073 rfl 3 rfl ?_
    refine g_callSW C hZ hNc (cs1 := [wX ax (bo 0) (tr 0) (ac 0) (ah 0) (at_ 0), wB E bo β, wB E tr τ, wC E ac γ, wH E ah bd η, wT E at_ θ, wB E (bd 2) (σ 2), wB E (bd 3) (σ 3), wB E (bd 4) (σ 4), wB E (bd 5) (σ 5), wB E (bd 6) (σ 6), wB E (bd 7) (σ 7), wB E (bd 8) (σ 8), wB E (bd 9) (σ 9), wM E am μ, wO E ao o]) (st1 := [.int 1]) [.ref ax, .int a, .ref ao] [0, 1, 2, 3, 4, 5, 6, 7, 8, 9, 10, 11, 12, 13, 15] (kL_milestoneOf_0 l E ax bo β tr τ ac γ ah bd η σ at_ θ ao o hlt hvb a hr) q5_109 q1_0 (by decide +kernel) q5_108 q5_107 rfl ⟨Nat.le_of_ble_eq_true rfl, Nat.le_of_ble_eq_true rfl⟩ ⟨hk, hn⟩ (by decide) rfl rfl rfl rfl (Nat.le_of_ble_eq_true rfl) dL_law_2074 rfl ?_
    refine g_istore C (lv1 := [(5, .int 1), (0, .ref b0), (1, .ref ax), (2, .ref (am 0)), (3, .ref ao), (4, .int (nI i))]) dL_law_2077 (by decide) rfl ?_
    refine g_aload_n C dL_law_2079 rfl 3 rfl ?_
    refine g_aload_n C dL_law_2080 rfl 1 rfl ?_
    refine g_iload C dL_law_2081 5 rfl ?_
    refine g_iconst C (v := 1) dL_law_2083 (by decide) ?_
    refine g_iadd C dL_law_2084 ?_
    refine g_sldv C S (i + 1) (nx_add (rfl : nI i = nI i) (rfl : (1 : Int32) = nI 1)) (by omega) ha9 dL_law_2085 ?_
    refine g_callV C (cs1 := [wX ax (bo 0) (tr 0) (ac 0) (ah 0) (at_ 0), wB E bo β, wB E tr τ, wC E ac γ, wH E ah bd η, wT E at_ θ, wB E (bd 2) (σ 2), wB E (bd 3) (σ 3), wB E (bd 4) (σ 4), wB E (bd 5) (σ 5), wB E (bd 6) (σ 6), wB E (bd 7) (σ 7), wB E (bd 8) (σ 8), wB E (bd 9) (σ 9), wM E am ((fX7_milestoneOf μ a).2), wO E ao o]) (st1 := [.int ((fX7_milestoneOf μ a).1)]) [.int a] [14] (kX7_milestoneOf l E am μ hvm a) caX7_milestoneOf q7_172 rfl ⟨Nat.le_of_ble_eq_true rfl, Nat.le_of_ble_eq_true rfl⟩ ⟨hk, hn⟩ 14 0 rfl rfl rfl rfl (by decide) rfl rfl rfl rfl (Nat.le_of_ble_eq_true rfl) dL_law_2086 rfl ?_
    refine g_istore C (lv1 := [(6, .int ((fX7_milestoneOf μ a).1)), (5, .int 1), (0, .ref b0), (1, .ref ax), (2, .ref (am 0)), (3, .ref ao), (4, .int (nI i))]) dL_law_2089 (by decide) rfl ?_
    refine g_aload_n C dL_law_2091 rfl 4 rfl ?_
    refine g_callV C (cs1 := [wX ax (bo 0) (tr 0) (ac 0) (ah 0) (at_ 0), wB E bo β, wB E tr τ, wC E ac γ, wH E ah bd η, wT E at_ θ, wB E (bd 2) (σ 2), wB E (bd 3) (σ 3), wB E (bd 4) (σ 4), wB E (bd 5) (σ 5), wB E (bd 6) (σ 6), wB E (bd 7) (σ 7), wB E (bd 8) (σ 8), wB E (bd 9) (σ 9), wM E am ((fX7_milestoneOf μ a).2), wO E ao o]) (st1 := [.int (fX7_thrown ((fX7_milestoneOf μ a).2))]) [] [14] (kX7_thrown l E am ((fX7_milestoneOf μ a).2)) caX7_thrown q6_117 rfl ⟨Nat.le_of_ble_eq_true rfl, Nat.le_of_ble_eq_true rfl⟩ ⟨hk, hn⟩ 14 0 rfl rfl rfl rfl (by decide) rfl rfl rfl rfl (Nat.le_of_ble_eq_true rfl) dL_law_2092 rfl ?_
    refine g_iload C dL_law_2095 1 rfl ?_
    refine g_icmp_eq C 2102 dL_law_2097 (by decide) (fun _ => ?_) (fun c => absurd ht c)
    refine g_iload C dL_law_2102 1 rfl ?_
    refine g_if_ne C 2119 dL_law_2104 (by decide) (fun _ => ?_) (fun c => absurd c (by decide))
    refine g_goto C 3840 dL_law_2119 (by decide) ?_
    exact g_sub [2, 3, 4, 5, 6] rfl (next β τ γ η σ θ ((fX7_milestoneOf μ a).2) o hR2)
  · skip
    refine g_aload_n C dL_law_2066 rfl 1 rfl ?_
    refine g_aload_n C dL_law_2067 rfl 0 rfl ?_
    refine g_iload C dL_law_2068 4 rfl ?_
    refine g_iconst C (v := 1) dL_law_2070 (by decide) ?_
    refine g_iadd C dL_law_2071 ?_
    refine g_sldv C S (i + 1) (nx_add (rfl : nI i = nI i) (rfl : (1 : Int32) = nI 1)) (by omega) ha9 dL_law_2072 ?_
    refine g_aload_n C dL_law_2073 rfl 3 rfl ?_
    refine g_callSW C hZ hNc (cs1 := [wX ax (bo 0) (tr 0) (ac 0) (ah 0) (at_ 0), wB E bo β, wB E tr τ, wC E ac γ, wH E ah bd η, wT E at_ θ, wB E (bd 2) (σ 2), wB E (bd 3) (σ 3), wB E (bd 4) (σ 4), wB E (bd 5) (σ 5), wB E (bd 6) (σ 6), wB E (bd 7) (σ 7), wB E (bd 8) (σ 8), wB E (bd 9) (σ 9), wM E am μ, wO E ao o]) (st1 := [.int 2]) [.ref ax, .int a, .ref ao] [0, 1, 2, 3, 4, 5, 6, 7, 8, 9, 10, 11, 12, 13, 15] (kL_milestoneOf_1 l E ax bo β tr τ ac γ ah bd η σ at_ θ ao o hlt hvb a hr) q5_109 q1_0 (by decide +kernel) q5_108 q5_107 rfl ⟨Nat.le_of_ble_eq_true rfl, Nat.le_of_ble_eq_true rfl⟩ ⟨hk, hn⟩ (by decide) rfl rfl rfl rfl (Nat.le_of_ble_eq_true rfl) dL_law_2074 rfl ?_
    refine g_istore C (lv1 := [(5, .int 2), (0, .ref b0), (1, .ref ax), (2, .ref (am 0)), (3, .ref ao), (4, .int (nI i))]) dL_law_2077 (by decide) rfl ?_
    refine g_aload_n C dL_law_2079 rfl 3 rfl ?_
    refine g_aload_n C dL_law_2080 rfl 1 rfl ?_
    refine g_iload C dL_law_2081 5 rfl ?_
    refine g_iconst C (v := 1) dL_law_2083 (by decide) ?_
    refine g_iadd C dL_law_2084 ?_
    refine g_sldv C S (i + 1) (nx_add (rfl : nI i = nI i) (rfl : (1 : Int32) = nI 1)) (by omega) ha9 dL_law_2085 ?_
    refine g_callV C (cs1 := [wX ax (bo 0) (tr 0) (ac 0) (ah 0) (at_ 0), wB E bo β, wB E tr τ, wC E ac γ, wH E ah bd η, wT E at_ θ, wB E (bd 2) (σ 2), wB E (bd 3) (σ 3), wB E (bd 4) (σ 4), wB E (bd 5) (σ 5), wB E (bd 6) (σ 6), wB E (bd 7) (σ 7), wB E (bd 8) (σ 8), wB E (bd 9) (σ 9), wM E am ((fX7_milestoneOf μ a).2), wO E ao o]) (st1 := [.int ((fX7_milestoneOf μ a).1)]) [.int a] [14] (kX7_milestoneOf l E am μ hvm a) caX7_milestoneOf q7_172 rfl ⟨Nat.le_of_ble_eq_true rfl, Nat.le_of_ble_eq_true rfl⟩ ⟨hk, hn⟩ 14 0 rfl rfl rfl rfl (by decide) rfl rfl rfl rfl (Nat.le_of_ble_eq_true rfl) dL_law_2086 rfl ?_
    refine g_istore C (lv1 := [(6, .int ((fX7_milestoneOf μ a).1)), (5, .int 2), (0, .ref b0), (1, .ref ax), (2, .ref (am 0)), (3, .ref ao), (4, .int (nI i))]) dL_law_2089 (by decide) rfl ?_
    refine g_aload_n C dL_law_2091 rfl 4 rfl ?_
    refine g_callV C (cs1 := [wX ax (bo 0) (tr 0) (ac 0) (ah 0) (at_ 0), wB E bo β, wB E tr τ, wC E ac γ, wH E ah bd η, wT E at_ θ, wB E (bd 2) (σ 2), wB E (bd 3) (σ 3), wB E (bd 4) (σ 4), wB E (bd 5) (σ 5), wB E (bd 6) (σ 6), wB E (bd 7) (σ 7), wB E (bd 8) (σ 8), wB E (bd 9) (σ 9), wM E am ((fX7_milestoneOf μ a).2), wO E ao o]) (st1 := [.int (fX7_thrown ((fX7_milestoneOf μ a).2))]) [] [14] (kX7_thrown l E am ((fX7_milestoneOf μ a).2)) caX7_thrown q6_117 rfl ⟨Nat.le_of_ble_eq_true rfl, Nat.le_of_ble_eq_true rfl⟩ ⟨hk, hn⟩ 14 0 rfl rfl rfl rfl (by decide) rfl rfl rfl rfl (Nat.le_of_ble_eq_true rfl) dL_law_2092 rfl ?_
    refine g_iload C dL_law_2095 1 rfl ?_
    refine g_icmp_eq C 2102 dL_law_2097 (by decide) (fun _ => ?_) (fun c => absurd ht c)
    refine g_iload C dL_law_2102 1 rfl ?_
    refine g_if_ne C 2119 dL_law_2104 (by decide) (fun _ => ?_) (fun c => absurd c (by decide))
    refine g_goto C 3840 dL_law_2119 (by decide) ?_
    exact g_sub [2, 3, 4, 5, 6] rfl (next β τ γ η σ θ ((fX7_milestoneOf μ a).2) o hR2)
set_option maxHeartbeats 4000000 in
set_option maxRecDepth 100000 in
theorem arm_35 {Rl : RlT} (hRv : RlV Rl) (hs : sH_openedOn Rl)  {X : gX} {l : Launch} {E : gE} (C : gC X cL_law 9 RL (some .boolean) l E room_1) (hZ : gZ X.2.2.2.2.2.2.2.2.2.2.2.1 X.2.2.2.2.1 X.2.2.2.2.1.heap) (hNc : gNc X.2.2.2.2.1) {b0 L0 : Nat} {xs : Nat → Int32} (S : gS X b0 L0 xs) (hlt : l.stackTraces = false) {ax : Nat} {bo tr ac ah : Nat → Nat} {bd : Nat → Nat → Nat} {at_ am : Nat → Nat} {ao k n i : Nat} (hk : k + 3 ≤ 601024) (hn : n + 18 ≤ 7293034) (hi : i + 3 ≤ L0) {β τ γ η : BS} {σ : Nat → BS} {θ μ : BS} {o : Nat → Int64} (hR : Rl β η θ σ μ) (next : ∀ (β τ γ η : BS) (σ : Nat → BS) (θ μ : BS) (o : Nat → Int64), Rl β η θ σ μ → G X (k + 3) (n + 18) [wX ax (bo 0) (tr 0) (ac 0) (ah 0) (at_ 0), wB E bo β, wB E tr τ, wC E ac γ, wH E ah bd η, wT E at_ θ, wB E (bd 2) (σ 2), wB E (bd 3) (σ 3), wB E (bd 4) (σ 4), wB E (bd 5) (σ 5), wB E (bd 6) (σ 6), wB E (bd 7) (σ 7), wB E (bd 8) (σ 8), wB E (bd 9) (σ 9), wM E am μ, wO E ao o] [(0, .ref b0), (1, .ref ax), (2, .ref (am 0)), (3, .ref ao), (4, .int (nI i))] 3840 []) : G X k n [wX ax (bo 0) (tr 0) (ac 0) (ah 0) (at_ 0), wB E bo β, wB E tr τ, wC E ac γ, wH E ah bd η, wT E at_ θ, wB E (bd 2) (σ 2), wB E (bd 3) (σ 3), wB E (bd 4) (σ 4), wB E (bd 5) (σ 5), wB E (bd 6) (σ 6), wB E (bd 7) (σ 7), wB E (bd 8) (σ 8), wB E (bd 9) (σ 9), wM E am μ, wO E ao o] [(0, .ref b0), (1, .ref ax), (2, .ref (am 0)), (3, .ref ao), (4, .int (nI i))] 2122 [] := by
  obtain ⟨hvb, hvh, hvt, hvm, ha⟩ := hRv β η θ σ μ hR
  obtain ⟨a, ha9⟩ : ∃ a, xs (i + 1) = a := ⟨_, rfl⟩
  obtain ⟨hag, hR2⟩ := hs β τ γ η σ θ μ a hR
  rcases hag with ⟨hr, ht⟩ | ⟨hr, ht⟩
  · skip
    refine g_aload_n C dL_law_2122 rfl 1 rfl ?_
    refine g_aload_n C dL_law_2123 rfl 0 rfl ?_
    refine g_iload C dL_law_2124 4 rfl ?_
    refine g_iconst C (v := 1) dL_law_2126 (by decide) ?_
    refine g_iadd C dL_law_2127 ?_
    refine g_sldv C S (i + 1) (nx_add (rfl : nI i = nI i) (rfl : (1 : Int32) = nI 1)) (by omega) ha9 dL_law_2128 ?_
    refine g_aload_n C dL_law_2129 rfl 3 rfl ?_
    refine g_callSW C hZ hNc (cs1 := [wX ax (bo 0) (tr 0) (ac 0) (ah 0) (at_ 0), wB E bo β, wB E tr τ, wC E ac γ, wH E ah bd η, wT E at_ θ, wB E (bd 2) (σ 2), wB E (bd 3) (σ 3), wB E (bd 4) (σ 4), wB E (bd 5) (σ 5), wB E (bd 6) (σ 6), wB E (bd 7) (σ 7), wB E (bd 8) (σ 8), wB E (bd 9) (σ 9), wM E am μ, wO E ao (vp_updL o 0 v.toInt64)]) (st1 := [.int 0]) [.ref ax, .int a, .ref ao] [0, 1, 2, 3, 4, 5, 6, 7, 8, 9, 10, 11, 12, 13, 15] (kL_openedOn_r l E ax bo β tr τ ac γ ah bd η σ at_ θ ao o hlt hvb a ((fX7_openedOn μ a).1) hr) q5_116 q1_0 (by decide +kernel) q5_115 q5_114 rfl ⟨Nat.le_of_ble_eq_true rfl, Nat.le_of_ble_eq_true rfl⟩ ⟨hk, hn⟩ (by decide) rfl rfl rfl rfl (Nat.le_of_ble_eq_true rfl) dL_law_2130 rfl ?_
    refine g_istore C (lv1 := [(5, .int 0), (0, .ref b0), (1, .ref ax), (2, .ref (am 0)), (3, .ref ao), (4, .int (nI i))]) dL_law_2133 (by decide) rfl ?_
    refine g_aload_n C dL_law_2135 rfl 3 rfl ?_
    refine g_aload_n C dL_law_2136 rfl 1 rfl ?_
    refine g_iload C dL_law_2137 5 rfl ?_
    refine g_iconst C (v := 1) dL_law_2139 (by decide) ?_
    refine g_iadd C dL_law_2140 ?_
    refine g_sldv C S (i + 1) (nx_add (rfl : nI i = nI i) (rfl : (1 : Int32) = nI 1)) (by omega) ha9 dL_law_2141 ?_
    refine g_callV C (cs1 := [wX ax (bo 0) (tr 0) (ac 0) (ah 0) (at_ 0), wB E bo β, wB E tr τ, wC E ac γ, wH E ah bd η, wT E at_ θ, wB E (bd 2) (σ 2), wB E (bd 3) (σ 3), wB E (bd 4) (σ 4), wB E (bd 5) (σ 5), wB E (bd 6) (σ 6), wB E (bd 7) (σ 7), wB E (bd 8) (σ 8), wB E (bd 9) (σ 9), wM E am ((fX7_openedOn μ a).2), wO E ao (vp_updL o 0 v.toInt64)]) (st1 := [.int ((fX7_openedOn μ a).1)]) [.int a] [14] (kX7_openedOn l E am μ hvm a) caX7_openedOn q7_176 rfl ⟨Nat.le_of_ble_eq_true rfl, Nat.le_of_ble_eq_true rfl⟩ ⟨hk, hn⟩ 14 0 rfl rfl rfl rfl (by decide) rfl rfl rfl rfl (Nat.le_of_ble_eq_true rfl) dL_law_2142 rfl ?_
    refine g_istore C (lv1 := [(6, .int ((fX7_openedOn μ a).1)), (5, .int 0), (0, .ref b0), (1, .ref ax), (2, .ref (am 0)), (3, .ref ao), (4, .int (nI i))]) dL_law_2145 (by decide) rfl ?_
    refine g_aload_n C dL_law_2147 rfl 4 rfl ?_
    refine g_callV C (cs1 := [wX ax (bo 0) (tr 0) (ac 0) (ah 0) (at_ 0), wB E bo β, wB E tr τ, wC E ac γ, wH E ah bd η, wT E at_ θ, wB E (bd 2) (σ 2), wB E (bd 3) (σ 3), wB E (bd 4) (σ 4), wB E (bd 5) (σ 5), wB E (bd 6) (σ 6), wB E (bd 7) (σ 7), wB E (bd 8) (σ 8), wB E (bd 9) (σ 9), wM E am ((fX7_openedOn μ a).2), wO E ao (vp_updL o 0 v.toInt64)]) (st1 := [.int (fX7_thrown ((fX7_openedOn μ a).2))]) [] [14] (kX7_thrown l E am ((fX7_openedOn μ a).2)) caX7_thrown q6_117 rfl ⟨Nat.le_of_ble_eq_true rfl, Nat.le_of_ble_eq_true rfl⟩ ⟨hk, hn⟩ 14 0 rfl rfl rfl rfl (by decide) rfl rfl rfl rfl (Nat.le_of_ble_eq_true rfl) dL_law_2148 rfl ?_
    refine g_iload C dL_law_2151 1 rfl ?_
    refine g_icmp_eq C 2158 dL_law_2153 (by decide) (fun _ => ?_) (fun c => absurd ht c)
    refine g_iload C dL_law_2158 1 rfl ?_
    refine g_if_ne C 2175 dL_law_2160 (by decide) (fun c => absurd rfl c) (fun _ => ?_)
    refine g_aload_n C dL_law_2163 rfl 5 rfl ?_
    refine g_iconst C (v := 0) dL_law_2164 (by decide) ?_
    refine g_laldn C 15 0 0 rfl rfl rfl (by decide) (by decide) dL_law_2165 ?_
    refine g_iload C dL_law_2166 0 rfl ?_
    refine g_i2l C dL_law_2168 ?_
    refine g_lcmp C dL_law_2169 ?_
    refine g_if_eq C 2175 dL_law_2170 (by decide) (fun _ => ?_) (fun c => absurd law_cmp c)
    refine g_goto C 3840 dL_law_2175 (by decide) ?_
    exact g_sub [2, 3, 4, 5, 6] rfl (next β τ γ η σ θ ((fX7_openedOn μ a).2) (vp_updL o 0 v.toInt64) hR2)
  · skip
    refine g_aload_n C dL_law_2122 rfl 1 rfl ?_
    refine g_aload_n C dL_law_2123 rfl 0 rfl ?_
    refine g_iload C dL_law_2124 4 rfl ?_
    refine g_iconst C (v := 1) dL_law_2126 (by decide) ?_
    refine g_iadd C dL_law_2127 ?_
    refine g_sldv C S (i + 1) (nx_add (rfl : nI i = nI i) (rfl : (1 : Int32) = nI 1)) (by omega) ha9 dL_law_2128 ?_
    refine g_aload_n C dL_law_2129 rfl 3 rfl ?_
    refine g_callSW C hZ hNc (cs1 := [wX ax (bo 0) (tr 0) (ac 0) (ah 0) (at_ 0), wB E bo β, wB E tr τ, wC E ac γ, wH E ah bd η, wT E at_ θ, wB E (bd 2) (σ 2), wB E (bd 3) (σ 3), wB E (bd 4) (σ 4), wB E (bd 5) (σ 5), wB E (bd 6) (σ 6), wB E (bd 7) (σ 7), wB E (bd 8) (σ 8), wB E (bd 9) (σ 9), wM E am μ, wO E ao o]) (st1 := [.int 1]) [.ref ax, .int a, .ref ao] [0, 1, 2, 3, 4, 5, 6, 7, 8, 9, 10, 11, 12, 13, 15] (kL_openedOn_0 l E ax bo β tr τ ac γ ah bd η σ at_ θ ao o hlt hvb a hr) q5_116 q1_0 (by decide +kernel) q5_115 q5_114 rfl ⟨Nat.le_of_ble_eq_true rfl, Nat.le_of_ble_eq_true rfl⟩ ⟨hk, hn⟩ (by decide) rfl rfl rfl rfl (Nat.le_of_ble_eq_true rfl) dL_law_2130 rfl ?_
    refine g_istore C (lv1 := [(5, .int 1), (0, .ref b0), (1, .ref ax), (2, .ref (am 0)), (3, .ref ao), (4, .int (nI i))]) dL_law_2133 (by decide) rfl ?_
    refine g_aload_n C dL_law_2135 rfl 3 rfl ?_
    refine g_aload_n C dL_law_2136 rfl 1 rfl ?_
    refine g_iload C dL_law_2137 5 rfl ?_
    refine g_iconst C (v := 1) dL_law_2139 (by decide) ?_
    refine g_iadd C dL_law_2140 ?_
    refine g_sldv C S (i + 1) (nx_add (rfl : nI i = nI i) (rfl : (1 : Int32) = nI 1)) (by omega) ha9 dL_law_2141 ?_
    refine g_callV C (cs1 := [wX ax (bo 0) (tr 0) (ac 0) (ah 0) (at_ 0), wB E bo β, wB E tr τ, wC E ac γ, wH E ah bd η, wT E at_ θ, wB E (bd 2) (σ 2), wB E (bd 3) (σ 3), wB E (bd 4) (σ 4), wB E (bd 5) (σ 5), wB E (bd 6) (σ 6), wB E (bd 7) (σ 7), wB E (bd 8) (σ 8), wB E (bd 9) (σ 9), wM E am ((fX7_openedOn μ a).2), wO E ao o]) (st1 := [.int ((fX7_openedOn μ a).1)]) [.int a] [14] (kX7_openedOn l E am μ hvm a) caX7_openedOn q7_176 rfl ⟨Nat.le_of_ble_eq_true rfl, Nat.le_of_ble_eq_true rfl⟩ ⟨hk, hn⟩ 14 0 rfl rfl rfl rfl (by decide) rfl rfl rfl rfl (Nat.le_of_ble_eq_true rfl) dL_law_2142 rfl ?_
    refine g_istore C (lv1 := [(6, .int ((fX7_openedOn μ a).1)), (5, .int 1), (0, .ref b0), (1, .ref ax), (2, .ref (am 0)), (3, .ref ao), (4, .int (nI i))]) dL_law_2145 (by decide) rfl ?_
    refine g_aload_n C dL_law_2147 rfl 4 rfl ?_
    refine g_callV C (cs1 := [wX ax (bo 0) (tr 0) (ac 0) (ah 0) (at_ 0), wB E bo β, wB E tr τ, wC E ac γ, wH E ah bd η, wT E at_ θ, wB E (bd 2) (σ 2), wB E (bd 3) (σ 3), wB E (bd 4) (σ 4), wB E (bd 5) (σ 5), wB E (bd 6) (σ 6), wB E (bd 7) (σ 7), wB E (bd 8) (σ 8), wB E (bd 9) (σ 9), wM E am ((fX7_openedOn μ a).2), wO E ao o]) (st1 := [.int (fX7_thrown ((fX7_openedOn μ a).2))]) [] [14] (kX7_thrown l E am ((fX7_openedOn μ a).2)) caX7_thrown q6_117 rfl ⟨Nat.le_of_ble_eq_true rfl, Nat.le_of_ble_eq_true rfl⟩ ⟨hk, hn⟩ 14 0 rfl rfl rfl rfl (by decide) rfl rfl rfl rfl (Nat.le_of_ble_eq_true rfl) dL_law_2148 rfl ?_
    refine g_iload C dL_law_2151 1 rfl ?_
    refine g_icmp_eq C 2158 dL_law_2153 (by decide) (fun _ => ?_) (fun c => absurd ht c)
    refine g_iload C dL_law_2158 1 rfl ?_
    refine g_if_ne C 2175 dL_law_2160 (by decide) (fun _ => ?_) (fun c => absurd c (by decide))
    refine g_goto C 3840 dL_law_2175 (by decide) ?_
    exact g_sub [2, 3, 4, 5, 6] rfl (next β τ γ η σ θ ((fX7_openedOn μ a).2) o hR2)
set_option maxHeartbeats 4000000 in
set_option maxRecDepth 100000 in
theorem arm_36 {Rl : RlT} (hRv : RlV Rl) (hs : sH_closedOn Rl)  {X : gX} {l : Launch} {E : gE} (C : gC X cL_law 9 RL (some .boolean) l E room_1) (hZ : gZ X.2.2.2.2.2.2.2.2.2.2.2.1 X.2.2.2.2.1 X.2.2.2.2.1.heap) (hNc : gNc X.2.2.2.2.1) {b0 L0 : Nat} {xs : Nat → Int32} (S : gS X b0 L0 xs) (hlt : l.stackTraces = false) {ax : Nat} {bo tr ac ah : Nat → Nat} {bd : Nat → Nat → Nat} {at_ am : Nat → Nat} {ao k n i : Nat} (hk : k + 3 ≤ 601024) (hn : n + 18 ≤ 7293034) (hi : i + 3 ≤ L0) {β τ γ η : BS} {σ : Nat → BS} {θ μ : BS} {o : Nat → Int64} (hR : Rl β η θ σ μ) (next : ∀ (β τ γ η : BS) (σ : Nat → BS) (θ μ : BS) (o : Nat → Int64), Rl β η θ σ μ → G X (k + 3) (n + 18) [wX ax (bo 0) (tr 0) (ac 0) (ah 0) (at_ 0), wB E bo β, wB E tr τ, wC E ac γ, wH E ah bd η, wT E at_ θ, wB E (bd 2) (σ 2), wB E (bd 3) (σ 3), wB E (bd 4) (σ 4), wB E (bd 5) (σ 5), wB E (bd 6) (σ 6), wB E (bd 7) (σ 7), wB E (bd 8) (σ 8), wB E (bd 9) (σ 9), wM E am μ, wO E ao o] [(0, .ref b0), (1, .ref ax), (2, .ref (am 0)), (3, .ref ao), (4, .int (nI i))] 3840 []) : G X k n [wX ax (bo 0) (tr 0) (ac 0) (ah 0) (at_ 0), wB E bo β, wB E tr τ, wC E ac γ, wH E ah bd η, wT E at_ θ, wB E (bd 2) (σ 2), wB E (bd 3) (σ 3), wB E (bd 4) (σ 4), wB E (bd 5) (σ 5), wB E (bd 6) (σ 6), wB E (bd 7) (σ 7), wB E (bd 8) (σ 8), wB E (bd 9) (σ 9), wM E am μ, wO E ao o] [(0, .ref b0), (1, .ref ax), (2, .ref (am 0)), (3, .ref ao), (4, .int (nI i))] 2178 [] := by
  obtain ⟨hvb, hvh, hvt, hvm, ha⟩ := hRv β η θ σ μ hR
  obtain ⟨a, ha9⟩ : ∃ a, xs (i + 1) = a := ⟨_, rfl⟩
  obtain ⟨hag, hR2⟩ := hs β τ γ η σ θ μ a hR
  rcases hag with ⟨hr, ht⟩ | ⟨hr, ht⟩ | ⟨hr, ht⟩
  · skip
    refine g_aload_n C dL_law_2178 rfl 1 rfl ?_
    refine g_aload_n C dL_law_2179 rfl 0 rfl ?_
    refine g_iload C dL_law_2180 4 rfl ?_
    refine g_iconst C (v := 1) dL_law_2182 (by decide) ?_
    refine g_iadd C dL_law_2183 ?_
    refine g_sldv C S (i + 1) (nx_add (rfl : nI i = nI i) (rfl : (1 : Int32) = nI 1)) (by omega) ha9 dL_law_2184 ?_
    refine g_aload_n C dL_law_2185 rfl 3 rfl ?_
    refine g_callSW C hZ hNc (cs1 := [wX ax (bo 0) (tr 0) (ac 0) (ah 0) (at_ 0), wB E bo β, wB E tr τ, wC E ac γ, wH E ah bd η, wT E at_ θ, wB E (bd 2) (σ 2), wB E (bd 3) (σ 3), wB E (bd 4) (σ 4), wB E (bd 5) (σ 5), wB E (bd 6) (σ 6), wB E (bd 7) (σ 7), wB E (bd 8) (σ 8), wB E (bd 9) (σ 9), wM E am μ, wO E ao (vp_updL o 0 v.toInt64)]) (st1 := [.int 0]) [.ref ax, .int a, .ref ao] [0, 1, 2, 3, 4, 5, 6, 7, 8, 9, 10, 11, 12, 13, 15] (kL_closedOn_r l E ax bo β tr τ ac γ ah bd η σ at_ θ ao o hlt hvb a ((fX7_closedOn μ a).1) hr) q5_123 q1_0 (by decide +kernel) q5_122 q5_121 rfl ⟨Nat.le_of_ble_eq_true rfl, Nat.le_of_ble_eq_true rfl⟩ ⟨hk, hn⟩ (by decide) rfl rfl rfl rfl (Nat.le_of_ble_eq_true rfl) dL_law_2186 rfl ?_
    refine g_istore C (lv1 := [(5, .int 0), (0, .ref b0), (1, .ref ax), (2, .ref (am 0)), (3, .ref ao), (4, .int (nI i))]) dL_law_2189 (by decide) rfl ?_
    refine g_aload_n C dL_law_2191 rfl 3 rfl ?_
    refine g_aload_n C dL_law_2192 rfl 1 rfl ?_
    refine g_iload C dL_law_2193 5 rfl ?_
    refine g_iconst C (v := 1) dL_law_2195 (by decide) ?_
    refine g_iadd C dL_law_2196 ?_
    refine g_sldv C S (i + 1) (nx_add (rfl : nI i = nI i) (rfl : (1 : Int32) = nI 1)) (by omega) ha9 dL_law_2197 ?_
    refine g_callV C (cs1 := [wX ax (bo 0) (tr 0) (ac 0) (ah 0) (at_ 0), wB E bo β, wB E tr τ, wC E ac γ, wH E ah bd η, wT E at_ θ, wB E (bd 2) (σ 2), wB E (bd 3) (σ 3), wB E (bd 4) (σ 4), wB E (bd 5) (σ 5), wB E (bd 6) (σ 6), wB E (bd 7) (σ 7), wB E (bd 8) (σ 8), wB E (bd 9) (σ 9), wM E am ((fX7_closedOn μ a).2), wO E ao (vp_updL o 0 v.toInt64)]) (st1 := [.int ((fX7_closedOn μ a).1)]) [.int a] [14] (kX7_closedOn l E am μ hvm a) caX7_closedOn q7_180 rfl ⟨Nat.le_of_ble_eq_true rfl, Nat.le_of_ble_eq_true rfl⟩ ⟨hk, hn⟩ 14 0 rfl rfl rfl rfl (by decide) rfl rfl rfl rfl (Nat.le_of_ble_eq_true rfl) dL_law_2198 rfl ?_
    refine g_istore C (lv1 := [(6, .int ((fX7_closedOn μ a).1)), (5, .int 0), (0, .ref b0), (1, .ref ax), (2, .ref (am 0)), (3, .ref ao), (4, .int (nI i))]) dL_law_2201 (by decide) rfl ?_
    refine g_aload_n C dL_law_2203 rfl 4 rfl ?_
    refine g_callV C (cs1 := [wX ax (bo 0) (tr 0) (ac 0) (ah 0) (at_ 0), wB E bo β, wB E tr τ, wC E ac γ, wH E ah bd η, wT E at_ θ, wB E (bd 2) (σ 2), wB E (bd 3) (σ 3), wB E (bd 4) (σ 4), wB E (bd 5) (σ 5), wB E (bd 6) (σ 6), wB E (bd 7) (σ 7), wB E (bd 8) (σ 8), wB E (bd 9) (σ 9), wM E am ((fX7_closedOn μ a).2), wO E ao (vp_updL o 0 v.toInt64)]) (st1 := [.int (fX7_thrown ((fX7_closedOn μ a).2))]) [] [14] (kX7_thrown l E am ((fX7_closedOn μ a).2)) caX7_thrown q6_117 rfl ⟨Nat.le_of_ble_eq_true rfl, Nat.le_of_ble_eq_true rfl⟩ ⟨hk, hn⟩ 14 0 rfl rfl rfl rfl (by decide) rfl rfl rfl rfl (Nat.le_of_ble_eq_true rfl) dL_law_2204 rfl ?_
    refine g_iload C dL_law_2207 1 rfl ?_
    refine g_icmp_eq C 2214 dL_law_2209 (by decide) (fun _ => ?_) (fun c => absurd ht c)
    refine g_iload C dL_law_2214 1 rfl ?_
    refine g_if_ne C 2231 dL_law_2216 (by decide) (fun c => absurd rfl c) (fun _ => ?_)
    refine g_aload_n C dL_law_2219 rfl 5 rfl ?_
    refine g_iconst C (v := 0) dL_law_2220 (by decide) ?_
    refine g_laldn C 15 0 0 rfl rfl rfl (by decide) (by decide) dL_law_2221 ?_
    refine g_iload C dL_law_2222 0 rfl ?_
    refine g_i2l C dL_law_2224 ?_
    refine g_lcmp C dL_law_2225 ?_
    refine g_if_eq C 2231 dL_law_2226 (by decide) (fun _ => ?_) (fun c => absurd law_cmp c)
    refine g_goto C 3840 dL_law_2231 (by decide) ?_
    exact g_sub [2, 3, 4, 5, 6] rfl (next β τ γ η σ θ ((fX7_closedOn μ a).2) (vp_updL o 0 v.toInt64) hR2)
  · skip
    refine g_aload_n C dL_law_2178 rfl 1 rfl ?_
    refine g_aload_n C dL_law_2179 rfl 0 rfl ?_
    refine g_iload C dL_law_2180 4 rfl ?_
    refine g_iconst C (v := 1) dL_law_2182 (by decide) ?_
    refine g_iadd C dL_law_2183 ?_
    refine g_sldv C S (i + 1) (nx_add (rfl : nI i = nI i) (rfl : (1 : Int32) = nI 1)) (by omega) ha9 dL_law_2184 ?_
    refine g_aload_n C dL_law_2185 rfl 3 rfl ?_
    refine g_callSW C hZ hNc (cs1 := [wX ax (bo 0) (tr 0) (ac 0) (ah 0) (at_ 0), wB E bo β, wB E tr τ, wC E ac γ, wH E ah bd η, wT E at_ θ, wB E (bd 2) (σ 2), wB E (bd 3) (σ 3), wB E (bd 4) (σ 4), wB E (bd 5) (σ 5), wB E (bd 6) (σ 6), wB E (bd 7) (σ 7), wB E (bd 8) (σ 8), wB E (bd 9) (σ 9), wM E am μ, wO E ao o]) (st1 := [.int 1]) [.ref ax, .int a, .ref ao] [0, 1, 2, 3, 4, 5, 6, 7, 8, 9, 10, 11, 12, 13, 15] (kL_closedOn_0 l E ax bo β tr τ ac γ ah bd η σ at_ θ ao o hlt hvb a hr) q5_123 q1_0 (by decide +kernel) q5_122 q5_121 rfl ⟨Nat.le_of_ble_eq_true rfl, Nat.le_of_ble_eq_true rfl⟩ ⟨hk, hn⟩ (by decide) rfl rfl rfl rfl (Nat.le_of_ble_eq_true rfl) dL_law_2186 rfl ?_
    refine g_istore C (lv1 := [(5, .int 1), (0, .ref b0), (1, .ref ax), (2, .ref (am 0)), (3, .ref ao), (4, .int (nI i))]) dL_law_2189 (by decide) rfl ?_
    refine g_aload_n C dL_law_2191 rfl 3 rfl ?_
    refine g_aload_n C dL_law_2192 rfl 1 rfl ?_
    refine g_iload C dL_law_2193 5 rfl ?_
    refine g_iconst C (v := 1) dL_law_2195 (by decide) ?_
    refine g_iadd C dL_law_2196 ?_
    refine g_sldv C S (i + 1) (nx_add (rfl : nI i = nI i) (rfl : (1 : Int32) = nI 1)) (by omega) ha9 dL_law_2197 ?_
    refine g_callV C (cs1 := [wX ax (bo 0) (tr 0) (ac 0) (ah 0) (at_ 0), wB E bo β, wB E tr τ, wC E ac γ, wH E ah bd η, wT E at_ θ, wB E (bd 2) (σ 2), wB E (bd 3) (σ 3), wB E (bd 4) (σ 4), wB E (bd 5) (σ 5), wB E (bd 6) (σ 6), wB E (bd 7) (σ 7), wB E (bd 8) (σ 8), wB E (bd 9) (σ 9), wM E am ((fX7_closedOn μ a).2), wO E ao o]) (st1 := [.int ((fX7_closedOn μ a).1)]) [.int a] [14] (kX7_closedOn l E am μ hvm a) caX7_closedOn q7_180 rfl ⟨Nat.le_of_ble_eq_true rfl, Nat.le_of_ble_eq_true rfl⟩ ⟨hk, hn⟩ 14 0 rfl rfl rfl rfl (by decide) rfl rfl rfl rfl (Nat.le_of_ble_eq_true rfl) dL_law_2198 rfl ?_
    refine g_istore C (lv1 := [(6, .int ((fX7_closedOn μ a).1)), (5, .int 1), (0, .ref b0), (1, .ref ax), (2, .ref (am 0)), (3, .ref ao), (4, .int (nI i))]) dL_law_2201 (by decide) rfl ?_
    refine g_aload_n C dL_law_2203 rfl 4 rfl ?_
    refine g_callV C (cs1 := [wX ax (bo 0) (tr 0) (ac 0) (ah 0) (at_ 0), wB E bo β, wB E tr τ, wC E ac γ, wH E ah bd η, wT E at_ θ, wB E (bd 2) (σ 2), wB E (bd 3) (σ 3), wB E (bd 4) (σ 4), wB E (bd 5) (σ 5), wB E (bd 6) (σ 6), wB E (bd 7) (σ 7), wB E (bd 8) (σ 8), wB E (bd 9) (σ 9), wM E am ((fX7_closedOn μ a).2), wO E ao o]) (st1 := [.int (fX7_thrown ((fX7_closedOn μ a).2))]) [] [14] (kX7_thrown l E am ((fX7_closedOn μ a).2)) caX7_thrown q6_117 rfl ⟨Nat.le_of_ble_eq_true rfl, Nat.le_of_ble_eq_true rfl⟩ ⟨hk, hn⟩ 14 0 rfl rfl rfl rfl (by decide) rfl rfl rfl rfl (Nat.le_of_ble_eq_true rfl) dL_law_2204 rfl ?_
    refine g_iload C dL_law_2207 1 rfl ?_
    refine g_icmp_eq C 2214 dL_law_2209 (by decide) (fun _ => ?_) (fun c => absurd ht c)
    refine g_iload C dL_law_2214 1 rfl ?_
    refine g_if_ne C 2231 dL_law_2216 (by decide) (fun _ => ?_) (fun c => absurd c (by decide))
    refine g_goto C 3840 dL_law_2231 (by decide) ?_
    exact g_sub [2, 3, 4, 5, 6] rfl (next β τ γ η σ θ ((fX7_closedOn μ a).2) o hR2)
  · skip
    refine g_aload_n C dL_law_2178 rfl 1 rfl ?_
    refine g_aload_n C dL_law_2179 rfl 0 rfl ?_
    refine g_iload C dL_law_2180 4 rfl ?_
    refine g_iconst C (v := 1) dL_law_2182 (by decide) ?_
    refine g_iadd C dL_law_2183 ?_
    refine g_sldv C S (i + 1) (nx_add (rfl : nI i = nI i) (rfl : (1 : Int32) = nI 1)) (by omega) ha9 dL_law_2184 ?_
    refine g_aload_n C dL_law_2185 rfl 3 rfl ?_
    refine g_callSW C hZ hNc (cs1 := [wX ax (bo 0) (tr 0) (ac 0) (ah 0) (at_ 0), wB E bo β, wB E tr τ, wC E ac γ, wH E ah bd η, wT E at_ θ, wB E (bd 2) (σ 2), wB E (bd 3) (σ 3), wB E (bd 4) (σ 4), wB E (bd 5) (σ 5), wB E (bd 6) (σ 6), wB E (bd 7) (σ 7), wB E (bd 8) (σ 8), wB E (bd 9) (σ 9), wM E am μ, wO E ao o]) (st1 := [.int 2]) [.ref ax, .int a, .ref ao] [0, 1, 2, 3, 4, 5, 6, 7, 8, 9, 10, 11, 12, 13, 15] (kL_closedOn_1 l E ax bo β tr τ ac γ ah bd η σ at_ θ ao o hlt hvb a hr) q5_123 q1_0 (by decide +kernel) q5_122 q5_121 rfl ⟨Nat.le_of_ble_eq_true rfl, Nat.le_of_ble_eq_true rfl⟩ ⟨hk, hn⟩ (by decide) rfl rfl rfl rfl (Nat.le_of_ble_eq_true rfl) dL_law_2186 rfl ?_
    refine g_istore C (lv1 := [(5, .int 2), (0, .ref b0), (1, .ref ax), (2, .ref (am 0)), (3, .ref ao), (4, .int (nI i))]) dL_law_2189 (by decide) rfl ?_
    refine g_aload_n C dL_law_2191 rfl 3 rfl ?_
    refine g_aload_n C dL_law_2192 rfl 1 rfl ?_
    refine g_iload C dL_law_2193 5 rfl ?_
    refine g_iconst C (v := 1) dL_law_2195 (by decide) ?_
    refine g_iadd C dL_law_2196 ?_
    refine g_sldv C S (i + 1) (nx_add (rfl : nI i = nI i) (rfl : (1 : Int32) = nI 1)) (by omega) ha9 dL_law_2197 ?_
    refine g_callV C (cs1 := [wX ax (bo 0) (tr 0) (ac 0) (ah 0) (at_ 0), wB E bo β, wB E tr τ, wC E ac γ, wH E ah bd η, wT E at_ θ, wB E (bd 2) (σ 2), wB E (bd 3) (σ 3), wB E (bd 4) (σ 4), wB E (bd 5) (σ 5), wB E (bd 6) (σ 6), wB E (bd 7) (σ 7), wB E (bd 8) (σ 8), wB E (bd 9) (σ 9), wM E am ((fX7_closedOn μ a).2), wO E ao o]) (st1 := [.int ((fX7_closedOn μ a).1)]) [.int a] [14] (kX7_closedOn l E am μ hvm a) caX7_closedOn q7_180 rfl ⟨Nat.le_of_ble_eq_true rfl, Nat.le_of_ble_eq_true rfl⟩ ⟨hk, hn⟩ 14 0 rfl rfl rfl rfl (by decide) rfl rfl rfl rfl (Nat.le_of_ble_eq_true rfl) dL_law_2198 rfl ?_
    refine g_istore C (lv1 := [(6, .int ((fX7_closedOn μ a).1)), (5, .int 2), (0, .ref b0), (1, .ref ax), (2, .ref (am 0)), (3, .ref ao), (4, .int (nI i))]) dL_law_2201 (by decide) rfl ?_
    refine g_aload_n C dL_law_2203 rfl 4 rfl ?_
    refine g_callV C (cs1 := [wX ax (bo 0) (tr 0) (ac 0) (ah 0) (at_ 0), wB E bo β, wB E tr τ, wC E ac γ, wH E ah bd η, wT E at_ θ, wB E (bd 2) (σ 2), wB E (bd 3) (σ 3), wB E (bd 4) (σ 4), wB E (bd 5) (σ 5), wB E (bd 6) (σ 6), wB E (bd 7) (σ 7), wB E (bd 8) (σ 8), wB E (bd 9) (σ 9), wM E am ((fX7_closedOn μ a).2), wO E ao o]) (st1 := [.int (fX7_thrown ((fX7_closedOn μ a).2))]) [] [14] (kX7_thrown l E am ((fX7_closedOn μ a).2)) caX7_thrown q6_117 rfl ⟨Nat.le_of_ble_eq_true rfl, Nat.le_of_ble_eq_true rfl⟩ ⟨hk, hn⟩ 14 0 rfl rfl rfl rfl (by decide) rfl rfl rfl rfl (Nat.le_of_ble_eq_true rfl) dL_law_2204 rfl ?_
    refine g_iload C dL_law_2207 1 rfl ?_
    refine g_icmp_eq C 2214 dL_law_2209 (by decide) (fun _ => ?_) (fun c => absurd ht c)
    refine g_iload C dL_law_2214 1 rfl ?_
    refine g_if_ne C 2231 dL_law_2216 (by decide) (fun _ => ?_) (fun c => absurd c (by decide))
    refine g_goto C 3840 dL_law_2231 (by decide) ?_
    exact g_sub [2, 3, 4, 5, 6] rfl (next β τ γ η σ θ ((fX7_closedOn μ a).2) o hR2)
