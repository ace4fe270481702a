set_option maxHeartbeats 4000000 in
set_option maxRecDepth 100000 in
theorem arm_10 {Rl : RlT} (hRv : RlV Rl) (hs : sH_changeDate Rl)  {X : gX} {l : Launch} {E : gE} (C : gC X cL_law 9 RL (some .boolean) l E room_1) (hZ : gZ X.2.2.2.2.2.2.2.2.2.2.2.1 X.2.2.2.2.1 X.2.2.2.2.1.heap) (hNc : gNc X.2.2.2.2.1) {b0 L0 : Nat} {xs : Nat → Int32} (S : gS X b0 L0 xs) (hlt : l.stackTraces = false) {ax : Nat} {bo tr ac ah : Nat → Nat} {bd : Nat → Nat → Nat} {at_ am : Nat → Nat} {ao k n i : Nat} (hk : k + 3 ≤ 601024) (hn : n + 18 ≤ 7293034) (hi : i + 3 ≤ L0) {β τ γ η : BS} {σ : Nat → BS} {θ μ : BS} {o : Nat → Int64} (hR : Rl β η θ σ μ) (next : ∀ (β τ γ η : BS) (σ : Nat → BS) (θ μ : BS) (o : Nat → Int64), Rl β η θ σ μ → G X (k + 3) (n + 18) [wX ax (bo 0) (tr 0) (ac 0) (ah 0) (at_ 0), wB E bo β, wB E tr τ, wC E ac γ, wH E ah bd η, wT E at_ θ, wB E (bd 2) (σ 2), wB E (bd 3) (σ 3), wB E (bd 4) (σ 4), wB E (bd 5) (σ 5), wB E (bd 6) (σ 6), wB E (bd 7) (σ 7), wB E (bd 8) (σ 8), wB E (bd 9) (σ 9), wM E am μ, wO E ao o] [(0, .ref b0), (1, .ref ax), (2, .ref (am 0)), (3, .ref ao), (4, .int (nI i))] 3840 []) : G X k n [wX ax (bo 0) (tr 0) (ac 0) (ah 0) (at_ 0), wB E bo β, wB E tr τ, wC E ac γ, wH E ah bd η, wT E at_ θ, wB E (bd 2) (σ 2), wB E (bd 3) (σ 3), wB E (bd 4) (σ 4), wB E (bd 5) (σ 5), wB E (bd 6) (σ 6), wB E (bd 7) (σ 7), wB E (bd 8) (σ 8), wB E (bd 9) (σ 9), wM E am μ, wO E ao o] [(0, .ref b0), (1, .ref ax), (2, .ref (am 0)), (3, .ref ao), (4, .int (nI i))] 1004 [] := by
  obtain ⟨hvb, hvh, hvt, hvm, ha⟩ := hRv β η θ σ μ hR
  obtain ⟨a, ha9⟩ : ∃ a, xs (i + 1) = a := ⟨_, rfl⟩
  obtain ⟨b, hb9⟩ : ∃ b, xs (i + 2) = b := ⟨_, rfl⟩
  obtain ⟨hag, hR2⟩ := hs β τ γ η σ θ μ a b hR
  rcases hag with ⟨hr, ht⟩ | ⟨hr, ht⟩ | ⟨hr, ht⟩
  · skip
    refine g_aload_n C dL_law_1004 rfl 1 rfl ?_
    refine g_aload_n C dL_law_1005 rfl 0 rfl ?_
    refine g_iload C dL_law_1006 4 rfl ?_
    refine g_iconst C (v := 1) dL_law_1008 (by decide) ?_
    refine g_iadd C dL_law_1009 ?_
    refine g_sldv C S (i + 1) (nx_add (rfl : nI i = nI i) (rfl : (1 : Int32) = nI 1)) (by omega) ha9 dL_law_1010 ?_
    refine g_aload_n C dL_law_1011 rfl 0 rfl ?_
    refine g_iload C dL_law_1012 4 rfl ?_
    refine g_iconst C (v := 2) dL_law_1014 (by decide) ?_
    refine g_iadd C dL_law_1015 ?_
    refine g_sldv C S (i + 2) (nx_add (rfl : nI i = nI i) (rfl : (2 : Int32) = nI 2)) (by omega) hb9 dL_law_1016 ?_
    refine g_aload_n C dL_law_1017 rfl 3 rfl ?_
    refine g_callSW C hZ hNc (z := 4) (cs1 := [wX ax (bo 0) (tr 0) (ac 0) (ah 0) (at_ 0), wB E bo ((fX6_changeDate β η σ a b).2.1), wB E tr τ, wC E ac γ, wH E ah bd ((fX6_changeDate β η σ a b).2.2.1), wT E at_ θ, wB E (bd 2) ((fX6_changeDate β η σ a b).2.2.2 2), wB E (bd 3) ((fX6_changeDate β η σ a b).2.2.2 3), wB E (bd 4) ((fX6_changeDate β η σ a b).2.2.2 4), wB E (bd 5) ((fX6_changeDate β η σ a b).2.2.2 5), wB E (bd 6) ((fX6_changeDate β η σ a b).2.2.2 6), wB E (bd 7) ((fX6_changeDate β η σ a b).2.2.2 7), wB E (bd 8) ((fX6_changeDate β η σ a b).2.2.2 8), wB E (bd 9) ((fX6_changeDate β η σ a b).2.2.2 9), wM E am μ, wO E ao (vp_updL o 0 ((fX7_changeDate μ a b).1).toInt64)]) (st1 := [.int 0]) [.ref ax, .int a, .int b, .ref ao] [0, 1, 2, 3, 4, 5, 6, 7, 8, 9, 10, 11, 12, 13, 15] (kL_changeDate_r l E ax bo β tr τ ac γ ah bd η σ at_ θ ao o hlt hvb hvh a b ((fX7_changeDate μ a b).1) hr) q4_94 q1_0 (by decide +kernel) q4_93 q4_92 rfl ⟨Nat.le_of_ble_eq_true rfl, Nat.le_of_ble_eq_true rfl⟩ ⟨hk, hn⟩ (by decide) rfl rfl rfl rfl (Nat.le_of_ble_eq_true rfl) dL_law_1018 rfl ?_
    refine g_istore C (lv1 := [(5, .int 0), (0, .ref b0), (1, .ref ax), (2, .ref (am 0)), (3, .ref ao), (4, .int (nI i))]) dL_law_1021 (by decide) rfl ?_
    refine g_aload_n C dL_law_1023 rfl 3 rfl ?_
    refine g_aload_n C dL_law_1024 rfl 1 rfl ?_
    refine g_iload C dL_law_1025 5 rfl ?_
    refine g_iconst C (v := 1) dL_law_1027 (by decide) ?_
    refine g_iadd C dL_law_1028 ?_
    refine g_sldv C S (i + 1) (nx_add (rfl : nI i = nI i) (rfl : (1 : Int32) = nI 1)) (by omega) ha9 dL_law_1029 ?_
    refine g_aload_n C dL_law_1030 rfl 1 rfl ?_
    refine g_iload C dL_law_1031 5 rfl ?_
    refine g_iconst C (v := 2) dL_law_1033 (by decide) ?_
    refine g_iadd C dL_law_1034 ?_
    refine g_sldv C S (i + 2) (nx_add (rfl : nI i = nI i) (rfl : (2 : Int32) = nI 2)) (by omega) hb9 dL_law_1035 ?_
    refine g_callV C (cs1 := [wX ax (bo 0) (tr 0) (ac 0) (ah 0) (at_ 0), wB E bo ((fX6_changeDate β η σ a b).2.1), wB E tr τ, wC E ac γ, wH E ah bd ((fX6_changeDate β η σ a b).2.2.1), wT E at_ θ, wB E (bd 2) ((fX6_changeDate β η σ a b).2.2.2 2), wB E (bd 3) ((fX6_changeDate β η σ a b).2.2.2 3), wB E (bd 4) ((fX6_changeDate β η σ a b).2.2.2 4), wB E (bd 5) ((fX6_changeDate β η σ a b).2.2.2 5), wB E (bd 6) ((fX6_changeDate β η σ a b).2.2.2 6), wB E (bd 7) ((fX6_changeDate β η σ a b).2.2.2 7), wB E (bd 8) ((fX6_changeDate β η σ a b).2.2.2 8), wB E (bd 9) ((fX6_changeDate β η σ a b).2.2.2 9), wM E am ((fX7_changeDate μ a b).2), wO E ao (vp_updL o 0 ((fX7_changeDate μ a b).1).toInt64)]) (st1 := [.int ((fX7_changeDate μ a b).1)]) [.int a, .int b] [14] (kX7_changeDate l E am μ hvm a b) caX7_changeDate q6_236 rfl ⟨Nat.le_of_ble_eq_true rfl, Nat.le_of_ble_eq_true rfl⟩ ⟨hk, hn⟩ 14 0 rfl rfl rfl rfl (by decide) rfl rfl rfl rfl (Nat.le_of_ble_eq_true rfl) dL_law_1036 rfl ?_
    refine g_istore C (lv1 := [(6, .int ((fX7_changeDate μ a b).1)), (5, .int 0), (0, .ref b0), (1, .ref ax), (2, .ref (am 0)), (3, .ref ao), (4, .int (nI i))]) dL_law_1039 (by decide) rfl ?_
    refine g_aload_n C dL_law_1041 rfl 4 rfl ?_
    refine g_callV C (cs1 := [wX ax (bo 0) (tr 0) (ac 0) (ah 0) (at_ 0), wB E bo ((fX6_changeDate β η σ a b).2.1), wB E tr τ, wC E ac γ, wH E ah bd ((fX6_changeDate β η σ a b).2.2.1), wT E at_ θ, wB E (bd 2) ((fX6_changeDate β η σ a b).2.2.2 2), wB E (bd 3) ((fX6_changeDate β η σ a b).2.2.2 3), wB E (bd 4) ((fX6_changeDate β η σ a b).2.2.2 4), wB E (bd 5) ((fX6_changeDate β η σ a b).2.2.2 5), wB E (bd 6) ((fX6_changeDate β η σ a b).2.2.2 6), wB E (bd 7) ((fX6_changeDate β η σ a b).2.2.2 7), wB E (bd 8) ((fX6_changeDate β η σ a b).2.2.2 8), wB E (bd 9) ((fX6_changeDate β η σ a b).2.2.2 9), wM E am ((fX7_changeDate μ a b).2), wO E ao (vp_updL o 0 ((fX7_changeDate μ a b).1).toInt64)]) (st1 := [.int (fX7_thrown ((fX7_changeDate μ a b).2))]) [] [14] (kX7_thrown l E am ((fX7_changeDate μ a b).2)) caX7_thrown q6_116 rfl ⟨Nat.le_of_ble_eq_true rfl, Nat.le_of_ble_eq_true rfl⟩ ⟨hk, hn⟩ 14 0 rfl rfl rfl rfl (by decide) rfl rfl rfl rfl (Nat.le_of_ble_eq_true rfl) dL_law_1042 rfl ?_
    refine g_iload C dL_law_1045 1 rfl ?_
    refine g_icmp_eq C 1052 dL_law_1047 (by decide) (fun _ => ?_) (fun c => absurd ht c)
    refine g_iload C dL_law_1052 1 rfl ?_
    refine g_if_ne C 1069 dL_law_1054 (by decide) (fun c => absurd rfl c) (fun _ => ?_)
    refine g_aload_n C dL_law_1057 rfl 5 rfl ?_
    refine g_iconst C (v := 0) dL_law_1058 (by decide) ?_
    refine g_laldn C 15 0 0 rfl rfl rfl (by decide) (by decide) dL_law_1059 ?_
    refine g_iload C dL_law_1060 0 rfl ?_
    refine g_i2l C dL_law_1062 ?_
    refine g_lcmp C dL_law_1063 ?_
    refine g_if_eq C 1069 dL_law_1064 (by decide) (fun _ => ?_) (fun c => absurd law_cmp c)
    refine g_goto C 3840 dL_law_1069 (by decide) ?_
    exact g_sub [2, 3, 4, 5, 6] rfl (next ((fX6_changeDate β η σ a b).2.1) τ γ ((fX6_changeDate β η σ a b).2.2.1) ((fX6_changeDate β η σ a b).2.2.2) θ ((fX7_changeDate μ a b).2) (vp_updL o 0 ((fX7_changeDate μ a b).1).toInt64) hR2)
  · skip
    refine g_aload_n C dL_law_1004 rfl 1 rfl ?_
    refine g_aload_n C dL_law_1005 rfl 0 rfl ?_
    refine g_iload C dL_law_1006 4 rfl ?_
    refine g_iconst C (v := 1) dL_law_1008 (by decide) ?_
    refine g_iadd C dL_law_1009 ?_
    refine g_sldv C S (i + 1) (nx_add (rfl : nI i = nI i) (rfl : (1 : Int32) = nI 1)) (by omega) ha9 dL_law_1010 ?_
    refine g_aload_n C dL_law_1011 rfl 0 rfl ?_
    refine g_iload C dL_law_1012 4 rfl ?_
    refine g_iconst C (v := 2) dL_law_1014 (by decide) ?_
    refine g_iadd C dL_law_1015 ?_
    refine g_sldv C S (i + 2) (nx_add (rfl : nI i = nI i) (rfl : (2 : Int32) = nI 2)) (by omega) hb9 dL_law_1016 ?_
    refine g_aload_n C dL_law_1017 rfl 3 rfl ?_
    refine g_callSW C hZ hNc (z := 4) (cs1 := [wX ax (bo 0) (tr 0) (ac 0) (ah 0) (at_ 0), wB E bo ((fX6_changeDate β η σ a b).2.1), wB E tr τ, wC E ac γ, wH E ah bd ((fX6_changeDate β η σ a b).2.2.1), wT E at_ θ, wB E (bd 2) ((fX6_changeDate β η σ a b).2.2.2 2), wB E (bd 3) ((fX6_changeDate β η σ a b).2.2.2 3), wB E (bd 4) ((fX6_changeDate β η σ a b).2.2.2 4), wB E (bd 5) ((fX6_changeDate β η σ a b).2.2.2 5), wB E (bd 6) ((fX6_changeDate β η σ a b).2.2.2 6), wB E (bd 7) ((fX6_changeDate β η σ a b).2.2.2 7), wB E (bd 8) ((fX6_changeDate β η σ a b).2.2.2 8), wB E (bd 9) ((fX6_changeDate β η σ a b).2.2.2 9), wM E am μ, wO E ao o]) (st1 := [.int 1]) [.ref ax, .int a, .int b, .ref ao] [0, 1, 2, 3, 4, 5, 6, 7, 8, 9, 10, 11, 12, 13, 15] (kL_changeDate_0 l E ax bo β tr τ ac γ ah bd η σ at_ θ ao o hlt hvb hvh a b hr) q4_94 q1_0 (by decide +kernel) q4_93 q4_92 rfl ⟨Nat.le_of_ble_eq_true rfl, Nat.le_of_ble_eq_true rfl⟩ ⟨hk, hn⟩ (by decide) rfl rfl rfl rfl (Nat.le_of_ble_eq_true rfl) dL_law_1018 rfl ?_
    refine g_istore C (lv1 := [(5, .int 1), (0, .ref b0), (1, .ref ax), (2, .ref (am 0)), (3, .ref ao), (4, .int (nI i))]) dL_law_1021 (by decide) rfl ?_
    refine g_aload_n C dL_law_1023 rfl 3 rfl ?_
    refine g_aload_n C dL_law_1024 rfl 1 rfl ?_
    refine g_iload C dL_law_1025 5 rfl ?_
    refine g_iconst C (v := 1) dL_law_1027 (by decide) ?_
    refine g_iadd C dL_law_1028 ?_
    refine g_sldv C S (i + 1) (nx_add (rfl : nI i = nI i) (rfl : (1 : Int32) = nI 1)) (by omega) ha9 dL_law_1029 ?_
    refine g_aload_n C dL_law_1030 rfl 1 rfl ?_
    refine g_iload C dL_law_1031 5 rfl ?_
    refine g_iconst C (v := 2) dL_law_1033 (by decide) ?_
    refine g_iadd C dL_law_1034 ?_
    refine g_sldv C S (i + 2) (nx_add (rfl : nI i = nI i) (rfl : (2 : Int32) = nI 2)) (by omega) hb9 dL_law_1035 ?_
    refine g_callV C (cs1 := [wX ax (bo 0) (tr 0) (ac 0) (ah 0) (at_ 0), wB E bo ((fX6_changeDate β η σ a b).2.1), wB E tr τ, wC E ac γ, wH E ah bd ((fX6_changeDate β η σ a b).2.2.1), wT E at_ θ, wB E (bd 2) ((fX6_changeDate β η σ a b).2.2.2 2), wB E (bd 3) ((fX6_changeDate β η σ a b).2.2.2 3), wB E (bd 4) ((fX6_changeDate β η σ a b).2.2.2 4), wB E (bd 5) ((fX6_changeDate β η σ a b).2.2.2 5), wB E (bd 6) ((fX6_changeDate β η σ a b).2.2.2 6), wB E (bd 7) ((fX6_changeDate β η σ a b).2.2.2 7), wB E (bd 8) ((fX6_changeDate β η σ a b).2.2.2 8), wB E (bd 9) ((fX6_changeDate β η σ a b).2.2.2 9), wM E am ((fX7_changeDate μ a b).2), wO E ao o]) (st1 := [.int ((fX7_changeDate μ a b).1)]) [.int a, .int b] [14] (kX7_changeDate l E am μ hvm a b) caX7_changeDate q6_236 rfl ⟨Nat.le_of_ble_eq_true rfl, Nat.le_of_ble_eq_true rfl⟩ ⟨hk, hn⟩ 14 0 rfl rfl rfl rfl (by decide) rfl rfl rfl rfl (Nat.le_of_ble_eq_true rfl) dL_law_1036 rfl ?_
    refine g_istore C (lv1 := [(6, .int ((fX7_changeDate μ a b).1)), (5, .int 1), (0, .ref b0), (1, .ref ax), (2, .ref (am 0)), (3, .ref ao), (4, .int (nI i))]) dL_law_1039 (by decide) rfl ?_
    refine g_aload_n C dL_law_1041 rfl 4 rfl ?_
    refine g_callV C (cs1 := [wX ax (bo 0) (tr 0) (ac 0) (ah 0) (at_ 0), wB E bo ((fX6_changeDate β η σ a b).2.1), wB E tr τ, wC E ac γ, wH E ah bd ((fX6_changeDate β η σ a b).2.2.1), wT E at_ θ, wB E (bd 2) ((fX6_changeDate β η σ a b).2.2.2 2), wB E (bd 3) ((fX6_changeDate β η σ a b).2.2.2 3), wB E (bd 4) ((fX6_changeDate β η σ a b).2.2.2 4), wB E (bd 5) ((fX6_changeDate β η σ a b).2.2.2 5), wB E (bd 6) ((fX6_changeDate β η σ a b).2.2.2 6), wB E (bd 7) ((fX6_changeDate β η σ a b).2.2.2 7), wB E (bd 8) ((fX6_changeDate β η σ a b).2.2.2 8), wB E (bd 9) ((fX6_changeDate β η σ a b).2.2.2 9), wM E am ((fX7_changeDate μ a b).2), wO E ao o]) (st1 := [.int (fX7_thrown ((fX7_changeDate μ a b).2))]) [] [14] (kX7_thrown l E am ((fX7_changeDate μ a b).2)) caX7_thrown q6_116 rfl ⟨Nat.le_of_ble_eq_true rfl, Nat.le_of_ble_eq_true rfl⟩ ⟨hk, hn⟩ 14 0 rfl rfl rfl rfl (by decide) rfl rfl rfl rfl (Nat.le_of_ble_eq_true rfl) dL_law_1042 rfl ?_
    refine g_iload C dL_law_1045 1 rfl ?_
    refine g_icmp_eq C 1052 dL_law_1047 (by decide) (fun _ => ?_) (fun c => absurd ht c)
    refine g_iload C dL_law_1052 1 rfl ?_
    refine g_if_ne C 1069 dL_law_1054 (by decide) (fun _ => ?_) (fun c => absurd c (by decide))
    refine g_goto C 3840 dL_law_1069 (by decide) ?_
    exact g_sub [2, 3, 4, 5, 6] rfl (next ((fX6_changeDate β η σ a b).2.1) τ γ ((fX6_changeDate β η σ a b).2.2.1) ((fX6_changeDate β η σ a b).2.2.2) θ ((fX7_changeDate μ a b).2) o hR2)
  · skip
    refine g_aload_n C dL_law_1004 rfl 1 rfl ?_
    refine g_aload_n C dL_law_1005 rfl 0 rfl ?_
    refine g_iload C dL_law_1006 4 rfl ?_
    refine g_iconst C (v := 1) dL_law_1008 (by decide) ?_
    refine g_iadd C dL_law_1009 ?_
    refine g_sldv C S (i + 1) (nx_add (rfl : nI i = nI i) (rfl : (1 : Int32) = nI 1)) (by omega) ha9 dL_law_1010 ?_
    refine g_aload_n C dL_law_1011 rfl 0 rfl ?_
    refine g_iload C dL_law_1012 4 rfl ?_
    refine g_iconst C (v := 2) dL_law_1014 (by decide) ?_
    refine g_iadd C dL_law_1015 ?_
    refine g_sldv C S (i + 2) (nx_add (rfl : nI i = nI i) (rfl : (2 : Int32) = nI 2)) (by omega) hb9 dL_law_1016 ?_
    refine g_aload_n C dL_law_1017 rfl 3 rfl ?_
    refine g_callSW C hZ hNc (z := 4) (cs1 := [wX ax (bo 0) (tr 0) (ac 0) (ah 0) (at_ 0), wB E bo ((fX6_changeDate β η σ a b).2.1), wB E tr τ, wC E ac γ, wH E ah bd ((fX6_changeDate β η σ a b).2.2.1), wT E at_ θ, wB E (bd 2) ((fX6_changeDate β η σ a b).2.2.2 2), wB E (bd 3) ((fX6_changeDate β η σ a b).2.2.2 3), wB E (bd 4) ((fX6_changeDate β η σ a b).2.2.2 4), wB E (bd 5) ((fX6_changeDate β η σ a b).2.2.2 5), wB E (bd 6) ((fX6_changeDate β η σ a b).2.2.2 6), wB E (bd 7) ((fX6_changeDate β η σ a b).2.2.2 7), wB E (bd 8) ((fX6_changeDate β η σ a b).2.2.2 8), wB E (bd 9) ((fX6_changeDate β η σ a b).2.2.2 9), wM E am μ, wO E ao o]) (st1 := [.int 2]) [.ref ax, .int a, .int b, .ref ao] [0, 1, 2, 3, 4, 5, 6, 7, 8, 9, 10, 11, 12, 13, 15] (kL_changeDate_1 l E ax bo β tr τ ac γ ah bd η σ at_ θ ao o hlt hvb hvh a b hr) q4_94 q1_0 (by decide +kernel) q4_93 q4_92 rfl ⟨Nat.le_of_ble_eq_true rfl, Nat.le_of_ble_eq_true rfl⟩ ⟨hk, hn⟩ (by decide) rfl rfl rfl rfl (Nat.le_of_ble_eq_true rfl) dL_law_1018 rfl ?_
    refine g_istore C (lv1 := [(5, .int 2), (0, .ref b0), (1, .ref ax), (2, .ref (am 0)), (3, .ref ao), (4, .int (nI i))]) dL_law_1021 (by decide) rfl ?_
    refine g_aload_n C dL_law_1023 rfl 3 rfl ?_
    refine g_aload_n C dL_law_1024 rfl 1 rfl ?_
    refine g_iload C dL_law_1025 5 rfl ?_
    refine g_iconst C (v := 1) dL_law_1027 (by decide) ?_
    refine g_iadd C dL_law_1028 ?_
    refine g_sldv C S (i + 1) (nx_add (rfl : nI i = nI i) (rfl : (1 : Int32) = nI 1)) (by omega) ha9 dL_law_1029 ?_
    refine g_aload_n C dL_law_1030 rfl 1 rfl ?_
    refine g_iload C dL_law_1031 5 rfl ?_
    refine g_iconst C (v := 2) dL_law_1033 (by decide) ?_
    refine g_iadd C dL_law_1034 ?_
    refine g_sldv C S (i + 2) (nx_add (rfl : nI i = nI i) (rfl : (2 : Int32) = nI 2)) (by omega) hb9 dL_law_1035 ?_
    refine g_callV C (cs1 := [wX ax (bo 0) (tr 0) (ac 0) (ah 0) (at_ 0), wB E bo ((fX6_changeDate β η σ a b).2.1), wB E tr τ, wC E ac γ, wH E ah bd ((fX6_changeDate β η σ a b).2.2.1), wT E at_ θ, wB E (bd 2) ((fX6_changeDate β η σ a b).2.2.2 2), wB E (bd 3) ((fX6_changeDate β η σ a b).2.2.2 3), wB E (bd 4) ((fX6_changeDate β η σ a b).2.2.2 4), wB E (bd 5) ((fX6_changeDate β η σ a b).2.2.2 5), wB E (bd 6) ((fX6_changeDate β η σ a b).2.2.2 6), wB E (bd 7) ((fX6_changeDate β η σ a b).2.2.2 7), wB E (bd 8) ((fX6_changeDate β η σ a b).2.2.2 8), wB E (bd 9) ((fX6_changeDate β η σ a b).2.2.2 9), wM E am ((fX7_changeDate μ a b).2), wO E ao o]) (st1 := [.int ((fX7_changeDate μ a b).1)]) [.int a, .int b] [14] (kX7_changeDate l E am μ hvm a b) caX7_changeDate q6_236 rfl ⟨Nat.le_of_ble_eq_true rfl, Nat.le_of_ble_eq_true rfl⟩ ⟨hk, hn⟩ 14 0 rfl rfl rfl rfl (by decide) rfl rfl rfl rfl (Nat.le_of_ble_eq_true rfl) dL_law_1036 rfl ?_
    refine g_istore C (lv1 := [(6, .int ((fX7_changeDate μ a b).1)), (5, .int 2), (0, .ref b0), (1, .ref ax), (2, .ref (am 0)), (3, .ref ao), (4, .int (nI i))]) dL_law_1039 (by decide) rfl ?_
    refine g_aload_n C dL_law_1041 rfl 4 rfl ?_
    refine g_callV C (cs1 := [wX ax (bo 0) (tr 0) (ac 0) (ah 0) (at_ 0), wB E bo ((fX6_changeDate β η σ a b).2.1), wB E tr τ, wC E ac γ, wH E ah bd ((fX6_changeDate β η σ a b).2.2.1), wT E at_ θ, wB E (bd 2) ((fX6_changeDate β η σ a b).2.2.2 2), wB E (bd 3) ((fX6_changeDate β η σ a b).2.2.2 3), wB E (bd 4) ((fX6_changeDate β η σ a b).2.2.2 4), wB E (bd 5) ((fX6_changeDate β η σ a b).2.2.2 5), wB E (bd 6) ((fX6_changeDate β η σ a b).2.2.2 6), wB E (bd 7) ((fX6_changeDate β η σ a b).2.2.2 7), wB E (bd 8) ((fX6_changeDate β η σ a b).2.2.2 8), wB E (bd 9) ((fX6_changeDate β η σ a b).2.2.2 9), wM E am ((fX7_changeDate μ a b).2), wO E ao o]) (st1 := [.int (fX7_thrown ((fX7_changeDate μ a b).2))]) [] [14] (kX7_thrown l E am ((fX7_changeDate μ a b).2)) caX7_thrown q6_116 rfl ⟨Nat.le_of_ble_eq_true rfl, Nat.le_of_ble_eq_true rfl⟩ ⟨hk, hn⟩ 14 0 rfl rfl rfl rfl (by decide) rfl rfl rfl rfl (Nat.le_of_ble_eq_true rfl) dL_law_1042 rfl ?_
    refine g_iload C dL_law_1045 1 rfl ?_
    refine g_icmp_eq C 1052 dL_law_1047 (by decide) (fun _ => ?_) (fun c => absurd ht c)
    refine g_iload C dL_law_1052 1 rfl ?_
    refine g_if_ne C 1069 dL_law_1054 (by decide) (fun _ => ?_) (fun c => absurd c (by decide))
    refine g_goto C 3840 dL_law_1069 (by decide) ?_
    exact g_sub [2, 3, 4, 5, 6] rfl (next ((fX6_changeDate β η σ a b).2.1) τ γ ((fX6_changeDate β η σ a b).2.2.1) ((fX6_changeDate β η σ a b).2.2.2) θ ((fX7_changeDate μ a b).2) o hR2)
set_option maxHeartbeats 4000000 in
set_option maxRecDepth 100000 in
theorem arm_11 {Rl : RlT} (hRv : RlV Rl) (hs : sH_endDays Rl)  {X : gX} {l : Launch} {E : gE} (C : gC X cL_law 9 RL (some .boolean) l E room_1) (hZ : gZ X.2.2.2.2.2.2.2.2.2.2.2.1 X.2.2.2.2.1 X.2.2.2.2.1.heap) (hNc : gNc X.2.2.2.2.1) {b0 L0 : Nat} {xs : Nat → Int32} (S : gS X b0 L0 xs) (hlt : l.stackTraces = false) {ax : Nat} {bo tr ac ah : Nat → Nat} {bd : Nat → Nat → Nat} {at_ am : Nat → Nat} {ao k n i : Nat} (hk : k + 3 ≤ 601024) (hn : n + 18 ≤ 7293034) (hi : i + 3 ≤ L0) {β τ γ η : BS} {σ : Nat → BS} {θ μ : BS} {o : Nat → Int64} (hR : Rl β η θ σ μ) (next : ∀ (β τ γ η : BS) (σ : Nat → BS) (θ μ : BS) (o : Nat → Int64), Rl β η θ σ μ → G X (k + 3) (n + 18) [wX ax (bo 0) (tr 0) (ac 0) (ah 0) (at_ 0), wB E bo β, wB E tr τ, wC E ac γ, wH E ah bd η, wT E at_ θ, wB E (bd 2) (σ 2), wB E (bd 3) (σ 3), wB E (bd 4) (σ 4), wB E (bd 5) (σ 5), wB E (bd 6) (σ 6), wB E (bd 7) (σ 7), wB E (bd 8) (σ 8), wB E (bd 9) (σ 9), wM E am μ, wO E ao o] [(0, .ref b0), (1, .ref ax), (2, .ref (am 0)), (3, .ref ao), (4, .int (nI i))] 3840 []) : G X k n [wX ax (bo 0) (tr 0) (ac 0) (ah 0) (at_ 0), wB E bo β, wB E tr τ, wC E ac γ, wH E ah bd η, wT E at_ θ, wB E (bd 2) (σ 2), wB E (bd 3) (σ 3), wB E (bd 4) (σ 4), wB E (bd 5) (σ 5), wB E (bd 6) (σ 6), wB E (bd 7) (σ 7), wB E (bd 8) (σ 8), wB E (bd 9) (σ 9), wM E am μ, wO E ao o] [(0, .ref b0), (1, .ref ax), (2, .ref (am 0)), (3, .ref ao), (4, .int (nI i))] 1072 [] := by
  obtain ⟨hvb, hvh, hvt, hvm, ha⟩ := hRv β η θ σ μ hR
  obtain ⟨a, ha9⟩ : ∃ a, xs (i + 1) = a := ⟨_, rfl⟩
  obtain ⟨hag, hR2⟩ := hs β τ γ η σ θ μ a hR
  rcases hag with ⟨hr, ht⟩ | ⟨hr, ht⟩ | ⟨hr, ht⟩
  · skip
    refine g_aload_n C dL_law_1072 rfl 1 rfl ?_
    refine g_aload_n C dL_law_1073 rfl 0 rfl ?_
    refine g_iload C dL_law_1074 4 rfl ?_
    refine g_iconst C (v := 1) dL_law_1076 (by decide) ?_
    refine g_iadd C dL_law_1077 ?_
    refine g_sldv C S (i + 1) (nx_add (rfl : nI i = nI i) (rfl : (1 : Int32) = nI 1)) (by omega) ha9 dL_law_1078 ?_
    refine g_aload_n C dL_law_1079 rfl 3 rfl ?_
    refine g_callSW C hZ hNc (z := 3) (cs1 := [wX ax (bo 0) (tr 0) (ac 0) (ah 0) (at_ 0), wB E bo ((fX6_endDays β η σ a).2.1), wB E tr τ, wC E ac γ, wH E ah bd ((fX6_endDays β η σ a).2.2.1), wT E at_ θ, wB E (bd 2) ((fX6_endDays β η σ a).2.2.2 2), wB E (bd 3) ((fX6_endDays β η σ a).2.2.2 3), wB E (bd 4) ((fX6_endDays β η σ a).2.2.2 4), wB E (bd 5) ((fX6_endDays β η σ a).2.2.2 5), wB E (bd 6) ((fX6_endDays β η σ a).2.2.2 6), wB E (bd 7) ((fX6_endDays β η σ a).2.2.2 7), wB E (bd 8) ((fX6_endDays β η σ a).2.2.2 8), wB E (bd 9) ((fX6_endDays β η σ a).2.2.2 9), wM E am μ, wO E ao (vp_updL o 0 ((fX7_endDays μ a).1).toInt64)]) (st1 := [.int 0]) [.ref ax, .int a, .ref ao] [0, 1, 2, 3, 4, 5, 6, 7, 8, 9, 10, 11, 12, 13, 15] (kL_endDays_r l E ax bo β tr τ ac γ ah bd η σ at_ θ ao o hlt hvb hvh a ((fX7_endDays μ a).1) hr) q4_105 q1_0 (by decide +kernel) q4_104 q4_103 rfl ⟨Nat.le_of_ble_eq_true rfl, Nat.le_of_ble_eq_true rfl⟩ ⟨hk, hn⟩ (by decide) rfl rfl rfl rfl (Nat.le_of_ble_eq_true rfl) dL_law_1080 rfl ?_
    refine g_istore C (lv1 := [(5, .int 0), (0, .ref b0), (1, .ref ax), (2, .ref (am 0)), (3, .ref ao), (4, .int (nI i))]) dL_law_1083 (by decide) rfl ?_
    refine g_aload_n C dL_law_1085 rfl 3 rfl ?_
    refine g_aload_n C dL_law_1086 rfl 1 rfl ?_
    refine g_iload C dL_law_1087 5 rfl ?_
    refine g_iconst C (v := 1) dL_law_1089 (by decide) ?_
    refine g_iadd C dL_law_1090 ?_
    refine g_sldv C S (i + 1) (nx_add (rfl : nI i = nI i) (rfl : (1 : Int32) = nI 1)) (by omega) ha9 dL_law_1091 ?_
    refine g_callV C (cs1 := [wX ax (bo 0) (tr 0) (ac 0) (ah 0) (at_ 0), wB E bo ((fX6_endDays β η σ a).2.1), wB E tr τ, wC E ac γ, wH E ah bd ((fX6_endDays β η σ a).2.2.1), wT E at_ θ, wB E (bd 2) ((fX6_endDays β η σ a).2.2.2 2), wB E (bd 3) ((fX6_endDays β η σ a).2.2.2 3), wB E (bd 4) ((fX6_endDays β η σ a).2.2.2 4), wB E (bd 5) ((fX6_endDays β η σ a).2.2.2 5), wB E (bd 6) ((fX6_endDays β η σ a).2.2.2 6), wB E (bd 7) ((fX6_endDays β η σ a).2.2.2 7), wB E (bd 8) ((fX6_endDays β η σ a).2.2.2 8), wB E (bd 9) ((fX6_endDays β η σ a).2.2.2 9), wM E am ((fX7_endDays μ a).2), wO E ao (vp_updL o 0 ((fX7_endDays μ a).1).toInt64)]) (st1 := [.int ((fX7_endDays μ a).1)]) [.int a] [14] (kX7_endDays l E am μ hvm a) caX7_endDays q7_0 rfl ⟨Nat.le_of_ble_eq_true rfl, Nat.le_of_ble_eq_true rfl⟩ ⟨hk, hn⟩ 14 0 rfl rfl rfl rfl (by decide) rfl rfl rfl rfl (Nat.le_of_ble_eq_true rfl) dL_law_1092 rfl ?_
    refine g_istore C (lv1 := [(6, .int ((fX7_endDays μ a).1)), (5, .int 0), (0, .ref b0), (1, .ref ax), (2, .ref (am 0)), (3, .ref ao), (4, .int (nI i))]) dL_law_1095 (by decide) rfl ?_
    refine g_aload_n C dL_law_1097 rfl 4 rfl ?_
    refine g_callV C (cs1 := [wX ax (bo 0) (tr 0) (ac 0) (ah 0) (at_ 0), wB E bo ((fX6_endDays β η σ a).2.1), wB E tr τ, wC E ac γ, wH E ah bd ((fX6_endDays β η σ a).2.2.1), wT E at_ θ, wB E (bd 2) ((fX6_endDays β η σ a).2.2.2 2), wB E (bd 3) ((fX6_endDays β η σ a).2.2.2 3), wB E (bd 4) ((fX6_endDays β η σ a).2.2.2 4), wB E (bd 5) ((fX6_endDays β η σ a).2.2.2 5), wB E (bd 6) ((fX6_endDays β η σ a).2.2.2 6), wB E (bd 7) ((fX6_endDays β η σ a).2.2.2 7), wB E (bd 8) ((fX6_endDays β η σ a).2.2.2 8), wB E (bd 9) ((fX6_endDays β η σ a).2.2.2 9), wM E am ((fX7_endDays μ a).2), wO E ao (vp_updL o 0 ((fX7_endDays μ a).1).toInt64)]) (st1 := [.int (fX7_thrown ((fX7_endDays μ a).2))]) [] [14] (kX7_thrown l E am ((fX7_endDays μ a).2)) caX7_thrown q6_116 rfl ⟨Nat.le_of_ble_eq_true rfl, Nat.le_of_ble_eq_true rfl⟩ ⟨hk, hn⟩ 14 0 rfl rfl rfl rfl (by decide) rfl rfl rfl rfl (Nat.le_of_ble_eq_true rfl) dL_law_1098 rfl ?_
    refine g_iload C dL_law_1101 1 rfl ?_
    refine g_icmp_eq C 1108 dL_law_1103 (by decide) (fun _ => ?_) (fun c => absurd ht c)
    refine g_iload C dL_law_1108 1 rfl ?_
    refine g_if_ne C 1125 dL_law_1110 (by decide) (fun c => absurd rfl c) (fun _ => ?_)
    refine g_aload_n C dL_law_1113 rfl 5 rfl ?_
    refine g_iconst C (v := 0) dL_law_1114 (by decide) ?_
    refine g_laldn C 15 0 0 rfl rfl rfl (by decide) (by decide) dL_law_1115 ?_
    refine g_iload C dL_law_1116 0 rfl ?_
    refine g_i2l C dL_law_1118 ?_
    refine g_lcmp C dL_law_1119 ?_
    refine g_if_eq C 1125 dL_law_1120 (by decide) (fun _ => ?_) (fun c => absurd law_cmp c)
    refine g_goto C 3840 dL_law_1125 (by decide) ?_
    exact g_sub [2, 3, 4, 5, 6] rfl (next ((fX6_endDays β η σ a).2.1) τ γ ((fX6_endDays β η σ a).2.2.1) ((fX6_endDays β η σ a).2.2.2) θ ((fX7_endDays μ a).2) (vp_updL o 0 ((fX7_endDays μ a).1).toInt64) hR2)
  · skip
    refine g_aload_n C dL_law_1072 rfl 1 rfl ?_
    refine g_aload_n C dL_law_1073 rfl 0 rfl ?_
    refine g_iload C dL_law_1074 4 rfl ?_
    refine g_iconst C (v := 1) dL_law_1076 (by decide) ?_
    refine g_iadd C dL_law_1077 ?_
    refine g_sldv C S (i + 1) (nx_add (rfl : nI i = nI i) (rfl : (1 : Int32) = nI 1)) (by omega) ha9 dL_law_1078 ?_
    refine g_aload_n C dL_law_1079 rfl 3 rfl ?_
    refine g_callSW C hZ hNc (z := 3) (cs1 := [wX ax (bo 0) (tr 0) (ac 0) (ah 0) (at_ 0), wB E bo ((fX6_endDays β η σ a).2.1), wB E tr τ, wC E ac γ, wH E ah bd ((fX6_endDays β η σ a).2.2.1), wT E at_ θ, wB E (bd 2) ((fX6_endDays β η σ a).2.2.2 2), wB E (bd 3) ((fX6_endDays β η σ a).2.2.2 3), wB E (bd 4) ((fX6_endDays β η σ a).2.2.2 4), wB E (bd 5) ((fX6_endDays β η σ a).2.2.2 5), wB E (bd 6) ((fX6_endDays β η σ a).2.2.2 6), wB E (bd 7) ((fX6_endDays β η σ a).2.2.2 7), wB E (bd 8) ((fX6_endDays β η σ a).2.2.2 8), wB E (bd 9) ((fX6_endDays β η σ a).2.2.2 9), wM E am μ, wO E ao o]) (st1 := [.int 1]) [.ref ax, .int a, .ref ao] [0, 1, 2, 3, 4, 5, 6, 7, 8, 9, 10, 11, 12, 13, 15] (kL_endDays_0 l E ax bo β tr τ ac γ ah bd η σ at_ θ ao o hlt hvb hvh a hr) q4_105 q1_0 (by decide +kernel) q4_104 q4_103 rfl ⟨Nat.le_of_ble_eq_true rfl, Nat.le_of_ble_eq_true rfl⟩ ⟨hk, hn⟩ (by decide) rfl rfl rfl rfl (Nat.le_of_ble_eq_true rfl) dL_law_1080 rfl ?_
    refine g_istore C (lv1 := [(5, .int 1), (0, .ref b0), (1, .ref ax), (2, .ref (am 0)), (3, .ref ao), (4, .int (nI i))]) dL_law_1083 (by decide) rfl ?_
    refine g_aload_n C dL_law_1085 rfl 3 rfl ?_
    refine g_aload_n C dL_law_1086 rfl 1 rfl ?_
    refine g_iload C dL_law_1087 5 rfl ?_
    refine g_iconst C (v := 1) dL_law_1089 (by decide) ?_
    refine g_iadd C dL_law_1090 ?_
    refine g_sldv C S (i + 1) (nx_add (rfl : nI i = nI i) (rfl : (1 : Int32) = nI 1)) (by omega) ha9 dL_law_1091 ?_
    refine g_callV C (cs1 := [wX ax (bo 0) (tr 0) (ac 0) (ah 0) (at_ 0), wB E bo ((fX6_endDays β η σ a).2.1), wB E tr τ, wC E ac γ, wH E ah bd ((fX6_endDays β η σ a).2.2.1), wT E at_ θ, wB E (bd 2) ((fX6_endDays β η σ a).2.2.2 2), wB E (bd 3) ((fX6_endDays β η σ a).2.2.2 3), wB E (bd 4) ((fX6_endDays β η σ a).2.2.2 4), wB E (bd 5) ((fX6_endDays β η σ a).2.2.2 5), wB E (bd 6) ((fX6_endDays β η σ a).2.2.2 6), wB E (bd 7) ((fX6_endDays β η σ a).2.2.2 7), wB E (bd 8) ((fX6_endDays β η σ a).2.2.2 8), wB E (bd 9) ((fX6_endDays β η σ a).2.2.2 9), wM E am ((fX7_endDays μ a).2), wO E ao o]) (st1 := [.int ((fX7_endDays μ a).1)]) [.int a] [14] (kX7_endDays l E am μ hvm a) caX7_endDays q7_0 rfl ⟨Nat.le_of_ble_eq_true rfl, Nat.le_of_ble_eq_true rfl⟩ ⟨hk, hn⟩ 14 0 rfl rfl rfl rfl (by decide) rfl rfl rfl rfl (Nat.le_of_ble_eq_true rfl) dL_law_1092 rfl ?_
    refine g_istore C (lv1 := [(6, .int ((fX7_endDays μ a).1)), (5, .int 1), (0, .ref b0), (1, .ref ax), (2, .ref (am 0)), (3, .ref ao), (4, .int (nI i))]) dL_law_1095 (by decide) rfl ?_
    refine g_aload_n C dL_law_1097 rfl 4 rfl ?_
    refine g_callV C (cs1 := [wX ax (bo 0) (tr 0) (ac 0) (ah 0) (at_ 0), wB E bo ((fX6_endDays β η σ a).2.1), wB E tr τ, wC E ac γ, wH E ah bd ((fX6_endDays β η σ a).2.2.1), wT E at_ θ, wB E (bd 2) ((fX6_endDays β η σ a).2.2.2 2), wB E (bd 3) ((fX6_endDays β η σ a).2.2.2 3), wB E (bd 4) ((fX6_endDays β η σ a).2.2.2 4), wB E (bd 5) ((fX6_endDays β η σ a).2.2.2 5), wB E (bd 6) ((fX6_endDays β η σ a).2.2.2 6), wB E (bd 7) ((fX6_endDays β η σ a).2.2.2 7), wB E (bd 8) ((fX6_endDays β η σ a).2.2.2 8), wB E (bd 9) ((fX6_endDays β η σ a).2.2.2 9), wM E am ((fX7_endDays μ a).2), wO E ao o]) (st1 := [.int (fX7_thrown ((fX7_endDays μ a).2))]) [] [14] (kX7_thrown l E am ((fX7_endDays μ a).2)) caX7_thrown q6_116 rfl ⟨Nat.le_of_ble_eq_true rfl, Nat.le_of_ble_eq_true rfl⟩ ⟨hk, hn⟩ 14 0 rfl rfl rfl rfl (by decide) rfl rfl rfl rfl (Nat.le_of_ble_eq_true rfl) dL_law_1098 rfl ?_
    refine g_iload C dL_law_1101 1 rfl ?_
    refine g_icmp_eq C 1108 dL_law_1103 (by decide) (fun _ => ?_) (fun c => absurd ht c)
    refine g_iload C dL_law_1108 1 rfl ?_
    refine g_if_ne C 1125 dL_law_1110 (by decide) (fun _ => ?_) (fun c => absurd c (by decide))
    refine g_goto C 3840 dL_law_1125 (by decide) ?_
    exact g_sub [2, 3, 4, 5, 6] rfl (next ((fX6_endDays β η σ a).2.1) τ γ ((fX6_endDays β η σ a).2.2.1) ((fX6_endDays β η σ a).2.2.2) θ ((fX7_endDays μ a).2) o hR2)
  · skip
    refine g_aload_n C dL_law_1072 rfl 1 rfl ?_
    refine g_aload_n C dL_law_1073 rfl 0 rfl ?_
    refine g_iload C dL_law_1074 4 rfl ?_
    refine g_iconst C (v := 1) dL_law_1076 (by decide) ?_
    refine g_iadd C dL_law_1077 ?_
    refine g_sldv C S (i + 1) (nx_add (rfl : nI i = nI i) (rfl : (1 : Int32) = nI 1)) (by omega) ha9 dL_law_1078 ?_
    refine g_aload_n C dL_law_1079 rfl 3 rfl ?_
    refine g_callSW C hZ hNc (z := 3) (cs1 := [wX ax (bo 0) (tr 0) (ac 0) (ah 0) (at_ 0), wB E bo ((fX6_endDays β η σ a).2.1), wB E tr τ, wC E ac γ, wH E ah bd ((fX6_endDays β η σ a).2.2.1), wT E at_ θ, wB E (bd 2) ((fX6_endDays β η σ a).2.2.2 2), wB E (bd 3) ((fX6_endDays β η σ a).2.2.2 3), wB E (bd 4) ((fX6_endDays β η σ a).2.2.2 4), wB E (bd 5) ((fX6_endDays β η σ a).2.2.2 5), wB E (bd 6) ((fX6_endDays β η σ a).2.2.2 6), wB E (bd 7) ((fX6_endDays β η σ a).2.2.2 7), wB E (bd 8) ((fX6_endDays β η σ a).2.2.2 8), wB E (bd 9) ((fX6_endDays β η σ a).2.2.2 9), wM E am μ, wO E ao o]) (st1 := [.int 2]) [.ref ax, .int a, .ref ao] [0, 1, 2, 3, 4, 5, 6, 7, 8, 9, 10, 11, 12, 13, 15] (kL_endDays_1 l E ax bo β tr τ ac γ ah bd η σ at_ θ ao o hlt hvb hvh a hr) q4_105 q1_0 (by decide +kernel) q4_104 q4_103 rfl ⟨Nat.le_of_ble_eq_true rfl, Nat.le_of_ble_eq_true rfl⟩ ⟨hk, hn⟩ (by decide) rfl rfl rfl rfl (Nat.le_of_ble_eq_true rfl) dL_law_1080 rfl ?_
    refine g_istore C (lv1 := [(5, .int 2), (0, .ref b0), (1, .ref ax), (2, .ref (am 0)), (3, .ref ao), (4, .int (nI i))]) dL_law_1083 (by decide) rfl ?_
    refine g_aload_n C dL_law_1085 rfl 3 rfl ?_
    refine g_aload_n C dL_law_1086 rfl 1 rfl ?_
    refine g_iload C dL_law_1087 5 rfl ?_
    refine g_iconst C (v := 1) dL_law_1089 (by decide) ?_
    refine g_iadd C dL_law_1090 ?_
    refine g_sldv C S (i + 1) (nx_add (rfl : nI i = nI i) (rfl : (1 : Int32) = nI 1)) (by omega) ha9 dL_law_1091 ?_
    refine g_callV C (cs1 := [wX ax (bo 0) (tr 0) (ac 0) (ah 0) (at_ 0), wB E bo ((fX6_endDays β η σ a).2.1), wB E tr τ, wC E ac γ, wH E ah bd ((fX6_endDays β η σ a).2.2.1), wT E at_ θ, wB E (bd 2) ((fX6_endDays β η σ a).2.2.2 2), wB E (bd 3) ((fX6_endDays β η σ a).2.2.2 3), wB E (bd 4) ((fX6_endDays β η σ a).2.2.2 4), wB E (bd 5) ((fX6_endDays β η σ a).2.2.2 5), wB E (bd 6) ((fX6_endDays β η σ a).2.2.2 6), wB E (bd 7) ((fX6_endDays β η σ a).2.2.2 7), wB E (bd 8) ((fX6_endDays β η σ a).2.2.2 8), wB E (bd 9) ((fX6_endDays β η σ a).2.2.2 9), wM E am ((fX7_endDays μ a).2), wO E ao o]) (st1 := [.int ((fX7_endDays μ a).1)]) [.int a] [14] (kX7_endDays l E am μ hvm a) caX7_endDays q7_0 rfl ⟨Nat.le_of_ble_eq_true rfl, Nat.le_of_ble_eq_true rfl⟩ ⟨hk, hn⟩ 14 0 rfl rfl rfl rfl (by decide) rfl rfl rfl rfl (Nat.le_of_ble_eq_true rfl) dL_law_1092 rfl ?_
    refine g_istore C (lv1 := [(6, .int ((fX7_endDays μ a).1)), (5, .int 2), (0, .ref b0), (1, .ref ax), (2, .ref (am 0)), (3, .ref ao), (4, .int (nI i))]) dL_law_1095 (by decide) rfl ?_
    refine g_aload_n C dL_law_1097 rfl 4 rfl ?_
    refine g_callV C (cs1 := [wX ax (bo 0) (tr 0) (ac 0) (ah 0) (at_ 0), wB E bo ((fX6_endDays β η σ a).2.1), wB E tr τ, wC E ac γ, wH E ah bd ((fX6_endDays β η σ a).2.2.1), wT E at_ θ, wB E (bd 2) ((fX6_endDays β η σ a).2.2.2 2), wB E (bd 3) ((fX6_endDays β η σ a).2.2.2 3), wB E (bd 4) ((fX6_endDays β η σ a).2.2.2 4), wB E (bd 5) ((fX6_endDays β η σ a).2.2.2 5), wB E (bd 6) ((fX6_endDays β η σ a).2.2.2 6), wB E (bd 7) ((fX6_endDays β η σ a).2.2.2 7), wB E (bd 8) ((fX6_endDays β η σ a).2.2.2 8), wB E (bd 9) ((fX6_endDays β η σ a).2.2.2 9), wM E am ((fX7_endDays μ a).2), wO E ao o]) (st1 := [.int (fX7_thrown ((fX7_endDays μ a).2))]) [] [14] (kX7_thrown l E am ((fX7_endDays μ a).2)) caX7_thrown q6_116 rfl ⟨Nat.le_of_ble_eq_true rfl, Nat.le_of_ble_eq_true rfl⟩ ⟨hk, hn⟩ 14 0 rfl rfl rfl rfl (by decide) rfl rfl rfl rfl (Nat.le_of_ble_eq_true rfl) dL_law_1098 rfl ?_
    refine g_iload C dL_law_1101 1 rfl ?_
    refine g_icmp_eq C 1108 dL_law_1103 (by decide) (fun _ => ?_) (fun c => absurd ht c)
    refine g_iload C dL_law_1108 1 rfl ?_
    refine g_if_ne C 1125 dL_law_1110 (by decide) (fun _ => ?_) (fun c => absurd c (by decide))
    refine g_goto C 3840 dL_law_1125 (by decide) ?_
    exact g_sub [2, 3, 4, 5, 6] rfl (next ((fX6_endDays β η σ a).2.1) τ γ ((fX6_endDays β η σ a).2.2.1) ((fX6_endDays β η σ a).2.2.2) θ ((fX7_endDays μ a).2) o hR2)
set_option maxHeartbeats 4000000 in
set_option maxRecDepth 100000 in
theorem arm_12 {Rl : RlT} (hRv : RlV Rl) (hs : sH_start Rl)  {X : gX} {l : Launch} {E : gE} (C : gC X cL_law 9 RL (some .boolean) l E room_1) (hZ : gZ X.2.2.2.2.2.2.2.2.2.2.2.1 X.2.2.2.2.1 X.2.2.2.2.1.heap) (hNc : gNc X.2.2.2.2.1) {b0 L0 : Nat} {xs : Nat → Int32} (S : gS X b0 L0 xs) (hlt : l.stackTraces = false) {ax : Nat} {bo tr ac ah : Nat → Nat} {bd : Nat → Nat → Nat} {at_ am : Nat → Nat} {ao k n i : Nat} (hk : k + 3 ≤ 601024) (hn : n + 18 ≤ 7293034) (hi : i + 3 ≤ L0) {β τ γ η : BS} {σ : Nat → BS} {θ μ : BS} {o : Nat → Int64} (hR : Rl β η θ σ μ) (next : ∀ (β τ γ η : BS) (σ : Nat → BS) (θ μ : BS) (o : Nat → Int64), Rl β η θ σ μ → G X (k + 3) (n + 18) [wX ax (bo 0) (tr 0) (ac 0) (ah 0) (at_ 0), wB E bo β, wB E tr τ, wC E ac γ, wH E ah bd η, wT E at_ θ, wB E (bd 2) (σ 2), wB E (bd 3) (σ 3), wB E (bd 4) (σ 4), wB E (bd 5) (σ 5), wB E (bd 6) (σ 6), wB E (bd 7) (σ 7), wB E (bd 8) (σ 8), wB E (bd 9) (σ 9), wM E am μ, wO E ao o] [(0, .ref b0), (1, .ref ax), (2, .ref (am 0)), (3, .ref ao), (4, .int (nI i))] 3840 []) : G X k n [wX ax (bo 0) (tr 0) (ac 0) (ah 0) (at_ 0), wB E bo β, wB E tr τ, wC E ac γ, wH E ah bd η, wT E at_ θ, wB E (bd 2) (σ 2), wB E (bd 3) (σ 3), wB E (bd 4) (σ 4), wB E (bd 5) (σ 5), wB E (bd 6) (σ 6), wB E (bd 7) (σ 7), wB E (bd 8) (σ 8), wB E (bd 9) (σ 9), wM E am μ, wO E ao o] [(0, .ref b0), (1, .ref ax), (2, .ref (am 0)), (3, .ref ao), (4, .int (nI i))] 1128 [] := by
  obtain ⟨hvb, hvh, hvt, hvm, ha⟩ := hRv β η θ σ μ hR
  obtain ⟨a, ha9⟩ : ∃ a, xs (i + 1) = a := ⟨_, rfl⟩
  obtain ⟨hag, hR2⟩ := hs β τ γ η σ θ μ a hR
  rcases hag with ⟨hr, ht⟩ | ⟨hr, ht⟩ | ⟨hr, ht⟩
  · skip
    refine g_aload_n C dL_law_1128 rfl 1 rfl ?_
    refine g_aload_n C dL_law_1129 rfl 0 rfl ?_
    refine g_iload C dL_law_1130 4 rfl ?_
    refine g_iconst C (v := 1) dL_law_1132 (by decide) ?_
    refine g_iadd C dL_law_1133 ?_
    refine g_sldv C S (i + 1) (nx_add (rfl : nI i = nI i) (rfl : (1 : Int32) = nI 1)) (by omega) ha9 dL_law_1134 ?_
    refine g_callSW C hZ hNc (z := 2) (cs1 := [wX ax (bo 0) (tr 0) (ac 0) (ah 0) (at_ 0), wB E bo ((fX6_start β η σ a).2.1), wB E tr τ, wC E ac γ, wH E ah bd ((fX6_start β η σ a).2.2.1), wT E at_ θ, wB E (bd 2) ((fX6_start β η σ a).2.2.2 2), wB E (bd 3) ((fX6_start β η σ a).2.2.2 3), wB E (bd 4) ((fX6_start β η σ a).2.2.2 4), wB E (bd 5) ((fX6_start β η σ a).2.2.2 5), wB E (bd 6) ((fX6_start β η σ a).2.2.2 6), wB E (bd 7) ((fX6_start β η σ a).2.2.2 7), wB E (bd 8) ((fX6_start β η σ a).2.2.2 8), wB E (bd 9) ((fX6_start β η σ a).2.2.2 9), wM E am μ, wO E ao o]) (st1 := [.int 0]) [.ref ax, .int a] [0, 1, 2, 3, 4, 5, 6, 7, 8, 9, 10, 11, 12, 13] (kL_start_r l E ax bo β tr τ ac γ ah bd η σ at_ θ hlt hvb hvh a hr) q4_120 q1_0 (by decide +kernel) q4_119 q4_118 rfl ⟨Nat.le_of_ble_eq_true rfl, Nat.le_of_ble_eq_true rfl⟩ ⟨hk, hn⟩ (by decide) rfl rfl rfl rfl (Nat.le_of_ble_eq_true rfl) dL_law_1135 rfl ?_
    refine g_istore C (lv1 := [(5, .int 0), (0, .ref b0), (1, .ref ax), (2, .ref (am 0)), (3, .ref ao), (4, .int (nI i))]) dL_law_1138 (by decide) rfl ?_
    refine g_aload_n C dL_law_1140 rfl 3 rfl ?_
    refine g_aload_n C dL_law_1141 rfl 1 rfl ?_
    refine g_iload C dL_law_1142 5 rfl ?_
    refine g_iconst C (v := 1) dL_law_1144 (by decide) ?_
    refine g_iadd C dL_law_1145 ?_
    refine g_sldv C S (i + 1) (nx_add (rfl : nI i = nI i) (rfl : (1 : Int32) = nI 1)) (by omega) ha9 dL_law_1146 ?_
    refine g_callV C (cs1 := [wX ax (bo 0) (tr 0) (ac 0) (ah 0) (at_ 0), wB E bo ((fX6_start β η σ a).2.1), wB E tr τ, wC E ac γ, wH E ah bd ((fX6_start β η σ a).2.2.1), wT E at_ θ, wB E (bd 2) ((fX6_start β η σ a).2.2.2 2), wB E (bd 3) ((fX6_start β η σ a).2.2.2 3), wB E (bd 4) ((fX6_start β η σ a).2.2.2 4), wB E (bd 5) ((fX6_start β η σ a).2.2.2 5), wB E (bd 6) ((fX6_start β η σ a).2.2.2 6), wB E (bd 7) ((fX6_start β η σ a).2.2.2 7), wB E (bd 8) ((fX6_start β η σ a).2.2.2 8), wB E (bd 9) ((fX6_start β η σ a).2.2.2 9), wM E am (fX7_start μ a), wO E ao o]) (st1 := []) [.int a] [14] (kX7_start l E am μ hvm a) caX7_start q7_8 rfl ⟨Nat.le_of_ble_eq_true rfl, Nat.le_of_ble_eq_true rfl⟩ ⟨hk, hn⟩ 14 0 rfl rfl rfl rfl (by decide) rfl rfl rfl rfl (Nat.le_of_ble_eq_true rfl) dL_law_1147 rfl ?_
    refine g_aload_n C dL_law_1150 rfl 3 rfl ?_
    refine g_callV C (cs1 := [wX ax (bo 0) (tr 0) (ac 0) (ah 0) (at_ 0), wB E bo ((fX6_start β η σ a).2.1), wB E tr τ, wC E ac γ, wH E ah bd ((fX6_start β η σ a).2.2.1), wT E at_ θ, wB E (bd 2) ((fX6_start β η σ a).2.2.2 2), wB E (bd 3) ((fX6_start β η σ a).2.2.2 3), wB E (bd 4) ((fX6_start β η σ a).2.2.2 4), wB E (bd 5) ((fX6_start β η σ a).2.2.2 5), wB E (bd 6) ((fX6_start β η σ a).2.2.2 6), wB E (bd 7) ((fX6_start β η σ a).2.2.2 7), wB E (bd 8) ((fX6_start β η σ a).2.2.2 8), wB E (bd 9) ((fX6_start β η σ a).2.2.2 9), wM E am (fX7_start μ a), wO E ao o]) (st1 := [.int (fX7_thrown (fX7_start μ a))]) [] [14] (kX7_thrown l E am (fX7_start μ a)) caX7_thrown q6_116 rfl ⟨Nat.le_of_ble_eq_true rfl, Nat.le_of_ble_eq_true rfl⟩ ⟨hk, hn⟩ 14 0 rfl rfl rfl rfl (by decide) rfl rfl rfl rfl (Nat.le_of_ble_eq_true rfl) dL_law_1151 rfl ?_
    refine g_iload C dL_law_1154 0 rfl ?_
    refine g_icmp_eq C 1161 dL_law_1156 (by decide) (fun _ => ?_) (fun c => absurd ht c)
    refine g_goto C 3840 dL_law_1161 (by decide) ?_
    exact g_sub [1, 2, 3, 4, 5] rfl (next ((fX6_start β η σ a).2.1) τ γ ((fX6_start β η σ a).2.2.1) ((fX6_start β η σ a).2.2.2) θ (fX7_start μ a) o hR2)
  · skip
    refine g_aload_n C dL_law_1128 rfl 1 rfl ?_
    refine g_aload_n C dL_law_1129 rfl 0 rfl ?_
    refine g_iload C dL_law_1130 4 rfl ?_
    refine g_iconst C (v := 1) dL_law_1132 (by decide) ?_
    refine g_iadd C dL_law_1133 ?_
    refine g_sldv C S (i + 1) (nx_add (rfl : nI i = nI i) (rfl : (1 : Int32) = nI 1)) (by omega) ha9 dL_law_1134 ?_
    refine g_callSW C hZ hNc (z := 2) (cs1 := [wX ax (bo 0) (tr 0) (ac 0) (ah 0) (at_ 0), wB E bo ((fX6_start β η σ a).2.1), wB E tr τ, wC E ac γ, wH E ah bd ((fX6_start β η σ a).2.2.1), wT E at_ θ, wB E (bd 2) ((fX6_start β η σ a).2.2.2 2), wB E (bd 3) ((fX6_start β η σ a).2.2.2 3), wB E (bd 4) ((fX6_start β η σ a).2.2.2 4), wB E (bd 5) ((fX6_start β η σ a).2.2.2 5), wB E (bd 6) ((fX6_start β η σ a).2.2.2 6), wB E (bd 7) ((fX6_start β η σ a).2.2.2 7), wB E (bd 8) ((fX6_start β η σ a).2.2.2 8), wB E (bd 9) ((fX6_start β η σ a).2.2.2 9), wM E am μ, wO E ao o]) (st1 := [.int 1]) [.ref ax, .int a] [0, 1, 2, 3, 4, 5, 6, 7, 8, 9, 10, 11, 12, 13] (kL_start_0 l E ax bo β tr τ ac γ ah bd η σ at_ θ hlt hvb hvh a hr) q4_120 q1_0 (by decide +kernel) q4_119 q4_118 rfl ⟨Nat.le_of_ble_eq_true rfl, Nat.le_of_ble_eq_true rfl⟩ ⟨hk, hn⟩ (by decide) rfl rfl rfl rfl (Nat.le_of_ble_eq_true rfl) dL_law_1135 rfl ?_
    refine g_istore C (lv1 := [(5, .int 1), (0, .ref b0), (1, .ref ax), (2, .ref (am 0)), (3, .ref ao), (4, .int (nI i))]) dL_law_1138 (by decide) rfl ?_
    refine g_aload_n C dL_law_1140 rfl 3 rfl ?_
    refine g_aload_n C dL_law_1141 rfl 1 rfl ?_
    refine g_iload C dL_law_1142 5 rfl ?_
    refine g_iconst C (v := 1) dL_law_1144 (by decide) ?_
    refine g_iadd C dL_law_1145 ?_
    refine g_sldv C S (i + 1) (nx_add (rfl : nI i = nI i) (rfl : (1 : Int32) = nI 1)) (by omega) ha9 dL_law_1146 ?_
    refine g_callV C (cs1 := [wX ax (bo 0) (tr 0) (ac 0) (ah 0) (at_ 0), wB E bo ((fX6_start β η σ a).2.1), wB E tr τ, wC E ac γ, wH E ah bd ((fX6_start β η σ a).2.2.1), wT E at_ θ, wB E (bd 2) ((fX6_start β η σ a).2.2.2 2), wB E (bd 3) ((fX6_start β η σ a).2.2.2 3), wB E (bd 4) ((fX6_start β η σ a).2.2.2 4), wB E (bd 5) ((fX6_start β η σ a).2.2.2 5), wB E (bd 6) ((fX6_start β η σ a).2.2.2 6), wB E (bd 7) ((fX6_start β η σ a).2.2.2 7), wB E (bd 8) ((fX6_start β η σ a).2.2.2 8), wB E (bd 9) ((fX6_start β η σ a).2.2.2 9), wM E am (fX7_start μ a), wO E ao o]) (st1 := []) [.int a] [14] (kX7_start l E am μ hvm a) caX7_start q7_8 rfl ⟨Nat.le_of_ble_eq_true rfl, Nat.le_of_ble_eq_true rfl⟩ ⟨hk, hn⟩ 14 0 rfl rfl rfl rfl (by decide) rfl rfl rfl rfl (Nat.le_of_ble_eq_true rfl) dL_law_1147 rfl ?_
    refine g_aload_n C dL_law_1150 rfl 3 rfl ?_
    refine g_callV C (cs1 := [wX ax (bo 0) (tr 0) (ac 0) (ah 0) (at_ 0), wB E bo ((fX6_start β η σ a).2.1), wB E tr τ, wC E ac γ, wH E ah bd ((fX6_start β η σ a).2.2.1), wT E at_ θ, wB E (bd 2) ((fX6_start β η σ a).2.2.2 2), wB E (bd 3) ((fX6_start β η σ a).2.2.2 3), wB E (bd 4) ((fX6_start β η σ a).2.2.2 4), wB E (bd 5) ((fX6_start β η σ a).2.2.2 5), wB E (bd 6) ((fX6_start β η σ a).2.2.2 6), wB E (bd 7) ((fX6_start β η σ a).2.2.2 7), wB E (bd 8) ((fX6_start β η σ a).2.2.2 8), wB E (bd 9) ((fX6_start β η σ a).2.2.2 9), wM E am (fX7_start μ a), wO E ao o]) (st1 := [.int (fX7_thrown (fX7_start μ a))]) [] [14] (kX7_thrown l E am (fX7_start μ a)) caX7_thrown q6_116 rfl ⟨Nat.le_of_ble_eq_true rfl, Nat.le_of_ble_eq_true rfl⟩ ⟨hk, hn⟩ 14 0 rfl rfl rfl rfl (by decide) rfl rfl rfl rfl (Nat.le_of_ble_eq_true rfl) dL_law_1151 rfl ?_
    refine g_iload C dL_law_1154 0 rfl ?_
    refine g_icmp_eq C 1161 dL_law_1156 (by decide) (fun _ => ?_) (fun c => absurd ht c)
    refine g_goto C 3840 dL_law_1161 (by decide) ?_
    exact g_sub [1, 2, 3, 4, 5] rfl (next ((fX6_start β η σ a).2.1) τ γ ((fX6_start β η σ a).2.2.1) ((fX6_start β η σ a).2.2.2) θ (fX7_start μ a) o hR2)
  · skip
    refine g_aload_n C dL_law_1128 rfl 1 rfl ?_
    refine g_aload_n C dL_law_1129 rfl 0 rfl ?_
    refine g_iload C dL_law_1130 4 rfl ?_
    refine g_iconst C (v := 1) dL_law_1132 (by decide) ?_
    refine g_iadd C dL_law_1133 ?_
    refine g_sldv C S (i + 1) (nx_add (rfl : nI i = nI i) (rfl : (1 : Int32) = nI 1)) (by omega) ha9 dL_law_1134 ?_
    refine g_callSW C hZ hNc (z := 2) (cs1 := [wX ax (bo 0) (tr 0) (ac 0) (ah 0) (at_ 0), wB E bo ((fX6_start β η σ a).2.1), wB E tr τ, wC E ac γ, wH E ah bd ((fX6_start β η σ a).2.2.1), wT E at_ θ, wB E (bd 2) ((fX6_start β η σ a).2.2.2 2), wB E (bd 3) ((fX6_start β η σ a).2.2.2 3), wB E (bd 4) ((fX6_start β η σ a).2.2.2 4), wB E (bd 5) ((fX6_start β η σ a).2.2.2 5), wB E (bd 6) ((fX6_start β η σ a).2.2.2 6), wB E (bd 7) ((fX6_start β η σ a).2.2.2 7), wB E (bd 8) ((fX6_start β η σ a).2.2.2 8), wB E (bd 9) ((fX6_start β η σ a).2.2.2 9), wM E am μ, wO E ao o]) (st1 := [.int 2]) [.ref ax, .int a] [0, 1, 2, 3, 4, 5, 6, 7, 8, 9, 10, 11, 12, 13] (kL_start_1 l E ax bo β tr τ ac γ ah bd η σ at_ θ hlt hvb hvh a hr) q4_120 q1_0 (by decide +kernel) q4_119 q4_118 rfl ⟨Nat.le_of_ble_eq_true rfl, Nat.le_of_ble_eq_true rfl⟩ ⟨hk, hn⟩ (by decide) rfl rfl rfl rfl (Nat.le_of_ble_eq_true rfl) dL_law_1135 rfl ?_
    refine g_istore C (lv1 := [(5, .int 2), (0, .ref b0), (1, .ref ax), (2, .ref (am 0)), (3, .ref ao), (4, .int (nI i))]) dL_law_1138 (by decide) rfl ?_
    refine g_aload_n C dL_law_1140 rfl 3 rfl ?_
    refine g_aload_n C dL_law_1141 rfl 1 rfl ?_
    refine g_iload C dL_law_1142 5 rfl ?_
    refine g_iconst C (v := 1) dL_law_1144 (by decide) ?_
    refine g_iadd C dL_law_1145 ?_
    refine g_sldv C S (i + 1) (nx_add (rfl : nI i = nI i) (rfl : (1 : Int32) = nI 1)) (by omega) ha9 dL_law_1146 ?_
    refine g_callV C (cs1 := [wX ax (bo 0) (tr 0) (ac 0) (ah 0) (at_ 0), wB E bo ((fX6_start β η σ a).2.1), wB E tr τ, wC E ac γ, wH E ah bd ((fX6_start β η σ a).2.2.1), wT E at_ θ, wB E (bd 2) ((fX6_start β η σ a).2.2.2 2), wB E (bd 3) ((fX6_start β η σ a).2.2.2 3), wB E (bd 4) ((fX6_start β η σ a).2.2.2 4), wB E (bd 5) ((fX6_start β η σ a).2.2.2 5), wB E (bd 6) ((fX6_start β η σ a).2.2.2 6), wB E (bd 7) ((fX6_start β η σ a).2.2.2 7), wB E (bd 8) ((fX6_start β η σ a).2.2.2 8), wB E (bd 9) ((fX6_start β η σ a).2.2.2 9), wM E am (fX7_start μ a), wO E ao o]) (st1 := []) [.int a] [14] (kX7_start l E am μ hvm a) caX7_start q7_8 rfl ⟨Nat.le_of_ble_eq_true rfl, Nat.le_of_ble_eq_true rfl⟩ ⟨hk, hn⟩ 14 0 rfl rfl rfl rfl (by decide) rfl rfl rfl rfl (Nat.le_of_ble_eq_true rfl) dL_law_1147 rfl ?_
    refine g_aload_n C dL_law_1150 rfl 3 rfl ?_
    refine g_callV C (cs1 := [wX ax (bo 0) (tr 0) (ac 0) (ah 0) (at_ 0), wB E bo ((fX6_start β η σ a).2.1), wB E tr τ, wC E ac γ, wH E ah bd ((fX6_start β η σ a).2.2.1), wT E at_ θ, wB E (bd 2) ((fX6_start β η σ a).2.2.2 2), wB E (bd 3) ((fX6_start β η σ a).2.2.2 3), wB E (bd 4) ((fX6_start β η σ a).2.2.2 4), wB E (bd 5) ((fX6_start β η σ a).2.2.2 5), wB E (bd 6) ((fX6_start β η σ a).2.2.2 6), wB E (bd 7) ((fX6_start β η σ a).2.2.2 7), wB E (bd 8) ((fX6_start β η σ a).2.2.2 8), wB E (bd 9) ((fX6_start β η σ a).2.2.2 9), wM E am (fX7_start μ a), wO E ao o]) (st1 := [.int (fX7_thrown (fX7_start μ a))]) [] [14] (kX7_thrown l E am (fX7_start μ a)) caX7_thrown q6_116 rfl ⟨Nat.le_of_ble_eq_true rfl, Nat.le_of_ble_eq_true rfl⟩ ⟨hk, hn⟩ 14 0 rfl rfl rfl rfl (by decide) rfl rfl rfl rfl (Nat.le_of_ble_eq_true rfl) dL_law_1151 rfl ?_
    refine g_iload C dL_law_1154 0 rfl ?_
    refine g_icmp_eq C 1161 dL_law_1156 (by decide) (fun _ => ?_) (fun c => absurd ht c)
    refine g_goto C 3840 dL_law_1161 (by decide) ?_
    exact g_sub [1, 2, 3, 4, 5] rfl (next ((fX6_start β η σ a).2.1) τ γ ((fX6_start β η σ a).2.2.1) ((fX6_start β η σ a).2.2.2) θ (fX7_start μ a) o hR2)
set_option maxHeartbeats 4000000 in
set_option maxRecDepth 100000 in
theorem arm_13 {Rl : RlT} (hRv : RlV Rl) (hs : sH_submit Rl)  {X : gX} {l : Launch} {E : gE} (C : gC X cL_law 9 RL (some .boolean) l E room_1) (hZ : gZ X.2.2.2.2.2.2.2.2.2.2.2.1 X.2.2.2.2.1 X.2.2.2.2.1.heap) (hNc : gNc X.2.2.2.2.1) {b0 L0 : Nat} {xs : Nat → Int32} (S : gS X b0 L0 xs) (hlt : l.stackTraces = false) {ax : Nat} {bo tr ac ah : Nat → Nat} {bd : Nat → Nat → Nat} {at_ am : Nat → Nat} {ao k n i : Nat} (hk : k + 3 ≤ 601024) (hn : n + 18 ≤ 7293034) (hi : i + 3 ≤ L0) {β τ γ η : BS} {σ : Nat → BS} {θ μ : BS} {o : Nat → Int64} (hR : Rl β η θ σ μ) (next : ∀ (β τ γ η : BS) (σ : Nat → BS) (θ μ : BS) (o : Nat → Int64), Rl β η θ σ μ → G X (k + 3) (n + 18) [wX ax (bo 0) (tr 0) (ac 0) (ah 0) (at_ 0), wB E bo β, wB E tr τ, wC E ac γ, wH E ah bd η, wT E at_ θ, wB E (bd 2) (σ 2), wB E (bd 3) (σ 3), wB E (bd 4) (σ 4), wB E (bd 5) (σ 5), wB E (bd 6) (σ 6), wB E (bd 7) (σ 7), wB E (bd 8) (σ 8), wB E (bd 9) (σ 9), wM E am μ, wO E ao o] [(0, .ref b0), (1, .ref ax), (2, .ref (am 0)), (3, .ref ao), (4, .int (nI i))] 3840 []) : G X k n [wX ax (bo 0) (tr 0) (ac 0) (ah 0) (at_ 0), wB E bo β, wB E tr τ, wC E ac γ, wH E ah bd η, wT E at_ θ, wB E (bd 2) (σ 2), wB E (bd 3) (σ 3), wB E (bd 4) (σ 4), wB E (bd 5) (σ 5), wB E (bd 6) (σ 6), wB E (bd 7) (σ 7), wB E (bd 8) (σ 8), wB E (bd 9) (σ 9), wM E am μ, wO E ao o] [(0, .ref b0), (1, .ref ax), (2, .ref (am 0)), (3, .ref ao), (4, .int (nI i))] 1164 [] := by
  obtain ⟨hvb, hvh, hvt, hvm, ha⟩ := hRv β η θ σ μ hR
  obtain ⟨a, ha9⟩ : ∃ a, xs (i + 1) = a := ⟨_, rfl⟩
  obtain ⟨hag, hR2⟩ := hs β τ γ η σ θ μ a hR
  rcases hag with ⟨hr, ht⟩ | ⟨hr, ht⟩ | ⟨hr, ht⟩
  · skip
    refine g_aload_n C dL_law_1164 rfl 1 rfl ?_
    refine g_aload_n C dL_law_1165 rfl 0 rfl ?_
    refine g_iload C dL_law_1166 4 rfl ?_
    refine g_iconst C (v := 1) dL_law_1168 (by decide) ?_
    refine g_iadd C dL_law_1169 ?_
    refine g_sldv C S (i + 1) (nx_add (rfl : nI i = nI i) (rfl : (1 : Int32) = nI 1)) (by omega) ha9 dL_law_1170 ?_
    refine g_callSW C hZ hNc (z := 2) (cs1 := [wX ax (bo 0) (tr 0) (ac 0) (ah 0) (at_ 0), wB E bo ((fX6_submit β η σ a).2.1), wB E tr τ, wC E ac γ, wH E ah bd ((fX6_submit β η σ a).2.2.1), wT E at_ θ, wB E (bd 2) ((fX6_submit β η σ a).2.2.2 2), wB E (bd 3) ((fX6_submit β η σ a).2.2.2 3), wB E (bd 4) ((fX6_submit β η σ a).2.2.2 4), wB E (bd 5) ((fX6_submit β η σ a).2.2.2 5), wB E (bd 6) ((fX6_submit β η σ a).2.2.2 6), wB E (bd 7) ((fX6_submit β η σ a).2.2.2 7), wB E (bd 8) ((fX6_submit β η σ a).2.2.2 8), wB E (bd 9) ((fX6_submit β η σ a).2.2.2 9), wM E am μ, wO E ao o]) (st1 := [.int 0]) [.ref ax, .int a] [0, 1, 2, 3, 4, 5, 6, 7, 8, 9, 10, 11, 12, 13] (kL_submit_r l E ax bo β tr τ ac γ ah bd η σ at_ θ hlt hvb hvh a hr) q4_131 q1_0 (by decide +kernel) q4_130 q4_129 rfl ⟨Nat.le_of_ble_eq_true rfl, Nat.le_of_ble_eq_true rfl⟩ ⟨hk, hn⟩ (by decide) rfl rfl rfl rfl (Nat.le_of_ble_eq_true rfl) dL_law_1171 rfl ?_
    refine g_istore C (lv1 := [(5, .int 0), (0, .ref b0), (1, .ref ax), (2, .ref (am 0)), (3, .ref ao), (4, .int (nI i))]) dL_law_1174 (by decide) rfl ?_
    refine g_aload_n C dL_law_1176 rfl 3 rfl ?_
    refine g_aload_n C dL_law_1177 rfl 1 rfl ?_
    refine g_iload C dL_law_1178 5 rfl ?_
    refine g_iconst C (v := 1) dL_law_1180 (by decide) ?_
    refine g_iadd C dL_law_1181 ?_
    refine g_sldv C S (i + 1) (nx_add (rfl : nI i = nI i) (rfl : (1 : Int32) = nI 1)) (by omega) ha9 dL_law_1182 ?_
    refine g_callV C (cs1 := [wX ax (bo 0) (tr 0) (ac 0) (ah 0) (at_ 0), wB E bo ((fX6_submit β η σ a).2.1), wB E tr τ, wC E ac γ, wH E ah bd ((fX6_submit β η σ a).2.2.1), wT E at_ θ, wB E (bd 2) ((fX6_submit β η σ a).2.2.2 2), wB E (bd 3) ((fX6_submit β η σ a).2.2.2 3), wB E (bd 4) ((fX6_submit β η σ a).2.2.2 4), wB E (bd 5) ((fX6_submit β η σ a).2.2.2 5), wB E (bd 6) ((fX6_submit β η σ a).2.2.2 6), wB E (bd 7) ((fX6_submit β η σ a).2.2.2 7), wB E (bd 8) ((fX6_submit β η σ a).2.2.2 8), wB E (bd 9) ((fX6_submit β η σ a).2.2.2 9), wM E am (fX7_submit μ a), wO E ao o]) (st1 := []) [.int a] [14] (kX7_submit l E am μ hvm a) caX7_submit q7_16 rfl ⟨Nat.le_of_ble_eq_true rfl, Nat.le_of_ble_eq_true rfl⟩ ⟨hk, hn⟩ 14 0 rfl rfl rfl rfl (by decide) rfl rfl rfl rfl (Nat.le_of_ble_eq_true rfl) dL_law_1183 rfl ?_
    refine g_aload_n C dL_law_1186 rfl 3 rfl ?_
    refine g_callV C (cs1 := [wX ax (bo 0) (tr 0) (ac 0) (ah 0) (at_ 0), wB E bo ((fX6_submit β η σ a).2.1), wB E tr τ, wC E ac γ, wH E ah bd ((fX6_submit β η σ a).2.2.1), wT E at_ θ, wB E (bd 2) ((fX6_submit β η σ a).2.2.2 2), wB E (bd 3) ((fX6_submit β η σ a).2.2.2 3), wB E (bd 4) ((fX6_submit β η σ a).2.2.2 4), wB E (bd 5) ((fX6_submit β η σ a).2.2.2 5), wB E (bd 6) ((fX6_submit β η σ a).2.2.2 6), wB E (bd 7) ((fX6_submit β η σ a).2.2.2 7), wB E (bd 8) ((fX6_submit β η σ a).2.2.2 8), wB E (bd 9) ((fX6_submit β η σ a).2.2.2 9), wM E am (fX7_submit μ a), wO E ao o]) (st1 := [.int (fX7_thrown (fX7_submit μ a))]) [] [14] (kX7_thrown l E am (fX7_submit μ a)) caX7_thrown q6_116 rfl ⟨Nat.le_of_ble_eq_true rfl, Nat.le_of_ble_eq_true rfl⟩ ⟨hk, hn⟩ 14 0 rfl rfl rfl rfl (by decide) rfl rfl rfl rfl (Nat.le_of_ble_eq_true rfl) dL_law_1187 rfl ?_
    refine g_iload C dL_law_1190 0 rfl ?_
    refine g_icmp_eq C 1197 dL_law_1192 (by decide) (fun _ => ?_) (fun c => absurd ht c)
    refine g_goto C 3840 dL_law_1197 (by decide) ?_
    exact g_sub [1, 2, 3, 4, 5] rfl (next ((fX6_submit β η σ a).2.1) τ γ ((fX6_submit β η σ a).2.2.1) ((fX6_submit β η σ a).2.2.2) θ (fX7_submit μ a) o hR2)
  · skip
    refine g_aload_n C dL_law_1164 rfl 1 rfl ?_
    refine g_aload_n C dL_law_1165 rfl 0 rfl ?_
    refine g_iload C dL_law_1166 4 rfl ?_
    refine g_iconst C (v := 1) dL_law_1168 (by decide) ?_
    refine g_iadd C dL_law_1169 ?_
    refine g_sldv C S (i + 1) (nx_add (rfl : nI i = nI i) (rfl : (1 : Int32) = nI 1)) (by omega) ha9 dL_law_1170 ?_
    refine g_callSW C hZ hNc (z := 2) (cs1 := [wX ax (bo 0) (tr 0) (ac 0) (ah 0) (at_ 0), wB E bo ((fX6_submit β η σ a).2.1), wB E tr τ, wC E ac γ, wH E ah bd ((fX6_submit β η σ a).2.2.1), wT E at_ θ, wB E (bd 2) ((fX6_submit β η σ a).2.2.2 2), wB E (bd 3) ((fX6_submit β η σ a).2.2.2 3), wB E (bd 4) ((fX6_submit β η σ a).2.2.2 4), wB E (bd 5) ((fX6_submit β η σ a).2.2.2 5), wB E (bd 6) ((fX6_submit β η σ a).2.2.2 6), wB E (bd 7) ((fX6_submit β η σ a).2.2.2 7), wB E (bd 8) ((fX6_submit β η σ a).2.2.2 8), wB E (bd 9) ((fX6_submit β η σ a).2.2.2 9), wM E am μ, wO E ao o]) (st1 := [.int 1]) [.ref ax, .int a] [0, 1, 2, 3, 4, 5, 6, 7, 8, 9, 10, 11, 12, 13] (kL_submit_0 l E ax bo β tr τ ac γ ah bd η σ at_ θ hlt hvb hvh a hr) q4_131 q1_0 (by decide +kernel) q4_130 q4_129 rfl ⟨Nat.le_of_ble_eq_true rfl, Nat.le_of_ble_eq_true rfl⟩ ⟨hk, hn⟩ (by decide) rfl rfl rfl rfl (Nat.le_of_ble_eq_true rfl) dL_law_1171 rfl ?_
    refine g_istore C (lv1 := [(5, .int 1), (0, .ref b0), (1, .ref ax), (2, .ref (am 0)), (3, .ref ao), (4, .int (nI i))]) dL_law_1174 (by decide) rfl ?_
    refine g_aload_n C dL_law_1176 rfl 3 rfl ?_
    refine g_aload_n C dL_law_1177 rfl 1 rfl ?_
    refine g_iload C dL_law_1178 5 rfl ?_
    refine g_iconst C (v := 1) dL_law_1180 (by decide) ?_
    refine g_iadd C dL_law_1181 ?_
    refine g_sldv C S (i + 1) (nx_add (rfl : nI i = nI i) (rfl : (1 : Int32) = nI 1)) (by omega) ha9 dL_law_1182 ?_
    refine g_callV C (cs1 := [wX ax (bo 0) (tr 0) (ac 0) (ah 0) (at_ 0), wB E bo ((fX6_submit β η σ a).2.1), wB E tr τ, wC E ac γ, wH E ah bd ((fX6_submit β η σ a).2.2.1), wT E at_ θ, wB E (bd 2) ((fX6_submit β η σ a).2.2.2 2), wB E (bd 3) ((fX6_submit β η σ a).2.2.2 3), wB E (bd 4) ((fX6_submit β η σ a).2.2.2 4), wB E (bd 5) ((fX6_submit β η σ a).2.2.2 5), wB E (bd 6) ((fX6_submit β η σ a).2.2.2 6), wB E (bd 7) ((fX6_submit β η σ a).2.2.2 7), wB E (bd 8) ((fX6_submit β η σ a).2.2.2 8), wB E (bd 9) ((fX6_submit β η σ a).2.2.2 9), wM E am (fX7_submit μ a), wO E ao o]) (st1 := []) [.int a] [14] (kX7_submit l E am μ hvm a) caX7_submit q7_16 rfl ⟨Nat.le_of_ble_eq_true rfl, Nat.le_of_ble_eq_true rfl⟩ ⟨hk, hn⟩ 14 0 rfl rfl rfl rfl (by decide) rfl rfl rfl rfl (Nat.le_of_ble_eq_true rfl) dL_law_1183 rfl ?_
    refine g_aload_n C dL_law_1186 rfl 3 rfl ?_
    refine g_callV C (cs1 := [wX ax (bo 0) (tr 0) (ac 0) (ah 0) (at_ 0), wB E bo ((fX6_submit β η σ a).2.1), wB E tr τ, wC E ac γ, wH E ah bd ((fX6_submit β η σ a).2.2.1), wT E at_ θ, wB E (bd 2) ((fX6_submit β η σ a).2.2.2 2), wB E (bd 3) ((fX6_submit β η σ a).2.2.2 3), wB E (bd 4) ((fX6_submit β η σ a).2.2.2 4), wB E (bd 5) ((fX6_submit β η σ a).2.2.2 5), wB E (bd 6) ((fX6_submit β η σ a).2.2.2 6), wB E (bd 7) ((fX6_submit β η σ a).2.2.2 7), wB E (bd 8) ((fX6_submit β η σ a).2.2.2 8), wB E (bd 9) ((fX6_submit β η σ a).2.2.2 9), wM E am (fX7_submit μ a), wO E ao o]) (st1 := [.int (fX7_thrown (fX7_submit μ a))]) [] [14] (kX7_thrown l E am (fX7_submit μ a)) caX7_thrown q6_116 rfl ⟨Nat.le_of_ble_eq_true rfl, Nat.le_of_ble_eq_true rfl⟩ ⟨hk, hn⟩ 14 0 rfl rfl rfl rfl (by decide) rfl rfl rfl rfl (Nat.le_of_ble_eq_true rfl) dL_law_1187 rfl ?_
    refine g_iload C dL_law_1190 0 rfl ?_
    refine g_icmp_eq C 1197 dL_law_1192 (by decide) (fun _ => ?_) (fun c => absurd ht c)
    refine g_goto C 3840 dL_law_1197 (by decide) ?_
    exact g_sub [1, 2, 3, 4, 5] rfl (next ((fX6_submit β η σ a).2.1) τ γ ((fX6_submit β η σ a).2.2.1) ((fX6_submit β η σ a).2.2.2) θ (fX7_submit μ a) o hR2)
  · skip
    refine g_aload_n C dL_law_1164 rfl 1 rfl ?_
    refine g_aload_n C dL_law_1165 rfl 0 rfl ?_
    refine g_iload C dL_law_1166 4 rfl ?_
    refine g_iconst C (v := 1) dL_law_1168 (by decide) ?_
    refine g_iadd C dL_law_1169 ?_
    refine g_sldv C S (i + 1) (nx_add (rfl : nI i = nI i) (rfl : (1 : Int32) = nI 1)) (by omega) ha9 dL_law_1170 ?_
    refine g_callSW C hZ hNc (z := 2) (cs1 := [wX ax (bo 0) (tr 0) (ac 0) (ah 0) (at_ 0), wB E bo ((fX6_submit β η σ a).2.1), wB E tr τ, wC E ac γ, wH E ah bd ((fX6_submit β η σ a).2.2.1), wT E at_ θ, wB E (bd 2) ((fX6_submit β η σ a).2.2.2 2), wB E (bd 3) ((fX6_submit β η σ a).2.2.2 3), wB E (bd 4) ((fX6_submit β η σ a).2.2.2 4), wB E (bd 5) ((fX6_submit β η σ a).2.2.2 5), wB E (bd 6) ((fX6_submit β η σ a).2.2.2 6), wB E (bd 7) ((fX6_submit β η σ a).2.2.2 7), wB E (bd 8) ((fX6_submit β η σ a).2.2.2 8), wB E (bd 9) ((fX6_submit β η σ a).2.2.2 9), wM E am μ, wO E ao o]) (st1 := [.int 2]) [.ref ax, .int a] [0, 1, 2, 3, 4, 5, 6, 7, 8, 9, 10, 11, 12, 13] (kL_submit_1 l E ax bo β tr τ ac γ ah bd η σ at_ θ hlt hvb hvh a hr) q4_131 q1_0 (by decide +kernel) q4_130 q4_129 rfl ⟨Nat.le_of_ble_eq_true rfl, Nat.le_of_ble_eq_true rfl⟩ ⟨hk, hn⟩ (by decide) rfl rfl rfl rfl (Nat.le_of_ble_eq_true rfl) dL_law_1171 rfl ?_
    refine g_istore C (lv1 := [(5, .int 2), (0, .ref b0), (1, .ref ax), (2, .ref (am 0)), (3, .ref ao), (4, .int (nI i))]) dL_law_1174 (by decide) rfl ?_
    refine g_aload_n C dL_law_1176 rfl 3 rfl ?_
    refine g_aload_n C dL_law_1177 rfl 1 rfl ?_
    refine g_iload C dL_law_1178 5 rfl ?_
    refine g_iconst C (v := 1) dL_law_1180 (by decide) ?_
    refine g_iadd C dL_law_1181 ?_
    refine g_sldv C S (i + 1) (nx_add (rfl : nI i = nI i) (rfl : (1 : Int32) = nI 1)) (by omega) ha9 dL_law_1182 ?_
    refine g_callV C (cs1 := [wX ax (bo 0) (tr 0) (ac 0) (ah 0) (at_ 0), wB E bo ((fX6_submit β η σ a).2.1), wB E tr τ, wC E ac γ, wH E ah bd ((fX6_submit β η σ a).2.2.1), wT E at_ θ, wB E (bd 2) ((fX6_submit β η σ a).2.2.2 2), wB E (bd 3) ((fX6_submit β η σ a).2.2.2 3), wB E (bd 4) ((fX6_submit β η σ a).2.2.2 4), wB E (bd 5) ((fX6_submit β η σ a).2.2.2 5), wB E (bd 6) ((fX6_submit β η σ a).2.2.2 6), wB E (bd 7) ((fX6_submit β η σ a).2.2.2 7), wB E (bd 8) ((fX6_submit β η σ a).2.2.2 8), wB E (bd 9) ((fX6_submit β η σ a).2.2.2 9), wM E am (fX7_submit μ a), wO E ao o]) (st1 := []) [.int a] [14] (kX7_submit l E am μ hvm a) caX7_submit q7_16 rfl ⟨Nat.le_of_ble_eq_true rfl, Nat.le_of_ble_eq_true rfl⟩ ⟨hk, hn⟩ 14 0 rfl rfl rfl rfl (by decide) rfl rfl rfl rfl (Nat.le_of_ble_eq_true rfl) dL_law_1183 rfl ?_
    refine g_aload_n C dL_law_1186 rfl 3 rfl ?_
    refine g_callV C (cs1 := [wX ax (bo 0) (tr 0) (ac 0) (ah 0) (at_ 0), wB E bo ((fX6_submit β η σ a).2.1), wB E tr τ, wC E ac γ, wH E ah bd ((fX6_submit β η σ a).2.2.1), wT E at_ θ, wB E (bd 2) ((fX6_submit β η σ a).2.2.2 2), wB E (bd 3) ((fX6_submit β η σ a).2.2.2 3), wB E (bd 4) ((fX6_submit β η σ a).2.2.2 4), wB E (bd 5) ((fX6_submit β η σ a).2.2.2 5), wB E (bd 6) ((fX6_submit β η σ a).2.2.2 6), wB E (bd 7) ((fX6_submit β η σ a).2.2.2 7), wB E (bd 8) ((fX6_submit β η σ a).2.2.2 8), wB E (bd 9) ((fX6_submit β η σ a).2.2.2 9), wM E am (fX7_submit μ a), wO E ao o]) (st1 := [.int (fX7_thrown (fX7_submit μ a))]) [] [14] (kX7_thrown l E am (fX7_submit μ a)) caX7_thrown q6_116 rfl ⟨Nat.le_of_ble_eq_true rfl, Nat.le_of_ble_eq_true rfl⟩ ⟨hk, hn⟩ 14 0 rfl rfl rfl rfl (by decide) rfl rfl rfl rfl (Nat.le_of_ble_eq_true rfl) dL_law_1187 rfl ?_
    refine g_iload C dL_law_1190 0 rfl ?_
    refine g_icmp_eq C 1197 dL_law_1192 (by decide) (fun _ => ?_) (fun c => absurd ht c)
    refine g_goto C 3840 dL_law_1197 (by decide) ?_
    exact g_sub [1, 2, 3, 4, 5] rfl (next ((fX6_submit β η σ a).2.1) τ γ ((fX6_submit β η σ a).2.2.1) ((fX6_submit β η σ a).2.2.2) θ (fX7_submit μ a) o hR2)
set_option maxHeartbeats 4000000 in
set_option maxRecDepth 100000 in
theorem arm_14 {Rl : RlT} (hRv : RlV Rl) (hs : sH_sendBack Rl)  {X : gX} {l : Launch} {E : gE} (C : gC X cL_law 9 RL (some .boolean) l E room_1) (hZ : gZ X.2.2.2.2.2.2.2.2.2.2.2.1 X.2.2.2.2.1 X.2.2.2.2.1.heap) (hNc : gNc X.2.2.2.2.1) {b0 L0 : Nat} {xs : Nat → Int32} (S : gS X b0 L0 xs) (hlt : l.stackTraces = false) {ax : Nat} {bo tr ac ah : Nat → Nat} {bd : Nat → Nat → Nat} {at_ am : Nat → Nat} {ao k n i : Nat} (hk : k + 3 ≤ 601024) (hn : n + 18 ≤ 7293034) (hi : i + 3 ≤ L0) {β τ γ η : BS} {σ : Nat → BS} {θ μ : BS} {o : Nat → Int64} (hR : Rl β η θ σ μ) (next : ∀ (β τ γ η : BS) (σ : Nat → BS) (θ μ : BS) (o : Nat → Int64), Rl β η θ σ μ → G X (k + 3) (n + 18) [wX ax (bo 0) (tr 0) (ac 0) (ah 0) (at_ 0), wB E bo β, wB E tr τ, wC E ac γ, wH E ah bd η, wT E at_ θ, wB E (bd 2) (σ 2), wB E (bd 3) (σ 3), wB E (bd 4) (σ 4), wB E (bd 5) (σ 5), wB E (bd 6) (σ 6), wB E (bd 7) (σ 7), wB E (bd 8) (σ 8), wB E (bd 9) (σ 9), wM E am μ, wO E ao o] [(0, .ref b0), (1, .ref ax), (2, .ref (am 0)), (3, .ref ao), (4, .int (nI i))] 3840 []) : G X k n [wX ax (bo 0) (tr 0) (ac 0) (ah 0) (at_ 0), wB E bo β, wB E tr τ, wC E ac γ, wH E ah bd η, wT E at_ θ, wB E (bd 2) (σ 2), wB E (bd 3) (σ 3), wB E (bd 4) (σ 4), wB E (bd 5) (σ 5), wB E (bd 6) (σ 6), wB E (bd 7) (σ 7), wB E (bd 8) (σ 8), wB E (bd 9) (σ 9), wM E am μ, wO E ao o] [(0, .ref b0), (1, .ref ax), (2, .ref (am 0)), (3, .ref ao), (4, .int (nI i))] 1200 [] := by
  obtain ⟨hvb, hvh, hvt, hvm, ha⟩ := hRv β η θ σ μ hR
  obtain ⟨a, ha9⟩ : ∃ a, xs (i + 1) = a := ⟨_, rfl⟩
  obtain ⟨hag, hR2⟩ := hs β τ γ η σ θ μ a hR
  rcases hag with ⟨hr, ht⟩ | ⟨hr, ht⟩ | ⟨hr, ht⟩
  · skip
    refine g_aload_n C dL_law_1200 rfl 1 rfl ?_
    refine g_aload_n C dL_law_1201 rfl 0 rfl ?_
    refine g_iload C dL_law_1202 4 rfl ?_
    refine g_iconst C (v := 1) dL_law_1204 (by decide) ?_
    refine g_iadd C dL_law_1205 ?_
    refine g_sldv C S (i + 1) (nx_add (rfl : nI i = nI i) (rfl : (1 : Int32) = nI 1)) (by omega) ha9 dL_law_1206 ?_
    refine g_aload_n C dL_law_1207 rfl 3 rfl ?_
    refine g_callSW C hZ hNc (z := 3) (cs1 := [wX ax (bo 0) (tr 0) (ac 0) (ah 0) (at_ 0), wB E bo ((fX6_sendBack β η σ a).2.1), wB E tr τ, wC E ac γ, wH E ah bd ((fX6_sendBack β η σ a).2.2.1), wT E at_ θ, wB E (bd 2) ((fX6_sendBack β η σ a).2.2.2 2), wB E (bd 3) ((fX6_sendBack β η σ a).2.2.2 3), wB E (bd 4) ((fX6_sendBack β η σ a).2.2.2 4), wB E (bd 5) ((fX6_sendBack β η σ a).2.2.2 5), wB E (bd 6) ((fX6_sendBack β η σ a).2.2.2 6), wB E (bd 7) ((fX6_sendBack β η σ a).2.2.2 7), wB E (bd 8) ((fX6_sendBack β η σ a).2.2.2 8), wB E (bd 9) ((fX6_sendBack β η σ a).2.2.2 9), wM E am μ, wO E ao (vp_updL o 0 ((fX7_sendBack μ a).1).toInt64)]) (st1 := [.int 0]) [.ref ax, .int a, .ref ao] [0, 1, 2, 3, 4, 5, 6, 7, 8, 9, 10, 11, 12, 13, 15] (kL_sendBack_r l E ax bo β tr τ ac γ ah bd η σ at_ θ ao o hlt hvb hvh a ((fX7_sendBack μ a).1) hr) q4_138 q1_0 (by decide +kernel) q4_137 q4_136 rfl ⟨Nat.le_of_ble_eq_true rfl, Nat.le_of_ble_eq_true rfl⟩ ⟨hk, hn⟩ (by decide) rfl rfl rfl rfl (Nat.le_of_ble_eq_true rfl) dL_law_1208 rfl ?_
    refine g_istore C (lv1 := [(5, .int 0), (0, .ref b0), (1, .ref ax), (2, .ref (am 0)), (3, .ref ao), (4, .int (nI i))]) dL_law_1211 (by decide) rfl ?_
    refine g_aload_n C dL_law_1213 rfl 3 rfl ?_
    refine g_aload_n C dL_law_1214 rfl 1 rfl ?_
    refine g_iload C dL_law_1215 5 rfl ?_
    refine g_iconst C (v := 1) dL_law_1217 (by decide) ?_
    refine g_iadd C dL_law_1218 ?_
    refine g_sldv C S (i + 1) (nx_add (rfl : nI i = nI i) (rfl : (1 : Int32) = nI 1)) (by omega) ha9 dL_law_1219 ?_
    refine g_callV C (cs1 := [wX ax (bo 0) (tr 0) (ac 0) (ah 0) (at_ 0), wB E bo ((fX6_sendBack β η σ a).2.1), wB E tr τ, wC E ac γ, wH E ah bd ((fX6_sendBack β η σ a).2.2.1), wT E at_ θ, wB E (bd 2) ((fX6_sendBack β η σ a).2.2.2 2), wB E (bd 3) ((fX6_sendBack β η σ a).2.2.2 3), wB E (bd 4) ((fX6_sendBack β η σ a).2.2.2 4), wB E (bd 5) ((fX6_sendBack β η σ a).2.2.2 5), wB E (bd 6) ((fX6_sendBack β η σ a).2.2.2 6), wB E (bd 7) ((fX6_sendBack β η σ a).2.2.2 7), wB E (bd 8) ((fX6_sendBack β η σ a).2.2.2 8), wB E (bd 9) ((fX6_sendBack β η σ a).2.2.2 9), wM E am ((fX7_sendBack μ a).2), wO E ao (vp_updL o 0 ((fX7_sendBack μ a).1).toInt64)]) (st1 := [.int ((fX7_sendBack μ a).1)]) [.int a] [14] (kX7_sendBack l E am μ hvm a) caX7_sendBack q7_20 rfl ⟨Nat.le_of_ble_eq_true rfl, Nat.le_of_ble_eq_true rfl⟩ ⟨hk, hn⟩ 14 0 rfl rfl rfl rfl (by decide) rfl rfl rfl rfl (Nat.le_of_ble_eq_true rfl) dL_law_1220 rfl ?_
    refine g_istore C (lv1 := [(6, .int ((fX7_sendBack μ a).1)), (5, .int 0), (0, .ref b0), (1, .ref ax), (2, .ref (am 0)), (3, .ref ao), (4, .int (nI i))]) dL_law_1223 (by decide) rfl ?_
    refine g_aload_n C dL_law_1225 rfl 4 rfl ?_
    refine g_callV C (cs1 := [wX ax (bo 0) (tr 0) (ac 0) (ah 0) (at_ 0), wB E bo ((fX6_sendBack β η σ a).2.1), wB E tr τ, wC E ac γ, wH E ah bd ((fX6_sendBack β η σ a).2.2.1), wT E at_ θ, wB E (bd 2) ((fX6_sendBack β η σ a).2.2.2 2), wB E (bd 3) ((fX6_sendBack β η σ a).2.2.2 3), wB E (bd 4) ((fX6_sendBack β η σ a).2.2.2 4), wB E (bd 5) ((fX6_sendBack β η σ a).2.2.2 5), wB E (bd 6) ((fX6_sendBack β η σ a).2.2.2 6), wB E (bd 7) ((fX6_sendBack β η σ a).2.2.2 7), wB E (bd 8) ((fX6_sendBack β η σ a).2.2.2 8), wB E (bd 9) ((fX6_sendBack β η σ a).2.2.2 9), wM E am ((fX7_sendBack μ a).2), wO E ao (vp_updL o 0 ((fX7_sendBack μ a).1).toInt64)]) (st1 := [.int (fX7_thrown ((fX7_sendBack μ a).2))]) [] [14] (kX7_thrown l E am ((fX7_sendBack μ a).2)) caX7_thrown q6_116 rfl ⟨Nat.le_of_ble_eq_true rfl, Nat.le_of_ble_eq_true rfl⟩ ⟨hk, hn⟩ 14 0 rfl rfl rfl rfl (by decide) rfl rfl rfl rfl (Nat.le_of_ble_eq_true rfl) dL_law_1226 rfl ?_
    refine g_iload C dL_law_1229 1 rfl ?_
    refine g_icmp_eq C 1236 dL_law_1231 (by decide) (fun _ => ?_) (fun c => absurd ht c)
    refine g_iload C dL_law_1236 1 rfl ?_
    refine g_if_ne C 1253 dL_law_1238 (by decide) (fun c => absurd rfl c) (fun _ => ?_)
    refine g_aload_n C dL_law_1241 rfl 5 rfl ?_
    refine g_iconst C (v := 0) dL_law_1242 (by decide) ?_
    refine g_laldn C 15 0 0 rfl rfl rfl (by decide) (by decide) dL_law_1243 ?_
    refine g_iload C dL_law_1244 0 rfl ?_
    refine g_i2l C dL_law_1246 ?_
    refine g_lcmp C dL_law_1247 ?_
    refine g_if_eq C 1253 dL_law_1248 (by decide) (fun _ => ?_) (fun c => absurd law_cmp c)
    refine g_goto C 3840 dL_law_1253 (by decide) ?_
    exact g_sub [2, 3, 4, 5, 6] rfl (next ((fX6_sendBack β η σ a).2.1) τ γ ((fX6_sendBack β η σ a).2.2.1) ((fX6_sendBack β η σ a).2.2.2) θ ((fX7_sendBack μ a).2) (vp_updL o 0 ((fX7_sendBack μ a).1).toInt64) hR2)
  · skip
    refine g_aload_n C dL_law_1200 rfl 1 rfl ?_
    refine g_aload_n C dL_law_1201 rfl 0 rfl ?_
    refine g_iload C dL_law_1202 4 rfl ?_
    refine g_iconst C (v := 1) dL_law_1204 (by decide) ?_
    refine g_iadd C dL_law_1205 ?_
    refine g_sldv C S (i + 1) (nx_add (rfl : nI i = nI i) (rfl : (1 : Int32) = nI 1)) (by omega) ha9 dL_law_1206 ?_
    refine g_aload_n C dL_law_1207 rfl 3 rfl ?_
    refine g_callSW C hZ hNc (z := 3) (cs1 := [wX ax (bo 0) (tr 0) (ac 0) (ah 0) (at_ 0), wB E bo ((fX6_sendBack β η σ a).2.1), wB E tr τ, wC E ac γ, wH E ah bd ((fX6_sendBack β η σ a).2.2.1), wT E at_ θ, wB E (bd 2) ((fX6_sendBack β η σ a).2.2.2 2), wB E (bd 3) ((fX6_sendBack β η σ a).2.2.2 3), wB E (bd 4) ((fX6_sendBack β η σ a).2.2.2 4), wB E (bd 5) ((fX6_sendBack β η σ a).2.2.2 5), wB E (bd 6) ((fX6_sendBack β η σ a).2.2.2 6), wB E (bd 7) ((fX6_sendBack β η σ a).2.2.2 7), wB E (bd 8) ((fX6_sendBack β η σ a).2.2.2 8), wB E (bd 9) ((fX6_sendBack β η σ a).2.2.2 9), wM E am μ, wO E ao o]) (st1 := [.int 1]) [.ref ax, .int a, .ref ao] [0, 1, 2, 3, 4, 5, 6, 7, 8, 9, 10, 11, 12, 13, 15] (kL_sendBack_0 l E ax bo β tr τ ac γ ah bd η σ at_ θ ao o hlt hvb hvh a hr) q4_138 q1_0 (by decide +kernel) q4_137 q4_136 rfl ⟨Nat.le_of_ble_eq_true rfl, Nat.le_of_ble_eq_true rfl⟩ ⟨hk, hn⟩ (by decide) rfl rfl rfl rfl (Nat.le_of_ble_eq_true rfl) dL_law_1208 rfl ?_
    refine g_istore C (lv1 := [(5, .int 1), (0, .ref b0), (1, .ref ax), (2, .ref (am 0)), (3, .ref ao), (4, .int (nI i))]) dL_law_1211 (by decide) rfl ?_
    refine g_aload_n C dL_law_1213 rfl 3 rfl ?_
    refine g_aload_n C dL_law_1214 rfl 1 rfl ?_
    refine g_iload C dL_law_1215 5 rfl ?_
    refine g_iconst C (v := 1) dL_law_1217 (by decide) ?_
    refine g_iadd C dL_law_1218 ?_
    refine g_sldv C S (i + 1) (nx_add (rfl : nI i = nI i) (rfl : (1 : Int32) = nI 1)) (by omega) ha9 dL_law_1219 ?_
    refine g_callV C (cs1 := [wX ax (bo 0) (tr 0) (ac 0) (ah 0) (at_ 0), wB E bo ((fX6_sendBack β η σ a).2.1), wB E tr τ, wC E ac γ, wH E ah bd ((fX6_sendBack β η σ a).2.2.1), wT E at_ θ, wB E (bd 2) ((fX6_sendBack β η σ a).2.2.2 2), wB E (bd 3) ((fX6_sendBack β η σ a).2.2.2 3), wB E (bd 4) ((fX6_sendBack β η σ a).2.2.2 4), wB E (bd 5) ((fX6_sendBack β η σ a).2.2.2 5), wB E (bd 6) ((fX6_sendBack β η σ a).2.2.2 6), wB E (bd 7) ((fX6_sendBack β η σ a).2.2.2 7), wB E (bd 8) ((fX6_sendBack β η σ a).2.2.2 8), wB E (bd 9) ((fX6_sendBack β η σ a).2.2.2 9), wM E am ((fX7_sendBack μ a).2), wO E ao o]) (st1 := [.int ((fX7_sendBack μ a).1)]) [.int a] [14] (kX7_sendBack l E am μ hvm a) caX7_sendBack q7_20 rfl ⟨Nat.le_of_ble_eq_true rfl, Nat.le_of_ble_eq_true rfl⟩ ⟨hk, hn⟩ 14 0 rfl rfl rfl rfl (by decide) rfl rfl rfl rfl (Nat.le_of_ble_eq_true rfl) dL_law_1220 rfl ?_
    refine g_istore C (lv1 := [(6, .int ((fX7_sendBack μ a).1)), (5, .int 1), (0, .ref b0), (1, .ref ax), (2, .ref (am 0)), (3, .ref ao), (4, .int (nI i))]) dL_law_1223 (by decide) rfl ?_
    refine g_aload_n C dL_law_1225 rfl 4 rfl ?_
    refine g_callV C (cs1 := [wX ax (bo 0) (tr 0) (ac 0) (ah 0) (at_ 0), wB E bo ((fX6_sendBack β η σ a).2.1), wB E tr τ, wC E ac γ, wH E ah bd ((fX6_sendBack β η σ a).2.2.1), wT E at_ θ, wB E (bd 2) ((fX6_sendBack β η σ a).2.2.2 2), wB E (bd 3) ((fX6_sendBack β η σ a).2.2.2 3), wB E (bd 4) ((fX6_sendBack β η σ a).2.2.2 4), wB E (bd 5) ((fX6_sendBack β η σ a).2.2.2 5), wB E (bd 6) ((fX6_sendBack β η σ a).2.2.2 6), wB E (bd 7) ((fX6_sendBack β η σ a).2.2.2 7), wB E (bd 8) ((fX6_sendBack β η σ a).2.2.2 8), wB E (bd 9) ((fX6_sendBack β η σ a).2.2.2 9), wM E am ((fX7_sendBack μ a).2), wO E ao o]) (st1 := [.int (fX7_thrown ((fX7_sendBack μ a).2))]) [] [14] (kX7_thrown l E am ((fX7_sendBack μ a).2)) caX7_thrown q6_116 rfl ⟨Nat.le_of_ble_eq_true rfl, Nat.le_of_ble_eq_true rfl⟩ ⟨hk, hn⟩ 14 0 rfl rfl rfl rfl (by decide) rfl rfl rfl rfl (Nat.le_of_ble_eq_true rfl) dL_law_1226 rfl ?_
    refine g_iload C dL_law_1229 1 rfl ?_
    refine g_icmp_eq C 1236 dL_law_1231 (by decide) (fun _ => ?_) (fun c => absurd ht c)
    refine g_iload C dL_law_1236 1 rfl ?_
    refine g_if_ne C 1253 dL_law_1238 (by decide) (fun _ => ?_) (fun c => absurd c (by decide))
    refine g_goto C 3840 dL_law_1253 (by decide) ?_
    exact g_sub [2, 3, 4, 5, 6] rfl (next ((fX6_sendBack β η σ a).2.1) τ γ ((fX6_sendBack β η σ a).2.2.1) ((fX6_sendBack β η σ a).2.2.2) θ ((fX7_sendBack μ a).2) o hR2)
  · skip
    refine g_aload_n C dL_law_1200 rfl 1 rfl ?_
    refine g_aload_n C dL_law_1201 rfl 0 rfl ?_
    refine g_iload C dL_law_1202 4 rfl ?_
    refine g_iconst C (v := 1) dL_law_1204 (by decide) ?_
    refine g_iadd C dL_law_1205 ?_
    refine g_sldv C S (i + 1) (nx_add (rfl : nI i = nI i) (rfl : (1 : Int32) = nI 1)) (by omega) ha9 dL_law_1206 ?_
    refine g_aload_n C dL_law_1207 rfl 3 rfl ?_
    refine g_callSW C hZ hNc (z := 3) (cs1 := [wX ax (bo 0) (tr 0) (ac 0) (ah 0) (at_ 0), wB E bo ((fX6_sendBack β η σ a).2.1), wB E tr τ, wC E ac γ, wH E ah bd ((fX6_sendBack β η σ a).2.2.1), wT E at_ θ, wB E (bd 2) ((fX6_sendBack β η σ a).2.2.2 2), wB E (bd 3) ((fX6_sendBack β η σ a).2.2.2 3), wB E (bd 4) ((fX6_sendBack β η σ a).2.2.2 4), wB E (bd 5) ((fX6_sendBack β η σ a).2.2.2 5), wB E (bd 6) ((fX6_sendBack β η σ a).2.2.2 6), wB E (bd 7) ((fX6_sendBack β η σ a).2.2.2 7), wB E (bd 8) ((fX6_sendBack β η σ a).2.2.2 8), wB E (bd 9) ((fX6_sendBack β η σ a).2.2.2 9), wM E am μ, wO E ao o]) (st1 := [.int 2]) [.ref ax, .int a, .ref ao] [0, 1, 2, 3, 4, 5, 6, 7, 8, 9, 10, 11, 12, 13, 15] (kL_sendBack_1 l E ax bo β tr τ ac γ ah bd η σ at_ θ ao o hlt hvb hvh a hr) q4_138 q1_0 (by decide +kernel) q4_137 q4_136 rfl ⟨Nat.le_of_ble_eq_true rfl, Nat.le_of_ble_eq_true rfl⟩ ⟨hk, hn⟩ (by decide) rfl rfl rfl rfl (Nat.le_of_ble_eq_true rfl) dL_law_1208 rfl ?_
    refine g_istore C (lv1 := [(5, .int 2), (0, .ref b0), (1, .ref ax), (2, .ref (am 0)), (3, .ref ao), (4, .int (nI i))]) dL_law_1211 (by decide) rfl ?_
    refine g_aload_n C dL_law_1213 rfl 3 rfl ?_
    refine g_aload_n C dL_law_1214 rfl 1 rfl ?_
    refine g_iload C dL_law_1215 5 rfl ?_
    refine g_iconst C (v := 1) dL_law_1217 (by decide) ?_
    refine g_iadd C dL_law_1218 ?_
    refine g_sldv C S (i + 1) (nx_add (rfl : nI i = nI i) (rfl : (1 : Int32) = nI 1)) (by omega) ha9 dL_law_1219 ?_
    refine g_callV C (cs1 := [wX ax (bo 0) (tr 0) (ac 0) (ah 0) (at_ 0), wB E bo ((fX6_sendBack β η σ a).2.1), wB E tr τ, wC E ac γ, wH E ah bd ((fX6_sendBack β η σ a).2.2.1), wT E at_ θ, wB E (bd 2) ((fX6_sendBack β η σ a).2.2.2 2), wB E (bd 3) ((fX6_sendBack β η σ a).2.2.2 3), wB E (bd 4) ((fX6_sendBack β η σ a).2.2.2 4), wB E (bd 5) ((fX6_sendBack β η σ a).2.2.2 5), wB E (bd 6) ((fX6_sendBack β η σ a).2.2.2 6), wB E (bd 7) ((fX6_sendBack β η σ a).2.2.2 7), wB E (bd 8) ((fX6_sendBack β η σ a).2.2.2 8), wB E (bd 9) ((fX6_sendBack β η σ a).2.2.2 9), wM E am ((fX7_sendBack μ a).2), wO E ao o]) (st1 := [.int ((fX7_sendBack μ a).1)]) [.int a] [14] (kX7_sendBack l E am μ hvm a) caX7_sendBack q7_20 rfl ⟨Nat.le_of_ble_eq_true rfl, Nat.le_of_ble_eq_true rfl⟩ ⟨hk, hn⟩ 14 0 rfl rfl rfl rfl (by decide) rfl rfl rfl rfl (Nat.le_of_ble_eq_true rfl) dL_law_1220 rfl ?_
    refine g_istore C (lv1 := [(6, .int ((fX7_sendBack μ a).1)), (5, .int 2), (0, .ref b0), (1, .ref ax), (2, .ref (am 0)), (3, .ref ao), (4, .int (nI i))]) dL_law_1223 (by decide) rfl ?_
    refine g_aload_n C dL_law_1225 rfl 4 rfl ?_
    refine g_callV C (cs1 := [wX ax (bo 0) (tr 0) (ac 0) (ah 0) (at_ 0), wB E bo ((fX6_sendBack β η σ a).2.1), wB E tr τ, wC E ac γ, wH E ah bd ((fX6_sendBack β η σ a).2.2.1), wT E at_ θ, wB E (bd 2) ((fX6_sendBack β η σ a).2.2.2 2), wB E (bd 3) ((fX6_sendBack β η σ a).2.2.2 3), wB E (bd 4) ((fX6_sendBack β η σ a).2.2.2 4), wB E (bd 5) ((fX6_sendBack β η σ a).2.2.2 5), wB E (bd 6) ((fX6_sendBack β η σ a).2.2.2 6), wB E (bd 7) ((fX6_sendBack β η σ a).2.2.2 7), wB E (bd 8) ((fX6_sendBack β η σ a).2.2.2 8), wB E (bd 9) ((fX6_sendBack β η σ a).2.2.2 9), wM E am ((fX7_sendBack μ a).2), wO E ao o]) (st1 := [.int (fX7_thrown ((fX7_sendBack μ a).2))]) [] [14] (kX7_thrown l E am ((fX7_sendBack μ a).2)) caX7_thrown q6_116 rfl ⟨Nat.le_of_ble_eq_true rfl, Nat.le_of_ble_eq_true rfl⟩ ⟨hk, hn⟩ 14 0 rfl rfl rfl rfl (by decide) rfl rfl rfl rfl (Nat.le_of_ble_eq_true rfl) dL_law_1226 rfl ?_
    refine g_iload C dL_law_1229 1 rfl ?_
    refine g_icmp_eq C 1236 dL_law_1231 (by decide) (fun _ => ?_) (fun c => absurd ht c)
    refine g_iload C dL_law_1236 1 rfl ?_
    refine g_if_ne C 1253 dL_law_1238 (by decide) (fun _ => ?_) (fun c => absurd c (by decide))
    refine g_goto C 3840 dL_law_1253 (by decide) ?_
    exact g_sub [2, 3, 4, 5, 6] rfl (next ((fX6_sendBack β η σ a).2.1) τ γ ((fX6_sendBack β η σ a).2.2.1) ((fX6_sendBack β η σ a).2.2.2) θ ((fX7_sendBack μ a).2) o hR2)
set_option maxHeartbeats 4000000 in
set_option maxRecDepth 100000 in
theorem arm_15 {Rl : RlT} (hRv : RlV Rl) (hs : sH_close Rl)  {X : gX} {l : Launch} {E : gE} (C : gC X cL_law 9 RL (some .boolean) l E room_1) (hZ : gZ X.2.2.2.2.2.2.2.2.2.2.2.1 X.2.2.2.2.1 X.2.2.2.2.1.heap) (hNc : gNc X.2.2.2.2.1) {b0 L0 : Nat} {xs : Nat → Int32} (S : gS X b0 L0 xs) (hlt : l.stackTraces = false) {ax : Nat} {bo tr ac ah : Nat → Nat} {bd : Nat → Nat → Nat} {at_ am : Nat → Nat} {ao k n i : Nat} (hk : k + 3 ≤ 601024) (hn : n + 18 ≤ 7293034) (hi : i + 3 ≤ L0) {β τ γ η : BS} {σ : Nat → BS} {θ μ : BS} {o : Nat → Int64} (hR : Rl β η θ σ μ) (next : ∀ (β τ γ η : BS) (σ : Nat → BS) (θ μ : BS) (o : Nat → Int64), Rl β η θ σ μ → G X (k + 3) (n + 18) [wX ax (bo 0) (tr 0) (ac 0) (ah 0) (at_ 0), wB E bo β, wB E tr τ, wC E ac γ, wH E ah bd η, wT E at_ θ, wB E (bd 2) (σ 2), wB E (bd 3) (σ 3), wB E (bd 4) (σ 4), wB E (bd 5) (σ 5), wB E (bd 6) (σ 6), wB E (bd 7) (σ 7), wB E (bd 8) (σ 8), wB E (bd 9) (σ 9), wM E am μ, wO E ao o] [(0, .ref b0), (1, .ref ax), (2, .ref (am 0)), (3, .ref ao), (4, .int (nI i))] 3840 []) : G X k n [wX ax (bo 0) (tr 0) (ac 0) (ah 0) (at_ 0), wB E bo β, wB E tr τ, wC E ac γ, wH E ah bd η, wT E at_ θ, wB E (bd 2) (σ 2), wB E (bd 3) (σ 3), wB E (bd 4) (σ 4), wB E (bd 5) (σ 5), wB E (bd 6) (σ 6), wB E (bd 7) (σ 7), wB E (bd 8) (σ 8), wB E (bd 9) (σ 9), wM E am μ, wO E ao o] [(0, .ref b0), (1, .ref ax), (2, .ref (am 0)), (3, .ref ao), (4, .int (nI i))] 1256 [] := by
  obtain ⟨hvb, hvh, hvt, hvm, ha⟩ := hRv β η θ σ μ hR
  obtain ⟨a, ha9⟩ : ∃ a, xs (i + 1) = a := ⟨_, rfl⟩
  obtain ⟨hag, hR2⟩ := hs β τ γ η σ θ μ a hR
  rcases hag with ⟨hr, ht⟩ | ⟨hr, ht⟩ | ⟨hr, ht⟩
  · skip
    refine g_aload_n C dL_law_1256 rfl 1 rfl ?_
    refine g_aload_n C dL_law_1257 rfl 0 rfl ?_
    refine g_iload C dL_law_1258 4 rfl ?_
    refine g_iconst C (v := 1) dL_law_1260 (by decide) ?_
    refine g_iadd C dL_law_1261 ?_
    refine g_sldv C S (i + 1) (nx_add (rfl : nI i = nI i) (rfl : (1 : Int32) = nI 1)) (by omega) ha9 dL_law_1262 ?_
    refine g_aload_n C dL_law_1263 rfl 3 rfl ?_
    refine g_callSW C hZ hNc (z := 3) (cs1 := [wX ax (bo 0) (tr 0) (ac 0) (ah 0) (at_ 0), wB E bo ((fX6_close β η σ a).2.1), wB E tr τ, wC E ac γ, wH E ah bd ((fX6_close β η σ a).2.2.1), wT E at_ θ, wB E (bd 2) ((fX6_close β η σ a).2.2.2 2), wB E (bd 3) ((fX6_close β η σ a).2.2.2 3), wB E (bd 4) ((fX6_close β η σ a).2.2.2 4), wB E (bd 5) ((fX6_close β η σ a).2.2.2 5), wB E (bd 6) ((fX6_close β η σ a).2.2.2 6), wB E (bd 7) ((fX6_close β η σ a).2.2.2 7), wB E (bd 8) ((fX6_close β η σ a).2.2.2 8), wB E (bd 9) ((fX6_close β η σ a).2.2.2 9), wM E am μ, wO E ao (vp_updL o 0 ((fX7_close μ a).1).toInt64)]) (st1 := [.int 0]) [.ref ax, .int a, .ref ao] [0, 1, 2, 3, 4, 5, 6, 7, 8, 9, 10, 11, 12, 13, 15] (kL_close_r l E ax bo β tr τ ac γ ah bd η σ at_ θ ao o hlt hvb hvh a ((fX7_close μ a).1) hr) q4_149 q1_0 (by decide +kernel) q4_148 q4_147 rfl ⟨Nat.le_of_ble_eq_true rfl, Nat.le_of_ble_eq_true rfl⟩ ⟨hk, hn⟩ (by decide) rfl rfl rfl rfl (Nat.le_of_ble_eq_true rfl) dL_law_1264 rfl ?_
    refine g_istore C (lv1 := [(5, .int 0), (0, .ref b0), (1, .ref ax), (2, .ref (am 0)), (3, .ref ao), (4, .int (nI i))]) dL_law_1267 (by decide) rfl ?_
    refine g_aload_n C dL_law_1269 rfl 3 rfl ?_
    refine g_aload_n C dL_law_1270 rfl 1 rfl ?_
    refine g_iload C dL_law_1271 5 rfl ?_
    refine g_iconst C (v := 1) dL_law_1273 (by decide) ?_
    refine g_iadd C dL_law_1274 ?_
    refine g_sldv C S (i + 1) (nx_add (rfl : nI i = nI i) (rfl : (1 : Int32) = nI 1)) (by omega) ha9 dL_law_1275 ?_
    refine g_callV C (cs1 := [wX ax (bo 0) (tr 0) (ac 0) (ah 0) (at_ 0), wB E bo ((fX6_close β η σ a).2.1), wB E tr τ, wC E ac γ, wH E ah bd ((fX6_close β η σ a).2.2.1), wT E at_ θ, wB E (bd 2) ((fX6_close β η σ a).2.2.2 2), wB E (bd 3) ((fX6_close β η σ a).2.2.2 3), wB E (bd 4) ((fX6_close β η σ a).2.2.2 4), wB E (bd 5) ((fX6_close β η σ a).2.2.2 5), wB E (bd 6) ((fX6_close β η σ a).2.2.2 6), wB E (bd 7) ((fX6_close β η σ a).2.2.2 7), wB E (bd 8) ((fX6_close β η σ a).2.2.2 8), wB E (bd 9) ((fX6_close β η σ a).2.2.2 9), wM E am ((fX7_close μ a).2), wO E ao (vp_updL o 0 ((fX7_close μ a).1).toInt64)]) (st1 := [.int ((fX7_close μ a).1)]) [.int a] [14] (kX7_close l E am μ hvm a) caX7_close q7_24 rfl ⟨Nat.le_of_ble_eq_true rfl, Nat.le_of_ble_eq_true rfl⟩ ⟨hk, hn⟩ 14 0 rfl rfl rfl rfl (by decide) rfl rfl rfl rfl (Nat.le_of_ble_eq_true rfl) dL_law_1276 rfl ?_
    refine g_istore C (lv1 := [(6, .int ((fX7_close μ a).1)), (5, .int 0), (0, .ref b0), (1, .ref ax), (2, .ref (am 0)), (3, .ref ao), (4, .int (nI i))]) dL_law_1279 (by decide) rfl ?_
    refine g_aload_n C dL_law_1281 rfl 4 rfl ?_
    refine g_callV C (cs1 := [wX ax (bo 0) (tr 0) (ac 0) (ah 0) (at_ 0), wB E bo ((fX6_close β η σ a).2.1), wB E tr τ, wC E ac γ, wH E ah bd ((fX6_close β η σ a).2.2.1), wT E at_ θ, wB E (bd 2) ((fX6_close β η σ a).2.2.2 2), wB E (bd 3) ((fX6_close β η σ a).2.2.2 3), wB E (bd 4) ((fX6_close β η σ a).2.2.2 4), wB E (bd 5) ((fX6_close β η σ a).2.2.2 5), wB E (bd 6) ((fX6_close β η σ a).2.2.2 6), wB E (bd 7) ((fX6_close β η σ a).2.2.2 7), wB E (bd 8) ((fX6_close β η σ a).2.2.2 8), wB E (bd 9) ((fX6_close β η σ a).2.2.2 9), wM E am ((fX7_close μ a).2), wO E ao (vp_updL o 0 ((fX7_close μ a).1).toInt64)]) (st1 := [.int (fX7_thrown ((fX7_close μ a).2))]) [] [14] (kX7_thrown l E am ((fX7_close μ a).2)) caX7_thrown q6_116 rfl ⟨Nat.le_of_ble_eq_true rfl, Nat.le_of_ble_eq_true rfl⟩ ⟨hk, hn⟩ 14 0 rfl rfl rfl rfl (by decide) rfl rfl rfl rfl (Nat.le_of_ble_eq_true rfl) dL_law_1282 rfl ?_
    refine g_iload C dL_law_1285 1 rfl ?_
    refine g_icmp_eq C 1292 dL_law_1287 (by decide) (fun _ => ?_) (fun c => absurd ht c)
    refine g_iload C dL_law_1292 1 rfl ?_
    refine g_if_ne C 1309 dL_law_1294 (by decide) (fun c => absurd rfl c) (fun _ => ?_)
    refine g_aload_n C dL_law_1297 rfl 5 rfl ?_
    refine g_iconst C (v := 0) dL_law_1298 (by decide) ?_
    refine g_laldn C 15 0 0 rfl rfl rfl (by decide) (by decide) dL_law_1299 ?_
    refine g_iload C dL_law_1300 0 rfl ?_
    refine g_i2l C dL_law_1302 ?_
    refine g_lcmp C dL_law_1303 ?_
    refine g_if_eq C 1309 dL_law_1304 (by decide) (fun _ => ?_) (fun c => absurd law_cmp c)
    refine g_goto C 3840 dL_law_1309 (by decide) ?_
    exact g_sub [2, 3, 4, 5, 6] rfl (next ((fX6_close β η σ a).2.1) τ γ ((fX6_close β η σ a).2.2.1) ((fX6_close β η σ a).2.2.2) θ ((fX7_close μ a).2) (vp_updL o 0 ((fX7_close μ a).1).toInt64) hR2)
  · skip
    refine g_aload_n C dL_law_1256 rfl 1 rfl ?_
    refine g_aload_n C dL_law_1257 rfl 0 rfl ?_
    refine g_iload C dL_law_1258 4 rfl ?_
    refine g_iconst C (v := 1) dL_law_1260 (by decide) ?_
    refine g_iadd C dL_law_1261 ?_
    refine g_sldv C S (i + 1) (nx_add (rfl : nI i = nI i) (rfl : (1 : Int32) = nI 1)) (by omega) ha9 dL_law_1262 ?_
    refine g_aload_n C dL_law_1263 rfl 3 rfl ?_
    refine g_callSW C hZ hNc (z := 3) (cs1 := [wX ax (bo 0) (tr 0) (ac 0) (ah 0) (at_ 0), wB E bo ((fX6_close β η σ a).2.1), wB E tr τ, wC E ac γ, wH E ah bd ((fX6_close β η σ a).2.2.1), wT E at_ θ, wB E (bd 2) ((fX6_close β η σ a).2.2.2 2), wB E (bd 3) ((fX6_close β η σ a).2.2.2 3), wB E (bd 4) ((fX6_close β η σ a).2.2.2 4), wB E (bd 5) ((fX6_close β η σ a).2.2.2 5), wB E (bd 6) ((fX6_close β η σ a).2.2.2 6), wB E (bd 7) ((fX6_close β η σ a).2.2.2 7), wB E (bd 8) ((fX6_close β η σ a).2.2.2 8), wB E (bd 9) ((fX6_close β η σ a).2.2.2 9), wM E am μ, wO E ao o]) (st1 := [.int 1]) [.ref ax, .int a, .ref ao] [0, 1, 2, 3, 4, 5, 6, 7, 8, 9, 10, 11, 12, 13, 15] (kL_close_0 l E ax bo β tr τ ac γ ah bd η σ at_ θ ao o hlt hvb hvh a hr) q4_149 q1_0 (by decide +kernel) q4_148 q4_147 rfl ⟨Nat.le_of_ble_eq_true rfl, Nat.le_of_ble_eq_true rfl⟩ ⟨hk, hn⟩ (by decide) rfl rfl rfl rfl (Nat.le_of_ble_eq_true rfl) dL_law_1264 rfl ?_
    refine g_istore C (lv1 := [(5, .int 1), (0, .ref b0), (1, .ref ax), (2, .ref (am 0)), (3, .ref ao), (4, .int (nI i))]) dL_law_1267 (by decide) rfl ?_
    refine g_aload_n C dL_law_1269 rfl 3 rfl ?_
    refine g_aload_n C dL_law_1270 rfl 1 rfl ?_
    refine g_iload C dL_law_1271 5 rfl ?_
    refine g_iconst C (v := 1) dL_law_1273 (by decide) ?_
    refine g_iadd C dL_law_1274 ?_
    refine g_sldv C S (i + 1) (nx_add (rfl : nI i = nI i) (rfl : (1 : Int32) = nI 1)) (by omega) ha9 dL_law_1275 ?_
    refine g_callV C (cs1 := [wX ax (bo 0) (tr 0) (ac 0) (ah 0) (at_ 0), wB E bo ((fX6_close β η σ a).2.1), wB E tr τ, wC E ac γ, wH E ah bd ((fX6_close β η σ a).2.2.1), wT E at_ θ, wB E (bd 2) ((fX6_close β η σ a).2.2.2 2), wB E (bd 3) ((fX6_close β η σ a).2.2.2 3), wB E (bd 4) ((fX6_close β η σ a).2.2.2 4), wB E (bd 5) ((fX6_close β η σ a).2.2.2 5), wB E (bd 6) ((fX6_close β η σ a).2.2.2 6), wB E (bd 7) ((fX6_close β η σ a).2.2.2 7), wB E (bd 8) ((fX6_close β η σ a).2.2.2 8), wB E (bd 9) ((fX6_close β η σ a).2.2.2 9), wM E am ((fX7_close μ a).2), wO E ao o]) (st1 := [.int ((fX7_close μ a).1)]) [.int a] [14] (kX7_close l E am μ hvm a) caX7_close q7_24 rfl ⟨Nat.le_of_ble_eq_true rfl, Nat.le_of_ble_eq_true rfl⟩ ⟨hk, hn⟩ 14 0 rfl rfl rfl rfl (by decide) rfl rfl rfl rfl (Nat.le_of_ble_eq_true rfl) dL_law_1276 rfl ?_
    refine g_istore C (lv1 := [(6, .int ((fX7_close μ a).1)), (5, .int 1), (0, .ref b0), (1, .ref ax), (2, .ref (am 0)), (3, .ref ao), (4, .int (nI i))]) dL_law_1279 (by decide) rfl ?_
    refine g_aload_n C dL_law_1281 rfl 4 rfl ?_
    refine g_callV C (cs1 := [wX ax (bo 0) (tr 0) (ac 0) (ah 0) (at_ 0), wB E bo ((fX6_close β η σ a).2.1), wB E tr τ, wC E ac γ, wH E ah bd ((fX6_close β η σ a).2.2.1), wT E at_ θ, wB E (bd 2) ((fX6_close β η σ a).2.2.2 2), wB E (bd 3) ((fX6_close β η σ a).2.2.2 3), wB E (bd 4) ((fX6_close β η σ a).2.2.2 4), wB E (bd 5) ((fX6_close β η σ a).2.2.2 5), wB E (bd 6) ((fX6_close β η σ a).2.2.2 6), wB E (bd 7) ((fX6_close β η σ a).2.2.2 7), wB E (bd 8) ((fX6_close β η σ a).2.2.2 8), wB E (bd 9) ((fX6_close β η σ a).2.2.2 9), wM E am ((fX7_close μ a).2), wO E ao o]) (st1 := [.int (fX7_thrown ((fX7_close μ a).2))]) [] [14] (kX7_thrown l E am ((fX7_close μ a).2)) caX7_thrown q6_116 rfl ⟨Nat.le_of_ble_eq_true rfl, Nat.le_of_ble_eq_true rfl⟩ ⟨hk, hn⟩ 14 0 rfl rfl rfl rfl (by decide) rfl rfl rfl rfl (Nat.le_of_ble_eq_true rfl) dL_law_1282 rfl ?_
    refine g_iload C dL_law_1285 1 rfl ?_
    refine g_icmp_eq C 1292 dL_law_1287 (by decide) (fun _ => ?_) (fun c => absurd ht c)
    refine g_iload C dL_law_1292 1 rfl ?_
    refine g_if_ne C 1309 dL_law_1294 (by decide) (fun _ => ?_) (fun c => absurd c (by decide))
    refine g_goto C 3840 dL_law_1309 (by decide) ?_
    exact g_sub [2, 3, 4, 5, 6] rfl (next ((fX6_close β η σ a).2.1) τ γ ((fX6_close β η σ a).2.2.1) ((fX6_close β η σ a).2.2.2) θ ((fX7_close μ a).2) o hR2)
  · skip
    refine g_aload_n C dL_law_1256 rfl 1 rfl ?_
    refine g_aload_n C dL_law_1257 rfl 0 rfl ?_
    refine g_iload C dL_law_1258 4 rfl ?_
    refine g_iconst C (v := 1) dL_law_1260 (by decide) ?_
    refine g_iadd C dL_law_1261 ?_
    refine g_sldv C S (i + 1) (nx_add (rfl : nI i = nI i) (rfl : (1 : Int32) = nI 1)) (by omega) ha9 dL_law_1262 ?_
    refine g_aload_n C dL_law_1263 rfl 3 rfl ?_
    refine g_callSW C hZ hNc (z := 3) (cs1 := [wX ax (bo 0) (tr 0) (ac 0) (ah 0) (at_ 0), wB E bo ((fX6_close β η σ a).2.1), wB E tr τ, wC E ac γ, wH E ah bd ((fX6_close β η σ a).2.2.1), wT E at_ θ, wB E (bd 2) ((fX6_close β η σ a).2.2.2 2), wB E (bd 3) ((fX6_close β η σ a).2.2.2 3), wB E (bd 4) ((fX6_close β η σ a).2.2.2 4), wB E (bd 5) ((fX6_close β η σ a).2.2.2 5), wB E (bd 6) ((fX6_close β η σ a).2.2.2 6), wB E (bd 7) ((fX6_close β η σ a).2.2.2 7), wB E (bd 8) ((fX6_close β η σ a).2.2.2 8), wB E (bd 9) ((fX6_close β η σ a).2.2.2 9), wM E am μ, wO E ao o]) (st1 := [.int 2]) [.ref ax, .int a, .ref ao] [0, 1, 2, 3, 4, 5, 6, 7, 8, 9, 10, 11, 12, 13, 15] (kL_close_1 l E ax bo β tr τ ac γ ah bd η σ at_ θ ao o hlt hvb hvh a hr) q4_149 q1_0 (by decide +kernel) q4_148 q4_147 rfl ⟨Nat.le_of_ble_eq_true rfl, Nat.le_of_ble_eq_true rfl⟩ ⟨hk, hn⟩ (by decide) rfl rfl rfl rfl (Nat.le_of_ble_eq_true rfl) dL_law_1264 rfl ?_
    refine g_istore C (lv1 := [(5, .int 2), (0, .ref b0), (1, .ref ax), (2, .ref (am 0)), (3, .ref ao), (4, .int (nI i))]) dL_law_1267 (by decide) rfl ?_
    refine g_aload_n C dL_law_1269 rfl 3 rfl ?_
    refine g_aload_n C dL_law_1270 rfl 1 rfl ?_
    refine g_iload C dL_law_1271 5 rfl ?_
    refine g_iconst C (v := 1) dL_law_1273 (by decide) ?_
    refine g_iadd C dL_law_1274 ?_
    refine g_sldv C S (i + 1) (nx_add (rfl : nI i = nI i) (rfl : (1 : Int32) = nI 1)) (by omega) ha9 dL_law_1275 ?_
    refine g_callV C (cs1 := [wX ax (bo 0) (tr 0) (ac 0) (ah 0) (at_ 0), wB E bo ((fX6_close β η σ a).2.1), wB E tr τ, wC E ac γ, wH E ah bd ((fX6_close β η σ a).2.2.1), wT E at_ θ, wB E (bd 2) ((fX6_close β η σ a).2.2.2 2), wB E (bd 3) ((fX6_close β η σ a).2.2.2 3), wB E (bd 4) ((fX6_close β η σ a).2.2.2 4), wB E (bd 5) ((fX6_close β η σ a).2.2.2 5), wB E (bd 6) ((fX6_close β η σ a).2.2.2 6), wB E (bd 7) ((fX6_close β η σ a).2.2.2 7), wB E (bd 8) ((fX6_close β η σ a).2.2.2 8), wB E (bd 9) ((fX6_close β η σ a).2.2.2 9), wM E am ((fX7_close μ a).2), wO E ao o]) (st1 := [.int ((fX7_close μ a).1)]) [.int a] [14] (kX7_close l E am μ hvm a) caX7_close q7_24 rfl ⟨Nat.le_of_ble_eq_true rfl, Nat.le_of_ble_eq_true rfl⟩ ⟨hk, hn⟩ 14 0 rfl rfl rfl rfl (by decide) rfl rfl rfl rfl (Nat.le_of_ble_eq_true rfl) dL_law_1276 rfl ?_
    refine g_istore C (lv1 := [(6, .int ((fX7_close μ a).1)), (5, .int 2), (0, .ref b0), (1, .ref ax), (2, .ref (am 0)), (3, .ref ao), (4, .int (nI i))]) dL_law_1279 (by decide) rfl ?_
    refine g_aload_n C dL_law_1281 rfl 4 rfl ?_
    refine g_callV C (cs1 := [wX ax (bo 0) (tr 0) (ac 0) (ah 0) (at_ 0), wB E bo ((fX6_close β η σ a).2.1), wB E tr τ, wC E ac γ, wH E ah bd ((fX6_close β η σ a).2.2.1), wT E at_ θ, wB E (bd 2) ((fX6_close β η σ a).2.2.2 2), wB E (bd 3) ((fX6_close β η σ a).2.2.2 3), wB E (bd 4) ((fX6_close β η σ a).2.2.2 4), wB E (bd 5) ((fX6_close β η σ a).2.2.2 5), wB E (bd 6) ((fX6_close β η σ a).2.2.2 6), wB E (bd 7) ((fX6_close β η σ a).2.2.2 7), wB E (bd 8) ((fX6_close β η σ a).2.2.2 8), wB E (bd 9) ((fX6_close β η σ a).2.2.2 9), wM E am ((fX7_close μ a).2), wO E ao o]) (st1 := [.int (fX7_thrown ((fX7_close μ a).2))]) [] [14] (kX7_thrown l E am ((fX7_close μ a).2)) caX7_thrown q6_116 rfl ⟨Nat.le_of_ble_eq_true rfl, Nat.le_of_ble_eq_true rfl⟩ ⟨hk, hn⟩ 14 0 rfl rfl rfl rfl (by decide) rfl rfl rfl rfl (Nat.le_of_ble_eq_true rfl) dL_law_1282 rfl ?_
    refine g_iload C dL_law_1285 1 rfl ?_
    refine g_icmp_eq C 1292 dL_law_1287 (by decide) (fun _ => ?_) (fun c => absurd ht c)
    refine g_iload C dL_law_1292 1 rfl ?_
    refine g_if_ne C 1309 dL_law_1294 (by decide) (fun _ => ?_) (fun c => absurd c (by decide))
    refine g_goto C 3840 dL_law_1309 (by decide) ?_
    exact g_sub [2, 3, 4, 5, 6] rfl (next ((fX6_close β η σ a).2.1) τ γ ((fX6_close β η σ a).2.2.1) ((fX6_close β η σ a).2.2.2) θ ((fX7_close μ a).2) o hR2)
set_option maxHeartbeats 4000000 in
set_option maxRecDepth 100000 in
theorem arm_16 {Rl : RlT} (hRv : RlV Rl) (hs : sH_reopen Rl)  {X : gX} {l : Launch} {E : gE} (C : gC X cL_law 9 RL (some .boolean) l E room_1) (hZ : gZ X.2.2.2.2.2.2.2.2.2.2.2.1 X.2.2.2.2.1 X.2.2.2.2.1.heap) (hNc : gNc X.2.2.2.2.1) {b0 L0 : Nat} {xs : Nat → Int32} (S : gS X b0 L0 xs) (hlt : l.stackTraces = false) {ax : Nat} {bo tr ac ah : Nat → Nat} {bd : Nat → Nat → Nat} {at_ am : Nat → Nat} {ao k n i : Nat} (hk : k + 3 ≤ 601024) (hn : n + 18 ≤ 7293034) (hi : i + 3 ≤ L0) {β τ γ η : BS} {σ : Nat → BS} {θ μ : BS} {o : Nat → Int64} (hR : Rl β η θ σ μ) (next : ∀ (β τ γ η : BS) (σ : Nat → BS) (θ μ : BS) (o : Nat → Int64), Rl β η θ σ μ → G X (k + 3) (n + 18) [wX ax (bo 0) (tr 0) (ac 0) (ah 0) (at_ 0), wB E bo β, wB E tr τ, wC E ac γ, wH E ah bd η, wT E at_ θ, wB E (bd 2) (σ 2), wB E (bd 3) (σ 3), wB E (bd 4) (σ 4), wB E (bd 5) (σ 5), wB E (bd 6) (σ 6), wB E (bd 7) (σ 7), wB E (bd 8) (σ 8), wB E (bd 9) (σ 9), wM E am μ, wO E ao o] [(0, .ref b0), (1, .ref ax), (2, .ref (am 0)), (3, .ref ao), (4, .int (nI i))] 3840 []) : G X k n [wX ax (bo 0) (tr 0) (ac 0) (ah 0) (at_ 0), wB E bo β, wB E tr τ, wC E ac γ, wH E ah bd η, wT E at_ θ, wB E (bd 2) (σ 2), wB E (bd 3) (σ 3), wB E (bd 4) (σ 4), wB E (bd 5) (σ 5), wB E (bd 6) (σ 6), wB E (bd 7) (σ 7), wB E (bd 8) (σ 8), wB E (bd 9) (σ 9), wM E am μ, wO E ao o] [(0, .ref b0), (1, .ref ax), (2, .ref (am 0)), (3, .ref ao), (4, .int (nI i))] 1312 [] := by
  obtain ⟨hvb, hvh, hvt, hvm, ha⟩ := hRv β η θ σ μ hR
  obtain ⟨a, ha9⟩ : ∃ a, xs (i + 1) = a := ⟨_, rfl⟩
  obtain ⟨hag, hR2⟩ := hs β τ γ η σ θ μ a hR
  rcases hag with ⟨hr, ht⟩ | ⟨hr, ht⟩ | ⟨hr, ht⟩
  · skip
    refine g_aload_n C dL_law_1312 rfl 1 rfl ?_
    refine g_aload_n C dL_law_1313 rfl 0 rfl ?_
    refine g_iload C dL_law_1314 4 rfl ?_
    refine g_iconst C (v := 1) dL_law_1316 (by decide) ?_
    refine g_iadd C dL_law_1317 ?_
    refine g_sldv C S (i + 1) (nx_add (rfl : nI i = nI i) (rfl : (1 : Int32) = nI 1)) (by omega) ha9 dL_law_1318 ?_
    refine g_aload_n C dL_law_1319 rfl 3 rfl ?_
    refine g_callSW C hZ hNc (z := 3) (cs1 := [wX ax (bo 0) (tr 0) (ac 0) (ah 0) (at_ 0), wB E bo ((fX6_reopen β η σ a).2.1), wB E tr τ, wC E ac γ, wH E ah bd ((fX6_reopen β η σ a).2.2.1), wT E at_ θ, wB E (bd 2) ((fX6_reopen β η σ a).2.2.2 2), wB E (bd 3) ((fX6_reopen β η σ a).2.2.2 3), wB E (bd 4) ((fX6_reopen β η σ a).2.2.2 4), wB E (bd 5) ((fX6_reopen β η σ a).2.2.2 5), wB E (bd 6) ((fX6_reopen β η σ a).2.2.2 6), wB E (bd 7) ((fX6_reopen β η σ a).2.2.2 7), wB E (bd 8) ((fX6_reopen β η σ a).2.2.2 8), wB E (bd 9) ((fX6_reopen β η σ a).2.2.2 9), wM E am μ, wO E ao (vp_updL o 0 ((fX7_reopen μ a).1).toInt64)]) (st1 := [.int 0]) [.ref ax, .int a, .ref ao] [0, 1, 2, 3, 4, 5, 6, 7, 8, 9, 10, 11, 12, 13, 15] (kL_reopen_r l E ax bo β tr τ ac γ ah bd η σ at_ θ ao o hlt hvb hvh a ((fX7_reopen μ a).1) hr) q4_170 q1_0 (by decide +kernel) q4_169 q4_168 rfl ⟨Nat.le_of_ble_eq_true rfl, Nat.le_of_ble_eq_true rfl⟩ ⟨hk, hn⟩ (by decide) rfl rfl rfl rfl (Nat.le_of_ble_eq_true rfl) dL_law_1320 rfl ?_
    refine g_istore C (lv1 := [(5, .int 0), (0, .ref b0), (1, .ref ax), (2, .ref (am 0)), (3, .ref ao), (4, .int (nI i))]) dL_law_1323 (by decide) rfl ?_
    refine g_aload_n C dL_law_1325 rfl 3 rfl ?_
    refine g_aload_n C dL_law_1326 rfl 1 rfl ?_
    refine g_iload C dL_law_1327 5 rfl ?_
    refine g_iconst C (v := 1) dL_law_1329 (by decide) ?_
    refine g_iadd C dL_law_1330 ?_
    refine g_sldv C S (i + 1) (nx_add (rfl : nI i = nI i) (rfl : (1 : Int32) = nI 1)) (by omega) ha9 dL_law_1331 ?_
    refine g_callV C (cs1 := [wX ax (bo 0) (tr 0) (ac 0) (ah 0) (at_ 0), wB E bo ((fX6_reopen β η σ a).2.1), wB E tr τ, wC E ac γ, wH E ah bd ((fX6_reopen β η σ a).2.2.1), wT E at_ θ, wB E (bd 2) ((fX6_reopen β η σ a).2.2.2 2), wB E (bd 3) ((fX6_reopen β η σ a).2.2.2 3), wB E (bd 4) ((fX6_reopen β η σ a).2.2.2 4), wB E (bd 5) ((fX6_reopen β η σ a).2.2.2 5), wB E (bd 6) ((fX6_reopen β η σ a).2.2.2 6), wB E (bd 7) ((fX6_reopen β η σ a).2.2.2 7), wB E (bd 8) ((fX6_reopen β η σ a).2.2.2 8), wB E (bd 9) ((fX6_reopen β η σ a).2.2.2 9), wM E am ((fX7_reopen μ a).2), wO E ao (vp_updL o 0 ((fX7_reopen μ a).1).toInt64)]) (st1 := [.int ((fX7_reopen μ a).1)]) [.int a] [14] (kX7_reopen l E am μ hvm a) caX7_reopen q7_48 rfl ⟨Nat.le_of_ble_eq_true rfl, Nat.le_of_ble_eq_true rfl⟩ ⟨hk, hn⟩ 14 0 rfl rfl rfl rfl (by decide) rfl rfl rfl rfl (Nat.le_of_ble_eq_true rfl) dL_law_1332 rfl ?_
    refine g_istore C (lv1 := [(6, .int ((fX7_reopen μ a).1)), (5, .int 0), (0, .ref b0), (1, .ref ax), (2, .ref (am 0)), (3, .ref ao), (4, .int (nI i))]) dL_law_1335 (by decide) rfl ?_
    refine g_aload_n C dL_law_1337 rfl 4 rfl ?_
    refine g_callV C (cs1 := [wX ax (bo 0) (tr 0) (ac 0) (ah 0) (at_ 0), wB E bo ((fX6_reopen β η σ a).2.1), wB E tr τ, wC E ac γ, wH E ah bd ((fX6_reopen β η σ a).2.2.1), wT E at_ θ, wB E (bd 2) ((fX6_reopen β η σ a).2.2.2 2), wB E (bd 3) ((fX6_reopen β η σ a).2.2.2 3), wB E (bd 4) ((fX6_reopen β η σ a).2.2.2 4), wB E (bd 5) ((fX6_reopen β η σ a).2.2.2 5), wB E (bd 6) ((fX6_reopen β η σ a).2.2.2 6), wB E (bd 7) ((fX6_reopen β η σ a).2.2.2 7), wB E (bd 8) ((fX6_reopen β η σ a).2.2.2 8), wB E (bd 9) ((fX6_reopen β η σ a).2.2.2 9), wM E am ((fX7_reopen μ a).2), wO E ao (vp_updL o 0 ((fX7_reopen μ a).1).toInt64)]) (st1 := [.int (fX7_thrown ((fX7_reopen μ a).2))]) [] [14] (kX7_thrown l E am ((fX7_reopen μ a).2)) caX7_thrown q6_116 rfl ⟨Nat.le_of_ble_eq_true rfl, Nat.le_of_ble_eq_true rfl⟩ ⟨hk, hn⟩ 14 0 rfl rfl rfl rfl (by decide) rfl rfl rfl rfl (Nat.le_of_ble_eq_true rfl) dL_law_1338 rfl ?_
    refine g_iload C dL_law_1341 1 rfl ?_
    refine g_icmp_eq C 1348 dL_law_1343 (by decide) (fun _ => ?_) (fun c => absurd ht c)
    refine g_iload C dL_law_1348 1 rfl ?_
    refine g_if_ne C 1365 dL_law_1350 (by decide) (fun c => absurd rfl c) (fun _ => ?_)
    refine g_aload_n C dL_law_1353 rfl 5 rfl ?_
    refine g_iconst C (v := 0) dL_law_1354 (by decide) ?_
    refine g_laldn C 15 0 0 rfl rfl rfl (by decide) (by decide) dL_law_1355 ?_
    refine g_iload C dL_law_1356 0 rfl ?_
    refine g_i2l C dL_law_1358 ?_
    refine g_lcmp C dL_law_1359 ?_
    refine g_if_eq C 1365 dL_law_1360 (by decide) (fun _ => ?_) (fun c => absurd law_cmp c)
    refine g_goto C 3840 dL_law_1365 (by decide) ?_
    exact g_sub [2, 3, 4, 5, 6] rfl (next ((fX6_reopen β η σ a).2.1) τ γ ((fX6_reopen β η σ a).2.2.1) ((fX6_reopen β η σ a).2.2.2) θ ((fX7_reopen μ a).2) (vp_updL o 0 ((fX7_reopen μ a).1).toInt64) hR2)
  · skip
    refine g_aload_n C dL_law_1312 rfl 1 rfl ?_
    refine g_aload_n C dL_law_1313 rfl 0 rfl ?_
    refine g_iload C dL_law_1314 4 rfl ?_
    refine g_iconst C (v := 1) dL_law_1316 (by decide) ?_
    refine g_iadd C dL_law_1317 ?_
    refine g_sldv C S (i + 1) (nx_add (rfl : nI i = nI i) (rfl : (1 : Int32) = nI 1)) (by omega) ha9 dL_law_1318 ?_
    refine g_aload_n C dL_law_1319 rfl 3 rfl ?_
    refine g_callSW C hZ hNc (z := 3) (cs1 := [wX ax (bo 0) (tr 0) (ac 0) (ah 0) (at_ 0), wB E bo ((fX6_reopen β η σ a).2.1), wB E tr τ, wC E ac γ, wH E ah bd ((fX6_reopen β η σ a).2.2.1), wT E at_ θ, wB E (bd 2) ((fX6_reopen β η σ a).2.2.2 2), wB E (bd 3) ((fX6_reopen β η σ a).2.2.2 3), wB E (bd 4) ((fX6_reopen β η σ a).2.2.2 4), wB E (bd 5) ((fX6_reopen β η σ a).2.2.2 5), wB E (bd 6) ((fX6_reopen β η σ a).2.2.2 6), wB E (bd 7) ((fX6_reopen β η σ a).2.2.2 7), wB E (bd 8) ((fX6_reopen β η σ a).2.2.2 8), wB E (bd 9) ((fX6_reopen β η σ a).2.2.2 9), wM E am μ, wO E ao o]) (st1 := [.int 1]) [.ref ax, .int a, .ref ao] [0, 1, 2, 3, 4, 5, 6, 7, 8, 9, 10, 11, 12, 13, 15] (kL_reopen_0 l E ax bo β tr τ ac γ ah bd η σ at_ θ ao o hlt hvb hvh a hr) q4_170 q1_0 (by decide +kernel) q4_169 q4_168 rfl ⟨Nat.le_of_ble_eq_true rfl, Nat.le_of_ble_eq_true rfl⟩ ⟨hk, hn⟩ (by decide) rfl rfl rfl rfl (Nat.le_of_ble_eq_true rfl) dL_law_1320 rfl ?_
    refine g_istore C (lv1 := [(5, .int 1), (0, .ref b0), (1, .ref ax), (2, .ref (am 0)), (3, .ref ao), (4, .int (nI i))]) dL_law_1323 (by decide) rfl ?_
    refine g_aload_n C dL_law_1325 rfl 3 rfl ?_
    refine g_aload_n C dL_law_1326 rfl 1 rfl ?_
    refine g_iload C dL_law_1327 5 rfl ?_
    refine g_iconst C (v := 1) dL_law_1329 (by decide) ?_
    refine g_iadd C dL_law_1330 ?_
    refine g_sldv C S (i + 1) (nx_add (rfl : nI i = nI i) (rfl : (1 : Int32) = nI 1)) (by omega) ha9 dL_law_1331 ?_
    refine g_callV C (cs1 := [wX ax (bo 0) (tr 0) (ac 0) (ah 0) (at_ 0), wB E bo ((fX6_reopen β η σ a).2.1), wB E tr τ, wC E ac γ, wH E ah bd ((fX6_reopen β η σ a).2.2.1), wT E at_ θ, wB E (bd 2) ((fX6_reopen β η σ a).2.2.2 2), wB E (bd 3) ((fX6_reopen β η σ a).2.2.2 3), wB E (bd 4) ((fX6_reopen β η σ a).2.2.2 4), wB E (bd 5) ((fX6_reopen β η σ a).2.2.2 5), wB E (bd 6) ((fX6_reopen β η σ a).2.2.2 6), wB E (bd 7) ((fX6_reopen β η σ a).2.2.2 7), wB E (bd 8) ((fX6_reopen β η σ a).2.2.2 8), wB E (bd 9) ((fX6_reopen β η σ a).2.2.2 9), wM E am ((fX7_reopen μ a).2), wO E ao o]) (st1 := [.int ((fX7_reopen μ a).1)]) [.int a] [14] (kX7_reopen l E am μ hvm a) caX7_reopen q7_48 rfl ⟨Nat.le_of_ble_eq_true rfl, Nat.le_of_ble_eq_true rfl⟩ ⟨hk, hn⟩ 14 0 rfl rfl rfl rfl (by decide) rfl rfl rfl rfl (Nat.le_of_ble_eq_true rfl) dL_law_1332 rfl ?_
    refine g_istore C (lv1 := [(6, .int ((fX7_reopen μ a).1)), (5, .int 1), (0, .ref b0), (1, .ref ax), (2, .ref (am 0)), (3, .ref ao), (4, .int (nI i))]) dL_law_1335 (by decide) rfl ?_
    refine g_aload_n C dL_law_1337 rfl 4 rfl ?_
    refine g_callV C (cs1 := [wX ax (bo 0) (tr 0) (ac 0) (ah 0) (at_ 0), wB E bo ((fX6_reopen β η σ a).2.1), wB E tr τ, wC E ac γ, wH E ah bd ((fX6_reopen β η σ a).2.2.1), wT E at_ θ, wB E (bd 2) ((fX6_reopen β η σ a).2.2.2 2), wB E (bd 3) ((fX6_reopen β η σ a).2.2.2 3), wB E (bd 4) ((fX6_reopen β η σ a).2.2.2 4), wB E (bd 5) ((fX6_reopen β η σ a).2.2.2 5), wB E (bd 6) ((fX6_reopen β η σ a).2.2.2 6), wB E (bd 7) ((fX6_reopen β η σ a).2.2.2 7), wB E (bd 8) ((fX6_reopen β η σ a).2.2.2 8), wB E (bd 9) ((fX6_reopen β η σ a).2.2.2 9), wM E am ((fX7_reopen μ a).2), wO E ao o]) (st1 := [.int (fX7_thrown ((fX7_reopen μ a).2))]) [] [14] (kX7_thrown l E am ((fX7_reopen μ a).2)) caX7_thrown q6_116 rfl ⟨Nat.le_of_ble_eq_true rfl, Nat.le_of_ble_eq_true rfl⟩ ⟨hk, hn⟩ 14 0 rfl rfl rfl rfl (by decide) rfl rfl rfl rfl (Nat.le_of_ble_eq_true rfl) dL_law_1338 rfl ?_
    refine g_iload C dL_law_1341 1 rfl ?_
    refine g_icmp_eq C 1348 dL_law_1343 (by decide) (fun _ => ?_) (fun c => absurd ht c)
    refine g_iload C dL_law_1348 1 rfl ?_
    refine g_if_ne C 1365 dL_law_1350 (by decide) (fun _ => ?_) (fun c => absurd c (by decide))
    refine g_goto C 3840 dL_law_1365 (by decide) ?_
    exact g_sub [2, 3, 4, 5, 6] rfl (next ((fX6_reopen β η σ a).2.1) τ γ ((fX6_reopen β η σ a).2.2.1) ((fX6_reopen β η σ a).2.2.2) θ ((fX7_reopen μ a).2) o hR2)
  · skip
    refine g_aload_n C dL_law_1312 rfl 1 rfl ?_
    refine g_aload_n C dL_law_1313 rfl 0 rfl ?_
    refine g_iload C dL_law_1314 4 rfl ?_
    refine g_iconst C (v := 1) dL_law_1316 (by decide) ?_
    refine g_iadd C dL_law_1317 ?_
    refine g_sldv C S (i + 1) (nx_add (rfl : nI i = nI i) (rfl : (1 : Int32) = nI 1)) (by omega) ha9 dL_law_1318 ?_
    refine g_aload_n C dL_law_1319 rfl 3 rfl ?_
    refine g_callSW C hZ hNc (z := 3) (cs1 := [wX ax (bo 0) (tr 0) (ac 0) (ah 0) (at_ 0), wB E bo ((fX6_reopen β η σ a).2.1), wB E tr τ, wC E ac γ, wH E ah bd ((fX6_reopen β η σ a).2.2.1), wT E at_ θ, wB E (bd 2) ((fX6_reopen β η σ a).2.2.2 2), wB E (bd 3) ((fX6_reopen β η σ a).2.2.2 3), wB E (bd 4) ((fX6_reopen β η σ a).2.2.2 4), wB E (bd 5) ((fX6_reopen β η σ a).2.2.2 5), wB E (bd 6) ((fX6_reopen β η σ a).2.2.2 6), wB E (bd 7) ((fX6_reopen β η σ a).2.2.2 7), wB E (bd 8) ((fX6_reopen β η σ a).2.2.2 8), wB E (bd 9) ((fX6_reopen β η σ a).2.2.2 9), wM E am μ, wO E ao o]) (st1 := [.int 2]) [.ref ax, .int a, .ref ao] [0, 1, 2, 3, 4, 5, 6, 7, 8, 9, 10, 11, 12, 13, 15] (kL_reopen_1 l E ax bo β tr τ ac γ ah bd η σ at_ θ ao o hlt hvb hvh a hr) q4_170 q1_0 (by decide +kernel) q4_169 q4_168 rfl ⟨Nat.le_of_ble_eq_true rfl, Nat.le_of_ble_eq_true rfl⟩ ⟨hk, hn⟩ (by decide) rfl rfl rfl rfl (Nat.le_of_ble_eq_true rfl) dL_law_1320 rfl ?_
    refine g_istore C (lv1 := [(5, .int 2), (0, .ref b0), (1, .ref ax), (2, .ref (am 0)), (3, .ref ao), (4, .int (nI i))]) dL_law_1323 (by decide) rfl ?_
    refine g_aload_n C dL_law_1325 rfl 3 rfl ?_
    refine g_aload_n C dL_law_1326 rfl 1 rfl ?_
    refine g_iload C dL_law_1327 5 rfl ?_
    refine g_iconst C (v := 1) dL_law_1329 (by decide) ?_
    refine g_iadd C dL_law_1330 ?_
    refine g_sldv C S (i + 1) (nx_add (rfl : nI i = nI i) (rfl : (1 : Int32) = nI 1)) (by omega) ha9 dL_law_1331 ?_
    refine g_callV C (cs1 := [wX ax (bo 0) (tr 0) (ac 0) (ah 0) (at_ 0), wB E bo ((fX6_reopen β η σ a).2.1), wB E tr τ, wC E ac γ, wH E ah bd ((fX6_reopen β η σ a).2.2.1), wT E at_ θ, wB E (bd 2) ((fX6_reopen β η σ a).2.2.2 2), wB E (bd 3) ((fX6_reopen β η σ a).2.2.2 3), wB E (bd 4) ((fX6_reopen β η σ a).2.2.2 4), wB E (bd 5) ((fX6_reopen β η σ a).2.2.2 5), wB E (bd 6) ((fX6_reopen β η σ a).2.2.2 6), wB E (bd 7) ((fX6_reopen β η σ a).2.2.2 7), wB E (bd 8) ((fX6_reopen β η σ a).2.2.2 8), wB E (bd 9) ((fX6_reopen β η σ a).2.2.2 9), wM E am ((fX7_reopen μ a).2), wO E ao o]) (st1 := [.int ((fX7_reopen μ a).1)]) [.int a] [14] (kX7_reopen l E am μ hvm a) caX7_reopen q7_48 rfl ⟨Nat.le_of_ble_eq_true rfl, Nat.le_of_ble_eq_true rfl⟩ ⟨hk, hn⟩ 14 0 rfl rfl rfl rfl (by decide) rfl rfl rfl rfl (Nat.le_of_ble_eq_true rfl) dL_law_1332 rfl ?_
    refine g_istore C (lv1 := [(6, .int ((fX7_reopen μ a).1)), (5, .int 2), (0, .ref b0), (1, .ref ax), (2, .ref (am 0)), (3, .ref ao), (4, .int (nI i))]) dL_law_1335 (by decide) rfl ?_
    refine g_aload_n C dL_law_1337 rfl 4 rfl ?_
    refine g_callV C (cs1 := [wX ax (bo 0) (tr 0) (ac 0) (ah 0) (at_ 0), wB E bo ((fX6_reopen β η σ a).2.1), wB E tr τ, wC E ac γ, wH E ah bd ((fX6_reopen β η σ a).2.2.1), wT E at_ θ, wB E (bd 2) ((fX6_reopen β η σ a).2.2.2 2), wB E (bd 3) ((fX6_reopen β η σ a).2.2.2 3), wB E (bd 4) ((fX6_reopen β η σ a).2.2.2 4), wB E (bd 5) ((fX6_reopen β η σ a).2.2.2 5), wB E (bd 6) ((fX6_reopen β η σ a).2.2.2 6), wB E (bd 7) ((fX6_reopen β η σ a).2.2.2 7), wB E (bd 8) ((fX6_reopen β η σ a).2.2.2 8), wB E (bd 9) ((fX6_reopen β η σ a).2.2.2 9), wM E am ((fX7_reopen μ a).2), wO E ao o]) (st1 := [.int (fX7_thrown ((fX7_reopen μ a).2))]) [] [14] (kX7_thrown l E am ((fX7_reopen μ a).2)) caX7_thrown q6_116 rfl ⟨Nat.le_of_ble_eq_true rfl, Nat.le_of_ble_eq_true rfl⟩ ⟨hk, hn⟩ 14 0 rfl rfl rfl rfl (by decide) rfl rfl rfl rfl (Nat.le_of_ble_eq_true rfl) dL_law_1338 rfl ?_
    refine g_iload C dL_law_1341 1 rfl ?_
    refine g_icmp_eq C 1348 dL_law_1343 (by decide) (fun _ => ?_) (fun c => absurd ht c)
    refine g_iload C dL_law_1348 1 rfl ?_
    refine g_if_ne C 1365 dL_law_1350 (by decide) (fun _ => ?_) (fun c => absurd c (by decide))
    refine g_goto C 3840 dL_law_1365 (by decide) ?_
    exact g_sub [2, 3, 4, 5, 6] rfl (next ((fX6_reopen β η σ a).2.1) τ γ ((fX6_reopen β η σ a).2.2.1) ((fX6_reopen β η σ a).2.2.2) θ ((fX7_reopen μ a).2) o hR2)
set_option maxHeartbeats 4000000 in
set_option maxRecDepth 100000 in
theorem arm_17 {Rl : RlT} (hRv : RlV Rl) (hs : sH_drop Rl)  {X : gX} {l : Launch} {E : gE} (C : gC X cL_law 9 RL (some .boolean) l E room_1) (hZ : gZ X.2.2.2.2.2.2.2.2.2.2.2.1 X.2.2.2.2.1 X.2.2.2.2.1.heap) (hNc : gNc X.2.2.2.2.1) {b0 L0 : Nat} {xs : Nat → Int32} (S : gS X b0 L0 xs) (hlt : l.stackTraces = false) {ax : Nat} {bo tr ac ah : Nat → Nat} {bd : Nat → Nat → Nat} {at_ am : Nat → Nat} {ao k n i : Nat} (hk : k + 3 ≤ 601024) (hn : n + 18 ≤ 7293034) (hi : i + 3 ≤ L0) {β τ γ η : BS} {σ : Nat → BS} {θ μ : BS} {o : Nat → Int64} (hR : Rl β η θ σ μ) (next : ∀ (β τ γ η : BS) (σ : Nat → BS) (θ μ : BS) (o : Nat → Int64), Rl β η θ σ μ → G X (k + 3) (n + 18) [wX ax (bo 0) (tr 0) (ac 0) (ah 0) (at_ 0), wB E bo β, wB E tr τ, wC E ac γ, wH E ah bd η, wT E at_ θ, wB E (bd 2) (σ 2), wB E (bd 3) (σ 3), wB E (bd 4) (σ 4), wB E (bd 5) (σ 5), wB E (bd 6) (σ 6), wB E (bd 7) (σ 7), wB E (bd 8) (σ 8), wB E (bd 9) (σ 9), wM E am μ, wO E ao o] [(0, .ref b0), (1, .ref ax), (2, .ref (am 0)), (3, .ref ao), (4, .int (nI i))] 3840 []) : G X k n [wX ax (bo 0) (tr 0) (ac 0) (ah 0) (at_ 0), wB E bo β, wB E tr τ, wC E ac γ, wH E ah bd η, wT E at_ θ, wB E (bd 2) (σ 2), wB E (bd 3) (σ 3), wB E (bd 4) (σ 4), wB E (bd 5) (σ 5), wB E (bd 6) (σ 6), wB E (bd 7) (σ 7), wB E (bd 8) (σ 8), wB E (bd 9) (σ 9), wM E am μ, wO E ao o] [(0, .ref b0), (1, .ref ax), (2, .ref (am 0)), (3, .ref ao), (4, .int (nI i))] 1368 [] := by
  obtain ⟨hvb, hvh, hvt, hvm, ha⟩ := hRv β η θ σ μ hR
  obtain ⟨a, ha9⟩ : ∃ a, xs (i + 1) = a := ⟨_, rfl⟩
  obtain ⟨hag, hR2⟩ := hs β τ γ η σ θ μ a hR
  rcases hag with ⟨hr, ht⟩ | ⟨hr, ht⟩ | ⟨hr, ht⟩
  · skip
    refine g_aload_n C dL_law_1368 rfl 1 rfl ?_
    refine g_aload_n C dL_law_1369 rfl 0 rfl ?_
    refine g_iload C dL_law_1370 4 rfl ?_
    refine g_iconst C (v := 1) dL_law_1372 (by decide) ?_
    refine g_iadd C dL_law_1373 ?_
    refine g_sldv C S (i + 1) (nx_add (rfl : nI i = nI i) (rfl : (1 : Int32) = nI 1)) (by omega) ha9 dL_law_1374 ?_
    refine g_aload_n C dL_law_1375 rfl 3 rfl ?_
    refine g_callSW C hZ hNc (z := 3) (cs1 := [wX ax (bo 0) (tr 0) (ac 0) (ah 0) (at_ 0), wB E bo ((fX6_drop β η σ a).2.1), wB E tr τ, wC E ac γ, wH E ah bd ((fX6_drop β η σ a).2.2.1), wT E at_ θ, wB E (bd 2) ((fX6_drop β η σ a).2.2.2 2), wB E (bd 3) ((fX6_drop β η σ a).2.2.2 3), wB E (bd 4) ((fX6_drop β η σ a).2.2.2 4), wB E (bd 5) ((fX6_drop β η σ a).2.2.2 5), wB E (bd 6) ((fX6_drop β η σ a).2.2.2 6), wB E (bd 7) ((fX6_drop β η σ a).2.2.2 7), wB E (bd 8) ((fX6_drop β η σ a).2.2.2 8), wB E (bd 9) ((fX6_drop β η σ a).2.2.2 9), wM E am μ, wO E ao (vp_updL o 0 ((fX7_drop μ a).1).toInt64)]) (st1 := [.int 0]) [.ref ax, .int a, .ref ao] [0, 1, 2, 3, 4, 5, 6, 7, 8, 9, 10, 11, 12, 13, 15] (kL_drop_r l E ax bo β tr τ ac γ ah bd η σ at_ θ ao o hlt hvb hvh a ((fX7_drop μ a).1) hr) q4_190 q1_0 (by decide +kernel) q4_189 q4_188 rfl ⟨Nat.le_of_ble_eq_true rfl, Nat.le_of_ble_eq_true rfl⟩ ⟨hk, hn⟩ (by decide) rfl rfl rfl rfl (Nat.le_of_ble_eq_true rfl) dL_law_1376 rfl ?_
    refine g_istore C (lv1 := [(5, .int 0), (0, .ref b0), (1, .ref ax), (2, .ref (am 0)), (3, .ref ao), (4, .int (nI i))]) dL_law_1379 (by decide) rfl ?_
    refine g_aload_n C dL_law_1381 rfl 3 rfl ?_
    refine g_aload_n C dL_law_1382 rfl 1 rfl ?_
    refine g_iload C dL_law_1383 5 rfl ?_
    refine g_iconst C (v := 1) dL_law_1385 (by decide) ?_
    refine g_iadd C dL_law_1386 ?_
    refine g_sldv C S (i + 1) (nx_add (rfl : nI i = nI i) (rfl : (1 : Int32) = nI 1)) (by omega) ha9 dL_law_1387 ?_
    refine g_callV C (cs1 := [wX ax (bo 0) (tr 0) (ac 0) (ah 0) (at_ 0), wB E bo ((fX6_drop β η σ a).2.1), wB E tr τ, wC E ac γ, wH E ah bd ((fX6_drop β η σ a).2.2.1), wT E at_ θ, wB E (bd 2) ((fX6_drop β η σ a).2.2.2 2), wB E (bd 3) ((fX6_drop β η σ a).2.2.2 3), wB E (bd 4) ((fX6_drop β η σ a).2.2.2 4), wB E (bd 5) ((fX6_drop β η σ a).2.2.2 5), wB E (bd 6) ((fX6_drop β η σ a).2.2.2 6), wB E (bd 7) ((fX6_drop β η σ a).2.2.2 7), wB E (bd 8) ((fX6_drop β η σ a).2.2.2 8), wB E (bd 9) ((fX6_drop β η σ a).2.2.2 9), wM E am ((fX7_drop μ a).2), wO E ao (vp_updL o 0 ((fX7_drop μ a).1).toInt64)]) (st1 := [.int ((fX7_drop μ a).1)]) [.int a] [14] (kX7_drop l E am μ hvm a) caX7_drop q7_56 rfl ⟨Nat.le_of_ble_eq_true rfl, Nat.le_of_ble_eq_true rfl⟩ ⟨hk, hn⟩ 14 0 rfl rfl rfl rfl (by decide) rfl rfl rfl rfl (Nat.le_of_ble_eq_true rfl) dL_law_1388 rfl ?_
    refine g_istore C (lv1 := [(6, .int ((fX7_drop μ a).1)), (5, .int 0), (0, .ref b0), (1, .ref ax), (2, .ref (am 0)), (3, .ref ao), (4, .int (nI i))]) dL_law_1391 (by decide) rfl ?_
    refine g_aload_n C dL_law_1393 rfl 4 rfl ?_
    refine g_callV C (cs1 := [wX ax (bo 0) (tr 0) (ac 0) (ah 0) (at_ 0), wB E bo ((fX6_drop β η σ a).2.1), wB E tr τ, wC E ac γ, wH E ah bd ((fX6_drop β η σ a).2.2.1), wT E at_ θ, wB E (bd 2) ((fX6_drop β η σ a).2.2.2 2), wB E (bd 3) ((fX6_drop β η σ a).2.2.2 3), wB E (bd 4) ((fX6_drop β η σ a).2.2.2 4), wB E (bd 5) ((fX6_drop β η σ a).2.2.2 5), wB E (bd 6) ((fX6_drop β η σ a).2.2.2 6), wB E (bd 7) ((fX6_drop β η σ a).2.2.2 7), wB E (bd 8) ((fX6_drop β η σ a).2.2.2 8), wB E (bd 9) ((fX6_drop β η σ a).2.2.2 9), wM E am ((fX7_drop μ a).2), wO E ao (vp_updL o 0 ((fX7_drop μ a).1).toInt64)]) (st1 := [.int (fX7_thrown ((fX7_drop μ a).2))]) [] [14] (kX7_thrown l E am ((fX7_drop μ a).2)) caX7_thrown q6_116 rfl ⟨Nat.le_of_ble_eq_true rfl, Nat.le_of_ble_eq_true rfl⟩ ⟨hk, hn⟩ 14 0 rfl rfl rfl rfl (by decide) rfl rfl rfl rfl (Nat.le_of_ble_eq_true rfl) dL_law_1394 rfl ?_
    refine g_iload C dL_law_1397 1 rfl ?_
    refine g_icmp_eq C 1404 dL_law_1399 (by decide) (fun _ => ?_) (fun c => absurd ht c)
    refine g_iload C dL_law_1404 1 rfl ?_
    refine g_if_ne C 1421 dL_law_1406 (by decide) (fun c => absurd rfl c) (fun _ => ?_)
    refine g_aload_n C dL_law_1409 rfl 5 rfl ?_
    refine g_iconst C (v := 0) dL_law_1410 (by decide) ?_
    refine g_laldn C 15 0 0 rfl rfl rfl (by decide) (by decide) dL_law_1411 ?_
    refine g_iload C dL_law_1412 0 rfl ?_
    refine g_i2l C dL_law_1414 ?_
    refine g_lcmp C dL_law_1415 ?_
    refine g_if_eq C 1421 dL_law_1416 (by decide) (fun _ => ?_) (fun c => absurd law_cmp c)
    refine g_goto C 3840 dL_law_1421 (by decide) ?_
    exact g_sub [2, 3, 4, 5, 6] rfl (next ((fX6_drop β η σ a).2.1) τ γ ((fX6_drop β η σ a).2.2.1) ((fX6_drop β η σ a).2.2.2) θ ((fX7_drop μ a).2) (vp_updL o 0 ((fX7_drop μ a).1).toInt64) hR2)
  · skip
    refine g_aload_n C dL_law_1368 rfl 1 rfl ?_
    refine g_aload_n C dL_law_1369 rfl 0 rfl ?_
    refine g_iload C dL_law_1370 4 rfl ?_
    refine g_iconst C (v := 1) dL_law_1372 (by decide) ?_
    refine g_iadd C dL_law_1373 ?_
    refine g_sldv C S (i + 1) (nx_add (rfl : nI i = nI i) (rfl : (1 : Int32) = nI 1)) (by omega) ha9 dL_law_1374 ?_
    refine g_aload_n C dL_law_1375 rfl 3 rfl ?_
    refine g_callSW C hZ hNc (z := 3) (cs1 := [wX ax (bo 0) (tr 0) (ac 0) (ah 0) (at_ 0), wB E bo ((fX6_drop β η σ a).2.1), wB E tr τ, wC E ac γ, wH E ah bd ((fX6_drop β η σ a).2.2.1), wT E at_ θ, wB E (bd 2) ((fX6_drop β η σ a).2.2.2 2), wB E (bd 3) ((fX6_drop β η σ a).2.2.2 3), wB E (bd 4) ((fX6_drop β η σ a).2.2.2 4), wB E (bd 5) ((fX6_drop β η σ a).2.2.2 5), wB E (bd 6) ((fX6_drop β η σ a).2.2.2 6), wB E (bd 7) ((fX6_drop β η σ a).2.2.2 7), wB E (bd 8) ((fX6_drop β η σ a).2.2.2 8), wB E (bd 9) ((fX6_drop β η σ a).2.2.2 9), wM E am μ, wO E ao o]) (st1 := [.int 1]) [.ref ax, .int a, .ref ao] [0, 1, 2, 3, 4, 5, 6, 7, 8, 9, 10, 11, 12, 13, 15] (kL_drop_0 l E ax bo β tr τ ac γ ah bd η σ at_ θ ao o hlt hvb hvh a hr) q4_190 q1_0 (by decide +kernel) q4_189 q4_188 rfl ⟨Nat.le_of_ble_eq_true rfl, Nat.le_of_ble_eq_true rfl⟩ ⟨hk, hn⟩ (by decide) rfl rfl rfl rfl (Nat.le_of_ble_eq_true rfl) dL_law_1376 rfl ?_
    refine g_istore C (lv1 := [(5, .int 1), (0, .ref b0), (1, .ref ax), (2, .ref (am 0)), (3, .ref ao), (4, .int (nI i))]) dL_law_1379 (by decide) rfl ?_
    refine g_aload_n C dL_law_1381 rfl 3 rfl ?_
    refine g_aload_n C dL_law_1382 rfl 1 rfl ?_
    refine g_iload C dL_law_1383 5 rfl ?_
    refine g_iconst C (v := 1) dL_law_1385 (by decide) ?_
    refine g_iadd C dL_law_1386 ?_
    refine g_sldv C S (i + 1) (nx_add (rfl : nI i = nI i) (rfl : (1 : Int32) = nI 1)) (by omega) ha9 dL_law_1387 ?_
    refine g_callV C (cs1 := [wX ax (bo 0) (tr 0) (ac 0) (ah 0) (at_ 0), wB E bo ((fX6_drop β η σ a).2.1), wB E tr τ, wC E ac γ, wH E ah bd ((fX6_drop β η σ a).2.2.1), wT E at_ θ, wB E (bd 2) ((fX6_drop β η σ a).2.2.2 2), wB E (bd 3) ((fX6_drop β η σ a).2.2.2 3), wB E (bd 4) ((fX6_drop β η σ a).2.2.2 4), wB E (bd 5) ((fX6_drop β η σ a).2.2.2 5), wB E (bd 6) ((fX6_drop β η σ a).2.2.2 6), wB E (bd 7) ((fX6_drop β η σ a).2.2.2 7), wB E (bd 8) ((fX6_drop β η σ a).2.2.2 8), wB E (bd 9) ((fX6_drop β η σ a).2.2.2 9), wM E am ((fX7_drop μ a).2), wO E ao o]) (st1 := [.int ((fX7_drop μ a).1)]) [.int a] [14] (kX7_drop l E am μ hvm a) caX7_drop q7_56 rfl ⟨Nat.le_of_ble_eq_true rfl, Nat.le_of_ble_eq_true rfl⟩ ⟨hk, hn⟩ 14 0 rfl rfl rfl rfl (by decide) rfl rfl rfl rfl (Nat.le_of_ble_eq_true rfl) dL_law_1388 rfl ?_
    refine g_istore C (lv1 := [(6, .int ((fX7_drop μ a).1)), (5, .int 1), (0, .ref b0), (1, .ref ax), (2, .ref (am 0)), (3, .ref ao), (4, .int (nI i))]) dL_law_1391 (by decide) rfl ?_
    refine g_aload_n C dL_law_1393 rfl 4 rfl ?_
    refine g_callV C (cs1 := [wX ax (bo 0) (tr 0) (ac 0) (ah 0) (at_ 0), wB E bo ((fX6_drop β η σ a).2.1), wB E tr τ, wC E ac γ, wH E ah bd ((fX6_drop β η σ a).2.2.1), wT E at_ θ, wB E (bd 2) ((fX6_drop β η σ a).2.2.2 2), wB E (bd 3) ((fX6_drop β η σ a).2.2.2 3), wB E (bd 4) ((fX6_drop β η σ a).2.2.2 4), wB E (bd 5) ((fX6_drop β η σ a).2.2.2 5), wB E (bd 6) ((fX6_drop β η σ a).2.2.2 6), wB E (bd 7) ((fX6_drop β η σ a).2.2.2 7), wB E (bd 8) ((fX6_drop β η σ a).2.2.2 8), wB E (bd 9) ((fX6_drop β η σ a).2.2.2 9), wM E am ((fX7_drop μ a).2), wO E ao o]) (st1 := [.int (fX7_thrown ((fX7_drop μ a).2))]) [] [14] (kX7_thrown l E am ((fX7_drop μ a).2)) caX7_thrown q6_116 rfl ⟨Nat.le_of_ble_eq_true rfl, Nat.le_of_ble_eq_true rfl⟩ ⟨hk, hn⟩ 14 0 rfl rfl rfl rfl (by decide) rfl rfl rfl rfl (Nat.le_of_ble_eq_true rfl) dL_law_1394 rfl ?_
    refine g_iload C dL_law_1397 1 rfl ?_
    refine g_icmp_eq C 1404 dL_law_1399 (by decide) (fun _ => ?_) (fun c => absurd ht c)
    refine g_iload C dL_law_1404 1 rfl ?_
    refine g_if_ne C 1421 dL_law_1406 (by decide) (fun _ => ?_) (fun c => absurd c (by decide))
    refine g_goto C 3840 dL_law_1421 (by decide) ?_
    exact g_sub [2, 3, 4, 5, 6] rfl (next ((fX6_drop β η σ a).2.1) τ γ ((fX6_drop β η σ a).2.2.1) ((fX6_drop β η σ a).2.2.2) θ ((fX7_drop μ a).2) o hR2)
  · skip
    refine g_aload_n C dL_law_1368 rfl 1 rfl ?_
    refine g_aload_n C dL_law_1369 rfl 0 rfl ?_
    refine g_iload C dL_law_1370 4 rfl ?_
    refine g_iconst C (v := 1) dL_law_1372 (by decide) ?_
    refine g_iadd C dL_law_1373 ?_
    refine g_sldv C S (i + 1) (nx_add (rfl : nI i = nI i) (rfl : (1 : Int32) = nI 1)) (by omega) ha9 dL_law_1374 ?_
    refine g_aload_n C dL_law_1375 rfl 3 rfl ?_
    refine g_callSW C hZ hNc (z := 3) (cs1 := [wX ax (bo 0) (tr 0) (ac 0) (ah 0) (at_ 0), wB E bo ((fX6_drop β η σ a).2.1), wB E tr τ, wC E ac γ, wH E ah bd ((fX6_drop β η σ a).2.2.1), wT E at_ θ, wB E (bd 2) ((fX6_drop β η σ a).2.2.2 2), wB E (bd 3) ((fX6_drop β η σ a).2.2.2 3), wB E (bd 4) ((fX6_drop β η σ a).2.2.2 4), wB E (bd 5) ((fX6_drop β η σ a).2.2.2 5), wB E (bd 6) ((fX6_drop β η σ a).2.2.2 6), wB E (bd 7) ((fX6_drop β η σ a).2.2.2 7), wB E (bd 8) ((fX6_drop β η σ a).2.2.2 8), wB E (bd 9) ((fX6_drop β η σ a).2.2.2 9), wM E am μ, wO E ao o]) (st1 := [.int 2]) [.ref ax, .int a, .ref ao] [0, 1, 2, 3, 4, 5, 6, 7, 8, 9, 10, 11, 12, 13, 15] (kL_drop_1 l E ax bo β tr τ ac γ ah bd η σ at_ θ ao o hlt hvb hvh a hr) q4_190 q1_0 (by decide +kernel) q4_189 q4_188 rfl ⟨Nat.le_of_ble_eq_true rfl, Nat.le_of_ble_eq_true rfl⟩ ⟨hk, hn⟩ (by decide) rfl rfl rfl rfl (Nat.le_of_ble_eq_true rfl) dL_law_1376 rfl ?_
    refine g_istore C (lv1 := [(5, .int 2), (0, .ref b0), (1, .ref ax), (2, .ref (am 0)), (3, .ref ao), (4, .int (nI i))]) dL_law_1379 (by decide) rfl ?_
    refine g_aload_n C dL_law_1381 rfl 3 rfl ?_
    refine g_aload_n C dL_law_1382 rfl 1 rfl ?_
    refine g_iload C dL_law_1383 5 rfl ?_
    refine g_iconst C (v := 1) dL_law_1385 (by decide) ?_
    refine g_iadd C dL_law_1386 ?_
    refine g_sldv C S (i + 1) (nx_add (rfl : nI i = nI i) (rfl : (1 : Int32) = nI 1)) (by omega) ha9 dL_law_1387 ?_
    refine g_callV C (cs1 := [wX ax (bo 0) (tr 0) (ac 0) (ah 0) (at_ 0), wB E bo ((fX6_drop β η σ a).2.1), wB E tr τ, wC E ac γ, wH E ah bd ((fX6_drop β η σ a).2.2.1), wT E at_ θ, wB E (bd 2) ((fX6_drop β η σ a).2.2.2 2), wB E (bd 3) ((fX6_drop β η σ a).2.2.2 3), wB E (bd 4) ((fX6_drop β η σ a).2.2.2 4), wB E (bd 5) ((fX6_drop β η σ a).2.2.2 5), wB E (bd 6) ((fX6_drop β η σ a).2.2.2 6), wB E (bd 7) ((fX6_drop β η σ a).2.2.2 7), wB E (bd 8) ((fX6_drop β η σ a).2.2.2 8), wB E (bd 9) ((fX6_drop β η σ a).2.2.2 9), wM E am ((fX7_drop μ a).2), wO E ao o]) (st1 := [.int ((fX7_drop μ a).1)]) [.int a] [14] (kX7_drop l E am μ hvm a) caX7_drop q7_56 rfl ⟨Nat.le_of_ble_eq_true rfl, Nat.le_of_ble_eq_true rfl⟩ ⟨hk, hn⟩ 14 0 rfl rfl rfl rfl (by decide) rfl rfl rfl rfl (Nat.le_of_ble_eq_true rfl) dL_law_1388 rfl ?_
    refine g_istore C (lv1 := [(6, .int ((fX7_drop μ a).1)), (5, .int 2), (0, .ref b0), (1, .ref ax), (2, .ref (am 0)), (3, .ref ao), (4, .int (nI i))]) dL_law_1391 (by decide) rfl ?_
    refine g_aload_n C dL_law_1393 rfl 4 rfl ?_
    refine g_callV C (cs1 := [wX ax (bo 0) (tr 0) (ac 0) (ah 0) (at_ 0), wB E bo ((fX6_drop β η σ a).2.1), wB E tr τ, wC E ac γ, wH E ah bd ((fX6_drop β η σ a).2.2.1), wT E at_ θ, wB E (bd 2) ((fX6_drop β η σ a).2.2.2 2), wB E (bd 3) ((fX6_drop β η σ a).2.2.2 3), wB E (bd 4) ((fX6_drop β η σ a).2.2.2 4), wB E (bd 5) ((fX6_drop β η σ a).2.2.2 5), wB E (bd 6) ((fX6_drop β η σ a).2.2.2 6), wB E (bd 7) ((fX6_drop β η σ a).2.2.2 7), wB E (bd 8) ((fX6_drop β η σ a).2.2.2 8), wB E (bd 9) ((fX6_drop β η σ a).2.2.2 9), wM E am ((fX7_drop μ a).2), wO E ao o]) (st1 := [.int (fX7_thrown ((fX7_drop μ a).2))]) [] [14] (kX7_thrown l E am ((fX7_drop μ a).2)) caX7_thrown q6_116 rfl ⟨Nat.le_of_ble_eq_true rfl, Nat.le_of_ble_eq_true rfl⟩ ⟨hk, hn⟩ 14 0 rfl rfl rfl rfl (by decide) rfl rfl rfl rfl (Nat.le_of_ble_eq_true rfl) dL_law_1394 rfl ?_
    refine g_iload C dL_law_1397 1 rfl ?_
    refine g_icmp_eq C 1404 dL_law_1399 (by decide) (fun _ => ?_) (fun c => absurd ht c)
    refine g_iload C dL_law_1404 1 rfl ?_
    refine g_if_ne C 1421 dL_law_1406 (by decide) (fun _ => ?_) (fun c => absurd c (by decide))
    refine g_goto C 3840 dL_law_1421 (by decide) ?_
    exact g_sub [2, 3, 4, 5, 6] rfl (next ((fX6_drop β η σ a).2.1) τ γ ((fX6_drop β η σ a).2.2.1) ((fX6_drop β η σ a).2.2.2) θ ((fX7_drop μ a).2) o hR2)
set_option maxHeartbeats 4000000 in
set_option maxRecDepth 100000 in
theorem arm_18 {Rl : RlT} (hRv : RlV Rl) (hs : sH_append Rl)  {X : gX} {l : Launch} {E : gE} (C : gC X cL_law 9 RL (some .boolean) l E room_1) (hZ : gZ X.2.2.2.2.2.2.2.2.2.2.2.1 X.2.2.2.2.1 X.2.2.2.2.1.heap) (hNc : gNc X.2.2.2.2.1) {b0 L0 : Nat} {xs : Nat → Int32} (S : gS X b0 L0 xs) (hlt : l.stackTraces = false) {ax : Nat} {bo tr ac ah : Nat → Nat} {bd : Nat → Nat → Nat} {at_ am : Nat → Nat} {ao k n i : Nat} (hk : k + 3 ≤ 601024) (hn : n + 18 ≤ 7293034) (hi : i + 3 ≤ L0) {β τ γ η : BS} {σ : Nat → BS} {θ μ : BS} {o : Nat → Int64} (hR : Rl β η θ σ μ) (next : ∀ (β τ γ η : BS) (σ : Nat → BS) (θ μ : BS) (o : Nat → Int64), Rl β η θ σ μ → G X (k + 3) (n + 18) [wX ax (bo 0) (tr 0) (ac 0) (ah 0) (at_ 0), wB E bo β, wB E tr τ, wC E ac γ, wH E ah bd η, wT E at_ θ, wB E (bd 2) (σ 2), wB E (bd 3) (σ 3), wB E (bd 4) (σ 4), wB E (bd 5) (σ 5), wB E (bd 6) (σ 6), wB E (bd 7) (σ 7), wB E (bd 8) (σ 8), wB E (bd 9) (σ 9), wM E am μ, wO E ao o] [(0, .ref b0), (1, .ref ax), (2, .ref (am 0)), (3, .ref ao), (4, .int (nI i))] 3840 []) : G X k n [wX ax (bo 0) (tr 0) (ac 0) (ah 0) (at_ 0), wB E bo β, wB E tr τ, wC E ac γ, wH E ah bd η, wT E at_ θ, wB E (bd 2) (σ 2), wB E (bd 3) (σ 3), wB E (bd 4) (σ 4), wB E (bd 5) (σ 5), wB E (bd 6) (σ 6), wB E (bd 7) (σ 7), wB E (bd 8) (σ 8), wB E (bd 9) (σ 9), wM E am μ, wO E ao o] [(0, .ref b0), (1, .ref ax), (2, .ref (am 0)), (3, .ref ao), (4, .int (nI i))] 1424 [] := by
  obtain ⟨hvb, hvh, hvt, hvm, ha⟩ := hRv β η θ σ μ hR
  obtain ⟨a, ha9⟩ : ∃ a, xs (i + 1) = a := ⟨_, rfl⟩
  obtain ⟨hag, hR2⟩ := hs β τ γ η σ θ μ a hR
  rcases hag with ⟨hr, ht⟩ | ⟨hr, ht⟩ | ⟨hr, ht⟩
  · skip
    refine g_aload_n C dL_law_1424 rfl 1 rfl ?_
    refine g_aload_n C dL_law_1425 rfl 0 rfl ?_
    refine g_iload C dL_law_1426 4 rfl ?_
    refine g_iconst C (v := 1) dL_law_1428 (by decide) ?_
    refine g_iadd C dL_law_1429 ?_
    refine g_sldv C S (i + 1) (nx_add (rfl : nI i = nI i) (rfl : (1 : Int32) = nI 1)) (by omega) ha9 dL_law_1430 ?_
    refine g_aload_n C dL_law_1431 rfl 3 rfl ?_
    refine g_callSW C hZ hNc (z := 3) (cs1 := [wX ax (bo 0) (tr 0) (ac 0) (ah 0) (at_ 0), wB E bo β, wB E tr τ, wC E ac γ, wH E ah bd η, wT E at_ ((fX6_append θ a).2), wB E (bd 2) (σ 2), wB E (bd 3) (σ 3), wB E (bd 4) (σ 4), wB E (bd 5) (σ 5), wB E (bd 6) (σ 6), wB E (bd 7) (σ 7), wB E (bd 8) (σ 8), wB E (bd 9) (σ 9), wM E am μ, wO E ao (vp_updL o 0 ((fX7_append μ a).1).toInt64)]) (st1 := [.int 0]) [.ref ax, .int a, .ref ao] [0, 1, 2, 3, 4, 5, 6, 7, 8, 9, 10, 11, 12, 13, 15] (kL_append_r l E ax bo β tr τ ac γ ah bd η σ at_ θ ao o hlt hvt a ((fX7_append μ a).1) hr) q4_198 q1_0 (by decide +kernel) q4_197 q4_196 rfl ⟨Nat.le_of_ble_eq_true rfl, Nat.le_of_ble_eq_true rfl⟩ ⟨hk, hn⟩ (by decide) rfl rfl rfl rfl (Nat.le_of_ble_eq_true rfl) dL_law_1432 rfl ?_
    refine g_istore C (lv1 := [(5, .int 0), (0, .ref b0), (1, .ref ax), (2, .ref (am 0)), (3, .ref ao), (4, .int (nI i))]) dL_law_1435 (by decide) rfl ?_
    refine g_aload_n C dL_law_1437 rfl 3 rfl ?_
    refine g_aload_n C dL_law_1438 rfl 1 rfl ?_
    refine g_iload C dL_law_1439 5 rfl ?_
    refine g_iconst C (v := 1) dL_law_1441 (by decide) ?_
    refine g_iadd C dL_law_1442 ?_
    refine g_sldv C S (i + 1) (nx_add (rfl : nI i = nI i) (rfl : (1 : Int32) = nI 1)) (by omega) ha9 dL_law_1443 ?_
    refine g_callV C (cs1 := [wX ax (bo 0) (tr 0) (ac 0) (ah 0) (at_ 0), wB E bo β, wB E tr τ, wC E ac γ, wH E ah bd η, wT E at_ ((fX6_append θ a).2), wB E (bd 2) (σ 2), wB E (bd 3) (σ 3), wB E (bd 4) (σ 4), wB E (bd 5) (σ 5), wB E (bd 6) (σ 6), wB E (bd 7) (σ 7), wB E (bd 8) (σ 8), wB E (bd 9) (σ 9), wM E am ((fX7_append μ a).2), wO E ao (vp_updL o 0 ((fX7_append μ a).1).toInt64)]) (st1 := [.int ((fX7_append μ a).1)]) [.int a] [14] (kX7_append l E am μ hvm a) caX7_append q7_60 rfl ⟨Nat.le_of_ble_eq_true rfl, Nat.le_of_ble_eq_true rfl⟩ ⟨hk, hn⟩ 14 0 rfl rfl rfl rfl (by decide) rfl rfl rfl rfl (Nat.le_of_ble_eq_true rfl) dL_law_1444 rfl ?_
    refine g_istore C (lv1 := [(6, .int ((fX7_append μ a).1)), (5, .int 0), (0, .ref b0), (1, .ref ax), (2, .ref (am 0)), (3, .ref ao), (4, .int (nI i))]) dL_law_1447 (by decide) rfl ?_
    refine g_aload_n C dL_law_1449 rfl 4 rfl ?_
    refine g_callV C (cs1 := [wX ax (bo 0) (tr 0) (ac 0) (ah 0) (at_ 0), wB E bo β, wB E tr τ, wC E ac γ, wH E ah bd η, wT E at_ ((fX6_append θ a).2), wB E (bd 2) (σ 2), wB E (bd 3) (σ 3), wB E (bd 4) (σ 4), wB E (bd 5) (σ 5), wB E (bd 6) (σ 6), wB E (bd 7) (σ 7), wB E (bd 8) (σ 8), wB E (bd 9) (σ 9), wM E am ((fX7_append μ a).2), wO E ao (vp_updL o 0 ((fX7_append μ a).1).toInt64)]) (st1 := [.int (fX7_thrown ((fX7_append μ a).2))]) [] [14] (kX7_thrown l E am ((fX7_append μ a).2)) caX7_thrown q6_116 rfl ⟨Nat.le_of_ble_eq_true rfl, Nat.le_of_ble_eq_true rfl⟩ ⟨hk, hn⟩ 14 0 rfl rfl rfl rfl (by decide) rfl rfl rfl rfl (Nat.le_of_ble_eq_true rfl) dL_law_1450 rfl ?_
    refine g_iload C dL_law_1453 1 rfl ?_
    refine g_icmp_eq C 1460 dL_law_1455 (by decide) (fun _ => ?_) (fun c => absurd ht c)
    refine g_iload C dL_law_1460 1 rfl ?_
    refine g_if_ne C 1477 dL_law_1462 (by decide) (fun c => absurd rfl c) (fun _ => ?_)
    refine g_aload_n C dL_law_1465 rfl 5 rfl ?_
    refine g_iconst C (v := 0) dL_law_1466 (by decide) ?_
    refine g_laldn C 15 0 0 rfl rfl rfl (by decide) (by decide) dL_law_1467 ?_
    refine g_iload C dL_law_1468 0 rfl ?_
    refine g_i2l C dL_law_1470 ?_
    refine g_lcmp C dL_law_1471 ?_
    refine g_if_eq C 1477 dL_law_1472 (by decide) (fun _ => ?_) (fun c => absurd law_cmp c)
    refine g_goto C 3840 dL_law_1477 (by decide) ?_
    exact g_sub [2, 3, 4, 5, 6] rfl (next β τ γ η σ ((fX6_append θ a).2) ((fX7_append μ a).2) (vp_updL o 0 ((fX7_append μ a).1).toInt64) hR2)
  · skip
    refine g_aload_n C dL_law_1424 rfl 1 rfl ?_
    refine g_aload_n C dL_law_1425 rfl 0 rfl ?_
    refine g_iload C dL_law_1426 4 rfl ?_
    refine g_iconst C (v := 1) dL_law_1428 (by decide) ?_
    refine g_iadd C dL_law_1429 ?_
    refine g_sldv C S (i + 1) (nx_add (rfl : nI i = nI i) (rfl : (1 : Int32) = nI 1)) (by omega) ha9 dL_law_1430 ?_
    refine g_aload_n C dL_law_1431 rfl 3 rfl ?_
    refine g_callSW C hZ hNc (z := 3) (cs1 := [wX ax (bo 0) (tr 0) (ac 0) (ah 0) (at_ 0), wB E bo β, wB E tr τ, wC E ac γ, wH E ah bd η, wT E at_ ((fX6_append θ a).2), wB E (bd 2) (σ 2), wB E (bd 3) (σ 3), wB E (bd 4) (σ 4), wB E (bd 5) (σ 5), wB E (bd 6) (σ 6), wB E (bd 7) (σ 7), wB E (bd 8) (σ 8), wB E (bd 9) (σ 9), wM E am μ, wO E ao o]) (st1 := [.int 1]) [.ref ax, .int a, .ref ao] [0, 1, 2, 3, 4, 5, 6, 7, 8, 9, 10, 11, 12, 13, 15] (kL_append_0 l E ax bo β tr τ ac γ ah bd η σ at_ θ ao o hlt hvt a hr) q4_198 q1_0 (by decide +kernel) q4_197 q4_196 rfl ⟨Nat.le_of_ble_eq_true rfl, Nat.le_of_ble_eq_true rfl⟩ ⟨hk, hn⟩ (by decide) rfl rfl rfl rfl (Nat.le_of_ble_eq_true rfl) dL_law_1432 rfl ?_
    refine g_istore C (lv1 := [(5, .int 1), (0, .ref b0), (1, .ref ax), (2, .ref (am 0)), (3, .ref ao), (4, .int (nI i))]) dL_law_1435 (by decide) rfl ?_
    refine g_aload_n C dL_law_1437 rfl 3 rfl ?_
    refine g_aload_n C dL_law_1438 rfl 1 rfl ?_
    refine g_iload C dL_law_1439 5 rfl ?_
    refine g_iconst C (v := 1) dL_law_1441 (by decide) ?_
    refine g_iadd C dL_law_1442 ?_
    refine g_sldv C S (i + 1) (nx_add (rfl : nI i = nI i) (rfl : (1 : Int32) = nI 1)) (by omega) ha9 dL_law_1443 ?_
    refine g_callV C (cs1 := [wX ax (bo 0) (tr 0) (ac 0) (ah 0) (at_ 0), wB E bo β, wB E tr τ, wC E ac γ, wH E ah bd η, wT E at_ ((fX6_append θ a).2), wB E (bd 2) (σ 2), wB E (bd 3) (σ 3), wB E (bd 4) (σ 4), wB E (bd 5) (σ 5), wB E (bd 6) (σ 6), wB E (bd 7) (σ 7), wB E (bd 8) (σ 8), wB E (bd 9) (σ 9), wM E am ((fX7_append μ a).2), wO E ao o]) (st1 := [.int ((fX7_append μ a).1)]) [.int a] [14] (kX7_append l E am μ hvm a) caX7_append q7_60 rfl ⟨Nat.le_of_ble_eq_true rfl, Nat.le_of_ble_eq_true rfl⟩ ⟨hk, hn⟩ 14 0 rfl rfl rfl rfl (by decide) rfl rfl rfl rfl (Nat.le_of_ble_eq_true rfl) dL_law_1444 rfl ?_
    refine g_istore C (lv1 := [(6, .int ((fX7_append μ a).1)), (5, .int 1), (0, .ref b0), (1, .ref ax), (2, .ref (am 0)), (3, .ref ao), (4, .int (nI i))]) dL_law_1447 (by decide) rfl ?_
    refine g_aload_n C dL_law_1449 rfl 4 rfl ?_
    refine g_callV C (cs1 := [wX ax (bo 0) (tr 0) (ac 0) (ah 0) (at_ 0), wB E bo β, wB E tr τ, wC E ac γ, wH E ah bd η, wT E at_ ((fX6_append θ a).2), wB E (bd 2) (σ 2), wB E (bd 3) (σ 3), wB E (bd 4) (σ 4), wB E (bd 5) (σ 5), wB E (bd 6) (σ 6), wB E (bd 7) (σ 7), wB E (bd 8) (σ 8), wB E (bd 9) (σ 9), wM E am ((fX7_append μ a).2), wO E ao o]) (st1 := [.int (fX7_thrown ((fX7_append μ a).2))]) [] [14] (kX7_thrown l E am ((fX7_append μ a).2)) caX7_thrown q6_116 rfl ⟨Nat.le_of_ble_eq_true rfl, Nat.le_of_ble_eq_true rfl⟩ ⟨hk, hn⟩ 14 0 rfl rfl rfl rfl (by decide) rfl rfl rfl rfl (Nat.le_of_ble_eq_true rfl) dL_law_1450 rfl ?_
    refine g_iload C dL_law_1453 1 rfl ?_
    refine g_icmp_eq C 1460 dL_law_1455 (by decide) (fun _ => ?_) (fun c => absurd ht c)
    refine g_iload C dL_law_1460 1 rfl ?_
    refine g_if_ne C 1477 dL_law_1462 (by decide) (fun _ => ?_) (fun c => absurd c (by decide))
    refine g_goto C 3840 dL_law_1477 (by decide) ?_
    exact g_sub [2, 3, 4, 5, 6] rfl (next β τ γ η σ ((fX6_append θ a).2) ((fX7_append μ a).2) o hR2)
  · skip
    refine g_aload_n C dL_law_1424 rfl 1 rfl ?_
    refine g_aload_n C dL_law_1425 rfl 0 rfl ?_
    refine g_iload C dL_law_1426 4 rfl ?_
    refine g_iconst C (v := 1) dL_law_1428 (by decide) ?_
    refine g_iadd C dL_law_1429 ?_
    refine g_sldv C S (i + 1) (nx_add (rfl : nI i = nI i) (rfl : (1 : Int32) = nI 1)) (by omega) ha9 dL_law_1430 ?_
    refine g_aload_n C dL_law_1431 rfl 3 rfl ?_
    refine g_callSW C hZ hNc (z := 3) (cs1 := [wX ax (bo 0) (tr 0) (ac 0) (ah 0) (at_ 0), wB E bo β, wB E tr τ, wC E ac γ, wH E ah bd η, wT E at_ ((fX6_append θ a).2), wB E (bd 2) (σ 2), wB E (bd 3) (σ 3), wB E (bd 4) (σ 4), wB E (bd 5) (σ 5), wB E (bd 6) (σ 6), wB E (bd 7) (σ 7), wB E (bd 8) (σ 8), wB E (bd 9) (σ 9), wM E am μ, wO E ao o]) (st1 := [.int 2]) [.ref ax, .int a, .ref ao] [0, 1, 2, 3, 4, 5, 6, 7, 8, 9, 10, 11, 12, 13, 15] (kL_append_1 l E ax bo β tr τ ac γ ah bd η σ at_ θ ao o hlt hvt a hr) q4_198 q1_0 (by decide +kernel) q4_197 q4_196 rfl ⟨Nat.le_of_ble_eq_true rfl, Nat.le_of_ble_eq_true rfl⟩ ⟨hk, hn⟩ (by decide) rfl rfl rfl rfl (Nat.le_of_ble_eq_true rfl) dL_law_1432 rfl ?_
    refine g_istore C (lv1 := [(5, .int 2), (0, .ref b0), (1, .ref ax), (2, .ref (am 0)), (3, .ref ao), (4, .int (nI i))]) dL_law_1435 (by decide) rfl ?_
    refine g_aload_n C dL_law_1437 rfl 3 rfl ?_
    refine g_aload_n C dL_law_1438 rfl 1 rfl ?_
    refine g_iload C dL_law_1439 5 rfl ?_
    refine g_iconst C (v := 1) dL_law_1441 (by decide) ?_
    refine g_iadd C dL_law_1442 ?_
    refine g_sldv C S (i + 1) (nx_add (rfl : nI i = nI i) (rfl : (1 : Int32) = nI 1)) (by omega) ha9 dL_law_1443 ?_
    refine g_callV C (cs1 := [wX ax (bo 0) (tr 0) (ac 0) (ah 0) (at_ 0), wB E bo β, wB E tr τ, wC E ac γ, wH E ah bd η, wT E at_ ((fX6_append θ a).2), wB E (bd 2) (σ 2), wB E (bd 3) (σ 3), wB E (bd 4) (σ 4), wB E (bd 5) (σ 5), wB E (bd 6) (σ 6), wB E (bd 7) (σ 7), wB E (bd 8) (σ 8), wB E (bd 9) (σ 9), wM E am ((fX7_append μ a).2), wO E ao o]) (st1 := [.int ((fX7_append μ a).1)]) [.int a] [14] (kX7_append l E am μ hvm a) caX7_append q7_60 rfl ⟨Nat.le_of_ble_eq_true rfl, Nat.le_of_ble_eq_true rfl⟩ ⟨hk, hn⟩ 14 0 rfl rfl rfl rfl (by decide) rfl rfl rfl rfl (Nat.le_of_ble_eq_true rfl) dL_law_1444 rfl ?_
    refine g_istore C (lv1 := [(6, .int ((fX7_append μ a).1)), (5, .int 2), (0, .ref b0), (1, .ref ax), (2, .ref (am 0)), (3, .ref ao), (4, .int (nI i))]) dL_law_1447 (by decide) rfl ?_
    refine g_aload_n C dL_law_1449 rfl 4 rfl ?_
    refine g_callV C (cs1 := [wX ax (bo 0) (tr 0) (ac 0) (ah 0) (at_ 0), wB E bo β, wB E tr τ, wC E ac γ, wH E ah bd η, wT E at_ ((fX6_append θ a).2), wB E (bd 2) (σ 2), wB E (bd 3) (σ 3), wB E (bd 4) (σ 4), wB E (bd 5) (σ 5), wB E (bd 6) (σ 6), wB E (bd 7) (σ 7), wB E (bd 8) (σ 8), wB E (bd 9) (σ 9), wM E am ((fX7_append μ a).2), wO E ao o]) (st1 := [.int (fX7_thrown ((fX7_append μ a).2))]) [] [14] (kX7_thrown l E am ((fX7_append μ a).2)) caX7_thrown q6_116 rfl ⟨Nat.le_of_ble_eq_true rfl, Nat.le_of_ble_eq_true rfl⟩ ⟨hk, hn⟩ 14 0 rfl rfl rfl rfl (by decide) rfl rfl rfl rfl (Nat.le_of_ble_eq_true rfl) dL_law_1450 rfl ?_
    refine g_iload C dL_law_1453 1 rfl ?_
    refine g_icmp_eq C 1460 dL_law_1455 (by decide) (fun _ => ?_) (fun c => absurd ht c)
    refine g_iload C dL_law_1460 1 rfl ?_
    refine g_if_ne C 1477 dL_law_1462 (by decide) (fun _ => ?_) (fun c => absurd c (by decide))
    refine g_goto C 3840 dL_law_1477 (by decide) ?_
    exact g_sub [2, 3, 4, 5, 6] rfl (next β τ γ η σ ((fX6_append θ a).2) ((fX7_append μ a).2) o hR2)
set_option maxHeartbeats 4000000 in
set_option maxRecDepth 100000 in
theorem arm_19 {Rl : RlT} (hRv : RlV Rl) (hs : sH_clearBuffer Rl)  {X : gX} {l : Launch} {E : gE} (C : gC X cL_law 9 RL (some .boolean) l E room_1) (hZ : gZ X.2.2.2.2.2.2.2.2.2.2.2.1 X.2.2.2.2.1 X.2.2.2.2.1.heap) (hNc : gNc X.2.2.2.2.1) {b0 L0 : Nat} {xs : Nat → Int32} (S : gS X b0 L0 xs) (hlt : l.stackTraces = false) {ax : Nat} {bo tr ac ah : Nat → Nat} {bd : Nat → Nat → Nat} {at_ am : Nat → Nat} {ao k n i : Nat} (hk : k + 3 ≤ 601024) (hn : n + 18 ≤ 7293034) (hi : i + 3 ≤ L0) {β τ γ η : BS} {σ : Nat → BS} {θ μ : BS} {o : Nat → Int64} (hR : Rl β η θ σ μ) (next : ∀ (β τ γ η : BS) (σ : Nat → BS) (θ μ : BS) (o : Nat → Int64), Rl β η θ σ μ → G X (k + 3) (n + 18) [wX ax (bo 0) (tr 0) (ac 0) (ah 0) (at_ 0), wB E bo β, wB E tr τ, wC E ac γ, wH E ah bd η, wT E at_ θ, wB E (bd 2) (σ 2), wB E (bd 3) (σ 3), wB E (bd 4) (σ 4), wB E (bd 5) (σ 5), wB E (bd 6) (σ 6), wB E (bd 7) (σ 7), wB E (bd 8) (σ 8), wB E (bd 9) (σ 9), wM E am μ, wO E ao o] [(0, .ref b0), (1, .ref ax), (2, .ref (am 0)), (3, .ref ao), (4, .int (nI i))] 3840 []) : G X k n [wX ax (bo 0) (tr 0) (ac 0) (ah 0) (at_ 0), wB E bo β, wB E tr τ, wC E ac γ, wH E ah bd η, wT E at_ θ, wB E (bd 2) (σ 2), wB E (bd 3) (σ 3), wB E (bd 4) (σ 4), wB E (bd 5) (σ 5), wB E (bd 6) (σ 6), wB E (bd 7) (σ 7), wB E (bd 8) (σ 8), wB E (bd 9) (σ 9), wM E am μ, wO E ao o] [(0, .ref b0), (1, .ref ax), (2, .ref (am 0)), (3, .ref ao), (4, .int (nI i))] 1480 [] := by
  obtain ⟨hvb, hvh, hvt, hvm, ha⟩ := hRv β η θ σ μ hR
  obtain ⟨hr, hR2⟩ := hs β τ γ η σ θ μ hR
  refine g_aload_n C dL_law_1480 rfl 1 rfl ?_
  refine g_callV C (cs1 := [wX ax (bo 0) (tr 0) (ac 0) (ah 0) (at_ 0), wB E bo β, wB E tr τ, wC E ac γ, wH E ah bd η, wT E at_ ((fX6_clearBuffer θ).2), wB E (bd 2) (σ 2), wB E (bd 3) (σ 3), wB E (bd 4) (σ 4), wB E (bd 5) (σ 5), wB E (bd 6) (σ 6), wB E (bd 7) (σ 7), wB E (bd 8) (σ 8), wB E (bd 9) (σ 9), wM E am μ, wO E ao o]) (st1 := [.int ((fX6_clearBuffer θ).1)]) [] [0, 1, 2, 3, 4, 5, 6, 7, 8, 9, 10, 11, 12, 13] (kX6_clearBuffer l E ax bo β tr τ ac γ ah bd η σ at_ θ hvt) caX6_clearBuffer q1_208 rfl ⟨Nat.le_of_ble_eq_true rfl, Nat.le_of_ble_eq_true rfl⟩ ⟨Nat.le_of_succ_le (Nat.le_of_succ_le (Nat.le_of_succ_le hk)), Nat.le_trans (Nat.le_add_right _ _) hn⟩ 0 0 rfl rfl rfl rfl (by decide) rfl rfl rfl rfl (Nat.le_of_ble_eq_true rfl) dL_law_1481 rfl ?_
  refine g_aload_n C dL_law_1484 rfl 2 rfl ?_
  refine g_callV C (cs1 := [wX ax (bo 0) (tr 0) (ac 0) (ah 0) (at_ 0), wB E bo β, wB E tr τ, wC E ac γ, wH E ah bd η, wT E at_ ((fX6_clearBuffer θ).2), wB E (bd 2) (σ 2), wB E (bd 3) (σ 3), wB E (bd 4) (σ 4), wB E (bd 5) (σ 5), wB E (bd 6) (σ 6), wB E (bd 7) (σ 7), wB E (bd 8) (σ 8), wB E (bd 9) (σ 9), wM E am ((fX7_clearBuffer μ).2), wO E ao o]) (st1 := [.int ((fX7_clearBuffer μ).1), .int ((fX6_clearBuffer θ).1)]) [] [14] (kX7_clearBuffer l E am μ  ) caX7_clearBuffer q7_64 rfl ⟨Nat.le_of_ble_eq_true rfl, Nat.le_of_ble_eq_true rfl⟩ ⟨Nat.le_of_succ_le (Nat.le_of_succ_le (Nat.le_of_succ_le hk)), Nat.le_trans (Nat.le_add_right _ _) hn⟩ 14 0 rfl rfl rfl rfl (by decide) rfl rfl rfl rfl (Nat.le_of_ble_eq_true rfl) dL_law_1485 rfl ?_
  refine g_icmp_eq C 3840 dL_law_1488 (by decide) (fun _ => ?_) (fun c => absurd hr c)
  refine g_widen (k1 := k + 3) (n1 := n + 18) (Nat.le_add_right _ _) (Nat.le_add_right _ _) ?_
  exact g_sub [0, 1, 2, 3, 4] rfl (next β τ γ η σ ((fX6_clearBuffer θ).2) ((fX7_clearBuffer μ).2) o hR2)
