set_option maxHeartbeats 4000000 in
set_option maxRecDepth 100000 in
theorem arm_50 {Rl : RlT} (hRv : RlV Rl) (hs : sH_loadByTickets Rl)  {X : gX} {l : Launch} {E : gE} (C : gC X cL_law 9 RL (some .boolean) l E room_1) (hZ : gZ X.2.2.2.2.2.2.2.2.2.2.2.1 X.2.2.2.2.1 X.2.2.2.2.1.heap) (hNc : gNc X.2.2.2.2.1) {b0 L0 : Nat} {xs : Nat → Int32} (S : gS X b0 L0 xs) (hlt : l.stackTraces = false) {ax : Nat} {bo tr ac ah : Nat → Nat} {bd : Nat → Nat → Nat} {at_ am : Nat → Nat} {ao k n i : Nat} (hk : k + 3 ≤ 601024) (hn : n + 18 ≤ 7293034) (hi : i + 3 ≤ L0) {β τ γ η : BS} {σ : Nat → BS} {θ μ : BS} {o : Nat → Int64} (hR : Rl β η θ σ μ) (next : ∀ (β τ γ η : BS) (σ : Nat → BS) (θ μ : BS) (o : Nat → Int64), Rl β η θ σ μ → G X (k + 3) (n + 18) [wX ax (bo 0) (tr 0) (ac 0) (ah 0) (at_ 0), wB E bo β, wB E tr τ, wC E ac γ, wH E ah bd η, wT E at_ θ, wB E (bd 2) (σ 2), wB E (bd 3) (σ 3), wB E (bd 4) (σ 4), wB E (bd 5) (σ 5), wB E (bd 6) (σ 6), wB E (bd 7) (σ 7), wB E (bd 8) (σ 8), wB E (bd 9) (σ 9), wM E am μ, wO E ao o] [(0, .ref b0), (1, .ref ax), (2, .ref (am 0)), (3, .ref ao), (4, .int (nI i))] 3840 []) : G X k n [wX ax (bo 0) (tr 0) (ac 0) (ah 0) (at_ 0), wB E bo β, wB E tr τ, wC E ac γ, wH E ah bd η, wT E at_ θ, wB E (bd 2) (σ 2), wB E (bd 3) (σ 3), wB E (bd 4) (σ 4), wB E (bd 5) (σ 5), wB E (bd 6) (σ 6), wB E (bd 7) (σ 7), wB E (bd 8) (σ 8), wB E (bd 9) (σ 9), wM E am μ, wO E ao o] [(0, .ref b0), (1, .ref ax), (2, .ref (am 0)), (3, .ref ao), (4, .int (nI i))] 2902 [] := by
  obtain ⟨hvb, hvh, hvt, hvm, ha⟩ := hRv β η θ σ μ hR
  obtain ⟨a, ha9⟩ : ∃ a, xs (i + 1) = a := ⟨_, rfl⟩
  obtain ⟨hag, hR2⟩ := hs β τ γ η σ θ μ a hR
  rcases hag with ⟨hr, ht⟩ | ⟨hr, ht⟩
  · skip
    refine g_aload_n C dL_law_2902 rfl 1 rfl ?_
    refine g_aload_n C dL_law_2903 rfl 0 rfl ?_
    refine g_iload C dL_law_2904 4 rfl ?_
    refine g_iconst C (v := 1) dL_law_2906 (by decide) ?_
    refine g_iadd C dL_law_2907 ?_
    refine g_sldv C S (i + 1) (nx_add (rfl : nI i = nI i) (rfl : (1 : Int32) = nI 1)) (by omega) ha9 dL_law_2908 ?_
    refine g_aload_n C dL_law_2909 rfl 3 rfl ?_
    refine g_callSW C hZ hNc (z := 3) (cs1 := [wX ax (bo 0) (tr 0) (ac 0) (ah 0) (at_ 0), wB E bo β, wB E tr τ, wC E ac γ, wH E ah bd η, wT E at_ θ, wB E (bd 2) (σ 2), wB E (bd 3) (σ 3), wB E (bd 4) (σ 4), wB E (bd 5) (σ 5), wB E (bd 6) (σ 6), wB E (bd 7) (σ 7), wB E (bd 8) (σ 8), wB E (bd 9) (σ 9), wM E am μ, wO E ao (vp_updL o 0 ((fX7_loadByTickets μ a).1).toInt64)]) (st1 := [.int 0]) [.ref ax, .int a, .ref ao] [0, 1, 2, 3, 4, 5, 6, 7, 8, 9, 10, 11, 12, 13, 15] (kL_loadByTickets_r l E ax bo β tr τ ac γ ah bd η σ at_ θ ao o hlt hvb a ((fX7_loadByTickets μ a).1) hr) q5_207 q1_0 (by decide +kernel) q5_206 q5_205 rfl ⟨Nat.le_of_ble_eq_true rfl, Nat.le_of_ble_eq_true rfl⟩ ⟨hk, hn⟩ (by decide) rfl rfl rfl rfl (Nat.le_of_ble_eq_true rfl) dL_law_2910 rfl ?_
    refine g_istore C (lv1 := [(5, .int 0), (0, .ref b0), (1, .ref ax), (2, .ref (am 0)), (3, .ref ao), (4, .int (nI i))]) dL_law_2913 (by decide) rfl ?_
    refine g_aload_n C dL_law_2915 rfl 3 rfl ?_
    refine g_aload_n C dL_law_2916 rfl 1 rfl ?_
    refine g_iload C dL_law_2917 5 rfl ?_
    refine g_iconst C (v := 1) dL_law_2919 (by decide) ?_
    refine g_iadd C dL_law_2920 ?_
    refine g_sldv C S (i + 1) (nx_add (rfl : nI i = nI i) (rfl : (1 : Int32) = nI 1)) (by omega) ha9 dL_law_2921 ?_
    refine g_callV C (cs1 := [wX ax (bo 0) (tr 0) (ac 0) (ah 0) (at_ 0), wB E bo β, wB E tr τ, wC E ac γ, wH E ah bd η, wT E at_ θ, wB E (bd 2) (σ 2), wB E (bd 3) (σ 3), wB E (bd 4) (σ 4), wB E (bd 5) (σ 5), wB E (bd 6) (σ 6), wB E (bd 7) (σ 7), wB E (bd 8) (σ 8), wB E (bd 9) (σ 9), wM E am ((fX7_loadByTickets μ a).2), wO E ao (vp_updL o 0 ((fX7_loadByTickets μ a).1).toInt64)]) (st1 := [.int ((fX7_loadByTickets μ a).1)]) [.int a] [14] (kX7_loadByTickets l E am μ hvm a) caX7_loadByTickets q8_7 rfl ⟨Nat.le_of_ble_eq_true rfl, Nat.le_of_ble_eq_true rfl⟩ ⟨hk, hn⟩ 14 0 rfl rfl rfl rfl (by decide) rfl rfl rfl rfl (Nat.le_of_ble_eq_true rfl) dL_law_2922 rfl ?_
    refine g_istore C (lv1 := [(6, .int ((fX7_loadByTickets μ a).1)), (5, .int 0), (0, .ref b0), (1, .ref ax), (2, .ref (am 0)), (3, .ref ao), (4, .int (nI i))]) dL_law_2925 (by decide) rfl ?_
    refine g_aload_n C dL_law_2927 rfl 4 rfl ?_
    refine g_callV C (cs1 := [wX ax (bo 0) (tr 0) (ac 0) (ah 0) (at_ 0), wB E bo β, wB E tr τ, wC E ac γ, wH E ah bd η, wT E at_ θ, wB E (bd 2) (σ 2), wB E (bd 3) (σ 3), wB E (bd 4) (σ 4), wB E (bd 5) (σ 5), wB E (bd 6) (σ 6), wB E (bd 7) (σ 7), wB E (bd 8) (σ 8), wB E (bd 9) (σ 9), wM E am ((fX7_loadByTickets μ a).2), wO E ao (vp_updL o 0 ((fX7_loadByTickets μ a).1).toInt64)]) (st1 := [.int (fX7_thrown ((fX7_loadByTickets μ a).2))]) [] [14] (kX7_thrown l E am ((fX7_loadByTickets μ a).2)) caX7_thrown q6_116 rfl ⟨Nat.le_of_ble_eq_true rfl, Nat.le_of_ble_eq_true rfl⟩ ⟨hk, hn⟩ 14 0 rfl rfl rfl rfl (by decide) rfl rfl rfl rfl (Nat.le_of_ble_eq_true rfl) dL_law_2928 rfl ?_
    refine g_iload C dL_law_2931 1 rfl ?_
    refine g_icmp_eq C 2938 dL_law_2933 (by decide) (fun _ => ?_) (fun c => absurd ht c)
    refine g_iload C dL_law_2938 1 rfl ?_
    refine g_if_ne C 2955 dL_law_2940 (by decide) (fun c => absurd rfl c) (fun _ => ?_)
    refine g_aload_n C dL_law_2943 rfl 5 rfl ?_
    refine g_iconst C (v := 0) dL_law_2944 (by decide) ?_
    refine g_laldn C 15 0 0 rfl rfl rfl (by decide) (by decide) dL_law_2945 ?_
    refine g_iload C dL_law_2946 0 rfl ?_
    refine g_i2l C dL_law_2948 ?_
    refine g_lcmp C dL_law_2949 ?_
    refine g_if_eq C 2955 dL_law_2950 (by decide) (fun _ => ?_) (fun c => absurd law_cmp c)
    refine g_goto C 3840 dL_law_2955 (by decide) ?_
    exact g_sub [2, 3, 4, 5, 6] rfl (next β τ γ η σ θ ((fX7_loadByTickets μ a).2) (vp_updL o 0 ((fX7_loadByTickets μ a).1).toInt64) hR2)
  · skip
    refine g_aload_n C dL_law_2902 rfl 1 rfl ?_
    refine g_aload_n C dL_law_2903 rfl 0 rfl ?_
    refine g_iload C dL_law_2904 4 rfl ?_
    refine g_iconst C (v := 1) dL_law_2906 (by decide) ?_
    refine g_iadd C dL_law_2907 ?_
    refine g_sldv C S (i + 1) (nx_add (rfl : nI i = nI i) (rfl : (1 : Int32) = nI 1)) (by omega) ha9 dL_law_2908 ?_
    refine g_aload_n C dL_law_2909 rfl 3 rfl ?_
    refine g_callSW C hZ hNc (z := 3) (cs1 := [wX ax (bo 0) (tr 0) (ac 0) (ah 0) (at_ 0), wB E bo β, wB E tr τ, wC E ac γ, wH E ah bd η, wT E at_ θ, wB E (bd 2) (σ 2), wB E (bd 3) (σ 3), wB E (bd 4) (σ 4), wB E (bd 5) (σ 5), wB E (bd 6) (σ 6), wB E (bd 7) (σ 7), wB E (bd 8) (σ 8), wB E (bd 9) (σ 9), wM E am μ, wO E ao o]) (st1 := [.int 1]) [.ref ax, .int a, .ref ao] [0, 1, 2, 3, 4, 5, 6, 7, 8, 9, 10, 11, 12, 13, 15] (kL_loadByTickets_0 l E ax bo β tr τ ac γ ah bd η σ at_ θ ao o hlt hvb a hr) q5_207 q1_0 (by decide +kernel) q5_206 q5_205 rfl ⟨Nat.le_of_ble_eq_true rfl, Nat.le_of_ble_eq_true rfl⟩ ⟨hk, hn⟩ (by decide) rfl rfl rfl rfl (Nat.le_of_ble_eq_true rfl) dL_law_2910 rfl ?_
    refine g_istore C (lv1 := [(5, .int 1), (0, .ref b0), (1, .ref ax), (2, .ref (am 0)), (3, .ref ao), (4, .int (nI i))]) dL_law_2913 (by decide) rfl ?_
    refine g_aload_n C dL_law_2915 rfl 3 rfl ?_
    refine g_aload_n C dL_law_2916 rfl 1 rfl ?_
    refine g_iload C dL_law_2917 5 rfl ?_
    refine g_iconst C (v := 1) dL_law_2919 (by decide) ?_
    refine g_iadd C dL_law_2920 ?_
    refine g_sldv C S (i + 1) (nx_add (rfl : nI i = nI i) (rfl : (1 : Int32) = nI 1)) (by omega) ha9 dL_law_2921 ?_
    refine g_callV C (cs1 := [wX ax (bo 0) (tr 0) (ac 0) (ah 0) (at_ 0), wB E bo β, wB E tr τ, wC E ac γ, wH E ah bd η, wT E at_ θ, wB E (bd 2) (σ 2), wB E (bd 3) (σ 3), wB E (bd 4) (σ 4), wB E (bd 5) (σ 5), wB E (bd 6) (σ 6), wB E (bd 7) (σ 7), wB E (bd 8) (σ 8), wB E (bd 9) (σ 9), wM E am ((fX7_loadByTickets μ a).2), wO E ao o]) (st1 := [.int ((fX7_loadByTickets μ a).1)]) [.int a] [14] (kX7_loadByTickets l E am μ hvm a) caX7_loadByTickets q8_7 rfl ⟨Nat.le_of_ble_eq_true rfl, Nat.le_of_ble_eq_true rfl⟩ ⟨hk, hn⟩ 14 0 rfl rfl rfl rfl (by decide) rfl rfl rfl rfl (Nat.le_of_ble_eq_true rfl) dL_law_2922 rfl ?_
    refine g_istore C (lv1 := [(6, .int ((fX7_loadByTickets μ a).1)), (5, .int 1), (0, .ref b0), (1, .ref ax), (2, .ref (am 0)), (3, .ref ao), (4, .int (nI i))]) dL_law_2925 (by decide) rfl ?_
    refine g_aload_n C dL_law_2927 rfl 4 rfl ?_
    refine g_callV C (cs1 := [wX ax (bo 0) (tr 0) (ac 0) (ah 0) (at_ 0), wB E bo β, wB E tr τ, wC E ac γ, wH E ah bd η, wT E at_ θ, wB E (bd 2) (σ 2), wB E (bd 3) (σ 3), wB E (bd 4) (σ 4), wB E (bd 5) (σ 5), wB E (bd 6) (σ 6), wB E (bd 7) (σ 7), wB E (bd 8) (σ 8), wB E (bd 9) (σ 9), wM E am ((fX7_loadByTickets μ a).2), wO E ao o]) (st1 := [.int (fX7_thrown ((fX7_loadByTickets μ a).2))]) [] [14] (kX7_thrown l E am ((fX7_loadByTickets μ a).2)) caX7_thrown q6_116 rfl ⟨Nat.le_of_ble_eq_true rfl, Nat.le_of_ble_eq_true rfl⟩ ⟨hk, hn⟩ 14 0 rfl rfl rfl rfl (by decide) rfl rfl rfl rfl (Nat.le_of_ble_eq_true rfl) dL_law_2928 rfl ?_
    refine g_iload C dL_law_2931 1 rfl ?_
    refine g_icmp_eq C 2938 dL_law_2933 (by decide) (fun _ => ?_) (fun c => absurd ht c)
    refine g_iload C dL_law_2938 1 rfl ?_
    refine g_if_ne C 2955 dL_law_2940 (by decide) (fun _ => ?_) (fun c => absurd c (by decide))
    refine g_goto C 3840 dL_law_2955 (by decide) ?_
    exact g_sub [2, 3, 4, 5, 6] rfl (next β τ γ η σ θ ((fX7_loadByTickets μ a).2) o hR2)
set_option maxHeartbeats 4000000 in
set_option maxRecDepth 100000 in
theorem arm_51 {Rl : RlT} (hRv : RlV Rl) (hs : sH_loadByAccount Rl)  {X : gX} {l : Launch} {E : gE} (C : gC X cL_law 9 RL (some .boolean) l E room_1) (hZ : gZ X.2.2.2.2.2.2.2.2.2.2.2.1 X.2.2.2.2.1 X.2.2.2.2.1.heap) (hNc : gNc X.2.2.2.2.1) {b0 L0 : Nat} {xs : Nat → Int32} (S : gS X b0 L0 xs) (hlt : l.stackTraces = false) {ax : Nat} {bo tr ac ah : Nat → Nat} {bd : Nat → Nat → Nat} {at_ am : Nat → Nat} {ao k n i : Nat} (hk : k + 3 ≤ 601024) (hn : n + 18 ≤ 7293034) (hi : i + 3 ≤ L0) {β τ γ η : BS} {σ : Nat → BS} {θ μ : BS} {o : Nat → Int64} (hR : Rl β η θ σ μ) (next : ∀ (β τ γ η : BS) (σ : Nat → BS) (θ μ : BS) (o : Nat → Int64), Rl β η θ σ μ → G X (k + 3) (n + 18) [wX ax (bo 0) (tr 0) (ac 0) (ah 0) (at_ 0), wB E bo β, wB E tr τ, wC E ac γ, wH E ah bd η, wT E at_ θ, wB E (bd 2) (σ 2), wB E (bd 3) (σ 3), wB E (bd 4) (σ 4), wB E (bd 5) (σ 5), wB E (bd 6) (σ 6), wB E (bd 7) (σ 7), wB E (bd 8) (σ 8), wB E (bd 9) (σ 9), wM E am μ, wO E ao o] [(0, .ref b0), (1, .ref ax), (2, .ref (am 0)), (3, .ref ao), (4, .int (nI i))] 3840 []) : G X k n [wX ax (bo 0) (tr 0) (ac 0) (ah 0) (at_ 0), wB E bo β, wB E tr τ, wC E ac γ, wH E ah bd η, wT E at_ θ, wB E (bd 2) (σ 2), wB E (bd 3) (σ 3), wB E (bd 4) (σ 4), wB E (bd 5) (σ 5), wB E (bd 6) (σ 6), wB E (bd 7) (σ 7), wB E (bd 8) (σ 8), wB E (bd 9) (σ 9), wM E am μ, wO E ao o] [(0, .ref b0), (1, .ref ax), (2, .ref (am 0)), (3, .ref ao), (4, .int (nI i))] 2958 [] := by
  obtain ⟨hvb, hvh, hvt, hvm, ha⟩ := hRv β η θ σ μ hR
  obtain ⟨a, ha9⟩ : ∃ a, xs (i + 1) = a := ⟨_, rfl⟩
  obtain ⟨hag, hR2⟩ := hs β τ γ η σ θ μ a hR
  rcases hag with ⟨hr, ht⟩ | ⟨hr, ht⟩
  · skip
    refine g_aload_n C dL_law_2958 rfl 1 rfl ?_
    refine g_aload_n C dL_law_2959 rfl 0 rfl ?_
    refine g_iload C dL_law_2960 4 rfl ?_
    refine g_iconst C (v := 1) dL_law_2962 (by decide) ?_
    refine g_iadd C dL_law_2963 ?_
    refine g_sldv C S (i + 1) (nx_add (rfl : nI i = nI i) (rfl : (1 : Int32) = nI 1)) (by omega) ha9 dL_law_2964 ?_
    refine g_aload_n C dL_law_2965 rfl 3 rfl ?_
    refine g_callSW C hZ hNc (z := 3) (cs1 := [wX ax (bo 0) (tr 0) (ac 0) (ah 0) (at_ 0), wB E bo β, wB E tr τ, wC E ac γ, wH E ah bd η, wT E at_ θ, wB E (bd 2) (σ 2), wB E (bd 3) (σ 3), wB E (bd 4) (σ 4), wB E (bd 5) (σ 5), wB E (bd 6) (σ 6), wB E (bd 7) (σ 7), wB E (bd 8) (σ 8), wB E (bd 9) (σ 9), wM E am μ, wO E ao (vp_updL o 0 ((fX7_loadByAccount μ a).1).toInt64)]) (st1 := [.int 0]) [.ref ax, .int a, .ref ao] [0, 1, 2, 3, 4, 5, 6, 7, 8, 9, 10, 11, 12, 13, 15] (kL_loadByAccount_r l E ax bo β tr τ ac γ ah bd η σ at_ θ ao o hlt hvb a ((fX7_loadByAccount μ a).1) hr) q5_214 q1_0 (by decide +kernel) q5_213 q5_212 rfl ⟨Nat.le_of_ble_eq_true rfl, Nat.le_of_ble_eq_true rfl⟩ ⟨hk, hn⟩ (by decide) rfl rfl rfl rfl (Nat.le_of_ble_eq_true rfl) dL_law_2966 rfl ?_
    refine g_istore C (lv1 := [(5, .int 0), (0, .ref b0), (1, .ref ax), (2, .ref (am 0)), (3, .ref ao), (4, .int (nI i))]) dL_law_2969 (by decide) rfl ?_
    refine g_aload_n C dL_law_2971 rfl 3 rfl ?_
    refine g_aload_n C dL_law_2972 rfl 1 rfl ?_
    refine g_iload C dL_law_2973 5 rfl ?_
    refine g_iconst C (v := 1) dL_law_2975 (by decide) ?_
    refine g_iadd C dL_law_2976 ?_
    refine g_sldv C S (i + 1) (nx_add (rfl : nI i = nI i) (rfl : (1 : Int32) = nI 1)) (by omega) ha9 dL_law_2977 ?_
    refine g_callV C (cs1 := [wX ax (bo 0) (tr 0) (ac 0) (ah 0) (at_ 0), wB E bo β, wB E tr τ, wC E ac γ, wH E ah bd η, wT E at_ θ, wB E (bd 2) (σ 2), wB E (bd 3) (σ 3), wB E (bd 4) (σ 4), wB E (bd 5) (σ 5), wB E (bd 6) (σ 6), wB E (bd 7) (σ 7), wB E (bd 8) (σ 8), wB E (bd 9) (σ 9), wM E am ((fX7_loadByAccount μ a).2), wO E ao (vp_updL o 0 ((fX7_loadByAccount μ a).1).toInt64)]) (st1 := [.int ((fX7_loadByAccount μ a).1)]) [.int a] [14] (kX7_loadByAccount l E am μ hvm a) caX7_loadByAccount q8_11 rfl ⟨Nat.le_of_ble_eq_true rfl, Nat.le_of_ble_eq_true rfl⟩ ⟨hk, hn⟩ 14 0 rfl rfl rfl rfl (by decide) rfl rfl rfl rfl (Nat.le_of_ble_eq_true rfl) dL_law_2978 rfl ?_
    refine g_istore C (lv1 := [(6, .int ((fX7_loadByAccount μ a).1)), (5, .int 0), (0, .ref b0), (1, .ref ax), (2, .ref (am 0)), (3, .ref ao), (4, .int (nI i))]) dL_law_2981 (by decide) rfl ?_
    refine g_aload_n C dL_law_2983 rfl 4 rfl ?_
    refine g_callV C (cs1 := [wX ax (bo 0) (tr 0) (ac 0) (ah 0) (at_ 0), wB E bo β, wB E tr τ, wC E ac γ, wH E ah bd η, wT E at_ θ, wB E (bd 2) (σ 2), wB E (bd 3) (σ 3), wB E (bd 4) (σ 4), wB E (bd 5) (σ 5), wB E (bd 6) (σ 6), wB E (bd 7) (σ 7), wB E (bd 8) (σ 8), wB E (bd 9) (σ 9), wM E am ((fX7_loadByAccount μ a).2), wO E ao (vp_updL o 0 ((fX7_loadByAccount μ a).1).toInt64)]) (st1 := [.int (fX7_thrown ((fX7_loadByAccount μ a).2))]) [] [14] (kX7_thrown l E am ((fX7_loadByAccount μ a).2)) caX7_thrown q6_116 rfl ⟨Nat.le_of_ble_eq_true rfl, Nat.le_of_ble_eq_true rfl⟩ ⟨hk, hn⟩ 14 0 rfl rfl rfl rfl (by decide) rfl rfl rfl rfl (Nat.le_of_ble_eq_true rfl) dL_law_2984 rfl ?_
    refine g_iload C dL_law_2987 1 rfl ?_
    refine g_icmp_eq C 2994 dL_law_2989 (by decide) (fun _ => ?_) (fun c => absurd ht c)
    refine g_iload C dL_law_2994 1 rfl ?_
    refine g_if_ne C 3011 dL_law_2996 (by decide) (fun c => absurd rfl c) (fun _ => ?_)
    refine g_aload_n C dL_law_2999 rfl 5 rfl ?_
    refine g_iconst C (v := 0) dL_law_3000 (by decide) ?_
    refine g_laldn C 15 0 0 rfl rfl rfl (by decide) (by decide) dL_law_3001 ?_
    refine g_iload C dL_law_3002 0 rfl ?_
    refine g_i2l C dL_law_3004 ?_
    refine g_lcmp C dL_law_3005 ?_
    refine g_if_eq C 3011 dL_law_3006 (by decide) (fun _ => ?_) (fun c => absurd law_cmp c)
    refine g_goto C 3840 dL_law_3011 (by decide) ?_
    exact g_sub [2, 3, 4, 5, 6] rfl (next β τ γ η σ θ ((fX7_loadByAccount μ a).2) (vp_updL o 0 ((fX7_loadByAccount μ a).1).toInt64) hR2)
  · skip
    refine g_aload_n C dL_law_2958 rfl 1 rfl ?_
    refine g_aload_n C dL_law_2959 rfl 0 rfl ?_
    refine g_iload C dL_law_2960 4 rfl ?_
    refine g_iconst C (v := 1) dL_law_2962 (by decide) ?_
    refine g_iadd C dL_law_2963 ?_
    refine g_sldv C S (i + 1) (nx_add (rfl : nI i = nI i) (rfl : (1 : Int32) = nI 1)) (by omega) ha9 dL_law_2964 ?_
    refine g_aload_n C dL_law_2965 rfl 3 rfl ?_
    refine g_callSW C hZ hNc (z := 3) (cs1 := [wX ax (bo 0) (tr 0) (ac 0) (ah 0) (at_ 0), wB E bo β, wB E tr τ, wC E ac γ, wH E ah bd η, wT E at_ θ, wB E (bd 2) (σ 2), wB E (bd 3) (σ 3), wB E (bd 4) (σ 4), wB E (bd 5) (σ 5), wB E (bd 6) (σ 6), wB E (bd 7) (σ 7), wB E (bd 8) (σ 8), wB E (bd 9) (σ 9), wM E am μ, wO E ao o]) (st1 := [.int 1]) [.ref ax, .int a, .ref ao] [0, 1, 2, 3, 4, 5, 6, 7, 8, 9, 10, 11, 12, 13, 15] (kL_loadByAccount_0 l E ax bo β tr τ ac γ ah bd η σ at_ θ ao o hlt hvb a hr) q5_214 q1_0 (by decide +kernel) q5_213 q5_212 rfl ⟨Nat.le_of_ble_eq_true rfl, Nat.le_of_ble_eq_true rfl⟩ ⟨hk, hn⟩ (by decide) rfl rfl rfl rfl (Nat.le_of_ble_eq_true rfl) dL_law_2966 rfl ?_
    refine g_istore C (lv1 := [(5, .int 1), (0, .ref b0), (1, .ref ax), (2, .ref (am 0)), (3, .ref ao), (4, .int (nI i))]) dL_law_2969 (by decide) rfl ?_
    refine g_aload_n C dL_law_2971 rfl 3 rfl ?_
    refine g_aload_n C dL_law_2972 rfl 1 rfl ?_
    refine g_iload C dL_law_2973 5 rfl ?_
    refine g_iconst C (v := 1) dL_law_2975 (by decide) ?_
    refine g_iadd C dL_law_2976 ?_
    refine g_sldv C S (i + 1) (nx_add (rfl : nI i = nI i) (rfl : (1 : Int32) = nI 1)) (by omega) ha9 dL_law_2977 ?_
    refine g_callV C (cs1 := [wX ax (bo 0) (tr 0) (ac 0) (ah 0) (at_ 0), wB E bo β, wB E tr τ, wC E ac γ, wH E ah bd η, wT E at_ θ, wB E (bd 2) (σ 2), wB E (bd 3) (σ 3), wB E (bd 4) (σ 4), wB E (bd 5) (σ 5), wB E (bd 6) (σ 6), wB E (bd 7) (σ 7), wB E (bd 8) (σ 8), wB E (bd 9) (σ 9), wM E am ((fX7_loadByAccount μ a).2), wO E ao o]) (st1 := [.int ((fX7_loadByAccount μ a).1)]) [.int a] [14] (kX7_loadByAccount l E am μ hvm a) caX7_loadByAccount q8_11 rfl ⟨Nat.le_of_ble_eq_true rfl, Nat.le_of_ble_eq_true rfl⟩ ⟨hk, hn⟩ 14 0 rfl rfl rfl rfl (by decide) rfl rfl rfl rfl (Nat.le_of_ble_eq_true rfl) dL_law_2978 rfl ?_
    refine g_istore C (lv1 := [(6, .int ((fX7_loadByAccount μ a).1)), (5, .int 1), (0, .ref b0), (1, .ref ax), (2, .ref (am 0)), (3, .ref ao), (4, .int (nI i))]) dL_law_2981 (by decide) rfl ?_
    refine g_aload_n C dL_law_2983 rfl 4 rfl ?_
    refine g_callV C (cs1 := [wX ax (bo 0) (tr 0) (ac 0) (ah 0) (at_ 0), wB E bo β, wB E tr τ, wC E ac γ, wH E ah bd η, wT E at_ θ, wB E (bd 2) (σ 2), wB E (bd 3) (σ 3), wB E (bd 4) (σ 4), wB E (bd 5) (σ 5), wB E (bd 6) (σ 6), wB E (bd 7) (σ 7), wB E (bd 8) (σ 8), wB E (bd 9) (σ 9), wM E am ((fX7_loadByAccount μ a).2), wO E ao o]) (st1 := [.int (fX7_thrown ((fX7_loadByAccount μ a).2))]) [] [14] (kX7_thrown l E am ((fX7_loadByAccount μ a).2)) caX7_thrown q6_116 rfl ⟨Nat.le_of_ble_eq_true rfl, Nat.le_of_ble_eq_true rfl⟩ ⟨hk, hn⟩ 14 0 rfl rfl rfl rfl (by decide) rfl rfl rfl rfl (Nat.le_of_ble_eq_true rfl) dL_law_2984 rfl ?_
    refine g_iload C dL_law_2987 1 rfl ?_
    refine g_icmp_eq C 2994 dL_law_2989 (by decide) (fun _ => ?_) (fun c => absurd ht c)
    refine g_iload C dL_law_2994 1 rfl ?_
    refine g_if_ne C 3011 dL_law_2996 (by decide) (fun _ => ?_) (fun c => absurd c (by decide))
    refine g_goto C 3840 dL_law_3011 (by decide) ?_
    exact g_sub [2, 3, 4, 5, 6] rfl (next β τ γ η σ θ ((fX7_loadByAccount μ a).2) o hR2)
set_option maxHeartbeats 4000000 in
set_option maxRecDepth 100000 in
theorem arm_52 {Rl : RlT} (hRv : RlV Rl) (hs : sH_inProgressOf Rl)  {X : gX} {l : Launch} {E : gE} (C : gC X cL_law 9 RL (some .boolean) l E room_1) (hZ : gZ X.2.2.2.2.2.2.2.2.2.2.2.1 X.2.2.2.2.1 X.2.2.2.2.1.heap) (hNc : gNc X.2.2.2.2.1) {b0 L0 : Nat} {xs : Nat → Int32} (S : gS X b0 L0 xs) (hlt : l.stackTraces = false) {ax : Nat} {bo tr ac ah : Nat → Nat} {bd : Nat → Nat → Nat} {at_ am : Nat → Nat} {ao k n i : Nat} (hk : k + 3 ≤ 601024) (hn : n + 18 ≤ 7293034) (hi : i + 3 ≤ L0) {β τ γ η : BS} {σ : Nat → BS} {θ μ : BS} {o : Nat → Int64} (hR : Rl β η θ σ μ) (next : ∀ (β τ γ η : BS) (σ : Nat → BS) (θ μ : BS) (o : Nat → Int64), Rl β η θ σ μ → G X (k + 3) (n + 18) [wX ax (bo 0) (tr 0) (ac 0) (ah 0) (at_ 0), wB E bo β, wB E tr τ, wC E ac γ, wH E ah bd η, wT E at_ θ, wB E (bd 2) (σ 2), wB E (bd 3) (σ 3), wB E (bd 4) (σ 4), wB E (bd 5) (σ 5), wB E (bd 6) (σ 6), wB E (bd 7) (σ 7), wB E (bd 8) (σ 8), wB E (bd 9) (σ 9), wM E am μ, wO E ao o] [(0, .ref b0), (1, .ref ax), (2, .ref (am 0)), (3, .ref ao), (4, .int (nI i))] 3840 []) : G X k n [wX ax (bo 0) (tr 0) (ac 0) (ah 0) (at_ 0), wB E bo β, wB E tr τ, wC E ac γ, wH E ah bd η, wT E at_ θ, wB E (bd 2) (σ 2), wB E (bd 3) (σ 3), wB E (bd 4) (σ 4), wB E (bd 5) (σ 5), wB E (bd 6) (σ 6), wB E (bd 7) (σ 7), wB E (bd 8) (σ 8), wB E (bd 9) (σ 9), wM E am μ, wO E ao o] [(0, .ref b0), (1, .ref ax), (2, .ref (am 0)), (3, .ref ao), (4, .int (nI i))] 3014 [] := by
  obtain ⟨hvb, hvh, hvt, hvm, ha⟩ := hRv β η θ σ μ hR
  obtain ⟨a, ha9⟩ : ∃ a, xs (i + 1) = a := ⟨_, rfl⟩
  obtain ⟨hag, hR2⟩ := hs β τ γ η σ θ μ a hR
  rcases hag with ⟨hr, ht⟩ | ⟨hr, ht⟩
  · skip
    refine g_aload_n C dL_law_3014 rfl 1 rfl ?_
    refine g_aload_n C dL_law_3015 rfl 0 rfl ?_
    refine g_iload C dL_law_3016 4 rfl ?_
    refine g_iconst C (v := 1) dL_law_3018 (by decide) ?_
    refine g_iadd C dL_law_3019 ?_
    refine g_sldv C S (i + 1) (nx_add (rfl : nI i = nI i) (rfl : (1 : Int32) = nI 1)) (by omega) ha9 dL_law_3020 ?_
    refine g_aload_n C dL_law_3021 rfl 3 rfl ?_
    refine g_callSW C hZ hNc (z := 3) (cs1 := [wX ax (bo 0) (tr 0) (ac 0) (ah 0) (at_ 0), wB E bo β, wB E tr τ, wC E ac γ, wH E ah bd η, wT E at_ θ, wB E (bd 2) (σ 2), wB E (bd 3) (σ 3), wB E (bd 4) (σ 4), wB E (bd 5) (σ 5), wB E (bd 6) (σ 6), wB E (bd 7) (σ 7), wB E (bd 8) (σ 8), wB E (bd 9) (σ 9), wM E am μ, wO E ao (vp_updL o 0 ((fX7_inProgressOf μ a).1).toInt64)]) (st1 := [.int 0]) [.ref ax, .int a, .ref ao] [0, 1, 2, 3, 4, 5, 6, 7, 8, 9, 10, 11, 12, 13, 15] (kL_inProgressOf_r l E ax bo β tr τ ac γ ah bd η σ at_ θ ao o hlt hvb a ((fX7_inProgressOf μ a).1) hr) q5_221 q1_0 (by decide +kernel) q5_220 q5_219 rfl ⟨Nat.le_of_ble_eq_true rfl, Nat.le_of_ble_eq_true rfl⟩ ⟨hk, hn⟩ (by decide) rfl rfl rfl rfl (Nat.le_of_ble_eq_true rfl) dL_law_3022 rfl ?_
    refine g_istore C (lv1 := [(5, .int 0), (0, .ref b0), (1, .ref ax), (2, .ref (am 0)), (3, .ref ao), (4, .int (nI i))]) dL_law_3025 (by decide) rfl ?_
    refine g_aload_n C dL_law_3027 rfl 3 rfl ?_
    refine g_aload_n C dL_law_3028 rfl 1 rfl ?_
    refine g_iload C dL_law_3029 5 rfl ?_
    refine g_iconst C (v := 1) dL_law_3031 (by decide) ?_
    refine g_iadd C dL_law_3032 ?_
    refine g_sldv C S (i + 1) (nx_add (rfl : nI i = nI i) (rfl : (1 : Int32) = nI 1)) (by omega) ha9 dL_law_3033 ?_
    refine g_callV C (cs1 := [wX ax (bo 0) (tr 0) (ac 0) (ah 0) (at_ 0), wB E bo β, wB E tr τ, wC E ac γ, wH E ah bd η, wT E at_ θ, wB E (bd 2) (σ 2), wB E (bd 3) (σ 3), wB E (bd 4) (σ 4), wB E (bd 5) (σ 5), wB E (bd 6) (σ 6), wB E (bd 7) (σ 7), wB E (bd 8) (σ 8), wB E (bd 9) (σ 9), wM E am ((fX7_inProgressOf μ a).2), wO E ao (vp_updL o 0 ((fX7_inProgressOf μ a).1).toInt64)]) (st1 := [.int ((fX7_inProgressOf μ a).1)]) [.int a] [14] (kX7_inProgressOf l E am μ hvm a) caX7_inProgressOf q8_15 rfl ⟨Nat.le_of_ble_eq_true rfl, Nat.le_of_ble_eq_true rfl⟩ ⟨hk, hn⟩ 14 0 rfl rfl rfl rfl (by decide) rfl rfl rfl rfl (Nat.le_of_ble_eq_true rfl) dL_law_3034 rfl ?_
    refine g_istore C (lv1 := [(6, .int ((fX7_inProgressOf μ a).1)), (5, .int 0), (0, .ref b0), (1, .ref ax), (2, .ref (am 0)), (3, .ref ao), (4, .int (nI i))]) dL_law_3037 (by decide) rfl ?_
    refine g_aload_n C dL_law_3039 rfl 4 rfl ?_
    refine g_callV C (cs1 := [wX ax (bo 0) (tr 0) (ac 0) (ah 0) (at_ 0), wB E bo β, wB E tr τ, wC E ac γ, wH E ah bd η, wT E at_ θ, wB E (bd 2) (σ 2), wB E (bd 3) (σ 3), wB E (bd 4) (σ 4), wB E (bd 5) (σ 5), wB E (bd 6) (σ 6), wB E (bd 7) (σ 7), wB E (bd 8) (σ 8), wB E (bd 9) (σ 9), wM E am ((fX7_inProgressOf μ a).2), wO E ao (vp_updL o 0 ((fX7_inProgressOf μ a).1).toInt64)]) (st1 := [.int (fX7_thrown ((fX7_inProgressOf μ a).2))]) [] [14] (kX7_thrown l E am ((fX7_inProgressOf μ a).2)) caX7_thrown q6_116 rfl ⟨Nat.le_of_ble_eq_true rfl, Nat.le_of_ble_eq_true rfl⟩ ⟨hk, hn⟩ 14 0 rfl rfl rfl rfl (by decide) rfl rfl rfl rfl (Nat.le_of_ble_eq_true rfl) dL_law_3040 rfl ?_
    refine g_iload C dL_law_3043 1 rfl ?_
    refine g_icmp_eq C 3050 dL_law_3045 (by decide) (fun _ => ?_) (fun c => absurd ht c)
    refine g_iload C dL_law_3050 1 rfl ?_
    refine g_if_ne C 3067 dL_law_3052 (by decide) (fun c => absurd rfl c) (fun _ => ?_)
    refine g_aload_n C dL_law_3055 rfl 5 rfl ?_
    refine g_iconst C (v := 0) dL_law_3056 (by decide) ?_
    refine g_laldn C 15 0 0 rfl rfl rfl (by decide) (by decide) dL_law_3057 ?_
    refine g_iload C dL_law_3058 0 rfl ?_
    refine g_i2l C dL_law_3060 ?_
    refine g_lcmp C dL_law_3061 ?_
    refine g_if_eq C 3067 dL_law_3062 (by decide) (fun _ => ?_) (fun c => absurd law_cmp c)
    refine g_goto C 3840 dL_law_3067 (by decide) ?_
    exact g_sub [2, 3, 4, 5, 6] rfl (next β τ γ η σ θ ((fX7_inProgressOf μ a).2) (vp_updL o 0 ((fX7_inProgressOf μ a).1).toInt64) hR2)
  · skip
    refine g_aload_n C dL_law_3014 rfl 1 rfl ?_
    refine g_aload_n C dL_law_3015 rfl 0 rfl ?_
    refine g_iload C dL_law_3016 4 rfl ?_
    refine g_iconst C (v := 1) dL_law_3018 (by decide) ?_
    refine g_iadd C dL_law_3019 ?_
    refine g_sldv C S (i + 1) (nx_add (rfl : nI i = nI i) (rfl : (1 : Int32) = nI 1)) (by omega) ha9 dL_law_3020 ?_
    refine g_aload_n C dL_law_3021 rfl 3 rfl ?_
    refine g_callSW C hZ hNc (z := 3) (cs1 := [wX ax (bo 0) (tr 0) (ac 0) (ah 0) (at_ 0), wB E bo β, wB E tr τ, wC E ac γ, wH E ah bd η, wT E at_ θ, wB E (bd 2) (σ 2), wB E (bd 3) (σ 3), wB E (bd 4) (σ 4), wB E (bd 5) (σ 5), wB E (bd 6) (σ 6), wB E (bd 7) (σ 7), wB E (bd 8) (σ 8), wB E (bd 9) (σ 9), wM E am μ, wO E ao o]) (st1 := [.int 1]) [.ref ax, .int a, .ref ao] [0, 1, 2, 3, 4, 5, 6, 7, 8, 9, 10, 11, 12, 13, 15] (kL_inProgressOf_0 l E ax bo β tr τ ac γ ah bd η σ at_ θ ao o hlt hvb a hr) q5_221 q1_0 (by decide +kernel) q5_220 q5_219 rfl ⟨Nat.le_of_ble_eq_true rfl, Nat.le_of_ble_eq_true rfl⟩ ⟨hk, hn⟩ (by decide) rfl rfl rfl rfl (Nat.le_of_ble_eq_true rfl) dL_law_3022 rfl ?_
    refine g_istore C (lv1 := [(5, .int 1), (0, .ref b0), (1, .ref ax), (2, .ref (am 0)), (3, .ref ao), (4, .int (nI i))]) dL_law_3025 (by decide) rfl ?_
    refine g_aload_n C dL_law_3027 rfl 3 rfl ?_
    refine g_aload_n C dL_law_3028 rfl 1 rfl ?_
    refine g_iload C dL_law_3029 5 rfl ?_
    refine g_iconst C (v := 1) dL_law_3031 (by decide) ?_
    refine g_iadd C dL_law_3032 ?_
    refine g_sldv C S (i + 1) (nx_add (rfl : nI i = nI i) (rfl : (1 : Int32) = nI 1)) (by omega) ha9 dL_law_3033 ?_
    refine g_callV C (cs1 := [wX ax (bo 0) (tr 0) (ac 0) (ah 0) (at_ 0), wB E bo β, wB E tr τ, wC E ac γ, wH E ah bd η, wT E at_ θ, wB E (bd 2) (σ 2), wB E (bd 3) (σ 3), wB E (bd 4) (σ 4), wB E (bd 5) (σ 5), wB E (bd 6) (σ 6), wB E (bd 7) (σ 7), wB E (bd 8) (σ 8), wB E (bd 9) (σ 9), wM E am ((fX7_inProgressOf μ a).2), wO E ao o]) (st1 := [.int ((fX7_inProgressOf μ a).1)]) [.int a] [14] (kX7_inProgressOf l E am μ hvm a) caX7_inProgressOf q8_15 rfl ⟨Nat.le_of_ble_eq_true rfl, Nat.le_of_ble_eq_true rfl⟩ ⟨hk, hn⟩ 14 0 rfl rfl rfl rfl (by decide) rfl rfl rfl rfl (Nat.le_of_ble_eq_true rfl) dL_law_3034 rfl ?_
    refine g_istore C (lv1 := [(6, .int ((fX7_inProgressOf μ a).1)), (5, .int 1), (0, .ref b0), (1, .ref ax), (2, .ref (am 0)), (3, .ref ao), (4, .int (nI i))]) dL_law_3037 (by decide) rfl ?_
    refine g_aload_n C dL_law_3039 rfl 4 rfl ?_
    refine g_callV C (cs1 := [wX ax (bo 0) (tr 0) (ac 0) (ah 0) (at_ 0), wB E bo β, wB E tr τ, wC E ac γ, wH E ah bd η, wT E at_ θ, wB E (bd 2) (σ 2), wB E (bd 3) (σ 3), wB E (bd 4) (σ 4), wB E (bd 5) (σ 5), wB E (bd 6) (σ 6), wB E (bd 7) (σ 7), wB E (bd 8) (σ 8), wB E (bd 9) (σ 9), wM E am ((fX7_inProgressOf μ a).2), wO E ao o]) (st1 := [.int (fX7_thrown ((fX7_inProgressOf μ a).2))]) [] [14] (kX7_thrown l E am ((fX7_inProgressOf μ a).2)) caX7_thrown q6_116 rfl ⟨Nat.le_of_ble_eq_true rfl, Nat.le_of_ble_eq_true rfl⟩ ⟨hk, hn⟩ 14 0 rfl rfl rfl rfl (by decide) rfl rfl rfl rfl (Nat.le_of_ble_eq_true rfl) dL_law_3040 rfl ?_
    refine g_iload C dL_law_3043 1 rfl ?_
    refine g_icmp_eq C 3050 dL_law_3045 (by decide) (fun _ => ?_) (fun c => absurd ht c)
    refine g_iload C dL_law_3050 1 rfl ?_
    refine g_if_ne C 3067 dL_law_3052 (by decide) (fun _ => ?_) (fun c => absurd c (by decide))
    refine g_goto C 3840 dL_law_3067 (by decide) ?_
    exact g_sub [2, 3, 4, 5, 6] rfl (next β τ γ η σ θ ((fX7_inProgressOf μ a).2) o hR2)
set_option maxHeartbeats 4000000 in
set_option maxRecDepth 100000 in
theorem arm_53 {Rl : RlT} (hRv : RlV Rl) (hs : sH_donePointsOf Rl)  {X : gX} {l : Launch} {E : gE} (C : gC X cL_law 9 RL (some .boolean) l E room_1) (hZ : gZ X.2.2.2.2.2.2.2.2.2.2.2.1 X.2.2.2.2.1 X.2.2.2.2.1.heap) (hNc : gNc X.2.2.2.2.1) {b0 L0 : Nat} {xs : Nat → Int32} (S : gS X b0 L0 xs) (hlt : l.stackTraces = false) {ax : Nat} {bo tr ac ah : Nat → Nat} {bd : Nat → Nat → Nat} {at_ am : Nat → Nat} {ao k n i : Nat} (hk : k + 3 ≤ 601024) (hn : n + 18 ≤ 7293034) (hi : i + 3 ≤ L0) {β τ γ η : BS} {σ : Nat → BS} {θ μ : BS} {o : Nat → Int64} (hR : Rl β η θ σ μ) (next : ∀ (β τ γ η : BS) (σ : Nat → BS) (θ μ : BS) (o : Nat → Int64), Rl β η θ σ μ → G X (k + 3) (n + 18) [wX ax (bo 0) (tr 0) (ac 0) (ah 0) (at_ 0), wB E bo β, wB E tr τ, wC E ac γ, wH E ah bd η, wT E at_ θ, wB E (bd 2) (σ 2), wB E (bd 3) (σ 3), wB E (bd 4) (σ 4), wB E (bd 5) (σ 5), wB E (bd 6) (σ 6), wB E (bd 7) (σ 7), wB E (bd 8) (σ 8), wB E (bd 9) (σ 9), wM E am μ, wO E ao o] [(0, .ref b0), (1, .ref ax), (2, .ref (am 0)), (3, .ref ao), (4, .int (nI i))] 3840 []) : G X k n [wX ax (bo 0) (tr 0) (ac 0) (ah 0) (at_ 0), wB E bo β, wB E tr τ, wC E ac γ, wH E ah bd η, wT E at_ θ, wB E (bd 2) (σ 2), wB E (bd 3) (σ 3), wB E (bd 4) (σ 4), wB E (bd 5) (σ 5), wB E (bd 6) (σ 6), wB E (bd 7) (σ 7), wB E (bd 8) (σ 8), wB E (bd 9) (σ 9), wM E am μ, wO E ao o] [(0, .ref b0), (1, .ref ax), (2, .ref (am 0)), (3, .ref ao), (4, .int (nI i))] 3070 [] := by
  obtain ⟨hvb, hvh, hvt, hvm, ha⟩ := hRv β η θ σ μ hR
  obtain ⟨a, ha9⟩ : ∃ a, xs (i + 1) = a := ⟨_, rfl⟩
  obtain ⟨hag, hR2⟩ := hs β τ γ η σ θ μ a hR
  rcases hag with ⟨hr, ht⟩ | ⟨hr, ht⟩
  · skip
    refine g_aload_n C dL_law_3070 rfl 1 rfl ?_
    refine g_aload_n C dL_law_3071 rfl 0 rfl ?_
    refine g_iload C dL_law_3072 4 rfl ?_
    refine g_iconst C (v := 1) dL_law_3074 (by decide) ?_
    refine g_iadd C dL_law_3075 ?_
    refine g_sldv C S (i + 1) (nx_add (rfl : nI i = nI i) (rfl : (1 : Int32) = nI 1)) (by omega) ha9 dL_law_3076 ?_
    refine g_aload_n C dL_law_3077 rfl 3 rfl ?_
    refine g_callSW C hZ hNc (z := 3) (cs1 := [wX ax (bo 0) (tr 0) (ac 0) (ah 0) (at_ 0), wB E bo β, wB E tr τ, wC E ac γ, wH E ah bd η, wT E at_ θ, wB E (bd 2) (σ 2), wB E (bd 3) (σ 3), wB E (bd 4) (σ 4), wB E (bd 5) (σ 5), wB E (bd 6) (σ 6), wB E (bd 7) (σ 7), wB E (bd 8) (σ 8), wB E (bd 9) (σ 9), wM E am μ, wO E ao (vp_updL o 0 ((fX7_donePointsOf μ a).1).toInt64)]) (st1 := [.int 0]) [.ref ax, .int a, .ref ao] [0, 1, 2, 3, 4, 5, 6, 7, 8, 9, 10, 11, 12, 13, 15] (kL_donePointsOf_r l E ax bo β tr τ ac γ ah bd η σ at_ θ ao o hlt hvb a ((fX7_donePointsOf μ a).1) hr) q5_228 q1_0 (by decide +kernel) q5_227 q5_226 rfl ⟨Nat.le_of_ble_eq_true rfl, Nat.le_of_ble_eq_true rfl⟩ ⟨hk, hn⟩ (by decide) rfl rfl rfl rfl (Nat.le_of_ble_eq_true rfl) dL_law_3078 rfl ?_
    refine g_istore C (lv1 := [(5, .int 0), (0, .ref b0), (1, .ref ax), (2, .ref (am 0)), (3, .ref ao), (4, .int (nI i))]) dL_law_3081 (by decide) rfl ?_
    refine g_aload_n C dL_law_3083 rfl 3 rfl ?_
    refine g_aload_n C dL_law_3084 rfl 1 rfl ?_
    refine g_iload C dL_law_3085 5 rfl ?_
    refine g_iconst C (v := 1) dL_law_3087 (by decide) ?_
    refine g_iadd C dL_law_3088 ?_
    refine g_sldv C S (i + 1) (nx_add (rfl : nI i = nI i) (rfl : (1 : Int32) = nI 1)) (by omega) ha9 dL_law_3089 ?_
    refine g_callV C (cs1 := [wX ax (bo 0) (tr 0) (ac 0) (ah 0) (at_ 0), wB E bo β, wB E tr τ, wC E ac γ, wH E ah bd η, wT E at_ θ, wB E (bd 2) (σ 2), wB E (bd 3) (σ 3), wB E (bd 4) (σ 4), wB E (bd 5) (σ 5), wB E (bd 6) (σ 6), wB E (bd 7) (σ 7), wB E (bd 8) (σ 8), wB E (bd 9) (σ 9), wM E am ((fX7_donePointsOf μ a).2), wO E ao (vp_updL o 0 ((fX7_donePointsOf μ a).1).toInt64)]) (st1 := [.int ((fX7_donePointsOf μ a).1)]) [.int a] [14] (kX7_donePointsOf l E am μ hvm a) caX7_donePointsOf q8_23 rfl ⟨Nat.le_of_ble_eq_true rfl, Nat.le_of_ble_eq_true rfl⟩ ⟨hk, hn⟩ 14 0 rfl rfl rfl rfl (by decide) rfl rfl rfl rfl (Nat.le_of_ble_eq_true rfl) dL_law_3090 rfl ?_
    refine g_istore C (lv1 := [(6, .int ((fX7_donePointsOf μ a).1)), (5, .int 0), (0, .ref b0), (1, .ref ax), (2, .ref (am 0)), (3, .ref ao), (4, .int (nI i))]) dL_law_3093 (by decide) rfl ?_
    refine g_aload_n C dL_law_3095 rfl 4 rfl ?_
    refine g_callV C (cs1 := [wX ax (bo 0) (tr 0) (ac 0) (ah 0) (at_ 0), wB E bo β, wB E tr τ, wC E ac γ, wH E ah bd η, wT E at_ θ, wB E (bd 2) (σ 2), wB E (bd 3) (σ 3), wB E (bd 4) (σ 4), wB E (bd 5) (σ 5), wB E (bd 6) (σ 6), wB E (bd 7) (σ 7), wB E (bd 8) (σ 8), wB E (bd 9) (σ 9), wM E am ((fX7_donePointsOf μ a).2), wO E ao (vp_updL o 0 ((fX7_donePointsOf μ a).1).toInt64)]) (st1 := [.int (fX7_thrown ((fX7_donePointsOf μ a).2))]) [] [14] (kX7_thrown l E am ((fX7_donePointsOf μ a).2)) caX7_thrown q6_116 rfl ⟨Nat.le_of_ble_eq_true rfl, Nat.le_of_ble_eq_true rfl⟩ ⟨hk, hn⟩ 14 0 rfl rfl rfl rfl (by decide) rfl rfl rfl rfl (Nat.le_of_ble_eq_true rfl) dL_law_3096 rfl ?_
    refine g_iload C dL_law_3099 1 rfl ?_
    refine g_icmp_eq C 3106 dL_law_3101 (by decide) (fun _ => ?_) (fun c => absurd ht c)
    refine g_iload C dL_law_3106 1 rfl ?_
    refine g_if_ne C 3123 dL_law_3108 (by decide) (fun c => absurd rfl c) (fun _ => ?_)
    refine g_aload_n C dL_law_3111 rfl 5 rfl ?_
    refine g_iconst C (v := 0) dL_law_3112 (by decide) ?_
    refine g_laldn C 15 0 0 rfl rfl rfl (by decide) (by decide) dL_law_3113 ?_
    refine g_iload C dL_law_3114 0 rfl ?_
    refine g_i2l C dL_law_3116 ?_
    refine g_lcmp C dL_law_3117 ?_
    refine g_if_eq C 3123 dL_law_3118 (by decide) (fun _ => ?_) (fun c => absurd law_cmp c)
    refine g_goto C 3840 dL_law_3123 (by decide) ?_
    exact g_sub [2, 3, 4, 5, 6] rfl (next β τ γ η σ θ ((fX7_donePointsOf μ a).2) (vp_updL o 0 ((fX7_donePointsOf μ a).1).toInt64) hR2)
  · skip
    refine g_aload_n C dL_law_3070 rfl 1 rfl ?_
    refine g_aload_n C dL_law_3071 rfl 0 rfl ?_
    refine g_iload C dL_law_3072 4 rfl ?_
    refine g_iconst C (v := 1) dL_law_3074 (by decide) ?_
    refine g_iadd C dL_law_3075 ?_
    refine g_sldv C S (i + 1) (nx_add (rfl : nI i = nI i) (rfl : (1 : Int32) = nI 1)) (by omega) ha9 dL_law_3076 ?_
    refine g_aload_n C dL_law_3077 rfl 3 rfl ?_
    refine g_callSW C hZ hNc (z := 3) (cs1 := [wX ax (bo 0) (tr 0) (ac 0) (ah 0) (at_ 0), wB E bo β, wB E tr τ, wC E ac γ, wH E ah bd η, wT E at_ θ, wB E (bd 2) (σ 2), wB E (bd 3) (σ 3), wB E (bd 4) (σ 4), wB E (bd 5) (σ 5), wB E (bd 6) (σ 6), wB E (bd 7) (σ 7), wB E (bd 8) (σ 8), wB E (bd 9) (σ 9), wM E am μ, wO E ao o]) (st1 := [.int 1]) [.ref ax, .int a, .ref ao] [0, 1, 2, 3, 4, 5, 6, 7, 8, 9, 10, 11, 12, 13, 15] (kL_donePointsOf_0 l E ax bo β tr τ ac γ ah bd η σ at_ θ ao o hlt hvb a hr) q5_228 q1_0 (by decide +kernel) q5_227 q5_226 rfl ⟨Nat.le_of_ble_eq_true rfl, Nat.le_of_ble_eq_true rfl⟩ ⟨hk, hn⟩ (by decide) rfl rfl rfl rfl (Nat.le_of_ble_eq_true rfl) dL_law_3078 rfl ?_
    refine g_istore C (lv1 := [(5, .int 1), (0, .ref b0), (1, .ref ax), (2, .ref (am 0)), (3, .ref ao), (4, .int (nI i))]) dL_law_3081 (by decide) rfl ?_
    refine g_aload_n C dL_law_3083 rfl 3 rfl ?_
    refine g_aload_n C dL_law_3084 rfl 1 rfl ?_
    refine g_iload C dL_law_3085 5 rfl ?_
    refine g_iconst C (v := 1) dL_law_3087 (by decide) ?_
    refine g_iadd C dL_law_3088 ?_
    refine g_sldv C S (i + 1) (nx_add (rfl : nI i = nI i) (rfl : (1 : Int32) = nI 1)) (by omega) ha9 dL_law_3089 ?_
    refine g_callV C (cs1 := [wX ax (bo 0) (tr 0) (ac 0) (ah 0) (at_ 0), wB E bo β, wB E tr τ, wC E ac γ, wH E ah bd η, wT E at_ θ, wB E (bd 2) (σ 2), wB E (bd 3) (σ 3), wB E (bd 4) (σ 4), wB E (bd 5) (σ 5), wB E (bd 6) (σ 6), wB E (bd 7) (σ 7), wB E (bd 8) (σ 8), wB E (bd 9) (σ 9), wM E am ((fX7_donePointsOf μ a).2), wO E ao o]) (st1 := [.int ((fX7_donePointsOf μ a).1)]) [.int a] [14] (kX7_donePointsOf l E am μ hvm a) caX7_donePointsOf q8_23 rfl ⟨Nat.le_of_ble_eq_true rfl, Nat.le_of_ble_eq_true rfl⟩ ⟨hk, hn⟩ 14 0 rfl rfl rfl rfl (by decide) rfl rfl rfl rfl (Nat.le_of_ble_eq_true rfl) dL_law_3090 rfl ?_
    refine g_istore C (lv1 := [(6, .int ((fX7_donePointsOf μ a).1)), (5, .int 1), (0, .ref b0), (1, .ref ax), (2, .ref (am 0)), (3, .ref ao), (4, .int (nI i))]) dL_law_3093 (by decide) rfl ?_
    refine g_aload_n C dL_law_3095 rfl 4 rfl ?_
    refine g_callV C (cs1 := [wX ax (bo 0) (tr 0) (ac 0) (ah 0) (at_ 0), wB E bo β, wB E tr τ, wC E ac γ, wH E ah bd η, wT E at_ θ, wB E (bd 2) (σ 2), wB E (bd 3) (σ 3), wB E (bd 4) (σ 4), wB E (bd 5) (σ 5), wB E (bd 6) (σ 6), wB E (bd 7) (σ 7), wB E (bd 8) (σ 8), wB E (bd 9) (σ 9), wM E am ((fX7_donePointsOf μ a).2), wO E ao o]) (st1 := [.int (fX7_thrown ((fX7_donePointsOf μ a).2))]) [] [14] (kX7_thrown l E am ((fX7_donePointsOf μ a).2)) caX7_thrown q6_116 rfl ⟨Nat.le_of_ble_eq_true rfl, Nat.le_of_ble_eq_true rfl⟩ ⟨hk, hn⟩ 14 0 rfl rfl rfl rfl (by decide) rfl rfl rfl rfl (Nat.le_of_ble_eq_true rfl) dL_law_3096 rfl ?_
    refine g_iload C dL_law_3099 1 rfl ?_
    refine g_icmp_eq C 3106 dL_law_3101 (by decide) (fun _ => ?_) (fun c => absurd ht c)
    refine g_iload C dL_law_3106 1 rfl ?_
    refine g_if_ne C 3123 dL_law_3108 (by decide) (fun _ => ?_) (fun c => absurd c (by decide))
    refine g_goto C 3840 dL_law_3123 (by decide) ?_
    exact g_sub [2, 3, 4, 5, 6] rfl (next β τ γ η σ θ ((fX7_donePointsOf μ a).2) o hR2)
set_option maxHeartbeats 4000000 in
set_option maxRecDepth 100000 in
theorem arm_54 {Rl : RlT} (hRv : RlV Rl) (hs : sH_freestOwner Rl)  {X : gX} {l : Launch} {E : gE} (C : gC X cL_law 9 RL (some .boolean) l E room_1) (hZ : gZ X.2.2.2.2.2.2.2.2.2.2.2.1 X.2.2.2.2.1 X.2.2.2.2.1.heap) (hNc : gNc X.2.2.2.2.1) {b0 L0 : Nat} {xs : Nat → Int32} (S : gS X b0 L0 xs) (hlt : l.stackTraces = false) {ax : Nat} {bo tr ac ah : Nat → Nat} {bd : Nat → Nat → Nat} {at_ am : Nat → Nat} {ao k n i : Nat} (hk : k + 3 ≤ 601024) (hn : n + 18 ≤ 7293034) (hi : i + 3 ≤ L0) {β τ γ η : BS} {σ : Nat → BS} {θ μ : BS} {o : Nat → Int64} (hR : Rl β η θ σ μ) (next : ∀ (β τ γ η : BS) (σ : Nat → BS) (θ μ : BS) (o : Nat → Int64), Rl β η θ σ μ → G X (k + 3) (n + 18) [wX ax (bo 0) (tr 0) (ac 0) (ah 0) (at_ 0), wB E bo β, wB E tr τ, wC E ac γ, wH E ah bd η, wT E at_ θ, wB E (bd 2) (σ 2), wB E (bd 3) (σ 3), wB E (bd 4) (σ 4), wB E (bd 5) (σ 5), wB E (bd 6) (σ 6), wB E (bd 7) (σ 7), wB E (bd 8) (σ 8), wB E (bd 9) (σ 9), wM E am μ, wO E ao o] [(0, .ref b0), (1, .ref ax), (2, .ref (am 0)), (3, .ref ao), (4, .int (nI i))] 3840 []) : G X k n [wX ax (bo 0) (tr 0) (ac 0) (ah 0) (at_ 0), wB E bo β, wB E tr τ, wC E ac γ, wH E ah bd η, wT E at_ θ, wB E (bd 2) (σ 2), wB E (bd 3) (σ 3), wB E (bd 4) (σ 4), wB E (bd 5) (σ 5), wB E (bd 6) (σ 6), wB E (bd 7) (σ 7), wB E (bd 8) (σ 8), wB E (bd 9) (σ 9), wM E am μ, wO E ao o] [(0, .ref b0), (1, .ref ax), (2, .ref (am 0)), (3, .ref ao), (4, .int (nI i))] 3126 [] := by
  obtain ⟨hvb, hvh, hvt, hvm, ha⟩ := hRv β η θ σ μ hR
  obtain ⟨hr, hR2⟩ := hs β τ γ η σ θ μ hR
  refine g_aload_n C dL_law_3126 rfl 1 rfl ?_
  refine g_callV C (cs1 := [wX ax (bo 0) (tr 0) (ac 0) (ah 0) (at_ 0), wB E bo β, wB E tr τ, wC E ac γ, wH E ah bd η, wT E at_ θ, wB E (bd 2) (σ 2), wB E (bd 3) (σ 3), wB E (bd 4) (σ 4), wB E (bd 5) (σ 5), wB E (bd 6) (σ 6), wB E (bd 7) (σ 7), wB E (bd 8) (σ 8), wB E (bd 9) (σ 9), wM E am μ, wO E ao o]) (st1 := [.int (fX6_freestOwner β)]) [] [0, 1, 2, 3, 4, 5, 6, 7, 8, 9, 10, 11, 12, 13] (kX6_freestOwner l E ax bo β tr τ ac γ ah bd η σ at_ θ ) caX6_freestOwner q2_79 rfl ⟨Nat.le_of_ble_eq_true rfl, Nat.le_of_ble_eq_true rfl⟩ ⟨Nat.le_of_succ_le (Nat.le_of_succ_le (Nat.le_of_succ_le hk)), Nat.le_trans (Nat.le_add_right _ _) hn⟩ 0 0 rfl rfl rfl rfl (by decide) rfl rfl rfl rfl (Nat.le_of_ble_eq_true rfl) dL_law_3127 rfl ?_
  refine g_aload_n C dL_law_3130 rfl 2 rfl ?_
  refine g_callV C (cs1 := [wX ax (bo 0) (tr 0) (ac 0) (ah 0) (at_ 0), wB E bo β, wB E tr τ, wC E ac γ, wH E ah bd η, wT E at_ θ, wB E (bd 2) (σ 2), wB E (bd 3) (σ 3), wB E (bd 4) (σ 4), wB E (bd 5) (σ 5), wB E (bd 6) (σ 6), wB E (bd 7) (σ 7), wB E (bd 8) (σ 8), wB E (bd 9) (σ 9), wM E am ((fX7_freestOwner μ).2), wO E ao o]) (st1 := [.int ((fX7_freestOwner μ).1), .int (fX6_freestOwner β)]) [] [14] (kX7_freestOwner l E am μ hvm ) caX7_freestOwner q8_31 rfl ⟨Nat.le_of_ble_eq_true rfl, Nat.le_of_ble_eq_true rfl⟩ ⟨Nat.le_of_succ_le (Nat.le_of_succ_le (Nat.le_of_succ_le hk)), Nat.le_trans (Nat.le_add_right _ _) hn⟩ 14 0 rfl rfl rfl rfl (by decide) rfl rfl rfl rfl (Nat.le_of_ble_eq_true rfl) dL_law_3131 rfl ?_
  refine g_icmp_eq C 3840 dL_law_3134 (by decide) (fun _ => ?_) (fun c => absurd hr c)
  refine g_widen (k1 := k + 3) (n1 := n + 18) (Nat.le_add_right _ _) (Nat.le_add_right _ _) ?_
  exact g_sub [0, 1, 2, 3, 4] rfl (next β τ γ η σ θ ((fX7_freestOwner μ).2) o hR2)
set_option maxHeartbeats 4000000 in
set_option maxRecDepth 100000 in
theorem arm_55 {Rl : RlT} (hRv : RlV Rl) (hs : sH_dateOf Rl)  {X : gX} {l : Launch} {E : gE} (C : gC X cL_law 9 RL (some .boolean) l E room_1) (hZ : gZ X.2.2.2.2.2.2.2.2.2.2.2.1 X.2.2.2.2.1 X.2.2.2.2.1.heap) (hNc : gNc X.2.2.2.2.1) {b0 L0 : Nat} {xs : Nat → Int32} (S : gS X b0 L0 xs) (hlt : l.stackTraces = false) {ax : Nat} {bo tr ac ah : Nat → Nat} {bd : Nat → Nat → Nat} {at_ am : Nat → Nat} {ao k n i : Nat} (hk : k + 3 ≤ 601024) (hn : n + 18 ≤ 7293034) (hi : i + 3 ≤ L0) {β τ γ η : BS} {σ : Nat → BS} {θ μ : BS} {o : Nat → Int64} (hR : Rl β η θ σ μ) (next : ∀ (β τ γ η : BS) (σ : Nat → BS) (θ μ : BS) (o : Nat → Int64), Rl β η θ σ μ → G X (k + 3) (n + 18) [wX ax (bo 0) (tr 0) (ac 0) (ah 0) (at_ 0), wB E bo β, wB E tr τ, wC E ac γ, wH E ah bd η, wT E at_ θ, wB E (bd 2) (σ 2), wB E (bd 3) (σ 3), wB E (bd 4) (σ 4), wB E (bd 5) (σ 5), wB E (bd 6) (σ 6), wB E (bd 7) (σ 7), wB E (bd 8) (σ 8), wB E (bd 9) (σ 9), wM E am μ, wO E ao o] [(0, .ref b0), (1, .ref ax), (2, .ref (am 0)), (3, .ref ao), (4, .int (nI i))] 3840 []) : G X k n [wX ax (bo 0) (tr 0) (ac 0) (ah 0) (at_ 0), wB E bo β, wB E tr τ, wC E ac γ, wH E ah bd η, wT E at_ θ, wB E (bd 2) (σ 2), wB E (bd 3) (σ 3), wB E (bd 4) (σ 4), wB E (bd 5) (σ 5), wB E (bd 6) (σ 6), wB E (bd 7) (σ 7), wB E (bd 8) (σ 8), wB E (bd 9) (σ 9), wM E am μ, wO E ao o] [(0, .ref b0), (1, .ref ax), (2, .ref (am 0)), (3, .ref ao), (4, .int (nI i))] 3139 [] := by
  obtain ⟨hvb, hvh, hvt, hvm, ha⟩ := hRv β η θ σ μ hR
  obtain ⟨a, ha9⟩ : ∃ a, xs (i + 1) = a := ⟨_, rfl⟩
  obtain ⟨hag, hR2⟩ := hs β τ γ η σ θ μ a hR
  rcases hag with ⟨hr, ht⟩ | ⟨hr, ht⟩
  · skip
    refine g_aload_n C dL_law_3139 rfl 1 rfl ?_
    refine g_aload_n C dL_law_3140 rfl 0 rfl ?_
    refine g_iload C dL_law_3141 4 rfl ?_
    refine g_iconst C (v := 1) dL_law_3143 (by decide) ?_
    refine g_iadd C dL_law_3144 ?_
    refine g_sldv C S (i + 1) (nx_add (rfl : nI i = nI i) (rfl : (1 : Int32) = nI 1)) (by omega) ha9 dL_law_3145 ?_
    refine g_aload_n C dL_law_3146 rfl 3 rfl ?_
    refine g_callSW C hZ hNc (z := 3) (cs1 := [wX ax (bo 0) (tr 0) (ac 0) (ah 0) (at_ 0), wB E bo β, wB E tr τ, wC E ac γ, wH E ah bd η, wT E at_ θ, wB E (bd 2) (σ 2), wB E (bd 3) (σ 3), wB E (bd 4) (σ 4), wB E (bd 5) (σ 5), wB E (bd 6) (σ 6), wB E (bd 7) (σ 7), wB E (bd 8) (σ 8), wB E (bd 9) (σ 9), wM E am μ, wO E ao (vp_updL o 0 ((fX7_dateOf μ a).1).toInt64)]) (st1 := [.int 0]) [.ref ax, .int a, .ref ao] [0, 1, 2, 3, 4, 5, 6, 7, 8, 9, 10, 11, 12, 13, 15] (kL_dateOf_r l E ax bo β tr τ ac γ ah bd η σ at_ θ ao o hlt hvb a ((fX7_dateOf μ a).1) hr) q5_235 q1_0 (by decide +kernel) q5_234 q5_233 rfl ⟨Nat.le_of_ble_eq_true rfl, Nat.le_of_ble_eq_true rfl⟩ ⟨hk, hn⟩ (by decide) rfl rfl rfl rfl (Nat.le_of_ble_eq_true rfl) dL_law_3147 rfl ?_
    refine g_istore C (lv1 := [(5, .int 0), (0, .ref b0), (1, .ref ax), (2, .ref (am 0)), (3, .ref ao), (4, .int (nI i))]) dL_law_3150 (by decide) rfl ?_
    refine g_aload_n C dL_law_3152 rfl 3 rfl ?_
    refine g_aload_n C dL_law_3153 rfl 1 rfl ?_
    refine g_iload C dL_law_3154 5 rfl ?_
    refine g_iconst C (v := 1) dL_law_3156 (by decide) ?_
    refine g_iadd C dL_law_3157 ?_
    refine g_sldv C S (i + 1) (nx_add (rfl : nI i = nI i) (rfl : (1 : Int32) = nI 1)) (by omega) ha9 dL_law_3158 ?_
    refine g_callV C (cs1 := [wX ax (bo 0) (tr 0) (ac 0) (ah 0) (at_ 0), wB E bo β, wB E tr τ, wC E ac γ, wH E ah bd η, wT E at_ θ, wB E (bd 2) (σ 2), wB E (bd 3) (σ 3), wB E (bd 4) (σ 4), wB E (bd 5) (σ 5), wB E (bd 6) (σ 6), wB E (bd 7) (σ 7), wB E (bd 8) (σ 8), wB E (bd 9) (σ 9), wM E am ((fX7_dateOf μ a).2), wO E ao (vp_updL o 0 ((fX7_dateOf μ a).1).toInt64)]) (st1 := [.int ((fX7_dateOf μ a).1)]) [.int a] [14] (kX7_dateOf l E am μ hvm a) caX7_dateOf q8_39 rfl ⟨Nat.le_of_ble_eq_true rfl, Nat.le_of_ble_eq_true rfl⟩ ⟨hk, hn⟩ 14 0 rfl rfl rfl rfl (by decide) rfl rfl rfl rfl (Nat.le_of_ble_eq_true rfl) dL_law_3159 rfl ?_
    refine g_istore C (lv1 := [(6, .int ((fX7_dateOf μ a).1)), (5, .int 0), (0, .ref b0), (1, .ref ax), (2, .ref (am 0)), (3, .ref ao), (4, .int (nI i))]) dL_law_3162 (by decide) rfl ?_
    refine g_aload_n C dL_law_3164 rfl 4 rfl ?_
    refine g_callV C (cs1 := [wX ax (bo 0) (tr 0) (ac 0) (ah 0) (at_ 0), wB E bo β, wB E tr τ, wC E ac γ, wH E ah bd η, wT E at_ θ, wB E (bd 2) (σ 2), wB E (bd 3) (σ 3), wB E (bd 4) (σ 4), wB E (bd 5) (σ 5), wB E (bd 6) (σ 6), wB E (bd 7) (σ 7), wB E (bd 8) (σ 8), wB E (bd 9) (σ 9), wM E am ((fX7_dateOf μ a).2), wO E ao (vp_updL o 0 ((fX7_dateOf μ a).1).toInt64)]) (st1 := [.int (fX7_thrown ((fX7_dateOf μ a).2))]) [] [14] (kX7_thrown l E am ((fX7_dateOf μ a).2)) caX7_thrown q6_116 rfl ⟨Nat.le_of_ble_eq_true rfl, Nat.le_of_ble_eq_true rfl⟩ ⟨hk, hn⟩ 14 0 rfl rfl rfl rfl (by decide) rfl rfl rfl rfl (Nat.le_of_ble_eq_true rfl) dL_law_3165 rfl ?_
    refine g_iload C dL_law_3168 1 rfl ?_
    refine g_icmp_eq C 3175 dL_law_3170 (by decide) (fun _ => ?_) (fun c => absurd ht c)
    refine g_iload C dL_law_3175 1 rfl ?_
    refine g_if_ne C 3192 dL_law_3177 (by decide) (fun c => absurd rfl c) (fun _ => ?_)
    refine g_aload_n C dL_law_3180 rfl 5 rfl ?_
    refine g_iconst C (v := 0) dL_law_3181 (by decide) ?_
    refine g_laldn C 15 0 0 rfl rfl rfl (by decide) (by decide) dL_law_3182 ?_
    refine g_iload C dL_law_3183 0 rfl ?_
    refine g_i2l C dL_law_3185 ?_
    refine g_lcmp C dL_law_3186 ?_
    refine g_if_eq C 3192 dL_law_3187 (by decide) (fun _ => ?_) (fun c => absurd law_cmp c)
    refine g_goto C 3840 dL_law_3192 (by decide) ?_
    exact g_sub [2, 3, 4, 5, 6] rfl (next β τ γ η σ θ ((fX7_dateOf μ a).2) (vp_updL o 0 ((fX7_dateOf μ a).1).toInt64) hR2)
  · skip
    refine g_aload_n C dL_law_3139 rfl 1 rfl ?_
    refine g_aload_n C dL_law_3140 rfl 0 rfl ?_
    refine g_iload C dL_law_3141 4 rfl ?_
    refine g_iconst C (v := 1) dL_law_3143 (by decide) ?_
    refine g_iadd C dL_law_3144 ?_
    refine g_sldv C S (i + 1) (nx_add (rfl : nI i = nI i) (rfl : (1 : Int32) = nI 1)) (by omega) ha9 dL_law_3145 ?_
    refine g_aload_n C dL_law_3146 rfl 3 rfl ?_
    refine g_callSW C hZ hNc (z := 3) (cs1 := [wX ax (bo 0) (tr 0) (ac 0) (ah 0) (at_ 0), wB E bo β, wB E tr τ, wC E ac γ, wH E ah bd η, wT E at_ θ, wB E (bd 2) (σ 2), wB E (bd 3) (σ 3), wB E (bd 4) (σ 4), wB E (bd 5) (σ 5), wB E (bd 6) (σ 6), wB E (bd 7) (σ 7), wB E (bd 8) (σ 8), wB E (bd 9) (σ 9), wM E am μ, wO E ao o]) (st1 := [.int 1]) [.ref ax, .int a, .ref ao] [0, 1, 2, 3, 4, 5, 6, 7, 8, 9, 10, 11, 12, 13, 15] (kL_dateOf_0 l E ax bo β tr τ ac γ ah bd η σ at_ θ ao o hlt hvb a hr) q5_235 q1_0 (by decide +kernel) q5_234 q5_233 rfl ⟨Nat.le_of_ble_eq_true rfl, Nat.le_of_ble_eq_true rfl⟩ ⟨hk, hn⟩ (by decide) rfl rfl rfl rfl (Nat.le_of_ble_eq_true rfl) dL_law_3147 rfl ?_
    refine g_istore C (lv1 := [(5, .int 1), (0, .ref b0), (1, .ref ax), (2, .ref (am 0)), (3, .ref ao), (4, .int (nI i))]) dL_law_3150 (by decide) rfl ?_
    refine g_aload_n C dL_law_3152 rfl 3 rfl ?_
    refine g_aload_n C dL_law_3153 rfl 1 rfl ?_
    refine g_iload C dL_law_3154 5 rfl ?_
    refine g_iconst C (v := 1) dL_law_3156 (by decide) ?_
    refine g_iadd C dL_law_3157 ?_
    refine g_sldv C S (i + 1) (nx_add (rfl : nI i = nI i) (rfl : (1 : Int32) = nI 1)) (by omega) ha9 dL_law_3158 ?_
    refine g_callV C (cs1 := [wX ax (bo 0) (tr 0) (ac 0) (ah 0) (at_ 0), wB E bo β, wB E tr τ, wC E ac γ, wH E ah bd η, wT E at_ θ, wB E (bd 2) (σ 2), wB E (bd 3) (σ 3), wB E (bd 4) (σ 4), wB E (bd 5) (σ 5), wB E (bd 6) (σ 6), wB E (bd 7) (σ 7), wB E (bd 8) (σ 8), wB E (bd 9) (σ 9), wM E am ((fX7_dateOf μ a).2), wO E ao o]) (st1 := [.int ((fX7_dateOf μ a).1)]) [.int a] [14] (kX7_dateOf l E am μ hvm a) caX7_dateOf q8_39 rfl ⟨Nat.le_of_ble_eq_true rfl, Nat.le_of_ble_eq_true rfl⟩ ⟨hk, hn⟩ 14 0 rfl rfl rfl rfl (by decide) rfl rfl rfl rfl (Nat.le_of_ble_eq_true rfl) dL_law_3159 rfl ?_
    refine g_istore C (lv1 := [(6, .int ((fX7_dateOf μ a).1)), (5, .int 1), (0, .ref b0), (1, .ref ax), (2, .ref (am 0)), (3, .ref ao), (4, .int (nI i))]) dL_law_3162 (by decide) rfl ?_
    refine g_aload_n C dL_law_3164 rfl 4 rfl ?_
    refine g_callV C (cs1 := [wX ax (bo 0) (tr 0) (ac 0) (ah 0) (at_ 0), wB E bo β, wB E tr τ, wC E ac γ, wH E ah bd η, wT E at_ θ, wB E (bd 2) (σ 2), wB E (bd 3) (σ 3), wB E (bd 4) (σ 4), wB E (bd 5) (σ 5), wB E (bd 6) (σ 6), wB E (bd 7) (σ 7), wB E (bd 8) (σ 8), wB E (bd 9) (σ 9), wM E am ((fX7_dateOf μ a).2), wO E ao o]) (st1 := [.int (fX7_thrown ((fX7_dateOf μ a).2))]) [] [14] (kX7_thrown l E am ((fX7_dateOf μ a).2)) caX7_thrown q6_116 rfl ⟨Nat.le_of_ble_eq_true rfl, Nat.le_of_ble_eq_true rfl⟩ ⟨hk, hn⟩ 14 0 rfl rfl rfl rfl (by decide) rfl rfl rfl rfl (Nat.le_of_ble_eq_true rfl) dL_law_3165 rfl ?_
    refine g_iload C dL_law_3168 1 rfl ?_
    refine g_icmp_eq C 3175 dL_law_3170 (by decide) (fun _ => ?_) (fun c => absurd ht c)
    refine g_iload C dL_law_3175 1 rfl ?_
    refine g_if_ne C 3192 dL_law_3177 (by decide) (fun _ => ?_) (fun c => absurd c (by decide))
    refine g_goto C 3840 dL_law_3192 (by decide) ?_
    exact g_sub [2, 3, 4, 5, 6] rfl (next β τ γ η σ θ ((fX7_dateOf μ a).2) o hR2)
set_option maxHeartbeats 4000000 in
set_option maxRecDepth 100000 in
theorem arm_56 {Rl : RlT} (hRv : RlV Rl) (hs : sH_pointsLeft Rl)  {X : gX} {l : Launch} {E : gE} (C : gC X cL_law 9 RL (some .boolean) l E room_1) (hZ : gZ X.2.2.2.2.2.2.2.2.2.2.2.1 X.2.2.2.2.1 X.2.2.2.2.1.heap) (hNc : gNc X.2.2.2.2.1) {b0 L0 : Nat} {xs : Nat → Int32} (S : gS X b0 L0 xs) (hlt : l.stackTraces = false) {ax : Nat} {bo tr ac ah : Nat → Nat} {bd : Nat → Nat → Nat} {at_ am : Nat → Nat} {ao k n i : Nat} (hk : k + 3 ≤ 601024) (hn : n + 18 ≤ 7293034) (hi : i + 3 ≤ L0) {β τ γ η : BS} {σ : Nat → BS} {θ μ : BS} {o : Nat → Int64} (hR : Rl β η θ σ μ) (next : ∀ (β τ γ η : BS) (σ : Nat → BS) (θ μ : BS) (o : Nat → Int64), Rl β η θ σ μ → G X (k + 3) (n + 18) [wX ax (bo 0) (tr 0) (ac 0) (ah 0) (at_ 0), wB E bo β, wB E tr τ, wC E ac γ, wH E ah bd η, wT E at_ θ, wB E (bd 2) (σ 2), wB E (bd 3) (σ 3), wB E (bd 4) (σ 4), wB E (bd 5) (σ 5), wB E (bd 6) (σ 6), wB E (bd 7) (σ 7), wB E (bd 8) (σ 8), wB E (bd 9) (σ 9), wM E am μ, wO E ao o] [(0, .ref b0), (1, .ref ax), (2, .ref (am 0)), (3, .ref ao), (4, .int (nI i))] 3840 []) : G X k n [wX ax (bo 0) (tr 0) (ac 0) (ah 0) (at_ 0), wB E bo β, wB E tr τ, wC E ac γ, wH E ah bd η, wT E at_ θ, wB E (bd 2) (σ 2), wB E (bd 3) (σ 3), wB E (bd 4) (σ 4), wB E (bd 5) (σ 5), wB E (bd 6) (σ 6), wB E (bd 7) (σ 7), wB E (bd 8) (σ 8), wB E (bd 9) (σ 9), wM E am μ, wO E ao o] [(0, .ref b0), (1, .ref ax), (2, .ref (am 0)), (3, .ref ao), (4, .int (nI i))] 3195 [] := by
  obtain ⟨hvb, hvh, hvt, hvm, ha⟩ := hRv β η θ σ μ hR
  obtain ⟨a, ha9⟩ : ∃ a, xs (i + 1) = a := ⟨_, rfl⟩
  obtain ⟨hag, hR2⟩ := hs β τ γ η σ θ μ a hR
  rcases hag with ⟨hr, ht⟩ | ⟨hr, ht⟩
  · skip
    refine g_aload_n C dL_law_3195 rfl 1 rfl ?_
    refine g_aload_n C dL_law_3196 rfl 0 rfl ?_
    refine g_iload C dL_law_3197 4 rfl ?_
    refine g_iconst C (v := 1) dL_law_3199 (by decide) ?_
    refine g_iadd C dL_law_3200 ?_
    refine g_sldv C S (i + 1) (nx_add (rfl : nI i = nI i) (rfl : (1 : Int32) = nI 1)) (by omega) ha9 dL_law_3201 ?_
    refine g_aload_n C dL_law_3202 rfl 3 rfl ?_
    refine g_callSW C hZ hNc (z := 3) (cs1 := [wX ax (bo 0) (tr 0) (ac 0) (ah 0) (at_ 0), wB E bo β, wB E tr τ, wC E ac γ, wH E ah bd η, wT E at_ θ, wB E (bd 2) (σ 2), wB E (bd 3) (σ 3), wB E (bd 4) (σ 4), wB E (bd 5) (σ 5), wB E (bd 6) (σ 6), wB E (bd 7) (σ 7), wB E (bd 8) (σ 8), wB E (bd 9) (σ 9), wM E am μ, wO E ao (vp_updL o 0 ((fX7_pointsLeft μ a).1).toInt64)]) (st1 := [.int 0]) [.ref ax, .int a, .ref ao] [0, 1, 2, 3, 4, 5, 6, 7, 8, 9, 10, 11, 12, 13, 15] (kL_pointsLeft_r l E ax bo β tr τ ac γ ah bd η σ at_ θ ao o hlt hvb a ((fX7_pointsLeft μ a).1) hr) q6_2 q1_0 (by decide +kernel) q6_1 q6_0 rfl ⟨Nat.le_of_ble_eq_true rfl, Nat.le_of_ble_eq_true rfl⟩ ⟨hk, hn⟩ (by decide) rfl rfl rfl rfl (Nat.le_of_ble_eq_true rfl) dL_law_3203 rfl ?_
    refine g_istore C (lv1 := [(5, .int 0), (0, .ref b0), (1, .ref ax), (2, .ref (am 0)), (3, .ref ao), (4, .int (nI i))]) dL_law_3206 (by decide) rfl ?_
    refine g_aload_n C dL_law_3208 rfl 3 rfl ?_
    refine g_aload_n C dL_law_3209 rfl 1 rfl ?_
    refine g_iload C dL_law_3210 5 rfl ?_
    refine g_iconst C (v := 1) dL_law_3212 (by decide) ?_
    refine g_iadd C dL_law_3213 ?_
    refine g_sldv C S (i + 1) (nx_add (rfl : nI i = nI i) (rfl : (1 : Int32) = nI 1)) (by omega) ha9 dL_law_3214 ?_
    refine g_callV C (cs1 := [wX ax (bo 0) (tr 0) (ac 0) (ah 0) (at_ 0), wB E bo β, wB E tr τ, wC E ac γ, wH E ah bd η, wT E at_ θ, wB E (bd 2) (σ 2), wB E (bd 3) (σ 3), wB E (bd 4) (σ 4), wB E (bd 5) (σ 5), wB E (bd 6) (σ 6), wB E (bd 7) (σ 7), wB E (bd 8) (σ 8), wB E (bd 9) (σ 9), wM E am ((fX7_pointsLeft μ a).2), wO E ao (vp_updL o 0 ((fX7_pointsLeft μ a).1).toInt64)]) (st1 := [.int ((fX7_pointsLeft μ a).1)]) [.int a] [14] (kX7_pointsLeft l E am μ hvm a) caX7_pointsLeft q8_43 rfl ⟨Nat.le_of_ble_eq_true rfl, Nat.le_of_ble_eq_true rfl⟩ ⟨hk, hn⟩ 14 0 rfl rfl rfl rfl (by decide) rfl rfl rfl rfl (Nat.le_of_ble_eq_true rfl) dL_law_3215 rfl ?_
    refine g_istore C (lv1 := [(6, .int ((fX7_pointsLeft μ a).1)), (5, .int 0), (0, .ref b0), (1, .ref ax), (2, .ref (am 0)), (3, .ref ao), (4, .int (nI i))]) dL_law_3218 (by decide) rfl ?_
    refine g_aload_n C dL_law_3220 rfl 4 rfl ?_
    refine g_callV C (cs1 := [wX ax (bo 0) (tr 0) (ac 0) (ah 0) (at_ 0), wB E bo β, wB E tr τ, wC E ac γ, wH E ah bd η, wT E at_ θ, wB E (bd 2) (σ 2), wB E (bd 3) (σ 3), wB E (bd 4) (σ 4), wB E (bd 5) (σ 5), wB E (bd 6) (σ 6), wB E (bd 7) (σ 7), wB E (bd 8) (σ 8), wB E (bd 9) (σ 9), wM E am ((fX7_pointsLeft μ a).2), wO E ao (vp_updL o 0 ((fX7_pointsLeft μ a).1).toInt64)]) (st1 := [.int (fX7_thrown ((fX7_pointsLeft μ a).2))]) [] [14] (kX7_thrown l E am ((fX7_pointsLeft μ a).2)) caX7_thrown q6_116 rfl ⟨Nat.le_of_ble_eq_true rfl, Nat.le_of_ble_eq_true rfl⟩ ⟨hk, hn⟩ 14 0 rfl rfl rfl rfl (by decide) rfl rfl rfl rfl (Nat.le_of_ble_eq_true rfl) dL_law_3221 rfl ?_
    refine g_iload C dL_law_3224 1 rfl ?_
    refine g_icmp_eq C 3231 dL_law_3226 (by decide) (fun _ => ?_) (fun c => absurd ht c)
    refine g_iload C dL_law_3231 1 rfl ?_
    refine g_if_ne C 3248 dL_law_3233 (by decide) (fun c => absurd rfl c) (fun _ => ?_)
    refine g_aload_n C dL_law_3236 rfl 5 rfl ?_
    refine g_iconst C (v := 0) dL_law_3237 (by decide) ?_
    refine g_laldn C 15 0 0 rfl rfl rfl (by decide) (by decide) dL_law_3238 ?_
    refine g_iload C dL_law_3239 0 rfl ?_
    refine g_i2l C dL_law_3241 ?_
    refine g_lcmp C dL_law_3242 ?_
    refine g_if_eq C 3248 dL_law_3243 (by decide) (fun _ => ?_) (fun c => absurd law_cmp c)
    refine g_goto C 3840 dL_law_3248 (by decide) ?_
    exact g_sub [2, 3, 4, 5, 6] rfl (next β τ γ η σ θ ((fX7_pointsLeft μ a).2) (vp_updL o 0 ((fX7_pointsLeft μ a).1).toInt64) hR2)
  · skip
    refine g_aload_n C dL_law_3195 rfl 1 rfl ?_
    refine g_aload_n C dL_law_3196 rfl 0 rfl ?_
    refine g_iload C dL_law_3197 4 rfl ?_
    refine g_iconst C (v := 1) dL_law_3199 (by decide) ?_
    refine g_iadd C dL_law_3200 ?_
    refine g_sldv C S (i + 1) (nx_add (rfl : nI i = nI i) (rfl : (1 : Int32) = nI 1)) (by omega) ha9 dL_law_3201 ?_
    refine g_aload_n C dL_law_3202 rfl 3 rfl ?_
    refine g_callSW C hZ hNc (z := 3) (cs1 := [wX ax (bo 0) (tr 0) (ac 0) (ah 0) (at_ 0), wB E bo β, wB E tr τ, wC E ac γ, wH E ah bd η, wT E at_ θ, wB E (bd 2) (σ 2), wB E (bd 3) (σ 3), wB E (bd 4) (σ 4), wB E (bd 5) (σ 5), wB E (bd 6) (σ 6), wB E (bd 7) (σ 7), wB E (bd 8) (σ 8), wB E (bd 9) (σ 9), wM E am μ, wO E ao o]) (st1 := [.int 1]) [.ref ax, .int a, .ref ao] [0, 1, 2, 3, 4, 5, 6, 7, 8, 9, 10, 11, 12, 13, 15] (kL_pointsLeft_0 l E ax bo β tr τ ac γ ah bd η σ at_ θ ao o hlt hvb a hr) q6_2 q1_0 (by decide +kernel) q6_1 q6_0 rfl ⟨Nat.le_of_ble_eq_true rfl, Nat.le_of_ble_eq_true rfl⟩ ⟨hk, hn⟩ (by decide) rfl rfl rfl rfl (Nat.le_of_ble_eq_true rfl) dL_law_3203 rfl ?_
    refine g_istore C (lv1 := [(5, .int 1), (0, .ref b0), (1, .ref ax), (2, .ref (am 0)), (3, .ref ao), (4, .int (nI i))]) dL_law_3206 (by decide) rfl ?_
    refine g_aload_n C dL_law_3208 rfl 3 rfl ?_
    refine g_aload_n C dL_law_3209 rfl 1 rfl ?_
    refine g_iload C dL_law_3210 5 rfl ?_
    refine g_iconst C (v := 1) dL_law_3212 (by decide) ?_
    refine g_iadd C dL_law_3213 ?_
    refine g_sldv C S (i + 1) (nx_add (rfl : nI i = nI i) (rfl : (1 : Int32) = nI 1)) (by omega) ha9 dL_law_3214 ?_
    refine g_callV C (cs1 := [wX ax (bo 0) (tr 0) (ac 0) (ah 0) (at_ 0), wB E bo β, wB E tr τ, wC E ac γ, wH E ah bd η, wT E at_ θ, wB E (bd 2) (σ 2), wB E (bd 3) (σ 3), wB E (bd 4) (σ 4), wB E (bd 5) (σ 5), wB E (bd 6) (σ 6), wB E (bd 7) (σ 7), wB E (bd 8) (σ 8), wB E (bd 9) (σ 9), wM E am ((fX7_pointsLeft μ a).2), wO E ao o]) (st1 := [.int ((fX7_pointsLeft μ a).1)]) [.int a] [14] (kX7_pointsLeft l E am μ hvm a) caX7_pointsLeft q8_43 rfl ⟨Nat.le_of_ble_eq_true rfl, Nat.le_of_ble_eq_true rfl⟩ ⟨hk, hn⟩ 14 0 rfl rfl rfl rfl (by decide) rfl rfl rfl rfl (Nat.le_of_ble_eq_true rfl) dL_law_3215 rfl ?_
    refine g_istore C (lv1 := [(6, .int ((fX7_pointsLeft μ a).1)), (5, .int 1), (0, .ref b0), (1, .ref ax), (2, .ref (am 0)), (3, .ref ao), (4, .int (nI i))]) dL_law_3218 (by decide) rfl ?_
    refine g_aload_n C dL_law_3220 rfl 4 rfl ?_
    refine g_callV C (cs1 := [wX ax (bo 0) (tr 0) (ac 0) (ah 0) (at_ 0), wB E bo β, wB E tr τ, wC E ac γ, wH E ah bd η, wT E at_ θ, wB E (bd 2) (σ 2), wB E (bd 3) (σ 3), wB E (bd 4) (σ 4), wB E (bd 5) (σ 5), wB E (bd 6) (σ 6), wB E (bd 7) (σ 7), wB E (bd 8) (σ 8), wB E (bd 9) (σ 9), wM E am ((fX7_pointsLeft μ a).2), wO E ao o]) (st1 := [.int (fX7_thrown ((fX7_pointsLeft μ a).2))]) [] [14] (kX7_thrown l E am ((fX7_pointsLeft μ a).2)) caX7_thrown q6_116 rfl ⟨Nat.le_of_ble_eq_true rfl, Nat.le_of_ble_eq_true rfl⟩ ⟨hk, hn⟩ 14 0 rfl rfl rfl rfl (by decide) rfl rfl rfl rfl (Nat.le_of_ble_eq_true rfl) dL_law_3221 rfl ?_
    refine g_iload C dL_law_3224 1 rfl ?_
    refine g_icmp_eq C 3231 dL_law_3226 (by decide) (fun _ => ?_) (fun c => absurd ht c)
    refine g_iload C dL_law_3231 1 rfl ?_
    refine g_if_ne C 3248 dL_law_3233 (by decide) (fun _ => ?_) (fun c => absurd c (by decide))
    refine g_goto C 3840 dL_law_3248 (by decide) ?_
    exact g_sub [2, 3, 4, 5, 6] rfl (next β τ γ η σ θ ((fX7_pointsLeft μ a).2) o hR2)
set_option maxHeartbeats 4000000 in
set_option maxRecDepth 100000 in
theorem arm_57 {Rl : RlT} (hRv : RlV Rl) (hs : sH_pointsDone Rl)  {X : gX} {l : Launch} {E : gE} (C : gC X cL_law 9 RL (some .boolean) l E room_1) (hZ : gZ X.2.2.2.2.2.2.2.2.2.2.2.1 X.2.2.2.2.1 X.2.2.2.2.1.heap) (hNc : gNc X.2.2.2.2.1) {b0 L0 : Nat} {xs : Nat → Int32} (S : gS X b0 L0 xs) (hlt : l.stackTraces = false) {ax : Nat} {bo tr ac ah : Nat → Nat} {bd : Nat → Nat → Nat} {at_ am : Nat → Nat} {ao k n i : Nat} (hk : k + 3 ≤ 601024) (hn : n + 18 ≤ 7293034) (hi : i + 3 ≤ L0) {β τ γ η : BS} {σ : Nat → BS} {θ μ : BS} {o : Nat → Int64} (hR : Rl β η θ σ μ) (next : ∀ (β τ γ η : BS) (σ : Nat → BS) (θ μ : BS) (o : Nat → Int64), Rl β η θ σ μ → G X (k + 3) (n + 18) [wX ax (bo 0) (tr 0) (ac 0) (ah 0) (at_ 0), wB E bo β, wB E tr τ, wC E ac γ, wH E ah bd η, wT E at_ θ, wB E (bd 2) (σ 2), wB E (bd 3) (σ 3), wB E (bd 4) (σ 4), wB E (bd 5) (σ 5), wB E (bd 6) (σ 6), wB E (bd 7) (σ 7), wB E (bd 8) (σ 8), wB E (bd 9) (σ 9), wM E am μ, wO E ao o] [(0, .ref b0), (1, .ref ax), (2, .ref (am 0)), (3, .ref ao), (4, .int (nI i))] 3840 []) : G X k n [wX ax (bo 0) (tr 0) (ac 0) (ah 0) (at_ 0), wB E bo β, wB E tr τ, wC E ac γ, wH E ah bd η, wT E at_ θ, wB E (bd 2) (σ 2), wB E (bd 3) (σ 3), wB E (bd 4) (σ 4), wB E (bd 5) (σ 5), wB E (bd 6) (σ 6), wB E (bd 7) (σ 7), wB E (bd 8) (σ 8), wB E (bd 9) (σ 9), wM E am μ, wO E ao o] [(0, .ref b0), (1, .ref ax), (2, .ref (am 0)), (3, .ref ao), (4, .int (nI i))] 3251 [] := by
  obtain ⟨hvb, hvh, hvt, hvm, ha⟩ := hRv β η θ σ μ hR
  obtain ⟨a, ha9⟩ : ∃ a, xs (i + 1) = a := ⟨_, rfl⟩
  obtain ⟨hag, hR2⟩ := hs β τ γ η σ θ μ a hR
  rcases hag with ⟨hr, ht⟩ | ⟨hr, ht⟩
  · skip
    refine g_aload_n C dL_law_3251 rfl 1 rfl ?_
    refine g_aload_n C dL_law_3252 rfl 0 rfl ?_
    refine g_iload C dL_law_3253 4 rfl ?_
    refine g_iconst C (v := 1) dL_law_3255 (by decide) ?_
    refine g_iadd C dL_law_3256 ?_
    refine g_sldv C S (i + 1) (nx_add (rfl : nI i = nI i) (rfl : (1 : Int32) = nI 1)) (by omega) ha9 dL_law_3257 ?_
    refine g_aload_n C dL_law_3258 rfl 3 rfl ?_
    refine g_callSW C hZ hNc (z := 3) (cs1 := [wX ax (bo 0) (tr 0) (ac 0) (ah 0) (at_ 0), wB E bo β, wB E tr τ, wC E ac γ, wH E ah bd η, wT E at_ θ, wB E (bd 2) (σ 2), wB E (bd 3) (σ 3), wB E (bd 4) (σ 4), wB E (bd 5) (σ 5), wB E (bd 6) (σ 6), wB E (bd 7) (σ 7), wB E (bd 8) (σ 8), wB E (bd 9) (σ 9), wM E am μ, wO E ao (vp_updL o 0 ((fX7_pointsDone μ a).1).toInt64)]) (st1 := [.int 0]) [.ref ax, .int a, .ref ao] [0, 1, 2, 3, 4, 5, 6, 7, 8, 9, 10, 11, 12, 13, 15] (kL_pointsDone_r l E ax bo β tr τ ac γ ah bd η σ at_ θ ao o hlt hvb a ((fX7_pointsDone μ a).1) hr) q6_9 q1_0 (by decide +kernel) q6_8 q6_7 rfl ⟨Nat.le_of_ble_eq_true rfl, Nat.le_of_ble_eq_true rfl⟩ ⟨hk, hn⟩ (by decide) rfl rfl rfl rfl (Nat.le_of_ble_eq_true rfl) dL_law_3259 rfl ?_
    refine g_istore C (lv1 := [(5, .int 0), (0, .ref b0), (1, .ref ax), (2, .ref (am 0)), (3, .ref ao), (4, .int (nI i))]) dL_law_3262 (by decide) rfl ?_
    refine g_aload_n C dL_law_3264 rfl 3 rfl ?_
    refine g_aload_n C dL_law_3265 rfl 1 rfl ?_
    refine g_iload C dL_law_3266 5 rfl ?_
    refine g_iconst C (v := 1) dL_law_3268 (by decide) ?_
    refine g_iadd C dL_law_3269 ?_
    refine g_sldv C S (i + 1) (nx_add (rfl : nI i = nI i) (rfl : (1 : Int32) = nI 1)) (by omega) ha9 dL_law_3270 ?_
    refine g_callV C (cs1 := [wX ax (bo 0) (tr 0) (ac 0) (ah 0) (at_ 0), wB E bo β, wB E tr τ, wC E ac γ, wH E ah bd η, wT E at_ θ, wB E (bd 2) (σ 2), wB E (bd 3) (σ 3), wB E (bd 4) (σ 4), wB E (bd 5) (σ 5), wB E (bd 6) (σ 6), wB E (bd 7) (σ 7), wB E (bd 8) (σ 8), wB E (bd 9) (σ 9), wM E am ((fX7_pointsDone μ a).2), wO E ao (vp_updL o 0 ((fX7_pointsDone μ a).1).toInt64)]) (st1 := [.int ((fX7_pointsDone μ a).1)]) [.int a] [14] (kX7_pointsDone l E am μ hvm a) caX7_pointsDone q8_47 rfl ⟨Nat.le_of_ble_eq_true rfl, Nat.le_of_ble_eq_true rfl⟩ ⟨hk, hn⟩ 14 0 rfl rfl rfl rfl (by decide) rfl rfl rfl rfl (Nat.le_of_ble_eq_true rfl) dL_law_3271 rfl ?_
    refine g_istore C (lv1 := [(6, .int ((fX7_pointsDone μ a).1)), (5, .int 0), (0, .ref b0), (1, .ref ax), (2, .ref (am 0)), (3, .ref ao), (4, .int (nI i))]) dL_law_3274 (by decide) rfl ?_
    refine g_aload_n C dL_law_3276 rfl 4 rfl ?_
    refine g_callV C (cs1 := [wX ax (bo 0) (tr 0) (ac 0) (ah 0) (at_ 0), wB E bo β, wB E tr τ, wC E ac γ, wH E ah bd η, wT E at_ θ, wB E (bd 2) (σ 2), wB E (bd 3) (σ 3), wB E (bd 4) (σ 4), wB E (bd 5) (σ 5), wB E (bd 6) (σ 6), wB E (bd 7) (σ 7), wB E (bd 8) (σ 8), wB E (bd 9) (σ 9), wM E am ((fX7_pointsDone μ a).2), wO E ao (vp_updL o 0 ((fX7_pointsDone μ a).1).toInt64)]) (st1 := [.int (fX7_thrown ((fX7_pointsDone μ a).2))]) [] [14] (kX7_thrown l E am ((fX7_pointsDone μ a).2)) caX7_thrown q6_116 rfl ⟨Nat.le_of_ble_eq_true rfl, Nat.le_of_ble_eq_true rfl⟩ ⟨hk, hn⟩ 14 0 rfl rfl rfl rfl (by decide) rfl rfl rfl rfl (Nat.le_of_ble_eq_true rfl) dL_law_3277 rfl ?_
    refine g_iload C dL_law_3280 1 rfl ?_
    refine g_icmp_eq C 3287 dL_law_3282 (by decide) (fun _ => ?_) (fun c => absurd ht c)
    refine g_iload C dL_law_3287 1 rfl ?_
    refine g_if_ne C 3304 dL_law_3289 (by decide) (fun c => absurd rfl c) (fun _ => ?_)
    refine g_aload_n C dL_law_3292 rfl 5 rfl ?_
    refine g_iconst C (v := 0) dL_law_3293 (by decide) ?_
    refine g_laldn C 15 0 0 rfl rfl rfl (by decide) (by decide) dL_law_3294 ?_
    refine g_iload C dL_law_3295 0 rfl ?_
    refine g_i2l C dL_law_3297 ?_
    refine g_lcmp C dL_law_3298 ?_
    refine g_if_eq C 3304 dL_law_3299 (by decide) (fun _ => ?_) (fun c => absurd law_cmp c)
    refine g_goto C 3840 dL_law_3304 (by decide) ?_
    exact g_sub [2, 3, 4, 5, 6] rfl (next β τ γ η σ θ ((fX7_pointsDone μ a).2) (vp_updL o 0 ((fX7_pointsDone μ a).1).toInt64) hR2)
  · skip
    refine g_aload_n C dL_law_3251 rfl 1 rfl ?_
    refine g_aload_n C dL_law_3252 rfl 0 rfl ?_
    refine g_iload C dL_law_3253 4 rfl ?_
    refine g_iconst C (v := 1) dL_law_3255 (by decide) ?_
    refine g_iadd C dL_law_3256 ?_
    refine g_sldv C S (i + 1) (nx_add (rfl : nI i = nI i) (rfl : (1 : Int32) = nI 1)) (by omega) ha9 dL_law_3257 ?_
    refine g_aload_n C dL_law_3258 rfl 3 rfl ?_
    refine g_callSW C hZ hNc (z := 3) (cs1 := [wX ax (bo 0) (tr 0) (ac 0) (ah 0) (at_ 0), wB E bo β, wB E tr τ, wC E ac γ, wH E ah bd η, wT E at_ θ, wB E (bd 2) (σ 2), wB E (bd 3) (σ 3), wB E (bd 4) (σ 4), wB E (bd 5) (σ 5), wB E (bd 6) (σ 6), wB E (bd 7) (σ 7), wB E (bd 8) (σ 8), wB E (bd 9) (σ 9), wM E am μ, wO E ao o]) (st1 := [.int 1]) [.ref ax, .int a, .ref ao] [0, 1, 2, 3, 4, 5, 6, 7, 8, 9, 10, 11, 12, 13, 15] (kL_pointsDone_0 l E ax bo β tr τ ac γ ah bd η σ at_ θ ao o hlt hvb a hr) q6_9 q1_0 (by decide +kernel) q6_8 q6_7 rfl ⟨Nat.le_of_ble_eq_true rfl, Nat.le_of_ble_eq_true rfl⟩ ⟨hk, hn⟩ (by decide) rfl rfl rfl rfl (Nat.le_of_ble_eq_true rfl) dL_law_3259 rfl ?_
    refine g_istore C (lv1 := [(5, .int 1), (0, .ref b0), (1, .ref ax), (2, .ref (am 0)), (3, .ref ao), (4, .int (nI i))]) dL_law_3262 (by decide) rfl ?_
    refine g_aload_n C dL_law_3264 rfl 3 rfl ?_
    refine g_aload_n C dL_law_3265 rfl 1 rfl ?_
    refine g_iload C dL_law_3266 5 rfl ?_
    refine g_iconst C (v := 1) dL_law_3268 (by decide) ?_
    refine g_iadd C dL_law_3269 ?_
    refine g_sldv C S (i + 1) (nx_add (rfl : nI i = nI i) (rfl : (1 : Int32) = nI 1)) (by omega) ha9 dL_law_3270 ?_
    refine g_callV C (cs1 := [wX ax (bo 0) (tr 0) (ac 0) (ah 0) (at_ 0), wB E bo β, wB E tr τ, wC E ac γ, wH E ah bd η, wT E at_ θ, wB E (bd 2) (σ 2), wB E (bd 3) (σ 3), wB E (bd 4) (σ 4), wB E (bd 5) (σ 5), wB E (bd 6) (σ 6), wB E (bd 7) (σ 7), wB E (bd 8) (σ 8), wB E (bd 9) (σ 9), wM E am ((fX7_pointsDone μ a).2), wO E ao o]) (st1 := [.int ((fX7_pointsDone μ a).1)]) [.int a] [14] (kX7_pointsDone l E am μ hvm a) caX7_pointsDone q8_47 rfl ⟨Nat.le_of_ble_eq_true rfl, Nat.le_of_ble_eq_true rfl⟩ ⟨hk, hn⟩ 14 0 rfl rfl rfl rfl (by decide) rfl rfl rfl rfl (Nat.le_of_ble_eq_true rfl) dL_law_3271 rfl ?_
    refine g_istore C (lv1 := [(6, .int ((fX7_pointsDone μ a).1)), (5, .int 1), (0, .ref b0), (1, .ref ax), (2, .ref (am 0)), (3, .ref ao), (4, .int (nI i))]) dL_law_3274 (by decide) rfl ?_
    refine g_aload_n C dL_law_3276 rfl 4 rfl ?_
    refine g_callV C (cs1 := [wX ax (bo 0) (tr 0) (ac 0) (ah 0) (at_ 0), wB E bo β, wB E tr τ, wC E ac γ, wH E ah bd η, wT E at_ θ, wB E (bd 2) (σ 2), wB E (bd 3) (σ 3), wB E (bd 4) (σ 4), wB E (bd 5) (σ 5), wB E (bd 6) (σ 6), wB E (bd 7) (σ 7), wB E (bd 8) (σ 8), wB E (bd 9) (σ 9), wM E am ((fX7_pointsDone μ a).2), wO E ao o]) (st1 := [.int (fX7_thrown ((fX7_pointsDone μ a).2))]) [] [14] (kX7_thrown l E am ((fX7_pointsDone μ a).2)) caX7_thrown q6_116 rfl ⟨Nat.le_of_ble_eq_true rfl, Nat.le_of_ble_eq_true rfl⟩ ⟨hk, hn⟩ 14 0 rfl rfl rfl rfl (by decide) rfl rfl rfl rfl (Nat.le_of_ble_eq_true rfl) dL_law_3277 rfl ?_
    refine g_iload C dL_law_3280 1 rfl ?_
    refine g_icmp_eq C 3287 dL_law_3282 (by decide) (fun _ => ?_) (fun c => absurd ht c)
    refine g_iload C dL_law_3287 1 rfl ?_
    refine g_if_ne C 3304 dL_law_3289 (by decide) (fun _ => ?_) (fun c => absurd c (by decide))
    refine g_goto C 3840 dL_law_3304 (by decide) ?_
    exact g_sub [2, 3, 4, 5, 6] rfl (next β τ γ η σ θ ((fX7_pointsDone μ a).2) o hR2)
set_option maxHeartbeats 4000000 in
set_option maxRecDepth 100000 in
theorem arm_58 {Rl : RlT} (hRv : RlV Rl) (hs : sH_hundredthsDone Rl)  {X : gX} {l : Launch} {E : gE} (C : gC X cL_law 9 RL (some .boolean) l E room_1) (hZ : gZ X.2.2.2.2.2.2.2.2.2.2.2.1 X.2.2.2.2.1 X.2.2.2.2.1.heap) (hNc : gNc X.2.2.2.2.1) {b0 L0 : Nat} {xs : Nat → Int32} (S : gS X b0 L0 xs) (hlt : l.stackTraces = false) {ax : Nat} {bo tr ac ah : Nat → Nat} {bd : Nat → Nat → Nat} {at_ am : Nat → Nat} {ao k n i : Nat} (hk : k + 3 ≤ 601024) (hn : n + 18 ≤ 7293034) (hi : i + 3 ≤ L0) {β τ γ η : BS} {σ : Nat → BS} {θ μ : BS} {o : Nat → Int64} (hR : Rl β η θ σ μ) (next : ∀ (β τ γ η : BS) (σ : Nat → BS) (θ μ : BS) (o : Nat → Int64), Rl β η θ σ μ → G X (k + 3) (n + 18) [wX ax (bo 0) (tr 0) (ac 0) (ah 0) (at_ 0), wB E bo β, wB E tr τ, wC E ac γ, wH E ah bd η, wT E at_ θ, wB E (bd 2) (σ 2), wB E (bd 3) (σ 3), wB E (bd 4) (σ 4), wB E (bd 5) (σ 5), wB E (bd 6) (σ 6), wB E (bd 7) (σ 7), wB E (bd 8) (σ 8), wB E (bd 9) (σ 9), wM E am μ, wO E ao o] [(0, .ref b0), (1, .ref ax), (2, .ref (am 0)), (3, .ref ao), (4, .int (nI i))] 3840 []) : G X k n [wX ax (bo 0) (tr 0) (ac 0) (ah 0) (at_ 0), wB E bo β, wB E tr τ, wC E ac γ, wH E ah bd η, wT E at_ θ, wB E (bd 2) (σ 2), wB E (bd 3) (σ 3), wB E (bd 4) (σ 4), wB E (bd 5) (σ 5), wB E (bd 6) (σ 6), wB E (bd 7) (σ 7), wB E (bd 8) (σ 8), wB E (bd 9) (σ 9), wM E am μ, wO E ao o] [(0, .ref b0), (1, .ref ax), (2, .ref (am 0)), (3, .ref ao), (4, .int (nI i))] 3307 [] := by
  obtain ⟨hvb, hvh, hvt, hvm, ha⟩ := hRv β η θ σ μ hR
  obtain ⟨a, ha9⟩ : ∃ a, xs (i + 1) = a := ⟨_, rfl⟩
  obtain ⟨hag, hR2⟩ := hs β τ γ η σ θ μ a hR
  rcases hag with ⟨hr, ht⟩ | ⟨hr, ht⟩
  · skip
    refine g_aload_n C dL_law_3307 rfl 1 rfl ?_
    refine g_aload_n C dL_law_3308 rfl 0 rfl ?_
    refine g_iload C dL_law_3309 4 rfl ?_
    refine g_iconst C (v := 1) dL_law_3311 (by decide) ?_
    refine g_iadd C dL_law_3312 ?_
    refine g_sldv C S (i + 1) (nx_add (rfl : nI i = nI i) (rfl : (1 : Int32) = nI 1)) (by omega) ha9 dL_law_3313 ?_
    refine g_aload_n C dL_law_3314 rfl 3 rfl ?_
    refine g_callSW C hZ hNc (z := 3) (cs1 := [wX ax (bo 0) (tr 0) (ac 0) (ah 0) (at_ 0), wB E bo β, wB E tr τ, wC E ac γ, wH E ah bd η, wT E at_ θ, wB E (bd 2) (σ 2), wB E (bd 3) (σ 3), wB E (bd 4) (σ 4), wB E (bd 5) (σ 5), wB E (bd 6) (σ 6), wB E (bd 7) (σ 7), wB E (bd 8) (σ 8), wB E (bd 9) (σ 9), wM E am μ, wO E ao (vp_updL o 0 ((fX7_hundredthsDone μ a).1).toInt64)]) (st1 := [.int 0]) [.ref ax, .int a, .ref ao] [0, 1, 2, 3, 4, 5, 6, 7, 8, 9, 10, 11, 12, 13, 15] (kL_hundredthsDone_r l E ax bo β tr τ ac γ ah bd η σ at_ θ ao o hlt hvb a ((fX7_hundredthsDone μ a).1) hr) q6_16 q1_0 (by decide +kernel) q6_15 q6_14 rfl ⟨Nat.le_of_ble_eq_true rfl, Nat.le_of_ble_eq_true rfl⟩ ⟨hk, hn⟩ (by decide) rfl rfl rfl rfl (Nat.le_of_ble_eq_true rfl) dL_law_3315 rfl ?_
    refine g_istore C (lv1 := [(5, .int 0), (0, .ref b0), (1, .ref ax), (2, .ref (am 0)), (3, .ref ao), (4, .int (nI i))]) dL_law_3318 (by decide) rfl ?_
    refine g_aload_n C dL_law_3320 rfl 3 rfl ?_
    refine g_aload_n C dL_law_3321 rfl 1 rfl ?_
    refine g_iload C dL_law_3322 5 rfl ?_
    refine g_iconst C (v := 1) dL_law_3324 (by decide) ?_
    refine g_iadd C dL_law_3325 ?_
    refine g_sldv C S (i + 1) (nx_add (rfl : nI i = nI i) (rfl : (1 : Int32) = nI 1)) (by omega) ha9 dL_law_3326 ?_
    refine g_callV C (cs1 := [wX ax (bo 0) (tr 0) (ac 0) (ah 0) (at_ 0), wB E bo β, wB E tr τ, wC E ac γ, wH E ah bd η, wT E at_ θ, wB E (bd 2) (σ 2), wB E (bd 3) (σ 3), wB E (bd 4) (σ 4), wB E (bd 5) (σ 5), wB E (bd 6) (σ 6), wB E (bd 7) (σ 7), wB E (bd 8) (σ 8), wB E (bd 9) (σ 9), wM E am ((fX7_hundredthsDone μ a).2), wO E ao (vp_updL o 0 ((fX7_hundredthsDone μ a).1).toInt64)]) (st1 := [.int ((fX7_hundredthsDone μ a).1)]) [.int a] [14] (kX7_hundredthsDone l E am μ hvm a) caX7_hundredthsDone q8_55 rfl ⟨Nat.le_of_ble_eq_true rfl, Nat.le_of_ble_eq_true rfl⟩ ⟨hk, hn⟩ 14 0 rfl rfl rfl rfl (by decide) rfl rfl rfl rfl (Nat.le_of_ble_eq_true rfl) dL_law_3327 rfl ?_
    refine g_istore C (lv1 := [(6, .int ((fX7_hundredthsDone μ a).1)), (5, .int 0), (0, .ref b0), (1, .ref ax), (2, .ref (am 0)), (3, .ref ao), (4, .int (nI i))]) dL_law_3330 (by decide) rfl ?_
    refine g_aload_n C dL_law_3332 rfl 4 rfl ?_
    refine g_callV C (cs1 := [wX ax (bo 0) (tr 0) (ac 0) (ah 0) (at_ 0), wB E bo β, wB E tr τ, wC E ac γ, wH E ah bd η, wT E at_ θ, wB E (bd 2) (σ 2), wB E (bd 3) (σ 3), wB E (bd 4) (σ 4), wB E (bd 5) (σ 5), wB E (bd 6) (σ 6), wB E (bd 7) (σ 7), wB E (bd 8) (σ 8), wB E (bd 9) (σ 9), wM E am ((fX7_hundredthsDone μ a).2), wO E ao (vp_updL o 0 ((fX7_hundredthsDone μ a).1).toInt64)]) (st1 := [.int (fX7_thrown ((fX7_hundredthsDone μ a).2))]) [] [14] (kX7_thrown l E am ((fX7_hundredthsDone μ a).2)) caX7_thrown q6_116 rfl ⟨Nat.le_of_ble_eq_true rfl, Nat.le_of_ble_eq_true rfl⟩ ⟨hk, hn⟩ 14 0 rfl rfl rfl rfl (by decide) rfl rfl rfl rfl (Nat.le_of_ble_eq_true rfl) dL_law_3333 rfl ?_
    refine g_iload C dL_law_3336 1 rfl ?_
    refine g_icmp_eq C 3343 dL_law_3338 (by decide) (fun _ => ?_) (fun c => absurd ht c)
    refine g_iload C dL_law_3343 1 rfl ?_
    refine g_if_ne C 3360 dL_law_3345 (by decide) (fun c => absurd rfl c) (fun _ => ?_)
    refine g_aload_n C dL_law_3348 rfl 5 rfl ?_
    refine g_iconst C (v := 0) dL_law_3349 (by decide) ?_
    refine g_laldn C 15 0 0 rfl rfl rfl (by decide) (by decide) dL_law_3350 ?_
    refine g_iload C dL_law_3351 0 rfl ?_
    refine g_i2l C dL_law_3353 ?_
    refine g_lcmp C dL_law_3354 ?_
    refine g_if_eq C 3360 dL_law_3355 (by decide) (fun _ => ?_) (fun c => absurd law_cmp c)
    refine g_goto C 3840 dL_law_3360 (by decide) ?_
    exact g_sub [2, 3, 4, 5, 6] rfl (next β τ γ η σ θ ((fX7_hundredthsDone μ a).2) (vp_updL o 0 ((fX7_hundredthsDone μ a).1).toInt64) hR2)
  · skip
    refine g_aload_n C dL_law_3307 rfl 1 rfl ?_
    refine g_aload_n C dL_law_3308 rfl 0 rfl ?_
    refine g_iload C dL_law_3309 4 rfl ?_
    refine g_iconst C (v := 1) dL_law_3311 (by decide) ?_
    refine g_iadd C dL_law_3312 ?_
    refine g_sldv C S (i + 1) (nx_add (rfl : nI i = nI i) (rfl : (1 : Int32) = nI 1)) (by omega) ha9 dL_law_3313 ?_
    refine g_aload_n C dL_law_3314 rfl 3 rfl ?_
    refine g_callSW C hZ hNc (z := 3) (cs1 := [wX ax (bo 0) (tr 0) (ac 0) (ah 0) (at_ 0), wB E bo β, wB E tr τ, wC E ac γ, wH E ah bd η, wT E at_ θ, wB E (bd 2) (σ 2), wB E (bd 3) (σ 3), wB E (bd 4) (σ 4), wB E (bd 5) (σ 5), wB E (bd 6) (σ 6), wB E (bd 7) (σ 7), wB E (bd 8) (σ 8), wB E (bd 9) (σ 9), wM E am μ, wO E ao o]) (st1 := [.int 1]) [.ref ax, .int a, .ref ao] [0, 1, 2, 3, 4, 5, 6, 7, 8, 9, 10, 11, 12, 13, 15] (kL_hundredthsDone_0 l E ax bo β tr τ ac γ ah bd η σ at_ θ ao o hlt hvb a hr) q6_16 q1_0 (by decide +kernel) q6_15 q6_14 rfl ⟨Nat.le_of_ble_eq_true rfl, Nat.le_of_ble_eq_true rfl⟩ ⟨hk, hn⟩ (by decide) rfl rfl rfl rfl (Nat.le_of_ble_eq_true rfl) dL_law_3315 rfl ?_
    refine g_istore C (lv1 := [(5, .int 1), (0, .ref b0), (1, .ref ax), (2, .ref (am 0)), (3, .ref ao), (4, .int (nI i))]) dL_law_3318 (by decide) rfl ?_
    refine g_aload_n C dL_law_3320 rfl 3 rfl ?_
    refine g_aload_n C dL_law_3321 rfl 1 rfl ?_
    refine g_iload C dL_law_3322 5 rfl ?_
    refine g_iconst C (v := 1) dL_law_3324 (by decide) ?_
    refine g_iadd C dL_law_3325 ?_
    refine g_sldv C S (i + 1) (nx_add (rfl : nI i = nI i) (rfl : (1 : Int32) = nI 1)) (by omega) ha9 dL_law_3326 ?_
    refine g_callV C (cs1 := [wX ax (bo 0) (tr 0) (ac 0) (ah 0) (at_ 0), wB E bo β, wB E tr τ, wC E ac γ, wH E ah bd η, wT E at_ θ, wB E (bd 2) (σ 2), wB E (bd 3) (σ 3), wB E (bd 4) (σ 4), wB E (bd 5) (σ 5), wB E (bd 6) (σ 6), wB E (bd 7) (σ 7), wB E (bd 8) (σ 8), wB E (bd 9) (σ 9), wM E am ((fX7_hundredthsDone μ a).2), wO E ao o]) (st1 := [.int ((fX7_hundredthsDone μ a).1)]) [.int a] [14] (kX7_hundredthsDone l E am μ hvm a) caX7_hundredthsDone q8_55 rfl ⟨Nat.le_of_ble_eq_true rfl, Nat.le_of_ble_eq_true rfl⟩ ⟨hk, hn⟩ 14 0 rfl rfl rfl rfl (by decide) rfl rfl rfl rfl (Nat.le_of_ble_eq_true rfl) dL_law_3327 rfl ?_
    refine g_istore C (lv1 := [(6, .int ((fX7_hundredthsDone μ a).1)), (5, .int 1), (0, .ref b0), (1, .ref ax), (2, .ref (am 0)), (3, .ref ao), (4, .int (nI i))]) dL_law_3330 (by decide) rfl ?_
    refine g_aload_n C dL_law_3332 rfl 4 rfl ?_
    refine g_callV C (cs1 := [wX ax (bo 0) (tr 0) (ac 0) (ah 0) (at_ 0), wB E bo β, wB E tr τ, wC E ac γ, wH E ah bd η, wT E at_ θ, wB E (bd 2) (σ 2), wB E (bd 3) (σ 3), wB E (bd 4) (σ 4), wB E (bd 5) (σ 5), wB E (bd 6) (σ 6), wB E (bd 7) (σ 7), wB E (bd 8) (σ 8), wB E (bd 9) (σ 9), wM E am ((fX7_hundredthsDone μ a).2), wO E ao o]) (st1 := [.int (fX7_thrown ((fX7_hundredthsDone μ a).2))]) [] [14] (kX7_thrown l E am ((fX7_hundredthsDone μ a).2)) caX7_thrown q6_116 rfl ⟨Nat.le_of_ble_eq_true rfl, Nat.le_of_ble_eq_true rfl⟩ ⟨hk, hn⟩ 14 0 rfl rfl rfl rfl (by decide) rfl rfl rfl rfl (Nat.le_of_ble_eq_true rfl) dL_law_3333 rfl ?_
    refine g_iload C dL_law_3336 1 rfl ?_
    refine g_icmp_eq C 3343 dL_law_3338 (by decide) (fun _ => ?_) (fun c => absurd ht c)
    refine g_iload C dL_law_3343 1 rfl ?_
    refine g_if_ne C 3360 dL_law_3345 (by decide) (fun _ => ?_) (fun c => absurd c (by decide))
    refine g_goto C 3840 dL_law_3360 (by decide) ?_
    exact g_sub [2, 3, 4, 5, 6] rfl (next β τ γ η σ θ ((fX7_hundredthsDone μ a).2) o hR2)
set_option maxHeartbeats 4000000 in
set_option maxRecDepth 100000 in
theorem arm_59 {Rl : RlT} (hRv : RlV Rl) (hs : sH_isLate Rl)  {X : gX} {l : Launch} {E : gE} (C : gC X cL_law 9 RL (some .boolean) l E room_1) (hZ : gZ X.2.2.2.2.2.2.2.2.2.2.2.1 X.2.2.2.2.1 X.2.2.2.2.1.heap) (hNc : gNc X.2.2.2.2.1) {b0 L0 : Nat} {xs : Nat → Int32} (S : gS X b0 L0 xs) (hlt : l.stackTraces = false) {ax : Nat} {bo tr ac ah : Nat → Nat} {bd : Nat → Nat → Nat} {at_ am : Nat → Nat} {ao k n i : Nat} (hk : k + 3 ≤ 601024) (hn : n + 18 ≤ 7293034) (hi : i + 3 ≤ L0) {β τ γ η : BS} {σ : Nat → BS} {θ μ : BS} {o : Nat → Int64} (hR : Rl β η θ σ μ) (next : ∀ (β τ γ η : BS) (σ : Nat → BS) (θ μ : BS) (o : Nat → Int64), Rl β η θ σ μ → G X (k + 3) (n + 18) [wX ax (bo 0) (tr 0) (ac 0) (ah 0) (at_ 0), wB E bo β, wB E tr τ, wC E ac γ, wH E ah bd η, wT E at_ θ, wB E (bd 2) (σ 2), wB E (bd 3) (σ 3), wB E (bd 4) (σ 4), wB E (bd 5) (σ 5), wB E (bd 6) (σ 6), wB E (bd 7) (σ 7), wB E (bd 8) (σ 8), wB E (bd 9) (σ 9), wM E am μ, wO E ao o] [(0, .ref b0), (1, .ref ax), (2, .ref (am 0)), (3, .ref ao), (4, .int (nI i))] 3840 []) : G X k n [wX ax (bo 0) (tr 0) (ac 0) (ah 0) (at_ 0), wB E bo β, wB E tr τ, wC E ac γ, wH E ah bd η, wT E at_ θ, wB E (bd 2) (σ 2), wB E (bd 3) (σ 3), wB E (bd 4) (σ 4), wB E (bd 5) (σ 5), wB E (bd 6) (σ 6), wB E (bd 7) (σ 7), wB E (bd 8) (σ 8), wB E (bd 9) (σ 9), wM E am μ, wO E ao o] [(0, .ref b0), (1, .ref ax), (2, .ref (am 0)), (3, .ref ao), (4, .int (nI i))] 3363 [] := by
  obtain ⟨hvb, hvh, hvt, hvm, ha⟩ := hRv β η θ σ μ hR
  obtain ⟨a, ha9⟩ : ∃ a, xs (i + 1) = a := ⟨_, rfl⟩
  obtain ⟨hag, hR2⟩ := hs β τ γ η σ θ μ a hR
  rcases hag with ⟨hr, ht⟩ | ⟨hr, ht⟩
  · cases hbv : (fX7_isLate μ a).1 with
    | true =>
      rw [hbv] at hr
      refine g_aload_n C dL_law_3363 rfl 1 rfl ?_
      refine g_aload_n C dL_law_3364 rfl 0 rfl ?_
      refine g_iload C dL_law_3365 4 rfl ?_
      refine g_iconst C (v := 1) dL_law_3367 (by decide) ?_
      refine g_iadd C dL_law_3368 ?_
      refine g_sldv C S (i + 1) (nx_add (rfl : nI i = nI i) (rfl : (1 : Int32) = nI 1)) (by omega) ha9 dL_law_3369 ?_
      refine g_aload_n C dL_law_3370 rfl 3 rfl ?_
      refine g_callSW C hZ hNc (z := 3) (cs1 := [wX ax (bo 0) (tr 0) (ac 0) (ah 0) (at_ 0), wB E bo β, wB E tr τ, wC E ac γ, wH E ah bd η, wT E at_ θ, wB E (bd 2) (σ 2), wB E (bd 3) (σ 3), wB E (bd 4) (σ 4), wB E (bd 5) (σ 5), wB E (bd 6) (σ 6), wB E (bd 7) (σ 7), wB E (bd 8) (σ 8), wB E (bd 9) (σ 9), wM E am μ, wO E ao (vp_updL o 0 1)]) (st1 := [.int 0]) [.ref ax, .int a, .ref ao] [0, 1, 2, 3, 4, 5, 6, 7, 8, 9, 10, 11, 12, 13, 15] (kL_isLate_rt l E ax bo β tr τ ac γ ah bd η σ at_ θ ao o hlt hvb a hr) q6_23 q1_0 (by decide +kernel) q6_22 q6_21 rfl ⟨Nat.le_of_ble_eq_true rfl, Nat.le_of_ble_eq_true rfl⟩ ⟨hk, hn⟩ (by decide) rfl rfl rfl rfl (Nat.le_of_ble_eq_true rfl) dL_law_3371 rfl ?_
      refine g_istore C (lv1 := [(5, .int 0), (0, .ref b0), (1, .ref ax), (2, .ref (am 0)), (3, .ref ao), (4, .int (nI i))]) dL_law_3374 (by decide) rfl ?_
      refine g_aload_n C dL_law_3376 rfl 3 rfl ?_
      refine g_aload_n C dL_law_3377 rfl 1 rfl ?_
      refine g_iload C dL_law_3378 5 rfl ?_
      refine g_iconst C (v := 1) dL_law_3380 (by decide) ?_
      refine g_iadd C dL_law_3381 ?_
      refine g_sldv C S (i + 1) (nx_add (rfl : nI i = nI i) (rfl : (1 : Int32) = nI 1)) (by omega) ha9 dL_law_3382 ?_
      refine g_callV C (cs1 := [wX ax (bo 0) (tr 0) (ac 0) (ah 0) (at_ 0), wB E bo β, wB E tr τ, wC E ac γ, wH E ah bd η, wT E at_ θ, wB E (bd 2) (σ 2), wB E (bd 3) (σ 3), wB E (bd 4) (σ 4), wB E (bd 5) (σ 5), wB E (bd 6) (σ 6), wB E (bd 7) (σ 7), wB E (bd 8) (σ 8), wB E (bd 9) (σ 9), wM E am ((fX7_isLate μ a).2), wO E ao (vp_updL o 0 1)]) (st1 := [.int (b2i ((fX7_isLate μ a).1))]) [.int a] [14] (kX7_isLate l E am μ hvm a) caX7_isLate q8_63 rfl ⟨Nat.le_of_ble_eq_true rfl, Nat.le_of_ble_eq_true rfl⟩ ⟨hk, hn⟩ 14 0 rfl rfl rfl rfl (by decide) rfl rfl rfl rfl (Nat.le_of_ble_eq_true rfl) dL_law_3383 rfl ?_
      refine g_istore C (lv1 := [(6, .int (b2i ((fX7_isLate μ a).1))), (5, .int 0), (0, .ref b0), (1, .ref ax), (2, .ref (am 0)), (3, .ref ao), (4, .int (nI i))]) dL_law_3386 (by decide) rfl ?_
      refine g_aload_n C dL_law_3388 rfl 4 rfl ?_
      refine g_callV C (cs1 := [wX ax (bo 0) (tr 0) (ac 0) (ah 0) (at_ 0), wB E bo β, wB E tr τ, wC E ac γ, wH E ah bd η, wT E at_ θ, wB E (bd 2) (σ 2), wB E (bd 3) (σ 3), wB E (bd 4) (σ 4), wB E (bd 5) (σ 5), wB E (bd 6) (σ 6), wB E (bd 7) (σ 7), wB E (bd 8) (σ 8), wB E (bd 9) (σ 9), wM E am ((fX7_isLate μ a).2), wO E ao (vp_updL o 0 1)]) (st1 := [.int (fX7_thrown ((fX7_isLate μ a).2))]) [] [14] (kX7_thrown l E am ((fX7_isLate μ a).2)) caX7_thrown q6_116 rfl ⟨Nat.le_of_ble_eq_true rfl, Nat.le_of_ble_eq_true rfl⟩ ⟨hk, hn⟩ 14 0 rfl rfl rfl rfl (by decide) rfl rfl rfl rfl (Nat.le_of_ble_eq_true rfl) dL_law_3389 rfl ?_
      refine g_iload C dL_law_3392 1 rfl ?_
      refine g_icmp_eq C 3399 dL_law_3394 (by decide) (fun _ => ?_) (fun c => absurd ht c)
      refine g_iload C dL_law_3399 1 rfl ?_
      refine g_if_ne C 3423 dL_law_3401 (by decide) (fun c => absurd rfl c) (fun _ => ?_)
      refine g_aload_n C dL_law_3404 rfl 5 rfl ?_
      refine g_iconst C (v := 0) dL_law_3405 (by decide) ?_
      refine g_laldn C 15 0 0 rfl rfl rfl (by decide) (by decide) dL_law_3406 ?_
      refine g_iload C dL_law_3407 0 rfl ?_
      refine g_ifB_eq C 3416 dL_law_3409 (by decide) (fun c => absurd (hbv.symm.trans c) (by decide)) (fun _ => ?_)
      refine g_lconst C (v := 1) dL_law_3412 (by decide) ?_
      refine g_goto C 3417 dL_law_3413 (by decide) ?_
      refine g_lcmp C dL_law_3417 ?_
      refine g_if_eq C 3423 dL_law_3418 (by decide) (fun _ => ?_) (fun c => absurd law_cmp c)
      refine g_goto C 3840 dL_law_3423 (by decide) ?_
      exact g_sub [2, 3, 4, 5, 6] rfl (next β τ γ η σ θ ((fX7_isLate μ a).2) (vp_updL o 0 1) hR2)
    | false =>
      rw [hbv] at hr
      refine g_aload_n C dL_law_3363 rfl 1 rfl ?_
      refine g_aload_n C dL_law_3364 rfl 0 rfl ?_
      refine g_iload C dL_law_3365 4 rfl ?_
      refine g_iconst C (v := 1) dL_law_3367 (by decide) ?_
      refine g_iadd C dL_law_3368 ?_
      refine g_sldv C S (i + 1) (nx_add (rfl : nI i = nI i) (rfl : (1 : Int32) = nI 1)) (by omega) ha9 dL_law_3369 ?_
      refine g_aload_n C dL_law_3370 rfl 3 rfl ?_
      refine g_callSW C hZ hNc (z := 3) (cs1 := [wX ax (bo 0) (tr 0) (ac 0) (ah 0) (at_ 0), wB E bo β, wB E tr τ, wC E ac γ, wH E ah bd η, wT E at_ θ, wB E (bd 2) (σ 2), wB E (bd 3) (σ 3), wB E (bd 4) (σ 4), wB E (bd 5) (σ 5), wB E (bd 6) (σ 6), wB E (bd 7) (σ 7), wB E (bd 8) (σ 8), wB E (bd 9) (σ 9), wM E am μ, wO E ao (vp_updL o 0 0)]) (st1 := [.int 0]) [.ref ax, .int a, .ref ao] [0, 1, 2, 3, 4, 5, 6, 7, 8, 9, 10, 11, 12, 13, 15] (kL_isLate_rf l E ax bo β tr τ ac γ ah bd η σ at_ θ ao o hlt hvb a hr) q6_23 q1_0 (by decide +kernel) q6_22 q6_21 rfl ⟨Nat.le_of_ble_eq_true rfl, Nat.le_of_ble_eq_true rfl⟩ ⟨hk, hn⟩ (by decide) rfl rfl rfl rfl (Nat.le_of_ble_eq_true rfl) dL_law_3371 rfl ?_
      refine g_istore C (lv1 := [(5, .int 0), (0, .ref b0), (1, .ref ax), (2, .ref (am 0)), (3, .ref ao), (4, .int (nI i))]) dL_law_3374 (by decide) rfl ?_
      refine g_aload_n C dL_law_3376 rfl 3 rfl ?_
      refine g_aload_n C dL_law_3377 rfl 1 rfl ?_
      refine g_iload C dL_law_3378 5 rfl ?_
      refine g_iconst C (v := 1) dL_law_3380 (by decide) ?_
      refine g_iadd C dL_law_3381 ?_
      refine g_sldv C S (i + 1) (nx_add (rfl : nI i = nI i) (rfl : (1 : Int32) = nI 1)) (by omega) ha9 dL_law_3382 ?_
      refine g_callV C (cs1 := [wX ax (bo 0) (tr 0) (ac 0) (ah 0) (at_ 0), wB E bo β, wB E tr τ, wC E ac γ, wH E ah bd η, wT E at_ θ, wB E (bd 2) (σ 2), wB E (bd 3) (σ 3), wB E (bd 4) (σ 4), wB E (bd 5) (σ 5), wB E (bd 6) (σ 6), wB E (bd 7) (σ 7), wB E (bd 8) (σ 8), wB E (bd 9) (σ 9), wM E am ((fX7_isLate μ a).2), wO E ao (vp_updL o 0 0)]) (st1 := [.int (b2i ((fX7_isLate μ a).1))]) [.int a] [14] (kX7_isLate l E am μ hvm a) caX7_isLate q8_63 rfl ⟨Nat.le_of_ble_eq_true rfl, Nat.le_of_ble_eq_true rfl⟩ ⟨hk, hn⟩ 14 0 rfl rfl rfl rfl (by decide) rfl rfl rfl rfl (Nat.le_of_ble_eq_true rfl) dL_law_3383 rfl ?_
      refine g_istore C (lv1 := [(6, .int (b2i ((fX7_isLate μ a).1))), (5, .int 0), (0, .ref b0), (1, .ref ax), (2, .ref (am 0)), (3, .ref ao), (4, .int (nI i))]) dL_law_3386 (by decide) rfl ?_
      refine g_aload_n C dL_law_3388 rfl 4 rfl ?_
      refine g_callV C (cs1 := [wX ax (bo 0) (tr 0) (ac 0) (ah 0) (at_ 0), wB E bo β, wB E tr τ, wC E ac γ, wH E ah bd η, wT E at_ θ, wB E (bd 2) (σ 2), wB E (bd 3) (σ 3), wB E (bd 4) (σ 4), wB E (bd 5) (σ 5), wB E (bd 6) (σ 6), wB E (bd 7) (σ 7), wB E (bd 8) (σ 8), wB E (bd 9) (σ 9), wM E am ((fX7_isLate μ a).2), wO E ao (vp_updL o 0 0)]) (st1 := [.int (fX7_thrown ((fX7_isLate μ a).2))]) [] [14] (kX7_thrown l E am ((fX7_isLate μ a).2)) caX7_thrown q6_116 rfl ⟨Nat.le_of_ble_eq_true rfl, Nat.le_of_ble_eq_true rfl⟩ ⟨hk, hn⟩ 14 0 rfl rfl rfl rfl (by decide) rfl rfl rfl rfl (Nat.le_of_ble_eq_true rfl) dL_law_3389 rfl ?_
      refine g_iload C dL_law_3392 1 rfl ?_
      refine g_icmp_eq C 3399 dL_law_3394 (by decide) (fun _ => ?_) (fun c => absurd ht c)
      refine g_iload C dL_law_3399 1 rfl ?_
      refine g_if_ne C 3423 dL_law_3401 (by decide) (fun c => absurd rfl c) (fun _ => ?_)
      refine g_aload_n C dL_law_3404 rfl 5 rfl ?_
      refine g_iconst C (v := 0) dL_law_3405 (by decide) ?_
      refine g_laldn C 15 0 0 rfl rfl rfl (by decide) (by decide) dL_law_3406 ?_
      refine g_iload C dL_law_3407 0 rfl ?_
      refine g_ifB_eq C 3416 dL_law_3409 (by decide) (fun _ => ?_) (fun c => absurd (hbv.symm.trans c) (by decide))
      refine g_lconst C (v := 0) dL_law_3416 (by decide) ?_
      refine g_lcmp C dL_law_3417 ?_
      refine g_if_eq C 3423 dL_law_3418 (by decide) (fun _ => ?_) (fun c => absurd law_cmp c)
      refine g_goto C 3840 dL_law_3423 (by decide) ?_
      exact g_sub [2, 3, 4, 5, 6] rfl (next β τ γ η σ θ ((fX7_isLate μ a).2) (vp_updL o 0 0) hR2)
  · skip
    refine g_aload_n C dL_law_3363 rfl 1 rfl ?_
    refine g_aload_n C dL_law_3364 rfl 0 rfl ?_
    refine g_iload C dL_law_3365 4 rfl ?_
    refine g_iconst C (v := 1) dL_law_3367 (by decide) ?_
    refine g_iadd C dL_law_3368 ?_
    refine g_sldv C S (i + 1) (nx_add (rfl : nI i = nI i) (rfl : (1 : Int32) = nI 1)) (by omega) ha9 dL_law_3369 ?_
    refine g_aload_n C dL_law_3370 rfl 3 rfl ?_
    refine g_callSW C hZ hNc (z := 3) (cs1 := [wX ax (bo 0) (tr 0) (ac 0) (ah 0) (at_ 0), wB E bo β, wB E tr τ, wC E ac γ, wH E ah bd η, wT E at_ θ, wB E (bd 2) (σ 2), wB E (bd 3) (σ 3), wB E (bd 4) (σ 4), wB E (bd 5) (σ 5), wB E (bd 6) (σ 6), wB E (bd 7) (σ 7), wB E (bd 8) (σ 8), wB E (bd 9) (σ 9), wM E am μ, wO E ao o]) (st1 := [.int 1]) [.ref ax, .int a, .ref ao] [0, 1, 2, 3, 4, 5, 6, 7, 8, 9, 10, 11, 12, 13, 15] (kL_isLate_0 l E ax bo β tr τ ac γ ah bd η σ at_ θ ao o hlt hvb a hr) q6_23 q1_0 (by decide +kernel) q6_22 q6_21 rfl ⟨Nat.le_of_ble_eq_true rfl, Nat.le_of_ble_eq_true rfl⟩ ⟨hk, hn⟩ (by decide) rfl rfl rfl rfl (Nat.le_of_ble_eq_true rfl) dL_law_3371 rfl ?_
    refine g_istore C (lv1 := [(5, .int 1), (0, .ref b0), (1, .ref ax), (2, .ref (am 0)), (3, .ref ao), (4, .int (nI i))]) dL_law_3374 (by decide) rfl ?_
    refine g_aload_n C dL_law_3376 rfl 3 rfl ?_
    refine g_aload_n C dL_law_3377 rfl 1 rfl ?_
    refine g_iload C dL_law_3378 5 rfl ?_
    refine g_iconst C (v := 1) dL_law_3380 (by decide) ?_
    refine g_iadd C dL_law_3381 ?_
    refine g_sldv C S (i + 1) (nx_add (rfl : nI i = nI i) (rfl : (1 : Int32) = nI 1)) (by omega) ha9 dL_law_3382 ?_
    refine g_callV C (cs1 := [wX ax (bo 0) (tr 0) (ac 0) (ah 0) (at_ 0), wB E bo β, wB E tr τ, wC E ac γ, wH E ah bd η, wT E at_ θ, wB E (bd 2) (σ 2), wB E (bd 3) (σ 3), wB E (bd 4) (σ 4), wB E (bd 5) (σ 5), wB E (bd 6) (σ 6), wB E (bd 7) (σ 7), wB E (bd 8) (σ 8), wB E (bd 9) (σ 9), wM E am ((fX7_isLate μ a).2), wO E ao o]) (st1 := [.int (b2i ((fX7_isLate μ a).1))]) [.int a] [14] (kX7_isLate l E am μ hvm a) caX7_isLate q8_63 rfl ⟨Nat.le_of_ble_eq_true rfl, Nat.le_of_ble_eq_true rfl⟩ ⟨hk, hn⟩ 14 0 rfl rfl rfl rfl (by decide) rfl rfl rfl rfl (Nat.le_of_ble_eq_true rfl) dL_law_3383 rfl ?_
    refine g_istore C (lv1 := [(6, .int (b2i ((fX7_isLate μ a).1))), (5, .int 1), (0, .ref b0), (1, .ref ax), (2, .ref (am 0)), (3, .ref ao), (4, .int (nI i))]) dL_law_3386 (by decide) rfl ?_
    refine g_aload_n C dL_law_3388 rfl 4 rfl ?_
    refine g_callV C (cs1 := [wX ax (bo 0) (tr 0) (ac 0) (ah 0) (at_ 0), wB E bo β, wB E tr τ, wC E ac γ, wH E ah bd η, wT E at_ θ, wB E (bd 2) (σ 2), wB E (bd 3) (σ 3), wB E (bd 4) (σ 4), wB E (bd 5) (σ 5), wB E (bd 6) (σ 6), wB E (bd 7) (σ 7), wB E (bd 8) (σ 8), wB E (bd 9) (σ 9), wM E am ((fX7_isLate μ a).2), wO E ao o]) (st1 := [.int (fX7_thrown ((fX7_isLate μ a).2))]) [] [14] (kX7_thrown l E am ((fX7_isLate μ a).2)) caX7_thrown q6_116 rfl ⟨Nat.le_of_ble_eq_true rfl, Nat.le_of_ble_eq_true rfl⟩ ⟨hk, hn⟩ 14 0 rfl rfl rfl rfl (by decide) rfl rfl rfl rfl (Nat.le_of_ble_eq_true rfl) dL_law_3389 rfl ?_
    refine g_iload C dL_law_3392 1 rfl ?_
    refine g_icmp_eq C 3399 dL_law_3394 (by decide) (fun _ => ?_) (fun c => absurd ht c)
    refine g_iload C dL_law_3399 1 rfl ?_
    refine g_if_ne C 3423 dL_law_3401 (by decide) (fun _ => ?_) (fun c => absurd c (by decide))
    refine g_goto C 3840 dL_law_3423 (by decide) ?_
    exact g_sub [2, 3, 4, 5, 6] rfl (next β τ γ η σ θ ((fX7_isLate μ a).2) o hR2)
