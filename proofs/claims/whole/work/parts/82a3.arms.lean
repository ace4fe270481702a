set_option maxHeartbeats 4000000 in
set_option maxRecDepth 100000 in
theorem arm_30 {Rl : RlT} (hRv : RlV Rl) (hs : sH_priorityOf Rl)  {X : gX} {l : Launch} {E : gE} (C : gC X cL_law 9 RL (some .boolean) l E room_1) (hZ : gZ X.2.2.2.2.2.2.2.2.2.2.2.1 X.2.2.2.2.1 X.2.2.2.2.1.heap) (hNc : gNc X.2.2.2.2.1) {b0 L0 : Nat} {xs : Nat → Int32} (S : gS X b0 L0 xs) (hlt : l.stackTraces = false) {ax : Nat} {bo tr ac ah : Nat → Nat} {bd : Nat → Nat → Nat} {at_ am : Nat → Nat} {ao k n i : Nat} (hk : k + 3 ≤ 601024) (hn : n + 18 ≤ 7293034) (hi : i + 3 ≤ L0) {β τ γ η : BS} {σ : Nat → BS} {θ μ : BS} {o : Nat → Int64} (hR : Rl β η θ σ μ) (next : ∀ (β τ γ η : BS) (σ : Nat → BS) (θ μ : BS) (o : Nat → Int64), Rl β η θ σ μ → G X (k + 3) (n + 18) [wX ax (bo 0) (tr 0) (ac 0) (ah 0) (at_ 0), wB E bo β, wB E tr τ, wC E ac γ, wH E ah bd η, wT E at_ θ, wB E (bd 2) (σ 2), wB E (bd 3) (σ 3), wB E (bd 4) (σ 4), wB E (bd 5) (σ 5), wB E (bd 6) (σ 6), wB E (bd 7) (σ 7), wB E (bd 8) (σ 8), wB E (bd 9) (σ 9), wM E am μ, wO E ao o] [(0, .ref b0), (1, .ref ax), (2, .ref (am 0)), (3, .ref ao), (4, .int (nI i))] 3840 []) : G X k n [wX ax (bo 0) (tr 0) (ac 0) (ah 0) (at_ 0), wB E bo β, wB E tr τ, wC E ac γ, wH E ah bd η, wT E at_ θ, wB E (bd 2) (σ 2), wB E (bd 3) (σ 3), wB E (bd 4) (σ 4), wB E (bd 5) (σ 5), wB E (bd 6) (σ 6), wB E (bd 7) (σ 7), wB E (bd 8) (σ 8), wB E (bd 9) (σ 9), wM E am μ, wO E ao o] [(0, .ref b0), (1, .ref ax), (2, .ref (am 0)), (3, .ref ao), (4, .int (nI i))] 1828 [] := by
  obtain ⟨hvb, hvh, hvt, hvm, ha⟩ := hRv β η θ σ μ hR
  obtain ⟨a, ha9⟩ : ∃ a, xs (i + 1) = a := ⟨_, rfl⟩
  obtain ⟨hag, hR2⟩ := hs β τ γ η σ θ μ a hR
  rcases hag with ⟨hr, ht⟩ | ⟨hr, ht⟩
  · skip
    refine g_aload_n C dL_law_1828 rfl 1 rfl ?_
    refine g_aload_n C dL_law_1829 rfl 0 rfl ?_
    refine g_iload C dL_law_1830 4 rfl ?_
    refine g_iconst C (v := 1) dL_law_1832 (by decide) ?_
    refine g_iadd C dL_law_1833 ?_
    refine g_sldv C S (i + 1) (nx_add (rfl : nI i = nI i) (rfl : (1 : Int32) = nI 1)) (by omega) ha9 dL_law_1834 ?_
    refine g_aload_n C dL_law_1835 rfl 3 rfl ?_
    refine g_callSW C hZ hNc (z := 3) (cs1 := [wX ax (bo 0) (tr 0) (ac 0) (ah 0) (at_ 0), wB E bo β, wB E tr τ, wC E ac γ, wH E ah bd η, wT E at_ θ, wB E (bd 2) (σ 2), wB E (bd 3) (σ 3), wB E (bd 4) (σ 4), wB E (bd 5) (σ 5), wB E (bd 6) (σ 6), wB E (bd 7) (σ 7), wB E (bd 8) (σ 8), wB E (bd 9) (σ 9), wM E am μ, wO E ao (vp_updL o 0 ((fX7_priorityOf μ a).1).toInt64)]) (st1 := [.int 0]) [.ref ax, .int a, .ref ao] [0, 1, 2, 3, 4, 5, 6, 7, 8, 9, 10, 11, 12, 13, 15] (kL_priorityOf_r l E ax bo β tr τ ac γ ah bd η σ at_ θ ao o hlt hvb a ((fX7_priorityOf μ a).1) hr) q5_80 q1_0 (by decide +kernel) q5_79 q5_78 rfl ⟨Nat.le_of_ble_eq_true rfl, Nat.le_of_ble_eq_true rfl⟩ ⟨hk, hn⟩ (by decide) rfl rfl rfl rfl (Nat.le_of_ble_eq_true rfl) dL_law_1836 rfl ?_
    refine g_istore C (lv1 := [(5, .int 0), (0, .ref b0), (1, .ref ax), (2, .ref (am 0)), (3, .ref ao), (4, .int (nI i))]) dL_law_1839 (by decide) rfl ?_
    refine g_aload_n C dL_law_1841 rfl 3 rfl ?_
    refine g_aload_n C dL_law_1842 rfl 1 rfl ?_
    refine g_iload C dL_law_1843 5 rfl ?_
    refine g_iconst C (v := 1) dL_law_1845 (by decide) ?_
    refine g_iadd C dL_law_1846 ?_
    refine g_sldv C S (i + 1) (nx_add (rfl : nI i = nI i) (rfl : (1 : Int32) = nI 1)) (by omega) ha9 dL_law_1847 ?_
    refine g_callV C (cs1 := [wX ax (bo 0) (tr 0) (ac 0) (ah 0) (at_ 0), wB E bo β, wB E tr τ, wC E ac γ, wH E ah bd η, wT E at_ θ, wB E (bd 2) (σ 2), wB E (bd 3) (σ 3), wB E (bd 4) (σ 4), wB E (bd 5) (σ 5), wB E (bd 6) (σ 6), wB E (bd 7) (σ 7), wB E (bd 8) (σ 8), wB E (bd 9) (σ 9), wM E am ((fX7_priorityOf μ a).2), wO E ao (vp_updL o 0 ((fX7_priorityOf μ a).1).toInt64)]) (st1 := [.int ((fX7_priorityOf μ a).1)]) [.int a] [14] (kX7_priorityOf l E am μ hvm a) caX7_priorityOf q7_155 rfl ⟨Nat.le_of_ble_eq_true rfl, Nat.le_of_ble_eq_true rfl⟩ ⟨hk, hn⟩ 14 0 rfl rfl rfl rfl (by decide) rfl rfl rfl rfl (Nat.le_of_ble_eq_true rfl) dL_law_1848 rfl ?_
    refine g_istore C (lv1 := [(6, .int ((fX7_priorityOf μ a).1)), (5, .int 0), (0, .ref b0), (1, .ref ax), (2, .ref (am 0)), (3, .ref ao), (4, .int (nI i))]) dL_law_1851 (by decide) rfl ?_
    refine g_aload_n C dL_law_1853 rfl 4 rfl ?_
    refine g_callV C (cs1 := [wX ax (bo 0) (tr 0) (ac 0) (ah 0) (at_ 0), wB E bo β, wB E tr τ, wC E ac γ, wH E ah bd η, wT E at_ θ, wB E (bd 2) (σ 2), wB E (bd 3) (σ 3), wB E (bd 4) (σ 4), wB E (bd 5) (σ 5), wB E (bd 6) (σ 6), wB E (bd 7) (σ 7), wB E (bd 8) (σ 8), wB E (bd 9) (σ 9), wM E am ((fX7_priorityOf μ a).2), wO E ao (vp_updL o 0 ((fX7_priorityOf μ a).1).toInt64)]) (st1 := [.int (fX7_thrown ((fX7_priorityOf μ a).2))]) [] [14] (kX7_thrown l E am ((fX7_priorityOf μ a).2)) caX7_thrown q6_116 rfl ⟨Nat.le_of_ble_eq_true rfl, Nat.le_of_ble_eq_true rfl⟩ ⟨hk, hn⟩ 14 0 rfl rfl rfl rfl (by decide) rfl rfl rfl rfl (Nat.le_of_ble_eq_true rfl) dL_law_1854 rfl ?_
    refine g_iload C dL_law_1857 1 rfl ?_
    refine g_icmp_eq C 1864 dL_law_1859 (by decide) (fun _ => ?_) (fun c => absurd ht c)
    refine g_iload C dL_law_1864 1 rfl ?_
    refine g_if_ne C 1881 dL_law_1866 (by decide) (fun c => absurd rfl c) (fun _ => ?_)
    refine g_aload_n C dL_law_1869 rfl 5 rfl ?_
    refine g_iconst C (v := 0) dL_law_1870 (by decide) ?_
    refine g_laldn C 15 0 0 rfl rfl rfl (by decide) (by decide) dL_law_1871 ?_
    refine g_iload C dL_law_1872 0 rfl ?_
    refine g_i2l C dL_law_1874 ?_
    refine g_lcmp C dL_law_1875 ?_
    refine g_if_eq C 1881 dL_law_1876 (by decide) (fun _ => ?_) (fun c => absurd law_cmp c)
    refine g_goto C 3840 dL_law_1881 (by decide) ?_
    exact g_sub [2, 3, 4, 5, 6] rfl (next β τ γ η σ θ ((fX7_priorityOf μ a).2) (vp_updL o 0 ((fX7_priorityOf μ a).1).toInt64) hR2)
  · skip
    refine g_aload_n C dL_law_1828 rfl 1 rfl ?_
    refine g_aload_n C dL_law_1829 rfl 0 rfl ?_
    refine g_iload C dL_law_1830 4 rfl ?_
    refine g_iconst C (v := 1) dL_law_1832 (by decide) ?_
    refine g_iadd C dL_law_1833 ?_
    refine g_sldv C S (i + 1) (nx_add (rfl : nI i = nI i) (rfl : (1 : Int32) = nI 1)) (by omega) ha9 dL_law_1834 ?_
    refine g_aload_n C dL_law_1835 rfl 3 rfl ?_
    refine g_callSW C hZ hNc (z := 3) (cs1 := [wX ax (bo 0) (tr 0) (ac 0) (ah 0) (at_ 0), wB E bo β, wB E tr τ, wC E ac γ, wH E ah bd η, wT E at_ θ, wB E (bd 2) (σ 2), wB E (bd 3) (σ 3), wB E (bd 4) (σ 4), wB E (bd 5) (σ 5), wB E (bd 6) (σ 6), wB E (bd 7) (σ 7), wB E (bd 8) (σ 8), wB E (bd 9) (σ 9), wM E am μ, wO E ao o]) (st1 := [.int 1]) [.ref ax, .int a, .ref ao] [0, 1, 2, 3, 4, 5, 6, 7, 8, 9, 10, 11, 12, 13, 15] (kL_priorityOf_0 l E ax bo β tr τ ac γ ah bd η σ at_ θ ao o hlt hvb a hr) q5_80 q1_0 (by decide +kernel) q5_79 q5_78 rfl ⟨Nat.le_of_ble_eq_true rfl, Nat.le_of_ble_eq_true rfl⟩ ⟨hk, hn⟩ (by decide) rfl rfl rfl rfl (Nat.le_of_ble_eq_true rfl) dL_law_1836 rfl ?_
    refine g_istore C (lv1 := [(5, .int 1), (0, .ref b0), (1, .ref ax), (2, .ref (am 0)), (3, .ref ao), (4, .int (nI i))]) dL_law_1839 (by decide) rfl ?_
    refine g_aload_n C dL_law_1841 rfl 3 rfl ?_
    refine g_aload_n C dL_law_1842 rfl 1 rfl ?_
    refine g_iload C dL_law_1843 5 rfl ?_
    refine g_iconst C (v := 1) dL_law_1845 (by decide) ?_
    refine g_iadd C dL_law_1846 ?_
    refine g_sldv C S (i + 1) (nx_add (rfl : nI i = nI i) (rfl : (1 : Int32) = nI 1)) (by omega) ha9 dL_law_1847 ?_
    refine g_callV C (cs1 := [wX ax (bo 0) (tr 0) (ac 0) (ah 0) (at_ 0), wB E bo β, wB E tr τ, wC E ac γ, wH E ah bd η, wT E at_ θ, wB E (bd 2) (σ 2), wB E (bd 3) (σ 3), wB E (bd 4) (σ 4), wB E (bd 5) (σ 5), wB E (bd 6) (σ 6), wB E (bd 7) (σ 7), wB E (bd 8) (σ 8), wB E (bd 9) (σ 9), wM E am ((fX7_priorityOf μ a).2), wO E ao o]) (st1 := [.int ((fX7_priorityOf μ a).1)]) [.int a] [14] (kX7_priorityOf l E am μ hvm a) caX7_priorityOf q7_155 rfl ⟨Nat.le_of_ble_eq_true rfl, Nat.le_of_ble_eq_true rfl⟩ ⟨hk, hn⟩ 14 0 rfl rfl rfl rfl (by decide) rfl rfl rfl rfl (Nat.le_of_ble_eq_true rfl) dL_law_1848 rfl ?_
    refine g_istore C (lv1 := [(6, .int ((fX7_priorityOf μ a).1)), (5, .int 1), (0, .ref b0), (1, .ref ax), (2, .ref (am 0)), (3, .ref ao), (4, .int (nI i))]) dL_law_1851 (by decide) rfl ?_
    refine g_aload_n C dL_law_1853 rfl 4 rfl ?_
    refine g_callV C (cs1 := [wX ax (bo 0) (tr 0) (ac 0) (ah 0) (at_ 0), wB E bo β, wB E tr τ, wC E ac γ, wH E ah bd η, wT E at_ θ, wB E (bd 2) (σ 2), wB E (bd 3) (σ 3), wB E (bd 4) (σ 4), wB E (bd 5) (σ 5), wB E (bd 6) (σ 6), wB E (bd 7) (σ 7), wB E (bd 8) (σ 8), wB E (bd 9) (σ 9), wM E am ((fX7_priorityOf μ a).2), wO E ao o]) (st1 := [.int (fX7_thrown ((fX7_priorityOf μ a).2))]) [] [14] (kX7_thrown l E am ((fX7_priorityOf μ a).2)) caX7_thrown q6_116 rfl ⟨Nat.le_of_ble_eq_true rfl, Nat.le_of_ble_eq_true rfl⟩ ⟨hk, hn⟩ 14 0 rfl rfl rfl rfl (by decide) rfl rfl rfl rfl (Nat.le_of_ble_eq_true rfl) dL_law_1854 rfl ?_
    refine g_iload C dL_law_1857 1 rfl ?_
    refine g_icmp_eq C 1864 dL_law_1859 (by decide) (fun _ => ?_) (fun c => absurd ht c)
    refine g_iload C dL_law_1864 1 rfl ?_
    refine g_if_ne C 1881 dL_law_1866 (by decide) (fun _ => ?_) (fun c => absurd c (by decide))
    refine g_goto C 3840 dL_law_1881 (by decide) ?_
    exact g_sub [2, 3, 4, 5, 6] rfl (next β τ γ η σ θ ((fX7_priorityOf μ a).2) o hR2)
set_option maxHeartbeats 4000000 in
set_option maxRecDepth 100000 in
theorem arm_31 {Rl : RlT} (hRv : RlV Rl) (hs : sH_hasOwner Rl)  {X : gX} {l : Launch} {E : gE} (C : gC X cL_law 9 RL (some .boolean) l E room_1) (hZ : gZ X.2.2.2.2.2.2.2.2.2.2.2.1 X.2.2.2.2.1 X.2.2.2.2.1.heap) (hNc : gNc X.2.2.2.2.1) {b0 L0 : Nat} {xs : Nat → Int32} (S : gS X b0 L0 xs) (hlt : l.stackTraces = false) {ax : Nat} {bo tr ac ah : Nat → Nat} {bd : Nat → Nat → Nat} {at_ am : Nat → Nat} {ao k n i : Nat} (hk : k + 3 ≤ 601024) (hn : n + 18 ≤ 7293034) (hi : i + 3 ≤ L0) {β τ γ η : BS} {σ : Nat → BS} {θ μ : BS} {o : Nat → Int64} (hR : Rl β η θ σ μ) (next : ∀ (β τ γ η : BS) (σ : Nat → BS) (θ μ : BS) (o : Nat → Int64), Rl β η θ σ μ → G X (k + 3) (n + 18) [wX ax (bo 0) (tr 0) (ac 0) (ah 0) (at_ 0), wB E bo β, wB E tr τ, wC E ac γ, wH E ah bd η, wT E at_ θ, wB E (bd 2) (σ 2), wB E (bd 3) (σ 3), wB E (bd 4) (σ 4), wB E (bd 5) (σ 5), wB E (bd 6) (σ 6), wB E (bd 7) (σ 7), wB E (bd 8) (σ 8), wB E (bd 9) (σ 9), wM E am μ, wO E ao o] [(0, .ref b0), (1, .ref ax), (2, .ref (am 0)), (3, .ref ao), (4, .int (nI i))] 3840 []) : G X k n [wX ax (bo 0) (tr 0) (ac 0) (ah 0) (at_ 0), wB E bo β, wB E tr τ, wC E ac γ, wH E ah bd η, wT E at_ θ, wB E (bd 2) (σ 2), wB E (bd 3) (σ 3), wB E (bd 4) (σ 4), wB E (bd 5) (σ 5), wB E (bd 6) (σ 6), wB E (bd 7) (σ 7), wB E (bd 8) (σ 8), wB E (bd 9) (σ 9), wM E am μ, wO E ao o] [(0, .ref b0), (1, .ref ax), (2, .ref (am 0)), (3, .ref ao), (4, .int (nI i))] 1884 [] := by
  obtain ⟨hvb, hvh, hvt, hvm, ha⟩ := hRv β η θ σ μ hR
  obtain ⟨a, ha9⟩ : ∃ a, xs (i + 1) = a := ⟨_, rfl⟩
  obtain ⟨hag, hR2⟩ := hs β τ γ η σ θ μ a hR
  rcases hag with ⟨hr, ht⟩ | ⟨hr, ht⟩
  · cases hbv : (fX7_hasOwner μ a).1 with
    | true =>
      rw [hbv] at hr
      refine g_aload_n C dL_law_1884 rfl 1 rfl ?_
      refine g_aload_n C dL_law_1885 rfl 0 rfl ?_
      refine g_iload C dL_law_1886 4 rfl ?_
      refine g_iconst C (v := 1) dL_law_1888 (by decide) ?_
      refine g_iadd C dL_law_1889 ?_
      refine g_sldv C S (i + 1) (nx_add (rfl : nI i = nI i) (rfl : (1 : Int32) = nI 1)) (by omega) ha9 dL_law_1890 ?_
      refine g_aload_n C dL_law_1891 rfl 3 rfl ?_
      refine g_callSW C hZ hNc (z := 3) (cs1 := [wX ax (bo 0) (tr 0) (ac 0) (ah 0) (at_ 0), wB E bo β, wB E tr τ, wC E ac γ, wH E ah bd η, wT E at_ θ, wB E (bd 2) (σ 2), wB E (bd 3) (σ 3), wB E (bd 4) (σ 4), wB E (bd 5) (σ 5), wB E (bd 6) (σ 6), wB E (bd 7) (σ 7), wB E (bd 8) (σ 8), wB E (bd 9) (σ 9), wM E am μ, wO E ao (vp_updL o 0 1)]) (st1 := [.int 0]) [.ref ax, .int a, .ref ao] [0, 1, 2, 3, 4, 5, 6, 7, 8, 9, 10, 11, 12, 13, 15] (kL_hasOwner_rt l E ax bo β tr τ ac γ ah bd η σ at_ θ ao o hlt hvb a hr) q5_87 q1_0 (by decide +kernel) q5_86 q5_85 rfl ⟨Nat.le_of_ble_eq_true rfl, Nat.le_of_ble_eq_true rfl⟩ ⟨hk, hn⟩ (by decide) rfl rfl rfl rfl (Nat.le_of_ble_eq_true rfl) dL_law_1892 rfl ?_
      refine g_istore C (lv1 := [(5, .int 0), (0, .ref b0), (1, .ref ax), (2, .ref (am 0)), (3, .ref ao), (4, .int (nI i))]) dL_law_1895 (by decide) rfl ?_
      refine g_aload_n C dL_law_1897 rfl 3 rfl ?_
      refine g_aload_n C dL_law_1898 rfl 1 rfl ?_
      refine g_iload C dL_law_1899 5 rfl ?_
      refine g_iconst C (v := 1) dL_law_1901 (by decide) ?_
      refine g_iadd C dL_law_1902 ?_
      refine g_sldv C S (i + 1) (nx_add (rfl : nI i = nI i) (rfl : (1 : Int32) = nI 1)) (by omega) ha9 dL_law_1903 ?_
      refine g_callV C (cs1 := [wX ax (bo 0) (tr 0) (ac 0) (ah 0) (at_ 0), wB E bo β, wB E tr τ, wC E ac γ, wH E ah bd η, wT E at_ θ, wB E (bd 2) (σ 2), wB E (bd 3) (σ 3), wB E (bd 4) (σ 4), wB E (bd 5) (σ 5), wB E (bd 6) (σ 6), wB E (bd 7) (σ 7), wB E (bd 8) (σ 8), wB E (bd 9) (σ 9), wM E am ((fX7_hasOwner μ a).2), wO E ao (vp_updL o 0 1)]) (st1 := [.int (b2i ((fX7_hasOwner μ a).1))]) [.int a] [14] (kX7_hasOwner l E am μ hvm a) caX7_hasOwner q7_159 rfl ⟨Nat.le_of_ble_eq_true rfl, Nat.le_of_ble_eq_true rfl⟩ ⟨hk, hn⟩ 14 0 rfl rfl rfl rfl (by decide) rfl rfl rfl rfl (Nat.le_of_ble_eq_true rfl) dL_law_1904 rfl ?_
      refine g_istore C (lv1 := [(6, .int (b2i ((fX7_hasOwner μ a).1))), (5, .int 0), (0, .ref b0), (1, .ref ax), (2, .ref (am 0)), (3, .ref ao), (4, .int (nI i))]) dL_law_1907 (by decide) rfl ?_
      refine g_aload_n C dL_law_1909 rfl 4 rfl ?_
      refine g_callV C (cs1 := [wX ax (bo 0) (tr 0) (ac 0) (ah 0) (at_ 0), wB E bo β, wB E tr τ, wC E ac γ, wH E ah bd η, wT E at_ θ, wB E (bd 2) (σ 2), wB E (bd 3) (σ 3), wB E (bd 4) (σ 4), wB E (bd 5) (σ 5), wB E (bd 6) (σ 6), wB E (bd 7) (σ 7), wB E (bd 8) (σ 8), wB E (bd 9) (σ 9), wM E am ((fX7_hasOwner μ a).2), wO E ao (vp_updL o 0 1)]) (st1 := [.int (fX7_thrown ((fX7_hasOwner μ a).2))]) [] [14] (kX7_thrown l E am ((fX7_hasOwner μ a).2)) caX7_thrown q6_116 rfl ⟨Nat.le_of_ble_eq_true rfl, Nat.le_of_ble_eq_true rfl⟩ ⟨hk, hn⟩ 14 0 rfl rfl rfl rfl (by decide) rfl rfl rfl rfl (Nat.le_of_ble_eq_true rfl) dL_law_1910 rfl ?_
      refine g_iload C dL_law_1913 1 rfl ?_
      refine g_icmp_eq C 1920 dL_law_1915 (by decide) (fun _ => ?_) (fun c => absurd ht c)
      refine g_iload C dL_law_1920 1 rfl ?_
      refine g_if_ne C 1944 dL_law_1922 (by decide) (fun c => absurd rfl c) (fun _ => ?_)
      refine g_aload_n C dL_law_1925 rfl 5 rfl ?_
      refine g_iconst C (v := 0) dL_law_1926 (by decide) ?_
      refine g_laldn C 15 0 0 rfl rfl rfl (by decide) (by decide) dL_law_1927 ?_
      refine g_iload C dL_law_1928 0 rfl ?_
      refine g_ifB_eq C 1937 dL_law_1930 (by decide) (fun c => absurd (hbv.symm.trans c) (by decide)) (fun _ => ?_)
      refine g_lconst C (v := 1) dL_law_1933 (by decide) ?_
      refine g_goto C 1938 dL_law_1934 (by decide) ?_
      refine g_lcmp C dL_law_1938 ?_
      refine g_if_eq C 1944 dL_law_1939 (by decide) (fun _ => ?_) (fun c => absurd law_cmp c)
      refine g_goto C 3840 dL_law_1944 (by decide) ?_
      exact g_sub [2, 3, 4, 5, 6] rfl (next β τ γ η σ θ ((fX7_hasOwner μ a).2) (vp_updL o 0 1) hR2)
    | false =>
      rw [hbv] at hr
      refine g_aload_n C dL_law_1884 rfl 1 rfl ?_
      refine g_aload_n C dL_law_1885 rfl 0 rfl ?_
      refine g_iload C dL_law_1886 4 rfl ?_
      refine g_iconst C (v := 1) dL_law_1888 (by decide) ?_
      refine g_iadd C dL_law_1889 ?_
      refine g_sldv C S (i + 1) (nx_add (rfl : nI i = nI i) (rfl : (1 : Int32) = nI 1)) (by omega) ha9 dL_law_1890 ?_
      refine g_aload_n C dL_law_1891 rfl 3 rfl ?_
      refine g_callSW C hZ hNc (z := 3) (cs1 := [wX ax (bo 0) (tr 0) (ac 0) (ah 0) (at_ 0), wB E bo β, wB E tr τ, wC E ac γ, wH E ah bd η, wT E at_ θ, wB E (bd 2) (σ 2), wB E (bd 3) (σ 3), wB E (bd 4) (σ 4), wB E (bd 5) (σ 5), wB E (bd 6) (σ 6), wB E (bd 7) (σ 7), wB E (bd 8) (σ 8), wB E (bd 9) (σ 9), wM E am μ, wO E ao (vp_updL o 0 0)]) (st1 := [.int 0]) [.ref ax, .int a, .ref ao] [0, 1, 2, 3, 4, 5, 6, 7, 8, 9, 10, 11, 12, 13, 15] (kL_hasOwner_rf l E ax bo β tr τ ac γ ah bd η σ at_ θ ao o hlt hvb a hr) q5_87 q1_0 (by decide +kernel) q5_86 q5_85 rfl ⟨Nat.le_of_ble_eq_true rfl, Nat.le_of_ble_eq_true rfl⟩ ⟨hk, hn⟩ (by decide) rfl rfl rfl rfl (Nat.le_of_ble_eq_true rfl) dL_law_1892 rfl ?_
      refine g_istore C (lv1 := [(5, .int 0), (0, .ref b0), (1, .ref ax), (2, .ref (am 0)), (3, .ref ao), (4, .int (nI i))]) dL_law_1895 (by decide) rfl ?_
      refine g_aload_n C dL_law_1897 rfl 3 rfl ?_
      refine g_aload_n C dL_law_1898 rfl 1 rfl ?_
      refine g_iload C dL_law_1899 5 rfl ?_
      refine g_iconst C (v := 1) dL_law_1901 (by decide) ?_
      refine g_iadd C dL_law_1902 ?_
      refine g_sldv C S (i + 1) (nx_add (rfl : nI i = nI i) (rfl : (1 : Int32) = nI 1)) (by omega) ha9 dL_law_1903 ?_
      refine g_callV C (cs1 := [wX ax (bo 0) (tr 0) (ac 0) (ah 0) (at_ 0), wB E bo β, wB E tr τ, wC E ac γ, wH E ah bd η, wT E at_ θ, wB E (bd 2) (σ 2), wB E (bd 3) (σ 3), wB E (bd 4) (σ 4), wB E (bd 5) (σ 5), wB E (bd 6) (σ 6), wB E (bd 7) (σ 7), wB E (bd 8) (σ 8), wB E (bd 9) (σ 9), wM E am ((fX7_hasOwner μ a).2), wO E ao (vp_updL o 0 0)]) (st1 := [.int (b2i ((fX7_hasOwner μ a).1))]) [.int a] [14] (kX7_hasOwner l E am μ hvm a) caX7_hasOwner q7_159 rfl ⟨Nat.le_of_ble_eq_true rfl, Nat.le_of_ble_eq_true rfl⟩ ⟨hk, hn⟩ 14 0 rfl rfl rfl rfl (by decide) rfl rfl rfl rfl (Nat.le_of_ble_eq_true rfl) dL_law_1904 rfl ?_
      refine g_istore C (lv1 := [(6, .int (b2i ((fX7_hasOwner μ a).1))), (5, .int 0), (0, .ref b0), (1, .ref ax), (2, .ref (am 0)), (3, .ref ao), (4, .int (nI i))]) dL_law_1907 (by decide) rfl ?_
      refine g_aload_n C dL_law_1909 rfl 4 rfl ?_
      refine g_callV C (cs1 := [wX ax (bo 0) (tr 0) (ac 0) (ah 0) (at_ 0), wB E bo β, wB E tr τ, wC E ac γ, wH E ah bd η, wT E at_ θ, wB E (bd 2) (σ 2), wB E (bd 3) (σ 3), wB E (bd 4) (σ 4), wB E (bd 5) (σ 5), wB E (bd 6) (σ 6), wB E (bd 7) (σ 7), wB E (bd 8) (σ 8), wB E (bd 9) (σ 9), wM E am ((fX7_hasOwner μ a).2), wO E ao (vp_updL o 0 0)]) (st1 := [.int (fX7_thrown ((fX7_hasOwner μ a).2))]) [] [14] (kX7_thrown l E am ((fX7_hasOwner μ a).2)) caX7_thrown q6_116 rfl ⟨Nat.le_of_ble_eq_true rfl, Nat.le_of_ble_eq_true rfl⟩ ⟨hk, hn⟩ 14 0 rfl rfl rfl rfl (by decide) rfl rfl rfl rfl (Nat.le_of_ble_eq_true rfl) dL_law_1910 rfl ?_
      refine g_iload C dL_law_1913 1 rfl ?_
      refine g_icmp_eq C 1920 dL_law_1915 (by decide) (fun _ => ?_) (fun c => absurd ht c)
      refine g_iload C dL_law_1920 1 rfl ?_
      refine g_if_ne C 1944 dL_law_1922 (by decide) (fun c => absurd rfl c) (fun _ => ?_)
      refine g_aload_n C dL_law_1925 rfl 5 rfl ?_
      refine g_iconst C (v := 0) dL_law_1926 (by decide) ?_
      refine g_laldn C 15 0 0 rfl rfl rfl (by decide) (by decide) dL_law_1927 ?_
      refine g_iload C dL_law_1928 0 rfl ?_
      refine g_ifB_eq C 1937 dL_law_1930 (by decide) (fun _ => ?_) (fun c => absurd (hbv.symm.trans c) (by decide))
      refine g_lconst C (v := 0) dL_law_1937 (by decide) ?_
      refine g_lcmp C dL_law_1938 ?_
      refine g_if_eq C 1944 dL_law_1939 (by decide) (fun _ => ?_) (fun c => absurd law_cmp c)
      refine g_goto C 3840 dL_law_1944 (by decide) ?_
      exact g_sub [2, 3, 4, 5, 6] rfl (next β τ γ η σ θ ((fX7_hasOwner μ a).2) (vp_updL o 0 0) hR2)
  · skip
    refine g_aload_n C dL_law_1884 rfl 1 rfl ?_
    refine g_aload_n C dL_law_1885 rfl 0 rfl ?_
    refine g_iload C dL_law_1886 4 rfl ?_
    refine g_iconst C (v := 1) dL_law_1888 (by decide) ?_
    refine g_iadd C dL_law_1889 ?_
    refine g_sldv C S (i + 1) (nx_add (rfl : nI i = nI i) (rfl : (1 : Int32) = nI 1)) (by omega) ha9 dL_law_1890 ?_
    refine g_aload_n C dL_law_1891 rfl 3 rfl ?_
    refine g_callSW C hZ hNc (z := 3) (cs1 := [wX ax (bo 0) (tr 0) (ac 0) (ah 0) (at_ 0), wB E bo β, wB E tr τ, wC E ac γ, wH E ah bd η, wT E at_ θ, wB E (bd 2) (σ 2), wB E (bd 3) (σ 3), wB E (bd 4) (σ 4), wB E (bd 5) (σ 5), wB E (bd 6) (σ 6), wB E (bd 7) (σ 7), wB E (bd 8) (σ 8), wB E (bd 9) (σ 9), wM E am μ, wO E ao o]) (st1 := [.int 1]) [.ref ax, .int a, .ref ao] [0, 1, 2, 3, 4, 5, 6, 7, 8, 9, 10, 11, 12, 13, 15] (kL_hasOwner_0 l E ax bo β tr τ ac γ ah bd η σ at_ θ ao o hlt hvb a hr) q5_87 q1_0 (by decide +kernel) q5_86 q5_85 rfl ⟨Nat.le_of_ble_eq_true rfl, Nat.le_of_ble_eq_true rfl⟩ ⟨hk, hn⟩ (by decide) rfl rfl rfl rfl (Nat.le_of_ble_eq_true rfl) dL_law_1892 rfl ?_
    refine g_istore C (lv1 := [(5, .int 1), (0, .ref b0), (1, .ref ax), (2, .ref (am 0)), (3, .ref ao), (4, .int (nI i))]) dL_law_1895 (by decide) rfl ?_
    refine g_aload_n C dL_law_1897 rfl 3 rfl ?_
    refine g_aload_n C dL_law_1898 rfl 1 rfl ?_
    refine g_iload C dL_law_1899 5 rfl ?_
    refine g_iconst C (v := 1) dL_law_1901 (by decide) ?_
    refine g_iadd C dL_law_1902 ?_
    refine g_sldv C S (i + 1) (nx_add (rfl : nI i = nI i) (rfl : (1 : Int32) = nI 1)) (by omega) ha9 dL_law_1903 ?_
    refine g_callV C (cs1 := [wX ax (bo 0) (tr 0) (ac 0) (ah 0) (at_ 0), wB E bo β, wB E tr τ, wC E ac γ, wH E ah bd η, wT E at_ θ, wB E (bd 2) (σ 2), wB E (bd 3) (σ 3), wB E (bd 4) (σ 4), wB E (bd 5) (σ 5), wB E (bd 6) (σ 6), wB E (bd 7) (σ 7), wB E (bd 8) (σ 8), wB E (bd 9) (σ 9), wM E am ((fX7_hasOwner μ a).2), wO E ao o]) (st1 := [.int (b2i ((fX7_hasOwner μ a).1))]) [.int a] [14] (kX7_hasOwner l E am μ hvm a) caX7_hasOwner q7_159 rfl ⟨Nat.le_of_ble_eq_true rfl, Nat.le_of_ble_eq_true rfl⟩ ⟨hk, hn⟩ 14 0 rfl rfl rfl rfl (by decide) rfl rfl rfl rfl (Nat.le_of_ble_eq_true rfl) dL_law_1904 rfl ?_
    refine g_istore C (lv1 := [(6, .int (b2i ((fX7_hasOwner μ a).1))), (5, .int 1), (0, .ref b0), (1, .ref ax), (2, .ref (am 0)), (3, .ref ao), (4, .int (nI i))]) dL_law_1907 (by decide) rfl ?_
    refine g_aload_n C dL_law_1909 rfl 4 rfl ?_
    refine g_callV C (cs1 := [wX ax (bo 0) (tr 0) (ac 0) (ah 0) (at_ 0), wB E bo β, wB E tr τ, wC E ac γ, wH E ah bd η, wT E at_ θ, wB E (bd 2) (σ 2), wB E (bd 3) (σ 3), wB E (bd 4) (σ 4), wB E (bd 5) (σ 5), wB E (bd 6) (σ 6), wB E (bd 7) (σ 7), wB E (bd 8) (σ 8), wB E (bd 9) (σ 9), wM E am ((fX7_hasOwner μ a).2), wO E ao o]) (st1 := [.int (fX7_thrown ((fX7_hasOwner μ a).2))]) [] [14] (kX7_thrown l E am ((fX7_hasOwner μ a).2)) caX7_thrown q6_116 rfl ⟨Nat.le_of_ble_eq_true rfl, Nat.le_of_ble_eq_true rfl⟩ ⟨hk, hn⟩ 14 0 rfl rfl rfl rfl (by decide) rfl rfl rfl rfl (Nat.le_of_ble_eq_true rfl) dL_law_1910 rfl ?_
    refine g_iload C dL_law_1913 1 rfl ?_
    refine g_icmp_eq C 1920 dL_law_1915 (by decide) (fun _ => ?_) (fun c => absurd ht c)
    refine g_iload C dL_law_1920 1 rfl ?_
    refine g_if_ne C 1944 dL_law_1922 (by decide) (fun _ => ?_) (fun c => absurd c (by decide))
    refine g_goto C 3840 dL_law_1944 (by decide) ?_
    exact g_sub [2, 3, 4, 5, 6] rfl (next β τ γ η σ θ ((fX7_hasOwner μ a).2) o hR2)
set_option maxHeartbeats 4000000 in
set_option maxRecDepth 100000 in
theorem arm_32 {Rl : RlT} (hRv : RlV Rl) (hs : sH_ownerOf Rl)  {X : gX} {l : Launch} {E : gE} (C : gC X cL_law 9 RL (some .boolean) l E room_1) (hZ : gZ X.2.2.2.2.2.2.2.2.2.2.2.1 X.2.2.2.2.1 X.2.2.2.2.1.heap) (hNc : gNc X.2.2.2.2.1) {b0 L0 : Nat} {xs : Nat → Int32} (S : gS X b0 L0 xs) (hlt : l.stackTraces = false) {ax : Nat} {bo tr ac ah : Nat → Nat} {bd : Nat → Nat → Nat} {at_ am : Nat → Nat} {ao k n i : Nat} (hk : k + 3 ≤ 601024) (hn : n + 18 ≤ 7293034) (hi : i + 3 ≤ L0) {β τ γ η : BS} {σ : Nat → BS} {θ μ : BS} {o : Nat → Int64} (hR : Rl β η θ σ μ) (next : ∀ (β τ γ η : BS) (σ : Nat → BS) (θ μ : BS) (o : Nat → Int64), Rl β η θ σ μ → G X (k + 3) (n + 18) [wX ax (bo 0) (tr 0) (ac 0) (ah 0) (at_ 0), wB E bo β, wB E tr τ, wC E ac γ, wH E ah bd η, wT E at_ θ, wB E (bd 2) (σ 2), wB E (bd 3) (σ 3), wB E (bd 4) (σ 4), wB E (bd 5) (σ 5), wB E (bd 6) (σ 6), wB E (bd 7) (σ 7), wB E (bd 8) (σ 8), wB E (bd 9) (σ 9), wM E am μ, wO E ao o] [(0, .ref b0), (1, .ref ax), (2, .ref (am 0)), (3, .ref ao), (4, .int (nI i))] 3840 []) : G X k n [wX ax (bo 0) (tr 0) (ac 0) (ah 0) (at_ 0), wB E bo β, wB E tr τ, wC E ac γ, wH E ah bd η, wT E at_ θ, wB E (bd 2) (σ 2), wB E (bd 3) (σ 3), wB E (bd 4) (σ 4), wB E (bd 5) (σ 5), wB E (bd 6) (σ 6), wB E (bd 7) (σ 7), wB E (bd 8) (σ 8), wB E (bd 9) (σ 9), wM E am μ, wO E ao o] [(0, .ref b0), (1, .ref ax), (2, .ref (am 0)), (3, .ref ao), (4, .int (nI i))] 1947 [] := by
  obtain ⟨hvb, hvh, hvt, hvm, ha⟩ := hRv β η θ σ μ hR
  obtain ⟨a, ha9⟩ : ∃ a, xs (i + 1) = a := ⟨_, rfl⟩
  obtain ⟨hag, hR2⟩ := hs β τ γ η σ θ μ a hR
  rcases hag with ⟨hr, ht⟩ | ⟨hr, ht⟩ | ⟨hr, ht⟩
  · skip
    refine g_aload_n C dL_law_1947 rfl 1 rfl ?_
    refine g_aload_n C dL_law_1948 rfl 0 rfl ?_
    refine g_iload C dL_law_1949 4 rfl ?_
    refine g_iconst C (v := 1) dL_law_1951 (by decide) ?_
    refine g_iadd C dL_law_1952 ?_
    refine g_sldv C S (i + 1) (nx_add (rfl : nI i = nI i) (rfl : (1 : Int32) = nI 1)) (by omega) ha9 dL_law_1953 ?_
    refine g_aload_n C dL_law_1954 rfl 3 rfl ?_
    refine g_callSW C hZ hNc (z := 3) (cs1 := [wX ax (bo 0) (tr 0) (ac 0) (ah 0) (at_ 0), wB E bo β, wB E tr τ, wC E ac γ, wH E ah bd η, wT E at_ θ, wB E (bd 2) (σ 2), wB E (bd 3) (σ 3), wB E (bd 4) (σ 4), wB E (bd 5) (σ 5), wB E (bd 6) (σ 6), wB E (bd 7) (σ 7), wB E (bd 8) (σ 8), wB E (bd 9) (σ 9), wM E am μ, wO E ao (vp_updL o 0 ((fX7_ownerOf μ a).1).toInt64)]) (st1 := [.int 0]) [.ref ax, .int a, .ref ao] [0, 1, 2, 3, 4, 5, 6, 7, 8, 9, 10, 11, 12, 13, 15] (kL_ownerOf_r l E ax bo β tr τ ac γ ah bd η σ at_ θ ao o hlt hvb a ((fX7_ownerOf μ a).1) hr) q5_94 q1_0 (by decide +kernel) q5_93 q5_92 rfl ⟨Nat.le_of_ble_eq_true rfl, Nat.le_of_ble_eq_true rfl⟩ ⟨hk, hn⟩ (by decide) rfl rfl rfl rfl (Nat.le_of_ble_eq_true rfl) dL_law_1955 rfl ?_
    refine g_istore C (lv1 := [(5, .int 0), (0, .ref b0), (1, .ref ax), (2, .ref (am 0)), (3, .ref ao), (4, .int (nI i))]) dL_law_1958 (by decide) rfl ?_
    refine g_aload_n C dL_law_1960 rfl 3 rfl ?_
    refine g_aload_n C dL_law_1961 rfl 1 rfl ?_
    refine g_iload C dL_law_1962 5 rfl ?_
    refine g_iconst C (v := 1) dL_law_1964 (by decide) ?_
    refine g_iadd C dL_law_1965 ?_
    refine g_sldv C S (i + 1) (nx_add (rfl : nI i = nI i) (rfl : (1 : Int32) = nI 1)) (by omega) ha9 dL_law_1966 ?_
    refine g_callV C (cs1 := [wX ax (bo 0) (tr 0) (ac 0) (ah 0) (at_ 0), wB E bo β, wB E tr τ, wC E ac γ, wH E ah bd η, wT E at_ θ, wB E (bd 2) (σ 2), wB E (bd 3) (σ 3), wB E (bd 4) (σ 4), wB E (bd 5) (σ 5), wB E (bd 6) (σ 6), wB E (bd 7) (σ 7), wB E (bd 8) (σ 8), wB E (bd 9) (σ 9), wM E am ((fX7_ownerOf μ a).2), wO E ao (vp_updL o 0 ((fX7_ownerOf μ a).1).toInt64)]) (st1 := [.int ((fX7_ownerOf μ a).1)]) [.int a] [14] (kX7_ownerOf l E am μ hvm a) caX7_ownerOf q7_163 rfl ⟨Nat.le_of_ble_eq_true rfl, Nat.le_of_ble_eq_true rfl⟩ ⟨hk, hn⟩ 14 0 rfl rfl rfl rfl (by decide) rfl rfl rfl rfl (Nat.le_of_ble_eq_true rfl) dL_law_1967 rfl ?_
    refine g_istore C (lv1 := [(6, .int ((fX7_ownerOf μ a).1)), (5, .int 0), (0, .ref b0), (1, .ref ax), (2, .ref (am 0)), (3, .ref ao), (4, .int (nI i))]) dL_law_1970 (by decide) rfl ?_
    refine g_aload_n C dL_law_1972 rfl 4 rfl ?_
    refine g_callV C (cs1 := [wX ax (bo 0) (tr 0) (ac 0) (ah 0) (at_ 0), wB E bo β, wB E tr τ, wC E ac γ, wH E ah bd η, wT E at_ θ, wB E (bd 2) (σ 2), wB E (bd 3) (σ 3), wB E (bd 4) (σ 4), wB E (bd 5) (σ 5), wB E (bd 6) (σ 6), wB E (bd 7) (σ 7), wB E (bd 8) (σ 8), wB E (bd 9) (σ 9), wM E am ((fX7_ownerOf μ a).2), wO E ao (vp_updL o 0 ((fX7_ownerOf μ a).1).toInt64)]) (st1 := [.int (fX7_thrown ((fX7_ownerOf μ a).2))]) [] [14] (kX7_thrown l E am ((fX7_ownerOf μ a).2)) caX7_thrown q6_116 rfl ⟨Nat.le_of_ble_eq_true rfl, Nat.le_of_ble_eq_true rfl⟩ ⟨hk, hn⟩ 14 0 rfl rfl rfl rfl (by decide) rfl rfl rfl rfl (Nat.le_of_ble_eq_true rfl) dL_law_1973 rfl ?_
    refine g_iload C dL_law_1976 1 rfl ?_
    refine g_icmp_eq C 1983 dL_law_1978 (by decide) (fun _ => ?_) (fun c => absurd ht c)
    refine g_iload C dL_law_1983 1 rfl ?_
    refine g_if_ne C 2000 dL_law_1985 (by decide) (fun c => absurd rfl c) (fun _ => ?_)
    refine g_aload_n C dL_law_1988 rfl 5 rfl ?_
    refine g_iconst C (v := 0) dL_law_1989 (by decide) ?_
    refine g_laldn C 15 0 0 rfl rfl rfl (by decide) (by decide) dL_law_1990 ?_
    refine g_iload C dL_law_1991 0 rfl ?_
    refine g_i2l C dL_law_1993 ?_
    refine g_lcmp C dL_law_1994 ?_
    refine g_if_eq C 2000 dL_law_1995 (by decide) (fun _ => ?_) (fun c => absurd law_cmp c)
    refine g_goto C 3840 dL_law_2000 (by decide) ?_
    exact g_sub [2, 3, 4, 5, 6] rfl (next β τ γ η σ θ ((fX7_ownerOf μ a).2) (vp_updL o 0 ((fX7_ownerOf μ a).1).toInt64) hR2)
  · skip
    refine g_aload_n C dL_law_1947 rfl 1 rfl ?_
    refine g_aload_n C dL_law_1948 rfl 0 rfl ?_
    refine g_iload C dL_law_1949 4 rfl ?_
    refine g_iconst C (v := 1) dL_law_1951 (by decide) ?_
    refine g_iadd C dL_law_1952 ?_
    refine g_sldv C S (i + 1) (nx_add (rfl : nI i = nI i) (rfl : (1 : Int32) = nI 1)) (by omega) ha9 dL_law_1953 ?_
    refine g_aload_n C dL_law_1954 rfl 3 rfl ?_
    refine g_callSW C hZ hNc (z := 3) (cs1 := [wX ax (bo 0) (tr 0) (ac 0) (ah 0) (at_ 0), wB E bo β, wB E tr τ, wC E ac γ, wH E ah bd η, wT E at_ θ, wB E (bd 2) (σ 2), wB E (bd 3) (σ 3), wB E (bd 4) (σ 4), wB E (bd 5) (σ 5), wB E (bd 6) (σ 6), wB E (bd 7) (σ 7), wB E (bd 8) (σ 8), wB E (bd 9) (σ 9), wM E am μ, wO E ao o]) (st1 := [.int 1]) [.ref ax, .int a, .ref ao] [0, 1, 2, 3, 4, 5, 6, 7, 8, 9, 10, 11, 12, 13, 15] (kL_ownerOf_0 l E ax bo β tr τ ac γ ah bd η σ at_ θ ao o hlt hvb a hr) q5_94 q1_0 (by decide +kernel) q5_93 q5_92 rfl ⟨Nat.le_of_ble_eq_true rfl, Nat.le_of_ble_eq_true rfl⟩ ⟨hk, hn⟩ (by decide) rfl rfl rfl rfl (Nat.le_of_ble_eq_true rfl) dL_law_1955 rfl ?_
    refine g_istore C (lv1 := [(5, .int 1), (0, .ref b0), (1, .ref ax), (2, .ref (am 0)), (3, .ref ao), (4, .int (nI i))]) dL_law_1958 (by decide) rfl ?_
    refine g_aload_n C dL_law_1960 rfl 3 rfl ?_
    refine g_aload_n C dL_law_1961 rfl 1 rfl ?_
    refine g_iload C dL_law_1962 5 rfl ?_
    refine g_iconst C (v := 1) dL_law_1964 (by decide) ?_
    refine g_iadd C dL_law_1965 ?_
    refine g_sldv C S (i + 1) (nx_add (rfl : nI i = nI i) (rfl : (1 : Int32) = nI 1)) (by omega) ha9 dL_law_1966 ?_
    refine g_callV C (cs1 := [wX ax (bo 0) (tr 0) (ac 0) (ah 0) (at_ 0), wB E bo β, wB E tr τ, wC E ac γ, wH E ah bd η, wT E at_ θ, wB E (bd 2) (σ 2), wB E (bd 3) (σ 3), wB E (bd 4) (σ 4), wB E (bd 5) (σ 5), wB E (bd 6) (σ 6), wB E (bd 7) (σ 7), wB E (bd 8) (σ 8), wB E (bd 9) (σ 9), wM E am ((fX7_ownerOf μ a).2), wO E ao o]) (st1 := [.int ((fX7_ownerOf μ a).1)]) [.int a] [14] (kX7_ownerOf l E am μ hvm a) caX7_ownerOf q7_163 rfl ⟨Nat.le_of_ble_eq_true rfl, Nat.le_of_ble_eq_true rfl⟩ ⟨hk, hn⟩ 14 0 rfl rfl rfl rfl (by decide) rfl rfl rfl rfl (Nat.le_of_ble_eq_true rfl) dL_law_1967 rfl ?_
    refine g_istore C (lv1 := [(6, .int ((fX7_ownerOf μ a).1)), (5, .int 1), (0, .ref b0), (1, .ref ax), (2, .ref (am 0)), (3, .ref ao), (4, .int (nI i))]) dL_law_1970 (by decide) rfl ?_
    refine g_aload_n C dL_law_1972 rfl 4 rfl ?_
    refine g_callV C (cs1 := [wX ax (bo 0) (tr 0) (ac 0) (ah 0) (at_ 0), wB E bo β, wB E tr τ, wC E ac γ, wH E ah bd η, wT E at_ θ, wB E (bd 2) (σ 2), wB E (bd 3) (σ 3), wB E (bd 4) (σ 4), wB E (bd 5) (σ 5), wB E (bd 6) (σ 6), wB E (bd 7) (σ 7), wB E (bd 8) (σ 8), wB E (bd 9) (σ 9), wM E am ((fX7_ownerOf μ a).2), wO E ao o]) (st1 := [.int (fX7_thrown ((fX7_ownerOf μ a).2))]) [] [14] (kX7_thrown l E am ((fX7_ownerOf μ a).2)) caX7_thrown q6_116 rfl ⟨Nat.le_of_ble_eq_true rfl, Nat.le_of_ble_eq_true rfl⟩ ⟨hk, hn⟩ 14 0 rfl rfl rfl rfl (by decide) rfl rfl rfl rfl (Nat.le_of_ble_eq_true rfl) dL_law_1973 rfl ?_
    refine g_iload C dL_law_1976 1 rfl ?_
    refine g_icmp_eq C 1983 dL_law_1978 (by decide) (fun _ => ?_) (fun c => absurd ht c)
    refine g_iload C dL_law_1983 1 rfl ?_
    refine g_if_ne C 2000 dL_law_1985 (by decide) (fun _ => ?_) (fun c => absurd c (by decide))
    refine g_goto C 3840 dL_law_2000 (by decide) ?_
    exact g_sub [2, 3, 4, 5, 6] rfl (next β τ γ η σ θ ((fX7_ownerOf μ a).2) o hR2)
  · skip
    refine g_aload_n C dL_law_1947 rfl 1 rfl ?_
    refine g_aload_n C dL_law_1948 rfl 0 rfl ?_
    refine g_iload C dL_law_1949 4 rfl ?_
    refine g_iconst C (v := 1) dL_law_1951 (by decide) ?_
    refine g_iadd C dL_law_1952 ?_
    refine g_sldv C S (i + 1) (nx_add (rfl : nI i = nI i) (rfl : (1 : Int32) = nI 1)) (by omega) ha9 dL_law_1953 ?_
    refine g_aload_n C dL_law_1954 rfl 3 rfl ?_
    refine g_callSW C hZ hNc (z := 3) (cs1 := [wX ax (bo 0) (tr 0) (ac 0) (ah 0) (at_ 0), wB E bo β, wB E tr τ, wC E ac γ, wH E ah bd η, wT E at_ θ, wB E (bd 2) (σ 2), wB E (bd 3) (σ 3), wB E (bd 4) (σ 4), wB E (bd 5) (σ 5), wB E (bd 6) (σ 6), wB E (bd 7) (σ 7), wB E (bd 8) (σ 8), wB E (bd 9) (σ 9), wM E am μ, wO E ao o]) (st1 := [.int 2]) [.ref ax, .int a, .ref ao] [0, 1, 2, 3, 4, 5, 6, 7, 8, 9, 10, 11, 12, 13, 15] (kL_ownerOf_1 l E ax bo β tr τ ac γ ah bd η σ at_ θ ao o hlt hvb a hr) q5_94 q1_0 (by decide +kernel) q5_93 q5_92 rfl ⟨Nat.le_of_ble_eq_true rfl, Nat.le_of_ble_eq_true rfl⟩ ⟨hk, hn⟩ (by decide) rfl rfl rfl rfl (Nat.le_of_ble_eq_true rfl) dL_law_1955 rfl ?_
    refine g_istore C (lv1 := [(5, .int 2), (0, .ref b0), (1, .ref ax), (2, .ref (am 0)), (3, .ref ao), (4, .int (nI i))]) dL_law_1958 (by decide) rfl ?_
    refine g_aload_n C dL_law_1960 rfl 3 rfl ?_
    refine g_aload_n C dL_law_1961 rfl 1 rfl ?_
    refine g_iload C dL_law_1962 5 rfl ?_
    refine g_iconst C (v := 1) dL_law_1964 (by decide) ?_
    refine g_iadd C dL_law_1965 ?_
    refine g_sldv C S (i + 1) (nx_add (rfl : nI i = nI i) (rfl : (1 : Int32) = nI 1)) (by omega) ha9 dL_law_1966 ?_
    refine g_callV C (cs1 := [wX ax (bo 0) (tr 0) (ac 0) (ah 0) (at_ 0), wB E bo β, wB E tr τ, wC E ac γ, wH E ah bd η, wT E at_ θ, wB E (bd 2) (σ 2), wB E (bd 3) (σ 3), wB E (bd 4) (σ 4), wB E (bd 5) (σ 5), wB E (bd 6) (σ 6), wB E (bd 7) (σ 7), wB E (bd 8) (σ 8), wB E (bd 9) (σ 9), wM E am ((fX7_ownerOf μ a).2), wO E ao o]) (st1 := [.int ((fX7_ownerOf μ a).1)]) [.int a] [14] (kX7_ownerOf l E am μ hvm a) caX7_ownerOf q7_163 rfl ⟨Nat.le_of_ble_eq_true rfl, Nat.le_of_ble_eq_true rfl⟩ ⟨hk, hn⟩ 14 0 rfl rfl rfl rfl (by decide) rfl rfl rfl rfl (Nat.le_of_ble_eq_true rfl) dL_law_1967 rfl ?_
    refine g_istore C (lv1 := [(6, .int ((fX7_ownerOf μ a).1)), (5, .int 2), (0, .ref b0), (1, .ref ax), (2, .ref (am 0)), (3, .ref ao), (4, .int (nI i))]) dL_law_1970 (by decide) rfl ?_
    refine g_aload_n C dL_law_1972 rfl 4 rfl ?_
    refine g_callV C (cs1 := [wX ax (bo 0) (tr 0) (ac 0) (ah 0) (at_ 0), wB E bo β, wB E tr τ, wC E ac γ, wH E ah bd η, wT E at_ θ, wB E (bd 2) (σ 2), wB E (bd 3) (σ 3), wB E (bd 4) (σ 4), wB E (bd 5) (σ 5), wB E (bd 6) (σ 6), wB E (bd 7) (σ 7), wB E (bd 8) (σ 8), wB E (bd 9) (σ 9), wM E am ((fX7_ownerOf μ a).2), wO E ao o]) (st1 := [.int (fX7_thrown ((fX7_ownerOf μ a).2))]) [] [14] (kX7_thrown l E am ((fX7_ownerOf μ a).2)) caX7_thrown q6_116 rfl ⟨Nat.le_of_ble_eq_true rfl, Nat.le_of_ble_eq_true rfl⟩ ⟨hk, hn⟩ 14 0 rfl rfl rfl rfl (by decide) rfl rfl rfl rfl (Nat.le_of_ble_eq_true rfl) dL_law_1973 rfl ?_
    refine g_iload C dL_law_1976 1 rfl ?_
    refine g_icmp_eq C 1983 dL_law_1978 (by decide) (fun _ => ?_) (fun c => absurd ht c)
    refine g_iload C dL_law_1983 1 rfl ?_
    refine g_if_ne C 2000 dL_law_1985 (by decide) (fun _ => ?_) (fun c => absurd c (by decide))
    refine g_goto C 3840 dL_law_2000 (by decide) ?_
    exact g_sub [2, 3, 4, 5, 6] rfl (next β τ γ η σ θ ((fX7_ownerOf μ a).2) o hR2)
set_option maxHeartbeats 4000000 in
set_option maxRecDepth 100000 in
theorem arm_33 {Rl : RlT} (hRv : RlV Rl) (hs : sH_isPlanned Rl)  {X : gX} {l : Launch} {E : gE} (C : gC X cL_law 9 RL (some .boolean) l E room_1) (hZ : gZ X.2.2.2.2.2.2.2.2.2.2.2.1 X.2.2.2.2.1 X.2.2.2.2.1.heap) (hNc : gNc X.2.2.2.2.1) {b0 L0 : Nat} {xs : Nat → Int32} (S : gS X b0 L0 xs) (hlt : l.stackTraces = false) {ax : Nat} {bo tr ac ah : Nat → Nat} {bd : Nat → Nat → Nat} {at_ am : Nat → Nat} {ao k n i : Nat} (hk : k + 3 ≤ 601024) (hn : n + 18 ≤ 7293034) (hi : i + 3 ≤ L0) {β τ γ η : BS} {σ : Nat → BS} {θ μ : BS} {o : Nat → Int64} (hR : Rl β η θ σ μ) (next : ∀ (β τ γ η : BS) (σ : Nat → BS) (θ μ : BS) (o : Nat → Int64), Rl β η θ σ μ → G X (k + 3) (n + 18) [wX ax (bo 0) (tr 0) (ac 0) (ah 0) (at_ 0), wB E bo β, wB E tr τ, wC E ac γ, wH E ah bd η, wT E at_ θ, wB E (bd 2) (σ 2), wB E (bd 3) (σ 3), wB E (bd 4) (σ 4), wB E (bd 5) (σ 5), wB E (bd 6) (σ 6), wB E (bd 7) (σ 7), wB E (bd 8) (σ 8), wB E (bd 9) (σ 9), wM E am μ, wO E ao o] [(0, .ref b0), (1, .ref ax), (2, .ref (am 0)), (3, .ref ao), (4, .int (nI i))] 3840 []) : G X k n [wX ax (bo 0) (tr 0) (ac 0) (ah 0) (at_ 0), wB E bo β, wB E tr τ, wC E ac γ, wH E ah bd η, wT E at_ θ, wB E (bd 2) (σ 2), wB E (bd 3) (σ 3), wB E (bd 4) (σ 4), wB E (bd 5) (σ 5), wB E (bd 6) (σ 6), wB E (bd 7) (σ 7), wB E (bd 8) (σ 8), wB E (bd 9) (σ 9), wM E am μ, wO E ao o] [(0, .ref b0), (1, .ref ax), (2, .ref (am 0)), (3, .ref ao), (4, .int (nI i))] 2003 [] := by
  obtain ⟨hvb, hvh, hvt, hvm, ha⟩ := hRv β η θ σ μ hR
  obtain ⟨a, ha9⟩ : ∃ a, xs (i + 1) = a := ⟨_, rfl⟩
  obtain ⟨hag, hR2⟩ := hs β τ γ η σ θ μ a hR
  rcases hag with ⟨hr, ht⟩ | ⟨hr, ht⟩
  · cases hbv : (fX7_isPlanned μ a).1 with
    | true =>
      rw [hbv] at hr
      refine g_aload_n C dL_law_2003 rfl 1 rfl ?_
      refine g_aload_n C dL_law_2004 rfl 0 rfl ?_
      refine g_iload C dL_law_2005 4 rfl ?_
      refine g_iconst C (v := 1) dL_law_2007 (by decide) ?_
      refine g_iadd C dL_law_2008 ?_
      refine g_sldv C S (i + 1) (nx_add (rfl : nI i = nI i) (rfl : (1 : Int32) = nI 1)) (by omega) ha9 dL_law_2009 ?_
      refine g_aload_n C dL_law_2010 rfl 3 rfl ?_
      refine g_callSW C hZ hNc (z := 3) (cs1 := [wX ax (bo 0) (tr 0) (ac 0) (ah 0) (at_ 0), wB E bo β, wB E tr τ, wC E ac γ, wH E ah bd η, wT E at_ θ, wB E (bd 2) (σ 2), wB E (bd 3) (σ 3), wB E (bd 4) (σ 4), wB E (bd 5) (σ 5), wB E (bd 6) (σ 6), wB E (bd 7) (σ 7), wB E (bd 8) (σ 8), wB E (bd 9) (σ 9), wM E am μ, wO E ao (vp_updL o 0 1)]) (st1 := [.int 0]) [.ref ax, .int a, .ref ao] [0, 1, 2, 3, 4, 5, 6, 7, 8, 9, 10, 11, 12, 13, 15] (kL_isPlanned_rt l E ax bo β tr τ ac γ ah bd η σ at_ θ ao o hlt hvb a hr) q5_101 q1_0 (by decide +kernel) q5_100 q5_99 rfl ⟨Nat.le_of_ble_eq_true rfl, Nat.le_of_ble_eq_true rfl⟩ ⟨hk, hn⟩ (by decide) rfl rfl rfl rfl (Nat.le_of_ble_eq_true rfl) dL_law_2011 rfl ?_
      refine g_istore C (lv1 := [(5, .int 0), (0, .ref b0), (1, .ref ax), (2, .ref (am 0)), (3, .ref ao), (4, .int (nI i))]) dL_law_2014 (by decide) rfl ?_
      refine g_aload_n C dL_law_2016 rfl 3 rfl ?_
      refine g_aload_n C dL_law_2017 rfl 1 rfl ?_
      refine g_iload C dL_law_2018 5 rfl ?_
      refine g_iconst C (v := 1) dL_law_2020 (by decide) ?_
      refine g_iadd C dL_law_2021 ?_
      refine g_sldv C S (i + 1) (nx_add (rfl : nI i = nI i) (rfl : (1 : Int32) = nI 1)) (by omega) ha9 dL_law_2022 ?_
      refine g_callV C (cs1 := [wX ax (bo 0) (tr 0) (ac 0) (ah 0) (at_ 0), wB E bo β, wB E tr τ, wC E ac γ, wH E ah bd η, wT E at_ θ, wB E (bd 2) (σ 2), wB E (bd 3) (σ 3), wB E (bd 4) (σ 4), wB E (bd 5) (σ 5), wB E (bd 6) (σ 6), wB E (bd 7) (σ 7), wB E (bd 8) (σ 8), wB E (bd 9) (σ 9), wM E am ((fX7_isPlanned μ a).2), wO E ao (vp_updL o 0 1)]) (st1 := [.int (b2i ((fX7_isPlanned μ a).1))]) [.int a] [14] (kX7_isPlanned l E am μ hvm a) caX7_isPlanned q7_167 rfl ⟨Nat.le_of_ble_eq_true rfl, Nat.le_of_ble_eq_true rfl⟩ ⟨hk, hn⟩ 14 0 rfl rfl rfl rfl (by decide) rfl rfl rfl rfl (Nat.le_of_ble_eq_true rfl) dL_law_2023 rfl ?_
      refine g_istore C (lv1 := [(6, .int (b2i ((fX7_isPlanned μ a).1))), (5, .int 0), (0, .ref b0), (1, .ref ax), (2, .ref (am 0)), (3, .ref ao), (4, .int (nI i))]) dL_law_2026 (by decide) rfl ?_
      refine g_aload_n C dL_law_2028 rfl 4 rfl ?_
      refine g_callV C (cs1 := [wX ax (bo 0) (tr 0) (ac 0) (ah 0) (at_ 0), wB E bo β, wB E tr τ, wC E ac γ, wH E ah bd η, wT E at_ θ, wB E (bd 2) (σ 2), wB E (bd 3) (σ 3), wB E (bd 4) (σ 4), wB E (bd 5) (σ 5), wB E (bd 6) (σ 6), wB E (bd 7) (σ 7), wB E (bd 8) (σ 8), wB E (bd 9) (σ 9), wM E am ((fX7_isPlanned μ a).2), wO E ao (vp_updL o 0 1)]) (st1 := [.int (fX7_thrown ((fX7_isPlanned μ a).2))]) [] [14] (kX7_thrown l E am ((fX7_isPlanned μ a).2)) caX7_thrown q6_116 rfl ⟨Nat.le_of_ble_eq_true rfl, Nat.le_of_ble_eq_true rfl⟩ ⟨hk, hn⟩ 14 0 rfl rfl rfl rfl (by decide) rfl rfl rfl rfl (Nat.le_of_ble_eq_true rfl) dL_law_2029 rfl ?_
      refine g_iload C dL_law_2032 1 rfl ?_
      refine g_icmp_eq C 2039 dL_law_2034 (by decide) (fun _ => ?_) (fun c => absurd ht c)
      refine g_iload C dL_law_2039 1 rfl ?_
      refine g_if_ne C 2063 dL_law_2041 (by decide) (fun c => absurd rfl c) (fun _ => ?_)
      refine g_aload_n C dL_law_2044 rfl 5 rfl ?_
      refine g_iconst C (v := 0) dL_law_2045 (by decide) ?_
      refine g_laldn C 15 0 0 rfl rfl rfl (by decide) (by decide) dL_law_2046 ?_
      refine g_iload C dL_law_2047 0 rfl ?_
      refine g_ifB_eq C 2056 dL_law_2049 (by decide) (fun c => absurd (hbv.symm.trans c) (by decide)) (fun _ => ?_)
      refine g_lconst C (v := 1) dL_law_2052 (by decide) ?_
      refine g_goto C 2057 dL_law_2053 (by decide) ?_
      refine g_lcmp C dL_law_2057 ?_
      refine g_if_eq C 2063 dL_law_2058 (by decide) (fun _ => ?_) (fun c => absurd law_cmp c)
      refine g_goto C 3840 dL_law_2063 (by decide) ?_
      exact g_sub [2, 3, 4, 5, 6] rfl (next β τ γ η σ θ ((fX7_isPlanned μ a).2) (vp_updL o 0 1) hR2)
    | false =>
      rw [hbv] at hr
      refine g_aload_n C dL_law_2003 rfl 1 rfl ?_
      refine g_aload_n C dL_law_2004 rfl 0 rfl ?_
      refine g_iload C dL_law_2005 4 rfl ?_
      refine g_iconst C (v := 1) dL_law_2007 (by decide) ?_
      refine g_iadd C dL_law_2008 ?_
      refine g_sldv C S (i + 1) (nx_add (rfl : nI i = nI i) (rfl : (1 : Int32) = nI 1)) (by omega) ha9 dL_law_2009 ?_
      refine g_aload_n C dL_law_2010 rfl 3 rfl ?_
      refine g_callSW C hZ hNc (z := 3) (cs1 := [wX ax (bo 0) (tr 0) (ac 0) (ah 0) (at_ 0), wB E bo β, wB E tr τ, wC E ac γ, wH E ah bd η, wT E at_ θ, wB E (bd 2) (σ 2), wB E (bd 3) (σ 3), wB E (bd 4) (σ 4), wB E (bd 5) (σ 5), wB E (bd 6) (σ 6), wB E (bd 7) (σ 7), wB E (bd 8) (σ 8), wB E (bd 9) (σ 9), wM E am μ, wO E ao (vp_updL o 0 0)]) (st1 := [.int 0]) [.ref ax, .int a, .ref ao] [0, 1, 2, 3, 4, 5, 6, 7, 8, 9, 10, 11, 12, 13, 15] (kL_isPlanned_rf l E ax bo β tr τ ac γ ah bd η σ at_ θ ao o hlt hvb a hr) q5_101 q1_0 (by decide +kernel) q5_100 q5_99 rfl ⟨Nat.le_of_ble_eq_true rfl, Nat.le_of_ble_eq_true rfl⟩ ⟨hk, hn⟩ (by decide) rfl rfl rfl rfl (Nat.le_of_ble_eq_true rfl) dL_law_2011 rfl ?_
      refine g_istore C (lv1 := [(5, .int 0), (0, .ref b0), (1, .ref ax), (2, .ref (am 0)), (3, .ref ao), (4, .int (nI i))]) dL_law_2014 (by decide) rfl ?_
      refine g_aload_n C dL_law_2016 rfl 3 rfl ?_
      refine g_aload_n C dL_law_2017 rfl 1 rfl ?_
      refine g_iload C dL_law_2018 5 rfl ?_
      refine g_iconst C (v := 1) dL_law_2020 (by decide) ?_
      refine g_iadd C dL_law_2021 ?_
      refine g_sldv C S (i + 1) (nx_add (rfl : nI i = nI i) (rfl : (1 : Int32) = nI 1)) (by omega) ha9 dL_law_2022 ?_
      refine g_callV C (cs1 := [wX ax (bo 0) (tr 0) (ac 0) (ah 0) (at_ 0), wB E bo β, wB E tr τ, wC E ac γ, wH E ah bd η, wT E at_ θ, wB E (bd 2) (σ 2), wB E (bd 3) (σ 3), wB E (bd 4) (σ 4), wB E (bd 5) (σ 5), wB E (bd 6) (σ 6), wB E (bd 7) (σ 7), wB E (bd 8) (σ 8), wB E (bd 9) (σ 9), wM E am ((fX7_isPlanned μ a).2), wO E ao (vp_updL o 0 0)]) (st1 := [.int (b2i ((fX7_isPlanned μ a).1))]) [.int a] [14] (kX7_isPlanned l E am μ hvm a) caX7_isPlanned q7_167 rfl ⟨Nat.le_of_ble_eq_true rfl, Nat.le_of_ble_eq_true rfl⟩ ⟨hk, hn⟩ 14 0 rfl rfl rfl rfl (by decide) rfl rfl rfl rfl (Nat.le_of_ble_eq_true rfl) dL_law_2023 rfl ?_
      refine g_istore C (lv1 := [(6, .int (b2i ((fX7_isPlanned μ a).1))), (5, .int 0), (0, .ref b0), (1, .ref ax), (2, .ref (am 0)), (3, .ref ao), (4, .int (nI i))]) dL_law_2026 (by decide) rfl ?_
      refine g_aload_n C dL_law_2028 rfl 4 rfl ?_
      refine g_callV C (cs1 := [wX ax (bo 0) (tr 0) (ac 0) (ah 0) (at_ 0), wB E bo β, wB E tr τ, wC E ac γ, wH E ah bd η, wT E at_ θ, wB E (bd 2) (σ 2), wB E (bd 3) (σ 3), wB E (bd 4) (σ 4), wB E (bd 5) (σ 5), wB E (bd 6) (σ 6), wB E (bd 7) (σ 7), wB E (bd 8) (σ 8), wB E (bd 9) (σ 9), wM E am ((fX7_isPlanned μ a).2), wO E ao (vp_updL o 0 0)]) (st1 := [.int (fX7_thrown ((fX7_isPlanned μ a).2))]) [] [14] (kX7_thrown l E am ((fX7_isPlanned μ a).2)) caX7_thrown q6_116 rfl ⟨Nat.le_of_ble_eq_true rfl, Nat.le_of_ble_eq_true rfl⟩ ⟨hk, hn⟩ 14 0 rfl rfl rfl rfl (by decide) rfl rfl rfl rfl (Nat.le_of_ble_eq_true rfl) dL_law_2029 rfl ?_
      refine g_iload C dL_law_2032 1 rfl ?_
      refine g_icmp_eq C 2039 dL_law_2034 (by decide) (fun _ => ?_) (fun c => absurd ht c)
      refine g_iload C dL_law_2039 1 rfl ?_
      refine g_if_ne C 2063 dL_law_2041 (by decide) (fun c => absurd rfl c) (fun _ => ?_)
      refine g_aload_n C dL_law_2044 rfl 5 rfl ?_
      refine g_iconst C (v := 0) dL_law_2045 (by decide) ?_
      refine g_laldn C 15 0 0 rfl rfl rfl (by decide) (by decide) dL_law_2046 ?_
      refine g_iload C dL_law_2047 0 rfl ?_
      refine g_ifB_eq C 2056 dL_law_2049 (by decide) (fun _ => ?_) (fun c => absurd (hbv.symm.trans c) (by decide))
      refine g_lconst C (v := 0) dL_law_2056 (by decide) ?_
      refine g_lcmp C dL_law_2057 ?_
      refine g_if_eq C 2063 dL_law_2058 (by decide) (fun _ => ?_) (fun c => absurd law_cmp c)
      refine g_goto C 3840 dL_law_2063 (by decide) ?_
      exact g_sub [2, 3, 4, 5, 6] rfl (next β τ γ η σ θ ((fX7_isPlanned μ a).2) (vp_updL o 0 0) hR2)
  · skip
    refine g_aload_n C dL_law_2003 rfl 1 rfl ?_
    refine g_aload_n C dL_law_2004 rfl 0 rfl ?_
    refine g_iload C dL_law_2005 4 rfl ?_
    refine g_iconst C (v := 1) dL_law_2007 (by decide) ?_
    refine g_iadd C dL_law_2008 ?_
    refine g_sldv C S (i + 1) (nx_add (rfl : nI i = nI i) (rfl : (1 : Int32) = nI 1)) (by omega) ha9 dL_law_2009 ?_
    refine g_aload_n C dL_law_2010 rfl 3 rfl ?_
    refine g_callSW C hZ hNc (z := 3) (cs1 := [wX ax (bo 0) (tr 0) (ac 0) (ah 0) (at_ 0), wB E bo β, wB E tr τ, wC E ac γ, wH E ah bd η, wT E at_ θ, wB E (bd 2) (σ 2), wB E (bd 3) (σ 3), wB E (bd 4) (σ 4), wB E (bd 5) (σ 5), wB E (bd 6) (σ 6), wB E (bd 7) (σ 7), wB E (bd 8) (σ 8), wB E (bd 9) (σ 9), wM E am μ, wO E ao o]) (st1 := [.int 1]) [.ref ax, .int a, .ref ao] [0, 1, 2, 3, 4, 5, 6, 7, 8, 9, 10, 11, 12, 13, 15] (kL_isPlanned_0 l E ax bo β tr τ ac γ ah bd η σ at_ θ ao o hlt hvb a hr) q5_101 q1_0 (by decide +kernel) q5_100 q5_99 rfl ⟨Nat.le_of_ble_eq_true rfl, Nat.le_of_ble_eq_true rfl⟩ ⟨hk, hn⟩ (by decide) rfl rfl rfl rfl (Nat.le_of_ble_eq_true rfl) dL_law_2011 rfl ?_
    refine g_istore C (lv1 := [(5, .int 1), (0, .ref b0), (1, .ref ax), (2, .ref (am 0)), (3, .ref ao), (4, .int (nI i))]) dL_law_2014 (by decide) rfl ?_
    refine g_aload_n C dL_law_2016 rfl 3 rfl ?_
    refine g_aload_n C dL_law_2017 rfl 1 rfl ?_
    refine g_iload C dL_law_2018 5 rfl ?_
    refine g_iconst C (v := 1) dL_law_2020 (by decide) ?_
    refine g_iadd C dL_law_2021 ?_
    refine g_sldv C S (i + 1) (nx_add (rfl : nI i = nI i) (rfl : (1 : Int32) = nI 1)) (by omega) ha9 dL_law_2022 ?_
    refine g_callV C (cs1 := [wX ax (bo 0) (tr 0) (ac 0) (ah 0) (at_ 0), wB E bo β, wB E tr τ, wC E ac γ, wH E ah bd η, wT E at_ θ, wB E (bd 2) (σ 2), wB E (bd 3) (σ 3), wB E (bd 4) (σ 4), wB E (bd 5) (σ 5), wB E (bd 6) (σ 6), wB E (bd 7) (σ 7), wB E (bd 8) (σ 8), wB E (bd 9) (σ 9), wM E am ((fX7_isPlanned μ a).2), wO E ao o]) (st1 := [.int (b2i ((fX7_isPlanned μ a).1))]) [.int a] [14] (kX7_isPlanned l E am μ hvm a) caX7_isPlanned q7_167 rfl ⟨Nat.le_of_ble_eq_true rfl, Nat.le_of_ble_eq_true rfl⟩ ⟨hk, hn⟩ 14 0 rfl rfl rfl rfl (by decide) rfl rfl rfl rfl (Nat.le_of_ble_eq_true rfl) dL_law_2023 rfl ?_
    refine g_istore C (lv1 := [(6, .int (b2i ((fX7_isPlanned μ a).1))), (5, .int 1), (0, .ref b0), (1, .ref ax), (2, .ref (am 0)), (3, .ref ao), (4, .int (nI i))]) dL_law_2026 (by decide) rfl ?_
    refine g_aload_n C dL_law_2028 rfl 4 rfl ?_
    refine g_callV C (cs1 := [wX ax (bo 0) (tr 0) (ac 0) (ah 0) (at_ 0), wB E bo β, wB E tr τ, wC E ac γ, wH E ah bd η, wT E at_ θ, wB E (bd 2) (σ 2), wB E (bd 3) (σ 3), wB E (bd 4) (σ 4), wB E (bd 5) (σ 5), wB E (bd 6) (σ 6), wB E (bd 7) (σ 7), wB E (bd 8) (σ 8), wB E (bd 9) (σ 9), wM E am ((fX7_isPlanned μ a).2), wO E ao o]) (st1 := [.int (fX7_thrown ((fX7_isPlanned μ a).2))]) [] [14] (kX7_thrown l E am ((fX7_isPlanned μ a).2)) caX7_thrown q6_116 rfl ⟨Nat.le_of_ble_eq_true rfl, Nat.le_of_ble_eq_true rfl⟩ ⟨hk, hn⟩ 14 0 rfl rfl rfl rfl (by decide) rfl rfl rfl rfl (Nat.le_of_ble_eq_true rfl) dL_law_2029 rfl ?_
    refine g_iload C dL_law_2032 1 rfl ?_
    refine g_icmp_eq C 2039 dL_law_2034 (by decide) (fun _ => ?_) (fun c => absurd ht c)
    refine g_iload C dL_law_2039 1 rfl ?_
    refine g_if_ne C 2063 dL_law_2041 (by decide) (fun _ => ?_) (fun c => absurd c (by decide))
    refine g_goto C 3840 dL_law_2063 (by decide) ?_
    exact g_sub [2, 3, 4, 5, 6] rfl (next β τ γ η σ θ ((fX7_isPlanned μ a).2) o hR2)
set_option maxHeartbeats 4000000 in
set_option maxRecDepth 100000 in
theorem arm_34 {Rl : RlT} (hRv : RlV Rl) (hs : sH_milestoneOf Rl)  {X : gX} {l : Launch} {E : gE} (C : gC X cL_law 9 RL (some .boolean) l E room_1) (hZ : gZ X.2.2.2.2.2.2.2.2.2.2.2.1 X.2.2.2.2.1 X.2.2.2.2.1.heap) (hNc : gNc X.2.2.2.2.1) {b0 L0 : Nat} {xs : Nat → Int32} (S : gS X b0 L0 xs) (hlt : l.stackTraces = false) {ax : Nat} {bo tr ac ah : Nat → Nat} {bd : Nat → Nat → Nat} {at_ am : Nat → Nat} {ao k n i : Nat} (hk : k + 3 ≤ 601024) (hn : n + 18 ≤ 7293034) (hi : i + 3 ≤ L0) {β τ γ η : BS} {σ : Nat → BS} {θ μ : BS} {o : Nat → Int64} (hR : Rl β η θ σ μ) (next : ∀ (β τ γ η : BS) (σ : Nat → BS) (θ μ : BS) (o : Nat → Int64), Rl β η θ σ μ → G X (k + 3) (n + 18) [wX ax (bo 0) (tr 0) (ac 0) (ah 0) (at_ 0), wB E bo β, wB E tr τ, wC E ac γ, wH E ah bd η, wT E at_ θ, wB E (bd 2) (σ 2), wB E (bd 3) (σ 3), wB E (bd 4) (σ 4), wB E (bd 5) (σ 5), wB E (bd 6) (σ 6), wB E (bd 7) (σ 7), wB E (bd 8) (σ 8), wB E (bd 9) (σ 9), wM E am μ, wO E ao o] [(0, .ref b0), (1, .ref ax), (2, .ref (am 0)), (3, .ref ao), (4, .int (nI i))] 3840 []) : G X k n [wX ax (bo 0) (tr 0) (ac 0) (ah 0) (at_ 0), wB E bo β, wB E tr τ, wC E ac γ, wH E ah bd η, wT E at_ θ, wB E (bd 2) (σ 2), wB E (bd 3) (σ 3), wB E (bd 4) (σ 4), wB E (bd 5) (σ 5), wB E (bd 6) (σ 6), wB E (bd 7) (σ 7), wB E (bd 8) (σ 8), wB E (bd 9) (σ 9), wM E am μ, wO E ao o] [(0, .ref b0), (1, .ref ax), (2, .ref (am 0)), (3, .ref ao), (4, .int (nI i))] 2066 [] := by
  obtain ⟨hvb, hvh, hvt, hvm, ha⟩ := hRv β η θ σ μ hR
  obtain ⟨a, ha9⟩ : ∃ a, xs (i + 1) = a := ⟨_, rfl⟩
  obtain ⟨hag, hR2⟩ := hs β τ γ η σ θ μ a hR
  rcases hag with ⟨hr, ht⟩ | ⟨hr, ht⟩ | ⟨hr, ht⟩
  · skip
    refine g_aload_n C dL_law_2066 rfl 1 rfl ?_
    refine g_aload_n C dL_law_2067 rfl 0 rfl ?_
    refine g_iload C dL_law_2068 4 rfl ?_
    refine g_iconst C (v := 1) dL_law_2070 (by decide) ?_
    refine g_iadd C dL_law_2071 ?_
    refine g_sldv C S (i + 1) (nx_add (rfl : nI i = nI i) (rfl : (1 : Int32) = nI 1)) (by omega) ha9 dL_law_2072 ?_
    refine g_aload_n C dL_law_2073 rfl 3 rfl ?_
    refine g_callSW C hZ hNc (z := 3) (cs1 := [wX ax (bo 0) (tr 0) (ac 0) (ah 0) (at_ 0), wB E bo β, wB E tr τ, wC E ac γ, wH E ah bd η, wT E at_ θ, wB E (bd 2) (σ 2), wB E (bd 3) (σ 3), wB E (bd 4) (σ 4), wB E (bd 5) (σ 5), wB E (bd 6) (σ 6), wB E (bd 7) (σ 7), wB E (bd 8) (σ 8), wB E (bd 9) (σ 9), wM E am μ, wO E ao (vp_updL o 0 ((fX7_milestoneOf μ a).1).toInt64)]) (st1 := [.int 0]) [.ref ax, .int a, .ref ao] [0, 1, 2, 3, 4, 5, 6, 7, 8, 9, 10, 11, 12, 13, 15] (kL_milestoneOf_r l E ax bo β tr τ ac γ ah bd η σ at_ θ ao o hlt hvb a ((fX7_milestoneOf μ a).1) hr) q5_108 q1_0 (by decide +kernel) q5_107 q5_106 rfl ⟨Nat.le_of_ble_eq_true rfl, Nat.le_of_ble_eq_true rfl⟩ ⟨hk, hn⟩ (by decide) rfl rfl rfl rfl (Nat.le_of_ble_eq_true rfl) dL_law_2074 rfl ?_
    refine g_istore C (lv1 := [(5, .int 0), (0, .ref b0), (1, .ref ax), (2, .ref (am 0)), (3, .ref ao), (4, .int (nI i))]) dL_law_2077 (by decide) rfl ?_
    refine g_aload_n C dL_law_2079 rfl 3 rfl ?_
    refine g_aload_n C dL_law_2080 rfl 1 rfl ?_
    refine g_iload C dL_law_2081 5 rfl ?_
    refine g_iconst C (v := 1) dL_law_2083 (by decide) ?_
    refine g_iadd C dL_law_2084 ?_
    refine g_sldv C S (i + 1) (nx_add (rfl : nI i = nI i) (rfl : (1 : Int32) = nI 1)) (by omega) ha9 dL_law_2085 ?_
    refine g_callV C (cs1 := [wX ax (bo 0) (tr 0) (ac 0) (ah 0) (at_ 0), wB E bo β, wB E tr τ, wC E ac γ, wH E ah bd η, wT E at_ θ, wB E (bd 2) (σ 2), wB E (bd 3) (σ 3), wB E (bd 4) (σ 4), wB E (bd 5) (σ 5), wB E (bd 6) (σ 6), wB E (bd 7) (σ 7), wB E (bd 8) (σ 8), wB E (bd 9) (σ 9), wM E am ((fX7_milestoneOf μ a).2), wO E ao (vp_updL o 0 ((fX7_milestoneOf μ a).1).toInt64)]) (st1 := [.int ((fX7_milestoneOf μ a).1)]) [.int a] [14] (kX7_milestoneOf l E am μ hvm a) caX7_milestoneOf q7_171 rfl ⟨Nat.le_of_ble_eq_true rfl, Nat.le_of_ble_eq_true rfl⟩ ⟨hk, hn⟩ 14 0 rfl rfl rfl rfl (by decide) rfl rfl rfl rfl (Nat.le_of_ble_eq_true rfl) dL_law_2086 rfl ?_
    refine g_istore C (lv1 := [(6, .int ((fX7_milestoneOf μ a).1)), (5, .int 0), (0, .ref b0), (1, .ref ax), (2, .ref (am 0)), (3, .ref ao), (4, .int (nI i))]) dL_law_2089 (by decide) rfl ?_
    refine g_aload_n C dL_law_2091 rfl 4 rfl ?_
    refine g_callV C (cs1 := [wX ax (bo 0) (tr 0) (ac 0) (ah 0) (at_ 0), wB E bo β, wB E tr τ, wC E ac γ, wH E ah bd η, wT E at_ θ, wB E (bd 2) (σ 2), wB E (bd 3) (σ 3), wB E (bd 4) (σ 4), wB E (bd 5) (σ 5), wB E (bd 6) (σ 6), wB E (bd 7) (σ 7), wB E (bd 8) (σ 8), wB E (bd 9) (σ 9), wM E am ((fX7_milestoneOf μ a).2), wO E ao (vp_updL o 0 ((fX7_milestoneOf μ a).1).toInt64)]) (st1 := [.int (fX7_thrown ((fX7_milestoneOf μ a).2))]) [] [14] (kX7_thrown l E am ((fX7_milestoneOf μ a).2)) caX7_thrown q6_116 rfl ⟨Nat.le_of_ble_eq_true rfl, Nat.le_of_ble_eq_true rfl⟩ ⟨hk, hn⟩ 14 0 rfl rfl rfl rfl (by decide) rfl rfl rfl rfl (Nat.le_of_ble_eq_true rfl) dL_law_2092 rfl ?_
    refine g_iload C dL_law_2095 1 rfl ?_
    refine g_icmp_eq C 2102 dL_law_2097 (by decide) (fun _ => ?_) (fun c => absurd ht c)
    refine g_iload C dL_law_2102 1 rfl ?_
    refine g_if_ne C 2119 dL_law_2104 (by decide) (fun c => absurd rfl c) (fun _ => ?_)
    refine g_aload_n C dL_law_2107 rfl 5 rfl ?_
    refine g_iconst C (v := 0) dL_law_2108 (by decide) ?_
    refine g_laldn C 15 0 0 rfl rfl rfl (by decide) (by decide) dL_law_2109 ?_
    refine g_iload C dL_law_2110 0 rfl ?_
    refine g_i2l C dL_law_2112 ?_
    refine g_lcmp C dL_law_2113 ?_
    refine g_if_eq C 2119 dL_law_2114 (by decide) (fun _ => ?_) (fun c => absurd law_cmp c)
    refine g_goto C 3840 dL_law_2119 (by decide) ?_
    exact g_sub [2, 3, 4, 5, 6] rfl (next β τ γ η σ θ ((fX7_milestoneOf μ a).2) (vp_updL o 0 ((fX7_milestoneOf μ a).1).toInt64) hR2)
  · skip
    refine g_aload_n C dL_law_2066 rfl 1 rfl ?_
    refine g_aload_n C dL_law_2067 rfl 0 rfl ?_
    refine g_iload C dL_law_2068 4 rfl ?_
    refine g_iconst C (v := 1) dL_law_2070 (by decide) ?_
    refine g_iadd C dL_law_2071 ?_
    refine g_sldv C S (i + 1) (nx_add (rfl : nI i = nI i) (rfl : (1 : Int32) = nI 1)) (by omega) ha9 dL_law_2072 ?_
    refine g_aload_n C dL_law_2073 rfl 3 rfl ?_
    refine g_callSW C hZ hNc (z := 3) (cs1 := [wX ax (bo 0) (tr 0) (ac 0) (ah 0) (at_ 0), wB E bo β, wB E tr τ, wC E ac γ, wH E ah bd η, wT E at_ θ, wB E (bd 2) (σ 2), wB E (bd 3) (σ 3), wB E (bd 4) (σ 4), wB E (bd 5) (σ 5), wB E (bd 6) (σ 6), wB E (bd 7) (σ 7), wB E (bd 8) (σ 8), wB E (bd 9) (σ 9), wM E am μ, wO E ao o]) (st1 := [.int 1]) [.ref ax, .int a, .ref ao] [0, 1, 2, 3, 4, 5, 6, 7, 8, 9, 10, 11, 12, 13, 15] (kL_milestoneOf_0 l E ax bo β tr τ ac γ ah bd η σ at_ θ ao o hlt hvb a hr) q5_108 q1_0 (by decide +kernel) q5_107 q5_106 rfl ⟨Nat.le_of_ble_eq_true rfl, Nat.le_of_ble_eq_true rfl⟩ ⟨hk, hn⟩ (by decide) rfl rfl rfl rfl (Nat.le_of_ble_eq_true rfl) dL_law_2074 rfl ?_
    refine g_istore C (lv1 := [(5, .int 1), (0, .ref b0), (1, .ref ax), (2, .ref (am 0)), (3, .ref ao), (4, .int (nI i))]) dL_law_2077 (by decide) rfl ?_
    refine g_aload_n C dL_law_2079 rfl 3 rfl ?_
    refine g_aload_n C dL_law_2080 rfl 1 rfl ?_
    refine g_iload C dL_law_2081 5 rfl ?_
    refine g_iconst C (v := 1) dL_law_2083 (by decide) ?_
    refine g_iadd C dL_law_2084 ?_
    refine g_sldv C S (i + 1) (nx_add (rfl : nI i = nI i) (rfl : (1 : Int32) = nI 1)) (by omega) ha9 dL_law_2085 ?_
    refine g_callV C (cs1 := [wX ax (bo 0) (tr 0) (ac 0) (ah 0) (at_ 0), wB E bo β, wB E tr τ, wC E ac γ, wH E ah bd η, wT E at_ θ, wB E (bd 2) (σ 2), wB E (bd 3) (σ 3), wB E (bd 4) (σ 4), wB E (bd 5) (σ 5), wB E (bd 6) (σ 6), wB E (bd 7) (σ 7), wB E (bd 8) (σ 8), wB E (bd 9) (σ 9), wM E am ((fX7_milestoneOf μ a).2), wO E ao o]) (st1 := [.int ((fX7_milestoneOf μ a).1)]) [.int a] [14] (kX7_milestoneOf l E am μ hvm a) caX7_milestoneOf q7_171 rfl ⟨Nat.le_of_ble_eq_true rfl, Nat.le_of_ble_eq_true rfl⟩ ⟨hk, hn⟩ 14 0 rfl rfl rfl rfl (by decide) rfl rfl rfl rfl (Nat.le_of_ble_eq_true rfl) dL_law_2086 rfl ?_
    refine g_istore C (lv1 := [(6, .int ((fX7_milestoneOf μ a).1)), (5, .int 1), (0, .ref b0), (1, .ref ax), (2, .ref (am 0)), (3, .ref ao), (4, .int (nI i))]) dL_law_2089 (by decide) rfl ?_
    refine g_aload_n C dL_law_2091 rfl 4 rfl ?_
    refine g_callV C (cs1 := [wX ax (bo 0) (tr 0) (ac 0) (ah 0) (at_ 0), wB E bo β, wB E tr τ, wC E ac γ, wH E ah bd η, wT E at_ θ, wB E (bd 2) (σ 2), wB E (bd 3) (σ 3), wB E (bd 4) (σ 4), wB E (bd 5) (σ 5), wB E (bd 6) (σ 6), wB E (bd 7) (σ 7), wB E (bd 8) (σ 8), wB E (bd 9) (σ 9), wM E am ((fX7_milestoneOf μ a).2), wO E ao o]) (st1 := [.int (fX7_thrown ((fX7_milestoneOf μ a).2))]) [] [14] (kX7_thrown l E am ((fX7_milestoneOf μ a).2)) caX7_thrown q6_116 rfl ⟨Nat.le_of_ble_eq_true rfl, Nat.le_of_ble_eq_true rfl⟩ ⟨hk, hn⟩ 14 0 rfl rfl rfl rfl (by decide) rfl rfl rfl rfl (Nat.le_of_ble_eq_true rfl) dL_law_2092 rfl ?_
    refine g_iload C dL_law_2095 1 rfl ?_
    refine g_icmp_eq C 2102 dL_law_2097 (by decide) (fun _ => ?_) (fun c => absurd ht c)
    refine g_iload C dL_law_2102 1 rfl ?_
    refine g_if_ne C 2119 dL_law_2104 (by decide) (fun _ => ?_) (fun c => absurd c (by decide))
    refine g_goto C 3840 dL_law_2119 (by decide) ?_
    exact g_sub [2, 3, 4, 5, 6] rfl (next β τ γ η σ θ ((fX7_milestoneOf μ a).2) o hR2)
  · skip
    refine g_aload_n C dL_law_2066 rfl 1 rfl ?_
    refine g_aload_n C dL_law_2067 rfl 0 rfl ?_
    refine g_iload C dL_law_2068 4 rfl ?_
    refine g_iconst C (v := 1) dL_law_2070 (by decide) ?_
    refine g_iadd C dL_law_2071 ?_
    refine g_sldv C S (i + 1) (nx_add (rfl : nI i = nI i) (rfl : (1 : Int32) = nI 1)) (by omega) ha9 dL_law_2072 ?_
    refine g_aload_n C dL_law_2073 rfl 3 rfl ?_
    refine g_callSW C hZ hNc (z := 3) (cs1 := [wX ax (bo 0) (tr 0) (ac 0) (ah 0) (at_ 0), wB E bo β, wB E tr τ, wC E ac γ, wH E ah bd η, wT E at_ θ, wB E (bd 2) (σ 2), wB E (bd 3) (σ 3), wB E (bd 4) (σ 4), wB E (bd 5) (σ 5), wB E (bd 6) (σ 6), wB E (bd 7) (σ 7), wB E (bd 8) (σ 8), wB E (bd 9) (σ 9), wM E am μ, wO E ao o]) (st1 := [.int 2]) [.ref ax, .int a, .ref ao] [0, 1, 2, 3, 4, 5, 6, 7, 8, 9, 10, 11, 12, 13, 15] (kL_milestoneOf_1 l E ax bo β tr τ ac γ ah bd η σ at_ θ ao o hlt hvb a hr) q5_108 q1_0 (by decide +kernel) q5_107 q5_106 rfl ⟨Nat.le_of_ble_eq_true rfl, Nat.le_of_ble_eq_true rfl⟩ ⟨hk, hn⟩ (by decide) rfl rfl rfl rfl (Nat.le_of_ble_eq_true rfl) dL_law_2074 rfl ?_
    refine g_istore C (lv1 := [(5, .int 2), (0, .ref b0), (1, .ref ax), (2, .ref (am 0)), (3, .ref ao), (4, .int (nI i))]) dL_law_2077 (by decide) rfl ?_
    refine g_aload_n C dL_law_2079 rfl 3 rfl ?_
    refine g_aload_n C dL_law_2080 rfl 1 rfl ?_
    refine g_iload C dL_law_2081 5 rfl ?_
    refine g_iconst C (v := 1) dL_law_2083 (by decide) ?_
    refine g_iadd C dL_law_2084 ?_
    refine g_sldv C S (i + 1) (nx_add (rfl : nI i = nI i) (rfl : (1 : Int32) = nI 1)) (by omega) ha9 dL_law_2085 ?_
    refine g_callV C (cs1 := [wX ax (bo 0) (tr 0) (ac 0) (ah 0) (at_ 0), wB E bo β, wB E tr τ, wC E ac γ, wH E ah bd η, wT E at_ θ, wB E (bd 2) (σ 2), wB E (bd 3) (σ 3), wB E (bd 4) (σ 4), wB E (bd 5) (σ 5), wB E (bd 6) (σ 6), wB E (bd 7) (σ 7), wB E (bd 8) (σ 8), wB E (bd 9) (σ 9), wM E am ((fX7_milestoneOf μ a).2), wO E ao o]) (st1 := [.int ((fX7_milestoneOf μ a).1)]) [.int a] [14] (kX7_milestoneOf l E am μ hvm a) caX7_milestoneOf q7_171 rfl ⟨Nat.le_of_ble_eq_true rfl, Nat.le_of_ble_eq_true rfl⟩ ⟨hk, hn⟩ 14 0 rfl rfl rfl rfl (by decide) rfl rfl rfl rfl (Nat.le_of_ble_eq_true rfl) dL_law_2086 rfl ?_
    refine g_istore C (lv1 := [(6, .int ((fX7_milestoneOf μ a).1)), (5, .int 2), (0, .ref b0), (1, .ref ax), (2, .ref (am 0)), (3, .ref ao), (4, .int (nI i))]) dL_law_2089 (by decide) rfl ?_
    refine g_aload_n C dL_law_2091 rfl 4 rfl ?_
    refine g_callV C (cs1 := [wX ax (bo 0) (tr 0) (ac 0) (ah 0) (at_ 0), wB E bo β, wB E tr τ, wC E ac γ, wH E ah bd η, wT E at_ θ, wB E (bd 2) (σ 2), wB E (bd 3) (σ 3), wB E (bd 4) (σ 4), wB E (bd 5) (σ 5), wB E (bd 6) (σ 6), wB E (bd 7) (σ 7), wB E (bd 8) (σ 8), wB E (bd 9) (σ 9), wM E am ((fX7_milestoneOf μ a).2), wO E ao o]) (st1 := [.int (fX7_thrown ((fX7_milestoneOf μ a).2))]) [] [14] (kX7_thrown l E am ((fX7_milestoneOf μ a).2)) caX7_thrown q6_116 rfl ⟨Nat.le_of_ble_eq_true rfl, Nat.le_of_ble_eq_true rfl⟩ ⟨hk, hn⟩ 14 0 rfl rfl rfl rfl (by decide) rfl rfl rfl rfl (Nat.le_of_ble_eq_true rfl) dL_law_2092 rfl ?_
    refine g_iload C dL_law_2095 1 rfl ?_
    refine g_icmp_eq C 2102 dL_law_2097 (by decide) (fun _ => ?_) (fun c => absurd ht c)
    refine g_iload C dL_law_2102 1 rfl ?_
    refine g_if_ne C 2119 dL_law_2104 (by decide) (fun _ => ?_) (fun c => absurd c (by decide))
    refine g_goto C 3840 dL_law_2119 (by decide) ?_
    exact g_sub [2, 3, 4, 5, 6] rfl (next β τ γ η σ θ ((fX7_milestoneOf μ a).2) o hR2)
set_option maxHeartbeats 4000000 in
set_option maxRecDepth 100000 in
theorem arm_35 {Rl : RlT} (hRv : RlV Rl) (hs : sH_openedOn Rl)  {X : gX} {l : Launch} {E : gE} (C : gC X cL_law 9 RL (some .boolean) l E room_1) (hZ : gZ X.2.2.2.2.2.2.2.2.2.2.2.1 X.2.2.2.2.1 X.2.2.2.2.1.heap) (hNc : gNc X.2.2.2.2.1) {b0 L0 : Nat} {xs : Nat → Int32} (S : gS X b0 L0 xs) (hlt : l.stackTraces = false) {ax : Nat} {bo tr ac ah : Nat → Nat} {bd : Nat → Nat → Nat} {at_ am : Nat → Nat} {ao k n i : Nat} (hk : k + 3 ≤ 601024) (hn : n + 18 ≤ 7293034) (hi : i + 3 ≤ L0) {β τ γ η : BS} {σ : Nat → BS} {θ μ : BS} {o : Nat → Int64} (hR : Rl β η θ σ μ) (next : ∀ (β τ γ η : BS) (σ : Nat → BS) (θ μ : BS) (o : Nat → Int64), Rl β η θ σ μ → G X (k + 3) (n + 18) [wX ax (bo 0) (tr 0) (ac 0) (ah 0) (at_ 0), wB E bo β, wB E tr τ, wC E ac γ, wH E ah bd η, wT E at_ θ, wB E (bd 2) (σ 2), wB E (bd 3) (σ 3), wB E (bd 4) (σ 4), wB E (bd 5) (σ 5), wB E (bd 6) (σ 6), wB E (bd 7) (σ 7), wB E (bd 8) (σ 8), wB E (bd 9) (σ 9), wM E am μ, wO E ao o] [(0, .ref b0), (1, .ref ax), (2, .ref (am 0)), (3, .ref ao), (4, .int (nI i))] 3840 []) : G X k n [wX ax (bo 0) (tr 0) (ac 0) (ah 0) (at_ 0), wB E bo β, wB E tr τ, wC E ac γ, wH E ah bd η, wT E at_ θ, wB E (bd 2) (σ 2), wB E (bd 3) (σ 3), wB E (bd 4) (σ 4), wB E (bd 5) (σ 5), wB E (bd 6) (σ 6), wB E (bd 7) (σ 7), wB E (bd 8) (σ 8), wB E (bd 9) (σ 9), wM E am μ, wO E ao o] [(0, .ref b0), (1, .ref ax), (2, .ref (am 0)), (3, .ref ao), (4, .int (nI i))] 2122 [] := by
  obtain ⟨hvb, hvh, hvt, hvm, ha⟩ := hRv β η θ σ μ hR
  obtain ⟨a, ha9⟩ : ∃ a, xs (i + 1) = a := ⟨_, rfl⟩
  obtain ⟨hag, hR2⟩ := hs β τ γ η σ θ μ a hR
  rcases hag with ⟨hr, ht⟩ | ⟨hr, ht⟩
  · skip
    refine g_aload_n C dL_law_2122 rfl 1 rfl ?_
    refine g_aload_n C dL_law_2123 rfl 0 rfl ?_
    refine g_iload C dL_law_2124 4 rfl ?_
    refine g_iconst C (v := 1) dL_law_2126 (by decide) ?_
    refine g_iadd C dL_law_2127 ?_
    refine g_sldv C S (i + 1) (nx_add (rfl : nI i = nI i) (rfl : (1 : Int32) = nI 1)) (by omega) ha9 dL_law_2128 ?_
    refine g_aload_n C dL_law_2129 rfl 3 rfl ?_
    refine g_callSW C hZ hNc (z := 3) (cs1 := [wX ax (bo 0) (tr 0) (ac 0) (ah 0) (at_ 0), wB E bo β, wB E tr τ, wC E ac γ, wH E ah bd η, wT E at_ θ, wB E (bd 2) (σ 2), wB E (bd 3) (σ 3), wB E (bd 4) (σ 4), wB E (bd 5) (σ 5), wB E (bd 6) (σ 6), wB E (bd 7) (σ 7), wB E (bd 8) (σ 8), wB E (bd 9) (σ 9), wM E am μ, wO E ao (vp_updL o 0 ((fX7_openedOn μ a).1).toInt64)]) (st1 := [.int 0]) [.ref ax, .int a, .ref ao] [0, 1, 2, 3, 4, 5, 6, 7, 8, 9, 10, 11, 12, 13, 15] (kL_openedOn_r l E ax bo β tr τ ac γ ah bd η σ at_ θ ao o hlt hvb a ((fX7_openedOn μ a).1) hr) q5_115 q1_0 (by decide +kernel) q5_114 q5_113 rfl ⟨Nat.le_of_ble_eq_true rfl, Nat.le_of_ble_eq_true rfl⟩ ⟨hk, hn⟩ (by decide) rfl rfl rfl rfl (Nat.le_of_ble_eq_true rfl) dL_law_2130 rfl ?_
    refine g_istore C (lv1 := [(5, .int 0), (0, .ref b0), (1, .ref ax), (2, .ref (am 0)), (3, .ref ao), (4, .int (nI i))]) dL_law_2133 (by decide) rfl ?_
    refine g_aload_n C dL_law_2135 rfl 3 rfl ?_
    refine g_aload_n C dL_law_2136 rfl 1 rfl ?_
    refine g_iload C dL_law_2137 5 rfl ?_
    refine g_iconst C (v := 1) dL_law_2139 (by decide) ?_
    refine g_iadd C dL_law_2140 ?_
    refine g_sldv C S (i + 1) (nx_add (rfl : nI i = nI i) (rfl : (1 : Int32) = nI 1)) (by omega) ha9 dL_law_2141 ?_
    refine g_callV C (cs1 := [wX ax (bo 0) (tr 0) (ac 0) (ah 0) (at_ 0), wB E bo β, wB E tr τ, wC E ac γ, wH E ah bd η, wT E at_ θ, wB E (bd 2) (σ 2), wB E (bd 3) (σ 3), wB E (bd 4) (σ 4), wB E (bd 5) (σ 5), wB E (bd 6) (σ 6), wB E (bd 7) (σ 7), wB E (bd 8) (σ 8), wB E (bd 9) (σ 9), wM E am ((fX7_openedOn μ a).2), wO E ao (vp_updL o 0 ((fX7_openedOn μ a).1).toInt64)]) (st1 := [.int ((fX7_openedOn μ a).1)]) [.int a] [14] (kX7_openedOn l E am μ hvm a) caX7_openedOn q7_175 rfl ⟨Nat.le_of_ble_eq_true rfl, Nat.le_of_ble_eq_true rfl⟩ ⟨hk, hn⟩ 14 0 rfl rfl rfl rfl (by decide) rfl rfl rfl rfl (Nat.le_of_ble_eq_true rfl) dL_law_2142 rfl ?_
    refine g_istore C (lv1 := [(6, .int ((fX7_openedOn μ a).1)), (5, .int 0), (0, .ref b0), (1, .ref ax), (2, .ref (am 0)), (3, .ref ao), (4, .int (nI i))]) dL_law_2145 (by decide) rfl ?_
    refine g_aload_n C dL_law_2147 rfl 4 rfl ?_
    refine g_callV C (cs1 := [wX ax (bo 0) (tr 0) (ac 0) (ah 0) (at_ 0), wB E bo β, wB E tr τ, wC E ac γ, wH E ah bd η, wT E at_ θ, wB E (bd 2) (σ 2), wB E (bd 3) (σ 3), wB E (bd 4) (σ 4), wB E (bd 5) (σ 5), wB E (bd 6) (σ 6), wB E (bd 7) (σ 7), wB E (bd 8) (σ 8), wB E (bd 9) (σ 9), wM E am ((fX7_openedOn μ a).2), wO E ao (vp_updL o 0 ((fX7_openedOn μ a).1).toInt64)]) (st1 := [.int (fX7_thrown ((fX7_openedOn μ a).2))]) [] [14] (kX7_thrown l E am ((fX7_openedOn μ a).2)) caX7_thrown q6_116 rfl ⟨Nat.le_of_ble_eq_true rfl, Nat.le_of_ble_eq_true rfl⟩ ⟨hk, hn⟩ 14 0 rfl rfl rfl rfl (by decide) rfl rfl rfl rfl (Nat.le_of_ble_eq_true rfl) dL_law_2148 rfl ?_
    refine g_iload C dL_law_2151 1 rfl ?_
    refine g_icmp_eq C 2158 dL_law_2153 (by decide) (fun _ => ?_) (fun c => absurd ht c)
    refine g_iload C dL_law_2158 1 rfl ?_
    refine g_if_ne C 2175 dL_law_2160 (by decide) (fun c => absurd rfl c) (fun _ => ?_)
    refine g_aload_n C dL_law_2163 rfl 5 rfl ?_
    refine g_iconst C (v := 0) dL_law_2164 (by decide) ?_
    refine g_laldn C 15 0 0 rfl rfl rfl (by decide) (by decide) dL_law_2165 ?_
    refine g_iload C dL_law_2166 0 rfl ?_
    refine g_i2l C dL_law_2168 ?_
    refine g_lcmp C dL_law_2169 ?_
    refine g_if_eq C 2175 dL_law_2170 (by decide) (fun _ => ?_) (fun c => absurd law_cmp c)
    refine g_goto C 3840 dL_law_2175 (by decide) ?_
    exact g_sub [2, 3, 4, 5, 6] rfl (next β τ γ η σ θ ((fX7_openedOn μ a).2) (vp_updL o 0 ((fX7_openedOn μ a).1).toInt64) hR2)
  · skip
    refine g_aload_n C dL_law_2122 rfl 1 rfl ?_
    refine g_aload_n C dL_law_2123 rfl 0 rfl ?_
    refine g_iload C dL_law_2124 4 rfl ?_
    refine g_iconst C (v := 1) dL_law_2126 (by decide) ?_
    refine g_iadd C dL_law_2127 ?_
    refine g_sldv C S (i + 1) (nx_add (rfl : nI i = nI i) (rfl : (1 : Int32) = nI 1)) (by omega) ha9 dL_law_2128 ?_
    refine g_aload_n C dL_law_2129 rfl 3 rfl ?_
    refine g_callSW C hZ hNc (z := 3) (cs1 := [wX ax (bo 0) (tr 0) (ac 0) (ah 0) (at_ 0), wB E bo β, wB E tr τ, wC E ac γ, wH E ah bd η, wT E at_ θ, wB E (bd 2) (σ 2), wB E (bd 3) (σ 3), wB E (bd 4) (σ 4), wB E (bd 5) (σ 5), wB E (bd 6) (σ 6), wB E (bd 7) (σ 7), wB E (bd 8) (σ 8), wB E (bd 9) (σ 9), wM E am μ, wO E ao o]) (st1 := [.int 1]) [.ref ax, .int a, .ref ao] [0, 1, 2, 3, 4, 5, 6, 7, 8, 9, 10, 11, 12, 13, 15] (kL_openedOn_0 l E ax bo β tr τ ac γ ah bd η σ at_ θ ao o hlt hvb a hr) q5_115 q1_0 (by decide +kernel) q5_114 q5_113 rfl ⟨Nat.le_of_ble_eq_true rfl, Nat.le_of_ble_eq_true rfl⟩ ⟨hk, hn⟩ (by decide) rfl rfl rfl rfl (Nat.le_of_ble_eq_true rfl) dL_law_2130 rfl ?_
    refine g_istore C (lv1 := [(5, .int 1), (0, .ref b0), (1, .ref ax), (2, .ref (am 0)), (3, .ref ao), (4, .int (nI i))]) dL_law_2133 (by decide) rfl ?_
    refine g_aload_n C dL_law_2135 rfl 3 rfl ?_
    refine g_aload_n C dL_law_2136 rfl 1 rfl ?_
    refine g_iload C dL_law_2137 5 rfl ?_
    refine g_iconst C (v := 1) dL_law_2139 (by decide) ?_
    refine g_iadd C dL_law_2140 ?_
    refine g_sldv C S (i + 1) (nx_add (rfl : nI i = nI i) (rfl : (1 : Int32) = nI 1)) (by omega) ha9 dL_law_2141 ?_
    refine g_callV C (cs1 := [wX ax (bo 0) (tr 0) (ac 0) (ah 0) (at_ 0), wB E bo β, wB E tr τ, wC E ac γ, wH E ah bd η, wT E at_ θ, wB E (bd 2) (σ 2), wB E (bd 3) (σ 3), wB E (bd 4) (σ 4), wB E (bd 5) (σ 5), wB E (bd 6) (σ 6), wB E (bd 7) (σ 7), wB E (bd 8) (σ 8), wB E (bd 9) (σ 9), wM E am ((fX7_openedOn μ a).2), wO E ao o]) (st1 := [.int ((fX7_openedOn μ a).1)]) [.int a] [14] (kX7_openedOn l E am μ hvm a) caX7_openedOn q7_175 rfl ⟨Nat.le_of_ble_eq_true rfl, Nat.le_of_ble_eq_true rfl⟩ ⟨hk, hn⟩ 14 0 rfl rfl rfl rfl (by decide) rfl rfl rfl rfl (Nat.le_of_ble_eq_true rfl) dL_law_2142 rfl ?_
    refine g_istore C (lv1 := [(6, .int ((fX7_openedOn μ a).1)), (5, .int 1), (0, .ref b0), (1, .ref ax), (2, .ref (am 0)), (3, .ref ao), (4, .int (nI i))]) dL_law_2145 (by decide) rfl ?_
    refine g_aload_n C dL_law_2147 rfl 4 rfl ?_
    refine g_callV C (cs1 := [wX ax (bo 0) (tr 0) (ac 0) (ah 0) (at_ 0), wB E bo β, wB E tr τ, wC E ac γ, wH E ah bd η, wT E at_ θ, wB E (bd 2) (σ 2), wB E (bd 3) (σ 3), wB E (bd 4) (σ 4), wB E (bd 5) (σ 5), wB E (bd 6) (σ 6), wB E (bd 7) (σ 7), wB E (bd 8) (σ 8), wB E (bd 9) (σ 9), wM E am ((fX7_openedOn μ a).2), wO E ao o]) (st1 := [.int (fX7_thrown ((fX7_openedOn μ a).2))]) [] [14] (kX7_thrown l E am ((fX7_openedOn μ a).2)) caX7_thrown q6_116 rfl ⟨Nat.le_of_ble_eq_true rfl, Nat.le_of_ble_eq_true rfl⟩ ⟨hk, hn⟩ 14 0 rfl rfl rfl rfl (by decide) rfl rfl rfl rfl (Nat.le_of_ble_eq_true rfl) dL_law_2148 rfl ?_
    refine g_iload C dL_law_2151 1 rfl ?_
    refine g_icmp_eq C 2158 dL_law_2153 (by decide) (fun _ => ?_) (fun c => absurd ht c)
    refine g_iload C dL_law_2158 1 rfl ?_
    refine g_if_ne C 2175 dL_law_2160 (by decide) (fun _ => ?_) (fun c => absurd c (by decide))
    refine g_goto C 3840 dL_law_2175 (by decide) ?_
    exact g_sub [2, 3, 4, 5, 6] rfl (next β τ γ η σ θ ((fX7_openedOn μ a).2) o hR2)
set_option maxHeartbeats 4000000 in
set_option maxRecDepth 100000 in
theorem arm_36 {Rl : RlT} (hRv : RlV Rl) (hs : sH_closedOn Rl)  {X : gX} {l : Launch} {E : gE} (C : gC X cL_law 9 RL (some .boolean) l E room_1) (hZ : gZ X.2.2.2.2.2.2.2.2.2.2.2.1 X.2.2.2.2.1 X.2.2.2.2.1.heap) (hNc : gNc X.2.2.2.2.1) {b0 L0 : Nat} {xs : Nat → Int32} (S : gS X b0 L0 xs) (hlt : l.stackTraces = false) {ax : Nat} {bo tr ac ah : Nat → Nat} {bd : Nat → Nat → Nat} {at_ am : Nat → Nat} {ao k n i : Nat} (hk : k + 3 ≤ 601024) (hn : n + 18 ≤ 7293034) (hi : i + 3 ≤ L0) {β τ γ η : BS} {σ : Nat → BS} {θ μ : BS} {o : Nat → Int64} (hR : Rl β η θ σ μ) (next : ∀ (β τ γ η : BS) (σ : Nat → BS) (θ μ : BS) (o : Nat → Int64), Rl β η θ σ μ → G X (k + 3) (n + 18) [wX ax (bo 0) (tr 0) (ac 0) (ah 0) (at_ 0), wB E bo β, wB E tr τ, wC E ac γ, wH E ah bd η, wT E at_ θ, wB E (bd 2) (σ 2), wB E (bd 3) (σ 3), wB E (bd 4) (σ 4), wB E (bd 5) (σ 5), wB E (bd 6) (σ 6), wB E (bd 7) (σ 7), wB E (bd 8) (σ 8), wB E (bd 9) (σ 9), wM E am μ, wO E ao o] [(0, .ref b0), (1, .ref ax), (2, .ref (am 0)), (3, .ref ao), (4, .int (nI i))] 3840 []) : G X k n [wX ax (bo 0) (tr 0) (ac 0) (ah 0) (at_ 0), wB E bo β, wB E tr τ, wC E ac γ, wH E ah bd η, wT E at_ θ, wB E (bd 2) (σ 2), wB E (bd 3) (σ 3), wB E (bd 4) (σ 4), wB E (bd 5) (σ 5), wB E (bd 6) (σ 6), wB E (bd 7) (σ 7), wB E (bd 8) (σ 8), wB E (bd 9) (σ 9), wM E am μ, wO E ao o] [(0, .ref b0), (1, .ref ax), (2, .ref (am 0)), (3, .ref ao), (4, .int (nI i))] 2178 [] := by
  obtain ⟨hvb, hvh, hvt, hvm, ha⟩ := hRv β η θ σ μ hR
  obtain ⟨a, ha9⟩ : ∃ a, xs (i + 1) = a := ⟨_, rfl⟩
  obtain ⟨hag, hR2⟩ := hs β τ γ η σ θ μ a hR
  rcases hag with ⟨hr, ht⟩ | ⟨hr, ht⟩ | ⟨hr, ht⟩
  · skip
    refine g_aload_n C dL_law_2178 rfl 1 rfl ?_
    refine g_aload_n C dL_law_2179 rfl 0 rfl ?_
    refine g_iload C dL_law_2180 4 rfl ?_
    refine g_iconst C (v := 1) dL_law_2182 (by decide) ?_
    refine g_iadd C dL_law_2183 ?_
    refine g_sldv C S (i + 1) (nx_add (rfl : nI i = nI i) (rfl : (1 : Int32) = nI 1)) (by omega) ha9 dL_law_2184 ?_
    refine g_aload_n C dL_law_2185 rfl 3 rfl ?_
    refine g_callSW C hZ hNc (z := 3) (cs1 := [wX ax (bo 0) (tr 0) (ac 0) (ah 0) (at_ 0), wB E bo β, wB E tr τ, wC E ac γ, wH E ah bd η, wT E at_ θ, wB E (bd 2) (σ 2), wB E (bd 3) (σ 3), wB E (bd 4) (σ 4), wB E (bd 5) (σ 5), wB E (bd 6) (σ 6), wB E (bd 7) (σ 7), wB E (bd 8) (σ 8), wB E (bd 9) (σ 9), wM E am μ, wO E ao (vp_updL o 0 ((fX7_closedOn μ a).1).toInt64)]) (st1 := [.int 0]) [.ref ax, .int a, .ref ao] [0, 1, 2, 3, 4, 5, 6, 7, 8, 9, 10, 11, 12, 13, 15] (kL_closedOn_r l E ax bo β tr τ ac γ ah bd η σ at_ θ ao o hlt hvb a ((fX7_closedOn μ a).1) hr) q5_122 q1_0 (by decide +kernel) q5_121 q5_120 rfl ⟨Nat.le_of_ble_eq_true rfl, Nat.le_of_ble_eq_true rfl⟩ ⟨hk, hn⟩ (by decide) rfl rfl rfl rfl (Nat.le_of_ble_eq_true rfl) dL_law_2186 rfl ?_
    refine g_istore C (lv1 := [(5, .int 0), (0, .ref b0), (1, .ref ax), (2, .ref (am 0)), (3, .ref ao), (4, .int (nI i))]) dL_law_2189 (by decide) rfl ?_
    refine g_aload_n C dL_law_2191 rfl 3 rfl ?_
    refine g_aload_n C dL_law_2192 rfl 1 rfl ?_
    refine g_iload C dL_law_2193 5 rfl ?_
    refine g_iconst C (v := 1) dL_law_2195 (by decide) ?_
    refine g_iadd C dL_law_2196 ?_
    refine g_sldv C S (i + 1) (nx_add (rfl : nI i = nI i) (rfl : (1 : Int32) = nI 1)) (by omega) ha9 dL_law_2197 ?_
    refine g_callV C (cs1 := [wX ax (bo 0) (tr 0) (ac 0) (ah 0) (at_ 0), wB E bo β, wB E tr τ, wC E ac γ, wH E ah bd η, wT E at_ θ, wB E (bd 2) (σ 2), wB E (bd 3) (σ 3), wB E (bd 4) (σ 4), wB E (bd 5) (σ 5), wB E (bd 6) (σ 6), wB E (bd 7) (σ 7), wB E (bd 8) (σ 8), wB E (bd 9) (σ 9), wM E am ((fX7_closedOn μ a).2), wO E ao (vp_updL o 0 ((fX7_closedOn μ a).1).toInt64)]) (st1 := [.int ((fX7_closedOn μ a).1)]) [.int a] [14] (kX7_closedOn l E am μ hvm a) caX7_closedOn q7_179 rfl ⟨Nat.le_of_ble_eq_true rfl, Nat.le_of_ble_eq_true rfl⟩ ⟨hk, hn⟩ 14 0 rfl rfl rfl rfl (by decide) rfl rfl rfl rfl (Nat.le_of_ble_eq_true rfl) dL_law_2198 rfl ?_
    refine g_istore C (lv1 := [(6, .int ((fX7_closedOn μ a).1)), (5, .int 0), (0, .ref b0), (1, .ref ax), (2, .ref (am 0)), (3, .ref ao), (4, .int (nI i))]) dL_law_2201 (by decide) rfl ?_
    refine g_aload_n C dL_law_2203 rfl 4 rfl ?_
    refine g_callV C (cs1 := [wX ax (bo 0) (tr 0) (ac 0) (ah 0) (at_ 0), wB E bo β, wB E tr τ, wC E ac γ, wH E ah bd η, wT E at_ θ, wB E (bd 2) (σ 2), wB E (bd 3) (σ 3), wB E (bd 4) (σ 4), wB E (bd 5) (σ 5), wB E (bd 6) (σ 6), wB E (bd 7) (σ 7), wB E (bd 8) (σ 8), wB E (bd 9) (σ 9), wM E am ((fX7_closedOn μ a).2), wO E ao (vp_updL o 0 ((fX7_closedOn μ a).1).toInt64)]) (st1 := [.int (fX7_thrown ((fX7_closedOn μ a).2))]) [] [14] (kX7_thrown l E am ((fX7_closedOn μ a).2)) caX7_thrown q6_116 rfl ⟨Nat.le_of_ble_eq_true rfl, Nat.le_of_ble_eq_true rfl⟩ ⟨hk, hn⟩ 14 0 rfl rfl rfl rfl (by decide) rfl rfl rfl rfl (Nat.le_of_ble_eq_true rfl) dL_law_2204 rfl ?_
    refine g_iload C dL_law_2207 1 rfl ?_
    refine g_icmp_eq C 2214 dL_law_2209 (by decide) (fun _ => ?_) (fun c => absurd ht c)
    refine g_iload C dL_law_2214 1 rfl ?_
    refine g_if_ne C 2231 dL_law_2216 (by decide) (fun c => absurd rfl c) (fun _ => ?_)
    refine g_aload_n C dL_law_2219 rfl 5 rfl ?_
    refine g_iconst C (v := 0) dL_law_2220 (by decide) ?_
    refine g_laldn C 15 0 0 rfl rfl rfl (by decide) (by decide) dL_law_2221 ?_
    refine g_iload C dL_law_2222 0 rfl ?_
    refine g_i2l C dL_law_2224 ?_
    refine g_lcmp C dL_law_2225 ?_
    refine g_if_eq C 2231 dL_law_2226 (by decide) (fun _ => ?_) (fun c => absurd law_cmp c)
    refine g_goto C 3840 dL_law_2231 (by decide) ?_
    exact g_sub [2, 3, 4, 5, 6] rfl (next β τ γ η σ θ ((fX7_closedOn μ a).2) (vp_updL o 0 ((fX7_closedOn μ a).1).toInt64) hR2)
  · skip
    refine g_aload_n C dL_law_2178 rfl 1 rfl ?_
    refine g_aload_n C dL_law_2179 rfl 0 rfl ?_
    refine g_iload C dL_law_2180 4 rfl ?_
    refine g_iconst C (v := 1) dL_law_2182 (by decide) ?_
    refine g_iadd C dL_law_2183 ?_
    refine g_sldv C S (i + 1) (nx_add (rfl : nI i = nI i) (rfl : (1 : Int32) = nI 1)) (by omega) ha9 dL_law_2184 ?_
    refine g_aload_n C dL_law_2185 rfl 3 rfl ?_
    refine g_callSW C hZ hNc (z := 3) (cs1 := [wX ax (bo 0) (tr 0) (ac 0) (ah 0) (at_ 0), wB E bo β, wB E tr τ, wC E ac γ, wH E ah bd η, wT E at_ θ, wB E (bd 2) (σ 2), wB E (bd 3) (σ 3), wB E (bd 4) (σ 4), wB E (bd 5) (σ 5), wB E (bd 6) (σ 6), wB E (bd 7) (σ 7), wB E (bd 8) (σ 8), wB E (bd 9) (σ 9), wM E am μ, wO E ao o]) (st1 := [.int 1]) [.ref ax, .int a, .ref ao] [0, 1, 2, 3, 4, 5, 6, 7, 8, 9, 10, 11, 12, 13, 15] (kL_closedOn_0 l E ax bo β tr τ ac γ ah bd η σ at_ θ ao o hlt hvb a hr) q5_122 q1_0 (by decide +kernel) q5_121 q5_120 rfl ⟨Nat.le_of_ble_eq_true rfl, Nat.le_of_ble_eq_true rfl⟩ ⟨hk, hn⟩ (by decide) rfl rfl rfl rfl (Nat.le_of_ble_eq_true rfl) dL_law_2186 rfl ?_
    refine g_istore C (lv1 := [(5, .int 1), (0, .ref b0), (1, .ref ax), (2, .ref (am 0)), (3, .ref ao), (4, .int (nI i))]) dL_law_2189 (by decide) rfl ?_
    refine g_aload_n C dL_law_2191 rfl 3 rfl ?_
    refine g_aload_n C dL_law_2192 rfl 1 rfl ?_
    refine g_iload C dL_law_2193 5 rfl ?_
    refine g_iconst C (v := 1) dL_law_2195 (by decide) ?_
    refine g_iadd C dL_law_2196 ?_
    refine g_sldv C S (i + 1) (nx_add (rfl : nI i = nI i) (rfl : (1 : Int32) = nI 1)) (by omega) ha9 dL_law_2197 ?_
    refine g_callV C (cs1 := [wX ax (bo 0) (tr 0) (ac 0) (ah 0) (at_ 0), wB E bo β, wB E tr τ, wC E ac γ, wH E ah bd η, wT E at_ θ, wB E (bd 2) (σ 2), wB E (bd 3) (σ 3), wB E (bd 4) (σ 4), wB E (bd 5) (σ 5), wB E (bd 6) (σ 6), wB E (bd 7) (σ 7), wB E (bd 8) (σ 8), wB E (bd 9) (σ 9), wM E am ((fX7_closedOn μ a).2), wO E ao o]) (st1 := [.int ((fX7_closedOn μ a).1)]) [.int a] [14] (kX7_closedOn l E am μ hvm a) caX7_closedOn q7_179 rfl ⟨Nat.le_of_ble_eq_true rfl, Nat.le_of_ble_eq_true rfl⟩ ⟨hk, hn⟩ 14 0 rfl rfl rfl rfl (by decide) rfl rfl rfl rfl (Nat.le_of_ble_eq_true rfl) dL_law_2198 rfl ?_
    refine g_istore C (lv1 := [(6, .int ((fX7_closedOn μ a).1)), (5, .int 1), (0, .ref b0), (1, .ref ax), (2, .ref (am 0)), (3, .ref ao), (4, .int (nI i))]) dL_law_2201 (by decide) rfl ?_
    refine g_aload_n C dL_law_2203 rfl 4 rfl ?_
    refine g_callV C (cs1 := [wX ax (bo 0) (tr 0) (ac 0) (ah 0) (at_ 0), wB E bo β, wB E tr τ, wC E ac γ, wH E ah bd η, wT E at_ θ, wB E (bd 2) (σ 2), wB E (bd 3) (σ 3), wB E (bd 4) (σ 4), wB E (bd 5) (σ 5), wB E (bd 6) (σ 6), wB E (bd 7) (σ 7), wB E (bd 8) (σ 8), wB E (bd 9) (σ 9), wM E am ((fX7_closedOn μ a).2), wO E ao o]) (st1 := [.int (fX7_thrown ((fX7_closedOn μ a).2))]) [] [14] (kX7_thrown l E am ((fX7_closedOn μ a).2)) caX7_thrown q6_116 rfl ⟨Nat.le_of_ble_eq_true rfl, Nat.le_of_ble_eq_true rfl⟩ ⟨hk, hn⟩ 14 0 rfl rfl rfl rfl (by decide) rfl rfl rfl rfl (Nat.le_of_ble_eq_true rfl) dL_law_2204 rfl ?_
    refine g_iload C dL_law_2207 1 rfl ?_
    refine g_icmp_eq C 2214 dL_law_2209 (by decide) (fun _ => ?_) (fun c => absurd ht c)
    refine g_iload C dL_law_2214 1 rfl ?_
    refine g_if_ne C 2231 dL_law_2216 (by decide) (fun _ => ?_) (fun c => absurd c (by decide))
    refine g_goto C 3840 dL_law_2231 (by decide) ?_
    exact g_sub [2, 3, 4, 5, 6] rfl (next β τ γ η σ θ ((fX7_closedOn μ a).2) o hR2)
  · skip
    refine g_aload_n C dL_law_2178 rfl 1 rfl ?_
    refine g_aload_n C dL_law_2179 rfl 0 rfl ?_
    refine g_iload C dL_law_2180 4 rfl ?_
    refine g_iconst C (v := 1) dL_law_2182 (by decide) ?_
    refine g_iadd C dL_law_2183 ?_
    refine g_sldv C S (i + 1) (nx_add (rfl : nI i = nI i) (rfl : (1 : Int32) = nI 1)) (by omega) ha9 dL_law_2184 ?_
    refine g_aload_n C dL_law_2185 rfl 3 rfl ?_
    refine g_callSW C hZ hNc (z := 3) (cs1 := [wX ax (bo 0) (tr 0) (ac 0) (ah 0) (at_ 0), wB E bo β, wB E tr τ, wC E ac γ, wH E ah bd η, wT E at_ θ, wB E (bd 2) (σ 2), wB E (bd 3) (σ 3), wB E (bd 4) (σ 4), wB E (bd 5) (σ 5), wB E (bd 6) (σ 6), wB E (bd 7) (σ 7), wB E (bd 8) (σ 8), wB E (bd 9) (σ 9), wM E am μ, wO E ao o]) (st1 := [.int 2]) [.ref ax, .int a, .ref ao] [0, 1, 2, 3, 4, 5, 6, 7, 8, 9, 10, 11, 12, 13, 15] (kL_closedOn_1 l E ax bo β tr τ ac γ ah bd η σ at_ θ ao o hlt hvb a hr) q5_122 q1_0 (by decide +kernel) q5_121 q5_120 rfl ⟨Nat.le_of_ble_eq_true rfl, Nat.le_of_ble_eq_true rfl⟩ ⟨hk, hn⟩ (by decide) rfl rfl rfl rfl (Nat.le_of_ble_eq_true rfl) dL_law_2186 rfl ?_
    refine g_istore C (lv1 := [(5, .int 2), (0, .ref b0), (1, .ref ax), (2, .ref (am 0)), (3, .ref ao), (4, .int (nI i))]) dL_law_2189 (by decide) rfl ?_
    refine g_aload_n C dL_law_2191 rfl 3 rfl ?_
    refine g_aload_n C dL_law_2192 rfl 1 rfl ?_
    refine g_iload C dL_law_2193 5 rfl ?_
    refine g_iconst C (v := 1) dL_law_2195 (by decide) ?_
    refine g_iadd C dL_law_2196 ?_
    refine g_sldv C S (i + 1) (nx_add (rfl : nI i = nI i) (rfl : (1 : Int32) = nI 1)) (by omega) ha9 dL_law_2197 ?_
    refine g_callV C (cs1 := [wX ax (bo 0) (tr 0) (ac 0) (ah 0) (at_ 0), wB E bo β, wB E tr τ, wC E ac γ, wH E ah bd η, wT E at_ θ, wB E (bd 2) (σ 2), wB E (bd 3) (σ 3), wB E (bd 4) (σ 4), wB E (bd 5) (σ 5), wB E (bd 6) (σ 6), wB E (bd 7) (σ 7), wB E (bd 8) (σ 8), wB E (bd 9) (σ 9), wM E am ((fX7_closedOn μ a).2), wO E ao o]) (st1 := [.int ((fX7_closedOn μ a).1)]) [.int a] [14] (kX7_closedOn l E am μ hvm a) caX7_closedOn q7_179 rfl ⟨Nat.le_of_ble_eq_true rfl, Nat.le_of_ble_eq_true rfl⟩ ⟨hk, hn⟩ 14 0 rfl rfl rfl rfl (by decide) rfl rfl rfl rfl (Nat.le_of_ble_eq_true rfl) dL_law_2198 rfl ?_
    refine g_istore C (lv1 := [(6, .int ((fX7_closedOn μ a).1)), (5, .int 2), (0, .ref b0), (1, .ref ax), (2, .ref (am 0)), (3, .ref ao), (4, .int (nI i))]) dL_law_2201 (by decide) rfl ?_
    refine g_aload_n C dL_law_2203 rfl 4 rfl ?_
    refine g_callV C (cs1 := [wX ax (bo 0) (tr 0) (ac 0) (ah 0) (at_ 0), wB E bo β, wB E tr τ, wC E ac γ, wH E ah bd η, wT E at_ θ, wB E (bd 2) (σ 2), wB E (bd 3) (σ 3), wB E (bd 4) (σ 4), wB E (bd 5) (σ 5), wB E (bd 6) (σ 6), wB E (bd 7) (σ 7), wB E (bd 8) (σ 8), wB E (bd 9) (σ 9), wM E am ((fX7_closedOn μ a).2), wO E ao o]) (st1 := [.int (fX7_thrown ((fX7_closedOn μ a).2))]) [] [14] (kX7_thrown l E am ((fX7_closedOn μ a).2)) caX7_thrown q6_116 rfl ⟨Nat.le_of_ble_eq_true rfl, Nat.le_of_ble_eq_true rfl⟩ ⟨hk, hn⟩ 14 0 rfl rfl rfl rfl (by decide) rfl rfl rfl rfl (Nat.le_of_ble_eq_true rfl) dL_law_2204 rfl ?_
    refine g_iload C dL_law_2207 1 rfl ?_
    refine g_icmp_eq C 2214 dL_law_2209 (by decide) (fun _ => ?_) (fun c => absurd ht c)
    refine g_iload C dL_law_2214 1 rfl ?_
    refine g_if_ne C 2231 dL_law_2216 (by decide) (fun _ => ?_) (fun c => absurd c (by decide))
    refine g_goto C 3840 dL_law_2231 (by decide) ?_
    exact g_sub [2, 3, 4, 5, 6] rfl (next β τ γ η σ θ ((fX7_closedOn μ a).2) o hR2)
set_option maxHeartbeats 4000000 in
set_option maxRecDepth 100000 in
theorem arm_37 {Rl : RlT} (hRv : RlV Rl) (hs : sH_daysInProgress Rl)  {X : gX} {l : Launch} {E : gE} (C : gC X cL_law 9 RL (some .boolean) l E room_1) (hZ : gZ X.2.2.2.2.2.2.2.2.2.2.2.1 X.2.2.2.2.1 X.2.2.2.2.1.heap) (hNc : gNc X.2.2.2.2.1) {b0 L0 : Nat} {xs : Nat → Int32} (S : gS X b0 L0 xs) (hlt : l.stackTraces = false) {ax : Nat} {bo tr ac ah : Nat → Nat} {bd : Nat → Nat → Nat} {at_ am : Nat → Nat} {ao k n i : Nat} (hk : k + 3 ≤ 601024) (hn : n + 18 ≤ 7293034) (hi : i + 3 ≤ L0) {β τ γ η : BS} {σ : Nat → BS} {θ μ : BS} {o : Nat → Int64} (hR : Rl β η θ σ μ) (next : ∀ (β τ γ η : BS) (σ : Nat → BS) (θ μ : BS) (o : Nat → Int64), Rl β η θ σ μ → G X (k + 3) (n + 18) [wX ax (bo 0) (tr 0) (ac 0) (ah 0) (at_ 0), wB E bo β, wB E tr τ, wC E ac γ, wH E ah bd η, wT E at_ θ, wB E (bd 2) (σ 2), wB E (bd 3) (σ 3), wB E (bd 4) (σ 4), wB E (bd 5) (σ 5), wB E (bd 6) (σ 6), wB E (bd 7) (σ 7), wB E (bd 8) (σ 8), wB E (bd 9) (σ 9), wM E am μ, wO E ao o] [(0, .ref b0), (1, .ref ax), (2, .ref (am 0)), (3, .ref ao), (4, .int (nI i))] 3840 []) : G X k n [wX ax (bo 0) (tr 0) (ac 0) (ah 0) (at_ 0), wB E bo β, wB E tr τ, wC E ac γ, wH E ah bd η, wT E at_ θ, wB E (bd 2) (σ 2), wB E (bd 3) (σ 3), wB E (bd 4) (σ 4), wB E (bd 5) (σ 5), wB E (bd 6) (σ 6), wB E (bd 7) (σ 7), wB E (bd 8) (σ 8), wB E (bd 9) (σ 9), wM E am μ, wO E ao o] [(0, .ref b0), (1, .ref ax), (2, .ref (am 0)), (3, .ref ao), (4, .int (nI i))] 2234 [] := by
  obtain ⟨hvb, hvh, hvt, hvm, ha⟩ := hRv β η θ σ μ hR
  obtain ⟨a, ha9⟩ : ∃ a, xs (i + 1) = a := ⟨_, rfl⟩
  obtain ⟨hag, hR2⟩ := hs β τ γ η σ θ μ a hR
  rcases hag with ⟨hr, ht⟩ | ⟨hr, ht⟩
  · skip
    refine g_aload_n C dL_law_2234 rfl 1 rfl ?_
    refine g_aload_n C dL_law_2235 rfl 0 rfl ?_
    refine g_iload C dL_law_2236 4 rfl ?_
    refine g_iconst C (v := 1) dL_law_2238 (by decide) ?_
    refine g_iadd C dL_law_2239 ?_
    refine g_sldv C S (i + 1) (nx_add (rfl : nI i = nI i) (rfl : (1 : Int32) = nI 1)) (by omega) ha9 dL_law_2240 ?_
    refine g_aload_n C dL_law_2241 rfl 3 rfl ?_
    refine g_callSW C hZ hNc (z := 3) (cs1 := [wX ax (bo 0) (tr 0) (ac 0) (ah 0) (at_ 0), wB E bo β, wB E tr τ, wC E ac γ, wH E ah bd η, wT E at_ θ, wB E (bd 2) (σ 2), wB E (bd 3) (σ 3), wB E (bd 4) (σ 4), wB E (bd 5) (σ 5), wB E (bd 6) (σ 6), wB E (bd 7) (σ 7), wB E (bd 8) (σ 8), wB E (bd 9) (σ 9), wM E am μ, wO E ao (vp_updL o 0 ((fX7_daysInProgress μ a).1).toInt64)]) (st1 := [.int 0]) [.ref ax, .int a, .ref ao] [0, 1, 2, 3, 4, 5, 6, 7, 8, 9, 10, 11, 12, 13, 15] (kL_daysInProgress_r l E ax bo β tr τ ac γ ah bd η σ at_ θ ao o hlt hvb a ((fX7_daysInProgress μ a).1) hr) q5_129 q1_0 (by decide +kernel) q5_128 q5_127 rfl ⟨Nat.le_of_ble_eq_true rfl, Nat.le_of_ble_eq_true rfl⟩ ⟨hk, hn⟩ (by decide) rfl rfl rfl rfl (Nat.le_of_ble_eq_true rfl) dL_law_2242 rfl ?_
    refine g_istore C (lv1 := [(5, .int 0), (0, .ref b0), (1, .ref ax), (2, .ref (am 0)), (3, .ref ao), (4, .int (nI i))]) dL_law_2245 (by decide) rfl ?_
    refine g_aload_n C dL_law_2247 rfl 3 rfl ?_
    refine g_aload_n C dL_law_2248 rfl 1 rfl ?_
    refine g_iload C dL_law_2249 5 rfl ?_
    refine g_iconst C (v := 1) dL_law_2251 (by decide) ?_
    refine g_iadd C dL_law_2252 ?_
    refine g_sldv C S (i + 1) (nx_add (rfl : nI i = nI i) (rfl : (1 : Int32) = nI 1)) (by omega) ha9 dL_law_2253 ?_
    refine g_callV C (cs1 := [wX ax (bo 0) (tr 0) (ac 0) (ah 0) (at_ 0), wB E bo β, wB E tr τ, wC E ac γ, wH E ah bd η, wT E at_ θ, wB E (bd 2) (σ 2), wB E (bd 3) (σ 3), wB E (bd 4) (σ 4), wB E (bd 5) (σ 5), wB E (bd 6) (σ 6), wB E (bd 7) (σ 7), wB E (bd 8) (σ 8), wB E (bd 9) (σ 9), wM E am ((fX7_daysInProgress μ a).2), wO E ao (vp_updL o 0 ((fX7_daysInProgress μ a).1).toInt64)]) (st1 := [.int ((fX7_daysInProgress μ a).1)]) [.int a] [14] (kX7_daysInProgress l E am μ hvm a) caX7_daysInProgress q7_183 rfl ⟨Nat.le_of_ble_eq_true rfl, Nat.le_of_ble_eq_true rfl⟩ ⟨hk, hn⟩ 14 0 rfl rfl rfl rfl (by decide) rfl rfl rfl rfl (Nat.le_of_ble_eq_true rfl) dL_law_2254 rfl ?_
    refine g_istore C (lv1 := [(6, .int ((fX7_daysInProgress μ a).1)), (5, .int 0), (0, .ref b0), (1, .ref ax), (2, .ref (am 0)), (3, .ref ao), (4, .int (nI i))]) dL_law_2257 (by decide) rfl ?_
    refine g_aload_n C dL_law_2259 rfl 4 rfl ?_
    refine g_callV C (cs1 := [wX ax (bo 0) (tr 0) (ac 0) (ah 0) (at_ 0), wB E bo β, wB E tr τ, wC E ac γ, wH E ah bd η, wT E at_ θ, wB E (bd 2) (σ 2), wB E (bd 3) (σ 3), wB E (bd 4) (σ 4), wB E (bd 5) (σ 5), wB E (bd 6) (σ 6), wB E (bd 7) (σ 7), wB E (bd 8) (σ 8), wB E (bd 9) (σ 9), wM E am ((fX7_daysInProgress μ a).2), wO E ao (vp_updL o 0 ((fX7_daysInProgress μ a).1).toInt64)]) (st1 := [.int (fX7_thrown ((fX7_daysInProgress μ a).2))]) [] [14] (kX7_thrown l E am ((fX7_daysInProgress μ a).2)) caX7_thrown q6_116 rfl ⟨Nat.le_of_ble_eq_true rfl, Nat.le_of_ble_eq_true rfl⟩ ⟨hk, hn⟩ 14 0 rfl rfl rfl rfl (by decide) rfl rfl rfl rfl (Nat.le_of_ble_eq_true rfl) dL_law_2260 rfl ?_
    refine g_iload C dL_law_2263 1 rfl ?_
    refine g_icmp_eq C 2270 dL_law_2265 (by decide) (fun _ => ?_) (fun c => absurd ht c)
    refine g_iload C dL_law_2270 1 rfl ?_
    refine g_if_ne C 2287 dL_law_2272 (by decide) (fun c => absurd rfl c) (fun _ => ?_)
    refine g_aload_n C dL_law_2275 rfl 5 rfl ?_
    refine g_iconst C (v := 0) dL_law_2276 (by decide) ?_
    refine g_laldn C 15 0 0 rfl rfl rfl (by decide) (by decide) dL_law_2277 ?_
    refine g_iload C dL_law_2278 0 rfl ?_
    refine g_i2l C dL_law_2280 ?_
    refine g_lcmp C dL_law_2281 ?_
    refine g_if_eq C 2287 dL_law_2282 (by decide) (fun _ => ?_) (fun c => absurd law_cmp c)
    refine g_goto C 3840 dL_law_2287 (by decide) ?_
    exact g_sub [2, 3, 4, 5, 6] rfl (next β τ γ η σ θ ((fX7_daysInProgress μ a).2) (vp_updL o 0 ((fX7_daysInProgress μ a).1).toInt64) hR2)
  · skip
    refine g_aload_n C dL_law_2234 rfl 1 rfl ?_
    refine g_aload_n C dL_law_2235 rfl 0 rfl ?_
    refine g_iload C dL_law_2236 4 rfl ?_
    refine g_iconst C (v := 1) dL_law_2238 (by decide) ?_
    refine g_iadd C dL_law_2239 ?_
    refine g_sldv C S (i + 1) (nx_add (rfl : nI i = nI i) (rfl : (1 : Int32) = nI 1)) (by omega) ha9 dL_law_2240 ?_
    refine g_aload_n C dL_law_2241 rfl 3 rfl ?_
    refine g_callSW C hZ hNc (z := 3) (cs1 := [wX ax (bo 0) (tr 0) (ac 0) (ah 0) (at_ 0), wB E bo β, wB E tr τ, wC E ac γ, wH E ah bd η, wT E at_ θ, wB E (bd 2) (σ 2), wB E (bd 3) (σ 3), wB E (bd 4) (σ 4), wB E (bd 5) (σ 5), wB E (bd 6) (σ 6), wB E (bd 7) (σ 7), wB E (bd 8) (σ 8), wB E (bd 9) (σ 9), wM E am μ, wO E ao o]) (st1 := [.int 1]) [.ref ax, .int a, .ref ao] [0, 1, 2, 3, 4, 5, 6, 7, 8, 9, 10, 11, 12, 13, 15] (kL_daysInProgress_0 l E ax bo β tr τ ac γ ah bd η σ at_ θ ao o hlt hvb a hr) q5_129 q1_0 (by decide +kernel) q5_128 q5_127 rfl ⟨Nat.le_of_ble_eq_true rfl, Nat.le_of_ble_eq_true rfl⟩ ⟨hk, hn⟩ (by decide) rfl rfl rfl rfl (Nat.le_of_ble_eq_true rfl) dL_law_2242 rfl ?_
    refine g_istore C (lv1 := [(5, .int 1), (0, .ref b0), (1, .ref ax), (2, .ref (am 0)), (3, .ref ao), (4, .int (nI i))]) dL_law_2245 (by decide) rfl ?_
    refine g_aload_n C dL_law_2247 rfl 3 rfl ?_
    refine g_aload_n C dL_law_2248 rfl 1 rfl ?_
    refine g_iload C dL_law_2249 5 rfl ?_
    refine g_iconst C (v := 1) dL_law_2251 (by decide) ?_
    refine g_iadd C dL_law_2252 ?_
    refine g_sldv C S (i + 1) (nx_add (rfl : nI i = nI i) (rfl : (1 : Int32) = nI 1)) (by omega) ha9 dL_law_2253 ?_
    refine g_callV C (cs1 := [wX ax (bo 0) (tr 0) (ac 0) (ah 0) (at_ 0), wB E bo β, wB E tr τ, wC E ac γ, wH E ah bd η, wT E at_ θ, wB E (bd 2) (σ 2), wB E (bd 3) (σ 3), wB E (bd 4) (σ 4), wB E (bd 5) (σ 5), wB E (bd 6) (σ 6), wB E (bd 7) (σ 7), wB E (bd 8) (σ 8), wB E (bd 9) (σ 9), wM E am ((fX7_daysInProgress μ a).2), wO E ao o]) (st1 := [.int ((fX7_daysInProgress μ a).1)]) [.int a] [14] (kX7_daysInProgress l E am μ hvm a) caX7_daysInProgress q7_183 rfl ⟨Nat.le_of_ble_eq_true rfl, Nat.le_of_ble_eq_true rfl⟩ ⟨hk, hn⟩ 14 0 rfl rfl rfl rfl (by decide) rfl rfl rfl rfl (Nat.le_of_ble_eq_true rfl) dL_law_2254 rfl ?_
    refine g_istore C (lv1 := [(6, .int ((fX7_daysInProgress μ a).1)), (5, .int 1), (0, .ref b0), (1, .ref ax), (2, .ref (am 0)), (3, .ref ao), (4, .int (nI i))]) dL_law_2257 (by decide) rfl ?_
    refine g_aload_n C dL_law_2259 rfl 4 rfl ?_
    refine g_callV C (cs1 := [wX ax (bo 0) (tr 0) (ac 0) (ah 0) (at_ 0), wB E bo β, wB E tr τ, wC E ac γ, wH E ah bd η, wT E at_ θ, wB E (bd 2) (σ 2), wB E (bd 3) (σ 3), wB E (bd 4) (σ 4), wB E (bd 5) (σ 5), wB E (bd 6) (σ 6), wB E (bd 7) (σ 7), wB E (bd 8) (σ 8), wB E (bd 9) (σ 9), wM E am ((fX7_daysInProgress μ a).2), wO E ao o]) (st1 := [.int (fX7_thrown ((fX7_daysInProgress μ a).2))]) [] [14] (kX7_thrown l E am ((fX7_daysInProgress μ a).2)) caX7_thrown q6_116 rfl ⟨Nat.le_of_ble_eq_true rfl, Nat.le_of_ble_eq_true rfl⟩ ⟨hk, hn⟩ 14 0 rfl rfl rfl rfl (by decide) rfl rfl rfl rfl (Nat.le_of_ble_eq_true rfl) dL_law_2260 rfl ?_
    refine g_iload C dL_law_2263 1 rfl ?_
    refine g_icmp_eq C 2270 dL_law_2265 (by decide) (fun _ => ?_) (fun c => absurd ht c)
    refine g_iload C dL_law_2270 1 rfl ?_
    refine g_if_ne C 2287 dL_law_2272 (by decide) (fun _ => ?_) (fun c => absurd c (by decide))
    refine g_goto C 3840 dL_law_2287 (by decide) ?_
    exact g_sub [2, 3, 4, 5, 6] rfl (next β τ γ η σ θ ((fX7_daysInProgress μ a).2) o hR2)
set_option maxHeartbeats 4000000 in
set_option maxRecDepth 100000 in
theorem arm_38 {Rl : RlT} (hRv : RlV Rl) (hs : sH_timesSentBack Rl)  {X : gX} {l : Launch} {E : gE} (C : gC X cL_law 9 RL (some .boolean) l E room_1) (hZ : gZ X.2.2.2.2.2.2.2.2.2.2.2.1 X.2.2.2.2.1 X.2.2.2.2.1.heap) (hNc : gNc X.2.2.2.2.1) {b0 L0 : Nat} {xs : Nat → Int32} (S : gS X b0 L0 xs) (hlt : l.stackTraces = false) {ax : Nat} {bo tr ac ah : Nat → Nat} {bd : Nat → Nat → Nat} {at_ am : Nat → Nat} {ao k n i : Nat} (hk : k + 3 ≤ 601024) (hn : n + 18 ≤ 7293034) (hi : i + 3 ≤ L0) {β τ γ η : BS} {σ : Nat → BS} {θ μ : BS} {o : Nat → Int64} (hR : Rl β η θ σ μ) (next : ∀ (β τ γ η : BS) (σ : Nat → BS) (θ μ : BS) (o : Nat → Int64), Rl β η θ σ μ → G X (k + 3) (n + 18) [wX ax (bo 0) (tr 0) (ac 0) (ah 0) (at_ 0), wB E bo β, wB E tr τ, wC E ac γ, wH E ah bd η, wT E at_ θ, wB E (bd 2) (σ 2), wB E (bd 3) (σ 3), wB E (bd 4) (σ 4), wB E (bd 5) (σ 5), wB E (bd 6) (σ 6), wB E (bd 7) (σ 7), wB E (bd 8) (σ 8), wB E (bd 9) (σ 9), wM E am μ, wO E ao o] [(0, .ref b0), (1, .ref ax), (2, .ref (am 0)), (3, .ref ao), (4, .int (nI i))] 3840 []) : G X k n [wX ax (bo 0) (tr 0) (ac 0) (ah 0) (at_ 0), wB E bo β, wB E tr τ, wC E ac γ, wH E ah bd η, wT E at_ θ, wB E (bd 2) (σ 2), wB E (bd 3) (σ 3), wB E (bd 4) (σ 4), wB E (bd 5) (σ 5), wB E (bd 6) (σ 6), wB E (bd 7) (σ 7), wB E (bd 8) (σ 8), wB E (bd 9) (σ 9), wM E am μ, wO E ao o] [(0, .ref b0), (1, .ref ax), (2, .ref (am 0)), (3, .ref ao), (4, .int (nI i))] 2290 [] := by
  obtain ⟨hvb, hvh, hvt, hvm, ha⟩ := hRv β η θ σ μ hR
  obtain ⟨a, ha9⟩ : ∃ a, xs (i + 1) = a := ⟨_, rfl⟩
  obtain ⟨hag, hR2⟩ := hs β τ γ η σ θ μ a hR
  rcases hag with ⟨hr, ht⟩ | ⟨hr, ht⟩
  · skip
    refine g_aload_n C dL_law_2290 rfl 1 rfl ?_
    refine g_aload_n C dL_law_2291 rfl 0 rfl ?_
    refine g_iload C dL_law_2292 4 rfl ?_
    refine g_iconst C (v := 1) dL_law_2294 (by decide) ?_
    refine g_iadd C dL_law_2295 ?_
    refine g_sldv C S (i + 1) (nx_add (rfl : nI i = nI i) (rfl : (1 : Int32) = nI 1)) (by omega) ha9 dL_law_2296 ?_
    refine g_aload_n C dL_law_2297 rfl 3 rfl ?_
    refine g_callSW C hZ hNc (z := 3) (cs1 := [wX ax (bo 0) (tr 0) (ac 0) (ah 0) (at_ 0), wB E bo β, wB E tr τ, wC E ac γ, wH E ah bd η, wT E at_ θ, wB E (bd 2) (σ 2), wB E (bd 3) (σ 3), wB E (bd 4) (σ 4), wB E (bd 5) (σ 5), wB E (bd 6) (σ 6), wB E (bd 7) (σ 7), wB E (bd 8) (σ 8), wB E (bd 9) (σ 9), wM E am μ, wO E ao (vp_updL o 0 ((fX7_timesSentBack μ a).1).toInt64)]) (st1 := [.int 0]) [.ref ax, .int a, .ref ao] [0, 1, 2, 3, 4, 5, 6, 7, 8, 9, 10, 11, 12, 13, 15] (kL_timesSentBack_r l E ax bo β tr τ ac γ ah bd η σ at_ θ ao o hlt hvb a ((fX7_timesSentBack μ a).1) hr) q5_136 q1_0 (by decide +kernel) q5_135 q5_134 rfl ⟨Nat.le_of_ble_eq_true rfl, Nat.le_of_ble_eq_true rfl⟩ ⟨hk, hn⟩ (by decide) rfl rfl rfl rfl (Nat.le_of_ble_eq_true rfl) dL_law_2298 rfl ?_
    refine g_istore C (lv1 := [(5, .int 0), (0, .ref b0), (1, .ref ax), (2, .ref (am 0)), (3, .ref ao), (4, .int (nI i))]) dL_law_2301 (by decide) rfl ?_
    refine g_aload_n C dL_law_2303 rfl 3 rfl ?_
    refine g_aload_n C dL_law_2304 rfl 1 rfl ?_
    refine g_iload C dL_law_2305 5 rfl ?_
    refine g_iconst C (v := 1) dL_law_2307 (by decide) ?_
    refine g_iadd C dL_law_2308 ?_
    refine g_sldv C S (i + 1) (nx_add (rfl : nI i = nI i) (rfl : (1 : Int32) = nI 1)) (by omega) ha9 dL_law_2309 ?_
    refine g_callV C (cs1 := [wX ax (bo 0) (tr 0) (ac 0) (ah 0) (at_ 0), wB E bo β, wB E tr τ, wC E ac γ, wH E ah bd η, wT E at_ θ, wB E (bd 2) (σ 2), wB E (bd 3) (σ 3), wB E (bd 4) (σ 4), wB E (bd 5) (σ 5), wB E (bd 6) (σ 6), wB E (bd 7) (σ 7), wB E (bd 8) (σ 8), wB E (bd 9) (σ 9), wM E am ((fX7_timesSentBack μ a).2), wO E ao (vp_updL o 0 ((fX7_timesSentBack μ a).1).toInt64)]) (st1 := [.int ((fX7_timesSentBack μ a).1)]) [.int a] [14] (kX7_timesSentBack l E am μ hvm a) caX7_timesSentBack q7_187 rfl ⟨Nat.le_of_ble_eq_true rfl, Nat.le_of_ble_eq_true rfl⟩ ⟨hk, hn⟩ 14 0 rfl rfl rfl rfl (by decide) rfl rfl rfl rfl (Nat.le_of_ble_eq_true rfl) dL_law_2310 rfl ?_
    refine g_istore C (lv1 := [(6, .int ((fX7_timesSentBack μ a).1)), (5, .int 0), (0, .ref b0), (1, .ref ax), (2, .ref (am 0)), (3, .ref ao), (4, .int (nI i))]) dL_law_2313 (by decide) rfl ?_
    refine g_aload_n C dL_law_2315 rfl 4 rfl ?_
    refine g_callV C (cs1 := [wX ax (bo 0) (tr 0) (ac 0) (ah 0) (at_ 0), wB E bo β, wB E tr τ, wC E ac γ, wH E ah bd η, wT E at_ θ, wB E (bd 2) (σ 2), wB E (bd 3) (σ 3), wB E (bd 4) (σ 4), wB E (bd 5) (σ 5), wB E (bd 6) (σ 6), wB E (bd 7) (σ 7), wB E (bd 8) (σ 8), wB E (bd 9) (σ 9), wM E am ((fX7_timesSentBack μ a).2), wO E ao (vp_updL o 0 ((fX7_timesSentBack μ a).1).toInt64)]) (st1 := [.int (fX7_thrown ((fX7_timesSentBack μ a).2))]) [] [14] (kX7_thrown l E am ((fX7_timesSentBack μ a).2)) caX7_thrown q6_116 rfl ⟨Nat.le_of_ble_eq_true rfl, Nat.le_of_ble_eq_true rfl⟩ ⟨hk, hn⟩ 14 0 rfl rfl rfl rfl (by decide) rfl rfl rfl rfl (Nat.le_of_ble_eq_true rfl) dL_law_2316 rfl ?_
    refine g_iload C dL_law_2319 1 rfl ?_
    refine g_icmp_eq C 2326 dL_law_2321 (by decide) (fun _ => ?_) (fun c => absurd ht c)
    refine g_iload C dL_law_2326 1 rfl ?_
    refine g_if_ne C 2343 dL_law_2328 (by decide) (fun c => absurd rfl c) (fun _ => ?_)
    refine g_aload_n C dL_law_2331 rfl 5 rfl ?_
    refine g_iconst C (v := 0) dL_law_2332 (by decide) ?_
    refine g_laldn C 15 0 0 rfl rfl rfl (by decide) (by decide) dL_law_2333 ?_
    refine g_iload C dL_law_2334 0 rfl ?_
    refine g_i2l C dL_law_2336 ?_
    refine g_lcmp C dL_law_2337 ?_
    refine g_if_eq C 2343 dL_law_2338 (by decide) (fun _ => ?_) (fun c => absurd law_cmp c)
    refine g_goto C 3840 dL_law_2343 (by decide) ?_
    exact g_sub [2, 3, 4, 5, 6] rfl (next β τ γ η σ θ ((fX7_timesSentBack μ a).2) (vp_updL o 0 ((fX7_timesSentBack μ a).1).toInt64) hR2)
  · skip
    refine g_aload_n C dL_law_2290 rfl 1 rfl ?_
    refine g_aload_n C dL_law_2291 rfl 0 rfl ?_
    refine g_iload C dL_law_2292 4 rfl ?_
    refine g_iconst C (v := 1) dL_law_2294 (by decide) ?_
    refine g_iadd C dL_law_2295 ?_
    refine g_sldv C S (i + 1) (nx_add (rfl : nI i = nI i) (rfl : (1 : Int32) = nI 1)) (by omega) ha9 dL_law_2296 ?_
    refine g_aload_n C dL_law_2297 rfl 3 rfl ?_
    refine g_callSW C hZ hNc (z := 3) (cs1 := [wX ax (bo 0) (tr 0) (ac 0) (ah 0) (at_ 0), wB E bo β, wB E tr τ, wC E ac γ, wH E ah bd η, wT E at_ θ, wB E (bd 2) (σ 2), wB E (bd 3) (σ 3), wB E (bd 4) (σ 4), wB E (bd 5) (σ 5), wB E (bd 6) (σ 6), wB E (bd 7) (σ 7), wB E (bd 8) (σ 8), wB E (bd 9) (σ 9), wM E am μ, wO E ao o]) (st1 := [.int 1]) [.ref ax, .int a, .ref ao] [0, 1, 2, 3, 4, 5, 6, 7, 8, 9, 10, 11, 12, 13, 15] (kL_timesSentBack_0 l E ax bo β tr τ ac γ ah bd η σ at_ θ ao o hlt hvb a hr) q5_136 q1_0 (by decide +kernel) q5_135 q5_134 rfl ⟨Nat.le_of_ble_eq_true rfl, Nat.le_of_ble_eq_true rfl⟩ ⟨hk, hn⟩ (by decide) rfl rfl rfl rfl (Nat.le_of_ble_eq_true rfl) dL_law_2298 rfl ?_
    refine g_istore C (lv1 := [(5, .int 1), (0, .ref b0), (1, .ref ax), (2, .ref (am 0)), (3, .ref ao), (4, .int (nI i))]) dL_law_2301 (by decide) rfl ?_
    refine g_aload_n C dL_law_2303 rfl 3 rfl ?_
    refine g_aload_n C dL_law_2304 rfl 1 rfl ?_
    refine g_iload C dL_law_2305 5 rfl ?_
    refine g_iconst C (v := 1) dL_law_2307 (by decide) ?_
    refine g_iadd C dL_law_2308 ?_
    refine g_sldv C S (i + 1) (nx_add (rfl : nI i = nI i) (rfl : (1 : Int32) = nI 1)) (by omega) ha9 dL_law_2309 ?_
    refine g_callV C (cs1 := [wX ax (bo 0) (tr 0) (ac 0) (ah 0) (at_ 0), wB E bo β, wB E tr τ, wC E ac γ, wH E ah bd η, wT E at_ θ, wB E (bd 2) (σ 2), wB E (bd 3) (σ 3), wB E (bd 4) (σ 4), wB E (bd 5) (σ 5), wB E (bd 6) (σ 6), wB E (bd 7) (σ 7), wB E (bd 8) (σ 8), wB E (bd 9) (σ 9), wM E am ((fX7_timesSentBack μ a).2), wO E ao o]) (st1 := [.int ((fX7_timesSentBack μ a).1)]) [.int a] [14] (kX7_timesSentBack l E am μ hvm a) caX7_timesSentBack q7_187 rfl ⟨Nat.le_of_ble_eq_true rfl, Nat.le_of_ble_eq_true rfl⟩ ⟨hk, hn⟩ 14 0 rfl rfl rfl rfl (by decide) rfl rfl rfl rfl (Nat.le_of_ble_eq_true rfl) dL_law_2310 rfl ?_
    refine g_istore C (lv1 := [(6, .int ((fX7_timesSentBack μ a).1)), (5, .int 1), (0, .ref b0), (1, .ref ax), (2, .ref (am 0)), (3, .ref ao), (4, .int (nI i))]) dL_law_2313 (by decide) rfl ?_
    refine g_aload_n C dL_law_2315 rfl 4 rfl ?_
    refine g_callV C (cs1 := [wX ax (bo 0) (tr 0) (ac 0) (ah 0) (at_ 0), wB E bo β, wB E tr τ, wC E ac γ, wH E ah bd η, wT E at_ θ, wB E (bd 2) (σ 2), wB E (bd 3) (σ 3), wB E (bd 4) (σ 4), wB E (bd 5) (σ 5), wB E (bd 6) (σ 6), wB E (bd 7) (σ 7), wB E (bd 8) (σ 8), wB E (bd 9) (σ 9), wM E am ((fX7_timesSentBack μ a).2), wO E ao o]) (st1 := [.int (fX7_thrown ((fX7_timesSentBack μ a).2))]) [] [14] (kX7_thrown l E am ((fX7_timesSentBack μ a).2)) caX7_thrown q6_116 rfl ⟨Nat.le_of_ble_eq_true rfl, Nat.le_of_ble_eq_true rfl⟩ ⟨hk, hn⟩ 14 0 rfl rfl rfl rfl (by decide) rfl rfl rfl rfl (Nat.le_of_ble_eq_true rfl) dL_law_2316 rfl ?_
    refine g_iload C dL_law_2319 1 rfl ?_
    refine g_icmp_eq C 2326 dL_law_2321 (by decide) (fun _ => ?_) (fun c => absurd ht c)
    refine g_iload C dL_law_2326 1 rfl ?_
    refine g_if_ne C 2343 dL_law_2328 (by decide) (fun _ => ?_) (fun c => absurd c (by decide))
    refine g_goto C 3840 dL_law_2343 (by decide) ?_
    exact g_sub [2, 3, 4, 5, 6] rfl (next β τ γ η σ θ ((fX7_timesSentBack μ a).2) o hR2)
set_option maxHeartbeats 4000000 in
set_option maxRecDepth 100000 in
theorem arm_39 {Rl : RlT} (hRv : RlV Rl) (hs : sH_needs Rl)  {X : gX} {l : Launch} {E : gE} (C : gC X cL_law 9 RL (some .boolean) l E room_1) (hZ : gZ X.2.2.2.2.2.2.2.2.2.2.2.1 X.2.2.2.2.1 X.2.2.2.2.1.heap) (hNc : gNc X.2.2.2.2.1) {b0 L0 : Nat} {xs : Nat → Int32} (S : gS X b0 L0 xs) (hlt : l.stackTraces = false) {ax : Nat} {bo tr ac ah : Nat → Nat} {bd : Nat → Nat → Nat} {at_ am : Nat → Nat} {ao k n i : Nat} (hk : k + 3 ≤ 601024) (hn : n + 18 ≤ 7293034) (hi : i + 3 ≤ L0) {β τ γ η : BS} {σ : Nat → BS} {θ μ : BS} {o : Nat → Int64} (hR : Rl β η θ σ μ) (next : ∀ (β τ γ η : BS) (σ : Nat → BS) (θ μ : BS) (o : Nat → Int64), Rl β η θ σ μ → G X (k + 3) (n + 18) [wX ax (bo 0) (tr 0) (ac 0) (ah 0) (at_ 0), wB E bo β, wB E tr τ, wC E ac γ, wH E ah bd η, wT E at_ θ, wB E (bd 2) (σ 2), wB E (bd 3) (σ 3), wB E (bd 4) (σ 4), wB E (bd 5) (σ 5), wB E (bd 6) (σ 6), wB E (bd 7) (σ 7), wB E (bd 8) (σ 8), wB E (bd 9) (σ 9), wM E am μ, wO E ao o] [(0, .ref b0), (1, .ref ax), (2, .ref (am 0)), (3, .ref ao), (4, .int (nI i))] 3840 []) : G X k n [wX ax (bo 0) (tr 0) (ac 0) (ah 0) (at_ 0), wB E bo β, wB E tr τ, wC E ac γ, wH E ah bd η, wT E at_ θ, wB E (bd 2) (σ 2), wB E (bd 3) (σ 3), wB E (bd 4) (σ 4), wB E (bd 5) (σ 5), wB E (bd 6) (σ 6), wB E (bd 7) (σ 7), wB E (bd 8) (σ 8), wB E (bd 9) (σ 9), wM E am μ, wO E ao o] [(0, .ref b0), (1, .ref ax), (2, .ref (am 0)), (3, .ref ao), (4, .int (nI i))] 2346 [] := by
  obtain ⟨hvb, hvh, hvt, hvm, ha⟩ := hRv β η θ σ μ hR
  obtain ⟨a, ha9⟩ : ∃ a, xs (i + 1) = a := ⟨_, rfl⟩
  obtain ⟨b, hb9⟩ : ∃ b, xs (i + 2) = b := ⟨_, rfl⟩
  obtain ⟨hag, hR2⟩ := hs β τ γ η σ θ μ a b hR
  rcases hag with ⟨hr, ht⟩ | ⟨hr, ht⟩
  · cases hbv : (fX7_needs μ a b).1 with
    | true =>
      rw [hbv] at hr
      refine g_aload_n C dL_law_2346 rfl 1 rfl ?_
      refine g_aload_n C dL_law_2347 rfl 0 rfl ?_
      refine g_iload C dL_law_2348 4 rfl ?_
      refine g_iconst C (v := 1) dL_law_2350 (by decide) ?_
      refine g_iadd C dL_law_2351 ?_
      refine g_sldv C S (i + 1) (nx_add (rfl : nI i = nI i) (rfl : (1 : Int32) = nI 1)) (by omega) ha9 dL_law_2352 ?_
      refine g_aload_n C dL_law_2353 rfl 0 rfl ?_
      refine g_iload C dL_law_2354 4 rfl ?_
      refine g_iconst C (v := 2) dL_law_2356 (by decide) ?_
      refine g_iadd C dL_law_2357 ?_
      refine g_sldv C S (i + 2) (nx_add (rfl : nI i = nI i) (rfl : (2 : Int32) = nI 2)) (by omega) hb9 dL_law_2358 ?_
      refine g_aload_n C dL_law_2359 rfl 3 rfl ?_
      refine g_callSW C hZ hNc (z := 4) (cs1 := [wX ax (bo 0) (tr 0) (ac 0) (ah 0) (at_ 0), wB E bo β, wB E tr τ, wC E ac γ, wH E ah bd η, wT E at_ θ, wB E (bd 2) (σ 2), wB E (bd 3) (σ 3), wB E (bd 4) (σ 4), wB E (bd 5) (σ 5), wB E (bd 6) (σ 6), wB E (bd 7) (σ 7), wB E (bd 8) (σ 8), wB E (bd 9) (σ 9), wM E am μ, wO E ao (vp_updL o 0 1)]) (st1 := [.int 0]) [.ref ax, .int a, .int b, .ref ao] [0, 1, 2, 3, 4, 5, 6, 7, 8, 9, 10, 11, 12, 13, 15] (kL_needs_rt l E ax bo β tr τ ac γ ah bd η σ at_ θ ao o hlt hvb a b hr) q5_143 q1_0 (by decide +kernel) q5_142 q5_141 rfl ⟨Nat.le_of_ble_eq_true rfl, Nat.le_of_ble_eq_true rfl⟩ ⟨hk, hn⟩ (by decide) rfl rfl rfl rfl (Nat.le_of_ble_eq_true rfl) dL_law_2360 rfl ?_
      refine g_istore C (lv1 := [(5, .int 0), (0, .ref b0), (1, .ref ax), (2, .ref (am 0)), (3, .ref ao), (4, .int (nI i))]) dL_law_2363 (by decide) rfl ?_
      refine g_aload_n C dL_law_2365 rfl 3 rfl ?_
      refine g_aload_n C dL_law_2366 rfl 1 rfl ?_
      refine g_iload C dL_law_2367 5 rfl ?_
      refine g_iconst C (v := 1) dL_law_2369 (by decide) ?_
      refine g_iadd C dL_law_2370 ?_
      refine g_sldv C S (i + 1) (nx_add (rfl : nI i = nI i) (rfl : (1 : Int32) = nI 1)) (by omega) ha9 dL_law_2371 ?_
      refine g_aload_n C dL_law_2372 rfl 1 rfl ?_
      refine g_iload C dL_law_2373 5 rfl ?_
      refine g_iconst C (v := 2) dL_law_2375 (by decide) ?_
      refine g_iadd C dL_law_2376 ?_
      refine g_sldv C S (i + 2) (nx_add (rfl : nI i = nI i) (rfl : (2 : Int32) = nI 2)) (by omega) hb9 dL_law_2377 ?_
      refine g_callV C (cs1 := [wX ax (bo 0) (tr 0) (ac 0) (ah 0) (at_ 0), wB E bo β, wB E tr τ, wC E ac γ, wH E ah bd η, wT E at_ θ, wB E (bd 2) (σ 2), wB E (bd 3) (σ 3), wB E (bd 4) (σ 4), wB E (bd 5) (σ 5), wB E (bd 6) (σ 6), wB E (bd 7) (σ 7), wB E (bd 8) (σ 8), wB E (bd 9) (σ 9), wM E am ((fX7_needs μ a b).2), wO E ao (vp_updL o 0 1)]) (st1 := [.int (b2i ((fX7_needs μ a b).1))]) [.int a, .int b] [14] (kX7_needs l E am μ hvm a b) caX7_needs q7_191 rfl ⟨Nat.le_of_ble_eq_true rfl, Nat.le_of_ble_eq_true rfl⟩ ⟨hk, hn⟩ 14 0 rfl rfl rfl rfl (by decide) rfl rfl rfl rfl (Nat.le_of_ble_eq_true rfl) dL_law_2378 rfl ?_
      refine g_istore C (lv1 := [(6, .int (b2i ((fX7_needs μ a b).1))), (5, .int 0), (0, .ref b0), (1, .ref ax), (2, .ref (am 0)), (3, .ref ao), (4, .int (nI i))]) dL_law_2381 (by decide) rfl ?_
      refine g_aload_n C dL_law_2383 rfl 4 rfl ?_
      refine g_callV C (cs1 := [wX ax (bo 0) (tr 0) (ac 0) (ah 0) (at_ 0), wB E bo β, wB E tr τ, wC E ac γ, wH E ah bd η, wT E at_ θ, wB E (bd 2) (σ 2), wB E (bd 3) (σ 3), wB E (bd 4) (σ 4), wB E (bd 5) (σ 5), wB E (bd 6) (σ 6), wB E (bd 7) (σ 7), wB E (bd 8) (σ 8), wB E (bd 9) (σ 9), wM E am ((fX7_needs μ a b).2), wO E ao (vp_updL o 0 1)]) (st1 := [.int (fX7_thrown ((fX7_needs μ a b).2))]) [] [14] (kX7_thrown l E am ((fX7_needs μ a b).2)) caX7_thrown q6_116 rfl ⟨Nat.le_of_ble_eq_true rfl, Nat.le_of_ble_eq_true rfl⟩ ⟨hk, hn⟩ 14 0 rfl rfl rfl rfl (by decide) rfl rfl rfl rfl (Nat.le_of_ble_eq_true rfl) dL_law_2384 rfl ?_
      refine g_iload C dL_law_2387 1 rfl ?_
      refine g_icmp_eq C 2394 dL_law_2389 (by decide) (fun _ => ?_) (fun c => absurd ht c)
      refine g_iload C dL_law_2394 1 rfl ?_
      refine g_if_ne C 2418 dL_law_2396 (by decide) (fun c => absurd rfl c) (fun _ => ?_)
      refine g_aload_n C dL_law_2399 rfl 5 rfl ?_
      refine g_iconst C (v := 0) dL_law_2400 (by decide) ?_
      refine g_laldn C 15 0 0 rfl rfl rfl (by decide) (by decide) dL_law_2401 ?_
      refine g_iload C dL_law_2402 0 rfl ?_
      refine g_ifB_eq C 2411 dL_law_2404 (by decide) (fun c => absurd (hbv.symm.trans c) (by decide)) (fun _ => ?_)
      refine g_lconst C (v := 1) dL_law_2407 (by decide) ?_
      refine g_goto C 2412 dL_law_2408 (by decide) ?_
      refine g_lcmp C dL_law_2412 ?_
      refine g_if_eq C 2418 dL_law_2413 (by decide) (fun _ => ?_) (fun c => absurd law_cmp c)
      refine g_goto C 3840 dL_law_2418 (by decide) ?_
      exact g_sub [2, 3, 4, 5, 6] rfl (next β τ γ η σ θ ((fX7_needs μ a b).2) (vp_updL o 0 1) hR2)
    | false =>
      rw [hbv] at hr
      refine g_aload_n C dL_law_2346 rfl 1 rfl ?_
      refine g_aload_n C dL_law_2347 rfl 0 rfl ?_
      refine g_iload C dL_law_2348 4 rfl ?_
      refine g_iconst C (v := 1) dL_law_2350 (by decide) ?_
      refine g_iadd C dL_law_2351 ?_
      refine g_sldv C S (i + 1) (nx_add (rfl : nI i = nI i) (rfl : (1 : Int32) = nI 1)) (by omega) ha9 dL_law_2352 ?_
      refine g_aload_n C dL_law_2353 rfl 0 rfl ?_
      refine g_iload C dL_law_2354 4 rfl ?_
      refine g_iconst C (v := 2) dL_law_2356 (by decide) ?_
      refine g_iadd C dL_law_2357 ?_
      refine g_sldv C S (i + 2) (nx_add (rfl : nI i = nI i) (rfl : (2 : Int32) = nI 2)) (by omega) hb9 dL_law_2358 ?_
      refine g_aload_n C dL_law_2359 rfl 3 rfl ?_
      refine g_callSW C hZ hNc (z := 4) (cs1 := [wX ax (bo 0) (tr 0) (ac 0) (ah 0) (at_ 0), wB E bo β, wB E tr τ, wC E ac γ, wH E ah bd η, wT E at_ θ, wB E (bd 2) (σ 2), wB E (bd 3) (σ 3), wB E (bd 4) (σ 4), wB E (bd 5) (σ 5), wB E (bd 6) (σ 6), wB E (bd 7) (σ 7), wB E (bd 8) (σ 8), wB E (bd 9) (σ 9), wM E am μ, wO E ao (vp_updL o 0 0)]) (st1 := [.int 0]) [.ref ax, .int a, .int b, .ref ao] [0, 1, 2, 3, 4, 5, 6, 7, 8, 9, 10, 11, 12, 13, 15] (kL_needs_rf l E ax bo β tr τ ac γ ah bd η σ at_ θ ao o hlt hvb a b hr) q5_143 q1_0 (by decide +kernel) q5_142 q5_141 rfl ⟨Nat.le_of_ble_eq_true rfl, Nat.le_of_ble_eq_true rfl⟩ ⟨hk, hn⟩ (by decide) rfl rfl rfl rfl (Nat.le_of_ble_eq_true rfl) dL_law_2360 rfl ?_
      refine g_istore C (lv1 := [(5, .int 0), (0, .ref b0), (1, .ref ax), (2, .ref (am 0)), (3, .ref ao), (4, .int (nI i))]) dL_law_2363 (by decide) rfl ?_
      refine g_aload_n C dL_law_2365 rfl 3 rfl ?_
      refine g_aload_n C dL_law_2366 rfl 1 rfl ?_
      refine g_iload C dL_law_2367 5 rfl ?_
      refine g_iconst C (v := 1) dL_law_2369 (by decide) ?_
      refine g_iadd C dL_law_2370 ?_
      refine g_sldv C S (i + 1) (nx_add (rfl : nI i = nI i) (rfl : (1 : Int32) = nI 1)) (by omega) ha9 dL_law_2371 ?_
      refine g_aload_n C dL_law_2372 rfl 1 rfl ?_
      refine g_iload C dL_law_2373 5 rfl ?_
      refine g_iconst C (v := 2) dL_law_2375 (by decide) ?_
      refine g_iadd C dL_law_2376 ?_
      refine g_sldv C S (i + 2) (nx_add (rfl : nI i = nI i) (rfl : (2 : Int32) = nI 2)) (by omega) hb9 dL_law_2377 ?_
      refine g_callV C (cs1 := [wX ax (bo 0) (tr 0) (ac 0) (ah 0) (at_ 0), wB E bo β, wB E tr τ, wC E ac γ, wH E ah bd η, wT E at_ θ, wB E (bd 2) (σ 2), wB E (bd 3) (σ 3), wB E (bd 4) (σ 4), wB E (bd 5) (σ 5), wB E (bd 6) (σ 6), wB E (bd 7) (σ 7), wB E (bd 8) (σ 8), wB E (bd 9) (σ 9), wM E am ((fX7_needs μ a b).2), wO E ao (vp_updL o 0 0)]) (st1 := [.int (b2i ((fX7_needs μ a b).1))]) [.int a, .int b] [14] (kX7_needs l E am μ hvm a b) caX7_needs q7_191 rfl ⟨Nat.le_of_ble_eq_true rfl, Nat.le_of_ble_eq_true rfl⟩ ⟨hk, hn⟩ 14 0 rfl rfl rfl rfl (by decide) rfl rfl rfl rfl (Nat.le_of_ble_eq_true rfl) dL_law_2378 rfl ?_
      refine g_istore C (lv1 := [(6, .int (b2i ((fX7_needs μ a b).1))), (5, .int 0), (0, .ref b0), (1, .ref ax), (2, .ref (am 0)), (3, .ref ao), (4, .int (nI i))]) dL_law_2381 (by decide) rfl ?_
      refine g_aload_n C dL_law_2383 rfl 4 rfl ?_
      refine g_callV C (cs1 := [wX ax (bo 0) (tr 0) (ac 0) (ah 0) (at_ 0), wB E bo β, wB E tr τ, wC E ac γ, wH E ah bd η, wT E at_ θ, wB E (bd 2) (σ 2), wB E (bd 3) (σ 3), wB E (bd 4) (σ 4), wB E (bd 5) (σ 5), wB E (bd 6) (σ 6), wB E (bd 7) (σ 7), wB E (bd 8) (σ 8), wB E (bd 9) (σ 9), wM E am ((fX7_needs μ a b).2), wO E ao (vp_updL o 0 0)]) (st1 := [.int (fX7_thrown ((fX7_needs μ a b).2))]) [] [14] (kX7_thrown l E am ((fX7_needs μ a b).2)) caX7_thrown q6_116 rfl ⟨Nat.le_of_ble_eq_true rfl, Nat.le_of_ble_eq_true rfl⟩ ⟨hk, hn⟩ 14 0 rfl rfl rfl rfl (by decide) rfl rfl rfl rfl (Nat.le_of_ble_eq_true rfl) dL_law_2384 rfl ?_
      refine g_iload C dL_law_2387 1 rfl ?_
      refine g_icmp_eq C 2394 dL_law_2389 (by decide) (fun _ => ?_) (fun c => absurd ht c)
      refine g_iload C dL_law_2394 1 rfl ?_
      refine g_if_ne C 2418 dL_law_2396 (by decide) (fun c => absurd rfl c) (fun _ => ?_)
      refine g_aload_n C dL_law_2399 rfl 5 rfl ?_
      refine g_iconst C (v := 0) dL_law_2400 (by decide) ?_
      refine g_laldn C 15 0 0 rfl rfl rfl (by decide) (by decide) dL_law_2401 ?_
      refine g_iload C dL_law_2402 0 rfl ?_
      refine g_ifB_eq C 2411 dL_law_2404 (by decide) (fun _ => ?_) (fun c => absurd (hbv.symm.trans c) (by decide))
      refine g_lconst C (v := 0) dL_law_2411 (by decide) ?_
      refine g_lcmp C dL_law_2412 ?_
      refine g_if_eq C 2418 dL_law_2413 (by decide) (fun _ => ?_) (fun c => absurd law_cmp c)
      refine g_goto C 3840 dL_law_2418 (by decide) ?_
      exact g_sub [2, 3, 4, 5, 6] rfl (next β τ γ η σ θ ((fX7_needs μ a b).2) (vp_updL o 0 0) hR2)
  · skip
    refine g_aload_n C dL_law_2346 rfl 1 rfl ?_
    refine g_aload_n C dL_law_2347 rfl 0 rfl ?_
    refine g_iload C dL_law_2348 4 rfl ?_
    refine g_iconst C (v := 1) dL_law_2350 (by decide) ?_
    refine g_iadd C dL_law_2351 ?_
    refine g_sldv C S (i + 1) (nx_add (rfl : nI i = nI i) (rfl : (1 : Int32) = nI 1)) (by omega) ha9 dL_law_2352 ?_
    refine g_aload_n C dL_law_2353 rfl 0 rfl ?_
    refine g_iload C dL_law_2354 4 rfl ?_
    refine g_iconst C (v := 2) dL_law_2356 (by decide) ?_
    refine g_iadd C dL_law_2357 ?_
    refine g_sldv C S (i + 2) (nx_add (rfl : nI i = nI i) (rfl : (2 : Int32) = nI 2)) (by omega) hb9 dL_law_2358 ?_
    refine g_aload_n C dL_law_2359 rfl 3 rfl ?_
    refine g_callSW C hZ hNc (z := 4) (cs1 := [wX ax (bo 0) (tr 0) (ac 0) (ah 0) (at_ 0), wB E bo β, wB E tr τ, wC E ac γ, wH E ah bd η, wT E at_ θ, wB E (bd 2) (σ 2), wB E (bd 3) (σ 3), wB E (bd 4) (σ 4), wB E (bd 5) (σ 5), wB E (bd 6) (σ 6), wB E (bd 7) (σ 7), wB E (bd 8) (σ 8), wB E (bd 9) (σ 9), wM E am μ, wO E ao o]) (st1 := [.int 1]) [.ref ax, .int a, .int b, .ref ao] [0, 1, 2, 3, 4, 5, 6, 7, 8, 9, 10, 11, 12, 13, 15] (kL_needs_0 l E ax bo β tr τ ac γ ah bd η σ at_ θ ao o hlt hvb a b hr) q5_143 q1_0 (by decide +kernel) q5_142 q5_141 rfl ⟨Nat.le_of_ble_eq_true rfl, Nat.le_of_ble_eq_true rfl⟩ ⟨hk, hn⟩ (by decide) rfl rfl rfl rfl (Nat.le_of_ble_eq_true rfl) dL_law_2360 rfl ?_
    refine g_istore C (lv1 := [(5, .int 1), (0, .ref b0), (1, .ref ax), (2, .ref (am 0)), (3, .ref ao), (4, .int (nI i))]) dL_law_2363 (by decide) rfl ?_
    refine g_aload_n C dL_law_2365 rfl 3 rfl ?_
    refine g_aload_n C dL_law_2366 rfl 1 rfl ?_
    refine g_iload C dL_law_2367 5 rfl ?_
    refine g_iconst C (v := 1) dL_law_2369 (by decide) ?_
    refine g_iadd C dL_law_2370 ?_
    refine g_sldv C S (i + 1) (nx_add (rfl : nI i = nI i) (rfl : (1 : Int32) = nI 1)) (by omega) ha9 dL_law_2371 ?_
    refine g_aload_n C dL_law_2372 rfl 1 rfl ?_
    refine g_iload C dL_law_2373 5 rfl ?_
    refine g_iconst C (v := 2) dL_law_2375 (by decide) ?_
    refine g_iadd C dL_law_2376 ?_
    refine g_sldv C S (i + 2) (nx_add (rfl : nI i = nI i) (rfl : (2 : Int32) = nI 2)) (by omega) hb9 dL_law_2377 ?_
    refine g_callV C (cs1 := [wX ax (bo 0) (tr 0) (ac 0) (ah 0) (at_ 0), wB E bo β, wB E tr τ, wC E ac γ, wH E ah bd η, wT E at_ θ, wB E (bd 2) (σ 2), wB E (bd 3) (σ 3), wB E (bd 4) (σ 4), wB E (bd 5) (σ 5), wB E (bd 6) (σ 6), wB E (bd 7) (σ 7), wB E (bd 8) (σ 8), wB E (bd 9) (σ 9), wM E am ((fX7_needs μ a b).2), wO E ao o]) (st1 := [.int (b2i ((fX7_needs μ a b).1))]) [.int a, .int b] [14] (kX7_needs l E am μ hvm a b) caX7_needs q7_191 rfl ⟨Nat.le_of_ble_eq_true rfl, Nat.le_of_ble_eq_true rfl⟩ ⟨hk, hn⟩ 14 0 rfl rfl rfl rfl (by decide) rfl rfl rfl rfl (Nat.le_of_ble_eq_true rfl) dL_law_2378 rfl ?_
    refine g_istore C (lv1 := [(6, .int (b2i ((fX7_needs μ a b).1))), (5, .int 1), (0, .ref b0), (1, .ref ax), (2, .ref (am 0)), (3, .ref ao), (4, .int (nI i))]) dL_law_2381 (by decide) rfl ?_
    refine g_aload_n C dL_law_2383 rfl 4 rfl ?_
    refine g_callV C (cs1 := [wX ax (bo 0) (tr 0) (ac 0) (ah 0) (at_ 0), wB E bo β, wB E tr τ, wC E ac γ, wH E ah bd η, wT E at_ θ, wB E (bd 2) (σ 2), wB E (bd 3) (σ 3), wB E (bd 4) (σ 4), wB E (bd 5) (σ 5), wB E (bd 6) (σ 6), wB E (bd 7) (σ 7), wB E (bd 8) (σ 8), wB E (bd 9) (σ 9), wM E am ((fX7_needs μ a b).2), wO E ao o]) (st1 := [.int (fX7_thrown ((fX7_needs μ a b).2))]) [] [14] (kX7_thrown l E am ((fX7_needs μ a b).2)) caX7_thrown q6_116 rfl ⟨Nat.le_of_ble_eq_true rfl, Nat.le_of_ble_eq_true rfl⟩ ⟨hk, hn⟩ 14 0 rfl rfl rfl rfl (by decide) rfl rfl rfl rfl (Nat.le_of_ble_eq_true rfl) dL_law_2384 rfl ?_
    refine g_iload C dL_law_2387 1 rfl ?_
    refine g_icmp_eq C 2394 dL_law_2389 (by decide) (fun _ => ?_) (fun c => absurd ht c)
    refine g_iload C dL_law_2394 1 rfl ?_
    refine g_if_ne C 2418 dL_law_2396 (by decide) (fun _ => ?_) (fun c => absurd c (by decide))
    refine g_goto C 3840 dL_law_2418 (by decide) ?_
    exact g_sub [2, 3, 4, 5, 6] rfl (next β τ γ η σ θ ((fX7_needs μ a b).2) o hR2)
