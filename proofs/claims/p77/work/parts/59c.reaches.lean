def fL_reaches_L31 (β : BS) (a : Nat) (b : Nat) (i7 : Nat) (t7 : Int32) (i19 : Nat) (t19 : Int32) (i31 : Nat) (t31 : Int32) : Int32 :=
  if ((t31 >>> ((nI i19) &&& 31)) &&& 1) = 1 then (if (fT_needs β i19 i31) = true then t31 ||| (1 <<< ((nI i31) &&& 31)) else t31 ||| 0) else t31 ||| 0
def fL_reaches_L19 (β : BS) (a : Nat) (b : Nat) (i7 : Nat) (t7 : Int32) (i19 : Nat) (t19 : Int32) : Int32 :=
  (lpF (fL_reaches_L31 β a b i7 t7 i19 t19) t19 (cnt β))
def fL_reaches_L7 (β : BS) (a : Nat) (b : Nat) (i7 : Nat) (t7 : Int32) : Int32 :=
  (lpF (fL_reaches_L19 β a b i7 t7) t7 (cnt β))
def fL_reaches (β : BS) (a : Nat) (b : Nat) : Bool :=
  if (((lpF (fL_reaches_L7 β a b) (1 <<< ((nI a) &&& 31)) (cnt β)) >>> ((nI b) &&& 31)) &&& 1) = 1 then true else false
theorem caL_reaches : gCalS yL_reaches cL_reaches 7 (some .boolean) 3 := ⟨⟨q3_72, q1_0, by decide +kernel⟩, q3_71⟩
set_option maxHeartbeats 4000000 in
set_option maxRecDepth 100000 in
theorem kL_reaches (l : Launch) (E : gE) (ax : Nat) (bo : Nat → Nat) (β : BS) (tr : Nat → Nat) (τ : BS) (ac : Nat → Nat) (γ : BS) (ah : Nat → Nat) (bd : Nat → Nat → Nat) (η : BS) (σ : Nat → BS) (at_ : Nat → Nat) (θ : BS) (hv : vB β)  (a : Nat) (ha : a < 20) (b : Nat) (hb : b < 20) : MC l E yL_reaches cL_reaches 7 (some .boolean) 3 65 [.ref ax, .int (nI a), .int (nI b)] [wX ax (bo 0) (tr 0) (ac 0) (ah 0) (at_ 0), wB E bo β, wB E tr τ, wC E ac γ, wH E ah bd η, wT E at_ θ, wB E (bd 2) (σ 2), wB E (bd 3) (σ 3), wB E (bd 4) (σ 4), wB E (bd 5) (σ 5), wB E (bd 6) (σ 6), wB E (bd 7) (σ 7), wB E (bd 8) (σ 8), wB E (bd 9) (σ 9)] (some (.int (b2i (fL_reaches β a b)))) [wX ax (bo 0) (tr 0) (ac 0) (ah 0) (at_ 0), wB E bo β, wB E tr τ, wC E ac γ, wH E ah bd η, wT E at_ θ, wB E (bd 2) (σ 2), wB E (bd 3) (σ 3), wB E (bd 4) (σ 4), wB E (bd 5) (σ 5), wB E (bd 6) (σ 6), wB E (bd 7) (σ 7), wB E (bd 8) (σ 8), wB E (bd 9) (σ 9)] := by
  have hv1 : cnt β ≤ 20 := hv.1
  refine mc_of (by decide +kernel) (Nat.le_of_ble_eq_true rfl) (lv := [(0, .ref ax), (1, .int (nI a)), (2, .int (nI b))]) rfl (fun X C hE => ?_)
  refine g_iconst C (v := 1) dL_reaches_0 (by decide) ?_
  refine g_iload_n C dL_reaches_1 rfl 1 rfl ?_
  refine g_ishl C dL_reaches_2 ?_
  refine g_istore_n C (lv1 := [(3, .int (1 <<< ((nI a) &&& 31))), (0, .ref ax), (1, .int (nI a)), (2, .int (nI b))]) dL_reaches_3 rfl (by decide) rfl ?_
  refine g_iconst C (v := 0) dL_reaches_4 (by decide) ?_
  refine g_istore C (lv1 := [(4, .int 0), (3, .int (1 <<< ((nI a) &&& 31))), (0, .ref ax), (1, .int (nI a)), (2, .int (nI b))]) dL_reaches_5 (by decide) rfl ?_
  have hL_3 : ∀ d_1 i7 : Nat, i7 + d_1 = (cnt β) → G X 0 0 [wX ax (bo 0) (tr 0) (ac 0) (ah 0) (at_ 0), wB E bo β, wB E tr τ, wC E ac γ, wH E ah bd η, wT E at_ θ, wB E (bd 2) (σ 2), wB E (bd 3) (σ 3), wB E (bd 4) (σ 4), wB E (bd 5) (σ 5), wB E (bd 6) (σ 6), wB E (bd 7) (σ 7), wB E (bd 8) (σ 8), wB E (bd 9) (σ 9)] [(0, .ref ax), (1, .int (nI a)), (2, .int (nI b)), (3, .int (lpF (fL_reaches_L7 β a b) (1 <<< ((nI a) &&& 31)) i7)), (4, .int (nI i7))] 7 [] := by
    intro d_1
    induction d_1 with
    | zero =>
      intro i7 hi_2
      obtain rfl : i7 = (cnt β) := by omega
      refine g_iload C dL_reaches_7 4 rfl ?_
      refine g_aload_n C dL_reaches_9 rfl 0 rfl ?_
      refine g_callV C (cs1 := [wX ax (bo 0) (tr 0) (ac 0) (ah 0) (at_ 0), wB E bo β, wB E tr τ, wC E ac γ, wH E ah bd η, wT E at_ θ, wB E (bd 2) (σ 2), wB E (bd 3) (σ 3), wB E (bd 4) (σ 4), wB E (bd 5) (σ 5), wB E (bd 6) (σ 6), wB E (bd 7) (σ 7), wB E (bd 8) (σ 8), wB E (bd 9) (σ 9)]) (st1 := [.int (fT_tickets β), .int (nI (cnt β))]) [] [0, 1, 2, 3, 4, 5, 6, 7, 8, 9, 10, 11, 12, 13] (kT_tickets l E ax bo β tr τ ac γ ah bd η σ at_ θ) caX6_tickets q2_55 rfl ⟨Nat.le_of_ble_eq_true rfl, Nat.le_of_ble_eq_true rfl⟩ ⟨Nat.zero_le _, Nat.zero_le _⟩ 0 0 rfl rfl rfl rfl (by decide) rfl rfl rfl rfl (Nat.le_of_ble_eq_true rfl) dL_reaches_10 rfl ?_
      refine g_icmp_ge C 90 dL_reaches_13 (by decide) (fun c_5 => ?_) (fun c_5 => ?_)
      · skip
        refine g_iload_n C dL_reaches_90 rfl 3 rfl ?_
        refine g_iload_n C dL_reaches_91 rfl 2 rfl ?_
        refine g_ishr C dL_reaches_92 ?_
        refine g_iconst C (v := 1) dL_reaches_93 (by decide) ?_
        refine g_iand C dL_reaches_94 ?_
        refine g_iconst C (v := 1) dL_reaches_95 (by decide) ?_
        refine g_icmp_ne C 103 dL_reaches_96 (by decide) (fun c_6 => ?_) (fun c_6 => ?_)
        · skip
          refine g_iconst C (v := 0) dL_reaches_103 (by decide) ?_
          have e_7 : fL_reaches β a b = false := by rw [fL_reaches]; rw [if_neg c_6]
          exact g_zret (b := false) C hE (by rw [e_7]) rfl rfl dL_reaches_104
        · skip
          refine g_iconst C (v := 1) dL_reaches_99 (by decide) ?_
          refine g_goto C 104 dL_reaches_100 (by decide) ?_
          have e_8 : fL_reaches β a b = true := by rw [fL_reaches]; rw [if_pos c_6]
          exact g_zret (b := true) C hE (by rw [e_8]) rfl rfl dL_reaches_104
      · exact absurd (lc_le rfl hv.2.1 (by omega) (by omega)) c_5
    | succ d_1 ih_4 =>
      intro i7 hi_2
      refine g_iload C dL_reaches_7 4 rfl ?_
      refine g_aload_n C dL_reaches_9 rfl 0 rfl ?_
      refine g_callV C (cs1 := [wX ax (bo 0) (tr 0) (ac 0) (ah 0) (at_ 0), wB E bo β, wB E tr τ, wC E ac γ, wH E ah bd η, wT E at_ θ, wB E (bd 2) (σ 2), wB E (bd 3) (σ 3), wB E (bd 4) (σ 4), wB E (bd 5) (σ 5), wB E (bd 6) (σ 6), wB E (bd 7) (σ 7), wB E (bd 8) (σ 8), wB E (bd 9) (σ 9)]) (st1 := [.int (fT_tickets β), .int (nI i7)]) [] [0, 1, 2, 3, 4, 5, 6, 7, 8, 9, 10, 11, 12, 13] (kT_tickets l E ax bo β tr τ ac γ ah bd η σ at_ θ) caX6_tickets q2_55 rfl ⟨Nat.le_of_ble_eq_true rfl, Nat.le_of_ble_eq_true rfl⟩ ⟨Nat.zero_le _, Nat.zero_le _⟩ 0 0 rfl rfl rfl rfl (by decide) rfl rfl rfl rfl (Nat.le_of_ble_eq_true rfl) dL_reaches_10 rfl ?_
      refine g_icmp_ge C 90 dL_reaches_13 (by decide) (fun c_9 => ?_) (fun c_9 => ?_)
      · exact absurd c_9 (lc_nle rfl hv.2.1 (by omega) (by omega))
      · skip
        refine g_iconst C (v := 0) dL_reaches_16 (by decide) ?_
        refine g_istore C (lv1 := [(5, .int 0), (0, .ref ax), (1, .int (nI a)), (2, .int (nI b)), (3, .int (lpF (fL_reaches_L7 β a b) (1 <<< ((nI a) &&& 31)) i7)), (4, .int (nI i7))]) dL_reaches_17 (by decide) rfl ?_
        have hL_12 : ∀ d_10 i19 : Nat, i19 + d_10 = (cnt β) → G X 0 0 [wX ax (bo 0) (tr 0) (ac 0) (ah 0) (at_ 0), wB E bo β, wB E tr τ, wC E ac γ, wH E ah bd η, wT E at_ θ, wB E (bd 2) (σ 2), wB E (bd 3) (σ 3), wB E (bd 4) (σ 4), wB E (bd 5) (σ 5), wB E (bd 6) (σ 6), wB E (bd 7) (σ 7), wB E (bd 8) (σ 8), wB E (bd 9) (σ 9)] [(0, .ref ax), (1, .int (nI a)), (2, .int (nI b)), (3, .int (lpF (fL_reaches_L19 β a b i7 (lpF (fL_reaches_L7 β a b) (1 <<< ((nI a) &&& 31)) i7)) (lpF (fL_reaches_L7 β a b) (1 <<< ((nI a) &&& 31)) i7) i19)), (4, .int (nI i7)), (5, .int (nI i19))] 19 [] := by
          intro d_10
          induction d_10 with
          | zero =>
            intro i19 hi_11
            obtain rfl : i19 = (cnt β) := by omega
            refine g_iload C dL_reaches_19 5 rfl ?_
            refine g_aload_n C dL_reaches_21 rfl 0 rfl ?_
            refine g_callV C (cs1 := [wX ax (bo 0) (tr 0) (ac 0) (ah 0) (at_ 0), wB E bo β, wB E tr τ, wC E ac γ, wH E ah bd η, wT E at_ θ, wB E (bd 2) (σ 2), wB E (bd 3) (σ 3), wB E (bd 4) (σ 4), wB E (bd 5) (σ 5), wB E (bd 6) (σ 6), wB E (bd 7) (σ 7), wB E (bd 8) (σ 8), wB E (bd 9) (σ 9)]) (st1 := [.int (fT_tickets β), .int (nI (cnt β))]) [] [0, 1, 2, 3, 4, 5, 6, 7, 8, 9, 10, 11, 12, 13] (kT_tickets l E ax bo β tr τ ac γ ah bd η σ at_ θ) caX6_tickets q2_55 rfl ⟨Nat.le_of_ble_eq_true rfl, Nat.le_of_ble_eq_true rfl⟩ ⟨Nat.zero_le _, Nat.zero_le _⟩ 0 0 rfl rfl rfl rfl (by decide) rfl rfl rfl rfl (Nat.le_of_ble_eq_true rfl) dL_reaches_22 rfl ?_
            refine g_icmp_ge C 84 dL_reaches_25 (by decide) (fun c_14 => ?_) (fun c_14 => ?_)
            · skip
              refine g_iinc C (v := nI (i7 + 1)) (lv1 := [(4, .int (nI (i7 + 1))), (0, .ref ax), (1, .int (nI a)), (2, .int (nI b)), (3, .int (lpF (fL_reaches_L19 β a b i7 (lpF (fL_reaches_L7 β a b) (1 <<< ((nI a) &&& 31)) i7)) (lpF (fL_reaches_L7 β a b) (1 <<< ((nI a) &&& 31)) i7) (cnt β))), (5, .int (nI (cnt β)))]) dL_reaches_84 4 rfl (nI_1 i7) (by decide) rfl ?_
              refine g_goto C 7 dL_reaches_87 (by decide) ?_
              have e_15 : (lpF (fL_reaches_L7 β a b) (1 <<< ((nI a) &&& 31)) (i7 + 1)) = (lpF (fL_reaches_L19 β a b i7 (lpF (fL_reaches_L7 β a b) (1 <<< ((nI a) &&& 31)) i7)) (lpF (fL_reaches_L7 β a b) (1 <<< ((nI a) &&& 31)) i7) (cnt β)) := by
                rw [lpF_1, fL_reaches_L7]
              have h_16 := ih_4 (i7 + 1) (by omega)
              rw [e_15] at h_16
              exact g_sub [1, 2, 3, 4, 0] rfl h_16
            · exact absurd (lc_le rfl hv.2.1 (by omega) (by omega)) c_14
          | succ d_10 ih_13 =>
            intro i19 hi_11
            refine g_iload C dL_reaches_19 5 rfl ?_
            refine g_aload_n C dL_reaches_21 rfl 0 rfl ?_
            refine g_callV C (cs1 := [wX ax (bo 0) (tr 0) (ac 0) (ah 0) (at_ 0), wB E bo β, wB E tr τ, wC E ac γ, wH E ah bd η, wT E at_ θ, wB E (bd 2) (σ 2), wB E (bd 3) (σ 3), wB E (bd 4) (σ 4), wB E (bd 5) (σ 5), wB E (bd 6) (σ 6), wB E (bd 7) (σ 7), wB E (bd 8) (σ 8), wB E (bd 9) (σ 9)]) (st1 := [.int (fT_tickets β), .int (nI i19)]) [] [0, 1, 2, 3, 4, 5, 6, 7, 8, 9, 10, 11, 12, 13] (kT_tickets l E ax bo β tr τ ac γ ah bd η σ at_ θ) caX6_tickets q2_55 rfl ⟨Nat.le_of_ble_eq_true rfl, Nat.le_of_ble_eq_true rfl⟩ ⟨Nat.zero_le _, Nat.zero_le _⟩ 0 0 rfl rfl rfl rfl (by decide) rfl rfl rfl rfl (Nat.le_of_ble_eq_true rfl) dL_reaches_22 rfl ?_
            refine g_icmp_ge C 84 dL_reaches_25 (by decide) (fun c_17 => ?_) (fun c_17 => ?_)
            · exact absurd c_17 (lc_nle rfl hv.2.1 (by omega) (by omega))
            · skip
              refine g_iconst C (v := 0) dL_reaches_28 (by decide) ?_
              refine g_istore C (lv1 := [(6, .int 0), (0, .ref ax), (1, .int (nI a)), (2, .int (nI b)), (3, .int (lpF (fL_reaches_L19 β a b i7 (lpF (fL_reaches_L7 β a b) (1 <<< ((nI a) &&& 31)) i7)) (lpF (fL_reaches_L7 β a b) (1 <<< ((nI a) &&& 31)) i7) i19)), (4, .int (nI i7)), (5, .int (nI i19))]) dL_reaches_29 (by decide) rfl ?_
              have hL_20 : ∀ d_18 i31 : Nat, i31 + d_18 = (cnt β) → G X 0 0 [wX ax (bo 0) (tr 0) (ac 0) (ah 0) (at_ 0), wB E bo β, wB E tr τ, wC E ac γ, wH E ah bd η, wT E at_ θ, wB E (bd 2) (σ 2), wB E (bd 3) (σ 3), wB E (bd 4) (σ 4), wB E (bd 5) (σ 5), wB E (bd 6) (σ 6), wB E (bd 7) (σ 7), wB E (bd 8) (σ 8), wB E (bd 9) (σ 9)] [(0, .ref ax), (1, .int (nI a)), (2, .int (nI b)), (3, .int (lpF (fL_reaches_L31 β a b i7 (lpF (fL_reaches_L7 β a b) (1 <<< ((nI a) &&& 31)) i7) i19 (lpF (fL_reaches_L19 β a b i7 (lpF (fL_reaches_L7 β a b) (1 <<< ((nI a) &&& 31)) i7)) (lpF (fL_reaches_L7 β a b) (1 <<< ((nI a) &&& 31)) i7) i19)) (lpF (fL_reaches_L19 β a b i7 (lpF (fL_reaches_L7 β a b) (1 <<< ((nI a) &&& 31)) i7)) (lpF (fL_reaches_L7 β a b) (1 <<< ((nI a) &&& 31)) i7) i19) i31)), (4, .int (nI i7)), (5, .int (nI i19)), (6, .int (nI i31))] 31 [] := by
                intro d_18
                induction d_18 with
                | zero =>
                  intro i31 hi_19
                  obtain rfl : i31 = (cnt β) := by omega
                  refine g_iload C dL_reaches_31 6 rfl ?_
                  refine g_aload_n C dL_reaches_33 rfl 0 rfl ?_
                  refine g_callV C (cs1 := [wX ax (bo 0) (tr 0) (ac 0) (ah 0) (at_ 0), wB E bo β, wB E tr τ, wC E ac γ, wH E ah bd η, wT E at_ θ, wB E (bd 2) (σ 2), wB E (bd 3) (σ 3), wB E (bd 4) (σ 4), wB E (bd 5) (σ 5), wB E (bd 6) (σ 6), wB E (bd 7) (σ 7), wB E (bd 8) (σ 8), wB E (bd 9) (σ 9)]) (st1 := [.int (fT_tickets β), .int (nI (cnt β))]) [] [0, 1, 2, 3, 4, 5, 6, 7, 8, 9, 10, 11, 12, 13] (kT_tickets l E ax bo β tr τ ac γ ah bd η σ at_ θ) caX6_tickets q2_55 rfl ⟨Nat.le_of_ble_eq_true rfl, Nat.le_of_ble_eq_true rfl⟩ ⟨Nat.zero_le _, Nat.zero_le _⟩ 0 0 rfl rfl rfl rfl (by decide) rfl rfl rfl rfl (Nat.le_of_ble_eq_true rfl) dL_reaches_34 rfl ?_
                  refine g_icmp_ge C 78 dL_reaches_37 (by decide) (fun c_22 => ?_) (fun c_22 => ?_)
                  · skip
                    refine g_iinc C (v := nI (i19 + 1)) (lv1 := [(5, .int (nI (i19 + 1))), (0, .ref ax), (1, .int (nI a)), (2, .int (nI b)), (3, .int (lpF (fL_reaches_L31 β a b i7 (lpF (fL_reaches_L7 β a b) (1 <<< ((nI a) &&& 31)) i7) i19 (lpF (fL_reaches_L19 β a b i7 (lpF (fL_reaches_L7 β a b) (1 <<< ((nI a) &&& 31)) i7)) (lpF (fL_reaches_L7 β a b) (1 <<< ((nI a) &&& 31)) i7) i19)) (lpF (fL_reaches_L19 β a b i7 (lpF (fL_reaches_L7 β a b) (1 <<< ((nI a) &&& 31)) i7)) (lpF (fL_reaches_L7 β a b) (1 <<< ((nI a) &&& 31)) i7) i19) (cnt β))), (4, .int (nI i7)), (6, .int (nI (cnt β)))]) dL_reaches_78 5 rfl (nI_1 i19) (by decide) rfl ?_
                    refine g_goto C 19 dL_reaches_81 (by decide) ?_
                    have e_23 : (lpF (fL_reaches_L19 β a b i7 (lpF (fL_reaches_L7 β a b) (1 <<< ((nI a) &&& 31)) i7)) (lpF (fL_reaches_L7 β a b) (1 <<< ((nI a) &&& 31)) i7) (i19 + 1)) = (lpF (fL_reaches_L31 β a b i7 (lpF (fL_reaches_L7 β a b) (1 <<< ((nI a) &&& 31)) i7) i19 (lpF (fL_reaches_L19 β a b i7 (lpF (fL_reaches_L7 β a b) (1 <<< ((nI a) &&& 31)) i7)) (lpF (fL_reaches_L7 β a b) (1 <<< ((nI a) &&& 31)) i7) i19)) (lpF (fL_reaches_L19 β a b i7 (lpF (fL_reaches_L7 β a b) (1 <<< ((nI a) &&& 31)) i7)) (lpF (fL_reaches_L7 β a b) (1 <<< ((nI a) &&& 31)) i7) i19) (cnt β)) := by
                      rw [lpF_1, fL_reaches_L19]
                    have h_24 := ih_13 (i19 + 1) (by omega)
                    rw [e_23] at h_24
                    exact g_sub [1, 2, 3, 4, 5, 0] rfl h_24
                  · exact absurd (lc_le rfl hv.2.1 (by omega) (by omega)) c_22
                | succ d_18 ih_21 =>
                  intro i31 hi_19
                  refine g_iload C dL_reaches_31 6 rfl ?_
                  refine g_aload_n C dL_reaches_33 rfl 0 rfl ?_
                  refine g_callV C (cs1 := [wX ax (bo 0) (tr 0) (ac 0) (ah 0) (at_ 0), wB E bo β, wB E tr τ, wC E ac γ, wH E ah bd η, wT E at_ θ, wB E (bd 2) (σ 2), wB E (bd 3) (σ 3), wB E (bd 4) (σ 4), wB E (bd 5) (σ 5), wB E (bd 6) (σ 6), wB E (bd 7) (σ 7), wB E (bd 8) (σ 8), wB E (bd 9) (σ 9)]) (st1 := [.int (fT_tickets β), .int (nI i31)]) [] [0, 1, 2, 3, 4, 5, 6, 7, 8, 9, 10, 11, 12, 13] (kT_tickets l E ax bo β tr τ ac γ ah bd η σ at_ θ) caX6_tickets q2_55 rfl ⟨Nat.le_of_ble_eq_true rfl, Nat.le_of_ble_eq_true rfl⟩ ⟨Nat.zero_le _, Nat.zero_le _⟩ 0 0 rfl rfl rfl rfl (by decide) rfl rfl rfl rfl (Nat.le_of_ble_eq_true rfl) dL_reaches_34 rfl ?_
                  refine g_icmp_ge C 78 dL_reaches_37 (by decide) (fun c_25 => ?_) (fun c_25 => ?_)
                  · exact absurd c_25 (lc_nle rfl hv.2.1 (by omega) (by omega))
                  · skip
                    refine g_iload_n C dL_reaches_40 rfl 3 rfl ?_
                    refine g_iload_n C dL_reaches_41 rfl 3 rfl ?_
                    refine g_iload C dL_reaches_42 5 rfl ?_
                    refine g_ishr C dL_reaches_44 ?_
                    refine g_iconst C (v := 1) dL_reaches_45 (by decide) ?_
                    refine g_iand C dL_reaches_46 ?_
                    refine g_iconst C (v := 1) dL_reaches_47 (by decide) ?_
                    refine g_icmp_ne C 69 dL_reaches_48 (by decide) (fun c_26 => ?_) (fun c_26 => ?_)
                    · skip
                      refine g_iconst C (v := 0) dL_reaches_69 (by decide) ?_
                      refine g_ior C dL_reaches_70 ?_
                      refine g_istore_n C (lv1 := [(3, .int ((lpF (fL_reaches_L31 β a b i7 (lpF (fL_reaches_L7 β a b) (1 <<< ((nI a) &&& 31)) i7) i19 (lpF (fL_reaches_L19 β a b i7 (lpF (fL_reaches_L7 β a b) (1 <<< ((nI a) &&& 31)) i7)) (lpF (fL_reaches_L7 β a b) (1 <<< ((nI a) &&& 31)) i7) i19)) (lpF (fL_reaches_L19 β a b i7 (lpF (fL_reaches_L7 β a b) (1 <<< ((nI a) &&& 31)) i7)) (lpF (fL_reaches_L7 β a b) (1 <<< ((nI a) &&& 31)) i7) i19) i31) ||| 0)), (0, .ref ax), (1, .int (nI a)), (2, .int (nI b)), (4, .int (nI i7)), (5, .int (nI i19)), (6, .int (nI i31))]) dL_reaches_71 rfl (by decide) rfl ?_
                      refine g_iinc C (v := nI (i31 + 1)) (lv1 := [(6, .int (nI (i31 + 1))), (3, .int ((lpF (fL_reaches_L31 β a b i7 (lpF (fL_reaches_L7 β a b) (1 <<< ((nI a) &&& 31)) i7) i19 (lpF (fL_reaches_L19 β a b i7 (lpF (fL_reaches_L7 β a b) (1 <<< ((nI a) &&& 31)) i7)) (lpF (fL_reaches_L7 β a b) (1 <<< ((nI a) &&& 31)) i7) i19)) (lpF (fL_reaches_L19 β a b i7 (lpF (fL_reaches_L7 β a b) (1 <<< ((nI a) &&& 31)) i7)) (lpF (fL_reaches_L7 β a b) (1 <<< ((nI a) &&& 31)) i7) i19) i31) ||| 0)), (0, .ref ax), (1, .int (nI a)), (2, .int (nI b)), (4, .int (nI i7)), (5, .int (nI i19))]) dL_reaches_72 6 rfl (nI_1 i31) (by decide) rfl ?_
                      refine g_goto C 31 dL_reaches_75 (by decide) ?_
                      have e_27 : (lpF (fL_reaches_L31 β a b i7 (lpF (fL_reaches_L7 β a b) (1 <<< ((nI a) &&& 31)) i7) i19 (lpF (fL_reaches_L19 β a b i7 (lpF (fL_reaches_L7 β a b) (1 <<< ((nI a) &&& 31)) i7)) (lpF (fL_reaches_L7 β a b) (1 <<< ((nI a) &&& 31)) i7) i19)) (lpF (fL_reaches_L19 β a b i7 (lpF (fL_reaches_L7 β a b) (1 <<< ((nI a) &&& 31)) i7)) (lpF (fL_reaches_L7 β a b) (1 <<< ((nI a) &&& 31)) i7) i19) (i31 + 1)) = (lpF (fL_reaches_L31 β a b i7 (lpF (fL_reaches_L7 β a b) (1 <<< ((nI a) &&& 31)) i7) i19 (lpF (fL_reaches_L19 β a b i7 (lpF (fL_reaches_L7 β a b) (1 <<< ((nI a) &&& 31)) i7)) (lpF (fL_reaches_L7 β a b) (1 <<< ((nI a) &&& 31)) i7) i19)) (lpF (fL_reaches_L19 β a b i7 (lpF (fL_reaches_L7 β a b) (1 <<< ((nI a) &&& 31)) i7)) (lpF (fL_reaches_L7 β a b) (1 <<< ((nI a) &&& 31)) i7) i19) i31) ||| 0 := by
                        rw [lpF_1, fL_reaches_L31]; rw [if_neg c_26]
                      have h_28 := ih_21 (i31 + 1) (by omega)
                      rw [e_27] at h_28
                      exact g_sub [2, 3, 4, 1, 5, 6, 0] rfl h_28
                    · skip
                      refine g_aload_n C dL_reaches_51 rfl 0 rfl ?_
                      refine g_iload C dL_reaches_52 5 rfl ?_
                      refine g_iload C dL_reaches_54 6 rfl ?_
                      refine g_callV C (cs1 := [wX ax (bo 0) (tr 0) (ac 0) (ah 0) (at_ 0), wB E bo β, wB E tr τ, wC E ac γ, wH E ah bd η, wT E at_ θ, wB E (bd 2) (σ 2), wB E (bd 3) (σ 3), wB E (bd 4) (σ 4), wB E (bd 5) (σ 5), wB E (bd 6) (σ 6), wB E (bd 7) (σ 7), wB E (bd 8) (σ 8), wB E (bd 9) (σ 9)]) (st1 := [.int (b2i (fT_needs β i19 i31)), .int (lpF (fL_reaches_L31 β a b i7 (lpF (fL_reaches_L7 β a b) (1 <<< ((nI a) &&& 31)) i7) i19 (lpF (fL_reaches_L19 β a b i7 (lpF (fL_reaches_L7 β a b) (1 <<< ((nI a) &&& 31)) i7)) (lpF (fL_reaches_L7 β a b) (1 <<< ((nI a) &&& 31)) i7) i19)) (lpF (fL_reaches_L19 β a b i7 (lpF (fL_reaches_L7 β a b) (1 <<< ((nI a) &&& 31)) i7)) (lpF (fL_reaches_L7 β a b) (1 <<< ((nI a) &&& 31)) i7) i19) i31)]) [.int (nI i19), .int (nI i31)] [0, 1, 2, 3, 4, 5, 6, 7, 8, 9, 10, 11, 12, 13] (kT_needs l E ax bo β tr τ ac γ ah bd η σ at_ θ hv i19 (by omega) i31 (by omega) (hasT_n hv (by omega)) (hasT_n hv (by omega))) caX6_needs q3_65 rfl ⟨Nat.le_of_ble_eq_true rfl, Nat.le_of_ble_eq_true rfl⟩ ⟨Nat.zero_le _, Nat.zero_le _⟩ 0 0 rfl rfl rfl rfl (by decide) rfl rfl rfl rfl (Nat.le_of_ble_eq_true rfl) dL_reaches_56 rfl ?_
                      refine g_ifB_eq C 69 dL_reaches_59 (by decide) (fun c_29 => ?_) (fun c_29 => ?_)
                      · skip
                        refine g_iconst C (v := 0) dL_reaches_69 (by decide) ?_
                        refine g_ior C dL_reaches_70 ?_
                        refine g_istore_n C (lv1 := [(3, .int ((lpF (fL_reaches_L31 β a b i7 (lpF (fL_reaches_L7 β a b) (1 <<< ((nI a) &&& 31)) i7) i19 (lpF (fL_reaches_L19 β a b i7 (lpF (fL_reaches_L7 β a b) (1 <<< ((nI a) &&& 31)) i7)) (lpF (fL_reaches_L7 β a b) (1 <<< ((nI a) &&& 31)) i7) i19)) (lpF (fL_reaches_L19 β a b i7 (lpF (fL_reaches_L7 β a b) (1 <<< ((nI a) &&& 31)) i7)) (lpF (fL_reaches_L7 β a b) (1 <<< ((nI a) &&& 31)) i7) i19) i31) ||| 0)), (0, .ref ax), (1, .int (nI a)), (2, .int (nI b)), (4, .int (nI i7)), (5, .int (nI i19)), (6, .int (nI i31))]) dL_reaches_71 rfl (by decide) rfl ?_
                        refine g_iinc C (v := nI (i31 + 1)) (lv1 := [(6, .int (nI (i31 + 1))), (3, .int ((lpF (fL_reaches_L31 β a b i7 (lpF (fL_reaches_L7 β a b) (1 <<< ((nI a) &&& 31)) i7) i19 (lpF (fL_reaches_L19 β a b i7 (lpF (fL_reaches_L7 β a b) (1 <<< ((nI a) &&& 31)) i7)) (lpF (fL_reaches_L7 β a b) (1 <<< ((nI a) &&& 31)) i7) i19)) (lpF (fL_reaches_L19 β a b i7 (lpF (fL_reaches_L7 β a b) (1 <<< ((nI a) &&& 31)) i7)) (lpF (fL_reaches_L7 β a b) (1 <<< ((nI a) &&& 31)) i7) i19) i31) ||| 0)), (0, .ref ax), (1, .int (nI a)), (2, .int (nI b)), (4, .int (nI i7)), (5, .int (nI i19))]) dL_reaches_72 6 rfl (nI_1 i31) (by decide) rfl ?_
                        refine g_goto C 31 dL_reaches_75 (by decide) ?_
                        have e_30 : (lpF (fL_reaches_L31 β a b i7 (lpF (fL_reaches_L7 β a b) (1 <<< ((nI a) &&& 31)) i7) i19 (lpF (fL_reaches_L19 β a b i7 (lpF (fL_reaches_L7 β a b) (1 <<< ((nI a) &&& 31)) i7)) (lpF (fL_reaches_L7 β a b) (1 <<< ((nI a) &&& 31)) i7) i19)) (lpF (fL_reaches_L19 β a b i7 (lpF (fL_reaches_L7 β a b) (1 <<< ((nI a) &&& 31)) i7)) (lpF (fL_reaches_L7 β a b) (1 <<< ((nI a) &&& 31)) i7) i19) (i31 + 1)) = (lpF (fL_reaches_L31 β a b i7 (lpF (fL_reaches_L7 β a b) (1 <<< ((nI a) &&& 31)) i7) i19 (lpF (fL_reaches_L19 β a b i7 (lpF (fL_reaches_L7 β a b) (1 <<< ((nI a) &&& 31)) i7)) (lpF (fL_reaches_L7 β a b) (1 <<< ((nI a) &&& 31)) i7) i19)) (lpF (fL_reaches_L19 β a b i7 (lpF (fL_reaches_L7 β a b) (1 <<< ((nI a) &&& 31)) i7)) (lpF (fL_reaches_L7 β a b) (1 <<< ((nI a) &&& 31)) i7) i19) i31) ||| 0 := by
                          rw [lpF_1, fL_reaches_L31]; rw [if_pos c_26, if_neg (ne_true_of_eq_false c_29)]
                        have h_31 := ih_21 (i31 + 1) (by omega)
                        rw [e_30] at h_31
                        exact g_sub [2, 3, 4, 1, 5, 6, 0] rfl h_31
                      · skip
                        refine g_iconst C (v := 1) dL_reaches_62 (by decide) ?_
                        refine g_iload C dL_reaches_63 6 rfl ?_
                        refine g_ishl C dL_reaches_65 ?_
                        refine g_goto C 70 dL_reaches_66 (by decide) ?_
                        refine g_ior C dL_reaches_70 ?_
                        refine g_istore_n C (lv1 := [(3, .int ((lpF (fL_reaches_L31 β a b i7 (lpF (fL_reaches_L7 β a b) (1 <<< ((nI a) &&& 31)) i7) i19 (lpF (fL_reaches_L19 β a b i7 (lpF (fL_reaches_L7 β a b) (1 <<< ((nI a) &&& 31)) i7)) (lpF (fL_reaches_L7 β a b) (1 <<< ((nI a) &&& 31)) i7) i19)) (lpF (fL_reaches_L19 β a b i7 (lpF (fL_reaches_L7 β a b) (1 <<< ((nI a) &&& 31)) i7)) (lpF (fL_reaches_L7 β a b) (1 <<< ((nI a) &&& 31)) i7) i19) i31) ||| (1 <<< ((nI i31) &&& 31)))), (0, .ref ax), (1, .int (nI a)), (2, .int (nI b)), (4, .int (nI i7)), (5, .int (nI i19)), (6, .int (nI i31))]) dL_reaches_71 rfl (by decide) rfl ?_
                        refine g_iinc C (v := nI (i31 + 1)) (lv1 := [(6, .int (nI (i31 + 1))), (3, .int ((lpF (fL_reaches_L31 β a b i7 (lpF (fL_reaches_L7 β a b) (1 <<< ((nI a) &&& 31)) i7) i19 (lpF (fL_reaches_L19 β a b i7 (lpF (fL_reaches_L7 β a b) (1 <<< ((nI a) &&& 31)) i7)) (lpF (fL_reaches_L7 β a b) (1 <<< ((nI a) &&& 31)) i7) i19)) (lpF (fL_reaches_L19 β a b i7 (lpF (fL_reaches_L7 β a b) (1 <<< ((nI a) &&& 31)) i7)) (lpF (fL_reaches_L7 β a b) (1 <<< ((nI a) &&& 31)) i7) i19) i31) ||| (1 <<< ((nI i31) &&& 31)))), (0, .ref ax), (1, .int (nI a)), (2, .int (nI b)), (4, .int (nI i7)), (5, .int (nI i19))]) dL_reaches_72 6 rfl (nI_1 i31) (by decide) rfl ?_
                        refine g_goto C 31 dL_reaches_75 (by decide) ?_
                        have e_32 : (lpF (fL_reaches_L31 β a b i7 (lpF (fL_reaches_L7 β a b) (1 <<< ((nI a) &&& 31)) i7) i19 (lpF (fL_reaches_L19 β a b i7 (lpF (fL_reaches_L7 β a b) (1 <<< ((nI a) &&& 31)) i7)) (lpF (fL_reaches_L7 β a b) (1 <<< ((nI a) &&& 31)) i7) i19)) (lpF (fL_reaches_L19 β a b i7 (lpF (fL_reaches_L7 β a b) (1 <<< ((nI a) &&& 31)) i7)) (lpF (fL_reaches_L7 β a b) (1 <<< ((nI a) &&& 31)) i7) i19) (i31 + 1)) = (lpF (fL_reaches_L31 β a b i7 (lpF (fL_reaches_L7 β a b) (1 <<< ((nI a) &&& 31)) i7) i19 (lpF (fL_reaches_L19 β a b i7 (lpF (fL_reaches_L7 β a b) (1 <<< ((nI a) &&& 31)) i7)) (lpF (fL_reaches_L7 β a b) (1 <<< ((nI a) &&& 31)) i7) i19)) (lpF (fL_reaches_L19 β a b i7 (lpF (fL_reaches_L7 β a b) (1 <<< ((nI a) &&& 31)) i7)) (lpF (fL_reaches_L7 β a b) (1 <<< ((nI a) &&& 31)) i7) i19) i31) ||| (1 <<< ((nI i31) &&& 31)) := by
                          rw [lpF_1, fL_reaches_L31]; rw [if_pos c_26, if_pos c_29]
                        have h_33 := ih_21 (i31 + 1) (by omega)
                        rw [e_32] at h_33
                        exact g_sub [2, 3, 4, 1, 5, 6, 0] rfl h_33
              refine g_sub [1, 2, 3, 4, 5, 6, 0] (lv1 := [(0, .ref ax), (1, .int (nI a)), (2, .int (nI b)), (3, .int (lpF (fL_reaches_L19 β a b i7 (lpF (fL_reaches_L7 β a b) (1 <<< ((nI a) &&& 31)) i7)) (lpF (fL_reaches_L7 β a b) (1 <<< ((nI a) &&& 31)) i7) i19)), (4, .int (nI i7)), (5, .int (nI i19)), (6, .int 0)]) rfl ?_
              exact hL_20 (cnt β) 0 (by omega)
        refine g_sub [1, 2, 3, 4, 5, 0] (lv1 := [(0, .ref ax), (1, .int (nI a)), (2, .int (nI b)), (3, .int (lpF (fL_reaches_L7 β a b) (1 <<< ((nI a) &&& 31)) i7)), (4, .int (nI i7)), (5, .int 0)]) rfl ?_
        exact hL_12 (cnt β) 0 (by omega)
  refine g_sub [2, 3, 4, 1, 0] (lv1 := [(0, .ref ax), (1, .int (nI a)), (2, .int (nI b)), (3, .int (1 <<< ((nI a) &&& 31))), (4, .int 0)]) rfl ?_
  exact hL_3 (cnt β) 0 (by omega)
def fL_move (β : BS) (η : BS) (σ : Nat → BS) (t : Nat) : Bool × BS × BS × (Nat → BS) :=
  if (fT_stateOf β t) = 0 then (if (fT_hasOwner β t) = true then (true, (fT_start β η σ t).1, (fT_start β η σ t).2.1, (fT_start β η σ t).2.2) else (false, β, η, σ)) else (if (fT_stateOf β t) = 1 then (true, (fT_submit β η σ t).1, (fT_submit β η σ t).2.1, (fT_submit β η σ t).2.2) else (if (fT_stateOf β t) = 2 then (if (fT_isBlocked β t) = true then (false, β, η, σ) else (true, (fT_close β η σ t).2.1, (fT_close β η σ t).2.2.1, (fT_close β η σ t).2.2.2)) else (false, β, η, σ)))
theorem caL_move : gCalS yL_move cL_move 2 (some .boolean) 2 := ⟨⟨q3_167, q1_0, by decide +kernel⟩, q3_166⟩
set_option maxHeartbeats 4000000 in
set_option maxRecDepth 100000 in
theorem kL_move (l : Launch) (E : gE) (ax : Nat) (bo : Nat → Nat) (β : BS) (tr : Nat → Nat) (τ : BS) (ac : Nat → Nat) (γ : BS) (ah : Nat → Nat) (bd : Nat → Nat → Nat) (η : BS) (σ : Nat → BS) (at_ : Nat → Nat) (θ : BS) (hv : vB β) (hvh : vH η)  (t : Nat) (ht : t < 20) (hb : t < cnt β) : MC l E yL_move cL_move 2 (some .boolean) 5 109 [.ref ax, .int (nI t)] [wX ax (bo 0) (tr 0) (ac 0) (ah 0) (at_ 0), wB E bo β, wB E tr τ, wC E ac γ, wH E ah bd η, wT E at_ θ, wB E (bd 2) (σ 2), wB E (bd 3) (σ 3), wB E (bd 4) (σ 4), wB E (bd 5) (σ 5), wB E (bd 6) (σ 6), wB E (bd 7) (σ 7), wB E (bd 8) (σ 8), wB E (bd 9) (σ 9)] (some (.int (b2i (fL_move β η σ t).1))) [wX ax (bo 0) (tr 0) (ac 0) (ah 0) (at_ 0), wB E bo ((fL_move β η σ t).2.1), wB E tr τ, wC E ac γ, wH E ah bd ((fL_move β η σ t).2.2.1), wT E at_ θ, wB E (bd 2) ((fL_move β η σ t).2.2.2 2), wB E (bd 3) ((fL_move β η σ t).2.2.2 3), wB E (bd 4) ((fL_move β η σ t).2.2.2 4), wB E (bd 5) ((fL_move β η σ t).2.2.2 5), wB E (bd 6) ((fL_move β η σ t).2.2.2 6), wB E (bd 7) ((fL_move β η σ t).2.2.2 7), wB E (bd 8) ((fL_move β η σ t).2.2.2 8), wB E (bd 9) ((fL_move β η σ t).2.2.2 9)] := by
  have hv1 : cnt β ≤ 20 := hv.1
  refine mc_of (by decide +kernel) (Nat.le_of_ble_eq_true rfl) (lv := [(0, .ref ax), (1, .int (nI t))]) rfl (fun X C hE => ?_)
  refine g_aload_n C dL_move_0 rfl 0 rfl ?_
  refine g_iload_n C dL_move_1 rfl 1 rfl ?_
  refine g_callV C (cs1 := [wX ax (bo 0) (tr 0) (ac 0) (ah 0) (at_ 0), wB E bo β, wB E tr τ, wC E ac γ, wH E ah bd η, wT E at_ θ, wB E (bd 2) (σ 2), wB E (bd 3) (σ 3), wB E (bd 4) (σ 4), wB E (bd 5) (σ 5), wB E (bd 6) (σ 6), wB E (bd 7) (σ 7), wB E (bd 8) (σ 8), wB E (bd 9) (σ 9)]) (st1 := [.int (fT_stateOf β t)]) [.int (nI t)] [0, 1, 2, 3, 4, 5, 6, 7, 8, 9, 10, 11, 12, 13] (kT_stateOf l E ax bo β tr τ ac γ ah bd η σ at_ θ hv t (by omega) (hasT_n hv hb)) caX6_stateOf q2_193 rfl ⟨Nat.le_of_ble_eq_true rfl, Nat.le_of_ble_eq_true rfl⟩ ⟨Nat.zero_le _, Nat.zero_le _⟩ 0 0 rfl rfl rfl rfl (by decide) rfl rfl rfl rfl (Nat.le_of_ble_eq_true rfl) dL_move_2 rfl ?_
  refine (Decidable.em ((fT_stateOf β t) = 0)).elim (fun c_1 => ?_) (fun c_1 => ?_)
  · refine g_tblK C 32 dL_move_5 c_1 (by decide) (by decide) rfl (by decide) ?_
    have hs9 := c_1
    refine g_aload_n C dL_move_32 rfl 0 rfl ?_
    refine g_iload_n C dL_move_33 rfl 1 rfl ?_
    refine g_callV C (cs1 := [wX ax (bo 0) (tr 0) (ac 0) (ah 0) (at_ 0), wB E bo β, wB E tr τ, wC E ac γ, wH E ah bd η, wT E at_ θ, wB E (bd 2) (σ 2), wB E (bd 3) (σ 3), wB E (bd 4) (σ 4), wB E (bd 5) (σ 5), wB E (bd 6) (σ 6), wB E (bd 7) (σ 7), wB E (bd 8) (σ 8), wB E (bd 9) (σ 9)]) (st1 := [.int (b2i (fT_hasOwner β t))]) [.int (nI t)] [0, 1, 2, 3, 4, 5, 6, 7, 8, 9, 10, 11, 12, 13] (kT_hasOwner l E ax bo β tr τ ac γ ah bd η σ at_ θ hv t (by omega) (hasT_n hv hb)) caX6_hasOwner q2_209 rfl ⟨Nat.le_of_ble_eq_true rfl, Nat.le_of_ble_eq_true rfl⟩ ⟨Nat.zero_le _, Nat.zero_le _⟩ 0 0 rfl rfl rfl rfl (by decide) rfl rfl rfl rfl (Nat.le_of_ble_eq_true rfl) dL_move_34 rfl ?_
    refine g_ifB_eq C 47 dL_move_37 (by decide) (fun c_2 => ?_) (fun c_2 => ?_)
    · skip
      refine g_iconst C (v := 0) dL_move_47 (by decide) ?_
      have e_3 : fL_move β η σ t = (false, β, η, σ) := by rw [fL_move]; rw [if_pos c_1, if_neg (ne_true_of_eq_false c_2)]
      exact g_zret (b := false) C hE (by rw [e_3]) rfl (by rw [e_3] <;> rfl) dL_move_48
    · skip
      have ho9 := c_2
      refine g_aload_n C dL_move_40 rfl 0 rfl ?_
      refine g_iload_n C dL_move_41 rfl 1 rfl ?_
      refine g_callV C (cs1 := [wX ax (bo 0) (tr 0) (ac 0) (ah 0) (at_ 0), wB E bo ((fT_start β η σ t).1), wB E tr τ, wC E ac γ, wH E ah bd ((fT_start β η σ t).2.1), wT E at_ θ, wB E (bd 2) ((fT_start β η σ t).2.2 2), wB E (bd 3) ((fT_start β η σ t).2.2 3), wB E (bd 4) ((fT_start β η σ t).2.2 4), wB E (bd 5) ((fT_start β η σ t).2.2 5), wB E (bd 6) ((fT_start β η σ t).2.2 6), wB E (bd 7) ((fT_start β η σ t).2.2 7), wB E (bd 8) ((fT_start β η σ t).2.2 8), wB E (bd 9) ((fT_start β η σ t).2.2 9)]) (st1 := []) [.int (nI t)] [0, 1, 2, 3, 4, 5, 6, 7, 8, 9, 10, 11, 12, 13] (kT_start l E ax bo β tr τ ac γ ah bd η σ at_ θ hv hvh t (by omega) (hasT_n hv hb) (start_of hs9 ho9)) caX6_start q3_168 rfl ⟨Nat.le_of_ble_eq_true rfl, Nat.le_of_ble_eq_true rfl⟩ ⟨Nat.zero_le _, Nat.zero_le _⟩ 0 0 rfl rfl rfl rfl (by decide) rfl rfl rfl rfl (Nat.le_of_ble_eq_true rfl) dL_move_42 rfl ?_
      refine g_iconst C (v := 1) dL_move_45 (by decide) ?_
      have e_4 : fL_move β η σ t = (true, (fT_start β η σ t).1, (fT_start β η σ t).2.1, (fT_start β η σ t).2.2) := by rw [fL_move]; rw [if_pos c_1, if_pos c_2]
      exact g_zret (b := true) C hE (by rw [e_4]) rfl (by rw [e_4] <;> rfl) dL_move_46
  refine (Decidable.em ((fT_stateOf β t) = 1)).elim (fun c_5 => ?_) (fun c_5 => ?_)
  · refine g_tblK C 49 dL_move_5 c_5 (by decide) (by decide) rfl (by decide) ?_
    have hs9 := c_5
    refine g_aload_n C dL_move_49 rfl 0 rfl ?_
    refine g_iload_n C dL_move_50 rfl 1 rfl ?_
    refine g_callV C (cs1 := [wX ax (bo 0) (tr 0) (ac 0) (ah 0) (at_ 0), wB E bo ((fT_submit β η σ t).1), wB E tr τ, wC E ac γ, wH E ah bd ((fT_submit β η σ t).2.1), wT E at_ θ, wB E (bd 2) ((fT_submit β η σ t).2.2 2), wB E (bd 3) ((fT_submit β η σ t).2.2 3), wB E (bd 4) ((fT_submit β η σ t).2.2 4), wB E (bd 5) ((fT_submit β η σ t).2.2 5), wB E (bd 6) ((fT_submit β η σ t).2.2 6), wB E (bd 7) ((fT_submit β η σ t).2.2 7), wB E (bd 8) ((fT_submit β η σ t).2.2 8), wB E (bd 9) ((fT_submit β η σ t).2.2 9)]) (st1 := []) [.int (nI t)] [0, 1, 2, 3, 4, 5, 6, 7, 8, 9, 10, 11, 12, 13] (kT_submit l E ax bo β tr τ ac γ ah bd η σ at_ θ hv hvh t (by omega) hs9 (hasT_n hv hb)) caX6_submit q3_176 rfl ⟨Nat.le_of_ble_eq_true rfl, Nat.le_of_ble_eq_true rfl⟩ ⟨Nat.zero_le _, Nat.zero_le _⟩ 0 0 rfl rfl rfl rfl (by decide) rfl rfl rfl rfl (Nat.le_of_ble_eq_true rfl) dL_move_51 rfl ?_
    refine g_iconst C (v := 1) dL_move_54 (by decide) ?_
    have e_6 : fL_move β η σ t = (true, (fT_submit β η σ t).1, (fT_submit β η σ t).2.1, (fT_submit β η σ t).2.2) := by rw [fL_move]; rw [if_neg c_1, if_pos c_5]
    exact g_zret (b := true) C hE (by rw [e_6]) rfl (by rw [e_6] <;> rfl) dL_move_55
  refine (Decidable.em ((fT_stateOf β t) = 2)).elim (fun c_7 => ?_) (fun c_7 => ?_)
  · refine g_tblK C 56 dL_move_5 c_7 (by decide) (by decide) rfl (by decide) ?_
    have hs9 := c_7
    refine g_aload_n C dL_move_56 rfl 0 rfl ?_
    refine g_iload_n C dL_move_57 rfl 1 rfl ?_
    refine g_callV C (cs1 := [wX ax (bo 0) (tr 0) (ac 0) (ah 0) (at_ 0), wB E bo β, wB E tr τ, wC E ac γ, wH E ah bd η, wT E at_ θ, wB E (bd 2) (σ 2), wB E (bd 3) (σ 3), wB E (bd 4) (σ 4), wB E (bd 5) (σ 5), wB E (bd 6) (σ 6), wB E (bd 7) (σ 7), wB E (bd 8) (σ 8), wB E (bd 9) (σ 9)]) (st1 := [.int (b2i (fT_isBlocked β t))]) [.int (nI t)] [0, 1, 2, 3, 4, 5, 6, 7, 8, 9, 10, 11, 12, 13] (kT_isBlocked l E ax bo β tr τ ac γ ah bd η σ at_ θ hv t (by omega) (hasT_n hv hb)) caX6_isBlocked q3_180 rfl ⟨Nat.le_of_ble_eq_true rfl, Nat.le_of_ble_eq_true rfl⟩ ⟨Nat.zero_le _, Nat.zero_le _⟩ 0 0 rfl rfl rfl rfl (by decide) rfl rfl rfl rfl (Nat.le_of_ble_eq_true rfl) dL_move_58 rfl ?_
    refine g_ifB_eq C 66 dL_move_61 (by decide) (fun c_8 => ?_) (fun c_8 => ?_)
    · skip
      have hb9 := c_8
      refine g_aload_n C dL_move_66 rfl 0 rfl ?_
      refine g_iload_n C dL_move_67 rfl 1 rfl ?_
      refine g_callV C (cs1 := [wX ax (bo 0) (tr 0) (ac 0) (ah 0) (at_ 0), wB E bo ((fT_close β η σ t).2.1), wB E tr τ, wC E ac γ, wH E ah bd ((fT_close β η σ t).2.2.1), wT E at_ θ, wB E (bd 2) ((fT_close β η σ t).2.2.2 2), wB E (bd 3) ((fT_close β η σ t).2.2.2 3), wB E (bd 4) ((fT_close β η σ t).2.2.2 4), wB E (bd 5) ((fT_close β η σ t).2.2.2 5), wB E (bd 6) ((fT_close β η σ t).2.2.2 6), wB E (bd 7) ((fT_close β η σ t).2.2.2 7), wB E (bd 8) ((fT_close β η σ t).2.2.2 8), wB E (bd 9) ((fT_close β η σ t).2.2.2 9)]) (st1 := [.int ((fT_close β η σ t).1)]) [.int (nI t)] [0, 1, 2, 3, 4, 5, 6, 7, 8, 9, 10, 11, 12, 13] (kT_close l E ax bo β tr τ ac γ ah bd η σ at_ θ hv hvh t (by omega) (hasT_n hv hb) (close_of hs9 hb9)) caX6_close q3_188 rfl ⟨Nat.le_of_ble_eq_true rfl, Nat.le_of_ble_eq_true rfl⟩ ⟨Nat.zero_le _, Nat.zero_le _⟩ 0 0 rfl rfl rfl rfl (by decide) rfl rfl rfl rfl (Nat.le_of_ble_eq_true rfl) dL_move_68 rfl ?_
      refine g_pop C dL_move_71 rfl ?_
      refine g_iconst C (v := 1) dL_move_72 (by decide) ?_
      have e_9 : fL_move β η σ t = (true, (fT_close β η σ t).2.1, (fT_close β η σ t).2.2.1, (fT_close β η σ t).2.2.2) := by rw [fL_move]; rw [if_neg c_1, if_neg c_5, if_pos c_7, if_neg (ne_true_of_eq_false c_8)]
      exact g_zret (b := true) C hE (by rw [e_9]) rfl (by rw [e_9] <;> rfl) dL_move_73
    · skip
      refine g_iconst C (v := 0) dL_move_64 (by decide) ?_
      have e_10 : fL_move β η σ t = (false, β, η, σ) := by rw [fL_move]; rw [if_neg c_1, if_neg c_5, if_pos c_7, if_pos c_8]
      exact g_zret (b := false) C hE (by rw [e_10]) rfl (by rw [e_10] <;> rfl) dL_move_65
  refine g_tblD C 74 [0, 1, 2] dL_move_5 (List.forall_mem_cons.mpr ⟨c_1, List.forall_mem_cons.mpr ⟨c_5, List.forall_mem_cons.mpr ⟨c_7, fun _ h => absurd h List.not_mem_nil⟩⟩⟩) (by decide) (by decide) (by decide) ?_
  refine g_iconst C (v := 0) dL_move_74 (by decide) ?_
  have e_11 : fL_move β η σ t = (false, β, η, σ) := by rw [fL_move]; rw [if_neg c_1, if_neg c_5, if_neg c_7]
  exact g_zret (b := false) C hE (by rw [e_11]) rfl (by rw [e_11] <;> rfl) dL_move_75
