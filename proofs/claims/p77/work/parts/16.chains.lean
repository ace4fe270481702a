def fX1_countedPoints (β : BS) (t : Nat) : Int32 :=
  if (fX0_isUnfinished β t) = true then β.2 1 t else 0
theorem caX1_countedPoints : gCalS yX1_countedPoints cX1_countedPoints 2 (some .int) 2 := ⟨⟨q2_179, q1_3, by decide +kernel⟩, q2_178⟩
set_option maxHeartbeats 4000000 in
set_option maxRecDepth 100000 in
theorem kX1_countedPoints (l : Launch) (E : gE) (ad : Nat → Nat) (β : BS) (hv : vB β)  (t : Nat) (ht : t < 20) : MC l E yX1_countedPoints cX1_countedPoints 2 (some .int) 1 21 [.ref (ad 0), .int (nI t)] [wB E ad β] (some (.int (fX1_countedPoints β t))) [wB E ad β] := by
  have hv1 : cnt β ≤ 20 := hv.1
  refine mc_of (by decide +kernel) (Nat.le_of_ble_eq_true rfl) (lv := [(0, .ref (ad 0)), (1, .int (nI t))]) rfl (fun X C hE => ?_)
  refine g_aload_n C dX1_countedPoints_0 rfl 0 rfl ?_
  refine g_iload_n C dX1_countedPoints_1 rfl 1 rfl ?_
  refine g_callV C (cs1 := [wB E ad β]) (st1 := [.int (b2i (fX0_isUnfinished β t))]) [.int (nI t)] [0] (kX0_isUnfinished l E ad β t (by omega)) caX0_isUnfinished q2_180 rfl ⟨Nat.le_of_ble_eq_true rfl, Nat.le_of_ble_eq_true rfl⟩ ⟨Nat.zero_le _, Nat.zero_le _⟩ 0 0 rfl rfl rfl rfl (by decide) rfl rfl rfl rfl (Nat.le_of_ble_eq_true rfl) dX1_countedPoints_2 rfl ?_
  refine g_ifB_eq C 17 dX1_countedPoints_5 (by decide) (fun c_1 => ?_) (fun c_1 => ?_)
  · skip
    refine g_iconst C (v := 0) dX1_countedPoints_17 (by decide) ?_
    have e_2 : fX1_countedPoints β t = 0 := by rw [fX1_countedPoints]; rw [if_neg (ne_true_of_eq_false c_1)]
    exact g_iret C hE (by rw [e_2]) rfl dX1_countedPoints_18
  · skip
    refine g_aload_n C dX1_countedPoints_8 rfl 0 rfl ?_
    refine g_getf C (T := TX0) (N := 17) 0 0 rfl rfl rfl inX0 5 (by decide) q1_45 rfl dX1_countedPoints_9 ?_
    refine g_iload_n C dX1_countedPoints_12 rfl 1 rfl ?_
    refine g_ialdn C 0 2 t rfl rfl rfl (by omega) (by decide) dX1_countedPoints_13 ?_
    refine g_goto C 18 dX1_countedPoints_14 (by decide) ?_
    have e_3 : fX1_countedPoints β t = β.2 1 t := by rw [fX1_countedPoints]; rw [if_pos c_1]
    exact g_iret C hE (by rw [e_3]) rfl dX1_countedPoints_18
def fX1_comesBefore (β : BS) (t : Nat) (u : Nat) : Bool :=
  if (β.2 2 t) = (β.2 2 u) then (if (β.2 1 u) ≤ (β.2 1 t) then false else true) else (if (β.2 2 t) ≤ (β.2 2 u) then false else true)
def fX1_countByTable_L46 (γ : BS) (β : BS) (t : Nat) (i37 : Nat) (t37 : BS) (i46 : Nat) (t46 : BS) : BS :=
  if (fX6_isIn (t46.2 0 i46) (nI i37)) = true then sE t46 0 i46 ((t46.2 0 i46) ||| (t46.2 0 i37)) else t46
def fX1_countByTable_L37 (γ : BS) (β : BS) (t : Nat) (i37 : Nat) (t37 : BS) : BS :=
  (lpF (fX1_countByTable_L46 γ β t i37 t37) t37 (cnt β))
def fX1_countByTable_L8 (γ : BS) (β : BS) (t : Nat) (i8 : Nat) (t8 : BS) : BS :=
  sE t8 0 i8 (β.2 9 i8)
def fX1_countByTable (γ : BS) (β : BS) (t : Nat) : Int32 × BS :=
  ((fJ6_bitCount_0f7a4 ((lpF (fX1_countByTable_L37 γ β t) (lpF (fX1_countByTable_L8 γ β t) γ (cnt β)) (cnt β)).2 0 t)), (lpF (fX1_countByTable_L37 γ β t) (lpF (fX1_countByTable_L8 γ β t) γ (cnt β)) (cnt β)))
theorem caX1_countByTable : gCalV yX1_countByTable cX1_countByTable 6 (some .int) 2 := ⟨⟨q3_231, q1_3, by decide +kernel⟩, q3_229, q3_230⟩
set_option maxHeartbeats 4000000 in
set_option maxRecDepth 100000 in
theorem kX1_countByTable (l : Launch) (E : gE) (ac : Nat → Nat) (γ : BS) (ad : Nat → Nat) (β : BS) (hv : vB β)  (t : Nat) (ht : t < 20) : MC l E yX1_countByTable cX1_countByTable 6 (some .int) 1 21 [.ref (ac 0), .ref (ad 0), .int (nI t)] [wC E ac γ, wB E ad β] (some (.int (fX1_countByTable γ β t).1)) [wC E ac ((fX1_countByTable γ β t).2), wB E ad β] := by
  have hv1 : cnt β ≤ 20 := hv.1
  refine mc_of (by decide +kernel) (Nat.le_of_ble_eq_true rfl) (lv := [(0, .ref (ac 0)), (1, .ref (ad 0)), (2, .int (nI t))]) rfl (fun X C hE => ?_)
  refine g_aload_n C dX1_countByTable_0 rfl 1 rfl ?_
  refine g_getf C (T := TX0) (N := 17) 1 0 rfl rfl rfl inX0 0 (by decide) q1_30 rfl dX1_countByTable_1 ?_
  refine g_istore_n C (lv1 := [(3, .int (β.1 0)), (0, .ref (ac 0)), (1, .ref (ad 0)), (2, .int (nI t))]) dX1_countByTable_4 rfl (by decide) rfl ?_
  refine g_iconst C (v := 0) dX1_countByTable_5 (by decide) ?_
  refine g_istore C (lv1 := [(4, .int 0), (3, .int (β.1 0)), (0, .ref (ac 0)), (1, .ref (ad 0)), (2, .int (nI t))]) dX1_countByTable_6 (by decide) rfl ?_
  have hL_3 : ∀ d_1 i8 : Nat, i8 + d_1 = (cnt β) → G X 0 0 [wC E ac (lpF (fX1_countByTable_L8 γ β t) γ i8), wB E ad β] [(0, .ref (ac 0)), (1, .ref (ad 0)), (2, .int (nI t)), (3, .int (β.1 0)), (4, .int (nI i8))] 8 [] := by
    intro d_1
    induction d_1 with
    | zero =>
      intro i8 hi_2
      obtain rfl : i8 = (cnt β) := by omega
      refine g_iload C dX1_countByTable_8 4 rfl ?_
      refine g_iload_n C dX1_countByTable_10 rfl 3 rfl ?_
      refine g_icmp_ge C 34 dX1_countByTable_11 (by decide) (fun c_5 => ?_) (fun c_5 => ?_)
      · skip
        refine g_iconst C (v := 0) dX1_countByTable_34 (by decide) ?_
        refine g_istore C (lv1 := [(4, .int 0), (0, .ref (ac 0)), (1, .ref (ad 0)), (2, .int (nI t)), (3, .int (β.1 0))]) dX1_countByTable_35 (by decide) rfl ?_
        have hL_8 : ∀ d_6 i37 : Nat, i37 + d_6 = (cnt β) → G X 0 0 [wC E ac (lpF (fX1_countByTable_L37 γ β t) (lpF (fX1_countByTable_L8 γ β t) γ (cnt β)) i37), wB E ad β] [(0, .ref (ac 0)), (1, .ref (ad 0)), (2, .int (nI t)), (3, .int (β.1 0)), (4, .int (nI i37))] 37 [] := by
          intro d_6
          induction d_6 with
          | zero =>
            intro i37 hi_7
            obtain rfl : i37 = (cnt β) := by omega
            refine g_iload C dX1_countByTable_37 4 rfl ?_
            refine g_iload_n C dX1_countByTable_39 rfl 3 rfl ?_
            refine g_icmp_ge C 96 dX1_countByTable_40 (by decide) (fun c_10 => ?_) (fun c_10 => ?_)
            · skip
              refine g_aload_n C dX1_countByTable_96 rfl 0 rfl ?_
              refine g_getf C (T := TX1) (N := 4) 0 0 rfl rfl rfl inX1 0 (by decide) q1_114 rfl dX1_countByTable_97 ?_
              refine g_iload_n C dX1_countByTable_100 rfl 2 rfl ?_
              refine g_ialdn C 0 1 t rfl rfl rfl (by omega) (by decide) dX1_countByTable_101 ?_
              refine g_callS C (cs1 := [wC E ac (lpF (fX1_countByTable_L37 γ β t) (lpF (fX1_countByTable_L8 γ β t) γ (cnt β)) (cnt β)), wB E ad β]) (st1 := [.int (fJ6_bitCount_0f7a4 ((lpF (fX1_countByTable_L37 γ β t) (lpF (fX1_countByTable_L8 γ β t) γ (cnt β)) (cnt β)).2 0 t))]) [.int ((lpF (fX1_countByTable_L37 γ β t) (lpF (fX1_countByTable_L8 γ β t) γ (cnt β)) (cnt β)).2 0 t)] [] (kJ6_bitCount_0f7a4 l E ((lpF (fX1_countByTable_L37 γ β t) (lpF (fX1_countByTable_L8 γ β t) γ (cnt β)) (cnt β)).2 0 t)) caJ6_bitCount_0f7a4 q3_232 rfl ⟨Nat.le_of_ble_eq_true rfl, Nat.le_of_ble_eq_true rfl⟩ ⟨Nat.zero_le _, Nat.zero_le _⟩ (by decide) rfl rfl rfl rfl (Nat.le_of_ble_eq_true rfl) dX1_countByTable_102 rfl ?_
              have e_11 : fX1_countByTable γ β t = ((fJ6_bitCount_0f7a4 ((lpF (fX1_countByTable_L37 γ β t) (lpF (fX1_countByTable_L8 γ β t) γ (cnt β)) (cnt β)).2 0 t)), (lpF (fX1_countByTable_L37 γ β t) (lpF (fX1_countByTable_L8 γ β t) γ (cnt β)) (cnt β))) := by rw [fX1_countByTable]
              exact g_iret C hE (by rw [e_11]) (by rw [e_11]) dX1_countByTable_105
            · exact absurd (lc_le rfl hv.2.1 (by omega) (by omega)) c_10
          | succ d_6 ih_9 =>
            intro i37 hi_7
            refine g_iload C dX1_countByTable_37 4 rfl ?_
            refine g_iload_n C dX1_countByTable_39 rfl 3 rfl ?_
            refine g_icmp_ge C 96 dX1_countByTable_40 (by decide) (fun c_12 => ?_) (fun c_12 => ?_)
            · exact absurd c_12 (lc_nle rfl hv.2.1 (by omega) (by omega))
            · skip
              refine g_iconst C (v := 0) dX1_countByTable_43 (by decide) ?_
              refine g_istore C (lv1 := [(5, .int 0), (0, .ref (ac 0)), (1, .ref (ad 0)), (2, .int (nI t)), (3, .int (β.1 0)), (4, .int (nI i37))]) dX1_countByTable_44 (by decide) rfl ?_
              have hL_15 : ∀ d_13 i46 : Nat, i46 + d_13 = (cnt β) → G X 0 0 [wC E ac (lpF (fX1_countByTable_L46 γ β t i37 (lpF (fX1_countByTable_L37 γ β t) (lpF (fX1_countByTable_L8 γ β t) γ (cnt β)) i37)) (lpF (fX1_countByTable_L37 γ β t) (lpF (fX1_countByTable_L8 γ β t) γ (cnt β)) i37) i46), wB E ad β] [(0, .ref (ac 0)), (1, .ref (ad 0)), (2, .int (nI t)), (3, .int (β.1 0)), (4, .int (nI i37)), (5, .int (nI i46))] 46 [] := by
                intro d_13
                induction d_13 with
                | zero =>
                  intro i46 hi_14
                  obtain rfl : i46 = (cnt β) := by omega
                  refine g_iload C dX1_countByTable_46 5 rfl ?_
                  refine g_iload_n C dX1_countByTable_48 rfl 3 rfl ?_
                  refine g_icmp_ge C 90 dX1_countByTable_49 (by decide) (fun c_17 => ?_) (fun c_17 => ?_)
                  · skip
                    refine g_iinc C (v := nI (i37 + 1)) (lv1 := [(4, .int (nI (i37 + 1))), (0, .ref (ac 0)), (1, .ref (ad 0)), (2, .int (nI t)), (3, .int (β.1 0)), (5, .int (nI (cnt β)))]) dX1_countByTable_90 4 rfl (nI_1 i37) (by decide) rfl ?_
                    refine g_goto C 37 dX1_countByTable_93 (by decide) ?_
                    have e_18 : (lpF (fX1_countByTable_L37 γ β t) (lpF (fX1_countByTable_L8 γ β t) γ (cnt β)) (i37 + 1)) = (lpF (fX1_countByTable_L46 γ β t i37 (lpF (fX1_countByTable_L37 γ β t) (lpF (fX1_countByTable_L8 γ β t) γ (cnt β)) i37)) (lpF (fX1_countByTable_L37 γ β t) (lpF (fX1_countByTable_L8 γ β t) γ (cnt β)) i37) (cnt β)) := by
                      rw [lpF_1, fX1_countByTable_L37]
                    have h_19 := ih_9 (i37 + 1) (by omega)
                    rw [e_18] at h_19
                    exact g_sub [1, 2, 3, 4, 0] rfl h_19
                  · exact absurd (lc_le rfl hv.2.1 (by omega) (by omega)) c_17
                | succ d_13 ih_16 =>
                  intro i46 hi_14
                  refine g_iload C dX1_countByTable_46 5 rfl ?_
                  refine g_iload_n C dX1_countByTable_48 rfl 3 rfl ?_
                  refine g_icmp_ge C 90 dX1_countByTable_49 (by decide) (fun c_20 => ?_) (fun c_20 => ?_)
                  · exact absurd c_20 (lc_nle rfl hv.2.1 (by omega) (by omega))
                  · skip
                    refine g_aload_n C dX1_countByTable_52 rfl 0 rfl ?_
                    refine g_getf C (T := TX1) (N := 4) 0 0 rfl rfl rfl inX1 0 (by decide) q1_114 rfl dX1_countByTable_53 ?_
                    refine g_iload C dX1_countByTable_56 5 rfl ?_
                    refine g_ialdn C 0 1 i46 rfl rfl rfl (by omega) (by decide) dX1_countByTable_58 ?_
                    refine g_iload C dX1_countByTable_59 4 rfl ?_
                    refine g_callSN C (cs1 := [wC E ac (lpF (fX1_countByTable_L46 γ β t i37 (lpF (fX1_countByTable_L37 γ β t) (lpF (fX1_countByTable_L8 γ β t) γ (cnt β)) i37)) (lpF (fX1_countByTable_L37 γ β t) (lpF (fX1_countByTable_L8 γ β t) γ (cnt β)) i37) i46), wB E ad β]) (st1 := [.int (b2i (fX6_isIn ((lpF (fX1_countByTable_L46 γ β t i37 (lpF (fX1_countByTable_L37 γ β t) (lpF (fX1_countByTable_L8 γ β t) γ (cnt β)) i37)) (lpF (fX1_countByTable_L37 γ β t) (lpF (fX1_countByTable_L8 γ β t) γ (cnt β)) i37) i46).2 0 i46) (nI i37)))]) [.int ((lpF (fX1_countByTable_L46 γ β t i37 (lpF (fX1_countByTable_L37 γ β t) (lpF (fX1_countByTable_L8 γ β t) γ (cnt β)) i37)) (lpF (fX1_countByTable_L37 γ β t) (lpF (fX1_countByTable_L8 γ β t) γ (cnt β)) i37) i46).2 0 i46), .int (nI i37)] [] (kX6_isIn l E ((lpF (fX1_countByTable_L46 γ β t i37 (lpF (fX1_countByTable_L37 γ β t) (lpF (fX1_countByTable_L8 γ β t) γ (cnt β)) i37)) (lpF (fX1_countByTable_L37 γ β t) (lpF (fX1_countByTable_L8 γ β t) γ (cnt β)) i37) i46).2 0 i46) (nI i37)) caX6_isIn (host := RX6) (by decide +kernel) rfl ⟨Nat.le_of_ble_eq_true rfl, Nat.le_of_ble_eq_true rfl⟩ ⟨Nat.zero_le _, Nat.zero_le _⟩ (by decide) rfl rfl rfl rfl (Nat.le_of_ble_eq_true rfl) dX1_countByTable_61 rfl ?_
                    refine g_ifB_eq C 84 dX1_countByTable_64 (by decide) (fun c_21 => ?_) (fun c_21 => ?_)
                    · skip
                      refine g_iinc C (v := nI (i46 + 1)) (lv1 := [(5, .int (nI (i46 + 1))), (0, .ref (ac 0)), (1, .ref (ad 0)), (2, .int (nI t)), (3, .int (β.1 0)), (4, .int (nI i37))]) dX1_countByTable_84 5 rfl (nI_1 i46) (by decide) rfl ?_
                      refine g_goto C 46 dX1_countByTable_87 (by decide) ?_
                      have e_22 : (lpF (fX1_countByTable_L46 γ β t i37 (lpF (fX1_countByTable_L37 γ β t) (lpF (fX1_countByTable_L8 γ β t) γ (cnt β)) i37)) (lpF (fX1_countByTable_L37 γ β t) (lpF (fX1_countByTable_L8 γ β t) γ (cnt β)) i37) (i46 + 1)) = (lpF (fX1_countByTable_L46 γ β t i37 (lpF (fX1_countByTable_L37 γ β t) (lpF (fX1_countByTable_L8 γ β t) γ (cnt β)) i37)) (lpF (fX1_countByTable_L37 γ β t) (lpF (fX1_countByTable_L8 γ β t) γ (cnt β)) i37) i46) := by
                        rw [lpF_1, fX1_countByTable_L46]; rw [if_neg (ne_true_of_eq_false c_21)]
                      have h_23 := ih_16 (i46 + 1) (by omega)
                      rw [e_22] at h_23
                      exact g_sub [1, 2, 3, 4, 5, 0] rfl h_23
                    · skip
                      refine g_aload_n C dX1_countByTable_67 rfl 0 rfl ?_
                      refine g_getf C (T := TX1) (N := 4) 0 0 rfl rfl rfl inX1 0 (by decide) q1_114 rfl dX1_countByTable_68 ?_
                      refine g_iload C dX1_countByTable_71 5 rfl ?_
                      refine g_dup2 C dX1_countByTable_73 rfl rfl ?_
                      refine g_ialdn C 0 1 i46 rfl rfl rfl (by omega) (by decide) dX1_countByTable_74 ?_
                      refine g_aload_n C dX1_countByTable_75 rfl 0 rfl ?_
                      refine g_getf C (T := TX1) (N := 4) 0 0 rfl rfl rfl inX1 0 (by decide) q1_114 rfl dX1_countByTable_76 ?_
                      refine g_iload C dX1_countByTable_79 4 rfl ?_
                      refine g_ialdn C 0 1 i37 rfl rfl rfl (by omega) (by decide) dX1_countByTable_81 ?_
                      refine g_ior C dX1_countByTable_82 ?_
                      refine g_iastn C (w1 := wC E ac (sE (lpF (fX1_countByTable_L46 γ β t i37 (lpF (fX1_countByTable_L37 γ β t) (lpF (fX1_countByTable_L8 γ β t) γ (cnt β)) i37)) (lpF (fX1_countByTable_L37 γ β t) (lpF (fX1_countByTable_L8 γ β t) γ (cnt β)) i37) i46) 0 i46 (((lpF (fX1_countByTable_L46 γ β t i37 (lpF (fX1_countByTable_L37 γ β t) (lpF (fX1_countByTable_L8 γ β t) γ (cnt β)) i37)) (lpF (fX1_countByTable_L37 γ β t) (lpF (fX1_countByTable_L8 γ β t) γ (cnt β)) i37) i46).2 0 i46) ||| ((lpF (fX1_countByTable_L46 γ β t i37 (lpF (fX1_countByTable_L37 γ β t) (lpF (fX1_countByTable_L8 γ β t) γ (cnt β)) i37)) (lpF (fX1_countByTable_L37 γ β t) (lpF (fX1_countByTable_L8 γ β t) γ (cnt β)) i37) i46).2 0 i37)))) (cs1 := [wC E ac (sE (lpF (fX1_countByTable_L46 γ β t i37 (lpF (fX1_countByTable_L37 γ β t) (lpF (fX1_countByTable_L8 γ β t) γ (cnt β)) i37)) (lpF (fX1_countByTable_L37 γ β t) (lpF (fX1_countByTable_L8 γ β t) γ (cnt β)) i37) i46) 0 i46 (((lpF (fX1_countByTable_L46 γ β t i37 (lpF (fX1_countByTable_L37 γ β t) (lpF (fX1_countByTable_L8 γ β t) γ (cnt β)) i37)) (lpF (fX1_countByTable_L37 γ β t) (lpF (fX1_countByTable_L8 γ β t) γ (cnt β)) i37) i46).2 0 i46) ||| ((lpF (fX1_countByTable_L46 γ β t i37 (lpF (fX1_countByTable_L37 γ β t) (lpF (fX1_countByTable_L8 γ β t) γ (cnt β)) i37)) (lpF (fX1_countByTable_L37 γ β t) (lpF (fX1_countByTable_L8 γ β t) γ (cnt β)) i37) i46).2 0 i37))), wB E ad β]) 0 1 i46 rfl rfl rfl (by omega) (by decide) rfl rfl dX1_countByTable_83 ?_
                      refine g_iinc C (v := nI (i46 + 1)) (lv1 := [(5, .int (nI (i46 + 1))), (0, .ref (ac 0)), (1, .ref (ad 0)), (2, .int (nI t)), (3, .int (β.1 0)), (4, .int (nI i37))]) dX1_countByTable_84 5 rfl (nI_1 i46) (by decide) rfl ?_
                      refine g_goto C 46 dX1_countByTable_87 (by decide) ?_
                      have e_24 : (lpF (fX1_countByTable_L46 γ β t i37 (lpF (fX1_countByTable_L37 γ β t) (lpF (fX1_countByTable_L8 γ β t) γ (cnt β)) i37)) (lpF (fX1_countByTable_L37 γ β t) (lpF (fX1_countByTable_L8 γ β t) γ (cnt β)) i37) (i46 + 1)) = sE (lpF (fX1_countByTable_L46 γ β t i37 (lpF (fX1_countByTable_L37 γ β t) (lpF (fX1_countByTable_L8 γ β t) γ (cnt β)) i37)) (lpF (fX1_countByTable_L37 γ β t) (lpF (fX1_countByTable_L8 γ β t) γ (cnt β)) i37) i46) 0 i46 (((lpF (fX1_countByTable_L46 γ β t i37 (lpF (fX1_countByTable_L37 γ β t) (lpF (fX1_countByTable_L8 γ β t) γ (cnt β)) i37)) (lpF (fX1_countByTable_L37 γ β t) (lpF (fX1_countByTable_L8 γ β t) γ (cnt β)) i37) i46).2 0 i46) ||| ((lpF (fX1_countByTable_L46 γ β t i37 (lpF (fX1_countByTable_L37 γ β t) (lpF (fX1_countByTable_L8 γ β t) γ (cnt β)) i37)) (lpF (fX1_countByTable_L37 γ β t) (lpF (fX1_countByTable_L8 γ β t) γ (cnt β)) i37) i46).2 0 i37)) := by
                        rw [lpF_1, fX1_countByTable_L46]; rw [if_pos c_21]
                      have h_25 := ih_16 (i46 + 1) (by omega)
                      rw [e_24] at h_25
                      exact g_sub [1, 2, 3, 4, 5, 0] rfl h_25
              refine g_sub [1, 2, 3, 4, 5, 0] (lv1 := [(0, .ref (ac 0)), (1, .ref (ad 0)), (2, .int (nI t)), (3, .int (β.1 0)), (4, .int (nI i37)), (5, .int 0)]) rfl ?_
              exact hL_15 (cnt β) 0 (by omega)
        refine g_sub [1, 2, 3, 4, 0] (lv1 := [(0, .ref (ac 0)), (1, .ref (ad 0)), (2, .int (nI t)), (3, .int (β.1 0)), (4, .int 0)]) rfl ?_
        exact hL_8 (cnt β) 0 (by omega)
      · exact absurd (lc_le rfl hv.2.1 (by omega) (by omega)) c_5
    | succ d_1 ih_4 =>
      intro i8 hi_2
      refine g_iload C dX1_countByTable_8 4 rfl ?_
      refine g_iload_n C dX1_countByTable_10 rfl 3 rfl ?_
      refine g_icmp_ge C 34 dX1_countByTable_11 (by decide) (fun c_26 => ?_) (fun c_26 => ?_)
      · exact absurd c_26 (lc_nle rfl hv.2.1 (by omega) (by omega))
      · skip
        refine g_aload_n C dX1_countByTable_14 rfl 0 rfl ?_
        refine g_getf C (T := TX1) (N := 4) 0 0 rfl rfl rfl inX1 0 (by decide) q1_114 rfl dX1_countByTable_15 ?_
        refine g_iload C dX1_countByTable_18 4 rfl ?_
        refine g_aload_n C dX1_countByTable_20 rfl 1 rfl ?_
        refine g_getf C (T := TX0) (N := 17) 1 0 rfl rfl rfl inX0 13 (by decide) q1_63 rfl dX1_countByTable_21 ?_
        refine g_iload C dX1_countByTable_24 4 rfl ?_
        refine g_ialdn C 1 10 i8 rfl rfl rfl (by omega) (by decide) dX1_countByTable_26 ?_
        refine g_iastn C (w1 := wC E ac (sE (lpF (fX1_countByTable_L8 γ β t) γ i8) 0 i8 (β.2 9 i8))) (cs1 := [wC E ac (sE (lpF (fX1_countByTable_L8 γ β t) γ i8) 0 i8 (β.2 9 i8)), wB E ad β]) 0 1 i8 rfl rfl rfl (by omega) (by decide) rfl rfl dX1_countByTable_27 ?_
        refine g_iinc C (v := nI (i8 + 1)) (lv1 := [(4, .int (nI (i8 + 1))), (0, .ref (ac 0)), (1, .ref (ad 0)), (2, .int (nI t)), (3, .int (β.1 0))]) dX1_countByTable_28 4 rfl (nI_1 i8) (by decide) rfl ?_
        refine g_goto C 8 dX1_countByTable_31 (by decide) ?_
        have e_27 : (lpF (fX1_countByTable_L8 γ β t) γ (i8 + 1)) = sE (lpF (fX1_countByTable_L8 γ β t) γ i8) 0 i8 (β.2 9 i8) := by
          rw [lpF_1, fX1_countByTable_L8]
        have h_28 := ih_4 (i8 + 1) (by omega)
        rw [e_27] at h_28
        exact g_sub [1, 2, 3, 4, 0] rfl h_28
  refine g_sub [2, 3, 4, 1, 0] (lv1 := [(0, .ref (ac 0)), (1, .ref (ad 0)), (2, .int (nI t)), (3, .int (β.1 0)), (4, .int 0)]) rfl ?_
  exact hL_3 (cnt β) 0 (by omega)
def fX1_longestFrom_R7 (β : BS) (t : Nat) : Nat → Nat → (Int32) → Int32
  | 0, _, _ => 0
  | d7 + 1, i7, t7 => if t7 = 0 then nI i7 else (if 20 ≤ (nI i7) then nI i7 else fX1_longestFrom_R7 β t d7 (i7 + 1) (fX0_neededByAny β t7))
def fX1_longestFrom (β : BS) (t : Nat) : Int32 :=
  fX1_longestFrom_R7 β t (20 + 1) 0 (fX6_setOf (nI t))
theorem caX1_longestFrom : gCalS yX1_longestFrom cX1_longestFrom 4 (some .int) 2 := ⟨⟨q3_9, q1_3, by decide +kernel⟩, q3_8⟩
set_option maxHeartbeats 4000000 in
set_option maxRecDepth 100000 in
theorem kX1_longestFrom (l : Launch) (E : gE) (ad : Nat → Nat) (β : BS) (hv : vB β)  (t : Nat) (ht : t < 20) : MC l E yX1_longestFrom cX1_longestFrom 4 (some .int) 2 44 [.ref (ad 0), .int (nI t)] [wB E ad β] (some (.int (fX1_longestFrom β t))) [wB E ad β] := by
  have hv1 : cnt β ≤ 20 := hv.1
  refine mc_of (by decide +kernel) (Nat.le_of_ble_eq_true rfl) (lv := [(0, .ref (ad 0)), (1, .int (nI t))]) rfl (fun X C hE => ?_)
  refine g_iload_n C dX1_longestFrom_0 rfl 1 rfl ?_
  refine g_callSN C (cs1 := [wB E ad β]) (st1 := [.int (fX6_setOf (nI t))]) [.int (nI t)] [] (kX6_setOf l E (nI t)) caX6_setOf (host := RX6) (by decide +kernel) rfl ⟨Nat.le_of_ble_eq_true rfl, Nat.le_of_ble_eq_true rfl⟩ ⟨Nat.zero_le _, Nat.zero_le _⟩ (by decide) rfl rfl rfl rfl (Nat.le_of_ble_eq_true rfl) dX1_longestFrom_1 rfl ?_
  refine g_istore_n C (lv1 := [(2, .int (fX6_setOf (nI t))), (0, .ref (ad 0)), (1, .int (nI t))]) dX1_longestFrom_4 rfl (by decide) rfl ?_
  refine g_iconst C (v := 0) dX1_longestFrom_5 (by decide) ?_
  refine g_istore_n C (lv1 := [(3, .int 0), (2, .int (fX6_setOf (nI t))), (0, .ref (ad 0)), (1, .int (nI t))]) dX1_longestFrom_6 rfl (by decide) rfl ?_
  have hL_2 : ∀ d7 i7 : Nat, ∀ t7 : Int32, i7 + d7 = 20 + 1 → i7 ≤ 20 → fX1_longestFrom_R7 β t d7 i7 t7 = fX1_longestFrom β t → G X 0 0 [wB E ad β] [(0, .ref (ad 0)), (1, .int (nI t)), (2, .int t7), (3, .int (nI i7))] 7 [] := by
    intro d7
    induction d7 with
    | zero =>
      intro i7 t7 hi_1 hi_1b hq_4
      omega
    | succ d7 ih_3 =>
      intro i7 t7 hi_1 hi_1b hq_4
      refine g_iload_n C dX1_longestFrom_7 rfl 2 rfl ?_
      refine g_if_eq C 29 dX1_longestFrom_8 (by decide) (fun c_6 => ?_) (fun c_6 => ?_)
      · skip
        refine g_iload_n C dX1_longestFrom_29 rfl 3 rfl ?_
        have e_7 : fX1_longestFrom β t = nI i7 := by rw [← hq_4, fX1_longestFrom_R7]; rw [if_pos c_6]
        exact g_iret C hE (by rw [e_7]) rfl dX1_longestFrom_30
      · skip
        refine g_iload_n C dX1_longestFrom_11 rfl 3 rfl ?_
        refine g_bipush C (v := 20) dX1_longestFrom_12 (by decide) ?_
        refine g_icmp_ge C 29 dX1_longestFrom_14 (by decide) (fun c_8 => ?_) (fun c_8 => ?_)
        · skip
          refine g_iload_n C dX1_longestFrom_29 rfl 3 rfl ?_
          have e_9 : fX1_longestFrom β t = nI i7 := by rw [← hq_4, fX1_longestFrom_R7]; rw [if_neg c_6, if_pos c_8]
          exact g_iret C hE (by rw [e_9]) rfl dX1_longestFrom_30
        · skip
          have c_8b : i7 < 20 := lc_ige rfl nI_l20 (by omega) (by omega) c_8
          refine g_iinc C (v := nI (i7 + 1)) (lv1 := [(3, .int (nI (i7 + 1))), (0, .ref (ad 0)), (1, .int (nI t)), (2, .int t7)]) dX1_longestFrom_17 3 rfl (nI_1 i7) (by decide) rfl ?_
          refine g_aload_n C dX1_longestFrom_20 rfl 1 rfl ?_
          refine g_iload_n C dX1_longestFrom_21 rfl 3 rfl ?_
          refine g_callV C (cs1 := [wB E ad β]) (st1 := [.int (fX0_neededByAny β t7)]) [.int t7] [0] (kX0_neededByAny l E ad β hv t7) caX0_neededByAny q3_10 rfl ⟨Nat.le_of_ble_eq_true rfl, Nat.le_of_ble_eq_true rfl⟩ ⟨Nat.zero_le _, Nat.zero_le _⟩ 0 0 rfl rfl rfl rfl (by decide) rfl rfl rfl rfl (Nat.le_of_ble_eq_true rfl) dX1_longestFrom_22 rfl ?_
          refine g_istore_n C (lv1 := [(2, .int (fX0_neededByAny β t7)), (3, .int (nI (i7 + 1))), (0, .ref (ad 0)), (1, .int (nI t))]) dX1_longestFrom_25 rfl (by decide) rfl ?_
          refine g_goto C 7 dX1_longestFrom_26 (by decide) ?_
          have e_10 : fX1_longestFrom_R7 β t d7 (i7 + 1) (fX0_neededByAny β t7) = fX1_longestFrom β t := by
            rw [← hq_4, fX1_longestFrom_R7]; rw [if_neg c_6, if_neg c_8]
          exact g_sub [2, 3, 0, 1] rfl (ih_3 (i7 + 1) (fX0_neededByAny β t7) (by omega) (by omega) e_10)
  refine g_sub [2, 3, 1, 0] (lv1 := [(0, .ref (ad 0)), (1, .int (nI t)), (2, .int (fX6_setOf (nI t))), (3, .int 0)]) rfl ?_
  have e_11 : fX1_longestFrom_R7 β t (20 + 1) 0 (fX6_setOf (nI t)) = fX1_longestFrom β t := by
    rw [fX1_longestFrom]
  exact hL_2 (20 + 1) 0 (fX6_setOf (nI t)) (by omega) (by omega) e_11
def fX1_placeable_R2 (β : BS) (a : Int32) : Nat → Nat → (Unit) → Int32
  | 0, _, _ => 0
  | d2 + 1, i2, t2 => if (β.1 0) ≤ (nI i2) then (-1) else (if (fX6_isIn a (nI i2)) = true then fX1_placeable_R2 β a d2 (i2 + 1) () else (if ((β.2 9 i2) &&& (a ^^^ (-1))) = 0 then nI i2 else fX1_placeable_R2 β a d2 (i2 + 1) ()))
def fX1_placeable (β : BS) (a : Int32) : Int32 :=
  fX1_placeable_R2 β a ((cnt β) + 1) 0 ()
theorem caX1_placeable : gCalS yX1_placeable cX1_placeable 3 (some .int) 2 := ⟨⟨q2_175, q1_3, by decide +kernel⟩, q2_174⟩
set_option maxHeartbeats 4000000 in
set_option maxRecDepth 100000 in
theorem kX1_placeable (l : Launch) (E : gE) (ad : Nat → Nat) (β : BS) (hv : vB β)  (a : Int32) : MC l E yX1_placeable cX1_placeable 3 (some .int) 1 21 [.ref (ad 0), .int a] [wB E ad β] (some (.int (fX1_placeable β a))) [wB E ad β] := by
  have hv1 : cnt β ≤ 20 := hv.1
  refine mc_of (by decide +kernel) (Nat.le_of_ble_eq_true rfl) (lv := [(0, .ref (ad 0)), (1, .int a)]) rfl (fun X C hE => ?_)
  refine g_iconst C (v := 0) dX1_placeable_0 (by decide) ?_
  refine g_istore_n C (lv1 := [(2, .int 0), (0, .ref (ad 0)), (1, .int a)]) dX1_placeable_1 rfl (by decide) rfl ?_
  have hL_2 : ∀ d2 i2 : Nat, ∀ t2 : Unit, i2 + d2 = (cnt β) + 1 → i2 ≤ (cnt β) → fX1_placeable_R2 β a d2 i2 t2 = fX1_placeable β a → G X 0 0 [wB E ad β] [(0, .ref (ad 0)), (1, .int a), (2, .int (nI i2))] 2 [] := by
    intro d2
    induction d2 with
    | zero =>
      intro i2 t2 hi_1 hi_1b hq_4
      omega
    | succ d2 ih_3 =>
      intro i2 t2 hi_1 hi_1b hq_4
      refine g_iload_n C dX1_placeable_2 rfl 2 rfl ?_
      refine g_aload_n C dX1_placeable_3 rfl 0 rfl ?_
      refine g_getf C (T := TX0) (N := 17) 0 0 rfl rfl rfl inX0 0 (by decide) q1_30 rfl dX1_placeable_4 ?_
      refine g_icmp_ge C 39 dX1_placeable_7 (by decide) (fun c_6 => ?_) (fun c_6 => ?_)
      · skip
        refine g_iconst C (v := -1) dX1_placeable_39 (by decide) ?_
        have e_7 : fX1_placeable β a = (-1) := by rw [← hq_4, fX1_placeable_R2]; rw [if_pos c_6]
        exact g_iret C hE (by rw [e_7]) rfl dX1_placeable_40
      · skip
        have c_6b : i2 < (cnt β) := lc_ige rfl hv.2.1 (by omega) (by omega) c_6
        refine g_iload_n C dX1_placeable_10 rfl 1 rfl ?_
        refine g_iload_n C dX1_placeable_11 rfl 2 rfl ?_
        refine g_callSN C (cs1 := [wB E ad β]) (st1 := [.int (b2i (fX6_isIn a (nI i2)))]) [.int a, .int (nI i2)] [] (kX6_isIn l E a (nI i2)) caX6_isIn (host := RX6) (by decide +kernel) rfl ⟨Nat.le_of_ble_eq_true rfl, Nat.le_of_ble_eq_true rfl⟩ ⟨Nat.zero_le _, Nat.zero_le _⟩ (by decide) rfl rfl rfl rfl (Nat.le_of_ble_eq_true rfl) dX1_placeable_12 rfl ?_
        refine g_ifB_ne C 33 dX1_placeable_15 (by decide) (fun c_8 => ?_) (fun c_8 => ?_)
        · skip
          refine g_iinc C (v := nI (i2 + 1)) (lv1 := [(2, .int (nI (i2 + 1))), (0, .ref (ad 0)), (1, .int a)]) dX1_placeable_33 2 rfl (nI_1 i2) (by decide) rfl ?_
          refine g_goto C 2 dX1_placeable_36 (by decide) ?_
          have e_9 : fX1_placeable_R2 β a d2 (i2 + 1) () = fX1_placeable β a := by
            rw [← hq_4, fX1_placeable_R2]; rw [if_neg c_6, if_pos c_8]
          exact g_sub [1, 2, 0] rfl (ih_3 (i2 + 1) () (by omega) (by omega) e_9)
        · skip
          refine g_aload_n C dX1_placeable_18 rfl 0 rfl ?_
          refine g_getf C (T := TX0) (N := 17) 0 0 rfl rfl rfl inX0 13 (by decide) q1_63 rfl dX1_placeable_19 ?_
          refine g_iload_n C dX1_placeable_22 rfl 2 rfl ?_
          refine g_ialdn C 0 10 i2 rfl rfl rfl (by omega) (by decide) dX1_placeable_23 ?_
          refine g_iload_n C dX1_placeable_24 rfl 1 rfl ?_
          refine g_iconst C (v := -1) dX1_placeable_25 (by decide) ?_
          refine g_ixor C dX1_placeable_26 ?_
          refine g_iand C dX1_placeable_27 ?_
          refine g_if_ne C 33 dX1_placeable_28 (by decide) (fun c_10 => ?_) (fun c_10 => ?_)
          · skip
            refine g_iinc C (v := nI (i2 + 1)) (lv1 := [(2, .int (nI (i2 + 1))), (0, .ref (ad 0)), (1, .int a)]) dX1_placeable_33 2 rfl (nI_1 i2) (by decide) rfl ?_
            refine g_goto C 2 dX1_placeable_36 (by decide) ?_
            have e_11 : fX1_placeable_R2 β a d2 (i2 + 1) () = fX1_placeable β a := by
              rw [← hq_4, fX1_placeable_R2]; rw [if_neg c_6, if_neg (ne_true_of_eq_false c_8), if_neg c_10]
            exact g_sub [1, 2, 0] rfl (ih_3 (i2 + 1) () (by omega) (by omega) e_11)
          · skip
            refine g_iload_n C dX1_placeable_31 rfl 2 rfl ?_
            have e_12 : fX1_placeable β a = nI i2 := by rw [← hq_4, fX1_placeable_R2]; rw [if_neg c_6, if_neg (ne_true_of_eq_false c_8), if_pos c_10]
            exact g_iret C hE (by rw [e_12]) rfl dX1_placeable_32
  refine g_sub [1, 2, 0] (lv1 := [(0, .ref (ad 0)), (1, .int a), (2, .int 0)]) rfl ?_
  have e_13 : fX1_placeable_R2 β a ((cnt β) + 1) 0 () = fX1_placeable β a := by
    rw [fX1_placeable]
  exact hL_2 ((cnt β) + 1) 0 () (by omega) (by omega) e_13
theorem okT_placeable {β : BS} (hv : vB β) (a : Int32) : okT (fX1_placeable β a) := by
  have h1 := hv.1
  have key : ∀ d i u, i + d = cnt β + 1 → i ≤ cnt β → okT (fX1_placeable_R2 β a d i u) := by
    intro d
    induction d with
    | zero => intro i u h h2; omega
    | succ d ih =>
      intro i u h h2
      rw [fX1_placeable_R2]
      split
      · exact Or.inl rfl
      · rename_i c
        have c2 := lc_ige rfl hv.2.1 (by omega) (by omega) c
        split
        · exact ih (i + 1) u (by omega) (by omega)
        · split
          · exact Or.inr ⟨i, by omega, rfl⟩
          · exact ih (i + 1) u (by omega) (by omega)
  rw [fX1_placeable]
  exact key _ _ _ (by omega) (by omega)
def fX1_bestNeeded_L5 (γ : BS) (β : BS) (t : Nat) (i5 : Nat) (t5 : Int32) : Int32 :=
  if (fX0_needsDirectly β t (nI i5)) = true then (if t5 < (γ.2 2 i5) then (γ.2 2 i5) else t5) else t5
def fX1_bestNeeded (γ : BS) (β : BS) (t : Nat) : Int32 :=
  (lpF (fX1_bestNeeded_L5 γ β t) 0 (cnt β))
theorem caX1_bestNeeded : gCalV yX1_bestNeeded cX1_bestNeeded 5 (some .int) 2 := ⟨⟨q2_184, q1_3, by decide +kernel⟩, q2_183, qs_2⟩
set_option maxHeartbeats 4000000 in
set_option maxRecDepth 100000 in
theorem kX1_bestNeeded (l : Launch) (E : gE) (ac : Nat → Nat) (γ : BS) (ad : Nat → Nat) (β : BS) (hv : vB β)  (t : Nat) (ht : t < 20) : MC l E yX1_bestNeeded cX1_bestNeeded 5 (some .int) 2 43 [.ref (ac 0), .ref (ad 0), .int (nI t)] [wC E ac γ, wB E ad β] (some (.int (fX1_bestNeeded γ β t))) [wC E ac γ, wB E ad β] := by
  have hv1 : cnt β ≤ 20 := hv.1
  refine mc_of (by decide +kernel) (Nat.le_of_ble_eq_true rfl) (lv := [(0, .ref (ac 0)), (1, .ref (ad 0)), (2, .int (nI t))]) rfl (fun X C hE => ?_)
  refine g_iconst C (v := 0) dX1_bestNeeded_0 (by decide) ?_
  refine g_istore_n C (lv1 := [(3, .int 0), (0, .ref (ac 0)), (1, .ref (ad 0)), (2, .int (nI t))]) dX1_bestNeeded_1 rfl (by decide) rfl ?_
  refine g_iconst C (v := 0) dX1_bestNeeded_2 (by decide) ?_
  refine g_istore C (lv1 := [(4, .int 0), (3, .int 0), (0, .ref (ac 0)), (1, .ref (ad 0)), (2, .int (nI t))]) dX1_bestNeeded_3 (by decide) rfl ?_
  have hL_3 : ∀ d_1 i5 : Nat, i5 + d_1 = (cnt β) → G X 0 0 [wC E ac γ, wB E ad β] [(0, .ref (ac 0)), (1, .ref (ad 0)), (2, .int (nI t)), (3, .int (lpF (fX1_bestNeeded_L5 γ β t) 0 i5)), (4, .int (nI i5))] 5 [] := by
    intro d_1
    induction d_1 with
    | zero =>
      intro i5 hi_2
      obtain rfl : i5 = (cnt β) := by omega
      refine g_iload C dX1_bestNeeded_5 4 rfl ?_
      refine g_aload_n C dX1_bestNeeded_7 rfl 1 rfl ?_
      refine g_getf C (T := TX0) (N := 17) 1 0 rfl rfl rfl inX0 0 (by decide) q1_30 rfl dX1_bestNeeded_8 ?_
      refine g_icmp_ge C 42 dX1_bestNeeded_11 (by decide) (fun c_5 => ?_) (fun c_5 => ?_)
      · skip
        refine g_iload_n C dX1_bestNeeded_42 rfl 3 rfl ?_
        have e_6 : fX1_bestNeeded γ β t = (lpF (fX1_bestNeeded_L5 γ β t) 0 (cnt β)) := by rw [fX1_bestNeeded]
        exact g_iret C hE (by rw [e_6]) rfl dX1_bestNeeded_43
      · exact absurd (lc_le rfl hv.2.1 (by omega) (by omega)) c_5
    | succ d_1 ih_4 =>
      intro i5 hi_2
      refine g_iload C dX1_bestNeeded_5 4 rfl ?_
      refine g_aload_n C dX1_bestNeeded_7 rfl 1 rfl ?_
      refine g_getf C (T := TX0) (N := 17) 1 0 rfl rfl rfl inX0 0 (by decide) q1_30 rfl dX1_bestNeeded_8 ?_
      refine g_icmp_ge C 42 dX1_bestNeeded_11 (by decide) (fun c_7 => ?_) (fun c_7 => ?_)
      · exact absurd c_7 (lc_nle rfl hv.2.1 (by omega) (by omega))
      · skip
        refine g_aload_n C dX1_bestNeeded_14 rfl 1 rfl ?_
        refine g_iload_n C dX1_bestNeeded_15 rfl 2 rfl ?_
        refine g_iload C dX1_bestNeeded_16 4 rfl ?_
        refine g_callV C (cs1 := [wC E ac γ, wB E ad β]) (st1 := [.int (b2i (fX0_needsDirectly β t (nI i5)))]) [.int (nI t), .int (nI i5)] [1] (kX0_needsDirectly l E ad β t (by omega) (nI i5)) caX0_needsDirectly q2_185 rfl ⟨Nat.le_of_ble_eq_true rfl, Nat.le_of_ble_eq_true rfl⟩ ⟨Nat.zero_le _, Nat.zero_le _⟩ 1 0 rfl rfl rfl rfl (by decide) rfl rfl rfl rfl (Nat.le_of_ble_eq_true rfl) dX1_bestNeeded_18 rfl ?_
        refine g_ifB_eq C 36 dX1_bestNeeded_21 (by decide) (fun c_8 => ?_) (fun c_8 => ?_)
        · skip
          refine g_iinc C (v := nI (i5 + 1)) (lv1 := [(4, .int (nI (i5 + 1))), (0, .ref (ac 0)), (1, .ref (ad 0)), (2, .int (nI t)), (3, .int (lpF (fX1_bestNeeded_L5 γ β t) 0 i5))]) dX1_bestNeeded_36 4 rfl (nI_1 i5) (by decide) rfl ?_
          refine g_goto C 5 dX1_bestNeeded_39 (by decide) ?_
          have e_9 : (lpF (fX1_bestNeeded_L5 γ β t) 0 (i5 + 1)) = (lpF (fX1_bestNeeded_L5 γ β t) 0 i5) := by
            rw [lpF_1, fX1_bestNeeded_L5]; rw [if_neg (ne_true_of_eq_false c_8)]
          have h_10 := ih_4 (i5 + 1) (by omega)
          rw [e_9] at h_10
          exact g_sub [1, 2, 3, 4, 0] rfl h_10
        · skip
          refine g_iload_n C dX1_bestNeeded_24 rfl 3 rfl ?_
          refine g_aload_n C dX1_bestNeeded_25 rfl 0 rfl ?_
          refine g_getf C (T := TX1) (N := 4) 0 0 rfl rfl rfl inX1 2 (by decide) q1_116 rfl dX1_bestNeeded_26 ?_
          refine g_iload C dX1_bestNeeded_29 4 rfl ?_
          refine g_ialdn C 0 3 i5 rfl rfl rfl (by omega) (by decide) dX1_bestNeeded_31 ?_
          refine g_mmax C q2_189 q2_190 q1_11 q2_191 (Nat.le_of_ble_eq_true rfl) (Nat.le_of_ble_eq_true rfl) ⟨Nat.zero_le _, Nat.zero_le _⟩ dX1_bestNeeded_32 ?_
          refine g_istore_n C (lv1 := [(3, .int (if (lpF (fX1_bestNeeded_L5 γ β t) 0 i5) < (γ.2 2 i5) then (γ.2 2 i5) else (lpF (fX1_bestNeeded_L5 γ β t) 0 i5))), (0, .ref (ac 0)), (1, .ref (ad 0)), (2, .int (nI t)), (4, .int (nI i5))]) dX1_bestNeeded_35 rfl (by decide) rfl ?_
          refine g_iinc C (v := nI (i5 + 1)) (lv1 := [(4, .int (nI (i5 + 1))), (3, .int (if (lpF (fX1_bestNeeded_L5 γ β t) 0 i5) < (γ.2 2 i5) then (γ.2 2 i5) else (lpF (fX1_bestNeeded_L5 γ β t) 0 i5))), (0, .ref (ac 0)), (1, .ref (ad 0)), (2, .int (nI t))]) dX1_bestNeeded_36 4 rfl (nI_1 i5) (by decide) rfl ?_
          refine g_goto C 5 dX1_bestNeeded_39 (by decide) ?_
          have e_11 : (lpF (fX1_bestNeeded_L5 γ β t) 0 (i5 + 1)) = (if (lpF (fX1_bestNeeded_L5 γ β t) 0 i5) < (γ.2 2 i5) then (γ.2 2 i5) else (lpF (fX1_bestNeeded_L5 γ β t) 0 i5)) := by
            rw [lpF_1, fX1_bestNeeded_L5]; rw [if_pos c_8]
          have h_12 := ih_4 (i5 + 1) (by omega)
          rw [e_11] at h_12
          exact g_sub [2, 3, 4, 1, 0] rfl h_12
  refine g_sub [2, 3, 4, 1, 0] (lv1 := [(0, .ref (ac 0)), (1, .ref (ad 0)), (2, .int (nI t)), (3, .int 0), (4, .int 0)]) rfl ?_
  exact hL_3 (cnt β) 0 (by omega)
def fX1_firstOf_L4 (β : BS) (a : Int32) (i4 : Nat) (t4 : Int32) : Int32 :=
  if (fX6_isIn a (nI i4)) = true then (if t4 = (-1) then nI i4 else (if (fX1_comesBefore β i4 (t4.toNatClampNeg)) = true then nI i4 else t4)) else t4
def fX1_firstOf (β : BS) (a : Int32) : Int32 :=
  (lpF (fX1_firstOf_L4 β a) (-1) (cnt β))
theorem okT_firstOf {β : BS} (hv : vB β) (a : Int32) : okT (fX1_firstOf β a) := by
  have h1 := hv.1
  rw [fX1_firstOf]
  exact lpF_invB okT (cnt β) (Or.inl rfl) (fun i x hi h => by
    unfold fX1_firstOf_L4
    repeat' split
    all_goals first | exact h | exact Or.inr ⟨i, by omega, rfl⟩) (cnt β) (Nat.le_refl _)
def fX1_nextOpen (β : BS) : Int32 :=
  (fX1_firstOf β ((fX0_inState β 0) &&& ((fX0_blockedSet β) ^^^ (-1))))
def fX1_freeOf_L4 (β : BS) (a : Int32) (i4 : Nat) (t4 : Int32) : Int32 :=
  if (fX6_isIn a (nI i4)) = true then (if ((β.2 9 i4) &&& a) = 0 then t4 ||| (fX6_setOf (nI i4)) else t4) else t4
def fX1_freeOf (β : BS) (a : Int32) : Int32 :=
  (lpF (fX1_freeOf_L4 β a) 0 (cnt β))
def fX1_fillClosingOrder_R7 (γ : BS) (β : BS) : Nat → Nat → (Int32 × BS) → Int32 × BS
  | 0, _, _ => (0, γ)
  | d7 + 1, i7, t7 => if 20 ≤ (nI i7) then (20, t7.2) else (if (fX1_firstOf β (fX1_freeOf β t7.1)) = (-1) then (nI i7, t7.2) else fX1_fillClosingOrder_R7 γ β d7 (i7 + 1) (t7.1 &&& ((fX6_setOf (fX1_firstOf β (fX1_freeOf β t7.1))) ^^^ (-1)), sE t7.2 3 i7 (fX1_firstOf β (fX1_freeOf β t7.1))))
def fX1_fillClosingOrder (γ : BS) (β : BS) : Int32 × BS :=
  fX1_fillClosingOrder_R7 γ β (20 + 1) 0 ((fX0_unfinishedSet β), γ)
def fX1_mostPointsByOrder_R7 (γ : BS) (β : BS) : Nat → Nat → (Int32 × Int32 × BS) → Int32 × BS
  | 0, _, _ => (0, γ)
  | d7 + 1, i7, t7 => if (β.1 0) ≤ (nI i7) then (t7.1, t7.2.2) else (if (fX1_placeable β t7.2.1) = (-1) then (t7.1, t7.2.2) else fX1_mostPointsByOrder_R7 γ β d7 (i7 + 1) ((if t7.1 < ((sE t7.2.2 2 ((fX1_placeable β t7.2.1).toNatClampNeg) ((fX1_countedPoints β ((fX1_placeable β t7.2.1).toNatClampNeg)) + (fX1_bestNeeded t7.2.2 β ((fX1_placeable β t7.2.1).toNatClampNeg)))).2 2 ((fX1_placeable β t7.2.1).toNatClampNeg)) then ((sE t7.2.2 2 ((fX1_placeable β t7.2.1).toNatClampNeg) ((fX1_countedPoints β ((fX1_placeable β t7.2.1).toNatClampNeg)) + (fX1_bestNeeded t7.2.2 β ((fX1_placeable β t7.2.1).toNatClampNeg)))).2 2 ((fX1_placeable β t7.2.1).toNatClampNeg)) else t7.1), t7.2.1 ||| (fX6_setOf (fX1_placeable β t7.2.1)), sE t7.2.2 2 ((fX1_placeable β t7.2.1).toNatClampNeg) ((fX1_countedPoints β ((fX1_placeable β t7.2.1).toNatClampNeg)) + (fX1_bestNeeded t7.2.2 β ((fX1_placeable β t7.2.1).toNatClampNeg)))))
def fX1_mostPointsByOrder (γ : BS) (β : BS) : Int32 × BS :=
  fX1_mostPointsByOrder_R7 γ β ((cnt β) + 1) 0 (0, 0, γ)
theorem caX1_mostPointsByOrder : gCalV yX1_mostPointsByOrder cX1_mostPointsByOrder 6 (some .int) 1 := ⟨⟨q2_172, q1_3, by decide +kernel⟩, q2_170, q2_171⟩
set_option maxHeartbeats 4000000 in
set_option maxRecDepth 100000 in
theorem kX1_mostPointsByOrder (l : Launch) (E : gE) (ac : Nat → Nat) (γ : BS) (ad : Nat → Nat) (β : BS) (hv : vB β)   : MC l E yX1_mostPointsByOrder cX1_mostPointsByOrder 6 (some .int) 3 67 [.ref (ac 0), .ref (ad 0)] [wC E ac γ, wB E ad β] (some (.int (fX1_mostPointsByOrder γ β).1)) [wC E ac ((fX1_mostPointsByOrder γ β).2), wB E ad β] := by
  have hv1 : cnt β ≤ 20 := hv.1
  refine mc_of (by decide +kernel) (Nat.le_of_ble_eq_true rfl) (lv := [(0, .ref (ac 0)), (1, .ref (ad 0))]) rfl (fun X C hE => ?_)
  refine g_iconst C (v := 0) dX1_mostPointsByOrder_0 (by decide) ?_
  refine g_istore_n C (lv1 := [(2, .int 0), (0, .ref (ac 0)), (1, .ref (ad 0))]) dX1_mostPointsByOrder_1 rfl (by decide) rfl ?_
  refine g_iconst C (v := 0) dX1_mostPointsByOrder_2 (by decide) ?_
  refine g_istore_n C (lv1 := [(3, .int 0), (2, .int 0), (0, .ref (ac 0)), (1, .ref (ad 0))]) dX1_mostPointsByOrder_3 rfl (by decide) rfl ?_
  refine g_iconst C (v := 0) dX1_mostPointsByOrder_4 (by decide) ?_
  refine g_istore C (lv1 := [(4, .int 0), (3, .int 0), (2, .int 0), (0, .ref (ac 0)), (1, .ref (ad 0))]) dX1_mostPointsByOrder_5 (by decide) rfl ?_
  have hL_2 : ∀ d7 i7 : Nat, ∀ t7 : Int32 × Int32 × BS, i7 + d7 = (cnt β) + 1 → i7 ≤ (cnt β) → fX1_mostPointsByOrder_R7 γ β d7 i7 t7 = fX1_mostPointsByOrder γ β → G X 0 0 [wC E ac t7.2.2, wB E ad β] [(0, .ref (ac 0)), (1, .ref (ad 0)), (2, .int t7.1), (3, .int t7.2.1), (4, .int (nI i7))] 7 [] := by
    intro d7
    induction d7 with
    | zero =>
      intro i7 t7 hi_1 hi_1b hq_4
      omega
    | succ d7 ih_3 =>
      intro i7 t7 hi_1 hi_1b hq_4
      refine g_iload C dX1_mostPointsByOrder_7 4 rfl ?_
      refine g_aload_n C dX1_mostPointsByOrder_9 rfl 1 rfl ?_
      refine g_getf C (T := TX0) (N := 17) 1 0 rfl rfl rfl inX0 0 (by decide) q1_30 rfl dX1_mostPointsByOrder_10 ?_
      refine g_icmp_ge C 78 dX1_mostPointsByOrder_13 (by decide) (fun c_6 => ?_) (fun c_6 => ?_)
      · skip
        refine g_iload_n C dX1_mostPointsByOrder_78 rfl 2 rfl ?_
        have e_7 : fX1_mostPointsByOrder γ β = (t7.1, t7.2.2) := by rw [← hq_4, fX1_mostPointsByOrder_R7]; rw [if_pos c_6]
        exact g_iret C hE (by rw [e_7]) (by rw [e_7]) dX1_mostPointsByOrder_79
      · skip
        have c_6b : i7 < (cnt β) := lc_ige rfl hv.2.1 (by omega) (by omega) c_6
        refine g_aload_n C dX1_mostPointsByOrder_16 rfl 1 rfl ?_
        refine g_iload_n C dX1_mostPointsByOrder_17 rfl 3 rfl ?_
        refine g_callS C (cs1 := [wC E ac t7.2.2, wB E ad β]) (st1 := [.int (fX1_placeable β t7.2.1)]) [.ref (ad 0), .int t7.2.1] [1] (kX1_placeable l E ad β hv t7.2.1) caX1_placeable q2_173 rfl ⟨Nat.le_of_ble_eq_true rfl, Nat.le_of_ble_eq_true rfl⟩ ⟨Nat.zero_le _, Nat.zero_le _⟩ (by decide) rfl rfl rfl rfl (Nat.le_of_ble_eq_true rfl) dX1_mostPointsByOrder_18 rfl ?_
        refine g_istore C (lv1 := [(5, .int (fX1_placeable β t7.2.1)), (0, .ref (ac 0)), (1, .ref (ad 0)), (2, .int t7.1), (3, .int t7.2.1), (4, .int (nI i7))]) dX1_mostPointsByOrder_21 (by decide) rfl ?_
        refine g_iload C dX1_mostPointsByOrder_23 0 rfl ?_
        refine g_iconst C (v := -1) dX1_mostPointsByOrder_25 (by decide) ?_
        refine g_icmp_ne C 31 dX1_mostPointsByOrder_26 (by decide) (fun c_8 => ?_) (fun c_8 => ?_)
        · skip
          have hj := okT_i (okT_placeable hv _) c_8
          refine g_aload_n C dX1_mostPointsByOrder_31 rfl 1 rfl ?_
          refine g_getf C (T := TX1) (N := 4) 0 0 rfl rfl rfl inX1 2 (by decide) q1_116 rfl dX1_mostPointsByOrder_32 ?_
          refine g_iload C dX1_mostPointsByOrder_35 0 rfl ?_
          refine g_aload_n C dX1_mostPointsByOrder_37 rfl 2 rfl ?_
          refine g_iload C dX1_mostPointsByOrder_38 0 rfl ?_
          refine g_st (st1 := [.int (nI ((fX1_placeable β t7.2.1).toNatClampNeg)), .ref (ad 0), .int (fX1_placeable β t7.2.1), .ref (ac 3)]) (by rw [← hj.1]) ?_
          refine g_callS C (cs1 := [wC E ac t7.2.2, wB E ad β]) (st1 := [.int (fX1_countedPoints β ((fX1_placeable β t7.2.1).toNatClampNeg)), .int (fX1_placeable β t7.2.1), .ref (ac 3)]) [.ref (ad 0), .int (nI ((fX1_placeable β t7.2.1).toNatClampNeg))] [1] (kX1_countedPoints l E ad β hv ((fX1_placeable β t7.2.1).toNatClampNeg) hj.2) caX1_countedPoints q2_177 rfl ⟨Nat.le_of_ble_eq_true rfl, Nat.le_of_ble_eq_true rfl⟩ ⟨Nat.zero_le _, Nat.zero_le _⟩ (by decide) rfl rfl rfl rfl (Nat.le_of_ble_eq_true rfl) dX1_mostPointsByOrder_40 rfl ?_
          refine g_aload_n C dX1_mostPointsByOrder_43 rfl 1 rfl ?_
          refine g_aload_n C dX1_mostPointsByOrder_44 rfl 2 rfl ?_
          refine g_iload C dX1_mostPointsByOrder_45 0 rfl ?_
          refine g_st (st1 := [.int (nI ((fX1_placeable β t7.2.1).toNatClampNeg)), .ref (ad 0), .ref (ac 0), .int (fX1_countedPoints β ((fX1_placeable β t7.2.1).toNatClampNeg)), .int (fX1_placeable β t7.2.1), .ref (ac 3)]) (by rw [← hj.1]) ?_
          refine g_callV C (cs1 := [wC E ac t7.2.2, wB E ad β]) (st1 := [.int (fX1_bestNeeded t7.2.2 β ((fX1_placeable β t7.2.1).toNatClampNeg)), .int (fX1_countedPoints β ((fX1_placeable β t7.2.1).toNatClampNeg)), .int (fX1_placeable β t7.2.1), .ref (ac 3)]) [.ref (ad 0), .int (nI ((fX1_placeable β t7.2.1).toNatClampNeg))] [0, 1] (kX1_bestNeeded l E ac t7.2.2 ad β hv ((fX1_placeable β t7.2.1).toNatClampNeg) hj.2) caX1_bestNeeded q2_181 rfl ⟨Nat.le_of_ble_eq_true rfl, Nat.le_of_ble_eq_true rfl⟩ ⟨Nat.zero_le _, Nat.zero_le _⟩ 0 0 rfl rfl rfl rfl (by decide) rfl rfl rfl rfl (Nat.le_of_ble_eq_true rfl) dX1_mostPointsByOrder_47 rfl ?_
          refine g_iadd C dX1_mostPointsByOrder_50 ?_
          refine g_iastn C (w1 := wC E ac (sE t7.2.2 2 ((fX1_placeable β t7.2.1).toNatClampNeg) ((fX1_countedPoints β ((fX1_placeable β t7.2.1).toNatClampNeg)) + (fX1_bestNeeded t7.2.2 β ((fX1_placeable β t7.2.1).toNatClampNeg))))) (cs1 := [wC E ac (sE t7.2.2 2 ((fX1_placeable β t7.2.1).toNatClampNeg) ((fX1_countedPoints β ((fX1_placeable β t7.2.1).toNatClampNeg)) + (fX1_bestNeeded t7.2.2 β ((fX1_placeable β t7.2.1).toNatClampNeg)))), wB E ad β]) 0 3 ((fX1_placeable β t7.2.1).toNatClampNeg) rfl rfl hj.1 hj.2 (by decide) rfl rfl dX1_mostPointsByOrder_51 ?_
          refine g_iload_n C dX1_mostPointsByOrder_52 rfl 3 rfl ?_
          refine g_aload_n C dX1_mostPointsByOrder_53 rfl 1 rfl ?_
          refine g_getf C (T := TX1) (N := 4) 0 0 rfl rfl rfl inX1 2 (by decide) q1_116 rfl dX1_mostPointsByOrder_54 ?_
          refine g_iload C dX1_mostPointsByOrder_57 0 rfl ?_
          refine g_ialdn C 0 3 ((fX1_placeable β t7.2.1).toNatClampNeg) rfl rfl hj.1 hj.2 (by decide) dX1_mostPointsByOrder_59 ?_
          refine g_mmax C q2_189 q2_190 q1_11 q2_191 (Nat.le_of_ble_eq_true rfl) (Nat.le_of_ble_eq_true rfl) ⟨Nat.zero_le _, Nat.zero_le _⟩ dX1_mostPointsByOrder_60 ?_
          refine g_istore_n C (lv1 := [(2, .int (if t7.1 < ((sE t7.2.2 2 ((fX1_placeable β t7.2.1).toNatClampNeg) ((fX1_countedPoints β ((fX1_placeable β t7.2.1).toNatClampNeg)) + (fX1_bestNeeded t7.2.2 β ((fX1_placeable β t7.2.1).toNatClampNeg)))).2 2 ((fX1_placeable β t7.2.1).toNatClampNeg)) then ((sE t7.2.2 2 ((fX1_placeable β t7.2.1).toNatClampNeg) ((fX1_countedPoints β ((fX1_placeable β t7.2.1).toNatClampNeg)) + (fX1_bestNeeded t7.2.2 β ((fX1_placeable β t7.2.1).toNatClampNeg)))).2 2 ((fX1_placeable β t7.2.1).toNatClampNeg)) else t7.1)), (5, .int (fX1_placeable β t7.2.1)), (0, .ref (ac 0)), (1, .ref (ad 0)), (3, .int t7.2.1), (4, .int (nI i7))]) dX1_mostPointsByOrder_63 rfl (by decide) rfl ?_
          refine g_iload_n C dX1_mostPointsByOrder_64 rfl 4 rfl ?_
          refine g_iload C dX1_mostPointsByOrder_65 1 rfl ?_
          refine g_callSN C (cs1 := [wC E ac (sE t7.2.2 2 ((fX1_placeable β t7.2.1).toNatClampNeg) ((fX1_countedPoints β ((fX1_placeable β t7.2.1).toNatClampNeg)) + (fX1_bestNeeded t7.2.2 β ((fX1_placeable β t7.2.1).toNatClampNeg)))), wB E ad β]) (st1 := [.int (fX6_setOf (fX1_placeable β t7.2.1)), .int t7.2.1]) [.int (fX1_placeable β t7.2.1)] [] (kX6_setOf l E (fX1_placeable β t7.2.1)) caX6_setOf (host := RX6) (by decide +kernel) rfl ⟨Nat.le_of_ble_eq_true rfl, Nat.le_of_ble_eq_true rfl⟩ ⟨Nat.zero_le _, Nat.zero_le _⟩ (by decide) rfl rfl rfl rfl (Nat.le_of_ble_eq_true rfl) dX1_mostPointsByOrder_67 rfl ?_
          refine g_ior C dX1_mostPointsByOrder_70 ?_
          refine g_istore_n C (lv1 := [(3, .int (t7.2.1 ||| (fX6_setOf (fX1_placeable β t7.2.1)))), (2, .int (if t7.1 < ((sE t7.2.2 2 ((fX1_placeable β t7.2.1).toNatClampNeg) ((fX1_countedPoints β ((fX1_placeable β t7.2.1).toNatClampNeg)) + (fX1_bestNeeded t7.2.2 β ((fX1_placeable β t7.2.1).toNatClampNeg)))).2 2 ((fX1_placeable β t7.2.1).toNatClampNeg)) then ((sE t7.2.2 2 ((fX1_placeable β t7.2.1).toNatClampNeg) ((fX1_countedPoints β ((fX1_placeable β t7.2.1).toNatClampNeg)) + (fX1_bestNeeded t7.2.2 β ((fX1_placeable β t7.2.1).toNatClampNeg)))).2 2 ((fX1_placeable β t7.2.1).toNatClampNeg)) else t7.1)), (5, .int (fX1_placeable β t7.2.1)), (0, .ref (ac 0)), (1, .ref (ad 0)), (4, .int (nI i7))]) dX1_mostPointsByOrder_71 rfl (by decide) rfl ?_
          refine g_iinc C (v := nI (i7 + 1)) (lv1 := [(4, .int (nI (i7 + 1))), (3, .int (t7.2.1 ||| (fX6_setOf (fX1_placeable β t7.2.1)))), (2, .int (if t7.1 < ((sE t7.2.2 2 ((fX1_placeable β t7.2.1).toNatClampNeg) ((fX1_countedPoints β ((fX1_placeable β t7.2.1).toNatClampNeg)) + (fX1_bestNeeded t7.2.2 β ((fX1_placeable β t7.2.1).toNatClampNeg)))).2 2 ((fX1_placeable β t7.2.1).toNatClampNeg)) then ((sE t7.2.2 2 ((fX1_placeable β t7.2.1).toNatClampNeg) ((fX1_countedPoints β ((fX1_placeable β t7.2.1).toNatClampNeg)) + (fX1_bestNeeded t7.2.2 β ((fX1_placeable β t7.2.1).toNatClampNeg)))).2 2 ((fX1_placeable β t7.2.1).toNatClampNeg)) else t7.1)), (5, .int (fX1_placeable β t7.2.1)), (0, .ref (ac 0)), (1, .ref (ad 0))]) dX1_mostPointsByOrder_72 5 rfl (nI_1 i7) (by decide) rfl ?_
          refine g_goto C 7 dX1_mostPointsByOrder_75 (by decide) ?_
          have e_9 : fX1_mostPointsByOrder_R7 γ β d7 (i7 + 1) ((if t7.1 < ((sE t7.2.2 2 ((fX1_placeable β t7.2.1).toNatClampNeg) ((fX1_countedPoints β ((fX1_placeable β t7.2.1).toNatClampNeg)) + (fX1_bestNeeded t7.2.2 β ((fX1_placeable β t7.2.1).toNatClampNeg)))).2 2 ((fX1_placeable β t7.2.1).toNatClampNeg)) then ((sE t7.2.2 2 ((fX1_placeable β t7.2.1).toNatClampNeg) ((fX1_countedPoints β ((fX1_placeable β t7.2.1).toNatClampNeg)) + (fX1_bestNeeded t7.2.2 β ((fX1_placeable β t7.2.1).toNatClampNeg)))).2 2 ((fX1_placeable β t7.2.1).toNatClampNeg)) else t7.1), t7.2.1 ||| (fX6_setOf (fX1_placeable β t7.2.1)), sE t7.2.2 2 ((fX1_placeable β t7.2.1).toNatClampNeg) ((fX1_countedPoints β ((fX1_placeable β t7.2.1).toNatClampNeg)) + (fX1_bestNeeded t7.2.2 β ((fX1_placeable β t7.2.1).toNatClampNeg)))) = fX1_mostPointsByOrder γ β := by
            rw [← hq_4, fX1_mostPointsByOrder_R7]; rw [if_neg c_6, if_neg c_8]
          exact g_sub [4, 5, 2, 1, 0] rfl (ih_3 (i7 + 1) ((if t7.1 < ((sE t7.2.2 2 ((fX1_placeable β t7.2.1).toNatClampNeg) ((fX1_countedPoints β ((fX1_placeable β t7.2.1).toNatClampNeg)) + (fX1_bestNeeded t7.2.2 β ((fX1_placeable β t7.2.1).toNatClampNeg)))).2 2 ((fX1_placeable β t7.2.1).toNatClampNeg)) then ((sE t7.2.2 2 ((fX1_placeable β t7.2.1).toNatClampNeg) ((fX1_countedPoints β ((fX1_placeable β t7.2.1).toNatClampNeg)) + (fX1_bestNeeded t7.2.2 β ((fX1_placeable β t7.2.1).toNatClampNeg)))).2 2 ((fX1_placeable β t7.2.1).toNatClampNeg)) else t7.1), t7.2.1 ||| (fX6_setOf (fX1_placeable β t7.2.1)), sE t7.2.2 2 ((fX1_placeable β t7.2.1).toNatClampNeg) ((fX1_countedPoints β ((fX1_placeable β t7.2.1).toNatClampNeg)) + (fX1_bestNeeded t7.2.2 β ((fX1_placeable β t7.2.1).toNatClampNeg)))) (by omega) (by omega) e_9)
        · skip
          refine g_iload_n C dX1_mostPointsByOrder_29 rfl 3 rfl ?_
          have e_10 : fX1_mostPointsByOrder γ β = (t7.1, t7.2.2) := by rw [← hq_4, fX1_mostPointsByOrder_R7]; rw [if_neg c_6, if_pos c_8]
          exact g_iret C hE (by rw [e_10]) (by rw [e_10]) dX1_mostPointsByOrder_30
  refine g_sub [3, 4, 2, 1, 0] (lv1 := [(0, .ref (ac 0)), (1, .ref (ad 0)), (2, .int 0), (3, .int 0), (4, .int 0)]) rfl ?_
  have e_11 : fX1_mostPointsByOrder_R7 γ β ((cnt β) + 1) 0 (0, 0, γ) = fX1_mostPointsByOrder γ β := by
    rw [fX1_mostPointsByOrder]
  exact hL_2 ((cnt β) + 1) 0 (0, 0, γ) (by omega) (by omega) e_11
def fX1_tryFrom_z (γ : BS) (β : BS) (t : Nat) : Int32 × BS :=
  if (γ.2 1 t) = (-1) then (if (β.1 0) ≤ 0 then ((sE γ 1 t ((fX1_countedPoints β t) + 0)).2 1 t, sE γ 1 t ((fX1_countedPoints β t) + 0)) else ((sE γ 1 t ((fX1_countedPoints β t) + 0)).2 1 t, sE γ 1 t ((fX1_countedPoints β t) + 0))) else (γ.2 1 t, γ)
theorem caX1_tryFrom : gCalS yX1_tryFrom cX1_tryFrom 6 (some .int) 4 := ⟨⟨q4_32, q1_3, by decide +kernel⟩, q4_31⟩
set_option maxHeartbeats 4000000 in
set_option maxRecDepth 100000 in
theorem kX1_tryFrom_z (l : Launch) (E : gE) (ac : Nat → Nat) (γ : BS) (ad : Nat → Nat) (β : BS) (hv : vB β) (f lo : Nat) (hf : 3 ≤ f) (hlo : 64 ≤ lo) (t : Nat) (ht : t < 20) : MC l E yX1_tryFrom cX1_tryFrom 6 (some .int) f lo [.ref (ad 0), .int (nI t), .ref (ac 2), .int (nI 20)] [wC E ac γ, wB E ad β] (some (.int (fX1_tryFrom_z γ β t).1)) [wC E ac ((fX1_tryFrom_z γ β t).2), wB E ad β] := by
  have hv1 : cnt β ≤ 20 := hv.1
  refine mc_of (by decide +kernel) (Nat.le_of_ble_eq_true rfl) (lv := [(0, .ref (ad 0)), (1, .int (nI t)), (2, .ref (ac 2)), (3, .int (nI 20))]) rfl (fun X C hE => ?_)
  refine g_aload_n C dX1_tryFrom_0 rfl 2 rfl ?_
  refine g_iload_n C dX1_tryFrom_1 rfl 1 rfl ?_
  refine g_ialdn C 0 2 t rfl rfl rfl (by omega) (by decide) dX1_tryFrom_2 ?_
  refine g_iconst C (v := -1) dX1_tryFrom_3 (by decide) ?_
  refine g_icmp_eq C 11 dX1_tryFrom_4 (by decide) (fun c_1 => ?_) (fun c_1 => ?_)
  · skip
    refine g_iconst C (v := 0) dX1_tryFrom_11 (by decide) ?_
    refine g_istore C (lv1 := [(4, .int 0), (0, .ref (ad 0)), (1, .int (nI t)), (2, .ref (ac 2)), (3, .int (nI 20))]) dX1_tryFrom_12 (by decide) rfl ?_
    refine g_iconst C (v := 0) dX1_tryFrom_14 (by decide) ?_
    refine g_istore C (lv1 := [(5, .int 0), (4, .int 0), (0, .ref (ad 0)), (1, .int (nI t)), (2, .ref (ac 2)), (3, .int (nI 20))]) dX1_tryFrom_15 (by decide) rfl ?_
    refine g_iload C dX1_tryFrom_17 0 rfl ?_
    refine g_aload_n C dX1_tryFrom_19 rfl 2 rfl ?_
    refine g_getf C (T := TX0) (N := 17) 1 0 rfl rfl rfl inX0 0 (by decide) q1_30 rfl dX1_tryFrom_20 ?_
    refine g_icmp_ge C 65 dX1_tryFrom_23 (by decide) (fun c_2 => ?_) (fun c_2 => ?_)
    · skip
      refine g_aload_n C dX1_tryFrom_65 rfl 4 rfl ?_
      refine g_iload_n C dX1_tryFrom_66 rfl 3 rfl ?_
      refine g_aload_n C dX1_tryFrom_67 rfl 2 rfl ?_
      refine g_iload_n C dX1_tryFrom_68 rfl 3 rfl ?_
      refine g_callS C (cs1 := [wC E ac γ, wB E ad β]) (st1 := [.int (fX1_countedPoints β t), .int (nI t), .ref (ac 2)]) [.ref (ad 0), .int (nI t)] [1] (kX1_countedPoints l E ad β hv t (by omega)) caX1_countedPoints q2_177 rfl ⟨by show _ + 1 ≤ f; omega, by show _ ≤ lo; omega⟩ ⟨Nat.zero_le _, Nat.zero_le _⟩ (by decide) rfl rfl rfl rfl (Nat.le_of_ble_eq_true rfl) dX1_tryFrom_69 rfl ?_
      refine g_iload C dX1_tryFrom_72 1 rfl ?_
      refine g_iadd C dX1_tryFrom_74 ?_
      refine g_iastn C (w1 := wC E ac (sE γ 1 t ((fX1_countedPoints β t) + 0))) (cs1 := [wC E ac (sE γ 1 t ((fX1_countedPoints β t) + 0)), wB E ad β]) 0 2 t rfl rfl rfl (by omega) (by decide) rfl rfl dX1_tryFrom_75 ?_
      refine g_aload_n C dX1_tryFrom_76 rfl 4 rfl ?_
      refine g_iload_n C dX1_tryFrom_77 rfl 3 rfl ?_
      refine g_ialdn C 0 2 t rfl rfl rfl (by omega) (by decide) dX1_tryFrom_78 ?_
      have e_3 : fX1_tryFrom_z γ β t = ((sE γ 1 t ((fX1_countedPoints β t) + 0)).2 1 t, sE γ 1 t ((fX1_countedPoints β t) + 0)) := by rw [fX1_tryFrom_z]; rw [if_pos c_1, if_pos c_2]
      exact g_iret C hE (by rw [e_3]) (by rw [e_3]) dX1_tryFrom_79
    · skip
      refine g_iload_n C dX1_tryFrom_26 rfl 5 rfl ?_
      refine g_bipush C (v := 20) dX1_tryFrom_27 (by decide) ?_
      refine g_icmp_ge C 65 dX1_tryFrom_29 (by decide) (fun c_4 => ?_) (fun c_4 => ?_)
      · skip
        refine g_aload_n C dX1_tryFrom_65 rfl 4 rfl ?_
        refine g_iload_n C dX1_tryFrom_66 rfl 3 rfl ?_
        refine g_aload_n C dX1_tryFrom_67 rfl 2 rfl ?_
        refine g_iload_n C dX1_tryFrom_68 rfl 3 rfl ?_
        refine g_callS C (cs1 := [wC E ac γ, wB E ad β]) (st1 := [.int (fX1_countedPoints β t), .int (nI t), .ref (ac 2)]) [.ref (ad 0), .int (nI t)] [1] (kX1_countedPoints l E ad β hv t (by omega)) caX1_countedPoints q2_177 rfl ⟨by show _ + 1 ≤ f; omega, by show _ ≤ lo; omega⟩ ⟨Nat.zero_le _, Nat.zero_le _⟩ (by decide) rfl rfl rfl rfl (Nat.le_of_ble_eq_true rfl) dX1_tryFrom_69 rfl ?_
        refine g_iload C dX1_tryFrom_72 1 rfl ?_
        refine g_iadd C dX1_tryFrom_74 ?_
        refine g_iastn C (w1 := wC E ac (sE γ 1 t ((fX1_countedPoints β t) + 0))) (cs1 := [wC E ac (sE γ 1 t ((fX1_countedPoints β t) + 0)), wB E ad β]) 0 2 t rfl rfl rfl (by omega) (by decide) rfl rfl dX1_tryFrom_75 ?_
        refine g_aload_n C dX1_tryFrom_76 rfl 4 rfl ?_
        refine g_iload_n C dX1_tryFrom_77 rfl 3 rfl ?_
        refine g_ialdn C 0 2 t rfl rfl rfl (by omega) (by decide) dX1_tryFrom_78 ?_
        have e_5 : fX1_tryFrom_z γ β t = ((sE γ 1 t ((fX1_countedPoints β t) + 0)).2 1 t, sE γ 1 t ((fX1_countedPoints β t) + 0)) := by rw [fX1_tryFrom_z]; rw [if_pos c_1, if_neg c_2]
        exact g_iret C hE (by rw [e_5]) (by rw [e_5]) dX1_tryFrom_79
      · exact absurd (Int32.le_refl _) c_4
  · skip
    refine g_aload_n C dX1_tryFrom_7 rfl 2 rfl ?_
    refine g_iload_n C dX1_tryFrom_8 rfl 1 rfl ?_
    refine g_ialdn C 0 2 t rfl rfl rfl (by omega) (by decide) dX1_tryFrom_9 ?_
    have e_6 : fX1_tryFrom_z γ β t = (γ.2 1 t, γ) := by rw [fX1_tryFrom_z]; rw [if_neg c_1]
    exact g_iret C hE (by rw [e_6]) (by rw [e_6]) dX1_tryFrom_10
-- one deeper
def fX1_tryFrom_s_L17 (rec : BS → Nat → Int32 × BS) (γ : BS) (β : BS) (t : Nat) (i17 : Nat) (t17 : Int32 × BS) : Int32 × BS :=
  if (fX0_needsDirectly β t (nI i17)) = true then ((if (t17.1) < ((rec (t17.2) i17).1) then ((rec (t17.2) i17).1) else (t17.1)), (rec (t17.2) i17).2) else (t17.1, t17.2)
def fX1_tryFrom_s (rec : BS → Nat → Int32 × BS) (γ : BS) (β : BS) (t : Nat) : Int32 × BS :=
  if (γ.2 1 t) = (-1) then ((sE ((lpF (fX1_tryFrom_s_L17 rec γ β t) (0, γ) (cnt β)).2) 1 t ((fX1_countedPoints β t) + ((lpF (fX1_tryFrom_s_L17 rec γ β t) (0, γ) (cnt β)).1))).2 1 t, sE ((lpF (fX1_tryFrom_s_L17 rec γ β t) (0, γ) (cnt β)).2) 1 t ((fX1_countedPoints β t) + ((lpF (fX1_tryFrom_s_L17 rec γ β t) (0, γ) (cnt β)).1))) else (γ.2 1 t, γ)
set_option maxHeartbeats 4000000 in
set_option maxRecDepth 100000 in
theorem kX1_tryFrom_s (l : Launch) (E : gE) (ac : Nat → Nat) (γ : BS) (ad : Nat → Nat) (β : BS) (hv : vB β) (rec : BS → Nat → Int32 × BS) (f lo : Nat) (hf : 3 ≤ f) (hlo : 64 ≤ lo) (d : Nat) (hd : d < 20) (ih : ∀ (γ : BS) (u : Nat), u < 20 → MC l E yX1_tryFrom cX1_tryFrom 6 (some .int) f lo [.ref (ad 0), .int (nI u), .ref (ac 2), .int (nI (d + 1))] [wC E ac γ, wB E ad β] (some (.int (rec γ u).1)) [wC E ac (rec γ u).2, wB E ad β]) (t : Nat) (ht : t < 20) : MC l E yX1_tryFrom cX1_tryFrom 6 (some .int) (f + 1) (lo + 25) [.ref (ad 0), .int (nI t), .ref (ac 2), .int (nI d)] [wC E ac γ, wB E ad β] (some (.int (fX1_tryFrom_s rec γ β t).1)) [wC E ac ((fX1_tryFrom_s rec γ β t).2), wB E ad β] := by
  have hv1 : cnt β ≤ 20 := hv.1
  refine mc_of (by decide +kernel) (Nat.le_of_ble_eq_true rfl) (lv := [(0, .ref (ad 0)), (1, .int (nI t)), (2, .ref (ac 2)), (3, .int (nI d))]) rfl (fun X C hE => ?_)
  refine g_aload_n C dX1_tryFrom_0 rfl 2 rfl ?_
  refine g_iload_n C dX1_tryFrom_1 rfl 1 rfl ?_
  refine g_ialdn C 0 2 t rfl rfl rfl (by omega) (by decide) dX1_tryFrom_2 ?_
  refine g_iconst C (v := -1) dX1_tryFrom_3 (by decide) ?_
  refine g_icmp_eq C 11 dX1_tryFrom_4 (by decide) (fun c_1 => ?_) (fun c_1 => ?_)
  · skip
    refine g_iconst C (v := 0) dX1_tryFrom_11 (by decide) ?_
    refine g_istore C (lv1 := [(4, .int 0), (0, .ref (ad 0)), (1, .int (nI t)), (2, .ref (ac 2)), (3, .int (nI d))]) dX1_tryFrom_12 (by decide) rfl ?_
    refine g_iconst C (v := 0) dX1_tryFrom_14 (by decide) ?_
    refine g_istore C (lv1 := [(5, .int 0), (4, .int 0), (0, .ref (ad 0)), (1, .int (nI t)), (2, .ref (ac 2)), (3, .int (nI d))]) dX1_tryFrom_15 (by decide) rfl ?_
    have hL_4 : ∀ d_2 i17 : Nat, i17 + d_2 = (cnt β) → G X 0 0 [wC E ac ((lpF (fX1_tryFrom_s_L17 rec γ β t) (0, γ) i17).2), wB E ad β] [(0, .ref (ad 0)), (1, .int (nI t)), (2, .ref (ac 2)), (3, .int (nI d)), (4, .int ((lpF (fX1_tryFrom_s_L17 rec γ β t) (0, γ) i17).1)), (5, .int (nI i17))] 17 [] := by
      intro d_2
      induction d_2 with
      | zero =>
        intro i17 hi_3
        obtain rfl : i17 = (cnt β) := by omega
        refine g_iload C dX1_tryFrom_17 5 rfl ?_
        refine g_aload_n C dX1_tryFrom_19 rfl 0 rfl ?_
        refine g_getf C (T := TX0) (N := 17) 1 0 rfl rfl rfl inX0 0 (by decide) q1_30 rfl dX1_tryFrom_20 ?_
        refine g_icmp_ge C 65 dX1_tryFrom_23 (by decide) (fun c_6 => ?_) (fun c_6 => ?_)
        · skip
          refine g_aload_n C dX1_tryFrom_65 rfl 2 rfl ?_
          refine g_iload_n C dX1_tryFrom_66 rfl 1 rfl ?_
          refine g_aload_n C dX1_tryFrom_67 rfl 0 rfl ?_
          refine g_iload_n C dX1_tryFrom_68 rfl 1 rfl ?_
          refine g_callS C (cs1 := [wC E ac ((lpF (fX1_tryFrom_s_L17 rec γ β t) (0, γ) (cnt β)).2), wB E ad β]) (st1 := [.int (fX1_countedPoints β t), .int (nI t), .ref (ac 2)]) [.ref (ad 0), .int (nI t)] [1] (kX1_countedPoints l E ad β hv t (by omega)) caX1_countedPoints q2_177 rfl ⟨by show _ + 1 ≤ f + 1; omega, by show _ ≤ lo + 25; omega⟩ ⟨Nat.zero_le _, Nat.zero_le _⟩ (by decide) rfl rfl rfl rfl (Nat.le_of_ble_eq_true rfl) dX1_tryFrom_69 rfl ?_
          refine g_iload C dX1_tryFrom_72 4 rfl ?_
          refine g_iadd C dX1_tryFrom_74 ?_
          refine g_iastn C (w1 := wC E ac (sE ((lpF (fX1_tryFrom_s_L17 rec γ β t) (0, γ) (cnt β)).2) 1 t ((fX1_countedPoints β t) + ((lpF (fX1_tryFrom_s_L17 rec γ β t) (0, γ) (cnt β)).1)))) (cs1 := [wC E ac (sE ((lpF (fX1_tryFrom_s_L17 rec γ β t) (0, γ) (cnt β)).2) 1 t ((fX1_countedPoints β t) + ((lpF (fX1_tryFrom_s_L17 rec γ β t) (0, γ) (cnt β)).1))), wB E ad β]) 0 2 t rfl rfl rfl (by omega) (by decide) rfl rfl dX1_tryFrom_75 ?_
          refine g_aload_n C dX1_tryFrom_76 rfl 2 rfl ?_
          refine g_iload_n C dX1_tryFrom_77 rfl 1 rfl ?_
          refine g_ialdn C 0 2 t rfl rfl rfl (by omega) (by decide) dX1_tryFrom_78 ?_
          have e_7 : fX1_tryFrom_s rec γ β t = ((sE ((lpF (fX1_tryFrom_s_L17 rec γ β t) (0, γ) (cnt β)).2) 1 t ((fX1_countedPoints β t) + ((lpF (fX1_tryFrom_s_L17 rec γ β t) (0, γ) (cnt β)).1))).2 1 t, sE ((lpF (fX1_tryFrom_s_L17 rec γ β t) (0, γ) (cnt β)).2) 1 t ((fX1_countedPoints β t) + ((lpF (fX1_tryFrom_s_L17 rec γ β t) (0, γ) (cnt β)).1))) := by rw [fX1_tryFrom_s]; rw [if_pos c_1]
          exact g_iret C hE (by rw [e_7]) (by rw [e_7]) dX1_tryFrom_79
        · exact absurd (lc_le rfl hv.2.1 (by omega) (by omega)) c_6
      | succ d_2 ih_5 =>
        intro i17 hi_3
        refine g_iload C dX1_tryFrom_17 5 rfl ?_
        refine g_aload_n C dX1_tryFrom_19 rfl 0 rfl ?_
        refine g_getf C (T := TX0) (N := 17) 1 0 rfl rfl rfl inX0 0 (by decide) q1_30 rfl dX1_tryFrom_20 ?_
        refine g_icmp_ge C 65 dX1_tryFrom_23 (by decide) (fun c_8 => ?_) (fun c_8 => ?_)
        · exact absurd c_8 (lc_nle rfl hv.2.1 (by omega) (by omega))
        · skip
          refine g_iload_n C dX1_tryFrom_26 rfl 3 rfl ?_
          refine g_bipush C (v := 20) dX1_tryFrom_27 (by decide) ?_
          refine g_icmp_ge C 65 dX1_tryFrom_29 (by decide) (fun c_9 => ?_) (fun c_9 => ?_)
          · exact absurd c_9 (lc_nle rfl nI_l20 hd (by omega))
          · skip
            refine g_aload_n C dX1_tryFrom_32 rfl 0 rfl ?_
            refine g_iload_n C dX1_tryFrom_33 rfl 1 rfl ?_
            refine g_iload C dX1_tryFrom_34 5 rfl ?_
            refine g_callV C (cs1 := [wC E ac ((lpF (fX1_tryFrom_s_L17 rec γ β t) (0, γ) i17).2), wB E ad β]) (st1 := [.int (b2i (fX0_needsDirectly β t (nI i17)))]) [.int (nI t), .int (nI i17)] [1] (kX0_needsDirectly l E ad β t (by omega) (nI i17)) caX0_needsDirectly q2_185 rfl ⟨by show _ + 1 ≤ f + 1; omega, by show _ ≤ lo + 25; omega⟩ ⟨Nat.zero_le _, Nat.zero_le _⟩ 1 0 rfl rfl rfl rfl (by decide) rfl rfl rfl rfl (Nat.le_of_ble_eq_true rfl) dX1_tryFrom_36 rfl ?_
            refine g_ifB_eq C 59 dX1_tryFrom_39 (by decide) (fun c_10 => ?_) (fun c_10 => ?_)
            · skip
              refine g_iinc C (v := nI (i17 + 1)) (lv1 := [(5, .int (nI (i17 + 1))), (0, .ref (ad 0)), (1, .int (nI t)), (2, .ref (ac 2)), (3, .int (nI d)), (4, .int ((lpF (fX1_tryFrom_s_L17 rec γ β t) (0, γ) i17).1))]) dX1_tryFrom_59 5 rfl (nI_1 i17) (by decide) rfl ?_
              refine g_goto C 17 dX1_tryFrom_62 (by decide) ?_
              have e_11 : (lpF (fX1_tryFrom_s_L17 rec γ β t) (0, γ) (i17 + 1)) = ((lpF (fX1_tryFrom_s_L17 rec γ β t) (0, γ) i17).1, (lpF (fX1_tryFrom_s_L17 rec γ β t) (0, γ) i17).2) := by
                rw [lpF_1, fX1_tryFrom_s_L17]; rw [if_neg (ne_true_of_eq_false c_10)]
              have h_12 := ih_5 (i17 + 1) (by omega)
              rw [e_11] at h_12
              exact g_sub [1, 2, 3, 4, 5, 0] rfl h_12
            · skip
              refine g_iload C dX1_tryFrom_42 4 rfl ?_
              refine g_aload_n C dX1_tryFrom_44 rfl 0 rfl ?_
              refine g_iload C dX1_tryFrom_45 5 rfl ?_
              refine g_aload_n C dX1_tryFrom_47 rfl 2 rfl ?_
              refine g_iload_n C dX1_tryFrom_48 rfl 3 rfl ?_
              refine g_iconst C (v := 1) dX1_tryFrom_49 (by decide) ?_
              refine g_iadd C dX1_tryFrom_50 ?_
              refine g_st (st1 := [.int (nI (d + 1)), .ref (ac 2), .int (nI i17), .ref (ad 0), .int ((lpF (fX1_tryFrom_s_L17 rec γ β t) (0, γ) i17).1)]) (by rw [← nI_1 d]) ?_
              refine g_callS C (cs1 := [wC E ac ((rec ((lpF (fX1_tryFrom_s_L17 rec γ β t) (0, γ) i17).2) i17).2), wB E ad β]) (st1 := [.int ((rec ((lpF (fX1_tryFrom_s_L17 rec γ β t) (0, γ) i17).2) i17).1), .int ((lpF (fX1_tryFrom_s_L17 rec γ β t) (0, γ) i17).1)]) [.ref (ad 0), .int (nI i17), .ref (ac 2), .int (nI (d + 1))] [0, 1] (ih ((lpF (fX1_tryFrom_s_L17 rec γ β t) (0, γ) i17).2) i17 (by omega)) caX1_tryFrom q4_30 rfl ⟨by show _ + 1 ≤ f + 1; omega, by show _ ≤ lo + 25; omega⟩ ⟨Nat.zero_le _, Nat.zero_le _⟩ (by decide) rfl rfl rfl rfl (Nat.le_of_ble_eq_true rfl) dX1_tryFrom_51 rfl ?_
              refine g_mmax C q2_189 q2_190 q1_11 q2_191 (by show 1 ≤ f + 1; omega) (by show 0 + 13 ≤ lo + 25; omega) ⟨Nat.zero_le _, Nat.zero_le _⟩ dX1_tryFrom_54 ?_
              refine g_istore C (lv1 := [(4, .int (if ((lpF (fX1_tryFrom_s_L17 rec γ β t) (0, γ) i17).1) < ((rec ((lpF (fX1_tryFrom_s_L17 rec γ β t) (0, γ) i17).2) i17).1) then ((rec ((lpF (fX1_tryFrom_s_L17 rec γ β t) (0, γ) i17).2) i17).1) else ((lpF (fX1_tryFrom_s_L17 rec γ β t) (0, γ) i17).1))), (0, .ref (ad 0)), (1, .int (nI t)), (2, .ref (ac 2)), (3, .int (nI d)), (5, .int (nI i17))]) dX1_tryFrom_57 (by decide) rfl ?_
              refine g_iinc C (v := nI (i17 + 1)) (lv1 := [(5, .int (nI (i17 + 1))), (4, .int (if ((lpF (fX1_tryFrom_s_L17 rec γ β t) (0, γ) i17).1) < ((rec ((lpF (fX1_tryFrom_s_L17 rec γ β t) (0, γ) i17).2) i17).1) then ((rec ((lpF (fX1_tryFrom_s_L17 rec γ β t) (0, γ) i17).2) i17).1) else ((lpF (fX1_tryFrom_s_L17 rec γ β t) (0, γ) i17).1))), (0, .ref (ad 0)), (1, .int (nI t)), (2, .ref (ac 2)), (3, .int (nI d))]) dX1_tryFrom_59 5 rfl (nI_1 i17) (by decide) rfl ?_
              refine g_goto C 17 dX1_tryFrom_62 (by decide) ?_
              have e_13 : (lpF (fX1_tryFrom_s_L17 rec γ β t) (0, γ) (i17 + 1)) = ((if ((lpF (fX1_tryFrom_s_L17 rec γ β t) (0, γ) i17).1) < ((rec ((lpF (fX1_tryFrom_s_L17 rec γ β t) (0, γ) i17).2) i17).1) then ((rec ((lpF (fX1_tryFrom_s_L17 rec γ β t) (0, γ) i17).2) i17).1) else ((lpF (fX1_tryFrom_s_L17 rec γ β t) (0, γ) i17).1)), (rec ((lpF (fX1_tryFrom_s_L17 rec γ β t) (0, γ) i17).2) i17).2) := by
                rw [lpF_1, fX1_tryFrom_s_L17]; rw [if_pos c_10]
              have h_14 := ih_5 (i17 + 1) (by omega)
              rw [e_13] at h_14
              exact g_sub [2, 3, 4, 5, 1, 0] rfl h_14
    refine g_sub [2, 3, 4, 5, 1, 0] (lv1 := [(0, .ref (ad 0)), (1, .int (nI t)), (2, .ref (ac 2)), (3, .int (nI d)), (4, .int 0), (5, .int 0)]) rfl ?_
    exact hL_4 (cnt β) 0 (by omega)
  · skip
    refine g_aload_n C dX1_tryFrom_7 rfl 2 rfl ?_
    refine g_iload_n C dX1_tryFrom_8 rfl 1 rfl ?_
    refine g_ialdn C 0 2 t rfl rfl rfl (by omega) (by decide) dX1_tryFrom_9 ?_
    have e_15 : fX1_tryFrom_s rec γ β t = (γ.2 1 t, γ) := by rw [fX1_tryFrom_s]; rw [if_neg c_1]
    exact g_iret C hE (by rw [e_15]) (by rw [e_15]) dX1_tryFrom_10
/-- tryFrom by what is left of the depth -/
def fX1_tryFrom : Nat → BS → BS → Nat → Int32 × BS
  | 0, γ, β, t => fX1_tryFrom_z γ β t
  | k + 1, γ, β, t => fX1_tryFrom_s (fun γ' u => fX1_tryFrom k γ' β u) γ β t
theorem kX1_tryFrom (l : Launch) (E : gE) (ac : Nat → Nat) (ad : Nat → Nat) (β : BS) (hv : vB β) : ∀ k d : Nat, d + k = 20 → ∀ (γ : BS) (t : Nat), t < 20 → MC l E yX1_tryFrom cX1_tryFrom 6 (some .int) (3 + k) (64 + 25 * k) [.ref (ad 0), .int (nI t), .ref (ac 2), .int (nI d)] [wC E ac γ, wB E ad β] (some (.int (fX1_tryFrom k γ β t).1)) [wC E ac (fX1_tryFrom k γ β t).2, wB E ad β] := by
  intro k
  induction k with
  | zero =>
    intro d hd γ t ht
    obtain rfl : d = 20 := by omega
    exact kX1_tryFrom_z l E ac γ ad β hv 3 64 (by omega) (by omega) t ht
  | succ k ih =>
    intro d hd γ t ht
    have h := kX1_tryFrom_s l E ac γ ad β hv (fun γ' u => fX1_tryFrom k γ' β u) (3 + k) (64 + 25 * k) (by omega) (by omega) d (by omega) (fun γ' u hu => ih (d + 1) (by omega) γ' u hu) t ht
    have e1 : 3 + k + 1 = 3 + (k + 1) := by omega
    have e2 : 64 + 25 * k + 25 = 64 + 25 * (k + 1) := by omega
    rw [e1, e2] at h
    exact h
def fX1_mostPointsByTrying_L27 (γ : BS) (β : BS) (i27 : Nat) (t27 : Int32 × BS) : Int32 × BS :=
  ((if (t27.1) < ((fX1_tryFrom 19 (t27.2) β i27).1) then ((fX1_tryFrom 19 (t27.2) β i27).1) else (t27.1)), (fX1_tryFrom 19 (t27.2) β i27).2)
def fX1_mostPointsByTrying_L2 (γ : BS) (β : BS) (i2 : Nat) (t2 : BS) : BS :=
  sE t2 1 i2 (-1)
def fX1_mostPointsByTrying (γ : BS) (β : BS) : Int32 × BS :=
  ((lpF (fX1_mostPointsByTrying_L27 γ β) (0, (lpF (fX1_mostPointsByTrying_L2 γ β) γ (cnt β))) (cnt β)).1, (lpF (fX1_mostPointsByTrying_L27 γ β) (0, (lpF (fX1_mostPointsByTrying_L2 γ β) γ (cnt β))) (cnt β)).2)
theorem caX1_mostPointsByTrying : gCalV yX1_mostPointsByTrying cX1_mostPointsByTrying 4 (some .int) 1 := ⟨⟨q4_29, q1_3, by decide +kernel⟩, q4_27, q4_28⟩
set_option maxHeartbeats 4000000 in
set_option maxRecDepth 100000 in
theorem kX1_mostPointsByTrying (l : Launch) (E : gE) (ac : Nat → Nat) (γ : BS) (ad : Nat → Nat) (β : BS) (hv : vB β)   : MC l E yX1_mostPointsByTrying cX1_mostPointsByTrying 4 (some .int) 23 564 [.ref (ac 0), .ref (ad 0)] [wC E ac γ, wB E ad β] (some (.int (fX1_mostPointsByTrying γ β).1)) [wC E ac ((fX1_mostPointsByTrying γ β).2), wB E ad β] := by
  have hv1 : cnt β ≤ 20 := hv.1
  refine mc_of (by decide +kernel) (Nat.le_of_ble_eq_true rfl) (lv := [(0, .ref (ac 0)), (1, .ref (ad 0))]) rfl (fun X C hE => ?_)
  refine g_iconst C (v := 0) dX1_mostPointsByTrying_0 (by decide) ?_
  refine g_istore_n C (lv1 := [(2, .int 0), (0, .ref (ac 0)), (1, .ref (ad 0))]) dX1_mostPointsByTrying_1 rfl (by decide) rfl ?_
  have hL_3 : ∀ d_1 i2 : Nat, i2 + d_1 = (cnt β) → G X 0 0 [wC E ac (lpF (fX1_mostPointsByTrying_L2 γ β) γ i2), wB E ad β] [(0, .ref (ac 0)), (1, .ref (ad 0)), (2, .int (nI i2))] 2 [] := by
    intro d_1
    induction d_1 with
    | zero =>
      intro i2 hi_2
      obtain rfl : i2 = (cnt β) := by omega
      refine g_iload_n C dX1_mostPointsByTrying_2 rfl 2 rfl ?_
      refine g_aload_n C dX1_mostPointsByTrying_3 rfl 1 rfl ?_
      refine g_getf C (T := TX0) (N := 17) 1 0 rfl rfl rfl inX0 0 (by decide) q1_30 rfl dX1_mostPointsByTrying_4 ?_
      refine g_icmp_ge C 23 dX1_mostPointsByTrying_7 (by decide) (fun c_5 => ?_) (fun c_5 => ?_)
      · skip
        refine g_iconst C (v := 0) dX1_mostPointsByTrying_23 (by decide) ?_
        refine g_istore_n C (lv1 := [(2, .int 0), (0, .ref (ac 0)), (1, .ref (ad 0))]) dX1_mostPointsByTrying_24 rfl (by decide) rfl ?_
        refine g_iconst C (v := 0) dX1_mostPointsByTrying_25 (by decide) ?_
        refine g_istore_n C (lv1 := [(3, .int 0), (2, .int 0), (0, .ref (ac 0)), (1, .ref (ad 0))]) dX1_mostPointsByTrying_26 rfl (by decide) rfl ?_
        have hL_8 : ∀ d_6 i27 : Nat, i27 + d_6 = (cnt β) → G X 0 0 [wC E ac ((lpF (fX1_mostPointsByTrying_L27 γ β) (0, (lpF (fX1_mostPointsByTrying_L2 γ β) γ (cnt β))) i27).2), wB E ad β] [(0, .ref (ac 0)), (1, .ref (ad 0)), (2, .int ((lpF (fX1_mostPointsByTrying_L27 γ β) (0, (lpF (fX1_mostPointsByTrying_L2 γ β) γ (cnt β))) i27).1)), (3, .int (nI i27))] 27 [] := by
          intro d_6
          induction d_6 with
          | zero =>
            intro i27 hi_7
            obtain rfl : i27 = (cnt β) := by omega
            refine g_iload_n C dX1_mostPointsByTrying_27 rfl 3 rfl ?_
            refine g_aload_n C dX1_mostPointsByTrying_28 rfl 1 rfl ?_
            refine g_getf C (T := TX0) (N := 17) 1 0 rfl rfl rfl inX0 0 (by decide) q1_30 rfl dX1_mostPointsByTrying_29 ?_
            refine g_icmp_ge C 56 dX1_mostPointsByTrying_32 (by decide) (fun c_10 => ?_) (fun c_10 => ?_)
            · skip
              refine g_iload_n C dX1_mostPointsByTrying_56 rfl 2 rfl ?_
              have e_11 : fX1_mostPointsByTrying γ β = ((lpF (fX1_mostPointsByTrying_L27 γ β) (0, (lpF (fX1_mostPointsByTrying_L2 γ β) γ (cnt β))) (cnt β)).1, (lpF (fX1_mostPointsByTrying_L27 γ β) (0, (lpF (fX1_mostPointsByTrying_L2 γ β) γ (cnt β))) (cnt β)).2) := by rw [fX1_mostPointsByTrying]
              exact g_iret C hE (by rw [e_11]) (by rw [e_11]) dX1_mostPointsByTrying_57
            · exact absurd (lc_le rfl hv.2.1 (by omega) (by omega)) c_10
          | succ d_6 ih_9 =>
            intro i27 hi_7
            refine g_iload_n C dX1_mostPointsByTrying_27 rfl 3 rfl ?_
            refine g_aload_n C dX1_mostPointsByTrying_28 rfl 1 rfl ?_
            refine g_getf C (T := TX0) (N := 17) 1 0 rfl rfl rfl inX0 0 (by decide) q1_30 rfl dX1_mostPointsByTrying_29 ?_
            refine g_icmp_ge C 56 dX1_mostPointsByTrying_32 (by decide) (fun c_12 => ?_) (fun c_12 => ?_)
            · exact absurd c_12 (lc_nle rfl hv.2.1 (by omega) (by omega))
            · skip
              refine g_iload_n C dX1_mostPointsByTrying_35 rfl 2 rfl ?_
              refine g_aload_n C dX1_mostPointsByTrying_36 rfl 1 rfl ?_
              refine g_iload_n C dX1_mostPointsByTrying_37 rfl 3 rfl ?_
              refine g_aload_n C dX1_mostPointsByTrying_38 rfl 0 rfl ?_
              refine g_getf C (T := TX1) (N := 4) 0 0 rfl rfl rfl inX1 1 (by decide) q1_115 rfl dX1_mostPointsByTrying_39 ?_
              refine g_iconst C (v := 1) dX1_mostPointsByTrying_42 (by decide) ?_
              refine g_callS C (cs1 := [wC E ac ((fX1_tryFrom 19 ((lpF (fX1_mostPointsByTrying_L27 γ β) (0, (lpF (fX1_mostPointsByTrying_L2 γ β) γ (cnt β))) i27).2) β i27).2), wB E ad β]) (st1 := [.int ((fX1_tryFrom 19 ((lpF (fX1_mostPointsByTrying_L27 γ β) (0, (lpF (fX1_mostPointsByTrying_L2 γ β) γ (cnt β))) i27).2) β i27).1), .int ((lpF (fX1_mostPointsByTrying_L27 γ β) (0, (lpF (fX1_mostPointsByTrying_L2 γ β) γ (cnt β))) i27).1)]) [.ref (ad 0), .int (nI i27), .ref (ac 2), .int 1] [0, 1] (kX1_tryFrom l E ac ad β hv 19 1 (by omega) ((lpF (fX1_mostPointsByTrying_L27 γ β) (0, (lpF (fX1_mostPointsByTrying_L2 γ β) γ (cnt β))) i27).2) i27 (by omega)) caX1_tryFrom q4_30 rfl ⟨Nat.le_of_ble_eq_true rfl, Nat.le_of_ble_eq_true rfl⟩ ⟨Nat.zero_le _, Nat.zero_le _⟩ (by decide) rfl rfl rfl rfl (Nat.le_of_ble_eq_true rfl) dX1_mostPointsByTrying_43 rfl ?_
              refine g_mmax C q2_189 q2_190 q1_11 q2_191 (Nat.le_of_ble_eq_true rfl) (Nat.le_of_ble_eq_true rfl) ⟨Nat.zero_le _, Nat.zero_le _⟩ dX1_mostPointsByTrying_46 ?_
              refine g_istore_n C (lv1 := [(2, .int (if ((lpF (fX1_mostPointsByTrying_L27 γ β) (0, (lpF (fX1_mostPointsByTrying_L2 γ β) γ (cnt β))) i27).1) < ((fX1_tryFrom 19 ((lpF (fX1_mostPointsByTrying_L27 γ β) (0, (lpF (fX1_mostPointsByTrying_L2 γ β) γ (cnt β))) i27).2) β i27).1) then ((fX1_tryFrom 19 ((lpF (fX1_mostPointsByTrying_L27 γ β) (0, (lpF (fX1_mostPointsByTrying_L2 γ β) γ (cnt β))) i27).2) β i27).1) else ((lpF (fX1_mostPointsByTrying_L27 γ β) (0, (lpF (fX1_mostPointsByTrying_L2 γ β) γ (cnt β))) i27).1))), (0, .ref (ac 0)), (1, .ref (ad 0)), (3, .int (nI i27))]) dX1_mostPointsByTrying_49 rfl (by decide) rfl ?_
              refine g_iinc C (v := nI (i27 + 1)) (lv1 := [(3, .int (nI (i27 + 1))), (2, .int (if ((lpF (fX1_mostPointsByTrying_L27 γ β) (0, (lpF (fX1_mostPointsByTrying_L2 γ β) γ (cnt β))) i27).1) < ((fX1_tryFrom 19 ((lpF (fX1_mostPointsByTrying_L27 γ β) (0, (lpF (fX1_mostPointsByTrying_L2 γ β) γ (cnt β))) i27).2) β i27).1) then ((fX1_tryFrom 19 ((lpF (fX1_mostPointsByTrying_L27 γ β) (0, (lpF (fX1_mostPointsByTrying_L2 γ β) γ (cnt β))) i27).2) β i27).1) else ((lpF (fX1_mostPointsByTrying_L27 γ β) (0, (lpF (fX1_mostPointsByTrying_L2 γ β) γ (cnt β))) i27).1))), (0, .ref (ac 0)), (1, .ref (ad 0))]) dX1_mostPointsByTrying_50 3 rfl (nI_1 i27) (by decide) rfl ?_
              refine g_goto C 27 dX1_mostPointsByTrying_53 (by decide) ?_
              have e_13 : (lpF (fX1_mostPointsByTrying_L27 γ β) (0, (lpF (fX1_mostPointsByTrying_L2 γ β) γ (cnt β))) (i27 + 1)) = ((if ((lpF (fX1_mostPointsByTrying_L27 γ β) (0, (lpF (fX1_mostPointsByTrying_L2 γ β) γ (cnt β))) i27).1) < ((fX1_tryFrom 19 ((lpF (fX1_mostPointsByTrying_L27 γ β) (0, (lpF (fX1_mostPointsByTrying_L2 γ β) γ (cnt β))) i27).2) β i27).1) then ((fX1_tryFrom 19 ((lpF (fX1_mostPointsByTrying_L27 γ β) (0, (lpF (fX1_mostPointsByTrying_L2 γ β) γ (cnt β))) i27).2) β i27).1) else ((lpF (fX1_mostPointsByTrying_L27 γ β) (0, (lpF (fX1_mostPointsByTrying_L2 γ β) γ (cnt β))) i27).1)), (fX1_tryFrom 19 ((lpF (fX1_mostPointsByTrying_L27 γ β) (0, (lpF (fX1_mostPointsByTrying_L2 γ β) γ (cnt β))) i27).2) β i27).2) := by
                rw [lpF_1, fX1_mostPointsByTrying_L27]
              have h_14 := ih_9 (i27 + 1) (by omega)
              rw [e_13] at h_14
              exact g_sub [2, 3, 1, 0] rfl h_14
        refine g_sub [2, 3, 1, 0] (lv1 := [(0, .ref (ac 0)), (1, .ref (ad 0)), (2, .int 0), (3, .int 0)]) rfl ?_
        exact hL_8 (cnt β) 0 (by omega)
      · exact absurd (lc_le rfl hv.2.1 (by omega) (by omega)) c_5
    | succ d_1 ih_4 =>
      intro i2 hi_2
      refine g_iload_n C dX1_mostPointsByTrying_2 rfl 2 rfl ?_
      refine g_aload_n C dX1_mostPointsByTrying_3 rfl 1 rfl ?_
      refine g_getf C (T := TX0) (N := 17) 1 0 rfl rfl rfl inX0 0 (by decide) q1_30 rfl dX1_mostPointsByTrying_4 ?_
      refine g_icmp_ge C 23 dX1_mostPointsByTrying_7 (by decide) (fun c_15 => ?_) (fun c_15 => ?_)
      · exact absurd c_15 (lc_nle rfl hv.2.1 (by omega) (by omega))
      · skip
        refine g_aload_n C dX1_mostPointsByTrying_10 rfl 0 rfl ?_
        refine g_getf C (T := TX1) (N := 4) 0 0 rfl rfl rfl inX1 1 (by decide) q1_115 rfl dX1_mostPointsByTrying_11 ?_
        refine g_iload_n C dX1_mostPointsByTrying_14 rfl 2 rfl ?_
        refine g_iconst C (v := -1) dX1_mostPointsByTrying_15 (by decide) ?_
        refine g_iastn C (w1 := wC E ac (sE (lpF (fX1_mostPointsByTrying_L2 γ β) γ i2) 1 i2 (-1))) (cs1 := [wC E ac (sE (lpF (fX1_mostPointsByTrying_L2 γ β) γ i2) 1 i2 (-1)), wB E ad β]) 0 2 i2 rfl rfl rfl (by omega) (by decide) rfl rfl dX1_mostPointsByTrying_16 ?_
        refine g_iinc C (v := nI (i2 + 1)) (lv1 := [(2, .int (nI (i2 + 1))), (0, .ref (ac 0)), (1, .ref (ad 0))]) dX1_mostPointsByTrying_17 2 rfl (nI_1 i2) (by decide) rfl ?_
        refine g_goto C 2 dX1_mostPointsByTrying_20 (by decide) ?_
        have e_16 : (lpF (fX1_mostPointsByTrying_L2 γ β) γ (i2 + 1)) = sE (lpF (fX1_mostPointsByTrying_L2 γ β) γ i2) 1 i2 (-1) := by
          rw [lpF_1, fX1_mostPointsByTrying_L2]
        have h_17 := ih_4 (i2 + 1) (by omega)
        rw [e_16] at h_17
        exact g_sub [1, 2, 0] rfl h_17
  refine g_sub [1, 2, 0] (lv1 := [(0, .ref (ac 0)), (1, .ref (ad 0)), (2, .int 0)]) rfl ?_
  exact hL_3 (cnt β) 0 (by omega)
