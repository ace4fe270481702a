def fX2_openIfPossible (β : BS) (a : Int32) (b : Int32) : Bool × BS :=
  if (fX0_hasRoom β) = true then ((fX0_hasRoom β), (fX0_addTicket β a b).2) else ((fX0_hasRoom β), β)
theorem caX2_openIfPossible : gCalS yX2_openIfPossible cX2_openIfPossible 4 (some .boolean) 3 := ⟨⟨q4_229, q1_17, by decide +kernel⟩, q4_228⟩
set_option maxHeartbeats 4000000 in
set_option maxRecDepth 100000 in
theorem kX2_openIfPossible (l : Launch) (E : gE) (ad : Nat → Nat) (β : BS) (hv : vB β)  (a : Int32) (b : Int32) : MC l E yX2_openIfPossible cX2_openIfPossible 4 (some .boolean) 1 23 [.ref (ad 0), .int a, .int b] [wB E ad β] (some (.int (b2i (fX2_openIfPossible β a b).1))) [wB E ad ((fX2_openIfPossible β a b).2)] := by
  have hv1 : cnt β ≤ 20 := hv.1
  refine mc_of (by decide +kernel) (Nat.le_of_ble_eq_true rfl) (lv := [(0, .ref (ad 0)), (1, .int a), (2, .int b)]) rfl (fun X C hE => ?_)
  refine g_aload_n C dX2_openIfPossible_0 rfl 0 rfl ?_
  refine g_callV C (cs1 := [wB E ad β]) (st1 := [.int (b2i (fX0_hasRoom β))]) [] [0] (kX0_hasRoom l E ad β) caX0_hasRoom q4_230 rfl ⟨Nat.le_of_ble_eq_true rfl, Nat.le_of_ble_eq_true rfl⟩ ⟨Nat.zero_le _, Nat.zero_le _⟩ 0 0 rfl rfl rfl rfl (by decide) rfl rfl rfl rfl (Nat.le_of_ble_eq_true rfl) dX2_openIfPossible_1 rfl ?_
  refine g_istore_n C (lv1 := [(3, .int (b2i (fX0_hasRoom β))), (0, .ref (ad 0)), (1, .int a), (2, .int b)]) dX2_openIfPossible_4 rfl (by decide) rfl ?_
  refine g_iload_n C dX2_openIfPossible_5 rfl 0 rfl ?_
  refine g_ifB_eq C 16 dX2_openIfPossible_6 (by decide) (fun c_1 => ?_) (fun c_1 => ?_)
  · skip
    refine g_iload_n C dX2_openIfPossible_16 rfl 0 rfl ?_
    have e_2 : fX2_openIfPossible β a b = ((fX0_hasRoom β), β) := by rw [fX2_openIfPossible]; rw [if_neg (ne_true_of_eq_false c_1)]
    exact g_zret (b := (fX0_hasRoom β)) C hE (by rw [e_2]) rfl (by rw [e_2]) dX2_openIfPossible_17
  · skip
    have hr := hasRoom_lt hv c_1
    refine g_aload_n C dX2_openIfPossible_9 rfl 1 rfl ?_
    refine g_iload_n C dX2_openIfPossible_10 rfl 2 rfl ?_
    refine g_iload_n C dX2_openIfPossible_11 rfl 3 rfl ?_
    refine g_callV C (cs1 := [wB E ad ((fX0_addTicket β a b).2)]) (st1 := [.int ((fX0_addTicket β a b).1)]) [.int a, .int b] [0] (kX0_addTicket l E ad β hv a b hr) caX0_addTicket q4_231 rfl ⟨Nat.le_of_ble_eq_true rfl, Nat.le_of_ble_eq_true rfl⟩ ⟨Nat.zero_le _, Nat.zero_le _⟩ 0 0 rfl rfl rfl rfl (by decide) rfl rfl rfl rfl (Nat.le_of_ble_eq_true rfl) dX2_openIfPossible_12 rfl ?_
    refine g_pop C dX2_openIfPossible_15 rfl ?_
    refine g_iload_n C dX2_openIfPossible_16 rfl 0 rfl ?_
    have e_3 : fX2_openIfPossible β a b = ((fX0_hasRoom β), (fX0_addTicket β a b).2) := by rw [fX2_openIfPossible]; rw [if_pos c_1]
    exact g_zret (b := (fX0_hasRoom β)) C hE (by rw [e_3]) rfl (by rw [e_3]) dX2_openIfPossible_17
theorem vB_openIfPossible {β : BS} {a b : Int32} (hv : vB β) : vB (fX2_openIfPossible β a b).2 := by
  unfold fX2_openIfPossible
  (repeat' split) <;> (first | exact hv | exact vB_addTicket hv (hasRoom_lt hv (by assumption)))
def fX2_needIfPossible (β : BS) (a : Int32) (b : Int32) : Bool × BS :=
  if (fX0_hasTicket β a) = true then (if (fX0_hasTicket β b) = true then (if a = b then (false, β) else (if (fX0_canNeed β a.toNatClampNeg b.toNatClampNeg) = true then (true, (fX0_addNeed β a.toNatClampNeg b).2) else (false, β))) else (false, β)) else (false, β)
theorem caX2_needIfPossible : gCalS yX2_needIfPossible cX2_needIfPossible 4 (some .boolean) 3 := ⟨⟨q4_234, q1_17, by decide +kernel⟩, q4_233⟩
set_option maxHeartbeats 4000000 in
set_option maxRecDepth 100000 in
theorem kX2_needIfPossible (l : Launch) (E : gE) (ad : Nat → Nat) (β : BS) (hv : vB β)  (a : Int32) (b : Int32) : MC l E yX2_needIfPossible cX2_needIfPossible 4 (some .boolean) 4 90 [.ref (ad 0), .int a, .int b] [wB E ad β] (some (.int (b2i (fX2_needIfPossible β a b).1))) [wB E ad ((fX2_needIfPossible β a b).2)] := by
  have hv1 : cnt β ≤ 20 := hv.1
  refine mc_of (by decide +kernel) (Nat.le_of_ble_eq_true rfl) (lv := [(0, .ref (ad 0)), (1, .int a), (2, .int b)]) rfl (fun X C hE => ?_)
  refine g_aload_n C dX2_needIfPossible_0 rfl 0 rfl ?_
  refine g_iload_n C dX2_needIfPossible_1 rfl 1 rfl ?_
  refine g_callV C (cs1 := [wB E ad β]) (st1 := [.int (b2i (fX0_hasTicket β a))]) [.int a] [0] (kX0_hasTicket l E ad β a) caX0_hasTicket q4_235 rfl ⟨Nat.le_of_ble_eq_true rfl, Nat.le_of_ble_eq_true rfl⟩ ⟨Nat.zero_le _, Nat.zero_le _⟩ 0 0 rfl rfl rfl rfl (by decide) rfl rfl rfl rfl (Nat.le_of_ble_eq_true rfl) dX2_needIfPossible_2 rfl ?_
  refine g_ifB_eq C 34 dX2_needIfPossible_5 (by decide) (fun c_1 => ?_) (fun c_1 => ?_)
  · skip
    refine g_iconst C (v := 0) dX2_needIfPossible_34 (by decide) ?_
    refine g_istore_n C (lv1 := [(3, .int 0), (0, .ref (ad 0)), (1, .int a), (2, .int b)]) dX2_needIfPossible_35 rfl (by decide) rfl ?_
    refine g_iload_n C dX2_needIfPossible_36 rfl 0 rfl ?_
    refine g_if_eq C 47 dX2_needIfPossible_37 (by decide) (fun c_2 => ?_) (fun c_2 => ?_)
    · skip
      refine g_iload_n C dX2_needIfPossible_47 rfl 0 rfl ?_
      have e_3 : fX2_needIfPossible β a b = (false, β) := by rw [fX2_needIfPossible]; rw [if_neg (ne_true_of_eq_false c_1)]
      exact g_zret (b := false) C hE (by rw [e_3]) rfl (by rw [e_3]) dX2_needIfPossible_48
    · exact absurd (by decide) c_2
  · skip
    have ha := hasTicket_i hv c_1
    refine g_aload_n C dX2_needIfPossible_8 rfl 0 rfl ?_
    refine g_iload_n C dX2_needIfPossible_9 rfl 2 rfl ?_
    refine g_callV C (cs1 := [wB E ad β]) (st1 := [.int (b2i (fX0_hasTicket β b))]) [.int b] [0] (kX0_hasTicket l E ad β b) caX0_hasTicket q4_235 rfl ⟨Nat.le_of_ble_eq_true rfl, Nat.le_of_ble_eq_true rfl⟩ ⟨Nat.zero_le _, Nat.zero_le _⟩ 0 0 rfl rfl rfl rfl (by decide) rfl rfl rfl rfl (Nat.le_of_ble_eq_true rfl) dX2_needIfPossible_10 rfl ?_
    refine g_ifB_eq C 34 dX2_needIfPossible_13 (by decide) (fun c_4 => ?_) (fun c_4 => ?_)
    · skip
      refine g_iconst C (v := 0) dX2_needIfPossible_34 (by decide) ?_
      refine g_istore_n C (lv1 := [(3, .int 0), (0, .ref (ad 0)), (1, .int a), (2, .int b)]) dX2_needIfPossible_35 rfl (by decide) rfl ?_
      refine g_iload_n C dX2_needIfPossible_36 rfl 0 rfl ?_
      refine g_if_eq C 47 dX2_needIfPossible_37 (by decide) (fun c_5 => ?_) (fun c_5 => ?_)
      · skip
        refine g_iload_n C dX2_needIfPossible_47 rfl 0 rfl ?_
        have e_6 : fX2_needIfPossible β a b = (false, β) := by rw [fX2_needIfPossible]; rw [if_pos c_1, if_neg (ne_true_of_eq_false c_4)]
        exact g_zret (b := false) C hE (by rw [e_6]) rfl (by rw [e_6]) dX2_needIfPossible_48
      · exact absurd (by decide) c_5
    · skip
      have hb := hasTicket_i hv c_4
      refine g_iload_n C dX2_needIfPossible_16 rfl 1 rfl ?_
      refine g_iload_n C dX2_needIfPossible_17 rfl 2 rfl ?_
      refine g_icmp_eq C 34 dX2_needIfPossible_18 (by decide) (fun c_7 => ?_) (fun c_7 => ?_)
      · skip
        refine g_iconst C (v := 0) dX2_needIfPossible_34 (by decide) ?_
        refine g_istore_n C (lv1 := [(3, .int 0), (0, .ref (ad 0)), (1, .int a), (2, .int b)]) dX2_needIfPossible_35 rfl (by decide) rfl ?_
        refine g_iload_n C dX2_needIfPossible_36 rfl 0 rfl ?_
        refine g_if_eq C 47 dX2_needIfPossible_37 (by decide) (fun c_8 => ?_) (fun c_8 => ?_)
        · skip
          refine g_iload_n C dX2_needIfPossible_47 rfl 0 rfl ?_
          have e_9 : fX2_needIfPossible β a b = (false, β) := by rw [fX2_needIfPossible]; rw [if_pos c_1, if_pos c_4, if_pos c_7]
          exact g_zret (b := false) C hE (by rw [e_9]) rfl (by rw [e_9]) dX2_needIfPossible_48
        · exact absurd (by decide) c_8
      · skip
        refine g_aload_n C dX2_needIfPossible_21 rfl 0 rfl ?_
        refine g_iload_n C dX2_needIfPossible_22 rfl 1 rfl ?_
        refine g_iload_n C dX2_needIfPossible_23 rfl 2 rfl ?_
        refine g_st (st1 := [.int b, .int (nI a.toNatClampNeg), .ref (ad 0)]) (by rw [← ha.1]) ?_
        refine g_st (st1 := [.int (nI b.toNatClampNeg), .int (nI a.toNatClampNeg), .ref (ad 0)]) (by rw [← hb.1]) ?_
        refine g_callV C (cs1 := [wB E ad β]) (st1 := [.int (b2i (fX0_canNeed β a.toNatClampNeg b.toNatClampNeg))]) [.int (nI a.toNatClampNeg), .int (nI b.toNatClampNeg)] [0] (kX0_canNeed l E ad β hv a.toNatClampNeg ha.2.1 b.toNatClampNeg hb.2.1) caX0_canNeed q4_236 rfl ⟨Nat.le_of_ble_eq_true rfl, Nat.le_of_ble_eq_true rfl⟩ ⟨Nat.zero_le _, Nat.zero_le _⟩ 0 0 rfl rfl rfl rfl (by decide) rfl rfl rfl rfl (Nat.le_of_ble_eq_true rfl) dX2_needIfPossible_24 rfl ?_
        refine g_ifB_eq C 34 dX2_needIfPossible_27 (by decide) (fun c_10 => ?_) (fun c_10 => ?_)
        · skip
          refine g_iconst C (v := 0) dX2_needIfPossible_34 (by decide) ?_
          refine g_istore_n C (lv1 := [(3, .int 0), (0, .ref (ad 0)), (1, .int a), (2, .int b)]) dX2_needIfPossible_35 rfl (by decide) rfl ?_
          refine g_iload_n C dX2_needIfPossible_36 rfl 0 rfl ?_
          refine g_if_eq C 47 dX2_needIfPossible_37 (by decide) (fun c_11 => ?_) (fun c_11 => ?_)
          · skip
            refine g_iload_n C dX2_needIfPossible_47 rfl 0 rfl ?_
            have e_12 : fX2_needIfPossible β a b = (false, β) := by rw [fX2_needIfPossible]; rw [if_pos c_1, if_pos c_4, if_neg c_7, if_neg (ne_true_of_eq_false c_10)]
            exact g_zret (b := false) C hE (by rw [e_12]) rfl (by rw [e_12]) dX2_needIfPossible_48
          · exact absurd (by decide) c_11
        · skip
          refine g_iconst C (v := 1) dX2_needIfPossible_30 (by decide) ?_
          refine g_goto C 35 dX2_needIfPossible_31 (by decide) ?_
          refine g_istore_n C (lv1 := [(3, .int 1), (0, .ref (ad 0)), (1, .int a), (2, .int b)]) dX2_needIfPossible_35 rfl (by decide) rfl ?_
          refine g_iload_n C dX2_needIfPossible_36 rfl 0 rfl ?_
          refine g_if_eq C 47 dX2_needIfPossible_37 (by decide) (fun c_13 => ?_) (fun c_13 => ?_)
          · exact absurd c_13 (by decide)
          · skip
            refine g_aload_n C dX2_needIfPossible_40 rfl 1 rfl ?_
            refine g_iload_n C dX2_needIfPossible_41 rfl 2 rfl ?_
            refine g_iload_n C dX2_needIfPossible_42 rfl 3 rfl ?_
            refine g_st (st1 := [.int b, .int (nI a.toNatClampNeg), .ref (ad 0)]) (by rw [← ha.1]) ?_
            refine g_callV C (cs1 := [wB E ad ((fX0_addNeed β a.toNatClampNeg b).2)]) (st1 := [.int ((fX0_addNeed β a.toNatClampNeg b).1)]) [.int (nI a.toNatClampNeg), .int b] [0] (kX0_addNeed l E ad β a.toNatClampNeg ha.2.1 b) caX0_addNeed q4_237 rfl ⟨Nat.le_of_ble_eq_true rfl, Nat.le_of_ble_eq_true rfl⟩ ⟨Nat.zero_le _, Nat.zero_le _⟩ 0 0 rfl rfl rfl rfl (by decide) rfl rfl rfl rfl (Nat.le_of_ble_eq_true rfl) dX2_needIfPossible_43 rfl ?_
            refine g_pop C dX2_needIfPossible_46 rfl ?_
            refine g_iload_n C dX2_needIfPossible_47 rfl 0 rfl ?_
            have e_14 : fX2_needIfPossible β a b = (true, (fX0_addNeed β a.toNatClampNeg b).2) := by rw [fX2_needIfPossible]; rw [if_pos c_1, if_pos c_4, if_neg c_7, if_pos c_10]
            exact g_zret (b := true) C hE (by rw [e_14]) rfl (by rw [e_14]) dX2_needIfPossible_48
theorem vB_needIfPossible {β : BS} {a b : Int32} (hv : vB β) : vB (fX2_needIfPossible β a b).2 := by
  unfold fX2_needIfPossible
  (repeat' split) <;> (first | exact hv | exact vB_addNeed hv)
def fX2_giveIfPossible (β : BS) (a : Int32) (b : Int32) : Bool × BS :=
  if (fX0_hasTicket β a) = true then (if (fX6_isOwner b) = true then (if (fX0_canBeGivenTo β a.toNatClampNeg b.toNatClampNeg) = true then (true, (fX0_giveTo β a.toNatClampNeg b.toNatClampNeg).2) else (false, β)) else (false, β)) else (false, β)
theorem caX2_giveIfPossible : gCalS yX2_giveIfPossible cX2_giveIfPossible 4 (some .boolean) 3 := ⟨⟨q5_0, q1_17, by decide +kernel⟩, q4_239⟩
set_option maxHeartbeats 4000000 in
set_option maxRecDepth 100000 in
theorem kX2_giveIfPossible (l : Launch) (E : gE) (ad : Nat → Nat) (β : BS) (hv : vB β)  (a : Int32) (b : Int32) : MC l E yX2_giveIfPossible cX2_giveIfPossible 4 (some .boolean) 2 44 [.ref (ad 0), .int a, .int b] [wB E ad β] (some (.int (b2i (fX2_giveIfPossible β a b).1))) [wB E ad ((fX2_giveIfPossible β a b).2)] := by
  have hv1 : cnt β ≤ 20 := hv.1
  refine mc_of (by decide +kernel) (Nat.le_of_ble_eq_true rfl) (lv := [(0, .ref (ad 0)), (1, .int a), (2, .int b)]) rfl (fun X C hE => ?_)
  refine g_aload_n C dX2_giveIfPossible_0 rfl 0 rfl ?_
  refine g_iload_n C dX2_giveIfPossible_1 rfl 1 rfl ?_
  refine g_callV C (cs1 := [wB E ad β]) (st1 := [.int (b2i (fX0_hasTicket β a))]) [.int a] [0] (kX0_hasTicket l E ad β a) caX0_hasTicket q4_235 rfl ⟨Nat.le_of_ble_eq_true rfl, Nat.le_of_ble_eq_true rfl⟩ ⟨Nat.zero_le _, Nat.zero_le _⟩ 0 0 rfl rfl rfl rfl (by decide) rfl rfl rfl rfl (Nat.le_of_ble_eq_true rfl) dX2_giveIfPossible_2 rfl ?_
  refine g_ifB_eq C 28 dX2_giveIfPossible_5 (by decide) (fun c_1 => ?_) (fun c_1 => ?_)
  · skip
    refine g_iconst C (v := 0) dX2_giveIfPossible_28 (by decide) ?_
    refine g_istore_n C (lv1 := [(3, .int 0), (0, .ref (ad 0)), (1, .int a), (2, .int b)]) dX2_giveIfPossible_29 rfl (by decide) rfl ?_
    refine g_iload_n C dX2_giveIfPossible_30 rfl 0 rfl ?_
    refine g_if_eq C 41 dX2_giveIfPossible_31 (by decide) (fun c_2 => ?_) (fun c_2 => ?_)
    · skip
      refine g_iload_n C dX2_giveIfPossible_41 rfl 0 rfl ?_
      have e_3 : fX2_giveIfPossible β a b = (false, β) := by rw [fX2_giveIfPossible]; rw [if_neg (ne_true_of_eq_false c_1)]
      exact g_zret (b := false) C hE (by rw [e_3]) rfl (by rw [e_3]) dX2_giveIfPossible_42
    · exact absurd (by decide) c_2
  · skip
    have ha := hasTicket_i hv c_1
    refine g_iload_n C dX2_giveIfPossible_8 rfl 2 rfl ?_
    refine g_callSN C (cs1 := [wB E ad β]) (st1 := [.int (b2i (fX6_isOwner b))]) [.int b] [] (kX6_isOwner l E b) caX6_isOwner (host := RX6) (by decide +kernel) rfl ⟨Nat.le_of_ble_eq_true rfl, Nat.le_of_ble_eq_true rfl⟩ ⟨Nat.zero_le _, Nat.zero_le _⟩ (by decide) rfl rfl rfl rfl (Nat.le_of_ble_eq_true rfl) dX2_giveIfPossible_9 rfl ?_
    refine g_ifB_eq C 28 dX2_giveIfPossible_12 (by decide) (fun c_4 => ?_) (fun c_4 => ?_)
    · skip
      refine g_iconst C (v := 0) dX2_giveIfPossible_28 (by decide) ?_
      refine g_istore_n C (lv1 := [(3, .int 0), (0, .ref (ad 0)), (1, .int a), (2, .int b)]) dX2_giveIfPossible_29 rfl (by decide) rfl ?_
      refine g_iload_n C dX2_giveIfPossible_30 rfl 0 rfl ?_
      refine g_if_eq C 41 dX2_giveIfPossible_31 (by decide) (fun c_5 => ?_) (fun c_5 => ?_)
      · skip
        refine g_iload_n C dX2_giveIfPossible_41 rfl 0 rfl ?_
        have e_6 : fX2_giveIfPossible β a b = (false, β) := by rw [fX2_giveIfPossible]; rw [if_pos c_1, if_neg (ne_true_of_eq_false c_4)]
        exact g_zret (b := false) C hE (by rw [e_6]) rfl (by rw [e_6]) dX2_giveIfPossible_42
      · exact absurd (by decide) c_5
    · skip
      have hb := isOwner_i c_4
      refine g_aload_n C dX2_giveIfPossible_15 rfl 0 rfl ?_
      refine g_iload_n C dX2_giveIfPossible_16 rfl 1 rfl ?_
      refine g_iload_n C dX2_giveIfPossible_17 rfl 2 rfl ?_
      refine g_st (st1 := [.int b, .int (nI a.toNatClampNeg), .ref (ad 0)]) (by rw [← ha.1]) ?_
      refine g_st (st1 := [.int (nI b.toNatClampNeg), .int (nI a.toNatClampNeg), .ref (ad 0)]) (by rw [← hb.1]) ?_
      refine g_callV C (cs1 := [wB E ad β]) (st1 := [.int (b2i (fX0_canBeGivenTo β a.toNatClampNeg b.toNatClampNeg))]) [.int (nI a.toNatClampNeg), .int (nI b.toNatClampNeg)] [0] (kX0_canBeGivenTo l E ad β hv a.toNatClampNeg ha.2.1 b.toNatClampNeg hb.2) caX0_canBeGivenTo q5_2 rfl ⟨Nat.le_of_ble_eq_true rfl, Nat.le_of_ble_eq_true rfl⟩ ⟨Nat.zero_le _, Nat.zero_le _⟩ 0 0 rfl rfl rfl rfl (by decide) rfl rfl rfl rfl (Nat.le_of_ble_eq_true rfl) dX2_giveIfPossible_18 rfl ?_
      refine g_ifB_eq C 28 dX2_giveIfPossible_21 (by decide) (fun c_7 => ?_) (fun c_7 => ?_)
      · skip
        refine g_iconst C (v := 0) dX2_giveIfPossible_28 (by decide) ?_
        refine g_istore_n C (lv1 := [(3, .int 0), (0, .ref (ad 0)), (1, .int a), (2, .int b)]) dX2_giveIfPossible_29 rfl (by decide) rfl ?_
        refine g_iload_n C dX2_giveIfPossible_30 rfl 0 rfl ?_
        refine g_if_eq C 41 dX2_giveIfPossible_31 (by decide) (fun c_8 => ?_) (fun c_8 => ?_)
        · skip
          refine g_iload_n C dX2_giveIfPossible_41 rfl 0 rfl ?_
          have e_9 : fX2_giveIfPossible β a b = (false, β) := by rw [fX2_giveIfPossible]; rw [if_pos c_1, if_pos c_4, if_neg (ne_true_of_eq_false c_7)]
          exact g_zret (b := false) C hE (by rw [e_9]) rfl (by rw [e_9]) dX2_giveIfPossible_42
        · exact absurd (by decide) c_8
      · skip
        refine g_iconst C (v := 1) dX2_giveIfPossible_24 (by decide) ?_
        refine g_goto C 29 dX2_giveIfPossible_25 (by decide) ?_
        refine g_istore_n C (lv1 := [(3, .int 1), (0, .ref (ad 0)), (1, .int a), (2, .int b)]) dX2_giveIfPossible_29 rfl (by decide) rfl ?_
        refine g_iload_n C dX2_giveIfPossible_30 rfl 0 rfl ?_
        refine g_if_eq C 41 dX2_giveIfPossible_31 (by decide) (fun c_10 => ?_) (fun c_10 => ?_)
        · exact absurd c_10 (by decide)
        · skip
          refine g_aload_n C dX2_giveIfPossible_34 rfl 1 rfl ?_
          refine g_iload_n C dX2_giveIfPossible_35 rfl 2 rfl ?_
          refine g_iload_n C dX2_giveIfPossible_36 rfl 3 rfl ?_
          refine g_st (st1 := [.int b, .int (nI a.toNatClampNeg), .ref (ad 0)]) (by rw [← ha.1]) ?_
          refine g_st (st1 := [.int (nI b.toNatClampNeg), .int (nI a.toNatClampNeg), .ref (ad 0)]) (by rw [← hb.1]) ?_
          refine g_callV C (cs1 := [wB E ad ((fX0_giveTo β a.toNatClampNeg b.toNatClampNeg).2)]) (st1 := [.int ((fX0_giveTo β a.toNatClampNeg b.toNatClampNeg).1)]) [.int (nI a.toNatClampNeg), .int (nI b.toNatClampNeg)] [0] (kX0_giveTo l E ad β hv a.toNatClampNeg ha.2.1 b.toNatClampNeg hb.2) caX0_giveTo q5_3 rfl ⟨Nat.le_of_ble_eq_true rfl, Nat.le_of_ble_eq_true rfl⟩ ⟨Nat.zero_le _, Nat.zero_le _⟩ 0 0 rfl rfl rfl rfl (by decide) rfl rfl rfl rfl (Nat.le_of_ble_eq_true rfl) dX2_giveIfPossible_37 rfl ?_
          refine g_pop C dX2_giveIfPossible_40 rfl ?_
          refine g_iload_n C dX2_giveIfPossible_41 rfl 0 rfl ?_
          have e_11 : fX2_giveIfPossible β a b = (true, (fX0_giveTo β a.toNatClampNeg b.toNatClampNeg).2) := by rw [fX2_giveIfPossible]; rw [if_pos c_1, if_pos c_4, if_pos c_7]
          exact g_zret (b := true) C hE (by rw [e_11]) rfl (by rw [e_11]) dX2_giveIfPossible_42
theorem vB_giveIfPossible {β : BS} {a b : Int32} (hv : vB β) : vB (fX2_giveIfPossible β a b).2 := by
  unfold fX2_giveIfPossible
  (repeat' split) <;> (first | exact hv | exact vB_giveTo hv (isOwner_i (by assumption)).2)
def fX2_startIfPossible (β : BS) (a : Int32) : Bool × BS :=
  if (fX0_hasTicket β a) = true then (if (fX0_canStart β a.toNatClampNeg) = true then (true, sE β 0 a.toNatClampNeg 1) else (false, β)) else (false, β)
theorem caX2_startIfPossible : gCalS yX2_startIfPossible cX2_startIfPossible 3 (some .boolean) 2 := ⟨⟨q5_6, q1_17, by decide +kernel⟩, q5_5⟩
set_option maxHeartbeats 4000000 in
set_option maxRecDepth 100000 in
theorem kX2_startIfPossible (l : Launch) (E : gE) (ad : Nat → Nat) (β : BS) (hv : vB β)  (a : Int32) : MC l E yX2_startIfPossible cX2_startIfPossible 3 (some .boolean) 1 21 [.ref (ad 0), .int a] [wB E ad β] (some (.int (b2i (fX2_startIfPossible β a).1))) [wB E ad ((fX2_startIfPossible β a).2)] := by
  have hv1 : cnt β ≤ 20 := hv.1
  refine mc_of (by decide +kernel) (Nat.le_of_ble_eq_true rfl) (lv := [(0, .ref (ad 0)), (1, .int a)]) rfl (fun X C hE => ?_)
  refine g_aload_n C dX2_startIfPossible_0 rfl 0 rfl ?_
  refine g_iload_n C dX2_startIfPossible_1 rfl 1 rfl ?_
  refine g_callV C (cs1 := [wB E ad β]) (st1 := [.int (b2i (fX0_hasTicket β a))]) [.int a] [0] (kX0_hasTicket l E ad β a) caX0_hasTicket q4_235 rfl ⟨Nat.le_of_ble_eq_true rfl, Nat.le_of_ble_eq_true rfl⟩ ⟨Nat.zero_le _, Nat.zero_le _⟩ 0 0 rfl rfl rfl rfl (by decide) rfl rfl rfl rfl (Nat.le_of_ble_eq_true rfl) dX2_startIfPossible_2 rfl ?_
  refine g_ifB_eq C 20 dX2_startIfPossible_5 (by decide) (fun c_1 => ?_) (fun c_1 => ?_)
  · skip
    refine g_iconst C (v := 0) dX2_startIfPossible_20 (by decide) ?_
    refine g_istore_n C (lv1 := [(2, .int 0), (0, .ref (ad 0)), (1, .int a)]) dX2_startIfPossible_21 rfl (by decide) rfl ?_
    refine g_iload_n C dX2_startIfPossible_22 rfl 0 rfl ?_
    refine g_if_eq C 33 dX2_startIfPossible_23 (by decide) (fun c_2 => ?_) (fun c_2 => ?_)
    · skip
      refine g_iload_n C dX2_startIfPossible_33 rfl 0 rfl ?_
      have e_3 : fX2_startIfPossible β a = (false, β) := by rw [fX2_startIfPossible]; rw [if_neg (ne_true_of_eq_false c_1)]
      exact g_zret (b := false) C hE (by rw [e_3]) rfl (by rw [e_3]) dX2_startIfPossible_34
    · exact absurd (by decide) c_2
  · skip
    have ha := hasTicket_i hv c_1
    refine g_aload_n C dX2_startIfPossible_8 rfl 0 rfl ?_
    refine g_iload_n C dX2_startIfPossible_9 rfl 1 rfl ?_
    refine g_st (st1 := [.int (nI a.toNatClampNeg), .ref (ad 0)]) (by rw [← ha.1]) ?_
    refine g_callV C (cs1 := [wB E ad β]) (st1 := [.int (b2i (fX0_canStart β a.toNatClampNeg))]) [.int (nI a.toNatClampNeg)] [0] (kX0_canStart l E ad β a.toNatClampNeg ha.2.1) caX0_canStart q5_7 rfl ⟨Nat.le_of_ble_eq_true rfl, Nat.le_of_ble_eq_true rfl⟩ ⟨Nat.zero_le _, Nat.zero_le _⟩ 0 0 rfl rfl rfl rfl (by decide) rfl rfl rfl rfl (Nat.le_of_ble_eq_true rfl) dX2_startIfPossible_10 rfl ?_
    refine g_ifB_eq C 20 dX2_startIfPossible_13 (by decide) (fun c_4 => ?_) (fun c_4 => ?_)
    · skip
      refine g_iconst C (v := 0) dX2_startIfPossible_20 (by decide) ?_
      refine g_istore_n C (lv1 := [(2, .int 0), (0, .ref (ad 0)), (1, .int a)]) dX2_startIfPossible_21 rfl (by decide) rfl ?_
      refine g_iload_n C dX2_startIfPossible_22 rfl 0 rfl ?_
      refine g_if_eq C 33 dX2_startIfPossible_23 (by decide) (fun c_5 => ?_) (fun c_5 => ?_)
      · skip
        refine g_iload_n C dX2_startIfPossible_33 rfl 0 rfl ?_
        have e_6 : fX2_startIfPossible β a = (false, β) := by rw [fX2_startIfPossible]; rw [if_pos c_1, if_neg (ne_true_of_eq_false c_4)]
        exact g_zret (b := false) C hE (by rw [e_6]) rfl (by rw [e_6]) dX2_startIfPossible_34
      · exact absurd (by decide) c_5
    · skip
      refine g_iconst C (v := 1) dX2_startIfPossible_16 (by decide) ?_
      refine g_goto C 21 dX2_startIfPossible_17 (by decide) ?_
      refine g_istore_n C (lv1 := [(2, .int 1), (0, .ref (ad 0)), (1, .int a)]) dX2_startIfPossible_21 rfl (by decide) rfl ?_
      refine g_iload_n C dX2_startIfPossible_22 rfl 0 rfl ?_
      refine g_if_eq C 33 dX2_startIfPossible_23 (by decide) (fun c_7 => ?_) (fun c_7 => ?_)
      · exact absurd c_7 (by decide)
      · skip
        refine g_aload_n C dX2_startIfPossible_26 rfl 1 rfl ?_
        refine g_getf C (T := TX0) (N := 17) 0 0 rfl rfl rfl inX0 4 (by decide) q1_45 rfl dX2_startIfPossible_27 ?_
        refine g_iload_n C dX2_startIfPossible_30 rfl 2 rfl ?_
        refine g_iconst C (v := 1) dX2_startIfPossible_31 (by decide) ?_
        refine g_iastn C (w1 := wB E ad (sE β 0 a.toNatClampNeg 1)) (cs1 := [wB E ad (sE β 0 a.toNatClampNeg 1)]) 0 1 a.toNatClampNeg rfl rfl ha.1 ha.2.1 (by decide) rfl rfl dX2_startIfPossible_32 ?_
        refine g_iload_n C dX2_startIfPossible_33 rfl 0 rfl ?_
        have e_8 : fX2_startIfPossible β a = (true, sE β 0 a.toNatClampNeg 1) := by rw [fX2_startIfPossible]; rw [if_pos c_1, if_pos c_4]
        exact g_zret (b := true) C hE (by rw [e_8]) rfl (by rw [e_8]) dX2_startIfPossible_34
theorem vB_startIfPossible {β : BS} {a : Int32} (hv : vB β) : vB (fX2_startIfPossible β a).2 := by
  unfold fX2_startIfPossible
  (repeat' split) <;> (first | exact hv )
def fX2_submitIfPossible (β : BS) (a : Int32) : Bool × BS :=
  if (fX0_hasTicket β a) = true then (if (β.2 0 a.toNatClampNeg) = 1 then (true, sE β 0 a.toNatClampNeg 2) else (false, β)) else (false, β)
theorem caX2_submitIfPossible : gCalS yX2_submitIfPossible cX2_submitIfPossible 3 (some .boolean) 2 := ⟨⟨q5_10, q1_17, by decide +kernel⟩, q5_9⟩
set_option maxHeartbeats 4000000 in
set_option maxRecDepth 100000 in
theorem kX2_submitIfPossible (l : Launch) (E : gE) (ad : Nat → Nat) (β : BS) (hv : vB β)  (a : Int32) : MC l E yX2_submitIfPossible cX2_submitIfPossible 3 (some .boolean) 1 21 [.ref (ad 0), .int a] [wB E ad β] (some (.int (b2i (fX2_submitIfPossible β a).1))) [wB E ad ((fX2_submitIfPossible β a).2)] := by
  have hv1 : cnt β ≤ 20 := hv.1
  refine mc_of (by decide +kernel) (Nat.le_of_ble_eq_true rfl) (lv := [(0, .ref (ad 0)), (1, .int a)]) rfl (fun X C hE => ?_)
  refine g_aload_n C dX2_submitIfPossible_0 rfl 0 rfl ?_
  refine g_iload_n C dX2_submitIfPossible_1 rfl 1 rfl ?_
  refine g_callV C (cs1 := [wB E ad β]) (st1 := [.int (b2i (fX0_hasTicket β a))]) [.int a] [0] (kX0_hasTicket l E ad β a) caX0_hasTicket q4_235 rfl ⟨Nat.le_of_ble_eq_true rfl, Nat.le_of_ble_eq_true rfl⟩ ⟨Nat.zero_le _, Nat.zero_le _⟩ 0 0 rfl rfl rfl rfl (by decide) rfl rfl rfl rfl (Nat.le_of_ble_eq_true rfl) dX2_submitIfPossible_2 rfl ?_
  refine g_ifB_eq C 22 dX2_submitIfPossible_5 (by decide) (fun c_1 => ?_) (fun c_1 => ?_)
  · skip
    refine g_iconst C (v := 0) dX2_submitIfPossible_22 (by decide) ?_
    refine g_istore_n C (lv1 := [(2, .int 0), (0, .ref (ad 0)), (1, .int a)]) dX2_submitIfPossible_23 rfl (by decide) rfl ?_
    refine g_iload_n C dX2_submitIfPossible_24 rfl 0 rfl ?_
    refine g_if_eq C 35 dX2_submitIfPossible_25 (by decide) (fun c_2 => ?_) (fun c_2 => ?_)
    · skip
      refine g_iload_n C dX2_submitIfPossible_35 rfl 0 rfl ?_
      have e_3 : fX2_submitIfPossible β a = (false, β) := by rw [fX2_submitIfPossible]; rw [if_neg (ne_true_of_eq_false c_1)]
      exact g_zret (b := false) C hE (by rw [e_3]) rfl (by rw [e_3]) dX2_submitIfPossible_36
    · exact absurd (by decide) c_2
  · skip
    have ha := hasTicket_i hv c_1
    refine g_aload_n C dX2_submitIfPossible_8 rfl 0 rfl ?_
    refine g_getf C (T := TX0) (N := 17) 0 0 rfl rfl rfl inX0 4 (by decide) q1_45 rfl dX2_submitIfPossible_9 ?_
    refine g_iload_n C dX2_submitIfPossible_12 rfl 1 rfl ?_
    refine g_ialdn C 0 1 a.toNatClampNeg rfl rfl ha.1 ha.2.1 (by decide) dX2_submitIfPossible_13 ?_
    refine g_iconst C (v := 1) dX2_submitIfPossible_14 (by decide) ?_
    refine g_icmp_ne C 22 dX2_submitIfPossible_15 (by decide) (fun c_4 => ?_) (fun c_4 => ?_)
    · skip
      refine g_iconst C (v := 0) dX2_submitIfPossible_22 (by decide) ?_
      refine g_istore_n C (lv1 := [(2, .int 0), (0, .ref (ad 0)), (1, .int a)]) dX2_submitIfPossible_23 rfl (by decide) rfl ?_
      refine g_iload_n C dX2_submitIfPossible_24 rfl 0 rfl ?_
      refine g_if_eq C 35 dX2_submitIfPossible_25 (by decide) (fun c_5 => ?_) (fun c_5 => ?_)
      · skip
        refine g_iload_n C dX2_submitIfPossible_35 rfl 0 rfl ?_
        have e_6 : fX2_submitIfPossible β a = (false, β) := by rw [fX2_submitIfPossible]; rw [if_pos c_1, if_neg c_4]
        exact g_zret (b := false) C hE (by rw [e_6]) rfl (by rw [e_6]) dX2_submitIfPossible_36
      · exact absurd (by decide) c_5
    · skip
      refine g_iconst C (v := 1) dX2_submitIfPossible_18 (by decide) ?_
      refine g_goto C 23 dX2_submitIfPossible_19 (by decide) ?_
      refine g_istore_n C (lv1 := [(2, .int 1), (0, .ref (ad 0)), (1, .int a)]) dX2_submitIfPossible_23 rfl (by decide) rfl ?_
      refine g_iload_n C dX2_submitIfPossible_24 rfl 0 rfl ?_
      refine g_if_eq C 35 dX2_submitIfPossible_25 (by decide) (fun c_7 => ?_) (fun c_7 => ?_)
      · exact absurd c_7 (by decide)
      · skip
        refine g_aload_n C dX2_submitIfPossible_28 rfl 1 rfl ?_
        refine g_getf C (T := TX0) (N := 17) 0 0 rfl rfl rfl inX0 4 (by decide) q1_45 rfl dX2_submitIfPossible_29 ?_
        refine g_iload_n C dX2_submitIfPossible_32 rfl 2 rfl ?_
        refine g_iconst C (v := 2) dX2_submitIfPossible_33 (by decide) ?_
        refine g_iastn C (w1 := wB E ad (sE β 0 a.toNatClampNeg 2)) (cs1 := [wB E ad (sE β 0 a.toNatClampNeg 2)]) 0 1 a.toNatClampNeg rfl rfl ha.1 ha.2.1 (by decide) rfl rfl dX2_submitIfPossible_34 ?_
        refine g_iload_n C dX2_submitIfPossible_35 rfl 0 rfl ?_
        have e_8 : fX2_submitIfPossible β a = (true, sE β 0 a.toNatClampNeg 2) := by rw [fX2_submitIfPossible]; rw [if_pos c_1, if_pos c_4]
        exact g_zret (b := true) C hE (by rw [e_8]) rfl (by rw [e_8]) dX2_submitIfPossible_36
theorem vB_submitIfPossible {β : BS} {a : Int32} (hv : vB β) : vB (fX2_submitIfPossible β a).2 := by
  unfold fX2_submitIfPossible
  (repeat' split) <;> (first | exact hv )
def fX2_closeIfPossible (β : BS) (a : Int32) : Bool × BS :=
  if (fX0_hasTicket β a) = true then (if (fX0_canClose β a.toNatClampNeg) = true then (true, (fX0_finish β a.toNatClampNeg)) else (false, β)) else (false, β)
theorem caX2_closeIfPossible : gCalS yX2_closeIfPossible cX2_closeIfPossible 3 (some .boolean) 2 := ⟨⟨q5_13, q1_17, by decide +kernel⟩, q5_12⟩
set_option maxHeartbeats 4000000 in
set_option maxRecDepth 100000 in
theorem kX2_closeIfPossible (l : Launch) (E : gE) (ad : Nat → Nat) (β : BS) (hv : vB β)  (a : Int32) : MC l E yX2_closeIfPossible cX2_closeIfPossible 3 (some .boolean) 4 85 [.ref (ad 0), .int a] [wB E ad β] (some (.int (b2i (fX2_closeIfPossible β a).1))) [wB E ad ((fX2_closeIfPossible β a).2)] := by
  have hv1 : cnt β ≤ 20 := hv.1
  refine mc_of (by decide +kernel) (Nat.le_of_ble_eq_true rfl) (lv := [(0, .ref (ad 0)), (1, .int a)]) rfl (fun X C hE => ?_)
  refine g_aload_n C dX2_closeIfPossible_0 rfl 0 rfl ?_
  refine g_iload_n C dX2_closeIfPossible_1 rfl 1 rfl ?_
  refine g_callV C (cs1 := [wB E ad β]) (st1 := [.int (b2i (fX0_hasTicket β a))]) [.int a] [0] (kX0_hasTicket l E ad β a) caX0_hasTicket q4_235 rfl ⟨Nat.le_of_ble_eq_true rfl, Nat.le_of_ble_eq_true rfl⟩ ⟨Nat.zero_le _, Nat.zero_le _⟩ 0 0 rfl rfl rfl rfl (by decide) rfl rfl rfl rfl (Nat.le_of_ble_eq_true rfl) dX2_closeIfPossible_2 rfl ?_
  refine g_ifB_eq C 20 dX2_closeIfPossible_5 (by decide) (fun c_1 => ?_) (fun c_1 => ?_)
  · skip
    refine g_iconst C (v := 0) dX2_closeIfPossible_20 (by decide) ?_
    refine g_istore_n C (lv1 := [(2, .int 0), (0, .ref (ad 0)), (1, .int a)]) dX2_closeIfPossible_21 rfl (by decide) rfl ?_
    refine g_iload_n C dX2_closeIfPossible_22 rfl 0 rfl ?_
    refine g_if_eq C 31 dX2_closeIfPossible_23 (by decide) (fun c_2 => ?_) (fun c_2 => ?_)
    · skip
      refine g_iload_n C dX2_closeIfPossible_31 rfl 0 rfl ?_
      have e_3 : fX2_closeIfPossible β a = (false, β) := by rw [fX2_closeIfPossible]; rw [if_neg (ne_true_of_eq_false c_1)]
      exact g_zret (b := false) C hE (by rw [e_3]) rfl (by rw [e_3]) dX2_closeIfPossible_32
    · exact absurd (by decide) c_2
  · skip
    have ha := hasTicket_i hv c_1
    refine g_aload_n C dX2_closeIfPossible_8 rfl 0 rfl ?_
    refine g_iload_n C dX2_closeIfPossible_9 rfl 1 rfl ?_
    refine g_st (st1 := [.int (nI a.toNatClampNeg), .ref (ad 0)]) (by rw [← ha.1]) ?_
    refine g_callV C (cs1 := [wB E ad β]) (st1 := [.int (b2i (fX0_canClose β a.toNatClampNeg))]) [.int (nI a.toNatClampNeg)] [0] (kX0_canClose l E ad β hv a.toNatClampNeg ha.2.1) caX0_canClose q5_14 rfl ⟨Nat.le_of_ble_eq_true rfl, Nat.le_of_ble_eq_true rfl⟩ ⟨Nat.zero_le _, Nat.zero_le _⟩ 0 0 rfl rfl rfl rfl (by decide) rfl rfl rfl rfl (Nat.le_of_ble_eq_true rfl) dX2_closeIfPossible_10 rfl ?_
    refine g_ifB_eq C 20 dX2_closeIfPossible_13 (by decide) (fun c_4 => ?_) (fun c_4 => ?_)
    · skip
      refine g_iconst C (v := 0) dX2_closeIfPossible_20 (by decide) ?_
      refine g_istore_n C (lv1 := [(2, .int 0), (0, .ref (ad 0)), (1, .int a)]) dX2_closeIfPossible_21 rfl (by decide) rfl ?_
      refine g_iload_n C dX2_closeIfPossible_22 rfl 0 rfl ?_
      refine g_if_eq C 31 dX2_closeIfPossible_23 (by decide) (fun c_5 => ?_) (fun c_5 => ?_)
      · skip
        refine g_iload_n C dX2_closeIfPossible_31 rfl 0 rfl ?_
        have e_6 : fX2_closeIfPossible β a = (false, β) := by rw [fX2_closeIfPossible]; rw [if_pos c_1, if_neg (ne_true_of_eq_false c_4)]
        exact g_zret (b := false) C hE (by rw [e_6]) rfl (by rw [e_6]) dX2_closeIfPossible_32
      · exact absurd (by decide) c_5
    · skip
      refine g_iconst C (v := 1) dX2_closeIfPossible_16 (by decide) ?_
      refine g_goto C 21 dX2_closeIfPossible_17 (by decide) ?_
      refine g_istore_n C (lv1 := [(2, .int 1), (0, .ref (ad 0)), (1, .int a)]) dX2_closeIfPossible_21 rfl (by decide) rfl ?_
      refine g_iload_n C dX2_closeIfPossible_22 rfl 0 rfl ?_
      refine g_if_eq C 31 dX2_closeIfPossible_23 (by decide) (fun c_7 => ?_) (fun c_7 => ?_)
      · exact absurd c_7 (by decide)
      · skip
        refine g_aload_n C dX2_closeIfPossible_26 rfl 1 rfl ?_
        refine g_iload_n C dX2_closeIfPossible_27 rfl 2 rfl ?_
        refine g_st (st1 := [.int (nI a.toNatClampNeg), .ref (ad 0)]) (by rw [← ha.1]) ?_
        refine g_callV C (cs1 := [wB E ad (fX0_finish β a.toNatClampNeg)]) (st1 := []) [.int (nI a.toNatClampNeg)] [0] (kX0_finish l E ad β hv a.toNatClampNeg ha.2.1) caX0_finish q5_15 rfl ⟨Nat.le_of_ble_eq_true rfl, Nat.le_of_ble_eq_true rfl⟩ ⟨Nat.zero_le _, Nat.zero_le _⟩ 0 0 rfl rfl rfl rfl (by decide) rfl rfl rfl rfl (Nat.le_of_ble_eq_true rfl) dX2_closeIfPossible_28 rfl ?_
        refine g_iload_n C dX2_closeIfPossible_31 rfl 0 rfl ?_
        have e_8 : fX2_closeIfPossible β a = (true, (fX0_finish β a.toNatClampNeg)) := by rw [fX2_closeIfPossible]; rw [if_pos c_1, if_pos c_4]
        exact g_zret (b := true) C hE (by rw [e_8]) rfl (by rw [e_8]) dX2_closeIfPossible_32
theorem vB_closeIfPossible {β : BS} {a : Int32} (hv : vB β) : vB (fX2_closeIfPossible β a).2 := by
  unfold fX2_closeIfPossible
  (repeat' split) <;> (first | exact hv | exact vB_finish hv)
def fX2_passIfPossible (β : BS) (a : Int32) : Bool × BS :=
  if (fX0_canPass β a) = true then ((fX0_canPass β a), (fX0_pass β a).2) else ((fX0_canPass β a), β)
theorem caX2_passIfPossible : gCalS yX2_passIfPossible cX2_passIfPossible 3 (some .boolean) 2 := ⟨⟨q5_18, q1_17, by decide +kernel⟩, q5_17⟩
set_option maxHeartbeats 4000000 in
set_option maxRecDepth 100000 in
theorem kX2_passIfPossible (l : Launch) (E : gE) (ad : Nat → Nat) (β : BS) (hv : vB β)  (a : Int32) : MC l E yX2_passIfPossible cX2_passIfPossible 3 (some .boolean) 1 22 [.ref (ad 0), .int a] [wB E ad β] (some (.int (b2i (fX2_passIfPossible β a).1))) [wB E ad ((fX2_passIfPossible β a).2)] := by
  have hv1 : cnt β ≤ 20 := hv.1
  refine mc_of (by decide +kernel) (Nat.le_of_ble_eq_true rfl) (lv := [(0, .ref (ad 0)), (1, .int a)]) rfl (fun X C hE => ?_)
  refine g_aload_n C dX2_passIfPossible_0 rfl 0 rfl ?_
  refine g_iload_n C dX2_passIfPossible_1 rfl 1 rfl ?_
  refine g_callV C (cs1 := [wB E ad β]) (st1 := [.int (b2i (fX0_canPass β a))]) [.int a] [0] (kX0_canPass l E ad β a) caX0_canPass q5_19 rfl ⟨Nat.le_of_ble_eq_true rfl, Nat.le_of_ble_eq_true rfl⟩ ⟨Nat.zero_le _, Nat.zero_le _⟩ 0 0 rfl rfl rfl rfl (by decide) rfl rfl rfl rfl (Nat.le_of_ble_eq_true rfl) dX2_passIfPossible_2 rfl ?_
  refine g_istore_n C (lv1 := [(2, .int (b2i (fX0_canPass β a))), (0, .ref (ad 0)), (1, .int a)]) dX2_passIfPossible_5 rfl (by decide) rfl ?_
  refine g_iload_n C dX2_passIfPossible_6 rfl 0 rfl ?_
  refine g_ifB_eq C 16 dX2_passIfPossible_7 (by decide) (fun c_1 => ?_) (fun c_1 => ?_)
  · skip
    refine g_iload_n C dX2_passIfPossible_16 rfl 0 rfl ?_
    have e_2 : fX2_passIfPossible β a = ((fX0_canPass β a), β) := by rw [fX2_passIfPossible]; rw [if_neg (ne_true_of_eq_false c_1)]
    exact g_zret (b := (fX0_canPass β a)) C hE (by rw [e_2]) rfl (by rw [e_2]) dX2_passIfPossible_17
  · skip
    refine g_aload_n C dX2_passIfPossible_10 rfl 1 rfl ?_
    refine g_iload_n C dX2_passIfPossible_11 rfl 2 rfl ?_
    refine g_callV C (cs1 := [wB E ad ((fX0_pass β a).2)]) (st1 := [.int ((fX0_pass β a).1)]) [.int a] [0] (kX0_pass l E ad β hv a) caX0_pass q5_20 rfl ⟨Nat.le_of_ble_eq_true rfl, Nat.le_of_ble_eq_true rfl⟩ ⟨Nat.zero_le _, Nat.zero_le _⟩ 0 0 rfl rfl rfl rfl (by decide) rfl rfl rfl rfl (Nat.le_of_ble_eq_true rfl) dX2_passIfPossible_12 rfl ?_
    refine g_pop C dX2_passIfPossible_15 rfl ?_
    refine g_iload_n C dX2_passIfPossible_16 rfl 0 rfl ?_
    have e_3 : fX2_passIfPossible β a = ((fX0_canPass β a), (fX0_pass β a).2) := by rw [fX2_passIfPossible]; rw [if_pos c_1]
    exact g_zret (b := (fX0_canPass β a)) C hE (by rw [e_3]) rfl (by rw [e_3]) dX2_passIfPossible_17
theorem vB_passIfPossible {β : BS} {a : Int32} (hv : vB β) : vB (fX2_passIfPossible β a).2 := by
  unfold fX2_passIfPossible
  (repeat' split) <;> (first | exact hv | exact vB_pass hv)
def fX2_carryOut (β : BS) (x : Int32) (a : Int32) (b : Int32) : Bool × BS :=
  if x = 97 then ((fX2_giveIfPossible β a b).1, (fX2_giveIfPossible β a b).2) else (if x = 99 then ((fX2_closeIfPossible β a).1, (fX2_closeIfPossible β a).2) else (if x = 101 then ((fX2_passIfPossible β a).1, (fX2_passIfPossible β a).2) else (if x = 110 then ((fX2_needIfPossible β a b).1, (fX2_needIfPossible β a b).2) else (if x = 111 then ((fX2_openIfPossible β a b).1, (fX2_openIfPossible β a b).2) else (if x = 114 then ((fX2_submitIfPossible β a).1, (fX2_submitIfPossible β a).2) else (if x = 115 then ((fX2_startIfPossible β a).1, (fX2_startIfPossible β a).2) else (false, β)))))))
theorem caX2_carryOut : gCalS yX2_carryOut cX2_carryOut 4 (some .boolean) 4 := ⟨⟨q4_226, q1_17, by decide +kernel⟩, q4_225⟩
set_option maxHeartbeats 4000000 in
set_option maxRecDepth 100000 in
theorem kX2_carryOut (l : Launch) (E : gE) (ad : Nat → Nat) (β : BS) (hv : vB β)  (x : Int32) (a : Int32) (b : Int32) : MC l E yX2_carryOut cX2_carryOut 4 (some .boolean) 5 113 [.ref (ad 0), .int x, .int a, .int b] [wB E ad β] (some (.int (b2i (fX2_carryOut β x a b).1))) [wB E ad ((fX2_carryOut β x a b).2)] := by
  have hv1 : cnt β ≤ 20 := hv.1
  refine mc_of (by decide +kernel) (Nat.le_of_ble_eq_true rfl) (lv := [(0, .ref (ad 0)), (1, .int x), (2, .int a), (3, .int b)]) rfl (fun X C hE => ?_)
  refine g_iload_n C dX2_carryOut_0 rfl 1 rfl ?_
  refine (Decidable.em (x = 97)).elim (fun c_1 => ?_) (fun c_1 => ?_)
  · refine g_tblK C 106 dX2_carryOut_1 c_1 (by decide) (by decide) rfl (by decide) ?_
    refine g_aload_n C dX2_carryOut_106 rfl 0 rfl ?_
    refine g_iload_n C dX2_carryOut_107 rfl 2 rfl ?_
    refine g_iload_n C dX2_carryOut_108 rfl 3 rfl ?_
    refine g_callS C (cs1 := [wB E ad ((fX2_giveIfPossible β a b).2)]) (st1 := [.int (b2i ((fX2_giveIfPossible β a b).1))]) [.ref (ad 0), .int a, .int b] [0] (kX2_giveIfPossible l E ad β hv a b) caX2_giveIfPossible q4_238 rfl ⟨Nat.le_of_ble_eq_true rfl, Nat.le_of_ble_eq_true rfl⟩ ⟨Nat.zero_le _, Nat.zero_le _⟩ (by decide) rfl rfl rfl rfl (Nat.le_of_ble_eq_true rfl) dX2_carryOut_109 rfl ?_
    have e_2 : fX2_carryOut β x a b = ((fX2_giveIfPossible β a b).1, (fX2_giveIfPossible β a b).2) := by rw [fX2_carryOut]; rw [if_pos c_1]
    exact g_zret (b := (fX2_giveIfPossible β a b).1) C hE (by rw [e_2]) rfl (by rw [e_2]) dX2_carryOut_112
  refine (Decidable.em (x = 99)).elim (fun c_3 => ?_) (fun c_3 => ?_)
  · refine g_tblK C 125 dX2_carryOut_1 c_3 (by decide) (by decide) rfl (by decide) ?_
    refine g_aload_n C dX2_carryOut_125 rfl 0 rfl ?_
    refine g_iload_n C dX2_carryOut_126 rfl 2 rfl ?_
    refine g_callS C (cs1 := [wB E ad ((fX2_closeIfPossible β a).2)]) (st1 := [.int (b2i ((fX2_closeIfPossible β a).1))]) [.ref (ad 0), .int a] [0] (kX2_closeIfPossible l E ad β hv a) caX2_closeIfPossible q5_11 rfl ⟨Nat.le_of_ble_eq_true rfl, Nat.le_of_ble_eq_true rfl⟩ ⟨Nat.zero_le _, Nat.zero_le _⟩ (by decide) rfl rfl rfl rfl (Nat.le_of_ble_eq_true rfl) dX2_carryOut_127 rfl ?_
    have e_4 : fX2_carryOut β x a b = ((fX2_closeIfPossible β a).1, (fX2_closeIfPossible β a).2) := by rw [fX2_carryOut]; rw [if_neg c_1, if_pos c_3]
    exact g_zret (b := (fX2_closeIfPossible β a).1) C hE (by rw [e_4]) rfl (by rw [e_4]) dX2_carryOut_130
  refine (Decidable.em (x = 101)).elim (fun c_5 => ?_) (fun c_5 => ?_)
  · refine g_tblK C 131 dX2_carryOut_1 c_5 (by decide) (by decide) rfl (by decide) ?_
    refine g_aload_n C dX2_carryOut_131 rfl 0 rfl ?_
    refine g_iload_n C dX2_carryOut_132 rfl 2 rfl ?_
    refine g_callS C (cs1 := [wB E ad ((fX2_passIfPossible β a).2)]) (st1 := [.int (b2i ((fX2_passIfPossible β a).1))]) [.ref (ad 0), .int a] [0] (kX2_passIfPossible l E ad β hv a) caX2_passIfPossible q5_16 rfl ⟨Nat.le_of_ble_eq_true rfl, Nat.le_of_ble_eq_true rfl⟩ ⟨Nat.zero_le _, Nat.zero_le _⟩ (by decide) rfl rfl rfl rfl (Nat.le_of_ble_eq_true rfl) dX2_carryOut_133 rfl ?_
    have e_6 : fX2_carryOut β x a b = ((fX2_passIfPossible β a).1, (fX2_passIfPossible β a).2) := by rw [fX2_carryOut]; rw [if_neg c_1, if_neg c_3, if_pos c_5]
    exact g_zret (b := (fX2_passIfPossible β a).1) C hE (by rw [e_6]) rfl (by rw [e_6]) dX2_carryOut_136
  refine (Decidable.em (x = 110)).elim (fun c_7 => ?_) (fun c_7 => ?_)
  · refine g_tblK C 99 dX2_carryOut_1 c_7 (by decide) (by decide) rfl (by decide) ?_
    refine g_aload_n C dX2_carryOut_99 rfl 0 rfl ?_
    refine g_iload_n C dX2_carryOut_100 rfl 2 rfl ?_
    refine g_iload_n C dX2_carryOut_101 rfl 3 rfl ?_
    refine g_callS C (cs1 := [wB E ad ((fX2_needIfPossible β a b).2)]) (st1 := [.int (b2i ((fX2_needIfPossible β a b).1))]) [.ref (ad 0), .int a, .int b] [0] (kX2_needIfPossible l E ad β hv a b) caX2_needIfPossible q4_232 rfl ⟨Nat.le_of_ble_eq_true rfl, Nat.le_of_ble_eq_true rfl⟩ ⟨Nat.zero_le _, Nat.zero_le _⟩ (by decide) rfl rfl rfl rfl (Nat.le_of_ble_eq_true rfl) dX2_carryOut_102 rfl ?_
    have e_8 : fX2_carryOut β x a b = ((fX2_needIfPossible β a b).1, (fX2_needIfPossible β a b).2) := by rw [fX2_carryOut]; rw [if_neg c_1, if_neg c_3, if_neg c_5, if_pos c_7]
    exact g_zret (b := (fX2_needIfPossible β a b).1) C hE (by rw [e_8]) rfl (by rw [e_8]) dX2_carryOut_105
  refine (Decidable.em (x = 111)).elim (fun c_9 => ?_) (fun c_9 => ?_)
  · refine g_tblK C 92 dX2_carryOut_1 c_9 (by decide) (by decide) rfl (by decide) ?_
    refine g_aload_n C dX2_carryOut_92 rfl 0 rfl ?_
    refine g_iload_n C dX2_carryOut_93 rfl 2 rfl ?_
    refine g_iload_n C dX2_carryOut_94 rfl 3 rfl ?_
    refine g_callS C (cs1 := [wB E ad ((fX2_openIfPossible β a b).2)]) (st1 := [.int (b2i ((fX2_openIfPossible β a b).1))]) [.ref (ad 0), .int a, .int b] [0] (kX2_openIfPossible l E ad β hv a b) caX2_openIfPossible q4_227 rfl ⟨Nat.le_of_ble_eq_true rfl, Nat.le_of_ble_eq_true rfl⟩ ⟨Nat.zero_le _, Nat.zero_le _⟩ (by decide) rfl rfl rfl rfl (Nat.le_of_ble_eq_true rfl) dX2_carryOut_95 rfl ?_
    have e_10 : fX2_carryOut β x a b = ((fX2_openIfPossible β a b).1, (fX2_openIfPossible β a b).2) := by rw [fX2_carryOut]; rw [if_neg c_1, if_neg c_3, if_neg c_5, if_neg c_7, if_pos c_9]
    exact g_zret (b := (fX2_openIfPossible β a b).1) C hE (by rw [e_10]) rfl (by rw [e_10]) dX2_carryOut_98
  refine (Decidable.em (x = 114)).elim (fun c_11 => ?_) (fun c_11 => ?_)
  · refine g_tblK C 119 dX2_carryOut_1 c_11 (by decide) (by decide) rfl (by decide) ?_
    refine g_aload_n C dX2_carryOut_119 rfl 0 rfl ?_
    refine g_iload_n C dX2_carryOut_120 rfl 2 rfl ?_
    refine g_callS C (cs1 := [wB E ad ((fX2_submitIfPossible β a).2)]) (st1 := [.int (b2i ((fX2_submitIfPossible β a).1))]) [.ref (ad 0), .int a] [0] (kX2_submitIfPossible l E ad β hv a) caX2_submitIfPossible q5_8 rfl ⟨Nat.le_of_ble_eq_true rfl, Nat.le_of_ble_eq_true rfl⟩ ⟨Nat.zero_le _, Nat.zero_le _⟩ (by decide) rfl rfl rfl rfl (Nat.le_of_ble_eq_true rfl) dX2_carryOut_121 rfl ?_
    have e_12 : fX2_carryOut β x a b = ((fX2_submitIfPossible β a).1, (fX2_submitIfPossible β a).2) := by rw [fX2_carryOut]; rw [if_neg c_1, if_neg c_3, if_neg c_5, if_neg c_7, if_neg c_9, if_pos c_11]
    exact g_zret (b := (fX2_submitIfPossible β a).1) C hE (by rw [e_12]) rfl (by rw [e_12]) dX2_carryOut_124
  refine (Decidable.em (x = 115)).elim (fun c_13 => ?_) (fun c_13 => ?_)
  · refine g_tblK C 113 dX2_carryOut_1 c_13 (by decide) (by decide) rfl (by decide) ?_
    refine g_aload_n C dX2_carryOut_113 rfl 0 rfl ?_
    refine g_iload_n C dX2_carryOut_114 rfl 2 rfl ?_
    refine g_callS C (cs1 := [wB E ad ((fX2_startIfPossible β a).2)]) (st1 := [.int (b2i ((fX2_startIfPossible β a).1))]) [.ref (ad 0), .int a] [0] (kX2_startIfPossible l E ad β hv a) caX2_startIfPossible q5_4 rfl ⟨Nat.le_of_ble_eq_true rfl, Nat.le_of_ble_eq_true rfl⟩ ⟨Nat.zero_le _, Nat.zero_le _⟩ (by decide) rfl rfl rfl rfl (Nat.le_of_ble_eq_true rfl) dX2_carryOut_115 rfl ?_
    have e_14 : fX2_carryOut β x a b = ((fX2_startIfPossible β a).1, (fX2_startIfPossible β a).2) := by rw [fX2_carryOut]; rw [if_neg c_1, if_neg c_3, if_neg c_5, if_neg c_7, if_neg c_9, if_neg c_11, if_pos c_13]
    exact g_zret (b := (fX2_startIfPossible β a).1) C hE (by rw [e_14]) rfl (by rw [e_14]) dX2_carryOut_118
  refine g_tblD C 137 [97, 99, 101, 110, 111, 114, 115] dX2_carryOut_1 (List.forall_mem_cons.mpr ⟨c_1, List.forall_mem_cons.mpr ⟨c_3, List.forall_mem_cons.mpr ⟨c_5, List.forall_mem_cons.mpr ⟨c_7, List.forall_mem_cons.mpr ⟨c_9, List.forall_mem_cons.mpr ⟨c_11, List.forall_mem_cons.mpr ⟨c_13, fun _ h => absurd h List.not_mem_nil⟩⟩⟩⟩⟩⟩⟩) (by decide) (by decide) (by decide) ?_
  refine g_iconst C (v := 0) dX2_carryOut_137 (by decide) ?_
  have e_15 : fX2_carryOut β x a b = (false, β) := by rw [fX2_carryOut]; rw [if_neg c_1, if_neg c_3, if_neg c_5, if_neg c_7, if_neg c_9, if_neg c_11, if_neg c_13]
  exact g_zret (b := false) C hE (by rw [e_15]) rfl (by rw [e_15]) dX2_carryOut_138
theorem vB_carryOut {β : BS} {x a b : Int32} (hv : vB β) : vB (fX2_carryOut β x a b).2 := by
  unfold fX2_carryOut
  split
  · exact vB_giveIfPossible hv
  split
  · exact vB_closeIfPossible hv
  split
  · exact vB_passIfPossible hv
  split
  · exact vB_needIfPossible hv
  split
  · exact vB_openIfPossible hv
  split
  · exact vB_submitIfPossible hv
  split
  · exact vB_startIfPossible hv
  exact hv
