def fX5_loadOf (β : BS) (o : Int32) : Int32 :=
  (fX0_pointsOfSet β ((fX0_ownedBy β o) &&& (fX0_unfinishedSet β)))
theorem caX5_loadOf : gCalS yX5_loadOf cX5_loadOf 2 (some .int) 2 := ⟨⟨q3_98, q1_10, by decide +kernel⟩, q3_97⟩
set_option maxHeartbeats 4000000 in
set_option maxRecDepth 100000 in
theorem kX5_loadOf (l : Launch) (E : gE) (ad : Nat → Nat) (β : BS) (hv : vB β)  (o : Int32) : MC l E yX5_loadOf cX5_loadOf 2 (some .int) 3 65 [.ref (ad 0), .int o] [wB E ad β] (some (.int (fX5_loadOf β o))) [wB E ad β] := by
  have hv1 : cnt β ≤ 20 := hv.1
  refine mc_of (by decide +kernel) (Nat.le_of_ble_eq_true rfl) (lv := [(0, .ref (ad 0)), (1, .int o)]) rfl (fun X C hE => ?_)
  refine g_aload_n C dX5_loadOf_0 rfl 0 rfl ?_
  refine g_aload_n C dX5_loadOf_1 rfl 0 rfl ?_
  refine g_iload_n C dX5_loadOf_2 rfl 1 rfl ?_
  refine g_callV C (cs1 := [wB E ad β]) (st1 := [.int (fX0_ownedBy β o), .ref (ad 0)]) [.int o] [0] (kX0_ownedBy l E ad β hv o) caX0_ownedBy q3_99 rfl ⟨Nat.le_of_ble_eq_true rfl, Nat.le_of_ble_eq_true rfl⟩ ⟨Nat.zero_le _, Nat.zero_le _⟩ 0 0 rfl rfl rfl rfl (by decide) rfl rfl rfl rfl (Nat.le_of_ble_eq_true rfl) dX5_loadOf_3 rfl ?_
  refine g_aload_n C dX5_loadOf_6 rfl 0 rfl ?_
  refine g_callV C (cs1 := [wB E ad β]) (st1 := [.int (fX0_unfinishedSet β), .int (fX0_ownedBy β o), .ref (ad 0)]) [] [0] (kX0_unfinishedSet l E ad β hv) caX0_unfinishedSet q2_130 rfl ⟨Nat.le_of_ble_eq_true rfl, Nat.le_of_ble_eq_true rfl⟩ ⟨Nat.zero_le _, Nat.zero_le _⟩ 0 0 rfl rfl rfl rfl (by decide) rfl rfl rfl rfl (Nat.le_of_ble_eq_true rfl) dX5_loadOf_7 rfl ?_
  refine g_iand C dX5_loadOf_10 ?_
  refine g_callV C (cs1 := [wB E ad β]) (st1 := [.int (fX0_pointsOfSet β ((fX0_ownedBy β o) &&& (fX0_unfinishedSet β)))]) [.int ((fX0_ownedBy β o) &&& (fX0_unfinishedSet β))] [0] (kX0_pointsOfSet l E ad β hv ((fX0_ownedBy β o) &&& (fX0_unfinishedSet β))) caX0_pointsOfSet q2_120 rfl ⟨Nat.le_of_ble_eq_true rfl, Nat.le_of_ble_eq_true rfl⟩ ⟨Nat.zero_le _, Nat.zero_le _⟩ 0 0 rfl rfl rfl rfl (by decide) rfl rfl rfl rfl (Nat.le_of_ble_eq_true rfl) dX5_loadOf_11 rfl ?_
  have e_1 : fX5_loadOf β o = (fX0_pointsOfSet β ((fX0_ownedBy β o) &&& (fX0_unfinishedSet β))) := by rw [fX5_loadOf]
  exact g_iret C hE (by rw [e_1]) rfl dX5_loadOf_14
def fX5_inProgressWith (β : BS) (o : Int32) : Int32 :=
  (fJ6_bitCount_0f7a4 ((fX0_ownedBy β o) &&& (fX0_inState β 1)))
def fX5_doneBy (β : BS) (o : Int32) : Int32 :=
  (fX0_pointsOfSet β ((fX0_ownedBy β o) &&& (fX0_inState β 3)))
def fX5_capacityLeft (β : BS) (o : Nat) : Int32 :=
  (β.2 10 o) - (β.2 11 o)
def fX5_ownerWithMostLeft_L4 (β : BS) (i4 : Nat) (t4 : Int32) : Int32 :=
  if (fX5_capacityLeft β (i4 + 1)) ≤ (fX5_capacityLeft β (t4.toNatClampNeg)) then t4 else nI (i4 + 1)
def fX5_ownerWithMostLeft (β : BS) : Int32 :=
  (lpF (fX5_ownerWithMostLeft_L4 β) 0 4)
def fX5_leftFor (β : BS) (m : Int32) : Int32 :=
  (fX0_pointsOfSet β ((fX0_plannedFor β m) &&& (fX0_unfinishedSet β)))
theorem caX5_leftFor : gCalS yX5_leftFor cX5_leftFor 2 (some .int) 2 := ⟨⟨q2_129, q1_10, by decide +kernel⟩, q2_128⟩
set_option maxHeartbeats 4000000 in
set_option maxRecDepth 100000 in
theorem kX5_leftFor (l : Launch) (E : gE) (ad : Nat → Nat) (β : BS) (hv : vB β)  (m : Int32) : MC l E yX5_leftFor cX5_leftFor 2 (some .int) 3 65 [.ref (ad 0), .int m] [wB E ad β] (some (.int (fX5_leftFor β m))) [wB E ad β] := by
  have hv1 : cnt β ≤ 20 := hv.1
  refine mc_of (by decide +kernel) (Nat.le_of_ble_eq_true rfl) (lv := [(0, .ref (ad 0)), (1, .int m)]) rfl (fun X C hE => ?_)
  refine g_aload_n C dX5_leftFor_0 rfl 0 rfl ?_
  refine g_aload_n C dX5_leftFor_1 rfl 0 rfl ?_
  refine g_iload_n C dX5_leftFor_2 rfl 1 rfl ?_
  refine g_callV C (cs1 := [wB E ad β]) (st1 := [.int (fX0_plannedFor β m), .ref (ad 0)]) [.int m] [0] (kX0_plannedFor l E ad β hv m) caX0_plannedFor q2_105 rfl ⟨Nat.le_of_ble_eq_true rfl, Nat.le_of_ble_eq_true rfl⟩ ⟨Nat.zero_le _, Nat.zero_le _⟩ 0 0 rfl rfl rfl rfl (by decide) rfl rfl rfl rfl (Nat.le_of_ble_eq_true rfl) dX5_leftFor_3 rfl ?_
  refine g_aload_n C dX5_leftFor_6 rfl 0 rfl ?_
  refine g_callV C (cs1 := [wB E ad β]) (st1 := [.int (fX0_unfinishedSet β), .int (fX0_plannedFor β m), .ref (ad 0)]) [] [0] (kX0_unfinishedSet l E ad β hv) caX0_unfinishedSet q2_130 rfl ⟨Nat.le_of_ble_eq_true rfl, Nat.le_of_ble_eq_true rfl⟩ ⟨Nat.zero_le _, Nat.zero_le _⟩ 0 0 rfl rfl rfl rfl (by decide) rfl rfl rfl rfl (Nat.le_of_ble_eq_true rfl) dX5_leftFor_7 rfl ?_
  refine g_iand C dX5_leftFor_10 ?_
  refine g_callV C (cs1 := [wB E ad β]) (st1 := [.int (fX0_pointsOfSet β ((fX0_plannedFor β m) &&& (fX0_unfinishedSet β)))]) [.int ((fX0_plannedFor β m) &&& (fX0_unfinishedSet β))] [0] (kX0_pointsOfSet l E ad β hv ((fX0_plannedFor β m) &&& (fX0_unfinishedSet β))) caX0_pointsOfSet q2_120 rfl ⟨Nat.le_of_ble_eq_true rfl, Nat.le_of_ble_eq_true rfl⟩ ⟨Nat.zero_le _, Nat.zero_le _⟩ 0 0 rfl rfl rfl rfl (by decide) rfl rfl rfl rfl (Nat.le_of_ble_eq_true rfl) dX5_leftFor_11 rfl ?_
  have e_1 : fX5_leftFor β m = (fX0_pointsOfSet β ((fX0_plannedFor β m) &&& (fX0_unfinishedSet β))) := by rw [fX5_leftFor]
  exact g_iret C hE (by rw [e_1]) rfl dX5_leftFor_14
def fX5_doneFor (β : BS) (m : Int32) : Int32 :=
  (fX0_pointsOfSet β ((fX0_plannedFor β m) &&& (fX0_inState β 3)))
theorem caX5_doneFor : gCalS yX5_doneFor cX5_doneFor 2 (some .int) 2 := ⟨⟨q2_104, q1_10, by decide +kernel⟩, q2_103⟩
set_option maxHeartbeats 4000000 in
set_option maxRecDepth 100000 in
theorem kX5_doneFor (l : Launch) (E : gE) (ad : Nat → Nat) (β : BS) (hv : vB β)  (m : Int32) : MC l E yX5_doneFor cX5_doneFor 2 (some .int) 3 65 [.ref (ad 0), .int m] [wB E ad β] (some (.int (fX5_doneFor β m))) [wB E ad β] := by
  have hv1 : cnt β ≤ 20 := hv.1
  refine mc_of (by decide +kernel) (Nat.le_of_ble_eq_true rfl) (lv := [(0, .ref (ad 0)), (1, .int m)]) rfl (fun X C hE => ?_)
  refine g_aload_n C dX5_doneFor_0 rfl 0 rfl ?_
  refine g_aload_n C dX5_doneFor_1 rfl 0 rfl ?_
  refine g_iload_n C dX5_doneFor_2 rfl 1 rfl ?_
  refine g_callV C (cs1 := [wB E ad β]) (st1 := [.int (fX0_plannedFor β m), .ref (ad 0)]) [.int m] [0] (kX0_plannedFor l E ad β hv m) caX0_plannedFor q2_105 rfl ⟨Nat.le_of_ble_eq_true rfl, Nat.le_of_ble_eq_true rfl⟩ ⟨Nat.zero_le _, Nat.zero_le _⟩ 0 0 rfl rfl rfl rfl (by decide) rfl rfl rfl rfl (Nat.le_of_ble_eq_true rfl) dX5_doneFor_3 rfl ?_
  refine g_aload_n C dX5_doneFor_6 rfl 0 rfl ?_
  refine g_iconst C (v := 3) dX5_doneFor_7 (by decide) ?_
  refine g_callV C (cs1 := [wB E ad β]) (st1 := [.int (fX0_inState β 3), .int (fX0_plannedFor β m), .ref (ad 0)]) [.int 3] [0] (kX0_inState l E ad β hv 3) caX0_inState q2_116 rfl ⟨Nat.le_of_ble_eq_true rfl, Nat.le_of_ble_eq_true rfl⟩ ⟨Nat.zero_le _, Nat.zero_le _⟩ 0 0 rfl rfl rfl rfl (by decide) rfl rfl rfl rfl (Nat.le_of_ble_eq_true rfl) dX5_doneFor_8 rfl ?_
  refine g_iand C dX5_doneFor_11 ?_
  refine g_callV C (cs1 := [wB E ad β]) (st1 := [.int (fX0_pointsOfSet β ((fX0_plannedFor β m) &&& (fX0_inState β 3)))]) [.int ((fX0_plannedFor β m) &&& (fX0_inState β 3))] [0] (kX0_pointsOfSet l E ad β hv ((fX0_plannedFor β m) &&& (fX0_inState β 3))) caX0_pointsOfSet q2_120 rfl ⟨Nat.le_of_ble_eq_true rfl, Nat.le_of_ble_eq_true rfl⟩ ⟨Nat.zero_le _, Nat.zero_le _⟩ 0 0 rfl rfl rfl rfl (by decide) rfl rfl rfl rfl (Nat.le_of_ble_eq_true rfl) dX5_doneFor_12 rfl ?_
  have e_1 : fX5_doneFor β m = (fX0_pointsOfSet β ((fX0_plannedFor β m) &&& (fX0_inState β 3))) := by rw [fX5_doneFor]
  exact g_iret C hE (by rw [e_1]) rfl dX5_doneFor_15
def fX5_hundredthsFor (β : BS) (m : Int32) : Int32 :=
  if ((fX5_doneFor β m) + (fX5_leftFor β m)) = 0 then 100 else ((fX5_doneFor β m) * 100) / ((fX5_doneFor β m) + (fX5_leftFor β m))
theorem caX5_hundredthsFor : gCalS yX5_hundredthsFor cX5_hundredthsFor 4 (some .int) 2 := ⟨⟨q2_101, q1_10, by decide +kernel⟩, q2_100⟩
set_option maxHeartbeats 4000000 in
set_option maxRecDepth 100000 in
theorem kX5_hundredthsFor (l : Launch) (E : gE) (ad : Nat → Nat) (β : BS) (hv : vB β)  (m : Int32) : MC l E yX5_hundredthsFor cX5_hundredthsFor 4 (some .int) 4 86 [.ref (ad 0), .int m] [wB E ad β] (some (.int (fX5_hundredthsFor β m))) [wB E ad β] := by
  have hv1 : cnt β ≤ 20 := hv.1
  refine mc_of (by decide +kernel) (Nat.le_of_ble_eq_true rfl) (lv := [(0, .ref (ad 0)), (1, .int m)]) rfl (fun X C hE => ?_)
  refine g_aload_n C dX5_hundredthsFor_0 rfl 0 rfl ?_
  refine g_iload_n C dX5_hundredthsFor_1 rfl 1 rfl ?_
  refine g_callS C (cs1 := [wB E ad β]) (st1 := [.int (fX5_doneFor β m)]) [.ref (ad 0), .int m] [0] (kX5_doneFor l E ad β hv m) caX5_doneFor q2_102 rfl ⟨Nat.le_of_ble_eq_true rfl, Nat.le_of_ble_eq_true rfl⟩ ⟨Nat.zero_le _, Nat.zero_le _⟩ (by decide) rfl rfl rfl rfl (Nat.le_of_ble_eq_true rfl) dX5_hundredthsFor_2 rfl ?_
  refine g_istore_n C (lv1 := [(2, .int (fX5_doneFor β m)), (0, .ref (ad 0)), (1, .int m)]) dX5_hundredthsFor_5 rfl (by decide) rfl ?_
  refine g_iload_n C dX5_hundredthsFor_6 rfl 0 rfl ?_
  refine g_aload_n C dX5_hundredthsFor_7 rfl 1 rfl ?_
  refine g_iload_n C dX5_hundredthsFor_8 rfl 2 rfl ?_
  refine g_callS C (cs1 := [wB E ad β]) (st1 := [.int (fX5_leftFor β m), .int (fX5_doneFor β m)]) [.ref (ad 0), .int m] [0] (kX5_leftFor l E ad β hv m) caX5_leftFor q2_127 rfl ⟨Nat.le_of_ble_eq_true rfl, Nat.le_of_ble_eq_true rfl⟩ ⟨Nat.zero_le _, Nat.zero_le _⟩ (by decide) rfl rfl rfl rfl (Nat.le_of_ble_eq_true rfl) dX5_hundredthsFor_9 rfl ?_
  refine g_iadd C dX5_hundredthsFor_12 ?_
  refine g_istore_n C (lv1 := [(3, .int ((fX5_doneFor β m) + (fX5_leftFor β m))), (2, .int (fX5_doneFor β m)), (0, .ref (ad 0)), (1, .int m)]) dX5_hundredthsFor_13 rfl (by decide) rfl ?_
  refine g_iload_n C dX5_hundredthsFor_14 rfl 0 rfl ?_
  refine g_if_ne C 23 dX5_hundredthsFor_15 (by decide) (fun c_1 => ?_) (fun c_1 => ?_)
  · skip
    have hne := c_1
    refine g_iload_n C dX5_hundredthsFor_23 rfl 1 rfl ?_
    refine g_bipush C (v := 100) dX5_hundredthsFor_24 (by decide) ?_
    refine g_imul C dX5_hundredthsFor_26 ?_
    refine g_iload_n C dX5_hundredthsFor_27 rfl 0 rfl ?_
    refine g_idiv C dX5_hundredthsFor_28 hne ?_
    have e_2 : fX5_hundredthsFor β m = ((fX5_doneFor β m) * 100) / ((fX5_doneFor β m) + (fX5_leftFor β m)) := by rw [fX5_hundredthsFor]; rw [if_neg c_1]
    exact g_iret C hE (by rw [e_2]) rfl dX5_hundredthsFor_29
  · skip
    refine g_bipush C (v := 100) dX5_hundredthsFor_18 (by decide) ?_
    refine g_goto C 29 dX5_hundredthsFor_20 (by decide) ?_
    have e_3 : fX5_hundredthsFor β m = 100 := by rw [fX5_hundredthsFor]; rw [if_pos c_1]
    exact g_iret C hE (by rw [e_3]) rfl dX5_hundredthsFor_29
def fX5_isOverdue (β : BS) (m : Nat) : Bool :=
  if (β.1 1) ≤ (β.2 12 m) then false else (if (fX5_leftFor β (nI m)) ≤ 0 then false else true)
theorem caX5_isOverdue : gCalS yX5_isOverdue cX5_isOverdue 2 (some .boolean) 2 := ⟨⟨q3_239, q1_10, by decide +kernel⟩, q3_238⟩
set_option maxHeartbeats 4000000 in
set_option maxRecDepth 100000 in
theorem kX5_isOverdue (l : Launch) (E : gE) (ad : Nat → Nat) (β : BS) (hv : vB β)  (m : Nat) (hm : m < 4) : MC l E yX5_isOverdue cX5_isOverdue 2 (some .boolean) 4 86 [.ref (ad 0), .int (nI m)] [wB E ad β] (some (.int (b2i (fX5_isOverdue β m)))) [wB E ad β] := by
  have hv1 : cnt β ≤ 20 := hv.1
  refine mc_of (by decide +kernel) (Nat.le_of_ble_eq_true rfl) (lv := [(0, .ref (ad 0)), (1, .int (nI m))]) rfl (fun X C hE => ?_)
  refine g_aload_n C dX5_isOverdue_0 rfl 0 rfl ?_
  refine g_getf C (T := TX0) (N := 17) 0 0 rfl rfl rfl inX0 1 (by decide) q1_35 rfl dX5_isOverdue_1 ?_
  refine g_aload_n C dX5_isOverdue_4 rfl 0 rfl ?_
  refine g_getf C (T := TX0) (N := 17) 0 0 rfl rfl rfl inX0 16 (by decide) q1_70 rfl dX5_isOverdue_5 ?_
  refine g_iload_n C dX5_isOverdue_8 rfl 1 rfl ?_
  refine g_ialdn C 0 13 m rfl rfl rfl (by omega) (by decide) dX5_isOverdue_9 ?_
  refine g_icmp_le C 25 dX5_isOverdue_10 (by decide) (fun c_1 => ?_) (fun c_1 => ?_)
  · skip
    refine g_iconst C (v := 0) dX5_isOverdue_25 (by decide) ?_
    have e_2 : fX5_isOverdue β m = false := by rw [fX5_isOverdue]; rw [if_pos c_1]
    exact g_zret (b := false) C hE (by rw [e_2]) rfl rfl dX5_isOverdue_26
  · skip
    refine g_aload_n C dX5_isOverdue_13 rfl 0 rfl ?_
    refine g_iload_n C dX5_isOverdue_14 rfl 1 rfl ?_
    refine g_callS C (cs1 := [wB E ad β]) (st1 := [.int (fX5_leftFor β (nI m))]) [.ref (ad 0), .int (nI m)] [0] (kX5_leftFor l E ad β hv (nI m)) caX5_leftFor q2_127 rfl ⟨Nat.le_of_ble_eq_true rfl, Nat.le_of_ble_eq_true rfl⟩ ⟨Nat.zero_le _, Nat.zero_le _⟩ (by decide) rfl rfl rfl rfl (Nat.le_of_ble_eq_true rfl) dX5_isOverdue_15 rfl ?_
    refine g_if_le C 25 dX5_isOverdue_18 (by decide) (fun c_3 => ?_) (fun c_3 => ?_)
    · skip
      refine g_iconst C (v := 0) dX5_isOverdue_25 (by decide) ?_
      have e_4 : fX5_isOverdue β m = false := by rw [fX5_isOverdue]; rw [if_neg c_1, if_pos c_3]
      exact g_zret (b := false) C hE (by rw [e_4]) rfl rfl dX5_isOverdue_26
    · skip
      refine g_iconst C (v := 1) dX5_isOverdue_21 (by decide) ?_
      refine g_goto C 26 dX5_isOverdue_22 (by decide) ?_
      have e_5 : fX5_isOverdue β m = true := by rw [fX5_isOverdue]; rw [if_neg c_1, if_neg c_3]
      exact g_zret (b := true) C hE (by rw [e_5]) rfl rfl dX5_isOverdue_26
def fX5_overdueMilestones_L4 (β : BS) (i4 : Nat) (t4 : Int32) : Int32 :=
  if (fX5_isOverdue β i4) = true then t4 + 1 else t4
def fX5_overdueMilestones (β : BS) : Int32 :=
  (lpF (fX5_overdueMilestones_L4 β) 0 4)
theorem caX5_overdueMilestones : gCalS yX5_overdueMilestones cX5_overdueMilestones 3 (some .int) 1 := ⟨⟨q4_20, q1_10, by decide +kernel⟩, q4_19⟩
set_option maxHeartbeats 4000000 in
set_option maxRecDepth 100000 in
theorem kX5_overdueMilestones (l : Launch) (E : gE) (ad : Nat → Nat) (β : BS) (hv : vB β)   : MC l E yX5_overdueMilestones cX5_overdueMilestones 3 (some .int) 5 107 [.ref (ad 0)] [wB E ad β] (some (.int (fX5_overdueMilestones β))) [wB E ad β] := by
  have hv1 : cnt β ≤ 20 := hv.1
  refine mc_of (by decide +kernel) (Nat.le_of_ble_eq_true rfl) (lv := [(0, .ref (ad 0))]) rfl (fun X C hE => ?_)
  refine g_iconst C (v := 0) dX5_overdueMilestones_0 (by decide) ?_
  refine g_istore_n C (lv1 := [(1, .int 0), (0, .ref (ad 0))]) dX5_overdueMilestones_1 rfl (by decide) rfl ?_
  refine g_iconst C (v := 0) dX5_overdueMilestones_2 (by decide) ?_
  refine g_istore_n C (lv1 := [(2, .int 0), (1, .int 0), (0, .ref (ad 0))]) dX5_overdueMilestones_3 rfl (by decide) rfl ?_
  have hL_3 : ∀ d_1 i4 : Nat, i4 + d_1 = 4 → G X 0 0 [wB E ad β] [(0, .ref (ad 0)), (1, .int (lpF (fX5_overdueMilestones_L4 β) 0 i4)), (2, .int (nI i4))] 4 [] := by
    intro d_1
    induction d_1 with
    | zero =>
      intro i4 hi_2
      obtain rfl : i4 = 4 := by omega
      refine g_iload_n C dX5_overdueMilestones_4 rfl 2 rfl ?_
      refine g_iconst C (v := 4) dX5_overdueMilestones_5 (by decide) ?_
      refine g_icmp_ge C 26 dX5_overdueMilestones_6 (by decide) (fun c_5 => ?_) (fun c_5 => ?_)
      · skip
        refine g_iload_n C dX5_overdueMilestones_26 rfl 1 rfl ?_
        have e_6 : fX5_overdueMilestones β = (lpF (fX5_overdueMilestones_L4 β) 0 4) := by rw [fX5_overdueMilestones]
        exact g_iret C hE (by rw [e_6]) rfl dX5_overdueMilestones_27
      · exact absurd (lc_le rfl nI_l4 (by omega) (by omega)) c_5
    | succ d_1 ih_4 =>
      intro i4 hi_2
      refine g_iload_n C dX5_overdueMilestones_4 rfl 2 rfl ?_
      refine g_iconst C (v := 4) dX5_overdueMilestones_5 (by decide) ?_
      refine g_icmp_ge C 26 dX5_overdueMilestones_6 (by decide) (fun c_7 => ?_) (fun c_7 => ?_)
      · exact absurd c_7 (lc_nle rfl nI_l4 (by omega) (by omega))
      · skip
        refine g_aload_n C dX5_overdueMilestones_9 rfl 0 rfl ?_
        refine g_iload_n C dX5_overdueMilestones_10 rfl 2 rfl ?_
        refine g_callS C (cs1 := [wB E ad β]) (st1 := [.int (b2i (fX5_isOverdue β i4))]) [.ref (ad 0), .int (nI i4)] [0] (kX5_isOverdue l E ad β hv i4 (by omega)) caX5_isOverdue q4_21 rfl ⟨Nat.le_of_ble_eq_true rfl, Nat.le_of_ble_eq_true rfl⟩ ⟨Nat.zero_le _, Nat.zero_le _⟩ (by decide) rfl rfl rfl rfl (Nat.le_of_ble_eq_true rfl) dX5_overdueMilestones_11 rfl ?_
        refine g_ifB_eq C 20 dX5_overdueMilestones_14 (by decide) (fun c_8 => ?_) (fun c_8 => ?_)
        · skip
          refine g_iinc C (v := nI (i4 + 1)) (lv1 := [(2, .int (nI (i4 + 1))), (0, .ref (ad 0)), (1, .int (lpF (fX5_overdueMilestones_L4 β) 0 i4))]) dX5_overdueMilestones_20 2 rfl (nI_1 i4) (by decide) rfl ?_
          refine g_goto C 4 dX5_overdueMilestones_23 (by decide) ?_
          have e_9 : (lpF (fX5_overdueMilestones_L4 β) 0 (i4 + 1)) = (lpF (fX5_overdueMilestones_L4 β) 0 i4) := by
            rw [lpF_1, fX5_overdueMilestones_L4]; rw [if_neg (ne_true_of_eq_false c_8)]
          have h_10 := ih_4 (i4 + 1) (by omega)
          rw [e_9] at h_10
          exact g_sub [1, 2, 0] rfl h_10
        · skip
          refine g_iinc C (v := (lpF (fX5_overdueMilestones_L4 β) 0 i4) + 1) (lv1 := [(1, .int ((lpF (fX5_overdueMilestones_L4 β) 0 i4) + 1)), (0, .ref (ad 0)), (2, .int (nI i4))]) dX5_overdueMilestones_17 1 rfl rfl (by decide) rfl ?_
          refine g_iinc C (v := nI (i4 + 1)) (lv1 := [(2, .int (nI (i4 + 1))), (1, .int ((lpF (fX5_overdueMilestones_L4 β) 0 i4) + 1)), (0, .ref (ad 0))]) dX5_overdueMilestones_20 2 rfl (nI_1 i4) (by decide) rfl ?_
          refine g_goto C 4 dX5_overdueMilestones_23 (by decide) ?_
          have e_11 : (lpF (fX5_overdueMilestones_L4 β) 0 (i4 + 1)) = (lpF (fX5_overdueMilestones_L4 β) 0 i4) + 1 := by
            rw [lpF_1, fX5_overdueMilestones_L4]; rw [if_pos c_8]
          have h_12 := ih_4 (i4 + 1) (by omega)
          rw [e_11] at h_12
          exact g_sub [2, 1, 0] rfl h_12
  refine g_sub [2, 1, 0] (lv1 := [(0, .ref (ad 0)), (1, .int 0), (2, .int 0)]) rfl ?_
  exact hL_3 4 0 (by omega)
def fX5_plannedBy_L4 (β : BS) (d : Int32) (i4 : Nat) (t4 : Int32) : Int32 :=
  if d < (β.2 12 i4) then t4 else t4 ||| (fX0_plannedFor β (nI i4))
def fX5_plannedBy (β : BS) (d : Int32) : Int32 :=
  (lpF (fX5_plannedBy_L4 β d) 0 4)
def fX5_plannedTooEarly (β : BS) (m : Nat) : Int32 :=
  (fJ6_bitCount_0f7a4 ((fX0_thoseThatNeedAny β ((fX0_unfinishedSet β) &&& ((fX5_plannedBy β (β.2 12 m)) ^^^ (-1)))) &&& ((fX0_plannedFor β (nI m)) &&& (fX0_unfinishedSet β))))
def fX5_blockedAndUnfinished (β : BS) : Int32 :=
  (fJ6_bitCount_0f7a4 ((fX0_blockedSet β) &&& (fX0_unfinishedSet β)))
theorem caX5_blockedAndUnfinished : gCalS yX5_blockedAndUnfinished cX5_blockedAndUnfinished 1 (some .int) 1 := ⟨⟨q4_11, q1_10, by decide +kernel⟩, q4_10⟩
set_option maxHeartbeats 4000000 in
set_option maxRecDepth 100000 in
theorem kX5_blockedAndUnfinished (l : Launch) (E : gE) (ad : Nat → Nat) (β : BS) (hv : vB β)   : MC l E yX5_blockedAndUnfinished cX5_blockedAndUnfinished 1 (some .int) 3 63 [.ref (ad 0)] [wB E ad β] (some (.int (fX5_blockedAndUnfinished β))) [wB E ad β] := by
  have hv1 : cnt β ≤ 20 := hv.1
  refine mc_of (by decide +kernel) (Nat.le_of_ble_eq_true rfl) (lv := [(0, .ref (ad 0))]) rfl (fun X C hE => ?_)
  refine g_aload_n C dX5_blockedAndUnfinished_0 rfl 0 rfl ?_
  refine g_callV C (cs1 := [wB E ad β]) (st1 := [.int (fX0_blockedSet β)]) [] [0] (kX0_blockedSet l E ad β hv) caX0_blockedSet q4_12 rfl ⟨Nat.le_of_ble_eq_true rfl, Nat.le_of_ble_eq_true rfl⟩ ⟨Nat.zero_le _, Nat.zero_le _⟩ 0 0 rfl rfl rfl rfl (by decide) rfl rfl rfl rfl (Nat.le_of_ble_eq_true rfl) dX5_blockedAndUnfinished_1 rfl ?_
  refine g_aload_n C dX5_blockedAndUnfinished_4 rfl 0 rfl ?_
  refine g_callV C (cs1 := [wB E ad β]) (st1 := [.int (fX0_unfinishedSet β), .int (fX0_blockedSet β)]) [] [0] (kX0_unfinishedSet l E ad β hv) caX0_unfinishedSet q2_130 rfl ⟨Nat.le_of_ble_eq_true rfl, Nat.le_of_ble_eq_true rfl⟩ ⟨Nat.zero_le _, Nat.zero_le _⟩ 0 0 rfl rfl rfl rfl (by decide) rfl rfl rfl rfl (Nat.le_of_ble_eq_true rfl) dX5_blockedAndUnfinished_5 rfl ?_
  refine g_iand C dX5_blockedAndUnfinished_8 ?_
  refine g_callS C (cs1 := [wB E ad β]) (st1 := [.int (fJ6_bitCount_0f7a4 ((fX0_blockedSet β) &&& (fX0_unfinishedSet β)))]) [.int ((fX0_blockedSet β) &&& (fX0_unfinishedSet β))] [] (kJ6_bitCount_0f7a4 l E ((fX0_blockedSet β) &&& (fX0_unfinishedSet β))) caJ6_bitCount_0f7a4 q4_13 rfl ⟨Nat.le_of_ble_eq_true rfl, Nat.le_of_ble_eq_true rfl⟩ ⟨Nat.zero_le _, Nat.zero_le _⟩ (by decide) rfl rfl rfl rfl (Nat.le_of_ble_eq_true rfl) dX5_blockedAndUnfinished_9 rfl ?_
  have e_1 : fX5_blockedAndUnfinished β = (fJ6_bitCount_0f7a4 ((fX0_blockedSet β) &&& (fX0_unfinishedSet β))) := by rw [fX5_blockedAndUnfinished]
  exact g_iret C hE (by rw [e_1]) rfl dX5_blockedAndUnfinished_12
def fX5_closedInWeek_L4 (β : BS) (i4 : Nat) (t4 : Int32) : Int32 :=
  if (β.2 0 i4) = 3 then (if (β.2 6 i4) < ((β.1 1) - 6) then t4 else t4 + (β.2 1 i4)) else t4
def fX5_closedInWeek (β : BS) : Int32 :=
  (lpF (fX5_closedInWeek_L4 β) 0 (cnt β))
theorem caX5_closedInWeek : gCalS yX5_closedInWeek cX5_closedInWeek 3 (some .int) 1 := ⟨⟨q4_39, q1_10, by decide +kernel⟩, q4_38⟩
set_option maxHeartbeats 4000000 in
set_option maxRecDepth 100000 in
theorem kX5_closedInWeek (l : Launch) (E : gE) (ad : Nat → Nat) (β : BS) (hv : vB β)   : MC l E yX5_closedInWeek cX5_closedInWeek 3 (some .int) 0 0 [.ref (ad 0)] [wB E ad β] (some (.int (fX5_closedInWeek β))) [wB E ad β] := by
  have hv1 : cnt β ≤ 20 := hv.1
  refine mc_of (by decide +kernel) (Nat.le_of_ble_eq_true rfl) (lv := [(0, .ref (ad 0))]) rfl (fun X C hE => ?_)
  refine g_iconst C (v := 0) dX5_closedInWeek_0 (by decide) ?_
  refine g_istore_n C (lv1 := [(1, .int 0), (0, .ref (ad 0))]) dX5_closedInWeek_1 rfl (by decide) rfl ?_
  refine g_iconst C (v := 0) dX5_closedInWeek_2 (by decide) ?_
  refine g_istore_n C (lv1 := [(2, .int 0), (1, .int 0), (0, .ref (ad 0))]) dX5_closedInWeek_3 rfl (by decide) rfl ?_
  have hL_3 : ∀ d_1 i4 : Nat, i4 + d_1 = (cnt β) → G X 0 0 [wB E ad β] [(0, .ref (ad 0)), (1, .int (lpF (fX5_closedInWeek_L4 β) 0 i4)), (2, .int (nI i4))] 4 [] := by
    intro d_1
    induction d_1 with
    | zero =>
      intro i4 hi_2
      obtain rfl : i4 = (cnt β) := by omega
      refine g_iload_n C dX5_closedInWeek_4 rfl 2 rfl ?_
      refine g_aload_n C dX5_closedInWeek_5 rfl 0 rfl ?_
      refine g_getf C (T := TX0) (N := 17) 0 0 rfl rfl rfl inX0 0 (by decide) q1_32 rfl dX5_closedInWeek_6 ?_
      refine g_icmp_ge C 53 dX5_closedInWeek_9 (by decide) (fun c_5 => ?_) (fun c_5 => ?_)
      · skip
        refine g_iload_n C dX5_closedInWeek_53 rfl 1 rfl ?_
        have e_6 : fX5_closedInWeek β = (lpF (fX5_closedInWeek_L4 β) 0 (cnt β)) := by rw [fX5_closedInWeek]
        exact g_iret C hE (by rw [e_6]) rfl dX5_closedInWeek_54
      · exact absurd (lc_le rfl hv.2.1 (by omega) (by omega)) c_5
    | succ d_1 ih_4 =>
      intro i4 hi_2
      refine g_iload_n C dX5_closedInWeek_4 rfl 2 rfl ?_
      refine g_aload_n C dX5_closedInWeek_5 rfl 0 rfl ?_
      refine g_getf C (T := TX0) (N := 17) 0 0 rfl rfl rfl inX0 0 (by decide) q1_32 rfl dX5_closedInWeek_6 ?_
      refine g_icmp_ge C 53 dX5_closedInWeek_9 (by decide) (fun c_7 => ?_) (fun c_7 => ?_)
      · exact absurd c_7 (lc_nle rfl hv.2.1 (by omega) (by omega))
      · skip
        refine g_aload_n C dX5_closedInWeek_12 rfl 0 rfl ?_
        refine g_getf C (T := TX0) (N := 17) 0 0 rfl rfl rfl inX0 4 (by decide) q1_43 rfl dX5_closedInWeek_13 ?_
        refine g_iload_n C dX5_closedInWeek_16 rfl 2 rfl ?_
        refine g_ialdn C 0 1 i4 rfl rfl rfl (by omega) (by decide) dX5_closedInWeek_17 ?_
        refine g_iconst C (v := 3) dX5_closedInWeek_18 (by decide) ?_
        refine g_icmp_ne C 47 dX5_closedInWeek_19 (by decide) (fun c_8 => ?_) (fun c_8 => ?_)
        · skip
          refine g_iinc C (v := nI (i4 + 1)) (lv1 := [(2, .int (nI (i4 + 1))), (0, .ref (ad 0)), (1, .int (lpF (fX5_closedInWeek_L4 β) 0 i4))]) dX5_closedInWeek_47 2 rfl (nI_1 i4) (by decide) rfl ?_
          refine g_goto C 4 dX5_closedInWeek_50 (by decide) ?_
          have e_9 : (lpF (fX5_closedInWeek_L4 β) 0 (i4 + 1)) = (lpF (fX5_closedInWeek_L4 β) 0 i4) := by
            rw [lpF_1, fX5_closedInWeek_L4]; rw [if_neg c_8]
          have h_10 := ih_4 (i4 + 1) (by omega)
          rw [e_9] at h_10
          exact g_sub [1, 2, 0] rfl h_10
        · skip
          refine g_aload_n C dX5_closedInWeek_22 rfl 0 rfl ?_
          refine g_getf C (T := TX0) (N := 17) 0 0 rfl rfl rfl inX0 10 (by decide) q1_56 rfl dX5_closedInWeek_23 ?_
          refine g_iload_n C dX5_closedInWeek_26 rfl 2 rfl ?_
          refine g_ialdn C 0 7 i4 rfl rfl rfl (by omega) (by decide) dX5_closedInWeek_27 ?_
          refine g_aload_n C dX5_closedInWeek_28 rfl 0 rfl ?_
          refine g_getf C (T := TX0) (N := 17) 0 0 rfl rfl rfl inX0 1 (by decide) q1_35 rfl dX5_closedInWeek_29 ?_
          refine g_bipush C (v := 6) dX5_closedInWeek_32 (by decide) ?_
          refine g_isub C dX5_closedInWeek_34 ?_
          refine g_icmp_lt C 47 dX5_closedInWeek_35 (by decide) (fun c_11 => ?_) (fun c_11 => ?_)
          · skip
            refine g_iinc C (v := nI (i4 + 1)) (lv1 := [(2, .int (nI (i4 + 1))), (0, .ref (ad 0)), (1, .int (lpF (fX5_closedInWeek_L4 β) 0 i4))]) dX5_closedInWeek_47 2 rfl (nI_1 i4) (by decide) rfl ?_
            refine g_goto C 4 dX5_closedInWeek_50 (by decide) ?_
            have e_12 : (lpF (fX5_closedInWeek_L4 β) 0 (i4 + 1)) = (lpF (fX5_closedInWeek_L4 β) 0 i4) := by
              rw [lpF_1, fX5_closedInWeek_L4]; rw [if_pos c_8, if_pos c_11]
            have h_13 := ih_4 (i4 + 1) (by omega)
            rw [e_12] at h_13
            exact g_sub [1, 2, 0] rfl h_13
          · skip
            refine g_iload_n C dX5_closedInWeek_38 rfl 1 rfl ?_
            refine g_aload_n C dX5_closedInWeek_39 rfl 0 rfl ?_
            refine g_getf C (T := TX0) (N := 17) 0 0 rfl rfl rfl inX0 5 (by decide) q1_46 rfl dX5_closedInWeek_40 ?_
            refine g_iload_n C dX5_closedInWeek_43 rfl 2 rfl ?_
            refine g_ialdn C 0 2 i4 rfl rfl rfl (by omega) (by decide) dX5_closedInWeek_44 ?_
            refine g_iadd C dX5_closedInWeek_45 ?_
            refine g_istore_n C (lv1 := [(1, .int ((lpF (fX5_closedInWeek_L4 β) 0 i4) + (β.2 1 i4))), (0, .ref (ad 0)), (2, .int (nI i4))]) dX5_closedInWeek_46 rfl (by decide) rfl ?_
            refine g_iinc C (v := nI (i4 + 1)) (lv1 := [(2, .int (nI (i4 + 1))), (1, .int ((lpF (fX5_closedInWeek_L4 β) 0 i4) + (β.2 1 i4))), (0, .ref (ad 0))]) dX5_closedInWeek_47 2 rfl (nI_1 i4) (by decide) rfl ?_
            refine g_goto C 4 dX5_closedInWeek_50 (by decide) ?_
            have e_14 : (lpF (fX5_closedInWeek_L4 β) 0 (i4 + 1)) = (lpF (fX5_closedInWeek_L4 β) 0 i4) + (β.2 1 i4) := by
              rw [lpF_1, fX5_closedInWeek_L4]; rw [if_pos c_8, if_neg c_11]
            have h_15 := ih_4 (i4 + 1) (by omega)
            rw [e_14] at h_15
            exact g_sub [2, 1, 0] rfl h_15
  refine g_sub [2, 1, 0] (lv1 := [(0, .ref (ad 0)), (1, .int 0), (2, .int 0)]) rfl ?_
  exact hL_3 (cnt β) 0 (by omega)
def fX5_meanProgress_L6 (β : BS) (i6 : Nat) (t6 : Int32 × Int32) : Int32 × Int32 :=
  if (β.2 0 i6) = 3 then ((t6.1) + 1, (t6.2) + (β.2 7 i6)) else (t6.1, t6.2)
def fX5_meanProgress (β : BS) : UInt64 :=
  if ((lpF (fX5_meanProgress_L6 β) (0, 0) (cnt β)).1) = 0 then 0 else FP.ddiv (FP.i2d ((lpF (fX5_meanProgress_L6 β) (0, 0) (cnt β)).2)) (FP.i2d ((lpF (fX5_meanProgress_L6 β) (0, 0) (cnt β)).1))
theorem caX5_meanProgress : gCalS yX5_meanProgress cX5_meanProgress 4 (some .double) 1 := ⟨⟨q2_148, q1_10, by decide +kernel⟩, q2_147⟩
set_option maxHeartbeats 4000000 in
set_option maxRecDepth 100000 in
theorem kX5_meanProgress (l : Launch) (E : gE) (ad : Nat → Nat) (β : BS) (hv : vB β) (hnn : gNN)   : MC l E yX5_meanProgress cX5_meanProgress 4 (some .double) 0 0 [.ref (ad 0)] [wB E ad β] (some (.double (fX5_meanProgress β))) [wB E ad β] := by
  have hv1 : cnt β ≤ 20 := hv.1
  refine mc_of (by decide +kernel) (Nat.le_of_ble_eq_true rfl) (lv := [(0, .ref (ad 0))]) rfl (fun X C hE => ?_)
  refine g_iconst C (v := 0) dX5_meanProgress_0 (by decide) ?_
  refine g_istore_n C (lv1 := [(1, .int 0), (0, .ref (ad 0))]) dX5_meanProgress_1 rfl (by decide) rfl ?_
  refine g_iconst C (v := 0) dX5_meanProgress_2 (by decide) ?_
  refine g_istore_n C (lv1 := [(2, .int 0), (1, .int 0), (0, .ref (ad 0))]) dX5_meanProgress_3 rfl (by decide) rfl ?_
  refine g_iconst C (v := 0) dX5_meanProgress_4 (by decide) ?_
  refine g_istore_n C (lv1 := [(3, .int 0), (2, .int 0), (1, .int 0), (0, .ref (ad 0))]) dX5_meanProgress_5 rfl (by decide) rfl ?_
  have hL_3 : ∀ d_1 i6 : Nat, i6 + d_1 = (cnt β) → G X 0 0 [wB E ad β] [(0, .ref (ad 0)), (1, .int ((lpF (fX5_meanProgress_L6 β) (0, 0) i6).1)), (2, .int ((lpF (fX5_meanProgress_L6 β) (0, 0) i6).2)), (3, .int (nI i6))] 6 [] := by
    intro d_1
    induction d_1 with
    | zero =>
      intro i6 hi_2
      obtain rfl : i6 = (cnt β) := by omega
      refine g_iload_n C dX5_meanProgress_6 rfl 3 rfl ?_
      refine g_aload_n C dX5_meanProgress_7 rfl 0 rfl ?_
      refine g_getf C (T := TX0) (N := 17) 0 0 rfl rfl rfl inX0 0 (by decide) q1_32 rfl dX5_meanProgress_8 ?_
      refine g_icmp_ge C 42 dX5_meanProgress_11 (by decide) (fun c_5 => ?_) (fun c_5 => ?_)
      · skip
        refine g_iload_n C dX5_meanProgress_42 rfl 1 rfl ?_
        refine g_if_ne C 50 dX5_meanProgress_43 (by decide) (fun c_6 => ?_) (fun c_6 => ?_)
        · skip
          have hne := c_6
          refine g_iload_n C dX5_meanProgress_50 rfl 2 rfl ?_
          refine g_i2d C dX5_meanProgress_51 ?_
          refine g_iload_n C dX5_meanProgress_52 rfl 1 rfl ?_
          refine g_i2d C dX5_meanProgress_53 ?_
          refine g_ddiv C dX5_meanProgress_54 (hnn _ _ hne) ?_
          have e_7 : fX5_meanProgress β = FP.ddiv (FP.i2d ((lpF (fX5_meanProgress_L6 β) (0, 0) (cnt β)).2)) (FP.i2d ((lpF (fX5_meanProgress_L6 β) (0, 0) (cnt β)).1)) := by rw [fX5_meanProgress]; rw [if_neg c_6]
          exact g_dret C hE (by rw [e_7]) rfl dX5_meanProgress_55
        · skip
          refine g_dconst0 C dX5_meanProgress_46 ?_
          refine g_goto C 55 dX5_meanProgress_47 (by decide) ?_
          have e_8 : fX5_meanProgress β = 0 := by rw [fX5_meanProgress]; rw [if_pos c_6]
          exact g_dret C hE (by rw [e_8]) rfl dX5_meanProgress_55
      · exact absurd (lc_le rfl hv.2.1 (by omega) (by omega)) c_5
    | succ d_1 ih_4 =>
      intro i6 hi_2
      refine g_iload_n C dX5_meanProgress_6 rfl 3 rfl ?_
      refine g_aload_n C dX5_meanProgress_7 rfl 0 rfl ?_
      refine g_getf C (T := TX0) (N := 17) 0 0 rfl rfl rfl inX0 0 (by decide) q1_32 rfl dX5_meanProgress_8 ?_
      refine g_icmp_ge C 42 dX5_meanProgress_11 (by decide) (fun c_9 => ?_) (fun c_9 => ?_)
      · exact absurd c_9 (lc_nle rfl hv.2.1 (by omega) (by omega))
      · skip
        refine g_aload_n C dX5_meanProgress_14 rfl 0 rfl ?_
        refine g_getf C (T := TX0) (N := 17) 0 0 rfl rfl rfl inX0 4 (by decide) q1_43 rfl dX5_meanProgress_15 ?_
        refine g_iload_n C dX5_meanProgress_18 rfl 3 rfl ?_
        refine g_ialdn C 0 1 i6 rfl rfl rfl (by omega) (by decide) dX5_meanProgress_19 ?_
        refine g_iconst C (v := 3) dX5_meanProgress_20 (by decide) ?_
        refine g_icmp_ne C 36 dX5_meanProgress_21 (by decide) (fun c_10 => ?_) (fun c_10 => ?_)
        · skip
          refine g_iinc C (v := nI (i6 + 1)) (lv1 := [(3, .int (nI (i6 + 1))), (0, .ref (ad 0)), (1, .int ((lpF (fX5_meanProgress_L6 β) (0, 0) i6).1)), (2, .int ((lpF (fX5_meanProgress_L6 β) (0, 0) i6).2))]) dX5_meanProgress_36 3 rfl (nI_1 i6) (by decide) rfl ?_
          refine g_goto C 6 dX5_meanProgress_39 (by decide) ?_
          have e_11 : (lpF (fX5_meanProgress_L6 β) (0, 0) (i6 + 1)) = ((lpF (fX5_meanProgress_L6 β) (0, 0) i6).1, (lpF (fX5_meanProgress_L6 β) (0, 0) i6).2) := by
            rw [lpF_1, fX5_meanProgress_L6]; rw [if_neg c_10]
          have h_12 := ih_4 (i6 + 1) (by omega)
          rw [e_11] at h_12
          exact g_sub [1, 2, 3, 0] rfl h_12
        · skip
          refine g_iinc C (v := ((lpF (fX5_meanProgress_L6 β) (0, 0) i6).1) + 1) (lv1 := [(1, .int (((lpF (fX5_meanProgress_L6 β) (0, 0) i6).1) + 1)), (0, .ref (ad 0)), (2, .int ((lpF (fX5_meanProgress_L6 β) (0, 0) i6).2)), (3, .int (nI i6))]) dX5_meanProgress_24 1 rfl rfl (by decide) rfl ?_
          refine g_iload_n C dX5_meanProgress_27 rfl 2 rfl ?_
          refine g_aload_n C dX5_meanProgress_28 rfl 1 rfl ?_
          refine g_getf C (T := TX0) (N := 17) 0 0 rfl rfl rfl inX0 11 (by decide) q1_58 rfl dX5_meanProgress_29 ?_
          refine g_iload_n C dX5_meanProgress_32 rfl 3 rfl ?_
          refine g_ialdn C 0 8 i6 rfl rfl rfl (by omega) (by decide) dX5_meanProgress_33 ?_
          refine g_iadd C dX5_meanProgress_34 ?_
          refine g_istore_n C (lv1 := [(2, .int (((lpF (fX5_meanProgress_L6 β) (0, 0) i6).2) + (β.2 7 i6))), (1, .int (((lpF (fX5_meanProgress_L6 β) (0, 0) i6).1) + 1)), (0, .ref (ad 0)), (3, .int (nI i6))]) dX5_meanProgress_35 rfl (by decide) rfl ?_
          refine g_iinc C (v := nI (i6 + 1)) (lv1 := [(3, .int (nI (i6 + 1))), (2, .int (((lpF (fX5_meanProgress_L6 β) (0, 0) i6).2) + (β.2 7 i6))), (1, .int (((lpF (fX5_meanProgress_L6 β) (0, 0) i6).1) + 1)), (0, .ref (ad 0))]) dX5_meanProgress_36 3 rfl (nI_1 i6) (by decide) rfl ?_
          refine g_goto C 6 dX5_meanProgress_39 (by decide) ?_
          have e_13 : (lpF (fX5_meanProgress_L6 β) (0, 0) (i6 + 1)) = (((lpF (fX5_meanProgress_L6 β) (0, 0) i6).1) + 1, ((lpF (fX5_meanProgress_L6 β) (0, 0) i6).2) + (β.2 7 i6)) := by
            rw [lpF_1, fX5_meanProgress_L6]; rw [if_pos c_10]
          have h_14 := ih_4 (i6 + 1) (by omega)
          rw [e_13] at h_14
          exact g_sub [3, 2, 1, 0] rfl h_14
  refine g_sub [3, 2, 1, 0] (lv1 := [(0, .ref (ad 0)), (1, .int 0), (2, .int 0), (3, .int 0)]) rfl ?_
  exact hL_3 (cnt β) 0 (by omega)
