def fX6_setOf (t : Int32) : Int32 :=
  1 <<< (t &&& 31)
theorem caX6_setOf : gCalS yX6_setOf cX6_setOf 1 (some .int) 1 := ⟨⟨q2_115, q1_1, by decide +kernel⟩, q2_114⟩
set_option maxHeartbeats 4000000 in
set_option maxRecDepth 100000 in
theorem kX6_setOf (l : Launch) (E : gE)  (t : Int32) : MC l E yX6_setOf cX6_setOf 1 (some .int) 0 0 [.int t] [] (some (.int (fX6_setOf t))) [] := by
  refine mc_of (by decide +kernel) (Nat.le_of_ble_eq_true rfl) (lv := [(0, .int t)]) rfl (fun X C hE => ?_)
  refine g_iconst C (v := 1) dX6_setOf_0 (by decide) ?_
  refine g_iload_n C dX6_setOf_1 rfl 0 rfl ?_
  refine g_ishl C dX6_setOf_2 ?_
  have e_1 : fX6_setOf t = 1 <<< (t &&& 31) := by rw [fX6_setOf]
  exact g_iret C hE (by rw [e_1]) rfl dX6_setOf_3
def fX6_isIn (a : Int32) (t : Int32) : Bool :=
  if (a &&& (1 <<< (t &&& 31))) = 0 then false else true
theorem caX6_isIn : gCalS yX6_isIn cX6_isIn 2 (some .boolean) 2 := ⟨⟨q2_126, q1_1, by decide +kernel⟩, q2_125⟩
set_option maxHeartbeats 4000000 in
set_option maxRecDepth 100000 in
theorem kX6_isIn (l : Launch) (E : gE)  (a : Int32) (t : Int32) : MC l E yX6_isIn cX6_isIn 2 (some .boolean) 0 0 [.int a, .int t] [] (some (.int (b2i (fX6_isIn a t)))) [] := by
  refine mc_of (by decide +kernel) (Nat.le_of_ble_eq_true rfl) (lv := [(0, .int a), (1, .int t)]) rfl (fun X C hE => ?_)
  refine g_iload_n C dX6_isIn_0 rfl 0 rfl ?_
  refine g_iconst C (v := 1) dX6_isIn_1 (by decide) ?_
  refine g_iload_n C dX6_isIn_2 rfl 1 rfl ?_
  refine g_ishl C dX6_isIn_3 ?_
  refine g_iand C dX6_isIn_4 ?_
  refine g_if_eq C 12 dX6_isIn_5 (by decide) (fun c_1 => ?_) (fun c_1 => ?_)
  · skip
    refine g_iconst C (v := 0) dX6_isIn_12 (by decide) ?_
    have e_2 : fX6_isIn a t = false := by rw [fX6_isIn]; rw [if_pos c_1]
    exact g_zret (b := false) C hE (by rw [e_2]) rfl rfl dX6_isIn_13
  · skip
    refine g_iconst C (v := 1) dX6_isIn_8 (by decide) ?_
    refine g_goto C 13 dX6_isIn_9 (by decide) ?_
    have e_3 : fX6_isIn a t = true := by rw [fX6_isIn]; rw [if_neg c_1]
    exact g_zret (b := true) C hE (by rw [e_3]) rfl rfl dX6_isIn_13
def fX6_within (v : Int32) (a : Int32) (b : Int32) : Bool :=
  if v < a then false else (if b < v then false else true)
theorem caX6_within : gCalS yX6_within cX6_within 3 (some .boolean) 3 := ⟨⟨q2_68, q1_1, by decide +kernel⟩, q2_67⟩
set_option maxHeartbeats 4000000 in
set_option maxRecDepth 100000 in
theorem kX6_within (l : Launch) (E : gE)  (v : Int32) (a : Int32) (b : Int32) : MC l E yX6_within cX6_within 3 (some .boolean) 0 0 [.int v, .int a, .int b] [] (some (.int (b2i (fX6_within v a b)))) [] := by
  refine mc_of (by decide +kernel) (Nat.le_of_ble_eq_true rfl) (lv := [(0, .int v), (1, .int a), (2, .int b)]) rfl (fun X C hE => ?_)
  refine g_iload_n C dX6_within_0 rfl 0 rfl ?_
  refine g_iload_n C dX6_within_1 rfl 1 rfl ?_
  refine g_icmp_lt C 14 dX6_within_2 (by decide) (fun c_1 => ?_) (fun c_1 => ?_)
  · skip
    refine g_iconst C (v := 0) dX6_within_14 (by decide) ?_
    have e_2 : fX6_within v a b = false := by rw [fX6_within]; rw [if_pos c_1]
    exact g_zret (b := false) C hE (by rw [e_2]) rfl rfl dX6_within_15
  · skip
    refine g_iload_n C dX6_within_5 rfl 0 rfl ?_
    refine g_iload_n C dX6_within_6 rfl 2 rfl ?_
    refine g_icmp_gt C 14 dX6_within_7 (by decide) (fun c_3 => ?_) (fun c_3 => ?_)
    · skip
      refine g_iconst C (v := 0) dX6_within_14 (by decide) ?_
      have e_4 : fX6_within v a b = false := by rw [fX6_within]; rw [if_neg c_1, if_pos c_3]
      exact g_zret (b := false) C hE (by rw [e_4]) rfl rfl dX6_within_15
    · skip
      refine g_iconst C (v := 1) dX6_within_10 (by decide) ?_
      refine g_goto C 15 dX6_within_11 (by decide) ?_
      have e_5 : fX6_within v a b = true := by rw [fX6_within]; rw [if_neg c_1, if_neg c_3]
      exact g_zret (b := true) C hE (by rw [e_5]) rfl rfl dX6_within_15
def fX6_isOwner (v : Int32) : Bool :=
  (fX6_within v 0 4)
theorem caX6_isOwner : gCalS yX6_isOwner cX6_isOwner 1 (some .boolean) 1 := ⟨⟨q2_65, q1_1, by decide +kernel⟩, q2_64⟩
set_option maxHeartbeats 4000000 in
set_option maxRecDepth 100000 in
theorem kX6_isOwner (l : Launch) (E : gE)  (v : Int32) : MC l E yX6_isOwner cX6_isOwner 1 (some .boolean) 1 22 [.int v] [] (some (.int (b2i (fX6_isOwner v)))) [] := by
  refine mc_of (by decide +kernel) (Nat.le_of_ble_eq_true rfl) (lv := [(0, .int v)]) rfl (fun X C hE => ?_)
  refine g_iload_n C dX6_isOwner_0 rfl 0 rfl ?_
  refine g_iconst C (v := 0) dX6_isOwner_1 (by decide) ?_
  refine g_iconst C (v := 4) dX6_isOwner_2 (by decide) ?_
  refine g_callS C (cs1 := []) (st1 := [.int (b2i (fX6_within v 0 4))]) [.int v, .int 0, .int 4] [] (kX6_within l E v 0 4) caX6_within q2_66 rfl ⟨Nat.le_of_ble_eq_true rfl, Nat.le_of_ble_eq_true rfl⟩ ⟨Nat.zero_le _, Nat.zero_le _⟩ (by decide) rfl rfl rfl rfl (Nat.le_of_ble_eq_true rfl) dX6_isOwner_3 rfl ?_
  have e_1 : fX6_isOwner v = (fX6_within v 0 4) := by rw [fX6_isOwner]
  exact g_zret (b := (fX6_within v 0 4)) C hE (by rw [e_1]) rfl rfl dX6_isOwner_6
def fX6_isMilestone (v : Int32) : Bool :=
  (fX6_within v 0 3)
theorem caX6_isMilestone : gCalS yX6_isMilestone cX6_isMilestone 1 (some .boolean) 1 := ⟨⟨q2_94, q1_1, by decide +kernel⟩, q2_93⟩
set_option maxHeartbeats 4000000 in
set_option maxRecDepth 100000 in
theorem kX6_isMilestone (l : Launch) (E : gE)  (v : Int32) : MC l E yX6_isMilestone cX6_isMilestone 1 (some .boolean) 1 22 [.int v] [] (some (.int (b2i (fX6_isMilestone v)))) [] := by
  refine mc_of (by decide +kernel) (Nat.le_of_ble_eq_true rfl) (lv := [(0, .int v)]) rfl (fun X C hE => ?_)
  refine g_iload_n C dX6_isMilestone_0 rfl 0 rfl ?_
  refine g_iconst C (v := 0) dX6_isMilestone_1 (by decide) ?_
  refine g_iconst C (v := 3) dX6_isMilestone_2 (by decide) ?_
  refine g_callS C (cs1 := []) (st1 := [.int (b2i (fX6_within v 0 3))]) [.int v, .int 0, .int 3] [] (kX6_within l E v 0 3) caX6_within q2_66 rfl ⟨Nat.le_of_ble_eq_true rfl, Nat.le_of_ble_eq_true rfl⟩ ⟨Nat.zero_le _, Nat.zero_le _⟩ (by decide) rfl rfl rfl rfl (Nat.le_of_ble_eq_true rfl) dX6_isMilestone_3 rfl ?_
  have e_1 : fX6_isMilestone v = (fX6_within v 0 3) := by rw [fX6_isMilestone]
  exact g_zret (b := (fX6_within v 0 3)) C hE (by rw [e_1]) rfl rfl dX6_isMilestone_6
def fX6_isSlot (v : Int32) : Bool :=
  (fX6_within v 0 1)
def fX6_mixed (a : Int64) (b : Int64) : Int64 :=
  (31 * a) + b
def fX6_oneIf (b : Bool) : Int32 :=
  if b = true then 1 else 0
def fJ6_bitCount_0f7a4 (x : Int32) : Int32 :=
  (((((((x - ((ushrF x 1) &&& 1431655765)) &&& 858993459) + ((ushrF (x - ((ushrF x 1) &&& 1431655765)) 2) &&& 858993459)) + (ushrF (((x - ((ushrF x 1) &&& 1431655765)) &&& 858993459) + ((ushrF (x - ((ushrF x 1) &&& 1431655765)) 2) &&& 858993459)) 4)) &&& 252645135) + (ushrF (((((x - ((ushrF x 1) &&& 1431655765)) &&& 858993459) + ((ushrF (x - ((ushrF x 1) &&& 1431655765)) 2) &&& 858993459)) + (ushrF (((x - ((ushrF x 1) &&& 1431655765)) &&& 858993459) + ((ushrF (x - ((ushrF x 1) &&& 1431655765)) 2) &&& 858993459)) 4)) &&& 252645135) 8)) + (ushrF ((((((x - ((ushrF x 1) &&& 1431655765)) &&& 858993459) + ((ushrF (x - ((ushrF x 1) &&& 1431655765)) 2) &&& 858993459)) + (ushrF (((x - ((ushrF x 1) &&& 1431655765)) &&& 858993459) + ((ushrF (x - ((ushrF x 1) &&& 1431655765)) 2) &&& 858993459)) 4)) &&& 252645135) + (ushrF (((((x - ((ushrF x 1) &&& 1431655765)) &&& 858993459) + ((ushrF (x - ((ushrF x 1) &&& 1431655765)) 2) &&& 858993459)) + (ushrF (((x - ((ushrF x 1) &&& 1431655765)) &&& 858993459) + ((ushrF (x - ((ushrF x 1) &&& 1431655765)) 2) &&& 858993459)) 4)) &&& 252645135) 8)) 16)) &&& 63
theorem caJ6_bitCount_0f7a4 : gCalS yJ6_bitCount_0f7a4 cJ6_bitCount_0f7a4 1 (some .int) 1 := ⟨⟨q2_239, q1_13, by decide +kernel⟩, q2_238⟩
set_option maxHeartbeats 4000000 in
set_option maxRecDepth 100000 in
theorem kJ6_bitCount_0f7a4 (l : Launch) (E : gE)  (x : Int32) : MC l E yJ6_bitCount_0f7a4 cJ6_bitCount_0f7a4 1 (some .int) 0 0 [.int x] [] (some (.int (fJ6_bitCount_0f7a4 x))) [] := by
  refine mc_of (by decide +kernel) (Nat.le_of_ble_eq_true rfl) (lv := [(0, .int x)]) rfl (fun X C hE => ?_)
  refine g_iload_n C dJ6_bitCount_0f7a4_0 rfl 0 rfl ?_
  refine g_iload_n C dJ6_bitCount_0f7a4_1 rfl 0 rfl ?_
  refine g_iconst C (v := 1) dJ6_bitCount_0f7a4_2 (by decide) ?_
  refine g_iushr C (v := ushrF x 1) dJ6_bitCount_0f7a4_3 rfl ?_
  refine g_ldcw C q3_0 dJ6_bitCount_0f7a4_4 ?_
  refine g_iand C dJ6_bitCount_0f7a4_7 ?_
  refine g_isub C dJ6_bitCount_0f7a4_8 ?_
  refine g_istore_n C (lv1 := [(0, .int (x - ((ushrF x 1) &&& 1431655765)))]) dJ6_bitCount_0f7a4_9 rfl (by decide) rfl ?_
  refine g_iload_n C dJ6_bitCount_0f7a4_10 rfl 0 rfl ?_
  refine g_ldcw C q3_1 dJ6_bitCount_0f7a4_11 ?_
  refine g_iand C dJ6_bitCount_0f7a4_14 ?_
  refine g_iload_n C dJ6_bitCount_0f7a4_15 rfl 0 rfl ?_
  refine g_iconst C (v := 2) dJ6_bitCount_0f7a4_16 (by decide) ?_
  refine g_iushr C (v := ushrF (x - ((ushrF x 1) &&& 1431655765)) 2) dJ6_bitCount_0f7a4_17 rfl ?_
  refine g_ldcw C q3_1 dJ6_bitCount_0f7a4_18 ?_
  refine g_iand C dJ6_bitCount_0f7a4_21 ?_
  refine g_iadd C dJ6_bitCount_0f7a4_22 ?_
  refine g_istore_n C (lv1 := [(0, .int (((x - ((ushrF x 1) &&& 1431655765)) &&& 858993459) + ((ushrF (x - ((ushrF x 1) &&& 1431655765)) 2) &&& 858993459)))]) dJ6_bitCount_0f7a4_23 rfl (by decide) rfl ?_
  refine g_iload_n C dJ6_bitCount_0f7a4_24 rfl 0 rfl ?_
  refine g_iload_n C dJ6_bitCount_0f7a4_25 rfl 0 rfl ?_
  refine g_iconst C (v := 4) dJ6_bitCount_0f7a4_26 (by decide) ?_
  refine g_iushr C (v := ushrF (((x - ((ushrF x 1) &&& 1431655765)) &&& 858993459) + ((ushrF (x - ((ushrF x 1) &&& 1431655765)) 2) &&& 858993459)) 4) dJ6_bitCount_0f7a4_27 rfl ?_
  refine g_iadd C dJ6_bitCount_0f7a4_28 ?_
  refine g_ldcw C q3_2 dJ6_bitCount_0f7a4_29 ?_
  refine g_iand C dJ6_bitCount_0f7a4_32 ?_
  refine g_istore_n C (lv1 := [(0, .int (((((x - ((ushrF x 1) &&& 1431655765)) &&& 858993459) + ((ushrF (x - ((ushrF x 1) &&& 1431655765)) 2) &&& 858993459)) + (ushrF (((x - ((ushrF x 1) &&& 1431655765)) &&& 858993459) + ((ushrF (x - ((ushrF x 1) &&& 1431655765)) 2) &&& 858993459)) 4)) &&& 252645135))]) dJ6_bitCount_0f7a4_33 rfl (by decide) rfl ?_
  refine g_iload_n C dJ6_bitCount_0f7a4_34 rfl 0 rfl ?_
  refine g_iload_n C dJ6_bitCount_0f7a4_35 rfl 0 rfl ?_
  refine g_bipush C (v := 8) dJ6_bitCount_0f7a4_36 (by decide) ?_
  refine g_iushr C (v := ushrF (((((x - ((ushrF x 1) &&& 1431655765)) &&& 858993459) + ((ushrF (x - ((ushrF x 1) &&& 1431655765)) 2) &&& 858993459)) + (ushrF (((x - ((ushrF x 1) &&& 1431655765)) &&& 858993459) + ((ushrF (x - ((ushrF x 1) &&& 1431655765)) 2) &&& 858993459)) 4)) &&& 252645135) 8) dJ6_bitCount_0f7a4_38 rfl ?_
  refine g_iadd C dJ6_bitCount_0f7a4_39 ?_
  refine g_istore_n C (lv1 := [(0, .int ((((((x - ((ushrF x 1) &&& 1431655765)) &&& 858993459) + ((ushrF (x - ((ushrF x 1) &&& 1431655765)) 2) &&& 858993459)) + (ushrF (((x - ((ushrF x 1) &&& 1431655765)) &&& 858993459) + ((ushrF (x - ((ushrF x 1) &&& 1431655765)) 2) &&& 858993459)) 4)) &&& 252645135) + (ushrF (((((x - ((ushrF x 1) &&& 1431655765)) &&& 858993459) + ((ushrF (x - ((ushrF x 1) &&& 1431655765)) 2) &&& 858993459)) + (ushrF (((x - ((ushrF x 1) &&& 1431655765)) &&& 858993459) + ((ushrF (x - ((ushrF x 1) &&& 1431655765)) 2) &&& 858993459)) 4)) &&& 252645135) 8)))]) dJ6_bitCount_0f7a4_40 rfl (by decide) rfl ?_
  refine g_iload_n C dJ6_bitCount_0f7a4_41 rfl 0 rfl ?_
  refine g_iload_n C dJ6_bitCount_0f7a4_42 rfl 0 rfl ?_
  refine g_bipush C (v := 16) dJ6_bitCount_0f7a4_43 (by decide) ?_
  refine g_iushr C (v := ushrF ((((((x - ((ushrF x 1) &&& 1431655765)) &&& 858993459) + ((ushrF (x - ((ushrF x 1) &&& 1431655765)) 2) &&& 858993459)) + (ushrF (((x - ((ushrF x 1) &&& 1431655765)) &&& 858993459) + ((ushrF (x - ((ushrF x 1) &&& 1431655765)) 2) &&& 858993459)) 4)) &&& 252645135) + (ushrF (((((x - ((ushrF x 1) &&& 1431655765)) &&& 858993459) + ((ushrF (x - ((ushrF x 1) &&& 1431655765)) 2) &&& 858993459)) + (ushrF (((x - ((ushrF x 1) &&& 1431655765)) &&& 858993459) + ((ushrF (x - ((ushrF x 1) &&& 1431655765)) 2) &&& 858993459)) 4)) &&& 252645135) 8)) 16) dJ6_bitCount_0f7a4_45 rfl ?_
  refine g_iadd C dJ6_bitCount_0f7a4_46 ?_
  refine g_istore_n C (lv1 := [(0, .int (((((((x - ((ushrF x 1) &&& 1431655765)) &&& 858993459) + ((ushrF (x - ((ushrF x 1) &&& 1431655765)) 2) &&& 858993459)) + (ushrF (((x - ((ushrF x 1) &&& 1431655765)) &&& 858993459) + ((ushrF (x - ((ushrF x 1) &&& 1431655765)) 2) &&& 858993459)) 4)) &&& 252645135) + (ushrF (((((x - ((ushrF x 1) &&& 1431655765)) &&& 858993459) + ((ushrF (x - ((ushrF x 1) &&& 1431655765)) 2) &&& 858993459)) + (ushrF (((x - ((ushrF x 1) &&& 1431655765)) &&& 858993459) + ((ushrF (x - ((ushrF x 1) &&& 1431655765)) 2) &&& 858993459)) 4)) &&& 252645135) 8)) + (ushrF ((((((x - ((ushrF x 1) &&& 1431655765)) &&& 858993459) + ((ushrF (x - ((ushrF x 1) &&& 1431655765)) 2) &&& 858993459)) + (ushrF (((x - ((ushrF x 1) &&& 1431655765)) &&& 858993459) + ((ushrF (x - ((ushrF x 1) &&& 1431655765)) 2) &&& 858993459)) 4)) &&& 252645135) + (ushrF (((((x - ((ushrF x 1) &&& 1431655765)) &&& 858993459) + ((ushrF (x - ((ushrF x 1) &&& 1431655765)) 2) &&& 858993459)) + (ushrF (((x - ((ushrF x 1) &&& 1431655765)) &&& 858993459) + ((ushrF (x - ((ushrF x 1) &&& 1431655765)) 2) &&& 858993459)) 4)) &&& 252645135) 8)) 16)))]) dJ6_bitCount_0f7a4_47 rfl (by decide) rfl ?_
  refine g_iload_n C dJ6_bitCount_0f7a4_48 rfl 0 rfl ?_
  refine g_bipush C (v := 63) dJ6_bitCount_0f7a4_49 (by decide) ?_
  refine g_iand C dJ6_bitCount_0f7a4_51 ?_
  have e_1 : fJ6_bitCount_0f7a4 x = (((((((x - ((ushrF x 1) &&& 1431655765)) &&& 858993459) + ((ushrF (x - ((ushrF x 1) &&& 1431655765)) 2) &&& 858993459)) + (ushrF (((x - ((ushrF x 1) &&& 1431655765)) &&& 858993459) + ((ushrF (x - ((ushrF x 1) &&& 1431655765)) 2) &&& 858993459)) 4)) &&& 252645135) + (ushrF (((((x - ((ushrF x 1) &&& 1431655765)) &&& 858993459) + ((ushrF (x - ((ushrF x 1) &&& 1431655765)) 2) &&& 858993459)) + (ushrF (((x - ((ushrF x 1) &&& 1431655765)) &&& 858993459) + ((ushrF (x - ((ushrF x 1) &&& 1431655765)) 2) &&& 858993459)) 4)) &&& 252645135) 8)) + (ushrF ((((((x - ((ushrF x 1) &&& 1431655765)) &&& 858993459) + ((ushrF (x - ((ushrF x 1) &&& 1431655765)) 2) &&& 858993459)) + (ushrF (((x - ((ushrF x 1) &&& 1431655765)) &&& 858993459) + ((ushrF (x - ((ushrF x 1) &&& 1431655765)) 2) &&& 858993459)) 4)) &&& 252645135) + (ushrF (((((x - ((ushrF x 1) &&& 1431655765)) &&& 858993459) + ((ushrF (x - ((ushrF x 1) &&& 1431655765)) 2) &&& 858993459)) + (ushrF (((x - ((ushrF x 1) &&& 1431655765)) &&& 858993459) + ((ushrF (x - ((ushrF x 1) &&& 1431655765)) 2) &&& 858993459)) 4)) &&& 252645135) 8)) 16)) &&& 63 := by rw [fJ6_bitCount_0f7a4]
  exact g_iret C hE (by rw [e_1]) rfl dJ6_bitCount_0f7a4_52
def fX0_hasTicket (β : BS) (t : Int32) : Bool :=
  if t < 0 then false else (if (β.1 0) ≤ t then false else true)
theorem caX0_hasTicket : gCalV yX0_hasTicket cX0_hasTicket 2 (some .boolean) 1 := ⟨⟨q2_200, q1_2, by decide +kernel⟩, q2_198, q2_199⟩
set_option maxHeartbeats 4000000 in
set_option maxRecDepth 100000 in
theorem kX0_hasTicket (l : Launch) (E : gE) (ad : Nat → Nat) (β : BS)  (t : Int32) : MC l E yX0_hasTicket cX0_hasTicket 2 (some .boolean) 0 0 [.ref (ad 0), .int t] [wB E ad β] (some (.int (b2i (fX0_hasTicket β t)))) [wB E ad β] := by
  refine mc_of (by decide +kernel) (Nat.le_of_ble_eq_true rfl) (lv := [(0, .ref (ad 0)), (1, .int t)]) rfl (fun X C hE => ?_)
  refine g_iload_n C dX0_hasTicket_0 rfl 1 rfl ?_
  refine g_if_lt C 16 dX0_hasTicket_1 (by decide) (fun c_1 => ?_) (fun c_1 => ?_)
  · skip
    refine g_iconst C (v := 0) dX0_hasTicket_16 (by decide) ?_
    have e_2 : fX0_hasTicket β t = false := by rw [fX0_hasTicket]; rw [if_pos c_1]
    exact g_zret (b := false) C hE (by rw [e_2]) rfl rfl dX0_hasTicket_17
  · skip
    refine g_iload_n C dX0_hasTicket_4 rfl 1 rfl ?_
    refine g_aload_n C dX0_hasTicket_5 rfl 0 rfl ?_
    refine g_getf C (T := TX0) (N := 17) 0 0 rfl rfl rfl inX0 0 (by decide) q1_31 rfl dX0_hasTicket_6 ?_
    refine g_icmp_ge C 16 dX0_hasTicket_9 (by decide) (fun c_3 => ?_) (fun c_3 => ?_)
    · skip
      refine g_iconst C (v := 0) dX0_hasTicket_16 (by decide) ?_
      have e_4 : fX0_hasTicket β t = false := by rw [fX0_hasTicket]; rw [if_neg c_1, if_pos c_3]
      exact g_zret (b := false) C hE (by rw [e_4]) rfl rfl dX0_hasTicket_17
    · skip
      refine g_iconst C (v := 1) dX0_hasTicket_12 (by decide) ?_
      refine g_goto C 17 dX0_hasTicket_13 (by decide) ?_
      have e_5 : fX0_hasTicket β t = true := by rw [fX0_hasTicket]; rw [if_neg c_1, if_neg c_3]
      exact g_zret (b := true) C hE (by rw [e_5]) rfl rfl dX0_hasTicket_17
def fX0_hasRoom (β : BS) : Bool :=
  if 20 ≤ (β.1 0) then false else true
theorem caX0_hasRoom : gCalV yX0_hasRoom cX0_hasRoom 1 (some .boolean) 0 := ⟨⟨q3_56, q1_2, by decide +kernel⟩, q3_54, q3_55⟩
set_option maxHeartbeats 4000000 in
set_option maxRecDepth 100000 in
theorem kX0_hasRoom (l : Launch) (E : gE) (ad : Nat → Nat) (β : BS)   : MC l E yX0_hasRoom cX0_hasRoom 1 (some .boolean) 0 0 [.ref (ad 0)] [wB E ad β] (some (.int (b2i (fX0_hasRoom β)))) [wB E ad β] := by
  refine mc_of (by decide +kernel) (Nat.le_of_ble_eq_true rfl) (lv := [(0, .ref (ad 0))]) rfl (fun X C hE => ?_)
  refine g_aload_n C dX0_hasRoom_0 rfl 0 rfl ?_
  refine g_getf C (T := TX0) (N := 17) 0 0 rfl rfl rfl inX0 0 (by decide) q1_31 rfl dX0_hasRoom_1 ?_
  refine g_bipush C (v := 20) dX0_hasRoom_4 (by decide) ?_
  refine g_icmp_ge C 13 dX0_hasRoom_6 (by decide) (fun c_1 => ?_) (fun c_1 => ?_)
  · skip
    refine g_iconst C (v := 0) dX0_hasRoom_13 (by decide) ?_
    have e_2 : fX0_hasRoom β = false := by rw [fX0_hasRoom]; rw [if_pos c_1]
    exact g_zret (b := false) C hE (by rw [e_2]) rfl rfl dX0_hasRoom_14
  · skip
    refine g_iconst C (v := 1) dX0_hasRoom_9 (by decide) ?_
    refine g_goto C 14 dX0_hasRoom_10 (by decide) ?_
    have e_3 : fX0_hasRoom β = true := by rw [fX0_hasRoom]; rw [if_neg c_1]
    exact g_zret (b := true) C hE (by rw [e_3]) rfl rfl dX0_hasRoom_14
def fX0_isUnfinished (β : BS) (t : Nat) : Bool :=
  if (β.2 0 t) = 3 then false else (if (β.2 0 t) = 4 then false else true)
theorem caX0_isUnfinished : gCalV yX0_isUnfinished cX0_isUnfinished 2 (some .boolean) 1 := ⟨⟨q2_137, q1_2, by decide +kernel⟩, q2_135, q2_136⟩
set_option maxHeartbeats 4000000 in
set_option maxRecDepth 100000 in
theorem kX0_isUnfinished (l : Launch) (E : gE) (ad : Nat → Nat) (β : BS)  (t : Nat) (ht : t < 20) : MC l E yX0_isUnfinished cX0_isUnfinished 2 (some .boolean) 0 0 [.ref (ad 0), .int (nI t)] [wB E ad β] (some (.int (b2i (fX0_isUnfinished β t)))) [wB E ad β] := by
  refine mc_of (by decide +kernel) (Nat.le_of_ble_eq_true rfl) (lv := [(0, .ref (ad 0)), (1, .int (nI t))]) rfl (fun X C hE => ?_)
  refine g_aload_n C dX0_isUnfinished_0 rfl 0 rfl ?_
  refine g_getf C (T := TX0) (N := 17) 0 0 rfl rfl rfl inX0 4 (by decide) q1_41 rfl dX0_isUnfinished_1 ?_
  refine g_iload_n C dX0_isUnfinished_4 rfl 1 rfl ?_
  refine g_ialdn C 0 1 t rfl rfl rfl (by omega) (by decide) dX0_isUnfinished_5 ?_
  refine g_iconst C (v := 3) dX0_isUnfinished_6 (by decide) ?_
  refine g_icmp_eq C 24 dX0_isUnfinished_7 (by decide) (fun c_1 => ?_) (fun c_1 => ?_)
  · skip
    refine g_iconst C (v := 0) dX0_isUnfinished_24 (by decide) ?_
    have e_2 : fX0_isUnfinished β t = false := by rw [fX0_isUnfinished]; rw [if_pos c_1]
    exact g_zret (b := false) C hE (by rw [e_2]) rfl rfl dX0_isUnfinished_25
  · skip
    refine g_aload_n C dX0_isUnfinished_10 rfl 0 rfl ?_
    refine g_getf C (T := TX0) (N := 17) 0 0 rfl rfl rfl inX0 4 (by decide) q1_41 rfl dX0_isUnfinished_11 ?_
    refine g_iload_n C dX0_isUnfinished_14 rfl 1 rfl ?_
    refine g_ialdn C 0 1 t rfl rfl rfl (by omega) (by decide) dX0_isUnfinished_15 ?_
    refine g_iconst C (v := 4) dX0_isUnfinished_16 (by decide) ?_
    refine g_icmp_eq C 24 dX0_isUnfinished_17 (by decide) (fun c_3 => ?_) (fun c_3 => ?_)
    · skip
      refine g_iconst C (v := 0) dX0_isUnfinished_24 (by decide) ?_
      have e_4 : fX0_isUnfinished β t = false := by rw [fX0_isUnfinished]; rw [if_neg c_1, if_pos c_3]
      exact g_zret (b := false) C hE (by rw [e_4]) rfl rfl dX0_isUnfinished_25
    · skip
      refine g_iconst C (v := 1) dX0_isUnfinished_20 (by decide) ?_
      refine g_goto C 25 dX0_isUnfinished_21 (by decide) ?_
      have e_5 : fX0_isUnfinished β t = true := by rw [fX0_isUnfinished]; rw [if_neg c_1, if_neg c_3]
      exact g_zret (b := true) C hE (by rw [e_5]) rfl rfl dX0_isUnfinished_25
def fX0_setWhere_s_L5 (β : BS) (v : Int32) (i5 : Nat) (t5 : Int32) : Int32 :=
  if (β.2 0 i5) = v then t5 ||| (fX6_setOf (nI i5)) else t5
def fX0_setWhere_s (β : BS) (v : Int32) : Int32 :=
  (lpF (fX0_setWhere_s_L5 β v) 0 (cnt β))
theorem caX0_setWhere : gCalV yX0_setWhere cX0_setWhere 5 (some .int) 2 := ⟨⟨q2_112, q1_2, by decide +kernel⟩, q2_111, qs_1⟩
set_option maxHeartbeats 4000000 in
set_option maxRecDepth 100000 in
theorem kX0_setWhere_s (l : Launch) (E : gE) (ad : Nat → Nat) (β : BS) (hv : vB β)  (v : Int32) : MC l E yX0_setWhere cX0_setWhere 5 (some .int) 1 20 [.ref (ad 0), .ref (ad 1), .int v] [wB E ad β] (some (.int (fX0_setWhere_s β v))) [wB E ad β] := by
  have hv1 : cnt β ≤ 20 := hv.1
  refine mc_of (by decide +kernel) (Nat.le_of_ble_eq_true rfl) (lv := [(0, .ref (ad 0)), (1, .ref (ad 1)), (2, .int v)]) rfl (fun X C hE => ?_)
  refine g_iconst C (v := 0) dX0_setWhere_0 (by decide) ?_
  refine g_istore_n C (lv1 := [(3, .int 0), (0, .ref (ad 0)), (1, .ref (ad 1)), (2, .int v)]) dX0_setWhere_1 rfl (by decide) rfl ?_
  refine g_iconst C (v := 0) dX0_setWhere_2 (by decide) ?_
  refine g_istore C (lv1 := [(4, .int 0), (3, .int 0), (0, .ref (ad 0)), (1, .ref (ad 1)), (2, .int v)]) dX0_setWhere_3 (by decide) rfl ?_
  have hL_3 : ∀ d_1 i5 : Nat, i5 + d_1 = (cnt β) → G X 0 0 [wB E ad β] [(0, .ref (ad 0)), (1, .ref (ad 1)), (2, .int v), (3, .int (lpF (fX0_setWhere_s_L5 β v) 0 i5)), (4, .int (nI i5))] 5 [] := by
    intro d_1
    induction d_1 with
    | zero =>
      intro i5 hi_2
      obtain rfl : i5 = (cnt β) := by omega
      refine g_iload C dX0_setWhere_5 4 rfl ?_
      refine g_aload_n C dX0_setWhere_7 rfl 0 rfl ?_
      refine g_getf C (T := TX0) (N := 17) 0 0 rfl rfl rfl inX0 0 (by decide) q1_31 rfl dX0_setWhere_8 ?_
      refine g_icmp_ge C 36 dX0_setWhere_11 (by decide) (fun c_5 => ?_) (fun c_5 => ?_)
      · skip
        refine g_iload_n C dX0_setWhere_36 rfl 3 rfl ?_
        have e_6 : fX0_setWhere_s β v = (lpF (fX0_setWhere_s_L5 β v) 0 (cnt β)) := by rw [fX0_setWhere_s]
        exact g_iret C hE (by rw [e_6]) rfl dX0_setWhere_37
      · exact absurd (lc_le rfl hv.2.1 (by omega) (by omega)) c_5
    | succ d_1 ih_4 =>
      intro i5 hi_2
      refine g_iload C dX0_setWhere_5 4 rfl ?_
      refine g_aload_n C dX0_setWhere_7 rfl 0 rfl ?_
      refine g_getf C (T := TX0) (N := 17) 0 0 rfl rfl rfl inX0 0 (by decide) q1_31 rfl dX0_setWhere_8 ?_
      refine g_icmp_ge C 36 dX0_setWhere_11 (by decide) (fun c_7 => ?_) (fun c_7 => ?_)
      · exact absurd c_7 (lc_nle rfl hv.2.1 (by omega) (by omega))
      · skip
        refine g_aload_n C dX0_setWhere_14 rfl 1 rfl ?_
        refine g_iload C dX0_setWhere_15 4 rfl ?_
        refine g_ialdn C 0 1 i5 rfl rfl rfl (by omega) (by decide) dX0_setWhere_17 ?_
        refine g_iload_n C dX0_setWhere_18 rfl 2 rfl ?_
        refine g_icmp_ne C 30 dX0_setWhere_19 (by decide) (fun c_8 => ?_) (fun c_8 => ?_)
        · skip
          refine g_iinc C (v := nI (i5 + 1)) (lv1 := [(4, .int (nI (i5 + 1))), (0, .ref (ad 0)), (1, .ref (ad 1)), (2, .int v), (3, .int (lpF (fX0_setWhere_s_L5 β v) 0 i5))]) dX0_setWhere_30 4 rfl (nI_1 i5) (by decide) rfl ?_
          refine g_goto C 5 dX0_setWhere_33 (by decide) ?_
          have e_9 : (lpF (fX0_setWhere_s_L5 β v) 0 (i5 + 1)) = (lpF (fX0_setWhere_s_L5 β v) 0 i5) := by
            rw [lpF_1, fX0_setWhere_s_L5]; rw [if_neg c_8]
          have h_10 := ih_4 (i5 + 1) (by omega)
          rw [e_9] at h_10
          exact g_sub [1, 2, 3, 4, 0] rfl h_10
        · skip
          refine g_iload_n C dX0_setWhere_22 rfl 3 rfl ?_
          refine g_iload C dX0_setWhere_23 4 rfl ?_
          refine g_callSN C (cs1 := [wB E ad β]) (st1 := [.int (fX6_setOf (nI i5)), .int (lpF (fX0_setWhere_s_L5 β v) 0 i5)]) [.int (nI i5)] [] (kX6_setOf l E (nI i5)) caX6_setOf (host := RX6) (by decide +kernel) rfl ⟨Nat.le_of_ble_eq_true rfl, Nat.le_of_ble_eq_true rfl⟩ ⟨Nat.zero_le _, Nat.zero_le _⟩ (by decide) rfl rfl rfl rfl (Nat.le_of_ble_eq_true rfl) dX0_setWhere_25 rfl ?_
          refine g_ior C dX0_setWhere_28 ?_
          refine g_istore_n C (lv1 := [(3, .int ((lpF (fX0_setWhere_s_L5 β v) 0 i5) ||| (fX6_setOf (nI i5)))), (0, .ref (ad 0)), (1, .ref (ad 1)), (2, .int v), (4, .int (nI i5))]) dX0_setWhere_29 rfl (by decide) rfl ?_
          refine g_iinc C (v := nI (i5 + 1)) (lv1 := [(4, .int (nI (i5 + 1))), (3, .int ((lpF (fX0_setWhere_s_L5 β v) 0 i5) ||| (fX6_setOf (nI i5)))), (0, .ref (ad 0)), (1, .ref (ad 1)), (2, .int v)]) dX0_setWhere_30 4 rfl (nI_1 i5) (by decide) rfl ?_
          refine g_goto C 5 dX0_setWhere_33 (by decide) ?_
          have e_11 : (lpF (fX0_setWhere_s_L5 β v) 0 (i5 + 1)) = (lpF (fX0_setWhere_s_L5 β v) 0 i5) ||| (fX6_setOf (nI i5)) := by
            rw [lpF_1, fX0_setWhere_s_L5]; rw [if_pos c_8]
          have h_12 := ih_4 (i5 + 1) (by omega)
          rw [e_11] at h_12
          exact g_sub [2, 3, 4, 1, 0] rfl h_12
  refine g_sub [2, 3, 4, 1, 0] (lv1 := [(0, .ref (ad 0)), (1, .ref (ad 1)), (2, .int v), (3, .int 0), (4, .int 0)]) rfl ?_
  exact hL_3 (cnt β) 0 (by omega)
def fX0_setWhere_o_L5 (β : BS) (v : Int32) (i5 : Nat) (t5 : Int32) : Int32 :=
  if (β.2 3 i5) = v then t5 ||| (fX6_setOf (nI i5)) else t5
def fX0_setWhere_o (β : BS) (v : Int32) : Int32 :=
  (lpF (fX0_setWhere_o_L5 β v) 0 (cnt β))
set_option maxHeartbeats 4000000 in
set_option maxRecDepth 100000 in
theorem kX0_setWhere_o (l : Launch) (E : gE) (ad : Nat → Nat) (β : BS) (hv : vB β)  (v : Int32) : MC l E yX0_setWhere cX0_setWhere 5 (some .int) 1 20 [.ref (ad 0), .ref (ad 4), .int v] [wB E ad β] (some (.int (fX0_setWhere_o β v))) [wB E ad β] := by
  have hv1 : cnt β ≤ 20 := hv.1
  refine mc_of (by decide +kernel) (Nat.le_of_ble_eq_true rfl) (lv := [(0, .ref (ad 0)), (1, .ref (ad 4)), (2, .int v)]) rfl (fun X C hE => ?_)
  refine g_iconst C (v := 0) dX0_setWhere_0 (by decide) ?_
  refine g_istore_n C (lv1 := [(3, .int 0), (0, .ref (ad 0)), (1, .ref (ad 4)), (2, .int v)]) dX0_setWhere_1 rfl (by decide) rfl ?_
  refine g_iconst C (v := 0) dX0_setWhere_2 (by decide) ?_
  refine g_istore C (lv1 := [(4, .int 0), (3, .int 0), (0, .ref (ad 0)), (1, .ref (ad 4)), (2, .int v)]) dX0_setWhere_3 (by decide) rfl ?_
  have hL_3 : ∀ d_1 i5 : Nat, i5 + d_1 = (cnt β) → G X 0 0 [wB E ad β] [(0, .ref (ad 0)), (1, .ref (ad 4)), (2, .int v), (3, .int (lpF (fX0_setWhere_o_L5 β v) 0 i5)), (4, .int (nI i5))] 5 [] := by
    intro d_1
    induction d_1 with
    | zero =>
      intro i5 hi_2
      obtain rfl : i5 = (cnt β) := by omega
      refine g_iload C dX0_setWhere_5 4 rfl ?_
      refine g_aload_n C dX0_setWhere_7 rfl 0 rfl ?_
      refine g_getf C (T := TX0) (N := 17) 0 0 rfl rfl rfl inX0 0 (by decide) q1_31 rfl dX0_setWhere_8 ?_
      refine g_icmp_ge C 36 dX0_setWhere_11 (by decide) (fun c_5 => ?_) (fun c_5 => ?_)
      · skip
        refine g_iload_n C dX0_setWhere_36 rfl 3 rfl ?_
        have e_6 : fX0_setWhere_o β v = (lpF (fX0_setWhere_o_L5 β v) 0 (cnt β)) := by rw [fX0_setWhere_o]
        exact g_iret C hE (by rw [e_6]) rfl dX0_setWhere_37
      · exact absurd (lc_le rfl hv.2.1 (by omega) (by omega)) c_5
    | succ d_1 ih_4 =>
      intro i5 hi_2
      refine g_iload C dX0_setWhere_5 4 rfl ?_
      refine g_aload_n C dX0_setWhere_7 rfl 0 rfl ?_
      refine g_getf C (T := TX0) (N := 17) 0 0 rfl rfl rfl inX0 0 (by decide) q1_31 rfl dX0_setWhere_8 ?_
      refine g_icmp_ge C 36 dX0_setWhere_11 (by decide) (fun c_7 => ?_) (fun c_7 => ?_)
      · exact absurd c_7 (lc_nle rfl hv.2.1 (by omega) (by omega))
      · skip
        refine g_aload_n C dX0_setWhere_14 rfl 1 rfl ?_
        refine g_iload C dX0_setWhere_15 4 rfl ?_
        refine g_ialdn C 0 4 i5 rfl rfl rfl (by omega) (by decide) dX0_setWhere_17 ?_
        refine g_iload_n C dX0_setWhere_18 rfl 2 rfl ?_
        refine g_icmp_ne C 30 dX0_setWhere_19 (by decide) (fun c_8 => ?_) (fun c_8 => ?_)
        · skip
          refine g_iinc C (v := nI (i5 + 1)) (lv1 := [(4, .int (nI (i5 + 1))), (0, .ref (ad 0)), (1, .ref (ad 4)), (2, .int v), (3, .int (lpF (fX0_setWhere_o_L5 β v) 0 i5))]) dX0_setWhere_30 4 rfl (nI_1 i5) (by decide) rfl ?_
          refine g_goto C 5 dX0_setWhere_33 (by decide) ?_
          have e_9 : (lpF (fX0_setWhere_o_L5 β v) 0 (i5 + 1)) = (lpF (fX0_setWhere_o_L5 β v) 0 i5) := by
            rw [lpF_1, fX0_setWhere_o_L5]; rw [if_neg c_8]
          have h_10 := ih_4 (i5 + 1) (by omega)
          rw [e_9] at h_10
          exact g_sub [1, 2, 3, 4, 0] rfl h_10
        · skip
          refine g_iload_n C dX0_setWhere_22 rfl 3 rfl ?_
          refine g_iload C dX0_setWhere_23 4 rfl ?_
          refine g_callSN C (cs1 := [wB E ad β]) (st1 := [.int (fX6_setOf (nI i5)), .int (lpF (fX0_setWhere_o_L5 β v) 0 i5)]) [.int (nI i5)] [] (kX6_setOf l E (nI i5)) caX6_setOf (host := RX6) (by decide +kernel) rfl ⟨Nat.le_of_ble_eq_true rfl, Nat.le_of_ble_eq_true rfl⟩ ⟨Nat.zero_le _, Nat.zero_le _⟩ (by decide) rfl rfl rfl rfl (Nat.le_of_ble_eq_true rfl) dX0_setWhere_25 rfl ?_
          refine g_ior C dX0_setWhere_28 ?_
          refine g_istore_n C (lv1 := [(3, .int ((lpF (fX0_setWhere_o_L5 β v) 0 i5) ||| (fX6_setOf (nI i5)))), (0, .ref (ad 0)), (1, .ref (ad 4)), (2, .int v), (4, .int (nI i5))]) dX0_setWhere_29 rfl (by decide) rfl ?_
          refine g_iinc C (v := nI (i5 + 1)) (lv1 := [(4, .int (nI (i5 + 1))), (3, .int ((lpF (fX0_setWhere_o_L5 β v) 0 i5) ||| (fX6_setOf (nI i5)))), (0, .ref (ad 0)), (1, .ref (ad 4)), (2, .int v)]) dX0_setWhere_30 4 rfl (nI_1 i5) (by decide) rfl ?_
          refine g_goto C 5 dX0_setWhere_33 (by decide) ?_
          have e_11 : (lpF (fX0_setWhere_o_L5 β v) 0 (i5 + 1)) = (lpF (fX0_setWhere_o_L5 β v) 0 i5) ||| (fX6_setOf (nI i5)) := by
            rw [lpF_1, fX0_setWhere_o_L5]; rw [if_pos c_8]
          have h_12 := ih_4 (i5 + 1) (by omega)
          rw [e_11] at h_12
          exact g_sub [2, 3, 4, 1, 0] rfl h_12
  refine g_sub [2, 3, 4, 1, 0] (lv1 := [(0, .ref (ad 0)), (1, .ref (ad 4)), (2, .int v), (3, .int 0), (4, .int 0)]) rfl ?_
  exact hL_3 (cnt β) 0 (by omega)
def fX0_setWhere_m_L5 (β : BS) (v : Int32) (i5 : Nat) (t5 : Int32) : Int32 :=
  if (β.2 4 i5) = v then t5 ||| (fX6_setOf (nI i5)) else t5
def fX0_setWhere_m (β : BS) (v : Int32) : Int32 :=
  (lpF (fX0_setWhere_m_L5 β v) 0 (cnt β))
set_option maxHeartbeats 4000000 in
set_option maxRecDepth 100000 in
theorem kX0_setWhere_m (l : Launch) (E : gE) (ad : Nat → Nat) (β : BS) (hv : vB β)  (v : Int32) : MC l E yX0_setWhere cX0_setWhere 5 (some .int) 1 20 [.ref (ad 0), .ref (ad 5), .int v] [wB E ad β] (some (.int (fX0_setWhere_m β v))) [wB E ad β] := by
  have hv1 : cnt β ≤ 20 := hv.1
  refine mc_of (by decide +kernel) (Nat.le_of_ble_eq_true rfl) (lv := [(0, .ref (ad 0)), (1, .ref (ad 5)), (2, .int v)]) rfl (fun X C hE => ?_)
  refine g_iconst C (v := 0) dX0_setWhere_0 (by decide) ?_
  refine g_istore_n C (lv1 := [(3, .int 0), (0, .ref (ad 0)), (1, .ref (ad 5)), (2, .int v)]) dX0_setWhere_1 rfl (by decide) rfl ?_
  refine g_iconst C (v := 0) dX0_setWhere_2 (by decide) ?_
  refine g_istore C (lv1 := [(4, .int 0), (3, .int 0), (0, .ref (ad 0)), (1, .ref (ad 5)), (2, .int v)]) dX0_setWhere_3 (by decide) rfl ?_
  have hL_3 : ∀ d_1 i5 : Nat, i5 + d_1 = (cnt β) → G X 0 0 [wB E ad β] [(0, .ref (ad 0)), (1, .ref (ad 5)), (2, .int v), (3, .int (lpF (fX0_setWhere_m_L5 β v) 0 i5)), (4, .int (nI i5))] 5 [] := by
    intro d_1
    induction d_1 with
    | zero =>
      intro i5 hi_2
      obtain rfl : i5 = (cnt β) := by omega
      refine g_iload C dX0_setWhere_5 4 rfl ?_
      refine g_aload_n C dX0_setWhere_7 rfl 0 rfl ?_
      refine g_getf C (T := TX0) (N := 17) 0 0 rfl rfl rfl inX0 0 (by decide) q1_31 rfl dX0_setWhere_8 ?_
      refine g_icmp_ge C 36 dX0_setWhere_11 (by decide) (fun c_5 => ?_) (fun c_5 => ?_)
      · skip
        refine g_iload_n C dX0_setWhere_36 rfl 3 rfl ?_
        have e_6 : fX0_setWhere_m β v = (lpF (fX0_setWhere_m_L5 β v) 0 (cnt β)) := by rw [fX0_setWhere_m]
        exact g_iret C hE (by rw [e_6]) rfl dX0_setWhere_37
      · exact absurd (lc_le rfl hv.2.1 (by omega) (by omega)) c_5
    | succ d_1 ih_4 =>
      intro i5 hi_2
      refine g_iload C dX0_setWhere_5 4 rfl ?_
      refine g_aload_n C dX0_setWhere_7 rfl 0 rfl ?_
      refine g_getf C (T := TX0) (N := 17) 0 0 rfl rfl rfl inX0 0 (by decide) q1_31 rfl dX0_setWhere_8 ?_
      refine g_icmp_ge C 36 dX0_setWhere_11 (by decide) (fun c_7 => ?_) (fun c_7 => ?_)
      · exact absurd c_7 (lc_nle rfl hv.2.1 (by omega) (by omega))
      · skip
        refine g_aload_n C dX0_setWhere_14 rfl 1 rfl ?_
        refine g_iload C dX0_setWhere_15 4 rfl ?_
        refine g_ialdn C 0 5 i5 rfl rfl rfl (by omega) (by decide) dX0_setWhere_17 ?_
        refine g_iload_n C dX0_setWhere_18 rfl 2 rfl ?_
        refine g_icmp_ne C 30 dX0_setWhere_19 (by decide) (fun c_8 => ?_) (fun c_8 => ?_)
        · skip
          refine g_iinc C (v := nI (i5 + 1)) (lv1 := [(4, .int (nI (i5 + 1))), (0, .ref (ad 0)), (1, .ref (ad 5)), (2, .int v), (3, .int (lpF (fX0_setWhere_m_L5 β v) 0 i5))]) dX0_setWhere_30 4 rfl (nI_1 i5) (by decide) rfl ?_
          refine g_goto C 5 dX0_setWhere_33 (by decide) ?_
          have e_9 : (lpF (fX0_setWhere_m_L5 β v) 0 (i5 + 1)) = (lpF (fX0_setWhere_m_L5 β v) 0 i5) := by
            rw [lpF_1, fX0_setWhere_m_L5]; rw [if_neg c_8]
          have h_10 := ih_4 (i5 + 1) (by omega)
          rw [e_9] at h_10
          exact g_sub [1, 2, 3, 4, 0] rfl h_10
        · skip
          refine g_iload_n C dX0_setWhere_22 rfl 3 rfl ?_
          refine g_iload C dX0_setWhere_23 4 rfl ?_
          refine g_callSN C (cs1 := [wB E ad β]) (st1 := [.int (fX6_setOf (nI i5)), .int (lpF (fX0_setWhere_m_L5 β v) 0 i5)]) [.int (nI i5)] [] (kX6_setOf l E (nI i5)) caX6_setOf (host := RX6) (by decide +kernel) rfl ⟨Nat.le_of_ble_eq_true rfl, Nat.le_of_ble_eq_true rfl⟩ ⟨Nat.zero_le _, Nat.zero_le _⟩ (by decide) rfl rfl rfl rfl (Nat.le_of_ble_eq_true rfl) dX0_setWhere_25 rfl ?_
          refine g_ior C dX0_setWhere_28 ?_
          refine g_istore_n C (lv1 := [(3, .int ((lpF (fX0_setWhere_m_L5 β v) 0 i5) ||| (fX6_setOf (nI i5)))), (0, .ref (ad 0)), (1, .ref (ad 5)), (2, .int v), (4, .int (nI i5))]) dX0_setWhere_29 rfl (by decide) rfl ?_
          refine g_iinc C (v := nI (i5 + 1)) (lv1 := [(4, .int (nI (i5 + 1))), (3, .int ((lpF (fX0_setWhere_m_L5 β v) 0 i5) ||| (fX6_setOf (nI i5)))), (0, .ref (ad 0)), (1, .ref (ad 5)), (2, .int v)]) dX0_setWhere_30 4 rfl (nI_1 i5) (by decide) rfl ?_
          refine g_goto C 5 dX0_setWhere_33 (by decide) ?_
          have e_11 : (lpF (fX0_setWhere_m_L5 β v) 0 (i5 + 1)) = (lpF (fX0_setWhere_m_L5 β v) 0 i5) ||| (fX6_setOf (nI i5)) := by
            rw [lpF_1, fX0_setWhere_m_L5]; rw [if_pos c_8]
          have h_12 := ih_4 (i5 + 1) (by omega)
          rw [e_11] at h_12
          exact g_sub [2, 3, 4, 1, 0] rfl h_12
  refine g_sub [2, 3, 4, 1, 0] (lv1 := [(0, .ref (ad 0)), (1, .ref (ad 5)), (2, .int v), (3, .int 0), (4, .int 0)]) rfl ?_
  exact hL_3 (cnt β) 0 (by omega)
def fX0_inState (β : BS) (v : Int32) : Int32 :=
  (fX0_setWhere_s β v)
theorem caX0_inState : gCalV yX0_inState cX0_inState 2 (some .int) 1 := ⟨⟨q2_119, q1_2, by decide +kernel⟩, q2_117, q2_118⟩
set_option maxHeartbeats 4000000 in
set_option maxRecDepth 100000 in
theorem kX0_inState (l : Launch) (E : gE) (ad : Nat → Nat) (β : BS) (hv : vB β)  (v : Int32) : MC l E yX0_inState cX0_inState 2 (some .int) 2 44 [.ref (ad 0), .int v] [wB E ad β] (some (.int (fX0_inState β v))) [wB E ad β] := by
  have hv1 : cnt β ≤ 20 := hv.1
  refine mc_of (by decide +kernel) (Nat.le_of_ble_eq_true rfl) (lv := [(0, .ref (ad 0)), (1, .int v)]) rfl (fun X C hE => ?_)
  refine g_aload_n C dX0_inState_0 rfl 0 rfl ?_
  refine g_aload_n C dX0_inState_1 rfl 0 rfl ?_
  refine g_getf C (T := TX0) (N := 17) 0 0 rfl rfl rfl inX0 4 (by decide) q1_41 rfl dX0_inState_2 ?_
  refine g_iload_n C dX0_inState_5 rfl 1 rfl ?_
  refine g_callV C (cs1 := [wB E ad β]) (st1 := [.int (fX0_setWhere_s β v)]) [.ref (ad 1), .int v] [0] (kX0_setWhere_s l E ad β hv v) caX0_setWhere q2_109 rfl ⟨Nat.le_of_ble_eq_true rfl, Nat.le_of_ble_eq_true rfl⟩ ⟨Nat.zero_le _, Nat.zero_le _⟩ 0 0 rfl rfl rfl rfl (by decide) rfl rfl rfl rfl (Nat.le_of_ble_eq_true rfl) dX0_inState_6 rfl ?_
  have e_1 : fX0_inState β v = (fX0_setWhere_s β v) := by rw [fX0_inState]
  exact g_iret C hE (by rw [e_1]) rfl dX0_inState_9
def fX0_ownedBy (β : BS) (v : Int32) : Int32 :=
  (fX0_setWhere_o β v)
theorem caX0_ownedBy : gCalV yX0_ownedBy cX0_ownedBy 2 (some .int) 1 := ⟨⟨q3_102, q1_2, by decide +kernel⟩, q3_100, q3_101⟩
set_option maxHeartbeats 4000000 in
set_option maxRecDepth 100000 in
theorem kX0_ownedBy (l : Launch) (E : gE) (ad : Nat → Nat) (β : BS) (hv : vB β)  (v : Int32) : MC l E yX0_ownedBy cX0_ownedBy 2 (some .int) 2 44 [.ref (ad 0), .int v] [wB E ad β] (some (.int (fX0_ownedBy β v))) [wB E ad β] := by
  have hv1 : cnt β ≤ 20 := hv.1
  refine mc_of (by decide +kernel) (Nat.le_of_ble_eq_true rfl) (lv := [(0, .ref (ad 0)), (1, .int v)]) rfl (fun X C hE => ?_)
  refine g_aload_n C dX0_ownedBy_0 rfl 0 rfl ?_
  refine g_aload_n C dX0_ownedBy_1 rfl 0 rfl ?_
  refine g_getf C (T := TX0) (N := 17) 0 0 rfl rfl rfl inX0 7 (by decide) q1_50 rfl dX0_ownedBy_2 ?_
  refine g_iload_n C dX0_ownedBy_5 rfl 1 rfl ?_
  refine g_callV C (cs1 := [wB E ad β]) (st1 := [.int (fX0_setWhere_o β v)]) [.ref (ad 4), .int v] [0] (kX0_setWhere_o l E ad β hv v) caX0_setWhere q2_109 rfl ⟨Nat.le_of_ble_eq_true rfl, Nat.le_of_ble_eq_true rfl⟩ ⟨Nat.zero_le _, Nat.zero_le _⟩ 0 0 rfl rfl rfl rfl (by decide) rfl rfl rfl rfl (Nat.le_of_ble_eq_true rfl) dX0_ownedBy_6 rfl ?_
  have e_1 : fX0_ownedBy β v = (fX0_setWhere_o β v) := by rw [fX0_ownedBy]
  exact g_iret C hE (by rw [e_1]) rfl dX0_ownedBy_9
def fX0_plannedFor (β : BS) (v : Int32) : Int32 :=
  (fX0_setWhere_m β v)
theorem caX0_plannedFor : gCalV yX0_plannedFor cX0_plannedFor 2 (some .int) 1 := ⟨⟨q2_108, q1_2, by decide +kernel⟩, q2_106, q2_107⟩
set_option maxHeartbeats 4000000 in
set_option maxRecDepth 100000 in
theorem kX0_plannedFor (l : Launch) (E : gE) (ad : Nat → Nat) (β : BS) (hv : vB β)  (v : Int32) : MC l E yX0_plannedFor cX0_plannedFor 2 (some .int) 2 44 [.ref (ad 0), .int v] [wB E ad β] (some (.int (fX0_plannedFor β v))) [wB E ad β] := by
  have hv1 : cnt β ≤ 20 := hv.1
  refine mc_of (by decide +kernel) (Nat.le_of_ble_eq_true rfl) (lv := [(0, .ref (ad 0)), (1, .int v)]) rfl (fun X C hE => ?_)
  refine g_aload_n C dX0_plannedFor_0 rfl 0 rfl ?_
  refine g_aload_n C dX0_plannedFor_1 rfl 0 rfl ?_
  refine g_getf C (T := TX0) (N := 17) 0 0 rfl rfl rfl inX0 8 (by decide) q1_52 rfl dX0_plannedFor_2 ?_
  refine g_iload_n C dX0_plannedFor_5 rfl 1 rfl ?_
  refine g_callV C (cs1 := [wB E ad β]) (st1 := [.int (fX0_setWhere_m β v)]) [.ref (ad 5), .int v] [0] (kX0_setWhere_m l E ad β hv v) caX0_setWhere q2_109 rfl ⟨Nat.le_of_ble_eq_true rfl, Nat.le_of_ble_eq_true rfl⟩ ⟨Nat.zero_le _, Nat.zero_le _⟩ 0 0 rfl rfl rfl rfl (by decide) rfl rfl rfl rfl (Nat.le_of_ble_eq_true rfl) dX0_plannedFor_6 rfl ?_
  have e_1 : fX0_plannedFor β v = (fX0_setWhere_m β v) := by rw [fX0_plannedFor]
  exact g_iret C hE (by rw [e_1]) rfl dX0_plannedFor_9
def fX0_unfinishedSet_L4 (β : BS) (i4 : Nat) (t4 : Int32) : Int32 :=
  if (fX0_isUnfinished β i4) = true then t4 ||| (fX6_setOf (nI i4)) else t4
def fX0_unfinishedSet (β : BS) : Int32 :=
  (lpF (fX0_unfinishedSet_L4 β) 0 (cnt β))
theorem caX0_unfinishedSet : gCalV yX0_unfinishedSet cX0_unfinishedSet 3 (some .int) 0 := ⟨⟨q2_133, q1_2, by decide +kernel⟩, q2_131, q2_132⟩
set_option maxHeartbeats 4000000 in
set_option maxRecDepth 100000 in
theorem kX0_unfinishedSet (l : Launch) (E : gE) (ad : Nat → Nat) (β : BS) (hv : vB β)   : MC l E yX0_unfinishedSet cX0_unfinishedSet 3 (some .int) 1 21 [.ref (ad 0)] [wB E ad β] (some (.int (fX0_unfinishedSet β))) [wB E ad β] := by
  have hv1 : cnt β ≤ 20 := hv.1
  refine mc_of (by decide +kernel) (Nat.le_of_ble_eq_true rfl) (lv := [(0, .ref (ad 0))]) rfl (fun X C hE => ?_)
  refine g_iconst C (v := 0) dX0_unfinishedSet_0 (by decide) ?_
  refine g_istore_n C (lv1 := [(1, .int 0), (0, .ref (ad 0))]) dX0_unfinishedSet_1 rfl (by decide) rfl ?_
  refine g_iconst C (v := 0) dX0_unfinishedSet_2 (by decide) ?_
  refine g_istore_n C (lv1 := [(2, .int 0), (1, .int 0), (0, .ref (ad 0))]) dX0_unfinishedSet_3 rfl (by decide) rfl ?_
  have hL_3 : ∀ d_1 i4 : Nat, i4 + d_1 = (cnt β) → G X 0 0 [wB E ad β] [(0, .ref (ad 0)), (1, .int (lpF (fX0_unfinishedSet_L4 β) 0 i4)), (2, .int (nI i4))] 4 [] := by
    intro d_1
    induction d_1 with
    | zero =>
      intro i4 hi_2
      obtain rfl : i4 = (cnt β) := by omega
      refine g_iload_n C dX0_unfinishedSet_4 rfl 2 rfl ?_
      refine g_aload_n C dX0_unfinishedSet_5 rfl 0 rfl ?_
      refine g_getf C (T := TX0) (N := 17) 0 0 rfl rfl rfl inX0 0 (by decide) q1_31 rfl dX0_unfinishedSet_6 ?_
      refine g_icmp_ge C 33 dX0_unfinishedSet_9 (by decide) (fun c_5 => ?_) (fun c_5 => ?_)
      · skip
        refine g_iload_n C dX0_unfinishedSet_33 rfl 1 rfl ?_
        have e_6 : fX0_unfinishedSet β = (lpF (fX0_unfinishedSet_L4 β) 0 (cnt β)) := by rw [fX0_unfinishedSet]
        exact g_iret C hE (by rw [e_6]) rfl dX0_unfinishedSet_34
      · exact absurd (lc_le rfl hv.2.1 (by omega) (by omega)) c_5
    | succ d_1 ih_4 =>
      intro i4 hi_2
      refine g_iload_n C dX0_unfinishedSet_4 rfl 2 rfl ?_
      refine g_aload_n C dX0_unfinishedSet_5 rfl 0 rfl ?_
      refine g_getf C (T := TX0) (N := 17) 0 0 rfl rfl rfl inX0 0 (by decide) q1_31 rfl dX0_unfinishedSet_6 ?_
      refine g_icmp_ge C 33 dX0_unfinishedSet_9 (by decide) (fun c_7 => ?_) (fun c_7 => ?_)
      · exact absurd c_7 (lc_nle rfl hv.2.1 (by omega) (by omega))
      · skip
        refine g_aload_n C dX0_unfinishedSet_12 rfl 0 rfl ?_
        refine g_iload_n C dX0_unfinishedSet_13 rfl 2 rfl ?_
        refine g_callV C (cs1 := [wB E ad β]) (st1 := [.int (b2i (fX0_isUnfinished β i4))]) [.int (nI i4)] [0] (kX0_isUnfinished l E ad β i4 (by omega)) caX0_isUnfinished q2_134 rfl ⟨Nat.le_of_ble_eq_true rfl, Nat.le_of_ble_eq_true rfl⟩ ⟨Nat.zero_le _, Nat.zero_le _⟩ 0 0 rfl rfl rfl rfl (by decide) rfl rfl rfl rfl (Nat.le_of_ble_eq_true rfl) dX0_unfinishedSet_14 rfl ?_
        refine g_ifB_eq C 27 dX0_unfinishedSet_17 (by decide) (fun c_8 => ?_) (fun c_8 => ?_)
        · skip
          refine g_iinc C (v := nI (i4 + 1)) (lv1 := [(2, .int (nI (i4 + 1))), (0, .ref (ad 0)), (1, .int (lpF (fX0_unfinishedSet_L4 β) 0 i4))]) dX0_unfinishedSet_27 2 rfl (nI_1 i4) (by decide) rfl ?_
          refine g_goto C 4 dX0_unfinishedSet_30 (by decide) ?_
          have e_9 : (lpF (fX0_unfinishedSet_L4 β) 0 (i4 + 1)) = (lpF (fX0_unfinishedSet_L4 β) 0 i4) := by
            rw [lpF_1, fX0_unfinishedSet_L4]; rw [if_neg (ne_true_of_eq_false c_8)]
          have h_10 := ih_4 (i4 + 1) (by omega)
          rw [e_9] at h_10
          exact g_sub [1, 2, 0] rfl h_10
        · skip
          refine g_iload_n C dX0_unfinishedSet_20 rfl 1 rfl ?_
          refine g_iload_n C dX0_unfinishedSet_21 rfl 2 rfl ?_
          refine g_callSN C (cs1 := [wB E ad β]) (st1 := [.int (fX6_setOf (nI i4)), .int (lpF (fX0_unfinishedSet_L4 β) 0 i4)]) [.int (nI i4)] [] (kX6_setOf l E (nI i4)) caX6_setOf (host := RX6) (by decide +kernel) rfl ⟨Nat.le_of_ble_eq_true rfl, Nat.le_of_ble_eq_true rfl⟩ ⟨Nat.zero_le _, Nat.zero_le _⟩ (by decide) rfl rfl rfl rfl (Nat.le_of_ble_eq_true rfl) dX0_unfinishedSet_22 rfl ?_
          refine g_ior C dX0_unfinishedSet_25 ?_
          refine g_istore_n C (lv1 := [(1, .int ((lpF (fX0_unfinishedSet_L4 β) 0 i4) ||| (fX6_setOf (nI i4)))), (0, .ref (ad 0)), (2, .int (nI i4))]) dX0_unfinishedSet_26 rfl (by decide) rfl ?_
          refine g_iinc C (v := nI (i4 + 1)) (lv1 := [(2, .int (nI (i4 + 1))), (1, .int ((lpF (fX0_unfinishedSet_L4 β) 0 i4) ||| (fX6_setOf (nI i4)))), (0, .ref (ad 0))]) dX0_unfinishedSet_27 2 rfl (nI_1 i4) (by decide) rfl ?_
          refine g_goto C 4 dX0_unfinishedSet_30 (by decide) ?_
          have e_11 : (lpF (fX0_unfinishedSet_L4 β) 0 (i4 + 1)) = (lpF (fX0_unfinishedSet_L4 β) 0 i4) ||| (fX6_setOf (nI i4)) := by
            rw [lpF_1, fX0_unfinishedSet_L4]; rw [if_pos c_8]
          have h_12 := ih_4 (i4 + 1) (by omega)
          rw [e_11] at h_12
          exact g_sub [2, 1, 0] rfl h_12
  refine g_sub [2, 1, 0] (lv1 := [(0, .ref (ad 0)), (1, .int 0), (2, .int 0)]) rfl ?_
  exact hL_3 (cnt β) 0 (by omega)
def fX0_pointsOfSet_L4 (β : BS) (a : Int32) (i4 : Nat) (t4 : Int32) : Int32 :=
  if (fX6_isIn a (nI i4)) = true then t4 + (β.2 1 i4) else t4
def fX0_pointsOfSet (β : BS) (a : Int32) : Int32 :=
  (lpF (fX0_pointsOfSet_L4 β a) 0 (cnt β))
theorem caX0_pointsOfSet : gCalV yX0_pointsOfSet cX0_pointsOfSet 4 (some .int) 1 := ⟨⟨q2_123, q1_2, by decide +kernel⟩, q2_121, q2_122⟩
set_option maxHeartbeats 4000000 in
set_option maxRecDepth 100000 in
theorem kX0_pointsOfSet (l : Launch) (E : gE) (ad : Nat → Nat) (β : BS) (hv : vB β)  (a : Int32) : MC l E yX0_pointsOfSet cX0_pointsOfSet 4 (some .int) 1 21 [.ref (ad 0), .int a] [wB E ad β] (some (.int (fX0_pointsOfSet β a))) [wB E ad β] := by
  have hv1 : cnt β ≤ 20 := hv.1
  refine mc_of (by decide +kernel) (Nat.le_of_ble_eq_true rfl) (lv := [(0, .ref (ad 0)), (1, .int a)]) rfl (fun X C hE => ?_)
  refine g_iconst C (v := 0) dX0_pointsOfSet_0 (by decide) ?_
  refine g_istore_n C (lv1 := [(2, .int 0), (0, .ref (ad 0)), (1, .int a)]) dX0_pointsOfSet_1 rfl (by decide) rfl ?_
  refine g_iconst C (v := 0) dX0_pointsOfSet_2 (by decide) ?_
  refine g_istore_n C (lv1 := [(3, .int 0), (2, .int 0), (0, .ref (ad 0)), (1, .int a)]) dX0_pointsOfSet_3 rfl (by decide) rfl ?_
  have hL_3 : ∀ d_1 i4 : Nat, i4 + d_1 = (cnt β) → G X 0 0 [wB E ad β] [(0, .ref (ad 0)), (1, .int a), (2, .int (lpF (fX0_pointsOfSet_L4 β a) 0 i4)), (3, .int (nI i4))] 4 [] := by
    intro d_1
    induction d_1 with
    | zero =>
      intro i4 hi_2
      obtain rfl : i4 = (cnt β) := by omega
      refine g_iload_n C dX0_pointsOfSet_4 rfl 3 rfl ?_
      refine g_aload_n C dX0_pointsOfSet_5 rfl 0 rfl ?_
      refine g_getf C (T := TX0) (N := 17) 0 0 rfl rfl rfl inX0 0 (by decide) q1_31 rfl dX0_pointsOfSet_6 ?_
      refine g_icmp_ge C 35 dX0_pointsOfSet_9 (by decide) (fun c_5 => ?_) (fun c_5 => ?_)
      · skip
        refine g_iload_n C dX0_pointsOfSet_35 rfl 2 rfl ?_
        have e_6 : fX0_pointsOfSet β a = (lpF (fX0_pointsOfSet_L4 β a) 0 (cnt β)) := by rw [fX0_pointsOfSet]
        exact g_iret C hE (by rw [e_6]) rfl dX0_pointsOfSet_36
      · exact absurd (lc_le rfl hv.2.1 (by omega) (by omega)) c_5
    | succ d_1 ih_4 =>
      intro i4 hi_2
      refine g_iload_n C dX0_pointsOfSet_4 rfl 3 rfl ?_
      refine g_aload_n C dX0_pointsOfSet_5 rfl 0 rfl ?_
      refine g_getf C (T := TX0) (N := 17) 0 0 rfl rfl rfl inX0 0 (by decide) q1_31 rfl dX0_pointsOfSet_6 ?_
      refine g_icmp_ge C 35 dX0_pointsOfSet_9 (by decide) (fun c_7 => ?_) (fun c_7 => ?_)
      · exact absurd c_7 (lc_nle rfl hv.2.1 (by omega) (by omega))
      · skip
        refine g_iload_n C dX0_pointsOfSet_12 rfl 1 rfl ?_
        refine g_iload_n C dX0_pointsOfSet_13 rfl 3 rfl ?_
        refine g_callSN C (cs1 := [wB E ad β]) (st1 := [.int (b2i (fX6_isIn a (nI i4)))]) [.int a, .int (nI i4)] [] (kX6_isIn l E a (nI i4)) caX6_isIn (host := RX6) (by decide +kernel) rfl ⟨Nat.le_of_ble_eq_true rfl, Nat.le_of_ble_eq_true rfl⟩ ⟨Nat.zero_le _, Nat.zero_le _⟩ (by decide) rfl rfl rfl rfl (Nat.le_of_ble_eq_true rfl) dX0_pointsOfSet_14 rfl ?_
        refine g_ifB_eq C 29 dX0_pointsOfSet_17 (by decide) (fun c_8 => ?_) (fun c_8 => ?_)
        · skip
          refine g_iinc C (v := nI (i4 + 1)) (lv1 := [(3, .int (nI (i4 + 1))), (0, .ref (ad 0)), (1, .int a), (2, .int (lpF (fX0_pointsOfSet_L4 β a) 0 i4))]) dX0_pointsOfSet_29 3 rfl (nI_1 i4) (by decide) rfl ?_
          refine g_goto C 4 dX0_pointsOfSet_32 (by decide) ?_
          have e_9 : (lpF (fX0_pointsOfSet_L4 β a) 0 (i4 + 1)) = (lpF (fX0_pointsOfSet_L4 β a) 0 i4) := by
            rw [lpF_1, fX0_pointsOfSet_L4]; rw [if_neg (ne_true_of_eq_false c_8)]
          have h_10 := ih_4 (i4 + 1) (by omega)
          rw [e_9] at h_10
          exact g_sub [1, 2, 3, 0] rfl h_10
        · skip
          refine g_iload_n C dX0_pointsOfSet_20 rfl 2 rfl ?_
          refine g_aload_n C dX0_pointsOfSet_21 rfl 0 rfl ?_
          refine g_getf C (T := TX0) (N := 17) 0 0 rfl rfl rfl inX0 5 (by decide) q1_44 rfl dX0_pointsOfSet_22 ?_
          refine g_iload_n C dX0_pointsOfSet_25 rfl 3 rfl ?_
          refine g_ialdn C 0 2 i4 rfl rfl rfl (by omega) (by decide) dX0_pointsOfSet_26 ?_
          refine g_iadd C dX0_pointsOfSet_27 ?_
          refine g_istore_n C (lv1 := [(2, .int ((lpF (fX0_pointsOfSet_L4 β a) 0 i4) + (β.2 1 i4))), (0, .ref (ad 0)), (1, .int a), (3, .int (nI i4))]) dX0_pointsOfSet_28 rfl (by decide) rfl ?_
          refine g_iinc C (v := nI (i4 + 1)) (lv1 := [(3, .int (nI (i4 + 1))), (2, .int ((lpF (fX0_pointsOfSet_L4 β a) 0 i4) + (β.2 1 i4))), (0, .ref (ad 0)), (1, .int a)]) dX0_pointsOfSet_29 3 rfl (nI_1 i4) (by decide) rfl ?_
          refine g_goto C 4 dX0_pointsOfSet_32 (by decide) ?_
          have e_11 : (lpF (fX0_pointsOfSet_L4 β a) 0 (i4 + 1)) = (lpF (fX0_pointsOfSet_L4 β a) 0 i4) + (β.2 1 i4) := by
            rw [lpF_1, fX0_pointsOfSet_L4]; rw [if_pos c_8]
          have h_12 := ih_4 (i4 + 1) (by omega)
          rw [e_11] at h_12
          exact g_sub [2, 3, 1, 0] rfl h_12
  refine g_sub [2, 3, 1, 0] (lv1 := [(0, .ref (ad 0)), (1, .int a), (2, .int 0), (3, .int 0)]) rfl ?_
  exact hL_3 (cnt β) 0 (by omega)
def fX0_needsDirectly (β : BS) (t : Nat) (u : Int32) : Bool :=
  (fX6_isIn (β.2 9 t) u)
theorem caX0_needsDirectly : gCalV yX0_needsDirectly cX0_needsDirectly 3 (some .boolean) 2 := ⟨⟨q2_188, q1_2, by decide +kernel⟩, q2_186, q2_187⟩
set_option maxHeartbeats 4000000 in
set_option maxRecDepth 100000 in
theorem kX0_needsDirectly (l : Launch) (E : gE) (ad : Nat → Nat) (β : BS)  (t : Nat) (ht : t < 20) (u : Int32) : MC l E yX0_needsDirectly cX0_needsDirectly 3 (some .boolean) 1 21 [.ref (ad 0), .int (nI t), .int u] [wB E ad β] (some (.int (b2i (fX0_needsDirectly β t u)))) [wB E ad β] := by
  refine mc_of (by decide +kernel) (Nat.le_of_ble_eq_true rfl) (lv := [(0, .ref (ad 0)), (1, .int (nI t)), (2, .int u)]) rfl (fun X C hE => ?_)
  refine g_aload_n C dX0_needsDirectly_0 rfl 0 rfl ?_
  refine g_getf C (T := TX0) (N := 17) 0 0 rfl rfl rfl inX0 13 (by decide) q1_62 rfl dX0_needsDirectly_1 ?_
  refine g_iload_n C dX0_needsDirectly_4 rfl 1 rfl ?_
  refine g_ialdn C 0 10 t rfl rfl rfl (by omega) (by decide) dX0_needsDirectly_5 ?_
  refine g_iload_n C dX0_needsDirectly_6 rfl 2 rfl ?_
  refine g_callSN C (cs1 := [wB E ad β]) (st1 := [.int (b2i (fX6_isIn (β.2 9 t) u))]) [.int (β.2 9 t), .int u] [] (kX6_isIn l E (β.2 9 t) u) caX6_isIn (host := RX6) (by decide +kernel) rfl ⟨Nat.le_of_ble_eq_true rfl, Nat.le_of_ble_eq_true rfl⟩ ⟨Nat.zero_le _, Nat.zero_le _⟩ (by decide) rfl rfl rfl rfl (Nat.le_of_ble_eq_true rfl) dX0_needsDirectly_7 rfl ?_
  have e_1 : fX0_needsDirectly β t u = (fX6_isIn (β.2 9 t) u) := by rw [fX0_needsDirectly]
  exact g_zret (b := (fX6_isIn (β.2 9 t) u)) C hE (by rw [e_1]) rfl rfl dX0_needsDirectly_10
def fX0_thoseThatNeedAny_L4 (β : BS) (a : Int32) (i4 : Nat) (t4 : Int32) : Int32 :=
  if ((β.2 9 i4) &&& a) = 0 then t4 else t4 ||| (fX6_setOf (nI i4))
def fX0_thoseThatNeedAny (β : BS) (a : Int32) : Int32 :=
  (lpF (fX0_thoseThatNeedAny_L4 β a) 0 (cnt β))
theorem caX0_thoseThatNeedAny : gCalV yX0_thoseThatNeedAny cX0_thoseThatNeedAny 4 (some .int) 1 := ⟨⟨q3_140, q1_2, by decide +kernel⟩, q3_138, q3_139⟩
set_option maxHeartbeats 4000000 in
set_option maxRecDepth 100000 in
theorem kX0_thoseThatNeedAny (l : Launch) (E : gE) (ad : Nat → Nat) (β : BS) (hv : vB β)  (a : Int32) : MC l E yX0_thoseThatNeedAny cX0_thoseThatNeedAny 4 (some .int) 1 20 [.ref (ad 0), .int a] [wB E ad β] (some (.int (fX0_thoseThatNeedAny β a))) [wB E ad β] := by
  have hv1 : cnt β ≤ 20 := hv.1
  refine mc_of (by decide +kernel) (Nat.le_of_ble_eq_true rfl) (lv := [(0, .ref (ad 0)), (1, .int a)]) rfl (fun X C hE => ?_)
  refine g_iconst C (v := 0) dX0_thoseThatNeedAny_0 (by decide) ?_
  refine g_istore_n C (lv1 := [(2, .int 0), (0, .ref (ad 0)), (1, .int a)]) dX0_thoseThatNeedAny_1 rfl (by decide) rfl ?_
  refine g_iconst C (v := 0) dX0_thoseThatNeedAny_2 (by decide) ?_
  refine g_istore_n C (lv1 := [(3, .int 0), (2, .int 0), (0, .ref (ad 0)), (1, .int a)]) dX0_thoseThatNeedAny_3 rfl (by decide) rfl ?_
  have hL_3 : ∀ d_1 i4 : Nat, i4 + d_1 = (cnt β) → G X 0 0 [wB E ad β] [(0, .ref (ad 0)), (1, .int a), (2, .int (lpF (fX0_thoseThatNeedAny_L4 β a) 0 i4)), (3, .int (nI i4))] 4 [] := by
    intro d_1
    induction d_1 with
    | zero =>
      intro i4 hi_2
      obtain rfl : i4 = (cnt β) := by omega
      refine g_iload_n C dX0_thoseThatNeedAny_4 rfl 3 rfl ?_
      refine g_aload_n C dX0_thoseThatNeedAny_5 rfl 0 rfl ?_
      refine g_getf C (T := TX0) (N := 17) 0 0 rfl rfl rfl inX0 0 (by decide) q1_31 rfl dX0_thoseThatNeedAny_6 ?_
      refine g_icmp_ge C 36 dX0_thoseThatNeedAny_9 (by decide) (fun c_5 => ?_) (fun c_5 => ?_)
      · skip
        refine g_iload_n C dX0_thoseThatNeedAny_36 rfl 2 rfl ?_
        have e_6 : fX0_thoseThatNeedAny β a = (lpF (fX0_thoseThatNeedAny_L4 β a) 0 (cnt β)) := by rw [fX0_thoseThatNeedAny]
        exact g_iret C hE (by rw [e_6]) rfl dX0_thoseThatNeedAny_37
      · exact absurd (lc_le rfl hv.2.1 (by omega) (by omega)) c_5
    | succ d_1 ih_4 =>
      intro i4 hi_2
      refine g_iload_n C dX0_thoseThatNeedAny_4 rfl 3 rfl ?_
      refine g_aload_n C dX0_thoseThatNeedAny_5 rfl 0 rfl ?_
      refine g_getf C (T := TX0) (N := 17) 0 0 rfl rfl rfl inX0 0 (by decide) q1_31 rfl dX0_thoseThatNeedAny_6 ?_
      refine g_icmp_ge C 36 dX0_thoseThatNeedAny_9 (by decide) (fun c_7 => ?_) (fun c_7 => ?_)
      · exact absurd c_7 (lc_nle rfl hv.2.1 (by omega) (by omega))
      · skip
        refine g_aload_n C dX0_thoseThatNeedAny_12 rfl 0 rfl ?_
        refine g_getf C (T := TX0) (N := 17) 0 0 rfl rfl rfl inX0 13 (by decide) q1_62 rfl dX0_thoseThatNeedAny_13 ?_
        refine g_iload_n C dX0_thoseThatNeedAny_16 rfl 3 rfl ?_
        refine g_ialdn C 0 10 i4 rfl rfl rfl (by omega) (by decide) dX0_thoseThatNeedAny_17 ?_
        refine g_iload_n C dX0_thoseThatNeedAny_18 rfl 1 rfl ?_
        refine g_iand C dX0_thoseThatNeedAny_19 ?_
        refine g_if_eq C 30 dX0_thoseThatNeedAny_20 (by decide) (fun c_8 => ?_) (fun c_8 => ?_)
        · skip
          refine g_iinc C (v := nI (i4 + 1)) (lv1 := [(3, .int (nI (i4 + 1))), (0, .ref (ad 0)), (1, .int a), (2, .int (lpF (fX0_thoseThatNeedAny_L4 β a) 0 i4))]) dX0_thoseThatNeedAny_30 3 rfl (nI_1 i4) (by decide) rfl ?_
          refine g_goto C 4 dX0_thoseThatNeedAny_33 (by decide) ?_
          have e_9 : (lpF (fX0_thoseThatNeedAny_L4 β a) 0 (i4 + 1)) = (lpF (fX0_thoseThatNeedAny_L4 β a) 0 i4) := by
            rw [lpF_1, fX0_thoseThatNeedAny_L4]; rw [if_pos c_8]
          have h_10 := ih_4 (i4 + 1) (by omega)
          rw [e_9] at h_10
          exact g_sub [1, 2, 3, 0] rfl h_10
        · skip
          refine g_iload_n C dX0_thoseThatNeedAny_23 rfl 2 rfl ?_
          refine g_iload_n C dX0_thoseThatNeedAny_24 rfl 3 rfl ?_
          refine g_callSN C (cs1 := [wB E ad β]) (st1 := [.int (fX6_setOf (nI i4)), .int (lpF (fX0_thoseThatNeedAny_L4 β a) 0 i4)]) [.int (nI i4)] [] (kX6_setOf l E (nI i4)) caX6_setOf (host := RX6) (by decide +kernel) rfl ⟨Nat.le_of_ble_eq_true rfl, Nat.le_of_ble_eq_true rfl⟩ ⟨Nat.zero_le _, Nat.zero_le _⟩ (by decide) rfl rfl rfl rfl (Nat.le_of_ble_eq_true rfl) dX0_thoseThatNeedAny_25 rfl ?_
          refine g_ior C dX0_thoseThatNeedAny_28 ?_
          refine g_istore_n C (lv1 := [(2, .int ((lpF (fX0_thoseThatNeedAny_L4 β a) 0 i4) ||| (fX6_setOf (nI i4)))), (0, .ref (ad 0)), (1, .int a), (3, .int (nI i4))]) dX0_thoseThatNeedAny_29 rfl (by decide) rfl ?_
          refine g_iinc C (v := nI (i4 + 1)) (lv1 := [(3, .int (nI (i4 + 1))), (2, .int ((lpF (fX0_thoseThatNeedAny_L4 β a) 0 i4) ||| (fX6_setOf (nI i4)))), (0, .ref (ad 0)), (1, .int a)]) dX0_thoseThatNeedAny_30 3 rfl (nI_1 i4) (by decide) rfl ?_
          refine g_goto C 4 dX0_thoseThatNeedAny_33 (by decide) ?_
          have e_11 : (lpF (fX0_thoseThatNeedAny_L4 β a) 0 (i4 + 1)) = (lpF (fX0_thoseThatNeedAny_L4 β a) 0 i4) ||| (fX6_setOf (nI i4)) := by
            rw [lpF_1, fX0_thoseThatNeedAny_L4]; rw [if_neg c_8]
          have h_12 := ih_4 (i4 + 1) (by omega)
          rw [e_11] at h_12
          exact g_sub [2, 3, 1, 0] rfl h_12
  refine g_sub [2, 3, 1, 0] (lv1 := [(0, .ref (ad 0)), (1, .int a), (2, .int 0), (3, .int 0)]) rfl ?_
  exact hL_3 (cnt β) 0 (by omega)
def fX0_thoseThatNeed (β : BS) (u : Int32) : Int32 :=
  (fX0_thoseThatNeedAny β (fX6_setOf u))
def fX0_neededByAny_L4 (β : BS) (a : Int32) (i4 : Nat) (t4 : Int32) : Int32 :=
  if (fX6_isIn a (nI i4)) = true then t4 ||| (β.2 9 i4) else t4
def fX0_neededByAny (β : BS) (a : Int32) : Int32 :=
  (lpF (fX0_neededByAny_L4 β a) 0 (cnt β))
theorem caX0_neededByAny : gCalV yX0_neededByAny cX0_neededByAny 4 (some .int) 1 := ⟨⟨q3_13, q1_2, by decide +kernel⟩, q3_11, q3_12⟩
set_option maxHeartbeats 4000000 in
set_option maxRecDepth 100000 in
theorem kX0_neededByAny (l : Launch) (E : gE) (ad : Nat → Nat) (β : BS) (hv : vB β)  (a : Int32) : MC l E yX0_neededByAny cX0_neededByAny 4 (some .int) 1 21 [.ref (ad 0), .int a] [wB E ad β] (some (.int (fX0_neededByAny β a))) [wB E ad β] := by
  have hv1 : cnt β ≤ 20 := hv.1
  refine mc_of (by decide +kernel) (Nat.le_of_ble_eq_true rfl) (lv := [(0, .ref (ad 0)), (1, .int a)]) rfl (fun X C hE => ?_)
  refine g_iconst C (v := 0) dX0_neededByAny_0 (by decide) ?_
  refine g_istore_n C (lv1 := [(2, .int 0), (0, .ref (ad 0)), (1, .int a)]) dX0_neededByAny_1 rfl (by decide) rfl ?_
  refine g_iconst C (v := 0) dX0_neededByAny_2 (by decide) ?_
  refine g_istore_n C (lv1 := [(3, .int 0), (2, .int 0), (0, .ref (ad 0)), (1, .int a)]) dX0_neededByAny_3 rfl (by decide) rfl ?_
  have hL_3 : ∀ d_1 i4 : Nat, i4 + d_1 = (cnt β) → G X 0 0 [wB E ad β] [(0, .ref (ad 0)), (1, .int a), (2, .int (lpF (fX0_neededByAny_L4 β a) 0 i4)), (3, .int (nI i4))] 4 [] := by
    intro d_1
    induction d_1 with
    | zero =>
      intro i4 hi_2
      obtain rfl : i4 = (cnt β) := by omega
      refine g_iload_n C dX0_neededByAny_4 rfl 3 rfl ?_
      refine g_aload_n C dX0_neededByAny_5 rfl 0 rfl ?_
      refine g_getf C (T := TX0) (N := 17) 0 0 rfl rfl rfl inX0 0 (by decide) q1_31 rfl dX0_neededByAny_6 ?_
      refine g_icmp_ge C 35 dX0_neededByAny_9 (by decide) (fun c_5 => ?_) (fun c_5 => ?_)
      · skip
        refine g_iload_n C dX0_neededByAny_35 rfl 2 rfl ?_
        have e_6 : fX0_neededByAny β a = (lpF (fX0_neededByAny_L4 β a) 0 (cnt β)) := by rw [fX0_neededByAny]
        exact g_iret C hE (by rw [e_6]) rfl dX0_neededByAny_36
      · exact absurd (lc_le rfl hv.2.1 (by omega) (by omega)) c_5
    | succ d_1 ih_4 =>
      intro i4 hi_2
      refine g_iload_n C dX0_neededByAny_4 rfl 3 rfl ?_
      refine g_aload_n C dX0_neededByAny_5 rfl 0 rfl ?_
      refine g_getf C (T := TX0) (N := 17) 0 0 rfl rfl rfl inX0 0 (by decide) q1_31 rfl dX0_neededByAny_6 ?_
      refine g_icmp_ge C 35 dX0_neededByAny_9 (by decide) (fun c_7 => ?_) (fun c_7 => ?_)
      · exact absurd c_7 (lc_nle rfl hv.2.1 (by omega) (by omega))
      · skip
        refine g_iload_n C dX0_neededByAny_12 rfl 1 rfl ?_
        refine g_iload_n C dX0_neededByAny_13 rfl 3 rfl ?_
        refine g_callSN C (cs1 := [wB E ad β]) (st1 := [.int (b2i (fX6_isIn a (nI i4)))]) [.int a, .int (nI i4)] [] (kX6_isIn l E a (nI i4)) caX6_isIn (host := RX6) (by decide +kernel) rfl ⟨Nat.le_of_ble_eq_true rfl, Nat.le_of_ble_eq_true rfl⟩ ⟨Nat.zero_le _, Nat.zero_le _⟩ (by decide) rfl rfl rfl rfl (Nat.le_of_ble_eq_true rfl) dX0_neededByAny_14 rfl ?_
        refine g_ifB_eq C 29 dX0_neededByAny_17 (by decide) (fun c_8 => ?_) (fun c_8 => ?_)
        · skip
          refine g_iinc C (v := nI (i4 + 1)) (lv1 := [(3, .int (nI (i4 + 1))), (0, .ref (ad 0)), (1, .int a), (2, .int (lpF (fX0_neededByAny_L4 β a) 0 i4))]) dX0_neededByAny_29 3 rfl (nI_1 i4) (by decide) rfl ?_
          refine g_goto C 4 dX0_neededByAny_32 (by decide) ?_
          have e_9 : (lpF (fX0_neededByAny_L4 β a) 0 (i4 + 1)) = (lpF (fX0_neededByAny_L4 β a) 0 i4) := by
            rw [lpF_1, fX0_neededByAny_L4]; rw [if_neg (ne_true_of_eq_false c_8)]
          have h_10 := ih_4 (i4 + 1) (by omega)
          rw [e_9] at h_10
          exact g_sub [1, 2, 3, 0] rfl h_10
        · skip
          refine g_iload_n C dX0_neededByAny_20 rfl 2 rfl ?_
          refine g_aload_n C dX0_neededByAny_21 rfl 0 rfl ?_
          refine g_getf C (T := TX0) (N := 17) 0 0 rfl rfl rfl inX0 13 (by decide) q1_62 rfl dX0_neededByAny_22 ?_
          refine g_iload_n C dX0_neededByAny_25 rfl 3 rfl ?_
          refine g_ialdn C 0 10 i4 rfl rfl rfl (by omega) (by decide) dX0_neededByAny_26 ?_
          refine g_ior C dX0_neededByAny_27 ?_
          refine g_istore_n C (lv1 := [(2, .int ((lpF (fX0_neededByAny_L4 β a) 0 i4) ||| (β.2 9 i4))), (0, .ref (ad 0)), (1, .int a), (3, .int (nI i4))]) dX0_neededByAny_28 rfl (by decide) rfl ?_
          refine g_iinc C (v := nI (i4 + 1)) (lv1 := [(3, .int (nI (i4 + 1))), (2, .int ((lpF (fX0_neededByAny_L4 β a) 0 i4) ||| (β.2 9 i4))), (0, .ref (ad 0)), (1, .int a)]) dX0_neededByAny_29 3 rfl (nI_1 i4) (by decide) rfl ?_
          refine g_goto C 4 dX0_neededByAny_32 (by decide) ?_
          have e_11 : (lpF (fX0_neededByAny_L4 β a) 0 (i4 + 1)) = (lpF (fX0_neededByAny_L4 β a) 0 i4) ||| (β.2 9 i4) := by
            rw [lpF_1, fX0_neededByAny_L4]; rw [if_pos c_8]
          have h_12 := ih_4 (i4 + 1) (by omega)
          rw [e_11] at h_12
          exact g_sub [2, 3, 1, 0] rfl h_12
  refine g_sub [2, 3, 1, 0] (lv1 := [(0, .ref (ad 0)), (1, .int a), (2, .int 0), (3, .int 0)]) rfl ?_
  exact hL_3 (cnt β) 0 (by omega)
def fX0_blockerSet (β : BS) (t : Nat) : Int32 :=
  (β.2 9 t) &&& (fX0_unfinishedSet β)
theorem caX0_blockerSet : gCalV yX0_blockerSet cX0_blockerSet 2 (some .int) 1 := ⟨⟨q3_187, q1_2, by decide +kernel⟩, q3_185, q3_186⟩
set_option maxHeartbeats 4000000 in
set_option maxRecDepth 100000 in
theorem kX0_blockerSet (l : Launch) (E : gE) (ad : Nat → Nat) (β : BS) (hv : vB β)  (t : Nat) (ht : t < 20) : MC l E yX0_blockerSet cX0_blockerSet 2 (some .int) 2 43 [.ref (ad 0), .int (nI t)] [wB E ad β] (some (.int (fX0_blockerSet β t))) [wB E ad β] := by
  have hv1 : cnt β ≤ 20 := hv.1
  refine mc_of (by decide +kernel) (Nat.le_of_ble_eq_true rfl) (lv := [(0, .ref (ad 0)), (1, .int (nI t))]) rfl (fun X C hE => ?_)
  refine g_aload_n C dX0_blockerSet_0 rfl 0 rfl ?_
  refine g_getf C (T := TX0) (N := 17) 0 0 rfl rfl rfl inX0 13 (by decide) q1_62 rfl dX0_blockerSet_1 ?_
  refine g_iload_n C dX0_blockerSet_4 rfl 1 rfl ?_
  refine g_ialdn C 0 10 t rfl rfl rfl (by omega) (by decide) dX0_blockerSet_5 ?_
  refine g_aload_n C dX0_blockerSet_6 rfl 0 rfl ?_
  refine g_callV C (cs1 := [wB E ad β]) (st1 := [.int (fX0_unfinishedSet β), .int (β.2 9 t)]) [] [0] (kX0_unfinishedSet l E ad β hv) caX0_unfinishedSet q3_136 rfl ⟨Nat.le_of_ble_eq_true rfl, Nat.le_of_ble_eq_true rfl⟩ ⟨Nat.zero_le _, Nat.zero_le _⟩ 0 0 rfl rfl rfl rfl (by decide) rfl rfl rfl rfl (Nat.le_of_ble_eq_true rfl) dX0_blockerSet_7 rfl ?_
  refine g_iand C dX0_blockerSet_10 ?_
  have e_1 : fX0_blockerSet β t = (β.2 9 t) &&& (fX0_unfinishedSet β) := by rw [fX0_blockerSet]
  exact g_iret C hE (by rw [e_1]) rfl dX0_blockerSet_11
def fX0_blockedSet (β : BS) : Int32 :=
  (fX0_thoseThatNeedAny β (fX0_unfinishedSet β))
theorem caX0_blockedSet : gCalV yX0_blockedSet cX0_blockedSet 1 (some .int) 0 := ⟨⟨q3_135, q1_2, by decide +kernel⟩, q3_133, q3_134⟩
set_option maxHeartbeats 4000000 in
set_option maxRecDepth 100000 in
theorem kX0_blockedSet (l : Launch) (E : gE) (ad : Nat → Nat) (β : BS) (hv : vB β)   : MC l E yX0_blockedSet cX0_blockedSet 1 (some .int) 2 43 [.ref (ad 0)] [wB E ad β] (some (.int (fX0_blockedSet β))) [wB E ad β] := by
  have hv1 : cnt β ≤ 20 := hv.1
  refine mc_of (by decide +kernel) (Nat.le_of_ble_eq_true rfl) (lv := [(0, .ref (ad 0))]) rfl (fun X C hE => ?_)
  refine g_aload_n C dX0_blockedSet_0 rfl 0 rfl ?_
  refine g_aload_n C dX0_blockedSet_1 rfl 0 rfl ?_
  refine g_callV C (cs1 := [wB E ad β]) (st1 := [.int (fX0_unfinishedSet β), .ref (ad 0)]) [] [0] (kX0_unfinishedSet l E ad β hv) caX0_unfinishedSet q3_136 rfl ⟨Nat.le_of_ble_eq_true rfl, Nat.le_of_ble_eq_true rfl⟩ ⟨Nat.zero_le _, Nat.zero_le _⟩ 0 0 rfl rfl rfl rfl (by decide) rfl rfl rfl rfl (Nat.le_of_ble_eq_true rfl) dX0_blockedSet_2 rfl ?_
  refine g_callV C (cs1 := [wB E ad β]) (st1 := [.int (fX0_thoseThatNeedAny β (fX0_unfinishedSet β))]) [.int (fX0_unfinishedSet β)] [0] (kX0_thoseThatNeedAny l E ad β hv (fX0_unfinishedSet β)) caX0_thoseThatNeedAny q3_137 rfl ⟨Nat.le_of_ble_eq_true rfl, Nat.le_of_ble_eq_true rfl⟩ ⟨Nat.zero_le _, Nat.zero_le _⟩ 0 0 rfl rfl rfl rfl (by decide) rfl rfl rfl rfl (Nat.le_of_ble_eq_true rfl) dX0_blockedSet_5 rfl ?_
  have e_1 : fX0_blockedSet β = (fX0_thoseThatNeedAny β (fX0_unfinishedSet β)) := by rw [fX0_blockedSet]
  exact g_iret C hE (by rw [e_1]) rfl dX0_blockedSet_8
def fX0_reachedFrom_R12 (β : BS) (t : Nat) : Nat → Nat → (Int32 × Int32) → Int32
  | 0, _, _ => 0
  | d12 + 1, i12, t12 => if 20 ≤ (nI i12) then t12.1 else (if t12.1 = t12.2 then t12.1 else fX0_reachedFrom_R12 β t d12 (i12 + 1) (t12.1 ||| (fX0_neededByAny β t12.1), t12.1))
def fX0_reachedFrom (β : BS) (t : Nat) : Int32 :=
  fX0_reachedFrom_R12 β t (20 + 1) 0 (β.2 9 t, 0)
theorem caX0_reachedFrom : gCalV yX0_reachedFrom cX0_reachedFrom 5 (some .int) 1 := ⟨⟨q3_85, q1_2, by decide +kernel⟩, q3_83, q3_84⟩
set_option maxHeartbeats 4000000 in
set_option maxRecDepth 100000 in
theorem kX0_reachedFrom (l : Launch) (E : gE) (ad : Nat → Nat) (β : BS) (hv : vB β)  (t : Nat) (ht : t < 20) : MC l E yX0_reachedFrom cX0_reachedFrom 5 (some .int) 2 44 [.ref (ad 0), .int (nI t)] [wB E ad β] (some (.int (fX0_reachedFrom β t))) [wB E ad β] := by
  have hv1 : cnt β ≤ 20 := hv.1
  refine mc_of (by decide +kernel) (Nat.le_of_ble_eq_true rfl) (lv := [(0, .ref (ad 0)), (1, .int (nI t))]) rfl (fun X C hE => ?_)
  refine g_aload_n C dX0_reachedFrom_0 rfl 0 rfl ?_
  refine g_getf C (T := TX0) (N := 17) 0 0 rfl rfl rfl inX0 13 (by decide) q1_62 rfl dX0_reachedFrom_1 ?_
  refine g_iload_n C dX0_reachedFrom_4 rfl 1 rfl ?_
  refine g_ialdn C 0 10 t rfl rfl rfl (by omega) (by decide) dX0_reachedFrom_5 ?_
  refine g_istore_n C (lv1 := [(2, .int (β.2 9 t)), (0, .ref (ad 0)), (1, .int (nI t))]) dX0_reachedFrom_6 rfl (by decide) rfl ?_
  refine g_iconst C (v := 0) dX0_reachedFrom_7 (by decide) ?_
  refine g_istore_n C (lv1 := [(3, .int 0), (2, .int (β.2 9 t)), (0, .ref (ad 0)), (1, .int (nI t))]) dX0_reachedFrom_8 rfl (by decide) rfl ?_
  refine g_iconst C (v := 0) dX0_reachedFrom_9 (by decide) ?_
  refine g_istore C (lv1 := [(4, .int 0), (3, .int 0), (2, .int (β.2 9 t)), (0, .ref (ad 0)), (1, .int (nI t))]) dX0_reachedFrom_10 (by decide) rfl ?_
  have hL_2 : ∀ d12 i12 : Nat, ∀ t12 : Int32 × Int32, i12 + d12 = 20 + 1 → i12 ≤ 20 → fX0_reachedFrom_R12 β t d12 i12 t12 = fX0_reachedFrom β t → G X 0 0 [wB E ad β] [(0, .ref (ad 0)), (1, .int (nI t)), (2, .int t12.1), (3, .int t12.2), (4, .int (nI i12))] 12 [] := by
    intro d12
    induction d12 with
    | zero =>
      intro i12 t12 hi_1 hi_1b hq_4
      omega
    | succ d12 ih_3 =>
      intro i12 t12 hi_1 hi_1b hq_4
      refine g_iload C dX0_reachedFrom_12 4 rfl ?_
      refine g_bipush C (v := 20) dX0_reachedFrom_14 (by decide) ?_
      refine g_icmp_ge C 40 dX0_reachedFrom_16 (by decide) (fun c_6 => ?_) (fun c_6 => ?_)
      · skip
        refine g_iload_n C dX0_reachedFrom_40 rfl 2 rfl ?_
        have e_7 : fX0_reachedFrom β t = t12.1 := by rw [← hq_4, fX0_reachedFrom_R12]; rw [if_pos c_6]
        exact g_iret C hE (by rw [e_7]) rfl dX0_reachedFrom_41
      · skip
        have c_6b : i12 < 20 := lc_ige rfl nI_20 (by omega) (by omega) c_6
        refine g_iload_n C dX0_reachedFrom_19 rfl 2 rfl ?_
        refine g_iload_n C dX0_reachedFrom_20 rfl 3 rfl ?_
        refine g_icmp_eq C 40 dX0_reachedFrom_21 (by decide) (fun c_8 => ?_) (fun c_8 => ?_)
        · skip
          refine g_iload_n C dX0_reachedFrom_40 rfl 2 rfl ?_
          have e_9 : fX0_reachedFrom β t = t12.1 := by rw [← hq_4, fX0_reachedFrom_R12]; rw [if_neg c_6, if_pos c_8]
          exact g_iret C hE (by rw [e_9]) rfl dX0_reachedFrom_41
        · skip
          refine g_iload_n C dX0_reachedFrom_24 rfl 2 rfl ?_
          refine g_istore_n C (lv1 := [(3, .int t12.1), (0, .ref (ad 0)), (1, .int (nI t)), (2, .int t12.1), (4, .int (nI i12))]) dX0_reachedFrom_25 rfl (by decide) rfl ?_
          refine g_iload_n C dX0_reachedFrom_26 rfl 3 rfl ?_
          refine g_aload_n C dX0_reachedFrom_27 rfl 1 rfl ?_
          refine g_iload_n C dX0_reachedFrom_28 rfl 3 rfl ?_
          refine g_callV C (cs1 := [wB E ad β]) (st1 := [.int (fX0_neededByAny β t12.1), .int t12.1]) [.int t12.1] [0] (kX0_neededByAny l E ad β hv t12.1) caX0_neededByAny q3_86 rfl ⟨Nat.le_of_ble_eq_true rfl, Nat.le_of_ble_eq_true rfl⟩ ⟨Nat.zero_le _, Nat.zero_le _⟩ 0 0 rfl rfl rfl rfl (by decide) rfl rfl rfl rfl (Nat.le_of_ble_eq_true rfl) dX0_reachedFrom_29 rfl ?_
          refine g_ior C dX0_reachedFrom_32 ?_
          refine g_istore_n C (lv1 := [(2, .int (t12.1 ||| (fX0_neededByAny β t12.1))), (3, .int t12.1), (0, .ref (ad 0)), (1, .int (nI t)), (4, .int (nI i12))]) dX0_reachedFrom_33 rfl (by decide) rfl ?_
          refine g_iinc C (v := nI (i12 + 1)) (lv1 := [(4, .int (nI (i12 + 1))), (2, .int (t12.1 ||| (fX0_neededByAny β t12.1))), (3, .int t12.1), (0, .ref (ad 0)), (1, .int (nI t))]) dX0_reachedFrom_34 4 rfl (nI_1 i12) (by decide) rfl ?_
          refine g_goto C 12 dX0_reachedFrom_37 (by decide) ?_
          have e_10 : fX0_reachedFrom_R12 β t d12 (i12 + 1) (t12.1 ||| (fX0_neededByAny β t12.1), t12.1) = fX0_reachedFrom β t := by
            rw [← hq_4, fX0_reachedFrom_R12]; rw [if_neg c_6, if_neg c_8]
          exact g_sub [3, 4, 1, 2, 0] rfl (ih_3 (i12 + 1) (t12.1 ||| (fX0_neededByAny β t12.1), t12.1) (by omega) (by omega) e_10)
  refine g_sub [3, 4, 2, 1, 0] (lv1 := [(0, .ref (ad 0)), (1, .int (nI t)), (2, .int (β.2 9 t)), (3, .int 0), (4, .int 0)]) rfl ?_
  have e_11 : fX0_reachedFrom_R12 β t (20 + 1) 0 (β.2 9 t, 0) = fX0_reachedFrom β t := by
    rw [fX0_reachedFrom]
  exact hL_2 (20 + 1) 0 (β.2 9 t, 0) (by omega) (by omega) e_11
def fX0_hasCapacity (β : BS) (o : Int32) (z : Int32) : Bool :=
  if o = (-1) then true else (if (β.2 10 o.toNatClampNeg) < ((β.2 11 o.toNatClampNeg) + z) then false else true)
theorem caX0_hasCapacity : gCalV yX0_hasCapacity cX0_hasCapacity 3 (some .boolean) 2 := ⟨⟨q3_114, q1_2, by decide +kernel⟩, q3_113, qs_3⟩
set_option maxHeartbeats 4000000 in
set_option maxRecDepth 100000 in
theorem kX0_hasCapacity (l : Launch) (E : gE) (ad : Nat → Nat) (β : BS)  (o : Int32) (z : Int32) (ho : okO o) : MC l E yX0_hasCapacity cX0_hasCapacity 3 (some .boolean) 0 0 [.ref (ad 0), .int o, .int z] [wB E ad β] (some (.int (b2i (fX0_hasCapacity β o z)))) [wB E ad β] := by
  refine mc_of (by decide +kernel) (Nat.le_of_ble_eq_true rfl) (lv := [(0, .ref (ad 0)), (1, .int o), (2, .int z)]) rfl (fun X C hE => ?_)
  refine g_iload_n C dX0_hasCapacity_0 rfl 1 rfl ?_
  refine g_iconst C (v := -1) dX0_hasCapacity_1 (by decide) ?_
  refine g_icmp_eq C 22 dX0_hasCapacity_2 (by decide) (fun c_1 => ?_) (fun c_1 => ?_)
  · skip
    refine g_iconst C (v := 1) dX0_hasCapacity_22 (by decide) ?_
    refine g_goto C 27 dX0_hasCapacity_23 (by decide) ?_
    have e_2 : fX0_hasCapacity β o z = true := by rw [fX0_hasCapacity]; rw [if_pos c_1]
    exact g_zret (b := true) C hE (by rw [e_2]) rfl rfl dX0_hasCapacity_27
  · skip
    have hj := okO_i ho c_1
    refine g_aload_n C dX0_hasCapacity_5 rfl 0 rfl ?_
    refine g_getf C (T := TX0) (N := 17) 0 0 rfl rfl rfl inX0 15 (by decide) q1_67 rfl dX0_hasCapacity_6 ?_
    refine g_iload_n C dX0_hasCapacity_9 rfl 1 rfl ?_
    refine g_ialdn C 0 12 o.toNatClampNeg rfl rfl hj.1 hj.2 (by decide) dX0_hasCapacity_10 ?_
    refine g_iload_n C dX0_hasCapacity_11 rfl 2 rfl ?_
    refine g_iadd C dX0_hasCapacity_12 ?_
    refine g_aload_n C dX0_hasCapacity_13 rfl 0 rfl ?_
    refine g_getf C (T := TX0) (N := 17) 0 0 rfl rfl rfl inX0 14 (by decide) q1_65 rfl dX0_hasCapacity_14 ?_
    refine g_iload_n C dX0_hasCapacity_17 rfl 1 rfl ?_
    refine g_ialdn C 0 11 o.toNatClampNeg rfl rfl hj.1 hj.2 (by decide) dX0_hasCapacity_18 ?_
    refine g_icmp_gt C 26 dX0_hasCapacity_19 (by decide) (fun c_3 => ?_) (fun c_3 => ?_)
    · skip
      refine g_iconst C (v := 0) dX0_hasCapacity_26 (by decide) ?_
      have e_4 : fX0_hasCapacity β o z = false := by rw [fX0_hasCapacity]; rw [if_neg c_1, if_pos c_3]
      exact g_zret (b := false) C hE (by rw [e_4]) rfl rfl dX0_hasCapacity_27
    · skip
      refine g_iconst C (v := 1) dX0_hasCapacity_22 (by decide) ?_
      refine g_goto C 27 dX0_hasCapacity_23 (by decide) ?_
      have e_5 : fX0_hasCapacity β o z = true := by rw [fX0_hasCapacity]; rw [if_neg c_1, if_neg c_3]
      exact g_zret (b := true) C hE (by rw [e_5]) rfl rfl dX0_hasCapacity_27
def fX0_canHavePoints (β : BS) (t : Nat) (p : Int32) : Bool :=
  if (fX0_isUnfinished β t) = true then (if (fX0_hasCapacity β (β.2 3 t) (p - (β.2 1 t))) = true then true else false) else false
def fX0_canNeed (β : BS) (t : Nat) (u : Nat) : Bool :=
  if (fX0_needsDirectly β t (nI u)) = true then false else (if (fX0_isUnfinished β t) = true then (if (fX6_isIn (fX0_reachedFrom β u) (nI t)) = true then false else true) else false)
theorem caX0_canNeed : gCalV yX0_canNeed cX0_canNeed 3 (some .boolean) 2 := ⟨⟨q3_80, q1_2, by decide +kernel⟩, q3_78, q3_79⟩
set_option maxHeartbeats 4000000 in
set_option maxRecDepth 100000 in
theorem kX0_canNeed (l : Launch) (E : gE) (ad : Nat → Nat) (β : BS) (hv : vB β)  (t : Nat) (ht : t < 20) (u : Nat) (hu : u < 20) : MC l E yX0_canNeed cX0_canNeed 3 (some .boolean) 3 68 [.ref (ad 0), .int (nI t), .int (nI u)] [wB E ad β] (some (.int (b2i (fX0_canNeed β t u)))) [wB E ad β] := by
  have hv1 : cnt β ≤ 20 := hv.1
  refine mc_of (by decide +kernel) (Nat.le_of_ble_eq_true rfl) (lv := [(0, .ref (ad 0)), (1, .int (nI t)), (2, .int (nI u))]) rfl (fun X C hE => ?_)
  refine g_aload_n C dX0_canNeed_0 rfl 0 rfl ?_
  refine g_iload_n C dX0_canNeed_1 rfl 1 rfl ?_
  refine g_iload_n C dX0_canNeed_2 rfl 2 rfl ?_
  refine g_callV C (cs1 := [wB E ad β]) (st1 := [.int (b2i (fX0_needsDirectly β t (nI u)))]) [.int (nI t), .int (nI u)] [0] (kX0_needsDirectly l E ad β t (by omega) (nI u)) caX0_needsDirectly q3_81 rfl ⟨Nat.le_of_ble_eq_true rfl, Nat.le_of_ble_eq_true rfl⟩ ⟨Nat.zero_le _, Nat.zero_le _⟩ 0 0 rfl rfl rfl rfl (by decide) rfl rfl rfl rfl (Nat.le_of_ble_eq_true rfl) dX0_canNeed_3 rfl ?_
  refine g_ifB_ne C 33 dX0_canNeed_6 (by decide) (fun c_1 => ?_) (fun c_1 => ?_)
  · skip
    refine g_iconst C (v := 0) dX0_canNeed_33 (by decide) ?_
    have e_2 : fX0_canNeed β t u = false := by rw [fX0_canNeed]; rw [if_pos c_1]
    exact g_zret (b := false) C hE (by rw [e_2]) rfl rfl dX0_canNeed_34
  · skip
    refine g_aload_n C dX0_canNeed_9 rfl 0 rfl ?_
    refine g_iload_n C dX0_canNeed_10 rfl 1 rfl ?_
    refine g_callV C (cs1 := [wB E ad β]) (st1 := [.int (b2i (fX0_isUnfinished β t))]) [.int (nI t)] [0] (kX0_isUnfinished l E ad β t (by omega)) caX0_isUnfinished q2_134 rfl ⟨Nat.le_of_ble_eq_true rfl, Nat.le_of_ble_eq_true rfl⟩ ⟨Nat.zero_le _, Nat.zero_le _⟩ 0 0 rfl rfl rfl rfl (by decide) rfl rfl rfl rfl (Nat.le_of_ble_eq_true rfl) dX0_canNeed_11 rfl ?_
    refine g_ifB_eq C 33 dX0_canNeed_14 (by decide) (fun c_3 => ?_) (fun c_3 => ?_)
    · skip
      refine g_iconst C (v := 0) dX0_canNeed_33 (by decide) ?_
      have e_4 : fX0_canNeed β t u = false := by rw [fX0_canNeed]; rw [if_neg (ne_true_of_eq_false c_1), if_neg (ne_true_of_eq_false c_3)]
      exact g_zret (b := false) C hE (by rw [e_4]) rfl rfl dX0_canNeed_34
    · skip
      refine g_aload_n C dX0_canNeed_17 rfl 0 rfl ?_
      refine g_iload_n C dX0_canNeed_18 rfl 2 rfl ?_
      refine g_callV C (cs1 := [wB E ad β]) (st1 := [.int (fX0_reachedFrom β u)]) [.int (nI u)] [0] (kX0_reachedFrom l E ad β hv u (by omega)) caX0_reachedFrom q3_82 rfl ⟨Nat.le_of_ble_eq_true rfl, Nat.le_of_ble_eq_true rfl⟩ ⟨Nat.zero_le _, Nat.zero_le _⟩ 0 0 rfl rfl rfl rfl (by decide) rfl rfl rfl rfl (Nat.le_of_ble_eq_true rfl) dX0_canNeed_19 rfl ?_
      refine g_iload_n C dX0_canNeed_22 rfl 1 rfl ?_
      refine g_callSN C (cs1 := [wB E ad β]) (st1 := [.int (b2i (fX6_isIn (fX0_reachedFrom β u) (nI t)))]) [.int (fX0_reachedFrom β u), .int (nI t)] [] (kX6_isIn l E (fX0_reachedFrom β u) (nI t)) caX6_isIn (host := RX6) (by decide +kernel) rfl ⟨Nat.le_of_ble_eq_true rfl, Nat.le_of_ble_eq_true rfl⟩ ⟨Nat.zero_le _, Nat.zero_le _⟩ (by decide) rfl rfl rfl rfl (Nat.le_of_ble_eq_true rfl) dX0_canNeed_23 rfl ?_
      refine g_ifB_ne C 33 dX0_canNeed_26 (by decide) (fun c_5 => ?_) (fun c_5 => ?_)
      · skip
        refine g_iconst C (v := 0) dX0_canNeed_33 (by decide) ?_
        have e_6 : fX0_canNeed β t u = false := by rw [fX0_canNeed]; rw [if_neg (ne_true_of_eq_false c_1), if_pos c_3, if_pos c_5]
        exact g_zret (b := false) C hE (by rw [e_6]) rfl rfl dX0_canNeed_34
      · skip
        refine g_iconst C (v := 1) dX0_canNeed_29 (by decide) ?_
        refine g_goto C 34 dX0_canNeed_30 (by decide) ?_
        have e_7 : fX0_canNeed β t u = true := by rw [fX0_canNeed]; rw [if_neg (ne_true_of_eq_false c_1), if_pos c_3, if_neg (ne_true_of_eq_false c_5)]
        exact g_zret (b := true) C hE (by rw [e_7]) rfl rfl dX0_canNeed_34
def fX0_canBeGivenTo (β : BS) (t : Nat) (o : Nat) : Bool :=
  if (fX0_isUnfinished β t) = true then (if (β.2 3 t) = (nI o) then false else (if (fX0_hasCapacity β (nI o) (β.2 1 t)) = true then true else false)) else false
theorem caX0_canBeGivenTo : gCalV yX0_canBeGivenTo cX0_canBeGivenTo 3 (some .boolean) 2 := ⟨⟨q3_110, q1_2, by decide +kernel⟩, q3_108, q3_109⟩
set_option maxHeartbeats 4000000 in
set_option maxRecDepth 100000 in
theorem kX0_canBeGivenTo (l : Launch) (E : gE) (ad : Nat → Nat) (β : BS) (hv : vB β)  (t : Nat) (ht : t < 20) (o : Nat) (ho : o < 5) : MC l E yX0_canBeGivenTo cX0_canBeGivenTo 3 (some .boolean) 1 22 [.ref (ad 0), .int (nI t), .int (nI o)] [wB E ad β] (some (.int (b2i (fX0_canBeGivenTo β t o)))) [wB E ad β] := by
  have hv1 : cnt β ≤ 20 := hv.1
  refine mc_of (by decide +kernel) (Nat.le_of_ble_eq_true rfl) (lv := [(0, .ref (ad 0)), (1, .int (nI t)), (2, .int (nI o))]) rfl (fun X C hE => ?_)
  refine g_aload_n C dX0_canBeGivenTo_0 rfl 0 rfl ?_
  refine g_iload_n C dX0_canBeGivenTo_1 rfl 1 rfl ?_
  refine g_callV C (cs1 := [wB E ad β]) (st1 := [.int (b2i (fX0_isUnfinished β t))]) [.int (nI t)] [0] (kX0_isUnfinished l E ad β t (by omega)) caX0_isUnfinished q2_134 rfl ⟨Nat.le_of_ble_eq_true rfl, Nat.le_of_ble_eq_true rfl⟩ ⟨Nat.zero_le _, Nat.zero_le _⟩ 0 0 rfl rfl rfl rfl (by decide) rfl rfl rfl rfl (Nat.le_of_ble_eq_true rfl) dX0_canBeGivenTo_2 rfl ?_
  refine g_ifB_eq C 36 dX0_canBeGivenTo_5 (by decide) (fun c_1 => ?_) (fun c_1 => ?_)
  · skip
    refine g_iconst C (v := 0) dX0_canBeGivenTo_36 (by decide) ?_
    have e_2 : fX0_canBeGivenTo β t o = false := by rw [fX0_canBeGivenTo]; rw [if_neg (ne_true_of_eq_false c_1)]
    exact g_zret (b := false) C hE (by rw [e_2]) rfl rfl dX0_canBeGivenTo_37
  · skip
    refine g_aload_n C dX0_canBeGivenTo_8 rfl 0 rfl ?_
    refine g_getf C (T := TX0) (N := 17) 0 0 rfl rfl rfl inX0 7 (by decide) q1_50 rfl dX0_canBeGivenTo_9 ?_
    refine g_iload_n C dX0_canBeGivenTo_12 rfl 1 rfl ?_
    refine g_ialdn C 0 4 t rfl rfl rfl (by omega) (by decide) dX0_canBeGivenTo_13 ?_
    refine g_iload_n C dX0_canBeGivenTo_14 rfl 2 rfl ?_
    refine g_icmp_eq C 36 dX0_canBeGivenTo_15 (by decide) (fun c_3 => ?_) (fun c_3 => ?_)
    · skip
      refine g_iconst C (v := 0) dX0_canBeGivenTo_36 (by decide) ?_
      have e_4 : fX0_canBeGivenTo β t o = false := by rw [fX0_canBeGivenTo]; rw [if_pos c_1, if_pos c_3]
      exact g_zret (b := false) C hE (by rw [e_4]) rfl rfl dX0_canBeGivenTo_37
    · skip
      refine g_aload_n C dX0_canBeGivenTo_18 rfl 0 rfl ?_
      refine g_iload_n C dX0_canBeGivenTo_19 rfl 2 rfl ?_
      refine g_aload_n C dX0_canBeGivenTo_20 rfl 0 rfl ?_
      refine g_getf C (T := TX0) (N := 17) 0 0 rfl rfl rfl inX0 5 (by decide) q1_44 rfl dX0_canBeGivenTo_21 ?_
      refine g_iload_n C dX0_canBeGivenTo_24 rfl 1 rfl ?_
      refine g_ialdn C 0 2 t rfl rfl rfl (by omega) (by decide) dX0_canBeGivenTo_25 ?_
      refine g_callV C (cs1 := [wB E ad β]) (st1 := [.int (b2i (fX0_hasCapacity β (nI o) (β.2 1 t)))]) [.int (nI o), .int (β.2 1 t)] [0] (kX0_hasCapacity l E ad β (nI o) (β.2 1 t) (okO_n ho)) caX0_hasCapacity q3_111 rfl ⟨Nat.le_of_ble_eq_true rfl, Nat.le_of_ble_eq_true rfl⟩ ⟨Nat.zero_le _, Nat.zero_le _⟩ 0 0 rfl rfl rfl rfl (by decide) rfl rfl rfl rfl (Nat.le_of_ble_eq_true rfl) dX0_canBeGivenTo_26 rfl ?_
      refine g_ifB_eq C 36 dX0_canBeGivenTo_29 (by decide) (fun c_5 => ?_) (fun c_5 => ?_)
      · skip
        refine g_iconst C (v := 0) dX0_canBeGivenTo_36 (by decide) ?_
        have e_6 : fX0_canBeGivenTo β t o = false := by rw [fX0_canBeGivenTo]; rw [if_pos c_1, if_neg c_3, if_neg (ne_true_of_eq_false c_5)]
        exact g_zret (b := false) C hE (by rw [e_6]) rfl rfl dX0_canBeGivenTo_37
      · skip
        refine g_iconst C (v := 1) dX0_canBeGivenTo_32 (by decide) ?_
        refine g_goto C 37 dX0_canBeGivenTo_33 (by decide) ?_
        have e_7 : fX0_canBeGivenTo β t o = true := by rw [fX0_canBeGivenTo]; rw [if_pos c_1, if_neg c_3, if_pos c_5]
        exact g_zret (b := true) C hE (by rw [e_7]) rfl rfl dX0_canBeGivenTo_37
def fX0_canPass (β : BS) (d : Int32) : Bool :=
  if 999 < ((β.1 1) + d) then false else true
theorem caX0_canPass : gCalV yX0_canPass cX0_canPass 2 (some .boolean) 1 := ⟨⟨q3_152, q1_2, by decide +kernel⟩, q3_150, q3_151⟩
set_option maxHeartbeats 4000000 in
set_option maxRecDepth 100000 in
theorem kX0_canPass (l : Launch) (E : gE) (ad : Nat → Nat) (β : BS)  (d : Int32) : MC l E yX0_canPass cX0_canPass 2 (some .boolean) 0 0 [.ref (ad 0), .int d] [wB E ad β] (some (.int (b2i (fX0_canPass β d)))) [wB E ad β] := by
  refine mc_of (by decide +kernel) (Nat.le_of_ble_eq_true rfl) (lv := [(0, .ref (ad 0)), (1, .int d)]) rfl (fun X C hE => ?_)
  refine g_aload_n C dX0_canPass_0 rfl 0 rfl ?_
  refine g_getf C (T := TX0) (N := 17) 0 0 rfl rfl rfl inX0 1 (by decide) q1_34 rfl dX0_canPass_1 ?_
  refine g_iload_n C dX0_canPass_4 rfl 1 rfl ?_
  refine g_iadd C dX0_canPass_5 ?_
  refine g_sipush C (v := 999) dX0_canPass_6 (by decide) ?_
  refine g_icmp_gt C 16 dX0_canPass_9 (by decide) (fun c_1 => ?_) (fun c_1 => ?_)
  · skip
    refine g_iconst C (v := 0) dX0_canPass_16 (by decide) ?_
    have e_2 : fX0_canPass β d = false := by rw [fX0_canPass]; rw [if_pos c_1]
    exact g_zret (b := false) C hE (by rw [e_2]) rfl rfl dX0_canPass_17
  · skip
    refine g_iconst C (v := 1) dX0_canPass_12 (by decide) ?_
    refine g_goto C 17 dX0_canPass_13 (by decide) ?_
    have e_3 : fX0_canPass β d = true := by rw [fX0_canPass]; rw [if_neg c_1]
    exact g_zret (b := true) C hE (by rw [e_3]) rfl rfl dX0_canPass_17
def fX0_canStart (β : BS) (t : Nat) : Bool :=
  if (β.2 0 t) = 0 then (if (β.2 3 t) = (-1) then false else true) else false
theorem caX0_canStart : gCalV yX0_canStart cX0_canStart 2 (some .boolean) 1 := ⟨⟨q3_175, q1_2, by decide +kernel⟩, q3_173, q3_174⟩
set_option maxHeartbeats 4000000 in
set_option maxRecDepth 100000 in
theorem kX0_canStart (l : Launch) (E : gE) (ad : Nat → Nat) (β : BS)  (t : Nat) (ht : t < 20) : MC l E yX0_canStart cX0_canStart 2 (some .boolean) 0 0 [.ref (ad 0), .int (nI t)] [wB E ad β] (some (.int (b2i (fX0_canStart β t)))) [wB E ad β] := by
  refine mc_of (by decide +kernel) (Nat.le_of_ble_eq_true rfl) (lv := [(0, .ref (ad 0)), (1, .int (nI t))]) rfl (fun X C hE => ?_)
  refine g_aload_n C dX0_canStart_0 rfl 0 rfl ?_
  refine g_getf C (T := TX0) (N := 17) 0 0 rfl rfl rfl inX0 4 (by decide) q1_41 rfl dX0_canStart_1 ?_
  refine g_iload_n C dX0_canStart_4 rfl 1 rfl ?_
  refine g_ialdn C 0 1 t rfl rfl rfl (by omega) (by decide) dX0_canStart_5 ?_
  refine g_if_ne C 23 dX0_canStart_6 (by decide) (fun c_1 => ?_) (fun c_1 => ?_)
  · skip
    refine g_iconst C (v := 0) dX0_canStart_23 (by decide) ?_
    have e_2 : fX0_canStart β t = false := by rw [fX0_canStart]; rw [if_neg c_1]
    exact g_zret (b := false) C hE (by rw [e_2]) rfl rfl dX0_canStart_24
  · skip
    refine g_aload_n C dX0_canStart_9 rfl 0 rfl ?_
    refine g_getf C (T := TX0) (N := 17) 0 0 rfl rfl rfl inX0 7 (by decide) q1_50 rfl dX0_canStart_10 ?_
    refine g_iload_n C dX0_canStart_13 rfl 1 rfl ?_
    refine g_ialdn C 0 4 t rfl rfl rfl (by omega) (by decide) dX0_canStart_14 ?_
    refine g_iconst C (v := -1) dX0_canStart_15 (by decide) ?_
    refine g_icmp_eq C 23 dX0_canStart_16 (by decide) (fun c_3 => ?_) (fun c_3 => ?_)
    · skip
      refine g_iconst C (v := 0) dX0_canStart_23 (by decide) ?_
      have e_4 : fX0_canStart β t = false := by rw [fX0_canStart]; rw [if_pos c_1, if_pos c_3]
      exact g_zret (b := false) C hE (by rw [e_4]) rfl rfl dX0_canStart_24
    · skip
      refine g_iconst C (v := 1) dX0_canStart_19 (by decide) ?_
      refine g_goto C 24 dX0_canStart_20 (by decide) ?_
      have e_5 : fX0_canStart β t = true := by rw [fX0_canStart]; rw [if_pos c_1, if_neg c_3]
      exact g_zret (b := true) C hE (by rw [e_5]) rfl rfl dX0_canStart_24
def fX0_canClose (β : BS) (t : Nat) : Bool :=
  if (β.2 0 t) = 2 then (if (fX0_blockerSet β t) = 0 then true else false) else false
theorem caX0_canClose : gCalV yX0_canClose cX0_canClose 2 (some .boolean) 1 := ⟨⟨q3_195, q1_2, by decide +kernel⟩, q3_193, q3_194⟩
set_option maxHeartbeats 4000000 in
set_option maxRecDepth 100000 in
theorem kX0_canClose (l : Launch) (E : gE) (ad : Nat → Nat) (β : BS) (hv : vB β)  (t : Nat) (ht : t < 20) : MC l E yX0_canClose cX0_canClose 2 (some .boolean) 3 64 [.ref (ad 0), .int (nI t)] [wB E ad β] (some (.int (b2i (fX0_canClose β t)))) [wB E ad β] := by
  have hv1 : cnt β ≤ 20 := hv.1
  refine mc_of (by decide +kernel) (Nat.le_of_ble_eq_true rfl) (lv := [(0, .ref (ad 0)), (1, .int (nI t))]) rfl (fun X C hE => ?_)
  refine g_aload_n C dX0_canClose_0 rfl 0 rfl ?_
  refine g_getf C (T := TX0) (N := 17) 0 0 rfl rfl rfl inX0 4 (by decide) q1_41 rfl dX0_canClose_1 ?_
  refine g_iload_n C dX0_canClose_4 rfl 1 rfl ?_
  refine g_ialdn C 0 1 t rfl rfl rfl (by omega) (by decide) dX0_canClose_5 ?_
  refine g_iconst C (v := 2) dX0_canClose_6 (by decide) ?_
  refine g_icmp_ne C 22 dX0_canClose_7 (by decide) (fun c_1 => ?_) (fun c_1 => ?_)
  · skip
    refine g_iconst C (v := 0) dX0_canClose_22 (by decide) ?_
    have e_2 : fX0_canClose β t = false := by rw [fX0_canClose]; rw [if_neg c_1]
    exact g_zret (b := false) C hE (by rw [e_2]) rfl rfl dX0_canClose_23
  · skip
    refine g_aload_n C dX0_canClose_10 rfl 0 rfl ?_
    refine g_iload_n C dX0_canClose_11 rfl 1 rfl ?_
    refine g_callV C (cs1 := [wB E ad β]) (st1 := [.int (fX0_blockerSet β t)]) [.int (nI t)] [0] (kX0_blockerSet l E ad β hv t (by omega)) caX0_blockerSet q3_196 rfl ⟨Nat.le_of_ble_eq_true rfl, Nat.le_of_ble_eq_true rfl⟩ ⟨Nat.zero_le _, Nat.zero_le _⟩ 0 0 rfl rfl rfl rfl (by decide) rfl rfl rfl rfl (Nat.le_of_ble_eq_true rfl) dX0_canClose_12 rfl ?_
    refine g_if_ne C 22 dX0_canClose_15 (by decide) (fun c_3 => ?_) (fun c_3 => ?_)
    · skip
      refine g_iconst C (v := 0) dX0_canClose_22 (by decide) ?_
      have e_4 : fX0_canClose β t = false := by rw [fX0_canClose]; rw [if_pos c_1, if_neg c_3]
      exact g_zret (b := false) C hE (by rw [e_4]) rfl rfl dX0_canClose_23
    · skip
      refine g_iconst C (v := 1) dX0_canClose_18 (by decide) ?_
      refine g_goto C 23 dX0_canClose_19 (by decide) ?_
      have e_5 : fX0_canClose β t = true := by rw [fX0_canClose]; rw [if_pos c_1, if_pos c_3]
      exact g_zret (b := true) C hE (by rw [e_5]) rfl rfl dX0_canClose_23
def fX0_canReopen (β : BS) (t : Nat) : Bool :=
  if (β.2 0 t) = 3 then (if ((fX0_thoseThatNeed β (nI t)) &&& (fX0_inState β 3)) = 0 then (if (fX0_hasCapacity β (β.2 3 t) (β.2 1 t)) = true then true else false) else false) else false
def fX0_addTicket (β : BS) (p : Int32) (z : Int32) : Int32 × BS :=
  (β.1 0, sI (sE (sE (sE (sE (sE (sE (sE (sE (sE (sE β 0 (cnt β) 0) 1 (cnt β) p) 2 (cnt β) z) 3 (cnt β) (-1)) 4 (cnt β) (-1)) 5 (cnt β) ((sE (sE (sE (sE (sE β 0 (cnt β) 0) 1 (cnt β) p) 2 (cnt β) z) 3 (cnt β) (-1)) 4 (cnt β) (-1)).1 1)) 6 (cnt β) (-1)) 7 (cnt β) 0) 8 (cnt β) 0) 9 (cnt β) 0) 0 (((sE (sE (sE (sE (sE (sE (sE (sE (sE (sE β 0 (cnt β) 0) 1 (cnt β) p) 2 (cnt β) z) 3 (cnt β) (-1)) 4 (cnt β) (-1)) 5 (cnt β) ((sE (sE (sE (sE (sE β 0 (cnt β) 0) 1 (cnt β) p) 2 (cnt β) z) 3 (cnt β) (-1)) 4 (cnt β) (-1)).1 1)) 6 (cnt β) (-1)) 7 (cnt β) 0) 8 (cnt β) 0) 9 (cnt β) 0).1 0) + 1))
theorem caX0_addTicket : gCalV yX0_addTicket cX0_addTicket 4 (some .int) 2 := ⟨⟨q3_64, q1_2, by decide +kernel⟩, q3_62, q3_63⟩
set_option maxHeartbeats 4000000 in
set_option maxRecDepth 100000 in
theorem kX0_addTicket (l : Launch) (E : gE) (ad : Nat → Nat) (β : BS) (hv : vB β)  (p : Int32) (z : Int32) (hr9 : cnt β < 20) : MC l E yX0_addTicket cX0_addTicket 4 (some .int) 0 0 [.ref (ad 0), .int p, .int z] [wB E ad β] (some (.int (fX0_addTicket β p z).1)) [wB E ad ((fX0_addTicket β p z).2)] := by
  have hv1 : cnt β ≤ 20 := hv.1
  refine mc_of (by decide +kernel) (Nat.le_of_ble_eq_true rfl) (lv := [(0, .ref (ad 0)), (1, .int p), (2, .int z)]) rfl (fun X C hE => ?_)
  refine g_aload_n C dX0_addTicket_0 rfl 0 rfl ?_
  refine g_getf C (T := TX0) (N := 17) 0 0 rfl rfl rfl inX0 0 (by decide) q1_31 rfl dX0_addTicket_1 ?_
  refine g_istore_n C (lv1 := [(3, .int (β.1 0)), (0, .ref (ad 0)), (1, .int p), (2, .int z)]) dX0_addTicket_4 rfl (by decide) rfl ?_
  refine g_aload_n C dX0_addTicket_5 rfl 1 rfl ?_
  refine g_getf C (T := TX0) (N := 17) 0 0 rfl rfl rfl inX0 4 (by decide) q1_41 rfl dX0_addTicket_6 ?_
  refine g_iload_n C dX0_addTicket_9 rfl 0 rfl ?_
  refine g_iconst C (v := 0) dX0_addTicket_10 (by decide) ?_
  refine g_iastn C (w1 := wB E ad (sE β 0 (cnt β) 0)) (cs1 := [wB E ad (sE β 0 (cnt β) 0)]) 0 1 (cnt β) rfl rfl hv.2.1 hr9 (by decide) rfl rfl dX0_addTicket_11 ?_
  refine g_aload_n C dX0_addTicket_12 rfl 1 rfl ?_
  refine g_getf C (T := TX0) (N := 17) 0 0 rfl rfl rfl inX0 5 (by decide) q1_44 rfl dX0_addTicket_13 ?_
  refine g_iload_n C dX0_addTicket_16 rfl 0 rfl ?_
  refine g_iload_n C dX0_addTicket_17 rfl 2 rfl ?_
  refine g_iastn C (w1 := wB E ad (sE (sE β 0 (cnt β) 0) 1 (cnt β) p)) (cs1 := [wB E ad (sE (sE β 0 (cnt β) 0) 1 (cnt β) p)]) 0 2 (cnt β) rfl rfl hv.2.1 hr9 (by decide) rfl rfl dX0_addTicket_18 ?_
  refine g_aload_n C dX0_addTicket_19 rfl 1 rfl ?_
  refine g_getf C (T := TX0) (N := 17) 0 0 rfl rfl rfl inX0 6 (by decide) q1_48 rfl dX0_addTicket_20 ?_
  refine g_iload_n C dX0_addTicket_23 rfl 0 rfl ?_
  refine g_iload_n C dX0_addTicket_24 rfl 3 rfl ?_
  refine g_iastn C (w1 := wB E ad (sE (sE (sE β 0 (cnt β) 0) 1 (cnt β) p) 2 (cnt β) z)) (cs1 := [wB E ad (sE (sE (sE β 0 (cnt β) 0) 1 (cnt β) p) 2 (cnt β) z)]) 0 3 (cnt β) rfl rfl hv.2.1 hr9 (by decide) rfl rfl dX0_addTicket_25 ?_
  refine g_aload_n C dX0_addTicket_26 rfl 1 rfl ?_
  refine g_getf C (T := TX0) (N := 17) 0 0 rfl rfl rfl inX0 7 (by decide) q1_50 rfl dX0_addTicket_27 ?_
  refine g_iload_n C dX0_addTicket_30 rfl 0 rfl ?_
  refine g_iconst C (v := -1) dX0_addTicket_31 (by decide) ?_
  refine g_iastn C (w1 := wB E ad (sE (sE (sE (sE β 0 (cnt β) 0) 1 (cnt β) p) 2 (cnt β) z) 3 (cnt β) (-1))) (cs1 := [wB E ad (sE (sE (sE (sE β 0 (cnt β) 0) 1 (cnt β) p) 2 (cnt β) z) 3 (cnt β) (-1))]) 0 4 (cnt β) rfl rfl hv.2.1 hr9 (by decide) rfl rfl dX0_addTicket_32 ?_
  refine g_aload_n C dX0_addTicket_33 rfl 1 rfl ?_
  refine g_getf C (T := TX0) (N := 17) 0 0 rfl rfl rfl inX0 8 (by decide) q1_52 rfl dX0_addTicket_34 ?_
  refine g_iload_n C dX0_addTicket_37 rfl 0 rfl ?_
  refine g_iconst C (v := -1) dX0_addTicket_38 (by decide) ?_
  refine g_iastn C (w1 := wB E ad (sE (sE (sE (sE (sE β 0 (cnt β) 0) 1 (cnt β) p) 2 (cnt β) z) 3 (cnt β) (-1)) 4 (cnt β) (-1))) (cs1 := [wB E ad (sE (sE (sE (sE (sE β 0 (cnt β) 0) 1 (cnt β) p) 2 (cnt β) z) 3 (cnt β) (-1)) 4 (cnt β) (-1))]) 0 5 (cnt β) rfl rfl hv.2.1 hr9 (by decide) rfl rfl dX0_addTicket_39 ?_
  refine g_aload_n C dX0_addTicket_40 rfl 1 rfl ?_
  refine g_getf C (T := TX0) (N := 17) 0 0 rfl rfl rfl inX0 9 (by decide) q1_54 rfl dX0_addTicket_41 ?_
  refine g_iload_n C dX0_addTicket_44 rfl 0 rfl ?_
  refine g_aload_n C dX0_addTicket_45 rfl 1 rfl ?_
  refine g_getf C (T := TX0) (N := 17) 0 0 rfl rfl rfl inX0 1 (by decide) q1_34 rfl dX0_addTicket_46 ?_
  refine g_iastn C (w1 := wB E ad (sE (sE (sE (sE (sE (sE β 0 (cnt β) 0) 1 (cnt β) p) 2 (cnt β) z) 3 (cnt β) (-1)) 4 (cnt β) (-1)) 5 (cnt β) ((sE (sE (sE (sE (sE β 0 (cnt β) 0) 1 (cnt β) p) 2 (cnt β) z) 3 (cnt β) (-1)) 4 (cnt β) (-1)).1 1))) (cs1 := [wB E ad (sE (sE (sE (sE (sE (sE β 0 (cnt β) 0) 1 (cnt β) p) 2 (cnt β) z) 3 (cnt β) (-1)) 4 (cnt β) (-1)) 5 (cnt β) ((sE (sE (sE (sE (sE β 0 (cnt β) 0) 1 (cnt β) p) 2 (cnt β) z) 3 (cnt β) (-1)) 4 (cnt β) (-1)).1 1))]) 0 6 (cnt β) rfl rfl hv.2.1 hr9 (by decide) rfl rfl dX0_addTicket_49 ?_
  refine g_aload_n C dX0_addTicket_50 rfl 1 rfl ?_
  refine g_getf C (T := TX0) (N := 17) 0 0 rfl rfl rfl inX0 10 (by decide) q1_55 rfl dX0_addTicket_51 ?_
  refine g_iload_n C dX0_addTicket_54 rfl 0 rfl ?_
  refine g_iconst C (v := -1) dX0_addTicket_55 (by decide) ?_
  refine g_iastn C (w1 := wB E ad (sE (sE (sE (sE (sE (sE (sE β 0 (cnt β) 0) 1 (cnt β) p) 2 (cnt β) z) 3 (cnt β) (-1)) 4 (cnt β) (-1)) 5 (cnt β) ((sE (sE (sE (sE (sE β 0 (cnt β) 0) 1 (cnt β) p) 2 (cnt β) z) 3 (cnt β) (-1)) 4 (cnt β) (-1)).1 1)) 6 (cnt β) (-1))) (cs1 := [wB E ad (sE (sE (sE (sE (sE (sE (sE β 0 (cnt β) 0) 1 (cnt β) p) 2 (cnt β) z) 3 (cnt β) (-1)) 4 (cnt β) (-1)) 5 (cnt β) ((sE (sE (sE (sE (sE β 0 (cnt β) 0) 1 (cnt β) p) 2 (cnt β) z) 3 (cnt β) (-1)) 4 (cnt β) (-1)).1 1)) 6 (cnt β) (-1))]) 0 7 (cnt β) rfl rfl hv.2.1 hr9 (by decide) rfl rfl dX0_addTicket_56 ?_
  refine g_aload_n C dX0_addTicket_57 rfl 1 rfl ?_
  refine g_getf C (T := TX0) (N := 17) 0 0 rfl rfl rfl inX0 11 (by decide) q1_57 rfl dX0_addTicket_58 ?_
  refine g_iload_n C dX0_addTicket_61 rfl 0 rfl ?_
  refine g_iconst C (v := 0) dX0_addTicket_62 (by decide) ?_
  refine g_iastn C (w1 := wB E ad (sE (sE (sE (sE (sE (sE (sE (sE β 0 (cnt β) 0) 1 (cnt β) p) 2 (cnt β) z) 3 (cnt β) (-1)) 4 (cnt β) (-1)) 5 (cnt β) ((sE (sE (sE (sE (sE β 0 (cnt β) 0) 1 (cnt β) p) 2 (cnt β) z) 3 (cnt β) (-1)) 4 (cnt β) (-1)).1 1)) 6 (cnt β) (-1)) 7 (cnt β) 0)) (cs1 := [wB E ad (sE (sE (sE (sE (sE (sE (sE (sE β 0 (cnt β) 0) 1 (cnt β) p) 2 (cnt β) z) 3 (cnt β) (-1)) 4 (cnt β) (-1)) 5 (cnt β) ((sE (sE (sE (sE (sE β 0 (cnt β) 0) 1 (cnt β) p) 2 (cnt β) z) 3 (cnt β) (-1)) 4 (cnt β) (-1)).1 1)) 6 (cnt β) (-1)) 7 (cnt β) 0)]) 0 8 (cnt β) rfl rfl hv.2.1 hr9 (by decide) rfl rfl dX0_addTicket_63 ?_
  refine g_aload_n C dX0_addTicket_64 rfl 1 rfl ?_
  refine g_getf C (T := TX0) (N := 17) 0 0 rfl rfl rfl inX0 12 (by decide) q1_60 rfl dX0_addTicket_65 ?_
  refine g_iload_n C dX0_addTicket_68 rfl 0 rfl ?_
  refine g_iconst C (v := 0) dX0_addTicket_69 (by decide) ?_
  refine g_iastn C (w1 := wB E ad (sE (sE (sE (sE (sE (sE (sE (sE (sE β 0 (cnt β) 0) 1 (cnt β) p) 2 (cnt β) z) 3 (cnt β) (-1)) 4 (cnt β) (-1)) 5 (cnt β) ((sE (sE (sE (sE (sE β 0 (cnt β) 0) 1 (cnt β) p) 2 (cnt β) z) 3 (cnt β) (-1)) 4 (cnt β) (-1)).1 1)) 6 (cnt β) (-1)) 7 (cnt β) 0) 8 (cnt β) 0)) (cs1 := [wB E ad (sE (sE (sE (sE (sE (sE (sE (sE (sE β 0 (cnt β) 0) 1 (cnt β) p) 2 (cnt β) z) 3 (cnt β) (-1)) 4 (cnt β) (-1)) 5 (cnt β) ((sE (sE (sE (sE (sE β 0 (cnt β) 0) 1 (cnt β) p) 2 (cnt β) z) 3 (cnt β) (-1)) 4 (cnt β) (-1)).1 1)) 6 (cnt β) (-1)) 7 (cnt β) 0) 8 (cnt β) 0)]) 0 9 (cnt β) rfl rfl hv.2.1 hr9 (by decide) rfl rfl dX0_addTicket_70 ?_
  refine g_aload_n C dX0_addTicket_71 rfl 1 rfl ?_
  refine g_getf C (T := TX0) (N := 17) 0 0 rfl rfl rfl inX0 13 (by decide) q1_62 rfl dX0_addTicket_72 ?_
  refine g_iload_n C dX0_addTicket_75 rfl 0 rfl ?_
  refine g_iconst C (v := 0) dX0_addTicket_76 (by decide) ?_
  refine g_iastn C (w1 := wB E ad (sE (sE (sE (sE (sE (sE (sE (sE (sE (sE β 0 (cnt β) 0) 1 (cnt β) p) 2 (cnt β) z) 3 (cnt β) (-1)) 4 (cnt β) (-1)) 5 (cnt β) ((sE (sE (sE (sE (sE β 0 (cnt β) 0) 1 (cnt β) p) 2 (cnt β) z) 3 (cnt β) (-1)) 4 (cnt β) (-1)).1 1)) 6 (cnt β) (-1)) 7 (cnt β) 0) 8 (cnt β) 0) 9 (cnt β) 0)) (cs1 := [wB E ad (sE (sE (sE (sE (sE (sE (sE (sE (sE (sE β 0 (cnt β) 0) 1 (cnt β) p) 2 (cnt β) z) 3 (cnt β) (-1)) 4 (cnt β) (-1)) 5 (cnt β) ((sE (sE (sE (sE (sE β 0 (cnt β) 0) 1 (cnt β) p) 2 (cnt β) z) 3 (cnt β) (-1)) 4 (cnt β) (-1)).1 1)) 6 (cnt β) (-1)) 7 (cnt β) 0) 8 (cnt β) 0) 9 (cnt β) 0)]) 0 10 (cnt β) rfl rfl hv.2.1 hr9 (by decide) rfl rfl dX0_addTicket_77 ?_
  refine g_aload_n C dX0_addTicket_78 rfl 1 rfl ?_
  refine g_dup C dX0_addTicket_79 rfl ?_
  refine g_getf C (T := TX0) (N := 17) 0 0 rfl rfl rfl inX0 0 (by decide) q1_31 rfl dX0_addTicket_80 ?_
  refine g_iconst C (v := 1) dX0_addTicket_83 (by decide) ?_
  refine g_iadd C dX0_addTicket_84 ?_
  refine g_putf C (T := TX0) (N := 17) (ty := .int) (w1 := wB E ad (sI (sE (sE (sE (sE (sE (sE (sE (sE (sE (sE β 0 (cnt β) 0) 1 (cnt β) p) 2 (cnt β) z) 3 (cnt β) (-1)) 4 (cnt β) (-1)) 5 (cnt β) ((sE (sE (sE (sE (sE β 0 (cnt β) 0) 1 (cnt β) p) 2 (cnt β) z) 3 (cnt β) (-1)) 4 (cnt β) (-1)).1 1)) 6 (cnt β) (-1)) 7 (cnt β) 0) 8 (cnt β) 0) 9 (cnt β) 0) 0 (((sE (sE (sE (sE (sE (sE (sE (sE (sE (sE β 0 (cnt β) 0) 1 (cnt β) p) 2 (cnt β) z) 3 (cnt β) (-1)) 4 (cnt β) (-1)) 5 (cnt β) ((sE (sE (sE (sE (sE β 0 (cnt β) 0) 1 (cnt β) p) 2 (cnt β) z) 3 (cnt β) (-1)) 4 (cnt β) (-1)).1 1)) 6 (cnt β) (-1)) 7 (cnt β) 0) 8 (cnt β) 0) 9 (cnt β) 0).1 0) + 1))) (cs1 := [wB E ad (sI (sE (sE (sE (sE (sE (sE (sE (sE (sE (sE β 0 (cnt β) 0) 1 (cnt β) p) 2 (cnt β) z) 3 (cnt β) (-1)) 4 (cnt β) (-1)) 5 (cnt β) ((sE (sE (sE (sE (sE β 0 (cnt β) 0) 1 (cnt β) p) 2 (cnt β) z) 3 (cnt β) (-1)) 4 (cnt β) (-1)).1 1)) 6 (cnt β) (-1)) 7 (cnt β) 0) 8 (cnt β) 0) 9 (cnt β) 0) 0 (((sE (sE (sE (sE (sE (sE (sE (sE (sE (sE β 0 (cnt β) 0) 1 (cnt β) p) 2 (cnt β) z) 3 (cnt β) (-1)) 4 (cnt β) (-1)) 5 (cnt β) ((sE (sE (sE (sE (sE β 0 (cnt β) 0) 1 (cnt β) p) 2 (cnt β) z) 3 (cnt β) (-1)) 4 (cnt β) (-1)).1 1)) 6 (cnt β) (-1)) 7 (cnt β) 0) 8 (cnt β) 0) 9 (cnt β) 0).1 0) + 1))]) 0 0 rfl rfl rfl inX0 tyX0_ok nmX0 0 (by decide) q1_31 rfl (by decide +kernel) rfl rfl (Nat.le_of_ble_eq_true rfl) rfl rfl dX0_addTicket_85 ?_
  refine g_iload_n C dX0_addTicket_88 rfl 0 rfl ?_
  have e_1 : fX0_addTicket β p z = (β.1 0, sI (sE (sE (sE (sE (sE (sE (sE (sE (sE (sE β 0 (cnt β) 0) 1 (cnt β) p) 2 (cnt β) z) 3 (cnt β) (-1)) 4 (cnt β) (-1)) 5 (cnt β) ((sE (sE (sE (sE (sE β 0 (cnt β) 0) 1 (cnt β) p) 2 (cnt β) z) 3 (cnt β) (-1)) 4 (cnt β) (-1)).1 1)) 6 (cnt β) (-1)) 7 (cnt β) 0) 8 (cnt β) 0) 9 (cnt β) 0) 0 (((sE (sE (sE (sE (sE (sE (sE (sE (sE (sE β 0 (cnt β) 0) 1 (cnt β) p) 2 (cnt β) z) 3 (cnt β) (-1)) 4 (cnt β) (-1)) 5 (cnt β) ((sE (sE (sE (sE (sE β 0 (cnt β) 0) 1 (cnt β) p) 2 (cnt β) z) 3 (cnt β) (-1)) 4 (cnt β) (-1)).1 1)) 6 (cnt β) (-1)) 7 (cnt β) 0) 8 (cnt β) 0) 9 (cnt β) 0).1 0) + 1)) := by rw [fX0_addTicket]
  exact g_iret C hE (by rw [e_1]) (by rw [e_1]) dX0_addTicket_89
def fX0_addLoad (β : BS) (o : Int32) (z : Int32) : BS :=
  if o = (-1) then β else sE β 11 o.toNatClampNeg ((β.2 11 o.toNatClampNeg) + z)
theorem caX0_addLoad : gCalV yX0_addLoad cX0_addLoad 3 none 2 := ⟨⟨q3_122, q1_2, by decide +kernel⟩, q3_121, qs_4⟩
set_option maxHeartbeats 4000000 in
set_option maxRecDepth 100000 in
theorem kX0_addLoad (l : Launch) (E : gE) (ad : Nat → Nat) (β : BS)  (o : Int32) (z : Int32) (ho : okO o) : MC l E yX0_addLoad cX0_addLoad 3 none 0 0 [.ref (ad 0), .int o, .int z] [wB E ad β] none [wB E ad (fX0_addLoad β o z)] := by
  refine mc_of (by decide +kernel) (Nat.le_of_ble_eq_true rfl) (lv := [(0, .ref (ad 0)), (1, .int o), (2, .int z)]) rfl (fun X C hE => ?_)
  refine g_iload_n C dX0_addLoad_0 rfl 1 rfl ?_
  refine g_iconst C (v := -1) dX0_addLoad_1 (by decide) ?_
  refine g_icmp_eq C 15 dX0_addLoad_2 (by decide) (fun c_1 => ?_) (fun c_1 => ?_)
  · skip
    have e_2 : fX0_addLoad β o z = β := by rw [fX0_addLoad]; rw [if_pos c_1]
    exact g_vret C hE rfl (by rw [e_2]) dX0_addLoad_15
  · skip
    have hj := okO_i ho c_1
    refine g_aload_n C dX0_addLoad_5 rfl 0 rfl ?_
    refine g_getf C (T := TX0) (N := 17) 0 0 rfl rfl rfl inX0 15 (by decide) q1_67 rfl dX0_addLoad_6 ?_
    refine g_iload_n C dX0_addLoad_9 rfl 1 rfl ?_
    refine g_dup2 C dX0_addLoad_10 rfl rfl ?_
    refine g_ialdn C 0 12 o.toNatClampNeg rfl rfl hj.1 hj.2 (by decide) dX0_addLoad_11 ?_
    refine g_iload_n C dX0_addLoad_12 rfl 2 rfl ?_
    refine g_iadd C dX0_addLoad_13 ?_
    refine g_iastn C (w1 := wB E ad (sE β 11 o.toNatClampNeg ((β.2 11 o.toNatClampNeg) + z))) (cs1 := [wB E ad (sE β 11 o.toNatClampNeg ((β.2 11 o.toNatClampNeg) + z))]) 0 12 o.toNatClampNeg rfl rfl hj.1 hj.2 (by decide) rfl rfl dX0_addLoad_14 ?_
    have e_3 : fX0_addLoad β o z = sE β 11 o.toNatClampNeg ((β.2 11 o.toNatClampNeg) + z) := by rw [fX0_addLoad]; rw [if_neg c_1]
    exact g_vret C hE rfl (by rw [e_3]) dX0_addLoad_15
theorem vB_addLoad {β : BS} {o z : Int32} (h : vB β) : vB (fX0_addLoad β o z) := by unfold fX0_addLoad; split <;> exact h
def fX0_setPoints (β : BS) (t : Nat) (p : Int32) : Int32 × BS :=
  (β.2 1 t, sE (fX0_addLoad β (β.2 3 t) (p - (β.2 1 t))) 1 t p)
def fX0_setPriority (β : BS) (t : Nat) (p : Int32) : Int32 × BS :=
  (β.2 2 t, sE β 2 t p)
def fX0_addNeed (β : BS) (t : Nat) (u : Int32) : Int32 × BS :=
  ((fJ6_bitCount_0f7a4 ((sE β 9 t ((β.2 9 t) ||| (fX6_setOf u))).2 9 t)), sE β 9 t ((β.2 9 t) ||| (fX6_setOf u)))
theorem caX0_addNeed : gCalV yX0_addNeed cX0_addNeed 3 (some .int) 2 := ⟨⟨q3_90, q1_2, by decide +kernel⟩, q3_88, q3_89⟩
set_option maxHeartbeats 4000000 in
set_option maxRecDepth 100000 in
theorem kX0_addNeed (l : Launch) (E : gE) (ad : Nat → Nat) (β : BS)  (t : Nat) (ht : t < 20) (u : Int32) : MC l E yX0_addNeed cX0_addNeed 3 (some .int) 1 20 [.ref (ad 0), .int (nI t), .int u] [wB E ad β] (some (.int (fX0_addNeed β t u).1)) [wB E ad ((fX0_addNeed β t u).2)] := by
  refine mc_of (by decide +kernel) (Nat.le_of_ble_eq_true rfl) (lv := [(0, .ref (ad 0)), (1, .int (nI t)), (2, .int u)]) rfl (fun X C hE => ?_)
  refine g_aload_n C dX0_addNeed_0 rfl 0 rfl ?_
  refine g_getf C (T := TX0) (N := 17) 0 0 rfl rfl rfl inX0 13 (by decide) q1_62 rfl dX0_addNeed_1 ?_
  refine g_iload_n C dX0_addNeed_4 rfl 1 rfl ?_
  refine g_dup2 C dX0_addNeed_5 rfl rfl ?_
  refine g_ialdn C 0 10 t rfl rfl rfl (by omega) (by decide) dX0_addNeed_6 ?_
  refine g_iload_n C dX0_addNeed_7 rfl 2 rfl ?_
  refine g_callSN C (cs1 := [wB E ad β]) (st1 := [.int (fX6_setOf u), .int (β.2 9 t), .int (nI t), .ref (ad 10)]) [.int u] [] (kX6_setOf l E u) caX6_setOf (host := RX6) (by decide +kernel) rfl ⟨Nat.le_of_ble_eq_true rfl, Nat.le_of_ble_eq_true rfl⟩ ⟨Nat.zero_le _, Nat.zero_le _⟩ (by decide) rfl rfl rfl rfl (Nat.le_of_ble_eq_true rfl) dX0_addNeed_8 rfl ?_
  refine g_ior C dX0_addNeed_11 ?_
  refine g_iastn C (w1 := wB E ad (sE β 9 t ((β.2 9 t) ||| (fX6_setOf u)))) (cs1 := [wB E ad (sE β 9 t ((β.2 9 t) ||| (fX6_setOf u)))]) 0 10 t rfl rfl rfl (by omega) (by decide) rfl rfl dX0_addNeed_12 ?_
  refine g_aload_n C dX0_addNeed_13 rfl 0 rfl ?_
  refine g_getf C (T := TX0) (N := 17) 0 0 rfl rfl rfl inX0 13 (by decide) q1_62 rfl dX0_addNeed_14 ?_
  refine g_iload_n C dX0_addNeed_17 rfl 1 rfl ?_
  refine g_ialdn C 0 10 t rfl rfl rfl (by omega) (by decide) dX0_addNeed_18 ?_
  refine g_callS C (cs1 := [wB E ad (sE β 9 t ((β.2 9 t) ||| (fX6_setOf u)))]) (st1 := [.int (fJ6_bitCount_0f7a4 ((sE β 9 t ((β.2 9 t) ||| (fX6_setOf u))).2 9 t))]) [.int ((sE β 9 t ((β.2 9 t) ||| (fX6_setOf u))).2 9 t)] [] (kJ6_bitCount_0f7a4 l E ((sE β 9 t ((β.2 9 t) ||| (fX6_setOf u))).2 9 t)) caJ6_bitCount_0f7a4 q3_91 rfl ⟨Nat.le_of_ble_eq_true rfl, Nat.le_of_ble_eq_true rfl⟩ ⟨Nat.zero_le _, Nat.zero_le _⟩ (by decide) rfl rfl rfl rfl (Nat.le_of_ble_eq_true rfl) dX0_addNeed_19 rfl ?_
  have e_1 : fX0_addNeed β t u = ((fJ6_bitCount_0f7a4 ((sE β 9 t ((β.2 9 t) ||| (fX6_setOf u))).2 9 t)), sE β 9 t ((β.2 9 t) ||| (fX6_setOf u))) := by rw [fX0_addNeed]
  exact g_iret C hE (by rw [e_1]) (by rw [e_1]) dX0_addNeed_22
def fX0_removeNeed (β : BS) (t : Nat) (u : Int32) : Int32 × BS :=
  ((fJ6_bitCount_0f7a4 ((sE β 9 t ((β.2 9 t) &&& ((fX6_setOf u) ^^^ (-1)))).2 9 t)), sE β 9 t ((β.2 9 t) &&& ((fX6_setOf u) ^^^ (-1))))
def fX0_giveTo (β : BS) (t : Nat) (o : Nat) : Int32 × BS :=
  ((fX0_addLoad (sE (fX0_addLoad β (β.2 3 t) (-(β.2 1 t))) 3 t (nI o)) (nI o) ((sE (fX0_addLoad β (β.2 3 t) (-(β.2 1 t))) 3 t (nI o)).2 1 t)).2 11 o, (fX0_addLoad (sE (fX0_addLoad β (β.2 3 t) (-(β.2 1 t))) 3 t (nI o)) (nI o) ((sE (fX0_addLoad β (β.2 3 t) (-(β.2 1 t))) 3 t (nI o)).2 1 t)))
theorem caX0_giveTo : gCalV yX0_giveTo cX0_giveTo 3 (some .int) 2 := ⟨⟨q3_118, q1_2, by decide +kernel⟩, q3_116, q3_117⟩
set_option maxHeartbeats 4000000 in
set_option maxRecDepth 100000 in
theorem kX0_giveTo (l : Launch) (E : gE) (ad : Nat → Nat) (β : BS) (hv : vB β)  (t : Nat) (ht : t < 20) (o : Nat) (ho : o < 5) : MC l E yX0_giveTo cX0_giveTo 3 (some .int) 1 22 [.ref (ad 0), .int (nI t), .int (nI o)] [wB E ad β] (some (.int (fX0_giveTo β t o).1)) [wB E ad ((fX0_giveTo β t o).2)] := by
  have hv1 : cnt β ≤ 20 := hv.1
  refine mc_of (by decide +kernel) (Nat.le_of_ble_eq_true rfl) (lv := [(0, .ref (ad 0)), (1, .int (nI t)), (2, .int (nI o))]) rfl (fun X C hE => ?_)
  refine g_aload_n C dX0_giveTo_0 rfl 0 rfl ?_
  refine g_aload_n C dX0_giveTo_1 rfl 0 rfl ?_
  refine g_getf C (T := TX0) (N := 17) 0 0 rfl rfl rfl inX0 7 (by decide) q1_50 rfl dX0_giveTo_2 ?_
  refine g_iload_n C dX0_giveTo_5 rfl 1 rfl ?_
  refine g_ialdn C 0 4 t rfl rfl rfl (by omega) (by decide) dX0_giveTo_6 ?_
  refine g_aload_n C dX0_giveTo_7 rfl 0 rfl ?_
  refine g_getf C (T := TX0) (N := 17) 0 0 rfl rfl rfl inX0 5 (by decide) q1_44 rfl dX0_giveTo_8 ?_
  refine g_iload_n C dX0_giveTo_11 rfl 1 rfl ?_
  refine g_ialdn C 0 2 t rfl rfl rfl (by omega) (by decide) dX0_giveTo_12 ?_
  refine g_ineg C dX0_giveTo_13 ?_
  refine g_callV C (cs1 := [wB E ad (fX0_addLoad β (β.2 3 t) (-(β.2 1 t)))]) (st1 := []) [.int (β.2 3 t), .int (-(β.2 1 t))] [0] (kX0_addLoad l E ad β (β.2 3 t) (-(β.2 1 t)) (hv.2.2 t ht)) caX0_addLoad q3_119 rfl ⟨Nat.le_of_ble_eq_true rfl, Nat.le_of_ble_eq_true rfl⟩ ⟨Nat.zero_le _, Nat.zero_le _⟩ 0 0 rfl rfl rfl rfl (by decide) rfl rfl rfl rfl (Nat.le_of_ble_eq_true rfl) dX0_giveTo_14 rfl ?_
  refine g_aload_n C dX0_giveTo_17 rfl 0 rfl ?_
  refine g_getf C (T := TX0) (N := 17) 0 0 rfl rfl rfl inX0 7 (by decide) q1_50 rfl dX0_giveTo_18 ?_
  refine g_iload_n C dX0_giveTo_21 rfl 1 rfl ?_
  refine g_iload_n C dX0_giveTo_22 rfl 2 rfl ?_
  refine g_iastn C (w1 := wB E ad (sE (fX0_addLoad β (β.2 3 t) (-(β.2 1 t))) 3 t (nI o))) (cs1 := [wB E ad (sE (fX0_addLoad β (β.2 3 t) (-(β.2 1 t))) 3 t (nI o))]) 0 4 t rfl rfl rfl (by omega) (by decide) rfl rfl dX0_giveTo_23 ?_
  refine g_aload_n C dX0_giveTo_24 rfl 0 rfl ?_
  refine g_iload_n C dX0_giveTo_25 rfl 2 rfl ?_
  refine g_aload_n C dX0_giveTo_26 rfl 0 rfl ?_
  refine g_getf C (T := TX0) (N := 17) 0 0 rfl rfl rfl inX0 5 (by decide) q1_44 rfl dX0_giveTo_27 ?_
  refine g_iload_n C dX0_giveTo_30 rfl 1 rfl ?_
  refine g_ialdn C 0 2 t rfl rfl rfl (by omega) (by decide) dX0_giveTo_31 ?_
  refine g_callV C (cs1 := [wB E ad (fX0_addLoad (sE (fX0_addLoad β (β.2 3 t) (-(β.2 1 t))) 3 t (nI o)) (nI o) ((sE (fX0_addLoad β (β.2 3 t) (-(β.2 1 t))) 3 t (nI o)).2 1 t))]) (st1 := []) [.int (nI o), .int ((sE (fX0_addLoad β (β.2 3 t) (-(β.2 1 t))) 3 t (nI o)).2 1 t)] [0] (kX0_addLoad l E ad (sE (fX0_addLoad β (β.2 3 t) (-(β.2 1 t))) 3 t (nI o)) (nI o) ((sE (fX0_addLoad β (β.2 3 t) (-(β.2 1 t))) 3 t (nI o)).2 1 t) (okO_n ho)) caX0_addLoad q3_119 rfl ⟨Nat.le_of_ble_eq_true rfl, Nat.le_of_ble_eq_true rfl⟩ ⟨Nat.zero_le _, Nat.zero_le _⟩ 0 0 rfl rfl rfl rfl (by decide) rfl rfl rfl rfl (Nat.le_of_ble_eq_true rfl) dX0_giveTo_32 rfl ?_
  refine g_aload_n C dX0_giveTo_35 rfl 0 rfl ?_
  refine g_getf C (T := TX0) (N := 17) 0 0 rfl rfl rfl inX0 15 (by decide) q1_67 rfl dX0_giveTo_36 ?_
  refine g_iload_n C dX0_giveTo_39 rfl 2 rfl ?_
  refine g_ialdn C 0 12 o rfl rfl rfl (by omega) (by decide) dX0_giveTo_40 ?_
  have e_1 : fX0_giveTo β t o = ((fX0_addLoad (sE (fX0_addLoad β (β.2 3 t) (-(β.2 1 t))) 3 t (nI o)) (nI o) ((sE (fX0_addLoad β (β.2 3 t) (-(β.2 1 t))) 3 t (nI o)).2 1 t)).2 11 o, (fX0_addLoad (sE (fX0_addLoad β (β.2 3 t) (-(β.2 1 t))) 3 t (nI o)) (nI o) ((sE (fX0_addLoad β (β.2 3 t) (-(β.2 1 t))) 3 t (nI o)).2 1 t))) := by rw [fX0_giveTo]
  exact g_iret C hE (by rw [e_1]) (by rw [e_1]) dX0_giveTo_41
def fX0_takeFromOwner (β : BS) (t : Nat) : Int32 × BS :=
  (β.2 3 t, sE (fX0_addLoad β (β.2 3 t) (-(β.2 1 t))) 3 t (-1))
def fX0_setCapacity (β : BS) (o : Nat) (z : Int32) : Int32 × BS :=
  (β.2 10 o, sE β 10 o z)
def fX0_takeFromMilestone (β : BS) (t : Nat) : Int32 × BS :=
  (β.2 4 t, sE β 4 t (-1))
def fX0_setDate (β : BS) (m : Nat) (z : Int32) : Int32 × BS :=
  (β.2 12 m, sE β 12 m z)
theorem caX0_setDate : gCalV yX0_setDate cX0_setDate 4 (some .int) 2 := ⟨⟨q3_164, q1_2, by decide +kernel⟩, q3_162, q3_163⟩
set_option maxHeartbeats 4000000 in
set_option maxRecDepth 100000 in
theorem kX0_setDate (l : Launch) (E : gE) (ad : Nat → Nat) (β : BS)  (m : Nat) (hm : m < 4) (z : Int32) : MC l E yX0_setDate cX0_setDate 4 (some .int) 0 0 [.ref (ad 0), .int (nI m), .int z] [wB E ad β] (some (.int (fX0_setDate β m z).1)) [wB E ad ((fX0_setDate β m z).2)] := by
  refine mc_of (by decide +kernel) (Nat.le_of_ble_eq_true rfl) (lv := [(0, .ref (ad 0)), (1, .int (nI m)), (2, .int z)]) rfl (fun X C hE => ?_)
  refine g_aload_n C dX0_setDate_0 rfl 0 rfl ?_
  refine g_getf C (T := TX0) (N := 17) 0 0 rfl rfl rfl inX0 16 (by decide) q1_69 rfl dX0_setDate_1 ?_
  refine g_iload_n C dX0_setDate_4 rfl 1 rfl ?_
  refine g_ialdn C 0 13 m rfl rfl rfl (by omega) (by decide) dX0_setDate_5 ?_
  refine g_istore_n C (lv1 := [(3, .int (β.2 12 m)), (0, .ref (ad 0)), (1, .int (nI m)), (2, .int z)]) dX0_setDate_6 rfl (by decide) rfl ?_
  refine g_aload_n C dX0_setDate_7 rfl 1 rfl ?_
  refine g_getf C (T := TX0) (N := 17) 0 0 rfl rfl rfl inX0 16 (by decide) q1_69 rfl dX0_setDate_8 ?_
  refine g_iload_n C dX0_setDate_11 rfl 2 rfl ?_
  refine g_iload_n C dX0_setDate_12 rfl 3 rfl ?_
  refine g_iastn C (w1 := wB E ad (sE β 12 m z)) (cs1 := [wB E ad (sE β 12 m z)]) 0 13 m rfl rfl rfl (by omega) (by decide) rfl rfl dX0_setDate_13 ?_
  refine g_iload_n C dX0_setDate_14 rfl 0 rfl ?_
  have e_1 : fX0_setDate β m z = (β.2 12 m, sE β 12 m z) := by rw [fX0_setDate]
  exact g_iret C hE (by rw [e_1]) (by rw [e_1]) dX0_setDate_15
def fX0_pass_L12 (β : BS) (d : Int32) (i12 : Nat) (t12 : BS) : BS :=
  if (t12.2 0 i12) = 1 then sE t12 7 i12 ((t12.2 7 i12) + d) else t12
def fX0_pass (β : BS) (d : Int32) : Int32 × BS :=
  ((lpF (fX0_pass_L12 β d) (sI β 1 ((β.1 1) + d)) (cnt β)).1 1, (lpF (fX0_pass_L12 β d) (sI β 1 ((β.1 1) + d)) (cnt β)))
theorem caX0_pass : gCalV yX0_pass cX0_pass 3 (some .int) 1 := ⟨⟨q3_156, q1_2, by decide +kernel⟩, q3_154, q3_155⟩
set_option maxHeartbeats 4000000 in
set_option maxRecDepth 100000 in
theorem kX0_pass (l : Launch) (E : gE) (ad : Nat → Nat) (β : BS) (hv : vB β)  (d : Int32) : MC l E yX0_pass cX0_pass 3 (some .int) 0 0 [.ref (ad 0), .int d] [wB E ad β] (some (.int (fX0_pass β d).1)) [wB E ad ((fX0_pass β d).2)] := by
  have hv1 : cnt β ≤ 20 := hv.1
  refine mc_of (by decide +kernel) (Nat.le_of_ble_eq_true rfl) (lv := [(0, .ref (ad 0)), (1, .int d)]) rfl (fun X C hE => ?_)
  refine g_aload_n C dX0_pass_0 rfl 0 rfl ?_
  refine g_dup C dX0_pass_1 rfl ?_
  refine g_getf C (T := TX0) (N := 17) 0 0 rfl rfl rfl inX0 1 (by decide) q1_34 rfl dX0_pass_2 ?_
  refine g_iload_n C dX0_pass_5 rfl 1 rfl ?_
  refine g_iadd C dX0_pass_6 ?_
  refine g_putf C (T := TX0) (N := 17) (ty := .int) (w1 := wB E ad (sI β 1 ((β.1 1) + d))) (cs1 := [wB E ad (sI β 1 ((β.1 1) + d))]) 0 0 rfl rfl rfl inX0 tyX0_ok nmX0 1 (by decide) q1_34 rfl (by decide +kernel) rfl rfl (Nat.le_of_ble_eq_true rfl) rfl rfl dX0_pass_7 ?_
  refine g_iconst C (v := 0) dX0_pass_10 (by decide) ?_
  refine g_istore_n C (lv1 := [(2, .int 0), (0, .ref (ad 0)), (1, .int d)]) dX0_pass_11 rfl (by decide) rfl ?_
  have hL_3 : ∀ d_1 i12 : Nat, i12 + d_1 = (cnt β) → G X 0 0 [wB E ad (lpF (fX0_pass_L12 β d) (sI β 1 ((β.1 1) + d)) i12)] [(0, .ref (ad 0)), (1, .int d), (2, .int (nI i12))] 12 [] := by
    intro d_1
    induction d_1 with
    | zero =>
      intro i12 hi_2
      obtain rfl : i12 = (cnt β) := by omega
      have hs := lpF_fst (f := fX0_pass_L12 β d) (a := sI β 1 ((β.1 1) + d)) (fun i x => by unfold fX0_pass_L12; split <;> rfl) (cnt β)
      refine g_iload_n C dX0_pass_12 rfl 2 rfl ?_
      refine g_aload_n C dX0_pass_13 rfl 0 rfl ?_
      refine g_getf C (T := TX0) (N := 17) 0 0 rfl rfl rfl inX0 0 (by decide) q1_31 rfl dX0_pass_14 ?_
      refine g_icmp_ge C 46 dX0_pass_17 (by decide) (fun c_5 => ?_) (fun c_5 => ?_)
      · skip
        refine g_aload_n C dX0_pass_46 rfl 0 rfl ?_
        refine g_getf C (T := TX0) (N := 17) 0 0 rfl rfl rfl inX0 1 (by decide) q1_34 rfl dX0_pass_47 ?_
        have e_6 : fX0_pass β d = ((lpF (fX0_pass_L12 β d) (sI β 1 ((β.1 1) + d)) (cnt β)).1 1, (lpF (fX0_pass_L12 β d) (sI β 1 ((β.1 1) + d)) (cnt β))) := by rw [fX0_pass]
        exact g_iret C hE (by rw [e_6]) (by rw [e_6]) dX0_pass_50
      · exact absurd (lc_le rfl (by rw [hs]; exact hv.2.1) (by omega) (by omega)) c_5
    | succ d_1 ih_4 =>
      intro i12 hi_2
      have hs := lpF_fst (f := fX0_pass_L12 β d) (a := sI β 1 ((β.1 1) + d)) (fun i x => by unfold fX0_pass_L12; split <;> rfl) i12
      refine g_iload_n C dX0_pass_12 rfl 2 rfl ?_
      refine g_aload_n C dX0_pass_13 rfl 0 rfl ?_
      refine g_getf C (T := TX0) (N := 17) 0 0 rfl rfl rfl inX0 0 (by decide) q1_31 rfl dX0_pass_14 ?_
      refine g_icmp_ge C 46 dX0_pass_17 (by decide) (fun c_7 => ?_) (fun c_7 => ?_)
      · exact absurd c_7 (lc_nle rfl (by rw [hs]; exact hv.2.1) (by omega) (by omega))
      · skip
        refine g_aload_n C dX0_pass_20 rfl 0 rfl ?_
        refine g_getf C (T := TX0) (N := 17) 0 0 rfl rfl rfl inX0 4 (by decide) q1_41 rfl dX0_pass_21 ?_
        refine g_iload_n C dX0_pass_24 rfl 2 rfl ?_
        refine g_ialdn C 0 1 i12 rfl rfl rfl (by omega) (by decide) dX0_pass_25 ?_
        refine g_iconst C (v := 1) dX0_pass_26 (by decide) ?_
        refine g_icmp_ne C 40 dX0_pass_27 (by decide) (fun c_8 => ?_) (fun c_8 => ?_)
        · skip
          refine g_iinc C (v := nI (i12 + 1)) (lv1 := [(2, .int (nI (i12 + 1))), (0, .ref (ad 0)), (1, .int d)]) dX0_pass_40 2 rfl (nI_1 i12) (by decide) rfl ?_
          refine g_goto C 12 dX0_pass_43 (by decide) ?_
          have e_9 : (lpF (fX0_pass_L12 β d) (sI β 1 ((β.1 1) + d)) (i12 + 1)) = (lpF (fX0_pass_L12 β d) (sI β 1 ((β.1 1) + d)) i12) := by
            rw [lpF_1, fX0_pass_L12]; rw [if_neg c_8]
          have h_10 := ih_4 (i12 + 1) (by omega)
          rw [e_9] at h_10
          exact g_sub [1, 2, 0] rfl h_10
        · skip
          refine g_aload_n C dX0_pass_30 rfl 0 rfl ?_
          refine g_getf C (T := TX0) (N := 17) 0 0 rfl rfl rfl inX0 11 (by decide) q1_57 rfl dX0_pass_31 ?_
          refine g_iload_n C dX0_pass_34 rfl 2 rfl ?_
          refine g_dup2 C dX0_pass_35 rfl rfl ?_
          refine g_ialdn C 0 8 i12 rfl rfl rfl (by omega) (by decide) dX0_pass_36 ?_
          refine g_iload_n C dX0_pass_37 rfl 1 rfl ?_
          refine g_iadd C dX0_pass_38 ?_
          refine g_iastn C (w1 := wB E ad (sE (lpF (fX0_pass_L12 β d) (sI β 1 ((β.1 1) + d)) i12) 7 i12 (((lpF (fX0_pass_L12 β d) (sI β 1 ((β.1 1) + d)) i12).2 7 i12) + d))) (cs1 := [wB E ad (sE (lpF (fX0_pass_L12 β d) (sI β 1 ((β.1 1) + d)) i12) 7 i12 (((lpF (fX0_pass_L12 β d) (sI β 1 ((β.1 1) + d)) i12).2 7 i12) + d))]) 0 8 i12 rfl rfl rfl (by omega) (by decide) rfl rfl dX0_pass_39 ?_
          refine g_iinc C (v := nI (i12 + 1)) (lv1 := [(2, .int (nI (i12 + 1))), (0, .ref (ad 0)), (1, .int d)]) dX0_pass_40 2 rfl (nI_1 i12) (by decide) rfl ?_
          refine g_goto C 12 dX0_pass_43 (by decide) ?_
          have e_11 : (lpF (fX0_pass_L12 β d) (sI β 1 ((β.1 1) + d)) (i12 + 1)) = sE (lpF (fX0_pass_L12 β d) (sI β 1 ((β.1 1) + d)) i12) 7 i12 (((lpF (fX0_pass_L12 β d) (sI β 1 ((β.1 1) + d)) i12).2 7 i12) + d) := by
            rw [lpF_1, fX0_pass_L12]; rw [if_pos c_8]
          have h_12 := ih_4 (i12 + 1) (by omega)
          rw [e_11] at h_12
          exact g_sub [1, 2, 0] rfl h_12
  refine g_sub [1, 2, 0] (lv1 := [(0, .ref (ad 0)), (1, .int d), (2, .int 0)]) rfl ?_
  exact hL_3 (cnt β) 0 (by omega)
def fX0_putBack (β : BS) (t : Nat) : Int32 × BS :=
  ((sE (sE β 0 t 1) 8 t (((sE β 0 t 1).2 8 t) + 1)).2 8 t, sE (sE β 0 t 1) 8 t (((sE β 0 t 1).2 8 t) + 1))
def fX0_leaveOff (β : BS) (t : Nat) (z : Int32) : BS :=
  (fX0_addLoad (sE β 0 t z) ((sE β 0 t z).2 3 t) (-((sE β 0 t z).2 1 t)))
theorem caX0_leaveOff : gCalV yX0_leaveOff cX0_leaveOff 3 none 2 := ⟨⟨q3_144, q1_2, by decide +kernel⟩, q3_142, q3_143⟩
set_option maxHeartbeats 4000000 in
set_option maxRecDepth 100000 in
theorem kX0_leaveOff (l : Launch) (E : gE) (ad : Nat → Nat) (β : BS) (hv : vB β)  (t : Nat) (ht : t < 20) (z : Int32) : MC l E yX0_leaveOff cX0_leaveOff 3 none 1 22 [.ref (ad 0), .int (nI t), .int z] [wB E ad β] none [wB E ad (fX0_leaveOff β t z)] := by
  have hv1 : cnt β ≤ 20 := hv.1
  refine mc_of (by decide +kernel) (Nat.le_of_ble_eq_true rfl) (lv := [(0, .ref (ad 0)), (1, .int (nI t)), (2, .int z)]) rfl (fun X C hE => ?_)
  refine g_aload_n C dX0_leaveOff_0 rfl 0 rfl ?_
  refine g_getf C (T := TX0) (N := 17) 0 0 rfl rfl rfl inX0 4 (by decide) q1_41 rfl dX0_leaveOff_1 ?_
  refine g_iload_n C dX0_leaveOff_4 rfl 1 rfl ?_
  refine g_iload_n C dX0_leaveOff_5 rfl 2 rfl ?_
  refine g_iastn C (w1 := wB E ad (sE β 0 t z)) (cs1 := [wB E ad (sE β 0 t z)]) 0 1 t rfl rfl rfl (by omega) (by decide) rfl rfl dX0_leaveOff_6 ?_
  refine g_aload_n C dX0_leaveOff_7 rfl 0 rfl ?_
  refine g_aload_n C dX0_leaveOff_8 rfl 0 rfl ?_
  refine g_getf C (T := TX0) (N := 17) 0 0 rfl rfl rfl inX0 7 (by decide) q1_50 rfl dX0_leaveOff_9 ?_
  refine g_iload_n C dX0_leaveOff_12 rfl 1 rfl ?_
  refine g_ialdn C 0 4 t rfl rfl rfl (by omega) (by decide) dX0_leaveOff_13 ?_
  refine g_aload_n C dX0_leaveOff_14 rfl 0 rfl ?_
  refine g_getf C (T := TX0) (N := 17) 0 0 rfl rfl rfl inX0 5 (by decide) q1_44 rfl dX0_leaveOff_15 ?_
  refine g_iload_n C dX0_leaveOff_18 rfl 1 rfl ?_
  refine g_ialdn C 0 2 t rfl rfl rfl (by omega) (by decide) dX0_leaveOff_19 ?_
  refine g_ineg C dX0_leaveOff_20 ?_
  refine g_callV C (cs1 := [wB E ad (fX0_addLoad (sE β 0 t z) ((sE β 0 t z).2 3 t) (-((sE β 0 t z).2 1 t)))]) (st1 := []) [.int ((sE β 0 t z).2 3 t), .int (-((sE β 0 t z).2 1 t))] [0] (kX0_addLoad l E ad (sE β 0 t z) ((sE β 0 t z).2 3 t) (-((sE β 0 t z).2 1 t)) (hv.2.2 t ht)) caX0_addLoad q3_119 rfl ⟨Nat.le_of_ble_eq_true rfl, Nat.le_of_ble_eq_true rfl⟩ ⟨Nat.zero_le _, Nat.zero_le _⟩ 0 0 rfl rfl rfl rfl (by decide) rfl rfl rfl rfl (Nat.le_of_ble_eq_true rfl) dX0_leaveOff_21 rfl ?_
  have e_1 : fX0_leaveOff β t z = (fX0_addLoad (sE β 0 t z) ((sE β 0 t z).2 3 t) (-((sE β 0 t z).2 1 t))) := by rw [fX0_leaveOff]
  exact g_vret C hE rfl (by rw [e_1]) dX0_leaveOff_24
def fX0_finish (β : BS) (t : Nat) : BS :=
  (fX0_leaveOff (sI (sE β 6 t (β.1 1)) 2 (((sE β 6 t (β.1 1)).1 2) + 1)) t 3)
theorem caX0_finish : gCalV yX0_finish cX0_finish 2 none 1 := ⟨⟨q3_200, q1_2, by decide +kernel⟩, q3_198, q3_199⟩
set_option maxHeartbeats 4000000 in
set_option maxRecDepth 100000 in
theorem kX0_finish (l : Launch) (E : gE) (ad : Nat → Nat) (β : BS) (hv : vB β)  (t : Nat) (ht : t < 20) : MC l E yX0_finish cX0_finish 2 none 2 44 [.ref (ad 0), .int (nI t)] [wB E ad β] none [wB E ad (fX0_finish β t)] := by
  have hv1 : cnt β ≤ 20 := hv.1
  refine mc_of (by decide +kernel) (Nat.le_of_ble_eq_true rfl) (lv := [(0, .ref (ad 0)), (1, .int (nI t))]) rfl (fun X C hE => ?_)
  refine g_aload_n C dX0_finish_0 rfl 0 rfl ?_
  refine g_getf C (T := TX0) (N := 17) 0 0 rfl rfl rfl inX0 10 (by decide) q1_55 rfl dX0_finish_1 ?_
  refine g_iload_n C dX0_finish_4 rfl 1 rfl ?_
  refine g_aload_n C dX0_finish_5 rfl 0 rfl ?_
  refine g_getf C (T := TX0) (N := 17) 0 0 rfl rfl rfl inX0 1 (by decide) q1_34 rfl dX0_finish_6 ?_
  refine g_iastn C (w1 := wB E ad (sE β 6 t (β.1 1))) (cs1 := [wB E ad (sE β 6 t (β.1 1))]) 0 7 t rfl rfl rfl (by omega) (by decide) rfl rfl dX0_finish_9 ?_
  refine g_aload_n C dX0_finish_10 rfl 0 rfl ?_
  refine g_dup C dX0_finish_11 rfl ?_
  refine g_getf C (T := TX0) (N := 17) 0 0 rfl rfl rfl inX0 2 (by decide) q1_37 rfl dX0_finish_12 ?_
  refine g_iconst C (v := 1) dX0_finish_15 (by decide) ?_
  refine g_iadd C dX0_finish_16 ?_
  refine g_putf C (T := TX0) (N := 17) (ty := .int) (w1 := wB E ad (sI (sE β 6 t (β.1 1)) 2 (((sE β 6 t (β.1 1)).1 2) + 1))) (cs1 := [wB E ad (sI (sE β 6 t (β.1 1)) 2 (((sE β 6 t (β.1 1)).1 2) + 1))]) 0 0 rfl rfl rfl inX0 tyX0_ok nmX0 2 (by decide) q1_37 rfl (by decide +kernel) rfl rfl (Nat.le_of_ble_eq_true rfl) rfl rfl dX0_finish_17 ?_
  refine g_aload_n C dX0_finish_20 rfl 0 rfl ?_
  refine g_iload_n C dX0_finish_21 rfl 1 rfl ?_
  refine g_iconst C (v := 3) dX0_finish_22 (by decide) ?_
  refine g_callV C (cs1 := [wB E ad (fX0_leaveOff (sI (sE β 6 t (β.1 1)) 2 (((sE β 6 t (β.1 1)).1 2) + 1)) t 3)]) (st1 := []) [.int (nI t), .int 3] [0] (kX0_leaveOff l E ad (sI (sE β 6 t (β.1 1)) 2 (((sE β 6 t (β.1 1)).1 2) + 1)) hv t (by omega) 3) caX0_leaveOff q3_201 rfl ⟨Nat.le_of_ble_eq_true rfl, Nat.le_of_ble_eq_true rfl⟩ ⟨Nat.zero_le _, Nat.zero_le _⟩ 0 0 rfl rfl rfl rfl (by decide) rfl rfl rfl rfl (Nat.le_of_ble_eq_true rfl) dX0_finish_23 rfl ?_
  have e_1 : fX0_finish β t = (fX0_leaveOff (sI (sE β 6 t (β.1 1)) 2 (((sE β 6 t (β.1 1)).1 2) + 1)) t 3) := by rw [fX0_finish]
  exact g_vret C hE rfl (by rw [e_1]) dX0_finish_26
def fX0_openAgain (β : BS) (t : Nat) : BS :=
  sI (fX0_addLoad (sE β 0 t 0) ((sE β 0 t 0).2 3 t) ((sE β 0 t 0).2 1 t)) 3 (((fX0_addLoad (sE β 0 t 0) ((sE β 0 t 0).2 3 t) ((sE β 0 t 0).2 1 t)).1 3) + 1)
-- the changes keep what is asked of a board
theorem vB_addTicket {β : BS} {p z : Int32} (h : vB β) (hr : cnt β < 20) : vB (fX0_addTicket β p z).2 := by
  obtain ⟨h1, h2, h3⟩ := h
  have e : (fX0_addTicket β p z).2.1 0 = nI (cnt β + 1) := by
    show β.1 0 + 1 = _
    rw [h2, nI_1]
  have e2 : cnt (fX0_addTicket β p z).2 = cnt β + 1 := by
    unfold cnt at *
    rw [e, nI_clamp (by omega)]
  refine ⟨by omega, by rw [e2]; exact e, fun t ht => ?_⟩
  show okO (upd (β.2 3) (cnt β) (-1) t)
  unfold upd
  split
  · exact Or.inl rfl
  · exact h3 t ht
theorem vB_setPoints {β : BS} {t : Nat} {p : Int32} (h : vB β) : vB (fX0_setPoints β t p).2 := vB_addLoad (β := β) h
theorem vB_setPriority {β : BS} {t : Nat} {p : Int32} (h : vB β) : vB (fX0_setPriority β t p).2 := h
theorem vB_addNeed {β : BS} {t : Nat} {u : Int32} (h : vB β) : vB (fX0_addNeed β t u).2 := h
theorem vB_removeNeed {β : BS} {t : Nat} {u : Int32} (h : vB β) : vB (fX0_removeNeed β t u).2 := h
theorem vB_own {β : BS} {t : Nat} {o : Int32} (h : vB β) (ho : okO o) : vB (sE β 3 t o) := by
  obtain ⟨h1, h2, h3⟩ := h
  refine ⟨h1, h2, fun u hu => ?_⟩
  show okO (upd (β.2 3) t o u)
  unfold upd
  split
  · exact ho
  · exact h3 u hu
theorem vB_giveTo {β : BS} {t o : Nat} (h : vB β) (ho : o < 5) : vB (fX0_giveTo β t o).2 := vB_addLoad (vB_own (vB_addLoad h) (okO_n ho))
theorem vB_takeFromOwner {β : BS} {t : Nat} (h : vB β) : vB (fX0_takeFromOwner β t).2 := vB_own (vB_addLoad h) (Or.inl rfl)
theorem vB_setCapacity {β : BS} {o : Nat} {z : Int32} (h : vB β) : vB (fX0_setCapacity β o z).2 := h
theorem vB_takeFromMilestone {β : BS} {t : Nat} (h : vB β) : vB (fX0_takeFromMilestone β t).2 := h
theorem vB_setDate {β : BS} {m : Nat} {z : Int32} (h : vB β) : vB (fX0_setDate β m z).2 := h
theorem vB_putBack {β : BS} {t : Nat} (h : vB β) : vB (fX0_putBack β t).2 := h
theorem vB_leaveOff {β : BS} {t : Nat} {z : Int32} (h : vB β) : vB (fX0_leaveOff β t z) := vB_addLoad (β := sE β 0 t z) h
theorem vB_finish {β : BS} {t : Nat} (h : vB β) : vB (fX0_finish β t) := vB_leaveOff (β := sI (sE β 6 t (β.1 1)) 2 (β.1 2 + 1)) h
theorem vB_openAgain {β : BS} {t : Nat} (h : vB β) : vB (fX0_openAgain β t) := vB_addLoad (β := sE β 0 t 0) h
theorem vB_pass {β : BS} {d : Int32} (h : vB β) : vB (fX0_pass β d).2 := by
  have hs := lpF_inv (f := fX0_pass_L12 β d) (a := sI β 1 (β.1 1 + d)) (fun x => x.1 = (sI β 1 (β.1 1 + d)).1 ∧ x.2 3 = β.2 3) ⟨rfl, rfl⟩ (fun i x hx => by unfold fX0_pass_L12; split <;> exact hx) (cnt β)
  obtain ⟨h1, h2, h3⟩ := h
  have e : cnt (fX0_pass β d).2 = cnt β := congrArg (fun f => (f 0).toNatClampNeg) hs.1
  refine ⟨by rw [e]; exact h1, by rw [e]; exact (congrFun hs.1 0).trans h2, fun t ht => ?_⟩
  have e2 : (fX0_pass β d).2.2 3 = β.2 3 := hs.2
  rw [e2]
  exact h3 t ht
theorem hasTicket_i {β : BS} (hv : vB β) {t : Int32} (h : fX0_hasTicket β t = true) : t = nI t.toNatClampNeg ∧ t.toNatClampNeg < 20 ∧ t.toNatClampNeg < cnt β := by
  unfold fX0_hasTicket at h
  obtain ⟨h1, h2, -⟩ := hv
  split at h
  · cases h
  · rename_i c1
    split at h
    · cases h
    · rename_i c2
      obtain ⟨j, hj, e⟩ := nI_cases h2 h1 (Int32.not_lt.mp c1) (Int32.not_le.mp c2)
      rw [e, nI_clamp (by omega)]
      exact ⟨rfl, by omega, hj⟩
theorem hasRoom_lt {β : BS} (hv : vB β) (h : fX0_hasRoom β = true) : cnt β < 20 := by
  unfold fX0_hasRoom at h
  split at h
  · cases h
  · rename_i c
    exact lc_ige hv.2.1 nI_l20 (by have := hv.1; omega) (by omega) c
theorem within_i {v b : Int32} {N : Nat} (hb : b.toInt = N) (hN : N < 1000) (h : fX6_within v 0 b = true) : v = nI v.toNatClampNeg ∧ v.toNatClampNeg < N + 1 := by
  unfold fX6_within at h
  split at h
  · cases h
  · rename_i c1
    split at h
    · cases h
    · rename_i c2
      obtain ⟨j, hj, e⟩ := nI_of2 hb c1 (Int32.not_lt.mp c2)
      rw [e, nI_clamp (by omega)]
      exact ⟨rfl, by omega⟩
theorem isOwner_i {v : Int32} (h : fX6_isOwner v = true) : v = nI v.toNatClampNeg ∧ v.toNatClampNeg < 5 := within_i (N := 4) (by decide) (by omega) h
theorem isMilestone_i {v : Int32} (h : fX6_isMilestone v = true) : v = nI v.toNatClampNeg ∧ v.toNatClampNeg < 4 := within_i (N := 3) (by decide) (by omega) h
theorem isSlot_i {v : Int32} (h : fX6_isSlot v = true) : v = nI v.toNatClampNeg ∧ v.toNatClampNeg < 2 := within_i (N := 1) (by decide) (by omega) h
