def fX6_setOf (t : Int32) : Int32 :=
  1 <<< (t &&& 31)
theorem caX6_setOf : gCalS yX6_setOf cX6_setOf 1 (some .int) 1 := ⟨⟨q2_52, q1_1, by decide +kernel⟩, q2_51⟩
set_option maxHeartbeats 4000000 in
set_option maxRecDepth 100000 in
theorem kX6_setOf (l : Launch) (E : gE) (t : Int32) : MC l E yX6_setOf cX6_setOf 1 (some .int) 0 0 [.int t] [] (some (.int (fX6_setOf t))) [] := by
  refine mc_of (by decide +kernel) (Nat.le_of_ble_eq_true rfl) (lv := [(0, .int t)]) rfl (fun X C hE => ?_)
  refine g_iconst C (v := 1) dX6_setOf_0 (by decide) ?_
  refine g_iload_n C dX6_setOf_1 rfl 0 rfl ?_
  refine g_ishl C dX6_setOf_2 ?_
  have e_1 : fX6_setOf t = 1 <<< (t &&& 31) := by rw [fX6_setOf]
  exact g_iret C hE (by rw [e_1]) rfl dX6_setOf_3
def fX6_isIn (a : Int32) (t : Int32) : Bool :=
  if (a &&& (fX6_setOf t)) = 0 then false else true
theorem caX6_isIn : gCalS yX6_isIn cX6_isIn 2 (some .boolean) 2 := ⟨⟨q2_49, q1_1, by decide +kernel⟩, q2_48⟩
set_option maxHeartbeats 4000000 in
set_option maxRecDepth 100000 in
theorem kX6_isIn (l : Launch) (E : gE) (a : Int32) (t : Int32) : MC l E yX6_isIn cX6_isIn 2 (some .boolean) 1 20 [.int a, .int t] [] (some (.int (b2i (fX6_isIn a t)))) [] := by
  refine mc_of (by decide +kernel) (Nat.le_of_ble_eq_true rfl) (lv := [(0, .int a), (1, .int t)]) rfl (fun X C hE => ?_)
  refine g_iload_n C dX6_isIn_0 rfl 0 rfl ?_
  refine g_iload_n C dX6_isIn_1 rfl 1 rfl ?_
  refine g_callS C (cs1 := []) (st1 := [.int (fX6_setOf t), .int a]) [.int t] [] (kX6_setOf l E t) caX6_setOf q2_50 rfl ⟨Nat.le_of_ble_eq_true rfl, Nat.le_of_ble_eq_true rfl⟩ ⟨Nat.zero_le _, Nat.zero_le _⟩ (by decide) rfl rfl rfl rfl (Nat.le_of_ble_eq_true rfl) dX6_isIn_2 rfl ?_
  refine g_iand C dX6_isIn_5 ?_
  refine g_if_eq C 13 dX6_isIn_6 (by decide) (fun c_1 => ?_) (fun c_1 => ?_)
  · skip
    refine g_iconst C (v := 0) dX6_isIn_13 (by decide) ?_
    have e_2 : fX6_isIn a t = false := by rw [fX6_isIn]; rw [if_pos c_1]
    exact g_zret (b := false) C hE (by rw [e_2]) rfl rfl dX6_isIn_14
  · skip
    refine g_iconst C (v := 1) dX6_isIn_9 (by decide) ?_
    refine g_goto C 14 dX6_isIn_10 (by decide) ?_
    have e_3 : fX6_isIn a t = true := by rw [fX6_isIn]; rw [if_neg c_1]
    exact g_zret (b := true) C hE (by rw [e_3]) rfl rfl dX6_isIn_14
def fX6_within (v : Int32) (a : Int32) (b : Int32) : Bool :=
  if v < a then false else (if b < v then false else true)
theorem caX6_within : gCalS yX6_within cX6_within 3 (some .boolean) 3 := ⟨⟨q3_68, q1_1, by decide +kernel⟩, q3_67⟩
set_option maxHeartbeats 4000000 in
set_option maxRecDepth 100000 in
theorem kX6_within (l : Launch) (E : gE) (v : Int32) (a : Int32) (b : Int32) : MC l E yX6_within cX6_within 3 (some .boolean) 0 0 [.int v, .int a, .int b] [] (some (.int (b2i (fX6_within v a b)))) [] := by
  refine mc_of (by decide +kernel) (Nat.le_of_ble_eq_true rfl) (lv := [(0, .int v), (1, .int a), (2, .int b)]) rfl (fun X C hE => ?_)
  refine g_iload_n C dX6_within_0 rfl 0 rfl ?_
  refine g_iload_n C dX6_within_1 rfl 1 rfl ?_
  refine g_icmp_lt C 14 dX6_within_2 (by decide) (fun c_1 => ?_) (fun c_1 => ?_)
  · skip
    refine g_iconst C (v := 0) dX6_within_14 (by decide) ?_
    have e_2 : fX6_within v a b = false := by rw [fX6_within]; rw [if_pos c_1]
    exact g_zret (b := false) C hE (by rw [e_2]) rfl rfl dX6_within_15
  · skip
    refine g_iload_n C dX6_within_5 rfl 0 rfl ?_
    refine g_iload_n C dX6_within_6 rfl 2 rfl ?_
    refine g_icmp_gt C 14 dX6_within_7 (by decide) (fun c_3 => ?_) (fun c_3 => ?_)
    · skip
      refine g_iconst C (v := 0) dX6_within_14 (by decide) ?_
      have e_4 : fX6_within v a b = false := by rw [fX6_within]; rw [if_neg c_1, if_pos c_3]
      exact g_zret (b := false) C hE (by rw [e_4]) rfl rfl dX6_within_15
    · skip
      refine g_iconst C (v := 1) dX6_within_10 (by decide) ?_
      refine g_goto C 15 dX6_within_11 (by decide) ?_
      have e_5 : fX6_within v a b = true := by rw [fX6_within]; rw [if_neg c_1, if_neg c_3]
      exact g_zret (b := true) C hE (by rw [e_5]) rfl rfl dX6_within_15
def fX6_isOwner (v : Int32) : Bool :=
  (fX6_within v 0 4)
theorem caX6_isOwner : gCalS yX6_isOwner cX6_isOwner 1 (some .boolean) 1 := ⟨⟨q4_40, q1_1, by decide +kernel⟩, q4_39⟩
set_option maxHeartbeats 4000000 in
set_option maxRecDepth 100000 in
theorem kX6_isOwner (l : Launch) (E : gE) (v : Int32) : MC l E yX6_isOwner cX6_isOwner 1 (some .boolean) 1 22 [.int v] [] (some (.int (b2i (fX6_isOwner v)))) [] := by
  refine mc_of (by decide +kernel) (Nat.le_of_ble_eq_true rfl) (lv := [(0, .int v)]) rfl (fun X C hE => ?_)
  refine g_iload_n C dX6_isOwner_0 rfl 0 rfl ?_
  refine g_iconst C (v := 0) dX6_isOwner_1 (by decide) ?_
  refine g_iconst C (v := 4) dX6_isOwner_2 (by decide) ?_
  refine g_callS C (cs1 := []) (st1 := [.int (b2i (fX6_within v 0 4))]) [.int v, .int 0, .int 4] [] (kX6_within l E v 0 4) caX6_within q3_66 rfl ⟨Nat.le_of_ble_eq_true rfl, Nat.le_of_ble_eq_true rfl⟩ ⟨Nat.zero_le _, Nat.zero_le _⟩ (by decide) rfl rfl rfl rfl (Nat.le_of_ble_eq_true rfl) dX6_isOwner_3 rfl ?_
  have e_1 : fX6_isOwner v = (fX6_within v 0 4) := by rw [fX6_isOwner]
  exact g_zret (b := (fX6_within v 0 4)) C hE (by rw [e_1]) rfl rfl dX6_isOwner_6
def fX6_isMilestone (v : Int32) : Bool :=
  (fX6_within v 0 3)
theorem caX6_isMilestone : gCalS yX6_isMilestone cX6_isMilestone 1 (some .boolean) 1 := ⟨⟨q4_80, q1_1, by decide +kernel⟩, q4_79⟩
set_option maxHeartbeats 4000000 in
set_option maxRecDepth 100000 in
theorem kX6_isMilestone (l : Launch) (E : gE) (v : Int32) : MC l E yX6_isMilestone cX6_isMilestone 1 (some .boolean) 1 22 [.int v] [] (some (.int (b2i (fX6_isMilestone v)))) [] := by
  refine mc_of (by decide +kernel) (Nat.le_of_ble_eq_true rfl) (lv := [(0, .int v)]) rfl (fun X C hE => ?_)
  refine g_iload_n C dX6_isMilestone_0 rfl 0 rfl ?_
  refine g_iconst C (v := 0) dX6_isMilestone_1 (by decide) ?_
  refine g_iconst C (v := 3) dX6_isMilestone_2 (by decide) ?_
  refine g_callS C (cs1 := []) (st1 := [.int (b2i (fX6_within v 0 3))]) [.int v, .int 0, .int 3] [] (kX6_within l E v 0 3) caX6_within q3_66 rfl ⟨Nat.le_of_ble_eq_true rfl, Nat.le_of_ble_eq_true rfl⟩ ⟨Nat.zero_le _, Nat.zero_le _⟩ (by decide) rfl rfl rfl rfl (Nat.le_of_ble_eq_true rfl) dX6_isMilestone_3 rfl ?_
  have e_1 : fX6_isMilestone v = (fX6_within v 0 3) := by rw [fX6_isMilestone]
  exact g_zret (b := (fX6_within v 0 3)) C hE (by rw [e_1]) rfl rfl dX6_isMilestone_6
def fX6_isSlot (v : Int32) : Bool :=
  (fX6_within v 0 1)
theorem caX6_isSlot : gCalS yX6_isSlot cX6_isSlot 1 (some .boolean) 1 := ⟨⟨q5_38, q1_1, by decide +kernel⟩, q5_37⟩
set_option maxHeartbeats 4000000 in
set_option maxRecDepth 100000 in
theorem kX6_isSlot (l : Launch) (E : gE) (v : Int32) : MC l E yX6_isSlot cX6_isSlot 1 (some .boolean) 1 22 [.int v] [] (some (.int (b2i (fX6_isSlot v)))) [] := by
  refine mc_of (by decide +kernel) (Nat.le_of_ble_eq_true rfl) (lv := [(0, .int v)]) rfl (fun X C hE => ?_)
  refine g_iload_n C dX6_isSlot_0 rfl 0 rfl ?_
  refine g_iconst C (v := 0) dX6_isSlot_1 (by decide) ?_
  refine g_iconst C (v := 1) dX6_isSlot_2 (by decide) ?_
  refine g_callS C (cs1 := []) (st1 := [.int (b2i (fX6_within v 0 1))]) [.int v, .int 0, .int 1] [] (kX6_within l E v 0 1) caX6_within q3_66 rfl ⟨Nat.le_of_ble_eq_true rfl, Nat.le_of_ble_eq_true rfl⟩ ⟨Nat.zero_le _, Nat.zero_le _⟩ (by decide) rfl rfl rfl rfl (Nat.le_of_ble_eq_true rfl) dX6_isSlot_3 rfl ?_
  have e_1 : fX6_isSlot v = (fX6_within v 0 1) := by rw [fX6_isSlot]
  exact g_zret (b := (fX6_within v 0 1)) C hE (by rw [e_1]) rfl rfl dX6_isSlot_6
def fX6_mixed (a : Int64) (b : Int64) : Int64 :=
  (31 * a) + b
theorem caX6_mixed : gCalS yX6_mixed cX6_mixed 4 (some .long) 2 := ⟨⟨q2_182, q1_1, by decide +kernel⟩, q2_181⟩
set_option maxHeartbeats 4000000 in
set_option maxRecDepth 100000 in
theorem kX6_mixed (l : Launch) (E : gE) (a : Int64) (b : Int64) : MC l E yX6_mixed cX6_mixed 4 (some .long) 0 0 [.long a, .long b] [] (some (.long (fX6_mixed a b))) [] := by
  refine mc_of (by decide +kernel) (Nat.le_of_ble_eq_true rfl) (lv := [(0, .long a), (2, .long b)]) rfl (fun X C hE => ?_)
  refine g_ldc2 C q2_183 dX6_mixed_0 ?_
  refine g_lload_n C dX6_mixed_3 rfl 0 rfl ?_
  refine g_lmul C dX6_mixed_4 ?_
  refine g_lload_n C dX6_mixed_5 rfl 1 rfl ?_
  refine g_ladd C dX6_mixed_6 ?_
  have e_1 : fX6_mixed a b = (31 * a) + b := by rw [fX6_mixed]
  exact g_lret C hE (by rw [e_1]) rfl dX6_mixed_7
def fX6_oneIf (b : Bool) : Int32 :=
  if b = true then 1 else 0
theorem caX6_oneIf : gCalS yX6_oneIf cX6_oneIf 1 (some .int) 1 := ⟨⟨q2_195, q1_1, by decide +kernel⟩, q2_194⟩
set_option maxHeartbeats 4000000 in
set_option maxRecDepth 100000 in
theorem kX6_oneIf (l : Launch) (E : gE) (b : Bool) : MC l E yX6_oneIf cX6_oneIf 1 (some .int) 0 0 [.int (b2i b)] [] (some (.int (fX6_oneIf b))) [] := by
  refine mc_of (by decide +kernel) (Nat.le_of_ble_eq_true rfl) (lv := [(0, .int (b2i b))]) rfl (fun X C hE => ?_)
  refine g_iload_n C dX6_oneIf_0 rfl 0 rfl ?_
  refine g_ifB_eq C 8 dX6_oneIf_1 (by decide) (fun c_1 => ?_) (fun c_1 => ?_)
  · skip
    refine g_iconst C (v := 0) dX6_oneIf_8 (by decide) ?_
    have e_2 : fX6_oneIf b = 0 := by rw [fX6_oneIf]; rw [if_neg (ne_true_of_eq_false c_1)]
    exact g_iret C hE (by rw [e_2]) rfl dX6_oneIf_9
  · skip
    refine g_iconst C (v := 1) dX6_oneIf_4 (by decide) ?_
    refine g_goto C 9 dX6_oneIf_5 (by decide) ?_
    have e_3 : fX6_oneIf b = 1 := by rw [fX6_oneIf]; rw [if_pos c_1]
    exact g_iret C hE (by rw [e_3]) rfl dX6_oneIf_9
def fJ6_bitCount_0f7a4 (x : Int32) : Int32 :=
  (((((((x - ((ushrF x 1) &&& 1431655765)) &&& 858993459) + ((ushrF (x - ((ushrF x 1) &&& 1431655765)) 2) &&& 858993459)) + (ushrF (((x - ((ushrF x 1) &&& 1431655765)) &&& 858993459) + ((ushrF (x - ((ushrF x 1) &&& 1431655765)) 2) &&& 858993459)) 4)) &&& 252645135) + (ushrF (((((x - ((ushrF x 1) &&& 1431655765)) &&& 858993459) + ((ushrF (x - ((ushrF x 1) &&& 1431655765)) 2) &&& 858993459)) + (ushrF (((x - ((ushrF x 1) &&& 1431655765)) &&& 858993459) + ((ushrF (x - ((ushrF x 1) &&& 1431655765)) 2) &&& 858993459)) 4)) &&& 252645135) 8)) + (ushrF ((((((x - ((ushrF x 1) &&& 1431655765)) &&& 858993459) + ((ushrF (x - ((ushrF x 1) &&& 1431655765)) 2) &&& 858993459)) + (ushrF (((x - ((ushrF x 1) &&& 1431655765)) &&& 858993459) + ((ushrF (x - ((ushrF x 1) &&& 1431655765)) 2) &&& 858993459)) 4)) &&& 252645135) + (ushrF (((((x - ((ushrF x 1) &&& 1431655765)) &&& 858993459) + ((ushrF (x - ((ushrF x 1) &&& 1431655765)) 2) &&& 858993459)) + (ushrF (((x - ((ushrF x 1) &&& 1431655765)) &&& 858993459) + ((ushrF (x - ((ushrF x 1) &&& 1431655765)) 2) &&& 858993459)) 4)) &&& 252645135) 8)) 16)) &&& 63
theorem caJ6_bitCount_0f7a4 : gCalS yJ6_bitCount_0f7a4 cJ6_bitCount_0f7a4 1 (some .int) 1 := ⟨⟨q2_149, q1_15, by decide +kernel⟩, q2_148⟩
set_option maxHeartbeats 4000000 in
set_option maxRecDepth 100000 in
theorem kJ6_bitCount_0f7a4 (l : Launch) (E : gE) (x : Int32) : MC l E yJ6_bitCount_0f7a4 cJ6_bitCount_0f7a4 1 (some .int) 0 0 [.int x] [] (some (.int (fJ6_bitCount_0f7a4 x))) [] := by
  refine mc_of (by decide +kernel) (Nat.le_of_ble_eq_true rfl) (lv := [(0, .int x)]) rfl (fun X C hE => ?_)
  refine g_iload_n C dJ6_bitCount_0f7a4_0 rfl 0 rfl ?_
  refine g_iload_n C dJ6_bitCount_0f7a4_1 rfl 0 rfl ?_
  refine g_iconst C (v := 1) dJ6_bitCount_0f7a4_2 (by decide) ?_
  refine g_iushr C (v := ushrF x 1) dJ6_bitCount_0f7a4_3 rfl ?_
  refine g_ldcw C q2_150 dJ6_bitCount_0f7a4_4 ?_
  refine g_iand C dJ6_bitCount_0f7a4_7 ?_
  refine g_isub C dJ6_bitCount_0f7a4_8 ?_
  refine g_istore_n C (lv1 := [(0, .int (x - ((ushrF x 1) &&& 1431655765)))]) dJ6_bitCount_0f7a4_9 rfl (by decide) rfl ?_
  refine g_iload_n C dJ6_bitCount_0f7a4_10 rfl 0 rfl ?_
  refine g_ldcw C q2_151 dJ6_bitCount_0f7a4_11 ?_
  refine g_iand C dJ6_bitCount_0f7a4_14 ?_
  refine g_iload_n C dJ6_bitCount_0f7a4_15 rfl 0 rfl ?_
  refine g_iconst C (v := 2) dJ6_bitCount_0f7a4_16 (by decide) ?_
  refine g_iushr C (v := ushrF (x - ((ushrF x 1) &&& 1431655765)) 2) dJ6_bitCount_0f7a4_17 rfl ?_
  refine g_ldcw C q2_151 dJ6_bitCount_0f7a4_18 ?_
  refine g_iand C dJ6_bitCount_0f7a4_21 ?_
  refine g_iadd C dJ6_bitCount_0f7a4_22 ?_
  refine g_istore_n C (lv1 := [(0, .int (((x - ((ushrF x 1) &&& 1431655765)) &&& 858993459) + ((ushrF (x - ((ushrF x 1) &&& 1431655765)) 2) &&& 858993459)))]) dJ6_bitCount_0f7a4_23 rfl (by decide) rfl ?_
  refine g_iload_n C dJ6_bitCount_0f7a4_24 rfl 0 rfl ?_
  refine g_iload_n C dJ6_bitCount_0f7a4_25 rfl 0 rfl ?_
  refine g_iconst C (v := 4) dJ6_bitCount_0f7a4_26 (by decide) ?_
  refine g_iushr C (v := ushrF (((x - ((ushrF x 1) &&& 1431655765)) &&& 858993459) + ((ushrF (x - ((ushrF x 1) &&& 1431655765)) 2) &&& 858993459)) 4) dJ6_bitCount_0f7a4_27 rfl ?_
  refine g_iadd C dJ6_bitCount_0f7a4_28 ?_
  refine g_ldcw C q2_152 dJ6_bitCount_0f7a4_29 ?_
  refine g_iand C dJ6_bitCount_0f7a4_32 ?_
  refine g_istore_n C (lv1 := [(0, .int (((((x - ((ushrF x 1) &&& 1431655765)) &&& 858993459) + ((ushrF (x - ((ushrF x 1) &&& 1431655765)) 2) &&& 858993459)) + (ushrF (((x - ((ushrF x 1) &&& 1431655765)) &&& 858993459) + ((ushrF (x - ((ushrF x 1) &&& 1431655765)) 2) &&& 858993459)) 4)) &&& 252645135))]) dJ6_bitCount_0f7a4_33 rfl (by decide) rfl ?_
  refine g_iload_n C dJ6_bitCount_0f7a4_34 rfl 0 rfl ?_
  refine g_iload_n C dJ6_bitCount_0f7a4_35 rfl 0 rfl ?_
  refine g_bipush C (v := 8) dJ6_bitCount_0f7a4_36 (by decide) ?_
  refine g_iushr C (v := ushrF (((((x - ((ushrF x 1) &&& 1431655765)) &&& 858993459) + ((ushrF (x - ((ushrF x 1) &&& 1431655765)) 2) &&& 858993459)) + (ushrF (((x - ((ushrF x 1) &&& 1431655765)) &&& 858993459) + ((ushrF (x - ((ushrF x 1) &&& 1431655765)) 2) &&& 858993459)) 4)) &&& 252645135) 8) dJ6_bitCount_0f7a4_38 rfl ?_
  refine g_iadd C dJ6_bitCount_0f7a4_39 ?_
  refine g_istore_n C (lv1 := [(0, .int ((((((x - ((ushrF x 1) &&& 1431655765)) &&& 858993459) + ((ushrF (x - ((ushrF x 1) &&& 1431655765)) 2) &&& 858993459)) + (ushrF (((x - ((ushrF x 1) &&& 1431655765)) &&& 858993459) + ((ushrF (x - ((ushrF x 1) &&& 1431655765)) 2) &&& 858993459)) 4)) &&& 252645135) + (ushrF (((((x - ((ushrF x 1) &&& 1431655765)) &&& 858993459) + ((ushrF (x - ((ushrF x 1) &&& 1431655765)) 2) &&& 858993459)) + (ushrF (((x - ((ushrF x 1) &&& 1431655765)) &&& 858993459) + ((ushrF (x - ((ushrF x 1) &&& 1431655765)) 2) &&& 858993459)) 4)) &&& 252645135) 8)))]) dJ6_bitCount_0f7a4_40 rfl (by decide) rfl ?_
  refine g_iload_n C dJ6_bitCount_0f7a4_41 rfl 0 rfl ?_
  refine g_iload_n C dJ6_bitCount_0f7a4_42 rfl 0 rfl ?_
  refine g_bipush C (v := 16) dJ6_bitCount_0f7a4_43 (by decide) ?_
  refine g_iushr C (v := ushrF ((((((x - ((ushrF x 1) &&& 1431655765)) &&& 858993459) + ((ushrF (x - ((ushrF x 1) &&& 1431655765)) 2) &&& 858993459)) + (ushrF (((x - ((ushrF x 1) &&& 1431655765)) &&& 858993459) + ((ushrF (x - ((ushrF x 1) &&& 1431655765)) 2) &&& 858993459)) 4)) &&& 252645135) + (ushrF (((((x - ((ushrF x 1) &&& 1431655765)) &&& 858993459) + ((ushrF (x - ((ushrF x 1) &&& 1431655765)) 2) &&& 858993459)) + (ushrF (((x - ((ushrF x 1) &&& 1431655765)) &&& 858993459) + ((ushrF (x - ((ushrF x 1) &&& 1431655765)) 2) &&& 858993459)) 4)) &&& 252645135) 8)) 16) dJ6_bitCount_0f7a4_45 rfl ?_
  refine g_iadd C dJ6_bitCount_0f7a4_46 ?_
  refine g_istore_n C (lv1 := [(0, .int (((((((x - ((ushrF x 1) &&& 1431655765)) &&& 858993459) + ((ushrF (x - ((ushrF x 1) &&& 1431655765)) 2) &&& 858993459)) + (ushrF (((x - ((ushrF x 1) &&& 1431655765)) &&& 858993459) + ((ushrF (x - ((ushrF x 1) &&& 1431655765)) 2) &&& 858993459)) 4)) &&& 252645135) + (ushrF (((((x - ((ushrF x 1) &&& 1431655765)) &&& 858993459) + ((ushrF (x - ((ushrF x 1) &&& 1431655765)) 2) &&& 858993459)) + (ushrF (((x - ((ushrF x 1) &&& 1431655765)) &&& 858993459) + ((ushrF (x - ((ushrF x 1) &&& 1431655765)) 2) &&& 858993459)) 4)) &&& 252645135) 8)) + (ushrF ((((((x - ((ushrF x 1) &&& 1431655765)) &&& 858993459) + ((ushrF (x - ((ushrF x 1) &&& 1431655765)) 2) &&& 858993459)) + (ushrF (((x - ((ushrF x 1) &&& 1431655765)) &&& 858993459) + ((ushrF (x - ((ushrF x 1) &&& 1431655765)) 2) &&& 858993459)) 4)) &&& 252645135) + (ushrF (((((x - ((ushrF x 1) &&& 1431655765)) &&& 858993459) + ((ushrF (x - ((ushrF x 1) &&& 1431655765)) 2) &&& 858993459)) + (ushrF (((x - ((ushrF x 1) &&& 1431655765)) &&& 858993459) + ((ushrF (x - ((ushrF x 1) &&& 1431655765)) 2) &&& 858993459)) 4)) &&& 252645135) 8)) 16)))]) dJ6_bitCount_0f7a4_47 rfl (by decide) rfl ?_
  refine g_iload_n C dJ6_bitCount_0f7a4_48 rfl 0 rfl ?_
  refine g_bipush C (v := 63) dJ6_bitCount_0f7a4_49 (by decide) ?_
  refine g_iand C dJ6_bitCount_0f7a4_51 ?_
  have e_1 : fJ6_bitCount_0f7a4 x = (((((((x - ((ushrF x 1) &&& 1431655765)) &&& 858993459) + ((ushrF (x - ((ushrF x 1) &&& 1431655765)) 2) &&& 858993459)) + (ushrF (((x - ((ushrF x 1) &&& 1431655765)) &&& 858993459) + ((ushrF (x - ((ushrF x 1) &&& 1431655765)) 2) &&& 858993459)) 4)) &&& 252645135) + (ushrF (((((x - ((ushrF x 1) &&& 1431655765)) &&& 858993459) + ((ushrF (x - ((ushrF x 1) &&& 1431655765)) 2) &&& 858993459)) + (ushrF (((x - ((ushrF x 1) &&& 1431655765)) &&& 858993459) + ((ushrF (x - ((ushrF x 1) &&& 1431655765)) 2) &&& 858993459)) 4)) &&& 252645135) 8)) + (ushrF ((((((x - ((ushrF x 1) &&& 1431655765)) &&& 858993459) + ((ushrF (x - ((ushrF x 1) &&& 1431655765)) 2) &&& 858993459)) + (ushrF (((x - ((ushrF x 1) &&& 1431655765)) &&& 858993459) + ((ushrF (x - ((ushrF x 1) &&& 1431655765)) 2) &&& 858993459)) 4)) &&& 252645135) + (ushrF (((((x - ((ushrF x 1) &&& 1431655765)) &&& 858993459) + ((ushrF (x - ((ushrF x 1) &&& 1431655765)) 2) &&& 858993459)) + (ushrF (((x - ((ushrF x 1) &&& 1431655765)) &&& 858993459) + ((ushrF (x - ((ushrF x 1) &&& 1431655765)) 2) &&& 858993459)) 4)) &&& 252645135) 8)) 16)) &&& 63 := by rw [fJ6_bitCount_0f7a4]
  exact g_iret C hE (by rw [e_1]) rfl dJ6_bitCount_0f7a4_52
def fX0_hasTicket (β : BS) (t : Int32) : Bool :=
  if t < 0 then false else (if (β.1 0) ≤ t then false else true)
theorem caX0_hasTicket : gCalV yX0_hasTicket cX0_hasTicket 2 (some .boolean) 1 := ⟨⟨q3_195, q1_2, by decide +kernel⟩, q3_193, q3_194⟩
set_option maxHeartbeats 4000000 in
set_option maxRecDepth 100000 in
theorem kX0_hasTicket (l : Launch) (E : gE) (ad : Nat → Nat) (β : BS) (t : Int32) : MC l E yX0_hasTicket cX0_hasTicket 2 (some .boolean) 0 0 [.ref (ad 0), .int t] [wB E ad β] (some (.int (b2i (fX0_hasTicket β t)))) [wB E ad β] := by
  refine mc_of (by decide +kernel) (Nat.le_of_ble_eq_true rfl) (lv := [(0, .ref (ad 0)), (1, .int t)]) rfl (fun X C hE => ?_)
  refine g_iload_n C dX0_hasTicket_0 rfl 1 rfl ?_
  refine g_if_lt C 16 dX0_hasTicket_1 (by decide) (fun c_1 => ?_) (fun c_1 => ?_)
  · skip
    refine g_iconst C (v := 0) dX0_hasTicket_16 (by decide) ?_
    have e_2 : fX0_hasTicket β t = false := by rw [fX0_hasTicket]; rw [if_pos c_1]
    exact g_zret (b := false) C hE (by rw [e_2]) rfl rfl dX0_hasTicket_17
  · skip
    refine g_iload_n C dX0_hasTicket_4 rfl 1 rfl ?_
    refine g_aload_n C dX0_hasTicket_5 rfl 0 rfl ?_
    refine g_getf C (T := TX0) (N := 17) 0 0 rfl rfl rfl inX0 0 (by decide) q1_34 rfl dX0_hasTicket_6 ?_
    refine g_icmp_ge C 16 dX0_hasTicket_9 (by decide) (fun c_3 => ?_) (fun c_3 => ?_)
    · skip
      refine g_iconst C (v := 0) dX0_hasTicket_16 (by decide) ?_
      have e_4 : fX0_hasTicket β t = false := by rw [fX0_hasTicket]; rw [if_neg c_1, if_pos c_3]
      exact g_zret (b := false) C hE (by rw [e_4]) rfl rfl dX0_hasTicket_17
    · skip
      refine g_iconst C (v := 1) dX0_hasTicket_12 (by decide) ?_
      refine g_goto C 17 dX0_hasTicket_13 (by decide) ?_
      have e_5 : fX0_hasTicket β t = true := by rw [fX0_hasTicket]; rw [if_neg c_1, if_neg c_3]
      exact g_zret (b := true) C hE (by rw [e_5]) rfl rfl dX0_hasTicket_17
def fX0_hasRoom (β : BS) : Bool :=
  if 20 ≤ (β.1 0) then false else true
theorem caX0_hasRoom : gCalV yX0_hasRoom cX0_hasRoom 1 (some .boolean) 0 := ⟨⟨q3_143, q1_2, by decide +kernel⟩, q3_141, q3_142⟩
set_option maxHeartbeats 4000000 in
set_option maxRecDepth 100000 in
theorem kX0_hasRoom (l : Launch) (E : gE) (ad : Nat → Nat) (β : BS)  : MC l E yX0_hasRoom cX0_hasRoom 1 (some .boolean) 0 0 [.ref (ad 0)] [wB E ad β] (some (.int (b2i (fX0_hasRoom β)))) [wB E ad β] := by
  refine mc_of (by decide +kernel) (Nat.le_of_ble_eq_true rfl) (lv := [(0, .ref (ad 0))]) rfl (fun X C hE => ?_)
  refine g_aload_n C dX0_hasRoom_0 rfl 0 rfl ?_
  refine g_getf C (T := TX0) (N := 17) 0 0 rfl rfl rfl inX0 0 (by decide) q1_34 rfl dX0_hasRoom_1 ?_
  refine g_bipush C (v := 20) dX0_hasRoom_4 (by decide) ?_
  refine g_icmp_ge C 13 dX0_hasRoom_6 (by decide) (fun c_1 => ?_) (fun c_1 => ?_)
  · skip
    refine g_iconst C (v := 0) dX0_hasRoom_13 (by decide) ?_
    have e_2 : fX0_hasRoom β = false := by rw [fX0_hasRoom]; rw [if_pos c_1]
    exact g_zret (b := false) C hE (by rw [e_2]) rfl rfl dX0_hasRoom_14
  · skip
    refine g_iconst C (v := 1) dX0_hasRoom_9 (by decide) ?_
    refine g_goto C 14 dX0_hasRoom_10 (by decide) ?_
    have e_3 : fX0_hasRoom β = true := by rw [fX0_hasRoom]; rw [if_neg c_1]
    exact g_zret (b := true) C hE (by rw [e_3]) rfl rfl dX0_hasRoom_14
def fX0_isUnfinished (β : BS) (t : Nat) : Bool :=
  if (β.2 0 t) = 3 then false else (if (β.2 0 t) = 4 then false else true)
theorem caX0_isUnfinished : gCalV yX0_isUnfinished cX0_isUnfinished 2 (some .boolean) 1 := ⟨⟨q2_62, q1_2, by decide +kernel⟩, q2_60, q2_61⟩
set_option maxHeartbeats 4000000 in
set_option maxRecDepth 100000 in
theorem kX0_isUnfinished (l : Launch) (E : gE) (ad : Nat → Nat) (β : BS) (t : Nat) (ht : t < 20) : MC l E yX0_isUnfinished cX0_isUnfinished 2 (some .boolean) 0 0 [.ref (ad 0), .int (nI t)] [wB E ad β] (some (.int (b2i (fX0_isUnfinished β t)))) [wB E ad β] := by
  refine mc_of (by decide +kernel) (Nat.le_of_ble_eq_true rfl) (lv := [(0, .ref (ad 0)), (1, .int (nI t))]) rfl (fun X C hE => ?_)
  refine g_aload_n C dX0_isUnfinished_0 rfl 0 rfl ?_
  refine g_getf C (T := TX0) (N := 17) 0 0 rfl rfl rfl inX0 4 (by decide) q1_44 rfl dX0_isUnfinished_1 ?_
  refine g_iload_n C dX0_isUnfinished_4 rfl 1 rfl ?_
  refine g_ialdn C 0 1 t rfl rfl rfl (by omega) (by decide) dX0_isUnfinished_5 ?_
  refine g_iconst C (v := 3) dX0_isUnfinished_6 (by decide) ?_
  refine g_icmp_eq C 24 dX0_isUnfinished_7 (by decide) (fun c_1 => ?_) (fun c_1 => ?_)
  · skip
    refine g_iconst C (v := 0) dX0_isUnfinished_24 (by decide) ?_
    have e_2 : fX0_isUnfinished β t = false := by rw [fX0_isUnfinished]; rw [if_pos c_1]
    exact g_zret (b := false) C hE (by rw [e_2]) rfl rfl dX0_isUnfinished_25
  · skip
    refine g_aload_n C dX0_isUnfinished_10 rfl 0 rfl ?_
    refine g_getf C (T := TX0) (N := 17) 0 0 rfl rfl rfl inX0 4 (by decide) q1_44 rfl dX0_isUnfinished_11 ?_
    refine g_iload_n C dX0_isUnfinished_14 rfl 1 rfl ?_
    refine g_ialdn C 0 1 t rfl rfl rfl (by omega) (by decide) dX0_isUnfinished_15 ?_
    refine g_iconst C (v := 4) dX0_isUnfinished_16 (by decide) ?_
    refine g_icmp_eq C 24 dX0_isUnfinished_17 (by decide) (fun c_3 => ?_) (fun c_3 => ?_)
    · skip
      refine g_iconst C (v := 0) dX0_isUnfinished_24 (by decide) ?_
      have e_4 : fX0_isUnfinished β t = false := by rw [fX0_isUnfinished]; rw [if_neg c_1, if_pos c_3]
      exact g_zret (b := false) C hE (by rw [e_4]) rfl rfl dX0_isUnfinished_25
    · skip
      refine g_iconst C (v := 1) dX0_isUnfinished_20 (by decide) ?_
      refine g_goto C 25 dX0_isUnfinished_21 (by decide) ?_
      have e_5 : fX0_isUnfinished β t = true := by rw [fX0_isUnfinished]; rw [if_neg c_1, if_neg c_3]
      exact g_zret (b := true) C hE (by rw [e_5]) rfl rfl dX0_isUnfinished_25
