theorem g_d2raw {X : gX} {cc : ByteArray} {nL : Nat} {own : String} {ret : Option FieldType} {l : Launch} {E : gE} {R : Room} {k n pc : Nat} {cs : List va_W} {lv : List (Nat × Value)} {st : List Value} (C : gC X cc nL own ret l E R) {index : Nat} {b : UInt64} (hlink : Cond.methodLink own index ⟨"java/lang/Double", "doubleToRawLongBits", "(D)J"⟩ ∈ gU) (hnat : Cond.native ⟨"java/lang/Double", "doubleToRawLongBits", "(D)J"⟩ ∈ gU) (hstat : Cond.static ⟨"java/lang/Double", "doubleToRawLongBits", "(D)J"⟩ ∈ gU) (hini : Cond.initialized "java/lang/Double" ∈ gU) (hf : 1 ≤ R.frames) (hlo : (st.map fun v => v.category).sum + 15 ≤ R.locals)
    (hd : decode cc pc = .ok (.invokestatic index, 3)) (kk : G X k n cs lv (pc + 3) (.long b.toInt64 :: st)) : G X k n cs lv pc (.double b :: st) := by
  obtain ⟨p, l9, e, R9, s, m, args, below, meth, c, E9, A, Q⟩ := X
  obtain ⟨⟨hx, hb, hml, hown, hts⟩, hK, hA, hr, hlocks, hN, rfl, rfl, rfl⟩ := C
  intro H locs ls hP hD hS hl
  exact vn_d2l hx hb hl.1.symm hown (hts _ hlink) (hts _ hnat) (hts _ hstat) (hts _ hini) hf hlo hd (kk H locs ls hP hD hS hl)
def fJxe99ae_isNaN_b9ae7 (x : UInt64) : Bool :=
  if (dcmpFl x x) = 0 then false else true
theorem caJxe99ae_isNaN_b9ae7 : gCalS yJxe99ae_isNaN_b9ae7 cJxe99ae_isNaN_b9ae7 2 (some .boolean) 1 := ⟨⟨q8_178, q1_18, by decide +kernel⟩, q8_177⟩
set_option maxHeartbeats 4000000 in
set_option maxRecDepth 100000 in
theorem kJxe99ae_isNaN_b9ae7 (l : Launch) (E : gE)  (x : UInt64) : MC l E yJxe99ae_isNaN_b9ae7 cJxe99ae_isNaN_b9ae7 2 (some .boolean) 0 0 [.double x] [] (some (.int (b2i (fJxe99ae_isNaN_b9ae7 x)))) [] := by
  refine mc_of (by decide +kernel) (Nat.le_of_ble_eq_true rfl) (lv := [(0, .double x)]) rfl (fun X C hE => ?_)
  refine g_dload_n C dJxe99ae_isNaN_b9ae7_0 rfl 0 rfl ?_
  refine g_dload_n C dJxe99ae_isNaN_b9ae7_1 rfl 0 rfl ?_
  refine g_dcmp C dJxe99ae_isNaN_b9ae7_2 ?_
  refine g_st (st1 := [.int (dcmpFl x x)]) rfl ?_
  refine g_if_eq C 10 dJxe99ae_isNaN_b9ae7_3 (by decide) (fun c_1 => ?_) (fun c_1 => ?_)
  · skip
    refine g_iconst C (v := 0) dJxe99ae_isNaN_b9ae7_10 (by decide) ?_
    have e_2 : fJxe99ae_isNaN_b9ae7 x = false := by rw [fJxe99ae_isNaN_b9ae7]; rw [if_pos c_1]
    exact g_zret (b := false) C hE (by rw [e_2]) rfl rfl dJxe99ae_isNaN_b9ae7_11
  · skip
    refine g_iconst C (v := 1) dJxe99ae_isNaN_b9ae7_6 (by decide) ?_
    refine g_goto C 11 dJxe99ae_isNaN_b9ae7_7 (by decide) ?_
    have e_3 : fJxe99ae_isNaN_b9ae7 x = true := by rw [fJxe99ae_isNaN_b9ae7]; rw [if_neg c_1]
    exact g_zret (b := true) C hE (by rw [e_3]) rfl rfl dJxe99ae_isNaN_b9ae7_11
def fJxe99ae_doubleToLongBits_ccdee (x : UInt64) : Int64 :=
  if (fJxe99ae_isNaN_b9ae7 x) = true then 9221120237041090560 else x.toInt64
theorem caJxe99ae_doubleToLongBits_ccdee : gCalS yJxe99ae_doubleToLongBits_ccdee cJxe99ae_doubleToLongBits_ccdee 2 (some .long) 1 := ⟨⟨q8_175, q1_18, by decide +kernel⟩, q8_174⟩
set_option maxHeartbeats 4000000 in
set_option maxRecDepth 100000 in
theorem kJxe99ae_doubleToLongBits_ccdee (l : Launch) (E : gE)  (x : UInt64) : MC l E yJxe99ae_doubleToLongBits_ccdee cJxe99ae_doubleToLongBits_ccdee 2 (some .long) 1 24 [.double x] [] (some (.long (fJxe99ae_doubleToLongBits_ccdee x))) [] := by
  refine mc_of (by decide +kernel) (Nat.le_of_ble_eq_true rfl) (lv := [(0, .double x)]) rfl (fun X C hE => ?_)
  refine g_dload_n C dJxe99ae_doubleToLongBits_ccdee_0 rfl 0 rfl ?_
  refine g_callS C (cs1 := []) (st1 := [.int (b2i (fJxe99ae_isNaN_b9ae7 x))]) [.double x] [] (kJxe99ae_isNaN_b9ae7 l E x) caJxe99ae_isNaN_b9ae7 q8_176 rfl ⟨Nat.le_of_ble_eq_true rfl, Nat.le_of_ble_eq_true rfl⟩ ⟨Nat.zero_le _, Nat.zero_le _⟩ (by decide) rfl rfl rfl rfl (Nat.le_of_ble_eq_true rfl) dJxe99ae_doubleToLongBits_ccdee_1 rfl ?_
  refine g_ifB_ne C 12 dJxe99ae_doubleToLongBits_ccdee_4 (by decide) (fun c_1 => ?_) (fun c_1 => ?_)
  · skip
    refine g_ldc2 C q8_182 dJxe99ae_doubleToLongBits_ccdee_12 ?_
    have e_2 : fJxe99ae_doubleToLongBits_ccdee x = 9221120237041090560 := by rw [fJxe99ae_doubleToLongBits_ccdee]; rw [if_pos c_1]
    exact g_lret C hE (by rw [e_2]) rfl dJxe99ae_doubleToLongBits_ccdee_15
  · skip
    refine g_dload_n C dJxe99ae_doubleToLongBits_ccdee_7 rfl 0 rfl ?_
    refine g_d2raw C q8_179 q8_181 q8_180 q1_18 (Nat.le_of_ble_eq_true rfl) (Nat.le_of_ble_eq_true rfl) dJxe99ae_doubleToLongBits_ccdee_8 ?_
    have e_3 : fJxe99ae_doubleToLongBits_ccdee x = x.toInt64 := by rw [fJxe99ae_doubleToLongBits_ccdee]; rw [if_neg (ne_true_of_eq_false c_1)]
    exact g_lret C hE (by rw [e_3]) rfl dJxe99ae_doubleToLongBits_ccdee_11
theorem cf_x8 (μ : BS) (t : Nat) : eqX 8 μ (fX7_chainFrom μ t).2 := tells_x8 μ false
theorem crit_x8 (μ : BS) : eqX 8 μ (fX7_critical μ).2 := tells_x8 μ true
def fX7_digestTicket_L196 (μ : BS) (z : Int64) (t : Nat) (i196 : Nat) (t196 : Int64) : Int64 :=
  if (fX7_needsIt ((fX7_chainFrom μ t).2) t (nI i196)) = true then (31 * t196) + ((1 : Int32).toInt64) else (31 * t196) + ((0 : Int32).toInt64)
def fX7_digestTicket (μ : BS) (z : Int64) (t : Nat) : Int64 × BS :=
  if (fX7_blockers μ t) = 0 then ((lpF (fX7_digestTicket_L196 μ z t) ((31 * ((31 * ((31 * ((31 * ((31 * ((31 * ((31 * ((31 * ((31 * ((31 * ((31 * ((31 * ((31 * z) + ((fX7_of μ t 2).toInt64))) + ((fX7_of μ t 0).toInt64))) + ((fX7_of μ t 1).toInt64))) + ((fX7_of μ t 3).toInt64))) + ((fX7_of μ t 4).toInt64))) + ((fX7_of μ t 5).toInt64))) + ((fX7_of μ t 7).toInt64))) + ((fX7_of μ t 8).toInt64))) + ((0 : Int32).toInt64))) + ((fX7_bits (fX7_blockers μ t)).toInt64))) + ((fX7_bits (fX7_allNeeds μ t)).toInt64))) + ((fX7_bits (fX7_allNeeds μ t)).toInt64))) + (((fX7_chainFrom μ t).1).toInt64)) (cM μ)), (fX7_chainFrom μ t).2) else ((lpF (fX7_digestTicket_L196 μ z t) ((31 * ((31 * ((31 * ((31 * ((31 * ((31 * ((31 * ((31 * ((31 * ((31 * ((31 * ((31 * ((31 * z) + ((fX7_of μ t 2).toInt64))) + ((fX7_of μ t 0).toInt64))) + ((fX7_of μ t 1).toInt64))) + ((fX7_of μ t 3).toInt64))) + ((fX7_of μ t 4).toInt64))) + ((fX7_of μ t 5).toInt64))) + ((fX7_of μ t 7).toInt64))) + ((fX7_of μ t 8).toInt64))) + ((1 : Int32).toInt64))) + ((fX7_bits (fX7_blockers μ t)).toInt64))) + ((fX7_bits (fX7_allNeeds μ t)).toInt64))) + ((fX7_bits (fX7_allNeeds μ t)).toInt64))) + (((fX7_chainFrom μ t).1).toInt64)) (cM μ)), (fX7_chainFrom μ t).2)
theorem caX7_digestTicket : gCalV yX7_digestTicket cX7_digestTicket 7 (some .long) 2 := ⟨⟨q8_172, q1_6, by decide +kernel⟩, q8_171, qs_72⟩
set_option maxHeartbeats 4000000 in
set_option maxRecDepth 100000 in
theorem kX7_digestTicket (l : Launch) (E : gE) (am : Nat → Nat) (μ : BS) (hv : vM μ) (ha : gA (μ.2 0))  (z : Int64) (t : Nat) (ht : t < 20) : MC l E yX7_digestTicket cX7_digestTicket 7 (some .long) 4 90 [.ref (am 0), .long z, .int (nI t)] [wM E am μ] (some (.long (fX7_digestTicket μ z t).1)) [wM E am ((fX7_digestTicket μ z t).2)] := by
  have hv1 : cM μ ≤ 20 := hv.1.1
  have hc0 : μ.2 0 0 = nI (cM μ) := hv.1.2.1
  refine mc_of (by decide +kernel) (Nat.le_of_ble_eq_true rfl) (lv := [(0, .ref (am 0)), (1, .long z), (3, .int (nI t))]) rfl (fun X C hE => ?_)
  refine g_ldc2 C q8_168 dX7_digestTicket_0 ?_
  refine g_ldc2 C q8_168 dX7_digestTicket_3 ?_
  refine g_ldc2 C q8_168 dX7_digestTicket_6 ?_
  refine g_lload_n C dX7_digestTicket_9 rfl 1 rfl ?_
  refine g_lmul C dX7_digestTicket_10 ?_
  refine g_aload_n C dX7_digestTicket_11 rfl 0 rfl ?_
  refine g_iload_n C dX7_digestTicket_12 rfl 2 rfl ?_
  refine g_iconst C (v := 2) dX7_digestTicket_13 (by decide) ?_
  refine g_callV C (cs1 := [wM E am μ]) (st1 := [.int (fX7_of μ t 2), .long (31 * z), .long 31, .long 31]) [.int (nI t), .int 2] [0] (kX7_of l E am μ t (by omega) 2 (by decide)) caX7_of q6_151 rfl ⟨Nat.le_of_ble_eq_true rfl, Nat.le_of_ble_eq_true rfl⟩ ⟨Nat.zero_le _, Nat.zero_le _⟩ 0 0 rfl rfl rfl rfl (by decide) rfl rfl rfl rfl (Nat.le_of_ble_eq_true rfl) dX7_digestTicket_14 rfl ?_
  refine g_i2l C dX7_digestTicket_17 ?_
  refine g_ladd C dX7_digestTicket_18 ?_
  refine g_lmul C dX7_digestTicket_19 ?_
  refine g_aload_n C dX7_digestTicket_20 rfl 0 rfl ?_
  refine g_iload_n C dX7_digestTicket_21 rfl 2 rfl ?_
  refine g_iconst C (v := 0) dX7_digestTicket_22 (by decide) ?_
  refine g_callV C (cs1 := [wM E am μ]) (st1 := [.int (fX7_of μ t 0), .long (31 * ((31 * z) + ((fX7_of μ t 2).toInt64))), .long 31]) [.int (nI t), .int 0] [0] (kX7_of l E am μ t (by omega) 0 (by decide)) caX7_of q6_151 rfl ⟨Nat.le_of_ble_eq_true rfl, Nat.le_of_ble_eq_true rfl⟩ ⟨Nat.zero_le _, Nat.zero_le _⟩ 0 0 rfl rfl rfl rfl (by decide) rfl rfl rfl rfl (Nat.le_of_ble_eq_true rfl) dX7_digestTicket_23 rfl ?_
  refine g_i2l C dX7_digestTicket_26 ?_
  refine g_ladd C dX7_digestTicket_27 ?_
  refine g_lmul C dX7_digestTicket_28 ?_
  refine g_aload_n C dX7_digestTicket_29 rfl 0 rfl ?_
  refine g_iload_n C dX7_digestTicket_30 rfl 2 rfl ?_
  refine g_iconst C (v := 1) dX7_digestTicket_31 (by decide) ?_
  refine g_callV C (cs1 := [wM E am μ]) (st1 := [.int (fX7_of μ t 1), .long (31 * ((31 * ((31 * z) + ((fX7_of μ t 2).toInt64))) + ((fX7_of μ t 0).toInt64)))]) [.int (nI t), .int 1] [0] (kX7_of l E am μ t (by omega) 1 (by decide)) caX7_of q6_151 rfl ⟨Nat.le_of_ble_eq_true rfl, Nat.le_of_ble_eq_true rfl⟩ ⟨Nat.zero_le _, Nat.zero_le _⟩ 0 0 rfl rfl rfl rfl (by decide) rfl rfl rfl rfl (Nat.le_of_ble_eq_true rfl) dX7_digestTicket_32 rfl ?_
  refine g_i2l C dX7_digestTicket_35 ?_
  refine g_ladd C dX7_digestTicket_36 ?_
  refine g_lstore C (lv1 := [(4, .long ((31 * ((31 * ((31 * z) + ((fX7_of μ t 2).toInt64))) + ((fX7_of μ t 0).toInt64))) + ((fX7_of μ t 1).toInt64))), (0, .ref (am 0)), (1, .long z), (3, .int (nI t))]) dX7_digestTicket_37 (by decide) rfl ?_
  refine g_ldc2 C q8_168 dX7_digestTicket_39 ?_
  refine g_ldc2 C q8_168 dX7_digestTicket_42 ?_
  refine g_ldc2 C q8_168 dX7_digestTicket_45 ?_
  refine g_lload C dX7_digestTicket_48 0 rfl ?_
  refine g_lmul C dX7_digestTicket_50 ?_
  refine g_aload_n C dX7_digestTicket_51 rfl 1 rfl ?_
  refine g_iload_n C dX7_digestTicket_52 rfl 3 rfl ?_
  refine g_iconst C (v := 3) dX7_digestTicket_53 (by decide) ?_
  refine g_callV C (cs1 := [wM E am μ]) (st1 := [.int (fX7_of μ t 3), .long (31 * ((31 * ((31 * ((31 * z) + ((fX7_of μ t 2).toInt64))) + ((fX7_of μ t 0).toInt64))) + ((fX7_of μ t 1).toInt64))), .long 31, .long 31]) [.int (nI t), .int 3] [0] (kX7_of l E am μ t (by omega) 3 (by decide)) caX7_of q6_151 rfl ⟨Nat.le_of_ble_eq_true rfl, Nat.le_of_ble_eq_true rfl⟩ ⟨Nat.zero_le _, Nat.zero_le _⟩ 0 0 rfl rfl rfl rfl (by decide) rfl rfl rfl rfl (Nat.le_of_ble_eq_true rfl) dX7_digestTicket_54 rfl ?_
  refine g_i2l C dX7_digestTicket_57 ?_
  refine g_ladd C dX7_digestTicket_58 ?_
  refine g_lmul C dX7_digestTicket_59 ?_
  refine g_aload_n C dX7_digestTicket_60 rfl 1 rfl ?_
  refine g_iload_n C dX7_digestTicket_61 rfl 3 rfl ?_
  refine g_iconst C (v := 4) dX7_digestTicket_62 (by decide) ?_
  refine g_callV C (cs1 := [wM E am μ]) (st1 := [.int (fX7_of μ t 4), .long (31 * ((31 * ((31 * ((31 * ((31 * z) + ((fX7_of μ t 2).toInt64))) + ((fX7_of μ t 0).toInt64))) + ((fX7_of μ t 1).toInt64))) + ((fX7_of μ t 3).toInt64))), .long 31]) [.int (nI t), .int 4] [0] (kX7_of l E am μ t (by omega) 4 (by decide)) caX7_of q6_151 rfl ⟨Nat.le_of_ble_eq_true rfl, Nat.le_of_ble_eq_true rfl⟩ ⟨Nat.zero_le _, Nat.zero_le _⟩ 0 0 rfl rfl rfl rfl (by decide) rfl rfl rfl rfl (Nat.le_of_ble_eq_true rfl) dX7_digestTicket_63 rfl ?_
  refine g_i2l C dX7_digestTicket_66 ?_
  refine g_ladd C dX7_digestTicket_67 ?_
  refine g_lmul C dX7_digestTicket_68 ?_
  refine g_aload_n C dX7_digestTicket_69 rfl 1 rfl ?_
  refine g_iload_n C dX7_digestTicket_70 rfl 3 rfl ?_
  refine g_iconst C (v := 5) dX7_digestTicket_71 (by decide) ?_
  refine g_callV C (cs1 := [wM E am μ]) (st1 := [.int (fX7_of μ t 5), .long (31 * ((31 * ((31 * ((31 * ((31 * ((31 * z) + ((fX7_of μ t 2).toInt64))) + ((fX7_of μ t 0).toInt64))) + ((fX7_of μ t 1).toInt64))) + ((fX7_of μ t 3).toInt64))) + ((fX7_of μ t 4).toInt64)))]) [.int (nI t), .int 5] [0] (kX7_of l E am μ t (by omega) 5 (by decide)) caX7_of q6_151 rfl ⟨Nat.le_of_ble_eq_true rfl, Nat.le_of_ble_eq_true rfl⟩ ⟨Nat.zero_le _, Nat.zero_le _⟩ 0 0 rfl rfl rfl rfl (by decide) rfl rfl rfl rfl (Nat.le_of_ble_eq_true rfl) dX7_digestTicket_72 rfl ?_
  refine g_i2l C dX7_digestTicket_75 ?_
  refine g_ladd C dX7_digestTicket_76 ?_
  refine g_lstore C (lv1 := [(4, .long ((31 * ((31 * ((31 * ((31 * ((31 * ((31 * z) + ((fX7_of μ t 2).toInt64))) + ((fX7_of μ t 0).toInt64))) + ((fX7_of μ t 1).toInt64))) + ((fX7_of μ t 3).toInt64))) + ((fX7_of μ t 4).toInt64))) + ((fX7_of μ t 5).toInt64))), (0, .ref (am 0)), (1, .long z), (3, .int (nI t))]) dX7_digestTicket_77 (by decide) rfl ?_
  refine g_ldc2 C q8_168 dX7_digestTicket_79 ?_
  refine g_ldc2 C q8_168 dX7_digestTicket_82 ?_
  refine g_lload C dX7_digestTicket_85 0 rfl ?_
  refine g_lmul C dX7_digestTicket_87 ?_
  refine g_aload_n C dX7_digestTicket_88 rfl 1 rfl ?_
  refine g_iload_n C dX7_digestTicket_89 rfl 3 rfl ?_
  refine g_bipush C (v := 7) dX7_digestTicket_90 (by decide) ?_
  refine g_callV C (cs1 := [wM E am μ]) (st1 := [.int (fX7_of μ t 7), .long (31 * ((31 * ((31 * ((31 * ((31 * ((31 * ((31 * z) + ((fX7_of μ t 2).toInt64))) + ((fX7_of μ t 0).toInt64))) + ((fX7_of μ t 1).toInt64))) + ((fX7_of μ t 3).toInt64))) + ((fX7_of μ t 4).toInt64))) + ((fX7_of μ t 5).toInt64))), .long 31]) [.int (nI t), .int 7] [0] (kX7_of l E am μ t (by omega) 7 (by decide)) caX7_of q6_151 rfl ⟨Nat.le_of_ble_eq_true rfl, Nat.le_of_ble_eq_true rfl⟩ ⟨Nat.zero_le _, Nat.zero_le _⟩ 0 0 rfl rfl rfl rfl (by decide) rfl rfl rfl rfl (Nat.le_of_ble_eq_true rfl) dX7_digestTicket_92 rfl ?_
  refine g_i2l C dX7_digestTicket_95 ?_
  refine g_ladd C dX7_digestTicket_96 ?_
  refine g_lmul C dX7_digestTicket_97 ?_
  refine g_aload_n C dX7_digestTicket_98 rfl 1 rfl ?_
  refine g_iload_n C dX7_digestTicket_99 rfl 3 rfl ?_
  refine g_bipush C (v := 8) dX7_digestTicket_100 (by decide) ?_
  refine g_callV C (cs1 := [wM E am μ]) (st1 := [.int (fX7_of μ t 8), .long (31 * ((31 * ((31 * ((31 * ((31 * ((31 * ((31 * ((31 * z) + ((fX7_of μ t 2).toInt64))) + ((fX7_of μ t 0).toInt64))) + ((fX7_of μ t 1).toInt64))) + ((fX7_of μ t 3).toInt64))) + ((fX7_of μ t 4).toInt64))) + ((fX7_of μ t 5).toInt64))) + ((fX7_of μ t 7).toInt64)))]) [.int (nI t), .int 8] [0] (kX7_of l E am μ t (by omega) 8 (by decide)) caX7_of q6_151 rfl ⟨Nat.le_of_ble_eq_true rfl, Nat.le_of_ble_eq_true rfl⟩ ⟨Nat.zero_le _, Nat.zero_le _⟩ 0 0 rfl rfl rfl rfl (by decide) rfl rfl rfl rfl (Nat.le_of_ble_eq_true rfl) dX7_digestTicket_102 rfl ?_
  refine g_i2l C dX7_digestTicket_105 ?_
  refine g_ladd C dX7_digestTicket_106 ?_
  refine g_lstore C (lv1 := [(4, .long ((31 * ((31 * ((31 * ((31 * ((31 * ((31 * ((31 * ((31 * z) + ((fX7_of μ t 2).toInt64))) + ((fX7_of μ t 0).toInt64))) + ((fX7_of μ t 1).toInt64))) + ((fX7_of μ t 3).toInt64))) + ((fX7_of μ t 4).toInt64))) + ((fX7_of μ t 5).toInt64))) + ((fX7_of μ t 7).toInt64))) + ((fX7_of μ t 8).toInt64))), (0, .ref (am 0)), (1, .long z), (3, .int (nI t))]) dX7_digestTicket_107 (by decide) rfl ?_
  refine g_ldc2 C q8_168 dX7_digestTicket_109 ?_
  refine g_ldc2 C q8_168 dX7_digestTicket_112 ?_
  refine g_lload C dX7_digestTicket_115 0 rfl ?_
  refine g_lmul C dX7_digestTicket_117 ?_
  refine g_aload_n C dX7_digestTicket_118 rfl 1 rfl ?_
  refine g_iload_n C dX7_digestTicket_119 rfl 3 rfl ?_
  refine g_callV C (cs1 := [wM E am μ]) (st1 := [.int (fX7_blockers μ t), .long (31 * ((31 * ((31 * ((31 * ((31 * ((31 * ((31 * ((31 * ((31 * z) + ((fX7_of μ t 2).toInt64))) + ((fX7_of μ t 0).toInt64))) + ((fX7_of μ t 1).toInt64))) + ((fX7_of μ t 3).toInt64))) + ((fX7_of μ t 4).toInt64))) + ((fX7_of μ t 5).toInt64))) + ((fX7_of μ t 7).toInt64))) + ((fX7_of μ t 8).toInt64))), .long 31]) [.int (nI t)] [0] (kX7_blockers l E am μ hv t (by omega)) caX7_blockers q7_32 rfl ⟨Nat.le_of_ble_eq_true rfl, Nat.le_of_ble_eq_true rfl⟩ ⟨Nat.zero_le _, Nat.zero_le _⟩ 0 0 rfl rfl rfl rfl (by decide) rfl rfl rfl rfl (Nat.le_of_ble_eq_true rfl) dX7_digestTicket_120 rfl ?_
  refine g_if_eq C 130 dX7_digestTicket_123 (by decide) (fun c_1 => ?_) (fun c_1 => ?_)
  · skip
    refine g_iconst C (v := 0) dX7_digestTicket_130 (by decide) ?_
    refine g_i2l C dX7_digestTicket_131 ?_
    refine g_ladd C dX7_digestTicket_132 ?_
    refine g_lmul C dX7_digestTicket_133 ?_
    refine g_aload_n C dX7_digestTicket_134 rfl 1 rfl ?_
    refine g_iload_n C dX7_digestTicket_135 rfl 3 rfl ?_
    refine g_callV C (cs1 := [wM E am μ]) (st1 := [.int (fX7_blockers μ t), .long (31 * ((31 * ((31 * ((31 * ((31 * ((31 * ((31 * ((31 * ((31 * ((31 * z) + ((fX7_of μ t 2).toInt64))) + ((fX7_of μ t 0).toInt64))) + ((fX7_of μ t 1).toInt64))) + ((fX7_of μ t 3).toInt64))) + ((fX7_of μ t 4).toInt64))) + ((fX7_of μ t 5).toInt64))) + ((fX7_of μ t 7).toInt64))) + ((fX7_of μ t 8).toInt64))) + ((0 : Int32).toInt64)))]) [.int (nI t)] [0] (kX7_blockers l E am μ hv t (by omega)) caX7_blockers q7_32 rfl ⟨Nat.le_of_ble_eq_true rfl, Nat.le_of_ble_eq_true rfl⟩ ⟨Nat.zero_le _, Nat.zero_le _⟩ 0 0 rfl rfl rfl rfl (by decide) rfl rfl rfl rfl (Nat.le_of_ble_eq_true rfl) dX7_digestTicket_136 rfl ?_
    refine g_callS C (cs1 := [wM E am μ]) (st1 := [.int (fX7_bits (fX7_blockers μ t)), .long (31 * ((31 * ((31 * ((31 * ((31 * ((31 * ((31 * ((31 * ((31 * ((31 * z) + ((fX7_of μ t 2).toInt64))) + ((fX7_of μ t 0).toInt64))) + ((fX7_of μ t 1).toInt64))) + ((fX7_of μ t 3).toInt64))) + ((fX7_of μ t 4).toInt64))) + ((fX7_of μ t 5).toInt64))) + ((fX7_of μ t 7).toInt64))) + ((fX7_of μ t 8).toInt64))) + ((0 : Int32).toInt64)))]) [.int (fX7_blockers μ t)] [] (kX7_bits l E (fX7_blockers μ t)) caX7_bits q6_191 rfl ⟨Nat.le_of_ble_eq_true rfl, Nat.le_of_ble_eq_true rfl⟩ ⟨Nat.zero_le _, Nat.zero_le _⟩ (by decide) rfl rfl rfl rfl (Nat.le_of_ble_eq_true rfl) dX7_digestTicket_139 rfl ?_
    refine g_i2l C dX7_digestTicket_142 ?_
    refine g_ladd C dX7_digestTicket_143 ?_
    refine g_lstore C (lv1 := [(4, .long ((31 * ((31 * ((31 * ((31 * ((31 * ((31 * ((31 * ((31 * ((31 * ((31 * z) + ((fX7_of μ t 2).toInt64))) + ((fX7_of μ t 0).toInt64))) + ((fX7_of μ t 1).toInt64))) + ((fX7_of μ t 3).toInt64))) + ((fX7_of μ t 4).toInt64))) + ((fX7_of μ t 5).toInt64))) + ((fX7_of μ t 7).toInt64))) + ((fX7_of μ t 8).toInt64))) + ((0 : Int32).toInt64))) + ((fX7_bits (fX7_blockers μ t)).toInt64))), (0, .ref (am 0)), (1, .long z), (3, .int (nI t))]) dX7_digestTicket_144 (by decide) rfl ?_
    refine g_ldc2 C q8_168 dX7_digestTicket_146 ?_
    refine g_ldc2 C q8_168 dX7_digestTicket_149 ?_
    refine g_lload C dX7_digestTicket_152 0 rfl ?_
    refine g_lmul C dX7_digestTicket_154 ?_
    refine g_aload_n C dX7_digestTicket_155 rfl 1 rfl ?_
    refine g_iload_n C dX7_digestTicket_156 rfl 3 rfl ?_
    refine g_callV C (cs1 := [wM E am μ]) (st1 := [.int (fX7_allNeeds μ t), .long (31 * ((31 * ((31 * ((31 * ((31 * ((31 * ((31 * ((31 * ((31 * ((31 * ((31 * z) + ((fX7_of μ t 2).toInt64))) + ((fX7_of μ t 0).toInt64))) + ((fX7_of μ t 1).toInt64))) + ((fX7_of μ t 3).toInt64))) + ((fX7_of μ t 4).toInt64))) + ((fX7_of μ t 5).toInt64))) + ((fX7_of μ t 7).toInt64))) + ((fX7_of μ t 8).toInt64))) + ((0 : Int32).toInt64))) + ((fX7_bits (fX7_blockers μ t)).toInt64))), .long 31]) [.int (nI t)] [0] (kX7_allNeeds l E am μ hv t (by omega)) caX7_allNeeds q6_183 rfl ⟨Nat.le_of_ble_eq_true rfl, Nat.le_of_ble_eq_true rfl⟩ ⟨Nat.zero_le _, Nat.zero_le _⟩ 0 0 rfl rfl rfl rfl (by decide) rfl rfl rfl rfl (Nat.le_of_ble_eq_true rfl) dX7_digestTicket_157 rfl ?_
    refine g_callS C (cs1 := [wM E am μ]) (st1 := [.int (fX7_bits (fX7_allNeeds μ t)), .long (31 * ((31 * ((31 * ((31 * ((31 * ((31 * ((31 * ((31 * ((31 * ((31 * ((31 * z) + ((fX7_of μ t 2).toInt64))) + ((fX7_of μ t 0).toInt64))) + ((fX7_of μ t 1).toInt64))) + ((fX7_of μ t 3).toInt64))) + ((fX7_of μ t 4).toInt64))) + ((fX7_of μ t 5).toInt64))) + ((fX7_of μ t 7).toInt64))) + ((fX7_of μ t 8).toInt64))) + ((0 : Int32).toInt64))) + ((fX7_bits (fX7_blockers μ t)).toInt64))), .long 31]) [.int (fX7_allNeeds μ t)] [] (kX7_bits l E (fX7_allNeeds μ t)) caX7_bits q6_191 rfl ⟨Nat.le_of_ble_eq_true rfl, Nat.le_of_ble_eq_true rfl⟩ ⟨Nat.zero_le _, Nat.zero_le _⟩ (by decide) rfl rfl rfl rfl (Nat.le_of_ble_eq_true rfl) dX7_digestTicket_160 rfl ?_
    refine g_i2l C dX7_digestTicket_163 ?_
    refine g_ladd C dX7_digestTicket_164 ?_
    refine g_lmul C dX7_digestTicket_165 ?_
    refine g_aload_n C dX7_digestTicket_166 rfl 1 rfl ?_
    refine g_iload_n C dX7_digestTicket_167 rfl 3 rfl ?_
    refine g_callV C (cs1 := [wM E am μ]) (st1 := [.int (fX7_allNeeds μ t), .long (31 * ((31 * ((31 * ((31 * ((31 * ((31 * ((31 * ((31 * ((31 * ((31 * ((31 * ((31 * z) + ((fX7_of μ t 2).toInt64))) + ((fX7_of μ t 0).toInt64))) + ((fX7_of μ t 1).toInt64))) + ((fX7_of μ t 3).toInt64))) + ((fX7_of μ t 4).toInt64))) + ((fX7_of μ t 5).toInt64))) + ((fX7_of μ t 7).toInt64))) + ((fX7_of μ t 8).toInt64))) + ((0 : Int32).toInt64))) + ((fX7_bits (fX7_blockers μ t)).toInt64))) + ((fX7_bits (fX7_allNeeds μ t)).toInt64)))]) [.int (nI t)] [0] (kX7_allNeeds l E am μ hv t (by omega)) caX7_allNeeds q6_183 rfl ⟨Nat.le_of_ble_eq_true rfl, Nat.le_of_ble_eq_true rfl⟩ ⟨Nat.zero_le _, Nat.zero_le _⟩ 0 0 rfl rfl rfl rfl (by decide) rfl rfl rfl rfl (Nat.le_of_ble_eq_true rfl) dX7_digestTicket_168 rfl ?_
    refine g_callS C (cs1 := [wM E am μ]) (st1 := [.int (fX7_bits (fX7_allNeeds μ t)), .long (31 * ((31 * ((31 * ((31 * ((31 * ((31 * ((31 * ((31 * ((31 * ((31 * ((31 * ((31 * z) + ((fX7_of μ t 2).toInt64))) + ((fX7_of μ t 0).toInt64))) + ((fX7_of μ t 1).toInt64))) + ((fX7_of μ t 3).toInt64))) + ((fX7_of μ t 4).toInt64))) + ((fX7_of μ t 5).toInt64))) + ((fX7_of μ t 7).toInt64))) + ((fX7_of μ t 8).toInt64))) + ((0 : Int32).toInt64))) + ((fX7_bits (fX7_blockers μ t)).toInt64))) + ((fX7_bits (fX7_allNeeds μ t)).toInt64)))]) [.int (fX7_allNeeds μ t)] [] (kX7_bits l E (fX7_allNeeds μ t)) caX7_bits q6_191 rfl ⟨Nat.le_of_ble_eq_true rfl, Nat.le_of_ble_eq_true rfl⟩ ⟨Nat.zero_le _, Nat.zero_le _⟩ (by decide) rfl rfl rfl rfl (Nat.le_of_ble_eq_true rfl) dX7_digestTicket_171 rfl ?_
    refine g_i2l C dX7_digestTicket_174 ?_
    refine g_ladd C dX7_digestTicket_175 ?_
    refine g_lstore C (lv1 := [(4, .long ((31 * ((31 * ((31 * ((31 * ((31 * ((31 * ((31 * ((31 * ((31 * ((31 * ((31 * ((31 * z) + ((fX7_of μ t 2).toInt64))) + ((fX7_of μ t 0).toInt64))) + ((fX7_of μ t 1).toInt64))) + ((fX7_of μ t 3).toInt64))) + ((fX7_of μ t 4).toInt64))) + ((fX7_of μ t 5).toInt64))) + ((fX7_of μ t 7).toInt64))) + ((fX7_of μ t 8).toInt64))) + ((0 : Int32).toInt64))) + ((fX7_bits (fX7_blockers μ t)).toInt64))) + ((fX7_bits (fX7_allNeeds μ t)).toInt64))) + ((fX7_bits (fX7_allNeeds μ t)).toInt64))), (0, .ref (am 0)), (1, .long z), (3, .int (nI t))]) dX7_digestTicket_176 (by decide) rfl ?_
    refine g_ldc2 C q8_168 dX7_digestTicket_178 ?_
    refine g_lload C dX7_digestTicket_181 0 rfl ?_
    refine g_lmul C dX7_digestTicket_183 ?_
    refine g_aload_n C dX7_digestTicket_184 rfl 1 rfl ?_
    refine g_iload_n C dX7_digestTicket_185 rfl 3 rfl ?_
    refine g_callV C (cs1 := [wM E am ((fX7_chainFrom μ t).2)]) (st1 := [.int ((fX7_chainFrom μ t).1), .long (31 * ((31 * ((31 * ((31 * ((31 * ((31 * ((31 * ((31 * ((31 * ((31 * ((31 * ((31 * ((31 * z) + ((fX7_of μ t 2).toInt64))) + ((fX7_of μ t 0).toInt64))) + ((fX7_of μ t 1).toInt64))) + ((fX7_of μ t 3).toInt64))) + ((fX7_of μ t 4).toInt64))) + ((fX7_of μ t 5).toInt64))) + ((fX7_of μ t 7).toInt64))) + ((fX7_of μ t 8).toInt64))) + ((0 : Int32).toInt64))) + ((fX7_bits (fX7_blockers μ t)).toInt64))) + ((fX7_bits (fX7_allNeeds μ t)).toInt64))) + ((fX7_bits (fX7_allNeeds μ t)).toInt64)))]) [.int (nI t)] [0] (kX7_chainFrom l E am μ hv ha t (by omega)) caX7_chainFrom q7_223 rfl ⟨Nat.le_of_ble_eq_true rfl, Nat.le_of_ble_eq_true rfl⟩ ⟨Nat.zero_le _, Nat.zero_le _⟩ 0 0 rfl rfl rfl rfl (by decide) rfl rfl rfl rfl (Nat.le_of_ble_eq_true rfl) dX7_digestTicket_186 rfl ?_
    refine g_i2l C dX7_digestTicket_189 ?_
    refine g_ladd C dX7_digestTicket_190 ?_
    refine g_lstore C (lv1 := [(4, .long ((31 * ((31 * ((31 * ((31 * ((31 * ((31 * ((31 * ((31 * ((31 * ((31 * ((31 * ((31 * ((31 * z) + ((fX7_of μ t 2).toInt64))) + ((fX7_of μ t 0).toInt64))) + ((fX7_of μ t 1).toInt64))) + ((fX7_of μ t 3).toInt64))) + ((fX7_of μ t 4).toInt64))) + ((fX7_of μ t 5).toInt64))) + ((fX7_of μ t 7).toInt64))) + ((fX7_of μ t 8).toInt64))) + ((0 : Int32).toInt64))) + ((fX7_bits (fX7_blockers μ t)).toInt64))) + ((fX7_bits (fX7_allNeeds μ t)).toInt64))) + ((fX7_bits (fX7_allNeeds μ t)).toInt64))) + (((fX7_chainFrom μ t).1).toInt64))), (0, .ref (am 0)), (1, .long z), (3, .int (nI t))]) dX7_digestTicket_191 (by decide) rfl ?_
    refine g_iconst C (v := 0) dX7_digestTicket_193 (by decide) ?_
    refine g_istore C (lv1 := [(6, .int 0), (4, .long ((31 * ((31 * ((31 * ((31 * ((31 * ((31 * ((31 * ((31 * ((31 * ((31 * ((31 * ((31 * ((31 * z) + ((fX7_of μ t 2).toInt64))) + ((fX7_of μ t 0).toInt64))) + ((fX7_of μ t 1).toInt64))) + ((fX7_of μ t 3).toInt64))) + ((fX7_of μ t 4).toInt64))) + ((fX7_of μ t 5).toInt64))) + ((fX7_of μ t 7).toInt64))) + ((fX7_of μ t 8).toInt64))) + ((0 : Int32).toInt64))) + ((fX7_bits (fX7_blockers μ t)).toInt64))) + ((fX7_bits (fX7_allNeeds μ t)).toInt64))) + ((fX7_bits (fX7_allNeeds μ t)).toInt64))) + (((fX7_chainFrom μ t).1).toInt64))), (0, .ref (am 0)), (1, .long z), (3, .int (nI t))]) dX7_digestTicket_194 (by decide) rfl ?_
    have hL_4 : ∀ d_2 i196 : Nat, i196 + d_2 = (cM μ) → G X 0 0 [wM E am ((fX7_chainFrom μ t).2)] [(0, .ref (am 0)), (1, .long z), (3, .int (nI t)), (4, .long (lpF (fX7_digestTicket_L196 μ z t) ((31 * ((31 * ((31 * ((31 * ((31 * ((31 * ((31 * ((31 * ((31 * ((31 * ((31 * ((31 * ((31 * z) + ((fX7_of μ t 2).toInt64))) + ((fX7_of μ t 0).toInt64))) + ((fX7_of μ t 1).toInt64))) + ((fX7_of μ t 3).toInt64))) + ((fX7_of μ t 4).toInt64))) + ((fX7_of μ t 5).toInt64))) + ((fX7_of μ t 7).toInt64))) + ((fX7_of μ t 8).toInt64))) + ((0 : Int32).toInt64))) + ((fX7_bits (fX7_blockers μ t)).toInt64))) + ((fX7_bits (fX7_allNeeds μ t)).toInt64))) + ((fX7_bits (fX7_allNeeds μ t)).toInt64))) + (((fX7_chainFrom μ t).1).toInt64)) i196)), (6, .int (nI i196))] 196 [] := by
      intro d_2
      induction d_2 with
      | zero =>
        intro i196 hi_3
        obtain rfl : i196 = (cM μ) := by omega
        refine g_iload C dX7_digestTicket_196 4 rfl ?_
        refine g_aload_n C dX7_digestTicket_198 rfl 0 rfl ?_
        refine g_getf C (T := TX7) (N := 15) 0 0 rfl rfl rfl inX7 1 (by decide) q6_71 rfl dX7_digestTicket_199 ?_
        refine g_iconst C (v := 0) dX7_digestTicket_202 (by decide) ?_
        refine g_ialdn C 0 1 0 rfl rfl rfl (by decide) (by decide) dX7_digestTicket_203 ?_
        refine g_icmp_ge C 238 dX7_digestTicket_204 (by decide) (fun c_6 => ?_) (fun c_6 => ?_)
        · skip
          refine g_lload C dX7_digestTicket_238 3 rfl ?_
          have e_7 : fX7_digestTicket μ z t = ((lpF (fX7_digestTicket_L196 μ z t) ((31 * ((31 * ((31 * ((31 * ((31 * ((31 * ((31 * ((31 * ((31 * ((31 * ((31 * ((31 * ((31 * z) + ((fX7_of μ t 2).toInt64))) + ((fX7_of μ t 0).toInt64))) + ((fX7_of μ t 1).toInt64))) + ((fX7_of μ t 3).toInt64))) + ((fX7_of μ t 4).toInt64))) + ((fX7_of μ t 5).toInt64))) + ((fX7_of μ t 7).toInt64))) + ((fX7_of μ t 8).toInt64))) + ((0 : Int32).toInt64))) + ((fX7_bits (fX7_blockers μ t)).toInt64))) + ((fX7_bits (fX7_allNeeds μ t)).toInt64))) + ((fX7_bits (fX7_allNeeds μ t)).toInt64))) + (((fX7_chainFrom μ t).1).toInt64)) (cM μ)), (fX7_chainFrom μ t).2) := by rw [fX7_digestTicket]; rw [if_pos c_1]
          exact g_lret C hE (by rw [e_7]) (by rw [e_7]) dX7_digestTicket_240
        · exact absurd (lc_le rfl (by rw [(cf_x8 μ t).2 0 (by decide)]; exact hc0) (by omega) (by omega)) c_6
      | succ d_2 ih_5 =>
        intro i196 hi_3
        refine g_iload C dX7_digestTicket_196 4 rfl ?_
        refine g_aload_n C dX7_digestTicket_198 rfl 0 rfl ?_
        refine g_getf C (T := TX7) (N := 15) 0 0 rfl rfl rfl inX7 1 (by decide) q6_71 rfl dX7_digestTicket_199 ?_
        refine g_iconst C (v := 0) dX7_digestTicket_202 (by decide) ?_
        refine g_ialdn C 0 1 0 rfl rfl rfl (by decide) (by decide) dX7_digestTicket_203 ?_
        refine g_icmp_ge C 238 dX7_digestTicket_204 (by decide) (fun c_8 => ?_) (fun c_8 => ?_)
        · exact absurd c_8 (lc_nle rfl (by rw [(cf_x8 μ t).2 0 (by decide)]; exact hc0) (by omega) (by omega))
        · skip
          refine g_ldc2 C q8_168 dX7_digestTicket_207 ?_
          refine g_lload C dX7_digestTicket_210 3 rfl ?_
          refine g_lmul C dX7_digestTicket_212 ?_
          refine g_aload_n C dX7_digestTicket_213 rfl 0 rfl ?_
          refine g_iload_n C dX7_digestTicket_214 rfl 2 rfl ?_
          refine g_iload C dX7_digestTicket_215 4 rfl ?_
          refine g_callV C (cs1 := [wM E am ((fX7_chainFrom μ t).2)]) (st1 := [.int (b2i (fX7_needsIt ((fX7_chainFrom μ t).2) t (nI i196))), .long (31 * (lpF (fX7_digestTicket_L196 μ z t) ((31 * ((31 * ((31 * ((31 * ((31 * ((31 * ((31 * ((31 * ((31 * ((31 * ((31 * ((31 * ((31 * z) + ((fX7_of μ t 2).toInt64))) + ((fX7_of μ t 0).toInt64))) + ((fX7_of μ t 1).toInt64))) + ((fX7_of μ t 3).toInt64))) + ((fX7_of μ t 4).toInt64))) + ((fX7_of μ t 5).toInt64))) + ((fX7_of μ t 7).toInt64))) + ((fX7_of μ t 8).toInt64))) + ((0 : Int32).toInt64))) + ((fX7_bits (fX7_blockers μ t)).toInt64))) + ((fX7_bits (fX7_allNeeds μ t)).toInt64))) + ((fX7_bits (fX7_allNeeds μ t)).toInt64))) + (((fX7_chainFrom μ t).1).toInt64)) i196))]) [.int (nI t), .int (nI i196)] [0] (kX7_needsIt l E am ((fX7_chainFrom μ t).2) t (by omega) (nI i196)) caX7_needsIt q6_179 rfl ⟨Nat.le_of_ble_eq_true rfl, Nat.le_of_ble_eq_true rfl⟩ ⟨Nat.zero_le _, Nat.zero_le _⟩ 0 0 rfl rfl rfl rfl (by decide) rfl rfl rfl rfl (Nat.le_of_ble_eq_true rfl) dX7_digestTicket_217 rfl ?_
          refine g_ifB_eq C 227 dX7_digestTicket_220 (by decide) (fun c_9 => ?_) (fun c_9 => ?_)
          · skip
            refine g_iconst C (v := 0) dX7_digestTicket_227 (by decide) ?_
            refine g_i2l C dX7_digestTicket_228 ?_
            refine g_ladd C dX7_digestTicket_229 ?_
            refine g_lstore C (lv1 := [(4, .long ((31 * (lpF (fX7_digestTicket_L196 μ z t) ((31 * ((31 * ((31 * ((31 * ((31 * ((31 * ((31 * ((31 * ((31 * ((31 * ((31 * ((31 * ((31 * z) + ((fX7_of μ t 2).toInt64))) + ((fX7_of μ t 0).toInt64))) + ((fX7_of μ t 1).toInt64))) + ((fX7_of μ t 3).toInt64))) + ((fX7_of μ t 4).toInt64))) + ((fX7_of μ t 5).toInt64))) + ((fX7_of μ t 7).toInt64))) + ((fX7_of μ t 8).toInt64))) + ((0 : Int32).toInt64))) + ((fX7_bits (fX7_blockers μ t)).toInt64))) + ((fX7_bits (fX7_allNeeds μ t)).toInt64))) + ((fX7_bits (fX7_allNeeds μ t)).toInt64))) + (((fX7_chainFrom μ t).1).toInt64)) i196)) + ((0 : Int32).toInt64))), (0, .ref (am 0)), (1, .long z), (3, .int (nI t)), (6, .int (nI i196))]) dX7_digestTicket_230 (by decide) rfl ?_
            refine g_iinc C (v := nI (i196 + 1)) (lv1 := [(6, .int (nI (i196 + 1))), (4, .long ((31 * (lpF (fX7_digestTicket_L196 μ z t) ((31 * ((31 * ((31 * ((31 * ((31 * ((31 * ((31 * ((31 * ((31 * ((31 * ((31 * ((31 * ((31 * z) + ((fX7_of μ t 2).toInt64))) + ((fX7_of μ t 0).toInt64))) + ((fX7_of μ t 1).toInt64))) + ((fX7_of μ t 3).toInt64))) + ((fX7_of μ t 4).toInt64))) + ((fX7_of μ t 5).toInt64))) + ((fX7_of μ t 7).toInt64))) + ((fX7_of μ t 8).toInt64))) + ((0 : Int32).toInt64))) + ((fX7_bits (fX7_blockers μ t)).toInt64))) + ((fX7_bits (fX7_allNeeds μ t)).toInt64))) + ((fX7_bits (fX7_allNeeds μ t)).toInt64))) + (((fX7_chainFrom μ t).1).toInt64)) i196)) + ((0 : Int32).toInt64))), (0, .ref (am 0)), (1, .long z), (3, .int (nI t))]) dX7_digestTicket_232 4 rfl (nI_1 i196) (by decide) rfl ?_
            refine g_goto C 196 dX7_digestTicket_235 (by decide) ?_
            have e_10 : (lpF (fX7_digestTicket_L196 μ z t) ((31 * ((31 * ((31 * ((31 * ((31 * ((31 * ((31 * ((31 * ((31 * ((31 * ((31 * ((31 * ((31 * z) + ((fX7_of μ t 2).toInt64))) + ((fX7_of μ t 0).toInt64))) + ((fX7_of μ t 1).toInt64))) + ((fX7_of μ t 3).toInt64))) + ((fX7_of μ t 4).toInt64))) + ((fX7_of μ t 5).toInt64))) + ((fX7_of μ t 7).toInt64))) + ((fX7_of μ t 8).toInt64))) + ((0 : Int32).toInt64))) + ((fX7_bits (fX7_blockers μ t)).toInt64))) + ((fX7_bits (fX7_allNeeds μ t)).toInt64))) + ((fX7_bits (fX7_allNeeds μ t)).toInt64))) + (((fX7_chainFrom μ t).1).toInt64)) (i196 + 1)) = (31 * (lpF (fX7_digestTicket_L196 μ z t) ((31 * ((31 * ((31 * ((31 * ((31 * ((31 * ((31 * ((31 * ((31 * ((31 * ((31 * ((31 * ((31 * z) + ((fX7_of μ t 2).toInt64))) + ((fX7_of μ t 0).toInt64))) + ((fX7_of μ t 1).toInt64))) + ((fX7_of μ t 3).toInt64))) + ((fX7_of μ t 4).toInt64))) + ((fX7_of μ t 5).toInt64))) + ((fX7_of μ t 7).toInt64))) + ((fX7_of μ t 8).toInt64))) + ((0 : Int32).toInt64))) + ((fX7_bits (fX7_blockers μ t)).toInt64))) + ((fX7_bits (fX7_allNeeds μ t)).toInt64))) + ((fX7_bits (fX7_allNeeds μ t)).toInt64))) + (((fX7_chainFrom μ t).1).toInt64)) i196)) + ((0 : Int32).toInt64) := by
              rw [lpF_1, fX7_digestTicket_L196]; rw [if_neg (ne_true_of_eq_false c_9)]
            have h_11 := ih_5 (i196 + 1) (by omega)
            rw [e_10] at h_11
            exact g_sub [2, 3, 4, 1, 0] rfl h_11
          · skip
            refine g_iconst C (v := 1) dX7_digestTicket_223 (by decide) ?_
            refine g_goto C 228 dX7_digestTicket_224 (by decide) ?_
            refine g_i2l C dX7_digestTicket_228 ?_
            refine g_ladd C dX7_digestTicket_229 ?_
            refine g_lstore C (lv1 := [(4, .long ((31 * (lpF (fX7_digestTicket_L196 μ z t) ((31 * ((31 * ((31 * ((31 * ((31 * ((31 * ((31 * ((31 * ((31 * ((31 * ((31 * ((31 * ((31 * z) + ((fX7_of μ t 2).toInt64))) + ((fX7_of μ t 0).toInt64))) + ((fX7_of μ t 1).toInt64))) + ((fX7_of μ t 3).toInt64))) + ((fX7_of μ t 4).toInt64))) + ((fX7_of μ t 5).toInt64))) + ((fX7_of μ t 7).toInt64))) + ((fX7_of μ t 8).toInt64))) + ((0 : Int32).toInt64))) + ((fX7_bits (fX7_blockers μ t)).toInt64))) + ((fX7_bits (fX7_allNeeds μ t)).toInt64))) + ((fX7_bits (fX7_allNeeds μ t)).toInt64))) + (((fX7_chainFrom μ t).1).toInt64)) i196)) + ((1 : Int32).toInt64))), (0, .ref (am 0)), (1, .long z), (3, .int (nI t)), (6, .int (nI i196))]) dX7_digestTicket_230 (by decide) rfl ?_
            refine g_iinc C (v := nI (i196 + 1)) (lv1 := [(6, .int (nI (i196 + 1))), (4, .long ((31 * (lpF (fX7_digestTicket_L196 μ z t) ((31 * ((31 * ((31 * ((31 * ((31 * ((31 * ((31 * ((31 * ((31 * ((31 * ((31 * ((31 * ((31 * z) + ((fX7_of μ t 2).toInt64))) + ((fX7_of μ t 0).toInt64))) + ((fX7_of μ t 1).toInt64))) + ((fX7_of μ t 3).toInt64))) + ((fX7_of μ t 4).toInt64))) + ((fX7_of μ t 5).toInt64))) + ((fX7_of μ t 7).toInt64))) + ((fX7_of μ t 8).toInt64))) + ((0 : Int32).toInt64))) + ((fX7_bits (fX7_blockers μ t)).toInt64))) + ((fX7_bits (fX7_allNeeds μ t)).toInt64))) + ((fX7_bits (fX7_allNeeds μ t)).toInt64))) + (((fX7_chainFrom μ t).1).toInt64)) i196)) + ((1 : Int32).toInt64))), (0, .ref (am 0)), (1, .long z), (3, .int (nI t))]) dX7_digestTicket_232 4 rfl (nI_1 i196) (by decide) rfl ?_
            refine g_goto C 196 dX7_digestTicket_235 (by decide) ?_
            have e_12 : (lpF (fX7_digestTicket_L196 μ z t) ((31 * ((31 * ((31 * ((31 * ((31 * ((31 * ((31 * ((31 * ((31 * ((31 * ((31 * ((31 * ((31 * z) + ((fX7_of μ t 2).toInt64))) + ((fX7_of μ t 0).toInt64))) + ((fX7_of μ t 1).toInt64))) + ((fX7_of μ t 3).toInt64))) + ((fX7_of μ t 4).toInt64))) + ((fX7_of μ t 5).toInt64))) + ((fX7_of μ t 7).toInt64))) + ((fX7_of μ t 8).toInt64))) + ((0 : Int32).toInt64))) + ((fX7_bits (fX7_blockers μ t)).toInt64))) + ((fX7_bits (fX7_allNeeds μ t)).toInt64))) + ((fX7_bits (fX7_allNeeds μ t)).toInt64))) + (((fX7_chainFrom μ t).1).toInt64)) (i196 + 1)) = (31 * (lpF (fX7_digestTicket_L196 μ z t) ((31 * ((31 * ((31 * ((31 * ((31 * ((31 * ((31 * ((31 * ((31 * ((31 * ((31 * ((31 * ((31 * z) + ((fX7_of μ t 2).toInt64))) + ((fX7_of μ t 0).toInt64))) + ((fX7_of μ t 1).toInt64))) + ((fX7_of μ t 3).toInt64))) + ((fX7_of μ t 4).toInt64))) + ((fX7_of μ t 5).toInt64))) + ((fX7_of μ t 7).toInt64))) + ((fX7_of μ t 8).toInt64))) + ((0 : Int32).toInt64))) + ((fX7_bits (fX7_blockers μ t)).toInt64))) + ((fX7_bits (fX7_allNeeds μ t)).toInt64))) + ((fX7_bits (fX7_allNeeds μ t)).toInt64))) + (((fX7_chainFrom μ t).1).toInt64)) i196)) + ((1 : Int32).toInt64) := by
              rw [lpF_1, fX7_digestTicket_L196]; rw [if_pos c_9]
            have h_13 := ih_5 (i196 + 1) (by omega)
            rw [e_12] at h_13
            exact g_sub [2, 3, 4, 1, 0] rfl h_13
    refine g_sub [2, 3, 4, 1, 0] (lv1 := [(0, .ref (am 0)), (1, .long z), (3, .int (nI t)), (4, .long ((31 * ((31 * ((31 * ((31 * ((31 * ((31 * ((31 * ((31 * ((31 * ((31 * ((31 * ((31 * ((31 * z) + ((fX7_of μ t 2).toInt64))) + ((fX7_of μ t 0).toInt64))) + ((fX7_of μ t 1).toInt64))) + ((fX7_of μ t 3).toInt64))) + ((fX7_of μ t 4).toInt64))) + ((fX7_of μ t 5).toInt64))) + ((fX7_of μ t 7).toInt64))) + ((fX7_of μ t 8).toInt64))) + ((0 : Int32).toInt64))) + ((fX7_bits (fX7_blockers μ t)).toInt64))) + ((fX7_bits (fX7_allNeeds μ t)).toInt64))) + ((fX7_bits (fX7_allNeeds μ t)).toInt64))) + (((fX7_chainFrom μ t).1).toInt64))), (6, .int 0)]) rfl ?_
    exact hL_4 (cM μ) 0 (by omega)
  · skip
    refine g_iconst C (v := 1) dX7_digestTicket_126 (by decide) ?_
    refine g_goto C 131 dX7_digestTicket_127 (by decide) ?_
    refine g_i2l C dX7_digestTicket_131 ?_
    refine g_ladd C dX7_digestTicket_132 ?_
    refine g_lmul C dX7_digestTicket_133 ?_
    refine g_aload_n C dX7_digestTicket_134 rfl 1 rfl ?_
    refine g_iload_n C dX7_digestTicket_135 rfl 3 rfl ?_
    refine g_callV C (cs1 := [wM E am μ]) (st1 := [.int (fX7_blockers μ t), .long (31 * ((31 * ((31 * ((31 * ((31 * ((31 * ((31 * ((31 * ((31 * ((31 * z) + ((fX7_of μ t 2).toInt64))) + ((fX7_of μ t 0).toInt64))) + ((fX7_of μ t 1).toInt64))) + ((fX7_of μ t 3).toInt64))) + ((fX7_of μ t 4).toInt64))) + ((fX7_of μ t 5).toInt64))) + ((fX7_of μ t 7).toInt64))) + ((fX7_of μ t 8).toInt64))) + ((1 : Int32).toInt64)))]) [.int (nI t)] [0] (kX7_blockers l E am μ hv t (by omega)) caX7_blockers q7_32 rfl ⟨Nat.le_of_ble_eq_true rfl, Nat.le_of_ble_eq_true rfl⟩ ⟨Nat.zero_le _, Nat.zero_le _⟩ 0 0 rfl rfl rfl rfl (by decide) rfl rfl rfl rfl (Nat.le_of_ble_eq_true rfl) dX7_digestTicket_136 rfl ?_
    refine g_callS C (cs1 := [wM E am μ]) (st1 := [.int (fX7_bits (fX7_blockers μ t)), .long (31 * ((31 * ((31 * ((31 * ((31 * ((31 * ((31 * ((31 * ((31 * ((31 * z) + ((fX7_of μ t 2).toInt64))) + ((fX7_of μ t 0).toInt64))) + ((fX7_of μ t 1).toInt64))) + ((fX7_of μ t 3).toInt64))) + ((fX7_of μ t 4).toInt64))) + ((fX7_of μ t 5).toInt64))) + ((fX7_of μ t 7).toInt64))) + ((fX7_of μ t 8).toInt64))) + ((1 : Int32).toInt64)))]) [.int (fX7_blockers μ t)] [] (kX7_bits l E (fX7_blockers μ t)) caX7_bits q6_191 rfl ⟨Nat.le_of_ble_eq_true rfl, Nat.le_of_ble_eq_true rfl⟩ ⟨Nat.zero_le _, Nat.zero_le _⟩ (by decide) rfl rfl rfl rfl (Nat.le_of_ble_eq_true rfl) dX7_digestTicket_139 rfl ?_
    refine g_i2l C dX7_digestTicket_142 ?_
    refine g_ladd C dX7_digestTicket_143 ?_
    refine g_lstore C (lv1 := [(4, .long ((31 * ((31 * ((31 * ((31 * ((31 * ((31 * ((31 * ((31 * ((31 * ((31 * z) + ((fX7_of μ t 2).toInt64))) + ((fX7_of μ t 0).toInt64))) + ((fX7_of μ t 1).toInt64))) + ((fX7_of μ t 3).toInt64))) + ((fX7_of μ t 4).toInt64))) + ((fX7_of μ t 5).toInt64))) + ((fX7_of μ t 7).toInt64))) + ((fX7_of μ t 8).toInt64))) + ((1 : Int32).toInt64))) + ((fX7_bits (fX7_blockers μ t)).toInt64))), (0, .ref (am 0)), (1, .long z), (3, .int (nI t))]) dX7_digestTicket_144 (by decide) rfl ?_
    refine g_ldc2 C q8_168 dX7_digestTicket_146 ?_
    refine g_ldc2 C q8_168 dX7_digestTicket_149 ?_
    refine g_lload C dX7_digestTicket_152 0 rfl ?_
    refine g_lmul C dX7_digestTicket_154 ?_
    refine g_aload_n C dX7_digestTicket_155 rfl 1 rfl ?_
    refine g_iload_n C dX7_digestTicket_156 rfl 3 rfl ?_
    refine g_callV C (cs1 := [wM E am μ]) (st1 := [.int (fX7_allNeeds μ t), .long (31 * ((31 * ((31 * ((31 * ((31 * ((31 * ((31 * ((31 * ((31 * ((31 * ((31 * z) + ((fX7_of μ t 2).toInt64))) + ((fX7_of μ t 0).toInt64))) + ((fX7_of μ t 1).toInt64))) + ((fX7_of μ t 3).toInt64))) + ((fX7_of μ t 4).toInt64))) + ((fX7_of μ t 5).toInt64))) + ((fX7_of μ t 7).toInt64))) + ((fX7_of μ t 8).toInt64))) + ((1 : Int32).toInt64))) + ((fX7_bits (fX7_blockers μ t)).toInt64))), .long 31]) [.int (nI t)] [0] (kX7_allNeeds l E am μ hv t (by omega)) caX7_allNeeds q6_183 rfl ⟨Nat.le_of_ble_eq_true rfl, Nat.le_of_ble_eq_true rfl⟩ ⟨Nat.zero_le _, Nat.zero_le _⟩ 0 0 rfl rfl rfl rfl (by decide) rfl rfl rfl rfl (Nat.le_of_ble_eq_true rfl) dX7_digestTicket_157 rfl ?_
    refine g_callS C (cs1 := [wM E am μ]) (st1 := [.int (fX7_bits (fX7_allNeeds μ t)), .long (31 * ((31 * ((31 * ((31 * ((31 * ((31 * ((31 * ((31 * ((31 * ((31 * ((31 * z) + ((fX7_of μ t 2).toInt64))) + ((fX7_of μ t 0).toInt64))) + ((fX7_of μ t 1).toInt64))) + ((fX7_of μ t 3).toInt64))) + ((fX7_of μ t 4).toInt64))) + ((fX7_of μ t 5).toInt64))) + ((fX7_of μ t 7).toInt64))) + ((fX7_of μ t 8).toInt64))) + ((1 : Int32).toInt64))) + ((fX7_bits (fX7_blockers μ t)).toInt64))), .long 31]) [.int (fX7_allNeeds μ t)] [] (kX7_bits l E (fX7_allNeeds μ t)) caX7_bits q6_191 rfl ⟨Nat.le_of_ble_eq_true rfl, Nat.le_of_ble_eq_true rfl⟩ ⟨Nat.zero_le _, Nat.zero_le _⟩ (by decide) rfl rfl rfl rfl (Nat.le_of_ble_eq_true rfl) dX7_digestTicket_160 rfl ?_
    refine g_i2l C dX7_digestTicket_163 ?_
    refine g_ladd C dX7_digestTicket_164 ?_
    refine g_lmul C dX7_digestTicket_165 ?_
    refine g_aload_n C dX7_digestTicket_166 rfl 1 rfl ?_
    refine g_iload_n C dX7_digestTicket_167 rfl 3 rfl ?_
    refine g_callV C (cs1 := [wM E am μ]) (st1 := [.int (fX7_allNeeds μ t), .long (31 * ((31 * ((31 * ((31 * ((31 * ((31 * ((31 * ((31 * ((31 * ((31 * ((31 * ((31 * z) + ((fX7_of μ t 2).toInt64))) + ((fX7_of μ t 0).toInt64))) + ((fX7_of μ t 1).toInt64))) + ((fX7_of μ t 3).toInt64))) + ((fX7_of μ t 4).toInt64))) + ((fX7_of μ t 5).toInt64))) + ((fX7_of μ t 7).toInt64))) + ((fX7_of μ t 8).toInt64))) + ((1 : Int32).toInt64))) + ((fX7_bits (fX7_blockers μ t)).toInt64))) + ((fX7_bits (fX7_allNeeds μ t)).toInt64)))]) [.int (nI t)] [0] (kX7_allNeeds l E am μ hv t (by omega)) caX7_allNeeds q6_183 rfl ⟨Nat.le_of_ble_eq_true rfl, Nat.le_of_ble_eq_true rfl⟩ ⟨Nat.zero_le _, Nat.zero_le _⟩ 0 0 rfl rfl rfl rfl (by decide) rfl rfl rfl rfl (Nat.le_of_ble_eq_true rfl) dX7_digestTicket_168 rfl ?_
    refine g_callS C (cs1 := [wM E am μ]) (st1 := [.int (fX7_bits (fX7_allNeeds μ t)), .long (31 * ((31 * ((31 * ((31 * ((31 * ((31 * ((31 * ((31 * ((31 * ((31 * ((31 * ((31 * z) + ((fX7_of μ t 2).toInt64))) + ((fX7_of μ t 0).toInt64))) + ((fX7_of μ t 1).toInt64))) + ((fX7_of μ t 3).toInt64))) + ((fX7_of μ t 4).toInt64))) + ((fX7_of μ t 5).toInt64))) + ((fX7_of μ t 7).toInt64))) + ((fX7_of μ t 8).toInt64))) + ((1 : Int32).toInt64))) + ((fX7_bits (fX7_blockers μ t)).toInt64))) + ((fX7_bits (fX7_allNeeds μ t)).toInt64)))]) [.int (fX7_allNeeds μ t)] [] (kX7_bits l E (fX7_allNeeds μ t)) caX7_bits q6_191 rfl ⟨Nat.le_of_ble_eq_true rfl, Nat.le_of_ble_eq_true rfl⟩ ⟨Nat.zero_le _, Nat.zero_le _⟩ (by decide) rfl rfl rfl rfl (Nat.le_of_ble_eq_true rfl) dX7_digestTicket_171 rfl ?_
    refine g_i2l C dX7_digestTicket_174 ?_
    refine g_ladd C dX7_digestTicket_175 ?_
    refine g_lstore C (lv1 := [(4, .long ((31 * ((31 * ((31 * ((31 * ((31 * ((31 * ((31 * ((31 * ((31 * ((31 * ((31 * ((31 * z) + ((fX7_of μ t 2).toInt64))) + ((fX7_of μ t 0).toInt64))) + ((fX7_of μ t 1).toInt64))) + ((fX7_of μ t 3).toInt64))) + ((fX7_of μ t 4).toInt64))) + ((fX7_of μ t 5).toInt64))) + ((fX7_of μ t 7).toInt64))) + ((fX7_of μ t 8).toInt64))) + ((1 : Int32).toInt64))) + ((fX7_bits (fX7_blockers μ t)).toInt64))) + ((fX7_bits (fX7_allNeeds μ t)).toInt64))) + ((fX7_bits (fX7_allNeeds μ t)).toInt64))), (0, .ref (am 0)), (1, .long z), (3, .int (nI t))]) dX7_digestTicket_176 (by decide) rfl ?_
    refine g_ldc2 C q8_168 dX7_digestTicket_178 ?_
    refine g_lload C dX7_digestTicket_181 0 rfl ?_
    refine g_lmul C dX7_digestTicket_183 ?_
    refine g_aload_n C dX7_digestTicket_184 rfl 1 rfl ?_
    refine g_iload_n C dX7_digestTicket_185 rfl 3 rfl ?_
    refine g_callV C (cs1 := [wM E am ((fX7_chainFrom μ t).2)]) (st1 := [.int ((fX7_chainFrom μ t).1), .long (31 * ((31 * ((31 * ((31 * ((31 * ((31 * ((31 * ((31 * ((31 * ((31 * ((31 * ((31 * ((31 * z) + ((fX7_of μ t 2).toInt64))) + ((fX7_of μ t 0).toInt64))) + ((fX7_of μ t 1).toInt64))) + ((fX7_of μ t 3).toInt64))) + ((fX7_of μ t 4).toInt64))) + ((fX7_of μ t 5).toInt64))) + ((fX7_of μ t 7).toInt64))) + ((fX7_of μ t 8).toInt64))) + ((1 : Int32).toInt64))) + ((fX7_bits (fX7_blockers μ t)).toInt64))) + ((fX7_bits (fX7_allNeeds μ t)).toInt64))) + ((fX7_bits (fX7_allNeeds μ t)).toInt64)))]) [.int (nI t)] [0] (kX7_chainFrom l E am μ hv ha t (by omega)) caX7_chainFrom q7_223 rfl ⟨Nat.le_of_ble_eq_true rfl, Nat.le_of_ble_eq_true rfl⟩ ⟨Nat.zero_le _, Nat.zero_le _⟩ 0 0 rfl rfl rfl rfl (by decide) rfl rfl rfl rfl (Nat.le_of_ble_eq_true rfl) dX7_digestTicket_186 rfl ?_
    refine g_i2l C dX7_digestTicket_189 ?_
    refine g_ladd C dX7_digestTicket_190 ?_
    refine g_lstore C (lv1 := [(4, .long ((31 * ((31 * ((31 * ((31 * ((31 * ((31 * ((31 * ((31 * ((31 * ((31 * ((31 * ((31 * ((31 * z) + ((fX7_of μ t 2).toInt64))) + ((fX7_of μ t 0).toInt64))) + ((fX7_of μ t 1).toInt64))) + ((fX7_of μ t 3).toInt64))) + ((fX7_of μ t 4).toInt64))) + ((fX7_of μ t 5).toInt64))) + ((fX7_of μ t 7).toInt64))) + ((fX7_of μ t 8).toInt64))) + ((1 : Int32).toInt64))) + ((fX7_bits (fX7_blockers μ t)).toInt64))) + ((fX7_bits (fX7_allNeeds μ t)).toInt64))) + ((fX7_bits (fX7_allNeeds μ t)).toInt64))) + (((fX7_chainFrom μ t).1).toInt64))), (0, .ref (am 0)), (1, .long z), (3, .int (nI t))]) dX7_digestTicket_191 (by decide) rfl ?_
    refine g_iconst C (v := 0) dX7_digestTicket_193 (by decide) ?_
    refine g_istore C (lv1 := [(6, .int 0), (4, .long ((31 * ((31 * ((31 * ((31 * ((31 * ((31 * ((31 * ((31 * ((31 * ((31 * ((31 * ((31 * ((31 * z) + ((fX7_of μ t 2).toInt64))) + ((fX7_of μ t 0).toInt64))) + ((fX7_of μ t 1).toInt64))) + ((fX7_of μ t 3).toInt64))) + ((fX7_of μ t 4).toInt64))) + ((fX7_of μ t 5).toInt64))) + ((fX7_of μ t 7).toInt64))) + ((fX7_of μ t 8).toInt64))) + ((1 : Int32).toInt64))) + ((fX7_bits (fX7_blockers μ t)).toInt64))) + ((fX7_bits (fX7_allNeeds μ t)).toInt64))) + ((fX7_bits (fX7_allNeeds μ t)).toInt64))) + (((fX7_chainFrom μ t).1).toInt64))), (0, .ref (am 0)), (1, .long z), (3, .int (nI t))]) dX7_digestTicket_194 (by decide) rfl ?_
    have hL_16 : ∀ d_14 i196 : Nat, i196 + d_14 = (cM μ) → G X 0 0 [wM E am ((fX7_chainFrom μ t).2)] [(0, .ref (am 0)), (1, .long z), (3, .int (nI t)), (4, .long (lpF (fX7_digestTicket_L196 μ z t) ((31 * ((31 * ((31 * ((31 * ((31 * ((31 * ((31 * ((31 * ((31 * ((31 * ((31 * ((31 * ((31 * z) + ((fX7_of μ t 2).toInt64))) + ((fX7_of μ t 0).toInt64))) + ((fX7_of μ t 1).toInt64))) + ((fX7_of μ t 3).toInt64))) + ((fX7_of μ t 4).toInt64))) + ((fX7_of μ t 5).toInt64))) + ((fX7_of μ t 7).toInt64))) + ((fX7_of μ t 8).toInt64))) + ((1 : Int32).toInt64))) + ((fX7_bits (fX7_blockers μ t)).toInt64))) + ((fX7_bits (fX7_allNeeds μ t)).toInt64))) + ((fX7_bits (fX7_allNeeds μ t)).toInt64))) + (((fX7_chainFrom μ t).1).toInt64)) i196)), (6, .int (nI i196))] 196 [] := by
      intro d_14
      induction d_14 with
      | zero =>
        intro i196 hi_15
        obtain rfl : i196 = (cM μ) := by omega
        refine g_iload C dX7_digestTicket_196 4 rfl ?_
        refine g_aload_n C dX7_digestTicket_198 rfl 0 rfl ?_
        refine g_getf C (T := TX7) (N := 15) 0 0 rfl rfl rfl inX7 1 (by decide) q6_71 rfl dX7_digestTicket_199 ?_
        refine g_iconst C (v := 0) dX7_digestTicket_202 (by decide) ?_
        refine g_ialdn C 0 1 0 rfl rfl rfl (by decide) (by decide) dX7_digestTicket_203 ?_
        refine g_icmp_ge C 238 dX7_digestTicket_204 (by decide) (fun c_18 => ?_) (fun c_18 => ?_)
        · skip
          refine g_lload C dX7_digestTicket_238 3 rfl ?_
          have e_19 : fX7_digestTicket μ z t = ((lpF (fX7_digestTicket_L196 μ z t) ((31 * ((31 * ((31 * ((31 * ((31 * ((31 * ((31 * ((31 * ((31 * ((31 * ((31 * ((31 * ((31 * z) + ((fX7_of μ t 2).toInt64))) + ((fX7_of μ t 0).toInt64))) + ((fX7_of μ t 1).toInt64))) + ((fX7_of μ t 3).toInt64))) + ((fX7_of μ t 4).toInt64))) + ((fX7_of μ t 5).toInt64))) + ((fX7_of μ t 7).toInt64))) + ((fX7_of μ t 8).toInt64))) + ((1 : Int32).toInt64))) + ((fX7_bits (fX7_blockers μ t)).toInt64))) + ((fX7_bits (fX7_allNeeds μ t)).toInt64))) + ((fX7_bits (fX7_allNeeds μ t)).toInt64))) + (((fX7_chainFrom μ t).1).toInt64)) (cM μ)), (fX7_chainFrom μ t).2) := by rw [fX7_digestTicket]; rw [if_neg c_1]
          exact g_lret C hE (by rw [e_19]) (by rw [e_19]) dX7_digestTicket_240
        · exact absurd (lc_le rfl (by rw [(cf_x8 μ t).2 0 (by decide)]; exact hc0) (by omega) (by omega)) c_18
      | succ d_14 ih_17 =>
        intro i196 hi_15
        refine g_iload C dX7_digestTicket_196 4 rfl ?_
        refine g_aload_n C dX7_digestTicket_198 rfl 0 rfl ?_
        refine g_getf C (T := TX7) (N := 15) 0 0 rfl rfl rfl inX7 1 (by decide) q6_71 rfl dX7_digestTicket_199 ?_
        refine g_iconst C (v := 0) dX7_digestTicket_202 (by decide) ?_
        refine g_ialdn C 0 1 0 rfl rfl rfl (by decide) (by decide) dX7_digestTicket_203 ?_
        refine g_icmp_ge C 238 dX7_digestTicket_204 (by decide) (fun c_20 => ?_) (fun c_20 => ?_)
        · exact absurd c_20 (lc_nle rfl (by rw [(cf_x8 μ t).2 0 (by decide)]; exact hc0) (by omega) (by omega))
        · skip
          refine g_ldc2 C q8_168 dX7_digestTicket_207 ?_
          refine g_lload C dX7_digestTicket_210 3 rfl ?_
          refine g_lmul C dX7_digestTicket_212 ?_
          refine g_aload_n C dX7_digestTicket_213 rfl 0 rfl ?_
          refine g_iload_n C dX7_digestTicket_214 rfl 2 rfl ?_
          refine g_iload C dX7_digestTicket_215 4 rfl ?_
          refine g_callV C (cs1 := [wM E am ((fX7_chainFrom μ t).2)]) (st1 := [.int (b2i (fX7_needsIt ((fX7_chainFrom μ t).2) t (nI i196))), .long (31 * (lpF (fX7_digestTicket_L196 μ z t) ((31 * ((31 * ((31 * ((31 * ((31 * ((31 * ((31 * ((31 * ((31 * ((31 * ((31 * ((31 * ((31 * z) + ((fX7_of μ t 2).toInt64))) + ((fX7_of μ t 0).toInt64))) + ((fX7_of μ t 1).toInt64))) + ((fX7_of μ t 3).toInt64))) + ((fX7_of μ t 4).toInt64))) + ((fX7_of μ t 5).toInt64))) + ((fX7_of μ t 7).toInt64))) + ((fX7_of μ t 8).toInt64))) + ((1 : Int32).toInt64))) + ((fX7_bits (fX7_blockers μ t)).toInt64))) + ((fX7_bits (fX7_allNeeds μ t)).toInt64))) + ((fX7_bits (fX7_allNeeds μ t)).toInt64))) + (((fX7_chainFrom μ t).1).toInt64)) i196))]) [.int (nI t), .int (nI i196)] [0] (kX7_needsIt l E am ((fX7_chainFrom μ t).2) t (by omega) (nI i196)) caX7_needsIt q6_179 rfl ⟨Nat.le_of_ble_eq_true rfl, Nat.le_of_ble_eq_true rfl⟩ ⟨Nat.zero_le _, Nat.zero_le _⟩ 0 0 rfl rfl rfl rfl (by decide) rfl rfl rfl rfl (Nat.le_of_ble_eq_true rfl) dX7_digestTicket_217 rfl ?_
          refine g_ifB_eq C 227 dX7_digestTicket_220 (by decide) (fun c_21 => ?_) (fun c_21 => ?_)
          · skip
            refine g_iconst C (v := 0) dX7_digestTicket_227 (by decide) ?_
            refine g_i2l C dX7_digestTicket_228 ?_
            refine g_ladd C dX7_digestTicket_229 ?_
            refine g_lstore C (lv1 := [(4, .long ((31 * (lpF (fX7_digestTicket_L196 μ z t) ((31 * ((31 * ((31 * ((31 * ((31 * ((31 * ((31 * ((31 * ((31 * ((31 * ((31 * ((31 * ((31 * z) + ((fX7_of μ t 2).toInt64))) + ((fX7_of μ t 0).toInt64))) + ((fX7_of μ t 1).toInt64))) + ((fX7_of μ t 3).toInt64))) + ((fX7_of μ t 4).toInt64))) + ((fX7_of μ t 5).toInt64))) + ((fX7_of μ t 7).toInt64))) + ((fX7_of μ t 8).toInt64))) + ((1 : Int32).toInt64))) + ((fX7_bits (fX7_blockers μ t)).toInt64))) + ((fX7_bits (fX7_allNeeds μ t)).toInt64))) + ((fX7_bits (fX7_allNeeds μ t)).toInt64))) + (((fX7_chainFrom μ t).1).toInt64)) i196)) + ((0 : Int32).toInt64))), (0, .ref (am 0)), (1, .long z), (3, .int (nI t)), (6, .int (nI i196))]) dX7_digestTicket_230 (by decide) rfl ?_
            refine g_iinc C (v := nI (i196 + 1)) (lv1 := [(6, .int (nI (i196 + 1))), (4, .long ((31 * (lpF (fX7_digestTicket_L196 μ z t) ((31 * ((31 * ((31 * ((31 * ((31 * ((31 * ((31 * ((31 * ((31 * ((31 * ((31 * ((31 * ((31 * z) + ((fX7_of μ t 2).toInt64))) + ((fX7_of μ t 0).toInt64))) + ((fX7_of μ t 1).toInt64))) + ((fX7_of μ t 3).toInt64))) + ((fX7_of μ t 4).toInt64))) + ((fX7_of μ t 5).toInt64))) + ((fX7_of μ t 7).toInt64))) + ((fX7_of μ t 8).toInt64))) + ((1 : Int32).toInt64))) + ((fX7_bits (fX7_blockers μ t)).toInt64))) + ((fX7_bits (fX7_allNeeds μ t)).toInt64))) + ((fX7_bits (fX7_allNeeds μ t)).toInt64))) + (((fX7_chainFrom μ t).1).toInt64)) i196)) + ((0 : Int32).toInt64))), (0, .ref (am 0)), (1, .long z), (3, .int (nI t))]) dX7_digestTicket_232 4 rfl (nI_1 i196) (by decide) rfl ?_
            refine g_goto C 196 dX7_digestTicket_235 (by decide) ?_
            have e_22 : (lpF (fX7_digestTicket_L196 μ z t) ((31 * ((31 * ((31 * ((31 * ((31 * ((31 * ((31 * ((31 * ((31 * ((31 * ((31 * ((31 * ((31 * z) + ((fX7_of μ t 2).toInt64))) + ((fX7_of μ t 0).toInt64))) + ((fX7_of μ t 1).toInt64))) + ((fX7_of μ t 3).toInt64))) + ((fX7_of μ t 4).toInt64))) + ((fX7_of μ t 5).toInt64))) + ((fX7_of μ t 7).toInt64))) + ((fX7_of μ t 8).toInt64))) + ((1 : Int32).toInt64))) + ((fX7_bits (fX7_blockers μ t)).toInt64))) + ((fX7_bits (fX7_allNeeds μ t)).toInt64))) + ((fX7_bits (fX7_allNeeds μ t)).toInt64))) + (((fX7_chainFrom μ t).1).toInt64)) (i196 + 1)) = (31 * (lpF (fX7_digestTicket_L196 μ z t) ((31 * ((31 * ((31 * ((31 * ((31 * ((31 * ((31 * ((31 * ((31 * ((31 * ((31 * ((31 * ((31 * z) + ((fX7_of μ t 2).toInt64))) + ((fX7_of μ t 0).toInt64))) + ((fX7_of μ t 1).toInt64))) + ((fX7_of μ t 3).toInt64))) + ((fX7_of μ t 4).toInt64))) + ((fX7_of μ t 5).toInt64))) + ((fX7_of μ t 7).toInt64))) + ((fX7_of μ t 8).toInt64))) + ((1 : Int32).toInt64))) + ((fX7_bits (fX7_blockers μ t)).toInt64))) + ((fX7_bits (fX7_allNeeds μ t)).toInt64))) + ((fX7_bits (fX7_allNeeds μ t)).toInt64))) + (((fX7_chainFrom μ t).1).toInt64)) i196)) + ((0 : Int32).toInt64) := by
              rw [lpF_1, fX7_digestTicket_L196]; rw [if_neg (ne_true_of_eq_false c_21)]
            have h_23 := ih_17 (i196 + 1) (by omega)
            rw [e_22] at h_23
            exact g_sub [2, 3, 4, 1, 0] rfl h_23
          · skip
            refine g_iconst C (v := 1) dX7_digestTicket_223 (by decide) ?_
            refine g_goto C 228 dX7_digestTicket_224 (by decide) ?_
            refine g_i2l C dX7_digestTicket_228 ?_
            refine g_ladd C dX7_digestTicket_229 ?_
            refine g_lstore C (lv1 := [(4, .long ((31 * (lpF (fX7_digestTicket_L196 μ z t) ((31 * ((31 * ((31 * ((31 * ((31 * ((31 * ((31 * ((31 * ((31 * ((31 * ((31 * ((31 * ((31 * z) + ((fX7_of μ t 2).toInt64))) + ((fX7_of μ t 0).toInt64))) + ((fX7_of μ t 1).toInt64))) + ((fX7_of μ t 3).toInt64))) + ((fX7_of μ t 4).toInt64))) + ((fX7_of μ t 5).toInt64))) + ((fX7_of μ t 7).toInt64))) + ((fX7_of μ t 8).toInt64))) + ((1 : Int32).toInt64))) + ((fX7_bits (fX7_blockers μ t)).toInt64))) + ((fX7_bits (fX7_allNeeds μ t)).toInt64))) + ((fX7_bits (fX7_allNeeds μ t)).toInt64))) + (((fX7_chainFrom μ t).1).toInt64)) i196)) + ((1 : Int32).toInt64))), (0, .ref (am 0)), (1, .long z), (3, .int (nI t)), (6, .int (nI i196))]) dX7_digestTicket_230 (by decide) rfl ?_
            refine g_iinc C (v := nI (i196 + 1)) (lv1 := [(6, .int (nI (i196 + 1))), (4, .long ((31 * (lpF (fX7_digestTicket_L196 μ z t) ((31 * ((31 * ((31 * ((31 * ((31 * ((31 * ((31 * ((31 * ((31 * ((31 * ((31 * ((31 * ((31 * z) + ((fX7_of μ t 2).toInt64))) + ((fX7_of μ t 0).toInt64))) + ((fX7_of μ t 1).toInt64))) + ((fX7_of μ t 3).toInt64))) + ((fX7_of μ t 4).toInt64))) + ((fX7_of μ t 5).toInt64))) + ((fX7_of μ t 7).toInt64))) + ((fX7_of μ t 8).toInt64))) + ((1 : Int32).toInt64))) + ((fX7_bits (fX7_blockers μ t)).toInt64))) + ((fX7_bits (fX7_allNeeds μ t)).toInt64))) + ((fX7_bits (fX7_allNeeds μ t)).toInt64))) + (((fX7_chainFrom μ t).1).toInt64)) i196)) + ((1 : Int32).toInt64))), (0, .ref (am 0)), (1, .long z), (3, .int (nI t))]) dX7_digestTicket_232 4 rfl (nI_1 i196) (by decide) rfl ?_
            refine g_goto C 196 dX7_digestTicket_235 (by decide) ?_
            have e_24 : (lpF (fX7_digestTicket_L196 μ z t) ((31 * ((31 * ((31 * ((31 * ((31 * ((31 * ((31 * ((31 * ((31 * ((31 * ((31 * ((31 * ((31 * z) + ((fX7_of μ t 2).toInt64))) + ((fX7_of μ t 0).toInt64))) + ((fX7_of μ t 1).toInt64))) + ((fX7_of μ t 3).toInt64))) + ((fX7_of μ t 4).toInt64))) + ((fX7_of μ t 5).toInt64))) + ((fX7_of μ t 7).toInt64))) + ((fX7_of μ t 8).toInt64))) + ((1 : Int32).toInt64))) + ((fX7_bits (fX7_blockers μ t)).toInt64))) + ((fX7_bits (fX7_allNeeds μ t)).toInt64))) + ((fX7_bits (fX7_allNeeds μ t)).toInt64))) + (((fX7_chainFrom μ t).1).toInt64)) (i196 + 1)) = (31 * (lpF (fX7_digestTicket_L196 μ z t) ((31 * ((31 * ((31 * ((31 * ((31 * ((31 * ((31 * ((31 * ((31 * ((31 * ((31 * ((31 * ((31 * z) + ((fX7_of μ t 2).toInt64))) + ((fX7_of μ t 0).toInt64))) + ((fX7_of μ t 1).toInt64))) + ((fX7_of μ t 3).toInt64))) + ((fX7_of μ t 4).toInt64))) + ((fX7_of μ t 5).toInt64))) + ((fX7_of μ t 7).toInt64))) + ((fX7_of μ t 8).toInt64))) + ((1 : Int32).toInt64))) + ((fX7_bits (fX7_blockers μ t)).toInt64))) + ((fX7_bits (fX7_allNeeds μ t)).toInt64))) + ((fX7_bits (fX7_allNeeds μ t)).toInt64))) + (((fX7_chainFrom μ t).1).toInt64)) i196)) + ((1 : Int32).toInt64) := by
              rw [lpF_1, fX7_digestTicket_L196]; rw [if_pos c_21]
            have h_25 := ih_17 (i196 + 1) (by omega)
            rw [e_24] at h_25
            exact g_sub [2, 3, 4, 1, 0] rfl h_25
    refine g_sub [2, 3, 4, 1, 0] (lv1 := [(0, .ref (am 0)), (1, .long z), (3, .int (nI t)), (4, .long ((31 * ((31 * ((31 * ((31 * ((31 * ((31 * ((31 * ((31 * ((31 * ((31 * ((31 * ((31 * ((31 * z) + ((fX7_of μ t 2).toInt64))) + ((fX7_of μ t 0).toInt64))) + ((fX7_of μ t 1).toInt64))) + ((fX7_of μ t 3).toInt64))) + ((fX7_of μ t 4).toInt64))) + ((fX7_of μ t 5).toInt64))) + ((fX7_of μ t 7).toInt64))) + ((fX7_of μ t 8).toInt64))) + ((1 : Int32).toInt64))) + ((fX7_bits (fX7_blockers μ t)).toInt64))) + ((fX7_bits (fX7_allNeeds μ t)).toInt64))) + ((fX7_bits (fX7_allNeeds μ t)).toInt64))) + (((fX7_chainFrom μ t).1).toInt64))), (6, .int 0)]) rfl ?_
    exact hL_16 (cM μ) 0 (by omega)
theorem dT_x8 (μ : BS) (z : Int64) (t : Nat) : eqX 8 μ (fX7_digestTicket μ z t).2 := by
  unfold fX7_digestTicket
  (repeat' split) <;> exact cf_x8 μ t
theorem vM_digestTicket {μ : BS} {z : Int64} {t : Nat} (hv : vM μ) : vM (fX7_digestTicket μ z t).2 := vM_x8 (dT_x8 μ z t) hv
