def fX7_load_L4 (μ : BS) (o : Int32) (i4 : Nat) (t4 : Int32) : Int32 :=
  if (fX7_of μ i4 3) = (o + 1) then (if (fX7_isLeft μ i4) = true then t4 + (fX7_of μ i4 0) else t4 + 0) else t4 + 0
def fX7_load (μ : BS) (o : Int32) : Int32 :=
  (lpF (fX7_load_L4 μ o) 0 (cM μ))
theorem caX7_load : gCalV yX7_load cX7_load 4 (some .int) 1 := ⟨⟨q6_166, q1_6, by decide +kernel⟩, q6_165, qs_26⟩
set_option maxHeartbeats 4000000 in
set_option maxRecDepth 100000 in
theorem kX7_load (l : Launch) (E : gE) (am : Nat → Nat) (μ : BS) (hv : vM μ)  (o : Int32) : MC l E yX7_load cX7_load 4 (some .int) 2 43 [.ref (am 0), .int o] [wM E am μ] (some (.int (fX7_load μ o))) [wM E am μ] := by
  have hv1 : cM μ ≤ 20 := hv.1.1
  have hc0 : μ.2 0 0 = nI (cM μ) := hv.1.2.1
  refine mc_of (by decide +kernel) (Nat.le_of_ble_eq_true rfl) (lv := [(0, .ref (am 0)), (1, .int o)]) rfl (fun X C hE => ?_)
  refine g_iconst C (v := 0) dX7_load_0 (by decide) ?_
  refine g_istore_n C (lv1 := [(2, .int 0), (0, .ref (am 0)), (1, .int o)]) dX7_load_1 rfl (by decide) rfl ?_
  refine g_iconst C (v := 0) dX7_load_2 (by decide) ?_
  refine g_istore_n C (lv1 := [(3, .int 0), (2, .int 0), (0, .ref (am 0)), (1, .int o)]) dX7_load_3 rfl (by decide) rfl ?_
  have hL_3 : ∀ d_1 i4 : Nat, i4 + d_1 = (cM μ) → G X 0 0 [wM E am μ] [(0, .ref (am 0)), (1, .int o), (2, .int (lpF (fX7_load_L4 μ o) 0 i4)), (3, .int (nI i4))] 4 [] := by
    intro d_1
    induction d_1 with
    | zero =>
      intro i4 hi_2
      obtain rfl : i4 = (cM μ) := by omega
      refine g_iload_n C dX7_load_4 rfl 3 rfl ?_
      refine g_aload_n C dX7_load_5 rfl 0 rfl ?_
      refine g_getf C (T := TX7) (N := 15) 0 0 rfl rfl rfl inX7 1 (by decide) q6_71 rfl dX7_load_6 ?_
      refine g_iconst C (v := 0) dX7_load_9 (by decide) ?_
      refine g_ialdn C 0 1 0 rfl rfl rfl (by decide) (by decide) dX7_load_10 ?_
      refine g_icmp_ge C 53 dX7_load_11 (by decide) (fun c_5 => ?_) (fun c_5 => ?_)
      · skip
        refine g_iload_n C dX7_load_53 rfl 2 rfl ?_
        have e_6 : fX7_load μ o = (lpF (fX7_load_L4 μ o) 0 (cM μ)) := by rw [fX7_load]
        exact g_iret C hE (by rw [e_6]) rfl dX7_load_54
      · exact absurd (lc_le rfl hc0 (by omega) (by omega)) c_5
    | succ d_1 ih_4 =>
      intro i4 hi_2
      refine g_iload_n C dX7_load_4 rfl 3 rfl ?_
      refine g_aload_n C dX7_load_5 rfl 0 rfl ?_
      refine g_getf C (T := TX7) (N := 15) 0 0 rfl rfl rfl inX7 1 (by decide) q6_71 rfl dX7_load_6 ?_
      refine g_iconst C (v := 0) dX7_load_9 (by decide) ?_
      refine g_ialdn C 0 1 0 rfl rfl rfl (by decide) (by decide) dX7_load_10 ?_
      refine g_icmp_ge C 53 dX7_load_11 (by decide) (fun c_7 => ?_) (fun c_7 => ?_)
      · exact absurd c_7 (lc_nle rfl hc0 (by omega) (by omega))
      · skip
        refine g_iload_n C dX7_load_14 rfl 2 rfl ?_
        refine g_aload_n C dX7_load_15 rfl 0 rfl ?_
        refine g_iload_n C dX7_load_16 rfl 3 rfl ?_
        refine g_iconst C (v := 3) dX7_load_17 (by decide) ?_
        refine g_callV C (cs1 := [wM E am μ]) (st1 := [.int (fX7_of μ i4 3), .int (lpF (fX7_load_L4 μ o) 0 i4)]) [.int (nI i4), .int 3] [0] (kX7_of l E am μ i4 (by omega) 3 (by decide)) caX7_of q6_151 rfl ⟨Nat.le_of_ble_eq_true rfl, Nat.le_of_ble_eq_true rfl⟩ ⟨Nat.zero_le _, Nat.zero_le _⟩ 0 0 rfl rfl rfl rfl (by decide) rfl rfl rfl rfl (Nat.le_of_ble_eq_true rfl) dX7_load_18 rfl ?_
        refine g_iload_n C dX7_load_21 rfl 1 rfl ?_
        refine g_iconst C (v := 1) dX7_load_22 (by decide) ?_
        refine g_iadd C dX7_load_23 ?_
        refine g_icmp_ne C 44 dX7_load_24 (by decide) (fun c_8 => ?_) (fun c_8 => ?_)
        · skip
          refine g_iconst C (v := 0) dX7_load_44 (by decide) ?_
          refine g_iadd C dX7_load_45 ?_
          refine g_istore_n C (lv1 := [(2, .int ((lpF (fX7_load_L4 μ o) 0 i4) + 0)), (0, .ref (am 0)), (1, .int o), (3, .int (nI i4))]) dX7_load_46 rfl (by decide) rfl ?_
          refine g_iinc C (v := nI (i4 + 1)) (lv1 := [(3, .int (nI (i4 + 1))), (2, .int ((lpF (fX7_load_L4 μ o) 0 i4) + 0)), (0, .ref (am 0)), (1, .int o)]) dX7_load_47 3 rfl (nI_1 i4) (by decide) rfl ?_
          refine g_goto C 4 dX7_load_50 (by decide) ?_
          have e_9 : (lpF (fX7_load_L4 μ o) 0 (i4 + 1)) = (lpF (fX7_load_L4 μ o) 0 i4) + 0 := by
            rw [lpF_1, fX7_load_L4]; rw [if_neg c_8]
          have h_10 := ih_4 (i4 + 1) (by omega)
          rw [e_9] at h_10
          exact g_sub [2, 3, 1, 0] rfl h_10
        · skip
          refine g_aload_n C dX7_load_27 rfl 0 rfl ?_
          refine g_iload_n C dX7_load_28 rfl 3 rfl ?_
          refine g_callV C (cs1 := [wM E am μ]) (st1 := [.int (b2i (fX7_isLeft μ i4)), .int (lpF (fX7_load_L4 μ o) 0 i4)]) [.int (nI i4)] [0] (kX7_isLeft l E am μ i4 (by omega)) caX7_isLeft q6_155 rfl ⟨Nat.le_of_ble_eq_true rfl, Nat.le_of_ble_eq_true rfl⟩ ⟨Nat.zero_le _, Nat.zero_le _⟩ 0 0 rfl rfl rfl rfl (by decide) rfl rfl rfl rfl (Nat.le_of_ble_eq_true rfl) dX7_load_29 rfl ?_
          refine g_ifB_eq C 44 dX7_load_32 (by decide) (fun c_11 => ?_) (fun c_11 => ?_)
          · skip
            refine g_iconst C (v := 0) dX7_load_44 (by decide) ?_
            refine g_iadd C dX7_load_45 ?_
            refine g_istore_n C (lv1 := [(2, .int ((lpF (fX7_load_L4 μ o) 0 i4) + 0)), (0, .ref (am 0)), (1, .int o), (3, .int (nI i4))]) dX7_load_46 rfl (by decide) rfl ?_
            refine g_iinc C (v := nI (i4 + 1)) (lv1 := [(3, .int (nI (i4 + 1))), (2, .int ((lpF (fX7_load_L4 μ o) 0 i4) + 0)), (0, .ref (am 0)), (1, .int o)]) dX7_load_47 3 rfl (nI_1 i4) (by decide) rfl ?_
            refine g_goto C 4 dX7_load_50 (by decide) ?_
            have e_12 : (lpF (fX7_load_L4 μ o) 0 (i4 + 1)) = (lpF (fX7_load_L4 μ o) 0 i4) + 0 := by
              rw [lpF_1, fX7_load_L4]; rw [if_pos c_8, if_neg (ne_true_of_eq_false c_11)]
            have h_13 := ih_4 (i4 + 1) (by omega)
            rw [e_12] at h_13
            exact g_sub [2, 3, 1, 0] rfl h_13
          · skip
            refine g_aload_n C dX7_load_35 rfl 0 rfl ?_
            refine g_iload_n C dX7_load_36 rfl 3 rfl ?_
            refine g_iconst C (v := 0) dX7_load_37 (by decide) ?_
            refine g_callV C (cs1 := [wM E am μ]) (st1 := [.int (fX7_of μ i4 0), .int (lpF (fX7_load_L4 μ o) 0 i4)]) [.int (nI i4), .int 0] [0] (kX7_of l E am μ i4 (by omega) 0 (by decide)) caX7_of q6_151 rfl ⟨Nat.le_of_ble_eq_true rfl, Nat.le_of_ble_eq_true rfl⟩ ⟨Nat.zero_le _, Nat.zero_le _⟩ 0 0 rfl rfl rfl rfl (by decide) rfl rfl rfl rfl (Nat.le_of_ble_eq_true rfl) dX7_load_38 rfl ?_
            refine g_goto C 45 dX7_load_41 (by decide) ?_
            refine g_iadd C dX7_load_45 ?_
            refine g_istore_n C (lv1 := [(2, .int ((lpF (fX7_load_L4 μ o) 0 i4) + (fX7_of μ i4 0))), (0, .ref (am 0)), (1, .int o), (3, .int (nI i4))]) dX7_load_46 rfl (by decide) rfl ?_
            refine g_iinc C (v := nI (i4 + 1)) (lv1 := [(3, .int (nI (i4 + 1))), (2, .int ((lpF (fX7_load_L4 μ o) 0 i4) + (fX7_of μ i4 0))), (0, .ref (am 0)), (1, .int o)]) dX7_load_47 3 rfl (nI_1 i4) (by decide) rfl ?_
            refine g_goto C 4 dX7_load_50 (by decide) ?_
            have e_14 : (lpF (fX7_load_L4 μ o) 0 (i4 + 1)) = (lpF (fX7_load_L4 μ o) 0 i4) + (fX7_of μ i4 0) := by
              rw [lpF_1, fX7_load_L4]; rw [if_pos c_8, if_pos c_11]
            have h_15 := ih_4 (i4 + 1) (by omega)
            rw [e_14] at h_15
            exact g_sub [2, 3, 1, 0] rfl h_15
  refine g_sub [2, 3, 1, 0] (lv1 := [(0, .ref (am 0)), (1, .int o), (2, .int 0), (3, .int 0)]) rfl ?_
  exact hL_3 (cM μ) 0 (by omega)
def fX7_canTake (μ : BS) (p : Nat) (z : Int32) : Bool :=
  if (nI p) = 0 then true else (if (μ.2 0 ((4 + p) - 1)) < ((fX7_load μ ((nI p) - 1)) + z) then false else true)
theorem caX7_canTake : gCalV yX7_canTake cX7_canTake 3 (some .boolean) 2 := ⟨⟨q6_162, q1_6, by decide +kernel⟩, q6_161, qs_25⟩
set_option maxHeartbeats 4000000 in
set_option maxRecDepth 100000 in
theorem kX7_canTake (l : Launch) (E : gE) (am : Nat → Nat) (μ : BS) (hv : vM μ)  (p : Nat) (hp : p < 6) (z : Int32) : MC l E yX7_canTake cX7_canTake 3 (some .boolean) 3 66 [.ref (am 0), .int (nI p), .int z] [wM E am μ] (some (.int (b2i (fX7_canTake μ p z)))) [wM E am μ] := by
  have hv1 : cM μ ≤ 20 := hv.1.1
  have hc0 : μ.2 0 0 = nI (cM μ) := hv.1.2.1
  refine mc_of (by decide +kernel) (Nat.le_of_ble_eq_true rfl) (lv := [(0, .ref (am 0)), (1, .int (nI p)), (2, .int z)]) rfl (fun X C hE => ?_)
  refine g_iload_n C dX7_canTake_0 rfl 1 rfl ?_
  refine g_if_eq C 26 dX7_canTake_1 (by decide) (fun c_1 => ?_) (fun c_1 => ?_)
  · skip
    refine g_iconst C (v := 1) dX7_canTake_26 (by decide) ?_
    refine g_goto C 31 dX7_canTake_27 (by decide) ?_
    have e_2 : fX7_canTake μ p z = true := by rw [fX7_canTake]; rw [if_pos c_1]
    exact g_zret (b := true) C hE (by rw [e_2]) rfl rfl dX7_canTake_31
  · skip
    refine g_aload_n C dX7_canTake_4 rfl 0 rfl ?_
    refine g_iload_n C dX7_canTake_5 rfl 1 rfl ?_
    refine g_iconst C (v := 1) dX7_canTake_6 (by decide) ?_
    refine g_isub C dX7_canTake_7 ?_
    refine g_callV C (cs1 := [wM E am μ]) (st1 := [.int (fX7_load μ ((nI p) - 1))]) [.int ((nI p) - 1)] [0] (kX7_load l E am μ hv ((nI p) - 1)) caX7_load q6_163 rfl ⟨Nat.le_of_ble_eq_true rfl, Nat.le_of_ble_eq_true rfl⟩ ⟨Nat.zero_le _, Nat.zero_le _⟩ 0 0 rfl rfl rfl rfl (by decide) rfl rfl rfl rfl (Nat.le_of_ble_eq_true rfl) dX7_canTake_8 rfl ?_
    refine g_iload_n C dX7_canTake_11 rfl 2 rfl ?_
    refine g_iadd C dX7_canTake_12 ?_
    refine g_aload_n C dX7_canTake_13 rfl 0 rfl ?_
    refine g_getf C (T := TX7) (N := 15) 0 0 rfl rfl rfl inX7 1 (by decide) q6_71 rfl dX7_canTake_14 ?_
    refine g_iconst C (v := 4) dX7_canTake_17 (by decide) ?_
    refine g_iload_n C dX7_canTake_18 rfl 1 rfl ?_
    refine g_iadd C dX7_canTake_19 ?_
    refine g_iconst C (v := 1) dX7_canTake_20 (by decide) ?_
    refine g_isub C dX7_canTake_21 ?_
    refine g_ialdn C 0 1 ((4 + p) - 1) rfl rfl (nx_sub (by omega) (nx_add rfl rfl) rfl) (by omega) (by decide) dX7_canTake_22 ?_
    refine g_icmp_gt C 30 dX7_canTake_23 (by decide) (fun c_3 => ?_) (fun c_3 => ?_)
    · skip
      refine g_iconst C (v := 0) dX7_canTake_30 (by decide) ?_
      have e_4 : fX7_canTake μ p z = false := by rw [fX7_canTake]; rw [if_neg c_1, if_pos c_3]
      exact g_zret (b := false) C hE (by rw [e_4]) rfl rfl dX7_canTake_31
    · skip
      refine g_iconst C (v := 1) dX7_canTake_26 (by decide) ?_
      refine g_goto C 31 dX7_canTake_27 (by decide) ?_
      have e_5 : fX7_canTake μ p z = true := by rw [fX7_canTake]; rw [if_neg c_1, if_neg c_3]
      exact g_zret (b := true) C hE (by rw [e_5]) rfl rfl dX7_canTake_31
def fX7_leftFor_L4 (μ : BS) (m : Int32) (i4 : Nat) (t4 : Int32) : Int32 :=
  if (fX7_of μ i4 4) = (m + 1) then (if (fX7_isLeft μ i4) = true then t4 + (fX7_of μ i4 0) else t4 + 0) else t4 + 0
def fX7_leftFor (μ : BS) (m : Int32) : Int32 :=
  (lpF (fX7_leftFor_L4 μ m) 0 (cM μ))
theorem caX7_leftFor : gCalV yX7_leftFor cX7_leftFor 4 (some .int) 1 := ⟨⟨q6_231, q1_6, by decide +kernel⟩, q6_230, qs_33⟩
set_option maxHeartbeats 4000000 in
set_option maxRecDepth 100000 in
theorem kX7_leftFor (l : Launch) (E : gE) (am : Nat → Nat) (μ : BS) (hv : vM μ)  (m : Int32) : MC l E yX7_leftFor cX7_leftFor 4 (some .int) 2 43 [.ref (am 0), .int m] [wM E am μ] (some (.int (fX7_leftFor μ m))) [wM E am μ] := by
  have hv1 : cM μ ≤ 20 := hv.1.1
  have hc0 : μ.2 0 0 = nI (cM μ) := hv.1.2.1
  refine mc_of (by decide +kernel) (Nat.le_of_ble_eq_true rfl) (lv := [(0, .ref (am 0)), (1, .int m)]) rfl (fun X C hE => ?_)
  refine g_iconst C (v := 0) dX7_leftFor_0 (by decide) ?_
  refine g_istore_n C (lv1 := [(2, .int 0), (0, .ref (am 0)), (1, .int m)]) dX7_leftFor_1 rfl (by decide) rfl ?_
  refine g_iconst C (v := 0) dX7_leftFor_2 (by decide) ?_
  refine g_istore_n C (lv1 := [(3, .int 0), (2, .int 0), (0, .ref (am 0)), (1, .int m)]) dX7_leftFor_3 rfl (by decide) rfl ?_
  have hL_3 : ∀ d_1 i4 : Nat, i4 + d_1 = (cM μ) → G X 0 0 [wM E am μ] [(0, .ref (am 0)), (1, .int m), (2, .int (lpF (fX7_leftFor_L4 μ m) 0 i4)), (3, .int (nI i4))] 4 [] := by
    intro d_1
    induction d_1 with
    | zero =>
      intro i4 hi_2
      obtain rfl : i4 = (cM μ) := by omega
      refine g_iload_n C dX7_leftFor_4 rfl 3 rfl ?_
      refine g_aload_n C dX7_leftFor_5 rfl 0 rfl ?_
      refine g_getf C (T := TX7) (N := 15) 0 0 rfl rfl rfl inX7 1 (by decide) q6_71 rfl dX7_leftFor_6 ?_
      refine g_iconst C (v := 0) dX7_leftFor_9 (by decide) ?_
      refine g_ialdn C 0 1 0 rfl rfl rfl (by decide) (by decide) dX7_leftFor_10 ?_
      refine g_icmp_ge C 53 dX7_leftFor_11 (by decide) (fun c_5 => ?_) (fun c_5 => ?_)
      · skip
        refine g_iload_n C dX7_leftFor_53 rfl 2 rfl ?_
        have e_6 : fX7_leftFor μ m = (lpF (fX7_leftFor_L4 μ m) 0 (cM μ)) := by rw [fX7_leftFor]
        exact g_iret C hE (by rw [e_6]) rfl dX7_leftFor_54
      · exact absurd (lc_le rfl hc0 (by omega) (by omega)) c_5
    | succ d_1 ih_4 =>
      intro i4 hi_2
      refine g_iload_n C dX7_leftFor_4 rfl 3 rfl ?_
      refine g_aload_n C dX7_leftFor_5 rfl 0 rfl ?_
      refine g_getf C (T := TX7) (N := 15) 0 0 rfl rfl rfl inX7 1 (by decide) q6_71 rfl dX7_leftFor_6 ?_
      refine g_iconst C (v := 0) dX7_leftFor_9 (by decide) ?_
      refine g_ialdn C 0 1 0 rfl rfl rfl (by decide) (by decide) dX7_leftFor_10 ?_
      refine g_icmp_ge C 53 dX7_leftFor_11 (by decide) (fun c_7 => ?_) (fun c_7 => ?_)
      · exact absurd c_7 (lc_nle rfl hc0 (by omega) (by omega))
      · skip
        refine g_iload_n C dX7_leftFor_14 rfl 2 rfl ?_
        refine g_aload_n C dX7_leftFor_15 rfl 0 rfl ?_
        refine g_iload_n C dX7_leftFor_16 rfl 3 rfl ?_
        refine g_iconst C (v := 4) dX7_leftFor_17 (by decide) ?_
        refine g_callV C (cs1 := [wM E am μ]) (st1 := [.int (fX7_of μ i4 4), .int (lpF (fX7_leftFor_L4 μ m) 0 i4)]) [.int (nI i4), .int 4] [0] (kX7_of l E am μ i4 (by omega) 4 (by decide)) caX7_of q6_151 rfl ⟨Nat.le_of_ble_eq_true rfl, Nat.le_of_ble_eq_true rfl⟩ ⟨Nat.zero_le _, Nat.zero_le _⟩ 0 0 rfl rfl rfl rfl (by decide) rfl rfl rfl rfl (Nat.le_of_ble_eq_true rfl) dX7_leftFor_18 rfl ?_
        refine g_iload_n C dX7_leftFor_21 rfl 1 rfl ?_
        refine g_iconst C (v := 1) dX7_leftFor_22 (by decide) ?_
        refine g_iadd C dX7_leftFor_23 ?_
        refine g_icmp_ne C 44 dX7_leftFor_24 (by decide) (fun c_8 => ?_) (fun c_8 => ?_)
        · skip
          refine g_iconst C (v := 0) dX7_leftFor_44 (by decide) ?_
          refine g_iadd C dX7_leftFor_45 ?_
          refine g_istore_n C (lv1 := [(2, .int ((lpF (fX7_leftFor_L4 μ m) 0 i4) + 0)), (0, .ref (am 0)), (1, .int m), (3, .int (nI i4))]) dX7_leftFor_46 rfl (by decide) rfl ?_
          refine g_iinc C (v := nI (i4 + 1)) (lv1 := [(3, .int (nI (i4 + 1))), (2, .int ((lpF (fX7_leftFor_L4 μ m) 0 i4) + 0)), (0, .ref (am 0)), (1, .int m)]) dX7_leftFor_47 3 rfl (nI_1 i4) (by decide) rfl ?_
          refine g_goto C 4 dX7_leftFor_50 (by decide) ?_
          have e_9 : (lpF (fX7_leftFor_L4 μ m) 0 (i4 + 1)) = (lpF (fX7_leftFor_L4 μ m) 0 i4) + 0 := by
            rw [lpF_1, fX7_leftFor_L4]; rw [if_neg c_8]
          have h_10 := ih_4 (i4 + 1) (by omega)
          rw [e_9] at h_10
          exact g_sub [2, 3, 1, 0] rfl h_10
        · skip
          refine g_aload_n C dX7_leftFor_27 rfl 0 rfl ?_
          refine g_iload_n C dX7_leftFor_28 rfl 3 rfl ?_
          refine g_callV C (cs1 := [wM E am μ]) (st1 := [.int (b2i (fX7_isLeft μ i4)), .int (lpF (fX7_leftFor_L4 μ m) 0 i4)]) [.int (nI i4)] [0] (kX7_isLeft l E am μ i4 (by omega)) caX7_isLeft q6_155 rfl ⟨Nat.le_of_ble_eq_true rfl, Nat.le_of_ble_eq_true rfl⟩ ⟨Nat.zero_le _, Nat.zero_le _⟩ 0 0 rfl rfl rfl rfl (by decide) rfl rfl rfl rfl (Nat.le_of_ble_eq_true rfl) dX7_leftFor_29 rfl ?_
          refine g_ifB_eq C 44 dX7_leftFor_32 (by decide) (fun c_11 => ?_) (fun c_11 => ?_)
          · skip
            refine g_iconst C (v := 0) dX7_leftFor_44 (by decide) ?_
            refine g_iadd C dX7_leftFor_45 ?_
            refine g_istore_n C (lv1 := [(2, .int ((lpF (fX7_leftFor_L4 μ m) 0 i4) + 0)), (0, .ref (am 0)), (1, .int m), (3, .int (nI i4))]) dX7_leftFor_46 rfl (by decide) rfl ?_
            refine g_iinc C (v := nI (i4 + 1)) (lv1 := [(3, .int (nI (i4 + 1))), (2, .int ((lpF (fX7_leftFor_L4 μ m) 0 i4) + 0)), (0, .ref (am 0)), (1, .int m)]) dX7_leftFor_47 3 rfl (nI_1 i4) (by decide) rfl ?_
            refine g_goto C 4 dX7_leftFor_50 (by decide) ?_
            have e_12 : (lpF (fX7_leftFor_L4 μ m) 0 (i4 + 1)) = (lpF (fX7_leftFor_L4 μ m) 0 i4) + 0 := by
              rw [lpF_1, fX7_leftFor_L4]; rw [if_pos c_8, if_neg (ne_true_of_eq_false c_11)]
            have h_13 := ih_4 (i4 + 1) (by omega)
            rw [e_12] at h_13
            exact g_sub [2, 3, 1, 0] rfl h_13
          · skip
            refine g_aload_n C dX7_leftFor_35 rfl 0 rfl ?_
            refine g_iload_n C dX7_leftFor_36 rfl 3 rfl ?_
            refine g_iconst C (v := 0) dX7_leftFor_37 (by decide) ?_
            refine g_callV C (cs1 := [wM E am μ]) (st1 := [.int (fX7_of μ i4 0), .int (lpF (fX7_leftFor_L4 μ m) 0 i4)]) [.int (nI i4), .int 0] [0] (kX7_of l E am μ i4 (by omega) 0 (by decide)) caX7_of q6_151 rfl ⟨Nat.le_of_ble_eq_true rfl, Nat.le_of_ble_eq_true rfl⟩ ⟨Nat.zero_le _, Nat.zero_le _⟩ 0 0 rfl rfl rfl rfl (by decide) rfl rfl rfl rfl (Nat.le_of_ble_eq_true rfl) dX7_leftFor_38 rfl ?_
            refine g_goto C 45 dX7_leftFor_41 (by decide) ?_
            refine g_iadd C dX7_leftFor_45 ?_
            refine g_istore_n C (lv1 := [(2, .int ((lpF (fX7_leftFor_L4 μ m) 0 i4) + (fX7_of μ i4 0))), (0, .ref (am 0)), (1, .int m), (3, .int (nI i4))]) dX7_leftFor_46 rfl (by decide) rfl ?_
            refine g_iinc C (v := nI (i4 + 1)) (lv1 := [(3, .int (nI (i4 + 1))), (2, .int ((lpF (fX7_leftFor_L4 μ m) 0 i4) + (fX7_of μ i4 0))), (0, .ref (am 0)), (1, .int m)]) dX7_leftFor_47 3 rfl (nI_1 i4) (by decide) rfl ?_
            refine g_goto C 4 dX7_leftFor_50 (by decide) ?_
            have e_14 : (lpF (fX7_leftFor_L4 μ m) 0 (i4 + 1)) = (lpF (fX7_leftFor_L4 μ m) 0 i4) + (fX7_of μ i4 0) := by
              rw [lpF_1, fX7_leftFor_L4]; rw [if_pos c_8, if_pos c_11]
            have h_15 := ih_4 (i4 + 1) (by omega)
            rw [e_14] at h_15
            exact g_sub [2, 3, 1, 0] rfl h_15
  refine g_sub [2, 3, 1, 0] (lv1 := [(0, .ref (am 0)), (1, .int m), (2, .int 0), (3, .int 0)]) rfl ?_
  exact hL_3 (cM μ) 0 (by omega)
def fX7_doneFor_L4 (μ : BS) (m : Int32) (i4 : Nat) (t4 : Int32) : Int32 :=
  if (fX7_of μ i4 4) = (m + 1) then (if (fX7_of μ i4 2) = 3 then t4 + (fX7_of μ i4 0) else t4 + 0) else t4 + 0
def fX7_doneFor (μ : BS) (m : Int32) : Int32 :=
  (lpF (fX7_doneFor_L4 μ m) 0 (cM μ))
theorem caX7_doneFor : gCalV yX7_doneFor cX7_doneFor 4 (some .int) 1 := ⟨⟨q8_54, q1_6, by decide +kernel⟩, q8_53, qs_59⟩
set_option maxHeartbeats 4000000 in
set_option maxRecDepth 100000 in
theorem kX7_doneFor (l : Launch) (E : gE) (am : Nat → Nat) (μ : BS) (hv : vM μ)  (m : Int32) : MC l E yX7_doneFor cX7_doneFor 4 (some .int) 1 22 [.ref (am 0), .int m] [wM E am μ] (some (.int (fX7_doneFor μ m))) [wM E am μ] := by
  have hv1 : cM μ ≤ 20 := hv.1.1
  have hc0 : μ.2 0 0 = nI (cM μ) := hv.1.2.1
  refine mc_of (by decide +kernel) (Nat.le_of_ble_eq_true rfl) (lv := [(0, .ref (am 0)), (1, .int m)]) rfl (fun X C hE => ?_)
  refine g_iconst C (v := 0) dX7_doneFor_0 (by decide) ?_
  refine g_istore_n C (lv1 := [(2, .int 0), (0, .ref (am 0)), (1, .int m)]) dX7_doneFor_1 rfl (by decide) rfl ?_
  refine g_iconst C (v := 0) dX7_doneFor_2 (by decide) ?_
  refine g_istore_n C (lv1 := [(3, .int 0), (2, .int 0), (0, .ref (am 0)), (1, .int m)]) dX7_doneFor_3 rfl (by decide) rfl ?_
  have hL_3 : ∀ d_1 i4 : Nat, i4 + d_1 = (cM μ) → G X 0 0 [wM E am μ] [(0, .ref (am 0)), (1, .int m), (2, .int (lpF (fX7_doneFor_L4 μ m) 0 i4)), (3, .int (nI i4))] 4 [] := by
    intro d_1
    induction d_1 with
    | zero =>
      intro i4 hi_2
      obtain rfl : i4 = (cM μ) := by omega
      refine g_iload_n C dX7_doneFor_4 rfl 3 rfl ?_
      refine g_aload_n C dX7_doneFor_5 rfl 0 rfl ?_
      refine g_getf C (T := TX7) (N := 15) 0 0 rfl rfl rfl inX7 1 (by decide) q6_71 rfl dX7_doneFor_6 ?_
      refine g_iconst C (v := 0) dX7_doneFor_9 (by decide) ?_
      refine g_ialdn C 0 1 0 rfl rfl rfl (by decide) (by decide) dX7_doneFor_10 ?_
      refine g_icmp_ge C 55 dX7_doneFor_11 (by decide) (fun c_5 => ?_) (fun c_5 => ?_)
      · skip
        refine g_iload_n C dX7_doneFor_55 rfl 2 rfl ?_
        have e_6 : fX7_doneFor μ m = (lpF (fX7_doneFor_L4 μ m) 0 (cM μ)) := by rw [fX7_doneFor]
        exact g_iret C hE (by rw [e_6]) rfl dX7_doneFor_56
      · exact absurd (lc_le rfl hc0 (by omega) (by omega)) c_5
    | succ d_1 ih_4 =>
      intro i4 hi_2
      refine g_iload_n C dX7_doneFor_4 rfl 3 rfl ?_
      refine g_aload_n C dX7_doneFor_5 rfl 0 rfl ?_
      refine g_getf C (T := TX7) (N := 15) 0 0 rfl rfl rfl inX7 1 (by decide) q6_71 rfl dX7_doneFor_6 ?_
      refine g_iconst C (v := 0) dX7_doneFor_9 (by decide) ?_
      refine g_ialdn C 0 1 0 rfl rfl rfl (by decide) (by decide) dX7_doneFor_10 ?_
      refine g_icmp_ge C 55 dX7_doneFor_11 (by decide) (fun c_7 => ?_) (fun c_7 => ?_)
      · exact absurd c_7 (lc_nle rfl hc0 (by omega) (by omega))
      · skip
        refine g_iload_n C dX7_doneFor_14 rfl 2 rfl ?_
        refine g_aload_n C dX7_doneFor_15 rfl 0 rfl ?_
        refine g_iload_n C dX7_doneFor_16 rfl 3 rfl ?_
        refine g_iconst C (v := 4) dX7_doneFor_17 (by decide) ?_
        refine g_callV C (cs1 := [wM E am μ]) (st1 := [.int (fX7_of μ i4 4), .int (lpF (fX7_doneFor_L4 μ m) 0 i4)]) [.int (nI i4), .int 4] [0] (kX7_of l E am μ i4 (by omega) 4 (by decide)) caX7_of q6_151 rfl ⟨Nat.le_of_ble_eq_true rfl, Nat.le_of_ble_eq_true rfl⟩ ⟨Nat.zero_le _, Nat.zero_le _⟩ 0 0 rfl rfl rfl rfl (by decide) rfl rfl rfl rfl (Nat.le_of_ble_eq_true rfl) dX7_doneFor_18 rfl ?_
        refine g_iload_n C dX7_doneFor_21 rfl 1 rfl ?_
        refine g_iconst C (v := 1) dX7_doneFor_22 (by decide) ?_
        refine g_iadd C dX7_doneFor_23 ?_
        refine g_icmp_ne C 46 dX7_doneFor_24 (by decide) (fun c_8 => ?_) (fun c_8 => ?_)
        · skip
          refine g_iconst C (v := 0) dX7_doneFor_46 (by decide) ?_
          refine g_iadd C dX7_doneFor_47 ?_
          refine g_istore_n C (lv1 := [(2, .int ((lpF (fX7_doneFor_L4 μ m) 0 i4) + 0)), (0, .ref (am 0)), (1, .int m), (3, .int (nI i4))]) dX7_doneFor_48 rfl (by decide) rfl ?_
          refine g_iinc C (v := nI (i4 + 1)) (lv1 := [(3, .int (nI (i4 + 1))), (2, .int ((lpF (fX7_doneFor_L4 μ m) 0 i4) + 0)), (0, .ref (am 0)), (1, .int m)]) dX7_doneFor_49 3 rfl (nI_1 i4) (by decide) rfl ?_
          refine g_goto C 4 dX7_doneFor_52 (by decide) ?_
          have e_9 : (lpF (fX7_doneFor_L4 μ m) 0 (i4 + 1)) = (lpF (fX7_doneFor_L4 μ m) 0 i4) + 0 := by
            rw [lpF_1, fX7_doneFor_L4]; rw [if_neg c_8]
          have h_10 := ih_4 (i4 + 1) (by omega)
          rw [e_9] at h_10
          exact g_sub [2, 3, 1, 0] rfl h_10
        · skip
          refine g_aload_n C dX7_doneFor_27 rfl 0 rfl ?_
          refine g_iload_n C dX7_doneFor_28 rfl 3 rfl ?_
          refine g_iconst C (v := 2) dX7_doneFor_29 (by decide) ?_
          refine g_callV C (cs1 := [wM E am μ]) (st1 := [.int (fX7_of μ i4 2), .int (lpF (fX7_doneFor_L4 μ m) 0 i4)]) [.int (nI i4), .int 2] [0] (kX7_of l E am μ i4 (by omega) 2 (by decide)) caX7_of q6_151 rfl ⟨Nat.le_of_ble_eq_true rfl, Nat.le_of_ble_eq_true rfl⟩ ⟨Nat.zero_le _, Nat.zero_le _⟩ 0 0 rfl rfl rfl rfl (by decide) rfl rfl rfl rfl (Nat.le_of_ble_eq_true rfl) dX7_doneFor_30 rfl ?_
          refine g_iconst C (v := 3) dX7_doneFor_33 (by decide) ?_
          refine g_icmp_ne C 46 dX7_doneFor_34 (by decide) (fun c_11 => ?_) (fun c_11 => ?_)
          · skip
            refine g_iconst C (v := 0) dX7_doneFor_46 (by decide) ?_
            refine g_iadd C dX7_doneFor_47 ?_
            refine g_istore_n C (lv1 := [(2, .int ((lpF (fX7_doneFor_L4 μ m) 0 i4) + 0)), (0, .ref (am 0)), (1, .int m), (3, .int (nI i4))]) dX7_doneFor_48 rfl (by decide) rfl ?_
            refine g_iinc C (v := nI (i4 + 1)) (lv1 := [(3, .int (nI (i4 + 1))), (2, .int ((lpF (fX7_doneFor_L4 μ m) 0 i4) + 0)), (0, .ref (am 0)), (1, .int m)]) dX7_doneFor_49 3 rfl (nI_1 i4) (by decide) rfl ?_
            refine g_goto C 4 dX7_doneFor_52 (by decide) ?_
            have e_12 : (lpF (fX7_doneFor_L4 μ m) 0 (i4 + 1)) = (lpF (fX7_doneFor_L4 μ m) 0 i4) + 0 := by
              rw [lpF_1, fX7_doneFor_L4]; rw [if_pos c_8, if_neg c_11]
            have h_13 := ih_4 (i4 + 1) (by omega)
            rw [e_12] at h_13
            exact g_sub [2, 3, 1, 0] rfl h_13
          · skip
            refine g_aload_n C dX7_doneFor_37 rfl 0 rfl ?_
            refine g_iload_n C dX7_doneFor_38 rfl 3 rfl ?_
            refine g_iconst C (v := 0) dX7_doneFor_39 (by decide) ?_
            refine g_callV C (cs1 := [wM E am μ]) (st1 := [.int (fX7_of μ i4 0), .int (lpF (fX7_doneFor_L4 μ m) 0 i4)]) [.int (nI i4), .int 0] [0] (kX7_of l E am μ i4 (by omega) 0 (by decide)) caX7_of q6_151 rfl ⟨Nat.le_of_ble_eq_true rfl, Nat.le_of_ble_eq_true rfl⟩ ⟨Nat.zero_le _, Nat.zero_le _⟩ 0 0 rfl rfl rfl rfl (by decide) rfl rfl rfl rfl (Nat.le_of_ble_eq_true rfl) dX7_doneFor_40 rfl ?_
            refine g_goto C 47 dX7_doneFor_43 (by decide) ?_
            refine g_iadd C dX7_doneFor_47 ?_
            refine g_istore_n C (lv1 := [(2, .int ((lpF (fX7_doneFor_L4 μ m) 0 i4) + (fX7_of μ i4 0))), (0, .ref (am 0)), (1, .int m), (3, .int (nI i4))]) dX7_doneFor_48 rfl (by decide) rfl ?_
            refine g_iinc C (v := nI (i4 + 1)) (lv1 := [(3, .int (nI (i4 + 1))), (2, .int ((lpF (fX7_doneFor_L4 μ m) 0 i4) + (fX7_of μ i4 0))), (0, .ref (am 0)), (1, .int m)]) dX7_doneFor_49 3 rfl (nI_1 i4) (by decide) rfl ?_
            refine g_goto C 4 dX7_doneFor_52 (by decide) ?_
            have e_14 : (lpF (fX7_doneFor_L4 μ m) 0 (i4 + 1)) = (lpF (fX7_doneFor_L4 μ m) 0 i4) + (fX7_of μ i4 0) := by
              rw [lpF_1, fX7_doneFor_L4]; rw [if_pos c_8, if_pos c_11]
            have h_15 := ih_4 (i4 + 1) (by omega)
            rw [e_14] at h_15
            exact g_sub [2, 3, 1, 0] rfl h_15
  refine g_sub [2, 3, 1, 0] (lv1 := [(0, .ref (am 0)), (1, .int m), (2, .int 0), (3, .int 0)]) rfl ?_
  exact hL_3 (cM μ) 0 (by omega)
theorem okOw {μ : BS} (hv : vM μ) {t : Nat} (ht : t < 20) : fX7_of μ t 3 = nI (fX7_of μ t 3).toNatClampNeg ∧ (fX7_of μ t 3).toNatClampNeg < 6 := okI (by decide) (hv.1.2.2 t ht).1
theorem okMi {μ : BS} (hv : vM μ) {t : Nat} (ht : t < 20) : fX7_of μ t 4 = nI (fX7_of μ t 4).toNatClampNeg ∧ (fX7_of μ t 4).toNatClampNeg < 5 := okI (by decide) (hv.1.2.2 t ht).2
theorem lay_0 (μ : BS) (t w : Nat) (v : Int32) : (fX7_lay μ t w v).2 0 0 = μ.2 0 0 := pk_un (by omega)
theorem vM_low {μ : BS} {i : Nat} {v : Int32} (h : vM μ) (h0 : 0 < i) (h1 : i < 13) : vM (sE μ 0 i v) := vM_s h (vS_low h.1 h0 h1)
theorem vM_lowD {μ : BS} {i : Nat} {v : Int32} (h : vM μ) (hi : decide (0 < i ∧ i < 13) = true) : vM (sE μ 0 i v) := vM_low h (of_decide_eq_true hi).1 (of_decide_eq_true hi).2
theorem vM_inc {μ : BS} (h : vM μ) (hr : cM μ < 20) : vM (sE μ 0 0 (μ.2 0 0 + 1)) := vM_s h (vS_inc (c := cM μ + 1) h.1 (by omega) (nx_add h.1.2.1 rfl))
def fX7_opens (μ : BS) (p : Int32) (z : Int32) : Int32 × BS :=
  (μ.2 0 0, (fX7_lay (fX7_lay (fX7_lay (sE μ 0 0 ((μ.2 0 0) + 1)) (cM μ) 0 p) (cM μ) 1 z) (cM μ) 5 ((fX7_lay (fX7_lay (sE μ 0 0 ((μ.2 0 0) + 1)) (cM μ) 0 p) (cM μ) 1 z).2 0 1)))
theorem caX7_opens : gCalV yX7_opens cX7_opens 4 (some .int) 2 := ⟨⟨q6_138, q1_6, by decide +kernel⟩, q6_137, qs_20⟩
set_option maxHeartbeats 4000000 in
set_option maxRecDepth 100000 in
theorem kX7_opens (l : Launch) (E : gE) (am : Nat → Nat) (μ : BS) (hv : vM μ)  (p : Int32) (z : Int32) (hr9 : cM μ < 20) : MC l E yX7_opens cX7_opens 4 (some .int) 1 23 [.ref (am 0), .int p, .int z] [wM E am μ] (some (.int (fX7_opens μ p z).1)) [wM E am ((fX7_opens μ p z).2)] := by
  have hv1 : cM μ ≤ 20 := hv.1.1
  have hc0 : μ.2 0 0 = nI (cM μ) := hv.1.2.1
  refine mc_of (by decide +kernel) (Nat.le_of_ble_eq_true rfl) (lv := [(0, .ref (am 0)), (1, .int p), (2, .int z)]) rfl (fun X C hE => ?_)
  refine g_aload_n C dX7_opens_0 rfl 0 rfl ?_
  refine g_getf C (T := TX7) (N := 15) 0 0 rfl rfl rfl inX7 1 (by decide) q6_71 rfl dX7_opens_1 ?_
  refine g_iconst C (v := 0) dX7_opens_4 (by decide) ?_
  refine g_ialdn C 0 1 0 rfl rfl rfl (by decide) (by decide) dX7_opens_5 ?_
  refine g_istore_n C (lv1 := [(3, .int (μ.2 0 0)), (0, .ref (am 0)), (1, .int p), (2, .int z)]) dX7_opens_6 rfl (by decide) rfl ?_
  refine g_aload_n C dX7_opens_7 rfl 1 rfl ?_
  refine g_getf C (T := TX7) (N := 15) 0 0 rfl rfl rfl inX7 1 (by decide) q6_71 rfl dX7_opens_8 ?_
  refine g_iconst C (v := 0) dX7_opens_11 (by decide) ?_
  refine g_dup2 C dX7_opens_12 rfl rfl ?_
  refine g_ialdn C 0 1 0 rfl rfl rfl (by decide) (by decide) dX7_opens_13 ?_
  refine g_iconst C (v := 1) dX7_opens_14 (by decide) ?_
  refine g_iadd C dX7_opens_15 ?_
  refine g_iastn C (w1 := wM E am (sE μ 0 0 ((μ.2 0 0) + 1))) (cs1 := [wM E am (sE μ 0 0 ((μ.2 0 0) + 1))]) 0 1 0 rfl rfl rfl (by decide) (by decide) rfl rfl dX7_opens_16 ?_
  refine g_aload_n C dX7_opens_17 rfl 1 rfl ?_
  refine g_iload_n C dX7_opens_18 rfl 0 rfl ?_
  refine g_iconst C (v := 0) dX7_opens_19 (by decide) ?_
  refine g_iload_n C dX7_opens_20 rfl 2 rfl ?_
  refine g_st (st1 := [.int p, .int 0, .int (nI (cM μ)), .ref (am 0)]) (by rw [← hc0]) ?_
  refine g_callV C (cs1 := [wM E am (fX7_lay (sE μ 0 0 ((μ.2 0 0) + 1)) (cM μ) 0 p)]) (st1 := []) [.int (nI (cM μ)), .int 0, .int p] [0] (kX7_lay l E am (sE μ 0 0 ((μ.2 0 0) + 1)) (cM μ) hr9 0 (by decide) p) caX7_lay q6_139 rfl ⟨Nat.le_of_ble_eq_true rfl, Nat.le_of_ble_eq_true rfl⟩ ⟨Nat.zero_le _, Nat.zero_le _⟩ 0 0 rfl rfl rfl rfl (by decide) rfl rfl rfl rfl (Nat.le_of_ble_eq_true rfl) dX7_opens_21 rfl ?_
  refine g_aload_n C dX7_opens_24 rfl 1 rfl ?_
  refine g_iload_n C dX7_opens_25 rfl 0 rfl ?_
  refine g_iconst C (v := 1) dX7_opens_26 (by decide) ?_
  refine g_iload_n C dX7_opens_27 rfl 3 rfl ?_
  refine g_st (st1 := [.int z, .int 1, .int (nI (cM μ)), .ref (am 0)]) (by rw [← hc0]) ?_
  refine g_callV C (cs1 := [wM E am (fX7_lay (fX7_lay (sE μ 0 0 ((μ.2 0 0) + 1)) (cM μ) 0 p) (cM μ) 1 z)]) (st1 := []) [.int (nI (cM μ)), .int 1, .int z] [0] (kX7_lay l E am (fX7_lay (sE μ 0 0 ((μ.2 0 0) + 1)) (cM μ) 0 p) (cM μ) hr9 1 (by decide) z) caX7_lay q6_139 rfl ⟨Nat.le_of_ble_eq_true rfl, Nat.le_of_ble_eq_true rfl⟩ ⟨Nat.zero_le _, Nat.zero_le _⟩ 0 0 rfl rfl rfl rfl (by decide) rfl rfl rfl rfl (Nat.le_of_ble_eq_true rfl) dX7_opens_28 rfl ?_
  refine g_aload_n C dX7_opens_31 rfl 1 rfl ?_
  refine g_iload_n C dX7_opens_32 rfl 0 rfl ?_
  refine g_iconst C (v := 5) dX7_opens_33 (by decide) ?_
  refine g_aload_n C dX7_opens_34 rfl 1 rfl ?_
  refine g_getf C (T := TX7) (N := 15) 0 0 rfl rfl rfl inX7 1 (by decide) q6_71 rfl dX7_opens_35 ?_
  refine g_iconst C (v := 1) dX7_opens_38 (by decide) ?_
  refine g_ialdn C 0 1 1 rfl rfl rfl (by decide) (by decide) dX7_opens_39 ?_
  refine g_st (st1 := [.int ((fX7_lay (fX7_lay (sE μ 0 0 ((μ.2 0 0) + 1)) (cM μ) 0 p) (cM μ) 1 z).2 0 1), .int 5, .int (nI (cM μ)), .ref (am 0)]) (by rw [← hc0]) ?_
  refine g_callV C (cs1 := [wM E am (fX7_lay (fX7_lay (fX7_lay (sE μ 0 0 ((μ.2 0 0) + 1)) (cM μ) 0 p) (cM μ) 1 z) (cM μ) 5 ((fX7_lay (fX7_lay (sE μ 0 0 ((μ.2 0 0) + 1)) (cM μ) 0 p) (cM μ) 1 z).2 0 1))]) (st1 := []) [.int (nI (cM μ)), .int 5, .int ((fX7_lay (fX7_lay (sE μ 0 0 ((μ.2 0 0) + 1)) (cM μ) 0 p) (cM μ) 1 z).2 0 1)] [0] (kX7_lay l E am (fX7_lay (fX7_lay (sE μ 0 0 ((μ.2 0 0) + 1)) (cM μ) 0 p) (cM μ) 1 z) (cM μ) hr9 5 (by decide) ((fX7_lay (fX7_lay (sE μ 0 0 ((μ.2 0 0) + 1)) (cM μ) 0 p) (cM μ) 1 z).2 0 1)) caX7_lay q6_139 rfl ⟨Nat.le_of_ble_eq_true rfl, Nat.le_of_ble_eq_true rfl⟩ ⟨Nat.zero_le _, Nat.zero_le _⟩ 0 0 rfl rfl rfl rfl (by decide) rfl rfl rfl rfl (Nat.le_of_ble_eq_true rfl) dX7_opens_40 rfl ?_
  refine g_iload_n C dX7_opens_43 rfl 0 rfl ?_
  have e_1 : fX7_opens μ p z = (μ.2 0 0, (fX7_lay (fX7_lay (fX7_lay (sE μ 0 0 ((μ.2 0 0) + 1)) (cM μ) 0 p) (cM μ) 1 z) (cM μ) 5 ((fX7_lay (fX7_lay (sE μ 0 0 ((μ.2 0 0) + 1)) (cM μ) 0 p) (cM μ) 1 z).2 0 1))) := by rw [fX7_opens]
  exact g_iret C hE (by rw [e_1]) (by rw [e_1]) dX7_opens_44
theorem vM_opens {μ : BS} {p z : Int32} (h : vM μ) (hr : cM μ < 20) : vM (fX7_opens μ p z).2 := vM_layD (vM_layD (vM_layD (vM_inc h hr) rfl) rfl) rfl
def fX7_canNeed (μ : BS) (t : Nat) (u : Nat) : Bool :=
  if (nI t) = (nI u) then false else (if (fX7_needsIt μ t (nI u)) = true then false else (if (fX7_isLeft μ t) = true then (if (((fX7_allNeeds μ u) >>> ((nI t) &&& 31)) &&& 1) = 0 then true else false) else false))
theorem caX7_canNeed : gCalV yX7_canNeed cX7_canNeed 3 (some .boolean) 2 := ⟨⟨q6_178, q1_6, by decide +kernel⟩, q6_177, qs_27⟩
set_option maxHeartbeats 4000000 in
set_option maxRecDepth 100000 in
theorem kX7_canNeed (l : Launch) (E : gE) (am : Nat → Nat) (μ : BS) (hv : vM μ)  (t : Nat) (ht : t < 20) (u : Nat) (hu : u < 20) : MC l E yX7_canNeed cX7_canNeed 3 (some .boolean) 2 46 [.ref (am 0), .int (nI t), .int (nI u)] [wM E am μ] (some (.int (b2i (fX7_canNeed μ t u)))) [wM E am μ] := by
  have hv1 : cM μ ≤ 20 := hv.1.1
  have hc0 : μ.2 0 0 = nI (cM μ) := hv.1.2.1
  refine mc_of (by decide +kernel) (Nat.le_of_ble_eq_true rfl) (lv := [(0, .ref (am 0)), (1, .int (nI t)), (2, .int (nI u))]) rfl (fun X C hE => ?_)
  refine g_iload_n C dX7_canNeed_0 rfl 1 rfl ?_
  refine g_iload_n C dX7_canNeed_1 rfl 2 rfl ?_
  refine g_icmp_eq C 38 dX7_canNeed_2 (by decide) (fun c_1 => ?_) (fun c_1 => ?_)
  · skip
    refine g_iconst C (v := 0) dX7_canNeed_38 (by decide) ?_
    have e_2 : fX7_canNeed μ t u = false := by rw [fX7_canNeed]; rw [if_pos c_1]
    exact g_zret (b := false) C hE (by rw [e_2]) rfl rfl dX7_canNeed_39
  · skip
    refine g_aload_n C dX7_canNeed_5 rfl 0 rfl ?_
    refine g_iload_n C dX7_canNeed_6 rfl 1 rfl ?_
    refine g_iload_n C dX7_canNeed_7 rfl 2 rfl ?_
    refine g_callV C (cs1 := [wM E am μ]) (st1 := [.int (b2i (fX7_needsIt μ t (nI u)))]) [.int (nI t), .int (nI u)] [0] (kX7_needsIt l E am μ t (by omega) (nI u)) caX7_needsIt q6_179 rfl ⟨Nat.le_of_ble_eq_true rfl, Nat.le_of_ble_eq_true rfl⟩ ⟨Nat.zero_le _, Nat.zero_le _⟩ 0 0 rfl rfl rfl rfl (by decide) rfl rfl rfl rfl (Nat.le_of_ble_eq_true rfl) dX7_canNeed_8 rfl ?_
    refine g_ifB_ne C 38 dX7_canNeed_11 (by decide) (fun c_3 => ?_) (fun c_3 => ?_)
    · skip
      refine g_iconst C (v := 0) dX7_canNeed_38 (by decide) ?_
      have e_4 : fX7_canNeed μ t u = false := by rw [fX7_canNeed]; rw [if_neg c_1, if_pos c_3]
      exact g_zret (b := false) C hE (by rw [e_4]) rfl rfl dX7_canNeed_39
    · skip
      refine g_aload_n C dX7_canNeed_14 rfl 0 rfl ?_
      refine g_iload_n C dX7_canNeed_15 rfl 1 rfl ?_
      refine g_callV C (cs1 := [wM E am μ]) (st1 := [.int (b2i (fX7_isLeft μ t))]) [.int (nI t)] [0] (kX7_isLeft l E am μ t (by omega)) caX7_isLeft q6_155 rfl ⟨Nat.le_of_ble_eq_true rfl, Nat.le_of_ble_eq_true rfl⟩ ⟨Nat.zero_le _, Nat.zero_le _⟩ 0 0 rfl rfl rfl rfl (by decide) rfl rfl rfl rfl (Nat.le_of_ble_eq_true rfl) dX7_canNeed_16 rfl ?_
      refine g_ifB_eq C 38 dX7_canNeed_19 (by decide) (fun c_5 => ?_) (fun c_5 => ?_)
      · skip
        refine g_iconst C (v := 0) dX7_canNeed_38 (by decide) ?_
        have e_6 : fX7_canNeed μ t u = false := by rw [fX7_canNeed]; rw [if_neg c_1, if_neg (ne_true_of_eq_false c_3), if_neg (ne_true_of_eq_false c_5)]
        exact g_zret (b := false) C hE (by rw [e_6]) rfl rfl dX7_canNeed_39
      · skip
        refine g_aload_n C dX7_canNeed_22 rfl 0 rfl ?_
        refine g_iload_n C dX7_canNeed_23 rfl 2 rfl ?_
        refine g_callV C (cs1 := [wM E am μ]) (st1 := [.int (fX7_allNeeds μ u)]) [.int (nI u)] [0] (kX7_allNeeds l E am μ hv u (by omega)) caX7_allNeeds q6_183 rfl ⟨Nat.le_of_ble_eq_true rfl, Nat.le_of_ble_eq_true rfl⟩ ⟨Nat.zero_le _, Nat.zero_le _⟩ 0 0 rfl rfl rfl rfl (by decide) rfl rfl rfl rfl (Nat.le_of_ble_eq_true rfl) dX7_canNeed_24 rfl ?_
        refine g_iload_n C dX7_canNeed_27 rfl 1 rfl ?_
        refine g_ishr C dX7_canNeed_28 ?_
        refine g_iconst C (v := 1) dX7_canNeed_29 (by decide) ?_
        refine g_iand C dX7_canNeed_30 ?_
        refine g_if_ne C 38 dX7_canNeed_31 (by decide) (fun c_7 => ?_) (fun c_7 => ?_)
        · skip
          refine g_iconst C (v := 0) dX7_canNeed_38 (by decide) ?_
          have e_8 : fX7_canNeed μ t u = false := by rw [fX7_canNeed]; rw [if_neg c_1, if_neg (ne_true_of_eq_false c_3), if_pos c_5, if_neg c_7]
          exact g_zret (b := false) C hE (by rw [e_8]) rfl rfl dX7_canNeed_39
        · skip
          refine g_iconst C (v := 1) dX7_canNeed_34 (by decide) ?_
          refine g_goto C 39 dX7_canNeed_35 (by decide) ?_
          have e_9 : fX7_canNeed μ t u = true := by rw [fX7_canNeed]; rw [if_neg c_1, if_neg (ne_true_of_eq_false c_3), if_pos c_5, if_pos c_7]
          exact g_zret (b := true) C hE (by rw [e_9]) rfl rfl dX7_canNeed_39
def fX7_takesNeed (μ : BS) (t : Nat) (u : Int32) : Int32 × BS :=
  ((fX7_bits (fX7_of (fX7_lay μ t 9 ((fX7_of μ t 9) ^^^ (1 <<< (u &&& 31)))) t 9)), (fX7_lay μ t 9 ((fX7_of μ t 9) ^^^ (1 <<< (u &&& 31)))))
theorem caX7_takesNeed : gCalV yX7_takesNeed cX7_takesNeed 3 (some .int) 2 := ⟨⟨q6_190, q1_6, by decide +kernel⟩, q6_189, qs_30⟩
set_option maxHeartbeats 4000000 in
set_option maxRecDepth 100000 in
theorem kX7_takesNeed (l : Launch) (E : gE) (am : Nat → Nat) (μ : BS) (hv : vM μ)  (t : Nat) (ht : t < 20) (u : Int32) : MC l E yX7_takesNeed cX7_takesNeed 3 (some .int) 1 23 [.ref (am 0), .int (nI t), .int u] [wM E am μ] (some (.int (fX7_takesNeed μ t u).1)) [wM E am ((fX7_takesNeed μ t u).2)] := by
  have hv1 : cM μ ≤ 20 := hv.1.1
  have hc0 : μ.2 0 0 = nI (cM μ) := hv.1.2.1
  refine mc_of (by decide +kernel) (Nat.le_of_ble_eq_true rfl) (lv := [(0, .ref (am 0)), (1, .int (nI t)), (2, .int u)]) rfl (fun X C hE => ?_)
  refine g_aload_n C dX7_takesNeed_0 rfl 0 rfl ?_
  refine g_iload_n C dX7_takesNeed_1 rfl 1 rfl ?_
  refine g_bipush C (v := 9) dX7_takesNeed_2 (by decide) ?_
  refine g_aload_n C dX7_takesNeed_4 rfl 0 rfl ?_
  refine g_iload_n C dX7_takesNeed_5 rfl 1 rfl ?_
  refine g_bipush C (v := 9) dX7_takesNeed_6 (by decide) ?_
  refine g_callV C (cs1 := [wM E am μ]) (st1 := [.int (fX7_of μ t 9), .int 9, .int (nI t), .ref (am 0)]) [.int (nI t), .int 9] [0] (kX7_of l E am μ t (by omega) 9 (by decide)) caX7_of q6_151 rfl ⟨Nat.le_of_ble_eq_true rfl, Nat.le_of_ble_eq_true rfl⟩ ⟨Nat.zero_le _, Nat.zero_le _⟩ 0 0 rfl rfl rfl rfl (by decide) rfl rfl rfl rfl (Nat.le_of_ble_eq_true rfl) dX7_takesNeed_8 rfl ?_
  refine g_iconst C (v := 1) dX7_takesNeed_11 (by decide) ?_
  refine g_iload_n C dX7_takesNeed_12 rfl 2 rfl ?_
  refine g_ishl C dX7_takesNeed_13 ?_
  refine g_ixor C dX7_takesNeed_14 ?_
  refine g_callV C (cs1 := [wM E am (fX7_lay μ t 9 ((fX7_of μ t 9) ^^^ (1 <<< (u &&& 31))))]) (st1 := []) [.int (nI t), .int 9, .int ((fX7_of μ t 9) ^^^ (1 <<< (u &&& 31)))] [0] (kX7_lay l E am μ t (by omega) 9 (by decide) ((fX7_of μ t 9) ^^^ (1 <<< (u &&& 31)))) caX7_lay q6_139 rfl ⟨Nat.le_of_ble_eq_true rfl, Nat.le_of_ble_eq_true rfl⟩ ⟨Nat.zero_le _, Nat.zero_le _⟩ 0 0 rfl rfl rfl rfl (by decide) rfl rfl rfl rfl (Nat.le_of_ble_eq_true rfl) dX7_takesNeed_15 rfl ?_
  refine g_aload_n C dX7_takesNeed_18 rfl 0 rfl ?_
  refine g_iload_n C dX7_takesNeed_19 rfl 1 rfl ?_
  refine g_bipush C (v := 9) dX7_takesNeed_20 (by decide) ?_
  refine g_callV C (cs1 := [wM E am (fX7_lay μ t 9 ((fX7_of μ t 9) ^^^ (1 <<< (u &&& 31))))]) (st1 := [.int (fX7_of (fX7_lay μ t 9 ((fX7_of μ t 9) ^^^ (1 <<< (u &&& 31)))) t 9)]) [.int (nI t), .int 9] [0] (kX7_of l E am (fX7_lay μ t 9 ((fX7_of μ t 9) ^^^ (1 <<< (u &&& 31)))) t (by omega) 9 (by decide)) caX7_of q6_151 rfl ⟨Nat.le_of_ble_eq_true rfl, Nat.le_of_ble_eq_true rfl⟩ ⟨Nat.zero_le _, Nat.zero_le _⟩ 0 0 rfl rfl rfl rfl (by decide) rfl rfl rfl rfl (Nat.le_of_ble_eq_true rfl) dX7_takesNeed_22 rfl ?_
  refine g_callS C (cs1 := [wM E am (fX7_lay μ t 9 ((fX7_of μ t 9) ^^^ (1 <<< (u &&& 31))))]) (st1 := [.int (fX7_bits (fX7_of (fX7_lay μ t 9 ((fX7_of μ t 9) ^^^ (1 <<< (u &&& 31)))) t 9))]) [.int (fX7_of (fX7_lay μ t 9 ((fX7_of μ t 9) ^^^ (1 <<< (u &&& 31)))) t 9)] [] (kX7_bits l E (fX7_of (fX7_lay μ t 9 ((fX7_of μ t 9) ^^^ (1 <<< (u &&& 31)))) t 9)) caX7_bits q6_191 rfl ⟨Nat.le_of_ble_eq_true rfl, Nat.le_of_ble_eq_true rfl⟩ ⟨Nat.zero_le _, Nat.zero_le _⟩ (by decide) rfl rfl rfl rfl (Nat.le_of_ble_eq_true rfl) dX7_takesNeed_25 rfl ?_
  have e_1 : fX7_takesNeed μ t u = ((fX7_bits (fX7_of (fX7_lay μ t 9 ((fX7_of μ t 9) ^^^ (1 <<< (u &&& 31)))) t 9)), (fX7_lay μ t 9 ((fX7_of μ t 9) ^^^ (1 <<< (u &&& 31))))) := by rw [fX7_takesNeed]
  exact g_iret C hE (by rw [e_1]) (by rw [e_1]) dX7_takesNeed_28
def fX7_canAssign (μ : BS) (t : Nat) (o : Nat) : Bool :=
  if (fX7_isLeft μ t) = true then (if (fX7_of μ t 3) = ((nI o) + 1) then false else (if (fX7_canTake μ (o + 1) (fX7_of μ t 0)) = true then true else false)) else false
theorem caX7_canAssign : gCalV yX7_canAssign cX7_canAssign 3 (some .boolean) 2 := ⟨⟨q6_208, q1_6, by decide +kernel⟩, q6_207, qs_31⟩
set_option maxHeartbeats 4000000 in
set_option maxRecDepth 100000 in
theorem kX7_canAssign (l : Launch) (E : gE) (am : Nat → Nat) (μ : BS) (hv : vM μ)  (t : Nat) (ht : t < 20) (o : Nat) (ho : o < 5) : MC l E yX7_canAssign cX7_canAssign 3 (some .boolean) 4 88 [.ref (am 0), .int (nI t), .int (nI o)] [wM E am μ] (some (.int (b2i (fX7_canAssign μ t o)))) [wM E am μ] := by
  have hv1 : cM μ ≤ 20 := hv.1.1
  have hc0 : μ.2 0 0 = nI (cM μ) := hv.1.2.1
  refine mc_of (by decide +kernel) (Nat.le_of_ble_eq_true rfl) (lv := [(0, .ref (am 0)), (1, .int (nI t)), (2, .int (nI o))]) rfl (fun X C hE => ?_)
  refine g_aload_n C dX7_canAssign_0 rfl 0 rfl ?_
  refine g_iload_n C dX7_canAssign_1 rfl 1 rfl ?_
  refine g_callV C (cs1 := [wM E am μ]) (st1 := [.int (b2i (fX7_isLeft μ t))]) [.int (nI t)] [0] (kX7_isLeft l E am μ t (by omega)) caX7_isLeft q6_155 rfl ⟨Nat.le_of_ble_eq_true rfl, Nat.le_of_ble_eq_true rfl⟩ ⟨Nat.zero_le _, Nat.zero_le _⟩ 0 0 rfl rfl rfl rfl (by decide) rfl rfl rfl rfl (Nat.le_of_ble_eq_true rfl) dX7_canAssign_2 rfl ?_
  refine g_ifB_eq C 40 dX7_canAssign_5 (by decide) (fun c_1 => ?_) (fun c_1 => ?_)
  · skip
    refine g_iconst C (v := 0) dX7_canAssign_40 (by decide) ?_
    have e_2 : fX7_canAssign μ t o = false := by rw [fX7_canAssign]; rw [if_neg (ne_true_of_eq_false c_1)]
    exact g_zret (b := false) C hE (by rw [e_2]) rfl rfl dX7_canAssign_41
  · skip
    refine g_aload_n C dX7_canAssign_8 rfl 0 rfl ?_
    refine g_iload_n C dX7_canAssign_9 rfl 1 rfl ?_
    refine g_iconst C (v := 3) dX7_canAssign_10 (by decide) ?_
    refine g_callV C (cs1 := [wM E am μ]) (st1 := [.int (fX7_of μ t 3)]) [.int (nI t), .int 3] [0] (kX7_of l E am μ t (by omega) 3 (by decide)) caX7_of q6_151 rfl ⟨Nat.le_of_ble_eq_true rfl, Nat.le_of_ble_eq_true rfl⟩ ⟨Nat.zero_le _, Nat.zero_le _⟩ 0 0 rfl rfl rfl rfl (by decide) rfl rfl rfl rfl (Nat.le_of_ble_eq_true rfl) dX7_canAssign_11 rfl ?_
    refine g_iload_n C dX7_canAssign_14 rfl 2 rfl ?_
    refine g_iconst C (v := 1) dX7_canAssign_15 (by decide) ?_
    refine g_iadd C dX7_canAssign_16 ?_
    refine g_icmp_eq C 40 dX7_canAssign_17 (by decide) (fun c_3 => ?_) (fun c_3 => ?_)
    · skip
      refine g_iconst C (v := 0) dX7_canAssign_40 (by decide) ?_
      have e_4 : fX7_canAssign μ t o = false := by rw [fX7_canAssign]; rw [if_pos c_1, if_pos c_3]
      exact g_zret (b := false) C hE (by rw [e_4]) rfl rfl dX7_canAssign_41
    · skip
      refine g_aload_n C dX7_canAssign_20 rfl 0 rfl ?_
      refine g_iload_n C dX7_canAssign_21 rfl 2 rfl ?_
      refine g_iconst C (v := 1) dX7_canAssign_22 (by decide) ?_
      refine g_iadd C dX7_canAssign_23 ?_
      refine g_aload_n C dX7_canAssign_24 rfl 0 rfl ?_
      refine g_iload_n C dX7_canAssign_25 rfl 1 rfl ?_
      refine g_iconst C (v := 0) dX7_canAssign_26 (by decide) ?_
      refine g_callV C (cs1 := [wM E am μ]) (st1 := [.int (fX7_of μ t 0), .int ((nI o) + 1), .ref (am 0)]) [.int (nI t), .int 0] [0] (kX7_of l E am μ t (by omega) 0 (by decide)) caX7_of q6_151 rfl ⟨Nat.le_of_ble_eq_true rfl, Nat.le_of_ble_eq_true rfl⟩ ⟨Nat.zero_le _, Nat.zero_le _⟩ 0 0 rfl rfl rfl rfl (by decide) rfl rfl rfl rfl (Nat.le_of_ble_eq_true rfl) dX7_canAssign_27 rfl ?_
      refine g_st (st1 := [.int (fX7_of μ t 0), .int (nI (o + 1)), .ref (am 0)]) (by rw [(show (nI o) + 1 = nI (o + 1) from (nx_add rfl rfl))]) ?_
      refine g_callV C (cs1 := [wM E am μ]) (st1 := [.int (b2i (fX7_canTake μ (o + 1) (fX7_of μ t 0)))]) [.int (nI (o + 1)), .int (fX7_of μ t 0)] [0] (kX7_canTake l E am μ hv (o + 1) (by omega) (fX7_of μ t 0)) caX7_canTake q6_159 rfl ⟨Nat.le_of_ble_eq_true rfl, Nat.le_of_ble_eq_true rfl⟩ ⟨Nat.zero_le _, Nat.zero_le _⟩ 0 0 rfl rfl rfl rfl (by decide) rfl rfl rfl rfl (Nat.le_of_ble_eq_true rfl) dX7_canAssign_30 rfl ?_
      refine g_ifB_eq C 40 dX7_canAssign_33 (by decide) (fun c_5 => ?_) (fun c_5 => ?_)
      · skip
        refine g_iconst C (v := 0) dX7_canAssign_40 (by decide) ?_
        have e_6 : fX7_canAssign μ t o = false := by rw [fX7_canAssign]; rw [if_pos c_1, if_neg c_3, if_neg (ne_true_of_eq_false c_5)]
        exact g_zret (b := false) C hE (by rw [e_6]) rfl rfl dX7_canAssign_41
      · skip
        refine g_iconst C (v := 1) dX7_canAssign_36 (by decide) ?_
        refine g_goto C 41 dX7_canAssign_37 (by decide) ?_
        have e_7 : fX7_canAssign μ t o = true := by rw [fX7_canAssign]; rw [if_pos c_1, if_neg c_3, if_pos c_5]
        exact g_zret (b := true) C hE (by rw [e_7]) rfl rfl dX7_canAssign_41
def fX7_assigns (μ : BS) (t : Nat) (o : Nat) : Int32 × BS :=
  ((fX7_load (fX7_lay μ t 3 ((nI o) + 1)) (nI o)), (fX7_lay μ t 3 ((nI o) + 1)))
theorem caX7_assigns : gCalV yX7_assigns cX7_assigns 3 (some .int) 2 := ⟨⟨q6_212, q1_6, by decide +kernel⟩, q6_211, qs_32⟩
set_option maxHeartbeats 4000000 in
set_option maxRecDepth 100000 in
theorem kX7_assigns (l : Launch) (E : gE) (am : Nat → Nat) (μ : BS) (hv : vM μ)  (t : Nat) (ht : t < 20) (o : Nat) (ho : o < 5) : MC l E yX7_assigns cX7_assigns 3 (some .int) 3 66 [.ref (am 0), .int (nI t), .int (nI o)] [wM E am μ] (some (.int (fX7_assigns μ t o).1)) [wM E am ((fX7_assigns μ t o).2)] := by
  have hv1 : cM μ ≤ 20 := hv.1.1
  have hc0 : μ.2 0 0 = nI (cM μ) := hv.1.2.1
  refine mc_of (by decide +kernel) (Nat.le_of_ble_eq_true rfl) (lv := [(0, .ref (am 0)), (1, .int (nI t)), (2, .int (nI o))]) rfl (fun X C hE => ?_)
  refine g_aload_n C dX7_assigns_0 rfl 0 rfl ?_
  refine g_iload_n C dX7_assigns_1 rfl 1 rfl ?_
  refine g_iconst C (v := 3) dX7_assigns_2 (by decide) ?_
  refine g_iload_n C dX7_assigns_3 rfl 2 rfl ?_
  refine g_iconst C (v := 1) dX7_assigns_4 (by decide) ?_
  refine g_iadd C dX7_assigns_5 ?_
  refine g_callV C (cs1 := [wM E am (fX7_lay μ t 3 ((nI o) + 1))]) (st1 := []) [.int (nI t), .int 3, .int ((nI o) + 1)] [0] (kX7_lay l E am μ t (by omega) 3 (by decide) ((nI o) + 1)) caX7_lay q6_139 rfl ⟨Nat.le_of_ble_eq_true rfl, Nat.le_of_ble_eq_true rfl⟩ ⟨Nat.zero_le _, Nat.zero_le _⟩ 0 0 rfl rfl rfl rfl (by decide) rfl rfl rfl rfl (Nat.le_of_ble_eq_true rfl) dX7_assigns_6 rfl ?_
  refine g_aload_n C dX7_assigns_9 rfl 0 rfl ?_
  refine g_iload_n C dX7_assigns_10 rfl 2 rfl ?_
  refine g_callV C (cs1 := [wM E am (fX7_lay μ t 3 ((nI o) + 1))]) (st1 := [.int (fX7_load (fX7_lay μ t 3 ((nI o) + 1)) (nI o))]) [.int (nI o)] [0] (kX7_load l E am (fX7_lay μ t 3 ((nI o) + 1)) (vM_lay hv (by decide) (fun _ => ⟨o + 1, by omega, nI_1 o⟩) (fun e => absurd e (by decide))) (nI o)) caX7_load q6_163 rfl ⟨Nat.le_of_ble_eq_true rfl, Nat.le_of_ble_eq_true rfl⟩ ⟨Nat.zero_le _, Nat.zero_le _⟩ 0 0 rfl rfl rfl rfl (by decide) rfl rfl rfl rfl (Nat.le_of_ble_eq_true rfl) dX7_assigns_11 rfl ?_
  have e_1 : fX7_assigns μ t o = ((fX7_load (fX7_lay μ t 3 ((nI o) + 1)) (nI o)), (fX7_lay μ t 3 ((nI o) + 1))) := by rw [fX7_assigns]
  exact g_iret C hE (by rw [e_1]) (by rw [e_1]) dX7_assigns_14
theorem vM_assigns {μ : BS} {t o : Nat} (h : vM μ) (ho : o < 5) : vM (fX7_assigns μ t o).2 := vM_lay h (by decide) (fun _ => ⟨o + 1, by omega, nI_1 o⟩) (fun e => absurd e (by decide))
def fX7_ends_L12 (μ : BS) (d : Int32) (i12 : Nat) (t12 : BS) : BS :=
  if (fX7_of t12 i12 2) = 1 then (fX7_lay t12 i12 7 ((fX7_of t12 i12 7) + d)) else (fX7_lay t12 i12 7 ((fX7_of t12 i12 7) + 0))
def fX7_ends (μ : BS) (d : Int32) : Int32 × BS :=
  ((lpF (fX7_ends_L12 μ d) (sE μ 0 1 ((μ.2 0 1) + d)) (cM μ)).2 0 1, (lpF (fX7_ends_L12 μ d) (sE μ 0 1 ((μ.2 0 1) + d)) (cM μ)))
theorem caX7_ends : gCalV yX7_ends cX7_ends 3 (some .int) 1 := ⟨⟨q7_7, q1_6, by decide +kernel⟩, q7_6, qs_34⟩
set_option maxHeartbeats 4000000 in
set_option maxRecDepth 100000 in
theorem kX7_ends (l : Launch) (E : gE) (am : Nat → Nat) (μ : BS) (hv : vM μ)  (d : Int32) : MC l E yX7_ends cX7_ends 3 (some .int) 1 23 [.ref (am 0), .int d] [wM E am μ] (some (.int (fX7_ends μ d).1)) [wM E am ((fX7_ends μ d).2)] := by
  have hv1 : cM μ ≤ 20 := hv.1.1
  have hc0 : μ.2 0 0 = nI (cM μ) := hv.1.2.1
  refine mc_of (by decide +kernel) (Nat.le_of_ble_eq_true rfl) (lv := [(0, .ref (am 0)), (1, .int d)]) rfl (fun X C hE => ?_)
  refine g_aload_n C dX7_ends_0 rfl 0 rfl ?_
  refine g_getf C (T := TX7) (N := 15) 0 0 rfl rfl rfl inX7 1 (by decide) q6_71 rfl dX7_ends_1 ?_
  refine g_iconst C (v := 1) dX7_ends_4 (by decide) ?_
  refine g_dup2 C dX7_ends_5 rfl rfl ?_
  refine g_ialdn C 0 1 1 rfl rfl rfl (by decide) (by decide) dX7_ends_6 ?_
  refine g_iload_n C dX7_ends_7 rfl 1 rfl ?_
  refine g_iadd C dX7_ends_8 ?_
  refine g_iastn C (w1 := wM E am (sE μ 0 1 ((μ.2 0 1) + d))) (cs1 := [wM E am (sE μ 0 1 ((μ.2 0 1) + d))]) 0 1 1 rfl rfl rfl (by decide) (by decide) rfl rfl dX7_ends_9 ?_
  refine g_iconst C (v := 0) dX7_ends_10 (by decide) ?_
  refine g_istore_n C (lv1 := [(2, .int 0), (0, .ref (am 0)), (1, .int d)]) dX7_ends_11 rfl (by decide) rfl ?_
  have hL_3 : ∀ d_1 i12 : Nat, i12 + d_1 = (cM μ) → G X 0 0 [wM E am (lpF (fX7_ends_L12 μ d) (sE μ 0 1 ((μ.2 0 1) + d)) i12)] [(0, .ref (am 0)), (1, .int d), (2, .int (nI i12))] 12 [] := by
    intro d_1
    induction d_1 with
    | zero =>
      intro i12 hi_2
      obtain rfl : i12 = (cM μ) := by omega
      have hs1 : (vM (lpF (fX7_ends_L12 μ d) (sE μ 0 1 ((μ.2 0 1) + d)) (cM μ)) ∧ (lpF (fX7_ends_L12 μ d) (sE μ 0 1 ((μ.2 0 1) + d)) (cM μ)).2 0 0 = μ.2 0 0) := lpF_inv (f := fX7_ends_L12 μ d) (a := sE μ 0 1 ((μ.2 0 1) + d)) (fun x => (vM x ∧ x.2 0 0 = μ.2 0 0)) ⟨vM_lowD (i := 1) hv rfl, rfl⟩ (fun i x h => (by unfold fX7_ends_L12; split <;> exact ⟨vM_layD h.1 rfl, (lay_0 _ _ _ _).trans h.2⟩)) (cM μ)
      refine g_iload_n C dX7_ends_12 rfl 2 rfl ?_
      refine g_aload_n C dX7_ends_13 rfl 0 rfl ?_
      refine g_getf C (T := TX7) (N := 15) 0 0 rfl rfl rfl inX7 1 (by decide) q6_71 rfl dX7_ends_14 ?_
      refine g_iconst C (v := 0) dX7_ends_17 (by decide) ?_
      refine g_ialdn C 0 1 0 rfl rfl rfl (by decide) (by decide) dX7_ends_18 ?_
      refine g_icmp_ge C 58 dX7_ends_19 (by decide) (fun c_5 => ?_) (fun c_5 => ?_)
      · skip
        refine g_aload_n C dX7_ends_58 rfl 0 rfl ?_
        refine g_getf C (T := TX7) (N := 15) 0 0 rfl rfl rfl inX7 1 (by decide) q6_71 rfl dX7_ends_59 ?_
        refine g_iconst C (v := 1) dX7_ends_62 (by decide) ?_
        refine g_ialdn C 0 1 1 rfl rfl rfl (by decide) (by decide) dX7_ends_63 ?_
        have e_6 : fX7_ends μ d = ((lpF (fX7_ends_L12 μ d) (sE μ 0 1 ((μ.2 0 1) + d)) (cM μ)).2 0 1, (lpF (fX7_ends_L12 μ d) (sE μ 0 1 ((μ.2 0 1) + d)) (cM μ))) := by rw [fX7_ends]
        exact g_iret C hE (by rw [e_6]) (by rw [e_6]) dX7_ends_64
      · exact absurd (lc_le rfl (hs1.2.trans hc0) (by omega) (by omega)) c_5
    | succ d_1 ih_4 =>
      intro i12 hi_2
      have hs1 : (vM (lpF (fX7_ends_L12 μ d) (sE μ 0 1 ((μ.2 0 1) + d)) i12) ∧ (lpF (fX7_ends_L12 μ d) (sE μ 0 1 ((μ.2 0 1) + d)) i12).2 0 0 = μ.2 0 0) := lpF_inv (f := fX7_ends_L12 μ d) (a := sE μ 0 1 ((μ.2 0 1) + d)) (fun x => (vM x ∧ x.2 0 0 = μ.2 0 0)) ⟨vM_lowD (i := 1) hv rfl, rfl⟩ (fun i x h => (by unfold fX7_ends_L12; split <;> exact ⟨vM_layD h.1 rfl, (lay_0 _ _ _ _).trans h.2⟩)) i12
      refine g_iload_n C dX7_ends_12 rfl 2 rfl ?_
      refine g_aload_n C dX7_ends_13 rfl 0 rfl ?_
      refine g_getf C (T := TX7) (N := 15) 0 0 rfl rfl rfl inX7 1 (by decide) q6_71 rfl dX7_ends_14 ?_
      refine g_iconst C (v := 0) dX7_ends_17 (by decide) ?_
      refine g_ialdn C 0 1 0 rfl rfl rfl (by decide) (by decide) dX7_ends_18 ?_
      refine g_icmp_ge C 58 dX7_ends_19 (by decide) (fun c_7 => ?_) (fun c_7 => ?_)
      · exact absurd c_7 (lc_nle rfl (hs1.2.trans hc0) (by omega) (by omega))
      · skip
        refine g_aload_n C dX7_ends_22 rfl 0 rfl ?_
        refine g_iload_n C dX7_ends_23 rfl 2 rfl ?_
        refine g_bipush C (v := 7) dX7_ends_24 (by decide) ?_
        refine g_aload_n C dX7_ends_26 rfl 0 rfl ?_
        refine g_iload_n C dX7_ends_27 rfl 2 rfl ?_
        refine g_bipush C (v := 7) dX7_ends_28 (by decide) ?_
        refine g_callV C (cs1 := [wM E am (lpF (fX7_ends_L12 μ d) (sE μ 0 1 ((μ.2 0 1) + d)) i12)]) (st1 := [.int (fX7_of (lpF (fX7_ends_L12 μ d) (sE μ 0 1 ((μ.2 0 1) + d)) i12) i12 7), .int 7, .int (nI i12), .ref (am 0)]) [.int (nI i12), .int 7] [0] (kX7_of l E am (lpF (fX7_ends_L12 μ d) (sE μ 0 1 ((μ.2 0 1) + d)) i12) i12 (by omega) 7 (by decide)) caX7_of q6_151 rfl ⟨Nat.le_of_ble_eq_true rfl, Nat.le_of_ble_eq_true rfl⟩ ⟨Nat.zero_le _, Nat.zero_le _⟩ 0 0 rfl rfl rfl rfl (by decide) rfl rfl rfl rfl (Nat.le_of_ble_eq_true rfl) dX7_ends_30 rfl ?_
        refine g_aload_n C dX7_ends_33 rfl 0 rfl ?_
        refine g_iload_n C dX7_ends_34 rfl 2 rfl ?_
        refine g_iconst C (v := 2) dX7_ends_35 (by decide) ?_
        refine g_callV C (cs1 := [wM E am (lpF (fX7_ends_L12 μ d) (sE μ 0 1 ((μ.2 0 1) + d)) i12)]) (st1 := [.int (fX7_of (lpF (fX7_ends_L12 μ d) (sE μ 0 1 ((μ.2 0 1) + d)) i12) i12 2), .int (fX7_of (lpF (fX7_ends_L12 μ d) (sE μ 0 1 ((μ.2 0 1) + d)) i12) i12 7), .int 7, .int (nI i12), .ref (am 0)]) [.int (nI i12), .int 2] [0] (kX7_of l E am (lpF (fX7_ends_L12 μ d) (sE μ 0 1 ((μ.2 0 1) + d)) i12) i12 (by omega) 2 (by decide)) caX7_of q6_151 rfl ⟨Nat.le_of_ble_eq_true rfl, Nat.le_of_ble_eq_true rfl⟩ ⟨Nat.zero_le _, Nat.zero_le _⟩ 0 0 rfl rfl rfl rfl (by decide) rfl rfl rfl rfl (Nat.le_of_ble_eq_true rfl) dX7_ends_36 rfl ?_
        refine g_iconst C (v := 1) dX7_ends_39 (by decide) ?_
        refine g_icmp_ne C 47 dX7_ends_40 (by decide) (fun c_8 => ?_) (fun c_8 => ?_)
        · skip
          refine g_iconst C (v := 0) dX7_ends_47 (by decide) ?_
          refine g_iadd C dX7_ends_48 ?_
          refine g_callV C (cs1 := [wM E am (fX7_lay (lpF (fX7_ends_L12 μ d) (sE μ 0 1 ((μ.2 0 1) + d)) i12) i12 7 ((fX7_of (lpF (fX7_ends_L12 μ d) (sE μ 0 1 ((μ.2 0 1) + d)) i12) i12 7) + 0))]) (st1 := []) [.int (nI i12), .int 7, .int ((fX7_of (lpF (fX7_ends_L12 μ d) (sE μ 0 1 ((μ.2 0 1) + d)) i12) i12 7) + 0)] [0] (kX7_lay l E am (lpF (fX7_ends_L12 μ d) (sE μ 0 1 ((μ.2 0 1) + d)) i12) i12 (by omega) 7 (by decide) ((fX7_of (lpF (fX7_ends_L12 μ d) (sE μ 0 1 ((μ.2 0 1) + d)) i12) i12 7) + 0)) caX7_lay q6_139 rfl ⟨Nat.le_of_ble_eq_true rfl, Nat.le_of_ble_eq_true rfl⟩ ⟨Nat.zero_le _, Nat.zero_le _⟩ 0 0 rfl rfl rfl rfl (by decide) rfl rfl rfl rfl (Nat.le_of_ble_eq_true rfl) dX7_ends_49 rfl ?_
          refine g_iinc C (v := nI (i12 + 1)) (lv1 := [(2, .int (nI (i12 + 1))), (0, .ref (am 0)), (1, .int d)]) dX7_ends_52 2 rfl (nI_1 i12) (by decide) rfl ?_
          refine g_goto C 12 dX7_ends_55 (by decide) ?_
          have e_9 : (lpF (fX7_ends_L12 μ d) (sE μ 0 1 ((μ.2 0 1) + d)) (i12 + 1)) = (fX7_lay (lpF (fX7_ends_L12 μ d) (sE μ 0 1 ((μ.2 0 1) + d)) i12) i12 7 ((fX7_of (lpF (fX7_ends_L12 μ d) (sE μ 0 1 ((μ.2 0 1) + d)) i12) i12 7) + 0)) := by
            rw [lpF_1, fX7_ends_L12]; rw [if_neg c_8]
          have h_10 := ih_4 (i12 + 1) (by omega)
          rw [e_9] at h_10
          exact g_sub [1, 2, 0] rfl h_10
        · skip
          refine g_iload_n C dX7_ends_43 rfl 1 rfl ?_
          refine g_goto C 48 dX7_ends_44 (by decide) ?_
          refine g_iadd C dX7_ends_48 ?_
          refine g_callV C (cs1 := [wM E am (fX7_lay (lpF (fX7_ends_L12 μ d) (sE μ 0 1 ((μ.2 0 1) + d)) i12) i12 7 ((fX7_of (lpF (fX7_ends_L12 μ d) (sE μ 0 1 ((μ.2 0 1) + d)) i12) i12 7) + d))]) (st1 := []) [.int (nI i12), .int 7, .int ((fX7_of (lpF (fX7_ends_L12 μ d) (sE μ 0 1 ((μ.2 0 1) + d)) i12) i12 7) + d)] [0] (kX7_lay l E am (lpF (fX7_ends_L12 μ d) (sE μ 0 1 ((μ.2 0 1) + d)) i12) i12 (by omega) 7 (by decide) ((fX7_of (lpF (fX7_ends_L12 μ d) (sE μ 0 1 ((μ.2 0 1) + d)) i12) i12 7) + d)) caX7_lay q6_139 rfl ⟨Nat.le_of_ble_eq_true rfl, Nat.le_of_ble_eq_true rfl⟩ ⟨Nat.zero_le _, Nat.zero_le _⟩ 0 0 rfl rfl rfl rfl (by decide) rfl rfl rfl rfl (Nat.le_of_ble_eq_true rfl) dX7_ends_49 rfl ?_
          refine g_iinc C (v := nI (i12 + 1)) (lv1 := [(2, .int (nI (i12 + 1))), (0, .ref (am 0)), (1, .int d)]) dX7_ends_52 2 rfl (nI_1 i12) (by decide) rfl ?_
          refine g_goto C 12 dX7_ends_55 (by decide) ?_
          have e_11 : (lpF (fX7_ends_L12 μ d) (sE μ 0 1 ((μ.2 0 1) + d)) (i12 + 1)) = (fX7_lay (lpF (fX7_ends_L12 μ d) (sE μ 0 1 ((μ.2 0 1) + d)) i12) i12 7 ((fX7_of (lpF (fX7_ends_L12 μ d) (sE μ 0 1 ((μ.2 0 1) + d)) i12) i12 7) + d)) := by
            rw [lpF_1, fX7_ends_L12]; rw [if_pos c_8]
          have h_12 := ih_4 (i12 + 1) (by omega)
          rw [e_11] at h_12
          exact g_sub [1, 2, 0] rfl h_12
  refine g_sub [1, 2, 0] (lv1 := [(0, .ref (am 0)), (1, .int d), (2, .int 0)]) rfl ?_
  exact hL_3 (cM μ) 0 (by omega)
theorem vM_ends {μ : BS} {d : Int32} (hv : vM μ) : vM (fX7_ends μ d).2 := lpF_inv (P := fun x => vM x) (vM_lowD (i := 1) hv rfl) (fun i x h => by unfold fX7_ends_L12; split <;> exact vM_layD h rfl) (cM μ)
def fX7_canStart (μ : BS) (t : Nat) : Bool :=
  if (fX7_of μ t 2) = 0 then (if (fX7_of μ t 3) ≤ 0 then false else true) else false
theorem caX7_canStart : gCalV yX7_canStart cX7_canStart 2 (some .boolean) 1 := ⟨⟨q7_15, q1_6, by decide +kernel⟩, q7_14, qs_35⟩
set_option maxHeartbeats 4000000 in
set_option maxRecDepth 100000 in
theorem kX7_canStart (l : Launch) (E : gE) (am : Nat → Nat) (μ : BS)  (t : Nat) (ht : t < 20) : MC l E yX7_canStart cX7_canStart 2 (some .boolean) 1 22 [.ref (am 0), .int (nI t)] [wM E am μ] (some (.int (b2i (fX7_canStart μ t)))) [wM E am μ] := by
  refine mc_of (by decide +kernel) (Nat.le_of_ble_eq_true rfl) (lv := [(0, .ref (am 0)), (1, .int (nI t))]) rfl (fun X C hE => ?_)
  refine g_aload_n C dX7_canStart_0 rfl 0 rfl ?_
  refine g_iload_n C dX7_canStart_1 rfl 1 rfl ?_
  refine g_iconst C (v := 2) dX7_canStart_2 (by decide) ?_
  refine g_callV C (cs1 := [wM E am μ]) (st1 := [.int (fX7_of μ t 2)]) [.int (nI t), .int 2] [0] (kX7_of l E am μ t (by omega) 2 (by decide)) caX7_of q6_151 rfl ⟨Nat.le_of_ble_eq_true rfl, Nat.le_of_ble_eq_true rfl⟩ ⟨Nat.zero_le _, Nat.zero_le _⟩ 0 0 rfl rfl rfl rfl (by decide) rfl rfl rfl rfl (Nat.le_of_ble_eq_true rfl) dX7_canStart_3 rfl ?_
  refine g_if_ne C 22 dX7_canStart_6 (by decide) (fun c_1 => ?_) (fun c_1 => ?_)
  · skip
    refine g_iconst C (v := 0) dX7_canStart_22 (by decide) ?_
    have e_2 : fX7_canStart μ t = false := by rw [fX7_canStart]; rw [if_neg c_1]
    exact g_zret (b := false) C hE (by rw [e_2]) rfl rfl dX7_canStart_23
  · skip
    refine g_aload_n C dX7_canStart_9 rfl 0 rfl ?_
    refine g_iload_n C dX7_canStart_10 rfl 1 rfl ?_
    refine g_iconst C (v := 3) dX7_canStart_11 (by decide) ?_
    refine g_callV C (cs1 := [wM E am μ]) (st1 := [.int (fX7_of μ t 3)]) [.int (nI t), .int 3] [0] (kX7_of l E am μ t (by omega) 3 (by decide)) caX7_of q6_151 rfl ⟨Nat.le_of_ble_eq_true rfl, Nat.le_of_ble_eq_true rfl⟩ ⟨Nat.zero_le _, Nat.zero_le _⟩ 0 0 rfl rfl rfl rfl (by decide) rfl rfl rfl rfl (Nat.le_of_ble_eq_true rfl) dX7_canStart_12 rfl ?_
    refine g_if_le C 22 dX7_canStart_15 (by decide) (fun c_3 => ?_) (fun c_3 => ?_)
    · skip
      refine g_iconst C (v := 0) dX7_canStart_22 (by decide) ?_
      have e_4 : fX7_canStart μ t = false := by rw [fX7_canStart]; rw [if_pos c_1, if_pos c_3]
      exact g_zret (b := false) C hE (by rw [e_4]) rfl rfl dX7_canStart_23
    · skip
      refine g_iconst C (v := 1) dX7_canStart_18 (by decide) ?_
      refine g_goto C 23 dX7_canStart_19 (by decide) ?_
      have e_5 : fX7_canStart μ t = true := by rw [fX7_canStart]; rw [if_pos c_1, if_neg c_3]
      exact g_zret (b := true) C hE (by rw [e_5]) rfl rfl dX7_canStart_23
def fX7_canClose (μ : BS) (t : Nat) : Bool :=
  if (fX7_of μ t 2) = 2 then (if (fX7_blockers μ t) = 0 then true else false) else false
theorem caX7_canClose : gCalV yX7_canClose cX7_canClose 2 (some .boolean) 1 := ⟨⟨q7_31, q1_6, by decide +kernel⟩, q7_30, qs_36⟩
set_option maxHeartbeats 4000000 in
set_option maxRecDepth 100000 in
theorem kX7_canClose (l : Launch) (E : gE) (am : Nat → Nat) (μ : BS) (hv : vM μ)  (t : Nat) (ht : t < 20) : MC l E yX7_canClose cX7_canClose 2 (some .boolean) 4 86 [.ref (am 0), .int (nI t)] [wM E am μ] (some (.int (b2i (fX7_canClose μ t)))) [wM E am μ] := by
  have hv1 : cM μ ≤ 20 := hv.1.1
  have hc0 : μ.2 0 0 = nI (cM μ) := hv.1.2.1
  refine mc_of (by decide +kernel) (Nat.le_of_ble_eq_true rfl) (lv := [(0, .ref (am 0)), (1, .int (nI t))]) rfl (fun X C hE => ?_)
  refine g_aload_n C dX7_canClose_0 rfl 0 rfl ?_
  refine g_iload_n C dX7_canClose_1 rfl 1 rfl ?_
  refine g_iconst C (v := 2) dX7_canClose_2 (by decide) ?_
  refine g_callV C (cs1 := [wM E am μ]) (st1 := [.int (fX7_of μ t 2)]) [.int (nI t), .int 2] [0] (kX7_of l E am μ t (by omega) 2 (by decide)) caX7_of q6_151 rfl ⟨Nat.le_of_ble_eq_true rfl, Nat.le_of_ble_eq_true rfl⟩ ⟨Nat.zero_le _, Nat.zero_le _⟩ 0 0 rfl rfl rfl rfl (by decide) rfl rfl rfl rfl (Nat.le_of_ble_eq_true rfl) dX7_canClose_3 rfl ?_
  refine g_iconst C (v := 2) dX7_canClose_6 (by decide) ?_
  refine g_icmp_ne C 22 dX7_canClose_7 (by decide) (fun c_1 => ?_) (fun c_1 => ?_)
  · skip
    refine g_iconst C (v := 0) dX7_canClose_22 (by decide) ?_
    have e_2 : fX7_canClose μ t = false := by rw [fX7_canClose]; rw [if_neg c_1]
    exact g_zret (b := false) C hE (by rw [e_2]) rfl rfl dX7_canClose_23
  · skip
    refine g_aload_n C dX7_canClose_10 rfl 0 rfl ?_
    refine g_iload_n C dX7_canClose_11 rfl 1 rfl ?_
    refine g_callV C (cs1 := [wM E am μ]) (st1 := [.int (fX7_blockers μ t)]) [.int (nI t)] [0] (kX7_blockers l E am μ hv t (by omega)) caX7_blockers q7_32 rfl ⟨Nat.le_of_ble_eq_true rfl, Nat.le_of_ble_eq_true rfl⟩ ⟨Nat.zero_le _, Nat.zero_le _⟩ 0 0 rfl rfl rfl rfl (by decide) rfl rfl rfl rfl (Nat.le_of_ble_eq_true rfl) dX7_canClose_12 rfl ?_
    refine g_if_ne C 22 dX7_canClose_15 (by decide) (fun c_3 => ?_) (fun c_3 => ?_)
    · skip
      refine g_iconst C (v := 0) dX7_canClose_22 (by decide) ?_
      have e_4 : fX7_canClose μ t = false := by rw [fX7_canClose]; rw [if_pos c_1, if_neg c_3]
      exact g_zret (b := false) C hE (by rw [e_4]) rfl rfl dX7_canClose_23
    · skip
      refine g_iconst C (v := 1) dX7_canClose_18 (by decide) ?_
      refine g_goto C 23 dX7_canClose_19 (by decide) ?_
      have e_5 : fX7_canClose μ t = true := by rw [fX7_canClose]; rw [if_pos c_1, if_pos c_3]
      exact g_zret (b := true) C hE (by rw [e_5]) rfl rfl dX7_canClose_23
def fX7_closes (μ : BS) (t : Nat) : Int32 × BS :=
  ((fX7_bits (fX7_blocked μ)) - (fX7_bits (fX7_blocked (sE (fX7_lay (fX7_lay μ t 2 3) t 6 ((fX7_lay μ t 2 3).2 0 1)) 0 2 (((fX7_lay (fX7_lay μ t 2 3) t 6 ((fX7_lay μ t 2 3).2 0 1)).2 0 2) + 1)))), sE (fX7_lay (fX7_lay μ t 2 3) t 6 ((fX7_lay μ t 2 3).2 0 1)) 0 2 (((fX7_lay (fX7_lay μ t 2 3) t 6 ((fX7_lay μ t 2 3).2 0 1)).2 0 2) + 1))
theorem caX7_closes : gCalV yX7_closes cX7_closes 3 (some .int) 1 := ⟨⟨q7_43, q1_6, by decide +kernel⟩, q7_42, qs_39⟩
set_option maxHeartbeats 4000000 in
set_option maxRecDepth 100000 in
theorem kX7_closes (l : Launch) (E : gE) (am : Nat → Nat) (μ : BS) (hv : vM μ)  (t : Nat) (ht : t < 20) : MC l E yX7_closes cX7_closes 3 (some .int) 5 108 [.ref (am 0), .int (nI t)] [wM E am μ] (some (.int (fX7_closes μ t).1)) [wM E am ((fX7_closes μ t).2)] := by
  have hv1 : cM μ ≤ 20 := hv.1.1
  have hc0 : μ.2 0 0 = nI (cM μ) := hv.1.2.1
  refine mc_of (by decide +kernel) (Nat.le_of_ble_eq_true rfl) (lv := [(0, .ref (am 0)), (1, .int (nI t))]) rfl (fun X C hE => ?_)
  refine g_aload_n C dX7_closes_0 rfl 0 rfl ?_
  refine g_callV C (cs1 := [wM E am μ]) (st1 := [.int (fX7_blocked μ)]) [] [0] (kX7_blocked l E am μ hv) caX7_blocked q7_44 rfl ⟨Nat.le_of_ble_eq_true rfl, Nat.le_of_ble_eq_true rfl⟩ ⟨Nat.zero_le _, Nat.zero_le _⟩ 0 0 rfl rfl rfl rfl (by decide) rfl rfl rfl rfl (Nat.le_of_ble_eq_true rfl) dX7_closes_1 rfl ?_
  refine g_callS C (cs1 := [wM E am μ]) (st1 := [.int (fX7_bits (fX7_blocked μ))]) [.int (fX7_blocked μ)] [] (kX7_bits l E (fX7_blocked μ)) caX7_bits q6_191 rfl ⟨Nat.le_of_ble_eq_true rfl, Nat.le_of_ble_eq_true rfl⟩ ⟨Nat.zero_le _, Nat.zero_le _⟩ (by decide) rfl rfl rfl rfl (Nat.le_of_ble_eq_true rfl) dX7_closes_4 rfl ?_
  refine g_istore_n C (lv1 := [(2, .int (fX7_bits (fX7_blocked μ))), (0, .ref (am 0)), (1, .int (nI t))]) dX7_closes_7 rfl (by decide) rfl ?_
  refine g_aload_n C dX7_closes_8 rfl 1 rfl ?_
  refine g_iload_n C dX7_closes_9 rfl 2 rfl ?_
  refine g_iconst C (v := 2) dX7_closes_10 (by decide) ?_
  refine g_iconst C (v := 3) dX7_closes_11 (by decide) ?_
  refine g_callV C (cs1 := [wM E am (fX7_lay μ t 2 3)]) (st1 := []) [.int (nI t), .int 2, .int 3] [0] (kX7_lay l E am μ t (by omega) 2 (by decide) 3) caX7_lay q6_139 rfl ⟨Nat.le_of_ble_eq_true rfl, Nat.le_of_ble_eq_true rfl⟩ ⟨Nat.zero_le _, Nat.zero_le _⟩ 0 0 rfl rfl rfl rfl (by decide) rfl rfl rfl rfl (Nat.le_of_ble_eq_true rfl) dX7_closes_12 rfl ?_
  refine g_aload_n C dX7_closes_15 rfl 1 rfl ?_
  refine g_iload_n C dX7_closes_16 rfl 2 rfl ?_
  refine g_bipush C (v := 6) dX7_closes_17 (by decide) ?_
  refine g_aload_n C dX7_closes_19 rfl 1 rfl ?_
  refine g_getf C (T := TX7) (N := 15) 0 0 rfl rfl rfl inX7 1 (by decide) q6_71 rfl dX7_closes_20 ?_
  refine g_iconst C (v := 1) dX7_closes_23 (by decide) ?_
  refine g_ialdn C 0 1 1 rfl rfl rfl (by decide) (by decide) dX7_closes_24 ?_
  refine g_callV C (cs1 := [wM E am (fX7_lay (fX7_lay μ t 2 3) t 6 ((fX7_lay μ t 2 3).2 0 1))]) (st1 := []) [.int (nI t), .int 6, .int ((fX7_lay μ t 2 3).2 0 1)] [0] (kX7_lay l E am (fX7_lay μ t 2 3) t (by omega) 6 (by decide) ((fX7_lay μ t 2 3).2 0 1)) caX7_lay q6_139 rfl ⟨Nat.le_of_ble_eq_true rfl, Nat.le_of_ble_eq_true rfl⟩ ⟨Nat.zero_le _, Nat.zero_le _⟩ 0 0 rfl rfl rfl rfl (by decide) rfl rfl rfl rfl (Nat.le_of_ble_eq_true rfl) dX7_closes_25 rfl ?_
  refine g_aload_n C dX7_closes_28 rfl 1 rfl ?_
  refine g_getf C (T := TX7) (N := 15) 0 0 rfl rfl rfl inX7 1 (by decide) q6_71 rfl dX7_closes_29 ?_
  refine g_iconst C (v := 2) dX7_closes_32 (by decide) ?_
  refine g_dup2 C dX7_closes_33 rfl rfl ?_
  refine g_ialdn C 0 1 2 rfl rfl rfl (by decide) (by decide) dX7_closes_34 ?_
  refine g_iconst C (v := 1) dX7_closes_35 (by decide) ?_
  refine g_iadd C dX7_closes_36 ?_
  refine g_iastn C (w1 := wM E am (sE (fX7_lay (fX7_lay μ t 2 3) t 6 ((fX7_lay μ t 2 3).2 0 1)) 0 2 (((fX7_lay (fX7_lay μ t 2 3) t 6 ((fX7_lay μ t 2 3).2 0 1)).2 0 2) + 1))) (cs1 := [wM E am (sE (fX7_lay (fX7_lay μ t 2 3) t 6 ((fX7_lay μ t 2 3).2 0 1)) 0 2 (((fX7_lay (fX7_lay μ t 2 3) t 6 ((fX7_lay μ t 2 3).2 0 1)).2 0 2) + 1))]) 0 1 2 rfl rfl rfl (by decide) (by decide) rfl rfl dX7_closes_37 ?_
  refine g_iload_n C dX7_closes_38 rfl 0 rfl ?_
  refine g_aload_n C dX7_closes_39 rfl 1 rfl ?_
  refine g_callV C (cs1 := [wM E am (sE (fX7_lay (fX7_lay μ t 2 3) t 6 ((fX7_lay μ t 2 3).2 0 1)) 0 2 (((fX7_lay (fX7_lay μ t 2 3) t 6 ((fX7_lay μ t 2 3).2 0 1)).2 0 2) + 1))]) (st1 := [.int (fX7_blocked (sE (fX7_lay (fX7_lay μ t 2 3) t 6 ((fX7_lay μ t 2 3).2 0 1)) 0 2 (((fX7_lay (fX7_lay μ t 2 3) t 6 ((fX7_lay μ t 2 3).2 0 1)).2 0 2) + 1))), .int (fX7_bits (fX7_blocked μ))]) [] [0] (kX7_blocked l E am (sE (fX7_lay (fX7_lay μ t 2 3) t 6 ((fX7_lay μ t 2 3).2 0 1)) 0 2 (((fX7_lay (fX7_lay μ t 2 3) t 6 ((fX7_lay μ t 2 3).2 0 1)).2 0 2) + 1)) (vM_lowD (vM_layD (vM_layD hv rfl) rfl) rfl)) caX7_blocked q7_44 rfl ⟨Nat.le_of_ble_eq_true rfl, Nat.le_of_ble_eq_true rfl⟩ ⟨Nat.zero_le _, Nat.zero_le _⟩ 0 0 rfl rfl rfl rfl (by decide) rfl rfl rfl rfl (Nat.le_of_ble_eq_true rfl) dX7_closes_40 rfl ?_
  refine g_callS C (cs1 := [wM E am (sE (fX7_lay (fX7_lay μ t 2 3) t 6 ((fX7_lay μ t 2 3).2 0 1)) 0 2 (((fX7_lay (fX7_lay μ t 2 3) t 6 ((fX7_lay μ t 2 3).2 0 1)).2 0 2) + 1))]) (st1 := [.int (fX7_bits (fX7_blocked (sE (fX7_lay (fX7_lay μ t 2 3) t 6 ((fX7_lay μ t 2 3).2 0 1)) 0 2 (((fX7_lay (fX7_lay μ t 2 3) t 6 ((fX7_lay μ t 2 3).2 0 1)).2 0 2) + 1)))), .int (fX7_bits (fX7_blocked μ))]) [.int (fX7_blocked (sE (fX7_lay (fX7_lay μ t 2 3) t 6 ((fX7_lay μ t 2 3).2 0 1)) 0 2 (((fX7_lay (fX7_lay μ t 2 3) t 6 ((fX7_lay μ t 2 3).2 0 1)).2 0 2) + 1)))] [] (kX7_bits l E (fX7_blocked (sE (fX7_lay (fX7_lay μ t 2 3) t 6 ((fX7_lay μ t 2 3).2 0 1)) 0 2 (((fX7_lay (fX7_lay μ t 2 3) t 6 ((fX7_lay μ t 2 3).2 0 1)).2 0 2) + 1)))) caX7_bits q6_191 rfl ⟨Nat.le_of_ble_eq_true rfl, Nat.le_of_ble_eq_true rfl⟩ ⟨Nat.zero_le _, Nat.zero_le _⟩ (by decide) rfl rfl rfl rfl (Nat.le_of_ble_eq_true rfl) dX7_closes_43 rfl ?_
  refine g_isub C dX7_closes_46 ?_
  have e_1 : fX7_closes μ t = ((fX7_bits (fX7_blocked μ)) - (fX7_bits (fX7_blocked (sE (fX7_lay (fX7_lay μ t 2 3) t 6 ((fX7_lay μ t 2 3).2 0 1)) 0 2 (((fX7_lay (fX7_lay μ t 2 3) t 6 ((fX7_lay μ t 2 3).2 0 1)).2 0 2) + 1)))), sE (fX7_lay (fX7_lay μ t 2 3) t 6 ((fX7_lay μ t 2 3).2 0 1)) 0 2 (((fX7_lay (fX7_lay μ t 2 3) t 6 ((fX7_lay μ t 2 3).2 0 1)).2 0 2) + 1)) := by rw [fX7_closes]
  exact g_iret C hE (by rw [e_1]) (by rw [e_1]) dX7_closes_47
def fX7_canReopen_L37 (μ : BS) (t : Nat) (i37 : Nat) (t37 : Bool) : Bool :=
  if t37 = true then (if (fX7_needsIt μ i37 (nI t)) = true then (if (fX7_of μ i37 2) = 3 then false else true) else true) else false
def fX7_canReopen (μ : BS) (t : Nat) : Bool :=
  if (fX7_of μ t 2) = 3 then (if (fX7_canTake μ ((fX7_of μ t 3).toNatClampNeg) (fX7_of μ t 0)) = true then (lpF (fX7_canReopen_L37 μ t) true (cM μ)) else (lpF (fX7_canReopen_L37 μ t) false (cM μ))) else (lpF (fX7_canReopen_L37 μ t) false (cM μ))
theorem caX7_canReopen : gCalV yX7_canReopen cX7_canReopen 4 (some .boolean) 1 := ⟨⟨q7_55, q1_6, by decide +kernel⟩, q7_54, qs_41⟩
set_option maxHeartbeats 4000000 in
set_option maxRecDepth 100000 in
theorem kX7_canReopen (l : Launch) (E : gE) (am : Nat → Nat) (μ : BS) (hv : vM μ)  (t : Nat) (ht : t < 20) : MC l E yX7_canReopen cX7_canReopen 4 (some .boolean) 4 88 [.ref (am 0), .int (nI t)] [wM E am μ] (some (.int (b2i (fX7_canReopen μ t)))) [wM E am μ] := by
  have hv1 : cM μ ≤ 20 := hv.1.1
  have hc0 : μ.2 0 0 = nI (cM μ) := hv.1.2.1
  refine mc_of (by decide +kernel) (Nat.le_of_ble_eq_true rfl) (lv := [(0, .ref (am 0)), (1, .int (nI t))]) rfl (fun X C hE => ?_)
  refine g_aload_n C dX7_canReopen_0 rfl 0 rfl ?_
  refine g_iload_n C dX7_canReopen_1 rfl 1 rfl ?_
  refine g_iconst C (v := 2) dX7_canReopen_2 (by decide) ?_
  refine g_callV C (cs1 := [wM E am μ]) (st1 := [.int (fX7_of μ t 2)]) [.int (nI t), .int 2] [0] (kX7_of l E am μ t (by omega) 2 (by decide)) caX7_of q6_151 rfl ⟨Nat.le_of_ble_eq_true rfl, Nat.le_of_ble_eq_true rfl⟩ ⟨Nat.zero_le _, Nat.zero_le _⟩ 0 0 rfl rfl rfl rfl (by decide) rfl rfl rfl rfl (Nat.le_of_ble_eq_true rfl) dX7_canReopen_3 rfl ?_
  refine g_iconst C (v := 3) dX7_canReopen_6 (by decide) ?_
  refine g_icmp_ne C 33 dX7_canReopen_7 (by decide) (fun c_1 => ?_) (fun c_1 => ?_)
  · skip
    refine g_iconst C (v := 0) dX7_canReopen_33 (by decide) ?_
    refine g_istore_n C (lv1 := [(2, .int 0), (0, .ref (am 0)), (1, .int (nI t))]) dX7_canReopen_34 rfl (by decide) rfl ?_
    refine g_iconst C (v := 0) dX7_canReopen_35 (by decide) ?_
    refine g_istore_n C (lv1 := [(3, .int 0), (2, .int 0), (0, .ref (am 0)), (1, .int (nI t))]) dX7_canReopen_36 rfl (by decide) rfl ?_
    have hL_4 : ∀ d_2 i37 : Nat, i37 + d_2 = (cM μ) → G X 0 0 [wM E am μ] [(0, .ref (am 0)), (1, .int (nI t)), (2, .int (b2i (lpF (fX7_canReopen_L37 μ t) false i37))), (3, .int (nI i37))] 37 [] := by
      intro d_2
      induction d_2 with
      | zero =>
        intro i37 hi_3
        obtain rfl : i37 = (cM μ) := by omega
        refine g_iload_n C dX7_canReopen_37 rfl 3 rfl ?_
        refine g_aload_n C dX7_canReopen_38 rfl 0 rfl ?_
        refine g_getf C (T := TX7) (N := 15) 0 0 rfl rfl rfl inX7 1 (by decide) q6_71 rfl dX7_canReopen_39 ?_
        refine g_iconst C (v := 0) dX7_canReopen_42 (by decide) ?_
        refine g_ialdn C 0 1 0 rfl rfl rfl (by decide) (by decide) dX7_canReopen_43 ?_
        refine g_icmp_ge C 82 dX7_canReopen_44 (by decide) (fun c_6 => ?_) (fun c_6 => ?_)
        · skip
          refine g_iload_n C dX7_canReopen_82 rfl 2 rfl ?_
          have e_7 : fX7_canReopen μ t = (lpF (fX7_canReopen_L37 μ t) false (cM μ)) := by rw [fX7_canReopen]; rw [if_neg c_1]
          exact g_zret (b := (lpF (fX7_canReopen_L37 μ t) false (cM μ))) C hE (by rw [e_7]) rfl rfl dX7_canReopen_83
        · exact absurd (lc_le rfl hc0 (by omega) (by omega)) c_6
      | succ d_2 ih_5 =>
        intro i37 hi_3
        refine g_iload_n C dX7_canReopen_37 rfl 3 rfl ?_
        refine g_aload_n C dX7_canReopen_38 rfl 0 rfl ?_
        refine g_getf C (T := TX7) (N := 15) 0 0 rfl rfl rfl inX7 1 (by decide) q6_71 rfl dX7_canReopen_39 ?_
        refine g_iconst C (v := 0) dX7_canReopen_42 (by decide) ?_
        refine g_ialdn C 0 1 0 rfl rfl rfl (by decide) (by decide) dX7_canReopen_43 ?_
        refine g_icmp_ge C 82 dX7_canReopen_44 (by decide) (fun c_8 => ?_) (fun c_8 => ?_)
        · exact absurd c_8 (lc_nle rfl hc0 (by omega) (by omega))
        · skip
          refine g_iload_n C dX7_canReopen_47 rfl 2 rfl ?_
          refine g_ifB_eq C 74 dX7_canReopen_48 (by decide) (fun c_9 => ?_) (fun c_9 => ?_)
          · skip
            refine g_iconst C (v := 0) dX7_canReopen_74 (by decide) ?_
            refine g_istore_n C (lv1 := [(2, .int 0), (0, .ref (am 0)), (1, .int (nI t)), (3, .int (nI i37))]) dX7_canReopen_75 rfl (by decide) rfl ?_
            refine g_iinc C (v := nI (i37 + 1)) (lv1 := [(3, .int (nI (i37 + 1))), (2, .int 0), (0, .ref (am 0)), (1, .int (nI t))]) dX7_canReopen_76 3 rfl (nI_1 i37) (by decide) rfl ?_
            refine g_goto C 37 dX7_canReopen_79 (by decide) ?_
            have e_10 : (lpF (fX7_canReopen_L37 μ t) false (i37 + 1)) = false := by
              rw [lpF_1, fX7_canReopen_L37]; rw [if_neg (ne_true_of_eq_false c_9)]
            have h_11 := ih_5 (i37 + 1) (by omega)
            rw [e_10] at h_11
            exact g_sub [2, 3, 1, 0] rfl h_11
          · skip
            refine g_aload_n C dX7_canReopen_51 rfl 0 rfl ?_
            refine g_iload_n C dX7_canReopen_52 rfl 3 rfl ?_
            refine g_iload_n C dX7_canReopen_53 rfl 1 rfl ?_
            refine g_callV C (cs1 := [wM E am μ]) (st1 := [.int (b2i (fX7_needsIt μ i37 (nI t)))]) [.int (nI i37), .int (nI t)] [0] (kX7_needsIt l E am μ i37 (by omega) (nI t)) caX7_needsIt q6_179 rfl ⟨Nat.le_of_ble_eq_true rfl, Nat.le_of_ble_eq_true rfl⟩ ⟨Nat.zero_le _, Nat.zero_le _⟩ 0 0 rfl rfl rfl rfl (by decide) rfl rfl rfl rfl (Nat.le_of_ble_eq_true rfl) dX7_canReopen_54 rfl ?_
            refine g_ifB_eq C 70 dX7_canReopen_57 (by decide) (fun c_12 => ?_) (fun c_12 => ?_)
            · skip
              refine g_iconst C (v := 1) dX7_canReopen_70 (by decide) ?_
              refine g_goto C 75 dX7_canReopen_71 (by decide) ?_
              refine g_istore_n C (lv1 := [(2, .int 1), (0, .ref (am 0)), (1, .int (nI t)), (3, .int (nI i37))]) dX7_canReopen_75 rfl (by decide) rfl ?_
              refine g_iinc C (v := nI (i37 + 1)) (lv1 := [(3, .int (nI (i37 + 1))), (2, .int 1), (0, .ref (am 0)), (1, .int (nI t))]) dX7_canReopen_76 3 rfl (nI_1 i37) (by decide) rfl ?_
              refine g_goto C 37 dX7_canReopen_79 (by decide) ?_
              have e_13 : (lpF (fX7_canReopen_L37 μ t) false (i37 + 1)) = true := by
                rw [lpF_1, fX7_canReopen_L37]; rw [if_pos c_9, if_neg (ne_true_of_eq_false c_12)]
              have h_14 := ih_5 (i37 + 1) (by omega)
              rw [e_13] at h_14
              exact g_sub [2, 3, 1, 0] rfl h_14
            · skip
              refine g_aload_n C dX7_canReopen_60 rfl 0 rfl ?_
              refine g_iload_n C dX7_canReopen_61 rfl 3 rfl ?_
              refine g_iconst C (v := 2) dX7_canReopen_62 (by decide) ?_
              refine g_callV C (cs1 := [wM E am μ]) (st1 := [.int (fX7_of μ i37 2)]) [.int (nI i37), .int 2] [0] (kX7_of l E am μ i37 (by omega) 2 (by decide)) caX7_of q6_151 rfl ⟨Nat.le_of_ble_eq_true rfl, Nat.le_of_ble_eq_true rfl⟩ ⟨Nat.zero_le _, Nat.zero_le _⟩ 0 0 rfl rfl rfl rfl (by decide) rfl rfl rfl rfl (Nat.le_of_ble_eq_true rfl) dX7_canReopen_63 rfl ?_
              refine g_iconst C (v := 3) dX7_canReopen_66 (by decide) ?_
              refine g_icmp_eq C 74 dX7_canReopen_67 (by decide) (fun c_15 => ?_) (fun c_15 => ?_)
              · skip
                refine g_iconst C (v := 0) dX7_canReopen_74 (by decide) ?_
                refine g_istore_n C (lv1 := [(2, .int 0), (0, .ref (am 0)), (1, .int (nI t)), (3, .int (nI i37))]) dX7_canReopen_75 rfl (by decide) rfl ?_
                refine g_iinc C (v := nI (i37 + 1)) (lv1 := [(3, .int (nI (i37 + 1))), (2, .int 0), (0, .ref (am 0)), (1, .int (nI t))]) dX7_canReopen_76 3 rfl (nI_1 i37) (by decide) rfl ?_
                refine g_goto C 37 dX7_canReopen_79 (by decide) ?_
                have e_16 : (lpF (fX7_canReopen_L37 μ t) false (i37 + 1)) = false := by
                  rw [lpF_1, fX7_canReopen_L37]; rw [if_pos c_9, if_pos c_12, if_pos c_15]
                have h_17 := ih_5 (i37 + 1) (by omega)
                rw [e_16] at h_17
                exact g_sub [2, 3, 1, 0] rfl h_17
              · skip
                refine g_iconst C (v := 1) dX7_canReopen_70 (by decide) ?_
                refine g_goto C 75 dX7_canReopen_71 (by decide) ?_
                refine g_istore_n C (lv1 := [(2, .int 1), (0, .ref (am 0)), (1, .int (nI t)), (3, .int (nI i37))]) dX7_canReopen_75 rfl (by decide) rfl ?_
                refine g_iinc C (v := nI (i37 + 1)) (lv1 := [(3, .int (nI (i37 + 1))), (2, .int 1), (0, .ref (am 0)), (1, .int (nI t))]) dX7_canReopen_76 3 rfl (nI_1 i37) (by decide) rfl ?_
                refine g_goto C 37 dX7_canReopen_79 (by decide) ?_
                have e_18 : (lpF (fX7_canReopen_L37 μ t) false (i37 + 1)) = true := by
                  rw [lpF_1, fX7_canReopen_L37]; rw [if_pos c_9, if_pos c_12, if_neg c_15]
                have h_19 := ih_5 (i37 + 1) (by omega)
                rw [e_18] at h_19
                exact g_sub [2, 3, 1, 0] rfl h_19
    refine g_sub [2, 3, 1, 0] (lv1 := [(0, .ref (am 0)), (1, .int (nI t)), (2, .int 0), (3, .int 0)]) rfl ?_
    exact hL_4 (cM μ) 0 (by omega)
  · skip
    refine g_aload_n C dX7_canReopen_10 rfl 0 rfl ?_
    refine g_aload_n C dX7_canReopen_11 rfl 0 rfl ?_
    refine g_iload_n C dX7_canReopen_12 rfl 1 rfl ?_
    refine g_iconst C (v := 3) dX7_canReopen_13 (by decide) ?_
    refine g_callV C (cs1 := [wM E am μ]) (st1 := [.int (fX7_of μ t 3), .ref (am 0)]) [.int (nI t), .int 3] [0] (kX7_of l E am μ t (by omega) 3 (by decide)) caX7_of q6_151 rfl ⟨Nat.le_of_ble_eq_true rfl, Nat.le_of_ble_eq_true rfl⟩ ⟨Nat.zero_le _, Nat.zero_le _⟩ 0 0 rfl rfl rfl rfl (by decide) rfl rfl rfl rfl (Nat.le_of_ble_eq_true rfl) dX7_canReopen_14 rfl ?_
    refine g_aload_n C dX7_canReopen_17 rfl 0 rfl ?_
    refine g_iload_n C dX7_canReopen_18 rfl 1 rfl ?_
    refine g_iconst C (v := 0) dX7_canReopen_19 (by decide) ?_
    refine g_callV C (cs1 := [wM E am μ]) (st1 := [.int (fX7_of μ t 0), .int (fX7_of μ t 3), .ref (am 0)]) [.int (nI t), .int 0] [0] (kX7_of l E am μ t (by omega) 0 (by decide)) caX7_of q6_151 rfl ⟨Nat.le_of_ble_eq_true rfl, Nat.le_of_ble_eq_true rfl⟩ ⟨Nat.zero_le _, Nat.zero_le _⟩ 0 0 rfl rfl rfl rfl (by decide) rfl rfl rfl rfl (Nat.le_of_ble_eq_true rfl) dX7_canReopen_20 rfl ?_
    refine g_st (st1 := [.int (fX7_of μ t 0), .int (nI ((fX7_of μ t 3).toNatClampNeg)), .ref (am 0)]) (by rw [← (okOw hv ht).1]) ?_
    refine g_callV C (cs1 := [wM E am μ]) (st1 := [.int (b2i (fX7_canTake μ ((fX7_of μ t 3).toNatClampNeg) (fX7_of μ t 0)))]) [.int (nI ((fX7_of μ t 3).toNatClampNeg)), .int (fX7_of μ t 0)] [0] (kX7_canTake l E am μ hv ((fX7_of μ t 3).toNatClampNeg) (okOw hv ht).2 (fX7_of μ t 0)) caX7_canTake q6_159 rfl ⟨Nat.le_of_ble_eq_true rfl, Nat.le_of_ble_eq_true rfl⟩ ⟨Nat.zero_le _, Nat.zero_le _⟩ 0 0 rfl rfl rfl rfl (by decide) rfl rfl rfl rfl (Nat.le_of_ble_eq_true rfl) dX7_canReopen_23 rfl ?_
    refine g_ifB_eq C 33 dX7_canReopen_26 (by decide) (fun c_20 => ?_) (fun c_20 => ?_)
    · skip
      refine g_iconst C (v := 0) dX7_canReopen_33 (by decide) ?_
      refine g_istore_n C (lv1 := [(2, .int 0), (0, .ref (am 0)), (1, .int (nI t))]) dX7_canReopen_34 rfl (by decide) rfl ?_
      refine g_iconst C (v := 0) dX7_canReopen_35 (by decide) ?_
      refine g_istore_n C (lv1 := [(3, .int 0), (2, .int 0), (0, .ref (am 0)), (1, .int (nI t))]) dX7_canReopen_36 rfl (by decide) rfl ?_
      have hL_23 : ∀ d_21 i37 : Nat, i37 + d_21 = (cM μ) → G X 0 0 [wM E am μ] [(0, .ref (am 0)), (1, .int (nI t)), (2, .int (b2i (lpF (fX7_canReopen_L37 μ t) false i37))), (3, .int (nI i37))] 37 [] := by
        intro d_21
        induction d_21 with
        | zero =>
          intro i37 hi_22
          obtain rfl : i37 = (cM μ) := by omega
          refine g_iload_n C dX7_canReopen_37 rfl 3 rfl ?_
          refine g_aload_n C dX7_canReopen_38 rfl 0 rfl ?_
          refine g_getf C (T := TX7) (N := 15) 0 0 rfl rfl rfl inX7 1 (by decide) q6_71 rfl dX7_canReopen_39 ?_
          refine g_iconst C (v := 0) dX7_canReopen_42 (by decide) ?_
          refine g_ialdn C 0 1 0 rfl rfl rfl (by decide) (by decide) dX7_canReopen_43 ?_
          refine g_icmp_ge C 82 dX7_canReopen_44 (by decide) (fun c_25 => ?_) (fun c_25 => ?_)
          · skip
            refine g_iload_n C dX7_canReopen_82 rfl 2 rfl ?_
            have e_26 : fX7_canReopen μ t = (lpF (fX7_canReopen_L37 μ t) false (cM μ)) := by rw [fX7_canReopen]; rw [if_pos c_1, if_neg (ne_true_of_eq_false c_20)]
            exact g_zret (b := (lpF (fX7_canReopen_L37 μ t) false (cM μ))) C hE (by rw [e_26]) rfl rfl dX7_canReopen_83
          · exact absurd (lc_le rfl hc0 (by omega) (by omega)) c_25
        | succ d_21 ih_24 =>
          intro i37 hi_22
          refine g_iload_n C dX7_canReopen_37 rfl 3 rfl ?_
          refine g_aload_n C dX7_canReopen_38 rfl 0 rfl ?_
          refine g_getf C (T := TX7) (N := 15) 0 0 rfl rfl rfl inX7 1 (by decide) q6_71 rfl dX7_canReopen_39 ?_
          refine g_iconst C (v := 0) dX7_canReopen_42 (by decide) ?_
          refine g_ialdn C 0 1 0 rfl rfl rfl (by decide) (by decide) dX7_canReopen_43 ?_
          refine g_icmp_ge C 82 dX7_canReopen_44 (by decide) (fun c_27 => ?_) (fun c_27 => ?_)
          · exact absurd c_27 (lc_nle rfl hc0 (by omega) (by omega))
          · skip
            refine g_iload_n C dX7_canReopen_47 rfl 2 rfl ?_
            refine g_ifB_eq C 74 dX7_canReopen_48 (by decide) (fun c_28 => ?_) (fun c_28 => ?_)
            · skip
              refine g_iconst C (v := 0) dX7_canReopen_74 (by decide) ?_
              refine g_istore_n C (lv1 := [(2, .int 0), (0, .ref (am 0)), (1, .int (nI t)), (3, .int (nI i37))]) dX7_canReopen_75 rfl (by decide) rfl ?_
              refine g_iinc C (v := nI (i37 + 1)) (lv1 := [(3, .int (nI (i37 + 1))), (2, .int 0), (0, .ref (am 0)), (1, .int (nI t))]) dX7_canReopen_76 3 rfl (nI_1 i37) (by decide) rfl ?_
              refine g_goto C 37 dX7_canReopen_79 (by decide) ?_
              have e_29 : (lpF (fX7_canReopen_L37 μ t) false (i37 + 1)) = false := by
                rw [lpF_1, fX7_canReopen_L37]; rw [if_neg (ne_true_of_eq_false c_28)]
              have h_30 := ih_24 (i37 + 1) (by omega)
              rw [e_29] at h_30
              exact g_sub [2, 3, 1, 0] rfl h_30
            · skip
              refine g_aload_n C dX7_canReopen_51 rfl 0 rfl ?_
              refine g_iload_n C dX7_canReopen_52 rfl 3 rfl ?_
              refine g_iload_n C dX7_canReopen_53 rfl 1 rfl ?_
              refine g_callV C (cs1 := [wM E am μ]) (st1 := [.int (b2i (fX7_needsIt μ i37 (nI t)))]) [.int (nI i37), .int (nI t)] [0] (kX7_needsIt l E am μ i37 (by omega) (nI t)) caX7_needsIt q6_179 rfl ⟨Nat.le_of_ble_eq_true rfl, Nat.le_of_ble_eq_true rfl⟩ ⟨Nat.zero_le _, Nat.zero_le _⟩ 0 0 rfl rfl rfl rfl (by decide) rfl rfl rfl rfl (Nat.le_of_ble_eq_true rfl) dX7_canReopen_54 rfl ?_
              refine g_ifB_eq C 70 dX7_canReopen_57 (by decide) (fun c_31 => ?_) (fun c_31 => ?_)
              · skip
                refine g_iconst C (v := 1) dX7_canReopen_70 (by decide) ?_
                refine g_goto C 75 dX7_canReopen_71 (by decide) ?_
                refine g_istore_n C (lv1 := [(2, .int 1), (0, .ref (am 0)), (1, .int (nI t)), (3, .int (nI i37))]) dX7_canReopen_75 rfl (by decide) rfl ?_
                refine g_iinc C (v := nI (i37 + 1)) (lv1 := [(3, .int (nI (i37 + 1))), (2, .int 1), (0, .ref (am 0)), (1, .int (nI t))]) dX7_canReopen_76 3 rfl (nI_1 i37) (by decide) rfl ?_
                refine g_goto C 37 dX7_canReopen_79 (by decide) ?_
                have e_32 : (lpF (fX7_canReopen_L37 μ t) false (i37 + 1)) = true := by
                  rw [lpF_1, fX7_canReopen_L37]; rw [if_pos c_28, if_neg (ne_true_of_eq_false c_31)]
                have h_33 := ih_24 (i37 + 1) (by omega)
                rw [e_32] at h_33
                exact g_sub [2, 3, 1, 0] rfl h_33
              · skip
                refine g_aload_n C dX7_canReopen_60 rfl 0 rfl ?_
                refine g_iload_n C dX7_canReopen_61 rfl 3 rfl ?_
                refine g_iconst C (v := 2) dX7_canReopen_62 (by decide) ?_
                refine g_callV C (cs1 := [wM E am μ]) (st1 := [.int (fX7_of μ i37 2)]) [.int (nI i37), .int 2] [0] (kX7_of l E am μ i37 (by omega) 2 (by decide)) caX7_of q6_151 rfl ⟨Nat.le_of_ble_eq_true rfl, Nat.le_of_ble_eq_true rfl⟩ ⟨Nat.zero_le _, Nat.zero_le _⟩ 0 0 rfl rfl rfl rfl (by decide) rfl rfl rfl rfl (Nat.le_of_ble_eq_true rfl) dX7_canReopen_63 rfl ?_
                refine g_iconst C (v := 3) dX7_canReopen_66 (by decide) ?_
                refine g_icmp_eq C 74 dX7_canReopen_67 (by decide) (fun c_34 => ?_) (fun c_34 => ?_)
                · skip
                  refine g_iconst C (v := 0) dX7_canReopen_74 (by decide) ?_
                  refine g_istore_n C (lv1 := [(2, .int 0), (0, .ref (am 0)), (1, .int (nI t)), (3, .int (nI i37))]) dX7_canReopen_75 rfl (by decide) rfl ?_
                  refine g_iinc C (v := nI (i37 + 1)) (lv1 := [(3, .int (nI (i37 + 1))), (2, .int 0), (0, .ref (am 0)), (1, .int (nI t))]) dX7_canReopen_76 3 rfl (nI_1 i37) (by decide) rfl ?_
                  refine g_goto C 37 dX7_canReopen_79 (by decide) ?_
                  have e_35 : (lpF (fX7_canReopen_L37 μ t) false (i37 + 1)) = false := by
                    rw [lpF_1, fX7_canReopen_L37]; rw [if_pos c_28, if_pos c_31, if_pos c_34]
                  have h_36 := ih_24 (i37 + 1) (by omega)
                  rw [e_35] at h_36
                  exact g_sub [2, 3, 1, 0] rfl h_36
                · skip
                  refine g_iconst C (v := 1) dX7_canReopen_70 (by decide) ?_
                  refine g_goto C 75 dX7_canReopen_71 (by decide) ?_
                  refine g_istore_n C (lv1 := [(2, .int 1), (0, .ref (am 0)), (1, .int (nI t)), (3, .int (nI i37))]) dX7_canReopen_75 rfl (by decide) rfl ?_
                  refine g_iinc C (v := nI (i37 + 1)) (lv1 := [(3, .int (nI (i37 + 1))), (2, .int 1), (0, .ref (am 0)), (1, .int (nI t))]) dX7_canReopen_76 3 rfl (nI_1 i37) (by decide) rfl ?_
                  refine g_goto C 37 dX7_canReopen_79 (by decide) ?_
                  have e_37 : (lpF (fX7_canReopen_L37 μ t) false (i37 + 1)) = true := by
                    rw [lpF_1, fX7_canReopen_L37]; rw [if_pos c_28, if_pos c_31, if_neg c_34]
                  have h_38 := ih_24 (i37 + 1) (by omega)
                  rw [e_37] at h_38
                  exact g_sub [2, 3, 1, 0] rfl h_38
      refine g_sub [2, 3, 1, 0] (lv1 := [(0, .ref (am 0)), (1, .int (nI t)), (2, .int 0), (3, .int 0)]) rfl ?_
      exact hL_23 (cM μ) 0 (by omega)
    · skip
      refine g_iconst C (v := 1) dX7_canReopen_29 (by decide) ?_
      refine g_goto C 34 dX7_canReopen_30 (by decide) ?_
      refine g_istore_n C (lv1 := [(2, .int 1), (0, .ref (am 0)), (1, .int (nI t))]) dX7_canReopen_34 rfl (by decide) rfl ?_
      refine g_iconst C (v := 0) dX7_canReopen_35 (by decide) ?_
      refine g_istore_n C (lv1 := [(3, .int 0), (2, .int 1), (0, .ref (am 0)), (1, .int (nI t))]) dX7_canReopen_36 rfl (by decide) rfl ?_
      have hL_41 : ∀ d_39 i37 : Nat, i37 + d_39 = (cM μ) → G X 0 0 [wM E am μ] [(0, .ref (am 0)), (1, .int (nI t)), (2, .int (b2i (lpF (fX7_canReopen_L37 μ t) true i37))), (3, .int (nI i37))] 37 [] := by
        intro d_39
        induction d_39 with
        | zero =>
          intro i37 hi_40
          obtain rfl : i37 = (cM μ) := by omega
          refine g_iload_n C dX7_canReopen_37 rfl 3 rfl ?_
          refine g_aload_n C dX7_canReopen_38 rfl 0 rfl ?_
          refine g_getf C (T := TX7) (N := 15) 0 0 rfl rfl rfl inX7 1 (by decide) q6_71 rfl dX7_canReopen_39 ?_
          refine g_iconst C (v := 0) dX7_canReopen_42 (by decide) ?_
          refine g_ialdn C 0 1 0 rfl rfl rfl (by decide) (by decide) dX7_canReopen_43 ?_
          refine g_icmp_ge C 82 dX7_canReopen_44 (by decide) (fun c_43 => ?_) (fun c_43 => ?_)
          · skip
            refine g_iload_n C dX7_canReopen_82 rfl 2 rfl ?_
            have e_44 : fX7_canReopen μ t = (lpF (fX7_canReopen_L37 μ t) true (cM μ)) := by rw [fX7_canReopen]; rw [if_pos c_1, if_pos c_20]
            exact g_zret (b := (lpF (fX7_canReopen_L37 μ t) true (cM μ))) C hE (by rw [e_44]) rfl rfl dX7_canReopen_83
          · exact absurd (lc_le rfl hc0 (by omega) (by omega)) c_43
        | succ d_39 ih_42 =>
          intro i37 hi_40
          refine g_iload_n C dX7_canReopen_37 rfl 3 rfl ?_
          refine g_aload_n C dX7_canReopen_38 rfl 0 rfl ?_
          refine g_getf C (T := TX7) (N := 15) 0 0 rfl rfl rfl inX7 1 (by decide) q6_71 rfl dX7_canReopen_39 ?_
          refine g_iconst C (v := 0) dX7_canReopen_42 (by decide) ?_
          refine g_ialdn C 0 1 0 rfl rfl rfl (by decide) (by decide) dX7_canReopen_43 ?_
          refine g_icmp_ge C 82 dX7_canReopen_44 (by decide) (fun c_45 => ?_) (fun c_45 => ?_)
          · exact absurd c_45 (lc_nle rfl hc0 (by omega) (by omega))
          · skip
            refine g_iload_n C dX7_canReopen_47 rfl 2 rfl ?_
            refine g_ifB_eq C 74 dX7_canReopen_48 (by decide) (fun c_46 => ?_) (fun c_46 => ?_)
            · skip
              refine g_iconst C (v := 0) dX7_canReopen_74 (by decide) ?_
              refine g_istore_n C (lv1 := [(2, .int 0), (0, .ref (am 0)), (1, .int (nI t)), (3, .int (nI i37))]) dX7_canReopen_75 rfl (by decide) rfl ?_
              refine g_iinc C (v := nI (i37 + 1)) (lv1 := [(3, .int (nI (i37 + 1))), (2, .int 0), (0, .ref (am 0)), (1, .int (nI t))]) dX7_canReopen_76 3 rfl (nI_1 i37) (by decide) rfl ?_
              refine g_goto C 37 dX7_canReopen_79 (by decide) ?_
              have e_47 : (lpF (fX7_canReopen_L37 μ t) true (i37 + 1)) = false := by
                rw [lpF_1, fX7_canReopen_L37]; rw [if_neg (ne_true_of_eq_false c_46)]
              have h_48 := ih_42 (i37 + 1) (by omega)
              rw [e_47] at h_48
              exact g_sub [2, 3, 1, 0] rfl h_48
            · skip
              refine g_aload_n C dX7_canReopen_51 rfl 0 rfl ?_
              refine g_iload_n C dX7_canReopen_52 rfl 3 rfl ?_
              refine g_iload_n C dX7_canReopen_53 rfl 1 rfl ?_
              refine g_callV C (cs1 := [wM E am μ]) (st1 := [.int (b2i (fX7_needsIt μ i37 (nI t)))]) [.int (nI i37), .int (nI t)] [0] (kX7_needsIt l E am μ i37 (by omega) (nI t)) caX7_needsIt q6_179 rfl ⟨Nat.le_of_ble_eq_true rfl, Nat.le_of_ble_eq_true rfl⟩ ⟨Nat.zero_le _, Nat.zero_le _⟩ 0 0 rfl rfl rfl rfl (by decide) rfl rfl rfl rfl (Nat.le_of_ble_eq_true rfl) dX7_canReopen_54 rfl ?_
              refine g_ifB_eq C 70 dX7_canReopen_57 (by decide) (fun c_49 => ?_) (fun c_49 => ?_)
              · skip
                refine g_iconst C (v := 1) dX7_canReopen_70 (by decide) ?_
                refine g_goto C 75 dX7_canReopen_71 (by decide) ?_
                refine g_istore_n C (lv1 := [(2, .int 1), (0, .ref (am 0)), (1, .int (nI t)), (3, .int (nI i37))]) dX7_canReopen_75 rfl (by decide) rfl ?_
                refine g_iinc C (v := nI (i37 + 1)) (lv1 := [(3, .int (nI (i37 + 1))), (2, .int 1), (0, .ref (am 0)), (1, .int (nI t))]) dX7_canReopen_76 3 rfl (nI_1 i37) (by decide) rfl ?_
                refine g_goto C 37 dX7_canReopen_79 (by decide) ?_
                have e_50 : (lpF (fX7_canReopen_L37 μ t) true (i37 + 1)) = true := by
                  rw [lpF_1, fX7_canReopen_L37]; rw [if_pos c_46, if_neg (ne_true_of_eq_false c_49)]
                have h_51 := ih_42 (i37 + 1) (by omega)
                rw [e_50] at h_51
                exact g_sub [2, 3, 1, 0] rfl h_51
              · skip
                refine g_aload_n C dX7_canReopen_60 rfl 0 rfl ?_
                refine g_iload_n C dX7_canReopen_61 rfl 3 rfl ?_
                refine g_iconst C (v := 2) dX7_canReopen_62 (by decide) ?_
                refine g_callV C (cs1 := [wM E am μ]) (st1 := [.int (fX7_of μ i37 2)]) [.int (nI i37), .int 2] [0] (kX7_of l E am μ i37 (by omega) 2 (by decide)) caX7_of q6_151 rfl ⟨Nat.le_of_ble_eq_true rfl, Nat.le_of_ble_eq_true rfl⟩ ⟨Nat.zero_le _, Nat.zero_le _⟩ 0 0 rfl rfl rfl rfl (by decide) rfl rfl rfl rfl (Nat.le_of_ble_eq_true rfl) dX7_canReopen_63 rfl ?_
                refine g_iconst C (v := 3) dX7_canReopen_66 (by decide) ?_
                refine g_icmp_eq C 74 dX7_canReopen_67 (by decide) (fun c_52 => ?_) (fun c_52 => ?_)
                · skip
                  refine g_iconst C (v := 0) dX7_canReopen_74 (by decide) ?_
                  refine g_istore_n C (lv1 := [(2, .int 0), (0, .ref (am 0)), (1, .int (nI t)), (3, .int (nI i37))]) dX7_canReopen_75 rfl (by decide) rfl ?_
                  refine g_iinc C (v := nI (i37 + 1)) (lv1 := [(3, .int (nI (i37 + 1))), (2, .int 0), (0, .ref (am 0)), (1, .int (nI t))]) dX7_canReopen_76 3 rfl (nI_1 i37) (by decide) rfl ?_
                  refine g_goto C 37 dX7_canReopen_79 (by decide) ?_
                  have e_53 : (lpF (fX7_canReopen_L37 μ t) true (i37 + 1)) = false := by
                    rw [lpF_1, fX7_canReopen_L37]; rw [if_pos c_46, if_pos c_49, if_pos c_52]
                  have h_54 := ih_42 (i37 + 1) (by omega)
                  rw [e_53] at h_54
                  exact g_sub [2, 3, 1, 0] rfl h_54
                · skip
                  refine g_iconst C (v := 1) dX7_canReopen_70 (by decide) ?_
                  refine g_goto C 75 dX7_canReopen_71 (by decide) ?_
                  refine g_istore_n C (lv1 := [(2, .int 1), (0, .ref (am 0)), (1, .int (nI t)), (3, .int (nI i37))]) dX7_canReopen_75 rfl (by decide) rfl ?_
                  refine g_iinc C (v := nI (i37 + 1)) (lv1 := [(3, .int (nI (i37 + 1))), (2, .int 1), (0, .ref (am 0)), (1, .int (nI t))]) dX7_canReopen_76 3 rfl (nI_1 i37) (by decide) rfl ?_
                  refine g_goto C 37 dX7_canReopen_79 (by decide) ?_
                  have e_55 : (lpF (fX7_canReopen_L37 μ t) true (i37 + 1)) = true := by
                    rw [lpF_1, fX7_canReopen_L37]; rw [if_pos c_46, if_pos c_49, if_neg c_52]
                  have h_56 := ih_42 (i37 + 1) (by omega)
                  rw [e_55] at h_56
                  exact g_sub [2, 3, 1, 0] rfl h_56
      refine g_sub [2, 3, 1, 0] (lv1 := [(0, .ref (am 0)), (1, .int (nI t)), (2, .int 1), (3, .int 0)]) rfl ?_
      exact hL_41 (cM μ) 0 (by omega)
def fX7_progressOf_L4 (μ : BS) (o : Int32) (i4 : Nat) (t4 : Int32) : Int32 :=
  if (fX7_of μ i4 3) = (o + 1) then (if (fX7_of μ i4 2) = 1 then t4 + 1 else t4 + 0) else t4 + 0
def fX7_progressOf (μ : BS) (o : Int32) : Int32 :=
  (lpF (fX7_progressOf_L4 μ o) 0 (cM μ))
theorem caX7_progressOf : gCalV yX7_progressOf cX7_progressOf 4 (some .int) 1 := ⟨⟨q8_22, q1_6, by decide +kernel⟩, q8_21, qs_56⟩
set_option maxHeartbeats 4000000 in
set_option maxRecDepth 100000 in
theorem kX7_progressOf (l : Launch) (E : gE) (am : Nat → Nat) (μ : BS) (hv : vM μ)  (o : Int32) : MC l E yX7_progressOf cX7_progressOf 4 (some .int) 1 22 [.ref (am 0), .int o] [wM E am μ] (some (.int (fX7_progressOf μ o))) [wM E am μ] := by
  have hv1 : cM μ ≤ 20 := hv.1.1
  have hc0 : μ.2 0 0 = nI (cM μ) := hv.1.2.1
  refine mc_of (by decide +kernel) (Nat.le_of_ble_eq_true rfl) (lv := [(0, .ref (am 0)), (1, .int o)]) rfl (fun X C hE => ?_)
  refine g_iconst C (v := 0) dX7_progressOf_0 (by decide) ?_
  refine g_istore_n C (lv1 := [(2, .int 0), (0, .ref (am 0)), (1, .int o)]) dX7_progressOf_1 rfl (by decide) rfl ?_
  refine g_iconst C (v := 0) dX7_progressOf_2 (by decide) ?_
  refine g_istore_n C (lv1 := [(3, .int 0), (2, .int 0), (0, .ref (am 0)), (1, .int o)]) dX7_progressOf_3 rfl (by decide) rfl ?_
  have hL_3 : ∀ d_1 i4 : Nat, i4 + d_1 = (cM μ) → G X 0 0 [wM E am μ] [(0, .ref (am 0)), (1, .int o), (2, .int (lpF (fX7_progressOf_L4 μ o) 0 i4)), (3, .int (nI i4))] 4 [] := by
    intro d_1
    induction d_1 with
    | zero =>
      intro i4 hi_2
      obtain rfl : i4 = (cM μ) := by omega
      refine g_iload_n C dX7_progressOf_4 rfl 3 rfl ?_
      refine g_aload_n C dX7_progressOf_5 rfl 0 rfl ?_
      refine g_getf C (T := TX7) (N := 15) 0 0 rfl rfl rfl inX7 1 (by decide) q6_71 rfl dX7_progressOf_6 ?_
      refine g_iconst C (v := 0) dX7_progressOf_9 (by decide) ?_
      refine g_ialdn C 0 1 0 rfl rfl rfl (by decide) (by decide) dX7_progressOf_10 ?_
      refine g_icmp_ge C 50 dX7_progressOf_11 (by decide) (fun c_5 => ?_) (fun c_5 => ?_)
      · skip
        refine g_iload_n C dX7_progressOf_50 rfl 2 rfl ?_
        have e_6 : fX7_progressOf μ o = (lpF (fX7_progressOf_L4 μ o) 0 (cM μ)) := by rw [fX7_progressOf]
        exact g_iret C hE (by rw [e_6]) rfl dX7_progressOf_51
      · exact absurd (lc_le rfl hc0 (by omega) (by omega)) c_5
    | succ d_1 ih_4 =>
      intro i4 hi_2
      refine g_iload_n C dX7_progressOf_4 rfl 3 rfl ?_
      refine g_aload_n C dX7_progressOf_5 rfl 0 rfl ?_
      refine g_getf C (T := TX7) (N := 15) 0 0 rfl rfl rfl inX7 1 (by decide) q6_71 rfl dX7_progressOf_6 ?_
      refine g_iconst C (v := 0) dX7_progressOf_9 (by decide) ?_
      refine g_ialdn C 0 1 0 rfl rfl rfl (by decide) (by decide) dX7_progressOf_10 ?_
      refine g_icmp_ge C 50 dX7_progressOf_11 (by decide) (fun c_7 => ?_) (fun c_7 => ?_)
      · exact absurd c_7 (lc_nle rfl hc0 (by omega) (by omega))
      · skip
        refine g_iload_n C dX7_progressOf_14 rfl 2 rfl ?_
        refine g_aload_n C dX7_progressOf_15 rfl 0 rfl ?_
        refine g_iload_n C dX7_progressOf_16 rfl 3 rfl ?_
        refine g_iconst C (v := 3) dX7_progressOf_17 (by decide) ?_
        refine g_callV C (cs1 := [wM E am μ]) (st1 := [.int (fX7_of μ i4 3), .int (lpF (fX7_progressOf_L4 μ o) 0 i4)]) [.int (nI i4), .int 3] [0] (kX7_of l E am μ i4 (by omega) 3 (by decide)) caX7_of q6_151 rfl ⟨Nat.le_of_ble_eq_true rfl, Nat.le_of_ble_eq_true rfl⟩ ⟨Nat.zero_le _, Nat.zero_le _⟩ 0 0 rfl rfl rfl rfl (by decide) rfl rfl rfl rfl (Nat.le_of_ble_eq_true rfl) dX7_progressOf_18 rfl ?_
        refine g_iload_n C dX7_progressOf_21 rfl 1 rfl ?_
        refine g_iconst C (v := 1) dX7_progressOf_22 (by decide) ?_
        refine g_iadd C dX7_progressOf_23 ?_
        refine g_icmp_ne C 41 dX7_progressOf_24 (by decide) (fun c_8 => ?_) (fun c_8 => ?_)
        · skip
          refine g_iconst C (v := 0) dX7_progressOf_41 (by decide) ?_
          refine g_iadd C dX7_progressOf_42 ?_
          refine g_istore_n C (lv1 := [(2, .int ((lpF (fX7_progressOf_L4 μ o) 0 i4) + 0)), (0, .ref (am 0)), (1, .int o), (3, .int (nI i4))]) dX7_progressOf_43 rfl (by decide) rfl ?_
          refine g_iinc C (v := nI (i4 + 1)) (lv1 := [(3, .int (nI (i4 + 1))), (2, .int ((lpF (fX7_progressOf_L4 μ o) 0 i4) + 0)), (0, .ref (am 0)), (1, .int o)]) dX7_progressOf_44 3 rfl (nI_1 i4) (by decide) rfl ?_
          refine g_goto C 4 dX7_progressOf_47 (by decide) ?_
          have e_9 : (lpF (fX7_progressOf_L4 μ o) 0 (i4 + 1)) = (lpF (fX7_progressOf_L4 μ o) 0 i4) + 0 := by
            rw [lpF_1, fX7_progressOf_L4]; rw [if_neg c_8]
          have h_10 := ih_4 (i4 + 1) (by omega)
          rw [e_9] at h_10
          exact g_sub [2, 3, 1, 0] rfl h_10
        · skip
          refine g_aload_n C dX7_progressOf_27 rfl 0 rfl ?_
          refine g_iload_n C dX7_progressOf_28 rfl 3 rfl ?_
          refine g_iconst C (v := 2) dX7_progressOf_29 (by decide) ?_
          refine g_callV C (cs1 := [wM E am μ]) (st1 := [.int (fX7_of μ i4 2), .int (lpF (fX7_progressOf_L4 μ o) 0 i4)]) [.int (nI i4), .int 2] [0] (kX7_of l E am μ i4 (by omega) 2 (by decide)) caX7_of q6_151 rfl ⟨Nat.le_of_ble_eq_true rfl, Nat.le_of_ble_eq_true rfl⟩ ⟨Nat.zero_le _, Nat.zero_le _⟩ 0 0 rfl rfl rfl rfl (by decide) rfl rfl rfl rfl (Nat.le_of_ble_eq_true rfl) dX7_progressOf_30 rfl ?_
          refine g_iconst C (v := 1) dX7_progressOf_33 (by decide) ?_
          refine g_icmp_ne C 41 dX7_progressOf_34 (by decide) (fun c_11 => ?_) (fun c_11 => ?_)
          · skip
            refine g_iconst C (v := 0) dX7_progressOf_41 (by decide) ?_
            refine g_iadd C dX7_progressOf_42 ?_
            refine g_istore_n C (lv1 := [(2, .int ((lpF (fX7_progressOf_L4 μ o) 0 i4) + 0)), (0, .ref (am 0)), (1, .int o), (3, .int (nI i4))]) dX7_progressOf_43 rfl (by decide) rfl ?_
            refine g_iinc C (v := nI (i4 + 1)) (lv1 := [(3, .int (nI (i4 + 1))), (2, .int ((lpF (fX7_progressOf_L4 μ o) 0 i4) + 0)), (0, .ref (am 0)), (1, .int o)]) dX7_progressOf_44 3 rfl (nI_1 i4) (by decide) rfl ?_
            refine g_goto C 4 dX7_progressOf_47 (by decide) ?_
            have e_12 : (lpF (fX7_progressOf_L4 μ o) 0 (i4 + 1)) = (lpF (fX7_progressOf_L4 μ o) 0 i4) + 0 := by
              rw [lpF_1, fX7_progressOf_L4]; rw [if_pos c_8, if_neg c_11]
            have h_13 := ih_4 (i4 + 1) (by omega)
            rw [e_12] at h_13
            exact g_sub [2, 3, 1, 0] rfl h_13
          · skip
            refine g_iconst C (v := 1) dX7_progressOf_37 (by decide) ?_
            refine g_goto C 42 dX7_progressOf_38 (by decide) ?_
            refine g_iadd C dX7_progressOf_42 ?_
            refine g_istore_n C (lv1 := [(2, .int ((lpF (fX7_progressOf_L4 μ o) 0 i4) + 1)), (0, .ref (am 0)), (1, .int o), (3, .int (nI i4))]) dX7_progressOf_43 rfl (by decide) rfl ?_
            refine g_iinc C (v := nI (i4 + 1)) (lv1 := [(3, .int (nI (i4 + 1))), (2, .int ((lpF (fX7_progressOf_L4 μ o) 0 i4) + 1)), (0, .ref (am 0)), (1, .int o)]) dX7_progressOf_44 3 rfl (nI_1 i4) (by decide) rfl ?_
            refine g_goto C 4 dX7_progressOf_47 (by decide) ?_
            have e_14 : (lpF (fX7_progressOf_L4 μ o) 0 (i4 + 1)) = (lpF (fX7_progressOf_L4 μ o) 0 i4) + 1 := by
              rw [lpF_1, fX7_progressOf_L4]; rw [if_pos c_8, if_pos c_11]
            have h_15 := ih_4 (i4 + 1) (by omega)
            rw [e_14] at h_15
            exact g_sub [2, 3, 1, 0] rfl h_15
  refine g_sub [2, 3, 1, 0] (lv1 := [(0, .ref (am 0)), (1, .int o), (2, .int 0), (3, .int 0)]) rfl ?_
  exact hL_3 (cM μ) 0 (by omega)
def fX7_doneOf_L4 (μ : BS) (o : Int32) (i4 : Nat) (t4 : Int32) : Int32 :=
  if (fX7_of μ i4 3) = (o + 1) then (if (fX7_of μ i4 2) = 3 then t4 + (fX7_of μ i4 0) else t4 + 0) else t4 + 0
def fX7_doneOf (μ : BS) (o : Int32) : Int32 :=
  (lpF (fX7_doneOf_L4 μ o) 0 (cM μ))
theorem caX7_doneOf : gCalV yX7_doneOf cX7_doneOf 4 (some .int) 1 := ⟨⟨q8_30, q1_6, by decide +kernel⟩, q8_29, qs_57⟩
set_option maxHeartbeats 4000000 in
set_option maxRecDepth 100000 in
theorem kX7_doneOf (l : Launch) (E : gE) (am : Nat → Nat) (μ : BS) (hv : vM μ)  (o : Int32) : MC l E yX7_doneOf cX7_doneOf 4 (some .int) 1 22 [.ref (am 0), .int o] [wM E am μ] (some (.int (fX7_doneOf μ o))) [wM E am μ] := by
  have hv1 : cM μ ≤ 20 := hv.1.1
  have hc0 : μ.2 0 0 = nI (cM μ) := hv.1.2.1
  refine mc_of (by decide +kernel) (Nat.le_of_ble_eq_true rfl) (lv := [(0, .ref (am 0)), (1, .int o)]) rfl (fun X C hE => ?_)
  refine g_iconst C (v := 0) dX7_doneOf_0 (by decide) ?_
  refine g_istore_n C (lv1 := [(2, .int 0), (0, .ref (am 0)), (1, .int o)]) dX7_doneOf_1 rfl (by decide) rfl ?_
  refine g_iconst C (v := 0) dX7_doneOf_2 (by decide) ?_
  refine g_istore_n C (lv1 := [(3, .int 0), (2, .int 0), (0, .ref (am 0)), (1, .int o)]) dX7_doneOf_3 rfl (by decide) rfl ?_
  have hL_3 : ∀ d_1 i4 : Nat, i4 + d_1 = (cM μ) → G X 0 0 [wM E am μ] [(0, .ref (am 0)), (1, .int o), (2, .int (lpF (fX7_doneOf_L4 μ o) 0 i4)), (3, .int (nI i4))] 4 [] := by
    intro d_1
    induction d_1 with
    | zero =>
      intro i4 hi_2
      obtain rfl : i4 = (cM μ) := by omega
      refine g_iload_n C dX7_doneOf_4 rfl 3 rfl ?_
      refine g_aload_n C dX7_doneOf_5 rfl 0 rfl ?_
      refine g_getf C (T := TX7) (N := 15) 0 0 rfl rfl rfl inX7 1 (by decide) q6_71 rfl dX7_doneOf_6 ?_
      refine g_iconst C (v := 0) dX7_doneOf_9 (by decide) ?_
      refine g_ialdn C 0 1 0 rfl rfl rfl (by decide) (by decide) dX7_doneOf_10 ?_
      refine g_icmp_ge C 55 dX7_doneOf_11 (by decide) (fun c_5 => ?_) (fun c_5 => ?_)
      · skip
        refine g_iload_n C dX7_doneOf_55 rfl 2 rfl ?_
        have e_6 : fX7_doneOf μ o = (lpF (fX7_doneOf_L4 μ o) 0 (cM μ)) := by rw [fX7_doneOf]
        exact g_iret C hE (by rw [e_6]) rfl dX7_doneOf_56
      · exact absurd (lc_le rfl hc0 (by omega) (by omega)) c_5
    | succ d_1 ih_4 =>
      intro i4 hi_2
      refine g_iload_n C dX7_doneOf_4 rfl 3 rfl ?_
      refine g_aload_n C dX7_doneOf_5 rfl 0 rfl ?_
      refine g_getf C (T := TX7) (N := 15) 0 0 rfl rfl rfl inX7 1 (by decide) q6_71 rfl dX7_doneOf_6 ?_
      refine g_iconst C (v := 0) dX7_doneOf_9 (by decide) ?_
      refine g_ialdn C 0 1 0 rfl rfl rfl (by decide) (by decide) dX7_doneOf_10 ?_
      refine g_icmp_ge C 55 dX7_doneOf_11 (by decide) (fun c_7 => ?_) (fun c_7 => ?_)
      · exact absurd c_7 (lc_nle rfl hc0 (by omega) (by omega))
      · skip
        refine g_iload_n C dX7_doneOf_14 rfl 2 rfl ?_
        refine g_aload_n C dX7_doneOf_15 rfl 0 rfl ?_
        refine g_iload_n C dX7_doneOf_16 rfl 3 rfl ?_
        refine g_iconst C (v := 3) dX7_doneOf_17 (by decide) ?_
        refine g_callV C (cs1 := [wM E am μ]) (st1 := [.int (fX7_of μ i4 3), .int (lpF (fX7_doneOf_L4 μ o) 0 i4)]) [.int (nI i4), .int 3] [0] (kX7_of l E am μ i4 (by omega) 3 (by decide)) caX7_of q6_151 rfl ⟨Nat.le_of_ble_eq_true rfl, Nat.le_of_ble_eq_true rfl⟩ ⟨Nat.zero_le _, Nat.zero_le _⟩ 0 0 rfl rfl rfl rfl (by decide) rfl rfl rfl rfl (Nat.le_of_ble_eq_true rfl) dX7_doneOf_18 rfl ?_
        refine g_iload_n C dX7_doneOf_21 rfl 1 rfl ?_
        refine g_iconst C (v := 1) dX7_doneOf_22 (by decide) ?_
        refine g_iadd C dX7_doneOf_23 ?_
        refine g_icmp_ne C 46 dX7_doneOf_24 (by decide) (fun c_8 => ?_) (fun c_8 => ?_)
        · skip
          refine g_iconst C (v := 0) dX7_doneOf_46 (by decide) ?_
          refine g_iadd C dX7_doneOf_47 ?_
          refine g_istore_n C (lv1 := [(2, .int ((lpF (fX7_doneOf_L4 μ o) 0 i4) + 0)), (0, .ref (am 0)), (1, .int o), (3, .int (nI i4))]) dX7_doneOf_48 rfl (by decide) rfl ?_
          refine g_iinc C (v := nI (i4 + 1)) (lv1 := [(3, .int (nI (i4 + 1))), (2, .int ((lpF (fX7_doneOf_L4 μ o) 0 i4) + 0)), (0, .ref (am 0)), (1, .int o)]) dX7_doneOf_49 3 rfl (nI_1 i4) (by decide) rfl ?_
          refine g_goto C 4 dX7_doneOf_52 (by decide) ?_
          have e_9 : (lpF (fX7_doneOf_L4 μ o) 0 (i4 + 1)) = (lpF (fX7_doneOf_L4 μ o) 0 i4) + 0 := by
            rw [lpF_1, fX7_doneOf_L4]; rw [if_neg c_8]
          have h_10 := ih_4 (i4 + 1) (by omega)
          rw [e_9] at h_10
          exact g_sub [2, 3, 1, 0] rfl h_10
        · skip
          refine g_aload_n C dX7_doneOf_27 rfl 0 rfl ?_
          refine g_iload_n C dX7_doneOf_28 rfl 3 rfl ?_
          refine g_iconst C (v := 2) dX7_doneOf_29 (by decide) ?_
          refine g_callV C (cs1 := [wM E am μ]) (st1 := [.int (fX7_of μ i4 2), .int (lpF (fX7_doneOf_L4 μ o) 0 i4)]) [.int (nI i4), .int 2] [0] (kX7_of l E am μ i4 (by omega) 2 (by decide)) caX7_of q6_151 rfl ⟨Nat.le_of_ble_eq_true rfl, Nat.le_of_ble_eq_true rfl⟩ ⟨Nat.zero_le _, Nat.zero_le _⟩ 0 0 rfl rfl rfl rfl (by decide) rfl rfl rfl rfl (Nat.le_of_ble_eq_true rfl) dX7_doneOf_30 rfl ?_
          refine g_iconst C (v := 3) dX7_doneOf_33 (by decide) ?_
          refine g_icmp_ne C 46 dX7_doneOf_34 (by decide) (fun c_11 => ?_) (fun c_11 => ?_)
          · skip
            refine g_iconst C (v := 0) dX7_doneOf_46 (by decide) ?_
            refine g_iadd C dX7_doneOf_47 ?_
            refine g_istore_n C (lv1 := [(2, .int ((lpF (fX7_doneOf_L4 μ o) 0 i4) + 0)), (0, .ref (am 0)), (1, .int o), (3, .int (nI i4))]) dX7_doneOf_48 rfl (by decide) rfl ?_
            refine g_iinc C (v := nI (i4 + 1)) (lv1 := [(3, .int (nI (i4 + 1))), (2, .int ((lpF (fX7_doneOf_L4 μ o) 0 i4) + 0)), (0, .ref (am 0)), (1, .int o)]) dX7_doneOf_49 3 rfl (nI_1 i4) (by decide) rfl ?_
            refine g_goto C 4 dX7_doneOf_52 (by decide) ?_
            have e_12 : (lpF (fX7_doneOf_L4 μ o) 0 (i4 + 1)) = (lpF (fX7_doneOf_L4 μ o) 0 i4) + 0 := by
              rw [lpF_1, fX7_doneOf_L4]; rw [if_pos c_8, if_neg c_11]
            have h_13 := ih_4 (i4 + 1) (by omega)
            rw [e_12] at h_13
            exact g_sub [2, 3, 1, 0] rfl h_13
          · skip
            refine g_aload_n C dX7_doneOf_37 rfl 0 rfl ?_
            refine g_iload_n C dX7_doneOf_38 rfl 3 rfl ?_
            refine g_iconst C (v := 0) dX7_doneOf_39 (by decide) ?_
            refine g_callV C (cs1 := [wM E am μ]) (st1 := [.int (fX7_of μ i4 0), .int (lpF (fX7_doneOf_L4 μ o) 0 i4)]) [.int (nI i4), .int 0] [0] (kX7_of l E am μ i4 (by omega) 0 (by decide)) caX7_of q6_151 rfl ⟨Nat.le_of_ble_eq_true rfl, Nat.le_of_ble_eq_true rfl⟩ ⟨Nat.zero_le _, Nat.zero_le _⟩ 0 0 rfl rfl rfl rfl (by decide) rfl rfl rfl rfl (Nat.le_of_ble_eq_true rfl) dX7_doneOf_40 rfl ?_
            refine g_goto C 47 dX7_doneOf_43 (by decide) ?_
            refine g_iadd C dX7_doneOf_47 ?_
            refine g_istore_n C (lv1 := [(2, .int ((lpF (fX7_doneOf_L4 μ o) 0 i4) + (fX7_of μ i4 0))), (0, .ref (am 0)), (1, .int o), (3, .int (nI i4))]) dX7_doneOf_48 rfl (by decide) rfl ?_
            refine g_iinc C (v := nI (i4 + 1)) (lv1 := [(3, .int (nI (i4 + 1))), (2, .int ((lpF (fX7_doneOf_L4 μ o) 0 i4) + (fX7_of μ i4 0))), (0, .ref (am 0)), (1, .int o)]) dX7_doneOf_49 3 rfl (nI_1 i4) (by decide) rfl ?_
            refine g_goto C 4 dX7_doneOf_52 (by decide) ?_
            have e_14 : (lpF (fX7_doneOf_L4 μ o) 0 (i4 + 1)) = (lpF (fX7_doneOf_L4 μ o) 0 i4) + (fX7_of μ i4 0) := by
              rw [lpF_1, fX7_doneOf_L4]; rw [if_pos c_8, if_pos c_11]
            have h_15 := ih_4 (i4 + 1) (by omega)
            rw [e_14] at h_15
            exact g_sub [2, 3, 1, 0] rfl h_15
  refine g_sub [2, 3, 1, 0] (lv1 := [(0, .ref (am 0)), (1, .int o), (2, .int 0), (3, .int 0)]) rfl ?_
  exact hL_3 (cM μ) 0 (by omega)
def fX7_freest_L4 (μ : BS) (i4 : Nat) (t4 : Int32) : Int32 :=
  if ((μ.2 0 (4 + (i4 + 1))) - (fX7_load μ (nI (i4 + 1)))) ≤ ((μ.2 0 (4 + t4.toNatClampNeg)) - (fX7_load μ t4)) then t4 else nI (i4 + 1)
def fX7_freest (μ : BS) : Int32 :=
  (lpF (fX7_freest_L4 μ) 0 4)
theorem caX7_freest : gCalV yX7_freest cX7_freest 3 (some .int) 0 := ⟨⟨q8_38, q1_6, by decide +kernel⟩, q8_37, qs_58⟩
set_option maxHeartbeats 4000000 in
set_option maxRecDepth 100000 in
theorem kX7_freest (l : Launch) (E : gE) (am : Nat → Nat) (μ : BS) (hv : vM μ)   : MC l E yX7_freest cX7_freest 3 (some .int) 3 66 [.ref (am 0)] [wM E am μ] (some (.int (fX7_freest μ))) [wM E am μ] := by
  have hv1 : cM μ ≤ 20 := hv.1.1
  have hc0 : μ.2 0 0 = nI (cM μ) := hv.1.2.1
  refine mc_of (by decide +kernel) (Nat.le_of_ble_eq_true rfl) (lv := [(0, .ref (am 0))]) rfl (fun X C hE => ?_)
  refine g_iconst C (v := 0) dX7_freest_0 (by decide) ?_
  refine g_istore_n C (lv1 := [(1, .int 0), (0, .ref (am 0))]) dX7_freest_1 rfl (by decide) rfl ?_
  refine g_iconst C (v := 1) dX7_freest_2 (by decide) ?_
  refine g_istore_n C (lv1 := [(2, .int 1), (1, .int 0), (0, .ref (am 0))]) dX7_freest_3 rfl (by decide) rfl ?_
  have hL_3 : ∀ d_1 i4 : Nat, i4 + d_1 = 4 → G X 0 0 [wM E am μ] [(0, .ref (am 0)), (1, .int (lpF (fX7_freest_L4 μ) 0 i4)), (2, .int (nI (i4 + 1)))] 4 [] := by
    intro d_1
    induction d_1 with
    | zero =>
      intro i4 hi_2
      obtain rfl : i4 = 4 := by omega
      refine g_iload_n C dX7_freest_4 rfl 2 rfl ?_
      refine g_iconst C (v := 5) dX7_freest_5 (by decide) ?_
      refine g_icmp_ge C 52 dX7_freest_6 (by decide) (fun c_5 => ?_) (fun c_5 => ?_)
      · skip
        refine g_iload_n C dX7_freest_52 rfl 1 rfl ?_
        have e_6 : fX7_freest μ = (lpF (fX7_freest_L4 μ) 0 4) := by rw [fX7_freest]
        exact g_iret C hE (by rw [e_6]) rfl dX7_freest_53
      · exact absurd (lc_le rfl nI_l5 (by omega) (by omega)) c_5
    | succ d_1 ih_4 =>
      intro i4 hi_2
      have hj := okI (by decide) (lpF_invB (f := fX7_freest_L4 μ) (a := 0) (fun x => ∃ j : Nat, j < 5 ∧ x = nI j) 4 ⟨0, by decide, rfl⟩ (fun i x hi h => by unfold fX7_freest_L4; split <;> first | exact h | exact ⟨i + 1, by omega, rfl⟩) i4 (by omega))
      refine g_iload_n C dX7_freest_4 rfl 2 rfl ?_
      refine g_iconst C (v := 5) dX7_freest_5 (by decide) ?_
      refine g_icmp_ge C 52 dX7_freest_6 (by decide) (fun c_7 => ?_) (fun c_7 => ?_)
      · exact absurd c_7 (lc_nle rfl nI_l5 (by omega) (by omega))
      · skip
        refine g_aload_n C dX7_freest_9 rfl 0 rfl ?_
        refine g_getf C (T := TX7) (N := 15) 0 0 rfl rfl rfl inX7 1 (by decide) q6_71 rfl dX7_freest_10 ?_
        refine g_iconst C (v := 4) dX7_freest_13 (by decide) ?_
        refine g_iload_n C dX7_freest_14 rfl 2 rfl ?_
        refine g_iadd C dX7_freest_15 ?_
        refine g_ialdn C 0 1 (4 + (i4 + 1)) rfl rfl (nx_add rfl rfl) (by omega) (by decide) dX7_freest_16 ?_
        refine g_aload_n C dX7_freest_17 rfl 0 rfl ?_
        refine g_iload_n C dX7_freest_18 rfl 2 rfl ?_
        refine g_callV C (cs1 := [wM E am μ]) (st1 := [.int (fX7_load μ (nI (i4 + 1))), .int (μ.2 0 (4 + (i4 + 1)))]) [.int (nI (i4 + 1))] [0] (kX7_load l E am μ hv (nI (i4 + 1))) caX7_load q6_163 rfl ⟨Nat.le_of_ble_eq_true rfl, Nat.le_of_ble_eq_true rfl⟩ ⟨Nat.zero_le _, Nat.zero_le _⟩ 0 0 rfl rfl rfl rfl (by decide) rfl rfl rfl rfl (Nat.le_of_ble_eq_true rfl) dX7_freest_19 rfl ?_
        refine g_isub C dX7_freest_22 ?_
        refine g_aload_n C dX7_freest_23 rfl 0 rfl ?_
        refine g_getf C (T := TX7) (N := 15) 0 0 rfl rfl rfl inX7 1 (by decide) q6_71 rfl dX7_freest_24 ?_
        refine g_iconst C (v := 4) dX7_freest_27 (by decide) ?_
        refine g_iload_n C dX7_freest_28 rfl 1 rfl ?_
        refine g_iadd C dX7_freest_29 ?_
        refine g_ialdn C 0 1 (4 + (lpF (fX7_freest_L4 μ) 0 i4).toNatClampNeg) rfl rfl (nx_add rfl hj.1) (by omega) (by decide) dX7_freest_30 ?_
        refine g_aload_n C dX7_freest_31 rfl 0 rfl ?_
        refine g_iload_n C dX7_freest_32 rfl 1 rfl ?_
        refine g_callV C (cs1 := [wM E am μ]) (st1 := [.int (fX7_load μ (lpF (fX7_freest_L4 μ) 0 i4)), .int (μ.2 0 (4 + (lpF (fX7_freest_L4 μ) 0 i4).toNatClampNeg)), .int ((μ.2 0 (4 + (i4 + 1))) - (fX7_load μ (nI (i4 + 1))))]) [.int (lpF (fX7_freest_L4 μ) 0 i4)] [0] (kX7_load l E am μ hv (lpF (fX7_freest_L4 μ) 0 i4)) caX7_load q6_163 rfl ⟨Nat.le_of_ble_eq_true rfl, Nat.le_of_ble_eq_true rfl⟩ ⟨Nat.zero_le _, Nat.zero_le _⟩ 0 0 rfl rfl rfl rfl (by decide) rfl rfl rfl rfl (Nat.le_of_ble_eq_true rfl) dX7_freest_33 rfl ?_
        refine g_isub C dX7_freest_36 ?_
        refine g_icmp_le C 44 dX7_freest_37 (by decide) (fun c_8 => ?_) (fun c_8 => ?_)
        · skip
          refine g_iload_n C dX7_freest_44 rfl 1 rfl ?_
          refine g_istore_n C (lv1 := [(1, .int (lpF (fX7_freest_L4 μ) 0 i4)), (0, .ref (am 0)), (2, .int (nI (i4 + 1)))]) dX7_freest_45 rfl (by decide) rfl ?_
          refine g_iinc C (v := nI ((i4 + 1) + 1)) (lv1 := [(2, .int (nI ((i4 + 1) + 1))), (1, .int (lpF (fX7_freest_L4 μ) 0 i4)), (0, .ref (am 0))]) dX7_freest_46 2 rfl (nI_1 (i4 + 1)) (by decide) rfl ?_
          refine g_goto C 4 dX7_freest_49 (by decide) ?_
          refine g_lv (lv1 := [(2, .int (nI ((i4 + 1) + 1))), (1, .int (lpF (fX7_freest_L4 μ) 0 i4)), (0, .ref (am 0))]) (by rw [Nat.add_right_comm]) ?_
          have e_9 : (lpF (fX7_freest_L4 μ) 0 (i4 + 1)) = (lpF (fX7_freest_L4 μ) 0 i4) := by
            rw [lpF_1, fX7_freest_L4]; rw [if_pos c_8]
          have h_10 := ih_4 (i4 + 1) (by omega)
          rw [e_9] at h_10
          exact g_sub [2, 1, 0] rfl h_10
        · skip
          refine g_iload_n C dX7_freest_40 rfl 2 rfl ?_
          refine g_goto C 45 dX7_freest_41 (by decide) ?_
          refine g_istore_n C (lv1 := [(1, .int (nI (i4 + 1))), (0, .ref (am 0)), (2, .int (nI (i4 + 1)))]) dX7_freest_45 rfl (by decide) rfl ?_
          refine g_iinc C (v := nI ((i4 + 1) + 1)) (lv1 := [(2, .int (nI ((i4 + 1) + 1))), (1, .int (nI (i4 + 1))), (0, .ref (am 0))]) dX7_freest_46 2 rfl (nI_1 (i4 + 1)) (by decide) rfl ?_
          refine g_goto C 4 dX7_freest_49 (by decide) ?_
          refine g_lv (lv1 := [(2, .int (nI ((i4 + 1) + 1))), (1, .int (nI (i4 + 1))), (0, .ref (am 0))]) (by rw [Nat.add_right_comm]) ?_
          have e_11 : (lpF (fX7_freest_L4 μ) 0 (i4 + 1)) = nI (i4 + 1) := by
            rw [lpF_1, fX7_freest_L4]; rw [if_neg c_8]
          have h_12 := ih_4 (i4 + 1) (by omega)
          rw [e_11] at h_12
          exact g_sub [2, 1, 0] rfl h_12
  refine g_sub [2, 1, 0] (lv1 := [(0, .ref (am 0)), (1, .int 0), (2, .int 1)]) rfl ?_
  exact hL_3 4 0 (by omega)
def fX7_hundredths (μ : BS) (m : Int32) : Int32 :=
  if ((fX7_doneFor μ m) + (fX7_leftFor μ m)) = 0 then 100 else ((fX7_doneFor μ m) * 100) / ((fX7_doneFor μ m) + (fX7_leftFor μ m))
theorem caX7_hundredths : gCalV yX7_hundredths cX7_hundredths 3 (some .int) 1 := ⟨⟨q8_62, q1_6, by decide +kernel⟩, q8_61, qs_60⟩
set_option maxHeartbeats 4000000 in
set_option maxRecDepth 100000 in
theorem kX7_hundredths (l : Launch) (E : gE) (am : Nat → Nat) (μ : BS) (hv : vM μ)  (m : Int32) : MC l E yX7_hundredths cX7_hundredths 3 (some .int) 3 66 [.ref (am 0), .int m] [wM E am μ] (some (.int (fX7_hundredths μ m))) [wM E am μ] := by
  have hv1 : cM μ ≤ 20 := hv.1.1
  have hc0 : μ.2 0 0 = nI (cM μ) := hv.1.2.1
  refine mc_of (by decide +kernel) (Nat.le_of_ble_eq_true rfl) (lv := [(0, .ref (am 0)), (1, .int m)]) rfl (fun X C hE => ?_)
  refine g_aload_n C dX7_hundredths_0 rfl 0 rfl ?_
  refine g_iload_n C dX7_hundredths_1 rfl 1 rfl ?_
  refine g_callV C (cs1 := [wM E am μ]) (st1 := [.int (fX7_doneFor μ m)]) [.int m] [0] (kX7_doneFor l E am μ hv m) caX7_doneFor q8_51 rfl ⟨Nat.le_of_ble_eq_true rfl, Nat.le_of_ble_eq_true rfl⟩ ⟨Nat.zero_le _, Nat.zero_le _⟩ 0 0 rfl rfl rfl rfl (by decide) rfl rfl rfl rfl (Nat.le_of_ble_eq_true rfl) dX7_hundredths_2 rfl ?_
  refine g_aload_n C dX7_hundredths_5 rfl 0 rfl ?_
  refine g_iload_n C dX7_hundredths_6 rfl 1 rfl ?_
  refine g_callV C (cs1 := [wM E am μ]) (st1 := [.int (fX7_leftFor μ m), .int (fX7_doneFor μ m)]) [.int m] [0] (kX7_leftFor l E am μ hv m) caX7_leftFor q6_228 rfl ⟨Nat.le_of_ble_eq_true rfl, Nat.le_of_ble_eq_true rfl⟩ ⟨Nat.zero_le _, Nat.zero_le _⟩ 0 0 rfl rfl rfl rfl (by decide) rfl rfl rfl rfl (Nat.le_of_ble_eq_true rfl) dX7_hundredths_7 rfl ?_
  refine g_iadd C dX7_hundredths_10 ?_
  refine g_istore_n C (lv1 := [(2, .int ((fX7_doneFor μ m) + (fX7_leftFor μ m))), (0, .ref (am 0)), (1, .int m)]) dX7_hundredths_11 rfl (by decide) rfl ?_
  refine g_iload_n C dX7_hundredths_12 rfl 0 rfl ?_
  refine g_if_ne C 21 dX7_hundredths_13 (by decide) (fun c_1 => ?_) (fun c_1 => ?_)
  · skip
    have hne := c_1
    refine g_aload_n C dX7_hundredths_21 rfl 1 rfl ?_
    refine g_iload_n C dX7_hundredths_22 rfl 2 rfl ?_
    refine g_callV C (cs1 := [wM E am μ]) (st1 := [.int (fX7_doneFor μ m)]) [.int m] [0] (kX7_doneFor l E am μ hv m) caX7_doneFor q8_51 rfl ⟨Nat.le_of_ble_eq_true rfl, Nat.le_of_ble_eq_true rfl⟩ ⟨Nat.zero_le _, Nat.zero_le _⟩ 0 0 rfl rfl rfl rfl (by decide) rfl rfl rfl rfl (Nat.le_of_ble_eq_true rfl) dX7_hundredths_23 rfl ?_
    refine g_bipush C (v := 100) dX7_hundredths_26 (by decide) ?_
    refine g_imul C dX7_hundredths_28 ?_
    refine g_iload_n C dX7_hundredths_29 rfl 0 rfl ?_
    refine g_idiv C dX7_hundredths_30 hne ?_
    have e_2 : fX7_hundredths μ m = ((fX7_doneFor μ m) * 100) / ((fX7_doneFor μ m) + (fX7_leftFor μ m)) := by rw [fX7_hundredths]; rw [if_neg c_1]
    exact g_iret C hE (by rw [e_2]) rfl dX7_hundredths_31
  · skip
    have hne := c_1
    refine g_bipush C (v := 100) dX7_hundredths_16 (by decide) ?_
    refine g_goto C 31 dX7_hundredths_18 (by decide) ?_
    have e_3 : fX7_hundredths μ m = 100 := by rw [fX7_hundredths]; rw [if_pos c_1]
    exact g_iret C hE (by rw [e_3]) rfl dX7_hundredths_31
def fX7_late (μ : BS) (m : Nat) : Bool :=
  if (μ.2 0 1) ≤ (μ.2 0 (9 + m)) then false else (if (fX7_leftFor μ (nI m)) ≤ 0 then false else true)
theorem caX7_late : gCalV yX7_late cX7_late 2 (some .boolean) 1 := ⟨⟨q8_70, q1_6, by decide +kernel⟩, q8_69, qs_61⟩
set_option maxHeartbeats 4000000 in
set_option maxRecDepth 100000 in
theorem kX7_late (l : Launch) (E : gE) (am : Nat → Nat) (μ : BS) (hv : vM μ)  (m : Nat) (hm : m < 4) : MC l E yX7_late cX7_late 2 (some .boolean) 3 66 [.ref (am 0), .int (nI m)] [wM E am μ] (some (.int (b2i (fX7_late μ m)))) [wM E am μ] := by
  have hv1 : cM μ ≤ 20 := hv.1.1
  have hc0 : μ.2 0 0 = nI (cM μ) := hv.1.2.1
  refine mc_of (by decide +kernel) (Nat.le_of_ble_eq_true rfl) (lv := [(0, .ref (am 0)), (1, .int (nI m))]) rfl (fun X C hE => ?_)
  refine g_aload_n C dX7_late_0 rfl 0 rfl ?_
  refine g_getf C (T := TX7) (N := 15) 0 0 rfl rfl rfl inX7 1 (by decide) q6_71 rfl dX7_late_1 ?_
  refine g_iconst C (v := 1) dX7_late_4 (by decide) ?_
  refine g_ialdn C 0 1 1 rfl rfl rfl (by decide) (by decide) dX7_late_5 ?_
  refine g_aload_n C dX7_late_6 rfl 0 rfl ?_
  refine g_getf C (T := TX7) (N := 15) 0 0 rfl rfl rfl inX7 1 (by decide) q6_71 rfl dX7_late_7 ?_
  refine g_bipush C (v := 9) dX7_late_10 (by decide) ?_
  refine g_iload_n C dX7_late_12 rfl 1 rfl ?_
  refine g_iadd C dX7_late_13 ?_
  refine g_ialdn C 0 1 (9 + m) rfl rfl (nx_add rfl rfl) (by omega) (by decide) dX7_late_14 ?_
  refine g_icmp_le C 30 dX7_late_15 (by decide) (fun c_1 => ?_) (fun c_1 => ?_)
  · skip
    refine g_iconst C (v := 0) dX7_late_30 (by decide) ?_
    have e_2 : fX7_late μ m = false := by rw [fX7_late]; rw [if_pos c_1]
    exact g_zret (b := false) C hE (by rw [e_2]) rfl rfl dX7_late_31
  · skip
    refine g_aload_n C dX7_late_18 rfl 0 rfl ?_
    refine g_iload_n C dX7_late_19 rfl 1 rfl ?_
    refine g_callV C (cs1 := [wM E am μ]) (st1 := [.int (fX7_leftFor μ (nI m))]) [.int (nI m)] [0] (kX7_leftFor l E am μ hv (nI m)) caX7_leftFor q6_228 rfl ⟨Nat.le_of_ble_eq_true rfl, Nat.le_of_ble_eq_true rfl⟩ ⟨Nat.zero_le _, Nat.zero_le _⟩ 0 0 rfl rfl rfl rfl (by decide) rfl rfl rfl rfl (Nat.le_of_ble_eq_true rfl) dX7_late_20 rfl ?_
    refine g_if_le C 30 dX7_late_23 (by decide) (fun c_3 => ?_) (fun c_3 => ?_)
    · skip
      refine g_iconst C (v := 0) dX7_late_30 (by decide) ?_
      have e_4 : fX7_late μ m = false := by rw [fX7_late]; rw [if_neg c_1, if_pos c_3]
      exact g_zret (b := false) C hE (by rw [e_4]) rfl rfl dX7_late_31
    · skip
      refine g_iconst C (v := 1) dX7_late_26 (by decide) ?_
      refine g_goto C 31 dX7_late_27 (by decide) ?_
      have e_5 : fX7_late μ m = true := by rw [fX7_late]; rw [if_neg c_1, if_neg c_3]
      exact g_zret (b := true) C hE (by rw [e_5]) rfl rfl dX7_late_31
def fX7_isBehind (μ : BS) (u : Nat) (m : Nat) : Bool :=
  if (fX7_of μ u 4) = 0 then true else (if (μ.2 0 ((9 + (fX7_of μ u 4).toNatClampNeg) - 1)) ≤ (μ.2 0 (9 + m)) then false else true)
theorem caX7_isBehind : gCalV yX7_isBehind cX7_isBehind 3 (some .boolean) 2 := ⟨⟨q8_82, q1_6, by decide +kernel⟩, q8_81, qs_63⟩
set_option maxHeartbeats 4000000 in
set_option maxRecDepth 100000 in
theorem kX7_isBehind (l : Launch) (E : gE) (am : Nat → Nat) (μ : BS) (hv : vM μ)  (u : Nat) (hu : u < 20) (m : Nat) (hm : m < 4) : MC l E yX7_isBehind cX7_isBehind 3 (some .boolean) 1 22 [.ref (am 0), .int (nI u), .int (nI m)] [wM E am μ] (some (.int (b2i (fX7_isBehind μ u m)))) [wM E am μ] := by
  have hv1 : cM μ ≤ 20 := hv.1.1
  have hc0 : μ.2 0 0 = nI (cM μ) := hv.1.2.1
  have hm9 := okMi hv hu
  refine mc_of (by decide +kernel) (Nat.le_of_ble_eq_true rfl) (lv := [(0, .ref (am 0)), (1, .int (nI u)), (2, .int (nI m))]) rfl (fun X C hE => ?_)
  refine g_aload_n C dX7_isBehind_0 rfl 0 rfl ?_
  refine g_iload_n C dX7_isBehind_1 rfl 1 rfl ?_
  refine g_iconst C (v := 4) dX7_isBehind_2 (by decide) ?_
  refine g_callV C (cs1 := [wM E am μ]) (st1 := [.int (fX7_of μ u 4)]) [.int (nI u), .int 4] [0] (kX7_of l E am μ u (by omega) 4 (by decide)) caX7_of q6_151 rfl ⟨Nat.le_of_ble_eq_true rfl, Nat.le_of_ble_eq_true rfl⟩ ⟨Nat.zero_le _, Nat.zero_le _⟩ 0 0 rfl rfl rfl rfl (by decide) rfl rfl rfl rfl (Nat.le_of_ble_eq_true rfl) dX7_isBehind_3 rfl ?_
  refine g_if_eq C 37 dX7_isBehind_6 (by decide) (fun c_1 => ?_) (fun c_1 => ?_)
  · skip
    refine g_iconst C (v := 1) dX7_isBehind_37 (by decide) ?_
    refine g_goto C 42 dX7_isBehind_38 (by decide) ?_
    have e_2 : fX7_isBehind μ u m = true := by rw [fX7_isBehind]; rw [if_pos c_1]
    exact g_zret (b := true) C hE (by rw [e_2]) rfl rfl dX7_isBehind_42
  · skip
    refine g_aload_n C dX7_isBehind_9 rfl 0 rfl ?_
    refine g_getf C (T := TX7) (N := 15) 0 0 rfl rfl rfl inX7 1 (by decide) q6_71 rfl dX7_isBehind_10 ?_
    refine g_bipush C (v := 9) dX7_isBehind_13 (by decide) ?_
    refine g_aload_n C dX7_isBehind_15 rfl 0 rfl ?_
    refine g_iload_n C dX7_isBehind_16 rfl 1 rfl ?_
    refine g_iconst C (v := 4) dX7_isBehind_17 (by decide) ?_
    refine g_callV C (cs1 := [wM E am μ]) (st1 := [.int (fX7_of μ u 4), .int 9, .ref (am 1)]) [.int (nI u), .int 4] [0] (kX7_of l E am μ u (by omega) 4 (by decide)) caX7_of q6_151 rfl ⟨Nat.le_of_ble_eq_true rfl, Nat.le_of_ble_eq_true rfl⟩ ⟨Nat.zero_le _, Nat.zero_le _⟩ 0 0 rfl rfl rfl rfl (by decide) rfl rfl rfl rfl (Nat.le_of_ble_eq_true rfl) dX7_isBehind_18 rfl ?_
    refine g_iadd C dX7_isBehind_21 ?_
    refine g_iconst C (v := 1) dX7_isBehind_22 (by decide) ?_
    refine g_isub C dX7_isBehind_23 ?_
    refine g_ialdn C 0 1 ((9 + (fX7_of μ u 4).toNatClampNeg) - 1) rfl rfl (nx_sub (by omega) (nx_add rfl hm9.1) rfl) (by omega) (by decide) dX7_isBehind_24 ?_
    refine g_aload_n C dX7_isBehind_25 rfl 0 rfl ?_
    refine g_getf C (T := TX7) (N := 15) 0 0 rfl rfl rfl inX7 1 (by decide) q6_71 rfl dX7_isBehind_26 ?_
    refine g_bipush C (v := 9) dX7_isBehind_29 (by decide) ?_
    refine g_iload_n C dX7_isBehind_31 rfl 2 rfl ?_
    refine g_iadd C dX7_isBehind_32 ?_
    refine g_ialdn C 0 1 (9 + m) rfl rfl (nx_add rfl rfl) (by omega) (by decide) dX7_isBehind_33 ?_
    refine g_icmp_le C 41 dX7_isBehind_34 (by decide) (fun c_3 => ?_) (fun c_3 => ?_)
    · skip
      refine g_iconst C (v := 0) dX7_isBehind_41 (by decide) ?_
      have e_4 : fX7_isBehind μ u m = false := by rw [fX7_isBehind]; rw [if_neg c_1, if_pos c_3]
      exact g_zret (b := false) C hE (by rw [e_4]) rfl rfl dX7_isBehind_42
    · skip
      refine g_iconst C (v := 1) dX7_isBehind_37 (by decide) ?_
      refine g_goto C 42 dX7_isBehind_38 (by decide) ?_
      have e_5 : fX7_isBehind μ u m = true := by rw [fX7_isBehind]; rw [if_neg c_1, if_neg c_3]
      exact g_zret (b := true) C hE (by rw [e_5]) rfl rfl dX7_isBehind_42
def fX7_misplannedOf_L20 (μ : BS) (m : Nat) (i4 : Nat) (t4 : Int32) (i20 : Nat) (t20 : Bool) : Bool :=
  if t20 = true then true else (if (((fX7_blockers μ i4) >>> ((nI i20) &&& 31)) &&& 1) = 1 then (if (fX7_isBehind μ i20 m) = true then true else false) else false)
def fX7_misplannedOf_L4 (μ : BS) (m : Nat) (i4 : Nat) (t4 : Int32) : Int32 :=
  if (lpF (fX7_misplannedOf_L20 μ m i4 t4) false (cM μ)) = true then (if (fX7_of μ i4 4) = ((nI m) + 1) then (if (fX7_isLeft μ i4) = true then t4 + 1 else t4 + 0) else t4 + 0) else t4 + 0
def fX7_misplannedOf (μ : BS) (m : Nat) : Int32 :=
  (lpF (fX7_misplannedOf_L4 μ m) 0 (cM μ))
theorem caX7_misplannedOf : gCalV yX7_misplannedOf cX7_misplannedOf 6 (some .int) 1 := ⟨⟨q8_78, q1_6, by decide +kernel⟩, q8_77, qs_62⟩
set_option maxHeartbeats 4000000 in
set_option maxRecDepth 100000 in
theorem kX7_misplannedOf (l : Launch) (E : gE) (am : Nat → Nat) (μ : BS) (hv : vM μ)  (m : Nat) (hm : m < 4) : MC l E yX7_misplannedOf cX7_misplannedOf 6 (some .int) 4 86 [.ref (am 0), .int (nI m)] [wM E am μ] (some (.int (fX7_misplannedOf μ m))) [wM E am μ] := by
  have hv1 : cM μ ≤ 20 := hv.1.1
  have hc0 : μ.2 0 0 = nI (cM μ) := hv.1.2.1
  refine mc_of (by decide +kernel) (Nat.le_of_ble_eq_true rfl) (lv := [(0, .ref (am 0)), (1, .int (nI m))]) rfl (fun X C hE => ?_)
  refine g_iconst C (v := 0) dX7_misplannedOf_0 (by decide) ?_
  refine g_istore_n C (lv1 := [(2, .int 0), (0, .ref (am 0)), (1, .int (nI m))]) dX7_misplannedOf_1 rfl (by decide) rfl ?_
  refine g_iconst C (v := 0) dX7_misplannedOf_2 (by decide) ?_
  refine g_istore_n C (lv1 := [(3, .int 0), (2, .int 0), (0, .ref (am 0)), (1, .int (nI m))]) dX7_misplannedOf_3 rfl (by decide) rfl ?_
  have hL_3 : ∀ d_1 i4 : Nat, i4 + d_1 = (cM μ) → G X 0 0 [wM E am μ] [(0, .ref (am 0)), (1, .int (nI m)), (2, .int (lpF (fX7_misplannedOf_L4 μ m) 0 i4)), (3, .int (nI i4))] 4 [] := by
    intro d_1
    induction d_1 with
    | zero =>
      intro i4 hi_2
      obtain rfl : i4 = (cM μ) := by omega
      refine g_iload_n C dX7_misplannedOf_4 rfl 3 rfl ?_
      refine g_aload_n C dX7_misplannedOf_5 rfl 0 rfl ?_
      refine g_getf C (T := TX7) (N := 15) 0 0 rfl rfl rfl inX7 1 (by decide) q6_71 rfl dX7_misplannedOf_6 ?_
      refine g_iconst C (v := 0) dX7_misplannedOf_9 (by decide) ?_
      refine g_ialdn C 0 1 0 rfl rfl rfl (by decide) (by decide) dX7_misplannedOf_10 ?_
      refine g_icmp_ge C 112 dX7_misplannedOf_11 (by decide) (fun c_5 => ?_) (fun c_5 => ?_)
      · skip
        refine g_iload_n C dX7_misplannedOf_112 rfl 2 rfl ?_
        have e_6 : fX7_misplannedOf μ m = (lpF (fX7_misplannedOf_L4 μ m) 0 (cM μ)) := by rw [fX7_misplannedOf]
        exact g_iret C hE (by rw [e_6]) rfl dX7_misplannedOf_113
      · exact absurd (lc_le rfl hc0 (by omega) (by omega)) c_5
    | succ d_1 ih_4 =>
      intro i4 hi_2
      refine g_iload_n C dX7_misplannedOf_4 rfl 3 rfl ?_
      refine g_aload_n C dX7_misplannedOf_5 rfl 0 rfl ?_
      refine g_getf C (T := TX7) (N := 15) 0 0 rfl rfl rfl inX7 1 (by decide) q6_71 rfl dX7_misplannedOf_6 ?_
      refine g_iconst C (v := 0) dX7_misplannedOf_9 (by decide) ?_
      refine g_ialdn C 0 1 0 rfl rfl rfl (by decide) (by decide) dX7_misplannedOf_10 ?_
      refine g_icmp_ge C 112 dX7_misplannedOf_11 (by decide) (fun c_7 => ?_) (fun c_7 => ?_)
      · exact absurd c_7 (lc_nle rfl hc0 (by omega) (by omega))
      · skip
        refine g_iconst C (v := 0) dX7_misplannedOf_14 (by decide) ?_
        refine g_istore C (lv1 := [(4, .int 0), (0, .ref (am 0)), (1, .int (nI m)), (2, .int (lpF (fX7_misplannedOf_L4 μ m) 0 i4)), (3, .int (nI i4))]) dX7_misplannedOf_15 (by decide) rfl ?_
        refine g_iconst C (v := 0) dX7_misplannedOf_17 (by decide) ?_
        refine g_istore C (lv1 := [(5, .int 0), (4, .int 0), (0, .ref (am 0)), (1, .int (nI m)), (2, .int (lpF (fX7_misplannedOf_L4 μ m) 0 i4)), (3, .int (nI i4))]) dX7_misplannedOf_18 (by decide) rfl ?_
        have hL_10 : ∀ d_8 i20 : Nat, i20 + d_8 = (cM μ) → G X 0 0 [wM E am μ] [(0, .ref (am 0)), (1, .int (nI m)), (2, .int (lpF (fX7_misplannedOf_L4 μ m) 0 i4)), (3, .int (nI i4)), (4, .int (b2i (lpF (fX7_misplannedOf_L20 μ m i4 (lpF (fX7_misplannedOf_L4 μ m) 0 i4)) false i20))), (5, .int (nI i20))] 20 [] := by
          intro d_8
          induction d_8 with
          | zero =>
            intro i20 hi_9
            obtain rfl : i20 = (cM μ) := by omega
            refine g_iload C dX7_misplannedOf_20 5 rfl ?_
            refine g_aload_n C dX7_misplannedOf_22 rfl 0 rfl ?_
            refine g_getf C (T := TX7) (N := 15) 0 0 rfl rfl rfl inX7 1 (by decide) q6_71 rfl dX7_misplannedOf_23 ?_
            refine g_iconst C (v := 0) dX7_misplannedOf_26 (by decide) ?_
            refine g_ialdn C 0 1 0 rfl rfl rfl (by decide) (by decide) dX7_misplannedOf_27 ?_
            refine g_icmp_ge C 73 dX7_misplannedOf_28 (by decide) (fun c_12 => ?_) (fun c_12 => ?_)
            · skip
              refine g_iload_n C dX7_misplannedOf_73 rfl 2 rfl ?_
              refine g_iload C dX7_misplannedOf_74 4 rfl ?_
              refine g_ifB_eq C 103 dX7_misplannedOf_76 (by decide) (fun c_13 => ?_) (fun c_13 => ?_)
              · skip
                refine g_iconst C (v := 0) dX7_misplannedOf_103 (by decide) ?_
                refine g_iadd C dX7_misplannedOf_104 ?_
                refine g_istore_n C (lv1 := [(2, .int ((lpF (fX7_misplannedOf_L4 μ m) 0 i4) + 0)), (0, .ref (am 0)), (1, .int (nI m)), (3, .int (nI i4)), (4, .int (b2i (lpF (fX7_misplannedOf_L20 μ m i4 (lpF (fX7_misplannedOf_L4 μ m) 0 i4)) false (cM μ)))), (5, .int (nI (cM μ)))]) dX7_misplannedOf_105 rfl (by decide) rfl ?_
                refine g_iinc C (v := nI (i4 + 1)) (lv1 := [(3, .int (nI (i4 + 1))), (2, .int ((lpF (fX7_misplannedOf_L4 μ m) 0 i4) + 0)), (0, .ref (am 0)), (1, .int (nI m)), (4, .int (b2i (lpF (fX7_misplannedOf_L20 μ m i4 (lpF (fX7_misplannedOf_L4 μ m) 0 i4)) false (cM μ)))), (5, .int (nI (cM μ)))]) dX7_misplannedOf_106 3 rfl (nI_1 i4) (by decide) rfl ?_
                refine g_goto C 4 dX7_misplannedOf_109 (by decide) ?_
                have e_14 : (lpF (fX7_misplannedOf_L4 μ m) 0 (i4 + 1)) = (lpF (fX7_misplannedOf_L4 μ m) 0 i4) + 0 := by
                  rw [lpF_1, fX7_misplannedOf_L4]; rw [if_neg (ne_true_of_eq_false c_13)]
                have h_15 := ih_4 (i4 + 1) (by omega)
                rw [e_14] at h_15
                exact g_sub [2, 3, 1, 0] rfl h_15
              · skip
                refine g_aload_n C dX7_misplannedOf_79 rfl 0 rfl ?_
                refine g_iload_n C dX7_misplannedOf_80 rfl 3 rfl ?_
                refine g_iconst C (v := 4) dX7_misplannedOf_81 (by decide) ?_
                refine g_callV C (cs1 := [wM E am μ]) (st1 := [.int (fX7_of μ i4 4), .int (lpF (fX7_misplannedOf_L4 μ m) 0 i4)]) [.int (nI i4), .int 4] [0] (kX7_of l E am μ i4 (by omega) 4 (by decide)) caX7_of q6_151 rfl ⟨Nat.le_of_ble_eq_true rfl, Nat.le_of_ble_eq_true rfl⟩ ⟨Nat.zero_le _, Nat.zero_le _⟩ 0 0 rfl rfl rfl rfl (by decide) rfl rfl rfl rfl (Nat.le_of_ble_eq_true rfl) dX7_misplannedOf_82 rfl ?_
                refine g_iload_n C dX7_misplannedOf_85 rfl 1 rfl ?_
                refine g_iconst C (v := 1) dX7_misplannedOf_86 (by decide) ?_
                refine g_iadd C dX7_misplannedOf_87 ?_
                refine g_icmp_ne C 103 dX7_misplannedOf_88 (by decide) (fun c_16 => ?_) (fun c_16 => ?_)
                · skip
                  refine g_iconst C (v := 0) dX7_misplannedOf_103 (by decide) ?_
                  refine g_iadd C dX7_misplannedOf_104 ?_
                  refine g_istore_n C (lv1 := [(2, .int ((lpF (fX7_misplannedOf_L4 μ m) 0 i4) + 0)), (0, .ref (am 0)), (1, .int (nI m)), (3, .int (nI i4)), (4, .int (b2i (lpF (fX7_misplannedOf_L20 μ m i4 (lpF (fX7_misplannedOf_L4 μ m) 0 i4)) false (cM μ)))), (5, .int (nI (cM μ)))]) dX7_misplannedOf_105 rfl (by decide) rfl ?_
                  refine g_iinc C (v := nI (i4 + 1)) (lv1 := [(3, .int (nI (i4 + 1))), (2, .int ((lpF (fX7_misplannedOf_L4 μ m) 0 i4) + 0)), (0, .ref (am 0)), (1, .int (nI m)), (4, .int (b2i (lpF (fX7_misplannedOf_L20 μ m i4 (lpF (fX7_misplannedOf_L4 μ m) 0 i4)) false (cM μ)))), (5, .int (nI (cM μ)))]) dX7_misplannedOf_106 3 rfl (nI_1 i4) (by decide) rfl ?_
                  refine g_goto C 4 dX7_misplannedOf_109 (by decide) ?_
                  have e_17 : (lpF (fX7_misplannedOf_L4 μ m) 0 (i4 + 1)) = (lpF (fX7_misplannedOf_L4 μ m) 0 i4) + 0 := by
                    rw [lpF_1, fX7_misplannedOf_L4]; rw [if_pos c_13, if_neg c_16]
                  have h_18 := ih_4 (i4 + 1) (by omega)
                  rw [e_17] at h_18
                  exact g_sub [2, 3, 1, 0] rfl h_18
                · skip
                  refine g_aload_n C dX7_misplannedOf_91 rfl 0 rfl ?_
                  refine g_iload_n C dX7_misplannedOf_92 rfl 3 rfl ?_
                  refine g_callV C (cs1 := [wM E am μ]) (st1 := [.int (b2i (fX7_isLeft μ i4)), .int (lpF (fX7_misplannedOf_L4 μ m) 0 i4)]) [.int (nI i4)] [0] (kX7_isLeft l E am μ i4 (by omega)) caX7_isLeft q6_155 rfl ⟨Nat.le_of_ble_eq_true rfl, Nat.le_of_ble_eq_true rfl⟩ ⟨Nat.zero_le _, Nat.zero_le _⟩ 0 0 rfl rfl rfl rfl (by decide) rfl rfl rfl rfl (Nat.le_of_ble_eq_true rfl) dX7_misplannedOf_93 rfl ?_
                  refine g_ifB_eq C 103 dX7_misplannedOf_96 (by decide) (fun c_19 => ?_) (fun c_19 => ?_)
                  · skip
                    refine g_iconst C (v := 0) dX7_misplannedOf_103 (by decide) ?_
                    refine g_iadd C dX7_misplannedOf_104 ?_
                    refine g_istore_n C (lv1 := [(2, .int ((lpF (fX7_misplannedOf_L4 μ m) 0 i4) + 0)), (0, .ref (am 0)), (1, .int (nI m)), (3, .int (nI i4)), (4, .int (b2i (lpF (fX7_misplannedOf_L20 μ m i4 (lpF (fX7_misplannedOf_L4 μ m) 0 i4)) false (cM μ)))), (5, .int (nI (cM μ)))]) dX7_misplannedOf_105 rfl (by decide) rfl ?_
                    refine g_iinc C (v := nI (i4 + 1)) (lv1 := [(3, .int (nI (i4 + 1))), (2, .int ((lpF (fX7_misplannedOf_L4 μ m) 0 i4) + 0)), (0, .ref (am 0)), (1, .int (nI m)), (4, .int (b2i (lpF (fX7_misplannedOf_L20 μ m i4 (lpF (fX7_misplannedOf_L4 μ m) 0 i4)) false (cM μ)))), (5, .int (nI (cM μ)))]) dX7_misplannedOf_106 3 rfl (nI_1 i4) (by decide) rfl ?_
                    refine g_goto C 4 dX7_misplannedOf_109 (by decide) ?_
                    have e_20 : (lpF (fX7_misplannedOf_L4 μ m) 0 (i4 + 1)) = (lpF (fX7_misplannedOf_L4 μ m) 0 i4) + 0 := by
                      rw [lpF_1, fX7_misplannedOf_L4]; rw [if_pos c_13, if_pos c_16, if_neg (ne_true_of_eq_false c_19)]
                    have h_21 := ih_4 (i4 + 1) (by omega)
                    rw [e_20] at h_21
                    exact g_sub [2, 3, 1, 0] rfl h_21
                  · skip
                    refine g_iconst C (v := 1) dX7_misplannedOf_99 (by decide) ?_
                    refine g_goto C 104 dX7_misplannedOf_100 (by decide) ?_
                    refine g_iadd C dX7_misplannedOf_104 ?_
                    refine g_istore_n C (lv1 := [(2, .int ((lpF (fX7_misplannedOf_L4 μ m) 0 i4) + 1)), (0, .ref (am 0)), (1, .int (nI m)), (3, .int (nI i4)), (4, .int (b2i (lpF (fX7_misplannedOf_L20 μ m i4 (lpF (fX7_misplannedOf_L4 μ m) 0 i4)) false (cM μ)))), (5, .int (nI (cM μ)))]) dX7_misplannedOf_105 rfl (by decide) rfl ?_
                    refine g_iinc C (v := nI (i4 + 1)) (lv1 := [(3, .int (nI (i4 + 1))), (2, .int ((lpF (fX7_misplannedOf_L4 μ m) 0 i4) + 1)), (0, .ref (am 0)), (1, .int (nI m)), (4, .int (b2i (lpF (fX7_misplannedOf_L20 μ m i4 (lpF (fX7_misplannedOf_L4 μ m) 0 i4)) false (cM μ)))), (5, .int (nI (cM μ)))]) dX7_misplannedOf_106 3 rfl (nI_1 i4) (by decide) rfl ?_
                    refine g_goto C 4 dX7_misplannedOf_109 (by decide) ?_
                    have e_22 : (lpF (fX7_misplannedOf_L4 μ m) 0 (i4 + 1)) = (lpF (fX7_misplannedOf_L4 μ m) 0 i4) + 1 := by
                      rw [lpF_1, fX7_misplannedOf_L4]; rw [if_pos c_13, if_pos c_16, if_pos c_19]
                    have h_23 := ih_4 (i4 + 1) (by omega)
                    rw [e_22] at h_23
                    exact g_sub [2, 3, 1, 0] rfl h_23
            · exact absurd (lc_le rfl hc0 (by omega) (by omega)) c_12
          | succ d_8 ih_11 =>
            intro i20 hi_9
            refine g_iload C dX7_misplannedOf_20 5 rfl ?_
            refine g_aload_n C dX7_misplannedOf_22 rfl 0 rfl ?_
            refine g_getf C (T := TX7) (N := 15) 0 0 rfl rfl rfl inX7 1 (by decide) q6_71 rfl dX7_misplannedOf_23 ?_
            refine g_iconst C (v := 0) dX7_misplannedOf_26 (by decide) ?_
            refine g_ialdn C 0 1 0 rfl rfl rfl (by decide) (by decide) dX7_misplannedOf_27 ?_
            refine g_icmp_ge C 73 dX7_misplannedOf_28 (by decide) (fun c_24 => ?_) (fun c_24 => ?_)
            · exact absurd c_24 (lc_nle rfl hc0 (by omega) (by omega))
            · skip
              refine g_iload C dX7_misplannedOf_31 4 rfl ?_
              refine g_ifB_ne C 60 dX7_misplannedOf_33 (by decide) (fun c_25 => ?_) (fun c_25 => ?_)
              · skip
                refine g_iconst C (v := 1) dX7_misplannedOf_60 (by decide) ?_
                refine g_goto C 65 dX7_misplannedOf_61 (by decide) ?_
                refine g_istore C (lv1 := [(4, .int 1), (0, .ref (am 0)), (1, .int (nI m)), (2, .int (lpF (fX7_misplannedOf_L4 μ m) 0 i4)), (3, .int (nI i4)), (5, .int (nI i20))]) dX7_misplannedOf_65 (by decide) rfl ?_
                refine g_iinc C (v := nI (i20 + 1)) (lv1 := [(5, .int (nI (i20 + 1))), (4, .int 1), (0, .ref (am 0)), (1, .int (nI m)), (2, .int (lpF (fX7_misplannedOf_L4 μ m) 0 i4)), (3, .int (nI i4))]) dX7_misplannedOf_67 5 rfl (nI_1 i20) (by decide) rfl ?_
                refine g_goto C 20 dX7_misplannedOf_70 (by decide) ?_
                have e_26 : (lpF (fX7_misplannedOf_L20 μ m i4 (lpF (fX7_misplannedOf_L4 μ m) 0 i4)) false (i20 + 1)) = true := by
                  rw [lpF_1, fX7_misplannedOf_L20]; rw [if_pos c_25]
                have h_27 := ih_11 (i20 + 1) (by omega)
                rw [e_26] at h_27
                exact g_sub [2, 3, 4, 5, 1, 0] rfl h_27
              · skip
                refine g_aload_n C dX7_misplannedOf_36 rfl 0 rfl ?_
                refine g_iload_n C dX7_misplannedOf_37 rfl 3 rfl ?_
                refine g_callV C (cs1 := [wM E am μ]) (st1 := [.int (fX7_blockers μ i4)]) [.int (nI i4)] [0] (kX7_blockers l E am μ hv i4 (by omega)) caX7_blockers q7_32 rfl ⟨Nat.le_of_ble_eq_true rfl, Nat.le_of_ble_eq_true rfl⟩ ⟨Nat.zero_le _, Nat.zero_le _⟩ 0 0 rfl rfl rfl rfl (by decide) rfl rfl rfl rfl (Nat.le_of_ble_eq_true rfl) dX7_misplannedOf_38 rfl ?_
                refine g_iload C dX7_misplannedOf_41 5 rfl ?_
                refine g_ishr C dX7_misplannedOf_43 ?_
                refine g_iconst C (v := 1) dX7_misplannedOf_44 (by decide) ?_
                refine g_iand C dX7_misplannedOf_45 ?_
                refine g_iconst C (v := 1) dX7_misplannedOf_46 (by decide) ?_
                refine g_icmp_ne C 64 dX7_misplannedOf_47 (by decide) (fun c_28 => ?_) (fun c_28 => ?_)
                · skip
                  refine g_iconst C (v := 0) dX7_misplannedOf_64 (by decide) ?_
                  refine g_istore C (lv1 := [(4, .int 0), (0, .ref (am 0)), (1, .int (nI m)), (2, .int (lpF (fX7_misplannedOf_L4 μ m) 0 i4)), (3, .int (nI i4)), (5, .int (nI i20))]) dX7_misplannedOf_65 (by decide) rfl ?_
                  refine g_iinc C (v := nI (i20 + 1)) (lv1 := [(5, .int (nI (i20 + 1))), (4, .int 0), (0, .ref (am 0)), (1, .int (nI m)), (2, .int (lpF (fX7_misplannedOf_L4 μ m) 0 i4)), (3, .int (nI i4))]) dX7_misplannedOf_67 5 rfl (nI_1 i20) (by decide) rfl ?_
                  refine g_goto C 20 dX7_misplannedOf_70 (by decide) ?_
                  have e_29 : (lpF (fX7_misplannedOf_L20 μ m i4 (lpF (fX7_misplannedOf_L4 μ m) 0 i4)) false (i20 + 1)) = false := by
                    rw [lpF_1, fX7_misplannedOf_L20]; rw [if_neg (ne_true_of_eq_false c_25), if_neg c_28]
                  have h_30 := ih_11 (i20 + 1) (by omega)
                  rw [e_29] at h_30
                  exact g_sub [2, 3, 4, 5, 1, 0] rfl h_30
                · skip
                  refine g_aload_n C dX7_misplannedOf_50 rfl 0 rfl ?_
                  refine g_iload C dX7_misplannedOf_51 5 rfl ?_
                  refine g_iload_n C dX7_misplannedOf_53 rfl 1 rfl ?_
                  refine g_callV C (cs1 := [wM E am μ]) (st1 := [.int (b2i (fX7_isBehind μ i20 m))]) [.int (nI i20), .int (nI m)] [0] (kX7_isBehind l E am μ hv i20 (by omega) m (by omega)) caX7_isBehind q8_79 rfl ⟨Nat.le_of_ble_eq_true rfl, Nat.le_of_ble_eq_true rfl⟩ ⟨Nat.zero_le _, Nat.zero_le _⟩ 0 0 rfl rfl rfl rfl (by decide) rfl rfl rfl rfl (Nat.le_of_ble_eq_true rfl) dX7_misplannedOf_54 rfl ?_
                  refine g_ifB_eq C 64 dX7_misplannedOf_57 (by decide) (fun c_31 => ?_) (fun c_31 => ?_)
                  · skip
                    refine g_iconst C (v := 0) dX7_misplannedOf_64 (by decide) ?_
                    refine g_istore C (lv1 := [(4, .int 0), (0, .ref (am 0)), (1, .int (nI m)), (2, .int (lpF (fX7_misplannedOf_L4 μ m) 0 i4)), (3, .int (nI i4)), (5, .int (nI i20))]) dX7_misplannedOf_65 (by decide) rfl ?_
                    refine g_iinc C (v := nI (i20 + 1)) (lv1 := [(5, .int (nI (i20 + 1))), (4, .int 0), (0, .ref (am 0)), (1, .int (nI m)), (2, .int (lpF (fX7_misplannedOf_L4 μ m) 0 i4)), (3, .int (nI i4))]) dX7_misplannedOf_67 5 rfl (nI_1 i20) (by decide) rfl ?_
                    refine g_goto C 20 dX7_misplannedOf_70 (by decide) ?_
                    have e_32 : (lpF (fX7_misplannedOf_L20 μ m i4 (lpF (fX7_misplannedOf_L4 μ m) 0 i4)) false (i20 + 1)) = false := by
                      rw [lpF_1, fX7_misplannedOf_L20]; rw [if_neg (ne_true_of_eq_false c_25), if_pos c_28, if_neg (ne_true_of_eq_false c_31)]
                    have h_33 := ih_11 (i20 + 1) (by omega)
                    rw [e_32] at h_33
                    exact g_sub [2, 3, 4, 5, 1, 0] rfl h_33
                  · skip
                    refine g_iconst C (v := 1) dX7_misplannedOf_60 (by decide) ?_
                    refine g_goto C 65 dX7_misplannedOf_61 (by decide) ?_
                    refine g_istore C (lv1 := [(4, .int 1), (0, .ref (am 0)), (1, .int (nI m)), (2, .int (lpF (fX7_misplannedOf_L4 μ m) 0 i4)), (3, .int (nI i4)), (5, .int (nI i20))]) dX7_misplannedOf_65 (by decide) rfl ?_
                    refine g_iinc C (v := nI (i20 + 1)) (lv1 := [(5, .int (nI (i20 + 1))), (4, .int 1), (0, .ref (am 0)), (1, .int (nI m)), (2, .int (lpF (fX7_misplannedOf_L4 μ m) 0 i4)), (3, .int (nI i4))]) dX7_misplannedOf_67 5 rfl (nI_1 i20) (by decide) rfl ?_
                    refine g_goto C 20 dX7_misplannedOf_70 (by decide) ?_
                    have e_34 : (lpF (fX7_misplannedOf_L20 μ m i4 (lpF (fX7_misplannedOf_L4 μ m) 0 i4)) false (i20 + 1)) = true := by
                      rw [lpF_1, fX7_misplannedOf_L20]; rw [if_neg (ne_true_of_eq_false c_25), if_pos c_28, if_pos c_31]
                    have h_35 := ih_11 (i20 + 1) (by omega)
                    rw [e_34] at h_35
                    exact g_sub [2, 3, 4, 5, 1, 0] rfl h_35
        refine g_sub [2, 3, 4, 5, 1, 0] (lv1 := [(0, .ref (am 0)), (1, .int (nI m)), (2, .int (lpF (fX7_misplannedOf_L4 μ m) 0 i4)), (3, .int (nI i4)), (4, .int 0), (5, .int 0)]) rfl ?_
        exact hL_10 (cM μ) 0 (by omega)
  refine g_sub [2, 3, 1, 0] (lv1 := [(0, .ref (am 0)), (1, .int (nI m)), (2, .int 0), (3, .int 0)]) rfl ?_
  exact hL_3 (cM μ) 0 (by omega)
def fX7_sumWith_L5 (μ : BS) (z : Int32) (b : Bool) (i5 : Nat) (t5 : Int32) : Int32 :=
  if (fX7_of μ i5 2) = z then (if b = true then t5 + (fX7_of μ i5 0) else t5 + 1) else t5 + 0
def fX7_sumWith (μ : BS) (z : Int32) (b : Bool) : Int32 :=
  (lpF (fX7_sumWith_L5 μ z b) 0 (cM μ))
theorem caX7_sumWith : gCalV yX7_sumWith cX7_sumWith 5 (some .int) 2 := ⟨⟨q8_122, q1_6, by decide +kernel⟩, q8_121, qs_68⟩
set_option maxHeartbeats 4000000 in
set_option maxRecDepth 100000 in
theorem kX7_sumWith (l : Launch) (E : gE) (am : Nat → Nat) (μ : BS) (hv : vM μ)  (z : Int32) (b : Bool) : MC l E yX7_sumWith cX7_sumWith 5 (some .int) 1 22 [.ref (am 0), .int z, .int (b2i b)] [wM E am μ] (some (.int (fX7_sumWith μ z b))) [wM E am μ] := by
  have hv1 : cM μ ≤ 20 := hv.1.1
  have hc0 : μ.2 0 0 = nI (cM μ) := hv.1.2.1
  refine mc_of (by decide +kernel) (Nat.le_of_ble_eq_true rfl) (lv := [(0, .ref (am 0)), (1, .int z), (2, .int (b2i b))]) rfl (fun X C hE => ?_)
  refine g_iconst C (v := 0) dX7_sumWith_0 (by decide) ?_
  refine g_istore_n C (lv1 := [(3, .int 0), (0, .ref (am 0)), (1, .int z), (2, .int (b2i b))]) dX7_sumWith_1 rfl (by decide) rfl ?_
  refine g_iconst C (v := 0) dX7_sumWith_2 (by decide) ?_
  refine g_istore C (lv1 := [(4, .int 0), (3, .int 0), (0, .ref (am 0)), (1, .int z), (2, .int (b2i b))]) dX7_sumWith_3 (by decide) rfl ?_
  have hL_3 : ∀ d_1 i5 : Nat, i5 + d_1 = (cM μ) → G X 0 0 [wM E am μ] [(0, .ref (am 0)), (1, .int z), (2, .int (b2i b)), (3, .int (lpF (fX7_sumWith_L5 μ z b) 0 i5)), (4, .int (nI i5))] 5 [] := by
    intro d_1
    induction d_1 with
    | zero =>
      intro i5 hi_2
      obtain rfl : i5 = (cM μ) := by omega
      refine g_iload C dX7_sumWith_5 4 rfl ?_
      refine g_aload_n C dX7_sumWith_7 rfl 0 rfl ?_
      refine g_getf C (T := TX7) (N := 15) 0 0 rfl rfl rfl inX7 1 (by decide) q6_71 rfl dX7_sumWith_8 ?_
      refine g_iconst C (v := 0) dX7_sumWith_11 (by decide) ?_
      refine g_ialdn C 0 1 0 rfl rfl rfl (by decide) (by decide) dX7_sumWith_12 ?_
      refine g_icmp_ge C 55 dX7_sumWith_13 (by decide) (fun c_5 => ?_) (fun c_5 => ?_)
      · skip
        refine g_iload_n C dX7_sumWith_55 rfl 3 rfl ?_
        have e_6 : fX7_sumWith μ z b = (lpF (fX7_sumWith_L5 μ z b) 0 (cM μ)) := by rw [fX7_sumWith]
        exact g_iret C hE (by rw [e_6]) rfl dX7_sumWith_56
      · exact absurd (lc_le rfl hc0 (by omega) (by omega)) c_5
    | succ d_1 ih_4 =>
      intro i5 hi_2
      refine g_iload C dX7_sumWith_5 4 rfl ?_
      refine g_aload_n C dX7_sumWith_7 rfl 0 rfl ?_
      refine g_getf C (T := TX7) (N := 15) 0 0 rfl rfl rfl inX7 1 (by decide) q6_71 rfl dX7_sumWith_8 ?_
      refine g_iconst C (v := 0) dX7_sumWith_11 (by decide) ?_
      refine g_ialdn C 0 1 0 rfl rfl rfl (by decide) (by decide) dX7_sumWith_12 ?_
      refine g_icmp_ge C 55 dX7_sumWith_13 (by decide) (fun c_7 => ?_) (fun c_7 => ?_)
      · exact absurd c_7 (lc_nle rfl hc0 (by omega) (by omega))
      · skip
        refine g_iload_n C dX7_sumWith_16 rfl 3 rfl ?_
        refine g_aload_n C dX7_sumWith_17 rfl 0 rfl ?_
        refine g_iload C dX7_sumWith_18 4 rfl ?_
        refine g_iconst C (v := 2) dX7_sumWith_20 (by decide) ?_
        refine g_callV C (cs1 := [wM E am μ]) (st1 := [.int (fX7_of μ i5 2), .int (lpF (fX7_sumWith_L5 μ z b) 0 i5)]) [.int (nI i5), .int 2] [0] (kX7_of l E am μ i5 (by omega) 2 (by decide)) caX7_of q6_151 rfl ⟨Nat.le_of_ble_eq_true rfl, Nat.le_of_ble_eq_true rfl⟩ ⟨Nat.zero_le _, Nat.zero_le _⟩ 0 0 rfl rfl rfl rfl (by decide) rfl rfl rfl rfl (Nat.le_of_ble_eq_true rfl) dX7_sumWith_21 rfl ?_
        refine g_iload_n C dX7_sumWith_24 rfl 1 rfl ?_
        refine g_icmp_ne C 46 dX7_sumWith_25 (by decide) (fun c_8 => ?_) (fun c_8 => ?_)
        · skip
          refine g_iconst C (v := 0) dX7_sumWith_46 (by decide) ?_
          refine g_iadd C dX7_sumWith_47 ?_
          refine g_istore_n C (lv1 := [(3, .int ((lpF (fX7_sumWith_L5 μ z b) 0 i5) + 0)), (0, .ref (am 0)), (1, .int z), (2, .int (b2i b)), (4, .int (nI i5))]) dX7_sumWith_48 rfl (by decide) rfl ?_
          refine g_iinc C (v := nI (i5 + 1)) (lv1 := [(4, .int (nI (i5 + 1))), (3, .int ((lpF (fX7_sumWith_L5 μ z b) 0 i5) + 0)), (0, .ref (am 0)), (1, .int z), (2, .int (b2i b))]) dX7_sumWith_49 4 rfl (nI_1 i5) (by decide) rfl ?_
          refine g_goto C 5 dX7_sumWith_52 (by decide) ?_
          have e_9 : (lpF (fX7_sumWith_L5 μ z b) 0 (i5 + 1)) = (lpF (fX7_sumWith_L5 μ z b) 0 i5) + 0 := by
            rw [lpF_1, fX7_sumWith_L5]; rw [if_neg c_8]
          have h_10 := ih_4 (i5 + 1) (by omega)
          rw [e_9] at h_10
          exact g_sub [2, 3, 4, 1, 0] rfl h_10
        · skip
          refine g_iload_n C dX7_sumWith_28 rfl 2 rfl ?_
          refine g_ifB_eq C 42 dX7_sumWith_29 (by decide) (fun c_11 => ?_) (fun c_11 => ?_)
          · skip
            refine g_iconst C (v := 1) dX7_sumWith_42 (by decide) ?_
            refine g_goto C 47 dX7_sumWith_43 (by decide) ?_
            refine g_iadd C dX7_sumWith_47 ?_
            refine g_istore_n C (lv1 := [(3, .int ((lpF (fX7_sumWith_L5 μ z b) 0 i5) + 1)), (0, .ref (am 0)), (1, .int z), (2, .int (b2i b)), (4, .int (nI i5))]) dX7_sumWith_48 rfl (by decide) rfl ?_
            refine g_iinc C (v := nI (i5 + 1)) (lv1 := [(4, .int (nI (i5 + 1))), (3, .int ((lpF (fX7_sumWith_L5 μ z b) 0 i5) + 1)), (0, .ref (am 0)), (1, .int z), (2, .int (b2i b))]) dX7_sumWith_49 4 rfl (nI_1 i5) (by decide) rfl ?_
            refine g_goto C 5 dX7_sumWith_52 (by decide) ?_
            have e_12 : (lpF (fX7_sumWith_L5 μ z b) 0 (i5 + 1)) = (lpF (fX7_sumWith_L5 μ z b) 0 i5) + 1 := by
              rw [lpF_1, fX7_sumWith_L5]; rw [if_pos c_8, if_neg (ne_true_of_eq_false c_11)]
            have h_13 := ih_4 (i5 + 1) (by omega)
            rw [e_12] at h_13
            exact g_sub [2, 3, 4, 1, 0] rfl h_13
          · skip
            refine g_aload_n C dX7_sumWith_32 rfl 0 rfl ?_
            refine g_iload C dX7_sumWith_33 4 rfl ?_
            refine g_iconst C (v := 0) dX7_sumWith_35 (by decide) ?_
            refine g_callV C (cs1 := [wM E am μ]) (st1 := [.int (fX7_of μ i5 0), .int (lpF (fX7_sumWith_L5 μ z b) 0 i5)]) [.int (nI i5), .int 0] [0] (kX7_of l E am μ i5 (by omega) 0 (by decide)) caX7_of q6_151 rfl ⟨Nat.le_of_ble_eq_true rfl, Nat.le_of_ble_eq_true rfl⟩ ⟨Nat.zero_le _, Nat.zero_le _⟩ 0 0 rfl rfl rfl rfl (by decide) rfl rfl rfl rfl (Nat.le_of_ble_eq_true rfl) dX7_sumWith_36 rfl ?_
            refine g_goto C 47 dX7_sumWith_39 (by decide) ?_
            refine g_iadd C dX7_sumWith_47 ?_
            refine g_istore_n C (lv1 := [(3, .int ((lpF (fX7_sumWith_L5 μ z b) 0 i5) + (fX7_of μ i5 0))), (0, .ref (am 0)), (1, .int z), (2, .int (b2i b)), (4, .int (nI i5))]) dX7_sumWith_48 rfl (by decide) rfl ?_
            refine g_iinc C (v := nI (i5 + 1)) (lv1 := [(4, .int (nI (i5 + 1))), (3, .int ((lpF (fX7_sumWith_L5 μ z b) 0 i5) + (fX7_of μ i5 0))), (0, .ref (am 0)), (1, .int z), (2, .int (b2i b))]) dX7_sumWith_49 4 rfl (nI_1 i5) (by decide) rfl ?_
            refine g_goto C 5 dX7_sumWith_52 (by decide) ?_
            have e_14 : (lpF (fX7_sumWith_L5 μ z b) 0 (i5 + 1)) = (lpF (fX7_sumWith_L5 μ z b) 0 i5) + (fX7_of μ i5 0) := by
              rw [lpF_1, fX7_sumWith_L5]; rw [if_pos c_8, if_pos c_11]
            have h_15 := ih_4 (i5 + 1) (by omega)
            rw [e_14] at h_15
            exact g_sub [2, 3, 4, 1, 0] rfl h_15
  refine g_sub [2, 3, 4, 1, 0] (lv1 := [(0, .ref (am 0)), (1, .int z), (2, .int (b2i b)), (3, .int 0), (4, .int 0)]) rfl ?_
  exact hL_3 (cM μ) 0 (by omega)
def fX7_blockedMany (μ : BS) : Int32 :=
  (fX7_bits ((fX7_blocked μ) &&& (fX7_left μ)))
theorem caX7_blockedMany : gCalV yX7_blockedMany cX7_blockedMany 1 (some .int) 0 := ⟨⟨q8_138, q1_6, by decide +kernel⟩, q8_137, qs_69⟩
set_option maxHeartbeats 4000000 in
set_option maxRecDepth 100000 in
theorem kX7_blockedMany (l : Launch) (E : gE) (am : Nat → Nat) (μ : BS) (hv : vM μ)   : MC l E yX7_blockedMany cX7_blockedMany 1 (some .int) 5 108 [.ref (am 0)] [wM E am μ] (some (.int (fX7_blockedMany μ))) [wM E am μ] := by
  have hv1 : cM μ ≤ 20 := hv.1.1
  have hc0 : μ.2 0 0 = nI (cM μ) := hv.1.2.1
  refine mc_of (by decide +kernel) (Nat.le_of_ble_eq_true rfl) (lv := [(0, .ref (am 0))]) rfl (fun X C hE => ?_)
  refine g_aload_n C dX7_blockedMany_0 rfl 0 rfl ?_
  refine g_callV C (cs1 := [wM E am μ]) (st1 := [.int (fX7_blocked μ)]) [] [0] (kX7_blocked l E am μ hv) caX7_blocked q7_44 rfl ⟨Nat.le_of_ble_eq_true rfl, Nat.le_of_ble_eq_true rfl⟩ ⟨Nat.zero_le _, Nat.zero_le _⟩ 0 0 rfl rfl rfl rfl (by decide) rfl rfl rfl rfl (Nat.le_of_ble_eq_true rfl) dX7_blockedMany_1 rfl ?_
  refine g_aload_n C dX7_blockedMany_4 rfl 0 rfl ?_
  refine g_callV C (cs1 := [wM E am μ]) (st1 := [.int (fX7_left μ), .int (fX7_blocked μ)]) [] [0] (kX7_left l E am μ hv) caX7_left q7_36 rfl ⟨Nat.le_of_ble_eq_true rfl, Nat.le_of_ble_eq_true rfl⟩ ⟨Nat.zero_le _, Nat.zero_le _⟩ 0 0 rfl rfl rfl rfl (by decide) rfl rfl rfl rfl (Nat.le_of_ble_eq_true rfl) dX7_blockedMany_5 rfl ?_
  refine g_iand C dX7_blockedMany_8 ?_
  refine g_callS C (cs1 := [wM E am μ]) (st1 := [.int (fX7_bits ((fX7_blocked μ) &&& (fX7_left μ)))]) [.int ((fX7_blocked μ) &&& (fX7_left μ))] [] (kX7_bits l E ((fX7_blocked μ) &&& (fX7_left μ))) caX7_bits q6_191 rfl ⟨Nat.le_of_ble_eq_true rfl, Nat.le_of_ble_eq_true rfl⟩ ⟨Nat.zero_le _, Nat.zero_le _⟩ (by decide) rfl rfl rfl rfl (Nat.le_of_ble_eq_true rfl) dX7_blockedMany_9 rfl ?_
  have e_1 : fX7_blockedMany μ = (fX7_bits ((fX7_blocked μ) &&& (fX7_left μ))) := by rw [fX7_blockedMany]
  exact g_iret C hE (by rw [e_1]) rfl dX7_blockedMany_12
def fX7_week_L4 (μ : BS) (i4 : Nat) (t4 : Int32) : Int32 :=
  if (fX7_of μ i4 2) = 3 then (if (fX7_of μ i4 6) < ((μ.2 0 1) - 6) then t4 + 0 else t4 + (fX7_of μ i4 0)) else t4 + 0
def fX7_week (μ : BS) : Int32 :=
  (lpF (fX7_week_L4 μ) 0 (cM μ))
theorem caX7_week : gCalV yX7_week cX7_week 3 (some .int) 0 := ⟨⟨q8_154, q1_6, by decide +kernel⟩, q8_153, qs_70⟩
set_option maxHeartbeats 4000000 in
set_option maxRecDepth 100000 in
theorem kX7_week (l : Launch) (E : gE) (am : Nat → Nat) (μ : BS) (hv : vM μ)   : MC l E yX7_week cX7_week 3 (some .int) 1 22 [.ref (am 0)] [wM E am μ] (some (.int (fX7_week μ))) [wM E am μ] := by
  have hv1 : cM μ ≤ 20 := hv.1.1
  have hc0 : μ.2 0 0 = nI (cM μ) := hv.1.2.1
  refine mc_of (by decide +kernel) (Nat.le_of_ble_eq_true rfl) (lv := [(0, .ref (am 0))]) rfl (fun X C hE => ?_)
  refine g_iconst C (v := 0) dX7_week_0 (by decide) ?_
  refine g_istore_n C (lv1 := [(1, .int 0), (0, .ref (am 0))]) dX7_week_1 rfl (by decide) rfl ?_
  refine g_iconst C (v := 0) dX7_week_2 (by decide) ?_
  refine g_istore_n C (lv1 := [(2, .int 0), (1, .int 0), (0, .ref (am 0))]) dX7_week_3 rfl (by decide) rfl ?_
  have hL_3 : ∀ d_1 i4 : Nat, i4 + d_1 = (cM μ) → G X 0 0 [wM E am μ] [(0, .ref (am 0)), (1, .int (lpF (fX7_week_L4 μ) 0 i4)), (2, .int (nI i4))] 4 [] := by
    intro d_1
    induction d_1 with
    | zero =>
      intro i4 hi_2
      obtain rfl : i4 = (cM μ) := by omega
      refine g_iload_n C dX7_week_4 rfl 2 rfl ?_
      refine g_aload_n C dX7_week_5 rfl 0 rfl ?_
      refine g_getf C (T := TX7) (N := 15) 0 0 rfl rfl rfl inX7 1 (by decide) q6_71 rfl dX7_week_6 ?_
      refine g_iconst C (v := 0) dX7_week_9 (by decide) ?_
      refine g_ialdn C 0 1 0 rfl rfl rfl (by decide) (by decide) dX7_week_10 ?_
      refine g_icmp_ge C 62 dX7_week_11 (by decide) (fun c_5 => ?_) (fun c_5 => ?_)
      · skip
        refine g_iload_n C dX7_week_62 rfl 1 rfl ?_
        have e_6 : fX7_week μ = (lpF (fX7_week_L4 μ) 0 (cM μ)) := by rw [fX7_week]
        exact g_iret C hE (by rw [e_6]) rfl dX7_week_63
      · exact absurd (lc_le rfl hc0 (by omega) (by omega)) c_5
    | succ d_1 ih_4 =>
      intro i4 hi_2
      refine g_iload_n C dX7_week_4 rfl 2 rfl ?_
      refine g_aload_n C dX7_week_5 rfl 0 rfl ?_
      refine g_getf C (T := TX7) (N := 15) 0 0 rfl rfl rfl inX7 1 (by decide) q6_71 rfl dX7_week_6 ?_
      refine g_iconst C (v := 0) dX7_week_9 (by decide) ?_
      refine g_ialdn C 0 1 0 rfl rfl rfl (by decide) (by decide) dX7_week_10 ?_
      refine g_icmp_ge C 62 dX7_week_11 (by decide) (fun c_7 => ?_) (fun c_7 => ?_)
      · exact absurd c_7 (lc_nle rfl hc0 (by omega) (by omega))
      · skip
        refine g_iload_n C dX7_week_14 rfl 1 rfl ?_
        refine g_aload_n C dX7_week_15 rfl 0 rfl ?_
        refine g_iload_n C dX7_week_16 rfl 2 rfl ?_
        refine g_iconst C (v := 2) dX7_week_17 (by decide) ?_
        refine g_callV C (cs1 := [wM E am μ]) (st1 := [.int (fX7_of μ i4 2), .int (lpF (fX7_week_L4 μ) 0 i4)]) [.int (nI i4), .int 2] [0] (kX7_of l E am μ i4 (by omega) 2 (by decide)) caX7_of q6_151 rfl ⟨Nat.le_of_ble_eq_true rfl, Nat.le_of_ble_eq_true rfl⟩ ⟨Nat.zero_le _, Nat.zero_le _⟩ 0 0 rfl rfl rfl rfl (by decide) rfl rfl rfl rfl (Nat.le_of_ble_eq_true rfl) dX7_week_18 rfl ?_
        refine g_iconst C (v := 3) dX7_week_21 (by decide) ?_
        refine g_icmp_ne C 53 dX7_week_22 (by decide) (fun c_8 => ?_) (fun c_8 => ?_)
        · skip
          refine g_iconst C (v := 0) dX7_week_53 (by decide) ?_
          refine g_iadd C dX7_week_54 ?_
          refine g_istore_n C (lv1 := [(1, .int ((lpF (fX7_week_L4 μ) 0 i4) + 0)), (0, .ref (am 0)), (2, .int (nI i4))]) dX7_week_55 rfl (by decide) rfl ?_
          refine g_iinc C (v := nI (i4 + 1)) (lv1 := [(2, .int (nI (i4 + 1))), (1, .int ((lpF (fX7_week_L4 μ) 0 i4) + 0)), (0, .ref (am 0))]) dX7_week_56 2 rfl (nI_1 i4) (by decide) rfl ?_
          refine g_goto C 4 dX7_week_59 (by decide) ?_
          have e_9 : (lpF (fX7_week_L4 μ) 0 (i4 + 1)) = (lpF (fX7_week_L4 μ) 0 i4) + 0 := by
            rw [lpF_1, fX7_week_L4]; rw [if_neg c_8]
          have h_10 := ih_4 (i4 + 1) (by omega)
          rw [e_9] at h_10
          exact g_sub [2, 1, 0] rfl h_10
        · skip
          refine g_aload_n C dX7_week_25 rfl 0 rfl ?_
          refine g_iload_n C dX7_week_26 rfl 2 rfl ?_
          refine g_bipush C (v := 6) dX7_week_27 (by decide) ?_
          refine g_callV C (cs1 := [wM E am μ]) (st1 := [.int (fX7_of μ i4 6), .int (lpF (fX7_week_L4 μ) 0 i4)]) [.int (nI i4), .int 6] [0] (kX7_of l E am μ i4 (by omega) 6 (by decide)) caX7_of q6_151 rfl ⟨Nat.le_of_ble_eq_true rfl, Nat.le_of_ble_eq_true rfl⟩ ⟨Nat.zero_le _, Nat.zero_le _⟩ 0 0 rfl rfl rfl rfl (by decide) rfl rfl rfl rfl (Nat.le_of_ble_eq_true rfl) dX7_week_29 rfl ?_
          refine g_aload_n C dX7_week_32 rfl 0 rfl ?_
          refine g_getf C (T := TX7) (N := 15) 0 0 rfl rfl rfl inX7 1 (by decide) q6_71 rfl dX7_week_33 ?_
          refine g_iconst C (v := 1) dX7_week_36 (by decide) ?_
          refine g_ialdn C 0 1 1 rfl rfl rfl (by decide) (by decide) dX7_week_37 ?_
          refine g_bipush C (v := 6) dX7_week_38 (by decide) ?_
          refine g_isub C dX7_week_40 ?_
          refine g_icmp_lt C 53 dX7_week_41 (by decide) (fun c_11 => ?_) (fun c_11 => ?_)
          · skip
            refine g_iconst C (v := 0) dX7_week_53 (by decide) ?_
            refine g_iadd C dX7_week_54 ?_
            refine g_istore_n C (lv1 := [(1, .int ((lpF (fX7_week_L4 μ) 0 i4) + 0)), (0, .ref (am 0)), (2, .int (nI i4))]) dX7_week_55 rfl (by decide) rfl ?_
            refine g_iinc C (v := nI (i4 + 1)) (lv1 := [(2, .int (nI (i4 + 1))), (1, .int ((lpF (fX7_week_L4 μ) 0 i4) + 0)), (0, .ref (am 0))]) dX7_week_56 2 rfl (nI_1 i4) (by decide) rfl ?_
            refine g_goto C 4 dX7_week_59 (by decide) ?_
            have e_12 : (lpF (fX7_week_L4 μ) 0 (i4 + 1)) = (lpF (fX7_week_L4 μ) 0 i4) + 0 := by
              rw [lpF_1, fX7_week_L4]; rw [if_pos c_8, if_pos c_11]
            have h_13 := ih_4 (i4 + 1) (by omega)
            rw [e_12] at h_13
            exact g_sub [2, 1, 0] rfl h_13
          · skip
            refine g_aload_n C dX7_week_44 rfl 0 rfl ?_
            refine g_iload_n C dX7_week_45 rfl 2 rfl ?_
            refine g_iconst C (v := 0) dX7_week_46 (by decide) ?_
            refine g_callV C (cs1 := [wM E am μ]) (st1 := [.int (fX7_of μ i4 0), .int (lpF (fX7_week_L4 μ) 0 i4)]) [.int (nI i4), .int 0] [0] (kX7_of l E am μ i4 (by omega) 0 (by decide)) caX7_of q6_151 rfl ⟨Nat.le_of_ble_eq_true rfl, Nat.le_of_ble_eq_true rfl⟩ ⟨Nat.zero_le _, Nat.zero_le _⟩ 0 0 rfl rfl rfl rfl (by decide) rfl rfl rfl rfl (Nat.le_of_ble_eq_true rfl) dX7_week_47 rfl ?_
            refine g_goto C 54 dX7_week_50 (by decide) ?_
            refine g_iadd C dX7_week_54 ?_
            refine g_istore_n C (lv1 := [(1, .int ((lpF (fX7_week_L4 μ) 0 i4) + (fX7_of μ i4 0))), (0, .ref (am 0)), (2, .int (nI i4))]) dX7_week_55 rfl (by decide) rfl ?_
            refine g_iinc C (v := nI (i4 + 1)) (lv1 := [(2, .int (nI (i4 + 1))), (1, .int ((lpF (fX7_week_L4 μ) 0 i4) + (fX7_of μ i4 0))), (0, .ref (am 0))]) dX7_week_56 2 rfl (nI_1 i4) (by decide) rfl ?_
            refine g_goto C 4 dX7_week_59 (by decide) ?_
            have e_14 : (lpF (fX7_week_L4 μ) 0 (i4 + 1)) = (lpF (fX7_week_L4 μ) 0 i4) + (fX7_of μ i4 0) := by
              rw [lpF_1, fX7_week_L4]; rw [if_pos c_8, if_neg c_11]
            have h_15 := ih_4 (i4 + 1) (by omega)
            rw [e_14] at h_15
            exact g_sub [2, 1, 0] rfl h_15
  refine g_sub [2, 1, 0] (lv1 := [(0, .ref (am 0)), (1, .int 0), (2, .int 0)]) rfl ?_
  exact hL_3 (cM μ) 0 (by omega)
