theorem undo_j {μ : BS} (hv : vM μ) (h : ¬ μ.1 1 = 0) : ∃ j : Nat, j < 6 ∧ μ.1 1 - 1 = nI j := by
  have h1 := hv.2.1.2.2.2.1
  have h2 := hv.2.1.2.2.2.2.1
  refine ⟨sm μ - 1, ?_, ?_⟩
  · omega
  · refine nx_sub (a := sm μ) (b := 1) ?_ h2 rfl
    rcases Nat.eq_zero_or_pos (sm μ) with c | c
    · exact absurd (by rw [h2, c]; rfl) h
    · exact c
def fX7_keep_L22 (μ : BS) (a : Int32) (i22 : Nat) (t22 : BS) : BS :=
  sE t22 3 ((213 * a.toNatClampNeg) + i22) (t22.2 0 i22)
def fX7_keep (μ : BS) (a : Int32) : BS :=
  if (fX7_in a 0 1) = true then sE (lpW (fX7_keep_L22 μ a) (sI μ 0 0) 213) 4 a.toNatClampNeg (vp_nar .boolean 1) else sI (sI μ 0 0) 0 1
theorem caX7_keep : gCalV yX7_keep cX7_keep 3 none 1 := ⟨⟨q7_126, q1_6, by decide +kernel⟩, q7_124, q7_125⟩
set_option maxHeartbeats 4000000 in
set_option maxRecDepth 100000 in
theorem kX7_keep (l : Launch) (E : gE) (am : Nat → Nat) (μ : BS) (hv : vM μ)  (a : Int32) : MC l E yX7_keep cX7_keep 3 none 1 22 [.ref (am 0), .int a] [wM E am μ] none [wM E am (fX7_keep μ a)] := by
  have hv1 : cM μ ≤ 20 := hv.1.1
  have hc0 : μ.2 0 0 = nI (cM μ) := hv.1.2.1
  refine mc_of (by decide +kernel) (Nat.le_of_ble_eq_true rfl) (lv := [(0, .ref (am 0)), (1, .int a)]) rfl (fun X C hE => ?_)
  refine g_aload_n C dX7_keep_0 rfl 0 rfl ?_
  refine g_iconst C (v := 0) dX7_keep_1 (by decide) ?_
  refine g_putf C (T := TX7) (N := 15) (ty := .int) (w1 := wM E am (sI μ 0 0)) (cs1 := [wM E am (sI μ 0 0)]) 0 0 rfl rfl rfl inX7 tyX7_ok nmX7 0 (by decide) q6_70 rfl (by decide +kernel) rfl rfl (Nat.le_of_ble_eq_true rfl) rfl rfl dX7_keep_2 ?_
  refine g_iload_n C dX7_keep_5 rfl 1 rfl ?_
  refine g_iconst C (v := 0) dX7_keep_6 (by decide) ?_
  refine g_iconst C (v := 1) dX7_keep_7 (by decide) ?_
  refine g_callS C (cs1 := [wM E am (sI μ 0 0)]) (st1 := [.int (b2i (fX7_in a 0 1))]) [.int a, .int 0, .int 1] [] (kX7_in l E a 0 1) caX7_in q6_124 rfl ⟨Nat.le_of_ble_eq_true rfl, Nat.le_of_ble_eq_true rfl⟩ ⟨Nat.zero_le _, Nat.zero_le _⟩ (by decide) rfl rfl rfl rfl (Nat.le_of_ble_eq_true rfl) dX7_keep_8 rfl ?_
  refine g_ifB_ne C 20 dX7_keep_11 (by decide) (fun c_1 => ?_) (fun c_1 => ?_)
  · skip
    have hx_2 := in_i2 c_1
    refine g_iconst C (v := 0) dX7_keep_20 (by decide) ?_
    refine g_istore_n C (lv1 := [(2, .int 0), (0, .ref (am 0)), (1, .int a)]) dX7_keep_21 rfl (by decide) rfl ?_
    have hL_5 : ∀ d_3 i22 : Nat, i22 + d_3 = 213 → G X 0 0 [wM E am (lpW (fX7_keep_L22 μ a) (sI μ 0 0) i22)] [(0, .ref (am 0)), (1, .int a), (2, .int (nI i22))] 22 [] := by
      intro d_3
      induction d_3 with
      | zero =>
        intro i22 hi_4
        obtain rfl : i22 = 213 := by omega
        obtain ⟨y0, hy0⟩ : ∃ y, (lpW (fX7_keep_L22 μ a) (sI μ 0 0) 213) = y := ⟨_, rfl⟩
        rw [hy0]
        refine g_iload_n C dX7_keep_22 rfl 2 rfl ?_
        refine g_sipush C (v := 213) dX7_keep_23 (by decide) ?_
        refine g_icmp_ge C 53 dX7_keep_26 (by decide) (fun c_7 => ?_) (fun c_7 => ?_)
        · skip
          refine g_aload_n C dX7_keep_53 rfl 0 rfl ?_
          refine g_getf C (T := TX7) (N := 15) 0 0 rfl rfl rfl inX7 6 (by decide) q6_76 rfl dX7_keep_54 ?_
          refine g_iload_n C dX7_keep_57 rfl 1 rfl ?_
          refine g_iconst C (v := 1) dX7_keep_58 (by decide) ?_
          refine g_zastn C (w1 := wM E am (sE y0 4 a.toNatClampNeg (vp_nar .boolean 1))) (cs1 := [wM E am (sE y0 4 a.toNatClampNeg (vp_nar .boolean 1))]) 0 5 a.toNatClampNeg rfl rfl hx_2.1 hx_2.2 (by decide) rfl rfl dX7_keep_59 ?_
          have e_8 : fX7_keep μ a = sE y0 4 a.toNatClampNeg (vp_nar .boolean 1) := by subst hy0; rw [fX7_keep]; rw [if_pos c_1]
          exact g_vret C hE rfl (by rw [e_8]) dX7_keep_60
        · exact absurd (lc_le rfl nI_l213 (by omega) (by omega)) c_7
      | succ d_3 ih_6 =>
        intro i22 hi_4
        refine g_iload_n C dX7_keep_22 rfl 2 rfl ?_
        refine g_sipush C (v := 213) dX7_keep_23 (by decide) ?_
        refine g_icmp_ge C 53 dX7_keep_26 (by decide) (fun c_9 => ?_) (fun c_9 => ?_)
        · exact absurd c_9 (lc_nle rfl nI_l213 (by omega) (by omega))
        · skip
          refine g_aload_n C dX7_keep_29 rfl 0 rfl ?_
          refine g_getf C (T := TX7) (N := 15) 0 0 rfl rfl rfl inX7 5 (by decide) q6_75 rfl dX7_keep_30 ?_
          refine g_sipush C (v := 213) dX7_keep_33 (by decide) ?_
          refine g_iload_n C dX7_keep_36 rfl 1 rfl ?_
          refine g_imul C dX7_keep_37 ?_
          refine g_iload_n C dX7_keep_38 rfl 2 rfl ?_
          refine g_iadd C dX7_keep_39 ?_
          refine g_aload_n C dX7_keep_40 rfl 0 rfl ?_
          refine g_getf C (T := TX7) (N := 15) 0 0 rfl rfl rfl inX7 1 (by decide) q6_71 rfl dX7_keep_41 ?_
          refine g_iload_n C dX7_keep_44 rfl 2 rfl ?_
          refine g_ialdn C 0 1 i22 rfl rfl rfl (by omega) (by decide) dX7_keep_45 ?_
          refine g_iastn C (w1 := wM E am (sE (lpW (fX7_keep_L22 μ a) (sI μ 0 0) i22) 3 ((213 * a.toNatClampNeg) + i22) ((lpW (fX7_keep_L22 μ a) (sI μ 0 0) i22).2 0 i22))) (cs1 := [wM E am (sE (lpW (fX7_keep_L22 μ a) (sI μ 0 0) i22) 3 ((213 * a.toNatClampNeg) + i22) ((lpW (fX7_keep_L22 μ a) (sI μ 0 0) i22).2 0 i22))]) 0 4 ((213 * a.toNatClampNeg) + i22) rfl rfl (nx_add (nx_mul rfl hx_2.1) rfl) (by omega) (by decide) rfl rfl dX7_keep_46 ?_
          refine g_iinc C (v := nI (i22 + 1)) (lv1 := [(2, .int (nI (i22 + 1))), (0, .ref (am 0)), (1, .int a)]) dX7_keep_47 2 rfl (nI_1 i22) (by decide) rfl ?_
          refine g_goto C 22 dX7_keep_50 (by decide) ?_
          have e_10 : (lpW (fX7_keep_L22 μ a) (sI μ 0 0) (i22 + 1)) = sE (lpW (fX7_keep_L22 μ a) (sI μ 0 0) i22) 3 ((213 * a.toNatClampNeg) + i22) ((lpW (fX7_keep_L22 μ a) (sI μ 0 0) i22).2 0 i22) := by
            rw [lpW_1, fX7_keep_L22]
          have h_11 := ih_6 (i22 + 1) (by omega)
          rw [e_10] at h_11
          exact g_sub [1, 2, 0] rfl h_11
    refine g_sub [1, 2, 0] (lv1 := [(0, .ref (am 0)), (1, .int a), (2, .int 0)]) rfl ?_
    have h_12 := hL_5 213 0 (by omega)
    rw [lpW_0] at h_12
    exact h_12
  · skip
    refine g_aload_n C dX7_keep_14 rfl 0 rfl ?_
    refine g_iconst C (v := 1) dX7_keep_15 (by decide) ?_
    refine g_putf C (T := TX7) (N := 15) (ty := .int) (w1 := wM E am (sI (sI μ 0 0) 0 1)) (cs1 := [wM E am (sI (sI μ 0 0) 0 1)]) 0 0 rfl rfl rfl inX7 tyX7_ok nmX7 0 (by decide) q6_70 rfl (by decide +kernel) rfl rfl (Nat.le_of_ble_eq_true rfl) rfl rfl dX7_keep_16 ?_
    have e_13 : fX7_keep μ a = sI (sI μ 0 0) 0 1 := by rw [fX7_keep]; rw [if_neg (ne_true_of_eq_false c_1)]
    exact g_vret C hE rfl (by rw [e_13]) dX7_keep_19
def fX7_goBack_L41 (μ : BS) (a : Int32) (i41 : Nat) (t41 : BS) : BS :=
  sE t41 0 i41 (t41.2 3 ((213 * a.toNatClampNeg) + i41))
def fX7_goBack (μ : BS) (a : Int32) : BS :=
  if (fX7_in a 0 1) = true then (if (μ.2 4 a.toNatClampNeg) = 0 then sI (sI μ 0 0) 0 2 else (lpW (fX7_goBack_L41 μ a) (fX7_records (sI μ 0 0)) 213)) else sI (sI μ 0 0) 0 1
theorem caX7_goBack : gCalV yX7_goBack cX7_goBack 3 none 1 := ⟨⟨q7_130, q1_6, by decide +kernel⟩, q7_128, q7_129⟩
set_option maxHeartbeats 4000000 in
set_option maxRecDepth 100000 in
theorem kX7_goBack (l : Launch) (E : gE) (am : Nat → Nat) (μ : BS) (hv : vM μ)  (a : Int32) : MC l E yX7_goBack cX7_goBack 3 none 1 22 [.ref (am 0), .int a] [wM E am μ] none [wM E am (fX7_goBack μ a)] := by
  have hv1 : cM μ ≤ 20 := hv.1.1
  have hc0 : μ.2 0 0 = nI (cM μ) := hv.1.2.1
  refine mc_of (by decide +kernel) (Nat.le_of_ble_eq_true rfl) (lv := [(0, .ref (am 0)), (1, .int a)]) rfl (fun X C hE => ?_)
  refine g_aload_n C dX7_goBack_0 rfl 0 rfl ?_
  refine g_iconst C (v := 0) dX7_goBack_1 (by decide) ?_
  refine g_putf C (T := TX7) (N := 15) (ty := .int) (w1 := wM E am (sI μ 0 0)) (cs1 := [wM E am (sI μ 0 0)]) 0 0 rfl rfl rfl inX7 tyX7_ok nmX7 0 (by decide) q6_70 rfl (by decide +kernel) rfl rfl (Nat.le_of_ble_eq_true rfl) rfl rfl dX7_goBack_2 ?_
  refine g_iload_n C dX7_goBack_5 rfl 1 rfl ?_
  refine g_iconst C (v := 0) dX7_goBack_6 (by decide) ?_
  refine g_iconst C (v := 1) dX7_goBack_7 (by decide) ?_
  refine g_callS C (cs1 := [wM E am (sI μ 0 0)]) (st1 := [.int (b2i (fX7_in a 0 1))]) [.int a, .int 0, .int 1] [] (kX7_in l E a 0 1) caX7_in q6_124 rfl ⟨Nat.le_of_ble_eq_true rfl, Nat.le_of_ble_eq_true rfl⟩ ⟨Nat.zero_le _, Nat.zero_le _⟩ (by decide) rfl rfl rfl rfl (Nat.le_of_ble_eq_true rfl) dX7_goBack_8 rfl ?_
  refine g_ifB_ne C 20 dX7_goBack_11 (by decide) (fun c_1 => ?_) (fun c_1 => ?_)
  · skip
    have hx_2 := in_i2 c_1
    refine g_aload_n C dX7_goBack_20 rfl 0 rfl ?_
    refine g_getf C (T := TX7) (N := 15) 0 0 rfl rfl rfl inX7 6 (by decide) q6_76 rfl dX7_goBack_21 ?_
    refine g_iload_n C dX7_goBack_24 rfl 1 rfl ?_
    refine g_zaldn C (f := μ.2 4) 0 5 a.toNatClampNeg rfl rfl hx_2.1 hx_2.2 (by decide) dX7_goBack_25 ?_
    refine g_if_ne C 35 dX7_goBack_26 (by decide) (fun c_3 => ?_) (fun c_3 => ?_)
    · skip
      refine g_aload_n C dX7_goBack_35 rfl 0 rfl ?_
      refine g_callV C (cs1 := [wM E am (fX7_records (sI μ 0 0))]) (st1 := []) [] [0] (kX7_records l E am (sI μ 0 0) (vM_i0 hv)) caX7_records q6_131 rfl ⟨Nat.le_of_ble_eq_true rfl, Nat.le_of_ble_eq_true rfl⟩ ⟨Nat.zero_le _, Nat.zero_le _⟩ 0 0 rfl rfl rfl rfl (by decide) rfl rfl rfl rfl (Nat.le_of_ble_eq_true rfl) dX7_goBack_36 rfl ?_
      refine g_iconst C (v := 0) dX7_goBack_39 (by decide) ?_
      refine g_istore_n C (lv1 := [(2, .int 0), (0, .ref (am 0)), (1, .int a)]) dX7_goBack_40 rfl (by decide) rfl ?_
      have hL_6 : ∀ d_4 i41 : Nat, i41 + d_4 = 213 → G X 0 0 [wM E am (lpW (fX7_goBack_L41 μ a) (fX7_records (sI μ 0 0)) i41)] [(0, .ref (am 0)), (1, .int a), (2, .int (nI i41))] 41 [] := by
        intro d_4
        induction d_4 with
        | zero =>
          intro i41 hi_5
          obtain rfl : i41 = 213 := by omega
          refine g_iload_n C dX7_goBack_41 rfl 2 rfl ?_
          refine g_sipush C (v := 213) dX7_goBack_42 (by decide) ?_
          refine g_icmp_ge C 72 dX7_goBack_45 (by decide) (fun c_8 => ?_) (fun c_8 => ?_)
          · skip
            have e_9 : fX7_goBack μ a = (lpW (fX7_goBack_L41 μ a) (fX7_records (sI μ 0 0)) 213) := by rw [fX7_goBack]; rw [if_pos c_1, if_neg c_3]
            exact g_vret C hE rfl (by rw [e_9]) dX7_goBack_72
          · exact absurd (lc_le rfl nI_l213 (by omega) (by omega)) c_8
        | succ d_4 ih_7 =>
          intro i41 hi_5
          refine g_iload_n C dX7_goBack_41 rfl 2 rfl ?_
          refine g_sipush C (v := 213) dX7_goBack_42 (by decide) ?_
          refine g_icmp_ge C 72 dX7_goBack_45 (by decide) (fun c_10 => ?_) (fun c_10 => ?_)
          · exact absurd c_10 (lc_nle rfl nI_l213 (by omega) (by omega))
          · skip
            refine g_aload_n C dX7_goBack_48 rfl 0 rfl ?_
            refine g_getf C (T := TX7) (N := 15) 0 0 rfl rfl rfl inX7 1 (by decide) q6_71 rfl dX7_goBack_49 ?_
            refine g_iload_n C dX7_goBack_52 rfl 2 rfl ?_
            refine g_aload_n C dX7_goBack_53 rfl 0 rfl ?_
            refine g_getf C (T := TX7) (N := 15) 0 0 rfl rfl rfl inX7 5 (by decide) q6_75 rfl dX7_goBack_54 ?_
            refine g_sipush C (v := 213) dX7_goBack_57 (by decide) ?_
            refine g_iload_n C dX7_goBack_60 rfl 1 rfl ?_
            refine g_imul C dX7_goBack_61 ?_
            refine g_iload_n C dX7_goBack_62 rfl 2 rfl ?_
            refine g_iadd C dX7_goBack_63 ?_
            refine g_ialdn C 0 4 ((213 * a.toNatClampNeg) + i41) rfl rfl (nx_add (nx_mul rfl hx_2.1) rfl) (by omega) (by decide) dX7_goBack_64 ?_
            refine g_iastn C (w1 := wM E am (sE (lpW (fX7_goBack_L41 μ a) (fX7_records (sI μ 0 0)) i41) 0 i41 ((lpW (fX7_goBack_L41 μ a) (fX7_records (sI μ 0 0)) i41).2 3 ((213 * a.toNatClampNeg) + i41)))) (cs1 := [wM E am (sE (lpW (fX7_goBack_L41 μ a) (fX7_records (sI μ 0 0)) i41) 0 i41 ((lpW (fX7_goBack_L41 μ a) (fX7_records (sI μ 0 0)) i41).2 3 ((213 * a.toNatClampNeg) + i41)))]) 0 1 i41 rfl rfl rfl (by omega) (by decide) rfl rfl dX7_goBack_65 ?_
            refine g_iinc C (v := nI (i41 + 1)) (lv1 := [(2, .int (nI (i41 + 1))), (0, .ref (am 0)), (1, .int a)]) dX7_goBack_66 2 rfl (nI_1 i41) (by decide) rfl ?_
            refine g_goto C 41 dX7_goBack_69 (by decide) ?_
            have e_11 : (lpW (fX7_goBack_L41 μ a) (fX7_records (sI μ 0 0)) (i41 + 1)) = sE (lpW (fX7_goBack_L41 μ a) (fX7_records (sI μ 0 0)) i41) 0 i41 ((lpW (fX7_goBack_L41 μ a) (fX7_records (sI μ 0 0)) i41).2 3 ((213 * a.toNatClampNeg) + i41)) := by
              rw [lpW_1, fX7_goBack_L41]
            have h_12 := ih_7 (i41 + 1) (by omega)
            rw [e_11] at h_12
            exact g_sub [1, 2, 0] rfl h_12
      refine g_sub [1, 2, 0] (lv1 := [(0, .ref (am 0)), (1, .int a), (2, .int 0)]) rfl ?_
      have h_13 := hL_6 213 0 (by omega)
      rw [lpW_0] at h_13
      exact h_13
    · skip
      refine g_aload_n C dX7_goBack_29 rfl 0 rfl ?_
      refine g_iconst C (v := 2) dX7_goBack_30 (by decide) ?_
      refine g_putf C (T := TX7) (N := 15) (ty := .int) (w1 := wM E am (sI (sI μ 0 0) 0 2)) (cs1 := [wM E am (sI (sI μ 0 0) 0 2)]) 0 0 rfl rfl rfl inX7 tyX7_ok nmX7 0 (by decide) q6_70 rfl (by decide +kernel) rfl rfl (Nat.le_of_ble_eq_true rfl) rfl rfl dX7_goBack_31 ?_
      have e_14 : fX7_goBack μ a = sI (sI μ 0 0) 0 2 := by rw [fX7_goBack]; rw [if_pos c_1, if_pos c_3]
      exact g_vret C hE rfl (by rw [e_14]) dX7_goBack_34
  · skip
    refine g_aload_n C dX7_goBack_14 rfl 0 rfl ?_
    refine g_iconst C (v := 1) dX7_goBack_15 (by decide) ?_
    refine g_putf C (T := TX7) (N := 15) (ty := .int) (w1 := wM E am (sI (sI μ 0 0) 0 1)) (cs1 := [wM E am (sI (sI μ 0 0) 0 1)]) 0 0 rfl rfl rfl inX7 tyX7_ok nmX7 0 (by decide) q6_70 rfl (by decide +kernel) rfl rfl (Nat.le_of_ble_eq_true rfl) rfl rfl dX7_goBack_16 ?_
    have e_15 : fX7_goBack μ a = sI (sI μ 0 0) 0 1 := by rw [fX7_goBack]; rw [if_neg (ne_true_of_eq_false c_1)]
    exact g_vret C hE rfl (by rw [e_15]) dX7_goBack_19
def fX7_undo_L30 (μ : BS) (i30 : Nat) (t30 : BS) : BS :=
  sE t30 0 i30 (t30.2 2 ((213 * (t30.1 1).toNatClampNeg) + i30))
def fX7_undo (μ : BS) : BS :=
  if (μ.1 1) = 0 then sI (sI μ 0 0) 0 1 else (lpW (fX7_undo_L30 μ) (sI (sI μ 0 0) 1 ((μ.1 1) - 1)) 213)
theorem caX7_undo : gCalV yX7_undo cX7_undo 2 none 0 := ⟨⟨q7_134, q1_6, by decide +kernel⟩, q7_132, q7_133⟩
set_option maxHeartbeats 4000000 in
set_option maxRecDepth 100000 in
theorem kX7_undo (l : Launch) (E : gE) (am : Nat → Nat) (μ : BS) (hv : vM μ)   : MC l E yX7_undo cX7_undo 2 none 0 0 [.ref (am 0)] [wM E am μ] none [wM E am (fX7_undo μ)] := by
  have hv1 : cM μ ≤ 20 := hv.1.1
  have hc0 : μ.2 0 0 = nI (cM μ) := hv.1.2.1
  refine mc_of (by decide +kernel) (Nat.le_of_ble_eq_true rfl) (lv := [(0, .ref (am 0))]) rfl (fun X C hE => ?_)
  refine g_aload_n C dX7_undo_0 rfl 0 rfl ?_
  refine g_iconst C (v := 0) dX7_undo_1 (by decide) ?_
  refine g_putf C (T := TX7) (N := 15) (ty := .int) (w1 := wM E am (sI μ 0 0)) (cs1 := [wM E am (sI μ 0 0)]) 0 0 rfl rfl rfl inX7 tyX7_ok nmX7 0 (by decide) q6_70 rfl (by decide +kernel) rfl rfl (Nat.le_of_ble_eq_true rfl) rfl rfl dX7_undo_2 ?_
  refine g_aload_n C dX7_undo_5 rfl 0 rfl ?_
  refine g_getf C (v := .int (μ.1 1)) (T := TX7) (N := 15) 0 0 rfl rfl rfl inX7 4 (by decide) q6_74 rfl dX7_undo_6 ?_
  refine g_if_ne C 18 dX7_undo_9 (by decide) (fun c_1 => ?_) (fun c_1 => ?_)
  · skip
    have hs7 := undo_j hv c_1
    refine g_aload_n C dX7_undo_18 rfl 0 rfl ?_
    refine g_dup C dX7_undo_19 rfl ?_
    refine g_getf C (v := .int (μ.1 1)) (T := TX7) (N := 15) 0 0 rfl rfl rfl inX7 4 (by decide) q6_74 rfl dX7_undo_20 ?_
    refine g_iconst C (v := 1) dX7_undo_23 (by decide) ?_
    refine g_isub C dX7_undo_24 ?_
    refine g_putf C (T := TX7) (N := 15) (ty := .int) (w1 := wM E am (sI (sI μ 0 0) 1 ((μ.1 1) - 1))) (cs1 := [wM E am (sI (sI μ 0 0) 1 ((μ.1 1) - 1))]) 0 0 rfl rfl rfl inX7 tyX7_ok nmX7 4 (by decide) q6_74 rfl (by decide +kernel) rfl rfl (Nat.le_of_ble_eq_true rfl) rfl rfl dX7_undo_25 ?_
    refine g_iconst C (v := 0) dX7_undo_28 (by decide) ?_
    refine g_istore_n C (lv1 := [(1, .int 0), (0, .ref (am 0))]) dX7_undo_29 rfl (by decide) rfl ?_
    have hL_4 : ∀ d_2 i30 : Nat, i30 + d_2 = 213 → G X 0 0 [wM E am (lpW (fX7_undo_L30 μ) (sI (sI μ 0 0) 1 ((μ.1 1) - 1)) i30)] [(0, .ref (am 0)), (1, .int (nI i30))] 30 [] := by
      intro d_2
      induction d_2 with
      | zero =>
        intro i30 hi_3
        obtain rfl : i30 = 213 := by omega
        refine g_iload_n C dX7_undo_30 rfl 1 rfl ?_
        refine g_sipush C (v := 213) dX7_undo_31 (by decide) ?_
        refine g_icmp_ge C 64 dX7_undo_34 (by decide) (fun c_6 => ?_) (fun c_6 => ?_)
        · skip
          have e_7 : fX7_undo μ = (lpW (fX7_undo_L30 μ) (sI (sI μ 0 0) 1 ((μ.1 1) - 1)) 213) := by rw [fX7_undo]; rw [if_neg c_1]
          exact g_vret C hE rfl (by rw [e_7]) dX7_undo_64
        · exact absurd (lc_le rfl nI_l213 (by omega) (by omega)) c_6
      | succ d_2 ih_5 =>
        intro i30 hi_3
        have hs8 : (lpW (fX7_undo_L30 μ) (sI (sI μ 0 0) 1 ((μ.1 1) - 1)) i30).1 = (sI (sI μ 0 0) 1 ((μ.1 1) - 1)).1 := lpW_fst (f := fX7_undo_L30 μ) (a := sI (sI μ 0 0) 1 ((μ.1 1) - 1)) (fun i x => rfl) i30
        have hs9 : (lpW (fX7_undo_L30 μ) (sI (sI μ 0 0) 1 ((μ.1 1) - 1)) i30).1 1 = nI ((lpW (fX7_undo_L30 μ) (sI (sI μ 0 0) 1 ((μ.1 1) - 1)) i30).1 1).toNatClampNeg ∧ ((lpW (fX7_undo_L30 μ) (sI (sI μ 0 0) 1 ((μ.1 1) - 1)) i30).1 1).toNatClampNeg < 6 := okI (by decide) (by rw [hs8]; exact hs7)
        refine g_iload_n C dX7_undo_30 rfl 1 rfl ?_
        refine g_sipush C (v := 213) dX7_undo_31 (by decide) ?_
        refine g_icmp_ge C 64 dX7_undo_34 (by decide) (fun c_8 => ?_) (fun c_8 => ?_)
        · exact absurd c_8 (lc_nle rfl nI_l213 (by omega) (by omega))
        · skip
          refine g_aload_n C dX7_undo_37 rfl 0 rfl ?_
          refine g_getf C (T := TX7) (N := 15) 0 0 rfl rfl rfl inX7 1 (by decide) q6_71 rfl dX7_undo_38 ?_
          refine g_iload_n C dX7_undo_41 rfl 1 rfl ?_
          refine g_aload_n C dX7_undo_42 rfl 0 rfl ?_
          refine g_getf C (T := TX7) (N := 15) 0 0 rfl rfl rfl inX7 3 (by decide) q6_73 rfl dX7_undo_43 ?_
          refine g_sipush C (v := 213) dX7_undo_46 (by decide) ?_
          refine g_aload_n C dX7_undo_49 rfl 0 rfl ?_
          refine g_getf C (v := .int ((lpW (fX7_undo_L30 μ) (sI (sI μ 0 0) 1 ((μ.1 1) - 1)) i30).1 1)) (T := TX7) (N := 15) 0 0 rfl rfl rfl inX7 4 (by decide) q6_74 rfl dX7_undo_50 ?_
          refine g_imul C dX7_undo_53 ?_
          refine g_iload_n C dX7_undo_54 rfl 1 rfl ?_
          refine g_iadd C dX7_undo_55 ?_
          refine g_ialdn C 0 3 ((213 * ((lpW (fX7_undo_L30 μ) (sI (sI μ 0 0) 1 ((μ.1 1) - 1)) i30).1 1).toNatClampNeg) + i30) rfl rfl (nx_add (nx_mul rfl hs9.1) rfl) (by omega) (by decide) dX7_undo_56 ?_
          refine g_iastn C (w1 := wM E am (sE (lpW (fX7_undo_L30 μ) (sI (sI μ 0 0) 1 ((μ.1 1) - 1)) i30) 0 i30 ((lpW (fX7_undo_L30 μ) (sI (sI μ 0 0) 1 ((μ.1 1) - 1)) i30).2 2 ((213 * ((lpW (fX7_undo_L30 μ) (sI (sI μ 0 0) 1 ((μ.1 1) - 1)) i30).1 1).toNatClampNeg) + i30)))) (cs1 := [wM E am (sE (lpW (fX7_undo_L30 μ) (sI (sI μ 0 0) 1 ((μ.1 1) - 1)) i30) 0 i30 ((lpW (fX7_undo_L30 μ) (sI (sI μ 0 0) 1 ((μ.1 1) - 1)) i30).2 2 ((213 * ((lpW (fX7_undo_L30 μ) (sI (sI μ 0 0) 1 ((μ.1 1) - 1)) i30).1 1).toNatClampNeg) + i30)))]) 0 1 i30 rfl rfl rfl (by omega) (by decide) rfl rfl dX7_undo_57 ?_
          refine g_iinc C (v := nI (i30 + 1)) (lv1 := [(1, .int (nI (i30 + 1))), (0, .ref (am 0))]) dX7_undo_58 1 rfl (nI_1 i30) (by decide) rfl ?_
          refine g_goto C 30 dX7_undo_61 (by decide) ?_
          have e_9 : (lpW (fX7_undo_L30 μ) (sI (sI μ 0 0) 1 ((μ.1 1) - 1)) (i30 + 1)) = sE (lpW (fX7_undo_L30 μ) (sI (sI μ 0 0) 1 ((μ.1 1) - 1)) i30) 0 i30 ((lpW (fX7_undo_L30 μ) (sI (sI μ 0 0) 1 ((μ.1 1) - 1)) i30).2 2 ((213 * ((lpW (fX7_undo_L30 μ) (sI (sI μ 0 0) 1 ((μ.1 1) - 1)) i30).1 1).toNatClampNeg) + i30)) := by
            rw [lpW_1, fX7_undo_L30]
          have h_10 := ih_5 (i30 + 1) (by omega)
          rw [e_9] at h_10
          exact g_sub [1, 0] rfl h_10
    refine g_sub [1, 0] (lv1 := [(0, .ref (am 0)), (1, .int 0)]) rfl ?_
    have h_11 := hL_4 213 0 (by omega)
    rw [lpW_0] at h_11
    exact h_11
  · skip
    refine g_aload_n C dX7_undo_12 rfl 0 rfl ?_
    refine g_iconst C (v := 1) dX7_undo_13 (by decide) ?_
    refine g_putf C (T := TX7) (N := 15) (ty := .int) (w1 := wM E am (sI (sI μ 0 0) 0 1)) (cs1 := [wM E am (sI (sI μ 0 0) 0 1)]) 0 0 rfl rfl rfl inX7 tyX7_ok nmX7 0 (by decide) q6_70 rfl (by decide +kernel) rfl rfl (Nat.le_of_ble_eq_true rfl) rfl rfl dX7_undo_14 ?_
    have e_12 : fX7_undo μ = sI (sI μ 0 0) 0 1 := by rw [fX7_undo]; rw [if_pos c_1]
    exact g_vret C hE rfl (by rw [e_12]) dX7_undo_17
def fX7_savedStates (μ : BS) : Int32 × BS :=
  (μ.1 1, sI μ 0 0)
theorem caX7_savedStates : gCalV yX7_savedStates cX7_savedStates 1 (some .int) 0 := ⟨⟨q7_138, q1_6, by decide +kernel⟩, q7_136, q7_137⟩
set_option maxHeartbeats 4000000 in
set_option maxRecDepth 100000 in
theorem kX7_savedStates (l : Launch) (E : gE) (am : Nat → Nat) (μ : BS)   : MC l E yX7_savedStates cX7_savedStates 1 (some .int) 0 0 [.ref (am 0)] [wM E am μ] (some (.int (fX7_savedStates μ).1)) [wM E am ((fX7_savedStates μ).2)] := by
  refine mc_of (by decide +kernel) (Nat.le_of_ble_eq_true rfl) (lv := [(0, .ref (am 0))]) rfl (fun X C hE => ?_)
  refine g_aload_n C dX7_savedStates_0 rfl 0 rfl ?_
  refine g_iconst C (v := 0) dX7_savedStates_1 (by decide) ?_
  refine g_putf C (T := TX7) (N := 15) (ty := .int) (w1 := wM E am (sI μ 0 0)) (cs1 := [wM E am (sI μ 0 0)]) 0 0 rfl rfl rfl inX7 tyX7_ok nmX7 0 (by decide) q6_70 rfl (by decide +kernel) rfl rfl (Nat.le_of_ble_eq_true rfl) rfl rfl dX7_savedStates_2 ?_
  refine g_aload_n C dX7_savedStates_5 rfl 0 rfl ?_
  refine g_getf C (v := .int (μ.1 1)) (T := TX7) (N := 15) 0 0 rfl rfl rfl inX7 4 (by decide) q6_74 rfl dX7_savedStates_6 ?_
  have e_1 : fX7_savedStates μ = (μ.1 1, sI μ 0 0) := by rw [fX7_savedStates]
  exact g_iret C hE (by rw [e_1]) (by rw [e_1]) dX7_savedStates_9
def fX7_tickets (μ : BS) : Int32 × BS :=
  (μ.2 0 0, sI μ 0 0)
theorem caX7_tickets : gCalV yX7_tickets cX7_tickets 1 (some .int) 0 := ⟨⟨q7_142, q1_6, by decide +kernel⟩, q7_140, q7_141⟩
set_option maxHeartbeats 4000000 in
set_option maxRecDepth 100000 in
theorem kX7_tickets (l : Launch) (E : gE) (am : Nat → Nat) (μ : BS)   : MC l E yX7_tickets cX7_tickets 1 (some .int) 0 0 [.ref (am 0)] [wM E am μ] (some (.int (fX7_tickets μ).1)) [wM E am ((fX7_tickets μ).2)] := by
  refine mc_of (by decide +kernel) (Nat.le_of_ble_eq_true rfl) (lv := [(0, .ref (am 0))]) rfl (fun X C hE => ?_)
  refine g_aload_n C dX7_tickets_0 rfl 0 rfl ?_
  refine g_iconst C (v := 0) dX7_tickets_1 (by decide) ?_
  refine g_putf C (T := TX7) (N := 15) (ty := .int) (w1 := wM E am (sI μ 0 0)) (cs1 := [wM E am (sI μ 0 0)]) 0 0 rfl rfl rfl inX7 tyX7_ok nmX7 0 (by decide) q6_70 rfl (by decide +kernel) rfl rfl (Nat.le_of_ble_eq_true rfl) rfl rfl dX7_tickets_2 ?_
  refine g_aload_n C dX7_tickets_5 rfl 0 rfl ?_
  refine g_getf C (T := TX7) (N := 15) 0 0 rfl rfl rfl inX7 1 (by decide) q6_71 rfl dX7_tickets_6 ?_
  refine g_iconst C (v := 0) dX7_tickets_9 (by decide) ?_
  refine g_ialdn C (f := μ.2 0) 0 1 0 rfl rfl rfl (by decide) (by decide) dX7_tickets_10 ?_
  have e_1 : fX7_tickets μ = (μ.2 0 0, sI μ 0 0) := by rw [fX7_tickets]
  exact g_iret C hE (by rw [e_1]) (by rw [e_1]) dX7_tickets_11
