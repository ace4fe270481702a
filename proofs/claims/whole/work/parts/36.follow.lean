theorem vM_e5 {μ : BS} {i : Nat} {v : Int32} (h : vM μ) : vM (sE μ 5 i v) := h
theorem eqX_trans {k : Nat} {μ ν ρ : BS} (h : eqX k μ ν) (g : eqX k ν ρ) : eqX k μ ρ := ⟨g.1.trans h.1, fun j hj => (g.2 j hj).trans (h.2 j hj)⟩
theorem gA_x {k : Nat} {μ ν : BS} (h : eqX k μ ν) (hk : 0 ≠ k) (g : gA (μ.2 0)) : gA (ν.2 0) := by rw [h.2 0 hk]; exact g
def fX7_can (μ : BS) (k : Nat) : Bool :=
  if (μ.2 6 k) = 111 then (if 20 ≤ (μ.2 0 0) then false else true) else (if (μ.2 6 k) = 101 then (if 999 < ((μ.2 0 1) + (μ.2 6 (k + 1))) then false else true) else (if (fX7_isTicket μ (μ.2 6 (k + 1))) = true then (if (μ.2 6 k) = 97 then (fX7_canAssign μ ((μ.2 6 (k + 1)).toNatClampNeg) ((μ.2 6 (k + 2)).toNatClampNeg)) else (if (μ.2 6 k) = 110 then (if (fX7_isTicket μ (μ.2 6 (k + 2))) = true then (if (fX7_canNeed μ ((μ.2 6 (k + 1)).toNatClampNeg) ((μ.2 6 (k + 2)).toNatClampNeg)) = true then true else false) else false) else (if (μ.2 6 k) = 114 then (if (fX7_of μ ((μ.2 6 (k + 1)).toNatClampNeg) 2) = 1 then true else false) else (if (μ.2 6 k) = 115 then (fX7_canStart μ ((μ.2 6 (k + 1)).toNatClampNeg)) else (fX7_canClose μ ((μ.2 6 (k + 1)).toNatClampNeg)))))) else false))
theorem caX7_can : gCalV yX7_can cX7_can 4 (some .boolean) 1 := ⟨⟨q7_110, q1_6, by decide +kernel⟩, q7_109, qs_49⟩
set_option maxHeartbeats 4000000 in
set_option maxRecDepth 100000 in
theorem kX7_can (l : Launch) (E : gE) (am : Nat → Nat) (μ : BS) (hv : vM μ)  (k : Nat) (hk : k < 94) (h97 : μ.2 6 k = 97 → ∃ j : Nat, j < 5 ∧ μ.2 6 (k + 2) = nI j) : MC l E yX7_can cX7_can 4 (some .boolean) 5 110 [.ref (am 0), .int (nI k)] [wM E am μ] (some (.int (b2i (fX7_can μ k)))) [wM E am μ] := by
  have hv1 : cM μ ≤ 20 := hv.1.1
  have hc0 : μ.2 0 0 = nI (cM μ) := hv.1.2.1
  refine mc_of (by decide +kernel) (Nat.le_of_ble_eq_true rfl) (lv := [(0, .ref (am 0)), (1, .int (nI k))]) rfl (fun X C hE => ?_)
  refine g_aload_n C dX7_can_0 rfl 0 rfl ?_
  refine g_getf C (T := TX7) (N := 15) 0 0 rfl rfl rfl inX7 11 (by decide) q6_81 rfl dX7_can_1 ?_
  refine g_iload_n C dX7_can_4 rfl 1 rfl ?_
  refine g_iconst C (v := 1) dX7_can_5 (by decide) ?_
  refine g_iadd C dX7_can_6 ?_
  refine g_ialdn C 0 7 (k + 1) rfl rfl (nx_add rfl rfl) (by omega) (by decide) dX7_can_7 ?_
  refine g_istore_n C (lv1 := [(2, .int (μ.2 6 (k + 1))), (0, .ref (am 0)), (1, .int (nI k))]) dX7_can_8 rfl (by decide) rfl ?_
  refine g_aload_n C dX7_can_9 rfl 1 rfl ?_
  refine g_getf C (T := TX7) (N := 15) 0 0 rfl rfl rfl inX7 11 (by decide) q6_81 rfl dX7_can_10 ?_
  refine g_iload_n C dX7_can_13 rfl 2 rfl ?_
  refine g_iconst C (v := 2) dX7_can_14 (by decide) ?_
  refine g_iadd C dX7_can_15 ?_
  refine g_ialdn C 0 7 (k + 2) rfl rfl (nx_add rfl rfl) (by omega) (by decide) dX7_can_16 ?_
  refine g_istore_n C (lv1 := [(3, .int (μ.2 6 (k + 2))), (2, .int (μ.2 6 (k + 1))), (0, .ref (am 0)), (1, .int (nI k))]) dX7_can_17 rfl (by decide) rfl ?_
  refine g_aload_n C dX7_can_18 rfl 2 rfl ?_
  refine g_getf C (T := TX7) (N := 15) 0 0 rfl rfl rfl inX7 11 (by decide) q6_81 rfl dX7_can_19 ?_
  refine g_iload_n C dX7_can_22 rfl 3 rfl ?_
  refine g_ialdn C 0 7 k rfl rfl rfl (by omega) (by decide) dX7_can_23 ?_
  refine g_bipush C (v := 111) dX7_can_24 (by decide) ?_
  refine g_icmp_ne C 46 dX7_can_26 (by decide) (fun c_1 => ?_) (fun c_1 => ?_)
  · skip
    refine g_aload_n C dX7_can_46 rfl 2 rfl ?_
    refine g_getf C (T := TX7) (N := 15) 0 0 rfl rfl rfl inX7 11 (by decide) q6_81 rfl dX7_can_47 ?_
    refine g_iload_n C dX7_can_50 rfl 3 rfl ?_
    refine g_ialdn C 0 7 k rfl rfl rfl (by omega) (by decide) dX7_can_51 ?_
    refine g_bipush C (v := 101) dX7_can_52 (by decide) ?_
    refine g_icmp_ne C 77 dX7_can_54 (by decide) (fun c_2 => ?_) (fun c_2 => ?_)
    · skip
      refine g_aload_n C dX7_can_77 rfl 2 rfl ?_
      refine g_iload_n C dX7_can_78 rfl 1 rfl ?_
      refine g_callV C (cs1 := [wM E am μ]) (st1 := [.int (b2i (fX7_isTicket μ (μ.2 6 (k + 1))))]) [.int (μ.2 6 (k + 1))] [0] (kX7_isTicket l E am μ (μ.2 6 (k + 1))) caX7_isTicket q6_147 rfl ⟨Nat.le_of_ble_eq_true rfl, Nat.le_of_ble_eq_true rfl⟩ ⟨Nat.zero_le _, Nat.zero_le _⟩ 0 0 rfl rfl rfl rfl (by decide) rfl rfl rfl rfl (Nat.le_of_ble_eq_true rfl) dX7_can_79 rfl ?_
      refine g_ifB_ne C 87 dX7_can_82 (by decide) (fun c_3 => ?_) (fun c_3 => ?_)
      · skip
        have hx_4 := isTicket_i hv c_3
        refine g_aload_n C dX7_can_87 rfl 2 rfl ?_
        refine g_getf C (T := TX7) (N := 15) 0 0 rfl rfl rfl inX7 11 (by decide) q6_81 rfl dX7_can_88 ?_
        refine g_iload_n C dX7_can_91 rfl 3 rfl ?_
        refine g_ialdn C 0 7 k rfl rfl rfl (by omega) (by decide) dX7_can_92 ?_
        refine (Decidable.em ((μ.2 6 k) = 97)).elim (fun c_5 => ?_) (fun c_5 => ?_)
        · refine g_lookK C 159 dX7_can_93 c_5 (by decide) rfl (by decide) ?_
          have hj9 := okI (by decide) (h97 c_5)
          refine g_aload_n C dX7_can_159 rfl 2 rfl ?_
          refine g_iload_n C dX7_can_160 rfl 1 rfl ?_
          refine g_iload_n C dX7_can_161 rfl 0 rfl ?_
          refine g_st (st1 := [.int (μ.2 6 (k + 2)), .int (nI ((μ.2 6 (k + 1)).toNatClampNeg)), .ref (am 0)]) (by rw [← hx_4.1]) ?_
          refine g_st (st1 := [.int (nI ((μ.2 6 (k + 2)).toNatClampNeg)), .int (nI ((μ.2 6 (k + 1)).toNatClampNeg)), .ref (am 0)]) (by rw [← hj9.1]) ?_
          refine g_callV C (cs1 := [wM E am μ]) (st1 := [.int (b2i (fX7_canAssign μ ((μ.2 6 (k + 1)).toNatClampNeg) ((μ.2 6 (k + 2)).toNatClampNeg)))]) [.int (nI ((μ.2 6 (k + 1)).toNatClampNeg)), .int (nI ((μ.2 6 (k + 2)).toNatClampNeg))] [0] (kX7_canAssign l E am μ hv ((μ.2 6 (k + 1)).toNatClampNeg) (by omega) ((μ.2 6 (k + 2)).toNatClampNeg) hj9.2) caX7_canAssign q6_205 rfl ⟨Nat.le_of_ble_eq_true rfl, Nat.le_of_ble_eq_true rfl⟩ ⟨Nat.zero_le _, Nat.zero_le _⟩ 0 0 rfl rfl rfl rfl (by decide) rfl rfl rfl rfl (Nat.le_of_ble_eq_true rfl) dX7_can_162 rfl ?_
          have e_6 : fX7_can μ k = (fX7_canAssign μ ((μ.2 6 (k + 1)).toNatClampNeg) ((μ.2 6 (k + 2)).toNatClampNeg)) := by rw [fX7_can]; rw [if_neg c_1, if_neg c_2, if_pos c_3, if_pos c_5]
          exact g_zret (b := (fX7_canAssign μ ((μ.2 6 (k + 1)).toNatClampNeg) ((μ.2 6 (k + 2)).toNatClampNeg))) C hE (by rw [e_6]) rfl rfl dX7_can_165
        refine (Decidable.em ((μ.2 6 k) = 110)).elim (fun c_7 => ?_) (fun c_7 => ?_)
        · refine g_lookK C 136 dX7_can_93 c_7 (by decide) rfl (by decide) ?_
          refine g_aload_n C dX7_can_136 rfl 2 rfl ?_
          refine g_iload_n C dX7_can_137 rfl 0 rfl ?_
          refine g_callV C (cs1 := [wM E am μ]) (st1 := [.int (b2i (fX7_isTicket μ (μ.2 6 (k + 2))))]) [.int (μ.2 6 (k + 2))] [0] (kX7_isTicket l E am μ (μ.2 6 (k + 2))) caX7_isTicket q6_147 rfl ⟨Nat.le_of_ble_eq_true rfl, Nat.le_of_ble_eq_true rfl⟩ ⟨Nat.zero_le _, Nat.zero_le _⟩ 0 0 rfl rfl rfl rfl (by decide) rfl rfl rfl rfl (Nat.le_of_ble_eq_true rfl) dX7_can_138 rfl ?_
          refine g_ifB_eq C 157 dX7_can_141 (by decide) (fun c_8 => ?_) (fun c_8 => ?_)
          · skip
            refine g_iconst C (v := 0) dX7_can_157 (by decide) ?_
            have e_9 : fX7_can μ k = false := by rw [fX7_can]; rw [if_neg c_1, if_neg c_2, if_pos c_3, if_neg c_5, if_pos c_7, if_neg (ne_true_of_eq_false c_8)]
            exact g_zret (b := false) C hE (by rw [e_9]) rfl rfl dX7_can_158
          · skip
            have hx_10 := isTicket_i hv c_8
            refine g_aload_n C dX7_can_144 rfl 2 rfl ?_
            refine g_iload_n C dX7_can_145 rfl 1 rfl ?_
            refine g_iload_n C dX7_can_146 rfl 0 rfl ?_
            refine g_st (st1 := [.int (μ.2 6 (k + 2)), .int (nI ((μ.2 6 (k + 1)).toNatClampNeg)), .ref (am 0)]) (by rw [← hx_4.1]) ?_
            refine g_st (st1 := [.int (nI ((μ.2 6 (k + 2)).toNatClampNeg)), .int (nI ((μ.2 6 (k + 1)).toNatClampNeg)), .ref (am 0)]) (by rw [← hx_10.1]) ?_
            refine g_callV C (cs1 := [wM E am μ]) (st1 := [.int (b2i (fX7_canNeed μ ((μ.2 6 (k + 1)).toNatClampNeg) ((μ.2 6 (k + 2)).toNatClampNeg)))]) [.int (nI ((μ.2 6 (k + 1)).toNatClampNeg)), .int (nI ((μ.2 6 (k + 2)).toNatClampNeg))] [0] (kX7_canNeed l E am μ hv ((μ.2 6 (k + 1)).toNatClampNeg) (by omega) ((μ.2 6 (k + 2)).toNatClampNeg) (by omega)) caX7_canNeed q6_175 rfl ⟨Nat.le_of_ble_eq_true rfl, Nat.le_of_ble_eq_true rfl⟩ ⟨Nat.zero_le _, Nat.zero_le _⟩ 0 0 rfl rfl rfl rfl (by decide) rfl rfl rfl rfl (Nat.le_of_ble_eq_true rfl) dX7_can_147 rfl ?_
            refine g_ifB_eq C 157 dX7_can_150 (by decide) (fun c_11 => ?_) (fun c_11 => ?_)
            · skip
              refine g_iconst C (v := 0) dX7_can_157 (by decide) ?_
              have e_12 : fX7_can μ k = false := by rw [fX7_can]; rw [if_neg c_1, if_neg c_2, if_pos c_3, if_neg c_5, if_pos c_7, if_pos c_8, if_neg (ne_true_of_eq_false c_11)]
              exact g_zret (b := false) C hE (by rw [e_12]) rfl rfl dX7_can_158
            · skip
              refine g_iconst C (v := 1) dX7_can_153 (by decide) ?_
              refine g_goto C 158 dX7_can_154 (by decide) ?_
              have e_13 : fX7_can μ k = true := by rw [fX7_can]; rw [if_neg c_1, if_neg c_2, if_pos c_3, if_neg c_5, if_pos c_7, if_pos c_8, if_pos c_11]
              exact g_zret (b := true) C hE (by rw [e_13]) rfl rfl dX7_can_158
        refine (Decidable.em ((μ.2 6 k) = 114)).elim (fun c_14 => ?_) (fun c_14 => ?_)
        · refine g_lookK C 172 dX7_can_93 c_14 (by decide) rfl (by decide) ?_
          refine g_aload_n C dX7_can_172 rfl 2 rfl ?_
          refine g_iload_n C dX7_can_173 rfl 1 rfl ?_
          refine g_iconst C (v := 2) dX7_can_174 (by decide) ?_
          refine g_st (st1 := [.int 2, .int (nI ((μ.2 6 (k + 1)).toNatClampNeg)), .ref (am 0)]) (by rw [← hx_4.1]) ?_
          refine g_callV C (cs1 := [wM E am μ]) (st1 := [.int (fX7_of μ ((μ.2 6 (k + 1)).toNatClampNeg) 2)]) [.int (nI ((μ.2 6 (k + 1)).toNatClampNeg)), .int 2] [0] (kX7_of l E am μ ((μ.2 6 (k + 1)).toNatClampNeg) (by omega) 2 (by decide)) caX7_of q6_151 rfl ⟨Nat.le_of_ble_eq_true rfl, Nat.le_of_ble_eq_true rfl⟩ ⟨Nat.zero_le _, Nat.zero_le _⟩ 0 0 rfl rfl rfl rfl (by decide) rfl rfl rfl rfl (Nat.le_of_ble_eq_true rfl) dX7_can_175 rfl ?_
          refine g_iconst C (v := 1) dX7_can_178 (by decide) ?_
          refine g_icmp_ne C 186 dX7_can_179 (by decide) (fun c_15 => ?_) (fun c_15 => ?_)
          · skip
            refine g_iconst C (v := 0) dX7_can_186 (by decide) ?_
            have e_16 : fX7_can μ k = false := by rw [fX7_can]; rw [if_neg c_1, if_neg c_2, if_pos c_3, if_neg c_5, if_neg c_7, if_pos c_14, if_neg c_15]
            exact g_zret (b := false) C hE (by rw [e_16]) rfl rfl dX7_can_187
          · skip
            refine g_iconst C (v := 1) dX7_can_182 (by decide) ?_
            refine g_goto C 187 dX7_can_183 (by decide) ?_
            have e_17 : fX7_can μ k = true := by rw [fX7_can]; rw [if_neg c_1, if_neg c_2, if_pos c_3, if_neg c_5, if_neg c_7, if_pos c_14, if_pos c_15]
            exact g_zret (b := true) C hE (by rw [e_17]) rfl rfl dX7_can_187
        refine (Decidable.em ((μ.2 6 k) = 115)).elim (fun c_18 => ?_) (fun c_18 => ?_)
        · refine g_lookK C 166 dX7_can_93 c_18 (by decide) rfl (by decide) ?_
          refine g_aload_n C dX7_can_166 rfl 2 rfl ?_
          refine g_iload_n C dX7_can_167 rfl 1 rfl ?_
          refine g_st (st1 := [.int (nI ((μ.2 6 (k + 1)).toNatClampNeg)), .ref (am 0)]) (by rw [← hx_4.1]) ?_
          refine g_callV C (cs1 := [wM E am μ]) (st1 := [.int (b2i (fX7_canStart μ ((μ.2 6 (k + 1)).toNatClampNeg)))]) [.int (nI ((μ.2 6 (k + 1)).toNatClampNeg))] [0] (kX7_canStart l E am μ ((μ.2 6 (k + 1)).toNatClampNeg) (by omega)) caX7_canStart q7_12 rfl ⟨Nat.le_of_ble_eq_true rfl, Nat.le_of_ble_eq_true rfl⟩ ⟨Nat.zero_le _, Nat.zero_le _⟩ 0 0 rfl rfl rfl rfl (by decide) rfl rfl rfl rfl (Nat.le_of_ble_eq_true rfl) dX7_can_168 rfl ?_
          have e_19 : fX7_can μ k = (fX7_canStart μ ((μ.2 6 (k + 1)).toNatClampNeg)) := by rw [fX7_can]; rw [if_neg c_1, if_neg c_2, if_pos c_3, if_neg c_5, if_neg c_7, if_neg c_14, if_pos c_18]
          exact g_zret (b := (fX7_canStart μ ((μ.2 6 (k + 1)).toNatClampNeg))) C hE (by rw [e_19]) rfl rfl dX7_can_171
        refine g_lookD C 188 dX7_can_93 (by decide) (by rw [lv_osw c_5 (by decide)]; rw [lv_osw c_7 (by decide)]; rw [lv_osw c_14 (by decide)]; rw [lv_osw c_18 (by decide)]; try rfl) (by decide) ?_
        refine g_aload_n C dX7_can_188 rfl 2 rfl ?_
        refine g_iload_n C dX7_can_189 rfl 1 rfl ?_
        refine g_st (st1 := [.int (nI ((μ.2 6 (k + 1)).toNatClampNeg)), .ref (am 0)]) (by rw [← hx_4.1]) ?_
        refine g_callV C (cs1 := [wM E am μ]) (st1 := [.int (b2i (fX7_canClose μ ((μ.2 6 (k + 1)).toNatClampNeg)))]) [.int (nI ((μ.2 6 (k + 1)).toNatClampNeg))] [0] (kX7_canClose l E am μ hv ((μ.2 6 (k + 1)).toNatClampNeg) (by omega)) caX7_canClose q7_28 rfl ⟨Nat.le_of_ble_eq_true rfl, Nat.le_of_ble_eq_true rfl⟩ ⟨Nat.zero_le _, Nat.zero_le _⟩ 0 0 rfl rfl rfl rfl (by decide) rfl rfl rfl rfl (Nat.le_of_ble_eq_true rfl) dX7_can_190 rfl ?_
        have e_20 : fX7_can μ k = (fX7_canClose μ ((μ.2 6 (k + 1)).toNatClampNeg)) := by rw [fX7_can]; rw [if_neg c_1, if_neg c_2, if_pos c_3, if_neg c_5, if_neg c_7, if_neg c_14, if_neg c_18]
        exact g_zret (b := (fX7_canClose μ ((μ.2 6 (k + 1)).toNatClampNeg))) C hE (by rw [e_20]) rfl rfl dX7_can_193
      · skip
        refine g_iconst C (v := 0) dX7_can_85 (by decide) ?_
        have e_21 : fX7_can μ k = false := by rw [fX7_can]; rw [if_neg c_1, if_neg c_2, if_neg (ne_true_of_eq_false c_3)]
        exact g_zret (b := false) C hE (by rw [e_21]) rfl rfl dX7_can_86
    · skip
      refine g_aload_n C dX7_can_57 rfl 2 rfl ?_
      refine g_getf C (T := TX7) (N := 15) 0 0 rfl rfl rfl inX7 1 (by decide) q6_71 rfl dX7_can_58 ?_
      refine g_iconst C (v := 1) dX7_can_61 (by decide) ?_
      refine g_ialdn C 0 1 1 rfl rfl rfl (by decide) (by decide) dX7_can_62 ?_
      refine g_iload_n C dX7_can_63 rfl 1 rfl ?_
      refine g_iadd C dX7_can_64 ?_
      refine g_sipush C (v := 999) dX7_can_65 (by decide) ?_
      refine g_icmp_gt C 75 dX7_can_68 (by decide) (fun c_22 => ?_) (fun c_22 => ?_)
      · skip
        refine g_iconst C (v := 0) dX7_can_75 (by decide) ?_
        have e_23 : fX7_can μ k = false := by rw [fX7_can]; rw [if_neg c_1, if_pos c_2, if_pos c_22]
        exact g_zret (b := false) C hE (by rw [e_23]) rfl rfl dX7_can_76
      · skip
        refine g_iconst C (v := 1) dX7_can_71 (by decide) ?_
        refine g_goto C 76 dX7_can_72 (by decide) ?_
        have e_24 : fX7_can μ k = true := by rw [fX7_can]; rw [if_neg c_1, if_pos c_2, if_neg c_22]
        exact g_zret (b := true) C hE (by rw [e_24]) rfl rfl dX7_can_76
  · skip
    refine g_aload_n C dX7_can_29 rfl 2 rfl ?_
    refine g_getf C (T := TX7) (N := 15) 0 0 rfl rfl rfl inX7 1 (by decide) q6_71 rfl dX7_can_30 ?_
    refine g_iconst C (v := 0) dX7_can_33 (by decide) ?_
    refine g_ialdn C 0 1 0 rfl rfl rfl (by decide) (by decide) dX7_can_34 ?_
    refine g_bipush C (v := 20) dX7_can_35 (by decide) ?_
    refine g_icmp_ge C 44 dX7_can_37 (by decide) (fun c_25 => ?_) (fun c_25 => ?_)
    · skip
      refine g_iconst C (v := 0) dX7_can_44 (by decide) ?_
      have e_26 : fX7_can μ k = false := by rw [fX7_can]; rw [if_pos c_1, if_pos c_25]
      exact g_zret (b := false) C hE (by rw [e_26]) rfl rfl dX7_can_45
    · skip
      refine g_iconst C (v := 1) dX7_can_40 (by decide) ?_
      refine g_goto C 45 dX7_can_41 (by decide) ?_
      have e_27 : fX7_can μ k = true := by rw [fX7_can]; rw [if_pos c_1, if_neg c_25]
      exact g_zret (b := true) C hE (by rw [e_27]) rfl rfl dX7_can_45
theorem can_o {μ : BS} {k : Nat} (hv : vM μ) (h : fX7_can μ k = true) (e : μ.2 6 k = 111) : cM μ < 20 := by
  unfold fX7_can at h
  rw [if_pos e] at h
  split at h
  · cases h
  · rename_i c
    exact lc_ige hv.1.2.1 nI_l20 (by have h9 : cM μ ≤ 20 := hv.1.1; omega) (by omega) c
theorem can_t {μ : BS} {k : Nat} (hv : vM μ) (h : fX7_can μ k = true) (e1 : ¬ μ.2 6 k = 111) (e2 : ¬ μ.2 6 k = 101) : μ.2 6 (k + 1) = nI (μ.2 6 (k + 1)).toNatClampNeg ∧ (μ.2 6 (k + 1)).toNatClampNeg < 20 ∧ (μ.2 6 (k + 1)).toNatClampNeg < cM μ := by
  unfold fX7_can at h
  rw [if_neg e1, if_neg e2] at h
  by_cases c : fX7_isTicket μ (μ.2 6 (k + 1)) = true
  · exact isTicket_i hv c
  · rw [if_neg c] at h
    cases h
def fX7_follows (μ : BS) (k : Nat) : BS :=
  if (μ.2 6 k) = 97 then (fX7_assigns μ ((μ.2 6 (k + 1)).toNatClampNeg) ((μ.2 6 (k + 2)).toNatClampNeg)).2 else (if (μ.2 6 k) = 101 then (fX7_ends μ (μ.2 6 (k + 1))).2 else (if (μ.2 6 k) = 110 then (fX7_takesNeed μ ((μ.2 6 (k + 1)).toNatClampNeg) (μ.2 6 (k + 2))).2 else (if (μ.2 6 k) = 111 then (fX7_opens μ (μ.2 6 (k + 1)) (μ.2 6 (k + 2))).2 else (if (μ.2 6 k) = 114 then (fX7_lay μ ((μ.2 6 (k + 1)).toNatClampNeg) 2 2) else (if (μ.2 6 k) = 115 then (fX7_lay μ ((μ.2 6 (k + 1)).toNatClampNeg) 2 1) else (fX7_closes μ ((μ.2 6 (k + 1)).toNatClampNeg)).2)))))
theorem caX7_follows : gCalV yX7_follows cX7_follows 3 none 1 := ⟨⟨q7_114, q1_6, by decide +kernel⟩, q7_113, qs_50⟩
set_option maxHeartbeats 4000000 in
set_option maxRecDepth 100000 in
theorem kX7_follows (l : Launch) (E : gE) (am : Nat → Nat) (μ : BS) (hv : vM μ)  (k : Nat) (hk : k < 94) (h97 : μ.2 6 k = 97 → ∃ j : Nat, j < 5 ∧ μ.2 6 (k + 2) = nI j) (hcc : fX7_can μ k = true) : MC l E yX7_follows cX7_follows 3 none 6 130 [.ref (am 0), .int (nI k)] [wM E am μ] none [wM E am (fX7_follows μ k)] := by
  have hv1 : cM μ ≤ 20 := hv.1.1
  have hc0 : μ.2 0 0 = nI (cM μ) := hv.1.2.1
  refine mc_of (by decide +kernel) (Nat.le_of_ble_eq_true rfl) (lv := [(0, .ref (am 0)), (1, .int (nI k))]) rfl (fun X C hE => ?_)
  refine g_aload_n C dX7_follows_0 rfl 0 rfl ?_
  refine g_getf C (T := TX7) (N := 15) 0 0 rfl rfl rfl inX7 11 (by decide) q6_81 rfl dX7_follows_1 ?_
  refine g_iload_n C dX7_follows_4 rfl 1 rfl ?_
  refine g_iconst C (v := 1) dX7_follows_5 (by decide) ?_
  refine g_iadd C dX7_follows_6 ?_
  refine g_ialdn C 0 7 (k + 1) rfl rfl (nx_add rfl rfl) (by omega) (by decide) dX7_follows_7 ?_
  refine g_istore_n C (lv1 := [(2, .int (μ.2 6 (k + 1))), (0, .ref (am 0)), (1, .int (nI k))]) dX7_follows_8 rfl (by decide) rfl ?_
  refine g_aload_n C dX7_follows_9 rfl 1 rfl ?_
  refine g_getf C (T := TX7) (N := 15) 0 0 rfl rfl rfl inX7 11 (by decide) q6_81 rfl dX7_follows_10 ?_
  refine g_iload_n C dX7_follows_13 rfl 2 rfl ?_
  refine g_ialdn C 0 7 k rfl rfl rfl (by omega) (by decide) dX7_follows_14 ?_
  refine (Decidable.em ((μ.2 6 k) = 97)).elim (fun c_1 => ?_) (fun c_1 => ?_)
  · refine g_tblK C 147 dX7_follows_15 c_1 (by decide) (by decide) rfl (by decide) ?_
    have ht9 := can_t hv hcc (fun q => absurd (c_1.symm.trans q) (by decide)) (fun q => absurd (c_1.symm.trans q) (by decide))
    have hj9 := okI (by decide) (h97 c_1)
    refine g_aload_n C dX7_follows_147 rfl 1 rfl ?_
    refine g_iload_n C dX7_follows_148 rfl 0 rfl ?_
    refine g_aload_n C dX7_follows_149 rfl 1 rfl ?_
    refine g_getf C (T := TX7) (N := 15) 0 0 rfl rfl rfl inX7 11 (by decide) q6_81 rfl dX7_follows_150 ?_
    refine g_iload_n C dX7_follows_153 rfl 2 rfl ?_
    refine g_iconst C (v := 2) dX7_follows_154 (by decide) ?_
    refine g_iadd C dX7_follows_155 ?_
    refine g_ialdn C 0 7 (k + 2) rfl rfl (nx_add rfl rfl) (by omega) (by decide) dX7_follows_156 ?_
    refine g_st (st1 := [.int (μ.2 6 (k + 2)), .int (nI ((μ.2 6 (k + 1)).toNatClampNeg)), .ref (am 0)]) (by rw [← ht9.1]) ?_
    refine g_st (st1 := [.int (nI ((μ.2 6 (k + 2)).toNatClampNeg)), .int (nI ((μ.2 6 (k + 1)).toNatClampNeg)), .ref (am 0)]) (by rw [← hj9.1]) ?_
    refine g_callV C (cs1 := [wM E am ((fX7_assigns μ ((μ.2 6 (k + 1)).toNatClampNeg) ((μ.2 6 (k + 2)).toNatClampNeg)).2)]) (st1 := [.int ((fX7_assigns μ ((μ.2 6 (k + 1)).toNatClampNeg) ((μ.2 6 (k + 2)).toNatClampNeg)).1)]) [.int (nI ((μ.2 6 (k + 1)).toNatClampNeg)), .int (nI ((μ.2 6 (k + 2)).toNatClampNeg))] [0] (kX7_assigns l E am μ hv ((μ.2 6 (k + 1)).toNatClampNeg) ht9.2.1 ((μ.2 6 (k + 2)).toNatClampNeg) hj9.2) caX7_assigns q6_209 rfl ⟨Nat.le_of_ble_eq_true rfl, Nat.le_of_ble_eq_true rfl⟩ ⟨Nat.zero_le _, Nat.zero_le _⟩ 0 0 rfl rfl rfl rfl (by decide) rfl rfl rfl rfl (Nat.le_of_ble_eq_true rfl) dX7_follows_157 rfl ?_
    refine g_pop C dX7_follows_160 rfl ?_
    refine g_goto C 190 dX7_follows_161 (by decide) ?_
    have e_2 : fX7_follows μ k = (fX7_assigns μ ((μ.2 6 (k + 1)).toNatClampNeg) ((μ.2 6 (k + 2)).toNatClampNeg)).2 := by rw [fX7_follows]; rw [if_pos c_1]
    exact g_vret C hE rfl (by rw [e_2]) dX7_follows_190
  refine (Decidable.em ((μ.2 6 k) = 101)).elim (fun c_3 => ?_) (fun c_3 => ?_)
  · refine g_tblK C 121 dX7_follows_15 c_3 (by decide) (by decide) rfl (by decide) ?_
    refine g_aload_n C dX7_follows_121 rfl 1 rfl ?_
    refine g_iload_n C dX7_follows_122 rfl 0 rfl ?_
    refine g_callV C (cs1 := [wM E am ((fX7_ends μ (μ.2 6 (k + 1))).2)]) (st1 := [.int ((fX7_ends μ (μ.2 6 (k + 1))).1)]) [.int (μ.2 6 (k + 1))] [0] (kX7_ends l E am μ hv (μ.2 6 (k + 1))) caX7_ends q7_4 rfl ⟨Nat.le_of_ble_eq_true rfl, Nat.le_of_ble_eq_true rfl⟩ ⟨Nat.zero_le _, Nat.zero_le _⟩ 0 0 rfl rfl rfl rfl (by decide) rfl rfl rfl rfl (Nat.le_of_ble_eq_true rfl) dX7_follows_123 rfl ?_
    refine g_pop C dX7_follows_126 rfl ?_
    refine g_goto C 190 dX7_follows_127 (by decide) ?_
    have e_4 : fX7_follows μ k = (fX7_ends μ (μ.2 6 (k + 1))).2 := by rw [fX7_follows]; rw [if_neg c_1, if_pos c_3]
    exact g_vret C hE rfl (by rw [e_4]) dX7_follows_190
  refine (Decidable.em ((μ.2 6 k) = 110)).elim (fun c_5 => ?_) (fun c_5 => ?_)
  · refine g_tblK C 130 dX7_follows_15 c_5 (by decide) (by decide) rfl (by decide) ?_
    have ht9 := can_t hv hcc (fun q => absurd (c_5.symm.trans q) (by decide)) (fun q => absurd (c_5.symm.trans q) (by decide))
    refine g_aload_n C dX7_follows_130 rfl 1 rfl ?_
    refine g_iload_n C dX7_follows_131 rfl 0 rfl ?_
    refine g_aload_n C dX7_follows_132 rfl 1 rfl ?_
    refine g_getf C (T := TX7) (N := 15) 0 0 rfl rfl rfl inX7 11 (by decide) q6_81 rfl dX7_follows_133 ?_
    refine g_iload_n C dX7_follows_136 rfl 2 rfl ?_
    refine g_iconst C (v := 2) dX7_follows_137 (by decide) ?_
    refine g_iadd C dX7_follows_138 ?_
    refine g_ialdn C 0 7 (k + 2) rfl rfl (nx_add rfl rfl) (by omega) (by decide) dX7_follows_139 ?_
    refine g_st (st1 := [.int (μ.2 6 (k + 2)), .int (nI ((μ.2 6 (k + 1)).toNatClampNeg)), .ref (am 0)]) (by rw [← ht9.1]) ?_
    refine g_callV C (cs1 := [wM E am ((fX7_takesNeed μ ((μ.2 6 (k + 1)).toNatClampNeg) (μ.2 6 (k + 2))).2)]) (st1 := [.int ((fX7_takesNeed μ ((μ.2 6 (k + 1)).toNatClampNeg) (μ.2 6 (k + 2))).1)]) [.int (nI ((μ.2 6 (k + 1)).toNatClampNeg)), .int (μ.2 6 (k + 2))] [0] (kX7_takesNeed l E am μ hv ((μ.2 6 (k + 1)).toNatClampNeg) ht9.2.1 (μ.2 6 (k + 2))) caX7_takesNeed q6_187 rfl ⟨Nat.le_of_ble_eq_true rfl, Nat.le_of_ble_eq_true rfl⟩ ⟨Nat.zero_le _, Nat.zero_le _⟩ 0 0 rfl rfl rfl rfl (by decide) rfl rfl rfl rfl (Nat.le_of_ble_eq_true rfl) dX7_follows_140 rfl ?_
    refine g_pop C dX7_follows_143 rfl ?_
    refine g_goto C 190 dX7_follows_144 (by decide) ?_
    have e_6 : fX7_follows μ k = (fX7_takesNeed μ ((μ.2 6 (k + 1)).toNatClampNeg) (μ.2 6 (k + 2))).2 := by rw [fX7_follows]; rw [if_neg c_1, if_neg c_3, if_pos c_5]
    exact g_vret C hE rfl (by rw [e_6]) dX7_follows_190
  refine (Decidable.em ((μ.2 6 k) = 111)).elim (fun c_7 => ?_) (fun c_7 => ?_)
  · refine g_tblK C 104 dX7_follows_15 c_7 (by decide) (by decide) rfl (by decide) ?_
    have hr9 := can_o hv hcc c_7
    refine g_aload_n C dX7_follows_104 rfl 1 rfl ?_
    refine g_iload_n C dX7_follows_105 rfl 0 rfl ?_
    refine g_aload_n C dX7_follows_106 rfl 1 rfl ?_
    refine g_getf C (T := TX7) (N := 15) 0 0 rfl rfl rfl inX7 11 (by decide) q6_81 rfl dX7_follows_107 ?_
    refine g_iload_n C dX7_follows_110 rfl 2 rfl ?_
    refine g_iconst C (v := 2) dX7_follows_111 (by decide) ?_
    refine g_iadd C dX7_follows_112 ?_
    refine g_ialdn C 0 7 (k + 2) rfl rfl (nx_add rfl rfl) (by omega) (by decide) dX7_follows_113 ?_
    refine g_callV C (cs1 := [wM E am ((fX7_opens μ (μ.2 6 (k + 1)) (μ.2 6 (k + 2))).2)]) (st1 := [.int ((fX7_opens μ (μ.2 6 (k + 1)) (μ.2 6 (k + 2))).1)]) [.int (μ.2 6 (k + 1)), .int (μ.2 6 (k + 2))] [0] (kX7_opens l E am μ hv (μ.2 6 (k + 1)) (μ.2 6 (k + 2)) hr9) caX7_opens q6_135 rfl ⟨Nat.le_of_ble_eq_true rfl, Nat.le_of_ble_eq_true rfl⟩ ⟨Nat.zero_le _, Nat.zero_le _⟩ 0 0 rfl rfl rfl rfl (by decide) rfl rfl rfl rfl (Nat.le_of_ble_eq_true rfl) dX7_follows_114 rfl ?_
    refine g_pop C dX7_follows_117 rfl ?_
    refine g_goto C 190 dX7_follows_118 (by decide) ?_
    have e_8 : fX7_follows μ k = (fX7_opens μ (μ.2 6 (k + 1)) (μ.2 6 (k + 2))).2 := by rw [fX7_follows]; rw [if_neg c_1, if_neg c_3, if_neg c_5, if_pos c_7]
    exact g_vret C hE rfl (by rw [e_8]) dX7_follows_190
  refine (Decidable.em ((μ.2 6 k) = 114)).elim (fun c_9 => ?_) (fun c_9 => ?_)
  · refine g_tblK C 174 dX7_follows_15 c_9 (by decide) (by decide) rfl (by decide) ?_
    have ht9 := can_t hv hcc (fun q => absurd (c_9.symm.trans q) (by decide)) (fun q => absurd (c_9.symm.trans q) (by decide))
    refine g_aload_n C dX7_follows_174 rfl 1 rfl ?_
    refine g_iload_n C dX7_follows_175 rfl 0 rfl ?_
    refine g_iconst C (v := 2) dX7_follows_176 (by decide) ?_
    refine g_iconst C (v := 2) dX7_follows_177 (by decide) ?_
    refine g_st (st1 := [.int 2, .int 2, .int (nI ((μ.2 6 (k + 1)).toNatClampNeg)), .ref (am 0)]) (by rw [← ht9.1]) ?_
    refine g_callV C (cs1 := [wM E am (fX7_lay μ ((μ.2 6 (k + 1)).toNatClampNeg) 2 2)]) (st1 := []) [.int (nI ((μ.2 6 (k + 1)).toNatClampNeg)), .int 2, .int 2] [0] (kX7_lay l E am μ ((μ.2 6 (k + 1)).toNatClampNeg) ht9.2.1 2 (by decide) 2) caX7_lay q6_139 rfl ⟨Nat.le_of_ble_eq_true rfl, Nat.le_of_ble_eq_true rfl⟩ ⟨Nat.zero_le _, Nat.zero_le _⟩ 0 0 rfl rfl rfl rfl (by decide) rfl rfl rfl rfl (Nat.le_of_ble_eq_true rfl) dX7_follows_178 rfl ?_
    refine g_goto C 190 dX7_follows_181 (by decide) ?_
    have e_10 : fX7_follows μ k = (fX7_lay μ ((μ.2 6 (k + 1)).toNatClampNeg) 2 2) := by rw [fX7_follows]; rw [if_neg c_1, if_neg c_3, if_neg c_5, if_neg c_7, if_pos c_9]
    exact g_vret C hE rfl (by rw [e_10]) dX7_follows_190
  refine (Decidable.em ((μ.2 6 k) = 115)).elim (fun c_11 => ?_) (fun c_11 => ?_)
  · refine g_tblK C 164 dX7_follows_15 c_11 (by decide) (by decide) rfl (by decide) ?_
    have ht9 := can_t hv hcc (fun q => absurd (c_11.symm.trans q) (by decide)) (fun q => absurd (c_11.symm.trans q) (by decide))
    refine g_aload_n C dX7_follows_164 rfl 1 rfl ?_
    refine g_iload_n C dX7_follows_165 rfl 0 rfl ?_
    refine g_iconst C (v := 2) dX7_follows_166 (by decide) ?_
    refine g_iconst C (v := 1) dX7_follows_167 (by decide) ?_
    refine g_st (st1 := [.int 1, .int 2, .int (nI ((μ.2 6 (k + 1)).toNatClampNeg)), .ref (am 0)]) (by rw [← ht9.1]) ?_
    refine g_callV C (cs1 := [wM E am (fX7_lay μ ((μ.2 6 (k + 1)).toNatClampNeg) 2 1)]) (st1 := []) [.int (nI ((μ.2 6 (k + 1)).toNatClampNeg)), .int 2, .int 1] [0] (kX7_lay l E am μ ((μ.2 6 (k + 1)).toNatClampNeg) ht9.2.1 2 (by decide) 1) caX7_lay q6_139 rfl ⟨Nat.le_of_ble_eq_true rfl, Nat.le_of_ble_eq_true rfl⟩ ⟨Nat.zero_le _, Nat.zero_le _⟩ 0 0 rfl rfl rfl rfl (by decide) rfl rfl rfl rfl (Nat.le_of_ble_eq_true rfl) dX7_follows_168 rfl ?_
    refine g_goto C 190 dX7_follows_171 (by decide) ?_
    have e_12 : fX7_follows μ k = (fX7_lay μ ((μ.2 6 (k + 1)).toNatClampNeg) 2 1) := by rw [fX7_follows]; rw [if_neg c_1, if_neg c_3, if_neg c_5, if_neg c_7, if_neg c_9, if_pos c_11]
    exact g_vret C hE rfl (by rw [e_12]) dX7_follows_190
  refine g_tblD C 184 [97, 101, 110, 111, 114, 115] dX7_follows_15 (List.forall_mem_cons.mpr ⟨c_1, List.forall_mem_cons.mpr ⟨c_3, List.forall_mem_cons.mpr ⟨c_5, List.forall_mem_cons.mpr ⟨c_7, List.forall_mem_cons.mpr ⟨c_9, List.forall_mem_cons.mpr ⟨c_11, fun _ h => absurd h List.not_mem_nil⟩⟩⟩⟩⟩⟩) (by decide) (by decide) (by decide) ?_
  have ht9 := can_t hv hcc (by assumption) (by assumption)
  refine g_aload_n C dX7_follows_184 rfl 1 rfl ?_
  refine g_iload_n C dX7_follows_185 rfl 0 rfl ?_
  refine g_st (st1 := [.int (nI ((μ.2 6 (k + 1)).toNatClampNeg)), .ref (am 0)]) (by rw [← ht9.1]) ?_
  refine g_callV C (cs1 := [wM E am ((fX7_closes μ ((μ.2 6 (k + 1)).toNatClampNeg)).2)]) (st1 := [.int ((fX7_closes μ ((μ.2 6 (k + 1)).toNatClampNeg)).1)]) [.int (nI ((μ.2 6 (k + 1)).toNatClampNeg))] [0] (kX7_closes l E am μ hv ((μ.2 6 (k + 1)).toNatClampNeg) ht9.2.1) caX7_closes q7_40 rfl ⟨Nat.le_of_ble_eq_true rfl, Nat.le_of_ble_eq_true rfl⟩ ⟨Nat.zero_le _, Nat.zero_le _⟩ 0 0 rfl rfl rfl rfl (by decide) rfl rfl rfl rfl (Nat.le_of_ble_eq_true rfl) dX7_follows_186 rfl ?_
  refine g_pop C dX7_follows_189 rfl ?_
  have e_13 : fX7_follows μ k = (fX7_closes μ ((μ.2 6 (k + 1)).toNatClampNeg)).2 := by rw [fX7_follows]; rw [if_neg c_1, if_neg c_3, if_neg c_5, if_neg c_7, if_neg c_9, if_neg c_11]
  exact g_vret C hE rfl (by rw [e_13]) dX7_follows_190
theorem vM_follows {μ : BS} {k : Nat} (hv : vM μ) (h97 : μ.2 6 k = 97 → ∃ j : Nat, j < 5 ∧ μ.2 6 (k + 2) = nI j) (hcc : fX7_can μ k = true) : vM (fX7_follows μ k) := by
  unfold fX7_follows
  refine ite_P (P := vM) (fun c => ?_) (fun _ => ?_)
  · exact vM_assigns hv (okI (by decide) (h97 c)).2
  refine ite_P (P := vM) (fun _ => vM_ends hv) (fun _ => ?_)
  refine ite_P (P := vM) (fun _ => vM_layD hv rfl) (fun _ => ?_)
  refine ite_P (P := vM) (fun c => vM_opens hv (can_o hv hcc c)) (fun _ => ?_)
  refine ite_P (P := vM) (fun _ => vM_lay hv (by decide) (fun _ => ⟨2, by decide, rfl⟩) (fun e => absurd e (by decide))) (fun _ => ?_)
  refine ite_P (P := vM) (fun _ => vM_lay hv (by decide) (fun _ => ⟨1, by decide, rfl⟩) (fun e => absurd e (by decide))) (fun _ => ?_)
  exact vM_lowD (vM_layD (vM_lay hv (by decide) (fun _ => ⟨3, by decide, rfl⟩) (fun e => absurd e (by decide))) rfl) rfl
theorem x0_e {μ ν : BS} {i : Nat} {v : Int32} (h : eqX 0 μ ν) : eqX 0 μ (sE ν 0 i v) := eqX_e h
theorem x0_lay {μ ν : BS} {t w : Nat} {v : Int32} (h : eqX 0 μ ν) : eqX 0 μ (fX7_lay ν t w v) := eqX_e h
theorem x0_ends {μ : BS} {d : Int32} : eqX 0 μ (fX7_ends μ d).2 := lpF_inv (P := fun x => eqX 0 μ x) (x0_e (eqX_refl 0 μ)) (fun i x h => by unfold fX7_ends_L12; split <;> exact x0_lay h) (cM μ)
theorem x0_follows (μ : BS) (k : Nat) : eqX 0 μ (fX7_follows μ k) := by
  unfold fX7_follows
  refine ite_P (P := eqX 0 μ) (fun c => x0_lay (eqX_refl 0 μ)) (fun _ => ?_)
  refine ite_P (P := eqX 0 μ) (fun _ => x0_ends) (fun _ => ?_)
  refine ite_P (P := eqX 0 μ) (fun _ => x0_lay (eqX_refl 0 μ)) (fun _ => ?_)
  refine ite_P (P := eqX 0 μ) (fun c => x0_lay (x0_lay (x0_lay (x0_e (eqX_refl 0 μ))))) (fun _ => ?_)
  refine ite_P (P := eqX 0 μ) (fun _ => x0_lay (eqX_refl 0 μ)) (fun _ => ?_)
  refine ite_P (P := eqX 0 μ) (fun _ => x0_lay (eqX_refl 0 μ)) (fun _ => ?_)
  exact x0_e (x0_lay (x0_lay (eqX_refl 0 μ)))
theorem rd97 {μ ν : BS} {n : Nat} (h : vM ν) (e : eqX 0 μ ν) (hn : n < rm μ) : ν.2 6 (3 * n) = 97 → ∃ j : Nat, j < 5 ∧ ν.2 6 (3 * n + 2) = nI j := h.2.2.2.2.2.2.2.2 n (by rw [show rm ν = rm μ from congrArg (fun f => (f 5).toNatClampNeg) e.1]; exact hn)
def fX7_followsAll_R2 (μ : BS) : Nat → Nat → (BS) → Int32 × BS
  | 0, _, _ => (0, μ)
  | d2 + 1, i2, t2 => if (t2.1 5) ≤ (nI i2) then (nI i2, t2) else (if (fX7_can t2 (3 * i2)) = true then fX7_followsAll_R2 μ d2 (i2 + 1) (fX7_follows t2 (3 * i2)) else (nI i2, t2))
def fX7_followsAll (μ : BS) : Int32 × BS :=
  fX7_followsAll_R2 μ ((rm μ) + 1) 0 μ
theorem caX7_followsAll : gCalV yX7_followsAll cX7_followsAll 2 (some .int) 0 := ⟨⟨q7_106, q1_6, by decide +kernel⟩, q7_105, qs_48⟩
set_option maxHeartbeats 4000000 in
set_option maxRecDepth 100000 in
theorem kX7_followsAll (l : Launch) (E : gE) (am : Nat → Nat) (μ : BS) (hv : vM μ)   : MC l E yX7_followsAll cX7_followsAll 2 (some .int) 7 152 [.ref (am 0)] [wM E am μ] (some (.int (fX7_followsAll μ).1)) [wM E am ((fX7_followsAll μ).2)] := by
  have hv1 : cM μ ≤ 20 := hv.1.1
  have hc0 : μ.2 0 0 = nI (cM μ) := hv.1.2.1
  have hr0 : rm μ ≤ 31 := hv.2.2.2.2.2.2.1
  have hr5 : μ.1 5 = nI (rm μ) := hv.2.2.2.2.2.2.2.1
  refine mc_of (by decide +kernel) (Nat.le_of_ble_eq_true rfl) (lv := [(0, .ref (am 0))]) rfl (fun X C hE => ?_)
  refine g_iconst C (v := 0) dX7_followsAll_0 (by decide) ?_
  refine g_istore_n C (lv1 := [(1, .int 0), (0, .ref (am 0))]) dX7_followsAll_1 rfl (by decide) rfl ?_
  have hL_2 : ∀ d2 i2 : Nat, ∀ t2 : BS, i2 + d2 = (rm μ) + 1 → i2 ≤ (rm μ) → (vM t2 ∧ eqX 0 μ t2) → fX7_followsAll_R2 μ d2 i2 t2 = fX7_followsAll μ → G X 0 0 [wM E am t2] [(0, .ref (am 0)), (1, .int (nI i2))] 2 [] := by
    intro d2
    induction d2 with
    | zero =>
      intro i2 t2 hi_1 hi_1b hs0 hq_4
      omega
    | succ d2 ih_3 =>
      intro i2 t2 hi_1 hi_1b hs0 hq_4
      refine g_iload_n C dX7_followsAll_2 rfl 1 rfl ?_
      refine g_aload_n C dX7_followsAll_3 rfl 0 rfl ?_
      refine g_getf C (v := .int (t2.1 5)) (T := TX7) (N := 15) 0 0 rfl rfl rfl inX7 12 (by decide) q6_82 rfl dX7_followsAll_4 ?_
      refine g_icmp_ge C 33 dX7_followsAll_7 (by decide) (fun c_6 => ?_) (fun c_6 => ?_)
      · skip
        refine g_iload_n C dX7_followsAll_33 rfl 1 rfl ?_
        have e_7 : fX7_followsAll μ = (nI i2, t2) := by rw [← hq_4, fX7_followsAll_R2]; rw [if_pos c_6]
        exact g_iret C hE (by rw [e_7]) (by rw [e_7]) dX7_followsAll_34
      · skip
        have c_6b : i2 < (rm μ) := lc_ige rfl (by rw [hs0.2.1]; exact hr5) (by omega) (by omega) c_6
        refine g_aload_n C dX7_followsAll_10 rfl 0 rfl ?_
        refine g_iconst C (v := 3) dX7_followsAll_11 (by decide) ?_
        refine g_iload_n C dX7_followsAll_12 rfl 1 rfl ?_
        refine g_imul C dX7_followsAll_13 ?_
        refine g_st (st1 := [.int (nI (3 * i2)), .ref (am 0)]) (by rw [(show 3 * (nI i2) = nI (3 * i2) from (nx_mul rfl rfl))]) ?_
        refine g_callV C (cs1 := [wM E am t2]) (st1 := [.int (b2i (fX7_can t2 (3 * i2)))]) [.int (nI (3 * i2))] [0] (kX7_can l E am t2 hs0.1 (3 * i2) (by omega) (rd97 hs0.1 hs0.2 (by omega))) caX7_can q7_107 rfl ⟨Nat.le_of_ble_eq_true rfl, Nat.le_of_ble_eq_true rfl⟩ ⟨Nat.zero_le _, Nat.zero_le _⟩ 0 0 rfl rfl rfl rfl (by decide) rfl rfl rfl rfl (Nat.le_of_ble_eq_true rfl) dX7_followsAll_14 rfl ?_
        refine g_ifB_eq C 33 dX7_followsAll_17 (by decide) (fun c_8 => ?_) (fun c_8 => ?_)
        · skip
          refine g_iload_n C dX7_followsAll_33 rfl 1 rfl ?_
          have e_9 : fX7_followsAll μ = (nI i2, t2) := by rw [← hq_4, fX7_followsAll_R2]; rw [if_neg c_6, if_neg (ne_true_of_eq_false c_8)]
          exact g_iret C hE (by rw [e_9]) (by rw [e_9]) dX7_followsAll_34
        · skip
          have hcc := c_8
          refine g_aload_n C dX7_followsAll_20 rfl 0 rfl ?_
          refine g_iconst C (v := 3) dX7_followsAll_21 (by decide) ?_
          refine g_iload_n C dX7_followsAll_22 rfl 1 rfl ?_
          refine g_imul C dX7_followsAll_23 ?_
          refine g_st (st1 := [.int (nI (3 * i2)), .ref (am 0)]) (by rw [(show 3 * (nI i2) = nI (3 * i2) from (nx_mul rfl rfl))]) ?_
          refine g_callV C (cs1 := [wM E am (fX7_follows t2 (3 * i2))]) (st1 := []) [.int (nI (3 * i2))] [0] (kX7_follows l E am t2 hs0.1 (3 * i2) (by omega) (rd97 hs0.1 hs0.2 (by omega)) hcc) caX7_follows q7_111 rfl ⟨Nat.le_of_ble_eq_true rfl, Nat.le_of_ble_eq_true rfl⟩ ⟨Nat.zero_le _, Nat.zero_le _⟩ 0 0 rfl rfl rfl rfl (by decide) rfl rfl rfl rfl (Nat.le_of_ble_eq_true rfl) dX7_followsAll_24 rfl ?_
          refine g_iinc C (v := nI (i2 + 1)) (lv1 := [(1, .int (nI (i2 + 1))), (0, .ref (am 0))]) dX7_followsAll_27 1 rfl (nI_1 i2) (by decide) rfl ?_
          refine g_goto C 2 dX7_followsAll_30 (by decide) ?_
          have e_10 : fX7_followsAll_R2 μ d2 (i2 + 1) (fX7_follows t2 (3 * i2)) = fX7_followsAll μ := by
            rw [← hq_4, fX7_followsAll_R2]; rw [if_neg c_6, if_pos c_8]
          exact g_sub [1, 0] rfl (ih_3 (i2 + 1) (fX7_follows t2 (3 * i2)) (by omega) (by omega) ⟨(vM_follows hs0.1 (rd97 hs0.1 hs0.2 (by omega)) hcc), eqX_trans hs0.2 (x0_follows _ _)⟩ e_10)
  refine g_sub [1, 0] (lv1 := [(0, .ref (am 0)), (1, .int 0)]) rfl ?_
  have e_11 : fX7_followsAll_R2 μ ((rm μ) + 1) 0 μ = fX7_followsAll μ := by
    rw [fX7_followsAll]
  exact hL_2 ((rm μ) + 1) 0 μ (by omega) (by omega) ⟨hv, eqX_refl 0 μ⟩ e_11
theorem fa_key {μ : BS} (hv : vM μ) : ∀ d i (t : BS), i + d = rm μ + 1 → vM t → eqX 0 μ t → (vM (fX7_followsAll_R2 μ d i t).2 ∧ eqX 0 μ (fX7_followsAll_R2 μ d i t).2) ∧ ∃ n : Nat, n ≤ rm μ ∧ (fX7_followsAll_R2 μ d i t).1 = nI n := by
  have hr0 : rm μ ≤ 31 := hv.2.2.2.2.2.2.1
  have hr5 : μ.1 5 = nI (rm μ) := hv.2.2.2.2.2.2.2.1
  intro d
  induction d with
  | zero => intro i t h1 h2 h3; exact ⟨⟨hv, eqX_refl 0 μ⟩, 0, by omega, rfl⟩
  | succ d ih =>
    intro i t h1 h2 h3
    rw [fX7_followsAll_R2]
    by_cases c : t.1 5 ≤ nI i
    · rw [if_pos c]
      refine ⟨⟨h2, h3⟩, i, by omega, rfl⟩
    · rw [if_neg c]
      have c2 : i < rm μ := lc_ige (x := nI i) rfl (show t.1 5 = nI (rm μ) by rw [h3.1]; exact hr5) (by omega) (by omega) c
      by_cases c3 : fX7_can t (3 * i) = true
      · rw [if_pos c3]
        exact ih (i + 1) _ (by omega) (vM_follows h2 (rd97 h2 h3 c2) c3) (eqX_trans h3 (x0_follows _ _))
      · rw [if_neg c3]
        refine ⟨⟨h2, h3⟩, i, by omega, rfl⟩
theorem vM_followsAll {μ : BS} (hv : vM μ) : vM (fX7_followsAll μ).2 := (fa_key hv _ 0 μ (by omega) hv (eqX_refl 0 μ)).1.1
theorem x0_followsAll {μ : BS} (hv : vM μ) : eqX 0 μ (fX7_followsAll μ).2 := (fa_key hv _ 0 μ (by omega) hv (eqX_refl 0 μ)).1.2
theorem followsAll_n {μ : BS} (hv : vM μ) : ∃ n : Nat, n ≤ rm μ ∧ (fX7_followsAll μ).1 = nI n := (fa_key hv _ 0 μ (by omega) hv (eqX_refl 0 μ)).2
theorem vM_len0 {μ : BS} (h : vM μ) : vM (sI μ 2 0) := ⟨h.1, h.2.1, ⟨(by show (0 : Int32).toNatClampNeg ≤ 60; decide), rfl⟩, h.2.2.2⟩
def fX7_follow (μ : BS) : Int32 × BS :=
  if ((fX7_readsOrders (sI μ 0 0)).1) = true then (if ((fX7_followsAll (fX7_putAside ((fX7_readsOrders (sI μ 0 0)).2))).1) = (((fX7_followsAll (fX7_putAside ((fX7_readsOrders (sI μ 0 0)).2))).2).1 5) then ((((fX7_followsAll (fX7_putAside ((fX7_readsOrders (sI μ 0 0)).2))).2).2 0 2) - ((fX7_putAside ((fX7_readsOrders (sI μ 0 0)).2)).2 0 2), sI ((fX7_followsAll (fX7_records (fX7_takeBack ((fX7_followsAll (fX7_putAside ((fX7_readsOrders (sI μ 0 0)).2))).2)))).2) 2 0) else ((fX7_fails (fX7_takeBack ((fX7_followsAll (fX7_putAside ((fX7_readsOrders (sI μ 0 0)).2))).2)) 2).1, (fX7_fails (fX7_takeBack ((fX7_followsAll (fX7_putAside ((fX7_readsOrders (sI μ 0 0)).2))).2)) 2).2)) else ((fX7_fails ((fX7_readsOrders (sI μ 0 0)).2) 1).1, (fX7_fails ((fX7_readsOrders (sI μ 0 0)).2) 1).2)
theorem caX7_follow : gCalV yX7_follow cX7_follow 3 (some .int) 0 := ⟨⟨q7_98, q1_6, by decide +kernel⟩, q7_96, q7_97⟩
set_option maxHeartbeats 4000000 in
set_option maxRecDepth 100000 in
theorem kX7_follow (l : Launch) (E : gE) (am : Nat → Nat) (μ : BS) (hv : vM μ)   : MC l E yX7_follow cX7_follow 3 (some .int) 8 173 [.ref (am 0)] [wM E am μ] (some (.int (fX7_follow μ).1)) [wM E am ((fX7_follow μ).2)] := by
  have hv1 : cM μ ≤ 20 := hv.1.1
  have hc0 : μ.2 0 0 = nI (cM μ) := hv.1.2.1
  refine mc_of (by decide +kernel) (Nat.le_of_ble_eq_true rfl) (lv := [(0, .ref (am 0))]) rfl (fun X C hE => ?_)
  refine g_aload_n C dX7_follow_0 rfl 0 rfl ?_
  refine g_iconst C (v := 0) dX7_follow_1 (by decide) ?_
  refine g_putf C (T := TX7) (N := 15) (ty := .int) (w1 := wM E am (sI μ 0 0)) (cs1 := [wM E am (sI μ 0 0)]) 0 0 rfl rfl rfl inX7 tyX7_ok nmX7 0 (by decide) q6_70 rfl (by decide +kernel) rfl rfl (Nat.le_of_ble_eq_true rfl) rfl rfl dX7_follow_2 ?_
  refine g_aload_n C dX7_follow_5 rfl 0 rfl ?_
  refine g_callV C (cs1 := [wM E am ((fX7_readsOrders (sI μ 0 0)).2)]) (st1 := [.int (b2i ((fX7_readsOrders (sI μ 0 0)).1))]) [] [0] (kX7_readsOrders l E am (sI μ 0 0) (vM_i0 hv)) caX7_readsOrders q7_72 rfl ⟨Nat.le_of_ble_eq_true rfl, Nat.le_of_ble_eq_true rfl⟩ ⟨Nat.zero_le _, Nat.zero_le _⟩ 0 0 rfl rfl rfl rfl (by decide) rfl rfl rfl rfl (Nat.le_of_ble_eq_true rfl) dX7_follow_6 rfl ?_
  refine g_ifB_ne C 18 dX7_follow_9 (by decide) (fun c_1 => ?_) (fun c_1 => ?_)
  · skip
    refine g_aload_n C dX7_follow_18 rfl 0 rfl ?_
    refine g_callV C (cs1 := [wM E am (fX7_putAside ((fX7_readsOrders (sI μ 0 0)).2))]) (st1 := []) [] [0] (kX7_putAside l E am ((fX7_readsOrders (sI μ 0 0)).2) (vM_readsOrders (vM_i0 hv))) caX7_putAside q7_99 rfl ⟨Nat.le_of_ble_eq_true rfl, Nat.le_of_ble_eq_true rfl⟩ ⟨Nat.zero_le _, Nat.zero_le _⟩ 0 0 rfl rfl rfl rfl (by decide) rfl rfl rfl rfl (Nat.le_of_ble_eq_true rfl) dX7_follow_19 rfl ?_
    refine g_aload_n C dX7_follow_22 rfl 0 rfl ?_
    refine g_getf C (T := TX7) (N := 15) 0 0 rfl rfl rfl inX7 1 (by decide) q6_71 rfl dX7_follow_23 ?_
    refine g_iconst C (v := 2) dX7_follow_26 (by decide) ?_
    refine g_ialdn C 0 1 2 rfl rfl rfl (by decide) (by decide) dX7_follow_27 ?_
    refine g_istore_n C (lv1 := [(1, .int ((fX7_putAside ((fX7_readsOrders (sI μ 0 0)).2)).2 0 2)), (0, .ref (am 0))]) dX7_follow_28 rfl (by decide) rfl ?_
    refine g_aload_n C dX7_follow_29 rfl 1 rfl ?_
    refine g_callV C (cs1 := [wM E am ((fX7_followsAll (fX7_putAside ((fX7_readsOrders (sI μ 0 0)).2))).2)]) (st1 := [.int ((fX7_followsAll (fX7_putAside ((fX7_readsOrders (sI μ 0 0)).2))).1)]) [] [0] (kX7_followsAll l E am (fX7_putAside ((fX7_readsOrders (sI μ 0 0)).2)) (vM_putAside (vM_readsOrders (vM_i0 hv)))) caX7_followsAll q7_103 rfl ⟨Nat.le_of_ble_eq_true rfl, Nat.le_of_ble_eq_true rfl⟩ ⟨Nat.zero_le _, Nat.zero_le _⟩ 0 0 rfl rfl rfl rfl (by decide) rfl rfl rfl rfl (Nat.le_of_ble_eq_true rfl) dX7_follow_30 rfl ?_
    refine g_aload_n C dX7_follow_33 rfl 1 rfl ?_
    refine g_getf C (v := .int (((fX7_followsAll (fX7_putAside ((fX7_readsOrders (sI μ 0 0)).2))).2).1 5)) (T := TX7) (N := 15) 0 0 rfl rfl rfl inX7 12 (by decide) q6_82 rfl dX7_follow_34 ?_
    refine g_icmp_ne C 44 dX7_follow_37 (by decide) (fun c_2 => ?_) (fun c_2 => ?_)
    · skip
      refine g_iconst C (v := 0) dX7_follow_44 (by decide) ?_
      refine g_istore_n C (lv1 := [(2, .int 0), (1, .int ((fX7_putAside ((fX7_readsOrders (sI μ 0 0)).2)).2 0 2)), (0, .ref (am 0))]) dX7_follow_45 rfl (by decide) rfl ?_
      refine g_aload_n C dX7_follow_46 rfl 2 rfl ?_
      refine g_getf C (T := TX7) (N := 15) 0 0 rfl rfl rfl inX7 1 (by decide) q6_71 rfl dX7_follow_47 ?_
      refine g_iconst C (v := 2) dX7_follow_50 (by decide) ?_
      refine g_ialdn C 0 1 2 rfl rfl rfl (by decide) (by decide) dX7_follow_51 ?_
      refine g_iload_n C dX7_follow_52 rfl 1 rfl ?_
      refine g_isub C dX7_follow_53 ?_
      refine g_istore_n C (lv1 := [(1, .int ((((fX7_followsAll (fX7_putAside ((fX7_readsOrders (sI μ 0 0)).2))).2).2 0 2) - ((fX7_putAside ((fX7_readsOrders (sI μ 0 0)).2)).2 0 2))), (2, .int 0), (0, .ref (am 0))]) dX7_follow_54 rfl (by decide) rfl ?_
      refine g_aload_n C dX7_follow_55 rfl 2 rfl ?_
      refine g_callV C (cs1 := [wM E am (fX7_takeBack ((fX7_followsAll (fX7_putAside ((fX7_readsOrders (sI μ 0 0)).2))).2))]) (st1 := []) [] [0] (kX7_takeBack l E am ((fX7_followsAll (fX7_putAside ((fX7_readsOrders (sI μ 0 0)).2))).2) (vM_followsAll (vM_putAside (vM_readsOrders (vM_i0 hv))))) caX7_takeBack q7_115 rfl ⟨Nat.le_of_ble_eq_true rfl, Nat.le_of_ble_eq_true rfl⟩ ⟨Nat.zero_le _, Nat.zero_le _⟩ 0 0 rfl rfl rfl rfl (by decide) rfl rfl rfl rfl (Nat.le_of_ble_eq_true rfl) dX7_follow_56 rfl ?_
      refine g_iload_n C dX7_follow_59 rfl 1 rfl ?_
      refine g_if_ne C 69 dX7_follow_60 (by decide) (fun c_3 => ?_) (fun c_3 => ?_)
      · exact absurd (by decide) c_3
      · skip
        refine g_aload_n C dX7_follow_63 rfl 2 rfl ?_
        refine g_iconst C (v := 2) dX7_follow_64 (by decide) ?_
        refine g_callV C (cs1 := [wM E am ((fX7_fails (fX7_takeBack ((fX7_followsAll (fX7_putAside ((fX7_readsOrders (sI μ 0 0)).2))).2)) 2).2)]) (st1 := [.int ((fX7_fails (fX7_takeBack ((fX7_followsAll (fX7_putAside ((fX7_readsOrders (sI μ 0 0)).2))).2)) 2).1)]) [.int 2] [0] (kX7_fails l E am (fX7_takeBack ((fX7_followsAll (fX7_putAside ((fX7_readsOrders (sI μ 0 0)).2))).2)) 2) caX7_fails q6_127 rfl ⟨Nat.le_of_ble_eq_true rfl, Nat.le_of_ble_eq_true rfl⟩ ⟨Nat.zero_le _, Nat.zero_le _⟩ 0 0 rfl rfl rfl rfl (by decide) rfl rfl rfl rfl (Nat.le_of_ble_eq_true rfl) dX7_follow_65 rfl ?_
        have e_4 : fX7_follow μ = ((fX7_fails (fX7_takeBack ((fX7_followsAll (fX7_putAside ((fX7_readsOrders (sI μ 0 0)).2))).2)) 2).1, (fX7_fails (fX7_takeBack ((fX7_followsAll (fX7_putAside ((fX7_readsOrders (sI μ 0 0)).2))).2)) 2).2) := by rw [fX7_follow]; rw [if_pos c_1, if_neg c_2]
        exact g_iret C hE (by rw [e_4]) (by rw [e_4]) dX7_follow_68
    · skip
      refine g_iconst C (v := 1) dX7_follow_40 (by decide) ?_
      refine g_goto C 45 dX7_follow_41 (by decide) ?_
      refine g_istore_n C (lv1 := [(2, .int 1), (1, .int ((fX7_putAside ((fX7_readsOrders (sI μ 0 0)).2)).2 0 2)), (0, .ref (am 0))]) dX7_follow_45 rfl (by decide) rfl ?_
      refine g_aload_n C dX7_follow_46 rfl 2 rfl ?_
      refine g_getf C (T := TX7) (N := 15) 0 0 rfl rfl rfl inX7 1 (by decide) q6_71 rfl dX7_follow_47 ?_
      refine g_iconst C (v := 2) dX7_follow_50 (by decide) ?_
      refine g_ialdn C 0 1 2 rfl rfl rfl (by decide) (by decide) dX7_follow_51 ?_
      refine g_iload_n C dX7_follow_52 rfl 1 rfl ?_
      refine g_isub C dX7_follow_53 ?_
      refine g_istore_n C (lv1 := [(1, .int ((((fX7_followsAll (fX7_putAside ((fX7_readsOrders (sI μ 0 0)).2))).2).2 0 2) - ((fX7_putAside ((fX7_readsOrders (sI μ 0 0)).2)).2 0 2))), (2, .int 1), (0, .ref (am 0))]) dX7_follow_54 rfl (by decide) rfl ?_
      refine g_aload_n C dX7_follow_55 rfl 2 rfl ?_
      refine g_callV C (cs1 := [wM E am (fX7_takeBack ((fX7_followsAll (fX7_putAside ((fX7_readsOrders (sI μ 0 0)).2))).2))]) (st1 := []) [] [0] (kX7_takeBack l E am ((fX7_followsAll (fX7_putAside ((fX7_readsOrders (sI μ 0 0)).2))).2) (vM_followsAll (vM_putAside (vM_readsOrders (vM_i0 hv))))) caX7_takeBack q7_115 rfl ⟨Nat.le_of_ble_eq_true rfl, Nat.le_of_ble_eq_true rfl⟩ ⟨Nat.zero_le _, Nat.zero_le _⟩ 0 0 rfl rfl rfl rfl (by decide) rfl rfl rfl rfl (Nat.le_of_ble_eq_true rfl) dX7_follow_56 rfl ?_
      refine g_iload_n C dX7_follow_59 rfl 1 rfl ?_
      refine g_if_ne C 69 dX7_follow_60 (by decide) (fun c_5 => ?_) (fun c_5 => ?_)
      · skip
        refine g_aload_n C dX7_follow_69 rfl 2 rfl ?_
        refine g_callV C (cs1 := [wM E am (fX7_records (fX7_takeBack ((fX7_followsAll (fX7_putAside ((fX7_readsOrders (sI μ 0 0)).2))).2)))]) (st1 := []) [] [0] (kX7_records l E am (fX7_takeBack ((fX7_followsAll (fX7_putAside ((fX7_readsOrders (sI μ 0 0)).2))).2)) (vM_takeBack (vM_followsAll (vM_putAside (vM_readsOrders (vM_i0 hv)))))) caX7_records q6_131 rfl ⟨Nat.le_of_ble_eq_true rfl, Nat.le_of_ble_eq_true rfl⟩ ⟨Nat.zero_le _, Nat.zero_le _⟩ 0 0 rfl rfl rfl rfl (by decide) rfl rfl rfl rfl (Nat.le_of_ble_eq_true rfl) dX7_follow_70 rfl ?_
        refine g_aload_n C dX7_follow_73 rfl 2 rfl ?_
        refine g_callV C (cs1 := [wM E am ((fX7_followsAll (fX7_records (fX7_takeBack ((fX7_followsAll (fX7_putAside ((fX7_readsOrders (sI μ 0 0)).2))).2)))).2)]) (st1 := [.int ((fX7_followsAll (fX7_records (fX7_takeBack ((fX7_followsAll (fX7_putAside ((fX7_readsOrders (sI μ 0 0)).2))).2)))).1)]) [] [0] (kX7_followsAll l E am (fX7_records (fX7_takeBack ((fX7_followsAll (fX7_putAside ((fX7_readsOrders (sI μ 0 0)).2))).2))) (vM_records (vM_takeBack (vM_followsAll (vM_putAside (vM_readsOrders (vM_i0 hv))))))) caX7_followsAll q7_103 rfl ⟨Nat.le_of_ble_eq_true rfl, Nat.le_of_ble_eq_true rfl⟩ ⟨Nat.zero_le _, Nat.zero_le _⟩ 0 0 rfl rfl rfl rfl (by decide) rfl rfl rfl rfl (Nat.le_of_ble_eq_true rfl) dX7_follow_74 rfl ?_
        refine g_pop C dX7_follow_77 rfl ?_
        refine g_aload_n C dX7_follow_78 rfl 2 rfl ?_
        refine g_iconst C (v := 0) dX7_follow_79 (by decide) ?_
        refine g_putf C (T := TX7) (N := 15) (ty := .int) (w1 := wM E am (sI ((fX7_followsAll (fX7_records (fX7_takeBack ((fX7_followsAll (fX7_putAside ((fX7_readsOrders (sI μ 0 0)).2))).2)))).2) 2 0)) (cs1 := [wM E am (sI ((fX7_followsAll (fX7_records (fX7_takeBack ((fX7_followsAll (fX7_putAside ((fX7_readsOrders (sI μ 0 0)).2))).2)))).2) 2 0)]) 0 0 rfl rfl rfl inX7 tyX7_ok nmX7 8 (by decide) q6_78 rfl (by decide +kernel) rfl rfl (Nat.le_of_ble_eq_true rfl) rfl rfl dX7_follow_80 ?_
        refine g_iload_n C dX7_follow_83 rfl 0 rfl ?_
        have e_6 : fX7_follow μ = ((((fX7_followsAll (fX7_putAside ((fX7_readsOrders (sI μ 0 0)).2))).2).2 0 2) - ((fX7_putAside ((fX7_readsOrders (sI μ 0 0)).2)).2 0 2), sI ((fX7_followsAll (fX7_records (fX7_takeBack ((fX7_followsAll (fX7_putAside ((fX7_readsOrders (sI μ 0 0)).2))).2)))).2) 2 0) := by rw [fX7_follow]; rw [if_pos c_1, if_pos c_2]
        exact g_iret C hE (by rw [e_6]) (by rw [e_6]) dX7_follow_84
      · exact absurd c_5 (by decide)
  · skip
    refine g_aload_n C dX7_follow_12 rfl 0 rfl ?_
    refine g_iconst C (v := 1) dX7_follow_13 (by decide) ?_
    refine g_callV C (cs1 := [wM E am ((fX7_fails ((fX7_readsOrders (sI μ 0 0)).2) 1).2)]) (st1 := [.int ((fX7_fails ((fX7_readsOrders (sI μ 0 0)).2) 1).1)]) [.int 1] [0] (kX7_fails l E am ((fX7_readsOrders (sI μ 0 0)).2) 1) caX7_fails q6_127 rfl ⟨Nat.le_of_ble_eq_true rfl, Nat.le_of_ble_eq_true rfl⟩ ⟨Nat.zero_le _, Nat.zero_le _⟩ 0 0 rfl rfl rfl rfl (by decide) rfl rfl rfl rfl (Nat.le_of_ble_eq_true rfl) dX7_follow_14 rfl ?_
    have e_7 : fX7_follow μ = ((fX7_fails ((fX7_readsOrders (sI μ 0 0)).2) 1).1, (fX7_fails ((fX7_readsOrders (sI μ 0 0)).2) 1).2) := by rw [fX7_follow]; rw [if_neg (ne_true_of_eq_false c_1)]
    exact g_iret C hE (by rw [e_7]) (by rw [e_7]) dX7_follow_17
def fX7_impossibleOrder (μ : BS) : Int32 × BS :=
  if ((fX7_readsOrders (sI μ 0 0)).1) = true then (if ((fX7_followsAll (fX7_putAside ((fX7_readsOrders (sI μ 0 0)).2))).1) = ((fX7_takeBack ((fX7_followsAll (fX7_putAside ((fX7_readsOrders (sI μ 0 0)).2))).2)).1 5) then ((fX7_fails (fX7_takeBack ((fX7_followsAll (fX7_putAside ((fX7_readsOrders (sI μ 0 0)).2))).2)) 2).1, (fX7_fails (fX7_takeBack ((fX7_followsAll (fX7_putAside ((fX7_readsOrders (sI μ 0 0)).2))).2)) 2).2) else ((fX7_followsAll (fX7_putAside ((fX7_readsOrders (sI μ 0 0)).2))).1, (fX7_takeBack ((fX7_followsAll (fX7_putAside ((fX7_readsOrders (sI μ 0 0)).2))).2)))) else ((fX7_fails ((fX7_readsOrders (sI μ 0 0)).2) 1).1, (fX7_fails ((fX7_readsOrders (sI μ 0 0)).2) 1).2)
theorem caX7_impossibleOrder : gCalV yX7_impossibleOrder cX7_impossibleOrder 2 (some .int) 0 := ⟨⟨q7_122, q1_6, by decide +kernel⟩, q7_120, q7_121⟩
set_option maxHeartbeats 4000000 in
set_option maxRecDepth 100000 in
theorem kX7_impossibleOrder (l : Launch) (E : gE) (am : Nat → Nat) (μ : BS) (hv : vM μ)   : MC l E yX7_impossibleOrder cX7_impossibleOrder 2 (some .int) 8 173 [.ref (am 0)] [wM E am μ] (some (.int (fX7_impossibleOrder μ).1)) [wM E am ((fX7_impossibleOrder μ).2)] := by
  have hv1 : cM μ ≤ 20 := hv.1.1
  have hc0 : μ.2 0 0 = nI (cM μ) := hv.1.2.1
  refine mc_of (by decide +kernel) (Nat.le_of_ble_eq_true rfl) (lv := [(0, .ref (am 0))]) rfl (fun X C hE => ?_)
  refine g_aload_n C dX7_impossibleOrder_0 rfl 0 rfl ?_
  refine g_iconst C (v := 0) dX7_impossibleOrder_1 (by decide) ?_
  refine g_putf C (T := TX7) (N := 15) (ty := .int) (w1 := wM E am (sI μ 0 0)) (cs1 := [wM E am (sI μ 0 0)]) 0 0 rfl rfl rfl inX7 tyX7_ok nmX7 0 (by decide) q6_70 rfl (by decide +kernel) rfl rfl (Nat.le_of_ble_eq_true rfl) rfl rfl dX7_impossibleOrder_2 ?_
  refine g_aload_n C dX7_impossibleOrder_5 rfl 0 rfl ?_
  refine g_callV C (cs1 := [wM E am ((fX7_readsOrders (sI μ 0 0)).2)]) (st1 := [.int (b2i ((fX7_readsOrders (sI μ 0 0)).1))]) [] [0] (kX7_readsOrders l E am (sI μ 0 0) (vM_i0 hv)) caX7_readsOrders q7_72 rfl ⟨Nat.le_of_ble_eq_true rfl, Nat.le_of_ble_eq_true rfl⟩ ⟨Nat.zero_le _, Nat.zero_le _⟩ 0 0 rfl rfl rfl rfl (by decide) rfl rfl rfl rfl (Nat.le_of_ble_eq_true rfl) dX7_impossibleOrder_6 rfl ?_
  refine g_ifB_ne C 18 dX7_impossibleOrder_9 (by decide) (fun c_1 => ?_) (fun c_1 => ?_)
  · skip
    refine g_aload_n C dX7_impossibleOrder_18 rfl 0 rfl ?_
    refine g_callV C (cs1 := [wM E am (fX7_putAside ((fX7_readsOrders (sI μ 0 0)).2))]) (st1 := []) [] [0] (kX7_putAside l E am ((fX7_readsOrders (sI μ 0 0)).2) (vM_readsOrders (vM_i0 hv))) caX7_putAside q7_99 rfl ⟨Nat.le_of_ble_eq_true rfl, Nat.le_of_ble_eq_true rfl⟩ ⟨Nat.zero_le _, Nat.zero_le _⟩ 0 0 rfl rfl rfl rfl (by decide) rfl rfl rfl rfl (Nat.le_of_ble_eq_true rfl) dX7_impossibleOrder_19 rfl ?_
    refine g_aload_n C dX7_impossibleOrder_22 rfl 0 rfl ?_
    refine g_callV C (cs1 := [wM E am ((fX7_followsAll (fX7_putAside ((fX7_readsOrders (sI μ 0 0)).2))).2)]) (st1 := [.int ((fX7_followsAll (fX7_putAside ((fX7_readsOrders (sI μ 0 0)).2))).1)]) [] [0] (kX7_followsAll l E am (fX7_putAside ((fX7_readsOrders (sI μ 0 0)).2)) (vM_putAside (vM_readsOrders (vM_i0 hv)))) caX7_followsAll q7_103 rfl ⟨Nat.le_of_ble_eq_true rfl, Nat.le_of_ble_eq_true rfl⟩ ⟨Nat.zero_le _, Nat.zero_le _⟩ 0 0 rfl rfl rfl rfl (by decide) rfl rfl rfl rfl (Nat.le_of_ble_eq_true rfl) dX7_impossibleOrder_23 rfl ?_
    refine g_istore_n C (lv1 := [(1, .int ((fX7_followsAll (fX7_putAside ((fX7_readsOrders (sI μ 0 0)).2))).1)), (0, .ref (am 0))]) dX7_impossibleOrder_26 rfl (by decide) rfl ?_
    refine g_aload_n C dX7_impossibleOrder_27 rfl 1 rfl ?_
    refine g_callV C (cs1 := [wM E am (fX7_takeBack ((fX7_followsAll (fX7_putAside ((fX7_readsOrders (sI μ 0 0)).2))).2))]) (st1 := []) [] [0] (kX7_takeBack l E am ((fX7_followsAll (fX7_putAside ((fX7_readsOrders (sI μ 0 0)).2))).2) (vM_followsAll (vM_putAside (vM_readsOrders (vM_i0 hv))))) caX7_takeBack q7_115 rfl ⟨Nat.le_of_ble_eq_true rfl, Nat.le_of_ble_eq_true rfl⟩ ⟨Nat.zero_le _, Nat.zero_le _⟩ 0 0 rfl rfl rfl rfl (by decide) rfl rfl rfl rfl (Nat.le_of_ble_eq_true rfl) dX7_impossibleOrder_28 rfl ?_
    refine g_iload_n C dX7_impossibleOrder_31 rfl 0 rfl ?_
    refine g_aload_n C dX7_impossibleOrder_32 rfl 1 rfl ?_
    refine g_getf C (v := .int ((fX7_takeBack ((fX7_followsAll (fX7_putAside ((fX7_readsOrders (sI μ 0 0)).2))).2)).1 5)) (T := TX7) (N := 15) 0 0 rfl rfl rfl inX7 12 (by decide) q6_82 rfl dX7_impossibleOrder_33 ?_
    refine g_icmp_ne C 47 dX7_impossibleOrder_36 (by decide) (fun c_2 => ?_) (fun c_2 => ?_)
    · skip
      refine g_iload_n C dX7_impossibleOrder_47 rfl 0 rfl ?_
      have e_3 : fX7_impossibleOrder μ = ((fX7_followsAll (fX7_putAside ((fX7_readsOrders (sI μ 0 0)).2))).1, (fX7_takeBack ((fX7_followsAll (fX7_putAside ((fX7_readsOrders (sI μ 0 0)).2))).2))) := by rw [fX7_impossibleOrder]; rw [if_pos c_1, if_neg c_2]
      exact g_iret C hE (by rw [e_3]) (by rw [e_3]) dX7_impossibleOrder_48
    · skip
      refine g_aload_n C dX7_impossibleOrder_39 rfl 1 rfl ?_
      refine g_iconst C (v := 2) dX7_impossibleOrder_40 (by decide) ?_
      refine g_callV C (cs1 := [wM E am ((fX7_fails (fX7_takeBack ((fX7_followsAll (fX7_putAside ((fX7_readsOrders (sI μ 0 0)).2))).2)) 2).2)]) (st1 := [.int ((fX7_fails (fX7_takeBack ((fX7_followsAll (fX7_putAside ((fX7_readsOrders (sI μ 0 0)).2))).2)) 2).1)]) [.int 2] [0] (kX7_fails l E am (fX7_takeBack ((fX7_followsAll (fX7_putAside ((fX7_readsOrders (sI μ 0 0)).2))).2)) 2) caX7_fails q6_127 rfl ⟨Nat.le_of_ble_eq_true rfl, Nat.le_of_ble_eq_true rfl⟩ ⟨Nat.zero_le _, Nat.zero_le _⟩ 0 0 rfl rfl rfl rfl (by decide) rfl rfl rfl rfl (Nat.le_of_ble_eq_true rfl) dX7_impossibleOrder_41 rfl ?_
      refine g_goto C 48 dX7_impossibleOrder_44 (by decide) ?_
      have e_4 : fX7_impossibleOrder μ = ((fX7_fails (fX7_takeBack ((fX7_followsAll (fX7_putAside ((fX7_readsOrders (sI μ 0 0)).2))).2)) 2).1, (fX7_fails (fX7_takeBack ((fX7_followsAll (fX7_putAside ((fX7_readsOrders (sI μ 0 0)).2))).2)) 2).2) := by rw [fX7_impossibleOrder]; rw [if_pos c_1, if_pos c_2]
      exact g_iret C hE (by rw [e_4]) (by rw [e_4]) dX7_impossibleOrder_48
  · skip
    refine g_aload_n C dX7_impossibleOrder_12 rfl 0 rfl ?_
    refine g_iconst C (v := 1) dX7_impossibleOrder_13 (by decide) ?_
    refine g_callV C (cs1 := [wM E am ((fX7_fails ((fX7_readsOrders (sI μ 0 0)).2) 1).2)]) (st1 := [.int ((fX7_fails ((fX7_readsOrders (sI μ 0 0)).2) 1).1)]) [.int 1] [0] (kX7_fails l E am ((fX7_readsOrders (sI μ 0 0)).2) 1) caX7_fails q6_127 rfl ⟨Nat.le_of_ble_eq_true rfl, Nat.le_of_ble_eq_true rfl⟩ ⟨Nat.zero_le _, Nat.zero_le _⟩ 0 0 rfl rfl rfl rfl (by decide) rfl rfl rfl rfl (Nat.le_of_ble_eq_true rfl) dX7_impossibleOrder_14 rfl ?_
    have e_5 : fX7_impossibleOrder μ = ((fX7_fails ((fX7_readsOrders (sI μ 0 0)).2) 1).1, (fX7_fails ((fX7_readsOrders (sI μ 0 0)).2) 1).2) := by rw [fX7_impossibleOrder]; rw [if_neg (ne_true_of_eq_false c_1)]
    exact g_iret C hE (by rw [e_5]) (by rw [e_5]) dX7_impossibleOrder_17
