def fX7_readsOrder_Y0 (μ : BS) : Int32 × BS := fX7_number (sE (sE (sI (sI μ 4 (b2i (fX7_isOrder (fX7_sign μ)))) 3 ((μ.1 3) + 0)) 6 (3 * (rm μ)) (fX7_sign μ)) 6 ((3 * (rm μ)) + 2) 1) 1 30
def fX7_readsOrder_Y1 (μ : BS) : Int32 × BS := fX7_number (sE (sE (sI (sI μ 4 (b2i (fX7_isOrder (fX7_sign μ)))) 3 ((μ.1 3) + 0)) 6 (3 * (rm μ)) (fX7_sign μ)) 6 ((3 * (rm μ)) + 2) 1) 1 13
def fX7_readsOrder_Y2 (μ : BS) : Int32 × BS := fX7_number (sI (sE (fX7_readsOrder_Y1 μ).2 6 ((3 * (rm μ)) + 1) (fX7_readsOrder_Y1 μ).1) 3 (((fX7_readsOrder_Y1 μ).2.1 3) + 1)) 0 3
def fX7_readsOrder_Y3 (μ : BS) : Int32 × BS := fX7_number (sE (sE (sI (sI μ 4 (b2i (fX7_isOrder (fX7_sign μ)))) 3 ((μ.1 3) + 1)) 6 (3 * (rm μ)) (fX7_sign μ)) 6 ((3 * (rm μ)) + 2) 1) 0 19
def fX7_readsOrder_Y4 (μ : BS) : Int32 × BS := fX7_reads (sE (fX7_readsOrder_Y3 μ).2 6 ((3 * (rm μ)) + 1) (fX7_readsOrder_Y3 μ).1) 64 64
def fX7_readsOrder_Y5 (μ : BS) : Int32 × BS := fX7_number (fX7_readsOrder_Y4 μ).2 0 4
def fX7_readsOrder_Y6 (μ : BS) : Int32 × BS := fX7_reads (sE (fX7_readsOrder_Y3 μ).2 6 ((3 * (rm μ)) + 1) (fX7_readsOrder_Y3 μ).1) 62 62
def fX7_readsOrder_Y7 (μ : BS) : Int32 × BS := fX7_number (fX7_readsOrder_Y6 μ).2 0 19
def fX7_readsOrder_Y8 (μ : BS) : Int32 × BS := fX7_number (sE (sE (sI (sI μ 4 (b2i (fX7_isOrder (fX7_sign μ)))) 3 ((μ.1 3) + 1)) 6 (3 * (rm μ)) (fX7_sign μ)) 6 ((3 * (rm μ)) + 2) 1) 1 30
def fX7_readsOrder_Y9 (μ : BS) : Int32 × BS := fX7_number (sE (sE (sI (sI μ 4 (b2i (fX7_isOrder (fX7_sign μ)))) 3 ((μ.1 3) + 1)) 6 (3 * (rm μ)) (fX7_sign μ)) 6 ((3 * (rm μ)) + 2) 1) 1 13
def fX7_readsOrder_Y10 (μ : BS) : Int32 × BS := fX7_number (sI (sE (fX7_readsOrder_Y9 μ).2 6 ((3 * (rm μ)) + 1) (fX7_readsOrder_Y9 μ).1) 3 (((fX7_readsOrder_Y9 μ).2.1 3) + 1)) 0 3
def fX7_readsOrder (μ : BS) : BS :=
  if (fX7_isOrder (fX7_sign μ)) = true then (if (fX7_sign μ) = 111 then (if ((fX7_readsOrder_Y9 μ).2.1 4) = 0 then sI (sE (fX7_readsOrder_Y9 μ).2 6 ((3 * (rm μ)) + 1) (fX7_readsOrder_Y9 μ).1) 5 (((fX7_readsOrder_Y9 μ).2.1 5) + 0) else (if (fX7_sign (sE (fX7_readsOrder_Y9 μ).2 6 ((3 * (rm μ)) + 1) (fX7_readsOrder_Y9 μ).1)) = 33 then (if ((fX7_readsOrder_Y10 μ).2.1 4) = 0 then sI (sE (fX7_readsOrder_Y10 μ).2 6 ((3 * (rm μ)) + 2) (fX7_readsOrder_Y10 μ).1) 5 (((fX7_readsOrder_Y10 μ).2.1 5) + 0) else sI (sE (fX7_readsOrder_Y10 μ).2 6 ((3 * (rm μ)) + 2) (fX7_readsOrder_Y10 μ).1) 5 (((fX7_readsOrder_Y10 μ).2.1 5) + 1)) else sI (sE (fX7_readsOrder_Y9 μ).2 6 ((3 * (rm μ)) + 1) (fX7_readsOrder_Y9 μ).1) 5 (((fX7_readsOrder_Y9 μ).2.1 5) + 1))) else (if (fX7_sign μ) = 101 then (if ((fX7_readsOrder_Y8 μ).2.1 4) = 0 then sI (sE (fX7_readsOrder_Y8 μ).2 6 ((3 * (rm μ)) + 1) (fX7_readsOrder_Y8 μ).1) 5 (((fX7_readsOrder_Y8 μ).2.1 5) + 0) else sI (sE (fX7_readsOrder_Y8 μ).2 6 ((3 * (rm μ)) + 1) (fX7_readsOrder_Y8 μ).1) 5 (((fX7_readsOrder_Y8 μ).2.1 5) + 1)) else (if (fX7_sign μ) = 110 then (if ((fX7_readsOrder_Y6 μ).2.1 4) = 0 then sI (sE (fX7_readsOrder_Y6 μ).2 6 ((3 * (rm μ)) + 2) 0) 5 (((fX7_readsOrder_Y6 μ).2.1 5) + 0) else (if ((fX7_readsOrder_Y7 μ).2.1 4) = 0 then sI (sE (fX7_readsOrder_Y7 μ).2 6 ((3 * (rm μ)) + 2) (fX7_readsOrder_Y7 μ).1) 5 (((fX7_readsOrder_Y7 μ).2.1 5) + 0) else sI (sE (fX7_readsOrder_Y7 μ).2 6 ((3 * (rm μ)) + 2) (fX7_readsOrder_Y7 μ).1) 5 (((fX7_readsOrder_Y7 μ).2.1 5) + 1))) else (if (fX7_sign μ) = 97 then (if ((fX7_readsOrder_Y4 μ).2.1 4) = 0 then sI (sE (fX7_readsOrder_Y4 μ).2 6 ((3 * (rm μ)) + 2) 0) 5 (((fX7_readsOrder_Y4 μ).2.1 5) + 0) else (if ((fX7_readsOrder_Y5 μ).2.1 4) = 0 then sI (sE (fX7_readsOrder_Y5 μ).2 6 ((3 * (rm μ)) + 2) (fX7_readsOrder_Y5 μ).1) 5 (((fX7_readsOrder_Y5 μ).2.1 5) + 0) else sI (sE (fX7_readsOrder_Y5 μ).2 6 ((3 * (rm μ)) + 2) (fX7_readsOrder_Y5 μ).1) 5 (((fX7_readsOrder_Y5 μ).2.1 5) + 1))) else (if ((fX7_readsOrder_Y3 μ).2.1 4) = 0 then sI (sE (fX7_readsOrder_Y3 μ).2 6 ((3 * (rm μ)) + 1) (fX7_readsOrder_Y3 μ).1) 5 (((fX7_readsOrder_Y3 μ).2.1 5) + 0) else sI (sE (fX7_readsOrder_Y3 μ).2 6 ((3 * (rm μ)) + 1) (fX7_readsOrder_Y3 μ).1) 5 (((fX7_readsOrder_Y3 μ).2.1 5) + 1)))))) else (if (fX7_sign μ) = 111 then (if ((fX7_readsOrder_Y1 μ).2.1 4) = 0 then sI (sE (fX7_readsOrder_Y1 μ).2 6 ((3 * (rm μ)) + 1) (fX7_readsOrder_Y1 μ).1) 5 (((fX7_readsOrder_Y1 μ).2.1 5) + 0) else (if (fX7_sign (sE (fX7_readsOrder_Y1 μ).2 6 ((3 * (rm μ)) + 1) (fX7_readsOrder_Y1 μ).1)) = 33 then (if ((fX7_readsOrder_Y2 μ).2.1 4) = 0 then sI (sE (fX7_readsOrder_Y2 μ).2 6 ((3 * (rm μ)) + 2) (fX7_readsOrder_Y2 μ).1) 5 (((fX7_readsOrder_Y2 μ).2.1 5) + 0) else sI (sE (fX7_readsOrder_Y2 μ).2 6 ((3 * (rm μ)) + 2) (fX7_readsOrder_Y2 μ).1) 5 (((fX7_readsOrder_Y2 μ).2.1 5) + 1)) else sI (sE (fX7_readsOrder_Y1 μ).2 6 ((3 * (rm μ)) + 1) (fX7_readsOrder_Y1 μ).1) 5 (((fX7_readsOrder_Y1 μ).2.1 5) + 1))) else (if (fX7_sign μ) = 101 then (if ((fX7_readsOrder_Y0 μ).2.1 4) = 0 then sI (sE (fX7_readsOrder_Y0 μ).2 6 ((3 * (rm μ)) + 1) (fX7_readsOrder_Y0 μ).1) 5 (((fX7_readsOrder_Y0 μ).2.1 5) + 0) else sI (sE (fX7_readsOrder_Y0 μ).2 6 ((3 * (rm μ)) + 1) (fX7_readsOrder_Y0 μ).1) 5 (((fX7_readsOrder_Y0 μ).2.1 5) + 1)) else sI (sE (sE (sI (sI μ 4 (b2i (fX7_isOrder (fX7_sign μ)))) 3 ((μ.1 3) + 0)) 6 (3 * (rm μ)) (fX7_sign μ)) 6 ((3 * (rm μ)) + 2) 1) 5 ((μ.1 5) + 0)))
theorem caX7_readsOrder : gCalV yX7_readsOrder cX7_readsOrder 3 none 0 := ⟨⟨q7_79, q1_6, by decide +kernel⟩, q7_78, qs_43⟩
set_option maxHeartbeats 4000000 in
set_option maxRecDepth 100000 in
theorem kX7_readsOrder (l : Launch) (E : gE) (am : Nat → Nat) (μ : BS) (hv : vM μ)   (hr9 : rm μ ≤ 30) : MC l E yX7_readsOrder cX7_readsOrder 3 none 3 68 [.ref (am 0)] [wM E am μ] none [wM E am (fX7_readsOrder μ)] := by
  have hv1 : cM μ ≤ 20 := hv.1.1
  have hc0 : μ.2 0 0 = nI (cM μ) := hv.1.2.1
  have ht3 := hv.2.2.2.2.1
  have ht0 := hv.2.2.2.1
  have hl2 := hv.2.2.1.2
  have hl0 := hv.2.2.1.1
  have hr5 := hv.2.2.2.2.2.2.2.1
  refine mc_of (by decide +kernel) (Nat.le_of_ble_eq_true rfl) (lv := [(0, .ref (am 0))]) rfl (fun X C hE => ?_)
  refine g_iconst C (v := 3) dX7_readsOrder_0 (by decide) ?_
  refine g_aload_n C dX7_readsOrder_1 rfl 0 rfl ?_
  refine g_getf C (v := .int (μ.1 5)) (T := TX7) (N := 15) 0 0 rfl rfl rfl inX7 12 (by decide) q6_82 rfl dX7_readsOrder_2 ?_
  refine g_imul C dX7_readsOrder_5 ?_
  refine g_istore_n C (lv1 := [(1, .int (3 * (μ.1 5))), (0, .ref (am 0))]) dX7_readsOrder_6 rfl (by decide) rfl ?_
  refine g_aload_n C dX7_readsOrder_7 rfl 1 rfl ?_
  refine g_callV C (cs1 := [wM E am μ]) (st1 := [.int (fX7_sign μ)]) [] [0] (kX7_sign l E am μ hv) caX7_sign q7_80 rfl ⟨Nat.le_of_ble_eq_true rfl, Nat.le_of_ble_eq_true rfl⟩ ⟨Nat.zero_le _, Nat.zero_le _⟩ 0 0 rfl rfl rfl rfl (by decide) rfl rfl rfl rfl (Nat.le_of_ble_eq_true rfl) dX7_readsOrder_8 rfl ?_
  refine g_istore_n C (lv1 := [(2, .int (fX7_sign μ)), (1, .int (3 * (μ.1 5))), (0, .ref (am 0))]) dX7_readsOrder_11 rfl (by decide) rfl ?_
  refine g_aload_n C dX7_readsOrder_12 rfl 2 rfl ?_
  refine g_iload_n C dX7_readsOrder_13 rfl 0 rfl ?_
  refine g_callS C (cs1 := [wM E am μ]) (st1 := [.int (b2i (fX7_isOrder (fX7_sign μ))), .ref (am 0)]) [.int (fX7_sign μ)] [] (kX7_isOrder l E (fX7_sign μ)) caX7_isOrder q7_84 rfl ⟨Nat.le_of_ble_eq_true rfl, Nat.le_of_ble_eq_true rfl⟩ ⟨Nat.zero_le _, Nat.zero_le _⟩ (by decide) rfl rfl rfl rfl (Nat.le_of_ble_eq_true rfl) dX7_readsOrder_14 rfl ?_
  refine g_putf C (T := TX7) (N := 15) (ty := .boolean) (w1 := wM E am (sI μ 4 (b2i (fX7_isOrder (fX7_sign μ))))) (cs1 := [wM E am (sI μ 4 (b2i (fX7_isOrder (fX7_sign μ))))]) 0 0 rfl rfl rfl inX7 tyX7_ok nmX7 10 (by decide) q6_80 rfl (by decide +kernel) (nar_b2i _) (fit_b2i _) (Nat.le_of_ble_eq_true rfl) rfl rfl dX7_readsOrder_17 ?_
  refine g_aload_n C dX7_readsOrder_20 rfl 2 rfl ?_
  refine g_dup C dX7_readsOrder_21 rfl ?_
  refine g_getf C (v := .int (μ.1 3)) (T := TX7) (N := 15) 0 0 rfl rfl rfl inX7 9 (by decide) q6_79 rfl dX7_readsOrder_22 ?_
  refine g_aload_n C dX7_readsOrder_25 rfl 2 rfl ?_
  refine g_getf C (v := .int (b2i (fX7_isOrder (fX7_sign μ)))) (T := TX7) (N := 15) 0 0 rfl rfl rfl inX7 10 (by decide) q6_80 rfl dX7_readsOrder_26 ?_
  refine g_ifB_eq C 36 dX7_readsOrder_29 (by decide) (fun c_1 => ?_) (fun c_1 => ?_)
  · skip
    refine g_iconst C (v := 0) dX7_readsOrder_36 (by decide) ?_
    refine g_iadd C dX7_readsOrder_37 ?_
    refine g_putf C (T := TX7) (N := 15) (ty := .int) (w1 := wM E am (sI (sI μ 4 (b2i (fX7_isOrder (fX7_sign μ)))) 3 ((μ.1 3) + 0))) (cs1 := [wM E am (sI (sI μ 4 (b2i (fX7_isOrder (fX7_sign μ)))) 3 ((μ.1 3) + 0))]) 0 0 rfl rfl rfl inX7 tyX7_ok nmX7 9 (by decide) q6_79 rfl (by decide +kernel) rfl rfl (Nat.le_of_ble_eq_true rfl) rfl rfl dX7_readsOrder_38 ?_
    refine g_aload_n C dX7_readsOrder_41 rfl 2 rfl ?_
    refine g_getf C (T := TX7) (N := 15) 0 0 rfl rfl rfl inX7 11 (by decide) q6_81 rfl dX7_readsOrder_42 ?_
    refine g_iload_n C dX7_readsOrder_45 rfl 1 rfl ?_
    refine g_iload_n C dX7_readsOrder_46 rfl 0 rfl ?_
    refine g_iastn C (w1 := wM E am (sE (sI (sI μ 4 (b2i (fX7_isOrder (fX7_sign μ)))) 3 ((μ.1 3) + 0)) 6 (3 * (rm μ)) (fX7_sign μ))) (cs1 := [wM E am (sE (sI (sI μ 4 (b2i (fX7_isOrder (fX7_sign μ)))) 3 ((μ.1 3) + 0)) 6 (3 * (rm μ)) (fX7_sign μ))]) 0 7 (3 * (rm μ)) rfl rfl (nx_mul rfl hr5) (by omega) (by decide) rfl rfl dX7_readsOrder_47 ?_
    refine g_aload_n C dX7_readsOrder_48 rfl 2 rfl ?_
    refine g_getf C (T := TX7) (N := 15) 0 0 rfl rfl rfl inX7 11 (by decide) q6_81 rfl dX7_readsOrder_49 ?_
    refine g_iload_n C dX7_readsOrder_52 rfl 1 rfl ?_
    refine g_iconst C (v := 2) dX7_readsOrder_53 (by decide) ?_
    refine g_iadd C dX7_readsOrder_54 ?_
    refine g_iconst C (v := 1) dX7_readsOrder_55 (by decide) ?_
    refine g_iastn C (w1 := wM E am (sE (sE (sI (sI μ 4 (b2i (fX7_isOrder (fX7_sign μ)))) 3 ((μ.1 3) + 0)) 6 (3 * (rm μ)) (fX7_sign μ)) 6 ((3 * (rm μ)) + 2) 1)) (cs1 := [wM E am (sE (sE (sI (sI μ 4 (b2i (fX7_isOrder (fX7_sign μ)))) 3 ((μ.1 3) + 0)) 6 (3 * (rm μ)) (fX7_sign μ)) 6 ((3 * (rm μ)) + 2) 1)]) 0 7 ((3 * (rm μ)) + 2) rfl rfl (nx_add (nx_mul rfl hr5) rfl) (by omega) (by decide) rfl rfl dX7_readsOrder_56 ?_
    refine g_iload_n C dX7_readsOrder_57 rfl 0 rfl ?_
    refine g_bipush C (v := 111) dX7_readsOrder_58 (by decide) ?_
    refine g_icmp_ne C 121 dX7_readsOrder_60 (by decide) (fun c_2 => ?_) (fun c_2 => ?_)
    · skip
      refine g_iload_n C dX7_readsOrder_121 rfl 0 rfl ?_
      refine g_bipush C (v := 101) dX7_readsOrder_122 (by decide) ?_
      refine g_icmp_ne C 145 dX7_readsOrder_124 (by decide) (fun c_3 => ?_) (fun c_3 => ?_)
      · skip
        refine g_aload_n C dX7_readsOrder_145 rfl 2 rfl ?_
        refine g_getf C (v := .int (b2i (fX7_isOrder (fX7_sign μ)))) (T := TX7) (N := 15) 0 0 rfl rfl rfl inX7 10 (by decide) q6_80 rfl dX7_readsOrder_146 ?_
        refine g_ifB_eq C 251 dX7_readsOrder_149 (by decide) (fun c_4 => ?_) (fun c_4 => ?_)
        · skip
          refine g_aload_n C dX7_readsOrder_251 rfl 2 rfl ?_
          refine g_dup C dX7_readsOrder_252 rfl ?_
          refine g_getf C (v := .int (μ.1 5)) (T := TX7) (N := 15) 0 0 rfl rfl rfl inX7 12 (by decide) q6_82 rfl dX7_readsOrder_253 ?_
          refine g_aload_n C dX7_readsOrder_256 rfl 2 rfl ?_
          refine g_getf C (v := .int (b2i (fX7_isOrder (fX7_sign μ)))) (T := TX7) (N := 15) 0 0 rfl rfl rfl inX7 10 (by decide) q6_80 rfl dX7_readsOrder_257 ?_
          refine g_ifB_eq C 267 dX7_readsOrder_260 (by decide) (fun c_5 => ?_) (fun c_5 => ?_)
          · skip
            refine g_iconst C (v := 0) dX7_readsOrder_267 (by decide) ?_
            refine g_iadd C dX7_readsOrder_268 ?_
            refine g_putf C (T := TX7) (N := 15) (ty := .int) (w1 := wM E am (sI (sE (sE (sI (sI μ 4 (b2i (fX7_isOrder (fX7_sign μ)))) 3 ((μ.1 3) + 0)) 6 (3 * (rm μ)) (fX7_sign μ)) 6 ((3 * (rm μ)) + 2) 1) 5 ((μ.1 5) + 0))) (cs1 := [wM E am (sI (sE (sE (sI (sI μ 4 (b2i (fX7_isOrder (fX7_sign μ)))) 3 ((μ.1 3) + 0)) 6 (3 * (rm μ)) (fX7_sign μ)) 6 ((3 * (rm μ)) + 2) 1) 5 ((μ.1 5) + 0))]) 0 0 rfl rfl rfl inX7 tyX7_ok nmX7 12 (by decide) q6_82 rfl (by decide +kernel) rfl rfl (Nat.le_of_ble_eq_true rfl) rfl rfl dX7_readsOrder_269 ?_
            have e_6 : fX7_readsOrder μ = sI (sE (sE (sI (sI μ 4 (b2i (fX7_isOrder (fX7_sign μ)))) 3 ((μ.1 3) + 0)) 6 (3 * (rm μ)) (fX7_sign μ)) 6 ((3 * (rm μ)) + 2) 1) 5 ((μ.1 5) + 0) := by rw [fX7_readsOrder]; rw [if_neg (ne_true_of_eq_false c_1), if_neg c_2, if_neg c_3]
            exact g_vret C hE rfl (by rw [e_6]) dX7_readsOrder_272
          · exact absurd (c_1.symm.trans c_5) (by decide)
        · exact absurd (c_1.symm.trans c_4) (by decide)
      · skip
        refine g_aload_n C dX7_readsOrder_127 rfl 2 rfl ?_
        refine g_getf C (T := TX7) (N := 15) 0 0 rfl rfl rfl inX7 11 (by decide) q6_81 rfl dX7_readsOrder_128 ?_
        refine g_iload_n C dX7_readsOrder_131 rfl 1 rfl ?_
        refine g_iconst C (v := 1) dX7_readsOrder_132 (by decide) ?_
        refine g_iadd C dX7_readsOrder_133 ?_
        refine g_aload_n C dX7_readsOrder_134 rfl 2 rfl ?_
        refine g_iconst C (v := 1) dX7_readsOrder_135 (by decide) ?_
        refine g_bipush C (v := 30) dX7_readsOrder_136 (by decide) ?_
        obtain ⟨y0, hy0⟩ : ∃ y, fX7_readsOrder_Y0 μ = y := ⟨_, rfl⟩
        have hq0 : fX7_number (sE (sE (sI (sI μ 4 (b2i (fX7_isOrder (fX7_sign μ)))) 3 ((μ.1 3) + 0)) 6 (3 * (rm μ)) (fX7_sign μ)) 6 ((3 * (rm μ)) + 2) 1) 1 30 = y0 := by subst hy0; rw [fX7_readsOrder_Y0]
        have hw0_0 : vM y0.2 := by rw [← hq0]; exact (vM_number (vM_rd5 (μ := μ) (vM_rd5 (μ := μ) (vM_at0 (μ := μ) (vM_wlb hv) rfl ht0 ht3) rfl (by omega)) rfl (by omega)) (by decide))
        have h5y0 : y0.2.1 5 = μ.1 5 := by rw [← hq0]; exact (number_5 (sE (sE (sI (sI μ 4 (b2i (fX7_isOrder (fX7_sign μ)))) 3 ((μ.1 3) + 0)) 6 (3 * (rm μ)) (fX7_sign μ)) 6 ((3 * (rm μ)) + 2) 1) 1 30)
        have hk0 := (kX7_number l E am (sE (sE (sI (sI μ 4 (b2i (fX7_isOrder (fX7_sign μ)))) 3 ((μ.1 3) + 0)) 6 (3 * (rm μ)) (fX7_sign μ)) 6 ((3 * (rm μ)) + 2) 1) (vM_rd5 (μ := μ) (vM_rd5 (μ := μ) (vM_at0 (μ := μ) (vM_wlb hv) rfl ht0 ht3) rfl (by omega)) rfl (by omega)) 1 30 (by decide))
        rw [hq0] at hk0
        refine g_callV C (cs1 := [wM E am y0.2]) (st1 := [.int y0.1, .int ((3 * (μ.1 5)) + 1), .ref (am 7)]) [.int 1, .int 30] [0] hk0 caX7_number q7_87 rfl ⟨Nat.le_of_ble_eq_true rfl, Nat.le_of_ble_eq_true rfl⟩ ⟨Nat.zero_le _, Nat.zero_le _⟩ 0 0 rfl rfl rfl rfl (by decide) rfl rfl rfl rfl (Nat.le_of_ble_eq_true rfl) dX7_readsOrder_138 rfl ?_
        refine g_iastn C (w1 := wM E am (sE y0.2 6 ((3 * (rm μ)) + 1) y0.1)) (cs1 := [wM E am (sE y0.2 6 ((3 * (rm μ)) + 1) y0.1)]) 0 7 ((3 * (rm μ)) + 1) rfl rfl (nx_add (nx_mul rfl hr5) rfl) (by omega) (by decide) rfl rfl dX7_readsOrder_141 ?_
        refine g_goto C 251 dX7_readsOrder_142 (by decide) ?_
        refine g_aload_n C dX7_readsOrder_251 rfl 2 rfl ?_
        refine g_dup C dX7_readsOrder_252 rfl ?_
        refine g_getf C (v := .int (y0.2.1 5)) (T := TX7) (N := 15) 0 0 rfl rfl rfl inX7 12 (by decide) q6_82 rfl dX7_readsOrder_253 ?_
        refine g_aload_n C dX7_readsOrder_256 rfl 2 rfl ?_
        refine g_getf C (v := .int (y0.2.1 4)) (T := TX7) (N := 15) 0 0 rfl rfl rfl inX7 10 (by decide) q6_80 rfl dX7_readsOrder_257 ?_
        refine g_if_eq C 267 dX7_readsOrder_260 (by decide) (fun c_7 => ?_) (fun c_7 => ?_)
        · skip
          refine g_iconst C (v := 0) dX7_readsOrder_267 (by decide) ?_
          refine g_iadd C dX7_readsOrder_268 ?_
          refine g_putf C (T := TX7) (N := 15) (ty := .int) (w1 := wM E am (sI (sE y0.2 6 ((3 * (rm μ)) + 1) y0.1) 5 ((y0.2.1 5) + 0))) (cs1 := [wM E am (sI (sE y0.2 6 ((3 * (rm μ)) + 1) y0.1) 5 ((y0.2.1 5) + 0))]) 0 0 rfl rfl rfl inX7 tyX7_ok nmX7 12 (by decide) q6_82 rfl (by decide +kernel) rfl rfl (Nat.le_of_ble_eq_true rfl) rfl rfl dX7_readsOrder_269 ?_
          have e_8 : fX7_readsOrder μ = sI (sE y0.2 6 ((3 * (rm μ)) + 1) y0.1) 5 ((y0.2.1 5) + 0) := by subst hy0; rw [fX7_readsOrder]; rw [if_neg (ne_true_of_eq_false c_1), if_neg c_2, if_pos c_3, if_pos c_7]
          exact g_vret C hE rfl (by rw [e_8]) dX7_readsOrder_272
        · skip
          refine g_iconst C (v := 1) dX7_readsOrder_263 (by decide) ?_
          refine g_goto C 268 dX7_readsOrder_264 (by decide) ?_
          refine g_iadd C dX7_readsOrder_268 ?_
          refine g_putf C (T := TX7) (N := 15) (ty := .int) (w1 := wM E am (sI (sE y0.2 6 ((3 * (rm μ)) + 1) y0.1) 5 ((y0.2.1 5) + 1))) (cs1 := [wM E am (sI (sE y0.2 6 ((3 * (rm μ)) + 1) y0.1) 5 ((y0.2.1 5) + 1))]) 0 0 rfl rfl rfl inX7 tyX7_ok nmX7 12 (by decide) q6_82 rfl (by decide +kernel) rfl rfl (Nat.le_of_ble_eq_true rfl) rfl rfl dX7_readsOrder_269 ?_
          have e_9 : fX7_readsOrder μ = sI (sE y0.2 6 ((3 * (rm μ)) + 1) y0.1) 5 ((y0.2.1 5) + 1) := by subst hy0; rw [fX7_readsOrder]; rw [if_neg (ne_true_of_eq_false c_1), if_neg c_2, if_pos c_3, if_neg c_7]
          exact g_vret C hE rfl (by rw [e_9]) dX7_readsOrder_272
    · skip
      refine g_aload_n C dX7_readsOrder_63 rfl 2 rfl ?_
      refine g_getf C (T := TX7) (N := 15) 0 0 rfl rfl rfl inX7 11 (by decide) q6_81 rfl dX7_readsOrder_64 ?_
      refine g_iload_n C dX7_readsOrder_67 rfl 1 rfl ?_
      refine g_iconst C (v := 1) dX7_readsOrder_68 (by decide) ?_
      refine g_iadd C dX7_readsOrder_69 ?_
      refine g_aload_n C dX7_readsOrder_70 rfl 2 rfl ?_
      refine g_iconst C (v := 1) dX7_readsOrder_71 (by decide) ?_
      refine g_bipush C (v := 13) dX7_readsOrder_72 (by decide) ?_
      obtain ⟨y1, hy1⟩ : ∃ y, fX7_readsOrder_Y1 μ = y := ⟨_, rfl⟩
      have hq1 : fX7_number (sE (sE (sI (sI μ 4 (b2i (fX7_isOrder (fX7_sign μ)))) 3 ((μ.1 3) + 0)) 6 (3 * (rm μ)) (fX7_sign μ)) 6 ((3 * (rm μ)) + 2) 1) 1 13 = y1 := by subst hy1; rw [fX7_readsOrder_Y1]
      have hw1_0 : vM y1.2 := by rw [← hq1]; exact (vM_number (vM_rd5 (μ := μ) (vM_rd5 (μ := μ) (vM_at0 (μ := μ) (vM_wlb hv) rfl ht0 ht3) rfl (by omega)) rfl (by omega)) (by decide))
      have h5y1 : y1.2.1 5 = μ.1 5 := by rw [← hq1]; exact (number_5 (sE (sE (sI (sI μ 4 (b2i (fX7_isOrder (fX7_sign μ)))) 3 ((μ.1 3) + 0)) 6 (3 * (rm μ)) (fX7_sign μ)) 6 ((3 * (rm μ)) + 2) 1) 1 13)
      have hk1 := (kX7_number l E am (sE (sE (sI (sI μ 4 (b2i (fX7_isOrder (fX7_sign μ)))) 3 ((μ.1 3) + 0)) 6 (3 * (rm μ)) (fX7_sign μ)) 6 ((3 * (rm μ)) + 2) 1) (vM_rd5 (μ := μ) (vM_rd5 (μ := μ) (vM_at0 (μ := μ) (vM_wlb hv) rfl ht0 ht3) rfl (by omega)) rfl (by omega)) 1 13 (by decide))
      rw [hq1] at hk1
      refine g_callV C (cs1 := [wM E am y1.2]) (st1 := [.int y1.1, .int ((3 * (μ.1 5)) + 1), .ref (am 7)]) [.int 1, .int 13] [0] hk1 caX7_number q7_87 rfl ⟨Nat.le_of_ble_eq_true rfl, Nat.le_of_ble_eq_true rfl⟩ ⟨Nat.zero_le _, Nat.zero_le _⟩ 0 0 rfl rfl rfl rfl (by decide) rfl rfl rfl rfl (Nat.le_of_ble_eq_true rfl) dX7_readsOrder_74 rfl ?_
      refine g_iastn C (w1 := wM E am (sE y1.2 6 ((3 * (rm μ)) + 1) y1.1)) (cs1 := [wM E am (sE y1.2 6 ((3 * (rm μ)) + 1) y1.1)]) 0 7 ((3 * (rm μ)) + 1) rfl rfl (nx_add (nx_mul rfl hr5) rfl) (by omega) (by decide) rfl rfl dX7_readsOrder_77 ?_
      refine g_aload_n C dX7_readsOrder_78 rfl 2 rfl ?_
      refine g_getf C (v := .int (y1.2.1 4)) (T := TX7) (N := 15) 0 0 rfl rfl rfl inX7 10 (by decide) q6_80 rfl dX7_readsOrder_79 ?_
      refine g_if_eq C 251 dX7_readsOrder_82 (by decide) (fun c_10 => ?_) (fun c_10 => ?_)
      · skip
        refine g_aload_n C dX7_readsOrder_251 rfl 2 rfl ?_
        refine g_dup C dX7_readsOrder_252 rfl ?_
        refine g_getf C (v := .int (y1.2.1 5)) (T := TX7) (N := 15) 0 0 rfl rfl rfl inX7 12 (by decide) q6_82 rfl dX7_readsOrder_253 ?_
        refine g_aload_n C dX7_readsOrder_256 rfl 2 rfl ?_
        refine g_getf C (v := .int (y1.2.1 4)) (T := TX7) (N := 15) 0 0 rfl rfl rfl inX7 10 (by decide) q6_80 rfl dX7_readsOrder_257 ?_
        refine g_if_eq C 267 dX7_readsOrder_260 (by decide) (fun c_11 => ?_) (fun c_11 => ?_)
        · skip
          refine g_iconst C (v := 0) dX7_readsOrder_267 (by decide) ?_
          refine g_iadd C dX7_readsOrder_268 ?_
          refine g_putf C (T := TX7) (N := 15) (ty := .int) (w1 := wM E am (sI (sE y1.2 6 ((3 * (rm μ)) + 1) y1.1) 5 ((y1.2.1 5) + 0))) (cs1 := [wM E am (sI (sE y1.2 6 ((3 * (rm μ)) + 1) y1.1) 5 ((y1.2.1 5) + 0))]) 0 0 rfl rfl rfl inX7 tyX7_ok nmX7 12 (by decide) q6_82 rfl (by decide +kernel) rfl rfl (Nat.le_of_ble_eq_true rfl) rfl rfl dX7_readsOrder_269 ?_
          have e_12 : fX7_readsOrder μ = sI (sE y1.2 6 ((3 * (rm μ)) + 1) y1.1) 5 ((y1.2.1 5) + 0) := by subst hy1; rw [fX7_readsOrder]; rw [if_neg (ne_true_of_eq_false c_1), if_pos c_2, if_pos c_10]
          exact g_vret C hE rfl (by rw [e_12]) dX7_readsOrder_272
        · exact absurd c_10 c_11
      · skip
        refine g_aload_n C dX7_readsOrder_85 rfl 2 rfl ?_
        refine g_callV C (cs1 := [wM E am (sE y1.2 6 ((3 * (rm μ)) + 1) y1.1)]) (st1 := [.int (fX7_sign (sE y1.2 6 ((3 * (rm μ)) + 1) y1.1))]) [] [0] (kX7_sign l E am (sE y1.2 6 ((3 * (rm μ)) + 1) y1.1) (vM_rd5 (μ := μ) hw1_0 h5y1 (by omega))) caX7_sign q7_80 rfl ⟨Nat.le_of_ble_eq_true rfl, Nat.le_of_ble_eq_true rfl⟩ ⟨Nat.zero_le _, Nat.zero_le _⟩ 0 0 rfl rfl rfl rfl (by decide) rfl rfl rfl rfl (Nat.le_of_ble_eq_true rfl) dX7_readsOrder_86 rfl ?_
        refine g_bipush C (v := 33) dX7_readsOrder_89 (by decide) ?_
        refine g_icmp_ne C 251 dX7_readsOrder_91 (by decide) (fun c_13 => ?_) (fun c_13 => ?_)
        · skip
          refine g_aload_n C dX7_readsOrder_251 rfl 2 rfl ?_
          refine g_dup C dX7_readsOrder_252 rfl ?_
          refine g_getf C (v := .int (y1.2.1 5)) (T := TX7) (N := 15) 0 0 rfl rfl rfl inX7 12 (by decide) q6_82 rfl dX7_readsOrder_253 ?_
          refine g_aload_n C dX7_readsOrder_256 rfl 2 rfl ?_
          refine g_getf C (v := .int (y1.2.1 4)) (T := TX7) (N := 15) 0 0 rfl rfl rfl inX7 10 (by decide) q6_80 rfl dX7_readsOrder_257 ?_
          refine g_if_eq C 267 dX7_readsOrder_260 (by decide) (fun c_14 => ?_) (fun c_14 => ?_)
          · exact absurd c_14 c_10
          · skip
            refine g_iconst C (v := 1) dX7_readsOrder_263 (by decide) ?_
            refine g_goto C 268 dX7_readsOrder_264 (by decide) ?_
            refine g_iadd C dX7_readsOrder_268 ?_
            refine g_putf C (T := TX7) (N := 15) (ty := .int) (w1 := wM E am (sI (sE y1.2 6 ((3 * (rm μ)) + 1) y1.1) 5 ((y1.2.1 5) + 1))) (cs1 := [wM E am (sI (sE y1.2 6 ((3 * (rm μ)) + 1) y1.1) 5 ((y1.2.1 5) + 1))]) 0 0 rfl rfl rfl inX7 tyX7_ok nmX7 12 (by decide) q6_82 rfl (by decide +kernel) rfl rfl (Nat.le_of_ble_eq_true rfl) rfl rfl dX7_readsOrder_269 ?_
            have e_15 : fX7_readsOrder μ = sI (sE y1.2 6 ((3 * (rm μ)) + 1) y1.1) 5 ((y1.2.1 5) + 1) := by subst hy1; rw [fX7_readsOrder]; rw [if_neg (ne_true_of_eq_false c_1), if_pos c_2, if_neg c_10, if_neg c_13]
            exact g_vret C hE rfl (by rw [e_15]) dX7_readsOrder_272
        · skip
          have hs8 : ta y1.2 < 60 := sign_lv (μ := sE y1.2 6 ((3 * (rm μ)) + 1) y1.1) (vM_rd5 (μ := μ) hw1_0 h5y1 (by omega)) c_13 (by decide)
          refine g_aload_n C dX7_readsOrder_94 rfl 2 rfl ?_
          refine g_dup C dX7_readsOrder_95 rfl ?_
          refine g_getf C (v := .int (y1.2.1 3)) (T := TX7) (N := 15) 0 0 rfl rfl rfl inX7 9 (by decide) q6_79 rfl dX7_readsOrder_96 ?_
          refine g_iconst C (v := 1) dX7_readsOrder_99 (by decide) ?_
          refine g_iadd C dX7_readsOrder_100 ?_
          refine g_putf C (T := TX7) (N := 15) (ty := .int) (w1 := wM E am (sI (sE y1.2 6 ((3 * (rm μ)) + 1) y1.1) 3 ((y1.2.1 3) + 1))) (cs1 := [wM E am (sI (sE y1.2 6 ((3 * (rm μ)) + 1) y1.1) 3 ((y1.2.1 3) + 1))]) 0 0 rfl rfl rfl inX7 tyX7_ok nmX7 9 (by decide) q6_79 rfl (by decide +kernel) rfl rfl (Nat.le_of_ble_eq_true rfl) rfl rfl dX7_readsOrder_101 ?_
          refine g_aload_n C dX7_readsOrder_104 rfl 2 rfl ?_
          refine g_getf C (T := TX7) (N := 15) 0 0 rfl rfl rfl inX7 11 (by decide) q6_81 rfl dX7_readsOrder_105 ?_
          refine g_iload_n C dX7_readsOrder_108 rfl 1 rfl ?_
          refine g_iconst C (v := 2) dX7_readsOrder_109 (by decide) ?_
          refine g_iadd C dX7_readsOrder_110 ?_
          refine g_aload_n C dX7_readsOrder_111 rfl 2 rfl ?_
          refine g_iconst C (v := 0) dX7_readsOrder_112 (by decide) ?_
          refine g_iconst C (v := 3) dX7_readsOrder_113 (by decide) ?_
          obtain ⟨y2, hy2⟩ : ∃ y, fX7_readsOrder_Y2 μ = y := ⟨_, rfl⟩
          have hq2 : fX7_number (sI (sE y1.2 6 ((3 * (rm μ)) + 1) y1.1) 3 ((y1.2.1 3) + 1)) 0 3 = y2 := by subst hy1 hy2; rw [fX7_readsOrder_Y2]
          have hw2_0 : vM y2.2 := by rw [← hq2]; exact (vM_number (vM_at1 (μ := y1.2) (vM_rd5 (μ := μ) hw1_0 h5y1 (by omega)) rfl hs8 hw1_0.2.2.2.2.1) (by decide))
          have h5y2 : y2.2.1 5 = μ.1 5 := by rw [← hq2]; exact ((number_5 (sI (sE y1.2 6 ((3 * (rm μ)) + 1) y1.1) 3 ((y1.2.1 3) + 1)) 0 3).trans h5y1)
          have hk2 := (kX7_number l E am (sI (sE y1.2 6 ((3 * (rm μ)) + 1) y1.1) 3 ((y1.2.1 3) + 1)) (vM_at1 (μ := y1.2) (vM_rd5 (μ := μ) hw1_0 h5y1 (by omega)) rfl hs8 hw1_0.2.2.2.2.1) 0 3 (by decide))
          rw [hq2] at hk2
          refine g_callV C (cs1 := [wM E am y2.2]) (st1 := [.int y2.1, .int ((3 * (μ.1 5)) + 2), .ref (am 7)]) [.int 0, .int 3] [0] hk2 caX7_number q7_87 rfl ⟨Nat.le_of_ble_eq_true rfl, Nat.le_of_ble_eq_true rfl⟩ ⟨Nat.zero_le _, Nat.zero_le _⟩ 0 0 rfl rfl rfl rfl (by decide) rfl rfl rfl rfl (Nat.le_of_ble_eq_true rfl) dX7_readsOrder_114 rfl ?_
          refine g_iastn C (w1 := wM E am (sE y2.2 6 ((3 * (rm μ)) + 2) y2.1)) (cs1 := [wM E am (sE y2.2 6 ((3 * (rm μ)) + 2) y2.1)]) 0 7 ((3 * (rm μ)) + 2) rfl rfl (nx_add (nx_mul rfl hr5) rfl) (by omega) (by decide) rfl rfl dX7_readsOrder_117 ?_
          refine g_goto C 251 dX7_readsOrder_118 (by decide) ?_
          refine g_aload_n C dX7_readsOrder_251 rfl 2 rfl ?_
          refine g_dup C dX7_readsOrder_252 rfl ?_
          refine g_getf C (v := .int (y2.2.1 5)) (T := TX7) (N := 15) 0 0 rfl rfl rfl inX7 12 (by decide) q6_82 rfl dX7_readsOrder_253 ?_
          refine g_aload_n C dX7_readsOrder_256 rfl 2 rfl ?_
          refine g_getf C (v := .int (y2.2.1 4)) (T := TX7) (N := 15) 0 0 rfl rfl rfl inX7 10 (by decide) q6_80 rfl dX7_readsOrder_257 ?_
          refine g_if_eq C 267 dX7_readsOrder_260 (by decide) (fun c_16 => ?_) (fun c_16 => ?_)
          · skip
            refine g_iconst C (v := 0) dX7_readsOrder_267 (by decide) ?_
            refine g_iadd C dX7_readsOrder_268 ?_
            refine g_putf C (T := TX7) (N := 15) (ty := .int) (w1 := wM E am (sI (sE y2.2 6 ((3 * (rm μ)) + 2) y2.1) 5 ((y2.2.1 5) + 0))) (cs1 := [wM E am (sI (sE y2.2 6 ((3 * (rm μ)) + 2) y2.1) 5 ((y2.2.1 5) + 0))]) 0 0 rfl rfl rfl inX7 tyX7_ok nmX7 12 (by decide) q6_82 rfl (by decide +kernel) rfl rfl (Nat.le_of_ble_eq_true rfl) rfl rfl dX7_readsOrder_269 ?_
            have e_17 : fX7_readsOrder μ = sI (sE y2.2 6 ((3 * (rm μ)) + 2) y2.1) 5 ((y2.2.1 5) + 0) := by subst hy1 hy2; rw [fX7_readsOrder]; rw [if_neg (ne_true_of_eq_false c_1), if_pos c_2, if_neg c_10, if_pos c_13, if_pos c_16]
            exact g_vret C hE rfl (by rw [e_17]) dX7_readsOrder_272
          · skip
            refine g_iconst C (v := 1) dX7_readsOrder_263 (by decide) ?_
            refine g_goto C 268 dX7_readsOrder_264 (by decide) ?_
            refine g_iadd C dX7_readsOrder_268 ?_
            refine g_putf C (T := TX7) (N := 15) (ty := .int) (w1 := wM E am (sI (sE y2.2 6 ((3 * (rm μ)) + 2) y2.1) 5 ((y2.2.1 5) + 1))) (cs1 := [wM E am (sI (sE y2.2 6 ((3 * (rm μ)) + 2) y2.1) 5 ((y2.2.1 5) + 1))]) 0 0 rfl rfl rfl inX7 tyX7_ok nmX7 12 (by decide) q6_82 rfl (by decide +kernel) rfl rfl (Nat.le_of_ble_eq_true rfl) rfl rfl dX7_readsOrder_269 ?_
            have e_18 : fX7_readsOrder μ = sI (sE y2.2 6 ((3 * (rm μ)) + 2) y2.1) 5 ((y2.2.1 5) + 1) := by subst hy1 hy2; rw [fX7_readsOrder]; rw [if_neg (ne_true_of_eq_false c_1), if_pos c_2, if_neg c_10, if_pos c_13, if_neg c_16]
            exact g_vret C hE rfl (by rw [e_18]) dX7_readsOrder_272
  · skip
    have hs9 := sign_lo hv c_1
    refine g_iconst C (v := 1) dX7_readsOrder_32 (by decide) ?_
    refine g_goto C 37 dX7_readsOrder_33 (by decide) ?_
    refine g_iadd C dX7_readsOrder_37 ?_
    refine g_putf C (T := TX7) (N := 15) (ty := .int) (w1 := wM E am (sI (sI μ 4 (b2i (fX7_isOrder (fX7_sign μ)))) 3 ((μ.1 3) + 1))) (cs1 := [wM E am (sI (sI μ 4 (b2i (fX7_isOrder (fX7_sign μ)))) 3 ((μ.1 3) + 1))]) 0 0 rfl rfl rfl inX7 tyX7_ok nmX7 9 (by decide) q6_79 rfl (by decide +kernel) rfl rfl (Nat.le_of_ble_eq_true rfl) rfl rfl dX7_readsOrder_38 ?_
    refine g_aload_n C dX7_readsOrder_41 rfl 2 rfl ?_
    refine g_getf C (T := TX7) (N := 15) 0 0 rfl rfl rfl inX7 11 (by decide) q6_81 rfl dX7_readsOrder_42 ?_
    refine g_iload_n C dX7_readsOrder_45 rfl 1 rfl ?_
    refine g_iload_n C dX7_readsOrder_46 rfl 0 rfl ?_
    refine g_iastn C (w1 := wM E am (sE (sI (sI μ 4 (b2i (fX7_isOrder (fX7_sign μ)))) 3 ((μ.1 3) + 1)) 6 (3 * (rm μ)) (fX7_sign μ))) (cs1 := [wM E am (sE (sI (sI μ 4 (b2i (fX7_isOrder (fX7_sign μ)))) 3 ((μ.1 3) + 1)) 6 (3 * (rm μ)) (fX7_sign μ))]) 0 7 (3 * (rm μ)) rfl rfl (nx_mul rfl hr5) (by omega) (by decide) rfl rfl dX7_readsOrder_47 ?_
    refine g_aload_n C dX7_readsOrder_48 rfl 2 rfl ?_
    refine g_getf C (T := TX7) (N := 15) 0 0 rfl rfl rfl inX7 11 (by decide) q6_81 rfl dX7_readsOrder_49 ?_
    refine g_iload_n C dX7_readsOrder_52 rfl 1 rfl ?_
    refine g_iconst C (v := 2) dX7_readsOrder_53 (by decide) ?_
    refine g_iadd C dX7_readsOrder_54 ?_
    refine g_iconst C (v := 1) dX7_readsOrder_55 (by decide) ?_
    refine g_iastn C (w1 := wM E am (sE (sE (sI (sI μ 4 (b2i (fX7_isOrder (fX7_sign μ)))) 3 ((μ.1 3) + 1)) 6 (3 * (rm μ)) (fX7_sign μ)) 6 ((3 * (rm μ)) + 2) 1)) (cs1 := [wM E am (sE (sE (sI (sI μ 4 (b2i (fX7_isOrder (fX7_sign μ)))) 3 ((μ.1 3) + 1)) 6 (3 * (rm μ)) (fX7_sign μ)) 6 ((3 * (rm μ)) + 2) 1)]) 0 7 ((3 * (rm μ)) + 2) rfl rfl (nx_add (nx_mul rfl hr5) rfl) (by omega) (by decide) rfl rfl dX7_readsOrder_56 ?_
    refine g_iload_n C dX7_readsOrder_57 rfl 0 rfl ?_
    refine g_bipush C (v := 111) dX7_readsOrder_58 (by decide) ?_
    refine g_icmp_ne C 121 dX7_readsOrder_60 (by decide) (fun c_19 => ?_) (fun c_19 => ?_)
    · skip
      refine g_iload_n C dX7_readsOrder_121 rfl 0 rfl ?_
      refine g_bipush C (v := 101) dX7_readsOrder_122 (by decide) ?_
      refine g_icmp_ne C 145 dX7_readsOrder_124 (by decide) (fun c_20 => ?_) (fun c_20 => ?_)
      · skip
        refine g_aload_n C dX7_readsOrder_145 rfl 2 rfl ?_
        refine g_getf C (v := .int (b2i (fX7_isOrder (fX7_sign μ)))) (T := TX7) (N := 15) 0 0 rfl rfl rfl inX7 10 (by decide) q6_80 rfl dX7_readsOrder_146 ?_
        refine g_ifB_eq C 251 dX7_readsOrder_149 (by decide) (fun c_21 => ?_) (fun c_21 => ?_)
        · exact absurd (c_1.symm.trans c_21) (by decide)
        · skip
          refine g_aload_n C dX7_readsOrder_152 rfl 2 rfl ?_
          refine g_getf C (T := TX7) (N := 15) 0 0 rfl rfl rfl inX7 11 (by decide) q6_81 rfl dX7_readsOrder_153 ?_
          refine g_iload_n C dX7_readsOrder_156 rfl 1 rfl ?_
          refine g_iconst C (v := 1) dX7_readsOrder_157 (by decide) ?_
          refine g_iadd C dX7_readsOrder_158 ?_
          refine g_aload_n C dX7_readsOrder_159 rfl 2 rfl ?_
          refine g_iconst C (v := 0) dX7_readsOrder_160 (by decide) ?_
          refine g_bipush C (v := 19) dX7_readsOrder_161 (by decide) ?_
          obtain ⟨y3, hy3⟩ : ∃ y, fX7_readsOrder_Y3 μ = y := ⟨_, rfl⟩
          have hq3 : fX7_number (sE (sE (sI (sI μ 4 (b2i (fX7_isOrder (fX7_sign μ)))) 3 ((μ.1 3) + 1)) 6 (3 * (rm μ)) (fX7_sign μ)) 6 ((3 * (rm μ)) + 2) 1) 0 19 = y3 := by subst hy3; rw [fX7_readsOrder_Y3]
          have hw3_0 : vM y3.2 := by rw [← hq3]; exact (vM_number (vM_rd5 (μ := μ) (vM_rd5 (μ := μ) (vM_at1 (μ := μ) (vM_wlb hv) rfl (by omega) ht3) rfl (by omega)) rfl (by omega)) (by decide))
          have h5y3 : y3.2.1 5 = μ.1 5 := by rw [← hq3]; exact (number_5 (sE (sE (sI (sI μ 4 (b2i (fX7_isOrder (fX7_sign μ)))) 3 ((μ.1 3) + 1)) 6 (3 * (rm μ)) (fX7_sign μ)) 6 ((3 * (rm μ)) + 2) 1) 0 19)
          have hk3 := (kX7_number l E am (sE (sE (sI (sI μ 4 (b2i (fX7_isOrder (fX7_sign μ)))) 3 ((μ.1 3) + 1)) 6 (3 * (rm μ)) (fX7_sign μ)) 6 ((3 * (rm μ)) + 2) 1) (vM_rd5 (μ := μ) (vM_rd5 (μ := μ) (vM_at1 (μ := μ) (vM_wlb hv) rfl (by omega) ht3) rfl (by omega)) rfl (by omega)) 0 19 (by decide))
          rw [hq3] at hk3
          refine g_callV C (cs1 := [wM E am y3.2]) (st1 := [.int y3.1, .int ((3 * (μ.1 5)) + 1), .ref (am 7)]) [.int 0, .int 19] [0] hk3 caX7_number q7_87 rfl ⟨Nat.le_of_ble_eq_true rfl, Nat.le_of_ble_eq_true rfl⟩ ⟨Nat.zero_le _, Nat.zero_le _⟩ 0 0 rfl rfl rfl rfl (by decide) rfl rfl rfl rfl (Nat.le_of_ble_eq_true rfl) dX7_readsOrder_163 rfl ?_
          refine g_iastn C (w1 := wM E am (sE y3.2 6 ((3 * (rm μ)) + 1) y3.1)) (cs1 := [wM E am (sE y3.2 6 ((3 * (rm μ)) + 1) y3.1)]) 0 7 ((3 * (rm μ)) + 1) rfl rfl (nx_add (nx_mul rfl hr5) rfl) (by omega) (by decide) rfl rfl dX7_readsOrder_166 ?_
          refine g_iload_n C dX7_readsOrder_167 rfl 0 rfl ?_
          refine g_bipush C (v := 110) dX7_readsOrder_168 (by decide) ?_
          refine g_icmp_ne C 211 dX7_readsOrder_170 (by decide) (fun c_22 => ?_) (fun c_22 => ?_)
          · skip
            refine g_iload_n C dX7_readsOrder_211 rfl 0 rfl ?_
            refine g_bipush C (v := 97) dX7_readsOrder_212 (by decide) ?_
            refine g_icmp_ne C 251 dX7_readsOrder_214 (by decide) (fun c_23 => ?_) (fun c_23 => ?_)
            · skip
              refine g_aload_n C dX7_readsOrder_251 rfl 2 rfl ?_
              refine g_dup C dX7_readsOrder_252 rfl ?_
              refine g_getf C (v := .int (y3.2.1 5)) (T := TX7) (N := 15) 0 0 rfl rfl rfl inX7 12 (by decide) q6_82 rfl dX7_readsOrder_253 ?_
              refine g_aload_n C dX7_readsOrder_256 rfl 2 rfl ?_
              refine g_getf C (v := .int (y3.2.1 4)) (T := TX7) (N := 15) 0 0 rfl rfl rfl inX7 10 (by decide) q6_80 rfl dX7_readsOrder_257 ?_
              refine g_if_eq C 267 dX7_readsOrder_260 (by decide) (fun c_24 => ?_) (fun c_24 => ?_)
              · skip
                refine g_iconst C (v := 0) dX7_readsOrder_267 (by decide) ?_
                refine g_iadd C dX7_readsOrder_268 ?_
                refine g_putf C (T := TX7) (N := 15) (ty := .int) (w1 := wM E am (sI (sE y3.2 6 ((3 * (rm μ)) + 1) y3.1) 5 ((y3.2.1 5) + 0))) (cs1 := [wM E am (sI (sE y3.2 6 ((3 * (rm μ)) + 1) y3.1) 5 ((y3.2.1 5) + 0))]) 0 0 rfl rfl rfl inX7 tyX7_ok nmX7 12 (by decide) q6_82 rfl (by decide +kernel) rfl rfl (Nat.le_of_ble_eq_true rfl) rfl rfl dX7_readsOrder_269 ?_
                have e_25 : fX7_readsOrder μ = sI (sE y3.2 6 ((3 * (rm μ)) + 1) y3.1) 5 ((y3.2.1 5) + 0) := by subst hy3; rw [fX7_readsOrder]; rw [if_pos c_1, if_neg c_19, if_neg c_20, if_neg c_22, if_neg c_23, if_pos c_24]
                exact g_vret C hE rfl (by rw [e_25]) dX7_readsOrder_272
              · skip
                refine g_iconst C (v := 1) dX7_readsOrder_263 (by decide) ?_
                refine g_goto C 268 dX7_readsOrder_264 (by decide) ?_
                refine g_iadd C dX7_readsOrder_268 ?_
                refine g_putf C (T := TX7) (N := 15) (ty := .int) (w1 := wM E am (sI (sE y3.2 6 ((3 * (rm μ)) + 1) y3.1) 5 ((y3.2.1 5) + 1))) (cs1 := [wM E am (sI (sE y3.2 6 ((3 * (rm μ)) + 1) y3.1) 5 ((y3.2.1 5) + 1))]) 0 0 rfl rfl rfl inX7 tyX7_ok nmX7 12 (by decide) q6_82 rfl (by decide +kernel) rfl rfl (Nat.le_of_ble_eq_true rfl) rfl rfl dX7_readsOrder_269 ?_
                have e_26 : fX7_readsOrder μ = sI (sE y3.2 6 ((3 * (rm μ)) + 1) y3.1) 5 ((y3.2.1 5) + 1) := by subst hy3; rw [fX7_readsOrder]; rw [if_pos c_1, if_neg c_19, if_neg c_20, if_neg c_22, if_neg c_23, if_neg c_24]
                exact g_vret C hE rfl (by rw [e_26]) dX7_readsOrder_272
            · skip
              refine g_aload_n C dX7_readsOrder_217 rfl 2 rfl ?_
              refine g_bipush C (v := 64) dX7_readsOrder_218 (by decide) ?_
              refine g_bipush C (v := 64) dX7_readsOrder_220 (by decide) ?_
              obtain ⟨y4, hy4⟩ : ∃ y, fX7_readsOrder_Y4 μ = y := ⟨_, rfl⟩
              have hq4 : fX7_reads (sE y3.2 6 ((3 * (rm μ)) + 1) y3.1) 64 64 = y4 := by subst hy3 hy4; rw [fX7_readsOrder_Y4]
              have hw4_0 : vM y4.2 := by rw [← hq4]; exact (vM_reads (vM_rd5 (μ := μ) hw3_0 h5y3 (by omega)) (by decide))
              have h5y4 : y4.2.1 5 = μ.1 5 := by rw [← hq4]; exact ((reads_5 (sE y3.2 6 ((3 * (rm μ)) + 1) y3.1) 64 64).trans h5y3)
              have hk4 := (kX7_reads l E am (sE y3.2 6 ((3 * (rm μ)) + 1) y3.1) (vM_rd5 (μ := μ) hw3_0 h5y3 (by omega)) 64 64 (by decide))
              rw [hq4] at hk4
              refine g_callV C (cs1 := [wM E am y4.2]) (st1 := [.int y4.1]) [.int 64, .int 64] [0] hk4 caX7_reads q7_91 rfl ⟨Nat.le_of_ble_eq_true rfl, Nat.le_of_ble_eq_true rfl⟩ ⟨Nat.zero_le _, Nat.zero_le _⟩ 0 0 rfl rfl rfl rfl (by decide) rfl rfl rfl rfl (Nat.le_of_ble_eq_true rfl) dX7_readsOrder_222 rfl ?_
              refine g_pop C dX7_readsOrder_225 rfl ?_
              refine g_aload_n C dX7_readsOrder_226 rfl 2 rfl ?_
              refine g_getf C (T := TX7) (N := 15) 0 0 rfl rfl rfl inX7 11 (by decide) q6_81 rfl dX7_readsOrder_227 ?_
              refine g_iload_n C dX7_readsOrder_230 rfl 1 rfl ?_
              refine g_iconst C (v := 2) dX7_readsOrder_231 (by decide) ?_
              refine g_iadd C dX7_readsOrder_232 ?_
              refine g_aload_n C dX7_readsOrder_233 rfl 2 rfl ?_
              refine g_getf C (v := .int (y4.2.1 4)) (T := TX7) (N := 15) 0 0 rfl rfl rfl inX7 10 (by decide) q6_80 rfl dX7_readsOrder_234 ?_
              refine g_if_eq C 249 dX7_readsOrder_237 (by decide) (fun c_27 => ?_) (fun c_27 => ?_)
              · skip
                refine g_iconst C (v := 0) dX7_readsOrder_249 (by decide) ?_
                refine g_iastn C (w1 := wM E am (sE y4.2 6 ((3 * (rm μ)) + 2) 0)) (cs1 := [wM E am (sE y4.2 6 ((3 * (rm μ)) + 2) 0)]) 0 7 ((3 * (rm μ)) + 2) rfl rfl (nx_add (nx_mul rfl hr5) rfl) (by omega) (by decide) rfl rfl dX7_readsOrder_250 ?_
                refine g_aload_n C dX7_readsOrder_251 rfl 2 rfl ?_
                refine g_dup C dX7_readsOrder_252 rfl ?_
                refine g_getf C (v := .int (y4.2.1 5)) (T := TX7) (N := 15) 0 0 rfl rfl rfl inX7 12 (by decide) q6_82 rfl dX7_readsOrder_253 ?_
                refine g_aload_n C dX7_readsOrder_256 rfl 2 rfl ?_
                refine g_getf C (v := .int (y4.2.1 4)) (T := TX7) (N := 15) 0 0 rfl rfl rfl inX7 10 (by decide) q6_80 rfl dX7_readsOrder_257 ?_
                refine g_if_eq C 267 dX7_readsOrder_260 (by decide) (fun c_28 => ?_) (fun c_28 => ?_)
                · skip
                  refine g_iconst C (v := 0) dX7_readsOrder_267 (by decide) ?_
                  refine g_iadd C dX7_readsOrder_268 ?_
                  refine g_putf C (T := TX7) (N := 15) (ty := .int) (w1 := wM E am (sI (sE y4.2 6 ((3 * (rm μ)) + 2) 0) 5 ((y4.2.1 5) + 0))) (cs1 := [wM E am (sI (sE y4.2 6 ((3 * (rm μ)) + 2) 0) 5 ((y4.2.1 5) + 0))]) 0 0 rfl rfl rfl inX7 tyX7_ok nmX7 12 (by decide) q6_82 rfl (by decide +kernel) rfl rfl (Nat.le_of_ble_eq_true rfl) rfl rfl dX7_readsOrder_269 ?_
                  have e_29 : fX7_readsOrder μ = sI (sE y4.2 6 ((3 * (rm μ)) + 2) 0) 5 ((y4.2.1 5) + 0) := by subst hy3 hy4; rw [fX7_readsOrder]; rw [if_pos c_1, if_neg c_19, if_neg c_20, if_neg c_22, if_pos c_23, if_pos c_27]
                  exact g_vret C hE rfl (by rw [e_29]) dX7_readsOrder_272
                · exact absurd c_27 c_28
              · skip
                refine g_aload_n C dX7_readsOrder_240 rfl 2 rfl ?_
                refine g_iconst C (v := 0) dX7_readsOrder_241 (by decide) ?_
                refine g_iconst C (v := 4) dX7_readsOrder_242 (by decide) ?_
                obtain ⟨y5, hy5⟩ : ∃ y, fX7_readsOrder_Y5 μ = y := ⟨_, rfl⟩
                have hq5 : fX7_number y4.2 0 4 = y5 := by subst hy3 hy4 hy5; rw [fX7_readsOrder_Y5]
                have hw5_0 : vM y5.2 := by rw [← hq5]; exact (vM_number hw4_0 (by decide))
                have h5y5 : y5.2.1 5 = μ.1 5 := by rw [← hq5]; exact ((number_5 y4.2 0 4).trans h5y4)
                have hk5 := (kX7_number l E am y4.2 hw4_0 0 4 (by decide))
                rw [hq5] at hk5
                refine g_callV C (cs1 := [wM E am y5.2]) (st1 := [.int y5.1, .int ((3 * (μ.1 5)) + 2), .ref (am 7)]) [.int 0, .int 4] [0] hk5 caX7_number q7_87 rfl ⟨Nat.le_of_ble_eq_true rfl, Nat.le_of_ble_eq_true rfl⟩ ⟨Nat.zero_le _, Nat.zero_le _⟩ 0 0 rfl rfl rfl rfl (by decide) rfl rfl rfl rfl (Nat.le_of_ble_eq_true rfl) dX7_readsOrder_243 rfl ?_
                refine g_goto C 250 dX7_readsOrder_246 (by decide) ?_
                refine g_iastn C (w1 := wM E am (sE y5.2 6 ((3 * (rm μ)) + 2) y5.1)) (cs1 := [wM E am (sE y5.2 6 ((3 * (rm μ)) + 2) y5.1)]) 0 7 ((3 * (rm μ)) + 2) rfl rfl (nx_add (nx_mul rfl hr5) rfl) (by omega) (by decide) rfl rfl dX7_readsOrder_250 ?_
                refine g_aload_n C dX7_readsOrder_251 rfl 2 rfl ?_
                refine g_dup C dX7_readsOrder_252 rfl ?_
                refine g_getf C (v := .int (y5.2.1 5)) (T := TX7) (N := 15) 0 0 rfl rfl rfl inX7 12 (by decide) q6_82 rfl dX7_readsOrder_253 ?_
                refine g_aload_n C dX7_readsOrder_256 rfl 2 rfl ?_
                refine g_getf C (v := .int (y5.2.1 4)) (T := TX7) (N := 15) 0 0 rfl rfl rfl inX7 10 (by decide) q6_80 rfl dX7_readsOrder_257 ?_
                refine g_if_eq C 267 dX7_readsOrder_260 (by decide) (fun c_30 => ?_) (fun c_30 => ?_)
                · skip
                  refine g_iconst C (v := 0) dX7_readsOrder_267 (by decide) ?_
                  refine g_iadd C dX7_readsOrder_268 ?_
                  refine g_putf C (T := TX7) (N := 15) (ty := .int) (w1 := wM E am (sI (sE y5.2 6 ((3 * (rm μ)) + 2) y5.1) 5 ((y5.2.1 5) + 0))) (cs1 := [wM E am (sI (sE y5.2 6 ((3 * (rm μ)) + 2) y5.1) 5 ((y5.2.1 5) + 0))]) 0 0 rfl rfl rfl inX7 tyX7_ok nmX7 12 (by decide) q6_82 rfl (by decide +kernel) rfl rfl (Nat.le_of_ble_eq_true rfl) rfl rfl dX7_readsOrder_269 ?_
                  have e_31 : fX7_readsOrder μ = sI (sE y5.2 6 ((3 * (rm μ)) + 2) y5.1) 5 ((y5.2.1 5) + 0) := by subst hy3 hy4 hy5; rw [fX7_readsOrder]; rw [if_pos c_1, if_neg c_19, if_neg c_20, if_neg c_22, if_pos c_23, if_neg c_27, if_pos c_30]
                  exact g_vret C hE rfl (by rw [e_31]) dX7_readsOrder_272
                · skip
                  refine g_iconst C (v := 1) dX7_readsOrder_263 (by decide) ?_
                  refine g_goto C 268 dX7_readsOrder_264 (by decide) ?_
                  refine g_iadd C dX7_readsOrder_268 ?_
                  refine g_putf C (T := TX7) (N := 15) (ty := .int) (w1 := wM E am (sI (sE y5.2 6 ((3 * (rm μ)) + 2) y5.1) 5 ((y5.2.1 5) + 1))) (cs1 := [wM E am (sI (sE y5.2 6 ((3 * (rm μ)) + 2) y5.1) 5 ((y5.2.1 5) + 1))]) 0 0 rfl rfl rfl inX7 tyX7_ok nmX7 12 (by decide) q6_82 rfl (by decide +kernel) rfl rfl (Nat.le_of_ble_eq_true rfl) rfl rfl dX7_readsOrder_269 ?_
                  have e_32 : fX7_readsOrder μ = sI (sE y5.2 6 ((3 * (rm μ)) + 2) y5.1) 5 ((y5.2.1 5) + 1) := by subst hy3 hy4 hy5; rw [fX7_readsOrder]; rw [if_pos c_1, if_neg c_19, if_neg c_20, if_neg c_22, if_pos c_23, if_neg c_27, if_neg c_30]
                  exact g_vret C hE rfl (by rw [e_32]) dX7_readsOrder_272
          · skip
            refine g_aload_n C dX7_readsOrder_173 rfl 2 rfl ?_
            refine g_bipush C (v := 62) dX7_readsOrder_174 (by decide) ?_
            refine g_bipush C (v := 62) dX7_readsOrder_176 (by decide) ?_
            obtain ⟨y6, hy6⟩ : ∃ y, fX7_readsOrder_Y6 μ = y := ⟨_, rfl⟩
            have hq6 : fX7_reads (sE y3.2 6 ((3 * (rm μ)) + 1) y3.1) 62 62 = y6 := by subst hy3 hy6; rw [fX7_readsOrder_Y6]
            have hw6_0 : vM y6.2 := by rw [← hq6]; exact (vM_reads (vM_rd5 (μ := μ) hw3_0 h5y3 (by omega)) (by decide))
            have h5y6 : y6.2.1 5 = μ.1 5 := by rw [← hq6]; exact ((reads_5 (sE y3.2 6 ((3 * (rm μ)) + 1) y3.1) 62 62).trans h5y3)
            have hk6 := (kX7_reads l E am (sE y3.2 6 ((3 * (rm μ)) + 1) y3.1) (vM_rd5 (μ := μ) hw3_0 h5y3 (by omega)) 62 62 (by decide))
            rw [hq6] at hk6
            refine g_callV C (cs1 := [wM E am y6.2]) (st1 := [.int y6.1]) [.int 62, .int 62] [0] hk6 caX7_reads q7_91 rfl ⟨Nat.le_of_ble_eq_true rfl, Nat.le_of_ble_eq_true rfl⟩ ⟨Nat.zero_le _, Nat.zero_le _⟩ 0 0 rfl rfl rfl rfl (by decide) rfl rfl rfl rfl (Nat.le_of_ble_eq_true rfl) dX7_readsOrder_178 rfl ?_
            refine g_pop C dX7_readsOrder_181 rfl ?_
            refine g_aload_n C dX7_readsOrder_182 rfl 2 rfl ?_
            refine g_getf C (T := TX7) (N := 15) 0 0 rfl rfl rfl inX7 11 (by decide) q6_81 rfl dX7_readsOrder_183 ?_
            refine g_iload_n C dX7_readsOrder_186 rfl 1 rfl ?_
            refine g_iconst C (v := 2) dX7_readsOrder_187 (by decide) ?_
            refine g_iadd C dX7_readsOrder_188 ?_
            refine g_aload_n C dX7_readsOrder_189 rfl 2 rfl ?_
            refine g_getf C (v := .int (y6.2.1 4)) (T := TX7) (N := 15) 0 0 rfl rfl rfl inX7 10 (by decide) q6_80 rfl dX7_readsOrder_190 ?_
            refine g_if_eq C 206 dX7_readsOrder_193 (by decide) (fun c_33 => ?_) (fun c_33 => ?_)
            · skip
              refine g_iconst C (v := 0) dX7_readsOrder_206 (by decide) ?_
              refine g_iastn C (w1 := wM E am (sE y6.2 6 ((3 * (rm μ)) + 2) 0)) (cs1 := [wM E am (sE y6.2 6 ((3 * (rm μ)) + 2) 0)]) 0 7 ((3 * (rm μ)) + 2) rfl rfl (nx_add (nx_mul rfl hr5) rfl) (by omega) (by decide) rfl rfl dX7_readsOrder_207 ?_
              refine g_goto C 251 dX7_readsOrder_208 (by decide) ?_
              refine g_aload_n C dX7_readsOrder_251 rfl 2 rfl ?_
              refine g_dup C dX7_readsOrder_252 rfl ?_
              refine g_getf C (v := .int (y6.2.1 5)) (T := TX7) (N := 15) 0 0 rfl rfl rfl inX7 12 (by decide) q6_82 rfl dX7_readsOrder_253 ?_
              refine g_aload_n C dX7_readsOrder_256 rfl 2 rfl ?_
              refine g_getf C (v := .int (y6.2.1 4)) (T := TX7) (N := 15) 0 0 rfl rfl rfl inX7 10 (by decide) q6_80 rfl dX7_readsOrder_257 ?_
              refine g_if_eq C 267 dX7_readsOrder_260 (by decide) (fun c_34 => ?_) (fun c_34 => ?_)
              · skip
                refine g_iconst C (v := 0) dX7_readsOrder_267 (by decide) ?_
                refine g_iadd C dX7_readsOrder_268 ?_
                refine g_putf C (T := TX7) (N := 15) (ty := .int) (w1 := wM E am (sI (sE y6.2 6 ((3 * (rm μ)) + 2) 0) 5 ((y6.2.1 5) + 0))) (cs1 := [wM E am (sI (sE y6.2 6 ((3 * (rm μ)) + 2) 0) 5 ((y6.2.1 5) + 0))]) 0 0 rfl rfl rfl inX7 tyX7_ok nmX7 12 (by decide) q6_82 rfl (by decide +kernel) rfl rfl (Nat.le_of_ble_eq_true rfl) rfl rfl dX7_readsOrder_269 ?_
                have e_35 : fX7_readsOrder μ = sI (sE y6.2 6 ((3 * (rm μ)) + 2) 0) 5 ((y6.2.1 5) + 0) := by subst hy3 hy6; rw [fX7_readsOrder]; rw [if_pos c_1, if_neg c_19, if_neg c_20, if_pos c_22, if_pos c_33]
                exact g_vret C hE rfl (by rw [e_35]) dX7_readsOrder_272
              · exact absurd c_33 c_34
            · skip
              refine g_aload_n C dX7_readsOrder_196 rfl 2 rfl ?_
              refine g_iconst C (v := 0) dX7_readsOrder_197 (by decide) ?_
              refine g_bipush C (v := 19) dX7_readsOrder_198 (by decide) ?_
              obtain ⟨y7, hy7⟩ : ∃ y, fX7_readsOrder_Y7 μ = y := ⟨_, rfl⟩
              have hq7 : fX7_number y6.2 0 19 = y7 := by subst hy3 hy6 hy7; rw [fX7_readsOrder_Y7]
              have hw7_0 : vM y7.2 := by rw [← hq7]; exact (vM_number hw6_0 (by decide))
              have h5y7 : y7.2.1 5 = μ.1 5 := by rw [← hq7]; exact ((number_5 y6.2 0 19).trans h5y6)
              have hk7 := (kX7_number l E am y6.2 hw6_0 0 19 (by decide))
              rw [hq7] at hk7
              refine g_callV C (cs1 := [wM E am y7.2]) (st1 := [.int y7.1, .int ((3 * (μ.1 5)) + 2), .ref (am 7)]) [.int 0, .int 19] [0] hk7 caX7_number q7_87 rfl ⟨Nat.le_of_ble_eq_true rfl, Nat.le_of_ble_eq_true rfl⟩ ⟨Nat.zero_le _, Nat.zero_le _⟩ 0 0 rfl rfl rfl rfl (by decide) rfl rfl rfl rfl (Nat.le_of_ble_eq_true rfl) dX7_readsOrder_200 rfl ?_
              refine g_goto C 207 dX7_readsOrder_203 (by decide) ?_
              refine g_iastn C (w1 := wM E am (sE y7.2 6 ((3 * (rm μ)) + 2) y7.1)) (cs1 := [wM E am (sE y7.2 6 ((3 * (rm μ)) + 2) y7.1)]) 0 7 ((3 * (rm μ)) + 2) rfl rfl (nx_add (nx_mul rfl hr5) rfl) (by omega) (by decide) rfl rfl dX7_readsOrder_207 ?_
              refine g_goto C 251 dX7_readsOrder_208 (by decide) ?_
              refine g_aload_n C dX7_readsOrder_251 rfl 2 rfl ?_
              refine g_dup C dX7_readsOrder_252 rfl ?_
              refine g_getf C (v := .int (y7.2.1 5)) (T := TX7) (N := 15) 0 0 rfl rfl rfl inX7 12 (by decide) q6_82 rfl dX7_readsOrder_253 ?_
              refine g_aload_n C dX7_readsOrder_256 rfl 2 rfl ?_
              refine g_getf C (v := .int (y7.2.1 4)) (T := TX7) (N := 15) 0 0 rfl rfl rfl inX7 10 (by decide) q6_80 rfl dX7_readsOrder_257 ?_
              refine g_if_eq C 267 dX7_readsOrder_260 (by decide) (fun c_36 => ?_) (fun c_36 => ?_)
              · skip
                refine g_iconst C (v := 0) dX7_readsOrder_267 (by decide) ?_
                refine g_iadd C dX7_readsOrder_268 ?_
                refine g_putf C (T := TX7) (N := 15) (ty := .int) (w1 := wM E am (sI (sE y7.2 6 ((3 * (rm μ)) + 2) y7.1) 5 ((y7.2.1 5) + 0))) (cs1 := [wM E am (sI (sE y7.2 6 ((3 * (rm μ)) + 2) y7.1) 5 ((y7.2.1 5) + 0))]) 0 0 rfl rfl rfl inX7 tyX7_ok nmX7 12 (by decide) q6_82 rfl (by decide +kernel) rfl rfl (Nat.le_of_ble_eq_true rfl) rfl rfl dX7_readsOrder_269 ?_
                have e_37 : fX7_readsOrder μ = sI (sE y7.2 6 ((3 * (rm μ)) + 2) y7.1) 5 ((y7.2.1 5) + 0) := by subst hy3 hy6 hy7; rw [fX7_readsOrder]; rw [if_pos c_1, if_neg c_19, if_neg c_20, if_pos c_22, if_neg c_33, if_pos c_36]
                exact g_vret C hE rfl (by rw [e_37]) dX7_readsOrder_272
              · skip
                refine g_iconst C (v := 1) dX7_readsOrder_263 (by decide) ?_
                refine g_goto C 268 dX7_readsOrder_264 (by decide) ?_
                refine g_iadd C dX7_readsOrder_268 ?_
                refine g_putf C (T := TX7) (N := 15) (ty := .int) (w1 := wM E am (sI (sE y7.2 6 ((3 * (rm μ)) + 2) y7.1) 5 ((y7.2.1 5) + 1))) (cs1 := [wM E am (sI (sE y7.2 6 ((3 * (rm μ)) + 2) y7.1) 5 ((y7.2.1 5) + 1))]) 0 0 rfl rfl rfl inX7 tyX7_ok nmX7 12 (by decide) q6_82 rfl (by decide +kernel) rfl rfl (Nat.le_of_ble_eq_true rfl) rfl rfl dX7_readsOrder_269 ?_
                have e_38 : fX7_readsOrder μ = sI (sE y7.2 6 ((3 * (rm μ)) + 2) y7.1) 5 ((y7.2.1 5) + 1) := by subst hy3 hy6 hy7; rw [fX7_readsOrder]; rw [if_pos c_1, if_neg c_19, if_neg c_20, if_pos c_22, if_neg c_33, if_neg c_36]
                exact g_vret C hE rfl (by rw [e_38]) dX7_readsOrder_272
      · skip
        refine g_aload_n C dX7_readsOrder_127 rfl 2 rfl ?_
        refine g_getf C (T := TX7) (N := 15) 0 0 rfl rfl rfl inX7 11 (by decide) q6_81 rfl dX7_readsOrder_128 ?_
        refine g_iload_n C dX7_readsOrder_131 rfl 1 rfl ?_
        refine g_iconst C (v := 1) dX7_readsOrder_132 (by decide) ?_
        refine g_iadd C dX7_readsOrder_133 ?_
        refine g_aload_n C dX7_readsOrder_134 rfl 2 rfl ?_
        refine g_iconst C (v := 1) dX7_readsOrder_135 (by decide) ?_
        refine g_bipush C (v := 30) dX7_readsOrder_136 (by decide) ?_
        obtain ⟨y8, hy8⟩ : ∃ y, fX7_readsOrder_Y8 μ = y := ⟨_, rfl⟩
        have hq8 : fX7_number (sE (sE (sI (sI μ 4 (b2i (fX7_isOrder (fX7_sign μ)))) 3 ((μ.1 3) + 1)) 6 (3 * (rm μ)) (fX7_sign μ)) 6 ((3 * (rm μ)) + 2) 1) 1 30 = y8 := by subst hy8; rw [fX7_readsOrder_Y8]
        have hw8_0 : vM y8.2 := by rw [← hq8]; exact (vM_number (vM_rd5 (μ := μ) (vM_rd5 (μ := μ) (vM_at1 (μ := μ) (vM_wlb hv) rfl (by omega) ht3) rfl (by omega)) rfl (by omega)) (by decide))
        have h5y8 : y8.2.1 5 = μ.1 5 := by rw [← hq8]; exact (number_5 (sE (sE (sI (sI μ 4 (b2i (fX7_isOrder (fX7_sign μ)))) 3 ((μ.1 3) + 1)) 6 (3 * (rm μ)) (fX7_sign μ)) 6 ((3 * (rm μ)) + 2) 1) 1 30)
        have hk8 := (kX7_number l E am (sE (sE (sI (sI μ 4 (b2i (fX7_isOrder (fX7_sign μ)))) 3 ((μ.1 3) + 1)) 6 (3 * (rm μ)) (fX7_sign μ)) 6 ((3 * (rm μ)) + 2) 1) (vM_rd5 (μ := μ) (vM_rd5 (μ := μ) (vM_at1 (μ := μ) (vM_wlb hv) rfl (by omega) ht3) rfl (by omega)) rfl (by omega)) 1 30 (by decide))
        rw [hq8] at hk8
        refine g_callV C (cs1 := [wM E am y8.2]) (st1 := [.int y8.1, .int ((3 * (μ.1 5)) + 1), .ref (am 7)]) [.int 1, .int 30] [0] hk8 caX7_number q7_87 rfl ⟨Nat.le_of_ble_eq_true rfl, Nat.le_of_ble_eq_true rfl⟩ ⟨Nat.zero_le _, Nat.zero_le _⟩ 0 0 rfl rfl rfl rfl (by decide) rfl rfl rfl rfl (Nat.le_of_ble_eq_true rfl) dX7_readsOrder_138 rfl ?_
        refine g_iastn C (w1 := wM E am (sE y8.2 6 ((3 * (rm μ)) + 1) y8.1)) (cs1 := [wM E am (sE y8.2 6 ((3 * (rm μ)) + 1) y8.1)]) 0 7 ((3 * (rm μ)) + 1) rfl rfl (nx_add (nx_mul rfl hr5) rfl) (by omega) (by decide) rfl rfl dX7_readsOrder_141 ?_
        refine g_goto C 251 dX7_readsOrder_142 (by decide) ?_
        refine g_aload_n C dX7_readsOrder_251 rfl 2 rfl ?_
        refine g_dup C dX7_readsOrder_252 rfl ?_
        refine g_getf C (v := .int (y8.2.1 5)) (T := TX7) (N := 15) 0 0 rfl rfl rfl inX7 12 (by decide) q6_82 rfl dX7_readsOrder_253 ?_
        refine g_aload_n C dX7_readsOrder_256 rfl 2 rfl ?_
        refine g_getf C (v := .int (y8.2.1 4)) (T := TX7) (N := 15) 0 0 rfl rfl rfl inX7 10 (by decide) q6_80 rfl dX7_readsOrder_257 ?_
        refine g_if_eq C 267 dX7_readsOrder_260 (by decide) (fun c_39 => ?_) (fun c_39 => ?_)
        · skip
          refine g_iconst C (v := 0) dX7_readsOrder_267 (by decide) ?_
          refine g_iadd C dX7_readsOrder_268 ?_
          refine g_putf C (T := TX7) (N := 15) (ty := .int) (w1 := wM E am (sI (sE y8.2 6 ((3 * (rm μ)) + 1) y8.1) 5 ((y8.2.1 5) + 0))) (cs1 := [wM E am (sI (sE y8.2 6 ((3 * (rm μ)) + 1) y8.1) 5 ((y8.2.1 5) + 0))]) 0 0 rfl rfl rfl inX7 tyX7_ok nmX7 12 (by decide) q6_82 rfl (by decide +kernel) rfl rfl (Nat.le_of_ble_eq_true rfl) rfl rfl dX7_readsOrder_269 ?_
          have e_40 : fX7_readsOrder μ = sI (sE y8.2 6 ((3 * (rm μ)) + 1) y8.1) 5 ((y8.2.1 5) + 0) := by subst hy8; rw [fX7_readsOrder]; rw [if_pos c_1, if_neg c_19, if_pos c_20, if_pos c_39]
          exact g_vret C hE rfl (by rw [e_40]) dX7_readsOrder_272
        · skip
          refine g_iconst C (v := 1) dX7_readsOrder_263 (by decide) ?_
          refine g_goto C 268 dX7_readsOrder_264 (by decide) ?_
          refine g_iadd C dX7_readsOrder_268 ?_
          refine g_putf C (T := TX7) (N := 15) (ty := .int) (w1 := wM E am (sI (sE y8.2 6 ((3 * (rm μ)) + 1) y8.1) 5 ((y8.2.1 5) + 1))) (cs1 := [wM E am (sI (sE y8.2 6 ((3 * (rm μ)) + 1) y8.1) 5 ((y8.2.1 5) + 1))]) 0 0 rfl rfl rfl inX7 tyX7_ok nmX7 12 (by decide) q6_82 rfl (by decide +kernel) rfl rfl (Nat.le_of_ble_eq_true rfl) rfl rfl dX7_readsOrder_269 ?_
          have e_41 : fX7_readsOrder μ = sI (sE y8.2 6 ((3 * (rm μ)) + 1) y8.1) 5 ((y8.2.1 5) + 1) := by subst hy8; rw [fX7_readsOrder]; rw [if_pos c_1, if_neg c_19, if_pos c_20, if_neg c_39]
          exact g_vret C hE rfl (by rw [e_41]) dX7_readsOrder_272
    · skip
      refine g_aload_n C dX7_readsOrder_63 rfl 2 rfl ?_
      refine g_getf C (T := TX7) (N := 15) 0 0 rfl rfl rfl inX7 11 (by decide) q6_81 rfl dX7_readsOrder_64 ?_
      refine g_iload_n C dX7_readsOrder_67 rfl 1 rfl ?_
      refine g_iconst C (v := 1) dX7_readsOrder_68 (by decide) ?_
      refine g_iadd C dX7_readsOrder_69 ?_
      refine g_aload_n C dX7_readsOrder_70 rfl 2 rfl ?_
      refine g_iconst C (v := 1) dX7_readsOrder_71 (by decide) ?_
      refine g_bipush C (v := 13) dX7_readsOrder_72 (by decide) ?_
      obtain ⟨y9, hy9⟩ : ∃ y, fX7_readsOrder_Y9 μ = y := ⟨_, rfl⟩
      have hq9 : fX7_number (sE (sE (sI (sI μ 4 (b2i (fX7_isOrder (fX7_sign μ)))) 3 ((μ.1 3) + 1)) 6 (3 * (rm μ)) (fX7_sign μ)) 6 ((3 * (rm μ)) + 2) 1) 1 13 = y9 := by subst hy9; rw [fX7_readsOrder_Y9]
      have hw9_0 : vM y9.2 := by rw [← hq9]; exact (vM_number (vM_rd5 (μ := μ) (vM_rd5 (μ := μ) (vM_at1 (μ := μ) (vM_wlb hv) rfl (by omega) ht3) rfl (by omega)) rfl (by omega)) (by decide))
      have h5y9 : y9.2.1 5 = μ.1 5 := by rw [← hq9]; exact (number_5 (sE (sE (sI (sI μ 4 (b2i (fX7_isOrder (fX7_sign μ)))) 3 ((μ.1 3) + 1)) 6 (3 * (rm μ)) (fX7_sign μ)) 6 ((3 * (rm μ)) + 2) 1) 1 13)
      have hk9 := (kX7_number l E am (sE (sE (sI (sI μ 4 (b2i (fX7_isOrder (fX7_sign μ)))) 3 ((μ.1 3) + 1)) 6 (3 * (rm μ)) (fX7_sign μ)) 6 ((3 * (rm μ)) + 2) 1) (vM_rd5 (μ := μ) (vM_rd5 (μ := μ) (vM_at1 (μ := μ) (vM_wlb hv) rfl (by omega) ht3) rfl (by omega)) rfl (by omega)) 1 13 (by decide))
      rw [hq9] at hk9
      refine g_callV C (cs1 := [wM E am y9.2]) (st1 := [.int y9.1, .int ((3 * (μ.1 5)) + 1), .ref (am 7)]) [.int 1, .int 13] [0] hk9 caX7_number q7_87 rfl ⟨Nat.le_of_ble_eq_true rfl, Nat.le_of_ble_eq_true rfl⟩ ⟨Nat.zero_le _, Nat.zero_le _⟩ 0 0 rfl rfl rfl rfl (by decide) rfl rfl rfl rfl (Nat.le_of_ble_eq_true rfl) dX7_readsOrder_74 rfl ?_
      refine g_iastn C (w1 := wM E am (sE y9.2 6 ((3 * (rm μ)) + 1) y9.1)) (cs1 := [wM E am (sE y9.2 6 ((3 * (rm μ)) + 1) y9.1)]) 0 7 ((3 * (rm μ)) + 1) rfl rfl (nx_add (nx_mul rfl hr5) rfl) (by omega) (by decide) rfl rfl dX7_readsOrder_77 ?_
      refine g_aload_n C dX7_readsOrder_78 rfl 2 rfl ?_
      refine g_getf C (v := .int (y9.2.1 4)) (T := TX7) (N := 15) 0 0 rfl rfl rfl inX7 10 (by decide) q6_80 rfl dX7_readsOrder_79 ?_
      refine g_if_eq C 251 dX7_readsOrder_82 (by decide) (fun c_42 => ?_) (fun c_42 => ?_)
      · skip
        refine g_aload_n C dX7_readsOrder_251 rfl 2 rfl ?_
        refine g_dup C dX7_readsOrder_252 rfl ?_
        refine g_getf C (v := .int (y9.2.1 5)) (T := TX7) (N := 15) 0 0 rfl rfl rfl inX7 12 (by decide) q6_82 rfl dX7_readsOrder_253 ?_
        refine g_aload_n C dX7_readsOrder_256 rfl 2 rfl ?_
        refine g_getf C (v := .int (y9.2.1 4)) (T := TX7) (N := 15) 0 0 rfl rfl rfl inX7 10 (by decide) q6_80 rfl dX7_readsOrder_257 ?_
        refine g_if_eq C 267 dX7_readsOrder_260 (by decide) (fun c_43 => ?_) (fun c_43 => ?_)
        · skip
          refine g_iconst C (v := 0) dX7_readsOrder_267 (by decide) ?_
          refine g_iadd C dX7_readsOrder_268 ?_
          refine g_putf C (T := TX7) (N := 15) (ty := .int) (w1 := wM E am (sI (sE y9.2 6 ((3 * (rm μ)) + 1) y9.1) 5 ((y9.2.1 5) + 0))) (cs1 := [wM E am (sI (sE y9.2 6 ((3 * (rm μ)) + 1) y9.1) 5 ((y9.2.1 5) + 0))]) 0 0 rfl rfl rfl inX7 tyX7_ok nmX7 12 (by decide) q6_82 rfl (by decide +kernel) rfl rfl (Nat.le_of_ble_eq_true rfl) rfl rfl dX7_readsOrder_269 ?_
          have e_44 : fX7_readsOrder μ = sI (sE y9.2 6 ((3 * (rm μ)) + 1) y9.1) 5 ((y9.2.1 5) + 0) := by subst hy9; rw [fX7_readsOrder]; rw [if_pos c_1, if_pos c_19, if_pos c_42]
          exact g_vret C hE rfl (by rw [e_44]) dX7_readsOrder_272
        · exact absurd c_42 c_43
      · skip
        refine g_aload_n C dX7_readsOrder_85 rfl 2 rfl ?_
        refine g_callV C (cs1 := [wM E am (sE y9.2 6 ((3 * (rm μ)) + 1) y9.1)]) (st1 := [.int (fX7_sign (sE y9.2 6 ((3 * (rm μ)) + 1) y9.1))]) [] [0] (kX7_sign l E am (sE y9.2 6 ((3 * (rm μ)) + 1) y9.1) (vM_rd5 (μ := μ) hw9_0 h5y9 (by omega))) caX7_sign q7_80 rfl ⟨Nat.le_of_ble_eq_true rfl, Nat.le_of_ble_eq_true rfl⟩ ⟨Nat.zero_le _, Nat.zero_le _⟩ 0 0 rfl rfl rfl rfl (by decide) rfl rfl rfl rfl (Nat.le_of_ble_eq_true rfl) dX7_readsOrder_86 rfl ?_
        refine g_bipush C (v := 33) dX7_readsOrder_89 (by decide) ?_
        refine g_icmp_ne C 251 dX7_readsOrder_91 (by decide) (fun c_45 => ?_) (fun c_45 => ?_)
        · skip
          refine g_aload_n C dX7_readsOrder_251 rfl 2 rfl ?_
          refine g_dup C dX7_readsOrder_252 rfl ?_
          refine g_getf C (v := .int (y9.2.1 5)) (T := TX7) (N := 15) 0 0 rfl rfl rfl inX7 12 (by decide) q6_82 rfl dX7_readsOrder_253 ?_
          refine g_aload_n C dX7_readsOrder_256 rfl 2 rfl ?_
          refine g_getf C (v := .int (y9.2.1 4)) (T := TX7) (N := 15) 0 0 rfl rfl rfl inX7 10 (by decide) q6_80 rfl dX7_readsOrder_257 ?_
          refine g_if_eq C 267 dX7_readsOrder_260 (by decide) (fun c_46 => ?_) (fun c_46 => ?_)
          · exact absurd c_46 c_42
          · skip
            refine g_iconst C (v := 1) dX7_readsOrder_263 (by decide) ?_
            refine g_goto C 268 dX7_readsOrder_264 (by decide) ?_
            refine g_iadd C dX7_readsOrder_268 ?_
            refine g_putf C (T := TX7) (N := 15) (ty := .int) (w1 := wM E am (sI (sE y9.2 6 ((3 * (rm μ)) + 1) y9.1) 5 ((y9.2.1 5) + 1))) (cs1 := [wM E am (sI (sE y9.2 6 ((3 * (rm μ)) + 1) y9.1) 5 ((y9.2.1 5) + 1))]) 0 0 rfl rfl rfl inX7 tyX7_ok nmX7 12 (by decide) q6_82 rfl (by decide +kernel) rfl rfl (Nat.le_of_ble_eq_true rfl) rfl rfl dX7_readsOrder_269 ?_
            have e_47 : fX7_readsOrder μ = sI (sE y9.2 6 ((3 * (rm μ)) + 1) y9.1) 5 ((y9.2.1 5) + 1) := by subst hy9; rw [fX7_readsOrder]; rw [if_pos c_1, if_pos c_19, if_neg c_42, if_neg c_45]
            exact g_vret C hE rfl (by rw [e_47]) dX7_readsOrder_272
        · skip
          have hs8 : ta y9.2 < 60 := sign_lv (μ := sE y9.2 6 ((3 * (rm μ)) + 1) y9.1) (vM_rd5 (μ := μ) hw9_0 h5y9 (by omega)) c_45 (by decide)
          refine g_aload_n C dX7_readsOrder_94 rfl 2 rfl ?_
          refine g_dup C dX7_readsOrder_95 rfl ?_
          refine g_getf C (v := .int (y9.2.1 3)) (T := TX7) (N := 15) 0 0 rfl rfl rfl inX7 9 (by decide) q6_79 rfl dX7_readsOrder_96 ?_
          refine g_iconst C (v := 1) dX7_readsOrder_99 (by decide) ?_
          refine g_iadd C dX7_readsOrder_100 ?_
          refine g_putf C (T := TX7) (N := 15) (ty := .int) (w1 := wM E am (sI (sE y9.2 6 ((3 * (rm μ)) + 1) y9.1) 3 ((y9.2.1 3) + 1))) (cs1 := [wM E am (sI (sE y9.2 6 ((3 * (rm μ)) + 1) y9.1) 3 ((y9.2.1 3) + 1))]) 0 0 rfl rfl rfl inX7 tyX7_ok nmX7 9 (by decide) q6_79 rfl (by decide +kernel) rfl rfl (Nat.le_of_ble_eq_true rfl) rfl rfl dX7_readsOrder_101 ?_
          refine g_aload_n C dX7_readsOrder_104 rfl 2 rfl ?_
          refine g_getf C (T := TX7) (N := 15) 0 0 rfl rfl rfl inX7 11 (by decide) q6_81 rfl dX7_readsOrder_105 ?_
          refine g_iload_n C dX7_readsOrder_108 rfl 1 rfl ?_
          refine g_iconst C (v := 2) dX7_readsOrder_109 (by decide) ?_
          refine g_iadd C dX7_readsOrder_110 ?_
          refine g_aload_n C dX7_readsOrder_111 rfl 2 rfl ?_
          refine g_iconst C (v := 0) dX7_readsOrder_112 (by decide) ?_
          refine g_iconst C (v := 3) dX7_readsOrder_113 (by decide) ?_
          obtain ⟨y10, hy10⟩ : ∃ y, fX7_readsOrder_Y10 μ = y := ⟨_, rfl⟩
          have hq10 : fX7_number (sI (sE y9.2 6 ((3 * (rm μ)) + 1) y9.1) 3 ((y9.2.1 3) + 1)) 0 3 = y10 := by subst hy9 hy10; rw [fX7_readsOrder_Y10]
          have hw10_0 : vM y10.2 := by rw [← hq10]; exact (vM_number (vM_at1 (μ := y9.2) (vM_rd5 (μ := μ) hw9_0 h5y9 (by omega)) rfl hs8 hw9_0.2.2.2.2.1) (by decide))
          have h5y10 : y10.2.1 5 = μ.1 5 := by rw [← hq10]; exact ((number_5 (sI (sE y9.2 6 ((3 * (rm μ)) + 1) y9.1) 3 ((y9.2.1 3) + 1)) 0 3).trans h5y9)
          have hk10 := (kX7_number l E am (sI (sE y9.2 6 ((3 * (rm μ)) + 1) y9.1) 3 ((y9.2.1 3) + 1)) (vM_at1 (μ := y9.2) (vM_rd5 (μ := μ) hw9_0 h5y9 (by omega)) rfl hs8 hw9_0.2.2.2.2.1) 0 3 (by decide))
          rw [hq10] at hk10
          refine g_callV C (cs1 := [wM E am y10.2]) (st1 := [.int y10.1, .int ((3 * (μ.1 5)) + 2), .ref (am 7)]) [.int 0, .int 3] [0] hk10 caX7_number q7_87 rfl ⟨Nat.le_of_ble_eq_true rfl, Nat.le_of_ble_eq_true rfl⟩ ⟨Nat.zero_le _, Nat.zero_le _⟩ 0 0 rfl rfl rfl rfl (by decide) rfl rfl rfl rfl (Nat.le_of_ble_eq_true rfl) dX7_readsOrder_114 rfl ?_
          refine g_iastn C (w1 := wM E am (sE y10.2 6 ((3 * (rm μ)) + 2) y10.1)) (cs1 := [wM E am (sE y10.2 6 ((3 * (rm μ)) + 2) y10.1)]) 0 7 ((3 * (rm μ)) + 2) rfl rfl (nx_add (nx_mul rfl hr5) rfl) (by omega) (by decide) rfl rfl dX7_readsOrder_117 ?_
          refine g_goto C 251 dX7_readsOrder_118 (by decide) ?_
          refine g_aload_n C dX7_readsOrder_251 rfl 2 rfl ?_
          refine g_dup C dX7_readsOrder_252 rfl ?_
          refine g_getf C (v := .int (y10.2.1 5)) (T := TX7) (N := 15) 0 0 rfl rfl rfl inX7 12 (by decide) q6_82 rfl dX7_readsOrder_253 ?_
          refine g_aload_n C dX7_readsOrder_256 rfl 2 rfl ?_
          refine g_getf C (v := .int (y10.2.1 4)) (T := TX7) (N := 15) 0 0 rfl rfl rfl inX7 10 (by decide) q6_80 rfl dX7_readsOrder_257 ?_
          refine g_if_eq C 267 dX7_readsOrder_260 (by decide) (fun c_48 => ?_) (fun c_48 => ?_)
          · skip
            refine g_iconst C (v := 0) dX7_readsOrder_267 (by decide) ?_
            refine g_iadd C dX7_readsOrder_268 ?_
            refine g_putf C (T := TX7) (N := 15) (ty := .int) (w1 := wM E am (sI (sE y10.2 6 ((3 * (rm μ)) + 2) y10.1) 5 ((y10.2.1 5) + 0))) (cs1 := [wM E am (sI (sE y10.2 6 ((3 * (rm μ)) + 2) y10.1) 5 ((y10.2.1 5) + 0))]) 0 0 rfl rfl rfl inX7 tyX7_ok nmX7 12 (by decide) q6_82 rfl (by decide +kernel) rfl rfl (Nat.le_of_ble_eq_true rfl) rfl rfl dX7_readsOrder_269 ?_
            have e_49 : fX7_readsOrder μ = sI (sE y10.2 6 ((3 * (rm μ)) + 2) y10.1) 5 ((y10.2.1 5) + 0) := by subst hy9 hy10; rw [fX7_readsOrder]; rw [if_pos c_1, if_pos c_19, if_neg c_42, if_pos c_45, if_pos c_48]
            exact g_vret C hE rfl (by rw [e_49]) dX7_readsOrder_272
          · skip
            refine g_iconst C (v := 1) dX7_readsOrder_263 (by decide) ?_
            refine g_goto C 268 dX7_readsOrder_264 (by decide) ?_
            refine g_iadd C dX7_readsOrder_268 ?_
            refine g_putf C (T := TX7) (N := 15) (ty := .int) (w1 := wM E am (sI (sE y10.2 6 ((3 * (rm μ)) + 2) y10.1) 5 ((y10.2.1 5) + 1))) (cs1 := [wM E am (sI (sE y10.2 6 ((3 * (rm μ)) + 2) y10.1) 5 ((y10.2.1 5) + 1))]) 0 0 rfl rfl rfl inX7 tyX7_ok nmX7 12 (by decide) q6_82 rfl (by decide +kernel) rfl rfl (Nat.le_of_ble_eq_true rfl) rfl rfl dX7_readsOrder_269 ?_
            have e_50 : fX7_readsOrder μ = sI (sE y10.2 6 ((3 * (rm μ)) + 2) y10.1) 5 ((y10.2.1 5) + 1) := by subst hy9 hy10; rw [fX7_readsOrder]; rw [if_pos c_1, if_pos c_19, if_neg c_42, if_pos c_45, if_neg c_48]
            exact g_vret C hE rfl (by rw [e_50]) dX7_readsOrder_272
