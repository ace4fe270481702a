def fX7_digest_L25 (μ : BS) (i25 : Nat) (t25 : Int64 × BS) : Int64 × BS :=
  ((fX7_digestTicket (t25.2) (t25.1) i25).1, (fX7_digestTicket (t25.2) (t25.1) i25).2)
def fX7_digest_S0 (μ : BS) : BS := (lpF (fX7_digest_L25 μ) ((31 * 4211) + ((μ.2 0 0).toInt64), sI μ 0 0) (cM μ)).2
def fX7_digest_V48 (μ : BS) : Int64 := (lpF (fX7_digest_L25 μ) ((31 * 4211) + ((μ.2 0 0).toInt64), sI μ 0 0) (cM μ)).1
def fX7_digest_L50 (μ : BS) (i50 : Nat) (t50 : Int64) : Int64 :=
  (31 * ((31 * ((31 * ((31 * ((31 * t50) + (((fX7_digest_S0 μ).2 0 (4 + i50)).toInt64))) + ((fX7_load (fX7_digest_S0 μ) (nI i50)).toInt64))) + ((fX7_load (fX7_digest_S0 μ) (nI i50)).toInt64))) + ((fX7_progressOf (fX7_digest_S0 μ) (nI i50)).toInt64))) + ((fX7_doneOf (fX7_digest_S0 μ) (nI i50)).toInt64)
def fX7_digest_V123 (μ : BS) : Int64 := (lpF (fX7_digest_L50 μ) (fX7_digest_V48 μ) 5)
def fX7_digest_L125 (μ : BS) (i125 : Nat) (t125 : Int64) : Int64 :=
  if (fX7_late (fX7_digest_S0 μ) i125) = true then (31 * ((31 * ((31 * ((31 * ((31 * ((31 * t125) + (((fX7_digest_S0 μ).2 0 (9 + i125)).toInt64))) + ((fX7_leftFor (fX7_digest_S0 μ) (nI i125)).toInt64))) + ((fX7_doneFor (fX7_digest_S0 μ) (nI i125)).toInt64))) + ((fX7_hundredths (fX7_digest_S0 μ) (nI i125)).toInt64))) + ((1 : Int32).toInt64))) + ((fX7_misplannedOf (fX7_digest_S0 μ) i125).toInt64) else (31 * ((31 * ((31 * ((31 * ((31 * ((31 * t125) + (((fX7_digest_S0 μ).2 0 (9 + i125)).toInt64))) + ((fX7_leftFor (fX7_digest_S0 μ) (nI i125)).toInt64))) + ((fX7_doneFor (fX7_digest_S0 μ) (nI i125)).toInt64))) + ((fX7_hundredths (fX7_digest_S0 μ) (nI i125)).toInt64))) + ((0 : Int32).toInt64))) + ((fX7_misplannedOf (fX7_digest_S0 μ) i125).toInt64)
def fX7_digest_V218 (μ : BS) : Int64 := (lpF (fX7_digest_L125 μ) (fX7_digest_V123 μ) 4)
def fX7_digest_S1 (μ : BS) : BS := (fX7_critical ((fX7_critical (fX7_digest_S0 μ)).2)).2
def fX7_digest_V250 (μ : BS) : Int64 := (31 * ((31 * ((31 * (fX7_digest_V218 μ)) + ((fX7_freest (fX7_digest_S0 μ)).toInt64))) + (((fX7_critical (fX7_digest_S0 μ)).1).toInt64))) + (((fX7_critical ((fX7_critical (fX7_digest_S0 μ)).2)).1).toInt64)
def fX7_digest_V264 (μ : BS) : Int64 := ((31 * (fX7_digest_V250 μ)) + ((fX7_next (fX7_digest_S1 μ)).toInt64)) + 1
def fX7_digest_S2 (μ : BS) : BS := (fX7_tellsOrder (fX7_digest_S1 μ)).2
def fX7_digest_L272 (μ : BS) (i272 : Nat) (t272 : Int64) : Int64 :=
  (31 * t272) + (((fX7_digest_S2 μ).2 7 i272).toInt64)
def fX7_digest_V299 (μ : BS) : Int64 := (lpF (fX7_digest_L272 μ) (fX7_digest_V264 μ) ((fX7_tellsOrder (fX7_digest_S1 μ)).1.toNatClampNeg))
def fX7_digest_V335 (μ : BS) : Int64 := (31 * ((31 * ((31 * (fX7_digest_V299 μ)) + (((fX7_digest_S2 μ).2 0 1).toInt64))) + ((fX7_blockedMany (fX7_digest_S2 μ)).toInt64))) + (((fX7_digest_S2 μ).2 0 2).toInt64)
def fX7_digest_V369 (μ : BS) : Int64 := (31 * ((31 * ((31 * (fX7_digest_V335 μ)) + (((fX7_digest_S2 μ).2 0 3).toInt64))) + ((fX7_week (fX7_digest_S2 μ)).toInt64))) + (((fX7_digest_S2 μ).1 1).toInt64)
def fX7_digest_V383 (μ : BS) : Int64 := (31 * (fX7_digest_V369 μ)) + (fJxe99ae_doubleToLongBits_ccdee (fX7_mean (fX7_digest_S2 μ)))
def fX7_digest_L440 (μ : BS) (i440 : Nat) (t440 : Int64) : Int64 :=
  (31 * t440) + (((fX7_digest_S2 μ).2 5 i440).toInt64)
def fX7_digest (μ : BS) : Int64 × BS :=
  if ((fX7_digest_S2 μ).2 4 0) = 0 then (if ((fX7_digest_S2 μ).2 4 1) = 0 then ((lpF (fX7_digest_L440 μ) ((31 * ((31 * ((31 * (fX7_digest_V383 μ)) + ((0 : Int32).toInt64))) + ((0 : Int32).toInt64))) + (((fX7_digest_S2 μ).1 2).toInt64)) (tl μ)), fX7_digest_S2 μ) else ((lpF (fX7_digest_L440 μ) ((31 * ((31 * ((31 * (fX7_digest_V383 μ)) + ((0 : Int32).toInt64))) + ((1 : Int32).toInt64))) + (((fX7_digest_S2 μ).1 2).toInt64)) (tl μ)), fX7_digest_S2 μ)) else (if ((fX7_digest_S2 μ).2 4 1) = 0 then ((lpF (fX7_digest_L440 μ) ((31 * ((31 * ((31 * (fX7_digest_V383 μ)) + ((1 : Int32).toInt64))) + ((0 : Int32).toInt64))) + (((fX7_digest_S2 μ).1 2).toInt64)) (tl μ)), fX7_digest_S2 μ) else ((lpF (fX7_digest_L440 μ) ((31 * ((31 * ((31 * (fX7_digest_V383 μ)) + ((1 : Int32).toInt64))) + ((1 : Int32).toInt64))) + (((fX7_digest_S2 μ).1 2).toInt64)) (tl μ)), fX7_digest_S2 μ))
theorem caX7_digest : gCalV yX7_digest cX7_digest 5 (some .long) 0 := ⟨⟨q8_166, q1_6, by decide +kernel⟩, q8_164, q8_165⟩
set_option maxHeartbeats 4000000 in
set_option maxRecDepth 100000 in
theorem kX7_digest (l : Launch) (E : gE) (am : Nat → Nat) (μ : BS) (hv : vM μ) (ha : gA (μ.2 0)) (hnn : gNN)   : MC l E yX7_digest cX7_digest 5 (some .long) 6 128 [.ref (am 0)] [wM E am μ] (some (.long (fX7_digest μ).1)) [wM E am ((fX7_digest μ).2)] := by
  have hv1 : cM μ ≤ 20 := hv.1.1
  have hc0 : μ.2 0 0 = nI (cM μ) := hv.1.2.1
  have hl2 := hv.2.2.1.2
  have hl0 := hv.2.2.1.1
  refine mc_of (by decide +kernel) (Nat.le_of_ble_eq_true rfl) (lv := [(0, .ref (am 0))]) rfl (fun X C hE => ?_)
  refine g_aload_n C dX7_digest_0 rfl 0 rfl ?_
  refine g_iconst C (v := 0) dX7_digest_1 (by decide) ?_
  refine g_putf C (T := TX7) (N := 15) (ty := .int) (w1 := wM E am (sI μ 0 0)) (cs1 := [wM E am (sI μ 0 0)]) 0 0 rfl rfl rfl inX7 tyX7_ok nmX7 0 (by decide) q6_70 rfl (by decide +kernel) rfl rfl (Nat.le_of_ble_eq_true rfl) rfl rfl dX7_digest_2 ?_
  refine g_ldc2 C q8_167 dX7_digest_5 ?_
  refine g_lstore_n C (lv1 := [(1, .long 4211), (0, .ref (am 0))]) dX7_digest_8 rfl (by decide) rfl ?_
  refine g_ldc2 C q8_168 dX7_digest_9 ?_
  refine g_lload_n C dX7_digest_12 rfl 0 rfl ?_
  refine g_lmul C dX7_digest_13 ?_
  refine g_aload_n C dX7_digest_14 rfl 1 rfl ?_
  refine g_getf C (T := TX7) (N := 15) 0 0 rfl rfl rfl inX7 1 (by decide) q6_71 rfl dX7_digest_15 ?_
  refine g_iconst C (v := 0) dX7_digest_18 (by decide) ?_
  refine g_ialdn C (f := μ.2 0) 0 1 0 rfl rfl rfl (by decide) (by decide) dX7_digest_19 ?_
  refine g_i2l C dX7_digest_20 ?_
  refine g_ladd C dX7_digest_21 ?_
  refine g_lstore_n C (lv1 := [(1, .long ((31 * 4211) + ((μ.2 0 0).toInt64))), (0, .ref (am 0))]) dX7_digest_22 rfl (by decide) rfl ?_
  refine g_iconst C (v := 0) dX7_digest_23 (by decide) ?_
  refine g_istore_n C (lv1 := [(3, .int 0), (1, .long ((31 * 4211) + ((μ.2 0 0).toInt64))), (0, .ref (am 0))]) dX7_digest_24 rfl (by decide) rfl ?_
  have hL_3 : ∀ d_1 i25 : Nat, i25 + d_1 = (cM μ) → G X 0 0 [wM E am ((lpF (fX7_digest_L25 μ) ((31 * 4211) + ((μ.2 0 0).toInt64), sI μ 0 0) i25).2)] [(0, .ref (am 0)), (1, .long ((lpF (fX7_digest_L25 μ) ((31 * 4211) + ((μ.2 0 0).toInt64), sI μ 0 0) i25).1)), (3, .int (nI i25))] 25 [] := by
    intro d_1
    induction d_1 with
    | zero =>
      intro i25 hi_2
      obtain rfl : i25 = (cM μ) := by omega
      have hs1 : eqX 8 (sI μ 0 0) (lpF (fX7_digest_L25 μ) ((31 * 4211) + ((μ.2 0 0).toInt64), sI μ 0 0) (cM μ)).2 := lpF_inv (f := fX7_digest_L25 μ) (a := ((31 * 4211) + ((μ.2 0 0).toInt64), sI μ 0 0)) (fun x => eqX 8 (sI μ 0 0) x.2) (eqX_refl 8 (sI μ 0 0)) (fun i x h => (by unfold fX7_digest_L25; exact eqX_trans h (dT_x8 _ _ _))) (cM μ)
      refine g_iload_n C dX7_digest_25 rfl 2 rfl ?_
      refine g_aload_n C dX7_digest_26 rfl 0 rfl ?_
      refine g_getf C (T := TX7) (N := 15) 0 0 rfl rfl rfl inX7 1 (by decide) q6_71 rfl dX7_digest_27 ?_
      refine g_iconst C (v := 0) dX7_digest_30 (by decide) ?_
      refine g_ialdn C 0 1 0 rfl rfl rfl (by decide) (by decide) dX7_digest_31 ?_
      refine g_icmp_ge C 48 dX7_digest_32 (by decide) (fun c_5 => ?_) (fun c_5 => ?_)
      · skip
        show G X 0 0 [wM E am (fX7_digest_S0 μ)] [(0, .ref (am 0)), (1, .long ((lpF (fX7_digest_L25 μ) ((31 * 4211) + ((μ.2 0 0).toInt64), sI μ 0 0) (cM μ)).1)), (3, .int (nI (cM μ)))] 48 []
        have hv_6 : vM (fX7_digest_S0 μ) := (vM_x8 hs1 (vM_i0 hv))
        have hx0 : eqX 8 (sI μ 0 0) (fX7_digest_S0 μ) := hs1
        show G X 0 0 [wM E am (fX7_digest_S0 μ)] [(0, .ref (am 0)), (1, .long (fX7_digest_V48 μ)), (3, .int (nI (cM μ)))] 48 []
        refine g_iconst C (v := 0) dX7_digest_48 (by decide) ?_
        refine g_istore_n C (lv1 := [(3, .int 0), (0, .ref (am 0)), (1, .long (fX7_digest_V48 μ))]) dX7_digest_49 rfl (by decide) rfl ?_
        have hL_9 : ∀ d_7 i50 : Nat, i50 + d_7 = 5 → G X 0 0 [wM E am (fX7_digest_S0 μ)] [(0, .ref (am 0)), (1, .long (lpF (fX7_digest_L50 μ) (fX7_digest_V48 μ) i50)), (3, .int (nI i50))] 50 [] := by
          intro d_7
          induction d_7 with
          | zero =>
            intro i50 hi_8
            obtain rfl : i50 = 5 := by omega
            refine g_iload_n C dX7_digest_50 rfl 2 rfl ?_
            refine g_iconst C (v := 5) dX7_digest_51 (by decide) ?_
            refine g_icmp_ge C 123 dX7_digest_52 (by decide) (fun c_11 => ?_) (fun c_11 => ?_)
            · skip
              show G X 0 0 [wM E am (fX7_digest_S0 μ)] [(0, .ref (am 0)), (1, .long (fX7_digest_V123 μ)), (3, .int (nI 5))] 123 []
              refine g_iconst C (v := 0) dX7_digest_123 (by decide) ?_
              refine g_istore_n C (lv1 := [(3, .int 0), (0, .ref (am 0)), (1, .long (fX7_digest_V123 μ))]) dX7_digest_124 rfl (by decide) rfl ?_
              have hL_14 : ∀ d_12 i125 : Nat, i125 + d_12 = 4 → G X 0 0 [wM E am (fX7_digest_S0 μ)] [(0, .ref (am 0)), (1, .long (lpF (fX7_digest_L125 μ) (fX7_digest_V123 μ) i125)), (3, .int (nI i125))] 125 [] := by
                intro d_12
                induction d_12 with
                | zero =>
                  intro i125 hi_13
                  obtain rfl : i125 = 4 := by omega
                  refine g_iload_n C dX7_digest_125 rfl 2 rfl ?_
                  refine g_iconst C (v := 4) dX7_digest_126 (by decide) ?_
                  refine g_icmp_ge C 218 dX7_digest_127 (by decide) (fun c_16 => ?_) (fun c_16 => ?_)
                  · skip
                    show G X 0 0 [wM E am (fX7_digest_S0 μ)] [(0, .ref (am 0)), (1, .long (fX7_digest_V218 μ)), (3, .int (nI 4))] 218 []
                    refine g_ldc2 C q8_168 dX7_digest_218 ?_
                    refine g_ldc2 C q8_168 dX7_digest_221 ?_
                    refine g_ldc2 C q8_168 dX7_digest_224 ?_
                    refine g_lload_n C dX7_digest_227 rfl 1 rfl ?_
                    refine g_lmul C dX7_digest_228 ?_
                    refine g_aload_n C dX7_digest_229 rfl 0 rfl ?_
                    refine g_callV C (cs1 := [wM E am (fX7_digest_S0 μ)]) (st1 := [.int (fX7_freest (fX7_digest_S0 μ)), .long (31 * (fX7_digest_V218 μ)), .long 31, .long 31]) [] [0] (kX7_freest l E am (fX7_digest_S0 μ) hv_6) caX7_freest q8_35 rfl ⟨Nat.le_of_ble_eq_true rfl, Nat.le_of_ble_eq_true rfl⟩ ⟨Nat.zero_le _, Nat.zero_le _⟩ 0 0 rfl rfl rfl rfl (by decide) rfl rfl rfl rfl (Nat.le_of_ble_eq_true rfl) dX7_digest_230 rfl ?_
                    refine g_i2l C dX7_digest_233 ?_
                    refine g_ladd C dX7_digest_234 ?_
                    refine g_lmul C dX7_digest_235 ?_
                    refine g_aload_n C dX7_digest_236 rfl 0 rfl ?_
                    refine g_callV C (cs1 := [wM E am ((fX7_critical (fX7_digest_S0 μ)).2)]) (st1 := [.int ((fX7_critical (fX7_digest_S0 μ)).1), .long (31 * ((31 * (fX7_digest_V218 μ)) + ((fX7_freest (fX7_digest_S0 μ)).toInt64))), .long 31]) [] [0] (kX7_critical l E am (fX7_digest_S0 μ) hv_6 (gA_x hx0 (by decide) ha)) caX7_critical q7_235 rfl ⟨Nat.le_of_ble_eq_true rfl, Nat.le_of_ble_eq_true rfl⟩ ⟨Nat.zero_le _, Nat.zero_le _⟩ 0 0 rfl rfl rfl rfl (by decide) rfl rfl rfl rfl (Nat.le_of_ble_eq_true rfl) dX7_digest_237 rfl ?_
                    refine g_i2l C dX7_digest_240 ?_
                    refine g_ladd C dX7_digest_241 ?_
                    refine g_lmul C dX7_digest_242 ?_
                    refine g_aload_n C dX7_digest_243 rfl 0 rfl ?_
                    refine g_callV C (cs1 := [wM E am ((fX7_critical ((fX7_critical (fX7_digest_S0 μ)).2)).2)]) (st1 := [.int ((fX7_critical ((fX7_critical (fX7_digest_S0 μ)).2)).1), .long (31 * ((31 * ((31 * (fX7_digest_V218 μ)) + ((fX7_freest (fX7_digest_S0 μ)).toInt64))) + (((fX7_critical (fX7_digest_S0 μ)).1).toInt64)))]) [] [0] (kX7_critical l E am ((fX7_critical (fX7_digest_S0 μ)).2) (vM_x8 (tells_x8 _ _) hv_6) (gA_x (eqX_trans hx0 (crit_x8 _)) (by decide) ha)) caX7_critical q7_235 rfl ⟨Nat.le_of_ble_eq_true rfl, Nat.le_of_ble_eq_true rfl⟩ ⟨Nat.zero_le _, Nat.zero_le _⟩ 0 0 rfl rfl rfl rfl (by decide) rfl rfl rfl rfl (Nat.le_of_ble_eq_true rfl) dX7_digest_244 rfl ?_
                    refine g_i2l C dX7_digest_247 ?_
                    refine g_ladd C dX7_digest_248 ?_
                    refine g_lstore_n C (lv1 := [(1, .long ((31 * ((31 * ((31 * (fX7_digest_V218 μ)) + ((fX7_freest (fX7_digest_S0 μ)).toInt64))) + (((fX7_critical (fX7_digest_S0 μ)).1).toInt64))) + (((fX7_critical ((fX7_critical (fX7_digest_S0 μ)).2)).1).toInt64))), (0, .ref (am 0)), (3, .int (nI 4))]) dX7_digest_249 rfl (by decide) rfl ?_
                    show G X 0 0 [wM E am (fX7_digest_S1 μ)] [(1, .long ((31 * ((31 * ((31 * (fX7_digest_V218 μ)) + ((fX7_freest (fX7_digest_S0 μ)).toInt64))) + (((fX7_critical (fX7_digest_S0 μ)).1).toInt64))) + (((fX7_critical ((fX7_critical (fX7_digest_S0 μ)).2)).1).toInt64))), (0, .ref (am 0)), (3, .int (nI 4))] 250 []
                    have hv_17 : vM (fX7_digest_S1 μ) := (vM_x8 (tells_x8 _ _) (vM_x8 (tells_x8 _ _) hv_6))
                    have hx1 : eqX 8 (sI μ 0 0) (fX7_digest_S1 μ) := eqX_trans (eqX_trans hx0 (crit_x8 _)) (crit_x8 _)
                    show G X 0 0 [wM E am (fX7_digest_S1 μ)] [(1, .long (fX7_digest_V250 μ)), (0, .ref (am 0)), (3, .int (nI 4))] 250 []
                    refine g_ldc2 C q8_168 dX7_digest_250 ?_
                    refine g_lload_n C dX7_digest_253 rfl 0 rfl ?_
                    refine g_lmul C dX7_digest_254 ?_
                    refine g_aload_n C dX7_digest_255 rfl 1 rfl ?_
                    refine g_callV C (cs1 := [wM E am (fX7_digest_S1 μ)]) (st1 := [.int (fX7_next (fX7_digest_S1 μ)), .long (31 * (fX7_digest_V250 μ))]) [] [0] (kX7_next l E am (fX7_digest_S1 μ) hv_17) caX7_next q8_91 rfl ⟨Nat.le_of_ble_eq_true rfl, Nat.le_of_ble_eq_true rfl⟩ ⟨Nat.zero_le _, Nat.zero_le _⟩ 0 0 rfl rfl rfl rfl (by decide) rfl rfl rfl rfl (Nat.le_of_ble_eq_true rfl) dX7_digest_256 rfl ?_
                    refine g_i2l C dX7_digest_259 ?_
                    refine g_ladd C dX7_digest_260 ?_
                    refine g_lconst C (v := 1) dX7_digest_261 (by decide) ?_
                    refine g_ladd C dX7_digest_262 ?_
                    refine g_lstore_n C (lv1 := [(1, .long (((31 * (fX7_digest_V250 μ)) + ((fX7_next (fX7_digest_S1 μ)).toInt64)) + 1)), (0, .ref (am 0)), (3, .int (nI 4))]) dX7_digest_263 rfl (by decide) rfl ?_
                    show G X 0 0 [wM E am (fX7_digest_S1 μ)] [(1, .long (fX7_digest_V264 μ)), (0, .ref (am 0)), (3, .int (nI 4))] 264 []
                    refine g_aload_n C dX7_digest_264 rfl 1 rfl ?_
                    refine g_callV C (cs1 := [wM E am ((fX7_tellsOrder (fX7_digest_S1 μ)).2)]) (st1 := [.int ((fX7_tellsOrder (fX7_digest_S1 μ)).1)]) [] [0] (kX7_tellsOrder l E am (fX7_digest_S1 μ) hv_17 ((gA_x hx1 (by decide) ha) _ rfl).2) caX7_tellsOrder q8_107 rfl ⟨Nat.le_of_ble_eq_true rfl, Nat.le_of_ble_eq_true rfl⟩ ⟨Nat.zero_le _, Nat.zero_le _⟩ 0 0 rfl rfl rfl rfl (by decide) rfl rfl rfl rfl (Nat.le_of_ble_eq_true rfl) dX7_digest_265 rfl ?_
                    refine g_istore_n C (lv1 := [(3, .int ((fX7_tellsOrder (fX7_digest_S1 μ)).1)), (1, .long (fX7_digest_V264 μ)), (0, .ref (am 0))]) dX7_digest_268 rfl (by decide) rfl ?_
                    show G X 0 0 [wM E am (fX7_digest_S2 μ)] [(3, .int ((fX7_tellsOrder (fX7_digest_S1 μ)).1)), (1, .long (fX7_digest_V264 μ)), (0, .ref (am 0))] 269 []
                    have hv_18 : vM (fX7_digest_S2 μ) := (vM_x7 (tells_x7 _) hv_17)
                    have hx2 : eqX 7 (fX7_digest_S1 μ) (fX7_digest_S2 μ) := tells_x7 _
                    refine g_iconst C (v := 0) dX7_digest_269 (by decide) ?_
                    refine g_istore C (lv1 := [(4, .int 0), (3, .int ((fX7_tellsOrder (fX7_digest_S1 μ)).1)), (1, .long (fX7_digest_V264 μ)), (0, .ref (am 0))]) dX7_digest_270 (by decide) rfl ?_
                    have hL_21 : ∀ d_19 i272 : Nat, i272 + d_19 = ((fX7_tellsOrder (fX7_digest_S1 μ)).1.toNatClampNeg) → G X 0 0 [wM E am (fX7_digest_S2 μ)] [(0, .ref (am 0)), (1, .long (lpF (fX7_digest_L272 μ) (fX7_digest_V264 μ) i272)), (3, .int ((fX7_tellsOrder (fX7_digest_S1 μ)).1)), (4, .int (nI i272))] 272 [] := by
                      intro d_19
                      induction d_19 with
                      | zero =>
                        intro i272 hi_20
                        obtain rfl : i272 = ((fX7_tellsOrder (fX7_digest_S1 μ)).1.toNatClampNeg) := by omega
                        have hfn := fillM_i (μ := fX7_digest_S1 μ)
                        refine g_iload C dX7_digest_272 3 rfl ?_
                        refine g_iload_n C dX7_digest_274 rfl 2 rfl ?_
                        refine g_icmp_ge C 299 dX7_digest_275 (by decide) (fun c_23 => ?_) (fun c_23 => ?_)
                        · skip
                          show G X 0 0 [wM E am (fX7_digest_S2 μ)] [(0, .ref (am 0)), (1, .long (fX7_digest_V299 μ)), (3, .int ((fX7_tellsOrder (fX7_digest_S1 μ)).1)), (4, .int (nI ((fX7_tellsOrder (fX7_digest_S1 μ)).1.toNatClampNeg)))] 299 []
                          refine g_ldc2 C q8_168 dX7_digest_299 ?_
                          refine g_ldc2 C q8_168 dX7_digest_302 ?_
                          refine g_ldc2 C q8_168 dX7_digest_305 ?_
                          refine g_lload_n C dX7_digest_308 rfl 1 rfl ?_
                          refine g_lmul C dX7_digest_309 ?_
                          refine g_aload_n C dX7_digest_310 rfl 0 rfl ?_
                          refine g_getf C (T := TX7) (N := 15) 0 0 rfl rfl rfl inX7 1 (by decide) q6_71 rfl dX7_digest_311 ?_
                          refine g_iconst C (v := 1) dX7_digest_314 (by decide) ?_
                          refine g_ialdn C 0 1 1 rfl rfl rfl (by decide) (by decide) dX7_digest_315 ?_
                          refine g_i2l C dX7_digest_316 ?_
                          refine g_ladd C dX7_digest_317 ?_
                          refine g_lmul C dX7_digest_318 ?_
                          refine g_aload_n C dX7_digest_319 rfl 0 rfl ?_
                          refine g_callV C (cs1 := [wM E am (fX7_digest_S2 μ)]) (st1 := [.int (fX7_blockedMany (fX7_digest_S2 μ)), .long (31 * ((31 * (fX7_digest_V299 μ)) + (((fX7_digest_S2 μ).2 0 1).toInt64))), .long 31]) [] [0] (kX7_blockedMany l E am (fX7_digest_S2 μ) hv_18) caX7_blockedMany q8_135 rfl ⟨Nat.le_of_ble_eq_true rfl, Nat.le_of_ble_eq_true rfl⟩ ⟨Nat.zero_le _, Nat.zero_le _⟩ 0 0 rfl rfl rfl rfl (by decide) rfl rfl rfl rfl (Nat.le_of_ble_eq_true rfl) dX7_digest_320 rfl ?_
                          refine g_i2l C dX7_digest_323 ?_
                          refine g_ladd C dX7_digest_324 ?_
                          refine g_lmul C dX7_digest_325 ?_
                          refine g_aload_n C dX7_digest_326 rfl 0 rfl ?_
                          refine g_getf C (T := TX7) (N := 15) 0 0 rfl rfl rfl inX7 1 (by decide) q6_71 rfl dX7_digest_327 ?_
                          refine g_iconst C (v := 2) dX7_digest_330 (by decide) ?_
                          refine g_ialdn C 0 1 2 rfl rfl rfl (by decide) (by decide) dX7_digest_331 ?_
                          refine g_i2l C dX7_digest_332 ?_
                          refine g_ladd C dX7_digest_333 ?_
                          refine g_lstore_n C (lv1 := [(1, .long ((31 * ((31 * ((31 * (fX7_digest_V299 μ)) + (((fX7_digest_S2 μ).2 0 1).toInt64))) + ((fX7_blockedMany (fX7_digest_S2 μ)).toInt64))) + (((fX7_digest_S2 μ).2 0 2).toInt64))), (0, .ref (am 0)), (3, .int ((fX7_tellsOrder (fX7_digest_S1 μ)).1)), (4, .int (nI ((fX7_tellsOrder (fX7_digest_S1 μ)).1.toNatClampNeg)))]) dX7_digest_334 rfl (by decide) rfl ?_
                          show G X 0 0 [wM E am (fX7_digest_S2 μ)] [(1, .long (fX7_digest_V335 μ)), (0, .ref (am 0)), (3, .int ((fX7_tellsOrder (fX7_digest_S1 μ)).1)), (4, .int (nI ((fX7_tellsOrder (fX7_digest_S1 μ)).1.toNatClampNeg)))] 335 []
                          refine g_ldc2 C q8_168 dX7_digest_335 ?_
                          refine g_ldc2 C q8_168 dX7_digest_338 ?_
                          refine g_ldc2 C q8_168 dX7_digest_341 ?_
                          refine g_lload_n C dX7_digest_344 rfl 0 rfl ?_
                          refine g_lmul C dX7_digest_345 ?_
                          refine g_aload_n C dX7_digest_346 rfl 1 rfl ?_
                          refine g_getf C (T := TX7) (N := 15) 0 0 rfl rfl rfl inX7 1 (by decide) q6_71 rfl dX7_digest_347 ?_
                          refine g_iconst C (v := 3) dX7_digest_350 (by decide) ?_
                          refine g_ialdn C 0 1 3 rfl rfl rfl (by decide) (by decide) dX7_digest_351 ?_
                          refine g_i2l C dX7_digest_352 ?_
                          refine g_ladd C dX7_digest_353 ?_
                          refine g_lmul C dX7_digest_354 ?_
                          refine g_aload_n C dX7_digest_355 rfl 1 rfl ?_
                          refine g_callV C (cs1 := [wM E am (fX7_digest_S2 μ)]) (st1 := [.int (fX7_week (fX7_digest_S2 μ)), .long (31 * ((31 * (fX7_digest_V335 μ)) + (((fX7_digest_S2 μ).2 0 3).toInt64))), .long 31]) [] [0] (kX7_week l E am (fX7_digest_S2 μ) hv_18) caX7_week q8_151 rfl ⟨Nat.le_of_ble_eq_true rfl, Nat.le_of_ble_eq_true rfl⟩ ⟨Nat.zero_le _, Nat.zero_le _⟩ 0 0 rfl rfl rfl rfl (by decide) rfl rfl rfl rfl (Nat.le_of_ble_eq_true rfl) dX7_digest_356 rfl ?_
                          refine g_i2l C dX7_digest_359 ?_
                          refine g_ladd C dX7_digest_360 ?_
                          refine g_lmul C dX7_digest_361 ?_
                          refine g_aload_n C dX7_digest_362 rfl 1 rfl ?_
                          refine g_getf C (v := .int ((fX7_digest_S2 μ).1 1)) (T := TX7) (N := 15) 0 0 rfl rfl rfl inX7 4 (by decide) q6_74 rfl dX7_digest_363 ?_
                          refine g_i2l C dX7_digest_366 ?_
                          refine g_ladd C dX7_digest_367 ?_
                          refine g_lstore_n C (lv1 := [(1, .long ((31 * ((31 * ((31 * (fX7_digest_V335 μ)) + (((fX7_digest_S2 μ).2 0 3).toInt64))) + ((fX7_week (fX7_digest_S2 μ)).toInt64))) + (((fX7_digest_S2 μ).1 1).toInt64))), (0, .ref (am 0)), (3, .int ((fX7_tellsOrder (fX7_digest_S1 μ)).1)), (4, .int (nI ((fX7_tellsOrder (fX7_digest_S1 μ)).1.toNatClampNeg)))]) dX7_digest_368 rfl (by decide) rfl ?_
                          show G X 0 0 [wM E am (fX7_digest_S2 μ)] [(1, .long (fX7_digest_V369 μ)), (0, .ref (am 0)), (3, .int ((fX7_tellsOrder (fX7_digest_S1 μ)).1)), (4, .int (nI ((fX7_tellsOrder (fX7_digest_S1 μ)).1.toNatClampNeg)))] 369 []
                          refine g_ldc2 C q8_168 dX7_digest_369 ?_
                          refine g_lload_n C dX7_digest_372 rfl 0 rfl ?_
                          refine g_lmul C dX7_digest_373 ?_
                          refine g_aload_n C dX7_digest_374 rfl 1 rfl ?_
                          refine g_callV C (cs1 := [wM E am (fX7_digest_S2 μ)]) (st1 := [.double (fX7_mean (fX7_digest_S2 μ)), .long (31 * (fX7_digest_V369 μ))]) [] [0] (kX7_mean l E am (fX7_digest_S2 μ) hv_18 hnn) caX7_mean q8_159 rfl ⟨Nat.le_of_ble_eq_true rfl, Nat.le_of_ble_eq_true rfl⟩ ⟨Nat.zero_le _, Nat.zero_le _⟩ 0 0 rfl rfl rfl rfl (by decide) rfl rfl rfl rfl (Nat.le_of_ble_eq_true rfl) dX7_digest_375 rfl ?_
                          refine g_callS C (cs1 := [wM E am (fX7_digest_S2 μ)]) (st1 := [.long (fJxe99ae_doubleToLongBits_ccdee (fX7_mean (fX7_digest_S2 μ))), .long (31 * (fX7_digest_V369 μ))]) [.double (fX7_mean (fX7_digest_S2 μ))] [] (kJxe99ae_doubleToLongBits_ccdee l E (fX7_mean (fX7_digest_S2 μ))) caJxe99ae_doubleToLongBits_ccdee q8_173 rfl ⟨Nat.le_of_ble_eq_true rfl, Nat.le_of_ble_eq_true rfl⟩ ⟨Nat.zero_le _, Nat.zero_le _⟩ (by decide) rfl rfl rfl rfl (Nat.le_of_ble_eq_true rfl) dX7_digest_378 rfl ?_
                          refine g_ladd C dX7_digest_381 ?_
                          refine g_lstore_n C (lv1 := [(1, .long ((31 * (fX7_digest_V369 μ)) + (fJxe99ae_doubleToLongBits_ccdee (fX7_mean (fX7_digest_S2 μ))))), (0, .ref (am 0)), (3, .int ((fX7_tellsOrder (fX7_digest_S1 μ)).1)), (4, .int (nI ((fX7_tellsOrder (fX7_digest_S1 μ)).1.toNatClampNeg)))]) dX7_digest_382 rfl (by decide) rfl ?_
                          show G X 0 0 [wM E am (fX7_digest_S2 μ)] [(1, .long (fX7_digest_V383 μ)), (0, .ref (am 0)), (3, .int ((fX7_tellsOrder (fX7_digest_S1 μ)).1)), (4, .int (nI ((fX7_tellsOrder (fX7_digest_S1 μ)).1.toNatClampNeg)))] 383 []
                          refine g_ldc2 C q8_168 dX7_digest_383 ?_
                          refine g_ldc2 C q8_168 dX7_digest_386 ?_
                          refine g_lload_n C dX7_digest_389 rfl 0 rfl ?_
                          refine g_lmul C dX7_digest_390 ?_
                          refine g_aload_n C dX7_digest_391 rfl 1 rfl ?_
                          refine g_getf C (T := TX7) (N := 15) 0 0 rfl rfl rfl inX7 6 (by decide) q6_76 rfl dX7_digest_392 ?_
                          refine g_iconst C (v := 0) dX7_digest_395 (by decide) ?_
                          refine g_zaldn C 0 5 0 rfl rfl rfl (by decide) (by decide) dX7_digest_396 ?_
                          refine g_if_eq C 404 dX7_digest_397 (by decide) (fun c_24 => ?_) (fun c_24 => ?_)
                          · skip
                            refine g_iconst C (v := 0) dX7_digest_404 (by decide) ?_
                            refine g_i2l C dX7_digest_405 ?_
                            refine g_ladd C dX7_digest_406 ?_
                            refine g_lmul C dX7_digest_407 ?_
                            refine g_aload_n C dX7_digest_408 rfl 1 rfl ?_
                            refine g_getf C (T := TX7) (N := 15) 0 0 rfl rfl rfl inX7 6 (by decide) q6_76 rfl dX7_digest_409 ?_
                            refine g_iconst C (v := 1) dX7_digest_412 (by decide) ?_
                            refine g_zaldn C 0 5 1 rfl rfl rfl (by decide) (by decide) dX7_digest_413 ?_
                            refine g_if_eq C 421 dX7_digest_414 (by decide) (fun c_25 => ?_) (fun c_25 => ?_)
                            · skip
                              refine g_iconst C (v := 0) dX7_digest_421 (by decide) ?_
                              refine g_i2l C dX7_digest_422 ?_
                              refine g_ladd C dX7_digest_423 ?_
                              refine g_lstore_n C (lv1 := [(1, .long ((31 * ((31 * (fX7_digest_V383 μ)) + ((0 : Int32).toInt64))) + ((0 : Int32).toInt64))), (0, .ref (am 0)), (3, .int ((fX7_tellsOrder (fX7_digest_S1 μ)).1)), (4, .int (nI ((fX7_tellsOrder (fX7_digest_S1 μ)).1.toNatClampNeg)))]) dX7_digest_424 rfl (by decide) rfl ?_
                              refine g_ldc2 C q8_168 dX7_digest_425 ?_
                              refine g_lload_n C dX7_digest_428 rfl 0 rfl ?_
                              refine g_lmul C dX7_digest_429 ?_
                              refine g_aload_n C dX7_digest_430 rfl 1 rfl ?_
                              refine g_getf C (v := .int ((fX7_digest_S2 μ).1 2)) (T := TX7) (N := 15) 0 0 rfl rfl rfl inX7 8 (by decide) q6_78 rfl dX7_digest_431 ?_
                              refine g_i2l C dX7_digest_434 ?_
                              refine g_ladd C dX7_digest_435 ?_
                              refine g_lstore_n C (lv1 := [(1, .long ((31 * ((31 * ((31 * (fX7_digest_V383 μ)) + ((0 : Int32).toInt64))) + ((0 : Int32).toInt64))) + (((fX7_digest_S2 μ).1 2).toInt64))), (0, .ref (am 0)), (3, .int ((fX7_tellsOrder (fX7_digest_S1 μ)).1)), (4, .int (nI ((fX7_tellsOrder (fX7_digest_S1 μ)).1.toNatClampNeg)))]) dX7_digest_436 rfl (by decide) rfl ?_
                              refine g_iconst C (v := 0) dX7_digest_437 (by decide) ?_
                              refine g_istore C (lv1 := [(4, .int 0), (1, .long ((31 * ((31 * ((31 * (fX7_digest_V383 μ)) + ((0 : Int32).toInt64))) + ((0 : Int32).toInt64))) + (((fX7_digest_S2 μ).1 2).toInt64))), (0, .ref (am 0)), (3, .int ((fX7_tellsOrder (fX7_digest_S1 μ)).1))]) dX7_digest_438 (by decide) rfl ?_
                              have hL_28 : ∀ d_26 i440 : Nat, i440 + d_26 = (tl μ) → G X 0 0 [wM E am (fX7_digest_S2 μ)] [(0, .ref (am 0)), (1, .long (lpF (fX7_digest_L440 μ) ((31 * ((31 * ((31 * (fX7_digest_V383 μ)) + ((0 : Int32).toInt64))) + ((0 : Int32).toInt64))) + (((fX7_digest_S2 μ).1 2).toInt64)) i440)), (3, .int ((fX7_tellsOrder (fX7_digest_S1 μ)).1)), (4, .int (nI i440))] 440 [] := by
                                intro d_26
                                induction d_26 with
                                | zero =>
                                  intro i440 hi_27
                                  obtain rfl : i440 = (tl μ) := by omega
                                  refine g_iload C dX7_digest_440 3 rfl ?_
                                  refine g_aload_n C dX7_digest_442 rfl 0 rfl ?_
                                  refine g_getf C (v := .int ((fX7_digest_S2 μ).1 2)) (T := TX7) (N := 15) 0 0 rfl rfl rfl inX7 8 (by decide) q6_78 rfl dX7_digest_443 ?_
                                  refine g_icmp_ge C 470 dX7_digest_446 (by decide) (fun c_30 => ?_) (fun c_30 => ?_)
                                  · skip
                                    refine g_lload_n C dX7_digest_470 rfl 1 rfl ?_
                                    have e_31 : fX7_digest μ = ((lpF (fX7_digest_L440 μ) ((31 * ((31 * ((31 * (fX7_digest_V383 μ)) + ((0 : Int32).toInt64))) + ((0 : Int32).toInt64))) + (((fX7_digest_S2 μ).1 2).toInt64)) (tl μ)), fX7_digest_S2 μ) := by rw [fX7_digest]; rw [if_pos c_24, if_pos c_25]
                                    exact g_lret C hE (by rw [e_31]) (by rw [e_31]) dX7_digest_471
                                  · exact absurd (lc_le rfl (by rw [hx2.1, hx1.1]; exact hl2) (by omega) (by omega)) c_30
                                | succ d_26 ih_29 =>
                                  intro i440 hi_27
                                  refine g_iload C dX7_digest_440 3 rfl ?_
                                  refine g_aload_n C dX7_digest_442 rfl 0 rfl ?_
                                  refine g_getf C (v := .int ((fX7_digest_S2 μ).1 2)) (T := TX7) (N := 15) 0 0 rfl rfl rfl inX7 8 (by decide) q6_78 rfl dX7_digest_443 ?_
                                  refine g_icmp_ge C 470 dX7_digest_446 (by decide) (fun c_32 => ?_) (fun c_32 => ?_)
                                  · exact absurd c_32 (lc_nle rfl (by rw [hx2.1, hx1.1]; exact hl2) (by omega) (by omega))
                                  · skip
                                    refine g_ldc2 C q8_168 dX7_digest_449 ?_
                                    refine g_lload_n C dX7_digest_452 rfl 1 rfl ?_
                                    refine g_lmul C dX7_digest_453 ?_
                                    refine g_aload_n C dX7_digest_454 rfl 0 rfl ?_
                                    refine g_getf C (T := TX7) (N := 15) 0 0 rfl rfl rfl inX7 7 (by decide) q6_77 rfl dX7_digest_455 ?_
                                    refine g_iload C dX7_digest_458 3 rfl ?_
                                    refine g_ialdn C 0 6 i440 rfl rfl rfl (by omega) (by decide) dX7_digest_460 ?_
                                    refine g_i2l C dX7_digest_461 ?_
                                    refine g_ladd C dX7_digest_462 ?_
                                    refine g_lstore_n C (lv1 := [(1, .long ((31 * (lpF (fX7_digest_L440 μ) ((31 * ((31 * ((31 * (fX7_digest_V383 μ)) + ((0 : Int32).toInt64))) + ((0 : Int32).toInt64))) + (((fX7_digest_S2 μ).1 2).toInt64)) i440)) + (((fX7_digest_S2 μ).2 5 i440).toInt64))), (0, .ref (am 0)), (3, .int ((fX7_tellsOrder (fX7_digest_S1 μ)).1)), (4, .int (nI i440))]) dX7_digest_463 rfl (by decide) rfl ?_
                                    refine g_iinc C (v := nI (i440 + 1)) (lv1 := [(4, .int (nI (i440 + 1))), (1, .long ((31 * (lpF (fX7_digest_L440 μ) ((31 * ((31 * ((31 * (fX7_digest_V383 μ)) + ((0 : Int32).toInt64))) + ((0 : Int32).toInt64))) + (((fX7_digest_S2 μ).1 2).toInt64)) i440)) + (((fX7_digest_S2 μ).2 5 i440).toInt64))), (0, .ref (am 0)), (3, .int ((fX7_tellsOrder (fX7_digest_S1 μ)).1))]) dX7_digest_464 3 rfl (nI_1 i440) (by decide) rfl ?_
                                    refine g_goto C 440 dX7_digest_467 (by decide) ?_
                                    have e_33 : (lpF (fX7_digest_L440 μ) ((31 * ((31 * ((31 * (fX7_digest_V383 μ)) + ((0 : Int32).toInt64))) + ((0 : Int32).toInt64))) + (((fX7_digest_S2 μ).1 2).toInt64)) (i440 + 1)) = (31 * (lpF (fX7_digest_L440 μ) ((31 * ((31 * ((31 * (fX7_digest_V383 μ)) + ((0 : Int32).toInt64))) + ((0 : Int32).toInt64))) + (((fX7_digest_S2 μ).1 2).toInt64)) i440)) + (((fX7_digest_S2 μ).2 5 i440).toInt64) := by
                                      rw [lpF_1, fX7_digest_L440]
                                    have h_34 := ih_29 (i440 + 1) (by omega)
                                    rw [e_33] at h_34
                                    exact g_sub [2, 1, 3, 0] rfl h_34
                              refine g_sub [2, 1, 3, 0] (lv1 := [(0, .ref (am 0)), (1, .long ((31 * ((31 * ((31 * (fX7_digest_V383 μ)) + ((0 : Int32).toInt64))) + ((0 : Int32).toInt64))) + (((fX7_digest_S2 μ).1 2).toInt64))), (3, .int ((fX7_tellsOrder (fX7_digest_S1 μ)).1)), (4, .int 0)]) rfl ?_
                              exact hL_28 (tl μ) 0 (by omega)
                            · skip
                              refine g_iconst C (v := 1) dX7_digest_417 (by decide) ?_
                              refine g_goto C 422 dX7_digest_418 (by decide) ?_
                              refine g_i2l C dX7_digest_422 ?_
                              refine g_ladd C dX7_digest_423 ?_
                              refine g_lstore_n C (lv1 := [(1, .long ((31 * ((31 * (fX7_digest_V383 μ)) + ((0 : Int32).toInt64))) + ((1 : Int32).toInt64))), (0, .ref (am 0)), (3, .int ((fX7_tellsOrder (fX7_digest_S1 μ)).1)), (4, .int (nI ((fX7_tellsOrder (fX7_digest_S1 μ)).1.toNatClampNeg)))]) dX7_digest_424 rfl (by decide) rfl ?_
                              refine g_ldc2 C q8_168 dX7_digest_425 ?_
                              refine g_lload_n C dX7_digest_428 rfl 0 rfl ?_
                              refine g_lmul C dX7_digest_429 ?_
                              refine g_aload_n C dX7_digest_430 rfl 1 rfl ?_
                              refine g_getf C (v := .int ((fX7_digest_S2 μ).1 2)) (T := TX7) (N := 15) 0 0 rfl rfl rfl inX7 8 (by decide) q6_78 rfl dX7_digest_431 ?_
                              refine g_i2l C dX7_digest_434 ?_
                              refine g_ladd C dX7_digest_435 ?_
                              refine g_lstore_n C (lv1 := [(1, .long ((31 * ((31 * ((31 * (fX7_digest_V383 μ)) + ((0 : Int32).toInt64))) + ((1 : Int32).toInt64))) + (((fX7_digest_S2 μ).1 2).toInt64))), (0, .ref (am 0)), (3, .int ((fX7_tellsOrder (fX7_digest_S1 μ)).1)), (4, .int (nI ((fX7_tellsOrder (fX7_digest_S1 μ)).1.toNatClampNeg)))]) dX7_digest_436 rfl (by decide) rfl ?_
                              refine g_iconst C (v := 0) dX7_digest_437 (by decide) ?_
                              refine g_istore C (lv1 := [(4, .int 0), (1, .long ((31 * ((31 * ((31 * (fX7_digest_V383 μ)) + ((0 : Int32).toInt64))) + ((1 : Int32).toInt64))) + (((fX7_digest_S2 μ).1 2).toInt64))), (0, .ref (am 0)), (3, .int ((fX7_tellsOrder (fX7_digest_S1 μ)).1))]) dX7_digest_438 (by decide) rfl ?_
                              have hL_37 : ∀ d_35 i440 : Nat, i440 + d_35 = (tl μ) → G X 0 0 [wM E am (fX7_digest_S2 μ)] [(0, .ref (am 0)), (1, .long (lpF (fX7_digest_L440 μ) ((31 * ((31 * ((31 * (fX7_digest_V383 μ)) + ((0 : Int32).toInt64))) + ((1 : Int32).toInt64))) + (((fX7_digest_S2 μ).1 2).toInt64)) i440)), (3, .int ((fX7_tellsOrder (fX7_digest_S1 μ)).1)), (4, .int (nI i440))] 440 [] := by
                                intro d_35
                                induction d_35 with
                                | zero =>
                                  intro i440 hi_36
                                  obtain rfl : i440 = (tl μ) := by omega
                                  refine g_iload C dX7_digest_440 3 rfl ?_
                                  refine g_aload_n C dX7_digest_442 rfl 0 rfl ?_
                                  refine g_getf C (v := .int ((fX7_digest_S2 μ).1 2)) (T := TX7) (N := 15) 0 0 rfl rfl rfl inX7 8 (by decide) q6_78 rfl dX7_digest_443 ?_
                                  refine g_icmp_ge C 470 dX7_digest_446 (by decide) (fun c_39 => ?_) (fun c_39 => ?_)
                                  · skip
                                    refine g_lload_n C dX7_digest_470 rfl 1 rfl ?_
                                    have e_40 : fX7_digest μ = ((lpF (fX7_digest_L440 μ) ((31 * ((31 * ((31 * (fX7_digest_V383 μ)) + ((0 : Int32).toInt64))) + ((1 : Int32).toInt64))) + (((fX7_digest_S2 μ).1 2).toInt64)) (tl μ)), fX7_digest_S2 μ) := by rw [fX7_digest]; rw [if_pos c_24, if_neg c_25]
                                    exact g_lret C hE (by rw [e_40]) (by rw [e_40]) dX7_digest_471
                                  · exact absurd (lc_le rfl (by rw [hx2.1, hx1.1]; exact hl2) (by omega) (by omega)) c_39
                                | succ d_35 ih_38 =>
                                  intro i440 hi_36
                                  refine g_iload C dX7_digest_440 3 rfl ?_
                                  refine g_aload_n C dX7_digest_442 rfl 0 rfl ?_
                                  refine g_getf C (v := .int ((fX7_digest_S2 μ).1 2)) (T := TX7) (N := 15) 0 0 rfl rfl rfl inX7 8 (by decide) q6_78 rfl dX7_digest_443 ?_
                                  refine g_icmp_ge C 470 dX7_digest_446 (by decide) (fun c_41 => ?_) (fun c_41 => ?_)
                                  · exact absurd c_41 (lc_nle rfl (by rw [hx2.1, hx1.1]; exact hl2) (by omega) (by omega))
                                  · skip
                                    refine g_ldc2 C q8_168 dX7_digest_449 ?_
                                    refine g_lload_n C dX7_digest_452 rfl 1 rfl ?_
                                    refine g_lmul C dX7_digest_453 ?_
                                    refine g_aload_n C dX7_digest_454 rfl 0 rfl ?_
                                    refine g_getf C (T := TX7) (N := 15) 0 0 rfl rfl rfl inX7 7 (by decide) q6_77 rfl dX7_digest_455 ?_
                                    refine g_iload C dX7_digest_458 3 rfl ?_
                                    refine g_ialdn C 0 6 i440 rfl rfl rfl (by omega) (by decide) dX7_digest_460 ?_
                                    refine g_i2l C dX7_digest_461 ?_
                                    refine g_ladd C dX7_digest_462 ?_
                                    refine g_lstore_n C (lv1 := [(1, .long ((31 * (lpF (fX7_digest_L440 μ) ((31 * ((31 * ((31 * (fX7_digest_V383 μ)) + ((0 : Int32).toInt64))) + ((1 : Int32).toInt64))) + (((fX7_digest_S2 μ).1 2).toInt64)) i440)) + (((fX7_digest_S2 μ).2 5 i440).toInt64))), (0, .ref (am 0)), (3, .int ((fX7_tellsOrder (fX7_digest_S1 μ)).1)), (4, .int (nI i440))]) dX7_digest_463 rfl (by decide) rfl ?_
                                    refine g_iinc C (v := nI (i440 + 1)) (lv1 := [(4, .int (nI (i440 + 1))), (1, .long ((31 * (lpF (fX7_digest_L440 μ) ((31 * ((31 * ((31 * (fX7_digest_V383 μ)) + ((0 : Int32).toInt64))) + ((1 : Int32).toInt64))) + (((fX7_digest_S2 μ).1 2).toInt64)) i440)) + (((fX7_digest_S2 μ).2 5 i440).toInt64))), (0, .ref (am 0)), (3, .int ((fX7_tellsOrder (fX7_digest_S1 μ)).1))]) dX7_digest_464 3 rfl (nI_1 i440) (by decide) rfl ?_
                                    refine g_goto C 440 dX7_digest_467 (by decide) ?_
                                    have e_42 : (lpF (fX7_digest_L440 μ) ((31 * ((31 * ((31 * (fX7_digest_V383 μ)) + ((0 : Int32).toInt64))) + ((1 : Int32).toInt64))) + (((fX7_digest_S2 μ).1 2).toInt64)) (i440 + 1)) = (31 * (lpF (fX7_digest_L440 μ) ((31 * ((31 * ((31 * (fX7_digest_V383 μ)) + ((0 : Int32).toInt64))) + ((1 : Int32).toInt64))) + (((fX7_digest_S2 μ).1 2).toInt64)) i440)) + (((fX7_digest_S2 μ).2 5 i440).toInt64) := by
                                      rw [lpF_1, fX7_digest_L440]
                                    have h_43 := ih_38 (i440 + 1) (by omega)
                                    rw [e_42] at h_43
                                    exact g_sub [2, 1, 3, 0] rfl h_43
                              refine g_sub [2, 1, 3, 0] (lv1 := [(0, .ref (am 0)), (1, .long ((31 * ((31 * ((31 * (fX7_digest_V383 μ)) + ((0 : Int32).toInt64))) + ((1 : Int32).toInt64))) + (((fX7_digest_S2 μ).1 2).toInt64))), (3, .int ((fX7_tellsOrder (fX7_digest_S1 μ)).1)), (4, .int 0)]) rfl ?_
                              exact hL_37 (tl μ) 0 (by omega)
                          · skip
                            refine g_iconst C (v := 1) dX7_digest_400 (by decide) ?_
                            refine g_goto C 405 dX7_digest_401 (by decide) ?_
                            refine g_i2l C dX7_digest_405 ?_
                            refine g_ladd C dX7_digest_406 ?_
                            refine g_lmul C dX7_digest_407 ?_
                            refine g_aload_n C dX7_digest_408 rfl 1 rfl ?_
                            refine g_getf C (T := TX7) (N := 15) 0 0 rfl rfl rfl inX7 6 (by decide) q6_76 rfl dX7_digest_409 ?_
                            refine g_iconst C (v := 1) dX7_digest_412 (by decide) ?_
                            refine g_zaldn C 0 5 1 rfl rfl rfl (by decide) (by decide) dX7_digest_413 ?_
                            refine g_if_eq C 421 dX7_digest_414 (by decide) (fun c_44 => ?_) (fun c_44 => ?_)
                            · skip
                              refine g_iconst C (v := 0) dX7_digest_421 (by decide) ?_
                              refine g_i2l C dX7_digest_422 ?_
                              refine g_ladd C dX7_digest_423 ?_
                              refine g_lstore_n C (lv1 := [(1, .long ((31 * ((31 * (fX7_digest_V383 μ)) + ((1 : Int32).toInt64))) + ((0 : Int32).toInt64))), (0, .ref (am 0)), (3, .int ((fX7_tellsOrder (fX7_digest_S1 μ)).1)), (4, .int (nI ((fX7_tellsOrder (fX7_digest_S1 μ)).1.toNatClampNeg)))]) dX7_digest_424 rfl (by decide) rfl ?_
                              refine g_ldc2 C q8_168 dX7_digest_425 ?_
                              refine g_lload_n C dX7_digest_428 rfl 0 rfl ?_
                              refine g_lmul C dX7_digest_429 ?_
                              refine g_aload_n C dX7_digest_430 rfl 1 rfl ?_
                              refine g_getf C (v := .int ((fX7_digest_S2 μ).1 2)) (T := TX7) (N := 15) 0 0 rfl rfl rfl inX7 8 (by decide) q6_78 rfl dX7_digest_431 ?_
                              refine g_i2l C dX7_digest_434 ?_
                              refine g_ladd C dX7_digest_435 ?_
                              refine g_lstore_n C (lv1 := [(1, .long ((31 * ((31 * ((31 * (fX7_digest_V383 μ)) + ((1 : Int32).toInt64))) + ((0 : Int32).toInt64))) + (((fX7_digest_S2 μ).1 2).toInt64))), (0, .ref (am 0)), (3, .int ((fX7_tellsOrder (fX7_digest_S1 μ)).1)), (4, .int (nI ((fX7_tellsOrder (fX7_digest_S1 μ)).1.toNatClampNeg)))]) dX7_digest_436 rfl (by decide) rfl ?_
                              refine g_iconst C (v := 0) dX7_digest_437 (by decide) ?_
                              refine g_istore C (lv1 := [(4, .int 0), (1, .long ((31 * ((31 * ((31 * (fX7_digest_V383 μ)) + ((1 : Int32).toInt64))) + ((0 : Int32).toInt64))) + (((fX7_digest_S2 μ).1 2).toInt64))), (0, .ref (am 0)), (3, .int ((fX7_tellsOrder (fX7_digest_S1 μ)).1))]) dX7_digest_438 (by decide) rfl ?_
                              have hL_47 : ∀ d_45 i440 : Nat, i440 + d_45 = (tl μ) → G X 0 0 [wM E am (fX7_digest_S2 μ)] [(0, .ref (am 0)), (1, .long (lpF (fX7_digest_L440 μ) ((31 * ((31 * ((31 * (fX7_digest_V383 μ)) + ((1 : Int32).toInt64))) + ((0 : Int32).toInt64))) + (((fX7_digest_S2 μ).1 2).toInt64)) i440)), (3, .int ((fX7_tellsOrder (fX7_digest_S1 μ)).1)), (4, .int (nI i440))] 440 [] := by
                                intro d_45
                                induction d_45 with
                                | zero =>
                                  intro i440 hi_46
                                  obtain rfl : i440 = (tl μ) := by omega
                                  refine g_iload C dX7_digest_440 3 rfl ?_
                                  refine g_aload_n C dX7_digest_442 rfl 0 rfl ?_
                                  refine g_getf C (v := .int ((fX7_digest_S2 μ).1 2)) (T := TX7) (N := 15) 0 0 rfl rfl rfl inX7 8 (by decide) q6_78 rfl dX7_digest_443 ?_
                                  refine g_icmp_ge C 470 dX7_digest_446 (by decide) (fun c_49 => ?_) (fun c_49 => ?_)
                                  · skip
                                    refine g_lload_n C dX7_digest_470 rfl 1 rfl ?_
                                    have e_50 : fX7_digest μ = ((lpF (fX7_digest_L440 μ) ((31 * ((31 * ((31 * (fX7_digest_V383 μ)) + ((1 : Int32).toInt64))) + ((0 : Int32).toInt64))) + (((fX7_digest_S2 μ).1 2).toInt64)) (tl μ)), fX7_digest_S2 μ) := by rw [fX7_digest]; rw [if_neg c_24, if_pos c_44]
                                    exact g_lret C hE (by rw [e_50]) (by rw [e_50]) dX7_digest_471
                                  · exact absurd (lc_le rfl (by rw [hx2.1, hx1.1]; exact hl2) (by omega) (by omega)) c_49
                                | succ d_45 ih_48 =>
                                  intro i440 hi_46
                                  refine g_iload C dX7_digest_440 3 rfl ?_
                                  refine g_aload_n C dX7_digest_442 rfl 0 rfl ?_
                                  refine g_getf C (v := .int ((fX7_digest_S2 μ).1 2)) (T := TX7) (N := 15) 0 0 rfl rfl rfl inX7 8 (by decide) q6_78 rfl dX7_digest_443 ?_
                                  refine g_icmp_ge C 470 dX7_digest_446 (by decide) (fun c_51 => ?_) (fun c_51 => ?_)
                                  · exact absurd c_51 (lc_nle rfl (by rw [hx2.1, hx1.1]; exact hl2) (by omega) (by omega))
                                  · skip
                                    refine g_ldc2 C q8_168 dX7_digest_449 ?_
                                    refine g_lload_n C dX7_digest_452 rfl 1 rfl ?_
                                    refine g_lmul C dX7_digest_453 ?_
                                    refine g_aload_n C dX7_digest_454 rfl 0 rfl ?_
                                    refine g_getf C (T := TX7) (N := 15) 0 0 rfl rfl rfl inX7 7 (by decide) q6_77 rfl dX7_digest_455 ?_
                                    refine g_iload C dX7_digest_458 3 rfl ?_
                                    refine g_ialdn C 0 6 i440 rfl rfl rfl (by omega) (by decide) dX7_digest_460 ?_
                                    refine g_i2l C dX7_digest_461 ?_
                                    refine g_ladd C dX7_digest_462 ?_
                                    refine g_lstore_n C (lv1 := [(1, .long ((31 * (lpF (fX7_digest_L440 μ) ((31 * ((31 * ((31 * (fX7_digest_V383 μ)) + ((1 : Int32).toInt64))) + ((0 : Int32).toInt64))) + (((fX7_digest_S2 μ).1 2).toInt64)) i440)) + (((fX7_digest_S2 μ).2 5 i440).toInt64))), (0, .ref (am 0)), (3, .int ((fX7_tellsOrder (fX7_digest_S1 μ)).1)), (4, .int (nI i440))]) dX7_digest_463 rfl (by decide) rfl ?_
                                    refine g_iinc C (v := nI (i440 + 1)) (lv1 := [(4, .int (nI (i440 + 1))), (1, .long ((31 * (lpF (fX7_digest_L440 μ) ((31 * ((31 * ((31 * (fX7_digest_V383 μ)) + ((1 : Int32).toInt64))) + ((0 : Int32).toInt64))) + (((fX7_digest_S2 μ).1 2).toInt64)) i440)) + (((fX7_digest_S2 μ).2 5 i440).toInt64))), (0, .ref (am 0)), (3, .int ((fX7_tellsOrder (fX7_digest_S1 μ)).1))]) dX7_digest_464 3 rfl (nI_1 i440) (by decide) rfl ?_
                                    refine g_goto C 440 dX7_digest_467 (by decide) ?_
                                    have e_52 : (lpF (fX7_digest_L440 μ) ((31 * ((31 * ((31 * (fX7_digest_V383 μ)) + ((1 : Int32).toInt64))) + ((0 : Int32).toInt64))) + (((fX7_digest_S2 μ).1 2).toInt64)) (i440 + 1)) = (31 * (lpF (fX7_digest_L440 μ) ((31 * ((31 * ((31 * (fX7_digest_V383 μ)) + ((1 : Int32).toInt64))) + ((0 : Int32).toInt64))) + (((fX7_digest_S2 μ).1 2).toInt64)) i440)) + (((fX7_digest_S2 μ).2 5 i440).toInt64) := by
                                      rw [lpF_1, fX7_digest_L440]
                                    have h_53 := ih_48 (i440 + 1) (by omega)
                                    rw [e_52] at h_53
                                    exact g_sub [2, 1, 3, 0] rfl h_53
                              refine g_sub [2, 1, 3, 0] (lv1 := [(0, .ref (am 0)), (1, .long ((31 * ((31 * ((31 * (fX7_digest_V383 μ)) + ((1 : Int32).toInt64))) + ((0 : Int32).toInt64))) + (((fX7_digest_S2 μ).1 2).toInt64))), (3, .int ((fX7_tellsOrder (fX7_digest_S1 μ)).1)), (4, .int 0)]) rfl ?_
                              exact hL_47 (tl μ) 0 (by omega)
                            · skip
                              refine g_iconst C (v := 1) dX7_digest_417 (by decide) ?_
                              refine g_goto C 422 dX7_digest_418 (by decide) ?_
                              refine g_i2l C dX7_digest_422 ?_
                              refine g_ladd C dX7_digest_423 ?_
                              refine g_lstore_n C (lv1 := [(1, .long ((31 * ((31 * (fX7_digest_V383 μ)) + ((1 : Int32).toInt64))) + ((1 : Int32).toInt64))), (0, .ref (am 0)), (3, .int ((fX7_tellsOrder (fX7_digest_S1 μ)).1)), (4, .int (nI ((fX7_tellsOrder (fX7_digest_S1 μ)).1.toNatClampNeg)))]) dX7_digest_424 rfl (by decide) rfl ?_
                              refine g_ldc2 C q8_168 dX7_digest_425 ?_
                              refine g_lload_n C dX7_digest_428 rfl 0 rfl ?_
                              refine g_lmul C dX7_digest_429 ?_
                              refine g_aload_n C dX7_digest_430 rfl 1 rfl ?_
                              refine g_getf C (v := .int ((fX7_digest_S2 μ).1 2)) (T := TX7) (N := 15) 0 0 rfl rfl rfl inX7 8 (by decide) q6_78 rfl dX7_digest_431 ?_
                              refine g_i2l C dX7_digest_434 ?_
                              refine g_ladd C dX7_digest_435 ?_
                              refine g_lstore_n C (lv1 := [(1, .long ((31 * ((31 * ((31 * (fX7_digest_V383 μ)) + ((1 : Int32).toInt64))) + ((1 : Int32).toInt64))) + (((fX7_digest_S2 μ).1 2).toInt64))), (0, .ref (am 0)), (3, .int ((fX7_tellsOrder (fX7_digest_S1 μ)).1)), (4, .int (nI ((fX7_tellsOrder (fX7_digest_S1 μ)).1.toNatClampNeg)))]) dX7_digest_436 rfl (by decide) rfl ?_
                              refine g_iconst C (v := 0) dX7_digest_437 (by decide) ?_
                              refine g_istore C (lv1 := [(4, .int 0), (1, .long ((31 * ((31 * ((31 * (fX7_digest_V383 μ)) + ((1 : Int32).toInt64))) + ((1 : Int32).toInt64))) + (((fX7_digest_S2 μ).1 2).toInt64))), (0, .ref (am 0)), (3, .int ((fX7_tellsOrder (fX7_digest_S1 μ)).1))]) dX7_digest_438 (by decide) rfl ?_
                              have hL_56 : ∀ d_54 i440 : Nat, i440 + d_54 = (tl μ) → G X 0 0 [wM E am (fX7_digest_S2 μ)] [(0, .ref (am 0)), (1, .long (lpF (fX7_digest_L440 μ) ((31 * ((31 * ((31 * (fX7_digest_V383 μ)) + ((1 : Int32).toInt64))) + ((1 : Int32).toInt64))) + (((fX7_digest_S2 μ).1 2).toInt64)) i440)), (3, .int ((fX7_tellsOrder (fX7_digest_S1 μ)).1)), (4, .int (nI i440))] 440 [] := by
                                intro d_54
                                induction d_54 with
                                | zero =>
                                  intro i440 hi_55
                                  obtain rfl : i440 = (tl μ) := by omega
                                  refine g_iload C dX7_digest_440 3 rfl ?_
                                  refine g_aload_n C dX7_digest_442 rfl 0 rfl ?_
                                  refine g_getf C (v := .int ((fX7_digest_S2 μ).1 2)) (T := TX7) (N := 15) 0 0 rfl rfl rfl inX7 8 (by decide) q6_78 rfl dX7_digest_443 ?_
                                  refine g_icmp_ge C 470 dX7_digest_446 (by decide) (fun c_58 => ?_) (fun c_58 => ?_)
                                  · skip
                                    refine g_lload_n C dX7_digest_470 rfl 1 rfl ?_
                                    have e_59 : fX7_digest μ = ((lpF (fX7_digest_L440 μ) ((31 * ((31 * ((31 * (fX7_digest_V383 μ)) + ((1 : Int32).toInt64))) + ((1 : Int32).toInt64))) + (((fX7_digest_S2 μ).1 2).toInt64)) (tl μ)), fX7_digest_S2 μ) := by rw [fX7_digest]; rw [if_neg c_24, if_neg c_44]
                                    exact g_lret C hE (by rw [e_59]) (by rw [e_59]) dX7_digest_471
                                  · exact absurd (lc_le rfl (by rw [hx2.1, hx1.1]; exact hl2) (by omega) (by omega)) c_58
                                | succ d_54 ih_57 =>
                                  intro i440 hi_55
                                  refine g_iload C dX7_digest_440 3 rfl ?_
                                  refine g_aload_n C dX7_digest_442 rfl 0 rfl ?_
                                  refine g_getf C (v := .int ((fX7_digest_S2 μ).1 2)) (T := TX7) (N := 15) 0 0 rfl rfl rfl inX7 8 (by decide) q6_78 rfl dX7_digest_443 ?_
                                  refine g_icmp_ge C 470 dX7_digest_446 (by decide) (fun c_60 => ?_) (fun c_60 => ?_)
                                  · exact absurd c_60 (lc_nle rfl (by rw [hx2.1, hx1.1]; exact hl2) (by omega) (by omega))
                                  · skip
                                    refine g_ldc2 C q8_168 dX7_digest_449 ?_
                                    refine g_lload_n C dX7_digest_452 rfl 1 rfl ?_
                                    refine g_lmul C dX7_digest_453 ?_
                                    refine g_aload_n C dX7_digest_454 rfl 0 rfl ?_
                                    refine g_getf C (T := TX7) (N := 15) 0 0 rfl rfl rfl inX7 7 (by decide) q6_77 rfl dX7_digest_455 ?_
                                    refine g_iload C dX7_digest_458 3 rfl ?_
                                    refine g_ialdn C 0 6 i440 rfl rfl rfl (by omega) (by decide) dX7_digest_460 ?_
                                    refine g_i2l C dX7_digest_461 ?_
                                    refine g_ladd C dX7_digest_462 ?_
                                    refine g_lstore_n C (lv1 := [(1, .long ((31 * (lpF (fX7_digest_L440 μ) ((31 * ((31 * ((31 * (fX7_digest_V383 μ)) + ((1 : Int32).toInt64))) + ((1 : Int32).toInt64))) + (((fX7_digest_S2 μ).1 2).toInt64)) i440)) + (((fX7_digest_S2 μ).2 5 i440).toInt64))), (0, .ref (am 0)), (3, .int ((fX7_tellsOrder (fX7_digest_S1 μ)).1)), (4, .int (nI i440))]) dX7_digest_463 rfl (by decide) rfl ?_
                                    refine g_iinc C (v := nI (i440 + 1)) (lv1 := [(4, .int (nI (i440 + 1))), (1, .long ((31 * (lpF (fX7_digest_L440 μ) ((31 * ((31 * ((31 * (fX7_digest_V383 μ)) + ((1 : Int32).toInt64))) + ((1 : Int32).toInt64))) + (((fX7_digest_S2 μ).1 2).toInt64)) i440)) + (((fX7_digest_S2 μ).2 5 i440).toInt64))), (0, .ref (am 0)), (3, .int ((fX7_tellsOrder (fX7_digest_S1 μ)).1))]) dX7_digest_464 3 rfl (nI_1 i440) (by decide) rfl ?_
                                    refine g_goto C 440 dX7_digest_467 (by decide) ?_
                                    have e_61 : (lpF (fX7_digest_L440 μ) ((31 * ((31 * ((31 * (fX7_digest_V383 μ)) + ((1 : Int32).toInt64))) + ((1 : Int32).toInt64))) + (((fX7_digest_S2 μ).1 2).toInt64)) (i440 + 1)) = (31 * (lpF (fX7_digest_L440 μ) ((31 * ((31 * ((31 * (fX7_digest_V383 μ)) + ((1 : Int32).toInt64))) + ((1 : Int32).toInt64))) + (((fX7_digest_S2 μ).1 2).toInt64)) i440)) + (((fX7_digest_S2 μ).2 5 i440).toInt64) := by
                                      rw [lpF_1, fX7_digest_L440]
                                    have h_62 := ih_57 (i440 + 1) (by omega)
                                    rw [e_61] at h_62
                                    exact g_sub [2, 1, 3, 0] rfl h_62
                              refine g_sub [2, 1, 3, 0] (lv1 := [(0, .ref (am 0)), (1, .long ((31 * ((31 * ((31 * (fX7_digest_V383 μ)) + ((1 : Int32).toInt64))) + ((1 : Int32).toInt64))) + (((fX7_digest_S2 μ).1 2).toInt64))), (3, .int ((fX7_tellsOrder (fX7_digest_S1 μ)).1)), (4, .int 0)]) rfl ?_
                              exact hL_56 (tl μ) 0 (by omega)
                        · exact absurd (lc_le rfl hfn.1 (by omega) (by omega)) c_23
                      | succ d_19 ih_22 =>
                        intro i272 hi_20
                        have hfn := fillM_i (μ := fX7_digest_S1 μ)
                        refine g_iload C dX7_digest_272 3 rfl ?_
                        refine g_iload_n C dX7_digest_274 rfl 2 rfl ?_
                        refine g_icmp_ge C 299 dX7_digest_275 (by decide) (fun c_63 => ?_) (fun c_63 => ?_)
                        · exact absurd c_63 (lc_nle rfl hfn.1 (by omega) (by omega))
                        · skip
                          refine g_ldc2 C q8_168 dX7_digest_278 ?_
                          refine g_lload_n C dX7_digest_281 rfl 1 rfl ?_
                          refine g_lmul C dX7_digest_282 ?_
                          refine g_aload_n C dX7_digest_283 rfl 0 rfl ?_
                          refine g_getf C (T := TX7) (N := 15) 0 0 rfl rfl rfl inX7 13 (by decide) q6_83 rfl dX7_digest_284 ?_
                          refine g_iload C dX7_digest_287 3 rfl ?_
                          refine g_ialdn C 0 8 i272 rfl rfl rfl (by omega) (by decide) dX7_digest_289 ?_
                          refine g_i2l C dX7_digest_290 ?_
                          refine g_ladd C dX7_digest_291 ?_
                          refine g_lstore_n C (lv1 := [(1, .long ((31 * (lpF (fX7_digest_L272 μ) (fX7_digest_V264 μ) i272)) + (((fX7_digest_S2 μ).2 7 i272).toInt64))), (0, .ref (am 0)), (3, .int ((fX7_tellsOrder (fX7_digest_S1 μ)).1)), (4, .int (nI i272))]) dX7_digest_292 rfl (by decide) rfl ?_
                          refine g_iinc C (v := nI (i272 + 1)) (lv1 := [(4, .int (nI (i272 + 1))), (1, .long ((31 * (lpF (fX7_digest_L272 μ) (fX7_digest_V264 μ) i272)) + (((fX7_digest_S2 μ).2 7 i272).toInt64))), (0, .ref (am 0)), (3, .int ((fX7_tellsOrder (fX7_digest_S1 μ)).1))]) dX7_digest_293 3 rfl (nI_1 i272) (by decide) rfl ?_
                          refine g_goto C 272 dX7_digest_296 (by decide) ?_
                          have e_64 : (lpF (fX7_digest_L272 μ) (fX7_digest_V264 μ) (i272 + 1)) = (31 * (lpF (fX7_digest_L272 μ) (fX7_digest_V264 μ) i272)) + (((fX7_digest_S2 μ).2 7 i272).toInt64) := by
                            rw [lpF_1, fX7_digest_L272]
                          have h_65 := ih_22 (i272 + 1) (by omega)
                          rw [e_64] at h_65
                          exact g_sub [2, 1, 3, 0] rfl h_65
                    refine g_sub [3, 2, 1, 0] (lv1 := [(0, .ref (am 0)), (1, .long (fX7_digest_V264 μ)), (3, .int ((fX7_tellsOrder (fX7_digest_S1 μ)).1)), (4, .int 0)]) rfl ?_
                    exact hL_21 ((fX7_tellsOrder (fX7_digest_S1 μ)).1.toNatClampNeg) 0 (by omega)
                  · exact absurd (lc_le rfl nI_l4 (by omega) (by omega)) c_16
                | succ d_12 ih_15 =>
                  intro i125 hi_13
                  refine g_iload_n C dX7_digest_125 rfl 2 rfl ?_
                  refine g_iconst C (v := 4) dX7_digest_126 (by decide) ?_
                  refine g_icmp_ge C 218 dX7_digest_127 (by decide) (fun c_66 => ?_) (fun c_66 => ?_)
                  · exact absurd c_66 (lc_nle rfl nI_l4 (by omega) (by omega))
                  · skip
                    refine g_ldc2 C q8_168 dX7_digest_130 ?_
                    refine g_ldc2 C q8_168 dX7_digest_133 ?_
                    refine g_ldc2 C q8_168 dX7_digest_136 ?_
                    refine g_lload_n C dX7_digest_139 rfl 1 rfl ?_
                    refine g_lmul C dX7_digest_140 ?_
                    refine g_aload_n C dX7_digest_141 rfl 0 rfl ?_
                    refine g_getf C (T := TX7) (N := 15) 0 0 rfl rfl rfl inX7 1 (by decide) q6_71 rfl dX7_digest_142 ?_
                    refine g_bipush C (v := 9) dX7_digest_145 (by decide) ?_
                    refine g_iload_n C dX7_digest_147 rfl 2 rfl ?_
                    refine g_iadd C dX7_digest_148 ?_
                    refine g_ialdn C 0 1 (9 + i125) rfl rfl (nx_add rfl rfl) (by omega) (by decide) dX7_digest_149 ?_
                    refine g_i2l C dX7_digest_150 ?_
                    refine g_ladd C dX7_digest_151 ?_
                    refine g_lmul C dX7_digest_152 ?_
                    refine g_aload_n C dX7_digest_153 rfl 0 rfl ?_
                    refine g_iload_n C dX7_digest_154 rfl 2 rfl ?_
                    refine g_callV C (cs1 := [wM E am (fX7_digest_S0 μ)]) (st1 := [.int (fX7_leftFor (fX7_digest_S0 μ) (nI i125)), .long (31 * ((31 * (lpF (fX7_digest_L125 μ) (fX7_digest_V123 μ) i125)) + (((fX7_digest_S0 μ).2 0 (9 + i125)).toInt64))), .long 31]) [.int (nI i125)] [0] (kX7_leftFor l E am (fX7_digest_S0 μ) hv_6 (nI i125)) caX7_leftFor q6_228 rfl ⟨Nat.le_of_ble_eq_true rfl, Nat.le_of_ble_eq_true rfl⟩ ⟨Nat.zero_le _, Nat.zero_le _⟩ 0 0 rfl rfl rfl rfl (by decide) rfl rfl rfl rfl (Nat.le_of_ble_eq_true rfl) dX7_digest_155 rfl ?_
                    refine g_i2l C dX7_digest_158 ?_
                    refine g_ladd C dX7_digest_159 ?_
                    refine g_lmul C dX7_digest_160 ?_
                    refine g_aload_n C dX7_digest_161 rfl 0 rfl ?_
                    refine g_iload_n C dX7_digest_162 rfl 2 rfl ?_
                    refine g_callV C (cs1 := [wM E am (fX7_digest_S0 μ)]) (st1 := [.int (fX7_doneFor (fX7_digest_S0 μ) (nI i125)), .long (31 * ((31 * ((31 * (lpF (fX7_digest_L125 μ) (fX7_digest_V123 μ) i125)) + (((fX7_digest_S0 μ).2 0 (9 + i125)).toInt64))) + ((fX7_leftFor (fX7_digest_S0 μ) (nI i125)).toInt64)))]) [.int (nI i125)] [0] (kX7_doneFor l E am (fX7_digest_S0 μ) hv_6 (nI i125)) caX7_doneFor q8_51 rfl ⟨Nat.le_of_ble_eq_true rfl, Nat.le_of_ble_eq_true rfl⟩ ⟨Nat.zero_le _, Nat.zero_le _⟩ 0 0 rfl rfl rfl rfl (by decide) rfl rfl rfl rfl (Nat.le_of_ble_eq_true rfl) dX7_digest_163 rfl ?_
                    refine g_i2l C dX7_digest_166 ?_
                    refine g_ladd C dX7_digest_167 ?_
                    refine g_lstore_n C (lv1 := [(1, .long ((31 * ((31 * ((31 * (lpF (fX7_digest_L125 μ) (fX7_digest_V123 μ) i125)) + (((fX7_digest_S0 μ).2 0 (9 + i125)).toInt64))) + ((fX7_leftFor (fX7_digest_S0 μ) (nI i125)).toInt64))) + ((fX7_doneFor (fX7_digest_S0 μ) (nI i125)).toInt64))), (0, .ref (am 0)), (3, .int (nI i125))]) dX7_digest_168 rfl (by decide) rfl ?_
                    refine g_ldc2 C q8_168 dX7_digest_169 ?_
                    refine g_ldc2 C q8_168 dX7_digest_172 ?_
                    refine g_ldc2 C q8_168 dX7_digest_175 ?_
                    refine g_lload_n C dX7_digest_178 rfl 0 rfl ?_
                    refine g_lmul C dX7_digest_179 ?_
                    refine g_aload_n C dX7_digest_180 rfl 1 rfl ?_
                    refine g_iload_n C dX7_digest_181 rfl 2 rfl ?_
                    refine g_callV C (cs1 := [wM E am (fX7_digest_S0 μ)]) (st1 := [.int (fX7_hundredths (fX7_digest_S0 μ) (nI i125)), .long (31 * ((31 * ((31 * ((31 * (lpF (fX7_digest_L125 μ) (fX7_digest_V123 μ) i125)) + (((fX7_digest_S0 μ).2 0 (9 + i125)).toInt64))) + ((fX7_leftFor (fX7_digest_S0 μ) (nI i125)).toInt64))) + ((fX7_doneFor (fX7_digest_S0 μ) (nI i125)).toInt64))), .long 31, .long 31]) [.int (nI i125)] [0] (kX7_hundredths l E am (fX7_digest_S0 μ) hv_6 (nI i125)) caX7_hundredths q8_59 rfl ⟨Nat.le_of_ble_eq_true rfl, Nat.le_of_ble_eq_true rfl⟩ ⟨Nat.zero_le _, Nat.zero_le _⟩ 0 0 rfl rfl rfl rfl (by decide) rfl rfl rfl rfl (Nat.le_of_ble_eq_true rfl) dX7_digest_182 rfl ?_
                    refine g_i2l C dX7_digest_185 ?_
                    refine g_ladd C dX7_digest_186 ?_
                    refine g_lmul C dX7_digest_187 ?_
                    refine g_aload_n C dX7_digest_188 rfl 1 rfl ?_
                    refine g_iload_n C dX7_digest_189 rfl 2 rfl ?_
                    refine g_callV C (cs1 := [wM E am (fX7_digest_S0 μ)]) (st1 := [.int (b2i (fX7_late (fX7_digest_S0 μ) i125)), .long (31 * ((31 * ((31 * ((31 * ((31 * (lpF (fX7_digest_L125 μ) (fX7_digest_V123 μ) i125)) + (((fX7_digest_S0 μ).2 0 (9 + i125)).toInt64))) + ((fX7_leftFor (fX7_digest_S0 μ) (nI i125)).toInt64))) + ((fX7_doneFor (fX7_digest_S0 μ) (nI i125)).toInt64))) + ((fX7_hundredths (fX7_digest_S0 μ) (nI i125)).toInt64))), .long 31]) [.int (nI i125)] [0] (kX7_late l E am (fX7_digest_S0 μ) hv_6 i125 (by omega)) caX7_late q8_67 rfl ⟨Nat.le_of_ble_eq_true rfl, Nat.le_of_ble_eq_true rfl⟩ ⟨Nat.zero_le _, Nat.zero_le _⟩ 0 0 rfl rfl rfl rfl (by decide) rfl rfl rfl rfl (Nat.le_of_ble_eq_true rfl) dX7_digest_190 rfl ?_
                    refine g_ifB_eq C 200 dX7_digest_193 (by decide) (fun c_67 => ?_) (fun c_67 => ?_)
                    · skip
                      refine g_iconst C (v := 0) dX7_digest_200 (by decide) ?_
                      refine g_i2l C dX7_digest_201 ?_
                      refine g_ladd C dX7_digest_202 ?_
                      refine g_lmul C dX7_digest_203 ?_
                      refine g_aload_n C dX7_digest_204 rfl 1 rfl ?_
                      refine g_iload_n C dX7_digest_205 rfl 2 rfl ?_
                      refine g_callV C (cs1 := [wM E am (fX7_digest_S0 μ)]) (st1 := [.int (fX7_misplannedOf (fX7_digest_S0 μ) i125), .long (31 * ((31 * ((31 * ((31 * ((31 * ((31 * (lpF (fX7_digest_L125 μ) (fX7_digest_V123 μ) i125)) + (((fX7_digest_S0 μ).2 0 (9 + i125)).toInt64))) + ((fX7_leftFor (fX7_digest_S0 μ) (nI i125)).toInt64))) + ((fX7_doneFor (fX7_digest_S0 μ) (nI i125)).toInt64))) + ((fX7_hundredths (fX7_digest_S0 μ) (nI i125)).toInt64))) + ((0 : Int32).toInt64)))]) [.int (nI i125)] [0] (kX7_misplannedOf l E am (fX7_digest_S0 μ) hv_6 i125 (by omega)) caX7_misplannedOf q8_75 rfl ⟨Nat.le_of_ble_eq_true rfl, Nat.le_of_ble_eq_true rfl⟩ ⟨Nat.zero_le _, Nat.zero_le _⟩ 0 0 rfl rfl rfl rfl (by decide) rfl rfl rfl rfl (Nat.le_of_ble_eq_true rfl) dX7_digest_206 rfl ?_
                      refine g_i2l C dX7_digest_209 ?_
                      refine g_ladd C dX7_digest_210 ?_
                      refine g_lstore_n C (lv1 := [(1, .long ((31 * ((31 * ((31 * ((31 * ((31 * ((31 * (lpF (fX7_digest_L125 μ) (fX7_digest_V123 μ) i125)) + (((fX7_digest_S0 μ).2 0 (9 + i125)).toInt64))) + ((fX7_leftFor (fX7_digest_S0 μ) (nI i125)).toInt64))) + ((fX7_doneFor (fX7_digest_S0 μ) (nI i125)).toInt64))) + ((fX7_hundredths (fX7_digest_S0 μ) (nI i125)).toInt64))) + ((0 : Int32).toInt64))) + ((fX7_misplannedOf (fX7_digest_S0 μ) i125).toInt64))), (0, .ref (am 0)), (3, .int (nI i125))]) dX7_digest_211 rfl (by decide) rfl ?_
                      refine g_iinc C (v := nI (i125 + 1)) (lv1 := [(3, .int (nI (i125 + 1))), (1, .long ((31 * ((31 * ((31 * ((31 * ((31 * ((31 * (lpF (fX7_digest_L125 μ) (fX7_digest_V123 μ) i125)) + (((fX7_digest_S0 μ).2 0 (9 + i125)).toInt64))) + ((fX7_leftFor (fX7_digest_S0 μ) (nI i125)).toInt64))) + ((fX7_doneFor (fX7_digest_S0 μ) (nI i125)).toInt64))) + ((fX7_hundredths (fX7_digest_S0 μ) (nI i125)).toInt64))) + ((0 : Int32).toInt64))) + ((fX7_misplannedOf (fX7_digest_S0 μ) i125).toInt64))), (0, .ref (am 0))]) dX7_digest_212 2 rfl (nI_1 i125) (by decide) rfl ?_
                      refine g_goto C 125 dX7_digest_215 (by decide) ?_
                      have e_68 : (lpF (fX7_digest_L125 μ) (fX7_digest_V123 μ) (i125 + 1)) = (31 * ((31 * ((31 * ((31 * ((31 * ((31 * (lpF (fX7_digest_L125 μ) (fX7_digest_V123 μ) i125)) + (((fX7_digest_S0 μ).2 0 (9 + i125)).toInt64))) + ((fX7_leftFor (fX7_digest_S0 μ) (nI i125)).toInt64))) + ((fX7_doneFor (fX7_digest_S0 μ) (nI i125)).toInt64))) + ((fX7_hundredths (fX7_digest_S0 μ) (nI i125)).toInt64))) + ((0 : Int32).toInt64))) + ((fX7_misplannedOf (fX7_digest_S0 μ) i125).toInt64) := by
                        rw [lpF_1, fX7_digest_L125]; rw [if_neg (ne_true_of_eq_false c_67)]
                      have h_69 := ih_15 (i125 + 1) (by omega)
                      rw [e_68] at h_69
                      exact g_sub [2, 1, 0] rfl h_69
                    · skip
                      refine g_iconst C (v := 1) dX7_digest_196 (by decide) ?_
                      refine g_goto C 201 dX7_digest_197 (by decide) ?_
                      refine g_i2l C dX7_digest_201 ?_
                      refine g_ladd C dX7_digest_202 ?_
                      refine g_lmul C dX7_digest_203 ?_
                      refine g_aload_n C dX7_digest_204 rfl 1 rfl ?_
                      refine g_iload_n C dX7_digest_205 rfl 2 rfl ?_
                      refine g_callV C (cs1 := [wM E am (fX7_digest_S0 μ)]) (st1 := [.int (fX7_misplannedOf (fX7_digest_S0 μ) i125), .long (31 * ((31 * ((31 * ((31 * ((31 * ((31 * (lpF (fX7_digest_L125 μ) (fX7_digest_V123 μ) i125)) + (((fX7_digest_S0 μ).2 0 (9 + i125)).toInt64))) + ((fX7_leftFor (fX7_digest_S0 μ) (nI i125)).toInt64))) + ((fX7_doneFor (fX7_digest_S0 μ) (nI i125)).toInt64))) + ((fX7_hundredths (fX7_digest_S0 μ) (nI i125)).toInt64))) + ((1 : Int32).toInt64)))]) [.int (nI i125)] [0] (kX7_misplannedOf l E am (fX7_digest_S0 μ) hv_6 i125 (by omega)) caX7_misplannedOf q8_75 rfl ⟨Nat.le_of_ble_eq_true rfl, Nat.le_of_ble_eq_true rfl⟩ ⟨Nat.zero_le _, Nat.zero_le _⟩ 0 0 rfl rfl rfl rfl (by decide) rfl rfl rfl rfl (Nat.le_of_ble_eq_true rfl) dX7_digest_206 rfl ?_
                      refine g_i2l C dX7_digest_209 ?_
                      refine g_ladd C dX7_digest_210 ?_
                      refine g_lstore_n C (lv1 := [(1, .long ((31 * ((31 * ((31 * ((31 * ((31 * ((31 * (lpF (fX7_digest_L125 μ) (fX7_digest_V123 μ) i125)) + (((fX7_digest_S0 μ).2 0 (9 + i125)).toInt64))) + ((fX7_leftFor (fX7_digest_S0 μ) (nI i125)).toInt64))) + ((fX7_doneFor (fX7_digest_S0 μ) (nI i125)).toInt64))) + ((fX7_hundredths (fX7_digest_S0 μ) (nI i125)).toInt64))) + ((1 : Int32).toInt64))) + ((fX7_misplannedOf (fX7_digest_S0 μ) i125).toInt64))), (0, .ref (am 0)), (3, .int (nI i125))]) dX7_digest_211 rfl (by decide) rfl ?_
                      refine g_iinc C (v := nI (i125 + 1)) (lv1 := [(3, .int (nI (i125 + 1))), (1, .long ((31 * ((31 * ((31 * ((31 * ((31 * ((31 * (lpF (fX7_digest_L125 μ) (fX7_digest_V123 μ) i125)) + (((fX7_digest_S0 μ).2 0 (9 + i125)).toInt64))) + ((fX7_leftFor (fX7_digest_S0 μ) (nI i125)).toInt64))) + ((fX7_doneFor (fX7_digest_S0 μ) (nI i125)).toInt64))) + ((fX7_hundredths (fX7_digest_S0 μ) (nI i125)).toInt64))) + ((1 : Int32).toInt64))) + ((fX7_misplannedOf (fX7_digest_S0 μ) i125).toInt64))), (0, .ref (am 0))]) dX7_digest_212 2 rfl (nI_1 i125) (by decide) rfl ?_
                      refine g_goto C 125 dX7_digest_215 (by decide) ?_
                      have e_70 : (lpF (fX7_digest_L125 μ) (fX7_digest_V123 μ) (i125 + 1)) = (31 * ((31 * ((31 * ((31 * ((31 * ((31 * (lpF (fX7_digest_L125 μ) (fX7_digest_V123 μ) i125)) + (((fX7_digest_S0 μ).2 0 (9 + i125)).toInt64))) + ((fX7_leftFor (fX7_digest_S0 μ) (nI i125)).toInt64))) + ((fX7_doneFor (fX7_digest_S0 μ) (nI i125)).toInt64))) + ((fX7_hundredths (fX7_digest_S0 μ) (nI i125)).toInt64))) + ((1 : Int32).toInt64))) + ((fX7_misplannedOf (fX7_digest_S0 μ) i125).toInt64) := by
                        rw [lpF_1, fX7_digest_L125]; rw [if_pos c_67]
                      have h_71 := ih_15 (i125 + 1) (by omega)
                      rw [e_70] at h_71
                      exact g_sub [2, 1, 0] rfl h_71
              refine g_sub [1, 2, 0] (lv1 := [(0, .ref (am 0)), (1, .long (fX7_digest_V123 μ)), (3, .int 0)]) rfl ?_
              exact hL_14 4 0 (by omega)
            · exact absurd (lc_le rfl nI_l5 (by omega) (by omega)) c_11
          | succ d_7 ih_10 =>
            intro i50 hi_8
            refine g_iload_n C dX7_digest_50 rfl 2 rfl ?_
            refine g_iconst C (v := 5) dX7_digest_51 (by decide) ?_
            refine g_icmp_ge C 123 dX7_digest_52 (by decide) (fun c_72 => ?_) (fun c_72 => ?_)
            · exact absurd c_72 (lc_nle rfl nI_l5 (by omega) (by omega))
            · skip
              refine g_ldc2 C q8_168 dX7_digest_55 ?_
              refine g_ldc2 C q8_168 dX7_digest_58 ?_
              refine g_ldc2 C q8_168 dX7_digest_61 ?_
              refine g_lload_n C dX7_digest_64 rfl 1 rfl ?_
              refine g_lmul C dX7_digest_65 ?_
              refine g_aload_n C dX7_digest_66 rfl 0 rfl ?_
              refine g_getf C (T := TX7) (N := 15) 0 0 rfl rfl rfl inX7 1 (by decide) q6_71 rfl dX7_digest_67 ?_
              refine g_iconst C (v := 4) dX7_digest_70 (by decide) ?_
              refine g_iload_n C dX7_digest_71 rfl 2 rfl ?_
              refine g_iadd C dX7_digest_72 ?_
              refine g_ialdn C 0 1 (4 + i50) rfl rfl (nx_add rfl rfl) (by omega) (by decide) dX7_digest_73 ?_
              refine g_i2l C dX7_digest_74 ?_
              refine g_ladd C dX7_digest_75 ?_
              refine g_lmul C dX7_digest_76 ?_
              refine g_aload_n C dX7_digest_77 rfl 0 rfl ?_
              refine g_iload_n C dX7_digest_78 rfl 2 rfl ?_
              refine g_callV C (cs1 := [wM E am (fX7_digest_S0 μ)]) (st1 := [.int (fX7_load (fX7_digest_S0 μ) (nI i50)), .long (31 * ((31 * (lpF (fX7_digest_L50 μ) (fX7_digest_V48 μ) i50)) + (((fX7_digest_S0 μ).2 0 (4 + i50)).toInt64))), .long 31]) [.int (nI i50)] [0] (kX7_load l E am (fX7_digest_S0 μ) hv_6 (nI i50)) caX7_load q6_163 rfl ⟨Nat.le_of_ble_eq_true rfl, Nat.le_of_ble_eq_true rfl⟩ ⟨Nat.zero_le _, Nat.zero_le _⟩ 0 0 rfl rfl rfl rfl (by decide) rfl rfl rfl rfl (Nat.le_of_ble_eq_true rfl) dX7_digest_79 rfl ?_
              refine g_i2l C dX7_digest_82 ?_
              refine g_ladd C dX7_digest_83 ?_
              refine g_lmul C dX7_digest_84 ?_
              refine g_aload_n C dX7_digest_85 rfl 0 rfl ?_
              refine g_iload_n C dX7_digest_86 rfl 2 rfl ?_
              refine g_callV C (cs1 := [wM E am (fX7_digest_S0 μ)]) (st1 := [.int (fX7_load (fX7_digest_S0 μ) (nI i50)), .long (31 * ((31 * ((31 * (lpF (fX7_digest_L50 μ) (fX7_digest_V48 μ) i50)) + (((fX7_digest_S0 μ).2 0 (4 + i50)).toInt64))) + ((fX7_load (fX7_digest_S0 μ) (nI i50)).toInt64)))]) [.int (nI i50)] [0] (kX7_load l E am (fX7_digest_S0 μ) hv_6 (nI i50)) caX7_load q6_163 rfl ⟨Nat.le_of_ble_eq_true rfl, Nat.le_of_ble_eq_true rfl⟩ ⟨Nat.zero_le _, Nat.zero_le _⟩ 0 0 rfl rfl rfl rfl (by decide) rfl rfl rfl rfl (Nat.le_of_ble_eq_true rfl) dX7_digest_87 rfl ?_
              refine g_i2l C dX7_digest_90 ?_
              refine g_ladd C dX7_digest_91 ?_
              refine g_lstore_n C (lv1 := [(1, .long ((31 * ((31 * ((31 * (lpF (fX7_digest_L50 μ) (fX7_digest_V48 μ) i50)) + (((fX7_digest_S0 μ).2 0 (4 + i50)).toInt64))) + ((fX7_load (fX7_digest_S0 μ) (nI i50)).toInt64))) + ((fX7_load (fX7_digest_S0 μ) (nI i50)).toInt64))), (0, .ref (am 0)), (3, .int (nI i50))]) dX7_digest_92 rfl (by decide) rfl ?_
              refine g_ldc2 C q8_168 dX7_digest_93 ?_
              refine g_ldc2 C q8_168 dX7_digest_96 ?_
              refine g_lload_n C dX7_digest_99 rfl 0 rfl ?_
              refine g_lmul C dX7_digest_100 ?_
              refine g_aload_n C dX7_digest_101 rfl 1 rfl ?_
              refine g_iload_n C dX7_digest_102 rfl 2 rfl ?_
              refine g_callV C (cs1 := [wM E am (fX7_digest_S0 μ)]) (st1 := [.int (fX7_progressOf (fX7_digest_S0 μ) (nI i50)), .long (31 * ((31 * ((31 * ((31 * (lpF (fX7_digest_L50 μ) (fX7_digest_V48 μ) i50)) + (((fX7_digest_S0 μ).2 0 (4 + i50)).toInt64))) + ((fX7_load (fX7_digest_S0 μ) (nI i50)).toInt64))) + ((fX7_load (fX7_digest_S0 μ) (nI i50)).toInt64))), .long 31]) [.int (nI i50)] [0] (kX7_progressOf l E am (fX7_digest_S0 μ) hv_6 (nI i50)) caX7_progressOf q8_19 rfl ⟨Nat.le_of_ble_eq_true rfl, Nat.le_of_ble_eq_true rfl⟩ ⟨Nat.zero_le _, Nat.zero_le _⟩ 0 0 rfl rfl rfl rfl (by decide) rfl rfl rfl rfl (Nat.le_of_ble_eq_true rfl) dX7_digest_103 rfl ?_
              refine g_i2l C dX7_digest_106 ?_
              refine g_ladd C dX7_digest_107 ?_
              refine g_lmul C dX7_digest_108 ?_
              refine g_aload_n C dX7_digest_109 rfl 1 rfl ?_
              refine g_iload_n C dX7_digest_110 rfl 2 rfl ?_
              refine g_callV C (cs1 := [wM E am (fX7_digest_S0 μ)]) (st1 := [.int (fX7_doneOf (fX7_digest_S0 μ) (nI i50)), .long (31 * ((31 * ((31 * ((31 * ((31 * (lpF (fX7_digest_L50 μ) (fX7_digest_V48 μ) i50)) + (((fX7_digest_S0 μ).2 0 (4 + i50)).toInt64))) + ((fX7_load (fX7_digest_S0 μ) (nI i50)).toInt64))) + ((fX7_load (fX7_digest_S0 μ) (nI i50)).toInt64))) + ((fX7_progressOf (fX7_digest_S0 μ) (nI i50)).toInt64)))]) [.int (nI i50)] [0] (kX7_doneOf l E am (fX7_digest_S0 μ) hv_6 (nI i50)) caX7_doneOf q8_27 rfl ⟨Nat.le_of_ble_eq_true rfl, Nat.le_of_ble_eq_true rfl⟩ ⟨Nat.zero_le _, Nat.zero_le _⟩ 0 0 rfl rfl rfl rfl (by decide) rfl rfl rfl rfl (Nat.le_of_ble_eq_true rfl) dX7_digest_111 rfl ?_
              refine g_i2l C dX7_digest_114 ?_
              refine g_ladd C dX7_digest_115 ?_
              refine g_lstore_n C (lv1 := [(1, .long ((31 * ((31 * ((31 * ((31 * ((31 * (lpF (fX7_digest_L50 μ) (fX7_digest_V48 μ) i50)) + (((fX7_digest_S0 μ).2 0 (4 + i50)).toInt64))) + ((fX7_load (fX7_digest_S0 μ) (nI i50)).toInt64))) + ((fX7_load (fX7_digest_S0 μ) (nI i50)).toInt64))) + ((fX7_progressOf (fX7_digest_S0 μ) (nI i50)).toInt64))) + ((fX7_doneOf (fX7_digest_S0 μ) (nI i50)).toInt64))), (0, .ref (am 0)), (3, .int (nI i50))]) dX7_digest_116 rfl (by decide) rfl ?_
              refine g_iinc C (v := nI (i50 + 1)) (lv1 := [(3, .int (nI (i50 + 1))), (1, .long ((31 * ((31 * ((31 * ((31 * ((31 * (lpF (fX7_digest_L50 μ) (fX7_digest_V48 μ) i50)) + (((fX7_digest_S0 μ).2 0 (4 + i50)).toInt64))) + ((fX7_load (fX7_digest_S0 μ) (nI i50)).toInt64))) + ((fX7_load (fX7_digest_S0 μ) (nI i50)).toInt64))) + ((fX7_progressOf (fX7_digest_S0 μ) (nI i50)).toInt64))) + ((fX7_doneOf (fX7_digest_S0 μ) (nI i50)).toInt64))), (0, .ref (am 0))]) dX7_digest_117 2 rfl (nI_1 i50) (by decide) rfl ?_
              refine g_goto C 50 dX7_digest_120 (by decide) ?_
              have e_73 : (lpF (fX7_digest_L50 μ) (fX7_digest_V48 μ) (i50 + 1)) = (31 * ((31 * ((31 * ((31 * ((31 * (lpF (fX7_digest_L50 μ) (fX7_digest_V48 μ) i50)) + (((fX7_digest_S0 μ).2 0 (4 + i50)).toInt64))) + ((fX7_load (fX7_digest_S0 μ) (nI i50)).toInt64))) + ((fX7_load (fX7_digest_S0 μ) (nI i50)).toInt64))) + ((fX7_progressOf (fX7_digest_S0 μ) (nI i50)).toInt64))) + ((fX7_doneOf (fX7_digest_S0 μ) (nI i50)).toInt64) := by
                rw [lpF_1, fX7_digest_L50]
              have h_74 := ih_10 (i50 + 1) (by omega)
              rw [e_73] at h_74
              exact g_sub [2, 1, 0] rfl h_74
        refine g_sub [1, 2, 0] (lv1 := [(0, .ref (am 0)), (1, .long (fX7_digest_V48 μ)), (3, .int 0)]) rfl ?_
        exact hL_9 5 0 (by omega)
      · exact absurd (lc_le rfl (by rw [hs1.2 0 (by decide)]; exact hc0) (by omega) (by omega)) c_5
    | succ d_1 ih_4 =>
      intro i25 hi_2
      have hs1 : eqX 8 (sI μ 0 0) (lpF (fX7_digest_L25 μ) ((31 * 4211) + ((μ.2 0 0).toInt64), sI μ 0 0) i25).2 := lpF_inv (f := fX7_digest_L25 μ) (a := ((31 * 4211) + ((μ.2 0 0).toInt64), sI μ 0 0)) (fun x => eqX 8 (sI μ 0 0) x.2) (eqX_refl 8 (sI μ 0 0)) (fun i x h => (by unfold fX7_digest_L25; exact eqX_trans h (dT_x8 _ _ _))) i25
      refine g_iload_n C dX7_digest_25 rfl 2 rfl ?_
      refine g_aload_n C dX7_digest_26 rfl 0 rfl ?_
      refine g_getf C (T := TX7) (N := 15) 0 0 rfl rfl rfl inX7 1 (by decide) q6_71 rfl dX7_digest_27 ?_
      refine g_iconst C (v := 0) dX7_digest_30 (by decide) ?_
      refine g_ialdn C 0 1 0 rfl rfl rfl (by decide) (by decide) dX7_digest_31 ?_
      refine g_icmp_ge C 48 dX7_digest_32 (by decide) (fun c_75 => ?_) (fun c_75 => ?_)
      · exact absurd c_75 (lc_nle rfl (by rw [hs1.2 0 (by decide)]; exact hc0) (by omega) (by omega))
      · skip
        refine g_aload_n C dX7_digest_35 rfl 0 rfl ?_
        refine g_lload_n C dX7_digest_36 rfl 1 rfl ?_
        refine g_iload_n C dX7_digest_37 rfl 2 rfl ?_
        refine g_callV C (cs1 := [wM E am ((fX7_digestTicket ((lpF (fX7_digest_L25 μ) ((31 * 4211) + ((μ.2 0 0).toInt64), sI μ 0 0) i25).2) ((lpF (fX7_digest_L25 μ) ((31 * 4211) + ((μ.2 0 0).toInt64), sI μ 0 0) i25).1) i25).2)]) (st1 := [.long ((fX7_digestTicket ((lpF (fX7_digest_L25 μ) ((31 * 4211) + ((μ.2 0 0).toInt64), sI μ 0 0) i25).2) ((lpF (fX7_digest_L25 μ) ((31 * 4211) + ((μ.2 0 0).toInt64), sI μ 0 0) i25).1) i25).1)]) [.long ((lpF (fX7_digest_L25 μ) ((31 * 4211) + ((μ.2 0 0).toInt64), sI μ 0 0) i25).1), .int (nI i25)] [0] (kX7_digestTicket l E am ((lpF (fX7_digest_L25 μ) ((31 * 4211) + ((μ.2 0 0).toInt64), sI μ 0 0) i25).2) (vM_x8 hs1 (vM_i0 hv)) (gA_x hs1 (by decide) ha) ((lpF (fX7_digest_L25 μ) ((31 * 4211) + ((μ.2 0 0).toInt64), sI μ 0 0) i25).1) i25 (by omega)) caX7_digestTicket q8_169 rfl ⟨Nat.le_of_ble_eq_true rfl, Nat.le_of_ble_eq_true rfl⟩ ⟨Nat.zero_le _, Nat.zero_le _⟩ 0 0 rfl rfl rfl rfl (by decide) rfl rfl rfl rfl (Nat.le_of_ble_eq_true rfl) dX7_digest_38 rfl ?_
        refine g_lstore_n C (lv1 := [(1, .long ((fX7_digestTicket ((lpF (fX7_digest_L25 μ) ((31 * 4211) + ((μ.2 0 0).toInt64), sI μ 0 0) i25).2) ((lpF (fX7_digest_L25 μ) ((31 * 4211) + ((μ.2 0 0).toInt64), sI μ 0 0) i25).1) i25).1)), (0, .ref (am 0)), (3, .int (nI i25))]) dX7_digest_41 rfl (by decide) rfl ?_
        refine g_iinc C (v := nI (i25 + 1)) (lv1 := [(3, .int (nI (i25 + 1))), (1, .long ((fX7_digestTicket ((lpF (fX7_digest_L25 μ) ((31 * 4211) + ((μ.2 0 0).toInt64), sI μ 0 0) i25).2) ((lpF (fX7_digest_L25 μ) ((31 * 4211) + ((μ.2 0 0).toInt64), sI μ 0 0) i25).1) i25).1)), (0, .ref (am 0))]) dX7_digest_42 2 rfl (nI_1 i25) (by decide) rfl ?_
        refine g_goto C 25 dX7_digest_45 (by decide) ?_
        have e_76 : (lpF (fX7_digest_L25 μ) ((31 * 4211) + ((μ.2 0 0).toInt64), sI μ 0 0) (i25 + 1)) = ((fX7_digestTicket ((lpF (fX7_digest_L25 μ) ((31 * 4211) + ((μ.2 0 0).toInt64), sI μ 0 0) i25).2) ((lpF (fX7_digest_L25 μ) ((31 * 4211) + ((μ.2 0 0).toInt64), sI μ 0 0) i25).1) i25).1, (fX7_digestTicket ((lpF (fX7_digest_L25 μ) ((31 * 4211) + ((μ.2 0 0).toInt64), sI μ 0 0) i25).2) ((lpF (fX7_digest_L25 μ) ((31 * 4211) + ((μ.2 0 0).toInt64), sI μ 0 0) i25).1) i25).2) := by
          rw [lpF_1, fX7_digest_L25]
        have h_77 := ih_4 (i25 + 1) (by omega)
        rw [e_76] at h_77
        exact g_sub [2, 1, 0] rfl h_77
  refine g_sub [2, 1, 0] (lv1 := [(0, .ref (am 0)), (1, .long ((31 * 4211) + ((μ.2 0 0).toInt64))), (3, .int 0)]) rfl ?_
  exact hL_3 (cM μ) 0 (by omega)
