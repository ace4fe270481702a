/-- how many signs, where the reading is, how many orders -/
def len (θ : BS) : Nat := (θ.1 0).toNatClampNeg
def pos (θ : BS) : Nat := (θ.1 1).toNatClampNeg
def oc (θ : BS) : Nat := (θ.1 2).toNatClampNeg
def vT (θ : BS) : Prop := len θ ≤ 60 ∧ θ.1 0 = nI (len θ) ∧ pos θ ≤ 60 ∧ θ.1 1 = nI (pos θ) ∧ oc θ ≤ 20 ∧ θ.1 2 = nI (oc θ)
theorem vT_lt {θ : BS} (hv : vT θ) (h : ¬ θ.1 0 ≤ θ.1 1) : pos θ < len θ := by
  obtain ⟨h1, h2, h3, h4, -⟩ := hv
  exact lc_ige h4 h2 (by omega) (by omega) h
theorem vT_lt2 {θ : BS} (hv : vT θ) (h : θ.1 1 < θ.1 0) : pos θ < len θ := vT_lt hv (by rw [Int32.not_le]; exact h)
theorem vT_ge {θ : BS} (hv : vT θ) (h : θ.1 0 ≤ θ.1 1) : len θ ≤ pos θ := by
  obtain ⟨h1, h2, h3, h4, -⟩ := hv
  rw [h2, h4] at h
  exact (nI_leI (by omega) (by omega)).mp h
theorem vT_inc {θ : BS} (hv : vT θ) (hp : pos θ < len θ) : vT (sI θ 1 (θ.1 1 + 1)) := by
  obtain ⟨h1, h2, h3, h4, h5, h6⟩ := hv
  have e : (sI θ 1 (θ.1 1 + 1)).1 1 = nI (pos θ + 1) := by
    show θ.1 1 + 1 = _
    rw [h4, nI_1]
  have e2 : pos (sI θ 1 (θ.1 1 + 1)) = pos θ + 1 := by
    unfold pos at *
    rw [e, nI_clamp (by omega)]
  exact ⟨h1, h2, by omega, by rw [e2]; exact e, h5, h6⟩
theorem vT_pos0 {θ : BS} (hv : vT θ) : vT (sI θ 1 0) := by
  obtain ⟨h1, h2, h3, h4, h5, h6⟩ := hv
  exact ⟨h1, h2, (by decide : (0 : Int32).toNatClampNeg ≤ 60), (by decide : (0 : Int32) = nI (0 : Int32).toNatClampNeg), h5, h6⟩
theorem vT_oc0 {θ : BS} (hv : vT θ) : vT (sI θ 2 0) := by
  obtain ⟨h1, h2, h3, h4, h5, h6⟩ := hv
  exact ⟨h1, h2, h3, h4, (by decide : (0 : Int32).toNatClampNeg ≤ 20), (by decide : (0 : Int32) = nI (0 : Int32).toNatClampNeg)⟩
theorem vT_oc1 {θ : BS} (hv : vT θ) (hp : oc θ < 20) : vT (sI θ 2 (θ.1 2 + 1)) := by
  obtain ⟨h1, h2, h3, h4, h5, h6⟩ := hv
  have e : (sI θ 2 (θ.1 2 + 1)).1 2 = nI (oc θ + 1) := by
    show θ.1 2 + 1 = _
    rw [h6, nI_1]
  have e2 : oc (sI θ 2 (θ.1 2 + 1)) = oc θ + 1 := by
    unfold oc at *
    rw [e, nI_clamp (by omega)]
  exact ⟨h1, h2, h3, h4, by omega, by rw [e2]; exact e⟩
def fX4_hasRoom (θ : BS) : Bool :=
  if 60 ≤ (θ.1 0) then false else true
theorem caX4_hasRoom : gCalV yX4_hasRoom cX4_hasRoom 1 (some .boolean) 0 := ⟨⟨q4_206, q1_5, by decide +kernel⟩, q4_204, q4_205⟩
set_option maxHeartbeats 4000000 in
set_option maxRecDepth 100000 in
theorem kX4_hasRoom (l : Launch) (E : gE) (at_ : Nat → Nat) (θ : BS) (hv : vT θ)   : MC l E yX4_hasRoom cX4_hasRoom 1 (some .boolean) 0 0 [.ref (at_ 0)] [wT E at_ θ] (some (.int (b2i (fX4_hasRoom θ)))) [wT E at_ θ] := by
  have hv1 : len θ ≤ 60 := hv.1
  have hv3 : pos θ ≤ 60 := hv.2.2.1
  have hv5 : oc θ ≤ 20 := hv.2.2.2.2.1
  refine mc_of (by decide +kernel) (Nat.le_of_ble_eq_true rfl) (lv := [(0, .ref (at_ 0))]) rfl (fun X C hE => ?_)
  refine g_aload_n C dX4_hasRoom_0 rfl 0 rfl ?_
  refine g_getf C (T := TX4) (N := 7) 0 0 rfl rfl rfl inX4 1 (by decide) q1_170 rfl dX4_hasRoom_1 ?_
  refine g_bipush C (v := 60) dX4_hasRoom_4 (by decide) ?_
  refine g_icmp_ge C 13 dX4_hasRoom_6 (by decide) (fun c_1 => ?_) (fun c_1 => ?_)
  · skip
    refine g_iconst C (v := 0) dX4_hasRoom_13 (by decide) ?_
    have e_2 : fX4_hasRoom θ = false := by rw [fX4_hasRoom]; rw [if_pos c_1]
    exact g_zret (b := false) C hE (by rw [e_2]) rfl rfl dX4_hasRoom_14
  · skip
    refine g_iconst C (v := 1) dX4_hasRoom_9 (by decide) ?_
    refine g_goto C 14 dX4_hasRoom_10 (by decide) ?_
    have e_3 : fX4_hasRoom θ = true := by rw [fX4_hasRoom]; rw [if_neg c_1]
    exact g_zret (b := true) C hE (by rw [e_3]) rfl rfl dX4_hasRoom_14
def fX4_add (θ : BS) (v : Int32) : Int32 × BS :=
  ((sI (sE θ 0 (len θ) (vp_nar .char v)) 0 (((sE θ 0 (len θ) (vp_nar .char v)).1 0) + 1)).1 0, sI (sE θ 0 (len θ) (vp_nar .char v)) 0 (((sE θ 0 (len θ) (vp_nar .char v)).1 0) + 1))
theorem caX4_add : gCalV yX4_add cX4_add 2 (some .int) 1 := ⟨⟨q4_210, q1_5, by decide +kernel⟩, q4_208, q4_209⟩
set_option maxHeartbeats 4000000 in
set_option maxRecDepth 100000 in
theorem kX4_add (l : Launch) (E : gE) (at_ : Nat → Nat) (θ : BS) (hv : vT θ)  (v : Int32) (hl9 : len θ < 60) : MC l E yX4_add cX4_add 2 (some .int) 0 0 [.ref (at_ 0), .int v] [wT E at_ θ] (some (.int (fX4_add θ v).1)) [wT E at_ ((fX4_add θ v).2)] := by
  have hv1 : len θ ≤ 60 := hv.1
  have hv3 : pos θ ≤ 60 := hv.2.2.1
  have hv5 : oc θ ≤ 20 := hv.2.2.2.2.1
  refine mc_of (by decide +kernel) (Nat.le_of_ble_eq_true rfl) (lv := [(0, .ref (at_ 0)), (1, .int v)]) rfl (fun X C hE => ?_)
  refine g_aload_n C dX4_add_0 rfl 0 rfl ?_
  refine g_getf C (T := TX4) (N := 7) 0 0 rfl rfl rfl inX4 0 (by decide) q1_169 rfl dX4_add_1 ?_
  refine g_aload_n C dX4_add_4 rfl 0 rfl ?_
  refine g_getf C (T := TX4) (N := 7) 0 0 rfl rfl rfl inX4 1 (by decide) q1_170 rfl dX4_add_5 ?_
  refine g_iload_n C dX4_add_8 rfl 1 rfl ?_
  refine g_castn C (w1 := wT E at_ (sE θ 0 (len θ) (vp_nar .char v))) (cs1 := [wT E at_ (sE θ 0 (len θ) (vp_nar .char v))]) 0 1 (len θ) rfl rfl hv.2.1 hl9 (by decide) rfl rfl dX4_add_9 ?_
  refine g_aload_n C dX4_add_10 rfl 0 rfl ?_
  refine g_dup C dX4_add_11 rfl ?_
  refine g_getf C (T := TX4) (N := 7) 0 0 rfl rfl rfl inX4 1 (by decide) q1_170 rfl dX4_add_12 ?_
  refine g_iconst C (v := 1) dX4_add_15 (by decide) ?_
  refine g_iadd C dX4_add_16 ?_
  refine g_putf C (T := TX4) (N := 7) (ty := .int) (w1 := wT E at_ (sI (sE θ 0 (len θ) (vp_nar .char v)) 0 (((sE θ 0 (len θ) (vp_nar .char v)).1 0) + 1))) (cs1 := [wT E at_ (sI (sE θ 0 (len θ) (vp_nar .char v)) 0 (((sE θ 0 (len θ) (vp_nar .char v)).1 0) + 1))]) 0 0 rfl rfl rfl inX4 tyX4_ok nmX4 1 (by decide) q1_170 rfl (by decide +kernel) rfl rfl (Nat.le_of_ble_eq_true rfl) rfl rfl dX4_add_17 ?_
  refine g_aload_n C dX4_add_20 rfl 0 rfl ?_
  refine g_getf C (T := TX4) (N := 7) 0 0 rfl rfl rfl inX4 1 (by decide) q1_170 rfl dX4_add_21 ?_
  have e_1 : fX4_add θ v = ((sI (sE θ 0 (len θ) (vp_nar .char v)) 0 (((sE θ 0 (len θ) (vp_nar .char v)).1 0) + 1)).1 0, sI (sE θ 0 (len θ) (vp_nar .char v)) 0 (((sE θ 0 (len θ) (vp_nar .char v)).1 0) + 1)) := by rw [fX4_add]
  exact g_iret C hE (by rw [e_1]) (by rw [e_1]) dX4_add_24
def fX4_clear (θ : BS) : Int32 × BS :=
  (θ.1 0, sI θ 0 0)
theorem caX4_clear : gCalV yX4_clear cX4_clear 2 (some .int) 0 := ⟨⟨q1_215, q1_5, by decide +kernel⟩, q1_213, q1_214⟩
set_option maxHeartbeats 4000000 in
set_option maxRecDepth 100000 in
theorem kX4_clear (l : Launch) (E : gE) (at_ : Nat → Nat) (θ : BS) (hv : vT θ)   : MC l E yX4_clear cX4_clear 2 (some .int) 0 0 [.ref (at_ 0)] [wT E at_ θ] (some (.int (fX4_clear θ).1)) [wT E at_ ((fX4_clear θ).2)] := by
  have hv1 : len θ ≤ 60 := hv.1
  have hv3 : pos θ ≤ 60 := hv.2.2.1
  have hv5 : oc θ ≤ 20 := hv.2.2.2.2.1
  refine mc_of (by decide +kernel) (Nat.le_of_ble_eq_true rfl) (lv := [(0, .ref (at_ 0))]) rfl (fun X C hE => ?_)
  refine g_aload_n C dX4_clear_0 rfl 0 rfl ?_
  refine g_getf C (T := TX4) (N := 7) 0 0 rfl rfl rfl inX4 1 (by decide) q1_170 rfl dX4_clear_1 ?_
  refine g_istore_n C (lv1 := [(1, .int (θ.1 0)), (0, .ref (at_ 0))]) dX4_clear_4 rfl (by decide) rfl ?_
  refine g_aload_n C dX4_clear_5 rfl 1 rfl ?_
  refine g_iconst C (v := 0) dX4_clear_6 (by decide) ?_
  refine g_putf C (T := TX4) (N := 7) (ty := .int) (w1 := wT E at_ (sI θ 0 0)) (cs1 := [wT E at_ (sI θ 0 0)]) 0 0 rfl rfl rfl inX4 tyX4_ok nmX4 1 (by decide) q1_170 rfl (by decide +kernel) rfl rfl (Nat.le_of_ble_eq_true rfl) rfl rfl dX4_clear_7 ?_
  refine g_iload_n C dX4_clear_10 rfl 0 rfl ?_
  have e_1 : fX4_clear θ = (θ.1 0, sI θ 0 0) := by rw [fX4_clear]
  exact g_iret C hE (by rw [e_1]) (by rw [e_1]) dX4_clear_11
def fX4_mixedInto_L13 (θ : BS) (z : Int64) (i13 : Nat) (t13 : Int64) : Int64 :=
  (fX6_mixed t13 ((θ.2 0 i13).toInt64))
def fX4_mixedInto (θ : BS) (z : Int64) : Int64 :=
  (lpF (fX4_mixedInto_L13 θ z) (fX6_mixed z ((θ.1 0).toInt64)) (len θ))
theorem caX4_mixedInto : gCalV yX4_mixedInto cX4_mixedInto 6 (some .long) 1 := ⟨⟨q3_54, q1_5, by decide +kernel⟩, q3_52, q3_53⟩
set_option maxHeartbeats 4000000 in
set_option maxRecDepth 100000 in
theorem kX4_mixedInto (l : Launch) (E : gE) (at_ : Nat → Nat) (θ : BS) (hv : vT θ)  (z : Int64) : MC l E yX4_mixedInto cX4_mixedInto 6 (some .long) 1 23 [.ref (at_ 0), .long z] [wT E at_ θ] (some (.long (fX4_mixedInto θ z))) [wT E at_ θ] := by
  have hv1 : len θ ≤ 60 := hv.1
  have hv3 : pos θ ≤ 60 := hv.2.2.1
  have hv5 : oc θ ≤ 20 := hv.2.2.2.2.1
  refine mc_of (by decide +kernel) (Nat.le_of_ble_eq_true rfl) (lv := [(0, .ref (at_ 0)), (1, .long z)]) rfl (fun X C hE => ?_)
  refine g_lload_n C dX4_mixedInto_0 rfl 1 rfl ?_
  refine g_aload_n C dX4_mixedInto_1 rfl 0 rfl ?_
  refine g_getf C (T := TX4) (N := 7) 0 0 rfl rfl rfl inX4 1 (by decide) q1_170 rfl dX4_mixedInto_2 ?_
  refine g_i2l C dX4_mixedInto_5 ?_
  refine g_callSN C (cs1 := [wT E at_ θ]) (st1 := [.long (fX6_mixed z ((θ.1 0).toInt64))]) [.long z, .long ((θ.1 0).toInt64)] [] (kX6_mixed l E z ((θ.1 0).toInt64)) caX6_mixed (host := RX6) (by decide +kernel) rfl ⟨Nat.le_of_ble_eq_true rfl, Nat.le_of_ble_eq_true rfl⟩ ⟨Nat.zero_le _, Nat.zero_le _⟩ (by decide) rfl rfl rfl rfl (Nat.le_of_ble_eq_true rfl) dX4_mixedInto_6 rfl ?_
  refine g_lstore_n C (lv1 := [(3, .long (fX6_mixed z ((θ.1 0).toInt64))), (0, .ref (at_ 0)), (1, .long z)]) dX4_mixedInto_9 rfl (by decide) rfl ?_
  refine g_iconst C (v := 0) dX4_mixedInto_10 (by decide) ?_
  refine g_istore C (lv1 := [(5, .int 0), (3, .long (fX6_mixed z ((θ.1 0).toInt64))), (0, .ref (at_ 0)), (1, .long z)]) dX4_mixedInto_11 (by decide) rfl ?_
  have hL_3 : ∀ d_1 i13 : Nat, i13 + d_1 = (len θ) → G X 0 0 [wT E at_ θ] [(0, .ref (at_ 0)), (1, .long z), (3, .long (lpF (fX4_mixedInto_L13 θ z) (fX6_mixed z ((θ.1 0).toInt64)) i13)), (5, .int (nI i13))] 13 [] := by
    intro d_1
    induction d_1 with
    | zero =>
      intro i13 hi_2
      obtain rfl : i13 = (len θ) := by omega
      refine g_iload C dX4_mixedInto_13 3 rfl ?_
      refine g_aload_n C dX4_mixedInto_15 rfl 0 rfl ?_
      refine g_getf C (T := TX4) (N := 7) 0 0 rfl rfl rfl inX4 1 (by decide) q1_170 rfl dX4_mixedInto_16 ?_
      refine g_icmp_ge C 41 dX4_mixedInto_19 (by decide) (fun c_5 => ?_) (fun c_5 => ?_)
      · skip
        refine g_lload_n C dX4_mixedInto_41 rfl 2 rfl ?_
        have e_6 : fX4_mixedInto θ z = (lpF (fX4_mixedInto_L13 θ z) (fX6_mixed z ((θ.1 0).toInt64)) (len θ)) := by rw [fX4_mixedInto]
        exact g_lret C hE (by rw [e_6]) rfl dX4_mixedInto_42
      · exact absurd (lc_le rfl hv.2.1 (by omega) (by omega)) c_5
    | succ d_1 ih_4 =>
      intro i13 hi_2
      refine g_iload C dX4_mixedInto_13 3 rfl ?_
      refine g_aload_n C dX4_mixedInto_15 rfl 0 rfl ?_
      refine g_getf C (T := TX4) (N := 7) 0 0 rfl rfl rfl inX4 1 (by decide) q1_170 rfl dX4_mixedInto_16 ?_
      refine g_icmp_ge C 41 dX4_mixedInto_19 (by decide) (fun c_7 => ?_) (fun c_7 => ?_)
      · exact absurd c_7 (lc_nle rfl hv.2.1 (by omega) (by omega))
      · skip
        refine g_lload_n C dX4_mixedInto_22 rfl 2 rfl ?_
        refine g_aload_n C dX4_mixedInto_23 rfl 0 rfl ?_
        refine g_getf C (T := TX4) (N := 7) 0 0 rfl rfl rfl inX4 0 (by decide) q1_169 rfl dX4_mixedInto_24 ?_
        refine g_iload C dX4_mixedInto_27 3 rfl ?_
        refine g_caldn C 0 1 i13 rfl rfl rfl (by omega) (by decide) dX4_mixedInto_29 ?_
        refine g_i2l C dX4_mixedInto_30 ?_
        refine g_callSN C (cs1 := [wT E at_ θ]) (st1 := [.long (fX6_mixed (lpF (fX4_mixedInto_L13 θ z) (fX6_mixed z ((θ.1 0).toInt64)) i13) ((θ.2 0 i13).toInt64))]) [.long (lpF (fX4_mixedInto_L13 θ z) (fX6_mixed z ((θ.1 0).toInt64)) i13), .long ((θ.2 0 i13).toInt64)] [] (kX6_mixed l E (lpF (fX4_mixedInto_L13 θ z) (fX6_mixed z ((θ.1 0).toInt64)) i13) ((θ.2 0 i13).toInt64)) caX6_mixed (host := RX6) (by decide +kernel) rfl ⟨Nat.le_of_ble_eq_true rfl, Nat.le_of_ble_eq_true rfl⟩ ⟨Nat.zero_le _, Nat.zero_le _⟩ (by decide) rfl rfl rfl rfl (Nat.le_of_ble_eq_true rfl) dX4_mixedInto_31 rfl ?_
        refine g_lstore_n C (lv1 := [(3, .long (fX6_mixed (lpF (fX4_mixedInto_L13 θ z) (fX6_mixed z ((θ.1 0).toInt64)) i13) ((θ.2 0 i13).toInt64))), (0, .ref (at_ 0)), (1, .long z), (5, .int (nI i13))]) dX4_mixedInto_34 rfl (by decide) rfl ?_
        refine g_iinc C (v := nI (i13 + 1)) (lv1 := [(5, .int (nI (i13 + 1))), (3, .long (fX6_mixed (lpF (fX4_mixedInto_L13 θ z) (fX6_mixed z ((θ.1 0).toInt64)) i13) ((θ.2 0 i13).toInt64))), (0, .ref (at_ 0)), (1, .long z)]) dX4_mixedInto_35 3 rfl (nI_1 i13) (by decide) rfl ?_
        refine g_goto C 13 dX4_mixedInto_38 (by decide) ?_
        have e_8 : (lpF (fX4_mixedInto_L13 θ z) (fX6_mixed z ((θ.1 0).toInt64)) (i13 + 1)) = (fX6_mixed (lpF (fX4_mixedInto_L13 θ z) (fX6_mixed z ((θ.1 0).toInt64)) i13) ((θ.2 0 i13).toInt64)) := by
          rw [lpF_1, fX4_mixedInto_L13]
        have h_9 := ih_4 (i13 + 1) (by omega)
        rw [e_8] at h_9
        exact g_sub [2, 3, 1, 0] rfl h_9
  refine g_sub [2, 3, 1, 0] (lv1 := [(0, .ref (at_ 0)), (1, .long z), (3, .long (fX6_mixed z ((θ.1 0).toInt64))), (5, .int 0)]) rfl ?_
  exact hL_3 (len θ) 0 (by omega)
def fX4_digitHere (θ : BS) : Int32 :=
  if (θ.1 0) ≤ (θ.1 1) then (-1) else (if (θ.2 0 (pos θ)) < 48 then (-1) else (if (θ.2 0 (pos θ)) ≤ 57 then (θ.2 0 (pos θ)) - 48 else (-1)))
theorem caX4_digitHere : gCalV yX4_digitHere cX4_digitHere 1 (some .int) 0 := ⟨⟨q2_3, q1_5, by decide +kernel⟩, q2_2, qs_3⟩
set_option maxHeartbeats 4000000 in
set_option maxRecDepth 100000 in
theorem kX4_digitHere (l : Launch) (E : gE) (at_ : Nat → Nat) (θ : BS) (hv : vT θ)   : MC l E yX4_digitHere cX4_digitHere 1 (some .int) 0 0 [.ref (at_ 0)] [wT E at_ θ] (some (.int (fX4_digitHere θ))) [wT E at_ θ] := by
  have hv1 : len θ ≤ 60 := hv.1
  have hv3 : pos θ ≤ 60 := hv.2.2.1
  have hv5 : oc θ ≤ 20 := hv.2.2.2.2.1
  refine mc_of (by decide +kernel) (Nat.le_of_ble_eq_true rfl) (lv := [(0, .ref (at_ 0))]) rfl (fun X C hE => ?_)
  refine g_aload_n C dX4_digitHere_0 rfl 0 rfl ?_
  refine g_getf C (T := TX4) (N := 7) 0 0 rfl rfl rfl inX4 2 (by decide) q1_171 rfl dX4_digitHere_1 ?_
  refine g_aload_n C dX4_digitHere_4 rfl 0 rfl ?_
  refine g_getf C (T := TX4) (N := 7) 0 0 rfl rfl rfl inX4 1 (by decide) q1_170 rfl dX4_digitHere_5 ?_
  refine g_icmp_ge C 39 dX4_digitHere_8 (by decide) (fun c_1 => ?_) (fun c_1 => ?_)
  · skip
    refine g_iconst C (v := -1) dX4_digitHere_39 (by decide) ?_
    have e_2 : fX4_digitHere θ = (-1) := by rw [fX4_digitHere]; rw [if_pos c_1]
    exact g_iret C hE (by rw [e_2]) rfl dX4_digitHere_40
  · skip
    have hp := vT_lt hv c_1
    refine g_aload_n C dX4_digitHere_11 rfl 0 rfl ?_
    refine g_getf C (T := TX4) (N := 7) 0 0 rfl rfl rfl inX4 0 (by decide) q1_169 rfl dX4_digitHere_12 ?_
    refine g_aload_n C dX4_digitHere_15 rfl 0 rfl ?_
    refine g_getf C (T := TX4) (N := 7) 0 0 rfl rfl rfl inX4 2 (by decide) q1_171 rfl dX4_digitHere_16 ?_
    refine g_caldn C 0 1 (pos θ) rfl rfl hv.2.2.2.1 (by omega) (by decide) dX4_digitHere_19 ?_
    refine g_bipush C (v := 48) dX4_digitHere_20 (by decide) ?_
    refine g_icmp_lt C 39 dX4_digitHere_22 (by decide) (fun c_3 => ?_) (fun c_3 => ?_)
    · skip
      refine g_iconst C (v := -1) dX4_digitHere_39 (by decide) ?_
      have e_4 : fX4_digitHere θ = (-1) := by rw [fX4_digitHere]; rw [if_neg c_1, if_pos c_3]
      exact g_iret C hE (by rw [e_4]) rfl dX4_digitHere_40
    · skip
      refine g_aload_n C dX4_digitHere_25 rfl 0 rfl ?_
      refine g_getf C (T := TX4) (N := 7) 0 0 rfl rfl rfl inX4 0 (by decide) q1_169 rfl dX4_digitHere_26 ?_
      refine g_aload_n C dX4_digitHere_29 rfl 0 rfl ?_
      refine g_getf C (T := TX4) (N := 7) 0 0 rfl rfl rfl inX4 2 (by decide) q1_171 rfl dX4_digitHere_30 ?_
      refine g_caldn C 0 1 (pos θ) rfl rfl hv.2.2.2.1 (by omega) (by decide) dX4_digitHere_33 ?_
      refine g_bipush C (v := 57) dX4_digitHere_34 (by decide) ?_
      refine g_icmp_le C 41 dX4_digitHere_36 (by decide) (fun c_5 => ?_) (fun c_5 => ?_)
      · skip
        refine g_aload_n C dX4_digitHere_41 rfl 0 rfl ?_
        refine g_getf C (T := TX4) (N := 7) 0 0 rfl rfl rfl inX4 0 (by decide) q1_169 rfl dX4_digitHere_42 ?_
        refine g_aload_n C dX4_digitHere_45 rfl 0 rfl ?_
        refine g_getf C (T := TX4) (N := 7) 0 0 rfl rfl rfl inX4 2 (by decide) q1_171 rfl dX4_digitHere_46 ?_
        refine g_caldn C 0 1 (pos θ) rfl rfl hv.2.2.2.1 (by omega) (by decide) dX4_digitHere_49 ?_
        refine g_bipush C (v := 48) dX4_digitHere_50 (by decide) ?_
        refine g_isub C dX4_digitHere_52 ?_
        have e_6 : fX4_digitHere θ = (θ.2 0 (pos θ)) - 48 := by rw [fX4_digitHere]; rw [if_neg c_1, if_neg c_3, if_pos c_5]
        exact g_iret C hE (by rw [e_6]) rfl dX4_digitHere_53
      · skip
        refine g_iconst C (v := -1) dX4_digitHere_39 (by decide) ?_
        have e_7 : fX4_digitHere θ = (-1) := by rw [fX4_digitHere]; rw [if_neg c_1, if_neg c_3, if_neg c_5]
        exact g_iret C hE (by rw [e_7]) rfl dX4_digitHere_40
theorem digit_lt {θ : BS} (hv : vT θ) (h : ¬ fX4_digitHere θ = (-1)) : pos θ < len θ := by
  rcases Nat.lt_or_ge (pos θ) (len θ) with c | c
  · exact c
  · refine absurd ?_ h
    obtain ⟨h1, h2, h3, h4, h5, h6⟩ := hv
    unfold fX4_digitHere
    rw [if_pos (by rw [h2, h4]; exact nI_le c (by omega))]
def fX4_readSign (θ : BS) (v : Int32) : Bool × BS :=
  if (θ.1 0) ≤ (θ.1 1) then (false, θ) else (if (θ.2 0 (pos θ)) = v then (true, sI θ 1 ((θ.1 1) + 1)) else (false, θ))
theorem caX4_readSign : gCalV yX4_readSign cX4_readSign 2 (some .boolean) 1 := ⟨⟨q2_7, q1_5, by decide +kernel⟩, q2_6, qs_4⟩
set_option maxHeartbeats 4000000 in
set_option maxRecDepth 100000 in
theorem kX4_readSign (l : Launch) (E : gE) (at_ : Nat → Nat) (θ : BS) (hv : vT θ)  (v : Int32) : MC l E yX4_readSign cX4_readSign 2 (some .boolean) 0 0 [.ref (at_ 0), .int v] [wT E at_ θ] (some (.int (b2i (fX4_readSign θ v).1))) [wT E at_ ((fX4_readSign θ v).2)] := by
  have hv1 : len θ ≤ 60 := hv.1
  have hv3 : pos θ ≤ 60 := hv.2.2.1
  have hv5 : oc θ ≤ 20 := hv.2.2.2.2.1
  refine mc_of (by decide +kernel) (Nat.le_of_ble_eq_true rfl) (lv := [(0, .ref (at_ 0)), (1, .int v)]) rfl (fun X C hE => ?_)
  refine g_aload_n C dX4_readSign_0 rfl 0 rfl ?_
  refine g_getf C (T := TX4) (N := 7) 0 0 rfl rfl rfl inX4 2 (by decide) q1_171 rfl dX4_readSign_1 ?_
  refine g_aload_n C dX4_readSign_4 rfl 0 rfl ?_
  refine g_getf C (T := TX4) (N := 7) 0 0 rfl rfl rfl inX4 1 (by decide) q1_170 rfl dX4_readSign_5 ?_
  refine g_icmp_ge C 24 dX4_readSign_8 (by decide) (fun c_1 => ?_) (fun c_1 => ?_)
  · skip
    refine g_iconst C (v := 0) dX4_readSign_24 (by decide) ?_
    have e_2 : fX4_readSign θ v = (false, θ) := by rw [fX4_readSign]; rw [if_pos c_1]
    exact g_zret (b := false) C hE (by rw [e_2]) rfl (by rw [e_2]) dX4_readSign_25
  · skip
    have hp := vT_lt hv c_1
    refine g_aload_n C dX4_readSign_11 rfl 0 rfl ?_
    refine g_getf C (T := TX4) (N := 7) 0 0 rfl rfl rfl inX4 0 (by decide) q1_169 rfl dX4_readSign_12 ?_
    refine g_aload_n C dX4_readSign_15 rfl 0 rfl ?_
    refine g_getf C (T := TX4) (N := 7) 0 0 rfl rfl rfl inX4 2 (by decide) q1_171 rfl dX4_readSign_16 ?_
    refine g_caldn C 0 1 (pos θ) rfl rfl hv.2.2.2.1 (by omega) (by decide) dX4_readSign_19 ?_
    refine g_iload_n C dX4_readSign_20 rfl 1 rfl ?_
    refine g_icmp_eq C 26 dX4_readSign_21 (by decide) (fun c_3 => ?_) (fun c_3 => ?_)
    · skip
      refine g_aload_n C dX4_readSign_26 rfl 0 rfl ?_
      refine g_dup C dX4_readSign_27 rfl ?_
      refine g_getf C (T := TX4) (N := 7) 0 0 rfl rfl rfl inX4 2 (by decide) q1_171 rfl dX4_readSign_28 ?_
      refine g_iconst C (v := 1) dX4_readSign_31 (by decide) ?_
      refine g_iadd C dX4_readSign_32 ?_
      refine g_putf C (T := TX4) (N := 7) (ty := .int) (w1 := wT E at_ (sI θ 1 ((θ.1 1) + 1))) (cs1 := [wT E at_ (sI θ 1 ((θ.1 1) + 1))]) 0 0 rfl rfl rfl inX4 tyX4_ok nmX4 2 (by decide) q1_171 rfl (by decide +kernel) rfl rfl (Nat.le_of_ble_eq_true rfl) rfl rfl dX4_readSign_33 ?_
      refine g_iconst C (v := 1) dX4_readSign_36 (by decide) ?_
      have e_4 : fX4_readSign θ v = (true, sI θ 1 ((θ.1 1) + 1)) := by rw [fX4_readSign]; rw [if_neg c_1, if_pos c_3]
      exact g_zret (b := true) C hE (by rw [e_4]) rfl (by rw [e_4]) dX4_readSign_37
    · skip
      refine g_iconst C (v := 0) dX4_readSign_24 (by decide) ?_
      have e_5 : fX4_readSign θ v = (false, θ) := by rw [fX4_readSign]; rw [if_neg c_1, if_neg c_3]
      exact g_zret (b := false) C hE (by rw [e_5]) rfl (by rw [e_5]) dX4_readSign_25
theorem vT_readSign {θ : BS} {v : Int32} (hv : vT θ) : vT (fX4_readSign θ v).2 := by
  unfold fX4_readSign
  split
  · exact hv
  · rename_i c
    split
    · exact vT_inc hv (vT_lt hv c)
    · exact hv
def fX4_readNumber (θ : BS) (a : Int32) (b : Int32) : Int32 × BS :=
  if (fX4_digitHere θ) = (-1) then ((-1), θ) else (if (fX4_digitHere θ) < a then ((-1), θ) else (if (fX4_digitHere θ) ≤ b then (if (fX4_digitHere θ) = 0 then ((fX4_digitHere θ), sI θ 1 ((θ.1 1) + 1)) else (if (fX4_digitHere (sI θ 1 ((θ.1 1) + 1))) = (-1) then ((fX4_digitHere θ), sI θ 1 ((θ.1 1) + 1)) else (if (((fX4_digitHere θ) * 10) + (fX4_digitHere (sI θ 1 ((θ.1 1) + 1)))) ≤ b then (((fX4_digitHere θ) * 10) + (fX4_digitHere (sI θ 1 ((θ.1 1) + 1))), sI (sI θ 1 ((θ.1 1) + 1)) 1 (((sI θ 1 ((θ.1 1) + 1)).1 1) + 1)) else ((fX4_digitHere θ), sI θ 1 ((θ.1 1) + 1))))) else ((-1), θ)))
theorem caX4_readNumber : gCalV yX4_readNumber cX4_readNumber 5 (some .int) 2 := ⟨⟨q1_239, q1_5, by decide +kernel⟩, q1_238, qs_2⟩
set_option maxHeartbeats 4000000 in
set_option maxRecDepth 100000 in
theorem kX4_readNumber (l : Launch) (E : gE) (at_ : Nat → Nat) (θ : BS) (hv : vT θ)  (a : Int32) (b : Int32) : MC l E yX4_readNumber cX4_readNumber 5 (some .int) 1 20 [.ref (at_ 0), .int a, .int b] [wT E at_ θ] (some (.int (fX4_readNumber θ a b).1)) [wT E at_ ((fX4_readNumber θ a b).2)] := by
  have hv1 : len θ ≤ 60 := hv.1
  have hv3 : pos θ ≤ 60 := hv.2.2.1
  have hv5 : oc θ ≤ 20 := hv.2.2.2.2.1
  refine mc_of (by decide +kernel) (Nat.le_of_ble_eq_true rfl) (lv := [(0, .ref (at_ 0)), (1, .int a), (2, .int b)]) rfl (fun X C hE => ?_)
  refine g_aload_n C dX4_readNumber_0 rfl 0 rfl ?_
  refine g_callV C (cs1 := [wT E at_ θ]) (st1 := [.int (fX4_digitHere θ)]) [] [0] (kX4_digitHere l E at_ θ hv) caX4_digitHere q2_0 rfl ⟨Nat.le_of_ble_eq_true rfl, Nat.le_of_ble_eq_true rfl⟩ ⟨Nat.zero_le _, Nat.zero_le _⟩ 0 0 rfl rfl rfl rfl (by decide) rfl rfl rfl rfl (Nat.le_of_ble_eq_true rfl) dX4_readNumber_1 rfl ?_
  refine g_istore_n C (lv1 := [(3, .int (fX4_digitHere θ)), (0, .ref (at_ 0)), (1, .int a), (2, .int b)]) dX4_readNumber_4 rfl (by decide) rfl ?_
  refine g_iload_n C dX4_readNumber_5 rfl 0 rfl ?_
  refine g_iconst C (v := -1) dX4_readNumber_6 (by decide) ?_
  refine g_icmp_eq C 20 dX4_readNumber_7 (by decide) (fun c_1 => ?_) (fun c_1 => ?_)
  · skip
    refine g_iconst C (v := -1) dX4_readNumber_20 (by decide) ?_
    have e_2 : fX4_readNumber θ a b = ((-1), θ) := by rw [fX4_readNumber]; rw [if_pos c_1]
    exact g_iret C hE (by rw [e_2]) (by rw [e_2]) dX4_readNumber_21
  · skip
    have hp := digit_lt hv c_1
    refine g_iload_n C dX4_readNumber_10 rfl 0 rfl ?_
    refine g_iload_n C dX4_readNumber_11 rfl 2 rfl ?_
    refine g_icmp_lt C 20 dX4_readNumber_12 (by decide) (fun c_3 => ?_) (fun c_3 => ?_)
    · skip
      refine g_iconst C (v := -1) dX4_readNumber_20 (by decide) ?_
      have e_4 : fX4_readNumber θ a b = ((-1), θ) := by rw [fX4_readNumber]; rw [if_neg c_1, if_pos c_3]
      exact g_iret C hE (by rw [e_4]) (by rw [e_4]) dX4_readNumber_21
    · skip
      refine g_iload_n C dX4_readNumber_15 rfl 0 rfl ?_
      refine g_iload_n C dX4_readNumber_16 rfl 3 rfl ?_
      refine g_icmp_le C 22 dX4_readNumber_17 (by decide) (fun c_5 => ?_) (fun c_5 => ?_)
      · skip
        refine g_aload_n C dX4_readNumber_22 rfl 1 rfl ?_
        refine g_dup C dX4_readNumber_23 rfl ?_
        refine g_getf C (T := TX4) (N := 7) 0 0 rfl rfl rfl inX4 2 (by decide) q1_171 rfl dX4_readNumber_24 ?_
        refine g_iconst C (v := 1) dX4_readNumber_27 (by decide) ?_
        refine g_iadd C dX4_readNumber_28 ?_
        refine g_putf C (T := TX4) (N := 7) (ty := .int) (w1 := wT E at_ (sI θ 1 ((θ.1 1) + 1))) (cs1 := [wT E at_ (sI θ 1 ((θ.1 1) + 1))]) 0 0 rfl rfl rfl inX4 tyX4_ok nmX4 2 (by decide) q1_171 rfl (by decide +kernel) rfl rfl (Nat.le_of_ble_eq_true rfl) rfl rfl dX4_readNumber_29 ?_
        refine g_aload_n C dX4_readNumber_32 rfl 1 rfl ?_
        refine g_callV C (cs1 := [wT E at_ (sI θ 1 ((θ.1 1) + 1))]) (st1 := [.int (fX4_digitHere (sI θ 1 ((θ.1 1) + 1)))]) [] [0] (kX4_digitHere l E at_ (sI θ 1 ((θ.1 1) + 1)) (vT_inc hv hp)) caX4_digitHere q2_0 rfl ⟨Nat.le_of_ble_eq_true rfl, Nat.le_of_ble_eq_true rfl⟩ ⟨Nat.zero_le _, Nat.zero_le _⟩ 0 0 rfl rfl rfl rfl (by decide) rfl rfl rfl rfl (Nat.le_of_ble_eq_true rfl) dX4_readNumber_33 rfl ?_
        refine g_istore C (lv1 := [(4, .int (fX4_digitHere (sI θ 1 ((θ.1 1) + 1)))), (3, .int (fX4_digitHere θ)), (0, .ref (at_ 0)), (1, .int a), (2, .int b)]) dX4_readNumber_36 (by decide) rfl ?_
        refine g_iload_n C dX4_readNumber_38 rfl 1 rfl ?_
        refine g_if_eq C 59 dX4_readNumber_39 (by decide) (fun c_6 => ?_) (fun c_6 => ?_)
        · skip
          refine g_iload_n C dX4_readNumber_59 rfl 1 rfl ?_
          have e_7 : fX4_readNumber θ a b = ((fX4_digitHere θ), sI θ 1 ((θ.1 1) + 1)) := by rw [fX4_readNumber]; rw [if_neg c_1, if_neg c_3, if_pos c_5, if_pos c_6]
          exact g_iret C hE (by rw [e_7]) (by rw [e_7]) dX4_readNumber_60
        · skip
          refine g_iload C dX4_readNumber_42 0 rfl ?_
          refine g_iconst C (v := -1) dX4_readNumber_44 (by decide) ?_
          refine g_icmp_eq C 59 dX4_readNumber_45 (by decide) (fun c_8 => ?_) (fun c_8 => ?_)
          · skip
            refine g_iload_n C dX4_readNumber_59 rfl 1 rfl ?_
            have e_9 : fX4_readNumber θ a b = ((fX4_digitHere θ), sI θ 1 ((θ.1 1) + 1)) := by rw [fX4_readNumber]; rw [if_neg c_1, if_neg c_3, if_pos c_5, if_neg c_6, if_pos c_8]
            exact g_iret C hE (by rw [e_9]) (by rw [e_9]) dX4_readNumber_60
          · skip
            have hp2 := digit_lt (vT_inc hv hp) c_8
            refine g_iload_n C dX4_readNumber_48 rfl 1 rfl ?_
            refine g_bipush C (v := 10) dX4_readNumber_49 (by decide) ?_
            refine g_imul C dX4_readNumber_51 ?_
            refine g_iload C dX4_readNumber_52 0 rfl ?_
            refine g_iadd C dX4_readNumber_54 ?_
            refine g_iload_n C dX4_readNumber_55 rfl 4 rfl ?_
            refine g_icmp_le C 61 dX4_readNumber_56 (by decide) (fun c_10 => ?_) (fun c_10 => ?_)
            · skip
              refine g_aload_n C dX4_readNumber_61 rfl 2 rfl ?_
              refine g_dup C dX4_readNumber_62 rfl ?_
              refine g_getf C (T := TX4) (N := 7) 0 0 rfl rfl rfl inX4 2 (by decide) q1_171 rfl dX4_readNumber_63 ?_
              refine g_iconst C (v := 1) dX4_readNumber_66 (by decide) ?_
              refine g_iadd C dX4_readNumber_67 ?_
              refine g_putf C (T := TX4) (N := 7) (ty := .int) (w1 := wT E at_ (sI (sI θ 1 ((θ.1 1) + 1)) 1 (((sI θ 1 ((θ.1 1) + 1)).1 1) + 1))) (cs1 := [wT E at_ (sI (sI θ 1 ((θ.1 1) + 1)) 1 (((sI θ 1 ((θ.1 1) + 1)).1 1) + 1))]) 0 0 rfl rfl rfl inX4 tyX4_ok nmX4 2 (by decide) q1_171 rfl (by decide +kernel) rfl rfl (Nat.le_of_ble_eq_true rfl) rfl rfl dX4_readNumber_68 ?_
              refine g_iload_n C dX4_readNumber_71 rfl 1 rfl ?_
              refine g_bipush C (v := 10) dX4_readNumber_72 (by decide) ?_
              refine g_imul C dX4_readNumber_74 ?_
              refine g_iload C dX4_readNumber_75 0 rfl ?_
              refine g_iadd C dX4_readNumber_77 ?_
              have e_11 : fX4_readNumber θ a b = (((fX4_digitHere θ) * 10) + (fX4_digitHere (sI θ 1 ((θ.1 1) + 1))), sI (sI θ 1 ((θ.1 1) + 1)) 1 (((sI θ 1 ((θ.1 1) + 1)).1 1) + 1)) := by rw [fX4_readNumber]; rw [if_neg c_1, if_neg c_3, if_pos c_5, if_neg c_6, if_neg c_8, if_pos c_10]
              exact g_iret C hE (by rw [e_11]) (by rw [e_11]) dX4_readNumber_78
            · skip
              refine g_iload_n C dX4_readNumber_59 rfl 1 rfl ?_
              have e_12 : fX4_readNumber θ a b = ((fX4_digitHere θ), sI θ 1 ((θ.1 1) + 1)) := by rw [fX4_readNumber]; rw [if_neg c_1, if_neg c_3, if_pos c_5, if_neg c_6, if_neg c_8, if_neg c_10]
              exact g_iret C hE (by rw [e_12]) (by rw [e_12]) dX4_readNumber_60
      · skip
        refine g_iconst C (v := -1) dX4_readNumber_20 (by decide) ?_
        have e_13 : fX4_readNumber θ a b = ((-1), θ) := by rw [fX4_readNumber]; rw [if_neg c_1, if_neg c_3, if_neg c_5]
        exact g_iret C hE (by rw [e_13]) (by rw [e_13]) dX4_readNumber_21
theorem vT_readNumber {θ : BS} {a b : Int32} (hv : vT θ) : vT (fX4_readNumber θ a b).2 := by
  unfold fX4_readNumber
  split
  · exact hv
  · rename_i c
    have h1 := vT_inc hv (digit_lt hv c)
    (repeat' split) <;> (first | exact hv | exact h1 | exact vT_inc h1 (digit_lt h1 (by assumption)))
def fX4_noteOrder (θ : BS) (x : Int32) (a : Int32) (b : Int32) : Bool × BS :=
  if (θ.1 2) < 20 then (true, sI (sE (sE (sE θ 1 (oc θ) (vp_nar .char x)) 2 (oc θ) a) 3 (oc θ) b) 2 (((sE (sE (sE θ 1 (oc θ) (vp_nar .char x)) 2 (oc θ) a) 3 (oc θ) b).1 2) + 1)) else (false, θ)
theorem caX4_noteOrder : gCalV yX4_noteOrder cX4_noteOrder 4 (some .boolean) 3 := ⟨⟨q2_11, q1_5, by decide +kernel⟩, q2_10, qs_5⟩
set_option maxHeartbeats 4000000 in
set_option maxRecDepth 100000 in
theorem kX4_noteOrder (l : Launch) (E : gE) (at_ : Nat → Nat) (θ : BS) (hv : vT θ)  (x : Int32) (a : Int32) (b : Int32) : MC l E yX4_noteOrder cX4_noteOrder 4 (some .boolean) 0 0 [.ref (at_ 0), .int x, .int a, .int b] [wT E at_ θ] (some (.int (b2i (fX4_noteOrder θ x a b).1))) [wT E at_ ((fX4_noteOrder θ x a b).2)] := by
  have hv1 : len θ ≤ 60 := hv.1
  have hv3 : pos θ ≤ 60 := hv.2.2.1
  have hv5 : oc θ ≤ 20 := hv.2.2.2.2.1
  refine mc_of (by decide +kernel) (Nat.le_of_ble_eq_true rfl) (lv := [(0, .ref (at_ 0)), (1, .int x), (2, .int a), (3, .int b)]) rfl (fun X C hE => ?_)
  refine g_aload_n C dX4_noteOrder_0 rfl 0 rfl ?_
  refine g_getf C (T := TX4) (N := 7) 0 0 rfl rfl rfl inX4 6 (by decide) q1_175 rfl dX4_noteOrder_1 ?_
  refine g_bipush C (v := 20) dX4_noteOrder_4 (by decide) ?_
  refine g_icmp_lt C 11 dX4_noteOrder_6 (by decide) (fun c_1 => ?_) (fun c_1 => ?_)
  · skip
    have hp := lc_ilt hv.2.2.2.2.2 nI_l20 (by omega) (by omega) c_1
    refine g_aload_n C dX4_noteOrder_11 rfl 0 rfl ?_
    refine g_getf C (T := TX4) (N := 7) 0 0 rfl rfl rfl inX4 3 (by decide) q1_172 rfl dX4_noteOrder_12 ?_
    refine g_aload_n C dX4_noteOrder_15 rfl 0 rfl ?_
    refine g_getf C (T := TX4) (N := 7) 0 0 rfl rfl rfl inX4 6 (by decide) q1_175 rfl dX4_noteOrder_16 ?_
    refine g_iload_n C dX4_noteOrder_19 rfl 1 rfl ?_
    refine g_castn C (w1 := wT E at_ (sE θ 1 (oc θ) (vp_nar .char x))) (cs1 := [wT E at_ (sE θ 1 (oc θ) (vp_nar .char x))]) 0 2 (oc θ) rfl rfl hv.2.2.2.2.2 (by omega) (by decide) rfl rfl dX4_noteOrder_20 ?_
    refine g_aload_n C dX4_noteOrder_21 rfl 0 rfl ?_
    refine g_getf C (T := TX4) (N := 7) 0 0 rfl rfl rfl inX4 4 (by decide) q1_173 rfl dX4_noteOrder_22 ?_
    refine g_aload_n C dX4_noteOrder_25 rfl 0 rfl ?_
    refine g_getf C (T := TX4) (N := 7) 0 0 rfl rfl rfl inX4 6 (by decide) q1_175 rfl dX4_noteOrder_26 ?_
    refine g_iload_n C dX4_noteOrder_29 rfl 2 rfl ?_
    refine g_iastn C (w1 := wT E at_ (sE (sE θ 1 (oc θ) (vp_nar .char x)) 2 (oc θ) a)) (cs1 := [wT E at_ (sE (sE θ 1 (oc θ) (vp_nar .char x)) 2 (oc θ) a)]) 0 3 (oc θ) rfl rfl hv.2.2.2.2.2 (by omega) (by decide) rfl rfl dX4_noteOrder_30 ?_
    refine g_aload_n C dX4_noteOrder_31 rfl 0 rfl ?_
    refine g_getf C (T := TX4) (N := 7) 0 0 rfl rfl rfl inX4 5 (by decide) q1_174 rfl dX4_noteOrder_32 ?_
    refine g_aload_n C dX4_noteOrder_35 rfl 0 rfl ?_
    refine g_getf C (T := TX4) (N := 7) 0 0 rfl rfl rfl inX4 6 (by decide) q1_175 rfl dX4_noteOrder_36 ?_
    refine g_iload_n C dX4_noteOrder_39 rfl 3 rfl ?_
    refine g_iastn C (w1 := wT E at_ (sE (sE (sE θ 1 (oc θ) (vp_nar .char x)) 2 (oc θ) a) 3 (oc θ) b)) (cs1 := [wT E at_ (sE (sE (sE θ 1 (oc θ) (vp_nar .char x)) 2 (oc θ) a) 3 (oc θ) b)]) 0 4 (oc θ) rfl rfl hv.2.2.2.2.2 (by omega) (by decide) rfl rfl dX4_noteOrder_40 ?_
    refine g_aload_n C dX4_noteOrder_41 rfl 0 rfl ?_
    refine g_dup C dX4_noteOrder_42 rfl ?_
    refine g_getf C (T := TX4) (N := 7) 0 0 rfl rfl rfl inX4 6 (by decide) q1_175 rfl dX4_noteOrder_43 ?_
    refine g_iconst C (v := 1) dX4_noteOrder_46 (by decide) ?_
    refine g_iadd C dX4_noteOrder_47 ?_
    refine g_putf C (T := TX4) (N := 7) (ty := .int) (w1 := wT E at_ (sI (sE (sE (sE θ 1 (oc θ) (vp_nar .char x)) 2 (oc θ) a) 3 (oc θ) b) 2 (((sE (sE (sE θ 1 (oc θ) (vp_nar .char x)) 2 (oc θ) a) 3 (oc θ) b).1 2) + 1))) (cs1 := [wT E at_ (sI (sE (sE (sE θ 1 (oc θ) (vp_nar .char x)) 2 (oc θ) a) 3 (oc θ) b) 2 (((sE (sE (sE θ 1 (oc θ) (vp_nar .char x)) 2 (oc θ) a) 3 (oc θ) b).1 2) + 1))]) 0 0 rfl rfl rfl inX4 tyX4_ok nmX4 6 (by decide) q1_175 rfl (by decide +kernel) rfl rfl (Nat.le_of_ble_eq_true rfl) rfl rfl dX4_noteOrder_48 ?_
    refine g_iconst C (v := 1) dX4_noteOrder_51 (by decide) ?_
    have e_2 : fX4_noteOrder θ x a b = (true, sI (sE (sE (sE θ 1 (oc θ) (vp_nar .char x)) 2 (oc θ) a) 3 (oc θ) b) 2 (((sE (sE (sE θ 1 (oc θ) (vp_nar .char x)) 2 (oc θ) a) 3 (oc θ) b).1 2) + 1)) := by rw [fX4_noteOrder]; rw [if_pos c_1]
    exact g_zret (b := true) C hE (by rw [e_2]) rfl (by rw [e_2]) dX4_noteOrder_52
  · skip
    refine g_iconst C (v := 0) dX4_noteOrder_9 (by decide) ?_
    have e_3 : fX4_noteOrder θ x a b = (false, θ) := by rw [fX4_noteOrder]; rw [if_neg c_1]
    exact g_zret (b := false) C hE (by rw [e_3]) rfl (by rw [e_3]) dX4_noteOrder_10
theorem vT_noteOrder {θ : BS} {x a b : Int32} (hv : vT θ) : vT (fX4_noteOrder θ x a b).2 := by
  have h5 : oc θ ≤ 20 := hv.2.2.2.2.1
  unfold fX4_noteOrder
  split
  · rename_i c
    exact vT_oc1 (θ := sE (sE (sE θ 1 (oc θ) (vp_nar .char x)) 2 (oc θ) a) 3 (oc θ) b) hv (show oc θ < 20 from lc_ilt hv.2.2.2.2.2 nI_l20 (by omega) (by omega) c)
  · exact hv
def fX4_readOpening (θ : BS) : Bool × BS :=
  if ((fX4_readNumber (sI θ 1 ((θ.1 1) + 1)) 1 13).1) = (-1) then (false, (fX4_readNumber (sI θ 1 ((θ.1 1) + 1)) 1 13).2) else (if ((fX4_readSign ((fX4_readNumber (sI θ 1 ((θ.1 1) + 1)) 1 13).2) 33).1) = true then (if ((fX4_readNumber ((fX4_readSign ((fX4_readNumber (sI θ 1 ((θ.1 1) + 1)) 1 13).2) 33).2) 0 3).1) = (-1) then (false, (fX4_readNumber ((fX4_readSign ((fX4_readNumber (sI θ 1 ((θ.1 1) + 1)) 1 13).2) 33).2) 0 3).2) else (if ((fX4_noteOrder ((fX4_readNumber ((fX4_readSign ((fX4_readNumber (sI θ 1 ((θ.1 1) + 1)) 1 13).2) 33).2) 0 3).2) (θ.2 0 (pos θ)) ((fX4_readNumber (sI θ 1 ((θ.1 1) + 1)) 1 13).1) ((fX4_readNumber ((fX4_readSign ((fX4_readNumber (sI θ 1 ((θ.1 1) + 1)) 1 13).2) 33).2) 0 3).1)).1) = true then (true, (fX4_noteOrder ((fX4_readNumber ((fX4_readSign ((fX4_readNumber (sI θ 1 ((θ.1 1) + 1)) 1 13).2) 33).2) 0 3).2) (θ.2 0 (pos θ)) ((fX4_readNumber (sI θ 1 ((θ.1 1) + 1)) 1 13).1) ((fX4_readNumber ((fX4_readSign ((fX4_readNumber (sI θ 1 ((θ.1 1) + 1)) 1 13).2) 33).2) 0 3).1)).2) else (false, (fX4_noteOrder ((fX4_readNumber ((fX4_readSign ((fX4_readNumber (sI θ 1 ((θ.1 1) + 1)) 1 13).2) 33).2) 0 3).2) (θ.2 0 (pos θ)) ((fX4_readNumber (sI θ 1 ((θ.1 1) + 1)) 1 13).1) ((fX4_readNumber ((fX4_readSign ((fX4_readNumber (sI θ 1 ((θ.1 1) + 1)) 1 13).2) 33).2) 0 3).1)).2))) else (if ((fX4_noteOrder ((fX4_readSign ((fX4_readNumber (sI θ 1 ((θ.1 1) + 1)) 1 13).2) 33).2) (θ.2 0 (pos θ)) ((fX4_readNumber (sI θ 1 ((θ.1 1) + 1)) 1 13).1) 1).1) = true then (true, (fX4_noteOrder ((fX4_readSign ((fX4_readNumber (sI θ 1 ((θ.1 1) + 1)) 1 13).2) 33).2) (θ.2 0 (pos θ)) ((fX4_readNumber (sI θ 1 ((θ.1 1) + 1)) 1 13).1) 1).2) else (false, (fX4_noteOrder ((fX4_readSign ((fX4_readNumber (sI θ 1 ((θ.1 1) + 1)) 1 13).2) 33).2) (θ.2 0 (pos θ)) ((fX4_readNumber (sI θ 1 ((θ.1 1) + 1)) 1 13).1) 1).2)))
theorem caX4_readOpening : gCalV yX4_readOpening cX4_readOpening 4 (some .boolean) 0 := ⟨⟨q1_235, q1_5, by decide +kernel⟩, q1_234, qs_1⟩
set_option maxHeartbeats 4000000 in
set_option maxRecDepth 100000 in
theorem kX4_readOpening (l : Launch) (E : gE) (at_ : Nat → Nat) (θ : BS) (hv : vT θ)   (hp : pos θ < len θ) : MC l E yX4_readOpening cX4_readOpening 4 (some .boolean) 2 44 [.ref (at_ 0)] [wT E at_ θ] (some (.int (b2i (fX4_readOpening θ).1))) [wT E at_ ((fX4_readOpening θ).2)] := by
  have hv1 : len θ ≤ 60 := hv.1
  have hv3 : pos θ ≤ 60 := hv.2.2.1
  have hv5 : oc θ ≤ 20 := hv.2.2.2.2.1
  refine mc_of (by decide +kernel) (Nat.le_of_ble_eq_true rfl) (lv := [(0, .ref (at_ 0))]) rfl (fun X C hE => ?_)
  refine g_aload_n C dX4_readOpening_0 rfl 0 rfl ?_
  refine g_getf C (T := TX4) (N := 7) 0 0 rfl rfl rfl inX4 0 (by decide) q1_169 rfl dX4_readOpening_1 ?_
  refine g_aload_n C dX4_readOpening_4 rfl 0 rfl ?_
  refine g_getf C (T := TX4) (N := 7) 0 0 rfl rfl rfl inX4 2 (by decide) q1_171 rfl dX4_readOpening_5 ?_
  refine g_caldn C 0 1 (pos θ) rfl rfl hv.2.2.2.1 (by omega) (by decide) dX4_readOpening_8 ?_
  refine g_istore_n C (lv1 := [(1, .int (θ.2 0 (pos θ))), (0, .ref (at_ 0))]) dX4_readOpening_9 rfl (by decide) rfl ?_
  refine g_aload_n C dX4_readOpening_10 rfl 1 rfl ?_
  refine g_dup C dX4_readOpening_11 rfl ?_
  refine g_getf C (T := TX4) (N := 7) 0 0 rfl rfl rfl inX4 2 (by decide) q1_171 rfl dX4_readOpening_12 ?_
  refine g_iconst C (v := 1) dX4_readOpening_15 (by decide) ?_
  refine g_iadd C dX4_readOpening_16 ?_
  refine g_putf C (T := TX4) (N := 7) (ty := .int) (w1 := wT E at_ (sI θ 1 ((θ.1 1) + 1))) (cs1 := [wT E at_ (sI θ 1 ((θ.1 1) + 1))]) 0 0 rfl rfl rfl inX4 tyX4_ok nmX4 2 (by decide) q1_171 rfl (by decide +kernel) rfl rfl (Nat.le_of_ble_eq_true rfl) rfl rfl dX4_readOpening_17 ?_
  refine g_aload_n C dX4_readOpening_20 rfl 1 rfl ?_
  refine g_iconst C (v := 1) dX4_readOpening_21 (by decide) ?_
  refine g_bipush C (v := 13) dX4_readOpening_22 (by decide) ?_
  refine g_callV C (cs1 := [wT E at_ ((fX4_readNumber (sI θ 1 ((θ.1 1) + 1)) 1 13).2)]) (st1 := [.int ((fX4_readNumber (sI θ 1 ((θ.1 1) + 1)) 1 13).1)]) [.int 1, .int 13] [0] (kX4_readNumber l E at_ (sI θ 1 ((θ.1 1) + 1)) (vT_inc hv hp) 1 13) caX4_readNumber q1_236 rfl ⟨Nat.le_of_ble_eq_true rfl, Nat.le_of_ble_eq_true rfl⟩ ⟨Nat.zero_le _, Nat.zero_le _⟩ 0 0 rfl rfl rfl rfl (by decide) rfl rfl rfl rfl (Nat.le_of_ble_eq_true rfl) dX4_readOpening_24 rfl ?_
  refine g_istore_n C (lv1 := [(2, .int ((fX4_readNumber (sI θ 1 ((θ.1 1) + 1)) 1 13).1)), (1, .int (θ.2 0 (pos θ))), (0, .ref (at_ 0))]) dX4_readOpening_27 rfl (by decide) rfl ?_
  refine g_iload_n C dX4_readOpening_28 rfl 0 rfl ?_
  refine g_iconst C (v := -1) dX4_readOpening_29 (by decide) ?_
  refine g_icmp_ne C 35 dX4_readOpening_30 (by decide) (fun c_1 => ?_) (fun c_1 => ?_)
  · skip
    refine g_aload_n C dX4_readOpening_35 rfl 2 rfl ?_
    refine g_bipush C (v := 33) dX4_readOpening_36 (by decide) ?_
    refine g_callV C (cs1 := [wT E at_ ((fX4_readSign ((fX4_readNumber (sI θ 1 ((θ.1 1) + 1)) 1 13).2) 33).2)]) (st1 := [.int (b2i ((fX4_readSign ((fX4_readNumber (sI θ 1 ((θ.1 1) + 1)) 1 13).2) 33).1))]) [.int 33] [0] (kX4_readSign l E at_ ((fX4_readNumber (sI θ 1 ((θ.1 1) + 1)) 1 13).2) (vT_readNumber (vT_inc hv hp)) 33) caX4_readSign q2_4 rfl ⟨Nat.le_of_ble_eq_true rfl, Nat.le_of_ble_eq_true rfl⟩ ⟨Nat.zero_le _, Nat.zero_le _⟩ 0 0 rfl rfl rfl rfl (by decide) rfl rfl rfl rfl (Nat.le_of_ble_eq_true rfl) dX4_readOpening_38 rfl ?_
    refine g_ifB_eq C 53 dX4_readOpening_41 (by decide) (fun c_2 => ?_) (fun c_2 => ?_)
    · skip
      refine g_iconst C (v := 1) dX4_readOpening_53 (by decide) ?_
      refine g_istore_n C (lv1 := [(3, .int 1), (2, .int ((fX4_readNumber (sI θ 1 ((θ.1 1) + 1)) 1 13).1)), (1, .int (θ.2 0 (pos θ))), (0, .ref (at_ 0))]) dX4_readOpening_54 rfl (by decide) rfl ?_
      refine g_iload_n C dX4_readOpening_55 rfl 0 rfl ?_
      refine g_iconst C (v := -1) dX4_readOpening_56 (by decide) ?_
      refine g_icmp_eq C 74 dX4_readOpening_57 (by decide) (fun c_3 => ?_) (fun c_3 => ?_)
      · exact absurd c_3 (by decide)
      · skip
        refine g_aload_n C dX4_readOpening_60 rfl 3 rfl ?_
        refine g_iload_n C dX4_readOpening_61 rfl 2 rfl ?_
        refine g_iload_n C dX4_readOpening_62 rfl 1 rfl ?_
        refine g_iload_n C dX4_readOpening_63 rfl 0 rfl ?_
        refine g_callV C (cs1 := [wT E at_ ((fX4_noteOrder ((fX4_readSign ((fX4_readNumber (sI θ 1 ((θ.1 1) + 1)) 1 13).2) 33).2) (θ.2 0 (pos θ)) ((fX4_readNumber (sI θ 1 ((θ.1 1) + 1)) 1 13).1) 1).2)]) (st1 := [.int (b2i ((fX4_noteOrder ((fX4_readSign ((fX4_readNumber (sI θ 1 ((θ.1 1) + 1)) 1 13).2) 33).2) (θ.2 0 (pos θ)) ((fX4_readNumber (sI θ 1 ((θ.1 1) + 1)) 1 13).1) 1).1))]) [.int (θ.2 0 (pos θ)), .int ((fX4_readNumber (sI θ 1 ((θ.1 1) + 1)) 1 13).1), .int 1] [0] (kX4_noteOrder l E at_ ((fX4_readSign ((fX4_readNumber (sI θ 1 ((θ.1 1) + 1)) 1 13).2) 33).2) (vT_readSign (vT_readNumber (vT_inc hv hp))) (θ.2 0 (pos θ)) ((fX4_readNumber (sI θ 1 ((θ.1 1) + 1)) 1 13).1) 1) caX4_noteOrder q2_8 rfl ⟨Nat.le_of_ble_eq_true rfl, Nat.le_of_ble_eq_true rfl⟩ ⟨Nat.zero_le _, Nat.zero_le _⟩ 0 0 rfl rfl rfl rfl (by decide) rfl rfl rfl rfl (Nat.le_of_ble_eq_true rfl) dX4_readOpening_64 rfl ?_
        refine g_ifB_eq C 74 dX4_readOpening_67 (by decide) (fun c_4 => ?_) (fun c_4 => ?_)
        · skip
          refine g_iconst C (v := 0) dX4_readOpening_74 (by decide) ?_
          have e_5 : fX4_readOpening θ = (false, (fX4_noteOrder ((fX4_readSign ((fX4_readNumber (sI θ 1 ((θ.1 1) + 1)) 1 13).2) 33).2) (θ.2 0 (pos θ)) ((fX4_readNumber (sI θ 1 ((θ.1 1) + 1)) 1 13).1) 1).2) := by rw [fX4_readOpening]; rw [if_neg c_1, if_neg (ne_true_of_eq_false c_2), if_neg (ne_true_of_eq_false c_4)]
          exact g_zret (b := false) C hE (by rw [e_5]) rfl (by rw [e_5]) dX4_readOpening_75
        · skip
          refine g_iconst C (v := 1) dX4_readOpening_70 (by decide) ?_
          refine g_goto C 75 dX4_readOpening_71 (by decide) ?_
          have e_6 : fX4_readOpening θ = (true, (fX4_noteOrder ((fX4_readSign ((fX4_readNumber (sI θ 1 ((θ.1 1) + 1)) 1 13).2) 33).2) (θ.2 0 (pos θ)) ((fX4_readNumber (sI θ 1 ((θ.1 1) + 1)) 1 13).1) 1).2) := by rw [fX4_readOpening]; rw [if_neg c_1, if_neg (ne_true_of_eq_false c_2), if_pos c_4]
          exact g_zret (b := true) C hE (by rw [e_6]) rfl (by rw [e_6]) dX4_readOpening_75
    · skip
      refine g_aload_n C dX4_readOpening_44 rfl 2 rfl ?_
      refine g_iconst C (v := 0) dX4_readOpening_45 (by decide) ?_
      refine g_iconst C (v := 3) dX4_readOpening_46 (by decide) ?_
      refine g_callV C (cs1 := [wT E at_ ((fX4_readNumber ((fX4_readSign ((fX4_readNumber (sI θ 1 ((θ.1 1) + 1)) 1 13).2) 33).2) 0 3).2)]) (st1 := [.int ((fX4_readNumber ((fX4_readSign ((fX4_readNumber (sI θ 1 ((θ.1 1) + 1)) 1 13).2) 33).2) 0 3).1)]) [.int 0, .int 3] [0] (kX4_readNumber l E at_ ((fX4_readSign ((fX4_readNumber (sI θ 1 ((θ.1 1) + 1)) 1 13).2) 33).2) (vT_readSign (vT_readNumber (vT_inc hv hp))) 0 3) caX4_readNumber q1_236 rfl ⟨Nat.le_of_ble_eq_true rfl, Nat.le_of_ble_eq_true rfl⟩ ⟨Nat.zero_le _, Nat.zero_le _⟩ 0 0 rfl rfl rfl rfl (by decide) rfl rfl rfl rfl (Nat.le_of_ble_eq_true rfl) dX4_readOpening_47 rfl ?_
      refine g_goto C 54 dX4_readOpening_50 (by decide) ?_
      refine g_istore_n C (lv1 := [(3, .int ((fX4_readNumber ((fX4_readSign ((fX4_readNumber (sI θ 1 ((θ.1 1) + 1)) 1 13).2) 33).2) 0 3).1)), (2, .int ((fX4_readNumber (sI θ 1 ((θ.1 1) + 1)) 1 13).1)), (1, .int (θ.2 0 (pos θ))), (0, .ref (at_ 0))]) dX4_readOpening_54 rfl (by decide) rfl ?_
      refine g_iload_n C dX4_readOpening_55 rfl 0 rfl ?_
      refine g_iconst C (v := -1) dX4_readOpening_56 (by decide) ?_
      refine g_icmp_eq C 74 dX4_readOpening_57 (by decide) (fun c_7 => ?_) (fun c_7 => ?_)
      · skip
        refine g_iconst C (v := 0) dX4_readOpening_74 (by decide) ?_
        have e_8 : fX4_readOpening θ = (false, (fX4_readNumber ((fX4_readSign ((fX4_readNumber (sI θ 1 ((θ.1 1) + 1)) 1 13).2) 33).2) 0 3).2) := by rw [fX4_readOpening]; rw [if_neg c_1, if_pos c_2, if_pos c_7]
        exact g_zret (b := false) C hE (by rw [e_8]) rfl (by rw [e_8]) dX4_readOpening_75
      · skip
        refine g_aload_n C dX4_readOpening_60 rfl 3 rfl ?_
        refine g_iload_n C dX4_readOpening_61 rfl 2 rfl ?_
        refine g_iload_n C dX4_readOpening_62 rfl 1 rfl ?_
        refine g_iload_n C dX4_readOpening_63 rfl 0 rfl ?_
        refine g_callV C (cs1 := [wT E at_ ((fX4_noteOrder ((fX4_readNumber ((fX4_readSign ((fX4_readNumber (sI θ 1 ((θ.1 1) + 1)) 1 13).2) 33).2) 0 3).2) (θ.2 0 (pos θ)) ((fX4_readNumber (sI θ 1 ((θ.1 1) + 1)) 1 13).1) ((fX4_readNumber ((fX4_readSign ((fX4_readNumber (sI θ 1 ((θ.1 1) + 1)) 1 13).2) 33).2) 0 3).1)).2)]) (st1 := [.int (b2i ((fX4_noteOrder ((fX4_readNumber ((fX4_readSign ((fX4_readNumber (sI θ 1 ((θ.1 1) + 1)) 1 13).2) 33).2) 0 3).2) (θ.2 0 (pos θ)) ((fX4_readNumber (sI θ 1 ((θ.1 1) + 1)) 1 13).1) ((fX4_readNumber ((fX4_readSign ((fX4_readNumber (sI θ 1 ((θ.1 1) + 1)) 1 13).2) 33).2) 0 3).1)).1))]) [.int (θ.2 0 (pos θ)), .int ((fX4_readNumber (sI θ 1 ((θ.1 1) + 1)) 1 13).1), .int ((fX4_readNumber ((fX4_readSign ((fX4_readNumber (sI θ 1 ((θ.1 1) + 1)) 1 13).2) 33).2) 0 3).1)] [0] (kX4_noteOrder l E at_ ((fX4_readNumber ((fX4_readSign ((fX4_readNumber (sI θ 1 ((θ.1 1) + 1)) 1 13).2) 33).2) 0 3).2) (vT_readNumber (vT_readSign (vT_readNumber (vT_inc hv hp)))) (θ.2 0 (pos θ)) ((fX4_readNumber (sI θ 1 ((θ.1 1) + 1)) 1 13).1) ((fX4_readNumber ((fX4_readSign ((fX4_readNumber (sI θ 1 ((θ.1 1) + 1)) 1 13).2) 33).2) 0 3).1)) caX4_noteOrder q2_8 rfl ⟨Nat.le_of_ble_eq_true rfl, Nat.le_of_ble_eq_true rfl⟩ ⟨Nat.zero_le _, Nat.zero_le _⟩ 0 0 rfl rfl rfl rfl (by decide) rfl rfl rfl rfl (Nat.le_of_ble_eq_true rfl) dX4_readOpening_64 rfl ?_
        refine g_ifB_eq C 74 dX4_readOpening_67 (by decide) (fun c_9 => ?_) (fun c_9 => ?_)
        · skip
          refine g_iconst C (v := 0) dX4_readOpening_74 (by decide) ?_
          have e_10 : fX4_readOpening θ = (false, (fX4_noteOrder ((fX4_readNumber ((fX4_readSign ((fX4_readNumber (sI θ 1 ((θ.1 1) + 1)) 1 13).2) 33).2) 0 3).2) (θ.2 0 (pos θ)) ((fX4_readNumber (sI θ 1 ((θ.1 1) + 1)) 1 13).1) ((fX4_readNumber ((fX4_readSign ((fX4_readNumber (sI θ 1 ((θ.1 1) + 1)) 1 13).2) 33).2) 0 3).1)).2) := by rw [fX4_readOpening]; rw [if_neg c_1, if_pos c_2, if_neg c_7, if_neg (ne_true_of_eq_false c_9)]
          exact g_zret (b := false) C hE (by rw [e_10]) rfl (by rw [e_10]) dX4_readOpening_75
        · skip
          refine g_iconst C (v := 1) dX4_readOpening_70 (by decide) ?_
          refine g_goto C 75 dX4_readOpening_71 (by decide) ?_
          have e_11 : fX4_readOpening θ = (true, (fX4_noteOrder ((fX4_readNumber ((fX4_readSign ((fX4_readNumber (sI θ 1 ((θ.1 1) + 1)) 1 13).2) 33).2) 0 3).2) (θ.2 0 (pos θ)) ((fX4_readNumber (sI θ 1 ((θ.1 1) + 1)) 1 13).1) ((fX4_readNumber ((fX4_readSign ((fX4_readNumber (sI θ 1 ((θ.1 1) + 1)) 1 13).2) 33).2) 0 3).1)).2) := by rw [fX4_readOpening]; rw [if_neg c_1, if_pos c_2, if_neg c_7, if_pos c_9]
          exact g_zret (b := true) C hE (by rw [e_11]) rfl (by rw [e_11]) dX4_readOpening_75
  · skip
    refine g_iconst C (v := 0) dX4_readOpening_33 (by decide) ?_
    have e_12 : fX4_readOpening θ = (false, (fX4_readNumber (sI θ 1 ((θ.1 1) + 1)) 1 13).2) := by rw [fX4_readOpening]; rw [if_pos c_1]
    exact g_zret (b := false) C hE (by rw [e_12]) rfl (by rw [e_12]) dX4_readOpening_34
def fX4_readPair (θ : BS) (a : Int32) (b : Int32) : Bool × BS :=
  if ((fX4_readNumber (sI θ 1 ((θ.1 1) + 1)) 0 19).1) = (-1) then (false, (fX4_readNumber (sI θ 1 ((θ.1 1) + 1)) 0 19).2) else (if ((fX4_readSign ((fX4_readNumber (sI θ 1 ((θ.1 1) + 1)) 0 19).2) a).1) = true then (if ((fX4_readNumber ((fX4_readSign ((fX4_readNumber (sI θ 1 ((θ.1 1) + 1)) 0 19).2) a).2) 0 b).1) = (-1) then (false, (fX4_readNumber ((fX4_readSign ((fX4_readNumber (sI θ 1 ((θ.1 1) + 1)) 0 19).2) a).2) 0 b).2) else (if ((fX4_noteOrder ((fX4_readNumber ((fX4_readSign ((fX4_readNumber (sI θ 1 ((θ.1 1) + 1)) 0 19).2) a).2) 0 b).2) (θ.2 0 (pos θ)) ((fX4_readNumber (sI θ 1 ((θ.1 1) + 1)) 0 19).1) ((fX4_readNumber ((fX4_readSign ((fX4_readNumber (sI θ 1 ((θ.1 1) + 1)) 0 19).2) a).2) 0 b).1)).1) = true then (true, (fX4_noteOrder ((fX4_readNumber ((fX4_readSign ((fX4_readNumber (sI θ 1 ((θ.1 1) + 1)) 0 19).2) a).2) 0 b).2) (θ.2 0 (pos θ)) ((fX4_readNumber (sI θ 1 ((θ.1 1) + 1)) 0 19).1) ((fX4_readNumber ((fX4_readSign ((fX4_readNumber (sI θ 1 ((θ.1 1) + 1)) 0 19).2) a).2) 0 b).1)).2) else (false, (fX4_noteOrder ((fX4_readNumber ((fX4_readSign ((fX4_readNumber (sI θ 1 ((θ.1 1) + 1)) 0 19).2) a).2) 0 b).2) (θ.2 0 (pos θ)) ((fX4_readNumber (sI θ 1 ((θ.1 1) + 1)) 0 19).1) ((fX4_readNumber ((fX4_readSign ((fX4_readNumber (sI θ 1 ((θ.1 1) + 1)) 0 19).2) a).2) 0 b).1)).2))) else (false, (fX4_readSign ((fX4_readNumber (sI θ 1 ((θ.1 1) + 1)) 0 19).2) a).2))
theorem caX4_readPair : gCalV yX4_readPair cX4_readPair 6 (some .boolean) 2 := ⟨⟨q2_15, q1_5, by decide +kernel⟩, q2_14, qs_6⟩
set_option maxHeartbeats 4000000 in
set_option maxRecDepth 100000 in
theorem kX4_readPair (l : Launch) (E : gE) (at_ : Nat → Nat) (θ : BS) (hv : vT θ)  (a : Int32) (b : Int32) (hp : pos θ < len θ) : MC l E yX4_readPair cX4_readPair 6 (some .boolean) 2 44 [.ref (at_ 0), .int a, .int b] [wT E at_ θ] (some (.int (b2i (fX4_readPair θ a b).1))) [wT E at_ ((fX4_readPair θ a b).2)] := by
  have hv1 : len θ ≤ 60 := hv.1
  have hv3 : pos θ ≤ 60 := hv.2.2.1
  have hv5 : oc θ ≤ 20 := hv.2.2.2.2.1
  refine mc_of (by decide +kernel) (Nat.le_of_ble_eq_true rfl) (lv := [(0, .ref (at_ 0)), (1, .int a), (2, .int b)]) rfl (fun X C hE => ?_)
  refine g_aload_n C dX4_readPair_0 rfl 0 rfl ?_
  refine g_getf C (T := TX4) (N := 7) 0 0 rfl rfl rfl inX4 0 (by decide) q1_169 rfl dX4_readPair_1 ?_
  refine g_aload_n C dX4_readPair_4 rfl 0 rfl ?_
  refine g_getf C (T := TX4) (N := 7) 0 0 rfl rfl rfl inX4 2 (by decide) q1_171 rfl dX4_readPair_5 ?_
  refine g_caldn C 0 1 (pos θ) rfl rfl hv.2.2.2.1 (by omega) (by decide) dX4_readPair_8 ?_
  refine g_istore_n C (lv1 := [(3, .int (θ.2 0 (pos θ))), (0, .ref (at_ 0)), (1, .int a), (2, .int b)]) dX4_readPair_9 rfl (by decide) rfl ?_
  refine g_aload_n C dX4_readPair_10 rfl 1 rfl ?_
  refine g_dup C dX4_readPair_11 rfl ?_
  refine g_getf C (T := TX4) (N := 7) 0 0 rfl rfl rfl inX4 2 (by decide) q1_171 rfl dX4_readPair_12 ?_
  refine g_iconst C (v := 1) dX4_readPair_15 (by decide) ?_
  refine g_iadd C dX4_readPair_16 ?_
  refine g_putf C (T := TX4) (N := 7) (ty := .int) (w1 := wT E at_ (sI θ 1 ((θ.1 1) + 1))) (cs1 := [wT E at_ (sI θ 1 ((θ.1 1) + 1))]) 0 0 rfl rfl rfl inX4 tyX4_ok nmX4 2 (by decide) q1_171 rfl (by decide +kernel) rfl rfl (Nat.le_of_ble_eq_true rfl) rfl rfl dX4_readPair_17 ?_
  refine g_aload_n C dX4_readPair_20 rfl 1 rfl ?_
  refine g_iconst C (v := 0) dX4_readPair_21 (by decide) ?_
  refine g_bipush C (v := 19) dX4_readPair_22 (by decide) ?_
  refine g_callV C (cs1 := [wT E at_ ((fX4_readNumber (sI θ 1 ((θ.1 1) + 1)) 0 19).2)]) (st1 := [.int ((fX4_readNumber (sI θ 1 ((θ.1 1) + 1)) 0 19).1)]) [.int 0, .int 19] [0] (kX4_readNumber l E at_ (sI θ 1 ((θ.1 1) + 1)) (vT_inc hv hp) 0 19) caX4_readNumber q1_236 rfl ⟨Nat.le_of_ble_eq_true rfl, Nat.le_of_ble_eq_true rfl⟩ ⟨Nat.zero_le _, Nat.zero_le _⟩ 0 0 rfl rfl rfl rfl (by decide) rfl rfl rfl rfl (Nat.le_of_ble_eq_true rfl) dX4_readPair_24 rfl ?_
  refine g_istore C (lv1 := [(4, .int ((fX4_readNumber (sI θ 1 ((θ.1 1) + 1)) 0 19).1)), (3, .int (θ.2 0 (pos θ))), (0, .ref (at_ 0)), (1, .int a), (2, .int b)]) dX4_readPair_27 (by decide) rfl ?_
  refine g_iload C dX4_readPair_29 0 rfl ?_
  refine g_iconst C (v := -1) dX4_readPair_31 (by decide) ?_
  refine g_icmp_eq C 43 dX4_readPair_32 (by decide) (fun c_1 => ?_) (fun c_1 => ?_)
  · skip
    refine g_iconst C (v := 0) dX4_readPair_43 (by decide) ?_
    have e_2 : fX4_readPair θ a b = (false, (fX4_readNumber (sI θ 1 ((θ.1 1) + 1)) 0 19).2) := by rw [fX4_readPair]; rw [if_pos c_1]
    exact g_zret (b := false) C hE (by rw [e_2]) rfl (by rw [e_2]) dX4_readPair_44
  · skip
    refine g_aload_n C dX4_readPair_35 rfl 2 rfl ?_
    refine g_iload_n C dX4_readPair_36 rfl 3 rfl ?_
    refine g_callV C (cs1 := [wT E at_ ((fX4_readSign ((fX4_readNumber (sI θ 1 ((θ.1 1) + 1)) 0 19).2) a).2)]) (st1 := [.int (b2i ((fX4_readSign ((fX4_readNumber (sI θ 1 ((θ.1 1) + 1)) 0 19).2) a).1))]) [.int a] [0] (kX4_readSign l E at_ ((fX4_readNumber (sI θ 1 ((θ.1 1) + 1)) 0 19).2) (vT_readNumber (vT_inc hv hp)) a) caX4_readSign q2_4 rfl ⟨Nat.le_of_ble_eq_true rfl, Nat.le_of_ble_eq_true rfl⟩ ⟨Nat.zero_le _, Nat.zero_le _⟩ 0 0 rfl rfl rfl rfl (by decide) rfl rfl rfl rfl (Nat.le_of_ble_eq_true rfl) dX4_readPair_37 rfl ?_
    refine g_ifB_ne C 45 dX4_readPair_40 (by decide) (fun c_3 => ?_) (fun c_3 => ?_)
    · skip
      refine g_aload_n C dX4_readPair_45 rfl 2 rfl ?_
      refine g_iconst C (v := 0) dX4_readPair_46 (by decide) ?_
      refine g_iload_n C dX4_readPair_47 rfl 4 rfl ?_
      refine g_callV C (cs1 := [wT E at_ ((fX4_readNumber ((fX4_readSign ((fX4_readNumber (sI θ 1 ((θ.1 1) + 1)) 0 19).2) a).2) 0 b).2)]) (st1 := [.int ((fX4_readNumber ((fX4_readSign ((fX4_readNumber (sI θ 1 ((θ.1 1) + 1)) 0 19).2) a).2) 0 b).1)]) [.int 0, .int b] [0] (kX4_readNumber l E at_ ((fX4_readSign ((fX4_readNumber (sI θ 1 ((θ.1 1) + 1)) 0 19).2) a).2) (vT_readSign (vT_readNumber (vT_inc hv hp))) 0 b) caX4_readNumber q1_236 rfl ⟨Nat.le_of_ble_eq_true rfl, Nat.le_of_ble_eq_true rfl⟩ ⟨Nat.zero_le _, Nat.zero_le _⟩ 0 0 rfl rfl rfl rfl (by decide) rfl rfl rfl rfl (Nat.le_of_ble_eq_true rfl) dX4_readPair_48 rfl ?_
      refine g_istore C (lv1 := [(5, .int ((fX4_readNumber ((fX4_readSign ((fX4_readNumber (sI θ 1 ((θ.1 1) + 1)) 0 19).2) a).2) 0 b).1)), (4, .int ((fX4_readNumber (sI θ 1 ((θ.1 1) + 1)) 0 19).1)), (3, .int (θ.2 0 (pos θ))), (0, .ref (at_ 0)), (1, .int a), (2, .int b)]) dX4_readPair_51 (by decide) rfl ?_
      refine g_iload C dX4_readPair_53 0 rfl ?_
      refine g_iconst C (v := -1) dX4_readPair_55 (by decide) ?_
      refine g_icmp_eq C 75 dX4_readPair_56 (by decide) (fun c_4 => ?_) (fun c_4 => ?_)
      · skip
        refine g_iconst C (v := 0) dX4_readPair_75 (by decide) ?_
        have e_5 : fX4_readPair θ a b = (false, (fX4_readNumber ((fX4_readSign ((fX4_readNumber (sI θ 1 ((θ.1 1) + 1)) 0 19).2) a).2) 0 b).2) := by rw [fX4_readPair]; rw [if_neg c_1, if_pos c_3, if_pos c_4]
        exact g_zret (b := false) C hE (by rw [e_5]) rfl (by rw [e_5]) dX4_readPair_76
      · skip
        refine g_aload_n C dX4_readPair_59 rfl 3 rfl ?_
        refine g_iload_n C dX4_readPair_60 rfl 2 rfl ?_
        refine g_iload C dX4_readPair_61 1 rfl ?_
        refine g_iload C dX4_readPair_63 0 rfl ?_
        refine g_callV C (cs1 := [wT E at_ ((fX4_noteOrder ((fX4_readNumber ((fX4_readSign ((fX4_readNumber (sI θ 1 ((θ.1 1) + 1)) 0 19).2) a).2) 0 b).2) (θ.2 0 (pos θ)) ((fX4_readNumber (sI θ 1 ((θ.1 1) + 1)) 0 19).1) ((fX4_readNumber ((fX4_readSign ((fX4_readNumber (sI θ 1 ((θ.1 1) + 1)) 0 19).2) a).2) 0 b).1)).2)]) (st1 := [.int (b2i ((fX4_noteOrder ((fX4_readNumber ((fX4_readSign ((fX4_readNumber (sI θ 1 ((θ.1 1) + 1)) 0 19).2) a).2) 0 b).2) (θ.2 0 (pos θ)) ((fX4_readNumber (sI θ 1 ((θ.1 1) + 1)) 0 19).1) ((fX4_readNumber ((fX4_readSign ((fX4_readNumber (sI θ 1 ((θ.1 1) + 1)) 0 19).2) a).2) 0 b).1)).1))]) [.int (θ.2 0 (pos θ)), .int ((fX4_readNumber (sI θ 1 ((θ.1 1) + 1)) 0 19).1), .int ((fX4_readNumber ((fX4_readSign ((fX4_readNumber (sI θ 1 ((θ.1 1) + 1)) 0 19).2) a).2) 0 b).1)] [0] (kX4_noteOrder l E at_ ((fX4_readNumber ((fX4_readSign ((fX4_readNumber (sI θ 1 ((θ.1 1) + 1)) 0 19).2) a).2) 0 b).2) (vT_readNumber (vT_readSign (vT_readNumber (vT_inc hv hp)))) (θ.2 0 (pos θ)) ((fX4_readNumber (sI θ 1 ((θ.1 1) + 1)) 0 19).1) ((fX4_readNumber ((fX4_readSign ((fX4_readNumber (sI θ 1 ((θ.1 1) + 1)) 0 19).2) a).2) 0 b).1)) caX4_noteOrder q2_8 rfl ⟨Nat.le_of_ble_eq_true rfl, Nat.le_of_ble_eq_true rfl⟩ ⟨Nat.zero_le _, Nat.zero_le _⟩ 0 0 rfl rfl rfl rfl (by decide) rfl rfl rfl rfl (Nat.le_of_ble_eq_true rfl) dX4_readPair_65 rfl ?_
        refine g_ifB_eq C 75 dX4_readPair_68 (by decide) (fun c_6 => ?_) (fun c_6 => ?_)
        · skip
          refine g_iconst C (v := 0) dX4_readPair_75 (by decide) ?_
          have e_7 : fX4_readPair θ a b = (false, (fX4_noteOrder ((fX4_readNumber ((fX4_readSign ((fX4_readNumber (sI θ 1 ((θ.1 1) + 1)) 0 19).2) a).2) 0 b).2) (θ.2 0 (pos θ)) ((fX4_readNumber (sI θ 1 ((θ.1 1) + 1)) 0 19).1) ((fX4_readNumber ((fX4_readSign ((fX4_readNumber (sI θ 1 ((θ.1 1) + 1)) 0 19).2) a).2) 0 b).1)).2) := by rw [fX4_readPair]; rw [if_neg c_1, if_pos c_3, if_neg c_4, if_neg (ne_true_of_eq_false c_6)]
          exact g_zret (b := false) C hE (by rw [e_7]) rfl (by rw [e_7]) dX4_readPair_76
        · skip
          refine g_iconst C (v := 1) dX4_readPair_71 (by decide) ?_
          refine g_goto C 76 dX4_readPair_72 (by decide) ?_
          have e_8 : fX4_readPair θ a b = (true, (fX4_noteOrder ((fX4_readNumber ((fX4_readSign ((fX4_readNumber (sI θ 1 ((θ.1 1) + 1)) 0 19).2) a).2) 0 b).2) (θ.2 0 (pos θ)) ((fX4_readNumber (sI θ 1 ((θ.1 1) + 1)) 0 19).1) ((fX4_readNumber ((fX4_readSign ((fX4_readNumber (sI θ 1 ((θ.1 1) + 1)) 0 19).2) a).2) 0 b).1)).2) := by rw [fX4_readPair]; rw [if_neg c_1, if_pos c_3, if_neg c_4, if_pos c_6]
          exact g_zret (b := true) C hE (by rw [e_8]) rfl (by rw [e_8]) dX4_readPair_76
    · skip
      refine g_iconst C (v := 0) dX4_readPair_43 (by decide) ?_
      have e_9 : fX4_readPair θ a b = (false, (fX4_readSign ((fX4_readNumber (sI θ 1 ((θ.1 1) + 1)) 0 19).2) a).2) := by rw [fX4_readPair]; rw [if_neg c_1, if_neg (ne_true_of_eq_false c_3)]
      exact g_zret (b := false) C hE (by rw [e_9]) rfl (by rw [e_9]) dX4_readPair_44
def fX4_readSingle (θ : BS) (a : Int32) (b : Int32) : Bool × BS :=
  if ((fX4_readNumber (sI θ 1 ((θ.1 1) + 1)) a b).1) = (-1) then (false, (fX4_readNumber (sI θ 1 ((θ.1 1) + 1)) a b).2) else (if ((fX4_noteOrder ((fX4_readNumber (sI θ 1 ((θ.1 1) + 1)) a b).2) (θ.2 0 (pos θ)) ((fX4_readNumber (sI θ 1 ((θ.1 1) + 1)) a b).1) (-1)).1) = true then (true, (fX4_noteOrder ((fX4_readNumber (sI θ 1 ((θ.1 1) + 1)) a b).2) (θ.2 0 (pos θ)) ((fX4_readNumber (sI θ 1 ((θ.1 1) + 1)) a b).1) (-1)).2) else (false, (fX4_noteOrder ((fX4_readNumber (sI θ 1 ((θ.1 1) + 1)) a b).2) (θ.2 0 (pos θ)) ((fX4_readNumber (sI θ 1 ((θ.1 1) + 1)) a b).1) (-1)).2))
theorem caX4_readSingle : gCalV yX4_readSingle cX4_readSingle 5 (some .boolean) 2 := ⟨⟨q2_19, q1_5, by decide +kernel⟩, q2_18, qs_7⟩
set_option maxHeartbeats 4000000 in
set_option maxRecDepth 100000 in
theorem kX4_readSingle (l : Launch) (E : gE) (at_ : Nat → Nat) (θ : BS) (hv : vT θ)  (a : Int32) (b : Int32) (hp : pos θ < len θ) : MC l E yX4_readSingle cX4_readSingle 5 (some .boolean) 2 44 [.ref (at_ 0), .int a, .int b] [wT E at_ θ] (some (.int (b2i (fX4_readSingle θ a b).1))) [wT E at_ ((fX4_readSingle θ a b).2)] := by
  have hv1 : len θ ≤ 60 := hv.1
  have hv3 : pos θ ≤ 60 := hv.2.2.1
  have hv5 : oc θ ≤ 20 := hv.2.2.2.2.1
  refine mc_of (by decide +kernel) (Nat.le_of_ble_eq_true rfl) (lv := [(0, .ref (at_ 0)), (1, .int a), (2, .int b)]) rfl (fun X C hE => ?_)
  refine g_aload_n C dX4_readSingle_0 rfl 0 rfl ?_
  refine g_getf C (T := TX4) (N := 7) 0 0 rfl rfl rfl inX4 0 (by decide) q1_169 rfl dX4_readSingle_1 ?_
  refine g_aload_n C dX4_readSingle_4 rfl 0 rfl ?_
  refine g_getf C (T := TX4) (N := 7) 0 0 rfl rfl rfl inX4 2 (by decide) q1_171 rfl dX4_readSingle_5 ?_
  refine g_caldn C 0 1 (pos θ) rfl rfl hv.2.2.2.1 (by omega) (by decide) dX4_readSingle_8 ?_
  refine g_istore_n C (lv1 := [(3, .int (θ.2 0 (pos θ))), (0, .ref (at_ 0)), (1, .int a), (2, .int b)]) dX4_readSingle_9 rfl (by decide) rfl ?_
  refine g_aload_n C dX4_readSingle_10 rfl 1 rfl ?_
  refine g_dup C dX4_readSingle_11 rfl ?_
  refine g_getf C (T := TX4) (N := 7) 0 0 rfl rfl rfl inX4 2 (by decide) q1_171 rfl dX4_readSingle_12 ?_
  refine g_iconst C (v := 1) dX4_readSingle_15 (by decide) ?_
  refine g_iadd C dX4_readSingle_16 ?_
  refine g_putf C (T := TX4) (N := 7) (ty := .int) (w1 := wT E at_ (sI θ 1 ((θ.1 1) + 1))) (cs1 := [wT E at_ (sI θ 1 ((θ.1 1) + 1))]) 0 0 rfl rfl rfl inX4 tyX4_ok nmX4 2 (by decide) q1_171 rfl (by decide +kernel) rfl rfl (Nat.le_of_ble_eq_true rfl) rfl rfl dX4_readSingle_17 ?_
  refine g_aload_n C dX4_readSingle_20 rfl 1 rfl ?_
  refine g_iload_n C dX4_readSingle_21 rfl 2 rfl ?_
  refine g_iload_n C dX4_readSingle_22 rfl 3 rfl ?_
  refine g_callV C (cs1 := [wT E at_ ((fX4_readNumber (sI θ 1 ((θ.1 1) + 1)) a b).2)]) (st1 := [.int ((fX4_readNumber (sI θ 1 ((θ.1 1) + 1)) a b).1)]) [.int a, .int b] [0] (kX4_readNumber l E at_ (sI θ 1 ((θ.1 1) + 1)) (vT_inc hv hp) a b) caX4_readNumber q1_236 rfl ⟨Nat.le_of_ble_eq_true rfl, Nat.le_of_ble_eq_true rfl⟩ ⟨Nat.zero_le _, Nat.zero_le _⟩ 0 0 rfl rfl rfl rfl (by decide) rfl rfl rfl rfl (Nat.le_of_ble_eq_true rfl) dX4_readSingle_23 rfl ?_
  refine g_istore C (lv1 := [(4, .int ((fX4_readNumber (sI θ 1 ((θ.1 1) + 1)) a b).1)), (3, .int (θ.2 0 (pos θ))), (0, .ref (at_ 0)), (1, .int a), (2, .int b)]) dX4_readSingle_26 (by decide) rfl ?_
  refine g_iload C dX4_readSingle_28 0 rfl ?_
  refine g_iconst C (v := -1) dX4_readSingle_30 (by decide) ?_
  refine g_icmp_eq C 49 dX4_readSingle_31 (by decide) (fun c_1 => ?_) (fun c_1 => ?_)
  · skip
    refine g_iconst C (v := 0) dX4_readSingle_49 (by decide) ?_
    have e_2 : fX4_readSingle θ a b = (false, (fX4_readNumber (sI θ 1 ((θ.1 1) + 1)) a b).2) := by rw [fX4_readSingle]; rw [if_pos c_1]
    exact g_zret (b := false) C hE (by rw [e_2]) rfl (by rw [e_2]) dX4_readSingle_50
  · skip
    refine g_aload_n C dX4_readSingle_34 rfl 2 rfl ?_
    refine g_iload_n C dX4_readSingle_35 rfl 1 rfl ?_
    refine g_iload C dX4_readSingle_36 0 rfl ?_
    refine g_iconst C (v := -1) dX4_readSingle_38 (by decide) ?_
    refine g_callV C (cs1 := [wT E at_ ((fX4_noteOrder ((fX4_readNumber (sI θ 1 ((θ.1 1) + 1)) a b).2) (θ.2 0 (pos θ)) ((fX4_readNumber (sI θ 1 ((θ.1 1) + 1)) a b).1) (-1)).2)]) (st1 := [.int (b2i ((fX4_noteOrder ((fX4_readNumber (sI θ 1 ((θ.1 1) + 1)) a b).2) (θ.2 0 (pos θ)) ((fX4_readNumber (sI θ 1 ((θ.1 1) + 1)) a b).1) (-1)).1))]) [.int (θ.2 0 (pos θ)), .int ((fX4_readNumber (sI θ 1 ((θ.1 1) + 1)) a b).1), .int (-1)] [0] (kX4_noteOrder l E at_ ((fX4_readNumber (sI θ 1 ((θ.1 1) + 1)) a b).2) (vT_readNumber (vT_inc hv hp)) (θ.2 0 (pos θ)) ((fX4_readNumber (sI θ 1 ((θ.1 1) + 1)) a b).1) (-1)) caX4_noteOrder q2_8 rfl ⟨Nat.le_of_ble_eq_true rfl, Nat.le_of_ble_eq_true rfl⟩ ⟨Nat.zero_le _, Nat.zero_le _⟩ 0 0 rfl rfl rfl rfl (by decide) rfl rfl rfl rfl (Nat.le_of_ble_eq_true rfl) dX4_readSingle_39 rfl ?_
    refine g_ifB_eq C 49 dX4_readSingle_42 (by decide) (fun c_3 => ?_) (fun c_3 => ?_)
    · skip
      refine g_iconst C (v := 0) dX4_readSingle_49 (by decide) ?_
      have e_4 : fX4_readSingle θ a b = (false, (fX4_noteOrder ((fX4_readNumber (sI θ 1 ((θ.1 1) + 1)) a b).2) (θ.2 0 (pos θ)) ((fX4_readNumber (sI θ 1 ((θ.1 1) + 1)) a b).1) (-1)).2) := by rw [fX4_readSingle]; rw [if_neg c_1, if_neg (ne_true_of_eq_false c_3)]
      exact g_zret (b := false) C hE (by rw [e_4]) rfl (by rw [e_4]) dX4_readSingle_50
    · skip
      refine g_iconst C (v := 1) dX4_readSingle_45 (by decide) ?_
      refine g_goto C 50 dX4_readSingle_46 (by decide) ?_
      have e_5 : fX4_readSingle θ a b = (true, (fX4_noteOrder ((fX4_readNumber (sI θ 1 ((θ.1 1) + 1)) a b).2) (θ.2 0 (pos θ)) ((fX4_readNumber (sI θ 1 ((θ.1 1) + 1)) a b).1) (-1)).2) := by rw [fX4_readSingle]; rw [if_neg c_1, if_pos c_3]
      exact g_zret (b := true) C hE (by rw [e_5]) rfl (by rw [e_5]) dX4_readSingle_50
theorem vT_readOpening {θ : BS} (hv : vT θ) (hp : pos θ < len θ) : vT (fX4_readOpening θ).2 := by
  have h1 := vT_readNumber (a := 1) (b := 13) (vT_inc hv hp)
  have h2 := vT_readSign (v := 33) h1
  have h3 := vT_readNumber (a := 0) (b := 3) h2
  unfold fX4_readOpening
  (repeat' split) <;> (first | with_reducible exact h1 | with_reducible exact h2 | with_reducible exact h3 | with_reducible exact vT_noteOrder h3 | with_reducible exact vT_noteOrder h2)
theorem vT_readPair {θ : BS} {a b : Int32} (hv : vT θ) (hp : pos θ < len θ) : vT (fX4_readPair θ a b).2 := by
  have h1 := vT_readNumber (a := 0) (b := 19) (vT_inc hv hp)
  have h2 := vT_readSign (v := a) h1
  have h3 := vT_readNumber (a := 0) (b := b) h2
  unfold fX4_readPair
  (repeat' split) <;> (first | with_reducible exact h1 | with_reducible exact h2 | with_reducible exact h3 | with_reducible exact vT_noteOrder h3)
theorem vT_readSingle {θ : BS} {a b : Int32} (hv : vT θ) (hp : pos θ < len θ) : vT (fX4_readSingle θ a b).2 := by
  have h1 := vT_readNumber (a := a) (b := b) (vT_inc hv hp)
  unfold fX4_readSingle
  (repeat' split) <;> (first | with_reducible exact h1 | with_reducible exact vT_noteOrder h1)
def fX4_readOrder (θ : BS) : Bool × BS :=
  if (θ.1 1) < (θ.1 0) then (if (θ.2 0 (pos θ)) = 97 then ((fX4_readPair θ 64 4).1, (fX4_readPair θ 64 4).2) else (if (θ.2 0 (pos θ)) = 99 then ((fX4_readSingle θ 0 19).1, (fX4_readSingle θ 0 19).2) else (if (θ.2 0 (pos θ)) = 101 then ((fX4_readSingle θ 1 30).1, (fX4_readSingle θ 1 30).2) else (if (θ.2 0 (pos θ)) = 110 then ((fX4_readPair θ 62 19).1, (fX4_readPair θ 62 19).2) else (if (θ.2 0 (pos θ)) = 111 then ((fX4_readOpening θ).1, (fX4_readOpening θ).2) else (if (θ.2 0 (pos θ)) = 114 then ((fX4_readSingle θ 0 19).1, (fX4_readSingle θ 0 19).2) else (if (θ.2 0 (pos θ)) = 115 then ((fX4_readSingle θ 0 19).1, (fX4_readSingle θ 0 19).2) else (false, θ)))))))) else (false, θ)
theorem caX4_readOrder : gCalV yX4_readOrder cX4_readOrder 2 (some .boolean) 0 := ⟨⟨q1_231, q1_5, by decide +kernel⟩, q1_230, qs_0⟩
set_option maxHeartbeats 4000000 in
set_option maxRecDepth 100000 in
theorem kX4_readOrder (l : Launch) (E : gE) (at_ : Nat → Nat) (θ : BS) (hv : vT θ)   : MC l E yX4_readOrder cX4_readOrder 2 (some .boolean) 3 69 [.ref (at_ 0)] [wT E at_ θ] (some (.int (b2i (fX4_readOrder θ).1))) [wT E at_ ((fX4_readOrder θ).2)] := by
  have hv1 : len θ ≤ 60 := hv.1
  have hv3 : pos θ ≤ 60 := hv.2.2.1
  have hv5 : oc θ ≤ 20 := hv.2.2.2.2.1
  refine mc_of (by decide +kernel) (Nat.le_of_ble_eq_true rfl) (lv := [(0, .ref (at_ 0))]) rfl (fun X C hE => ?_)
  refine g_aload_n C dX4_readOrder_0 rfl 0 rfl ?_
  refine g_getf C (T := TX4) (N := 7) 0 0 rfl rfl rfl inX4 2 (by decide) q1_171 rfl dX4_readOrder_1 ?_
  refine g_aload_n C dX4_readOrder_4 rfl 0 rfl ?_
  refine g_getf C (T := TX4) (N := 7) 0 0 rfl rfl rfl inX4 1 (by decide) q1_170 rfl dX4_readOrder_5 ?_
  refine g_icmp_lt C 13 dX4_readOrder_8 (by decide) (fun c_1 => ?_) (fun c_1 => ?_)
  · skip
    have hp := vT_lt2 hv c_1
    refine g_aload_n C dX4_readOrder_13 rfl 0 rfl ?_
    refine g_getf C (T := TX4) (N := 7) 0 0 rfl rfl rfl inX4 0 (by decide) q1_169 rfl dX4_readOrder_14 ?_
    refine g_aload_n C dX4_readOrder_17 rfl 0 rfl ?_
    refine g_getf C (T := TX4) (N := 7) 0 0 rfl rfl rfl inX4 2 (by decide) q1_171 rfl dX4_readOrder_18 ?_
    refine g_caldn C 0 1 (pos θ) rfl rfl hv.2.2.2.1 (by omega) (by decide) dX4_readOrder_21 ?_
    refine g_istore_n C (lv1 := [(1, .int (θ.2 0 (pos θ))), (0, .ref (at_ 0))]) dX4_readOrder_22 rfl (by decide) rfl ?_
    refine g_iload_n C dX4_readOrder_23 rfl 0 rfl ?_
    refine (Decidable.em ((θ.2 0 (pos θ)) = 97)).elim (fun c_2 => ?_) (fun c_2 => ?_)
    · refine g_tblK C 130 dX4_readOrder_24 c_2 (by decide) (by decide) rfl (by decide) ?_
      refine g_aload_n C dX4_readOrder_130 rfl 1 rfl ?_
      refine g_bipush C (v := 64) dX4_readOrder_131 (by decide) ?_
      refine g_iconst C (v := 4) dX4_readOrder_133 (by decide) ?_
      refine g_callV C (cs1 := [wT E at_ ((fX4_readPair θ 64 4).2)]) (st1 := [.int (b2i ((fX4_readPair θ 64 4).1))]) [.int 64, .int 4] [0] (kX4_readPair l E at_ θ hv 64 4 hp) caX4_readPair q2_12 rfl ⟨Nat.le_of_ble_eq_true rfl, Nat.le_of_ble_eq_true rfl⟩ ⟨Nat.zero_le _, Nat.zero_le _⟩ 0 0 rfl rfl rfl rfl (by decide) rfl rfl rfl rfl (Nat.le_of_ble_eq_true rfl) dX4_readOrder_134 rfl ?_
      have e_3 : fX4_readOrder θ = ((fX4_readPair θ 64 4).1, (fX4_readPair θ 64 4).2) := by rw [fX4_readOrder]; rw [if_pos c_1, if_pos c_2]
      exact g_zret (b := (fX4_readPair θ 64 4).1) C hE (by rw [e_3]) rfl (by rw [e_3]) dX4_readOrder_137
    refine (Decidable.em ((θ.2 0 (pos θ)) = 99)).elim (fun c_4 => ?_) (fun c_4 => ?_)
    · refine g_tblK C 138 dX4_readOrder_24 c_4 (by decide) (by decide) rfl (by decide) ?_
      refine g_aload_n C dX4_readOrder_138 rfl 1 rfl ?_
      refine g_iconst C (v := 0) dX4_readOrder_139 (by decide) ?_
      refine g_bipush C (v := 19) dX4_readOrder_140 (by decide) ?_
      refine g_callV C (cs1 := [wT E at_ ((fX4_readSingle θ 0 19).2)]) (st1 := [.int (b2i ((fX4_readSingle θ 0 19).1))]) [.int 0, .int 19] [0] (kX4_readSingle l E at_ θ hv 0 19 hp) caX4_readSingle q2_16 rfl ⟨Nat.le_of_ble_eq_true rfl, Nat.le_of_ble_eq_true rfl⟩ ⟨Nat.zero_le _, Nat.zero_le _⟩ 0 0 rfl rfl rfl rfl (by decide) rfl rfl rfl rfl (Nat.le_of_ble_eq_true rfl) dX4_readOrder_142 rfl ?_
      have e_5 : fX4_readOrder θ = ((fX4_readSingle θ 0 19).1, (fX4_readSingle θ 0 19).2) := by rw [fX4_readOrder]; rw [if_pos c_1, if_neg c_2, if_pos c_4]
      exact g_zret (b := (fX4_readSingle θ 0 19).1) C hE (by rw [e_5]) rfl (by rw [e_5]) dX4_readOrder_145
    refine (Decidable.em ((θ.2 0 (pos θ)) = 101)).elim (fun c_6 => ?_) (fun c_6 => ?_)
    · refine g_tblK C 146 dX4_readOrder_24 c_6 (by decide) (by decide) rfl (by decide) ?_
      refine g_aload_n C dX4_readOrder_146 rfl 1 rfl ?_
      refine g_iconst C (v := 1) dX4_readOrder_147 (by decide) ?_
      refine g_bipush C (v := 30) dX4_readOrder_148 (by decide) ?_
      refine g_callV C (cs1 := [wT E at_ ((fX4_readSingle θ 1 30).2)]) (st1 := [.int (b2i ((fX4_readSingle θ 1 30).1))]) [.int 1, .int 30] [0] (kX4_readSingle l E at_ θ hv 1 30 hp) caX4_readSingle q2_16 rfl ⟨Nat.le_of_ble_eq_true rfl, Nat.le_of_ble_eq_true rfl⟩ ⟨Nat.zero_le _, Nat.zero_le _⟩ 0 0 rfl rfl rfl rfl (by decide) rfl rfl rfl rfl (Nat.le_of_ble_eq_true rfl) dX4_readOrder_150 rfl ?_
      have e_7 : fX4_readOrder θ = ((fX4_readSingle θ 1 30).1, (fX4_readSingle θ 1 30).2) := by rw [fX4_readOrder]; rw [if_pos c_1, if_neg c_2, if_neg c_4, if_pos c_6]
      exact g_zret (b := (fX4_readSingle θ 1 30).1) C hE (by rw [e_7]) rfl (by rw [e_7]) dX4_readOrder_153
    refine (Decidable.em ((θ.2 0 (pos θ)) = 110)).elim (fun c_8 => ?_) (fun c_8 => ?_)
    · refine g_tblK C 121 dX4_readOrder_24 c_8 (by decide) (by decide) rfl (by decide) ?_
      refine g_aload_n C dX4_readOrder_121 rfl 1 rfl ?_
      refine g_bipush C (v := 62) dX4_readOrder_122 (by decide) ?_
      refine g_bipush C (v := 19) dX4_readOrder_124 (by decide) ?_
      refine g_callV C (cs1 := [wT E at_ ((fX4_readPair θ 62 19).2)]) (st1 := [.int (b2i ((fX4_readPair θ 62 19).1))]) [.int 62, .int 19] [0] (kX4_readPair l E at_ θ hv 62 19 hp) caX4_readPair q2_12 rfl ⟨Nat.le_of_ble_eq_true rfl, Nat.le_of_ble_eq_true rfl⟩ ⟨Nat.zero_le _, Nat.zero_le _⟩ 0 0 rfl rfl rfl rfl (by decide) rfl rfl rfl rfl (Nat.le_of_ble_eq_true rfl) dX4_readOrder_126 rfl ?_
      have e_9 : fX4_readOrder θ = ((fX4_readPair θ 62 19).1, (fX4_readPair θ 62 19).2) := by rw [fX4_readOrder]; rw [if_pos c_1, if_neg c_2, if_neg c_4, if_neg c_6, if_pos c_8]
      exact g_zret (b := (fX4_readPair θ 62 19).1) C hE (by rw [e_9]) rfl (by rw [e_9]) dX4_readOrder_129
    refine (Decidable.em ((θ.2 0 (pos θ)) = 111)).elim (fun c_10 => ?_) (fun c_10 => ?_)
    · refine g_tblK C 116 dX4_readOrder_24 c_10 (by decide) (by decide) rfl (by decide) ?_
      refine g_aload_n C dX4_readOrder_116 rfl 1 rfl ?_
      refine g_callV C (cs1 := [wT E at_ ((fX4_readOpening θ).2)]) (st1 := [.int (b2i ((fX4_readOpening θ).1))]) [] [0] (kX4_readOpening l E at_ θ hv hp) caX4_readOpening q1_232 rfl ⟨Nat.le_of_ble_eq_true rfl, Nat.le_of_ble_eq_true rfl⟩ ⟨Nat.zero_le _, Nat.zero_le _⟩ 0 0 rfl rfl rfl rfl (by decide) rfl rfl rfl rfl (Nat.le_of_ble_eq_true rfl) dX4_readOrder_117 rfl ?_
      have e_11 : fX4_readOrder θ = ((fX4_readOpening θ).1, (fX4_readOpening θ).2) := by rw [fX4_readOrder]; rw [if_pos c_1, if_neg c_2, if_neg c_4, if_neg c_6, if_neg c_8, if_pos c_10]
      exact g_zret (b := (fX4_readOpening θ).1) C hE (by rw [e_11]) rfl (by rw [e_11]) dX4_readOrder_120
    refine (Decidable.em ((θ.2 0 (pos θ)) = 114)).elim (fun c_12 => ?_) (fun c_12 => ?_)
    · refine g_tblK C 138 dX4_readOrder_24 c_12 (by decide) (by decide) rfl (by decide) ?_
      refine g_aload_n C dX4_readOrder_138 rfl 1 rfl ?_
      refine g_iconst C (v := 0) dX4_readOrder_139 (by decide) ?_
      refine g_bipush C (v := 19) dX4_readOrder_140 (by decide) ?_
      refine g_callV C (cs1 := [wT E at_ ((fX4_readSingle θ 0 19).2)]) (st1 := [.int (b2i ((fX4_readSingle θ 0 19).1))]) [.int 0, .int 19] [0] (kX4_readSingle l E at_ θ hv 0 19 hp) caX4_readSingle q2_16 rfl ⟨Nat.le_of_ble_eq_true rfl, Nat.le_of_ble_eq_true rfl⟩ ⟨Nat.zero_le _, Nat.zero_le _⟩ 0 0 rfl rfl rfl rfl (by decide) rfl rfl rfl rfl (Nat.le_of_ble_eq_true rfl) dX4_readOrder_142 rfl ?_
      have e_13 : fX4_readOrder θ = ((fX4_readSingle θ 0 19).1, (fX4_readSingle θ 0 19).2) := by rw [fX4_readOrder]; rw [if_pos c_1, if_neg c_2, if_neg c_4, if_neg c_6, if_neg c_8, if_neg c_10, if_pos c_12]
      exact g_zret (b := (fX4_readSingle θ 0 19).1) C hE (by rw [e_13]) rfl (by rw [e_13]) dX4_readOrder_145
    refine (Decidable.em ((θ.2 0 (pos θ)) = 115)).elim (fun c_14 => ?_) (fun c_14 => ?_)
    · refine g_tblK C 138 dX4_readOrder_24 c_14 (by decide) (by decide) rfl (by decide) ?_
      refine g_aload_n C dX4_readOrder_138 rfl 1 rfl ?_
      refine g_iconst C (v := 0) dX4_readOrder_139 (by decide) ?_
      refine g_bipush C (v := 19) dX4_readOrder_140 (by decide) ?_
      refine g_callV C (cs1 := [wT E at_ ((fX4_readSingle θ 0 19).2)]) (st1 := [.int (b2i ((fX4_readSingle θ 0 19).1))]) [.int 0, .int 19] [0] (kX4_readSingle l E at_ θ hv 0 19 hp) caX4_readSingle q2_16 rfl ⟨Nat.le_of_ble_eq_true rfl, Nat.le_of_ble_eq_true rfl⟩ ⟨Nat.zero_le _, Nat.zero_le _⟩ 0 0 rfl rfl rfl rfl (by decide) rfl rfl rfl rfl (Nat.le_of_ble_eq_true rfl) dX4_readOrder_142 rfl ?_
      have e_15 : fX4_readOrder θ = ((fX4_readSingle θ 0 19).1, (fX4_readSingle θ 0 19).2) := by rw [fX4_readOrder]; rw [if_pos c_1, if_neg c_2, if_neg c_4, if_neg c_6, if_neg c_8, if_neg c_10, if_neg c_12, if_pos c_14]
      exact g_zret (b := (fX4_readSingle θ 0 19).1) C hE (by rw [e_15]) rfl (by rw [e_15]) dX4_readOrder_145
    refine g_tblD C 154 [97, 99, 101, 110, 111, 114, 115] dX4_readOrder_24 (List.forall_mem_cons.mpr ⟨c_2, List.forall_mem_cons.mpr ⟨c_4, List.forall_mem_cons.mpr ⟨c_6, List.forall_mem_cons.mpr ⟨c_8, List.forall_mem_cons.mpr ⟨c_10, List.forall_mem_cons.mpr ⟨c_12, List.forall_mem_cons.mpr ⟨c_14, fun _ h => absurd h List.not_mem_nil⟩⟩⟩⟩⟩⟩⟩) (by decide) (by decide) (by decide) ?_
    refine g_iconst C (v := 0) dX4_readOrder_154 (by decide) ?_
    have e_16 : fX4_readOrder θ = (false, θ) := by rw [fX4_readOrder]; rw [if_pos c_1, if_neg c_2, if_neg c_4, if_neg c_6, if_neg c_8, if_neg c_10, if_neg c_12, if_neg c_14]
    exact g_zret (b := false) C hE (by rw [e_16]) rfl (by rw [e_16]) dX4_readOrder_155
  · skip
    refine g_iconst C (v := 0) dX4_readOrder_11 (by decide) ?_
    have e_17 : fX4_readOrder θ = (false, θ) := by rw [fX4_readOrder]; rw [if_neg c_1]
    exact g_zret (b := false) C hE (by rw [e_17]) rfl (by rw [e_17]) dX4_readOrder_12
theorem vT_readOrder {θ : BS} (hv : vT θ) : vT (fX4_readOrder θ).2 := by
  unfold fX4_readOrder
  split
  · rename_i c
    have hp := vT_lt2 hv c
    (repeat' split) <;> (first | with_reducible exact hv | with_reducible exact vT_readOpening hv hp | with_reducible exact vT_readPair hv hp | with_reducible exact vT_readSingle hv hp)
  · exact hv
