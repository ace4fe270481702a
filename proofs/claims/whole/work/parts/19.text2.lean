def fX4_tellsOrders_R17 (θ : BS) : Nat → Nat → (Bool × BS) → Bool × BS
  | 0, _, _ => (false, θ)
  | d17 + 1, i17, t17 => if 20 < (nI i17) then (if t17.1 = true then (if (t17.2.1 1) = (t17.2.1 0) then (true, t17.2) else (false, t17.2)) else (false, t17.2)) else (if t17.1 = true then (if (t17.2.1 0) ≤ (t17.2.1 1) then (if t17.1 = true then (if (t17.2.1 1) = (t17.2.1 0) then (true, t17.2) else (false, t17.2)) else (false, t17.2)) else (if ((fX4_readSign t17.2 59).1) = true then (if ((fX4_readOrder ((fX4_readSign t17.2 59).2)).1) = true then fX4_tellsOrders_R17 θ d17 (i17 + 1) (true, (fX4_readOrder ((fX4_readSign t17.2 59).2)).2) else fX4_tellsOrders_R17 θ d17 (i17 + 1) (false, (fX4_readOrder ((fX4_readSign t17.2 59).2)).2)) else fX4_tellsOrders_R17 θ d17 (i17 + 1) (false, (fX4_readSign t17.2 59).2))) else (if t17.1 = true then (if (t17.2.1 1) = (t17.2.1 0) then (true, t17.2) else (false, t17.2)) else (false, t17.2)))
def fX4_tellsOrders (θ : BS) : Bool × BS :=
  fX4_tellsOrders_R17 θ 21 1 ((fX4_readOrder (sI (sI θ 1 0) 2 0)).1, (fX4_readOrder (sI (sI θ 1 0) 2 0)).2)
theorem caX4_tellsOrders : gCalV yX4_tellsOrders cX4_tellsOrders 3 (some .boolean) 0 := ⟨⟨q1_227, q1_5, by decide +kernel⟩, q1_225, q1_226⟩
set_option maxHeartbeats 4000000 in
set_option maxRecDepth 100000 in
theorem kX4_tellsOrders (l : Launch) (E : gE) (at_ : Nat → Nat) (θ : BS) (hv : vT θ)   : MC l E yX4_tellsOrders cX4_tellsOrders 3 (some .boolean) 4 90 [.ref (at_ 0)] [wT E at_ θ] (some (.int (b2i (fX4_tellsOrders θ).1))) [wT E at_ ((fX4_tellsOrders θ).2)] := by
  have hv1 : len θ ≤ 60 := hv.1
  have hv3 : pos θ ≤ 60 := hv.2.2.1
  have hv5 : oc θ ≤ 20 := hv.2.2.2.2.1
  refine mc_of (by decide +kernel) (Nat.le_of_ble_eq_true rfl) (lv := [(0, .ref (at_ 0))]) rfl (fun X C hE => ?_)
  refine g_aload_n C dX4_tellsOrders_0 rfl 0 rfl ?_
  refine g_iconst C (v := 0) dX4_tellsOrders_1 (by decide) ?_
  refine g_putf C (T := TX4) (N := 7) (ty := .int) (w1 := wT E at_ (sI θ 1 0)) (cs1 := [wT E at_ (sI θ 1 0)]) 0 0 rfl rfl rfl inX4 tyX4_ok nmX4 2 (by decide) q1_171 rfl (by decide +kernel) rfl rfl (Nat.le_of_ble_eq_true rfl) rfl rfl dX4_tellsOrders_2 ?_
  refine g_aload_n C dX4_tellsOrders_5 rfl 0 rfl ?_
  refine g_iconst C (v := 0) dX4_tellsOrders_6 (by decide) ?_
  refine g_putf C (T := TX4) (N := 7) (ty := .int) (w1 := wT E at_ (sI (sI θ 1 0) 2 0)) (cs1 := [wT E at_ (sI (sI θ 1 0) 2 0)]) 0 0 rfl rfl rfl inX4 tyX4_ok nmX4 6 (by decide) q1_175 rfl (by decide +kernel) rfl rfl (Nat.le_of_ble_eq_true rfl) rfl rfl dX4_tellsOrders_7 ?_
  refine g_aload_n C dX4_tellsOrders_10 rfl 0 rfl ?_
  refine g_callV C (cs1 := [wT E at_ ((fX4_readOrder (sI (sI θ 1 0) 2 0)).2)]) (st1 := [.int (b2i ((fX4_readOrder (sI (sI θ 1 0) 2 0)).1))]) [] [0] (kX4_readOrder l E at_ (sI (sI θ 1 0) 2 0) (vT_oc0 (vT_pos0 hv))) caX4_readOrder q1_228 rfl ⟨Nat.le_of_ble_eq_true rfl, Nat.le_of_ble_eq_true rfl⟩ ⟨Nat.zero_le _, Nat.zero_le _⟩ 0 0 rfl rfl rfl rfl (by decide) rfl rfl rfl rfl (Nat.le_of_ble_eq_true rfl) dX4_tellsOrders_11 rfl ?_
  refine g_istore_n C (lv1 := [(1, .int (b2i ((fX4_readOrder (sI (sI θ 1 0) 2 0)).1))), (0, .ref (at_ 0))]) dX4_tellsOrders_14 rfl (by decide) rfl ?_
  refine g_iconst C (v := 1) dX4_tellsOrders_15 (by decide) ?_
  refine g_istore_n C (lv1 := [(2, .int 1), (1, .int (b2i ((fX4_readOrder (sI (sI θ 1 0) 2 0)).1))), (0, .ref (at_ 0))]) dX4_tellsOrders_16 rfl (by decide) rfl ?_
  have hL_2 : ∀ d17 i17 : Nat, ∀ t17 : Bool × BS, i17 + d17 = 21 + 1 → i17 ≤ 21 → vT t17.2 → fX4_tellsOrders_R17 θ d17 i17 t17 = fX4_tellsOrders θ → G X 0 0 [wT E at_ t17.2] [(0, .ref (at_ 0)), (1, .int (b2i t17.1)), (2, .int (nI i17))] 17 [] := by
    intro d17
    induction d17 with
    | zero =>
      intro i17 t17 hi_1 hi_1b hvt hq_4
      omega
    | succ d17 ih_3 =>
      intro i17 t17 hi_1 hi_1b hvt hq_4
      refine g_iload_n C dX4_tellsOrders_17 rfl 2 rfl ?_
      refine g_bipush C (v := 20) dX4_tellsOrders_18 (by decide) ?_
      refine g_icmp_gt C 66 dX4_tellsOrders_20 (by decide) (fun c_6 => ?_) (fun c_6 => ?_)
      · skip
        refine g_iload_n C dX4_tellsOrders_66 rfl 1 rfl ?_
        refine g_ifB_eq C 85 dX4_tellsOrders_67 (by decide) (fun c_7 => ?_) (fun c_7 => ?_)
        · skip
          refine g_iconst C (v := 0) dX4_tellsOrders_85 (by decide) ?_
          have e_8 : fX4_tellsOrders θ = (false, t17.2) := by rw [← hq_4, fX4_tellsOrders_R17]; rw [if_pos c_6, if_neg (ne_true_of_eq_false c_7)]
          exact g_zret (b := false) C hE (by rw [e_8]) rfl (by rw [e_8]) dX4_tellsOrders_86
        · skip
          refine g_aload_n C dX4_tellsOrders_70 rfl 0 rfl ?_
          refine g_getf C (T := TX4) (N := 7) 0 0 rfl rfl rfl inX4 2 (by decide) q1_171 rfl dX4_tellsOrders_71 ?_
          refine g_aload_n C dX4_tellsOrders_74 rfl 0 rfl ?_
          refine g_getf C (T := TX4) (N := 7) 0 0 rfl rfl rfl inX4 1 (by decide) q1_170 rfl dX4_tellsOrders_75 ?_
          refine g_icmp_ne C 85 dX4_tellsOrders_78 (by decide) (fun c_9 => ?_) (fun c_9 => ?_)
          · skip
            refine g_iconst C (v := 0) dX4_tellsOrders_85 (by decide) ?_
            have e_10 : fX4_tellsOrders θ = (false, t17.2) := by rw [← hq_4, fX4_tellsOrders_R17]; rw [if_pos c_6, if_pos c_7, if_neg c_9]
            exact g_zret (b := false) C hE (by rw [e_10]) rfl (by rw [e_10]) dX4_tellsOrders_86
          · skip
            refine g_iconst C (v := 1) dX4_tellsOrders_81 (by decide) ?_
            refine g_goto C 86 dX4_tellsOrders_82 (by decide) ?_
            have e_11 : fX4_tellsOrders θ = (true, t17.2) := by rw [← hq_4, fX4_tellsOrders_R17]; rw [if_pos c_6, if_pos c_7, if_pos c_9]
            exact g_zret (b := true) C hE (by rw [e_11]) rfl (by rw [e_11]) dX4_tellsOrders_86
      · skip
        have c_6b : i17 ≤ 20 := lc_igt rfl nI_l20 (by omega) (by omega) c_6
        refine g_iload_n C dX4_tellsOrders_23 rfl 1 rfl ?_
        refine g_ifB_eq C 66 dX4_tellsOrders_24 (by decide) (fun c_12 => ?_) (fun c_12 => ?_)
        · skip
          refine g_iload_n C dX4_tellsOrders_66 rfl 1 rfl ?_
          refine g_ifB_eq C 85 dX4_tellsOrders_67 (by decide) (fun c_13 => ?_) (fun c_13 => ?_)
          · skip
            refine g_iconst C (v := 0) dX4_tellsOrders_85 (by decide) ?_
            have e_14 : fX4_tellsOrders θ = (false, t17.2) := by rw [← hq_4, fX4_tellsOrders_R17]; rw [if_neg c_6, if_neg (ne_true_of_eq_false c_12), if_neg (ne_true_of_eq_false c_13)]
            exact g_zret (b := false) C hE (by rw [e_14]) rfl (by rw [e_14]) dX4_tellsOrders_86
          · skip
            refine g_aload_n C dX4_tellsOrders_70 rfl 0 rfl ?_
            refine g_getf C (T := TX4) (N := 7) 0 0 rfl rfl rfl inX4 2 (by decide) q1_171 rfl dX4_tellsOrders_71 ?_
            refine g_aload_n C dX4_tellsOrders_74 rfl 0 rfl ?_
            refine g_getf C (T := TX4) (N := 7) 0 0 rfl rfl rfl inX4 1 (by decide) q1_170 rfl dX4_tellsOrders_75 ?_
            refine g_icmp_ne C 85 dX4_tellsOrders_78 (by decide) (fun c_15 => ?_) (fun c_15 => ?_)
            · skip
              refine g_iconst C (v := 0) dX4_tellsOrders_85 (by decide) ?_
              have e_16 : fX4_tellsOrders θ = (false, t17.2) := by rw [← hq_4, fX4_tellsOrders_R17]; rw [if_neg c_6, if_neg (ne_true_of_eq_false c_12), if_pos c_13, if_neg c_15]
              exact g_zret (b := false) C hE (by rw [e_16]) rfl (by rw [e_16]) dX4_tellsOrders_86
            · skip
              refine g_iconst C (v := 1) dX4_tellsOrders_81 (by decide) ?_
              refine g_goto C 86 dX4_tellsOrders_82 (by decide) ?_
              have e_17 : fX4_tellsOrders θ = (true, t17.2) := by rw [← hq_4, fX4_tellsOrders_R17]; rw [if_neg c_6, if_neg (ne_true_of_eq_false c_12), if_pos c_13, if_pos c_15]
              exact g_zret (b := true) C hE (by rw [e_17]) rfl (by rw [e_17]) dX4_tellsOrders_86
        · skip
          refine g_aload_n C dX4_tellsOrders_27 rfl 0 rfl ?_
          refine g_getf C (T := TX4) (N := 7) 0 0 rfl rfl rfl inX4 2 (by decide) q1_171 rfl dX4_tellsOrders_28 ?_
          refine g_aload_n C dX4_tellsOrders_31 rfl 0 rfl ?_
          refine g_getf C (T := TX4) (N := 7) 0 0 rfl rfl rfl inX4 1 (by decide) q1_170 rfl dX4_tellsOrders_32 ?_
          refine g_icmp_ge C 66 dX4_tellsOrders_35 (by decide) (fun c_18 => ?_) (fun c_18 => ?_)
          · skip
            refine g_iload_n C dX4_tellsOrders_66 rfl 1 rfl ?_
            refine g_ifB_eq C 85 dX4_tellsOrders_67 (by decide) (fun c_19 => ?_) (fun c_19 => ?_)
            · skip
              refine g_iconst C (v := 0) dX4_tellsOrders_85 (by decide) ?_
              have e_20 : fX4_tellsOrders θ = (false, t17.2) := by rw [← hq_4, fX4_tellsOrders_R17]; rw [if_neg c_6, if_pos c_12, if_pos c_18, if_neg (ne_true_of_eq_false c_19)]
              exact g_zret (b := false) C hE (by rw [e_20]) rfl (by rw [e_20]) dX4_tellsOrders_86
            · skip
              refine g_aload_n C dX4_tellsOrders_70 rfl 0 rfl ?_
              refine g_getf C (T := TX4) (N := 7) 0 0 rfl rfl rfl inX4 2 (by decide) q1_171 rfl dX4_tellsOrders_71 ?_
              refine g_aload_n C dX4_tellsOrders_74 rfl 0 rfl ?_
              refine g_getf C (T := TX4) (N := 7) 0 0 rfl rfl rfl inX4 1 (by decide) q1_170 rfl dX4_tellsOrders_75 ?_
              refine g_icmp_ne C 85 dX4_tellsOrders_78 (by decide) (fun c_21 => ?_) (fun c_21 => ?_)
              · skip
                refine g_iconst C (v := 0) dX4_tellsOrders_85 (by decide) ?_
                have e_22 : fX4_tellsOrders θ = (false, t17.2) := by rw [← hq_4, fX4_tellsOrders_R17]; rw [if_neg c_6, if_pos c_12, if_pos c_18, if_pos c_19, if_neg c_21]
                exact g_zret (b := false) C hE (by rw [e_22]) rfl (by rw [e_22]) dX4_tellsOrders_86
              · skip
                refine g_iconst C (v := 1) dX4_tellsOrders_81 (by decide) ?_
                refine g_goto C 86 dX4_tellsOrders_82 (by decide) ?_
                have e_23 : fX4_tellsOrders θ = (true, t17.2) := by rw [← hq_4, fX4_tellsOrders_R17]; rw [if_neg c_6, if_pos c_12, if_pos c_18, if_pos c_19, if_pos c_21]
                exact g_zret (b := true) C hE (by rw [e_23]) rfl (by rw [e_23]) dX4_tellsOrders_86
          · skip
            refine g_aload_n C dX4_tellsOrders_38 rfl 0 rfl ?_
            refine g_bipush C (v := 59) dX4_tellsOrders_39 (by decide) ?_
            refine g_callV C (cs1 := [wT E at_ ((fX4_readSign t17.2 59).2)]) (st1 := [.int (b2i ((fX4_readSign t17.2 59).1))]) [.int 59] [0] (kX4_readSign l E at_ t17.2 hvt 59) caX4_readSign q2_4 rfl ⟨Nat.le_of_ble_eq_true rfl, Nat.le_of_ble_eq_true rfl⟩ ⟨Nat.zero_le _, Nat.zero_le _⟩ 0 0 rfl rfl rfl rfl (by decide) rfl rfl rfl rfl (Nat.le_of_ble_eq_true rfl) dX4_tellsOrders_41 rfl ?_
            refine g_ifB_eq C 58 dX4_tellsOrders_44 (by decide) (fun c_24 => ?_) (fun c_24 => ?_)
            · skip
              refine g_iconst C (v := 0) dX4_tellsOrders_58 (by decide) ?_
              refine g_istore_n C (lv1 := [(1, .int 0), (0, .ref (at_ 0)), (2, .int (nI i17))]) dX4_tellsOrders_59 rfl (by decide) rfl ?_
              refine g_iinc C (v := nI (i17 + 1)) (lv1 := [(2, .int (nI (i17 + 1))), (1, .int 0), (0, .ref (at_ 0))]) dX4_tellsOrders_60 2 rfl (nI_1 i17) (by decide) rfl ?_
              refine g_goto C 17 dX4_tellsOrders_63 (by decide) ?_
              have e_25 : fX4_tellsOrders_R17 θ d17 (i17 + 1) (false, (fX4_readSign t17.2 59).2) = fX4_tellsOrders θ := by
                rw [← hq_4, fX4_tellsOrders_R17]; rw [if_neg c_6, if_pos c_12, if_neg c_18, if_neg (ne_true_of_eq_false c_24)]
              exact g_sub [2, 1, 0] rfl (ih_3 (i17 + 1) (false, (fX4_readSign t17.2 59).2) (by omega) (by omega) (vT_readSign hvt) e_25)
            · skip
              refine g_aload_n C dX4_tellsOrders_47 rfl 0 rfl ?_
              refine g_callV C (cs1 := [wT E at_ ((fX4_readOrder ((fX4_readSign t17.2 59).2)).2)]) (st1 := [.int (b2i ((fX4_readOrder ((fX4_readSign t17.2 59).2)).1))]) [] [0] (kX4_readOrder l E at_ ((fX4_readSign t17.2 59).2) (vT_readSign hvt)) caX4_readOrder q1_228 rfl ⟨Nat.le_of_ble_eq_true rfl, Nat.le_of_ble_eq_true rfl⟩ ⟨Nat.zero_le _, Nat.zero_le _⟩ 0 0 rfl rfl rfl rfl (by decide) rfl rfl rfl rfl (Nat.le_of_ble_eq_true rfl) dX4_tellsOrders_48 rfl ?_
              refine g_ifB_eq C 58 dX4_tellsOrders_51 (by decide) (fun c_26 => ?_) (fun c_26 => ?_)
              · skip
                refine g_iconst C (v := 0) dX4_tellsOrders_58 (by decide) ?_
                refine g_istore_n C (lv1 := [(1, .int 0), (0, .ref (at_ 0)), (2, .int (nI i17))]) dX4_tellsOrders_59 rfl (by decide) rfl ?_
                refine g_iinc C (v := nI (i17 + 1)) (lv1 := [(2, .int (nI (i17 + 1))), (1, .int 0), (0, .ref (at_ 0))]) dX4_tellsOrders_60 2 rfl (nI_1 i17) (by decide) rfl ?_
                refine g_goto C 17 dX4_tellsOrders_63 (by decide) ?_
                have e_27 : fX4_tellsOrders_R17 θ d17 (i17 + 1) (false, (fX4_readOrder ((fX4_readSign t17.2 59).2)).2) = fX4_tellsOrders θ := by
                  rw [← hq_4, fX4_tellsOrders_R17]; rw [if_neg c_6, if_pos c_12, if_neg c_18, if_pos c_24, if_neg (ne_true_of_eq_false c_26)]
                exact g_sub [2, 1, 0] rfl (ih_3 (i17 + 1) (false, (fX4_readOrder ((fX4_readSign t17.2 59).2)).2) (by omega) (by omega) (vT_readOrder (vT_readSign hvt)) e_27)
              · skip
                refine g_iconst C (v := 1) dX4_tellsOrders_54 (by decide) ?_
                refine g_goto C 59 dX4_tellsOrders_55 (by decide) ?_
                refine g_istore_n C (lv1 := [(1, .int 1), (0, .ref (at_ 0)), (2, .int (nI i17))]) dX4_tellsOrders_59 rfl (by decide) rfl ?_
                refine g_iinc C (v := nI (i17 + 1)) (lv1 := [(2, .int (nI (i17 + 1))), (1, .int 1), (0, .ref (at_ 0))]) dX4_tellsOrders_60 2 rfl (nI_1 i17) (by decide) rfl ?_
                refine g_goto C 17 dX4_tellsOrders_63 (by decide) ?_
                have e_28 : fX4_tellsOrders_R17 θ d17 (i17 + 1) (true, (fX4_readOrder ((fX4_readSign t17.2 59).2)).2) = fX4_tellsOrders θ := by
                  rw [← hq_4, fX4_tellsOrders_R17]; rw [if_neg c_6, if_pos c_12, if_neg c_18, if_pos c_24, if_pos c_26]
                exact g_sub [2, 1, 0] rfl (ih_3 (i17 + 1) (true, (fX4_readOrder ((fX4_readSign t17.2 59).2)).2) (by omega) (by omega) (vT_readOrder (vT_readSign hvt)) e_28)
  refine g_sub [2, 1, 0] (lv1 := [(0, .ref (at_ 0)), (1, .int (b2i ((fX4_readOrder (sI (sI θ 1 0) 2 0)).1))), (2, .int 1)]) rfl ?_
  have e_29 : fX4_tellsOrders_R17 θ 21 1 ((fX4_readOrder (sI (sI θ 1 0) 2 0)).1, (fX4_readOrder (sI (sI θ 1 0) 2 0)).2) = fX4_tellsOrders θ := by
    rw [fX4_tellsOrders]
  exact hL_2 21 1 ((fX4_readOrder (sI (sI θ 1 0) 2 0)).1, (fX4_readOrder (sI (sI θ 1 0) 2 0)).2) (by omega) (by omega) (vT_readOrder (vT_oc0 (vT_pos0 hv))) e_29
theorem vT_tellsOrders {θ : BS} (hv : vT θ) : vT (fX4_tellsOrders θ).2 := by
  have key : ∀ (d i : Nat) (t : Bool × BS), vT t.2 → (d = 0 → vT θ) → vT (fX4_tellsOrders_R17 θ d i t).2 := by
    intro d
    induction d with
    | zero => intro i t h h0; exact h0 rfl
    | succ d ih =>
      intro i t h h0
      rw [fX4_tellsOrders_R17]
      have hs := vT_readSign (v := 59) h
      have ho := vT_readOrder hs
      (repeat' split) <;> (first | with_reducible exact h | with_reducible exact ih _ _ h (fun _ => hv) | with_reducible exact ih _ _ hs (fun _ => hv) | with_reducible exact ih _ _ ho (fun _ => hv))
  rw [fX4_tellsOrders]
  exact key _ _ _ (vT_readOrder (vT_oc0 (vT_pos0 hv))) (fun _ => hv)
def fX4_errorPlace (θ : BS) : Int32 × BS :=
  (((fX4_tellsOrders θ).2).1 1, (fX4_tellsOrders θ).2)
theorem caX4_errorPlace : gCalV yX4_errorPlace cX4_errorPlace 1 (some .int) 0 := ⟨⟨q1_223, q1_5, by decide +kernel⟩, q1_221, q1_222⟩
set_option maxHeartbeats 4000000 in
set_option maxRecDepth 100000 in
theorem kX4_errorPlace (l : Launch) (E : gE) (at_ : Nat → Nat) (θ : BS) (hv : vT θ)   : MC l E yX4_errorPlace cX4_errorPlace 1 (some .int) 5 112 [.ref (at_ 0)] [wT E at_ θ] (some (.int (fX4_errorPlace θ).1)) [wT E at_ ((fX4_errorPlace θ).2)] := by
  have hv1 : len θ ≤ 60 := hv.1
  have hv3 : pos θ ≤ 60 := hv.2.2.1
  have hv5 : oc θ ≤ 20 := hv.2.2.2.2.1
  refine mc_of (by decide +kernel) (Nat.le_of_ble_eq_true rfl) (lv := [(0, .ref (at_ 0))]) rfl (fun X C hE => ?_)
  refine g_aload_n C dX4_errorPlace_0 rfl 0 rfl ?_
  refine g_callV C (cs1 := [wT E at_ ((fX4_tellsOrders θ).2)]) (st1 := [.int (b2i ((fX4_tellsOrders θ).1))]) [] [0] (kX4_tellsOrders l E at_ θ hv) caX4_tellsOrders q1_224 rfl ⟨Nat.le_of_ble_eq_true rfl, Nat.le_of_ble_eq_true rfl⟩ ⟨Nat.zero_le _, Nat.zero_le _⟩ 0 0 rfl rfl rfl rfl (by decide) rfl rfl rfl rfl (Nat.le_of_ble_eq_true rfl) dX4_errorPlace_1 rfl ?_
  refine g_pop C dX4_errorPlace_4 rfl ?_
  refine g_aload_n C dX4_errorPlace_5 rfl 0 rfl ?_
  refine g_getf C (T := TX4) (N := 7) 0 0 rfl rfl rfl inX4 2 (by decide) q1_171 rfl dX4_errorPlace_6 ?_
  have e_1 : fX4_errorPlace θ = (((fX4_tellsOrders θ).2).1 1, (fX4_tellsOrders θ).2) := by rw [fX4_errorPlace]
  exact g_iret C hE (by rw [e_1]) (by rw [e_1]) dX4_errorPlace_9
def fX4_followOn_R2 (θ : BS) (β : BS) : Nat → Nat → (BS) → Int32 × BS
  | 0, _, _ => (0, β)
  | d2 + 1, i2, t2 => if (θ.1 2) ≤ (nI i2) then ((-1), t2) else (if ((fX2_carryOut t2 (θ.2 1 i2) (θ.2 2 i2) (θ.2 3 i2)).1) = true then fX4_followOn_R2 θ β d2 (i2 + 1) ((fX2_carryOut t2 (θ.2 1 i2) (θ.2 2 i2) (θ.2 3 i2)).2) else (nI i2, (fX2_carryOut t2 (θ.2 1 i2) (θ.2 2 i2) (θ.2 3 i2)).2))
def fX4_followOn (θ : BS) (β : BS) : Int32 × BS :=
  fX4_followOn_R2 θ β ((oc θ) + 1) 0 β
theorem caX4_followOn : gCalV yX4_followOn cX4_followOn 3 (some .int) 1 := ⟨⟨q4_223, q1_5, by decide +kernel⟩, q4_221, q4_222⟩
set_option maxHeartbeats 4000000 in
set_option maxRecDepth 100000 in
theorem kX4_followOn (l : Launch) (E : gE) (at_ : Nat → Nat) (θ : BS) (ad : Nat → Nat) (β : BS) (hv : vT θ) (hvb : vB β)   : MC l E yX4_followOn cX4_followOn 3 (some .int) 6 136 [.ref (at_ 0), .ref (ad 0)] [wT E at_ θ, wB E ad β] (some (.int (fX4_followOn θ β).1)) [wT E at_ θ, wB E ad ((fX4_followOn θ β).2)] := by
  have hv1 : len θ ≤ 60 := hv.1
  have hv3 : pos θ ≤ 60 := hv.2.2.1
  have hv5 : oc θ ≤ 20 := hv.2.2.2.2.1
  refine mc_of (by decide +kernel) (Nat.le_of_ble_eq_true rfl) (lv := [(0, .ref (at_ 0)), (1, .ref (ad 0))]) rfl (fun X C hE => ?_)
  refine g_iconst C (v := 0) dX4_followOn_0 (by decide) ?_
  refine g_istore_n C (lv1 := [(2, .int 0), (0, .ref (at_ 0)), (1, .ref (ad 0))]) dX4_followOn_1 rfl (by decide) rfl ?_
  have hL_2 : ∀ d2 i2 : Nat, ∀ t2 : BS, i2 + d2 = (oc θ) + 1 → i2 ≤ (oc θ) → vB t2 → fX4_followOn_R2 θ β d2 i2 t2 = fX4_followOn θ β → G X 0 0 [wT E at_ θ, wB E ad t2] [(0, .ref (at_ 0)), (1, .ref (ad 0)), (2, .int (nI i2))] 2 [] := by
    intro d2
    induction d2 with
    | zero =>
      intro i2 t2 hi_1 hi_1b hvt hq_4
      omega
    | succ d2 ih_3 =>
      intro i2 t2 hi_1 hi_1b hvt hq_4
      refine g_iload_n C dX4_followOn_2 rfl 2 rfl ?_
      refine g_aload_n C dX4_followOn_3 rfl 0 rfl ?_
      refine g_getf C (T := TX4) (N := 7) 0 0 rfl rfl rfl inX4 6 (by decide) q1_175 rfl dX4_followOn_4 ?_
      refine g_icmp_ge C 43 dX4_followOn_7 (by decide) (fun c_6 => ?_) (fun c_6 => ?_)
      · skip
        refine g_iconst C (v := -1) dX4_followOn_43 (by decide) ?_
        have e_7 : fX4_followOn θ β = ((-1), t2) := by rw [← hq_4, fX4_followOn_R2]; rw [if_pos c_6]
        exact g_iret C hE (by rw [e_7]) (by rw [e_7]) dX4_followOn_44
      · skip
        have c_6b : i2 < (oc θ) := lc_ige rfl hv.2.2.2.2.2 (by omega) (by omega) c_6
        refine g_aload_n C dX4_followOn_10 rfl 1 rfl ?_
        refine g_aload_n C dX4_followOn_11 rfl 0 rfl ?_
        refine g_getf C (T := TX4) (N := 7) 0 0 rfl rfl rfl inX4 3 (by decide) q1_172 rfl dX4_followOn_12 ?_
        refine g_iload_n C dX4_followOn_15 rfl 2 rfl ?_
        refine g_caldn C 0 2 i2 rfl rfl rfl (by omega) (by decide) dX4_followOn_16 ?_
        refine g_aload_n C dX4_followOn_17 rfl 0 rfl ?_
        refine g_getf C (T := TX4) (N := 7) 0 0 rfl rfl rfl inX4 4 (by decide) q1_173 rfl dX4_followOn_18 ?_
        refine g_iload_n C dX4_followOn_21 rfl 2 rfl ?_
        refine g_ialdn C 0 3 i2 rfl rfl rfl (by omega) (by decide) dX4_followOn_22 ?_
        refine g_aload_n C dX4_followOn_23 rfl 0 rfl ?_
        refine g_getf C (T := TX4) (N := 7) 0 0 rfl rfl rfl inX4 5 (by decide) q1_174 rfl dX4_followOn_24 ?_
        refine g_iload_n C dX4_followOn_27 rfl 2 rfl ?_
        refine g_ialdn C 0 4 i2 rfl rfl rfl (by omega) (by decide) dX4_followOn_28 ?_
        refine g_callS C (cs1 := [wT E at_ θ, wB E ad ((fX2_carryOut t2 (θ.2 1 i2) (θ.2 2 i2) (θ.2 3 i2)).2)]) (st1 := [.int (b2i ((fX2_carryOut t2 (θ.2 1 i2) (θ.2 2 i2) (θ.2 3 i2)).1))]) [.ref (ad 0), .int (θ.2 1 i2), .int (θ.2 2 i2), .int (θ.2 3 i2)] [1] (kX2_carryOut l E ad t2 hvt (θ.2 1 i2) (θ.2 2 i2) (θ.2 3 i2)) caX2_carryOut q4_224 rfl ⟨Nat.le_of_ble_eq_true rfl, Nat.le_of_ble_eq_true rfl⟩ ⟨Nat.zero_le _, Nat.zero_le _⟩ (by decide) rfl rfl rfl rfl (Nat.le_of_ble_eq_true rfl) dX4_followOn_29 rfl ?_
        refine g_ifB_ne C 37 dX4_followOn_32 (by decide) (fun c_8 => ?_) (fun c_8 => ?_)
        · skip
          refine g_iinc C (v := nI (i2 + 1)) (lv1 := [(2, .int (nI (i2 + 1))), (0, .ref (at_ 0)), (1, .ref (ad 0))]) dX4_followOn_37 2 rfl (nI_1 i2) (by decide) rfl ?_
          refine g_goto C 2 dX4_followOn_40 (by decide) ?_
          have e_9 : fX4_followOn_R2 θ β d2 (i2 + 1) ((fX2_carryOut t2 (θ.2 1 i2) (θ.2 2 i2) (θ.2 3 i2)).2) = fX4_followOn θ β := by
            rw [← hq_4, fX4_followOn_R2]; rw [if_neg c_6, if_pos c_8]
          exact g_sub [1, 2, 0] rfl (ih_3 (i2 + 1) ((fX2_carryOut t2 (θ.2 1 i2) (θ.2 2 i2) (θ.2 3 i2)).2) (by omega) (by omega) (vB_carryOut hvt) e_9)
        · skip
          refine g_iload_n C dX4_followOn_35 rfl 2 rfl ?_
          have e_10 : fX4_followOn θ β = (nI i2, (fX2_carryOut t2 (θ.2 1 i2) (θ.2 2 i2) (θ.2 3 i2)).2) := by rw [← hq_4, fX4_followOn_R2]; rw [if_neg c_6, if_neg (ne_true_of_eq_false c_8)]
          exact g_iret C hE (by rw [e_10]) (by rw [e_10]) dX4_followOn_36
  refine g_sub [1, 2, 0] (lv1 := [(0, .ref (at_ 0)), (1, .ref (ad 0)), (2, .int 0)]) rfl ?_
  have e_11 : fX4_followOn_R2 θ β ((oc θ) + 1) 0 β = fX4_followOn θ β := by
    rw [fX4_followOn]
  exact hL_2 ((oc θ) + 1) 0 β (by omega) (by omega) hvb e_11
theorem vB_followOn {θ β : BS} (hv : vB β) : vB (fX4_followOn θ β).2 := by
  have key : ∀ (d i : Nat) (t : BS), vB t → vB (fX4_followOn_R2 θ β d i t).2 := by
    intro d
    induction d with
    | zero => intro i t h; exact hv
    | succ d ih =>
      intro i t h
      rw [fX4_followOn_R2]
      have h1 := fun x a b => vB_carryOut (x := x) (a := a) (b := b) h
      (repeat' split) <;> (first | with_reducible exact h | with_reducible exact ih _ _ (h1 _ _ _) | with_reducible exact h1 _ _ _)
  rw [fX4_followOn]
  exact key _ _ _ hv
