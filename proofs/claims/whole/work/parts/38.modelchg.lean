theorem roomM {μ ν : BS} (hv : vM μ) (h : ¬ μ.2 0 0 = 20) (e : ν.2 0 0 = μ.2 0 0) : cM ν < 20 := by
  have h1 : cM μ ≤ 20 := hv.1.1
  have h2 := hv.1.2.1
  have h3 : cM ν = cM μ := congrArg Int32.toNatClampNeg e
  rw [h3]
  rcases Nat.lt_or_ge (cM μ) 20 with c | c
  · exact c
  · exact absurd (by rw [h2, show (μ.2 0 0).toNatClampNeg = 20 from Nat.le_antisymm h1 c]; rfl) h
theorem rec_0 {μ : BS} (h : vM μ) : (fX7_records μ).2 0 = μ.2 0 := by
  rcases Nat.lt_or_ge (sm μ) 6 with c | c
  · rw [records_lt h c]; rfl
  · have e6 : μ.1 1 = 6 := by rw [h.2.1.2.2.2.2.1, show sm μ = 6 by have := h.2.1.2.2.2.1; omega]; rfl
    rw [records_6 e6]; rfl
def fX7_openTicket (μ : BS) (a : Int32) (b : Int32) : Int32 × BS :=
  if (fX7_in a 1 13) = true then (if (fX7_in b 0 3) = true then (if (μ.2 0 0) = 20 then ((fX7_fails (sI μ 0 0) 2).1, (fX7_fails (sI μ 0 0) 2).2) else ((fX7_opens (fX7_records (sI μ 0 0)) a b).1, (fX7_opens (fX7_records (sI μ 0 0)) a b).2)) else ((fX7_fails (sI μ 0 0) 1).1, (fX7_fails (sI μ 0 0) 1).2)) else ((fX7_fails (sI μ 0 0) 1).1, (fX7_fails (sI μ 0 0) 1).2)
theorem caX7_openTicket : gCalV yX7_openTicket cX7_openTicket 3 (some .int) 2 := ⟨⟨q6_123, q1_6, by decide +kernel⟩, q6_121, q6_122⟩
set_option maxHeartbeats 4000000 in
set_option maxRecDepth 100000 in
theorem kX7_openTicket (l : Launch) (E : gE) (am : Nat → Nat) (μ : BS) (hv : vM μ)  (a : Int32) (b : Int32) : MC l E yX7_openTicket cX7_openTicket 3 (some .int) 2 46 [.ref (am 0), .int a, .int b] [wM E am μ] (some (.int (fX7_openTicket μ a b).1)) [wM E am ((fX7_openTicket μ a b).2)] := by
  have hv1 : cM μ ≤ 20 := hv.1.1
  have hc0 : μ.2 0 0 = nI (cM μ) := hv.1.2.1
  refine mc_of (by decide +kernel) (Nat.le_of_ble_eq_true rfl) (lv := [(0, .ref (am 0)), (1, .int a), (2, .int b)]) rfl (fun X C hE => ?_)
  refine g_aload_n C dX7_openTicket_0 rfl 0 rfl ?_
  refine g_iconst C (v := 0) dX7_openTicket_1 (by decide) ?_
  refine g_putf C (T := TX7) (N := 15) (ty := .int) (w1 := wM E am (sI μ 0 0)) (cs1 := [wM E am (sI μ 0 0)]) 0 0 rfl rfl rfl inX7 tyX7_ok nmX7 0 (by decide) q6_70 rfl (by decide +kernel) rfl rfl (Nat.le_of_ble_eq_true rfl) rfl rfl dX7_openTicket_2 ?_
  refine g_iload_n C dX7_openTicket_5 rfl 1 rfl ?_
  refine g_iconst C (v := 1) dX7_openTicket_6 (by decide) ?_
  refine g_bipush C (v := 13) dX7_openTicket_7 (by decide) ?_
  refine g_callS C (cs1 := [wM E am (sI μ 0 0)]) (st1 := [.int (b2i (fX7_in a 1 13))]) [.int a, .int 1, .int 13] [] (kX7_in l E a 1 13) caX7_in q6_124 rfl ⟨Nat.le_of_ble_eq_true rfl, Nat.le_of_ble_eq_true rfl⟩ ⟨Nat.zero_le _, Nat.zero_le _⟩ (by decide) rfl rfl rfl rfl (Nat.le_of_ble_eq_true rfl) dX7_openTicket_9 rfl ?_
  refine g_ifB_eq C 24 dX7_openTicket_12 (by decide) (fun c_1 => ?_) (fun c_1 => ?_)
  · skip
    refine g_aload_n C dX7_openTicket_24 rfl 0 rfl ?_
    refine g_iconst C (v := 1) dX7_openTicket_25 (by decide) ?_
    refine g_callV C (cs1 := [wM E am ((fX7_fails (sI μ 0 0) 1).2)]) (st1 := [.int ((fX7_fails (sI μ 0 0) 1).1)]) [.int 1] [0] (kX7_fails l E am (sI μ 0 0) 1) caX7_fails q6_127 rfl ⟨Nat.le_of_ble_eq_true rfl, Nat.le_of_ble_eq_true rfl⟩ ⟨Nat.zero_le _, Nat.zero_le _⟩ 0 0 rfl rfl rfl rfl (by decide) rfl rfl rfl rfl (Nat.le_of_ble_eq_true rfl) dX7_openTicket_26 rfl ?_
    have e_2 : fX7_openTicket μ a b = ((fX7_fails (sI μ 0 0) 1).1, (fX7_fails (sI μ 0 0) 1).2) := by rw [fX7_openTicket]; rw [if_neg (ne_true_of_eq_false c_1)]
    exact g_iret C hE (by rw [e_2]) (by rw [e_2]) dX7_openTicket_29
  · skip
    refine g_iload_n C dX7_openTicket_15 rfl 2 rfl ?_
    refine g_iconst C (v := 0) dX7_openTicket_16 (by decide) ?_
    refine g_iconst C (v := 3) dX7_openTicket_17 (by decide) ?_
    refine g_callS C (cs1 := [wM E am (sI μ 0 0)]) (st1 := [.int (b2i (fX7_in b 0 3))]) [.int b, .int 0, .int 3] [] (kX7_in l E b 0 3) caX7_in q6_124 rfl ⟨Nat.le_of_ble_eq_true rfl, Nat.le_of_ble_eq_true rfl⟩ ⟨Nat.zero_le _, Nat.zero_le _⟩ (by decide) rfl rfl rfl rfl (Nat.le_of_ble_eq_true rfl) dX7_openTicket_18 rfl ?_
    refine g_ifB_ne C 30 dX7_openTicket_21 (by decide) (fun c_3 => ?_) (fun c_3 => ?_)
    · skip
      refine g_aload_n C dX7_openTicket_30 rfl 0 rfl ?_
      refine g_getf C (T := TX7) (N := 15) 0 0 rfl rfl rfl inX7 1 (by decide) q6_71 rfl dX7_openTicket_31 ?_
      refine g_iconst C (v := 0) dX7_openTicket_34 (by decide) ?_
      refine g_ialdn C (f := μ.2 0) 0 1 0 rfl rfl rfl (by decide) (by decide) dX7_openTicket_35 ?_
      refine g_bipush C (v := 20) dX7_openTicket_36 (by decide) ?_
      refine g_icmp_ne C 47 dX7_openTicket_38 (by decide) (fun c_4 => ?_) (fun c_4 => ?_)
      · skip
        have hc9 := c_4
        refine g_aload_n C dX7_openTicket_47 rfl 0 rfl ?_
        refine g_callV C (cs1 := [wM E am (fX7_records (sI μ 0 0))]) (st1 := []) [] [0] (kX7_records l E am (sI μ 0 0) (vM_i0 hv)) caX7_records q6_131 rfl ⟨Nat.le_of_ble_eq_true rfl, Nat.le_of_ble_eq_true rfl⟩ ⟨Nat.zero_le _, Nat.zero_le _⟩ 0 0 rfl rfl rfl rfl (by decide) rfl rfl rfl rfl (Nat.le_of_ble_eq_true rfl) dX7_openTicket_48 rfl ?_
        refine g_aload_n C dX7_openTicket_51 rfl 0 rfl ?_
        refine g_iload_n C dX7_openTicket_52 rfl 1 rfl ?_
        refine g_iload_n C dX7_openTicket_53 rfl 2 rfl ?_
        refine g_callV C (cs1 := [wM E am ((fX7_opens (fX7_records (sI μ 0 0)) a b).2)]) (st1 := [.int ((fX7_opens (fX7_records (sI μ 0 0)) a b).1)]) [.int a, .int b] [0] (kX7_opens l E am (fX7_records (sI μ 0 0)) (vM_records (vM_i0 hv)) a b (roomM hv hc9 (congrFun (rec_0 (vM_i0 hv)) 0))) caX7_opens q6_135 rfl ⟨Nat.le_of_ble_eq_true rfl, Nat.le_of_ble_eq_true rfl⟩ ⟨Nat.zero_le _, Nat.zero_le _⟩ 0 0 rfl rfl rfl rfl (by decide) rfl rfl rfl rfl (Nat.le_of_ble_eq_true rfl) dX7_openTicket_54 rfl ?_
        have e_5 : fX7_openTicket μ a b = ((fX7_opens (fX7_records (sI μ 0 0)) a b).1, (fX7_opens (fX7_records (sI μ 0 0)) a b).2) := by rw [fX7_openTicket]; rw [if_pos c_1, if_pos c_3, if_neg c_4]
        exact g_iret C hE (by rw [e_5]) (by rw [e_5]) dX7_openTicket_57
      · skip
        have hc9 := c_4
        refine g_aload_n C dX7_openTicket_41 rfl 0 rfl ?_
        refine g_iconst C (v := 2) dX7_openTicket_42 (by decide) ?_
        refine g_callV C (cs1 := [wM E am ((fX7_fails (sI μ 0 0) 2).2)]) (st1 := [.int ((fX7_fails (sI μ 0 0) 2).1)]) [.int 2] [0] (kX7_fails l E am (sI μ 0 0) 2) caX7_fails q6_127 rfl ⟨Nat.le_of_ble_eq_true rfl, Nat.le_of_ble_eq_true rfl⟩ ⟨Nat.zero_le _, Nat.zero_le _⟩ 0 0 rfl rfl rfl rfl (by decide) rfl rfl rfl rfl (Nat.le_of_ble_eq_true rfl) dX7_openTicket_43 rfl ?_
        have e_6 : fX7_openTicket μ a b = ((fX7_fails (sI μ 0 0) 2).1, (fX7_fails (sI μ 0 0) 2).2) := by rw [fX7_openTicket]; rw [if_pos c_1, if_pos c_3, if_pos c_4]
        exact g_iret C hE (by rw [e_6]) (by rw [e_6]) dX7_openTicket_46
    · skip
      refine g_aload_n C dX7_openTicket_24 rfl 0 rfl ?_
      refine g_iconst C (v := 1) dX7_openTicket_25 (by decide) ?_
      refine g_callV C (cs1 := [wM E am ((fX7_fails (sI μ 0 0) 1).2)]) (st1 := [.int ((fX7_fails (sI μ 0 0) 1).1)]) [.int 1] [0] (kX7_fails l E am (sI μ 0 0) 1) caX7_fails q6_127 rfl ⟨Nat.le_of_ble_eq_true rfl, Nat.le_of_ble_eq_true rfl⟩ ⟨Nat.zero_le _, Nat.zero_le _⟩ 0 0 rfl rfl rfl rfl (by decide) rfl rfl rfl rfl (Nat.le_of_ble_eq_true rfl) dX7_openTicket_26 rfl ?_
      have e_7 : fX7_openTicket μ a b = ((fX7_fails (sI μ 0 0) 1).1, (fX7_fails (sI μ 0 0) 1).2) := by rw [fX7_openTicket]; rw [if_pos c_1, if_neg (ne_true_of_eq_false c_3)]
      exact g_iret C hE (by rw [e_7]) (by rw [e_7]) dX7_openTicket_29
def fX7_reestimate (μ : BS) (a : Int32) (b : Int32) : Int32 × BS :=
  if (fX7_isTicket (sI μ 0 0) a) = true then (if (fX7_in b 1 13) = true then (if (fX7_isLeft (sI μ 0 0) a.toNatClampNeg) = true then (if (fX7_canTake (sI μ 0 0) ((fX7_of (sI μ 0 0) a.toNatClampNeg 3).toNatClampNeg) (b - (fX7_of (sI μ 0 0) a.toNatClampNeg 0))) = true then ((fX7_of (sI μ 0 0) a.toNatClampNeg 0), (fX7_lay (fX7_records (sI μ 0 0)) a.toNatClampNeg 0 b)) else ((fX7_fails (sI μ 0 0) 3).1, (fX7_fails (sI μ 0 0) 3).2)) else ((fX7_fails (sI μ 0 0) 3).1, (fX7_fails (sI μ 0 0) 3).2)) else ((fX7_fails (sI μ 0 0) 2).1, (fX7_fails (sI μ 0 0) 2).2)) else ((fX7_fails (sI μ 0 0) 1).1, (fX7_fails (sI μ 0 0) 1).2)
theorem caX7_reestimate : gCalV yX7_reestimate cX7_reestimate 4 (some .int) 2 := ⟨⟨q6_146, q1_6, by decide +kernel⟩, q6_144, q6_145⟩
set_option maxHeartbeats 4000000 in
set_option maxRecDepth 100000 in
theorem kX7_reestimate (l : Launch) (E : gE) (am : Nat → Nat) (μ : BS) (hv : vM μ)  (a : Int32) (b : Int32) : MC l E yX7_reestimate cX7_reestimate 4 (some .int) 4 88 [.ref (am 0), .int a, .int b] [wM E am μ] (some (.int (fX7_reestimate μ a b).1)) [wM E am ((fX7_reestimate μ a b).2)] := by
  have hv1 : cM μ ≤ 20 := hv.1.1
  have hc0 : μ.2 0 0 = nI (cM μ) := hv.1.2.1
  refine mc_of (by decide +kernel) (Nat.le_of_ble_eq_true rfl) (lv := [(0, .ref (am 0)), (1, .int a), (2, .int b)]) rfl (fun X C hE => ?_)
  refine g_aload_n C dX7_reestimate_0 rfl 0 rfl ?_
  refine g_iconst C (v := 0) dX7_reestimate_1 (by decide) ?_
  refine g_putf C (T := TX7) (N := 15) (ty := .int) (w1 := wM E am (sI μ 0 0)) (cs1 := [wM E am (sI μ 0 0)]) 0 0 rfl rfl rfl inX7 tyX7_ok nmX7 0 (by decide) q6_70 rfl (by decide +kernel) rfl rfl (Nat.le_of_ble_eq_true rfl) rfl rfl dX7_reestimate_2 ?_
  refine g_aload_n C dX7_reestimate_5 rfl 0 rfl ?_
  refine g_iload_n C dX7_reestimate_6 rfl 1 rfl ?_
  refine g_callV C (cs1 := [wM E am (sI μ 0 0)]) (st1 := [.int (b2i (fX7_isTicket (sI μ 0 0) a))]) [.int a] [0] (kX7_isTicket l E am (sI μ 0 0) a) caX7_isTicket q6_147 rfl ⟨Nat.le_of_ble_eq_true rfl, Nat.le_of_ble_eq_true rfl⟩ ⟨Nat.zero_le _, Nat.zero_le _⟩ 0 0 rfl rfl rfl rfl (by decide) rfl rfl rfl rfl (Nat.le_of_ble_eq_true rfl) dX7_reestimate_7 rfl ?_
  refine g_ifB_ne C 19 dX7_reestimate_10 (by decide) (fun c_1 => ?_) (fun c_1 => ?_)
  · skip
    have hx_2 := isTicket_i (vM_i0 hv) c_1
    refine g_iload_n C dX7_reestimate_19 rfl 2 rfl ?_
    refine g_iconst C (v := 1) dX7_reestimate_20 (by decide) ?_
    refine g_bipush C (v := 13) dX7_reestimate_21 (by decide) ?_
    refine g_callS C (cs1 := [wM E am (sI μ 0 0)]) (st1 := [.int (b2i (fX7_in b 1 13))]) [.int b, .int 1, .int 13] [] (kX7_in l E b 1 13) caX7_in q6_124 rfl ⟨Nat.le_of_ble_eq_true rfl, Nat.le_of_ble_eq_true rfl⟩ ⟨Nat.zero_le _, Nat.zero_le _⟩ (by decide) rfl rfl rfl rfl (Nat.le_of_ble_eq_true rfl) dX7_reestimate_23 rfl ?_
    refine g_ifB_ne C 35 dX7_reestimate_26 (by decide) (fun c_3 => ?_) (fun c_3 => ?_)
    · skip
      refine g_aload_n C dX7_reestimate_35 rfl 0 rfl ?_
      refine g_iload_n C dX7_reestimate_36 rfl 1 rfl ?_
      refine g_iconst C (v := 0) dX7_reestimate_37 (by decide) ?_
      refine g_st (st1 := [.int 0, .int (nI a.toNatClampNeg), .ref (am 0)]) (by rw [← hx_2.1]) ?_
      refine g_callV C (cs1 := [wM E am (sI μ 0 0)]) (st1 := [.int (fX7_of (sI μ 0 0) a.toNatClampNeg 0)]) [.int (nI a.toNatClampNeg), .int 0] [0] (kX7_of l E am (sI μ 0 0) a.toNatClampNeg (by omega) 0 (by decide)) caX7_of q6_151 rfl ⟨Nat.le_of_ble_eq_true rfl, Nat.le_of_ble_eq_true rfl⟩ ⟨Nat.zero_le _, Nat.zero_le _⟩ 0 0 rfl rfl rfl rfl (by decide) rfl rfl rfl rfl (Nat.le_of_ble_eq_true rfl) dX7_reestimate_38 rfl ?_
      refine g_istore_n C (lv1 := [(3, .int (fX7_of (sI μ 0 0) a.toNatClampNeg 0)), (0, .ref (am 0)), (1, .int a), (2, .int b)]) dX7_reestimate_41 rfl (by decide) rfl ?_
      refine g_aload_n C dX7_reestimate_42 rfl 1 rfl ?_
      refine g_iload_n C dX7_reestimate_43 rfl 2 rfl ?_
      refine g_st (st1 := [.int (nI a.toNatClampNeg), .ref (am 0)]) (by rw [← hx_2.1]) ?_
      refine g_callV C (cs1 := [wM E am (sI μ 0 0)]) (st1 := [.int (b2i (fX7_isLeft (sI μ 0 0) a.toNatClampNeg))]) [.int (nI a.toNatClampNeg)] [0] (kX7_isLeft l E am (sI μ 0 0) a.toNatClampNeg (by omega)) caX7_isLeft q6_155 rfl ⟨Nat.le_of_ble_eq_true rfl, Nat.le_of_ble_eq_true rfl⟩ ⟨Nat.zero_le _, Nat.zero_le _⟩ 0 0 rfl rfl rfl rfl (by decide) rfl rfl rfl rfl (Nat.le_of_ble_eq_true rfl) dX7_reestimate_44 rfl ?_
      refine g_ifB_eq C 66 dX7_reestimate_47 (by decide) (fun c_4 => ?_) (fun c_4 => ?_)
      · skip
        refine g_aload_n C dX7_reestimate_66 rfl 1 rfl ?_
        refine g_iconst C (v := 3) dX7_reestimate_67 (by decide) ?_
        refine g_callV C (cs1 := [wM E am ((fX7_fails (sI μ 0 0) 3).2)]) (st1 := [.int ((fX7_fails (sI μ 0 0) 3).1)]) [.int 3] [0] (kX7_fails l E am (sI μ 0 0) 3) caX7_fails q6_127 rfl ⟨Nat.le_of_ble_eq_true rfl, Nat.le_of_ble_eq_true rfl⟩ ⟨Nat.zero_le _, Nat.zero_le _⟩ 0 0 rfl rfl rfl rfl (by decide) rfl rfl rfl rfl (Nat.le_of_ble_eq_true rfl) dX7_reestimate_68 rfl ?_
        have e_5 : fX7_reestimate μ a b = ((fX7_fails (sI μ 0 0) 3).1, (fX7_fails (sI μ 0 0) 3).2) := by rw [fX7_reestimate]; rw [if_pos c_1, if_pos c_3, if_neg (ne_true_of_eq_false c_4)]
        exact g_iret C hE (by rw [e_5]) (by rw [e_5]) dX7_reestimate_71
      · skip
        refine g_aload_n C dX7_reestimate_50 rfl 1 rfl ?_
        refine g_aload_n C dX7_reestimate_51 rfl 1 rfl ?_
        refine g_iload_n C dX7_reestimate_52 rfl 2 rfl ?_
        refine g_iconst C (v := 3) dX7_reestimate_53 (by decide) ?_
        refine g_st (st1 := [.int 3, .int (nI a.toNatClampNeg), .ref (am 0), .ref (am 0)]) (by rw [← hx_2.1]) ?_
        refine g_callV C (cs1 := [wM E am (sI μ 0 0)]) (st1 := [.int (fX7_of (sI μ 0 0) a.toNatClampNeg 3), .ref (am 0)]) [.int (nI a.toNatClampNeg), .int 3] [0] (kX7_of l E am (sI μ 0 0) a.toNatClampNeg (by omega) 3 (by decide)) caX7_of q6_151 rfl ⟨Nat.le_of_ble_eq_true rfl, Nat.le_of_ble_eq_true rfl⟩ ⟨Nat.zero_le _, Nat.zero_le _⟩ 0 0 rfl rfl rfl rfl (by decide) rfl rfl rfl rfl (Nat.le_of_ble_eq_true rfl) dX7_reestimate_54 rfl ?_
        refine g_iload_n C dX7_reestimate_57 rfl 3 rfl ?_
        refine g_iload_n C dX7_reestimate_58 rfl 0 rfl ?_
        refine g_isub C dX7_reestimate_59 ?_
        refine g_st (st1 := [.int (b - (fX7_of (sI μ 0 0) a.toNatClampNeg 0)), .int (nI ((fX7_of (sI μ 0 0) a.toNatClampNeg 3).toNatClampNeg)), .ref (am 0)]) (by rw [← (okOw (vM_i0 hv) hx_2.2.1).1]) ?_
        refine g_callV C (cs1 := [wM E am (sI μ 0 0)]) (st1 := [.int (b2i (fX7_canTake (sI μ 0 0) ((fX7_of (sI μ 0 0) a.toNatClampNeg 3).toNatClampNeg) (b - (fX7_of (sI μ 0 0) a.toNatClampNeg 0))))]) [.int (nI ((fX7_of (sI μ 0 0) a.toNatClampNeg 3).toNatClampNeg)), .int (b - (fX7_of (sI μ 0 0) a.toNatClampNeg 0))] [0] (kX7_canTake l E am (sI μ 0 0) (vM_i0 hv) ((fX7_of (sI μ 0 0) a.toNatClampNeg 3).toNatClampNeg) (okOw (vM_i0 hv) hx_2.2.1).2 (b - (fX7_of (sI μ 0 0) a.toNatClampNeg 0))) caX7_canTake q6_159 rfl ⟨Nat.le_of_ble_eq_true rfl, Nat.le_of_ble_eq_true rfl⟩ ⟨Nat.zero_le _, Nat.zero_le _⟩ 0 0 rfl rfl rfl rfl (by decide) rfl rfl rfl rfl (Nat.le_of_ble_eq_true rfl) dX7_reestimate_60 rfl ?_
        refine g_ifB_ne C 72 dX7_reestimate_63 (by decide) (fun c_6 => ?_) (fun c_6 => ?_)
        · skip
          refine g_aload_n C dX7_reestimate_72 rfl 1 rfl ?_
          refine g_callV C (cs1 := [wM E am (fX7_records (sI μ 0 0))]) (st1 := []) [] [0] (kX7_records l E am (sI μ 0 0) (vM_i0 hv)) caX7_records q6_131 rfl ⟨Nat.le_of_ble_eq_true rfl, Nat.le_of_ble_eq_true rfl⟩ ⟨Nat.zero_le _, Nat.zero_le _⟩ 0 0 rfl rfl rfl rfl (by decide) rfl rfl rfl rfl (Nat.le_of_ble_eq_true rfl) dX7_reestimate_73 rfl ?_
          refine g_aload_n C dX7_reestimate_76 rfl 1 rfl ?_
          refine g_iload_n C dX7_reestimate_77 rfl 2 rfl ?_
          refine g_iconst C (v := 0) dX7_reestimate_78 (by decide) ?_
          refine g_iload_n C dX7_reestimate_79 rfl 3 rfl ?_
          refine g_st (st1 := [.int b, .int 0, .int (nI a.toNatClampNeg), .ref (am 0)]) (by rw [← hx_2.1]) ?_
          refine g_callV C (cs1 := [wM E am (fX7_lay (fX7_records (sI μ 0 0)) a.toNatClampNeg 0 b)]) (st1 := []) [.int (nI a.toNatClampNeg), .int 0, .int b] [0] (kX7_lay l E am (fX7_records (sI μ 0 0)) a.toNatClampNeg (by omega) 0 (by decide) b) caX7_lay q6_139 rfl ⟨Nat.le_of_ble_eq_true rfl, Nat.le_of_ble_eq_true rfl⟩ ⟨Nat.zero_le _, Nat.zero_le _⟩ 0 0 rfl rfl rfl rfl (by decide) rfl rfl rfl rfl (Nat.le_of_ble_eq_true rfl) dX7_reestimate_80 rfl ?_
          refine g_iload_n C dX7_reestimate_83 rfl 0 rfl ?_
          have e_7 : fX7_reestimate μ a b = ((fX7_of (sI μ 0 0) a.toNatClampNeg 0), (fX7_lay (fX7_records (sI μ 0 0)) a.toNatClampNeg 0 b)) := by rw [fX7_reestimate]; rw [if_pos c_1, if_pos c_3, if_pos c_4, if_pos c_6]
          exact g_iret C hE (by rw [e_7]) (by rw [e_7]) dX7_reestimate_84
        · skip
          refine g_aload_n C dX7_reestimate_66 rfl 1 rfl ?_
          refine g_iconst C (v := 3) dX7_reestimate_67 (by decide) ?_
          refine g_callV C (cs1 := [wM E am ((fX7_fails (sI μ 0 0) 3).2)]) (st1 := [.int ((fX7_fails (sI μ 0 0) 3).1)]) [.int 3] [0] (kX7_fails l E am (sI μ 0 0) 3) caX7_fails q6_127 rfl ⟨Nat.le_of_ble_eq_true rfl, Nat.le_of_ble_eq_true rfl⟩ ⟨Nat.zero_le _, Nat.zero_le _⟩ 0 0 rfl rfl rfl rfl (by decide) rfl rfl rfl rfl (Nat.le_of_ble_eq_true rfl) dX7_reestimate_68 rfl ?_
          have e_8 : fX7_reestimate μ a b = ((fX7_fails (sI μ 0 0) 3).1, (fX7_fails (sI μ 0 0) 3).2) := by rw [fX7_reestimate]; rw [if_pos c_1, if_pos c_3, if_pos c_4, if_neg (ne_true_of_eq_false c_6)]
          exact g_iret C hE (by rw [e_8]) (by rw [e_8]) dX7_reestimate_71
    · skip
      refine g_aload_n C dX7_reestimate_29 rfl 0 rfl ?_
      refine g_iconst C (v := 2) dX7_reestimate_30 (by decide) ?_
      refine g_callV C (cs1 := [wM E am ((fX7_fails (sI μ 0 0) 2).2)]) (st1 := [.int ((fX7_fails (sI μ 0 0) 2).1)]) [.int 2] [0] (kX7_fails l E am (sI μ 0 0) 2) caX7_fails q6_127 rfl ⟨Nat.le_of_ble_eq_true rfl, Nat.le_of_ble_eq_true rfl⟩ ⟨Nat.zero_le _, Nat.zero_le _⟩ 0 0 rfl rfl rfl rfl (by decide) rfl rfl rfl rfl (Nat.le_of_ble_eq_true rfl) dX7_reestimate_31 rfl ?_
      have e_9 : fX7_reestimate μ a b = ((fX7_fails (sI μ 0 0) 2).1, (fX7_fails (sI μ 0 0) 2).2) := by rw [fX7_reestimate]; rw [if_pos c_1, if_neg (ne_true_of_eq_false c_3)]
      exact g_iret C hE (by rw [e_9]) (by rw [e_9]) dX7_reestimate_34
  · skip
    refine g_aload_n C dX7_reestimate_13 rfl 0 rfl ?_
    refine g_iconst C (v := 1) dX7_reestimate_14 (by decide) ?_
    refine g_callV C (cs1 := [wM E am ((fX7_fails (sI μ 0 0) 1).2)]) (st1 := [.int ((fX7_fails (sI μ 0 0) 1).1)]) [.int 1] [0] (kX7_fails l E am (sI μ 0 0) 1) caX7_fails q6_127 rfl ⟨Nat.le_of_ble_eq_true rfl, Nat.le_of_ble_eq_true rfl⟩ ⟨Nat.zero_le _, Nat.zero_le _⟩ 0 0 rfl rfl rfl rfl (by decide) rfl rfl rfl rfl (Nat.le_of_ble_eq_true rfl) dX7_reestimate_15 rfl ?_
    have e_10 : fX7_reestimate μ a b = ((fX7_fails (sI μ 0 0) 1).1, (fX7_fails (sI μ 0 0) 1).2) := by rw [fX7_reestimate]; rw [if_neg (ne_true_of_eq_false c_1)]
    exact g_iret C hE (by rw [e_10]) (by rw [e_10]) dX7_reestimate_18
def fX7_changePriority (μ : BS) (a : Int32) (b : Int32) : Int32 × BS :=
  if (fX7_isTicket (sI μ 0 0) a) = true then (if (fX7_in b 0 3) = true then ((fX7_of (fX7_records (sI μ 0 0)) a.toNatClampNeg 1), (fX7_lay (fX7_records (sI μ 0 0)) a.toNatClampNeg 1 b)) else ((fX7_fails (sI μ 0 0) 2).1, (fX7_fails (sI μ 0 0) 2).2)) else ((fX7_fails (sI μ 0 0) 1).1, (fX7_fails (sI μ 0 0) 1).2)
theorem caX7_changePriority : gCalV yX7_changePriority cX7_changePriority 4 (some .int) 2 := ⟨⟨q6_170, q1_6, by decide +kernel⟩, q6_168, q6_169⟩
set_option maxHeartbeats 4000000 in
set_option maxRecDepth 100000 in
theorem kX7_changePriority (l : Launch) (E : gE) (am : Nat → Nat) (μ : BS) (hv : vM μ)  (a : Int32) (b : Int32) : MC l E yX7_changePriority cX7_changePriority 4 (some .int) 2 43 [.ref (am 0), .int a, .int b] [wM E am μ] (some (.int (fX7_changePriority μ a b).1)) [wM E am ((fX7_changePriority μ a b).2)] := by
  have hv1 : cM μ ≤ 20 := hv.1.1
  have hc0 : μ.2 0 0 = nI (cM μ) := hv.1.2.1
  refine mc_of (by decide +kernel) (Nat.le_of_ble_eq_true rfl) (lv := [(0, .ref (am 0)), (1, .int a), (2, .int b)]) rfl (fun X C hE => ?_)
  refine g_aload_n C dX7_changePriority_0 rfl 0 rfl ?_
  refine g_iconst C (v := 0) dX7_changePriority_1 (by decide) ?_
  refine g_putf C (T := TX7) (N := 15) (ty := .int) (w1 := wM E am (sI μ 0 0)) (cs1 := [wM E am (sI μ 0 0)]) 0 0 rfl rfl rfl inX7 tyX7_ok nmX7 0 (by decide) q6_70 rfl (by decide +kernel) rfl rfl (Nat.le_of_ble_eq_true rfl) rfl rfl dX7_changePriority_2 ?_
  refine g_aload_n C dX7_changePriority_5 rfl 0 rfl ?_
  refine g_iload_n C dX7_changePriority_6 rfl 1 rfl ?_
  refine g_callV C (cs1 := [wM E am (sI μ 0 0)]) (st1 := [.int (b2i (fX7_isTicket (sI μ 0 0) a))]) [.int a] [0] (kX7_isTicket l E am (sI μ 0 0) a) caX7_isTicket q6_147 rfl ⟨Nat.le_of_ble_eq_true rfl, Nat.le_of_ble_eq_true rfl⟩ ⟨Nat.zero_le _, Nat.zero_le _⟩ 0 0 rfl rfl rfl rfl (by decide) rfl rfl rfl rfl (Nat.le_of_ble_eq_true rfl) dX7_changePriority_7 rfl ?_
  refine g_ifB_ne C 19 dX7_changePriority_10 (by decide) (fun c_1 => ?_) (fun c_1 => ?_)
  · skip
    have hx_2 := isTicket_i (vM_i0 hv) c_1
    refine g_iload_n C dX7_changePriority_19 rfl 2 rfl ?_
    refine g_iconst C (v := 0) dX7_changePriority_20 (by decide) ?_
    refine g_iconst C (v := 3) dX7_changePriority_21 (by decide) ?_
    refine g_callS C (cs1 := [wM E am (sI μ 0 0)]) (st1 := [.int (b2i (fX7_in b 0 3))]) [.int b, .int 0, .int 3] [] (kX7_in l E b 0 3) caX7_in q6_124 rfl ⟨Nat.le_of_ble_eq_true rfl, Nat.le_of_ble_eq_true rfl⟩ ⟨Nat.zero_le _, Nat.zero_le _⟩ (by decide) rfl rfl rfl rfl (Nat.le_of_ble_eq_true rfl) dX7_changePriority_22 rfl ?_
    refine g_ifB_ne C 34 dX7_changePriority_25 (by decide) (fun c_3 => ?_) (fun c_3 => ?_)
    · skip
      refine g_aload_n C dX7_changePriority_34 rfl 0 rfl ?_
      refine g_callV C (cs1 := [wM E am (fX7_records (sI μ 0 0))]) (st1 := []) [] [0] (kX7_records l E am (sI μ 0 0) (vM_i0 hv)) caX7_records q6_131 rfl ⟨Nat.le_of_ble_eq_true rfl, Nat.le_of_ble_eq_true rfl⟩ ⟨Nat.zero_le _, Nat.zero_le _⟩ 0 0 rfl rfl rfl rfl (by decide) rfl rfl rfl rfl (Nat.le_of_ble_eq_true rfl) dX7_changePriority_35 rfl ?_
      refine g_aload_n C dX7_changePriority_38 rfl 0 rfl ?_
      refine g_iload_n C dX7_changePriority_39 rfl 1 rfl ?_
      refine g_iconst C (v := 1) dX7_changePriority_40 (by decide) ?_
      refine g_st (st1 := [.int 1, .int (nI a.toNatClampNeg), .ref (am 0)]) (by rw [← hx_2.1]) ?_
      refine g_callV C (cs1 := [wM E am (fX7_records (sI μ 0 0))]) (st1 := [.int (fX7_of (fX7_records (sI μ 0 0)) a.toNatClampNeg 1)]) [.int (nI a.toNatClampNeg), .int 1] [0] (kX7_of l E am (fX7_records (sI μ 0 0)) a.toNatClampNeg (by omega) 1 (by decide)) caX7_of q6_151 rfl ⟨Nat.le_of_ble_eq_true rfl, Nat.le_of_ble_eq_true rfl⟩ ⟨Nat.zero_le _, Nat.zero_le _⟩ 0 0 rfl rfl rfl rfl (by decide) rfl rfl rfl rfl (Nat.le_of_ble_eq_true rfl) dX7_changePriority_41 rfl ?_
      refine g_istore_n C (lv1 := [(3, .int (fX7_of (fX7_records (sI μ 0 0)) a.toNatClampNeg 1)), (0, .ref (am 0)), (1, .int a), (2, .int b)]) dX7_changePriority_44 rfl (by decide) rfl ?_
      refine g_aload_n C dX7_changePriority_45 rfl 1 rfl ?_
      refine g_iload_n C dX7_changePriority_46 rfl 2 rfl ?_
      refine g_iconst C (v := 1) dX7_changePriority_47 (by decide) ?_
      refine g_iload_n C dX7_changePriority_48 rfl 3 rfl ?_
      refine g_st (st1 := [.int b, .int 1, .int (nI a.toNatClampNeg), .ref (am 0)]) (by rw [← hx_2.1]) ?_
      refine g_callV C (cs1 := [wM E am (fX7_lay (fX7_records (sI μ 0 0)) a.toNatClampNeg 1 b)]) (st1 := []) [.int (nI a.toNatClampNeg), .int 1, .int b] [0] (kX7_lay l E am (fX7_records (sI μ 0 0)) a.toNatClampNeg (by omega) 1 (by decide) b) caX7_lay q6_139 rfl ⟨Nat.le_of_ble_eq_true rfl, Nat.le_of_ble_eq_true rfl⟩ ⟨Nat.zero_le _, Nat.zero_le _⟩ 0 0 rfl rfl rfl rfl (by decide) rfl rfl rfl rfl (Nat.le_of_ble_eq_true rfl) dX7_changePriority_49 rfl ?_
      refine g_iload_n C dX7_changePriority_52 rfl 0 rfl ?_
      have e_4 : fX7_changePriority μ a b = ((fX7_of (fX7_records (sI μ 0 0)) a.toNatClampNeg 1), (fX7_lay (fX7_records (sI μ 0 0)) a.toNatClampNeg 1 b)) := by rw [fX7_changePriority]; rw [if_pos c_1, if_pos c_3]
      exact g_iret C hE (by rw [e_4]) (by rw [e_4]) dX7_changePriority_53
    · skip
      refine g_aload_n C dX7_changePriority_28 rfl 0 rfl ?_
      refine g_iconst C (v := 2) dX7_changePriority_29 (by decide) ?_
      refine g_callV C (cs1 := [wM E am ((fX7_fails (sI μ 0 0) 2).2)]) (st1 := [.int ((fX7_fails (sI μ 0 0) 2).1)]) [.int 2] [0] (kX7_fails l E am (sI μ 0 0) 2) caX7_fails q6_127 rfl ⟨Nat.le_of_ble_eq_true rfl, Nat.le_of_ble_eq_true rfl⟩ ⟨Nat.zero_le _, Nat.zero_le _⟩ 0 0 rfl rfl rfl rfl (by decide) rfl rfl rfl rfl (Nat.le_of_ble_eq_true rfl) dX7_changePriority_30 rfl ?_
      have e_5 : fX7_changePriority μ a b = ((fX7_fails (sI μ 0 0) 2).1, (fX7_fails (sI μ 0 0) 2).2) := by rw [fX7_changePriority]; rw [if_pos c_1, if_neg (ne_true_of_eq_false c_3)]
      exact g_iret C hE (by rw [e_5]) (by rw [e_5]) dX7_changePriority_33
  · skip
    refine g_aload_n C dX7_changePriority_13 rfl 0 rfl ?_
    refine g_iconst C (v := 1) dX7_changePriority_14 (by decide) ?_
    refine g_callV C (cs1 := [wM E am ((fX7_fails (sI μ 0 0) 1).2)]) (st1 := [.int ((fX7_fails (sI μ 0 0) 1).1)]) [.int 1] [0] (kX7_fails l E am (sI μ 0 0) 1) caX7_fails q6_127 rfl ⟨Nat.le_of_ble_eq_true rfl, Nat.le_of_ble_eq_true rfl⟩ ⟨Nat.zero_le _, Nat.zero_le _⟩ 0 0 rfl rfl rfl rfl (by decide) rfl rfl rfl rfl (Nat.le_of_ble_eq_true rfl) dX7_changePriority_15 rfl ?_
    have e_6 : fX7_changePriority μ a b = ((fX7_fails (sI μ 0 0) 1).1, (fX7_fails (sI μ 0 0) 1).2) := by rw [fX7_changePriority]; rw [if_neg (ne_true_of_eq_false c_1)]
    exact g_iret C hE (by rw [e_6]) (by rw [e_6]) dX7_changePriority_18
def fX7_need (μ : BS) (a : Int32) (b : Int32) : Int32 × BS :=
  if (fX7_isTicket (sI μ 0 0) a) = true then (if (fX7_isTicket (sI μ 0 0) b) = true then (if a = b then ((fX7_fails (sI μ 0 0) 2).1, (fX7_fails (sI μ 0 0) 2).2) else (if (fX7_canNeed (sI μ 0 0) a.toNatClampNeg b.toNatClampNeg) = true then ((fX7_takesNeed (fX7_records (sI μ 0 0)) a.toNatClampNeg b).1, (fX7_takesNeed (fX7_records (sI μ 0 0)) a.toNatClampNeg b).2) else ((fX7_fails (sI μ 0 0) 3).1, (fX7_fails (sI μ 0 0) 3).2))) else ((fX7_fails (sI μ 0 0) 1).1, (fX7_fails (sI μ 0 0) 1).2)) else ((fX7_fails (sI μ 0 0) 1).1, (fX7_fails (sI μ 0 0) 1).2)
theorem caX7_need : gCalV yX7_need cX7_need 3 (some .int) 2 := ⟨⟨q6_174, q1_6, by decide +kernel⟩, q6_172, q6_173⟩
set_option maxHeartbeats 4000000 in
set_option maxRecDepth 100000 in
theorem kX7_need (l : Launch) (E : gE) (am : Nat → Nat) (μ : BS) (hv : vM μ)  (a : Int32) (b : Int32) : MC l E yX7_need cX7_need 3 (some .int) 3 68 [.ref (am 0), .int a, .int b] [wM E am μ] (some (.int (fX7_need μ a b).1)) [wM E am ((fX7_need μ a b).2)] := by
  have hv1 : cM μ ≤ 20 := hv.1.1
  have hc0 : μ.2 0 0 = nI (cM μ) := hv.1.2.1
  refine mc_of (by decide +kernel) (Nat.le_of_ble_eq_true rfl) (lv := [(0, .ref (am 0)), (1, .int a), (2, .int b)]) rfl (fun X C hE => ?_)
  refine g_aload_n C dX7_need_0 rfl 0 rfl ?_
  refine g_iconst C (v := 0) dX7_need_1 (by decide) ?_
  refine g_putf C (T := TX7) (N := 15) (ty := .int) (w1 := wM E am (sI μ 0 0)) (cs1 := [wM E am (sI μ 0 0)]) 0 0 rfl rfl rfl inX7 tyX7_ok nmX7 0 (by decide) q6_70 rfl (by decide +kernel) rfl rfl (Nat.le_of_ble_eq_true rfl) rfl rfl dX7_need_2 ?_
  refine g_aload_n C dX7_need_5 rfl 0 rfl ?_
  refine g_iload_n C dX7_need_6 rfl 1 rfl ?_
  refine g_callV C (cs1 := [wM E am (sI μ 0 0)]) (st1 := [.int (b2i (fX7_isTicket (sI μ 0 0) a))]) [.int a] [0] (kX7_isTicket l E am (sI μ 0 0) a) caX7_isTicket q6_147 rfl ⟨Nat.le_of_ble_eq_true rfl, Nat.le_of_ble_eq_true rfl⟩ ⟨Nat.zero_le _, Nat.zero_le _⟩ 0 0 rfl rfl rfl rfl (by decide) rfl rfl rfl rfl (Nat.le_of_ble_eq_true rfl) dX7_need_7 rfl ?_
  refine g_ifB_eq C 21 dX7_need_10 (by decide) (fun c_1 => ?_) (fun c_1 => ?_)
  · skip
    refine g_aload_n C dX7_need_21 rfl 0 rfl ?_
    refine g_iconst C (v := 1) dX7_need_22 (by decide) ?_
    refine g_callV C (cs1 := [wM E am ((fX7_fails (sI μ 0 0) 1).2)]) (st1 := [.int ((fX7_fails (sI μ 0 0) 1).1)]) [.int 1] [0] (kX7_fails l E am (sI μ 0 0) 1) caX7_fails q6_127 rfl ⟨Nat.le_of_ble_eq_true rfl, Nat.le_of_ble_eq_true rfl⟩ ⟨Nat.zero_le _, Nat.zero_le _⟩ 0 0 rfl rfl rfl rfl (by decide) rfl rfl rfl rfl (Nat.le_of_ble_eq_true rfl) dX7_need_23 rfl ?_
    have e_2 : fX7_need μ a b = ((fX7_fails (sI μ 0 0) 1).1, (fX7_fails (sI μ 0 0) 1).2) := by rw [fX7_need]; rw [if_neg (ne_true_of_eq_false c_1)]
    exact g_iret C hE (by rw [e_2]) (by rw [e_2]) dX7_need_26
  · skip
    have hx_3 := isTicket_i (vM_i0 hv) c_1
    refine g_aload_n C dX7_need_13 rfl 0 rfl ?_
    refine g_iload_n C dX7_need_14 rfl 2 rfl ?_
    refine g_callV C (cs1 := [wM E am (sI μ 0 0)]) (st1 := [.int (b2i (fX7_isTicket (sI μ 0 0) b))]) [.int b] [0] (kX7_isTicket l E am (sI μ 0 0) b) caX7_isTicket q6_147 rfl ⟨Nat.le_of_ble_eq_true rfl, Nat.le_of_ble_eq_true rfl⟩ ⟨Nat.zero_le _, Nat.zero_le _⟩ 0 0 rfl rfl rfl rfl (by decide) rfl rfl rfl rfl (Nat.le_of_ble_eq_true rfl) dX7_need_15 rfl ?_
    refine g_ifB_ne C 27 dX7_need_18 (by decide) (fun c_4 => ?_) (fun c_4 => ?_)
    · skip
      have hx_5 := isTicket_i (vM_i0 hv) c_4
      refine g_iload_n C dX7_need_27 rfl 1 rfl ?_
      refine g_iload_n C dX7_need_28 rfl 2 rfl ?_
      refine g_icmp_ne C 38 dX7_need_29 (by decide) (fun c_6 => ?_) (fun c_6 => ?_)
      · skip
        refine g_aload_n C dX7_need_38 rfl 0 rfl ?_
        refine g_iload_n C dX7_need_39 rfl 1 rfl ?_
        refine g_iload_n C dX7_need_40 rfl 2 rfl ?_
        refine g_st (st1 := [.int b, .int (nI a.toNatClampNeg), .ref (am 0)]) (by rw [← hx_3.1]) ?_
        refine g_st (st1 := [.int (nI b.toNatClampNeg), .int (nI a.toNatClampNeg), .ref (am 0)]) (by rw [← hx_5.1]) ?_
        refine g_callV C (cs1 := [wM E am (sI μ 0 0)]) (st1 := [.int (b2i (fX7_canNeed (sI μ 0 0) a.toNatClampNeg b.toNatClampNeg))]) [.int (nI a.toNatClampNeg), .int (nI b.toNatClampNeg)] [0] (kX7_canNeed l E am (sI μ 0 0) (vM_i0 hv) a.toNatClampNeg (by omega) b.toNatClampNeg (by omega)) caX7_canNeed q6_175 rfl ⟨Nat.le_of_ble_eq_true rfl, Nat.le_of_ble_eq_true rfl⟩ ⟨Nat.zero_le _, Nat.zero_le _⟩ 0 0 rfl rfl rfl rfl (by decide) rfl rfl rfl rfl (Nat.le_of_ble_eq_true rfl) dX7_need_41 rfl ?_
        refine g_ifB_ne C 53 dX7_need_44 (by decide) (fun c_7 => ?_) (fun c_7 => ?_)
        · skip
          refine g_aload_n C dX7_need_53 rfl 0 rfl ?_
          refine g_callV C (cs1 := [wM E am (fX7_records (sI μ 0 0))]) (st1 := []) [] [0] (kX7_records l E am (sI μ 0 0) (vM_i0 hv)) caX7_records q6_131 rfl ⟨Nat.le_of_ble_eq_true rfl, Nat.le_of_ble_eq_true rfl⟩ ⟨Nat.zero_le _, Nat.zero_le _⟩ 0 0 rfl rfl rfl rfl (by decide) rfl rfl rfl rfl (Nat.le_of_ble_eq_true rfl) dX7_need_54 rfl ?_
          refine g_aload_n C dX7_need_57 rfl 0 rfl ?_
          refine g_iload_n C dX7_need_58 rfl 1 rfl ?_
          refine g_iload_n C dX7_need_59 rfl 2 rfl ?_
          refine g_st (st1 := [.int b, .int (nI a.toNatClampNeg), .ref (am 0)]) (by rw [← hx_3.1]) ?_
          refine g_callV C (cs1 := [wM E am ((fX7_takesNeed (fX7_records (sI μ 0 0)) a.toNatClampNeg b).2)]) (st1 := [.int ((fX7_takesNeed (fX7_records (sI μ 0 0)) a.toNatClampNeg b).1)]) [.int (nI a.toNatClampNeg), .int b] [0] (kX7_takesNeed l E am (fX7_records (sI μ 0 0)) (vM_records (vM_i0 hv)) a.toNatClampNeg (by omega) b) caX7_takesNeed q6_187 rfl ⟨Nat.le_of_ble_eq_true rfl, Nat.le_of_ble_eq_true rfl⟩ ⟨Nat.zero_le _, Nat.zero_le _⟩ 0 0 rfl rfl rfl rfl (by decide) rfl rfl rfl rfl (Nat.le_of_ble_eq_true rfl) dX7_need_60 rfl ?_
          have e_8 : fX7_need μ a b = ((fX7_takesNeed (fX7_records (sI μ 0 0)) a.toNatClampNeg b).1, (fX7_takesNeed (fX7_records (sI μ 0 0)) a.toNatClampNeg b).2) := by rw [fX7_need]; rw [if_pos c_1, if_pos c_4, if_neg c_6, if_pos c_7]
          exact g_iret C hE (by rw [e_8]) (by rw [e_8]) dX7_need_63
        · skip
          refine g_aload_n C dX7_need_47 rfl 0 rfl ?_
          refine g_iconst C (v := 3) dX7_need_48 (by decide) ?_
          refine g_callV C (cs1 := [wM E am ((fX7_fails (sI μ 0 0) 3).2)]) (st1 := [.int ((fX7_fails (sI μ 0 0) 3).1)]) [.int 3] [0] (kX7_fails l E am (sI μ 0 0) 3) caX7_fails q6_127 rfl ⟨Nat.le_of_ble_eq_true rfl, Nat.le_of_ble_eq_true rfl⟩ ⟨Nat.zero_le _, Nat.zero_le _⟩ 0 0 rfl rfl rfl rfl (by decide) rfl rfl rfl rfl (Nat.le_of_ble_eq_true rfl) dX7_need_49 rfl ?_
          have e_9 : fX7_need μ a b = ((fX7_fails (sI μ 0 0) 3).1, (fX7_fails (sI μ 0 0) 3).2) := by rw [fX7_need]; rw [if_pos c_1, if_pos c_4, if_neg c_6, if_neg (ne_true_of_eq_false c_7)]
          exact g_iret C hE (by rw [e_9]) (by rw [e_9]) dX7_need_52
      · skip
        refine g_aload_n C dX7_need_32 rfl 0 rfl ?_
        refine g_iconst C (v := 2) dX7_need_33 (by decide) ?_
        refine g_callV C (cs1 := [wM E am ((fX7_fails (sI μ 0 0) 2).2)]) (st1 := [.int ((fX7_fails (sI μ 0 0) 2).1)]) [.int 2] [0] (kX7_fails l E am (sI μ 0 0) 2) caX7_fails q6_127 rfl ⟨Nat.le_of_ble_eq_true rfl, Nat.le_of_ble_eq_true rfl⟩ ⟨Nat.zero_le _, Nat.zero_le _⟩ 0 0 rfl rfl rfl rfl (by decide) rfl rfl rfl rfl (Nat.le_of_ble_eq_true rfl) dX7_need_34 rfl ?_
        have e_10 : fX7_need μ a b = ((fX7_fails (sI μ 0 0) 2).1, (fX7_fails (sI μ 0 0) 2).2) := by rw [fX7_need]; rw [if_pos c_1, if_pos c_4, if_pos c_6]
        exact g_iret C hE (by rw [e_10]) (by rw [e_10]) dX7_need_37
    · skip
      refine g_aload_n C dX7_need_21 rfl 0 rfl ?_
      refine g_iconst C (v := 1) dX7_need_22 (by decide) ?_
      refine g_callV C (cs1 := [wM E am ((fX7_fails (sI μ 0 0) 1).2)]) (st1 := [.int ((fX7_fails (sI μ 0 0) 1).1)]) [.int 1] [0] (kX7_fails l E am (sI μ 0 0) 1) caX7_fails q6_127 rfl ⟨Nat.le_of_ble_eq_true rfl, Nat.le_of_ble_eq_true rfl⟩ ⟨Nat.zero_le _, Nat.zero_le _⟩ 0 0 rfl rfl rfl rfl (by decide) rfl rfl rfl rfl (Nat.le_of_ble_eq_true rfl) dX7_need_23 rfl ?_
      have e_11 : fX7_need μ a b = ((fX7_fails (sI μ 0 0) 1).1, (fX7_fails (sI μ 0 0) 1).2) := by rw [fX7_need]; rw [if_pos c_1, if_neg (ne_true_of_eq_false c_4)]
      exact g_iret C hE (by rw [e_11]) (by rw [e_11]) dX7_need_26
def fX7_release (μ : BS) (a : Int32) (b : Int32) : Int32 × BS :=
  if (fX7_isTicket (sI μ 0 0) a) = true then (if (fX7_isTicket (sI μ 0 0) b) = true then (if (fX7_needsIt (sI μ 0 0) a.toNatClampNeg b) = true then ((fX7_takesNeed (fX7_records (sI μ 0 0)) a.toNatClampNeg b).1, (fX7_takesNeed (fX7_records (sI μ 0 0)) a.toNatClampNeg b).2) else ((fX7_fails (sI μ 0 0) 2).1, (fX7_fails (sI μ 0 0) 2).2)) else ((fX7_fails (sI μ 0 0) 1).1, (fX7_fails (sI μ 0 0) 1).2)) else ((fX7_fails (sI μ 0 0) 1).1, (fX7_fails (sI μ 0 0) 1).2)
theorem caX7_release : gCalV yX7_release cX7_release 3 (some .int) 2 := ⟨⟨q6_197, q1_6, by decide +kernel⟩, q6_195, q6_196⟩
set_option maxHeartbeats 4000000 in
set_option maxRecDepth 100000 in
theorem kX7_release (l : Launch) (E : gE) (am : Nat → Nat) (μ : BS) (hv : vM μ)  (a : Int32) (b : Int32) : MC l E yX7_release cX7_release 3 (some .int) 2 45 [.ref (am 0), .int a, .int b] [wM E am μ] (some (.int (fX7_release μ a b).1)) [wM E am ((fX7_release μ a b).2)] := by
  have hv1 : cM μ ≤ 20 := hv.1.1
  have hc0 : μ.2 0 0 = nI (cM μ) := hv.1.2.1
  refine mc_of (by decide +kernel) (Nat.le_of_ble_eq_true rfl) (lv := [(0, .ref (am 0)), (1, .int a), (2, .int b)]) rfl (fun X C hE => ?_)
  refine g_aload_n C dX7_release_0 rfl 0 rfl ?_
  refine g_iconst C (v := 0) dX7_release_1 (by decide) ?_
  refine g_putf C (T := TX7) (N := 15) (ty := .int) (w1 := wM E am (sI μ 0 0)) (cs1 := [wM E am (sI μ 0 0)]) 0 0 rfl rfl rfl inX7 tyX7_ok nmX7 0 (by decide) q6_70 rfl (by decide +kernel) rfl rfl (Nat.le_of_ble_eq_true rfl) rfl rfl dX7_release_2 ?_
  refine g_aload_n C dX7_release_5 rfl 0 rfl ?_
  refine g_iload_n C dX7_release_6 rfl 1 rfl ?_
  refine g_callV C (cs1 := [wM E am (sI μ 0 0)]) (st1 := [.int (b2i (fX7_isTicket (sI μ 0 0) a))]) [.int a] [0] (kX7_isTicket l E am (sI μ 0 0) a) caX7_isTicket q6_147 rfl ⟨Nat.le_of_ble_eq_true rfl, Nat.le_of_ble_eq_true rfl⟩ ⟨Nat.zero_le _, Nat.zero_le _⟩ 0 0 rfl rfl rfl rfl (by decide) rfl rfl rfl rfl (Nat.le_of_ble_eq_true rfl) dX7_release_7 rfl ?_
  refine g_ifB_eq C 21 dX7_release_10 (by decide) (fun c_1 => ?_) (fun c_1 => ?_)
  · skip
    refine g_aload_n C dX7_release_21 rfl 0 rfl ?_
    refine g_iconst C (v := 1) dX7_release_22 (by decide) ?_
    refine g_callV C (cs1 := [wM E am ((fX7_fails (sI μ 0 0) 1).2)]) (st1 := [.int ((fX7_fails (sI μ 0 0) 1).1)]) [.int 1] [0] (kX7_fails l E am (sI μ 0 0) 1) caX7_fails q6_127 rfl ⟨Nat.le_of_ble_eq_true rfl, Nat.le_of_ble_eq_true rfl⟩ ⟨Nat.zero_le _, Nat.zero_le _⟩ 0 0 rfl rfl rfl rfl (by decide) rfl rfl rfl rfl (Nat.le_of_ble_eq_true rfl) dX7_release_23 rfl ?_
    have e_2 : fX7_release μ a b = ((fX7_fails (sI μ 0 0) 1).1, (fX7_fails (sI μ 0 0) 1).2) := by rw [fX7_release]; rw [if_neg (ne_true_of_eq_false c_1)]
    exact g_iret C hE (by rw [e_2]) (by rw [e_2]) dX7_release_26
  · skip
    have hx_3 := isTicket_i (vM_i0 hv) c_1
    refine g_aload_n C dX7_release_13 rfl 0 rfl ?_
    refine g_iload_n C dX7_release_14 rfl 2 rfl ?_
    refine g_callV C (cs1 := [wM E am (sI μ 0 0)]) (st1 := [.int (b2i (fX7_isTicket (sI μ 0 0) b))]) [.int b] [0] (kX7_isTicket l E am (sI μ 0 0) b) caX7_isTicket q6_147 rfl ⟨Nat.le_of_ble_eq_true rfl, Nat.le_of_ble_eq_true rfl⟩ ⟨Nat.zero_le _, Nat.zero_le _⟩ 0 0 rfl rfl rfl rfl (by decide) rfl rfl rfl rfl (Nat.le_of_ble_eq_true rfl) dX7_release_15 rfl ?_
    refine g_ifB_ne C 27 dX7_release_18 (by decide) (fun c_4 => ?_) (fun c_4 => ?_)
    · skip
      have hx_5 := isTicket_i (vM_i0 hv) c_4
      refine g_aload_n C dX7_release_27 rfl 0 rfl ?_
      refine g_iload_n C dX7_release_28 rfl 1 rfl ?_
      refine g_iload_n C dX7_release_29 rfl 2 rfl ?_
      refine g_st (st1 := [.int b, .int (nI a.toNatClampNeg), .ref (am 0)]) (by rw [← hx_3.1]) ?_
      refine g_callV C (cs1 := [wM E am (sI μ 0 0)]) (st1 := [.int (b2i (fX7_needsIt (sI μ 0 0) a.toNatClampNeg b))]) [.int (nI a.toNatClampNeg), .int b] [0] (kX7_needsIt l E am (sI μ 0 0) a.toNatClampNeg (by omega) b) caX7_needsIt q6_179 rfl ⟨Nat.le_of_ble_eq_true rfl, Nat.le_of_ble_eq_true rfl⟩ ⟨Nat.zero_le _, Nat.zero_le _⟩ 0 0 rfl rfl rfl rfl (by decide) rfl rfl rfl rfl (Nat.le_of_ble_eq_true rfl) dX7_release_30 rfl ?_
      refine g_ifB_ne C 42 dX7_release_33 (by decide) (fun c_6 => ?_) (fun c_6 => ?_)
      · skip
        refine g_aload_n C dX7_release_42 rfl 0 rfl ?_
        refine g_callV C (cs1 := [wM E am (fX7_records (sI μ 0 0))]) (st1 := []) [] [0] (kX7_records l E am (sI μ 0 0) (vM_i0 hv)) caX7_records q6_131 rfl ⟨Nat.le_of_ble_eq_true rfl, Nat.le_of_ble_eq_true rfl⟩ ⟨Nat.zero_le _, Nat.zero_le _⟩ 0 0 rfl rfl rfl rfl (by decide) rfl rfl rfl rfl (Nat.le_of_ble_eq_true rfl) dX7_release_43 rfl ?_
        refine g_aload_n C dX7_release_46 rfl 0 rfl ?_
        refine g_iload_n C dX7_release_47 rfl 1 rfl ?_
        refine g_iload_n C dX7_release_48 rfl 2 rfl ?_
        refine g_st (st1 := [.int b, .int (nI a.toNatClampNeg), .ref (am 0)]) (by rw [← hx_3.1]) ?_
        refine g_callV C (cs1 := [wM E am ((fX7_takesNeed (fX7_records (sI μ 0 0)) a.toNatClampNeg b).2)]) (st1 := [.int ((fX7_takesNeed (fX7_records (sI μ 0 0)) a.toNatClampNeg b).1)]) [.int (nI a.toNatClampNeg), .int b] [0] (kX7_takesNeed l E am (fX7_records (sI μ 0 0)) (vM_records (vM_i0 hv)) a.toNatClampNeg (by omega) b) caX7_takesNeed q6_187 rfl ⟨Nat.le_of_ble_eq_true rfl, Nat.le_of_ble_eq_true rfl⟩ ⟨Nat.zero_le _, Nat.zero_le _⟩ 0 0 rfl rfl rfl rfl (by decide) rfl rfl rfl rfl (Nat.le_of_ble_eq_true rfl) dX7_release_49 rfl ?_
        have e_7 : fX7_release μ a b = ((fX7_takesNeed (fX7_records (sI μ 0 0)) a.toNatClampNeg b).1, (fX7_takesNeed (fX7_records (sI μ 0 0)) a.toNatClampNeg b).2) := by rw [fX7_release]; rw [if_pos c_1, if_pos c_4, if_pos c_6]
        exact g_iret C hE (by rw [e_7]) (by rw [e_7]) dX7_release_52
      · skip
        refine g_aload_n C dX7_release_36 rfl 0 rfl ?_
        refine g_iconst C (v := 2) dX7_release_37 (by decide) ?_
        refine g_callV C (cs1 := [wM E am ((fX7_fails (sI μ 0 0) 2).2)]) (st1 := [.int ((fX7_fails (sI μ 0 0) 2).1)]) [.int 2] [0] (kX7_fails l E am (sI μ 0 0) 2) caX7_fails q6_127 rfl ⟨Nat.le_of_ble_eq_true rfl, Nat.le_of_ble_eq_true rfl⟩ ⟨Nat.zero_le _, Nat.zero_le _⟩ 0 0 rfl rfl rfl rfl (by decide) rfl rfl rfl rfl (Nat.le_of_ble_eq_true rfl) dX7_release_38 rfl ?_
        have e_8 : fX7_release μ a b = ((fX7_fails (sI μ 0 0) 2).1, (fX7_fails (sI μ 0 0) 2).2) := by rw [fX7_release]; rw [if_pos c_1, if_pos c_4, if_neg (ne_true_of_eq_false c_6)]
        exact g_iret C hE (by rw [e_8]) (by rw [e_8]) dX7_release_41
    · skip
      refine g_aload_n C dX7_release_21 rfl 0 rfl ?_
      refine g_iconst C (v := 1) dX7_release_22 (by decide) ?_
      refine g_callV C (cs1 := [wM E am ((fX7_fails (sI μ 0 0) 1).2)]) (st1 := [.int ((fX7_fails (sI μ 0 0) 1).1)]) [.int 1] [0] (kX7_fails l E am (sI μ 0 0) 1) caX7_fails q6_127 rfl ⟨Nat.le_of_ble_eq_true rfl, Nat.le_of_ble_eq_true rfl⟩ ⟨Nat.zero_le _, Nat.zero_le _⟩ 0 0 rfl rfl rfl rfl (by decide) rfl rfl rfl rfl (Nat.le_of_ble_eq_true rfl) dX7_release_23 rfl ?_
      have e_9 : fX7_release μ a b = ((fX7_fails (sI μ 0 0) 1).1, (fX7_fails (sI μ 0 0) 1).2) := by rw [fX7_release]; rw [if_pos c_1, if_neg (ne_true_of_eq_false c_4)]
      exact g_iret C hE (by rw [e_9]) (by rw [e_9]) dX7_release_26
def fX7_assign (μ : BS) (a : Int32) (b : Int32) : Int32 × BS :=
  if (fX7_isTicket (sI μ 0 0) a) = true then (if (fX7_isOwner b) = true then (if (fX7_canAssign (sI μ 0 0) a.toNatClampNeg b.toNatClampNeg) = true then ((fX7_assigns (fX7_records (sI μ 0 0)) a.toNatClampNeg b.toNatClampNeg).1, (fX7_assigns (fX7_records (sI μ 0 0)) a.toNatClampNeg b.toNatClampNeg).2) else ((fX7_fails (sI μ 0 0) 2).1, (fX7_fails (sI μ 0 0) 2).2)) else ((fX7_fails (sI μ 0 0) 1).1, (fX7_fails (sI μ 0 0) 1).2)) else ((fX7_fails (sI μ 0 0) 1).1, (fX7_fails (sI μ 0 0) 1).2)
theorem caX7_assign : gCalV yX7_assign cX7_assign 3 (some .int) 2 := ⟨⟨q6_201, q1_6, by decide +kernel⟩, q6_199, q6_200⟩
set_option maxHeartbeats 4000000 in
set_option maxRecDepth 100000 in
theorem kX7_assign (l : Launch) (E : gE) (am : Nat → Nat) (μ : BS) (hv : vM μ)  (a : Int32) (b : Int32) : MC l E yX7_assign cX7_assign 3 (some .int) 5 110 [.ref (am 0), .int a, .int b] [wM E am μ] (some (.int (fX7_assign μ a b).1)) [wM E am ((fX7_assign μ a b).2)] := by
  have hv1 : cM μ ≤ 20 := hv.1.1
  have hc0 : μ.2 0 0 = nI (cM μ) := hv.1.2.1
  refine mc_of (by decide +kernel) (Nat.le_of_ble_eq_true rfl) (lv := [(0, .ref (am 0)), (1, .int a), (2, .int b)]) rfl (fun X C hE => ?_)
  refine g_aload_n C dX7_assign_0 rfl 0 rfl ?_
  refine g_iconst C (v := 0) dX7_assign_1 (by decide) ?_
  refine g_putf C (T := TX7) (N := 15) (ty := .int) (w1 := wM E am (sI μ 0 0)) (cs1 := [wM E am (sI μ 0 0)]) 0 0 rfl rfl rfl inX7 tyX7_ok nmX7 0 (by decide) q6_70 rfl (by decide +kernel) rfl rfl (Nat.le_of_ble_eq_true rfl) rfl rfl dX7_assign_2 ?_
  refine g_aload_n C dX7_assign_5 rfl 0 rfl ?_
  refine g_iload_n C dX7_assign_6 rfl 1 rfl ?_
  refine g_callV C (cs1 := [wM E am (sI μ 0 0)]) (st1 := [.int (b2i (fX7_isTicket (sI μ 0 0) a))]) [.int a] [0] (kX7_isTicket l E am (sI μ 0 0) a) caX7_isTicket q6_147 rfl ⟨Nat.le_of_ble_eq_true rfl, Nat.le_of_ble_eq_true rfl⟩ ⟨Nat.zero_le _, Nat.zero_le _⟩ 0 0 rfl rfl rfl rfl (by decide) rfl rfl rfl rfl (Nat.le_of_ble_eq_true rfl) dX7_assign_7 rfl ?_
  refine g_ifB_eq C 20 dX7_assign_10 (by decide) (fun c_1 => ?_) (fun c_1 => ?_)
  · skip
    refine g_aload_n C dX7_assign_20 rfl 0 rfl ?_
    refine g_iconst C (v := 1) dX7_assign_21 (by decide) ?_
    refine g_callV C (cs1 := [wM E am ((fX7_fails (sI μ 0 0) 1).2)]) (st1 := [.int ((fX7_fails (sI μ 0 0) 1).1)]) [.int 1] [0] (kX7_fails l E am (sI μ 0 0) 1) caX7_fails q6_127 rfl ⟨Nat.le_of_ble_eq_true rfl, Nat.le_of_ble_eq_true rfl⟩ ⟨Nat.zero_le _, Nat.zero_le _⟩ 0 0 rfl rfl rfl rfl (by decide) rfl rfl rfl rfl (Nat.le_of_ble_eq_true rfl) dX7_assign_22 rfl ?_
    have e_2 : fX7_assign μ a b = ((fX7_fails (sI μ 0 0) 1).1, (fX7_fails (sI μ 0 0) 1).2) := by rw [fX7_assign]; rw [if_neg (ne_true_of_eq_false c_1)]
    exact g_iret C hE (by rw [e_2]) (by rw [e_2]) dX7_assign_25
  · skip
    have hx_3 := isTicket_i (vM_i0 hv) c_1
    refine g_iload_n C dX7_assign_13 rfl 2 rfl ?_
    refine g_callS C (cs1 := [wM E am (sI μ 0 0)]) (st1 := [.int (b2i (fX7_isOwner b))]) [.int b] [] (kX7_isOwner l E b) caX7_isOwner q6_202 rfl ⟨Nat.le_of_ble_eq_true rfl, Nat.le_of_ble_eq_true rfl⟩ ⟨Nat.zero_le _, Nat.zero_le _⟩ (by decide) rfl rfl rfl rfl (Nat.le_of_ble_eq_true rfl) dX7_assign_14 rfl ?_
    refine g_ifB_ne C 26 dX7_assign_17 (by decide) (fun c_4 => ?_) (fun c_4 => ?_)
    · skip
      have hx_5 := isOwnerM_i c_4
      refine g_aload_n C dX7_assign_26 rfl 0 rfl ?_
      refine g_iload_n C dX7_assign_27 rfl 1 rfl ?_
      refine g_iload_n C dX7_assign_28 rfl 2 rfl ?_
      refine g_st (st1 := [.int b, .int (nI a.toNatClampNeg), .ref (am 0)]) (by rw [← hx_3.1]) ?_
      refine g_st (st1 := [.int (nI b.toNatClampNeg), .int (nI a.toNatClampNeg), .ref (am 0)]) (by rw [← hx_5.1]) ?_
      refine g_callV C (cs1 := [wM E am (sI μ 0 0)]) (st1 := [.int (b2i (fX7_canAssign (sI μ 0 0) a.toNatClampNeg b.toNatClampNeg))]) [.int (nI a.toNatClampNeg), .int (nI b.toNatClampNeg)] [0] (kX7_canAssign l E am (sI μ 0 0) (vM_i0 hv) a.toNatClampNeg (by omega) b.toNatClampNeg hx_5.2) caX7_canAssign q6_205 rfl ⟨Nat.le_of_ble_eq_true rfl, Nat.le_of_ble_eq_true rfl⟩ ⟨Nat.zero_le _, Nat.zero_le _⟩ 0 0 rfl rfl rfl rfl (by decide) rfl rfl rfl rfl (Nat.le_of_ble_eq_true rfl) dX7_assign_29 rfl ?_
      refine g_ifB_ne C 41 dX7_assign_32 (by decide) (fun c_6 => ?_) (fun c_6 => ?_)
      · skip
        refine g_aload_n C dX7_assign_41 rfl 0 rfl ?_
        refine g_callV C (cs1 := [wM E am (fX7_records (sI μ 0 0))]) (st1 := []) [] [0] (kX7_records l E am (sI μ 0 0) (vM_i0 hv)) caX7_records q6_131 rfl ⟨Nat.le_of_ble_eq_true rfl, Nat.le_of_ble_eq_true rfl⟩ ⟨Nat.zero_le _, Nat.zero_le _⟩ 0 0 rfl rfl rfl rfl (by decide) rfl rfl rfl rfl (Nat.le_of_ble_eq_true rfl) dX7_assign_42 rfl ?_
        refine g_aload_n C dX7_assign_45 rfl 0 rfl ?_
        refine g_iload_n C dX7_assign_46 rfl 1 rfl ?_
        refine g_iload_n C dX7_assign_47 rfl 2 rfl ?_
        refine g_st (st1 := [.int b, .int (nI a.toNatClampNeg), .ref (am 0)]) (by rw [← hx_3.1]) ?_
        refine g_st (st1 := [.int (nI b.toNatClampNeg), .int (nI a.toNatClampNeg), .ref (am 0)]) (by rw [← hx_5.1]) ?_
        refine g_callV C (cs1 := [wM E am ((fX7_assigns (fX7_records (sI μ 0 0)) a.toNatClampNeg b.toNatClampNeg).2)]) (st1 := [.int ((fX7_assigns (fX7_records (sI μ 0 0)) a.toNatClampNeg b.toNatClampNeg).1)]) [.int (nI a.toNatClampNeg), .int (nI b.toNatClampNeg)] [0] (kX7_assigns l E am (fX7_records (sI μ 0 0)) (vM_records (vM_i0 hv)) a.toNatClampNeg (by omega) b.toNatClampNeg hx_5.2) caX7_assigns q6_209 rfl ⟨Nat.le_of_ble_eq_true rfl, Nat.le_of_ble_eq_true rfl⟩ ⟨Nat.zero_le _, Nat.zero_le _⟩ 0 0 rfl rfl rfl rfl (by decide) rfl rfl rfl rfl (Nat.le_of_ble_eq_true rfl) dX7_assign_48 rfl ?_
        have e_7 : fX7_assign μ a b = ((fX7_assigns (fX7_records (sI μ 0 0)) a.toNatClampNeg b.toNatClampNeg).1, (fX7_assigns (fX7_records (sI μ 0 0)) a.toNatClampNeg b.toNatClampNeg).2) := by rw [fX7_assign]; rw [if_pos c_1, if_pos c_4, if_pos c_6]
        exact g_iret C hE (by rw [e_7]) (by rw [e_7]) dX7_assign_51
      · skip
        refine g_aload_n C dX7_assign_35 rfl 0 rfl ?_
        refine g_iconst C (v := 2) dX7_assign_36 (by decide) ?_
        refine g_callV C (cs1 := [wM E am ((fX7_fails (sI μ 0 0) 2).2)]) (st1 := [.int ((fX7_fails (sI μ 0 0) 2).1)]) [.int 2] [0] (kX7_fails l E am (sI μ 0 0) 2) caX7_fails q6_127 rfl ⟨Nat.le_of_ble_eq_true rfl, Nat.le_of_ble_eq_true rfl⟩ ⟨Nat.zero_le _, Nat.zero_le _⟩ 0 0 rfl rfl rfl rfl (by decide) rfl rfl rfl rfl (Nat.le_of_ble_eq_true rfl) dX7_assign_37 rfl ?_
        have e_8 : fX7_assign μ a b = ((fX7_fails (sI μ 0 0) 2).1, (fX7_fails (sI μ 0 0) 2).2) := by rw [fX7_assign]; rw [if_pos c_1, if_pos c_4, if_neg (ne_true_of_eq_false c_6)]
        exact g_iret C hE (by rw [e_8]) (by rw [e_8]) dX7_assign_40
    · skip
      refine g_aload_n C dX7_assign_20 rfl 0 rfl ?_
      refine g_iconst C (v := 1) dX7_assign_21 (by decide) ?_
      refine g_callV C (cs1 := [wM E am ((fX7_fails (sI μ 0 0) 1).2)]) (st1 := [.int ((fX7_fails (sI μ 0 0) 1).1)]) [.int 1] [0] (kX7_fails l E am (sI μ 0 0) 1) caX7_fails q6_127 rfl ⟨Nat.le_of_ble_eq_true rfl, Nat.le_of_ble_eq_true rfl⟩ ⟨Nat.zero_le _, Nat.zero_le _⟩ 0 0 rfl rfl rfl rfl (by decide) rfl rfl rfl rfl (Nat.le_of_ble_eq_true rfl) dX7_assign_22 rfl ?_
      have e_9 : fX7_assign μ a b = ((fX7_fails (sI μ 0 0) 1).1, (fX7_fails (sI μ 0 0) 1).2) := by rw [fX7_assign]; rw [if_pos c_1, if_neg (ne_true_of_eq_false c_4)]
      exact g_iret C hE (by rw [e_9]) (by rw [e_9]) dX7_assign_25
def fX7_unassign (μ : BS) (a : Int32) : Int32 × BS :=
  if (fX7_isTicket (sI μ 0 0) a) = true then (if (fX7_of (sI μ 0 0) a.toNatClampNeg 3) = 0 then ((fX7_fails (sI μ 0 0) 2).1, (fX7_fails (sI μ 0 0) 2).2) else (if (fX7_of (sI μ 0 0) a.toNatClampNeg 2) = 0 then ((fX7_of (sI μ 0 0) a.toNatClampNeg 3) - 1, (fX7_lay (fX7_records (sI μ 0 0)) a.toNatClampNeg 3 0)) else ((fX7_fails (sI μ 0 0) 2).1, (fX7_fails (sI μ 0 0) 2).2))) else ((fX7_fails (sI μ 0 0) 1).1, (fX7_fails (sI μ 0 0) 1).2)
theorem caX7_unassign : gCalV yX7_unassign cX7_unassign 3 (some .int) 1 := ⟨⟨q6_216, q1_6, by decide +kernel⟩, q6_214, q6_215⟩
set_option maxHeartbeats 4000000 in
set_option maxRecDepth 100000 in
theorem kX7_unassign (l : Launch) (E : gE) (am : Nat → Nat) (μ : BS) (hv : vM μ)  (a : Int32) : MC l E yX7_unassign cX7_unassign 3 (some .int) 2 43 [.ref (am 0), .int a] [wM E am μ] (some (.int (fX7_unassign μ a).1)) [wM E am ((fX7_unassign μ a).2)] := by
  have hv1 : cM μ ≤ 20 := hv.1.1
  have hc0 : μ.2 0 0 = nI (cM μ) := hv.1.2.1
  refine mc_of (by decide +kernel) (Nat.le_of_ble_eq_true rfl) (lv := [(0, .ref (am 0)), (1, .int a)]) rfl (fun X C hE => ?_)
  refine g_aload_n C dX7_unassign_0 rfl 0 rfl ?_
  refine g_iconst C (v := 0) dX7_unassign_1 (by decide) ?_
  refine g_putf C (T := TX7) (N := 15) (ty := .int) (w1 := wM E am (sI μ 0 0)) (cs1 := [wM E am (sI μ 0 0)]) 0 0 rfl rfl rfl inX7 tyX7_ok nmX7 0 (by decide) q6_70 rfl (by decide +kernel) rfl rfl (Nat.le_of_ble_eq_true rfl) rfl rfl dX7_unassign_2 ?_
  refine g_aload_n C dX7_unassign_5 rfl 0 rfl ?_
  refine g_iload_n C dX7_unassign_6 rfl 1 rfl ?_
  refine g_callV C (cs1 := [wM E am (sI μ 0 0)]) (st1 := [.int (b2i (fX7_isTicket (sI μ 0 0) a))]) [.int a] [0] (kX7_isTicket l E am (sI μ 0 0) a) caX7_isTicket q6_147 rfl ⟨Nat.le_of_ble_eq_true rfl, Nat.le_of_ble_eq_true rfl⟩ ⟨Nat.zero_le _, Nat.zero_le _⟩ 0 0 rfl rfl rfl rfl (by decide) rfl rfl rfl rfl (Nat.le_of_ble_eq_true rfl) dX7_unassign_7 rfl ?_
  refine g_ifB_ne C 19 dX7_unassign_10 (by decide) (fun c_1 => ?_) (fun c_1 => ?_)
  · skip
    have hx_2 := isTicket_i (vM_i0 hv) c_1
    refine g_aload_n C dX7_unassign_19 rfl 0 rfl ?_
    refine g_iload_n C dX7_unassign_20 rfl 1 rfl ?_
    refine g_iconst C (v := 3) dX7_unassign_21 (by decide) ?_
    refine g_st (st1 := [.int 3, .int (nI a.toNatClampNeg), .ref (am 0)]) (by rw [← hx_2.1]) ?_
    refine g_callV C (cs1 := [wM E am (sI μ 0 0)]) (st1 := [.int (fX7_of (sI μ 0 0) a.toNatClampNeg 3)]) [.int (nI a.toNatClampNeg), .int 3] [0] (kX7_of l E am (sI μ 0 0) a.toNatClampNeg (by omega) 3 (by decide)) caX7_of q6_151 rfl ⟨Nat.le_of_ble_eq_true rfl, Nat.le_of_ble_eq_true rfl⟩ ⟨Nat.zero_le _, Nat.zero_le _⟩ 0 0 rfl rfl rfl rfl (by decide) rfl rfl rfl rfl (Nat.le_of_ble_eq_true rfl) dX7_unassign_22 rfl ?_
    refine g_istore_n C (lv1 := [(2, .int (fX7_of (sI μ 0 0) a.toNatClampNeg 3)), (0, .ref (am 0)), (1, .int a)]) dX7_unassign_25 rfl (by decide) rfl ?_
    refine g_iload_n C dX7_unassign_26 rfl 0 rfl ?_
    refine g_if_eq C 39 dX7_unassign_27 (by decide) (fun c_3 => ?_) (fun c_3 => ?_)
    · skip
      refine g_aload_n C dX7_unassign_39 rfl 1 rfl ?_
      refine g_iconst C (v := 2) dX7_unassign_40 (by decide) ?_
      refine g_callV C (cs1 := [wM E am ((fX7_fails (sI μ 0 0) 2).2)]) (st1 := [.int ((fX7_fails (sI μ 0 0) 2).1)]) [.int 2] [0] (kX7_fails l E am (sI μ 0 0) 2) caX7_fails q6_127 rfl ⟨Nat.le_of_ble_eq_true rfl, Nat.le_of_ble_eq_true rfl⟩ ⟨Nat.zero_le _, Nat.zero_le _⟩ 0 0 rfl rfl rfl rfl (by decide) rfl rfl rfl rfl (Nat.le_of_ble_eq_true rfl) dX7_unassign_41 rfl ?_
      have e_4 : fX7_unassign μ a = ((fX7_fails (sI μ 0 0) 2).1, (fX7_fails (sI μ 0 0) 2).2) := by rw [fX7_unassign]; rw [if_pos c_1, if_pos c_3]
      exact g_iret C hE (by rw [e_4]) (by rw [e_4]) dX7_unassign_44
    · skip
      refine g_aload_n C dX7_unassign_30 rfl 1 rfl ?_
      refine g_iload_n C dX7_unassign_31 rfl 2 rfl ?_
      refine g_iconst C (v := 2) dX7_unassign_32 (by decide) ?_
      refine g_st (st1 := [.int 2, .int (nI a.toNatClampNeg), .ref (am 0)]) (by rw [← hx_2.1]) ?_
      refine g_callV C (cs1 := [wM E am (sI μ 0 0)]) (st1 := [.int (fX7_of (sI μ 0 0) a.toNatClampNeg 2)]) [.int (nI a.toNatClampNeg), .int 2] [0] (kX7_of l E am (sI μ 0 0) a.toNatClampNeg (by omega) 2 (by decide)) caX7_of q6_151 rfl ⟨Nat.le_of_ble_eq_true rfl, Nat.le_of_ble_eq_true rfl⟩ ⟨Nat.zero_le _, Nat.zero_le _⟩ 0 0 rfl rfl rfl rfl (by decide) rfl rfl rfl rfl (Nat.le_of_ble_eq_true rfl) dX7_unassign_33 rfl ?_
      refine g_if_eq C 45 dX7_unassign_36 (by decide) (fun c_5 => ?_) (fun c_5 => ?_)
      · skip
        refine g_aload_n C dX7_unassign_45 rfl 1 rfl ?_
        refine g_callV C (cs1 := [wM E am (fX7_records (sI μ 0 0))]) (st1 := []) [] [0] (kX7_records l E am (sI μ 0 0) (vM_i0 hv)) caX7_records q6_131 rfl ⟨Nat.le_of_ble_eq_true rfl, Nat.le_of_ble_eq_true rfl⟩ ⟨Nat.zero_le _, Nat.zero_le _⟩ 0 0 rfl rfl rfl rfl (by decide) rfl rfl rfl rfl (Nat.le_of_ble_eq_true rfl) dX7_unassign_46 rfl ?_
        refine g_aload_n C dX7_unassign_49 rfl 1 rfl ?_
        refine g_iload_n C dX7_unassign_50 rfl 2 rfl ?_
        refine g_iconst C (v := 3) dX7_unassign_51 (by decide) ?_
        refine g_iconst C (v := 0) dX7_unassign_52 (by decide) ?_
        refine g_st (st1 := [.int 0, .int 3, .int (nI a.toNatClampNeg), .ref (am 0)]) (by rw [← hx_2.1]) ?_
        refine g_callV C (cs1 := [wM E am (fX7_lay (fX7_records (sI μ 0 0)) a.toNatClampNeg 3 0)]) (st1 := []) [.int (nI a.toNatClampNeg), .int 3, .int 0] [0] (kX7_lay l E am (fX7_records (sI μ 0 0)) a.toNatClampNeg (by omega) 3 (by decide) 0) caX7_lay q6_139 rfl ⟨Nat.le_of_ble_eq_true rfl, Nat.le_of_ble_eq_true rfl⟩ ⟨Nat.zero_le _, Nat.zero_le _⟩ 0 0 rfl rfl rfl rfl (by decide) rfl rfl rfl rfl (Nat.le_of_ble_eq_true rfl) dX7_unassign_53 rfl ?_
        refine g_iload_n C dX7_unassign_56 rfl 0 rfl ?_
        refine g_iconst C (v := 1) dX7_unassign_57 (by decide) ?_
        refine g_isub C dX7_unassign_58 ?_
        have e_6 : fX7_unassign μ a = ((fX7_of (sI μ 0 0) a.toNatClampNeg 3) - 1, (fX7_lay (fX7_records (sI μ 0 0)) a.toNatClampNeg 3 0)) := by rw [fX7_unassign]; rw [if_pos c_1, if_neg c_3, if_pos c_5]
        exact g_iret C hE (by rw [e_6]) (by rw [e_6]) dX7_unassign_59
      · skip
        refine g_aload_n C dX7_unassign_39 rfl 1 rfl ?_
        refine g_iconst C (v := 2) dX7_unassign_40 (by decide) ?_
        refine g_callV C (cs1 := [wM E am ((fX7_fails (sI μ 0 0) 2).2)]) (st1 := [.int ((fX7_fails (sI μ 0 0) 2).1)]) [.int 2] [0] (kX7_fails l E am (sI μ 0 0) 2) caX7_fails q6_127 rfl ⟨Nat.le_of_ble_eq_true rfl, Nat.le_of_ble_eq_true rfl⟩ ⟨Nat.zero_le _, Nat.zero_le _⟩ 0 0 rfl rfl rfl rfl (by decide) rfl rfl rfl rfl (Nat.le_of_ble_eq_true rfl) dX7_unassign_41 rfl ?_
        have e_7 : fX7_unassign μ a = ((fX7_fails (sI μ 0 0) 2).1, (fX7_fails (sI μ 0 0) 2).2) := by rw [fX7_unassign]; rw [if_pos c_1, if_neg c_3, if_neg c_5]
        exact g_iret C hE (by rw [e_7]) (by rw [e_7]) dX7_unassign_44
  · skip
    refine g_aload_n C dX7_unassign_13 rfl 0 rfl ?_
    refine g_iconst C (v := 1) dX7_unassign_14 (by decide) ?_
    refine g_callV C (cs1 := [wM E am ((fX7_fails (sI μ 0 0) 1).2)]) (st1 := [.int ((fX7_fails (sI μ 0 0) 1).1)]) [.int 1] [0] (kX7_fails l E am (sI μ 0 0) 1) caX7_fails q6_127 rfl ⟨Nat.le_of_ble_eq_true rfl, Nat.le_of_ble_eq_true rfl⟩ ⟨Nat.zero_le _, Nat.zero_le _⟩ 0 0 rfl rfl rfl rfl (by decide) rfl rfl rfl rfl (Nat.le_of_ble_eq_true rfl) dX7_unassign_15 rfl ?_
    have e_8 : fX7_unassign μ a = ((fX7_fails (sI μ 0 0) 1).1, (fX7_fails (sI μ 0 0) 1).2) := by rw [fX7_unassign]; rw [if_neg (ne_true_of_eq_false c_1)]
    exact g_iret C hE (by rw [e_8]) (by rw [e_8]) dX7_unassign_18
def fX7_changeCapacity (μ : BS) (a : Int32) (b : Int32) : Int32 × BS :=
  if (fX7_isOwner a) = true then (if (fX7_in b 0 99) = true then (if (fX7_load (sI μ 0 0) a) ≤ b then ((fX7_records (sI μ 0 0)).2 0 (4 + a.toNatClampNeg), sE (fX7_records (sI μ 0 0)) 0 (4 + a.toNatClampNeg) b) else ((fX7_fails (sI μ 0 0) 3).1, (fX7_fails (sI μ 0 0) 3).2)) else ((fX7_fails (sI μ 0 0) 2).1, (fX7_fails (sI μ 0 0) 2).2)) else ((fX7_fails (sI μ 0 0) 1).1, (fX7_fails (sI μ 0 0) 1).2)
theorem caX7_changeCapacity : gCalV yX7_changeCapacity cX7_changeCapacity 4 (some .int) 2 := ⟨⟨q6_220, q1_6, by decide +kernel⟩, q6_218, q6_219⟩
set_option maxHeartbeats 4000000 in
set_option maxRecDepth 100000 in
theorem kX7_changeCapacity (l : Launch) (E : gE) (am : Nat → Nat) (μ : BS) (hv : vM μ)  (a : Int32) (b : Int32) : MC l E yX7_changeCapacity cX7_changeCapacity 4 (some .int) 3 66 [.ref (am 0), .int a, .int b] [wM E am μ] (some (.int (fX7_changeCapacity μ a b).1)) [wM E am ((fX7_changeCapacity μ a b).2)] := by
  have hv1 : cM μ ≤ 20 := hv.1.1
  have hc0 : μ.2 0 0 = nI (cM μ) := hv.1.2.1
  refine mc_of (by decide +kernel) (Nat.le_of_ble_eq_true rfl) (lv := [(0, .ref (am 0)), (1, .int a), (2, .int b)]) rfl (fun X C hE => ?_)
  refine g_aload_n C dX7_changeCapacity_0 rfl 0 rfl ?_
  refine g_iconst C (v := 0) dX7_changeCapacity_1 (by decide) ?_
  refine g_putf C (T := TX7) (N := 15) (ty := .int) (w1 := wM E am (sI μ 0 0)) (cs1 := [wM E am (sI μ 0 0)]) 0 0 rfl rfl rfl inX7 tyX7_ok nmX7 0 (by decide) q6_70 rfl (by decide +kernel) rfl rfl (Nat.le_of_ble_eq_true rfl) rfl rfl dX7_changeCapacity_2 ?_
  refine g_iload_n C dX7_changeCapacity_5 rfl 1 rfl ?_
  refine g_callS C (cs1 := [wM E am (sI μ 0 0)]) (st1 := [.int (b2i (fX7_isOwner a))]) [.int a] [] (kX7_isOwner l E a) caX7_isOwner q6_202 rfl ⟨Nat.le_of_ble_eq_true rfl, Nat.le_of_ble_eq_true rfl⟩ ⟨Nat.zero_le _, Nat.zero_le _⟩ (by decide) rfl rfl rfl rfl (Nat.le_of_ble_eq_true rfl) dX7_changeCapacity_6 rfl ?_
  refine g_ifB_ne C 18 dX7_changeCapacity_9 (by decide) (fun c_1 => ?_) (fun c_1 => ?_)
  · skip
    have hx_2 := isOwnerM_i c_1
    refine g_iload_n C dX7_changeCapacity_18 rfl 2 rfl ?_
    refine g_iconst C (v := 0) dX7_changeCapacity_19 (by decide) ?_
    refine g_bipush C (v := 99) dX7_changeCapacity_20 (by decide) ?_
    refine g_callS C (cs1 := [wM E am (sI μ 0 0)]) (st1 := [.int (b2i (fX7_in b 0 99))]) [.int b, .int 0, .int 99] [] (kX7_in l E b 0 99) caX7_in q6_124 rfl ⟨Nat.le_of_ble_eq_true rfl, Nat.le_of_ble_eq_true rfl⟩ ⟨Nat.zero_le _, Nat.zero_le _⟩ (by decide) rfl rfl rfl rfl (Nat.le_of_ble_eq_true rfl) dX7_changeCapacity_22 rfl ?_
    refine g_ifB_ne C 34 dX7_changeCapacity_25 (by decide) (fun c_3 => ?_) (fun c_3 => ?_)
    · skip
      refine g_aload_n C dX7_changeCapacity_34 rfl 0 rfl ?_
      refine g_iload_n C dX7_changeCapacity_35 rfl 1 rfl ?_
      refine g_callV C (cs1 := [wM E am (sI μ 0 0)]) (st1 := [.int (fX7_load (sI μ 0 0) a)]) [.int a] [0] (kX7_load l E am (sI μ 0 0) (vM_i0 hv) a) caX7_load q6_163 rfl ⟨Nat.le_of_ble_eq_true rfl, Nat.le_of_ble_eq_true rfl⟩ ⟨Nat.zero_le _, Nat.zero_le _⟩ 0 0 rfl rfl rfl rfl (by decide) rfl rfl rfl rfl (Nat.le_of_ble_eq_true rfl) dX7_changeCapacity_36 rfl ?_
      refine g_iload_n C dX7_changeCapacity_39 rfl 2 rfl ?_
      refine g_icmp_le C 49 dX7_changeCapacity_40 (by decide) (fun c_4 => ?_) (fun c_4 => ?_)
      · skip
        refine g_aload_n C dX7_changeCapacity_49 rfl 0 rfl ?_
        refine g_callV C (cs1 := [wM E am (fX7_records (sI μ 0 0))]) (st1 := []) [] [0] (kX7_records l E am (sI μ 0 0) (vM_i0 hv)) caX7_records q6_131 rfl ⟨Nat.le_of_ble_eq_true rfl, Nat.le_of_ble_eq_true rfl⟩ ⟨Nat.zero_le _, Nat.zero_le _⟩ 0 0 rfl rfl rfl rfl (by decide) rfl rfl rfl rfl (Nat.le_of_ble_eq_true rfl) dX7_changeCapacity_50 rfl ?_
        refine g_aload_n C dX7_changeCapacity_53 rfl 0 rfl ?_
        refine g_getf C (T := TX7) (N := 15) 0 0 rfl rfl rfl inX7 1 (by decide) q6_71 rfl dX7_changeCapacity_54 ?_
        refine g_iconst C (v := 4) dX7_changeCapacity_57 (by decide) ?_
        refine g_iload_n C dX7_changeCapacity_58 rfl 1 rfl ?_
        refine g_iadd C dX7_changeCapacity_59 ?_
        refine g_ialdn C 0 1 (4 + a.toNatClampNeg) rfl rfl (nx_add rfl hx_2.1) (by omega) (by decide) dX7_changeCapacity_60 ?_
        refine g_istore_n C (lv1 := [(3, .int ((fX7_records (sI μ 0 0)).2 0 (4 + a.toNatClampNeg))), (0, .ref (am 0)), (1, .int a), (2, .int b)]) dX7_changeCapacity_61 rfl (by decide) rfl ?_
        refine g_aload_n C dX7_changeCapacity_62 rfl 1 rfl ?_
        refine g_getf C (T := TX7) (N := 15) 0 0 rfl rfl rfl inX7 1 (by decide) q6_71 rfl dX7_changeCapacity_63 ?_
        refine g_iconst C (v := 4) dX7_changeCapacity_66 (by decide) ?_
        refine g_iload_n C dX7_changeCapacity_67 rfl 2 rfl ?_
        refine g_iadd C dX7_changeCapacity_68 ?_
        refine g_iload_n C dX7_changeCapacity_69 rfl 3 rfl ?_
        refine g_iastn C (w1 := wM E am (sE (fX7_records (sI μ 0 0)) 0 (4 + a.toNatClampNeg) b)) (cs1 := [wM E am (sE (fX7_records (sI μ 0 0)) 0 (4 + a.toNatClampNeg) b)]) 0 1 (4 + a.toNatClampNeg) rfl rfl (nx_add rfl hx_2.1) (by omega) (by decide) rfl rfl dX7_changeCapacity_70 ?_
        refine g_iload_n C dX7_changeCapacity_71 rfl 0 rfl ?_
        have e_5 : fX7_changeCapacity μ a b = ((fX7_records (sI μ 0 0)).2 0 (4 + a.toNatClampNeg), sE (fX7_records (sI μ 0 0)) 0 (4 + a.toNatClampNeg) b) := by rw [fX7_changeCapacity]; rw [if_pos c_1, if_pos c_3, if_pos c_4]
        exact g_iret C hE (by rw [e_5]) (by rw [e_5]) dX7_changeCapacity_72
      · skip
        refine g_aload_n C dX7_changeCapacity_43 rfl 0 rfl ?_
        refine g_iconst C (v := 3) dX7_changeCapacity_44 (by decide) ?_
        refine g_callV C (cs1 := [wM E am ((fX7_fails (sI μ 0 0) 3).2)]) (st1 := [.int ((fX7_fails (sI μ 0 0) 3).1)]) [.int 3] [0] (kX7_fails l E am (sI μ 0 0) 3) caX7_fails q6_127 rfl ⟨Nat.le_of_ble_eq_true rfl, Nat.le_of_ble_eq_true rfl⟩ ⟨Nat.zero_le _, Nat.zero_le _⟩ 0 0 rfl rfl rfl rfl (by decide) rfl rfl rfl rfl (Nat.le_of_ble_eq_true rfl) dX7_changeCapacity_45 rfl ?_
        have e_6 : fX7_changeCapacity μ a b = ((fX7_fails (sI μ 0 0) 3).1, (fX7_fails (sI μ 0 0) 3).2) := by rw [fX7_changeCapacity]; rw [if_pos c_1, if_pos c_3, if_neg c_4]
        exact g_iret C hE (by rw [e_6]) (by rw [e_6]) dX7_changeCapacity_48
    · skip
      refine g_aload_n C dX7_changeCapacity_28 rfl 0 rfl ?_
      refine g_iconst C (v := 2) dX7_changeCapacity_29 (by decide) ?_
      refine g_callV C (cs1 := [wM E am ((fX7_fails (sI μ 0 0) 2).2)]) (st1 := [.int ((fX7_fails (sI μ 0 0) 2).1)]) [.int 2] [0] (kX7_fails l E am (sI μ 0 0) 2) caX7_fails q6_127 rfl ⟨Nat.le_of_ble_eq_true rfl, Nat.le_of_ble_eq_true rfl⟩ ⟨Nat.zero_le _, Nat.zero_le _⟩ 0 0 rfl rfl rfl rfl (by decide) rfl rfl rfl rfl (Nat.le_of_ble_eq_true rfl) dX7_changeCapacity_30 rfl ?_
      have e_7 : fX7_changeCapacity μ a b = ((fX7_fails (sI μ 0 0) 2).1, (fX7_fails (sI μ 0 0) 2).2) := by rw [fX7_changeCapacity]; rw [if_pos c_1, if_neg (ne_true_of_eq_false c_3)]
      exact g_iret C hE (by rw [e_7]) (by rw [e_7]) dX7_changeCapacity_33
  · skip
    refine g_aload_n C dX7_changeCapacity_12 rfl 0 rfl ?_
    refine g_iconst C (v := 1) dX7_changeCapacity_13 (by decide) ?_
    refine g_callV C (cs1 := [wM E am ((fX7_fails (sI μ 0 0) 1).2)]) (st1 := [.int ((fX7_fails (sI μ 0 0) 1).1)]) [.int 1] [0] (kX7_fails l E am (sI μ 0 0) 1) caX7_fails q6_127 rfl ⟨Nat.le_of_ble_eq_true rfl, Nat.le_of_ble_eq_true rfl⟩ ⟨Nat.zero_le _, Nat.zero_le _⟩ 0 0 rfl rfl rfl rfl (by decide) rfl rfl rfl rfl (Nat.le_of_ble_eq_true rfl) dX7_changeCapacity_14 rfl ?_
    have e_8 : fX7_changeCapacity μ a b = ((fX7_fails (sI μ 0 0) 1).1, (fX7_fails (sI μ 0 0) 1).2) := by rw [fX7_changeCapacity]; rw [if_neg (ne_true_of_eq_false c_1)]
    exact g_iret C hE (by rw [e_8]) (by rw [e_8]) dX7_changeCapacity_17
def fX7_plan (μ : BS) (a : Int32) (b : Int32) : Int32 × BS :=
  if (fX7_isTicket (sI μ 0 0) a) = true then (if (fX7_isMilestone b) = true then (if (fX7_isLeft (sI μ 0 0) a.toNatClampNeg) = true then (if (fX7_of (sI μ 0 0) a.toNatClampNeg 4) = (b + 1) then ((fX7_fails (sI μ 0 0) 2).1, (fX7_fails (sI μ 0 0) 2).2) else ((fX7_leftFor (fX7_lay (fX7_records (sI μ 0 0)) a.toNatClampNeg 4 (b + 1)) b), (fX7_lay (fX7_records (sI μ 0 0)) a.toNatClampNeg 4 (b + 1)))) else ((fX7_fails (sI μ 0 0) 2).1, (fX7_fails (sI μ 0 0) 2).2)) else ((fX7_fails (sI μ 0 0) 1).1, (fX7_fails (sI μ 0 0) 1).2)) else ((fX7_fails (sI μ 0 0) 1).1, (fX7_fails (sI μ 0 0) 1).2)
theorem caX7_plan : gCalV yX7_plan cX7_plan 3 (some .int) 2 := ⟨⟨q6_224, q1_6, by decide +kernel⟩, q6_222, q6_223⟩
set_option maxHeartbeats 4000000 in
set_option maxRecDepth 100000 in
theorem kX7_plan (l : Launch) (E : gE) (am : Nat → Nat) (μ : BS) (hv : vM μ)  (a : Int32) (b : Int32) : MC l E yX7_plan cX7_plan 3 (some .int) 3 66 [.ref (am 0), .int a, .int b] [wM E am μ] (some (.int (fX7_plan μ a b).1)) [wM E am ((fX7_plan μ a b).2)] := by
  have hv1 : cM μ ≤ 20 := hv.1.1
  have hc0 : μ.2 0 0 = nI (cM μ) := hv.1.2.1
  refine mc_of (by decide +kernel) (Nat.le_of_ble_eq_true rfl) (lv := [(0, .ref (am 0)), (1, .int a), (2, .int b)]) rfl (fun X C hE => ?_)
  refine g_aload_n C dX7_plan_0 rfl 0 rfl ?_
  refine g_iconst C (v := 0) dX7_plan_1 (by decide) ?_
  refine g_putf C (T := TX7) (N := 15) (ty := .int) (w1 := wM E am (sI μ 0 0)) (cs1 := [wM E am (sI μ 0 0)]) 0 0 rfl rfl rfl inX7 tyX7_ok nmX7 0 (by decide) q6_70 rfl (by decide +kernel) rfl rfl (Nat.le_of_ble_eq_true rfl) rfl rfl dX7_plan_2 ?_
  refine g_aload_n C dX7_plan_5 rfl 0 rfl ?_
  refine g_iload_n C dX7_plan_6 rfl 1 rfl ?_
  refine g_callV C (cs1 := [wM E am (sI μ 0 0)]) (st1 := [.int (b2i (fX7_isTicket (sI μ 0 0) a))]) [.int a] [0] (kX7_isTicket l E am (sI μ 0 0) a) caX7_isTicket q6_147 rfl ⟨Nat.le_of_ble_eq_true rfl, Nat.le_of_ble_eq_true rfl⟩ ⟨Nat.zero_le _, Nat.zero_le _⟩ 0 0 rfl rfl rfl rfl (by decide) rfl rfl rfl rfl (Nat.le_of_ble_eq_true rfl) dX7_plan_7 rfl ?_
  refine g_ifB_eq C 20 dX7_plan_10 (by decide) (fun c_1 => ?_) (fun c_1 => ?_)
  · skip
    refine g_aload_n C dX7_plan_20 rfl 0 rfl ?_
    refine g_iconst C (v := 1) dX7_plan_21 (by decide) ?_
    refine g_callV C (cs1 := [wM E am ((fX7_fails (sI μ 0 0) 1).2)]) (st1 := [.int ((fX7_fails (sI μ 0 0) 1).1)]) [.int 1] [0] (kX7_fails l E am (sI μ 0 0) 1) caX7_fails q6_127 rfl ⟨Nat.le_of_ble_eq_true rfl, Nat.le_of_ble_eq_true rfl⟩ ⟨Nat.zero_le _, Nat.zero_le _⟩ 0 0 rfl rfl rfl rfl (by decide) rfl rfl rfl rfl (Nat.le_of_ble_eq_true rfl) dX7_plan_22 rfl ?_
    have e_2 : fX7_plan μ a b = ((fX7_fails (sI μ 0 0) 1).1, (fX7_fails (sI μ 0 0) 1).2) := by rw [fX7_plan]; rw [if_neg (ne_true_of_eq_false c_1)]
    exact g_iret C hE (by rw [e_2]) (by rw [e_2]) dX7_plan_25
  · skip
    have hx_3 := isTicket_i (vM_i0 hv) c_1
    refine g_iload_n C dX7_plan_13 rfl 2 rfl ?_
    refine g_callS C (cs1 := [wM E am (sI μ 0 0)]) (st1 := [.int (b2i (fX7_isMilestone b))]) [.int b] [] (kX7_isMilestone l E b) caX7_isMilestone q6_225 rfl ⟨Nat.le_of_ble_eq_true rfl, Nat.le_of_ble_eq_true rfl⟩ ⟨Nat.zero_le _, Nat.zero_le _⟩ (by decide) rfl rfl rfl rfl (Nat.le_of_ble_eq_true rfl) dX7_plan_14 rfl ?_
    refine g_ifB_ne C 26 dX7_plan_17 (by decide) (fun c_4 => ?_) (fun c_4 => ?_)
    · skip
      have hx_5 := isMilestoneM_i c_4
      refine g_aload_n C dX7_plan_26 rfl 0 rfl ?_
      refine g_iload_n C dX7_plan_27 rfl 1 rfl ?_
      refine g_st (st1 := [.int (nI a.toNatClampNeg), .ref (am 0)]) (by rw [← hx_3.1]) ?_
      refine g_callV C (cs1 := [wM E am (sI μ 0 0)]) (st1 := [.int (b2i (fX7_isLeft (sI μ 0 0) a.toNatClampNeg))]) [.int (nI a.toNatClampNeg)] [0] (kX7_isLeft l E am (sI μ 0 0) a.toNatClampNeg (by omega)) caX7_isLeft q6_155 rfl ⟨Nat.le_of_ble_eq_true rfl, Nat.le_of_ble_eq_true rfl⟩ ⟨Nat.zero_le _, Nat.zero_le _⟩ 0 0 rfl rfl rfl rfl (by decide) rfl rfl rfl rfl (Nat.le_of_ble_eq_true rfl) dX7_plan_28 rfl ?_
      refine g_ifB_eq C 46 dX7_plan_31 (by decide) (fun c_6 => ?_) (fun c_6 => ?_)
      · skip
        refine g_aload_n C dX7_plan_46 rfl 0 rfl ?_
        refine g_iconst C (v := 2) dX7_plan_47 (by decide) ?_
        refine g_callV C (cs1 := [wM E am ((fX7_fails (sI μ 0 0) 2).2)]) (st1 := [.int ((fX7_fails (sI μ 0 0) 2).1)]) [.int 2] [0] (kX7_fails l E am (sI μ 0 0) 2) caX7_fails q6_127 rfl ⟨Nat.le_of_ble_eq_true rfl, Nat.le_of_ble_eq_true rfl⟩ ⟨Nat.zero_le _, Nat.zero_le _⟩ 0 0 rfl rfl rfl rfl (by decide) rfl rfl rfl rfl (Nat.le_of_ble_eq_true rfl) dX7_plan_48 rfl ?_
        have e_7 : fX7_plan μ a b = ((fX7_fails (sI μ 0 0) 2).1, (fX7_fails (sI μ 0 0) 2).2) := by rw [fX7_plan]; rw [if_pos c_1, if_pos c_4, if_neg (ne_true_of_eq_false c_6)]
        exact g_iret C hE (by rw [e_7]) (by rw [e_7]) dX7_plan_51
      · skip
        refine g_aload_n C dX7_plan_34 rfl 0 rfl ?_
        refine g_iload_n C dX7_plan_35 rfl 1 rfl ?_
        refine g_iconst C (v := 4) dX7_plan_36 (by decide) ?_
        refine g_st (st1 := [.int 4, .int (nI a.toNatClampNeg), .ref (am 0)]) (by rw [← hx_3.1]) ?_
        refine g_callV C (cs1 := [wM E am (sI μ 0 0)]) (st1 := [.int (fX7_of (sI μ 0 0) a.toNatClampNeg 4)]) [.int (nI a.toNatClampNeg), .int 4] [0] (kX7_of l E am (sI μ 0 0) a.toNatClampNeg (by omega) 4 (by decide)) caX7_of q6_151 rfl ⟨Nat.le_of_ble_eq_true rfl, Nat.le_of_ble_eq_true rfl⟩ ⟨Nat.zero_le _, Nat.zero_le _⟩ 0 0 rfl rfl rfl rfl (by decide) rfl rfl rfl rfl (Nat.le_of_ble_eq_true rfl) dX7_plan_37 rfl ?_
        refine g_iload_n C dX7_plan_40 rfl 2 rfl ?_
        refine g_iconst C (v := 1) dX7_plan_41 (by decide) ?_
        refine g_iadd C dX7_plan_42 ?_
        refine g_icmp_ne C 52 dX7_plan_43 (by decide) (fun c_8 => ?_) (fun c_8 => ?_)
        · skip
          refine g_aload_n C dX7_plan_52 rfl 0 rfl ?_
          refine g_callV C (cs1 := [wM E am (fX7_records (sI μ 0 0))]) (st1 := []) [] [0] (kX7_records l E am (sI μ 0 0) (vM_i0 hv)) caX7_records q6_131 rfl ⟨Nat.le_of_ble_eq_true rfl, Nat.le_of_ble_eq_true rfl⟩ ⟨Nat.zero_le _, Nat.zero_le _⟩ 0 0 rfl rfl rfl rfl (by decide) rfl rfl rfl rfl (Nat.le_of_ble_eq_true rfl) dX7_plan_53 rfl ?_
          refine g_aload_n C dX7_plan_56 rfl 0 rfl ?_
          refine g_iload_n C dX7_plan_57 rfl 1 rfl ?_
          refine g_iconst C (v := 4) dX7_plan_58 (by decide) ?_
          refine g_iload_n C dX7_plan_59 rfl 2 rfl ?_
          refine g_iconst C (v := 1) dX7_plan_60 (by decide) ?_
          refine g_iadd C dX7_plan_61 ?_
          refine g_st (st1 := [.int (b + 1), .int 4, .int (nI a.toNatClampNeg), .ref (am 0)]) (by rw [← hx_3.1]) ?_
          refine g_callV C (cs1 := [wM E am (fX7_lay (fX7_records (sI μ 0 0)) a.toNatClampNeg 4 (b + 1))]) (st1 := []) [.int (nI a.toNatClampNeg), .int 4, .int (b + 1)] [0] (kX7_lay l E am (fX7_records (sI μ 0 0)) a.toNatClampNeg (by omega) 4 (by decide) (b + 1)) caX7_lay q6_139 rfl ⟨Nat.le_of_ble_eq_true rfl, Nat.le_of_ble_eq_true rfl⟩ ⟨Nat.zero_le _, Nat.zero_le _⟩ 0 0 rfl rfl rfl rfl (by decide) rfl rfl rfl rfl (Nat.le_of_ble_eq_true rfl) dX7_plan_62 rfl ?_
          refine g_aload_n C dX7_plan_65 rfl 0 rfl ?_
          refine g_iload_n C dX7_plan_66 rfl 2 rfl ?_
          refine g_callV C (cs1 := [wM E am (fX7_lay (fX7_records (sI μ 0 0)) a.toNatClampNeg 4 (b + 1))]) (st1 := [.int (fX7_leftFor (fX7_lay (fX7_records (sI μ 0 0)) a.toNatClampNeg 4 (b + 1)) b)]) [.int b] [0] (kX7_leftFor l E am (fX7_lay (fX7_records (sI μ 0 0)) a.toNatClampNeg 4 (b + 1)) (vM_lay (vM_records (vM_i0 hv)) (by decide) (fun e => absurd e (by decide)) (fun _ => ⟨b.toNatClampNeg + 1, by omega, nx_add hx_5.1 rfl⟩)) b) caX7_leftFor q6_228 rfl ⟨Nat.le_of_ble_eq_true rfl, Nat.le_of_ble_eq_true rfl⟩ ⟨Nat.zero_le _, Nat.zero_le _⟩ 0 0 rfl rfl rfl rfl (by decide) rfl rfl rfl rfl (Nat.le_of_ble_eq_true rfl) dX7_plan_67 rfl ?_
          have e_9 : fX7_plan μ a b = ((fX7_leftFor (fX7_lay (fX7_records (sI μ 0 0)) a.toNatClampNeg 4 (b + 1)) b), (fX7_lay (fX7_records (sI μ 0 0)) a.toNatClampNeg 4 (b + 1))) := by rw [fX7_plan]; rw [if_pos c_1, if_pos c_4, if_pos c_6, if_neg c_8]
          exact g_iret C hE (by rw [e_9]) (by rw [e_9]) dX7_plan_70
        · skip
          refine g_aload_n C dX7_plan_46 rfl 0 rfl ?_
          refine g_iconst C (v := 2) dX7_plan_47 (by decide) ?_
          refine g_callV C (cs1 := [wM E am ((fX7_fails (sI μ 0 0) 2).2)]) (st1 := [.int ((fX7_fails (sI μ 0 0) 2).1)]) [.int 2] [0] (kX7_fails l E am (sI μ 0 0) 2) caX7_fails q6_127 rfl ⟨Nat.le_of_ble_eq_true rfl, Nat.le_of_ble_eq_true rfl⟩ ⟨Nat.zero_le _, Nat.zero_le _⟩ 0 0 rfl rfl rfl rfl (by decide) rfl rfl rfl rfl (Nat.le_of_ble_eq_true rfl) dX7_plan_48 rfl ?_
          have e_10 : fX7_plan μ a b = ((fX7_fails (sI μ 0 0) 2).1, (fX7_fails (sI μ 0 0) 2).2) := by rw [fX7_plan]; rw [if_pos c_1, if_pos c_4, if_pos c_6, if_pos c_8]
          exact g_iret C hE (by rw [e_10]) (by rw [e_10]) dX7_plan_51
    · skip
      refine g_aload_n C dX7_plan_20 rfl 0 rfl ?_
      refine g_iconst C (v := 1) dX7_plan_21 (by decide) ?_
      refine g_callV C (cs1 := [wM E am ((fX7_fails (sI μ 0 0) 1).2)]) (st1 := [.int ((fX7_fails (sI μ 0 0) 1).1)]) [.int 1] [0] (kX7_fails l E am (sI μ 0 0) 1) caX7_fails q6_127 rfl ⟨Nat.le_of_ble_eq_true rfl, Nat.le_of_ble_eq_true rfl⟩ ⟨Nat.zero_le _, Nat.zero_le _⟩ 0 0 rfl rfl rfl rfl (by decide) rfl rfl rfl rfl (Nat.le_of_ble_eq_true rfl) dX7_plan_22 rfl ?_
      have e_11 : fX7_plan μ a b = ((fX7_fails (sI μ 0 0) 1).1, (fX7_fails (sI μ 0 0) 1).2) := by rw [fX7_plan]; rw [if_pos c_1, if_neg (ne_true_of_eq_false c_4)]
      exact g_iret C hE (by rw [e_11]) (by rw [e_11]) dX7_plan_25
def fX7_unplan (μ : BS) (a : Int32) : Int32 × BS :=
  if (fX7_isTicket (sI μ 0 0) a) = true then (if (fX7_of (sI μ 0 0) a.toNatClampNeg 4) = 0 then ((fX7_fails (sI μ 0 0) 2).1, (fX7_fails (sI μ 0 0) 2).2) else (if (fX7_isLeft (sI μ 0 0) a.toNatClampNeg) = true then ((fX7_of (sI μ 0 0) a.toNatClampNeg 4) - 1, (fX7_lay (fX7_records (sI μ 0 0)) a.toNatClampNeg 4 0)) else ((fX7_fails (sI μ 0 0) 2).1, (fX7_fails (sI μ 0 0) 2).2))) else ((fX7_fails (sI μ 0 0) 1).1, (fX7_fails (sI μ 0 0) 1).2)
theorem caX7_unplan : gCalV yX7_unplan cX7_unplan 3 (some .int) 1 := ⟨⟨q6_235, q1_6, by decide +kernel⟩, q6_233, q6_234⟩
set_option maxHeartbeats 4000000 in
set_option maxRecDepth 100000 in
theorem kX7_unplan (l : Launch) (E : gE) (am : Nat → Nat) (μ : BS) (hv : vM μ)  (a : Int32) : MC l E yX7_unplan cX7_unplan 3 (some .int) 2 43 [.ref (am 0), .int a] [wM E am μ] (some (.int (fX7_unplan μ a).1)) [wM E am ((fX7_unplan μ a).2)] := by
  have hv1 : cM μ ≤ 20 := hv.1.1
  have hc0 : μ.2 0 0 = nI (cM μ) := hv.1.2.1
  refine mc_of (by decide +kernel) (Nat.le_of_ble_eq_true rfl) (lv := [(0, .ref (am 0)), (1, .int a)]) rfl (fun X C hE => ?_)
  refine g_aload_n C dX7_unplan_0 rfl 0 rfl ?_
  refine g_iconst C (v := 0) dX7_unplan_1 (by decide) ?_
  refine g_putf C (T := TX7) (N := 15) (ty := .int) (w1 := wM E am (sI μ 0 0)) (cs1 := [wM E am (sI μ 0 0)]) 0 0 rfl rfl rfl inX7 tyX7_ok nmX7 0 (by decide) q6_70 rfl (by decide +kernel) rfl rfl (Nat.le_of_ble_eq_true rfl) rfl rfl dX7_unplan_2 ?_
  refine g_aload_n C dX7_unplan_5 rfl 0 rfl ?_
  refine g_iload_n C dX7_unplan_6 rfl 1 rfl ?_
  refine g_callV C (cs1 := [wM E am (sI μ 0 0)]) (st1 := [.int (b2i (fX7_isTicket (sI μ 0 0) a))]) [.int a] [0] (kX7_isTicket l E am (sI μ 0 0) a) caX7_isTicket q6_147 rfl ⟨Nat.le_of_ble_eq_true rfl, Nat.le_of_ble_eq_true rfl⟩ ⟨Nat.zero_le _, Nat.zero_le _⟩ 0 0 rfl rfl rfl rfl (by decide) rfl rfl rfl rfl (Nat.le_of_ble_eq_true rfl) dX7_unplan_7 rfl ?_
  refine g_ifB_ne C 19 dX7_unplan_10 (by decide) (fun c_1 => ?_) (fun c_1 => ?_)
  · skip
    have hx_2 := isTicket_i (vM_i0 hv) c_1
    refine g_aload_n C dX7_unplan_19 rfl 0 rfl ?_
    refine g_iload_n C dX7_unplan_20 rfl 1 rfl ?_
    refine g_iconst C (v := 4) dX7_unplan_21 (by decide) ?_
    refine g_st (st1 := [.int 4, .int (nI a.toNatClampNeg), .ref (am 0)]) (by rw [← hx_2.1]) ?_
    refine g_callV C (cs1 := [wM E am (sI μ 0 0)]) (st1 := [.int (fX7_of (sI μ 0 0) a.toNatClampNeg 4)]) [.int (nI a.toNatClampNeg), .int 4] [0] (kX7_of l E am (sI μ 0 0) a.toNatClampNeg (by omega) 4 (by decide)) caX7_of q6_151 rfl ⟨Nat.le_of_ble_eq_true rfl, Nat.le_of_ble_eq_true rfl⟩ ⟨Nat.zero_le _, Nat.zero_le _⟩ 0 0 rfl rfl rfl rfl (by decide) rfl rfl rfl rfl (Nat.le_of_ble_eq_true rfl) dX7_unplan_22 rfl ?_
    refine g_istore_n C (lv1 := [(2, .int (fX7_of (sI μ 0 0) a.toNatClampNeg 4)), (0, .ref (am 0)), (1, .int a)]) dX7_unplan_25 rfl (by decide) rfl ?_
    refine g_iload_n C dX7_unplan_26 rfl 0 rfl ?_
    refine g_if_eq C 38 dX7_unplan_27 (by decide) (fun c_3 => ?_) (fun c_3 => ?_)
    · skip
      refine g_aload_n C dX7_unplan_38 rfl 1 rfl ?_
      refine g_iconst C (v := 2) dX7_unplan_39 (by decide) ?_
      refine g_callV C (cs1 := [wM E am ((fX7_fails (sI μ 0 0) 2).2)]) (st1 := [.int ((fX7_fails (sI μ 0 0) 2).1)]) [.int 2] [0] (kX7_fails l E am (sI μ 0 0) 2) caX7_fails q6_127 rfl ⟨Nat.le_of_ble_eq_true rfl, Nat.le_of_ble_eq_true rfl⟩ ⟨Nat.zero_le _, Nat.zero_le _⟩ 0 0 rfl rfl rfl rfl (by decide) rfl rfl rfl rfl (Nat.le_of_ble_eq_true rfl) dX7_unplan_40 rfl ?_
      have e_4 : fX7_unplan μ a = ((fX7_fails (sI μ 0 0) 2).1, (fX7_fails (sI μ 0 0) 2).2) := by rw [fX7_unplan]; rw [if_pos c_1, if_pos c_3]
      exact g_iret C hE (by rw [e_4]) (by rw [e_4]) dX7_unplan_43
    · skip
      refine g_aload_n C dX7_unplan_30 rfl 1 rfl ?_
      refine g_iload_n C dX7_unplan_31 rfl 2 rfl ?_
      refine g_st (st1 := [.int (nI a.toNatClampNeg), .ref (am 0)]) (by rw [← hx_2.1]) ?_
      refine g_callV C (cs1 := [wM E am (sI μ 0 0)]) (st1 := [.int (b2i (fX7_isLeft (sI μ 0 0) a.toNatClampNeg))]) [.int (nI a.toNatClampNeg)] [0] (kX7_isLeft l E am (sI μ 0 0) a.toNatClampNeg (by omega)) caX7_isLeft q6_155 rfl ⟨Nat.le_of_ble_eq_true rfl, Nat.le_of_ble_eq_true rfl⟩ ⟨Nat.zero_le _, Nat.zero_le _⟩ 0 0 rfl rfl rfl rfl (by decide) rfl rfl rfl rfl (Nat.le_of_ble_eq_true rfl) dX7_unplan_32 rfl ?_
      refine g_ifB_ne C 44 dX7_unplan_35 (by decide) (fun c_5 => ?_) (fun c_5 => ?_)
      · skip
        refine g_aload_n C dX7_unplan_44 rfl 1 rfl ?_
        refine g_callV C (cs1 := [wM E am (fX7_records (sI μ 0 0))]) (st1 := []) [] [0] (kX7_records l E am (sI μ 0 0) (vM_i0 hv)) caX7_records q6_131 rfl ⟨Nat.le_of_ble_eq_true rfl, Nat.le_of_ble_eq_true rfl⟩ ⟨Nat.zero_le _, Nat.zero_le _⟩ 0 0 rfl rfl rfl rfl (by decide) rfl rfl rfl rfl (Nat.le_of_ble_eq_true rfl) dX7_unplan_45 rfl ?_
        refine g_aload_n C dX7_unplan_48 rfl 1 rfl ?_
        refine g_iload_n C dX7_unplan_49 rfl 2 rfl ?_
        refine g_iconst C (v := 4) dX7_unplan_50 (by decide) ?_
        refine g_iconst C (v := 0) dX7_unplan_51 (by decide) ?_
        refine g_st (st1 := [.int 0, .int 4, .int (nI a.toNatClampNeg), .ref (am 0)]) (by rw [← hx_2.1]) ?_
        refine g_callV C (cs1 := [wM E am (fX7_lay (fX7_records (sI μ 0 0)) a.toNatClampNeg 4 0)]) (st1 := []) [.int (nI a.toNatClampNeg), .int 4, .int 0] [0] (kX7_lay l E am (fX7_records (sI μ 0 0)) a.toNatClampNeg (by omega) 4 (by decide) 0) caX7_lay q6_139 rfl ⟨Nat.le_of_ble_eq_true rfl, Nat.le_of_ble_eq_true rfl⟩ ⟨Nat.zero_le _, Nat.zero_le _⟩ 0 0 rfl rfl rfl rfl (by decide) rfl rfl rfl rfl (Nat.le_of_ble_eq_true rfl) dX7_unplan_52 rfl ?_
        refine g_iload_n C dX7_unplan_55 rfl 0 rfl ?_
        refine g_iconst C (v := 1) dX7_unplan_56 (by decide) ?_
        refine g_isub C dX7_unplan_57 ?_
        have e_6 : fX7_unplan μ a = ((fX7_of (sI μ 0 0) a.toNatClampNeg 4) - 1, (fX7_lay (fX7_records (sI μ 0 0)) a.toNatClampNeg 4 0)) := by rw [fX7_unplan]; rw [if_pos c_1, if_neg c_3, if_pos c_5]
        exact g_iret C hE (by rw [e_6]) (by rw [e_6]) dX7_unplan_58
      · skip
        refine g_aload_n C dX7_unplan_38 rfl 1 rfl ?_
        refine g_iconst C (v := 2) dX7_unplan_39 (by decide) ?_
        refine g_callV C (cs1 := [wM E am ((fX7_fails (sI μ 0 0) 2).2)]) (st1 := [.int ((fX7_fails (sI μ 0 0) 2).1)]) [.int 2] [0] (kX7_fails l E am (sI μ 0 0) 2) caX7_fails q6_127 rfl ⟨Nat.le_of_ble_eq_true rfl, Nat.le_of_ble_eq_true rfl⟩ ⟨Nat.zero_le _, Nat.zero_le _⟩ 0 0 rfl rfl rfl rfl (by decide) rfl rfl rfl rfl (Nat.le_of_ble_eq_true rfl) dX7_unplan_40 rfl ?_
        have e_7 : fX7_unplan μ a = ((fX7_fails (sI μ 0 0) 2).1, (fX7_fails (sI μ 0 0) 2).2) := by rw [fX7_unplan]; rw [if_pos c_1, if_neg c_3, if_neg (ne_true_of_eq_false c_5)]
        exact g_iret C hE (by rw [e_7]) (by rw [e_7]) dX7_unplan_43
  · skip
    refine g_aload_n C dX7_unplan_13 rfl 0 rfl ?_
    refine g_iconst C (v := 1) dX7_unplan_14 (by decide) ?_
    refine g_callV C (cs1 := [wM E am ((fX7_fails (sI μ 0 0) 1).2)]) (st1 := [.int ((fX7_fails (sI μ 0 0) 1).1)]) [.int 1] [0] (kX7_fails l E am (sI μ 0 0) 1) caX7_fails q6_127 rfl ⟨Nat.le_of_ble_eq_true rfl, Nat.le_of_ble_eq_true rfl⟩ ⟨Nat.zero_le _, Nat.zero_le _⟩ 0 0 rfl rfl rfl rfl (by decide) rfl rfl rfl rfl (Nat.le_of_ble_eq_true rfl) dX7_unplan_15 rfl ?_
    have e_8 : fX7_unplan μ a = ((fX7_fails (sI μ 0 0) 1).1, (fX7_fails (sI μ 0 0) 1).2) := by rw [fX7_unplan]; rw [if_neg (ne_true_of_eq_false c_1)]
    exact g_iret C hE (by rw [e_8]) (by rw [e_8]) dX7_unplan_18
def fX7_changeDate (μ : BS) (a : Int32) (b : Int32) : Int32 × BS :=
  if (fX7_isMilestone a) = true then (if (fX7_in b 0 999) = true then ((fX7_records (sI μ 0 0)).2 0 (9 + a.toNatClampNeg), sE (fX7_records (sI μ 0 0)) 0 (9 + a.toNatClampNeg) b) else ((fX7_fails (sI μ 0 0) 2).1, (fX7_fails (sI μ 0 0) 2).2)) else ((fX7_fails (sI μ 0 0) 1).1, (fX7_fails (sI μ 0 0) 1).2)
theorem caX7_changeDate : gCalV yX7_changeDate cX7_changeDate 4 (some .int) 2 := ⟨⟨q6_239, q1_6, by decide +kernel⟩, q6_237, q6_238⟩
set_option maxHeartbeats 4000000 in
set_option maxRecDepth 100000 in
theorem kX7_changeDate (l : Launch) (E : gE) (am : Nat → Nat) (μ : BS) (hv : vM μ)  (a : Int32) (b : Int32) : MC l E yX7_changeDate cX7_changeDate 4 (some .int) 2 42 [.ref (am 0), .int a, .int b] [wM E am μ] (some (.int (fX7_changeDate μ a b).1)) [wM E am ((fX7_changeDate μ a b).2)] := by
  have hv1 : cM μ ≤ 20 := hv.1.1
  have hc0 : μ.2 0 0 = nI (cM μ) := hv.1.2.1
  refine mc_of (by decide +kernel) (Nat.le_of_ble_eq_true rfl) (lv := [(0, .ref (am 0)), (1, .int a), (2, .int b)]) rfl (fun X C hE => ?_)
  refine g_aload_n C dX7_changeDate_0 rfl 0 rfl ?_
  refine g_iconst C (v := 0) dX7_changeDate_1 (by decide) ?_
  refine g_putf C (T := TX7) (N := 15) (ty := .int) (w1 := wM E am (sI μ 0 0)) (cs1 := [wM E am (sI μ 0 0)]) 0 0 rfl rfl rfl inX7 tyX7_ok nmX7 0 (by decide) q6_70 rfl (by decide +kernel) rfl rfl (Nat.le_of_ble_eq_true rfl) rfl rfl dX7_changeDate_2 ?_
  refine g_iload_n C dX7_changeDate_5 rfl 1 rfl ?_
  refine g_callS C (cs1 := [wM E am (sI μ 0 0)]) (st1 := [.int (b2i (fX7_isMilestone a))]) [.int a] [] (kX7_isMilestone l E a) caX7_isMilestone q6_225 rfl ⟨Nat.le_of_ble_eq_true rfl, Nat.le_of_ble_eq_true rfl⟩ ⟨Nat.zero_le _, Nat.zero_le _⟩ (by decide) rfl rfl rfl rfl (Nat.le_of_ble_eq_true rfl) dX7_changeDate_6 rfl ?_
  refine g_ifB_ne C 18 dX7_changeDate_9 (by decide) (fun c_1 => ?_) (fun c_1 => ?_)
  · skip
    have hx_2 := isMilestoneM_i c_1
    refine g_iload_n C dX7_changeDate_18 rfl 2 rfl ?_
    refine g_iconst C (v := 0) dX7_changeDate_19 (by decide) ?_
    refine g_sipush C (v := 999) dX7_changeDate_20 (by decide) ?_
    refine g_callS C (cs1 := [wM E am (sI μ 0 0)]) (st1 := [.int (b2i (fX7_in b 0 999))]) [.int b, .int 0, .int 999] [] (kX7_in l E b 0 999) caX7_in q6_124 rfl ⟨Nat.le_of_ble_eq_true rfl, Nat.le_of_ble_eq_true rfl⟩ ⟨Nat.zero_le _, Nat.zero_le _⟩ (by decide) rfl rfl rfl rfl (Nat.le_of_ble_eq_true rfl) dX7_changeDate_23 rfl ?_
    refine g_ifB_ne C 35 dX7_changeDate_26 (by decide) (fun c_3 => ?_) (fun c_3 => ?_)
    · skip
      refine g_aload_n C dX7_changeDate_35 rfl 0 rfl ?_
      refine g_callV C (cs1 := [wM E am (fX7_records (sI μ 0 0))]) (st1 := []) [] [0] (kX7_records l E am (sI μ 0 0) (vM_i0 hv)) caX7_records q6_131 rfl ⟨Nat.le_of_ble_eq_true rfl, Nat.le_of_ble_eq_true rfl⟩ ⟨Nat.zero_le _, Nat.zero_le _⟩ 0 0 rfl rfl rfl rfl (by decide) rfl rfl rfl rfl (Nat.le_of_ble_eq_true rfl) dX7_changeDate_36 rfl ?_
      refine g_aload_n C dX7_changeDate_39 rfl 0 rfl ?_
      refine g_getf C (T := TX7) (N := 15) 0 0 rfl rfl rfl inX7 1 (by decide) q6_71 rfl dX7_changeDate_40 ?_
      refine g_bipush C (v := 9) dX7_changeDate_43 (by decide) ?_
      refine g_iload_n C dX7_changeDate_45 rfl 1 rfl ?_
      refine g_iadd C dX7_changeDate_46 ?_
      refine g_ialdn C 0 1 (9 + a.toNatClampNeg) rfl rfl (nx_add rfl hx_2.1) (by omega) (by decide) dX7_changeDate_47 ?_
      refine g_istore_n C (lv1 := [(3, .int ((fX7_records (sI μ 0 0)).2 0 (9 + a.toNatClampNeg))), (0, .ref (am 0)), (1, .int a), (2, .int b)]) dX7_changeDate_48 rfl (by decide) rfl ?_
      refine g_aload_n C dX7_changeDate_49 rfl 1 rfl ?_
      refine g_getf C (T := TX7) (N := 15) 0 0 rfl rfl rfl inX7 1 (by decide) q6_71 rfl dX7_changeDate_50 ?_
      refine g_bipush C (v := 9) dX7_changeDate_53 (by decide) ?_
      refine g_iload_n C dX7_changeDate_55 rfl 2 rfl ?_
      refine g_iadd C dX7_changeDate_56 ?_
      refine g_iload_n C dX7_changeDate_57 rfl 3 rfl ?_
      refine g_iastn C (w1 := wM E am (sE (fX7_records (sI μ 0 0)) 0 (9 + a.toNatClampNeg) b)) (cs1 := [wM E am (sE (fX7_records (sI μ 0 0)) 0 (9 + a.toNatClampNeg) b)]) 0 1 (9 + a.toNatClampNeg) rfl rfl (nx_add rfl hx_2.1) (by omega) (by decide) rfl rfl dX7_changeDate_58 ?_
      refine g_iload_n C dX7_changeDate_59 rfl 0 rfl ?_
      have e_4 : fX7_changeDate μ a b = ((fX7_records (sI μ 0 0)).2 0 (9 + a.toNatClampNeg), sE (fX7_records (sI μ 0 0)) 0 (9 + a.toNatClampNeg) b) := by rw [fX7_changeDate]; rw [if_pos c_1, if_pos c_3]
      exact g_iret C hE (by rw [e_4]) (by rw [e_4]) dX7_changeDate_60
    · skip
      refine g_aload_n C dX7_changeDate_29 rfl 0 rfl ?_
      refine g_iconst C (v := 2) dX7_changeDate_30 (by decide) ?_
      refine g_callV C (cs1 := [wM E am ((fX7_fails (sI μ 0 0) 2).2)]) (st1 := [.int ((fX7_fails (sI μ 0 0) 2).1)]) [.int 2] [0] (kX7_fails l E am (sI μ 0 0) 2) caX7_fails q6_127 rfl ⟨Nat.le_of_ble_eq_true rfl, Nat.le_of_ble_eq_true rfl⟩ ⟨Nat.zero_le _, Nat.zero_le _⟩ 0 0 rfl rfl rfl rfl (by decide) rfl rfl rfl rfl (Nat.le_of_ble_eq_true rfl) dX7_changeDate_31 rfl ?_
      have e_5 : fX7_changeDate μ a b = ((fX7_fails (sI μ 0 0) 2).1, (fX7_fails (sI μ 0 0) 2).2) := by rw [fX7_changeDate]; rw [if_pos c_1, if_neg (ne_true_of_eq_false c_3)]
      exact g_iret C hE (by rw [e_5]) (by rw [e_5]) dX7_changeDate_34
  · skip
    refine g_aload_n C dX7_changeDate_12 rfl 0 rfl ?_
    refine g_iconst C (v := 1) dX7_changeDate_13 (by decide) ?_
    refine g_callV C (cs1 := [wM E am ((fX7_fails (sI μ 0 0) 1).2)]) (st1 := [.int ((fX7_fails (sI μ 0 0) 1).1)]) [.int 1] [0] (kX7_fails l E am (sI μ 0 0) 1) caX7_fails q6_127 rfl ⟨Nat.le_of_ble_eq_true rfl, Nat.le_of_ble_eq_true rfl⟩ ⟨Nat.zero_le _, Nat.zero_le _⟩ 0 0 rfl rfl rfl rfl (by decide) rfl rfl rfl rfl (Nat.le_of_ble_eq_true rfl) dX7_changeDate_14 rfl ?_
    have e_6 : fX7_changeDate μ a b = ((fX7_fails (sI μ 0 0) 1).1, (fX7_fails (sI μ 0 0) 1).2) := by rw [fX7_changeDate]; rw [if_neg (ne_true_of_eq_false c_1)]
    exact g_iret C hE (by rw [e_6]) (by rw [e_6]) dX7_changeDate_17
def fX7_endDays (μ : BS) (a : Int32) : Int32 × BS :=
  if (fX7_in a 1 30) = true then (if ((μ.2 0 1) + a) ≤ 999 then ((fX7_ends (fX7_records (sI μ 0 0)) a).1, (fX7_ends (fX7_records (sI μ 0 0)) a).2) else ((fX7_fails (sI μ 0 0) 2).1, (fX7_fails (sI μ 0 0) 2).2)) else ((fX7_fails (sI μ 0 0) 1).1, (fX7_fails (sI μ 0 0) 1).2)
theorem caX7_endDays : gCalV yX7_endDays cX7_endDays 2 (some .int) 1 := ⟨⟨q7_3, q1_6, by decide +kernel⟩, q7_1, q7_2⟩
set_option maxHeartbeats 4000000 in
set_option maxRecDepth 100000 in
theorem kX7_endDays (l : Launch) (E : gE) (am : Nat → Nat) (μ : BS) (hv : vM μ)  (a : Int32) : MC l E yX7_endDays cX7_endDays 2 (some .int) 2 45 [.ref (am 0), .int a] [wM E am μ] (some (.int (fX7_endDays μ a).1)) [wM E am ((fX7_endDays μ a).2)] := by
  have hv1 : cM μ ≤ 20 := hv.1.1
  have hc0 : μ.2 0 0 = nI (cM μ) := hv.1.2.1
  refine mc_of (by decide +kernel) (Nat.le_of_ble_eq_true rfl) (lv := [(0, .ref (am 0)), (1, .int a)]) rfl (fun X C hE => ?_)
  refine g_aload_n C dX7_endDays_0 rfl 0 rfl ?_
  refine g_iconst C (v := 0) dX7_endDays_1 (by decide) ?_
  refine g_putf C (T := TX7) (N := 15) (ty := .int) (w1 := wM E am (sI μ 0 0)) (cs1 := [wM E am (sI μ 0 0)]) 0 0 rfl rfl rfl inX7 tyX7_ok nmX7 0 (by decide) q6_70 rfl (by decide +kernel) rfl rfl (Nat.le_of_ble_eq_true rfl) rfl rfl dX7_endDays_2 ?_
  refine g_iload_n C dX7_endDays_5 rfl 1 rfl ?_
  refine g_iconst C (v := 1) dX7_endDays_6 (by decide) ?_
  refine g_bipush C (v := 30) dX7_endDays_7 (by decide) ?_
  refine g_callS C (cs1 := [wM E am (sI μ 0 0)]) (st1 := [.int (b2i (fX7_in a 1 30))]) [.int a, .int 1, .int 30] [] (kX7_in l E a 1 30) caX7_in q6_124 rfl ⟨Nat.le_of_ble_eq_true rfl, Nat.le_of_ble_eq_true rfl⟩ ⟨Nat.zero_le _, Nat.zero_le _⟩ (by decide) rfl rfl rfl rfl (Nat.le_of_ble_eq_true rfl) dX7_endDays_9 rfl ?_
  refine g_ifB_ne C 21 dX7_endDays_12 (by decide) (fun c_1 => ?_) (fun c_1 => ?_)
  · skip
    refine g_aload_n C dX7_endDays_21 rfl 0 rfl ?_
    refine g_getf C (T := TX7) (N := 15) 0 0 rfl rfl rfl inX7 1 (by decide) q6_71 rfl dX7_endDays_22 ?_
    refine g_iconst C (v := 1) dX7_endDays_25 (by decide) ?_
    refine g_ialdn C (f := μ.2 0) 0 1 1 rfl rfl rfl (by decide) (by decide) dX7_endDays_26 ?_
    refine g_iload_n C dX7_endDays_27 rfl 1 rfl ?_
    refine g_iadd C dX7_endDays_28 ?_
    refine g_sipush C (v := 999) dX7_endDays_29 (by decide) ?_
    refine g_icmp_le C 41 dX7_endDays_32 (by decide) (fun c_2 => ?_) (fun c_2 => ?_)
    · skip
      refine g_aload_n C dX7_endDays_41 rfl 0 rfl ?_
      refine g_callV C (cs1 := [wM E am (fX7_records (sI μ 0 0))]) (st1 := []) [] [0] (kX7_records l E am (sI μ 0 0) (vM_i0 hv)) caX7_records q6_131 rfl ⟨Nat.le_of_ble_eq_true rfl, Nat.le_of_ble_eq_true rfl⟩ ⟨Nat.zero_le _, Nat.zero_le _⟩ 0 0 rfl rfl rfl rfl (by decide) rfl rfl rfl rfl (Nat.le_of_ble_eq_true rfl) dX7_endDays_42 rfl ?_
      refine g_aload_n C dX7_endDays_45 rfl 0 rfl ?_
      refine g_iload_n C dX7_endDays_46 rfl 1 rfl ?_
      refine g_callV C (cs1 := [wM E am ((fX7_ends (fX7_records (sI μ 0 0)) a).2)]) (st1 := [.int ((fX7_ends (fX7_records (sI μ 0 0)) a).1)]) [.int a] [0] (kX7_ends l E am (fX7_records (sI μ 0 0)) (vM_records (vM_i0 hv)) a) caX7_ends q7_4 rfl ⟨Nat.le_of_ble_eq_true rfl, Nat.le_of_ble_eq_true rfl⟩ ⟨Nat.zero_le _, Nat.zero_le _⟩ 0 0 rfl rfl rfl rfl (by decide) rfl rfl rfl rfl (Nat.le_of_ble_eq_true rfl) dX7_endDays_47 rfl ?_
      have e_3 : fX7_endDays μ a = ((fX7_ends (fX7_records (sI μ 0 0)) a).1, (fX7_ends (fX7_records (sI μ 0 0)) a).2) := by rw [fX7_endDays]; rw [if_pos c_1, if_pos c_2]
      exact g_iret C hE (by rw [e_3]) (by rw [e_3]) dX7_endDays_50
    · skip
      refine g_aload_n C dX7_endDays_35 rfl 0 rfl ?_
      refine g_iconst C (v := 2) dX7_endDays_36 (by decide) ?_
      refine g_callV C (cs1 := [wM E am ((fX7_fails (sI μ 0 0) 2).2)]) (st1 := [.int ((fX7_fails (sI μ 0 0) 2).1)]) [.int 2] [0] (kX7_fails l E am (sI μ 0 0) 2) caX7_fails q6_127 rfl ⟨Nat.le_of_ble_eq_true rfl, Nat.le_of_ble_eq_true rfl⟩ ⟨Nat.zero_le _, Nat.zero_le _⟩ 0 0 rfl rfl rfl rfl (by decide) rfl rfl rfl rfl (Nat.le_of_ble_eq_true rfl) dX7_endDays_37 rfl ?_
      have e_4 : fX7_endDays μ a = ((fX7_fails (sI μ 0 0) 2).1, (fX7_fails (sI μ 0 0) 2).2) := by rw [fX7_endDays]; rw [if_pos c_1, if_neg c_2]
      exact g_iret C hE (by rw [e_4]) (by rw [e_4]) dX7_endDays_40
  · skip
    refine g_aload_n C dX7_endDays_15 rfl 0 rfl ?_
    refine g_iconst C (v := 1) dX7_endDays_16 (by decide) ?_
    refine g_callV C (cs1 := [wM E am ((fX7_fails (sI μ 0 0) 1).2)]) (st1 := [.int ((fX7_fails (sI μ 0 0) 1).1)]) [.int 1] [0] (kX7_fails l E am (sI μ 0 0) 1) caX7_fails q6_127 rfl ⟨Nat.le_of_ble_eq_true rfl, Nat.le_of_ble_eq_true rfl⟩ ⟨Nat.zero_le _, Nat.zero_le _⟩ 0 0 rfl rfl rfl rfl (by decide) rfl rfl rfl rfl (Nat.le_of_ble_eq_true rfl) dX7_endDays_17 rfl ?_
    have e_5 : fX7_endDays μ a = ((fX7_fails (sI μ 0 0) 1).1, (fX7_fails (sI μ 0 0) 1).2) := by rw [fX7_endDays]; rw [if_neg (ne_true_of_eq_false c_1)]
    exact g_iret C hE (by rw [e_5]) (by rw [e_5]) dX7_endDays_20
def fX7_start (μ : BS) (a : Int32) : BS :=
  if (fX7_isTicket (sI μ 0 0) a) = true then (if (fX7_canStart (sI μ 0 0) a.toNatClampNeg) = true then (fX7_lay (fX7_records (sI μ 0 0)) a.toNatClampNeg 2 1) else sI (sI μ 0 0) 0 2) else sI (sI μ 0 0) 0 1
theorem caX7_start : gCalV yX7_start cX7_start 2 none 1 := ⟨⟨q7_11, q1_6, by decide +kernel⟩, q7_9, q7_10⟩
set_option maxHeartbeats 4000000 in
set_option maxRecDepth 100000 in
theorem kX7_start (l : Launch) (E : gE) (am : Nat → Nat) (μ : BS) (hv : vM μ)  (a : Int32) : MC l E yX7_start cX7_start 2 none 2 43 [.ref (am 0), .int a] [wM E am μ] none [wM E am (fX7_start μ a)] := by
  have hv1 : cM μ ≤ 20 := hv.1.1
  have hc0 : μ.2 0 0 = nI (cM μ) := hv.1.2.1
  refine mc_of (by decide +kernel) (Nat.le_of_ble_eq_true rfl) (lv := [(0, .ref (am 0)), (1, .int a)]) rfl (fun X C hE => ?_)
  refine g_aload_n C dX7_start_0 rfl 0 rfl ?_
  refine g_iconst C (v := 0) dX7_start_1 (by decide) ?_
  refine g_putf C (T := TX7) (N := 15) (ty := .int) (w1 := wM E am (sI μ 0 0)) (cs1 := [wM E am (sI μ 0 0)]) 0 0 rfl rfl rfl inX7 tyX7_ok nmX7 0 (by decide) q6_70 rfl (by decide +kernel) rfl rfl (Nat.le_of_ble_eq_true rfl) rfl rfl dX7_start_2 ?_
  refine g_aload_n C dX7_start_5 rfl 0 rfl ?_
  refine g_iload_n C dX7_start_6 rfl 1 rfl ?_
  refine g_callV C (cs1 := [wM E am (sI μ 0 0)]) (st1 := [.int (b2i (fX7_isTicket (sI μ 0 0) a))]) [.int a] [0] (kX7_isTicket l E am (sI μ 0 0) a) caX7_isTicket q6_147 rfl ⟨Nat.le_of_ble_eq_true rfl, Nat.le_of_ble_eq_true rfl⟩ ⟨Nat.zero_le _, Nat.zero_le _⟩ 0 0 rfl rfl rfl rfl (by decide) rfl rfl rfl rfl (Nat.le_of_ble_eq_true rfl) dX7_start_7 rfl ?_
  refine g_ifB_ne C 19 dX7_start_10 (by decide) (fun c_1 => ?_) (fun c_1 => ?_)
  · skip
    have hx_2 := isTicket_i (vM_i0 hv) c_1
    refine g_aload_n C dX7_start_19 rfl 0 rfl ?_
    refine g_iload_n C dX7_start_20 rfl 1 rfl ?_
    refine g_st (st1 := [.int (nI a.toNatClampNeg), .ref (am 0)]) (by rw [← hx_2.1]) ?_
    refine g_callV C (cs1 := [wM E am (sI μ 0 0)]) (st1 := [.int (b2i (fX7_canStart (sI μ 0 0) a.toNatClampNeg))]) [.int (nI a.toNatClampNeg)] [0] (kX7_canStart l E am (sI μ 0 0) a.toNatClampNeg (by omega)) caX7_canStart q7_12 rfl ⟨Nat.le_of_ble_eq_true rfl, Nat.le_of_ble_eq_true rfl⟩ ⟨Nat.zero_le _, Nat.zero_le _⟩ 0 0 rfl rfl rfl rfl (by decide) rfl rfl rfl rfl (Nat.le_of_ble_eq_true rfl) dX7_start_21 rfl ?_
    refine g_ifB_ne C 33 dX7_start_24 (by decide) (fun c_3 => ?_) (fun c_3 => ?_)
    · skip
      refine g_aload_n C dX7_start_33 rfl 0 rfl ?_
      refine g_callV C (cs1 := [wM E am (fX7_records (sI μ 0 0))]) (st1 := []) [] [0] (kX7_records l E am (sI μ 0 0) (vM_i0 hv)) caX7_records q6_131 rfl ⟨Nat.le_of_ble_eq_true rfl, Nat.le_of_ble_eq_true rfl⟩ ⟨Nat.zero_le _, Nat.zero_le _⟩ 0 0 rfl rfl rfl rfl (by decide) rfl rfl rfl rfl (Nat.le_of_ble_eq_true rfl) dX7_start_34 rfl ?_
      refine g_aload_n C dX7_start_37 rfl 0 rfl ?_
      refine g_iload_n C dX7_start_38 rfl 1 rfl ?_
      refine g_iconst C (v := 2) dX7_start_39 (by decide) ?_
      refine g_iconst C (v := 1) dX7_start_40 (by decide) ?_
      refine g_st (st1 := [.int 1, .int 2, .int (nI a.toNatClampNeg), .ref (am 0)]) (by rw [← hx_2.1]) ?_
      refine g_callV C (cs1 := [wM E am (fX7_lay (fX7_records (sI μ 0 0)) a.toNatClampNeg 2 1)]) (st1 := []) [.int (nI a.toNatClampNeg), .int 2, .int 1] [0] (kX7_lay l E am (fX7_records (sI μ 0 0)) a.toNatClampNeg (by omega) 2 (by decide) 1) caX7_lay q6_139 rfl ⟨Nat.le_of_ble_eq_true rfl, Nat.le_of_ble_eq_true rfl⟩ ⟨Nat.zero_le _, Nat.zero_le _⟩ 0 0 rfl rfl rfl rfl (by decide) rfl rfl rfl rfl (Nat.le_of_ble_eq_true rfl) dX7_start_41 rfl ?_
      have e_4 : fX7_start μ a = (fX7_lay (fX7_records (sI μ 0 0)) a.toNatClampNeg 2 1) := by rw [fX7_start]; rw [if_pos c_1, if_pos c_3]
      exact g_vret C hE rfl (by rw [e_4]) dX7_start_44
    · skip
      refine g_aload_n C dX7_start_27 rfl 0 rfl ?_
      refine g_iconst C (v := 2) dX7_start_28 (by decide) ?_
      refine g_putf C (T := TX7) (N := 15) (ty := .int) (w1 := wM E am (sI (sI μ 0 0) 0 2)) (cs1 := [wM E am (sI (sI μ 0 0) 0 2)]) 0 0 rfl rfl rfl inX7 tyX7_ok nmX7 0 (by decide) q6_70 rfl (by decide +kernel) rfl rfl (Nat.le_of_ble_eq_true rfl) rfl rfl dX7_start_29 ?_
      have e_5 : fX7_start μ a = sI (sI μ 0 0) 0 2 := by rw [fX7_start]; rw [if_pos c_1, if_neg (ne_true_of_eq_false c_3)]
      exact g_vret C hE rfl (by rw [e_5]) dX7_start_32
  · skip
    refine g_aload_n C dX7_start_13 rfl 0 rfl ?_
    refine g_iconst C (v := 1) dX7_start_14 (by decide) ?_
    refine g_putf C (T := TX7) (N := 15) (ty := .int) (w1 := wM E am (sI (sI μ 0 0) 0 1)) (cs1 := [wM E am (sI (sI μ 0 0) 0 1)]) 0 0 rfl rfl rfl inX7 tyX7_ok nmX7 0 (by decide) q6_70 rfl (by decide +kernel) rfl rfl (Nat.le_of_ble_eq_true rfl) rfl rfl dX7_start_15 ?_
    have e_6 : fX7_start μ a = sI (sI μ 0 0) 0 1 := by rw [fX7_start]; rw [if_neg (ne_true_of_eq_false c_1)]
    exact g_vret C hE rfl (by rw [e_6]) dX7_start_18
def fX7_submit (μ : BS) (a : Int32) : BS :=
  if (fX7_isTicket (sI μ 0 0) a) = true then (if (fX7_of (sI μ 0 0) a.toNatClampNeg 2) = 1 then (fX7_lay (fX7_records (sI μ 0 0)) a.toNatClampNeg 2 2) else sI (sI μ 0 0) 0 2) else sI (sI μ 0 0) 0 1
theorem caX7_submit : gCalV yX7_submit cX7_submit 2 none 1 := ⟨⟨q7_19, q1_6, by decide +kernel⟩, q7_17, q7_18⟩
set_option maxHeartbeats 4000000 in
set_option maxRecDepth 100000 in
theorem kX7_submit (l : Launch) (E : gE) (am : Nat → Nat) (μ : BS) (hv : vM μ)  (a : Int32) : MC l E yX7_submit cX7_submit 2 none 2 43 [.ref (am 0), .int a] [wM E am μ] none [wM E am (fX7_submit μ a)] := by
  have hv1 : cM μ ≤ 20 := hv.1.1
  have hc0 : μ.2 0 0 = nI (cM μ) := hv.1.2.1
  refine mc_of (by decide +kernel) (Nat.le_of_ble_eq_true rfl) (lv := [(0, .ref (am 0)), (1, .int a)]) rfl (fun X C hE => ?_)
  refine g_aload_n C dX7_submit_0 rfl 0 rfl ?_
  refine g_iconst C (v := 0) dX7_submit_1 (by decide) ?_
  refine g_putf C (T := TX7) (N := 15) (ty := .int) (w1 := wM E am (sI μ 0 0)) (cs1 := [wM E am (sI μ 0 0)]) 0 0 rfl rfl rfl inX7 tyX7_ok nmX7 0 (by decide) q6_70 rfl (by decide +kernel) rfl rfl (Nat.le_of_ble_eq_true rfl) rfl rfl dX7_submit_2 ?_
  refine g_aload_n C dX7_submit_5 rfl 0 rfl ?_
  refine g_iload_n C dX7_submit_6 rfl 1 rfl ?_
  refine g_callV C (cs1 := [wM E am (sI μ 0 0)]) (st1 := [.int (b2i (fX7_isTicket (sI μ 0 0) a))]) [.int a] [0] (kX7_isTicket l E am (sI μ 0 0) a) caX7_isTicket q6_147 rfl ⟨Nat.le_of_ble_eq_true rfl, Nat.le_of_ble_eq_true rfl⟩ ⟨Nat.zero_le _, Nat.zero_le _⟩ 0 0 rfl rfl rfl rfl (by decide) rfl rfl rfl rfl (Nat.le_of_ble_eq_true rfl) dX7_submit_7 rfl ?_
  refine g_ifB_ne C 19 dX7_submit_10 (by decide) (fun c_1 => ?_) (fun c_1 => ?_)
  · skip
    have hx_2 := isTicket_i (vM_i0 hv) c_1
    refine g_aload_n C dX7_submit_19 rfl 0 rfl ?_
    refine g_iload_n C dX7_submit_20 rfl 1 rfl ?_
    refine g_iconst C (v := 2) dX7_submit_21 (by decide) ?_
    refine g_st (st1 := [.int 2, .int (nI a.toNatClampNeg), .ref (am 0)]) (by rw [← hx_2.1]) ?_
    refine g_callV C (cs1 := [wM E am (sI μ 0 0)]) (st1 := [.int (fX7_of (sI μ 0 0) a.toNatClampNeg 2)]) [.int (nI a.toNatClampNeg), .int 2] [0] (kX7_of l E am (sI μ 0 0) a.toNatClampNeg (by omega) 2 (by decide)) caX7_of q6_151 rfl ⟨Nat.le_of_ble_eq_true rfl, Nat.le_of_ble_eq_true rfl⟩ ⟨Nat.zero_le _, Nat.zero_le _⟩ 0 0 rfl rfl rfl rfl (by decide) rfl rfl rfl rfl (Nat.le_of_ble_eq_true rfl) dX7_submit_22 rfl ?_
    refine g_iconst C (v := 1) dX7_submit_25 (by decide) ?_
    refine g_icmp_eq C 35 dX7_submit_26 (by decide) (fun c_3 => ?_) (fun c_3 => ?_)
    · skip
      refine g_aload_n C dX7_submit_35 rfl 0 rfl ?_
      refine g_callV C (cs1 := [wM E am (fX7_records (sI μ 0 0))]) (st1 := []) [] [0] (kX7_records l E am (sI μ 0 0) (vM_i0 hv)) caX7_records q6_131 rfl ⟨Nat.le_of_ble_eq_true rfl, Nat.le_of_ble_eq_true rfl⟩ ⟨Nat.zero_le _, Nat.zero_le _⟩ 0 0 rfl rfl rfl rfl (by decide) rfl rfl rfl rfl (Nat.le_of_ble_eq_true rfl) dX7_submit_36 rfl ?_
      refine g_aload_n C dX7_submit_39 rfl 0 rfl ?_
      refine g_iload_n C dX7_submit_40 rfl 1 rfl ?_
      refine g_iconst C (v := 2) dX7_submit_41 (by decide) ?_
      refine g_iconst C (v := 2) dX7_submit_42 (by decide) ?_
      refine g_st (st1 := [.int 2, .int 2, .int (nI a.toNatClampNeg), .ref (am 0)]) (by rw [← hx_2.1]) ?_
      refine g_callV C (cs1 := [wM E am (fX7_lay (fX7_records (sI μ 0 0)) a.toNatClampNeg 2 2)]) (st1 := []) [.int (nI a.toNatClampNeg), .int 2, .int 2] [0] (kX7_lay l E am (fX7_records (sI μ 0 0)) a.toNatClampNeg (by omega) 2 (by decide) 2) caX7_lay q6_139 rfl ⟨Nat.le_of_ble_eq_true rfl, Nat.le_of_ble_eq_true rfl⟩ ⟨Nat.zero_le _, Nat.zero_le _⟩ 0 0 rfl rfl rfl rfl (by decide) rfl rfl rfl rfl (Nat.le_of_ble_eq_true rfl) dX7_submit_43 rfl ?_
      have e_4 : fX7_submit μ a = (fX7_lay (fX7_records (sI μ 0 0)) a.toNatClampNeg 2 2) := by rw [fX7_submit]; rw [if_pos c_1, if_pos c_3]
      exact g_vret C hE rfl (by rw [e_4]) dX7_submit_46
    · skip
      refine g_aload_n C dX7_submit_29 rfl 0 rfl ?_
      refine g_iconst C (v := 2) dX7_submit_30 (by decide) ?_
      refine g_putf C (T := TX7) (N := 15) (ty := .int) (w1 := wM E am (sI (sI μ 0 0) 0 2)) (cs1 := [wM E am (sI (sI μ 0 0) 0 2)]) 0 0 rfl rfl rfl inX7 tyX7_ok nmX7 0 (by decide) q6_70 rfl (by decide +kernel) rfl rfl (Nat.le_of_ble_eq_true rfl) rfl rfl dX7_submit_31 ?_
      have e_5 : fX7_submit μ a = sI (sI μ 0 0) 0 2 := by rw [fX7_submit]; rw [if_pos c_1, if_neg c_3]
      exact g_vret C hE rfl (by rw [e_5]) dX7_submit_34
  · skip
    refine g_aload_n C dX7_submit_13 rfl 0 rfl ?_
    refine g_iconst C (v := 1) dX7_submit_14 (by decide) ?_
    refine g_putf C (T := TX7) (N := 15) (ty := .int) (w1 := wM E am (sI (sI μ 0 0) 0 1)) (cs1 := [wM E am (sI (sI μ 0 0) 0 1)]) 0 0 rfl rfl rfl inX7 tyX7_ok nmX7 0 (by decide) q6_70 rfl (by decide +kernel) rfl rfl (Nat.le_of_ble_eq_true rfl) rfl rfl dX7_submit_15 ?_
    have e_6 : fX7_submit μ a = sI (sI μ 0 0) 0 1 := by rw [fX7_submit]; rw [if_neg (ne_true_of_eq_false c_1)]
    exact g_vret C hE rfl (by rw [e_6]) dX7_submit_18
def fX7_sendBack (μ : BS) (a : Int32) : Int32 × BS :=
  if (fX7_isTicket (sI μ 0 0) a) = true then (if (fX7_of (sI μ 0 0) a.toNatClampNeg 2) = 2 then ((fX7_of (fX7_lay (fX7_lay (fX7_records (sI μ 0 0)) a.toNatClampNeg 2 1) a.toNatClampNeg 8 ((fX7_of (fX7_lay (fX7_records (sI μ 0 0)) a.toNatClampNeg 2 1) a.toNatClampNeg 8) + 1)) a.toNatClampNeg 8), (fX7_lay (fX7_lay (fX7_records (sI μ 0 0)) a.toNatClampNeg 2 1) a.toNatClampNeg 8 ((fX7_of (fX7_lay (fX7_records (sI μ 0 0)) a.toNatClampNeg 2 1) a.toNatClampNeg 8) + 1))) else ((fX7_fails (sI μ 0 0) 2).1, (fX7_fails (sI μ 0 0) 2).2)) else ((fX7_fails (sI μ 0 0) 1).1, (fX7_fails (sI μ 0 0) 1).2)
theorem caX7_sendBack : gCalV yX7_sendBack cX7_sendBack 2 (some .int) 1 := ⟨⟨q7_23, q1_6, by decide +kernel⟩, q7_21, q7_22⟩
set_option maxHeartbeats 4000000 in
set_option maxRecDepth 100000 in
theorem kX7_sendBack (l : Launch) (E : gE) (am : Nat → Nat) (μ : BS) (hv : vM μ)  (a : Int32) : MC l E yX7_sendBack cX7_sendBack 2 (some .int) 2 43 [.ref (am 0), .int a] [wM E am μ] (some (.int (fX7_sendBack μ a).1)) [wM E am ((fX7_sendBack μ a).2)] := by
  have hv1 : cM μ ≤ 20 := hv.1.1
  have hc0 : μ.2 0 0 = nI (cM μ) := hv.1.2.1
  refine mc_of (by decide +kernel) (Nat.le_of_ble_eq_true rfl) (lv := [(0, .ref (am 0)), (1, .int a)]) rfl (fun X C hE => ?_)
  refine g_aload_n C dX7_sendBack_0 rfl 0 rfl ?_
  refine g_iconst C (v := 0) dX7_sendBack_1 (by decide) ?_
  refine g_putf C (T := TX7) (N := 15) (ty := .int) (w1 := wM E am (sI μ 0 0)) (cs1 := [wM E am (sI μ 0 0)]) 0 0 rfl rfl rfl inX7 tyX7_ok nmX7 0 (by decide) q6_70 rfl (by decide +kernel) rfl rfl (Nat.le_of_ble_eq_true rfl) rfl rfl dX7_sendBack_2 ?_
  refine g_aload_n C dX7_sendBack_5 rfl 0 rfl ?_
  refine g_iload_n C dX7_sendBack_6 rfl 1 rfl ?_
  refine g_callV C (cs1 := [wM E am (sI μ 0 0)]) (st1 := [.int (b2i (fX7_isTicket (sI μ 0 0) a))]) [.int a] [0] (kX7_isTicket l E am (sI μ 0 0) a) caX7_isTicket q6_147 rfl ⟨Nat.le_of_ble_eq_true rfl, Nat.le_of_ble_eq_true rfl⟩ ⟨Nat.zero_le _, Nat.zero_le _⟩ 0 0 rfl rfl rfl rfl (by decide) rfl rfl rfl rfl (Nat.le_of_ble_eq_true rfl) dX7_sendBack_7 rfl ?_
  refine g_ifB_ne C 19 dX7_sendBack_10 (by decide) (fun c_1 => ?_) (fun c_1 => ?_)
  · skip
    have hx_2 := isTicket_i (vM_i0 hv) c_1
    refine g_aload_n C dX7_sendBack_19 rfl 0 rfl ?_
    refine g_iload_n C dX7_sendBack_20 rfl 1 rfl ?_
    refine g_iconst C (v := 2) dX7_sendBack_21 (by decide) ?_
    refine g_st (st1 := [.int 2, .int (nI a.toNatClampNeg), .ref (am 0)]) (by rw [← hx_2.1]) ?_
    refine g_callV C (cs1 := [wM E am (sI μ 0 0)]) (st1 := [.int (fX7_of (sI μ 0 0) a.toNatClampNeg 2)]) [.int (nI a.toNatClampNeg), .int 2] [0] (kX7_of l E am (sI μ 0 0) a.toNatClampNeg (by omega) 2 (by decide)) caX7_of q6_151 rfl ⟨Nat.le_of_ble_eq_true rfl, Nat.le_of_ble_eq_true rfl⟩ ⟨Nat.zero_le _, Nat.zero_le _⟩ 0 0 rfl rfl rfl rfl (by decide) rfl rfl rfl rfl (Nat.le_of_ble_eq_true rfl) dX7_sendBack_22 rfl ?_
    refine g_iconst C (v := 2) dX7_sendBack_25 (by decide) ?_
    refine g_icmp_eq C 35 dX7_sendBack_26 (by decide) (fun c_3 => ?_) (fun c_3 => ?_)
    · skip
      refine g_aload_n C dX7_sendBack_35 rfl 0 rfl ?_
      refine g_callV C (cs1 := [wM E am (fX7_records (sI μ 0 0))]) (st1 := []) [] [0] (kX7_records l E am (sI μ 0 0) (vM_i0 hv)) caX7_records q6_131 rfl ⟨Nat.le_of_ble_eq_true rfl, Nat.le_of_ble_eq_true rfl⟩ ⟨Nat.zero_le _, Nat.zero_le _⟩ 0 0 rfl rfl rfl rfl (by decide) rfl rfl rfl rfl (Nat.le_of_ble_eq_true rfl) dX7_sendBack_36 rfl ?_
      refine g_aload_n C dX7_sendBack_39 rfl 0 rfl ?_
      refine g_iload_n C dX7_sendBack_40 rfl 1 rfl ?_
      refine g_iconst C (v := 2) dX7_sendBack_41 (by decide) ?_
      refine g_iconst C (v := 1) dX7_sendBack_42 (by decide) ?_
      refine g_st (st1 := [.int 1, .int 2, .int (nI a.toNatClampNeg), .ref (am 0)]) (by rw [← hx_2.1]) ?_
      refine g_callV C (cs1 := [wM E am (fX7_lay (fX7_records (sI μ 0 0)) a.toNatClampNeg 2 1)]) (st1 := []) [.int (nI a.toNatClampNeg), .int 2, .int 1] [0] (kX7_lay l E am (fX7_records (sI μ 0 0)) a.toNatClampNeg (by omega) 2 (by decide) 1) caX7_lay q6_139 rfl ⟨Nat.le_of_ble_eq_true rfl, Nat.le_of_ble_eq_true rfl⟩ ⟨Nat.zero_le _, Nat.zero_le _⟩ 0 0 rfl rfl rfl rfl (by decide) rfl rfl rfl rfl (Nat.le_of_ble_eq_true rfl) dX7_sendBack_43 rfl ?_
      refine g_aload_n C dX7_sendBack_46 rfl 0 rfl ?_
      refine g_iload_n C dX7_sendBack_47 rfl 1 rfl ?_
      refine g_bipush C (v := 8) dX7_sendBack_48 (by decide) ?_
      refine g_aload_n C dX7_sendBack_50 rfl 0 rfl ?_
      refine g_iload_n C dX7_sendBack_51 rfl 1 rfl ?_
      refine g_bipush C (v := 8) dX7_sendBack_52 (by decide) ?_
      refine g_st (st1 := [.int 8, .int (nI a.toNatClampNeg), .ref (am 0), .int 8, .int a, .ref (am 0)]) (by rw [← hx_2.1]) ?_
      refine g_callV C (cs1 := [wM E am (fX7_lay (fX7_records (sI μ 0 0)) a.toNatClampNeg 2 1)]) (st1 := [.int (fX7_of (fX7_lay (fX7_records (sI μ 0 0)) a.toNatClampNeg 2 1) a.toNatClampNeg 8), .int 8, .int a, .ref (am 0)]) [.int (nI a.toNatClampNeg), .int 8] [0] (kX7_of l E am (fX7_lay (fX7_records (sI μ 0 0)) a.toNatClampNeg 2 1) a.toNatClampNeg (by omega) 8 (by decide)) caX7_of q6_151 rfl ⟨Nat.le_of_ble_eq_true rfl, Nat.le_of_ble_eq_true rfl⟩ ⟨Nat.zero_le _, Nat.zero_le _⟩ 0 0 rfl rfl rfl rfl (by decide) rfl rfl rfl rfl (Nat.le_of_ble_eq_true rfl) dX7_sendBack_54 rfl ?_
      refine g_iconst C (v := 1) dX7_sendBack_57 (by decide) ?_
      refine g_iadd C dX7_sendBack_58 ?_
      refine g_st (st1 := [.int ((fX7_of (fX7_lay (fX7_records (sI μ 0 0)) a.toNatClampNeg 2 1) a.toNatClampNeg 8) + 1), .int 8, .int (nI a.toNatClampNeg), .ref (am 0)]) (by rw [← hx_2.1]) ?_
      refine g_callV C (cs1 := [wM E am (fX7_lay (fX7_lay (fX7_records (sI μ 0 0)) a.toNatClampNeg 2 1) a.toNatClampNeg 8 ((fX7_of (fX7_lay (fX7_records (sI μ 0 0)) a.toNatClampNeg 2 1) a.toNatClampNeg 8) + 1))]) (st1 := []) [.int (nI a.toNatClampNeg), .int 8, .int ((fX7_of (fX7_lay (fX7_records (sI μ 0 0)) a.toNatClampNeg 2 1) a.toNatClampNeg 8) + 1)] [0] (kX7_lay l E am (fX7_lay (fX7_records (sI μ 0 0)) a.toNatClampNeg 2 1) a.toNatClampNeg (by omega) 8 (by decide) ((fX7_of (fX7_lay (fX7_records (sI μ 0 0)) a.toNatClampNeg 2 1) a.toNatClampNeg 8) + 1)) caX7_lay q6_139 rfl ⟨Nat.le_of_ble_eq_true rfl, Nat.le_of_ble_eq_true rfl⟩ ⟨Nat.zero_le _, Nat.zero_le _⟩ 0 0 rfl rfl rfl rfl (by decide) rfl rfl rfl rfl (Nat.le_of_ble_eq_true rfl) dX7_sendBack_59 rfl ?_
      refine g_aload_n C dX7_sendBack_62 rfl 0 rfl ?_
      refine g_iload_n C dX7_sendBack_63 rfl 1 rfl ?_
      refine g_bipush C (v := 8) dX7_sendBack_64 (by decide) ?_
      refine g_st (st1 := [.int 8, .int (nI a.toNatClampNeg), .ref (am 0)]) (by rw [← hx_2.1]) ?_
      refine g_callV C (cs1 := [wM E am (fX7_lay (fX7_lay (fX7_records (sI μ 0 0)) a.toNatClampNeg 2 1) a.toNatClampNeg 8 ((fX7_of (fX7_lay (fX7_records (sI μ 0 0)) a.toNatClampNeg 2 1) a.toNatClampNeg 8) + 1))]) (st1 := [.int (fX7_of (fX7_lay (fX7_lay (fX7_records (sI μ 0 0)) a.toNatClampNeg 2 1) a.toNatClampNeg 8 ((fX7_of (fX7_lay (fX7_records (sI μ 0 0)) a.toNatClampNeg 2 1) a.toNatClampNeg 8) + 1)) a.toNatClampNeg 8)]) [.int (nI a.toNatClampNeg), .int 8] [0] (kX7_of l E am (fX7_lay (fX7_lay (fX7_records (sI μ 0 0)) a.toNatClampNeg 2 1) a.toNatClampNeg 8 ((fX7_of (fX7_lay (fX7_records (sI μ 0 0)) a.toNatClampNeg 2 1) a.toNatClampNeg 8) + 1)) a.toNatClampNeg (by omega) 8 (by decide)) caX7_of q6_151 rfl ⟨Nat.le_of_ble_eq_true rfl, Nat.le_of_ble_eq_true rfl⟩ ⟨Nat.zero_le _, Nat.zero_le _⟩ 0 0 rfl rfl rfl rfl (by decide) rfl rfl rfl rfl (Nat.le_of_ble_eq_true rfl) dX7_sendBack_66 rfl ?_
      have e_4 : fX7_sendBack μ a = ((fX7_of (fX7_lay (fX7_lay (fX7_records (sI μ 0 0)) a.toNatClampNeg 2 1) a.toNatClampNeg 8 ((fX7_of (fX7_lay (fX7_records (sI μ 0 0)) a.toNatClampNeg 2 1) a.toNatClampNeg 8) + 1)) a.toNatClampNeg 8), (fX7_lay (fX7_lay (fX7_records (sI μ 0 0)) a.toNatClampNeg 2 1) a.toNatClampNeg 8 ((fX7_of (fX7_lay (fX7_records (sI μ 0 0)) a.toNatClampNeg 2 1) a.toNatClampNeg 8) + 1))) := by rw [fX7_sendBack]; rw [if_pos c_1, if_pos c_3]
      exact g_iret C hE (by rw [e_4]) (by rw [e_4]) dX7_sendBack_69
    · skip
      refine g_aload_n C dX7_sendBack_29 rfl 0 rfl ?_
      refine g_iconst C (v := 2) dX7_sendBack_30 (by decide) ?_
      refine g_callV C (cs1 := [wM E am ((fX7_fails (sI μ 0 0) 2).2)]) (st1 := [.int ((fX7_fails (sI μ 0 0) 2).1)]) [.int 2] [0] (kX7_fails l E am (sI μ 0 0) 2) caX7_fails q6_127 rfl ⟨Nat.le_of_ble_eq_true rfl, Nat.le_of_ble_eq_true rfl⟩ ⟨Nat.zero_le _, Nat.zero_le _⟩ 0 0 rfl rfl rfl rfl (by decide) rfl rfl rfl rfl (Nat.le_of_ble_eq_true rfl) dX7_sendBack_31 rfl ?_
      have e_5 : fX7_sendBack μ a = ((fX7_fails (sI μ 0 0) 2).1, (fX7_fails (sI μ 0 0) 2).2) := by rw [fX7_sendBack]; rw [if_pos c_1, if_neg c_3]
      exact g_iret C hE (by rw [e_5]) (by rw [e_5]) dX7_sendBack_34
  · skip
    refine g_aload_n C dX7_sendBack_13 rfl 0 rfl ?_
    refine g_iconst C (v := 1) dX7_sendBack_14 (by decide) ?_
    refine g_callV C (cs1 := [wM E am ((fX7_fails (sI μ 0 0) 1).2)]) (st1 := [.int ((fX7_fails (sI μ 0 0) 1).1)]) [.int 1] [0] (kX7_fails l E am (sI μ 0 0) 1) caX7_fails q6_127 rfl ⟨Nat.le_of_ble_eq_true rfl, Nat.le_of_ble_eq_true rfl⟩ ⟨Nat.zero_le _, Nat.zero_le _⟩ 0 0 rfl rfl rfl rfl (by decide) rfl rfl rfl rfl (Nat.le_of_ble_eq_true rfl) dX7_sendBack_15 rfl ?_
    have e_6 : fX7_sendBack μ a = ((fX7_fails (sI μ 0 0) 1).1, (fX7_fails (sI μ 0 0) 1).2) := by rw [fX7_sendBack]; rw [if_neg (ne_true_of_eq_false c_1)]
    exact g_iret C hE (by rw [e_6]) (by rw [e_6]) dX7_sendBack_18
def fX7_close (μ : BS) (a : Int32) : Int32 × BS :=
  if (fX7_isTicket (sI μ 0 0) a) = true then (if (fX7_canClose (sI μ 0 0) a.toNatClampNeg) = true then ((fX7_closes (fX7_records (sI μ 0 0)) a.toNatClampNeg).1, (fX7_closes (fX7_records (sI μ 0 0)) a.toNatClampNeg).2) else ((fX7_fails (sI μ 0 0) 2).1, (fX7_fails (sI μ 0 0) 2).2)) else ((fX7_fails (sI μ 0 0) 1).1, (fX7_fails (sI μ 0 0) 1).2)
theorem caX7_close : gCalV yX7_close cX7_close 2 (some .int) 1 := ⟨⟨q7_27, q1_6, by decide +kernel⟩, q7_25, q7_26⟩
set_option maxHeartbeats 4000000 in
set_option maxRecDepth 100000 in
theorem kX7_close (l : Launch) (E : gE) (am : Nat → Nat) (μ : BS) (hv : vM μ)  (a : Int32) : MC l E yX7_close cX7_close 2 (some .int) 6 130 [.ref (am 0), .int a] [wM E am μ] (some (.int (fX7_close μ a).1)) [wM E am ((fX7_close μ a).2)] := by
  have hv1 : cM μ ≤ 20 := hv.1.1
  have hc0 : μ.2 0 0 = nI (cM μ) := hv.1.2.1
  refine mc_of (by decide +kernel) (Nat.le_of_ble_eq_true rfl) (lv := [(0, .ref (am 0)), (1, .int a)]) rfl (fun X C hE => ?_)
  refine g_aload_n C dX7_close_0 rfl 0 rfl ?_
  refine g_iconst C (v := 0) dX7_close_1 (by decide) ?_
  refine g_putf C (T := TX7) (N := 15) (ty := .int) (w1 := wM E am (sI μ 0 0)) (cs1 := [wM E am (sI μ 0 0)]) 0 0 rfl rfl rfl inX7 tyX7_ok nmX7 0 (by decide) q6_70 rfl (by decide +kernel) rfl rfl (Nat.le_of_ble_eq_true rfl) rfl rfl dX7_close_2 ?_
  refine g_aload_n C dX7_close_5 rfl 0 rfl ?_
  refine g_iload_n C dX7_close_6 rfl 1 rfl ?_
  refine g_callV C (cs1 := [wM E am (sI μ 0 0)]) (st1 := [.int (b2i (fX7_isTicket (sI μ 0 0) a))]) [.int a] [0] (kX7_isTicket l E am (sI μ 0 0) a) caX7_isTicket q6_147 rfl ⟨Nat.le_of_ble_eq_true rfl, Nat.le_of_ble_eq_true rfl⟩ ⟨Nat.zero_le _, Nat.zero_le _⟩ 0 0 rfl rfl rfl rfl (by decide) rfl rfl rfl rfl (Nat.le_of_ble_eq_true rfl) dX7_close_7 rfl ?_
  refine g_ifB_ne C 19 dX7_close_10 (by decide) (fun c_1 => ?_) (fun c_1 => ?_)
  · skip
    have hx_2 := isTicket_i (vM_i0 hv) c_1
    refine g_aload_n C dX7_close_19 rfl 0 rfl ?_
    refine g_iload_n C dX7_close_20 rfl 1 rfl ?_
    refine g_st (st1 := [.int (nI a.toNatClampNeg), .ref (am 0)]) (by rw [← hx_2.1]) ?_
    refine g_callV C (cs1 := [wM E am (sI μ 0 0)]) (st1 := [.int (b2i (fX7_canClose (sI μ 0 0) a.toNatClampNeg))]) [.int (nI a.toNatClampNeg)] [0] (kX7_canClose l E am (sI μ 0 0) (vM_i0 hv) a.toNatClampNeg (by omega)) caX7_canClose q7_28 rfl ⟨Nat.le_of_ble_eq_true rfl, Nat.le_of_ble_eq_true rfl⟩ ⟨Nat.zero_le _, Nat.zero_le _⟩ 0 0 rfl rfl rfl rfl (by decide) rfl rfl rfl rfl (Nat.le_of_ble_eq_true rfl) dX7_close_21 rfl ?_
    refine g_ifB_ne C 33 dX7_close_24 (by decide) (fun c_3 => ?_) (fun c_3 => ?_)
    · skip
      refine g_aload_n C dX7_close_33 rfl 0 rfl ?_
      refine g_callV C (cs1 := [wM E am (fX7_records (sI μ 0 0))]) (st1 := []) [] [0] (kX7_records l E am (sI μ 0 0) (vM_i0 hv)) caX7_records q6_131 rfl ⟨Nat.le_of_ble_eq_true rfl, Nat.le_of_ble_eq_true rfl⟩ ⟨Nat.zero_le _, Nat.zero_le _⟩ 0 0 rfl rfl rfl rfl (by decide) rfl rfl rfl rfl (Nat.le_of_ble_eq_true rfl) dX7_close_34 rfl ?_
      refine g_aload_n C dX7_close_37 rfl 0 rfl ?_
      refine g_iload_n C dX7_close_38 rfl 1 rfl ?_
      refine g_st (st1 := [.int (nI a.toNatClampNeg), .ref (am 0)]) (by rw [← hx_2.1]) ?_
      refine g_callV C (cs1 := [wM E am ((fX7_closes (fX7_records (sI μ 0 0)) a.toNatClampNeg).2)]) (st1 := [.int ((fX7_closes (fX7_records (sI μ 0 0)) a.toNatClampNeg).1)]) [.int (nI a.toNatClampNeg)] [0] (kX7_closes l E am (fX7_records (sI μ 0 0)) (vM_records (vM_i0 hv)) a.toNatClampNeg (by omega)) caX7_closes q7_40 rfl ⟨Nat.le_of_ble_eq_true rfl, Nat.le_of_ble_eq_true rfl⟩ ⟨Nat.zero_le _, Nat.zero_le _⟩ 0 0 rfl rfl rfl rfl (by decide) rfl rfl rfl rfl (Nat.le_of_ble_eq_true rfl) dX7_close_39 rfl ?_
      have e_4 : fX7_close μ a = ((fX7_closes (fX7_records (sI μ 0 0)) a.toNatClampNeg).1, (fX7_closes (fX7_records (sI μ 0 0)) a.toNatClampNeg).2) := by rw [fX7_close]; rw [if_pos c_1, if_pos c_3]
      exact g_iret C hE (by rw [e_4]) (by rw [e_4]) dX7_close_42
    · skip
      refine g_aload_n C dX7_close_27 rfl 0 rfl ?_
      refine g_iconst C (v := 2) dX7_close_28 (by decide) ?_
      refine g_callV C (cs1 := [wM E am ((fX7_fails (sI μ 0 0) 2).2)]) (st1 := [.int ((fX7_fails (sI μ 0 0) 2).1)]) [.int 2] [0] (kX7_fails l E am (sI μ 0 0) 2) caX7_fails q6_127 rfl ⟨Nat.le_of_ble_eq_true rfl, Nat.le_of_ble_eq_true rfl⟩ ⟨Nat.zero_le _, Nat.zero_le _⟩ 0 0 rfl rfl rfl rfl (by decide) rfl rfl rfl rfl (Nat.le_of_ble_eq_true rfl) dX7_close_29 rfl ?_
      have e_5 : fX7_close μ a = ((fX7_fails (sI μ 0 0) 2).1, (fX7_fails (sI μ 0 0) 2).2) := by rw [fX7_close]; rw [if_pos c_1, if_neg (ne_true_of_eq_false c_3)]
      exact g_iret C hE (by rw [e_5]) (by rw [e_5]) dX7_close_32
  · skip
    refine g_aload_n C dX7_close_13 rfl 0 rfl ?_
    refine g_iconst C (v := 1) dX7_close_14 (by decide) ?_
    refine g_callV C (cs1 := [wM E am ((fX7_fails (sI μ 0 0) 1).2)]) (st1 := [.int ((fX7_fails (sI μ 0 0) 1).1)]) [.int 1] [0] (kX7_fails l E am (sI μ 0 0) 1) caX7_fails q6_127 rfl ⟨Nat.le_of_ble_eq_true rfl, Nat.le_of_ble_eq_true rfl⟩ ⟨Nat.zero_le _, Nat.zero_le _⟩ 0 0 rfl rfl rfl rfl (by decide) rfl rfl rfl rfl (Nat.le_of_ble_eq_true rfl) dX7_close_15 rfl ?_
    have e_6 : fX7_close μ a = ((fX7_fails (sI μ 0 0) 1).1, (fX7_fails (sI μ 0 0) 1).2) := by rw [fX7_close]; rw [if_neg (ne_true_of_eq_false c_1)]
    exact g_iret C hE (by rw [e_6]) (by rw [e_6]) dX7_close_18
def fX7_reopen (μ : BS) (a : Int32) : Int32 × BS :=
  if (fX7_isTicket (sI μ 0 0) a) = true then (if (fX7_canReopen (sI μ 0 0) a.toNatClampNeg) = true then ((fX7_bits (fX7_blocked (sE (fX7_lay (fX7_lay (fX7_records (sI μ 0 0)) a.toNatClampNeg 2 0) a.toNatClampNeg 6 0) 0 3 (((fX7_lay (fX7_lay (fX7_records (sI μ 0 0)) a.toNatClampNeg 2 0) a.toNatClampNeg 6 0).2 0 3) + 1)))) - (fX7_bits (fX7_blocked (fX7_records (sI μ 0 0)))), sE (fX7_lay (fX7_lay (fX7_records (sI μ 0 0)) a.toNatClampNeg 2 0) a.toNatClampNeg 6 0) 0 3 (((fX7_lay (fX7_lay (fX7_records (sI μ 0 0)) a.toNatClampNeg 2 0) a.toNatClampNeg 6 0).2 0 3) + 1)) else ((fX7_fails (sI μ 0 0) 2).1, (fX7_fails (sI μ 0 0) 2).2)) else ((fX7_fails (sI μ 0 0) 1).1, (fX7_fails (sI μ 0 0) 1).2)
theorem caX7_reopen : gCalV yX7_reopen cX7_reopen 3 (some .int) 1 := ⟨⟨q7_51, q1_6, by decide +kernel⟩, q7_49, q7_50⟩
set_option maxHeartbeats 4000000 in
set_option maxRecDepth 100000 in
theorem kX7_reopen (l : Launch) (E : gE) (am : Nat → Nat) (μ : BS) (hv : vM μ)  (a : Int32) : MC l E yX7_reopen cX7_reopen 3 (some .int) 5 111 [.ref (am 0), .int a] [wM E am μ] (some (.int (fX7_reopen μ a).1)) [wM E am ((fX7_reopen μ a).2)] := by
  have hv1 : cM μ ≤ 20 := hv.1.1
  have hc0 : μ.2 0 0 = nI (cM μ) := hv.1.2.1
  refine mc_of (by decide +kernel) (Nat.le_of_ble_eq_true rfl) (lv := [(0, .ref (am 0)), (1, .int a)]) rfl (fun X C hE => ?_)
  refine g_aload_n C dX7_reopen_0 rfl 0 rfl ?_
  refine g_iconst C (v := 0) dX7_reopen_1 (by decide) ?_
  refine g_putf C (T := TX7) (N := 15) (ty := .int) (w1 := wM E am (sI μ 0 0)) (cs1 := [wM E am (sI μ 0 0)]) 0 0 rfl rfl rfl inX7 tyX7_ok nmX7 0 (by decide) q6_70 rfl (by decide +kernel) rfl rfl (Nat.le_of_ble_eq_true rfl) rfl rfl dX7_reopen_2 ?_
  refine g_aload_n C dX7_reopen_5 rfl 0 rfl ?_
  refine g_iload_n C dX7_reopen_6 rfl 1 rfl ?_
  refine g_callV C (cs1 := [wM E am (sI μ 0 0)]) (st1 := [.int (b2i (fX7_isTicket (sI μ 0 0) a))]) [.int a] [0] (kX7_isTicket l E am (sI μ 0 0) a) caX7_isTicket q6_147 rfl ⟨Nat.le_of_ble_eq_true rfl, Nat.le_of_ble_eq_true rfl⟩ ⟨Nat.zero_le _, Nat.zero_le _⟩ 0 0 rfl rfl rfl rfl (by decide) rfl rfl rfl rfl (Nat.le_of_ble_eq_true rfl) dX7_reopen_7 rfl ?_
  refine g_ifB_ne C 19 dX7_reopen_10 (by decide) (fun c_1 => ?_) (fun c_1 => ?_)
  · skip
    have hx_2 := isTicket_i (vM_i0 hv) c_1
    refine g_aload_n C dX7_reopen_19 rfl 0 rfl ?_
    refine g_iload_n C dX7_reopen_20 rfl 1 rfl ?_
    refine g_st (st1 := [.int (nI a.toNatClampNeg), .ref (am 0)]) (by rw [← hx_2.1]) ?_
    refine g_callV C (cs1 := [wM E am (sI μ 0 0)]) (st1 := [.int (b2i (fX7_canReopen (sI μ 0 0) a.toNatClampNeg))]) [.int (nI a.toNatClampNeg)] [0] (kX7_canReopen l E am (sI μ 0 0) (vM_i0 hv) a.toNatClampNeg (by omega)) caX7_canReopen q7_52 rfl ⟨Nat.le_of_ble_eq_true rfl, Nat.le_of_ble_eq_true rfl⟩ ⟨Nat.zero_le _, Nat.zero_le _⟩ 0 0 rfl rfl rfl rfl (by decide) rfl rfl rfl rfl (Nat.le_of_ble_eq_true rfl) dX7_reopen_21 rfl ?_
    refine g_ifB_ne C 33 dX7_reopen_24 (by decide) (fun c_3 => ?_) (fun c_3 => ?_)
    · skip
      refine g_aload_n C dX7_reopen_33 rfl 0 rfl ?_
      refine g_callV C (cs1 := [wM E am (fX7_records (sI μ 0 0))]) (st1 := []) [] [0] (kX7_records l E am (sI μ 0 0) (vM_i0 hv)) caX7_records q6_131 rfl ⟨Nat.le_of_ble_eq_true rfl, Nat.le_of_ble_eq_true rfl⟩ ⟨Nat.zero_le _, Nat.zero_le _⟩ 0 0 rfl rfl rfl rfl (by decide) rfl rfl rfl rfl (Nat.le_of_ble_eq_true rfl) dX7_reopen_34 rfl ?_
      refine g_aload_n C dX7_reopen_37 rfl 0 rfl ?_
      refine g_callV C (cs1 := [wM E am (fX7_records (sI μ 0 0))]) (st1 := [.int (fX7_blocked (fX7_records (sI μ 0 0)))]) [] [0] (kX7_blocked l E am (fX7_records (sI μ 0 0)) (vM_records (vM_i0 hv))) caX7_blocked q7_44 rfl ⟨Nat.le_of_ble_eq_true rfl, Nat.le_of_ble_eq_true rfl⟩ ⟨Nat.zero_le _, Nat.zero_le _⟩ 0 0 rfl rfl rfl rfl (by decide) rfl rfl rfl rfl (Nat.le_of_ble_eq_true rfl) dX7_reopen_38 rfl ?_
      refine g_callS C (cs1 := [wM E am (fX7_records (sI μ 0 0))]) (st1 := [.int (fX7_bits (fX7_blocked (fX7_records (sI μ 0 0))))]) [.int (fX7_blocked (fX7_records (sI μ 0 0)))] [] (kX7_bits l E (fX7_blocked (fX7_records (sI μ 0 0)))) caX7_bits q6_191 rfl ⟨Nat.le_of_ble_eq_true rfl, Nat.le_of_ble_eq_true rfl⟩ ⟨Nat.zero_le _, Nat.zero_le _⟩ (by decide) rfl rfl rfl rfl (Nat.le_of_ble_eq_true rfl) dX7_reopen_41 rfl ?_
      refine g_istore_n C (lv1 := [(2, .int (fX7_bits (fX7_blocked (fX7_records (sI μ 0 0))))), (0, .ref (am 0)), (1, .int a)]) dX7_reopen_44 rfl (by decide) rfl ?_
      refine g_aload_n C dX7_reopen_45 rfl 1 rfl ?_
      refine g_iload_n C dX7_reopen_46 rfl 2 rfl ?_
      refine g_iconst C (v := 2) dX7_reopen_47 (by decide) ?_
      refine g_iconst C (v := 0) dX7_reopen_48 (by decide) ?_
      refine g_st (st1 := [.int 0, .int 2, .int (nI a.toNatClampNeg), .ref (am 0)]) (by rw [← hx_2.1]) ?_
      refine g_callV C (cs1 := [wM E am (fX7_lay (fX7_records (sI μ 0 0)) a.toNatClampNeg 2 0)]) (st1 := []) [.int (nI a.toNatClampNeg), .int 2, .int 0] [0] (kX7_lay l E am (fX7_records (sI μ 0 0)) a.toNatClampNeg (by omega) 2 (by decide) 0) caX7_lay q6_139 rfl ⟨Nat.le_of_ble_eq_true rfl, Nat.le_of_ble_eq_true rfl⟩ ⟨Nat.zero_le _, Nat.zero_le _⟩ 0 0 rfl rfl rfl rfl (by decide) rfl rfl rfl rfl (Nat.le_of_ble_eq_true rfl) dX7_reopen_49 rfl ?_
      refine g_aload_n C dX7_reopen_52 rfl 1 rfl ?_
      refine g_iload_n C dX7_reopen_53 rfl 2 rfl ?_
      refine g_bipush C (v := 6) dX7_reopen_54 (by decide) ?_
      refine g_iconst C (v := 0) dX7_reopen_56 (by decide) ?_
      refine g_st (st1 := [.int 0, .int 6, .int (nI a.toNatClampNeg), .ref (am 0)]) (by rw [← hx_2.1]) ?_
      refine g_callV C (cs1 := [wM E am (fX7_lay (fX7_lay (fX7_records (sI μ 0 0)) a.toNatClampNeg 2 0) a.toNatClampNeg 6 0)]) (st1 := []) [.int (nI a.toNatClampNeg), .int 6, .int 0] [0] (kX7_lay l E am (fX7_lay (fX7_records (sI μ 0 0)) a.toNatClampNeg 2 0) a.toNatClampNeg (by omega) 6 (by decide) 0) caX7_lay q6_139 rfl ⟨Nat.le_of_ble_eq_true rfl, Nat.le_of_ble_eq_true rfl⟩ ⟨Nat.zero_le _, Nat.zero_le _⟩ 0 0 rfl rfl rfl rfl (by decide) rfl rfl rfl rfl (Nat.le_of_ble_eq_true rfl) dX7_reopen_57 rfl ?_
      refine g_aload_n C dX7_reopen_60 rfl 1 rfl ?_
      refine g_getf C (T := TX7) (N := 15) 0 0 rfl rfl rfl inX7 1 (by decide) q6_71 rfl dX7_reopen_61 ?_
      refine g_iconst C (v := 3) dX7_reopen_64 (by decide) ?_
      refine g_dup2 C dX7_reopen_65 rfl rfl ?_
      refine g_ialdn C 0 1 3 rfl rfl rfl (by decide) (by decide) dX7_reopen_66 ?_
      refine g_iconst C (v := 1) dX7_reopen_67 (by decide) ?_
      refine g_iadd C dX7_reopen_68 ?_
      refine g_iastn C (w1 := wM E am (sE (fX7_lay (fX7_lay (fX7_records (sI μ 0 0)) a.toNatClampNeg 2 0) a.toNatClampNeg 6 0) 0 3 (((fX7_lay (fX7_lay (fX7_records (sI μ 0 0)) a.toNatClampNeg 2 0) a.toNatClampNeg 6 0).2 0 3) + 1))) (cs1 := [wM E am (sE (fX7_lay (fX7_lay (fX7_records (sI μ 0 0)) a.toNatClampNeg 2 0) a.toNatClampNeg 6 0) 0 3 (((fX7_lay (fX7_lay (fX7_records (sI μ 0 0)) a.toNatClampNeg 2 0) a.toNatClampNeg 6 0).2 0 3) + 1))]) 0 1 3 rfl rfl rfl (by decide) (by decide) rfl rfl dX7_reopen_69 ?_
      refine g_aload_n C dX7_reopen_70 rfl 1 rfl ?_
      refine g_callV C (cs1 := [wM E am (sE (fX7_lay (fX7_lay (fX7_records (sI μ 0 0)) a.toNatClampNeg 2 0) a.toNatClampNeg 6 0) 0 3 (((fX7_lay (fX7_lay (fX7_records (sI μ 0 0)) a.toNatClampNeg 2 0) a.toNatClampNeg 6 0).2 0 3) + 1))]) (st1 := [.int (fX7_blocked (sE (fX7_lay (fX7_lay (fX7_records (sI μ 0 0)) a.toNatClampNeg 2 0) a.toNatClampNeg 6 0) 0 3 (((fX7_lay (fX7_lay (fX7_records (sI μ 0 0)) a.toNatClampNeg 2 0) a.toNatClampNeg 6 0).2 0 3) + 1)))]) [] [0] (kX7_blocked l E am (sE (fX7_lay (fX7_lay (fX7_records (sI μ 0 0)) a.toNatClampNeg 2 0) a.toNatClampNeg 6 0) 0 3 (((fX7_lay (fX7_lay (fX7_records (sI μ 0 0)) a.toNatClampNeg 2 0) a.toNatClampNeg 6 0).2 0 3) + 1)) (vM_lowD (vM_lay (vM_lay (vM_records (vM_i0 hv)) (by decide) (fun e => absurd e (by decide)) (fun e => absurd e (by decide))) (by decide) (fun e => absurd e (by decide)) (fun e => absurd e (by decide))) rfl)) caX7_blocked q7_44 rfl ⟨Nat.le_of_ble_eq_true rfl, Nat.le_of_ble_eq_true rfl⟩ ⟨Nat.zero_le _, Nat.zero_le _⟩ 0 0 rfl rfl rfl rfl (by decide) rfl rfl rfl rfl (Nat.le_of_ble_eq_true rfl) dX7_reopen_71 rfl ?_
      refine g_callS C (cs1 := [wM E am (sE (fX7_lay (fX7_lay (fX7_records (sI μ 0 0)) a.toNatClampNeg 2 0) a.toNatClampNeg 6 0) 0 3 (((fX7_lay (fX7_lay (fX7_records (sI μ 0 0)) a.toNatClampNeg 2 0) a.toNatClampNeg 6 0).2 0 3) + 1))]) (st1 := [.int (fX7_bits (fX7_blocked (sE (fX7_lay (fX7_lay (fX7_records (sI μ 0 0)) a.toNatClampNeg 2 0) a.toNatClampNeg 6 0) 0 3 (((fX7_lay (fX7_lay (fX7_records (sI μ 0 0)) a.toNatClampNeg 2 0) a.toNatClampNeg 6 0).2 0 3) + 1))))]) [.int (fX7_blocked (sE (fX7_lay (fX7_lay (fX7_records (sI μ 0 0)) a.toNatClampNeg 2 0) a.toNatClampNeg 6 0) 0 3 (((fX7_lay (fX7_lay (fX7_records (sI μ 0 0)) a.toNatClampNeg 2 0) a.toNatClampNeg 6 0).2 0 3) + 1)))] [] (kX7_bits l E (fX7_blocked (sE (fX7_lay (fX7_lay (fX7_records (sI μ 0 0)) a.toNatClampNeg 2 0) a.toNatClampNeg 6 0) 0 3 (((fX7_lay (fX7_lay (fX7_records (sI μ 0 0)) a.toNatClampNeg 2 0) a.toNatClampNeg 6 0).2 0 3) + 1)))) caX7_bits q6_191 rfl ⟨Nat.le_of_ble_eq_true rfl, Nat.le_of_ble_eq_true rfl⟩ ⟨Nat.zero_le _, Nat.zero_le _⟩ (by decide) rfl rfl rfl rfl (Nat.le_of_ble_eq_true rfl) dX7_reopen_74 rfl ?_
      refine g_iload_n C dX7_reopen_77 rfl 0 rfl ?_
      refine g_isub C dX7_reopen_78 ?_
      have e_4 : fX7_reopen μ a = ((fX7_bits (fX7_blocked (sE (fX7_lay (fX7_lay (fX7_records (sI μ 0 0)) a.toNatClampNeg 2 0) a.toNatClampNeg 6 0) 0 3 (((fX7_lay (fX7_lay (fX7_records (sI μ 0 0)) a.toNatClampNeg 2 0) a.toNatClampNeg 6 0).2 0 3) + 1)))) - (fX7_bits (fX7_blocked (fX7_records (sI μ 0 0)))), sE (fX7_lay (fX7_lay (fX7_records (sI μ 0 0)) a.toNatClampNeg 2 0) a.toNatClampNeg 6 0) 0 3 (((fX7_lay (fX7_lay (fX7_records (sI μ 0 0)) a.toNatClampNeg 2 0) a.toNatClampNeg 6 0).2 0 3) + 1)) := by rw [fX7_reopen]; rw [if_pos c_1, if_pos c_3]
      exact g_iret C hE (by rw [e_4]) (by rw [e_4]) dX7_reopen_79
    · skip
      refine g_aload_n C dX7_reopen_27 rfl 0 rfl ?_
      refine g_iconst C (v := 2) dX7_reopen_28 (by decide) ?_
      refine g_callV C (cs1 := [wM E am ((fX7_fails (sI μ 0 0) 2).2)]) (st1 := [.int ((fX7_fails (sI μ 0 0) 2).1)]) [.int 2] [0] (kX7_fails l E am (sI μ 0 0) 2) caX7_fails q6_127 rfl ⟨Nat.le_of_ble_eq_true rfl, Nat.le_of_ble_eq_true rfl⟩ ⟨Nat.zero_le _, Nat.zero_le _⟩ 0 0 rfl rfl rfl rfl (by decide) rfl rfl rfl rfl (Nat.le_of_ble_eq_true rfl) dX7_reopen_29 rfl ?_
      have e_5 : fX7_reopen μ a = ((fX7_fails (sI μ 0 0) 2).1, (fX7_fails (sI μ 0 0) 2).2) := by rw [fX7_reopen]; rw [if_pos c_1, if_neg (ne_true_of_eq_false c_3)]
      exact g_iret C hE (by rw [e_5]) (by rw [e_5]) dX7_reopen_32
  · skip
    refine g_aload_n C dX7_reopen_13 rfl 0 rfl ?_
    refine g_iconst C (v := 1) dX7_reopen_14 (by decide) ?_
    refine g_callV C (cs1 := [wM E am ((fX7_fails (sI μ 0 0) 1).2)]) (st1 := [.int ((fX7_fails (sI μ 0 0) 1).1)]) [.int 1] [0] (kX7_fails l E am (sI μ 0 0) 1) caX7_fails q6_127 rfl ⟨Nat.le_of_ble_eq_true rfl, Nat.le_of_ble_eq_true rfl⟩ ⟨Nat.zero_le _, Nat.zero_le _⟩ 0 0 rfl rfl rfl rfl (by decide) rfl rfl rfl rfl (Nat.le_of_ble_eq_true rfl) dX7_reopen_15 rfl ?_
    have e_6 : fX7_reopen μ a = ((fX7_fails (sI μ 0 0) 1).1, (fX7_fails (sI μ 0 0) 1).2) := by rw [fX7_reopen]; rw [if_neg (ne_true_of_eq_false c_1)]
    exact g_iret C hE (by rw [e_6]) (by rw [e_6]) dX7_reopen_18
def fX7_drop (μ : BS) (a : Int32) : Int32 × BS :=
  if (fX7_isTicket (sI μ 0 0) a) = true then (if (fX7_isLeft (sI μ 0 0) a.toNatClampNeg) = true then ((fX7_bits (fX7_blocked (fX7_records (sI μ 0 0)))) - (fX7_bits (fX7_blocked (fX7_lay (fX7_records (sI μ 0 0)) a.toNatClampNeg 2 4))), (fX7_lay (fX7_records (sI μ 0 0)) a.toNatClampNeg 2 4)) else ((fX7_fails (sI μ 0 0) 2).1, (fX7_fails (sI μ 0 0) 2).2)) else ((fX7_fails (sI μ 0 0) 1).1, (fX7_fails (sI μ 0 0) 1).2)
theorem caX7_drop : gCalV yX7_drop cX7_drop 3 (some .int) 1 := ⟨⟨q7_59, q1_6, by decide +kernel⟩, q7_57, q7_58⟩
set_option maxHeartbeats 4000000 in
set_option maxRecDepth 100000 in
theorem kX7_drop (l : Launch) (E : gE) (am : Nat → Nat) (μ : BS) (hv : vM μ)  (a : Int32) : MC l E yX7_drop cX7_drop 3 (some .int) 5 108 [.ref (am 0), .int a] [wM E am μ] (some (.int (fX7_drop μ a).1)) [wM E am ((fX7_drop μ a).2)] := by
  have hv1 : cM μ ≤ 20 := hv.1.1
  have hc0 : μ.2 0 0 = nI (cM μ) := hv.1.2.1
  refine mc_of (by decide +kernel) (Nat.le_of_ble_eq_true rfl) (lv := [(0, .ref (am 0)), (1, .int a)]) rfl (fun X C hE => ?_)
  refine g_aload_n C dX7_drop_0 rfl 0 rfl ?_
  refine g_iconst C (v := 0) dX7_drop_1 (by decide) ?_
  refine g_putf C (T := TX7) (N := 15) (ty := .int) (w1 := wM E am (sI μ 0 0)) (cs1 := [wM E am (sI μ 0 0)]) 0 0 rfl rfl rfl inX7 tyX7_ok nmX7 0 (by decide) q6_70 rfl (by decide +kernel) rfl rfl (Nat.le_of_ble_eq_true rfl) rfl rfl dX7_drop_2 ?_
  refine g_aload_n C dX7_drop_5 rfl 0 rfl ?_
  refine g_iload_n C dX7_drop_6 rfl 1 rfl ?_
  refine g_callV C (cs1 := [wM E am (sI μ 0 0)]) (st1 := [.int (b2i (fX7_isTicket (sI μ 0 0) a))]) [.int a] [0] (kX7_isTicket l E am (sI μ 0 0) a) caX7_isTicket q6_147 rfl ⟨Nat.le_of_ble_eq_true rfl, Nat.le_of_ble_eq_true rfl⟩ ⟨Nat.zero_le _, Nat.zero_le _⟩ 0 0 rfl rfl rfl rfl (by decide) rfl rfl rfl rfl (Nat.le_of_ble_eq_true rfl) dX7_drop_7 rfl ?_
  refine g_ifB_ne C 19 dX7_drop_10 (by decide) (fun c_1 => ?_) (fun c_1 => ?_)
  · skip
    have hx_2 := isTicket_i (vM_i0 hv) c_1
    refine g_aload_n C dX7_drop_19 rfl 0 rfl ?_
    refine g_iload_n C dX7_drop_20 rfl 1 rfl ?_
    refine g_st (st1 := [.int (nI a.toNatClampNeg), .ref (am 0)]) (by rw [← hx_2.1]) ?_
    refine g_callV C (cs1 := [wM E am (sI μ 0 0)]) (st1 := [.int (b2i (fX7_isLeft (sI μ 0 0) a.toNatClampNeg))]) [.int (nI a.toNatClampNeg)] [0] (kX7_isLeft l E am (sI μ 0 0) a.toNatClampNeg (by omega)) caX7_isLeft q6_155 rfl ⟨Nat.le_of_ble_eq_true rfl, Nat.le_of_ble_eq_true rfl⟩ ⟨Nat.zero_le _, Nat.zero_le _⟩ 0 0 rfl rfl rfl rfl (by decide) rfl rfl rfl rfl (Nat.le_of_ble_eq_true rfl) dX7_drop_21 rfl ?_
    refine g_ifB_ne C 33 dX7_drop_24 (by decide) (fun c_3 => ?_) (fun c_3 => ?_)
    · skip
      refine g_aload_n C dX7_drop_33 rfl 0 rfl ?_
      refine g_callV C (cs1 := [wM E am (fX7_records (sI μ 0 0))]) (st1 := []) [] [0] (kX7_records l E am (sI μ 0 0) (vM_i0 hv)) caX7_records q6_131 rfl ⟨Nat.le_of_ble_eq_true rfl, Nat.le_of_ble_eq_true rfl⟩ ⟨Nat.zero_le _, Nat.zero_le _⟩ 0 0 rfl rfl rfl rfl (by decide) rfl rfl rfl rfl (Nat.le_of_ble_eq_true rfl) dX7_drop_34 rfl ?_
      refine g_aload_n C dX7_drop_37 rfl 0 rfl ?_
      refine g_callV C (cs1 := [wM E am (fX7_records (sI μ 0 0))]) (st1 := [.int (fX7_blocked (fX7_records (sI μ 0 0)))]) [] [0] (kX7_blocked l E am (fX7_records (sI μ 0 0)) (vM_records (vM_i0 hv))) caX7_blocked q7_44 rfl ⟨Nat.le_of_ble_eq_true rfl, Nat.le_of_ble_eq_true rfl⟩ ⟨Nat.zero_le _, Nat.zero_le _⟩ 0 0 rfl rfl rfl rfl (by decide) rfl rfl rfl rfl (Nat.le_of_ble_eq_true rfl) dX7_drop_38 rfl ?_
      refine g_callS C (cs1 := [wM E am (fX7_records (sI μ 0 0))]) (st1 := [.int (fX7_bits (fX7_blocked (fX7_records (sI μ 0 0))))]) [.int (fX7_blocked (fX7_records (sI μ 0 0)))] [] (kX7_bits l E (fX7_blocked (fX7_records (sI μ 0 0)))) caX7_bits q6_191 rfl ⟨Nat.le_of_ble_eq_true rfl, Nat.le_of_ble_eq_true rfl⟩ ⟨Nat.zero_le _, Nat.zero_le _⟩ (by decide) rfl rfl rfl rfl (Nat.le_of_ble_eq_true rfl) dX7_drop_41 rfl ?_
      refine g_istore_n C (lv1 := [(2, .int (fX7_bits (fX7_blocked (fX7_records (sI μ 0 0))))), (0, .ref (am 0)), (1, .int a)]) dX7_drop_44 rfl (by decide) rfl ?_
      refine g_aload_n C dX7_drop_45 rfl 1 rfl ?_
      refine g_iload_n C dX7_drop_46 rfl 2 rfl ?_
      refine g_iconst C (v := 2) dX7_drop_47 (by decide) ?_
      refine g_iconst C (v := 4) dX7_drop_48 (by decide) ?_
      refine g_st (st1 := [.int 4, .int 2, .int (nI a.toNatClampNeg), .ref (am 0)]) (by rw [← hx_2.1]) ?_
      refine g_callV C (cs1 := [wM E am (fX7_lay (fX7_records (sI μ 0 0)) a.toNatClampNeg 2 4)]) (st1 := []) [.int (nI a.toNatClampNeg), .int 2, .int 4] [0] (kX7_lay l E am (fX7_records (sI μ 0 0)) a.toNatClampNeg (by omega) 2 (by decide) 4) caX7_lay q6_139 rfl ⟨Nat.le_of_ble_eq_true rfl, Nat.le_of_ble_eq_true rfl⟩ ⟨Nat.zero_le _, Nat.zero_le _⟩ 0 0 rfl rfl rfl rfl (by decide) rfl rfl rfl rfl (Nat.le_of_ble_eq_true rfl) dX7_drop_49 rfl ?_
      refine g_iload_n C dX7_drop_52 rfl 0 rfl ?_
      refine g_aload_n C dX7_drop_53 rfl 1 rfl ?_
      refine g_callV C (cs1 := [wM E am (fX7_lay (fX7_records (sI μ 0 0)) a.toNatClampNeg 2 4)]) (st1 := [.int (fX7_blocked (fX7_lay (fX7_records (sI μ 0 0)) a.toNatClampNeg 2 4)), .int (fX7_bits (fX7_blocked (fX7_records (sI μ 0 0))))]) [] [0] (kX7_blocked l E am (fX7_lay (fX7_records (sI μ 0 0)) a.toNatClampNeg 2 4) (vM_layD (vM_records (vM_i0 hv)) rfl)) caX7_blocked q7_44 rfl ⟨Nat.le_of_ble_eq_true rfl, Nat.le_of_ble_eq_true rfl⟩ ⟨Nat.zero_le _, Nat.zero_le _⟩ 0 0 rfl rfl rfl rfl (by decide) rfl rfl rfl rfl (Nat.le_of_ble_eq_true rfl) dX7_drop_54 rfl ?_
      refine g_callS C (cs1 := [wM E am (fX7_lay (fX7_records (sI μ 0 0)) a.toNatClampNeg 2 4)]) (st1 := [.int (fX7_bits (fX7_blocked (fX7_lay (fX7_records (sI μ 0 0)) a.toNatClampNeg 2 4))), .int (fX7_bits (fX7_blocked (fX7_records (sI μ 0 0))))]) [.int (fX7_blocked (fX7_lay (fX7_records (sI μ 0 0)) a.toNatClampNeg 2 4))] [] (kX7_bits l E (fX7_blocked (fX7_lay (fX7_records (sI μ 0 0)) a.toNatClampNeg 2 4))) caX7_bits q6_191 rfl ⟨Nat.le_of_ble_eq_true rfl, Nat.le_of_ble_eq_true rfl⟩ ⟨Nat.zero_le _, Nat.zero_le _⟩ (by decide) rfl rfl rfl rfl (Nat.le_of_ble_eq_true rfl) dX7_drop_57 rfl ?_
      refine g_isub C dX7_drop_60 ?_
      have e_4 : fX7_drop μ a = ((fX7_bits (fX7_blocked (fX7_records (sI μ 0 0)))) - (fX7_bits (fX7_blocked (fX7_lay (fX7_records (sI μ 0 0)) a.toNatClampNeg 2 4))), (fX7_lay (fX7_records (sI μ 0 0)) a.toNatClampNeg 2 4)) := by rw [fX7_drop]; rw [if_pos c_1, if_pos c_3]
      exact g_iret C hE (by rw [e_4]) (by rw [e_4]) dX7_drop_61
    · skip
      refine g_aload_n C dX7_drop_27 rfl 0 rfl ?_
      refine g_iconst C (v := 2) dX7_drop_28 (by decide) ?_
      refine g_callV C (cs1 := [wM E am ((fX7_fails (sI μ 0 0) 2).2)]) (st1 := [.int ((fX7_fails (sI μ 0 0) 2).1)]) [.int 2] [0] (kX7_fails l E am (sI μ 0 0) 2) caX7_fails q6_127 rfl ⟨Nat.le_of_ble_eq_true rfl, Nat.le_of_ble_eq_true rfl⟩ ⟨Nat.zero_le _, Nat.zero_le _⟩ 0 0 rfl rfl rfl rfl (by decide) rfl rfl rfl rfl (Nat.le_of_ble_eq_true rfl) dX7_drop_29 rfl ?_
      have e_5 : fX7_drop μ a = ((fX7_fails (sI μ 0 0) 2).1, (fX7_fails (sI μ 0 0) 2).2) := by rw [fX7_drop]; rw [if_pos c_1, if_neg (ne_true_of_eq_false c_3)]
      exact g_iret C hE (by rw [e_5]) (by rw [e_5]) dX7_drop_32
  · skip
    refine g_aload_n C dX7_drop_13 rfl 0 rfl ?_
    refine g_iconst C (v := 1) dX7_drop_14 (by decide) ?_
    refine g_callV C (cs1 := [wM E am ((fX7_fails (sI μ 0 0) 1).2)]) (st1 := [.int ((fX7_fails (sI μ 0 0) 1).1)]) [.int 1] [0] (kX7_fails l E am (sI μ 0 0) 1) caX7_fails q6_127 rfl ⟨Nat.le_of_ble_eq_true rfl, Nat.le_of_ble_eq_true rfl⟩ ⟨Nat.zero_le _, Nat.zero_le _⟩ 0 0 rfl rfl rfl rfl (by decide) rfl rfl rfl rfl (Nat.le_of_ble_eq_true rfl) dX7_drop_15 rfl ?_
    have e_6 : fX7_drop μ a = ((fX7_fails (sI μ 0 0) 1).1, (fX7_fails (sI μ 0 0) 1).2) := by rw [fX7_drop]; rw [if_neg (ne_true_of_eq_false c_1)]
    exact g_iret C hE (by rw [e_6]) (by rw [e_6]) dX7_drop_18
theorem tl_lt {μ : BS} (hv : vM μ) (h : ¬ μ.1 2 = 60) : tl μ < 60 := by
  have h1 := hv.2.2.1.1
  have h2 := hv.2.2.1.2
  rcases Nat.lt_or_ge (tl μ) 60 with c | c
  · exact c
  · exact absurd (by rw [h2, show tl μ = 60 by omega]; rfl) h
def fX7_append (μ : BS) (a : Int32) : Int32 × BS :=
  if (fX7_in a 33 126) = true then (if (μ.1 2) = 60 then ((fX7_fails (sI μ 0 0) 2).1, (fX7_fails (sI μ 0 0) 2).2) else ((μ.1 2) + 1, sI (sE (sI μ 0 0) 5 (tl μ) a) 2 ((μ.1 2) + 1))) else ((fX7_fails (sI μ 0 0) 1).1, (fX7_fails (sI μ 0 0) 1).2)
theorem caX7_append : gCalV yX7_append cX7_append 2 (some .int) 1 := ⟨⟨q7_63, q1_6, by decide +kernel⟩, q7_61, q7_62⟩
set_option maxHeartbeats 4000000 in
set_option maxRecDepth 100000 in
theorem kX7_append (l : Launch) (E : gE) (am : Nat → Nat) (μ : BS) (hv : vM μ)  (a : Int32) : MC l E yX7_append cX7_append 2 (some .int) 1 22 [.ref (am 0), .int a] [wM E am μ] (some (.int (fX7_append μ a).1)) [wM E am ((fX7_append μ a).2)] := by
  have hv1 : cM μ ≤ 20 := hv.1.1
  have hc0 : μ.2 0 0 = nI (cM μ) := hv.1.2.1
  have hl2 := hv.2.2.1.2
  refine mc_of (by decide +kernel) (Nat.le_of_ble_eq_true rfl) (lv := [(0, .ref (am 0)), (1, .int a)]) rfl (fun X C hE => ?_)
  refine g_aload_n C dX7_append_0 rfl 0 rfl ?_
  refine g_iconst C (v := 0) dX7_append_1 (by decide) ?_
  refine g_putf C (T := TX7) (N := 15) (ty := .int) (w1 := wM E am (sI μ 0 0)) (cs1 := [wM E am (sI μ 0 0)]) 0 0 rfl rfl rfl inX7 tyX7_ok nmX7 0 (by decide) q6_70 rfl (by decide +kernel) rfl rfl (Nat.le_of_ble_eq_true rfl) rfl rfl dX7_append_2 ?_
  refine g_iload_n C dX7_append_5 rfl 1 rfl ?_
  refine g_bipush C (v := 33) dX7_append_6 (by decide) ?_
  refine g_bipush C (v := 126) dX7_append_8 (by decide) ?_
  refine g_callS C (cs1 := [wM E am (sI μ 0 0)]) (st1 := [.int (b2i (fX7_in a 33 126))]) [.int a, .int 33, .int 126] [] (kX7_in l E a 33 126) caX7_in q6_124 rfl ⟨Nat.le_of_ble_eq_true rfl, Nat.le_of_ble_eq_true rfl⟩ ⟨Nat.zero_le _, Nat.zero_le _⟩ (by decide) rfl rfl rfl rfl (Nat.le_of_ble_eq_true rfl) dX7_append_10 rfl ?_
  refine g_ifB_ne C 22 dX7_append_13 (by decide) (fun c_1 => ?_) (fun c_1 => ?_)
  · skip
    refine g_aload_n C dX7_append_22 rfl 0 rfl ?_
    refine g_getf C (v := .int (μ.1 2)) (T := TX7) (N := 15) 0 0 rfl rfl rfl inX7 8 (by decide) q6_78 rfl dX7_append_23 ?_
    refine g_bipush C (v := 60) dX7_append_26 (by decide) ?_
    refine g_icmp_ne C 37 dX7_append_28 (by decide) (fun c_2 => ?_) (fun c_2 => ?_)
    · skip
      have hl9 := tl_lt hv c_2
      refine g_aload_n C dX7_append_37 rfl 0 rfl ?_
      refine g_getf C (T := TX7) (N := 15) 0 0 rfl rfl rfl inX7 7 (by decide) q6_77 rfl dX7_append_38 ?_
      refine g_aload_n C dX7_append_41 rfl 0 rfl ?_
      refine g_getf C (v := .int (μ.1 2)) (T := TX7) (N := 15) 0 0 rfl rfl rfl inX7 8 (by decide) q6_78 rfl dX7_append_42 ?_
      refine g_iload_n C dX7_append_45 rfl 1 rfl ?_
      refine g_iastn C (w1 := wM E am (sE (sI μ 0 0) 5 (tl μ) a)) (cs1 := [wM E am (sE (sI μ 0 0) 5 (tl μ) a)]) 0 6 (tl μ) rfl rfl hl2 hl9 (by decide) rfl rfl dX7_append_46 ?_
      refine g_aload_n C dX7_append_47 rfl 0 rfl ?_
      refine g_dup C dX7_append_48 rfl ?_
      refine g_getf C (v := .int (μ.1 2)) (T := TX7) (N := 15) 0 0 rfl rfl rfl inX7 8 (by decide) q6_78 rfl dX7_append_49 ?_
      refine g_iconst C (v := 1) dX7_append_52 (by decide) ?_
      refine g_iadd C dX7_append_53 ?_
      refine g_putf C (T := TX7) (N := 15) (ty := .int) (w1 := wM E am (sI (sE (sI μ 0 0) 5 (tl μ) a) 2 ((μ.1 2) + 1))) (cs1 := [wM E am (sI (sE (sI μ 0 0) 5 (tl μ) a) 2 ((μ.1 2) + 1))]) 0 0 rfl rfl rfl inX7 tyX7_ok nmX7 8 (by decide) q6_78 rfl (by decide +kernel) rfl rfl (Nat.le_of_ble_eq_true rfl) rfl rfl dX7_append_54 ?_
      refine g_aload_n C dX7_append_57 rfl 0 rfl ?_
      refine g_getf C (v := .int ((μ.1 2) + 1)) (T := TX7) (N := 15) 0 0 rfl rfl rfl inX7 8 (by decide) q6_78 rfl dX7_append_58 ?_
      have e_3 : fX7_append μ a = ((μ.1 2) + 1, sI (sE (sI μ 0 0) 5 (tl μ) a) 2 ((μ.1 2) + 1)) := by rw [fX7_append]; rw [if_pos c_1, if_neg c_2]
      exact g_iret C hE (by rw [e_3]) (by rw [e_3]) dX7_append_61
    · skip
      refine g_aload_n C dX7_append_31 rfl 0 rfl ?_
      refine g_iconst C (v := 2) dX7_append_32 (by decide) ?_
      refine g_callV C (cs1 := [wM E am ((fX7_fails (sI μ 0 0) 2).2)]) (st1 := [.int ((fX7_fails (sI μ 0 0) 2).1)]) [.int 2] [0] (kX7_fails l E am (sI μ 0 0) 2) caX7_fails q6_127 rfl ⟨Nat.le_of_ble_eq_true rfl, Nat.le_of_ble_eq_true rfl⟩ ⟨Nat.zero_le _, Nat.zero_le _⟩ 0 0 rfl rfl rfl rfl (by decide) rfl rfl rfl rfl (Nat.le_of_ble_eq_true rfl) dX7_append_33 rfl ?_
      have e_4 : fX7_append μ a = ((fX7_fails (sI μ 0 0) 2).1, (fX7_fails (sI μ 0 0) 2).2) := by rw [fX7_append]; rw [if_pos c_1, if_pos c_2]
      exact g_iret C hE (by rw [e_4]) (by rw [e_4]) dX7_append_36
  · skip
    refine g_aload_n C dX7_append_16 rfl 0 rfl ?_
    refine g_iconst C (v := 1) dX7_append_17 (by decide) ?_
    refine g_callV C (cs1 := [wM E am ((fX7_fails (sI μ 0 0) 1).2)]) (st1 := [.int ((fX7_fails (sI μ 0 0) 1).1)]) [.int 1] [0] (kX7_fails l E am (sI μ 0 0) 1) caX7_fails q6_127 rfl ⟨Nat.le_of_ble_eq_true rfl, Nat.le_of_ble_eq_true rfl⟩ ⟨Nat.zero_le _, Nat.zero_le _⟩ 0 0 rfl rfl rfl rfl (by decide) rfl rfl rfl rfl (Nat.le_of_ble_eq_true rfl) dX7_append_18 rfl ?_
    have e_5 : fX7_append μ a = ((fX7_fails (sI μ 0 0) 1).1, (fX7_fails (sI μ 0 0) 1).2) := by rw [fX7_append]; rw [if_neg (ne_true_of_eq_false c_1)]
    exact g_iret C hE (by rw [e_5]) (by rw [e_5]) dX7_append_21
def fX7_clearBuffer (μ : BS) : Int32 × BS :=
  (μ.1 2, sI (sI μ 0 0) 2 0)
theorem caX7_clearBuffer : gCalV yX7_clearBuffer cX7_clearBuffer 2 (some .int) 0 := ⟨⟨q7_67, q1_6, by decide +kernel⟩, q7_65, q7_66⟩
set_option maxHeartbeats 4000000 in
set_option maxRecDepth 100000 in
theorem kX7_clearBuffer (l : Launch) (E : gE) (am : Nat → Nat) (μ : BS)   : MC l E yX7_clearBuffer cX7_clearBuffer 2 (some .int) 0 0 [.ref (am 0)] [wM E am μ] (some (.int (fX7_clearBuffer μ).1)) [wM E am ((fX7_clearBuffer μ).2)] := by
  refine mc_of (by decide +kernel) (Nat.le_of_ble_eq_true rfl) (lv := [(0, .ref (am 0))]) rfl (fun X C hE => ?_)
  refine g_aload_n C dX7_clearBuffer_0 rfl 0 rfl ?_
  refine g_iconst C (v := 0) dX7_clearBuffer_1 (by decide) ?_
  refine g_putf C (T := TX7) (N := 15) (ty := .int) (w1 := wM E am (sI μ 0 0)) (cs1 := [wM E am (sI μ 0 0)]) 0 0 rfl rfl rfl inX7 tyX7_ok nmX7 0 (by decide) q6_70 rfl (by decide +kernel) rfl rfl (Nat.le_of_ble_eq_true rfl) rfl rfl dX7_clearBuffer_2 ?_
  refine g_aload_n C dX7_clearBuffer_5 rfl 0 rfl ?_
  refine g_getf C (v := .int (μ.1 2)) (T := TX7) (N := 15) 0 0 rfl rfl rfl inX7 8 (by decide) q6_78 rfl dX7_clearBuffer_6 ?_
  refine g_istore_n C (lv1 := [(1, .int (μ.1 2)), (0, .ref (am 0))]) dX7_clearBuffer_9 rfl (by decide) rfl ?_
  refine g_aload_n C dX7_clearBuffer_10 rfl 1 rfl ?_
  refine g_iconst C (v := 0) dX7_clearBuffer_11 (by decide) ?_
  refine g_putf C (T := TX7) (N := 15) (ty := .int) (w1 := wM E am (sI (sI μ 0 0) 2 0)) (cs1 := [wM E am (sI (sI μ 0 0) 2 0)]) 0 0 rfl rfl rfl inX7 tyX7_ok nmX7 8 (by decide) q6_78 rfl (by decide +kernel) rfl rfl (Nat.le_of_ble_eq_true rfl) rfl rfl dX7_clearBuffer_12 ?_
  refine g_iload_n C dX7_clearBuffer_15 rfl 0 rfl ?_
  have e_1 : fX7_clearBuffer μ = (μ.1 2, sI (sI μ 0 0) 2 0) := by rw [fX7_clearBuffer]
  exact g_iret C hE (by rw [e_1]) (by rw [e_1]) dX7_clearBuffer_16
