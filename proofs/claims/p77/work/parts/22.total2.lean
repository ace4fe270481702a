theorem vH_save {η : BS} {σ : Nat → BS} {β : BS} (hv : vH η) : vH (fX3_save η σ β).1 := by
  obtain ⟨h1, ⟨c, hc, e⟩, h3⟩ := hv
  unfold fX3_save
  split
  · rename_i c6
    refine ⟨irem6 h1 ⟨1, by decide, rfl⟩, ⟨6, by decide, ?_⟩, h3⟩
    show η.1 1 - 1 + 1 = nI 6
    rw [c6]
    rfl
  · rename_i c6
    refine ⟨h1, ⟨c + 1, ?_, ?_⟩, h3⟩
    · rcases Nat.lt_or_ge c 6 with h | h
      · omega
      · exfalso
        obtain rfl : c = 6 := by omega
        exact c6 (by rw [e]; rfl)
    · show η.1 1 + 1 = nI (c + 1)
      rw [e, nI_1]
def fT_openTicket (β : BS) (η : BS) (σ : Nat → BS) (p : Int32) (z : Int32) : Int32 × BS × BS × (Nat → BS) :=
  ((fX0_addTicket β p z).1, (fX0_addTicket β p z).2, (fX3_save η σ β).1, (fX3_save η σ β).2)
theorem caX6_openTicket : gCalV yX6_openTicket cX6_openTicket 3 (some .int) 2 := ⟨⟨q3_33, q1_1, by decide +kernel⟩, q3_31, q3_32⟩
set_option maxHeartbeats 4000000 in
set_option maxRecDepth 100000 in
theorem kT_openTicket (l : Launch) (E : gE) (ax : Nat) (bo : Nat → Nat) (β : BS) (tr : Nat → Nat) (τ : BS) (ac : Nat → Nat) (γ : BS) (ah : Nat → Nat) (bd : Nat → Nat → Nat) (η : BS) (σ : Nat → BS) (at_ : Nat → Nat) (θ : BS) (hv : vB β) (hvh : vH η)  (p : Int32) (z : Int32) (hr : cnt β < 20) (hp : (fX6_within p 1 13) = true) (hz : (fX6_within z 0 3) = true) (hq1 : (fX0_hasRoom β) = true) : MC l E yX6_openTicket cX6_openTicket 3 (some .int) 4 87 [.ref ax, .int p, .int z] [wX ax (bo 0) (tr 0) (ac 0) (ah 0) (at_ 0), wB E bo β, wB E tr τ, wC E ac γ, wH E ah bd η, wT E at_ θ, wB E (bd 2) (σ 2), wB E (bd 3) (σ 3), wB E (bd 4) (σ 4), wB E (bd 5) (σ 5), wB E (bd 6) (σ 6), wB E (bd 7) (σ 7), wB E (bd 8) (σ 8), wB E (bd 9) (σ 9)] (some (.int (fT_openTicket β η σ p z).1)) [wX ax (bo 0) (tr 0) (ac 0) (ah 0) (at_ 0), wB E bo ((fT_openTicket β η σ p z).2.1), wB E tr τ, wC E ac γ, wH E ah bd ((fT_openTicket β η σ p z).2.2.1), wT E at_ θ, wB E (bd 2) ((fT_openTicket β η σ p z).2.2.2 2), wB E (bd 3) ((fT_openTicket β η σ p z).2.2.2 3), wB E (bd 4) ((fT_openTicket β η σ p z).2.2.2 4), wB E (bd 5) ((fT_openTicket β η σ p z).2.2.2 5), wB E (bd 6) ((fT_openTicket β η σ p z).2.2.2 6), wB E (bd 7) ((fT_openTicket β η σ p z).2.2.2 7), wB E (bd 8) ((fT_openTicket β η σ p z).2.2.2 8), wB E (bd 9) ((fT_openTicket β η σ p z).2.2.2 9)] := by
  have hv1 : cnt β ≤ 20 := hv.1
  refine mc_of (by decide +kernel) (Nat.le_of_ble_eq_true rfl) (lv := [(0, .ref ax), (1, .int p), (2, .int z)]) rfl (fun X C hE => ?_)
  refine g_iload_n C dX6_openTicket_0 rfl 1 rfl ?_
  refine g_iconst C (v := 1) dX6_openTicket_1 (by decide) ?_
  refine g_bipush C (v := 13) dX6_openTicket_2 (by decide) ?_
  refine g_callS C (cs1 := [wX ax (bo 0) (tr 0) (ac 0) (ah 0) (at_ 0), wB E bo β, wB E tr τ, wC E ac γ, wH E ah bd η, wT E at_ θ, wB E (bd 2) (σ 2), wB E (bd 3) (σ 3), wB E (bd 4) (σ 4), wB E (bd 5) (σ 5), wB E (bd 6) (σ 6), wB E (bd 7) (σ 7), wB E (bd 8) (σ 8), wB E (bd 9) (σ 9)]) (st1 := [.int (b2i (fX6_within p 1 13))]) [.int p, .int 1, .int 13] [] (kX6_within l E p 1 13) caX6_within q2_66 rfl ⟨Nat.le_of_ble_eq_true rfl, Nat.le_of_ble_eq_true rfl⟩ ⟨Nat.zero_le _, Nat.zero_le _⟩ (by decide) rfl rfl rfl rfl (Nat.le_of_ble_eq_true rfl) dX6_openTicket_4 rfl ?_
  refine g_ifB_eq C 23 dX6_openTicket_7 (by decide) (fun c_1 => ?_) (fun c_1 => ?_)
  · exact absurd (hp.symm.trans c_1) (by decide)
  · skip
    refine g_iload_n C dX6_openTicket_10 rfl 2 rfl ?_
    refine g_iconst C (v := 0) dX6_openTicket_11 (by decide) ?_
    refine g_iconst C (v := 3) dX6_openTicket_12 (by decide) ?_
    refine g_callS C (cs1 := [wX ax (bo 0) (tr 0) (ac 0) (ah 0) (at_ 0), wB E bo β, wB E tr τ, wC E ac γ, wH E ah bd η, wT E at_ θ, wB E (bd 2) (σ 2), wB E (bd 3) (σ 3), wB E (bd 4) (σ 4), wB E (bd 5) (σ 5), wB E (bd 6) (σ 6), wB E (bd 7) (σ 7), wB E (bd 8) (σ 8), wB E (bd 9) (σ 9)]) (st1 := [.int (b2i (fX6_within z 0 3))]) [.int z, .int 0, .int 3] [] (kX6_within l E z 0 3) caX6_within q2_66 rfl ⟨Nat.le_of_ble_eq_true rfl, Nat.le_of_ble_eq_true rfl⟩ ⟨Nat.zero_le _, Nat.zero_le _⟩ (by decide) rfl rfl rfl rfl (Nat.le_of_ble_eq_true rfl) dX6_openTicket_13 rfl ?_
    refine g_ifB_eq C 23 dX6_openTicket_16 (by decide) (fun c_2 => ?_) (fun c_2 => ?_)
    · exact absurd (hz.symm.trans c_2) (by decide)
    · skip
      refine g_iconst C (v := 1) dX6_openTicket_19 (by decide) ?_
      refine g_goto C 24 dX6_openTicket_20 (by decide) ?_
      refine g_callS C (cs1 := [wX ax (bo 0) (tr 0) (ac 0) (ah 0) (at_ 0), wB E bo β, wB E tr τ, wC E ac γ, wH E ah bd η, wT E at_ θ, wB E (bd 2) (σ 2), wB E (bd 3) (σ 3), wB E (bd 4) (σ 4), wB E (bd 5) (σ 5), wB E (bd 6) (σ 6), wB E (bd 7) (σ 7), wB E (bd 8) (σ 8), wB E (bd 9) (σ 9)]) (st1 := []) [.int (b2i true)] [] (kT_requireArgument l E true rfl) caX6_requireArgument q3_34 rfl ⟨Nat.le_of_ble_eq_true rfl, Nat.le_of_ble_eq_true rfl⟩ ⟨Nat.zero_le _, Nat.zero_le _⟩ (by decide) rfl rfl rfl rfl (Nat.le_of_ble_eq_true rfl) dX6_openTicket_24 rfl ?_
      refine g_aload_n C dX6_openTicket_27 rfl 0 rfl ?_
      refine g_getf C (T := TX6) (N := 5) 0 0 rfl rfl rfl inX6 0 (by decide) q1_179 rfl dX6_openTicket_28 ?_
      refine g_callV C (cs1 := [wX ax (bo 0) (tr 0) (ac 0) (ah 0) (at_ 0), wB E bo β, wB E tr τ, wC E ac γ, wH E ah bd η, wT E at_ θ, wB E (bd 2) (σ 2), wB E (bd 3) (σ 3), wB E (bd 4) (σ 4), wB E (bd 5) (σ 5), wB E (bd 6) (σ 6), wB E (bd 7) (σ 7), wB E (bd 8) (σ 8), wB E (bd 9) (σ 9)]) (st1 := [.int (b2i (fX0_hasRoom β))]) [] [1] (kX0_hasRoom l E bo β) caX0_hasRoom q3_53 rfl ⟨Nat.le_of_ble_eq_true rfl, Nat.le_of_ble_eq_true rfl⟩ ⟨Nat.zero_le _, Nat.zero_le _⟩ 1 0 rfl rfl rfl rfl (by decide) rfl rfl rfl rfl (Nat.le_of_ble_eq_true rfl) dX6_openTicket_31 rfl ?_
      refine g_callS C (cs1 := [wX ax (bo 0) (tr 0) (ac 0) (ah 0) (at_ 0), wB E bo β, wB E tr τ, wC E ac γ, wH E ah bd η, wT E at_ θ, wB E (bd 2) (σ 2), wB E (bd 3) (σ 3), wB E (bd 4) (σ 4), wB E (bd 5) (σ 5), wB E (bd 6) (σ 6), wB E (bd 7) (σ 7), wB E (bd 8) (σ 8), wB E (bd 9) (σ 9)]) (st1 := []) [.int (b2i (fX0_hasRoom β))] [] (kT_requireState l E (fX0_hasRoom β) hq1) caX6_requireState q1_203 rfl ⟨Nat.le_of_ble_eq_true rfl, Nat.le_of_ble_eq_true rfl⟩ ⟨Nat.zero_le _, Nat.zero_le _⟩ (by decide) rfl rfl rfl rfl (Nat.le_of_ble_eq_true rfl) dX6_openTicket_34 rfl ?_
      refine g_aload_n C dX6_openTicket_37 rfl 0 rfl ?_
      refine g_getf C (T := TX6) (N := 5) 0 0 rfl rfl rfl inX6 3 (by decide) q1_182 rfl dX6_openTicket_38 ?_
      refine g_aload_n C dX6_openTicket_41 rfl 0 rfl ?_
      refine g_getf C (T := TX6) (N := 5) 0 0 rfl rfl rfl inX6 0 (by decide) q1_179 rfl dX6_openTicket_42 ?_
      refine g_callV C (cs1 := [wX ax (bo 0) (tr 0) (ac 0) (ah 0) (at_ 0), wB E bo β, wB E tr τ, wC E ac γ, wH E ah bd ((fX3_save η σ β).1), wT E at_ θ, wB E (bd 2) ((fX3_save η σ β).2 2), wB E (bd 3) ((fX3_save η σ β).2 3), wB E (bd 4) ((fX3_save η σ β).2 4), wB E (bd 5) ((fX3_save η σ β).2 5), wB E (bd 6) ((fX3_save η σ β).2 6), wB E (bd 7) ((fX3_save η σ β).2 7), wB E (bd 8) ((fX3_save η σ β).2 8), wB E (bd 9) ((fX3_save η σ β).2 9)]) (st1 := []) [.ref (bo 0)] [4, 6, 7, 8, 9, 10, 11, 12, 13, 1] (kX3_save l E ah bd η σ bo β hvh) caX3_save q3_57 rfl ⟨Nat.le_of_ble_eq_true rfl, Nat.le_of_ble_eq_true rfl⟩ ⟨Nat.zero_le _, Nat.zero_le _⟩ 4 0 rfl rfl rfl rfl (by decide) rfl rfl rfl rfl (Nat.le_of_ble_eq_true rfl) dX6_openTicket_45 rfl ?_
      refine g_aload_n C dX6_openTicket_48 rfl 0 rfl ?_
      refine g_getf C (T := TX6) (N := 5) 0 0 rfl rfl rfl inX6 0 (by decide) q1_179 rfl dX6_openTicket_49 ?_
      refine g_iload_n C dX6_openTicket_52 rfl 1 rfl ?_
      refine g_iload_n C dX6_openTicket_53 rfl 2 rfl ?_
      refine g_callV C (cs1 := [wX ax (bo 0) (tr 0) (ac 0) (ah 0) (at_ 0), wB E bo ((fX0_addTicket β p z).2), wB E tr τ, wC E ac γ, wH E ah bd ((fX3_save η σ β).1), wT E at_ θ, wB E (bd 2) ((fX3_save η σ β).2 2), wB E (bd 3) ((fX3_save η σ β).2 3), wB E (bd 4) ((fX3_save η σ β).2 4), wB E (bd 5) ((fX3_save η σ β).2 5), wB E (bd 6) ((fX3_save η σ β).2 6), wB E (bd 7) ((fX3_save η σ β).2 7), wB E (bd 8) ((fX3_save η σ β).2 8), wB E (bd 9) ((fX3_save η σ β).2 9)]) (st1 := [.int ((fX0_addTicket β p z).1)]) [.int p, .int z] [1] (kX0_addTicket l E bo β hv p z hr) caX0_addTicket q3_61 rfl ⟨Nat.le_of_ble_eq_true rfl, Nat.le_of_ble_eq_true rfl⟩ ⟨Nat.zero_le _, Nat.zero_le _⟩ 1 0 rfl rfl rfl rfl (by decide) rfl rfl rfl rfl (Nat.le_of_ble_eq_true rfl) dX6_openTicket_54 rfl ?_
      have e_3 : fT_openTicket β η σ p z = ((fX0_addTicket β p z).1, (fX0_addTicket β p z).2, (fX3_save η σ β).1, (fX3_save η σ β).2) := by rw [fT_openTicket]
      exact g_iret C hE (by rw [e_3]) (by rw [e_3] <;> rfl) dX6_openTicket_57
def fT_need (β : BS) (η : BS) (σ : Nat → BS) (t : Nat) (u : Nat) : Int32 × BS × BS × (Nat → BS) :=
  ((fX0_addNeed β t (nI u)).1, (fX0_addNeed β t (nI u)).2, (fX3_save η σ β).1, (fX3_save η σ β).2)
theorem caX6_need : gCalV yX6_need cX6_need 3 (some .int) 2 := ⟨⟨q3_76, q1_1, by decide +kernel⟩, q3_74, q3_75⟩
set_option maxHeartbeats 4000000 in
set_option maxRecDepth 100000 in
theorem kT_need (l : Launch) (E : gE) (ax : Nat) (bo : Nat → Nat) (β : BS) (tr : Nat → Nat) (τ : BS) (ac : Nat → Nat) (γ : BS) (ah : Nat → Nat) (bd : Nat → Nat → Nat) (η : BS) (σ : Nat → BS) (at_ : Nat → Nat) (θ : BS) (hv : vB β) (hvh : vH η)  (t : Nat) (ht : t < 20) (u : Nat) (hu : u < 20) (h1 : (fX0_hasTicket β (nI t)) = true) (h2 : (fX0_hasTicket β (nI u)) = true) (h3 : ¬ (nI t) = (nI u)) (hq1 : (fX0_canNeed β t u) = true) : MC l E yX6_need cX6_need 3 (some .int) 4 90 [.ref ax, .int (nI t), .int (nI u)] [wX ax (bo 0) (tr 0) (ac 0) (ah 0) (at_ 0), wB E bo β, wB E tr τ, wC E ac γ, wH E ah bd η, wT E at_ θ, wB E (bd 2) (σ 2), wB E (bd 3) (σ 3), wB E (bd 4) (σ 4), wB E (bd 5) (σ 5), wB E (bd 6) (σ 6), wB E (bd 7) (σ 7), wB E (bd 8) (σ 8), wB E (bd 9) (σ 9)] (some (.int (fT_need β η σ t u).1)) [wX ax (bo 0) (tr 0) (ac 0) (ah 0) (at_ 0), wB E bo ((fT_need β η σ t u).2.1), wB E tr τ, wC E ac γ, wH E ah bd ((fT_need β η σ t u).2.2.1), wT E at_ θ, wB E (bd 2) ((fT_need β η σ t u).2.2.2 2), wB E (bd 3) ((fT_need β η σ t u).2.2.2 3), wB E (bd 4) ((fT_need β η σ t u).2.2.2 4), wB E (bd 5) ((fT_need β η σ t u).2.2.2 5), wB E (bd 6) ((fT_need β η σ t u).2.2.2 6), wB E (bd 7) ((fT_need β η σ t u).2.2.2 7), wB E (bd 8) ((fT_need β η σ t u).2.2.2 8), wB E (bd 9) ((fT_need β η σ t u).2.2.2 9)] := by
  have hv1 : cnt β ≤ 20 := hv.1
  refine mc_of (by decide +kernel) (Nat.le_of_ble_eq_true rfl) (lv := [(0, .ref ax), (1, .int (nI t)), (2, .int (nI u))]) rfl (fun X C hE => ?_)
  refine g_aload_n C dX6_need_0 rfl 0 rfl ?_
  refine g_getf C (T := TX6) (N := 5) 0 0 rfl rfl rfl inX6 0 (by decide) q1_179 rfl dX6_need_1 ?_
  refine g_iload_n C dX6_need_4 rfl 1 rfl ?_
  refine g_callV C (cs1 := [wX ax (bo 0) (tr 0) (ac 0) (ah 0) (at_ 0), wB E bo β, wB E tr τ, wC E ac γ, wH E ah bd η, wT E at_ θ, wB E (bd 2) (σ 2), wB E (bd 3) (σ 3), wB E (bd 4) (σ 4), wB E (bd 5) (σ 5), wB E (bd 6) (σ 6), wB E (bd 7) (σ 7), wB E (bd 8) (σ 8), wB E (bd 9) (σ 9)]) (st1 := [.int (b2i (fX0_hasTicket β (nI t)))]) [.int (nI t)] [1] (kX0_hasTicket l E bo β (nI t)) caX0_hasTicket q2_197 rfl ⟨Nat.le_of_ble_eq_true rfl, Nat.le_of_ble_eq_true rfl⟩ ⟨Nat.zero_le _, Nat.zero_le _⟩ 1 0 rfl rfl rfl rfl (by decide) rfl rfl rfl rfl (Nat.le_of_ble_eq_true rfl) dX6_need_5 rfl ?_
  refine g_ifB_eq C 26 dX6_need_8 (by decide) (fun c_1 => ?_) (fun c_1 => ?_)
  · exact absurd (h1.symm.trans c_1) (by decide)
  · skip
    refine g_aload_n C dX6_need_11 rfl 0 rfl ?_
    refine g_getf C (T := TX6) (N := 5) 0 0 rfl rfl rfl inX6 0 (by decide) q1_179 rfl dX6_need_12 ?_
    refine g_iload_n C dX6_need_15 rfl 2 rfl ?_
    refine g_callV C (cs1 := [wX ax (bo 0) (tr 0) (ac 0) (ah 0) (at_ 0), wB E bo β, wB E tr τ, wC E ac γ, wH E ah bd η, wT E at_ θ, wB E (bd 2) (σ 2), wB E (bd 3) (σ 3), wB E (bd 4) (σ 4), wB E (bd 5) (σ 5), wB E (bd 6) (σ 6), wB E (bd 7) (σ 7), wB E (bd 8) (σ 8), wB E (bd 9) (σ 9)]) (st1 := [.int (b2i (fX0_hasTicket β (nI u)))]) [.int (nI u)] [1] (kX0_hasTicket l E bo β (nI u)) caX0_hasTicket q2_197 rfl ⟨Nat.le_of_ble_eq_true rfl, Nat.le_of_ble_eq_true rfl⟩ ⟨Nat.zero_le _, Nat.zero_le _⟩ 1 0 rfl rfl rfl rfl (by decide) rfl rfl rfl rfl (Nat.le_of_ble_eq_true rfl) dX6_need_16 rfl ?_
    refine g_ifB_eq C 26 dX6_need_19 (by decide) (fun c_2 => ?_) (fun c_2 => ?_)
    · exact absurd (h2.symm.trans c_2) (by decide)
    · skip
      refine g_iconst C (v := 1) dX6_need_22 (by decide) ?_
      refine g_goto C 27 dX6_need_23 (by decide) ?_
      refine g_callS C (cs1 := [wX ax (bo 0) (tr 0) (ac 0) (ah 0) (at_ 0), wB E bo β, wB E tr τ, wC E ac γ, wH E ah bd η, wT E at_ θ, wB E (bd 2) (σ 2), wB E (bd 3) (σ 3), wB E (bd 4) (σ 4), wB E (bd 5) (σ 5), wB E (bd 6) (σ 6), wB E (bd 7) (σ 7), wB E (bd 8) (σ 8), wB E (bd 9) (σ 9)]) (st1 := []) [.int (b2i true)] [] (kT_requireIndex l E true rfl) caX6_requireIndex q2_69 rfl ⟨Nat.le_of_ble_eq_true rfl, Nat.le_of_ble_eq_true rfl⟩ ⟨Nat.zero_le _, Nat.zero_le _⟩ (by decide) rfl rfl rfl rfl (Nat.le_of_ble_eq_true rfl) dX6_need_27 rfl ?_
      refine g_iload_n C dX6_need_30 rfl 1 rfl ?_
      refine g_iload_n C dX6_need_31 rfl 2 rfl ?_
      refine g_icmp_eq C 39 dX6_need_32 (by decide) (fun c_3 => ?_) (fun c_3 => ?_)
      · exact absurd c_3 h3
      · skip
        refine g_iconst C (v := 1) dX6_need_35 (by decide) ?_
        refine g_goto C 40 dX6_need_36 (by decide) ?_
        refine g_callS C (cs1 := [wX ax (bo 0) (tr 0) (ac 0) (ah 0) (at_ 0), wB E bo β, wB E tr τ, wC E ac γ, wH E ah bd η, wT E at_ θ, wB E (bd 2) (σ 2), wB E (bd 3) (σ 3), wB E (bd 4) (σ 4), wB E (bd 5) (σ 5), wB E (bd 6) (σ 6), wB E (bd 7) (σ 7), wB E (bd 8) (σ 8), wB E (bd 9) (σ 9)]) (st1 := []) [.int (b2i true)] [] (kT_requireArgument l E true rfl) caX6_requireArgument q3_34 rfl ⟨Nat.le_of_ble_eq_true rfl, Nat.le_of_ble_eq_true rfl⟩ ⟨Nat.zero_le _, Nat.zero_le _⟩ (by decide) rfl rfl rfl rfl (Nat.le_of_ble_eq_true rfl) dX6_need_40 rfl ?_
        refine g_aload_n C dX6_need_43 rfl 0 rfl ?_
        refine g_getf C (T := TX6) (N := 5) 0 0 rfl rfl rfl inX6 0 (by decide) q1_179 rfl dX6_need_44 ?_
        refine g_iload_n C dX6_need_47 rfl 1 rfl ?_
        refine g_iload_n C dX6_need_48 rfl 2 rfl ?_
        refine g_callV C (cs1 := [wX ax (bo 0) (tr 0) (ac 0) (ah 0) (at_ 0), wB E bo β, wB E tr τ, wC E ac γ, wH E ah bd η, wT E at_ θ, wB E (bd 2) (σ 2), wB E (bd 3) (σ 3), wB E (bd 4) (σ 4), wB E (bd 5) (σ 5), wB E (bd 6) (σ 6), wB E (bd 7) (σ 7), wB E (bd 8) (σ 8), wB E (bd 9) (σ 9)]) (st1 := [.int (b2i (fX0_canNeed β t u))]) [.int (nI t), .int (nI u)] [1] (kX0_canNeed l E bo β hv t (by omega) u (by omega)) caX0_canNeed q3_77 rfl ⟨Nat.le_of_ble_eq_true rfl, Nat.le_of_ble_eq_true rfl⟩ ⟨Nat.zero_le _, Nat.zero_le _⟩ 1 0 rfl rfl rfl rfl (by decide) rfl rfl rfl rfl (Nat.le_of_ble_eq_true rfl) dX6_need_49 rfl ?_
        refine g_callS C (cs1 := [wX ax (bo 0) (tr 0) (ac 0) (ah 0) (at_ 0), wB E bo β, wB E tr τ, wC E ac γ, wH E ah bd η, wT E at_ θ, wB E (bd 2) (σ 2), wB E (bd 3) (σ 3), wB E (bd 4) (σ 4), wB E (bd 5) (σ 5), wB E (bd 6) (σ 6), wB E (bd 7) (σ 7), wB E (bd 8) (σ 8), wB E (bd 9) (σ 9)]) (st1 := []) [.int (b2i (fX0_canNeed β t u))] [] (kT_requireState l E (fX0_canNeed β t u) hq1) caX6_requireState q1_203 rfl ⟨Nat.le_of_ble_eq_true rfl, Nat.le_of_ble_eq_true rfl⟩ ⟨Nat.zero_le _, Nat.zero_le _⟩ (by decide) rfl rfl rfl rfl (Nat.le_of_ble_eq_true rfl) dX6_need_52 rfl ?_
        refine g_aload_n C dX6_need_55 rfl 0 rfl ?_
        refine g_getf C (T := TX6) (N := 5) 0 0 rfl rfl rfl inX6 3 (by decide) q1_182 rfl dX6_need_56 ?_
        refine g_aload_n C dX6_need_59 rfl 0 rfl ?_
        refine g_getf C (T := TX6) (N := 5) 0 0 rfl rfl rfl inX6 0 (by decide) q1_179 rfl dX6_need_60 ?_
        refine g_callV C (cs1 := [wX ax (bo 0) (tr 0) (ac 0) (ah 0) (at_ 0), wB E bo β, wB E tr τ, wC E ac γ, wH E ah bd ((fX3_save η σ β).1), wT E at_ θ, wB E (bd 2) ((fX3_save η σ β).2 2), wB E (bd 3) ((fX3_save η σ β).2 3), wB E (bd 4) ((fX3_save η σ β).2 4), wB E (bd 5) ((fX3_save η σ β).2 5), wB E (bd 6) ((fX3_save η σ β).2 6), wB E (bd 7) ((fX3_save η σ β).2 7), wB E (bd 8) ((fX3_save η σ β).2 8), wB E (bd 9) ((fX3_save η σ β).2 9)]) (st1 := []) [.ref (bo 0)] [4, 6, 7, 8, 9, 10, 11, 12, 13, 1] (kX3_save l E ah bd η σ bo β hvh) caX3_save q3_57 rfl ⟨Nat.le_of_ble_eq_true rfl, Nat.le_of_ble_eq_true rfl⟩ ⟨Nat.zero_le _, Nat.zero_le _⟩ 4 0 rfl rfl rfl rfl (by decide) rfl rfl rfl rfl (Nat.le_of_ble_eq_true rfl) dX6_need_63 rfl ?_
        refine g_aload_n C dX6_need_66 rfl 0 rfl ?_
        refine g_getf C (T := TX6) (N := 5) 0 0 rfl rfl rfl inX6 0 (by decide) q1_179 rfl dX6_need_67 ?_
        refine g_iload_n C dX6_need_70 rfl 1 rfl ?_
        refine g_iload_n C dX6_need_71 rfl 2 rfl ?_
        refine g_callV C (cs1 := [wX ax (bo 0) (tr 0) (ac 0) (ah 0) (at_ 0), wB E bo ((fX0_addNeed β t (nI u)).2), wB E tr τ, wC E ac γ, wH E ah bd ((fX3_save η σ β).1), wT E at_ θ, wB E (bd 2) ((fX3_save η σ β).2 2), wB E (bd 3) ((fX3_save η σ β).2 3), wB E (bd 4) ((fX3_save η σ β).2 4), wB E (bd 5) ((fX3_save η σ β).2 5), wB E (bd 6) ((fX3_save η σ β).2 6), wB E (bd 7) ((fX3_save η σ β).2 7), wB E (bd 8) ((fX3_save η σ β).2 8), wB E (bd 9) ((fX3_save η σ β).2 9)]) (st1 := [.int ((fX0_addNeed β t (nI u)).1)]) [.int (nI t), .int (nI u)] [1] (kX0_addNeed l E bo β t (by omega) (nI u)) caX0_addNeed q3_87 rfl ⟨Nat.le_of_ble_eq_true rfl, Nat.le_of_ble_eq_true rfl⟩ ⟨Nat.zero_le _, Nat.zero_le _⟩ 1 0 rfl rfl rfl rfl (by decide) rfl rfl rfl rfl (Nat.le_of_ble_eq_true rfl) dX6_need_72 rfl ?_
        have e_4 : fT_need β η σ t u = ((fX0_addNeed β t (nI u)).1, (fX0_addNeed β t (nI u)).2, (fX3_save η σ β).1, (fX3_save η σ β).2) := by rw [fT_need]
        exact g_iret C hE (by rw [e_4]) (by rw [e_4] <;> rfl) dX6_need_75
def fT_assign (β : BS) (η : BS) (σ : Nat → BS) (t : Nat) (o : Nat) : Int32 × BS × BS × (Nat → BS) :=
  ((fX0_giveTo β t o).1, (fX0_giveTo β t o).2, (fX3_save η σ β).1, (fX3_save η σ β).2)
theorem caX6_assign : gCalV yX6_assign cX6_assign 3 (some .int) 2 := ⟨⟨q3_106, q1_1, by decide +kernel⟩, q3_104, q3_105⟩
set_option maxHeartbeats 4000000 in
set_option maxRecDepth 100000 in
theorem kT_assign (l : Launch) (E : gE) (ax : Nat) (bo : Nat → Nat) (β : BS) (tr : Nat → Nat) (τ : BS) (ac : Nat → Nat) (γ : BS) (ah : Nat → Nat) (bd : Nat → Nat → Nat) (η : BS) (σ : Nat → BS) (at_ : Nat → Nat) (θ : BS) (hv : vB β) (hvh : vH η)  (t : Nat) (ht : t < 20) (o : Nat) (ho : o < 5) (h1 : (fX0_hasTicket β (nI t)) = true) (h2 : (fX6_isOwner (nI o)) = true) (hq1 : (fX0_canBeGivenTo β t o) = true) : MC l E yX6_assign cX6_assign 3 (some .int) 4 87 [.ref ax, .int (nI t), .int (nI o)] [wX ax (bo 0) (tr 0) (ac 0) (ah 0) (at_ 0), wB E bo β, wB E tr τ, wC E ac γ, wH E ah bd η, wT E at_ θ, wB E (bd 2) (σ 2), wB E (bd 3) (σ 3), wB E (bd 4) (σ 4), wB E (bd 5) (σ 5), wB E (bd 6) (σ 6), wB E (bd 7) (σ 7), wB E (bd 8) (σ 8), wB E (bd 9) (σ 9)] (some (.int (fT_assign β η σ t o).1)) [wX ax (bo 0) (tr 0) (ac 0) (ah 0) (at_ 0), wB E bo ((fT_assign β η σ t o).2.1), wB E tr τ, wC E ac γ, wH E ah bd ((fT_assign β η σ t o).2.2.1), wT E at_ θ, wB E (bd 2) ((fT_assign β η σ t o).2.2.2 2), wB E (bd 3) ((fT_assign β η σ t o).2.2.2 3), wB E (bd 4) ((fT_assign β η σ t o).2.2.2 4), wB E (bd 5) ((fT_assign β η σ t o).2.2.2 5), wB E (bd 6) ((fT_assign β η σ t o).2.2.2 6), wB E (bd 7) ((fT_assign β η σ t o).2.2.2 7), wB E (bd 8) ((fT_assign β η σ t o).2.2.2 8), wB E (bd 9) ((fT_assign β η σ t o).2.2.2 9)] := by
  have hv1 : cnt β ≤ 20 := hv.1
  refine mc_of (by decide +kernel) (Nat.le_of_ble_eq_true rfl) (lv := [(0, .ref ax), (1, .int (nI t)), (2, .int (nI o))]) rfl (fun X C hE => ?_)
  refine g_aload_n C dX6_assign_0 rfl 0 rfl ?_
  refine g_getf C (T := TX6) (N := 5) 0 0 rfl rfl rfl inX6 0 (by decide) q1_179 rfl dX6_assign_1 ?_
  refine g_iload_n C dX6_assign_4 rfl 1 rfl ?_
  refine g_callV C (cs1 := [wX ax (bo 0) (tr 0) (ac 0) (ah 0) (at_ 0), wB E bo β, wB E tr τ, wC E ac γ, wH E ah bd η, wT E at_ θ, wB E (bd 2) (σ 2), wB E (bd 3) (σ 3), wB E (bd 4) (σ 4), wB E (bd 5) (σ 5), wB E (bd 6) (σ 6), wB E (bd 7) (σ 7), wB E (bd 8) (σ 8), wB E (bd 9) (σ 9)]) (st1 := [.int (b2i (fX0_hasTicket β (nI t)))]) [.int (nI t)] [1] (kX0_hasTicket l E bo β (nI t)) caX0_hasTicket q2_197 rfl ⟨Nat.le_of_ble_eq_true rfl, Nat.le_of_ble_eq_true rfl⟩ ⟨Nat.zero_le _, Nat.zero_le _⟩ 1 0 rfl rfl rfl rfl (by decide) rfl rfl rfl rfl (Nat.le_of_ble_eq_true rfl) dX6_assign_5 rfl ?_
  refine g_ifB_eq C 22 dX6_assign_8 (by decide) (fun c_1 => ?_) (fun c_1 => ?_)
  · exact absurd (h1.symm.trans c_1) (by decide)
  · skip
    refine g_iload_n C dX6_assign_11 rfl 2 rfl ?_
    refine g_callS C (cs1 := [wX ax (bo 0) (tr 0) (ac 0) (ah 0) (at_ 0), wB E bo β, wB E tr τ, wC E ac γ, wH E ah bd η, wT E at_ θ, wB E (bd 2) (σ 2), wB E (bd 3) (σ 3), wB E (bd 4) (σ 4), wB E (bd 5) (σ 5), wB E (bd 6) (σ 6), wB E (bd 7) (σ 7), wB E (bd 8) (σ 8), wB E (bd 9) (σ 9)]) (st1 := [.int (b2i (fX6_isOwner (nI o)))]) [.int (nI o)] [] (kX6_isOwner l E (nI o)) caX6_isOwner q2_63 rfl ⟨Nat.le_of_ble_eq_true rfl, Nat.le_of_ble_eq_true rfl⟩ ⟨Nat.zero_le _, Nat.zero_le _⟩ (by decide) rfl rfl rfl rfl (Nat.le_of_ble_eq_true rfl) dX6_assign_12 rfl ?_
    refine g_ifB_eq C 22 dX6_assign_15 (by decide) (fun c_2 => ?_) (fun c_2 => ?_)
    · exact absurd (h2.symm.trans c_2) (by decide)
    · skip
      refine g_iconst C (v := 1) dX6_assign_18 (by decide) ?_
      refine g_goto C 23 dX6_assign_19 (by decide) ?_
      refine g_callS C (cs1 := [wX ax (bo 0) (tr 0) (ac 0) (ah 0) (at_ 0), wB E bo β, wB E tr τ, wC E ac γ, wH E ah bd η, wT E at_ θ, wB E (bd 2) (σ 2), wB E (bd 3) (σ 3), wB E (bd 4) (σ 4), wB E (bd 5) (σ 5), wB E (bd 6) (σ 6), wB E (bd 7) (σ 7), wB E (bd 8) (σ 8), wB E (bd 9) (σ 9)]) (st1 := []) [.int (b2i true)] [] (kT_requireIndex l E true rfl) caX6_requireIndex q2_69 rfl ⟨Nat.le_of_ble_eq_true rfl, Nat.le_of_ble_eq_true rfl⟩ ⟨Nat.zero_le _, Nat.zero_le _⟩ (by decide) rfl rfl rfl rfl (Nat.le_of_ble_eq_true rfl) dX6_assign_23 rfl ?_
      refine g_aload_n C dX6_assign_26 rfl 0 rfl ?_
      refine g_getf C (T := TX6) (N := 5) 0 0 rfl rfl rfl inX6 0 (by decide) q1_179 rfl dX6_assign_27 ?_
      refine g_iload_n C dX6_assign_30 rfl 1 rfl ?_
      refine g_iload_n C dX6_assign_31 rfl 2 rfl ?_
      refine g_callV C (cs1 := [wX ax (bo 0) (tr 0) (ac 0) (ah 0) (at_ 0), wB E bo β, wB E tr τ, wC E ac γ, wH E ah bd η, wT E at_ θ, wB E (bd 2) (σ 2), wB E (bd 3) (σ 3), wB E (bd 4) (σ 4), wB E (bd 5) (σ 5), wB E (bd 6) (σ 6), wB E (bd 7) (σ 7), wB E (bd 8) (σ 8), wB E (bd 9) (σ 9)]) (st1 := [.int (b2i (fX0_canBeGivenTo β t o))]) [.int (nI t), .int (nI o)] [1] (kX0_canBeGivenTo l E bo β hv t (by omega) o (by omega)) caX0_canBeGivenTo q3_107 rfl ⟨Nat.le_of_ble_eq_true rfl, Nat.le_of_ble_eq_true rfl⟩ ⟨Nat.zero_le _, Nat.zero_le _⟩ 1 0 rfl rfl rfl rfl (by decide) rfl rfl rfl rfl (Nat.le_of_ble_eq_true rfl) dX6_assign_32 rfl ?_
      refine g_callS C (cs1 := [wX ax (bo 0) (tr 0) (ac 0) (ah 0) (at_ 0), wB E bo β, wB E tr τ, wC E ac γ, wH E ah bd η, wT E at_ θ, wB E (bd 2) (σ 2), wB E (bd 3) (σ 3), wB E (bd 4) (σ 4), wB E (bd 5) (σ 5), wB E (bd 6) (σ 6), wB E (bd 7) (σ 7), wB E (bd 8) (σ 8), wB E (bd 9) (σ 9)]) (st1 := []) [.int (b2i (fX0_canBeGivenTo β t o))] [] (kT_requireState l E (fX0_canBeGivenTo β t o) hq1) caX6_requireState q1_203 rfl ⟨Nat.le_of_ble_eq_true rfl, Nat.le_of_ble_eq_true rfl⟩ ⟨Nat.zero_le _, Nat.zero_le _⟩ (by decide) rfl rfl rfl rfl (Nat.le_of_ble_eq_true rfl) dX6_assign_35 rfl ?_
      refine g_aload_n C dX6_assign_38 rfl 0 rfl ?_
      refine g_getf C (T := TX6) (N := 5) 0 0 rfl rfl rfl inX6 3 (by decide) q1_182 rfl dX6_assign_39 ?_
      refine g_aload_n C dX6_assign_42 rfl 0 rfl ?_
      refine g_getf C (T := TX6) (N := 5) 0 0 rfl rfl rfl inX6 0 (by decide) q1_179 rfl dX6_assign_43 ?_
      refine g_callV C (cs1 := [wX ax (bo 0) (tr 0) (ac 0) (ah 0) (at_ 0), wB E bo β, wB E tr τ, wC E ac γ, wH E ah bd ((fX3_save η σ β).1), wT E at_ θ, wB E (bd 2) ((fX3_save η σ β).2 2), wB E (bd 3) ((fX3_save η σ β).2 3), wB E (bd 4) ((fX3_save η σ β).2 4), wB E (bd 5) ((fX3_save η σ β).2 5), wB E (bd 6) ((fX3_save η σ β).2 6), wB E (bd 7) ((fX3_save η σ β).2 7), wB E (bd 8) ((fX3_save η σ β).2 8), wB E (bd 9) ((fX3_save η σ β).2 9)]) (st1 := []) [.ref (bo 0)] [4, 6, 7, 8, 9, 10, 11, 12, 13, 1] (kX3_save l E ah bd η σ bo β hvh) caX3_save q3_57 rfl ⟨Nat.le_of_ble_eq_true rfl, Nat.le_of_ble_eq_true rfl⟩ ⟨Nat.zero_le _, Nat.zero_le _⟩ 4 0 rfl rfl rfl rfl (by decide) rfl rfl rfl rfl (Nat.le_of_ble_eq_true rfl) dX6_assign_46 rfl ?_
      refine g_aload_n C dX6_assign_49 rfl 0 rfl ?_
      refine g_getf C (T := TX6) (N := 5) 0 0 rfl rfl rfl inX6 0 (by decide) q1_179 rfl dX6_assign_50 ?_
      refine g_iload_n C dX6_assign_53 rfl 1 rfl ?_
      refine g_iload_n C dX6_assign_54 rfl 2 rfl ?_
      refine g_callV C (cs1 := [wX ax (bo 0) (tr 0) (ac 0) (ah 0) (at_ 0), wB E bo ((fX0_giveTo β t o).2), wB E tr τ, wC E ac γ, wH E ah bd ((fX3_save η σ β).1), wT E at_ θ, wB E (bd 2) ((fX3_save η σ β).2 2), wB E (bd 3) ((fX3_save η σ β).2 3), wB E (bd 4) ((fX3_save η σ β).2 4), wB E (bd 5) ((fX3_save η σ β).2 5), wB E (bd 6) ((fX3_save η σ β).2 6), wB E (bd 7) ((fX3_save η σ β).2 7), wB E (bd 8) ((fX3_save η σ β).2 8), wB E (bd 9) ((fX3_save η σ β).2 9)]) (st1 := [.int ((fX0_giveTo β t o).1)]) [.int (nI t), .int (nI o)] [1] (kX0_giveTo l E bo β hv t (by omega) o (by omega)) caX0_giveTo q3_115 rfl ⟨Nat.le_of_ble_eq_true rfl, Nat.le_of_ble_eq_true rfl⟩ ⟨Nat.zero_le _, Nat.zero_le _⟩ 1 0 rfl rfl rfl rfl (by decide) rfl rfl rfl rfl (Nat.le_of_ble_eq_true rfl) dX6_assign_55 rfl ?_
      have e_3 : fT_assign β η σ t o = ((fX0_giveTo β t o).1, (fX0_giveTo β t o).2, (fX3_save η σ β).1, (fX3_save η σ β).2) := by rw [fT_assign]
      exact g_iret C hE (by rw [e_3]) (by rw [e_3] <;> rfl) dX6_assign_58
def fT_plan (β : BS) (η : BS) (σ : Nat → BS) (t : Nat) (m : Nat) : Int32 × BS × BS × (Nat → BS) :=
  ((fX5_leftFor (sE β 4 t (nI m)) (nI m)), sE β 4 t (nI m), (fX3_save η σ β).1, (fX3_save η σ β).2)
theorem caX6_plan : gCalV yX6_plan cX6_plan 3 (some .int) 2 := ⟨⟨q3_126, q1_1, by decide +kernel⟩, q3_124, q3_125⟩
set_option maxHeartbeats 4000000 in
set_option maxRecDepth 100000 in
theorem kT_plan (l : Launch) (E : gE) (ax : Nat) (bo : Nat → Nat) (β : BS) (tr : Nat → Nat) (τ : BS) (ac : Nat → Nat) (γ : BS) (ah : Nat → Nat) (bd : Nat → Nat → Nat) (η : BS) (σ : Nat → BS) (at_ : Nat → Nat) (θ : BS) (hv : vB β) (hvh : vH η)  (t : Nat) (ht : t < 20) (m : Nat) (hm : m < 4) (h1 : (fX0_hasTicket β (nI t)) = true) (h2 : (fX6_isMilestone (nI m)) = true) (h3 : (fX0_isUnfinished β t) = true) (h4 : ¬ (β.2 4 t) = (nI m)) : MC l E yX6_plan cX6_plan 3 (some .int) 4 87 [.ref ax, .int (nI t), .int (nI m)] [wX ax (bo 0) (tr 0) (ac 0) (ah 0) (at_ 0), wB E bo β, wB E tr τ, wC E ac γ, wH E ah bd η, wT E at_ θ, wB E (bd 2) (σ 2), wB E (bd 3) (σ 3), wB E (bd 4) (σ 4), wB E (bd 5) (σ 5), wB E (bd 6) (σ 6), wB E (bd 7) (σ 7), wB E (bd 8) (σ 8), wB E (bd 9) (σ 9)] (some (.int (fT_plan β η σ t m).1)) [wX ax (bo 0) (tr 0) (ac 0) (ah 0) (at_ 0), wB E bo ((fT_plan β η σ t m).2.1), wB E tr τ, wC E ac γ, wH E ah bd ((fT_plan β η σ t m).2.2.1), wT E at_ θ, wB E (bd 2) ((fT_plan β η σ t m).2.2.2 2), wB E (bd 3) ((fT_plan β η σ t m).2.2.2 3), wB E (bd 4) ((fT_plan β η σ t m).2.2.2 4), wB E (bd 5) ((fT_plan β η σ t m).2.2.2 5), wB E (bd 6) ((fT_plan β η σ t m).2.2.2 6), wB E (bd 7) ((fT_plan β η σ t m).2.2.2 7), wB E (bd 8) ((fT_plan β η σ t m).2.2.2 8), wB E (bd 9) ((fT_plan β η σ t m).2.2.2 9)] := by
  have hv1 : cnt β ≤ 20 := hv.1
  refine mc_of (by decide +kernel) (Nat.le_of_ble_eq_true rfl) (lv := [(0, .ref ax), (1, .int (nI t)), (2, .int (nI m))]) rfl (fun X C hE => ?_)
  refine g_aload_n C dX6_plan_0 rfl 0 rfl ?_
  refine g_getf C (T := TX6) (N := 5) 0 0 rfl rfl rfl inX6 0 (by decide) q1_179 rfl dX6_plan_1 ?_
  refine g_iload_n C dX6_plan_4 rfl 1 rfl ?_
  refine g_callV C (cs1 := [wX ax (bo 0) (tr 0) (ac 0) (ah 0) (at_ 0), wB E bo β, wB E tr τ, wC E ac γ, wH E ah bd η, wT E at_ θ, wB E (bd 2) (σ 2), wB E (bd 3) (σ 3), wB E (bd 4) (σ 4), wB E (bd 5) (σ 5), wB E (bd 6) (σ 6), wB E (bd 7) (σ 7), wB E (bd 8) (σ 8), wB E (bd 9) (σ 9)]) (st1 := [.int (b2i (fX0_hasTicket β (nI t)))]) [.int (nI t)] [1] (kX0_hasTicket l E bo β (nI t)) caX0_hasTicket q2_197 rfl ⟨Nat.le_of_ble_eq_true rfl, Nat.le_of_ble_eq_true rfl⟩ ⟨Nat.zero_le _, Nat.zero_le _⟩ 1 0 rfl rfl rfl rfl (by decide) rfl rfl rfl rfl (Nat.le_of_ble_eq_true rfl) dX6_plan_5 rfl ?_
  refine g_ifB_eq C 22 dX6_plan_8 (by decide) (fun c_1 => ?_) (fun c_1 => ?_)
  · exact absurd (h1.symm.trans c_1) (by decide)
  · skip
    refine g_iload_n C dX6_plan_11 rfl 2 rfl ?_
    refine g_callS C (cs1 := [wX ax (bo 0) (tr 0) (ac 0) (ah 0) (at_ 0), wB E bo β, wB E tr τ, wC E ac γ, wH E ah bd η, wT E at_ θ, wB E (bd 2) (σ 2), wB E (bd 3) (σ 3), wB E (bd 4) (σ 4), wB E (bd 5) (σ 5), wB E (bd 6) (σ 6), wB E (bd 7) (σ 7), wB E (bd 8) (σ 8), wB E (bd 9) (σ 9)]) (st1 := [.int (b2i (fX6_isMilestone (nI m)))]) [.int (nI m)] [] (kX6_isMilestone l E (nI m)) caX6_isMilestone q2_92 rfl ⟨Nat.le_of_ble_eq_true rfl, Nat.le_of_ble_eq_true rfl⟩ ⟨Nat.zero_le _, Nat.zero_le _⟩ (by decide) rfl rfl rfl rfl (Nat.le_of_ble_eq_true rfl) dX6_plan_12 rfl ?_
    refine g_ifB_eq C 22 dX6_plan_15 (by decide) (fun c_2 => ?_) (fun c_2 => ?_)
    · exact absurd (h2.symm.trans c_2) (by decide)
    · skip
      refine g_iconst C (v := 1) dX6_plan_18 (by decide) ?_
      refine g_goto C 23 dX6_plan_19 (by decide) ?_
      refine g_callS C (cs1 := [wX ax (bo 0) (tr 0) (ac 0) (ah 0) (at_ 0), wB E bo β, wB E tr τ, wC E ac γ, wH E ah bd η, wT E at_ θ, wB E (bd 2) (σ 2), wB E (bd 3) (σ 3), wB E (bd 4) (σ 4), wB E (bd 5) (σ 5), wB E (bd 6) (σ 6), wB E (bd 7) (σ 7), wB E (bd 8) (σ 8), wB E (bd 9) (σ 9)]) (st1 := []) [.int (b2i true)] [] (kT_requireIndex l E true rfl) caX6_requireIndex q2_69 rfl ⟨Nat.le_of_ble_eq_true rfl, Nat.le_of_ble_eq_true rfl⟩ ⟨Nat.zero_le _, Nat.zero_le _⟩ (by decide) rfl rfl rfl rfl (Nat.le_of_ble_eq_true rfl) dX6_plan_23 rfl ?_
      refine g_aload_n C dX6_plan_26 rfl 0 rfl ?_
      refine g_getf C (T := TX6) (N := 5) 0 0 rfl rfl rfl inX6 0 (by decide) q1_179 rfl dX6_plan_27 ?_
      refine g_iload_n C dX6_plan_30 rfl 1 rfl ?_
      refine g_callV C (cs1 := [wX ax (bo 0) (tr 0) (ac 0) (ah 0) (at_ 0), wB E bo β, wB E tr τ, wC E ac γ, wH E ah bd η, wT E at_ θ, wB E (bd 2) (σ 2), wB E (bd 3) (σ 3), wB E (bd 4) (σ 4), wB E (bd 5) (σ 5), wB E (bd 6) (σ 6), wB E (bd 7) (σ 7), wB E (bd 8) (σ 8), wB E (bd 9) (σ 9)]) (st1 := [.int (b2i (fX0_isUnfinished β t))]) [.int (nI t)] [1] (kX0_isUnfinished l E bo β t (by omega)) caX0_isUnfinished q3_127 rfl ⟨Nat.le_of_ble_eq_true rfl, Nat.le_of_ble_eq_true rfl⟩ ⟨Nat.zero_le _, Nat.zero_le _⟩ 1 0 rfl rfl rfl rfl (by decide) rfl rfl rfl rfl (Nat.le_of_ble_eq_true rfl) dX6_plan_31 rfl ?_
      refine g_ifB_eq C 54 dX6_plan_34 (by decide) (fun c_3 => ?_) (fun c_3 => ?_)
      · exact absurd (h3.symm.trans c_3) (by decide)
      · skip
        refine g_aload_n C dX6_plan_37 rfl 0 rfl ?_
        refine g_getf C (T := TX6) (N := 5) 0 0 rfl rfl rfl inX6 0 (by decide) q1_179 rfl dX6_plan_38 ?_
        refine g_getf C (T := TX0) (N := 17) 1 0 rfl rfl rfl inX0 8 (by decide) q1_53 rfl dX6_plan_41 ?_
        refine g_iload_n C dX6_plan_44 rfl 1 rfl ?_
        refine g_ialdn C 1 5 t rfl rfl rfl (by omega) (by decide) dX6_plan_45 ?_
        refine g_iload_n C dX6_plan_46 rfl 2 rfl ?_
        refine g_icmp_eq C 54 dX6_plan_47 (by decide) (fun c_4 => ?_) (fun c_4 => ?_)
        · exact absurd c_4 h4
        · skip
          refine g_iconst C (v := 1) dX6_plan_50 (by decide) ?_
          refine g_goto C 55 dX6_plan_51 (by decide) ?_
          refine g_callS C (cs1 := [wX ax (bo 0) (tr 0) (ac 0) (ah 0) (at_ 0), wB E bo β, wB E tr τ, wC E ac γ, wH E ah bd η, wT E at_ θ, wB E (bd 2) (σ 2), wB E (bd 3) (σ 3), wB E (bd 4) (σ 4), wB E (bd 5) (σ 5), wB E (bd 6) (σ 6), wB E (bd 7) (σ 7), wB E (bd 8) (σ 8), wB E (bd 9) (σ 9)]) (st1 := []) [.int (b2i true)] [] (kT_requireState l E true rfl) caX6_requireState q1_203 rfl ⟨Nat.le_of_ble_eq_true rfl, Nat.le_of_ble_eq_true rfl⟩ ⟨Nat.zero_le _, Nat.zero_le _⟩ (by decide) rfl rfl rfl rfl (Nat.le_of_ble_eq_true rfl) dX6_plan_55 rfl ?_
          refine g_aload_n C dX6_plan_58 rfl 0 rfl ?_
          refine g_getf C (T := TX6) (N := 5) 0 0 rfl rfl rfl inX6 3 (by decide) q1_182 rfl dX6_plan_59 ?_
          refine g_aload_n C dX6_plan_62 rfl 0 rfl ?_
          refine g_getf C (T := TX6) (N := 5) 0 0 rfl rfl rfl inX6 0 (by decide) q1_179 rfl dX6_plan_63 ?_
          refine g_callV C (cs1 := [wX ax (bo 0) (tr 0) (ac 0) (ah 0) (at_ 0), wB E bo β, wB E tr τ, wC E ac γ, wH E ah bd ((fX3_save η σ β).1), wT E at_ θ, wB E (bd 2) ((fX3_save η σ β).2 2), wB E (bd 3) ((fX3_save η σ β).2 3), wB E (bd 4) ((fX3_save η σ β).2 4), wB E (bd 5) ((fX3_save η σ β).2 5), wB E (bd 6) ((fX3_save η σ β).2 6), wB E (bd 7) ((fX3_save η σ β).2 7), wB E (bd 8) ((fX3_save η σ β).2 8), wB E (bd 9) ((fX3_save η σ β).2 9)]) (st1 := []) [.ref (bo 0)] [4, 6, 7, 8, 9, 10, 11, 12, 13, 1] (kX3_save l E ah bd η σ bo β hvh) caX3_save q3_57 rfl ⟨Nat.le_of_ble_eq_true rfl, Nat.le_of_ble_eq_true rfl⟩ ⟨Nat.zero_le _, Nat.zero_le _⟩ 4 0 rfl rfl rfl rfl (by decide) rfl rfl rfl rfl (Nat.le_of_ble_eq_true rfl) dX6_plan_66 rfl ?_
          refine g_aload_n C dX6_plan_69 rfl 0 rfl ?_
          refine g_getf C (T := TX6) (N := 5) 0 0 rfl rfl rfl inX6 0 (by decide) q1_179 rfl dX6_plan_70 ?_
          refine g_getf C (T := TX0) (N := 17) 1 0 rfl rfl rfl inX0 8 (by decide) q1_53 rfl dX6_plan_73 ?_
          refine g_iload_n C dX6_plan_76 rfl 1 rfl ?_
          refine g_iload_n C dX6_plan_77 rfl 2 rfl ?_
          refine g_iastn C (w1 := wB E bo (sE β 4 t (nI m))) (cs1 := [wX ax (bo 0) (tr 0) (ac 0) (ah 0) (at_ 0), wB E bo (sE β 4 t (nI m)), wB E tr τ, wC E ac γ, wH E ah bd ((fX3_save η σ β).1), wT E at_ θ, wB E (bd 2) ((fX3_save η σ β).2 2), wB E (bd 3) ((fX3_save η σ β).2 3), wB E (bd 4) ((fX3_save η σ β).2 4), wB E (bd 5) ((fX3_save η σ β).2 5), wB E (bd 6) ((fX3_save η σ β).2 6), wB E (bd 7) ((fX3_save η σ β).2 7), wB E (bd 8) ((fX3_save η σ β).2 8), wB E (bd 9) ((fX3_save η σ β).2 9)]) 1 5 t rfl rfl rfl (by omega) (by decide) rfl rfl dX6_plan_78 ?_
          refine g_aload_n C dX6_plan_79 rfl 0 rfl ?_
          refine g_getf C (T := TX6) (N := 5) 0 0 rfl rfl rfl inX6 0 (by decide) q1_179 rfl dX6_plan_80 ?_
          refine g_iload_n C dX6_plan_83 rfl 2 rfl ?_
          refine g_callS C (cs1 := [wX ax (bo 0) (tr 0) (ac 0) (ah 0) (at_ 0), wB E bo (sE β 4 t (nI m)), wB E tr τ, wC E ac γ, wH E ah bd ((fX3_save η σ β).1), wT E at_ θ, wB E (bd 2) ((fX3_save η σ β).2 2), wB E (bd 3) ((fX3_save η σ β).2 3), wB E (bd 4) ((fX3_save η σ β).2 4), wB E (bd 5) ((fX3_save η σ β).2 5), wB E (bd 6) ((fX3_save η σ β).2 6), wB E (bd 7) ((fX3_save η σ β).2 7), wB E (bd 8) ((fX3_save η σ β).2 8), wB E (bd 9) ((fX3_save η σ β).2 9)]) (st1 := [.int (fX5_leftFor (sE β 4 t (nI m)) (nI m))]) [.ref (bo 0), .int (nI m)] [1] (kX5_leftFor l E bo (sE β 4 t (nI m)) hv (nI m)) caX5_leftFor q3_22 rfl ⟨Nat.le_of_ble_eq_true rfl, Nat.le_of_ble_eq_true rfl⟩ ⟨Nat.zero_le _, Nat.zero_le _⟩ (by decide) rfl rfl rfl rfl (Nat.le_of_ble_eq_true rfl) dX6_plan_84 rfl ?_
          have e_5 : fT_plan β η σ t m = ((fX5_leftFor (sE β 4 t (nI m)) (nI m)), sE β 4 t (nI m), (fX3_save η σ β).1, (fX3_save η σ β).2) := by rw [fT_plan]
          exact g_iret C hE (by rw [e_5]) (by rw [e_5] <;> rfl) dX6_plan_87
def fT_changeDate (β : BS) (η : BS) (σ : Nat → BS) (m : Nat) (d : Int32) : Int32 × BS × BS × (Nat → BS) :=
  ((fX0_setDate β m d).1, (fX0_setDate β m d).2, (fX3_save η σ β).1, (fX3_save η σ β).2)
theorem caX6_changeDate : gCalV yX6_changeDate cX6_changeDate 3 (some .int) 2 := ⟨⟨q3_160, q1_1, by decide +kernel⟩, q3_158, q3_159⟩
set_option maxHeartbeats 4000000 in
set_option maxRecDepth 100000 in
theorem kT_changeDate (l : Launch) (E : gE) (ax : Nat) (bo : Nat → Nat) (β : BS) (tr : Nat → Nat) (τ : BS) (ac : Nat → Nat) (γ : BS) (ah : Nat → Nat) (bd : Nat → Nat → Nat) (η : BS) (σ : Nat → BS) (at_ : Nat → Nat) (θ : BS) (hv : vB β) (hvh : vH η)  (m : Nat) (hm : m < 4) (d : Int32) (hq1 : (fX6_isMilestone (nI m)) = true) (hq2 : (fX6_within d 0 999) = true) : MC l E yX6_changeDate cX6_changeDate 3 (some .int) 4 87 [.ref ax, .int (nI m), .int d] [wX ax (bo 0) (tr 0) (ac 0) (ah 0) (at_ 0), wB E bo β, wB E tr τ, wC E ac γ, wH E ah bd η, wT E at_ θ, wB E (bd 2) (σ 2), wB E (bd 3) (σ 3), wB E (bd 4) (σ 4), wB E (bd 5) (σ 5), wB E (bd 6) (σ 6), wB E (bd 7) (σ 7), wB E (bd 8) (σ 8), wB E (bd 9) (σ 9)] (some (.int (fT_changeDate β η σ m d).1)) [wX ax (bo 0) (tr 0) (ac 0) (ah 0) (at_ 0), wB E bo ((fT_changeDate β η σ m d).2.1), wB E tr τ, wC E ac γ, wH E ah bd ((fT_changeDate β η σ m d).2.2.1), wT E at_ θ, wB E (bd 2) ((fT_changeDate β η σ m d).2.2.2 2), wB E (bd 3) ((fT_changeDate β η σ m d).2.2.2 3), wB E (bd 4) ((fT_changeDate β η σ m d).2.2.2 4), wB E (bd 5) ((fT_changeDate β η σ m d).2.2.2 5), wB E (bd 6) ((fT_changeDate β η σ m d).2.2.2 6), wB E (bd 7) ((fT_changeDate β η σ m d).2.2.2 7), wB E (bd 8) ((fT_changeDate β η σ m d).2.2.2 8), wB E (bd 9) ((fT_changeDate β η σ m d).2.2.2 9)] := by
  have hv1 : cnt β ≤ 20 := hv.1
  refine mc_of (by decide +kernel) (Nat.le_of_ble_eq_true rfl) (lv := [(0, .ref ax), (1, .int (nI m)), (2, .int d)]) rfl (fun X C hE => ?_)
  refine g_iload_n C dX6_changeDate_0 rfl 1 rfl ?_
  refine g_callS C (cs1 := [wX ax (bo 0) (tr 0) (ac 0) (ah 0) (at_ 0), wB E bo β, wB E tr τ, wC E ac γ, wH E ah bd η, wT E at_ θ, wB E (bd 2) (σ 2), wB E (bd 3) (σ 3), wB E (bd 4) (σ 4), wB E (bd 5) (σ 5), wB E (bd 6) (σ 6), wB E (bd 7) (σ 7), wB E (bd 8) (σ 8), wB E (bd 9) (σ 9)]) (st1 := [.int (b2i (fX6_isMilestone (nI m)))]) [.int (nI m)] [] (kX6_isMilestone l E (nI m)) caX6_isMilestone q2_92 rfl ⟨Nat.le_of_ble_eq_true rfl, Nat.le_of_ble_eq_true rfl⟩ ⟨Nat.zero_le _, Nat.zero_le _⟩ (by decide) rfl rfl rfl rfl (Nat.le_of_ble_eq_true rfl) dX6_changeDate_1 rfl ?_
  refine g_callS C (cs1 := [wX ax (bo 0) (tr 0) (ac 0) (ah 0) (at_ 0), wB E bo β, wB E tr τ, wC E ac γ, wH E ah bd η, wT E at_ θ, wB E (bd 2) (σ 2), wB E (bd 3) (σ 3), wB E (bd 4) (σ 4), wB E (bd 5) (σ 5), wB E (bd 6) (σ 6), wB E (bd 7) (σ 7), wB E (bd 8) (σ 8), wB E (bd 9) (σ 9)]) (st1 := []) [.int (b2i (fX6_isMilestone (nI m)))] [] (kT_requireIndex l E (fX6_isMilestone (nI m)) hq1) caX6_requireIndex q2_69 rfl ⟨Nat.le_of_ble_eq_true rfl, Nat.le_of_ble_eq_true rfl⟩ ⟨Nat.zero_le _, Nat.zero_le _⟩ (by decide) rfl rfl rfl rfl (Nat.le_of_ble_eq_true rfl) dX6_changeDate_4 rfl ?_
  refine g_iload_n C dX6_changeDate_7 rfl 2 rfl ?_
  refine g_iconst C (v := 0) dX6_changeDate_8 (by decide) ?_
  refine g_sipush C (v := 999) dX6_changeDate_9 (by decide) ?_
  refine g_callS C (cs1 := [wX ax (bo 0) (tr 0) (ac 0) (ah 0) (at_ 0), wB E bo β, wB E tr τ, wC E ac γ, wH E ah bd η, wT E at_ θ, wB E (bd 2) (σ 2), wB E (bd 3) (σ 3), wB E (bd 4) (σ 4), wB E (bd 5) (σ 5), wB E (bd 6) (σ 6), wB E (bd 7) (σ 7), wB E (bd 8) (σ 8), wB E (bd 9) (σ 9)]) (st1 := [.int (b2i (fX6_within d 0 999))]) [.int d, .int 0, .int 999] [] (kX6_within l E d 0 999) caX6_within q2_66 rfl ⟨Nat.le_of_ble_eq_true rfl, Nat.le_of_ble_eq_true rfl⟩ ⟨Nat.zero_le _, Nat.zero_le _⟩ (by decide) rfl rfl rfl rfl (Nat.le_of_ble_eq_true rfl) dX6_changeDate_12 rfl ?_
  refine g_callS C (cs1 := [wX ax (bo 0) (tr 0) (ac 0) (ah 0) (at_ 0), wB E bo β, wB E tr τ, wC E ac γ, wH E ah bd η, wT E at_ θ, wB E (bd 2) (σ 2), wB E (bd 3) (σ 3), wB E (bd 4) (σ 4), wB E (bd 5) (σ 5), wB E (bd 6) (σ 6), wB E (bd 7) (σ 7), wB E (bd 8) (σ 8), wB E (bd 9) (σ 9)]) (st1 := []) [.int (b2i (fX6_within d 0 999))] [] (kT_requireArgument l E (fX6_within d 0 999) hq2) caX6_requireArgument q3_34 rfl ⟨Nat.le_of_ble_eq_true rfl, Nat.le_of_ble_eq_true rfl⟩ ⟨Nat.zero_le _, Nat.zero_le _⟩ (by decide) rfl rfl rfl rfl (Nat.le_of_ble_eq_true rfl) dX6_changeDate_15 rfl ?_
  refine g_aload_n C dX6_changeDate_18 rfl 0 rfl ?_
  refine g_getf C (T := TX6) (N := 5) 0 0 rfl rfl rfl inX6 3 (by decide) q1_182 rfl dX6_changeDate_19 ?_
  refine g_aload_n C dX6_changeDate_22 rfl 0 rfl ?_
  refine g_getf C (T := TX6) (N := 5) 0 0 rfl rfl rfl inX6 0 (by decide) q1_179 rfl dX6_changeDate_23 ?_
  refine g_callV C (cs1 := [wX ax (bo 0) (tr 0) (ac 0) (ah 0) (at_ 0), wB E bo β, wB E tr τ, wC E ac γ, wH E ah bd ((fX3_save η σ β).1), wT E at_ θ, wB E (bd 2) ((fX3_save η σ β).2 2), wB E (bd 3) ((fX3_save η σ β).2 3), wB E (bd 4) ((fX3_save η σ β).2 4), wB E (bd 5) ((fX3_save η σ β).2 5), wB E (bd 6) ((fX3_save η σ β).2 6), wB E (bd 7) ((fX3_save η σ β).2 7), wB E (bd 8) ((fX3_save η σ β).2 8), wB E (bd 9) ((fX3_save η σ β).2 9)]) (st1 := []) [.ref (bo 0)] [4, 6, 7, 8, 9, 10, 11, 12, 13, 1] (kX3_save l E ah bd η σ bo β hvh) caX3_save q3_57 rfl ⟨Nat.le_of_ble_eq_true rfl, Nat.le_of_ble_eq_true rfl⟩ ⟨Nat.zero_le _, Nat.zero_le _⟩ 4 0 rfl rfl rfl rfl (by decide) rfl rfl rfl rfl (Nat.le_of_ble_eq_true rfl) dX6_changeDate_26 rfl ?_
  refine g_aload_n C dX6_changeDate_29 rfl 0 rfl ?_
  refine g_getf C (T := TX6) (N := 5) 0 0 rfl rfl rfl inX6 0 (by decide) q1_179 rfl dX6_changeDate_30 ?_
  refine g_iload_n C dX6_changeDate_33 rfl 1 rfl ?_
  refine g_iload_n C dX6_changeDate_34 rfl 2 rfl ?_
  refine g_callV C (cs1 := [wX ax (bo 0) (tr 0) (ac 0) (ah 0) (at_ 0), wB E bo ((fX0_setDate β m d).2), wB E tr τ, wC E ac γ, wH E ah bd ((fX3_save η σ β).1), wT E at_ θ, wB E (bd 2) ((fX3_save η σ β).2 2), wB E (bd 3) ((fX3_save η σ β).2 3), wB E (bd 4) ((fX3_save η σ β).2 4), wB E (bd 5) ((fX3_save η σ β).2 5), wB E (bd 6) ((fX3_save η σ β).2 6), wB E (bd 7) ((fX3_save η σ β).2 7), wB E (bd 8) ((fX3_save η σ β).2 8), wB E (bd 9) ((fX3_save η σ β).2 9)]) (st1 := [.int ((fX0_setDate β m d).1)]) [.int (nI m), .int d] [1] (kX0_setDate l E bo β m (by omega) d) caX0_setDate q3_161 rfl ⟨Nat.le_of_ble_eq_true rfl, Nat.le_of_ble_eq_true rfl⟩ ⟨Nat.zero_le _, Nat.zero_le _⟩ 1 0 rfl rfl rfl rfl (by decide) rfl rfl rfl rfl (Nat.le_of_ble_eq_true rfl) dX6_changeDate_35 rfl ?_
  have e_1 : fT_changeDate β η σ m d = ((fX0_setDate β m d).1, (fX0_setDate β m d).2, (fX3_save η σ β).1, (fX3_save η σ β).2) := by rw [fT_changeDate]
  exact g_iret C hE (by rw [e_1]) (by rw [e_1] <;> rfl) dX6_changeDate_38
def fT_endDays (β : BS) (η : BS) (σ : Nat → BS) (d : Int32) : Int32 × BS × BS × (Nat → BS) :=
  ((fX0_pass β d).1, (fX0_pass β d).2, (fX3_save η σ β).1, (fX3_save η σ β).2)
theorem caX6_endDays : gCalV yX6_endDays cX6_endDays 2 (some .int) 1 := ⟨⟨q3_148, q1_1, by decide +kernel⟩, q3_146, q3_147⟩
set_option maxHeartbeats 4000000 in
set_option maxRecDepth 100000 in
theorem kT_endDays (l : Launch) (E : gE) (ax : Nat) (bo : Nat → Nat) (β : BS) (tr : Nat → Nat) (τ : BS) (ac : Nat → Nat) (γ : BS) (ah : Nat → Nat) (bd : Nat → Nat → Nat) (η : BS) (σ : Nat → BS) (at_ : Nat → Nat) (θ : BS) (hv : vB β) (hvh : vH η)  (d : Int32) (hq1 : (fX6_within d 1 30) = true) (hq2 : (fX0_canPass β d) = true) : MC l E yX6_endDays cX6_endDays 2 (some .int) 4 87 [.ref ax, .int d] [wX ax (bo 0) (tr 0) (ac 0) (ah 0) (at_ 0), wB E bo β, wB E tr τ, wC E ac γ, wH E ah bd η, wT E at_ θ, wB E (bd 2) (σ 2), wB E (bd 3) (σ 3), wB E (bd 4) (σ 4), wB E (bd 5) (σ 5), wB E (bd 6) (σ 6), wB E (bd 7) (σ 7), wB E (bd 8) (σ 8), wB E (bd 9) (σ 9)] (some (.int (fT_endDays β η σ d).1)) [wX ax (bo 0) (tr 0) (ac 0) (ah 0) (at_ 0), wB E bo ((fT_endDays β η σ d).2.1), wB E tr τ, wC E ac γ, wH E ah bd ((fT_endDays β η σ d).2.2.1), wT E at_ θ, wB E (bd 2) ((fT_endDays β η σ d).2.2.2 2), wB E (bd 3) ((fT_endDays β η σ d).2.2.2 3), wB E (bd 4) ((fT_endDays β η σ d).2.2.2 4), wB E (bd 5) ((fT_endDays β η σ d).2.2.2 5), wB E (bd 6) ((fT_endDays β η σ d).2.2.2 6), wB E (bd 7) ((fT_endDays β η σ d).2.2.2 7), wB E (bd 8) ((fT_endDays β η σ d).2.2.2 8), wB E (bd 9) ((fT_endDays β η σ d).2.2.2 9)] := by
  have hv1 : cnt β ≤ 20 := hv.1
  refine mc_of (by decide +kernel) (Nat.le_of_ble_eq_true rfl) (lv := [(0, .ref ax), (1, .int d)]) rfl (fun X C hE => ?_)
  refine g_iload_n C dX6_endDays_0 rfl 1 rfl ?_
  refine g_iconst C (v := 1) dX6_endDays_1 (by decide) ?_
  refine g_bipush C (v := 30) dX6_endDays_2 (by decide) ?_
  refine g_callS C (cs1 := [wX ax (bo 0) (tr 0) (ac 0) (ah 0) (at_ 0), wB E bo β, wB E tr τ, wC E ac γ, wH E ah bd η, wT E at_ θ, wB E (bd 2) (σ 2), wB E (bd 3) (σ 3), wB E (bd 4) (σ 4), wB E (bd 5) (σ 5), wB E (bd 6) (σ 6), wB E (bd 7) (σ 7), wB E (bd 8) (σ 8), wB E (bd 9) (σ 9)]) (st1 := [.int (b2i (fX6_within d 1 30))]) [.int d, .int 1, .int 30] [] (kX6_within l E d 1 30) caX6_within q2_66 rfl ⟨Nat.le_of_ble_eq_true rfl, Nat.le_of_ble_eq_true rfl⟩ ⟨Nat.zero_le _, Nat.zero_le _⟩ (by decide) rfl rfl rfl rfl (Nat.le_of_ble_eq_true rfl) dX6_endDays_4 rfl ?_
  refine g_callS C (cs1 := [wX ax (bo 0) (tr 0) (ac 0) (ah 0) (at_ 0), wB E bo β, wB E tr τ, wC E ac γ, wH E ah bd η, wT E at_ θ, wB E (bd 2) (σ 2), wB E (bd 3) (σ 3), wB E (bd 4) (σ 4), wB E (bd 5) (σ 5), wB E (bd 6) (σ 6), wB E (bd 7) (σ 7), wB E (bd 8) (σ 8), wB E (bd 9) (σ 9)]) (st1 := []) [.int (b2i (fX6_within d 1 30))] [] (kT_requireArgument l E (fX6_within d 1 30) hq1) caX6_requireArgument q3_34 rfl ⟨Nat.le_of_ble_eq_true rfl, Nat.le_of_ble_eq_true rfl⟩ ⟨Nat.zero_le _, Nat.zero_le _⟩ (by decide) rfl rfl rfl rfl (Nat.le_of_ble_eq_true rfl) dX6_endDays_7 rfl ?_
  refine g_aload_n C dX6_endDays_10 rfl 0 rfl ?_
  refine g_getf C (T := TX6) (N := 5) 0 0 rfl rfl rfl inX6 0 (by decide) q1_179 rfl dX6_endDays_11 ?_
  refine g_iload_n C dX6_endDays_14 rfl 1 rfl ?_
  refine g_callV C (cs1 := [wX ax (bo 0) (tr 0) (ac 0) (ah 0) (at_ 0), wB E bo β, wB E tr τ, wC E ac γ, wH E ah bd η, wT E at_ θ, wB E (bd 2) (σ 2), wB E (bd 3) (σ 3), wB E (bd 4) (σ 4), wB E (bd 5) (σ 5), wB E (bd 6) (σ 6), wB E (bd 7) (σ 7), wB E (bd 8) (σ 8), wB E (bd 9) (σ 9)]) (st1 := [.int (b2i (fX0_canPass β d))]) [.int d] [1] (kX0_canPass l E bo β d) caX0_canPass q3_149 rfl ⟨Nat.le_of_ble_eq_true rfl, Nat.le_of_ble_eq_true rfl⟩ ⟨Nat.zero_le _, Nat.zero_le _⟩ 1 0 rfl rfl rfl rfl (by decide) rfl rfl rfl rfl (Nat.le_of_ble_eq_true rfl) dX6_endDays_15 rfl ?_
  refine g_callS C (cs1 := [wX ax (bo 0) (tr 0) (ac 0) (ah 0) (at_ 0), wB E bo β, wB E tr τ, wC E ac γ, wH E ah bd η, wT E at_ θ, wB E (bd 2) (σ 2), wB E (bd 3) (σ 3), wB E (bd 4) (σ 4), wB E (bd 5) (σ 5), wB E (bd 6) (σ 6), wB E (bd 7) (σ 7), wB E (bd 8) (σ 8), wB E (bd 9) (σ 9)]) (st1 := []) [.int (b2i (fX0_canPass β d))] [] (kT_requireState l E (fX0_canPass β d) hq2) caX6_requireState q1_203 rfl ⟨Nat.le_of_ble_eq_true rfl, Nat.le_of_ble_eq_true rfl⟩ ⟨Nat.zero_le _, Nat.zero_le _⟩ (by decide) rfl rfl rfl rfl (Nat.le_of_ble_eq_true rfl) dX6_endDays_18 rfl ?_
  refine g_aload_n C dX6_endDays_21 rfl 0 rfl ?_
  refine g_getf C (T := TX6) (N := 5) 0 0 rfl rfl rfl inX6 3 (by decide) q1_182 rfl dX6_endDays_22 ?_
  refine g_aload_n C dX6_endDays_25 rfl 0 rfl ?_
  refine g_getf C (T := TX6) (N := 5) 0 0 rfl rfl rfl inX6 0 (by decide) q1_179 rfl dX6_endDays_26 ?_
  refine g_callV C (cs1 := [wX ax (bo 0) (tr 0) (ac 0) (ah 0) (at_ 0), wB E bo β, wB E tr τ, wC E ac γ, wH E ah bd ((fX3_save η σ β).1), wT E at_ θ, wB E (bd 2) ((fX3_save η σ β).2 2), wB E (bd 3) ((fX3_save η σ β).2 3), wB E (bd 4) ((fX3_save η σ β).2 4), wB E (bd 5) ((fX3_save η σ β).2 5), wB E (bd 6) ((fX3_save η σ β).2 6), wB E (bd 7) ((fX3_save η σ β).2 7), wB E (bd 8) ((fX3_save η σ β).2 8), wB E (bd 9) ((fX3_save η σ β).2 9)]) (st1 := []) [.ref (bo 0)] [4, 6, 7, 8, 9, 10, 11, 12, 13, 1] (kX3_save l E ah bd η σ bo β hvh) caX3_save q3_57 rfl ⟨Nat.le_of_ble_eq_true rfl, Nat.le_of_ble_eq_true rfl⟩ ⟨Nat.zero_le _, Nat.zero_le _⟩ 4 0 rfl rfl rfl rfl (by decide) rfl rfl rfl rfl (Nat.le_of_ble_eq_true rfl) dX6_endDays_29 rfl ?_
  refine g_aload_n C dX6_endDays_32 rfl 0 rfl ?_
  refine g_getf C (T := TX6) (N := 5) 0 0 rfl rfl rfl inX6 0 (by decide) q1_179 rfl dX6_endDays_33 ?_
  refine g_iload_n C dX6_endDays_36 rfl 1 rfl ?_
  refine g_callV C (cs1 := [wX ax (bo 0) (tr 0) (ac 0) (ah 0) (at_ 0), wB E bo ((fX0_pass β d).2), wB E tr τ, wC E ac γ, wH E ah bd ((fX3_save η σ β).1), wT E at_ θ, wB E (bd 2) ((fX3_save η σ β).2 2), wB E (bd 3) ((fX3_save η σ β).2 3), wB E (bd 4) ((fX3_save η σ β).2 4), wB E (bd 5) ((fX3_save η σ β).2 5), wB E (bd 6) ((fX3_save η σ β).2 6), wB E (bd 7) ((fX3_save η σ β).2 7), wB E (bd 8) ((fX3_save η σ β).2 8), wB E (bd 9) ((fX3_save η σ β).2 9)]) (st1 := [.int ((fX0_pass β d).1)]) [.int d] [1] (kX0_pass l E bo β hv d) caX0_pass q3_153 rfl ⟨Nat.le_of_ble_eq_true rfl, Nat.le_of_ble_eq_true rfl⟩ ⟨Nat.zero_le _, Nat.zero_le _⟩ 1 0 rfl rfl rfl rfl (by decide) rfl rfl rfl rfl (Nat.le_of_ble_eq_true rfl) dX6_endDays_37 rfl ?_
  have e_1 : fT_endDays β η σ d = ((fX0_pass β d).1, (fX0_pass β d).2, (fX3_save η σ β).1, (fX3_save η σ β).2) := by rw [fT_endDays]
  exact g_iret C hE (by rw [e_1]) (by rw [e_1] <;> rfl) dX6_endDays_40
def fT_start (β : BS) (η : BS) (σ : Nat → BS) (t : Nat) : BS × BS × (Nat → BS) :=
  (sE β 0 t 1, (fX3_save η σ β).1, (fX3_save η σ β).2)
theorem caX6_start : gCalV yX6_start cX6_start 2 none 1 := ⟨⟨q3_171, q1_1, by decide +kernel⟩, q3_169, q3_170⟩
set_option maxHeartbeats 4000000 in
set_option maxRecDepth 100000 in
theorem kT_start (l : Launch) (E : gE) (ax : Nat) (bo : Nat → Nat) (β : BS) (tr : Nat → Nat) (τ : BS) (ac : Nat → Nat) (γ : BS) (ah : Nat → Nat) (bd : Nat → Nat → Nat) (η : BS) (σ : Nat → BS) (at_ : Nat → Nat) (θ : BS) (hv : vB β) (hvh : vH η)  (t : Nat) (ht : t < 20) (hq1 : (fX0_hasTicket β (nI t)) = true) (hq2 : (fX0_canStart β t) = true) : MC l E yX6_start cX6_start 2 none 4 87 [.ref ax, .int (nI t)] [wX ax (bo 0) (tr 0) (ac 0) (ah 0) (at_ 0), wB E bo β, wB E tr τ, wC E ac γ, wH E ah bd η, wT E at_ θ, wB E (bd 2) (σ 2), wB E (bd 3) (σ 3), wB E (bd 4) (σ 4), wB E (bd 5) (σ 5), wB E (bd 6) (σ 6), wB E (bd 7) (σ 7), wB E (bd 8) (σ 8), wB E (bd 9) (σ 9)] none [wX ax (bo 0) (tr 0) (ac 0) (ah 0) (at_ 0), wB E bo ((fT_start β η σ t).1), wB E tr τ, wC E ac γ, wH E ah bd ((fT_start β η σ t).2.1), wT E at_ θ, wB E (bd 2) ((fT_start β η σ t).2.2 2), wB E (bd 3) ((fT_start β η σ t).2.2 3), wB E (bd 4) ((fT_start β η σ t).2.2 4), wB E (bd 5) ((fT_start β η σ t).2.2 5), wB E (bd 6) ((fT_start β η σ t).2.2 6), wB E (bd 7) ((fT_start β η σ t).2.2 7), wB E (bd 8) ((fT_start β η σ t).2.2 8), wB E (bd 9) ((fT_start β η σ t).2.2 9)] := by
  have hv1 : cnt β ≤ 20 := hv.1
  refine mc_of (by decide +kernel) (Nat.le_of_ble_eq_true rfl) (lv := [(0, .ref ax), (1, .int (nI t))]) rfl (fun X C hE => ?_)
  refine g_aload_n C dX6_start_0 rfl 0 rfl ?_
  refine g_getf C (T := TX6) (N := 5) 0 0 rfl rfl rfl inX6 0 (by decide) q1_179 rfl dX6_start_1 ?_
  refine g_iload_n C dX6_start_4 rfl 1 rfl ?_
  refine g_callV C (cs1 := [wX ax (bo 0) (tr 0) (ac 0) (ah 0) (at_ 0), wB E bo β, wB E tr τ, wC E ac γ, wH E ah bd η, wT E at_ θ, wB E (bd 2) (σ 2), wB E (bd 3) (σ 3), wB E (bd 4) (σ 4), wB E (bd 5) (σ 5), wB E (bd 6) (σ 6), wB E (bd 7) (σ 7), wB E (bd 8) (σ 8), wB E (bd 9) (σ 9)]) (st1 := [.int (b2i (fX0_hasTicket β (nI t)))]) [.int (nI t)] [1] (kX0_hasTicket l E bo β (nI t)) caX0_hasTicket q2_197 rfl ⟨Nat.le_of_ble_eq_true rfl, Nat.le_of_ble_eq_true rfl⟩ ⟨Nat.zero_le _, Nat.zero_le _⟩ 1 0 rfl rfl rfl rfl (by decide) rfl rfl rfl rfl (Nat.le_of_ble_eq_true rfl) dX6_start_5 rfl ?_
  refine g_callS C (cs1 := [wX ax (bo 0) (tr 0) (ac 0) (ah 0) (at_ 0), wB E bo β, wB E tr τ, wC E ac γ, wH E ah bd η, wT E at_ θ, wB E (bd 2) (σ 2), wB E (bd 3) (σ 3), wB E (bd 4) (σ 4), wB E (bd 5) (σ 5), wB E (bd 6) (σ 6), wB E (bd 7) (σ 7), wB E (bd 8) (σ 8), wB E (bd 9) (σ 9)]) (st1 := []) [.int (b2i (fX0_hasTicket β (nI t)))] [] (kT_requireIndex l E (fX0_hasTicket β (nI t)) hq1) caX6_requireIndex q2_69 rfl ⟨Nat.le_of_ble_eq_true rfl, Nat.le_of_ble_eq_true rfl⟩ ⟨Nat.zero_le _, Nat.zero_le _⟩ (by decide) rfl rfl rfl rfl (Nat.le_of_ble_eq_true rfl) dX6_start_8 rfl ?_
  refine g_aload_n C dX6_start_11 rfl 0 rfl ?_
  refine g_getf C (T := TX6) (N := 5) 0 0 rfl rfl rfl inX6 0 (by decide) q1_179 rfl dX6_start_12 ?_
  refine g_iload_n C dX6_start_15 rfl 1 rfl ?_
  refine g_callV C (cs1 := [wX ax (bo 0) (tr 0) (ac 0) (ah 0) (at_ 0), wB E bo β, wB E tr τ, wC E ac γ, wH E ah bd η, wT E at_ θ, wB E (bd 2) (σ 2), wB E (bd 3) (σ 3), wB E (bd 4) (σ 4), wB E (bd 5) (σ 5), wB E (bd 6) (σ 6), wB E (bd 7) (σ 7), wB E (bd 8) (σ 8), wB E (bd 9) (σ 9)]) (st1 := [.int (b2i (fX0_canStart β t))]) [.int (nI t)] [1] (kX0_canStart l E bo β t (by omega)) caX0_canStart q3_172 rfl ⟨Nat.le_of_ble_eq_true rfl, Nat.le_of_ble_eq_true rfl⟩ ⟨Nat.zero_le _, Nat.zero_le _⟩ 1 0 rfl rfl rfl rfl (by decide) rfl rfl rfl rfl (Nat.le_of_ble_eq_true rfl) dX6_start_16 rfl ?_
  refine g_callS C (cs1 := [wX ax (bo 0) (tr 0) (ac 0) (ah 0) (at_ 0), wB E bo β, wB E tr τ, wC E ac γ, wH E ah bd η, wT E at_ θ, wB E (bd 2) (σ 2), wB E (bd 3) (σ 3), wB E (bd 4) (σ 4), wB E (bd 5) (σ 5), wB E (bd 6) (σ 6), wB E (bd 7) (σ 7), wB E (bd 8) (σ 8), wB E (bd 9) (σ 9)]) (st1 := []) [.int (b2i (fX0_canStart β t))] [] (kT_requireState l E (fX0_canStart β t) hq2) caX6_requireState q1_203 rfl ⟨Nat.le_of_ble_eq_true rfl, Nat.le_of_ble_eq_true rfl⟩ ⟨Nat.zero_le _, Nat.zero_le _⟩ (by decide) rfl rfl rfl rfl (Nat.le_of_ble_eq_true rfl) dX6_start_19 rfl ?_
  refine g_aload_n C dX6_start_22 rfl 0 rfl ?_
  refine g_getf C (T := TX6) (N := 5) 0 0 rfl rfl rfl inX6 3 (by decide) q1_182 rfl dX6_start_23 ?_
  refine g_aload_n C dX6_start_26 rfl 0 rfl ?_
  refine g_getf C (T := TX6) (N := 5) 0 0 rfl rfl rfl inX6 0 (by decide) q1_179 rfl dX6_start_27 ?_
  refine g_callV C (cs1 := [wX ax (bo 0) (tr 0) (ac 0) (ah 0) (at_ 0), wB E bo β, wB E tr τ, wC E ac γ, wH E ah bd ((fX3_save η σ β).1), wT E at_ θ, wB E (bd 2) ((fX3_save η σ β).2 2), wB E (bd 3) ((fX3_save η σ β).2 3), wB E (bd 4) ((fX3_save η σ β).2 4), wB E (bd 5) ((fX3_save η σ β).2 5), wB E (bd 6) ((fX3_save η σ β).2 6), wB E (bd 7) ((fX3_save η σ β).2 7), wB E (bd 8) ((fX3_save η σ β).2 8), wB E (bd 9) ((fX3_save η σ β).2 9)]) (st1 := []) [.ref (bo 0)] [4, 6, 7, 8, 9, 10, 11, 12, 13, 1] (kX3_save l E ah bd η σ bo β hvh) caX3_save q3_57 rfl ⟨Nat.le_of_ble_eq_true rfl, Nat.le_of_ble_eq_true rfl⟩ ⟨Nat.zero_le _, Nat.zero_le _⟩ 4 0 rfl rfl rfl rfl (by decide) rfl rfl rfl rfl (Nat.le_of_ble_eq_true rfl) dX6_start_30 rfl ?_
  refine g_aload_n C dX6_start_33 rfl 0 rfl ?_
  refine g_getf C (T := TX6) (N := 5) 0 0 rfl rfl rfl inX6 0 (by decide) q1_179 rfl dX6_start_34 ?_
  refine g_getf C (T := TX0) (N := 17) 1 0 rfl rfl rfl inX0 4 (by decide) q1_42 rfl dX6_start_37 ?_
  refine g_iload_n C dX6_start_40 rfl 1 rfl ?_
  refine g_iconst C (v := 1) dX6_start_41 (by decide) ?_
  refine g_iastn C (w1 := wB E bo (sE β 0 t 1)) (cs1 := [wX ax (bo 0) (tr 0) (ac 0) (ah 0) (at_ 0), wB E bo (sE β 0 t 1), wB E tr τ, wC E ac γ, wH E ah bd ((fX3_save η σ β).1), wT E at_ θ, wB E (bd 2) ((fX3_save η σ β).2 2), wB E (bd 3) ((fX3_save η σ β).2 3), wB E (bd 4) ((fX3_save η σ β).2 4), wB E (bd 5) ((fX3_save η σ β).2 5), wB E (bd 6) ((fX3_save η σ β).2 6), wB E (bd 7) ((fX3_save η σ β).2 7), wB E (bd 8) ((fX3_save η σ β).2 8), wB E (bd 9) ((fX3_save η σ β).2 9)]) 1 1 t rfl rfl rfl (by omega) (by decide) rfl rfl dX6_start_42 ?_
  have e_1 : fT_start β η σ t = (sE β 0 t 1, (fX3_save η σ β).1, (fX3_save η σ β).2) := by rw [fT_start]
  exact g_vret C hE rfl (by rw [e_1] <;> rfl) dX6_start_43
def fT_close (β : BS) (η : BS) (σ : Nat → BS) (t : Nat) : Int32 × BS × BS × (Nat → BS) :=
  ((fJ6_bitCount_0f7a4 ((fX0_blockedSet β) &&& ((fX0_blockedSet (fX0_finish β t)) ^^^ (-1)))), (fX0_finish β t), (fX3_save η σ β).1, (fX3_save η σ β).2)
theorem caX6_close : gCalV yX6_close cX6_close 3 (some .int) 1 := ⟨⟨q3_191, q1_1, by decide +kernel⟩, q3_189, q3_190⟩
set_option maxHeartbeats 4000000 in
set_option maxRecDepth 100000 in
theorem kT_close (l : Launch) (E : gE) (ax : Nat) (bo : Nat → Nat) (β : BS) (tr : Nat → Nat) (τ : BS) (ac : Nat → Nat) (γ : BS) (ah : Nat → Nat) (bd : Nat → Nat → Nat) (η : BS) (σ : Nat → BS) (at_ : Nat → Nat) (θ : BS) (hv : vB β) (hvh : vH η)  (t : Nat) (ht : t < 20) (hq1 : (fX0_hasTicket β (nI t)) = true) (hq2 : (fX0_canClose β t) = true) : MC l E yX6_close cX6_close 3 (some .int) 4 87 [.ref ax, .int (nI t)] [wX ax (bo 0) (tr 0) (ac 0) (ah 0) (at_ 0), wB E bo β, wB E tr τ, wC E ac γ, wH E ah bd η, wT E at_ θ, wB E (bd 2) (σ 2), wB E (bd 3) (σ 3), wB E (bd 4) (σ 4), wB E (bd 5) (σ 5), wB E (bd 6) (σ 6), wB E (bd 7) (σ 7), wB E (bd 8) (σ 8), wB E (bd 9) (σ 9)] (some (.int (fT_close β η σ t).1)) [wX ax (bo 0) (tr 0) (ac 0) (ah 0) (at_ 0), wB E bo ((fT_close β η σ t).2.1), wB E tr τ, wC E ac γ, wH E ah bd ((fT_close β η σ t).2.2.1), wT E at_ θ, wB E (bd 2) ((fT_close β η σ t).2.2.2 2), wB E (bd 3) ((fT_close β η σ t).2.2.2 3), wB E (bd 4) ((fT_close β η σ t).2.2.2 4), wB E (bd 5) ((fT_close β η σ t).2.2.2 5), wB E (bd 6) ((fT_close β η σ t).2.2.2 6), wB E (bd 7) ((fT_close β η σ t).2.2.2 7), wB E (bd 8) ((fT_close β η σ t).2.2.2 8), wB E (bd 9) ((fT_close β η σ t).2.2.2 9)] := by
  have hv1 : cnt β ≤ 20 := hv.1
  refine mc_of (by decide +kernel) (Nat.le_of_ble_eq_true rfl) (lv := [(0, .ref ax), (1, .int (nI t))]) rfl (fun X C hE => ?_)
  refine g_aload_n C dX6_close_0 rfl 0 rfl ?_
  refine g_getf C (T := TX6) (N := 5) 0 0 rfl rfl rfl inX6 0 (by decide) q1_179 rfl dX6_close_1 ?_
  refine g_iload_n C dX6_close_4 rfl 1 rfl ?_
  refine g_callV C (cs1 := [wX ax (bo 0) (tr 0) (ac 0) (ah 0) (at_ 0), wB E bo β, wB E tr τ, wC E ac γ, wH E ah bd η, wT E at_ θ, wB E (bd 2) (σ 2), wB E (bd 3) (σ 3), wB E (bd 4) (σ 4), wB E (bd 5) (σ 5), wB E (bd 6) (σ 6), wB E (bd 7) (σ 7), wB E (bd 8) (σ 8), wB E (bd 9) (σ 9)]) (st1 := [.int (b2i (fX0_hasTicket β (nI t)))]) [.int (nI t)] [1] (kX0_hasTicket l E bo β (nI t)) caX0_hasTicket q2_197 rfl ⟨Nat.le_of_ble_eq_true rfl, Nat.le_of_ble_eq_true rfl⟩ ⟨Nat.zero_le _, Nat.zero_le _⟩ 1 0 rfl rfl rfl rfl (by decide) rfl rfl rfl rfl (Nat.le_of_ble_eq_true rfl) dX6_close_5 rfl ?_
  refine g_callS C (cs1 := [wX ax (bo 0) (tr 0) (ac 0) (ah 0) (at_ 0), wB E bo β, wB E tr τ, wC E ac γ, wH E ah bd η, wT E at_ θ, wB E (bd 2) (σ 2), wB E (bd 3) (σ 3), wB E (bd 4) (σ 4), wB E (bd 5) (σ 5), wB E (bd 6) (σ 6), wB E (bd 7) (σ 7), wB E (bd 8) (σ 8), wB E (bd 9) (σ 9)]) (st1 := []) [.int (b2i (fX0_hasTicket β (nI t)))] [] (kT_requireIndex l E (fX0_hasTicket β (nI t)) hq1) caX6_requireIndex q2_69 rfl ⟨Nat.le_of_ble_eq_true rfl, Nat.le_of_ble_eq_true rfl⟩ ⟨Nat.zero_le _, Nat.zero_le _⟩ (by decide) rfl rfl rfl rfl (Nat.le_of_ble_eq_true rfl) dX6_close_8 rfl ?_
  refine g_aload_n C dX6_close_11 rfl 0 rfl ?_
  refine g_getf C (T := TX6) (N := 5) 0 0 rfl rfl rfl inX6 0 (by decide) q1_179 rfl dX6_close_12 ?_
  refine g_iload_n C dX6_close_15 rfl 1 rfl ?_
  refine g_callV C (cs1 := [wX ax (bo 0) (tr 0) (ac 0) (ah 0) (at_ 0), wB E bo β, wB E tr τ, wC E ac γ, wH E ah bd η, wT E at_ θ, wB E (bd 2) (σ 2), wB E (bd 3) (σ 3), wB E (bd 4) (σ 4), wB E (bd 5) (σ 5), wB E (bd 6) (σ 6), wB E (bd 7) (σ 7), wB E (bd 8) (σ 8), wB E (bd 9) (σ 9)]) (st1 := [.int (b2i (fX0_canClose β t))]) [.int (nI t)] [1] (kX0_canClose l E bo β hv t (by omega)) caX0_canClose q3_192 rfl ⟨Nat.le_of_ble_eq_true rfl, Nat.le_of_ble_eq_true rfl⟩ ⟨Nat.zero_le _, Nat.zero_le _⟩ 1 0 rfl rfl rfl rfl (by decide) rfl rfl rfl rfl (Nat.le_of_ble_eq_true rfl) dX6_close_16 rfl ?_
  refine g_callS C (cs1 := [wX ax (bo 0) (tr 0) (ac 0) (ah 0) (at_ 0), wB E bo β, wB E tr τ, wC E ac γ, wH E ah bd η, wT E at_ θ, wB E (bd 2) (σ 2), wB E (bd 3) (σ 3), wB E (bd 4) (σ 4), wB E (bd 5) (σ 5), wB E (bd 6) (σ 6), wB E (bd 7) (σ 7), wB E (bd 8) (σ 8), wB E (bd 9) (σ 9)]) (st1 := []) [.int (b2i (fX0_canClose β t))] [] (kT_requireState l E (fX0_canClose β t) hq2) caX6_requireState q1_203 rfl ⟨Nat.le_of_ble_eq_true rfl, Nat.le_of_ble_eq_true rfl⟩ ⟨Nat.zero_le _, Nat.zero_le _⟩ (by decide) rfl rfl rfl rfl (Nat.le_of_ble_eq_true rfl) dX6_close_19 rfl ?_
  refine g_aload_n C dX6_close_22 rfl 0 rfl ?_
  refine g_getf C (T := TX6) (N := 5) 0 0 rfl rfl rfl inX6 3 (by decide) q1_182 rfl dX6_close_23 ?_
  refine g_aload_n C dX6_close_26 rfl 0 rfl ?_
  refine g_getf C (T := TX6) (N := 5) 0 0 rfl rfl rfl inX6 0 (by decide) q1_179 rfl dX6_close_27 ?_
  refine g_callV C (cs1 := [wX ax (bo 0) (tr 0) (ac 0) (ah 0) (at_ 0), wB E bo β, wB E tr τ, wC E ac γ, wH E ah bd ((fX3_save η σ β).1), wT E at_ θ, wB E (bd 2) ((fX3_save η σ β).2 2), wB E (bd 3) ((fX3_save η σ β).2 3), wB E (bd 4) ((fX3_save η σ β).2 4), wB E (bd 5) ((fX3_save η σ β).2 5), wB E (bd 6) ((fX3_save η σ β).2 6), wB E (bd 7) ((fX3_save η σ β).2 7), wB E (bd 8) ((fX3_save η σ β).2 8), wB E (bd 9) ((fX3_save η σ β).2 9)]) (st1 := []) [.ref (bo 0)] [4, 6, 7, 8, 9, 10, 11, 12, 13, 1] (kX3_save l E ah bd η σ bo β hvh) caX3_save q3_57 rfl ⟨Nat.le_of_ble_eq_true rfl, Nat.le_of_ble_eq_true rfl⟩ ⟨Nat.zero_le _, Nat.zero_le _⟩ 4 0 rfl rfl rfl rfl (by decide) rfl rfl rfl rfl (Nat.le_of_ble_eq_true rfl) dX6_close_30 rfl ?_
  refine g_aload_n C dX6_close_33 rfl 0 rfl ?_
  refine g_getf C (T := TX6) (N := 5) 0 0 rfl rfl rfl inX6 0 (by decide) q1_179 rfl dX6_close_34 ?_
  refine g_callV C (cs1 := [wX ax (bo 0) (tr 0) (ac 0) (ah 0) (at_ 0), wB E bo β, wB E tr τ, wC E ac γ, wH E ah bd ((fX3_save η σ β).1), wT E at_ θ, wB E (bd 2) ((fX3_save η σ β).2 2), wB E (bd 3) ((fX3_save η σ β).2 3), wB E (bd 4) ((fX3_save η σ β).2 4), wB E (bd 5) ((fX3_save η σ β).2 5), wB E (bd 6) ((fX3_save η σ β).2 6), wB E (bd 7) ((fX3_save η σ β).2 7), wB E (bd 8) ((fX3_save η σ β).2 8), wB E (bd 9) ((fX3_save η σ β).2 9)]) (st1 := [.int (fX0_blockedSet β)]) [] [1] (kX0_blockedSet l E bo β hv) caX0_blockedSet q3_132 rfl ⟨Nat.le_of_ble_eq_true rfl, Nat.le_of_ble_eq_true rfl⟩ ⟨Nat.zero_le _, Nat.zero_le _⟩ 1 0 rfl rfl rfl rfl (by decide) rfl rfl rfl rfl (Nat.le_of_ble_eq_true rfl) dX6_close_37 rfl ?_
  refine g_istore_n C (lv1 := [(2, .int (fX0_blockedSet β)), (0, .ref ax), (1, .int (nI t))]) dX6_close_40 rfl (by decide) rfl ?_
  refine g_aload_n C dX6_close_41 rfl 1 rfl ?_
  refine g_getf C (T := TX6) (N := 5) 0 0 rfl rfl rfl inX6 0 (by decide) q1_179 rfl dX6_close_42 ?_
  refine g_iload_n C dX6_close_45 rfl 2 rfl ?_
  refine g_callV C (cs1 := [wX ax (bo 0) (tr 0) (ac 0) (ah 0) (at_ 0), wB E bo (fX0_finish β t), wB E tr τ, wC E ac γ, wH E ah bd ((fX3_save η σ β).1), wT E at_ θ, wB E (bd 2) ((fX3_save η σ β).2 2), wB E (bd 3) ((fX3_save η σ β).2 3), wB E (bd 4) ((fX3_save η σ β).2 4), wB E (bd 5) ((fX3_save η σ β).2 5), wB E (bd 6) ((fX3_save η σ β).2 6), wB E (bd 7) ((fX3_save η σ β).2 7), wB E (bd 8) ((fX3_save η σ β).2 8), wB E (bd 9) ((fX3_save η σ β).2 9)]) (st1 := []) [.int (nI t)] [1] (kX0_finish l E bo β hv t (by omega)) caX0_finish q3_197 rfl ⟨Nat.le_of_ble_eq_true rfl, Nat.le_of_ble_eq_true rfl⟩ ⟨Nat.zero_le _, Nat.zero_le _⟩ 1 0 rfl rfl rfl rfl (by decide) rfl rfl rfl rfl (Nat.le_of_ble_eq_true rfl) dX6_close_46 rfl ?_
  refine g_iload_n C dX6_close_49 rfl 0 rfl ?_
  refine g_aload_n C dX6_close_50 rfl 1 rfl ?_
  refine g_getf C (T := TX6) (N := 5) 0 0 rfl rfl rfl inX6 0 (by decide) q1_179 rfl dX6_close_51 ?_
  refine g_callV C (cs1 := [wX ax (bo 0) (tr 0) (ac 0) (ah 0) (at_ 0), wB E bo (fX0_finish β t), wB E tr τ, wC E ac γ, wH E ah bd ((fX3_save η σ β).1), wT E at_ θ, wB E (bd 2) ((fX3_save η σ β).2 2), wB E (bd 3) ((fX3_save η σ β).2 3), wB E (bd 4) ((fX3_save η σ β).2 4), wB E (bd 5) ((fX3_save η σ β).2 5), wB E (bd 6) ((fX3_save η σ β).2 6), wB E (bd 7) ((fX3_save η σ β).2 7), wB E (bd 8) ((fX3_save η σ β).2 8), wB E (bd 9) ((fX3_save η σ β).2 9)]) (st1 := [.int (fX0_blockedSet (fX0_finish β t)), .int (fX0_blockedSet β)]) [] [1] (kX0_blockedSet l E bo (fX0_finish β t) (vB_finish hv)) caX0_blockedSet q3_132 rfl ⟨Nat.le_of_ble_eq_true rfl, Nat.le_of_ble_eq_true rfl⟩ ⟨Nat.zero_le _, Nat.zero_le _⟩ 1 0 rfl rfl rfl rfl (by decide) rfl rfl rfl rfl (Nat.le_of_ble_eq_true rfl) dX6_close_54 rfl ?_
  refine g_iconst C (v := -1) dX6_close_57 (by decide) ?_
  refine g_ixor C dX6_close_58 ?_
  refine g_iand C dX6_close_59 ?_
  refine g_callS C (cs1 := [wX ax (bo 0) (tr 0) (ac 0) (ah 0) (at_ 0), wB E bo (fX0_finish β t), wB E tr τ, wC E ac γ, wH E ah bd ((fX3_save η σ β).1), wT E at_ θ, wB E (bd 2) ((fX3_save η σ β).2 2), wB E (bd 3) ((fX3_save η σ β).2 3), wB E (bd 4) ((fX3_save η σ β).2 4), wB E (bd 5) ((fX3_save η σ β).2 5), wB E (bd 6) ((fX3_save η σ β).2 6), wB E (bd 7) ((fX3_save η σ β).2 7), wB E (bd 8) ((fX3_save η σ β).2 8), wB E (bd 9) ((fX3_save η σ β).2 9)]) (st1 := [.int (fJ6_bitCount_0f7a4 ((fX0_blockedSet β) &&& ((fX0_blockedSet (fX0_finish β t)) ^^^ (-1))))]) [.int ((fX0_blockedSet β) &&& ((fX0_blockedSet (fX0_finish β t)) ^^^ (-1)))] [] (kJ6_bitCount_0f7a4 l E ((fX0_blockedSet β) &&& ((fX0_blockedSet (fX0_finish β t)) ^^^ (-1)))) caJ6_bitCount_0f7a4 q2_237 rfl ⟨Nat.le_of_ble_eq_true rfl, Nat.le_of_ble_eq_true rfl⟩ ⟨Nat.zero_le _, Nat.zero_le _⟩ (by decide) rfl rfl rfl rfl (Nat.le_of_ble_eq_true rfl) dX6_close_60 rfl ?_
  have e_1 : fT_close β η σ t = ((fJ6_bitCount_0f7a4 ((fX0_blockedSet β) &&& ((fX0_blockedSet (fX0_finish β t)) ^^^ (-1)))), (fX0_finish β t), (fX3_save η σ β).1, (fX3_save η σ β).2) := by rw [fT_close]
  exact g_iret C hE (by rw [e_1]) (by rw [e_1] <;> rfl) dX6_close_63
def fT_drop (β : BS) (η : BS) (σ : Nat → BS) (t : Nat) : Int32 × BS × BS × (Nat → BS) :=
  ((fJ6_bitCount_0f7a4 ((fX0_blockedSet β) &&& ((fX0_blockedSet (fX0_leaveOff β t 4)) ^^^ (-1)))), (fX0_leaveOff β t 4), (fX3_save η σ β).1, (fX3_save η σ β).2)
theorem caX6_drop : gCalV yX6_drop cX6_drop 3 (some .int) 1 := ⟨⟨q3_131, q1_1, by decide +kernel⟩, q3_129, q3_130⟩
set_option maxHeartbeats 4000000 in
set_option maxRecDepth 100000 in
theorem kT_drop (l : Launch) (E : gE) (ax : Nat) (bo : Nat → Nat) (β : BS) (tr : Nat → Nat) (τ : BS) (ac : Nat → Nat) (γ : BS) (ah : Nat → Nat) (bd : Nat → Nat → Nat) (η : BS) (σ : Nat → BS) (at_ : Nat → Nat) (θ : BS) (hv : vB β) (hvh : vH η)  (t : Nat) (ht : t < 20) (hq1 : (fX0_hasTicket β (nI t)) = true) (hq2 : (fX0_isUnfinished β t) = true) : MC l E yX6_drop cX6_drop 3 (some .int) 4 87 [.ref ax, .int (nI t)] [wX ax (bo 0) (tr 0) (ac 0) (ah 0) (at_ 0), wB E bo β, wB E tr τ, wC E ac γ, wH E ah bd η, wT E at_ θ, wB E (bd 2) (σ 2), wB E (bd 3) (σ 3), wB E (bd 4) (σ 4), wB E (bd 5) (σ 5), wB E (bd 6) (σ 6), wB E (bd 7) (σ 7), wB E (bd 8) (σ 8), wB E (bd 9) (σ 9)] (some (.int (fT_drop β η σ t).1)) [wX ax (bo 0) (tr 0) (ac 0) (ah 0) (at_ 0), wB E bo ((fT_drop β η σ t).2.1), wB E tr τ, wC E ac γ, wH E ah bd ((fT_drop β η σ t).2.2.1), wT E at_ θ, wB E (bd 2) ((fT_drop β η σ t).2.2.2 2), wB E (bd 3) ((fT_drop β η σ t).2.2.2 3), wB E (bd 4) ((fT_drop β η σ t).2.2.2 4), wB E (bd 5) ((fT_drop β η σ t).2.2.2 5), wB E (bd 6) ((fT_drop β η σ t).2.2.2 6), wB E (bd 7) ((fT_drop β η σ t).2.2.2 7), wB E (bd 8) ((fT_drop β η σ t).2.2.2 8), wB E (bd 9) ((fT_drop β η σ t).2.2.2 9)] := by
  have hv1 : cnt β ≤ 20 := hv.1
  refine mc_of (by decide +kernel) (Nat.le_of_ble_eq_true rfl) (lv := [(0, .ref ax), (1, .int (nI t))]) rfl (fun X C hE => ?_)
  refine g_aload_n C dX6_drop_0 rfl 0 rfl ?_
  refine g_getf C (T := TX6) (N := 5) 0 0 rfl rfl rfl inX6 0 (by decide) q1_179 rfl dX6_drop_1 ?_
  refine g_iload_n C dX6_drop_4 rfl 1 rfl ?_
  refine g_callV C (cs1 := [wX ax (bo 0) (tr 0) (ac 0) (ah 0) (at_ 0), wB E bo β, wB E tr τ, wC E ac γ, wH E ah bd η, wT E at_ θ, wB E (bd 2) (σ 2), wB E (bd 3) (σ 3), wB E (bd 4) (σ 4), wB E (bd 5) (σ 5), wB E (bd 6) (σ 6), wB E (bd 7) (σ 7), wB E (bd 8) (σ 8), wB E (bd 9) (σ 9)]) (st1 := [.int (b2i (fX0_hasTicket β (nI t)))]) [.int (nI t)] [1] (kX0_hasTicket l E bo β (nI t)) caX0_hasTicket q2_197 rfl ⟨Nat.le_of_ble_eq_true rfl, Nat.le_of_ble_eq_true rfl⟩ ⟨Nat.zero_le _, Nat.zero_le _⟩ 1 0 rfl rfl rfl rfl (by decide) rfl rfl rfl rfl (Nat.le_of_ble_eq_true rfl) dX6_drop_5 rfl ?_
  refine g_callS C (cs1 := [wX ax (bo 0) (tr 0) (ac 0) (ah 0) (at_ 0), wB E bo β, wB E tr τ, wC E ac γ, wH E ah bd η, wT E at_ θ, wB E (bd 2) (σ 2), wB E (bd 3) (σ 3), wB E (bd 4) (σ 4), wB E (bd 5) (σ 5), wB E (bd 6) (σ 6), wB E (bd 7) (σ 7), wB E (bd 8) (σ 8), wB E (bd 9) (σ 9)]) (st1 := []) [.int (b2i (fX0_hasTicket β (nI t)))] [] (kT_requireIndex l E (fX0_hasTicket β (nI t)) hq1) caX6_requireIndex q2_69 rfl ⟨Nat.le_of_ble_eq_true rfl, Nat.le_of_ble_eq_true rfl⟩ ⟨Nat.zero_le _, Nat.zero_le _⟩ (by decide) rfl rfl rfl rfl (Nat.le_of_ble_eq_true rfl) dX6_drop_8 rfl ?_
  refine g_aload_n C dX6_drop_11 rfl 0 rfl ?_
  refine g_getf C (T := TX6) (N := 5) 0 0 rfl rfl rfl inX6 0 (by decide) q1_179 rfl dX6_drop_12 ?_
  refine g_iload_n C dX6_drop_15 rfl 1 rfl ?_
  refine g_callV C (cs1 := [wX ax (bo 0) (tr 0) (ac 0) (ah 0) (at_ 0), wB E bo β, wB E tr τ, wC E ac γ, wH E ah bd η, wT E at_ θ, wB E (bd 2) (σ 2), wB E (bd 3) (σ 3), wB E (bd 4) (σ 4), wB E (bd 5) (σ 5), wB E (bd 6) (σ 6), wB E (bd 7) (σ 7), wB E (bd 8) (σ 8), wB E (bd 9) (σ 9)]) (st1 := [.int (b2i (fX0_isUnfinished β t))]) [.int (nI t)] [1] (kX0_isUnfinished l E bo β t (by omega)) caX0_isUnfinished q3_127 rfl ⟨Nat.le_of_ble_eq_true rfl, Nat.le_of_ble_eq_true rfl⟩ ⟨Nat.zero_le _, Nat.zero_le _⟩ 1 0 rfl rfl rfl rfl (by decide) rfl rfl rfl rfl (Nat.le_of_ble_eq_true rfl) dX6_drop_16 rfl ?_
  refine g_callS C (cs1 := [wX ax (bo 0) (tr 0) (ac 0) (ah 0) (at_ 0), wB E bo β, wB E tr τ, wC E ac γ, wH E ah bd η, wT E at_ θ, wB E (bd 2) (σ 2), wB E (bd 3) (σ 3), wB E (bd 4) (σ 4), wB E (bd 5) (σ 5), wB E (bd 6) (σ 6), wB E (bd 7) (σ 7), wB E (bd 8) (σ 8), wB E (bd 9) (σ 9)]) (st1 := []) [.int (b2i (fX0_isUnfinished β t))] [] (kT_requireState l E (fX0_isUnfinished β t) hq2) caX6_requireState q1_203 rfl ⟨Nat.le_of_ble_eq_true rfl, Nat.le_of_ble_eq_true rfl⟩ ⟨Nat.zero_le _, Nat.zero_le _⟩ (by decide) rfl rfl rfl rfl (Nat.le_of_ble_eq_true rfl) dX6_drop_19 rfl ?_
  refine g_aload_n C dX6_drop_22 rfl 0 rfl ?_
  refine g_getf C (T := TX6) (N := 5) 0 0 rfl rfl rfl inX6 3 (by decide) q1_182 rfl dX6_drop_23 ?_
  refine g_aload_n C dX6_drop_26 rfl 0 rfl ?_
  refine g_getf C (T := TX6) (N := 5) 0 0 rfl rfl rfl inX6 0 (by decide) q1_179 rfl dX6_drop_27 ?_
  refine g_callV C (cs1 := [wX ax (bo 0) (tr 0) (ac 0) (ah 0) (at_ 0), wB E bo β, wB E tr τ, wC E ac γ, wH E ah bd ((fX3_save η σ β).1), wT E at_ θ, wB E (bd 2) ((fX3_save η σ β).2 2), wB E (bd 3) ((fX3_save η σ β).2 3), wB E (bd 4) ((fX3_save η σ β).2 4), wB E (bd 5) ((fX3_save η σ β).2 5), wB E (bd 6) ((fX3_save η σ β).2 6), wB E (bd 7) ((fX3_save η σ β).2 7), wB E (bd 8) ((fX3_save η σ β).2 8), wB E (bd 9) ((fX3_save η σ β).2 9)]) (st1 := []) [.ref (bo 0)] [4, 6, 7, 8, 9, 10, 11, 12, 13, 1] (kX3_save l E ah bd η σ bo β hvh) caX3_save q3_57 rfl ⟨Nat.le_of_ble_eq_true rfl, Nat.le_of_ble_eq_true rfl⟩ ⟨Nat.zero_le _, Nat.zero_le _⟩ 4 0 rfl rfl rfl rfl (by decide) rfl rfl rfl rfl (Nat.le_of_ble_eq_true rfl) dX6_drop_30 rfl ?_
  refine g_aload_n C dX6_drop_33 rfl 0 rfl ?_
  refine g_getf C (T := TX6) (N := 5) 0 0 rfl rfl rfl inX6 0 (by decide) q1_179 rfl dX6_drop_34 ?_
  refine g_callV C (cs1 := [wX ax (bo 0) (tr 0) (ac 0) (ah 0) (at_ 0), wB E bo β, wB E tr τ, wC E ac γ, wH E ah bd ((fX3_save η σ β).1), wT E at_ θ, wB E (bd 2) ((fX3_save η σ β).2 2), wB E (bd 3) ((fX3_save η σ β).2 3), wB E (bd 4) ((fX3_save η σ β).2 4), wB E (bd 5) ((fX3_save η σ β).2 5), wB E (bd 6) ((fX3_save η σ β).2 6), wB E (bd 7) ((fX3_save η σ β).2 7), wB E (bd 8) ((fX3_save η σ β).2 8), wB E (bd 9) ((fX3_save η σ β).2 9)]) (st1 := [.int (fX0_blockedSet β)]) [] [1] (kX0_blockedSet l E bo β hv) caX0_blockedSet q3_132 rfl ⟨Nat.le_of_ble_eq_true rfl, Nat.le_of_ble_eq_true rfl⟩ ⟨Nat.zero_le _, Nat.zero_le _⟩ 1 0 rfl rfl rfl rfl (by decide) rfl rfl rfl rfl (Nat.le_of_ble_eq_true rfl) dX6_drop_37 rfl ?_
  refine g_istore_n C (lv1 := [(2, .int (fX0_blockedSet β)), (0, .ref ax), (1, .int (nI t))]) dX6_drop_40 rfl (by decide) rfl ?_
  refine g_aload_n C dX6_drop_41 rfl 1 rfl ?_
  refine g_getf C (T := TX6) (N := 5) 0 0 rfl rfl rfl inX6 0 (by decide) q1_179 rfl dX6_drop_42 ?_
  refine g_iload_n C dX6_drop_45 rfl 2 rfl ?_
  refine g_iconst C (v := 4) dX6_drop_46 (by decide) ?_
  refine g_callV C (cs1 := [wX ax (bo 0) (tr 0) (ac 0) (ah 0) (at_ 0), wB E bo (fX0_leaveOff β t 4), wB E tr τ, wC E ac γ, wH E ah bd ((fX3_save η σ β).1), wT E at_ θ, wB E (bd 2) ((fX3_save η σ β).2 2), wB E (bd 3) ((fX3_save η σ β).2 3), wB E (bd 4) ((fX3_save η σ β).2 4), wB E (bd 5) ((fX3_save η σ β).2 5), wB E (bd 6) ((fX3_save η σ β).2 6), wB E (bd 7) ((fX3_save η σ β).2 7), wB E (bd 8) ((fX3_save η σ β).2 8), wB E (bd 9) ((fX3_save η σ β).2 9)]) (st1 := []) [.int (nI t), .int 4] [1] (kX0_leaveOff l E bo β hv t (by omega) 4) caX0_leaveOff q3_141 rfl ⟨Nat.le_of_ble_eq_true rfl, Nat.le_of_ble_eq_true rfl⟩ ⟨Nat.zero_le _, Nat.zero_le _⟩ 1 0 rfl rfl rfl rfl (by decide) rfl rfl rfl rfl (Nat.le_of_ble_eq_true rfl) dX6_drop_47 rfl ?_
  refine g_iload_n C dX6_drop_50 rfl 0 rfl ?_
  refine g_aload_n C dX6_drop_51 rfl 1 rfl ?_
  refine g_getf C (T := TX6) (N := 5) 0 0 rfl rfl rfl inX6 0 (by decide) q1_179 rfl dX6_drop_52 ?_
  refine g_callV C (cs1 := [wX ax (bo 0) (tr 0) (ac 0) (ah 0) (at_ 0), wB E bo (fX0_leaveOff β t 4), wB E tr τ, wC E ac γ, wH E ah bd ((fX3_save η σ β).1), wT E at_ θ, wB E (bd 2) ((fX3_save η σ β).2 2), wB E (bd 3) ((fX3_save η σ β).2 3), wB E (bd 4) ((fX3_save η σ β).2 4), wB E (bd 5) ((fX3_save η σ β).2 5), wB E (bd 6) ((fX3_save η σ β).2 6), wB E (bd 7) ((fX3_save η σ β).2 7), wB E (bd 8) ((fX3_save η σ β).2 8), wB E (bd 9) ((fX3_save η σ β).2 9)]) (st1 := [.int (fX0_blockedSet (fX0_leaveOff β t 4)), .int (fX0_blockedSet β)]) [] [1] (kX0_blockedSet l E bo (fX0_leaveOff β t 4) (vB_leaveOff hv)) caX0_blockedSet q3_132 rfl ⟨Nat.le_of_ble_eq_true rfl, Nat.le_of_ble_eq_true rfl⟩ ⟨Nat.zero_le _, Nat.zero_le _⟩ 1 0 rfl rfl rfl rfl (by decide) rfl rfl rfl rfl (Nat.le_of_ble_eq_true rfl) dX6_drop_55 rfl ?_
  refine g_iconst C (v := -1) dX6_drop_58 (by decide) ?_
  refine g_ixor C dX6_drop_59 ?_
  refine g_iand C dX6_drop_60 ?_
  refine g_callS C (cs1 := [wX ax (bo 0) (tr 0) (ac 0) (ah 0) (at_ 0), wB E bo (fX0_leaveOff β t 4), wB E tr τ, wC E ac γ, wH E ah bd ((fX3_save η σ β).1), wT E at_ θ, wB E (bd 2) ((fX3_save η σ β).2 2), wB E (bd 3) ((fX3_save η σ β).2 3), wB E (bd 4) ((fX3_save η σ β).2 4), wB E (bd 5) ((fX3_save η σ β).2 5), wB E (bd 6) ((fX3_save η σ β).2 6), wB E (bd 7) ((fX3_save η σ β).2 7), wB E (bd 8) ((fX3_save η σ β).2 8), wB E (bd 9) ((fX3_save η σ β).2 9)]) (st1 := [.int (fJ6_bitCount_0f7a4 ((fX0_blockedSet β) &&& ((fX0_blockedSet (fX0_leaveOff β t 4)) ^^^ (-1))))]) [.int ((fX0_blockedSet β) &&& ((fX0_blockedSet (fX0_leaveOff β t 4)) ^^^ (-1)))] [] (kJ6_bitCount_0f7a4 l E ((fX0_blockedSet β) &&& ((fX0_blockedSet (fX0_leaveOff β t 4)) ^^^ (-1)))) caJ6_bitCount_0f7a4 q2_237 rfl ⟨Nat.le_of_ble_eq_true rfl, Nat.le_of_ble_eq_true rfl⟩ ⟨Nat.zero_le _, Nat.zero_le _⟩ (by decide) rfl rfl rfl rfl (Nat.le_of_ble_eq_true rfl) dX6_drop_61 rfl ?_
  have e_1 : fT_drop β η σ t = ((fJ6_bitCount_0f7a4 ((fX0_blockedSet β) &&& ((fX0_blockedSet (fX0_leaveOff β t 4)) ^^^ (-1)))), (fX0_leaveOff β t 4), (fX3_save η σ β).1, (fX3_save η σ β).2) := by rw [fT_drop]
  exact g_iret C hE (by rw [e_1]) (by rw [e_1] <;> rfl) dX6_drop_64
def fT_submit (β : BS) (η : BS) (σ : Nat → BS) (t : Nat) : BS × BS × (Nat → BS) :=
  (sE β 0 t 2, (fX3_save η σ β).1, (fX3_save η σ β).2)
theorem caX6_submit : gCalV yX6_submit cX6_submit 2 none 1 := ⟨⟨q3_179, q1_1, by decide +kernel⟩, q3_177, q3_178⟩
set_option maxHeartbeats 4000000 in
set_option maxRecDepth 100000 in
theorem kT_submit (l : Launch) (E : gE) (ax : Nat) (bo : Nat → Nat) (β : BS) (tr : Nat → Nat) (τ : BS) (ac : Nat → Nat) (γ : BS) (ah : Nat → Nat) (bd : Nat → Nat → Nat) (η : BS) (σ : Nat → BS) (at_ : Nat → Nat) (θ : BS) (hv : vB β) (hvh : vH η)  (t : Nat) (ht : t < 20) (h1 : (β.2 0 t) = 1) (hq1 : (fX0_hasTicket β (nI t)) = true) : MC l E yX6_submit cX6_submit 2 none 4 87 [.ref ax, .int (nI t)] [wX ax (bo 0) (tr 0) (ac 0) (ah 0) (at_ 0), wB E bo β, wB E tr τ, wC E ac γ, wH E ah bd η, wT E at_ θ, wB E (bd 2) (σ 2), wB E (bd 3) (σ 3), wB E (bd 4) (σ 4), wB E (bd 5) (σ 5), wB E (bd 6) (σ 6), wB E (bd 7) (σ 7), wB E (bd 8) (σ 8), wB E (bd 9) (σ 9)] none [wX ax (bo 0) (tr 0) (ac 0) (ah 0) (at_ 0), wB E bo ((fT_submit β η σ t).1), wB E tr τ, wC E ac γ, wH E ah bd ((fT_submit β η σ t).2.1), wT E at_ θ, wB E (bd 2) ((fT_submit β η σ t).2.2 2), wB E (bd 3) ((fT_submit β η σ t).2.2 3), wB E (bd 4) ((fT_submit β η σ t).2.2 4), wB E (bd 5) ((fT_submit β η σ t).2.2 5), wB E (bd 6) ((fT_submit β η σ t).2.2 6), wB E (bd 7) ((fT_submit β η σ t).2.2 7), wB E (bd 8) ((fT_submit β η σ t).2.2 8), wB E (bd 9) ((fT_submit β η σ t).2.2 9)] := by
  have hv1 : cnt β ≤ 20 := hv.1
  refine mc_of (by decide +kernel) (Nat.le_of_ble_eq_true rfl) (lv := [(0, .ref ax), (1, .int (nI t))]) rfl (fun X C hE => ?_)
  refine g_aload_n C dX6_submit_0 rfl 0 rfl ?_
  refine g_getf C (T := TX6) (N := 5) 0 0 rfl rfl rfl inX6 0 (by decide) q1_179 rfl dX6_submit_1 ?_
  refine g_iload_n C dX6_submit_4 rfl 1 rfl ?_
  refine g_callV C (cs1 := [wX ax (bo 0) (tr 0) (ac 0) (ah 0) (at_ 0), wB E bo β, wB E tr τ, wC E ac γ, wH E ah bd η, wT E at_ θ, wB E (bd 2) (σ 2), wB E (bd 3) (σ 3), wB E (bd 4) (σ 4), wB E (bd 5) (σ 5), wB E (bd 6) (σ 6), wB E (bd 7) (σ 7), wB E (bd 8) (σ 8), wB E (bd 9) (σ 9)]) (st1 := [.int (b2i (fX0_hasTicket β (nI t)))]) [.int (nI t)] [1] (kX0_hasTicket l E bo β (nI t)) caX0_hasTicket q2_197 rfl ⟨Nat.le_of_ble_eq_true rfl, Nat.le_of_ble_eq_true rfl⟩ ⟨Nat.zero_le _, Nat.zero_le _⟩ 1 0 rfl rfl rfl rfl (by decide) rfl rfl rfl rfl (Nat.le_of_ble_eq_true rfl) dX6_submit_5 rfl ?_
  refine g_callS C (cs1 := [wX ax (bo 0) (tr 0) (ac 0) (ah 0) (at_ 0), wB E bo β, wB E tr τ, wC E ac γ, wH E ah bd η, wT E at_ θ, wB E (bd 2) (σ 2), wB E (bd 3) (σ 3), wB E (bd 4) (σ 4), wB E (bd 5) (σ 5), wB E (bd 6) (σ 6), wB E (bd 7) (σ 7), wB E (bd 8) (σ 8), wB E (bd 9) (σ 9)]) (st1 := []) [.int (b2i (fX0_hasTicket β (nI t)))] [] (kT_requireIndex l E (fX0_hasTicket β (nI t)) hq1) caX6_requireIndex q2_69 rfl ⟨Nat.le_of_ble_eq_true rfl, Nat.le_of_ble_eq_true rfl⟩ ⟨Nat.zero_le _, Nat.zero_le _⟩ (by decide) rfl rfl rfl rfl (Nat.le_of_ble_eq_true rfl) dX6_submit_8 rfl ?_
  refine g_aload_n C dX6_submit_11 rfl 0 rfl ?_
  refine g_getf C (T := TX6) (N := 5) 0 0 rfl rfl rfl inX6 0 (by decide) q1_179 rfl dX6_submit_12 ?_
  refine g_getf C (T := TX0) (N := 17) 1 0 rfl rfl rfl inX0 4 (by decide) q1_42 rfl dX6_submit_15 ?_
  refine g_iload_n C dX6_submit_18 rfl 1 rfl ?_
  refine g_ialdn C 1 1 t rfl rfl rfl (by omega) (by decide) dX6_submit_19 ?_
  refine g_iconst C (v := 1) dX6_submit_20 (by decide) ?_
  refine g_icmp_ne C 28 dX6_submit_21 (by decide) (fun c_1 => ?_) (fun c_1 => ?_)
  · exact absurd h1 c_1
  · skip
    refine g_iconst C (v := 1) dX6_submit_24 (by decide) ?_
    refine g_goto C 29 dX6_submit_25 (by decide) ?_
    refine g_callS C (cs1 := [wX ax (bo 0) (tr 0) (ac 0) (ah 0) (at_ 0), wB E bo β, wB E tr τ, wC E ac γ, wH E ah bd η, wT E at_ θ, wB E (bd 2) (σ 2), wB E (bd 3) (σ 3), wB E (bd 4) (σ 4), wB E (bd 5) (σ 5), wB E (bd 6) (σ 6), wB E (bd 7) (σ 7), wB E (bd 8) (σ 8), wB E (bd 9) (σ 9)]) (st1 := []) [.int (b2i true)] [] (kT_requireState l E true rfl) caX6_requireState q1_203 rfl ⟨Nat.le_of_ble_eq_true rfl, Nat.le_of_ble_eq_true rfl⟩ ⟨Nat.zero_le _, Nat.zero_le _⟩ (by decide) rfl rfl rfl rfl (Nat.le_of_ble_eq_true rfl) dX6_submit_29 rfl ?_
    refine g_aload_n C dX6_submit_32 rfl 0 rfl ?_
    refine g_getf C (T := TX6) (N := 5) 0 0 rfl rfl rfl inX6 3 (by decide) q1_182 rfl dX6_submit_33 ?_
    refine g_aload_n C dX6_submit_36 rfl 0 rfl ?_
    refine g_getf C (T := TX6) (N := 5) 0 0 rfl rfl rfl inX6 0 (by decide) q1_179 rfl dX6_submit_37 ?_
    refine g_callV C (cs1 := [wX ax (bo 0) (tr 0) (ac 0) (ah 0) (at_ 0), wB E bo β, wB E tr τ, wC E ac γ, wH E ah bd ((fX3_save η σ β).1), wT E at_ θ, wB E (bd 2) ((fX3_save η σ β).2 2), wB E (bd 3) ((fX3_save η σ β).2 3), wB E (bd 4) ((fX3_save η σ β).2 4), wB E (bd 5) ((fX3_save η σ β).2 5), wB E (bd 6) ((fX3_save η σ β).2 6), wB E (bd 7) ((fX3_save η σ β).2 7), wB E (bd 8) ((fX3_save η σ β).2 8), wB E (bd 9) ((fX3_save η σ β).2 9)]) (st1 := []) [.ref (bo 0)] [4, 6, 7, 8, 9, 10, 11, 12, 13, 1] (kX3_save l E ah bd η σ bo β hvh) caX3_save q3_57 rfl ⟨Nat.le_of_ble_eq_true rfl, Nat.le_of_ble_eq_true rfl⟩ ⟨Nat.zero_le _, Nat.zero_le _⟩ 4 0 rfl rfl rfl rfl (by decide) rfl rfl rfl rfl (Nat.le_of_ble_eq_true rfl) dX6_submit_40 rfl ?_
    refine g_aload_n C dX6_submit_43 rfl 0 rfl ?_
    refine g_getf C (T := TX6) (N := 5) 0 0 rfl rfl rfl inX6 0 (by decide) q1_179 rfl dX6_submit_44 ?_
    refine g_getf C (T := TX0) (N := 17) 1 0 rfl rfl rfl inX0 4 (by decide) q1_42 rfl dX6_submit_47 ?_
    refine g_iload_n C dX6_submit_50 rfl 1 rfl ?_
    refine g_iconst C (v := 2) dX6_submit_51 (by decide) ?_
    refine g_iastn C (w1 := wB E bo (sE β 0 t 2)) (cs1 := [wX ax (bo 0) (tr 0) (ac 0) (ah 0) (at_ 0), wB E bo (sE β 0 t 2), wB E tr τ, wC E ac γ, wH E ah bd ((fX3_save η σ β).1), wT E at_ θ, wB E (bd 2) ((fX3_save η σ β).2 2), wB E (bd 3) ((fX3_save η σ β).2 3), wB E (bd 4) ((fX3_save η σ β).2 4), wB E (bd 5) ((fX3_save η σ β).2 5), wB E (bd 6) ((fX3_save η σ β).2 6), wB E (bd 7) ((fX3_save η σ β).2 7), wB E (bd 8) ((fX3_save η σ β).2 8), wB E (bd 9) ((fX3_save η σ β).2 9)]) 1 1 t rfl rfl rfl (by omega) (by decide) rfl rfl dX6_submit_52 ?_
    have e_2 : fT_submit β η σ t = (sE β 0 t 2, (fX3_save η σ β).1, (fX3_save η σ β).2) := by rw [fT_submit]
    exact g_vret C hE rfl (by rw [e_2] <;> rfl) dX6_submit_53
def fT_undo (β : BS) (η : BS) (σ : Nat → BS) : BS × BS :=
  ((fX3_restoreSaved η σ β).2, (fX3_restoreSaved η σ β).1)
theorem caX6_undo : gCalV yX6_undo cX6_undo 1 none 0 := ⟨⟨q1_198, q1_1, by decide +kernel⟩, q1_196, q1_197⟩
set_option maxHeartbeats 4000000 in
set_option maxRecDepth 100000 in
theorem kT_undo (l : Launch) (E : gE) (ax : Nat) (bo : Nat → Nat) (β : BS) (tr : Nat → Nat) (τ : BS) (ac : Nat → Nat) (γ : BS) (ah : Nat → Nat) (bd : Nat → Nat → Nat) (η : BS) (σ : Nat → BS) (at_ : Nat → Nat) (θ : BS) (hv : vB β) (hvh : vH η)   (h0 : 0 < η.1 1) : MC l E yX6_undo cX6_undo 1 none 4 87 [.ref ax] [wX ax (bo 0) (tr 0) (ac 0) (ah 0) (at_ 0), wB E bo β, wB E tr τ, wC E ac γ, wH E ah bd η, wT E at_ θ, wB E (bd 2) (σ 2), wB E (bd 3) (σ 3), wB E (bd 4) (σ 4), wB E (bd 5) (σ 5), wB E (bd 6) (σ 6), wB E (bd 7) (σ 7), wB E (bd 8) (σ 8), wB E (bd 9) (σ 9)] none [wX ax (bo 0) (tr 0) (ac 0) (ah 0) (at_ 0), wB E bo ((fT_undo β η σ).1), wB E tr τ, wC E ac γ, wH E ah bd ((fT_undo β η σ).2), wT E at_ θ, wB E (bd 2) (σ 2), wB E (bd 3) (σ 3), wB E (bd 4) (σ 4), wB E (bd 5) (σ 5), wB E (bd 6) (σ 6), wB E (bd 7) (σ 7), wB E (bd 8) (σ 8), wB E (bd 9) (σ 9)] := by
  have hv1 : cnt β ≤ 20 := hv.1
  refine mc_of (by decide +kernel) (Nat.le_of_ble_eq_true rfl) (lv := [(0, .ref ax)]) rfl (fun X C hE => ?_)
  refine g_aload_n C dX6_undo_0 rfl 0 rfl ?_
  refine g_getf C (T := TX6) (N := 5) 0 0 rfl rfl rfl inX6 3 (by decide) q1_182 rfl dX6_undo_1 ?_
  refine g_callV C (cs1 := [wX ax (bo 0) (tr 0) (ac 0) (ah 0) (at_ 0), wB E bo β, wB E tr τ, wC E ac γ, wH E ah bd η, wT E at_ θ, wB E (bd 2) (σ 2), wB E (bd 3) (σ 3), wB E (bd 4) (σ 4), wB E (bd 5) (σ 5), wB E (bd 6) (σ 6), wB E (bd 7) (σ 7), wB E (bd 8) (σ 8), wB E (bd 9) (σ 9)]) (st1 := [.int (fX3_savedCount η)]) [] [4] (kX3_savedCount l E ah bd η) caX3_savedCount q1_199 rfl ⟨Nat.le_of_ble_eq_true rfl, Nat.le_of_ble_eq_true rfl⟩ ⟨Nat.zero_le _, Nat.zero_le _⟩ 4 0 rfl rfl rfl rfl (by decide) rfl rfl rfl rfl (Nat.le_of_ble_eq_true rfl) dX6_undo_4 rfl ?_
  refine g_if_le C 14 dX6_undo_7 (by decide) (fun c_1 => ?_) (fun c_1 => ?_)
  · exact absurd c_1 (Int32.not_le.mpr h0)
  · skip
    refine g_iconst C (v := 1) dX6_undo_10 (by decide) ?_
    refine g_goto C 15 dX6_undo_11 (by decide) ?_
    refine g_callS C (cs1 := [wX ax (bo 0) (tr 0) (ac 0) (ah 0) (at_ 0), wB E bo β, wB E tr τ, wC E ac γ, wH E ah bd η, wT E at_ θ, wB E (bd 2) (σ 2), wB E (bd 3) (σ 3), wB E (bd 4) (σ 4), wB E (bd 5) (σ 5), wB E (bd 6) (σ 6), wB E (bd 7) (σ 7), wB E (bd 8) (σ 8), wB E (bd 9) (σ 9)]) (st1 := []) [.int (b2i true)] [] (kT_requireState l E true rfl) caX6_requireState q1_203 rfl ⟨Nat.le_of_ble_eq_true rfl, Nat.le_of_ble_eq_true rfl⟩ ⟨Nat.zero_le _, Nat.zero_le _⟩ (by decide) rfl rfl rfl rfl (Nat.le_of_ble_eq_true rfl) dX6_undo_15 rfl ?_
    refine g_aload_n C dX6_undo_18 rfl 0 rfl ?_
    refine g_getf C (T := TX6) (N := 5) 0 0 rfl rfl rfl inX6 3 (by decide) q1_182 rfl dX6_undo_19 ?_
    refine g_aload_n C dX6_undo_22 rfl 0 rfl ?_
    refine g_getf C (T := TX6) (N := 5) 0 0 rfl rfl rfl inX6 0 (by decide) q1_179 rfl dX6_undo_23 ?_
    refine g_callV C (cs1 := [wX ax (bo 0) (tr 0) (ac 0) (ah 0) (at_ 0), wB E bo ((fX3_restoreSaved η σ β).2), wB E tr τ, wC E ac γ, wH E ah bd ((fX3_restoreSaved η σ β).1), wT E at_ θ, wB E (bd 2) (σ 2), wB E (bd 3) (σ 3), wB E (bd 4) (σ 4), wB E (bd 5) (σ 5), wB E (bd 6) (σ 6), wB E (bd 7) (σ 7), wB E (bd 8) (σ 8), wB E (bd 9) (σ 9)]) (st1 := []) [.ref (bo 0)] [4, 6, 7, 8, 9, 10, 11, 12, 13, 1] (kX3_restoreSaved l E ah bd η σ bo β hvh h0) caX3_restoreSaved q2_34 rfl ⟨Nat.le_of_ble_eq_true rfl, Nat.le_of_ble_eq_true rfl⟩ ⟨Nat.zero_le _, Nat.zero_le _⟩ 4 0 rfl rfl rfl rfl (by decide) rfl rfl rfl rfl (Nat.le_of_ble_eq_true rfl) dX6_undo_26 rfl ?_
    have e_2 : fT_undo β η σ = ((fX3_restoreSaved η σ β).2, (fX3_restoreSaved η σ β).1) := by rw [fT_undo]
    exact g_vret C hE rfl (by rw [e_2]) dX6_undo_29
