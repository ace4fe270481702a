theorem textRoom {θ : BS} (hv : vT θ) (h : fX4_hasRoom θ = true) : len θ < 60 := by
  unfold fX4_hasRoom at h
  split at h
  · cases h
  · rename_i c
    exact lc_ige hv.2.1 nI_l60 (by have := hv.1; omega) (by omega) c
theorem vH_save {η : BS} {σ : Nat → BS} {β : BS} (hv : vH η) : vH (fX3_save η σ β).1 := by
  obtain ⟨h1, ⟨c, hc, e⟩, h3⟩ := hv
  unfold fX3_save
  split
  · rename_i c6
    refine ⟨irem6 h1 ⟨1, by decide, rfl⟩, ⟨6, by decide, ?_⟩, h3⟩
    show η.1 1 - 1 + 1 = nI 6
    rw [c6]
    rfl
  · rename_i c6
    refine ⟨h1, ⟨c + 1, ?_, ?_⟩, h3⟩
    · rcases Nat.lt_or_ge c 6 with h | h
      · omega
      · exfalso
        obtain rfl : c = 6 := by omega
        exact c6 (by rw [e]; rfl)
    · show η.1 1 + 1 = nI (c + 1)
      rw [e, nI_1]
def fX6_openTicket (β : BS) (η : BS) (σ : Nat → BS) (p : Int32) (z : Int32) : (String ⊕ Int32) × BS × BS × (Nat → BS) :=
  if (fX6_within p 1 13) = true then (if (fX6_within z 0 3) = true then (if (fX0_hasRoom β) = true then (.inr ((fX0_addTicket β p z).1), (fX0_addTicket β p z).2, (fX3_save η σ β).1, (fX3_save η σ β).2) else (.inl xIS, β, η, σ)) else (.inl xIA, β, η, σ)) else (.inl xIA, β, η, σ)
theorem caX6_openTicket : gCalV yX6_openTicket cX6_openTicket 3 (some .int) 2 := ⟨⟨q3_64, q1_1, by decide +kernel⟩, q3_62, q3_63⟩
set_option maxHeartbeats 4000000 in
set_option maxRecDepth 100000 in
theorem kX6_openTicket (l : Launch) (E : gE) (ax : Nat) (bo : Nat → Nat) (β : BS) (tr : Nat → Nat) (τ : BS) (ac : Nat → Nat) (γ : BS) (ah : Nat → Nat) (bd : Nat → Nat → Nat) (η : BS) (σ : Nat → BS) (at_ : Nat → Nat) (θ : BS) (hlt : l.stackTraces = false) (hv : vB β) (hvh : vH η)  (p : Int32) (z : Int32) : MX l E yX6_openTicket cX6_openTicket 3 (some .int) 3 18 7 102 [.ref ax, .int p, .int z] [wX ax (bo 0) (tr 0) (ac 0) (ah 0) (at_ 0), wB E bo β, wB E tr τ, wC E ac γ, wH E ah bd η, wT E at_ θ, wB E (bd 2) (σ 2), wB E (bd 3) (σ 3), wB E (bd 4) (σ 4), wB E (bd 5) (σ 5), wB E (bd 6) (σ 6), wB E (bd 7) (σ 7), wB E (bd 8) (σ 8), wB E (bd 9) (σ 9)] (Sum.map id (fun v => some (.int v)) (fX6_openTicket β η σ p z).1) [wX ax (bo 0) (tr 0) (ac 0) (ah 0) (at_ 0), wB E bo ((fX6_openTicket β η σ p z).2.1), wB E tr τ, wC E ac γ, wH E ah bd ((fX6_openTicket β η σ p z).2.2.1), wT E at_ θ, wB E (bd 2) ((fX6_openTicket β η σ p z).2.2.2 2), wB E (bd 3) ((fX6_openTicket β η σ p z).2.2.2 3), wB E (bd 4) ((fX6_openTicket β η σ p z).2.2.2 4), wB E (bd 5) ((fX6_openTicket β η σ p z).2.2.2 5), wB E (bd 6) ((fX6_openTicket β η σ p z).2.2.2 6), wB E (bd 7) ((fX6_openTicket β η σ p z).2.2.2 7), wB E (bd 8) ((fX6_openTicket β η σ p z).2.2.2 8), wB E (bd 9) ((fX6_openTicket β η σ p z).2.2.2 9)] := by
  have hv1 : cnt β ≤ 20 := hv.1
  refine mx_of hlt (by decide +kernel) (Nat.le_of_ble_eq_true rfl) (lv := [(0, .ref ax), (1, .int p), (2, .int z)]) rfl (fun X C hT => ?_)
  refine g_iload_n C dX6_openTicket_0 rfl 1 rfl ?_
  refine g_iconst C (v := 1) dX6_openTicket_1 (by decide) ?_
  refine g_bipush C (v := 13) dX6_openTicket_2 (by decide) ?_
  refine g_callS C (cs1 := [wX ax (bo 0) (tr 0) (ac 0) (ah 0) (at_ 0), wB E bo β, wB E tr τ, wC E ac γ, wH E ah bd η, wT E at_ θ, wB E (bd 2) (σ 2), wB E (bd 3) (σ 3), wB E (bd 4) (σ 4), wB E (bd 5) (σ 5), wB E (bd 6) (σ 6), wB E (bd 7) (σ 7), wB E (bd 8) (σ 8), wB E (bd 9) (σ 9)]) (st1 := [.int (b2i (fX6_within p 1 13))]) [.int p, .int 1, .int 13] [] (kX6_within l E p 1 13) caX6_within q3_65 rfl ⟨Nat.le_of_ble_eq_true rfl, Nat.le_of_ble_eq_true rfl⟩ ⟨Nat.le_of_ble_eq_true rfl, Nat.le_of_ble_eq_true rfl⟩ (by decide) rfl rfl rfl rfl (Nat.le_of_ble_eq_true rfl) dX6_openTicket_4 rfl ?_
  refine g_ifB_eq C 23 dX6_openTicket_7 (by decide) (fun c_1 => ?_) (fun c_1 => ?_)
  · skip
    refine g_iconst C (v := 0) dX6_openTicket_23 (by decide) ?_
    have e_3 : false = false → fX6_openTicket β η σ p z = (.inl xIA, β, η, σ) := fun c_2 => by rw [fX6_openTicket]; rw [if_neg (ne_true_of_eq_false c_1)]
    exact g_req (b := false) C hT (kX6_requireArgument l E hlt false) caX6_requireArgument q3_68 ⟨Nat.le_of_ble_eq_true rfl, Nat.le_of_ble_eq_true rfl⟩ ⟨Nat.le_of_ble_eq_true rfl, Nat.le_of_ble_eq_true rfl⟩ ⟨Nat.le_of_ble_eq_true rfl, Nat.le_of_ble_eq_true rfl⟩ (fun c => by rw [e_3 c]; exact ⟨rfl, rfl⟩) (Nat.le_of_ble_eq_true rfl) dX6_openTicket_24 (fun h => absurd h (by decide))
  · skip
    refine g_iload_n C dX6_openTicket_10 rfl 2 rfl ?_
    refine g_iconst C (v := 0) dX6_openTicket_11 (by decide) ?_
    refine g_iconst C (v := 3) dX6_openTicket_12 (by decide) ?_
    refine g_callS C (cs1 := [wX ax (bo 0) (tr 0) (ac 0) (ah 0) (at_ 0), wB E bo β, wB E tr τ, wC E ac γ, wH E ah bd η, wT E at_ θ, wB E (bd 2) (σ 2), wB E (bd 3) (σ 3), wB E (bd 4) (σ 4), wB E (bd 5) (σ 5), wB E (bd 6) (σ 6), wB E (bd 7) (σ 7), wB E (bd 8) (σ 8), wB E (bd 9) (σ 9)]) (st1 := [.int (b2i (fX6_within z 0 3))]) [.int z, .int 0, .int 3] [] (kX6_within l E z 0 3) caX6_within q3_65 rfl ⟨Nat.le_of_ble_eq_true rfl, Nat.le_of_ble_eq_true rfl⟩ ⟨Nat.le_of_ble_eq_true rfl, Nat.le_of_ble_eq_true rfl⟩ (by decide) rfl rfl rfl rfl (Nat.le_of_ble_eq_true rfl) dX6_openTicket_13 rfl ?_
    refine g_ifB_eq C 23 dX6_openTicket_16 (by decide) (fun c_4 => ?_) (fun c_4 => ?_)
    · skip
      refine g_iconst C (v := 0) dX6_openTicket_23 (by decide) ?_
      have e_6 : false = false → fX6_openTicket β η σ p z = (.inl xIA, β, η, σ) := fun c_5 => by rw [fX6_openTicket]; rw [if_pos c_1, if_neg (ne_true_of_eq_false c_4)]
      exact g_req (b := false) C hT (kX6_requireArgument l E hlt false) caX6_requireArgument q3_68 ⟨Nat.le_of_ble_eq_true rfl, Nat.le_of_ble_eq_true rfl⟩ ⟨Nat.le_of_ble_eq_true rfl, Nat.le_of_ble_eq_true rfl⟩ ⟨Nat.le_of_ble_eq_true rfl, Nat.le_of_ble_eq_true rfl⟩ (fun c => by rw [e_6 c]; exact ⟨rfl, rfl⟩) (Nat.le_of_ble_eq_true rfl) dX6_openTicket_24 (fun h => absurd h (by decide))
    · skip
      refine g_iconst C (v := 1) dX6_openTicket_19 (by decide) ?_
      refine g_goto C 24 dX6_openTicket_20 (by decide) ?_
      refine g_req (b := true) C hT (kX6_requireArgument l E hlt true) caX6_requireArgument q3_68 ⟨Nat.le_of_ble_eq_true rfl, Nat.le_of_ble_eq_true rfl⟩ ⟨Nat.le_of_ble_eq_true rfl, Nat.le_of_ble_eq_true rfl⟩ ⟨Nat.le_of_ble_eq_true rfl, Nat.le_of_ble_eq_true rfl⟩ (fun h => absurd h (by decide)) (Nat.le_of_ble_eq_true rfl) dX6_openTicket_24 (fun _ => ?_)
      refine g_aload_n C dX6_openTicket_27 rfl 0 rfl ?_
      refine g_getf C (T := TX6) (N := 5) 0 0 rfl rfl rfl inX6 0 (by decide) q1_192 rfl dX6_openTicket_28 ?_
      refine g_callV C (cs1 := [wX ax (bo 0) (tr 0) (ac 0) (ah 0) (at_ 0), wB E bo β, wB E tr τ, wC E ac γ, wH E ah bd η, wT E at_ θ, wB E (bd 2) (σ 2), wB E (bd 3) (σ 3), wB E (bd 4) (σ 4), wB E (bd 5) (σ 5), wB E (bd 6) (σ 6), wB E (bd 7) (σ 7), wB E (bd 8) (σ 8), wB E (bd 9) (σ 9)]) (st1 := [.int (b2i (fX0_hasRoom β))]) [] [1] (kX0_hasRoom l E bo β) caX0_hasRoom q3_139 rfl ⟨Nat.le_of_ble_eq_true rfl, Nat.le_of_ble_eq_true rfl⟩ ⟨Nat.le_of_ble_eq_true rfl, Nat.le_of_ble_eq_true rfl⟩ 1 0 rfl rfl rfl rfl (by decide) rfl rfl rfl rfl (Nat.le_of_ble_eq_true rfl) dX6_openTicket_31 rfl ?_
      have e_10 : (fX0_hasRoom β) = false → fX6_openTicket β η σ p z = (.inl xIS, β, η, σ) := fun c_9 => by rw [fX6_openTicket]; rw [if_pos c_1, if_pos c_4, if_neg (ne_true_of_eq_false c_9)]
      refine g_req (b := (fX0_hasRoom β)) C hT (kX6_requireState l E hlt (fX0_hasRoom β)) caX6_requireState q3_143 ⟨Nat.le_of_ble_eq_true rfl, Nat.le_of_ble_eq_true rfl⟩ ⟨Nat.le_of_ble_eq_true rfl, Nat.le_of_ble_eq_true rfl⟩ ⟨Nat.le_of_ble_eq_true rfl, Nat.le_of_ble_eq_true rfl⟩ (fun c => by rw [e_10 c]; exact ⟨rfl, rfl⟩) (Nat.le_of_ble_eq_true rfl) dX6_openTicket_34 (fun c_11 => ?_)
      have hr := hasRoom_lt hv c_11
      refine g_aload_n C dX6_openTicket_37 rfl 0 rfl ?_
      refine g_getf C (T := TX6) (N := 5) 0 0 rfl rfl rfl inX6 3 (by decide) q1_195 rfl dX6_openTicket_38 ?_
      refine g_aload_n C dX6_openTicket_41 rfl 0 rfl ?_
      refine g_getf C (T := TX6) (N := 5) 0 0 rfl rfl rfl inX6 0 (by decide) q1_192 rfl dX6_openTicket_42 ?_
      refine g_callV C (cs1 := [wX ax (bo 0) (tr 0) (ac 0) (ah 0) (at_ 0), wB E bo β, wB E tr τ, wC E ac γ, wH E ah bd ((fX3_save η σ β).1), wT E at_ θ, wB E (bd 2) ((fX3_save η σ β).2 2), wB E (bd 3) ((fX3_save η σ β).2 3), wB E (bd 4) ((fX3_save η σ β).2 4), wB E (bd 5) ((fX3_save η σ β).2 5), wB E (bd 6) ((fX3_save η σ β).2 6), wB E (bd 7) ((fX3_save η σ β).2 7), wB E (bd 8) ((fX3_save η σ β).2 8), wB E (bd 9) ((fX3_save η σ β).2 9)]) (st1 := []) [.ref (bo 0)] [4, 6, 7, 8, 9, 10, 11, 12, 13, 1] (kX3_save l E ah bd η σ bo β hvh) caX3_save q3_162 rfl ⟨Nat.le_of_ble_eq_true rfl, Nat.le_of_ble_eq_true rfl⟩ ⟨Nat.le_of_ble_eq_true rfl, Nat.le_of_ble_eq_true rfl⟩ 4 0 rfl rfl rfl rfl (by decide) rfl rfl rfl rfl (Nat.le_of_ble_eq_true rfl) dX6_openTicket_45 rfl ?_
      refine g_aload_n C dX6_openTicket_48 rfl 0 rfl ?_
      refine g_getf C (T := TX6) (N := 5) 0 0 rfl rfl rfl inX6 0 (by decide) q1_192 rfl dX6_openTicket_49 ?_
      refine g_iload_n C dX6_openTicket_52 rfl 1 rfl ?_
      refine g_iload_n C dX6_openTicket_53 rfl 2 rfl ?_
      refine g_callV C (cs1 := [wX ax (bo 0) (tr 0) (ac 0) (ah 0) (at_ 0), wB E bo ((fX0_addTicket β p z).2), wB E tr τ, wC E ac γ, wH E ah bd ((fX3_save η σ β).1), wT E at_ θ, wB E (bd 2) ((fX3_save η σ β).2 2), wB E (bd 3) ((fX3_save η σ β).2 3), wB E (bd 4) ((fX3_save η σ β).2 4), wB E (bd 5) ((fX3_save η σ β).2 5), wB E (bd 6) ((fX3_save η σ β).2 6), wB E (bd 7) ((fX3_save η σ β).2 7), wB E (bd 8) ((fX3_save η σ β).2 8), wB E (bd 9) ((fX3_save η σ β).2 9)]) (st1 := [.int ((fX0_addTicket β p z).1)]) [.int p, .int z] [1] (kX0_addTicket l E bo β hv p z hr) caX0_addTicket q3_179 rfl ⟨Nat.le_of_ble_eq_true rfl, Nat.le_of_ble_eq_true rfl⟩ ⟨Nat.le_of_ble_eq_true rfl, Nat.le_of_ble_eq_true rfl⟩ 1 0 rfl rfl rfl rfl (by decide) rfl rfl rfl rfl (Nat.le_of_ble_eq_true rfl) dX6_openTicket_54 rfl ?_
      have e_12 : fX6_openTicket β η σ p z = (.inr ((fX0_addTicket β p z).1), (fX0_addTicket β p z).2, (fX3_save η σ β).1, (fX3_save η σ β).2) := by rw [fX6_openTicket]; rw [if_pos c_1, if_pos c_4, if_pos c_11]
      refine g_widen (k1 := 3) (n1 := 18) (Nat.le_of_ble_eq_true rfl) (Nat.le_of_ble_eq_true rfl) ?_
      exact g_iret C (gT_r hT (by rw [e_12] <;> rfl) (by rw [e_12] <;> rfl)) rfl rfl dX6_openTicket_57
def fX6_reestimate (β : BS) (η : BS) (σ : Nat → BS) (a : Int32) (b : Int32) : (String ⊕ Int32) × BS × BS × (Nat → BS) :=
  if (fX0_hasTicket β a) = true then (if (fX6_within b 1 13) = true then (if (fX0_canHavePoints β a.toNatClampNeg b) = true then (.inr ((fX0_setPoints β a.toNatClampNeg b).1), (fX0_setPoints β a.toNatClampNeg b).2, (fX3_save η σ β).1, (fX3_save η σ β).2) else (.inl xIS, β, η, σ)) else (.inl xIA, β, η, σ)) else (.inl xIO, β, η, σ)
theorem caX6_reestimate : gCalV yX6_reestimate cX6_reestimate 3 (some .int) 2 := ⟨⟨q3_190, q1_1, by decide +kernel⟩, q3_188, q3_189⟩
set_option maxHeartbeats 4000000 in
set_option maxRecDepth 100000 in
theorem kX6_reestimate (l : Launch) (E : gE) (ax : Nat) (bo : Nat → Nat) (β : BS) (tr : Nat → Nat) (τ : BS) (ac : Nat → Nat) (γ : BS) (ah : Nat → Nat) (bd : Nat → Nat → Nat) (η : BS) (σ : Nat → BS) (at_ : Nat → Nat) (θ : BS) (hlt : l.stackTraces = false) (hv : vB β) (hvh : vH η)  (a : Int32) (b : Int32) : MX l E yX6_reestimate cX6_reestimate 3 (some .int) 3 18 7 102 [.ref ax, .int a, .int b] [wX ax (bo 0) (tr 0) (ac 0) (ah 0) (at_ 0), wB E bo β, wB E tr τ, wC E ac γ, wH E ah bd η, wT E at_ θ, wB E (bd 2) (σ 2), wB E (bd 3) (σ 3), wB E (bd 4) (σ 4), wB E (bd 5) (σ 5), wB E (bd 6) (σ 6), wB E (bd 7) (σ 7), wB E (bd 8) (σ 8), wB E (bd 9) (σ 9)] (Sum.map id (fun v => some (.int v)) (fX6_reestimate β η σ a b).1) [wX ax (bo 0) (tr 0) (ac 0) (ah 0) (at_ 0), wB E bo ((fX6_reestimate β η σ a b).2.1), wB E tr τ, wC E ac γ, wH E ah bd ((fX6_reestimate β η σ a b).2.2.1), wT E at_ θ, wB E (bd 2) ((fX6_reestimate β η σ a b).2.2.2 2), wB E (bd 3) ((fX6_reestimate β η σ a b).2.2.2 3), wB E (bd 4) ((fX6_reestimate β η σ a b).2.2.2 4), wB E (bd 5) ((fX6_reestimate β η σ a b).2.2.2 5), wB E (bd 6) ((fX6_reestimate β η σ a b).2.2.2 6), wB E (bd 7) ((fX6_reestimate β η σ a b).2.2.2 7), wB E (bd 8) ((fX6_reestimate β η σ a b).2.2.2 8), wB E (bd 9) ((fX6_reestimate β η σ a b).2.2.2 9)] := by
  have hv1 : cnt β ≤ 20 := hv.1
  refine mx_of hlt (by decide +kernel) (Nat.le_of_ble_eq_true rfl) (lv := [(0, .ref ax), (1, .int a), (2, .int b)]) rfl (fun X C hT => ?_)
  refine g_aload_n C dX6_reestimate_0 rfl 0 rfl ?_
  refine g_getf C (T := TX6) (N := 5) 0 0 rfl rfl rfl inX6 0 (by decide) q1_192 rfl dX6_reestimate_1 ?_
  refine g_iload_n C dX6_reestimate_4 rfl 1 rfl ?_
  refine g_callV C (cs1 := [wX ax (bo 0) (tr 0) (ac 0) (ah 0) (at_ 0), wB E bo β, wB E tr τ, wC E ac γ, wH E ah bd η, wT E at_ θ, wB E (bd 2) (σ 2), wB E (bd 3) (σ 3), wB E (bd 4) (σ 4), wB E (bd 5) (σ 5), wB E (bd 6) (σ 6), wB E (bd 7) (σ 7), wB E (bd 8) (σ 8), wB E (bd 9) (σ 9)]) (st1 := [.int (b2i (fX0_hasTicket β a))]) [.int a] [1] (kX0_hasTicket l E bo β a) caX0_hasTicket q3_191 rfl ⟨Nat.le_of_ble_eq_true rfl, Nat.le_of_ble_eq_true rfl⟩ ⟨Nat.le_of_ble_eq_true rfl, Nat.le_of_ble_eq_true rfl⟩ 1 0 rfl rfl rfl rfl (by decide) rfl rfl rfl rfl (Nat.le_of_ble_eq_true rfl) dX6_reestimate_5 rfl ?_
  have e_2 : (fX0_hasTicket β a) = false → fX6_reestimate β η σ a b = (.inl xIO, β, η, σ) := fun c_1 => by rw [fX6_reestimate]; rw [if_neg (ne_true_of_eq_false c_1)]
  refine g_req (b := (fX0_hasTicket β a)) C hT (kX6_requireIndex l E hlt (fX0_hasTicket β a)) caX6_requireIndex q3_195 ⟨Nat.le_of_ble_eq_true rfl, Nat.le_of_ble_eq_true rfl⟩ ⟨Nat.le_of_ble_eq_true rfl, Nat.le_of_ble_eq_true rfl⟩ ⟨Nat.le_of_ble_eq_true rfl, Nat.le_of_ble_eq_true rfl⟩ (fun c => by rw [e_2 c]; exact ⟨rfl, rfl⟩) (Nat.le_of_ble_eq_true rfl) dX6_reestimate_8 (fun c_3 => ?_)
  have hx_4 := hasTicket_i hv c_3
  refine g_iload_n C dX6_reestimate_11 rfl 2 rfl ?_
  refine g_iconst C (v := 1) dX6_reestimate_12 (by decide) ?_
  refine g_bipush C (v := 13) dX6_reestimate_13 (by decide) ?_
  refine g_callS C (cs1 := [wX ax (bo 0) (tr 0) (ac 0) (ah 0) (at_ 0), wB E bo β, wB E tr τ, wC E ac γ, wH E ah bd η, wT E at_ θ, wB E (bd 2) (σ 2), wB E (bd 3) (σ 3), wB E (bd 4) (σ 4), wB E (bd 5) (σ 5), wB E (bd 6) (σ 6), wB E (bd 7) (σ 7), wB E (bd 8) (σ 8), wB E (bd 9) (σ 9)]) (st1 := [.int (b2i (fX6_within b 1 13))]) [.int b, .int 1, .int 13] [] (kX6_within l E b 1 13) caX6_within q3_65 rfl ⟨Nat.le_of_ble_eq_true rfl, Nat.le_of_ble_eq_true rfl⟩ ⟨Nat.le_of_ble_eq_true rfl, Nat.le_of_ble_eq_true rfl⟩ (by decide) rfl rfl rfl rfl (Nat.le_of_ble_eq_true rfl) dX6_reestimate_15 rfl ?_
  have e_6 : (fX6_within b 1 13) = false → fX6_reestimate β η σ a b = (.inl xIA, β, η, σ) := fun c_5 => by rw [fX6_reestimate]; rw [if_pos c_3, if_neg (ne_true_of_eq_false c_5)]
  refine g_req (b := (fX6_within b 1 13)) C hT (kX6_requireArgument l E hlt (fX6_within b 1 13)) caX6_requireArgument q3_68 ⟨Nat.le_of_ble_eq_true rfl, Nat.le_of_ble_eq_true rfl⟩ ⟨Nat.le_of_ble_eq_true rfl, Nat.le_of_ble_eq_true rfl⟩ ⟨Nat.le_of_ble_eq_true rfl, Nat.le_of_ble_eq_true rfl⟩ (fun c => by rw [e_6 c]; exact ⟨rfl, rfl⟩) (Nat.le_of_ble_eq_true rfl) dX6_reestimate_18 (fun c_7 => ?_)
  refine g_aload_n C dX6_reestimate_21 rfl 0 rfl ?_
  refine g_getf C (T := TX6) (N := 5) 0 0 rfl rfl rfl inX6 0 (by decide) q1_192 rfl dX6_reestimate_22 ?_
  refine g_iload_n C dX6_reestimate_25 rfl 1 rfl ?_
  refine g_iload_n C dX6_reestimate_26 rfl 2 rfl ?_
  refine g_st (st1 := [.int b, .int (nI a.toNatClampNeg), .ref (bo 0)]) (by rw [← hx_4.1]) ?_
  refine g_callV C (cs1 := [wX ax (bo 0) (tr 0) (ac 0) (ah 0) (at_ 0), wB E bo β, wB E tr τ, wC E ac γ, wH E ah bd η, wT E at_ θ, wB E (bd 2) (σ 2), wB E (bd 3) (σ 3), wB E (bd 4) (σ 4), wB E (bd 5) (σ 5), wB E (bd 6) (σ 6), wB E (bd 7) (σ 7), wB E (bd 8) (σ 8), wB E (bd 9) (σ 9)]) (st1 := [.int (b2i (fX0_canHavePoints β a.toNatClampNeg b))]) [.int (nI a.toNatClampNeg), .int b] [1] (kX0_canHavePoints l E bo β hv a.toNatClampNeg hx_4.2.1 b) caX0_canHavePoints q3_214 rfl ⟨Nat.le_of_ble_eq_true rfl, Nat.le_of_ble_eq_true rfl⟩ ⟨Nat.le_of_ble_eq_true rfl, Nat.le_of_ble_eq_true rfl⟩ 1 0 rfl rfl rfl rfl (by decide) rfl rfl rfl rfl (Nat.le_of_ble_eq_true rfl) dX6_reestimate_27 rfl ?_
  have e_9 : (fX0_canHavePoints β a.toNatClampNeg b) = false → fX6_reestimate β η σ a b = (.inl xIS, β, η, σ) := fun c_8 => by rw [fX6_reestimate]; rw [if_pos c_3, if_pos c_7, if_neg (ne_true_of_eq_false c_8)]
  refine g_req (b := (fX0_canHavePoints β a.toNatClampNeg b)) C hT (kX6_requireState l E hlt (fX0_canHavePoints β a.toNatClampNeg b)) caX6_requireState q3_143 ⟨Nat.le_of_ble_eq_true rfl, Nat.le_of_ble_eq_true rfl⟩ ⟨Nat.le_of_ble_eq_true rfl, Nat.le_of_ble_eq_true rfl⟩ ⟨Nat.le_of_ble_eq_true rfl, Nat.le_of_ble_eq_true rfl⟩ (fun c => by rw [e_9 c]; exact ⟨rfl, rfl⟩) (Nat.le_of_ble_eq_true rfl) dX6_reestimate_30 (fun c_10 => ?_)
  refine g_aload_n C dX6_reestimate_33 rfl 0 rfl ?_
  refine g_getf C (T := TX6) (N := 5) 0 0 rfl rfl rfl inX6 3 (by decide) q1_195 rfl dX6_reestimate_34 ?_
  refine g_aload_n C dX6_reestimate_37 rfl 0 rfl ?_
  refine g_getf C (T := TX6) (N := 5) 0 0 rfl rfl rfl inX6 0 (by decide) q1_192 rfl dX6_reestimate_38 ?_
  refine g_callV C (cs1 := [wX ax (bo 0) (tr 0) (ac 0) (ah 0) (at_ 0), wB E bo β, wB E tr τ, wC E ac γ, wH E ah bd ((fX3_save η σ β).1), wT E at_ θ, wB E (bd 2) ((fX3_save η σ β).2 2), wB E (bd 3) ((fX3_save η σ β).2 3), wB E (bd 4) ((fX3_save η σ β).2 4), wB E (bd 5) ((fX3_save η σ β).2 5), wB E (bd 6) ((fX3_save η σ β).2 6), wB E (bd 7) ((fX3_save η σ β).2 7), wB E (bd 8) ((fX3_save η σ β).2 8), wB E (bd 9) ((fX3_save η σ β).2 9)]) (st1 := []) [.ref (bo 0)] [4, 6, 7, 8, 9, 10, 11, 12, 13, 1] (kX3_save l E ah bd η σ bo β hvh) caX3_save q3_162 rfl ⟨Nat.le_of_ble_eq_true rfl, Nat.le_of_ble_eq_true rfl⟩ ⟨Nat.le_of_ble_eq_true rfl, Nat.le_of_ble_eq_true rfl⟩ 4 0 rfl rfl rfl rfl (by decide) rfl rfl rfl rfl (Nat.le_of_ble_eq_true rfl) dX6_reestimate_41 rfl ?_
  refine g_aload_n C dX6_reestimate_44 rfl 0 rfl ?_
  refine g_getf C (T := TX6) (N := 5) 0 0 rfl rfl rfl inX6 0 (by decide) q1_192 rfl dX6_reestimate_45 ?_
  refine g_iload_n C dX6_reestimate_48 rfl 1 rfl ?_
  refine g_iload_n C dX6_reestimate_49 rfl 2 rfl ?_
  refine g_st (st1 := [.int b, .int (nI a.toNatClampNeg), .ref (bo 0)]) (by rw [← hx_4.1]) ?_
  refine g_callV C (cs1 := [wX ax (bo 0) (tr 0) (ac 0) (ah 0) (at_ 0), wB E bo ((fX0_setPoints β a.toNatClampNeg b).2), wB E tr τ, wC E ac γ, wH E ah bd ((fX3_save η σ β).1), wT E at_ θ, wB E (bd 2) ((fX3_save η σ β).2 2), wB E (bd 3) ((fX3_save η σ β).2 3), wB E (bd 4) ((fX3_save η σ β).2 4), wB E (bd 5) ((fX3_save η σ β).2 5), wB E (bd 6) ((fX3_save η σ β).2 6), wB E (bd 7) ((fX3_save η σ β).2 7), wB E (bd 8) ((fX3_save η σ β).2 8), wB E (bd 9) ((fX3_save η σ β).2 9)]) (st1 := [.int ((fX0_setPoints β a.toNatClampNeg b).1)]) [.int (nI a.toNatClampNeg), .int b] [1] (kX0_setPoints l E bo β hv a.toNatClampNeg hx_4.2.1 b) caX0_setPoints q3_222 rfl ⟨Nat.le_of_ble_eq_true rfl, Nat.le_of_ble_eq_true rfl⟩ ⟨Nat.le_of_ble_eq_true rfl, Nat.le_of_ble_eq_true rfl⟩ 1 0 rfl rfl rfl rfl (by decide) rfl rfl rfl rfl (Nat.le_of_ble_eq_true rfl) dX6_reestimate_50 rfl ?_
  have e_11 : fX6_reestimate β η σ a b = (.inr ((fX0_setPoints β a.toNatClampNeg b).1), (fX0_setPoints β a.toNatClampNeg b).2, (fX3_save η σ β).1, (fX3_save η σ β).2) := by rw [fX6_reestimate]; rw [if_pos c_3, if_pos c_7, if_pos c_10]
  refine g_widen (k1 := 3) (n1 := 18) (Nat.le_of_ble_eq_true rfl) (Nat.le_of_ble_eq_true rfl) ?_
  exact g_iret C (gT_r hT (by rw [e_11] <;> rfl) (by rw [e_11] <;> rfl)) rfl rfl dX6_reestimate_53
def fX6_changePriority (β : BS) (η : BS) (σ : Nat → BS) (a : Int32) (b : Int32) : (String ⊕ Int32) × BS × BS × (Nat → BS) :=
  if (fX0_hasTicket β a) = true then (if (fX6_within b 0 3) = true then (.inr ((fX0_setPriority β a.toNatClampNeg b).1), (fX0_setPriority β a.toNatClampNeg b).2, (fX3_save η σ β).1, (fX3_save η σ β).2) else (.inl xIA, β, η, σ)) else (.inl xIO, β, η, σ)
theorem caX6_changePriority : gCalV yX6_changePriority cX6_changePriority 3 (some .int) 2 := ⟨⟨q3_236, q1_1, by decide +kernel⟩, q3_234, q3_235⟩
set_option maxHeartbeats 4000000 in
set_option maxRecDepth 100000 in
theorem kX6_changePriority (l : Launch) (E : gE) (ax : Nat) (bo : Nat → Nat) (β : BS) (tr : Nat → Nat) (τ : BS) (ac : Nat → Nat) (γ : BS) (ah : Nat → Nat) (bd : Nat → Nat → Nat) (η : BS) (σ : Nat → BS) (at_ : Nat → Nat) (θ : BS) (hlt : l.stackTraces = false) (hv : vB β) (hvh : vH η)  (a : Int32) (b : Int32) : MX l E yX6_changePriority cX6_changePriority 3 (some .int) 3 18 7 102 [.ref ax, .int a, .int b] [wX ax (bo 0) (tr 0) (ac 0) (ah 0) (at_ 0), wB E bo β, wB E tr τ, wC E ac γ, wH E ah bd η, wT E at_ θ, wB E (bd 2) (σ 2), wB E (bd 3) (σ 3), wB E (bd 4) (σ 4), wB E (bd 5) (σ 5), wB E (bd 6) (σ 6), wB E (bd 7) (σ 7), wB E (bd 8) (σ 8), wB E (bd 9) (σ 9)] (Sum.map id (fun v => some (.int v)) (fX6_changePriority β η σ a b).1) [wX ax (bo 0) (tr 0) (ac 0) (ah 0) (at_ 0), wB E bo ((fX6_changePriority β η σ a b).2.1), wB E tr τ, wC E ac γ, wH E ah bd ((fX6_changePriority β η σ a b).2.2.1), wT E at_ θ, wB E (bd 2) ((fX6_changePriority β η σ a b).2.2.2 2), wB E (bd 3) ((fX6_changePriority β η σ a b).2.2.2 3), wB E (bd 4) ((fX6_changePriority β η σ a b).2.2.2 4), wB E (bd 5) ((fX6_changePriority β η σ a b).2.2.2 5), wB E (bd 6) ((fX6_changePriority β η σ a b).2.2.2 6), wB E (bd 7) ((fX6_changePriority β η σ a b).2.2.2 7), wB E (bd 8) ((fX6_changePriority β η σ a b).2.2.2 8), wB E (bd 9) ((fX6_changePriority β η σ a b).2.2.2 9)] := by
  have hv1 : cnt β ≤ 20 := hv.1
  refine mx_of hlt (by decide +kernel) (Nat.le_of_ble_eq_true rfl) (lv := [(0, .ref ax), (1, .int a), (2, .int b)]) rfl (fun X C hT => ?_)
  refine g_aload_n C dX6_changePriority_0 rfl 0 rfl ?_
  refine g_getf C (T := TX6) (N := 5) 0 0 rfl rfl rfl inX6 0 (by decide) q1_192 rfl dX6_changePriority_1 ?_
  refine g_iload_n C dX6_changePriority_4 rfl 1 rfl ?_
  refine g_callV C (cs1 := [wX ax (bo 0) (tr 0) (ac 0) (ah 0) (at_ 0), wB E bo β, wB E tr τ, wC E ac γ, wH E ah bd η, wT E at_ θ, wB E (bd 2) (σ 2), wB E (bd 3) (σ 3), wB E (bd 4) (σ 4), wB E (bd 5) (σ 5), wB E (bd 6) (σ 6), wB E (bd 7) (σ 7), wB E (bd 8) (σ 8), wB E (bd 9) (σ 9)]) (st1 := [.int (b2i (fX0_hasTicket β a))]) [.int a] [1] (kX0_hasTicket l E bo β a) caX0_hasTicket q3_191 rfl ⟨Nat.le_of_ble_eq_true rfl, Nat.le_of_ble_eq_true rfl⟩ ⟨Nat.le_of_ble_eq_true rfl, Nat.le_of_ble_eq_true rfl⟩ 1 0 rfl rfl rfl rfl (by decide) rfl rfl rfl rfl (Nat.le_of_ble_eq_true rfl) dX6_changePriority_5 rfl ?_
  have e_2 : (fX0_hasTicket β a) = false → fX6_changePriority β η σ a b = (.inl xIO, β, η, σ) := fun c_1 => by rw [fX6_changePriority]; rw [if_neg (ne_true_of_eq_false c_1)]
  refine g_req (b := (fX0_hasTicket β a)) C hT (kX6_requireIndex l E hlt (fX0_hasTicket β a)) caX6_requireIndex q3_195 ⟨Nat.le_of_ble_eq_true rfl, Nat.le_of_ble_eq_true rfl⟩ ⟨Nat.le_of_ble_eq_true rfl, Nat.le_of_ble_eq_true rfl⟩ ⟨Nat.le_of_ble_eq_true rfl, Nat.le_of_ble_eq_true rfl⟩ (fun c => by rw [e_2 c]; exact ⟨rfl, rfl⟩) (Nat.le_of_ble_eq_true rfl) dX6_changePriority_8 (fun c_3 => ?_)
  have hx_4 := hasTicket_i hv c_3
  refine g_iload_n C dX6_changePriority_11 rfl 2 rfl ?_
  refine g_iconst C (v := 0) dX6_changePriority_12 (by decide) ?_
  refine g_iconst C (v := 3) dX6_changePriority_13 (by decide) ?_
  refine g_callS C (cs1 := [wX ax (bo 0) (tr 0) (ac 0) (ah 0) (at_ 0), wB E bo β, wB E tr τ, wC E ac γ, wH E ah bd η, wT E at_ θ, wB E (bd 2) (σ 2), wB E (bd 3) (σ 3), wB E (bd 4) (σ 4), wB E (bd 5) (σ 5), wB E (bd 6) (σ 6), wB E (bd 7) (σ 7), wB E (bd 8) (σ 8), wB E (bd 9) (σ 9)]) (st1 := [.int (b2i (fX6_within b 0 3))]) [.int b, .int 0, .int 3] [] (kX6_within l E b 0 3) caX6_within q3_65 rfl ⟨Nat.le_of_ble_eq_true rfl, Nat.le_of_ble_eq_true rfl⟩ ⟨Nat.le_of_ble_eq_true rfl, Nat.le_of_ble_eq_true rfl⟩ (by decide) rfl rfl rfl rfl (Nat.le_of_ble_eq_true rfl) dX6_changePriority_14 rfl ?_
  have e_6 : (fX6_within b 0 3) = false → fX6_changePriority β η σ a b = (.inl xIA, β, η, σ) := fun c_5 => by rw [fX6_changePriority]; rw [if_pos c_3, if_neg (ne_true_of_eq_false c_5)]
  refine g_req (b := (fX6_within b 0 3)) C hT (kX6_requireArgument l E hlt (fX6_within b 0 3)) caX6_requireArgument q3_68 ⟨Nat.le_of_ble_eq_true rfl, Nat.le_of_ble_eq_true rfl⟩ ⟨Nat.le_of_ble_eq_true rfl, Nat.le_of_ble_eq_true rfl⟩ ⟨Nat.le_of_ble_eq_true rfl, Nat.le_of_ble_eq_true rfl⟩ (fun c => by rw [e_6 c]; exact ⟨rfl, rfl⟩) (Nat.le_of_ble_eq_true rfl) dX6_changePriority_17 (fun c_7 => ?_)
  refine g_aload_n C dX6_changePriority_20 rfl 0 rfl ?_
  refine g_getf C (T := TX6) (N := 5) 0 0 rfl rfl rfl inX6 3 (by decide) q1_195 rfl dX6_changePriority_21 ?_
  refine g_aload_n C dX6_changePriority_24 rfl 0 rfl ?_
  refine g_getf C (T := TX6) (N := 5) 0 0 rfl rfl rfl inX6 0 (by decide) q1_192 rfl dX6_changePriority_25 ?_
  refine g_callV C (cs1 := [wX ax (bo 0) (tr 0) (ac 0) (ah 0) (at_ 0), wB E bo β, wB E tr τ, wC E ac γ, wH E ah bd ((fX3_save η σ β).1), wT E at_ θ, wB E (bd 2) ((fX3_save η σ β).2 2), wB E (bd 3) ((fX3_save η σ β).2 3), wB E (bd 4) ((fX3_save η σ β).2 4), wB E (bd 5) ((fX3_save η σ β).2 5), wB E (bd 6) ((fX3_save η σ β).2 6), wB E (bd 7) ((fX3_save η σ β).2 7), wB E (bd 8) ((fX3_save η σ β).2 8), wB E (bd 9) ((fX3_save η σ β).2 9)]) (st1 := []) [.ref (bo 0)] [4, 6, 7, 8, 9, 10, 11, 12, 13, 1] (kX3_save l E ah bd η σ bo β hvh) caX3_save q3_162 rfl ⟨Nat.le_of_ble_eq_true rfl, Nat.le_of_ble_eq_true rfl⟩ ⟨Nat.le_of_ble_eq_true rfl, Nat.le_of_ble_eq_true rfl⟩ 4 0 rfl rfl rfl rfl (by decide) rfl rfl rfl rfl (Nat.le_of_ble_eq_true rfl) dX6_changePriority_28 rfl ?_
  refine g_aload_n C dX6_changePriority_31 rfl 0 rfl ?_
  refine g_getf C (T := TX6) (N := 5) 0 0 rfl rfl rfl inX6 0 (by decide) q1_192 rfl dX6_changePriority_32 ?_
  refine g_iload_n C dX6_changePriority_35 rfl 1 rfl ?_
  refine g_iload_n C dX6_changePriority_36 rfl 2 rfl ?_
  refine g_st (st1 := [.int b, .int (nI a.toNatClampNeg), .ref (bo 0)]) (by rw [← hx_4.1]) ?_
  refine g_callV C (cs1 := [wX ax (bo 0) (tr 0) (ac 0) (ah 0) (at_ 0), wB E bo ((fX0_setPriority β a.toNatClampNeg b).2), wB E tr τ, wC E ac γ, wH E ah bd ((fX3_save η σ β).1), wT E at_ θ, wB E (bd 2) ((fX3_save η σ β).2 2), wB E (bd 3) ((fX3_save η σ β).2 3), wB E (bd 4) ((fX3_save η σ β).2 4), wB E (bd 5) ((fX3_save η σ β).2 5), wB E (bd 6) ((fX3_save η σ β).2 6), wB E (bd 7) ((fX3_save η σ β).2 7), wB E (bd 8) ((fX3_save η σ β).2 8), wB E (bd 9) ((fX3_save η σ β).2 9)]) (st1 := [.int ((fX0_setPriority β a.toNatClampNeg b).1)]) [.int (nI a.toNatClampNeg), .int b] [1] (kX0_setPriority l E bo β a.toNatClampNeg hx_4.2.1 b) caX0_setPriority q3_237 rfl ⟨Nat.le_of_ble_eq_true rfl, Nat.le_of_ble_eq_true rfl⟩ ⟨Nat.le_of_ble_eq_true rfl, Nat.le_of_ble_eq_true rfl⟩ 1 0 rfl rfl rfl rfl (by decide) rfl rfl rfl rfl (Nat.le_of_ble_eq_true rfl) dX6_changePriority_37 rfl ?_
  have e_8 : fX6_changePriority β η σ a b = (.inr ((fX0_setPriority β a.toNatClampNeg b).1), (fX0_setPriority β a.toNatClampNeg b).2, (fX3_save η σ β).1, (fX3_save η σ β).2) := by rw [fX6_changePriority]; rw [if_pos c_3, if_pos c_7]
  refine g_widen (k1 := 3) (n1 := 18) (Nat.le_of_ble_eq_true rfl) (Nat.le_of_ble_eq_true rfl) ?_
  exact g_iret C (gT_r hT (by rw [e_8] <;> rfl) (by rw [e_8] <;> rfl)) rfl rfl dX6_changePriority_40
def fX6_need (β : BS) (η : BS) (σ : Nat → BS) (a : Int32) (b : Int32) : (String ⊕ Int32) × BS × BS × (Nat → BS) :=
  if (fX0_hasTicket β a) = true then (if (fX0_hasTicket β b) = true then (if a = b then (.inl xIA, β, η, σ) else (if (fX0_canNeed β a.toNatClampNeg b.toNatClampNeg) = true then (.inr ((fX0_addNeed β a.toNatClampNeg b).1), (fX0_addNeed β a.toNatClampNeg b).2, (fX3_save η σ β).1, (fX3_save η σ β).2) else (.inl xIS, β, η, σ))) else (.inl xIO, β, η, σ)) else (.inl xIO, β, η, σ)
theorem caX6_need : gCalV yX6_need cX6_need 3 (some .int) 2 := ⟨⟨q4_7, q1_1, by decide +kernel⟩, q4_5, q4_6⟩
set_option maxHeartbeats 4000000 in
set_option maxRecDepth 100000 in
theorem kX6_need (l : Launch) (E : gE) (ax : Nat) (bo : Nat → Nat) (β : BS) (tr : Nat → Nat) (τ : BS) (ac : Nat → Nat) (γ : BS) (ah : Nat → Nat) (bd : Nat → Nat → Nat) (η : BS) (σ : Nat → BS) (at_ : Nat → Nat) (θ : BS) (hlt : l.stackTraces = false) (hv : vB β) (hvh : vH η)  (a : Int32) (b : Int32) : MX l E yX6_need cX6_need 3 (some .int) 3 18 7 102 [.ref ax, .int a, .int b] [wX ax (bo 0) (tr 0) (ac 0) (ah 0) (at_ 0), wB E bo β, wB E tr τ, wC E ac γ, wH E ah bd η, wT E at_ θ, wB E (bd 2) (σ 2), wB E (bd 3) (σ 3), wB E (bd 4) (σ 4), wB E (bd 5) (σ 5), wB E (bd 6) (σ 6), wB E (bd 7) (σ 7), wB E (bd 8) (σ 8), wB E (bd 9) (σ 9)] (Sum.map id (fun v => some (.int v)) (fX6_need β η σ a b).1) [wX ax (bo 0) (tr 0) (ac 0) (ah 0) (at_ 0), wB E bo ((fX6_need β η σ a b).2.1), wB E tr τ, wC E ac γ, wH E ah bd ((fX6_need β η σ a b).2.2.1), wT E at_ θ, wB E (bd 2) ((fX6_need β η σ a b).2.2.2 2), wB E (bd 3) ((fX6_need β η σ a b).2.2.2 3), wB E (bd 4) ((fX6_need β η σ a b).2.2.2 4), wB E (bd 5) ((fX6_need β η σ a b).2.2.2 5), wB E (bd 6) ((fX6_need β η σ a b).2.2.2 6), wB E (bd 7) ((fX6_need β η σ a b).2.2.2 7), wB E (bd 8) ((fX6_need β η σ a b).2.2.2 8), wB E (bd 9) ((fX6_need β η σ a b).2.2.2 9)] := by
  have hv1 : cnt β ≤ 20 := hv.1
  refine mx_of hlt (by decide +kernel) (Nat.le_of_ble_eq_true rfl) (lv := [(0, .ref ax), (1, .int a), (2, .int b)]) rfl (fun X C hT => ?_)
  refine g_aload_n C dX6_need_0 rfl 0 rfl ?_
  refine g_getf C (T := TX6) (N := 5) 0 0 rfl rfl rfl inX6 0 (by decide) q1_192 rfl dX6_need_1 ?_
  refine g_iload_n C dX6_need_4 rfl 1 rfl ?_
  refine g_callV C (cs1 := [wX ax (bo 0) (tr 0) (ac 0) (ah 0) (at_ 0), wB E bo β, wB E tr τ, wC E ac γ, wH E ah bd η, wT E at_ θ, wB E (bd 2) (σ 2), wB E (bd 3) (σ 3), wB E (bd 4) (σ 4), wB E (bd 5) (σ 5), wB E (bd 6) (σ 6), wB E (bd 7) (σ 7), wB E (bd 8) (σ 8), wB E (bd 9) (σ 9)]) (st1 := [.int (b2i (fX0_hasTicket β a))]) [.int a] [1] (kX0_hasTicket l E bo β a) caX0_hasTicket q3_191 rfl ⟨Nat.le_of_ble_eq_true rfl, Nat.le_of_ble_eq_true rfl⟩ ⟨Nat.le_of_ble_eq_true rfl, Nat.le_of_ble_eq_true rfl⟩ 1 0 rfl rfl rfl rfl (by decide) rfl rfl rfl rfl (Nat.le_of_ble_eq_true rfl) dX6_need_5 rfl ?_
  refine g_ifB_eq C 26 dX6_need_8 (by decide) (fun c_1 => ?_) (fun c_1 => ?_)
  · skip
    refine g_iconst C (v := 0) dX6_need_26 (by decide) ?_
    have e_3 : false = false → fX6_need β η σ a b = (.inl xIO, β, η, σ) := fun c_2 => by rw [fX6_need]; rw [if_neg (ne_true_of_eq_false c_1)]
    exact g_req (b := false) C hT (kX6_requireIndex l E hlt false) caX6_requireIndex q3_195 ⟨Nat.le_of_ble_eq_true rfl, Nat.le_of_ble_eq_true rfl⟩ ⟨Nat.le_of_ble_eq_true rfl, Nat.le_of_ble_eq_true rfl⟩ ⟨Nat.le_of_ble_eq_true rfl, Nat.le_of_ble_eq_true rfl⟩ (fun c => by rw [e_3 c]; exact ⟨rfl, rfl⟩) (Nat.le_of_ble_eq_true rfl) dX6_need_27 (fun h => absurd h (by decide))
  · skip
    have hx_4 := hasTicket_i hv c_1
    refine g_aload_n C dX6_need_11 rfl 0 rfl ?_
    refine g_getf C (T := TX6) (N := 5) 0 0 rfl rfl rfl inX6 0 (by decide) q1_192 rfl dX6_need_12 ?_
    refine g_iload_n C dX6_need_15 rfl 2 rfl ?_
    refine g_callV C (cs1 := [wX ax (bo 0) (tr 0) (ac 0) (ah 0) (at_ 0), wB E bo β, wB E tr τ, wC E ac γ, wH E ah bd η, wT E at_ θ, wB E (bd 2) (σ 2), wB E (bd 3) (σ 3), wB E (bd 4) (σ 4), wB E (bd 5) (σ 5), wB E (bd 6) (σ 6), wB E (bd 7) (σ 7), wB E (bd 8) (σ 8), wB E (bd 9) (σ 9)]) (st1 := [.int (b2i (fX0_hasTicket β b))]) [.int b] [1] (kX0_hasTicket l E bo β b) caX0_hasTicket q3_191 rfl ⟨Nat.le_of_ble_eq_true rfl, Nat.le_of_ble_eq_true rfl⟩ ⟨Nat.le_of_ble_eq_true rfl, Nat.le_of_ble_eq_true rfl⟩ 1 0 rfl rfl rfl rfl (by decide) rfl rfl rfl rfl (Nat.le_of_ble_eq_true rfl) dX6_need_16 rfl ?_
    refine g_ifB_eq C 26 dX6_need_19 (by decide) (fun c_5 => ?_) (fun c_5 => ?_)
    · skip
      refine g_iconst C (v := 0) dX6_need_26 (by decide) ?_
      have e_7 : false = false → fX6_need β η σ a b = (.inl xIO, β, η, σ) := fun c_6 => by rw [fX6_need]; rw [if_pos c_1, if_neg (ne_true_of_eq_false c_5)]
      exact g_req (b := false) C hT (kX6_requireIndex l E hlt false) caX6_requireIndex q3_195 ⟨Nat.le_of_ble_eq_true rfl, Nat.le_of_ble_eq_true rfl⟩ ⟨Nat.le_of_ble_eq_true rfl, Nat.le_of_ble_eq_true rfl⟩ ⟨Nat.le_of_ble_eq_true rfl, Nat.le_of_ble_eq_true rfl⟩ (fun c => by rw [e_7 c]; exact ⟨rfl, rfl⟩) (Nat.le_of_ble_eq_true rfl) dX6_need_27 (fun h => absurd h (by decide))
    · skip
      have hx_8 := hasTicket_i hv c_5
      refine g_iconst C (v := 1) dX6_need_22 (by decide) ?_
      refine g_goto C 27 dX6_need_23 (by decide) ?_
      refine g_req (b := true) C hT (kX6_requireIndex l E hlt true) caX6_requireIndex q3_195 ⟨Nat.le_of_ble_eq_true rfl, Nat.le_of_ble_eq_true rfl⟩ ⟨Nat.le_of_ble_eq_true rfl, Nat.le_of_ble_eq_true rfl⟩ ⟨Nat.le_of_ble_eq_true rfl, Nat.le_of_ble_eq_true rfl⟩ (fun h => absurd h (by decide)) (Nat.le_of_ble_eq_true rfl) dX6_need_27 (fun _ => ?_)
      refine g_iload_n C dX6_need_30 rfl 1 rfl ?_
      refine g_iload_n C dX6_need_31 rfl 2 rfl ?_
      refine g_icmp_eq C 39 dX6_need_32 (by decide) (fun c_11 => ?_) (fun c_11 => ?_)
      · skip
        refine g_iconst C (v := 0) dX6_need_39 (by decide) ?_
        have e_13 : false = false → fX6_need β η σ a b = (.inl xIA, β, η, σ) := fun c_12 => by rw [fX6_need]; rw [if_pos c_1, if_pos c_5, if_pos c_11]
        exact g_req (b := false) C hT (kX6_requireArgument l E hlt false) caX6_requireArgument q3_68 ⟨Nat.le_of_ble_eq_true rfl, Nat.le_of_ble_eq_true rfl⟩ ⟨Nat.le_of_ble_eq_true rfl, Nat.le_of_ble_eq_true rfl⟩ ⟨Nat.le_of_ble_eq_true rfl, Nat.le_of_ble_eq_true rfl⟩ (fun c => by rw [e_13 c]; exact ⟨rfl, rfl⟩) (Nat.le_of_ble_eq_true rfl) dX6_need_40 (fun h => absurd h (by decide))
      · skip
        refine g_iconst C (v := 1) dX6_need_35 (by decide) ?_
        refine g_goto C 40 dX6_need_36 (by decide) ?_
        refine g_req (b := true) C hT (kX6_requireArgument l E hlt true) caX6_requireArgument q3_68 ⟨Nat.le_of_ble_eq_true rfl, Nat.le_of_ble_eq_true rfl⟩ ⟨Nat.le_of_ble_eq_true rfl, Nat.le_of_ble_eq_true rfl⟩ ⟨Nat.le_of_ble_eq_true rfl, Nat.le_of_ble_eq_true rfl⟩ (fun h => absurd h (by decide)) (Nat.le_of_ble_eq_true rfl) dX6_need_40 (fun _ => ?_)
        refine g_aload_n C dX6_need_43 rfl 0 rfl ?_
        refine g_getf C (T := TX6) (N := 5) 0 0 rfl rfl rfl inX6 0 (by decide) q1_192 rfl dX6_need_44 ?_
        refine g_iload_n C dX6_need_47 rfl 1 rfl ?_
        refine g_iload_n C dX6_need_48 rfl 2 rfl ?_
        refine g_st (st1 := [.int b, .int (nI a.toNatClampNeg), .ref (bo 0)]) (by rw [← hx_4.1]) ?_
        refine g_st (st1 := [.int (nI b.toNatClampNeg), .int (nI a.toNatClampNeg), .ref (bo 0)]) (by rw [← hx_8.1]) ?_
        refine g_callV C (cs1 := [wX ax (bo 0) (tr 0) (ac 0) (ah 0) (at_ 0), wB E bo β, wB E tr τ, wC E ac γ, wH E ah bd η, wT E at_ θ, wB E (bd 2) (σ 2), wB E (bd 3) (σ 3), wB E (bd 4) (σ 4), wB E (bd 5) (σ 5), wB E (bd 6) (σ 6), wB E (bd 7) (σ 7), wB E (bd 8) (σ 8), wB E (bd 9) (σ 9)]) (st1 := [.int (b2i (fX0_canNeed β a.toNatClampNeg b.toNatClampNeg))]) [.int (nI a.toNatClampNeg), .int (nI b.toNatClampNeg)] [1] (kX0_canNeed l E bo β hv a.toNatClampNeg hx_4.2.1 b.toNatClampNeg hx_8.2.1) caX0_canNeed q4_8 rfl ⟨Nat.le_of_ble_eq_true rfl, Nat.le_of_ble_eq_true rfl⟩ ⟨Nat.le_of_ble_eq_true rfl, Nat.le_of_ble_eq_true rfl⟩ 1 0 rfl rfl rfl rfl (by decide) rfl rfl rfl rfl (Nat.le_of_ble_eq_true rfl) dX6_need_49 rfl ?_
        have e_17 : (fX0_canNeed β a.toNatClampNeg b.toNatClampNeg) = false → fX6_need β η σ a b = (.inl xIS, β, η, σ) := fun c_16 => by rw [fX6_need]; rw [if_pos c_1, if_pos c_5, if_neg c_11, if_neg (ne_true_of_eq_false c_16)]
        refine g_req (b := (fX0_canNeed β a.toNatClampNeg b.toNatClampNeg)) C hT (kX6_requireState l E hlt (fX0_canNeed β a.toNatClampNeg b.toNatClampNeg)) caX6_requireState q3_143 ⟨Nat.le_of_ble_eq_true rfl, Nat.le_of_ble_eq_true rfl⟩ ⟨Nat.le_of_ble_eq_true rfl, Nat.le_of_ble_eq_true rfl⟩ ⟨Nat.le_of_ble_eq_true rfl, Nat.le_of_ble_eq_true rfl⟩ (fun c => by rw [e_17 c]; exact ⟨rfl, rfl⟩) (Nat.le_of_ble_eq_true rfl) dX6_need_52 (fun c_18 => ?_)
        refine g_aload_n C dX6_need_55 rfl 0 rfl ?_
        refine g_getf C (T := TX6) (N := 5) 0 0 rfl rfl rfl inX6 3 (by decide) q1_195 rfl dX6_need_56 ?_
        refine g_aload_n C dX6_need_59 rfl 0 rfl ?_
        refine g_getf C (T := TX6) (N := 5) 0 0 rfl rfl rfl inX6 0 (by decide) q1_192 rfl dX6_need_60 ?_
        refine g_callV C (cs1 := [wX ax (bo 0) (tr 0) (ac 0) (ah 0) (at_ 0), wB E bo β, wB E tr τ, wC E ac γ, wH E ah bd ((fX3_save η σ β).1), wT E at_ θ, wB E (bd 2) ((fX3_save η σ β).2 2), wB E (bd 3) ((fX3_save η σ β).2 3), wB E (bd 4) ((fX3_save η σ β).2 4), wB E (bd 5) ((fX3_save η σ β).2 5), wB E (bd 6) ((fX3_save η σ β).2 6), wB E (bd 7) ((fX3_save η σ β).2 7), wB E (bd 8) ((fX3_save η σ β).2 8), wB E (bd 9) ((fX3_save η σ β).2 9)]) (st1 := []) [.ref (bo 0)] [4, 6, 7, 8, 9, 10, 11, 12, 13, 1] (kX3_save l E ah bd η σ bo β hvh) caX3_save q3_162 rfl ⟨Nat.le_of_ble_eq_true rfl, Nat.le_of_ble_eq_true rfl⟩ ⟨Nat.le_of_ble_eq_true rfl, Nat.le_of_ble_eq_true rfl⟩ 4 0 rfl rfl rfl rfl (by decide) rfl rfl rfl rfl (Nat.le_of_ble_eq_true rfl) dX6_need_63 rfl ?_
        refine g_aload_n C dX6_need_66 rfl 0 rfl ?_
        refine g_getf C (T := TX6) (N := 5) 0 0 rfl rfl rfl inX6 0 (by decide) q1_192 rfl dX6_need_67 ?_
        refine g_iload_n C dX6_need_70 rfl 1 rfl ?_
        refine g_iload_n C dX6_need_71 rfl 2 rfl ?_
        refine g_st (st1 := [.int b, .int (nI a.toNatClampNeg), .ref (bo 0)]) (by rw [← hx_4.1]) ?_
        refine g_callV C (cs1 := [wX ax (bo 0) (tr 0) (ac 0) (ah 0) (at_ 0), wB E bo ((fX0_addNeed β a.toNatClampNeg b).2), wB E tr τ, wC E ac γ, wH E ah bd ((fX3_save η σ β).1), wT E at_ θ, wB E (bd 2) ((fX3_save η σ β).2 2), wB E (bd 3) ((fX3_save η σ β).2 3), wB E (bd 4) ((fX3_save η σ β).2 4), wB E (bd 5) ((fX3_save η σ β).2 5), wB E (bd 6) ((fX3_save η σ β).2 6), wB E (bd 7) ((fX3_save η σ β).2 7), wB E (bd 8) ((fX3_save η σ β).2 8), wB E (bd 9) ((fX3_save η σ β).2 9)]) (st1 := [.int ((fX0_addNeed β a.toNatClampNeg b).1)]) [.int (nI a.toNatClampNeg), .int b] [1] (kX0_addNeed l E bo β a.toNatClampNeg hx_4.2.1 b) caX0_addNeed q4_14 rfl ⟨Nat.le_of_ble_eq_true rfl, Nat.le_of_ble_eq_true rfl⟩ ⟨Nat.le_of_ble_eq_true rfl, Nat.le_of_ble_eq_true rfl⟩ 1 0 rfl rfl rfl rfl (by decide) rfl rfl rfl rfl (Nat.le_of_ble_eq_true rfl) dX6_need_72 rfl ?_
        have e_19 : fX6_need β η σ a b = (.inr ((fX0_addNeed β a.toNatClampNeg b).1), (fX0_addNeed β a.toNatClampNeg b).2, (fX3_save η σ β).1, (fX3_save η σ β).2) := by rw [fX6_need]; rw [if_pos c_1, if_pos c_5, if_neg c_11, if_pos c_18]
        refine g_widen (k1 := 3) (n1 := 18) (Nat.le_of_ble_eq_true rfl) (Nat.le_of_ble_eq_true rfl) ?_
        exact g_iret C (gT_r hT (by rw [e_19] <;> rfl) (by rw [e_19] <;> rfl)) rfl rfl dX6_need_75
def fX6_release (β : BS) (η : BS) (σ : Nat → BS) (a : Int32) (b : Int32) : (String ⊕ Int32) × BS × BS × (Nat → BS) :=
  if (fX0_hasTicket β a) = true then (if (fX0_hasTicket β b) = true then (if (fX0_needsDirectly β a.toNatClampNeg b) = true then (.inr ((fX0_removeNeed β a.toNatClampNeg b).1), (fX0_removeNeed β a.toNatClampNeg b).2, (fX3_save η σ β).1, (fX3_save η σ β).2) else (.inl xIS, β, η, σ)) else (.inl xIO, β, η, σ)) else (.inl xIO, β, η, σ)
theorem caX6_release : gCalV yX6_release cX6_release 3 (some .int) 2 := ⟨⟨q4_25, q1_1, by decide +kernel⟩, q4_23, q4_24⟩
set_option maxHeartbeats 4000000 in
set_option maxRecDepth 100000 in
theorem kX6_release (l : Launch) (E : gE) (ax : Nat) (bo : Nat → Nat) (β : BS) (tr : Nat → Nat) (τ : BS) (ac : Nat → Nat) (γ : BS) (ah : Nat → Nat) (bd : Nat → Nat → Nat) (η : BS) (σ : Nat → BS) (at_ : Nat → Nat) (θ : BS) (hlt : l.stackTraces = false) (hv : vB β) (hvh : vH η)  (a : Int32) (b : Int32) : MX l E yX6_release cX6_release 3 (some .int) 3 18 7 102 [.ref ax, .int a, .int b] [wX ax (bo 0) (tr 0) (ac 0) (ah 0) (at_ 0), wB E bo β, wB E tr τ, wC E ac γ, wH E ah bd η, wT E at_ θ, wB E (bd 2) (σ 2), wB E (bd 3) (σ 3), wB E (bd 4) (σ 4), wB E (bd 5) (σ 5), wB E (bd 6) (σ 6), wB E (bd 7) (σ 7), wB E (bd 8) (σ 8), wB E (bd 9) (σ 9)] (Sum.map id (fun v => some (.int v)) (fX6_release β η σ a b).1) [wX ax (bo 0) (tr 0) (ac 0) (ah 0) (at_ 0), wB E bo ((fX6_release β η σ a b).2.1), wB E tr τ, wC E ac γ, wH E ah bd ((fX6_release β η σ a b).2.2.1), wT E at_ θ, wB E (bd 2) ((fX6_release β η σ a b).2.2.2 2), wB E (bd 3) ((fX6_release β η σ a b).2.2.2 3), wB E (bd 4) ((fX6_release β η σ a b).2.2.2 4), wB E (bd 5) ((fX6_release β η σ a b).2.2.2 5), wB E (bd 6) ((fX6_release β η σ a b).2.2.2 6), wB E (bd 7) ((fX6_release β η σ a b).2.2.2 7), wB E (bd 8) ((fX6_release β η σ a b).2.2.2 8), wB E (bd 9) ((fX6_release β η σ a b).2.2.2 9)] := by
  have hv1 : cnt β ≤ 20 := hv.1
  refine mx_of hlt (by decide +kernel) (Nat.le_of_ble_eq_true rfl) (lv := [(0, .ref ax), (1, .int a), (2, .int b)]) rfl (fun X C hT => ?_)
  refine g_aload_n C dX6_release_0 rfl 0 rfl ?_
  refine g_getf C (T := TX6) (N := 5) 0 0 rfl rfl rfl inX6 0 (by decide) q1_192 rfl dX6_release_1 ?_
  refine g_iload_n C dX6_release_4 rfl 1 rfl ?_
  refine g_callV C (cs1 := [wX ax (bo 0) (tr 0) (ac 0) (ah 0) (at_ 0), wB E bo β, wB E tr τ, wC E ac γ, wH E ah bd η, wT E at_ θ, wB E (bd 2) (σ 2), wB E (bd 3) (σ 3), wB E (bd 4) (σ 4), wB E (bd 5) (σ 5), wB E (bd 6) (σ 6), wB E (bd 7) (σ 7), wB E (bd 8) (σ 8), wB E (bd 9) (σ 9)]) (st1 := [.int (b2i (fX0_hasTicket β a))]) [.int a] [1] (kX0_hasTicket l E bo β a) caX0_hasTicket q3_191 rfl ⟨Nat.le_of_ble_eq_true rfl, Nat.le_of_ble_eq_true rfl⟩ ⟨Nat.le_of_ble_eq_true rfl, Nat.le_of_ble_eq_true rfl⟩ 1 0 rfl rfl rfl rfl (by decide) rfl rfl rfl rfl (Nat.le_of_ble_eq_true rfl) dX6_release_5 rfl ?_
  refine g_ifB_eq C 26 dX6_release_8 (by decide) (fun c_1 => ?_) (fun c_1 => ?_)
  · skip
    refine g_iconst C (v := 0) dX6_release_26 (by decide) ?_
    have e_3 : false = false → fX6_release β η σ a b = (.inl xIO, β, η, σ) := fun c_2 => by rw [fX6_release]; rw [if_neg (ne_true_of_eq_false c_1)]
    exact g_req (b := false) C hT (kX6_requireIndex l E hlt false) caX6_requireIndex q3_195 ⟨Nat.le_of_ble_eq_true rfl, Nat.le_of_ble_eq_true rfl⟩ ⟨Nat.le_of_ble_eq_true rfl, Nat.le_of_ble_eq_true rfl⟩ ⟨Nat.le_of_ble_eq_true rfl, Nat.le_of_ble_eq_true rfl⟩ (fun c => by rw [e_3 c]; exact ⟨rfl, rfl⟩) (Nat.le_of_ble_eq_true rfl) dX6_release_27 (fun h => absurd h (by decide))
  · skip
    have hx_4 := hasTicket_i hv c_1
    refine g_aload_n C dX6_release_11 rfl 0 rfl ?_
    refine g_getf C (T := TX6) (N := 5) 0 0 rfl rfl rfl inX6 0 (by decide) q1_192 rfl dX6_release_12 ?_
    refine g_iload_n C dX6_release_15 rfl 2 rfl ?_
    refine g_callV C (cs1 := [wX ax (bo 0) (tr 0) (ac 0) (ah 0) (at_ 0), wB E bo β, wB E tr τ, wC E ac γ, wH E ah bd η, wT E at_ θ, wB E (bd 2) (σ 2), wB E (bd 3) (σ 3), wB E (bd 4) (σ 4), wB E (bd 5) (σ 5), wB E (bd 6) (σ 6), wB E (bd 7) (σ 7), wB E (bd 8) (σ 8), wB E (bd 9) (σ 9)]) (st1 := [.int (b2i (fX0_hasTicket β b))]) [.int b] [1] (kX0_hasTicket l E bo β b) caX0_hasTicket q3_191 rfl ⟨Nat.le_of_ble_eq_true rfl, Nat.le_of_ble_eq_true rfl⟩ ⟨Nat.le_of_ble_eq_true rfl, Nat.le_of_ble_eq_true rfl⟩ 1 0 rfl rfl rfl rfl (by decide) rfl rfl rfl rfl (Nat.le_of_ble_eq_true rfl) dX6_release_16 rfl ?_
    refine g_ifB_eq C 26 dX6_release_19 (by decide) (fun c_5 => ?_) (fun c_5 => ?_)
    · skip
      refine g_iconst C (v := 0) dX6_release_26 (by decide) ?_
      have e_7 : false = false → fX6_release β η σ a b = (.inl xIO, β, η, σ) := fun c_6 => by rw [fX6_release]; rw [if_pos c_1, if_neg (ne_true_of_eq_false c_5)]
      exact g_req (b := false) C hT (kX6_requireIndex l E hlt false) caX6_requireIndex q3_195 ⟨Nat.le_of_ble_eq_true rfl, Nat.le_of_ble_eq_true rfl⟩ ⟨Nat.le_of_ble_eq_true rfl, Nat.le_of_ble_eq_true rfl⟩ ⟨Nat.le_of_ble_eq_true rfl, Nat.le_of_ble_eq_true rfl⟩ (fun c => by rw [e_7 c]; exact ⟨rfl, rfl⟩) (Nat.le_of_ble_eq_true rfl) dX6_release_27 (fun h => absurd h (by decide))
    · skip
      have hx_8 := hasTicket_i hv c_5
      refine g_iconst C (v := 1) dX6_release_22 (by decide) ?_
      refine g_goto C 27 dX6_release_23 (by decide) ?_
      refine g_req (b := true) C hT (kX6_requireIndex l E hlt true) caX6_requireIndex q3_195 ⟨Nat.le_of_ble_eq_true rfl, Nat.le_of_ble_eq_true rfl⟩ ⟨Nat.le_of_ble_eq_true rfl, Nat.le_of_ble_eq_true rfl⟩ ⟨Nat.le_of_ble_eq_true rfl, Nat.le_of_ble_eq_true rfl⟩ (fun h => absurd h (by decide)) (Nat.le_of_ble_eq_true rfl) dX6_release_27 (fun _ => ?_)
      refine g_aload_n C dX6_release_30 rfl 0 rfl ?_
      refine g_getf C (T := TX6) (N := 5) 0 0 rfl rfl rfl inX6 0 (by decide) q1_192 rfl dX6_release_31 ?_
      refine g_iload_n C dX6_release_34 rfl 1 rfl ?_
      refine g_iload_n C dX6_release_35 rfl 2 rfl ?_
      refine g_st (st1 := [.int b, .int (nI a.toNatClampNeg), .ref (bo 0)]) (by rw [← hx_4.1]) ?_
      refine g_callV C (cs1 := [wX ax (bo 0) (tr 0) (ac 0) (ah 0) (at_ 0), wB E bo β, wB E tr τ, wC E ac γ, wH E ah bd η, wT E at_ θ, wB E (bd 2) (σ 2), wB E (bd 3) (σ 3), wB E (bd 4) (σ 4), wB E (bd 5) (σ 5), wB E (bd 6) (σ 6), wB E (bd 7) (σ 7), wB E (bd 8) (σ 8), wB E (bd 9) (σ 9)]) (st1 := [.int (b2i (fX0_needsDirectly β a.toNatClampNeg b))]) [.int (nI a.toNatClampNeg), .int b] [1] (kX0_needsDirectly l E bo β a.toNatClampNeg hx_4.2.1 b) caX0_needsDirectly q2_212 rfl ⟨Nat.le_of_ble_eq_true rfl, Nat.le_of_ble_eq_true rfl⟩ ⟨Nat.le_of_ble_eq_true rfl, Nat.le_of_ble_eq_true rfl⟩ 1 0 rfl rfl rfl rfl (by decide) rfl rfl rfl rfl (Nat.le_of_ble_eq_true rfl) dX6_release_36 rfl ?_
      have e_12 : (fX0_needsDirectly β a.toNatClampNeg b) = false → fX6_release β η σ a b = (.inl xIS, β, η, σ) := fun c_11 => by rw [fX6_release]; rw [if_pos c_1, if_pos c_5, if_neg (ne_true_of_eq_false c_11)]
      refine g_req (b := (fX0_needsDirectly β a.toNatClampNeg b)) C hT (kX6_requireState l E hlt (fX0_needsDirectly β a.toNatClampNeg b)) caX6_requireState q3_143 ⟨Nat.le_of_ble_eq_true rfl, Nat.le_of_ble_eq_true rfl⟩ ⟨Nat.le_of_ble_eq_true rfl, Nat.le_of_ble_eq_true rfl⟩ ⟨Nat.le_of_ble_eq_true rfl, Nat.le_of_ble_eq_true rfl⟩ (fun c => by rw [e_12 c]; exact ⟨rfl, rfl⟩) (Nat.le_of_ble_eq_true rfl) dX6_release_39 (fun c_13 => ?_)
      refine g_aload_n C dX6_release_42 rfl 0 rfl ?_
      refine g_getf C (T := TX6) (N := 5) 0 0 rfl rfl rfl inX6 3 (by decide) q1_195 rfl dX6_release_43 ?_
      refine g_aload_n C dX6_release_46 rfl 0 rfl ?_
      refine g_getf C (T := TX6) (N := 5) 0 0 rfl rfl rfl inX6 0 (by decide) q1_192 rfl dX6_release_47 ?_
      refine g_callV C (cs1 := [wX ax (bo 0) (tr 0) (ac 0) (ah 0) (at_ 0), wB E bo β, wB E tr τ, wC E ac γ, wH E ah bd ((fX3_save η σ β).1), wT E at_ θ, wB E (bd 2) ((fX3_save η σ β).2 2), wB E (bd 3) ((fX3_save η σ β).2 3), wB E (bd 4) ((fX3_save η σ β).2 4), wB E (bd 5) ((fX3_save η σ β).2 5), wB E (bd 6) ((fX3_save η σ β).2 6), wB E (bd 7) ((fX3_save η σ β).2 7), wB E (bd 8) ((fX3_save η σ β).2 8), wB E (bd 9) ((fX3_save η σ β).2 9)]) (st1 := []) [.ref (bo 0)] [4, 6, 7, 8, 9, 10, 11, 12, 13, 1] (kX3_save l E ah bd η σ bo β hvh) caX3_save q3_162 rfl ⟨Nat.le_of_ble_eq_true rfl, Nat.le_of_ble_eq_true rfl⟩ ⟨Nat.le_of_ble_eq_true rfl, Nat.le_of_ble_eq_true rfl⟩ 4 0 rfl rfl rfl rfl (by decide) rfl rfl rfl rfl (Nat.le_of_ble_eq_true rfl) dX6_release_50 rfl ?_
      refine g_aload_n C dX6_release_53 rfl 0 rfl ?_
      refine g_getf C (T := TX6) (N := 5) 0 0 rfl rfl rfl inX6 0 (by decide) q1_192 rfl dX6_release_54 ?_
      refine g_iload_n C dX6_release_57 rfl 1 rfl ?_
      refine g_iload_n C dX6_release_58 rfl 2 rfl ?_
      refine g_st (st1 := [.int b, .int (nI a.toNatClampNeg), .ref (bo 0)]) (by rw [← hx_4.1]) ?_
      refine g_callV C (cs1 := [wX ax (bo 0) (tr 0) (ac 0) (ah 0) (at_ 0), wB E bo ((fX0_removeNeed β a.toNatClampNeg b).2), wB E tr τ, wC E ac γ, wH E ah bd ((fX3_save η σ β).1), wT E at_ θ, wB E (bd 2) ((fX3_save η σ β).2 2), wB E (bd 3) ((fX3_save η σ β).2 3), wB E (bd 4) ((fX3_save η σ β).2 4), wB E (bd 5) ((fX3_save η σ β).2 5), wB E (bd 6) ((fX3_save η σ β).2 6), wB E (bd 7) ((fX3_save η σ β).2 7), wB E (bd 8) ((fX3_save η σ β).2 8), wB E (bd 9) ((fX3_save η σ β).2 9)]) (st1 := [.int ((fX0_removeNeed β a.toNatClampNeg b).1)]) [.int (nI a.toNatClampNeg), .int b] [1] (kX0_removeNeed l E bo β a.toNatClampNeg hx_4.2.1 b) caX0_removeNeed q4_26 rfl ⟨Nat.le_of_ble_eq_true rfl, Nat.le_of_ble_eq_true rfl⟩ ⟨Nat.le_of_ble_eq_true rfl, Nat.le_of_ble_eq_true rfl⟩ 1 0 rfl rfl rfl rfl (by decide) rfl rfl rfl rfl (Nat.le_of_ble_eq_true rfl) dX6_release_59 rfl ?_
      have e_14 : fX6_release β η σ a b = (.inr ((fX0_removeNeed β a.toNatClampNeg b).1), (fX0_removeNeed β a.toNatClampNeg b).2, (fX3_save η σ β).1, (fX3_save η σ β).2) := by rw [fX6_release]; rw [if_pos c_1, if_pos c_5, if_pos c_13]
      refine g_widen (k1 := 3) (n1 := 18) (Nat.le_of_ble_eq_true rfl) (Nat.le_of_ble_eq_true rfl) ?_
      exact g_iret C (gT_r hT (by rw [e_14] <;> rfl) (by rw [e_14] <;> rfl)) rfl rfl dX6_release_62
def fX6_assign (β : BS) (η : BS) (σ : Nat → BS) (a : Int32) (b : Int32) : (String ⊕ Int32) × BS × BS × (Nat → BS) :=
  if (fX0_hasTicket β a) = true then (if (fX6_isOwner b) = true then (if (fX0_canBeGivenTo β a.toNatClampNeg b.toNatClampNeg) = true then (.inr ((fX0_giveTo β a.toNatClampNeg b.toNatClampNeg).1), (fX0_giveTo β a.toNatClampNeg b.toNatClampNeg).2, (fX3_save η σ β).1, (fX3_save η σ β).2) else (.inl xIS, β, η, σ)) else (.inl xIO, β, η, σ)) else (.inl xIO, β, η, σ)
theorem caX6_assign : gCalV yX6_assign cX6_assign 3 (some .int) 2 := ⟨⟨q4_36, q1_1, by decide +kernel⟩, q4_34, q4_35⟩
set_option maxHeartbeats 4000000 in
set_option maxRecDepth 100000 in
theorem kX6_assign (l : Launch) (E : gE) (ax : Nat) (bo : Nat → Nat) (β : BS) (tr : Nat → Nat) (τ : BS) (ac : Nat → Nat) (γ : BS) (ah : Nat → Nat) (bd : Nat → Nat → Nat) (η : BS) (σ : Nat → BS) (at_ : Nat → Nat) (θ : BS) (hlt : l.stackTraces = false) (hv : vB β) (hvh : vH η)  (a : Int32) (b : Int32) : MX l E yX6_assign cX6_assign 3 (some .int) 3 18 7 102 [.ref ax, .int a, .int b] [wX ax (bo 0) (tr 0) (ac 0) (ah 0) (at_ 0), wB E bo β, wB E tr τ, wC E ac γ, wH E ah bd η, wT E at_ θ, wB E (bd 2) (σ 2), wB E (bd 3) (σ 3), wB E (bd 4) (σ 4), wB E (bd 5) (σ 5), wB E (bd 6) (σ 6), wB E (bd 7) (σ 7), wB E (bd 8) (σ 8), wB E (bd 9) (σ 9)] (Sum.map id (fun v => some (.int v)) (fX6_assign β η σ a b).1) [wX ax (bo 0) (tr 0) (ac 0) (ah 0) (at_ 0), wB E bo ((fX6_assign β η σ a b).2.1), wB E tr τ, wC E ac γ, wH E ah bd ((fX6_assign β η σ a b).2.2.1), wT E at_ θ, wB E (bd 2) ((fX6_assign β η σ a b).2.2.2 2), wB E (bd 3) ((fX6_assign β η σ a b).2.2.2 3), wB E (bd 4) ((fX6_assign β η σ a b).2.2.2 4), wB E (bd 5) ((fX6_assign β η σ a b).2.2.2 5), wB E (bd 6) ((fX6_assign β η σ a b).2.2.2 6), wB E (bd 7) ((fX6_assign β η σ a b).2.2.2 7), wB E (bd 8) ((fX6_assign β η σ a b).2.2.2 8), wB E (bd 9) ((fX6_assign β η σ a b).2.2.2 9)] := by
  have hv1 : cnt β ≤ 20 := hv.1
  refine mx_of hlt (by decide +kernel) (Nat.le_of_ble_eq_true rfl) (lv := [(0, .ref ax), (1, .int a), (2, .int b)]) rfl (fun X C hT => ?_)
  refine g_aload_n C dX6_assign_0 rfl 0 rfl ?_
  refine g_getf C (T := TX6) (N := 5) 0 0 rfl rfl rfl inX6 0 (by decide) q1_192 rfl dX6_assign_1 ?_
  refine g_iload_n C dX6_assign_4 rfl 1 rfl ?_
  refine g_callV C (cs1 := [wX ax (bo 0) (tr 0) (ac 0) (ah 0) (at_ 0), wB E bo β, wB E tr τ, wC E ac γ, wH E ah bd η, wT E at_ θ, wB E (bd 2) (σ 2), wB E (bd 3) (σ 3), wB E (bd 4) (σ 4), wB E (bd 5) (σ 5), wB E (bd 6) (σ 6), wB E (bd 7) (σ 7), wB E (bd 8) (σ 8), wB E (bd 9) (σ 9)]) (st1 := [.int (b2i (fX0_hasTicket β a))]) [.int a] [1] (kX0_hasTicket l E bo β a) caX0_hasTicket q3_191 rfl ⟨Nat.le_of_ble_eq_true rfl, Nat.le_of_ble_eq_true rfl⟩ ⟨Nat.le_of_ble_eq_true rfl, Nat.le_of_ble_eq_true rfl⟩ 1 0 rfl rfl rfl rfl (by decide) rfl rfl rfl rfl (Nat.le_of_ble_eq_true rfl) dX6_assign_5 rfl ?_
  refine g_ifB_eq C 22 dX6_assign_8 (by decide) (fun c_1 => ?_) (fun c_1 => ?_)
  · skip
    refine g_iconst C (v := 0) dX6_assign_22 (by decide) ?_
    have e_3 : false = false → fX6_assign β η σ a b = (.inl xIO, β, η, σ) := fun c_2 => by rw [fX6_assign]; rw [if_neg (ne_true_of_eq_false c_1)]
    exact g_req (b := false) C hT (kX6_requireIndex l E hlt false) caX6_requireIndex q3_195 ⟨Nat.le_of_ble_eq_true rfl, Nat.le_of_ble_eq_true rfl⟩ ⟨Nat.le_of_ble_eq_true rfl, Nat.le_of_ble_eq_true rfl⟩ ⟨Nat.le_of_ble_eq_true rfl, Nat.le_of_ble_eq_true rfl⟩ (fun c => by rw [e_3 c]; exact ⟨rfl, rfl⟩) (Nat.le_of_ble_eq_true rfl) dX6_assign_23 (fun h => absurd h (by decide))
  · skip
    have hx_4 := hasTicket_i hv c_1
    refine g_iload_n C dX6_assign_11 rfl 2 rfl ?_
    refine g_callS C (cs1 := [wX ax (bo 0) (tr 0) (ac 0) (ah 0) (at_ 0), wB E bo β, wB E tr τ, wC E ac γ, wH E ah bd η, wT E at_ θ, wB E (bd 2) (σ 2), wB E (bd 3) (σ 3), wB E (bd 4) (σ 4), wB E (bd 5) (σ 5), wB E (bd 6) (σ 6), wB E (bd 7) (σ 7), wB E (bd 8) (σ 8), wB E (bd 9) (σ 9)]) (st1 := [.int (b2i (fX6_isOwner b))]) [.int b] [] (kX6_isOwner l E b) caX6_isOwner q4_37 rfl ⟨Nat.le_of_ble_eq_true rfl, Nat.le_of_ble_eq_true rfl⟩ ⟨Nat.le_of_ble_eq_true rfl, Nat.le_of_ble_eq_true rfl⟩ (by decide) rfl rfl rfl rfl (Nat.le_of_ble_eq_true rfl) dX6_assign_12 rfl ?_
    refine g_ifB_eq C 22 dX6_assign_15 (by decide) (fun c_5 => ?_) (fun c_5 => ?_)
    · skip
      refine g_iconst C (v := 0) dX6_assign_22 (by decide) ?_
      have e_7 : false = false → fX6_assign β η σ a b = (.inl xIO, β, η, σ) := fun c_6 => by rw [fX6_assign]; rw [if_pos c_1, if_neg (ne_true_of_eq_false c_5)]
      exact g_req (b := false) C hT (kX6_requireIndex l E hlt false) caX6_requireIndex q3_195 ⟨Nat.le_of_ble_eq_true rfl, Nat.le_of_ble_eq_true rfl⟩ ⟨Nat.le_of_ble_eq_true rfl, Nat.le_of_ble_eq_true rfl⟩ ⟨Nat.le_of_ble_eq_true rfl, Nat.le_of_ble_eq_true rfl⟩ (fun c => by rw [e_7 c]; exact ⟨rfl, rfl⟩) (Nat.le_of_ble_eq_true rfl) dX6_assign_23 (fun h => absurd h (by decide))
    · skip
      have hx_8 := isOwner_i c_5
      refine g_iconst C (v := 1) dX6_assign_18 (by decide) ?_
      refine g_goto C 23 dX6_assign_19 (by decide) ?_
      refine g_req (b := true) C hT (kX6_requireIndex l E hlt true) caX6_requireIndex q3_195 ⟨Nat.le_of_ble_eq_true rfl, Nat.le_of_ble_eq_true rfl⟩ ⟨Nat.le_of_ble_eq_true rfl, Nat.le_of_ble_eq_true rfl⟩ ⟨Nat.le_of_ble_eq_true rfl, Nat.le_of_ble_eq_true rfl⟩ (fun h => absurd h (by decide)) (Nat.le_of_ble_eq_true rfl) dX6_assign_23 (fun _ => ?_)
      refine g_aload_n C dX6_assign_26 rfl 0 rfl ?_
      refine g_getf C (T := TX6) (N := 5) 0 0 rfl rfl rfl inX6 0 (by decide) q1_192 rfl dX6_assign_27 ?_
      refine g_iload_n C dX6_assign_30 rfl 1 rfl ?_
      refine g_iload_n C dX6_assign_31 rfl 2 rfl ?_
      refine g_st (st1 := [.int b, .int (nI a.toNatClampNeg), .ref (bo 0)]) (by rw [← hx_4.1]) ?_
      refine g_st (st1 := [.int (nI b.toNatClampNeg), .int (nI a.toNatClampNeg), .ref (bo 0)]) (by rw [← hx_8.1]) ?_
      refine g_callV C (cs1 := [wX ax (bo 0) (tr 0) (ac 0) (ah 0) (at_ 0), wB E bo β, wB E tr τ, wC E ac γ, wH E ah bd η, wT E at_ θ, wB E (bd 2) (σ 2), wB E (bd 3) (σ 3), wB E (bd 4) (σ 4), wB E (bd 5) (σ 5), wB E (bd 6) (σ 6), wB E (bd 7) (σ 7), wB E (bd 8) (σ 8), wB E (bd 9) (σ 9)]) (st1 := [.int (b2i (fX0_canBeGivenTo β a.toNatClampNeg b.toNatClampNeg))]) [.int (nI a.toNatClampNeg), .int (nI b.toNatClampNeg)] [1] (kX0_canBeGivenTo l E bo β hv a.toNatClampNeg hx_4.2.1 b.toNatClampNeg hx_8.2) caX0_canBeGivenTo q4_40 rfl ⟨Nat.le_of_ble_eq_true rfl, Nat.le_of_ble_eq_true rfl⟩ ⟨Nat.le_of_ble_eq_true rfl, Nat.le_of_ble_eq_true rfl⟩ 1 0 rfl rfl rfl rfl (by decide) rfl rfl rfl rfl (Nat.le_of_ble_eq_true rfl) dX6_assign_32 rfl ?_
      have e_12 : (fX0_canBeGivenTo β a.toNatClampNeg b.toNatClampNeg) = false → fX6_assign β η σ a b = (.inl xIS, β, η, σ) := fun c_11 => by rw [fX6_assign]; rw [if_pos c_1, if_pos c_5, if_neg (ne_true_of_eq_false c_11)]
      refine g_req (b := (fX0_canBeGivenTo β a.toNatClampNeg b.toNatClampNeg)) C hT (kX6_requireState l E hlt (fX0_canBeGivenTo β a.toNatClampNeg b.toNatClampNeg)) caX6_requireState q3_143 ⟨Nat.le_of_ble_eq_true rfl, Nat.le_of_ble_eq_true rfl⟩ ⟨Nat.le_of_ble_eq_true rfl, Nat.le_of_ble_eq_true rfl⟩ ⟨Nat.le_of_ble_eq_true rfl, Nat.le_of_ble_eq_true rfl⟩ (fun c => by rw [e_12 c]; exact ⟨rfl, rfl⟩) (Nat.le_of_ble_eq_true rfl) dX6_assign_35 (fun c_13 => ?_)
      refine g_aload_n C dX6_assign_38 rfl 0 rfl ?_
      refine g_getf C (T := TX6) (N := 5) 0 0 rfl rfl rfl inX6 3 (by decide) q1_195 rfl dX6_assign_39 ?_
      refine g_aload_n C dX6_assign_42 rfl 0 rfl ?_
      refine g_getf C (T := TX6) (N := 5) 0 0 rfl rfl rfl inX6 0 (by decide) q1_192 rfl dX6_assign_43 ?_
      refine g_callV C (cs1 := [wX ax (bo 0) (tr 0) (ac 0) (ah 0) (at_ 0), wB E bo β, wB E tr τ, wC E ac γ, wH E ah bd ((fX3_save η σ β).1), wT E at_ θ, wB E (bd 2) ((fX3_save η σ β).2 2), wB E (bd 3) ((fX3_save η σ β).2 3), wB E (bd 4) ((fX3_save η σ β).2 4), wB E (bd 5) ((fX3_save η σ β).2 5), wB E (bd 6) ((fX3_save η σ β).2 6), wB E (bd 7) ((fX3_save η σ β).2 7), wB E (bd 8) ((fX3_save η σ β).2 8), wB E (bd 9) ((fX3_save η σ β).2 9)]) (st1 := []) [.ref (bo 0)] [4, 6, 7, 8, 9, 10, 11, 12, 13, 1] (kX3_save l E ah bd η σ bo β hvh) caX3_save q3_162 rfl ⟨Nat.le_of_ble_eq_true rfl, Nat.le_of_ble_eq_true rfl⟩ ⟨Nat.le_of_ble_eq_true rfl, Nat.le_of_ble_eq_true rfl⟩ 4 0 rfl rfl rfl rfl (by decide) rfl rfl rfl rfl (Nat.le_of_ble_eq_true rfl) dX6_assign_46 rfl ?_
      refine g_aload_n C dX6_assign_49 rfl 0 rfl ?_
      refine g_getf C (T := TX6) (N := 5) 0 0 rfl rfl rfl inX6 0 (by decide) q1_192 rfl dX6_assign_50 ?_
      refine g_iload_n C dX6_assign_53 rfl 1 rfl ?_
      refine g_iload_n C dX6_assign_54 rfl 2 rfl ?_
      refine g_st (st1 := [.int b, .int (nI a.toNatClampNeg), .ref (bo 0)]) (by rw [← hx_4.1]) ?_
      refine g_st (st1 := [.int (nI b.toNatClampNeg), .int (nI a.toNatClampNeg), .ref (bo 0)]) (by rw [← hx_8.1]) ?_
      refine g_callV C (cs1 := [wX ax (bo 0) (tr 0) (ac 0) (ah 0) (at_ 0), wB E bo ((fX0_giveTo β a.toNatClampNeg b.toNatClampNeg).2), wB E tr τ, wC E ac γ, wH E ah bd ((fX3_save η σ β).1), wT E at_ θ, wB E (bd 2) ((fX3_save η σ β).2 2), wB E (bd 3) ((fX3_save η σ β).2 3), wB E (bd 4) ((fX3_save η σ β).2 4), wB E (bd 5) ((fX3_save η σ β).2 5), wB E (bd 6) ((fX3_save η σ β).2 6), wB E (bd 7) ((fX3_save η σ β).2 7), wB E (bd 8) ((fX3_save η σ β).2 8), wB E (bd 9) ((fX3_save η σ β).2 9)]) (st1 := [.int ((fX0_giveTo β a.toNatClampNeg b.toNatClampNeg).1)]) [.int (nI a.toNatClampNeg), .int (nI b.toNatClampNeg)] [1] (kX0_giveTo l E bo β hv a.toNatClampNeg hx_4.2.1 b.toNatClampNeg hx_8.2) caX0_giveTo q4_44 rfl ⟨Nat.le_of_ble_eq_true rfl, Nat.le_of_ble_eq_true rfl⟩ ⟨Nat.le_of_ble_eq_true rfl, Nat.le_of_ble_eq_true rfl⟩ 1 0 rfl rfl rfl rfl (by decide) rfl rfl rfl rfl (Nat.le_of_ble_eq_true rfl) dX6_assign_55 rfl ?_
      have e_14 : fX6_assign β η σ a b = (.inr ((fX0_giveTo β a.toNatClampNeg b.toNatClampNeg).1), (fX0_giveTo β a.toNatClampNeg b.toNatClampNeg).2, (fX3_save η σ β).1, (fX3_save η σ β).2) := by rw [fX6_assign]; rw [if_pos c_1, if_pos c_5, if_pos c_13]
      refine g_widen (k1 := 3) (n1 := 18) (Nat.le_of_ble_eq_true rfl) (Nat.le_of_ble_eq_true rfl) ?_
      exact g_iret C (gT_r hT (by rw [e_14] <;> rfl) (by rw [e_14] <;> rfl)) rfl rfl dX6_assign_58
def fX6_unassign (β : BS) (η : BS) (σ : Nat → BS) (a : Int32) : (String ⊕ Int32) × BS × BS × (Nat → BS) :=
  if (fX0_hasTicket β a) = true then (if (β.2 3 a.toNatClampNeg) = (-1) then (.inl xIS, β, η, σ) else (if (β.2 0 a.toNatClampNeg) = 0 then (.inr ((fX0_takeFromOwner β a.toNatClampNeg).1), (fX0_takeFromOwner β a.toNatClampNeg).2, (fX3_save η σ β).1, (fX3_save η σ β).2) else (.inl xIS, β, η, σ))) else (.inl xIO, β, η, σ)
theorem caX6_unassign : gCalV yX6_unassign cX6_unassign 2 (some .int) 1 := ⟨⟨q4_54, q1_1, by decide +kernel⟩, q4_52, q4_53⟩
set_option maxHeartbeats 4000000 in
set_option maxRecDepth 100000 in
theorem kX6_unassign (l : Launch) (E : gE) (ax : Nat) (bo : Nat → Nat) (β : BS) (tr : Nat → Nat) (τ : BS) (ac : Nat → Nat) (γ : BS) (ah : Nat → Nat) (bd : Nat → Nat → Nat) (η : BS) (σ : Nat → BS) (at_ : Nat → Nat) (θ : BS) (hlt : l.stackTraces = false) (hv : vB β) (hvh : vH η)  (a : Int32) : MX l E yX6_unassign cX6_unassign 2 (some .int) 3 18 7 102 [.ref ax, .int a] [wX ax (bo 0) (tr 0) (ac 0) (ah 0) (at_ 0), wB E bo β, wB E tr τ, wC E ac γ, wH E ah bd η, wT E at_ θ, wB E (bd 2) (σ 2), wB E (bd 3) (σ 3), wB E (bd 4) (σ 4), wB E (bd 5) (σ 5), wB E (bd 6) (σ 6), wB E (bd 7) (σ 7), wB E (bd 8) (σ 8), wB E (bd 9) (σ 9)] (Sum.map id (fun v => some (.int v)) (fX6_unassign β η σ a).1) [wX ax (bo 0) (tr 0) (ac 0) (ah 0) (at_ 0), wB E bo ((fX6_unassign β η σ a).2.1), wB E tr τ, wC E ac γ, wH E ah bd ((fX6_unassign β η σ a).2.2.1), wT E at_ θ, wB E (bd 2) ((fX6_unassign β η σ a).2.2.2 2), wB E (bd 3) ((fX6_unassign β η σ a).2.2.2 3), wB E (bd 4) ((fX6_unassign β η σ a).2.2.2 4), wB E (bd 5) ((fX6_unassign β η σ a).2.2.2 5), wB E (bd 6) ((fX6_unassign β η σ a).2.2.2 6), wB E (bd 7) ((fX6_unassign β η σ a).2.2.2 7), wB E (bd 8) ((fX6_unassign β η σ a).2.2.2 8), wB E (bd 9) ((fX6_unassign β η σ a).2.2.2 9)] := by
  have hv1 : cnt β ≤ 20 := hv.1
  refine mx_of hlt (by decide +kernel) (Nat.le_of_ble_eq_true rfl) (lv := [(0, .ref ax), (1, .int a)]) rfl (fun X C hT => ?_)
  refine g_aload_n C dX6_unassign_0 rfl 0 rfl ?_
  refine g_getf C (T := TX6) (N := 5) 0 0 rfl rfl rfl inX6 0 (by decide) q1_192 rfl dX6_unassign_1 ?_
  refine g_iload_n C dX6_unassign_4 rfl 1 rfl ?_
  refine g_callV C (cs1 := [wX ax (bo 0) (tr 0) (ac 0) (ah 0) (at_ 0), wB E bo β, wB E tr τ, wC E ac γ, wH E ah bd η, wT E at_ θ, wB E (bd 2) (σ 2), wB E (bd 3) (σ 3), wB E (bd 4) (σ 4), wB E (bd 5) (σ 5), wB E (bd 6) (σ 6), wB E (bd 7) (σ 7), wB E (bd 8) (σ 8), wB E (bd 9) (σ 9)]) (st1 := [.int (b2i (fX0_hasTicket β a))]) [.int a] [1] (kX0_hasTicket l E bo β a) caX0_hasTicket q3_191 rfl ⟨Nat.le_of_ble_eq_true rfl, Nat.le_of_ble_eq_true rfl⟩ ⟨Nat.le_of_ble_eq_true rfl, Nat.le_of_ble_eq_true rfl⟩ 1 0 rfl rfl rfl rfl (by decide) rfl rfl rfl rfl (Nat.le_of_ble_eq_true rfl) dX6_unassign_5 rfl ?_
  have e_2 : (fX0_hasTicket β a) = false → fX6_unassign β η σ a = (.inl xIO, β, η, σ) := fun c_1 => by rw [fX6_unassign]; rw [if_neg (ne_true_of_eq_false c_1)]
  refine g_req (b := (fX0_hasTicket β a)) C hT (kX6_requireIndex l E hlt (fX0_hasTicket β a)) caX6_requireIndex q3_195 ⟨Nat.le_of_ble_eq_true rfl, Nat.le_of_ble_eq_true rfl⟩ ⟨Nat.le_of_ble_eq_true rfl, Nat.le_of_ble_eq_true rfl⟩ ⟨Nat.le_of_ble_eq_true rfl, Nat.le_of_ble_eq_true rfl⟩ (fun c => by rw [e_2 c]; exact ⟨rfl, rfl⟩) (Nat.le_of_ble_eq_true rfl) dX6_unassign_8 (fun c_3 => ?_)
  have hx_4 := hasTicket_i hv c_3
  refine g_aload_n C dX6_unassign_11 rfl 0 rfl ?_
  refine g_getf C (T := TX6) (N := 5) 0 0 rfl rfl rfl inX6 0 (by decide) q1_192 rfl dX6_unassign_12 ?_
  refine g_getf C (T := TX0) (N := 17) 1 0 rfl rfl rfl inX0 7 (by decide) q1_56 rfl dX6_unassign_15 ?_
  refine g_iload_n C dX6_unassign_18 rfl 1 rfl ?_
  refine g_ialdn C 1 4 a.toNatClampNeg rfl rfl hx_4.1 hx_4.2.1 (by decide) dX6_unassign_19 ?_
  refine g_iconst C (v := -1) dX6_unassign_20 (by decide) ?_
  refine g_icmp_eq C 40 dX6_unassign_21 (by decide) (fun c_5 => ?_) (fun c_5 => ?_)
  · skip
    refine g_iconst C (v := 0) dX6_unassign_40 (by decide) ?_
    have e_7 : false = false → fX6_unassign β η σ a = (.inl xIS, β, η, σ) := fun c_6 => by rw [fX6_unassign]; rw [if_pos c_3, if_pos c_5]
    exact g_req (b := false) C hT (kX6_requireState l E hlt false) caX6_requireState q3_143 ⟨Nat.le_of_ble_eq_true rfl, Nat.le_of_ble_eq_true rfl⟩ ⟨Nat.le_of_ble_eq_true rfl, Nat.le_of_ble_eq_true rfl⟩ ⟨Nat.le_of_ble_eq_true rfl, Nat.le_of_ble_eq_true rfl⟩ (fun c => by rw [e_7 c]; exact ⟨rfl, rfl⟩) (Nat.le_of_ble_eq_true rfl) dX6_unassign_41 (fun h => absurd h (by decide))
  · skip
    refine g_aload_n C dX6_unassign_24 rfl 0 rfl ?_
    refine g_getf C (T := TX6) (N := 5) 0 0 rfl rfl rfl inX6 0 (by decide) q1_192 rfl dX6_unassign_25 ?_
    refine g_getf C (T := TX0) (N := 17) 1 0 rfl rfl rfl inX0 4 (by decide) q1_46 rfl dX6_unassign_28 ?_
    refine g_iload_n C dX6_unassign_31 rfl 1 rfl ?_
    refine g_ialdn C 1 1 a.toNatClampNeg rfl rfl hx_4.1 hx_4.2.1 (by decide) dX6_unassign_32 ?_
    refine g_if_ne C 40 dX6_unassign_33 (by decide) (fun c_8 => ?_) (fun c_8 => ?_)
    · skip
      refine g_iconst C (v := 0) dX6_unassign_40 (by decide) ?_
      have e_10 : false = false → fX6_unassign β η σ a = (.inl xIS, β, η, σ) := fun c_9 => by rw [fX6_unassign]; rw [if_pos c_3, if_neg c_5, if_neg c_8]
      exact g_req (b := false) C hT (kX6_requireState l E hlt false) caX6_requireState q3_143 ⟨Nat.le_of_ble_eq_true rfl, Nat.le_of_ble_eq_true rfl⟩ ⟨Nat.le_of_ble_eq_true rfl, Nat.le_of_ble_eq_true rfl⟩ ⟨Nat.le_of_ble_eq_true rfl, Nat.le_of_ble_eq_true rfl⟩ (fun c => by rw [e_10 c]; exact ⟨rfl, rfl⟩) (Nat.le_of_ble_eq_true rfl) dX6_unassign_41 (fun h => absurd h (by decide))
    · skip
      refine g_iconst C (v := 1) dX6_unassign_36 (by decide) ?_
      refine g_goto C 41 dX6_unassign_37 (by decide) ?_
      refine g_req (b := true) C hT (kX6_requireState l E hlt true) caX6_requireState q3_143 ⟨Nat.le_of_ble_eq_true rfl, Nat.le_of_ble_eq_true rfl⟩ ⟨Nat.le_of_ble_eq_true rfl, Nat.le_of_ble_eq_true rfl⟩ ⟨Nat.le_of_ble_eq_true rfl, Nat.le_of_ble_eq_true rfl⟩ (fun h => absurd h (by decide)) (Nat.le_of_ble_eq_true rfl) dX6_unassign_41 (fun _ => ?_)
      refine g_aload_n C dX6_unassign_44 rfl 0 rfl ?_
      refine g_getf C (T := TX6) (N := 5) 0 0 rfl rfl rfl inX6 3 (by decide) q1_195 rfl dX6_unassign_45 ?_
      refine g_aload_n C dX6_unassign_48 rfl 0 rfl ?_
      refine g_getf C (T := TX6) (N := 5) 0 0 rfl rfl rfl inX6 0 (by decide) q1_192 rfl dX6_unassign_49 ?_
      refine g_callV C (cs1 := [wX ax (bo 0) (tr 0) (ac 0) (ah 0) (at_ 0), wB E bo β, wB E tr τ, wC E ac γ, wH E ah bd ((fX3_save η σ β).1), wT E at_ θ, wB E (bd 2) ((fX3_save η σ β).2 2), wB E (bd 3) ((fX3_save η σ β).2 3), wB E (bd 4) ((fX3_save η σ β).2 4), wB E (bd 5) ((fX3_save η σ β).2 5), wB E (bd 6) ((fX3_save η σ β).2 6), wB E (bd 7) ((fX3_save η σ β).2 7), wB E (bd 8) ((fX3_save η σ β).2 8), wB E (bd 9) ((fX3_save η σ β).2 9)]) (st1 := []) [.ref (bo 0)] [4, 6, 7, 8, 9, 10, 11, 12, 13, 1] (kX3_save l E ah bd η σ bo β hvh) caX3_save q3_162 rfl ⟨Nat.le_of_ble_eq_true rfl, Nat.le_of_ble_eq_true rfl⟩ ⟨Nat.le_of_ble_eq_true rfl, Nat.le_of_ble_eq_true rfl⟩ 4 0 rfl rfl rfl rfl (by decide) rfl rfl rfl rfl (Nat.le_of_ble_eq_true rfl) dX6_unassign_52 rfl ?_
      refine g_aload_n C dX6_unassign_55 rfl 0 rfl ?_
      refine g_getf C (T := TX6) (N := 5) 0 0 rfl rfl rfl inX6 0 (by decide) q1_192 rfl dX6_unassign_56 ?_
      refine g_iload_n C dX6_unassign_59 rfl 1 rfl ?_
      refine g_st (st1 := [.int (nI a.toNatClampNeg), .ref (bo 0)]) (by rw [← hx_4.1]) ?_
      refine g_callV C (cs1 := [wX ax (bo 0) (tr 0) (ac 0) (ah 0) (at_ 0), wB E bo ((fX0_takeFromOwner β a.toNatClampNeg).2), wB E tr τ, wC E ac γ, wH E ah bd ((fX3_save η σ β).1), wT E at_ θ, wB E (bd 2) ((fX3_save η σ β).2 2), wB E (bd 3) ((fX3_save η σ β).2 3), wB E (bd 4) ((fX3_save η σ β).2 4), wB E (bd 5) ((fX3_save η σ β).2 5), wB E (bd 6) ((fX3_save η σ β).2 6), wB E (bd 7) ((fX3_save η σ β).2 7), wB E (bd 8) ((fX3_save η σ β).2 8), wB E (bd 9) ((fX3_save η σ β).2 9)]) (st1 := [.int ((fX0_takeFromOwner β a.toNatClampNeg).1)]) [.int (nI a.toNatClampNeg)] [1] (kX0_takeFromOwner l E bo β hv a.toNatClampNeg hx_4.2.1) caX0_takeFromOwner q4_55 rfl ⟨Nat.le_of_ble_eq_true rfl, Nat.le_of_ble_eq_true rfl⟩ ⟨Nat.le_of_ble_eq_true rfl, Nat.le_of_ble_eq_true rfl⟩ 1 0 rfl rfl rfl rfl (by decide) rfl rfl rfl rfl (Nat.le_of_ble_eq_true rfl) dX6_unassign_60 rfl ?_
      have e_13 : fX6_unassign β η σ a = (.inr ((fX0_takeFromOwner β a.toNatClampNeg).1), (fX0_takeFromOwner β a.toNatClampNeg).2, (fX3_save η σ β).1, (fX3_save η σ β).2) := by rw [fX6_unassign]; rw [if_pos c_3, if_neg c_5, if_pos c_8]
      refine g_widen (k1 := 3) (n1 := 18) (Nat.le_of_ble_eq_true rfl) (Nat.le_of_ble_eq_true rfl) ?_
      exact g_iret C (gT_r hT (by rw [e_13] <;> rfl) (by rw [e_13] <;> rfl)) rfl rfl dX6_unassign_63
def fX6_changeCapacity (β : BS) (η : BS) (σ : Nat → BS) (a : Int32) (b : Int32) : (String ⊕ Int32) × BS × BS × (Nat → BS) :=
  if (fX6_isOwner a) = true then (if (fX6_within b 0 99) = true then (if b < (β.2 11 a.toNatClampNeg) then (.inl xIS, β, η, σ) else (.inr ((fX0_setCapacity β a.toNatClampNeg b).1), (fX0_setCapacity β a.toNatClampNeg b).2, (fX3_save η σ β).1, (fX3_save η σ β).2)) else (.inl xIA, β, η, σ)) else (.inl xIO, β, η, σ)
theorem caX6_changeCapacity : gCalV yX6_changeCapacity cX6_changeCapacity 3 (some .int) 2 := ⟨⟨q4_65, q1_1, by decide +kernel⟩, q4_63, q4_64⟩
set_option maxHeartbeats 4000000 in
set_option maxRecDepth 100000 in
theorem kX6_changeCapacity (l : Launch) (E : gE) (ax : Nat) (bo : Nat → Nat) (β : BS) (tr : Nat → Nat) (τ : BS) (ac : Nat → Nat) (γ : BS) (ah : Nat → Nat) (bd : Nat → Nat → Nat) (η : BS) (σ : Nat → BS) (at_ : Nat → Nat) (θ : BS) (hlt : l.stackTraces = false) (hv : vB β) (hvh : vH η)  (a : Int32) (b : Int32) : MX l E yX6_changeCapacity cX6_changeCapacity 3 (some .int) 3 18 7 102 [.ref ax, .int a, .int b] [wX ax (bo 0) (tr 0) (ac 0) (ah 0) (at_ 0), wB E bo β, wB E tr τ, wC E ac γ, wH E ah bd η, wT E at_ θ, wB E (bd 2) (σ 2), wB E (bd 3) (σ 3), wB E (bd 4) (σ 4), wB E (bd 5) (σ 5), wB E (bd 6) (σ 6), wB E (bd 7) (σ 7), wB E (bd 8) (σ 8), wB E (bd 9) (σ 9)] (Sum.map id (fun v => some (.int v)) (fX6_changeCapacity β η σ a b).1) [wX ax (bo 0) (tr 0) (ac 0) (ah 0) (at_ 0), wB E bo ((fX6_changeCapacity β η σ a b).2.1), wB E tr τ, wC E ac γ, wH E ah bd ((fX6_changeCapacity β η σ a b).2.2.1), wT E at_ θ, wB E (bd 2) ((fX6_changeCapacity β η σ a b).2.2.2 2), wB E (bd 3) ((fX6_changeCapacity β η σ a b).2.2.2 3), wB E (bd 4) ((fX6_changeCapacity β η σ a b).2.2.2 4), wB E (bd 5) ((fX6_changeCapacity β η σ a b).2.2.2 5), wB E (bd 6) ((fX6_changeCapacity β η σ a b).2.2.2 6), wB E (bd 7) ((fX6_changeCapacity β η σ a b).2.2.2 7), wB E (bd 8) ((fX6_changeCapacity β η σ a b).2.2.2 8), wB E (bd 9) ((fX6_changeCapacity β η σ a b).2.2.2 9)] := by
  have hv1 : cnt β ≤ 20 := hv.1
  refine mx_of hlt (by decide +kernel) (Nat.le_of_ble_eq_true rfl) (lv := [(0, .ref ax), (1, .int a), (2, .int b)]) rfl (fun X C hT => ?_)
  refine g_iload_n C dX6_changeCapacity_0 rfl 1 rfl ?_
  refine g_callS C (cs1 := [wX ax (bo 0) (tr 0) (ac 0) (ah 0) (at_ 0), wB E bo β, wB E tr τ, wC E ac γ, wH E ah bd η, wT E at_ θ, wB E (bd 2) (σ 2), wB E (bd 3) (σ 3), wB E (bd 4) (σ 4), wB E (bd 5) (σ 5), wB E (bd 6) (σ 6), wB E (bd 7) (σ 7), wB E (bd 8) (σ 8), wB E (bd 9) (σ 9)]) (st1 := [.int (b2i (fX6_isOwner a))]) [.int a] [] (kX6_isOwner l E a) caX6_isOwner q4_37 rfl ⟨Nat.le_of_ble_eq_true rfl, Nat.le_of_ble_eq_true rfl⟩ ⟨Nat.le_of_ble_eq_true rfl, Nat.le_of_ble_eq_true rfl⟩ (by decide) rfl rfl rfl rfl (Nat.le_of_ble_eq_true rfl) dX6_changeCapacity_1 rfl ?_
  have e_2 : (fX6_isOwner a) = false → fX6_changeCapacity β η σ a b = (.inl xIO, β, η, σ) := fun c_1 => by rw [fX6_changeCapacity]; rw [if_neg (ne_true_of_eq_false c_1)]
  refine g_req (b := (fX6_isOwner a)) C hT (kX6_requireIndex l E hlt (fX6_isOwner a)) caX6_requireIndex q3_195 ⟨Nat.le_of_ble_eq_true rfl, Nat.le_of_ble_eq_true rfl⟩ ⟨Nat.le_of_ble_eq_true rfl, Nat.le_of_ble_eq_true rfl⟩ ⟨Nat.le_of_ble_eq_true rfl, Nat.le_of_ble_eq_true rfl⟩ (fun c => by rw [e_2 c]; exact ⟨rfl, rfl⟩) (Nat.le_of_ble_eq_true rfl) dX6_changeCapacity_4 (fun c_3 => ?_)
  have hx_4 := isOwner_i c_3
  refine g_iload_n C dX6_changeCapacity_7 rfl 2 rfl ?_
  refine g_iconst C (v := 0) dX6_changeCapacity_8 (by decide) ?_
  refine g_bipush C (v := 99) dX6_changeCapacity_9 (by decide) ?_
  refine g_callS C (cs1 := [wX ax (bo 0) (tr 0) (ac 0) (ah 0) (at_ 0), wB E bo β, wB E tr τ, wC E ac γ, wH E ah bd η, wT E at_ θ, wB E (bd 2) (σ 2), wB E (bd 3) (σ 3), wB E (bd 4) (σ 4), wB E (bd 5) (σ 5), wB E (bd 6) (σ 6), wB E (bd 7) (σ 7), wB E (bd 8) (σ 8), wB E (bd 9) (σ 9)]) (st1 := [.int (b2i (fX6_within b 0 99))]) [.int b, .int 0, .int 99] [] (kX6_within l E b 0 99) caX6_within q3_65 rfl ⟨Nat.le_of_ble_eq_true rfl, Nat.le_of_ble_eq_true rfl⟩ ⟨Nat.le_of_ble_eq_true rfl, Nat.le_of_ble_eq_true rfl⟩ (by decide) rfl rfl rfl rfl (Nat.le_of_ble_eq_true rfl) dX6_changeCapacity_11 rfl ?_
  have e_6 : (fX6_within b 0 99) = false → fX6_changeCapacity β η σ a b = (.inl xIA, β, η, σ) := fun c_5 => by rw [fX6_changeCapacity]; rw [if_pos c_3, if_neg (ne_true_of_eq_false c_5)]
  refine g_req (b := (fX6_within b 0 99)) C hT (kX6_requireArgument l E hlt (fX6_within b 0 99)) caX6_requireArgument q3_68 ⟨Nat.le_of_ble_eq_true rfl, Nat.le_of_ble_eq_true rfl⟩ ⟨Nat.le_of_ble_eq_true rfl, Nat.le_of_ble_eq_true rfl⟩ ⟨Nat.le_of_ble_eq_true rfl, Nat.le_of_ble_eq_true rfl⟩ (fun c => by rw [e_6 c]; exact ⟨rfl, rfl⟩) (Nat.le_of_ble_eq_true rfl) dX6_changeCapacity_14 (fun c_7 => ?_)
  refine g_aload_n C dX6_changeCapacity_17 rfl 0 rfl ?_
  refine g_getf C (T := TX6) (N := 5) 0 0 rfl rfl rfl inX6 0 (by decide) q1_192 rfl dX6_changeCapacity_18 ?_
  refine g_getf C (T := TX0) (N := 17) 1 0 rfl rfl rfl inX0 15 (by decide) q1_77 rfl dX6_changeCapacity_21 ?_
  refine g_iload_n C dX6_changeCapacity_24 rfl 1 rfl ?_
  refine g_ialdn C 1 12 a.toNatClampNeg rfl rfl hx_4.1 hx_4.2 (by decide) dX6_changeCapacity_25 ?_
  refine g_iload_n C dX6_changeCapacity_26 rfl 2 rfl ?_
  refine g_icmp_gt C 34 dX6_changeCapacity_27 (by decide) (fun c_8 => ?_) (fun c_8 => ?_)
  · skip
    refine g_iconst C (v := 0) dX6_changeCapacity_34 (by decide) ?_
    have e_10 : false = false → fX6_changeCapacity β η σ a b = (.inl xIS, β, η, σ) := fun c_9 => by rw [fX6_changeCapacity]; rw [if_pos c_3, if_pos c_7, if_pos c_8]
    exact g_req (b := false) C hT (kX6_requireState l E hlt false) caX6_requireState q3_143 ⟨Nat.le_of_ble_eq_true rfl, Nat.le_of_ble_eq_true rfl⟩ ⟨Nat.le_of_ble_eq_true rfl, Nat.le_of_ble_eq_true rfl⟩ ⟨Nat.le_of_ble_eq_true rfl, Nat.le_of_ble_eq_true rfl⟩ (fun c => by rw [e_10 c]; exact ⟨rfl, rfl⟩) (Nat.le_of_ble_eq_true rfl) dX6_changeCapacity_35 (fun h => absurd h (by decide))
  · skip
    refine g_iconst C (v := 1) dX6_changeCapacity_30 (by decide) ?_
    refine g_goto C 35 dX6_changeCapacity_31 (by decide) ?_
    refine g_req (b := true) C hT (kX6_requireState l E hlt true) caX6_requireState q3_143 ⟨Nat.le_of_ble_eq_true rfl, Nat.le_of_ble_eq_true rfl⟩ ⟨Nat.le_of_ble_eq_true rfl, Nat.le_of_ble_eq_true rfl⟩ ⟨Nat.le_of_ble_eq_true rfl, Nat.le_of_ble_eq_true rfl⟩ (fun h => absurd h (by decide)) (Nat.le_of_ble_eq_true rfl) dX6_changeCapacity_35 (fun _ => ?_)
    refine g_aload_n C dX6_changeCapacity_38 rfl 0 rfl ?_
    refine g_getf C (T := TX6) (N := 5) 0 0 rfl rfl rfl inX6 3 (by decide) q1_195 rfl dX6_changeCapacity_39 ?_
    refine g_aload_n C dX6_changeCapacity_42 rfl 0 rfl ?_
    refine g_getf C (T := TX6) (N := 5) 0 0 rfl rfl rfl inX6 0 (by decide) q1_192 rfl dX6_changeCapacity_43 ?_
    refine g_callV C (cs1 := [wX ax (bo 0) (tr 0) (ac 0) (ah 0) (at_ 0), wB E bo β, wB E tr τ, wC E ac γ, wH E ah bd ((fX3_save η σ β).1), wT E at_ θ, wB E (bd 2) ((fX3_save η σ β).2 2), wB E (bd 3) ((fX3_save η σ β).2 3), wB E (bd 4) ((fX3_save η σ β).2 4), wB E (bd 5) ((fX3_save η σ β).2 5), wB E (bd 6) ((fX3_save η σ β).2 6), wB E (bd 7) ((fX3_save η σ β).2 7), wB E (bd 8) ((fX3_save η σ β).2 8), wB E (bd 9) ((fX3_save η σ β).2 9)]) (st1 := []) [.ref (bo 0)] [4, 6, 7, 8, 9, 10, 11, 12, 13, 1] (kX3_save l E ah bd η σ bo β hvh) caX3_save q3_162 rfl ⟨Nat.le_of_ble_eq_true rfl, Nat.le_of_ble_eq_true rfl⟩ ⟨Nat.le_of_ble_eq_true rfl, Nat.le_of_ble_eq_true rfl⟩ 4 0 rfl rfl rfl rfl (by decide) rfl rfl rfl rfl (Nat.le_of_ble_eq_true rfl) dX6_changeCapacity_46 rfl ?_
    refine g_aload_n C dX6_changeCapacity_49 rfl 0 rfl ?_
    refine g_getf C (T := TX6) (N := 5) 0 0 rfl rfl rfl inX6 0 (by decide) q1_192 rfl dX6_changeCapacity_50 ?_
    refine g_iload_n C dX6_changeCapacity_53 rfl 1 rfl ?_
    refine g_iload_n C dX6_changeCapacity_54 rfl 2 rfl ?_
    refine g_st (st1 := [.int b, .int (nI a.toNatClampNeg), .ref (bo 0)]) (by rw [← hx_4.1]) ?_
    refine g_callV C (cs1 := [wX ax (bo 0) (tr 0) (ac 0) (ah 0) (at_ 0), wB E bo ((fX0_setCapacity β a.toNatClampNeg b).2), wB E tr τ, wC E ac γ, wH E ah bd ((fX3_save η σ β).1), wT E at_ θ, wB E (bd 2) ((fX3_save η σ β).2 2), wB E (bd 3) ((fX3_save η σ β).2 3), wB E (bd 4) ((fX3_save η σ β).2 4), wB E (bd 5) ((fX3_save η σ β).2 5), wB E (bd 6) ((fX3_save η σ β).2 6), wB E (bd 7) ((fX3_save η σ β).2 7), wB E (bd 8) ((fX3_save η σ β).2 8), wB E (bd 9) ((fX3_save η σ β).2 9)]) (st1 := [.int ((fX0_setCapacity β a.toNatClampNeg b).1)]) [.int (nI a.toNatClampNeg), .int b] [1] (kX0_setCapacity l E bo β a.toNatClampNeg hx_4.2 b) caX0_setCapacity q4_66 rfl ⟨Nat.le_of_ble_eq_true rfl, Nat.le_of_ble_eq_true rfl⟩ ⟨Nat.le_of_ble_eq_true rfl, Nat.le_of_ble_eq_true rfl⟩ 1 0 rfl rfl rfl rfl (by decide) rfl rfl rfl rfl (Nat.le_of_ble_eq_true rfl) dX6_changeCapacity_55 rfl ?_
    have e_13 : fX6_changeCapacity β η σ a b = (.inr ((fX0_setCapacity β a.toNatClampNeg b).1), (fX0_setCapacity β a.toNatClampNeg b).2, (fX3_save η σ β).1, (fX3_save η σ β).2) := by rw [fX6_changeCapacity]; rw [if_pos c_3, if_pos c_7, if_neg c_8]
    refine g_widen (k1 := 3) (n1 := 18) (Nat.le_of_ble_eq_true rfl) (Nat.le_of_ble_eq_true rfl) ?_
    exact g_iret C (gT_r hT (by rw [e_13] <;> rfl) (by rw [e_13] <;> rfl)) rfl rfl dX6_changeCapacity_58
def fX6_plan (β : BS) (η : BS) (σ : Nat → BS) (a : Int32) (b : Int32) : (String ⊕ Int32) × BS × BS × (Nat → BS) :=
  if (fX0_hasTicket β a) = true then (if (fX6_isMilestone b) = true then (if (fX0_isUnfinished β a.toNatClampNeg) = true then (if (β.2 4 a.toNatClampNeg) = b then (.inl xIS, β, η, σ) else (.inr (fX5_leftFor (sE β 4 a.toNatClampNeg b) b), sE β 4 a.toNatClampNeg b, (fX3_save η σ β).1, (fX3_save η σ β).2)) else (.inl xIS, β, η, σ)) else (.inl xIO, β, η, σ)) else (.inl xIO, β, η, σ)
theorem caX6_plan : gCalV yX6_plan cX6_plan 3 (some .int) 2 := ⟨⟨q4_76, q1_1, by decide +kernel⟩, q4_74, q4_75⟩
set_option maxHeartbeats 4000000 in
set_option maxRecDepth 100000 in
theorem kX6_plan (l : Launch) (E : gE) (ax : Nat) (bo : Nat → Nat) (β : BS) (tr : Nat → Nat) (τ : BS) (ac : Nat → Nat) (γ : BS) (ah : Nat → Nat) (bd : Nat → Nat → Nat) (η : BS) (σ : Nat → BS) (at_ : Nat → Nat) (θ : BS) (hlt : l.stackTraces = false) (hv : vB β) (hvh : vH η)  (a : Int32) (b : Int32) : MX l E yX6_plan cX6_plan 3 (some .int) 3 18 7 102 [.ref ax, .int a, .int b] [wX ax (bo 0) (tr 0) (ac 0) (ah 0) (at_ 0), wB E bo β, wB E tr τ, wC E ac γ, wH E ah bd η, wT E at_ θ, wB E (bd 2) (σ 2), wB E (bd 3) (σ 3), wB E (bd 4) (σ 4), wB E (bd 5) (σ 5), wB E (bd 6) (σ 6), wB E (bd 7) (σ 7), wB E (bd 8) (σ 8), wB E (bd 9) (σ 9)] (Sum.map id (fun v => some (.int v)) (fX6_plan β η σ a b).1) [wX ax (bo 0) (tr 0) (ac 0) (ah 0) (at_ 0), wB E bo ((fX6_plan β η σ a b).2.1), wB E tr τ, wC E ac γ, wH E ah bd ((fX6_plan β η σ a b).2.2.1), wT E at_ θ, wB E (bd 2) ((fX6_plan β η σ a b).2.2.2 2), wB E (bd 3) ((fX6_plan β η σ a b).2.2.2 3), wB E (bd 4) ((fX6_plan β η σ a b).2.2.2 4), wB E (bd 5) ((fX6_plan β η σ a b).2.2.2 5), wB E (bd 6) ((fX6_plan β η σ a b).2.2.2 6), wB E (bd 7) ((fX6_plan β η σ a b).2.2.2 7), wB E (bd 8) ((fX6_plan β η σ a b).2.2.2 8), wB E (bd 9) ((fX6_plan β η σ a b).2.2.2 9)] := by
  have hv1 : cnt β ≤ 20 := hv.1
  refine mx_of hlt (by decide +kernel) (Nat.le_of_ble_eq_true rfl) (lv := [(0, .ref ax), (1, .int a), (2, .int b)]) rfl (fun X C hT => ?_)
  refine g_aload_n C dX6_plan_0 rfl 0 rfl ?_
  refine g_getf C (T := TX6) (N := 5) 0 0 rfl rfl rfl inX6 0 (by decide) q1_192 rfl dX6_plan_1 ?_
  refine g_iload_n C dX6_plan_4 rfl 1 rfl ?_
  refine g_callV C (cs1 := [wX ax (bo 0) (tr 0) (ac 0) (ah 0) (at_ 0), wB E bo β, wB E tr τ, wC E ac γ, wH E ah bd η, wT E at_ θ, wB E (bd 2) (σ 2), wB E (bd 3) (σ 3), wB E (bd 4) (σ 4), wB E (bd 5) (σ 5), wB E (bd 6) (σ 6), wB E (bd 7) (σ 7), wB E (bd 8) (σ 8), wB E (bd 9) (σ 9)]) (st1 := [.int (b2i (fX0_hasTicket β a))]) [.int a] [1] (kX0_hasTicket l E bo β a) caX0_hasTicket q3_191 rfl ⟨Nat.le_of_ble_eq_true rfl, Nat.le_of_ble_eq_true rfl⟩ ⟨Nat.le_of_ble_eq_true rfl, Nat.le_of_ble_eq_true rfl⟩ 1 0 rfl rfl rfl rfl (by decide) rfl rfl rfl rfl (Nat.le_of_ble_eq_true rfl) dX6_plan_5 rfl ?_
  refine g_ifB_eq C 22 dX6_plan_8 (by decide) (fun c_1 => ?_) (fun c_1 => ?_)
  · skip
    refine g_iconst C (v := 0) dX6_plan_22 (by decide) ?_
    have e_3 : false = false → fX6_plan β η σ a b = (.inl xIO, β, η, σ) := fun c_2 => by rw [fX6_plan]; rw [if_neg (ne_true_of_eq_false c_1)]
    exact g_req (b := false) C hT (kX6_requireIndex l E hlt false) caX6_requireIndex q3_195 ⟨Nat.le_of_ble_eq_true rfl, Nat.le_of_ble_eq_true rfl⟩ ⟨Nat.le_of_ble_eq_true rfl, Nat.le_of_ble_eq_true rfl⟩ ⟨Nat.le_of_ble_eq_true rfl, Nat.le_of_ble_eq_true rfl⟩ (fun c => by rw [e_3 c]; exact ⟨rfl, rfl⟩) (Nat.le_of_ble_eq_true rfl) dX6_plan_23 (fun h => absurd h (by decide))
  · skip
    have hx_4 := hasTicket_i hv c_1
    refine g_iload_n C dX6_plan_11 rfl 2 rfl ?_
    refine g_callS C (cs1 := [wX ax (bo 0) (tr 0) (ac 0) (ah 0) (at_ 0), wB E bo β, wB E tr τ, wC E ac γ, wH E ah bd η, wT E at_ θ, wB E (bd 2) (σ 2), wB E (bd 3) (σ 3), wB E (bd 4) (σ 4), wB E (bd 5) (σ 5), wB E (bd 6) (σ 6), wB E (bd 7) (σ 7), wB E (bd 8) (σ 8), wB E (bd 9) (σ 9)]) (st1 := [.int (b2i (fX6_isMilestone b))]) [.int b] [] (kX6_isMilestone l E b) caX6_isMilestone q4_77 rfl ⟨Nat.le_of_ble_eq_true rfl, Nat.le_of_ble_eq_true rfl⟩ ⟨Nat.le_of_ble_eq_true rfl, Nat.le_of_ble_eq_true rfl⟩ (by decide) rfl rfl rfl rfl (Nat.le_of_ble_eq_true rfl) dX6_plan_12 rfl ?_
    refine g_ifB_eq C 22 dX6_plan_15 (by decide) (fun c_5 => ?_) (fun c_5 => ?_)
    · skip
      refine g_iconst C (v := 0) dX6_plan_22 (by decide) ?_
      have e_7 : false = false → fX6_plan β η σ a b = (.inl xIO, β, η, σ) := fun c_6 => by rw [fX6_plan]; rw [if_pos c_1, if_neg (ne_true_of_eq_false c_5)]
      exact g_req (b := false) C hT (kX6_requireIndex l E hlt false) caX6_requireIndex q3_195 ⟨Nat.le_of_ble_eq_true rfl, Nat.le_of_ble_eq_true rfl⟩ ⟨Nat.le_of_ble_eq_true rfl, Nat.le_of_ble_eq_true rfl⟩ ⟨Nat.le_of_ble_eq_true rfl, Nat.le_of_ble_eq_true rfl⟩ (fun c => by rw [e_7 c]; exact ⟨rfl, rfl⟩) (Nat.le_of_ble_eq_true rfl) dX6_plan_23 (fun h => absurd h (by decide))
    · skip
      have hx_8 := isMilestone_i c_5
      refine g_iconst C (v := 1) dX6_plan_18 (by decide) ?_
      refine g_goto C 23 dX6_plan_19 (by decide) ?_
      refine g_req (b := true) C hT (kX6_requireIndex l E hlt true) caX6_requireIndex q3_195 ⟨Nat.le_of_ble_eq_true rfl, Nat.le_of_ble_eq_true rfl⟩ ⟨Nat.le_of_ble_eq_true rfl, Nat.le_of_ble_eq_true rfl⟩ ⟨Nat.le_of_ble_eq_true rfl, Nat.le_of_ble_eq_true rfl⟩ (fun h => absurd h (by decide)) (Nat.le_of_ble_eq_true rfl) dX6_plan_23 (fun _ => ?_)
      refine g_aload_n C dX6_plan_26 rfl 0 rfl ?_
      refine g_getf C (T := TX6) (N := 5) 0 0 rfl rfl rfl inX6 0 (by decide) q1_192 rfl dX6_plan_27 ?_
      refine g_iload_n C dX6_plan_30 rfl 1 rfl ?_
      refine g_st (st1 := [.int (nI a.toNatClampNeg), .ref (bo 0)]) (by rw [← hx_4.1]) ?_
      refine g_callV C (cs1 := [wX ax (bo 0) (tr 0) (ac 0) (ah 0) (at_ 0), wB E bo β, wB E tr τ, wC E ac γ, wH E ah bd η, wT E at_ θ, wB E (bd 2) (σ 2), wB E (bd 3) (σ 3), wB E (bd 4) (σ 4), wB E (bd 5) (σ 5), wB E (bd 6) (σ 6), wB E (bd 7) (σ 7), wB E (bd 8) (σ 8), wB E (bd 9) (σ 9)]) (st1 := [.int (b2i (fX0_isUnfinished β a.toNatClampNeg))]) [.int (nI a.toNatClampNeg)] [1] (kX0_isUnfinished l E bo β a.toNatClampNeg hx_4.2.1) caX0_isUnfinished q4_80 rfl ⟨Nat.le_of_ble_eq_true rfl, Nat.le_of_ble_eq_true rfl⟩ ⟨Nat.le_of_ble_eq_true rfl, Nat.le_of_ble_eq_true rfl⟩ 1 0 rfl rfl rfl rfl (by decide) rfl rfl rfl rfl (Nat.le_of_ble_eq_true rfl) dX6_plan_31 rfl ?_
      refine g_ifB_eq C 54 dX6_plan_34 (by decide) (fun c_11 => ?_) (fun c_11 => ?_)
      · skip
        refine g_iconst C (v := 0) dX6_plan_54 (by decide) ?_
        have e_13 : false = false → fX6_plan β η σ a b = (.inl xIS, β, η, σ) := fun c_12 => by rw [fX6_plan]; rw [if_pos c_1, if_pos c_5, if_neg (ne_true_of_eq_false c_11)]
        exact g_req (b := false) C hT (kX6_requireState l E hlt false) caX6_requireState q3_143 ⟨Nat.le_of_ble_eq_true rfl, Nat.le_of_ble_eq_true rfl⟩ ⟨Nat.le_of_ble_eq_true rfl, Nat.le_of_ble_eq_true rfl⟩ ⟨Nat.le_of_ble_eq_true rfl, Nat.le_of_ble_eq_true rfl⟩ (fun c => by rw [e_13 c]; exact ⟨rfl, rfl⟩) (Nat.le_of_ble_eq_true rfl) dX6_plan_55 (fun h => absurd h (by decide))
      · skip
        refine g_aload_n C dX6_plan_37 rfl 0 rfl ?_
        refine g_getf C (T := TX6) (N := 5) 0 0 rfl rfl rfl inX6 0 (by decide) q1_192 rfl dX6_plan_38 ?_
        refine g_getf C (T := TX0) (N := 17) 1 0 rfl rfl rfl inX0 8 (by decide) q1_58 rfl dX6_plan_41 ?_
        refine g_iload_n C dX6_plan_44 rfl 1 rfl ?_
        refine g_ialdn C 1 5 a.toNatClampNeg rfl rfl hx_4.1 hx_4.2.1 (by decide) dX6_plan_45 ?_
        refine g_iload_n C dX6_plan_46 rfl 2 rfl ?_
        refine g_icmp_eq C 54 dX6_plan_47 (by decide) (fun c_14 => ?_) (fun c_14 => ?_)
        · skip
          refine g_iconst C (v := 0) dX6_plan_54 (by decide) ?_
          have e_16 : false = false → fX6_plan β η σ a b = (.inl xIS, β, η, σ) := fun c_15 => by rw [fX6_plan]; rw [if_pos c_1, if_pos c_5, if_pos c_11, if_pos c_14]
          exact g_req (b := false) C hT (kX6_requireState l E hlt false) caX6_requireState q3_143 ⟨Nat.le_of_ble_eq_true rfl, Nat.le_of_ble_eq_true rfl⟩ ⟨Nat.le_of_ble_eq_true rfl, Nat.le_of_ble_eq_true rfl⟩ ⟨Nat.le_of_ble_eq_true rfl, Nat.le_of_ble_eq_true rfl⟩ (fun c => by rw [e_16 c]; exact ⟨rfl, rfl⟩) (Nat.le_of_ble_eq_true rfl) dX6_plan_55 (fun h => absurd h (by decide))
        · skip
          refine g_iconst C (v := 1) dX6_plan_50 (by decide) ?_
          refine g_goto C 55 dX6_plan_51 (by decide) ?_
          refine g_req (b := true) C hT (kX6_requireState l E hlt true) caX6_requireState q3_143 ⟨Nat.le_of_ble_eq_true rfl, Nat.le_of_ble_eq_true rfl⟩ ⟨Nat.le_of_ble_eq_true rfl, Nat.le_of_ble_eq_true rfl⟩ ⟨Nat.le_of_ble_eq_true rfl, Nat.le_of_ble_eq_true rfl⟩ (fun h => absurd h (by decide)) (Nat.le_of_ble_eq_true rfl) dX6_plan_55 (fun _ => ?_)
          refine g_aload_n C dX6_plan_58 rfl 0 rfl ?_
          refine g_getf C (T := TX6) (N := 5) 0 0 rfl rfl rfl inX6 3 (by decide) q1_195 rfl dX6_plan_59 ?_
          refine g_aload_n C dX6_plan_62 rfl 0 rfl ?_
          refine g_getf C (T := TX6) (N := 5) 0 0 rfl rfl rfl inX6 0 (by decide) q1_192 rfl dX6_plan_63 ?_
          refine g_callV C (cs1 := [wX ax (bo 0) (tr 0) (ac 0) (ah 0) (at_ 0), wB E bo β, wB E tr τ, wC E ac γ, wH E ah bd ((fX3_save η σ β).1), wT E at_ θ, wB E (bd 2) ((fX3_save η σ β).2 2), wB E (bd 3) ((fX3_save η σ β).2 3), wB E (bd 4) ((fX3_save η σ β).2 4), wB E (bd 5) ((fX3_save η σ β).2 5), wB E (bd 6) ((fX3_save η σ β).2 6), wB E (bd 7) ((fX3_save η σ β).2 7), wB E (bd 8) ((fX3_save η σ β).2 8), wB E (bd 9) ((fX3_save η σ β).2 9)]) (st1 := []) [.ref (bo 0)] [4, 6, 7, 8, 9, 10, 11, 12, 13, 1] (kX3_save l E ah bd η σ bo β hvh) caX3_save q3_162 rfl ⟨Nat.le_of_ble_eq_true rfl, Nat.le_of_ble_eq_true rfl⟩ ⟨Nat.le_of_ble_eq_true rfl, Nat.le_of_ble_eq_true rfl⟩ 4 0 rfl rfl rfl rfl (by decide) rfl rfl rfl rfl (Nat.le_of_ble_eq_true rfl) dX6_plan_66 rfl ?_
          refine g_aload_n C dX6_plan_69 rfl 0 rfl ?_
          refine g_getf C (T := TX6) (N := 5) 0 0 rfl rfl rfl inX6 0 (by decide) q1_192 rfl dX6_plan_70 ?_
          refine g_getf C (T := TX0) (N := 17) 1 0 rfl rfl rfl inX0 8 (by decide) q1_58 rfl dX6_plan_73 ?_
          refine g_iload_n C dX6_plan_76 rfl 1 rfl ?_
          refine g_iload_n C dX6_plan_77 rfl 2 rfl ?_
          refine g_iastn C (w1 := wB E bo (sE β 4 a.toNatClampNeg b)) (cs1 := [wX ax (bo 0) (tr 0) (ac 0) (ah 0) (at_ 0), wB E bo (sE β 4 a.toNatClampNeg b), wB E tr τ, wC E ac γ, wH E ah bd ((fX3_save η σ β).1), wT E at_ θ, wB E (bd 2) ((fX3_save η σ β).2 2), wB E (bd 3) ((fX3_save η σ β).2 3), wB E (bd 4) ((fX3_save η σ β).2 4), wB E (bd 5) ((fX3_save η σ β).2 5), wB E (bd 6) ((fX3_save η σ β).2 6), wB E (bd 7) ((fX3_save η σ β).2 7), wB E (bd 8) ((fX3_save η σ β).2 8), wB E (bd 9) ((fX3_save η σ β).2 9)]) 1 5 a.toNatClampNeg rfl rfl hx_4.1 hx_4.2.1 (by decide) rfl rfl dX6_plan_78 ?_
          refine g_aload_n C dX6_plan_79 rfl 0 rfl ?_
          refine g_getf C (T := TX6) (N := 5) 0 0 rfl rfl rfl inX6 0 (by decide) q1_192 rfl dX6_plan_80 ?_
          refine g_iload_n C dX6_plan_83 rfl 2 rfl ?_
          refine g_callS C (cs1 := [wX ax (bo 0) (tr 0) (ac 0) (ah 0) (at_ 0), wB E bo (sE β 4 a.toNatClampNeg b), wB E tr τ, wC E ac γ, wH E ah bd ((fX3_save η σ β).1), wT E at_ θ, wB E (bd 2) ((fX3_save η σ β).2 2), wB E (bd 3) ((fX3_save η σ β).2 3), wB E (bd 4) ((fX3_save η σ β).2 4), wB E (bd 5) ((fX3_save η σ β).2 5), wB E (bd 6) ((fX3_save η σ β).2 6), wB E (bd 7) ((fX3_save η σ β).2 7), wB E (bd 8) ((fX3_save η σ β).2 8), wB E (bd 9) ((fX3_save η σ β).2 9)]) (st1 := [.int (fX5_leftFor (sE β 4 a.toNatClampNeg b) b)]) [.ref (bo 0), .int b] [1] (kX5_leftFor l E bo (sE β 4 a.toNatClampNeg b) hv b) caX5_leftFor q2_238 rfl ⟨Nat.le_of_ble_eq_true rfl, Nat.le_of_ble_eq_true rfl⟩ ⟨Nat.le_of_ble_eq_true rfl, Nat.le_of_ble_eq_true rfl⟩ (by decide) rfl rfl rfl rfl (Nat.le_of_ble_eq_true rfl) dX6_plan_84 rfl ?_
          have e_19 : fX6_plan β η σ a b = (.inr (fX5_leftFor (sE β 4 a.toNatClampNeg b) b), sE β 4 a.toNatClampNeg b, (fX3_save η σ β).1, (fX3_save η σ β).2) := by rw [fX6_plan]; rw [if_pos c_1, if_pos c_5, if_pos c_11, if_neg c_14]
          refine g_widen (k1 := 3) (n1 := 18) (Nat.le_of_ble_eq_true rfl) (Nat.le_of_ble_eq_true rfl) ?_
          exact g_iret C (gT_r hT (by rw [e_19] <;> rfl) (by rw [e_19] <;> rfl)) rfl rfl dX6_plan_87
def fX6_changeDate (β : BS) (η : BS) (σ : Nat → BS) (a : Int32) (b : Int32) : (String ⊕ Int32) × BS × BS × (Nat → BS) :=
  if (fX6_isMilestone a) = true then (if (fX6_within b 0 999) = true then (.inr ((fX0_setDate β a.toNatClampNeg b).1), (fX0_setDate β a.toNatClampNeg b).2, (fX3_save η σ β).1, (fX3_save η σ β).2) else (.inl xIA, β, η, σ)) else (.inl xIO, β, η, σ)
theorem caX6_changeDate : gCalV yX6_changeDate cX6_changeDate 3 (some .int) 2 := ⟨⟨q4_98, q1_1, by decide +kernel⟩, q4_96, q4_97⟩
set_option maxHeartbeats 4000000 in
set_option maxRecDepth 100000 in
theorem kX6_changeDate (l : Launch) (E : gE) (ax : Nat) (bo : Nat → Nat) (β : BS) (tr : Nat → Nat) (τ : BS) (ac : Nat → Nat) (γ : BS) (ah : Nat → Nat) (bd : Nat → Nat → Nat) (η : BS) (σ : Nat → BS) (at_ : Nat → Nat) (θ : BS) (hlt : l.stackTraces = false) (hv : vB β) (hvh : vH η)  (a : Int32) (b : Int32) : MX l E yX6_changeDate cX6_changeDate 3 (some .int) 3 18 7 102 [.ref ax, .int a, .int b] [wX ax (bo 0) (tr 0) (ac 0) (ah 0) (at_ 0), wB E bo β, wB E tr τ, wC E ac γ, wH E ah bd η, wT E at_ θ, wB E (bd 2) (σ 2), wB E (bd 3) (σ 3), wB E (bd 4) (σ 4), wB E (bd 5) (σ 5), wB E (bd 6) (σ 6), wB E (bd 7) (σ 7), wB E (bd 8) (σ 8), wB E (bd 9) (σ 9)] (Sum.map id (fun v => some (.int v)) (fX6_changeDate β η σ a b).1) [wX ax (bo 0) (tr 0) (ac 0) (ah 0) (at_ 0), wB E bo ((fX6_changeDate β η σ a b).2.1), wB E tr τ, wC E ac γ, wH E ah bd ((fX6_changeDate β η σ a b).2.2.1), wT E at_ θ, wB E (bd 2) ((fX6_changeDate β η σ a b).2.2.2 2), wB E (bd 3) ((fX6_changeDate β η σ a b).2.2.2 3), wB E (bd 4) ((fX6_changeDate β η σ a b).2.2.2 4), wB E (bd 5) ((fX6_changeDate β η σ a b).2.2.2 5), wB E (bd 6) ((fX6_changeDate β η σ a b).2.2.2 6), wB E (bd 7) ((fX6_changeDate β η σ a b).2.2.2 7), wB E (bd 8) ((fX6_changeDate β η σ a b).2.2.2 8), wB E (bd 9) ((fX6_changeDate β η σ a b).2.2.2 9)] := by
  have hv1 : cnt β ≤ 20 := hv.1
  refine mx_of hlt (by decide +kernel) (Nat.le_of_ble_eq_true rfl) (lv := [(0, .ref ax), (1, .int a), (2, .int b)]) rfl (fun X C hT => ?_)
  refine g_iload_n C dX6_changeDate_0 rfl 1 rfl ?_
  refine g_callS C (cs1 := [wX ax (bo 0) (tr 0) (ac 0) (ah 0) (at_ 0), wB E bo β, wB E tr τ, wC E ac γ, wH E ah bd η, wT E at_ θ, wB E (bd 2) (σ 2), wB E (bd 3) (σ 3), wB E (bd 4) (σ 4), wB E (bd 5) (σ 5), wB E (bd 6) (σ 6), wB E (bd 7) (σ 7), wB E (bd 8) (σ 8), wB E (bd 9) (σ 9)]) (st1 := [.int (b2i (fX6_isMilestone a))]) [.int a] [] (kX6_isMilestone l E a) caX6_isMilestone q4_77 rfl ⟨Nat.le_of_ble_eq_true rfl, Nat.le_of_ble_eq_true rfl⟩ ⟨Nat.le_of_ble_eq_true rfl, Nat.le_of_ble_eq_true rfl⟩ (by decide) rfl rfl rfl rfl (Nat.le_of_ble_eq_true rfl) dX6_changeDate_1 rfl ?_
  have e_2 : (fX6_isMilestone a) = false → fX6_changeDate β η σ a b = (.inl xIO, β, η, σ) := fun c_1 => by rw [fX6_changeDate]; rw [if_neg (ne_true_of_eq_false c_1)]
  refine g_req (b := (fX6_isMilestone a)) C hT (kX6_requireIndex l E hlt (fX6_isMilestone a)) caX6_requireIndex q3_195 ⟨Nat.le_of_ble_eq_true rfl, Nat.le_of_ble_eq_true rfl⟩ ⟨Nat.le_of_ble_eq_true rfl, Nat.le_of_ble_eq_true rfl⟩ ⟨Nat.le_of_ble_eq_true rfl, Nat.le_of_ble_eq_true rfl⟩ (fun c => by rw [e_2 c]; exact ⟨rfl, rfl⟩) (Nat.le_of_ble_eq_true rfl) dX6_changeDate_4 (fun c_3 => ?_)
  have hx_4 := isMilestone_i c_3
  refine g_iload_n C dX6_changeDate_7 rfl 2 rfl ?_
  refine g_iconst C (v := 0) dX6_changeDate_8 (by decide) ?_
  refine g_sipush C (v := 999) dX6_changeDate_9 (by decide) ?_
  refine g_callS C (cs1 := [wX ax (bo 0) (tr 0) (ac 0) (ah 0) (at_ 0), wB E bo β, wB E tr τ, wC E ac γ, wH E ah bd η, wT E at_ θ, wB E (bd 2) (σ 2), wB E (bd 3) (σ 3), wB E (bd 4) (σ 4), wB E (bd 5) (σ 5), wB E (bd 6) (σ 6), wB E (bd 7) (σ 7), wB E (bd 8) (σ 8), wB E (bd 9) (σ 9)]) (st1 := [.int (b2i (fX6_within b 0 999))]) [.int b, .int 0, .int 999] [] (kX6_within l E b 0 999) caX6_within q3_65 rfl ⟨Nat.le_of_ble_eq_true rfl, Nat.le_of_ble_eq_true rfl⟩ ⟨Nat.le_of_ble_eq_true rfl, Nat.le_of_ble_eq_true rfl⟩ (by decide) rfl rfl rfl rfl (Nat.le_of_ble_eq_true rfl) dX6_changeDate_12 rfl ?_
  have e_6 : (fX6_within b 0 999) = false → fX6_changeDate β η σ a b = (.inl xIA, β, η, σ) := fun c_5 => by rw [fX6_changeDate]; rw [if_pos c_3, if_neg (ne_true_of_eq_false c_5)]
  refine g_req (b := (fX6_within b 0 999)) C hT (kX6_requireArgument l E hlt (fX6_within b 0 999)) caX6_requireArgument q3_68 ⟨Nat.le_of_ble_eq_true rfl, Nat.le_of_ble_eq_true rfl⟩ ⟨Nat.le_of_ble_eq_true rfl, Nat.le_of_ble_eq_true rfl⟩ ⟨Nat.le_of_ble_eq_true rfl, Nat.le_of_ble_eq_true rfl⟩ (fun c => by rw [e_6 c]; exact ⟨rfl, rfl⟩) (Nat.le_of_ble_eq_true rfl) dX6_changeDate_15 (fun c_7 => ?_)
  refine g_aload_n C dX6_changeDate_18 rfl 0 rfl ?_
  refine g_getf C (T := TX6) (N := 5) 0 0 rfl rfl rfl inX6 3 (by decide) q1_195 rfl dX6_changeDate_19 ?_
  refine g_aload_n C dX6_changeDate_22 rfl 0 rfl ?_
  refine g_getf C (T := TX6) (N := 5) 0 0 rfl rfl rfl inX6 0 (by decide) q1_192 rfl dX6_changeDate_23 ?_
  refine g_callV C (cs1 := [wX ax (bo 0) (tr 0) (ac 0) (ah 0) (at_ 0), wB E bo β, wB E tr τ, wC E ac γ, wH E ah bd ((fX3_save η σ β).1), wT E at_ θ, wB E (bd 2) ((fX3_save η σ β).2 2), wB E (bd 3) ((fX3_save η σ β).2 3), wB E (bd 4) ((fX3_save η σ β).2 4), wB E (bd 5) ((fX3_save η σ β).2 5), wB E (bd 6) ((fX3_save η σ β).2 6), wB E (bd 7) ((fX3_save η σ β).2 7), wB E (bd 8) ((fX3_save η σ β).2 8), wB E (bd 9) ((fX3_save η σ β).2 9)]) (st1 := []) [.ref (bo 0)] [4, 6, 7, 8, 9, 10, 11, 12, 13, 1] (kX3_save l E ah bd η σ bo β hvh) caX3_save q3_162 rfl ⟨Nat.le_of_ble_eq_true rfl, Nat.le_of_ble_eq_true rfl⟩ ⟨Nat.le_of_ble_eq_true rfl, Nat.le_of_ble_eq_true rfl⟩ 4 0 rfl rfl rfl rfl (by decide) rfl rfl rfl rfl (Nat.le_of_ble_eq_true rfl) dX6_changeDate_26 rfl ?_
  refine g_aload_n C dX6_changeDate_29 rfl 0 rfl ?_
  refine g_getf C (T := TX6) (N := 5) 0 0 rfl rfl rfl inX6 0 (by decide) q1_192 rfl dX6_changeDate_30 ?_
  refine g_iload_n C dX6_changeDate_33 rfl 1 rfl ?_
  refine g_iload_n C dX6_changeDate_34 rfl 2 rfl ?_
  refine g_st (st1 := [.int b, .int (nI a.toNatClampNeg), .ref (bo 0)]) (by rw [← hx_4.1]) ?_
  refine g_callV C (cs1 := [wX ax (bo 0) (tr 0) (ac 0) (ah 0) (at_ 0), wB E bo ((fX0_setDate β a.toNatClampNeg b).2), wB E tr τ, wC E ac γ, wH E ah bd ((fX3_save η σ β).1), wT E at_ θ, wB E (bd 2) ((fX3_save η σ β).2 2), wB E (bd 3) ((fX3_save η σ β).2 3), wB E (bd 4) ((fX3_save η σ β).2 4), wB E (bd 5) ((fX3_save η σ β).2 5), wB E (bd 6) ((fX3_save η σ β).2 6), wB E (bd 7) ((fX3_save η σ β).2 7), wB E (bd 8) ((fX3_save η σ β).2 8), wB E (bd 9) ((fX3_save η σ β).2 9)]) (st1 := [.int ((fX0_setDate β a.toNatClampNeg b).1)]) [.int (nI a.toNatClampNeg), .int b] [1] (kX0_setDate l E bo β a.toNatClampNeg hx_4.2 b) caX0_setDate q4_99 rfl ⟨Nat.le_of_ble_eq_true rfl, Nat.le_of_ble_eq_true rfl⟩ ⟨Nat.le_of_ble_eq_true rfl, Nat.le_of_ble_eq_true rfl⟩ 1 0 rfl rfl rfl rfl (by decide) rfl rfl rfl rfl (Nat.le_of_ble_eq_true rfl) dX6_changeDate_35 rfl ?_
  have e_8 : fX6_changeDate β η σ a b = (.inr ((fX0_setDate β a.toNatClampNeg b).1), (fX0_setDate β a.toNatClampNeg b).2, (fX3_save η σ β).1, (fX3_save η σ β).2) := by rw [fX6_changeDate]; rw [if_pos c_3, if_pos c_7]
  refine g_widen (k1 := 3) (n1 := 18) (Nat.le_of_ble_eq_true rfl) (Nat.le_of_ble_eq_true rfl) ?_
  exact g_iret C (gT_r hT (by rw [e_8] <;> rfl) (by rw [e_8] <;> rfl)) rfl rfl dX6_changeDate_38
def fX6_unplan (β : BS) (η : BS) (σ : Nat → BS) (a : Int32) : (String ⊕ Int32) × BS × BS × (Nat → BS) :=
  if (fX0_hasTicket β a) = true then (if (β.2 4 a.toNatClampNeg) = (-1) then (.inl xIS, β, η, σ) else (if (fX0_isUnfinished β a.toNatClampNeg) = true then (.inr ((fX0_takeFromMilestone β a.toNatClampNeg).1), (fX0_takeFromMilestone β a.toNatClampNeg).2, (fX3_save η σ β).1, (fX3_save η σ β).2) else (.inl xIS, β, η, σ))) else (.inl xIO, β, η, σ)
theorem caX6_unplan : gCalV yX6_unplan cX6_unplan 2 (some .int) 1 := ⟨⟨q4_87, q1_1, by decide +kernel⟩, q4_85, q4_86⟩
set_option maxHeartbeats 4000000 in
set_option maxRecDepth 100000 in
theorem kX6_unplan (l : Launch) (E : gE) (ax : Nat) (bo : Nat → Nat) (β : BS) (tr : Nat → Nat) (τ : BS) (ac : Nat → Nat) (γ : BS) (ah : Nat → Nat) (bd : Nat → Nat → Nat) (η : BS) (σ : Nat → BS) (at_ : Nat → Nat) (θ : BS) (hlt : l.stackTraces = false) (hv : vB β) (hvh : vH η)  (a : Int32) : MX l E yX6_unplan cX6_unplan 2 (some .int) 3 18 7 102 [.ref ax, .int a] [wX ax (bo 0) (tr 0) (ac 0) (ah 0) (at_ 0), wB E bo β, wB E tr τ, wC E ac γ, wH E ah bd η, wT E at_ θ, wB E (bd 2) (σ 2), wB E (bd 3) (σ 3), wB E (bd 4) (σ 4), wB E (bd 5) (σ 5), wB E (bd 6) (σ 6), wB E (bd 7) (σ 7), wB E (bd 8) (σ 8), wB E (bd 9) (σ 9)] (Sum.map id (fun v => some (.int v)) (fX6_unplan β η σ a).1) [wX ax (bo 0) (tr 0) (ac 0) (ah 0) (at_ 0), wB E bo ((fX6_unplan β η σ a).2.1), wB E tr τ, wC E ac γ, wH E ah bd ((fX6_unplan β η σ a).2.2.1), wT E at_ θ, wB E (bd 2) ((fX6_unplan β η σ a).2.2.2 2), wB E (bd 3) ((fX6_unplan β η σ a).2.2.2 3), wB E (bd 4) ((fX6_unplan β η σ a).2.2.2 4), wB E (bd 5) ((fX6_unplan β η σ a).2.2.2 5), wB E (bd 6) ((fX6_unplan β η σ a).2.2.2 6), wB E (bd 7) ((fX6_unplan β η σ a).2.2.2 7), wB E (bd 8) ((fX6_unplan β η σ a).2.2.2 8), wB E (bd 9) ((fX6_unplan β η σ a).2.2.2 9)] := by
  have hv1 : cnt β ≤ 20 := hv.1
  refine mx_of hlt (by decide +kernel) (Nat.le_of_ble_eq_true rfl) (lv := [(0, .ref ax), (1, .int a)]) rfl (fun X C hT => ?_)
  refine g_aload_n C dX6_unplan_0 rfl 0 rfl ?_
  refine g_getf C (T := TX6) (N := 5) 0 0 rfl rfl rfl inX6 0 (by decide) q1_192 rfl dX6_unplan_1 ?_
  refine g_iload_n C dX6_unplan_4 rfl 1 rfl ?_
  refine g_callV C (cs1 := [wX ax (bo 0) (tr 0) (ac 0) (ah 0) (at_ 0), wB E bo β, wB E tr τ, wC E ac γ, wH E ah bd η, wT E at_ θ, wB E (bd 2) (σ 2), wB E (bd 3) (σ 3), wB E (bd 4) (σ 4), wB E (bd 5) (σ 5), wB E (bd 6) (σ 6), wB E (bd 7) (σ 7), wB E (bd 8) (σ 8), wB E (bd 9) (σ 9)]) (st1 := [.int (b2i (fX0_hasTicket β a))]) [.int a] [1] (kX0_hasTicket l E bo β a) caX0_hasTicket q3_191 rfl ⟨Nat.le_of_ble_eq_true rfl, Nat.le_of_ble_eq_true rfl⟩ ⟨Nat.le_of_ble_eq_true rfl, Nat.le_of_ble_eq_true rfl⟩ 1 0 rfl rfl rfl rfl (by decide) rfl rfl rfl rfl (Nat.le_of_ble_eq_true rfl) dX6_unplan_5 rfl ?_
  have e_2 : (fX0_hasTicket β a) = false → fX6_unplan β η σ a = (.inl xIO, β, η, σ) := fun c_1 => by rw [fX6_unplan]; rw [if_neg (ne_true_of_eq_false c_1)]
  refine g_req (b := (fX0_hasTicket β a)) C hT (kX6_requireIndex l E hlt (fX0_hasTicket β a)) caX6_requireIndex q3_195 ⟨Nat.le_of_ble_eq_true rfl, Nat.le_of_ble_eq_true rfl⟩ ⟨Nat.le_of_ble_eq_true rfl, Nat.le_of_ble_eq_true rfl⟩ ⟨Nat.le_of_ble_eq_true rfl, Nat.le_of_ble_eq_true rfl⟩ (fun c => by rw [e_2 c]; exact ⟨rfl, rfl⟩) (Nat.le_of_ble_eq_true rfl) dX6_unplan_8 (fun c_3 => ?_)
  have hx_4 := hasTicket_i hv c_3
  refine g_aload_n C dX6_unplan_11 rfl 0 rfl ?_
  refine g_getf C (T := TX6) (N := 5) 0 0 rfl rfl rfl inX6 0 (by decide) q1_192 rfl dX6_unplan_12 ?_
  refine g_getf C (T := TX0) (N := 17) 1 0 rfl rfl rfl inX0 8 (by decide) q1_58 rfl dX6_unplan_15 ?_
  refine g_iload_n C dX6_unplan_18 rfl 1 rfl ?_
  refine g_ialdn C 1 5 a.toNatClampNeg rfl rfl hx_4.1 hx_4.2.1 (by decide) dX6_unplan_19 ?_
  refine g_iconst C (v := -1) dX6_unplan_20 (by decide) ?_
  refine g_icmp_eq C 39 dX6_unplan_21 (by decide) (fun c_5 => ?_) (fun c_5 => ?_)
  · skip
    refine g_iconst C (v := 0) dX6_unplan_39 (by decide) ?_
    have e_7 : false = false → fX6_unplan β η σ a = (.inl xIS, β, η, σ) := fun c_6 => by rw [fX6_unplan]; rw [if_pos c_3, if_pos c_5]
    exact g_req (b := false) C hT (kX6_requireState l E hlt false) caX6_requireState q3_143 ⟨Nat.le_of_ble_eq_true rfl, Nat.le_of_ble_eq_true rfl⟩ ⟨Nat.le_of_ble_eq_true rfl, Nat.le_of_ble_eq_true rfl⟩ ⟨Nat.le_of_ble_eq_true rfl, Nat.le_of_ble_eq_true rfl⟩ (fun c => by rw [e_7 c]; exact ⟨rfl, rfl⟩) (Nat.le_of_ble_eq_true rfl) dX6_unplan_40 (fun h => absurd h (by decide))
  · skip
    refine g_aload_n C dX6_unplan_24 rfl 0 rfl ?_
    refine g_getf C (T := TX6) (N := 5) 0 0 rfl rfl rfl inX6 0 (by decide) q1_192 rfl dX6_unplan_25 ?_
    refine g_iload_n C dX6_unplan_28 rfl 1 rfl ?_
    refine g_st (st1 := [.int (nI a.toNatClampNeg), .ref (bo 0)]) (by rw [← hx_4.1]) ?_
    refine g_callV C (cs1 := [wX ax (bo 0) (tr 0) (ac 0) (ah 0) (at_ 0), wB E bo β, wB E tr τ, wC E ac γ, wH E ah bd η, wT E at_ θ, wB E (bd 2) (σ 2), wB E (bd 3) (σ 3), wB E (bd 4) (σ 4), wB E (bd 5) (σ 5), wB E (bd 6) (σ 6), wB E (bd 7) (σ 7), wB E (bd 8) (σ 8), wB E (bd 9) (σ 9)]) (st1 := [.int (b2i (fX0_isUnfinished β a.toNatClampNeg))]) [.int (nI a.toNatClampNeg)] [1] (kX0_isUnfinished l E bo β a.toNatClampNeg hx_4.2.1) caX0_isUnfinished q4_80 rfl ⟨Nat.le_of_ble_eq_true rfl, Nat.le_of_ble_eq_true rfl⟩ ⟨Nat.le_of_ble_eq_true rfl, Nat.le_of_ble_eq_true rfl⟩ 1 0 rfl rfl rfl rfl (by decide) rfl rfl rfl rfl (Nat.le_of_ble_eq_true rfl) dX6_unplan_29 rfl ?_
    refine g_ifB_eq C 39 dX6_unplan_32 (by decide) (fun c_8 => ?_) (fun c_8 => ?_)
    · skip
      refine g_iconst C (v := 0) dX6_unplan_39 (by decide) ?_
      have e_10 : false = false → fX6_unplan β η σ a = (.inl xIS, β, η, σ) := fun c_9 => by rw [fX6_unplan]; rw [if_pos c_3, if_neg c_5, if_neg (ne_true_of_eq_false c_8)]
      exact g_req (b := false) C hT (kX6_requireState l E hlt false) caX6_requireState q3_143 ⟨Nat.le_of_ble_eq_true rfl, Nat.le_of_ble_eq_true rfl⟩ ⟨Nat.le_of_ble_eq_true rfl, Nat.le_of_ble_eq_true rfl⟩ ⟨Nat.le_of_ble_eq_true rfl, Nat.le_of_ble_eq_true rfl⟩ (fun c => by rw [e_10 c]; exact ⟨rfl, rfl⟩) (Nat.le_of_ble_eq_true rfl) dX6_unplan_40 (fun h => absurd h (by decide))
    · skip
      refine g_iconst C (v := 1) dX6_unplan_35 (by decide) ?_
      refine g_goto C 40 dX6_unplan_36 (by decide) ?_
      refine g_req (b := true) C hT (kX6_requireState l E hlt true) caX6_requireState q3_143 ⟨Nat.le_of_ble_eq_true rfl, Nat.le_of_ble_eq_true rfl⟩ ⟨Nat.le_of_ble_eq_true rfl, Nat.le_of_ble_eq_true rfl⟩ ⟨Nat.le_of_ble_eq_true rfl, Nat.le_of_ble_eq_true rfl⟩ (fun h => absurd h (by decide)) (Nat.le_of_ble_eq_true rfl) dX6_unplan_40 (fun _ => ?_)
      refine g_aload_n C dX6_unplan_43 rfl 0 rfl ?_
      refine g_getf C (T := TX6) (N := 5) 0 0 rfl rfl rfl inX6 3 (by decide) q1_195 rfl dX6_unplan_44 ?_
      refine g_aload_n C dX6_unplan_47 rfl 0 rfl ?_
      refine g_getf C (T := TX6) (N := 5) 0 0 rfl rfl rfl inX6 0 (by decide) q1_192 rfl dX6_unplan_48 ?_
      refine g_callV C (cs1 := [wX ax (bo 0) (tr 0) (ac 0) (ah 0) (at_ 0), wB E bo β, wB E tr τ, wC E ac γ, wH E ah bd ((fX3_save η σ β).1), wT E at_ θ, wB E (bd 2) ((fX3_save η σ β).2 2), wB E (bd 3) ((fX3_save η σ β).2 3), wB E (bd 4) ((fX3_save η σ β).2 4), wB E (bd 5) ((fX3_save η σ β).2 5), wB E (bd 6) ((fX3_save η σ β).2 6), wB E (bd 7) ((fX3_save η σ β).2 7), wB E (bd 8) ((fX3_save η σ β).2 8), wB E (bd 9) ((fX3_save η σ β).2 9)]) (st1 := []) [.ref (bo 0)] [4, 6, 7, 8, 9, 10, 11, 12, 13, 1] (kX3_save l E ah bd η σ bo β hvh) caX3_save q3_162 rfl ⟨Nat.le_of_ble_eq_true rfl, Nat.le_of_ble_eq_true rfl⟩ ⟨Nat.le_of_ble_eq_true rfl, Nat.le_of_ble_eq_true rfl⟩ 4 0 rfl rfl rfl rfl (by decide) rfl rfl rfl rfl (Nat.le_of_ble_eq_true rfl) dX6_unplan_51 rfl ?_
      refine g_aload_n C dX6_unplan_54 rfl 0 rfl ?_
      refine g_getf C (T := TX6) (N := 5) 0 0 rfl rfl rfl inX6 0 (by decide) q1_192 rfl dX6_unplan_55 ?_
      refine g_iload_n C dX6_unplan_58 rfl 1 rfl ?_
      refine g_st (st1 := [.int (nI a.toNatClampNeg), .ref (bo 0)]) (by rw [← hx_4.1]) ?_
      refine g_callV C (cs1 := [wX ax (bo 0) (tr 0) (ac 0) (ah 0) (at_ 0), wB E bo ((fX0_takeFromMilestone β a.toNatClampNeg).2), wB E tr τ, wC E ac γ, wH E ah bd ((fX3_save η σ β).1), wT E at_ θ, wB E (bd 2) ((fX3_save η σ β).2 2), wB E (bd 3) ((fX3_save η σ β).2 3), wB E (bd 4) ((fX3_save η σ β).2 4), wB E (bd 5) ((fX3_save η σ β).2 5), wB E (bd 6) ((fX3_save η σ β).2 6), wB E (bd 7) ((fX3_save η σ β).2 7), wB E (bd 8) ((fX3_save η σ β).2 8), wB E (bd 9) ((fX3_save η σ β).2 9)]) (st1 := [.int ((fX0_takeFromMilestone β a.toNatClampNeg).1)]) [.int (nI a.toNatClampNeg)] [1] (kX0_takeFromMilestone l E bo β a.toNatClampNeg hx_4.2.1) caX0_takeFromMilestone q4_88 rfl ⟨Nat.le_of_ble_eq_true rfl, Nat.le_of_ble_eq_true rfl⟩ ⟨Nat.le_of_ble_eq_true rfl, Nat.le_of_ble_eq_true rfl⟩ 1 0 rfl rfl rfl rfl (by decide) rfl rfl rfl rfl (Nat.le_of_ble_eq_true rfl) dX6_unplan_59 rfl ?_
      have e_13 : fX6_unplan β η σ a = (.inr ((fX0_takeFromMilestone β a.toNatClampNeg).1), (fX0_takeFromMilestone β a.toNatClampNeg).2, (fX3_save η σ β).1, (fX3_save η σ β).2) := by rw [fX6_unplan]; rw [if_pos c_3, if_neg c_5, if_pos c_8]
      refine g_widen (k1 := 3) (n1 := 18) (Nat.le_of_ble_eq_true rfl) (Nat.le_of_ble_eq_true rfl) ?_
      exact g_iret C (gT_r hT (by rw [e_13] <;> rfl) (by rw [e_13] <;> rfl)) rfl rfl dX6_unplan_62
def fX6_endDays (β : BS) (η : BS) (σ : Nat → BS) (d : Int32) : (String ⊕ Int32) × BS × BS × (Nat → BS) :=
  if (fX6_within d 1 30) = true then (if (fX0_canPass β d) = true then (.inr ((fX0_pass β d).1), (fX0_pass β d).2, (fX3_save η σ β).1, (fX3_save η σ β).2) else (.inl xIS, β, η, σ)) else (.inl xIA, β, η, σ)
theorem caX6_endDays : gCalV yX6_endDays cX6_endDays 2 (some .int) 1 := ⟨⟨q4_109, q1_1, by decide +kernel⟩, q4_107, q4_108⟩
set_option maxHeartbeats 4000000 in
set_option maxRecDepth 100000 in
theorem kX6_endDays (l : Launch) (E : gE) (ax : Nat) (bo : Nat → Nat) (β : BS) (tr : Nat → Nat) (τ : BS) (ac : Nat → Nat) (γ : BS) (ah : Nat → Nat) (bd : Nat → Nat → Nat) (η : BS) (σ : Nat → BS) (at_ : Nat → Nat) (θ : BS) (hlt : l.stackTraces = false) (hv : vB β) (hvh : vH η)  (d : Int32) : MX l E yX6_endDays cX6_endDays 2 (some .int) 3 18 7 102 [.ref ax, .int d] [wX ax (bo 0) (tr 0) (ac 0) (ah 0) (at_ 0), wB E bo β, wB E tr τ, wC E ac γ, wH E ah bd η, wT E at_ θ, wB E (bd 2) (σ 2), wB E (bd 3) (σ 3), wB E (bd 4) (σ 4), wB E (bd 5) (σ 5), wB E (bd 6) (σ 6), wB E (bd 7) (σ 7), wB E (bd 8) (σ 8), wB E (bd 9) (σ 9)] (Sum.map id (fun v => some (.int v)) (fX6_endDays β η σ d).1) [wX ax (bo 0) (tr 0) (ac 0) (ah 0) (at_ 0), wB E bo ((fX6_endDays β η σ d).2.1), wB E tr τ, wC E ac γ, wH E ah bd ((fX6_endDays β η σ d).2.2.1), wT E at_ θ, wB E (bd 2) ((fX6_endDays β η σ d).2.2.2 2), wB E (bd 3) ((fX6_endDays β η σ d).2.2.2 3), wB E (bd 4) ((fX6_endDays β η σ d).2.2.2 4), wB E (bd 5) ((fX6_endDays β η σ d).2.2.2 5), wB E (bd 6) ((fX6_endDays β η σ d).2.2.2 6), wB E (bd 7) ((fX6_endDays β η σ d).2.2.2 7), wB E (bd 8) ((fX6_endDays β η σ d).2.2.2 8), wB E (bd 9) ((fX6_endDays β η σ d).2.2.2 9)] := by
  have hv1 : cnt β ≤ 20 := hv.1
  refine mx_of hlt (by decide +kernel) (Nat.le_of_ble_eq_true rfl) (lv := [(0, .ref ax), (1, .int d)]) rfl (fun X C hT => ?_)
  refine g_iload_n C dX6_endDays_0 rfl 1 rfl ?_
  refine g_iconst C (v := 1) dX6_endDays_1 (by decide) ?_
  refine g_bipush C (v := 30) dX6_endDays_2 (by decide) ?_
  refine g_callS C (cs1 := [wX ax (bo 0) (tr 0) (ac 0) (ah 0) (at_ 0), wB E bo β, wB E tr τ, wC E ac γ, wH E ah bd η, wT E at_ θ, wB E (bd 2) (σ 2), wB E (bd 3) (σ 3), wB E (bd 4) (σ 4), wB E (bd 5) (σ 5), wB E (bd 6) (σ 6), wB E (bd 7) (σ 7), wB E (bd 8) (σ 8), wB E (bd 9) (σ 9)]) (st1 := [.int (b2i (fX6_within d 1 30))]) [.int d, .int 1, .int 30] [] (kX6_within l E d 1 30) caX6_within q3_65 rfl ⟨Nat.le_of_ble_eq_true rfl, Nat.le_of_ble_eq_true rfl⟩ ⟨Nat.le_of_ble_eq_true rfl, Nat.le_of_ble_eq_true rfl⟩ (by decide) rfl rfl rfl rfl (Nat.le_of_ble_eq_true rfl) dX6_endDays_4 rfl ?_
  have e_2 : (fX6_within d 1 30) = false → fX6_endDays β η σ d = (.inl xIA, β, η, σ) := fun c_1 => by rw [fX6_endDays]; rw [if_neg (ne_true_of_eq_false c_1)]
  refine g_req (b := (fX6_within d 1 30)) C hT (kX6_requireArgument l E hlt (fX6_within d 1 30)) caX6_requireArgument q3_68 ⟨Nat.le_of_ble_eq_true rfl, Nat.le_of_ble_eq_true rfl⟩ ⟨Nat.le_of_ble_eq_true rfl, Nat.le_of_ble_eq_true rfl⟩ ⟨Nat.le_of_ble_eq_true rfl, Nat.le_of_ble_eq_true rfl⟩ (fun c => by rw [e_2 c]; exact ⟨rfl, rfl⟩) (Nat.le_of_ble_eq_true rfl) dX6_endDays_7 (fun c_3 => ?_)
  refine g_aload_n C dX6_endDays_10 rfl 0 rfl ?_
  refine g_getf C (T := TX6) (N := 5) 0 0 rfl rfl rfl inX6 0 (by decide) q1_192 rfl dX6_endDays_11 ?_
  refine g_iload_n C dX6_endDays_14 rfl 1 rfl ?_
  refine g_callV C (cs1 := [wX ax (bo 0) (tr 0) (ac 0) (ah 0) (at_ 0), wB E bo β, wB E tr τ, wC E ac γ, wH E ah bd η, wT E at_ θ, wB E (bd 2) (σ 2), wB E (bd 3) (σ 3), wB E (bd 4) (σ 4), wB E (bd 5) (σ 5), wB E (bd 6) (σ 6), wB E (bd 7) (σ 7), wB E (bd 8) (σ 8), wB E (bd 9) (σ 9)]) (st1 := [.int (b2i (fX0_canPass β d))]) [.int d] [1] (kX0_canPass l E bo β d) caX0_canPass q4_110 rfl ⟨Nat.le_of_ble_eq_true rfl, Nat.le_of_ble_eq_true rfl⟩ ⟨Nat.le_of_ble_eq_true rfl, Nat.le_of_ble_eq_true rfl⟩ 1 0 rfl rfl rfl rfl (by decide) rfl rfl rfl rfl (Nat.le_of_ble_eq_true rfl) dX6_endDays_15 rfl ?_
  have e_5 : (fX0_canPass β d) = false → fX6_endDays β η σ d = (.inl xIS, β, η, σ) := fun c_4 => by rw [fX6_endDays]; rw [if_pos c_3, if_neg (ne_true_of_eq_false c_4)]
  refine g_req (b := (fX0_canPass β d)) C hT (kX6_requireState l E hlt (fX0_canPass β d)) caX6_requireState q3_143 ⟨Nat.le_of_ble_eq_true rfl, Nat.le_of_ble_eq_true rfl⟩ ⟨Nat.le_of_ble_eq_true rfl, Nat.le_of_ble_eq_true rfl⟩ ⟨Nat.le_of_ble_eq_true rfl, Nat.le_of_ble_eq_true rfl⟩ (fun c => by rw [e_5 c]; exact ⟨rfl, rfl⟩) (Nat.le_of_ble_eq_true rfl) dX6_endDays_18 (fun c_6 => ?_)
  refine g_aload_n C dX6_endDays_21 rfl 0 rfl ?_
  refine g_getf C (T := TX6) (N := 5) 0 0 rfl rfl rfl inX6 3 (by decide) q1_195 rfl dX6_endDays_22 ?_
  refine g_aload_n C dX6_endDays_25 rfl 0 rfl ?_
  refine g_getf C (T := TX6) (N := 5) 0 0 rfl rfl rfl inX6 0 (by decide) q1_192 rfl dX6_endDays_26 ?_
  refine g_callV C (cs1 := [wX ax (bo 0) (tr 0) (ac 0) (ah 0) (at_ 0), wB E bo β, wB E tr τ, wC E ac γ, wH E ah bd ((fX3_save η σ β).1), wT E at_ θ, wB E (bd 2) ((fX3_save η σ β).2 2), wB E (bd 3) ((fX3_save η σ β).2 3), wB E (bd 4) ((fX3_save η σ β).2 4), wB E (bd 5) ((fX3_save η σ β).2 5), wB E (bd 6) ((fX3_save η σ β).2 6), wB E (bd 7) ((fX3_save η σ β).2 7), wB E (bd 8) ((fX3_save η σ β).2 8), wB E (bd 9) ((fX3_save η σ β).2 9)]) (st1 := []) [.ref (bo 0)] [4, 6, 7, 8, 9, 10, 11, 12, 13, 1] (kX3_save l E ah bd η σ bo β hvh) caX3_save q3_162 rfl ⟨Nat.le_of_ble_eq_true rfl, Nat.le_of_ble_eq_true rfl⟩ ⟨Nat.le_of_ble_eq_true rfl, Nat.le_of_ble_eq_true rfl⟩ 4 0 rfl rfl rfl rfl (by decide) rfl rfl rfl rfl (Nat.le_of_ble_eq_true rfl) dX6_endDays_29 rfl ?_
  refine g_aload_n C dX6_endDays_32 rfl 0 rfl ?_
  refine g_getf C (T := TX6) (N := 5) 0 0 rfl rfl rfl inX6 0 (by decide) q1_192 rfl dX6_endDays_33 ?_
  refine g_iload_n C dX6_endDays_36 rfl 1 rfl ?_
  refine g_callV C (cs1 := [wX ax (bo 0) (tr 0) (ac 0) (ah 0) (at_ 0), wB E bo ((fX0_pass β d).2), wB E tr τ, wC E ac γ, wH E ah bd ((fX3_save η σ β).1), wT E at_ θ, wB E (bd 2) ((fX3_save η σ β).2 2), wB E (bd 3) ((fX3_save η σ β).2 3), wB E (bd 4) ((fX3_save η σ β).2 4), wB E (bd 5) ((fX3_save η σ β).2 5), wB E (bd 6) ((fX3_save η σ β).2 6), wB E (bd 7) ((fX3_save η σ β).2 7), wB E (bd 8) ((fX3_save η σ β).2 8), wB E (bd 9) ((fX3_save η σ β).2 9)]) (st1 := [.int ((fX0_pass β d).1)]) [.int d] [1] (kX0_pass l E bo β hv d) caX0_pass q4_114 rfl ⟨Nat.le_of_ble_eq_true rfl, Nat.le_of_ble_eq_true rfl⟩ ⟨Nat.le_of_ble_eq_true rfl, Nat.le_of_ble_eq_true rfl⟩ 1 0 rfl rfl rfl rfl (by decide) rfl rfl rfl rfl (Nat.le_of_ble_eq_true rfl) dX6_endDays_37 rfl ?_
  have e_7 : fX6_endDays β η σ d = (.inr ((fX0_pass β d).1), (fX0_pass β d).2, (fX3_save η σ β).1, (fX3_save η σ β).2) := by rw [fX6_endDays]; rw [if_pos c_3, if_pos c_6]
  refine g_widen (k1 := 3) (n1 := 18) (Nat.le_of_ble_eq_true rfl) (Nat.le_of_ble_eq_true rfl) ?_
  exact g_iret C (gT_r hT (by rw [e_7] <;> rfl) (by rw [e_7] <;> rfl)) rfl rfl dX6_endDays_40
def fX6_start (β : BS) (η : BS) (σ : Nat → BS) (a : Int32) : (String ⊕ Unit) × BS × BS × (Nat → BS) :=
  if (fX0_hasTicket β a) = true then (if (fX0_canStart β a.toNatClampNeg) = true then (.inr (), sE β 0 a.toNatClampNeg 1, (fX3_save η σ β).1, (fX3_save η σ β).2) else (.inl xIS, β, η, σ)) else (.inl xIO, β, η, σ)
theorem caX6_start : gCalV yX6_start cX6_start 2 none 1 := ⟨⟨q4_124, q1_1, by decide +kernel⟩, q4_122, q4_123⟩
set_option maxHeartbeats 4000000 in
set_option maxRecDepth 100000 in
theorem kX6_start (l : Launch) (E : gE) (ax : Nat) (bo : Nat → Nat) (β : BS) (tr : Nat → Nat) (τ : BS) (ac : Nat → Nat) (γ : BS) (ah : Nat → Nat) (bd : Nat → Nat → Nat) (η : BS) (σ : Nat → BS) (at_ : Nat → Nat) (θ : BS) (hlt : l.stackTraces = false) (hv : vB β) (hvh : vH η)  (a : Int32) : MX l E yX6_start cX6_start 2 none 3 18 7 102 [.ref ax, .int a] [wX ax (bo 0) (tr 0) (ac 0) (ah 0) (at_ 0), wB E bo β, wB E tr τ, wC E ac γ, wH E ah bd η, wT E at_ θ, wB E (bd 2) (σ 2), wB E (bd 3) (σ 3), wB E (bd 4) (σ 4), wB E (bd 5) (σ 5), wB E (bd 6) (σ 6), wB E (bd 7) (σ 7), wB E (bd 8) (σ 8), wB E (bd 9) (σ 9)] (Sum.map id (fun _ => none) (fX6_start β η σ a).1) [wX ax (bo 0) (tr 0) (ac 0) (ah 0) (at_ 0), wB E bo ((fX6_start β η σ a).2.1), wB E tr τ, wC E ac γ, wH E ah bd ((fX6_start β η σ a).2.2.1), wT E at_ θ, wB E (bd 2) ((fX6_start β η σ a).2.2.2 2), wB E (bd 3) ((fX6_start β η σ a).2.2.2 3), wB E (bd 4) ((fX6_start β η σ a).2.2.2 4), wB E (bd 5) ((fX6_start β η σ a).2.2.2 5), wB E (bd 6) ((fX6_start β η σ a).2.2.2 6), wB E (bd 7) ((fX6_start β η σ a).2.2.2 7), wB E (bd 8) ((fX6_start β η σ a).2.2.2 8), wB E (bd 9) ((fX6_start β η σ a).2.2.2 9)] := by
  have hv1 : cnt β ≤ 20 := hv.1
  refine mx_of hlt (by decide +kernel) (Nat.le_of_ble_eq_true rfl) (lv := [(0, .ref ax), (1, .int a)]) rfl (fun X C hT => ?_)
  refine g_aload_n C dX6_start_0 rfl 0 rfl ?_
  refine g_getf C (T := TX6) (N := 5) 0 0 rfl rfl rfl inX6 0 (by decide) q1_192 rfl dX6_start_1 ?_
  refine g_iload_n C dX6_start_4 rfl 1 rfl ?_
  refine g_callV C (cs1 := [wX ax (bo 0) (tr 0) (ac 0) (ah 0) (at_ 0), wB E bo β, wB E tr τ, wC E ac γ, wH E ah bd η, wT E at_ θ, wB E (bd 2) (σ 2), wB E (bd 3) (σ 3), wB E (bd 4) (σ 4), wB E (bd 5) (σ 5), wB E (bd 6) (σ 6), wB E (bd 7) (σ 7), wB E (bd 8) (σ 8), wB E (bd 9) (σ 9)]) (st1 := [.int (b2i (fX0_hasTicket β a))]) [.int a] [1] (kX0_hasTicket l E bo β a) caX0_hasTicket q3_191 rfl ⟨Nat.le_of_ble_eq_true rfl, Nat.le_of_ble_eq_true rfl⟩ ⟨Nat.le_of_ble_eq_true rfl, Nat.le_of_ble_eq_true rfl⟩ 1 0 rfl rfl rfl rfl (by decide) rfl rfl rfl rfl (Nat.le_of_ble_eq_true rfl) dX6_start_5 rfl ?_
  have e_2 : (fX0_hasTicket β a) = false → fX6_start β η σ a = (.inl xIO, β, η, σ) := fun c_1 => by rw [fX6_start]; rw [if_neg (ne_true_of_eq_false c_1)]
  refine g_req (b := (fX0_hasTicket β a)) C hT (kX6_requireIndex l E hlt (fX0_hasTicket β a)) caX6_requireIndex q3_195 ⟨Nat.le_of_ble_eq_true rfl, Nat.le_of_ble_eq_true rfl⟩ ⟨Nat.le_of_ble_eq_true rfl, Nat.le_of_ble_eq_true rfl⟩ ⟨Nat.le_of_ble_eq_true rfl, Nat.le_of_ble_eq_true rfl⟩ (fun c => by rw [e_2 c]; exact ⟨rfl, rfl⟩) (Nat.le_of_ble_eq_true rfl) dX6_start_8 (fun c_3 => ?_)
  have hx_4 := hasTicket_i hv c_3
  refine g_aload_n C dX6_start_11 rfl 0 rfl ?_
  refine g_getf C (T := TX6) (N := 5) 0 0 rfl rfl rfl inX6 0 (by decide) q1_192 rfl dX6_start_12 ?_
  refine g_iload_n C dX6_start_15 rfl 1 rfl ?_
  refine g_st (st1 := [.int (nI a.toNatClampNeg), .ref (bo 0)]) (by rw [← hx_4.1]) ?_
  refine g_callV C (cs1 := [wX ax (bo 0) (tr 0) (ac 0) (ah 0) (at_ 0), wB E bo β, wB E tr τ, wC E ac γ, wH E ah bd η, wT E at_ θ, wB E (bd 2) (σ 2), wB E (bd 3) (σ 3), wB E (bd 4) (σ 4), wB E (bd 5) (σ 5), wB E (bd 6) (σ 6), wB E (bd 7) (σ 7), wB E (bd 8) (σ 8), wB E (bd 9) (σ 9)]) (st1 := [.int (b2i (fX0_canStart β a.toNatClampNeg))]) [.int (nI a.toNatClampNeg)] [1] (kX0_canStart l E bo β a.toNatClampNeg hx_4.2.1) caX0_canStart q4_125 rfl ⟨Nat.le_of_ble_eq_true rfl, Nat.le_of_ble_eq_true rfl⟩ ⟨Nat.le_of_ble_eq_true rfl, Nat.le_of_ble_eq_true rfl⟩ 1 0 rfl rfl rfl rfl (by decide) rfl rfl rfl rfl (Nat.le_of_ble_eq_true rfl) dX6_start_16 rfl ?_
  have e_6 : (fX0_canStart β a.toNatClampNeg) = false → fX6_start β η σ a = (.inl xIS, β, η, σ) := fun c_5 => by rw [fX6_start]; rw [if_pos c_3, if_neg (ne_true_of_eq_false c_5)]
  refine g_req (b := (fX0_canStart β a.toNatClampNeg)) C hT (kX6_requireState l E hlt (fX0_canStart β a.toNatClampNeg)) caX6_requireState q3_143 ⟨Nat.le_of_ble_eq_true rfl, Nat.le_of_ble_eq_true rfl⟩ ⟨Nat.le_of_ble_eq_true rfl, Nat.le_of_ble_eq_true rfl⟩ ⟨Nat.le_of_ble_eq_true rfl, Nat.le_of_ble_eq_true rfl⟩ (fun c => by rw [e_6 c]; exact ⟨rfl, rfl⟩) (Nat.le_of_ble_eq_true rfl) dX6_start_19 (fun c_7 => ?_)
  refine g_aload_n C dX6_start_22 rfl 0 rfl ?_
  refine g_getf C (T := TX6) (N := 5) 0 0 rfl rfl rfl inX6 3 (by decide) q1_195 rfl dX6_start_23 ?_
  refine g_aload_n C dX6_start_26 rfl 0 rfl ?_
  refine g_getf C (T := TX6) (N := 5) 0 0 rfl rfl rfl inX6 0 (by decide) q1_192 rfl dX6_start_27 ?_
  refine g_callV C (cs1 := [wX ax (bo 0) (tr 0) (ac 0) (ah 0) (at_ 0), wB E bo β, wB E tr τ, wC E ac γ, wH E ah bd ((fX3_save η σ β).1), wT E at_ θ, wB E (bd 2) ((fX3_save η σ β).2 2), wB E (bd 3) ((fX3_save η σ β).2 3), wB E (bd 4) ((fX3_save η σ β).2 4), wB E (bd 5) ((fX3_save η σ β).2 5), wB E (bd 6) ((fX3_save η σ β).2 6), wB E (bd 7) ((fX3_save η σ β).2 7), wB E (bd 8) ((fX3_save η σ β).2 8), wB E (bd 9) ((fX3_save η σ β).2 9)]) (st1 := []) [.ref (bo 0)] [4, 6, 7, 8, 9, 10, 11, 12, 13, 1] (kX3_save l E ah bd η σ bo β hvh) caX3_save q3_162 rfl ⟨Nat.le_of_ble_eq_true rfl, Nat.le_of_ble_eq_true rfl⟩ ⟨Nat.le_of_ble_eq_true rfl, Nat.le_of_ble_eq_true rfl⟩ 4 0 rfl rfl rfl rfl (by decide) rfl rfl rfl rfl (Nat.le_of_ble_eq_true rfl) dX6_start_30 rfl ?_
  refine g_aload_n C dX6_start_33 rfl 0 rfl ?_
  refine g_getf C (T := TX6) (N := 5) 0 0 rfl rfl rfl inX6 0 (by decide) q1_192 rfl dX6_start_34 ?_
  refine g_getf C (T := TX0) (N := 17) 1 0 rfl rfl rfl inX0 4 (by decide) q1_46 rfl dX6_start_37 ?_
  refine g_iload_n C dX6_start_40 rfl 1 rfl ?_
  refine g_iconst C (v := 1) dX6_start_41 (by decide) ?_
  refine g_iastn C (w1 := wB E bo (sE β 0 a.toNatClampNeg 1)) (cs1 := [wX ax (bo 0) (tr 0) (ac 0) (ah 0) (at_ 0), wB E bo (sE β 0 a.toNatClampNeg 1), wB E tr τ, wC E ac γ, wH E ah bd ((fX3_save η σ β).1), wT E at_ θ, wB E (bd 2) ((fX3_save η σ β).2 2), wB E (bd 3) ((fX3_save η σ β).2 3), wB E (bd 4) ((fX3_save η σ β).2 4), wB E (bd 5) ((fX3_save η σ β).2 5), wB E (bd 6) ((fX3_save η σ β).2 6), wB E (bd 7) ((fX3_save η σ β).2 7), wB E (bd 8) ((fX3_save η σ β).2 8), wB E (bd 9) ((fX3_save η σ β).2 9)]) 1 1 a.toNatClampNeg rfl rfl hx_4.1 hx_4.2.1 (by decide) rfl rfl dX6_start_42 ?_
  have e_8 : fX6_start β η σ a = (.inr (), sE β 0 a.toNatClampNeg 1, (fX3_save η σ β).1, (fX3_save η σ β).2) := by rw [fX6_start]; rw [if_pos c_3, if_pos c_7]
  refine g_widen (k1 := 3) (n1 := 18) (Nat.le_of_ble_eq_true rfl) (Nat.le_of_ble_eq_true rfl) ?_
  exact g_vret C (gT_r hT (by rw [e_8] <;> rfl) (by rw [e_8] <;> rfl)) rfl rfl dX6_start_43
def fX6_submit (β : BS) (η : BS) (σ : Nat → BS) (a : Int32) : (String ⊕ Unit) × BS × BS × (Nat → BS) :=
  if (fX0_hasTicket β a) = true then (if (β.2 0 a.toNatClampNeg) = 1 then (.inr (), sE β 0 a.toNatClampNeg 2, (fX3_save η σ β).1, (fX3_save η σ β).2) else (.inl xIS, β, η, σ)) else (.inl xIO, β, η, σ)
theorem caX6_submit : gCalV yX6_submit cX6_submit 2 none 1 := ⟨⟨q4_135, q1_1, by decide +kernel⟩, q4_133, q4_134⟩
set_option maxHeartbeats 4000000 in
set_option maxRecDepth 100000 in
theorem kX6_submit (l : Launch) (E : gE) (ax : Nat) (bo : Nat → Nat) (β : BS) (tr : Nat → Nat) (τ : BS) (ac : Nat → Nat) (γ : BS) (ah : Nat → Nat) (bd : Nat → Nat → Nat) (η : BS) (σ : Nat → BS) (at_ : Nat → Nat) (θ : BS) (hlt : l.stackTraces = false) (hv : vB β) (hvh : vH η)  (a : Int32) : MX l E yX6_submit cX6_submit 2 none 3 18 7 102 [.ref ax, .int a] [wX ax (bo 0) (tr 0) (ac 0) (ah 0) (at_ 0), wB E bo β, wB E tr τ, wC E ac γ, wH E ah bd η, wT E at_ θ, wB E (bd 2) (σ 2), wB E (bd 3) (σ 3), wB E (bd 4) (σ 4), wB E (bd 5) (σ 5), wB E (bd 6) (σ 6), wB E (bd 7) (σ 7), wB E (bd 8) (σ 8), wB E (bd 9) (σ 9)] (Sum.map id (fun _ => none) (fX6_submit β η σ a).1) [wX ax (bo 0) (tr 0) (ac 0) (ah 0) (at_ 0), wB E bo ((fX6_submit β η σ a).2.1), wB E tr τ, wC E ac γ, wH E ah bd ((fX6_submit β η σ a).2.2.1), wT E at_ θ, wB E (bd 2) ((fX6_submit β η σ a).2.2.2 2), wB E (bd 3) ((fX6_submit β η σ a).2.2.2 3), wB E (bd 4) ((fX6_submit β η σ a).2.2.2 4), wB E (bd 5) ((fX6_submit β η σ a).2.2.2 5), wB E (bd 6) ((fX6_submit β η σ a).2.2.2 6), wB E (bd 7) ((fX6_submit β η σ a).2.2.2 7), wB E (bd 8) ((fX6_submit β η σ a).2.2.2 8), wB E (bd 9) ((fX6_submit β η σ a).2.2.2 9)] := by
  have hv1 : cnt β ≤ 20 := hv.1
  refine mx_of hlt (by decide +kernel) (Nat.le_of_ble_eq_true rfl) (lv := [(0, .ref ax), (1, .int a)]) rfl (fun X C hT => ?_)
  refine g_aload_n C dX6_submit_0 rfl 0 rfl ?_
  refine g_getf C (T := TX6) (N := 5) 0 0 rfl rfl rfl inX6 0 (by decide) q1_192 rfl dX6_submit_1 ?_
  refine g_iload_n C dX6_submit_4 rfl 1 rfl ?_
  refine g_callV C (cs1 := [wX ax (bo 0) (tr 0) (ac 0) (ah 0) (at_ 0), wB E bo β, wB E tr τ, wC E ac γ, wH E ah bd η, wT E at_ θ, wB E (bd 2) (σ 2), wB E (bd 3) (σ 3), wB E (bd 4) (σ 4), wB E (bd 5) (σ 5), wB E (bd 6) (σ 6), wB E (bd 7) (σ 7), wB E (bd 8) (σ 8), wB E (bd 9) (σ 9)]) (st1 := [.int (b2i (fX0_hasTicket β a))]) [.int a] [1] (kX0_hasTicket l E bo β a) caX0_hasTicket q3_191 rfl ⟨Nat.le_of_ble_eq_true rfl, Nat.le_of_ble_eq_true rfl⟩ ⟨Nat.le_of_ble_eq_true rfl, Nat.le_of_ble_eq_true rfl⟩ 1 0 rfl rfl rfl rfl (by decide) rfl rfl rfl rfl (Nat.le_of_ble_eq_true rfl) dX6_submit_5 rfl ?_
  have e_2 : (fX0_hasTicket β a) = false → fX6_submit β η σ a = (.inl xIO, β, η, σ) := fun c_1 => by rw [fX6_submit]; rw [if_neg (ne_true_of_eq_false c_1)]
  refine g_req (b := (fX0_hasTicket β a)) C hT (kX6_requireIndex l E hlt (fX0_hasTicket β a)) caX6_requireIndex q3_195 ⟨Nat.le_of_ble_eq_true rfl, Nat.le_of_ble_eq_true rfl⟩ ⟨Nat.le_of_ble_eq_true rfl, Nat.le_of_ble_eq_true rfl⟩ ⟨Nat.le_of_ble_eq_true rfl, Nat.le_of_ble_eq_true rfl⟩ (fun c => by rw [e_2 c]; exact ⟨rfl, rfl⟩) (Nat.le_of_ble_eq_true rfl) dX6_submit_8 (fun c_3 => ?_)
  have hx_4 := hasTicket_i hv c_3
  refine g_aload_n C dX6_submit_11 rfl 0 rfl ?_
  refine g_getf C (T := TX6) (N := 5) 0 0 rfl rfl rfl inX6 0 (by decide) q1_192 rfl dX6_submit_12 ?_
  refine g_getf C (T := TX0) (N := 17) 1 0 rfl rfl rfl inX0 4 (by decide) q1_46 rfl dX6_submit_15 ?_
  refine g_iload_n C dX6_submit_18 rfl 1 rfl ?_
  refine g_ialdn C 1 1 a.toNatClampNeg rfl rfl hx_4.1 hx_4.2.1 (by decide) dX6_submit_19 ?_
  refine g_iconst C (v := 1) dX6_submit_20 (by decide) ?_
  refine g_icmp_ne C 28 dX6_submit_21 (by decide) (fun c_5 => ?_) (fun c_5 => ?_)
  · skip
    refine g_iconst C (v := 0) dX6_submit_28 (by decide) ?_
    have e_7 : false = false → fX6_submit β η σ a = (.inl xIS, β, η, σ) := fun c_6 => by rw [fX6_submit]; rw [if_pos c_3, if_neg c_5]
    exact g_req (b := false) C hT (kX6_requireState l E hlt false) caX6_requireState q3_143 ⟨Nat.le_of_ble_eq_true rfl, Nat.le_of_ble_eq_true rfl⟩ ⟨Nat.le_of_ble_eq_true rfl, Nat.le_of_ble_eq_true rfl⟩ ⟨Nat.le_of_ble_eq_true rfl, Nat.le_of_ble_eq_true rfl⟩ (fun c => by rw [e_7 c]; exact ⟨rfl, rfl⟩) (Nat.le_of_ble_eq_true rfl) dX6_submit_29 (fun h => absurd h (by decide))
  · skip
    refine g_iconst C (v := 1) dX6_submit_24 (by decide) ?_
    refine g_goto C 29 dX6_submit_25 (by decide) ?_
    refine g_req (b := true) C hT (kX6_requireState l E hlt true) caX6_requireState q3_143 ⟨Nat.le_of_ble_eq_true rfl, Nat.le_of_ble_eq_true rfl⟩ ⟨Nat.le_of_ble_eq_true rfl, Nat.le_of_ble_eq_true rfl⟩ ⟨Nat.le_of_ble_eq_true rfl, Nat.le_of_ble_eq_true rfl⟩ (fun h => absurd h (by decide)) (Nat.le_of_ble_eq_true rfl) dX6_submit_29 (fun _ => ?_)
    refine g_aload_n C dX6_submit_32 rfl 0 rfl ?_
    refine g_getf C (T := TX6) (N := 5) 0 0 rfl rfl rfl inX6 3 (by decide) q1_195 rfl dX6_submit_33 ?_
    refine g_aload_n C dX6_submit_36 rfl 0 rfl ?_
    refine g_getf C (T := TX6) (N := 5) 0 0 rfl rfl rfl inX6 0 (by decide) q1_192 rfl dX6_submit_37 ?_
    refine g_callV C (cs1 := [wX ax (bo 0) (tr 0) (ac 0) (ah 0) (at_ 0), wB E bo β, wB E tr τ, wC E ac γ, wH E ah bd ((fX3_save η σ β).1), wT E at_ θ, wB E (bd 2) ((fX3_save η σ β).2 2), wB E (bd 3) ((fX3_save η σ β).2 3), wB E (bd 4) ((fX3_save η σ β).2 4), wB E (bd 5) ((fX3_save η σ β).2 5), wB E (bd 6) ((fX3_save η σ β).2 6), wB E (bd 7) ((fX3_save η σ β).2 7), wB E (bd 8) ((fX3_save η σ β).2 8), wB E (bd 9) ((fX3_save η σ β).2 9)]) (st1 := []) [.ref (bo 0)] [4, 6, 7, 8, 9, 10, 11, 12, 13, 1] (kX3_save l E ah bd η σ bo β hvh) caX3_save q3_162 rfl ⟨Nat.le_of_ble_eq_true rfl, Nat.le_of_ble_eq_true rfl⟩ ⟨Nat.le_of_ble_eq_true rfl, Nat.le_of_ble_eq_true rfl⟩ 4 0 rfl rfl rfl rfl (by decide) rfl rfl rfl rfl (Nat.le_of_ble_eq_true rfl) dX6_submit_40 rfl ?_
    refine g_aload_n C dX6_submit_43 rfl 0 rfl ?_
    refine g_getf C (T := TX6) (N := 5) 0 0 rfl rfl rfl inX6 0 (by decide) q1_192 rfl dX6_submit_44 ?_
    refine g_getf C (T := TX0) (N := 17) 1 0 rfl rfl rfl inX0 4 (by decide) q1_46 rfl dX6_submit_47 ?_
    refine g_iload_n C dX6_submit_50 rfl 1 rfl ?_
    refine g_iconst C (v := 2) dX6_submit_51 (by decide) ?_
    refine g_iastn C (w1 := wB E bo (sE β 0 a.toNatClampNeg 2)) (cs1 := [wX ax (bo 0) (tr 0) (ac 0) (ah 0) (at_ 0), wB E bo (sE β 0 a.toNatClampNeg 2), wB E tr τ, wC E ac γ, wH E ah bd ((fX3_save η σ β).1), wT E at_ θ, wB E (bd 2) ((fX3_save η σ β).2 2), wB E (bd 3) ((fX3_save η σ β).2 3), wB E (bd 4) ((fX3_save η σ β).2 4), wB E (bd 5) ((fX3_save η σ β).2 5), wB E (bd 6) ((fX3_save η σ β).2 6), wB E (bd 7) ((fX3_save η σ β).2 7), wB E (bd 8) ((fX3_save η σ β).2 8), wB E (bd 9) ((fX3_save η σ β).2 9)]) 1 1 a.toNatClampNeg rfl rfl hx_4.1 hx_4.2.1 (by decide) rfl rfl dX6_submit_52 ?_
    have e_10 : fX6_submit β η σ a = (.inr (), sE β 0 a.toNatClampNeg 2, (fX3_save η σ β).1, (fX3_save η σ β).2) := by rw [fX6_submit]; rw [if_pos c_3, if_pos c_5]
    refine g_widen (k1 := 3) (n1 := 18) (Nat.le_of_ble_eq_true rfl) (Nat.le_of_ble_eq_true rfl) ?_
    exact g_vret C (gT_r hT (by rw [e_10] <;> rfl) (by rw [e_10] <;> rfl)) rfl rfl dX6_submit_53
def fX6_sendBack (β : BS) (η : BS) (σ : Nat → BS) (a : Int32) : (String ⊕ Int32) × BS × BS × (Nat → BS) :=
  if (fX0_hasTicket β a) = true then (if (β.2 0 a.toNatClampNeg) = 2 then (.inr ((fX0_putBack β a.toNatClampNeg).1), (fX0_putBack β a.toNatClampNeg).2, (fX3_save η σ β).1, (fX3_save η σ β).2) else (.inl xIS, β, η, σ)) else (.inl xIO, β, η, σ)
theorem caX6_sendBack : gCalV yX6_sendBack cX6_sendBack 2 (some .int) 1 := ⟨⟨q4_142, q1_1, by decide +kernel⟩, q4_140, q4_141⟩
set_option maxHeartbeats 4000000 in
set_option maxRecDepth 100000 in
theorem kX6_sendBack (l : Launch) (E : gE) (ax : Nat) (bo : Nat → Nat) (β : BS) (tr : Nat → Nat) (τ : BS) (ac : Nat → Nat) (γ : BS) (ah : Nat → Nat) (bd : Nat → Nat → Nat) (η : BS) (σ : Nat → BS) (at_ : Nat → Nat) (θ : BS) (hlt : l.stackTraces = false) (hv : vB β) (hvh : vH η)  (a : Int32) : MX l E yX6_sendBack cX6_sendBack 2 (some .int) 3 18 7 102 [.ref ax, .int a] [wX ax (bo 0) (tr 0) (ac 0) (ah 0) (at_ 0), wB E bo β, wB E tr τ, wC E ac γ, wH E ah bd η, wT E at_ θ, wB E (bd 2) (σ 2), wB E (bd 3) (σ 3), wB E (bd 4) (σ 4), wB E (bd 5) (σ 5), wB E (bd 6) (σ 6), wB E (bd 7) (σ 7), wB E (bd 8) (σ 8), wB E (bd 9) (σ 9)] (Sum.map id (fun v => some (.int v)) (fX6_sendBack β η σ a).1) [wX ax (bo 0) (tr 0) (ac 0) (ah 0) (at_ 0), wB E bo ((fX6_sendBack β η σ a).2.1), wB E tr τ, wC E ac γ, wH E ah bd ((fX6_sendBack β η σ a).2.2.1), wT E at_ θ, wB E (bd 2) ((fX6_sendBack β η σ a).2.2.2 2), wB E (bd 3) ((fX6_sendBack β η σ a).2.2.2 3), wB E (bd 4) ((fX6_sendBack β η σ a).2.2.2 4), wB E (bd 5) ((fX6_sendBack β η σ a).2.2.2 5), wB E (bd 6) ((fX6_sendBack β η σ a).2.2.2 6), wB E (bd 7) ((fX6_sendBack β η σ a).2.2.2 7), wB E (bd 8) ((fX6_sendBack β η σ a).2.2.2 8), wB E (bd 9) ((fX6_sendBack β η σ a).2.2.2 9)] := by
  have hv1 : cnt β ≤ 20 := hv.1
  refine mx_of hlt (by decide +kernel) (Nat.le_of_ble_eq_true rfl) (lv := [(0, .ref ax), (1, .int a)]) rfl (fun X C hT => ?_)
  refine g_aload_n C dX6_sendBack_0 rfl 0 rfl ?_
  refine g_getf C (T := TX6) (N := 5) 0 0 rfl rfl rfl inX6 0 (by decide) q1_192 rfl dX6_sendBack_1 ?_
  refine g_iload_n C dX6_sendBack_4 rfl 1 rfl ?_
  refine g_callV C (cs1 := [wX ax (bo 0) (tr 0) (ac 0) (ah 0) (at_ 0), wB E bo β, wB E tr τ, wC E ac γ, wH E ah bd η, wT E at_ θ, wB E (bd 2) (σ 2), wB E (bd 3) (σ 3), wB E (bd 4) (σ 4), wB E (bd 5) (σ 5), wB E (bd 6) (σ 6), wB E (bd 7) (σ 7), wB E (bd 8) (σ 8), wB E (bd 9) (σ 9)]) (st1 := [.int (b2i (fX0_hasTicket β a))]) [.int a] [1] (kX0_hasTicket l E bo β a) caX0_hasTicket q3_191 rfl ⟨Nat.le_of_ble_eq_true rfl, Nat.le_of_ble_eq_true rfl⟩ ⟨Nat.le_of_ble_eq_true rfl, Nat.le_of_ble_eq_true rfl⟩ 1 0 rfl rfl rfl rfl (by decide) rfl rfl rfl rfl (Nat.le_of_ble_eq_true rfl) dX6_sendBack_5 rfl ?_
  have e_2 : (fX0_hasTicket β a) = false → fX6_sendBack β η σ a = (.inl xIO, β, η, σ) := fun c_1 => by rw [fX6_sendBack]; rw [if_neg (ne_true_of_eq_false c_1)]
  refine g_req (b := (fX0_hasTicket β a)) C hT (kX6_requireIndex l E hlt (fX0_hasTicket β a)) caX6_requireIndex q3_195 ⟨Nat.le_of_ble_eq_true rfl, Nat.le_of_ble_eq_true rfl⟩ ⟨Nat.le_of_ble_eq_true rfl, Nat.le_of_ble_eq_true rfl⟩ ⟨Nat.le_of_ble_eq_true rfl, Nat.le_of_ble_eq_true rfl⟩ (fun c => by rw [e_2 c]; exact ⟨rfl, rfl⟩) (Nat.le_of_ble_eq_true rfl) dX6_sendBack_8 (fun c_3 => ?_)
  have hx_4 := hasTicket_i hv c_3
  refine g_aload_n C dX6_sendBack_11 rfl 0 rfl ?_
  refine g_getf C (T := TX6) (N := 5) 0 0 rfl rfl rfl inX6 0 (by decide) q1_192 rfl dX6_sendBack_12 ?_
  refine g_getf C (T := TX0) (N := 17) 1 0 rfl rfl rfl inX0 4 (by decide) q1_46 rfl dX6_sendBack_15 ?_
  refine g_iload_n C dX6_sendBack_18 rfl 1 rfl ?_
  refine g_ialdn C 1 1 a.toNatClampNeg rfl rfl hx_4.1 hx_4.2.1 (by decide) dX6_sendBack_19 ?_
  refine g_iconst C (v := 2) dX6_sendBack_20 (by decide) ?_
  refine g_icmp_ne C 28 dX6_sendBack_21 (by decide) (fun c_5 => ?_) (fun c_5 => ?_)
  · skip
    refine g_iconst C (v := 0) dX6_sendBack_28 (by decide) ?_
    have e_7 : false = false → fX6_sendBack β η σ a = (.inl xIS, β, η, σ) := fun c_6 => by rw [fX6_sendBack]; rw [if_pos c_3, if_neg c_5]
    exact g_req (b := false) C hT (kX6_requireState l E hlt false) caX6_requireState q3_143 ⟨Nat.le_of_ble_eq_true rfl, Nat.le_of_ble_eq_true rfl⟩ ⟨Nat.le_of_ble_eq_true rfl, Nat.le_of_ble_eq_true rfl⟩ ⟨Nat.le_of_ble_eq_true rfl, Nat.le_of_ble_eq_true rfl⟩ (fun c => by rw [e_7 c]; exact ⟨rfl, rfl⟩) (Nat.le_of_ble_eq_true rfl) dX6_sendBack_29 (fun h => absurd h (by decide))
  · skip
    refine g_iconst C (v := 1) dX6_sendBack_24 (by decide) ?_
    refine g_goto C 29 dX6_sendBack_25 (by decide) ?_
    refine g_req (b := true) C hT (kX6_requireState l E hlt true) caX6_requireState q3_143 ⟨Nat.le_of_ble_eq_true rfl, Nat.le_of_ble_eq_true rfl⟩ ⟨Nat.le_of_ble_eq_true rfl, Nat.le_of_ble_eq_true rfl⟩ ⟨Nat.le_of_ble_eq_true rfl, Nat.le_of_ble_eq_true rfl⟩ (fun h => absurd h (by decide)) (Nat.le_of_ble_eq_true rfl) dX6_sendBack_29 (fun _ => ?_)
    refine g_aload_n C dX6_sendBack_32 rfl 0 rfl ?_
    refine g_getf C (T := TX6) (N := 5) 0 0 rfl rfl rfl inX6 3 (by decide) q1_195 rfl dX6_sendBack_33 ?_
    refine g_aload_n C dX6_sendBack_36 rfl 0 rfl ?_
    refine g_getf C (T := TX6) (N := 5) 0 0 rfl rfl rfl inX6 0 (by decide) q1_192 rfl dX6_sendBack_37 ?_
    refine g_callV C (cs1 := [wX ax (bo 0) (tr 0) (ac 0) (ah 0) (at_ 0), wB E bo β, wB E tr τ, wC E ac γ, wH E ah bd ((fX3_save η σ β).1), wT E at_ θ, wB E (bd 2) ((fX3_save η σ β).2 2), wB E (bd 3) ((fX3_save η σ β).2 3), wB E (bd 4) ((fX3_save η σ β).2 4), wB E (bd 5) ((fX3_save η σ β).2 5), wB E (bd 6) ((fX3_save η σ β).2 6), wB E (bd 7) ((fX3_save η σ β).2 7), wB E (bd 8) ((fX3_save η σ β).2 8), wB E (bd 9) ((fX3_save η σ β).2 9)]) (st1 := []) [.ref (bo 0)] [4, 6, 7, 8, 9, 10, 11, 12, 13, 1] (kX3_save l E ah bd η σ bo β hvh) caX3_save q3_162 rfl ⟨Nat.le_of_ble_eq_true rfl, Nat.le_of_ble_eq_true rfl⟩ ⟨Nat.le_of_ble_eq_true rfl, Nat.le_of_ble_eq_true rfl⟩ 4 0 rfl rfl rfl rfl (by decide) rfl rfl rfl rfl (Nat.le_of_ble_eq_true rfl) dX6_sendBack_40 rfl ?_
    refine g_aload_n C dX6_sendBack_43 rfl 0 rfl ?_
    refine g_getf C (T := TX6) (N := 5) 0 0 rfl rfl rfl inX6 0 (by decide) q1_192 rfl dX6_sendBack_44 ?_
    refine g_iload_n C dX6_sendBack_47 rfl 1 rfl ?_
    refine g_st (st1 := [.int (nI a.toNatClampNeg), .ref (bo 0)]) (by rw [← hx_4.1]) ?_
    refine g_callV C (cs1 := [wX ax (bo 0) (tr 0) (ac 0) (ah 0) (at_ 0), wB E bo ((fX0_putBack β a.toNatClampNeg).2), wB E tr τ, wC E ac γ, wH E ah bd ((fX3_save η σ β).1), wT E at_ θ, wB E (bd 2) ((fX3_save η σ β).2 2), wB E (bd 3) ((fX3_save η σ β).2 3), wB E (bd 4) ((fX3_save η σ β).2 4), wB E (bd 5) ((fX3_save η σ β).2 5), wB E (bd 6) ((fX3_save η σ β).2 6), wB E (bd 7) ((fX3_save η σ β).2 7), wB E (bd 8) ((fX3_save η σ β).2 8), wB E (bd 9) ((fX3_save η σ β).2 9)]) (st1 := [.int ((fX0_putBack β a.toNatClampNeg).1)]) [.int (nI a.toNatClampNeg)] [1] (kX0_putBack l E bo β a.toNatClampNeg hx_4.2.1) caX0_putBack q4_143 rfl ⟨Nat.le_of_ble_eq_true rfl, Nat.le_of_ble_eq_true rfl⟩ ⟨Nat.le_of_ble_eq_true rfl, Nat.le_of_ble_eq_true rfl⟩ 1 0 rfl rfl rfl rfl (by decide) rfl rfl rfl rfl (Nat.le_of_ble_eq_true rfl) dX6_sendBack_48 rfl ?_
    have e_10 : fX6_sendBack β η σ a = (.inr ((fX0_putBack β a.toNatClampNeg).1), (fX0_putBack β a.toNatClampNeg).2, (fX3_save η σ β).1, (fX3_save η σ β).2) := by rw [fX6_sendBack]; rw [if_pos c_3, if_pos c_5]
    refine g_widen (k1 := 3) (n1 := 18) (Nat.le_of_ble_eq_true rfl) (Nat.le_of_ble_eq_true rfl) ?_
    exact g_iret C (gT_r hT (by rw [e_10] <;> rfl) (by rw [e_10] <;> rfl)) rfl rfl dX6_sendBack_51
def fX6_close (β : BS) (η : BS) (σ : Nat → BS) (a : Int32) : (String ⊕ Int32) × BS × BS × (Nat → BS) :=
  if (fX0_hasTicket β a) = true then (if (fX0_canClose β a.toNatClampNeg) = true then (.inr (fJ6_bitCount_0f7a4 ((fX0_blockedSet β) &&& ((fX0_blockedSet (fX0_finish β a.toNatClampNeg)) ^^^ (-1)))), (fX0_finish β a.toNatClampNeg), (fX3_save η σ β).1, (fX3_save η σ β).2) else (.inl xIS, β, η, σ)) else (.inl xIO, β, η, σ)
theorem caX6_close : gCalV yX6_close cX6_close 3 (some .int) 1 := ⟨⟨q4_153, q1_1, by decide +kernel⟩, q4_151, q4_152⟩
set_option maxHeartbeats 4000000 in
set_option maxRecDepth 100000 in
theorem kX6_close (l : Launch) (E : gE) (ax : Nat) (bo : Nat → Nat) (β : BS) (tr : Nat → Nat) (τ : BS) (ac : Nat → Nat) (γ : BS) (ah : Nat → Nat) (bd : Nat → Nat → Nat) (η : BS) (σ : Nat → BS) (at_ : Nat → Nat) (θ : BS) (hlt : l.stackTraces = false) (hv : vB β) (hvh : vH η)  (a : Int32) : MX l E yX6_close cX6_close 3 (some .int) 3 18 7 102 [.ref ax, .int a] [wX ax (bo 0) (tr 0) (ac 0) (ah 0) (at_ 0), wB E bo β, wB E tr τ, wC E ac γ, wH E ah bd η, wT E at_ θ, wB E (bd 2) (σ 2), wB E (bd 3) (σ 3), wB E (bd 4) (σ 4), wB E (bd 5) (σ 5), wB E (bd 6) (σ 6), wB E (bd 7) (σ 7), wB E (bd 8) (σ 8), wB E (bd 9) (σ 9)] (Sum.map id (fun v => some (.int v)) (fX6_close β η σ a).1) [wX ax (bo 0) (tr 0) (ac 0) (ah 0) (at_ 0), wB E bo ((fX6_close β η σ a).2.1), wB E tr τ, wC E ac γ, wH E ah bd ((fX6_close β η σ a).2.2.1), wT E at_ θ, wB E (bd 2) ((fX6_close β η σ a).2.2.2 2), wB E (bd 3) ((fX6_close β η σ a).2.2.2 3), wB E (bd 4) ((fX6_close β η σ a).2.2.2 4), wB E (bd 5) ((fX6_close β η σ a).2.2.2 5), wB E (bd 6) ((fX6_close β η σ a).2.2.2 6), wB E (bd 7) ((fX6_close β η σ a).2.2.2 7), wB E (bd 8) ((fX6_close β η σ a).2.2.2 8), wB E (bd 9) ((fX6_close β η σ a).2.2.2 9)] := by
  have hv1 : cnt β ≤ 20 := hv.1
  refine mx_of hlt (by decide +kernel) (Nat.le_of_ble_eq_true rfl) (lv := [(0, .ref ax), (1, .int a)]) rfl (fun X C hT => ?_)
  refine g_aload_n C dX6_close_0 rfl 0 rfl ?_
  refine g_getf C (T := TX6) (N := 5) 0 0 rfl rfl rfl inX6 0 (by decide) q1_192 rfl dX6_close_1 ?_
  refine g_iload_n C dX6_close_4 rfl 1 rfl ?_
  refine g_callV C (cs1 := [wX ax (bo 0) (tr 0) (ac 0) (ah 0) (at_ 0), wB E bo β, wB E tr τ, wC E ac γ, wH E ah bd η, wT E at_ θ, wB E (bd 2) (σ 2), wB E (bd 3) (σ 3), wB E (bd 4) (σ 4), wB E (bd 5) (σ 5), wB E (bd 6) (σ 6), wB E (bd 7) (σ 7), wB E (bd 8) (σ 8), wB E (bd 9) (σ 9)]) (st1 := [.int (b2i (fX0_hasTicket β a))]) [.int a] [1] (kX0_hasTicket l E bo β a) caX0_hasTicket q3_191 rfl ⟨Nat.le_of_ble_eq_true rfl, Nat.le_of_ble_eq_true rfl⟩ ⟨Nat.le_of_ble_eq_true rfl, Nat.le_of_ble_eq_true rfl⟩ 1 0 rfl rfl rfl rfl (by decide) rfl rfl rfl rfl (Nat.le_of_ble_eq_true rfl) dX6_close_5 rfl ?_
  have e_2 : (fX0_hasTicket β a) = false → fX6_close β η σ a = (.inl xIO, β, η, σ) := fun c_1 => by rw [fX6_close]; rw [if_neg (ne_true_of_eq_false c_1)]
  refine g_req (b := (fX0_hasTicket β a)) C hT (kX6_requireIndex l E hlt (fX0_hasTicket β a)) caX6_requireIndex q3_195 ⟨Nat.le_of_ble_eq_true rfl, Nat.le_of_ble_eq_true rfl⟩ ⟨Nat.le_of_ble_eq_true rfl, Nat.le_of_ble_eq_true rfl⟩ ⟨Nat.le_of_ble_eq_true rfl, Nat.le_of_ble_eq_true rfl⟩ (fun c => by rw [e_2 c]; exact ⟨rfl, rfl⟩) (Nat.le_of_ble_eq_true rfl) dX6_close_8 (fun c_3 => ?_)
  have hx_4 := hasTicket_i hv c_3
  refine g_aload_n C dX6_close_11 rfl 0 rfl ?_
  refine g_getf C (T := TX6) (N := 5) 0 0 rfl rfl rfl inX6 0 (by decide) q1_192 rfl dX6_close_12 ?_
  refine g_iload_n C dX6_close_15 rfl 1 rfl ?_
  refine g_st (st1 := [.int (nI a.toNatClampNeg), .ref (bo 0)]) (by rw [← hx_4.1]) ?_
  refine g_callV C (cs1 := [wX ax (bo 0) (tr 0) (ac 0) (ah 0) (at_ 0), wB E bo β, wB E tr τ, wC E ac γ, wH E ah bd η, wT E at_ θ, wB E (bd 2) (σ 2), wB E (bd 3) (σ 3), wB E (bd 4) (σ 4), wB E (bd 5) (σ 5), wB E (bd 6) (σ 6), wB E (bd 7) (σ 7), wB E (bd 8) (σ 8), wB E (bd 9) (σ 9)]) (st1 := [.int (b2i (fX0_canClose β a.toNatClampNeg))]) [.int (nI a.toNatClampNeg)] [1] (kX0_canClose l E bo β hv a.toNatClampNeg hx_4.2.1) caX0_canClose q4_154 rfl ⟨Nat.le_of_ble_eq_true rfl, Nat.le_of_ble_eq_true rfl⟩ ⟨Nat.le_of_ble_eq_true rfl, Nat.le_of_ble_eq_true rfl⟩ 1 0 rfl rfl rfl rfl (by decide) rfl rfl rfl rfl (Nat.le_of_ble_eq_true rfl) dX6_close_16 rfl ?_
  have e_6 : (fX0_canClose β a.toNatClampNeg) = false → fX6_close β η σ a = (.inl xIS, β, η, σ) := fun c_5 => by rw [fX6_close]; rw [if_pos c_3, if_neg (ne_true_of_eq_false c_5)]
  refine g_req (b := (fX0_canClose β a.toNatClampNeg)) C hT (kX6_requireState l E hlt (fX0_canClose β a.toNatClampNeg)) caX6_requireState q3_143 ⟨Nat.le_of_ble_eq_true rfl, Nat.le_of_ble_eq_true rfl⟩ ⟨Nat.le_of_ble_eq_true rfl, Nat.le_of_ble_eq_true rfl⟩ ⟨Nat.le_of_ble_eq_true rfl, Nat.le_of_ble_eq_true rfl⟩ (fun c => by rw [e_6 c]; exact ⟨rfl, rfl⟩) (Nat.le_of_ble_eq_true rfl) dX6_close_19 (fun c_7 => ?_)
  refine g_aload_n C dX6_close_22 rfl 0 rfl ?_
  refine g_getf C (T := TX6) (N := 5) 0 0 rfl rfl rfl inX6 3 (by decide) q1_195 rfl dX6_close_23 ?_
  refine g_aload_n C dX6_close_26 rfl 0 rfl ?_
  refine g_getf C (T := TX6) (N := 5) 0 0 rfl rfl rfl inX6 0 (by decide) q1_192 rfl dX6_close_27 ?_
  refine g_callV C (cs1 := [wX ax (bo 0) (tr 0) (ac 0) (ah 0) (at_ 0), wB E bo β, wB E tr τ, wC E ac γ, wH E ah bd ((fX3_save η σ β).1), wT E at_ θ, wB E (bd 2) ((fX3_save η σ β).2 2), wB E (bd 3) ((fX3_save η σ β).2 3), wB E (bd 4) ((fX3_save η σ β).2 4), wB E (bd 5) ((fX3_save η σ β).2 5), wB E (bd 6) ((fX3_save η σ β).2 6), wB E (bd 7) ((fX3_save η σ β).2 7), wB E (bd 8) ((fX3_save η σ β).2 8), wB E (bd 9) ((fX3_save η σ β).2 9)]) (st1 := []) [.ref (bo 0)] [4, 6, 7, 8, 9, 10, 11, 12, 13, 1] (kX3_save l E ah bd η σ bo β hvh) caX3_save q3_162 rfl ⟨Nat.le_of_ble_eq_true rfl, Nat.le_of_ble_eq_true rfl⟩ ⟨Nat.le_of_ble_eq_true rfl, Nat.le_of_ble_eq_true rfl⟩ 4 0 rfl rfl rfl rfl (by decide) rfl rfl rfl rfl (Nat.le_of_ble_eq_true rfl) dX6_close_30 rfl ?_
  refine g_aload_n C dX6_close_33 rfl 0 rfl ?_
  refine g_getf C (T := TX6) (N := 5) 0 0 rfl rfl rfl inX6 0 (by decide) q1_192 rfl dX6_close_34 ?_
  refine g_callV C (cs1 := [wX ax (bo 0) (tr 0) (ac 0) (ah 0) (at_ 0), wB E bo β, wB E tr τ, wC E ac γ, wH E ah bd ((fX3_save η σ β).1), wT E at_ θ, wB E (bd 2) ((fX3_save η σ β).2 2), wB E (bd 3) ((fX3_save η σ β).2 3), wB E (bd 4) ((fX3_save η σ β).2 4), wB E (bd 5) ((fX3_save η σ β).2 5), wB E (bd 6) ((fX3_save η σ β).2 6), wB E (bd 7) ((fX3_save η σ β).2 7), wB E (bd 8) ((fX3_save η σ β).2 8), wB E (bd 9) ((fX3_save η σ β).2 9)]) (st1 := [.int (fX0_blockedSet β)]) [] [1] (kX0_blockedSet l E bo β hv) caX0_blockedSet q4_159 rfl ⟨Nat.le_of_ble_eq_true rfl, Nat.le_of_ble_eq_true rfl⟩ ⟨Nat.le_of_ble_eq_true rfl, Nat.le_of_ble_eq_true rfl⟩ 1 0 rfl rfl rfl rfl (by decide) rfl rfl rfl rfl (Nat.le_of_ble_eq_true rfl) dX6_close_37 rfl ?_
  refine g_istore_n C (lv1 := [(2, .int (fX0_blockedSet β)), (0, .ref ax), (1, .int a)]) dX6_close_40 rfl (by decide) rfl ?_
  refine g_aload_n C dX6_close_41 rfl 1 rfl ?_
  refine g_getf C (T := TX6) (N := 5) 0 0 rfl rfl rfl inX6 0 (by decide) q1_192 rfl dX6_close_42 ?_
  refine g_iload_n C dX6_close_45 rfl 2 rfl ?_
  refine g_st (st1 := [.int (nI a.toNatClampNeg), .ref (bo 0)]) (by rw [← hx_4.1]) ?_
  refine g_callV C (cs1 := [wX ax (bo 0) (tr 0) (ac 0) (ah 0) (at_ 0), wB E bo (fX0_finish β a.toNatClampNeg), wB E tr τ, wC E ac γ, wH E ah bd ((fX3_save η σ β).1), wT E at_ θ, wB E (bd 2) ((fX3_save η σ β).2 2), wB E (bd 3) ((fX3_save η σ β).2 3), wB E (bd 4) ((fX3_save η σ β).2 4), wB E (bd 5) ((fX3_save η σ β).2 5), wB E (bd 6) ((fX3_save η σ β).2 6), wB E (bd 7) ((fX3_save η σ β).2 7), wB E (bd 8) ((fX3_save η σ β).2 8), wB E (bd 9) ((fX3_save η σ β).2 9)]) (st1 := []) [.int (nI a.toNatClampNeg)] [1] (kX0_finish l E bo β hv a.toNatClampNeg hx_4.2.1) caX0_finish q4_160 rfl ⟨Nat.le_of_ble_eq_true rfl, Nat.le_of_ble_eq_true rfl⟩ ⟨Nat.le_of_ble_eq_true rfl, Nat.le_of_ble_eq_true rfl⟩ 1 0 rfl rfl rfl rfl (by decide) rfl rfl rfl rfl (Nat.le_of_ble_eq_true rfl) dX6_close_46 rfl ?_
  refine g_iload_n C dX6_close_49 rfl 0 rfl ?_
  refine g_aload_n C dX6_close_50 rfl 1 rfl ?_
  refine g_getf C (T := TX6) (N := 5) 0 0 rfl rfl rfl inX6 0 (by decide) q1_192 rfl dX6_close_51 ?_
  refine g_callV C (cs1 := [wX ax (bo 0) (tr 0) (ac 0) (ah 0) (at_ 0), wB E bo (fX0_finish β a.toNatClampNeg), wB E tr τ, wC E ac γ, wH E ah bd ((fX3_save η σ β).1), wT E at_ θ, wB E (bd 2) ((fX3_save η σ β).2 2), wB E (bd 3) ((fX3_save η σ β).2 3), wB E (bd 4) ((fX3_save η σ β).2 4), wB E (bd 5) ((fX3_save η σ β).2 5), wB E (bd 6) ((fX3_save η σ β).2 6), wB E (bd 7) ((fX3_save η σ β).2 7), wB E (bd 8) ((fX3_save η σ β).2 8), wB E (bd 9) ((fX3_save η σ β).2 9)]) (st1 := [.int (fX0_blockedSet (fX0_finish β a.toNatClampNeg)), .int (fX0_blockedSet β)]) [] [1] (kX0_blockedSet l E bo (fX0_finish β a.toNatClampNeg) (vB_finish hv)) caX0_blockedSet q4_159 rfl ⟨Nat.le_of_ble_eq_true rfl, Nat.le_of_ble_eq_true rfl⟩ ⟨Nat.le_of_ble_eq_true rfl, Nat.le_of_ble_eq_true rfl⟩ 1 0 rfl rfl rfl rfl (by decide) rfl rfl rfl rfl (Nat.le_of_ble_eq_true rfl) dX6_close_54 rfl ?_
  refine g_iconst C (v := -1) dX6_close_57 (by decide) ?_
  refine g_ixor C dX6_close_58 ?_
  refine g_iand C dX6_close_59 ?_
  refine g_callS C (cs1 := [wX ax (bo 0) (tr 0) (ac 0) (ah 0) (at_ 0), wB E bo (fX0_finish β a.toNatClampNeg), wB E tr τ, wC E ac γ, wH E ah bd ((fX3_save η σ β).1), wT E at_ θ, wB E (bd 2) ((fX3_save η σ β).2 2), wB E (bd 3) ((fX3_save η σ β).2 3), wB E (bd 4) ((fX3_save η σ β).2 4), wB E (bd 5) ((fX3_save η σ β).2 5), wB E (bd 6) ((fX3_save η σ β).2 6), wB E (bd 7) ((fX3_save η σ β).2 7), wB E (bd 8) ((fX3_save η σ β).2 8), wB E (bd 9) ((fX3_save η σ β).2 9)]) (st1 := [.int (fJ6_bitCount_0f7a4 ((fX0_blockedSet β) &&& ((fX0_blockedSet (fX0_finish β a.toNatClampNeg)) ^^^ (-1))))]) [.int ((fX0_blockedSet β) &&& ((fX0_blockedSet (fX0_finish β a.toNatClampNeg)) ^^^ (-1)))] [] (kJ6_bitCount_0f7a4 l E ((fX0_blockedSet β) &&& ((fX0_blockedSet (fX0_finish β a.toNatClampNeg)) ^^^ (-1)))) caJ6_bitCount_0f7a4 q2_191 rfl ⟨Nat.le_of_ble_eq_true rfl, Nat.le_of_ble_eq_true rfl⟩ ⟨Nat.le_of_ble_eq_true rfl, Nat.le_of_ble_eq_true rfl⟩ (by decide) rfl rfl rfl rfl (Nat.le_of_ble_eq_true rfl) dX6_close_60 rfl ?_
  have e_8 : fX6_close β η σ a = (.inr (fJ6_bitCount_0f7a4 ((fX0_blockedSet β) &&& ((fX0_blockedSet (fX0_finish β a.toNatClampNeg)) ^^^ (-1)))), (fX0_finish β a.toNatClampNeg), (fX3_save η σ β).1, (fX3_save η σ β).2) := by rw [fX6_close]; rw [if_pos c_3, if_pos c_7]
  refine g_widen (k1 := 3) (n1 := 18) (Nat.le_of_ble_eq_true rfl) (Nat.le_of_ble_eq_true rfl) ?_
  exact g_iret C (gT_r hT (by rw [e_8] <;> rfl) (by rw [e_8] <;> rfl)) rfl rfl dX6_close_63
def fX6_reopen (β : BS) (η : BS) (σ : Nat → BS) (a : Int32) : (String ⊕ Int32) × BS × BS × (Nat → BS) :=
  if (fX0_hasTicket β a) = true then (if (fX0_canReopen β a.toNatClampNeg) = true then (.inr (fJ6_bitCount_0f7a4 ((fX0_blockedSet (fX0_openAgain β a.toNatClampNeg)) &&& ((fX0_blockedSet β) ^^^ (-1)))), (fX0_openAgain β a.toNatClampNeg), (fX3_save η σ β).1, (fX3_save η σ β).2) else (.inl xIS, β, η, σ)) else (.inl xIO, β, η, σ)
theorem caX6_reopen : gCalV yX6_reopen cX6_reopen 3 (some .int) 1 := ⟨⟨q4_174, q1_1, by decide +kernel⟩, q4_172, q4_173⟩
set_option maxHeartbeats 4000000 in
set_option maxRecDepth 100000 in
theorem kX6_reopen (l : Launch) (E : gE) (ax : Nat) (bo : Nat → Nat) (β : BS) (tr : Nat → Nat) (τ : BS) (ac : Nat → Nat) (γ : BS) (ah : Nat → Nat) (bd : Nat → Nat → Nat) (η : BS) (σ : Nat → BS) (at_ : Nat → Nat) (θ : BS) (hlt : l.stackTraces = false) (hv : vB β) (hvh : vH η)  (a : Int32) : MX l E yX6_reopen cX6_reopen 3 (some .int) 3 18 7 102 [.ref ax, .int a] [wX ax (bo 0) (tr 0) (ac 0) (ah 0) (at_ 0), wB E bo β, wB E tr τ, wC E ac γ, wH E ah bd η, wT E at_ θ, wB E (bd 2) (σ 2), wB E (bd 3) (σ 3), wB E (bd 4) (σ 4), wB E (bd 5) (σ 5), wB E (bd 6) (σ 6), wB E (bd 7) (σ 7), wB E (bd 8) (σ 8), wB E (bd 9) (σ 9)] (Sum.map id (fun v => some (.int v)) (fX6_reopen β η σ a).1) [wX ax (bo 0) (tr 0) (ac 0) (ah 0) (at_ 0), wB E bo ((fX6_reopen β η σ a).2.1), wB E tr τ, wC E ac γ, wH E ah bd ((fX6_reopen β η σ a).2.2.1), wT E at_ θ, wB E (bd 2) ((fX6_reopen β η σ a).2.2.2 2), wB E (bd 3) ((fX6_reopen β η σ a).2.2.2 3), wB E (bd 4) ((fX6_reopen β η σ a).2.2.2 4), wB E (bd 5) ((fX6_reopen β η σ a).2.2.2 5), wB E (bd 6) ((fX6_reopen β η σ a).2.2.2 6), wB E (bd 7) ((fX6_reopen β η σ a).2.2.2 7), wB E (bd 8) ((fX6_reopen β η σ a).2.2.2 8), wB E (bd 9) ((fX6_reopen β η σ a).2.2.2 9)] := by
  have hv1 : cnt β ≤ 20 := hv.1
  refine mx_of hlt (by decide +kernel) (Nat.le_of_ble_eq_true rfl) (lv := [(0, .ref ax), (1, .int a)]) rfl (fun X C hT => ?_)
  refine g_aload_n C dX6_reopen_0 rfl 0 rfl ?_
  refine g_getf C (T := TX6) (N := 5) 0 0 rfl rfl rfl inX6 0 (by decide) q1_192 rfl dX6_reopen_1 ?_
  refine g_iload_n C dX6_reopen_4 rfl 1 rfl ?_
  refine g_callV C (cs1 := [wX ax (bo 0) (tr 0) (ac 0) (ah 0) (at_ 0), wB E bo β, wB E tr τ, wC E ac γ, wH E ah bd η, wT E at_ θ, wB E (bd 2) (σ 2), wB E (bd 3) (σ 3), wB E (bd 4) (σ 4), wB E (bd 5) (σ 5), wB E (bd 6) (σ 6), wB E (bd 7) (σ 7), wB E (bd 8) (σ 8), wB E (bd 9) (σ 9)]) (st1 := [.int (b2i (fX0_hasTicket β a))]) [.int a] [1] (kX0_hasTicket l E bo β a) caX0_hasTicket q3_191 rfl ⟨Nat.le_of_ble_eq_true rfl, Nat.le_of_ble_eq_true rfl⟩ ⟨Nat.le_of_ble_eq_true rfl, Nat.le_of_ble_eq_true rfl⟩ 1 0 rfl rfl rfl rfl (by decide) rfl rfl rfl rfl (Nat.le_of_ble_eq_true rfl) dX6_reopen_5 rfl ?_
  have e_2 : (fX0_hasTicket β a) = false → fX6_reopen β η σ a = (.inl xIO, β, η, σ) := fun c_1 => by rw [fX6_reopen]; rw [if_neg (ne_true_of_eq_false c_1)]
  refine g_req (b := (fX0_hasTicket β a)) C hT (kX6_requireIndex l E hlt (fX0_hasTicket β a)) caX6_requireIndex q3_195 ⟨Nat.le_of_ble_eq_true rfl, Nat.le_of_ble_eq_true rfl⟩ ⟨Nat.le_of_ble_eq_true rfl, Nat.le_of_ble_eq_true rfl⟩ ⟨Nat.le_of_ble_eq_true rfl, Nat.le_of_ble_eq_true rfl⟩ (fun c => by rw [e_2 c]; exact ⟨rfl, rfl⟩) (Nat.le_of_ble_eq_true rfl) dX6_reopen_8 (fun c_3 => ?_)
  have hx_4 := hasTicket_i hv c_3
  refine g_aload_n C dX6_reopen_11 rfl 0 rfl ?_
  refine g_getf C (T := TX6) (N := 5) 0 0 rfl rfl rfl inX6 0 (by decide) q1_192 rfl dX6_reopen_12 ?_
  refine g_iload_n C dX6_reopen_15 rfl 1 rfl ?_
  refine g_st (st1 := [.int (nI a.toNatClampNeg), .ref (bo 0)]) (by rw [← hx_4.1]) ?_
  refine g_callV C (cs1 := [wX ax (bo 0) (tr 0) (ac 0) (ah 0) (at_ 0), wB E bo β, wB E tr τ, wC E ac γ, wH E ah bd η, wT E at_ θ, wB E (bd 2) (σ 2), wB E (bd 3) (σ 3), wB E (bd 4) (σ 4), wB E (bd 5) (σ 5), wB E (bd 6) (σ 6), wB E (bd 7) (σ 7), wB E (bd 8) (σ 8), wB E (bd 9) (σ 9)]) (st1 := [.int (b2i (fX0_canReopen β a.toNatClampNeg))]) [.int (nI a.toNatClampNeg)] [1] (kX0_canReopen l E bo β hv a.toNatClampNeg hx_4.2.1) caX0_canReopen q4_175 rfl ⟨Nat.le_of_ble_eq_true rfl, Nat.le_of_ble_eq_true rfl⟩ ⟨Nat.le_of_ble_eq_true rfl, Nat.le_of_ble_eq_true rfl⟩ 1 0 rfl rfl rfl rfl (by decide) rfl rfl rfl rfl (Nat.le_of_ble_eq_true rfl) dX6_reopen_16 rfl ?_
  have e_6 : (fX0_canReopen β a.toNatClampNeg) = false → fX6_reopen β η σ a = (.inl xIS, β, η, σ) := fun c_5 => by rw [fX6_reopen]; rw [if_pos c_3, if_neg (ne_true_of_eq_false c_5)]
  refine g_req (b := (fX0_canReopen β a.toNatClampNeg)) C hT (kX6_requireState l E hlt (fX0_canReopen β a.toNatClampNeg)) caX6_requireState q3_143 ⟨Nat.le_of_ble_eq_true rfl, Nat.le_of_ble_eq_true rfl⟩ ⟨Nat.le_of_ble_eq_true rfl, Nat.le_of_ble_eq_true rfl⟩ ⟨Nat.le_of_ble_eq_true rfl, Nat.le_of_ble_eq_true rfl⟩ (fun c => by rw [e_6 c]; exact ⟨rfl, rfl⟩) (Nat.le_of_ble_eq_true rfl) dX6_reopen_19 (fun c_7 => ?_)
  refine g_aload_n C dX6_reopen_22 rfl 0 rfl ?_
  refine g_getf C (T := TX6) (N := 5) 0 0 rfl rfl rfl inX6 3 (by decide) q1_195 rfl dX6_reopen_23 ?_
  refine g_aload_n C dX6_reopen_26 rfl 0 rfl ?_
  refine g_getf C (T := TX6) (N := 5) 0 0 rfl rfl rfl inX6 0 (by decide) q1_192 rfl dX6_reopen_27 ?_
  refine g_callV C (cs1 := [wX ax (bo 0) (tr 0) (ac 0) (ah 0) (at_ 0), wB E bo β, wB E tr τ, wC E ac γ, wH E ah bd ((fX3_save η σ β).1), wT E at_ θ, wB E (bd 2) ((fX3_save η σ β).2 2), wB E (bd 3) ((fX3_save η σ β).2 3), wB E (bd 4) ((fX3_save η σ β).2 4), wB E (bd 5) ((fX3_save η σ β).2 5), wB E (bd 6) ((fX3_save η σ β).2 6), wB E (bd 7) ((fX3_save η σ β).2 7), wB E (bd 8) ((fX3_save η σ β).2 8), wB E (bd 9) ((fX3_save η σ β).2 9)]) (st1 := []) [.ref (bo 0)] [4, 6, 7, 8, 9, 10, 11, 12, 13, 1] (kX3_save l E ah bd η σ bo β hvh) caX3_save q3_162 rfl ⟨Nat.le_of_ble_eq_true rfl, Nat.le_of_ble_eq_true rfl⟩ ⟨Nat.le_of_ble_eq_true rfl, Nat.le_of_ble_eq_true rfl⟩ 4 0 rfl rfl rfl rfl (by decide) rfl rfl rfl rfl (Nat.le_of_ble_eq_true rfl) dX6_reopen_30 rfl ?_
  refine g_aload_n C dX6_reopen_33 rfl 0 rfl ?_
  refine g_getf C (T := TX6) (N := 5) 0 0 rfl rfl rfl inX6 0 (by decide) q1_192 rfl dX6_reopen_34 ?_
  refine g_callV C (cs1 := [wX ax (bo 0) (tr 0) (ac 0) (ah 0) (at_ 0), wB E bo β, wB E tr τ, wC E ac γ, wH E ah bd ((fX3_save η σ β).1), wT E at_ θ, wB E (bd 2) ((fX3_save η σ β).2 2), wB E (bd 3) ((fX3_save η σ β).2 3), wB E (bd 4) ((fX3_save η σ β).2 4), wB E (bd 5) ((fX3_save η σ β).2 5), wB E (bd 6) ((fX3_save η σ β).2 6), wB E (bd 7) ((fX3_save η σ β).2 7), wB E (bd 8) ((fX3_save η σ β).2 8), wB E (bd 9) ((fX3_save η σ β).2 9)]) (st1 := [.int (fX0_blockedSet β)]) [] [1] (kX0_blockedSet l E bo β hv) caX0_blockedSet q4_159 rfl ⟨Nat.le_of_ble_eq_true rfl, Nat.le_of_ble_eq_true rfl⟩ ⟨Nat.le_of_ble_eq_true rfl, Nat.le_of_ble_eq_true rfl⟩ 1 0 rfl rfl rfl rfl (by decide) rfl rfl rfl rfl (Nat.le_of_ble_eq_true rfl) dX6_reopen_37 rfl ?_
  refine g_istore_n C (lv1 := [(2, .int (fX0_blockedSet β)), (0, .ref ax), (1, .int a)]) dX6_reopen_40 rfl (by decide) rfl ?_
  refine g_aload_n C dX6_reopen_41 rfl 1 rfl ?_
  refine g_getf C (T := TX6) (N := 5) 0 0 rfl rfl rfl inX6 0 (by decide) q1_192 rfl dX6_reopen_42 ?_
  refine g_iload_n C dX6_reopen_45 rfl 2 rfl ?_
  refine g_st (st1 := [.int (nI a.toNatClampNeg), .ref (bo 0)]) (by rw [← hx_4.1]) ?_
  refine g_callV C (cs1 := [wX ax (bo 0) (tr 0) (ac 0) (ah 0) (at_ 0), wB E bo (fX0_openAgain β a.toNatClampNeg), wB E tr τ, wC E ac γ, wH E ah bd ((fX3_save η σ β).1), wT E at_ θ, wB E (bd 2) ((fX3_save η σ β).2 2), wB E (bd 3) ((fX3_save η σ β).2 3), wB E (bd 4) ((fX3_save η σ β).2 4), wB E (bd 5) ((fX3_save η σ β).2 5), wB E (bd 6) ((fX3_save η σ β).2 6), wB E (bd 7) ((fX3_save η σ β).2 7), wB E (bd 8) ((fX3_save η σ β).2 8), wB E (bd 9) ((fX3_save η σ β).2 9)]) (st1 := []) [.int (nI a.toNatClampNeg)] [1] (kX0_openAgain l E bo β hv a.toNatClampNeg hx_4.2.1) caX0_openAgain q4_184 rfl ⟨Nat.le_of_ble_eq_true rfl, Nat.le_of_ble_eq_true rfl⟩ ⟨Nat.le_of_ble_eq_true rfl, Nat.le_of_ble_eq_true rfl⟩ 1 0 rfl rfl rfl rfl (by decide) rfl rfl rfl rfl (Nat.le_of_ble_eq_true rfl) dX6_reopen_46 rfl ?_
  refine g_aload_n C dX6_reopen_49 rfl 1 rfl ?_
  refine g_getf C (T := TX6) (N := 5) 0 0 rfl rfl rfl inX6 0 (by decide) q1_192 rfl dX6_reopen_50 ?_
  refine g_callV C (cs1 := [wX ax (bo 0) (tr 0) (ac 0) (ah 0) (at_ 0), wB E bo (fX0_openAgain β a.toNatClampNeg), wB E tr τ, wC E ac γ, wH E ah bd ((fX3_save η σ β).1), wT E at_ θ, wB E (bd 2) ((fX3_save η σ β).2 2), wB E (bd 3) ((fX3_save η σ β).2 3), wB E (bd 4) ((fX3_save η σ β).2 4), wB E (bd 5) ((fX3_save η σ β).2 5), wB E (bd 6) ((fX3_save η σ β).2 6), wB E (bd 7) ((fX3_save η σ β).2 7), wB E (bd 8) ((fX3_save η σ β).2 8), wB E (bd 9) ((fX3_save η σ β).2 9)]) (st1 := [.int (fX0_blockedSet (fX0_openAgain β a.toNatClampNeg))]) [] [1] (kX0_blockedSet l E bo (fX0_openAgain β a.toNatClampNeg) (vB_openAgain hv)) caX0_blockedSet q4_159 rfl ⟨Nat.le_of_ble_eq_true rfl, Nat.le_of_ble_eq_true rfl⟩ ⟨Nat.le_of_ble_eq_true rfl, Nat.le_of_ble_eq_true rfl⟩ 1 0 rfl rfl rfl rfl (by decide) rfl rfl rfl rfl (Nat.le_of_ble_eq_true rfl) dX6_reopen_53 rfl ?_
  refine g_iload_n C dX6_reopen_56 rfl 0 rfl ?_
  refine g_iconst C (v := -1) dX6_reopen_57 (by decide) ?_
  refine g_ixor C dX6_reopen_58 ?_
  refine g_iand C dX6_reopen_59 ?_
  refine g_callS C (cs1 := [wX ax (bo 0) (tr 0) (ac 0) (ah 0) (at_ 0), wB E bo (fX0_openAgain β a.toNatClampNeg), wB E tr τ, wC E ac γ, wH E ah bd ((fX3_save η σ β).1), wT E at_ θ, wB E (bd 2) ((fX3_save η σ β).2 2), wB E (bd 3) ((fX3_save η σ β).2 3), wB E (bd 4) ((fX3_save η σ β).2 4), wB E (bd 5) ((fX3_save η σ β).2 5), wB E (bd 6) ((fX3_save η σ β).2 6), wB E (bd 7) ((fX3_save η σ β).2 7), wB E (bd 8) ((fX3_save η σ β).2 8), wB E (bd 9) ((fX3_save η σ β).2 9)]) (st1 := [.int (fJ6_bitCount_0f7a4 ((fX0_blockedSet (fX0_openAgain β a.toNatClampNeg)) &&& ((fX0_blockedSet β) ^^^ (-1))))]) [.int ((fX0_blockedSet (fX0_openAgain β a.toNatClampNeg)) &&& ((fX0_blockedSet β) ^^^ (-1)))] [] (kJ6_bitCount_0f7a4 l E ((fX0_blockedSet (fX0_openAgain β a.toNatClampNeg)) &&& ((fX0_blockedSet β) ^^^ (-1)))) caJ6_bitCount_0f7a4 q2_191 rfl ⟨Nat.le_of_ble_eq_true rfl, Nat.le_of_ble_eq_true rfl⟩ ⟨Nat.le_of_ble_eq_true rfl, Nat.le_of_ble_eq_true rfl⟩ (by decide) rfl rfl rfl rfl (Nat.le_of_ble_eq_true rfl) dX6_reopen_60 rfl ?_
  have e_8 : fX6_reopen β η σ a = (.inr (fJ6_bitCount_0f7a4 ((fX0_blockedSet (fX0_openAgain β a.toNatClampNeg)) &&& ((fX0_blockedSet β) ^^^ (-1)))), (fX0_openAgain β a.toNatClampNeg), (fX3_save η σ β).1, (fX3_save η σ β).2) := by rw [fX6_reopen]; rw [if_pos c_3, if_pos c_7]
  refine g_widen (k1 := 3) (n1 := 18) (Nat.le_of_ble_eq_true rfl) (Nat.le_of_ble_eq_true rfl) ?_
  exact g_iret C (gT_r hT (by rw [e_8] <;> rfl) (by rw [e_8] <;> rfl)) rfl rfl dX6_reopen_63
def fX6_drop (β : BS) (η : BS) (σ : Nat → BS) (a : Int32) : (String ⊕ Int32) × BS × BS × (Nat → BS) :=
  if (fX0_hasTicket β a) = true then (if (fX0_isUnfinished β a.toNatClampNeg) = true then (.inr (fJ6_bitCount_0f7a4 ((fX0_blockedSet β) &&& ((fX0_blockedSet (fX0_leaveOff β a.toNatClampNeg 4)) ^^^ (-1)))), (fX0_leaveOff β a.toNatClampNeg 4), (fX3_save η σ β).1, (fX3_save η σ β).2) else (.inl xIS, β, η, σ)) else (.inl xIO, β, η, σ)
theorem caX6_drop : gCalV yX6_drop cX6_drop 3 (some .int) 1 := ⟨⟨q4_194, q1_1, by decide +kernel⟩, q4_192, q4_193⟩
set_option maxHeartbeats 4000000 in
set_option maxRecDepth 100000 in
theorem kX6_drop (l : Launch) (E : gE) (ax : Nat) (bo : Nat → Nat) (β : BS) (tr : Nat → Nat) (τ : BS) (ac : Nat → Nat) (γ : BS) (ah : Nat → Nat) (bd : Nat → Nat → Nat) (η : BS) (σ : Nat → BS) (at_ : Nat → Nat) (θ : BS) (hlt : l.stackTraces = false) (hv : vB β) (hvh : vH η)  (a : Int32) : MX l E yX6_drop cX6_drop 3 (some .int) 3 18 7 102 [.ref ax, .int a] [wX ax (bo 0) (tr 0) (ac 0) (ah 0) (at_ 0), wB E bo β, wB E tr τ, wC E ac γ, wH E ah bd η, wT E at_ θ, wB E (bd 2) (σ 2), wB E (bd 3) (σ 3), wB E (bd 4) (σ 4), wB E (bd 5) (σ 5), wB E (bd 6) (σ 6), wB E (bd 7) (σ 7), wB E (bd 8) (σ 8), wB E (bd 9) (σ 9)] (Sum.map id (fun v => some (.int v)) (fX6_drop β η σ a).1) [wX ax (bo 0) (tr 0) (ac 0) (ah 0) (at_ 0), wB E bo ((fX6_drop β η σ a).2.1), wB E tr τ, wC E ac γ, wH E ah bd ((fX6_drop β η σ a).2.2.1), wT E at_ θ, wB E (bd 2) ((fX6_drop β η σ a).2.2.2 2), wB E (bd 3) ((fX6_drop β η σ a).2.2.2 3), wB E (bd 4) ((fX6_drop β η σ a).2.2.2 4), wB E (bd 5) ((fX6_drop β η σ a).2.2.2 5), wB E (bd 6) ((fX6_drop β η σ a).2.2.2 6), wB E (bd 7) ((fX6_drop β η σ a).2.2.2 7), wB E (bd 8) ((fX6_drop β η σ a).2.2.2 8), wB E (bd 9) ((fX6_drop β η σ a).2.2.2 9)] := by
  have hv1 : cnt β ≤ 20 := hv.1
  refine mx_of hlt (by decide +kernel) (Nat.le_of_ble_eq_true rfl) (lv := [(0, .ref ax), (1, .int a)]) rfl (fun X C hT => ?_)
  refine g_aload_n C dX6_drop_0 rfl 0 rfl ?_
  refine g_getf C (T := TX6) (N := 5) 0 0 rfl rfl rfl inX6 0 (by decide) q1_192 rfl dX6_drop_1 ?_
  refine g_iload_n C dX6_drop_4 rfl 1 rfl ?_
  refine g_callV C (cs1 := [wX ax (bo 0) (tr 0) (ac 0) (ah 0) (at_ 0), wB E bo β, wB E tr τ, wC E ac γ, wH E ah bd η, wT E at_ θ, wB E (bd 2) (σ 2), wB E (bd 3) (σ 3), wB E (bd 4) (σ 4), wB E (bd 5) (σ 5), wB E (bd 6) (σ 6), wB E (bd 7) (σ 7), wB E (bd 8) (σ 8), wB E (bd 9) (σ 9)]) (st1 := [.int (b2i (fX0_hasTicket β a))]) [.int a] [1] (kX0_hasTicket l E bo β a) caX0_hasTicket q3_191 rfl ⟨Nat.le_of_ble_eq_true rfl, Nat.le_of_ble_eq_true rfl⟩ ⟨Nat.le_of_ble_eq_true rfl, Nat.le_of_ble_eq_true rfl⟩ 1 0 rfl rfl rfl rfl (by decide) rfl rfl rfl rfl (Nat.le_of_ble_eq_true rfl) dX6_drop_5 rfl ?_
  have e_2 : (fX0_hasTicket β a) = false → fX6_drop β η σ a = (.inl xIO, β, η, σ) := fun c_1 => by rw [fX6_drop]; rw [if_neg (ne_true_of_eq_false c_1)]
  refine g_req (b := (fX0_hasTicket β a)) C hT (kX6_requireIndex l E hlt (fX0_hasTicket β a)) caX6_requireIndex q3_195 ⟨Nat.le_of_ble_eq_true rfl, Nat.le_of_ble_eq_true rfl⟩ ⟨Nat.le_of_ble_eq_true rfl, Nat.le_of_ble_eq_true rfl⟩ ⟨Nat.le_of_ble_eq_true rfl, Nat.le_of_ble_eq_true rfl⟩ (fun c => by rw [e_2 c]; exact ⟨rfl, rfl⟩) (Nat.le_of_ble_eq_true rfl) dX6_drop_8 (fun c_3 => ?_)
  have hx_4 := hasTicket_i hv c_3
  refine g_aload_n C dX6_drop_11 rfl 0 rfl ?_
  refine g_getf C (T := TX6) (N := 5) 0 0 rfl rfl rfl inX6 0 (by decide) q1_192 rfl dX6_drop_12 ?_
  refine g_iload_n C dX6_drop_15 rfl 1 rfl ?_
  refine g_st (st1 := [.int (nI a.toNatClampNeg), .ref (bo 0)]) (by rw [← hx_4.1]) ?_
  refine g_callV C (cs1 := [wX ax (bo 0) (tr 0) (ac 0) (ah 0) (at_ 0), wB E bo β, wB E tr τ, wC E ac γ, wH E ah bd η, wT E at_ θ, wB E (bd 2) (σ 2), wB E (bd 3) (σ 3), wB E (bd 4) (σ 4), wB E (bd 5) (σ 5), wB E (bd 6) (σ 6), wB E (bd 7) (σ 7), wB E (bd 8) (σ 8), wB E (bd 9) (σ 9)]) (st1 := [.int (b2i (fX0_isUnfinished β a.toNatClampNeg))]) [.int (nI a.toNatClampNeg)] [1] (kX0_isUnfinished l E bo β a.toNatClampNeg hx_4.2.1) caX0_isUnfinished q4_80 rfl ⟨Nat.le_of_ble_eq_true rfl, Nat.le_of_ble_eq_true rfl⟩ ⟨Nat.le_of_ble_eq_true rfl, Nat.le_of_ble_eq_true rfl⟩ 1 0 rfl rfl rfl rfl (by decide) rfl rfl rfl rfl (Nat.le_of_ble_eq_true rfl) dX6_drop_16 rfl ?_
  have e_6 : (fX0_isUnfinished β a.toNatClampNeg) = false → fX6_drop β η σ a = (.inl xIS, β, η, σ) := fun c_5 => by rw [fX6_drop]; rw [if_pos c_3, if_neg (ne_true_of_eq_false c_5)]
  refine g_req (b := (fX0_isUnfinished β a.toNatClampNeg)) C hT (kX6_requireState l E hlt (fX0_isUnfinished β a.toNatClampNeg)) caX6_requireState q3_143 ⟨Nat.le_of_ble_eq_true rfl, Nat.le_of_ble_eq_true rfl⟩ ⟨Nat.le_of_ble_eq_true rfl, Nat.le_of_ble_eq_true rfl⟩ ⟨Nat.le_of_ble_eq_true rfl, Nat.le_of_ble_eq_true rfl⟩ (fun c => by rw [e_6 c]; exact ⟨rfl, rfl⟩) (Nat.le_of_ble_eq_true rfl) dX6_drop_19 (fun c_7 => ?_)
  refine g_aload_n C dX6_drop_22 rfl 0 rfl ?_
  refine g_getf C (T := TX6) (N := 5) 0 0 rfl rfl rfl inX6 3 (by decide) q1_195 rfl dX6_drop_23 ?_
  refine g_aload_n C dX6_drop_26 rfl 0 rfl ?_
  refine g_getf C (T := TX6) (N := 5) 0 0 rfl rfl rfl inX6 0 (by decide) q1_192 rfl dX6_drop_27 ?_
  refine g_callV C (cs1 := [wX ax (bo 0) (tr 0) (ac 0) (ah 0) (at_ 0), wB E bo β, wB E tr τ, wC E ac γ, wH E ah bd ((fX3_save η σ β).1), wT E at_ θ, wB E (bd 2) ((fX3_save η σ β).2 2), wB E (bd 3) ((fX3_save η σ β).2 3), wB E (bd 4) ((fX3_save η σ β).2 4), wB E (bd 5) ((fX3_save η σ β).2 5), wB E (bd 6) ((fX3_save η σ β).2 6), wB E (bd 7) ((fX3_save η σ β).2 7), wB E (bd 8) ((fX3_save η σ β).2 8), wB E (bd 9) ((fX3_save η σ β).2 9)]) (st1 := []) [.ref (bo 0)] [4, 6, 7, 8, 9, 10, 11, 12, 13, 1] (kX3_save l E ah bd η σ bo β hvh) caX3_save q3_162 rfl ⟨Nat.le_of_ble_eq_true rfl, Nat.le_of_ble_eq_true rfl⟩ ⟨Nat.le_of_ble_eq_true rfl, Nat.le_of_ble_eq_true rfl⟩ 4 0 rfl rfl rfl rfl (by decide) rfl rfl rfl rfl (Nat.le_of_ble_eq_true rfl) dX6_drop_30 rfl ?_
  refine g_aload_n C dX6_drop_33 rfl 0 rfl ?_
  refine g_getf C (T := TX6) (N := 5) 0 0 rfl rfl rfl inX6 0 (by decide) q1_192 rfl dX6_drop_34 ?_
  refine g_callV C (cs1 := [wX ax (bo 0) (tr 0) (ac 0) (ah 0) (at_ 0), wB E bo β, wB E tr τ, wC E ac γ, wH E ah bd ((fX3_save η σ β).1), wT E at_ θ, wB E (bd 2) ((fX3_save η σ β).2 2), wB E (bd 3) ((fX3_save η σ β).2 3), wB E (bd 4) ((fX3_save η σ β).2 4), wB E (bd 5) ((fX3_save η σ β).2 5), wB E (bd 6) ((fX3_save η σ β).2 6), wB E (bd 7) ((fX3_save η σ β).2 7), wB E (bd 8) ((fX3_save η σ β).2 8), wB E (bd 9) ((fX3_save η σ β).2 9)]) (st1 := [.int (fX0_blockedSet β)]) [] [1] (kX0_blockedSet l E bo β hv) caX0_blockedSet q4_159 rfl ⟨Nat.le_of_ble_eq_true rfl, Nat.le_of_ble_eq_true rfl⟩ ⟨Nat.le_of_ble_eq_true rfl, Nat.le_of_ble_eq_true rfl⟩ 1 0 rfl rfl rfl rfl (by decide) rfl rfl rfl rfl (Nat.le_of_ble_eq_true rfl) dX6_drop_37 rfl ?_
  refine g_istore_n C (lv1 := [(2, .int (fX0_blockedSet β)), (0, .ref ax), (1, .int a)]) dX6_drop_40 rfl (by decide) rfl ?_
  refine g_aload_n C dX6_drop_41 rfl 1 rfl ?_
  refine g_getf C (T := TX6) (N := 5) 0 0 rfl rfl rfl inX6 0 (by decide) q1_192 rfl dX6_drop_42 ?_
  refine g_iload_n C dX6_drop_45 rfl 2 rfl ?_
  refine g_iconst C (v := 4) dX6_drop_46 (by decide) ?_
  refine g_st (st1 := [.int 4, .int (nI a.toNatClampNeg), .ref (bo 0)]) (by rw [← hx_4.1]) ?_
  refine g_callV C (cs1 := [wX ax (bo 0) (tr 0) (ac 0) (ah 0) (at_ 0), wB E bo (fX0_leaveOff β a.toNatClampNeg 4), wB E tr τ, wC E ac γ, wH E ah bd ((fX3_save η σ β).1), wT E at_ θ, wB E (bd 2) ((fX3_save η σ β).2 2), wB E (bd 3) ((fX3_save η σ β).2 3), wB E (bd 4) ((fX3_save η σ β).2 4), wB E (bd 5) ((fX3_save η σ β).2 5), wB E (bd 6) ((fX3_save η σ β).2 6), wB E (bd 7) ((fX3_save η σ β).2 7), wB E (bd 8) ((fX3_save η σ β).2 8), wB E (bd 9) ((fX3_save η σ β).2 9)]) (st1 := []) [.int (nI a.toNatClampNeg), .int 4] [1] (kX0_leaveOff l E bo β hv a.toNatClampNeg hx_4.2.1 4) caX0_leaveOff q4_195 rfl ⟨Nat.le_of_ble_eq_true rfl, Nat.le_of_ble_eq_true rfl⟩ ⟨Nat.le_of_ble_eq_true rfl, Nat.le_of_ble_eq_true rfl⟩ 1 0 rfl rfl rfl rfl (by decide) rfl rfl rfl rfl (Nat.le_of_ble_eq_true rfl) dX6_drop_47 rfl ?_
  refine g_iload_n C dX6_drop_50 rfl 0 rfl ?_
  refine g_aload_n C dX6_drop_51 rfl 1 rfl ?_
  refine g_getf C (T := TX6) (N := 5) 0 0 rfl rfl rfl inX6 0 (by decide) q1_192 rfl dX6_drop_52 ?_
  refine g_callV C (cs1 := [wX ax (bo 0) (tr 0) (ac 0) (ah 0) (at_ 0), wB E bo (fX0_leaveOff β a.toNatClampNeg 4), wB E tr τ, wC E ac γ, wH E ah bd ((fX3_save η σ β).1), wT E at_ θ, wB E (bd 2) ((fX3_save η σ β).2 2), wB E (bd 3) ((fX3_save η σ β).2 3), wB E (bd 4) ((fX3_save η σ β).2 4), wB E (bd 5) ((fX3_save η σ β).2 5), wB E (bd 6) ((fX3_save η σ β).2 6), wB E (bd 7) ((fX3_save η σ β).2 7), wB E (bd 8) ((fX3_save η σ β).2 8), wB E (bd 9) ((fX3_save η σ β).2 9)]) (st1 := [.int (fX0_blockedSet (fX0_leaveOff β a.toNatClampNeg 4)), .int (fX0_blockedSet β)]) [] [1] (kX0_blockedSet l E bo (fX0_leaveOff β a.toNatClampNeg 4) (vB_leaveOff hv)) caX0_blockedSet q4_159 rfl ⟨Nat.le_of_ble_eq_true rfl, Nat.le_of_ble_eq_true rfl⟩ ⟨Nat.le_of_ble_eq_true rfl, Nat.le_of_ble_eq_true rfl⟩ 1 0 rfl rfl rfl rfl (by decide) rfl rfl rfl rfl (Nat.le_of_ble_eq_true rfl) dX6_drop_55 rfl ?_
  refine g_iconst C (v := -1) dX6_drop_58 (by decide) ?_
  refine g_ixor C dX6_drop_59 ?_
  refine g_iand C dX6_drop_60 ?_
  refine g_callS C (cs1 := [wX ax (bo 0) (tr 0) (ac 0) (ah 0) (at_ 0), wB E bo (fX0_leaveOff β a.toNatClampNeg 4), wB E tr τ, wC E ac γ, wH E ah bd ((fX3_save η σ β).1), wT E at_ θ, wB E (bd 2) ((fX3_save η σ β).2 2), wB E (bd 3) ((fX3_save η σ β).2 3), wB E (bd 4) ((fX3_save η σ β).2 4), wB E (bd 5) ((fX3_save η σ β).2 5), wB E (bd 6) ((fX3_save η σ β).2 6), wB E (bd 7) ((fX3_save η σ β).2 7), wB E (bd 8) ((fX3_save η σ β).2 8), wB E (bd 9) ((fX3_save η σ β).2 9)]) (st1 := [.int (fJ6_bitCount_0f7a4 ((fX0_blockedSet β) &&& ((fX0_blockedSet (fX0_leaveOff β a.toNatClampNeg 4)) ^^^ (-1))))]) [.int ((fX0_blockedSet β) &&& ((fX0_blockedSet (fX0_leaveOff β a.toNatClampNeg 4)) ^^^ (-1)))] [] (kJ6_bitCount_0f7a4 l E ((fX0_blockedSet β) &&& ((fX0_blockedSet (fX0_leaveOff β a.toNatClampNeg 4)) ^^^ (-1)))) caJ6_bitCount_0f7a4 q2_191 rfl ⟨Nat.le_of_ble_eq_true rfl, Nat.le_of_ble_eq_true rfl⟩ ⟨Nat.le_of_ble_eq_true rfl, Nat.le_of_ble_eq_true rfl⟩ (by decide) rfl rfl rfl rfl (Nat.le_of_ble_eq_true rfl) dX6_drop_61 rfl ?_
  have e_8 : fX6_drop β η σ a = (.inr (fJ6_bitCount_0f7a4 ((fX0_blockedSet β) &&& ((fX0_blockedSet (fX0_leaveOff β a.toNatClampNeg 4)) ^^^ (-1)))), (fX0_leaveOff β a.toNatClampNeg 4), (fX3_save η σ β).1, (fX3_save η σ β).2) := by rw [fX6_drop]; rw [if_pos c_3, if_pos c_7]
  refine g_widen (k1 := 3) (n1 := 18) (Nat.le_of_ble_eq_true rfl) (Nat.le_of_ble_eq_true rfl) ?_
  exact g_iret C (gT_r hT (by rw [e_8] <;> rfl) (by rw [e_8] <;> rfl)) rfl rfl dX6_drop_64
