def fX6_append (θ : BS) (a : Int32) : (String ⊕ Int32) × BS :=
  if (fX6_within a 33 126) = true then (if (fX4_hasRoom θ) = true then (.inr ((fX4_add θ ((a.toUInt32 % 65536).toInt32)).1), (fX4_add θ ((a.toUInt32 % 65536).toInt32)).2) else (.inl xIS, θ)) else (.inl xIA, θ)
theorem caX6_append : gCalV yX6_append cX6_append 2 (some .int) 1 := ⟨⟨q4_202, q1_1, by decide +kernel⟩, q4_200, q4_201⟩
set_option maxHeartbeats 4000000 in
set_option maxRecDepth 100000 in
theorem kX6_append (l : Launch) (E : gE) (ax : Nat) (bo : Nat → Nat) (β : BS) (tr : Nat → Nat) (τ : BS) (ac : Nat → Nat) (γ : BS) (ah : Nat → Nat) (bd : Nat → Nat → Nat) (η : BS) (σ : Nat → BS) (at_ : Nat → Nat) (θ : BS) (hlt : l.stackTraces = false) (hvt : vT θ)  (a : Int32) : MX l E yX6_append cX6_append 2 (some .int) 3 18 7 102 [.ref ax, .int a] [wX ax (bo 0) (tr 0) (ac 0) (ah 0) (at_ 0), wB E bo β, wB E tr τ, wC E ac γ, wH E ah bd η, wT E at_ θ, wB E (bd 2) (σ 2), wB E (bd 3) (σ 3), wB E (bd 4) (σ 4), wB E (bd 5) (σ 5), wB E (bd 6) (σ 6), wB E (bd 7) (σ 7), wB E (bd 8) (σ 8), wB E (bd 9) (σ 9)] (Sum.map id (fun v => some (.int v)) (fX6_append θ a).1) [wX ax (bo 0) (tr 0) (ac 0) (ah 0) (at_ 0), wB E bo β, wB E tr τ, wC E ac γ, wH E ah bd η, wT E at_ ((fX6_append θ a).2), wB E (bd 2) (σ 2), wB E (bd 3) (σ 3), wB E (bd 4) (σ 4), wB E (bd 5) (σ 5), wB E (bd 6) (σ 6), wB E (bd 7) (σ 7), wB E (bd 8) (σ 8), wB E (bd 9) (σ 9)] := by
  refine mx_of hlt (by decide +kernel) (Nat.le_of_ble_eq_true rfl) (lv := [(0, .ref ax), (1, .int a)]) rfl (fun X C hT => ?_)
  refine g_iload_n C dX6_append_0 rfl 1 rfl ?_
  refine g_bipush C (v := 33) dX6_append_1 (by decide) ?_
  refine g_bipush C (v := 126) dX6_append_3 (by decide) ?_
  refine g_callS C (cs1 := [wX ax (bo 0) (tr 0) (ac 0) (ah 0) (at_ 0), wB E bo β, wB E tr τ, wC E ac γ, wH E ah bd η, wT E at_ θ, wB E (bd 2) (σ 2), wB E (bd 3) (σ 3), wB E (bd 4) (σ 4), wB E (bd 5) (σ 5), wB E (bd 6) (σ 6), wB E (bd 7) (σ 7), wB E (bd 8) (σ 8), wB E (bd 9) (σ 9)]) (st1 := [.int (b2i (fX6_within a 33 126))]) [.int a, .int 33, .int 126] [] (kX6_within l E a 33 126) caX6_within q3_65 rfl ⟨Nat.le_of_ble_eq_true rfl, Nat.le_of_ble_eq_true rfl⟩ ⟨Nat.le_of_ble_eq_true rfl, Nat.le_of_ble_eq_true rfl⟩ (by decide) rfl rfl rfl rfl (Nat.le_of_ble_eq_true rfl) dX6_append_5 rfl ?_
  have e_2 : (fX6_within a 33 126) = false → fX6_append θ a = (.inl xIA, θ) := fun c_1 => by rw [fX6_append]; rw [if_neg (ne_true_of_eq_false c_1)]
  refine g_req (b := (fX6_within a 33 126)) C hT (kX6_requireArgument l E hlt (fX6_within a 33 126)) caX6_requireArgument q3_68 ⟨Nat.le_of_ble_eq_true rfl, Nat.le_of_ble_eq_true rfl⟩ ⟨Nat.le_of_ble_eq_true rfl, Nat.le_of_ble_eq_true rfl⟩ ⟨Nat.le_of_ble_eq_true rfl, Nat.le_of_ble_eq_true rfl⟩ (fun c => by rw [e_2 c]; exact ⟨rfl, rfl⟩) (Nat.le_of_ble_eq_true rfl) dX6_append_8 (fun c_3 => ?_)
  refine g_aload_n C dX6_append_11 rfl 0 rfl ?_
  refine g_getf C (T := TX6) (N := 5) 0 0 rfl rfl rfl inX6 4 (by decide) q1_196 rfl dX6_append_12 ?_
  refine g_callV C (cs1 := [wX ax (bo 0) (tr 0) (ac 0) (ah 0) (at_ 0), wB E bo β, wB E tr τ, wC E ac γ, wH E ah bd η, wT E at_ θ, wB E (bd 2) (σ 2), wB E (bd 3) (σ 3), wB E (bd 4) (σ 4), wB E (bd 5) (σ 5), wB E (bd 6) (σ 6), wB E (bd 7) (σ 7), wB E (bd 8) (σ 8), wB E (bd 9) (σ 9)]) (st1 := [.int (b2i (fX4_hasRoom θ))]) [] [5] (kX4_hasRoom l E at_ θ hvt) caX4_hasRoom q4_203 rfl ⟨Nat.le_of_ble_eq_true rfl, Nat.le_of_ble_eq_true rfl⟩ ⟨Nat.le_of_ble_eq_true rfl, Nat.le_of_ble_eq_true rfl⟩ 5 0 rfl rfl rfl rfl (by decide) rfl rfl rfl rfl (Nat.le_of_ble_eq_true rfl) dX6_append_15 rfl ?_
  have e_5 : (fX4_hasRoom θ) = false → fX6_append θ a = (.inl xIS, θ) := fun c_4 => by rw [fX6_append]; rw [if_pos c_3, if_neg (ne_true_of_eq_false c_4)]
  refine g_req (b := (fX4_hasRoom θ)) C hT (kX6_requireState l E hlt (fX4_hasRoom θ)) caX6_requireState q3_143 ⟨Nat.le_of_ble_eq_true rfl, Nat.le_of_ble_eq_true rfl⟩ ⟨Nat.le_of_ble_eq_true rfl, Nat.le_of_ble_eq_true rfl⟩ ⟨Nat.le_of_ble_eq_true rfl, Nat.le_of_ble_eq_true rfl⟩ (fun c => by rw [e_5 c]; exact ⟨rfl, rfl⟩) (Nat.le_of_ble_eq_true rfl) dX6_append_18 (fun c_6 => ?_)
  have hr := textRoom hvt c_6
  refine g_aload_n C dX6_append_21 rfl 0 rfl ?_
  refine g_getf C (T := TX6) (N := 5) 0 0 rfl rfl rfl inX6 4 (by decide) q1_196 rfl dX6_append_22 ?_
  refine g_iload_n C dX6_append_25 rfl 1 rfl ?_
  refine g_i2c C dX6_append_26 ?_
  refine g_callV C (cs1 := [wX ax (bo 0) (tr 0) (ac 0) (ah 0) (at_ 0), wB E bo β, wB E tr τ, wC E ac γ, wH E ah bd η, wT E at_ ((fX4_add θ ((a.toUInt32 % 65536).toInt32)).2), wB E (bd 2) (σ 2), wB E (bd 3) (σ 3), wB E (bd 4) (σ 4), wB E (bd 5) (σ 5), wB E (bd 6) (σ 6), wB E (bd 7) (σ 7), wB E (bd 8) (σ 8), wB E (bd 9) (σ 9)]) (st1 := [.int ((fX4_add θ ((a.toUInt32 % 65536).toInt32)).1)]) [.int ((a.toUInt32 % 65536).toInt32)] [5] (kX4_add l E at_ θ hvt ((a.toUInt32 % 65536).toInt32) hr) caX4_add q4_207 rfl ⟨Nat.le_of_ble_eq_true rfl, Nat.le_of_ble_eq_true rfl⟩ ⟨Nat.le_of_ble_eq_true rfl, Nat.le_of_ble_eq_true rfl⟩ 5 0 rfl rfl rfl rfl (by decide) rfl rfl rfl rfl (Nat.le_of_ble_eq_true rfl) dX6_append_27 rfl ?_
  have e_7 : fX6_append θ a = (.inr ((fX4_add θ ((a.toUInt32 % 65536).toInt32)).1), (fX4_add θ ((a.toUInt32 % 65536).toInt32)).2) := by rw [fX6_append]; rw [if_pos c_3, if_pos c_6]
  refine g_widen (k1 := 3) (n1 := 18) (Nat.le_of_ble_eq_true rfl) (Nat.le_of_ble_eq_true rfl) ?_
  exact g_iret C (gT_r hT (by rw [e_7] <;> rfl) (by rw [e_7] <;> rfl)) rfl rfl dX6_append_30
def fX6_follow (β : BS) (τ : BS) (η : BS) (σ : Nat → BS) (θ : BS) : (String ⊕ Int32) × BS × BS × BS × BS × (Nat → BS) :=
  if ((fX4_tellsOrders θ).1) = true then (if ((fX4_followOn ((fX4_tellsOrders θ).2) β).1) = (-1) then (.inr ((((fX4_followOn ((fX4_tellsOrders θ).2) β).2).1 2) - (β.1 2)), ((fX4_followOn ((fX4_tellsOrders θ).2) β).2), (fX4_followOn ((fX4_tellsOrders θ).2) β).2, (fX3_save η σ β).1, (fX4_clear ((fX4_tellsOrders θ).2)).2, (fX3_save η σ β).2) else (.inl xIS, β, (fX4_followOn ((fX4_tellsOrders θ).2) β).2, η, (fX4_tellsOrders θ).2, σ)) else (.inl xIA, β, τ, η, (fX4_tellsOrders θ).2, σ)
theorem caX6_follow : gCalV yX6_follow cX6_follow 2 (some .int) 0 := ⟨⟨q4_217, q1_1, by decide +kernel⟩, q4_215, q4_216⟩
set_option maxHeartbeats 4000000 in
set_option maxRecDepth 100000 in
theorem kX6_follow (l : Launch) (E : gE) (ax : Nat) (bo : Nat → Nat) (β : BS) (tr : Nat → Nat) (τ : BS) (ac : Nat → Nat) (γ : BS) (ah : Nat → Nat) (bd : Nat → Nat → Nat) (η : BS) (σ : Nat → BS) (at_ : Nat → Nat) (θ : BS) (hlt : l.stackTraces = false) (hv : vB β) (hvh : vH η) (hvt : vT θ)   : MX l E yX6_follow cX6_follow 2 (some .int) 3 18 7 158 [.ref ax] [wX ax (bo 0) (tr 0) (ac 0) (ah 0) (at_ 0), wB E bo β, wB E tr τ, wC E ac γ, wH E ah bd η, wT E at_ θ, wB E (bd 2) (σ 2), wB E (bd 3) (σ 3), wB E (bd 4) (σ 4), wB E (bd 5) (σ 5), wB E (bd 6) (σ 6), wB E (bd 7) (σ 7), wB E (bd 8) (σ 8), wB E (bd 9) (σ 9)] (Sum.map id (fun v => some (.int v)) (fX6_follow β τ η σ θ).1) [wX ax (bo 0) (tr 0) (ac 0) (ah 0) (at_ 0), wB E bo ((fX6_follow β τ η σ θ).2.1), wB E tr ((fX6_follow β τ η σ θ).2.2.1), wC E ac γ, wH E ah bd ((fX6_follow β τ η σ θ).2.2.2.1), wT E at_ ((fX6_follow β τ η σ θ).2.2.2.2.1), wB E (bd 2) ((fX6_follow β τ η σ θ).2.2.2.2.2 2), wB E (bd 3) ((fX6_follow β τ η σ θ).2.2.2.2.2 3), wB E (bd 4) ((fX6_follow β τ η σ θ).2.2.2.2.2 4), wB E (bd 5) ((fX6_follow β τ η σ θ).2.2.2.2.2 5), wB E (bd 6) ((fX6_follow β τ η σ θ).2.2.2.2.2 6), wB E (bd 7) ((fX6_follow β τ η σ θ).2.2.2.2.2 7), wB E (bd 8) ((fX6_follow β τ η σ θ).2.2.2.2.2 8), wB E (bd 9) ((fX6_follow β τ η σ θ).2.2.2.2.2 9)] := by
  have hv1 : cnt β ≤ 20 := hv.1
  refine mx_of hlt (by decide +kernel) (Nat.le_of_ble_eq_true rfl) (lv := [(0, .ref ax)]) rfl (fun X C hT => ?_)
  refine g_aload_n C dX6_follow_0 rfl 0 rfl ?_
  refine g_getf C (T := TX6) (N := 5) 0 0 rfl rfl rfl inX6 4 (by decide) q1_196 rfl dX6_follow_1 ?_
  refine g_callV C (cs1 := [wX ax (bo 0) (tr 0) (ac 0) (ah 0) (at_ 0), wB E bo β, wB E tr τ, wC E ac γ, wH E ah bd η, wT E at_ ((fX4_tellsOrders θ).2), wB E (bd 2) (σ 2), wB E (bd 3) (σ 3), wB E (bd 4) (σ 4), wB E (bd 5) (σ 5), wB E (bd 6) (σ 6), wB E (bd 7) (σ 7), wB E (bd 8) (σ 8), wB E (bd 9) (σ 9)]) (st1 := [.int (b2i ((fX4_tellsOrders θ).1))]) [] [5] (kX4_tellsOrders l E at_ θ hvt) caX4_tellsOrders q4_218 rfl ⟨Nat.le_of_ble_eq_true rfl, Nat.le_of_ble_eq_true rfl⟩ ⟨Nat.le_of_ble_eq_true rfl, Nat.le_of_ble_eq_true rfl⟩ 5 0 rfl rfl rfl rfl (by decide) rfl rfl rfl rfl (Nat.le_of_ble_eq_true rfl) dX6_follow_4 rfl ?_
  have e_2 : (fX4_tellsOrders θ).1 = false → fX6_follow β τ η σ θ = (.inl xIA, β, τ, η, (fX4_tellsOrders θ).2, σ) := fun c_1 => by rw [fX6_follow]; rw [if_neg (ne_true_of_eq_false c_1)]
  refine g_req (b := (fX4_tellsOrders θ).1) C hT (kX6_requireArgument l E hlt ((fX4_tellsOrders θ).1)) caX6_requireArgument q3_68 ⟨Nat.le_of_ble_eq_true rfl, Nat.le_of_ble_eq_true rfl⟩ ⟨Nat.le_of_ble_eq_true rfl, Nat.le_of_ble_eq_true rfl⟩ ⟨Nat.le_of_ble_eq_true rfl, Nat.le_of_ble_eq_true rfl⟩ (fun c => by rw [e_2 c]; exact ⟨rfl, rfl⟩) (Nat.le_of_ble_eq_true rfl) dX6_follow_7 (fun c_3 => ?_)
  refine g_aload_n C dX6_follow_10 rfl 0 rfl ?_
  refine g_getf C (T := TX6) (N := 5) 0 0 rfl rfl rfl inX6 1 (by decide) q1_193 rfl dX6_follow_11 ?_
  refine g_aload_n C dX6_follow_14 rfl 0 rfl ?_
  refine g_getf C (T := TX6) (N := 5) 0 0 rfl rfl rfl inX6 0 (by decide) q1_192 rfl dX6_follow_15 ?_
  refine g_callV C (cs1 := [wX ax (bo 0) (tr 0) (ac 0) (ah 0) (at_ 0), wB E bo β, wB E tr β, wC E ac γ, wH E ah bd η, wT E at_ ((fX4_tellsOrders θ).2), wB E (bd 2) (σ 2), wB E (bd 3) (σ 3), wB E (bd 4) (σ 4), wB E (bd 5) (σ 5), wB E (bd 6) (σ 6), wB E (bd 7) (σ 7), wB E (bd 8) (σ 8), wB E (bd 9) (σ 9)]) (st1 := []) [.ref (bo 0)] [2, 1] (kX0_copyFrom l E tr τ bo β) caX0_copyFrom q4_219 rfl ⟨Nat.le_of_ble_eq_true rfl, Nat.le_of_ble_eq_true rfl⟩ ⟨Nat.le_of_ble_eq_true rfl, Nat.le_of_ble_eq_true rfl⟩ 2 0 rfl rfl rfl rfl (by decide) rfl rfl rfl rfl (Nat.le_of_ble_eq_true rfl) dX6_follow_18 rfl ?_
  refine g_aload_n C dX6_follow_21 rfl 0 rfl ?_
  refine g_getf C (T := TX6) (N := 5) 0 0 rfl rfl rfl inX6 4 (by decide) q1_196 rfl dX6_follow_22 ?_
  refine g_aload_n C dX6_follow_25 rfl 0 rfl ?_
  refine g_getf C (T := TX6) (N := 5) 0 0 rfl rfl rfl inX6 1 (by decide) q1_193 rfl dX6_follow_26 ?_
  refine g_callV C (cs1 := [wX ax (bo 0) (tr 0) (ac 0) (ah 0) (at_ 0), wB E bo β, wB E tr ((fX4_followOn ((fX4_tellsOrders θ).2) β).2), wC E ac γ, wH E ah bd η, wT E at_ ((fX4_tellsOrders θ).2), wB E (bd 2) (σ 2), wB E (bd 3) (σ 3), wB E (bd 4) (σ 4), wB E (bd 5) (σ 5), wB E (bd 6) (σ 6), wB E (bd 7) (σ 7), wB E (bd 8) (σ 8), wB E (bd 9) (σ 9)]) (st1 := [.int ((fX4_followOn ((fX4_tellsOrders θ).2) β).1)]) [.ref (tr 0)] [5, 2] (kX4_followOn l E at_ ((fX4_tellsOrders θ).2) tr β (vT_tellsOrders hvt) hv) caX4_followOn q4_220 rfl ⟨Nat.le_of_ble_eq_true rfl, Nat.le_of_ble_eq_true rfl⟩ ⟨Nat.le_of_ble_eq_true rfl, Nat.le_of_ble_eq_true rfl⟩ 5 0 rfl rfl rfl rfl (by decide) rfl rfl rfl rfl (Nat.le_of_ble_eq_true rfl) dX6_follow_29 rfl ?_
  refine g_iconst C (v := -1) dX6_follow_32 (by decide) ?_
  refine g_icmp_ne C 40 dX6_follow_33 (by decide) (fun c_4 => ?_) (fun c_4 => ?_)
  · skip
    refine g_iconst C (v := 0) dX6_follow_40 (by decide) ?_
    have e_6 : false = false → fX6_follow β τ η σ θ = (.inl xIS, β, (fX4_followOn ((fX4_tellsOrders θ).2) β).2, η, (fX4_tellsOrders θ).2, σ) := fun c_5 => by rw [fX6_follow]; rw [if_pos c_3, if_neg c_4]
    exact g_req (b := false) C hT (kX6_requireState l E hlt false) caX6_requireState q3_143 ⟨Nat.le_of_ble_eq_true rfl, Nat.le_of_ble_eq_true rfl⟩ ⟨Nat.le_of_ble_eq_true rfl, Nat.le_of_ble_eq_true rfl⟩ ⟨Nat.le_of_ble_eq_true rfl, Nat.le_of_ble_eq_true rfl⟩ (fun c => by rw [e_6 c]; exact ⟨rfl, rfl⟩) (Nat.le_of_ble_eq_true rfl) dX6_follow_41 (fun h => absurd h (by decide))
  · skip
    refine g_iconst C (v := 1) dX6_follow_36 (by decide) ?_
    refine g_goto C 41 dX6_follow_37 (by decide) ?_
    refine g_req (b := true) C hT (kX6_requireState l E hlt true) caX6_requireState q3_143 ⟨Nat.le_of_ble_eq_true rfl, Nat.le_of_ble_eq_true rfl⟩ ⟨Nat.le_of_ble_eq_true rfl, Nat.le_of_ble_eq_true rfl⟩ ⟨Nat.le_of_ble_eq_true rfl, Nat.le_of_ble_eq_true rfl⟩ (fun h => absurd h (by decide)) (Nat.le_of_ble_eq_true rfl) dX6_follow_41 (fun _ => ?_)
    refine g_aload_n C dX6_follow_44 rfl 0 rfl ?_
    refine g_getf C (T := TX6) (N := 5) 0 0 rfl rfl rfl inX6 3 (by decide) q1_195 rfl dX6_follow_45 ?_
    refine g_aload_n C dX6_follow_48 rfl 0 rfl ?_
    refine g_getf C (T := TX6) (N := 5) 0 0 rfl rfl rfl inX6 0 (by decide) q1_192 rfl dX6_follow_49 ?_
    refine g_callV C (cs1 := [wX ax (bo 0) (tr 0) (ac 0) (ah 0) (at_ 0), wB E bo β, wB E tr ((fX4_followOn ((fX4_tellsOrders θ).2) β).2), wC E ac γ, wH E ah bd ((fX3_save η σ β).1), wT E at_ ((fX4_tellsOrders θ).2), wB E (bd 2) ((fX3_save η σ β).2 2), wB E (bd 3) ((fX3_save η σ β).2 3), wB E (bd 4) ((fX3_save η σ β).2 4), wB E (bd 5) ((fX3_save η σ β).2 5), wB E (bd 6) ((fX3_save η σ β).2 6), wB E (bd 7) ((fX3_save η σ β).2 7), wB E (bd 8) ((fX3_save η σ β).2 8), wB E (bd 9) ((fX3_save η σ β).2 9)]) (st1 := []) [.ref (bo 0)] [4, 6, 7, 8, 9, 10, 11, 12, 13, 1] (kX3_save l E ah bd η σ bo β hvh) caX3_save q3_162 rfl ⟨Nat.le_of_ble_eq_true rfl, Nat.le_of_ble_eq_true rfl⟩ ⟨Nat.le_of_ble_eq_true rfl, Nat.le_of_ble_eq_true rfl⟩ 4 0 rfl rfl rfl rfl (by decide) rfl rfl rfl rfl (Nat.le_of_ble_eq_true rfl) dX6_follow_52 rfl ?_
    refine g_aload_n C dX6_follow_55 rfl 0 rfl ?_
    refine g_getf C (T := TX6) (N := 5) 0 0 rfl rfl rfl inX6 0 (by decide) q1_192 rfl dX6_follow_56 ?_
    refine g_getf C (T := TX0) (N := 17) 1 0 rfl rfl rfl inX0 2 (by decide) q1_41 rfl dX6_follow_59 ?_
    refine g_istore_n C (lv1 := [(1, .int (β.1 2)), (0, .ref ax)]) dX6_follow_62 rfl (by decide) rfl ?_
    refine g_aload_n C dX6_follow_63 rfl 1 rfl ?_
    refine g_getf C (T := TX6) (N := 5) 0 0 rfl rfl rfl inX6 0 (by decide) q1_192 rfl dX6_follow_64 ?_
    refine g_aload_n C dX6_follow_67 rfl 1 rfl ?_
    refine g_getf C (T := TX6) (N := 5) 0 0 rfl rfl rfl inX6 1 (by decide) q1_193 rfl dX6_follow_68 ?_
    refine g_callV C (cs1 := [wX ax (bo 0) (tr 0) (ac 0) (ah 0) (at_ 0), wB E bo ((fX4_followOn ((fX4_tellsOrders θ).2) β).2), wB E tr ((fX4_followOn ((fX4_tellsOrders θ).2) β).2), wC E ac γ, wH E ah bd ((fX3_save η σ β).1), wT E at_ ((fX4_tellsOrders θ).2), wB E (bd 2) ((fX3_save η σ β).2 2), wB E (bd 3) ((fX3_save η σ β).2 3), wB E (bd 4) ((fX3_save η σ β).2 4), wB E (bd 5) ((fX3_save η σ β).2 5), wB E (bd 6) ((fX3_save η σ β).2 6), wB E (bd 7) ((fX3_save η σ β).2 7), wB E (bd 8) ((fX3_save η σ β).2 8), wB E (bd 9) ((fX3_save η σ β).2 9)]) (st1 := []) [.ref (tr 0)] [1, 2] (kX0_copyFrom l E bo β tr ((fX4_followOn ((fX4_tellsOrders θ).2) β).2)) caX0_copyFrom q4_219 rfl ⟨Nat.le_of_ble_eq_true rfl, Nat.le_of_ble_eq_true rfl⟩ ⟨Nat.le_of_ble_eq_true rfl, Nat.le_of_ble_eq_true rfl⟩ 1 0 rfl rfl rfl rfl (by decide) rfl rfl rfl rfl (Nat.le_of_ble_eq_true rfl) dX6_follow_71 rfl ?_
    refine g_aload_n C dX6_follow_74 rfl 1 rfl ?_
    refine g_getf C (T := TX6) (N := 5) 0 0 rfl rfl rfl inX6 4 (by decide) q1_196 rfl dX6_follow_75 ?_
    refine g_callV C (cs1 := [wX ax (bo 0) (tr 0) (ac 0) (ah 0) (at_ 0), wB E bo ((fX4_followOn ((fX4_tellsOrders θ).2) β).2), wB E tr ((fX4_followOn ((fX4_tellsOrders θ).2) β).2), wC E ac γ, wH E ah bd ((fX3_save η σ β).1), wT E at_ ((fX4_clear ((fX4_tellsOrders θ).2)).2), wB E (bd 2) ((fX3_save η σ β).2 2), wB E (bd 3) ((fX3_save η σ β).2 3), wB E (bd 4) ((fX3_save η σ β).2 4), wB E (bd 5) ((fX3_save η σ β).2 5), wB E (bd 6) ((fX3_save η σ β).2 6), wB E (bd 7) ((fX3_save η σ β).2 7), wB E (bd 8) ((fX3_save η σ β).2 8), wB E (bd 9) ((fX3_save η σ β).2 9)]) (st1 := [.int ((fX4_clear ((fX4_tellsOrders θ).2)).1)]) [] [5] (kX4_clear l E at_ ((fX4_tellsOrders θ).2) (vT_tellsOrders hvt)) caX4_clear q1_212 rfl ⟨Nat.le_of_ble_eq_true rfl, Nat.le_of_ble_eq_true rfl⟩ ⟨Nat.le_of_ble_eq_true rfl, Nat.le_of_ble_eq_true rfl⟩ 5 0 rfl rfl rfl rfl (by decide) rfl rfl rfl rfl (Nat.le_of_ble_eq_true rfl) dX6_follow_78 rfl ?_
    refine g_pop C dX6_follow_81 rfl ?_
    refine g_aload_n C dX6_follow_82 rfl 1 rfl ?_
    refine g_getf C (T := TX6) (N := 5) 0 0 rfl rfl rfl inX6 0 (by decide) q1_192 rfl dX6_follow_83 ?_
    refine g_getf C (T := TX0) (N := 17) 1 0 rfl rfl rfl inX0 2 (by decide) q1_41 rfl dX6_follow_86 ?_
    refine g_iload_n C dX6_follow_89 rfl 0 rfl ?_
    refine g_isub C dX6_follow_90 ?_
    have e_9 : fX6_follow β τ η σ θ = (.inr ((((fX4_followOn ((fX4_tellsOrders θ).2) β).2).1 2) - (β.1 2)), ((fX4_followOn ((fX4_tellsOrders θ).2) β).2), (fX4_followOn ((fX4_tellsOrders θ).2) β).2, (fX3_save η σ β).1, (fX4_clear ((fX4_tellsOrders θ).2)).2, (fX3_save η σ β).2) := by rw [fX6_follow]; rw [if_pos c_3, if_pos c_4]
    refine g_widen (k1 := 3) (n1 := 18) (Nat.le_of_ble_eq_true rfl) (Nat.le_of_ble_eq_true rfl) ?_
    exact g_iret C (gT_r hT (by rw [e_9] <;> rfl) (by rw [e_9] <;> rfl)) rfl rfl dX6_follow_91
def fX6_impossibleOrder (β : BS) (τ : BS) (θ : BS) : (String ⊕ Int32) × BS × BS :=
  if ((fX4_tellsOrders θ).1) = true then (if ((fX4_followOn ((fX4_tellsOrders θ).2) β).1) = (-1) then (.inl xIS, (fX4_followOn ((fX4_tellsOrders θ).2) β).2, (fX4_tellsOrders θ).2) else (.inr ((fX4_followOn ((fX4_tellsOrders θ).2) β).1), (fX4_followOn ((fX4_tellsOrders θ).2) β).2, (fX4_tellsOrders θ).2)) else (.inl xIA, τ, (fX4_tellsOrders θ).2)
theorem caX6_impossibleOrder : gCalV yX6_impossibleOrder cX6_impossibleOrder 2 (some .int) 0 := ⟨⟨q5_27, q1_1, by decide +kernel⟩, q5_25, q5_26⟩
set_option maxHeartbeats 4000000 in
set_option maxRecDepth 100000 in
theorem kX6_impossibleOrder (l : Launch) (E : gE) (ax : Nat) (bo : Nat → Nat) (β : BS) (tr : Nat → Nat) (τ : BS) (ac : Nat → Nat) (γ : BS) (ah : Nat → Nat) (bd : Nat → Nat → Nat) (η : BS) (σ : Nat → BS) (at_ : Nat → Nat) (θ : BS) (hlt : l.stackTraces = false) (hv : vB β) (hvt : vT θ)   : MX l E yX6_impossibleOrder cX6_impossibleOrder 2 (some .int) 3 18 7 158 [.ref ax] [wX ax (bo 0) (tr 0) (ac 0) (ah 0) (at_ 0), wB E bo β, wB E tr τ, wC E ac γ, wH E ah bd η, wT E at_ θ, wB E (bd 2) (σ 2), wB E (bd 3) (σ 3), wB E (bd 4) (σ 4), wB E (bd 5) (σ 5), wB E (bd 6) (σ 6), wB E (bd 7) (σ 7), wB E (bd 8) (σ 8), wB E (bd 9) (σ 9)] (Sum.map id (fun v => some (.int v)) (fX6_impossibleOrder β τ θ).1) [wX ax (bo 0) (tr 0) (ac 0) (ah 0) (at_ 0), wB E bo β, wB E tr ((fX6_impossibleOrder β τ θ).2.1), wC E ac γ, wH E ah bd η, wT E at_ ((fX6_impossibleOrder β τ θ).2.2), wB E (bd 2) (σ 2), wB E (bd 3) (σ 3), wB E (bd 4) (σ 4), wB E (bd 5) (σ 5), wB E (bd 6) (σ 6), wB E (bd 7) (σ 7), wB E (bd 8) (σ 8), wB E (bd 9) (σ 9)] := by
  have hv1 : cnt β ≤ 20 := hv.1
  refine mx_of hlt (by decide +kernel) (Nat.le_of_ble_eq_true rfl) (lv := [(0, .ref ax)]) rfl (fun X C hT => ?_)
  refine g_aload_n C dX6_impossibleOrder_0 rfl 0 rfl ?_
  refine g_getf C (T := TX6) (N := 5) 0 0 rfl rfl rfl inX6 4 (by decide) q1_196 rfl dX6_impossibleOrder_1 ?_
  refine g_callV C (cs1 := [wX ax (bo 0) (tr 0) (ac 0) (ah 0) (at_ 0), wB E bo β, wB E tr τ, wC E ac γ, wH E ah bd η, wT E at_ ((fX4_tellsOrders θ).2), wB E (bd 2) (σ 2), wB E (bd 3) (σ 3), wB E (bd 4) (σ 4), wB E (bd 5) (σ 5), wB E (bd 6) (σ 6), wB E (bd 7) (σ 7), wB E (bd 8) (σ 8), wB E (bd 9) (σ 9)]) (st1 := [.int (b2i ((fX4_tellsOrders θ).1))]) [] [5] (kX4_tellsOrders l E at_ θ hvt) caX4_tellsOrders q4_218 rfl ⟨Nat.le_of_ble_eq_true rfl, Nat.le_of_ble_eq_true rfl⟩ ⟨Nat.le_of_ble_eq_true rfl, Nat.le_of_ble_eq_true rfl⟩ 5 0 rfl rfl rfl rfl (by decide) rfl rfl rfl rfl (Nat.le_of_ble_eq_true rfl) dX6_impossibleOrder_4 rfl ?_
  have e_2 : (fX4_tellsOrders θ).1 = false → fX6_impossibleOrder β τ θ = (.inl xIA, τ, (fX4_tellsOrders θ).2) := fun c_1 => by rw [fX6_impossibleOrder]; rw [if_neg (ne_true_of_eq_false c_1)]
  refine g_req (b := (fX4_tellsOrders θ).1) C hT (kX6_requireArgument l E hlt ((fX4_tellsOrders θ).1)) caX6_requireArgument q3_68 ⟨Nat.le_of_ble_eq_true rfl, Nat.le_of_ble_eq_true rfl⟩ ⟨Nat.le_of_ble_eq_true rfl, Nat.le_of_ble_eq_true rfl⟩ ⟨Nat.le_of_ble_eq_true rfl, Nat.le_of_ble_eq_true rfl⟩ (fun c => by rw [e_2 c]; exact ⟨rfl, rfl⟩) (Nat.le_of_ble_eq_true rfl) dX6_impossibleOrder_7 (fun c_3 => ?_)
  refine g_aload_n C dX6_impossibleOrder_10 rfl 0 rfl ?_
  refine g_getf C (T := TX6) (N := 5) 0 0 rfl rfl rfl inX6 1 (by decide) q1_193 rfl dX6_impossibleOrder_11 ?_
  refine g_aload_n C dX6_impossibleOrder_14 rfl 0 rfl ?_
  refine g_getf C (T := TX6) (N := 5) 0 0 rfl rfl rfl inX6 0 (by decide) q1_192 rfl dX6_impossibleOrder_15 ?_
  refine g_callV C (cs1 := [wX ax (bo 0) (tr 0) (ac 0) (ah 0) (at_ 0), wB E bo β, wB E tr β, wC E ac γ, wH E ah bd η, wT E at_ ((fX4_tellsOrders θ).2), wB E (bd 2) (σ 2), wB E (bd 3) (σ 3), wB E (bd 4) (σ 4), wB E (bd 5) (σ 5), wB E (bd 6) (σ 6), wB E (bd 7) (σ 7), wB E (bd 8) (σ 8), wB E (bd 9) (σ 9)]) (st1 := []) [.ref (bo 0)] [2, 1] (kX0_copyFrom l E tr τ bo β) caX0_copyFrom q4_219 rfl ⟨Nat.le_of_ble_eq_true rfl, Nat.le_of_ble_eq_true rfl⟩ ⟨Nat.le_of_ble_eq_true rfl, Nat.le_of_ble_eq_true rfl⟩ 2 0 rfl rfl rfl rfl (by decide) rfl rfl rfl rfl (Nat.le_of_ble_eq_true rfl) dX6_impossibleOrder_18 rfl ?_
  refine g_aload_n C dX6_impossibleOrder_21 rfl 0 rfl ?_
  refine g_getf C (T := TX6) (N := 5) 0 0 rfl rfl rfl inX6 4 (by decide) q1_196 rfl dX6_impossibleOrder_22 ?_
  refine g_aload_n C dX6_impossibleOrder_25 rfl 0 rfl ?_
  refine g_getf C (T := TX6) (N := 5) 0 0 rfl rfl rfl inX6 1 (by decide) q1_193 rfl dX6_impossibleOrder_26 ?_
  refine g_callV C (cs1 := [wX ax (bo 0) (tr 0) (ac 0) (ah 0) (at_ 0), wB E bo β, wB E tr ((fX4_followOn ((fX4_tellsOrders θ).2) β).2), wC E ac γ, wH E ah bd η, wT E at_ ((fX4_tellsOrders θ).2), wB E (bd 2) (σ 2), wB E (bd 3) (σ 3), wB E (bd 4) (σ 4), wB E (bd 5) (σ 5), wB E (bd 6) (σ 6), wB E (bd 7) (σ 7), wB E (bd 8) (σ 8), wB E (bd 9) (σ 9)]) (st1 := [.int ((fX4_followOn ((fX4_tellsOrders θ).2) β).1)]) [.ref (tr 0)] [5, 2] (kX4_followOn l E at_ ((fX4_tellsOrders θ).2) tr β (vT_tellsOrders hvt) hv) caX4_followOn q4_220 rfl ⟨Nat.le_of_ble_eq_true rfl, Nat.le_of_ble_eq_true rfl⟩ ⟨Nat.le_of_ble_eq_true rfl, Nat.le_of_ble_eq_true rfl⟩ 5 0 rfl rfl rfl rfl (by decide) rfl rfl rfl rfl (Nat.le_of_ble_eq_true rfl) dX6_impossibleOrder_29 rfl ?_
  refine g_istore_n C (lv1 := [(1, .int ((fX4_followOn ((fX4_tellsOrders θ).2) β).1)), (0, .ref ax)]) dX6_impossibleOrder_32 rfl (by decide) rfl ?_
  refine g_iload_n C dX6_impossibleOrder_33 rfl 0 rfl ?_
  refine g_iconst C (v := -1) dX6_impossibleOrder_34 (by decide) ?_
  refine g_icmp_eq C 42 dX6_impossibleOrder_35 (by decide) (fun c_4 => ?_) (fun c_4 => ?_)
  · skip
    refine g_iconst C (v := 0) dX6_impossibleOrder_42 (by decide) ?_
    have e_6 : false = false → fX6_impossibleOrder β τ θ = (.inl xIS, (fX4_followOn ((fX4_tellsOrders θ).2) β).2, (fX4_tellsOrders θ).2) := fun c_5 => by rw [fX6_impossibleOrder]; rw [if_pos c_3, if_pos c_4]
    exact g_req (b := false) C hT (kX6_requireState l E hlt false) caX6_requireState q3_143 ⟨Nat.le_of_ble_eq_true rfl, Nat.le_of_ble_eq_true rfl⟩ ⟨Nat.le_of_ble_eq_true rfl, Nat.le_of_ble_eq_true rfl⟩ ⟨Nat.le_of_ble_eq_true rfl, Nat.le_of_ble_eq_true rfl⟩ (fun c => by rw [e_6 c]; exact ⟨rfl, rfl⟩) (Nat.le_of_ble_eq_true rfl) dX6_impossibleOrder_43 (fun h => absurd h (by decide))
  · skip
    refine g_iconst C (v := 1) dX6_impossibleOrder_38 (by decide) ?_
    refine g_goto C 43 dX6_impossibleOrder_39 (by decide) ?_
    refine g_req (b := true) C hT (kX6_requireState l E hlt true) caX6_requireState q3_143 ⟨Nat.le_of_ble_eq_true rfl, Nat.le_of_ble_eq_true rfl⟩ ⟨Nat.le_of_ble_eq_true rfl, Nat.le_of_ble_eq_true rfl⟩ ⟨Nat.le_of_ble_eq_true rfl, Nat.le_of_ble_eq_true rfl⟩ (fun h => absurd h (by decide)) (Nat.le_of_ble_eq_true rfl) dX6_impossibleOrder_43 (fun _ => ?_)
    refine g_iload_n C dX6_impossibleOrder_46 rfl 0 rfl ?_
    have e_9 : fX6_impossibleOrder β τ θ = (.inr ((fX4_followOn ((fX4_tellsOrders θ).2) β).1), (fX4_followOn ((fX4_tellsOrders θ).2) β).2, (fX4_tellsOrders θ).2) := by rw [fX6_impossibleOrder]; rw [if_pos c_3, if_neg c_4]
    refine g_widen (k1 := 3) (n1 := 18) (Nat.le_of_ble_eq_true rfl) (Nat.le_of_ble_eq_true rfl) ?_
    exact g_iret C (gT_r hT (by rw [e_9] <;> rfl) (by rw [e_9] <;> rfl)) rfl rfl dX6_impossibleOrder_47
def fX6_keep (β : BS) (η : BS) (σ : Nat → BS) (a : Int32) : (String ⊕ Unit) × BS × (Nat → BS) :=
  if (fX6_isSlot a) = true then (.inr (), (fX3_keepIn η σ β a.toNatClampNeg).1, (fX3_keepIn η σ β a.toNatClampNeg).2) else (.inl xIA, η, σ)
theorem caX6_keep : gCalV yX6_keep cX6_keep 2 none 1 := ⟨⟨q5_34, q1_1, by decide +kernel⟩, q5_32, q5_33⟩
set_option maxHeartbeats 4000000 in
set_option maxRecDepth 100000 in
theorem kX6_keep (l : Launch) (E : gE) (ax : Nat) (bo : Nat → Nat) (β : BS) (tr : Nat → Nat) (τ : BS) (ac : Nat → Nat) (γ : BS) (ah : Nat → Nat) (bd : Nat → Nat → Nat) (η : BS) (σ : Nat → BS) (at_ : Nat → Nat) (θ : BS) (hlt : l.stackTraces = false) (hv : vB β) (hvh : vH η)  (a : Int32) : MX l E yX6_keep cX6_keep 2 none 3 18 7 102 [.ref ax, .int a] [wX ax (bo 0) (tr 0) (ac 0) (ah 0) (at_ 0), wB E bo β, wB E tr τ, wC E ac γ, wH E ah bd η, wT E at_ θ, wB E (bd 2) (σ 2), wB E (bd 3) (σ 3), wB E (bd 4) (σ 4), wB E (bd 5) (σ 5), wB E (bd 6) (σ 6), wB E (bd 7) (σ 7), wB E (bd 8) (σ 8), wB E (bd 9) (σ 9)] (Sum.map id (fun _ => none) (fX6_keep β η σ a).1) [wX ax (bo 0) (tr 0) (ac 0) (ah 0) (at_ 0), wB E bo β, wB E tr τ, wC E ac γ, wH E ah bd ((fX6_keep β η σ a).2.1), wT E at_ θ, wB E (bd 2) ((fX6_keep β η σ a).2.2 2), wB E (bd 3) ((fX6_keep β η σ a).2.2 3), wB E (bd 4) ((fX6_keep β η σ a).2.2 4), wB E (bd 5) ((fX6_keep β η σ a).2.2 5), wB E (bd 6) ((fX6_keep β η σ a).2.2 6), wB E (bd 7) ((fX6_keep β η σ a).2.2 7), wB E (bd 8) ((fX6_keep β η σ a).2.2 8), wB E (bd 9) ((fX6_keep β η σ a).2.2 9)] := by
  have hv1 : cnt β ≤ 20 := hv.1
  refine mx_of hlt (by decide +kernel) (Nat.le_of_ble_eq_true rfl) (lv := [(0, .ref ax), (1, .int a)]) rfl (fun X C hT => ?_)
  refine g_iload_n C dX6_keep_0 rfl 1 rfl ?_
  refine g_callS C (cs1 := [wX ax (bo 0) (tr 0) (ac 0) (ah 0) (at_ 0), wB E bo β, wB E tr τ, wC E ac γ, wH E ah bd η, wT E at_ θ, wB E (bd 2) (σ 2), wB E (bd 3) (σ 3), wB E (bd 4) (σ 4), wB E (bd 5) (σ 5), wB E (bd 6) (σ 6), wB E (bd 7) (σ 7), wB E (bd 8) (σ 8), wB E (bd 9) (σ 9)]) (st1 := [.int (b2i (fX6_isSlot a))]) [.int a] [] (kX6_isSlot l E a) caX6_isSlot q5_35 rfl ⟨Nat.le_of_ble_eq_true rfl, Nat.le_of_ble_eq_true rfl⟩ ⟨Nat.le_of_ble_eq_true rfl, Nat.le_of_ble_eq_true rfl⟩ (by decide) rfl rfl rfl rfl (Nat.le_of_ble_eq_true rfl) dX6_keep_1 rfl ?_
  have e_2 : (fX6_isSlot a) = false → fX6_keep β η σ a = (.inl xIA, η, σ) := fun c_1 => by rw [fX6_keep]; rw [if_neg (ne_true_of_eq_false c_1)]
  refine g_req (b := (fX6_isSlot a)) C hT (kX6_requireArgument l E hlt (fX6_isSlot a)) caX6_requireArgument q3_68 ⟨Nat.le_of_ble_eq_true rfl, Nat.le_of_ble_eq_true rfl⟩ ⟨Nat.le_of_ble_eq_true rfl, Nat.le_of_ble_eq_true rfl⟩ ⟨Nat.le_of_ble_eq_true rfl, Nat.le_of_ble_eq_true rfl⟩ (fun c => by rw [e_2 c]; exact ⟨rfl, rfl⟩) (Nat.le_of_ble_eq_true rfl) dX6_keep_4 (fun c_3 => ?_)
  have hx_4 := isSlot_i c_3
  refine g_aload_n C dX6_keep_7 rfl 0 rfl ?_
  refine g_getf C (T := TX6) (N := 5) 0 0 rfl rfl rfl inX6 3 (by decide) q1_195 rfl dX6_keep_8 ?_
  refine g_iload_n C dX6_keep_11 rfl 1 rfl ?_
  refine g_aload_n C dX6_keep_12 rfl 0 rfl ?_
  refine g_getf C (T := TX6) (N := 5) 0 0 rfl rfl rfl inX6 0 (by decide) q1_192 rfl dX6_keep_13 ?_
  refine g_st (st1 := [.ref (bo 0), .int (nI a.toNatClampNeg), .ref (ah 0)]) (by rw [← hx_4.1]) ?_
  refine g_callV C (cs1 := [wX ax (bo 0) (tr 0) (ac 0) (ah 0) (at_ 0), wB E bo β, wB E tr τ, wC E ac γ, wH E ah bd ((fX3_keepIn η σ β a.toNatClampNeg).1), wT E at_ θ, wB E (bd 2) ((fX3_keepIn η σ β a.toNatClampNeg).2 2), wB E (bd 3) ((fX3_keepIn η σ β a.toNatClampNeg).2 3), wB E (bd 4) ((fX3_keepIn η σ β a.toNatClampNeg).2 4), wB E (bd 5) ((fX3_keepIn η σ β a.toNatClampNeg).2 5), wB E (bd 6) ((fX3_keepIn η σ β a.toNatClampNeg).2 6), wB E (bd 7) ((fX3_keepIn η σ β a.toNatClampNeg).2 7), wB E (bd 8) ((fX3_keepIn η σ β a.toNatClampNeg).2 8), wB E (bd 9) ((fX3_keepIn η σ β a.toNatClampNeg).2 9)]) (st1 := []) [.int (nI a.toNatClampNeg), .ref (bo 0)] [4, 6, 7, 8, 9, 10, 11, 12, 13, 1] (kX3_keepIn l E ah bd η σ bo β a.toNatClampNeg hx_4.2) caX3_keepIn q5_38 rfl ⟨Nat.le_of_ble_eq_true rfl, Nat.le_of_ble_eq_true rfl⟩ ⟨Nat.le_of_ble_eq_true rfl, Nat.le_of_ble_eq_true rfl⟩ 4 0 rfl rfl rfl rfl (by decide) rfl rfl rfl rfl (Nat.le_of_ble_eq_true rfl) dX6_keep_16 rfl ?_
  have e_5 : fX6_keep β η σ a = (.inr (), (fX3_keepIn η σ β a.toNatClampNeg).1, (fX3_keepIn η σ β a.toNatClampNeg).2) := by rw [fX6_keep]; rw [if_pos c_3]
  refine g_widen (k1 := 3) (n1 := 18) (Nat.le_of_ble_eq_true rfl) (Nat.le_of_ble_eq_true rfl) ?_
  exact g_vret C (gT_r hT (by rw [e_5] <;> rfl) (by rw [e_5] <;> rfl)) rfl rfl dX6_keep_19
def fX6_goBack (β : BS) (η : BS) (σ : Nat → BS) (a : Int32) : (String ⊕ Unit) × BS × BS × (Nat → BS) :=
  if (fX6_isSlot a) = true then (if (fX3_hasKept η a.toNatClampNeg) = true then (.inr (), (fX3_restoreKept ((fX3_save η σ β).1) ((fX3_save η σ β).2) β a.toNatClampNeg), (fX3_save η σ β).1, (fX3_save η σ β).2) else (.inl xIS, β, η, σ)) else (.inl xIA, β, η, σ)
theorem caX6_goBack : gCalV yX6_goBack cX6_goBack 2 none 1 := ⟨⟨q5_48, q1_1, by decide +kernel⟩, q5_46, q5_47⟩
set_option maxHeartbeats 4000000 in
set_option maxRecDepth 100000 in
theorem kX6_goBack (l : Launch) (E : gE) (ax : Nat) (bo : Nat → Nat) (β : BS) (tr : Nat → Nat) (τ : BS) (ac : Nat → Nat) (γ : BS) (ah : Nat → Nat) (bd : Nat → Nat → Nat) (η : BS) (σ : Nat → BS) (at_ : Nat → Nat) (θ : BS) (hlt : l.stackTraces = false) (hv : vB β) (hvh : vH η)  (a : Int32) : MX l E yX6_goBack cX6_goBack 2 none 3 18 7 102 [.ref ax, .int a] [wX ax (bo 0) (tr 0) (ac 0) (ah 0) (at_ 0), wB E bo β, wB E tr τ, wC E ac γ, wH E ah bd η, wT E at_ θ, wB E (bd 2) (σ 2), wB E (bd 3) (σ 3), wB E (bd 4) (σ 4), wB E (bd 5) (σ 5), wB E (bd 6) (σ 6), wB E (bd 7) (σ 7), wB E (bd 8) (σ 8), wB E (bd 9) (σ 9)] (Sum.map id (fun _ => none) (fX6_goBack β η σ a).1) [wX ax (bo 0) (tr 0) (ac 0) (ah 0) (at_ 0), wB E bo ((fX6_goBack β η σ a).2.1), wB E tr τ, wC E ac γ, wH E ah bd ((fX6_goBack β η σ a).2.2.1), wT E at_ θ, wB E (bd 2) ((fX6_goBack β η σ a).2.2.2 2), wB E (bd 3) ((fX6_goBack β η σ a).2.2.2 3), wB E (bd 4) ((fX6_goBack β η σ a).2.2.2 4), wB E (bd 5) ((fX6_goBack β η σ a).2.2.2 5), wB E (bd 6) ((fX6_goBack β η σ a).2.2.2 6), wB E (bd 7) ((fX6_goBack β η σ a).2.2.2 7), wB E (bd 8) ((fX6_goBack β η σ a).2.2.2 8), wB E (bd 9) ((fX6_goBack β η σ a).2.2.2 9)] := by
  have hv1 : cnt β ≤ 20 := hv.1
  refine mx_of hlt (by decide +kernel) (Nat.le_of_ble_eq_true rfl) (lv := [(0, .ref ax), (1, .int a)]) rfl (fun X C hT => ?_)
  refine g_iload_n C dX6_goBack_0 rfl 1 rfl ?_
  refine g_callS C (cs1 := [wX ax (bo 0) (tr 0) (ac 0) (ah 0) (at_ 0), wB E bo β, wB E tr τ, wC E ac γ, wH E ah bd η, wT E at_ θ, wB E (bd 2) (σ 2), wB E (bd 3) (σ 3), wB E (bd 4) (σ 4), wB E (bd 5) (σ 5), wB E (bd 6) (σ 6), wB E (bd 7) (σ 7), wB E (bd 8) (σ 8), wB E (bd 9) (σ 9)]) (st1 := [.int (b2i (fX6_isSlot a))]) [.int a] [] (kX6_isSlot l E a) caX6_isSlot q5_35 rfl ⟨Nat.le_of_ble_eq_true rfl, Nat.le_of_ble_eq_true rfl⟩ ⟨Nat.le_of_ble_eq_true rfl, Nat.le_of_ble_eq_true rfl⟩ (by decide) rfl rfl rfl rfl (Nat.le_of_ble_eq_true rfl) dX6_goBack_1 rfl ?_
  have e_2 : (fX6_isSlot a) = false → fX6_goBack β η σ a = (.inl xIA, β, η, σ) := fun c_1 => by rw [fX6_goBack]; rw [if_neg (ne_true_of_eq_false c_1)]
  refine g_req (b := (fX6_isSlot a)) C hT (kX6_requireArgument l E hlt (fX6_isSlot a)) caX6_requireArgument q3_68 ⟨Nat.le_of_ble_eq_true rfl, Nat.le_of_ble_eq_true rfl⟩ ⟨Nat.le_of_ble_eq_true rfl, Nat.le_of_ble_eq_true rfl⟩ ⟨Nat.le_of_ble_eq_true rfl, Nat.le_of_ble_eq_true rfl⟩ (fun c => by rw [e_2 c]; exact ⟨rfl, rfl⟩) (Nat.le_of_ble_eq_true rfl) dX6_goBack_4 (fun c_3 => ?_)
  have hx_4 := isSlot_i c_3
  refine g_aload_n C dX6_goBack_7 rfl 0 rfl ?_
  refine g_getf C (T := TX6) (N := 5) 0 0 rfl rfl rfl inX6 3 (by decide) q1_195 rfl dX6_goBack_8 ?_
  refine g_iload_n C dX6_goBack_11 rfl 1 rfl ?_
  refine g_st (st1 := [.int (nI a.toNatClampNeg), .ref (ah 0)]) (by rw [← hx_4.1]) ?_
  refine g_callV C (cs1 := [wX ax (bo 0) (tr 0) (ac 0) (ah 0) (at_ 0), wB E bo β, wB E tr τ, wC E ac γ, wH E ah bd η, wT E at_ θ, wB E (bd 2) (σ 2), wB E (bd 3) (σ 3), wB E (bd 4) (σ 4), wB E (bd 5) (σ 5), wB E (bd 6) (σ 6), wB E (bd 7) (σ 7), wB E (bd 8) (σ 8), wB E (bd 9) (σ 9)]) (st1 := [.int (b2i (fX3_hasKept η a.toNatClampNeg))]) [.int (nI a.toNatClampNeg)] [4] (kX3_hasKept l E ah bd η hvh a.toNatClampNeg hx_4.2) caX3_hasKept q3_47 rfl ⟨Nat.le_of_ble_eq_true rfl, Nat.le_of_ble_eq_true rfl⟩ ⟨Nat.le_of_ble_eq_true rfl, Nat.le_of_ble_eq_true rfl⟩ 4 0 rfl rfl rfl rfl (by decide) rfl rfl rfl rfl (Nat.le_of_ble_eq_true rfl) dX6_goBack_12 rfl ?_
  have e_6 : (fX3_hasKept η a.toNatClampNeg) = false → fX6_goBack β η σ a = (.inl xIS, β, η, σ) := fun c_5 => by rw [fX6_goBack]; rw [if_pos c_3, if_neg (ne_true_of_eq_false c_5)]
  refine g_req (b := (fX3_hasKept η a.toNatClampNeg)) C hT (kX6_requireState l E hlt (fX3_hasKept η a.toNatClampNeg)) caX6_requireState q3_143 ⟨Nat.le_of_ble_eq_true rfl, Nat.le_of_ble_eq_true rfl⟩ ⟨Nat.le_of_ble_eq_true rfl, Nat.le_of_ble_eq_true rfl⟩ ⟨Nat.le_of_ble_eq_true rfl, Nat.le_of_ble_eq_true rfl⟩ (fun c => by rw [e_6 c]; exact ⟨rfl, rfl⟩) (Nat.le_of_ble_eq_true rfl) dX6_goBack_15 (fun c_7 => ?_)
  refine g_aload_n C dX6_goBack_18 rfl 0 rfl ?_
  refine g_getf C (T := TX6) (N := 5) 0 0 rfl rfl rfl inX6 3 (by decide) q1_195 rfl dX6_goBack_19 ?_
  refine g_aload_n C dX6_goBack_22 rfl 0 rfl ?_
  refine g_getf C (T := TX6) (N := 5) 0 0 rfl rfl rfl inX6 0 (by decide) q1_192 rfl dX6_goBack_23 ?_
  refine g_callV C (cs1 := [wX ax (bo 0) (tr 0) (ac 0) (ah 0) (at_ 0), wB E bo β, wB E tr τ, wC E ac γ, wH E ah bd ((fX3_save η σ β).1), wT E at_ θ, wB E (bd 2) ((fX3_save η σ β).2 2), wB E (bd 3) ((fX3_save η σ β).2 3), wB E (bd 4) ((fX3_save η σ β).2 4), wB E (bd 5) ((fX3_save η σ β).2 5), wB E (bd 6) ((fX3_save η σ β).2 6), wB E (bd 7) ((fX3_save η σ β).2 7), wB E (bd 8) ((fX3_save η σ β).2 8), wB E (bd 9) ((fX3_save η σ β).2 9)]) (st1 := []) [.ref (bo 0)] [4, 6, 7, 8, 9, 10, 11, 12, 13, 1] (kX3_save l E ah bd η σ bo β hvh) caX3_save q3_162 rfl ⟨Nat.le_of_ble_eq_true rfl, Nat.le_of_ble_eq_true rfl⟩ ⟨Nat.le_of_ble_eq_true rfl, Nat.le_of_ble_eq_true rfl⟩ 4 0 rfl rfl rfl rfl (by decide) rfl rfl rfl rfl (Nat.le_of_ble_eq_true rfl) dX6_goBack_26 rfl ?_
  refine g_aload_n C dX6_goBack_29 rfl 0 rfl ?_
  refine g_getf C (T := TX6) (N := 5) 0 0 rfl rfl rfl inX6 3 (by decide) q1_195 rfl dX6_goBack_30 ?_
  refine g_iload_n C dX6_goBack_33 rfl 1 rfl ?_
  refine g_aload_n C dX6_goBack_34 rfl 0 rfl ?_
  refine g_getf C (T := TX6) (N := 5) 0 0 rfl rfl rfl inX6 0 (by decide) q1_192 rfl dX6_goBack_35 ?_
  refine g_st (st1 := [.ref (bo 0), .int (nI a.toNatClampNeg), .ref (ah 0)]) (by rw [← hx_4.1]) ?_
  refine g_callV C (cs1 := [wX ax (bo 0) (tr 0) (ac 0) (ah 0) (at_ 0), wB E bo (fX3_restoreKept ((fX3_save η σ β).1) ((fX3_save η σ β).2) β a.toNatClampNeg), wB E tr τ, wC E ac γ, wH E ah bd ((fX3_save η σ β).1), wT E at_ θ, wB E (bd 2) ((fX3_save η σ β).2 2), wB E (bd 3) ((fX3_save η σ β).2 3), wB E (bd 4) ((fX3_save η σ β).2 4), wB E (bd 5) ((fX3_save η σ β).2 5), wB E (bd 6) ((fX3_save η σ β).2 6), wB E (bd 7) ((fX3_save η σ β).2 7), wB E (bd 8) ((fX3_save η σ β).2 8), wB E (bd 9) ((fX3_save η σ β).2 9)]) (st1 := []) [.int (nI a.toNatClampNeg), .ref (bo 0)] [4, 6, 7, 8, 9, 10, 11, 12, 13, 1] (kX3_restoreKept l E ah bd ((fX3_save η σ β).1) ((fX3_save η σ β).2) bo β a.toNatClampNeg hx_4.2) caX3_restoreKept q5_49 rfl ⟨Nat.le_of_ble_eq_true rfl, Nat.le_of_ble_eq_true rfl⟩ ⟨Nat.le_of_ble_eq_true rfl, Nat.le_of_ble_eq_true rfl⟩ 4 0 rfl rfl rfl rfl (by decide) rfl rfl rfl rfl (Nat.le_of_ble_eq_true rfl) dX6_goBack_38 rfl ?_
  have e_8 : fX6_goBack β η σ a = (.inr (), (fX3_restoreKept ((fX3_save η σ β).1) ((fX3_save η σ β).2) β a.toNatClampNeg), (fX3_save η σ β).1, (fX3_save η σ β).2) := by rw [fX6_goBack]; rw [if_pos c_3, if_pos c_7]
  refine g_widen (k1 := 3) (n1 := 18) (Nat.le_of_ble_eq_true rfl) (Nat.le_of_ble_eq_true rfl) ?_
  exact g_vret C (gT_r hT (by rw [e_8] <;> rfl) (by rw [e_8] <;> rfl)) rfl rfl dX6_goBack_41
def fX6_undo (β : BS) (η : BS) (σ : Nat → BS) : (String ⊕ Unit) × BS × BS :=
  if (fX3_savedCount η) ≤ 0 then (.inl xIS, β, η) else (.inr (), (fX3_restoreSaved η σ β).2, (fX3_restoreSaved η σ β).1)
theorem caX6_undo : gCalV yX6_undo cX6_undo 1 none 0 := ⟨⟨q5_59, q1_1, by decide +kernel⟩, q5_57, q5_58⟩
set_option maxHeartbeats 4000000 in
set_option maxRecDepth 100000 in
theorem kX6_undo (l : Launch) (E : gE) (ax : Nat) (bo : Nat → Nat) (β : BS) (tr : Nat → Nat) (τ : BS) (ac : Nat → Nat) (γ : BS) (ah : Nat → Nat) (bd : Nat → Nat → Nat) (η : BS) (σ : Nat → BS) (at_ : Nat → Nat) (θ : BS) (hlt : l.stackTraces = false) (hv : vB β) (hvh : vH η)   : MX l E yX6_undo cX6_undo 1 none 3 18 7 102 [.ref ax] [wX ax (bo 0) (tr 0) (ac 0) (ah 0) (at_ 0), wB E bo β, wB E tr τ, wC E ac γ, wH E ah bd η, wT E at_ θ, wB E (bd 2) (σ 2), wB E (bd 3) (σ 3), wB E (bd 4) (σ 4), wB E (bd 5) (σ 5), wB E (bd 6) (σ 6), wB E (bd 7) (σ 7), wB E (bd 8) (σ 8), wB E (bd 9) (σ 9)] (Sum.map id (fun _ => none) (fX6_undo β η σ).1) [wX ax (bo 0) (tr 0) (ac 0) (ah 0) (at_ 0), wB E bo ((fX6_undo β η σ).2.1), wB E tr τ, wC E ac γ, wH E ah bd ((fX6_undo β η σ).2.2), wT E at_ θ, wB E (bd 2) (σ 2), wB E (bd 3) (σ 3), wB E (bd 4) (σ 4), wB E (bd 5) (σ 5), wB E (bd 6) (σ 6), wB E (bd 7) (σ 7), wB E (bd 8) (σ 8), wB E (bd 9) (σ 9)] := by
  have hv1 : cnt β ≤ 20 := hv.1
  refine mx_of hlt (by decide +kernel) (Nat.le_of_ble_eq_true rfl) (lv := [(0, .ref ax)]) rfl (fun X C hT => ?_)
  refine g_aload_n C dX6_undo_0 rfl 0 rfl ?_
  refine g_getf C (T := TX6) (N := 5) 0 0 rfl rfl rfl inX6 3 (by decide) q1_195 rfl dX6_undo_1 ?_
  refine g_callV C (cs1 := [wX ax (bo 0) (tr 0) (ac 0) (ah 0) (at_ 0), wB E bo β, wB E tr τ, wC E ac γ, wH E ah bd η, wT E at_ θ, wB E (bd 2) (σ 2), wB E (bd 3) (σ 3), wB E (bd 4) (σ 4), wB E (bd 5) (σ 5), wB E (bd 6) (σ 6), wB E (bd 7) (σ 7), wB E (bd 8) (σ 8), wB E (bd 9) (σ 9)]) (st1 := [.int (fX3_savedCount η)]) [] [4] (kX3_savedCount l E ah bd η) caX3_savedCount q2_24 rfl ⟨Nat.le_of_ble_eq_true rfl, Nat.le_of_ble_eq_true rfl⟩ ⟨Nat.le_of_ble_eq_true rfl, Nat.le_of_ble_eq_true rfl⟩ 4 0 rfl rfl rfl rfl (by decide) rfl rfl rfl rfl (Nat.le_of_ble_eq_true rfl) dX6_undo_4 rfl ?_
  refine g_if_le C 14 dX6_undo_7 (by decide) (fun c_1 => ?_) (fun c_1 => ?_)
  · skip
    refine g_iconst C (v := 0) dX6_undo_14 (by decide) ?_
    have e_3 : false = false → fX6_undo β η σ = (.inl xIS, β, η) := fun c_2 => by rw [fX6_undo]; rw [if_pos c_1]
    exact g_req (b := false) C hT (kX6_requireState l E hlt false) caX6_requireState q3_143 ⟨Nat.le_of_ble_eq_true rfl, Nat.le_of_ble_eq_true rfl⟩ ⟨Nat.le_of_ble_eq_true rfl, Nat.le_of_ble_eq_true rfl⟩ ⟨Nat.le_of_ble_eq_true rfl, Nat.le_of_ble_eq_true rfl⟩ (fun c => by rw [e_3 c]; exact ⟨rfl, rfl⟩) (Nat.le_of_ble_eq_true rfl) dX6_undo_15 (fun h => absurd h (by decide))
  · skip
    have h0 := Int32.not_le.mp c_1
    refine g_iconst C (v := 1) dX6_undo_10 (by decide) ?_
    refine g_goto C 15 dX6_undo_11 (by decide) ?_
    refine g_req (b := true) C hT (kX6_requireState l E hlt true) caX6_requireState q3_143 ⟨Nat.le_of_ble_eq_true rfl, Nat.le_of_ble_eq_true rfl⟩ ⟨Nat.le_of_ble_eq_true rfl, Nat.le_of_ble_eq_true rfl⟩ ⟨Nat.le_of_ble_eq_true rfl, Nat.le_of_ble_eq_true rfl⟩ (fun h => absurd h (by decide)) (Nat.le_of_ble_eq_true rfl) dX6_undo_15 (fun _ => ?_)
    refine g_aload_n C dX6_undo_18 rfl 0 rfl ?_
    refine g_getf C (T := TX6) (N := 5) 0 0 rfl rfl rfl inX6 3 (by decide) q1_195 rfl dX6_undo_19 ?_
    refine g_aload_n C dX6_undo_22 rfl 0 rfl ?_
    refine g_getf C (T := TX6) (N := 5) 0 0 rfl rfl rfl inX6 0 (by decide) q1_192 rfl dX6_undo_23 ?_
    refine g_callV C (cs1 := [wX ax (bo 0) (tr 0) (ac 0) (ah 0) (at_ 0), wB E bo ((fX3_restoreSaved η σ β).2), wB E tr τ, wC E ac γ, wH E ah bd ((fX3_restoreSaved η σ β).1), wT E at_ θ, wB E (bd 2) (σ 2), wB E (bd 3) (σ 3), wB E (bd 4) (σ 4), wB E (bd 5) (σ 5), wB E (bd 6) (σ 6), wB E (bd 7) (σ 7), wB E (bd 8) (σ 8), wB E (bd 9) (σ 9)]) (st1 := []) [.ref (bo 0)] [4, 6, 7, 8, 9, 10, 11, 12, 13, 1] (kX3_restoreSaved l E ah bd η σ bo β hvh h0) caX3_restoreSaved q5_60 rfl ⟨Nat.le_of_ble_eq_true rfl, Nat.le_of_ble_eq_true rfl⟩ ⟨Nat.le_of_ble_eq_true rfl, Nat.le_of_ble_eq_true rfl⟩ 4 0 rfl rfl rfl rfl (by decide) rfl rfl rfl rfl (Nat.le_of_ble_eq_true rfl) dX6_undo_26 rfl ?_
    have e_6 : fX6_undo β η σ = (.inr (), (fX3_restoreSaved η σ β).2, (fX3_restoreSaved η σ β).1) := by rw [fX6_undo]; rw [if_neg c_1]
    refine g_widen (k1 := 3) (n1 := 18) (Nat.le_of_ble_eq_true rfl) (Nat.le_of_ble_eq_true rfl) ?_
    exact g_vret C (gT_r hT (by rw [e_6] <;> rfl) (by rw [e_6] <;> rfl)) rfl rfl dX6_undo_29
