def fX6_withState (β : BS) (a : Int32) : (String ⊕ Int32) :=
  if (fX6_within a 0 4) = true then .inr (fJ6_bitCount_0f7a4 (fX0_inState β a)) else .inl xIA
theorem caX6_withState : gCalV yX6_withState cX6_withState 2 (some .int) 1 := ⟨⟨q6_55, q1_1, by decide +kernel⟩, q6_53, q6_54⟩
set_option maxHeartbeats 4000000 in
set_option maxRecDepth 100000 in
theorem kX6_withState (l : Launch) (E : gE) (ax : Nat) (bo : Nat → Nat) (β : BS) (tr : Nat → Nat) (τ : BS) (ac : Nat → Nat) (γ : BS) (ah : Nat → Nat) (bd : Nat → Nat → Nat) (η : BS) (σ : Nat → BS) (at_ : Nat → Nat) (θ : BS) (hlt : l.stackTraces = false) (hv : vB β)  (a : Int32) : MX l E yX6_withState cX6_withState 2 (some .int) 3 18 7 102 [.ref ax, .int a] [wX ax (bo 0) (tr 0) (ac 0) (ah 0) (at_ 0), wB E bo β, wB E tr τ, wC E ac γ, wH E ah bd η, wT E at_ θ, wB E (bd 2) (σ 2), wB E (bd 3) (σ 3), wB E (bd 4) (σ 4), wB E (bd 5) (σ 5), wB E (bd 6) (σ 6), wB E (bd 7) (σ 7), wB E (bd 8) (σ 8), wB E (bd 9) (σ 9)] (Sum.map id (fun v => some (.int v)) (fX6_withState β a)) [wX ax (bo 0) (tr 0) (ac 0) (ah 0) (at_ 0), wB E bo β, wB E tr τ, wC E ac γ, wH E ah bd η, wT E at_ θ, wB E (bd 2) (σ 2), wB E (bd 3) (σ 3), wB E (bd 4) (σ 4), wB E (bd 5) (σ 5), wB E (bd 6) (σ 6), wB E (bd 7) (σ 7), wB E (bd 8) (σ 8), wB E (bd 9) (σ 9)] := by
  have hv1 : cnt β ≤ 20 := hv.1
  refine mx_of hlt (by decide +kernel) (Nat.le_of_ble_eq_true rfl) (lv := [(0, .ref ax), (1, .int a)]) rfl (fun X C hT => ?_)
  refine g_iload_n C dX6_withState_0 rfl 1 rfl ?_
  refine g_iconst C (v := 0) dX6_withState_1 (by decide) ?_
  refine g_iconst C (v := 4) dX6_withState_2 (by decide) ?_
  refine g_callS C (cs1 := [wX ax (bo 0) (tr 0) (ac 0) (ah 0) (at_ 0), wB E bo β, wB E tr τ, wC E ac γ, wH E ah bd η, wT E at_ θ, wB E (bd 2) (σ 2), wB E (bd 3) (σ 3), wB E (bd 4) (σ 4), wB E (bd 5) (σ 5), wB E (bd 6) (σ 6), wB E (bd 7) (σ 7), wB E (bd 8) (σ 8), wB E (bd 9) (σ 9)]) (st1 := [.int (b2i (fX6_within a 0 4))]) [.int a, .int 0, .int 4] [] (kX6_within l E a 0 4) caX6_within q3_65 rfl ⟨Nat.le_of_ble_eq_true rfl, Nat.le_of_ble_eq_true rfl⟩ ⟨Nat.le_of_ble_eq_true rfl, Nat.le_of_ble_eq_true rfl⟩ (by decide) rfl rfl rfl rfl (Nat.le_of_ble_eq_true rfl) dX6_withState_3 rfl ?_
  have e_2 : (fX6_within a 0 4) = false → fX6_withState β a = .inl xIA := fun c_1 => by rw [fX6_withState]; rw [if_neg (ne_true_of_eq_false c_1)]
  refine g_req (b := (fX6_within a 0 4)) C hT (kX6_requireArgument l E hlt (fX6_within a 0 4)) caX6_requireArgument q3_68 ⟨Nat.le_of_ble_eq_true rfl, Nat.le_of_ble_eq_true rfl⟩ ⟨Nat.le_of_ble_eq_true rfl, Nat.le_of_ble_eq_true rfl⟩ ⟨Nat.le_of_ble_eq_true rfl, Nat.le_of_ble_eq_true rfl⟩ (fun c => by rw [e_2 c]; exact ⟨rfl, rfl⟩) (Nat.le_of_ble_eq_true rfl) dX6_withState_6 (fun c_3 => ?_)
  refine g_aload_n C dX6_withState_9 rfl 0 rfl ?_
  refine g_getf C (T := TX6) (N := 5) 0 0 rfl rfl rfl inX6 0 (by decide) q1_192 rfl dX6_withState_10 ?_
  refine g_iload_n C dX6_withState_13 rfl 1 rfl ?_
  refine g_callV C (cs1 := [wX ax (bo 0) (tr 0) (ac 0) (ah 0) (at_ 0), wB E bo β, wB E tr τ, wC E ac γ, wH E ah bd η, wT E at_ θ, wB E (bd 2) (σ 2), wB E (bd 3) (σ 3), wB E (bd 4) (σ 4), wB E (bd 5) (σ 5), wB E (bd 6) (σ 6), wB E (bd 7) (σ 7), wB E (bd 8) (σ 8), wB E (bd 9) (σ 9)]) (st1 := [.int (fX0_inState β a)]) [.int a] [1] (kX0_inState l E bo β hv a) caX0_inState q6_56 rfl ⟨Nat.le_of_ble_eq_true rfl, Nat.le_of_ble_eq_true rfl⟩ ⟨Nat.le_of_ble_eq_true rfl, Nat.le_of_ble_eq_true rfl⟩ 1 0 rfl rfl rfl rfl (by decide) rfl rfl rfl rfl (Nat.le_of_ble_eq_true rfl) dX6_withState_14 rfl ?_
  refine g_callS C (cs1 := [wX ax (bo 0) (tr 0) (ac 0) (ah 0) (at_ 0), wB E bo β, wB E tr τ, wC E ac γ, wH E ah bd η, wT E at_ θ, wB E (bd 2) (σ 2), wB E (bd 3) (σ 3), wB E (bd 4) (σ 4), wB E (bd 5) (σ 5), wB E (bd 6) (σ 6), wB E (bd 7) (σ 7), wB E (bd 8) (σ 8), wB E (bd 9) (σ 9)]) (st1 := [.int (fJ6_bitCount_0f7a4 (fX0_inState β a))]) [.int (fX0_inState β a)] [] (kJ6_bitCount_0f7a4 l E (fX0_inState β a)) caJ6_bitCount_0f7a4 q2_191 rfl ⟨Nat.le_of_ble_eq_true rfl, Nat.le_of_ble_eq_true rfl⟩ ⟨Nat.le_of_ble_eq_true rfl, Nat.le_of_ble_eq_true rfl⟩ (by decide) rfl rfl rfl rfl (Nat.le_of_ble_eq_true rfl) dX6_withState_17 rfl ?_
  have e_4 : fX6_withState β a = .inr (fJ6_bitCount_0f7a4 (fX0_inState β a)) := by rw [fX6_withState]; rw [if_pos c_3]
  refine g_widen (k1 := 3) (n1 := 18) (Nat.le_of_ble_eq_true rfl) (Nat.le_of_ble_eq_true rfl) ?_
  exact g_iret C (gT_r hT (by rw [e_4] <;> rfl) rfl) rfl rfl dX6_withState_20
def fX6_pointsWith (β : BS) (a : Int32) : (String ⊕ Int32) :=
  if (fX6_within a 0 4) = true then .inr (fX0_pointsOfSet β (fX0_inState β a)) else .inl xIA
theorem caX6_pointsWith : gCalV yX6_pointsWith cX6_pointsWith 2 (some .int) 1 := ⟨⟨q6_63, q1_1, by decide +kernel⟩, q6_61, q6_62⟩
set_option maxHeartbeats 4000000 in
set_option maxRecDepth 100000 in
theorem kX6_pointsWith (l : Launch) (E : gE) (ax : Nat) (bo : Nat → Nat) (β : BS) (tr : Nat → Nat) (τ : BS) (ac : Nat → Nat) (γ : BS) (ah : Nat → Nat) (bd : Nat → Nat → Nat) (η : BS) (σ : Nat → BS) (at_ : Nat → Nat) (θ : BS) (hlt : l.stackTraces = false) (hv : vB β)  (a : Int32) : MX l E yX6_pointsWith cX6_pointsWith 2 (some .int) 3 18 7 102 [.ref ax, .int a] [wX ax (bo 0) (tr 0) (ac 0) (ah 0) (at_ 0), wB E bo β, wB E tr τ, wC E ac γ, wH E ah bd η, wT E at_ θ, wB E (bd 2) (σ 2), wB E (bd 3) (σ 3), wB E (bd 4) (σ 4), wB E (bd 5) (σ 5), wB E (bd 6) (σ 6), wB E (bd 7) (σ 7), wB E (bd 8) (σ 8), wB E (bd 9) (σ 9)] (Sum.map id (fun v => some (.int v)) (fX6_pointsWith β a)) [wX ax (bo 0) (tr 0) (ac 0) (ah 0) (at_ 0), wB E bo β, wB E tr τ, wC E ac γ, wH E ah bd η, wT E at_ θ, wB E (bd 2) (σ 2), wB E (bd 3) (σ 3), wB E (bd 4) (σ 4), wB E (bd 5) (σ 5), wB E (bd 6) (σ 6), wB E (bd 7) (σ 7), wB E (bd 8) (σ 8), wB E (bd 9) (σ 9)] := by
  have hv1 : cnt β ≤ 20 := hv.1
  refine mx_of hlt (by decide +kernel) (Nat.le_of_ble_eq_true rfl) (lv := [(0, .ref ax), (1, .int a)]) rfl (fun X C hT => ?_)
  refine g_iload_n C dX6_pointsWith_0 rfl 1 rfl ?_
  refine g_iconst C (v := 0) dX6_pointsWith_1 (by decide) ?_
  refine g_iconst C (v := 4) dX6_pointsWith_2 (by decide) ?_
  refine g_callS C (cs1 := [wX ax (bo 0) (tr 0) (ac 0) (ah 0) (at_ 0), wB E bo β, wB E tr τ, wC E ac γ, wH E ah bd η, wT E at_ θ, wB E (bd 2) (σ 2), wB E (bd 3) (σ 3), wB E (bd 4) (σ 4), wB E (bd 5) (σ 5), wB E (bd 6) (σ 6), wB E (bd 7) (σ 7), wB E (bd 8) (σ 8), wB E (bd 9) (σ 9)]) (st1 := [.int (b2i (fX6_within a 0 4))]) [.int a, .int 0, .int 4] [] (kX6_within l E a 0 4) caX6_within q3_65 rfl ⟨Nat.le_of_ble_eq_true rfl, Nat.le_of_ble_eq_true rfl⟩ ⟨Nat.le_of_ble_eq_true rfl, Nat.le_of_ble_eq_true rfl⟩ (by decide) rfl rfl rfl rfl (Nat.le_of_ble_eq_true rfl) dX6_pointsWith_3 rfl ?_
  have e_2 : (fX6_within a 0 4) = false → fX6_pointsWith β a = .inl xIA := fun c_1 => by rw [fX6_pointsWith]; rw [if_neg (ne_true_of_eq_false c_1)]
  refine g_req (b := (fX6_within a 0 4)) C hT (kX6_requireArgument l E hlt (fX6_within a 0 4)) caX6_requireArgument q3_68 ⟨Nat.le_of_ble_eq_true rfl, Nat.le_of_ble_eq_true rfl⟩ ⟨Nat.le_of_ble_eq_true rfl, Nat.le_of_ble_eq_true rfl⟩ ⟨Nat.le_of_ble_eq_true rfl, Nat.le_of_ble_eq_true rfl⟩ (fun c => by rw [e_2 c]; exact ⟨rfl, rfl⟩) (Nat.le_of_ble_eq_true rfl) dX6_pointsWith_6 (fun c_3 => ?_)
  refine g_aload_n C dX6_pointsWith_9 rfl 0 rfl ?_
  refine g_getf C (T := TX6) (N := 5) 0 0 rfl rfl rfl inX6 0 (by decide) q1_192 rfl dX6_pointsWith_10 ?_
  refine g_aload_n C dX6_pointsWith_13 rfl 0 rfl ?_
  refine g_getf C (T := TX6) (N := 5) 0 0 rfl rfl rfl inX6 0 (by decide) q1_192 rfl dX6_pointsWith_14 ?_
  refine g_iload_n C dX6_pointsWith_17 rfl 1 rfl ?_
  refine g_callV C (cs1 := [wX ax (bo 0) (tr 0) (ac 0) (ah 0) (at_ 0), wB E bo β, wB E tr τ, wC E ac γ, wH E ah bd η, wT E at_ θ, wB E (bd 2) (σ 2), wB E (bd 3) (σ 3), wB E (bd 4) (σ 4), wB E (bd 5) (σ 5), wB E (bd 6) (σ 6), wB E (bd 7) (σ 7), wB E (bd 8) (σ 8), wB E (bd 9) (σ 9)]) (st1 := [.int (fX0_inState β a), .ref (bo 0)]) [.int a] [1] (kX0_inState l E bo β hv a) caX0_inState q6_56 rfl ⟨Nat.le_of_ble_eq_true rfl, Nat.le_of_ble_eq_true rfl⟩ ⟨Nat.le_of_ble_eq_true rfl, Nat.le_of_ble_eq_true rfl⟩ 1 0 rfl rfl rfl rfl (by decide) rfl rfl rfl rfl (Nat.le_of_ble_eq_true rfl) dX6_pointsWith_18 rfl ?_
  refine g_callV C (cs1 := [wX ax (bo 0) (tr 0) (ac 0) (ah 0) (at_ 0), wB E bo β, wB E tr τ, wC E ac γ, wH E ah bd η, wT E at_ θ, wB E (bd 2) (σ 2), wB E (bd 3) (σ 3), wB E (bd 4) (σ 4), wB E (bd 5) (σ 5), wB E (bd 6) (σ 6), wB E (bd 7) (σ 7), wB E (bd 8) (σ 8), wB E (bd 9) (σ 9)]) (st1 := [.int (fX0_pointsOfSet β (fX0_inState β a))]) [.int (fX0_inState β a)] [1] (kX0_pointsOfSet l E bo β hv (fX0_inState β a)) caX0_pointsOfSet q2_129 rfl ⟨Nat.le_of_ble_eq_true rfl, Nat.le_of_ble_eq_true rfl⟩ ⟨Nat.le_of_ble_eq_true rfl, Nat.le_of_ble_eq_true rfl⟩ 1 0 rfl rfl rfl rfl (by decide) rfl rfl rfl rfl (Nat.le_of_ble_eq_true rfl) dX6_pointsWith_21 rfl ?_
  have e_4 : fX6_pointsWith β a = .inr (fX0_pointsOfSet β (fX0_inState β a)) := by rw [fX6_pointsWith]; rw [if_pos c_3]
  refine g_widen (k1 := 3) (n1 := 18) (Nat.le_of_ble_eq_true rfl) (Nat.le_of_ble_eq_true rfl) ?_
  exact g_iret C (gT_r hT (by rw [e_4] <;> rfl) rfl) rfl rfl dX6_pointsWith_24
def fX6_nextToDo (β : BS) : (String ⊕ Int32) :=
  if (fX1_nextOpen β) = (-1) then .inl xIS else .inr (fX1_nextOpen β)
theorem caX6_nextToDo : gCalV yX6_nextToDo cX6_nextToDo 2 (some .int) 0 := ⟨⟨q6_41, q1_1, by decide +kernel⟩, q6_39, q6_40⟩
set_option maxHeartbeats 4000000 in
set_option maxRecDepth 100000 in
theorem kX6_nextToDo (l : Launch) (E : gE) (ax : Nat) (bo : Nat → Nat) (β : BS) (tr : Nat → Nat) (τ : BS) (ac : Nat → Nat) (γ : BS) (ah : Nat → Nat) (bd : Nat → Nat → Nat) (η : BS) (σ : Nat → BS) (at_ : Nat → Nat) (θ : BS) (hlt : l.stackTraces = false) (hv : vB β)   : MX l E yX6_nextToDo cX6_nextToDo 2 (some .int) 3 18 7 102 [.ref ax] [wX ax (bo 0) (tr 0) (ac 0) (ah 0) (at_ 0), wB E bo β, wB E tr τ, wC E ac γ, wH E ah bd η, wT E at_ θ, wB E (bd 2) (σ 2), wB E (bd 3) (σ 3), wB E (bd 4) (σ 4), wB E (bd 5) (σ 5), wB E (bd 6) (σ 6), wB E (bd 7) (σ 7), wB E (bd 8) (σ 8), wB E (bd 9) (σ 9)] (Sum.map id (fun v => some (.int v)) (fX6_nextToDo β)) [wX ax (bo 0) (tr 0) (ac 0) (ah 0) (at_ 0), wB E bo β, wB E tr τ, wC E ac γ, wH E ah bd η, wT E at_ θ, wB E (bd 2) (σ 2), wB E (bd 3) (σ 3), wB E (bd 4) (σ 4), wB E (bd 5) (σ 5), wB E (bd 6) (σ 6), wB E (bd 7) (σ 7), wB E (bd 8) (σ 8), wB E (bd 9) (σ 9)] := by
  have hv1 : cnt β ≤ 20 := hv.1
  refine mx_of hlt (by decide +kernel) (Nat.le_of_ble_eq_true rfl) (lv := [(0, .ref ax)]) rfl (fun X C hT => ?_)
  refine g_aload_n C dX6_nextToDo_0 rfl 0 rfl ?_
  refine g_getf C (T := TX6) (N := 5) 0 0 rfl rfl rfl inX6 0 (by decide) q1_192 rfl dX6_nextToDo_1 ?_
  refine g_callS C (cs1 := [wX ax (bo 0) (tr 0) (ac 0) (ah 0) (at_ 0), wB E bo β, wB E tr τ, wC E ac γ, wH E ah bd η, wT E at_ θ, wB E (bd 2) (σ 2), wB E (bd 3) (σ 3), wB E (bd 4) (σ 4), wB E (bd 5) (σ 5), wB E (bd 6) (σ 6), wB E (bd 7) (σ 7), wB E (bd 8) (σ 8), wB E (bd 9) (σ 9)]) (st1 := [.int (fX1_nextOpen β)]) [.ref (bo 0)] [1] (kX1_nextOpen l E bo β hv) caX1_nextOpen q3_18 rfl ⟨Nat.le_of_ble_eq_true rfl, Nat.le_of_ble_eq_true rfl⟩ ⟨Nat.le_of_ble_eq_true rfl, Nat.le_of_ble_eq_true rfl⟩ (by decide) rfl rfl rfl rfl (Nat.le_of_ble_eq_true rfl) dX6_nextToDo_4 rfl ?_
  refine g_istore_n C (lv1 := [(1, .int (fX1_nextOpen β)), (0, .ref ax)]) dX6_nextToDo_7 rfl (by decide) rfl ?_
  refine g_iload_n C dX6_nextToDo_8 rfl 0 rfl ?_
  refine g_iconst C (v := -1) dX6_nextToDo_9 (by decide) ?_
  refine g_icmp_eq C 17 dX6_nextToDo_10 (by decide) (fun c_1 => ?_) (fun c_1 => ?_)
  · skip
    refine g_iconst C (v := 0) dX6_nextToDo_17 (by decide) ?_
    have e_3 : false = false → fX6_nextToDo β = .inl xIS := fun c_2 => by rw [fX6_nextToDo]; rw [if_pos c_1]
    exact g_req (b := false) C hT (kX6_requireState l E hlt false) caX6_requireState q3_143 ⟨Nat.le_of_ble_eq_true rfl, Nat.le_of_ble_eq_true rfl⟩ ⟨Nat.le_of_ble_eq_true rfl, Nat.le_of_ble_eq_true rfl⟩ ⟨Nat.le_of_ble_eq_true rfl, Nat.le_of_ble_eq_true rfl⟩ (fun c => by rw [e_3 c]; exact ⟨rfl, rfl⟩) (Nat.le_of_ble_eq_true rfl) dX6_nextToDo_18 (fun h => absurd h (by decide))
  · skip
    refine g_iconst C (v := 1) dX6_nextToDo_13 (by decide) ?_
    refine g_goto C 18 dX6_nextToDo_14 (by decide) ?_
    refine g_req (b := true) C hT (kX6_requireState l E hlt true) caX6_requireState q3_143 ⟨Nat.le_of_ble_eq_true rfl, Nat.le_of_ble_eq_true rfl⟩ ⟨Nat.le_of_ble_eq_true rfl, Nat.le_of_ble_eq_true rfl⟩ ⟨Nat.le_of_ble_eq_true rfl, Nat.le_of_ble_eq_true rfl⟩ (fun h => absurd h (by decide)) (Nat.le_of_ble_eq_true rfl) dX6_nextToDo_18 (fun _ => ?_)
    refine g_iload_n C dX6_nextToDo_21 rfl 0 rfl ?_
    have e_6 : fX6_nextToDo β = .inr (fX1_nextOpen β) := by rw [fX6_nextToDo]; rw [if_neg c_1]
    refine g_widen (k1 := 3) (n1 := 18) (Nat.le_of_ble_eq_true rfl) (Nat.le_of_ble_eq_true rfl) ?_
    exact g_iret C (gT_r hT (by rw [e_6] <;> rfl) rfl) rfl rfl dX6_nextToDo_22
def fX6_allNeedsByTable (β : BS) (γ : BS) (a : Int32) : (String ⊕ Int32) × BS :=
  if (fX0_hasTicket β a) = true then (.inr ((fX1_countByTable γ β a.toNatClampNeg).1), (fX1_countByTable γ β a.toNatClampNeg).2) else (.inl xIO, γ)
theorem caX6_allNeedsByTable : gCalV yX6_allNeedsByTable cX6_allNeedsByTable 2 (some .int) 1 := ⟨⟨q5_190, q1_1, by decide +kernel⟩, q5_188, q5_189⟩
set_option maxHeartbeats 4000000 in
set_option maxRecDepth 100000 in
theorem kX6_allNeedsByTable (l : Launch) (E : gE) (ax : Nat) (bo : Nat → Nat) (β : BS) (tr : Nat → Nat) (τ : BS) (ac : Nat → Nat) (γ : BS) (ah : Nat → Nat) (bd : Nat → Nat → Nat) (η : BS) (σ : Nat → BS) (at_ : Nat → Nat) (θ : BS) (hlt : l.stackTraces = false) (hv : vB β)  (a : Int32) : MX l E yX6_allNeedsByTable cX6_allNeedsByTable 2 (some .int) 3 18 7 102 [.ref ax, .int a] [wX ax (bo 0) (tr 0) (ac 0) (ah 0) (at_ 0), wB E bo β, wB E tr τ, wC E ac γ, wH E ah bd η, wT E at_ θ, wB E (bd 2) (σ 2), wB E (bd 3) (σ 3), wB E (bd 4) (σ 4), wB E (bd 5) (σ 5), wB E (bd 6) (σ 6), wB E (bd 7) (σ 7), wB E (bd 8) (σ 8), wB E (bd 9) (σ 9)] (Sum.map id (fun v => some (.int v)) (fX6_allNeedsByTable β γ a).1) [wX ax (bo 0) (tr 0) (ac 0) (ah 0) (at_ 0), wB E bo β, wB E tr τ, wC E ac ((fX6_allNeedsByTable β γ a).2), wH E ah bd η, wT E at_ θ, wB E (bd 2) (σ 2), wB E (bd 3) (σ 3), wB E (bd 4) (σ 4), wB E (bd 5) (σ 5), wB E (bd 6) (σ 6), wB E (bd 7) (σ 7), wB E (bd 8) (σ 8), wB E (bd 9) (σ 9)] := by
  have hv1 : cnt β ≤ 20 := hv.1
  refine mx_of hlt (by decide +kernel) (Nat.le_of_ble_eq_true rfl) (lv := [(0, .ref ax), (1, .int a)]) rfl (fun X C hT => ?_)
  refine g_aload_n C dX6_allNeedsByTable_0 rfl 0 rfl ?_
  refine g_getf C (T := TX6) (N := 5) 0 0 rfl rfl rfl inX6 0 (by decide) q1_192 rfl dX6_allNeedsByTable_1 ?_
  refine g_iload_n C dX6_allNeedsByTable_4 rfl 1 rfl ?_
  refine g_callV C (cs1 := [wX ax (bo 0) (tr 0) (ac 0) (ah 0) (at_ 0), wB E bo β, wB E tr τ, wC E ac γ, wH E ah bd η, wT E at_ θ, wB E (bd 2) (σ 2), wB E (bd 3) (σ 3), wB E (bd 4) (σ 4), wB E (bd 5) (σ 5), wB E (bd 6) (σ 6), wB E (bd 7) (σ 7), wB E (bd 8) (σ 8), wB E (bd 9) (σ 9)]) (st1 := [.int (b2i (fX0_hasTicket β a))]) [.int a] [1] (kX0_hasTicket l E bo β a) caX0_hasTicket q3_191 rfl ⟨Nat.le_of_ble_eq_true rfl, Nat.le_of_ble_eq_true rfl⟩ ⟨Nat.le_of_ble_eq_true rfl, Nat.le_of_ble_eq_true rfl⟩ 1 0 rfl rfl rfl rfl (by decide) rfl rfl rfl rfl (Nat.le_of_ble_eq_true rfl) dX6_allNeedsByTable_5 rfl ?_
  have e_2 : (fX0_hasTicket β a) = false → fX6_allNeedsByTable β γ a = (.inl xIO, γ) := fun c_1 => by rw [fX6_allNeedsByTable]; rw [if_neg (ne_true_of_eq_false c_1)]
  refine g_req (b := (fX0_hasTicket β a)) C hT (kX6_requireIndex l E hlt (fX0_hasTicket β a)) caX6_requireIndex q3_195 ⟨Nat.le_of_ble_eq_true rfl, Nat.le_of_ble_eq_true rfl⟩ ⟨Nat.le_of_ble_eq_true rfl, Nat.le_of_ble_eq_true rfl⟩ ⟨Nat.le_of_ble_eq_true rfl, Nat.le_of_ble_eq_true rfl⟩ (fun c => by rw [e_2 c]; exact ⟨rfl, rfl⟩) (Nat.le_of_ble_eq_true rfl) dX6_allNeedsByTable_8 (fun c_3 => ?_)
  have hx_4 := hasTicket_i hv c_3
  refine g_aload_n C dX6_allNeedsByTable_11 rfl 0 rfl ?_
  refine g_getf C (T := TX6) (N := 5) 0 0 rfl rfl rfl inX6 2 (by decide) q1_194 rfl dX6_allNeedsByTable_12 ?_
  refine g_aload_n C dX6_allNeedsByTable_15 rfl 0 rfl ?_
  refine g_getf C (T := TX6) (N := 5) 0 0 rfl rfl rfl inX6 0 (by decide) q1_192 rfl dX6_allNeedsByTable_16 ?_
  refine g_iload_n C dX6_allNeedsByTable_19 rfl 1 rfl ?_
  refine g_st (st1 := [.int (nI a.toNatClampNeg), .ref (bo 0), .ref (ac 0)]) (by rw [← hx_4.1]) ?_
  refine g_callV C (cs1 := [wX ax (bo 0) (tr 0) (ac 0) (ah 0) (at_ 0), wB E bo β, wB E tr τ, wC E ac ((fX1_countByTable γ β a.toNatClampNeg).2), wH E ah bd η, wT E at_ θ, wB E (bd 2) (σ 2), wB E (bd 3) (σ 3), wB E (bd 4) (σ 4), wB E (bd 5) (σ 5), wB E (bd 6) (σ 6), wB E (bd 7) (σ 7), wB E (bd 8) (σ 8), wB E (bd 9) (σ 9)]) (st1 := [.int ((fX1_countByTable γ β a.toNatClampNeg).1)]) [.ref (bo 0), .int (nI a.toNatClampNeg)] [3, 1] (kX1_countByTable l E ac γ bo β hv a.toNatClampNeg hx_4.2.1) caX1_countByTable q2_203 rfl ⟨Nat.le_of_ble_eq_true rfl, Nat.le_of_ble_eq_true rfl⟩ ⟨Nat.le_of_ble_eq_true rfl, Nat.le_of_ble_eq_true rfl⟩ 3 0 rfl rfl rfl rfl (by decide) rfl rfl rfl rfl (Nat.le_of_ble_eq_true rfl) dX6_allNeedsByTable_20 rfl ?_
  have e_5 : fX6_allNeedsByTable β γ a = (.inr ((fX1_countByTable γ β a.toNatClampNeg).1), (fX1_countByTable γ β a.toNatClampNeg).2) := by rw [fX6_allNeedsByTable]; rw [if_pos c_3]
  refine g_widen (k1 := 3) (n1 := 18) (Nat.le_of_ble_eq_true rfl) (Nat.le_of_ble_eq_true rfl) ?_
  exact g_iret C (gT_r hT (by rw [e_5] <;> rfl) (by rw [e_5] <;> rfl)) rfl rfl dX6_allNeedsByTable_23
theorem fill_i {γ β : BS} : (fX1_fillClosingOrder γ β).1 = nI (fX1_fillClosingOrder γ β).1.toNatClampNeg ∧ (fX1_fillClosingOrder γ β).1.toNatClampNeg ≤ 20 := by
  have key : ∀ d i t, i ≤ 20 → ∃ n : Nat, n < 21 ∧ (fX1_fillClosingOrder_R7 γ β d i t).1 = nI n := by
    intro d
    induction d with
    | zero => intro i t h; exact ⟨0, by omega, rfl⟩
    | succ d ih =>
      intro i t h
      rw [fX1_fillClosingOrder_R7]
      split
      · exact ⟨20, by omega, rfl⟩
      · rename_i c
        have c2 := lc_ige rfl nI_l20 (by omega) (by omega) c
        split
        · exact ⟨i, by omega, rfl⟩
        · exact ih (i + 1) _ (by omega)
  have h9 : ∃ j : Nat, j < 21 ∧ (fX1_fillClosingOrder γ β).1 = nI j := by
    unfold fX1_fillClosingOrder
    exact key _ _ _ (by omega)
  obtain ⟨h1, h2⟩ := okI (N := 21) (by omega) h9
  exact ⟨h1, by omega⟩
theorem within_pred {a x : Int32} {n : Nat} (hx : x = nI n) (hn : n ≤ 20) (h : fX6_within a 0 (x - 1) = true) : a = nI a.toNatClampNeg ∧ a.toNatClampNeg < n := by
  subst hx
  rcases Nat.eq_zero_or_pos n with rfl | h0
  · exfalso
    unfold fX6_within at h
    split at h
    · cases h
    · rename_i c1
      split at h
      · cases h
      · rename_i c2
        have e1 : nI 0 - 1 = -1 := by decide
        rw [e1] at c2
        rw [Int32.lt_iff_toInt_lt] at c1 c2
        have e2 : (-1 : Int32).toInt = -1 := by decide
        have e3 : (0 : Int32).toInt = 0 := by decide
        omega
  · obtain ⟨d, rfl⟩ : ∃ d, n = d + 1 := ⟨n - 1, by omega⟩
    rw [nI_pred] at h
    exact within_i (N := d) (nI_toInt (by omega)) (by omega) h
def fX6_closedAt (β : BS) (γ : BS) (a : Int32) : (String ⊕ Int32) × BS :=
  if (fX6_within a 0 (((fX1_fillClosingOrder γ β).1) - 1)) = true then (.inr (((fX1_fillClosingOrder γ β).2).2 3 a.toNatClampNeg), (fX1_fillClosingOrder γ β).2) else (.inl xIO, (fX1_fillClosingOrder γ β).2)
theorem caX6_closedAt : gCalV yX6_closedAt cX6_closedAt 3 (some .int) 1 := ⟨⟨q6_48, q1_1, by decide +kernel⟩, q6_46, q6_47⟩
set_option maxHeartbeats 4000000 in
set_option maxRecDepth 100000 in
theorem kX6_closedAt (l : Launch) (E : gE) (ax : Nat) (bo : Nat → Nat) (β : BS) (tr : Nat → Nat) (τ : BS) (ac : Nat → Nat) (γ : BS) (ah : Nat → Nat) (bd : Nat → Nat → Nat) (η : BS) (σ : Nat → BS) (at_ : Nat → Nat) (θ : BS) (hlt : l.stackTraces = false) (hv : vB β)  (a : Int32) : MX l E yX6_closedAt cX6_closedAt 3 (some .int) 3 18 7 102 [.ref ax, .int a] [wX ax (bo 0) (tr 0) (ac 0) (ah 0) (at_ 0), wB E bo β, wB E tr τ, wC E ac γ, wH E ah bd η, wT E at_ θ, wB E (bd 2) (σ 2), wB E (bd 3) (σ 3), wB E (bd 4) (σ 4), wB E (bd 5) (σ 5), wB E (bd 6) (σ 6), wB E (bd 7) (σ 7), wB E (bd 8) (σ 8), wB E (bd 9) (σ 9)] (Sum.map id (fun v => some (.int v)) (fX6_closedAt β γ a).1) [wX ax (bo 0) (tr 0) (ac 0) (ah 0) (at_ 0), wB E bo β, wB E tr τ, wC E ac ((fX6_closedAt β γ a).2), wH E ah bd η, wT E at_ θ, wB E (bd 2) (σ 2), wB E (bd 3) (σ 3), wB E (bd 4) (σ 4), wB E (bd 5) (σ 5), wB E (bd 6) (σ 6), wB E (bd 7) (σ 7), wB E (bd 8) (σ 8), wB E (bd 9) (σ 9)] := by
  have hv1 : cnt β ≤ 20 := hv.1
  refine mx_of hlt (by decide +kernel) (Nat.le_of_ble_eq_true rfl) (lv := [(0, .ref ax), (1, .int a)]) rfl (fun X C hT => ?_)
  refine g_aload_n C dX6_closedAt_0 rfl 0 rfl ?_
  refine g_getf C (T := TX6) (N := 5) 0 0 rfl rfl rfl inX6 2 (by decide) q1_194 rfl dX6_closedAt_1 ?_
  refine g_aload_n C dX6_closedAt_4 rfl 0 rfl ?_
  refine g_getf C (T := TX6) (N := 5) 0 0 rfl rfl rfl inX6 0 (by decide) q1_192 rfl dX6_closedAt_5 ?_
  refine g_callV C (cs1 := [wX ax (bo 0) (tr 0) (ac 0) (ah 0) (at_ 0), wB E bo β, wB E tr τ, wC E ac ((fX1_fillClosingOrder γ β).2), wH E ah bd η, wT E at_ θ, wB E (bd 2) (σ 2), wB E (bd 3) (σ 3), wB E (bd 4) (σ 4), wB E (bd 5) (σ 5), wB E (bd 6) (σ 6), wB E (bd 7) (σ 7), wB E (bd 8) (σ 8), wB E (bd 9) (σ 9)]) (st1 := [.int ((fX1_fillClosingOrder γ β).1)]) [.ref (bo 0)] [3, 1] (kX1_fillClosingOrder l E ac γ bo β hv) caX1_fillClosingOrder q3_29 rfl ⟨Nat.le_of_ble_eq_true rfl, Nat.le_of_ble_eq_true rfl⟩ ⟨Nat.le_of_ble_eq_true rfl, Nat.le_of_ble_eq_true rfl⟩ 3 0 rfl rfl rfl rfl (by decide) rfl rfl rfl rfl (Nat.le_of_ble_eq_true rfl) dX6_closedAt_8 rfl ?_
  refine g_istore_n C (lv1 := [(2, .int ((fX1_fillClosingOrder γ β).1)), (0, .ref ax), (1, .int a)]) dX6_closedAt_11 rfl (by decide) rfl ?_
  refine g_iload_n C dX6_closedAt_12 rfl 2 rfl ?_
  refine g_iconst C (v := 0) dX6_closedAt_13 (by decide) ?_
  refine g_iload_n C dX6_closedAt_14 rfl 0 rfl ?_
  refine g_iconst C (v := 1) dX6_closedAt_15 (by decide) ?_
  refine g_isub C dX6_closedAt_16 ?_
  refine g_callS C (cs1 := [wX ax (bo 0) (tr 0) (ac 0) (ah 0) (at_ 0), wB E bo β, wB E tr τ, wC E ac ((fX1_fillClosingOrder γ β).2), wH E ah bd η, wT E at_ θ, wB E (bd 2) (σ 2), wB E (bd 3) (σ 3), wB E (bd 4) (σ 4), wB E (bd 5) (σ 5), wB E (bd 6) (σ 6), wB E (bd 7) (σ 7), wB E (bd 8) (σ 8), wB E (bd 9) (σ 9)]) (st1 := [.int (b2i (fX6_within a 0 (((fX1_fillClosingOrder γ β).1) - 1)))]) [.int a, .int 0, .int (((fX1_fillClosingOrder γ β).1) - 1)] [] (kX6_within l E a 0 (((fX1_fillClosingOrder γ β).1) - 1)) caX6_within q3_65 rfl ⟨Nat.le_of_ble_eq_true rfl, Nat.le_of_ble_eq_true rfl⟩ ⟨Nat.le_of_ble_eq_true rfl, Nat.le_of_ble_eq_true rfl⟩ (by decide) rfl rfl rfl rfl (Nat.le_of_ble_eq_true rfl) dX6_closedAt_17 rfl ?_
  have e_2 : (fX6_within a 0 (((fX1_fillClosingOrder γ β).1) - 1)) = false → fX6_closedAt β γ a = (.inl xIO, (fX1_fillClosingOrder γ β).2) := fun c_1 => by rw [fX6_closedAt]; rw [if_neg (ne_true_of_eq_false c_1)]
  refine g_req (b := (fX6_within a 0 (((fX1_fillClosingOrder γ β).1) - 1))) C hT (kX6_requireIndex l E hlt (fX6_within a 0 (((fX1_fillClosingOrder γ β).1) - 1))) caX6_requireIndex q3_195 ⟨Nat.le_of_ble_eq_true rfl, Nat.le_of_ble_eq_true rfl⟩ ⟨Nat.le_of_ble_eq_true rfl, Nat.le_of_ble_eq_true rfl⟩ ⟨Nat.le_of_ble_eq_true rfl, Nat.le_of_ble_eq_true rfl⟩ (fun c => by rw [e_2 c]; exact ⟨rfl, rfl⟩) (Nat.le_of_ble_eq_true rfl) dX6_closedAt_20 (fun c_3 => ?_)
  have hpl := within_pred fill_i.1 fill_i.2 c_3
  refine g_aload_n C dX6_closedAt_23 rfl 1 rfl ?_
  refine g_getf C (T := TX6) (N := 5) 0 0 rfl rfl rfl inX6 2 (by decide) q1_194 rfl dX6_closedAt_24 ?_
  refine g_getf C (T := TX1) (N := 4) 3 0 rfl rfl rfl inX1 3 (by decide) q1_127 rfl dX6_closedAt_27 ?_
  refine g_iload_n C dX6_closedAt_30 rfl 2 rfl ?_
  refine g_ialdn C 3 4 a.toNatClampNeg rfl rfl hpl.1 (by have := hpl.2; have := fill_i (γ := γ) (β := β); omega) (by decide) dX6_closedAt_31 ?_
  have e_4 : fX6_closedAt β γ a = (.inr (((fX1_fillClosingOrder γ β).2).2 3 a.toNatClampNeg), (fX1_fillClosingOrder γ β).2) := by rw [fX6_closedAt]; rw [if_pos c_3]
  refine g_widen (k1 := 3) (n1 := 18) (Nat.le_of_ble_eq_true rfl) (Nat.le_of_ble_eq_true rfl) ?_
  exact g_iret C (gT_r hT (by rw [e_4] <;> rfl) (by rw [e_4] <;> rfl)) rfl rfl dX6_closedAt_32
def fX6_criticalByTrying (β : BS) (γ : BS) : Int32 × BS :=
  ((fX1_mostPointsByTrying γ β).1, (fX1_mostPointsByTrying γ β).2)
theorem caX6_criticalByTrying : gCalV yX6_criticalByTrying cX6_criticalByTrying 1 (some .int) 0 := ⟨⟨q2_35, q1_1, by decide +kernel⟩, q2_33, q2_34⟩
set_option maxHeartbeats 4000000 in
set_option maxRecDepth 100000 in
theorem kX6_criticalByTrying (l : Launch) (E : gE) (ax : Nat) (bo : Nat → Nat) (β : BS) (tr : Nat → Nat) (τ : BS) (ac : Nat → Nat) (γ : BS) (ah : Nat → Nat) (bd : Nat → Nat → Nat) (η : BS) (σ : Nat → BS) (at_ : Nat → Nat) (θ : BS) (hv : vB β)   : MC l E yX6_criticalByTrying cX6_criticalByTrying 1 (some .int) 24 587 [.ref ax] [wX ax (bo 0) (tr 0) (ac 0) (ah 0) (at_ 0), wB E bo β, wB E tr τ, wC E ac γ, wH E ah bd η, wT E at_ θ, wB E (bd 2) (σ 2), wB E (bd 3) (σ 3), wB E (bd 4) (σ 4), wB E (bd 5) (σ 5), wB E (bd 6) (σ 6), wB E (bd 7) (σ 7), wB E (bd 8) (σ 8), wB E (bd 9) (σ 9)] (some (.int (fX6_criticalByTrying β γ).1)) [wX ax (bo 0) (tr 0) (ac 0) (ah 0) (at_ 0), wB E bo β, wB E tr τ, wC E ac ((fX6_criticalByTrying β γ).2), wH E ah bd η, wT E at_ θ, wB E (bd 2) (σ 2), wB E (bd 3) (σ 3), wB E (bd 4) (σ 4), wB E (bd 5) (σ 5), wB E (bd 6) (σ 6), wB E (bd 7) (σ 7), wB E (bd 8) (σ 8), wB E (bd 9) (σ 9)] := by
  have hv1 : cnt β ≤ 20 := hv.1
  refine mc_of (by decide +kernel) (Nat.le_of_ble_eq_true rfl) (lv := [(0, .ref ax)]) rfl (fun X C hE => ?_)
  refine g_aload_n C dX6_criticalByTrying_0 rfl 0 rfl ?_
  refine g_getf C (T := TX6) (N := 5) 0 0 rfl rfl rfl inX6 2 (by decide) q1_194 rfl dX6_criticalByTrying_1 ?_
  refine g_aload_n C dX6_criticalByTrying_4 rfl 0 rfl ?_
  refine g_getf C (T := TX6) (N := 5) 0 0 rfl rfl rfl inX6 0 (by decide) q1_192 rfl dX6_criticalByTrying_5 ?_
  refine g_callV C (cs1 := [wX ax (bo 0) (tr 0) (ac 0) (ah 0) (at_ 0), wB E bo β, wB E tr τ, wC E ac ((fX1_mostPointsByTrying γ β).2), wH E ah bd η, wT E at_ θ, wB E (bd 2) (σ 2), wB E (bd 3) (σ 3), wB E (bd 4) (σ 4), wB E (bd 5) (σ 5), wB E (bd 6) (σ 6), wB E (bd 7) (σ 7), wB E (bd 8) (σ 8), wB E (bd 9) (σ 9)]) (st1 := [.int ((fX1_mostPointsByTrying γ β).1)]) [.ref (bo 0)] [3, 1] (kX1_mostPointsByTrying l E ac γ bo β hv) caX1_mostPointsByTrying q2_36 rfl ⟨Nat.le_of_ble_eq_true rfl, Nat.le_of_ble_eq_true rfl⟩ ⟨Nat.zero_le _, Nat.zero_le _⟩ 3 0 rfl rfl rfl rfl (by decide) rfl rfl rfl rfl (Nat.le_of_ble_eq_true rfl) dX6_criticalByTrying_8 rfl ?_
  have e_1 : fX6_criticalByTrying β γ = ((fX1_mostPointsByTrying γ β).1, (fX1_mostPointsByTrying γ β).2) := by rw [fX6_criticalByTrying]
  exact g_iret C hE (by rw [e_1]) (by rw [e_1]) dX6_criticalByTrying_11
def fX6_criticalByOrder (β : BS) (γ : BS) : Int32 × BS :=
  ((fX1_mostPointsByOrder γ β).1, (fX1_mostPointsByOrder γ β).2)
theorem caX6_criticalByOrder : gCalV yX6_criticalByOrder cX6_criticalByOrder 1 (some .int) 0 := ⟨⟨q2_63, q1_1, by decide +kernel⟩, q2_61, q2_62⟩
set_option maxHeartbeats 4000000 in
set_option maxRecDepth 100000 in
theorem kX6_criticalByOrder (l : Launch) (E : gE) (ax : Nat) (bo : Nat → Nat) (β : BS) (tr : Nat → Nat) (τ : BS) (ac : Nat → Nat) (γ : BS) (ah : Nat → Nat) (bd : Nat → Nat → Nat) (η : BS) (σ : Nat → BS) (at_ : Nat → Nat) (θ : BS) (hv : vB β)   : MC l E yX6_criticalByOrder cX6_criticalByOrder 1 (some .int) 4 92 [.ref ax] [wX ax (bo 0) (tr 0) (ac 0) (ah 0) (at_ 0), wB E bo β, wB E tr τ, wC E ac γ, wH E ah bd η, wT E at_ θ, wB E (bd 2) (σ 2), wB E (bd 3) (σ 3), wB E (bd 4) (σ 4), wB E (bd 5) (σ 5), wB E (bd 6) (σ 6), wB E (bd 7) (σ 7), wB E (bd 8) (σ 8), wB E (bd 9) (σ 9)] (some (.int (fX6_criticalByOrder β γ).1)) [wX ax (bo 0) (tr 0) (ac 0) (ah 0) (at_ 0), wB E bo β, wB E tr τ, wC E ac ((fX6_criticalByOrder β γ).2), wH E ah bd η, wT E at_ θ, wB E (bd 2) (σ 2), wB E (bd 3) (σ 3), wB E (bd 4) (σ 4), wB E (bd 5) (σ 5), wB E (bd 6) (σ 6), wB E (bd 7) (σ 7), wB E (bd 8) (σ 8), wB E (bd 9) (σ 9)] := by
  have hv1 : cnt β ≤ 20 := hv.1
  refine mc_of (by decide +kernel) (Nat.le_of_ble_eq_true rfl) (lv := [(0, .ref ax)]) rfl (fun X C hE => ?_)
  refine g_aload_n C dX6_criticalByOrder_0 rfl 0 rfl ?_
  refine g_getf C (T := TX6) (N := 5) 0 0 rfl rfl rfl inX6 2 (by decide) q1_194 rfl dX6_criticalByOrder_1 ?_
  refine g_aload_n C dX6_criticalByOrder_4 rfl 0 rfl ?_
  refine g_getf C (T := TX6) (N := 5) 0 0 rfl rfl rfl inX6 0 (by decide) q1_192 rfl dX6_criticalByOrder_5 ?_
  refine g_callV C (cs1 := [wX ax (bo 0) (tr 0) (ac 0) (ah 0) (at_ 0), wB E bo β, wB E tr τ, wC E ac ((fX1_mostPointsByOrder γ β).2), wH E ah bd η, wT E at_ θ, wB E (bd 2) (σ 2), wB E (bd 3) (σ 3), wB E (bd 4) (σ 4), wB E (bd 5) (σ 5), wB E (bd 6) (σ 6), wB E (bd 7) (σ 7), wB E (bd 8) (σ 8), wB E (bd 9) (σ 9)]) (st1 := [.int ((fX1_mostPointsByOrder γ β).1)]) [.ref (bo 0)] [3, 1] (kX1_mostPointsByOrder l E ac γ bo β hv) caX1_mostPointsByOrder q2_64 rfl ⟨Nat.le_of_ble_eq_true rfl, Nat.le_of_ble_eq_true rfl⟩ ⟨Nat.zero_le _, Nat.zero_le _⟩ 3 0 rfl rfl rfl rfl (by decide) rfl rfl rfl rfl (Nat.le_of_ble_eq_true rfl) dX6_criticalByOrder_8 rfl ?_
  have e_1 : fX6_criticalByOrder β γ = ((fX1_mostPointsByOrder γ β).1, (fX1_mostPointsByOrder γ β).2) := by rw [fX6_criticalByOrder]
  exact g_iret C hE (by rw [e_1]) (by rw [e_1]) dX6_criticalByOrder_11
def fX6_freestOwner (β : BS) : Int32 :=
  (fX5_ownerWithMostLeft β)
theorem caX6_freestOwner : gCalV yX6_freestOwner cX6_freestOwner 1 (some .int) 0 := ⟨⟨q2_82, q1_1, by decide +kernel⟩, q2_80, q2_81⟩
set_option maxHeartbeats 4000000 in
set_option maxRecDepth 100000 in
theorem kX6_freestOwner (l : Launch) (E : gE) (ax : Nat) (bo : Nat → Nat) (β : BS) (tr : Nat → Nat) (τ : BS) (ac : Nat → Nat) (γ : BS) (ah : Nat → Nat) (bd : Nat → Nat → Nat) (η : BS) (σ : Nat → BS) (at_ : Nat → Nat) (θ : BS)   : MC l E yX6_freestOwner cX6_freestOwner 1 (some .int) 2 43 [.ref ax] [wX ax (bo 0) (tr 0) (ac 0) (ah 0) (at_ 0), wB E bo β, wB E tr τ, wC E ac γ, wH E ah bd η, wT E at_ θ, wB E (bd 2) (σ 2), wB E (bd 3) (σ 3), wB E (bd 4) (σ 4), wB E (bd 5) (σ 5), wB E (bd 6) (σ 6), wB E (bd 7) (σ 7), wB E (bd 8) (σ 8), wB E (bd 9) (σ 9)] (some (.int (fX6_freestOwner β))) [wX ax (bo 0) (tr 0) (ac 0) (ah 0) (at_ 0), wB E bo β, wB E tr τ, wC E ac γ, wH E ah bd η, wT E at_ θ, wB E (bd 2) (σ 2), wB E (bd 3) (σ 3), wB E (bd 4) (σ 4), wB E (bd 5) (σ 5), wB E (bd 6) (σ 6), wB E (bd 7) (σ 7), wB E (bd 8) (σ 8), wB E (bd 9) (σ 9)] := by
  refine mc_of (by decide +kernel) (Nat.le_of_ble_eq_true rfl) (lv := [(0, .ref ax)]) rfl (fun X C hE => ?_)
  refine g_aload_n C dX6_freestOwner_0 rfl 0 rfl ?_
  refine g_getf C (T := TX6) (N := 5) 0 0 rfl rfl rfl inX6 0 (by decide) q1_192 rfl dX6_freestOwner_1 ?_
  refine g_callS C (cs1 := [wX ax (bo 0) (tr 0) (ac 0) (ah 0) (at_ 0), wB E bo β, wB E tr τ, wC E ac γ, wH E ah bd η, wT E at_ θ, wB E (bd 2) (σ 2), wB E (bd 3) (σ 3), wB E (bd 4) (σ 4), wB E (bd 5) (σ 5), wB E (bd 6) (σ 6), wB E (bd 7) (σ 7), wB E (bd 8) (σ 8), wB E (bd 9) (σ 9)]) (st1 := [.int (fX5_ownerWithMostLeft β)]) [.ref (bo 0)] [1] (kX5_ownerWithMostLeft l E bo β) caX5_ownerWithMostLeft q2_83 rfl ⟨Nat.le_of_ble_eq_true rfl, Nat.le_of_ble_eq_true rfl⟩ ⟨Nat.zero_le _, Nat.zero_le _⟩ (by decide) rfl rfl rfl rfl (Nat.le_of_ble_eq_true rfl) dX6_freestOwner_4 rfl ?_
  have e_1 : fX6_freestOwner β = (fX5_ownerWithMostLeft β) := by rw [fX6_freestOwner]
  exact g_iret C hE (by rw [e_1]) rfl dX6_freestOwner_7
def fX6_lateMilestones (β : BS) : Int32 :=
  (fX5_overdueMilestones β)
theorem caX6_lateMilestones : gCalV yX6_lateMilestones cX6_lateMilestones 1 (some .int) 0 := ⟨⟨q2_92, q1_1, by decide +kernel⟩, q2_90, q2_91⟩
set_option maxHeartbeats 4000000 in
set_option maxRecDepth 100000 in
theorem kX6_lateMilestones (l : Launch) (E : gE) (ax : Nat) (bo : Nat → Nat) (β : BS) (tr : Nat → Nat) (τ : BS) (ac : Nat → Nat) (γ : BS) (ah : Nat → Nat) (bd : Nat → Nat → Nat) (η : BS) (σ : Nat → BS) (at_ : Nat → Nat) (θ : BS) (hv : vB β)   : MC l E yX6_lateMilestones cX6_lateMilestones 1 (some .int) 6 129 [.ref ax] [wX ax (bo 0) (tr 0) (ac 0) (ah 0) (at_ 0), wB E bo β, wB E tr τ, wC E ac γ, wH E ah bd η, wT E at_ θ, wB E (bd 2) (σ 2), wB E (bd 3) (σ 3), wB E (bd 4) (σ 4), wB E (bd 5) (σ 5), wB E (bd 6) (σ 6), wB E (bd 7) (σ 7), wB E (bd 8) (σ 8), wB E (bd 9) (σ 9)] (some (.int (fX6_lateMilestones β))) [wX ax (bo 0) (tr 0) (ac 0) (ah 0) (at_ 0), wB E bo β, wB E tr τ, wC E ac γ, wH E ah bd η, wT E at_ θ, wB E (bd 2) (σ 2), wB E (bd 3) (σ 3), wB E (bd 4) (σ 4), wB E (bd 5) (σ 5), wB E (bd 6) (σ 6), wB E (bd 7) (σ 7), wB E (bd 8) (σ 8), wB E (bd 9) (σ 9)] := by
  have hv1 : cnt β ≤ 20 := hv.1
  refine mc_of (by decide +kernel) (Nat.le_of_ble_eq_true rfl) (lv := [(0, .ref ax)]) rfl (fun X C hE => ?_)
  refine g_aload_n C dX6_lateMilestones_0 rfl 0 rfl ?_
  refine g_getf C (T := TX6) (N := 5) 0 0 rfl rfl rfl inX6 0 (by decide) q1_192 rfl dX6_lateMilestones_1 ?_
  refine g_callS C (cs1 := [wX ax (bo 0) (tr 0) (ac 0) (ah 0) (at_ 0), wB E bo β, wB E tr τ, wC E ac γ, wH E ah bd η, wT E at_ θ, wB E (bd 2) (σ 2), wB E (bd 3) (σ 3), wB E (bd 4) (σ 4), wB E (bd 5) (σ 5), wB E (bd 6) (σ 6), wB E (bd 7) (σ 7), wB E (bd 8) (σ 8), wB E (bd 9) (σ 9)]) (st1 := [.int (fX5_overdueMilestones β)]) [.ref (bo 0)] [1] (kX5_overdueMilestones l E bo β hv) caX5_overdueMilestones q2_93 rfl ⟨Nat.le_of_ble_eq_true rfl, Nat.le_of_ble_eq_true rfl⟩ ⟨Nat.zero_le _, Nat.zero_le _⟩ (by decide) rfl rfl rfl rfl (Nat.le_of_ble_eq_true rfl) dX6_lateMilestones_4 rfl ?_
  have e_1 : fX6_lateMilestones β = (fX5_overdueMilestones β) := by rw [fX6_lateMilestones]
  exact g_iret C hE (by rw [e_1]) rfl dX6_lateMilestones_7
def fX6_allPoints (β : BS) : Int32 :=
  (fX0_pointsOfSet β 1048575)
theorem caX6_allPoints : gCalV yX6_allPoints cX6_allPoints 1 (some .int) 0 := ⟨⟨q2_127, q1_1, by decide +kernel⟩, q2_125, q2_126⟩
set_option maxHeartbeats 4000000 in
set_option maxRecDepth 100000 in
theorem kX6_allPoints (l : Launch) (E : gE) (ax : Nat) (bo : Nat → Nat) (β : BS) (tr : Nat → Nat) (τ : BS) (ac : Nat → Nat) (γ : BS) (ah : Nat → Nat) (bd : Nat → Nat → Nat) (η : BS) (σ : Nat → BS) (at_ : Nat → Nat) (θ : BS) (hv : vB β)   : MC l E yX6_allPoints cX6_allPoints 1 (some .int) 2 44 [.ref ax] [wX ax (bo 0) (tr 0) (ac 0) (ah 0) (at_ 0), wB E bo β, wB E tr τ, wC E ac γ, wH E ah bd η, wT E at_ θ, wB E (bd 2) (σ 2), wB E (bd 3) (σ 3), wB E (bd 4) (σ 4), wB E (bd 5) (σ 5), wB E (bd 6) (σ 6), wB E (bd 7) (σ 7), wB E (bd 8) (σ 8), wB E (bd 9) (σ 9)] (some (.int (fX6_allPoints β))) [wX ax (bo 0) (tr 0) (ac 0) (ah 0) (at_ 0), wB E bo β, wB E tr τ, wC E ac γ, wH E ah bd η, wT E at_ θ, wB E (bd 2) (σ 2), wB E (bd 3) (σ 3), wB E (bd 4) (σ 4), wB E (bd 5) (σ 5), wB E (bd 6) (σ 6), wB E (bd 7) (σ 7), wB E (bd 8) (σ 8), wB E (bd 9) (σ 9)] := by
  have hv1 : cnt β ≤ 20 := hv.1
  refine mc_of (by decide +kernel) (Nat.le_of_ble_eq_true rfl) (lv := [(0, .ref ax)]) rfl (fun X C hE => ?_)
  refine g_aload_n C dX6_allPoints_0 rfl 0 rfl ?_
  refine g_getf C (T := TX6) (N := 5) 0 0 rfl rfl rfl inX6 0 (by decide) q1_192 rfl dX6_allPoints_1 ?_
  refine g_ldcw C q2_128 dX6_allPoints_4 ?_
  refine g_callV C (cs1 := [wX ax (bo 0) (tr 0) (ac 0) (ah 0) (at_ 0), wB E bo β, wB E tr τ, wC E ac γ, wH E ah bd η, wT E at_ θ, wB E (bd 2) (σ 2), wB E (bd 3) (σ 3), wB E (bd 4) (σ 4), wB E (bd 5) (σ 5), wB E (bd 6) (σ 6), wB E (bd 7) (σ 7), wB E (bd 8) (σ 8), wB E (bd 9) (σ 9)]) (st1 := [.int (fX0_pointsOfSet β 1048575)]) [.int 1048575] [1] (kX0_pointsOfSet l E bo β hv 1048575) caX0_pointsOfSet q2_129 rfl ⟨Nat.le_of_ble_eq_true rfl, Nat.le_of_ble_eq_true rfl⟩ ⟨Nat.zero_le _, Nat.zero_le _⟩ 1 0 rfl rfl rfl rfl (by decide) rfl rfl rfl rfl (Nat.le_of_ble_eq_true rfl) dX6_allPoints_7 rfl ?_
  have e_1 : fX6_allPoints β = (fX0_pointsOfSet β 1048575) := by rw [fX6_allPoints]
  exact g_iret C hE (by rw [e_1]) rfl dX6_allPoints_10
def fX6_blockedTickets (β : BS) : Int32 :=
  (fX5_blockedAndUnfinished β)
theorem caX6_blockedTickets : gCalV yX6_blockedTickets cX6_blockedTickets 1 (some .int) 0 := ⟨⟨q2_133, q1_1, by decide +kernel⟩, q2_131, q2_132⟩
set_option maxHeartbeats 4000000 in
set_option maxRecDepth 100000 in
theorem kX6_blockedTickets (l : Launch) (E : gE) (ax : Nat) (bo : Nat → Nat) (β : BS) (tr : Nat → Nat) (τ : BS) (ac : Nat → Nat) (γ : BS) (ah : Nat → Nat) (bd : Nat → Nat → Nat) (η : BS) (σ : Nat → BS) (at_ : Nat → Nat) (θ : BS) (hv : vB β)   : MC l E yX6_blockedTickets cX6_blockedTickets 1 (some .int) 4 83 [.ref ax] [wX ax (bo 0) (tr 0) (ac 0) (ah 0) (at_ 0), wB E bo β, wB E tr τ, wC E ac γ, wH E ah bd η, wT E at_ θ, wB E (bd 2) (σ 2), wB E (bd 3) (σ 3), wB E (bd 4) (σ 4), wB E (bd 5) (σ 5), wB E (bd 6) (σ 6), wB E (bd 7) (σ 7), wB E (bd 8) (σ 8), wB E (bd 9) (σ 9)] (some (.int (fX6_blockedTickets β))) [wX ax (bo 0) (tr 0) (ac 0) (ah 0) (at_ 0), wB E bo β, wB E tr τ, wC E ac γ, wH E ah bd η, wT E at_ θ, wB E (bd 2) (σ 2), wB E (bd 3) (σ 3), wB E (bd 4) (σ 4), wB E (bd 5) (σ 5), wB E (bd 6) (σ 6), wB E (bd 7) (σ 7), wB E (bd 8) (σ 8), wB E (bd 9) (σ 9)] := by
  have hv1 : cnt β ≤ 20 := hv.1
  refine mc_of (by decide +kernel) (Nat.le_of_ble_eq_true rfl) (lv := [(0, .ref ax)]) rfl (fun X C hE => ?_)
  refine g_aload_n C dX6_blockedTickets_0 rfl 0 rfl ?_
  refine g_getf C (T := TX6) (N := 5) 0 0 rfl rfl rfl inX6 0 (by decide) q1_192 rfl dX6_blockedTickets_1 ?_
  refine g_callS C (cs1 := [wX ax (bo 0) (tr 0) (ac 0) (ah 0) (at_ 0), wB E bo β, wB E tr τ, wC E ac γ, wH E ah bd η, wT E at_ θ, wB E (bd 2) (σ 2), wB E (bd 3) (σ 3), wB E (bd 4) (σ 4), wB E (bd 5) (σ 5), wB E (bd 6) (σ 6), wB E (bd 7) (σ 7), wB E (bd 8) (σ 8), wB E (bd 9) (σ 9)]) (st1 := [.int (fX5_blockedAndUnfinished β)]) [.ref (bo 0)] [1] (kX5_blockedAndUnfinished l E bo β hv) caX5_blockedAndUnfinished q2_134 rfl ⟨Nat.le_of_ble_eq_true rfl, Nat.le_of_ble_eq_true rfl⟩ ⟨Nat.zero_le _, Nat.zero_le _⟩ (by decide) rfl rfl rfl rfl (Nat.le_of_ble_eq_true rfl) dX6_blockedTickets_4 rfl ?_
  have e_1 : fX6_blockedTickets β = (fX5_blockedAndUnfinished β) := by rw [fX6_blockedTickets]
  exact g_iret C hE (by rw [e_1]) rfl dX6_blockedTickets_7
def fX6_pointsOfWeek (β : BS) : Int32 :=
  (fX5_closedInWeek β)
theorem caX6_pointsOfWeek : gCalV yX6_pointsOfWeek cX6_pointsOfWeek 1 (some .int) 0 := ⟨⟨q2_163, q1_1, by decide +kernel⟩, q2_161, q2_162⟩
set_option maxHeartbeats 4000000 in
set_option maxRecDepth 100000 in
theorem kX6_pointsOfWeek (l : Launch) (E : gE) (ax : Nat) (bo : Nat → Nat) (β : BS) (tr : Nat → Nat) (τ : BS) (ac : Nat → Nat) (γ : BS) (ah : Nat → Nat) (bd : Nat → Nat → Nat) (η : BS) (σ : Nat → BS) (at_ : Nat → Nat) (θ : BS) (hv : vB β)   : MC l E yX6_pointsOfWeek cX6_pointsOfWeek 1 (some .int) 1 22 [.ref ax] [wX ax (bo 0) (tr 0) (ac 0) (ah 0) (at_ 0), wB E bo β, wB E tr τ, wC E ac γ, wH E ah bd η, wT E at_ θ, wB E (bd 2) (σ 2), wB E (bd 3) (σ 3), wB E (bd 4) (σ 4), wB E (bd 5) (σ 5), wB E (bd 6) (σ 6), wB E (bd 7) (σ 7), wB E (bd 8) (σ 8), wB E (bd 9) (σ 9)] (some (.int (fX6_pointsOfWeek β))) [wX ax (bo 0) (tr 0) (ac 0) (ah 0) (at_ 0), wB E bo β, wB E tr τ, wC E ac γ, wH E ah bd η, wT E at_ θ, wB E (bd 2) (σ 2), wB E (bd 3) (σ 3), wB E (bd 4) (σ 4), wB E (bd 5) (σ 5), wB E (bd 6) (σ 6), wB E (bd 7) (σ 7), wB E (bd 8) (σ 8), wB E (bd 9) (σ 9)] := by
  have hv1 : cnt β ≤ 20 := hv.1
  refine mc_of (by decide +kernel) (Nat.le_of_ble_eq_true rfl) (lv := [(0, .ref ax)]) rfl (fun X C hE => ?_)
  refine g_aload_n C dX6_pointsOfWeek_0 rfl 0 rfl ?_
  refine g_getf C (T := TX6) (N := 5) 0 0 rfl rfl rfl inX6 0 (by decide) q1_192 rfl dX6_pointsOfWeek_1 ?_
  refine g_callS C (cs1 := [wX ax (bo 0) (tr 0) (ac 0) (ah 0) (at_ 0), wB E bo β, wB E tr τ, wC E ac γ, wH E ah bd η, wT E at_ θ, wB E (bd 2) (σ 2), wB E (bd 3) (σ 3), wB E (bd 4) (σ 4), wB E (bd 5) (σ 5), wB E (bd 6) (σ 6), wB E (bd 7) (σ 7), wB E (bd 8) (σ 8), wB E (bd 9) (σ 9)]) (st1 := [.int (fX5_closedInWeek β)]) [.ref (bo 0)] [1] (kX5_closedInWeek l E bo β hv) caX5_closedInWeek q2_164 rfl ⟨Nat.le_of_ble_eq_true rfl, Nat.le_of_ble_eq_true rfl⟩ ⟨Nat.zero_le _, Nat.zero_le _⟩ (by decide) rfl rfl rfl rfl (Nat.le_of_ble_eq_true rfl) dX6_pointsOfWeek_4 rfl ?_
  have e_1 : fX6_pointsOfWeek β = (fX5_closedInWeek β) := by rw [fX6_pointsOfWeek]
  exact g_iret C hE (by rw [e_1]) rfl dX6_pointsOfWeek_7
def fX6_day (β : BS) : Int32 :=
  β.1 1
theorem caX6_day : gCalV yX6_day cX6_day 1 (some .int) 0 := ⟨⟨q2_123, q1_1, by decide +kernel⟩, q2_121, q2_122⟩
set_option maxHeartbeats 4000000 in
set_option maxRecDepth 100000 in
theorem kX6_day (l : Launch) (E : gE) (ax : Nat) (bo : Nat → Nat) (β : BS) (tr : Nat → Nat) (τ : BS) (ac : Nat → Nat) (γ : BS) (ah : Nat → Nat) (bd : Nat → Nat → Nat) (η : BS) (σ : Nat → BS) (at_ : Nat → Nat) (θ : BS)   : MC l E yX6_day cX6_day 1 (some .int) 0 0 [.ref ax] [wX ax (bo 0) (tr 0) (ac 0) (ah 0) (at_ 0), wB E bo β, wB E tr τ, wC E ac γ, wH E ah bd η, wT E at_ θ, wB E (bd 2) (σ 2), wB E (bd 3) (σ 3), wB E (bd 4) (σ 4), wB E (bd 5) (σ 5), wB E (bd 6) (σ 6), wB E (bd 7) (σ 7), wB E (bd 8) (σ 8), wB E (bd 9) (σ 9)] (some (.int (fX6_day β))) [wX ax (bo 0) (tr 0) (ac 0) (ah 0) (at_ 0), wB E bo β, wB E tr τ, wC E ac γ, wH E ah bd η, wT E at_ θ, wB E (bd 2) (σ 2), wB E (bd 3) (σ 3), wB E (bd 4) (σ 4), wB E (bd 5) (σ 5), wB E (bd 6) (σ 6), wB E (bd 7) (σ 7), wB E (bd 8) (σ 8), wB E (bd 9) (σ 9)] := by
  refine mc_of (by decide +kernel) (Nat.le_of_ble_eq_true rfl) (lv := [(0, .ref ax)]) rfl (fun X C hE => ?_)
  refine g_aload_n C dX6_day_0 rfl 0 rfl ?_
  refine g_getf C (T := TX6) (N := 5) 0 0 rfl rfl rfl inX6 0 (by decide) q1_192 rfl dX6_day_1 ?_
  refine g_getf C (T := TX0) (N := 17) 1 0 rfl rfl rfl inX0 1 (by decide) q1_39 rfl dX6_day_4 ?_
  have e_1 : fX6_day β = β.1 1 := by rw [fX6_day]
  exact g_iret C hE (by rw [e_1]) rfl dX6_day_7
def fX6_closings (β : BS) : Int32 :=
  β.1 2
theorem caX6_closings : gCalV yX6_closings cX6_closings 1 (some .int) 0 := ⟨⟨q2_155, q1_1, by decide +kernel⟩, q2_153, q2_154⟩
set_option maxHeartbeats 4000000 in
set_option maxRecDepth 100000 in
theorem kX6_closings (l : Launch) (E : gE) (ax : Nat) (bo : Nat → Nat) (β : BS) (tr : Nat → Nat) (τ : BS) (ac : Nat → Nat) (γ : BS) (ah : Nat → Nat) (bd : Nat → Nat → Nat) (η : BS) (σ : Nat → BS) (at_ : Nat → Nat) (θ : BS)   : MC l E yX6_closings cX6_closings 1 (some .int) 0 0 [.ref ax] [wX ax (bo 0) (tr 0) (ac 0) (ah 0) (at_ 0), wB E bo β, wB E tr τ, wC E ac γ, wH E ah bd η, wT E at_ θ, wB E (bd 2) (σ 2), wB E (bd 3) (σ 3), wB E (bd 4) (σ 4), wB E (bd 5) (σ 5), wB E (bd 6) (σ 6), wB E (bd 7) (σ 7), wB E (bd 8) (σ 8), wB E (bd 9) (σ 9)] (some (.int (fX6_closings β))) [wX ax (bo 0) (tr 0) (ac 0) (ah 0) (at_ 0), wB E bo β, wB E tr τ, wC E ac γ, wH E ah bd η, wT E at_ θ, wB E (bd 2) (σ 2), wB E (bd 3) (σ 3), wB E (bd 4) (σ 4), wB E (bd 5) (σ 5), wB E (bd 6) (σ 6), wB E (bd 7) (σ 7), wB E (bd 8) (σ 8), wB E (bd 9) (σ 9)] := by
  refine mc_of (by decide +kernel) (Nat.le_of_ble_eq_true rfl) (lv := [(0, .ref ax)]) rfl (fun X C hE => ?_)
  refine g_aload_n C dX6_closings_0 rfl 0 rfl ?_
  refine g_getf C (T := TX6) (N := 5) 0 0 rfl rfl rfl inX6 0 (by decide) q1_192 rfl dX6_closings_1 ?_
  refine g_getf C (T := TX0) (N := 17) 1 0 rfl rfl rfl inX0 2 (by decide) q1_41 rfl dX6_closings_4 ?_
  have e_1 : fX6_closings β = β.1 2 := by rw [fX6_closings]
  exact g_iret C hE (by rw [e_1]) rfl dX6_closings_7
def fX6_reopenings (β : BS) : Int32 :=
  β.1 3
theorem caX6_reopenings : gCalV yX6_reopenings cX6_reopenings 1 (some .int) 0 := ⟨⟨q2_159, q1_1, by decide +kernel⟩, q2_157, q2_158⟩
set_option maxHeartbeats 4000000 in
set_option maxRecDepth 100000 in
theorem kX6_reopenings (l : Launch) (E : gE) (ax : Nat) (bo : Nat → Nat) (β : BS) (tr : Nat → Nat) (τ : BS) (ac : Nat → Nat) (γ : BS) (ah : Nat → Nat) (bd : Nat → Nat → Nat) (η : BS) (σ : Nat → BS) (at_ : Nat → Nat) (θ : BS)   : MC l E yX6_reopenings cX6_reopenings 1 (some .int) 0 0 [.ref ax] [wX ax (bo 0) (tr 0) (ac 0) (ah 0) (at_ 0), wB E bo β, wB E tr τ, wC E ac γ, wH E ah bd η, wT E at_ θ, wB E (bd 2) (σ 2), wB E (bd 3) (σ 3), wB E (bd 4) (σ 4), wB E (bd 5) (σ 5), wB E (bd 6) (σ 6), wB E (bd 7) (σ 7), wB E (bd 8) (σ 8), wB E (bd 9) (σ 9)] (some (.int (fX6_reopenings β))) [wX ax (bo 0) (tr 0) (ac 0) (ah 0) (at_ 0), wB E bo β, wB E tr τ, wC E ac γ, wH E ah bd η, wT E at_ θ, wB E (bd 2) (σ 2), wB E (bd 3) (σ 3), wB E (bd 4) (σ 4), wB E (bd 5) (σ 5), wB E (bd 6) (σ 6), wB E (bd 7) (σ 7), wB E (bd 8) (σ 8), wB E (bd 9) (σ 9)] := by
  refine mc_of (by decide +kernel) (Nat.le_of_ble_eq_true rfl) (lv := [(0, .ref ax)]) rfl (fun X C hE => ?_)
  refine g_aload_n C dX6_reopenings_0 rfl 0 rfl ?_
  refine g_getf C (T := TX6) (N := 5) 0 0 rfl rfl rfl inX6 0 (by decide) q1_192 rfl dX6_reopenings_1 ?_
  refine g_getf C (T := TX0) (N := 17) 1 0 rfl rfl rfl inX0 3 (by decide) q1_43 rfl dX6_reopenings_4 ?_
  have e_1 : fX6_reopenings β = β.1 3 := by rw [fX6_reopenings]
  exact g_iret C hE (by rw [e_1]) rfl dX6_reopenings_7
def fX6_tickets (β : BS) : Int32 :=
  β.1 0
theorem caX6_tickets : gCalV yX6_tickets cX6_tickets 1 (some .int) 0 := ⟨⟨q2_31, q1_1, by decide +kernel⟩, q2_29, q2_30⟩
set_option maxHeartbeats 4000000 in
set_option maxRecDepth 100000 in
theorem kX6_tickets (l : Launch) (E : gE) (ax : Nat) (bo : Nat → Nat) (β : BS) (tr : Nat → Nat) (τ : BS) (ac : Nat → Nat) (γ : BS) (ah : Nat → Nat) (bd : Nat → Nat → Nat) (η : BS) (σ : Nat → BS) (at_ : Nat → Nat) (θ : BS)   : MC l E yX6_tickets cX6_tickets 1 (some .int) 0 0 [.ref ax] [wX ax (bo 0) (tr 0) (ac 0) (ah 0) (at_ 0), wB E bo β, wB E tr τ, wC E ac γ, wH E ah bd η, wT E at_ θ, wB E (bd 2) (σ 2), wB E (bd 3) (σ 3), wB E (bd 4) (σ 4), wB E (bd 5) (σ 5), wB E (bd 6) (σ 6), wB E (bd 7) (σ 7), wB E (bd 8) (σ 8), wB E (bd 9) (σ 9)] (some (.int (fX6_tickets β))) [wX ax (bo 0) (tr 0) (ac 0) (ah 0) (at_ 0), wB E bo β, wB E tr τ, wC E ac γ, wH E ah bd η, wT E at_ θ, wB E (bd 2) (σ 2), wB E (bd 3) (σ 3), wB E (bd 4) (σ 4), wB E (bd 5) (σ 5), wB E (bd 6) (σ 6), wB E (bd 7) (σ 7), wB E (bd 8) (σ 8), wB E (bd 9) (σ 9)] := by
  refine mc_of (by decide +kernel) (Nat.le_of_ble_eq_true rfl) (lv := [(0, .ref ax)]) rfl (fun X C hE => ?_)
  refine g_aload_n C dX6_tickets_0 rfl 0 rfl ?_
  refine g_getf C (T := TX6) (N := 5) 0 0 rfl rfl rfl inX6 0 (by decide) q1_192 rfl dX6_tickets_1 ?_
  refine g_getf C (T := TX0) (N := 17) 1 0 rfl rfl rfl inX0 0 (by decide) q1_36 rfl dX6_tickets_4 ?_
  have e_1 : fX6_tickets β = β.1 0 := by rw [fX6_tickets]
  exact g_iret C hE (by rw [e_1]) rfl dX6_tickets_7
def fX6_savedStates (η : BS) : Int32 :=
  (fX3_savedCount η)
theorem caX6_savedStates : gCalV yX6_savedStates cX6_savedStates 1 (some .int) 0 := ⟨⟨q2_23, q1_1, by decide +kernel⟩, q2_21, q2_22⟩
set_option maxHeartbeats 4000000 in
set_option maxRecDepth 100000 in
theorem kX6_savedStates (l : Launch) (E : gE) (ax : Nat) (bo : Nat → Nat) (β : BS) (tr : Nat → Nat) (τ : BS) (ac : Nat → Nat) (γ : BS) (ah : Nat → Nat) (bd : Nat → Nat → Nat) (η : BS) (σ : Nat → BS) (at_ : Nat → Nat) (θ : BS)   : MC l E yX6_savedStates cX6_savedStates 1 (some .int) 1 20 [.ref ax] [wX ax (bo 0) (tr 0) (ac 0) (ah 0) (at_ 0), wB E bo β, wB E tr τ, wC E ac γ, wH E ah bd η, wT E at_ θ, wB E (bd 2) (σ 2), wB E (bd 3) (σ 3), wB E (bd 4) (σ 4), wB E (bd 5) (σ 5), wB E (bd 6) (σ 6), wB E (bd 7) (σ 7), wB E (bd 8) (σ 8), wB E (bd 9) (σ 9)] (some (.int (fX6_savedStates η))) [wX ax (bo 0) (tr 0) (ac 0) (ah 0) (at_ 0), wB E bo β, wB E tr τ, wC E ac γ, wH E ah bd η, wT E at_ θ, wB E (bd 2) (σ 2), wB E (bd 3) (σ 3), wB E (bd 4) (σ 4), wB E (bd 5) (σ 5), wB E (bd 6) (σ 6), wB E (bd 7) (σ 7), wB E (bd 8) (σ 8), wB E (bd 9) (σ 9)] := by
  refine mc_of (by decide +kernel) (Nat.le_of_ble_eq_true rfl) (lv := [(0, .ref ax)]) rfl (fun X C hE => ?_)
  refine g_aload_n C dX6_savedStates_0 rfl 0 rfl ?_
  refine g_getf C (T := TX6) (N := 5) 0 0 rfl rfl rfl inX6 3 (by decide) q1_195 rfl dX6_savedStates_1 ?_
  refine g_callV C (cs1 := [wX ax (bo 0) (tr 0) (ac 0) (ah 0) (at_ 0), wB E bo β, wB E tr τ, wC E ac γ, wH E ah bd η, wT E at_ θ, wB E (bd 2) (σ 2), wB E (bd 3) (σ 3), wB E (bd 4) (σ 4), wB E (bd 5) (σ 5), wB E (bd 6) (σ 6), wB E (bd 7) (σ 7), wB E (bd 8) (σ 8), wB E (bd 9) (σ 9)]) (st1 := [.int (fX3_savedCount η)]) [] [4] (kX3_savedCount l E ah bd η) caX3_savedCount q2_24 rfl ⟨Nat.le_of_ble_eq_true rfl, Nat.le_of_ble_eq_true rfl⟩ ⟨Nat.zero_le _, Nat.zero_le _⟩ 4 0 rfl rfl rfl rfl (by decide) rfl rfl rfl rfl (Nat.le_of_ble_eq_true rfl) dX6_savedStates_4 rfl ?_
  have e_1 : fX6_savedStates η = (fX3_savedCount η) := by rw [fX6_savedStates]
  exact g_iret C hE (by rw [e_1]) rfl dX6_savedStates_7
def fX6_clearBuffer (θ : BS) : Int32 × BS :=
  ((fX4_clear θ).1, (fX4_clear θ).2)
theorem caX6_clearBuffer : gCalV yX6_clearBuffer cX6_clearBuffer 1 (some .int) 0 := ⟨⟨q1_211, q1_1, by decide +kernel⟩, q1_209, q1_210⟩
set_option maxHeartbeats 4000000 in
set_option maxRecDepth 100000 in
theorem kX6_clearBuffer (l : Launch) (E : gE) (ax : Nat) (bo : Nat → Nat) (β : BS) (tr : Nat → Nat) (τ : BS) (ac : Nat → Nat) (γ : BS) (ah : Nat → Nat) (bd : Nat → Nat → Nat) (η : BS) (σ : Nat → BS) (at_ : Nat → Nat) (θ : BS) (hvt : vT θ)   : MC l E yX6_clearBuffer cX6_clearBuffer 1 (some .int) 1 21 [.ref ax] [wX ax (bo 0) (tr 0) (ac 0) (ah 0) (at_ 0), wB E bo β, wB E tr τ, wC E ac γ, wH E ah bd η, wT E at_ θ, wB E (bd 2) (σ 2), wB E (bd 3) (σ 3), wB E (bd 4) (σ 4), wB E (bd 5) (σ 5), wB E (bd 6) (σ 6), wB E (bd 7) (σ 7), wB E (bd 8) (σ 8), wB E (bd 9) (σ 9)] (some (.int (fX6_clearBuffer θ).1)) [wX ax (bo 0) (tr 0) (ac 0) (ah 0) (at_ 0), wB E bo β, wB E tr τ, wC E ac γ, wH E ah bd η, wT E at_ ((fX6_clearBuffer θ).2), wB E (bd 2) (σ 2), wB E (bd 3) (σ 3), wB E (bd 4) (σ 4), wB E (bd 5) (σ 5), wB E (bd 6) (σ 6), wB E (bd 7) (σ 7), wB E (bd 8) (σ 8), wB E (bd 9) (σ 9)] := by
  refine mc_of (by decide +kernel) (Nat.le_of_ble_eq_true rfl) (lv := [(0, .ref ax)]) rfl (fun X C hE => ?_)
  refine g_aload_n C dX6_clearBuffer_0 rfl 0 rfl ?_
  refine g_getf C (T := TX6) (N := 5) 0 0 rfl rfl rfl inX6 4 (by decide) q1_196 rfl dX6_clearBuffer_1 ?_
  refine g_callV C (cs1 := [wX ax (bo 0) (tr 0) (ac 0) (ah 0) (at_ 0), wB E bo β, wB E tr τ, wC E ac γ, wH E ah bd η, wT E at_ ((fX4_clear θ).2), wB E (bd 2) (σ 2), wB E (bd 3) (σ 3), wB E (bd 4) (σ 4), wB E (bd 5) (σ 5), wB E (bd 6) (σ 6), wB E (bd 7) (σ 7), wB E (bd 8) (σ 8), wB E (bd 9) (σ 9)]) (st1 := [.int ((fX4_clear θ).1)]) [] [5] (kX4_clear l E at_ θ hvt) caX4_clear q1_212 rfl ⟨Nat.le_of_ble_eq_true rfl, Nat.le_of_ble_eq_true rfl⟩ ⟨Nat.zero_le _, Nat.zero_le _⟩ 5 0 rfl rfl rfl rfl (by decide) rfl rfl rfl rfl (Nat.le_of_ble_eq_true rfl) dX6_clearBuffer_4 rfl ?_
  have e_1 : fX6_clearBuffer θ = ((fX4_clear θ).1, (fX4_clear θ).2) := by rw [fX6_clearBuffer]
  exact g_iret C hE (by rw [e_1]) (by rw [e_1]) dX6_clearBuffer_7
def fX6_firstError (θ : BS) : Int32 × BS :=
  ((fX4_errorPlace θ).1, (fX4_errorPlace θ).2)
theorem caX6_firstError : gCalV yX6_firstError cX6_firstError 1 (some .int) 0 := ⟨⟨q1_219, q1_1, by decide +kernel⟩, q1_217, q1_218⟩
set_option maxHeartbeats 4000000 in
set_option maxRecDepth 100000 in
theorem kX6_firstError (l : Launch) (E : gE) (ax : Nat) (bo : Nat → Nat) (β : BS) (tr : Nat → Nat) (τ : BS) (ac : Nat → Nat) (γ : BS) (ah : Nat → Nat) (bd : Nat → Nat → Nat) (η : BS) (σ : Nat → BS) (at_ : Nat → Nat) (θ : BS) (hvt : vT θ)   : MC l E yX6_firstError cX6_firstError 1 (some .int) 6 132 [.ref ax] [wX ax (bo 0) (tr 0) (ac 0) (ah 0) (at_ 0), wB E bo β, wB E tr τ, wC E ac γ, wH E ah bd η, wT E at_ θ, wB E (bd 2) (σ 2), wB E (bd 3) (σ 3), wB E (bd 4) (σ 4), wB E (bd 5) (σ 5), wB E (bd 6) (σ 6), wB E (bd 7) (σ 7), wB E (bd 8) (σ 8), wB E (bd 9) (σ 9)] (some (.int (fX6_firstError θ).1)) [wX ax (bo 0) (tr 0) (ac 0) (ah 0) (at_ 0), wB E bo β, wB E tr τ, wC E ac γ, wH E ah bd η, wT E at_ ((fX6_firstError θ).2), wB E (bd 2) (σ 2), wB E (bd 3) (σ 3), wB E (bd 4) (σ 4), wB E (bd 5) (σ 5), wB E (bd 6) (σ 6), wB E (bd 7) (σ 7), wB E (bd 8) (σ 8), wB E (bd 9) (σ 9)] := by
  refine mc_of (by decide +kernel) (Nat.le_of_ble_eq_true rfl) (lv := [(0, .ref ax)]) rfl (fun X C hE => ?_)
  refine g_aload_n C dX6_firstError_0 rfl 0 rfl ?_
  refine g_getf C (T := TX6) (N := 5) 0 0 rfl rfl rfl inX6 4 (by decide) q1_196 rfl dX6_firstError_1 ?_
  refine g_callV C (cs1 := [wX ax (bo 0) (tr 0) (ac 0) (ah 0) (at_ 0), wB E bo β, wB E tr τ, wC E ac γ, wH E ah bd η, wT E at_ ((fX4_errorPlace θ).2), wB E (bd 2) (σ 2), wB E (bd 3) (σ 3), wB E (bd 4) (σ 4), wB E (bd 5) (σ 5), wB E (bd 6) (σ 6), wB E (bd 7) (σ 7), wB E (bd 8) (σ 8), wB E (bd 9) (σ 9)]) (st1 := [.int ((fX4_errorPlace θ).1)]) [] [5] (kX4_errorPlace l E at_ θ hvt) caX4_errorPlace q1_220 rfl ⟨Nat.le_of_ble_eq_true rfl, Nat.le_of_ble_eq_true rfl⟩ ⟨Nat.zero_le _, Nat.zero_le _⟩ 5 0 rfl rfl rfl rfl (by decide) rfl rfl rfl rfl (Nat.le_of_ble_eq_true rfl) dX6_firstError_4 rfl ?_
  have e_1 : fX6_firstError θ = ((fX4_errorPlace θ).1, (fX4_errorPlace θ).2) := by rw [fX6_firstError]
  exact g_iret C hE (by rw [e_1]) (by rw [e_1]) dX6_firstError_7
def fX6_meanDays (β : BS) : UInt64 :=
  (fX5_meanProgress β)
theorem caX6_meanDays : gCalV yX6_meanDays cX6_meanDays 1 (some .double) 0 := ⟨⟨q2_170, q1_1, by decide +kernel⟩, q2_168, q2_169⟩
set_option maxHeartbeats 4000000 in
set_option maxRecDepth 100000 in
theorem kX6_meanDays (l : Launch) (E : gE) (ax : Nat) (bo : Nat → Nat) (β : BS) (tr : Nat → Nat) (τ : BS) (ac : Nat → Nat) (γ : BS) (ah : Nat → Nat) (bd : Nat → Nat → Nat) (η : BS) (σ : Nat → BS) (at_ : Nat → Nat) (θ : BS) (hv : vB β) (hnn : gNN)   : MC l E yX6_meanDays cX6_meanDays 1 (some .double) 1 23 [.ref ax] [wX ax (bo 0) (tr 0) (ac 0) (ah 0) (at_ 0), wB E bo β, wB E tr τ, wC E ac γ, wH E ah bd η, wT E at_ θ, wB E (bd 2) (σ 2), wB E (bd 3) (σ 3), wB E (bd 4) (σ 4), wB E (bd 5) (σ 5), wB E (bd 6) (σ 6), wB E (bd 7) (σ 7), wB E (bd 8) (σ 8), wB E (bd 9) (σ 9)] (some (.double (fX6_meanDays β))) [wX ax (bo 0) (tr 0) (ac 0) (ah 0) (at_ 0), wB E bo β, wB E tr τ, wC E ac γ, wH E ah bd η, wT E at_ θ, wB E (bd 2) (σ 2), wB E (bd 3) (σ 3), wB E (bd 4) (σ 4), wB E (bd 5) (σ 5), wB E (bd 6) (σ 6), wB E (bd 7) (σ 7), wB E (bd 8) (σ 8), wB E (bd 9) (σ 9)] := by
  have hv1 : cnt β ≤ 20 := hv.1
  refine mc_of (by decide +kernel) (Nat.le_of_ble_eq_true rfl) (lv := [(0, .ref ax)]) rfl (fun X C hE => ?_)
  refine g_aload_n C dX6_meanDays_0 rfl 0 rfl ?_
  refine g_getf C (T := TX6) (N := 5) 0 0 rfl rfl rfl inX6 0 (by decide) q1_192 rfl dX6_meanDays_1 ?_
  refine g_callS C (cs1 := [wX ax (bo 0) (tr 0) (ac 0) (ah 0) (at_ 0), wB E bo β, wB E tr τ, wC E ac γ, wH E ah bd η, wT E at_ θ, wB E (bd 2) (σ 2), wB E (bd 3) (σ 3), wB E (bd 4) (σ 4), wB E (bd 5) (σ 5), wB E (bd 6) (σ 6), wB E (bd 7) (σ 7), wB E (bd 8) (σ 8), wB E (bd 9) (σ 9)]) (st1 := [.double (fX5_meanProgress β)]) [.ref (bo 0)] [1] (kX5_meanProgress l E bo β hv hnn) caX5_meanProgress q2_171 rfl ⟨Nat.le_of_ble_eq_true rfl, Nat.le_of_ble_eq_true rfl⟩ ⟨Nat.zero_le _, Nat.zero_le _⟩ (by decide) rfl rfl rfl rfl (Nat.le_of_ble_eq_true rfl) dX6_meanDays_4 rfl ?_
  have e_1 : fX6_meanDays β = (fX5_meanProgress β) := by rw [fX6_meanDays]
  exact g_dret C hE (by rw [e_1]) rfl dX6_meanDays_7
