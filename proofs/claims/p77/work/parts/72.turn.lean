/-! ===== the law: a turn, the loop ===== -/
theorem told_g {dd : Nat} {β γ γ' : BS} (hI : INV dd β) : (fL_told β γ).1 = (fL_told β γ').1 := by
  have e : (fT_criticalByOrder β γ).1 = (fT_criticalByOrder β γ').1 := (crit_two (γ := γ) hI).symm.trans (crit_two hI)
  unfold fL_told
  show lpF (fL_told_L246 β γ) _ 4 = lpF (fL_told_L246 β γ') _ 4
  rw [e]
  rfl
theorem cmp_told {dd : Nat} {β γ γ' : BS} (hI : INV dd β) : lg_cmp (fL_told β γ).1 (fL_told β γ').1 = 0 := by
  rw [told_g (γ' := γ') hI]
  exact lg_cmp_self _
theorem save_full {η β : BS} {σ : Nat → BS} (hv : vH η) (c : 6 ≤ fT_savedStates η) : fT_savedStates (fX3_save η σ β).1 = 6 := by
  obtain ⟨-, ⟨k, hk, e⟩, -⟩ := hv
  have c2 : 6 ≤ η.1 1 := c
  rw [e] at c2
  have h6 : k = 6 := by
    have := (nI_leI (a := 6) (by decide) (by omega)).mp c2
    omega
  subst h6
  show (fX3_save η σ β).1.1 1 = 6
  unfold fX3_save
  rw [if_pos (show η.1 1 = 6 from e)]
  show (η.1 1 - 1) + 1 = 6
  rw [e]
  rfl
theorem save_more {η β : BS} {σ : Nat → BS} (c : ¬ 6 ≤ fT_savedStates η) : fT_savedStates (fX3_save η σ β).1 = fT_savedStates η + 1 := by
  show (fX3_save η σ β).1.1 1 = η.1 1 + 1
  unfold fX3_save
  rw [if_neg (fun q => c (by show 6 ≤ η.1 1; rw [q]; decide))]
  rfl
theorem save_pos {η β : BS} {σ : Nat → BS} (hv : vH η) : 0 < (fX3_save η σ β).1.1 1 := by
  obtain ⟨-, ⟨k, hk, e⟩, -⟩ := hv
  unfold fX3_save
  split
  · rename_i c6
    show 0 < (η.1 1 - 1) + 1
    rw [c6]
    decide
  · show 0 < η.1 1 + 1
    rw [e, nI_1]
    exact lc_lt nI_l0 rfl (by omega) (by omega)
theorem i_sub1 (x : Int32) : x + 1 - 1 = x := by simp
theorem undo_R {η β b : BS} {σ : Nat → BS} : fT_undo b (fX3_save η σ β).1 (fX3_save η σ β).2 = (β, sI (fX3_save η σ β).1 1 ((fX3_save η σ β).1.1 1 - 1)) := by
  unfold fT_undo fX3_restoreSaved
  refine Prod.ext ?_ rfl
  show (fX3_save η σ β).2 (2 + (iremF ((fX3_save η σ β).1.1 0 + ((fX3_save η σ β).1.1 1 - 1)) 6).toNatClampNeg) = β
  unfold fX3_save
  split
  · show upB σ _ β (2 + (iremF (_ + ((η.1 1 - 1) + 1 - 1)) 6).toNatClampNeg) = β
    rw [i_sub1]
    exact if_pos rfl
  · show upB σ _ β (2 + (iremF (η.1 0 + (η.1 1 + 1 - 1)) 6).toNatClampNeg) = β
    rw [i_sub1]
    exact if_pos rfl
theorem vH_less {η : BS} (hv : vH η) (h0 : 0 < η.1 1) : vH (sI η 1 (η.1 1 - 1)) := ⟨hv.1, cnt_pred hv.2.1 h0, hv.2.2⟩
set_option maxRecDepth 100000 in
set_option maxHeartbeats 4000000 in
theorem law_270 {X : gX} {l : Launch} {E : gE} (C : gC X cL_law 12 RL (some .boolean) l E room_1) {k n : Nat} (hk : k ≤ room_1.cells) (hn : n ≤ room_1.slots) {b0 ax : Nat} {bo tr ac ah : Nat → Nat} {bd : Nat → Nat → Nat} {at_ : Nat → Nat} {τ θ : BS} {i : Nat} (hi : i < 36) (next : ∀ (β γ η : BS) (σ : Nat → BS), INV (12 * (i + 1)) β → vH η → G X k n [wX ax (bo 0) (tr 0) (ac 0) (ah 0) (at_ 0), wB E bo β, wB E tr τ, wC E ac γ, wH E ah bd η, wT E at_ θ, wB E (bd 2) (σ 2), wB E (bd 3) (σ 3), wB E (bd 4) (σ 4), wB E (bd 5) (σ 5), wB E (bd 6) (σ 6), wB E (bd 7) (σ 7), wB E (bd 8) (σ 8), wB E (bd 9) (σ 9)] [(0, .ref b0), (1, .ref ax), (2, .int (nI i))] 279 []) {β γ η : BS} {σ : Nat → BS} (hI9 : INV (12 * (i + 1)) β) (hvh : vH η) : G X k n [wX ax (bo 0) (tr 0) (ac 0) (ah 0) (at_ 0), wB E bo β, wB E tr τ, wC E ac γ, wH E ah bd η, wT E at_ θ, wB E (bd 2) (σ 2), wB E (bd 3) (σ 3), wB E (bd 4) (σ 4), wB E (bd 5) (σ 5), wB E (bd 6) (σ 6), wB E (bd 7) (σ 7), wB E (bd 8) (σ 8), wB E (bd 9) (σ 9)] [(0, .ref b0), (1, .ref ax), (2, .int (nI i))] 270 [] := by
  have hI : INV 432 β := hI9.mono (by omega)
  refine g_aload_n C dL_law_270 rfl 1 rfl ?_
  refine g_callS C (cs1 := [wX ax (bo 0) (tr 0) (ac 0) (ah 0) (at_ 0), wB E bo β, wB E tr τ, wC E ac ((fL_holds β γ).2), wH E ah bd η, wT E at_ θ, wB E (bd 2) (σ 2), wB E (bd 3) (σ 3), wB E (bd 4) (σ 4), wB E (bd 5) (σ 5), wB E (bd 6) (σ 6), wB E (bd 7) (σ 7), wB E (bd 8) (σ 8), wB E (bd 9) (σ 9)]) (st1 := [.int (b2i ((fL_holds β γ).1))]) [.ref ax] [0, 1, 2, 3, 4, 5, 6, 7, 8, 9, 10, 11, 12, 13] (kL_holds l E ax bo β tr τ ac γ ah bd η σ at_ θ (INV.v hI) hI) caL_holds q3_202 rfl ⟨Nat.le_of_ble_eq_true rfl, Nat.le_of_ble_eq_true rfl⟩ ⟨hk, hn⟩ (by decide) rfl rfl rfl rfl (Nat.le_of_ble_eq_true rfl) dL_law_271 rfl ?_
  refine g_ifB_ne C 279 dL_law_274 (by decide) (fun c_1 => ?_) (fun c_1 => absurd (show (fL_holds β γ).1 = true from rfl) (by rw [c_1]; decide))
  exact next _ _ _ _ hI9 hvh
set_option maxRecDepth 100000 in
set_option maxHeartbeats 4000000 in
theorem law_turn {X : gX} {l : Launch} {E : gE} (C : gC X cL_law 12 RL (some .boolean) l E room_1) {k n : Nat} (hk : k ≤ room_1.cells) (hn : n ≤ room_1.slots) {b0 ax : Nat} {bo tr ac ah : Nat → Nat} {bd : Nat → Nat → Nat} {at_ : Nat → Nat} {τ θ : BS} {i : Nat} (hi : i < 36) (next : ∀ (β γ η : BS) (σ : Nat → BS), INV (12 * (i + 1)) β → vH η → G X k n [wX ax (bo 0) (tr 0) (ac 0) (ah 0) (at_ 0), wB E bo β, wB E tr τ, wC E ac γ, wH E ah bd η, wT E at_ θ, wB E (bd 2) (σ 2), wB E (bd 3) (σ 3), wB E (bd 4) (σ 4), wB E (bd 5) (σ 5), wB E (bd 6) (σ 6), wB E (bd 7) (σ 7), wB E (bd 8) (σ 8), wB E (bd 9) (σ 9)] [(0, .ref b0), (1, .ref ax), (2, .int (nI i))] 279 []) {β γ η : BS} {σ : Nat → BS} (hI0 : INV (12 * i) β) (hvh : vH η) (v x : Int32) : G X k n [wX ax (bo 0) (tr 0) (ac 0) (ah 0) (at_ 0), wB E bo β, wB E tr τ, wC E ac γ, wH E ah bd η, wT E at_ θ, wB E (bd 2) (σ 2), wB E (bd 3) (σ 3), wB E (bd 4) (σ 4), wB E (bd 5) (σ 5), wB E (bd 6) (σ 6), wB E (bd 7) (σ 7), wB E (bd 8) (σ 8), wB E (bd 9) (σ 9)] [(0, .ref b0), (1, .ref ax), (2, .int (nI i)), (3, .int v), (4, .int x)] 126 [] := by
  have hI : INV 420 β := hI0.mono (by omega)
  have hv : vB β := INV.v hI0
  refine g_aload_n C dL_law_126 rfl 1 rfl ?_
  refine g_callS C (cs1 := [wX ax (bo 0) (tr 0) (ac 0) (ah 0) (at_ 0), wB E bo β, wB E tr τ, wC E ac ((fL_told β γ).2), wH E ah bd η, wT E at_ θ, wB E (bd 2) (σ 2), wB E (bd 3) (σ 3), wB E (bd 4) (σ 4), wB E (bd 5) (σ 5), wB E (bd 6) (σ 6), wB E (bd 7) (σ 7), wB E (bd 8) (σ 8), wB E (bd 9) (σ 9)]) (st1 := [.long ((fL_told β γ).1)]) [.ref ax] [0, 1, 2, 3, 4, 5, 6, 7, 8, 9, 10, 11, 12, 13] (kL_told l E ax bo β tr τ ac γ ah bd η σ at_ θ hv) caL_told q2_152 rfl ⟨Nat.le_of_ble_eq_true rfl, Nat.le_of_ble_eq_true rfl⟩ ⟨hk, hn⟩ (by decide) rfl rfl rfl rfl (Nat.le_of_ble_eq_true rfl) dL_law_127 rfl ?_
  refine g_lstore C (lv1 := [(5, .long ((fL_told β γ).1)), (0, .ref b0), (1, .ref ax), (2, .int (nI i)), (3, .int v), (4, .int x)]) dL_law_130 (by decide) rfl ?_
  refine g_aload_n C dL_law_132 rfl 2 rfl ?_
  refine g_callV C (cs1 := [wX ax (bo 0) (tr 0) (ac 0) (ah 0) (at_ 0), wB E bo β, wB E tr τ, wC E ac ((fL_told β γ).2), wH E ah bd η, wT E at_ θ, wB E (bd 2) (σ 2), wB E (bd 3) (σ 3), wB E (bd 4) (σ 4), wB E (bd 5) (σ 5), wB E (bd 6) (σ 6), wB E (bd 7) (σ 7), wB E (bd 8) (σ 8), wB E (bd 9) (σ 9)]) (st1 := [.int (fT_savedStates η)]) [] [0, 1, 2, 3, 4, 5, 6, 7, 8, 9, 10, 11, 12, 13] (kT_savedStates l E ax bo β tr τ ac ((fL_told β γ).2) ah bd η σ at_ θ) caX6_savedStates q2_51 rfl ⟨Nat.le_of_ble_eq_true rfl, Nat.le_of_ble_eq_true rfl⟩ ⟨hk, hn⟩ 0 0 rfl rfl rfl rfl (by decide) rfl rfl rfl rfl (Nat.le_of_ble_eq_true rfl) dL_law_133 rfl ?_
  refine g_istore C (lv1 := [(7, .int (fT_savedStates η)), (5, .long ((fL_told β γ).1)), (0, .ref b0), (1, .ref ax), (2, .int (nI i)), (3, .int v), (4, .int x)]) dL_law_136 (by decide) rfl ?_
  refine g_aload_n C dL_law_138 rfl 3 rfl ?_
  refine g_iload_n C dL_law_139 rfl 5 rfl ?_
  refine g_iload C dL_law_140 6 rfl ?_
  refine g_callS C (cs1 := [wX ax (bo 0) (tr 0) (ac 0) (ah 0) (at_ 0), wB E bo ((fL_act β η σ v x).2.1), wB E tr τ, wC E ac ((fL_told β γ).2), wH E ah bd ((fL_act β η σ v x).2.2.1), wT E at_ θ, wB E (bd 2) ((fL_act β η σ v x).2.2.2 2), wB E (bd 3) ((fL_act β η σ v x).2.2.2 3), wB E (bd 4) ((fL_act β η σ v x).2.2.2 4), wB E (bd 5) ((fL_act β η σ v x).2.2.2 5), wB E (bd 6) ((fL_act β η σ v x).2.2.2 6), wB E (bd 7) ((fL_act β η σ v x).2.2.2 7), wB E (bd 8) ((fL_act β η σ v x).2.2.2 8), wB E (bd 9) ((fL_act β η σ v x).2.2.2 9)]) (st1 := [.int (b2i ((fL_act β η σ v x).1))]) [.ref ax, .int v, .int x] [0, 1, 2, 3, 4, 5, 6, 7, 8, 9, 10, 11, 12, 13] (kL_act l E ax bo β tr τ ac ((fL_told β γ).2) ah bd η σ at_ θ hv hvh v x hI) caL_act q3_23 rfl ⟨Nat.le_of_ble_eq_true rfl, Nat.le_of_ble_eq_true rfl⟩ ⟨hk, hn⟩ (by decide) rfl rfl rfl rfl (Nat.le_of_ble_eq_true rfl) dL_law_142 rfl ?_
  cases hA : fA β v x with
  | none =>
    have eA : fL_act β η σ v x = (false, β, η, σ) := by rw [act_R, hA]; rfl
    rw [eA]
    show G X k n [wX ax (bo 0) (tr 0) (ac 0) (ah 0) (at_ 0), wB E bo β, wB E tr τ, wC E ac ((fL_told β γ).2), wH E ah bd η, wT E at_ θ, wB E (bd 2) (σ 2), wB E (bd 3) (σ 3), wB E (bd 4) (σ 4), wB E (bd 5) (σ 5), wB E (bd 6) (σ 6), wB E (bd 7) (σ 7), wB E (bd 8) (σ 8), wB E (bd 9) (σ 9)] [(7, .int (fT_savedStates η)), (5, .long ((fL_told β γ).1)), (0, .ref b0), (1, .ref ax), (2, .int (nI i)), (3, .int v), (4, .int x)] 145 [.int (b2i false)]
    refine g_istore C (lv1 := [(8, .int (b2i false)), (7, .int (fT_savedStates η)), (5, .long ((fL_told β γ).1)), (0, .ref b0), (1, .ref ax), (2, .int (nI i)), (3, .int v), (4, .int x)]) dL_law_145 (by decide) rfl ?_
    refine g_aload_n C dL_law_147 rfl 4 rfl ?_
    refine g_callS C (cs1 := [wX ax (bo 0) (tr 0) (ac 0) (ah 0) (at_ 0), wB E bo β, wB E tr τ, wC E ac ((fL_told β ((fL_told β γ).2)).2), wH E ah bd η, wT E at_ θ, wB E (bd 2) (σ 2), wB E (bd 3) (σ 3), wB E (bd 4) (σ 4), wB E (bd 5) (σ 5), wB E (bd 6) (σ 6), wB E (bd 7) (σ 7), wB E (bd 8) (σ 8), wB E (bd 9) (σ 9)]) (st1 := [.long ((fL_told β ((fL_told β γ).2)).1)]) [.ref ax] [0, 1, 2, 3, 4, 5, 6, 7, 8, 9, 10, 11, 12, 13] (kL_told l E ax bo β tr τ ac ((fL_told β γ).2) ah bd η σ at_ θ hv) caL_told q2_152 rfl ⟨Nat.le_of_ble_eq_true rfl, Nat.le_of_ble_eq_true rfl⟩ ⟨hk, hn⟩ (by decide) rfl rfl rfl rfl (Nat.le_of_ble_eq_true rfl) dL_law_148 rfl ?_
    refine g_lstore C (lv1 := [(9, .long ((fL_told β ((fL_told β γ).2)).1)), (8, .int (b2i false)), (7, .int (fT_savedStates η)), (5, .long ((fL_told β γ).1)), (0, .ref b0), (1, .ref ax), (2, .int (nI i)), (3, .int v), (4, .int x)]) dL_law_151 (by decide) rfl ?_
    refine g_iload C dL_law_153 1 rfl ?_
    refine g_ifB_ne C 178 dL_law_155 (by decide) (fun c_1 => absurd c_1 (by decide)) (fun c_1 => ?_)
    refine g_lload C dL_law_158 0 rfl ?_
    refine g_lload C dL_law_160 3 rfl ?_
    refine g_lcmp C dL_law_162 ?_
    refine g_if_ne C 201 dL_law_163 (by decide) (fun c_2 => absurd (cmp_told hI) c_2) (fun c_2 => ?_)
    refine g_aload_n C dL_law_166 rfl 5 rfl ?_
    refine g_callV C (cs1 := [wX ax (bo 0) (tr 0) (ac 0) (ah 0) (at_ 0), wB E bo β, wB E tr τ, wC E ac ((fL_told β ((fL_told β γ).2)).2), wH E ah bd η, wT E at_ θ, wB E (bd 2) (σ 2), wB E (bd 3) (σ 3), wB E (bd 4) (σ 4), wB E (bd 5) (σ 5), wB E (bd 6) (σ 6), wB E (bd 7) (σ 7), wB E (bd 8) (σ 8), wB E (bd 9) (σ 9)]) (st1 := [.int (fT_savedStates η)]) [] [0, 1, 2, 3, 4, 5, 6, 7, 8, 9, 10, 11, 12, 13] (kT_savedStates l E ax bo β tr τ ac ((fL_told β ((fL_told β γ).2)).2) ah bd η σ at_ θ) caX6_savedStates q2_51 rfl ⟨Nat.le_of_ble_eq_true rfl, Nat.le_of_ble_eq_true rfl⟩ ⟨hk, hn⟩ 0 0 rfl rfl rfl rfl (by decide) rfl rfl rfl rfl (Nat.le_of_ble_eq_true rfl) dL_law_167 rfl ?_
    refine g_iload C dL_law_170 2 rfl ?_
    refine g_icmp_eq C 203 dL_law_172 (by decide) (fun c_3 => ?_) (fun c_3 => absurd rfl c_3)
    refine g_iload C dL_law_203 1 rfl ?_
    refine g_ifB_eq C 270 dL_law_205 (by decide) (fun c_4 => ?_) (fun c_4 => absurd c_4 (by decide))
    exact g_sub [4, 5, 6] rfl (law_270 C hk hn hi next (hI0.mono (by omega)) hvh)
  | some b =>
    have eA : fL_act β η σ v x = (true, b, (fX3_save η σ β).1, (fX3_save η σ β).2) := by rw [act_R, hA]; rfl
    have hb9 : INV (12 * i + 12) b := inv_act hI0 (by omega) hA
    have hbv : vB b := INV.v hb9
    have hvs : vH (fX3_save η σ β).1 := vH_save hvh
    rw [eA]
    show G X k n [wX ax (bo 0) (tr 0) (ac 0) (ah 0) (at_ 0), wB E bo b, wB E tr τ, wC E ac ((fL_told β γ).2), wH E ah bd ((fX3_save η σ β).1), wT E at_ θ, wB E (bd 2) (((fX3_save η σ β).2) 2), wB E (bd 3) (((fX3_save η σ β).2) 3), wB E (bd 4) (((fX3_save η σ β).2) 4), wB E (bd 5) (((fX3_save η σ β).2) 5), wB E (bd 6) (((fX3_save η σ β).2) 6), wB E (bd 7) (((fX3_save η σ β).2) 7), wB E (bd 8) (((fX3_save η σ β).2) 8), wB E (bd 9) (((fX3_save η σ β).2) 9)] [(7, .int (fT_savedStates η)), (5, .long ((fL_told β γ).1)), (0, .ref b0), (1, .ref ax), (2, .int (nI i)), (3, .int v), (4, .int x)] 145 [.int (b2i true)]
    refine g_istore C (lv1 := [(8, .int (b2i true)), (7, .int (fT_savedStates η)), (5, .long ((fL_told β γ).1)), (0, .ref b0), (1, .ref ax), (2, .int (nI i)), (3, .int v), (4, .int x)]) dL_law_145 (by decide) rfl ?_
    refine g_aload_n C dL_law_147 rfl 4 rfl ?_
    refine g_callS C (cs1 := [wX ax (bo 0) (tr 0) (ac 0) (ah 0) (at_ 0), wB E bo b, wB E tr τ, wC E ac ((fL_told b ((fL_told β γ).2)).2), wH E ah bd ((fX3_save η σ β).1), wT E at_ θ, wB E (bd 2) (((fX3_save η σ β).2) 2), wB E (bd 3) (((fX3_save η σ β).2) 3), wB E (bd 4) (((fX3_save η σ β).2) 4), wB E (bd 5) (((fX3_save η σ β).2) 5), wB E (bd 6) (((fX3_save η σ β).2) 6), wB E (bd 7) (((fX3_save η σ β).2) 7), wB E (bd 8) (((fX3_save η σ β).2) 8), wB E (bd 9) (((fX3_save η σ β).2) 9)]) (st1 := [.long ((fL_told b ((fL_told β γ).2)).1)]) [.ref ax] [0, 1, 2, 3, 4, 5, 6, 7, 8, 9, 10, 11, 12, 13] (kL_told l E ax bo b tr τ ac ((fL_told β γ).2) ah bd ((fX3_save η σ β).1) ((fX3_save η σ β).2) at_ θ hbv) caL_told q2_152 rfl ⟨Nat.le_of_ble_eq_true rfl, Nat.le_of_ble_eq_true rfl⟩ ⟨hk, hn⟩ (by decide) rfl rfl rfl rfl (Nat.le_of_ble_eq_true rfl) dL_law_148 rfl ?_
    refine g_lstore C (lv1 := [(9, .long ((fL_told b ((fL_told β γ).2)).1)), (8, .int (b2i true)), (7, .int (fT_savedStates η)), (5, .long ((fL_told β γ).1)), (0, .ref b0), (1, .ref ax), (2, .int (nI i)), (3, .int v), (4, .int x)]) dL_law_151 (by decide) rfl ?_
    refine g_iload C dL_law_153 1 rfl ?_
    refine g_ifB_ne C 178 dL_law_155 (by decide) (fun c_5 => ?_) (fun c_5 => absurd c_5 (by decide))
    have hR : G X k n [wX ax (bo 0) (tr 0) (ac 0) (ah 0) (at_ 0), wB E bo b, wB E tr τ, wC E ac ((fL_told b ((fL_told β γ).2)).2), wH E ah bd ((fX3_save η σ β).1), wT E at_ θ, wB E (bd 2) (((fX3_save η σ β).2) 2), wB E (bd 3) (((fX3_save η σ β).2) 3), wB E (bd 4) (((fX3_save η σ β).2) 4), wB E (bd 5) (((fX3_save η σ β).2) 5), wB E (bd 6) (((fX3_save η σ β).2) 6), wB E (bd 7) (((fX3_save η σ β).2) 7), wB E (bd 8) (((fX3_save η σ β).2) 8), wB E (bd 9) (((fX3_save η σ β).2) 9)] [(9, .long ((fL_told b ((fL_told β γ).2)).1)), (8, .int (b2i true)), (7, .int (fT_savedStates η)), (5, .long ((fL_told β γ).1)), (0, .ref b0), (1, .ref ax), (2, .int (nI i)), (3, .int v), (4, .int x)] 203 [] := by
      refine g_iload C dL_law_203 1 rfl ?_
      refine g_ifB_eq C 270 dL_law_205 (by decide) (fun c_501 => absurd c_501 (by decide)) (fun c_501 => ?_)
      refine g_iload_n C dL_law_208 rfl 7 rfl ?_
      refine g_bipush C (v := 20) dL_law_209 (by decide) ?_
      refine g_ishr C dL_law_211 ?_
      refine g_iconst C (v := 1) dL_law_212 (by decide) ?_
      refine g_iand C dL_law_213 ?_
      refine g_if_ne C 270 dL_law_214 (by decide) (fun c_502 => ?_) (fun c_502 => ?_)
      · skip
        exact g_sub [4, 5, 6] rfl (law_270 C hk hn hi next hb9 hvs)
      · skip
        refine g_aload_n C dL_law_217 rfl 5 rfl ?_
        refine g_callV C (cs1 := [wX ax (bo 0) (tr 0) (ac 0) (ah 0) (at_ 0), wB E bo b, wB E tr τ, wC E ac ((fL_told b ((fL_told β γ).2)).2), wH E ah bd ((fX3_save η σ β).1), wT E at_ θ, wB E (bd 2) (((fX3_save η σ β).2) 2), wB E (bd 3) (((fX3_save η σ β).2) 3), wB E (bd 4) (((fX3_save η σ β).2) 4), wB E (bd 5) (((fX3_save η σ β).2) 5), wB E (bd 6) (((fX3_save η σ β).2) 6), wB E (bd 7) (((fX3_save η σ β).2) 7), wB E (bd 8) (((fX3_save η σ β).2) 8), wB E (bd 9) (((fX3_save η σ β).2) 9)]) (st1 := [.int (fT_savedStates ((fX3_save η σ β).1))]) [] [0, 1, 2, 3, 4, 5, 6, 7, 8, 9, 10, 11, 12, 13] (kT_savedStates l E ax bo b tr τ ac ((fL_told b ((fL_told β γ).2)).2) ah bd ((fX3_save η σ β).1) ((fX3_save η σ β).2) at_ θ) caX6_savedStates q2_51 rfl ⟨Nat.le_of_ble_eq_true rfl, Nat.le_of_ble_eq_true rfl⟩ ⟨hk, hn⟩ 0 0 rfl rfl rfl rfl (by decide) rfl rfl rfl rfl (Nat.le_of_ble_eq_true rfl) dL_law_218 rfl ?_
        refine g_iconst C (v := 1) dL_law_221 (by decide) ?_
        refine g_isub C dL_law_222 ?_
        refine g_istore C (lv1 := [(11, .int ((fT_savedStates ((fX3_save η σ β).1)) - 1)), (9, .long ((fL_told b ((fL_told β γ).2)).1)), (8, .int (b2i true)), (7, .int (fT_savedStates η)), (5, .long ((fL_told β γ).1)), (0, .ref b0), (1, .ref ax), (2, .int (nI i)), (3, .int v), (4, .int x)]) dL_law_223 (by decide) rfl ?_
        refine g_aload_n C dL_law_225 rfl 6 rfl ?_
        refine g_callV C (cs1 := [wX ax (bo 0) (tr 0) (ac 0) (ah 0) (at_ 0), wB E bo ((fT_undo b ((fX3_save η σ β).1) ((fX3_save η σ β).2)).1), wB E tr τ, wC E ac ((fL_told b ((fL_told β γ).2)).2), wH E ah bd ((fT_undo b ((fX3_save η σ β).1) ((fX3_save η σ β).2)).2), wT E at_ θ, wB E (bd 2) (((fX3_save η σ β).2) 2), wB E (bd 3) (((fX3_save η σ β).2) 3), wB E (bd 4) (((fX3_save η σ β).2) 4), wB E (bd 5) (((fX3_save η σ β).2) 5), wB E (bd 6) (((fX3_save η σ β).2) 6), wB E (bd 7) (((fX3_save η σ β).2) 7), wB E (bd 8) (((fX3_save η σ β).2) 8), wB E (bd 9) (((fX3_save η σ β).2) 9)]) (st1 := []) [] [0, 1, 2, 3, 4, 5, 6, 7, 8, 9, 10, 11, 12, 13] (kT_undo l E ax bo b tr τ ac ((fL_told b ((fL_told β γ).2)).2) ah bd ((fX3_save η σ β).1) ((fX3_save η σ β).2) at_ θ hbv hvs (save_pos hvh)) caX6_undo q1_195 rfl ⟨Nat.le_of_ble_eq_true rfl, Nat.le_of_ble_eq_true rfl⟩ ⟨hk, hn⟩ 0 0 rfl rfl rfl rfl (by decide) rfl rfl rfl rfl (Nat.le_of_ble_eq_true rfl) dL_law_226 rfl ?_
        rw [undo_R]
        have hvu : vH (sI (fX3_save η σ β).1 1 ((fX3_save η σ β).1.1 1 - 1)) := vH_less hvs (save_pos hvh)
        show G X k n [wX ax (bo 0) (tr 0) (ac 0) (ah 0) (at_ 0), wB E bo β, wB E tr τ, wC E ac ((fL_told b ((fL_told β γ).2)).2), wH E ah bd (sI (fX3_save η σ β).1 1 ((fX3_save η σ β).1.1 1 - 1)), wT E at_ θ, wB E (bd 2) (((fX3_save η σ β).2) 2), wB E (bd 3) (((fX3_save η σ β).2) 3), wB E (bd 4) (((fX3_save η σ β).2) 4), wB E (bd 5) (((fX3_save η σ β).2) 5), wB E (bd 6) (((fX3_save η σ β).2) 6), wB E (bd 7) (((fX3_save η σ β).2) 7), wB E (bd 8) (((fX3_save η σ β).2) 8), wB E (bd 9) (((fX3_save η σ β).2) 9)] [(11, .int ((fT_savedStates ((fX3_save η σ β).1)) - 1)), (9, .long ((fL_told b ((fL_told β γ).2)).1)), (8, .int (b2i true)), (7, .int (fT_savedStates η)), (5, .long ((fL_told β γ).1)), (0, .ref b0), (1, .ref ax), (2, .int (nI i)), (3, .int v), (4, .int x)] 229 []
        refine g_aload_n C dL_law_229 rfl 6 rfl ?_
        refine g_callV C (cs1 := [wX ax (bo 0) (tr 0) (ac 0) (ah 0) (at_ 0), wB E bo β, wB E tr τ, wC E ac ((fL_told b ((fL_told β γ).2)).2), wH E ah bd (sI (fX3_save η σ β).1 1 ((fX3_save η σ β).1.1 1 - 1)), wT E at_ θ, wB E (bd 2) (((fX3_save η σ β).2) 2), wB E (bd 3) (((fX3_save η σ β).2) 3), wB E (bd 4) (((fX3_save η σ β).2) 4), wB E (bd 5) (((fX3_save η σ β).2) 5), wB E (bd 6) (((fX3_save η σ β).2) 6), wB E (bd 7) (((fX3_save η σ β).2) 7), wB E (bd 8) (((fX3_save η σ β).2) 8), wB E (bd 9) (((fX3_save η σ β).2) 9)]) (st1 := [.int (fT_savedStates (sI (fX3_save η σ β).1 1 ((fX3_save η σ β).1.1 1 - 1)))]) [] [0, 1, 2, 3, 4, 5, 6, 7, 8, 9, 10, 11, 12, 13] (kT_savedStates l E ax bo β tr τ ac ((fL_told b ((fL_told β γ).2)).2) ah bd (sI (fX3_save η σ β).1 1 ((fX3_save η σ β).1.1 1 - 1)) ((fX3_save η σ β).2) at_ θ) caX6_savedStates q2_51 rfl ⟨Nat.le_of_ble_eq_true rfl, Nat.le_of_ble_eq_true rfl⟩ ⟨hk, hn⟩ 0 0 rfl rfl rfl rfl (by decide) rfl rfl rfl rfl (Nat.le_of_ble_eq_true rfl) dL_law_230 rfl ?_
        refine g_iload C dL_law_233 0 rfl ?_
        refine g_icmp_ne C 268 dL_law_235 (by decide) (fun c_503 => absurd rfl c_503) (fun c_503 => ?_)
        refine g_aload_n C dL_law_238 rfl 6 rfl ?_
        refine g_callS C (cs1 := [wX ax (bo 0) (tr 0) (ac 0) (ah 0) (at_ 0), wB E bo β, wB E tr τ, wC E ac ((fL_told β ((fL_told b ((fL_told β γ).2)).2)).2), wH E ah bd (sI (fX3_save η σ β).1 1 ((fX3_save η σ β).1.1 1 - 1)), wT E at_ θ, wB E (bd 2) (((fX3_save η σ β).2) 2), wB E (bd 3) (((fX3_save η σ β).2) 3), wB E (bd 4) (((fX3_save η σ β).2) 4), wB E (bd 5) (((fX3_save η σ β).2) 5), wB E (bd 6) (((fX3_save η σ β).2) 6), wB E (bd 7) (((fX3_save η σ β).2) 7), wB E (bd 8) (((fX3_save η σ β).2) 8), wB E (bd 9) (((fX3_save η σ β).2) 9)]) (st1 := [.long ((fL_told β ((fL_told b ((fL_told β γ).2)).2)).1)]) [.ref ax] [0, 1, 2, 3, 4, 5, 6, 7, 8, 9, 10, 11, 12, 13] (kL_told l E ax bo β tr τ ac ((fL_told b ((fL_told β γ).2)).2) ah bd (sI (fX3_save η σ β).1 1 ((fX3_save η σ β).1.1 1 - 1)) ((fX3_save η σ β).2) at_ θ hv) caL_told q2_152 rfl ⟨Nat.le_of_ble_eq_true rfl, Nat.le_of_ble_eq_true rfl⟩ ⟨hk, hn⟩ (by decide) rfl rfl rfl rfl (Nat.le_of_ble_eq_true rfl) dL_law_239 rfl ?_
        refine g_lload C dL_law_242 4 rfl ?_
        refine g_lcmp C dL_law_244 ?_
        refine g_if_ne C 268 dL_law_245 (by decide) (fun c_504 => absurd (cmp_told hI) c_504) (fun c_504 => ?_)
        refine g_aload_n C dL_law_248 rfl 6 rfl ?_
        refine g_iload_n C dL_law_249 rfl 8 rfl ?_
        refine g_iload C dL_law_250 9 rfl ?_
        refine g_callS C (cs1 := [wX ax (bo 0) (tr 0) (ac 0) (ah 0) (at_ 0), wB E bo ((fL_act β (sI (fX3_save η σ β).1 1 ((fX3_save η σ β).1.1 1 - 1)) ((fX3_save η σ β).2) v x).2.1), wB E tr τ, wC E ac ((fL_told β ((fL_told b ((fL_told β γ).2)).2)).2), wH E ah bd ((fL_act β (sI (fX3_save η σ β).1 1 ((fX3_save η σ β).1.1 1 - 1)) ((fX3_save η σ β).2) v x).2.2.1), wT E at_ θ, wB E (bd 2) ((fL_act β (sI (fX3_save η σ β).1 1 ((fX3_save η σ β).1.1 1 - 1)) ((fX3_save η σ β).2) v x).2.2.2 2), wB E (bd 3) ((fL_act β (sI (fX3_save η σ β).1 1 ((fX3_save η σ β).1.1 1 - 1)) ((fX3_save η σ β).2) v x).2.2.2 3), wB E (bd 4) ((fL_act β (sI (fX3_save η σ β).1 1 ((fX3_save η σ β).1.1 1 - 1)) ((fX3_save η σ β).2) v x).2.2.2 4), wB E (bd 5) ((fL_act β (sI (fX3_save η σ β).1 1 ((fX3_save η σ β).1.1 1 - 1)) ((fX3_save η σ β).2) v x).2.2.2 5), wB E (bd 6) ((fL_act β (sI (fX3_save η σ β).1 1 ((fX3_save η σ β).1.1 1 - 1)) ((fX3_save η σ β).2) v x).2.2.2 6), wB E (bd 7) ((fL_act β (sI (fX3_save η σ β).1 1 ((fX3_save η σ β).1.1 1 - 1)) ((fX3_save η σ β).2) v x).2.2.2 7), wB E (bd 8) ((fL_act β (sI (fX3_save η σ β).1 1 ((fX3_save η σ β).1.1 1 - 1)) ((fX3_save η σ β).2) v x).2.2.2 8), wB E (bd 9) ((fL_act β (sI (fX3_save η σ β).1 1 ((fX3_save η σ β).1.1 1 - 1)) ((fX3_save η σ β).2) v x).2.2.2 9)]) (st1 := [.int (b2i ((fL_act β (sI (fX3_save η σ β).1 1 ((fX3_save η σ β).1.1 1 - 1)) ((fX3_save η σ β).2) v x).1))]) [.ref ax, .int v, .int x] [0, 1, 2, 3, 4, 5, 6, 7, 8, 9, 10, 11, 12, 13] (kL_act l E ax bo β tr τ ac ((fL_told β ((fL_told b ((fL_told β γ).2)).2)).2) ah bd (sI (fX3_save η σ β).1 1 ((fX3_save η σ β).1.1 1 - 1)) ((fX3_save η σ β).2) at_ θ hv hvu v x hI) caL_act q3_23 rfl ⟨Nat.le_of_ble_eq_true rfl, Nat.le_of_ble_eq_true rfl⟩ ⟨hk, hn⟩ (by decide) rfl rfl rfl rfl (Nat.le_of_ble_eq_true rfl) dL_law_252 rfl ?_
        have eA2 : fL_act β (sI (fX3_save η σ β).1 1 ((fX3_save η σ β).1.1 1 - 1)) (fX3_save η σ β).2 v x = (true, b, (fX3_save (sI (fX3_save η σ β).1 1 ((fX3_save η σ β).1.1 1 - 1)) (fX3_save η σ β).2 β).1, (fX3_save (sI (fX3_save η σ β).1 1 ((fX3_save η σ β).1.1 1 - 1)) (fX3_save η σ β).2 β).2) := by rw [act_R, hA]; rfl
        have hvs2 : vH (fX3_save (sI (fX3_save η σ β).1 1 ((fX3_save η σ β).1.1 1 - 1)) (fX3_save η σ β).2 β).1 := vH_save hvu
        rw [eA2]
        show G X k n [wX ax (bo 0) (tr 0) (ac 0) (ah 0) (at_ 0), wB E bo b, wB E tr τ, wC E ac ((fL_told β ((fL_told b ((fL_told β γ).2)).2)).2), wH E ah bd ((fX3_save (sI (fX3_save η σ β).1 1 ((fX3_save η σ β).1.1 1 - 1)) (fX3_save η σ β).2 β).1), wT E at_ θ, wB E (bd 2) (((fX3_save (sI (fX3_save η σ β).1 1 ((fX3_save η σ β).1.1 1 - 1)) (fX3_save η σ β).2 β).2) 2), wB E (bd 3) (((fX3_save (sI (fX3_save η σ β).1 1 ((fX3_save η σ β).1.1 1 - 1)) (fX3_save η σ β).2 β).2) 3), wB E (bd 4) (((fX3_save (sI (fX3_save η σ β).1 1 ((fX3_save η σ β).1.1 1 - 1)) (fX3_save η σ β).2 β).2) 4), wB E (bd 5) (((fX3_save (sI (fX3_save η σ β).1 1 ((fX3_save η σ β).1.1 1 - 1)) (fX3_save η σ β).2 β).2) 5), wB E (bd 6) (((fX3_save (sI (fX3_save η σ β).1 1 ((fX3_save η σ β).1.1 1 - 1)) (fX3_save η σ β).2 β).2) 6), wB E (bd 7) (((fX3_save (sI (fX3_save η σ β).1 1 ((fX3_save η σ β).1.1 1 - 1)) (fX3_save η σ β).2 β).2) 7), wB E (bd 8) (((fX3_save (sI (fX3_save η σ β).1 1 ((fX3_save η σ β).1.1 1 - 1)) (fX3_save η σ β).2 β).2) 8), wB E (bd 9) (((fX3_save (sI (fX3_save η σ β).1 1 ((fX3_save η σ β).1.1 1 - 1)) (fX3_save η σ β).2 β).2) 9)] [(11, .int ((fT_savedStates ((fX3_save η σ β).1)) - 1)), (9, .long ((fL_told b ((fL_told β γ).2)).1)), (8, .int (b2i true)), (7, .int (fT_savedStates η)), (5, .long ((fL_told β γ).1)), (0, .ref b0), (1, .ref ax), (2, .int (nI i)), (3, .int v), (4, .int x)] 255 [.int (b2i true)]
        refine g_ifB_eq C 268 dL_law_255 (by decide) (fun c_505 => absurd c_505 (by decide)) (fun c_505 => ?_)
        refine g_aload_n C dL_law_258 rfl 6 rfl ?_
        refine g_callS C (cs1 := [wX ax (bo 0) (tr 0) (ac 0) (ah 0) (at_ 0), wB E bo b, wB E tr τ, wC E ac ((fL_told b ((fL_told β ((fL_told b ((fL_told β γ).2)).2)).2)).2), wH E ah bd ((fX3_save (sI (fX3_save η σ β).1 1 ((fX3_save η σ β).1.1 1 - 1)) (fX3_save η σ β).2 β).1), wT E at_ θ, wB E (bd 2) (((fX3_save (sI (fX3_save η σ β).1 1 ((fX3_save η σ β).1.1 1 - 1)) (fX3_save η σ β).2 β).2) 2), wB E (bd 3) (((fX3_save (sI (fX3_save η σ β).1 1 ((fX3_save η σ β).1.1 1 - 1)) (fX3_save η σ β).2 β).2) 3), wB E (bd 4) (((fX3_save (sI (fX3_save η σ β).1 1 ((fX3_save η σ β).1.1 1 - 1)) (fX3_save η σ β).2 β).2) 4), wB E (bd 5) (((fX3_save (sI (fX3_save η σ β).1 1 ((fX3_save η σ β).1.1 1 - 1)) (fX3_save η σ β).2 β).2) 5), wB E (bd 6) (((fX3_save (sI (fX3_save η σ β).1 1 ((fX3_save η σ β).1.1 1 - 1)) (fX3_save η σ β).2 β).2) 6), wB E (bd 7) (((fX3_save (sI (fX3_save η σ β).1 1 ((fX3_save η σ β).1.1 1 - 1)) (fX3_save η σ β).2 β).2) 7), wB E (bd 8) (((fX3_save (sI (fX3_save η σ β).1 1 ((fX3_save η σ β).1.1 1 - 1)) (fX3_save η σ β).2 β).2) 8), wB E (bd 9) (((fX3_save (sI (fX3_save η σ β).1 1 ((fX3_save η σ β).1.1 1 - 1)) (fX3_save η σ β).2 β).2) 9)]) (st1 := [.long ((fL_told b ((fL_told β ((fL_told b ((fL_told β γ).2)).2)).2)).1)]) [.ref ax] [0, 1, 2, 3, 4, 5, 6, 7, 8, 9, 10, 11, 12, 13] (kL_told l E ax bo b tr τ ac ((fL_told β ((fL_told b ((fL_told β γ).2)).2)).2) ah bd ((fX3_save (sI (fX3_save η σ β).1 1 ((fX3_save η σ β).1.1 1 - 1)) (fX3_save η σ β).2 β).1) ((fX3_save (sI (fX3_save η σ β).1 1 ((fX3_save η σ β).1.1 1 - 1)) (fX3_save η σ β).2 β).2) at_ θ hbv) caL_told q2_152 rfl ⟨Nat.le_of_ble_eq_true rfl, Nat.le_of_ble_eq_true rfl⟩ ⟨hk, hn⟩ (by decide) rfl rfl rfl rfl (Nat.le_of_ble_eq_true rfl) dL_law_259 rfl ?_
        refine g_lload C dL_law_262 1 rfl ?_
        refine g_lcmp C dL_law_264 ?_
        refine g_if_eq C 270 dL_law_265 (by decide) (fun c_506 => ?_) (fun c_506 => absurd (cmp_told hb9) c_506)
        exact g_sub [5, 6, 7] rfl (law_270 C hk hn hi next hb9 hvs2)
    refine g_aload_n C dL_law_178 rfl 5 rfl ?_
    refine g_callV C (cs1 := [wX ax (bo 0) (tr 0) (ac 0) (ah 0) (at_ 0), wB E bo b, wB E tr τ, wC E ac ((fL_told b ((fL_told β γ).2)).2), wH E ah bd ((fX3_save η σ β).1), wT E at_ θ, wB E (bd 2) (((fX3_save η σ β).2) 2), wB E (bd 3) (((fX3_save η σ β).2) 3), wB E (bd 4) (((fX3_save η σ β).2) 4), wB E (bd 5) (((fX3_save η σ β).2) 5), wB E (bd 6) (((fX3_save η σ β).2) 6), wB E (bd 7) (((fX3_save η σ β).2) 7), wB E (bd 8) (((fX3_save η σ β).2) 8), wB E (bd 9) (((fX3_save η σ β).2) 9)]) (st1 := [.int (fT_savedStates ((fX3_save η σ β).1))]) [] [0, 1, 2, 3, 4, 5, 6, 7, 8, 9, 10, 11, 12, 13] (kT_savedStates l E ax bo b tr τ ac ((fL_told b ((fL_told β γ).2)).2) ah bd ((fX3_save η σ β).1) ((fX3_save η σ β).2) at_ θ) caX6_savedStates q2_51 rfl ⟨Nat.le_of_ble_eq_true rfl, Nat.le_of_ble_eq_true rfl⟩ ⟨hk, hn⟩ 0 0 rfl rfl rfl rfl (by decide) rfl rfl rfl rfl (Nat.le_of_ble_eq_true rfl) dL_law_179 rfl ?_
    refine g_iload C dL_law_182 2 rfl ?_
    refine g_bipush C (v := 6) dL_law_184 (by decide) ?_
    refine g_icmp_ge C 196 dL_law_186 (by decide) (fun c_6 => ?_) (fun c_6 => ?_)
    · skip
      refine g_bipush C (v := 6) dL_law_196 (by decide) ?_
      refine g_icmp_eq C 203 dL_law_198 (by decide) (fun c_7 => ?_) (fun c_7 => absurd (save_full hvh c_6) c_7)
      exact hR
    · skip
      refine g_iload C dL_law_189 2 rfl ?_
      refine g_iconst C (v := 1) dL_law_191 (by decide) ?_
      refine g_iadd C dL_law_192 ?_
      refine g_goto C 198 dL_law_193 (by decide) ?_
      refine g_icmp_eq C 203 dL_law_198 (by decide) (fun c_8 => ?_) (fun c_8 => absurd (save_more c_6) c_8)
      exact hR
set_option maxRecDepth 100000 in
set_option maxHeartbeats 4000000 in
theorem law_loop {X : gX} {l : Launch} {E : gE} (C : gC X cL_law 12 RL (some .boolean) l E room_1) {b0 L9 : Nat} {xs : Nat → Int32} (S : gS X b0 L9 xs) {k n : Nat} (hk : k ≤ room_1.cells) (hn : n ≤ room_1.slots) {ax : Nat} {bo tr ac ah : Nat → Nat} {bd : Nat → Nat → Nat} {at_ : Nat → Nat} {τ θ : BS} (hend : ∀ (cs : List va_W) (lv : List (Nat × Value)), G X k n cs lv 286 [.int 1]) : ∀ (d i : Nat), i + d = 36 → ∀ (β γ η : BS) (σ : Nat → BS), INV (12 * i) β → vH η → G X k n [wX ax (bo 0) (tr 0) (ac 0) (ah 0) (at_ 0), wB E bo β, wB E tr τ, wC E ac γ, wH E ah bd η, wT E at_ θ, wB E (bd 2) (σ 2), wB E (bd 3) (σ 3), wB E (bd 4) (σ 4), wB E (bd 5) (σ 5), wB E (bd 6) (σ 6), wB E (bd 7) (σ 7), wB E (bd 8) (σ 8), wB E (bd 9) (σ 9)] [(0, .ref b0), (1, .ref ax), (2, .int (nI i))] 72 [] := by
  intro d
  induction d with
  | zero =>
    intro i hi β γ η σ hI hvh
    obtain rfl : i = 36 := by omega
    refine g_iload_n C dL_law_72 rfl 2 rfl ?_
    refine g_bipush C (v := 36) dL_law_73 (by decide) ?_
    refine g_icmp_ge C 285 dL_law_75 (by decide) (fun c => ?_) (fun c => absurd (by decide) c)
    refine g_iconst C (v := 1) dL_law_285 (by decide) ?_
    exact hend _ _
  | succ d ih =>
    intro i hi β γ η σ hI hvh
    have next : ∀ (β γ η : BS) (σ : Nat → BS), INV (12 * (i + 1)) β → vH η → G X k n [wX ax (bo 0) (tr 0) (ac 0) (ah 0) (at_ 0), wB E bo β, wB E tr τ, wC E ac γ, wH E ah bd η, wT E at_ θ, wB E (bd 2) (σ 2), wB E (bd 3) (σ 3), wB E (bd 4) (σ 4), wB E (bd 5) (σ 5), wB E (bd 6) (σ 6), wB E (bd 7) (σ 7), wB E (bd 8) (σ 8), wB E (bd 9) (σ 9)] [(0, .ref b0), (1, .ref ax), (2, .int (nI i))] 279 [] := by
      intro β γ η σ hI hvh
      refine g_iinc C (v := nI (i + 1)) (lv1 := [(2, .int (nI (i + 1))), (0, .ref b0), (1, .ref ax)]) dL_law_279 2 rfl (nI_1 i) (by decide) rfl ?_
      refine g_goto C 72 dL_law_282 (by decide) ?_
      exact g_sub [1, 2, 0] rfl (ih (i + 1) (by omega) β γ η σ hI hvh)
    have hB : ∀ v : Int32, G X k n [wX ax (bo 0) (tr 0) (ac 0) (ah 0) (at_ 0), wB E bo β, wB E tr τ, wC E ac γ, wH E ah bd η, wT E at_ θ, wB E (bd 2) (σ 2), wB E (bd 3) (σ 3), wB E (bd 4) (σ 4), wB E (bd 5) (σ 5), wB E (bd 6) (σ 6), wB E (bd 7) (σ 7), wB E (bd 8) (σ 8), wB E (bd 9) (σ 9)] [(0, .ref b0), (1, .ref ax), (2, .int (nI i)), (3, .int v)] 115 [] := by
      intro v
      refine g_aload_n C dL_law_115 rfl 0 rfl ?_
      refine g_iconst C (v := 2) dL_law_116 (by decide) ?_
      refine g_iload_n C dL_law_117 rfl 2 rfl ?_
      refine g_imul C dL_law_118 ?_
      refine g_iconst C (v := 1) dL_law_119 (by decide) ?_
      refine g_iadd C dL_law_120 ?_
      refine g_st (st1 := [.int (nI (2 * i + 1)), .ref b0]) (by rw [show (2 * (nI i)) + 1 = nI (2 * i + 1) from (nx_add (nx_mul nI_l2 rfl) nI_l1)]) ?_
      refine g_callS0 C S (st := []) [.ref b0, .int (nI (2 * i + 1))] (kL_cell l E b0 L9 xs S.2.2.2 (2 * i + 1) (by omega)) caL_cell q2_149 rfl ⟨Nat.le_of_ble_eq_true rfl, Nat.le_of_ble_eq_true rfl⟩ ⟨hk, hn⟩ rfl (by decide) dL_law_121 rfl ?_
      refine g_istore C (lv1 := [(4, .int (fL_cell L9 xs (2 * i + 1))), (0, .ref b0), (1, .ref ax), (2, .int (nI i)), (3, .int v)]) dL_law_124 (by decide) rfl ?_
      exact g_sub [1, 2, 3, 4, 0] rfl (law_turn C hk hn (by omega) next hI hvh v _)
    refine g_iload_n C dL_law_72 rfl 2 rfl ?_
    refine g_bipush C (v := 36) dL_law_73 (by decide) ?_
    refine g_icmp_ge C 285 dL_law_75 (by decide) (fun c => absurd c (lc_nle rfl (show (36 : Int32) = nI 36 from rfl) (by omega) (by decide))) (fun c => ?_)
    refine g_aload_n C dL_law_78 rfl 0 rfl ?_
    refine g_iconst C (v := 2) dL_law_79 (by decide) ?_
    refine g_iload_n C dL_law_80 rfl 2 rfl ?_
    refine g_imul C dL_law_81 ?_
    refine g_st (st1 := [.int (nI (2 * i)), .ref b0]) (by rw [show 2 * (nI i) = nI (2 * i) from (nx_mul nI_l2 rfl)]) ?_
    refine g_callS0 C S (st := []) [.ref b0, .int (nI (2 * i))] (kL_cell l E b0 L9 xs S.2.2.2 (2 * i) (by omega)) caL_cell q2_149 rfl ⟨Nat.le_of_ble_eq_true rfl, Nat.le_of_ble_eq_true rfl⟩ ⟨hk, hn⟩ rfl (by decide) dL_law_82 rfl ?_
    refine g_istore_n C (lv1 := [(3, .int (fL_cell L9 xs (2 * i))), (0, .ref b0), (1, .ref ax), (2, .int (nI i))]) dL_law_85 rfl (by decide) rfl ?_
    refine g_iload_n C dL_law_86 rfl 3 rfl ?_
    refine g_iconst C (v := 4) dL_law_87 (by decide) ?_
    refine g_icmp_ge C 98 dL_law_88 (by decide) (fun c_901 => ?_) (fun c_901 => ?_)
    · skip
      refine g_iload_n C dL_law_98 rfl 3 rfl ?_
      refine g_bipush C (v := 8) dL_law_99 (by decide) ?_
      refine g_icmp_ge C 113 dL_law_101 (by decide) (fun c_902 => ?_) (fun c_902 => ?_)
      · skip
        refine g_iload_n C dL_law_113 rfl 0 rfl ?_
        refine g_istore_n C (lv1 := [(3, .int (fL_cell L9 xs (2 * i))), (0, .ref b0), (1, .ref ax), (2, .int (nI i))]) dL_law_114 rfl (by decide) rfl ?_
        exact g_sub [1, 2, 3, 0] rfl (hB _)
      · skip
        refine g_iload_n C dL_law_104 rfl 0 rfl ?_
        refine g_bipush C (v := -16) dL_law_105 (by decide) ?_
        refine g_iand C dL_law_107 ?_
        refine g_iconst C (v := 4) dL_law_108 (by decide) ?_
        refine g_ior C dL_law_109 ?_
        refine g_goto C 114 dL_law_110 (by decide) ?_
        refine g_istore_n C (lv1 := [(3, .int (((fL_cell L9 xs (2 * i)) &&& (-16)) ||| 4)), (0, .ref b0), (1, .ref ax), (2, .int (nI i))]) dL_law_114 rfl (by decide) rfl ?_
        exact g_sub [1, 2, 3, 0] rfl (hB _)
    · skip
      refine g_iload_n C dL_law_91 rfl 0 rfl ?_
      refine g_bipush C (v := -16) dL_law_92 (by decide) ?_
      refine g_iand C dL_law_94 ?_
      refine g_goto C 114 dL_law_95 (by decide) ?_
      refine g_istore_n C (lv1 := [(3, .int ((fL_cell L9 xs (2 * i)) &&& (-16))), (0, .ref b0), (1, .ref ax), (2, .int (nI i))]) dL_law_114 rfl (by decide) rfl ?_
      exact g_sub [1, 2, 3, 0] rfl (hB _)
