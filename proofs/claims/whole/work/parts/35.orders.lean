theorem ite_P {α : Type} {P : α → Prop} {c : Prop} [Decidable c] {a b : α} (h : c → P a) (g : ¬ c → P b) : P (if c then a else b) := by
  by_cases q : c
  · rw [if_pos q]; exact h q
  · rw [if_neg q]; exact g q
theorem ro_k0 {μ : BS} (hv : vM μ) (c0 : fX7_isOrder (fX7_sign μ) = true) : KR μ 1 (sE (sE (sI (sI μ 4 (b2i (fX7_isOrder (fX7_sign μ)))) 3 ((μ.1 3) + 1)) 6 (3 * (rm μ)) (fX7_sign μ)) 6 ((3 * (rm μ)) + 2) 1) := KR_0 (w := fX7_isOrder (fX7_sign μ)) (m := μ.1 3 + 1) hv 1 (fun _ => ⟨rfl, sign_lo hv c0⟩) (nx_add (b := 1) hv.2.2.2.2.1 rfl) (Nat.le_refl _) (fun q => absurd (c0.symm.trans q) (by decide))
theorem ro_y9 {μ : BS} (hv : vM μ) (c0 : fX7_isOrder (fX7_sign μ) = true) : KR μ 2 (fX7_readsOrder_Y9 μ).2 := by unfold fX7_readsOrder_Y9; exact KR_num (ro_k0 hv c0) (by decide)
theorem ro_y8 {μ : BS} (hv : vM μ) (c0 : fX7_isOrder (fX7_sign μ) = true) : KR μ 2 (fX7_readsOrder_Y8 μ).2 := by unfold fX7_readsOrder_Y8; exact KR_num (ro_k0 hv c0) (by decide)
theorem ro_y3 {μ : BS} (hv : vM μ) (c0 : fX7_isOrder (fX7_sign μ) = true) : KR μ 2 (fX7_readsOrder_Y3 μ).2 := by unfold fX7_readsOrder_Y3; exact KR_num (ro_k0 hv c0) (by decide)
theorem ro_y6 {μ : BS} (hv : vM μ) (c0 : fX7_isOrder (fX7_sign μ) = true) : KR μ 2 (fX7_readsOrder_Y6 μ).2 := by unfold fX7_readsOrder_Y6; exact KR_reads (KR_e (ro_y3 hv c0) (by omega)) (by decide)
theorem ro_y7 {μ : BS} (hv : vM μ) (c0 : fX7_isOrder (fX7_sign μ) = true) : KR μ 2 (fX7_readsOrder_Y7 μ).2 := by unfold fX7_readsOrder_Y7; exact KR_w (KR_num (ro_y6 hv c0) (by decide)) (by omega)
theorem ro_y4 {μ : BS} (hv : vM μ) (c0 : fX7_isOrder (fX7_sign μ) = true) : KR μ 2 (fX7_readsOrder_Y4 μ).2 := by unfold fX7_readsOrder_Y4; exact KR_reads (KR_e (ro_y3 hv c0) (by omega)) (by decide)
theorem ro_y5 {μ : BS} (hv : vM μ) (c0 : fX7_isOrder (fX7_sign μ) = true) : KR μ 2 (fX7_readsOrder_Y5 μ).2 := by unfold fX7_readsOrder_Y5; exact KR_w (KR_num (ro_y4 hv c0) (by decide)) (by omega)
theorem ro_y10 {μ : BS} (hv : vM μ) (c0 : fX7_isOrder (fX7_sign μ) = true) (c3 : fX7_sign (sE (fX7_readsOrder_Y9 μ).2 6 ((3 * (rm μ)) + 1) (fX7_readsOrder_Y9 μ).1) = 33) : KR μ 2 (fX7_readsOrder_Y10 μ).2 := by
  have h9 := ro_y9 hv c0
  unfold fX7_readsOrder_Y10
  generalize fX7_readsOrder_Y9 μ = z at *
  have h1 : KR μ 2 (sE z.2 6 ((3 * (rm μ)) + 1) z.1) := KR_e h9 (by omega)
  exact KR_w (KR_num (ν := sI (sE z.2 6 ((3 * (rm μ)) + 1) z.1) 3 ((z.2.1 3) + 1)) (KR_at h1 (sign_lv h1.1.1 c3 (by decide))) (by decide)) (by omega)
theorem ro_o5 {μ : BS} (h : ¬ (fX7_readsOrder_Y5 μ).2.1 4 = 0) : ∃ j : Nat, j < 5 ∧ (fX7_readsOrder_Y5 μ).1 = nI j := by
  unfold fX7_readsOrder_Y5 at *
  exact number_ok h
theorem RO_0e {μ : BS} {n i : Nat} {z : Int32 × BS} (h : KR μ n z.2) (hi : 3 * rm μ < i) : RD μ (sI (sE z.2 6 i z.1) 5 ((z.2.1 5) + 0)) := RO_0 (ν := sE z.2 6 i z.1) (KR_e h hi)
theorem RO_1e {μ : BS} {i : Nat} {z : Int32 × BS} (h : KR μ 2 z.2) (hi : 3 * rm μ < i) (hr : rm μ ≤ 30) (hw : ¬ z.2.1 4 = 0) (ho : fX7_sign μ = 97 → ∃ j : Nat, j < 5 ∧ (sE z.2 6 i z.1).2 6 (3 * rm μ + 2) = nI j) : RD μ (sI (sE z.2 6 i z.1) 5 ((z.2.1 5) + 1)) := RO_1 (ν := sE z.2 6 i z.1) (KR_e h hi) hr hw ho
theorem RO_0z {μ : BS} {n i : Nat} {z : Int32 × BS} (h : KR μ n z.2) (hi : 3 * rm μ < i) : RD μ (sI (sE z.2 6 i 0) 5 ((z.2.1 5) + 0)) := RO_0 (ν := sE z.2 6 i 0) (KR_e h hi)
set_option maxHeartbeats 8000000 in
theorem RD_readsOrder {μ : BS} (hv : vM μ) (hr : rm μ ≤ 30) : RD μ (fX7_readsOrder μ) := by
  unfold fX7_readsOrder
  by_cases c0 : fX7_isOrder (fX7_sign μ) = true
  · rw [if_pos c0]
    have y9 := ro_y9 hv c0
    have y8 := ro_y8 hv c0
    have y3 := ro_y3 hv c0
    have y6 := ro_y6 hv c0
    have y7 := ro_y7 hv c0
    have y4 := ro_y4 hv c0
    have y5 := ro_y5 hv c0
    have y10 := ro_y10 hv c0
    have o5 := ro_o5 (μ := μ)
    generalize fX7_readsOrder_Y10 μ = z10 at *
    generalize fX7_readsOrder_Y9 μ = z9 at *
    generalize fX7_readsOrder_Y8 μ = z8 at *
    generalize fX7_readsOrder_Y7 μ = z7 at *
    generalize fX7_readsOrder_Y6 μ = z6 at *
    generalize fX7_readsOrder_Y5 μ = z5 at *
    generalize fX7_readsOrder_Y4 μ = z4 at *
    generalize fX7_readsOrder_Y3 μ = z3 at *
    by_cases c1 : fX7_sign μ = 111
    · rw [if_pos c1]
      have n97 : fX7_sign μ = 97 → False := fun q => absurd (c1.symm.trans q) (by decide)
      by_cases c2 : z9.2.1 4 = 0
      · rw [if_pos c2]; exact RO_0e y9 (by omega)
      · rw [if_neg c2]
        by_cases c3 : fX7_sign (sE z9.2 6 ((3 * (rm μ)) + 1) z9.1) = 33
        · rw [if_pos c3]
          by_cases c4 : z10.2.1 4 = 0
          · rw [if_pos c4]; exact RO_0e (y10 c3) (by omega)
          · rw [if_neg c4]; exact RO_1e (y10 c3) (by omega) hr c4 (fun q => (n97 q).elim)
        · rw [if_neg c3]; exact RO_1e y9 (by omega) hr c2 (fun q => (n97 q).elim)
    · rw [if_neg c1]
      by_cases c2 : fX7_sign μ = 101
      · rw [if_pos c2]
        have n97 : fX7_sign μ = 97 → False := fun q => absurd (c2.symm.trans q) (by decide)
        by_cases c4 : z8.2.1 4 = 0
        · rw [if_pos c4]; exact RO_0e y8 (by omega)
        · rw [if_neg c4]; exact RO_1e y8 (by omega) hr c4 (fun q => (n97 q).elim)
      · rw [if_neg c2]
        by_cases c3 : fX7_sign μ = 110
        · rw [if_pos c3]
          have n97 : fX7_sign μ = 97 → False := fun q => absurd (c3.symm.trans q) (by decide)
          by_cases c4 : z6.2.1 4 = 0
          · rw [if_pos c4]; exact RO_0z y6 (by omega)
          · rw [if_neg c4]
            by_cases c5 : z7.2.1 4 = 0
            · rw [if_pos c5]; exact RO_0e y7 (by omega)
            · rw [if_neg c5]; exact RO_1e y7 (by omega) hr c5 (fun q => (n97 q).elim)
        · rw [if_neg c3]
          by_cases c4 : fX7_sign μ = 97
          · rw [if_pos c4]
            by_cases c5 : z4.2.1 4 = 0
            · rw [if_pos c5]; exact RO_0z y4 (by omega)
            · rw [if_neg c5]
              by_cases c6 : z5.2.1 4 = 0
              · rw [if_pos c6]; exact RO_0e y5 (by omega)
              · rw [if_neg c6]
                refine RO_1e y5 (by omega) hr c6 (fun _ => ?_)
                obtain ⟨j, hj, e⟩ := o5 c6
                exact ⟨j, hj, (pk_us (f := z5.2.2 6)).trans e⟩
          · rw [if_neg c4]
            by_cases c5 : z3.2.1 4 = 0
            · rw [if_pos c5]; exact RO_0e y3 (by omega)
            · rw [if_neg c5]; exact RO_1e y3 (by omega) hr c5 (fun q => absurd q c4)
  · rw [if_neg c0]
    have c9 : fX7_isOrder (fX7_sign μ) = false := by
      cases q : fX7_isOrder (fX7_sign μ) with
      | true => exact absurd q c0
      | false => rfl
    have k0 := KR_0 (w := fX7_isOrder (fX7_sign μ)) (m := μ.1 3 + 0) hv 0 (fun q => absurd q c0) (nx_add (b := 0) hv.2.2.2.2.1 rfl) (by omega) (fun _ => rfl)
    rw [if_neg (fun c1 => absurd (by rw [c1]; decide) c0), if_neg (fun c1 => absurd (by rw [c1]; decide) c0)]
    exact RO_0 k0
theorem vM_readsOrder {μ : BS} (hv : vM μ) (hr : rm μ ≤ 30) : vM (fX7_readsOrder μ) := (RD_readsOrder hv hr).1
/-- how far the reading has still to go -/
def mR (ν : BS) : Nat := (60 - ta ν) + (if ν.1 4 = 0 then 0 else 1)
theorem mR_le (ν : BS) : mR ν ≤ 60 - ta ν + 1 := by
  unfold mR
  split <;> omega
theorem vM_r0 {μ : BS} (h : vM μ) : vM (sI μ 5 0) := ⟨h.1, h.2.1, h.2.2.1, h.2.2.2.1, h.2.2.2.2.1, h.2.2.2.2.2.1, by show (0 : Int32).toNatClampNeg ≤ 31; decide, rfl, fun k hk => by
  have h9 : k < (0 : Int32).toNatClampNeg := hk
  rw [show (0 : Int32).toNatClampNeg = 0 from by decide] at h9
  omega⟩
theorem vM_a0 {μ : BS} (h : vM μ) : vM (sI μ 3 0) := vM_at (n := 0) h rfl (by omega)
/-- what holds at the head of the reading's loop -/
def RLq (t : BS) : Prop := vM t ∧ 2 * rm t ≤ ta t
theorem RL_0 {μ : BS} (h : vM μ) : RLq (fX7_readsOrder (sI (sI μ 3 0) 5 0)) := by
  have h1 := vM_r0 (vM_a0 h)
  have e1 : rm (sI (sI μ 3 0) 5 0) = 0 := by show (0 : Int32).toNatClampNeg = 0; decide
  have e2 : ta (sI (sI μ 3 0) 5 0) = 0 := by show (0 : Int32).toNatClampNeg = 0; decide
  have h2 := RD_readsOrder h1 (by omega)
  exact ⟨h2.1, by have := h2.2.2.2; omega⟩
theorem RL_a {t : BS} (h : RLq t) (c0 : ¬ t.1 4 = 0) (c : (fX7_reads t 59 59).2.1 4 = 0) : RLq (fX7_reads t 59 59).2 ∧ mR (fX7_reads t 59 59).2 < mR t := by
  have h2 := RD_reads (a := 59) (b := 59) h.1 (by decide)
  have e : rm (fX7_reads t 59 59).2 = rm t := congrArg Int32.toNatClampNeg (reads_5 t 59 59)
  have h3 := h2.2.2.1
  have h4 := h.2
  refine ⟨⟨h2.1, by omega⟩, ?_⟩
  unfold mR
  rw [if_pos c, if_neg c0]
  omega
theorem RL_r {t : BS} (h : RLq t) : rm (fX7_reads t 59 59).2 ≤ 30 := by
  have e : rm (fX7_reads t 59 59).2 = rm t := congrArg Int32.toNatClampNeg (reads_5 t 59 59)
  have h4 := h.2
  have h5 := h.1.2.2.2.1
  omega
theorem RL_b {t : BS} (h : RLq t) (c0 : ¬ t.1 4 = 0) (c : ¬ (fX7_reads t 59 59).2.1 4 = 0) : RLq (fX7_readsOrder (fX7_reads t 59 59).2) ∧ mR (fX7_readsOrder (fX7_reads t 59 59).2) < mR t := by
  have h2 := RD_reads (a := 59) (b := 59) h.1 (by decide)
  have e : rm (fX7_reads t 59 59).2 = rm t := congrArg Int32.toNatClampNeg (reads_5 t 59 59)
  have h6 := RD_readsOrder h2.1 (RL_r h)
  have c2 : rW t 59 59 = true := by
    rw [reads_4] at c
    exact b2i_n0 c
  have h7 := rW_lt h.1 (by decide) c2
  have h8 : ta (fX7_reads t 59 59).2 = ta t + 1 := by rw [ta_reads h.1, c2]; rfl
  have h9 := h6.2.2.1
  have h10 := h6.2.2.2
  have h4 := h.2
  refine ⟨⟨h6.1, by omega⟩, ?_⟩
  have := mR_le (fX7_readsOrder (fX7_reads t 59 59).2)
  have e9 : mR t = 60 - ta t + 1 := by
    unfold mR
    rw [if_neg c0]
  omega
def fX7_readsOrders_R14 (μ : BS) : Nat → (BS) → Bool × BS
  | 0, _ => (false, μ)
  | d14 + 1, t14 => if (t14.1 4) = 0 then (i2b (t14.1 4), t14) else (if (t14.1 2) ≤ (t14.1 3) then (i2b (t14.1 4), t14) else (if (((fX7_reads t14 59 59).2).1 4) = 0 then fX7_readsOrders_R14 μ d14 ((fX7_reads t14 59 59).2) else fX7_readsOrders_R14 μ d14 (fX7_readsOrder ((fX7_reads t14 59 59).2))))
def fX7_readsOrders (μ : BS) : Bool × BS :=
  fX7_readsOrders_R14 μ 62 (fX7_readsOrder (sI (sI μ 3 0) 5 0))
theorem caX7_readsOrders : gCalV yX7_readsOrders cX7_readsOrders 1 (some .boolean) 0 := ⟨⟨q7_75, q1_6, by decide +kernel⟩, q7_74, qs_42⟩
set_option maxHeartbeats 4000000 in
set_option maxRecDepth 100000 in
theorem kX7_readsOrders (l : Launch) (E : gE) (am : Nat → Nat) (μ : BS) (hv : vM μ)   : MC l E yX7_readsOrders cX7_readsOrders 1 (some .boolean) 4 90 [.ref (am 0)] [wM E am μ] (some (.int (b2i (fX7_readsOrders μ).1))) [wM E am ((fX7_readsOrders μ).2)] := by
  have hv1 : cM μ ≤ 20 := hv.1.1
  have hc0 : μ.2 0 0 = nI (cM μ) := hv.1.2.1
  refine mc_of (by decide +kernel) (Nat.le_of_ble_eq_true rfl) (lv := [(0, .ref (am 0))]) rfl (fun X C hE => ?_)
  refine g_aload_n C dX7_readsOrders_0 rfl 0 rfl ?_
  refine g_iconst C (v := 0) dX7_readsOrders_1 (by decide) ?_
  refine g_putf C (T := TX7) (N := 15) (ty := .int) (w1 := wM E am (sI μ 3 0)) (cs1 := [wM E am (sI μ 3 0)]) 0 0 rfl rfl rfl inX7 tyX7_ok nmX7 9 (by decide) q6_79 rfl (by decide +kernel) rfl rfl (Nat.le_of_ble_eq_true rfl) rfl rfl dX7_readsOrders_2 ?_
  refine g_aload_n C dX7_readsOrders_5 rfl 0 rfl ?_
  refine g_iconst C (v := 0) dX7_readsOrders_6 (by decide) ?_
  refine g_putf C (T := TX7) (N := 15) (ty := .int) (w1 := wM E am (sI (sI μ 3 0) 5 0)) (cs1 := [wM E am (sI (sI μ 3 0) 5 0)]) 0 0 rfl rfl rfl inX7 tyX7_ok nmX7 12 (by decide) q6_82 rfl (by decide +kernel) rfl rfl (Nat.le_of_ble_eq_true rfl) rfl rfl dX7_readsOrders_7 ?_
  refine g_aload_n C dX7_readsOrders_10 rfl 0 rfl ?_
  refine g_callV C (cs1 := [wM E am (fX7_readsOrder (sI (sI μ 3 0) 5 0))]) (st1 := []) [] [0] (kX7_readsOrder l E am (sI (sI μ 3 0) 5 0) (vM_r0 (vM_a0 hv)) (by show (0 : Int32).toNatClampNeg ≤ 30; decide)) caX7_readsOrder q7_76 rfl ⟨Nat.le_of_ble_eq_true rfl, Nat.le_of_ble_eq_true rfl⟩ ⟨Nat.zero_le _, Nat.zero_le _⟩ 0 0 rfl rfl rfl rfl (by decide) rfl rfl rfl rfl (Nat.le_of_ble_eq_true rfl) dX7_readsOrders_11 rfl ?_
  have hL_2 : ∀ d14 : Nat, ∀ t14 : BS, RLq t14 → mR t14 < d14 → fX7_readsOrders_R14 μ d14 t14 = fX7_readsOrders μ → G X 0 0 [wM E am t14] [(0, .ref (am 0))] 14 [] := by
    intro d14
    induction d14 with
    | zero =>
      intro t14 hs0 hs1 hq_4
      omega
    | succ d14 ih_3 =>
      intro t14 hs0 hs1 hq_4
      refine g_aload_n C dX7_readsOrders_14 rfl 0 rfl ?_
      refine g_getf C (v := .int (t14.1 4)) (T := TX7) (N := 15) 0 0 rfl rfl rfl inX7 10 (by decide) q6_80 rfl dX7_readsOrders_15 ?_
      refine g_if_eq C 55 dX7_readsOrders_18 (by decide) (fun c_6 => ?_) (fun c_6 => ?_)
      · skip
        refine g_aload_n C dX7_readsOrders_55 rfl 0 rfl ?_
        refine g_getf C (v := .int (t14.1 4)) (T := TX7) (N := 15) 0 0 rfl rfl rfl inX7 10 (by decide) q6_80 rfl dX7_readsOrders_56 ?_
        have e_7 : fX7_readsOrders μ = (i2b (t14.1 4), t14) := by rw [← hq_4, fX7_readsOrders_R14]; rw [if_pos c_6]
        exact g_zret (b := i2b (t14.1 4)) C hE (by rw [e_7]) hs0.1.2.2.2.2.2.1 (by rw [e_7]) dX7_readsOrders_59
      · skip
        refine g_aload_n C dX7_readsOrders_21 rfl 0 rfl ?_
        refine g_getf C (v := .int (t14.1 3)) (T := TX7) (N := 15) 0 0 rfl rfl rfl inX7 9 (by decide) q6_79 rfl dX7_readsOrders_22 ?_
        refine g_aload_n C dX7_readsOrders_25 rfl 0 rfl ?_
        refine g_getf C (v := .int (t14.1 2)) (T := TX7) (N := 15) 0 0 rfl rfl rfl inX7 8 (by decide) q6_78 rfl dX7_readsOrders_26 ?_
        refine g_icmp_ge C 55 dX7_readsOrders_29 (by decide) (fun c_8 => ?_) (fun c_8 => ?_)
        · skip
          refine g_aload_n C dX7_readsOrders_55 rfl 0 rfl ?_
          refine g_getf C (v := .int (t14.1 4)) (T := TX7) (N := 15) 0 0 rfl rfl rfl inX7 10 (by decide) q6_80 rfl dX7_readsOrders_56 ?_
          have e_9 : fX7_readsOrders μ = (i2b (t14.1 4), t14) := by rw [← hq_4, fX7_readsOrders_R14]; rw [if_neg c_6, if_pos c_8]
          exact g_zret (b := i2b (t14.1 4)) C hE (by rw [e_9]) hs0.1.2.2.2.2.2.1 (by rw [e_9]) dX7_readsOrders_59
        · skip
          refine g_aload_n C dX7_readsOrders_32 rfl 0 rfl ?_
          refine g_bipush C (v := 59) dX7_readsOrders_33 (by decide) ?_
          refine g_bipush C (v := 59) dX7_readsOrders_35 (by decide) ?_
          refine g_callV C (cs1 := [wM E am ((fX7_reads t14 59 59).2)]) (st1 := [.int ((fX7_reads t14 59 59).1)]) [.int 59, .int 59] [0] (kX7_reads l E am t14 hs0.1 59 59 (by decide)) caX7_reads q7_91 rfl ⟨Nat.le_of_ble_eq_true rfl, Nat.le_of_ble_eq_true rfl⟩ ⟨Nat.zero_le _, Nat.zero_le _⟩ 0 0 rfl rfl rfl rfl (by decide) rfl rfl rfl rfl (Nat.le_of_ble_eq_true rfl) dX7_readsOrders_37 rfl ?_
          refine g_pop C dX7_readsOrders_40 rfl ?_
          refine g_aload_n C dX7_readsOrders_41 rfl 0 rfl ?_
          refine g_getf C (v := .int (((fX7_reads t14 59 59).2).1 4)) (T := TX7) (N := 15) 0 0 rfl rfl rfl inX7 10 (by decide) q6_80 rfl dX7_readsOrders_42 ?_
          refine g_if_eq C 14 dX7_readsOrders_45 (by decide) (fun c_10 => ?_) (fun c_10 => ?_)
          · skip
            have hA := RL_a hs0 c_6 c_10
            have e_11 : fX7_readsOrders_R14 μ d14 ((fX7_reads t14 59 59).2) = fX7_readsOrders μ := by
              rw [← hq_4, fX7_readsOrders_R14]; rw [if_neg c_6, if_neg c_8, if_pos c_10]
            exact g_sub [0] rfl (ih_3 ((fX7_reads t14 59 59).2) hA.1 (by have := hA.2; omega) e_11)
          · skip
            have hB := RL_b hs0 c_6 c_10
            refine g_aload_n C dX7_readsOrders_48 rfl 0 rfl ?_
            refine g_callV C (cs1 := [wM E am (fX7_readsOrder ((fX7_reads t14 59 59).2))]) (st1 := []) [] [0] (kX7_readsOrder l E am ((fX7_reads t14 59 59).2) (vM_reads hs0.1 (by decide)) (RL_r hs0)) caX7_readsOrder q7_76 rfl ⟨Nat.le_of_ble_eq_true rfl, Nat.le_of_ble_eq_true rfl⟩ ⟨Nat.zero_le _, Nat.zero_le _⟩ 0 0 rfl rfl rfl rfl (by decide) rfl rfl rfl rfl (Nat.le_of_ble_eq_true rfl) dX7_readsOrders_49 rfl ?_
            refine g_goto C 14 dX7_readsOrders_52 (by decide) ?_
            have e_12 : fX7_readsOrders_R14 μ d14 (fX7_readsOrder ((fX7_reads t14 59 59).2)) = fX7_readsOrders μ := by
              rw [← hq_4, fX7_readsOrders_R14]; rw [if_neg c_6, if_neg c_8, if_neg c_10]
            exact g_sub [0] rfl (ih_3 (fX7_readsOrder ((fX7_reads t14 59 59).2)) hB.1 (by have := hB.2; omega) e_12)
  refine g_sub [0] (lv1 := [(0, .ref (am 0))]) rfl ?_
  have e_13 : fX7_readsOrders_R14 μ 62 (fX7_readsOrder (sI (sI μ 3 0) 5 0)) = fX7_readsOrders μ := by
    rw [fX7_readsOrders]
  exact hL_2 62 (fX7_readsOrder (sI (sI μ 3 0) 5 0)) (RL_0 hv) (by have := mR_le (fX7_readsOrder (sI (sI μ 3 0) 5 0)); omega) e_13
theorem RL_readsOrders {μ : BS} (h : vM μ) : RLq (fX7_readsOrders μ).2 := by
  have key : ∀ d (t : BS), RLq t → mR t < d → RLq (fX7_readsOrders_R14 μ d t).2 := by
    intro d
    induction d with
    | zero => intro t _ h2; omega
    | succ d ih =>
      intro t h1 h2
      rw [fX7_readsOrders_R14]
      by_cases c0 : t.1 4 = 0
      · rw [if_pos c0]; exact h1
      · rw [if_neg c0]
        by_cases c1 : (t.1 2) ≤ (t.1 3)
        · rw [if_pos c1]; exact h1
        · rw [if_neg c1]
          by_cases c2 : (fX7_reads t 59 59).2.1 4 = 0
          · rw [if_pos c2]
            have := RL_a h1 c0 c2
            exact ih _ this.1 (by omega)
          · rw [if_neg c2]
            have := RL_b h1 c0 c2
            exact ih _ this.1 (by omega)
  exact key 62 _ (RL_0 h) (by have := mR_le (fX7_readsOrder (sI (sI μ 3 0) 5 0)); omega)
theorem vM_readsOrders {μ : BS} (h : vM μ) : vM (fX7_readsOrders μ).2 := (RL_readsOrders h).1
def fX7_firstError (μ : BS) : Int32 × BS :=
  if ((fX7_readsOrders (sI μ 0 0)).1) = true then (((fX7_readsOrders (sI μ 0 0)).2).1 2, (fX7_readsOrders (sI μ 0 0)).2) else (((fX7_readsOrders (sI μ 0 0)).2).1 3, (fX7_readsOrders (sI μ 0 0)).2)
theorem caX7_firstError : gCalV yX7_firstError cX7_firstError 1 (some .int) 0 := ⟨⟨q7_71, q1_6, by decide +kernel⟩, q7_69, q7_70⟩
set_option maxHeartbeats 4000000 in
set_option maxRecDepth 100000 in
theorem kX7_firstError (l : Launch) (E : gE) (am : Nat → Nat) (μ : BS) (hv : vM μ)   : MC l E yX7_firstError cX7_firstError 1 (some .int) 5 110 [.ref (am 0)] [wM E am μ] (some (.int (fX7_firstError μ).1)) [wM E am ((fX7_firstError μ).2)] := by
  have hv1 : cM μ ≤ 20 := hv.1.1
  have hc0 : μ.2 0 0 = nI (cM μ) := hv.1.2.1
  refine mc_of (by decide +kernel) (Nat.le_of_ble_eq_true rfl) (lv := [(0, .ref (am 0))]) rfl (fun X C hE => ?_)
  refine g_aload_n C dX7_firstError_0 rfl 0 rfl ?_
  refine g_iconst C (v := 0) dX7_firstError_1 (by decide) ?_
  refine g_putf C (T := TX7) (N := 15) (ty := .int) (w1 := wM E am (sI μ 0 0)) (cs1 := [wM E am (sI μ 0 0)]) 0 0 rfl rfl rfl inX7 tyX7_ok nmX7 0 (by decide) q6_70 rfl (by decide +kernel) rfl rfl (Nat.le_of_ble_eq_true rfl) rfl rfl dX7_firstError_2 ?_
  refine g_aload_n C dX7_firstError_5 rfl 0 rfl ?_
  refine g_callV C (cs1 := [wM E am ((fX7_readsOrders (sI μ 0 0)).2)]) (st1 := [.int (b2i ((fX7_readsOrders (sI μ 0 0)).1))]) [] [0] (kX7_readsOrders l E am (sI μ 0 0) (vM_i0 hv)) caX7_readsOrders q7_72 rfl ⟨Nat.le_of_ble_eq_true rfl, Nat.le_of_ble_eq_true rfl⟩ ⟨Nat.zero_le _, Nat.zero_le _⟩ 0 0 rfl rfl rfl rfl (by decide) rfl rfl rfl rfl (Nat.le_of_ble_eq_true rfl) dX7_firstError_6 rfl ?_
  refine g_ifB_eq C 19 dX7_firstError_9 (by decide) (fun c_1 => ?_) (fun c_1 => ?_)
  · skip
    refine g_aload_n C dX7_firstError_19 rfl 0 rfl ?_
    refine g_getf C (v := .int (((fX7_readsOrders (sI μ 0 0)).2).1 3)) (T := TX7) (N := 15) 0 0 rfl rfl rfl inX7 9 (by decide) q6_79 rfl dX7_firstError_20 ?_
    have e_2 : fX7_firstError μ = (((fX7_readsOrders (sI μ 0 0)).2).1 3, (fX7_readsOrders (sI μ 0 0)).2) := by rw [fX7_firstError]; rw [if_neg (ne_true_of_eq_false c_1)]
    exact g_iret C hE (by rw [e_2]) (by rw [e_2]) dX7_firstError_23
  · skip
    refine g_aload_n C dX7_firstError_12 rfl 0 rfl ?_
    refine g_getf C (v := .int (((fX7_readsOrders (sI μ 0 0)).2).1 2)) (T := TX7) (N := 15) 0 0 rfl rfl rfl inX7 8 (by decide) q6_78 rfl dX7_firstError_13 ?_
    refine g_goto C 23 dX7_firstError_16 (by decide) ?_
    have e_3 : fX7_firstError μ = (((fX7_readsOrders (sI μ 0 0)).2).1 2, (fX7_readsOrders (sI μ 0 0)).2) := by rw [fX7_firstError]; rw [if_pos c_1]
    exact g_iret C hE (by rw [e_3]) (by rw [e_3]) dX7_firstError_23
