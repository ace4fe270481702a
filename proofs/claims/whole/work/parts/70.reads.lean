/-! ===== all orders of a text, read alike ===== -/
def RF (μ ν : BS) : Prop := ν.1 0 = μ.1 0 ∧ ν.1 1 = μ.1 1 ∧ ν.1 2 = μ.1 2 ∧ ∀ j, j ≠ 6 → ν.2 j = μ.2 j
theorem RF_t {a b c : BS} (h : RF a b) (g : RF b c) : RF a c := ⟨g.1.trans h.1, g.2.1.trans h.2.1, g.2.2.1.trans h.2.2.1, fun j hj => (g.2.2.2 j hj).trans (h.2.2.2 j hj)⟩
theorem RF_reads (μ : BS) (a b : Int32) : RF μ (fX7_reads μ a b).2 := by
  obtain ⟨h0, h1, h2, h3⟩ := reads_fr μ a b
  exact ⟨h0, h1, h2, fun j _ => by rw [h3]⟩
theorem RF_order {μ : BS} (hv : vM μ) (hr : rm μ ≤ 30) : RF μ (fX7_readsOrder μ) := (RD_readsOrder hv hr).2.1
theorem tl_fin {θ : BS} {b : Bool} {L p : Nat} (h0 : θ.1 0 = nI L) (h1 : θ.1 1 = nI p) (hb : b = true → p = L) : (if b = true then (if θ.1 1 = θ.1 0 then (true, θ) else (false, θ)) else (false, θ)) = (b, θ) := by
  cases b with
  | false => rfl
  | true => rw [if_pos rfl, if_pos (by rw [h0, h1, hb rfl])]
theorem tl_key {θ0 μ0 m : BS} {L : Nat} : ∀ (d i e : Nat) (b : Bool) (θ μ : BS) (p c : Nat), d + i = 22 → d ≤ e → μ.1 4 = b2i b → PR θ μ L p c → RLq μ → RF m μ → (b = true → i = c ∧ 3 * c ≤ p + 1) → (b = false → i ≤ 21) → ∃ p' c', (fX4_tellsOrders_R17 θ0 d i (b, θ)).1 = (fX7_readsOrders_R14 μ0 e μ).1 ∧ PR (fX4_tellsOrders_R17 θ0 d i (b, θ)).2 (fX7_readsOrders_R14 μ0 e μ).2 L p' c' ∧ RF m (fX7_readsOrders_R14 μ0 e μ).2 ∧ ((fX4_tellsOrders_R17 θ0 d i (b, θ)).1 = true → p' = L) := by
  intro d
  induction d with
  | zero =>
    intro i e b θ μ p c h1 h2 h3 h4 h5 h6 h7 h8
    cases b with
    | true =>
      have := h7 rfl
      have := h4.1.2.2.1
      have := h4.1.2.2.2.2.2.2
      omega
    | false => have := h8 rfl; omega
  | succ d ih =>
    intro i e b θ μ p c h1 h2 h3 h4 h5 h6 h7 h8
    obtain ⟨e, rfl⟩ : ∃ e', e = e' + 1 := ⟨e - 1, by omega⟩
    rw [fX4_tellsOrders_R17, fX7_readsOrders_R14]
    have hL := h4.1.2.2.1
    have hp := h4.1.2.2.2.2.2.2
    have t0 := h4.1.1
    have t1 := h4.1.2.2.2.2.1
    cases b with
    | false =>
      have hf := tl_fin (b := false) t0 t1 (fun q => by cases q)
      have m4 : μ.1 4 = 0 := h3
      rw [if_pos m4]
      have hb0 : i2b (μ.1 4) = false := i2b_0 m4
      rw [hb0]
      have e9 : ∀ (P : Prop) [Decidable P], (if P then (if ((false, θ) : Bool × BS).1 = true then (if ((false, θ) : Bool × BS).2.1 1 = ((false, θ) : Bool × BS).2.1 0 then (true, ((false, θ) : Bool × BS).2) else (false, ((false, θ) : Bool × BS).2)) else (false, ((false, θ) : Bool × BS).2)) else ((false, θ) : Bool × BS)) = (false, θ) := fun P _ => by split <;> rfl
      have e8 : (if 20 < nI i then (if ((false, θ) : Bool × BS).1 = true then (if ((false, θ) : Bool × BS).2.1 1 = ((false, θ) : Bool × BS).2.1 0 then (true, ((false, θ) : Bool × BS).2) else (false, ((false, θ) : Bool × BS).2)) else (false, ((false, θ) : Bool × BS).2)) else (false, θ)) = ((false, θ) : Bool × BS) := e9 _
      refine ⟨p, c, ?_, ?_, ?_, ?_⟩
      · split <;> rfl
      · have : (if 20 < nI i then (false, θ) else ((false, θ) : Bool × BS)) = (false, θ) := by split <;> rfl
        split
        · exact h4
        · exact h4
      · exact h6
      · intro q
        exfalso
        revert q
        split <;> exact fun q => by cases q
    | true =>
      obtain ⟨hi, h3c⟩ := h7 rfl
      have m4 : ¬ μ.1 4 = 0 := by rw [h3]; decide
      have hb1 : i2b (μ.1 4) = true := i2b_n m4
      rw [if_neg m4, if_neg (show ¬ 20 < nI i from fun q => by
        have := (nI_ltI (a := 20) (b := i) (by omega) (by omega)).mp q
        omega), if_pos (show ((true, θ) : Bool × BS).1 = true from rfl)]
      have ia : μ.1 2 ≤ μ.1 3 ↔ L ≤ p := by rw [h4.1.2.1, h4.1.2.2.2.2.2.1]; exact nI_leI (by omega) (by omega)
      have ib : ((true, θ) : Bool × BS).2.1 0 ≤ ((true, θ) : Bool × BS).2.1 1 ↔ L ≤ p := by
        show θ.1 0 ≤ θ.1 1 ↔ _
        rw [t0, t1]
        exact nI_leI (by omega) (by omega)
      by_cases cL : L ≤ p
      · rw [if_pos (ia.mpr cL), if_pos (ib.mpr cL), hb1]
        have hf := tl_fin (b := true) t0 t1 (fun _ => by omega)
        refine ⟨p, c, ?_, ?_, h6, fun _ => by omega⟩
        · have hf1 := congrArg Prod.fst hf
          exact hf1
        · rw [show (if ((true, θ) : Bool × BS).1 = true then (if ((true, θ) : Bool × BS).2.1 1 = ((true, θ) : Bool × BS).2.1 0 then (true, ((true, θ) : Bool × BS).2) else (false, ((true, θ) : Bool × BS).2)) else (false, ((true, θ) : Bool × BS).2)) = (true, θ) from hf]
          exact h4
      · rw [if_neg (fun z => cL (ia.mp z)), if_neg (fun z => cL (ib.mp z))]
        obtain ⟨v, hv, es, -, ep, -⟩ := sg_at h4.1
        have hr := reads_at h4.1 m4 (x := 59) (y := 59) hv es (by omega) (by omega)
        have hs := sign_at h4.1 (s := 59) (by omega) (by omega) hv es
        have hr : fX7_reads μ 59 59 = _ := hr
        have hs : fX4_readSign ((true, θ) : Bool × BS).2 59 = _ := hs
        rw [hs]
        by_cases c59 : v = 59
        · rw [if_pos (show 59 ≤ v ∧ v ≤ 59 by omega)] at hr
          rw [if_pos c59, if_pos (show ((true, sI θ 1 (nI (p + 1))) : Bool × BS).1 = true from rfl)]
          have m5 : ¬ (fX7_reads μ 59 59).2.1 4 = 0 := by rw [hr]; exact (by decide : ¬ (1 : Int32) = 0)
          rw [if_neg m5]
          have h9 := RL_b h5 m4 m5
          have hRF : RF m (fX7_readsOrder (fX7_reads μ 59 59).2) := RF_t (RF_t h6 (RF_reads μ 59 59)) (RF_order (vM_reads h5.1 (by decide)) (RL_r h5))
          have hPR : PR (sI θ 1 (nI (p + 1))) (fX7_reads μ 59 59).2 L (p + 1) c := by
            rw [hr]
            exact ⟨PQ_to h4.1 rfl rfl rfl rfl rfl rfl (by omega), h4.2.1, h4.2.2.1, h4.2.2.2.1, fun k hk => OA_to (h4.2.2.2.2 k hk) rfl rfl rfl (fun _ _ => rfl)⟩
          obtain ⟨p', c', q1, q2, q3, q4, q5⟩ := ro_at hPR h3c
          obtain ⟨b', hb'⟩ : ∃ b', (fX4_readOrder (sI θ 1 (nI (p + 1)))).1 = b' := ⟨_, rfl⟩
          have key := ih (i + 1) e b' (fX4_readOrder (sI θ 1 (nI (p + 1)))).2 (fX7_readsOrder (fX7_reads μ 59 59).2) p' c' (by omega) (by omega) (by rw [q1, hb']) q2 h9.1 hRF (fun z => by
            have := q4 (by rw [hb']; exact z)
            omega) (fun z => by omega)
          show ∃ p' c', (if (fX4_readOrder (sI θ 1 (nI (p + 1)))).1 = true then fX4_tellsOrders_R17 θ0 d (i + 1) (true, (fX4_readOrder (sI θ 1 (nI (p + 1)))).2) else fX4_tellsOrders_R17 θ0 d (i + 1) (false, (fX4_readOrder (sI θ 1 (nI (p + 1)))).2)).1 = _ ∧ PR (if (fX4_readOrder (sI θ 1 (nI (p + 1)))).1 = true then fX4_tellsOrders_R17 θ0 d (i + 1) (true, (fX4_readOrder (sI θ 1 (nI (p + 1)))).2) else fX4_tellsOrders_R17 θ0 d (i + 1) (false, (fX4_readOrder (sI θ 1 (nI (p + 1)))).2)).2 _ L p' c' ∧ _ ∧ ((if (fX4_readOrder (sI θ 1 (nI (p + 1)))).1 = true then fX4_tellsOrders_R17 θ0 d (i + 1) (true, (fX4_readOrder (sI θ 1 (nI (p + 1)))).2) else fX4_tellsOrders_R17 θ0 d (i + 1) (false, (fX4_readOrder (sI θ 1 (nI (p + 1)))).2)).1 = true → p' = L)
          rw [hb']
          cases b' with
          | true => rw [if_pos rfl]; exact key
          | false => rw [if_neg (show ¬ (false = true) by decide)]; exact key
        · rw [if_neg (show ¬ (59 ≤ v ∧ v ≤ 59) by omega)] at hr
          rw [if_neg c59, if_neg (show ¬ ((false, ((true, θ) : Bool × BS).2) : Bool × BS).1 = true from (by decide : ¬ (false = true)))]
          have m5 : (fX7_reads μ 59 59).2.1 4 = 0 := by rw [hr]; rfl
          rw [if_pos m5]
          have h9 := RL_a h5 m4 m5
          have hRF : RF m (fX7_reads μ 59 59).2 := RF_t h6 (RF_reads μ 59 59)
          have hPR : PR θ (fX7_reads μ 59 59).2 L p c := by
            rw [hr]
            exact ⟨PQ_to h4.1 rfl rfl rfl rfl t1 rfl (by omega), h4.2.1, h4.2.2.1, h4.2.2.2.1, fun k hk => OA_to (h4.2.2.2.2 k hk) rfl rfl rfl (fun _ _ => rfl)⟩
          exact ih (i + 1) e false θ (fX7_reads μ 59 59).2 p c (by omega) (by omega) m5 hPR h9.1 hRF (fun z => by cases z) (fun _ => by omega)
