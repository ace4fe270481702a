/-! ===== reading: both sides answer alike ===== -/
theorem tells_all {θ μ : BS} (hv : vM μ) (hT : TR θ μ) : ∃ p c, (fX4_tellsOrders θ).1 = (fX7_readsOrders μ).1 ∧ PR (fX4_tellsOrders θ).2 (fX7_readsOrders μ).2 (tl μ) p c ∧ RF μ (fX7_readsOrders μ).2 ∧ ((fX4_tellsOrders θ).1 = true → p = tl μ) := by
  obtain ⟨hl1, hl2⟩ := hv.2.2.1
  have h0 : PR (sI (sI θ 1 0) 2 0) (sI (sI μ 3 0) 5 0) (tl μ) 0 0 := ⟨⟨hT.1.trans hl2, hl2, hl1, hT.2, rfl, rfl, Nat.zero_le _⟩, rfl, rfl, by omega, fun k hk => by omega⟩
  have hRF : RF μ (sI (sI μ 3 0) 5 0) := ⟨rfl, rfl, rfl, fun _ _ => rfl⟩
  have hv0 : vM (sI (sI μ 3 0) 5 0) := vM_r0 (vM_a0 hv)
  have hrm : rm (sI (sI μ 3 0) 5 0) ≤ 30 := by
    show (0 : Int32).toNatClampNeg ≤ 30
    decide
  obtain ⟨p', c', q1, q2, q3, q4, q5⟩ := ro_at h0 (by omega)
  exact tl_key 21 1 62 _ _ _ p' c' (by omega) (by omega) q1 q2 (RL_0 hv) (RF_t hRF (RF_order hv0 hrm)) (fun z => by
    have := q4 z
    omega) (fun _ => by omega)
theorem PR_TR {θ ν : BS} {L p c : Nat} (h : PR θ ν L p c) : TR θ ν := by
  have hL := h.1.2.2.1
  have e : tl ν = L := by unfold tl; rw [h.1.2.1, nI_clamp (by omega)]
  refine ⟨h.1.1.trans h.1.2.1.symm, ?_⟩
  rw [e]
  exact h.1.2.2.2.1
theorem Rl_read {β η θ μ : BS} {σ : Nat → BS} (h : Rl β η θ σ μ) : Rl β η (fX4_tellsOrders θ).2 σ (fX7_readsOrders (sI μ 0 0)).2 := by
  have hv0 : vM (sI μ 0 0) := vM_i0 h.2.1
  obtain ⟨p, c, -, q2, q3, -⟩ := tells_all (θ := θ) hv0 (TR_of h.2.2.2.2.2 rfl rfl)
  exact ⟨AL_row h.1 (q3.2.2.2 0 (by decide)), vM_readsOrders hv0, h.2.2.1, vT_tellsOrders h.2.2.2.1, HR_of h.2.2.2.2.1 q3.2.1 (q3.2.2.2 2 (by decide)) (q3.2.2.2 3 (by decide)) (q3.2.2.2 4 (by decide)), PR_TR q2⟩
theorem sh_firstError : sH_firstError Rl := by
  intro β τ γ η σ θ μ h
  have hv0 : vM (sI μ 0 0) := vM_i0 h.2.1
  obtain ⟨p, c, q1, q2, -, q4⟩ := tells_all (θ := θ) hv0 (TR_of h.2.2.2.2.2 rfl rfl)
  have hR := Rl_read h
  unfold fX6_firstError fX7_firstError fX4_errorPlace
  by_cases ok : (fX7_readsOrders (sI μ 0 0)).1 = true
  · rw [if_pos ok]
    refine ⟨?_, hR⟩
    show (fX4_tellsOrders θ).2.1 1 = (fX7_readsOrders (sI μ 0 0)).2.1 2
    rw [q2.1.2.2.2.2.1, q2.1.2.1, q4 (q1.trans ok)]
  · rw [if_neg ok]
    refine ⟨?_, hR⟩
    show (fX4_tellsOrders θ).2.1 1 = (fX7_readsOrders (sI μ 0 0)).2.1 3
    rw [q2.1.2.2.2.2.1, q2.1.2.2.2.2.2.1]
