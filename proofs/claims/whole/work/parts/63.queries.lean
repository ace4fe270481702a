/-! ===== the queries: both sides answer alike ===== -/
theorem Rl_x {β η θ μ ν : BS} {σ : Nat → BS} {k : Nat} (h : Rl β η θ σ μ) (e : eqX k μ ν) (hk : 6 < k) : Rl β η θ σ ν := ⟨AL_row h.1 (e.2 0 (by omega)), vM_x e hk h.2.1, h.2.2.1, h.2.2.2.1, HR_of h.2.2.2.2.1 (congrFun e.1 1) (e.2 2 (by omega)) (e.2 3 (by omega)) (e.2 4 (by omega)), TR_of h.2.2.2.2.2 (congrFun e.1 2) (e.2 5 (by omega))⟩
theorem saved_eq {η μ : BS} {σ : Nat → BS} (h : HR η σ μ) : η.1 1 = μ.1 1 := by
  obtain ⟨⟨o, c, -, -, -, e1, e2, -⟩, -⟩ := h
  rw [e1, e2]
theorem lateM_eq {β μ : BS} (h : AL β μ) : fX5_overdueMilestones β = lpF (fX7_lateMilestones_L9 μ) 0 4 := lpF_congr 4 fun i x hi => by
  unfold fX5_overdueMilestones_L4 fX7_lateMilestones_L9
  rw [late_eq h hi]
  show _ = if fX7_late μ i = true then x + 1 else x + 0
  rw [add_z]
theorem needBy_eq {β μ : BS} (h : AL β μ) {t : Nat} {a : Int32} (ht : t < cM μ) (e : a = nI t) : fJ6_bitCount_0f7a4 (fX0_thoseThatNeed β a) = lpF (fX7_neededBy_L23 μ a) 0 (cM μ) := by
  have hn := h.n20
  have hnb : cnt β ≤ 20 := by rw [h.n]; exact hn
  subst e
  unfold fX0_thoseThatNeed
  refine bc_loop hn (fun j h1 h2 => by rw [bt_ttna hnb _ h2, h.n, dec_ge h1]) (fun i x hi => ?_)
  rw [bt_ttna hnb _ (by omega), h.n, h.nd hi]
  unfold fX7_neededBy_L23
  have e1 : fX7_needsIt (sI μ 0 0) i (nI t) = bt (fX7_of μ i 9) t := needsIt_bt (by omega)
  have e2 : (fX7_of μ i 9 &&& fX6_setOf (nI t) = 0) ↔ bt (fX7_of μ i 9) t = false := bt_in (by omega)
  rw [e1, add_z]
  simp only [e2, hi, decide_true, Bool.true_and]
  cases bt (fX7_of μ i 9) t <;> rfl
theorem nd_hi0 {β μ : BS} (h : AL β μ) {t : Nat} (ht : t < cM μ) : ∀ j, cM μ ≤ j → j < 32 → bt (fX7_of μ t 9) j = false := fun j h1 h2 => h.nb ht h1 h2
theorem bl_hi {β μ : BS} (h : AL β μ) {t : Nat} : ∀ j, cM μ ≤ j → j < 32 → bt (fX7_blockers μ t) j = false := fun j h1 h2 => by
  unfold fX7_blockers
  rw [bt_and, bt_left h.n20 h2, dec_ge h1, Bool.and_false]
theorem not_le0 {o : Nat} (ho : o < 100) : ¬ nI (o + 1) ≤ 0 := fun q => by
  have := (nI_leI (a := o + 1) (b := 0) (by omega) (by omega)).mp q
  omega
theorem nI_m1 {o : Nat} (ho : o < 100) : ¬ nI o = -1 := fun q => by
  have := congrArg Int32.toInt q
  rw [nI_toInt (by omega), show (-1 : Int32).toInt = -1 by decide] at this
  omega
theorem mil_cases {β μ : BS} (h : AL β μ) {t : Nat} (ht : t < cM μ) : (β.2 4 t = -1 ∧ fX7_of μ t 4 = 0) ∨ ∃ o : Nat, o < 4 ∧ β.2 4 t = nI o ∧ fX7_of μ t 4 = nI (o + 1) := by
  have := h.n20
  obtain ⟨j, hj, e⟩ := (h.2.1.2.2 t (by omega)).2
  have e : fX7_of μ t 4 = nI j := e
  rcases Nat.eq_zero_or_pos j with c | c
  · subst c
    exact Or.inl ⟨(h.ms0 ht).mp e, e⟩
  · obtain ⟨o, rfl⟩ : ∃ o, j = o + 1 := ⟨j - 1, by omega⟩
    exact Or.inr ⟨o, by omega, (h.msI ht (nI o)).mp (by rw [e, nI_1]), e⟩
theorem sh_savedStates : sH_savedStates Rl := fun β τ γ η σ θ μ h => ⟨saved_eq h.2.2.2.2.1, Rl_i0 h 0⟩
theorem sh_tickets : sH_tickets Rl := fun β τ γ η σ θ μ h => ⟨h.1.b.1.1, Rl_i0 h 0⟩
theorem sh_day : sH_day Rl := fun β τ γ η σ θ μ h => ⟨h.1.b.1.2.1, Rl_i0 h 0⟩
theorem sh_closings : sH_closings Rl := fun β τ γ η σ θ μ h => ⟨h.1.b.1.2.2.1, Rl_i0 h 0⟩
theorem sh_reopenings : sH_reopenings Rl := fun β τ γ η σ θ μ h => ⟨h.1.b.1.2.2.2, Rl_i0 h 0⟩
theorem sh_freestOwner : sH_freestOwner Rl := fun β τ γ η σ θ μ h => ⟨freest_eq h.1, Rl_i0 h 0⟩
theorem sh_lateMilestones : sH_lateMilestones Rl := fun β τ γ η σ θ μ h => ⟨lateM_eq h.1, Rl_i0 h 0⟩
theorem sh_allPoints : sH_allPoints Rl := fun β τ γ η σ θ μ h => ⟨allPts_eq h.1, Rl_i0 h 0⟩
theorem sh_blockedTickets : sH_blockedTickets Rl := fun β τ γ η σ θ μ h => ⟨blockedMany_eq h.1, Rl_i0 h 0⟩
theorem sh_pointsOfWeek : sH_pointsOfWeek Rl := fun β τ γ η σ θ μ h => ⟨week_eq h.1, Rl_i0 h 0⟩
theorem sh_meanDays : sH_meanDays Rl := fun β τ γ η σ θ μ h => ⟨mean_eq h.1, Rl_i0 h 0⟩
theorem sh_criticalByTrying : sH_criticalByTrying Rl := fun β τ γ η σ θ μ h => ⟨byTrying_eq (γ := γ) (AL_row h.1 rfl), Rl_x (Rl_i0 h 0) (crit_x8 _) (by decide)⟩
theorem sh_criticalByOrder : sH_criticalByOrder Rl := fun β τ γ η σ θ μ h => ⟨byOrder_eq (γ := γ) (AL_row h.1 rfl), Rl_x (Rl_i0 h 0) (crit_x8 _) (by decide)⟩
theorem sh_stateOf : sH_stateOf Rl := by
  intro β τ γ η σ θ μ a h
  unfold fX6_stateOf fX7_stateOf fX7_tells
  by_cases c : fX0_hasTicket β a = true
  · rw [if_pos c, if_pos ((iT h.1 a).mp c)]
    exact ⟨Or.inl ⟨congrArg Sum.inr (h.1.st (tick h.1 c).2), rfl⟩, Rl_i0 h 0⟩
  · rw [if_neg c, if_neg (fun q => c ((iT h.1 a).mpr q))]
    exact ⟨Or.inr ⟨rfl, rfl⟩, Rl_f h 1⟩
theorem sh_pointsOf : sH_pointsOf Rl := by
  intro β τ γ η σ θ μ a h
  unfold fX6_pointsOf fX7_pointsOf fX7_tells
  by_cases c : fX0_hasTicket β a = true
  · rw [if_pos c, if_pos ((iT h.1 a).mp c)]
    exact ⟨Or.inl ⟨congrArg Sum.inr (h.1.pt (tick h.1 c).2), rfl⟩, Rl_i0 h 0⟩
  · rw [if_neg c, if_neg (fun q => c ((iT h.1 a).mpr q))]
    exact ⟨Or.inr ⟨rfl, rfl⟩, Rl_f h 1⟩
theorem sh_priorityOf : sH_priorityOf Rl := by
  intro β τ γ η σ θ μ a h
  unfold fX6_priorityOf fX7_priorityOf fX7_tells
  by_cases c : fX0_hasTicket β a = true
  · rw [if_pos c, if_pos ((iT h.1 a).mp c)]
    exact ⟨Or.inl ⟨congrArg Sum.inr (h.1.pr (tick h.1 c).2), rfl⟩, Rl_i0 h 0⟩
  · rw [if_neg c, if_neg (fun q => c ((iT h.1 a).mpr q))]
    exact ⟨Or.inr ⟨rfl, rfl⟩, Rl_f h 1⟩
theorem sh_openedOn : sH_openedOn Rl := by
  intro β τ γ η σ θ μ a h
  unfold fX6_openedOn fX7_openedOn fX7_tells
  by_cases c : fX0_hasTicket β a = true
  · rw [if_pos c, if_pos ((iT h.1 a).mp c)]
    exact ⟨Or.inl ⟨congrArg Sum.inr (h.1.op (tick h.1 c).2), rfl⟩, Rl_i0 h 0⟩
  · rw [if_neg c, if_neg (fun q => c ((iT h.1 a).mpr q))]
    exact ⟨Or.inr ⟨rfl, rfl⟩, Rl_f h 1⟩
theorem sh_daysInProgress : sH_daysInProgress Rl := by
  intro β τ γ η σ θ μ a h
  unfold fX6_daysInProgress fX7_daysInProgress fX7_tells
  by_cases c : fX0_hasTicket β a = true
  · rw [if_pos c, if_pos ((iT h.1 a).mp c)]
    exact ⟨Or.inl ⟨congrArg Sum.inr (h.1.pd (tick h.1 c).2), rfl⟩, Rl_i0 h 0⟩
  · rw [if_neg c, if_neg (fun q => c ((iT h.1 a).mpr q))]
    exact ⟨Or.inr ⟨rfl, rfl⟩, Rl_f h 1⟩
theorem sh_timesSentBack : sH_timesSentBack Rl := by
  intro β τ γ η σ θ μ a h
  unfold fX6_timesSentBack fX7_timesSentBack fX7_tells
  by_cases c : fX0_hasTicket β a = true
  · rw [if_pos c, if_pos ((iT h.1 a).mp c)]
    exact ⟨Or.inl ⟨congrArg Sum.inr (h.1.pb (tick h.1 c).2), rfl⟩, Rl_i0 h 0⟩
  · rw [if_neg c, if_neg (fun q => c ((iT h.1 a).mpr q))]
    exact ⟨Or.inr ⟨rfl, rfl⟩, Rl_f h 1⟩
theorem sh_needsOf : sH_needsOf Rl := by
  intro β τ γ η σ θ μ a h
  unfold fX6_needsOf fX7_needsOf
  by_cases c : fX0_hasTicket β a = true
  · rw [if_pos c, if_pos ((show fX0_hasTicket β a = true ↔ fX7_isTicket (sI μ 0 0) a = true from iT h.1 a).mp c)]
    obtain ⟨e_a, t_a⟩ := tick h.1 c
    exact ⟨Or.inl ⟨congrArg Sum.inr (by rw [h.1.nd t_a]; exact bc_bits h.1.n20 (nd_hi0 h.1 t_a)), rfl⟩, Rl_i0 h 0⟩
  · rw [if_neg c, if_neg (fun q => c ((show fX0_hasTicket β a = true ↔ fX7_isTicket (sI μ 0 0) a = true from iT h.1 a).mpr q))]
    exact ⟨Or.inr ⟨rfl, rfl⟩, Rl_f h 1⟩
theorem sh_neededBy : sH_neededBy Rl := by
  intro β τ γ η σ θ μ a h
  unfold fX6_neededBy fX7_neededBy
  by_cases c : fX0_hasTicket β a = true
  · rw [if_pos c, if_pos ((show fX0_hasTicket β a = true ↔ fX7_isTicket (sI μ 0 0) a = true from iT h.1 a).mp c)]
    obtain ⟨e_a, t_a⟩ := tick h.1 c
    exact ⟨Or.inl ⟨congrArg Sum.inr (needBy_eq h.1 t_a e_a), rfl⟩, Rl_i0 h 0⟩
  · rw [if_neg c, if_neg (fun q => c ((show fX0_hasTicket β a = true ↔ fX7_isTicket (sI μ 0 0) a = true from iT h.1 a).mpr q))]
    exact ⟨Or.inr ⟨rfl, rfl⟩, Rl_f h 1⟩
theorem sh_blockersOf : sH_blockersOf Rl := by
  intro β τ γ η σ θ μ a h
  unfold fX6_blockersOf fX7_blockersOf
  by_cases c : fX0_hasTicket β a = true
  · rw [if_pos c, if_pos ((show fX0_hasTicket β a = true ↔ fX7_isTicket (sI μ 0 0) a = true from iT h.1 a).mp c)]
    obtain ⟨e_a, t_a⟩ := tick h.1 c
    exact ⟨Or.inl ⟨congrArg Sum.inr (by rw [blockers_eq h.1 t_a]; exact bc_bits h.1.n20 (bl_hi h.1)), rfl⟩, Rl_i0 h 0⟩
  · rw [if_neg c, if_neg (fun q => c ((show fX0_hasTicket β a = true ↔ fX7_isTicket (sI μ 0 0) a = true from iT h.1 a).mpr q))]
    exact ⟨Or.inr ⟨rfl, rfl⟩, Rl_f h 1⟩
theorem sh_allNeedsByGoing : sH_allNeedsByGoing Rl := by
  intro β τ γ η σ θ μ a h
  unfold fX6_allNeedsByGoing fX7_allNeedsByGoing
  by_cases c : fX0_hasTicket β a = true
  · rw [if_pos c, if_pos ((show fX0_hasTicket β a = true ↔ fX7_isTicket (sI μ 0 0) a = true from iT h.1 a).mp c)]
    obtain ⟨e_a, t_a⟩ := tick h.1 c
    exact ⟨Or.inl ⟨congrArg Sum.inr (by rw [reached_eq h.1 t_a]; exact bc_bits h.1.n20 (allNeeds_hi h.1 t_a)), rfl⟩, Rl_i0 h 0⟩
  · rw [if_neg c, if_neg (fun q => c ((show fX0_hasTicket β a = true ↔ fX7_isTicket (sI μ 0 0) a = true from iT h.1 a).mpr q))]
    exact ⟨Or.inr ⟨rfl, rfl⟩, Rl_f h 1⟩
theorem sh_chainOf : sH_chainOf Rl := by
  intro β τ γ η σ θ μ a h
  unfold fX6_chainOf fX7_chainOf
  by_cases c : fX0_hasTicket β a = true
  · rw [if_pos c, if_pos ((show fX0_hasTicket β a = true ↔ fX7_isTicket (sI μ 0 0) a = true from iT h.1 a).mp c)]
    obtain ⟨e_a, t_a⟩ := tick h.1 c
    exact ⟨Or.inl ⟨congrArg Sum.inr (longest_eq (AL_row h.1 rfl : AL β (sI μ 0 0)) t_a), congrFun (cf_x8 (sI μ 0 0) _).1 0⟩, Rl_x (Rl_i0 h 0) (cf_x8 _ _) (by decide)⟩
  · rw [if_neg c, if_neg (fun q => c ((show fX0_hasTicket β a = true ↔ fX7_isTicket (sI μ 0 0) a = true from iT h.1 a).mpr q))]
    exact ⟨Or.inr ⟨rfl, rfl⟩, Rl_f h 1⟩
theorem sh_allNeedsByTable : sH_allNeedsByTable Rl := by
  intro β τ γ η σ θ μ a h
  unfold fX6_allNeedsByTable fX7_allNeedsByTable
  by_cases c : fX0_hasTicket β a = true
  · rw [if_pos c, if_pos ((iT h.1 a).mp c)]
    exact ⟨Or.inl ⟨congrArg Sum.inr (table_eq9 (γ := γ) (AL_row h.1 rfl : AL β (sI μ 0 0)) (tick h.1 c).2), rfl⟩, Rl_i0 h 0⟩
  · rw [if_neg c, if_neg (fun q => c ((iT h.1 a).mpr q))]
    exact ⟨Or.inr ⟨rfl, rfl⟩, Rl_f h 1⟩
theorem sh_capacityOf : sH_capacityOf Rl := by
  intro β τ γ η σ θ μ a h
  unfold fX6_capacityOf fX7_capacityOf
  by_cases c : fX6_isOwner a = true
  · rw [if_pos c, if_pos ((show fX6_isOwner a = true ↔ fX7_isOwner a = true from Iff.rfl).mp c)]
    obtain ⟨e_a, t_a⟩ := isOwner_i c
    exact ⟨Or.inl ⟨congrArg Sum.inr (h.1.b.2.1 _ t_a), rfl⟩, Rl_i0 h 0⟩
  · rw [if_neg c, if_neg (fun q => c ((show fX6_isOwner a = true ↔ fX7_isOwner a = true from Iff.rfl).mpr q))]
    exact ⟨Or.inr ⟨rfl, rfl⟩, Rl_f h 1⟩
theorem sh_loadByTickets : sH_loadByTickets Rl := by
  intro β τ γ η σ θ μ a h
  unfold fX6_loadByTickets fX7_loadByTickets
  by_cases c : fX6_isOwner a = true
  · rw [if_pos c, if_pos ((show fX6_isOwner a = true ↔ fX7_isOwner a = true from Iff.rfl).mp c)]
    exact ⟨Or.inl ⟨congrArg Sum.inr (load_eq h.1 a), rfl⟩, Rl_i0 h 0⟩
  · rw [if_neg c, if_neg (fun q => c ((show fX6_isOwner a = true ↔ fX7_isOwner a = true from Iff.rfl).mpr q))]
    exact ⟨Or.inr ⟨rfl, rfl⟩, Rl_f h 1⟩
theorem sh_loadByAccount : sH_loadByAccount Rl := by
  intro β τ γ η σ θ μ a h
  unfold fX6_loadByAccount fX7_loadByAccount
  by_cases c : fX6_isOwner a = true
  · rw [if_pos c, if_pos ((show fX6_isOwner a = true ↔ fX7_isOwner a = true from Iff.rfl).mp c)]
    obtain ⟨e_a, t_a⟩ := isOwner_i c
    exact ⟨Or.inl ⟨congrArg Sum.inr ((acct_eq h.1 t_a).trans (congrArg (fX7_load μ) e_a.symm)), rfl⟩, Rl_i0 h 0⟩
  · rw [if_neg c, if_neg (fun q => c ((show fX6_isOwner a = true ↔ fX7_isOwner a = true from Iff.rfl).mpr q))]
    exact ⟨Or.inr ⟨rfl, rfl⟩, Rl_f h 1⟩
theorem sh_inProgressOf : sH_inProgressOf Rl := by
  intro β τ γ η σ θ μ a h
  unfold fX6_inProgressOf fX7_inProgressOf
  by_cases c : fX6_isOwner a = true
  · rw [if_pos c, if_pos ((show fX6_isOwner a = true ↔ fX7_isOwner a = true from Iff.rfl).mp c)]
    exact ⟨Or.inl ⟨congrArg Sum.inr (inprog_eq h.1 a), rfl⟩, Rl_i0 h 0⟩
  · rw [if_neg c, if_neg (fun q => c ((show fX6_isOwner a = true ↔ fX7_isOwner a = true from Iff.rfl).mpr q))]
    exact ⟨Or.inr ⟨rfl, rfl⟩, Rl_f h 1⟩
theorem sh_donePointsOf : sH_donePointsOf Rl := by
  intro β τ γ η σ θ μ a h
  unfold fX6_donePointsOf fX7_donePointsOf
  by_cases c : fX6_isOwner a = true
  · rw [if_pos c, if_pos ((show fX6_isOwner a = true ↔ fX7_isOwner a = true from Iff.rfl).mp c)]
    exact ⟨Or.inl ⟨congrArg Sum.inr (doneBy_eq h.1 a), rfl⟩, Rl_i0 h 0⟩
  · rw [if_neg c, if_neg (fun q => c ((show fX6_isOwner a = true ↔ fX7_isOwner a = true from Iff.rfl).mpr q))]
    exact ⟨Or.inr ⟨rfl, rfl⟩, Rl_f h 1⟩
theorem sh_dateOf : sH_dateOf Rl := by
  intro β τ γ η σ θ μ a h
  unfold fX6_dateOf fX7_dateOf
  by_cases c : fX6_isMilestone a = true
  · rw [if_pos c, if_pos ((show fX6_isMilestone a = true ↔ fX7_isMilestone a = true from Iff.rfl).mp c)]
    obtain ⟨e_a, t_a⟩ := isMilestone_i c
    exact ⟨Or.inl ⟨congrArg Sum.inr (h.1.b.2.2.1 _ t_a), rfl⟩, Rl_i0 h 0⟩
  · rw [if_neg c, if_neg (fun q => c ((show fX6_isMilestone a = true ↔ fX7_isMilestone a = true from Iff.rfl).mpr q))]
    exact ⟨Or.inr ⟨rfl, rfl⟩, Rl_f h 1⟩
theorem sh_pointsLeft : sH_pointsLeft Rl := by
  intro β τ γ η σ θ μ a h
  unfold fX6_pointsLeft fX7_pointsLeft
  by_cases c : fX6_isMilestone a = true
  · rw [if_pos c, if_pos ((show fX6_isMilestone a = true ↔ fX7_isMilestone a = true from Iff.rfl).mp c)]
    exact ⟨Or.inl ⟨congrArg Sum.inr (leftFor_eq h.1 a), rfl⟩, Rl_i0 h 0⟩
  · rw [if_neg c, if_neg (fun q => c ((show fX6_isMilestone a = true ↔ fX7_isMilestone a = true from Iff.rfl).mpr q))]
    exact ⟨Or.inr ⟨rfl, rfl⟩, Rl_f h 1⟩
theorem sh_pointsDone : sH_pointsDone Rl := by
  intro β τ γ η σ θ μ a h
  unfold fX6_pointsDone fX7_pointsDone
  by_cases c : fX6_isMilestone a = true
  · rw [if_pos c, if_pos ((show fX6_isMilestone a = true ↔ fX7_isMilestone a = true from Iff.rfl).mp c)]
    exact ⟨Or.inl ⟨congrArg Sum.inr (doneFor_eq h.1 a), rfl⟩, Rl_i0 h 0⟩
  · rw [if_neg c, if_neg (fun q => c ((show fX6_isMilestone a = true ↔ fX7_isMilestone a = true from Iff.rfl).mpr q))]
    exact ⟨Or.inr ⟨rfl, rfl⟩, Rl_f h 1⟩
theorem sh_hundredthsDone : sH_hundredthsDone Rl := by
  intro β τ γ η σ θ μ a h
  unfold fX6_hundredthsDone fX7_hundredthsDone
  by_cases c : fX6_isMilestone a = true
  · rw [if_pos c, if_pos ((show fX6_isMilestone a = true ↔ fX7_isMilestone a = true from Iff.rfl).mp c)]
    exact ⟨Or.inl ⟨congrArg Sum.inr (hundr_eq h.1 a), rfl⟩, Rl_i0 h 0⟩
  · rw [if_neg c, if_neg (fun q => c ((show fX6_isMilestone a = true ↔ fX7_isMilestone a = true from Iff.rfl).mpr q))]
    exact ⟨Or.inr ⟨rfl, rfl⟩, Rl_f h 1⟩
theorem sh_misplanned : sH_misplanned Rl := by
  intro β τ γ η σ θ μ a h
  unfold fX6_misplanned fX7_misplanned
  by_cases c : fX6_isMilestone a = true
  · rw [if_pos c, if_pos ((show fX6_isMilestone a = true ↔ fX7_isMilestone a = true from Iff.rfl).mp c)]
    obtain ⟨e_a, t_a⟩ := isMilestone_i c
    exact ⟨Or.inl ⟨congrArg Sum.inr (mispl_eq h.1 t_a), rfl⟩, Rl_i0 h 0⟩
  · rw [if_neg c, if_neg (fun q => c ((show fX6_isMilestone a = true ↔ fX7_isMilestone a = true from Iff.rfl).mpr q))]
    exact ⟨Or.inr ⟨rfl, rfl⟩, Rl_f h 1⟩
theorem sh_withState : sH_withState Rl := by
  intro β τ γ η σ θ μ a h
  unfold fX6_withState fX7_withState
  by_cases c : fX6_within a 0 4 = true
  · rw [if_pos c, if_pos ((show fX6_within a 0 4 = true ↔ fX7_in a 0 4 = true from Iff.rfl).mp c)]
    exact ⟨Or.inl ⟨congrArg Sum.inr (withS_eq h.1 a), rfl⟩, Rl_i0 h 0⟩
  · rw [if_neg c, if_neg (fun q => c ((show fX6_within a 0 4 = true ↔ fX7_in a 0 4 = true from Iff.rfl).mpr q))]
    exact ⟨Or.inr ⟨rfl, rfl⟩, Rl_f h 1⟩
theorem sh_pointsWith : sH_pointsWith Rl := by
  intro β τ γ η σ θ μ a h
  unfold fX6_pointsWith fX7_pointsWith
  by_cases c : fX6_within a 0 4 = true
  · rw [if_pos c, if_pos ((show fX6_within a 0 4 = true ↔ fX7_in a 0 4 = true from Iff.rfl).mp c)]
    exact ⟨Or.inl ⟨congrArg Sum.inr (ptsS_eq h.1 a), rfl⟩, Rl_i0 h 0⟩
  · rw [if_neg c, if_neg (fun q => c ((show fX6_within a 0 4 = true ↔ fX7_in a 0 4 = true from Iff.rfl).mpr q))]
    exact ⟨Or.inr ⟨rfl, rfl⟩, Rl_f h 1⟩
theorem sh_isLate : sH_isLate Rl := by
  intro β τ γ η σ θ μ a h
  unfold fX6_isLate fX7_isLate
  by_cases c : fX6_isMilestone a = true
  · rw [if_pos c, if_pos (show fX7_isMilestone a = true from c)]
    exact ⟨Or.inl ⟨congrArg Sum.inr (late_eq h.1 (isMilestone_i c).2), rfl⟩, Rl_i0 h 0⟩
  · rw [if_neg c, if_neg (show ¬ fX7_isMilestone a = true from c)]
    rw [if_pos (show (fX7_fails (sI μ 0 0) 1).1 ≤ 0 from Int32.le_refl _)]
    exact ⟨Or.inr ⟨rfl, rfl⟩, Rl_f h 1⟩
theorem sh_isBlocked : sH_isBlocked Rl := by
  intro β τ γ η σ θ μ a h
  unfold fX6_isBlocked fX7_isBlocked
  by_cases c : fX0_hasTicket β a = true
  · rw [if_pos c, if_pos ((iT h.1 a).mp c), blockers_eq h.1 (tick h.1 c).2]
    by_cases c2 : fX7_blockers μ a.toNatClampNeg = 0
    · rw [if_pos c2, if_pos (show fX7_blockers (sI μ 0 0) a.toNatClampNeg = 0 from c2)]
      exact ⟨Or.inl ⟨rfl, rfl⟩, Rl_i0 h 0⟩
    · rw [if_neg c2, if_neg (show ¬ fX7_blockers (sI μ 0 0) a.toNatClampNeg = 0 from c2)]
      exact ⟨Or.inl ⟨rfl, rfl⟩, Rl_i0 h 0⟩
  · rw [if_neg c, if_neg (fun q => c ((iT h.1 a).mpr q))]
    rw [if_pos (show (fX7_fails (sI μ 0 0) 1).1 ≤ 0 from Int32.le_refl _)]
    exact ⟨Or.inr ⟨rfl, rfl⟩, Rl_f h 1⟩
theorem sh_needs : sH_needs Rl := by
  intro β τ γ η σ θ μ a b h
  unfold fX6_needs fX7_needs
  by_cases c : fX0_hasTicket β a = true
  · rw [if_pos c, if_pos ((iT h.1 a).mp c)]
    by_cases c2 : fX0_hasTicket β b = true
    · rw [if_pos c2, if_pos ((iT h.1 b).mp c2)]
      obtain ⟨e_b, t_b⟩ := tick h.1 c2
      refine ⟨Or.inl ⟨congrArg Sum.inr (Bool.eq_iff_iff.mpr (iNd h.1 (tick h.1 c).2 t_b e_b)), rfl⟩, Rl_i0 h 0⟩
    · rw [if_neg c2, if_neg (fun q => c2 ((iT h.1 b).mpr q))]
      rw [if_pos (show (fX7_fails (sI μ 0 0) 1).1 ≤ 0 from Int32.le_refl _)]
      exact ⟨Or.inr ⟨rfl, rfl⟩, Rl_f h 1⟩
  · rw [if_neg c, if_neg (fun q => c ((iT h.1 a).mpr q))]
    rw [if_pos (show (fX7_fails (sI μ 0 0) 1).1 ≤ 0 from Int32.le_refl _)]
    exact ⟨Or.inr ⟨rfl, rfl⟩, Rl_f h 1⟩
theorem sh_hasOwner : sH_hasOwner Rl := by
  intro β τ γ η σ θ μ a h
  unfold fX6_hasOwner fX7_hasOwner fX7_tells
  by_cases c : fX0_hasTicket β a = true
  · rw [if_pos c, if_pos ((iT h.1 a).mp c)]
    rcases own_cases h.1 (tick h.1 c).2 with ⟨e1, e2⟩ | ⟨o, ho, e1, e2⟩
    · rw [if_pos e1, if_pos (show fX7_of (sI μ 0 0) a.toNatClampNeg 3 ≤ 0 from Int32.le_of_eq e2)]
      exact ⟨Or.inl ⟨rfl, rfl⟩, Rl_i0 h 0⟩
    · rw [if_neg (show ¬ β.2 3 a.toNatClampNeg = -1 from fun q => nI_m1 (o := o) (by omega) (e1.symm.trans q)), if_neg (show ¬ fX7_of (sI μ 0 0) a.toNatClampNeg 3 ≤ 0 from fun q => not_le0 (o := o) (by omega) (e2 ▸ q))]
      exact ⟨Or.inl ⟨rfl, rfl⟩, Rl_i0 h 0⟩
  · rw [if_neg c, if_neg (fun q => c ((iT h.1 a).mpr q)), if_pos (show (fX7_fails (sI μ 0 0) 1).1 ≤ 0 from Int32.le_refl _)]
    exact ⟨Or.inr ⟨rfl, rfl⟩, Rl_f h 1⟩
theorem sh_isPlanned : sH_isPlanned Rl := by
  intro β τ γ η σ θ μ a h
  unfold fX6_isPlanned fX7_isPlanned fX7_tells
  by_cases c : fX0_hasTicket β a = true
  · rw [if_pos c, if_pos ((iT h.1 a).mp c)]
    rcases mil_cases h.1 (tick h.1 c).2 with ⟨e1, e2⟩ | ⟨o, ho, e1, e2⟩
    · rw [if_pos e1, if_pos (show fX7_of (sI μ 0 0) a.toNatClampNeg 4 ≤ 0 from Int32.le_of_eq e2)]
      exact ⟨Or.inl ⟨rfl, rfl⟩, Rl_i0 h 0⟩
    · rw [if_neg (show ¬ β.2 4 a.toNatClampNeg = -1 from fun q => nI_m1 (o := o) (by omega) (e1.symm.trans q)), if_neg (show ¬ fX7_of (sI μ 0 0) a.toNatClampNeg 4 ≤ 0 from fun q => not_le0 (o := o) (by omega) (e2 ▸ q))]
      exact ⟨Or.inl ⟨rfl, rfl⟩, Rl_i0 h 0⟩
  · rw [if_neg c, if_neg (fun q => c ((iT h.1 a).mpr q)), if_pos (show (fX7_fails (sI μ 0 0) 1).1 ≤ 0 from Int32.le_refl _)]
    exact ⟨Or.inr ⟨rfl, rfl⟩, Rl_f h 1⟩
theorem sh_ownerOf : sH_ownerOf Rl := by
  intro β τ γ η σ θ μ a h
  unfold fX6_ownerOf fX7_ownerOf fX7_tells
  by_cases c : fX0_hasTicket β a = true
  · rw [if_pos c, if_pos ((iT h.1 a).mp c), if_pos (show (sI μ 0 0).1 0 ≤ 0 from Int32.le_refl _)]
    rcases own_cases h.1 (tick h.1 c).2 with ⟨e1, e2⟩ | ⟨o, ho, e1, e2⟩
    · rw [if_pos e1, if_pos (show fX7_of (sI μ 0 0) a.toNatClampNeg 3 = 0 from e2)]
      exact ⟨Or.inr (Or.inr ⟨rfl, rfl⟩), Rl_f h 2⟩
    · rw [if_neg (show ¬ β.2 3 a.toNatClampNeg = -1 from fun q => nI_m1 (o := o) (by omega) (e1.symm.trans q)), if_neg (show ¬ fX7_of (sI μ 0 0) a.toNatClampNeg 3 = 0 from fun q => nI_ne0 (n := o + 1) (by omega) (by omega) (e2.symm.trans q))]
      refine ⟨Or.inl ⟨congrArg Sum.inr ?_, rfl⟩, Rl_i0 h 0⟩
      show β.2 3 a.toNatClampNeg = fX7_of μ a.toNatClampNeg 3 - 1
      rw [e1, e2, nI_pred]
  · rw [if_neg c, if_neg (fun q => c ((iT h.1 a).mpr q)), if_neg (show ¬ (fX7_fails (sI μ 0 0) 1).2.1 0 ≤ 0 from (by decide : ¬ (1 : Int32) ≤ 0))]
    exact ⟨Or.inr (Or.inl ⟨rfl, rfl⟩), Rl_f h 1⟩
theorem sh_milestoneOf : sH_milestoneOf Rl := by
  intro β τ γ η σ θ μ a h
  unfold fX6_milestoneOf fX7_milestoneOf fX7_tells
  by_cases c : fX0_hasTicket β a = true
  · rw [if_pos c, if_pos ((iT h.1 a).mp c), if_pos (show (sI μ 0 0).1 0 ≤ 0 from Int32.le_refl _)]
    rcases mil_cases h.1 (tick h.1 c).2 with ⟨e1, e2⟩ | ⟨o, ho, e1, e2⟩
    · rw [if_pos e1, if_pos (show fX7_of (sI μ 0 0) a.toNatClampNeg 4 = 0 from e2)]
      exact ⟨Or.inr (Or.inr ⟨rfl, rfl⟩), Rl_f h 2⟩
    · rw [if_neg (show ¬ β.2 4 a.toNatClampNeg = -1 from fun q => nI_m1 (o := o) (by omega) (e1.symm.trans q)), if_neg (show ¬ fX7_of (sI μ 0 0) a.toNatClampNeg 4 = 0 from fun q => nI_ne0 (n := o + 1) (by omega) (by omega) (e2.symm.trans q))]
      refine ⟨Or.inl ⟨congrArg Sum.inr ?_, rfl⟩, Rl_i0 h 0⟩
      show β.2 4 a.toNatClampNeg = fX7_of μ a.toNatClampNeg 4 - 1
      rw [e1, e2, nI_pred]
  · rw [if_neg c, if_neg (fun q => c ((iT h.1 a).mpr q)), if_neg (show ¬ (fX7_fails (sI μ 0 0) 1).2.1 0 ≤ 0 from (by decide : ¬ (1 : Int32) ≤ 0))]
    exact ⟨Or.inr (Or.inl ⟨rfl, rfl⟩), Rl_f h 1⟩
theorem sh_closedOn : sH_closedOn Rl := by
  intro β τ γ η σ θ μ a h
  unfold fX6_closedOn fX7_closedOn fX7_tells
  by_cases c : fX0_hasTicket β a = true
  · rw [if_pos c, if_pos ((iT h.1 a).mp c), if_pos (show (sI μ 0 0).1 0 ≤ 0 from Int32.le_refl _)]
    have e := h.1.st (tick h.1 c).2
    by_cases c2 : β.2 0 a.toNatClampNeg = 3
    · rw [if_pos c2, if_pos (show fX7_of (sI μ 0 0) a.toNatClampNeg 2 = 3 from e.symm.trans c2)]
      exact ⟨Or.inl ⟨congrArg Sum.inr (h.1.cl (tick h.1 c).2 (e.symm.trans c2)), rfl⟩, Rl_i0 h 0⟩
    · rw [if_neg c2, if_neg (show ¬ fX7_of (sI μ 0 0) a.toNatClampNeg 2 = 3 from fun q => c2 (e.trans q))]
      exact ⟨Or.inr (Or.inr ⟨rfl, rfl⟩), Rl_f h 2⟩
  · rw [if_neg c, if_neg (fun q => c ((iT h.1 a).mpr q)), if_neg (show ¬ (fX7_fails (sI μ 0 0) 1).2.1 0 ≤ 0 from (by decide : ¬ (1 : Int32) ≤ 0))]
    exact ⟨Or.inr (Or.inl ⟨rfl, rfl⟩), Rl_f h 1⟩
theorem sh_nextToDo : sH_nextToDo Rl := by
  intro β τ γ η σ θ μ h
  unfold fX6_nextToDo fX7_nextToDo
  rw [next_eq h.1]
  by_cases c : fX7_next μ = -1
  · rw [if_pos c, if_pos (show fX7_next (sI μ 0 0) = -1 from c)]
    exact ⟨Or.inr ⟨rfl, rfl⟩, Rl_f h 1⟩
  · rw [if_neg c, if_neg (show ¬ fX7_next (sI μ 0 0) = -1 from c)]
    exact ⟨Or.inl ⟨rfl, rfl⟩, Rl_i0 h 0⟩
theorem ord_n {μ : BS} : ∀ (d i : Nat) (y : Int32 × BS), d + i ≤ 21 → i ≤ 20 → ∃ k : Nat, k ≤ 20 ∧ (fX7_tellsOrder_R7 μ d i y).1 = nI k := by
  intro d
  induction d with
  | zero => intro i y h1 h2; exact ⟨0, by omega, rfl⟩
  | succ d ih =>
    intro i y h1 h2
    rw [fX7_tellsOrder_R7]
    split
    · exact ⟨i, h2, rfl⟩
    · rcases Nat.lt_or_ge i 20 with q | q
      · exact ih (i + 1) _ (by omega) (by omega)
      · have : d = 0 := by omega
        subst this
        exact ⟨0, by omega, rfl⟩
theorem sh_closedAt : sH_closedAt Rl := by
  intro β τ γ η σ θ μ a h
  have h1 : AL β (sI μ 0 0) := AL_row h.1 rfl
  obtain ⟨-, o1, o2⟩ := order_eq (γ := γ) h1
  have hx : Rl β η θ σ (fX7_tellsOrder (sI μ 0 0)).2 := Rl_x (Rl_i0 h 0) (tells_x7 _) (by decide)
  obtain ⟨k, hk, ek⟩ : ∃ k : Nat, k ≤ 20 ∧ (fX7_tellsOrder (sI μ 0 0)).1 = nI k := ord_n 21 0 _ (by omega) (by omega)
  unfold fX6_closedAt fX7_closedAt
  rw [o1]
  by_cases c : fX6_within a 0 ((fX7_tellsOrder (sI μ 0 0)).1 - 1) = true
  · rw [if_pos c, if_pos (show fX7_in a 0 ((fX7_tellsOrder (sI μ 0 0)).1 - 1) = true from c)]
    have hp := within_pred ek hk c
    refine ⟨Or.inl ⟨congrArg Sum.inr (o2 _ ?_), ?_⟩, hx⟩
    · rw [ek, nI_clamp (by omega)]; exact hp.2
    · exact congrFun (tells_x7 (sI μ 0 0)).1 0
  · rw [if_neg c, if_neg (show ¬ fX7_in a 0 ((fX7_tellsOrder (sI μ 0 0)).1 - 1) = true from c)]
    exact ⟨Or.inr ⟨rfl, rfl⟩, Rl_i0 hx 1⟩
